/-- how many differ, of the reference -/
def sp_ce (bt bt0 : Nat → Int64) (s : Nat) : Nat → Nat → Int32 → Int32
  | 0, _, w => w
  | m + 1, i, w => sp_ce bt bt0 s m (i + 1) (if bt0 (s + i) = bt (s + i) then w + 0 else w + 1)
theorem zl_shS {bt1 bt4 : Nat → Int64} {s i t : Nat} (h : ∀ j, bt4 j = if s + i < j ∧ j ≤ s + t then bt1 (j - 1) else bt1 j) (h1 : 1 ≤ i) (h2 : i ≤ t) : ∀ j, vp_updL bt4 (s + i) (bt4 (s + i - 1)) j = if s + (i - 1) < j ∧ j ≤ s + t then bt1 (j - 1) else bt1 j := fun j => by
  by_cases e : j = s + i
  · rw [e, pk_uLs, if_pos (by omega), h, if_neg (by omega)]
  · rw [pk_uLn e, h j]
    by_cases c : s + i < j ∧ j ≤ s + t
    · rw [if_pos c, if_pos (by omega)]
    · rw [if_neg c, if_neg (by omega)]
theorem zl_shE {bt1 bt4 : Nat → Int64} {s i t : Nat} (h : ∀ j, bt4 j = if s + i < j ∧ j ≤ s + t then bt1 (j - 1) else bt1 j) : vp_updL bt4 (s + i) (bt1 (s + t)) = zz_ins bt1 (s + i) (s + t) := by
  funext j
  unfold zz_ins
  by_cases e : j = s + i
  · rw [e, pk_uLs, if_pos rfl]
  · rw [pk_uLn e, if_neg e, h j]
theorem zl_psS {R : Int64 → Int64} {bt : Nat → Int64} {f i : Nat} {rv : Int64} (h1 : ¬ i ≤ f) (h2 : ¬ R (bt (i - 1)) ≤ rv) : zz_ps R bt f rv i = zz_ps R bt f rv (i - 1) := by
  obtain ⟨m, rfl⟩ : ∃ m, i = m + 1 := ⟨i - 1, by omega⟩
  rw [Nat.add_sub_cancel] at h2 ⊢
  rw [zz_ps, if_neg h1, if_neg h2]
theorem zl_psE {R : Int64 → Int64} {bt : Nat → Int64} {f i : Nat} {rv : Int64} (h : i ≤ f ∨ R (bt (i - 1)) ≤ rv) : zz_ps R bt f rv i = i := by
  cases i with
  | zero => rfl
  | succ m =>
    rw [zz_ps]
    by_cases c : m + 1 ≤ f
    · rw [if_pos c]
    · rw [if_neg c, if_pos (show R (bt m) ≤ rv from h.resolve_left c)]
theorem dg_X8_sort_0 : (decode cX8_sort 0 = .ok (.aload_n 0, 1)) ∧ (decode cX8_sort 1 = .ok (.iload_n 1, 1)) ∧ (decode cX8_sort 2 = .ok (.invokevirtual 200, 3)) ∧ (decode cX8_sort 5 = .ok (.ifCond .ne 7, 3)) ∧ (decode cX8_sort 8 = .ok (.iconst 5, 1)) ∧ (decode cX8_sort 9 = .ok (.goto 55, 3)) ∧ (decode cX8_sort 12 = .ok (.aload_n 0, 1)) ∧ (decode cX8_sort 13 = .ok (.getfield 13, 3)) ∧ (decode cX8_sort 16 = .ok (.iload_n 1, 1)) ∧ (decode cX8_sort 17 = .ok (.iaload, 1)) ∧ (decode cX8_sort 18 = .ok (.iconst 1, 1)) ∧ (decode cX8_sort 19 = .ok (.if_icmp .le 7, 3)) ∧ (decode cX8_sort 22 = .ok (.iconst 1, 1)) ∧ (decode cX8_sort 23 = .ok (.goto 41, 3)) ∧ (decode cX8_sort 26 = .ok (.iload_n 2, 1)) ∧ (decode cX8_sort 27 = .ok (.i2l, 1)) := by decide +kernel
theorem dX8_sort_0 : decode cX8_sort 0 = .ok (.aload_n 0, 1) := dg_X8_sort_0.1
theorem dX8_sort_1 : decode cX8_sort 1 = .ok (.iload_n 1, 1) := dg_X8_sort_0.2.1
theorem dX8_sort_2 : decode cX8_sort 2 = .ok (.invokevirtual 200, 3) := dg_X8_sort_0.2.2.1
theorem dX8_sort_5 : decode cX8_sort 5 = .ok (.ifCond .ne 7, 3) := dg_X8_sort_0.2.2.2.1
theorem dX8_sort_8 : decode cX8_sort 8 = .ok (.iconst 5, 1) := dg_X8_sort_0.2.2.2.2.1
theorem dX8_sort_9 : decode cX8_sort 9 = .ok (.goto 55, 3) := dg_X8_sort_0.2.2.2.2.2.1
theorem dX8_sort_12 : decode cX8_sort 12 = .ok (.aload_n 0, 1) := dg_X8_sort_0.2.2.2.2.2.2.1
theorem dX8_sort_13 : decode cX8_sort 13 = .ok (.getfield 13, 3) := dg_X8_sort_0.2.2.2.2.2.2.2.1
theorem dX8_sort_16 : decode cX8_sort 16 = .ok (.iload_n 1, 1) := dg_X8_sort_0.2.2.2.2.2.2.2.2.1
theorem dX8_sort_17 : decode cX8_sort 17 = .ok (.iaload, 1) := dg_X8_sort_0.2.2.2.2.2.2.2.2.2.1
theorem dX8_sort_18 : decode cX8_sort 18 = .ok (.iconst 1, 1) := dg_X8_sort_0.2.2.2.2.2.2.2.2.2.2.1
theorem dX8_sort_19 : decode cX8_sort 19 = .ok (.if_icmp .le 7, 3) := dg_X8_sort_0.2.2.2.2.2.2.2.2.2.2.2.1
theorem dX8_sort_22 : decode cX8_sort 22 = .ok (.iconst 1, 1) := dg_X8_sort_0.2.2.2.2.2.2.2.2.2.2.2.2.1
theorem dX8_sort_23 : decode cX8_sort 23 = .ok (.goto 41, 3) := dg_X8_sort_0.2.2.2.2.2.2.2.2.2.2.2.2.2.1
theorem dX8_sort_26 : decode cX8_sort 26 = .ok (.iload_n 2, 1) := dg_X8_sort_0.2.2.2.2.2.2.2.2.2.2.2.2.2.2.1
theorem dX8_sort_27 : decode cX8_sort 27 = .ok (.i2l, 1) := dg_X8_sort_0.2.2.2.2.2.2.2.2.2.2.2.2.2.2.2
theorem dg_X8_sort_28 : (decode cX8_sort 28 = .ok (.lconst 0, 1)) ∧ (decode cX8_sort 29 = .ok (.aload_n 0, 1)) ∧ (decode cX8_sort 30 = .ok (.getfield 16, 3)) ∧ (decode cX8_sort 33 = .ok (.iload_n 1, 1)) ∧ (decode cX8_sort 34 = .ok (.iaload, 1)) ∧ (decode cX8_sort 35 = .ok (.i2l, 1)) ∧ (decode cX8_sort 36 = .ok (.invokestatic 106, 3)) ∧ (decode cX8_sort 39 = .ok (.ifCond .eq 20, 3)) ∧ (decode cX8_sort 42 = .ok (.iload_n 3, 1)) ∧ (decode cX8_sort 43 = .ok (.i2l, 1)) ∧ (decode cX8_sort 44 = .ok (.iload_n 2, 1)) ∧ (decode cX8_sort 45 = .ok (.i2l, 1)) ∧ (decode cX8_sort 46 = .ok (.aload_n 0, 1)) ∧ (decode cX8_sort 47 = .ok (.getfield 16, 3)) ∧ (decode cX8_sort 50 = .ok (.iload_n 1, 1)) ∧ (decode cX8_sort 51 = .ok (.iaload, 1)) := by decide +kernel
theorem dX8_sort_28 : decode cX8_sort 28 = .ok (.lconst 0, 1) := dg_X8_sort_28.1
theorem dX8_sort_29 : decode cX8_sort 29 = .ok (.aload_n 0, 1) := dg_X8_sort_28.2.1
theorem dX8_sort_30 : decode cX8_sort 30 = .ok (.getfield 16, 3) := dg_X8_sort_28.2.2.1
theorem dX8_sort_33 : decode cX8_sort 33 = .ok (.iload_n 1, 1) := dg_X8_sort_28.2.2.2.1
theorem dX8_sort_34 : decode cX8_sort 34 = .ok (.iaload, 1) := dg_X8_sort_28.2.2.2.2.1
theorem dX8_sort_35 : decode cX8_sort 35 = .ok (.i2l, 1) := dg_X8_sort_28.2.2.2.2.2.1
theorem dX8_sort_36 : decode cX8_sort 36 = .ok (.invokestatic 106, 3) := dg_X8_sort_28.2.2.2.2.2.2.1
theorem dX8_sort_39 : decode cX8_sort 39 = .ok (.ifCond .eq 20, 3) := dg_X8_sort_28.2.2.2.2.2.2.2.1
theorem dX8_sort_42 : decode cX8_sort 42 = .ok (.iload_n 3, 1) := dg_X8_sort_28.2.2.2.2.2.2.2.2.1
theorem dX8_sort_43 : decode cX8_sort 43 = .ok (.i2l, 1) := dg_X8_sort_28.2.2.2.2.2.2.2.2.2.1
theorem dX8_sort_44 : decode cX8_sort 44 = .ok (.iload_n 2, 1) := dg_X8_sort_28.2.2.2.2.2.2.2.2.2.2.1
theorem dX8_sort_45 : decode cX8_sort 45 = .ok (.i2l, 1) := dg_X8_sort_28.2.2.2.2.2.2.2.2.2.2.2.1
theorem dX8_sort_46 : decode cX8_sort 46 = .ok (.aload_n 0, 1) := dg_X8_sort_28.2.2.2.2.2.2.2.2.2.2.2.2.1
theorem dX8_sort_47 : decode cX8_sort 47 = .ok (.getfield 16, 3) := dg_X8_sort_28.2.2.2.2.2.2.2.2.2.2.2.2.2.1
theorem dX8_sort_50 : decode cX8_sort 50 = .ok (.iload_n 1, 1) := dg_X8_sort_28.2.2.2.2.2.2.2.2.2.2.2.2.2.2.1
theorem dX8_sort_51 : decode cX8_sort 51 = .ok (.iaload, 1) := dg_X8_sort_28.2.2.2.2.2.2.2.2.2.2.2.2.2.2.2
theorem dg_X8_sort_52 : (decode cX8_sort 52 = .ok (.i2l, 1)) ∧ (decode cX8_sort 53 = .ok (.invokestatic 106, 3)) ∧ (decode cX8_sort 56 = .ok (.ifCond .ne 7, 3)) ∧ (decode cX8_sort 59 = .ok (.iconst 2, 1)) ∧ (decode cX8_sort 60 = .ok (.goto 4, 3)) ∧ (decode cX8_sort 63 = .ok (.iconst 0, 1)) ∧ (decode cX8_sort 64 = .ok (.istore 4, 2)) ∧ (decode cX8_sort 66 = .ok (.iload_n 2, 1)) ∧ (decode cX8_sort 67 = .ok (.istore 5, 2)) ∧ (decode cX8_sort 69 = .ok (.iload 5, 2)) ∧ (decode cX8_sort 71 = .ok (.iload_n 3, 1)) ∧ (decode cX8_sort 72 = .ok (.if_icmp .ge 39, 3)) ∧ (decode cX8_sort 75 = .ok (.iload 4, 2)) ∧ (decode cX8_sort 77 = .ok (.ifCond .ne 34, 3)) ∧ (decode cX8_sort 80 = .ok (.aload_n 0, 1)) ∧ (decode cX8_sort 81 = .ok (.getfield 29, 3)) := by decide +kernel
theorem dX8_sort_52 : decode cX8_sort 52 = .ok (.i2l, 1) := dg_X8_sort_52.1
theorem dX8_sort_53 : decode cX8_sort 53 = .ok (.invokestatic 106, 3) := dg_X8_sort_52.2.1
theorem dX8_sort_56 : decode cX8_sort 56 = .ok (.ifCond .ne 7, 3) := dg_X8_sort_52.2.2.1
theorem dX8_sort_59 : decode cX8_sort 59 = .ok (.iconst 2, 1) := dg_X8_sort_52.2.2.2.1
theorem dX8_sort_60 : decode cX8_sort 60 = .ok (.goto 4, 3) := dg_X8_sort_52.2.2.2.2.1
theorem dX8_sort_63 : decode cX8_sort 63 = .ok (.iconst 0, 1) := dg_X8_sort_52.2.2.2.2.2.1
theorem dX8_sort_64 : decode cX8_sort 64 = .ok (.istore 4, 2) := dg_X8_sort_52.2.2.2.2.2.2.1
theorem dX8_sort_66 : decode cX8_sort 66 = .ok (.iload_n 2, 1) := dg_X8_sort_52.2.2.2.2.2.2.2.1
theorem dX8_sort_67 : decode cX8_sort 67 = .ok (.istore 5, 2) := dg_X8_sort_52.2.2.2.2.2.2.2.2.1
theorem dX8_sort_69 : decode cX8_sort 69 = .ok (.iload 5, 2) := dg_X8_sort_52.2.2.2.2.2.2.2.2.2.1
theorem dX8_sort_71 : decode cX8_sort 71 = .ok (.iload_n 3, 1) := dg_X8_sort_52.2.2.2.2.2.2.2.2.2.2.1
theorem dX8_sort_72 : decode cX8_sort 72 = .ok (.if_icmp .ge 39, 3) := dg_X8_sort_52.2.2.2.2.2.2.2.2.2.2.2.1
theorem dX8_sort_75 : decode cX8_sort 75 = .ok (.iload 4, 2) := dg_X8_sort_52.2.2.2.2.2.2.2.2.2.2.2.2.1
theorem dX8_sort_77 : decode cX8_sort 77 = .ok (.ifCond .ne 34, 3) := dg_X8_sort_52.2.2.2.2.2.2.2.2.2.2.2.2.2.1
theorem dX8_sort_80 : decode cX8_sort 80 = .ok (.aload_n 0, 1) := dg_X8_sort_52.2.2.2.2.2.2.2.2.2.2.2.2.2.2.1
theorem dX8_sort_81 : decode cX8_sort 81 = .ok (.getfield 29, 3) := dg_X8_sort_52.2.2.2.2.2.2.2.2.2.2.2.2.2.2.2
theorem dg_X8_sort_84 : (decode cX8_sort 84 = .ok (.aload_n 0, 1)) ∧ (decode cX8_sort 85 = .ok (.getfield 22, 3)) ∧ (decode cX8_sort 88 = .ok (.iload_n 1, 1)) ∧ (decode cX8_sort 89 = .ok (.iaload, 1)) ∧ (decode cX8_sort 90 = .ok (.iload 5, 2)) ∧ (decode cX8_sort 92 = .ok (.iadd, 1)) ∧ (decode cX8_sort 93 = .ok (.baload, 1)) ∧ (decode cX8_sort 94 = .ok (.ifCond .eq 8, 3)) ∧ (decode cX8_sort 97 = .ok (.bipush 6, 2)) ∧ (decode cX8_sort 99 = .ok (.goto 4, 3)) ∧ (decode cX8_sort 102 = .ok (.iconst 0, 1)) ∧ (decode cX8_sort 103 = .ok (.istore 4, 2)) ∧ (decode cX8_sort 105 = .ok (.iinc 5 1, 3)) ∧ (decode cX8_sort 108 = .ok (.goto (-39), 3)) ∧ (decode cX8_sort 111 = .ok (.iload 4, 2)) ∧ (decode cX8_sort 113 = .ok (.ifCond .le 10, 3)) := by decide +kernel
theorem dX8_sort_84 : decode cX8_sort 84 = .ok (.aload_n 0, 1) := dg_X8_sort_84.1
theorem dX8_sort_85 : decode cX8_sort 85 = .ok (.getfield 22, 3) := dg_X8_sort_84.2.1
theorem dX8_sort_88 : decode cX8_sort 88 = .ok (.iload_n 1, 1) := dg_X8_sort_84.2.2.1
theorem dX8_sort_89 : decode cX8_sort 89 = .ok (.iaload, 1) := dg_X8_sort_84.2.2.2.1
theorem dX8_sort_90 : decode cX8_sort 90 = .ok (.iload 5, 2) := dg_X8_sort_84.2.2.2.2.1
theorem dX8_sort_92 : decode cX8_sort 92 = .ok (.iadd, 1) := dg_X8_sort_84.2.2.2.2.2.1
theorem dX8_sort_93 : decode cX8_sort 93 = .ok (.baload, 1) := dg_X8_sort_84.2.2.2.2.2.2.1
theorem dX8_sort_94 : decode cX8_sort 94 = .ok (.ifCond .eq 8, 3) := dg_X8_sort_84.2.2.2.2.2.2.2.1
theorem dX8_sort_97 : decode cX8_sort 97 = .ok (.bipush 6, 2) := dg_X8_sort_84.2.2.2.2.2.2.2.2.1
theorem dX8_sort_99 : decode cX8_sort 99 = .ok (.goto 4, 3) := dg_X8_sort_84.2.2.2.2.2.2.2.2.2.1
theorem dX8_sort_102 : decode cX8_sort 102 = .ok (.iconst 0, 1) := dg_X8_sort_84.2.2.2.2.2.2.2.2.2.2.1
theorem dX8_sort_103 : decode cX8_sort 103 = .ok (.istore 4, 2) := dg_X8_sort_84.2.2.2.2.2.2.2.2.2.2.2.1
theorem dX8_sort_105 : decode cX8_sort 105 = .ok (.iinc 5 1, 3) := dg_X8_sort_84.2.2.2.2.2.2.2.2.2.2.2.2.1
theorem dX8_sort_108 : decode cX8_sort 108 = .ok (.goto (-39), 3) := dg_X8_sort_84.2.2.2.2.2.2.2.2.2.2.2.2.2.1
theorem dX8_sort_111 : decode cX8_sort 111 = .ok (.iload 4, 2) := dg_X8_sort_84.2.2.2.2.2.2.2.2.2.2.2.2.2.2.1
theorem dX8_sort_113 : decode cX8_sort 113 = .ok (.ifCond .le 10, 3) := dg_X8_sort_84.2.2.2.2.2.2.2.2.2.2.2.2.2.2.2
theorem dg_X8_sort_116 : (decode cX8_sort 116 = .ok (.aload_n 0, 1)) ∧ (decode cX8_sort 117 = .ok (.iload 4, 2)) ∧ (decode cX8_sort 119 = .ok (.invokevirtual 175, 3)) ∧ (decode cX8_sort 122 = .ok (.ireturn, 1)) ∧ (decode cX8_sort 123 = .ok (.aload_n 0, 1)) ∧ (decode cX8_sort 124 = .ok (.getfield 22, 3)) ∧ (decode cX8_sort 127 = .ok (.iload_n 1, 1)) ∧ (decode cX8_sort 128 = .ok (.iaload, 1)) ∧ (decode cX8_sort 129 = .ok (.istore 5, 2)) ∧ (decode cX8_sort 131 = .ok (.iload_n 2, 1)) ∧ (decode cX8_sort 132 = .ok (.istore 6, 2)) ∧ (decode cX8_sort 134 = .ok (.iload 6, 2)) ∧ (decode cX8_sort 136 = .ok (.iload_n 3, 1)) ∧ (decode cX8_sort 137 = .ok (.if_icmp .ge 26, 3)) ∧ (decode cX8_sort 140 = .ok (.aload_n 0, 1)) ∧ (decode cX8_sort 141 = .ok (.getfield 48, 3)) := by decide +kernel
theorem dX8_sort_116 : decode cX8_sort 116 = .ok (.aload_n 0, 1) := dg_X8_sort_116.1
theorem dX8_sort_117 : decode cX8_sort 117 = .ok (.iload 4, 2) := dg_X8_sort_116.2.1
theorem dX8_sort_119 : decode cX8_sort 119 = .ok (.invokevirtual 175, 3) := dg_X8_sort_116.2.2.1
theorem dX8_sort_122 : decode cX8_sort 122 = .ok (.ireturn, 1) := dg_X8_sort_116.2.2.2.1
theorem dX8_sort_123 : decode cX8_sort 123 = .ok (.aload_n 0, 1) := dg_X8_sort_116.2.2.2.2.1
theorem dX8_sort_124 : decode cX8_sort 124 = .ok (.getfield 22, 3) := dg_X8_sort_116.2.2.2.2.2.1
theorem dX8_sort_127 : decode cX8_sort 127 = .ok (.iload_n 1, 1) := dg_X8_sort_116.2.2.2.2.2.2.1
theorem dX8_sort_128 : decode cX8_sort 128 = .ok (.iaload, 1) := dg_X8_sort_116.2.2.2.2.2.2.2.1
theorem dX8_sort_129 : decode cX8_sort 129 = .ok (.istore 5, 2) := dg_X8_sort_116.2.2.2.2.2.2.2.2.1
theorem dX8_sort_131 : decode cX8_sort 131 = .ok (.iload_n 2, 1) := dg_X8_sort_116.2.2.2.2.2.2.2.2.2.1
theorem dX8_sort_132 : decode cX8_sort 132 = .ok (.istore 6, 2) := dg_X8_sort_116.2.2.2.2.2.2.2.2.2.2.1
theorem dX8_sort_134 : decode cX8_sort 134 = .ok (.iload 6, 2) := dg_X8_sort_116.2.2.2.2.2.2.2.2.2.2.2.1
theorem dX8_sort_136 : decode cX8_sort 136 = .ok (.iload_n 3, 1) := dg_X8_sort_116.2.2.2.2.2.2.2.2.2.2.2.2.1
theorem dX8_sort_137 : decode cX8_sort 137 = .ok (.if_icmp .ge 26, 3) := dg_X8_sort_116.2.2.2.2.2.2.2.2.2.2.2.2.2.1
theorem dX8_sort_140 : decode cX8_sort 140 = .ok (.aload_n 0, 1) := dg_X8_sort_116.2.2.2.2.2.2.2.2.2.2.2.2.2.2.1
theorem dX8_sort_141 : decode cX8_sort 141 = .ok (.getfield 48, 3) := dg_X8_sort_116.2.2.2.2.2.2.2.2.2.2.2.2.2.2.2
theorem dg_X8_sort_144 : (decode cX8_sort 144 = .ok (.iload 6, 2)) ∧ (decode cX8_sort 146 = .ok (.aload_n 0, 1)) ∧ (decode cX8_sort 147 = .ok (.getfield 25, 3)) ∧ (decode cX8_sort 150 = .ok (.iload 5, 2)) ∧ (decode cX8_sort 152 = .ok (.iload 6, 2)) ∧ (decode cX8_sort 154 = .ok (.iadd, 1)) ∧ (decode cX8_sort 155 = .ok (.laload, 1)) ∧ (decode cX8_sort 156 = .ok (.lastore, 1)) ∧ (decode cX8_sort 157 = .ok (.iinc 6 1, 3)) ∧ (decode cX8_sort 160 = .ok (.goto (-26), 3)) ∧ (decode cX8_sort 163 = .ok (.iload_n 2, 1)) ∧ (decode cX8_sort 164 = .ok (.iconst 1, 1)) ∧ (decode cX8_sort 165 = .ok (.iadd, 1)) ∧ (decode cX8_sort 166 = .ok (.istore 6, 2)) ∧ (decode cX8_sort 168 = .ok (.iload 6, 2)) ∧ (decode cX8_sort 170 = .ok (.iload_n 3, 1)) := by decide +kernel
theorem dX8_sort_144 : decode cX8_sort 144 = .ok (.iload 6, 2) := dg_X8_sort_144.1
theorem dX8_sort_146 : decode cX8_sort 146 = .ok (.aload_n 0, 1) := dg_X8_sort_144.2.1
theorem dX8_sort_147 : decode cX8_sort 147 = .ok (.getfield 25, 3) := dg_X8_sort_144.2.2.1
theorem dX8_sort_150 : decode cX8_sort 150 = .ok (.iload 5, 2) := dg_X8_sort_144.2.2.2.1
theorem dX8_sort_152 : decode cX8_sort 152 = .ok (.iload 6, 2) := dg_X8_sort_144.2.2.2.2.1
theorem dX8_sort_154 : decode cX8_sort 154 = .ok (.iadd, 1) := dg_X8_sort_144.2.2.2.2.2.1
theorem dX8_sort_155 : decode cX8_sort 155 = .ok (.laload, 1) := dg_X8_sort_144.2.2.2.2.2.2.1
theorem dX8_sort_156 : decode cX8_sort 156 = .ok (.lastore, 1) := dg_X8_sort_144.2.2.2.2.2.2.2.1
theorem dX8_sort_157 : decode cX8_sort 157 = .ok (.iinc 6 1, 3) := dg_X8_sort_144.2.2.2.2.2.2.2.2.1
theorem dX8_sort_160 : decode cX8_sort 160 = .ok (.goto (-26), 3) := dg_X8_sort_144.2.2.2.2.2.2.2.2.2.1
theorem dX8_sort_163 : decode cX8_sort 163 = .ok (.iload_n 2, 1) := dg_X8_sort_144.2.2.2.2.2.2.2.2.2.2.1
theorem dX8_sort_164 : decode cX8_sort 164 = .ok (.iconst 1, 1) := dg_X8_sort_144.2.2.2.2.2.2.2.2.2.2.2.1
theorem dX8_sort_165 : decode cX8_sort 165 = .ok (.iadd, 1) := dg_X8_sort_144.2.2.2.2.2.2.2.2.2.2.2.2.1
theorem dX8_sort_166 : decode cX8_sort 166 = .ok (.istore 6, 2) := dg_X8_sort_144.2.2.2.2.2.2.2.2.2.2.2.2.2.1
theorem dX8_sort_168 : decode cX8_sort 168 = .ok (.iload 6, 2) := dg_X8_sort_144.2.2.2.2.2.2.2.2.2.2.2.2.2.2.1
theorem dX8_sort_170 : decode cX8_sort 170 = .ok (.iload_n 3, 1) := dg_X8_sort_144.2.2.2.2.2.2.2.2.2.2.2.2.2.2.2
theorem dg_X8_sort_171 : (decode cX8_sort 171 = .ok (.if_icmp .ge 107, 3)) ∧ (decode cX8_sort 174 = .ok (.aload_n 0, 1)) ∧ (decode cX8_sort 175 = .ok (.getfield 25, 3)) ∧ (decode cX8_sort 178 = .ok (.iload 5, 2)) ∧ (decode cX8_sort 180 = .ok (.iload 6, 2)) ∧ (decode cX8_sort 182 = .ok (.iadd, 1)) ∧ (decode cX8_sort 183 = .ok (.laload, 1)) ∧ (decode cX8_sort 184 = .ok (.lstore 7, 2)) ∧ (decode cX8_sort 186 = .ok (.iload 6, 2)) ∧ (decode cX8_sort 188 = .ok (.istore 9, 2)) ∧ (decode cX8_sort 190 = .ok (.iload 9, 2)) ∧ (decode cX8_sort 192 = .ok (.iload_n 2, 1)) ∧ (decode cX8_sort 193 = .ok (.if_icmp .le 67, 3)) ∧ (decode cX8_sort 196 = .ok (.aload_n 0, 1)) ∧ (decode cX8_sort 197 = .ok (.getfield 7, 3)) ∧ (decode cX8_sort 200 = .ok (.iload_n 1, 1)) := by decide +kernel
theorem dX8_sort_171 : decode cX8_sort 171 = .ok (.if_icmp .ge 107, 3) := dg_X8_sort_171.1
theorem dX8_sort_174 : decode cX8_sort 174 = .ok (.aload_n 0, 1) := dg_X8_sort_171.2.1
theorem dX8_sort_175 : decode cX8_sort 175 = .ok (.getfield 25, 3) := dg_X8_sort_171.2.2.1
theorem dX8_sort_178 : decode cX8_sort 178 = .ok (.iload 5, 2) := dg_X8_sort_171.2.2.2.1
theorem dX8_sort_180 : decode cX8_sort 180 = .ok (.iload 6, 2) := dg_X8_sort_171.2.2.2.2.1
theorem dX8_sort_182 : decode cX8_sort 182 = .ok (.iadd, 1) := dg_X8_sort_171.2.2.2.2.2.1
theorem dX8_sort_183 : decode cX8_sort 183 = .ok (.laload, 1) := dg_X8_sort_171.2.2.2.2.2.2.1
theorem dX8_sort_184 : decode cX8_sort 184 = .ok (.lstore 7, 2) := dg_X8_sort_171.2.2.2.2.2.2.2.1
theorem dX8_sort_186 : decode cX8_sort 186 = .ok (.iload 6, 2) := dg_X8_sort_171.2.2.2.2.2.2.2.2.1
theorem dX8_sort_188 : decode cX8_sort 188 = .ok (.istore 9, 2) := dg_X8_sort_171.2.2.2.2.2.2.2.2.2.1
theorem dX8_sort_190 : decode cX8_sort 190 = .ok (.iload 9, 2) := dg_X8_sort_171.2.2.2.2.2.2.2.2.2.2.1
theorem dX8_sort_192 : decode cX8_sort 192 = .ok (.iload_n 2, 1) := dg_X8_sort_171.2.2.2.2.2.2.2.2.2.2.2.1
theorem dX8_sort_193 : decode cX8_sort 193 = .ok (.if_icmp .le 67, 3) := dg_X8_sort_171.2.2.2.2.2.2.2.2.2.2.2.2.1
theorem dX8_sort_196 : decode cX8_sort 196 = .ok (.aload_n 0, 1) := dg_X8_sort_171.2.2.2.2.2.2.2.2.2.2.2.2.2.1
theorem dX8_sort_197 : decode cX8_sort 197 = .ok (.getfield 7, 3) := dg_X8_sort_171.2.2.2.2.2.2.2.2.2.2.2.2.2.2.1
theorem dX8_sort_200 : decode cX8_sort 200 = .ok (.iload_n 1, 1) := dg_X8_sort_171.2.2.2.2.2.2.2.2.2.2.2.2.2.2.2
theorem dg_X8_sort_201 : (decode cX8_sort 201 = .ok (.iaload, 1)) ∧ (decode cX8_sort 202 = .ok (.aload_n 0, 1)) ∧ (decode cX8_sort 203 = .ok (.getfield 25, 3)) ∧ (decode cX8_sort 206 = .ok (.iload 5, 2)) ∧ (decode cX8_sort 208 = .ok (.iload 9, 2)) ∧ (decode cX8_sort 210 = .ok (.iadd, 1)) ∧ (decode cX8_sort 211 = .ok (.iconst 1, 1)) ∧ (decode cX8_sort 212 = .ok (.isub, 1)) ∧ (decode cX8_sort 213 = .ok (.laload, 1)) ∧ (decode cX8_sort 214 = .ok (.invokestatic 239, 3)) ∧ (decode cX8_sort 217 = .ok (.aload_n 0, 1)) ∧ (decode cX8_sort 218 = .ok (.getfield 7, 3)) ∧ (decode cX8_sort 221 = .ok (.iload_n 1, 1)) ∧ (decode cX8_sort 222 = .ok (.iaload, 1)) ∧ (decode cX8_sort 223 = .ok (.lload 7, 2)) ∧ (decode cX8_sort 225 = .ok (.invokestatic 239, 3)) := by decide +kernel
theorem dX8_sort_201 : decode cX8_sort 201 = .ok (.iaload, 1) := dg_X8_sort_201.1
theorem dX8_sort_202 : decode cX8_sort 202 = .ok (.aload_n 0, 1) := dg_X8_sort_201.2.1
theorem dX8_sort_203 : decode cX8_sort 203 = .ok (.getfield 25, 3) := dg_X8_sort_201.2.2.1
theorem dX8_sort_206 : decode cX8_sort 206 = .ok (.iload 5, 2) := dg_X8_sort_201.2.2.2.1
theorem dX8_sort_208 : decode cX8_sort 208 = .ok (.iload 9, 2) := dg_X8_sort_201.2.2.2.2.1
theorem dX8_sort_210 : decode cX8_sort 210 = .ok (.iadd, 1) := dg_X8_sort_201.2.2.2.2.2.1
theorem dX8_sort_211 : decode cX8_sort 211 = .ok (.iconst 1, 1) := dg_X8_sort_201.2.2.2.2.2.2.1
theorem dX8_sort_212 : decode cX8_sort 212 = .ok (.isub, 1) := dg_X8_sort_201.2.2.2.2.2.2.2.1
theorem dX8_sort_213 : decode cX8_sort 213 = .ok (.laload, 1) := dg_X8_sort_201.2.2.2.2.2.2.2.2.1
theorem dX8_sort_214 : decode cX8_sort 214 = .ok (.invokestatic 239, 3) := dg_X8_sort_201.2.2.2.2.2.2.2.2.2.1
theorem dX8_sort_217 : decode cX8_sort 217 = .ok (.aload_n 0, 1) := dg_X8_sort_201.2.2.2.2.2.2.2.2.2.2.1
theorem dX8_sort_218 : decode cX8_sort 218 = .ok (.getfield 7, 3) := dg_X8_sort_201.2.2.2.2.2.2.2.2.2.2.2.1
theorem dX8_sort_221 : decode cX8_sort 221 = .ok (.iload_n 1, 1) := dg_X8_sort_201.2.2.2.2.2.2.2.2.2.2.2.2.1
theorem dX8_sort_222 : decode cX8_sort 222 = .ok (.iaload, 1) := dg_X8_sort_201.2.2.2.2.2.2.2.2.2.2.2.2.2.1
theorem dX8_sort_223 : decode cX8_sort 223 = .ok (.lload 7, 2) := dg_X8_sort_201.2.2.2.2.2.2.2.2.2.2.2.2.2.2.1
theorem dX8_sort_225 : decode cX8_sort 225 = .ok (.invokestatic 239, 3) := dg_X8_sort_201.2.2.2.2.2.2.2.2.2.2.2.2.2.2.2
theorem dg_X8_sort_228 : (decode cX8_sort 228 = .ok (.lcmp, 1)) ∧ (decode cX8_sort 229 = .ok (.ifCond .le 31, 3)) ∧ (decode cX8_sort 232 = .ok (.aload_n 0, 1)) ∧ (decode cX8_sort 233 = .ok (.getfield 25, 3)) ∧ (decode cX8_sort 236 = .ok (.iload 5, 2)) ∧ (decode cX8_sort 238 = .ok (.iload 9, 2)) ∧ (decode cX8_sort 240 = .ok (.iadd, 1)) ∧ (decode cX8_sort 241 = .ok (.aload_n 0, 1)) ∧ (decode cX8_sort 242 = .ok (.getfield 25, 3)) ∧ (decode cX8_sort 245 = .ok (.iload 5, 2)) ∧ (decode cX8_sort 247 = .ok (.iload 9, 2)) ∧ (decode cX8_sort 249 = .ok (.iadd, 1)) ∧ (decode cX8_sort 250 = .ok (.iconst 1, 1)) ∧ (decode cX8_sort 251 = .ok (.isub, 1)) ∧ (decode cX8_sort 252 = .ok (.laload, 1)) ∧ (decode cX8_sort 253 = .ok (.lastore, 1)) := by decide +kernel
theorem dX8_sort_228 : decode cX8_sort 228 = .ok (.lcmp, 1) := dg_X8_sort_228.1
theorem dX8_sort_229 : decode cX8_sort 229 = .ok (.ifCond .le 31, 3) := dg_X8_sort_228.2.1
theorem dX8_sort_232 : decode cX8_sort 232 = .ok (.aload_n 0, 1) := dg_X8_sort_228.2.2.1
theorem dX8_sort_233 : decode cX8_sort 233 = .ok (.getfield 25, 3) := dg_X8_sort_228.2.2.2.1
theorem dX8_sort_236 : decode cX8_sort 236 = .ok (.iload 5, 2) := dg_X8_sort_228.2.2.2.2.1
theorem dX8_sort_238 : decode cX8_sort 238 = .ok (.iload 9, 2) := dg_X8_sort_228.2.2.2.2.2.1
theorem dX8_sort_240 : decode cX8_sort 240 = .ok (.iadd, 1) := dg_X8_sort_228.2.2.2.2.2.2.1
theorem dX8_sort_241 : decode cX8_sort 241 = .ok (.aload_n 0, 1) := dg_X8_sort_228.2.2.2.2.2.2.2.1
theorem dX8_sort_242 : decode cX8_sort 242 = .ok (.getfield 25, 3) := dg_X8_sort_228.2.2.2.2.2.2.2.2.1
theorem dX8_sort_245 : decode cX8_sort 245 = .ok (.iload 5, 2) := dg_X8_sort_228.2.2.2.2.2.2.2.2.2.1
theorem dX8_sort_247 : decode cX8_sort 247 = .ok (.iload 9, 2) := dg_X8_sort_228.2.2.2.2.2.2.2.2.2.2.1
theorem dX8_sort_249 : decode cX8_sort 249 = .ok (.iadd, 1) := dg_X8_sort_228.2.2.2.2.2.2.2.2.2.2.2.1
theorem dX8_sort_250 : decode cX8_sort 250 = .ok (.iconst 1, 1) := dg_X8_sort_228.2.2.2.2.2.2.2.2.2.2.2.2.1
theorem dX8_sort_251 : decode cX8_sort 251 = .ok (.isub, 1) := dg_X8_sort_228.2.2.2.2.2.2.2.2.2.2.2.2.2.1
theorem dX8_sort_252 : decode cX8_sort 252 = .ok (.laload, 1) := dg_X8_sort_228.2.2.2.2.2.2.2.2.2.2.2.2.2.2.1
theorem dX8_sort_253 : decode cX8_sort 253 = .ok (.lastore, 1) := dg_X8_sort_228.2.2.2.2.2.2.2.2.2.2.2.2.2.2.2
theorem dg_X8_sort_254 : (decode cX8_sort 254 = .ok (.iinc 9 (-1), 3)) ∧ (decode cX8_sort 257 = .ok (.goto (-67), 3)) ∧ (decode cX8_sort 260 = .ok (.aload_n 0, 1)) ∧ (decode cX8_sort 261 = .ok (.getfield 25, 3)) ∧ (decode cX8_sort 264 = .ok (.iload 5, 2)) ∧ (decode cX8_sort 266 = .ok (.iload 9, 2)) ∧ (decode cX8_sort 268 = .ok (.iadd, 1)) ∧ (decode cX8_sort 269 = .ok (.lload 7, 2)) ∧ (decode cX8_sort 271 = .ok (.lastore, 1)) ∧ (decode cX8_sort 272 = .ok (.iinc 6 1, 3)) ∧ (decode cX8_sort 275 = .ok (.goto (-107), 3)) ∧ (decode cX8_sort 278 = .ok (.iconst 0, 1)) ∧ (decode cX8_sort 279 = .ok (.istore 6, 2)) ∧ (decode cX8_sort 281 = .ok (.iload_n 2, 1)) ∧ (decode cX8_sort 282 = .ok (.istore 7, 2)) ∧ (decode cX8_sort 284 = .ok (.iload 7, 2)) := by decide +kernel
theorem dX8_sort_254 : decode cX8_sort 254 = .ok (.iinc 9 (-1), 3) := dg_X8_sort_254.1
theorem dX8_sort_257 : decode cX8_sort 257 = .ok (.goto (-67), 3) := dg_X8_sort_254.2.1
theorem dX8_sort_260 : decode cX8_sort 260 = .ok (.aload_n 0, 1) := dg_X8_sort_254.2.2.1
theorem dX8_sort_261 : decode cX8_sort 261 = .ok (.getfield 25, 3) := dg_X8_sort_254.2.2.2.1
theorem dX8_sort_264 : decode cX8_sort 264 = .ok (.iload 5, 2) := dg_X8_sort_254.2.2.2.2.1
theorem dX8_sort_266 : decode cX8_sort 266 = .ok (.iload 9, 2) := dg_X8_sort_254.2.2.2.2.2.1
theorem dX8_sort_268 : decode cX8_sort 268 = .ok (.iadd, 1) := dg_X8_sort_254.2.2.2.2.2.2.1
theorem dX8_sort_269 : decode cX8_sort 269 = .ok (.lload 7, 2) := dg_X8_sort_254.2.2.2.2.2.2.2.1
theorem dX8_sort_271 : decode cX8_sort 271 = .ok (.lastore, 1) := dg_X8_sort_254.2.2.2.2.2.2.2.2.1
theorem dX8_sort_272 : decode cX8_sort 272 = .ok (.iinc 6 1, 3) := dg_X8_sort_254.2.2.2.2.2.2.2.2.2.1
theorem dX8_sort_275 : decode cX8_sort 275 = .ok (.goto (-107), 3) := dg_X8_sort_254.2.2.2.2.2.2.2.2.2.2.1
theorem dX8_sort_278 : decode cX8_sort 278 = .ok (.iconst 0, 1) := dg_X8_sort_254.2.2.2.2.2.2.2.2.2.2.2.1
theorem dX8_sort_279 : decode cX8_sort 279 = .ok (.istore 6, 2) := dg_X8_sort_254.2.2.2.2.2.2.2.2.2.2.2.2.1
theorem dX8_sort_281 : decode cX8_sort 281 = .ok (.iload_n 2, 1) := dg_X8_sort_254.2.2.2.2.2.2.2.2.2.2.2.2.2.1
theorem dX8_sort_282 : decode cX8_sort 282 = .ok (.istore 7, 2) := dg_X8_sort_254.2.2.2.2.2.2.2.2.2.2.2.2.2.2.1
theorem dX8_sort_284 : decode cX8_sort 284 = .ok (.iload 7, 2) := dg_X8_sort_254.2.2.2.2.2.2.2.2.2.2.2.2.2.2.2
theorem dg_X8_sort_286 : (decode cX8_sort 286 = .ok (.iload_n 3, 1)) ∧ (decode cX8_sort 287 = .ok (.if_icmp .ge 40, 3)) ∧ (decode cX8_sort 290 = .ok (.iload 6, 2)) ∧ (decode cX8_sort 292 = .ok (.aload_n 0, 1)) ∧ (decode cX8_sort 293 = .ok (.getfield 48, 3)) ∧ (decode cX8_sort 296 = .ok (.iload 7, 2)) ∧ (decode cX8_sort 298 = .ok (.laload, 1)) ∧ (decode cX8_sort 299 = .ok (.aload_n 0, 1)) ∧ (decode cX8_sort 300 = .ok (.getfield 25, 3)) ∧ (decode cX8_sort 303 = .ok (.iload 5, 2)) ∧ (decode cX8_sort 305 = .ok (.iload 7, 2)) ∧ (decode cX8_sort 307 = .ok (.iadd, 1)) ∧ (decode cX8_sort 308 = .ok (.laload, 1)) ∧ (decode cX8_sort 309 = .ok (.lcmp, 1)) ∧ (decode cX8_sort 310 = .ok (.ifCond .eq 7, 3)) ∧ (decode cX8_sort 313 = .ok (.iconst 1, 1)) := by decide +kernel
theorem dX8_sort_286 : decode cX8_sort 286 = .ok (.iload_n 3, 1) := dg_X8_sort_286.1
theorem dX8_sort_287 : decode cX8_sort 287 = .ok (.if_icmp .ge 40, 3) := dg_X8_sort_286.2.1
theorem dX8_sort_290 : decode cX8_sort 290 = .ok (.iload 6, 2) := dg_X8_sort_286.2.2.1
theorem dX8_sort_292 : decode cX8_sort 292 = .ok (.aload_n 0, 1) := dg_X8_sort_286.2.2.2.1
theorem dX8_sort_293 : decode cX8_sort 293 = .ok (.getfield 48, 3) := dg_X8_sort_286.2.2.2.2.1
theorem dX8_sort_296 : decode cX8_sort 296 = .ok (.iload 7, 2) := dg_X8_sort_286.2.2.2.2.2.1
theorem dX8_sort_298 : decode cX8_sort 298 = .ok (.laload, 1) := dg_X8_sort_286.2.2.2.2.2.2.1
theorem dX8_sort_299 : decode cX8_sort 299 = .ok (.aload_n 0, 1) := dg_X8_sort_286.2.2.2.2.2.2.2.1
theorem dX8_sort_300 : decode cX8_sort 300 = .ok (.getfield 25, 3) := dg_X8_sort_286.2.2.2.2.2.2.2.2.1
theorem dX8_sort_303 : decode cX8_sort 303 = .ok (.iload 5, 2) := dg_X8_sort_286.2.2.2.2.2.2.2.2.2.1
theorem dX8_sort_305 : decode cX8_sort 305 = .ok (.iload 7, 2) := dg_X8_sort_286.2.2.2.2.2.2.2.2.2.2.1
theorem dX8_sort_307 : decode cX8_sort 307 = .ok (.iadd, 1) := dg_X8_sort_286.2.2.2.2.2.2.2.2.2.2.2.1
theorem dX8_sort_308 : decode cX8_sort 308 = .ok (.laload, 1) := dg_X8_sort_286.2.2.2.2.2.2.2.2.2.2.2.2.1
theorem dX8_sort_309 : decode cX8_sort 309 = .ok (.lcmp, 1) := dg_X8_sort_286.2.2.2.2.2.2.2.2.2.2.2.2.2.1
theorem dX8_sort_310 : decode cX8_sort 310 = .ok (.ifCond .eq 7, 3) := dg_X8_sort_286.2.2.2.2.2.2.2.2.2.2.2.2.2.2.1
theorem dX8_sort_313 : decode cX8_sort 313 = .ok (.iconst 1, 1) := dg_X8_sort_286.2.2.2.2.2.2.2.2.2.2.2.2.2.2.2
theorem dg_X8_sort_314 : (decode cX8_sort 314 = .ok (.goto 4, 3)) ∧ (decode cX8_sort 317 = .ok (.iconst 0, 1)) ∧ (decode cX8_sort 318 = .ok (.iadd, 1)) ∧ (decode cX8_sort 319 = .ok (.istore 6, 2)) ∧ (decode cX8_sort 321 = .ok (.iinc 7 1, 3)) ∧ (decode cX8_sort 324 = .ok (.goto (-40), 3)) ∧ (decode cX8_sort 327 = .ok (.aload_n 0, 1)) ∧ (decode cX8_sort 328 = .ok (.iload 6, 2)) ∧ (decode cX8_sort 330 = .ok (.invokevirtual 183, 3)) ∧ (decode cX8_sort 333 = .ok (.ireturn, 1)) := by decide +kernel
theorem dX8_sort_314 : decode cX8_sort 314 = .ok (.goto 4, 3) := dg_X8_sort_314.1
theorem dX8_sort_317 : decode cX8_sort 317 = .ok (.iconst 0, 1) := dg_X8_sort_314.2.1
theorem dX8_sort_318 : decode cX8_sort 318 = .ok (.iadd, 1) := dg_X8_sort_314.2.2.1
theorem dX8_sort_319 : decode cX8_sort 319 = .ok (.istore 6, 2) := dg_X8_sort_314.2.2.2.1
theorem dX8_sort_321 : decode cX8_sort 321 = .ok (.iinc 7 1, 3) := dg_X8_sort_314.2.2.2.2.1
theorem dX8_sort_324 : decode cX8_sort 324 = .ok (.goto (-40), 3) := dg_X8_sort_314.2.2.2.2.2.1
theorem dX8_sort_327 : decode cX8_sort 327 = .ok (.aload_n 0, 1) := dg_X8_sort_314.2.2.2.2.2.2.1
theorem dX8_sort_328 : decode cX8_sort 328 = .ok (.iload 6, 2) := dg_X8_sort_314.2.2.2.2.2.2.2.1
theorem dX8_sort_330 : decode cX8_sort 330 = .ok (.invokevirtual 183, 3) := dg_X8_sort_314.2.2.2.2.2.2.2.2.1
theorem dX8_sort_333 : decode cX8_sort 333 = .ok (.ireturn, 1) := dg_X8_sort_314.2.2.2.2.2.2.2.2.2
theorem zk_1009 : Cond.methodLink RX8 239 yX8_orderNumber ∈ zz_w := zz_in (List.mem_append_right _ (List.mem_append_right _ (List.mem_append_right _ (List.mem_append_right _ (List.mem_append_right _ (List.mem_of_getElem? (i := 49) (by decide +kernel))))))) rfl
set_option maxRecDepth 20000 in
theorem zk_1011 : Cond.code yX8_orderNumber cX8_orderNumber 3 (some .long) ∈ zz_w := zz_in (List.mem_append_right _ (List.mem_append_right _ (List.mem_append_right _ (List.mem_append_right _ (List.mem_append_right _ (List.mem_of_getElem? (i := 51) (rfl))))))) rfl
theorem zk_1010 : Cond.static yX8_orderNumber ∈ zz_w := zz_in (List.mem_append_right _ (List.mem_append_right _ (List.mem_append_right _ (List.mem_append_right _ (List.mem_append_right _ (List.mem_of_getElem? (i := 50) (by decide +kernel))))))) rfl
theorem zc_X8_239 : zz_cS RX8 239 yX8_orderNumber cX8_orderNumber 3 (some .long) 2 := ⟨⟨zk_1009, zk_1011, zk_7, by decide, by decide, by decide +kernel⟩, zk_1010⟩
def fo_my_sort (na : Nat) (ne : Nat) (kdf : Nat → Int32) (dpf : Nat → Int32) (lnf : Nat → Int32) (saf : Nat → Int32) (btf : Nat → Int64) (pnf : Nat → Int32) (x1 : Int32) (x2 : Int32) (x3 : Int32) : (Int32) × (Nat → Int64) := (if (fn_cm_isArray (nI na) x1) = 0 then (-5, btf) else (if (nI ((dpf x1.toNatClampNeg).toNatClampNeg)) ≤ 1 then (if (fn_cm_within x2.toInt64 0 ((nI ((lnf x1.toNatClampNeg).toNatClampNeg)).toInt64)) = 0 then (-2, btf) else (if (fn_cm_within x3.toInt64 ((nI x2.toNatClampNeg).toInt64) ((nI ((lnf x1.toNatClampNeg).toNatClampNeg)).toInt64)) = 0 then (-2, btf) else (if (if zz_cp pnf (((saf x1.toNatClampNeg).toNatClampNeg) + x2.toNatClampNeg) (x3.toNatClampNeg - x2.toNatClampNeg) = 0 then (0 : Int32) else 6) ≤ 0 then ((sp_ce (sp_is (fn_cm_orderNumber (kdf x1.toNatClampNeg)) (((saf x1.toNatClampNeg).toNatClampNeg) + x2.toNatClampNeg) (x3.toNatClampNeg - (x2.toNatClampNeg + 1)) (((saf x1.toNatClampNeg).toNatClampNeg) + (x2.toNatClampNeg + 1)) btf) btf ((saf x1.toNatClampNeg).toNatClampNeg) (x3.toNatClampNeg - x2.toNatClampNeg) x2.toNatClampNeg 0), (sp_is (fn_cm_orderNumber (kdf x1.toNatClampNeg)) (((saf x1.toNatClampNeg).toNatClampNeg) + x2.toNatClampNeg) (x3.toNatClampNeg - (x2.toNatClampNeg + 1)) (((saf x1.toNatClampNeg).toNatClampNeg) + (x2.toNatClampNeg + 1)) btf)) else ((-(if zz_cp pnf (((saf x1.toNatClampNeg).toNatClampNeg) + x2.toNatClampNeg) (x3.toNatClampNeg - x2.toNatClampNeg) = 0 then (0 : Int32) else 6)), btf)))) else (-1, btf)))
abbrev rm_my_sort : Room := { frames := 2, cells := 0, slots := 0, locals := 46 }
abbrev po_my_sort (g : zz_G) (h0 : Nat) (a_kindOf : Nat) (a_depthOf : Nat) (a_lengthOf : Nat) (a_classOf : Nat) (a_baseOf : Nat) (a_bits : Nat) (a_pinned : Nat) (a_lengths : Nat) (a_stackArray : Nat) (a_stackOther : Nat) (a_stackAt : Nat) (a_path : Nat) (a_held : Nat) (a_alike : Nat) (a_hashes : Nat) (a_decisionArray : Nat) (a_decisionPlace : Nat) (a_candidateMany : Nat) (a_candidates : Nat) (a_ruleSort : Nat) (a_ruleArray : Nat) (a_ruleWeight : Nat) (a_ruleLow : Nat) (a_ruleHigh : Nat) (a_chosen : Nat) (a_bestOf : Nat) (a_markElements : Nat) (a_markBits : Nat) (a_markPins : Nat) (na : Nat) (ne : Nat) (nd : Nat) (nr : Nat) (nm : Nat) (i_code : Int32) (i_lastArray : Int32) (i_lastPlace : Int32) (kdf : Nat → Int32) (dpf : Nat → Int32) (lnf : Nat → Int32) (saf : Nat → Int32) (btf : Nat → Int64) (pnf : Nat → Int32) (hef : Nat → Int64) (x1 : Int32) (x2 : Int32) (x3 : Int32) (h_M : zz_MI na ne dpf saf lnf btf) : Int32 → va_W → Prop := fun (r : Int32) (u : va_W) => ∃ (k_c : Int32) (k_a : Int32) (k_p : Int32) (bt2 : Nat → Int64) (he2 : Nat → Int64), (r, bt2) = fo_my_sort na ne kdf dpf lnf saf btf pnf x1 x2 x3 ∧ (zz_MI na ne dpf saf lnf bt2) ∧ (zz_D1 na dpf saf lnf btf bt2) ∧ u = [cw_k7 h0 (nI na) (nI ne) a_kindOf a_depthOf a_lengthOf a_classOf a_baseOf a_bits a_pinned k_c a_lengths a_stackArray a_stackOther a_stackAt k_a k_p a_path a_held a_alike a_hashes (nI nd) a_decisionArray a_decisionPlace a_candidateMany a_candidates (nI nr) a_ruleSort a_ruleArray a_ruleWeight a_ruleLow a_ruleHigh a_chosen a_bestOf (nI nm) a_markElements a_markBits a_markPins, cw_i g a_kindOf 60 kdf, cw_i g a_depthOf 60 dpf, cw_i g a_lengthOf 60 lnf, cw_i g a_baseOf 60 saf, cw_l g a_bits 4000 bt2, cw_z g a_pinned 4000 pnf, cw_l g a_held 200 he2]
set_option maxHeartbeats 4000000 in
set_option maxRecDepth 100000 in
theorem my_sort (g : zz_G) (h0 : Nat) (a_kindOf : Nat) (a_depthOf : Nat) (a_lengthOf : Nat) (a_classOf : Nat) (a_baseOf : Nat) (a_bits : Nat) (a_pinned : Nat) (a_lengths : Nat) (a_stackArray : Nat) (a_stackOther : Nat) (a_stackAt : Nat) (a_path : Nat) (a_held : Nat) (a_alike : Nat) (a_hashes : Nat) (a_decisionArray : Nat) (a_decisionPlace : Nat) (a_candidateMany : Nat) (a_candidates : Nat) (a_ruleSort : Nat) (a_ruleArray : Nat) (a_ruleWeight : Nat) (a_ruleLow : Nat) (a_ruleHigh : Nat) (a_chosen : Nat) (a_bestOf : Nat) (a_markElements : Nat) (a_markBits : Nat) (a_markPins : Nat) (na : Nat) (ne : Nat) (nd : Nat) (nr : Nat) (nm : Nat) (i_code : Int32) (i_lastArray : Int32) (i_lastPlace : Int32) (kdf : Nat → Int32) (dpf : Nat → Int32) (lnf : Nat → Int32) (saf : Nat → Int32) (btf : Nat → Int64) (pnf : Nat → Int32) (hef : Nat → Int64) (x1 : Int32) (x2 : Int32) (x3 : Int32) (h_M : zz_MI na ne dpf saf lnf btf) : zz_I g yX8_sort (.code yX8_sort cX8_sort 10 (some .int)) rm_my_sort [.ref h0, .int x1, .int x2, .int x3] [cw_k7 h0 (nI na) (nI ne) a_kindOf a_depthOf a_lengthOf a_classOf a_baseOf a_bits a_pinned i_code a_lengths a_stackArray a_stackOther a_stackAt i_lastArray i_lastPlace a_path a_held a_alike a_hashes (nI nd) a_decisionArray a_decisionPlace a_candidateMany a_candidates (nI nr) a_ruleSort a_ruleArray a_ruleWeight a_ruleLow a_ruleHigh a_chosen a_bestOf (nI nm) a_markElements a_markBits a_markPins, cw_i g a_kindOf 60 kdf, cw_i g a_depthOf 60 dpf, cw_i g a_lengthOf 60 lnf, cw_i g a_baseOf 60 saf, cw_l g a_bits 4000 btf, cw_z g a_pinned 4000 pnf, cw_l g a_held 200 hef] (po_my_sort g h0 a_kindOf a_depthOf a_lengthOf a_classOf a_baseOf a_bits a_pinned a_lengths a_stackArray a_stackOther a_stackAt a_path a_held a_alike a_hashes a_decisionArray a_decisionPlace a_candidateMany a_candidates a_ruleSort a_ruleArray a_ruleWeight a_ruleLow a_ruleHigh a_chosen a_bestOf a_markElements a_markBits a_markPins na ne nd nr nm i_code i_lastArray i_lastPlace kdf dpf lnf saf btf pnf hef x1 x2 x3 h_M) := by
  refine zz_I.intro (own := RX8) (cc := cX8_sort) (nL := 10) (by decide) rfl (Nat.le_of_ble_eq_true rfl) ?_
  intro p l e s m args below meth c A H locs ls hC hnm hs hZ hl
  obtain ⟨hx, hb, hml, hown, hts, hr, hlocks, hK⟩ := id hC
  have hl : lv_has ls 10 [(0, .ref h0), (1, .int x1), (2, .int x2), (3, .int x3)] := hl
  have hZ : zz_Z g A s.heap [cw_k7 h0 (nI na) (nI ne) a_kindOf a_depthOf a_lengthOf a_classOf a_baseOf a_bits a_pinned i_code a_lengths a_stackArray a_stackOther a_stackAt i_lastArray i_lastPlace a_path a_held a_alike a_hashes (nI nd) a_decisionArray a_decisionPlace a_candidateMany a_candidates (nI nr) a_ruleSort a_ruleArray a_ruleWeight a_ruleLow a_ruleHigh a_chosen a_bestOf (nI nm) a_markElements a_markBits a_markPins, cw_i g a_kindOf 60 kdf, cw_i g a_depthOf 60 dpf, cw_i g a_lengthOf 60 lnf, cw_i g a_baseOf 60 saf, cw_l g a_bits 4000 btf, cw_z g a_pinned 4000 pnf, cw_l g a_held 200 hef] H locs := hZ
  have h_S := h_M.1
  have hna := h_S.1
  have hne := h_S.2.1
  refine lv_aload_n hx hb dX8_sort_0 rfl (lv_at hl 0 rfl) ?_
  refine lv_iload_n hx hb dX8_sort_1 rfl (lv_at hl 1 rfl) ?_
  refine zz_iV (As := [.int x1]) (wc := [cw_k7 h0 (nI na) (nI ne) a_kindOf a_depthOf a_lengthOf a_classOf a_baseOf a_bits a_pinned i_code a_lengths a_stackArray a_stackOther a_stackAt i_lastArray i_lastPlace a_path a_held a_alike a_hashes (nI nd) a_decisionArray a_decisionPlace a_candidateMany a_candidates (nI nr) a_ruleSort a_ruleArray a_ruleWeight a_ruleLow a_ruleHigh a_chosen a_bestOf (nI nm) a_markElements a_markBits a_markPins]) (wr := [cw_i g a_kindOf 60 kdf, cw_i g a_depthOf 60 dpf, cw_i g a_lengthOf 60 lnf, cw_i g a_baseOf 60 saf, cw_l g a_bits 4000 btf, cw_z g a_pinned 4000 pnf, cw_l g a_held 200 hef]) (rest := []) hC hZ hs hl zc_X8_200 (cm_isArray g h0 a_kindOf a_depthOf a_lengthOf a_classOf a_baseOf a_bits a_pinned a_lengths a_stackArray a_stackOther a_stackAt a_path a_held a_alike a_hashes a_decisionArray a_decisionPlace a_candidateMany a_candidates a_ruleSort a_ruleArray a_ruleWeight a_ruleLow a_ruleHigh a_chosen a_bestOf a_markElements a_markBits a_markPins (nI na) (nI ne) i_code i_lastArray i_lastPlace (nI nd) (nI nr) (nI nm) x1) [0] [1, 2, 3, 4, 5, 6, 7] rfl rfl (by decide +kernel) (ci := 7) (q0 := 0) rfl rfl rfl rfl (Nat.le_of_ble_eq_true rfl) ⟨⟨Nat.le_of_ble_eq_true rfl, Nat.le_of_ble_eq_true rfl⟩, Nat.le_of_ble_eq_true rfl, Nat.le_of_ble_eq_true rfl⟩ dX8_sort_2 (fun r1 u2 H locs hp hZ => ?_)
  obtain ⟨rfl, rfl⟩ := hp
  have hZ : zz_Z g A s.heap [cw_i g a_kindOf 60 kdf, cw_i g a_depthOf 60 dpf, cw_i g a_lengthOf 60 lnf, cw_i g a_baseOf 60 saf, cw_l g a_bits 4000 btf, cw_z g a_pinned 4000 pnf, cw_l g a_held 200 hef, cw_k7 h0 (nI na) (nI ne) a_kindOf a_depthOf a_lengthOf a_classOf a_baseOf a_bits a_pinned i_code a_lengths a_stackArray a_stackOther a_stackAt i_lastArray i_lastPlace a_path a_held a_alike a_hashes (nI nd) a_decisionArray a_decisionPlace a_candidateMany a_candidates (nI nr) a_ruleSort a_ruleArray a_ruleWeight a_ruleLow a_ruleHigh a_chosen a_bestOf (nI nm) a_markElements a_markBits a_markPins] H locs := hZ
  refine lv_if_ne (tgt := 12) hx hb dX8_sort_5 (by decide) (fun c3 => ?_) (fun c3 => ?_)
  · obtain ⟨a1, ha1, ea1⟩ := zl_isA (by omega) c3
    have hl : lv_has ls 10 [(0, .ref h0), (1, .int (nI a1)), (2, .int x2), (3, .int x3)] := by rw [← ea1]; exact hl
    have d_a1 : x1.toNatClampNeg = a1 := by rw [ea1]; exact nI_clamp (by omega)
    obtain ⟨sz1, lz1, dz1, es1, el1, ed1, g11, g21, g31, g41⟩ := h_S.2.2 a1 ha1
    have d_sz1 : (saf a1).toNatClampNeg = sz1 := by rw [es1]; exact nI_clamp (by omega)
    have d_lz1 : (lnf a1).toNatClampNeg = lz1 := by rw [el1]; exact nI_clamp (by omega)
    have d_dz1 : (dpf a1).toNatClampNeg = dz1 := by rw [ed1]; exact nI_clamp (by omega)
    refine lv_aload_n hx hb dX8_sort_12 rfl (lv_at hl 0 rfl) ?_
    refine zz_get hC hZ 7 rfl zf_X8_13 rfl dX8_sort_13 ?_
    refine lv_iload_n hx hb dX8_sort_16 rfl (lv_at hl 1 rfl) ?_
    refine zz_iald hC hZ 1 rfl (vp_in_nI (by omega) (by decide)) dX8_sort_17 ?_
    rw [nI_clamp (n := a1) (by omega)]
    refine zz_topi (v := nI dz1) (ed1) ?_
    refine lv_iconst (v := 1) hx hb dX8_sort_18 (by decide) ?_
    refine lv_icmp_le (tgt := 26) hx hb dX8_sort_19 (by decide) (fun c4 => ?_) (fun c4 => ?_)
    · have nc4 : dz1 ≤ 1 := (nI_leI (by omega) (by omega)).mp (show nI (dz1) ≤ nI (1) from c4)
      refine lv_iload_n hx hb dX8_sort_26 rfl (lv_at hl 2 rfl) ?_
      refine lv_i2l hx hb dX8_sort_27 rfl ?_
      refine lv_lconst (v := 0) hx hb dX8_sort_28 (by decide) ?_
      refine lv_aload_n hx hb dX8_sort_29 rfl (lv_at hl 0 rfl) ?_
      refine zz_get hC hZ 7 rfl zf_X8_16 rfl dX8_sort_30 ?_
      refine lv_iload_n hx hb dX8_sort_33 rfl (lv_at hl 1 rfl) ?_
      refine zz_iald hC hZ 2 rfl (vp_in_nI (by omega) (by decide)) dX8_sort_34 ?_
      rw [nI_clamp (n := a1) (by omega)]
      refine zz_topi (v := nI lz1) (el1) ?_
      refine lv_i2l hx hb dX8_sort_35 rfl ?_
      refine zz_iS (As := [.long x2.toInt64, .long 0, .long ((nI lz1).toInt64)]) (wc := []) (wr := [cw_i g a_kindOf 60 kdf, cw_i g a_depthOf 60 dpf, cw_i g a_lengthOf 60 lnf, cw_i g a_baseOf 60 saf, cw_l g a_bits 4000 btf, cw_z g a_pinned 4000 pnf, cw_l g a_held 200 hef, cw_k7 h0 (nI na) (nI ne) a_kindOf a_depthOf a_lengthOf a_classOf a_baseOf a_bits a_pinned i_code a_lengths a_stackArray a_stackOther a_stackAt i_lastArray i_lastPlace a_path a_held a_alike a_hashes (nI nd) a_decisionArray a_decisionPlace a_candidateMany a_candidates (nI nr) a_ruleSort a_ruleArray a_ruleWeight a_ruleLow a_ruleHigh a_chosen a_bestOf (nI nm) a_markElements a_markBits a_markPins]) (rest := []) hC hZ hs hl zc_X8_106 (cm_within g x2.toInt64 0 ((nI lz1).toInt64)) [] [0, 1, 2, 3, 4, 5, 6, 7] rfl rfl (by decide +kernel) rfl rfl (Nat.le_of_ble_eq_true rfl) ⟨⟨Nat.le_of_ble_eq_true rfl, Nat.le_of_ble_eq_true rfl⟩, Nat.le_of_ble_eq_true rfl, Nat.le_of_ble_eq_true rfl⟩ dX8_sort_36 (fun r5 u6 H locs hp hZ => ?_)
      obtain ⟨rfl, rfl⟩ := hp
      have hZ : zz_Z g A s.heap [cw_i g a_kindOf 60 kdf, cw_i g a_depthOf 60 dpf, cw_i g a_lengthOf 60 lnf, cw_i g a_baseOf 60 saf, cw_l g a_bits 4000 btf, cw_z g a_pinned 4000 pnf, cw_l g a_held 200 hef, cw_k7 h0 (nI na) (nI ne) a_kindOf a_depthOf a_lengthOf a_classOf a_baseOf a_bits a_pinned i_code a_lengths a_stackArray a_stackOther a_stackAt i_lastArray i_lastPlace a_path a_held a_alike a_hashes (nI nd) a_decisionArray a_decisionPlace a_candidateMany a_candidates (nI nr) a_ruleSort a_ruleArray a_ruleWeight a_ruleLow a_ruleHigh a_chosen a_bestOf (nI nm) a_markElements a_markBits a_markPins] H locs := hZ
      refine lv_if_eq (tgt := 59) hx hb dX8_sort_39 (by decide) (fun c7 => ?_) (fun c7 => ?_)
      · refine lv_iconst (v := 2) hx hb dX8_sort_59 (by decide) ?_
        refine lv_goto (tgt := 64) hx hb dX8_sort_60 (by decide) ?_
        refine lv_istore (lv' := [(4, .int 2), (0, .ref h0), (1, .int (nI a1)), (2, .int x2), (3, .int x3)]) hx hb dX8_sort_64 hl (by decide) rfl (fun ls hl => ?_)
        refine lv_iload_n hx hb dX8_sort_66 rfl (lv_at hl 3 rfl) ?_
        refine lv_istore (lv' := [(5, .int x2), (4, .int 2), (0, .ref h0), (1, .int (nI a1)), (2, .int x2), (3, .int x3)]) hx hb dX8_sort_67 hl (by decide) rfl (fun ls hl => ?_)
        refine lv_iload hx hb dX8_sort_69 (lv_at hl 0 rfl) ?_
        refine lv_iload_n hx hb dX8_sort_71 rfl (lv_at hl 5 rfl) ?_
        refine lv_icmp_ge (tgt := 111) hx hb dX8_sort_72 (by decide) (fun c8 => ?_) (fun c8 => ?_)
        · refine lv_iload hx hb dX8_sort_111 (lv_at hl 1 rfl) ?_
          refine lv_if_le (tgt := 123) hx hb dX8_sort_113 (by decide) (fun c => absurd c (by decide)) (fun c9 => ?_)
          refine lv_aload_n hx hb dX8_sort_116 rfl (lv_at hl 2 rfl) ?_
          refine lv_iload hx hb dX8_sort_117 (lv_at hl 1 rfl) ?_
          refine zz_iV (As := [.int 2]) (wc := [cw_k7 h0 (nI na) (nI ne) a_kindOf a_depthOf a_lengthOf a_classOf a_baseOf a_bits a_pinned i_code a_lengths a_stackArray a_stackOther a_stackAt i_lastArray i_lastPlace a_path a_held a_alike a_hashes (nI nd) a_decisionArray a_decisionPlace a_candidateMany a_candidates (nI nr) a_ruleSort a_ruleArray a_ruleWeight a_ruleLow a_ruleHigh a_chosen a_bestOf (nI nm) a_markElements a_markBits a_markPins]) (wr := [cw_i g a_kindOf 60 kdf, cw_i g a_depthOf 60 dpf, cw_i g a_lengthOf 60 lnf, cw_i g a_baseOf 60 saf, cw_l g a_bits 4000 btf, cw_z g a_pinned 4000 pnf, cw_l g a_held 200 hef]) (rest := []) hC hZ hs hl zc_X8_175 (cm_fails g h0 a_kindOf a_depthOf a_lengthOf a_classOf a_baseOf a_bits a_pinned a_lengths a_stackArray a_stackOther a_stackAt a_path a_held a_alike a_hashes a_decisionArray a_decisionPlace a_candidateMany a_candidates a_ruleSort a_ruleArray a_ruleWeight a_ruleLow a_ruleHigh a_chosen a_bestOf a_markElements a_markBits a_markPins (nI na) (nI ne) i_code i_lastArray i_lastPlace (nI nd) (nI nr) (nI nm) 2) [7] [0, 1, 2, 3, 4, 5, 6] rfl rfl (by decide +kernel) (ci := 7) (q0 := 0) rfl rfl rfl rfl (Nat.le_of_ble_eq_true rfl) ⟨⟨Nat.le_of_ble_eq_true rfl, Nat.le_of_ble_eq_true rfl⟩, Nat.le_of_ble_eq_true rfl, Nat.le_of_ble_eq_true rfl⟩ dX8_sort_119 (fun r10 u11 H locs hp hZ => ?_)
          obtain ⟨rfl, rfl⟩ := hp
          have hZ : zz_Z g A s.heap [cw_i g a_kindOf 60 kdf, cw_i g a_depthOf 60 dpf, cw_i g a_lengthOf 60 lnf, cw_i g a_baseOf 60 saf, cw_l g a_bits 4000 btf, cw_z g a_pinned 4000 pnf, cw_l g a_held 200 hef, cw_k7 h0 (nI na) (nI ne) a_kindOf a_depthOf a_lengthOf a_classOf a_baseOf a_bits a_pinned 2 a_lengths a_stackArray a_stackOther a_stackAt i_lastArray i_lastPlace a_path a_held a_alike a_hashes (nI nd) a_decisionArray a_decisionPlace a_candidateMany a_candidates (nI nr) a_ruleSort a_ruleArray a_ruleWeight a_ruleLow a_ruleHigh a_chosen a_bestOf (nI nm) a_markElements a_markBits a_markPins] H locs := hZ
          have hZ : zz_Z g A s.heap [cw_k7 h0 (nI na) (nI ne) a_kindOf a_depthOf a_lengthOf a_classOf a_baseOf a_bits a_pinned 2 a_lengths a_stackArray a_stackOther a_stackAt i_lastArray i_lastPlace a_path a_held a_alike a_hashes (nI nd) a_decisionArray a_decisionPlace a_candidateMany a_candidates (nI nr) a_ruleSort a_ruleArray a_ruleWeight a_ruleLow a_ruleHigh a_chosen a_bestOf (nI nm) a_markElements a_markBits a_markPins, cw_i g a_kindOf 60 kdf, cw_i g a_depthOf 60 dpf, cw_i g a_lengthOf 60 lnf, cw_i g a_baseOf 60 saf, cw_l g a_bits 4000 btf, cw_z g a_pinned 4000 pnf, cw_l g a_held 200 hef] H locs := hZ.sub [7, 0, 1, 2, 3, 4, 5, 6] (by decide +kernel) rfl
          exact zz_iret hC hZ (⟨2, i_lastArray, i_lastPlace, btf, hef, by refine Eq.symm ?_; rw [fo_my_sort]; refine (if_neg (by (try simp only [d_a1, d_sz1, d_lz1, d_dz1]); exact c3)).trans ?_; refine (if_pos (by (try simp only [d_a1, d_sz1, d_lz1, d_dz1]); exact c4)).trans ?_; refine (if_pos (by (try simp only [d_a1, d_sz1, d_lz1, d_dz1]); exact c7)).trans ?_; first | (simp only [d_a1, d_sz1, d_lz1, d_dz1]; done) | rfl, h_M, zz_D1.rf, rfl⟩) (Nat.le_of_ble_eq_true rfl) (Nat.le_of_ble_eq_true rfl) dX8_sort_122
        · refine lv_iload hx hb dX8_sort_75 (lv_at hl 1 rfl) ?_
          refine lv_if_ne (tgt := 111) hx hb dX8_sort_77 (by decide) (fun c12 => ?_) (fun c => absurd c (by decide))
          refine lv_iload hx hb dX8_sort_111 (lv_at hl 1 rfl) ?_
          refine lv_if_le (tgt := 123) hx hb dX8_sort_113 (by decide) (fun c => absurd c (by decide)) (fun c13 => ?_)
          refine lv_aload_n hx hb dX8_sort_116 rfl (lv_at hl 2 rfl) ?_
          refine lv_iload hx hb dX8_sort_117 (lv_at hl 1 rfl) ?_
          refine zz_iV (As := [.int 2]) (wc := [cw_k7 h0 (nI na) (nI ne) a_kindOf a_depthOf a_lengthOf a_classOf a_baseOf a_bits a_pinned i_code a_lengths a_stackArray a_stackOther a_stackAt i_lastArray i_lastPlace a_path a_held a_alike a_hashes (nI nd) a_decisionArray a_decisionPlace a_candidateMany a_candidates (nI nr) a_ruleSort a_ruleArray a_ruleWeight a_ruleLow a_ruleHigh a_chosen a_bestOf (nI nm) a_markElements a_markBits a_markPins]) (wr := [cw_i g a_kindOf 60 kdf, cw_i g a_depthOf 60 dpf, cw_i g a_lengthOf 60 lnf, cw_i g a_baseOf 60 saf, cw_l g a_bits 4000 btf, cw_z g a_pinned 4000 pnf, cw_l g a_held 200 hef]) (rest := []) hC hZ hs hl zc_X8_175 (cm_fails g h0 a_kindOf a_depthOf a_lengthOf a_classOf a_baseOf a_bits a_pinned a_lengths a_stackArray a_stackOther a_stackAt a_path a_held a_alike a_hashes a_decisionArray a_decisionPlace a_candidateMany a_candidates a_ruleSort a_ruleArray a_ruleWeight a_ruleLow a_ruleHigh a_chosen a_bestOf a_markElements a_markBits a_markPins (nI na) (nI ne) i_code i_lastArray i_lastPlace (nI nd) (nI nr) (nI nm) 2) [7] [0, 1, 2, 3, 4, 5, 6] rfl rfl (by decide +kernel) (ci := 7) (q0 := 0) rfl rfl rfl rfl (Nat.le_of_ble_eq_true rfl) ⟨⟨Nat.le_of_ble_eq_true rfl, Nat.le_of_ble_eq_true rfl⟩, Nat.le_of_ble_eq_true rfl, Nat.le_of_ble_eq_true rfl⟩ dX8_sort_119 (fun r14 u15 H locs hp hZ => ?_)
          obtain ⟨rfl, rfl⟩ := hp
          have hZ : zz_Z g A s.heap [cw_i g a_kindOf 60 kdf, cw_i g a_depthOf 60 dpf, cw_i g a_lengthOf 60 lnf, cw_i g a_baseOf 60 saf, cw_l g a_bits 4000 btf, cw_z g a_pinned 4000 pnf, cw_l g a_held 200 hef, cw_k7 h0 (nI na) (nI ne) a_kindOf a_depthOf a_lengthOf a_classOf a_baseOf a_bits a_pinned 2 a_lengths a_stackArray a_stackOther a_stackAt i_lastArray i_lastPlace a_path a_held a_alike a_hashes (nI nd) a_decisionArray a_decisionPlace a_candidateMany a_candidates (nI nr) a_ruleSort a_ruleArray a_ruleWeight a_ruleLow a_ruleHigh a_chosen a_bestOf (nI nm) a_markElements a_markBits a_markPins] H locs := hZ
          have hZ : zz_Z g A s.heap [cw_k7 h0 (nI na) (nI ne) a_kindOf a_depthOf a_lengthOf a_classOf a_baseOf a_bits a_pinned 2 a_lengths a_stackArray a_stackOther a_stackAt i_lastArray i_lastPlace a_path a_held a_alike a_hashes (nI nd) a_decisionArray a_decisionPlace a_candidateMany a_candidates (nI nr) a_ruleSort a_ruleArray a_ruleWeight a_ruleLow a_ruleHigh a_chosen a_bestOf (nI nm) a_markElements a_markBits a_markPins, cw_i g a_kindOf 60 kdf, cw_i g a_depthOf 60 dpf, cw_i g a_lengthOf 60 lnf, cw_i g a_baseOf 60 saf, cw_l g a_bits 4000 btf, cw_z g a_pinned 4000 pnf, cw_l g a_held 200 hef] H locs := hZ.sub [7, 0, 1, 2, 3, 4, 5, 6] (by decide +kernel) rfl
          exact zz_iret hC hZ (⟨2, i_lastArray, i_lastPlace, btf, hef, by refine Eq.symm ?_; rw [fo_my_sort]; refine (if_neg (by (try simp only [d_a1, d_sz1, d_lz1, d_dz1]); exact c3)).trans ?_; refine (if_pos (by (try simp only [d_a1, d_sz1, d_lz1, d_dz1]); exact c4)).trans ?_; refine (if_pos (by (try simp only [d_a1, d_sz1, d_lz1, d_dz1]); exact c7)).trans ?_; first | (simp only [d_a1, d_sz1, d_lz1, d_dz1]; done) | rfl, h_M, zz_D1.rf, rfl⟩) (Nat.le_of_ble_eq_true rfl) (Nat.le_of_ble_eq_true rfl) dX8_sort_122
      · obtain ⟨f, hf, ef⟩ := zl_wi0 (by omega) c7
        have hl : lv_has ls 10 [(0, .ref h0), (1, .int (nI a1)), (2, .int (nI f)), (3, .int x3)] := by rw [← ef]; exact hl
        have d_f : x2.toNatClampNeg = f := by rw [ef]; exact nI_clamp (by omega)
        refine lv_iload_n hx hb dX8_sort_42 rfl (lv_at hl 3 rfl) ?_
        refine lv_i2l hx hb dX8_sort_43 rfl ?_
        refine lv_iload_n hx hb dX8_sort_44 rfl (lv_at hl 2 rfl) ?_
        refine lv_i2l hx hb dX8_sort_45 rfl ?_
        refine lv_aload_n hx hb dX8_sort_46 rfl (lv_at hl 0 rfl) ?_
        refine zz_get hC hZ 7 rfl zf_X8_16 rfl dX8_sort_47 ?_
        refine lv_iload_n hx hb dX8_sort_50 rfl (lv_at hl 1 rfl) ?_
        refine zz_iald hC hZ 2 rfl (vp_in_nI (by omega) (by decide)) dX8_sort_51 ?_
        rw [nI_clamp (n := a1) (by omega)]
        refine zz_topi (v := nI lz1) (el1) ?_
        refine lv_i2l hx hb dX8_sort_52 rfl ?_
        refine zz_iS (As := [.long x3.toInt64, .long ((nI f).toInt64), .long ((nI lz1).toInt64)]) (wc := []) (wr := [cw_i g a_kindOf 60 kdf, cw_i g a_depthOf 60 dpf, cw_i g a_lengthOf 60 lnf, cw_i g a_baseOf 60 saf, cw_l g a_bits 4000 btf, cw_z g a_pinned 4000 pnf, cw_l g a_held 200 hef, cw_k7 h0 (nI na) (nI ne) a_kindOf a_depthOf a_lengthOf a_classOf a_baseOf a_bits a_pinned i_code a_lengths a_stackArray a_stackOther a_stackAt i_lastArray i_lastPlace a_path a_held a_alike a_hashes (nI nd) a_decisionArray a_decisionPlace a_candidateMany a_candidates (nI nr) a_ruleSort a_ruleArray a_ruleWeight a_ruleLow a_ruleHigh a_chosen a_bestOf (nI nm) a_markElements a_markBits a_markPins]) (rest := []) hC hZ hs hl zc_X8_106 (cm_within g x3.toInt64 ((nI f).toInt64) ((nI lz1).toInt64)) [] [0, 1, 2, 3, 4, 5, 6, 7] rfl rfl (by decide +kernel) rfl rfl (Nat.le_of_ble_eq_true rfl) ⟨⟨Nat.le_of_ble_eq_true rfl, Nat.le_of_ble_eq_true rfl⟩, Nat.le_of_ble_eq_true rfl, Nat.le_of_ble_eq_true rfl⟩ dX8_sort_53 (fun r16 u17 H locs hp hZ => ?_)
        obtain ⟨rfl, rfl⟩ := hp
        have hZ : zz_Z g A s.heap [cw_i g a_kindOf 60 kdf, cw_i g a_depthOf 60 dpf, cw_i g a_lengthOf 60 lnf, cw_i g a_baseOf 60 saf, cw_l g a_bits 4000 btf, cw_z g a_pinned 4000 pnf, cw_l g a_held 200 hef, cw_k7 h0 (nI na) (nI ne) a_kindOf a_depthOf a_lengthOf a_classOf a_baseOf a_bits a_pinned i_code a_lengths a_stackArray a_stackOther a_stackAt i_lastArray i_lastPlace a_path a_held a_alike a_hashes (nI nd) a_decisionArray a_decisionPlace a_candidateMany a_candidates (nI nr) a_ruleSort a_ruleArray a_ruleWeight a_ruleLow a_ruleHigh a_chosen a_bestOf (nI nm) a_markElements a_markBits a_markPins] H locs := hZ
        refine lv_if_ne (tgt := 63) hx hb dX8_sort_56 (by decide) (fun c18 => ?_) (fun c18 => ?_)
        · obtain ⟨t, hft, htl, et⟩ := zl_wi1 (by omega) (by omega) c18
          have hl : lv_has ls 10 [(0, .ref h0), (1, .int (nI a1)), (2, .int (nI f)), (3, .int (nI t))] := by rw [← et]; exact hl
          have d_t : x3.toNatClampNeg = t := by rw [et]; exact nI_clamp (by omega)
          refine lv_iconst (v := 0) hx hb dX8_sort_63 (by decide) ?_
          refine lv_istore (lv' := [(4, .int 0), (0, .ref h0), (1, .int (nI a1)), (2, .int (nI f)), (3, .int (nI t))]) hx hb dX8_sort_64 hl (by decide) rfl (fun ls hl => ?_)
          refine lv_iload_n hx hb dX8_sort_66 rfl (lv_at hl 3 rfl) ?_
          refine lv_istore (lv' := [(5, .int (nI f)), (4, .int 0), (0, .ref h0), (1, .int (nI a1)), (2, .int (nI f)), (3, .int (nI t))]) hx hb dX8_sort_67 hl (by decide) rfl (fun ls hl => ?_)
          have hcpb := zl_cpb pnf (sz1 + f) (t - f)
          have LP19 : ∀ (N19 : Nat) (i : Nat) (w : Int32) (H : Heap) (locs : List Loc) (ls : Array Slot), (f ≤ i ∧ i ≤ t) → ((w = 0 ∧ zz_cp pnf (sz1 + f) (i - f) = 0) ∨ (w = 6 ∧ 0 < zz_cp pnf (sz1 + f) (t - f))) → (t - i) < N19 → zz_Z g A s.heap [cw_i g a_kindOf 60 kdf, cw_i g a_depthOf 60 dpf, cw_i g a_lengthOf 60 lnf, cw_i g a_baseOf 60 saf, cw_l g a_bits 4000 btf, cw_z g a_pinned 4000 pnf, cw_l g a_held 200 hef, cw_k7 h0 (nI na) (nI ne) a_kindOf a_depthOf a_lengthOf a_classOf a_baseOf a_bits a_pinned i_code a_lengths a_stackArray a_stackOther a_stackAt i_lastArray i_lastPlace a_path a_held a_alike a_hashes (nI nd) a_decisionArray a_decisionPlace a_candidateMany a_candidates (nI nr) a_ruleSort a_ruleArray a_ruleWeight a_ruleLow a_ruleHigh a_chosen a_bestOf (nI nm) a_markElements a_markBits a_markPins] H locs → lv_has ls 10 [(5, .int (nI i)), (4, .int w), (0, .ref h0), (1, .int (nI a1)), (2, .int (nI f)), (3, .int (nI t))] → W p l e rm_my_sort s m args below meth c H locs 0 0 (zz_QI below g args s A rm_my_sort.cells rm_my_sort.slots (po_my_sort g h0 a_kindOf a_depthOf a_lengthOf a_classOf a_baseOf a_bits a_pinned a_lengths a_stackArray a_stackOther a_stackAt a_path a_held a_alike a_hashes a_decisionArray a_decisionPlace a_candidateMany a_candidates a_ruleSort a_ruleArray a_ruleWeight a_ruleLow a_ruleHigh a_chosen a_bestOf a_markElements a_markBits a_markPins na ne nd nr nm i_code i_lastArray i_lastPlace kdf dpf lnf saf btf pnf hef x1 x2 x3 h_M)) (F0 m 69 ls []) := by
            intro N19
            induction N19 with
            | zero =>
              intro i w H locs ls hi hc hN19
              exact absurd hN19 (Nat.not_lt_zero _)
            | succ N19 ih19 =>
              intro i w H locs ls hi hc hN19 hZ hl
              refine lv_iload hx hb dX8_sort_69 (lv_at hl 0 rfl) ?_
              refine lv_iload_n hx hb dX8_sort_71 rfl (lv_at hl 5 rfl) ?_
              refine lv_icmp_ge (tgt := 111) hx hb dX8_sort_72 (by decide) (fun c20 => ?_) (fun c20 => ?_)
              · have nc20 : t ≤ i := (nI_leI (by omega) (by omega)).mp (show nI (t) ≤ nI (i) from c20)
                have d_w : (if zz_cp pnf (sz1 + f) (t - f) = 0 then (0 : Int32) else 6) = w := zl_cE1 (by omega) hc
                refine lv_iload hx hb dX8_sort_111 (lv_at hl 1 rfl) ?_
                refine lv_if_le (tgt := 123) hx hb dX8_sort_113 (by decide) (fun c21 => ?_) (fun c21 => ?_)
                · refine lv_aload_n hx hb dX8_sort_123 rfl (lv_at hl 2 rfl) ?_
                  refine zz_get hC hZ 7 rfl zf_X8_22 rfl dX8_sort_124 ?_
                  refine lv_iload_n hx hb dX8_sort_127 rfl (lv_at hl 3 rfl) ?_
                  refine zz_iald hC hZ 3 rfl (vp_in_nI (by omega) (by decide)) dX8_sort_128 ?_
                  rw [nI_clamp (n := a1) (by omega)]
                  refine zz_topi (v := nI sz1) (es1) ?_
                  refine lv_istore (lv' := [(5, .int (nI sz1)), (4, .int w), (0, .ref h0), (1, .int (nI a1)), (2, .int (nI f)), (3, .int (nI t))]) hx hb dX8_sort_129 hl (by decide) rfl (fun ls hl => ?_)
                  refine lv_iload_n hx hb dX8_sort_131 rfl (lv_at hl 4 rfl) ?_
                  refine lv_istore (lv' := [(6, .int (nI f)), (5, .int (nI sz1)), (4, .int w), (0, .ref h0), (1, .int (nI a1)), (2, .int (nI f)), (3, .int (nI t))]) hx hb dX8_sort_132 hl (by decide) rfl (fun ls hl => ?_)
                  have LP22 : ∀ (N22 : Nat) (i2 : Nat) (he1 : Nat → Int64) (H : Heap) (locs : List Loc) (ls : Array Slot), (i2 ≤ t) → (∀ k, f ≤ k → k < i2 → he1 k = btf (sz1 + k)) → (t - i2) < N22 → zz_Z g A s.heap [cw_i g a_kindOf 60 kdf, cw_i g a_depthOf 60 dpf, cw_i g a_lengthOf 60 lnf, cw_i g a_baseOf 60 saf, cw_l g a_bits 4000 btf, cw_z g a_pinned 4000 pnf, cw_l g a_held 200 he1, cw_k7 h0 (nI na) (nI ne) a_kindOf a_depthOf a_lengthOf a_classOf a_baseOf a_bits a_pinned i_code a_lengths a_stackArray a_stackOther a_stackAt i_lastArray i_lastPlace a_path a_held a_alike a_hashes (nI nd) a_decisionArray a_decisionPlace a_candidateMany a_candidates (nI nr) a_ruleSort a_ruleArray a_ruleWeight a_ruleLow a_ruleHigh a_chosen a_bestOf (nI nm) a_markElements a_markBits a_markPins] H locs → lv_has ls 10 [(6, .int (nI i2)), (5, .int (nI sz1)), (4, .int w), (0, .ref h0), (1, .int (nI a1)), (2, .int (nI f)), (3, .int (nI t))] → W p l e rm_my_sort s m args below meth c H locs 0 0 (zz_QI below g args s A rm_my_sort.cells rm_my_sort.slots (po_my_sort g h0 a_kindOf a_depthOf a_lengthOf a_classOf a_baseOf a_bits a_pinned a_lengths a_stackArray a_stackOther a_stackAt a_path a_held a_alike a_hashes a_decisionArray a_decisionPlace a_candidateMany a_candidates a_ruleSort a_ruleArray a_ruleWeight a_ruleLow a_ruleHigh a_chosen a_bestOf a_markElements a_markBits a_markPins na ne nd nr nm i_code i_lastArray i_lastPlace kdf dpf lnf saf btf pnf hef x1 x2 x3 h_M)) (F0 m 134 ls []) := by
                    intro N22
                    induction N22 with
                    | zero =>
                      intro i2 he1 H locs ls hi2 hhe hN22
                      exact absurd hN22 (Nat.not_lt_zero _)
                    | succ N22 ih22 =>
                      intro i2 he1 H locs ls hi2 hhe hN22 hZ hl
                      refine lv_iload hx hb dX8_sort_134 (lv_at hl 0 rfl) ?_
                      refine lv_iload_n hx hb dX8_sort_136 rfl (lv_at hl 6 rfl) ?_
                      refine lv_icmp_ge (tgt := 163) hx hb dX8_sort_137 (by decide) (fun c23 => ?_) (fun c23 => ?_)
                      · have nc23 : t ≤ i2 := (nI_leI (by omega) (by omega)).mp (show nI (t) ≤ nI (i2) from c23)
                        refine lv_iload_n hx hb dX8_sort_163 rfl (lv_at hl 5 rfl) ?_
                        refine lv_iconst (v := 1) hx hb dX8_sort_164 (by decide) ?_
                        refine lv_iadd hx hb dX8_sort_165 ?_
                        refine zz_topi (v := nI (f + 1)) (nI_1 _) ?_
                        refine lv_istore (lv' := [(6, .int (nI (f + 1))), (5, .int (nI sz1)), (4, .int w), (0, .ref h0), (1, .int (nI a1)), (2, .int (nI f)), (3, .int (nI t))]) hx hb dX8_sort_166 hl (by decide) rfl (fun ls hl => ?_)
                        have LP24 : ∀ (N24 : Nat) (i3 : Nat) (bt1 : Nat → Int64) (H : Heap) (locs : List Loc) (ls : Array Slot), (f < i3 ∧ i3 ≤ t + 1) → (zz_MI na ne dpf saf lnf bt1) → (∀ j, j < sz1 ∨ sz1 + lz1 ≤ j → bt1 j = btf j) → (sp_is (fn_cm_orderNumber (kdf a1)) (sz1 + f) (t - (f + 1)) (sz1 + (f + 1)) btf = sp_is (fn_cm_orderNumber (kdf a1)) (sz1 + f) (t - i3) (sz1 + i3) bt1) → (t - i3) < N24 → zz_Z g A s.heap [cw_i g a_kindOf 60 kdf, cw_i g a_depthOf 60 dpf, cw_i g a_lengthOf 60 lnf, cw_i g a_baseOf 60 saf, cw_l g a_bits 4000 bt1, cw_z g a_pinned 4000 pnf, cw_l g a_held 200 he1, cw_k7 h0 (nI na) (nI ne) a_kindOf a_depthOf a_lengthOf a_classOf a_baseOf a_bits a_pinned i_code a_lengths a_stackArray a_stackOther a_stackAt i_lastArray i_lastPlace a_path a_held a_alike a_hashes (nI nd) a_decisionArray a_decisionPlace a_candidateMany a_candidates (nI nr) a_ruleSort a_ruleArray a_ruleWeight a_ruleLow a_ruleHigh a_chosen a_bestOf (nI nm) a_markElements a_markBits a_markPins] H locs → lv_has ls 10 [(6, .int (nI i3)), (5, .int (nI sz1)), (4, .int w), (0, .ref h0), (1, .int (nI a1)), (2, .int (nI f)), (3, .int (nI t))] → W p l e rm_my_sort s m args below meth c H locs 0 0 (zz_QI below g args s A rm_my_sort.cells rm_my_sort.slots (po_my_sort g h0 a_kindOf a_depthOf a_lengthOf a_classOf a_baseOf a_bits a_pinned a_lengths a_stackArray a_stackOther a_stackAt a_path a_held a_alike a_hashes a_decisionArray a_decisionPlace a_candidateMany a_candidates a_ruleSort a_ruleArray a_ruleWeight a_ruleLow a_ruleHigh a_chosen a_bestOf a_markElements a_markBits a_markPins na ne nd nr nm i_code i_lastArray i_lastPlace kdf dpf lnf saf btf pnf hef x1 x2 x3 h_M)) (F0 m 168 ls []) := by
                          intro N24
                          induction N24 with
                          | zero =>
                            intro i3 bt1 H locs ls hi3 hM1 hk1 his hN24
                            exact absurd hN24 (Nat.not_lt_zero _)
                          | succ N24 ih24 =>
                            intro i3 bt1 H locs ls hi3 hM1 hk1 his hN24 hZ hl
                            refine lv_iload hx hb dX8_sort_168 (lv_at hl 0 rfl) ?_
                            refine lv_iload_n hx hb dX8_sort_170 rfl (lv_at hl 6 rfl) ?_
                            refine lv_icmp_ge (tgt := 278) hx hb dX8_sort_171 (by decide) (fun c25 => ?_) (fun c25 => ?_)
                            · have nc25 : t ≤ i3 := (nI_leI (by omega) (by omega)).mp (show nI (t) ≤ nI (i3) from c25)
                              have d_bt1 : sp_is (fn_cm_orderNumber (kdf a1)) (sz1 + f) (t - (f + 1)) (sz1 + (f + 1)) btf = bt1 := by rw [his, show t - i3 = 0 by omega, sp_is]
                              refine lv_iconst (v := 0) hx hb dX8_sort_278 (by decide) ?_
                              refine lv_istore (lv' := [(6, .int 0), (5, .int (nI sz1)), (4, .int w), (0, .ref h0), (1, .int (nI a1)), (2, .int (nI f)), (3, .int (nI t))]) hx hb dX8_sort_279 hl (by decide) rfl (fun ls hl => ?_)
                              refine lv_iload_n hx hb dX8_sort_281 rfl (lv_at hl 5 rfl) ?_
                              refine lv_istore (lv' := [(7, .int (nI f)), (6, .int 0), (5, .int (nI sz1)), (4, .int w), (0, .ref h0), (1, .int (nI a1)), (2, .int (nI f)), (3, .int (nI t))]) hx hb dX8_sort_282 hl (by decide) rfl (fun ls hl => ?_)
                              have LP26 : ∀ (N26 : Nat) (i5 : Nat) (w5 : Int32) (H : Heap) (locs : List Loc) (ls : Array Slot), (f ≤ i5 ∧ i5 ≤ t) → (sp_ce bt1 btf sz1 (t - f) f 0 = sp_ce bt1 btf sz1 (t - i5) i5 w5) → (t - i5) < N26 → zz_Z g A s.heap [cw_i g a_kindOf 60 kdf, cw_i g a_depthOf 60 dpf, cw_i g a_lengthOf 60 lnf, cw_i g a_baseOf 60 saf, cw_l g a_bits 4000 bt1, cw_z g a_pinned 4000 pnf, cw_l g a_held 200 he1, cw_k7 h0 (nI na) (nI ne) a_kindOf a_depthOf a_lengthOf a_classOf a_baseOf a_bits a_pinned i_code a_lengths a_stackArray a_stackOther a_stackAt i_lastArray i_lastPlace a_path a_held a_alike a_hashes (nI nd) a_decisionArray a_decisionPlace a_candidateMany a_candidates (nI nr) a_ruleSort a_ruleArray a_ruleWeight a_ruleLow a_ruleHigh a_chosen a_bestOf (nI nm) a_markElements a_markBits a_markPins] H locs → lv_has ls 10 [(7, .int (nI i5)), (6, .int w5), (5, .int (nI sz1)), (4, .int w), (0, .ref h0), (1, .int (nI a1)), (2, .int (nI f)), (3, .int (nI t))] → W p l e rm_my_sort s m args below meth c H locs 0 0 (zz_QI below g args s A rm_my_sort.cells rm_my_sort.slots (po_my_sort g h0 a_kindOf a_depthOf a_lengthOf a_classOf a_baseOf a_bits a_pinned a_lengths a_stackArray a_stackOther a_stackAt a_path a_held a_alike a_hashes a_decisionArray a_decisionPlace a_candidateMany a_candidates a_ruleSort a_ruleArray a_ruleWeight a_ruleLow a_ruleHigh a_chosen a_bestOf a_markElements a_markBits a_markPins na ne nd nr nm i_code i_lastArray i_lastPlace kdf dpf lnf saf btf pnf hef x1 x2 x3 h_M)) (F0 m 284 ls []) := by
                                intro N26
                                induction N26 with
                                | zero =>
                                  intro i5 w5 H locs ls hi5 hce hN26
                                  exact absurd hN26 (Nat.not_lt_zero _)
                                | succ N26 ih26 =>
                                  intro i5 w5 H locs ls hi5 hce hN26 hZ hl
                                  refine lv_iload hx hb dX8_sort_284 (lv_at hl 0 rfl) ?_
                                  refine lv_iload_n hx hb dX8_sort_286 rfl (lv_at hl 7 rfl) ?_
                                  refine lv_icmp_ge (tgt := 327) hx hb dX8_sort_287 (by decide) (fun c27 => ?_) (fun c27 => ?_)
                                  · have nc27 : t ≤ i5 := (nI_leI (by omega) (by omega)).mp (show nI (t) ≤ nI (i5) from c27)
                                    have d_w5 : sp_ce bt1 btf sz1 (t - f) f 0 = w5 := by rw [hce, show t - i5 = 0 by omega, sp_ce]
                                    refine lv_aload_n hx hb dX8_sort_327 rfl (lv_at hl 4 rfl) ?_
                                    refine lv_iload hx hb dX8_sort_328 (lv_at hl 1 rfl) ?_
                                    refine zz_iV (As := [.int w5]) (wc := [cw_k7 h0 (nI na) (nI ne) a_kindOf a_depthOf a_lengthOf a_classOf a_baseOf a_bits a_pinned i_code a_lengths a_stackArray a_stackOther a_stackAt i_lastArray i_lastPlace a_path a_held a_alike a_hashes (nI nd) a_decisionArray a_decisionPlace a_candidateMany a_candidates (nI nr) a_ruleSort a_ruleArray a_ruleWeight a_ruleLow a_ruleHigh a_chosen a_bestOf (nI nm) a_markElements a_markBits a_markPins]) (wr := [cw_i g a_kindOf 60 kdf, cw_i g a_depthOf 60 dpf, cw_i g a_lengthOf 60 lnf, cw_i g a_baseOf 60 saf, cw_l g a_bits 4000 bt1, cw_z g a_pinned 4000 pnf, cw_l g a_held 200 he1]) (rest := []) hC hZ hs hl zc_X8_183 (cm_fine g h0 a_kindOf a_depthOf a_lengthOf a_classOf a_baseOf a_bits a_pinned a_lengths a_stackArray a_stackOther a_stackAt a_path a_held a_alike a_hashes a_decisionArray a_decisionPlace a_candidateMany a_candidates a_ruleSort a_ruleArray a_ruleWeight a_ruleLow a_ruleHigh a_chosen a_bestOf a_markElements a_markBits a_markPins (nI na) (nI ne) i_code i_lastArray i_lastPlace (nI nd) (nI nr) (nI nm) w5) [7] [0, 1, 2, 3, 4, 5, 6] rfl rfl (by decide +kernel) (ci := 7) (q0 := 0) rfl rfl rfl rfl (Nat.le_of_ble_eq_true rfl) ⟨⟨Nat.le_of_ble_eq_true rfl, Nat.le_of_ble_eq_true rfl⟩, Nat.le_of_ble_eq_true rfl, Nat.le_of_ble_eq_true rfl⟩ dX8_sort_330 (fun r28 u29 H locs hp hZ => ?_)
                                    obtain ⟨rfl, rfl⟩ := hp
                                    have hZ : zz_Z g A s.heap [cw_i g a_kindOf 60 kdf, cw_i g a_depthOf 60 dpf, cw_i g a_lengthOf 60 lnf, cw_i g a_baseOf 60 saf, cw_l g a_bits 4000 bt1, cw_z g a_pinned 4000 pnf, cw_l g a_held 200 he1, cw_k7 h0 (nI na) (nI ne) a_kindOf a_depthOf a_lengthOf a_classOf a_baseOf a_bits a_pinned 0 a_lengths a_stackArray a_stackOther a_stackAt i_lastArray i_lastPlace a_path a_held a_alike a_hashes (nI nd) a_decisionArray a_decisionPlace a_candidateMany a_candidates (nI nr) a_ruleSort a_ruleArray a_ruleWeight a_ruleLow a_ruleHigh a_chosen a_bestOf (nI nm) a_markElements a_markBits a_markPins] H locs := hZ
                                    have hZ : zz_Z g A s.heap [cw_k7 h0 (nI na) (nI ne) a_kindOf a_depthOf a_lengthOf a_classOf a_baseOf a_bits a_pinned 0 a_lengths a_stackArray a_stackOther a_stackAt i_lastArray i_lastPlace a_path a_held a_alike a_hashes (nI nd) a_decisionArray a_decisionPlace a_candidateMany a_candidates (nI nr) a_ruleSort a_ruleArray a_ruleWeight a_ruleLow a_ruleHigh a_chosen a_bestOf (nI nm) a_markElements a_markBits a_markPins, cw_i g a_kindOf 60 kdf, cw_i g a_depthOf 60 dpf, cw_i g a_lengthOf 60 lnf, cw_i g a_baseOf 60 saf, cw_l g a_bits 4000 bt1, cw_z g a_pinned 4000 pnf, cw_l g a_held 200 he1] H locs := hZ.sub [7, 0, 1, 2, 3, 4, 5, 6] (by decide +kernel) rfl
                                    exact zz_iret hC hZ (⟨0, i_lastArray, i_lastPlace, bt1, he1, by refine Eq.symm ?_; rw [fo_my_sort]; refine (if_neg (by (try simp only [d_a1, d_sz1, d_lz1, d_dz1, d_f, d_t, d_w, d_bt1, d_w5]); exact c3)).trans ?_; refine (if_pos (by (try simp only [d_a1, d_sz1, d_lz1, d_dz1, d_f, d_t, d_w, d_bt1, d_w5]); exact c4)).trans ?_; refine (if_neg (by (try simp only [d_a1, d_sz1, d_lz1, d_dz1, d_f, d_t, d_w, d_bt1, d_w5]); exact c7)).trans ?_; refine (if_neg (by (try simp only [d_a1, d_sz1, d_lz1, d_dz1, d_f, d_t, d_w, d_bt1, d_w5]); exact c18)).trans ?_; refine (if_pos (by (try simp only [d_a1, d_sz1, d_lz1, d_dz1, d_f, d_t, d_w, d_bt1, d_w5]); exact c21)).trans ?_; first | (simp only [d_a1, d_sz1, d_lz1, d_dz1, d_f, d_t, d_w, d_bt1, d_w5]; done) | rfl, hM1, zz_D1.of ha1 (by rw [ed1, show dz1 = 1 by omega]) es1 el1 (by omega) (by omega) hk1, rfl⟩) (Nat.le_of_ble_eq_true rfl) (Nat.le_of_ble_eq_true rfl) dX8_sort_333
                                  · have nc27 : ¬ t ≤ i5 := fun zq => c27 (show nI (t) ≤ nI (i5) from (nI_leI (by omega) (by omega)).mpr zq)
                                    refine lv_iload hx hb dX8_sort_290 (lv_at hl 1 rfl) ?_
                                    refine lv_aload_n hx hb dX8_sort_292 rfl (lv_at hl 4 rfl) ?_
                                    refine zz_get hC hZ 7 rfl zf_X8_48 rfl dX8_sort_293 ?_
                                    refine lv_iload hx hb dX8_sort_296 (lv_at hl 0 rfl) ?_
                                    refine zz_lald hC hZ 6 rfl (vp_in_nI (by omega) (by decide)) dX8_sort_298 ?_
                                    rw [nI_clamp (n := i5) (by omega)]
                                    refine lv_aload_n hx hb dX8_sort_299 rfl (lv_at hl 4 rfl) ?_
                                    refine zz_get hC hZ 7 rfl zf_X8_25 rfl dX8_sort_300 ?_
                                    refine lv_iload hx hb dX8_sort_303 (lv_at hl 2 rfl) ?_
                                    refine lv_iload hx hb dX8_sort_305 (lv_at hl 0 rfl) ?_
                                    refine lv_iadd hx hb dX8_sort_307 ?_
                                    refine zz_topi (v := nI (sz1 + i5)) (nI_add _ _) ?_
                                    refine zz_lald hC hZ 4 rfl (vp_in_nI (by omega) (by decide)) dX8_sort_308 ?_
                                    rw [nI_clamp (n := (sz1 + i5)) (by omega)]
                                    refine zz_lcmp_eq (tgt := 317) hC dX8_sort_309 dX8_sort_310 (by decide) (fun c30 => ?_) (fun c30 => ?_)
                                    · refine lv_iconst (v := 0) hx hb dX8_sort_317 (by decide) ?_
                                      refine lv_iadd hx hb dX8_sort_318 ?_
                                      refine lv_istore (lv' := [(6, .int (w5 + 0)), (7, .int (nI i5)), (5, .int (nI sz1)), (4, .int w), (0, .ref h0), (1, .int (nI a1)), (2, .int (nI f)), (3, .int (nI t))]) hx hb dX8_sort_319 hl (by decide) rfl (fun ls hl => ?_)
                                      refine lv_iinc (v := nI (i5 + 1)) (lv' := [(7, .int (nI (i5 + 1))), (6, .int (w5 + 0)), (5, .int (nI sz1)), (4, .int w), (0, .ref h0), (1, .int (nI a1)), (2, .int (nI f)), (3, .int (nI t))]) hx hb dX8_sort_321 hl (k := 1) rfl (nI_1 _) (by decide) rfl (fun ls hl => ?_)
                                      refine lv_goto (tgt := 284) hx hb dX8_sort_324 (by decide) ?_
                                      exact ih26 (i5 + 1) (w5 + 0) H locs ls (by omega) (by rw [hce, show t - i5 = (t - (i5 + 1)) + 1 by omega, sp_ce, if_pos ((hhe i5 (by omega) (by omega)).symm.trans c30)]) (by omega) hZ (lv_sub hl [0, 1, 2, 3, 4, 5, 6, 7] rfl)
                                    · refine lv_iconst (v := 1) hx hb dX8_sort_313 (by decide) ?_
                                      refine lv_goto (tgt := 318) hx hb dX8_sort_314 (by decide) ?_
                                      refine lv_iadd hx hb dX8_sort_318 ?_
                                      refine lv_istore (lv' := [(6, .int (w5 + 1)), (7, .int (nI i5)), (5, .int (nI sz1)), (4, .int w), (0, .ref h0), (1, .int (nI a1)), (2, .int (nI f)), (3, .int (nI t))]) hx hb dX8_sort_319 hl (by decide) rfl (fun ls hl => ?_)
                                      refine lv_iinc (v := nI (i5 + 1)) (lv' := [(7, .int (nI (i5 + 1))), (6, .int (w5 + 1)), (5, .int (nI sz1)), (4, .int w), (0, .ref h0), (1, .int (nI a1)), (2, .int (nI f)), (3, .int (nI t))]) hx hb dX8_sort_321 hl (k := 1) rfl (nI_1 _) (by decide) rfl (fun ls hl => ?_)
                                      refine lv_goto (tgt := 284) hx hb dX8_sort_324 (by decide) ?_
                                      exact ih26 (i5 + 1) (w5 + 1) H locs ls (by omega) (by rw [hce, show t - i5 = (t - (i5 + 1)) + 1 by omega, sp_ce, if_neg (fun z => c30 ((hhe i5 (by omega) (by omega)).trans z))]) (by omega) hZ (lv_sub hl [0, 1, 2, 3, 4, 5, 6, 7] rfl)
                              exact LP26 _ f 0 H locs ls (by omega) (rfl) (Nat.lt_succ_self _) hZ (lv_sub hl [0, 1, 2, 3, 4, 5, 6, 7] rfl)
                            · have nc25 : ¬ t ≤ i3 := fun zq => c25 (show nI (t) ≤ nI (i3) from (nI_leI (by omega) (by omega)).mpr zq)
                              refine lv_aload_n hx hb dX8_sort_174 rfl (lv_at hl 3 rfl) ?_
                              refine zz_get hC hZ 7 rfl zf_X8_25 rfl dX8_sort_175 ?_
                              refine lv_iload hx hb dX8_sort_178 (lv_at hl 1 rfl) ?_
                              refine lv_iload hx hb dX8_sort_180 (lv_at hl 0 rfl) ?_
                              refine lv_iadd hx hb dX8_sort_182 ?_
                              refine zz_topi (v := nI (sz1 + i3)) (nI_add _ _) ?_
                              refine zz_lald hC hZ 4 rfl (vp_in_nI (by omega) (by decide)) dX8_sort_183 ?_
                              rw [nI_clamp (n := (sz1 + i3)) (by omega)]
                              refine lv_lstore (lv' := [(7, .long (bt1 (sz1 + i3))), (6, .int (nI i3)), (5, .int (nI sz1)), (4, .int w), (0, .ref h0), (1, .int (nI a1)), (2, .int (nI f)), (3, .int (nI t))]) hx hb dX8_sort_184 hl (by decide) rfl (fun ls hl => ?_)
                              refine lv_iload hx hb dX8_sort_186 (lv_at hl 1 rfl) ?_
                              refine lv_istore (lv' := [(9, .int (nI i3)), (7, .long (bt1 (sz1 + i3))), (6, .int (nI i3)), (5, .int (nI sz1)), (4, .int w), (0, .ref h0), (1, .int (nI a1)), (2, .int (nI f)), (3, .int (nI t))]) hx hb dX8_sort_188 hl (by decide) rfl (fun ls hl => ?_)
                              have LP31 : ∀ (N31 : Nat) (i4 : Nat) (bt4 : Nat → Int64) (H : Heap) (locs : List Loc) (ls : Array Slot), (f ≤ i4 ∧ i4 ≤ i3 ∧ i4 < t) → (zz_MI na ne dpf saf lnf bt4) → (∀ j, j < sz1 ∨ sz1 + lz1 ≤ j → bt4 j = btf j) → (∀ j, bt4 j = if sz1 + i4 < j ∧ j ≤ sz1 + i3 then bt1 (j - 1) else bt1 j) → (zz_ps (fn_cm_orderNumber (kdf a1)) bt1 (sz1 + f) (fn_cm_orderNumber (kdf a1) (bt1 (sz1 + i3))) (sz1 + i3) = zz_ps (fn_cm_orderNumber (kdf a1)) bt1 (sz1 + f) (fn_cm_orderNumber (kdf a1) (bt1 (sz1 + i3))) (sz1 + i4)) → i4 < N31 → zz_Z g A s.heap [cw_i g a_kindOf 60 kdf, cw_i g a_depthOf 60 dpf, cw_i g a_lengthOf 60 lnf, cw_i g a_baseOf 60 saf, cw_l g a_bits 4000 bt4, cw_z g a_pinned 4000 pnf, cw_l g a_held 200 he1, cw_k7 h0 (nI na) (nI ne) a_kindOf a_depthOf a_lengthOf a_classOf a_baseOf a_bits a_pinned i_code a_lengths a_stackArray a_stackOther a_stackAt i_lastArray i_lastPlace a_path a_held a_alike a_hashes (nI nd) a_decisionArray a_decisionPlace a_candidateMany a_candidates (nI nr) a_ruleSort a_ruleArray a_ruleWeight a_ruleLow a_ruleHigh a_chosen a_bestOf (nI nm) a_markElements a_markBits a_markPins] H locs → lv_has ls 10 [(9, .int (nI i4)), (7, .long (bt1 (sz1 + i3))), (6, .int (nI i3)), (5, .int (nI sz1)), (4, .int w), (0, .ref h0), (1, .int (nI a1)), (2, .int (nI f)), (3, .int (nI t))] → W p l e rm_my_sort s m args below meth c H locs 0 0 (zz_QI below g args s A rm_my_sort.cells rm_my_sort.slots (po_my_sort g h0 a_kindOf a_depthOf a_lengthOf a_classOf a_baseOf a_bits a_pinned a_lengths a_stackArray a_stackOther a_stackAt a_path a_held a_alike a_hashes a_decisionArray a_decisionPlace a_candidateMany a_candidates a_ruleSort a_ruleArray a_ruleWeight a_ruleLow a_ruleHigh a_chosen a_bestOf a_markElements a_markBits a_markPins na ne nd nr nm i_code i_lastArray i_lastPlace kdf dpf lnf saf btf pnf hef x1 x2 x3 h_M)) (F0 m 190 ls []) := by
                                intro N31
                                induction N31 with
                                | zero =>
                                  intro i4 bt4 H locs ls hi4 hM4 hk4 hsh hps hN31
                                  exact absurd hN31 (Nat.not_lt_zero _)
                                | succ N31 ih31 =>
                                  intro i4 bt4 H locs ls hi4 hM4 hk4 hsh hps hN31 hZ hl
                                  refine lv_iload hx hb dX8_sort_190 (lv_at hl 0 rfl) ?_
                                  refine lv_iload_n hx hb dX8_sort_192 rfl (lv_at hl 7 rfl) ?_
                                  refine lv_icmp_le (tgt := 260) hx hb dX8_sort_193 (by decide) (fun c32 => ?_) (fun c32 => ?_)
                                  · have nc32 : i4 ≤ f := (nI_leI (by omega) (by omega)).mp (show nI (i4) ≤ nI (f) from c32)
                                    refine lv_aload_n hx hb dX8_sort_260 rfl (lv_at hl 5 rfl) ?_
                                    refine zz_get hC hZ 7 rfl zf_X8_25 rfl dX8_sort_261 ?_
                                    refine lv_iload hx hb dX8_sort_264 (lv_at hl 3 rfl) ?_
                                    refine lv_iload hx hb dX8_sort_266 (lv_at hl 0 rfl) ?_
                                    refine lv_iadd hx hb dX8_sort_268 ?_
                                    refine zz_topi (v := nI (sz1 + i4)) (nI_add _ _) ?_
                                    refine lv_lload hx hb dX8_sort_269 (lv_at hl 1 rfl) ?_
                                    refine zz_last hC hZ 4 rfl (vp_in_nI (by omega) (by decide)) dX8_sort_271 (fun H locs hZ => ?_)
                                    rw [nI_clamp (n := (sz1 + i4)) (by omega)] at hZ
                                    have hZ : zz_Z g A s.heap [cw_i g a_kindOf 60 kdf, cw_i g a_depthOf 60 dpf, cw_i g a_lengthOf 60 lnf, cw_i g a_baseOf 60 saf, cw_l g a_bits 4000 (vp_updL bt4 (sz1 + i4) (bt1 (sz1 + i3))), cw_z g a_pinned 4000 pnf, cw_l g a_held 200 he1, cw_k7 h0 (nI na) (nI ne) a_kindOf a_depthOf a_lengthOf a_classOf a_baseOf a_bits a_pinned i_code a_lengths a_stackArray a_stackOther a_stackAt i_lastArray i_lastPlace a_path a_held a_alike a_hashes (nI nd) a_decisionArray a_decisionPlace a_candidateMany a_candidates (nI nr) a_ruleSort a_ruleArray a_ruleWeight a_ruleLow a_ruleHigh a_chosen a_bestOf (nI nm) a_markElements a_markBits a_markPins] H locs := hZ
                                    refine lv_iinc (v := nI (i3 + 1)) (lv' := [(6, .int (nI (i3 + 1))), (9, .int (nI i4)), (7, .long (bt1 (sz1 + i3))), (5, .int (nI sz1)), (4, .int w), (0, .ref h0), (1, .int (nI a1)), (2, .int (nI f)), (3, .int (nI t))]) hx hb dX8_sort_272 hl (k := 2) rfl (nI_1 _) (by decide) rfl (fun ls hl => ?_)
                                    refine lv_goto (tgt := 168) hx hb dX8_sort_275 (by decide) ?_
                                    have hpe := hps.trans (zl_psE (R := fn_cm_orderNumber (kdf a1)) (bt := bt1) (Or.inl (by omega)))
                                    exact ih24 (i3 + 1) (vp_updL bt4 (sz1 + i4) (bt1 (sz1 + i3))) H locs ls (by omega) (zl_set hM4 ha1 es1 el1 ed1 (by omega) (by omega) (by omega) (show i4 < lz1 by omega) (fun hz => absurd hz (by omega))) (fun j hj => (pk_uLn (by omega)).trans (hk4 j hj)) (by rw [his, show t - i3 = (t - (i3 + 1)) + 1 by omega, sp_is, hpe, ← zl_shE hsh] <;> rfl) (by omega) hZ (lv_sub hl [0, 3, 4, 5, 6, 7, 8] rfl)
                                  · have nc32 : ¬ i4 ≤ f := fun zq => c32 (show nI (i4) ≤ nI (f) from (nI_leI (by omega) (by omega)).mpr zq)
                                    refine lv_aload_n hx hb dX8_sort_196 rfl (lv_at hl 5 rfl) ?_
                                    refine zz_get hC hZ 7 rfl zf_X8_7 rfl dX8_sort_197 ?_
                                    refine lv_iload_n hx hb dX8_sort_200 rfl (lv_at hl 6 rfl) ?_
                                    refine zz_iald hC hZ 0 rfl (vp_in_nI (by omega) (by decide)) dX8_sort_201 ?_
                                    rw [nI_clamp (n := a1) (by omega)]
                                    refine lv_aload_n hx hb dX8_sort_202 rfl (lv_at hl 5 rfl) ?_
                                    refine zz_get hC hZ 7 rfl zf_X8_25 rfl dX8_sort_203 ?_
                                    refine lv_iload hx hb dX8_sort_206 (lv_at hl 3 rfl) ?_
                                    refine lv_iload hx hb dX8_sort_208 (lv_at hl 0 rfl) ?_
                                    refine lv_iadd hx hb dX8_sort_210 ?_
                                    refine zz_topi (v := nI (sz1 + i4)) (nI_add _ _) ?_
                                    refine lv_iconst (v := 1) hx hb dX8_sort_211 (by decide) ?_
                                    refine lv_isub hx hb dX8_sort_212 ?_
                                    refine zz_topi (v := nI ((sz1 + i4) - 1)) (pk_sub (b := 1) (by omega)) ?_
                                    refine zz_lald hC hZ 4 rfl (vp_in_nI (by omega) (by decide)) dX8_sort_213 ?_
                                    rw [nI_clamp (n := ((sz1 + i4) - 1)) (by omega)]
                                    refine zz_lS (As := [.int (kdf a1), .long (bt4 ((sz1 + i4) - 1))]) (wc := []) (wr := [cw_i g a_kindOf 60 kdf, cw_i g a_depthOf 60 dpf, cw_i g a_lengthOf 60 lnf, cw_i g a_baseOf 60 saf, cw_l g a_bits 4000 bt4, cw_z g a_pinned 4000 pnf, cw_l g a_held 200 he1, cw_k7 h0 (nI na) (nI ne) a_kindOf a_depthOf a_lengthOf a_classOf a_baseOf a_bits a_pinned i_code a_lengths a_stackArray a_stackOther a_stackAt i_lastArray i_lastPlace a_path a_held a_alike a_hashes (nI nd) a_decisionArray a_decisionPlace a_candidateMany a_candidates (nI nr) a_ruleSort a_ruleArray a_ruleWeight a_ruleLow a_ruleHigh a_chosen a_bestOf (nI nm) a_markElements a_markBits a_markPins]) (rest := []) hC hZ hs hl zc_X8_239 (cm_orderNumber g (kdf a1) (bt4 ((sz1 + i4) - 1))) [] [0, 1, 2, 3, 4, 5, 6, 7] rfl rfl (by decide +kernel) rfl rfl (Nat.le_of_ble_eq_true rfl) ⟨⟨Nat.le_of_ble_eq_true rfl, Nat.le_of_ble_eq_true rfl⟩, Nat.le_of_ble_eq_true rfl, Nat.le_of_ble_eq_true rfl⟩ dX8_sort_214 (fun r33 u34 H locs hp hZ => ?_)
                                    obtain ⟨rfl, rfl⟩ := hp
                                    have hZ : zz_Z g A s.heap [cw_i g a_kindOf 60 kdf, cw_i g a_depthOf 60 dpf, cw_i g a_lengthOf 60 lnf, cw_i g a_baseOf 60 saf, cw_l g a_bits 4000 bt4, cw_z g a_pinned 4000 pnf, cw_l g a_held 200 he1, cw_k7 h0 (nI na) (nI ne) a_kindOf a_depthOf a_lengthOf a_classOf a_baseOf a_bits a_pinned i_code a_lengths a_stackArray a_stackOther a_stackAt i_lastArray i_lastPlace a_path a_held a_alike a_hashes (nI nd) a_decisionArray a_decisionPlace a_candidateMany a_candidates (nI nr) a_ruleSort a_ruleArray a_ruleWeight a_ruleLow a_ruleHigh a_chosen a_bestOf (nI nm) a_markElements a_markBits a_markPins] H locs := hZ
                                    refine lv_aload_n hx hb dX8_sort_217 rfl (lv_at hl 5 rfl) ?_
                                    refine zz_get hC hZ 7 rfl zf_X8_7 rfl dX8_sort_218 ?_
                                    refine lv_iload_n hx hb dX8_sort_221 rfl (lv_at hl 6 rfl) ?_
                                    refine zz_iald hC hZ 0 rfl (vp_in_nI (by omega) (by decide)) dX8_sort_222 ?_
                                    rw [nI_clamp (n := a1) (by omega)]
                                    refine lv_lload hx hb dX8_sort_223 (lv_at hl 1 rfl) ?_
                                    refine zz_lS (As := [.int (kdf a1), .long (bt1 (sz1 + i3))]) (wc := []) (wr := [cw_i g a_kindOf 60 kdf, cw_i g a_depthOf 60 dpf, cw_i g a_lengthOf 60 lnf, cw_i g a_baseOf 60 saf, cw_l g a_bits 4000 bt4, cw_z g a_pinned 4000 pnf, cw_l g a_held 200 he1, cw_k7 h0 (nI na) (nI ne) a_kindOf a_depthOf a_lengthOf a_classOf a_baseOf a_bits a_pinned i_code a_lengths a_stackArray a_stackOther a_stackAt i_lastArray i_lastPlace a_path a_held a_alike a_hashes (nI nd) a_decisionArray a_decisionPlace a_candidateMany a_candidates (nI nr) a_ruleSort a_ruleArray a_ruleWeight a_ruleLow a_ruleHigh a_chosen a_bestOf (nI nm) a_markElements a_markBits a_markPins]) (rest := [.long (fn_cm_orderNumber (kdf a1) (bt4 ((sz1 + i4) - 1)))]) hC hZ hs hl zc_X8_239 (cm_orderNumber g (kdf a1) (bt1 (sz1 + i3))) [] [0, 1, 2, 3, 4, 5, 6, 7] rfl rfl (by decide +kernel) rfl rfl (Nat.le_of_ble_eq_true rfl) ⟨⟨Nat.le_of_ble_eq_true rfl, Nat.le_of_ble_eq_true rfl⟩, Nat.le_of_ble_eq_true rfl, Nat.le_of_ble_eq_true rfl⟩ dX8_sort_225 (fun r35 u36 H locs hp hZ => ?_)
                                    obtain ⟨rfl, rfl⟩ := hp
                                    have hZ : zz_Z g A s.heap [cw_i g a_kindOf 60 kdf, cw_i g a_depthOf 60 dpf, cw_i g a_lengthOf 60 lnf, cw_i g a_baseOf 60 saf, cw_l g a_bits 4000 bt4, cw_z g a_pinned 4000 pnf, cw_l g a_held 200 he1, cw_k7 h0 (nI na) (nI ne) a_kindOf a_depthOf a_lengthOf a_classOf a_baseOf a_bits a_pinned i_code a_lengths a_stackArray a_stackOther a_stackAt i_lastArray i_lastPlace a_path a_held a_alike a_hashes (nI nd) a_decisionArray a_decisionPlace a_candidateMany a_candidates (nI nr) a_ruleSort a_ruleArray a_ruleWeight a_ruleLow a_ruleHigh a_chosen a_bestOf (nI nm) a_markElements a_markBits a_markPins] H locs := hZ
                                    refine zz_lcmp_le (tgt := 260) hC dX8_sort_228 dX8_sort_229 (by decide) (fun c37 => ?_) (fun c37 => ?_)
                                    · refine lv_aload_n hx hb dX8_sort_260 rfl (lv_at hl 5 rfl) ?_
                                      refine zz_get hC hZ 7 rfl zf_X8_25 rfl dX8_sort_261 ?_
                                      refine lv_iload hx hb dX8_sort_264 (lv_at hl 3 rfl) ?_
                                      refine lv_iload hx hb dX8_sort_266 (lv_at hl 0 rfl) ?_
                                      refine lv_iadd hx hb dX8_sort_268 ?_
                                      refine zz_topi (v := nI (sz1 + i4)) (nI_add _ _) ?_
                                      refine lv_lload hx hb dX8_sort_269 (lv_at hl 1 rfl) ?_
                                      refine zz_last hC hZ 4 rfl (vp_in_nI (by omega) (by decide)) dX8_sort_271 (fun H locs hZ => ?_)
                                      rw [nI_clamp (n := (sz1 + i4)) (by omega)] at hZ
                                      have hZ : zz_Z g A s.heap [cw_i g a_kindOf 60 kdf, cw_i g a_depthOf 60 dpf, cw_i g a_lengthOf 60 lnf, cw_i g a_baseOf 60 saf, cw_l g a_bits 4000 (vp_updL bt4 (sz1 + i4) (bt1 (sz1 + i3))), cw_z g a_pinned 4000 pnf, cw_l g a_held 200 he1, cw_k7 h0 (nI na) (nI ne) a_kindOf a_depthOf a_lengthOf a_classOf a_baseOf a_bits a_pinned i_code a_lengths a_stackArray a_stackOther a_stackAt i_lastArray i_lastPlace a_path a_held a_alike a_hashes (nI nd) a_decisionArray a_decisionPlace a_candidateMany a_candidates (nI nr) a_ruleSort a_ruleArray a_ruleWeight a_ruleLow a_ruleHigh a_chosen a_bestOf (nI nm) a_markElements a_markBits a_markPins] H locs := hZ
                                      refine lv_iinc (v := nI (i3 + 1)) (lv' := [(6, .int (nI (i3 + 1))), (9, .int (nI i4)), (7, .long (bt1 (sz1 + i3))), (5, .int (nI sz1)), (4, .int w), (0, .ref h0), (1, .int (nI a1)), (2, .int (nI f)), (3, .int (nI t))]) hx hb dX8_sort_272 hl (k := 2) rfl (nI_1 _) (by decide) rfl (fun ls hl => ?_)
                                      refine lv_goto (tgt := 168) hx hb dX8_sort_275 (by decide) ?_
                                      have hpe := hps.trans (zl_psE (R := fn_cm_orderNumber (kdf a1)) (bt := bt1) (Or.inr (by have z := c37; rw [hsh, if_neg (by omega)] at z; exact z)))
                                      exact ih24 (i3 + 1) (vp_updL bt4 (sz1 + i4) (bt1 (sz1 + i3))) H locs ls (by omega) (zl_set hM4 ha1 es1 el1 ed1 (by omega) (by omega) (by omega) (show i4 < lz1 by omega) (fun hz => absurd hz (by omega))) (fun j hj => (pk_uLn (by omega)).trans (hk4 j hj)) (by rw [his, show t - i3 = (t - (i3 + 1)) + 1 by omega, sp_is, hpe, ← zl_shE hsh] <;> rfl) (by omega) hZ (lv_sub hl [0, 3, 4, 5, 6, 7, 8] rfl)
                                    · refine lv_aload_n hx hb dX8_sort_232 rfl (lv_at hl 5 rfl) ?_
                                      refine zz_get hC hZ 7 rfl zf_X8_25 rfl dX8_sort_233 ?_
                                      refine lv_iload hx hb dX8_sort_236 (lv_at hl 3 rfl) ?_
                                      refine lv_iload hx hb dX8_sort_238 (lv_at hl 0 rfl) ?_
                                      refine lv_iadd hx hb dX8_sort_240 ?_
                                      refine zz_topi (v := nI (sz1 + i4)) (nI_add _ _) ?_
                                      refine lv_aload_n hx hb dX8_sort_241 rfl (lv_at hl 5 rfl) ?_
                                      refine zz_get hC hZ 7 rfl zf_X8_25 rfl dX8_sort_242 ?_
                                      refine lv_iload hx hb dX8_sort_245 (lv_at hl 3 rfl) ?_
                                      refine lv_iload hx hb dX8_sort_247 (lv_at hl 0 rfl) ?_
                                      refine lv_iadd hx hb dX8_sort_249 ?_
                                      refine zz_topi (v := nI (sz1 + i4)) (nI_add _ _) ?_
                                      refine lv_iconst (v := 1) hx hb dX8_sort_250 (by decide) ?_
                                      refine lv_isub hx hb dX8_sort_251 ?_
                                      refine zz_topi (v := nI ((sz1 + i4) - 1)) (pk_sub (b := 1) (by omega)) ?_
                                      refine zz_lald hC hZ 4 rfl (vp_in_nI (by omega) (by decide)) dX8_sort_252 ?_
                                      rw [nI_clamp (n := ((sz1 + i4) - 1)) (by omega)]
                                      refine zz_last hC hZ 4 rfl (vp_in_nI (by omega) (by decide)) dX8_sort_253 (fun H locs hZ => ?_)
                                      rw [nI_clamp (n := (sz1 + i4)) (by omega)] at hZ
                                      have hZ : zz_Z g A s.heap [cw_i g a_kindOf 60 kdf, cw_i g a_depthOf 60 dpf, cw_i g a_lengthOf 60 lnf, cw_i g a_baseOf 60 saf, cw_l g a_bits 4000 (vp_updL bt4 (sz1 + i4) (bt4 ((sz1 + i4) - 1))), cw_z g a_pinned 4000 pnf, cw_l g a_held 200 he1, cw_k7 h0 (nI na) (nI ne) a_kindOf a_depthOf a_lengthOf a_classOf a_baseOf a_bits a_pinned i_code a_lengths a_stackArray a_stackOther a_stackAt i_lastArray i_lastPlace a_path a_held a_alike a_hashes (nI nd) a_decisionArray a_decisionPlace a_candidateMany a_candidates (nI nr) a_ruleSort a_ruleArray a_ruleWeight a_ruleLow a_ruleHigh a_chosen a_bestOf (nI nm) a_markElements a_markBits a_markPins] H locs := hZ
                                      refine lv_iinc (v := nI (i4 - 1)) (lv' := [(9, .int (nI (i4 - 1))), (7, .long (bt1 (sz1 + i3))), (6, .int (nI i3)), (5, .int (nI sz1)), (4, .int w), (0, .ref h0), (1, .int (nI a1)), (2, .int (nI f)), (3, .int (nI t))]) hx hb dX8_sort_254 hl (k := 0) rfl (zl_dec (by omega)) (by decide) rfl (fun ls hl => ?_)
                                      refine lv_goto (tgt := 190) hx hb dX8_sort_257 (by decide) ?_
                                      exact ih31 (i4 - 1) (vp_updL bt4 (sz1 + i4) (bt4 ((sz1 + i4) - 1))) H locs ls (by omega) (zl_set hM4 ha1 es1 el1 ed1 (by omega) (by omega) (by omega) (show i4 < lz1 by omega) (fun hz => absurd hz (by omega))) (fun j hj => (pk_uLn (by omega)).trans (hk4 j hj)) (zl_shS hsh (by omega) (by omega)) (by rw [hps, zl_psS (by omega) (by have z := c37; rw [hsh, if_neg (by omega)] at z; exact z), show sz1 + i4 - 1 = sz1 + (i4 - 1) by omega]) (by omega) hZ (lv_sub hl [0, 1, 2, 3, 4, 5, 6, 7, 8] rfl)
                              exact LP31 _ i3 bt1 H locs ls (by omega) (hM1) (hk1) (fun j => (if_neg (by omega)).symm) (rfl) (Nat.lt_succ_self _) hZ (lv_sub hl [0, 1, 2, 3, 4, 5, 6, 7, 8] rfl)
                        exact LP24 _ (f + 1) btf H locs ls (by omega) (h_M) (fun _ _ => rfl) (rfl) (Nat.lt_succ_self _) hZ (lv_sub hl [0, 1, 2, 3, 4, 5, 6] rfl)
                      · have nc23 : ¬ t ≤ i2 := fun zq => c23 (show nI (t) ≤ nI (i2) from (nI_leI (by omega) (by omega)).mpr zq)
                        refine lv_aload_n hx hb dX8_sort_140 rfl (lv_at hl 3 rfl) ?_
                        refine zz_get hC hZ 7 rfl zf_X8_48 rfl dX8_sort_141 ?_
                        refine lv_iload hx hb dX8_sort_144 (lv_at hl 0 rfl) ?_
                        refine lv_aload_n hx hb dX8_sort_146 rfl (lv_at hl 3 rfl) ?_
                        refine zz_get hC hZ 7 rfl zf_X8_25 rfl dX8_sort_147 ?_
                        refine lv_iload hx hb dX8_sort_150 (lv_at hl 1 rfl) ?_
                        refine lv_iload hx hb dX8_sort_152 (lv_at hl 0 rfl) ?_
                        refine lv_iadd hx hb dX8_sort_154 ?_
                        refine zz_topi (v := nI (sz1 + i2)) (nI_add _ _) ?_
                        refine zz_lald hC hZ 4 rfl (vp_in_nI (by omega) (by decide)) dX8_sort_155 ?_
                        rw [nI_clamp (n := (sz1 + i2)) (by omega)]
                        refine zz_last hC hZ 6 rfl (vp_in_nI (by omega) (by decide)) dX8_sort_156 (fun H locs hZ => ?_)
                        rw [nI_clamp (n := i2) (by omega)] at hZ
                        have hZ : zz_Z g A s.heap [cw_i g a_kindOf 60 kdf, cw_i g a_depthOf 60 dpf, cw_i g a_lengthOf 60 lnf, cw_i g a_baseOf 60 saf, cw_l g a_bits 4000 btf, cw_z g a_pinned 4000 pnf, cw_l g a_held 200 (vp_updL he1 i2 (btf (sz1 + i2))), cw_k7 h0 (nI na) (nI ne) a_kindOf a_depthOf a_lengthOf a_classOf a_baseOf a_bits a_pinned i_code a_lengths a_stackArray a_stackOther a_stackAt i_lastArray i_lastPlace a_path a_held a_alike a_hashes (nI nd) a_decisionArray a_decisionPlace a_candidateMany a_candidates (nI nr) a_ruleSort a_ruleArray a_ruleWeight a_ruleLow a_ruleHigh a_chosen a_bestOf (nI nm) a_markElements a_markBits a_markPins] H locs := hZ
                        refine lv_iinc (v := nI (i2 + 1)) (lv' := [(6, .int (nI (i2 + 1))), (5, .int (nI sz1)), (4, .int w), (0, .ref h0), (1, .int (nI a1)), (2, .int (nI f)), (3, .int (nI t))]) hx hb dX8_sort_157 hl (k := 0) rfl (nI_1 _) (by decide) rfl (fun ls hl => ?_)
                        refine lv_goto (tgt := 134) hx hb dX8_sort_160 (by decide) ?_
                        exact ih22 (i2 + 1) (vp_updL he1 i2 (btf (sz1 + i2))) H locs ls (by omega) (fun k h1 h2 => by by_cases z : k = i2; (rw [z, pk_uLs]); (rw [pk_uLn z]; exact hhe k h1 (by omega))) (by omega) hZ (lv_sub hl [0, 1, 2, 3, 4, 5, 6] rfl)
                  exact LP22 _ f hef H locs ls (by omega) (fun k h1 h2 => absurd h1 (by omega)) (Nat.lt_succ_self _) hZ (lv_sub hl [0, 1, 2, 3, 4, 5, 6] rfl)
                · refine lv_aload_n hx hb dX8_sort_116 rfl (lv_at hl 2 rfl) ?_
                  refine lv_iload hx hb dX8_sort_117 (lv_at hl 1 rfl) ?_
                  refine zz_iV (As := [.int w]) (wc := [cw_k7 h0 (nI na) (nI ne) a_kindOf a_depthOf a_lengthOf a_classOf a_baseOf a_bits a_pinned i_code a_lengths a_stackArray a_stackOther a_stackAt i_lastArray i_lastPlace a_path a_held a_alike a_hashes (nI nd) a_decisionArray a_decisionPlace a_candidateMany a_candidates (nI nr) a_ruleSort a_ruleArray a_ruleWeight a_ruleLow a_ruleHigh a_chosen a_bestOf (nI nm) a_markElements a_markBits a_markPins]) (wr := [cw_i g a_kindOf 60 kdf, cw_i g a_depthOf 60 dpf, cw_i g a_lengthOf 60 lnf, cw_i g a_baseOf 60 saf, cw_l g a_bits 4000 btf, cw_z g a_pinned 4000 pnf, cw_l g a_held 200 hef]) (rest := []) hC hZ hs hl zc_X8_175 (cm_fails g h0 a_kindOf a_depthOf a_lengthOf a_classOf a_baseOf a_bits a_pinned a_lengths a_stackArray a_stackOther a_stackAt a_path a_held a_alike a_hashes a_decisionArray a_decisionPlace a_candidateMany a_candidates a_ruleSort a_ruleArray a_ruleWeight a_ruleLow a_ruleHigh a_chosen a_bestOf a_markElements a_markBits a_markPins (nI na) (nI ne) i_code i_lastArray i_lastPlace (nI nd) (nI nr) (nI nm) w) [7] [0, 1, 2, 3, 4, 5, 6] rfl rfl (by decide +kernel) (ci := 7) (q0 := 0) rfl rfl rfl rfl (Nat.le_of_ble_eq_true rfl) ⟨⟨Nat.le_of_ble_eq_true rfl, Nat.le_of_ble_eq_true rfl⟩, Nat.le_of_ble_eq_true rfl, Nat.le_of_ble_eq_true rfl⟩ dX8_sort_119 (fun r38 u39 H locs hp hZ => ?_)
                  obtain ⟨rfl, rfl⟩ := hp
                  have hZ : zz_Z g A s.heap [cw_i g a_kindOf 60 kdf, cw_i g a_depthOf 60 dpf, cw_i g a_lengthOf 60 lnf, cw_i g a_baseOf 60 saf, cw_l g a_bits 4000 btf, cw_z g a_pinned 4000 pnf, cw_l g a_held 200 hef, cw_k7 h0 (nI na) (nI ne) a_kindOf a_depthOf a_lengthOf a_classOf a_baseOf a_bits a_pinned w a_lengths a_stackArray a_stackOther a_stackAt i_lastArray i_lastPlace a_path a_held a_alike a_hashes (nI nd) a_decisionArray a_decisionPlace a_candidateMany a_candidates (nI nr) a_ruleSort a_ruleArray a_ruleWeight a_ruleLow a_ruleHigh a_chosen a_bestOf (nI nm) a_markElements a_markBits a_markPins] H locs := hZ
                  have hZ : zz_Z g A s.heap [cw_k7 h0 (nI na) (nI ne) a_kindOf a_depthOf a_lengthOf a_classOf a_baseOf a_bits a_pinned w a_lengths a_stackArray a_stackOther a_stackAt i_lastArray i_lastPlace a_path a_held a_alike a_hashes (nI nd) a_decisionArray a_decisionPlace a_candidateMany a_candidates (nI nr) a_ruleSort a_ruleArray a_ruleWeight a_ruleLow a_ruleHigh a_chosen a_bestOf (nI nm) a_markElements a_markBits a_markPins, cw_i g a_kindOf 60 kdf, cw_i g a_depthOf 60 dpf, cw_i g a_lengthOf 60 lnf, cw_i g a_baseOf 60 saf, cw_l g a_bits 4000 btf, cw_z g a_pinned 4000 pnf, cw_l g a_held 200 hef] H locs := hZ.sub [7, 0, 1, 2, 3, 4, 5, 6] (by decide +kernel) rfl
                  exact zz_iret hC hZ (⟨w, i_lastArray, i_lastPlace, btf, hef, by refine Eq.symm ?_; rw [fo_my_sort]; refine (if_neg (by (try simp only [d_a1, d_sz1, d_lz1, d_dz1, d_f, d_t, d_w]); exact c3)).trans ?_; refine (if_pos (by (try simp only [d_a1, d_sz1, d_lz1, d_dz1, d_f, d_t, d_w]); exact c4)).trans ?_; refine (if_neg (by (try simp only [d_a1, d_sz1, d_lz1, d_dz1, d_f, d_t, d_w]); exact c7)).trans ?_; refine (if_neg (by (try simp only [d_a1, d_sz1, d_lz1, d_dz1, d_f, d_t, d_w]); exact c18)).trans ?_; refine (if_neg (by (try simp only [d_a1, d_sz1, d_lz1, d_dz1, d_f, d_t, d_w]); exact c21)).trans ?_; first | (simp only [d_a1, d_sz1, d_lz1, d_dz1, d_f, d_t, d_w]; done) | rfl, h_M, zz_D1.rf, rfl⟩) (Nat.le_of_ble_eq_true rfl) (Nat.le_of_ble_eq_true rfl) dX8_sort_122
              · have nc20 : ¬ t ≤ i := fun zq => c20 (show nI (t) ≤ nI (i) from (nI_leI (by omega) (by omega)).mpr zq)
                refine lv_iload hx hb dX8_sort_75 (lv_at hl 1 rfl) ?_
                refine lv_if_ne (tgt := 111) hx hb dX8_sort_77 (by decide) (fun c40 => ?_) (fun c40 => ?_)
                · have d_w : (if zz_cp pnf (sz1 + f) (t - f) = 0 then (0 : Int32) else 6) = w := zl_cE2 hc c40
                  refine lv_iload hx hb dX8_sort_111 (lv_at hl 1 rfl) ?_
                  refine lv_if_le (tgt := 123) hx hb dX8_sort_113 (by decide) (fun c41 => ?_) (fun c41 => ?_)
                  · refine lv_aload_n hx hb dX8_sort_123 rfl (lv_at hl 2 rfl) ?_
                    refine zz_get hC hZ 7 rfl zf_X8_22 rfl dX8_sort_124 ?_
                    refine lv_iload_n hx hb dX8_sort_127 rfl (lv_at hl 3 rfl) ?_
                    refine zz_iald hC hZ 3 rfl (vp_in_nI (by omega) (by decide)) dX8_sort_128 ?_
                    rw [nI_clamp (n := a1) (by omega)]
                    refine zz_topi (v := nI sz1) (es1) ?_
                    refine lv_istore (lv' := [(5, .int (nI sz1)), (4, .int w), (0, .ref h0), (1, .int (nI a1)), (2, .int (nI f)), (3, .int (nI t))]) hx hb dX8_sort_129 hl (by decide) rfl (fun ls hl => ?_)
                    refine lv_iload_n hx hb dX8_sort_131 rfl (lv_at hl 4 rfl) ?_
                    refine lv_istore (lv' := [(6, .int (nI f)), (5, .int (nI sz1)), (4, .int w), (0, .ref h0), (1, .int (nI a1)), (2, .int (nI f)), (3, .int (nI t))]) hx hb dX8_sort_132 hl (by decide) rfl (fun ls hl => ?_)
                    have LP42 : ∀ (N42 : Nat) (i2 : Nat) (he1 : Nat → Int64) (H : Heap) (locs : List Loc) (ls : Array Slot), (i2 ≤ t) → (∀ k, f ≤ k → k < i2 → he1 k = btf (sz1 + k)) → (t - i2) < N42 → zz_Z g A s.heap [cw_i g a_kindOf 60 kdf, cw_i g a_depthOf 60 dpf, cw_i g a_lengthOf 60 lnf, cw_i g a_baseOf 60 saf, cw_l g a_bits 4000 btf, cw_z g a_pinned 4000 pnf, cw_l g a_held 200 he1, cw_k7 h0 (nI na) (nI ne) a_kindOf a_depthOf a_lengthOf a_classOf a_baseOf a_bits a_pinned i_code a_lengths a_stackArray a_stackOther a_stackAt i_lastArray i_lastPlace a_path a_held a_alike a_hashes (nI nd) a_decisionArray a_decisionPlace a_candidateMany a_candidates (nI nr) a_ruleSort a_ruleArray a_ruleWeight a_ruleLow a_ruleHigh a_chosen a_bestOf (nI nm) a_markElements a_markBits a_markPins] H locs → lv_has ls 10 [(6, .int (nI i2)), (5, .int (nI sz1)), (4, .int w), (0, .ref h0), (1, .int (nI a1)), (2, .int (nI f)), (3, .int (nI t))] → W p l e rm_my_sort s m args below meth c H locs 0 0 (zz_QI below g args s A rm_my_sort.cells rm_my_sort.slots (po_my_sort g h0 a_kindOf a_depthOf a_lengthOf a_classOf a_baseOf a_bits a_pinned a_lengths a_stackArray a_stackOther a_stackAt a_path a_held a_alike a_hashes a_decisionArray a_decisionPlace a_candidateMany a_candidates a_ruleSort a_ruleArray a_ruleWeight a_ruleLow a_ruleHigh a_chosen a_bestOf a_markElements a_markBits a_markPins na ne nd nr nm i_code i_lastArray i_lastPlace kdf dpf lnf saf btf pnf hef x1 x2 x3 h_M)) (F0 m 134 ls []) := by
                      intro N42
                      induction N42 with
                      | zero =>
                        intro i2 he1 H locs ls hi2 hhe hN42
                        exact absurd hN42 (Nat.not_lt_zero _)
                      | succ N42 ih42 =>
                        intro i2 he1 H locs ls hi2 hhe hN42 hZ hl
                        refine lv_iload hx hb dX8_sort_134 (lv_at hl 0 rfl) ?_
                        refine lv_iload_n hx hb dX8_sort_136 rfl (lv_at hl 6 rfl) ?_
                        refine lv_icmp_ge (tgt := 163) hx hb dX8_sort_137 (by decide) (fun c43 => ?_) (fun c43 => ?_)
                        · have nc43 : t ≤ i2 := (nI_leI (by omega) (by omega)).mp (show nI (t) ≤ nI (i2) from c43)
                          refine lv_iload_n hx hb dX8_sort_163 rfl (lv_at hl 5 rfl) ?_
                          refine lv_iconst (v := 1) hx hb dX8_sort_164 (by decide) ?_
                          refine lv_iadd hx hb dX8_sort_165 ?_
                          refine zz_topi (v := nI (f + 1)) (nI_1 _) ?_
                          refine lv_istore (lv' := [(6, .int (nI (f + 1))), (5, .int (nI sz1)), (4, .int w), (0, .ref h0), (1, .int (nI a1)), (2, .int (nI f)), (3, .int (nI t))]) hx hb dX8_sort_166 hl (by decide) rfl (fun ls hl => ?_)
                          have LP44 : ∀ (N44 : Nat) (i3 : Nat) (bt1 : Nat → Int64) (H : Heap) (locs : List Loc) (ls : Array Slot), (f < i3 ∧ i3 ≤ t + 1) → (zz_MI na ne dpf saf lnf bt1) → (∀ j, j < sz1 ∨ sz1 + lz1 ≤ j → bt1 j = btf j) → (sp_is (fn_cm_orderNumber (kdf a1)) (sz1 + f) (t - (f + 1)) (sz1 + (f + 1)) btf = sp_is (fn_cm_orderNumber (kdf a1)) (sz1 + f) (t - i3) (sz1 + i3) bt1) → (t - i3) < N44 → zz_Z g A s.heap [cw_i g a_kindOf 60 kdf, cw_i g a_depthOf 60 dpf, cw_i g a_lengthOf 60 lnf, cw_i g a_baseOf 60 saf, cw_l g a_bits 4000 bt1, cw_z g a_pinned 4000 pnf, cw_l g a_held 200 he1, cw_k7 h0 (nI na) (nI ne) a_kindOf a_depthOf a_lengthOf a_classOf a_baseOf a_bits a_pinned i_code a_lengths a_stackArray a_stackOther a_stackAt i_lastArray i_lastPlace a_path a_held a_alike a_hashes (nI nd) a_decisionArray a_decisionPlace a_candidateMany a_candidates (nI nr) a_ruleSort a_ruleArray a_ruleWeight a_ruleLow a_ruleHigh a_chosen a_bestOf (nI nm) a_markElements a_markBits a_markPins] H locs → lv_has ls 10 [(6, .int (nI i3)), (5, .int (nI sz1)), (4, .int w), (0, .ref h0), (1, .int (nI a1)), (2, .int (nI f)), (3, .int (nI t))] → W p l e rm_my_sort s m args below meth c H locs 0 0 (zz_QI below g args s A rm_my_sort.cells rm_my_sort.slots (po_my_sort g h0 a_kindOf a_depthOf a_lengthOf a_classOf a_baseOf a_bits a_pinned a_lengths a_stackArray a_stackOther a_stackAt a_path a_held a_alike a_hashes a_decisionArray a_decisionPlace a_candidateMany a_candidates a_ruleSort a_ruleArray a_ruleWeight a_ruleLow a_ruleHigh a_chosen a_bestOf a_markElements a_markBits a_markPins na ne nd nr nm i_code i_lastArray i_lastPlace kdf dpf lnf saf btf pnf hef x1 x2 x3 h_M)) (F0 m 168 ls []) := by
                            intro N44
                            induction N44 with
                            | zero =>
                              intro i3 bt1 H locs ls hi3 hM1 hk1 his hN44
                              exact absurd hN44 (Nat.not_lt_zero _)
                            | succ N44 ih44 =>
                              intro i3 bt1 H locs ls hi3 hM1 hk1 his hN44 hZ hl
                              refine lv_iload hx hb dX8_sort_168 (lv_at hl 0 rfl) ?_
                              refine lv_iload_n hx hb dX8_sort_170 rfl (lv_at hl 6 rfl) ?_
                              refine lv_icmp_ge (tgt := 278) hx hb dX8_sort_171 (by decide) (fun c45 => ?_) (fun c45 => ?_)
                              · have nc45 : t ≤ i3 := (nI_leI (by omega) (by omega)).mp (show nI (t) ≤ nI (i3) from c45)
                                have d_bt1 : sp_is (fn_cm_orderNumber (kdf a1)) (sz1 + f) (t - (f + 1)) (sz1 + (f + 1)) btf = bt1 := by rw [his, show t - i3 = 0 by omega, sp_is]
                                refine lv_iconst (v := 0) hx hb dX8_sort_278 (by decide) ?_
                                refine lv_istore (lv' := [(6, .int 0), (5, .int (nI sz1)), (4, .int w), (0, .ref h0), (1, .int (nI a1)), (2, .int (nI f)), (3, .int (nI t))]) hx hb dX8_sort_279 hl (by decide) rfl (fun ls hl => ?_)
                                refine lv_iload_n hx hb dX8_sort_281 rfl (lv_at hl 5 rfl) ?_
                                refine lv_istore (lv' := [(7, .int (nI f)), (6, .int 0), (5, .int (nI sz1)), (4, .int w), (0, .ref h0), (1, .int (nI a1)), (2, .int (nI f)), (3, .int (nI t))]) hx hb dX8_sort_282 hl (by decide) rfl (fun ls hl => ?_)
                                have LP46 : ∀ (N46 : Nat) (i5 : Nat) (w5 : Int32) (H : Heap) (locs : List Loc) (ls : Array Slot), (f ≤ i5 ∧ i5 ≤ t) → (sp_ce bt1 btf sz1 (t - f) f 0 = sp_ce bt1 btf sz1 (t - i5) i5 w5) → (t - i5) < N46 → zz_Z g A s.heap [cw_i g a_kindOf 60 kdf, cw_i g a_depthOf 60 dpf, cw_i g a_lengthOf 60 lnf, cw_i g a_baseOf 60 saf, cw_l g a_bits 4000 bt1, cw_z g a_pinned 4000 pnf, cw_l g a_held 200 he1, cw_k7 h0 (nI na) (nI ne) a_kindOf a_depthOf a_lengthOf a_classOf a_baseOf a_bits a_pinned i_code a_lengths a_stackArray a_stackOther a_stackAt i_lastArray i_lastPlace a_path a_held a_alike a_hashes (nI nd) a_decisionArray a_decisionPlace a_candidateMany a_candidates (nI nr) a_ruleSort a_ruleArray a_ruleWeight a_ruleLow a_ruleHigh a_chosen a_bestOf (nI nm) a_markElements a_markBits a_markPins] H locs → lv_has ls 10 [(7, .int (nI i5)), (6, .int w5), (5, .int (nI sz1)), (4, .int w), (0, .ref h0), (1, .int (nI a1)), (2, .int (nI f)), (3, .int (nI t))] → W p l e rm_my_sort s m args below meth c H locs 0 0 (zz_QI below g args s A rm_my_sort.cells rm_my_sort.slots (po_my_sort g h0 a_kindOf a_depthOf a_lengthOf a_classOf a_baseOf a_bits a_pinned a_lengths a_stackArray a_stackOther a_stackAt a_path a_held a_alike a_hashes a_decisionArray a_decisionPlace a_candidateMany a_candidates a_ruleSort a_ruleArray a_ruleWeight a_ruleLow a_ruleHigh a_chosen a_bestOf a_markElements a_markBits a_markPins na ne nd nr nm i_code i_lastArray i_lastPlace kdf dpf lnf saf btf pnf hef x1 x2 x3 h_M)) (F0 m 284 ls []) := by
                                  intro N46
                                  induction N46 with
                                  | zero =>
                                    intro i5 w5 H locs ls hi5 hce hN46
                                    exact absurd hN46 (Nat.not_lt_zero _)
                                  | succ N46 ih46 =>
                                    intro i5 w5 H locs ls hi5 hce hN46 hZ hl
                                    refine lv_iload hx hb dX8_sort_284 (lv_at hl 0 rfl) ?_
                                    refine lv_iload_n hx hb dX8_sort_286 rfl (lv_at hl 7 rfl) ?_
                                    refine lv_icmp_ge (tgt := 327) hx hb dX8_sort_287 (by decide) (fun c47 => ?_) (fun c47 => ?_)
                                    · have nc47 : t ≤ i5 := (nI_leI (by omega) (by omega)).mp (show nI (t) ≤ nI (i5) from c47)
                                      have d_w5 : sp_ce bt1 btf sz1 (t - f) f 0 = w5 := by rw [hce, show t - i5 = 0 by omega, sp_ce]
                                      refine lv_aload_n hx hb dX8_sort_327 rfl (lv_at hl 4 rfl) ?_
                                      refine lv_iload hx hb dX8_sort_328 (lv_at hl 1 rfl) ?_
                                      refine zz_iV (As := [.int w5]) (wc := [cw_k7 h0 (nI na) (nI ne) a_kindOf a_depthOf a_lengthOf a_classOf a_baseOf a_bits a_pinned i_code a_lengths a_stackArray a_stackOther a_stackAt i_lastArray i_lastPlace a_path a_held a_alike a_hashes (nI nd) a_decisionArray a_decisionPlace a_candidateMany a_candidates (nI nr) a_ruleSort a_ruleArray a_ruleWeight a_ruleLow a_ruleHigh a_chosen a_bestOf (nI nm) a_markElements a_markBits a_markPins]) (wr := [cw_i g a_kindOf 60 kdf, cw_i g a_depthOf 60 dpf, cw_i g a_lengthOf 60 lnf, cw_i g a_baseOf 60 saf, cw_l g a_bits 4000 bt1, cw_z g a_pinned 4000 pnf, cw_l g a_held 200 he1]) (rest := []) hC hZ hs hl zc_X8_183 (cm_fine g h0 a_kindOf a_depthOf a_lengthOf a_classOf a_baseOf a_bits a_pinned a_lengths a_stackArray a_stackOther a_stackAt a_path a_held a_alike a_hashes a_decisionArray a_decisionPlace a_candidateMany a_candidates a_ruleSort a_ruleArray a_ruleWeight a_ruleLow a_ruleHigh a_chosen a_bestOf a_markElements a_markBits a_markPins (nI na) (nI ne) i_code i_lastArray i_lastPlace (nI nd) (nI nr) (nI nm) w5) [7] [0, 1, 2, 3, 4, 5, 6] rfl rfl (by decide +kernel) (ci := 7) (q0 := 0) rfl rfl rfl rfl (Nat.le_of_ble_eq_true rfl) ⟨⟨Nat.le_of_ble_eq_true rfl, Nat.le_of_ble_eq_true rfl⟩, Nat.le_of_ble_eq_true rfl, Nat.le_of_ble_eq_true rfl⟩ dX8_sort_330 (fun r48 u49 H locs hp hZ => ?_)
                                      obtain ⟨rfl, rfl⟩ := hp
                                      have hZ : zz_Z g A s.heap [cw_i g a_kindOf 60 kdf, cw_i g a_depthOf 60 dpf, cw_i g a_lengthOf 60 lnf, cw_i g a_baseOf 60 saf, cw_l g a_bits 4000 bt1, cw_z g a_pinned 4000 pnf, cw_l g a_held 200 he1, cw_k7 h0 (nI na) (nI ne) a_kindOf a_depthOf a_lengthOf a_classOf a_baseOf a_bits a_pinned 0 a_lengths a_stackArray a_stackOther a_stackAt i_lastArray i_lastPlace a_path a_held a_alike a_hashes (nI nd) a_decisionArray a_decisionPlace a_candidateMany a_candidates (nI nr) a_ruleSort a_ruleArray a_ruleWeight a_ruleLow a_ruleHigh a_chosen a_bestOf (nI nm) a_markElements a_markBits a_markPins] H locs := hZ
                                      have hZ : zz_Z g A s.heap [cw_k7 h0 (nI na) (nI ne) a_kindOf a_depthOf a_lengthOf a_classOf a_baseOf a_bits a_pinned 0 a_lengths a_stackArray a_stackOther a_stackAt i_lastArray i_lastPlace a_path a_held a_alike a_hashes (nI nd) a_decisionArray a_decisionPlace a_candidateMany a_candidates (nI nr) a_ruleSort a_ruleArray a_ruleWeight a_ruleLow a_ruleHigh a_chosen a_bestOf (nI nm) a_markElements a_markBits a_markPins, cw_i g a_kindOf 60 kdf, cw_i g a_depthOf 60 dpf, cw_i g a_lengthOf 60 lnf, cw_i g a_baseOf 60 saf, cw_l g a_bits 4000 bt1, cw_z g a_pinned 4000 pnf, cw_l g a_held 200 he1] H locs := hZ.sub [7, 0, 1, 2, 3, 4, 5, 6] (by decide +kernel) rfl
                                      exact zz_iret hC hZ (⟨0, i_lastArray, i_lastPlace, bt1, he1, by refine Eq.symm ?_; rw [fo_my_sort]; refine (if_neg (by (try simp only [d_a1, d_sz1, d_lz1, d_dz1, d_f, d_t, d_w, d_bt1, d_w5]); exact c3)).trans ?_; refine (if_pos (by (try simp only [d_a1, d_sz1, d_lz1, d_dz1, d_f, d_t, d_w, d_bt1, d_w5]); exact c4)).trans ?_; refine (if_neg (by (try simp only [d_a1, d_sz1, d_lz1, d_dz1, d_f, d_t, d_w, d_bt1, d_w5]); exact c7)).trans ?_; refine (if_neg (by (try simp only [d_a1, d_sz1, d_lz1, d_dz1, d_f, d_t, d_w, d_bt1, d_w5]); exact c18)).trans ?_; refine (if_pos (by (try simp only [d_a1, d_sz1, d_lz1, d_dz1, d_f, d_t, d_w, d_bt1, d_w5]); exact c41)).trans ?_; first | (simp only [d_a1, d_sz1, d_lz1, d_dz1, d_f, d_t, d_w, d_bt1, d_w5]; done) | rfl, hM1, zz_D1.of ha1 (by rw [ed1, show dz1 = 1 by omega]) es1 el1 (by omega) (by omega) hk1, rfl⟩) (Nat.le_of_ble_eq_true rfl) (Nat.le_of_ble_eq_true rfl) dX8_sort_333
                                    · have nc47 : ¬ t ≤ i5 := fun zq => c47 (show nI (t) ≤ nI (i5) from (nI_leI (by omega) (by omega)).mpr zq)
                                      refine lv_iload hx hb dX8_sort_290 (lv_at hl 1 rfl) ?_
                                      refine lv_aload_n hx hb dX8_sort_292 rfl (lv_at hl 4 rfl) ?_
                                      refine zz_get hC hZ 7 rfl zf_X8_48 rfl dX8_sort_293 ?_
                                      refine lv_iload hx hb dX8_sort_296 (lv_at hl 0 rfl) ?_
                                      refine zz_lald hC hZ 6 rfl (vp_in_nI (by omega) (by decide)) dX8_sort_298 ?_
                                      rw [nI_clamp (n := i5) (by omega)]
                                      refine lv_aload_n hx hb dX8_sort_299 rfl (lv_at hl 4 rfl) ?_
                                      refine zz_get hC hZ 7 rfl zf_X8_25 rfl dX8_sort_300 ?_
                                      refine lv_iload hx hb dX8_sort_303 (lv_at hl 2 rfl) ?_
                                      refine lv_iload hx hb dX8_sort_305 (lv_at hl 0 rfl) ?_
                                      refine lv_iadd hx hb dX8_sort_307 ?_
                                      refine zz_topi (v := nI (sz1 + i5)) (nI_add _ _) ?_
                                      refine zz_lald hC hZ 4 rfl (vp_in_nI (by omega) (by decide)) dX8_sort_308 ?_
                                      rw [nI_clamp (n := (sz1 + i5)) (by omega)]
                                      refine zz_lcmp_eq (tgt := 317) hC dX8_sort_309 dX8_sort_310 (by decide) (fun c50 => ?_) (fun c50 => ?_)
                                      · refine lv_iconst (v := 0) hx hb dX8_sort_317 (by decide) ?_
                                        refine lv_iadd hx hb dX8_sort_318 ?_
                                        refine lv_istore (lv' := [(6, .int (w5 + 0)), (7, .int (nI i5)), (5, .int (nI sz1)), (4, .int w), (0, .ref h0), (1, .int (nI a1)), (2, .int (nI f)), (3, .int (nI t))]) hx hb dX8_sort_319 hl (by decide) rfl (fun ls hl => ?_)
                                        refine lv_iinc (v := nI (i5 + 1)) (lv' := [(7, .int (nI (i5 + 1))), (6, .int (w5 + 0)), (5, .int (nI sz1)), (4, .int w), (0, .ref h0), (1, .int (nI a1)), (2, .int (nI f)), (3, .int (nI t))]) hx hb dX8_sort_321 hl (k := 1) rfl (nI_1 _) (by decide) rfl (fun ls hl => ?_)
                                        refine lv_goto (tgt := 284) hx hb dX8_sort_324 (by decide) ?_
                                        exact ih46 (i5 + 1) (w5 + 0) H locs ls (by omega) (by rw [hce, show t - i5 = (t - (i5 + 1)) + 1 by omega, sp_ce, if_pos ((hhe i5 (by omega) (by omega)).symm.trans c50)]) (by omega) hZ (lv_sub hl [0, 1, 2, 3, 4, 5, 6, 7] rfl)
                                      · refine lv_iconst (v := 1) hx hb dX8_sort_313 (by decide) ?_
                                        refine lv_goto (tgt := 318) hx hb dX8_sort_314 (by decide) ?_
                                        refine lv_iadd hx hb dX8_sort_318 ?_
                                        refine lv_istore (lv' := [(6, .int (w5 + 1)), (7, .int (nI i5)), (5, .int (nI sz1)), (4, .int w), (0, .ref h0), (1, .int (nI a1)), (2, .int (nI f)), (3, .int (nI t))]) hx hb dX8_sort_319 hl (by decide) rfl (fun ls hl => ?_)
                                        refine lv_iinc (v := nI (i5 + 1)) (lv' := [(7, .int (nI (i5 + 1))), (6, .int (w5 + 1)), (5, .int (nI sz1)), (4, .int w), (0, .ref h0), (1, .int (nI a1)), (2, .int (nI f)), (3, .int (nI t))]) hx hb dX8_sort_321 hl (k := 1) rfl (nI_1 _) (by decide) rfl (fun ls hl => ?_)
                                        refine lv_goto (tgt := 284) hx hb dX8_sort_324 (by decide) ?_
                                        exact ih46 (i5 + 1) (w5 + 1) H locs ls (by omega) (by rw [hce, show t - i5 = (t - (i5 + 1)) + 1 by omega, sp_ce, if_neg (fun z => c50 ((hhe i5 (by omega) (by omega)).trans z))]) (by omega) hZ (lv_sub hl [0, 1, 2, 3, 4, 5, 6, 7] rfl)
                                exact LP46 _ f 0 H locs ls (by omega) (rfl) (Nat.lt_succ_self _) hZ (lv_sub hl [0, 1, 2, 3, 4, 5, 6, 7] rfl)
                              · have nc45 : ¬ t ≤ i3 := fun zq => c45 (show nI (t) ≤ nI (i3) from (nI_leI (by omega) (by omega)).mpr zq)
                                refine lv_aload_n hx hb dX8_sort_174 rfl (lv_at hl 3 rfl) ?_
                                refine zz_get hC hZ 7 rfl zf_X8_25 rfl dX8_sort_175 ?_
                                refine lv_iload hx hb dX8_sort_178 (lv_at hl 1 rfl) ?_
                                refine lv_iload hx hb dX8_sort_180 (lv_at hl 0 rfl) ?_
                                refine lv_iadd hx hb dX8_sort_182 ?_
                                refine zz_topi (v := nI (sz1 + i3)) (nI_add _ _) ?_
                                refine zz_lald hC hZ 4 rfl (vp_in_nI (by omega) (by decide)) dX8_sort_183 ?_
                                rw [nI_clamp (n := (sz1 + i3)) (by omega)]
                                refine lv_lstore (lv' := [(7, .long (bt1 (sz1 + i3))), (6, .int (nI i3)), (5, .int (nI sz1)), (4, .int w), (0, .ref h0), (1, .int (nI a1)), (2, .int (nI f)), (3, .int (nI t))]) hx hb dX8_sort_184 hl (by decide) rfl (fun ls hl => ?_)
                                refine lv_iload hx hb dX8_sort_186 (lv_at hl 1 rfl) ?_
                                refine lv_istore (lv' := [(9, .int (nI i3)), (7, .long (bt1 (sz1 + i3))), (6, .int (nI i3)), (5, .int (nI sz1)), (4, .int w), (0, .ref h0), (1, .int (nI a1)), (2, .int (nI f)), (3, .int (nI t))]) hx hb dX8_sort_188 hl (by decide) rfl (fun ls hl => ?_)
                                have LP51 : ∀ (N51 : Nat) (i4 : Nat) (bt4 : Nat → Int64) (H : Heap) (locs : List Loc) (ls : Array Slot), (f ≤ i4 ∧ i4 ≤ i3 ∧ i4 < t) → (zz_MI na ne dpf saf lnf bt4) → (∀ j, j < sz1 ∨ sz1 + lz1 ≤ j → bt4 j = btf j) → (∀ j, bt4 j = if sz1 + i4 < j ∧ j ≤ sz1 + i3 then bt1 (j - 1) else bt1 j) → (zz_ps (fn_cm_orderNumber (kdf a1)) bt1 (sz1 + f) (fn_cm_orderNumber (kdf a1) (bt1 (sz1 + i3))) (sz1 + i3) = zz_ps (fn_cm_orderNumber (kdf a1)) bt1 (sz1 + f) (fn_cm_orderNumber (kdf a1) (bt1 (sz1 + i3))) (sz1 + i4)) → i4 < N51 → zz_Z g A s.heap [cw_i g a_kindOf 60 kdf, cw_i g a_depthOf 60 dpf, cw_i g a_lengthOf 60 lnf, cw_i g a_baseOf 60 saf, cw_l g a_bits 4000 bt4, cw_z g a_pinned 4000 pnf, cw_l g a_held 200 he1, cw_k7 h0 (nI na) (nI ne) a_kindOf a_depthOf a_lengthOf a_classOf a_baseOf a_bits a_pinned i_code a_lengths a_stackArray a_stackOther a_stackAt i_lastArray i_lastPlace a_path a_held a_alike a_hashes (nI nd) a_decisionArray a_decisionPlace a_candidateMany a_candidates (nI nr) a_ruleSort a_ruleArray a_ruleWeight a_ruleLow a_ruleHigh a_chosen a_bestOf (nI nm) a_markElements a_markBits a_markPins] H locs → lv_has ls 10 [(9, .int (nI i4)), (7, .long (bt1 (sz1 + i3))), (6, .int (nI i3)), (5, .int (nI sz1)), (4, .int w), (0, .ref h0), (1, .int (nI a1)), (2, .int (nI f)), (3, .int (nI t))] → W p l e rm_my_sort s m args below meth c H locs 0 0 (zz_QI below g args s A rm_my_sort.cells rm_my_sort.slots (po_my_sort g h0 a_kindOf a_depthOf a_lengthOf a_classOf a_baseOf a_bits a_pinned a_lengths a_stackArray a_stackOther a_stackAt a_path a_held a_alike a_hashes a_decisionArray a_decisionPlace a_candidateMany a_candidates a_ruleSort a_ruleArray a_ruleWeight a_ruleLow a_ruleHigh a_chosen a_bestOf a_markElements a_markBits a_markPins na ne nd nr nm i_code i_lastArray i_lastPlace kdf dpf lnf saf btf pnf hef x1 x2 x3 h_M)) (F0 m 190 ls []) := by
                                  intro N51
                                  induction N51 with
                                  | zero =>
                                    intro i4 bt4 H locs ls hi4 hM4 hk4 hsh hps hN51
                                    exact absurd hN51 (Nat.not_lt_zero _)
                                  | succ N51 ih51 =>
                                    intro i4 bt4 H locs ls hi4 hM4 hk4 hsh hps hN51 hZ hl
                                    refine lv_iload hx hb dX8_sort_190 (lv_at hl 0 rfl) ?_
                                    refine lv_iload_n hx hb dX8_sort_192 rfl (lv_at hl 7 rfl) ?_
                                    refine lv_icmp_le (tgt := 260) hx hb dX8_sort_193 (by decide) (fun c52 => ?_) (fun c52 => ?_)
                                    · have nc52 : i4 ≤ f := (nI_leI (by omega) (by omega)).mp (show nI (i4) ≤ nI (f) from c52)
                                      refine lv_aload_n hx hb dX8_sort_260 rfl (lv_at hl 5 rfl) ?_
                                      refine zz_get hC hZ 7 rfl zf_X8_25 rfl dX8_sort_261 ?_
                                      refine lv_iload hx hb dX8_sort_264 (lv_at hl 3 rfl) ?_
                                      refine lv_iload hx hb dX8_sort_266 (lv_at hl 0 rfl) ?_
                                      refine lv_iadd hx hb dX8_sort_268 ?_
                                      refine zz_topi (v := nI (sz1 + i4)) (nI_add _ _) ?_
                                      refine lv_lload hx hb dX8_sort_269 (lv_at hl 1 rfl) ?_
                                      refine zz_last hC hZ 4 rfl (vp_in_nI (by omega) (by decide)) dX8_sort_271 (fun H locs hZ => ?_)
                                      rw [nI_clamp (n := (sz1 + i4)) (by omega)] at hZ
                                      have hZ : zz_Z g A s.heap [cw_i g a_kindOf 60 kdf, cw_i g a_depthOf 60 dpf, cw_i g a_lengthOf 60 lnf, cw_i g a_baseOf 60 saf, cw_l g a_bits 4000 (vp_updL bt4 (sz1 + i4) (bt1 (sz1 + i3))), cw_z g a_pinned 4000 pnf, cw_l g a_held 200 he1, cw_k7 h0 (nI na) (nI ne) a_kindOf a_depthOf a_lengthOf a_classOf a_baseOf a_bits a_pinned i_code a_lengths a_stackArray a_stackOther a_stackAt i_lastArray i_lastPlace a_path a_held a_alike a_hashes (nI nd) a_decisionArray a_decisionPlace a_candidateMany a_candidates (nI nr) a_ruleSort a_ruleArray a_ruleWeight a_ruleLow a_ruleHigh a_chosen a_bestOf (nI nm) a_markElements a_markBits a_markPins] H locs := hZ
                                      refine lv_iinc (v := nI (i3 + 1)) (lv' := [(6, .int (nI (i3 + 1))), (9, .int (nI i4)), (7, .long (bt1 (sz1 + i3))), (5, .int (nI sz1)), (4, .int w), (0, .ref h0), (1, .int (nI a1)), (2, .int (nI f)), (3, .int (nI t))]) hx hb dX8_sort_272 hl (k := 2) rfl (nI_1 _) (by decide) rfl (fun ls hl => ?_)
                                      refine lv_goto (tgt := 168) hx hb dX8_sort_275 (by decide) ?_
                                      have hpe := hps.trans (zl_psE (R := fn_cm_orderNumber (kdf a1)) (bt := bt1) (Or.inl (by omega)))
                                      exact ih44 (i3 + 1) (vp_updL bt4 (sz1 + i4) (bt1 (sz1 + i3))) H locs ls (by omega) (zl_set hM4 ha1 es1 el1 ed1 (by omega) (by omega) (by omega) (show i4 < lz1 by omega) (fun hz => absurd hz (by omega))) (fun j hj => (pk_uLn (by omega)).trans (hk4 j hj)) (by rw [his, show t - i3 = (t - (i3 + 1)) + 1 by omega, sp_is, hpe, ← zl_shE hsh] <;> rfl) (by omega) hZ (lv_sub hl [0, 3, 4, 5, 6, 7, 8] rfl)
                                    · have nc52 : ¬ i4 ≤ f := fun zq => c52 (show nI (i4) ≤ nI (f) from (nI_leI (by omega) (by omega)).mpr zq)
                                      refine lv_aload_n hx hb dX8_sort_196 rfl (lv_at hl 5 rfl) ?_
                                      refine zz_get hC hZ 7 rfl zf_X8_7 rfl dX8_sort_197 ?_
                                      refine lv_iload_n hx hb dX8_sort_200 rfl (lv_at hl 6 rfl) ?_
                                      refine zz_iald hC hZ 0 rfl (vp_in_nI (by omega) (by decide)) dX8_sort_201 ?_
                                      rw [nI_clamp (n := a1) (by omega)]
                                      refine lv_aload_n hx hb dX8_sort_202 rfl (lv_at hl 5 rfl) ?_
                                      refine zz_get hC hZ 7 rfl zf_X8_25 rfl dX8_sort_203 ?_
                                      refine lv_iload hx hb dX8_sort_206 (lv_at hl 3 rfl) ?_
                                      refine lv_iload hx hb dX8_sort_208 (lv_at hl 0 rfl) ?_
                                      refine lv_iadd hx hb dX8_sort_210 ?_
                                      refine zz_topi (v := nI (sz1 + i4)) (nI_add _ _) ?_
                                      refine lv_iconst (v := 1) hx hb dX8_sort_211 (by decide) ?_
                                      refine lv_isub hx hb dX8_sort_212 ?_
                                      refine zz_topi (v := nI ((sz1 + i4) - 1)) (pk_sub (b := 1) (by omega)) ?_
                                      refine zz_lald hC hZ 4 rfl (vp_in_nI (by omega) (by decide)) dX8_sort_213 ?_
                                      rw [nI_clamp (n := ((sz1 + i4) - 1)) (by omega)]
                                      refine zz_lS (As := [.int (kdf a1), .long (bt4 ((sz1 + i4) - 1))]) (wc := []) (wr := [cw_i g a_kindOf 60 kdf, cw_i g a_depthOf 60 dpf, cw_i g a_lengthOf 60 lnf, cw_i g a_baseOf 60 saf, cw_l g a_bits 4000 bt4, cw_z g a_pinned 4000 pnf, cw_l g a_held 200 he1, cw_k7 h0 (nI na) (nI ne) a_kindOf a_depthOf a_lengthOf a_classOf a_baseOf a_bits a_pinned i_code a_lengths a_stackArray a_stackOther a_stackAt i_lastArray i_lastPlace a_path a_held a_alike a_hashes (nI nd) a_decisionArray a_decisionPlace a_candidateMany a_candidates (nI nr) a_ruleSort a_ruleArray a_ruleWeight a_ruleLow a_ruleHigh a_chosen a_bestOf (nI nm) a_markElements a_markBits a_markPins]) (rest := []) hC hZ hs hl zc_X8_239 (cm_orderNumber g (kdf a1) (bt4 ((sz1 + i4) - 1))) [] [0, 1, 2, 3, 4, 5, 6, 7] rfl rfl (by decide +kernel) rfl rfl (Nat.le_of_ble_eq_true rfl) ⟨⟨Nat.le_of_ble_eq_true rfl, Nat.le_of_ble_eq_true rfl⟩, Nat.le_of_ble_eq_true rfl, Nat.le_of_ble_eq_true rfl⟩ dX8_sort_214 (fun r53 u54 H locs hp hZ => ?_)
                                      obtain ⟨rfl, rfl⟩ := hp
                                      have hZ : zz_Z g A s.heap [cw_i g a_kindOf 60 kdf, cw_i g a_depthOf 60 dpf, cw_i g a_lengthOf 60 lnf, cw_i g a_baseOf 60 saf, cw_l g a_bits 4000 bt4, cw_z g a_pinned 4000 pnf, cw_l g a_held 200 he1, cw_k7 h0 (nI na) (nI ne) a_kindOf a_depthOf a_lengthOf a_classOf a_baseOf a_bits a_pinned i_code a_lengths a_stackArray a_stackOther a_stackAt i_lastArray i_lastPlace a_path a_held a_alike a_hashes (nI nd) a_decisionArray a_decisionPlace a_candidateMany a_candidates (nI nr) a_ruleSort a_ruleArray a_ruleWeight a_ruleLow a_ruleHigh a_chosen a_bestOf (nI nm) a_markElements a_markBits a_markPins] H locs := hZ
                                      refine lv_aload_n hx hb dX8_sort_217 rfl (lv_at hl 5 rfl) ?_
                                      refine zz_get hC hZ 7 rfl zf_X8_7 rfl dX8_sort_218 ?_
                                      refine lv_iload_n hx hb dX8_sort_221 rfl (lv_at hl 6 rfl) ?_
                                      refine zz_iald hC hZ 0 rfl (vp_in_nI (by omega) (by decide)) dX8_sort_222 ?_
                                      rw [nI_clamp (n := a1) (by omega)]
                                      refine lv_lload hx hb dX8_sort_223 (lv_at hl 1 rfl) ?_
                                      refine zz_lS (As := [.int (kdf a1), .long (bt1 (sz1 + i3))]) (wc := []) (wr := [cw_i g a_kindOf 60 kdf, cw_i g a_depthOf 60 dpf, cw_i g a_lengthOf 60 lnf, cw_i g a_baseOf 60 saf, cw_l g a_bits 4000 bt4, cw_z g a_pinned 4000 pnf, cw_l g a_held 200 he1, cw_k7 h0 (nI na) (nI ne) a_kindOf a_depthOf a_lengthOf a_classOf a_baseOf a_bits a_pinned i_code a_lengths a_stackArray a_stackOther a_stackAt i_lastArray i_lastPlace a_path a_held a_alike a_hashes (nI nd) a_decisionArray a_decisionPlace a_candidateMany a_candidates (nI nr) a_ruleSort a_ruleArray a_ruleWeight a_ruleLow a_ruleHigh a_chosen a_bestOf (nI nm) a_markElements a_markBits a_markPins]) (rest := [.long (fn_cm_orderNumber (kdf a1) (bt4 ((sz1 + i4) - 1)))]) hC hZ hs hl zc_X8_239 (cm_orderNumber g (kdf a1) (bt1 (sz1 + i3))) [] [0, 1, 2, 3, 4, 5, 6, 7] rfl rfl (by decide +kernel) rfl rfl (Nat.le_of_ble_eq_true rfl) ⟨⟨Nat.le_of_ble_eq_true rfl, Nat.le_of_ble_eq_true rfl⟩, Nat.le_of_ble_eq_true rfl, Nat.le_of_ble_eq_true rfl⟩ dX8_sort_225 (fun r55 u56 H locs hp hZ => ?_)
                                      obtain ⟨rfl, rfl⟩ := hp
                                      have hZ : zz_Z g A s.heap [cw_i g a_kindOf 60 kdf, cw_i g a_depthOf 60 dpf, cw_i g a_lengthOf 60 lnf, cw_i g a_baseOf 60 saf, cw_l g a_bits 4000 bt4, cw_z g a_pinned 4000 pnf, cw_l g a_held 200 he1, cw_k7 h0 (nI na) (nI ne) a_kindOf a_depthOf a_lengthOf a_classOf a_baseOf a_bits a_pinned i_code a_lengths a_stackArray a_stackOther a_stackAt i_lastArray i_lastPlace a_path a_held a_alike a_hashes (nI nd) a_decisionArray a_decisionPlace a_candidateMany a_candidates (nI nr) a_ruleSort a_ruleArray a_ruleWeight a_ruleLow a_ruleHigh a_chosen a_bestOf (nI nm) a_markElements a_markBits a_markPins] H locs := hZ
                                      refine zz_lcmp_le (tgt := 260) hC dX8_sort_228 dX8_sort_229 (by decide) (fun c57 => ?_) (fun c57 => ?_)
                                      · refine lv_aload_n hx hb dX8_sort_260 rfl (lv_at hl 5 rfl) ?_
                                        refine zz_get hC hZ 7 rfl zf_X8_25 rfl dX8_sort_261 ?_
                                        refine lv_iload hx hb dX8_sort_264 (lv_at hl 3 rfl) ?_
                                        refine lv_iload hx hb dX8_sort_266 (lv_at hl 0 rfl) ?_
                                        refine lv_iadd hx hb dX8_sort_268 ?_
                                        refine zz_topi (v := nI (sz1 + i4)) (nI_add _ _) ?_
                                        refine lv_lload hx hb dX8_sort_269 (lv_at hl 1 rfl) ?_
                                        refine zz_last hC hZ 4 rfl (vp_in_nI (by omega) (by decide)) dX8_sort_271 (fun H locs hZ => ?_)
                                        rw [nI_clamp (n := (sz1 + i4)) (by omega)] at hZ
                                        have hZ : zz_Z g A s.heap [cw_i g a_kindOf 60 kdf, cw_i g a_depthOf 60 dpf, cw_i g a_lengthOf 60 lnf, cw_i g a_baseOf 60 saf, cw_l g a_bits 4000 (vp_updL bt4 (sz1 + i4) (bt1 (sz1 + i3))), cw_z g a_pinned 4000 pnf, cw_l g a_held 200 he1, cw_k7 h0 (nI na) (nI ne) a_kindOf a_depthOf a_lengthOf a_classOf a_baseOf a_bits a_pinned i_code a_lengths a_stackArray a_stackOther a_stackAt i_lastArray i_lastPlace a_path a_held a_alike a_hashes (nI nd) a_decisionArray a_decisionPlace a_candidateMany a_candidates (nI nr) a_ruleSort a_ruleArray a_ruleWeight a_ruleLow a_ruleHigh a_chosen a_bestOf (nI nm) a_markElements a_markBits a_markPins] H locs := hZ
                                        refine lv_iinc (v := nI (i3 + 1)) (lv' := [(6, .int (nI (i3 + 1))), (9, .int (nI i4)), (7, .long (bt1 (sz1 + i3))), (5, .int (nI sz1)), (4, .int w), (0, .ref h0), (1, .int (nI a1)), (2, .int (nI f)), (3, .int (nI t))]) hx hb dX8_sort_272 hl (k := 2) rfl (nI_1 _) (by decide) rfl (fun ls hl => ?_)
                                        refine lv_goto (tgt := 168) hx hb dX8_sort_275 (by decide) ?_
                                        have hpe := hps.trans (zl_psE (R := fn_cm_orderNumber (kdf a1)) (bt := bt1) (Or.inr (by have z := c57; rw [hsh, if_neg (by omega)] at z; exact z)))
                                        exact ih44 (i3 + 1) (vp_updL bt4 (sz1 + i4) (bt1 (sz1 + i3))) H locs ls (by omega) (zl_set hM4 ha1 es1 el1 ed1 (by omega) (by omega) (by omega) (show i4 < lz1 by omega) (fun hz => absurd hz (by omega))) (fun j hj => (pk_uLn (by omega)).trans (hk4 j hj)) (by rw [his, show t - i3 = (t - (i3 + 1)) + 1 by omega, sp_is, hpe, ← zl_shE hsh] <;> rfl) (by omega) hZ (lv_sub hl [0, 3, 4, 5, 6, 7, 8] rfl)
                                      · refine lv_aload_n hx hb dX8_sort_232 rfl (lv_at hl 5 rfl) ?_
                                        refine zz_get hC hZ 7 rfl zf_X8_25 rfl dX8_sort_233 ?_
                                        refine lv_iload hx hb dX8_sort_236 (lv_at hl 3 rfl) ?_
                                        refine lv_iload hx hb dX8_sort_238 (lv_at hl 0 rfl) ?_
                                        refine lv_iadd hx hb dX8_sort_240 ?_
                                        refine zz_topi (v := nI (sz1 + i4)) (nI_add _ _) ?_
                                        refine lv_aload_n hx hb dX8_sort_241 rfl (lv_at hl 5 rfl) ?_
                                        refine zz_get hC hZ 7 rfl zf_X8_25 rfl dX8_sort_242 ?_
                                        refine lv_iload hx hb dX8_sort_245 (lv_at hl 3 rfl) ?_
                                        refine lv_iload hx hb dX8_sort_247 (lv_at hl 0 rfl) ?_
                                        refine lv_iadd hx hb dX8_sort_249 ?_
                                        refine zz_topi (v := nI (sz1 + i4)) (nI_add _ _) ?_
                                        refine lv_iconst (v := 1) hx hb dX8_sort_250 (by decide) ?_
                                        refine lv_isub hx hb dX8_sort_251 ?_
                                        refine zz_topi (v := nI ((sz1 + i4) - 1)) (pk_sub (b := 1) (by omega)) ?_
                                        refine zz_lald hC hZ 4 rfl (vp_in_nI (by omega) (by decide)) dX8_sort_252 ?_
                                        rw [nI_clamp (n := ((sz1 + i4) - 1)) (by omega)]
                                        refine zz_last hC hZ 4 rfl (vp_in_nI (by omega) (by decide)) dX8_sort_253 (fun H locs hZ => ?_)
                                        rw [nI_clamp (n := (sz1 + i4)) (by omega)] at hZ
                                        have hZ : zz_Z g A s.heap [cw_i g a_kindOf 60 kdf, cw_i g a_depthOf 60 dpf, cw_i g a_lengthOf 60 lnf, cw_i g a_baseOf 60 saf, cw_l g a_bits 4000 (vp_updL bt4 (sz1 + i4) (bt4 ((sz1 + i4) - 1))), cw_z g a_pinned 4000 pnf, cw_l g a_held 200 he1, cw_k7 h0 (nI na) (nI ne) a_kindOf a_depthOf a_lengthOf a_classOf a_baseOf a_bits a_pinned i_code a_lengths a_stackArray a_stackOther a_stackAt i_lastArray i_lastPlace a_path a_held a_alike a_hashes (nI nd) a_decisionArray a_decisionPlace a_candidateMany a_candidates (nI nr) a_ruleSort a_ruleArray a_ruleWeight a_ruleLow a_ruleHigh a_chosen a_bestOf (nI nm) a_markElements a_markBits a_markPins] H locs := hZ
                                        refine lv_iinc (v := nI (i4 - 1)) (lv' := [(9, .int (nI (i4 - 1))), (7, .long (bt1 (sz1 + i3))), (6, .int (nI i3)), (5, .int (nI sz1)), (4, .int w), (0, .ref h0), (1, .int (nI a1)), (2, .int (nI f)), (3, .int (nI t))]) hx hb dX8_sort_254 hl (k := 0) rfl (zl_dec (by omega)) (by decide) rfl (fun ls hl => ?_)
                                        refine lv_goto (tgt := 190) hx hb dX8_sort_257 (by decide) ?_
                                        exact ih51 (i4 - 1) (vp_updL bt4 (sz1 + i4) (bt4 ((sz1 + i4) - 1))) H locs ls (by omega) (zl_set hM4 ha1 es1 el1 ed1 (by omega) (by omega) (by omega) (show i4 < lz1 by omega) (fun hz => absurd hz (by omega))) (fun j hj => (pk_uLn (by omega)).trans (hk4 j hj)) (zl_shS hsh (by omega) (by omega)) (by rw [hps, zl_psS (by omega) (by have z := c57; rw [hsh, if_neg (by omega)] at z; exact z), show sz1 + i4 - 1 = sz1 + (i4 - 1) by omega]) (by omega) hZ (lv_sub hl [0, 1, 2, 3, 4, 5, 6, 7, 8] rfl)
                                exact LP51 _ i3 bt1 H locs ls (by omega) (hM1) (hk1) (fun j => (if_neg (by omega)).symm) (rfl) (Nat.lt_succ_self _) hZ (lv_sub hl [0, 1, 2, 3, 4, 5, 6, 7, 8] rfl)
                          exact LP44 _ (f + 1) btf H locs ls (by omega) (h_M) (fun _ _ => rfl) (rfl) (Nat.lt_succ_self _) hZ (lv_sub hl [0, 1, 2, 3, 4, 5, 6] rfl)
                        · have nc43 : ¬ t ≤ i2 := fun zq => c43 (show nI (t) ≤ nI (i2) from (nI_leI (by omega) (by omega)).mpr zq)
                          refine lv_aload_n hx hb dX8_sort_140 rfl (lv_at hl 3 rfl) ?_
                          refine zz_get hC hZ 7 rfl zf_X8_48 rfl dX8_sort_141 ?_
                          refine lv_iload hx hb dX8_sort_144 (lv_at hl 0 rfl) ?_
                          refine lv_aload_n hx hb dX8_sort_146 rfl (lv_at hl 3 rfl) ?_
                          refine zz_get hC hZ 7 rfl zf_X8_25 rfl dX8_sort_147 ?_
                          refine lv_iload hx hb dX8_sort_150 (lv_at hl 1 rfl) ?_
                          refine lv_iload hx hb dX8_sort_152 (lv_at hl 0 rfl) ?_
                          refine lv_iadd hx hb dX8_sort_154 ?_
                          refine zz_topi (v := nI (sz1 + i2)) (nI_add _ _) ?_
                          refine zz_lald hC hZ 4 rfl (vp_in_nI (by omega) (by decide)) dX8_sort_155 ?_
                          rw [nI_clamp (n := (sz1 + i2)) (by omega)]
                          refine zz_last hC hZ 6 rfl (vp_in_nI (by omega) (by decide)) dX8_sort_156 (fun H locs hZ => ?_)
                          rw [nI_clamp (n := i2) (by omega)] at hZ
                          have hZ : zz_Z g A s.heap [cw_i g a_kindOf 60 kdf, cw_i g a_depthOf 60 dpf, cw_i g a_lengthOf 60 lnf, cw_i g a_baseOf 60 saf, cw_l g a_bits 4000 btf, cw_z g a_pinned 4000 pnf, cw_l g a_held 200 (vp_updL he1 i2 (btf (sz1 + i2))), cw_k7 h0 (nI na) (nI ne) a_kindOf a_depthOf a_lengthOf a_classOf a_baseOf a_bits a_pinned i_code a_lengths a_stackArray a_stackOther a_stackAt i_lastArray i_lastPlace a_path a_held a_alike a_hashes (nI nd) a_decisionArray a_decisionPlace a_candidateMany a_candidates (nI nr) a_ruleSort a_ruleArray a_ruleWeight a_ruleLow a_ruleHigh a_chosen a_bestOf (nI nm) a_markElements a_markBits a_markPins] H locs := hZ
                          refine lv_iinc (v := nI (i2 + 1)) (lv' := [(6, .int (nI (i2 + 1))), (5, .int (nI sz1)), (4, .int w), (0, .ref h0), (1, .int (nI a1)), (2, .int (nI f)), (3, .int (nI t))]) hx hb dX8_sort_157 hl (k := 0) rfl (nI_1 _) (by decide) rfl (fun ls hl => ?_)
                          refine lv_goto (tgt := 134) hx hb dX8_sort_160 (by decide) ?_
                          exact ih42 (i2 + 1) (vp_updL he1 i2 (btf (sz1 + i2))) H locs ls (by omega) (fun k h1 h2 => by by_cases z : k = i2; (rw [z, pk_uLs]); (rw [pk_uLn z]; exact hhe k h1 (by omega))) (by omega) hZ (lv_sub hl [0, 1, 2, 3, 4, 5, 6] rfl)
                    exact LP42 _ f hef H locs ls (by omega) (fun k h1 h2 => absurd h1 (by omega)) (Nat.lt_succ_self _) hZ (lv_sub hl [0, 1, 2, 3, 4, 5, 6] rfl)
                  · refine lv_aload_n hx hb dX8_sort_116 rfl (lv_at hl 2 rfl) ?_
                    refine lv_iload hx hb dX8_sort_117 (lv_at hl 1 rfl) ?_
                    refine zz_iV (As := [.int w]) (wc := [cw_k7 h0 (nI na) (nI ne) a_kindOf a_depthOf a_lengthOf a_classOf a_baseOf a_bits a_pinned i_code a_lengths a_stackArray a_stackOther a_stackAt i_lastArray i_lastPlace a_path a_held a_alike a_hashes (nI nd) a_decisionArray a_decisionPlace a_candidateMany a_candidates (nI nr) a_ruleSort a_ruleArray a_ruleWeight a_ruleLow a_ruleHigh a_chosen a_bestOf (nI nm) a_markElements a_markBits a_markPins]) (wr := [cw_i g a_kindOf 60 kdf, cw_i g a_depthOf 60 dpf, cw_i g a_lengthOf 60 lnf, cw_i g a_baseOf 60 saf, cw_l g a_bits 4000 btf, cw_z g a_pinned 4000 pnf, cw_l g a_held 200 hef]) (rest := []) hC hZ hs hl zc_X8_175 (cm_fails g h0 a_kindOf a_depthOf a_lengthOf a_classOf a_baseOf a_bits a_pinned a_lengths a_stackArray a_stackOther a_stackAt a_path a_held a_alike a_hashes a_decisionArray a_decisionPlace a_candidateMany a_candidates a_ruleSort a_ruleArray a_ruleWeight a_ruleLow a_ruleHigh a_chosen a_bestOf a_markElements a_markBits a_markPins (nI na) (nI ne) i_code i_lastArray i_lastPlace (nI nd) (nI nr) (nI nm) w) [7] [0, 1, 2, 3, 4, 5, 6] rfl rfl (by decide +kernel) (ci := 7) (q0 := 0) rfl rfl rfl rfl (Nat.le_of_ble_eq_true rfl) ⟨⟨Nat.le_of_ble_eq_true rfl, Nat.le_of_ble_eq_true rfl⟩, Nat.le_of_ble_eq_true rfl, Nat.le_of_ble_eq_true rfl⟩ dX8_sort_119 (fun r58 u59 H locs hp hZ => ?_)
                    obtain ⟨rfl, rfl⟩ := hp
                    have hZ : zz_Z g A s.heap [cw_i g a_kindOf 60 kdf, cw_i g a_depthOf 60 dpf, cw_i g a_lengthOf 60 lnf, cw_i g a_baseOf 60 saf, cw_l g a_bits 4000 btf, cw_z g a_pinned 4000 pnf, cw_l g a_held 200 hef, cw_k7 h0 (nI na) (nI ne) a_kindOf a_depthOf a_lengthOf a_classOf a_baseOf a_bits a_pinned w a_lengths a_stackArray a_stackOther a_stackAt i_lastArray i_lastPlace a_path a_held a_alike a_hashes (nI nd) a_decisionArray a_decisionPlace a_candidateMany a_candidates (nI nr) a_ruleSort a_ruleArray a_ruleWeight a_ruleLow a_ruleHigh a_chosen a_bestOf (nI nm) a_markElements a_markBits a_markPins] H locs := hZ
                    have hZ : zz_Z g A s.heap [cw_k7 h0 (nI na) (nI ne) a_kindOf a_depthOf a_lengthOf a_classOf a_baseOf a_bits a_pinned w a_lengths a_stackArray a_stackOther a_stackAt i_lastArray i_lastPlace a_path a_held a_alike a_hashes (nI nd) a_decisionArray a_decisionPlace a_candidateMany a_candidates (nI nr) a_ruleSort a_ruleArray a_ruleWeight a_ruleLow a_ruleHigh a_chosen a_bestOf (nI nm) a_markElements a_markBits a_markPins, cw_i g a_kindOf 60 kdf, cw_i g a_depthOf 60 dpf, cw_i g a_lengthOf 60 lnf, cw_i g a_baseOf 60 saf, cw_l g a_bits 4000 btf, cw_z g a_pinned 4000 pnf, cw_l g a_held 200 hef] H locs := hZ.sub [7, 0, 1, 2, 3, 4, 5, 6] (by decide +kernel) rfl
                    exact zz_iret hC hZ (⟨w, i_lastArray, i_lastPlace, btf, hef, by refine Eq.symm ?_; rw [fo_my_sort]; refine (if_neg (by (try simp only [d_a1, d_sz1, d_lz1, d_dz1, d_f, d_t, d_w]); exact c3)).trans ?_; refine (if_pos (by (try simp only [d_a1, d_sz1, d_lz1, d_dz1, d_f, d_t, d_w]); exact c4)).trans ?_; refine (if_neg (by (try simp only [d_a1, d_sz1, d_lz1, d_dz1, d_f, d_t, d_w]); exact c7)).trans ?_; refine (if_neg (by (try simp only [d_a1, d_sz1, d_lz1, d_dz1, d_f, d_t, d_w]); exact c18)).trans ?_; refine (if_neg (by (try simp only [d_a1, d_sz1, d_lz1, d_dz1, d_f, d_t, d_w]); exact c41)).trans ?_; first | (simp only [d_a1, d_sz1, d_lz1, d_dz1, d_f, d_t, d_w]; done) | rfl, h_M, zz_D1.rf, rfl⟩) (Nat.le_of_ble_eq_true rfl) (Nat.le_of_ble_eq_true rfl) dX8_sort_122
                · refine lv_aload_n hx hb dX8_sort_80 rfl (lv_at hl 2 rfl) ?_
                  refine zz_get hC hZ 7 rfl zf_X8_29 rfl dX8_sort_81 ?_
                  refine lv_aload_n hx hb dX8_sort_84 rfl (lv_at hl 2 rfl) ?_
                  refine zz_get hC hZ 7 rfl zf_X8_22 rfl dX8_sort_85 ?_
                  refine lv_iload_n hx hb dX8_sort_88 rfl (lv_at hl 3 rfl) ?_
                  refine zz_iald hC hZ 3 rfl (vp_in_nI (by omega) (by decide)) dX8_sort_89 ?_
                  rw [nI_clamp (n := a1) (by omega)]
                  refine zz_topi (v := nI sz1) (es1) ?_
                  refine lv_iload hx hb dX8_sort_90 (lv_at hl 0 rfl) ?_
                  refine lv_iadd hx hb dX8_sort_92 ?_
                  refine zz_topi (v := nI (sz1 + i)) (nI_add _ _) ?_
                  refine zz_zald hC hZ 5 rfl (vp_in_nI (by omega) (by decide)) dX8_sort_93 ?_
                  rw [nI_clamp (n := (sz1 + i)) (by omega)]
                  refine lv_if_eq (tgt := 102) hx hb dX8_sort_94 (by decide) (fun c60 => ?_) (fun c60 => ?_)
                  · refine lv_iconst (v := 0) hx hb dX8_sort_102 (by decide) ?_
                    refine lv_istore (lv' := [(4, .int 0), (5, .int (nI i)), (0, .ref h0), (1, .int (nI a1)), (2, .int (nI f)), (3, .int (nI t))]) hx hb dX8_sort_103 hl (by decide) rfl (fun ls hl => ?_)
                    refine lv_iinc (v := nI (i + 1)) (lv' := [(5, .int (nI (i + 1))), (4, .int 0), (0, .ref h0), (1, .int (nI a1)), (2, .int (nI f)), (3, .int (nI t))]) hx hb dX8_sort_105 hl (k := 1) rfl (nI_1 _) (by decide) rfl (fun ls hl => ?_)
                    refine lv_goto (tgt := 69) hx hb dX8_sort_108 (by decide) ?_
                    exact ih19 (i + 1) 0 H locs ls (by omega) (Or.inl ⟨rfl, zl_cpZ (by omega) (zl_w0 hc c40) c60⟩) (by omega) hZ (lv_sub hl [0, 1, 2, 3, 4, 5] rfl)
                  · refine lv_bipush (v := 6) hx hb dX8_sort_97 (by decide) ?_
                    refine lv_goto (tgt := 103) hx hb dX8_sort_99 (by decide) ?_
                    refine lv_istore (lv' := [(4, .int 6), (5, .int (nI i)), (0, .ref h0), (1, .int (nI a1)), (2, .int (nI f)), (3, .int (nI t))]) hx hb dX8_sort_103 hl (by decide) rfl (fun ls hl => ?_)
                    refine lv_iinc (v := nI (i + 1)) (lv' := [(5, .int (nI (i + 1))), (4, .int 6), (0, .ref h0), (1, .int (nI a1)), (2, .int (nI f)), (3, .int (nI t))]) hx hb dX8_sort_105 hl (k := 1) rfl (nI_1 _) (by decide) rfl (fun ls hl => ?_)
                    refine lv_goto (tgt := 69) hx hb dX8_sort_108 (by decide) ?_
                    exact ih19 (i + 1) 6 H locs ls (by omega) (Or.inr ⟨rfl, zl_cpP (by omega) (by omega) c60⟩) (by omega) hZ (lv_sub hl [0, 1, 2, 3, 4, 5] rfl)
          exact LP19 _ f 0 H locs ls (by omega) (Or.inl ⟨rfl, by rw [Nat.sub_self]; rfl⟩) (Nat.lt_succ_self _) hZ (lv_sub hl [0, 1, 2, 3, 4, 5] rfl)
        · refine lv_iconst (v := 2) hx hb dX8_sort_59 (by decide) ?_
          refine lv_goto (tgt := 64) hx hb dX8_sort_60 (by decide) ?_
          refine lv_istore (lv' := [(4, .int 2), (0, .ref h0), (1, .int (nI a1)), (2, .int (nI f)), (3, .int x3)]) hx hb dX8_sort_64 hl (by decide) rfl (fun ls hl => ?_)
          refine lv_iload_n hx hb dX8_sort_66 rfl (lv_at hl 3 rfl) ?_
          refine lv_istore (lv' := [(5, .int (nI f)), (4, .int 2), (0, .ref h0), (1, .int (nI a1)), (2, .int (nI f)), (3, .int x3)]) hx hb dX8_sort_67 hl (by decide) rfl (fun ls hl => ?_)
          refine lv_iload hx hb dX8_sort_69 (lv_at hl 0 rfl) ?_
          refine lv_iload_n hx hb dX8_sort_71 rfl (lv_at hl 5 rfl) ?_
          refine lv_icmp_ge (tgt := 111) hx hb dX8_sort_72 (by decide) (fun c61 => ?_) (fun c61 => ?_)
          · refine lv_iload hx hb dX8_sort_111 (lv_at hl 1 rfl) ?_
            refine lv_if_le (tgt := 123) hx hb dX8_sort_113 (by decide) (fun c => absurd c (by decide)) (fun c62 => ?_)
            refine lv_aload_n hx hb dX8_sort_116 rfl (lv_at hl 2 rfl) ?_
            refine lv_iload hx hb dX8_sort_117 (lv_at hl 1 rfl) ?_
            refine zz_iV (As := [.int 2]) (wc := [cw_k7 h0 (nI na) (nI ne) a_kindOf a_depthOf a_lengthOf a_classOf a_baseOf a_bits a_pinned i_code a_lengths a_stackArray a_stackOther a_stackAt i_lastArray i_lastPlace a_path a_held a_alike a_hashes (nI nd) a_decisionArray a_decisionPlace a_candidateMany a_candidates (nI nr) a_ruleSort a_ruleArray a_ruleWeight a_ruleLow a_ruleHigh a_chosen a_bestOf (nI nm) a_markElements a_markBits a_markPins]) (wr := [cw_i g a_kindOf 60 kdf, cw_i g a_depthOf 60 dpf, cw_i g a_lengthOf 60 lnf, cw_i g a_baseOf 60 saf, cw_l g a_bits 4000 btf, cw_z g a_pinned 4000 pnf, cw_l g a_held 200 hef]) (rest := []) hC hZ hs hl zc_X8_175 (cm_fails g h0 a_kindOf a_depthOf a_lengthOf a_classOf a_baseOf a_bits a_pinned a_lengths a_stackArray a_stackOther a_stackAt a_path a_held a_alike a_hashes a_decisionArray a_decisionPlace a_candidateMany a_candidates a_ruleSort a_ruleArray a_ruleWeight a_ruleLow a_ruleHigh a_chosen a_bestOf a_markElements a_markBits a_markPins (nI na) (nI ne) i_code i_lastArray i_lastPlace (nI nd) (nI nr) (nI nm) 2) [7] [0, 1, 2, 3, 4, 5, 6] rfl rfl (by decide +kernel) (ci := 7) (q0 := 0) rfl rfl rfl rfl (Nat.le_of_ble_eq_true rfl) ⟨⟨Nat.le_of_ble_eq_true rfl, Nat.le_of_ble_eq_true rfl⟩, Nat.le_of_ble_eq_true rfl, Nat.le_of_ble_eq_true rfl⟩ dX8_sort_119 (fun r63 u64 H locs hp hZ => ?_)
            obtain ⟨rfl, rfl⟩ := hp
            have hZ : zz_Z g A s.heap [cw_i g a_kindOf 60 kdf, cw_i g a_depthOf 60 dpf, cw_i g a_lengthOf 60 lnf, cw_i g a_baseOf 60 saf, cw_l g a_bits 4000 btf, cw_z g a_pinned 4000 pnf, cw_l g a_held 200 hef, cw_k7 h0 (nI na) (nI ne) a_kindOf a_depthOf a_lengthOf a_classOf a_baseOf a_bits a_pinned 2 a_lengths a_stackArray a_stackOther a_stackAt i_lastArray i_lastPlace a_path a_held a_alike a_hashes (nI nd) a_decisionArray a_decisionPlace a_candidateMany a_candidates (nI nr) a_ruleSort a_ruleArray a_ruleWeight a_ruleLow a_ruleHigh a_chosen a_bestOf (nI nm) a_markElements a_markBits a_markPins] H locs := hZ
            have hZ : zz_Z g A s.heap [cw_k7 h0 (nI na) (nI ne) a_kindOf a_depthOf a_lengthOf a_classOf a_baseOf a_bits a_pinned 2 a_lengths a_stackArray a_stackOther a_stackAt i_lastArray i_lastPlace a_path a_held a_alike a_hashes (nI nd) a_decisionArray a_decisionPlace a_candidateMany a_candidates (nI nr) a_ruleSort a_ruleArray a_ruleWeight a_ruleLow a_ruleHigh a_chosen a_bestOf (nI nm) a_markElements a_markBits a_markPins, cw_i g a_kindOf 60 kdf, cw_i g a_depthOf 60 dpf, cw_i g a_lengthOf 60 lnf, cw_i g a_baseOf 60 saf, cw_l g a_bits 4000 btf, cw_z g a_pinned 4000 pnf, cw_l g a_held 200 hef] H locs := hZ.sub [7, 0, 1, 2, 3, 4, 5, 6] (by decide +kernel) rfl
            exact zz_iret hC hZ (⟨2, i_lastArray, i_lastPlace, btf, hef, by refine Eq.symm ?_; rw [fo_my_sort]; refine (if_neg (by (try simp only [d_a1, d_sz1, d_lz1, d_dz1, d_f]); exact c3)).trans ?_; refine (if_pos (by (try simp only [d_a1, d_sz1, d_lz1, d_dz1, d_f]); exact c4)).trans ?_; refine (if_neg (by (try simp only [d_a1, d_sz1, d_lz1, d_dz1, d_f]); exact c7)).trans ?_; refine (if_pos (by (try simp only [d_a1, d_sz1, d_lz1, d_dz1, d_f]); exact c18)).trans ?_; first | (simp only [d_a1, d_sz1, d_lz1, d_dz1, d_f]; done) | rfl, h_M, zz_D1.rf, rfl⟩) (Nat.le_of_ble_eq_true rfl) (Nat.le_of_ble_eq_true rfl) dX8_sort_122
          · refine lv_iload hx hb dX8_sort_75 (lv_at hl 1 rfl) ?_
            refine lv_if_ne (tgt := 111) hx hb dX8_sort_77 (by decide) (fun c65 => ?_) (fun c => absurd c (by decide))
            refine lv_iload hx hb dX8_sort_111 (lv_at hl 1 rfl) ?_
            refine lv_if_le (tgt := 123) hx hb dX8_sort_113 (by decide) (fun c => absurd c (by decide)) (fun c66 => ?_)
            refine lv_aload_n hx hb dX8_sort_116 rfl (lv_at hl 2 rfl) ?_
            refine lv_iload hx hb dX8_sort_117 (lv_at hl 1 rfl) ?_
            refine zz_iV (As := [.int 2]) (wc := [cw_k7 h0 (nI na) (nI ne) a_kindOf a_depthOf a_lengthOf a_classOf a_baseOf a_bits a_pinned i_code a_lengths a_stackArray a_stackOther a_stackAt i_lastArray i_lastPlace a_path a_held a_alike a_hashes (nI nd) a_decisionArray a_decisionPlace a_candidateMany a_candidates (nI nr) a_ruleSort a_ruleArray a_ruleWeight a_ruleLow a_ruleHigh a_chosen a_bestOf (nI nm) a_markElements a_markBits a_markPins]) (wr := [cw_i g a_kindOf 60 kdf, cw_i g a_depthOf 60 dpf, cw_i g a_lengthOf 60 lnf, cw_i g a_baseOf 60 saf, cw_l g a_bits 4000 btf, cw_z g a_pinned 4000 pnf, cw_l g a_held 200 hef]) (rest := []) hC hZ hs hl zc_X8_175 (cm_fails g h0 a_kindOf a_depthOf a_lengthOf a_classOf a_baseOf a_bits a_pinned a_lengths a_stackArray a_stackOther a_stackAt a_path a_held a_alike a_hashes a_decisionArray a_decisionPlace a_candidateMany a_candidates a_ruleSort a_ruleArray a_ruleWeight a_ruleLow a_ruleHigh a_chosen a_bestOf a_markElements a_markBits a_markPins (nI na) (nI ne) i_code i_lastArray i_lastPlace (nI nd) (nI nr) (nI nm) 2) [7] [0, 1, 2, 3, 4, 5, 6] rfl rfl (by decide +kernel) (ci := 7) (q0 := 0) rfl rfl rfl rfl (Nat.le_of_ble_eq_true rfl) ⟨⟨Nat.le_of_ble_eq_true rfl, Nat.le_of_ble_eq_true rfl⟩, Nat.le_of_ble_eq_true rfl, Nat.le_of_ble_eq_true rfl⟩ dX8_sort_119 (fun r67 u68 H locs hp hZ => ?_)
            obtain ⟨rfl, rfl⟩ := hp
            have hZ : zz_Z g A s.heap [cw_i g a_kindOf 60 kdf, cw_i g a_depthOf 60 dpf, cw_i g a_lengthOf 60 lnf, cw_i g a_baseOf 60 saf, cw_l g a_bits 4000 btf, cw_z g a_pinned 4000 pnf, cw_l g a_held 200 hef, cw_k7 h0 (nI na) (nI ne) a_kindOf a_depthOf a_lengthOf a_classOf a_baseOf a_bits a_pinned 2 a_lengths a_stackArray a_stackOther a_stackAt i_lastArray i_lastPlace a_path a_held a_alike a_hashes (nI nd) a_decisionArray a_decisionPlace a_candidateMany a_candidates (nI nr) a_ruleSort a_ruleArray a_ruleWeight a_ruleLow a_ruleHigh a_chosen a_bestOf (nI nm) a_markElements a_markBits a_markPins] H locs := hZ
            have hZ : zz_Z g A s.heap [cw_k7 h0 (nI na) (nI ne) a_kindOf a_depthOf a_lengthOf a_classOf a_baseOf a_bits a_pinned 2 a_lengths a_stackArray a_stackOther a_stackAt i_lastArray i_lastPlace a_path a_held a_alike a_hashes (nI nd) a_decisionArray a_decisionPlace a_candidateMany a_candidates (nI nr) a_ruleSort a_ruleArray a_ruleWeight a_ruleLow a_ruleHigh a_chosen a_bestOf (nI nm) a_markElements a_markBits a_markPins, cw_i g a_kindOf 60 kdf, cw_i g a_depthOf 60 dpf, cw_i g a_lengthOf 60 lnf, cw_i g a_baseOf 60 saf, cw_l g a_bits 4000 btf, cw_z g a_pinned 4000 pnf, cw_l g a_held 200 hef] H locs := hZ.sub [7, 0, 1, 2, 3, 4, 5, 6] (by decide +kernel) rfl
            exact zz_iret hC hZ (⟨2, i_lastArray, i_lastPlace, btf, hef, by refine Eq.symm ?_; rw [fo_my_sort]; refine (if_neg (by (try simp only [d_a1, d_sz1, d_lz1, d_dz1, d_f]); exact c3)).trans ?_; refine (if_pos (by (try simp only [d_a1, d_sz1, d_lz1, d_dz1, d_f]); exact c4)).trans ?_; refine (if_neg (by (try simp only [d_a1, d_sz1, d_lz1, d_dz1, d_f]); exact c7)).trans ?_; refine (if_pos (by (try simp only [d_a1, d_sz1, d_lz1, d_dz1, d_f]); exact c18)).trans ?_; first | (simp only [d_a1, d_sz1, d_lz1, d_dz1, d_f]; done) | rfl, h_M, zz_D1.rf, rfl⟩) (Nat.le_of_ble_eq_true rfl) (Nat.le_of_ble_eq_true rfl) dX8_sort_122
    · have nc4 : ¬ dz1 ≤ 1 := fun zq => c4 (show nI (dz1) ≤ nI (1) from (nI_leI (by omega) (by omega)).mpr zq)
      refine lv_iconst (v := 1) hx hb dX8_sort_22 (by decide) ?_
      refine lv_goto (tgt := 64) hx hb dX8_sort_23 (by decide) ?_
      refine lv_istore (lv' := [(4, .int 1), (0, .ref h0), (1, .int (nI a1)), (2, .int x2), (3, .int x3)]) hx hb dX8_sort_64 hl (by decide) rfl (fun ls hl => ?_)
      refine lv_iload_n hx hb dX8_sort_66 rfl (lv_at hl 3 rfl) ?_
      refine lv_istore (lv' := [(5, .int x2), (4, .int 1), (0, .ref h0), (1, .int (nI a1)), (2, .int x2), (3, .int x3)]) hx hb dX8_sort_67 hl (by decide) rfl (fun ls hl => ?_)
      refine lv_iload hx hb dX8_sort_69 (lv_at hl 0 rfl) ?_
      refine lv_iload_n hx hb dX8_sort_71 rfl (lv_at hl 5 rfl) ?_
      refine lv_icmp_ge (tgt := 111) hx hb dX8_sort_72 (by decide) (fun c69 => ?_) (fun c69 => ?_)
      · refine lv_iload hx hb dX8_sort_111 (lv_at hl 1 rfl) ?_
        refine lv_if_le (tgt := 123) hx hb dX8_sort_113 (by decide) (fun c => absurd c (by decide)) (fun c70 => ?_)
        refine lv_aload_n hx hb dX8_sort_116 rfl (lv_at hl 2 rfl) ?_
        refine lv_iload hx hb dX8_sort_117 (lv_at hl 1 rfl) ?_
        refine zz_iV (As := [.int 1]) (wc := [cw_k7 h0 (nI na) (nI ne) a_kindOf a_depthOf a_lengthOf a_classOf a_baseOf a_bits a_pinned i_code a_lengths a_stackArray a_stackOther a_stackAt i_lastArray i_lastPlace a_path a_held a_alike a_hashes (nI nd) a_decisionArray a_decisionPlace a_candidateMany a_candidates (nI nr) a_ruleSort a_ruleArray a_ruleWeight a_ruleLow a_ruleHigh a_chosen a_bestOf (nI nm) a_markElements a_markBits a_markPins]) (wr := [cw_i g a_kindOf 60 kdf, cw_i g a_depthOf 60 dpf, cw_i g a_lengthOf 60 lnf, cw_i g a_baseOf 60 saf, cw_l g a_bits 4000 btf, cw_z g a_pinned 4000 pnf, cw_l g a_held 200 hef]) (rest := []) hC hZ hs hl zc_X8_175 (cm_fails g h0 a_kindOf a_depthOf a_lengthOf a_classOf a_baseOf a_bits a_pinned a_lengths a_stackArray a_stackOther a_stackAt a_path a_held a_alike a_hashes a_decisionArray a_decisionPlace a_candidateMany a_candidates a_ruleSort a_ruleArray a_ruleWeight a_ruleLow a_ruleHigh a_chosen a_bestOf a_markElements a_markBits a_markPins (nI na) (nI ne) i_code i_lastArray i_lastPlace (nI nd) (nI nr) (nI nm) 1) [7] [0, 1, 2, 3, 4, 5, 6] rfl rfl (by decide +kernel) (ci := 7) (q0 := 0) rfl rfl rfl rfl (Nat.le_of_ble_eq_true rfl) ⟨⟨Nat.le_of_ble_eq_true rfl, Nat.le_of_ble_eq_true rfl⟩, Nat.le_of_ble_eq_true rfl, Nat.le_of_ble_eq_true rfl⟩ dX8_sort_119 (fun r71 u72 H locs hp hZ => ?_)
        obtain ⟨rfl, rfl⟩ := hp
        have hZ : zz_Z g A s.heap [cw_i g a_kindOf 60 kdf, cw_i g a_depthOf 60 dpf, cw_i g a_lengthOf 60 lnf, cw_i g a_baseOf 60 saf, cw_l g a_bits 4000 btf, cw_z g a_pinned 4000 pnf, cw_l g a_held 200 hef, cw_k7 h0 (nI na) (nI ne) a_kindOf a_depthOf a_lengthOf a_classOf a_baseOf a_bits a_pinned 1 a_lengths a_stackArray a_stackOther a_stackAt i_lastArray i_lastPlace a_path a_held a_alike a_hashes (nI nd) a_decisionArray a_decisionPlace a_candidateMany a_candidates (nI nr) a_ruleSort a_ruleArray a_ruleWeight a_ruleLow a_ruleHigh a_chosen a_bestOf (nI nm) a_markElements a_markBits a_markPins] H locs := hZ
        have hZ : zz_Z g A s.heap [cw_k7 h0 (nI na) (nI ne) a_kindOf a_depthOf a_lengthOf a_classOf a_baseOf a_bits a_pinned 1 a_lengths a_stackArray a_stackOther a_stackAt i_lastArray i_lastPlace a_path a_held a_alike a_hashes (nI nd) a_decisionArray a_decisionPlace a_candidateMany a_candidates (nI nr) a_ruleSort a_ruleArray a_ruleWeight a_ruleLow a_ruleHigh a_chosen a_bestOf (nI nm) a_markElements a_markBits a_markPins, cw_i g a_kindOf 60 kdf, cw_i g a_depthOf 60 dpf, cw_i g a_lengthOf 60 lnf, cw_i g a_baseOf 60 saf, cw_l g a_bits 4000 btf, cw_z g a_pinned 4000 pnf, cw_l g a_held 200 hef] H locs := hZ.sub [7, 0, 1, 2, 3, 4, 5, 6] (by decide +kernel) rfl
        exact zz_iret hC hZ (⟨1, i_lastArray, i_lastPlace, btf, hef, by refine Eq.symm ?_; rw [fo_my_sort]; refine (if_neg (by (try simp only [d_a1, d_sz1, d_lz1, d_dz1]); exact c3)).trans ?_; refine (if_neg (by (try simp only [d_a1, d_sz1, d_lz1, d_dz1]); exact c4)).trans ?_; first | (simp only [d_a1, d_sz1, d_lz1, d_dz1]; done) | rfl, h_M, zz_D1.rf, rfl⟩) (Nat.le_of_ble_eq_true rfl) (Nat.le_of_ble_eq_true rfl) dX8_sort_122
      · refine lv_iload hx hb dX8_sort_75 (lv_at hl 1 rfl) ?_
        refine lv_if_ne (tgt := 111) hx hb dX8_sort_77 (by decide) (fun c73 => ?_) (fun c => absurd c (by decide))
        refine lv_iload hx hb dX8_sort_111 (lv_at hl 1 rfl) ?_
        refine lv_if_le (tgt := 123) hx hb dX8_sort_113 (by decide) (fun c => absurd c (by decide)) (fun c74 => ?_)
        refine lv_aload_n hx hb dX8_sort_116 rfl (lv_at hl 2 rfl) ?_
        refine lv_iload hx hb dX8_sort_117 (lv_at hl 1 rfl) ?_
        refine zz_iV (As := [.int 1]) (wc := [cw_k7 h0 (nI na) (nI ne) a_kindOf a_depthOf a_lengthOf a_classOf a_baseOf a_bits a_pinned i_code a_lengths a_stackArray a_stackOther a_stackAt i_lastArray i_lastPlace a_path a_held a_alike a_hashes (nI nd) a_decisionArray a_decisionPlace a_candidateMany a_candidates (nI nr) a_ruleSort a_ruleArray a_ruleWeight a_ruleLow a_ruleHigh a_chosen a_bestOf (nI nm) a_markElements a_markBits a_markPins]) (wr := [cw_i g a_kindOf 60 kdf, cw_i g a_depthOf 60 dpf, cw_i g a_lengthOf 60 lnf, cw_i g a_baseOf 60 saf, cw_l g a_bits 4000 btf, cw_z g a_pinned 4000 pnf, cw_l g a_held 200 hef]) (rest := []) hC hZ hs hl zc_X8_175 (cm_fails g h0 a_kindOf a_depthOf a_lengthOf a_classOf a_baseOf a_bits a_pinned a_lengths a_stackArray a_stackOther a_stackAt a_path a_held a_alike a_hashes a_decisionArray a_decisionPlace a_candidateMany a_candidates a_ruleSort a_ruleArray a_ruleWeight a_ruleLow a_ruleHigh a_chosen a_bestOf a_markElements a_markBits a_markPins (nI na) (nI ne) i_code i_lastArray i_lastPlace (nI nd) (nI nr) (nI nm) 1) [7] [0, 1, 2, 3, 4, 5, 6] rfl rfl (by decide +kernel) (ci := 7) (q0 := 0) rfl rfl rfl rfl (Nat.le_of_ble_eq_true rfl) ⟨⟨Nat.le_of_ble_eq_true rfl, Nat.le_of_ble_eq_true rfl⟩, Nat.le_of_ble_eq_true rfl, Nat.le_of_ble_eq_true rfl⟩ dX8_sort_119 (fun r75 u76 H locs hp hZ => ?_)
        obtain ⟨rfl, rfl⟩ := hp
        have hZ : zz_Z g A s.heap [cw_i g a_kindOf 60 kdf, cw_i g a_depthOf 60 dpf, cw_i g a_lengthOf 60 lnf, cw_i g a_baseOf 60 saf, cw_l g a_bits 4000 btf, cw_z g a_pinned 4000 pnf, cw_l g a_held 200 hef, cw_k7 h0 (nI na) (nI ne) a_kindOf a_depthOf a_lengthOf a_classOf a_baseOf a_bits a_pinned 1 a_lengths a_stackArray a_stackOther a_stackAt i_lastArray i_lastPlace a_path a_held a_alike a_hashes (nI nd) a_decisionArray a_decisionPlace a_candidateMany a_candidates (nI nr) a_ruleSort a_ruleArray a_ruleWeight a_ruleLow a_ruleHigh a_chosen a_bestOf (nI nm) a_markElements a_markBits a_markPins] H locs := hZ
        have hZ : zz_Z g A s.heap [cw_k7 h0 (nI na) (nI ne) a_kindOf a_depthOf a_lengthOf a_classOf a_baseOf a_bits a_pinned 1 a_lengths a_stackArray a_stackOther a_stackAt i_lastArray i_lastPlace a_path a_held a_alike a_hashes (nI nd) a_decisionArray a_decisionPlace a_candidateMany a_candidates (nI nr) a_ruleSort a_ruleArray a_ruleWeight a_ruleLow a_ruleHigh a_chosen a_bestOf (nI nm) a_markElements a_markBits a_markPins, cw_i g a_kindOf 60 kdf, cw_i g a_depthOf 60 dpf, cw_i g a_lengthOf 60 lnf, cw_i g a_baseOf 60 saf, cw_l g a_bits 4000 btf, cw_z g a_pinned 4000 pnf, cw_l g a_held 200 hef] H locs := hZ.sub [7, 0, 1, 2, 3, 4, 5, 6] (by decide +kernel) rfl
        exact zz_iret hC hZ (⟨1, i_lastArray, i_lastPlace, btf, hef, by refine Eq.symm ?_; rw [fo_my_sort]; refine (if_neg (by (try simp only [d_a1, d_sz1, d_lz1, d_dz1]); exact c3)).trans ?_; refine (if_neg (by (try simp only [d_a1, d_sz1, d_lz1, d_dz1]); exact c4)).trans ?_; first | (simp only [d_a1, d_sz1, d_lz1, d_dz1]; done) | rfl, h_M, zz_D1.rf, rfl⟩) (Nat.le_of_ble_eq_true rfl) (Nat.le_of_ble_eq_true rfl) dX8_sort_122
  · refine lv_iconst (v := 5) hx hb dX8_sort_8 (by decide) ?_
    refine lv_goto (tgt := 64) hx hb dX8_sort_9 (by decide) ?_
    refine lv_istore (lv' := [(4, .int 5), (0, .ref h0), (1, .int x1), (2, .int x2), (3, .int x3)]) hx hb dX8_sort_64 hl (by decide) rfl (fun ls hl => ?_)
    refine lv_iload_n hx hb dX8_sort_66 rfl (lv_at hl 3 rfl) ?_
    refine lv_istore (lv' := [(5, .int x2), (4, .int 5), (0, .ref h0), (1, .int x1), (2, .int x2), (3, .int x3)]) hx hb dX8_sort_67 hl (by decide) rfl (fun ls hl => ?_)
    refine lv_iload hx hb dX8_sort_69 (lv_at hl 0 rfl) ?_
    refine lv_iload_n hx hb dX8_sort_71 rfl (lv_at hl 5 rfl) ?_
    refine lv_icmp_ge (tgt := 111) hx hb dX8_sort_72 (by decide) (fun c77 => ?_) (fun c77 => ?_)
    · refine lv_iload hx hb dX8_sort_111 (lv_at hl 1 rfl) ?_
      refine lv_if_le (tgt := 123) hx hb dX8_sort_113 (by decide) (fun c => absurd c (by decide)) (fun c78 => ?_)
      refine lv_aload_n hx hb dX8_sort_116 rfl (lv_at hl 2 rfl) ?_
      refine lv_iload hx hb dX8_sort_117 (lv_at hl 1 rfl) ?_
      refine zz_iV (As := [.int 5]) (wc := [cw_k7 h0 (nI na) (nI ne) a_kindOf a_depthOf a_lengthOf a_classOf a_baseOf a_bits a_pinned i_code a_lengths a_stackArray a_stackOther a_stackAt i_lastArray i_lastPlace a_path a_held a_alike a_hashes (nI nd) a_decisionArray a_decisionPlace a_candidateMany a_candidates (nI nr) a_ruleSort a_ruleArray a_ruleWeight a_ruleLow a_ruleHigh a_chosen a_bestOf (nI nm) a_markElements a_markBits a_markPins]) (wr := [cw_i g a_kindOf 60 kdf, cw_i g a_depthOf 60 dpf, cw_i g a_lengthOf 60 lnf, cw_i g a_baseOf 60 saf, cw_l g a_bits 4000 btf, cw_z g a_pinned 4000 pnf, cw_l g a_held 200 hef]) (rest := []) hC hZ hs hl zc_X8_175 (cm_fails g h0 a_kindOf a_depthOf a_lengthOf a_classOf a_baseOf a_bits a_pinned a_lengths a_stackArray a_stackOther a_stackAt a_path a_held a_alike a_hashes a_decisionArray a_decisionPlace a_candidateMany a_candidates a_ruleSort a_ruleArray a_ruleWeight a_ruleLow a_ruleHigh a_chosen a_bestOf a_markElements a_markBits a_markPins (nI na) (nI ne) i_code i_lastArray i_lastPlace (nI nd) (nI nr) (nI nm) 5) [7] [0, 1, 2, 3, 4, 5, 6] rfl rfl (by decide +kernel) (ci := 7) (q0 := 0) rfl rfl rfl rfl (Nat.le_of_ble_eq_true rfl) ⟨⟨Nat.le_of_ble_eq_true rfl, Nat.le_of_ble_eq_true rfl⟩, Nat.le_of_ble_eq_true rfl, Nat.le_of_ble_eq_true rfl⟩ dX8_sort_119 (fun r79 u80 H locs hp hZ => ?_)
      obtain ⟨rfl, rfl⟩ := hp
      have hZ : zz_Z g A s.heap [cw_i g a_kindOf 60 kdf, cw_i g a_depthOf 60 dpf, cw_i g a_lengthOf 60 lnf, cw_i g a_baseOf 60 saf, cw_l g a_bits 4000 btf, cw_z g a_pinned 4000 pnf, cw_l g a_held 200 hef, cw_k7 h0 (nI na) (nI ne) a_kindOf a_depthOf a_lengthOf a_classOf a_baseOf a_bits a_pinned 5 a_lengths a_stackArray a_stackOther a_stackAt i_lastArray i_lastPlace a_path a_held a_alike a_hashes (nI nd) a_decisionArray a_decisionPlace a_candidateMany a_candidates (nI nr) a_ruleSort a_ruleArray a_ruleWeight a_ruleLow a_ruleHigh a_chosen a_bestOf (nI nm) a_markElements a_markBits a_markPins] H locs := hZ
      have hZ : zz_Z g A s.heap [cw_k7 h0 (nI na) (nI ne) a_kindOf a_depthOf a_lengthOf a_classOf a_baseOf a_bits a_pinned 5 a_lengths a_stackArray a_stackOther a_stackAt i_lastArray i_lastPlace a_path a_held a_alike a_hashes (nI nd) a_decisionArray a_decisionPlace a_candidateMany a_candidates (nI nr) a_ruleSort a_ruleArray a_ruleWeight a_ruleLow a_ruleHigh a_chosen a_bestOf (nI nm) a_markElements a_markBits a_markPins, cw_i g a_kindOf 60 kdf, cw_i g a_depthOf 60 dpf, cw_i g a_lengthOf 60 lnf, cw_i g a_baseOf 60 saf, cw_l g a_bits 4000 btf, cw_z g a_pinned 4000 pnf, cw_l g a_held 200 hef] H locs := hZ.sub [7, 0, 1, 2, 3, 4, 5, 6] (by decide +kernel) rfl
      exact zz_iret hC hZ (⟨5, i_lastArray, i_lastPlace, btf, hef, by show _ = _; rw [fo_my_sort]; rw [if_pos c3], h_M, zz_D1.rf, rfl⟩) (Nat.le_of_ble_eq_true rfl) (Nat.le_of_ble_eq_true rfl) dX8_sort_122
    · refine lv_iload hx hb dX8_sort_75 (lv_at hl 1 rfl) ?_
      refine lv_if_ne (tgt := 111) hx hb dX8_sort_77 (by decide) (fun c81 => ?_) (fun c => absurd c (by decide))
      refine lv_iload hx hb dX8_sort_111 (lv_at hl 1 rfl) ?_
      refine lv_if_le (tgt := 123) hx hb dX8_sort_113 (by decide) (fun c => absurd c (by decide)) (fun c82 => ?_)
      refine lv_aload_n hx hb dX8_sort_116 rfl (lv_at hl 2 rfl) ?_
      refine lv_iload hx hb dX8_sort_117 (lv_at hl 1 rfl) ?_
      refine zz_iV (As := [.int 5]) (wc := [cw_k7 h0 (nI na) (nI ne) a_kindOf a_depthOf a_lengthOf a_classOf a_baseOf a_bits a_pinned i_code a_lengths a_stackArray a_stackOther a_stackAt i_lastArray i_lastPlace a_path a_held a_alike a_hashes (nI nd) a_decisionArray a_decisionPlace a_candidateMany a_candidates (nI nr) a_ruleSort a_ruleArray a_ruleWeight a_ruleLow a_ruleHigh a_chosen a_bestOf (nI nm) a_markElements a_markBits a_markPins]) (wr := [cw_i g a_kindOf 60 kdf, cw_i g a_depthOf 60 dpf, cw_i g a_lengthOf 60 lnf, cw_i g a_baseOf 60 saf, cw_l g a_bits 4000 btf, cw_z g a_pinned 4000 pnf, cw_l g a_held 200 hef]) (rest := []) hC hZ hs hl zc_X8_175 (cm_fails g h0 a_kindOf a_depthOf a_lengthOf a_classOf a_baseOf a_bits a_pinned a_lengths a_stackArray a_stackOther a_stackAt a_path a_held a_alike a_hashes a_decisionArray a_decisionPlace a_candidateMany a_candidates a_ruleSort a_ruleArray a_ruleWeight a_ruleLow a_ruleHigh a_chosen a_bestOf a_markElements a_markBits a_markPins (nI na) (nI ne) i_code i_lastArray i_lastPlace (nI nd) (nI nr) (nI nm) 5) [7] [0, 1, 2, 3, 4, 5, 6] rfl rfl (by decide +kernel) (ci := 7) (q0 := 0) rfl rfl rfl rfl (Nat.le_of_ble_eq_true rfl) ⟨⟨Nat.le_of_ble_eq_true rfl, Nat.le_of_ble_eq_true rfl⟩, Nat.le_of_ble_eq_true rfl, Nat.le_of_ble_eq_true rfl⟩ dX8_sort_119 (fun r83 u84 H locs hp hZ => ?_)
      obtain ⟨rfl, rfl⟩ := hp
      have hZ : zz_Z g A s.heap [cw_i g a_kindOf 60 kdf, cw_i g a_depthOf 60 dpf, cw_i g a_lengthOf 60 lnf, cw_i g a_baseOf 60 saf, cw_l g a_bits 4000 btf, cw_z g a_pinned 4000 pnf, cw_l g a_held 200 hef, cw_k7 h0 (nI na) (nI ne) a_kindOf a_depthOf a_lengthOf a_classOf a_baseOf a_bits a_pinned 5 a_lengths a_stackArray a_stackOther a_stackAt i_lastArray i_lastPlace a_path a_held a_alike a_hashes (nI nd) a_decisionArray a_decisionPlace a_candidateMany a_candidates (nI nr) a_ruleSort a_ruleArray a_ruleWeight a_ruleLow a_ruleHigh a_chosen a_bestOf (nI nm) a_markElements a_markBits a_markPins] H locs := hZ
      have hZ : zz_Z g A s.heap [cw_k7 h0 (nI na) (nI ne) a_kindOf a_depthOf a_lengthOf a_classOf a_baseOf a_bits a_pinned 5 a_lengths a_stackArray a_stackOther a_stackAt i_lastArray i_lastPlace a_path a_held a_alike a_hashes (nI nd) a_decisionArray a_decisionPlace a_candidateMany a_candidates (nI nr) a_ruleSort a_ruleArray a_ruleWeight a_ruleLow a_ruleHigh a_chosen a_bestOf (nI nm) a_markElements a_markBits a_markPins, cw_i g a_kindOf 60 kdf, cw_i g a_depthOf 60 dpf, cw_i g a_lengthOf 60 lnf, cw_i g a_baseOf 60 saf, cw_l g a_bits 4000 btf, cw_z g a_pinned 4000 pnf, cw_l g a_held 200 hef] H locs := hZ.sub [7, 0, 1, 2, 3, 4, 5, 6] (by decide +kernel) rfl
      exact zz_iret hC hZ (⟨5, i_lastArray, i_lastPlace, btf, hef, by show _ = _; rw [fo_my_sort]; rw [if_pos c3], h_M, zz_D1.rf, rfl⟩) (Nat.le_of_ble_eq_true rfl) (Nat.le_of_ble_eq_true rfl) dX8_sort_122
theorem dg_X8_search_0 : (decode cX8_search 0 = .ok (.aload_n 0, 1)) ∧ (decode cX8_search 1 = .ok (.iload_n 1, 1)) ∧ (decode cX8_search 2 = .ok (.invokevirtual 200, 3)) ∧ (decode cX8_search 5 = .ok (.ifCond .ne 7, 3)) ∧ (decode cX8_search 8 = .ok (.iconst 5, 1)) ∧ (decode cX8_search 9 = .ok (.goto 36, 3)) ∧ (decode cX8_search 12 = .ok (.aload_n 0, 1)) ∧ (decode cX8_search 13 = .ok (.getfield 7, 3)) ∧ (decode cX8_search 16 = .ok (.iload_n 1, 1)) ∧ (decode cX8_search 17 = .ok (.iaload, 1)) ∧ (decode cX8_search 18 = .ok (.lload_n 2, 1)) ∧ (decode cX8_search 19 = .ok (.invokestatic 230, 3)) ∧ (decode cX8_search 22 = .ok (.ifCond .ne 8, 3)) ∧ (decode cX8_search 25 = .ok (.bipush 9, 2)) ∧ (decode cX8_search 27 = .ok (.goto 18, 3)) ∧ (decode cX8_search 30 = .ok (.aload_n 0, 1)) := by decide +kernel
theorem dX8_search_0 : decode cX8_search 0 = .ok (.aload_n 0, 1) := dg_X8_search_0.1
theorem dX8_search_1 : decode cX8_search 1 = .ok (.iload_n 1, 1) := dg_X8_search_0.2.1
theorem dX8_search_2 : decode cX8_search 2 = .ok (.invokevirtual 200, 3) := dg_X8_search_0.2.2.1
theorem dX8_search_5 : decode cX8_search 5 = .ok (.ifCond .ne 7, 3) := dg_X8_search_0.2.2.2.1
theorem dX8_search_8 : decode cX8_search 8 = .ok (.iconst 5, 1) := dg_X8_search_0.2.2.2.2.1
theorem dX8_search_9 : decode cX8_search 9 = .ok (.goto 36, 3) := dg_X8_search_0.2.2.2.2.2.1
theorem dX8_search_12 : decode cX8_search 12 = .ok (.aload_n 0, 1) := dg_X8_search_0.2.2.2.2.2.2.1
theorem dX8_search_13 : decode cX8_search 13 = .ok (.getfield 7, 3) := dg_X8_search_0.2.2.2.2.2.2.2.1
theorem dX8_search_16 : decode cX8_search 16 = .ok (.iload_n 1, 1) := dg_X8_search_0.2.2.2.2.2.2.2.2.1
theorem dX8_search_17 : decode cX8_search 17 = .ok (.iaload, 1) := dg_X8_search_0.2.2.2.2.2.2.2.2.2.1
theorem dX8_search_18 : decode cX8_search 18 = .ok (.lload_n 2, 1) := dg_X8_search_0.2.2.2.2.2.2.2.2.2.2.1
theorem dX8_search_19 : decode cX8_search 19 = .ok (.invokestatic 230, 3) := dg_X8_search_0.2.2.2.2.2.2.2.2.2.2.2.1
theorem dX8_search_22 : decode cX8_search 22 = .ok (.ifCond .ne 8, 3) := dg_X8_search_0.2.2.2.2.2.2.2.2.2.2.2.2.1
theorem dX8_search_25 : decode cX8_search 25 = .ok (.bipush 9, 2) := dg_X8_search_0.2.2.2.2.2.2.2.2.2.2.2.2.2.1
theorem dX8_search_27 : decode cX8_search 27 = .ok (.goto 18, 3) := dg_X8_search_0.2.2.2.2.2.2.2.2.2.2.2.2.2.2.1
theorem dX8_search_30 : decode cX8_search 30 = .ok (.aload_n 0, 1) := dg_X8_search_0.2.2.2.2.2.2.2.2.2.2.2.2.2.2.2
theorem dg_X8_search_31 : (decode cX8_search 31 = .ok (.getfield 13, 3)) ∧ (decode cX8_search 34 = .ok (.iload_n 1, 1)) ∧ (decode cX8_search 35 = .ok (.iaload, 1)) ∧ (decode cX8_search 36 = .ok (.iconst 1, 1)) ∧ (decode cX8_search 37 = .ok (.if_icmp .le 7, 3)) ∧ (decode cX8_search 40 = .ok (.iconst 1, 1)) ∧ (decode cX8_search 41 = .ok (.goto 4, 3)) ∧ (decode cX8_search 44 = .ok (.iconst 0, 1)) ∧ (decode cX8_search 45 = .ok (.istore 4, 2)) ∧ (decode cX8_search 47 = .ok (.iload 4, 2)) ∧ (decode cX8_search 49 = .ok (.ifCond .le 10, 3)) ∧ (decode cX8_search 52 = .ok (.aload_n 0, 1)) ∧ (decode cX8_search 53 = .ok (.iload 4, 2)) ∧ (decode cX8_search 55 = .ok (.invokevirtual 175, 3)) ∧ (decode cX8_search 58 = .ok (.ireturn, 1)) ∧ (decode cX8_search 59 = .ok (.aload_n 0, 1)) := by decide +kernel
theorem dX8_search_31 : decode cX8_search 31 = .ok (.getfield 13, 3) := dg_X8_search_31.1
theorem dX8_search_34 : decode cX8_search 34 = .ok (.iload_n 1, 1) := dg_X8_search_31.2.1
theorem dX8_search_35 : decode cX8_search 35 = .ok (.iaload, 1) := dg_X8_search_31.2.2.1
theorem dX8_search_36 : decode cX8_search 36 = .ok (.iconst 1, 1) := dg_X8_search_31.2.2.2.1
theorem dX8_search_37 : decode cX8_search 37 = .ok (.if_icmp .le 7, 3) := dg_X8_search_31.2.2.2.2.1
theorem dX8_search_40 : decode cX8_search 40 = .ok (.iconst 1, 1) := dg_X8_search_31.2.2.2.2.2.1
theorem dX8_search_41 : decode cX8_search 41 = .ok (.goto 4, 3) := dg_X8_search_31.2.2.2.2.2.2.1
theorem dX8_search_44 : decode cX8_search 44 = .ok (.iconst 0, 1) := dg_X8_search_31.2.2.2.2.2.2.2.1
theorem dX8_search_45 : decode cX8_search 45 = .ok (.istore 4, 2) := dg_X8_search_31.2.2.2.2.2.2.2.2.1
theorem dX8_search_47 : decode cX8_search 47 = .ok (.iload 4, 2) := dg_X8_search_31.2.2.2.2.2.2.2.2.2.1
theorem dX8_search_49 : decode cX8_search 49 = .ok (.ifCond .le 10, 3) := dg_X8_search_31.2.2.2.2.2.2.2.2.2.2.1
theorem dX8_search_52 : decode cX8_search 52 = .ok (.aload_n 0, 1) := dg_X8_search_31.2.2.2.2.2.2.2.2.2.2.2.1
theorem dX8_search_53 : decode cX8_search 53 = .ok (.iload 4, 2) := dg_X8_search_31.2.2.2.2.2.2.2.2.2.2.2.2.1
theorem dX8_search_55 : decode cX8_search 55 = .ok (.invokevirtual 175, 3) := dg_X8_search_31.2.2.2.2.2.2.2.2.2.2.2.2.2.1
theorem dX8_search_58 : decode cX8_search 58 = .ok (.ireturn, 1) := dg_X8_search_31.2.2.2.2.2.2.2.2.2.2.2.2.2.2.1
theorem dX8_search_59 : decode cX8_search 59 = .ok (.aload_n 0, 1) := dg_X8_search_31.2.2.2.2.2.2.2.2.2.2.2.2.2.2.2
theorem dg_X8_search_60 : (decode cX8_search 60 = .ok (.getfield 7, 3)) ∧ (decode cX8_search 63 = .ok (.iload_n 1, 1)) ∧ (decode cX8_search 64 = .ok (.iaload, 1)) ∧ (decode cX8_search 65 = .ok (.aload_n 0, 1)) ∧ (decode cX8_search 66 = .ok (.getfield 7, 3)) ∧ (decode cX8_search 69 = .ok (.iload_n 1, 1)) ∧ (decode cX8_search 70 = .ok (.iaload, 1)) ∧ (decode cX8_search 71 = .ok (.lload_n 2, 1)) ∧ (decode cX8_search 72 = .ok (.invokestatic 150, 3)) ∧ (decode cX8_search 75 = .ok (.invokestatic 239, 3)) ∧ (decode cX8_search 78 = .ok (.lstore 5, 2)) ∧ (decode cX8_search 80 = .ok (.iconst 0, 1)) ∧ (decode cX8_search 81 = .ok (.istore 7, 2)) ∧ (decode cX8_search 83 = .ok (.aload_n 0, 1)) ∧ (decode cX8_search 84 = .ok (.getfield 16, 3)) ∧ (decode cX8_search 87 = .ok (.iload_n 1, 1)) := by decide +kernel
theorem dX8_search_60 : decode cX8_search 60 = .ok (.getfield 7, 3) := dg_X8_search_60.1
theorem dX8_search_63 : decode cX8_search 63 = .ok (.iload_n 1, 1) := dg_X8_search_60.2.1
theorem dX8_search_64 : decode cX8_search 64 = .ok (.iaload, 1) := dg_X8_search_60.2.2.1
theorem dX8_search_65 : decode cX8_search 65 = .ok (.aload_n 0, 1) := dg_X8_search_60.2.2.2.1
theorem dX8_search_66 : decode cX8_search 66 = .ok (.getfield 7, 3) := dg_X8_search_60.2.2.2.2.1
theorem dX8_search_69 : decode cX8_search 69 = .ok (.iload_n 1, 1) := dg_X8_search_60.2.2.2.2.2.1
theorem dX8_search_70 : decode cX8_search 70 = .ok (.iaload, 1) := dg_X8_search_60.2.2.2.2.2.2.1
theorem dX8_search_71 : decode cX8_search 71 = .ok (.lload_n 2, 1) := dg_X8_search_60.2.2.2.2.2.2.2.1
theorem dX8_search_72 : decode cX8_search 72 = .ok (.invokestatic 150, 3) := dg_X8_search_60.2.2.2.2.2.2.2.2.1
theorem dX8_search_75 : decode cX8_search 75 = .ok (.invokestatic 239, 3) := dg_X8_search_60.2.2.2.2.2.2.2.2.2.1
theorem dX8_search_78 : decode cX8_search 78 = .ok (.lstore 5, 2) := dg_X8_search_60.2.2.2.2.2.2.2.2.2.2.1
theorem dX8_search_80 : decode cX8_search 80 = .ok (.iconst 0, 1) := dg_X8_search_60.2.2.2.2.2.2.2.2.2.2.2.1
theorem dX8_search_81 : decode cX8_search 81 = .ok (.istore 7, 2) := dg_X8_search_60.2.2.2.2.2.2.2.2.2.2.2.2.1
theorem dX8_search_83 : decode cX8_search 83 = .ok (.aload_n 0, 1) := dg_X8_search_60.2.2.2.2.2.2.2.2.2.2.2.2.2.1
theorem dX8_search_84 : decode cX8_search 84 = .ok (.getfield 16, 3) := dg_X8_search_60.2.2.2.2.2.2.2.2.2.2.2.2.2.2.1
theorem dX8_search_87 : decode cX8_search 87 = .ok (.iload_n 1, 1) := dg_X8_search_60.2.2.2.2.2.2.2.2.2.2.2.2.2.2.2
theorem dg_X8_search_88 : (decode cX8_search 88 = .ok (.iaload, 1)) ∧ (decode cX8_search 89 = .ok (.iconst 1, 1)) ∧ (decode cX8_search 90 = .ok (.isub, 1)) ∧ (decode cX8_search 91 = .ok (.istore 8, 2)) ∧ (decode cX8_search 93 = .ok (.iload 7, 2)) ∧ (decode cX8_search 95 = .ok (.iload 8, 2)) ∧ (decode cX8_search 97 = .ok (.if_icmp .gt 78, 3)) ∧ (decode cX8_search 100 = .ok (.iload 7, 2)) ∧ (decode cX8_search 102 = .ok (.iload 8, 2)) ∧ (decode cX8_search 104 = .ok (.iadd, 1)) ∧ (decode cX8_search 105 = .ok (.iconst 2, 1)) ∧ (decode cX8_search 106 = .ok (.idiv, 1)) ∧ (decode cX8_search 107 = .ok (.istore 9, 2)) ∧ (decode cX8_search 109 = .ok (.aload_n 0, 1)) ∧ (decode cX8_search 110 = .ok (.getfield 7, 3)) ∧ (decode cX8_search 113 = .ok (.iload_n 1, 1)) := by decide +kernel
theorem dX8_search_88 : decode cX8_search 88 = .ok (.iaload, 1) := dg_X8_search_88.1
theorem dX8_search_89 : decode cX8_search 89 = .ok (.iconst 1, 1) := dg_X8_search_88.2.1
theorem dX8_search_90 : decode cX8_search 90 = .ok (.isub, 1) := dg_X8_search_88.2.2.1
theorem dX8_search_91 : decode cX8_search 91 = .ok (.istore 8, 2) := dg_X8_search_88.2.2.2.1
theorem dX8_search_93 : decode cX8_search 93 = .ok (.iload 7, 2) := dg_X8_search_88.2.2.2.2.1
theorem dX8_search_95 : decode cX8_search 95 = .ok (.iload 8, 2) := dg_X8_search_88.2.2.2.2.2.1
theorem dX8_search_97 : decode cX8_search 97 = .ok (.if_icmp .gt 78, 3) := dg_X8_search_88.2.2.2.2.2.2.1
theorem dX8_search_100 : decode cX8_search 100 = .ok (.iload 7, 2) := dg_X8_search_88.2.2.2.2.2.2.2.1
theorem dX8_search_102 : decode cX8_search 102 = .ok (.iload 8, 2) := dg_X8_search_88.2.2.2.2.2.2.2.2.1
theorem dX8_search_104 : decode cX8_search 104 = .ok (.iadd, 1) := dg_X8_search_88.2.2.2.2.2.2.2.2.2.1
theorem dX8_search_105 : decode cX8_search 105 = .ok (.iconst 2, 1) := dg_X8_search_88.2.2.2.2.2.2.2.2.2.2.1
theorem dX8_search_106 : decode cX8_search 106 = .ok (.idiv, 1) := dg_X8_search_88.2.2.2.2.2.2.2.2.2.2.2.1
theorem dX8_search_107 : decode cX8_search 107 = .ok (.istore 9, 2) := dg_X8_search_88.2.2.2.2.2.2.2.2.2.2.2.2.1
theorem dX8_search_109 : decode cX8_search 109 = .ok (.aload_n 0, 1) := dg_X8_search_88.2.2.2.2.2.2.2.2.2.2.2.2.2.1
theorem dX8_search_110 : decode cX8_search 110 = .ok (.getfield 7, 3) := dg_X8_search_88.2.2.2.2.2.2.2.2.2.2.2.2.2.2.1
theorem dX8_search_113 : decode cX8_search 113 = .ok (.iload_n 1, 1) := dg_X8_search_88.2.2.2.2.2.2.2.2.2.2.2.2.2.2.2
theorem dg_X8_search_114 : (decode cX8_search 114 = .ok (.iaload, 1)) ∧ (decode cX8_search 115 = .ok (.aload_n 0, 1)) ∧ (decode cX8_search 116 = .ok (.getfield 25, 3)) ∧ (decode cX8_search 119 = .ok (.aload_n 0, 1)) ∧ (decode cX8_search 120 = .ok (.getfield 22, 3)) ∧ (decode cX8_search 123 = .ok (.iload_n 1, 1)) ∧ (decode cX8_search 124 = .ok (.iaload, 1)) ∧ (decode cX8_search 125 = .ok (.iload 9, 2)) ∧ (decode cX8_search 127 = .ok (.iadd, 1)) ∧ (decode cX8_search 128 = .ok (.laload, 1)) ∧ (decode cX8_search 129 = .ok (.invokestatic 239, 3)) ∧ (decode cX8_search 132 = .ok (.lstore 10, 2)) ∧ (decode cX8_search 134 = .ok (.lload 10, 2)) ∧ (decode cX8_search 136 = .ok (.lload 5, 2)) ∧ (decode cX8_search 138 = .ok (.lcmp, 1)) ∧ (decode cX8_search 139 = .ok (.ifCond .ne 10, 3)) := by decide +kernel
theorem dX8_search_114 : decode cX8_search 114 = .ok (.iaload, 1) := dg_X8_search_114.1
theorem dX8_search_115 : decode cX8_search 115 = .ok (.aload_n 0, 1) := dg_X8_search_114.2.1
theorem dX8_search_116 : decode cX8_search 116 = .ok (.getfield 25, 3) := dg_X8_search_114.2.2.1
theorem dX8_search_119 : decode cX8_search 119 = .ok (.aload_n 0, 1) := dg_X8_search_114.2.2.2.1
theorem dX8_search_120 : decode cX8_search 120 = .ok (.getfield 22, 3) := dg_X8_search_114.2.2.2.2.1
theorem dX8_search_123 : decode cX8_search 123 = .ok (.iload_n 1, 1) := dg_X8_search_114.2.2.2.2.2.1
theorem dX8_search_124 : decode cX8_search 124 = .ok (.iaload, 1) := dg_X8_search_114.2.2.2.2.2.2.1
theorem dX8_search_125 : decode cX8_search 125 = .ok (.iload 9, 2) := dg_X8_search_114.2.2.2.2.2.2.2.1
theorem dX8_search_127 : decode cX8_search 127 = .ok (.iadd, 1) := dg_X8_search_114.2.2.2.2.2.2.2.2.1
theorem dX8_search_128 : decode cX8_search 128 = .ok (.laload, 1) := dg_X8_search_114.2.2.2.2.2.2.2.2.2.1
theorem dX8_search_129 : decode cX8_search 129 = .ok (.invokestatic 239, 3) := dg_X8_search_114.2.2.2.2.2.2.2.2.2.2.1
theorem dX8_search_132 : decode cX8_search 132 = .ok (.lstore 10, 2) := dg_X8_search_114.2.2.2.2.2.2.2.2.2.2.2.1
theorem dX8_search_134 : decode cX8_search 134 = .ok (.lload 10, 2) := dg_X8_search_114.2.2.2.2.2.2.2.2.2.2.2.2.1
theorem dX8_search_136 : decode cX8_search 136 = .ok (.lload 5, 2) := dg_X8_search_114.2.2.2.2.2.2.2.2.2.2.2.2.2.1
theorem dX8_search_138 : decode cX8_search 138 = .ok (.lcmp, 1) := dg_X8_search_114.2.2.2.2.2.2.2.2.2.2.2.2.2.2.1
theorem dX8_search_139 : decode cX8_search 139 = .ok (.ifCond .ne 10, 3) := dg_X8_search_114.2.2.2.2.2.2.2.2.2.2.2.2.2.2.2
theorem dg_X8_search_142 : (decode cX8_search 142 = .ok (.aload_n 0, 1)) ∧ (decode cX8_search 143 = .ok (.iload 9, 2)) ∧ (decode cX8_search 145 = .ok (.invokevirtual 183, 3)) ∧ (decode cX8_search 148 = .ok (.ireturn, 1)) ∧ (decode cX8_search 149 = .ok (.lload 10, 2)) ∧ (decode cX8_search 151 = .ok (.lload 5, 2)) ∧ (decode cX8_search 153 = .ok (.lcmp, 1)) ∧ (decode cX8_search 154 = .ok (.ifCond .ge 12, 3)) ∧ (decode cX8_search 157 = .ok (.iload 9, 2)) ∧ (decode cX8_search 159 = .ok (.iconst 1, 1)) ∧ (decode cX8_search 160 = .ok (.iadd, 1)) ∧ (decode cX8_search 161 = .ok (.istore 7, 2)) ∧ (decode cX8_search 163 = .ok (.goto 9, 3)) ∧ (decode cX8_search 166 = .ok (.iload 9, 2)) ∧ (decode cX8_search 168 = .ok (.iconst 1, 1)) ∧ (decode cX8_search 169 = .ok (.isub, 1)) := by decide +kernel
theorem dX8_search_142 : decode cX8_search 142 = .ok (.aload_n 0, 1) := dg_X8_search_142.1
theorem dX8_search_143 : decode cX8_search 143 = .ok (.iload 9, 2) := dg_X8_search_142.2.1
theorem dX8_search_145 : decode cX8_search 145 = .ok (.invokevirtual 183, 3) := dg_X8_search_142.2.2.1
theorem dX8_search_148 : decode cX8_search 148 = .ok (.ireturn, 1) := dg_X8_search_142.2.2.2.1
theorem dX8_search_149 : decode cX8_search 149 = .ok (.lload 10, 2) := dg_X8_search_142.2.2.2.2.1
theorem dX8_search_151 : decode cX8_search 151 = .ok (.lload 5, 2) := dg_X8_search_142.2.2.2.2.2.1
theorem dX8_search_153 : decode cX8_search 153 = .ok (.lcmp, 1) := dg_X8_search_142.2.2.2.2.2.2.1
theorem dX8_search_154 : decode cX8_search 154 = .ok (.ifCond .ge 12, 3) := dg_X8_search_142.2.2.2.2.2.2.2.1
theorem dX8_search_157 : decode cX8_search 157 = .ok (.iload 9, 2) := dg_X8_search_142.2.2.2.2.2.2.2.2.1
theorem dX8_search_159 : decode cX8_search 159 = .ok (.iconst 1, 1) := dg_X8_search_142.2.2.2.2.2.2.2.2.2.1
theorem dX8_search_160 : decode cX8_search 160 = .ok (.iadd, 1) := dg_X8_search_142.2.2.2.2.2.2.2.2.2.2.1
theorem dX8_search_161 : decode cX8_search 161 = .ok (.istore 7, 2) := dg_X8_search_142.2.2.2.2.2.2.2.2.2.2.2.1
theorem dX8_search_163 : decode cX8_search 163 = .ok (.goto 9, 3) := dg_X8_search_142.2.2.2.2.2.2.2.2.2.2.2.2.1
theorem dX8_search_166 : decode cX8_search 166 = .ok (.iload 9, 2) := dg_X8_search_142.2.2.2.2.2.2.2.2.2.2.2.2.2.1
theorem dX8_search_168 : decode cX8_search 168 = .ok (.iconst 1, 1) := dg_X8_search_142.2.2.2.2.2.2.2.2.2.2.2.2.2.2.1
theorem dX8_search_169 : decode cX8_search 169 = .ok (.isub, 1) := dg_X8_search_142.2.2.2.2.2.2.2.2.2.2.2.2.2.2.2
theorem dg_X8_search_170 : (decode cX8_search 170 = .ok (.istore 8, 2)) ∧ (decode cX8_search 172 = .ok (.goto (-79), 3)) ∧ (decode cX8_search 175 = .ok (.aload_n 0, 1)) ∧ (decode cX8_search 176 = .ok (.bipush (-100), 2)) ∧ (decode cX8_search 178 = .ok (.iload 7, 2)) ∧ (decode cX8_search 180 = .ok (.isub, 1)) ∧ (decode cX8_search 181 = .ok (.invokevirtual 183, 3)) ∧ (decode cX8_search 184 = .ok (.ireturn, 1)) := by decide +kernel
theorem dX8_search_170 : decode cX8_search 170 = .ok (.istore 8, 2) := dg_X8_search_170.1
theorem dX8_search_172 : decode cX8_search 172 = .ok (.goto (-79), 3) := dg_X8_search_170.2.1
theorem dX8_search_175 : decode cX8_search 175 = .ok (.aload_n 0, 1) := dg_X8_search_170.2.2.1
theorem dX8_search_176 : decode cX8_search 176 = .ok (.bipush (-100), 2) := dg_X8_search_170.2.2.2.1
theorem dX8_search_178 : decode cX8_search 178 = .ok (.iload 7, 2) := dg_X8_search_170.2.2.2.2.1
theorem dX8_search_180 : decode cX8_search 180 = .ok (.isub, 1) := dg_X8_search_170.2.2.2.2.2.1
theorem dX8_search_181 : decode cX8_search 181 = .ok (.invokevirtual 183, 3) := dg_X8_search_170.2.2.2.2.2.2.1
theorem dX8_search_184 : decode cX8_search 184 = .ok (.ireturn, 1) := dg_X8_search_170.2.2.2.2.2.2.2
abbrev rm_my_search : Room := { frames := 2, cells := 0, slots := 0, locals := 47 }
abbrev po_my_search (g : zz_G) (h0 : Nat) (a_kindOf : Nat) (a_depthOf : Nat) (a_lengthOf : Nat) (a_classOf : Nat) (a_baseOf : Nat) (a_bits : Nat) (a_pinned : Nat) (a_lengths : Nat) (a_stackArray : Nat) (a_stackOther : Nat) (a_stackAt : Nat) (a_path : Nat) (a_held : Nat) (a_alike : Nat) (a_hashes : Nat) (a_decisionArray : Nat) (a_decisionPlace : Nat) (a_candidateMany : Nat) (a_candidates : Nat) (a_ruleSort : Nat) (a_ruleArray : Nat) (a_ruleWeight : Nat) (a_ruleLow : Nat) (a_ruleHigh : Nat) (a_chosen : Nat) (a_bestOf : Nat) (a_markElements : Nat) (a_markBits : Nat) (a_markPins : Nat) (na : Nat) (ne : Nat) (nd : Nat) (nr : Nat) (nm : Nat) (i_code : Int32) (i_lastArray : Int32) (i_lastPlace : Int32) (kdf : Nat → Int32) (dpf : Nat → Int32) (lnf : Nat → Int32) (saf : Nat → Int32) (btf : Nat → Int64) (x1 : Int32) (x2 : Int64) (h_S : zz_SI na ne dpf saf lnf) : Int32 → va_W → Prop := fun (r : Int32) (u : va_W) => ∃ (k_c : Int32) (k_a : Int32) (k_p : Int32), u = [cw_k7 h0 (nI na) (nI ne) a_kindOf a_depthOf a_lengthOf a_classOf a_baseOf a_bits a_pinned k_c a_lengths a_stackArray a_stackOther a_stackAt k_a k_p a_path a_held a_alike a_hashes (nI nd) a_decisionArray a_decisionPlace a_candidateMany a_candidates (nI nr) a_ruleSort a_ruleArray a_ruleWeight a_ruleLow a_ruleHigh a_chosen a_bestOf (nI nm) a_markElements a_markBits a_markPins, cw_i g a_kindOf 60 kdf, cw_i g a_depthOf 60 dpf, cw_i g a_lengthOf 60 lnf, cw_i g a_baseOf 60 saf, cw_l g a_bits 4000 btf]
set_option maxHeartbeats 4000000 in
set_option maxRecDepth 100000 in
theorem my_search (g : zz_G) (h0 : Nat) (a_kindOf : Nat) (a_depthOf : Nat) (a_lengthOf : Nat) (a_classOf : Nat) (a_baseOf : Nat) (a_bits : Nat) (a_pinned : Nat) (a_lengths : Nat) (a_stackArray : Nat) (a_stackOther : Nat) (a_stackAt : Nat) (a_path : Nat) (a_held : Nat) (a_alike : Nat) (a_hashes : Nat) (a_decisionArray : Nat) (a_decisionPlace : Nat) (a_candidateMany : Nat) (a_candidates : Nat) (a_ruleSort : Nat) (a_ruleArray : Nat) (a_ruleWeight : Nat) (a_ruleLow : Nat) (a_ruleHigh : Nat) (a_chosen : Nat) (a_bestOf : Nat) (a_markElements : Nat) (a_markBits : Nat) (a_markPins : Nat) (na : Nat) (ne : Nat) (nd : Nat) (nr : Nat) (nm : Nat) (i_code : Int32) (i_lastArray : Int32) (i_lastPlace : Int32) (kdf : Nat → Int32) (dpf : Nat → Int32) (lnf : Nat → Int32) (saf : Nat → Int32) (btf : Nat → Int64) (x1 : Int32) (x2 : Int64) (h_S : zz_SI na ne dpf saf lnf) : zz_I g yX8_search (.code yX8_search cX8_search 12 (some .int)) rm_my_search [.ref h0, .int x1, .long x2] [cw_k7 h0 (nI na) (nI ne) a_kindOf a_depthOf a_lengthOf a_classOf a_baseOf a_bits a_pinned i_code a_lengths a_stackArray a_stackOther a_stackAt i_lastArray i_lastPlace a_path a_held a_alike a_hashes (nI nd) a_decisionArray a_decisionPlace a_candidateMany a_candidates (nI nr) a_ruleSort a_ruleArray a_ruleWeight a_ruleLow a_ruleHigh a_chosen a_bestOf (nI nm) a_markElements a_markBits a_markPins, cw_i g a_kindOf 60 kdf, cw_i g a_depthOf 60 dpf, cw_i g a_lengthOf 60 lnf, cw_i g a_baseOf 60 saf, cw_l g a_bits 4000 btf] (po_my_search g h0 a_kindOf a_depthOf a_lengthOf a_classOf a_baseOf a_bits a_pinned a_lengths a_stackArray a_stackOther a_stackAt a_path a_held a_alike a_hashes a_decisionArray a_decisionPlace a_candidateMany a_candidates a_ruleSort a_ruleArray a_ruleWeight a_ruleLow a_ruleHigh a_chosen a_bestOf a_markElements a_markBits a_markPins na ne nd nr nm i_code i_lastArray i_lastPlace kdf dpf lnf saf btf x1 x2 h_S) := by
  refine zz_I.intro (own := RX8) (cc := cX8_search) (nL := 12) (by decide) rfl (Nat.le_of_ble_eq_true rfl) ?_
  intro p l e s m args below meth c A H locs ls hC hnm hs hZ hl
  obtain ⟨hx, hb, hml, hown, hts, hr, hlocks, hK⟩ := id hC
  have hl : lv_has ls 12 [(0, .ref h0), (1, .int x1), (2, .long x2)] := hl
  have hZ : zz_Z g A s.heap [cw_k7 h0 (nI na) (nI ne) a_kindOf a_depthOf a_lengthOf a_classOf a_baseOf a_bits a_pinned i_code a_lengths a_stackArray a_stackOther a_stackAt i_lastArray i_lastPlace a_path a_held a_alike a_hashes (nI nd) a_decisionArray a_decisionPlace a_candidateMany a_candidates (nI nr) a_ruleSort a_ruleArray a_ruleWeight a_ruleLow a_ruleHigh a_chosen a_bestOf (nI nm) a_markElements a_markBits a_markPins, cw_i g a_kindOf 60 kdf, cw_i g a_depthOf 60 dpf, cw_i g a_lengthOf 60 lnf, cw_i g a_baseOf 60 saf, cw_l g a_bits 4000 btf] H locs := hZ
  have hna := h_S.1
  have hne := h_S.2.1
  refine lv_aload_n hx hb dX8_search_0 rfl (lv_at hl 0 rfl) ?_
  refine lv_iload_n hx hb dX8_search_1 rfl (lv_at hl 1 rfl) ?_
  refine zz_iV (As := [.int x1]) (wc := [cw_k7 h0 (nI na) (nI ne) a_kindOf a_depthOf a_lengthOf a_classOf a_baseOf a_bits a_pinned i_code a_lengths a_stackArray a_stackOther a_stackAt i_lastArray i_lastPlace a_path a_held a_alike a_hashes (nI nd) a_decisionArray a_decisionPlace a_candidateMany a_candidates (nI nr) a_ruleSort a_ruleArray a_ruleWeight a_ruleLow a_ruleHigh a_chosen a_bestOf (nI nm) a_markElements a_markBits a_markPins]) (wr := [cw_i g a_kindOf 60 kdf, cw_i g a_depthOf 60 dpf, cw_i g a_lengthOf 60 lnf, cw_i g a_baseOf 60 saf, cw_l g a_bits 4000 btf]) (rest := []) hC hZ hs hl zc_X8_200 (cm_isArray g h0 a_kindOf a_depthOf a_lengthOf a_classOf a_baseOf a_bits a_pinned a_lengths a_stackArray a_stackOther a_stackAt a_path a_held a_alike a_hashes a_decisionArray a_decisionPlace a_candidateMany a_candidates a_ruleSort a_ruleArray a_ruleWeight a_ruleLow a_ruleHigh a_chosen a_bestOf a_markElements a_markBits a_markPins (nI na) (nI ne) i_code i_lastArray i_lastPlace (nI nd) (nI nr) (nI nm) x1) [0] [1, 2, 3, 4, 5] rfl rfl (by decide +kernel) (ci := 7) (q0 := 0) rfl rfl rfl rfl (Nat.le_of_ble_eq_true rfl) ⟨⟨Nat.le_of_ble_eq_true rfl, Nat.le_of_ble_eq_true rfl⟩, Nat.le_of_ble_eq_true rfl, Nat.le_of_ble_eq_true rfl⟩ dX8_search_2 (fun r1 u2 H locs hp hZ => ?_)
  obtain ⟨rfl, rfl⟩ := hp
  have hZ : zz_Z g A s.heap [cw_i g a_kindOf 60 kdf, cw_i g a_depthOf 60 dpf, cw_i g a_lengthOf 60 lnf, cw_i g a_baseOf 60 saf, cw_l g a_bits 4000 btf, cw_k7 h0 (nI na) (nI ne) a_kindOf a_depthOf a_lengthOf a_classOf a_baseOf a_bits a_pinned i_code a_lengths a_stackArray a_stackOther a_stackAt i_lastArray i_lastPlace a_path a_held a_alike a_hashes (nI nd) a_decisionArray a_decisionPlace a_candidateMany a_candidates (nI nr) a_ruleSort a_ruleArray a_ruleWeight a_ruleLow a_ruleHigh a_chosen a_bestOf (nI nm) a_markElements a_markBits a_markPins] H locs := hZ
  refine lv_if_ne (tgt := 12) hx hb dX8_search_5 (by decide) (fun c3 => ?_) (fun c3 => ?_)
  · obtain ⟨a1, ha1, ea1⟩ := zl_isA (by omega) c3
    have hl : lv_has ls 12 [(0, .ref h0), (1, .int (nI a1)), (2, .long x2)] := by rw [← ea1]; exact hl
    obtain ⟨sz1, lz1, dz1, es1, el1, ed1, g11, g21, g31, g41⟩ := h_S.2.2 a1 ha1
    refine lv_aload_n hx hb dX8_search_12 rfl (lv_at hl 0 rfl) ?_
    refine zz_get hC hZ 5 rfl zf_X8_7 rfl dX8_search_13 ?_
    refine lv_iload_n hx hb dX8_search_16 rfl (lv_at hl 1 rfl) ?_
    refine zz_iald hC hZ 0 rfl (vp_in_nI (by omega) (by decide)) dX8_search_17 ?_
    rw [nI_clamp (n := a1) (by omega)]
    refine lv_lload_n hx hb dX8_search_18 rfl (lv_at hl 2 rfl) ?_
    refine zz_iS (As := [.int (kdf a1), .long x2]) (wc := []) (wr := [cw_i g a_kindOf 60 kdf, cw_i g a_depthOf 60 dpf, cw_i g a_lengthOf 60 lnf, cw_i g a_baseOf 60 saf, cw_l g a_bits 4000 btf, cw_k7 h0 (nI na) (nI ne) a_kindOf a_depthOf a_lengthOf a_classOf a_baseOf a_bits a_pinned i_code a_lengths a_stackArray a_stackOther a_stackAt i_lastArray i_lastPlace a_path a_held a_alike a_hashes (nI nd) a_decisionArray a_decisionPlace a_candidateMany a_candidates (nI nr) a_ruleSort a_ruleArray a_ruleWeight a_ruleLow a_ruleHigh a_chosen a_bestOf (nI nm) a_markElements a_markBits a_markPins]) (rest := []) hC hZ hs hl zc_X8_230 (cm_isBits g (kdf a1) x2) [] [0, 1, 2, 3, 4, 5] rfl rfl (by decide +kernel) rfl rfl (Nat.le_of_ble_eq_true rfl) ⟨⟨Nat.le_of_ble_eq_true rfl, Nat.le_of_ble_eq_true rfl⟩, Nat.le_of_ble_eq_true rfl, Nat.le_of_ble_eq_true rfl⟩ dX8_search_19 (fun r4 u5 H locs hp hZ => ?_)
    obtain ⟨rfl, rfl⟩ := hp
    have hZ : zz_Z g A s.heap [cw_i g a_kindOf 60 kdf, cw_i g a_depthOf 60 dpf, cw_i g a_lengthOf 60 lnf, cw_i g a_baseOf 60 saf, cw_l g a_bits 4000 btf, cw_k7 h0 (nI na) (nI ne) a_kindOf a_depthOf a_lengthOf a_classOf a_baseOf a_bits a_pinned i_code a_lengths a_stackArray a_stackOther a_stackAt i_lastArray i_lastPlace a_path a_held a_alike a_hashes (nI nd) a_decisionArray a_decisionPlace a_candidateMany a_candidates (nI nr) a_ruleSort a_ruleArray a_ruleWeight a_ruleLow a_ruleHigh a_chosen a_bestOf (nI nm) a_markElements a_markBits a_markPins] H locs := hZ
    refine lv_if_ne (tgt := 30) hx hb dX8_search_22 (by decide) (fun c6 => ?_) (fun c6 => ?_)
    · refine lv_aload_n hx hb dX8_search_30 rfl (lv_at hl 0 rfl) ?_
      refine zz_get hC hZ 5 rfl zf_X8_13 rfl dX8_search_31 ?_
      refine lv_iload_n hx hb dX8_search_34 rfl (lv_at hl 1 rfl) ?_
      refine zz_iald hC hZ 1 rfl (vp_in_nI (by omega) (by decide)) dX8_search_35 ?_
      rw [nI_clamp (n := a1) (by omega)]
      refine zz_topi (v := nI dz1) (ed1) ?_
      refine lv_iconst (v := 1) hx hb dX8_search_36 (by decide) ?_
      refine lv_icmp_le (tgt := 44) hx hb dX8_search_37 (by decide) (fun c7 => ?_) (fun c7 => ?_)
      · have nc7 : dz1 ≤ 1 := (nI_leI (by omega) (by omega)).mp (show nI (dz1) ≤ nI (1) from c7)
        refine lv_iconst (v := 0) hx hb dX8_search_44 (by decide) ?_
        refine lv_istore (lv' := [(4, .int 0), (0, .ref h0), (1, .int (nI a1)), (2, .long x2)]) hx hb dX8_search_45 hl (by decide) rfl (fun ls hl => ?_)
        refine lv_iload hx hb dX8_search_47 (lv_at hl 0 rfl) ?_
        refine lv_if_le (tgt := 59) hx hb dX8_search_49 (by decide) (fun c8 => ?_) (fun c => absurd (by decide) c)
        refine lv_aload_n hx hb dX8_search_59 rfl (lv_at hl 1 rfl) ?_
        refine zz_get hC hZ 5 rfl zf_X8_7 rfl dX8_search_60 ?_
        refine lv_iload_n hx hb dX8_search_63 rfl (lv_at hl 2 rfl) ?_
        refine zz_iald hC hZ 0 rfl (vp_in_nI (by omega) (by decide)) dX8_search_64 ?_
        rw [nI_clamp (n := a1) (by omega)]
        refine lv_aload_n hx hb dX8_search_65 rfl (lv_at hl 1 rfl) ?_
        refine zz_get hC hZ 5 rfl zf_X8_7 rfl dX8_search_66 ?_
        refine lv_iload_n hx hb dX8_search_69 rfl (lv_at hl 2 rfl) ?_
        refine zz_iald hC hZ 0 rfl (vp_in_nI (by omega) (by decide)) dX8_search_70 ?_
        rw [nI_clamp (n := a1) (by omega)]
        refine lv_lload_n hx hb dX8_search_71 rfl (lv_at hl 3 rfl) ?_
        refine zz_lS (As := [.int (kdf a1), .long x2]) (wc := []) (wr := [cw_i g a_kindOf 60 kdf, cw_i g a_depthOf 60 dpf, cw_i g a_lengthOf 60 lnf, cw_i g a_baseOf 60 saf, cw_l g a_bits 4000 btf, cw_k7 h0 (nI na) (nI ne) a_kindOf a_depthOf a_lengthOf a_classOf a_baseOf a_bits a_pinned i_code a_lengths a_stackArray a_stackOther a_stackAt i_lastArray i_lastPlace a_path a_held a_alike a_hashes (nI nd) a_decisionArray a_decisionPlace a_candidateMany a_candidates (nI nr) a_ruleSort a_ruleArray a_ruleWeight a_ruleLow a_ruleHigh a_chosen a_bestOf (nI nm) a_markElements a_markBits a_markPins]) (rest := [.int (kdf a1)]) hC hZ hs hl zc_X8_150 (cm_plain g (kdf a1) x2) [] [0, 1, 2, 3, 4, 5] rfl rfl (by decide +kernel) rfl rfl (Nat.le_of_ble_eq_true rfl) ⟨⟨Nat.le_of_ble_eq_true rfl, Nat.le_of_ble_eq_true rfl⟩, Nat.le_of_ble_eq_true rfl, Nat.le_of_ble_eq_true rfl⟩ dX8_search_72 (fun r9 u10 H locs hp hZ => ?_)
        obtain ⟨rfl, rfl⟩ := hp
        have hZ : zz_Z g A s.heap [cw_i g a_kindOf 60 kdf, cw_i g a_depthOf 60 dpf, cw_i g a_lengthOf 60 lnf, cw_i g a_baseOf 60 saf, cw_l g a_bits 4000 btf, cw_k7 h0 (nI na) (nI ne) a_kindOf a_depthOf a_lengthOf a_classOf a_baseOf a_bits a_pinned i_code a_lengths a_stackArray a_stackOther a_stackAt i_lastArray i_lastPlace a_path a_held a_alike a_hashes (nI nd) a_decisionArray a_decisionPlace a_candidateMany a_candidates (nI nr) a_ruleSort a_ruleArray a_ruleWeight a_ruleLow a_ruleHigh a_chosen a_bestOf (nI nm) a_markElements a_markBits a_markPins] H locs := hZ
        refine zz_lS (As := [.int (kdf a1), .long (fn_cm_plain (kdf a1) x2)]) (wc := []) (wr := [cw_i g a_kindOf 60 kdf, cw_i g a_depthOf 60 dpf, cw_i g a_lengthOf 60 lnf, cw_i g a_baseOf 60 saf, cw_l g a_bits 4000 btf, cw_k7 h0 (nI na) (nI ne) a_kindOf a_depthOf a_lengthOf a_classOf a_baseOf a_bits a_pinned i_code a_lengths a_stackArray a_stackOther a_stackAt i_lastArray i_lastPlace a_path a_held a_alike a_hashes (nI nd) a_decisionArray a_decisionPlace a_candidateMany a_candidates (nI nr) a_ruleSort a_ruleArray a_ruleWeight a_ruleLow a_ruleHigh a_chosen a_bestOf (nI nm) a_markElements a_markBits a_markPins]) (rest := []) hC hZ hs hl zc_X8_239 (cm_orderNumber g (kdf a1) (fn_cm_plain (kdf a1) x2)) [] [0, 1, 2, 3, 4, 5] rfl rfl (by decide +kernel) rfl rfl (Nat.le_of_ble_eq_true rfl) ⟨⟨Nat.le_of_ble_eq_true rfl, Nat.le_of_ble_eq_true rfl⟩, Nat.le_of_ble_eq_true rfl, Nat.le_of_ble_eq_true rfl⟩ dX8_search_75 (fun r11 u12 H locs hp hZ => ?_)
        obtain ⟨rfl, rfl⟩ := hp
        have hZ : zz_Z g A s.heap [cw_i g a_kindOf 60 kdf, cw_i g a_depthOf 60 dpf, cw_i g a_lengthOf 60 lnf, cw_i g a_baseOf 60 saf, cw_l g a_bits 4000 btf, cw_k7 h0 (nI na) (nI ne) a_kindOf a_depthOf a_lengthOf a_classOf a_baseOf a_bits a_pinned i_code a_lengths a_stackArray a_stackOther a_stackAt i_lastArray i_lastPlace a_path a_held a_alike a_hashes (nI nd) a_decisionArray a_decisionPlace a_candidateMany a_candidates (nI nr) a_ruleSort a_ruleArray a_ruleWeight a_ruleLow a_ruleHigh a_chosen a_bestOf (nI nm) a_markElements a_markBits a_markPins] H locs := hZ
        refine lv_lstore (lv' := [(5, .long (fn_cm_orderNumber (kdf a1) (fn_cm_plain (kdf a1) x2))), (4, .int 0), (0, .ref h0), (1, .int (nI a1)), (2, .long x2)]) hx hb dX8_search_78 hl (by decide) rfl (fun ls hl => ?_)
        refine lv_iconst (v := 0) hx hb dX8_search_80 (by decide) ?_
        refine lv_istore (lv' := [(7, .int 0), (5, .long (fn_cm_orderNumber (kdf a1) (fn_cm_plain (kdf a1) x2))), (4, .int 0), (0, .ref h0), (1, .int (nI a1)), (2, .long x2)]) hx hb dX8_search_81 hl (by decide) rfl (fun ls hl => ?_)
        refine lv_aload_n hx hb dX8_search_83 rfl (lv_at hl 3 rfl) ?_
        refine zz_get hC hZ 5 rfl zf_X8_16 rfl dX8_search_84 ?_
        refine lv_iload_n hx hb dX8_search_87 rfl (lv_at hl 4 rfl) ?_
        refine zz_iald hC hZ 2 rfl (vp_in_nI (by omega) (by decide)) dX8_search_88 ?_
        rw [nI_clamp (n := a1) (by omega)]
        refine zz_topi (v := nI lz1) (el1) ?_
        refine lv_iconst (v := 1) hx hb dX8_search_89 (by decide) ?_
        refine lv_isub hx hb dX8_search_90 ?_
        refine lv_istore (lv' := [(8, .int ((nI lz1) - 1)), (7, .int 0), (5, .long (fn_cm_orderNumber (kdf a1) (fn_cm_plain (kdf a1) x2))), (4, .int 0), (0, .ref h0), (1, .int (nI a1)), (2, .long x2)]) hx hb dX8_search_91 hl (by decide) rfl (fun ls hl => ?_)
        have LP13 : ∀ (N : Nat) (lo : Nat) (hh : Nat) (hv : Int32) (H : Heap) (locs : List Loc) (ls : Array Slot), (hv = nI hh + (-1)) → (lo ≤ hh) → (hh ≤ lz1) → (hh - lo) < N → zz_Z g A s.heap [cw_i g a_kindOf 60 kdf, cw_i g a_depthOf 60 dpf, cw_i g a_lengthOf 60 lnf, cw_i g a_baseOf 60 saf, cw_l g a_bits 4000 btf, cw_k7 h0 (nI na) (nI ne) a_kindOf a_depthOf a_lengthOf a_classOf a_baseOf a_bits a_pinned i_code a_lengths a_stackArray a_stackOther a_stackAt i_lastArray i_lastPlace a_path a_held a_alike a_hashes (nI nd) a_decisionArray a_decisionPlace a_candidateMany a_candidates (nI nr) a_ruleSort a_ruleArray a_ruleWeight a_ruleLow a_ruleHigh a_chosen a_bestOf (nI nm) a_markElements a_markBits a_markPins] H locs → lv_has ls 12 [(8, .int hv), (7, .int (nI lo)), (5, .long (fn_cm_orderNumber (kdf a1) (fn_cm_plain (kdf a1) x2))), (4, .int 0), (0, .ref h0), (1, .int (nI a1)), (2, .long x2)] → W p l e rm_my_search s m args below meth c H locs 0 0 (zz_QI below g args s A rm_my_search.cells rm_my_search.slots (po_my_search g h0 a_kindOf a_depthOf a_lengthOf a_classOf a_baseOf a_bits a_pinned a_lengths a_stackArray a_stackOther a_stackAt a_path a_held a_alike a_hashes a_decisionArray a_decisionPlace a_candidateMany a_candidates a_ruleSort a_ruleArray a_ruleWeight a_ruleLow a_ruleHigh a_chosen a_bestOf a_markElements a_markBits a_markPins na ne nd nr nm i_code i_lastArray i_lastPlace kdf dpf lnf saf btf x1 x2 h_S)) (F0 m 93 ls []) := by
          intro N
          induction N with
          | zero =>
            intro lo hh hv H locs ls ehv hlo hhl hN
            exact absurd hN (Nat.not_lt_zero _)
          | succ N ih =>
            intro lo hh hv H locs ls ehv hlo hhl hN hZ hl
            refine lv_iload hx hb dX8_search_93 (lv_at hl 1 rfl) ?_
            refine lv_iload hx hb dX8_search_95 (lv_at hl 0 rfl) ?_
            refine lv_icmp_gt (tgt := 175) hx hb dX8_search_97 (by decide) (fun c14 => ?_) (fun c14 => ?_)
            · refine lv_aload_n hx hb dX8_search_175 rfl (lv_at hl 4 rfl) ?_
              refine lv_bipush (v := -100) hx hb dX8_search_176 (by decide) ?_
              refine lv_iload hx hb dX8_search_178 (lv_at hl 1 rfl) ?_
              refine lv_isub hx hb dX8_search_180 ?_
              refine zz_iV (As := [.int ((-100) - (nI lo))]) (wc := [cw_k7 h0 (nI na) (nI ne) a_kindOf a_depthOf a_lengthOf a_classOf a_baseOf a_bits a_pinned i_code a_lengths a_stackArray a_stackOther a_stackAt i_lastArray i_lastPlace a_path a_held a_alike a_hashes (nI nd) a_decisionArray a_decisionPlace a_candidateMany a_candidates (nI nr) a_ruleSort a_ruleArray a_ruleWeight a_ruleLow a_ruleHigh a_chosen a_bestOf (nI nm) a_markElements a_markBits a_markPins]) (wr := [cw_i g a_kindOf 60 kdf, cw_i g a_depthOf 60 dpf, cw_i g a_lengthOf 60 lnf, cw_i g a_baseOf 60 saf, cw_l g a_bits 4000 btf]) (rest := []) hC hZ hs hl zc_X8_183 (cm_fine g h0 a_kindOf a_depthOf a_lengthOf a_classOf a_baseOf a_bits a_pinned a_lengths a_stackArray a_stackOther a_stackAt a_path a_held a_alike a_hashes a_decisionArray a_decisionPlace a_candidateMany a_candidates a_ruleSort a_ruleArray a_ruleWeight a_ruleLow a_ruleHigh a_chosen a_bestOf a_markElements a_markBits a_markPins (nI na) (nI ne) i_code i_lastArray i_lastPlace (nI nd) (nI nr) (nI nm) ((-100) - (nI lo))) [5] [0, 1, 2, 3, 4] rfl rfl (by decide +kernel) (ci := 7) (q0 := 0) rfl rfl rfl rfl (Nat.le_of_ble_eq_true rfl) ⟨⟨Nat.le_of_ble_eq_true rfl, Nat.le_of_ble_eq_true rfl⟩, Nat.le_of_ble_eq_true rfl, Nat.le_of_ble_eq_true rfl⟩ dX8_search_181 (fun r15 u16 H locs hp hZ => ?_)
              obtain ⟨rfl, rfl⟩ := hp
              have hZ : zz_Z g A s.heap [cw_i g a_kindOf 60 kdf, cw_i g a_depthOf 60 dpf, cw_i g a_lengthOf 60 lnf, cw_i g a_baseOf 60 saf, cw_l g a_bits 4000 btf, cw_k7 h0 (nI na) (nI ne) a_kindOf a_depthOf a_lengthOf a_classOf a_baseOf a_bits a_pinned 0 a_lengths a_stackArray a_stackOther a_stackAt i_lastArray i_lastPlace a_path a_held a_alike a_hashes (nI nd) a_decisionArray a_decisionPlace a_candidateMany a_candidates (nI nr) a_ruleSort a_ruleArray a_ruleWeight a_ruleLow a_ruleHigh a_chosen a_bestOf (nI nm) a_markElements a_markBits a_markPins] H locs := hZ
              have hZ : zz_Z g A s.heap [cw_k7 h0 (nI na) (nI ne) a_kindOf a_depthOf a_lengthOf a_classOf a_baseOf a_bits a_pinned 0 a_lengths a_stackArray a_stackOther a_stackAt i_lastArray i_lastPlace a_path a_held a_alike a_hashes (nI nd) a_decisionArray a_decisionPlace a_candidateMany a_candidates (nI nr) a_ruleSort a_ruleArray a_ruleWeight a_ruleLow a_ruleHigh a_chosen a_bestOf (nI nm) a_markElements a_markBits a_markPins, cw_i g a_kindOf 60 kdf, cw_i g a_depthOf 60 dpf, cw_i g a_lengthOf 60 lnf, cw_i g a_baseOf 60 saf, cw_l g a_bits 4000 btf] H locs := hZ.sub [5, 0, 1, 2, 3, 4] (by decide +kernel) rfl
              exact zz_iret hC hZ (⟨0, i_lastArray, i_lastPlace, rfl⟩) (Nat.le_of_ble_eq_true rfl) (Nat.le_of_ble_eq_true rfl) dX8_search_184
            · obtain ⟨K, rfl, hK1⟩ := zl_hv ehv (by omega) (by omega) c14
              have hl : lv_has ls 12 [(8, .int (nI K)), (7, .int (nI lo)), (5, .long (fn_cm_orderNumber (kdf a1) (fn_cm_plain (kdf a1) x2))), (4, .int 0), (0, .ref h0), (1, .int (nI a1)), (2, .long x2)] := by rw [← (ehv.trans (pk_m1 K))]; exact hl
              refine lv_iload hx hb dX8_search_100 (lv_at hl 1 rfl) ?_
              refine lv_iload hx hb dX8_search_102 (lv_at hl 0 rfl) ?_
              refine lv_iadd hx hb dX8_search_104 ?_
              refine zz_topi (v := nI (lo + K)) (nI_add _ _) ?_
              refine lv_iconst (v := 2) hx hb dX8_search_105 (by decide) ?_
              refine lv_idiv hx hb dX8_search_106 (by decide) ?_
              refine zz_topi (v := nI ((lo + K) / 2)) (zl_div2 (by omega)) ?_
              refine lv_istore (lv' := [(9, .int (nI ((lo + K) / 2))), (8, .int (nI K)), (7, .int (nI lo)), (5, .long (fn_cm_orderNumber (kdf a1) (fn_cm_plain (kdf a1) x2))), (4, .int 0), (0, .ref h0), (1, .int (nI a1)), (2, .long x2)]) hx hb dX8_search_107 hl (by decide) rfl (fun ls hl => ?_)
              refine lv_aload_n hx hb dX8_search_109 rfl (lv_at hl 5 rfl) ?_
              refine zz_get hC hZ 5 rfl zf_X8_7 rfl dX8_search_110 ?_
              refine lv_iload_n hx hb dX8_search_113 rfl (lv_at hl 6 rfl) ?_
              refine zz_iald hC hZ 0 rfl (vp_in_nI (by omega) (by decide)) dX8_search_114 ?_
              rw [nI_clamp (n := a1) (by omega)]
              refine lv_aload_n hx hb dX8_search_115 rfl (lv_at hl 5 rfl) ?_
              refine zz_get hC hZ 5 rfl zf_X8_25 rfl dX8_search_116 ?_
              refine lv_aload_n hx hb dX8_search_119 rfl (lv_at hl 5 rfl) ?_
              refine zz_get hC hZ 5 rfl zf_X8_22 rfl dX8_search_120 ?_
              refine lv_iload_n hx hb dX8_search_123 rfl (lv_at hl 6 rfl) ?_
              refine zz_iald hC hZ 3 rfl (vp_in_nI (by omega) (by decide)) dX8_search_124 ?_
              rw [nI_clamp (n := a1) (by omega)]
              refine zz_topi (v := nI sz1) (es1) ?_
              refine lv_iload hx hb dX8_search_125 (lv_at hl 0 rfl) ?_
              refine lv_iadd hx hb dX8_search_127 ?_
              refine zz_topi (v := nI (sz1 + ((lo + K) / 2))) (nI_add _ _) ?_
              refine zz_lald hC hZ 4 rfl (vp_in_nI (by omega) (by decide)) dX8_search_128 ?_
              rw [nI_clamp (n := (sz1 + ((lo + K) / 2))) (by omega)]
              refine zz_lS (As := [.int (kdf a1), .long (btf (sz1 + ((lo + K) / 2)))]) (wc := []) (wr := [cw_i g a_kindOf 60 kdf, cw_i g a_depthOf 60 dpf, cw_i g a_lengthOf 60 lnf, cw_i g a_baseOf 60 saf, cw_l g a_bits 4000 btf, cw_k7 h0 (nI na) (nI ne) a_kindOf a_depthOf a_lengthOf a_classOf a_baseOf a_bits a_pinned i_code a_lengths a_stackArray a_stackOther a_stackAt i_lastArray i_lastPlace a_path a_held a_alike a_hashes (nI nd) a_decisionArray a_decisionPlace a_candidateMany a_candidates (nI nr) a_ruleSort a_ruleArray a_ruleWeight a_ruleLow a_ruleHigh a_chosen a_bestOf (nI nm) a_markElements a_markBits a_markPins]) (rest := []) hC hZ hs hl zc_X8_239 (cm_orderNumber g (kdf a1) (btf (sz1 + ((lo + K) / 2)))) [] [0, 1, 2, 3, 4, 5] rfl rfl (by decide +kernel) rfl rfl (Nat.le_of_ble_eq_true rfl) ⟨⟨Nat.le_of_ble_eq_true rfl, Nat.le_of_ble_eq_true rfl⟩, Nat.le_of_ble_eq_true rfl, Nat.le_of_ble_eq_true rfl⟩ dX8_search_129 (fun r17 u18 H locs hp hZ => ?_)
              obtain ⟨rfl, rfl⟩ := hp
              have hZ : zz_Z g A s.heap [cw_i g a_kindOf 60 kdf, cw_i g a_depthOf 60 dpf, cw_i g a_lengthOf 60 lnf, cw_i g a_baseOf 60 saf, cw_l g a_bits 4000 btf, cw_k7 h0 (nI na) (nI ne) a_kindOf a_depthOf a_lengthOf a_classOf a_baseOf a_bits a_pinned i_code a_lengths a_stackArray a_stackOther a_stackAt i_lastArray i_lastPlace a_path a_held a_alike a_hashes (nI nd) a_decisionArray a_decisionPlace a_candidateMany a_candidates (nI nr) a_ruleSort a_ruleArray a_ruleWeight a_ruleLow a_ruleHigh a_chosen a_bestOf (nI nm) a_markElements a_markBits a_markPins] H locs := hZ
              refine lv_lstore (lv' := [(10, .long (fn_cm_orderNumber (kdf a1) (btf (sz1 + ((lo + K) / 2))))), (9, .int (nI ((lo + K) / 2))), (8, .int (nI K)), (7, .int (nI lo)), (5, .long (fn_cm_orderNumber (kdf a1) (fn_cm_plain (kdf a1) x2))), (4, .int 0), (0, .ref h0), (1, .int (nI a1)), (2, .long x2)]) hx hb dX8_search_132 hl (by decide) rfl (fun ls hl => ?_)
              refine lv_lload hx hb dX8_search_134 (lv_at hl 0 rfl) ?_
              refine lv_lload hx hb dX8_search_136 (lv_at hl 4 rfl) ?_
              refine zz_lcmp_ne (tgt := 149) hC dX8_search_138 dX8_search_139 (by decide) (fun c19 => ?_) (fun c19 => ?_)
              · refine lv_lload hx hb dX8_search_149 (lv_at hl 0 rfl) ?_
                refine lv_lload hx hb dX8_search_151 (lv_at hl 4 rfl) ?_
                refine zz_lcmp_ge (tgt := 166) hC dX8_search_153 dX8_search_154 (by decide) (fun c20 => ?_) (fun c20 => ?_)
                · refine lv_iload hx hb dX8_search_166 (lv_at hl 1 rfl) ?_
                  refine lv_iconst (v := 1) hx hb dX8_search_168 (by decide) ?_
                  refine lv_isub hx hb dX8_search_169 ?_
                  refine lv_istore (lv' := [(8, .int ((nI ((lo + K) / 2)) - 1)), (10, .long (fn_cm_orderNumber (kdf a1) (btf (sz1 + ((lo + K) / 2))))), (9, .int (nI ((lo + K) / 2))), (7, .int (nI lo)), (5, .long (fn_cm_orderNumber (kdf a1) (fn_cm_plain (kdf a1) x2))), (4, .int 0), (0, .ref h0), (1, .int (nI a1)), (2, .long x2)]) hx hb dX8_search_170 hl (by decide) rfl (fun ls hl => ?_)
                  refine lv_goto (tgt := 93) hx hb dX8_search_172 (by decide) ?_
                  exact ih lo ((lo + K) / 2) ((nI ((lo + K) / 2)) - 1) H locs ls (zl_sub1 _) (by omega) (by omega) (by omega) hZ (lv_sub hl [0, 3, 4, 5, 6, 7, 8] rfl)
                · refine lv_iload hx hb dX8_search_157 (lv_at hl 1 rfl) ?_
                  refine lv_iconst (v := 1) hx hb dX8_search_159 (by decide) ?_
                  refine lv_iadd hx hb dX8_search_160 ?_
                  refine zz_topi (v := nI (((lo + K) / 2) + 1)) (nI_1 _) ?_
                  refine lv_istore (lv' := [(7, .int (nI (((lo + K) / 2) + 1))), (10, .long (fn_cm_orderNumber (kdf a1) (btf (sz1 + ((lo + K) / 2))))), (9, .int (nI ((lo + K) / 2))), (8, .int (nI K)), (5, .long (fn_cm_orderNumber (kdf a1) (fn_cm_plain (kdf a1) x2))), (4, .int 0), (0, .ref h0), (1, .int (nI a1)), (2, .long x2)]) hx hb dX8_search_161 hl (by decide) rfl (fun ls hl => ?_)
                  refine lv_goto (tgt := 172) hx hb dX8_search_163 (by decide) ?_
                  refine lv_goto (tgt := 93) hx hb dX8_search_172 (by decide) ?_
                  exact ih (((lo + K) / 2) + 1) (K + 1) (nI K) H locs ls ((pk_m1 K).symm) (by omega) (by omega) (by omega) hZ (lv_sub hl [3, 0, 4, 5, 6, 7, 8] rfl)
              · refine lv_aload_n hx hb dX8_search_142 rfl (lv_at hl 6 rfl) ?_
                refine lv_iload hx hb dX8_search_143 (lv_at hl 1 rfl) ?_
                refine zz_iV (As := [.int (nI ((lo + K) / 2))]) (wc := [cw_k7 h0 (nI na) (nI ne) a_kindOf a_depthOf a_lengthOf a_classOf a_baseOf a_bits a_pinned i_code a_lengths a_stackArray a_stackOther a_stackAt i_lastArray i_lastPlace a_path a_held a_alike a_hashes (nI nd) a_decisionArray a_decisionPlace a_candidateMany a_candidates (nI nr) a_ruleSort a_ruleArray a_ruleWeight a_ruleLow a_ruleHigh a_chosen a_bestOf (nI nm) a_markElements a_markBits a_markPins]) (wr := [cw_i g a_kindOf 60 kdf, cw_i g a_depthOf 60 dpf, cw_i g a_lengthOf 60 lnf, cw_i g a_baseOf 60 saf, cw_l g a_bits 4000 btf]) (rest := []) hC hZ hs hl zc_X8_183 (cm_fine g h0 a_kindOf a_depthOf a_lengthOf a_classOf a_baseOf a_bits a_pinned a_lengths a_stackArray a_stackOther a_stackAt a_path a_held a_alike a_hashes a_decisionArray a_decisionPlace a_candidateMany a_candidates a_ruleSort a_ruleArray a_ruleWeight a_ruleLow a_ruleHigh a_chosen a_bestOf a_markElements a_markBits a_markPins (nI na) (nI ne) i_code i_lastArray i_lastPlace (nI nd) (nI nr) (nI nm) (nI ((lo + K) / 2))) [5] [0, 1, 2, 3, 4] rfl rfl (by decide +kernel) (ci := 7) (q0 := 0) rfl rfl rfl rfl (Nat.le_of_ble_eq_true rfl) ⟨⟨Nat.le_of_ble_eq_true rfl, Nat.le_of_ble_eq_true rfl⟩, Nat.le_of_ble_eq_true rfl, Nat.le_of_ble_eq_true rfl⟩ dX8_search_145 (fun r21 u22 H locs hp hZ => ?_)
                obtain ⟨rfl, rfl⟩ := hp
                have hZ : zz_Z g A s.heap [cw_i g a_kindOf 60 kdf, cw_i g a_depthOf 60 dpf, cw_i g a_lengthOf 60 lnf, cw_i g a_baseOf 60 saf, cw_l g a_bits 4000 btf, cw_k7 h0 (nI na) (nI ne) a_kindOf a_depthOf a_lengthOf a_classOf a_baseOf a_bits a_pinned 0 a_lengths a_stackArray a_stackOther a_stackAt i_lastArray i_lastPlace a_path a_held a_alike a_hashes (nI nd) a_decisionArray a_decisionPlace a_candidateMany a_candidates (nI nr) a_ruleSort a_ruleArray a_ruleWeight a_ruleLow a_ruleHigh a_chosen a_bestOf (nI nm) a_markElements a_markBits a_markPins] H locs := hZ
                have hZ : zz_Z g A s.heap [cw_k7 h0 (nI na) (nI ne) a_kindOf a_depthOf a_lengthOf a_classOf a_baseOf a_bits a_pinned 0 a_lengths a_stackArray a_stackOther a_stackAt i_lastArray i_lastPlace a_path a_held a_alike a_hashes (nI nd) a_decisionArray a_decisionPlace a_candidateMany a_candidates (nI nr) a_ruleSort a_ruleArray a_ruleWeight a_ruleLow a_ruleHigh a_chosen a_bestOf (nI nm) a_markElements a_markBits a_markPins, cw_i g a_kindOf 60 kdf, cw_i g a_depthOf 60 dpf, cw_i g a_lengthOf 60 lnf, cw_i g a_baseOf 60 saf, cw_l g a_bits 4000 btf] H locs := hZ.sub [5, 0, 1, 2, 3, 4] (by decide +kernel) rfl
                exact zz_iret hC hZ (⟨0, i_lastArray, i_lastPlace, rfl⟩) (Nat.le_of_ble_eq_true rfl) (Nat.le_of_ble_eq_true rfl) dX8_search_148
        exact LP13 _ 0 lz1 ((nI lz1) - 1) H locs ls (zl_sub1 _) (by omega) (by omega) (Nat.lt_succ_self _) hZ (lv_sub hl [0, 1, 2, 3, 4, 5, 6] rfl)
      · have nc7 : ¬ dz1 ≤ 1 := fun zq => c7 (show nI (dz1) ≤ nI (1) from (nI_leI (by omega) (by omega)).mpr zq)
        refine lv_iconst (v := 1) hx hb dX8_search_40 (by decide) ?_
        refine lv_goto (tgt := 45) hx hb dX8_search_41 (by decide) ?_
        refine lv_istore (lv' := [(4, .int 1), (0, .ref h0), (1, .int (nI a1)), (2, .long x2)]) hx hb dX8_search_45 hl (by decide) rfl (fun ls hl => ?_)
        refine lv_iload hx hb dX8_search_47 (lv_at hl 0 rfl) ?_
        refine lv_if_le (tgt := 59) hx hb dX8_search_49 (by decide) (fun c => absurd c (by decide)) (fun c23 => ?_)
        refine lv_aload_n hx hb dX8_search_52 rfl (lv_at hl 1 rfl) ?_
        refine lv_iload hx hb dX8_search_53 (lv_at hl 0 rfl) ?_
        refine zz_iV (As := [.int 1]) (wc := [cw_k7 h0 (nI na) (nI ne) a_kindOf a_depthOf a_lengthOf a_classOf a_baseOf a_bits a_pinned i_code a_lengths a_stackArray a_stackOther a_stackAt i_lastArray i_lastPlace a_path a_held a_alike a_hashes (nI nd) a_decisionArray a_decisionPlace a_candidateMany a_candidates (nI nr) a_ruleSort a_ruleArray a_ruleWeight a_ruleLow a_ruleHigh a_chosen a_bestOf (nI nm) a_markElements a_markBits a_markPins]) (wr := [cw_i g a_kindOf 60 kdf, cw_i g a_depthOf 60 dpf, cw_i g a_lengthOf 60 lnf, cw_i g a_baseOf 60 saf, cw_l g a_bits 4000 btf]) (rest := []) hC hZ hs hl zc_X8_175 (cm_fails g h0 a_kindOf a_depthOf a_lengthOf a_classOf a_baseOf a_bits a_pinned a_lengths a_stackArray a_stackOther a_stackAt a_path a_held a_alike a_hashes a_decisionArray a_decisionPlace a_candidateMany a_candidates a_ruleSort a_ruleArray a_ruleWeight a_ruleLow a_ruleHigh a_chosen a_bestOf a_markElements a_markBits a_markPins (nI na) (nI ne) i_code i_lastArray i_lastPlace (nI nd) (nI nr) (nI nm) 1) [5] [0, 1, 2, 3, 4] rfl rfl (by decide +kernel) (ci := 7) (q0 := 0) rfl rfl rfl rfl (Nat.le_of_ble_eq_true rfl) ⟨⟨Nat.le_of_ble_eq_true rfl, Nat.le_of_ble_eq_true rfl⟩, Nat.le_of_ble_eq_true rfl, Nat.le_of_ble_eq_true rfl⟩ dX8_search_55 (fun r24 u25 H locs hp hZ => ?_)
        obtain ⟨rfl, rfl⟩ := hp
        have hZ : zz_Z g A s.heap [cw_i g a_kindOf 60 kdf, cw_i g a_depthOf 60 dpf, cw_i g a_lengthOf 60 lnf, cw_i g a_baseOf 60 saf, cw_l g a_bits 4000 btf, cw_k7 h0 (nI na) (nI ne) a_kindOf a_depthOf a_lengthOf a_classOf a_baseOf a_bits a_pinned 1 a_lengths a_stackArray a_stackOther a_stackAt i_lastArray i_lastPlace a_path a_held a_alike a_hashes (nI nd) a_decisionArray a_decisionPlace a_candidateMany a_candidates (nI nr) a_ruleSort a_ruleArray a_ruleWeight a_ruleLow a_ruleHigh a_chosen a_bestOf (nI nm) a_markElements a_markBits a_markPins] H locs := hZ
        have hZ : zz_Z g A s.heap [cw_k7 h0 (nI na) (nI ne) a_kindOf a_depthOf a_lengthOf a_classOf a_baseOf a_bits a_pinned 1 a_lengths a_stackArray a_stackOther a_stackAt i_lastArray i_lastPlace a_path a_held a_alike a_hashes (nI nd) a_decisionArray a_decisionPlace a_candidateMany a_candidates (nI nr) a_ruleSort a_ruleArray a_ruleWeight a_ruleLow a_ruleHigh a_chosen a_bestOf (nI nm) a_markElements a_markBits a_markPins, cw_i g a_kindOf 60 kdf, cw_i g a_depthOf 60 dpf, cw_i g a_lengthOf 60 lnf, cw_i g a_baseOf 60 saf, cw_l g a_bits 4000 btf] H locs := hZ.sub [5, 0, 1, 2, 3, 4] (by decide +kernel) rfl
        exact zz_iret hC hZ (⟨1, i_lastArray, i_lastPlace, rfl⟩) (Nat.le_of_ble_eq_true rfl) (Nat.le_of_ble_eq_true rfl) dX8_search_58
    · refine lv_bipush (v := 9) hx hb dX8_search_25 (by decide) ?_
      refine lv_goto (tgt := 45) hx hb dX8_search_27 (by decide) ?_
      refine lv_istore (lv' := [(4, .int 9), (0, .ref h0), (1, .int (nI a1)), (2, .long x2)]) hx hb dX8_search_45 hl (by decide) rfl (fun ls hl => ?_)
      refine lv_iload hx hb dX8_search_47 (lv_at hl 0 rfl) ?_
      refine lv_if_le (tgt := 59) hx hb dX8_search_49 (by decide) (fun c => absurd c (by decide)) (fun c26 => ?_)
      refine lv_aload_n hx hb dX8_search_52 rfl (lv_at hl 1 rfl) ?_
      refine lv_iload hx hb dX8_search_53 (lv_at hl 0 rfl) ?_
      refine zz_iV (As := [.int 9]) (wc := [cw_k7 h0 (nI na) (nI ne) a_kindOf a_depthOf a_lengthOf a_classOf a_baseOf a_bits a_pinned i_code a_lengths a_stackArray a_stackOther a_stackAt i_lastArray i_lastPlace a_path a_held a_alike a_hashes (nI nd) a_decisionArray a_decisionPlace a_candidateMany a_candidates (nI nr) a_ruleSort a_ruleArray a_ruleWeight a_ruleLow a_ruleHigh a_chosen a_bestOf (nI nm) a_markElements a_markBits a_markPins]) (wr := [cw_i g a_kindOf 60 kdf, cw_i g a_depthOf 60 dpf, cw_i g a_lengthOf 60 lnf, cw_i g a_baseOf 60 saf, cw_l g a_bits 4000 btf]) (rest := []) hC hZ hs hl zc_X8_175 (cm_fails g h0 a_kindOf a_depthOf a_lengthOf a_classOf a_baseOf a_bits a_pinned a_lengths a_stackArray a_stackOther a_stackAt a_path a_held a_alike a_hashes a_decisionArray a_decisionPlace a_candidateMany a_candidates a_ruleSort a_ruleArray a_ruleWeight a_ruleLow a_ruleHigh a_chosen a_bestOf a_markElements a_markBits a_markPins (nI na) (nI ne) i_code i_lastArray i_lastPlace (nI nd) (nI nr) (nI nm) 9) [5] [0, 1, 2, 3, 4] rfl rfl (by decide +kernel) (ci := 7) (q0 := 0) rfl rfl rfl rfl (Nat.le_of_ble_eq_true rfl) ⟨⟨Nat.le_of_ble_eq_true rfl, Nat.le_of_ble_eq_true rfl⟩, Nat.le_of_ble_eq_true rfl, Nat.le_of_ble_eq_true rfl⟩ dX8_search_55 (fun r27 u28 H locs hp hZ => ?_)
      obtain ⟨rfl, rfl⟩ := hp
      have hZ : zz_Z g A s.heap [cw_i g a_kindOf 60 kdf, cw_i g a_depthOf 60 dpf, cw_i g a_lengthOf 60 lnf, cw_i g a_baseOf 60 saf, cw_l g a_bits 4000 btf, cw_k7 h0 (nI na) (nI ne) a_kindOf a_depthOf a_lengthOf a_classOf a_baseOf a_bits a_pinned 9 a_lengths a_stackArray a_stackOther a_stackAt i_lastArray i_lastPlace a_path a_held a_alike a_hashes (nI nd) a_decisionArray a_decisionPlace a_candidateMany a_candidates (nI nr) a_ruleSort a_ruleArray a_ruleWeight a_ruleLow a_ruleHigh a_chosen a_bestOf (nI nm) a_markElements a_markBits a_markPins] H locs := hZ
      have hZ : zz_Z g A s.heap [cw_k7 h0 (nI na) (nI ne) a_kindOf a_depthOf a_lengthOf a_classOf a_baseOf a_bits a_pinned 9 a_lengths a_stackArray a_stackOther a_stackAt i_lastArray i_lastPlace a_path a_held a_alike a_hashes (nI nd) a_decisionArray a_decisionPlace a_candidateMany a_candidates (nI nr) a_ruleSort a_ruleArray a_ruleWeight a_ruleLow a_ruleHigh a_chosen a_bestOf (nI nm) a_markElements a_markBits a_markPins, cw_i g a_kindOf 60 kdf, cw_i g a_depthOf 60 dpf, cw_i g a_lengthOf 60 lnf, cw_i g a_baseOf 60 saf, cw_l g a_bits 4000 btf] H locs := hZ.sub [5, 0, 1, 2, 3, 4] (by decide +kernel) rfl
      exact zz_iret hC hZ (⟨9, i_lastArray, i_lastPlace, rfl⟩) (Nat.le_of_ble_eq_true rfl) (Nat.le_of_ble_eq_true rfl) dX8_search_58
  · refine lv_iconst (v := 5) hx hb dX8_search_8 (by decide) ?_
    refine lv_goto (tgt := 45) hx hb dX8_search_9 (by decide) ?_
    refine lv_istore (lv' := [(4, .int 5), (0, .ref h0), (1, .int x1), (2, .long x2)]) hx hb dX8_search_45 hl (by decide) rfl (fun ls hl => ?_)
    refine lv_iload hx hb dX8_search_47 (lv_at hl 0 rfl) ?_
    refine lv_if_le (tgt := 59) hx hb dX8_search_49 (by decide) (fun c => absurd c (by decide)) (fun c29 => ?_)
    refine lv_aload_n hx hb dX8_search_52 rfl (lv_at hl 1 rfl) ?_
    refine lv_iload hx hb dX8_search_53 (lv_at hl 0 rfl) ?_
    refine zz_iV (As := [.int 5]) (wc := [cw_k7 h0 (nI na) (nI ne) a_kindOf a_depthOf a_lengthOf a_classOf a_baseOf a_bits a_pinned i_code a_lengths a_stackArray a_stackOther a_stackAt i_lastArray i_lastPlace a_path a_held a_alike a_hashes (nI nd) a_decisionArray a_decisionPlace a_candidateMany a_candidates (nI nr) a_ruleSort a_ruleArray a_ruleWeight a_ruleLow a_ruleHigh a_chosen a_bestOf (nI nm) a_markElements a_markBits a_markPins]) (wr := [cw_i g a_kindOf 60 kdf, cw_i g a_depthOf 60 dpf, cw_i g a_lengthOf 60 lnf, cw_i g a_baseOf 60 saf, cw_l g a_bits 4000 btf]) (rest := []) hC hZ hs hl zc_X8_175 (cm_fails g h0 a_kindOf a_depthOf a_lengthOf a_classOf a_baseOf a_bits a_pinned a_lengths a_stackArray a_stackOther a_stackAt a_path a_held a_alike a_hashes a_decisionArray a_decisionPlace a_candidateMany a_candidates a_ruleSort a_ruleArray a_ruleWeight a_ruleLow a_ruleHigh a_chosen a_bestOf a_markElements a_markBits a_markPins (nI na) (nI ne) i_code i_lastArray i_lastPlace (nI nd) (nI nr) (nI nm) 5) [5] [0, 1, 2, 3, 4] rfl rfl (by decide +kernel) (ci := 7) (q0 := 0) rfl rfl rfl rfl (Nat.le_of_ble_eq_true rfl) ⟨⟨Nat.le_of_ble_eq_true rfl, Nat.le_of_ble_eq_true rfl⟩, Nat.le_of_ble_eq_true rfl, Nat.le_of_ble_eq_true rfl⟩ dX8_search_55 (fun r30 u31 H locs hp hZ => ?_)
    obtain ⟨rfl, rfl⟩ := hp
    have hZ : zz_Z g A s.heap [cw_i g a_kindOf 60 kdf, cw_i g a_depthOf 60 dpf, cw_i g a_lengthOf 60 lnf, cw_i g a_baseOf 60 saf, cw_l g a_bits 4000 btf, cw_k7 h0 (nI na) (nI ne) a_kindOf a_depthOf a_lengthOf a_classOf a_baseOf a_bits a_pinned 5 a_lengths a_stackArray a_stackOther a_stackAt i_lastArray i_lastPlace a_path a_held a_alike a_hashes (nI nd) a_decisionArray a_decisionPlace a_candidateMany a_candidates (nI nr) a_ruleSort a_ruleArray a_ruleWeight a_ruleLow a_ruleHigh a_chosen a_bestOf (nI nm) a_markElements a_markBits a_markPins] H locs := hZ
    have hZ : zz_Z g A s.heap [cw_k7 h0 (nI na) (nI ne) a_kindOf a_depthOf a_lengthOf a_classOf a_baseOf a_bits a_pinned 5 a_lengths a_stackArray a_stackOther a_stackAt i_lastArray i_lastPlace a_path a_held a_alike a_hashes (nI nd) a_decisionArray a_decisionPlace a_candidateMany a_candidates (nI nr) a_ruleSort a_ruleArray a_ruleWeight a_ruleLow a_ruleHigh a_chosen a_bestOf (nI nm) a_markElements a_markBits a_markPins, cw_i g a_kindOf 60 kdf, cw_i g a_depthOf 60 dpf, cw_i g a_lengthOf 60 lnf, cw_i g a_baseOf 60 saf, cw_l g a_bits 4000 btf] H locs := hZ.sub [5, 0, 1, 2, 3, 4] (by decide +kernel) rfl
    exact zz_iret hC hZ (⟨5, i_lastArray, i_lastPlace, rfl⟩) (Nat.le_of_ble_eq_true rfl) (Nat.le_of_ble_eq_true rfl) dX8_search_58
theorem zl_60 (a b : Nat) : ((60 : Int64) * lN a + lN b).toInt32 = nI (60 * a + b) := by
  rw [show (60 : Int64) = lN 60 by decide, lN_mul, lN_add, lN_i]
theorem dg_X8_isSame_0 : (decode cX8_isSame 0 = .ok (.aload_n 0, 1)) ∧ (decode cX8_isSame 1 = .ok (.getfield 7, 3)) ∧ (decode cX8_isSame 4 = .ok (.iload_n 1, 1)) ∧ (decode cX8_isSame 5 = .ok (.iaload, 1)) ∧ (decode cX8_isSame 6 = .ok (.aload_n 0, 1)) ∧ (decode cX8_isSame 7 = .ok (.getfield 7, 3)) ∧ (decode cX8_isSame 10 = .ok (.iload_n 2, 1)) ∧ (decode cX8_isSame 11 = .ok (.iaload, 1)) ∧ (decode cX8_isSame 12 = .ok (.if_icmp .ne 37, 3)) ∧ (decode cX8_isSame 15 = .ok (.aload_n 0, 1)) ∧ (decode cX8_isSame 16 = .ok (.getfield 13, 3)) ∧ (decode cX8_isSame 19 = .ok (.iload_n 1, 1)) ∧ (decode cX8_isSame 20 = .ok (.iaload, 1)) ∧ (decode cX8_isSame 21 = .ok (.aload_n 0, 1)) ∧ (decode cX8_isSame 22 = .ok (.getfield 13, 3)) ∧ (decode cX8_isSame 25 = .ok (.iload_n 2, 1)) := by decide +kernel
theorem dX8_isSame_0 : decode cX8_isSame 0 = .ok (.aload_n 0, 1) := dg_X8_isSame_0.1
theorem dX8_isSame_1 : decode cX8_isSame 1 = .ok (.getfield 7, 3) := dg_X8_isSame_0.2.1
theorem dX8_isSame_4 : decode cX8_isSame 4 = .ok (.iload_n 1, 1) := dg_X8_isSame_0.2.2.1
theorem dX8_isSame_5 : decode cX8_isSame 5 = .ok (.iaload, 1) := dg_X8_isSame_0.2.2.2.1
theorem dX8_isSame_6 : decode cX8_isSame 6 = .ok (.aload_n 0, 1) := dg_X8_isSame_0.2.2.2.2.1
theorem dX8_isSame_7 : decode cX8_isSame 7 = .ok (.getfield 7, 3) := dg_X8_isSame_0.2.2.2.2.2.1
theorem dX8_isSame_10 : decode cX8_isSame 10 = .ok (.iload_n 2, 1) := dg_X8_isSame_0.2.2.2.2.2.2.1
theorem dX8_isSame_11 : decode cX8_isSame 11 = .ok (.iaload, 1) := dg_X8_isSame_0.2.2.2.2.2.2.2.1
theorem dX8_isSame_12 : decode cX8_isSame 12 = .ok (.if_icmp .ne 37, 3) := dg_X8_isSame_0.2.2.2.2.2.2.2.2.1
theorem dX8_isSame_15 : decode cX8_isSame 15 = .ok (.aload_n 0, 1) := dg_X8_isSame_0.2.2.2.2.2.2.2.2.2.1
theorem dX8_isSame_16 : decode cX8_isSame 16 = .ok (.getfield 13, 3) := dg_X8_isSame_0.2.2.2.2.2.2.2.2.2.2.1
theorem dX8_isSame_19 : decode cX8_isSame 19 = .ok (.iload_n 1, 1) := dg_X8_isSame_0.2.2.2.2.2.2.2.2.2.2.2.1
theorem dX8_isSame_20 : decode cX8_isSame 20 = .ok (.iaload, 1) := dg_X8_isSame_0.2.2.2.2.2.2.2.2.2.2.2.2.1
theorem dX8_isSame_21 : decode cX8_isSame 21 = .ok (.aload_n 0, 1) := dg_X8_isSame_0.2.2.2.2.2.2.2.2.2.2.2.2.2.1
theorem dX8_isSame_22 : decode cX8_isSame 22 = .ok (.getfield 13, 3) := dg_X8_isSame_0.2.2.2.2.2.2.2.2.2.2.2.2.2.2.1
theorem dX8_isSame_25 : decode cX8_isSame 25 = .ok (.iload_n 2, 1) := dg_X8_isSame_0.2.2.2.2.2.2.2.2.2.2.2.2.2.2.2
theorem dg_X8_isSame_26 : (decode cX8_isSame 26 = .ok (.iaload, 1)) ∧ (decode cX8_isSame 27 = .ok (.if_icmp .ne 22, 3)) ∧ (decode cX8_isSame 30 = .ok (.aload_n 0, 1)) ∧ (decode cX8_isSame 31 = .ok (.getfield 16, 3)) ∧ (decode cX8_isSame 34 = .ok (.iload_n 1, 1)) ∧ (decode cX8_isSame 35 = .ok (.iaload, 1)) ∧ (decode cX8_isSame 36 = .ok (.aload_n 0, 1)) ∧ (decode cX8_isSame 37 = .ok (.getfield 16, 3)) ∧ (decode cX8_isSame 40 = .ok (.iload_n 2, 1)) ∧ (decode cX8_isSame 41 = .ok (.iaload, 1)) ∧ (decode cX8_isSame 42 = .ok (.if_icmp .ne 7, 3)) ∧ (decode cX8_isSame 45 = .ok (.iconst 1, 1)) ∧ (decode cX8_isSame 46 = .ok (.goto 4, 3)) ∧ (decode cX8_isSame 49 = .ok (.iconst 0, 1)) ∧ (decode cX8_isSame 50 = .ok (.istore_n 3, 1)) ∧ (decode cX8_isSame 51 = .ok (.iconst 0, 1)) := by decide +kernel
theorem dX8_isSame_26 : decode cX8_isSame 26 = .ok (.iaload, 1) := dg_X8_isSame_26.1
theorem dX8_isSame_27 : decode cX8_isSame 27 = .ok (.if_icmp .ne 22, 3) := dg_X8_isSame_26.2.1
theorem dX8_isSame_30 : decode cX8_isSame 30 = .ok (.aload_n 0, 1) := dg_X8_isSame_26.2.2.1
theorem dX8_isSame_31 : decode cX8_isSame 31 = .ok (.getfield 16, 3) := dg_X8_isSame_26.2.2.2.1
theorem dX8_isSame_34 : decode cX8_isSame 34 = .ok (.iload_n 1, 1) := dg_X8_isSame_26.2.2.2.2.1
theorem dX8_isSame_35 : decode cX8_isSame 35 = .ok (.iaload, 1) := dg_X8_isSame_26.2.2.2.2.2.1
theorem dX8_isSame_36 : decode cX8_isSame 36 = .ok (.aload_n 0, 1) := dg_X8_isSame_26.2.2.2.2.2.2.1
theorem dX8_isSame_37 : decode cX8_isSame 37 = .ok (.getfield 16, 3) := dg_X8_isSame_26.2.2.2.2.2.2.2.1
theorem dX8_isSame_40 : decode cX8_isSame 40 = .ok (.iload_n 2, 1) := dg_X8_isSame_26.2.2.2.2.2.2.2.2.1
theorem dX8_isSame_41 : decode cX8_isSame 41 = .ok (.iaload, 1) := dg_X8_isSame_26.2.2.2.2.2.2.2.2.2.1
theorem dX8_isSame_42 : decode cX8_isSame 42 = .ok (.if_icmp .ne 7, 3) := dg_X8_isSame_26.2.2.2.2.2.2.2.2.2.2.1
theorem dX8_isSame_45 : decode cX8_isSame 45 = .ok (.iconst 1, 1) := dg_X8_isSame_26.2.2.2.2.2.2.2.2.2.2.2.1
theorem dX8_isSame_46 : decode cX8_isSame 46 = .ok (.goto 4, 3) := dg_X8_isSame_26.2.2.2.2.2.2.2.2.2.2.2.2.1
theorem dX8_isSame_49 : decode cX8_isSame 49 = .ok (.iconst 0, 1) := dg_X8_isSame_26.2.2.2.2.2.2.2.2.2.2.2.2.2.1
theorem dX8_isSame_50 : decode cX8_isSame 50 = .ok (.istore_n 3, 1) := dg_X8_isSame_26.2.2.2.2.2.2.2.2.2.2.2.2.2.2.1
theorem dX8_isSame_51 : decode cX8_isSame 51 = .ok (.iconst 0, 1) := dg_X8_isSame_26.2.2.2.2.2.2.2.2.2.2.2.2.2.2.2
theorem dg_X8_isSame_52 : (decode cX8_isSame 52 = .ok (.istore 4, 2)) ∧ (decode cX8_isSame 54 = .ok (.iload 4, 2)) ∧ (decode cX8_isSame 56 = .ok (.aload_n 0, 1)) ∧ (decode cX8_isSame 57 = .ok (.getfield 16, 3)) ∧ (decode cX8_isSame 60 = .ok (.iload_n 1, 1)) ∧ (decode cX8_isSame 61 = .ok (.iaload, 1)) ∧ (decode cX8_isSame 62 = .ok (.if_icmp .ge 105, 3)) ∧ (decode cX8_isSame 65 = .ok (.iload_n 3, 1)) ∧ (decode cX8_isSame 66 = .ok (.ifCond .eq 101, 3)) ∧ (decode cX8_isSame 69 = .ok (.aload_n 0, 1)) ∧ (decode cX8_isSame 70 = .ok (.getfield 25, 3)) ∧ (decode cX8_isSame 73 = .ok (.aload_n 0, 1)) ∧ (decode cX8_isSame 74 = .ok (.getfield 22, 3)) ∧ (decode cX8_isSame 77 = .ok (.iload_n 1, 1)) ∧ (decode cX8_isSame 78 = .ok (.iaload, 1)) ∧ (decode cX8_isSame 79 = .ok (.iload 4, 2)) := by decide +kernel
theorem dX8_isSame_52 : decode cX8_isSame 52 = .ok (.istore 4, 2) := dg_X8_isSame_52.1
theorem dX8_isSame_54 : decode cX8_isSame 54 = .ok (.iload 4, 2) := dg_X8_isSame_52.2.1
theorem dX8_isSame_56 : decode cX8_isSame 56 = .ok (.aload_n 0, 1) := dg_X8_isSame_52.2.2.1
theorem dX8_isSame_57 : decode cX8_isSame 57 = .ok (.getfield 16, 3) := dg_X8_isSame_52.2.2.2.1
theorem dX8_isSame_60 : decode cX8_isSame 60 = .ok (.iload_n 1, 1) := dg_X8_isSame_52.2.2.2.2.1
theorem dX8_isSame_61 : decode cX8_isSame 61 = .ok (.iaload, 1) := dg_X8_isSame_52.2.2.2.2.2.1
theorem dX8_isSame_62 : decode cX8_isSame 62 = .ok (.if_icmp .ge 105, 3) := dg_X8_isSame_52.2.2.2.2.2.2.1
theorem dX8_isSame_65 : decode cX8_isSame 65 = .ok (.iload_n 3, 1) := dg_X8_isSame_52.2.2.2.2.2.2.2.1
theorem dX8_isSame_66 : decode cX8_isSame 66 = .ok (.ifCond .eq 101, 3) := dg_X8_isSame_52.2.2.2.2.2.2.2.2.1
theorem dX8_isSame_69 : decode cX8_isSame 69 = .ok (.aload_n 0, 1) := dg_X8_isSame_52.2.2.2.2.2.2.2.2.2.1
theorem dX8_isSame_70 : decode cX8_isSame 70 = .ok (.getfield 25, 3) := dg_X8_isSame_52.2.2.2.2.2.2.2.2.2.2.1
theorem dX8_isSame_73 : decode cX8_isSame 73 = .ok (.aload_n 0, 1) := dg_X8_isSame_52.2.2.2.2.2.2.2.2.2.2.2.1
theorem dX8_isSame_74 : decode cX8_isSame 74 = .ok (.getfield 22, 3) := dg_X8_isSame_52.2.2.2.2.2.2.2.2.2.2.2.2.1
theorem dX8_isSame_77 : decode cX8_isSame 77 = .ok (.iload_n 1, 1) := dg_X8_isSame_52.2.2.2.2.2.2.2.2.2.2.2.2.2.1
theorem dX8_isSame_78 : decode cX8_isSame 78 = .ok (.iaload, 1) := dg_X8_isSame_52.2.2.2.2.2.2.2.2.2.2.2.2.2.2.1
theorem dX8_isSame_79 : decode cX8_isSame 79 = .ok (.iload 4, 2) := dg_X8_isSame_52.2.2.2.2.2.2.2.2.2.2.2.2.2.2.2
theorem dg_X8_isSame_81 : (decode cX8_isSame 81 = .ok (.iadd, 1)) ∧ (decode cX8_isSame 82 = .ok (.laload, 1)) ∧ (decode cX8_isSame 83 = .ok (.lstore 5, 2)) ∧ (decode cX8_isSame 85 = .ok (.aload_n 0, 1)) ∧ (decode cX8_isSame 86 = .ok (.getfield 25, 3)) ∧ (decode cX8_isSame 89 = .ok (.aload_n 0, 1)) ∧ (decode cX8_isSame 90 = .ok (.getfield 22, 3)) ∧ (decode cX8_isSame 93 = .ok (.iload_n 2, 1)) ∧ (decode cX8_isSame 94 = .ok (.iaload, 1)) ∧ (decode cX8_isSame 95 = .ok (.iload 4, 2)) ∧ (decode cX8_isSame 97 = .ok (.iadd, 1)) ∧ (decode cX8_isSame 98 = .ok (.laload, 1)) ∧ (decode cX8_isSame 99 = .ok (.lstore 7, 2)) ∧ (decode cX8_isSame 101 = .ok (.lload 5, 2)) ∧ (decode cX8_isSame 103 = .ok (.lload 7, 2)) ∧ (decode cX8_isSame 105 = .ok (.lcmp, 1)) := by decide +kernel
theorem dX8_isSame_81 : decode cX8_isSame 81 = .ok (.iadd, 1) := dg_X8_isSame_81.1
theorem dX8_isSame_82 : decode cX8_isSame 82 = .ok (.laload, 1) := dg_X8_isSame_81.2.1
theorem dX8_isSame_83 : decode cX8_isSame 83 = .ok (.lstore 5, 2) := dg_X8_isSame_81.2.2.1
theorem dX8_isSame_85 : decode cX8_isSame 85 = .ok (.aload_n 0, 1) := dg_X8_isSame_81.2.2.2.1
theorem dX8_isSame_86 : decode cX8_isSame 86 = .ok (.getfield 25, 3) := dg_X8_isSame_81.2.2.2.2.1
theorem dX8_isSame_89 : decode cX8_isSame 89 = .ok (.aload_n 0, 1) := dg_X8_isSame_81.2.2.2.2.2.1
theorem dX8_isSame_90 : decode cX8_isSame 90 = .ok (.getfield 22, 3) := dg_X8_isSame_81.2.2.2.2.2.2.1
theorem dX8_isSame_93 : decode cX8_isSame 93 = .ok (.iload_n 2, 1) := dg_X8_isSame_81.2.2.2.2.2.2.2.1
theorem dX8_isSame_94 : decode cX8_isSame 94 = .ok (.iaload, 1) := dg_X8_isSame_81.2.2.2.2.2.2.2.2.1
theorem dX8_isSame_95 : decode cX8_isSame 95 = .ok (.iload 4, 2) := dg_X8_isSame_81.2.2.2.2.2.2.2.2.2.1
theorem dX8_isSame_97 : decode cX8_isSame 97 = .ok (.iadd, 1) := dg_X8_isSame_81.2.2.2.2.2.2.2.2.2.2.1
theorem dX8_isSame_98 : decode cX8_isSame 98 = .ok (.laload, 1) := dg_X8_isSame_81.2.2.2.2.2.2.2.2.2.2.2.1
theorem dX8_isSame_99 : decode cX8_isSame 99 = .ok (.lstore 7, 2) := dg_X8_isSame_81.2.2.2.2.2.2.2.2.2.2.2.2.1
theorem dX8_isSame_101 : decode cX8_isSame 101 = .ok (.lload 5, 2) := dg_X8_isSame_81.2.2.2.2.2.2.2.2.2.2.2.2.2.1
theorem dX8_isSame_103 : decode cX8_isSame 103 = .ok (.lload 7, 2) := dg_X8_isSame_81.2.2.2.2.2.2.2.2.2.2.2.2.2.2.1
theorem dX8_isSame_105 : decode cX8_isSame 105 = .ok (.lcmp, 1) := dg_X8_isSame_81.2.2.2.2.2.2.2.2.2.2.2.2.2.2.2
theorem dg_X8_isSame_106 : (decode cX8_isSame 106 = .ok (.ifCond .eq 49, 3)) ∧ (decode cX8_isSame 109 = .ok (.aload_n 0, 1)) ∧ (decode cX8_isSame 110 = .ok (.getfield 13, 3)) ∧ (decode cX8_isSame 113 = .ok (.iload_n 1, 1)) ∧ (decode cX8_isSame 114 = .ok (.iaload, 1)) ∧ (decode cX8_isSame 115 = .ok (.iconst 1, 1)) ∧ (decode cX8_isSame 116 = .ok (.if_icmp .le 43, 3)) ∧ (decode cX8_isSame 119 = .ok (.lload 5, 2)) ∧ (decode cX8_isSame 121 = .ok (.ldc2_w 171, 3)) ∧ (decode cX8_isSame 124 = .ok (.lcmp, 1)) ∧ (decode cX8_isSame 125 = .ok (.ifCond .eq 34, 3)) ∧ (decode cX8_isSame 128 = .ok (.lload 7, 2)) ∧ (decode cX8_isSame 130 = .ok (.ldc2_w 171, 3)) ∧ (decode cX8_isSame 133 = .ok (.lcmp, 1)) ∧ (decode cX8_isSame 134 = .ok (.ifCond .eq 25, 3)) ∧ (decode cX8_isSame 137 = .ok (.aload_n 0, 1)) := by decide +kernel
theorem dX8_isSame_106 : decode cX8_isSame 106 = .ok (.ifCond .eq 49, 3) := dg_X8_isSame_106.1
theorem dX8_isSame_109 : decode cX8_isSame 109 = .ok (.aload_n 0, 1) := dg_X8_isSame_106.2.1
theorem dX8_isSame_110 : decode cX8_isSame 110 = .ok (.getfield 13, 3) := dg_X8_isSame_106.2.2.1
theorem dX8_isSame_113 : decode cX8_isSame 113 = .ok (.iload_n 1, 1) := dg_X8_isSame_106.2.2.2.1
theorem dX8_isSame_114 : decode cX8_isSame 114 = .ok (.iaload, 1) := dg_X8_isSame_106.2.2.2.2.1
theorem dX8_isSame_115 : decode cX8_isSame 115 = .ok (.iconst 1, 1) := dg_X8_isSame_106.2.2.2.2.2.1
theorem dX8_isSame_116 : decode cX8_isSame 116 = .ok (.if_icmp .le 43, 3) := dg_X8_isSame_106.2.2.2.2.2.2.1
theorem dX8_isSame_119 : decode cX8_isSame 119 = .ok (.lload 5, 2) := dg_X8_isSame_106.2.2.2.2.2.2.2.1
theorem dX8_isSame_121 : decode cX8_isSame 121 = .ok (.ldc2_w 171, 3) := dg_X8_isSame_106.2.2.2.2.2.2.2.2.1
theorem dX8_isSame_124 : decode cX8_isSame 124 = .ok (.lcmp, 1) := dg_X8_isSame_106.2.2.2.2.2.2.2.2.2.1
theorem dX8_isSame_125 : decode cX8_isSame 125 = .ok (.ifCond .eq 34, 3) := dg_X8_isSame_106.2.2.2.2.2.2.2.2.2.2.1
theorem dX8_isSame_128 : decode cX8_isSame 128 = .ok (.lload 7, 2) := dg_X8_isSame_106.2.2.2.2.2.2.2.2.2.2.2.1
theorem dX8_isSame_130 : decode cX8_isSame 130 = .ok (.ldc2_w 171, 3) := dg_X8_isSame_106.2.2.2.2.2.2.2.2.2.2.2.2.1
theorem dX8_isSame_133 : decode cX8_isSame 133 = .ok (.lcmp, 1) := dg_X8_isSame_106.2.2.2.2.2.2.2.2.2.2.2.2.2.1
theorem dX8_isSame_134 : decode cX8_isSame 134 = .ok (.ifCond .eq 25, 3) := dg_X8_isSame_106.2.2.2.2.2.2.2.2.2.2.2.2.2.2.1
theorem dX8_isSame_137 : decode cX8_isSame 137 = .ok (.aload_n 0, 1) := dg_X8_isSame_106.2.2.2.2.2.2.2.2.2.2.2.2.2.2.2
theorem dg_X8_isSame_138 : (decode cX8_isSame 138 = .ok (.getfield 51, 3)) ∧ (decode cX8_isSame 141 = .ok (.ldc2_w 208, 3)) ∧ (decode cX8_isSame 144 = .ok (.lload 5, 2)) ∧ (decode cX8_isSame 146 = .ok (.lmul, 1)) ∧ (decode cX8_isSame 147 = .ok (.lload 7, 2)) ∧ (decode cX8_isSame 149 = .ok (.ladd, 1)) ∧ (decode cX8_isSame 150 = .ok (.l2i, 1)) ∧ (decode cX8_isSame 151 = .ok (.baload, 1)) ∧ (decode cX8_isSame 152 = .ok (.ifCond .eq 7, 3)) ∧ (decode cX8_isSame 155 = .ok (.iconst 1, 1)) ∧ (decode cX8_isSame 156 = .ok (.goto 4, 3)) ∧ (decode cX8_isSame 159 = .ok (.iconst 0, 1)) ∧ (decode cX8_isSame 160 = .ok (.istore_n 3, 1)) ∧ (decode cX8_isSame 161 = .ok (.iinc 4 1, 3)) ∧ (decode cX8_isSame 164 = .ok (.goto (-110), 3)) ∧ (decode cX8_isSame 167 = .ok (.iload_n 3, 1)) := by decide +kernel
theorem dX8_isSame_138 : decode cX8_isSame 138 = .ok (.getfield 51, 3) := dg_X8_isSame_138.1
theorem dX8_isSame_141 : decode cX8_isSame 141 = .ok (.ldc2_w 208, 3) := dg_X8_isSame_138.2.1
theorem dX8_isSame_144 : decode cX8_isSame 144 = .ok (.lload 5, 2) := dg_X8_isSame_138.2.2.1
theorem dX8_isSame_146 : decode cX8_isSame 146 = .ok (.lmul, 1) := dg_X8_isSame_138.2.2.2.1
theorem dX8_isSame_147 : decode cX8_isSame 147 = .ok (.lload 7, 2) := dg_X8_isSame_138.2.2.2.2.1
theorem dX8_isSame_149 : decode cX8_isSame 149 = .ok (.ladd, 1) := dg_X8_isSame_138.2.2.2.2.2.1
theorem dX8_isSame_150 : decode cX8_isSame 150 = .ok (.l2i, 1) := dg_X8_isSame_138.2.2.2.2.2.2.1
theorem dX8_isSame_151 : decode cX8_isSame 151 = .ok (.baload, 1) := dg_X8_isSame_138.2.2.2.2.2.2.2.1
theorem dX8_isSame_152 : decode cX8_isSame 152 = .ok (.ifCond .eq 7, 3) := dg_X8_isSame_138.2.2.2.2.2.2.2.2.1
theorem dX8_isSame_155 : decode cX8_isSame 155 = .ok (.iconst 1, 1) := dg_X8_isSame_138.2.2.2.2.2.2.2.2.2.1
theorem dX8_isSame_156 : decode cX8_isSame 156 = .ok (.goto 4, 3) := dg_X8_isSame_138.2.2.2.2.2.2.2.2.2.2.1
theorem dX8_isSame_159 : decode cX8_isSame 159 = .ok (.iconst 0, 1) := dg_X8_isSame_138.2.2.2.2.2.2.2.2.2.2.2.1
theorem dX8_isSame_160 : decode cX8_isSame 160 = .ok (.istore_n 3, 1) := dg_X8_isSame_138.2.2.2.2.2.2.2.2.2.2.2.2.1
theorem dX8_isSame_161 : decode cX8_isSame 161 = .ok (.iinc 4 1, 3) := dg_X8_isSame_138.2.2.2.2.2.2.2.2.2.2.2.2.2.1
theorem dX8_isSame_164 : decode cX8_isSame 164 = .ok (.goto (-110), 3) := dg_X8_isSame_138.2.2.2.2.2.2.2.2.2.2.2.2.2.2.1
theorem dX8_isSame_167 : decode cX8_isSame 167 = .ok (.iload_n 3, 1) := dg_X8_isSame_138.2.2.2.2.2.2.2.2.2.2.2.2.2.2.2
theorem dg_X8_isSame_168 : (decode cX8_isSame 168 = .ok (.ireturn, 1)) := by decide +kernel
theorem dX8_isSame_168 : decode cX8_isSame 168 = .ok (.ireturn, 1) := dg_X8_isSame_168
theorem zf_X8_51 : zz_f RX8 51 7 18 := ⟨RX8, TX8, 37, rfl, zi_X8, by decide, zk_753⟩
theorem zk_903 : Cond.constantLong RX8 208 (60) ∈ zz_w := zz_in (List.mem_append_right _ (List.mem_append_right _ (List.mem_append_right _ (List.mem_append_right _ (List.mem_append_left _ (List.mem_of_getElem? (i := 183) (by decide +kernel))))))) rfl
abbrev rm_cm_isSame : Room := { frames := 0, cells := 0, slots := 0, locals := 0 }
abbrev po_cm_isSame (g : zz_G) (h0 : Nat) (a_kindOf : Nat) (a_depthOf : Nat) (a_lengthOf : Nat) (a_classOf : Nat) (a_baseOf : Nat) (a_bits : Nat) (a_pinned : Nat) (a_lengths : Nat) (a_stackArray : Nat) (a_stackOther : Nat) (a_stackAt : Nat) (a_path : Nat) (a_held : Nat) (a_alike : Nat) (a_hashes : Nat) (a_decisionArray : Nat) (a_decisionPlace : Nat) (a_candidateMany : Nat) (a_candidates : Nat) (a_ruleSort : Nat) (a_ruleArray : Nat) (a_ruleWeight : Nat) (a_ruleLow : Nat) (a_ruleHigh : Nat) (a_chosen : Nat) (a_bestOf : Nat) (a_markElements : Nat) (a_markBits : Nat) (a_markPins : Nat) (na : Nat) (ne : Nat) (nd : Nat) (nr : Nat) (nm : Nat) (i_code : Int32) (i_lastArray : Int32) (i_lastPlace : Int32) (kdf : Nat → Int32) (dpf : Nat → Int32) (lnf : Nat → Int32) (saf : Nat → Int32) (btf : Nat → Int64) (alf : Nat → Int32) (a : Nat) (b : Nat) (h_M : zz_MI na ne dpf saf lnf btf) (h_a : a < na ∧ b < na) : Int32 → va_W → Prop := fun (r : Int32) (u : va_W) => (r = 0 ∨ r = 1) ∧ u = [cw_k7 h0 (nI na) (nI ne) a_kindOf a_depthOf a_lengthOf a_classOf a_baseOf a_bits a_pinned i_code a_lengths a_stackArray a_stackOther a_stackAt i_lastArray i_lastPlace a_path a_held a_alike a_hashes (nI nd) a_decisionArray a_decisionPlace a_candidateMany a_candidates (nI nr) a_ruleSort a_ruleArray a_ruleWeight a_ruleLow a_ruleHigh a_chosen a_bestOf (nI nm) a_markElements a_markBits a_markPins, cw_i g a_kindOf 60 kdf, cw_i g a_depthOf 60 dpf, cw_i g a_lengthOf 60 lnf, cw_i g a_baseOf 60 saf, cw_l g a_bits 4000 btf, cw_z g a_alike 3600 alf]
set_option maxHeartbeats 4000000 in
set_option maxRecDepth 100000 in
theorem cm_isSame (g : zz_G) (h0 : Nat) (a_kindOf : Nat) (a_depthOf : Nat) (a_lengthOf : Nat) (a_classOf : Nat) (a_baseOf : Nat) (a_bits : Nat) (a_pinned : Nat) (a_lengths : Nat) (a_stackArray : Nat) (a_stackOther : Nat) (a_stackAt : Nat) (a_path : Nat) (a_held : Nat) (a_alike : Nat) (a_hashes : Nat) (a_decisionArray : Nat) (a_decisionPlace : Nat) (a_candidateMany : Nat) (a_candidates : Nat) (a_ruleSort : Nat) (a_ruleArray : Nat) (a_ruleWeight : Nat) (a_ruleLow : Nat) (a_ruleHigh : Nat) (a_chosen : Nat) (a_bestOf : Nat) (a_markElements : Nat) (a_markBits : Nat) (a_markPins : Nat) (na : Nat) (ne : Nat) (nd : Nat) (nr : Nat) (nm : Nat) (i_code : Int32) (i_lastArray : Int32) (i_lastPlace : Int32) (kdf : Nat → Int32) (dpf : Nat → Int32) (lnf : Nat → Int32) (saf : Nat → Int32) (btf : Nat → Int64) (alf : Nat → Int32) (a : Nat) (b : Nat) (h_M : zz_MI na ne dpf saf lnf btf) (h_a : a < na ∧ b < na) : zz_I g yX8_isSame (.code yX8_isSame cX8_isSame 9 (some .boolean)) rm_cm_isSame [.ref h0, .int (nI a), .int (nI b)] [cw_k7 h0 (nI na) (nI ne) a_kindOf a_depthOf a_lengthOf a_classOf a_baseOf a_bits a_pinned i_code a_lengths a_stackArray a_stackOther a_stackAt i_lastArray i_lastPlace a_path a_held a_alike a_hashes (nI nd) a_decisionArray a_decisionPlace a_candidateMany a_candidates (nI nr) a_ruleSort a_ruleArray a_ruleWeight a_ruleLow a_ruleHigh a_chosen a_bestOf (nI nm) a_markElements a_markBits a_markPins, cw_i g a_kindOf 60 kdf, cw_i g a_depthOf 60 dpf, cw_i g a_lengthOf 60 lnf, cw_i g a_baseOf 60 saf, cw_l g a_bits 4000 btf, cw_z g a_alike 3600 alf] (po_cm_isSame g h0 a_kindOf a_depthOf a_lengthOf a_classOf a_baseOf a_bits a_pinned a_lengths a_stackArray a_stackOther a_stackAt a_path a_held a_alike a_hashes a_decisionArray a_decisionPlace a_candidateMany a_candidates a_ruleSort a_ruleArray a_ruleWeight a_ruleLow a_ruleHigh a_chosen a_bestOf a_markElements a_markBits a_markPins na ne nd nr nm i_code i_lastArray i_lastPlace kdf dpf lnf saf btf alf a b h_M h_a) := by
  refine zz_I.intro (own := RX8) (cc := cX8_isSame) (nL := 9) (by decide) rfl (Nat.le_of_ble_eq_true rfl) ?_
  intro p l e s m args below meth c A H locs ls hC hnm hs hZ hl
  obtain ⟨hx, hb, hml, hown, hts, hr, hlocks, hK⟩ := id hC
  have hl : lv_has ls 9 [(0, .ref h0), (1, .int (nI a)), (2, .int (nI b))] := hl
  have hZ : zz_Z g A s.heap [cw_k7 h0 (nI na) (nI ne) a_kindOf a_depthOf a_lengthOf a_classOf a_baseOf a_bits a_pinned i_code a_lengths a_stackArray a_stackOther a_stackAt i_lastArray i_lastPlace a_path a_held a_alike a_hashes (nI nd) a_decisionArray a_decisionPlace a_candidateMany a_candidates (nI nr) a_ruleSort a_ruleArray a_ruleWeight a_ruleLow a_ruleHigh a_chosen a_bestOf (nI nm) a_markElements a_markBits a_markPins, cw_i g a_kindOf 60 kdf, cw_i g a_depthOf 60 dpf, cw_i g a_lengthOf 60 lnf, cw_i g a_baseOf 60 saf, cw_l g a_bits 4000 btf, cw_z g a_alike 3600 alf] H locs := hZ
  have h_S := h_M.1
  have hna := h_S.1
  have hne := h_S.2.1
  obtain ⟨sz, lz, dz, es, el, ed, g1, g2, g3, g4⟩ := h_S.2.2 a h_a.1
  obtain ⟨szb, lzb, dzb, esb, elb, edb, g1b, g2b, g3b, g4b⟩ := h_S.2.2 b h_a.2
  refine lv_aload_n hx hb dX8_isSame_0 rfl (lv_at hl 0 rfl) ?_
  refine zz_get hC hZ 0 rfl zf_X8_7 rfl dX8_isSame_1 ?_
  refine lv_iload_n hx hb dX8_isSame_4 rfl (lv_at hl 1 rfl) ?_
  refine zz_iald hC hZ 1 rfl (vp_in_nI (by omega) (by decide)) dX8_isSame_5 ?_
  rw [nI_clamp (n := a) (by omega)]
  refine lv_aload_n hx hb dX8_isSame_6 rfl (lv_at hl 0 rfl) ?_
  refine zz_get hC hZ 0 rfl zf_X8_7 rfl dX8_isSame_7 ?_
  refine lv_iload_n hx hb dX8_isSame_10 rfl (lv_at hl 2 rfl) ?_
  refine zz_iald hC hZ 1 rfl (vp_in_nI (by omega) (by decide)) dX8_isSame_11 ?_
  rw [nI_clamp (n := b) (by omega)]
  refine lv_icmp_ne (tgt := 49) hx hb dX8_isSame_12 (by decide) (fun c1 => ?_) (fun c1 => ?_)
  · refine lv_iconst (v := 0) hx hb dX8_isSame_49 (by decide) ?_
    refine lv_istore_n (lv' := [(3, .int 0), (0, .ref h0), (1, .int (nI a)), (2, .int (nI b))]) hx hb dX8_isSame_50 rfl hl (by decide) rfl (fun ls hl => ?_)
    refine lv_iconst (v := 0) hx hb dX8_isSame_51 (by decide) ?_
    refine lv_istore (lv' := [(4, .int 0), (3, .int 0), (0, .ref h0), (1, .int (nI a)), (2, .int (nI b))]) hx hb dX8_isSame_52 hl (by decide) rfl (fun ls hl => ?_)
    refine lv_iload hx hb dX8_isSame_54 (lv_at hl 0 rfl) ?_
    refine lv_aload_n hx hb dX8_isSame_56 rfl (lv_at hl 2 rfl) ?_
    refine zz_get hC hZ 0 rfl zf_X8_16 rfl dX8_isSame_57 ?_
    refine lv_iload_n hx hb dX8_isSame_60 rfl (lv_at hl 3 rfl) ?_
    refine zz_iald hC hZ 3 rfl (vp_in_nI (by omega) (by decide)) dX8_isSame_61 ?_
    rw [nI_clamp (n := a) (by omega)]
    refine zz_topi (v := nI lz) (el) ?_
    refine lv_icmp_ge (tgt := 167) hx hb dX8_isSame_62 (by decide) (fun c2 => ?_) (fun c2 => ?_)
    · have nc2 : lz ≤ 0 := (nI_leI (by omega) (by omega)).mp (show nI (lz) ≤ nI (0) from c2)
      refine lv_iload_n hx hb dX8_isSame_167 rfl (lv_at hl 1 rfl) ?_
      exact zz_zret hC hZ (by decide) (⟨Or.inl rfl, rfl⟩) (Nat.le_of_ble_eq_true rfl) (Nat.le_of_ble_eq_true rfl) dX8_isSame_168
    · have nc2 : ¬ lz ≤ 0 := fun zq => c2 (show nI (lz) ≤ nI (0) from (nI_leI (by omega) (by omega)).mpr zq)
      refine lv_iload_n hx hb dX8_isSame_65 rfl (lv_at hl 1 rfl) ?_
      refine lv_if_eq (tgt := 167) hx hb dX8_isSame_66 (by decide) (fun c3 => ?_) (fun c => absurd (by decide) c)
      refine lv_iload_n hx hb dX8_isSame_167 rfl (lv_at hl 1 rfl) ?_
      exact zz_zret hC hZ (by decide) (⟨Or.inl rfl, rfl⟩) (Nat.le_of_ble_eq_true rfl) (Nat.le_of_ble_eq_true rfl) dX8_isSame_168
  · refine lv_aload_n hx hb dX8_isSame_15 rfl (lv_at hl 0 rfl) ?_
    refine zz_get hC hZ 0 rfl zf_X8_13 rfl dX8_isSame_16 ?_
    refine lv_iload_n hx hb dX8_isSame_19 rfl (lv_at hl 1 rfl) ?_
    refine zz_iald hC hZ 2 rfl (vp_in_nI (by omega) (by decide)) dX8_isSame_20 ?_
    rw [nI_clamp (n := a) (by omega)]
    refine zz_topi (v := nI dz) (ed) ?_
    refine lv_aload_n hx hb dX8_isSame_21 rfl (lv_at hl 0 rfl) ?_
    refine zz_get hC hZ 0 rfl zf_X8_13 rfl dX8_isSame_22 ?_
    refine lv_iload_n hx hb dX8_isSame_25 rfl (lv_at hl 2 rfl) ?_
    refine zz_iald hC hZ 2 rfl (vp_in_nI (by omega) (by decide)) dX8_isSame_26 ?_
    rw [nI_clamp (n := b) (by omega)]
    refine zz_topi (v := nI dzb) (edb) ?_
    refine lv_icmp_ne (tgt := 49) hx hb dX8_isSame_27 (by decide) (fun c4 => ?_) (fun c4 => ?_)
    · have nc4 : ¬ dz = dzb := fun zq => c4 (show nI (dz) = nI (dzb) from (nI_eq (by omega) (by omega)).mpr zq)
      refine lv_iconst (v := 0) hx hb dX8_isSame_49 (by decide) ?_
      refine lv_istore_n (lv' := [(3, .int 0), (0, .ref h0), (1, .int (nI a)), (2, .int (nI b))]) hx hb dX8_isSame_50 rfl hl (by decide) rfl (fun ls hl => ?_)
      refine lv_iconst (v := 0) hx hb dX8_isSame_51 (by decide) ?_
      refine lv_istore (lv' := [(4, .int 0), (3, .int 0), (0, .ref h0), (1, .int (nI a)), (2, .int (nI b))]) hx hb dX8_isSame_52 hl (by decide) rfl (fun ls hl => ?_)
      refine lv_iload hx hb dX8_isSame_54 (lv_at hl 0 rfl) ?_
      refine lv_aload_n hx hb dX8_isSame_56 rfl (lv_at hl 2 rfl) ?_
      refine zz_get hC hZ 0 rfl zf_X8_16 rfl dX8_isSame_57 ?_
      refine lv_iload_n hx hb dX8_isSame_60 rfl (lv_at hl 3 rfl) ?_
      refine zz_iald hC hZ 3 rfl (vp_in_nI (by omega) (by decide)) dX8_isSame_61 ?_
      rw [nI_clamp (n := a) (by omega)]
      refine zz_topi (v := nI lz) (el) ?_
      refine lv_icmp_ge (tgt := 167) hx hb dX8_isSame_62 (by decide) (fun c5 => ?_) (fun c5 => ?_)
      · have nc5 : lz ≤ 0 := (nI_leI (by omega) (by omega)).mp (show nI (lz) ≤ nI (0) from c5)
        refine lv_iload_n hx hb dX8_isSame_167 rfl (lv_at hl 1 rfl) ?_
        exact zz_zret hC hZ (by decide) (⟨Or.inl rfl, rfl⟩) (Nat.le_of_ble_eq_true rfl) (Nat.le_of_ble_eq_true rfl) dX8_isSame_168
      · have nc5 : ¬ lz ≤ 0 := fun zq => c5 (show nI (lz) ≤ nI (0) from (nI_leI (by omega) (by omega)).mpr zq)
        refine lv_iload_n hx hb dX8_isSame_65 rfl (lv_at hl 1 rfl) ?_
        refine lv_if_eq (tgt := 167) hx hb dX8_isSame_66 (by decide) (fun c6 => ?_) (fun c => absurd (by decide) c)
        refine lv_iload_n hx hb dX8_isSame_167 rfl (lv_at hl 1 rfl) ?_
        exact zz_zret hC hZ (by decide) (⟨Or.inl rfl, rfl⟩) (Nat.le_of_ble_eq_true rfl) (Nat.le_of_ble_eq_true rfl) dX8_isSame_168
    · have nc4 : dz = dzb := (nI_eq (by omega) (by omega)).mp (show nI (dz) = nI (dzb) from c4)
      refine lv_aload_n hx hb dX8_isSame_30 rfl (lv_at hl 0 rfl) ?_
      refine zz_get hC hZ 0 rfl zf_X8_16 rfl dX8_isSame_31 ?_
      refine lv_iload_n hx hb dX8_isSame_34 rfl (lv_at hl 1 rfl) ?_
      refine zz_iald hC hZ 3 rfl (vp_in_nI (by omega) (by decide)) dX8_isSame_35 ?_
      rw [nI_clamp (n := a) (by omega)]
      refine zz_topi (v := nI lz) (el) ?_
      refine lv_aload_n hx hb dX8_isSame_36 rfl (lv_at hl 0 rfl) ?_
      refine zz_get hC hZ 0 rfl zf_X8_16 rfl dX8_isSame_37 ?_
      refine lv_iload_n hx hb dX8_isSame_40 rfl (lv_at hl 2 rfl) ?_
      refine zz_iald hC hZ 3 rfl (vp_in_nI (by omega) (by decide)) dX8_isSame_41 ?_
      rw [nI_clamp (n := b) (by omega)]
      refine zz_topi (v := nI lzb) (elb) ?_
      refine lv_icmp_ne (tgt := 49) hx hb dX8_isSame_42 (by decide) (fun c7 => ?_) (fun c7 => ?_)
      · have nc7 : ¬ lz = lzb := fun zq => c7 (show nI (lz) = nI (lzb) from (nI_eq (by omega) (by omega)).mpr zq)
        refine lv_iconst (v := 0) hx hb dX8_isSame_49 (by decide) ?_
        refine lv_istore_n (lv' := [(3, .int 0), (0, .ref h0), (1, .int (nI a)), (2, .int (nI b))]) hx hb dX8_isSame_50 rfl hl (by decide) rfl (fun ls hl => ?_)
        refine lv_iconst (v := 0) hx hb dX8_isSame_51 (by decide) ?_
        refine lv_istore (lv' := [(4, .int 0), (3, .int 0), (0, .ref h0), (1, .int (nI a)), (2, .int (nI b))]) hx hb dX8_isSame_52 hl (by decide) rfl (fun ls hl => ?_)
        refine lv_iload hx hb dX8_isSame_54 (lv_at hl 0 rfl) ?_
        refine lv_aload_n hx hb dX8_isSame_56 rfl (lv_at hl 2 rfl) ?_
        refine zz_get hC hZ 0 rfl zf_X8_16 rfl dX8_isSame_57 ?_
        refine lv_iload_n hx hb dX8_isSame_60 rfl (lv_at hl 3 rfl) ?_
        refine zz_iald hC hZ 3 rfl (vp_in_nI (by omega) (by decide)) dX8_isSame_61 ?_
        rw [nI_clamp (n := a) (by omega)]
        refine zz_topi (v := nI lz) (el) ?_
        refine lv_icmp_ge (tgt := 167) hx hb dX8_isSame_62 (by decide) (fun c8 => ?_) (fun c8 => ?_)
        · have nc8 : lz ≤ 0 := (nI_leI (by omega) (by omega)).mp (show nI (lz) ≤ nI (0) from c8)
          refine lv_iload_n hx hb dX8_isSame_167 rfl (lv_at hl 1 rfl) ?_
          exact zz_zret hC hZ (by decide) (⟨Or.inl rfl, rfl⟩) (Nat.le_of_ble_eq_true rfl) (Nat.le_of_ble_eq_true rfl) dX8_isSame_168
        · have nc8 : ¬ lz ≤ 0 := fun zq => c8 (show nI (lz) ≤ nI (0) from (nI_leI (by omega) (by omega)).mpr zq)
          refine lv_iload_n hx hb dX8_isSame_65 rfl (lv_at hl 1 rfl) ?_
          refine lv_if_eq (tgt := 167) hx hb dX8_isSame_66 (by decide) (fun c9 => ?_) (fun c => absurd (by decide) c)
          refine lv_iload_n hx hb dX8_isSame_167 rfl (lv_at hl 1 rfl) ?_
          exact zz_zret hC hZ (by decide) (⟨Or.inl rfl, rfl⟩) (Nat.le_of_ble_eq_true rfl) (Nat.le_of_ble_eq_true rfl) dX8_isSame_168
      · have nc7 : lz = lzb := (nI_eq (by omega) (by omega)).mp (show nI (lz) = nI (lzb) from c7)
        refine lv_iconst (v := 1) hx hb dX8_isSame_45 (by decide) ?_
        refine lv_goto (tgt := 50) hx hb dX8_isSame_46 (by decide) ?_
        refine lv_istore_n (lv' := [(3, .int 1), (0, .ref h0), (1, .int (nI a)), (2, .int (nI b))]) hx hb dX8_isSame_50 rfl hl (by decide) rfl (fun ls hl => ?_)
        refine lv_iconst (v := 0) hx hb dX8_isSame_51 (by decide) ?_
        refine lv_istore (lv' := [(4, .int 0), (3, .int 1), (0, .ref h0), (1, .int (nI a)), (2, .int (nI b))]) hx hb dX8_isSame_52 hl (by decide) rfl (fun ls hl => ?_)
        have LP10 : ∀ (N : Nat) (i : Nat) (w : Int32) (H : Heap) (locs : List Loc) (ls : Array Slot), (i ≤ lz) → (w = 0 ∨ w = 1) → (lz - i) < N → zz_Z g A s.heap [cw_k7 h0 (nI na) (nI ne) a_kindOf a_depthOf a_lengthOf a_classOf a_baseOf a_bits a_pinned i_code a_lengths a_stackArray a_stackOther a_stackAt i_lastArray i_lastPlace a_path a_held a_alike a_hashes (nI nd) a_decisionArray a_decisionPlace a_candidateMany a_candidates (nI nr) a_ruleSort a_ruleArray a_ruleWeight a_ruleLow a_ruleHigh a_chosen a_bestOf (nI nm) a_markElements a_markBits a_markPins, cw_i g a_kindOf 60 kdf, cw_i g a_depthOf 60 dpf, cw_i g a_lengthOf 60 lnf, cw_i g a_baseOf 60 saf, cw_l g a_bits 4000 btf, cw_z g a_alike 3600 alf] H locs → lv_has ls 9 [(4, .int (nI i)), (3, .int w), (0, .ref h0), (1, .int (nI a)), (2, .int (nI b))] → W p l e rm_cm_isSame s m args below meth c H locs 0 0 (zz_QI below g args s A rm_cm_isSame.cells rm_cm_isSame.slots (po_cm_isSame g h0 a_kindOf a_depthOf a_lengthOf a_classOf a_baseOf a_bits a_pinned a_lengths a_stackArray a_stackOther a_stackAt a_path a_held a_alike a_hashes a_decisionArray a_decisionPlace a_candidateMany a_candidates a_ruleSort a_ruleArray a_ruleWeight a_ruleLow a_ruleHigh a_chosen a_bestOf a_markElements a_markBits a_markPins na ne nd nr nm i_code i_lastArray i_lastPlace kdf dpf lnf saf btf alf a b h_M h_a)) (F0 m 54 ls []) := by
          intro N
          induction N with
          | zero =>
            intro i w H locs ls hi hw hN
            exact absurd hN (Nat.not_lt_zero _)
          | succ N ih =>
            intro i w H locs ls hi hw hN hZ hl
            refine lv_iload hx hb dX8_isSame_54 (lv_at hl 0 rfl) ?_
            refine lv_aload_n hx hb dX8_isSame_56 rfl (lv_at hl 2 rfl) ?_
            refine zz_get hC hZ 0 rfl zf_X8_16 rfl dX8_isSame_57 ?_
            refine lv_iload_n hx hb dX8_isSame_60 rfl (lv_at hl 3 rfl) ?_
            refine zz_iald hC hZ 3 rfl (vp_in_nI (by omega) (by decide)) dX8_isSame_61 ?_
            rw [nI_clamp (n := a) (by omega)]
            refine zz_topi (v := nI lz) (el) ?_
            refine lv_icmp_ge (tgt := 167) hx hb dX8_isSame_62 (by decide) (fun c11 => ?_) (fun c11 => ?_)
            · have nc11 : lz ≤ i := (nI_leI (by omega) (by omega)).mp (show nI (lz) ≤ nI (i) from c11)
              refine lv_iload_n hx hb dX8_isSame_167 rfl (lv_at hl 1 rfl) ?_
              exact zz_zret hC hZ (zl_b01 hw) (⟨hw, rfl⟩) (Nat.le_of_ble_eq_true rfl) (Nat.le_of_ble_eq_true rfl) dX8_isSame_168
            · have nc11 : ¬ lz ≤ i := fun zq => c11 (show nI (lz) ≤ nI (i) from (nI_leI (by omega) (by omega)).mpr zq)
              refine lv_iload_n hx hb dX8_isSame_65 rfl (lv_at hl 1 rfl) ?_
              refine lv_if_eq (tgt := 167) hx hb dX8_isSame_66 (by decide) (fun c12 => ?_) (fun c12 => ?_)
              · refine lv_iload_n hx hb dX8_isSame_167 rfl (lv_at hl 1 rfl) ?_
                exact zz_zret hC hZ (zl_b01 hw) (⟨hw, rfl⟩) (Nat.le_of_ble_eq_true rfl) (Nat.le_of_ble_eq_true rfl) dX8_isSame_168
              · refine lv_aload_n hx hb dX8_isSame_69 rfl (lv_at hl 2 rfl) ?_
                refine zz_get hC hZ 0 rfl zf_X8_25 rfl dX8_isSame_70 ?_
                refine lv_aload_n hx hb dX8_isSame_73 rfl (lv_at hl 2 rfl) ?_
                refine zz_get hC hZ 0 rfl zf_X8_22 rfl dX8_isSame_74 ?_
                refine lv_iload_n hx hb dX8_isSame_77 rfl (lv_at hl 3 rfl) ?_
                refine zz_iald hC hZ 4 rfl (vp_in_nI (by omega) (by decide)) dX8_isSame_78 ?_
                rw [nI_clamp (n := a) (by omega)]
                refine zz_topi (v := nI sz) (es) ?_
                refine lv_iload hx hb dX8_isSame_79 (lv_at hl 0 rfl) ?_
                refine lv_iadd hx hb dX8_isSame_81 ?_
                refine zz_topi (v := nI (sz + i)) (nI_add _ _) ?_
                refine zz_lald hC hZ 5 rfl (vp_in_nI (by omega) (by decide)) dX8_isSame_82 ?_
                rw [nI_clamp (n := (sz + i)) (by omega)]
                refine lv_lstore (lv' := [(5, .long (btf (sz + i))), (4, .int (nI i)), (3, .int w), (0, .ref h0), (1, .int (nI a)), (2, .int (nI b))]) hx hb dX8_isSame_83 hl (by decide) rfl (fun ls hl => ?_)
                refine lv_aload_n hx hb dX8_isSame_85 rfl (lv_at hl 3 rfl) ?_
                refine zz_get hC hZ 0 rfl zf_X8_25 rfl dX8_isSame_86 ?_
                refine lv_aload_n hx hb dX8_isSame_89 rfl (lv_at hl 3 rfl) ?_
                refine zz_get hC hZ 0 rfl zf_X8_22 rfl dX8_isSame_90 ?_
                refine lv_iload_n hx hb dX8_isSame_93 rfl (lv_at hl 5 rfl) ?_
                refine zz_iald hC hZ 4 rfl (vp_in_nI (by omega) (by decide)) dX8_isSame_94 ?_
                rw [nI_clamp (n := b) (by omega)]
                refine zz_topi (v := nI szb) (esb) ?_
                refine lv_iload hx hb dX8_isSame_95 (lv_at hl 1 rfl) ?_
                refine lv_iadd hx hb dX8_isSame_97 ?_
                refine zz_topi (v := nI (szb + i)) (nI_add _ _) ?_
                refine zz_lald hC hZ 5 rfl (vp_in_nI (by omega) (by decide)) dX8_isSame_98 ?_
                rw [nI_clamp (n := (szb + i)) (by omega)]
                refine lv_lstore (lv' := [(7, .long (btf (szb + i))), (5, .long (btf (sz + i))), (4, .int (nI i)), (3, .int w), (0, .ref h0), (1, .int (nI a)), (2, .int (nI b))]) hx hb dX8_isSame_99 hl (by decide) rfl (fun ls hl => ?_)
                refine lv_lload hx hb dX8_isSame_101 (lv_at hl 1 rfl) ?_
                refine lv_lload hx hb dX8_isSame_103 (lv_at hl 0 rfl) ?_
                refine zz_lcmp_eq (tgt := 155) hC dX8_isSame_105 dX8_isSame_106 (by decide) (fun c13 => ?_) (fun c13 => ?_)
                · refine lv_iconst (v := 1) hx hb dX8_isSame_155 (by decide) ?_
                  refine lv_goto (tgt := 160) hx hb dX8_isSame_156 (by decide) ?_
                  refine lv_istore_n (lv' := [(3, .int 1), (7, .long (btf (szb + i))), (5, .long (btf (sz + i))), (4, .int (nI i)), (0, .ref h0), (1, .int (nI a)), (2, .int (nI b))]) hx hb dX8_isSame_160 rfl hl (by decide) rfl (fun ls hl => ?_)
                  refine lv_iinc (v := nI (i + 1)) (lv' := [(4, .int (nI (i + 1))), (3, .int 1), (7, .long (btf (szb + i))), (5, .long (btf (sz + i))), (0, .ref h0), (1, .int (nI a)), (2, .int (nI b))]) hx hb dX8_isSame_161 hl (k := 3) rfl (nI_1 _) (by decide) rfl (fun ls hl => ?_)
                  refine lv_goto (tgt := 54) hx hb dX8_isSame_164 (by decide) ?_
                  exact ih (i + 1) 1 H locs ls (by omega) (Or.inr rfl) (by omega) hZ (lv_sub hl [0, 1, 4, 5, 6] rfl)
                · refine lv_aload_n hx hb dX8_isSame_109 rfl (lv_at hl 4 rfl) ?_
                  refine zz_get hC hZ 0 rfl zf_X8_13 rfl dX8_isSame_110 ?_
                  refine lv_iload_n hx hb dX8_isSame_113 rfl (lv_at hl 5 rfl) ?_
                  refine zz_iald hC hZ 2 rfl (vp_in_nI (by omega) (by decide)) dX8_isSame_114 ?_
                  rw [nI_clamp (n := a) (by omega)]
                  refine zz_topi (v := nI dz) (ed) ?_
                  refine lv_iconst (v := 1) hx hb dX8_isSame_115 (by decide) ?_
                  refine lv_icmp_le (tgt := 159) hx hb dX8_isSame_116 (by decide) (fun c14 => ?_) (fun c14 => ?_)
                  · have nc14 : dz ≤ 1 := (nI_leI (by omega) (by omega)).mp (show nI (dz) ≤ nI (1) from c14)
                    refine lv_iconst (v := 0) hx hb dX8_isSame_159 (by decide) ?_
                    refine lv_istore_n (lv' := [(3, .int 0), (7, .long (btf (szb + i))), (5, .long (btf (sz + i))), (4, .int (nI i)), (0, .ref h0), (1, .int (nI a)), (2, .int (nI b))]) hx hb dX8_isSame_160 rfl hl (by decide) rfl (fun ls hl => ?_)
                    refine lv_iinc (v := nI (i + 1)) (lv' := [(4, .int (nI (i + 1))), (3, .int 0), (7, .long (btf (szb + i))), (5, .long (btf (sz + i))), (0, .ref h0), (1, .int (nI a)), (2, .int (nI b))]) hx hb dX8_isSame_161 hl (k := 3) rfl (nI_1 _) (by decide) rfl (fun ls hl => ?_)
                    refine lv_goto (tgt := 54) hx hb dX8_isSame_164 (by decide) ?_
                    exact ih (i + 1) 0 H locs ls (by omega) (Or.inl rfl) (by omega) hZ (lv_sub hl [0, 1, 4, 5, 6] rfl)
                  · have nc14 : ¬ dz ≤ 1 := fun zq => c14 (show nI (dz) ≤ nI (1) from (nI_leI (by omega) (by omega)).mpr zq)
                    refine lv_lload hx hb dX8_isSame_119 (lv_at hl 1 rfl) ?_
                    refine lv_ldc2 hx hb hown (hts _ zk_883) dX8_isSame_121 ?_
                    refine zz_lcmp_eq (tgt := 159) hC dX8_isSame_124 dX8_isSame_125 (by decide) (fun c15 => ?_) (fun c15 => ?_)
                    · refine lv_iconst (v := 0) hx hb dX8_isSame_159 (by decide) ?_
                      refine lv_istore_n (lv' := [(3, .int 0), (7, .long (btf (szb + i))), (5, .long (btf (sz + i))), (4, .int (nI i)), (0, .ref h0), (1, .int (nI a)), (2, .int (nI b))]) hx hb dX8_isSame_160 rfl hl (by decide) rfl (fun ls hl => ?_)
                      refine lv_iinc (v := nI (i + 1)) (lv' := [(4, .int (nI (i + 1))), (3, .int 0), (7, .long (btf (szb + i))), (5, .long (btf (sz + i))), (0, .ref h0), (1, .int (nI a)), (2, .int (nI b))]) hx hb dX8_isSame_161 hl (k := 3) rfl (nI_1 _) (by decide) rfl (fun ls hl => ?_)
                      refine lv_goto (tgt := 54) hx hb dX8_isSame_164 (by decide) ?_
                      exact ih (i + 1) 0 H locs ls (by omega) (Or.inl rfl) (by omega) hZ (lv_sub hl [0, 1, 4, 5, 6] rfl)
                    · refine lv_lload hx hb dX8_isSame_128 (lv_at hl 0 rfl) ?_
                      refine lv_ldc2 hx hb hown (hts _ zk_883) dX8_isSame_130 ?_
                      refine zz_lcmp_eq (tgt := 159) hC dX8_isSame_133 dX8_isSame_134 (by decide) (fun c16 => ?_) (fun c16 => ?_)
                      · refine lv_iconst (v := 0) hx hb dX8_isSame_159 (by decide) ?_
                        refine lv_istore_n (lv' := [(3, .int 0), (7, .long (btf (szb + i))), (5, .long (btf (sz + i))), (4, .int (nI i)), (0, .ref h0), (1, .int (nI a)), (2, .int (nI b))]) hx hb dX8_isSame_160 rfl hl (by decide) rfl (fun ls hl => ?_)
                        refine lv_iinc (v := nI (i + 1)) (lv' := [(4, .int (nI (i + 1))), (3, .int 0), (7, .long (btf (szb + i))), (5, .long (btf (sz + i))), (0, .ref h0), (1, .int (nI a)), (2, .int (nI b))]) hx hb dX8_isSame_161 hl (k := 3) rfl (nI_1 _) (by decide) rfl (fun ls hl => ?_)
                        refine lv_goto (tgt := 54) hx hb dX8_isSame_164 (by decide) ?_
                        exact ih (i + 1) 0 H locs ls (by omega) (Or.inl rfl) (by omega) hZ (lv_sub hl [0, 1, 4, 5, 6] rfl)
                      · refine lv_aload_n hx hb dX8_isSame_137 rfl (lv_at hl 4 rfl) ?_
                        refine zz_get hC hZ 0 rfl zf_X8_51 rfl dX8_isSame_138 ?_
                        obtain ⟨r1, d1, hr1, hv1, _, _⟩ := (h_M.2.2 a sz lz dz h_a.1 es el ed (by omega) (by omega) (by omega) (by omega) i (by omega)).resolve_left c15
                        obtain ⟨r2, d2, hr2, hv2, _, _⟩ := (h_M.2.2 b szb lzb dzb h_a.2 esb elb edb (by omega) (by omega) (by omega) (by omega) i (by omega)).resolve_left c16
                        refine lv_ldc2 hx hb hown (hts _ zk_903) dX8_isSame_141 ?_
                        refine lv_lload hx hb dX8_isSame_144 (lv_at hl 1 rfl) ?_
                        refine lv_lmul hx hb dX8_isSame_146 ?_
                        refine lv_lload hx hb dX8_isSame_147 (lv_at hl 0 rfl) ?_
                        refine lv_ladd hx hb dX8_isSame_149 ?_
                        refine lv_l2i hx hb dX8_isSame_150 rfl ?_
                        refine zz_topi (v := nI (60 * r1 + r2)) (by rw [hv1, hv2]; exact zl_60 r1 r2) ?_
                        refine zz_zald hC hZ 6 rfl (vp_in_nI (by omega) (by decide)) dX8_isSame_151 ?_
                        rw [nI_clamp (n := (60 * r1 + r2)) (by omega)]
                        refine lv_if_eq (tgt := 159) hx hb dX8_isSame_152 (by decide) (fun c17 => ?_) (fun c17 => ?_)
                        · refine lv_iconst (v := 0) hx hb dX8_isSame_159 (by decide) ?_
                          refine lv_istore_n (lv' := [(3, .int 0), (7, .long (btf (szb + i))), (5, .long (btf (sz + i))), (4, .int (nI i)), (0, .ref h0), (1, .int (nI a)), (2, .int (nI b))]) hx hb dX8_isSame_160 rfl hl (by decide) rfl (fun ls hl => ?_)
                          refine lv_iinc (v := nI (i + 1)) (lv' := [(4, .int (nI (i + 1))), (3, .int 0), (7, .long (btf (szb + i))), (5, .long (btf (sz + i))), (0, .ref h0), (1, .int (nI a)), (2, .int (nI b))]) hx hb dX8_isSame_161 hl (k := 3) rfl (nI_1 _) (by decide) rfl (fun ls hl => ?_)
                          refine lv_goto (tgt := 54) hx hb dX8_isSame_164 (by decide) ?_
                          exact ih (i + 1) 0 H locs ls (by omega) (Or.inl rfl) (by omega) hZ (lv_sub hl [0, 1, 4, 5, 6] rfl)
                        · refine lv_iconst (v := 1) hx hb dX8_isSame_155 (by decide) ?_
                          refine lv_goto (tgt := 160) hx hb dX8_isSame_156 (by decide) ?_
                          refine lv_istore_n (lv' := [(3, .int 1), (7, .long (btf (szb + i))), (5, .long (btf (sz + i))), (4, .int (nI i)), (0, .ref h0), (1, .int (nI a)), (2, .int (nI b))]) hx hb dX8_isSame_160 rfl hl (by decide) rfl (fun ls hl => ?_)
                          refine lv_iinc (v := nI (i + 1)) (lv' := [(4, .int (nI (i + 1))), (3, .int 1), (7, .long (btf (szb + i))), (5, .long (btf (sz + i))), (0, .ref h0), (1, .int (nI a)), (2, .int (nI b))]) hx hb dX8_isSame_161 hl (k := 3) rfl (nI_1 _) (by decide) rfl (fun ls hl => ?_)
                          refine lv_goto (tgt := 54) hx hb dX8_isSame_164 (by decide) ?_
                          exact ih (i + 1) 1 H locs ls (by omega) (Or.inr rfl) (by omega) hZ (lv_sub hl [0, 1, 4, 5, 6] rfl)
        exact LP10 _ 0 1 H locs ls (by omega) (Or.inr rfl) (Nat.lt_succ_self _) hZ (lv_sub hl [0, 1, 2, 3, 4] rfl)
theorem dg_X8_same_0 : (decode cX8_same 0 = .ok (.aload_n 0, 1)) ∧ (decode cX8_same 1 = .ok (.iload_n 1, 1)) ∧ (decode cX8_same 2 = .ok (.invokevirtual 200, 3)) ∧ (decode cX8_same 5 = .ok (.ifCond .eq 11, 3)) ∧ (decode cX8_same 8 = .ok (.aload_n 0, 1)) ∧ (decode cX8_same 9 = .ok (.iload_n 2, 1)) ∧ (decode cX8_same 10 = .ok (.invokevirtual 200, 3)) ∧ (decode cX8_same 13 = .ok (.ifCond .ne 9, 3)) ∧ (decode cX8_same 16 = .ok (.aload_n 0, 1)) ∧ (decode cX8_same 17 = .ok (.iconst 5, 1)) ∧ (decode cX8_same 18 = .ok (.invokevirtual 175, 3)) ∧ (decode cX8_same 21 = .ok (.ireturn, 1)) ∧ (decode cX8_same 22 = .ok (.iconst 1, 1)) ∧ (decode cX8_same 23 = .ok (.istore_n 3, 1)) ∧ (decode cX8_same 24 = .ok (.iload_n 3, 1)) ∧ (decode cX8_same 25 = .ok (.aload_n 0, 1)) := by decide +kernel
theorem dX8_same_0 : decode cX8_same 0 = .ok (.aload_n 0, 1) := dg_X8_same_0.1
theorem dX8_same_1 : decode cX8_same 1 = .ok (.iload_n 1, 1) := dg_X8_same_0.2.1
theorem dX8_same_2 : decode cX8_same 2 = .ok (.invokevirtual 200, 3) := dg_X8_same_0.2.2.1
theorem dX8_same_5 : decode cX8_same 5 = .ok (.ifCond .eq 11, 3) := dg_X8_same_0.2.2.2.1
theorem dX8_same_8 : decode cX8_same 8 = .ok (.aload_n 0, 1) := dg_X8_same_0.2.2.2.2.1
theorem dX8_same_9 : decode cX8_same 9 = .ok (.iload_n 2, 1) := dg_X8_same_0.2.2.2.2.2.1
theorem dX8_same_10 : decode cX8_same 10 = .ok (.invokevirtual 200, 3) := dg_X8_same_0.2.2.2.2.2.2.1
theorem dX8_same_13 : decode cX8_same 13 = .ok (.ifCond .ne 9, 3) := dg_X8_same_0.2.2.2.2.2.2.2.1
theorem dX8_same_16 : decode cX8_same 16 = .ok (.aload_n 0, 1) := dg_X8_same_0.2.2.2.2.2.2.2.2.1
theorem dX8_same_17 : decode cX8_same 17 = .ok (.iconst 5, 1) := dg_X8_same_0.2.2.2.2.2.2.2.2.2.1
theorem dX8_same_18 : decode cX8_same 18 = .ok (.invokevirtual 175, 3) := dg_X8_same_0.2.2.2.2.2.2.2.2.2.2.1
theorem dX8_same_21 : decode cX8_same 21 = .ok (.ireturn, 1) := dg_X8_same_0.2.2.2.2.2.2.2.2.2.2.2.1
theorem dX8_same_22 : decode cX8_same 22 = .ok (.iconst 1, 1) := dg_X8_same_0.2.2.2.2.2.2.2.2.2.2.2.2.1
theorem dX8_same_23 : decode cX8_same 23 = .ok (.istore_n 3, 1) := dg_X8_same_0.2.2.2.2.2.2.2.2.2.2.2.2.2.1
theorem dX8_same_24 : decode cX8_same 24 = .ok (.iload_n 3, 1) := dg_X8_same_0.2.2.2.2.2.2.2.2.2.2.2.2.2.2.1
theorem dX8_same_25 : decode cX8_same 25 = .ok (.aload_n 0, 1) := dg_X8_same_0.2.2.2.2.2.2.2.2.2.2.2.2.2.2.2
theorem dg_X8_same_26 : (decode cX8_same 26 = .ok (.getfield 13, 3)) ∧ (decode cX8_same 29 = .ok (.iload_n 1, 1)) ∧ (decode cX8_same 30 = .ok (.iaload, 1)) ∧ (decode cX8_same 31 = .ok (.if_icmp .ge 96, 3)) ∧ (decode cX8_same 34 = .ok (.iconst 0, 1)) ∧ (decode cX8_same 35 = .ok (.istore 4, 2)) ∧ (decode cX8_same 37 = .ok (.iload 4, 2)) ∧ (decode cX8_same 39 = .ok (.aload_n 0, 1)) ∧ (decode cX8_same 40 = .ok (.getfield 103, 3)) ∧ (decode cX8_same 43 = .ok (.if_icmp .ge 78, 3)) ∧ (decode cX8_same 46 = .ok (.iconst 0, 1)) ∧ (decode cX8_same 47 = .ok (.istore 5, 2)) ∧ (decode cX8_same 49 = .ok (.iload 5, 2)) ∧ (decode cX8_same 51 = .ok (.aload_n 0, 1)) ∧ (decode cX8_same 52 = .ok (.getfield 103, 3)) ∧ (decode cX8_same 55 = .ok (.if_icmp .ge 60, 3)) := by decide +kernel
theorem dX8_same_26 : decode cX8_same 26 = .ok (.getfield 13, 3) := dg_X8_same_26.1
theorem dX8_same_29 : decode cX8_same 29 = .ok (.iload_n 1, 1) := dg_X8_same_26.2.1
theorem dX8_same_30 : decode cX8_same 30 = .ok (.iaload, 1) := dg_X8_same_26.2.2.1
theorem dX8_same_31 : decode cX8_same 31 = .ok (.if_icmp .ge 96, 3) := dg_X8_same_26.2.2.2.1
theorem dX8_same_34 : decode cX8_same 34 = .ok (.iconst 0, 1) := dg_X8_same_26.2.2.2.2.1
theorem dX8_same_35 : decode cX8_same 35 = .ok (.istore 4, 2) := dg_X8_same_26.2.2.2.2.2.1
theorem dX8_same_37 : decode cX8_same 37 = .ok (.iload 4, 2) := dg_X8_same_26.2.2.2.2.2.2.1
theorem dX8_same_39 : decode cX8_same 39 = .ok (.aload_n 0, 1) := dg_X8_same_26.2.2.2.2.2.2.2.1
theorem dX8_same_40 : decode cX8_same 40 = .ok (.getfield 103, 3) := dg_X8_same_26.2.2.2.2.2.2.2.2.1
theorem dX8_same_43 : decode cX8_same 43 = .ok (.if_icmp .ge 78, 3) := dg_X8_same_26.2.2.2.2.2.2.2.2.2.1
theorem dX8_same_46 : decode cX8_same 46 = .ok (.iconst 0, 1) := dg_X8_same_26.2.2.2.2.2.2.2.2.2.2.1
theorem dX8_same_47 : decode cX8_same 47 = .ok (.istore 5, 2) := dg_X8_same_26.2.2.2.2.2.2.2.2.2.2.2.1
theorem dX8_same_49 : decode cX8_same 49 = .ok (.iload 5, 2) := dg_X8_same_26.2.2.2.2.2.2.2.2.2.2.2.2.1
theorem dX8_same_51 : decode cX8_same 51 = .ok (.aload_n 0, 1) := dg_X8_same_26.2.2.2.2.2.2.2.2.2.2.2.2.2.1
theorem dX8_same_52 : decode cX8_same 52 = .ok (.getfield 103, 3) := dg_X8_same_26.2.2.2.2.2.2.2.2.2.2.2.2.2.2.1
theorem dX8_same_55 : decode cX8_same 55 = .ok (.if_icmp .ge 60, 3) := dg_X8_same_26.2.2.2.2.2.2.2.2.2.2.2.2.2.2.2
theorem dg_X8_same_58 : (decode cX8_same 58 = .ok (.aload_n 0, 1)) ∧ (decode cX8_same 59 = .ok (.getfield 13, 3)) ∧ (decode cX8_same 62 = .ok (.iload 4, 2)) ∧ (decode cX8_same 64 = .ok (.iaload, 1)) ∧ (decode cX8_same 65 = .ok (.iload_n 3, 1)) ∧ (decode cX8_same 66 = .ok (.if_icmp .ne 49, 3)) ∧ (decode cX8_same 69 = .ok (.aload_n 0, 1)) ∧ (decode cX8_same 70 = .ok (.getfield 51, 3)) ∧ (decode cX8_same 73 = .ok (.bipush 60, 2)) ∧ (decode cX8_same 75 = .ok (.iload 4, 2)) ∧ (decode cX8_same 77 = .ok (.imul, 1)) ∧ (decode cX8_same 78 = .ok (.iload 5, 2)) ∧ (decode cX8_same 80 = .ok (.iadd, 1)) ∧ (decode cX8_same 81 = .ok (.aload_n 0, 1)) ∧ (decode cX8_same 82 = .ok (.getfield 13, 3)) ∧ (decode cX8_same 85 = .ok (.iload 5, 2)) := by decide +kernel
theorem dX8_same_58 : decode cX8_same 58 = .ok (.aload_n 0, 1) := dg_X8_same_58.1
theorem dX8_same_59 : decode cX8_same 59 = .ok (.getfield 13, 3) := dg_X8_same_58.2.1
theorem dX8_same_62 : decode cX8_same 62 = .ok (.iload 4, 2) := dg_X8_same_58.2.2.1
theorem dX8_same_64 : decode cX8_same 64 = .ok (.iaload, 1) := dg_X8_same_58.2.2.2.1
theorem dX8_same_65 : decode cX8_same 65 = .ok (.iload_n 3, 1) := dg_X8_same_58.2.2.2.2.1
theorem dX8_same_66 : decode cX8_same 66 = .ok (.if_icmp .ne 49, 3) := dg_X8_same_58.2.2.2.2.2.1
theorem dX8_same_69 : decode cX8_same 69 = .ok (.aload_n 0, 1) := dg_X8_same_58.2.2.2.2.2.2.1
theorem dX8_same_70 : decode cX8_same 70 = .ok (.getfield 51, 3) := dg_X8_same_58.2.2.2.2.2.2.2.1
theorem dX8_same_73 : decode cX8_same 73 = .ok (.bipush 60, 2) := dg_X8_same_58.2.2.2.2.2.2.2.2.1
theorem dX8_same_75 : decode cX8_same 75 = .ok (.iload 4, 2) := dg_X8_same_58.2.2.2.2.2.2.2.2.2.1
theorem dX8_same_77 : decode cX8_same 77 = .ok (.imul, 1) := dg_X8_same_58.2.2.2.2.2.2.2.2.2.2.1
theorem dX8_same_78 : decode cX8_same 78 = .ok (.iload 5, 2) := dg_X8_same_58.2.2.2.2.2.2.2.2.2.2.2.1
theorem dX8_same_80 : decode cX8_same 80 = .ok (.iadd, 1) := dg_X8_same_58.2.2.2.2.2.2.2.2.2.2.2.2.1
theorem dX8_same_81 : decode cX8_same 81 = .ok (.aload_n 0, 1) := dg_X8_same_58.2.2.2.2.2.2.2.2.2.2.2.2.2.1
theorem dX8_same_82 : decode cX8_same 82 = .ok (.getfield 13, 3) := dg_X8_same_58.2.2.2.2.2.2.2.2.2.2.2.2.2.2.1
theorem dX8_same_85 : decode cX8_same 85 = .ok (.iload 5, 2) := dg_X8_same_58.2.2.2.2.2.2.2.2.2.2.2.2.2.2.2
theorem dg_X8_same_87 : (decode cX8_same 87 = .ok (.iaload, 1)) ∧ (decode cX8_same 88 = .ok (.iload_n 3, 1)) ∧ (decode cX8_same 89 = .ok (.if_icmp .ne 18, 3)) ∧ (decode cX8_same 92 = .ok (.aload_n 0, 1)) ∧ (decode cX8_same 93 = .ok (.iload 4, 2)) ∧ (decode cX8_same 95 = .ok (.iload 5, 2)) ∧ (decode cX8_same 97 = .ok (.invokevirtual 242, 3)) ∧ (decode cX8_same 100 = .ok (.ifCond .eq 7, 3)) ∧ (decode cX8_same 103 = .ok (.iconst 1, 1)) ∧ (decode cX8_same 104 = .ok (.goto 4, 3)) ∧ (decode cX8_same 107 = .ok (.iconst 0, 1)) ∧ (decode cX8_same 108 = .ok (.bastore, 1)) ∧ (decode cX8_same 109 = .ok (.iinc 5 1, 3)) ∧ (decode cX8_same 112 = .ok (.goto (-63), 3)) ∧ (decode cX8_same 115 = .ok (.iinc 4 1, 3)) ∧ (decode cX8_same 118 = .ok (.goto (-81), 3)) := by decide +kernel
theorem dX8_same_87 : decode cX8_same 87 = .ok (.iaload, 1) := dg_X8_same_87.1
theorem dX8_same_88 : decode cX8_same 88 = .ok (.iload_n 3, 1) := dg_X8_same_87.2.1
theorem dX8_same_89 : decode cX8_same 89 = .ok (.if_icmp .ne 18, 3) := dg_X8_same_87.2.2.1
theorem dX8_same_92 : decode cX8_same 92 = .ok (.aload_n 0, 1) := dg_X8_same_87.2.2.2.1
theorem dX8_same_93 : decode cX8_same 93 = .ok (.iload 4, 2) := dg_X8_same_87.2.2.2.2.1
theorem dX8_same_95 : decode cX8_same 95 = .ok (.iload 5, 2) := dg_X8_same_87.2.2.2.2.2.1
theorem dX8_same_97 : decode cX8_same 97 = .ok (.invokevirtual 242, 3) := dg_X8_same_87.2.2.2.2.2.2.1
theorem dX8_same_100 : decode cX8_same 100 = .ok (.ifCond .eq 7, 3) := dg_X8_same_87.2.2.2.2.2.2.2.1
theorem dX8_same_103 : decode cX8_same 103 = .ok (.iconst 1, 1) := dg_X8_same_87.2.2.2.2.2.2.2.2.1
theorem dX8_same_104 : decode cX8_same 104 = .ok (.goto 4, 3) := dg_X8_same_87.2.2.2.2.2.2.2.2.2.1
theorem dX8_same_107 : decode cX8_same 107 = .ok (.iconst 0, 1) := dg_X8_same_87.2.2.2.2.2.2.2.2.2.2.1
theorem dX8_same_108 : decode cX8_same 108 = .ok (.bastore, 1) := dg_X8_same_87.2.2.2.2.2.2.2.2.2.2.2.1
theorem dX8_same_109 : decode cX8_same 109 = .ok (.iinc 5 1, 3) := dg_X8_same_87.2.2.2.2.2.2.2.2.2.2.2.2.1
theorem dX8_same_112 : decode cX8_same 112 = .ok (.goto (-63), 3) := dg_X8_same_87.2.2.2.2.2.2.2.2.2.2.2.2.2.1
theorem dX8_same_115 : decode cX8_same 115 = .ok (.iinc 4 1, 3) := dg_X8_same_87.2.2.2.2.2.2.2.2.2.2.2.2.2.2.1
theorem dX8_same_118 : decode cX8_same 118 = .ok (.goto (-81), 3) := dg_X8_same_87.2.2.2.2.2.2.2.2.2.2.2.2.2.2.2
theorem dg_X8_same_121 : (decode cX8_same 121 = .ok (.iinc 3 1, 3)) ∧ (decode cX8_same 124 = .ok (.goto (-100), 3)) ∧ (decode cX8_same 127 = .ok (.aload_n 0, 1)) ∧ (decode cX8_same 128 = .ok (.aload_n 0, 1)) ∧ (decode cX8_same 129 = .ok (.iload_n 1, 1)) ∧ (decode cX8_same 130 = .ok (.iload_n 2, 1)) ∧ (decode cX8_same 131 = .ok (.invokevirtual 242, 3)) ∧ (decode cX8_same 134 = .ok (.ifCond .eq 7, 3)) ∧ (decode cX8_same 137 = .ok (.iconst 1, 1)) ∧ (decode cX8_same 138 = .ok (.goto 4, 3)) ∧ (decode cX8_same 141 = .ok (.iconst 0, 1)) ∧ (decode cX8_same 142 = .ok (.invokevirtual 183, 3)) ∧ (decode cX8_same 145 = .ok (.ireturn, 1)) := by decide +kernel
theorem dX8_same_121 : decode cX8_same 121 = .ok (.iinc 3 1, 3) := dg_X8_same_121.1
theorem dX8_same_124 : decode cX8_same 124 = .ok (.goto (-100), 3) := dg_X8_same_121.2.1
theorem dX8_same_127 : decode cX8_same 127 = .ok (.aload_n 0, 1) := dg_X8_same_121.2.2.1
theorem dX8_same_128 : decode cX8_same 128 = .ok (.aload_n 0, 1) := dg_X8_same_121.2.2.2.1
theorem dX8_same_129 : decode cX8_same 129 = .ok (.iload_n 1, 1) := dg_X8_same_121.2.2.2.2.1
theorem dX8_same_130 : decode cX8_same 130 = .ok (.iload_n 2, 1) := dg_X8_same_121.2.2.2.2.2.1
theorem dX8_same_131 : decode cX8_same 131 = .ok (.invokevirtual 242, 3) := dg_X8_same_121.2.2.2.2.2.2.1
theorem dX8_same_134 : decode cX8_same 134 = .ok (.ifCond .eq 7, 3) := dg_X8_same_121.2.2.2.2.2.2.2.1
theorem dX8_same_137 : decode cX8_same 137 = .ok (.iconst 1, 1) := dg_X8_same_121.2.2.2.2.2.2.2.2.1
theorem dX8_same_138 : decode cX8_same 138 = .ok (.goto 4, 3) := dg_X8_same_121.2.2.2.2.2.2.2.2.2.1
theorem dX8_same_141 : decode cX8_same 141 = .ok (.iconst 0, 1) := dg_X8_same_121.2.2.2.2.2.2.2.2.2.2.1
theorem dX8_same_142 : decode cX8_same 142 = .ok (.invokevirtual 183, 3) := dg_X8_same_121.2.2.2.2.2.2.2.2.2.2.2.1
theorem dX8_same_145 : decode cX8_same 145 = .ok (.ireturn, 1) := dg_X8_same_121.2.2.2.2.2.2.2.2.2.2.2.2
theorem zk_1020 : Cond.methodLink RX8 242 yX8_isSame ∈ zz_w := zz_in (List.mem_append_right _ (List.mem_append_right _ (List.mem_append_right _ (List.mem_append_right _ (List.mem_append_right _ (List.mem_of_getElem? (i := 60) (by decide +kernel))))))) rfl
set_option maxRecDepth 20000 in
theorem zk_1023 : Cond.code yX8_isSame cX8_isSame 9 (some .boolean) ∈ zz_w := zz_in (List.mem_append_right _ (List.mem_append_right _ (List.mem_append_right _ (List.mem_append_right _ (List.mem_append_right _ (List.mem_of_getElem? (i := 63) (rfl))))))) rfl
theorem zk_1022 : Cond.instanceMethod yX8_isSame ∈ zz_w := zz_in (List.mem_append_right _ (List.mem_append_right _ (List.mem_append_right _ (List.mem_append_right _ (List.mem_append_right _ (List.mem_of_getElem? (i := 62) (by decide +kernel))))))) rfl
theorem zs_27 : Cond.selects RX8 yX8_isSame yX8_isSame ∈ zz_w := zz_in (List.mem_append_left _ (List.mem_of_getElem? (i := 27) (by decide +kernel))) rfl
theorem zc_X8_242 : zz_cV RX8 242 yX8_isSame cX8_isSame 9 (some .boolean) 2 := ⟨⟨zk_1020, zk_1023, zk_7, by decide, by decide, by decide +kernel⟩, zk_1022, zs_27⟩
abbrev rm_my_same : Room := { frames := 2, cells := 0, slots := 0, locals := 46 }
abbrev po_my_same (g : zz_G) (h0 : Nat) (a_kindOf : Nat) (a_depthOf : Nat) (a_lengthOf : Nat) (a_classOf : Nat) (a_baseOf : Nat) (a_bits : Nat) (a_pinned : Nat) (a_lengths : Nat) (a_stackArray : Nat) (a_stackOther : Nat) (a_stackAt : Nat) (a_path : Nat) (a_held : Nat) (a_alike : Nat) (a_hashes : Nat) (a_decisionArray : Nat) (a_decisionPlace : Nat) (a_candidateMany : Nat) (a_candidates : Nat) (a_ruleSort : Nat) (a_ruleArray : Nat) (a_ruleWeight : Nat) (a_ruleLow : Nat) (a_ruleHigh : Nat) (a_chosen : Nat) (a_bestOf : Nat) (a_markElements : Nat) (a_markBits : Nat) (a_markPins : Nat) (na : Nat) (ne : Nat) (nd : Nat) (nr : Nat) (nm : Nat) (i_code : Int32) (i_lastArray : Int32) (i_lastPlace : Int32) (kdf : Nat → Int32) (dpf : Nat → Int32) (lnf : Nat → Int32) (saf : Nat → Int32) (btf : Nat → Int64) (alf : Nat → Int32) (x1 : Int32) (x2 : Int32) (h_M : zz_MI na ne dpf saf lnf btf) : Int32 → va_W → Prop := fun (r : Int32) (u : va_W) => ∃ (k_c : Int32) (k_a : Int32) (k_p : Int32) (al2 : Nat → Int32), u = [cw_k7 h0 (nI na) (nI ne) a_kindOf a_depthOf a_lengthOf a_classOf a_baseOf a_bits a_pinned k_c a_lengths a_stackArray a_stackOther a_stackAt k_a k_p a_path a_held a_alike a_hashes (nI nd) a_decisionArray a_decisionPlace a_candidateMany a_candidates (nI nr) a_ruleSort a_ruleArray a_ruleWeight a_ruleLow a_ruleHigh a_chosen a_bestOf (nI nm) a_markElements a_markBits a_markPins, cw_i g a_kindOf 60 kdf, cw_i g a_depthOf 60 dpf, cw_i g a_lengthOf 60 lnf, cw_i g a_baseOf 60 saf, cw_l g a_bits 4000 btf, cw_z g a_alike 3600 al2]
set_option maxHeartbeats 4000000 in
set_option maxRecDepth 100000 in
theorem my_same (g : zz_G) (h0 : Nat) (a_kindOf : Nat) (a_depthOf : Nat) (a_lengthOf : Nat) (a_classOf : Nat) (a_baseOf : Nat) (a_bits : Nat) (a_pinned : Nat) (a_lengths : Nat) (a_stackArray : Nat) (a_stackOther : Nat) (a_stackAt : Nat) (a_path : Nat) (a_held : Nat) (a_alike : Nat) (a_hashes : Nat) (a_decisionArray : Nat) (a_decisionPlace : Nat) (a_candidateMany : Nat) (a_candidates : Nat) (a_ruleSort : Nat) (a_ruleArray : Nat) (a_ruleWeight : Nat) (a_ruleLow : Nat) (a_ruleHigh : Nat) (a_chosen : Nat) (a_bestOf : Nat) (a_markElements : Nat) (a_markBits : Nat) (a_markPins : Nat) (na : Nat) (ne : Nat) (nd : Nat) (nr : Nat) (nm : Nat) (i_code : Int32) (i_lastArray : Int32) (i_lastPlace : Int32) (kdf : Nat → Int32) (dpf : Nat → Int32) (lnf : Nat → Int32) (saf : Nat → Int32) (btf : Nat → Int64) (alf : Nat → Int32) (x1 : Int32) (x2 : Int32) (h_M : zz_MI na ne dpf saf lnf btf) : zz_I g yX8_same (.code yX8_same cX8_same 6 (some .int)) rm_my_same [.ref h0, .int x1, .int x2] [cw_k7 h0 (nI na) (nI ne) a_kindOf a_depthOf a_lengthOf a_classOf a_baseOf a_bits a_pinned i_code a_lengths a_stackArray a_stackOther a_stackAt i_lastArray i_lastPlace a_path a_held a_alike a_hashes (nI nd) a_decisionArray a_decisionPlace a_candidateMany a_candidates (nI nr) a_ruleSort a_ruleArray a_ruleWeight a_ruleLow a_ruleHigh a_chosen a_bestOf (nI nm) a_markElements a_markBits a_markPins, cw_i g a_kindOf 60 kdf, cw_i g a_depthOf 60 dpf, cw_i g a_lengthOf 60 lnf, cw_i g a_baseOf 60 saf, cw_l g a_bits 4000 btf, cw_z g a_alike 3600 alf] (po_my_same g h0 a_kindOf a_depthOf a_lengthOf a_classOf a_baseOf a_bits a_pinned a_lengths a_stackArray a_stackOther a_stackAt a_path a_held a_alike a_hashes a_decisionArray a_decisionPlace a_candidateMany a_candidates a_ruleSort a_ruleArray a_ruleWeight a_ruleLow a_ruleHigh a_chosen a_bestOf a_markElements a_markBits a_markPins na ne nd nr nm i_code i_lastArray i_lastPlace kdf dpf lnf saf btf alf x1 x2 h_M) := by
  refine zz_I.intro (own := RX8) (cc := cX8_same) (nL := 6) (by decide) rfl (Nat.le_of_ble_eq_true rfl) ?_
  intro p l e s m args below meth c A H locs ls hC hnm hs hZ hl
  obtain ⟨hx, hb, hml, hown, hts, hr, hlocks, hK⟩ := id hC
  have hl : lv_has ls 6 [(0, .ref h0), (1, .int x1), (2, .int x2)] := hl
  have hZ : zz_Z g A s.heap [cw_k7 h0 (nI na) (nI ne) a_kindOf a_depthOf a_lengthOf a_classOf a_baseOf a_bits a_pinned i_code a_lengths a_stackArray a_stackOther a_stackAt i_lastArray i_lastPlace a_path a_held a_alike a_hashes (nI nd) a_decisionArray a_decisionPlace a_candidateMany a_candidates (nI nr) a_ruleSort a_ruleArray a_ruleWeight a_ruleLow a_ruleHigh a_chosen a_bestOf (nI nm) a_markElements a_markBits a_markPins, cw_i g a_kindOf 60 kdf, cw_i g a_depthOf 60 dpf, cw_i g a_lengthOf 60 lnf, cw_i g a_baseOf 60 saf, cw_l g a_bits 4000 btf, cw_z g a_alike 3600 alf] H locs := hZ
  have h_S := h_M.1
  have hna := h_S.1
  have hne := h_S.2.1
  refine lv_aload_n hx hb dX8_same_0 rfl (lv_at hl 0 rfl) ?_
  refine lv_iload_n hx hb dX8_same_1 rfl (lv_at hl 1 rfl) ?_
  refine zz_iV (As := [.int x1]) (wc := [cw_k7 h0 (nI na) (nI ne) a_kindOf a_depthOf a_lengthOf a_classOf a_baseOf a_bits a_pinned i_code a_lengths a_stackArray a_stackOther a_stackAt i_lastArray i_lastPlace a_path a_held a_alike a_hashes (nI nd) a_decisionArray a_decisionPlace a_candidateMany a_candidates (nI nr) a_ruleSort a_ruleArray a_ruleWeight a_ruleLow a_ruleHigh a_chosen a_bestOf (nI nm) a_markElements a_markBits a_markPins]) (wr := [cw_i g a_kindOf 60 kdf, cw_i g a_depthOf 60 dpf, cw_i g a_lengthOf 60 lnf, cw_i g a_baseOf 60 saf, cw_l g a_bits 4000 btf, cw_z g a_alike 3600 alf]) (rest := []) hC hZ hs hl zc_X8_200 (cm_isArray g h0 a_kindOf a_depthOf a_lengthOf a_classOf a_baseOf a_bits a_pinned a_lengths a_stackArray a_stackOther a_stackAt a_path a_held a_alike a_hashes a_decisionArray a_decisionPlace a_candidateMany a_candidates a_ruleSort a_ruleArray a_ruleWeight a_ruleLow a_ruleHigh a_chosen a_bestOf a_markElements a_markBits a_markPins (nI na) (nI ne) i_code i_lastArray i_lastPlace (nI nd) (nI nr) (nI nm) x1) [0] [1, 2, 3, 4, 5, 6] rfl rfl (by decide +kernel) (ci := 7) (q0 := 0) rfl rfl rfl rfl (Nat.le_of_ble_eq_true rfl) ⟨⟨Nat.le_of_ble_eq_true rfl, Nat.le_of_ble_eq_true rfl⟩, Nat.le_of_ble_eq_true rfl, Nat.le_of_ble_eq_true rfl⟩ dX8_same_2 (fun r1 u2 H locs hp hZ => ?_)
  obtain ⟨rfl, rfl⟩ := hp
  have hZ : zz_Z g A s.heap [cw_i g a_kindOf 60 kdf, cw_i g a_depthOf 60 dpf, cw_i g a_lengthOf 60 lnf, cw_i g a_baseOf 60 saf, cw_l g a_bits 4000 btf, cw_z g a_alike 3600 alf, cw_k7 h0 (nI na) (nI ne) a_kindOf a_depthOf a_lengthOf a_classOf a_baseOf a_bits a_pinned i_code a_lengths a_stackArray a_stackOther a_stackAt i_lastArray i_lastPlace a_path a_held a_alike a_hashes (nI nd) a_decisionArray a_decisionPlace a_candidateMany a_candidates (nI nr) a_ruleSort a_ruleArray a_ruleWeight a_ruleLow a_ruleHigh a_chosen a_bestOf (nI nm) a_markElements a_markBits a_markPins] H locs := hZ
  refine lv_if_eq (tgt := 16) hx hb dX8_same_5 (by decide) (fun c3 => ?_) (fun c3 => ?_)
  · refine lv_aload_n hx hb dX8_same_16 rfl (lv_at hl 0 rfl) ?_
    refine lv_iconst (v := 5) hx hb dX8_same_17 (by decide) ?_
    refine zz_iV (As := [.int 5]) (wc := [cw_k7 h0 (nI na) (nI ne) a_kindOf a_depthOf a_lengthOf a_classOf a_baseOf a_bits a_pinned i_code a_lengths a_stackArray a_stackOther a_stackAt i_lastArray i_lastPlace a_path a_held a_alike a_hashes (nI nd) a_decisionArray a_decisionPlace a_candidateMany a_candidates (nI nr) a_ruleSort a_ruleArray a_ruleWeight a_ruleLow a_ruleHigh a_chosen a_bestOf (nI nm) a_markElements a_markBits a_markPins]) (wr := [cw_i g a_kindOf 60 kdf, cw_i g a_depthOf 60 dpf, cw_i g a_lengthOf 60 lnf, cw_i g a_baseOf 60 saf, cw_l g a_bits 4000 btf, cw_z g a_alike 3600 alf]) (rest := []) hC hZ hs hl zc_X8_175 (cm_fails g h0 a_kindOf a_depthOf a_lengthOf a_classOf a_baseOf a_bits a_pinned a_lengths a_stackArray a_stackOther a_stackAt a_path a_held a_alike a_hashes a_decisionArray a_decisionPlace a_candidateMany a_candidates a_ruleSort a_ruleArray a_ruleWeight a_ruleLow a_ruleHigh a_chosen a_bestOf a_markElements a_markBits a_markPins (nI na) (nI ne) i_code i_lastArray i_lastPlace (nI nd) (nI nr) (nI nm) 5) [6] [0, 1, 2, 3, 4, 5] rfl rfl (by decide +kernel) (ci := 7) (q0 := 0) rfl rfl rfl rfl (Nat.le_of_ble_eq_true rfl) ⟨⟨Nat.le_of_ble_eq_true rfl, Nat.le_of_ble_eq_true rfl⟩, Nat.le_of_ble_eq_true rfl, Nat.le_of_ble_eq_true rfl⟩ dX8_same_18 (fun r4 u5 H locs hp hZ => ?_)
    obtain ⟨rfl, rfl⟩ := hp
    have hZ : zz_Z g A s.heap [cw_i g a_kindOf 60 kdf, cw_i g a_depthOf 60 dpf, cw_i g a_lengthOf 60 lnf, cw_i g a_baseOf 60 saf, cw_l g a_bits 4000 btf, cw_z g a_alike 3600 alf, cw_k7 h0 (nI na) (nI ne) a_kindOf a_depthOf a_lengthOf a_classOf a_baseOf a_bits a_pinned 5 a_lengths a_stackArray a_stackOther a_stackAt i_lastArray i_lastPlace a_path a_held a_alike a_hashes (nI nd) a_decisionArray a_decisionPlace a_candidateMany a_candidates (nI nr) a_ruleSort a_ruleArray a_ruleWeight a_ruleLow a_ruleHigh a_chosen a_bestOf (nI nm) a_markElements a_markBits a_markPins] H locs := hZ
    have hZ : zz_Z g A s.heap [cw_k7 h0 (nI na) (nI ne) a_kindOf a_depthOf a_lengthOf a_classOf a_baseOf a_bits a_pinned 5 a_lengths a_stackArray a_stackOther a_stackAt i_lastArray i_lastPlace a_path a_held a_alike a_hashes (nI nd) a_decisionArray a_decisionPlace a_candidateMany a_candidates (nI nr) a_ruleSort a_ruleArray a_ruleWeight a_ruleLow a_ruleHigh a_chosen a_bestOf (nI nm) a_markElements a_markBits a_markPins, cw_i g a_kindOf 60 kdf, cw_i g a_depthOf 60 dpf, cw_i g a_lengthOf 60 lnf, cw_i g a_baseOf 60 saf, cw_l g a_bits 4000 btf, cw_z g a_alike 3600 alf] H locs := hZ.sub [6, 0, 1, 2, 3, 4, 5] (by decide +kernel) rfl
    exact zz_iret hC hZ (⟨5, i_lastArray, i_lastPlace, alf, rfl⟩) (Nat.le_of_ble_eq_true rfl) (Nat.le_of_ble_eq_true rfl) dX8_same_21
  · obtain ⟨a1, ha1, ea1⟩ := zl_isA (by omega) c3
    have hl : lv_has ls 6 [(0, .ref h0), (1, .int (nI a1)), (2, .int x2)] := by rw [← ea1]; exact hl
    obtain ⟨sz1, lz1, dz1, es1, el1, ed1, g11, g21, g31, g41⟩ := h_S.2.2 a1 ha1
    refine lv_aload_n hx hb dX8_same_8 rfl (lv_at hl 0 rfl) ?_
    refine lv_iload_n hx hb dX8_same_9 rfl (lv_at hl 2 rfl) ?_
    refine zz_iV (As := [.int x2]) (wc := [cw_k7 h0 (nI na) (nI ne) a_kindOf a_depthOf a_lengthOf a_classOf a_baseOf a_bits a_pinned i_code a_lengths a_stackArray a_stackOther a_stackAt i_lastArray i_lastPlace a_path a_held a_alike a_hashes (nI nd) a_decisionArray a_decisionPlace a_candidateMany a_candidates (nI nr) a_ruleSort a_ruleArray a_ruleWeight a_ruleLow a_ruleHigh a_chosen a_bestOf (nI nm) a_markElements a_markBits a_markPins]) (wr := [cw_i g a_kindOf 60 kdf, cw_i g a_depthOf 60 dpf, cw_i g a_lengthOf 60 lnf, cw_i g a_baseOf 60 saf, cw_l g a_bits 4000 btf, cw_z g a_alike 3600 alf]) (rest := []) hC hZ hs hl zc_X8_200 (cm_isArray g h0 a_kindOf a_depthOf a_lengthOf a_classOf a_baseOf a_bits a_pinned a_lengths a_stackArray a_stackOther a_stackAt a_path a_held a_alike a_hashes a_decisionArray a_decisionPlace a_candidateMany a_candidates a_ruleSort a_ruleArray a_ruleWeight a_ruleLow a_ruleHigh a_chosen a_bestOf a_markElements a_markBits a_markPins (nI na) (nI ne) i_code i_lastArray i_lastPlace (nI nd) (nI nr) (nI nm) x2) [6] [0, 1, 2, 3, 4, 5] rfl rfl (by decide +kernel) (ci := 7) (q0 := 0) rfl rfl rfl rfl (Nat.le_of_ble_eq_true rfl) ⟨⟨Nat.le_of_ble_eq_true rfl, Nat.le_of_ble_eq_true rfl⟩, Nat.le_of_ble_eq_true rfl, Nat.le_of_ble_eq_true rfl⟩ dX8_same_10 (fun r6 u7 H locs hp hZ => ?_)
    obtain ⟨rfl, rfl⟩ := hp
    have hZ : zz_Z g A s.heap [cw_i g a_kindOf 60 kdf, cw_i g a_depthOf 60 dpf, cw_i g a_lengthOf 60 lnf, cw_i g a_baseOf 60 saf, cw_l g a_bits 4000 btf, cw_z g a_alike 3600 alf, cw_k7 h0 (nI na) (nI ne) a_kindOf a_depthOf a_lengthOf a_classOf a_baseOf a_bits a_pinned i_code a_lengths a_stackArray a_stackOther a_stackAt i_lastArray i_lastPlace a_path a_held a_alike a_hashes (nI nd) a_decisionArray a_decisionPlace a_candidateMany a_candidates (nI nr) a_ruleSort a_ruleArray a_ruleWeight a_ruleLow a_ruleHigh a_chosen a_bestOf (nI nm) a_markElements a_markBits a_markPins] H locs := hZ
    refine lv_if_ne (tgt := 22) hx hb dX8_same_13 (by decide) (fun c8 => ?_) (fun c8 => ?_)
    · obtain ⟨a2, ha2, ea2⟩ := zl_isA (by omega) c8
      have hl : lv_has ls 6 [(0, .ref h0), (1, .int (nI a1)), (2, .int (nI a2))] := by rw [← ea2]; exact hl
      obtain ⟨sz2, lz2, dz2, es2, el2, ed2, g12, g22, g32, g42⟩ := h_S.2.2 a2 ha2
      refine lv_iconst (v := 1) hx hb dX8_same_22 (by decide) ?_
      refine lv_istore_n (lv' := [(3, .int 1), (0, .ref h0), (1, .int (nI a1)), (2, .int (nI a2))]) hx hb dX8_same_23 rfl hl (by decide) rfl (fun ls hl => ?_)
      have LP9 : ∀ (N9 : Nat) (i1 : Nat) (al1 : Nat → Int32) (H : Heap) (locs : List Loc) (ls : Array Slot), (i1 ≤ 4) → (4 - i1) < N9 → zz_Z g A s.heap [cw_i g a_kindOf 60 kdf, cw_i g a_depthOf 60 dpf, cw_i g a_lengthOf 60 lnf, cw_i g a_baseOf 60 saf, cw_l g a_bits 4000 btf, cw_z g a_alike 3600 al1, cw_k7 h0 (nI na) (nI ne) a_kindOf a_depthOf a_lengthOf a_classOf a_baseOf a_bits a_pinned i_code a_lengths a_stackArray a_stackOther a_stackAt i_lastArray i_lastPlace a_path a_held a_alike a_hashes (nI nd) a_decisionArray a_decisionPlace a_candidateMany a_candidates (nI nr) a_ruleSort a_ruleArray a_ruleWeight a_ruleLow a_ruleHigh a_chosen a_bestOf (nI nm) a_markElements a_markBits a_markPins] H locs → lv_has ls 6 [(3, .int (nI i1)), (0, .ref h0), (1, .int (nI a1)), (2, .int (nI a2))] → W p l e rm_my_same s m args below meth c H locs 0 0 (zz_QI below g args s A rm_my_same.cells rm_my_same.slots (po_my_same g h0 a_kindOf a_depthOf a_lengthOf a_classOf a_baseOf a_bits a_pinned a_lengths a_stackArray a_stackOther a_stackAt a_path a_held a_alike a_hashes a_decisionArray a_decisionPlace a_candidateMany a_candidates a_ruleSort a_ruleArray a_ruleWeight a_ruleLow a_ruleHigh a_chosen a_bestOf a_markElements a_markBits a_markPins na ne nd nr nm i_code i_lastArray i_lastPlace kdf dpf lnf saf btf alf x1 x2 h_M)) (F0 m 24 ls []) := by
        intro N9
        induction N9 with
        | zero =>
          intro i1 al1 H locs ls h1 hN9
          exact absurd hN9 (Nat.not_lt_zero _)
        | succ N9 ih9 =>
          intro i1 al1 H locs ls h1 hN9 hZ hl
          refine lv_iload_n hx hb dX8_same_24 rfl (lv_at hl 0 rfl) ?_
          refine lv_aload_n hx hb dX8_same_25 rfl (lv_at hl 1 rfl) ?_
          refine zz_get hC hZ 6 rfl zf_X8_13 rfl dX8_same_26 ?_
          refine lv_iload_n hx hb dX8_same_29 rfl (lv_at hl 2 rfl) ?_
          refine zz_iald hC hZ 1 rfl (vp_in_nI (by omega) (by decide)) dX8_same_30 ?_
          rw [nI_clamp (n := a1) (by omega)]
          refine zz_topi (v := nI dz1) (ed1) ?_
          refine lv_icmp_ge (tgt := 127) hx hb dX8_same_31 (by decide) (fun c10 => ?_) (fun c10 => ?_)
          · have nc10 : dz1 ≤ i1 := (nI_leI (by omega) (by omega)).mp (show nI (dz1) ≤ nI (i1) from c10)
            refine lv_aload_n hx hb dX8_same_127 rfl (lv_at hl 1 rfl) ?_
            refine lv_aload_n hx hb dX8_same_128 rfl (lv_at hl 1 rfl) ?_
            refine lv_iload_n hx hb dX8_same_129 rfl (lv_at hl 2 rfl) ?_
            refine lv_iload_n hx hb dX8_same_130 rfl (lv_at hl 3 rfl) ?_
            refine zz_iV (As := [.int (nI a1), .int (nI a2)]) (wc := [cw_k7 h0 (nI na) (nI ne) a_kindOf a_depthOf a_lengthOf a_classOf a_baseOf a_bits a_pinned i_code a_lengths a_stackArray a_stackOther a_stackAt i_lastArray i_lastPlace a_path a_held a_alike a_hashes (nI nd) a_decisionArray a_decisionPlace a_candidateMany a_candidates (nI nr) a_ruleSort a_ruleArray a_ruleWeight a_ruleLow a_ruleHigh a_chosen a_bestOf (nI nm) a_markElements a_markBits a_markPins, cw_i g a_kindOf 60 kdf, cw_i g a_depthOf 60 dpf, cw_i g a_lengthOf 60 lnf, cw_i g a_baseOf 60 saf, cw_l g a_bits 4000 btf, cw_z g a_alike 3600 al1]) (wr := []) (rest := [.ref h0]) hC hZ hs hl zc_X8_242 (cm_isSame g h0 a_kindOf a_depthOf a_lengthOf a_classOf a_baseOf a_bits a_pinned a_lengths a_stackArray a_stackOther a_stackAt a_path a_held a_alike a_hashes a_decisionArray a_decisionPlace a_candidateMany a_candidates a_ruleSort a_ruleArray a_ruleWeight a_ruleLow a_ruleHigh a_chosen a_bestOf a_markElements a_markBits a_markPins na ne nd nr nm i_code i_lastArray i_lastPlace kdf dpf lnf saf btf al1 a1 a2 (h_M) (by omega)) [6, 0, 1, 2, 3, 4, 5] [] rfl rfl (by decide +kernel) (ci := 7) (q0 := 0) rfl rfl rfl rfl (Nat.le_of_ble_eq_true rfl) ⟨⟨Nat.le_of_ble_eq_true rfl, Nat.le_of_ble_eq_true rfl⟩, Nat.le_of_ble_eq_true rfl, Nat.le_of_ble_eq_true rfl⟩ dX8_same_131 (fun r11 u12 H locs hp hZ => ?_)
            obtain ⟨f13, rfl⟩ := hp
            have hZ : zz_Z g A s.heap [cw_k7 h0 (nI na) (nI ne) a_kindOf a_depthOf a_lengthOf a_classOf a_baseOf a_bits a_pinned i_code a_lengths a_stackArray a_stackOther a_stackAt i_lastArray i_lastPlace a_path a_held a_alike a_hashes (nI nd) a_decisionArray a_decisionPlace a_candidateMany a_candidates (nI nr) a_ruleSort a_ruleArray a_ruleWeight a_ruleLow a_ruleHigh a_chosen a_bestOf (nI nm) a_markElements a_markBits a_markPins, cw_i g a_kindOf 60 kdf, cw_i g a_depthOf 60 dpf, cw_i g a_lengthOf 60 lnf, cw_i g a_baseOf 60 saf, cw_l g a_bits 4000 btf, cw_z g a_alike 3600 al1] H locs := hZ
            refine lv_if_eq (tgt := 141) hx hb dX8_same_134 (by decide) (fun c14 => ?_) (fun c14 => ?_)
            · refine lv_iconst (v := 0) hx hb dX8_same_141 (by decide) ?_
              refine zz_iV (As := [.int 0]) (wc := [cw_k7 h0 (nI na) (nI ne) a_kindOf a_depthOf a_lengthOf a_classOf a_baseOf a_bits a_pinned i_code a_lengths a_stackArray a_stackOther a_stackAt i_lastArray i_lastPlace a_path a_held a_alike a_hashes (nI nd) a_decisionArray a_decisionPlace a_candidateMany a_candidates (nI nr) a_ruleSort a_ruleArray a_ruleWeight a_ruleLow a_ruleHigh a_chosen a_bestOf (nI nm) a_markElements a_markBits a_markPins]) (wr := [cw_i g a_kindOf 60 kdf, cw_i g a_depthOf 60 dpf, cw_i g a_lengthOf 60 lnf, cw_i g a_baseOf 60 saf, cw_l g a_bits 4000 btf, cw_z g a_alike 3600 al1]) (rest := []) hC hZ hs hl zc_X8_183 (cm_fine g h0 a_kindOf a_depthOf a_lengthOf a_classOf a_baseOf a_bits a_pinned a_lengths a_stackArray a_stackOther a_stackAt a_path a_held a_alike a_hashes a_decisionArray a_decisionPlace a_candidateMany a_candidates a_ruleSort a_ruleArray a_ruleWeight a_ruleLow a_ruleHigh a_chosen a_bestOf a_markElements a_markBits a_markPins (nI na) (nI ne) i_code i_lastArray i_lastPlace (nI nd) (nI nr) (nI nm) 0) [0] [1, 2, 3, 4, 5, 6] rfl rfl (by decide +kernel) (ci := 7) (q0 := 0) rfl rfl rfl rfl (Nat.le_of_ble_eq_true rfl) ⟨⟨Nat.le_of_ble_eq_true rfl, Nat.le_of_ble_eq_true rfl⟩, Nat.le_of_ble_eq_true rfl, Nat.le_of_ble_eq_true rfl⟩ dX8_same_142 (fun r15 u16 H locs hp hZ => ?_)
              obtain ⟨rfl, rfl⟩ := hp
              have hZ : zz_Z g A s.heap [cw_i g a_kindOf 60 kdf, cw_i g a_depthOf 60 dpf, cw_i g a_lengthOf 60 lnf, cw_i g a_baseOf 60 saf, cw_l g a_bits 4000 btf, cw_z g a_alike 3600 al1, cw_k7 h0 (nI na) (nI ne) a_kindOf a_depthOf a_lengthOf a_classOf a_baseOf a_bits a_pinned 0 a_lengths a_stackArray a_stackOther a_stackAt i_lastArray i_lastPlace a_path a_held a_alike a_hashes (nI nd) a_decisionArray a_decisionPlace a_candidateMany a_candidates (nI nr) a_ruleSort a_ruleArray a_ruleWeight a_ruleLow a_ruleHigh a_chosen a_bestOf (nI nm) a_markElements a_markBits a_markPins] H locs := hZ
              have hZ : zz_Z g A s.heap [cw_k7 h0 (nI na) (nI ne) a_kindOf a_depthOf a_lengthOf a_classOf a_baseOf a_bits a_pinned 0 a_lengths a_stackArray a_stackOther a_stackAt i_lastArray i_lastPlace a_path a_held a_alike a_hashes (nI nd) a_decisionArray a_decisionPlace a_candidateMany a_candidates (nI nr) a_ruleSort a_ruleArray a_ruleWeight a_ruleLow a_ruleHigh a_chosen a_bestOf (nI nm) a_markElements a_markBits a_markPins, cw_i g a_kindOf 60 kdf, cw_i g a_depthOf 60 dpf, cw_i g a_lengthOf 60 lnf, cw_i g a_baseOf 60 saf, cw_l g a_bits 4000 btf, cw_z g a_alike 3600 al1] H locs := hZ.sub [6, 0, 1, 2, 3, 4, 5] (by decide +kernel) rfl
              exact zz_iret hC hZ (⟨0, i_lastArray, i_lastPlace, al1, rfl⟩) (Nat.le_of_ble_eq_true rfl) (Nat.le_of_ble_eq_true rfl) dX8_same_145
            · refine lv_iconst (v := 1) hx hb dX8_same_137 (by decide) ?_
              refine lv_goto (tgt := 142) hx hb dX8_same_138 (by decide) ?_
              refine zz_iV (As := [.int 1]) (wc := [cw_k7 h0 (nI na) (nI ne) a_kindOf a_depthOf a_lengthOf a_classOf a_baseOf a_bits a_pinned i_code a_lengths a_stackArray a_stackOther a_stackAt i_lastArray i_lastPlace a_path a_held a_alike a_hashes (nI nd) a_decisionArray a_decisionPlace a_candidateMany a_candidates (nI nr) a_ruleSort a_ruleArray a_ruleWeight a_ruleLow a_ruleHigh a_chosen a_bestOf (nI nm) a_markElements a_markBits a_markPins]) (wr := [cw_i g a_kindOf 60 kdf, cw_i g a_depthOf 60 dpf, cw_i g a_lengthOf 60 lnf, cw_i g a_baseOf 60 saf, cw_l g a_bits 4000 btf, cw_z g a_alike 3600 al1]) (rest := []) hC hZ hs hl zc_X8_183 (cm_fine g h0 a_kindOf a_depthOf a_lengthOf a_classOf a_baseOf a_bits a_pinned a_lengths a_stackArray a_stackOther a_stackAt a_path a_held a_alike a_hashes a_decisionArray a_decisionPlace a_candidateMany a_candidates a_ruleSort a_ruleArray a_ruleWeight a_ruleLow a_ruleHigh a_chosen a_bestOf a_markElements a_markBits a_markPins (nI na) (nI ne) i_code i_lastArray i_lastPlace (nI nd) (nI nr) (nI nm) 1) [0] [1, 2, 3, 4, 5, 6] rfl rfl (by decide +kernel) (ci := 7) (q0 := 0) rfl rfl rfl rfl (Nat.le_of_ble_eq_true rfl) ⟨⟨Nat.le_of_ble_eq_true rfl, Nat.le_of_ble_eq_true rfl⟩, Nat.le_of_ble_eq_true rfl, Nat.le_of_ble_eq_true rfl⟩ dX8_same_142 (fun r17 u18 H locs hp hZ => ?_)
              obtain ⟨rfl, rfl⟩ := hp
              have hZ : zz_Z g A s.heap [cw_i g a_kindOf 60 kdf, cw_i g a_depthOf 60 dpf, cw_i g a_lengthOf 60 lnf, cw_i g a_baseOf 60 saf, cw_l g a_bits 4000 btf, cw_z g a_alike 3600 al1, cw_k7 h0 (nI na) (nI ne) a_kindOf a_depthOf a_lengthOf a_classOf a_baseOf a_bits a_pinned 0 a_lengths a_stackArray a_stackOther a_stackAt i_lastArray i_lastPlace a_path a_held a_alike a_hashes (nI nd) a_decisionArray a_decisionPlace a_candidateMany a_candidates (nI nr) a_ruleSort a_ruleArray a_ruleWeight a_ruleLow a_ruleHigh a_chosen a_bestOf (nI nm) a_markElements a_markBits a_markPins] H locs := hZ
              have hZ : zz_Z g A s.heap [cw_k7 h0 (nI na) (nI ne) a_kindOf a_depthOf a_lengthOf a_classOf a_baseOf a_bits a_pinned 0 a_lengths a_stackArray a_stackOther a_stackAt i_lastArray i_lastPlace a_path a_held a_alike a_hashes (nI nd) a_decisionArray a_decisionPlace a_candidateMany a_candidates (nI nr) a_ruleSort a_ruleArray a_ruleWeight a_ruleLow a_ruleHigh a_chosen a_bestOf (nI nm) a_markElements a_markBits a_markPins, cw_i g a_kindOf 60 kdf, cw_i g a_depthOf 60 dpf, cw_i g a_lengthOf 60 lnf, cw_i g a_baseOf 60 saf, cw_l g a_bits 4000 btf, cw_z g a_alike 3600 al1] H locs := hZ.sub [6, 0, 1, 2, 3, 4, 5] (by decide +kernel) rfl
              exact zz_iret hC hZ (⟨0, i_lastArray, i_lastPlace, al1, rfl⟩) (Nat.le_of_ble_eq_true rfl) (Nat.le_of_ble_eq_true rfl) dX8_same_145
          · have nc10 : ¬ dz1 ≤ i1 := fun zq => c10 (show nI (dz1) ≤ nI (i1) from (nI_leI (by omega) (by omega)).mpr zq)
            refine lv_iconst (v := 0) hx hb dX8_same_34 (by decide) ?_
            refine lv_istore (lv' := [(4, .int 0), (3, .int (nI i1)), (0, .ref h0), (1, .int (nI a1)), (2, .int (nI a2))]) hx hb dX8_same_35 hl (by decide) rfl (fun ls hl => ?_)
            have LP19 : ∀ (N19 : Nat) (i2 : Nat) (al2 : Nat → Int32) (H : Heap) (locs : List Loc) (ls : Array Slot), (i2 ≤ na) → (na - i2) < N19 → zz_Z g A s.heap [cw_i g a_kindOf 60 kdf, cw_i g a_depthOf 60 dpf, cw_i g a_lengthOf 60 lnf, cw_i g a_baseOf 60 saf, cw_l g a_bits 4000 btf, cw_z g a_alike 3600 al2, cw_k7 h0 (nI na) (nI ne) a_kindOf a_depthOf a_lengthOf a_classOf a_baseOf a_bits a_pinned i_code a_lengths a_stackArray a_stackOther a_stackAt i_lastArray i_lastPlace a_path a_held a_alike a_hashes (nI nd) a_decisionArray a_decisionPlace a_candidateMany a_candidates (nI nr) a_ruleSort a_ruleArray a_ruleWeight a_ruleLow a_ruleHigh a_chosen a_bestOf (nI nm) a_markElements a_markBits a_markPins] H locs → lv_has ls 6 [(4, .int (nI i2)), (3, .int (nI i1)), (0, .ref h0), (1, .int (nI a1)), (2, .int (nI a2))] → W p l e rm_my_same s m args below meth c H locs 0 0 (zz_QI below g args s A rm_my_same.cells rm_my_same.slots (po_my_same g h0 a_kindOf a_depthOf a_lengthOf a_classOf a_baseOf a_bits a_pinned a_lengths a_stackArray a_stackOther a_stackAt a_path a_held a_alike a_hashes a_decisionArray a_decisionPlace a_candidateMany a_candidates a_ruleSort a_ruleArray a_ruleWeight a_ruleLow a_ruleHigh a_chosen a_bestOf a_markElements a_markBits a_markPins na ne nd nr nm i_code i_lastArray i_lastPlace kdf dpf lnf saf btf alf x1 x2 h_M)) (F0 m 37 ls []) := by
              intro N19
              induction N19 with
              | zero =>
                intro i2 al2 H locs ls h2 hN19
                exact absurd hN19 (Nat.not_lt_zero _)
              | succ N19 ih19 =>
                intro i2 al2 H locs ls h2 hN19 hZ hl
                refine lv_iload hx hb dX8_same_37 (lv_at hl 0 rfl) ?_
                refine lv_aload_n hx hb dX8_same_39 rfl (lv_at hl 2 rfl) ?_
                refine zz_get hC hZ 6 rfl zf_X8_103 rfl dX8_same_40 ?_
                refine lv_icmp_ge (tgt := 121) hx hb dX8_same_43 (by decide) (fun c20 => ?_) (fun c20 => ?_)
                · have nc20 : na ≤ i2 := (nI_leI (by omega) (by omega)).mp (show nI (na) ≤ nI (i2) from c20)
                  refine lv_iinc (v := nI (i1 + 1)) (lv' := [(3, .int (nI (i1 + 1))), (4, .int (nI i2)), (0, .ref h0), (1, .int (nI a1)), (2, .int (nI a2))]) hx hb dX8_same_121 hl (k := 1) rfl (nI_1 _) (by decide) rfl (fun ls hl => ?_)
                  refine lv_goto (tgt := 24) hx hb dX8_same_124 (by decide) ?_
                  exact ih9 (i1 + 1) al2 H locs ls (by omega) (by omega) hZ (lv_sub hl [0, 2, 3, 4] rfl)
                · have nc20 : ¬ na ≤ i2 := fun zq => c20 (show nI (na) ≤ nI (i2) from (nI_leI (by omega) (by omega)).mpr zq)
                  refine lv_iconst (v := 0) hx hb dX8_same_46 (by decide) ?_
                  refine lv_istore (lv' := [(5, .int 0), (4, .int (nI i2)), (3, .int (nI i1)), (0, .ref h0), (1, .int (nI a1)), (2, .int (nI a2))]) hx hb dX8_same_47 hl (by decide) rfl (fun ls hl => ?_)
                  have LP21 : ∀ (N21 : Nat) (i3 : Nat) (al3 : Nat → Int32) (H : Heap) (locs : List Loc) (ls : Array Slot), (i3 ≤ na) → (na - i3) < N21 → zz_Z g A s.heap [cw_i g a_kindOf 60 kdf, cw_i g a_depthOf 60 dpf, cw_i g a_lengthOf 60 lnf, cw_i g a_baseOf 60 saf, cw_l g a_bits 4000 btf, cw_z g a_alike 3600 al3, cw_k7 h0 (nI na) (nI ne) a_kindOf a_depthOf a_lengthOf a_classOf a_baseOf a_bits a_pinned i_code a_lengths a_stackArray a_stackOther a_stackAt i_lastArray i_lastPlace a_path a_held a_alike a_hashes (nI nd) a_decisionArray a_decisionPlace a_candidateMany a_candidates (nI nr) a_ruleSort a_ruleArray a_ruleWeight a_ruleLow a_ruleHigh a_chosen a_bestOf (nI nm) a_markElements a_markBits a_markPins] H locs → lv_has ls 6 [(5, .int (nI i3)), (4, .int (nI i2)), (3, .int (nI i1)), (0, .ref h0), (1, .int (nI a1)), (2, .int (nI a2))] → W p l e rm_my_same s m args below meth c H locs 0 0 (zz_QI below g args s A rm_my_same.cells rm_my_same.slots (po_my_same g h0 a_kindOf a_depthOf a_lengthOf a_classOf a_baseOf a_bits a_pinned a_lengths a_stackArray a_stackOther a_stackAt a_path a_held a_alike a_hashes a_decisionArray a_decisionPlace a_candidateMany a_candidates a_ruleSort a_ruleArray a_ruleWeight a_ruleLow a_ruleHigh a_chosen a_bestOf a_markElements a_markBits a_markPins na ne nd nr nm i_code i_lastArray i_lastPlace kdf dpf lnf saf btf alf x1 x2 h_M)) (F0 m 49 ls []) := by
                    intro N21
                    induction N21 with
                    | zero =>
                      intro i3 al3 H locs ls h3 hN21
                      exact absurd hN21 (Nat.not_lt_zero _)
                    | succ N21 ih21 =>
                      intro i3 al3 H locs ls h3 hN21 hZ hl
                      refine lv_iload hx hb dX8_same_49 (lv_at hl 0 rfl) ?_
                      refine lv_aload_n hx hb dX8_same_51 rfl (lv_at hl 3 rfl) ?_
                      refine zz_get hC hZ 6 rfl zf_X8_103 rfl dX8_same_52 ?_
                      refine lv_icmp_ge (tgt := 115) hx hb dX8_same_55 (by decide) (fun c22 => ?_) (fun c22 => ?_)
                      · have nc22 : na ≤ i3 := (nI_leI (by omega) (by omega)).mp (show nI (na) ≤ nI (i3) from c22)
                        refine lv_iinc (v := nI (i2 + 1)) (lv' := [(4, .int (nI (i2 + 1))), (5, .int (nI i3)), (3, .int (nI i1)), (0, .ref h0), (1, .int (nI a1)), (2, .int (nI a2))]) hx hb dX8_same_115 hl (k := 1) rfl (nI_1 _) (by decide) rfl (fun ls hl => ?_)
                        refine lv_goto (tgt := 37) hx hb dX8_same_118 (by decide) ?_
                        exact ih19 (i2 + 1) al3 H locs ls (by omega) (by omega) hZ (lv_sub hl [0, 2, 3, 4, 5] rfl)
                      · have nc22 : ¬ na ≤ i3 := fun zq => c22 (show nI (na) ≤ nI (i3) from (nI_leI (by omega) (by omega)).mpr zq)
                        refine lv_aload_n hx hb dX8_same_58 rfl (lv_at hl 3 rfl) ?_
                        refine zz_get hC hZ 6 rfl zf_X8_13 rfl dX8_same_59 ?_
                        refine lv_iload hx hb dX8_same_62 (lv_at hl 1 rfl) ?_
                        refine zz_iald hC hZ 1 rfl (vp_in_nI (by omega) (by decide)) dX8_same_64 ?_
                        rw [nI_clamp (n := i2) (by omega)]
                        refine lv_iload_n hx hb dX8_same_65 rfl (lv_at hl 2 rfl) ?_
                        refine lv_icmp_ne (tgt := 115) hx hb dX8_same_66 (by decide) (fun c23 => ?_) (fun c23 => ?_)
                        · refine lv_iinc (v := nI (i2 + 1)) (lv' := [(4, .int (nI (i2 + 1))), (5, .int (nI i3)), (3, .int (nI i1)), (0, .ref h0), (1, .int (nI a1)), (2, .int (nI a2))]) hx hb dX8_same_115 hl (k := 1) rfl (nI_1 _) (by decide) rfl (fun ls hl => ?_)
                          refine lv_goto (tgt := 37) hx hb dX8_same_118 (by decide) ?_
                          exact ih19 (i2 + 1) al3 H locs ls (by omega) (by omega) hZ (lv_sub hl [0, 2, 3, 4, 5] rfl)
                        · refine lv_aload_n hx hb dX8_same_69 rfl (lv_at hl 3 rfl) ?_
                          refine zz_get hC hZ 6 rfl zf_X8_51 rfl dX8_same_70 ?_
                          refine lv_bipush (v := 60) hx hb dX8_same_73 (by decide) ?_
                          refine lv_iload hx hb dX8_same_75 (lv_at hl 1 rfl) ?_
                          refine lv_imul hx hb dX8_same_77 ?_
                          refine zz_topi (v := nI (60 * i2)) (pk_mul 60 _) ?_
                          refine lv_iload hx hb dX8_same_78 (lv_at hl 0 rfl) ?_
                          refine lv_iadd hx hb dX8_same_80 ?_
                          refine zz_topi (v := nI ((60 * i2) + i3)) (nI_add _ _) ?_
                          refine lv_aload_n hx hb dX8_same_81 rfl (lv_at hl 3 rfl) ?_
                          refine zz_get hC hZ 6 rfl zf_X8_13 rfl dX8_same_82 ?_
                          refine lv_iload hx hb dX8_same_85 (lv_at hl 0 rfl) ?_
                          refine zz_iald hC hZ 1 rfl (vp_in_nI (by omega) (by decide)) dX8_same_87 ?_
                          rw [nI_clamp (n := i3) (by omega)]
                          refine lv_iload_n hx hb dX8_same_88 rfl (lv_at hl 2 rfl) ?_
                          refine lv_icmp_ne (tgt := 107) hx hb dX8_same_89 (by decide) (fun c24 => ?_) (fun c24 => ?_)
                          · refine lv_iconst (v := 0) hx hb dX8_same_107 (by decide) ?_
                            refine zz_zast hC hZ 5 rfl (vp_in_nI (by omega) (by decide)) dX8_same_108 (fun H locs hZ => ?_)
                            rw [nI_clamp (n := ((60 * i2) + i3)) (by omega)] at hZ
                            have hZ : zz_Z g A s.heap [cw_i g a_kindOf 60 kdf, cw_i g a_depthOf 60 dpf, cw_i g a_lengthOf 60 lnf, cw_i g a_baseOf 60 saf, cw_l g a_bits 4000 btf, cw_z g a_alike 3600 (upd al3 ((60 * i2) + i3) (0 &&& 1)), cw_k7 h0 (nI na) (nI ne) a_kindOf a_depthOf a_lengthOf a_classOf a_baseOf a_bits a_pinned i_code a_lengths a_stackArray a_stackOther a_stackAt i_lastArray i_lastPlace a_path a_held a_alike a_hashes (nI nd) a_decisionArray a_decisionPlace a_candidateMany a_candidates (nI nr) a_ruleSort a_ruleArray a_ruleWeight a_ruleLow a_ruleHigh a_chosen a_bestOf (nI nm) a_markElements a_markBits a_markPins] H locs := hZ
                            refine lv_iinc (v := nI (i3 + 1)) (lv' := [(5, .int (nI (i3 + 1))), (4, .int (nI i2)), (3, .int (nI i1)), (0, .ref h0), (1, .int (nI a1)), (2, .int (nI a2))]) hx hb dX8_same_109 hl (k := 0) rfl (nI_1 _) (by decide) rfl (fun ls hl => ?_)
                            refine lv_goto (tgt := 49) hx hb dX8_same_112 (by decide) ?_
                            exact ih21 (i3 + 1) (upd al3 ((60 * i2) + i3) (0 &&& 1)) H locs ls (by omega) (by omega) hZ (lv_sub hl [0, 1, 2, 3, 4, 5] rfl)
                          · refine lv_aload_n hx hb dX8_same_92 rfl (lv_at hl 3 rfl) ?_
                            refine lv_iload hx hb dX8_same_93 (lv_at hl 1 rfl) ?_
                            refine lv_iload hx hb dX8_same_95 (lv_at hl 0 rfl) ?_
                            refine zz_iV (As := [.int (nI i2), .int (nI i3)]) (wc := [cw_k7 h0 (nI na) (nI ne) a_kindOf a_depthOf a_lengthOf a_classOf a_baseOf a_bits a_pinned i_code a_lengths a_stackArray a_stackOther a_stackAt i_lastArray i_lastPlace a_path a_held a_alike a_hashes (nI nd) a_decisionArray a_decisionPlace a_candidateMany a_candidates (nI nr) a_ruleSort a_ruleArray a_ruleWeight a_ruleLow a_ruleHigh a_chosen a_bestOf (nI nm) a_markElements a_markBits a_markPins, cw_i g a_kindOf 60 kdf, cw_i g a_depthOf 60 dpf, cw_i g a_lengthOf 60 lnf, cw_i g a_baseOf 60 saf, cw_l g a_bits 4000 btf, cw_z g a_alike 3600 al3]) (wr := []) (rest := [.int (nI ((60 * i2) + i3)), .ref a_alike]) hC hZ hs hl zc_X8_242 (cm_isSame g h0 a_kindOf a_depthOf a_lengthOf a_classOf a_baseOf a_bits a_pinned a_lengths a_stackArray a_stackOther a_stackAt a_path a_held a_alike a_hashes a_decisionArray a_decisionPlace a_candidateMany a_candidates a_ruleSort a_ruleArray a_ruleWeight a_ruleLow a_ruleHigh a_chosen a_bestOf a_markElements a_markBits a_markPins na ne nd nr nm i_code i_lastArray i_lastPlace kdf dpf lnf saf btf al3 i2 i3 (h_M) (by omega)) [6, 0, 1, 2, 3, 4, 5] [] rfl rfl (by decide +kernel) (ci := 7) (q0 := 0) rfl rfl rfl rfl (Nat.le_of_ble_eq_true rfl) ⟨⟨Nat.le_of_ble_eq_true rfl, Nat.le_of_ble_eq_true rfl⟩, Nat.le_of_ble_eq_true rfl, Nat.le_of_ble_eq_true rfl⟩ dX8_same_97 (fun r25 u26 H locs hp hZ => ?_)
                            obtain ⟨f27, rfl⟩ := hp
                            have hZ : zz_Z g A s.heap [cw_k7 h0 (nI na) (nI ne) a_kindOf a_depthOf a_lengthOf a_classOf a_baseOf a_bits a_pinned i_code a_lengths a_stackArray a_stackOther a_stackAt i_lastArray i_lastPlace a_path a_held a_alike a_hashes (nI nd) a_decisionArray a_decisionPlace a_candidateMany a_candidates (nI nr) a_ruleSort a_ruleArray a_ruleWeight a_ruleLow a_ruleHigh a_chosen a_bestOf (nI nm) a_markElements a_markBits a_markPins, cw_i g a_kindOf 60 kdf, cw_i g a_depthOf 60 dpf, cw_i g a_lengthOf 60 lnf, cw_i g a_baseOf 60 saf, cw_l g a_bits 4000 btf, cw_z g a_alike 3600 al3] H locs := hZ
                            refine lv_if_eq (tgt := 107) hx hb dX8_same_100 (by decide) (fun c28 => ?_) (fun c28 => ?_)
                            · refine lv_iconst (v := 0) hx hb dX8_same_107 (by decide) ?_
                              refine zz_zast hC hZ 6 rfl (vp_in_nI (by omega) (by decide)) dX8_same_108 (fun H locs hZ => ?_)
                              rw [nI_clamp (n := ((60 * i2) + i3)) (by omega)] at hZ
                              have hZ : zz_Z g A s.heap [cw_k7 h0 (nI na) (nI ne) a_kindOf a_depthOf a_lengthOf a_classOf a_baseOf a_bits a_pinned i_code a_lengths a_stackArray a_stackOther a_stackAt i_lastArray i_lastPlace a_path a_held a_alike a_hashes (nI nd) a_decisionArray a_decisionPlace a_candidateMany a_candidates (nI nr) a_ruleSort a_ruleArray a_ruleWeight a_ruleLow a_ruleHigh a_chosen a_bestOf (nI nm) a_markElements a_markBits a_markPins, cw_i g a_kindOf 60 kdf, cw_i g a_depthOf 60 dpf, cw_i g a_lengthOf 60 lnf, cw_i g a_baseOf 60 saf, cw_l g a_bits 4000 btf, cw_z g a_alike 3600 (upd al3 ((60 * i2) + i3) (0 &&& 1))] H locs := hZ
                              refine lv_iinc (v := nI (i3 + 1)) (lv' := [(5, .int (nI (i3 + 1))), (4, .int (nI i2)), (3, .int (nI i1)), (0, .ref h0), (1, .int (nI a1)), (2, .int (nI a2))]) hx hb dX8_same_109 hl (k := 0) rfl (nI_1 _) (by decide) rfl (fun ls hl => ?_)
                              refine lv_goto (tgt := 49) hx hb dX8_same_112 (by decide) ?_
                              exact ih21 (i3 + 1) (upd al3 ((60 * i2) + i3) (0 &&& 1)) H locs ls (by omega) (by omega) (hZ.sub [1, 2, 3, 4, 5, 6, 0] (by decide +kernel) rfl) (lv_sub hl [0, 1, 2, 3, 4, 5] rfl)
                            · refine lv_iconst (v := 1) hx hb dX8_same_103 (by decide) ?_
                              refine lv_goto (tgt := 108) hx hb dX8_same_104 (by decide) ?_
                              refine zz_zast hC hZ 6 rfl (vp_in_nI (by omega) (by decide)) dX8_same_108 (fun H locs hZ => ?_)
                              rw [nI_clamp (n := ((60 * i2) + i3)) (by omega)] at hZ
                              have hZ : zz_Z g A s.heap [cw_k7 h0 (nI na) (nI ne) a_kindOf a_depthOf a_lengthOf a_classOf a_baseOf a_bits a_pinned i_code a_lengths a_stackArray a_stackOther a_stackAt i_lastArray i_lastPlace a_path a_held a_alike a_hashes (nI nd) a_decisionArray a_decisionPlace a_candidateMany a_candidates (nI nr) a_ruleSort a_ruleArray a_ruleWeight a_ruleLow a_ruleHigh a_chosen a_bestOf (nI nm) a_markElements a_markBits a_markPins, cw_i g a_kindOf 60 kdf, cw_i g a_depthOf 60 dpf, cw_i g a_lengthOf 60 lnf, cw_i g a_baseOf 60 saf, cw_l g a_bits 4000 btf, cw_z g a_alike 3600 (upd al3 ((60 * i2) + i3) (1 &&& 1))] H locs := hZ
                              refine lv_iinc (v := nI (i3 + 1)) (lv' := [(5, .int (nI (i3 + 1))), (4, .int (nI i2)), (3, .int (nI i1)), (0, .ref h0), (1, .int (nI a1)), (2, .int (nI a2))]) hx hb dX8_same_109 hl (k := 0) rfl (nI_1 _) (by decide) rfl (fun ls hl => ?_)
                              refine lv_goto (tgt := 49) hx hb dX8_same_112 (by decide) ?_
                              exact ih21 (i3 + 1) (upd al3 ((60 * i2) + i3) (1 &&& 1)) H locs ls (by omega) (by omega) (hZ.sub [1, 2, 3, 4, 5, 6, 0] (by decide +kernel) rfl) (lv_sub hl [0, 1, 2, 3, 4, 5] rfl)
                  exact LP21 _ 0 al2 H locs ls (by omega) (Nat.lt_succ_self _) hZ (lv_sub hl [0, 1, 2, 3, 4, 5] rfl)
            exact LP19 _ 0 al1 H locs ls (by omega) (Nat.lt_succ_self _) hZ (lv_sub hl [0, 1, 2, 3, 4] rfl)
      exact LP9 _ 1 alf H locs ls (by omega) (Nat.lt_succ_self _) hZ (lv_sub hl [0, 1, 2, 3] rfl)
    · refine lv_aload_n hx hb dX8_same_16 rfl (lv_at hl 0 rfl) ?_
      refine lv_iconst (v := 5) hx hb dX8_same_17 (by decide) ?_
      refine zz_iV (As := [.int 5]) (wc := [cw_k7 h0 (nI na) (nI ne) a_kindOf a_depthOf a_lengthOf a_classOf a_baseOf a_bits a_pinned i_code a_lengths a_stackArray a_stackOther a_stackAt i_lastArray i_lastPlace a_path a_held a_alike a_hashes (nI nd) a_decisionArray a_decisionPlace a_candidateMany a_candidates (nI nr) a_ruleSort a_ruleArray a_ruleWeight a_ruleLow a_ruleHigh a_chosen a_bestOf (nI nm) a_markElements a_markBits a_markPins]) (wr := [cw_i g a_kindOf 60 kdf, cw_i g a_depthOf 60 dpf, cw_i g a_lengthOf 60 lnf, cw_i g a_baseOf 60 saf, cw_l g a_bits 4000 btf, cw_z g a_alike 3600 alf]) (rest := []) hC hZ hs hl zc_X8_175 (cm_fails g h0 a_kindOf a_depthOf a_lengthOf a_classOf a_baseOf a_bits a_pinned a_lengths a_stackArray a_stackOther a_stackAt a_path a_held a_alike a_hashes a_decisionArray a_decisionPlace a_candidateMany a_candidates a_ruleSort a_ruleArray a_ruleWeight a_ruleLow a_ruleHigh a_chosen a_bestOf a_markElements a_markBits a_markPins (nI na) (nI ne) i_code i_lastArray i_lastPlace (nI nd) (nI nr) (nI nm) 5) [6] [0, 1, 2, 3, 4, 5] rfl rfl (by decide +kernel) (ci := 7) (q0 := 0) rfl rfl rfl rfl (Nat.le_of_ble_eq_true rfl) ⟨⟨Nat.le_of_ble_eq_true rfl, Nat.le_of_ble_eq_true rfl⟩, Nat.le_of_ble_eq_true rfl, Nat.le_of_ble_eq_true rfl⟩ dX8_same_18 (fun r29 u30 H locs hp hZ => ?_)
      obtain ⟨rfl, rfl⟩ := hp
      have hZ : zz_Z g A s.heap [cw_i g a_kindOf 60 kdf, cw_i g a_depthOf 60 dpf, cw_i g a_lengthOf 60 lnf, cw_i g a_baseOf 60 saf, cw_l g a_bits 4000 btf, cw_z g a_alike 3600 alf, cw_k7 h0 (nI na) (nI ne) a_kindOf a_depthOf a_lengthOf a_classOf a_baseOf a_bits a_pinned 5 a_lengths a_stackArray a_stackOther a_stackAt i_lastArray i_lastPlace a_path a_held a_alike a_hashes (nI nd) a_decisionArray a_decisionPlace a_candidateMany a_candidates (nI nr) a_ruleSort a_ruleArray a_ruleWeight a_ruleLow a_ruleHigh a_chosen a_bestOf (nI nm) a_markElements a_markBits a_markPins] H locs := hZ
      have hZ : zz_Z g A s.heap [cw_k7 h0 (nI na) (nI ne) a_kindOf a_depthOf a_lengthOf a_classOf a_baseOf a_bits a_pinned 5 a_lengths a_stackArray a_stackOther a_stackAt i_lastArray i_lastPlace a_path a_held a_alike a_hashes (nI nd) a_decisionArray a_decisionPlace a_candidateMany a_candidates (nI nr) a_ruleSort a_ruleArray a_ruleWeight a_ruleLow a_ruleHigh a_chosen a_bestOf (nI nm) a_markElements a_markBits a_markPins, cw_i g a_kindOf 60 kdf, cw_i g a_depthOf 60 dpf, cw_i g a_lengthOf 60 lnf, cw_i g a_baseOf 60 saf, cw_l g a_bits 4000 btf, cw_z g a_alike 3600 alf] H locs := hZ.sub [6, 0, 1, 2, 3, 4, 5] (by decide +kernel) rfl
      exact zz_iret hC hZ (⟨5, i_lastArray, i_lastPlace, alf, rfl⟩) (Nat.le_of_ble_eq_true rfl) (Nat.le_of_ble_eq_true rfl) dX8_same_21
theorem dg_X8_hashOf_0 : (decode cX8_hashOf 0 = .ok (.iconst 1, 1)) ∧ (decode cX8_hashOf 1 = .ok (.istore_n 2, 1)) ∧ (decode cX8_hashOf 2 = .ok (.iconst 0, 1)) ∧ (decode cX8_hashOf 3 = .ok (.istore_n 3, 1)) ∧ (decode cX8_hashOf 4 = .ok (.iload_n 3, 1)) ∧ (decode cX8_hashOf 5 = .ok (.aload_n 0, 1)) ∧ (decode cX8_hashOf 6 = .ok (.getfield 16, 3)) ∧ (decode cX8_hashOf 9 = .ok (.iload_n 1, 1)) ∧ (decode cX8_hashOf 10 = .ok (.iaload, 1)) ∧ (decode cX8_hashOf 11 = .ok (.if_icmp .ge 130, 3)) ∧ (decode cX8_hashOf 14 = .ok (.aload_n 0, 1)) ∧ (decode cX8_hashOf 15 = .ok (.getfield 25, 3)) ∧ (decode cX8_hashOf 18 = .ok (.aload_n 0, 1)) ∧ (decode cX8_hashOf 19 = .ok (.getfield 22, 3)) ∧ (decode cX8_hashOf 22 = .ok (.iload_n 1, 1)) ∧ (decode cX8_hashOf 23 = .ok (.iaload, 1)) := by decide +kernel
theorem dX8_hashOf_0 : decode cX8_hashOf 0 = .ok (.iconst 1, 1) := dg_X8_hashOf_0.1
theorem dX8_hashOf_1 : decode cX8_hashOf 1 = .ok (.istore_n 2, 1) := dg_X8_hashOf_0.2.1
theorem dX8_hashOf_2 : decode cX8_hashOf 2 = .ok (.iconst 0, 1) := dg_X8_hashOf_0.2.2.1
theorem dX8_hashOf_3 : decode cX8_hashOf 3 = .ok (.istore_n 3, 1) := dg_X8_hashOf_0.2.2.2.1
theorem dX8_hashOf_4 : decode cX8_hashOf 4 = .ok (.iload_n 3, 1) := dg_X8_hashOf_0.2.2.2.2.1
theorem dX8_hashOf_5 : decode cX8_hashOf 5 = .ok (.aload_n 0, 1) := dg_X8_hashOf_0.2.2.2.2.2.1
theorem dX8_hashOf_6 : decode cX8_hashOf 6 = .ok (.getfield 16, 3) := dg_X8_hashOf_0.2.2.2.2.2.2.1
theorem dX8_hashOf_9 : decode cX8_hashOf 9 = .ok (.iload_n 1, 1) := dg_X8_hashOf_0.2.2.2.2.2.2.2.1
theorem dX8_hashOf_10 : decode cX8_hashOf 10 = .ok (.iaload, 1) := dg_X8_hashOf_0.2.2.2.2.2.2.2.2.1
theorem dX8_hashOf_11 : decode cX8_hashOf 11 = .ok (.if_icmp .ge 130, 3) := dg_X8_hashOf_0.2.2.2.2.2.2.2.2.2.1
theorem dX8_hashOf_14 : decode cX8_hashOf 14 = .ok (.aload_n 0, 1) := dg_X8_hashOf_0.2.2.2.2.2.2.2.2.2.2.1
theorem dX8_hashOf_15 : decode cX8_hashOf 15 = .ok (.getfield 25, 3) := dg_X8_hashOf_0.2.2.2.2.2.2.2.2.2.2.2.1
theorem dX8_hashOf_18 : decode cX8_hashOf 18 = .ok (.aload_n 0, 1) := dg_X8_hashOf_0.2.2.2.2.2.2.2.2.2.2.2.2.1
theorem dX8_hashOf_19 : decode cX8_hashOf 19 = .ok (.getfield 22, 3) := dg_X8_hashOf_0.2.2.2.2.2.2.2.2.2.2.2.2.2.1
theorem dX8_hashOf_22 : decode cX8_hashOf 22 = .ok (.iload_n 1, 1) := dg_X8_hashOf_0.2.2.2.2.2.2.2.2.2.2.2.2.2.2.1
theorem dX8_hashOf_23 : decode cX8_hashOf 23 = .ok (.iaload, 1) := dg_X8_hashOf_0.2.2.2.2.2.2.2.2.2.2.2.2.2.2.2
theorem dg_X8_hashOf_24 : (decode cX8_hashOf 24 = .ok (.iload_n 3, 1)) ∧ (decode cX8_hashOf 25 = .ok (.iadd, 1)) ∧ (decode cX8_hashOf 26 = .ok (.laload, 1)) ∧ (decode cX8_hashOf 27 = .ok (.lstore 4, 2)) ∧ (decode cX8_hashOf 29 = .ok (.aload_n 0, 1)) ∧ (decode cX8_hashOf 30 = .ok (.getfield 7, 3)) ∧ (decode cX8_hashOf 33 = .ok (.iload_n 1, 1)) ∧ (decode cX8_hashOf 34 = .ok (.iaload, 1)) ∧ (decode cX8_hashOf 35 = .ok (.istore 6, 2)) ∧ (decode cX8_hashOf 37 = .ok (.aload_n 0, 1)) ∧ (decode cX8_hashOf 38 = .ok (.getfield 13, 3)) ∧ (decode cX8_hashOf 41 = .ok (.iload_n 1, 1)) ∧ (decode cX8_hashOf 42 = .ok (.iaload, 1)) ∧ (decode cX8_hashOf 43 = .ok (.iconst 1, 1)) ∧ (decode cX8_hashOf 44 = .ok (.if_icmp .le 33, 3)) ∧ (decode cX8_hashOf 47 = .ok (.bipush 31, 2)) := by decide +kernel
theorem dX8_hashOf_24 : decode cX8_hashOf 24 = .ok (.iload_n 3, 1) := dg_X8_hashOf_24.1
theorem dX8_hashOf_25 : decode cX8_hashOf 25 = .ok (.iadd, 1) := dg_X8_hashOf_24.2.1
theorem dX8_hashOf_26 : decode cX8_hashOf 26 = .ok (.laload, 1) := dg_X8_hashOf_24.2.2.1
theorem dX8_hashOf_27 : decode cX8_hashOf 27 = .ok (.lstore 4, 2) := dg_X8_hashOf_24.2.2.2.1
theorem dX8_hashOf_29 : decode cX8_hashOf 29 = .ok (.aload_n 0, 1) := dg_X8_hashOf_24.2.2.2.2.1
theorem dX8_hashOf_30 : decode cX8_hashOf 30 = .ok (.getfield 7, 3) := dg_X8_hashOf_24.2.2.2.2.2.1
theorem dX8_hashOf_33 : decode cX8_hashOf 33 = .ok (.iload_n 1, 1) := dg_X8_hashOf_24.2.2.2.2.2.2.1
theorem dX8_hashOf_34 : decode cX8_hashOf 34 = .ok (.iaload, 1) := dg_X8_hashOf_24.2.2.2.2.2.2.2.1
theorem dX8_hashOf_35 : decode cX8_hashOf 35 = .ok (.istore 6, 2) := dg_X8_hashOf_24.2.2.2.2.2.2.2.2.1
theorem dX8_hashOf_37 : decode cX8_hashOf 37 = .ok (.aload_n 0, 1) := dg_X8_hashOf_24.2.2.2.2.2.2.2.2.2.1
theorem dX8_hashOf_38 : decode cX8_hashOf 38 = .ok (.getfield 13, 3) := dg_X8_hashOf_24.2.2.2.2.2.2.2.2.2.2.1
theorem dX8_hashOf_41 : decode cX8_hashOf 41 = .ok (.iload_n 1, 1) := dg_X8_hashOf_24.2.2.2.2.2.2.2.2.2.2.2.1
theorem dX8_hashOf_42 : decode cX8_hashOf 42 = .ok (.iaload, 1) := dg_X8_hashOf_24.2.2.2.2.2.2.2.2.2.2.2.2.1
theorem dX8_hashOf_43 : decode cX8_hashOf 43 = .ok (.iconst 1, 1) := dg_X8_hashOf_24.2.2.2.2.2.2.2.2.2.2.2.2.2.1
theorem dX8_hashOf_44 : decode cX8_hashOf 44 = .ok (.if_icmp .le 33, 3) := dg_X8_hashOf_24.2.2.2.2.2.2.2.2.2.2.2.2.2.2.1
theorem dX8_hashOf_47 : decode cX8_hashOf 47 = .ok (.bipush 31, 2) := dg_X8_hashOf_24.2.2.2.2.2.2.2.2.2.2.2.2.2.2.2
theorem dg_X8_hashOf_49 : (decode cX8_hashOf 49 = .ok (.iload_n 2, 1)) ∧ (decode cX8_hashOf 50 = .ok (.imul, 1)) ∧ (decode cX8_hashOf 51 = .ok (.lload 4, 2)) ∧ (decode cX8_hashOf 53 = .ok (.ldc2_w 171, 3)) ∧ (decode cX8_hashOf 56 = .ok (.lcmp, 1)) ∧ (decode cX8_hashOf 57 = .ok (.ifCond .ne 7, 3)) ∧ (decode cX8_hashOf 60 = .ok (.iconst 0, 1)) ∧ (decode cX8_hashOf 61 = .ok (.goto 11, 3)) ∧ (decode cX8_hashOf 64 = .ok (.aload_n 0, 1)) ∧ (decode cX8_hashOf 65 = .ok (.getfield 54, 3)) ∧ (decode cX8_hashOf 68 = .ok (.lload 4, 2)) ∧ (decode cX8_hashOf 70 = .ok (.l2i, 1)) ∧ (decode cX8_hashOf 71 = .ok (.iaload, 1)) ∧ (decode cX8_hashOf 72 = .ok (.iadd, 1)) ∧ (decode cX8_hashOf 73 = .ok (.istore_n 2, 1)) ∧ (decode cX8_hashOf 74 = .ok (.goto 61, 3)) := by decide +kernel
theorem dX8_hashOf_49 : decode cX8_hashOf 49 = .ok (.iload_n 2, 1) := dg_X8_hashOf_49.1
theorem dX8_hashOf_50 : decode cX8_hashOf 50 = .ok (.imul, 1) := dg_X8_hashOf_49.2.1
theorem dX8_hashOf_51 : decode cX8_hashOf 51 = .ok (.lload 4, 2) := dg_X8_hashOf_49.2.2.1
theorem dX8_hashOf_53 : decode cX8_hashOf 53 = .ok (.ldc2_w 171, 3) := dg_X8_hashOf_49.2.2.2.1
theorem dX8_hashOf_56 : decode cX8_hashOf 56 = .ok (.lcmp, 1) := dg_X8_hashOf_49.2.2.2.2.1
theorem dX8_hashOf_57 : decode cX8_hashOf 57 = .ok (.ifCond .ne 7, 3) := dg_X8_hashOf_49.2.2.2.2.2.1
theorem dX8_hashOf_60 : decode cX8_hashOf 60 = .ok (.iconst 0, 1) := dg_X8_hashOf_49.2.2.2.2.2.2.1
theorem dX8_hashOf_61 : decode cX8_hashOf 61 = .ok (.goto 11, 3) := dg_X8_hashOf_49.2.2.2.2.2.2.2.1
theorem dX8_hashOf_64 : decode cX8_hashOf 64 = .ok (.aload_n 0, 1) := dg_X8_hashOf_49.2.2.2.2.2.2.2.2.1
theorem dX8_hashOf_65 : decode cX8_hashOf 65 = .ok (.getfield 54, 3) := dg_X8_hashOf_49.2.2.2.2.2.2.2.2.2.1
theorem dX8_hashOf_68 : decode cX8_hashOf 68 = .ok (.lload 4, 2) := dg_X8_hashOf_49.2.2.2.2.2.2.2.2.2.2.1
theorem dX8_hashOf_70 : decode cX8_hashOf 70 = .ok (.l2i, 1) := dg_X8_hashOf_49.2.2.2.2.2.2.2.2.2.2.2.1
theorem dX8_hashOf_71 : decode cX8_hashOf 71 = .ok (.iaload, 1) := dg_X8_hashOf_49.2.2.2.2.2.2.2.2.2.2.2.2.1
theorem dX8_hashOf_72 : decode cX8_hashOf 72 = .ok (.iadd, 1) := dg_X8_hashOf_49.2.2.2.2.2.2.2.2.2.2.2.2.2.1
theorem dX8_hashOf_73 : decode cX8_hashOf 73 = .ok (.istore_n 2, 1) := dg_X8_hashOf_49.2.2.2.2.2.2.2.2.2.2.2.2.2.2.1
theorem dX8_hashOf_74 : decode cX8_hashOf 74 = .ok (.goto 61, 3) := dg_X8_hashOf_49.2.2.2.2.2.2.2.2.2.2.2.2.2.2.2
theorem dg_X8_hashOf_77 : (decode cX8_hashOf 77 = .ok (.bipush 31, 2)) ∧ (decode cX8_hashOf 79 = .ok (.iload_n 2, 1)) ∧ (decode cX8_hashOf 80 = .ok (.imul, 1)) ∧ (decode cX8_hashOf 81 = .ok (.iload 6, 2)) ∧ (decode cX8_hashOf 83 = .ok (.ifCond .ne 22, 3)) ∧ (decode cX8_hashOf 86 = .ok (.lload 4, 2)) ∧ (decode cX8_hashOf 88 = .ok (.lconst 1, 1)) ∧ (decode cX8_hashOf 89 = .ok (.lcmp, 1)) ∧ (decode cX8_hashOf 90 = .ok (.ifCond .ne 9, 3)) ∧ (decode cX8_hashOf 93 = .ok (.sipush 1231, 3)) ∧ (decode cX8_hashOf 96 = .ok (.goto 37, 3)) ∧ (decode cX8_hashOf 99 = .ok (.sipush 1237, 3)) ∧ (decode cX8_hashOf 102 = .ok (.goto 31, 3)) ∧ (decode cX8_hashOf 105 = .ok (.iload 6, 2)) ∧ (decode cX8_hashOf 107 = .ok (.iconst 5, 1)) ∧ (decode cX8_hashOf 108 = .ok (.if_icmp .eq 10, 3)) := by decide +kernel
theorem dX8_hashOf_77 : decode cX8_hashOf 77 = .ok (.bipush 31, 2) := dg_X8_hashOf_77.1
theorem dX8_hashOf_79 : decode cX8_hashOf 79 = .ok (.iload_n 2, 1) := dg_X8_hashOf_77.2.1
theorem dX8_hashOf_80 : decode cX8_hashOf 80 = .ok (.imul, 1) := dg_X8_hashOf_77.2.2.1
theorem dX8_hashOf_81 : decode cX8_hashOf 81 = .ok (.iload 6, 2) := dg_X8_hashOf_77.2.2.2.1
theorem dX8_hashOf_83 : decode cX8_hashOf 83 = .ok (.ifCond .ne 22, 3) := dg_X8_hashOf_77.2.2.2.2.1
theorem dX8_hashOf_86 : decode cX8_hashOf 86 = .ok (.lload 4, 2) := dg_X8_hashOf_77.2.2.2.2.2.1
theorem dX8_hashOf_88 : decode cX8_hashOf 88 = .ok (.lconst 1, 1) := dg_X8_hashOf_77.2.2.2.2.2.2.1
theorem dX8_hashOf_89 : decode cX8_hashOf 89 = .ok (.lcmp, 1) := dg_X8_hashOf_77.2.2.2.2.2.2.2.1
theorem dX8_hashOf_90 : decode cX8_hashOf 90 = .ok (.ifCond .ne 9, 3) := dg_X8_hashOf_77.2.2.2.2.2.2.2.2.1
theorem dX8_hashOf_93 : decode cX8_hashOf 93 = .ok (.sipush 1231, 3) := dg_X8_hashOf_77.2.2.2.2.2.2.2.2.2.1
theorem dX8_hashOf_96 : decode cX8_hashOf 96 = .ok (.goto 37, 3) := dg_X8_hashOf_77.2.2.2.2.2.2.2.2.2.2.1
theorem dX8_hashOf_99 : decode cX8_hashOf 99 = .ok (.sipush 1237, 3) := dg_X8_hashOf_77.2.2.2.2.2.2.2.2.2.2.2.1
theorem dX8_hashOf_102 : decode cX8_hashOf 102 = .ok (.goto 31, 3) := dg_X8_hashOf_77.2.2.2.2.2.2.2.2.2.2.2.2.1
theorem dX8_hashOf_105 : decode cX8_hashOf 105 = .ok (.iload 6, 2) := dg_X8_hashOf_77.2.2.2.2.2.2.2.2.2.2.2.2.2.1
theorem dX8_hashOf_107 : decode cX8_hashOf 107 = .ok (.iconst 5, 1) := dg_X8_hashOf_77.2.2.2.2.2.2.2.2.2.2.2.2.2.2.1
theorem dX8_hashOf_108 : decode cX8_hashOf 108 = .ok (.if_icmp .eq 10, 3) := dg_X8_hashOf_77.2.2.2.2.2.2.2.2.2.2.2.2.2.2.2
theorem dg_X8_hashOf_111 : (decode cX8_hashOf 111 = .ok (.iload 6, 2)) ∧ (decode cX8_hashOf 113 = .ok (.bipush 7, 2)) ∧ (decode cX8_hashOf 115 = .ok (.if_icmp .ne 15, 3)) ∧ (decode cX8_hashOf 118 = .ok (.lload 4, 2)) ∧ (decode cX8_hashOf 120 = .ok (.lload 4, 2)) ∧ (decode cX8_hashOf 122 = .ok (.bipush 32, 2)) ∧ (decode cX8_hashOf 124 = .ok (.lushr, 1)) ∧ (decode cX8_hashOf 125 = .ok (.lxor, 1)) ∧ (decode cX8_hashOf 126 = .ok (.l2i, 1)) ∧ (decode cX8_hashOf 127 = .ok (.goto 6, 3)) ∧ (decode cX8_hashOf 130 = .ok (.lload 4, 2)) ∧ (decode cX8_hashOf 132 = .ok (.l2i, 1)) ∧ (decode cX8_hashOf 133 = .ok (.iadd, 1)) ∧ (decode cX8_hashOf 134 = .ok (.istore_n 2, 1)) ∧ (decode cX8_hashOf 135 = .ok (.iinc 3 1, 3)) ∧ (decode cX8_hashOf 138 = .ok (.goto (-134), 3)) := by decide +kernel
theorem dX8_hashOf_111 : decode cX8_hashOf 111 = .ok (.iload 6, 2) := dg_X8_hashOf_111.1
theorem dX8_hashOf_113 : decode cX8_hashOf 113 = .ok (.bipush 7, 2) := dg_X8_hashOf_111.2.1
theorem dX8_hashOf_115 : decode cX8_hashOf 115 = .ok (.if_icmp .ne 15, 3) := dg_X8_hashOf_111.2.2.1
theorem dX8_hashOf_118 : decode cX8_hashOf 118 = .ok (.lload 4, 2) := dg_X8_hashOf_111.2.2.2.1
theorem dX8_hashOf_120 : decode cX8_hashOf 120 = .ok (.lload 4, 2) := dg_X8_hashOf_111.2.2.2.2.1
theorem dX8_hashOf_122 : decode cX8_hashOf 122 = .ok (.bipush 32, 2) := dg_X8_hashOf_111.2.2.2.2.2.1
theorem dX8_hashOf_124 : decode cX8_hashOf 124 = .ok (.lushr, 1) := dg_X8_hashOf_111.2.2.2.2.2.2.1
theorem dX8_hashOf_125 : decode cX8_hashOf 125 = .ok (.lxor, 1) := dg_X8_hashOf_111.2.2.2.2.2.2.2.1
theorem dX8_hashOf_126 : decode cX8_hashOf 126 = .ok (.l2i, 1) := dg_X8_hashOf_111.2.2.2.2.2.2.2.2.1
theorem dX8_hashOf_127 : decode cX8_hashOf 127 = .ok (.goto 6, 3) := dg_X8_hashOf_111.2.2.2.2.2.2.2.2.2.1
theorem dX8_hashOf_130 : decode cX8_hashOf 130 = .ok (.lload 4, 2) := dg_X8_hashOf_111.2.2.2.2.2.2.2.2.2.2.1
theorem dX8_hashOf_132 : decode cX8_hashOf 132 = .ok (.l2i, 1) := dg_X8_hashOf_111.2.2.2.2.2.2.2.2.2.2.2.1
theorem dX8_hashOf_133 : decode cX8_hashOf 133 = .ok (.iadd, 1) := dg_X8_hashOf_111.2.2.2.2.2.2.2.2.2.2.2.2.1
theorem dX8_hashOf_134 : decode cX8_hashOf 134 = .ok (.istore_n 2, 1) := dg_X8_hashOf_111.2.2.2.2.2.2.2.2.2.2.2.2.2.1
theorem dX8_hashOf_135 : decode cX8_hashOf 135 = .ok (.iinc 3 1, 3) := dg_X8_hashOf_111.2.2.2.2.2.2.2.2.2.2.2.2.2.2.1
theorem dX8_hashOf_138 : decode cX8_hashOf 138 = .ok (.goto (-134), 3) := dg_X8_hashOf_111.2.2.2.2.2.2.2.2.2.2.2.2.2.2.2
theorem dg_X8_hashOf_141 : (decode cX8_hashOf 141 = .ok (.iload_n 2, 1)) ∧ (decode cX8_hashOf 142 = .ok (.ireturn, 1)) := by decide +kernel
theorem dX8_hashOf_141 : decode cX8_hashOf 141 = .ok (.iload_n 2, 1) := dg_X8_hashOf_141.1
theorem dX8_hashOf_142 : decode cX8_hashOf 142 = .ok (.ireturn, 1) := dg_X8_hashOf_141.2
theorem zf_X8_54 : zz_f RX8 54 7 19 := ⟨RX8, TX8, 37, rfl, zi_X8, by decide, zk_754⟩
abbrev rm_cm_hashOf : Room := { frames := 0, cells := 0, slots := 0, locals := 0 }
abbrev po_cm_hashOf (g : zz_G) (h0 : Nat) (a_kindOf : Nat) (a_depthOf : Nat) (a_lengthOf : Nat) (a_classOf : Nat) (a_baseOf : Nat) (a_bits : Nat) (a_pinned : Nat) (a_lengths : Nat) (a_stackArray : Nat) (a_stackOther : Nat) (a_stackAt : Nat) (a_path : Nat) (a_held : Nat) (a_alike : Nat) (a_hashes : Nat) (a_decisionArray : Nat) (a_decisionPlace : Nat) (a_candidateMany : Nat) (a_candidates : Nat) (a_ruleSort : Nat) (a_ruleArray : Nat) (a_ruleWeight : Nat) (a_ruleLow : Nat) (a_ruleHigh : Nat) (a_chosen : Nat) (a_bestOf : Nat) (a_markElements : Nat) (a_markBits : Nat) (a_markPins : Nat) (na : Nat) (ne : Nat) (nd : Nat) (nr : Nat) (nm : Nat) (i_code : Int32) (i_lastArray : Int32) (i_lastPlace : Int32) (kdf : Nat → Int32) (dpf : Nat → Int32) (lnf : Nat → Int32) (saf : Nat → Int32) (btf : Nat → Int64) (haf : Nat → Int32) (a : Nat) (h_M : zz_MI na ne dpf saf lnf btf) (h_a : a < na) : Int32 → va_W → Prop := fun (r : Int32) (u : va_W) => u = [cw_k7 h0 (nI na) (nI ne) a_kindOf a_depthOf a_lengthOf a_classOf a_baseOf a_bits a_pinned i_code a_lengths a_stackArray a_stackOther a_stackAt i_lastArray i_lastPlace a_path a_held a_alike a_hashes (nI nd) a_decisionArray a_decisionPlace a_candidateMany a_candidates (nI nr) a_ruleSort a_ruleArray a_ruleWeight a_ruleLow a_ruleHigh a_chosen a_bestOf (nI nm) a_markElements a_markBits a_markPins, cw_i g a_kindOf 60 kdf, cw_i g a_depthOf 60 dpf, cw_i g a_lengthOf 60 lnf, cw_i g a_baseOf 60 saf, cw_l g a_bits 4000 btf, cw_i g a_hashes 60 haf]
set_option maxHeartbeats 4000000 in
set_option maxRecDepth 100000 in
theorem cm_hashOf (g : zz_G) (h0 : Nat) (a_kindOf : Nat) (a_depthOf : Nat) (a_lengthOf : Nat) (a_classOf : Nat) (a_baseOf : Nat) (a_bits : Nat) (a_pinned : Nat) (a_lengths : Nat) (a_stackArray : Nat) (a_stackOther : Nat) (a_stackAt : Nat) (a_path : Nat) (a_held : Nat) (a_alike : Nat) (a_hashes : Nat) (a_decisionArray : Nat) (a_decisionPlace : Nat) (a_candidateMany : Nat) (a_candidates : Nat) (a_ruleSort : Nat) (a_ruleArray : Nat) (a_ruleWeight : Nat) (a_ruleLow : Nat) (a_ruleHigh : Nat) (a_chosen : Nat) (a_bestOf : Nat) (a_markElements : Nat) (a_markBits : Nat) (a_markPins : Nat) (na : Nat) (ne : Nat) (nd : Nat) (nr : Nat) (nm : Nat) (i_code : Int32) (i_lastArray : Int32) (i_lastPlace : Int32) (kdf : Nat → Int32) (dpf : Nat → Int32) (lnf : Nat → Int32) (saf : Nat → Int32) (btf : Nat → Int64) (haf : Nat → Int32) (a : Nat) (h_M : zz_MI na ne dpf saf lnf btf) (h_a : a < na) : zz_I g yX8_hashOf (.code yX8_hashOf cX8_hashOf 7 (some .int)) rm_cm_hashOf [.ref h0, .int (nI a)] [cw_k7 h0 (nI na) (nI ne) a_kindOf a_depthOf a_lengthOf a_classOf a_baseOf a_bits a_pinned i_code a_lengths a_stackArray a_stackOther a_stackAt i_lastArray i_lastPlace a_path a_held a_alike a_hashes (nI nd) a_decisionArray a_decisionPlace a_candidateMany a_candidates (nI nr) a_ruleSort a_ruleArray a_ruleWeight a_ruleLow a_ruleHigh a_chosen a_bestOf (nI nm) a_markElements a_markBits a_markPins, cw_i g a_kindOf 60 kdf, cw_i g a_depthOf 60 dpf, cw_i g a_lengthOf 60 lnf, cw_i g a_baseOf 60 saf, cw_l g a_bits 4000 btf, cw_i g a_hashes 60 haf] (po_cm_hashOf g h0 a_kindOf a_depthOf a_lengthOf a_classOf a_baseOf a_bits a_pinned a_lengths a_stackArray a_stackOther a_stackAt a_path a_held a_alike a_hashes a_decisionArray a_decisionPlace a_candidateMany a_candidates a_ruleSort a_ruleArray a_ruleWeight a_ruleLow a_ruleHigh a_chosen a_bestOf a_markElements a_markBits a_markPins na ne nd nr nm i_code i_lastArray i_lastPlace kdf dpf lnf saf btf haf a h_M h_a) := by
  refine zz_I.intro (own := RX8) (cc := cX8_hashOf) (nL := 7) (by decide) rfl (Nat.le_of_ble_eq_true rfl) ?_
  intro p l e s m args below meth c A H locs ls hC hnm hs hZ hl
  obtain ⟨hx, hb, hml, hown, hts, hr, hlocks, hK⟩ := id hC
  have hl : lv_has ls 7 [(0, .ref h0), (1, .int (nI a))] := hl
  have hZ : zz_Z g A s.heap [cw_k7 h0 (nI na) (nI ne) a_kindOf a_depthOf a_lengthOf a_classOf a_baseOf a_bits a_pinned i_code a_lengths a_stackArray a_stackOther a_stackAt i_lastArray i_lastPlace a_path a_held a_alike a_hashes (nI nd) a_decisionArray a_decisionPlace a_candidateMany a_candidates (nI nr) a_ruleSort a_ruleArray a_ruleWeight a_ruleLow a_ruleHigh a_chosen a_bestOf (nI nm) a_markElements a_markBits a_markPins, cw_i g a_kindOf 60 kdf, cw_i g a_depthOf 60 dpf, cw_i g a_lengthOf 60 lnf, cw_i g a_baseOf 60 saf, cw_l g a_bits 4000 btf, cw_i g a_hashes 60 haf] H locs := hZ
  have h_S := h_M.1
  have hna := h_S.1
  have hne := h_S.2.1
  obtain ⟨sz, lz, dz, es, el, ed, g1, g2, g3, g4⟩ := h_S.2.2 a h_a
  refine lv_iconst (v := 1) hx hb dX8_hashOf_0 (by decide) ?_
  refine lv_istore_n (lv' := [(2, .int 1), (0, .ref h0), (1, .int (nI a))]) hx hb dX8_hashOf_1 rfl hl (by decide) rfl (fun ls hl => ?_)
  refine lv_iconst (v := 0) hx hb dX8_hashOf_2 (by decide) ?_
  refine lv_istore_n (lv' := [(3, .int 0), (2, .int 1), (0, .ref h0), (1, .int (nI a))]) hx hb dX8_hashOf_3 rfl hl (by decide) rfl (fun ls hl => ?_)
  have LP1 : ∀ (N : Nat) (i : Nat) (w : Int32) (H : Heap) (locs : List Loc) (ls : Array Slot), (i ≤ lz) → (lz - i) < N → zz_Z g A s.heap [cw_k7 h0 (nI na) (nI ne) a_kindOf a_depthOf a_lengthOf a_classOf a_baseOf a_bits a_pinned i_code a_lengths a_stackArray a_stackOther a_stackAt i_lastArray i_lastPlace a_path a_held a_alike a_hashes (nI nd) a_decisionArray a_decisionPlace a_candidateMany a_candidates (nI nr) a_ruleSort a_ruleArray a_ruleWeight a_ruleLow a_ruleHigh a_chosen a_bestOf (nI nm) a_markElements a_markBits a_markPins, cw_i g a_kindOf 60 kdf, cw_i g a_depthOf 60 dpf, cw_i g a_lengthOf 60 lnf, cw_i g a_baseOf 60 saf, cw_l g a_bits 4000 btf, cw_i g a_hashes 60 haf] H locs → lv_has ls 7 [(3, .int (nI i)), (2, .int w), (0, .ref h0), (1, .int (nI a))] → W p l e rm_cm_hashOf s m args below meth c H locs 0 0 (zz_QI below g args s A rm_cm_hashOf.cells rm_cm_hashOf.slots (po_cm_hashOf g h0 a_kindOf a_depthOf a_lengthOf a_classOf a_baseOf a_bits a_pinned a_lengths a_stackArray a_stackOther a_stackAt a_path a_held a_alike a_hashes a_decisionArray a_decisionPlace a_candidateMany a_candidates a_ruleSort a_ruleArray a_ruleWeight a_ruleLow a_ruleHigh a_chosen a_bestOf a_markElements a_markBits a_markPins na ne nd nr nm i_code i_lastArray i_lastPlace kdf dpf lnf saf btf haf a h_M h_a)) (F0 m 4 ls []) := by
    intro N
    induction N with
    | zero =>
      intro i w H locs ls hi hN
      exact absurd hN (Nat.not_lt_zero _)
    | succ N ih =>
      intro i w H locs ls hi hN hZ hl
      refine lv_iload_n hx hb dX8_hashOf_4 rfl (lv_at hl 0 rfl) ?_
      refine lv_aload_n hx hb dX8_hashOf_5 rfl (lv_at hl 2 rfl) ?_
      refine zz_get hC hZ 0 rfl zf_X8_16 rfl dX8_hashOf_6 ?_
      refine lv_iload_n hx hb dX8_hashOf_9 rfl (lv_at hl 3 rfl) ?_
      refine zz_iald hC hZ 3 rfl (vp_in_nI (by omega) (by decide)) dX8_hashOf_10 ?_
      rw [nI_clamp (n := a) (by omega)]
      refine zz_topi (v := nI lz) (el) ?_
      refine lv_icmp_ge (tgt := 141) hx hb dX8_hashOf_11 (by decide) (fun c2 => ?_) (fun c2 => ?_)
      · have nc2 : lz ≤ i := (nI_leI (by omega) (by omega)).mp (show nI (lz) ≤ nI (i) from c2)
        refine lv_iload_n hx hb dX8_hashOf_141 rfl (lv_at hl 1 rfl) ?_
        exact zz_iret hC hZ (rfl) (Nat.le_of_ble_eq_true rfl) (Nat.le_of_ble_eq_true rfl) dX8_hashOf_142
      · have nc2 : ¬ lz ≤ i := fun zq => c2 (show nI (lz) ≤ nI (i) from (nI_leI (by omega) (by omega)).mpr zq)
        refine lv_aload_n hx hb dX8_hashOf_14 rfl (lv_at hl 2 rfl) ?_
        refine zz_get hC hZ 0 rfl zf_X8_25 rfl dX8_hashOf_15 ?_
        refine lv_aload_n hx hb dX8_hashOf_18 rfl (lv_at hl 2 rfl) ?_
        refine zz_get hC hZ 0 rfl zf_X8_22 rfl dX8_hashOf_19 ?_
        refine lv_iload_n hx hb dX8_hashOf_22 rfl (lv_at hl 3 rfl) ?_
        refine zz_iald hC hZ 4 rfl (vp_in_nI (by omega) (by decide)) dX8_hashOf_23 ?_
        rw [nI_clamp (n := a) (by omega)]
        refine zz_topi (v := nI sz) (es) ?_
        refine lv_iload_n hx hb dX8_hashOf_24 rfl (lv_at hl 0 rfl) ?_
        refine lv_iadd hx hb dX8_hashOf_25 ?_
        refine zz_topi (v := nI (sz + i)) (nI_add _ _) ?_
        refine zz_lald hC hZ 5 rfl (vp_in_nI (by omega) (by decide)) dX8_hashOf_26 ?_
        rw [nI_clamp (n := (sz + i)) (by omega)]
        refine lv_lstore (lv' := [(4, .long (btf (sz + i))), (3, .int (nI i)), (2, .int w), (0, .ref h0), (1, .int (nI a))]) hx hb dX8_hashOf_27 hl (by decide) rfl (fun ls hl => ?_)
        refine lv_aload_n hx hb dX8_hashOf_29 rfl (lv_at hl 3 rfl) ?_
        refine zz_get hC hZ 0 rfl zf_X8_7 rfl dX8_hashOf_30 ?_
        refine lv_iload_n hx hb dX8_hashOf_33 rfl (lv_at hl 4 rfl) ?_
        refine zz_iald hC hZ 1 rfl (vp_in_nI (by omega) (by decide)) dX8_hashOf_34 ?_
        rw [nI_clamp (n := a) (by omega)]
        refine lv_istore (lv' := [(6, .int (kdf a)), (4, .long (btf (sz + i))), (3, .int (nI i)), (2, .int w), (0, .ref h0), (1, .int (nI a))]) hx hb dX8_hashOf_35 hl (by decide) rfl (fun ls hl => ?_)
        refine lv_aload_n hx hb dX8_hashOf_37 rfl (lv_at hl 4 rfl) ?_
        refine zz_get hC hZ 0 rfl zf_X8_13 rfl dX8_hashOf_38 ?_
        refine lv_iload_n hx hb dX8_hashOf_41 rfl (lv_at hl 5 rfl) ?_
        refine zz_iald hC hZ 2 rfl (vp_in_nI (by omega) (by decide)) dX8_hashOf_42 ?_
        rw [nI_clamp (n := a) (by omega)]
        refine zz_topi (v := nI dz) (ed) ?_
        refine lv_iconst (v := 1) hx hb dX8_hashOf_43 (by decide) ?_
        refine lv_icmp_le (tgt := 77) hx hb dX8_hashOf_44 (by decide) (fun c3 => ?_) (fun c3 => ?_)
        · have nc3 : dz ≤ 1 := (nI_leI (by omega) (by omega)).mp (show nI (dz) ≤ nI (1) from c3)
          refine lv_bipush (v := 31) hx hb dX8_hashOf_77 (by decide) ?_
          refine lv_iload_n hx hb dX8_hashOf_79 rfl (lv_at hl 3 rfl) ?_
          refine lv_imul hx hb dX8_hashOf_80 ?_
          refine lv_iload hx hb dX8_hashOf_81 (lv_at hl 0 rfl) ?_
          refine lv_if_ne (tgt := 105) hx hb dX8_hashOf_83 (by decide) (fun c4 => ?_) (fun c4 => ?_)
          · refine lv_iload hx hb dX8_hashOf_105 (lv_at hl 0 rfl) ?_
            refine lv_iconst (v := 5) hx hb dX8_hashOf_107 (by decide) ?_
            refine lv_icmp_eq (tgt := 118) hx hb dX8_hashOf_108 (by decide) (fun c5 => ?_) (fun c5 => ?_)
            · refine lv_lload hx hb dX8_hashOf_118 (lv_at hl 1 rfl) ?_
              refine lv_lload hx hb dX8_hashOf_120 (lv_at hl 1 rfl) ?_
              refine lv_bipush (v := 32) hx hb dX8_hashOf_122 (by decide) ?_
              refine lv_lushr hx hb dX8_hashOf_124 rfl ?_
              refine lv_lxor hx hb dX8_hashOf_125 ?_
              refine lv_l2i hx hb dX8_hashOf_126 rfl ?_
              refine lv_goto (tgt := 133) hx hb dX8_hashOf_127 (by decide) ?_
              refine lv_iadd hx hb dX8_hashOf_133 ?_
              refine lv_istore_n (lv' := [(2, .int ((31 * w) + (((btf (sz + i)) ^^^ (((btf (sz + i)).toUInt64 >>> ((32 : Int32).toInt64.toUInt64 &&& Int64.toUInt64 63)).toInt64)).toInt32))), (6, .int (kdf a)), (4, .long (btf (sz + i))), (3, .int (nI i)), (0, .ref h0), (1, .int (nI a))]) hx hb dX8_hashOf_134 rfl hl (by decide) rfl (fun ls hl => ?_)
              refine lv_iinc (v := nI (i + 1)) (lv' := [(3, .int (nI (i + 1))), (2, .int ((31 * w) + (((btf (sz + i)) ^^^ (((btf (sz + i)).toUInt64 >>> ((32 : Int32).toInt64.toUInt64 &&& Int64.toUInt64 63)).toInt64)).toInt32))), (6, .int (kdf a)), (4, .long (btf (sz + i))), (0, .ref h0), (1, .int (nI a))]) hx hb dX8_hashOf_135 hl (k := 3) rfl (nI_1 _) (by decide) rfl (fun ls hl => ?_)
              refine lv_goto (tgt := 4) hx hb dX8_hashOf_138 (by decide) ?_
              exact ih (i + 1) ((31 * w) + (((btf (sz + i)) ^^^ (((btf (sz + i)).toUInt64 >>> ((32 : Int32).toInt64.toUInt64 &&& Int64.toUInt64 63)).toInt64)).toInt32)) H locs ls (by omega) (by omega) hZ (lv_sub hl [0, 1, 4, 5] rfl)
            · refine lv_iload hx hb dX8_hashOf_111 (lv_at hl 0 rfl) ?_
              refine lv_bipush (v := 7) hx hb dX8_hashOf_113 (by decide) ?_
              refine lv_icmp_ne (tgt := 130) hx hb dX8_hashOf_115 (by decide) (fun c6 => ?_) (fun c6 => ?_)
              · refine lv_lload hx hb dX8_hashOf_130 (lv_at hl 1 rfl) ?_
                refine lv_l2i hx hb dX8_hashOf_132 rfl ?_
                refine lv_iadd hx hb dX8_hashOf_133 ?_
                refine lv_istore_n (lv' := [(2, .int ((31 * w) + ((btf (sz + i)).toInt32))), (6, .int (kdf a)), (4, .long (btf (sz + i))), (3, .int (nI i)), (0, .ref h0), (1, .int (nI a))]) hx hb dX8_hashOf_134 rfl hl (by decide) rfl (fun ls hl => ?_)
                refine lv_iinc (v := nI (i + 1)) (lv' := [(3, .int (nI (i + 1))), (2, .int ((31 * w) + ((btf (sz + i)).toInt32))), (6, .int (kdf a)), (4, .long (btf (sz + i))), (0, .ref h0), (1, .int (nI a))]) hx hb dX8_hashOf_135 hl (k := 3) rfl (nI_1 _) (by decide) rfl (fun ls hl => ?_)
                refine lv_goto (tgt := 4) hx hb dX8_hashOf_138 (by decide) ?_
                exact ih (i + 1) ((31 * w) + ((btf (sz + i)).toInt32)) H locs ls (by omega) (by omega) hZ (lv_sub hl [0, 1, 4, 5] rfl)
              · refine lv_lload hx hb dX8_hashOf_118 (lv_at hl 1 rfl) ?_
                refine lv_lload hx hb dX8_hashOf_120 (lv_at hl 1 rfl) ?_
                refine lv_bipush (v := 32) hx hb dX8_hashOf_122 (by decide) ?_
                refine lv_lushr hx hb dX8_hashOf_124 rfl ?_
                refine lv_lxor hx hb dX8_hashOf_125 ?_
                refine lv_l2i hx hb dX8_hashOf_126 rfl ?_
                refine lv_goto (tgt := 133) hx hb dX8_hashOf_127 (by decide) ?_
                refine lv_iadd hx hb dX8_hashOf_133 ?_
                refine lv_istore_n (lv' := [(2, .int ((31 * w) + (((btf (sz + i)) ^^^ (((btf (sz + i)).toUInt64 >>> ((32 : Int32).toInt64.toUInt64 &&& Int64.toUInt64 63)).toInt64)).toInt32))), (6, .int (kdf a)), (4, .long (btf (sz + i))), (3, .int (nI i)), (0, .ref h0), (1, .int (nI a))]) hx hb dX8_hashOf_134 rfl hl (by decide) rfl (fun ls hl => ?_)
                refine lv_iinc (v := nI (i + 1)) (lv' := [(3, .int (nI (i + 1))), (2, .int ((31 * w) + (((btf (sz + i)) ^^^ (((btf (sz + i)).toUInt64 >>> ((32 : Int32).toInt64.toUInt64 &&& Int64.toUInt64 63)).toInt64)).toInt32))), (6, .int (kdf a)), (4, .long (btf (sz + i))), (0, .ref h0), (1, .int (nI a))]) hx hb dX8_hashOf_135 hl (k := 3) rfl (nI_1 _) (by decide) rfl (fun ls hl => ?_)
                refine lv_goto (tgt := 4) hx hb dX8_hashOf_138 (by decide) ?_
                exact ih (i + 1) ((31 * w) + (((btf (sz + i)) ^^^ (((btf (sz + i)).toUInt64 >>> ((32 : Int32).toInt64.toUInt64 &&& Int64.toUInt64 63)).toInt64)).toInt32)) H locs ls (by omega) (by omega) hZ (lv_sub hl [0, 1, 4, 5] rfl)
          · refine lv_lload hx hb dX8_hashOf_86 (lv_at hl 1 rfl) ?_
            refine lv_lconst (v := 1) hx hb dX8_hashOf_88 (by decide) ?_
            refine zz_lcmp_ne (tgt := 99) hC dX8_hashOf_89 dX8_hashOf_90 (by decide) (fun c7 => ?_) (fun c7 => ?_)
            · refine lv_sipush (v := 1237) hx hb dX8_hashOf_99 (by decide) ?_
              refine lv_goto (tgt := 133) hx hb dX8_hashOf_102 (by decide) ?_
              refine lv_iadd hx hb dX8_hashOf_133 ?_
              refine lv_istore_n (lv' := [(2, .int ((31 * w) + 1237)), (6, .int (kdf a)), (4, .long (btf (sz + i))), (3, .int (nI i)), (0, .ref h0), (1, .int (nI a))]) hx hb dX8_hashOf_134 rfl hl (by decide) rfl (fun ls hl => ?_)
              refine lv_iinc (v := nI (i + 1)) (lv' := [(3, .int (nI (i + 1))), (2, .int ((31 * w) + 1237)), (6, .int (kdf a)), (4, .long (btf (sz + i))), (0, .ref h0), (1, .int (nI a))]) hx hb dX8_hashOf_135 hl (k := 3) rfl (nI_1 _) (by decide) rfl (fun ls hl => ?_)
              refine lv_goto (tgt := 4) hx hb dX8_hashOf_138 (by decide) ?_
              exact ih (i + 1) ((31 * w) + 1237) H locs ls (by omega) (by omega) hZ (lv_sub hl [0, 1, 4, 5] rfl)
            · refine lv_sipush (v := 1231) hx hb dX8_hashOf_93 (by decide) ?_
              refine lv_goto (tgt := 133) hx hb dX8_hashOf_96 (by decide) ?_
              refine lv_iadd hx hb dX8_hashOf_133 ?_
              refine lv_istore_n (lv' := [(2, .int ((31 * w) + 1231)), (6, .int (kdf a)), (4, .long (btf (sz + i))), (3, .int (nI i)), (0, .ref h0), (1, .int (nI a))]) hx hb dX8_hashOf_134 rfl hl (by decide) rfl (fun ls hl => ?_)
              refine lv_iinc (v := nI (i + 1)) (lv' := [(3, .int (nI (i + 1))), (2, .int ((31 * w) + 1231)), (6, .int (kdf a)), (4, .long (btf (sz + i))), (0, .ref h0), (1, .int (nI a))]) hx hb dX8_hashOf_135 hl (k := 3) rfl (nI_1 _) (by decide) rfl (fun ls hl => ?_)
              refine lv_goto (tgt := 4) hx hb dX8_hashOf_138 (by decide) ?_
              exact ih (i + 1) ((31 * w) + 1231) H locs ls (by omega) (by omega) hZ (lv_sub hl [0, 1, 4, 5] rfl)
        · have nc3 : ¬ dz ≤ 1 := fun zq => c3 (show nI (dz) ≤ nI (1) from (nI_leI (by omega) (by omega)).mpr zq)
          refine lv_bipush (v := 31) hx hb dX8_hashOf_47 (by decide) ?_
          refine lv_iload_n hx hb dX8_hashOf_49 rfl (lv_at hl 3 rfl) ?_
          refine lv_imul hx hb dX8_hashOf_50 ?_
          refine lv_lload hx hb dX8_hashOf_51 (lv_at hl 1 rfl) ?_
          refine lv_ldc2 hx hb hown (hts _ zk_883) dX8_hashOf_53 ?_
          refine zz_lcmp_ne (tgt := 64) hC dX8_hashOf_56 dX8_hashOf_57 (by decide) (fun c8 => ?_) (fun c8 => ?_)
          · refine lv_aload_n hx hb dX8_hashOf_64 rfl (lv_at hl 4 rfl) ?_
            refine zz_get hC hZ 0 rfl zf_X8_54 rfl dX8_hashOf_65 ?_
            refine lv_lload hx hb dX8_hashOf_68 (lv_at hl 1 rfl) ?_
            refine lv_l2i hx hb dX8_hashOf_70 rfl ?_
            obtain ⟨r1, d1, hr1, hv1, _, _⟩ := (h_M.2.2 a sz lz dz h_a es el ed (by omega) (by omega) (by omega) (by omega) i (by omega)).resolve_left c8
            refine zz_topi (v := nI r1) (by rw [hv1]; exact lN_i r1) ?_
            refine zz_iald hC hZ 6 rfl (vp_in_nI (by omega) (by decide)) dX8_hashOf_71 ?_
            rw [nI_clamp (n := r1) (by omega)]
            refine lv_iadd hx hb dX8_hashOf_72 ?_
            refine lv_istore_n (lv' := [(2, .int ((31 * w) + (haf r1))), (6, .int (kdf a)), (4, .long (btf (sz + i))), (3, .int (nI i)), (0, .ref h0), (1, .int (nI a))]) hx hb dX8_hashOf_73 rfl hl (by decide) rfl (fun ls hl => ?_)
            refine lv_goto (tgt := 135) hx hb dX8_hashOf_74 (by decide) ?_
            refine lv_iinc (v := nI (i + 1)) (lv' := [(3, .int (nI (i + 1))), (2, .int ((31 * w) + (haf r1))), (6, .int (kdf a)), (4, .long (btf (sz + i))), (0, .ref h0), (1, .int (nI a))]) hx hb dX8_hashOf_135 hl (k := 3) rfl (nI_1 _) (by decide) rfl (fun ls hl => ?_)
            refine lv_goto (tgt := 4) hx hb dX8_hashOf_138 (by decide) ?_
            exact ih (i + 1) ((31 * w) + (haf r1)) H locs ls (by omega) (by omega) hZ (lv_sub hl [0, 1, 4, 5] rfl)
          · refine lv_iconst (v := 0) hx hb dX8_hashOf_60 (by decide) ?_
            refine lv_goto (tgt := 72) hx hb dX8_hashOf_61 (by decide) ?_
            refine lv_iadd hx hb dX8_hashOf_72 ?_
            refine lv_istore_n (lv' := [(2, .int ((31 * w) + 0)), (6, .int (kdf a)), (4, .long (btf (sz + i))), (3, .int (nI i)), (0, .ref h0), (1, .int (nI a))]) hx hb dX8_hashOf_73 rfl hl (by decide) rfl (fun ls hl => ?_)
            refine lv_goto (tgt := 135) hx hb dX8_hashOf_74 (by decide) ?_
            refine lv_iinc (v := nI (i + 1)) (lv' := [(3, .int (nI (i + 1))), (2, .int ((31 * w) + 0)), (6, .int (kdf a)), (4, .long (btf (sz + i))), (0, .ref h0), (1, .int (nI a))]) hx hb dX8_hashOf_135 hl (k := 3) rfl (nI_1 _) (by decide) rfl (fun ls hl => ?_)
            refine lv_goto (tgt := 4) hx hb dX8_hashOf_138 (by decide) ?_
            exact ih (i + 1) ((31 * w) + 0) H locs ls (by omega) (by omega) hZ (lv_sub hl [0, 1, 4, 5] rfl)
  exact LP1 _ 0 1 H locs ls (by omega) (Nat.lt_succ_self _) hZ (lv_sub hl [0, 1, 2, 3] rfl)
theorem dg_X8_hash_0 : (decode cX8_hash 0 = .ok (.aload_n 0, 1)) ∧ (decode cX8_hash 1 = .ok (.iload_n 1, 1)) ∧ (decode cX8_hash 2 = .ok (.invokevirtual 200, 3)) ∧ (decode cX8_hash 5 = .ok (.ifCond .ne 10, 3)) ∧ (decode cX8_hash 8 = .ok (.aload_n 0, 1)) ∧ (decode cX8_hash 9 = .ok (.iconst 5, 1)) ∧ (decode cX8_hash 10 = .ok (.putfield 99, 3)) ∧ (decode cX8_hash 13 = .ok (.iconst 0, 1)) ∧ (decode cX8_hash 14 = .ok (.ireturn, 1)) ∧ (decode cX8_hash 15 = .ok (.aload_n 0, 1)) ∧ (decode cX8_hash 16 = .ok (.iconst 0, 1)) ∧ (decode cX8_hash 17 = .ok (.putfield 99, 3)) ∧ (decode cX8_hash 20 = .ok (.iconst 1, 1)) ∧ (decode cX8_hash 21 = .ok (.istore_n 2, 1)) ∧ (decode cX8_hash 22 = .ok (.iload_n 2, 1)) ∧ (decode cX8_hash 23 = .ok (.aload_n 0, 1)) := by decide +kernel
theorem dX8_hash_0 : decode cX8_hash 0 = .ok (.aload_n 0, 1) := dg_X8_hash_0.1
theorem dX8_hash_1 : decode cX8_hash 1 = .ok (.iload_n 1, 1) := dg_X8_hash_0.2.1
theorem dX8_hash_2 : decode cX8_hash 2 = .ok (.invokevirtual 200, 3) := dg_X8_hash_0.2.2.1
theorem dX8_hash_5 : decode cX8_hash 5 = .ok (.ifCond .ne 10, 3) := dg_X8_hash_0.2.2.2.1
theorem dX8_hash_8 : decode cX8_hash 8 = .ok (.aload_n 0, 1) := dg_X8_hash_0.2.2.2.2.1
theorem dX8_hash_9 : decode cX8_hash 9 = .ok (.iconst 5, 1) := dg_X8_hash_0.2.2.2.2.2.1
theorem dX8_hash_10 : decode cX8_hash 10 = .ok (.putfield 99, 3) := dg_X8_hash_0.2.2.2.2.2.2.1
theorem dX8_hash_13 : decode cX8_hash 13 = .ok (.iconst 0, 1) := dg_X8_hash_0.2.2.2.2.2.2.2.1
theorem dX8_hash_14 : decode cX8_hash 14 = .ok (.ireturn, 1) := dg_X8_hash_0.2.2.2.2.2.2.2.2.1
theorem dX8_hash_15 : decode cX8_hash 15 = .ok (.aload_n 0, 1) := dg_X8_hash_0.2.2.2.2.2.2.2.2.2.1
theorem dX8_hash_16 : decode cX8_hash 16 = .ok (.iconst 0, 1) := dg_X8_hash_0.2.2.2.2.2.2.2.2.2.2.1
theorem dX8_hash_17 : decode cX8_hash 17 = .ok (.putfield 99, 3) := dg_X8_hash_0.2.2.2.2.2.2.2.2.2.2.2.1
theorem dX8_hash_20 : decode cX8_hash 20 = .ok (.iconst 1, 1) := dg_X8_hash_0.2.2.2.2.2.2.2.2.2.2.2.2.1
theorem dX8_hash_21 : decode cX8_hash 21 = .ok (.istore_n 2, 1) := dg_X8_hash_0.2.2.2.2.2.2.2.2.2.2.2.2.2.1
theorem dX8_hash_22 : decode cX8_hash 22 = .ok (.iload_n 2, 1) := dg_X8_hash_0.2.2.2.2.2.2.2.2.2.2.2.2.2.2.1
theorem dX8_hash_23 : decode cX8_hash 23 = .ok (.aload_n 0, 1) := dg_X8_hash_0.2.2.2.2.2.2.2.2.2.2.2.2.2.2.2
theorem dg_X8_hash_24 : (decode cX8_hash 24 = .ok (.getfield 13, 3)) ∧ (decode cX8_hash 27 = .ok (.iload_n 1, 1)) ∧ (decode cX8_hash 28 = .ok (.iaload, 1)) ∧ (decode cX8_hash 29 = .ok (.if_icmp .ge 55, 3)) ∧ (decode cX8_hash 32 = .ok (.iconst 0, 1)) ∧ (decode cX8_hash 33 = .ok (.istore_n 3, 1)) ∧ (decode cX8_hash 34 = .ok (.iload_n 3, 1)) ∧ (decode cX8_hash 35 = .ok (.aload_n 0, 1)) ∧ (decode cX8_hash 36 = .ok (.getfield 103, 3)) ∧ (decode cX8_hash 39 = .ok (.if_icmp .ge 39, 3)) ∧ (decode cX8_hash 42 = .ok (.aload_n 0, 1)) ∧ (decode cX8_hash 43 = .ok (.getfield 54, 3)) ∧ (decode cX8_hash 46 = .ok (.iload_n 3, 1)) ∧ (decode cX8_hash 47 = .ok (.aload_n 0, 1)) ∧ (decode cX8_hash 48 = .ok (.getfield 13, 3)) ∧ (decode cX8_hash 51 = .ok (.iload_n 3, 1)) := by decide +kernel
theorem dX8_hash_24 : decode cX8_hash 24 = .ok (.getfield 13, 3) := dg_X8_hash_24.1
theorem dX8_hash_27 : decode cX8_hash 27 = .ok (.iload_n 1, 1) := dg_X8_hash_24.2.1
theorem dX8_hash_28 : decode cX8_hash 28 = .ok (.iaload, 1) := dg_X8_hash_24.2.2.1
theorem dX8_hash_29 : decode cX8_hash 29 = .ok (.if_icmp .ge 55, 3) := dg_X8_hash_24.2.2.2.1
theorem dX8_hash_32 : decode cX8_hash 32 = .ok (.iconst 0, 1) := dg_X8_hash_24.2.2.2.2.1
theorem dX8_hash_33 : decode cX8_hash 33 = .ok (.istore_n 3, 1) := dg_X8_hash_24.2.2.2.2.2.1
theorem dX8_hash_34 : decode cX8_hash 34 = .ok (.iload_n 3, 1) := dg_X8_hash_24.2.2.2.2.2.2.1
theorem dX8_hash_35 : decode cX8_hash 35 = .ok (.aload_n 0, 1) := dg_X8_hash_24.2.2.2.2.2.2.2.1
theorem dX8_hash_36 : decode cX8_hash 36 = .ok (.getfield 103, 3) := dg_X8_hash_24.2.2.2.2.2.2.2.2.1
theorem dX8_hash_39 : decode cX8_hash 39 = .ok (.if_icmp .ge 39, 3) := dg_X8_hash_24.2.2.2.2.2.2.2.2.2.1
theorem dX8_hash_42 : decode cX8_hash 42 = .ok (.aload_n 0, 1) := dg_X8_hash_24.2.2.2.2.2.2.2.2.2.2.1
theorem dX8_hash_43 : decode cX8_hash 43 = .ok (.getfield 54, 3) := dg_X8_hash_24.2.2.2.2.2.2.2.2.2.2.2.1
theorem dX8_hash_46 : decode cX8_hash 46 = .ok (.iload_n 3, 1) := dg_X8_hash_24.2.2.2.2.2.2.2.2.2.2.2.2.1
theorem dX8_hash_47 : decode cX8_hash 47 = .ok (.aload_n 0, 1) := dg_X8_hash_24.2.2.2.2.2.2.2.2.2.2.2.2.2.1
theorem dX8_hash_48 : decode cX8_hash 48 = .ok (.getfield 13, 3) := dg_X8_hash_24.2.2.2.2.2.2.2.2.2.2.2.2.2.2.1
theorem dX8_hash_51 : decode cX8_hash 51 = .ok (.iload_n 3, 1) := dg_X8_hash_24.2.2.2.2.2.2.2.2.2.2.2.2.2.2.2
theorem dg_X8_hash_52 : (decode cX8_hash 52 = .ok (.iaload, 1)) ∧ (decode cX8_hash 53 = .ok (.iload_n 2, 1)) ∧ (decode cX8_hash 54 = .ok (.if_icmp .ne 11, 3)) ∧ (decode cX8_hash 57 = .ok (.aload_n 0, 1)) ∧ (decode cX8_hash 58 = .ok (.iload_n 3, 1)) ∧ (decode cX8_hash 59 = .ok (.invokevirtual 245, 3)) ∧ (decode cX8_hash 62 = .ok (.goto 9, 3)) ∧ (decode cX8_hash 65 = .ok (.aload_n 0, 1)) ∧ (decode cX8_hash 66 = .ok (.getfield 54, 3)) ∧ (decode cX8_hash 69 = .ok (.iload_n 3, 1)) ∧ (decode cX8_hash 70 = .ok (.iaload, 1)) ∧ (decode cX8_hash 71 = .ok (.iastore, 1)) ∧ (decode cX8_hash 72 = .ok (.iinc 3 1, 3)) ∧ (decode cX8_hash 75 = .ok (.goto (-41), 3)) ∧ (decode cX8_hash 78 = .ok (.iinc 2 1, 3)) ∧ (decode cX8_hash 81 = .ok (.goto (-59), 3)) := by decide +kernel
theorem dX8_hash_52 : decode cX8_hash 52 = .ok (.iaload, 1) := dg_X8_hash_52.1
theorem dX8_hash_53 : decode cX8_hash 53 = .ok (.iload_n 2, 1) := dg_X8_hash_52.2.1
theorem dX8_hash_54 : decode cX8_hash 54 = .ok (.if_icmp .ne 11, 3) := dg_X8_hash_52.2.2.1
theorem dX8_hash_57 : decode cX8_hash 57 = .ok (.aload_n 0, 1) := dg_X8_hash_52.2.2.2.1
theorem dX8_hash_58 : decode cX8_hash 58 = .ok (.iload_n 3, 1) := dg_X8_hash_52.2.2.2.2.1
theorem dX8_hash_59 : decode cX8_hash 59 = .ok (.invokevirtual 245, 3) := dg_X8_hash_52.2.2.2.2.2.1
theorem dX8_hash_62 : decode cX8_hash 62 = .ok (.goto 9, 3) := dg_X8_hash_52.2.2.2.2.2.2.1
theorem dX8_hash_65 : decode cX8_hash 65 = .ok (.aload_n 0, 1) := dg_X8_hash_52.2.2.2.2.2.2.2.1
theorem dX8_hash_66 : decode cX8_hash 66 = .ok (.getfield 54, 3) := dg_X8_hash_52.2.2.2.2.2.2.2.2.1
theorem dX8_hash_69 : decode cX8_hash 69 = .ok (.iload_n 3, 1) := dg_X8_hash_52.2.2.2.2.2.2.2.2.2.1
theorem dX8_hash_70 : decode cX8_hash 70 = .ok (.iaload, 1) := dg_X8_hash_52.2.2.2.2.2.2.2.2.2.2.1
theorem dX8_hash_71 : decode cX8_hash 71 = .ok (.iastore, 1) := dg_X8_hash_52.2.2.2.2.2.2.2.2.2.2.2.1
theorem dX8_hash_72 : decode cX8_hash 72 = .ok (.iinc 3 1, 3) := dg_X8_hash_52.2.2.2.2.2.2.2.2.2.2.2.2.1
theorem dX8_hash_75 : decode cX8_hash 75 = .ok (.goto (-41), 3) := dg_X8_hash_52.2.2.2.2.2.2.2.2.2.2.2.2.2.1
theorem dX8_hash_78 : decode cX8_hash 78 = .ok (.iinc 2 1, 3) := dg_X8_hash_52.2.2.2.2.2.2.2.2.2.2.2.2.2.2.1
theorem dX8_hash_81 : decode cX8_hash 81 = .ok (.goto (-59), 3) := dg_X8_hash_52.2.2.2.2.2.2.2.2.2.2.2.2.2.2.2
theorem dg_X8_hash_84 : (decode cX8_hash 84 = .ok (.aload_n 0, 1)) ∧ (decode cX8_hash 85 = .ok (.iload_n 1, 1)) ∧ (decode cX8_hash 86 = .ok (.invokevirtual 245, 3)) ∧ (decode cX8_hash 89 = .ok (.ireturn, 1)) := by decide +kernel
theorem dX8_hash_84 : decode cX8_hash 84 = .ok (.aload_n 0, 1) := dg_X8_hash_84.1
theorem dX8_hash_85 : decode cX8_hash 85 = .ok (.iload_n 1, 1) := dg_X8_hash_84.2.1
theorem dX8_hash_86 : decode cX8_hash 86 = .ok (.invokevirtual 245, 3) := dg_X8_hash_84.2.2.1
theorem dX8_hash_89 : decode cX8_hash 89 = .ok (.ireturn, 1) := dg_X8_hash_84.2.2.2
theorem zk_1028 : Cond.methodLink RX8 245 yX8_hashOf ∈ zz_w := zz_in (List.mem_append_right _ (List.mem_append_right _ (List.mem_append_right _ (List.mem_append_right _ (List.mem_append_right _ (List.mem_of_getElem? (i := 68) (by decide +kernel))))))) rfl
set_option maxRecDepth 20000 in
theorem zk_1031 : Cond.code yX8_hashOf cX8_hashOf 7 (some .int) ∈ zz_w := zz_in (List.mem_append_right _ (List.mem_append_right _ (List.mem_append_right _ (List.mem_append_right _ (List.mem_append_right _ (List.mem_of_getElem? (i := 71) (rfl))))))) rfl
theorem zk_1030 : Cond.instanceMethod yX8_hashOf ∈ zz_w := zz_in (List.mem_append_right _ (List.mem_append_right _ (List.mem_append_right _ (List.mem_append_right _ (List.mem_append_right _ (List.mem_of_getElem? (i := 70) (by decide +kernel))))))) rfl
theorem zs_28 : Cond.selects RX8 yX8_hashOf yX8_hashOf ∈ zz_w := zz_in (List.mem_append_left _ (List.mem_of_getElem? (i := 28) (by decide +kernel))) rfl
theorem zc_X8_245 : zz_cV RX8 245 yX8_hashOf cX8_hashOf 7 (some .int) 1 := ⟨⟨zk_1028, zk_1031, zk_7, by decide, by decide, by decide +kernel⟩, zk_1030, zs_28⟩
abbrev rm_my_hash : Room := { frames := 2, cells := 0, slots := 0, locals := 46 }
abbrev po_my_hash (g : zz_G) (h0 : Nat) (a_kindOf : Nat) (a_depthOf : Nat) (a_lengthOf : Nat) (a_classOf : Nat) (a_baseOf : Nat) (a_bits : Nat) (a_pinned : Nat) (a_lengths : Nat) (a_stackArray : Nat) (a_stackOther : Nat) (a_stackAt : Nat) (a_path : Nat) (a_held : Nat) (a_alike : Nat) (a_hashes : Nat) (a_decisionArray : Nat) (a_decisionPlace : Nat) (a_candidateMany : Nat) (a_candidates : Nat) (a_ruleSort : Nat) (a_ruleArray : Nat) (a_ruleWeight : Nat) (a_ruleLow : Nat) (a_ruleHigh : Nat) (a_chosen : Nat) (a_bestOf : Nat) (a_markElements : Nat) (a_markBits : Nat) (a_markPins : Nat) (na : Nat) (ne : Nat) (nd : Nat) (nr : Nat) (nm : Nat) (i_code : Int32) (i_lastArray : Int32) (i_lastPlace : Int32) (kdf : Nat → Int32) (dpf : Nat → Int32) (lnf : Nat → Int32) (saf : Nat → Int32) (btf : Nat → Int64) (haf : Nat → Int32) (x1 : Int32) (h_M : zz_MI na ne dpf saf lnf btf) : Int32 → va_W → Prop := fun (r : Int32) (u : va_W) => ∃ (k_c : Int32) (k_a : Int32) (k_p : Int32) (ha2 : Nat → Int32), u = [cw_k7 h0 (nI na) (nI ne) a_kindOf a_depthOf a_lengthOf a_classOf a_baseOf a_bits a_pinned k_c a_lengths a_stackArray a_stackOther a_stackAt k_a k_p a_path a_held a_alike a_hashes (nI nd) a_decisionArray a_decisionPlace a_candidateMany a_candidates (nI nr) a_ruleSort a_ruleArray a_ruleWeight a_ruleLow a_ruleHigh a_chosen a_bestOf (nI nm) a_markElements a_markBits a_markPins, cw_i g a_kindOf 60 kdf, cw_i g a_depthOf 60 dpf, cw_i g a_lengthOf 60 lnf, cw_i g a_baseOf 60 saf, cw_l g a_bits 4000 btf, cw_i g a_hashes 60 ha2]
set_option maxHeartbeats 4000000 in
set_option maxRecDepth 100000 in
theorem my_hash (g : zz_G) (h0 : Nat) (a_kindOf : Nat) (a_depthOf : Nat) (a_lengthOf : Nat) (a_classOf : Nat) (a_baseOf : Nat) (a_bits : Nat) (a_pinned : Nat) (a_lengths : Nat) (a_stackArray : Nat) (a_stackOther : Nat) (a_stackAt : Nat) (a_path : Nat) (a_held : Nat) (a_alike : Nat) (a_hashes : Nat) (a_decisionArray : Nat) (a_decisionPlace : Nat) (a_candidateMany : Nat) (a_candidates : Nat) (a_ruleSort : Nat) (a_ruleArray : Nat) (a_ruleWeight : Nat) (a_ruleLow : Nat) (a_ruleHigh : Nat) (a_chosen : Nat) (a_bestOf : Nat) (a_markElements : Nat) (a_markBits : Nat) (a_markPins : Nat) (na : Nat) (ne : Nat) (nd : Nat) (nr : Nat) (nm : Nat) (i_code : Int32) (i_lastArray : Int32) (i_lastPlace : Int32) (kdf : Nat → Int32) (dpf : Nat → Int32) (lnf : Nat → Int32) (saf : Nat → Int32) (btf : Nat → Int64) (haf : Nat → Int32) (x1 : Int32) (h_M : zz_MI na ne dpf saf lnf btf) : zz_I g yX8_hash (.code yX8_hash cX8_hash 4 (some .int)) rm_my_hash [.ref h0, .int x1] [cw_k7 h0 (nI na) (nI ne) a_kindOf a_depthOf a_lengthOf a_classOf a_baseOf a_bits a_pinned i_code a_lengths a_stackArray a_stackOther a_stackAt i_lastArray i_lastPlace a_path a_held a_alike a_hashes (nI nd) a_decisionArray a_decisionPlace a_candidateMany a_candidates (nI nr) a_ruleSort a_ruleArray a_ruleWeight a_ruleLow a_ruleHigh a_chosen a_bestOf (nI nm) a_markElements a_markBits a_markPins, cw_i g a_kindOf 60 kdf, cw_i g a_depthOf 60 dpf, cw_i g a_lengthOf 60 lnf, cw_i g a_baseOf 60 saf, cw_l g a_bits 4000 btf, cw_i g a_hashes 60 haf] (po_my_hash g h0 a_kindOf a_depthOf a_lengthOf a_classOf a_baseOf a_bits a_pinned a_lengths a_stackArray a_stackOther a_stackAt a_path a_held a_alike a_hashes a_decisionArray a_decisionPlace a_candidateMany a_candidates a_ruleSort a_ruleArray a_ruleWeight a_ruleLow a_ruleHigh a_chosen a_bestOf a_markElements a_markBits a_markPins na ne nd nr nm i_code i_lastArray i_lastPlace kdf dpf lnf saf btf haf x1 h_M) := by
  refine zz_I.intro (own := RX8) (cc := cX8_hash) (nL := 4) (by decide) rfl (Nat.le_of_ble_eq_true rfl) ?_
  intro p l e s m args below meth c A H locs ls hC hnm hs hZ hl
  obtain ⟨hx, hb, hml, hown, hts, hr, hlocks, hK⟩ := id hC
  have hl : lv_has ls 4 [(0, .ref h0), (1, .int x1)] := hl
  have hZ : zz_Z g A s.heap [cw_k7 h0 (nI na) (nI ne) a_kindOf a_depthOf a_lengthOf a_classOf a_baseOf a_bits a_pinned i_code a_lengths a_stackArray a_stackOther a_stackAt i_lastArray i_lastPlace a_path a_held a_alike a_hashes (nI nd) a_decisionArray a_decisionPlace a_candidateMany a_candidates (nI nr) a_ruleSort a_ruleArray a_ruleWeight a_ruleLow a_ruleHigh a_chosen a_bestOf (nI nm) a_markElements a_markBits a_markPins, cw_i g a_kindOf 60 kdf, cw_i g a_depthOf 60 dpf, cw_i g a_lengthOf 60 lnf, cw_i g a_baseOf 60 saf, cw_l g a_bits 4000 btf, cw_i g a_hashes 60 haf] H locs := hZ
  have h_S := h_M.1
  have hna := h_S.1
  have hne := h_S.2.1
  refine lv_aload_n hx hb dX8_hash_0 rfl (lv_at hl 0 rfl) ?_
  refine lv_iload_n hx hb dX8_hash_1 rfl (lv_at hl 1 rfl) ?_
  refine zz_iV (As := [.int x1]) (wc := [cw_k7 h0 (nI na) (nI ne) a_kindOf a_depthOf a_lengthOf a_classOf a_baseOf a_bits a_pinned i_code a_lengths a_stackArray a_stackOther a_stackAt i_lastArray i_lastPlace a_path a_held a_alike a_hashes (nI nd) a_decisionArray a_decisionPlace a_candidateMany a_candidates (nI nr) a_ruleSort a_ruleArray a_ruleWeight a_ruleLow a_ruleHigh a_chosen a_bestOf (nI nm) a_markElements a_markBits a_markPins]) (wr := [cw_i g a_kindOf 60 kdf, cw_i g a_depthOf 60 dpf, cw_i g a_lengthOf 60 lnf, cw_i g a_baseOf 60 saf, cw_l g a_bits 4000 btf, cw_i g a_hashes 60 haf]) (rest := []) hC hZ hs hl zc_X8_200 (cm_isArray g h0 a_kindOf a_depthOf a_lengthOf a_classOf a_baseOf a_bits a_pinned a_lengths a_stackArray a_stackOther a_stackAt a_path a_held a_alike a_hashes a_decisionArray a_decisionPlace a_candidateMany a_candidates a_ruleSort a_ruleArray a_ruleWeight a_ruleLow a_ruleHigh a_chosen a_bestOf a_markElements a_markBits a_markPins (nI na) (nI ne) i_code i_lastArray i_lastPlace (nI nd) (nI nr) (nI nm) x1) [0] [1, 2, 3, 4, 5, 6] rfl rfl (by decide +kernel) (ci := 7) (q0 := 0) rfl rfl rfl rfl (Nat.le_of_ble_eq_true rfl) ⟨⟨Nat.le_of_ble_eq_true rfl, Nat.le_of_ble_eq_true rfl⟩, Nat.le_of_ble_eq_true rfl, Nat.le_of_ble_eq_true rfl⟩ dX8_hash_2 (fun r1 u2 H locs hp hZ => ?_)
  obtain ⟨rfl, rfl⟩ := hp
  have hZ : zz_Z g A s.heap [cw_i g a_kindOf 60 kdf, cw_i g a_depthOf 60 dpf, cw_i g a_lengthOf 60 lnf, cw_i g a_baseOf 60 saf, cw_l g a_bits 4000 btf, cw_i g a_hashes 60 haf, cw_k7 h0 (nI na) (nI ne) a_kindOf a_depthOf a_lengthOf a_classOf a_baseOf a_bits a_pinned i_code a_lengths a_stackArray a_stackOther a_stackAt i_lastArray i_lastPlace a_path a_held a_alike a_hashes (nI nd) a_decisionArray a_decisionPlace a_candidateMany a_candidates (nI nr) a_ruleSort a_ruleArray a_ruleWeight a_ruleLow a_ruleHigh a_chosen a_bestOf (nI nm) a_markElements a_markBits a_markPins] H locs := hZ
  refine lv_if_ne (tgt := 15) hx hb dX8_hash_5 (by decide) (fun c3 => ?_) (fun c3 => ?_)
  · obtain ⟨a1, ha1, ea1⟩ := zl_isA (by omega) c3
    have hl : lv_has ls 4 [(0, .ref h0), (1, .int (nI a1))] := by rw [← ea1]; exact hl
    obtain ⟨sz1, lz1, dz1, es1, el1, ed1, g11, g21, g31, g41⟩ := h_S.2.2 a1 ha1
    refine lv_aload_n hx hb dX8_hash_15 rfl (lv_at hl 0 rfl) ?_
    refine lv_iconst (v := 0) hx hb dX8_hash_16 (by decide) ?_
    refine zz_put hC hZ 6 rfl zu_X8_99 (Nat.le_of_ble_eq_true rfl) dX8_hash_17 (fun H locs hZ => ?_)
    have hZ : zz_Z g A s.heap [cw_i g a_kindOf 60 kdf, cw_i g a_depthOf 60 dpf, cw_i g a_lengthOf 60 lnf, cw_i g a_baseOf 60 saf, cw_l g a_bits 4000 btf, cw_i g a_hashes 60 haf, cw_k7 h0 (nI na) (nI ne) a_kindOf a_depthOf a_lengthOf a_classOf a_baseOf a_bits a_pinned 0 a_lengths a_stackArray a_stackOther a_stackAt i_lastArray i_lastPlace a_path a_held a_alike a_hashes (nI nd) a_decisionArray a_decisionPlace a_candidateMany a_candidates (nI nr) a_ruleSort a_ruleArray a_ruleWeight a_ruleLow a_ruleHigh a_chosen a_bestOf (nI nm) a_markElements a_markBits a_markPins] H locs := hZ
    refine lv_iconst (v := 1) hx hb dX8_hash_20 (by decide) ?_
    refine lv_istore_n (lv' := [(2, .int 1), (0, .ref h0), (1, .int (nI a1))]) hx hb dX8_hash_21 rfl hl (by decide) rfl (fun ls hl => ?_)
    have LP4 : ∀ (N4 : Nat) (i1 : Nat) (ha1 : Nat → Int32) (H : Heap) (locs : List Loc) (ls : Array Slot), (i1 ≤ 4) → (4 - i1) < N4 → zz_Z g A s.heap [cw_i g a_kindOf 60 kdf, cw_i g a_depthOf 60 dpf, cw_i g a_lengthOf 60 lnf, cw_i g a_baseOf 60 saf, cw_l g a_bits 4000 btf, cw_i g a_hashes 60 ha1, cw_k7 h0 (nI na) (nI ne) a_kindOf a_depthOf a_lengthOf a_classOf a_baseOf a_bits a_pinned 0 a_lengths a_stackArray a_stackOther a_stackAt i_lastArray i_lastPlace a_path a_held a_alike a_hashes (nI nd) a_decisionArray a_decisionPlace a_candidateMany a_candidates (nI nr) a_ruleSort a_ruleArray a_ruleWeight a_ruleLow a_ruleHigh a_chosen a_bestOf (nI nm) a_markElements a_markBits a_markPins] H locs → lv_has ls 4 [(2, .int (nI i1)), (0, .ref h0), (1, .int (nI a1))] → W p l e rm_my_hash s m args below meth c H locs 0 0 (zz_QI below g args s A rm_my_hash.cells rm_my_hash.slots (po_my_hash g h0 a_kindOf a_depthOf a_lengthOf a_classOf a_baseOf a_bits a_pinned a_lengths a_stackArray a_stackOther a_stackAt a_path a_held a_alike a_hashes a_decisionArray a_decisionPlace a_candidateMany a_candidates a_ruleSort a_ruleArray a_ruleWeight a_ruleLow a_ruleHigh a_chosen a_bestOf a_markElements a_markBits a_markPins na ne nd nr nm i_code i_lastArray i_lastPlace kdf dpf lnf saf btf haf x1 h_M)) (F0 m 22 ls []) := by
      intro N4
      induction N4 with
      | zero =>
        intro i1 ha1 H locs ls h1 hN4
        exact absurd hN4 (Nat.not_lt_zero _)
      | succ N4 ih4 =>
        intro i1 ha1 H locs ls h1 hN4 hZ hl
        refine lv_iload_n hx hb dX8_hash_22 rfl (lv_at hl 0 rfl) ?_
        refine lv_aload_n hx hb dX8_hash_23 rfl (lv_at hl 1 rfl) ?_
        refine zz_get hC hZ 6 rfl zf_X8_13 rfl dX8_hash_24 ?_
        refine lv_iload_n hx hb dX8_hash_27 rfl (lv_at hl 2 rfl) ?_
        refine zz_iald hC hZ 1 rfl (vp_in_nI (by omega) (by decide)) dX8_hash_28 ?_
        rw [nI_clamp (n := a1) (by omega)]
        refine zz_topi (v := nI dz1) (ed1) ?_
        refine lv_icmp_ge (tgt := 84) hx hb dX8_hash_29 (by decide) (fun c5 => ?_) (fun c5 => ?_)
        · have nc5 : dz1 ≤ i1 := (nI_leI (by omega) (by omega)).mp (show nI (dz1) ≤ nI (i1) from c5)
          refine lv_aload_n hx hb dX8_hash_84 rfl (lv_at hl 1 rfl) ?_
          refine lv_iload_n hx hb dX8_hash_85 rfl (lv_at hl 2 rfl) ?_
          refine zz_iV (As := [.int (nI a1)]) (wc := [cw_k7 h0 (nI na) (nI ne) a_kindOf a_depthOf a_lengthOf a_classOf a_baseOf a_bits a_pinned 0 a_lengths a_stackArray a_stackOther a_stackAt i_lastArray i_lastPlace a_path a_held a_alike a_hashes (nI nd) a_decisionArray a_decisionPlace a_candidateMany a_candidates (nI nr) a_ruleSort a_ruleArray a_ruleWeight a_ruleLow a_ruleHigh a_chosen a_bestOf (nI nm) a_markElements a_markBits a_markPins, cw_i g a_kindOf 60 kdf, cw_i g a_depthOf 60 dpf, cw_i g a_lengthOf 60 lnf, cw_i g a_baseOf 60 saf, cw_l g a_bits 4000 btf, cw_i g a_hashes 60 ha1]) (wr := []) (rest := []) hC hZ hs hl zc_X8_245 (cm_hashOf g h0 a_kindOf a_depthOf a_lengthOf a_classOf a_baseOf a_bits a_pinned a_lengths a_stackArray a_stackOther a_stackAt a_path a_held a_alike a_hashes a_decisionArray a_decisionPlace a_candidateMany a_candidates a_ruleSort a_ruleArray a_ruleWeight a_ruleLow a_ruleHigh a_chosen a_bestOf a_markElements a_markBits a_markPins na ne nd nr nm 0 i_lastArray i_lastPlace kdf dpf lnf saf btf ha1 a1 (h_M) (by omega)) [6, 0, 1, 2, 3, 4, 5] [] rfl rfl (by decide +kernel) (ci := 7) (q0 := 0) rfl rfl rfl rfl (Nat.le_of_ble_eq_true rfl) ⟨⟨Nat.le_of_ble_eq_true rfl, Nat.le_of_ble_eq_true rfl⟩, Nat.le_of_ble_eq_true rfl, Nat.le_of_ble_eq_true rfl⟩ dX8_hash_86 (fun r6 u7 H locs hp hZ => ?_)
          obtain rfl := hp
          have hZ : zz_Z g A s.heap [cw_k7 h0 (nI na) (nI ne) a_kindOf a_depthOf a_lengthOf a_classOf a_baseOf a_bits a_pinned 0 a_lengths a_stackArray a_stackOther a_stackAt i_lastArray i_lastPlace a_path a_held a_alike a_hashes (nI nd) a_decisionArray a_decisionPlace a_candidateMany a_candidates (nI nr) a_ruleSort a_ruleArray a_ruleWeight a_ruleLow a_ruleHigh a_chosen a_bestOf (nI nm) a_markElements a_markBits a_markPins, cw_i g a_kindOf 60 kdf, cw_i g a_depthOf 60 dpf, cw_i g a_lengthOf 60 lnf, cw_i g a_baseOf 60 saf, cw_l g a_bits 4000 btf, cw_i g a_hashes 60 ha1] H locs := hZ
          exact zz_iret hC hZ (⟨0, i_lastArray, i_lastPlace, ha1, rfl⟩) (Nat.le_of_ble_eq_true rfl) (Nat.le_of_ble_eq_true rfl) dX8_hash_89
        · have nc5 : ¬ dz1 ≤ i1 := fun zq => c5 (show nI (dz1) ≤ nI (i1) from (nI_leI (by omega) (by omega)).mpr zq)
          refine lv_iconst (v := 0) hx hb dX8_hash_32 (by decide) ?_
          refine lv_istore_n (lv' := [(3, .int 0), (2, .int (nI i1)), (0, .ref h0), (1, .int (nI a1))]) hx hb dX8_hash_33 rfl hl (by decide) rfl (fun ls hl => ?_)
          have LP8 : ∀ (N8 : Nat) (i2 : Nat) (ha2 : Nat → Int32) (H : Heap) (locs : List Loc) (ls : Array Slot), (i2 ≤ na) → (na - i2) < N8 → zz_Z g A s.heap [cw_i g a_kindOf 60 kdf, cw_i g a_depthOf 60 dpf, cw_i g a_lengthOf 60 lnf, cw_i g a_baseOf 60 saf, cw_l g a_bits 4000 btf, cw_i g a_hashes 60 ha2, cw_k7 h0 (nI na) (nI ne) a_kindOf a_depthOf a_lengthOf a_classOf a_baseOf a_bits a_pinned 0 a_lengths a_stackArray a_stackOther a_stackAt i_lastArray i_lastPlace a_path a_held a_alike a_hashes (nI nd) a_decisionArray a_decisionPlace a_candidateMany a_candidates (nI nr) a_ruleSort a_ruleArray a_ruleWeight a_ruleLow a_ruleHigh a_chosen a_bestOf (nI nm) a_markElements a_markBits a_markPins] H locs → lv_has ls 4 [(3, .int (nI i2)), (2, .int (nI i1)), (0, .ref h0), (1, .int (nI a1))] → W p l e rm_my_hash s m args below meth c H locs 0 0 (zz_QI below g args s A rm_my_hash.cells rm_my_hash.slots (po_my_hash g h0 a_kindOf a_depthOf a_lengthOf a_classOf a_baseOf a_bits a_pinned a_lengths a_stackArray a_stackOther a_stackAt a_path a_held a_alike a_hashes a_decisionArray a_decisionPlace a_candidateMany a_candidates a_ruleSort a_ruleArray a_ruleWeight a_ruleLow a_ruleHigh a_chosen a_bestOf a_markElements a_markBits a_markPins na ne nd nr nm i_code i_lastArray i_lastPlace kdf dpf lnf saf btf haf x1 h_M)) (F0 m 34 ls []) := by
            intro N8
            induction N8 with
            | zero =>
              intro i2 ha2 H locs ls h2 hN8
              exact absurd hN8 (Nat.not_lt_zero _)
            | succ N8 ih8 =>
              intro i2 ha2 H locs ls h2 hN8 hZ hl
              refine lv_iload_n hx hb dX8_hash_34 rfl (lv_at hl 0 rfl) ?_
              refine lv_aload_n hx hb dX8_hash_35 rfl (lv_at hl 2 rfl) ?_
              refine zz_get hC hZ 6 rfl zf_X8_103 rfl dX8_hash_36 ?_
              refine lv_icmp_ge (tgt := 78) hx hb dX8_hash_39 (by decide) (fun c9 => ?_) (fun c9 => ?_)
              · have nc9 : na ≤ i2 := (nI_leI (by omega) (by omega)).mp (show nI (na) ≤ nI (i2) from c9)
                refine lv_iinc (v := nI (i1 + 1)) (lv' := [(2, .int (nI (i1 + 1))), (3, .int (nI i2)), (0, .ref h0), (1, .int (nI a1))]) hx hb dX8_hash_78 hl (k := 1) rfl (nI_1 _) (by decide) rfl (fun ls hl => ?_)
                refine lv_goto (tgt := 22) hx hb dX8_hash_81 (by decide) ?_
                exact ih4 (i1 + 1) ha2 H locs ls (by omega) (by omega) hZ (lv_sub hl [0, 2, 3] rfl)
              · have nc9 : ¬ na ≤ i2 := fun zq => c9 (show nI (na) ≤ nI (i2) from (nI_leI (by omega) (by omega)).mpr zq)
                refine lv_aload_n hx hb dX8_hash_42 rfl (lv_at hl 2 rfl) ?_
                refine zz_get hC hZ 6 rfl zf_X8_54 rfl dX8_hash_43 ?_
                refine lv_iload_n hx hb dX8_hash_46 rfl (lv_at hl 0 rfl) ?_
                refine lv_aload_n hx hb dX8_hash_47 rfl (lv_at hl 2 rfl) ?_
                refine zz_get hC hZ 6 rfl zf_X8_13 rfl dX8_hash_48 ?_
                refine lv_iload_n hx hb dX8_hash_51 rfl (lv_at hl 0 rfl) ?_
                refine zz_iald hC hZ 1 rfl (vp_in_nI (by omega) (by decide)) dX8_hash_52 ?_
                rw [nI_clamp (n := i2) (by omega)]
                refine lv_iload_n hx hb dX8_hash_53 rfl (lv_at hl 1 rfl) ?_
                refine lv_icmp_ne (tgt := 65) hx hb dX8_hash_54 (by decide) (fun c10 => ?_) (fun c10 => ?_)
                · refine lv_aload_n hx hb dX8_hash_65 rfl (lv_at hl 2 rfl) ?_
                  refine zz_get hC hZ 6 rfl zf_X8_54 rfl dX8_hash_66 ?_
                  refine lv_iload_n hx hb dX8_hash_69 rfl (lv_at hl 0 rfl) ?_
                  refine zz_iald hC hZ 5 rfl (vp_in_nI (by omega) (by decide)) dX8_hash_70 ?_
                  rw [nI_clamp (n := i2) (by omega)]
                  refine zz_iast hC hZ 5 rfl (vp_in_nI (by omega) (by decide)) dX8_hash_71 (fun H locs hZ => ?_)
                  rw [nI_clamp (n := i2) (by omega)] at hZ
                  have hZ : zz_Z g A s.heap [cw_i g a_kindOf 60 kdf, cw_i g a_depthOf 60 dpf, cw_i g a_lengthOf 60 lnf, cw_i g a_baseOf 60 saf, cw_l g a_bits 4000 btf, cw_i g a_hashes 60 (upd ha2 i2 (ha2 i2)), cw_k7 h0 (nI na) (nI ne) a_kindOf a_depthOf a_lengthOf a_classOf a_baseOf a_bits a_pinned 0 a_lengths a_stackArray a_stackOther a_stackAt i_lastArray i_lastPlace a_path a_held a_alike a_hashes (nI nd) a_decisionArray a_decisionPlace a_candidateMany a_candidates (nI nr) a_ruleSort a_ruleArray a_ruleWeight a_ruleLow a_ruleHigh a_chosen a_bestOf (nI nm) a_markElements a_markBits a_markPins] H locs := hZ
                  refine lv_iinc (v := nI (i2 + 1)) (lv' := [(3, .int (nI (i2 + 1))), (2, .int (nI i1)), (0, .ref h0), (1, .int (nI a1))]) hx hb dX8_hash_72 hl (k := 0) rfl (nI_1 _) (by decide) rfl (fun ls hl => ?_)
                  refine lv_goto (tgt := 34) hx hb dX8_hash_75 (by decide) ?_
                  exact ih8 (i2 + 1) (upd ha2 i2 (ha2 i2)) H locs ls (by omega) (by omega) hZ (lv_sub hl [0, 1, 2, 3] rfl)
                · refine lv_aload_n hx hb dX8_hash_57 rfl (lv_at hl 2 rfl) ?_
                  refine lv_iload_n hx hb dX8_hash_58 rfl (lv_at hl 0 rfl) ?_
                  refine zz_iV (As := [.int (nI i2)]) (wc := [cw_k7 h0 (nI na) (nI ne) a_kindOf a_depthOf a_lengthOf a_classOf a_baseOf a_bits a_pinned 0 a_lengths a_stackArray a_stackOther a_stackAt i_lastArray i_lastPlace a_path a_held a_alike a_hashes (nI nd) a_decisionArray a_decisionPlace a_candidateMany a_candidates (nI nr) a_ruleSort a_ruleArray a_ruleWeight a_ruleLow a_ruleHigh a_chosen a_bestOf (nI nm) a_markElements a_markBits a_markPins, cw_i g a_kindOf 60 kdf, cw_i g a_depthOf 60 dpf, cw_i g a_lengthOf 60 lnf, cw_i g a_baseOf 60 saf, cw_l g a_bits 4000 btf, cw_i g a_hashes 60 ha2]) (wr := []) (rest := [.int (nI i2), .ref a_hashes]) hC hZ hs hl zc_X8_245 (cm_hashOf g h0 a_kindOf a_depthOf a_lengthOf a_classOf a_baseOf a_bits a_pinned a_lengths a_stackArray a_stackOther a_stackAt a_path a_held a_alike a_hashes a_decisionArray a_decisionPlace a_candidateMany a_candidates a_ruleSort a_ruleArray a_ruleWeight a_ruleLow a_ruleHigh a_chosen a_bestOf a_markElements a_markBits a_markPins na ne nd nr nm 0 i_lastArray i_lastPlace kdf dpf lnf saf btf ha2 i2 (h_M) (by omega)) [6, 0, 1, 2, 3, 4, 5] [] rfl rfl (by decide +kernel) (ci := 7) (q0 := 0) rfl rfl rfl rfl (Nat.le_of_ble_eq_true rfl) ⟨⟨Nat.le_of_ble_eq_true rfl, Nat.le_of_ble_eq_true rfl⟩, Nat.le_of_ble_eq_true rfl, Nat.le_of_ble_eq_true rfl⟩ dX8_hash_59 (fun r11 u12 H locs hp hZ => ?_)
                  obtain rfl := hp
                  have hZ : zz_Z g A s.heap [cw_k7 h0 (nI na) (nI ne) a_kindOf a_depthOf a_lengthOf a_classOf a_baseOf a_bits a_pinned 0 a_lengths a_stackArray a_stackOther a_stackAt i_lastArray i_lastPlace a_path a_held a_alike a_hashes (nI nd) a_decisionArray a_decisionPlace a_candidateMany a_candidates (nI nr) a_ruleSort a_ruleArray a_ruleWeight a_ruleLow a_ruleHigh a_chosen a_bestOf (nI nm) a_markElements a_markBits a_markPins, cw_i g a_kindOf 60 kdf, cw_i g a_depthOf 60 dpf, cw_i g a_lengthOf 60 lnf, cw_i g a_baseOf 60 saf, cw_l g a_bits 4000 btf, cw_i g a_hashes 60 ha2] H locs := hZ
                  refine lv_goto (tgt := 71) hx hb dX8_hash_62 (by decide) ?_
                  refine zz_iast hC hZ 6 rfl (vp_in_nI (by omega) (by decide)) dX8_hash_71 (fun H locs hZ => ?_)
                  rw [nI_clamp (n := i2) (by omega)] at hZ
                  have hZ : zz_Z g A s.heap [cw_k7 h0 (nI na) (nI ne) a_kindOf a_depthOf a_lengthOf a_classOf a_baseOf a_bits a_pinned 0 a_lengths a_stackArray a_stackOther a_stackAt i_lastArray i_lastPlace a_path a_held a_alike a_hashes (nI nd) a_decisionArray a_decisionPlace a_candidateMany a_candidates (nI nr) a_ruleSort a_ruleArray a_ruleWeight a_ruleLow a_ruleHigh a_chosen a_bestOf (nI nm) a_markElements a_markBits a_markPins, cw_i g a_kindOf 60 kdf, cw_i g a_depthOf 60 dpf, cw_i g a_lengthOf 60 lnf, cw_i g a_baseOf 60 saf, cw_l g a_bits 4000 btf, cw_i g a_hashes 60 (upd ha2 i2 r11)] H locs := hZ
                  refine lv_iinc (v := nI (i2 + 1)) (lv' := [(3, .int (nI (i2 + 1))), (2, .int (nI i1)), (0, .ref h0), (1, .int (nI a1))]) hx hb dX8_hash_72 hl (k := 0) rfl (nI_1 _) (by decide) rfl (fun ls hl => ?_)
                  refine lv_goto (tgt := 34) hx hb dX8_hash_75 (by decide) ?_
                  exact ih8 (i2 + 1) (upd ha2 i2 r11) H locs ls (by omega) (by omega) (hZ.sub [1, 2, 3, 4, 5, 6, 0] (by decide +kernel) rfl) (lv_sub hl [0, 1, 2, 3] rfl)
          exact LP8 _ 0 ha1 H locs ls (by omega) (Nat.lt_succ_self _) hZ (lv_sub hl [0, 1, 2, 3] rfl)
    exact LP4 _ 1 haf H locs ls (by omega) (Nat.lt_succ_self _) hZ (lv_sub hl [0, 1, 2] rfl)
  · refine lv_aload_n hx hb dX8_hash_8 rfl (lv_at hl 0 rfl) ?_
    refine lv_iconst (v := 5) hx hb dX8_hash_9 (by decide) ?_
    refine zz_put hC hZ 6 rfl zu_X8_99 (Nat.le_of_ble_eq_true rfl) dX8_hash_10 (fun H locs hZ => ?_)
    have hZ : zz_Z g A s.heap [cw_i g a_kindOf 60 kdf, cw_i g a_depthOf 60 dpf, cw_i g a_lengthOf 60 lnf, cw_i g a_baseOf 60 saf, cw_l g a_bits 4000 btf, cw_i g a_hashes 60 haf, cw_k7 h0 (nI na) (nI ne) a_kindOf a_depthOf a_lengthOf a_classOf a_baseOf a_bits a_pinned 5 a_lengths a_stackArray a_stackOther a_stackAt i_lastArray i_lastPlace a_path a_held a_alike a_hashes (nI nd) a_decisionArray a_decisionPlace a_candidateMany a_candidates (nI nr) a_ruleSort a_ruleArray a_ruleWeight a_ruleLow a_ruleHigh a_chosen a_bestOf (nI nm) a_markElements a_markBits a_markPins] H locs := hZ
    refine lv_iconst (v := 0) hx hb dX8_hash_13 (by decide) ?_
    have hZ : zz_Z g A s.heap [cw_k7 h0 (nI na) (nI ne) a_kindOf a_depthOf a_lengthOf a_classOf a_baseOf a_bits a_pinned 5 a_lengths a_stackArray a_stackOther a_stackAt i_lastArray i_lastPlace a_path a_held a_alike a_hashes (nI nd) a_decisionArray a_decisionPlace a_candidateMany a_candidates (nI nr) a_ruleSort a_ruleArray a_ruleWeight a_ruleLow a_ruleHigh a_chosen a_bestOf (nI nm) a_markElements a_markBits a_markPins, cw_i g a_kindOf 60 kdf, cw_i g a_depthOf 60 dpf, cw_i g a_lengthOf 60 lnf, cw_i g a_baseOf 60 saf, cw_l g a_bits 4000 btf, cw_i g a_hashes 60 haf] H locs := hZ.sub [6, 0, 1, 2, 3, 4, 5] (by decide +kernel) rfl
    exact zz_iret hC hZ (⟨5, i_lastArray, i_lastPlace, haf, rfl⟩) (Nat.le_of_ble_eq_true rfl) (Nat.le_of_ble_eq_true rfl) dX8_hash_14
