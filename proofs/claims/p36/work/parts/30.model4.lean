/-- how many differ, of the reference -/
def sp_ce (bt bt0 : Nat → Int64) (s : Nat) : Nat → Nat → Int32 → Int32
  | 0, _, w => w
  | m + 1, i, w => sp_ce bt bt0 s m (i + 1) (if bt0 (s + i) = bt (s + i) then w + 0 else w + 1)
theorem zl_shS {bt1 bt4 : Nat → Int64} {s i t : Nat} (h : ∀ j, bt4 j = if s + i < j ∧ j ≤ s + t then bt1 (j - 1) else bt1 j) (h1 : 1 ≤ i) (h2 : i ≤ t) : ∀ j, vp_updL bt4 (s + i) (bt4 (s + i - 1)) j = if s + (i - 1) < j ∧ j ≤ s + t then bt1 (j - 1) else bt1 j := fun j => by
  by_cases e : j = s + i
  · rw [e, pk_uLs, if_pos (by omega), h, if_neg (by omega)]
  · rw [pk_uLn e, h j]
    by_cases c : s + i < j ∧ j ≤ s + t
    · rw [if_pos c, if_pos (by omega)]
    · rw [if_neg c, if_neg (by omega)]
theorem zl_shE {bt1 bt4 : Nat → Int64} {s i t : Nat} (h : ∀ j, bt4 j = if s + i < j ∧ j ≤ s + t then bt1 (j - 1) else bt1 j) : vp_updL bt4 (s + i) (bt1 (s + t)) = zz_ins bt1 (s + i) (s + t) := by
  funext j
  unfold zz_ins
  by_cases e : j = s + i
  · rw [e, pk_uLs, if_pos rfl]
  · rw [pk_uLn e, if_neg e, h j]
theorem zl_psS {R : Int64 → Int64} {bt : Nat → Int64} {f i : Nat} {rv : Int64} (h1 : ¬ i ≤ f) (h2 : ¬ R (bt (i - 1)) ≤ rv) : zz_ps R bt f rv i = zz_ps R bt f rv (i - 1) := by
  obtain ⟨m, rfl⟩ : ∃ m, i = m + 1 := ⟨i - 1, by omega⟩
  rw [Nat.add_sub_cancel] at h2 ⊢
  rw [zz_ps, if_neg h1, if_neg h2]
theorem zl_psE {R : Int64 → Int64} {bt : Nat → Int64} {f i : Nat} {rv : Int64} (h : i ≤ f ∨ R (bt (i - 1)) ≤ rv) : zz_ps R bt f rv i = i := by
  cases i with
  | zero => rfl
  | succ m =>
    rw [zz_ps]
    by_cases c : m + 1 ≤ f
    · rw [if_pos c]
    · rw [if_neg c, if_pos (show R (bt m) ≤ rv from h.resolve_left c)]
theorem dg_X8_sort_0 : (decode cX8_sort 0 = .ok (.aload_n 0, 1)) ∧ (decode cX8_sort 1 = .ok (.iload_n 1, 1)) ∧ (decode cX8_sort 2 = .ok (.invokevirtual 200, 3)) ∧ (decode cX8_sort 5 = .ok (.ifCond .ne 7, 3)) ∧ (decode cX8_sort 8 = .ok (.iconst 5, 1)) ∧ (decode cX8_sort 9 = .ok (.goto 55, 3)) ∧ (decode cX8_sort 12 = .ok (.aload_n 0, 1)) ∧ (decode cX8_sort 13 = .ok (.getfield 13, 3)) ∧ (decode cX8_sort 16 = .ok (.iload_n 1, 1)) ∧ (decode cX8_sort 17 = .ok (.iaload, 1)) ∧ (decode cX8_sort 18 = .ok (.iconst 1, 1)) ∧ (decode cX8_sort 19 = .ok (.if_icmp .le 7, 3)) ∧ (decode cX8_sort 22 = .ok (.iconst 1, 1)) ∧ (decode cX8_sort 23 = .ok (.goto 41, 3)) ∧ (decode cX8_sort 26 = .ok (.iload_n 2, 1)) ∧ (decode cX8_sort 27 = .ok (.i2l, 1)) := by decide +kernel
theorem dX8_sort_0 : decode cX8_sort 0 = .ok (.aload_n 0, 1) := dg_X8_sort_0.1
theorem dX8_sort_1 : decode cX8_sort 1 = .ok (.iload_n 1, 1) := dg_X8_sort_0.2.1
theorem dX8_sort_2 : decode cX8_sort 2 = .ok (.invokevirtual 200, 3) := dg_X8_sort_0.2.2.1
theorem dX8_sort_5 : decode cX8_sort 5 = .ok (.ifCond .ne 7, 3) := dg_X8_sort_0.2.2.2.1
theorem dX8_sort_8 : decode cX8_sort 8 = .ok (.iconst 5, 1) := dg_X8_sort_0.2.2.2.2.1
theorem dX8_sort_9 : decode cX8_sort 9 = .ok (.goto 55, 3) := dg_X8_sort_0.2.2.2.2.2.1
theorem dX8_sort_12 : decode cX8_sort 12 = .ok (.aload_n 0, 1) := dg_X8_sort_0.2.2.2.2.2.2.1
theorem dX8_sort_13 : decode cX8_sort 13 = .ok (.getfield 13, 3) := dg_X8_sort_0.2.2.2.2.2.2.2.1
theorem dX8_sort_16 : decode cX8_sort 16 = .ok (.iload_n 1, 1) := dg_X8_sort_0.2.2.2.2.2.2.2.2.1
theorem dX8_sort_17 : decode cX8_sort 17 = .ok (.iaload, 1) := dg_X8_sort_0.2.2.2.2.2.2.2.2.2.1
theorem dX8_sort_18 : decode cX8_sort 18 = .ok (.iconst 1, 1) := dg_X8_sort_0.2.2.2.2.2.2.2.2.2.2.1
theorem dX8_sort_19 : decode cX8_sort 19 = .ok (.if_icmp .le 7, 3) := dg_X8_sort_0.2.2.2.2.2.2.2.2.2.2.2.1
theorem dX8_sort_22 : decode cX8_sort 22 = .ok (.iconst 1, 1) := dg_X8_sort_0.2.2.2.2.2.2.2.2.2.2.2.2.1
theorem dX8_sort_23 : decode cX8_sort 23 = .ok (.goto 41, 3) := dg_X8_sort_0.2.2.2.2.2.2.2.2.2.2.2.2.2.1
theorem dX8_sort_26 : decode cX8_sort 26 = .ok (.iload_n 2, 1) := dg_X8_sort_0.2.2.2.2.2.2.2.2.2.2.2.2.2.2.1
theorem dX8_sort_27 : decode cX8_sort 27 = .ok (.i2l, 1) := dg_X8_sort_0.2.2.2.2.2.2.2.2.2.2.2.2.2.2.2
theorem dg_X8_sort_28 : (decode cX8_sort 28 = .ok (.lconst 0, 1)) ∧ (decode cX8_sort 29 = .ok (.aload_n 0, 1)) ∧ (decode cX8_sort 30 = .ok (.getfield 16, 3)) ∧ (decode cX8_sort 33 = .ok (.iload_n 1, 1)) ∧ (decode cX8_sort 34 = .ok (.iaload, 1)) ∧ (decode cX8_sort 35 = .ok (.i2l, 1)) ∧ (decode cX8_sort 36 = .ok (.invokestatic 106, 3)) ∧ (decode cX8_sort 39 = .ok (.ifCond .eq 20, 3)) ∧ (decode cX8_sort 42 = .ok (.iload_n 3, 1)) ∧ (decode cX8_sort 43 = .ok (.i2l, 1)) ∧ (decode cX8_sort 44 = .ok (.iload_n 2, 1)) ∧ (decode cX8_sort 45 = .ok (.i2l, 1)) ∧ (decode cX8_sort 46 = .ok (.aload_n 0, 1)) ∧ (decode cX8_sort 47 = .ok (.getfield 16, 3)) ∧ (decode cX8_sort 50 = .ok (.iload_n 1, 1)) ∧ (decode cX8_sort 51 = .ok (.iaload, 1)) := by decide +kernel
theorem dX8_sort_28 : decode cX8_sort 28 = .ok (.lconst 0, 1) := dg_X8_sort_28.1
theorem dX8_sort_29 : decode cX8_sort 29 = .ok (.aload_n 0, 1) := dg_X8_sort_28.2.1
theorem dX8_sort_30 : decode cX8_sort 30 = .ok (.getfield 16, 3) := dg_X8_sort_28.2.2.1
theorem dX8_sort_33 : decode cX8_sort 33 = .ok (.iload_n 1, 1) := dg_X8_sort_28.2.2.2.1
theorem dX8_sort_34 : decode cX8_sort 34 = .ok (.iaload, 1) := dg_X8_sort_28.2.2.2.2.1
theorem dX8_sort_35 : decode cX8_sort 35 = .ok (.i2l, 1) := dg_X8_sort_28.2.2.2.2.2.1
theorem dX8_sort_36 : decode cX8_sort 36 = .ok (.invokestatic 106, 3) := dg_X8_sort_28.2.2.2.2.2.2.1
theorem dX8_sort_39 : decode cX8_sort 39 = .ok (.ifCond .eq 20, 3) := dg_X8_sort_28.2.2.2.2.2.2.2.1
theorem dX8_sort_42 : decode cX8_sort 42 = .ok (.iload_n 3, 1) := dg_X8_sort_28.2.2.2.2.2.2.2.2.1
theorem dX8_sort_43 : decode cX8_sort 43 = .ok (.i2l, 1) := dg_X8_sort_28.2.2.2.2.2.2.2.2.2.1
theorem dX8_sort_44 : decode cX8_sort 44 = .ok (.iload_n 2, 1) := dg_X8_sort_28.2.2.2.2.2.2.2.2.2.2.1
theorem dX8_sort_45 : decode cX8_sort 45 = .ok (.i2l, 1) := dg_X8_sort_28.2.2.2.2.2.2.2.2.2.2.2.1
theorem dX8_sort_46 : decode cX8_sort 46 = .ok (.aload_n 0, 1) := dg_X8_sort_28.2.2.2.2.2.2.2.2.2.2.2.2.1
theorem dX8_sort_47 : decode cX8_sort 47 = .ok (.getfield 16, 3) := dg_X8_sort_28.2.2.2.2.2.2.2.2.2.2.2.2.2.1
theorem dX8_sort_50 : decode cX8_sort 50 = .ok (.iload_n 1, 1) := dg_X8_sort_28.2.2.2.2.2.2.2.2.2.2.2.2.2.2.1
theorem dX8_sort_51 : decode cX8_sort 51 = .ok (.iaload, 1) := dg_X8_sort_28.2.2.2.2.2.2.2.2.2.2.2.2.2.2.2
theorem dg_X8_sort_52 : (decode cX8_sort 52 = .ok (.i2l, 1)) ∧ (decode cX8_sort 53 = .ok (.invokestatic 106, 3)) ∧ (decode cX8_sort 56 = .ok (.ifCond .ne 7, 3)) ∧ (decode cX8_sort 59 = .ok (.iconst 2, 1)) ∧ (decode cX8_sort 60 = .ok (.goto 4, 3)) ∧ (decode cX8_sort 63 = .ok (.iconst 0, 1)) ∧ (decode cX8_sort 64 = .ok (.istore 4, 2)) ∧ (decode cX8_sort 66 = .ok (.iload_n 2, 1)) ∧ (decode cX8_sort 67 = .ok (.istore 5, 2)) ∧ (decode cX8_sort 69 = .ok (.iload 5, 2)) ∧ (decode cX8_sort 71 = .ok (.iload_n 3, 1)) ∧ (decode cX8_sort 72 = .ok (.if_icmp .ge 39, 3)) ∧ (decode cX8_sort 75 = .ok (.iload 4, 2)) ∧ (decode cX8_sort 77 = .ok (.ifCond .ne 34, 3)) ∧ (decode cX8_sort 80 = .ok (.aload_n 0, 1)) ∧ (decode cX8_sort 81 = .ok (.getfield 29, 3)) := by decide +kernel
theorem dX8_sort_52 : decode cX8_sort 52 = .ok (.i2l, 1) := dg_X8_sort_52.1
theorem dX8_sort_53 : decode cX8_sort 53 = .ok (.invokestatic 106, 3) := dg_X8_sort_52.2.1
theorem dX8_sort_56 : decode cX8_sort 56 = .ok (.ifCond .ne 7, 3) := dg_X8_sort_52.2.2.1
theorem dX8_sort_59 : decode cX8_sort 59 = .ok (.iconst 2, 1) := dg_X8_sort_52.2.2.2.1
theorem dX8_sort_60 : decode cX8_sort 60 = .ok (.goto 4, 3) := dg_X8_sort_52.2.2.2.2.1
theorem dX8_sort_63 : decode cX8_sort 63 = .ok (.iconst 0, 1) := dg_X8_sort_52.2.2.2.2.2.1
theorem dX8_sort_64 : decode cX8_sort 64 = .ok (.istore 4, 2) := dg_X8_sort_52.2.2.2.2.2.2.1
theorem dX8_sort_66 : decode cX8_sort 66 = .ok (.iload_n 2, 1) := dg_X8_sort_52.2.2.2.2.2.2.2.1
theorem dX8_sort_67 : decode cX8_sort 67 = .ok (.istore 5, 2) := dg_X8_sort_52.2.2.2.2.2.2.2.2.1
theorem dX8_sort_69 : decode cX8_sort 69 = .ok (.iload 5, 2) := dg_X8_sort_52.2.2.2.2.2.2.2.2.2.1
theorem dX8_sort_71 : decode cX8_sort 71 = .ok (.iload_n 3, 1) := dg_X8_sort_52.2.2.2.2.2.2.2.2.2.2.1
theorem dX8_sort_72 : decode cX8_sort 72 = .ok (.if_icmp .ge 39, 3) := dg_X8_sort_52.2.2.2.2.2.2.2.2.2.2.2.1
theorem dX8_sort_75 : decode cX8_sort 75 = .ok (.iload 4, 2) := dg_X8_sort_52.2.2.2.2.2.2.2.2.2.2.2.2.1
theorem dX8_sort_77 : decode cX8_sort 77 = .ok (.ifCond .ne 34, 3) := dg_X8_sort_52.2.2.2.2.2.2.2.2.2.2.2.2.2.1
theorem dX8_sort_80 : decode cX8_sort 80 = .ok (.aload_n 0, 1) := dg_X8_sort_52.2.2.2.2.2.2.2.2.2.2.2.2.2.2.1
theorem dX8_sort_81 : decode cX8_sort 81 = .ok (.getfield 29, 3) := dg_X8_sort_52.2.2.2.2.2.2.2.2.2.2.2.2.2.2.2
theorem dg_X8_sort_84 : (decode cX8_sort 84 = .ok (.aload_n 0, 1)) ∧ (decode cX8_sort 85 = .ok (.getfield 22, 3)) ∧ (decode cX8_sort 88 = .ok (.iload_n 1, 1)) ∧ (decode cX8_sort 89 = .ok (.iaload, 1)) ∧ (decode cX8_sort 90 = .ok (.iload 5, 2)) ∧ (decode cX8_sort 92 = .ok (.iadd, 1)) ∧ (decode cX8_sort 93 = .ok (.baload, 1)) ∧ (decode cX8_sort 94 = .ok (.ifCond .eq 8, 3)) ∧ (decode cX8_sort 97 = .ok (.bipush 6, 2)) ∧ (decode cX8_sort 99 = .ok (.goto 4, 3)) ∧ (decode cX8_sort 102 = .ok (.iconst 0, 1)) ∧ (decode cX8_sort 103 = .ok (.istore 4, 2)) ∧ (decode cX8_sort 105 = .ok (.iinc 5 1, 3)) ∧ (decode cX8_sort 108 = .ok (.goto (-39), 3)) ∧ (decode cX8_sort 111 = .ok (.iload 4, 2)) ∧ (decode cX8_sort 113 = .ok (.ifCond .le 10, 3)) := by decide +kernel
theorem dX8_sort_84 : decode cX8_sort 84 = .ok (.aload_n 0, 1) := dg_X8_sort_84.1
theorem dX8_sort_85 : decode cX8_sort 85 = .ok (.getfield 22, 3) := dg_X8_sort_84.2.1
theorem dX8_sort_88 : decode cX8_sort 88 = .ok (.iload_n 1, 1) := dg_X8_sort_84.2.2.1
theorem dX8_sort_89 : decode cX8_sort 89 = .ok (.iaload, 1) := dg_X8_sort_84.2.2.2.1
theorem dX8_sort_90 : decode cX8_sort 90 = .ok (.iload 5, 2) := dg_X8_sort_84.2.2.2.2.1
theorem dX8_sort_92 : decode cX8_sort 92 = .ok (.iadd, 1) := dg_X8_sort_84.2.2.2.2.2.1
theorem dX8_sort_93 : decode cX8_sort 93 = .ok (.baload, 1) := dg_X8_sort_84.2.2.2.2.2.2.1
theorem dX8_sort_94 : decode cX8_sort 94 = .ok (.ifCond .eq 8, 3) := dg_X8_sort_84.2.2.2.2.2.2.2.1
theorem dX8_sort_97 : decode cX8_sort 97 = .ok (.bipush 6, 2) := dg_X8_sort_84.2.2.2.2.2.2.2.2.1
theorem dX8_sort_99 : decode cX8_sort 99 = .ok (.goto 4, 3) := dg_X8_sort_84.2.2.2.2.2.2.2.2.2.1
theorem dX8_sort_102 : decode cX8_sort 102 = .ok (.iconst 0, 1) := dg_X8_sort_84.2.2.2.2.2.2.2.2.2.2.1
theorem dX8_sort_103 : decode cX8_sort 103 = .ok (.istore 4, 2) := dg_X8_sort_84.2.2.2.2.2.2.2.2.2.2.2.1
theorem dX8_sort_105 : decode cX8_sort 105 = .ok (.iinc 5 1, 3) := dg_X8_sort_84.2.2.2.2.2.2.2.2.2.2.2.2.1
theorem dX8_sort_108 : decode cX8_sort 108 = .ok (.goto (-39), 3) := dg_X8_sort_84.2.2.2.2.2.2.2.2.2.2.2.2.2.1
theorem dX8_sort_111 : decode cX8_sort 111 = .ok (.iload 4, 2) := dg_X8_sort_84.2.2.2.2.2.2.2.2.2.2.2.2.2.2.1
theorem dX8_sort_113 : decode cX8_sort 113 = .ok (.ifCond .le 10, 3) := dg_X8_sort_84.2.2.2.2.2.2.2.2.2.2.2.2.2.2.2
theorem dg_X8_sort_116 : (decode cX8_sort 116 = .ok (.aload_n 0, 1)) ∧ (decode cX8_sort 117 = .ok (.iload 4, 2)) ∧ (decode cX8_sort 119 = .ok (.invokevirtual 175, 3)) ∧ (decode cX8_sort 122 = .ok (.ireturn, 1)) ∧ (decode cX8_sort 123 = .ok (.aload_n 0, 1)) ∧ (decode cX8_sort 124 = .ok (.getfield 22, 3)) ∧ (decode cX8_sort 127 = .ok (.iload_n 1, 1)) ∧ (decode cX8_sort 128 = .ok (.iaload, 1)) ∧ (decode cX8_sort 129 = .ok (.istore 5, 2)) ∧ (decode cX8_sort 131 = .ok (.iload_n 2, 1)) ∧ (decode cX8_sort 132 = .ok (.istore 6, 2)) ∧ (decode cX8_sort 134 = .ok (.iload 6, 2)) ∧ (decode cX8_sort 136 = .ok (.iload_n 3, 1)) ∧ (decode cX8_sort 137 = .ok (.if_icmp .ge 26, 3)) ∧ (decode cX8_sort 140 = .ok (.aload_n 0, 1)) ∧ (decode cX8_sort 141 = .ok (.getfield 48, 3)) := by decide +kernel
theorem dX8_sort_116 : decode cX8_sort 116 = .ok (.aload_n 0, 1) := dg_X8_sort_116.1
theorem dX8_sort_117 : decode cX8_sort 117 = .ok (.iload 4, 2) := dg_X8_sort_116.2.1
theorem dX8_sort_119 : decode cX8_sort 119 = .ok (.invokevirtual 175, 3) := dg_X8_sort_116.2.2.1
theorem dX8_sort_122 : decode cX8_sort 122 = .ok (.ireturn, 1) := dg_X8_sort_116.2.2.2.1
theorem dX8_sort_123 : decode cX8_sort 123 = .ok (.aload_n 0, 1) := dg_X8_sort_116.2.2.2.2.1
theorem dX8_sort_124 : decode cX8_sort 124 = .ok (.getfield 22, 3) := dg_X8_sort_116.2.2.2.2.2.1
theorem dX8_sort_127 : decode cX8_sort 127 = .ok (.iload_n 1, 1) := dg_X8_sort_116.2.2.2.2.2.2.1
theorem dX8_sort_128 : decode cX8_sort 128 = .ok (.iaload, 1) := dg_X8_sort_116.2.2.2.2.2.2.2.1
theorem dX8_sort_129 : decode cX8_sort 129 = .ok (.istore 5, 2) := dg_X8_sort_116.2.2.2.2.2.2.2.2.1
theorem dX8_sort_131 : decode cX8_sort 131 = .ok (.iload_n 2, 1) := dg_X8_sort_116.2.2.2.2.2.2.2.2.2.1
theorem dX8_sort_132 : decode cX8_sort 132 = .ok (.istore 6, 2) := dg_X8_sort_116.2.2.2.2.2.2.2.2.2.2.1
theorem dX8_sort_134 : decode cX8_sort 134 = .ok (.iload 6, 2) := dg_X8_sort_116.2.2.2.2.2.2.2.2.2.2.2.1
theorem dX8_sort_136 : decode cX8_sort 136 = .ok (.iload_n 3, 1) := dg_X8_sort_116.2.2.2.2.2.2.2.2.2.2.2.2.1
theorem dX8_sort_137 : decode cX8_sort 137 = .ok (.if_icmp .ge 26, 3) := dg_X8_sort_116.2.2.2.2.2.2.2.2.2.2.2.2.2.1
theorem dX8_sort_140 : decode cX8_sort 140 = .ok (.aload_n 0, 1) := dg_X8_sort_116.2.2.2.2.2.2.2.2.2.2.2.2.2.2.1
theorem dX8_sort_141 : decode cX8_sort 141 = .ok (.getfield 48, 3) := dg_X8_sort_116.2.2.2.2.2.2.2.2.2.2.2.2.2.2.2
theorem dg_X8_sort_144 : (decode cX8_sort 144 = .ok (.iload 6, 2)) ∧ (decode cX8_sort 146 = .ok (.aload_n 0, 1)) ∧ (decode cX8_sort 147 = .ok (.getfield 25, 3)) ∧ (decode cX8_sort 150 = .ok (.iload 5, 2)) ∧ (decode cX8_sort 152 = .ok (.iload 6, 2)) ∧ (decode cX8_sort 154 = .ok (.iadd, 1)) ∧ (decode cX8_sort 155 = .ok (.laload, 1)) ∧ (decode cX8_sort 156 = .ok (.lastore, 1)) ∧ (decode cX8_sort 157 = .ok (.iinc 6 1, 3)) ∧ (decode cX8_sort 160 = .ok (.goto (-26), 3)) ∧ (decode cX8_sort 163 = .ok (.iload_n 2, 1)) ∧ (decode cX8_sort 164 = .ok (.iconst 1, 1)) ∧ (decode cX8_sort 165 = .ok (.iadd, 1)) ∧ (decode cX8_sort 166 = .ok (.istore 6, 2)) ∧ (decode cX8_sort 168 = .ok (.iload 6, 2)) ∧ (decode cX8_sort 170 = .ok (.iload_n 3, 1)) := by decide +kernel
theorem dX8_sort_144 : decode cX8_sort 144 = .ok (.iload 6, 2) := dg_X8_sort_144.1
theorem dX8_sort_146 : decode cX8_sort 146 = .ok (.aload_n 0, 1) := dg_X8_sort_144.2.1
theorem dX8_sort_147 : decode cX8_sort 147 = .ok (.getfield 25, 3) := dg_X8_sort_144.2.2.1
theorem dX8_sort_150 : decode cX8_sort 150 = .ok (.iload 5, 2) := dg_X8_sort_144.2.2.2.1
theorem dX8_sort_152 : decode cX8_sort 152 = .ok (.iload 6, 2) := dg_X8_sort_144.2.2.2.2.1
theorem dX8_sort_154 : decode cX8_sort 154 = .ok (.iadd, 1) := dg_X8_sort_144.2.2.2.2.2.1
theorem dX8_sort_155 : decode cX8_sort 155 = .ok (.laload, 1) := dg_X8_sort_144.2.2.2.2.2.2.1
theorem dX8_sort_156 : decode cX8_sort 156 = .ok (.lastore, 1) := dg_X8_sort_144.2.2.2.2.2.2.2.1
theorem dX8_sort_157 : decode cX8_sort 157 = .ok (.iinc 6 1, 3) := dg_X8_sort_144.2.2.2.2.2.2.2.2.1
theorem dX8_sort_160 : decode cX8_sort 160 = .ok (.goto (-26), 3) := dg_X8_sort_144.2.2.2.2.2.2.2.2.2.1
theorem dX8_sort_163 : decode cX8_sort 163 = .ok (.iload_n 2, 1) := dg_X8_sort_144.2.2.2.2.2.2.2.2.2.2.1
theorem dX8_sort_164 : decode cX8_sort 164 = .ok (.iconst 1, 1) := dg_X8_sort_144.2.2.2.2.2.2.2.2.2.2.2.1
theorem dX8_sort_165 : decode cX8_sort 165 = .ok (.iadd, 1) := dg_X8_sort_144.2.2.2.2.2.2.2.2.2.2.2.2.1
theorem dX8_sort_166 : decode cX8_sort 166 = .ok (.istore 6, 2) := dg_X8_sort_144.2.2.2.2.2.2.2.2.2.2.2.2.2.1
theorem dX8_sort_168 : decode cX8_sort 168 = .ok (.iload 6, 2) := dg_X8_sort_144.2.2.2.2.2.2.2.2.2.2.2.2.2.2.1
theorem dX8_sort_170 : decode cX8_sort 170 = .ok (.iload_n 3, 1) := dg_X8_sort_144.2.2.2.2.2.2.2.2.2.2.2.2.2.2.2
theorem dg_X8_sort_171 : (decode cX8_sort 171 = .ok (.if_icmp .ge 107, 3)) ∧ (decode cX8_sort 174 = .ok (.aload_n 0, 1)) ∧ (decode cX8_sort 175 = .ok (.getfield 25, 3)) ∧ (decode cX8_sort 178 = .ok (.iload 5, 2)) ∧ (decode cX8_sort 180 = .ok (.iload 6, 2)) ∧ (decode cX8_sort 182 = .ok (.iadd, 1)) ∧ (decode cX8_sort 183 = .ok (.laload, 1)) ∧ (decode cX8_sort 184 = .ok (.lstore 7, 2)) ∧ (decode cX8_sort 186 = .ok (.iload 6, 2)) ∧ (decode cX8_sort 188 = .ok (.istore 9, 2)) ∧ (decode cX8_sort 190 = .ok (.iload 9, 2)) ∧ (decode cX8_sort 192 = .ok (.iload_n 2, 1)) ∧ (decode cX8_sort 193 = .ok (.if_icmp .le 67, 3)) ∧ (decode cX8_sort 196 = .ok (.aload_n 0, 1)) ∧ (decode cX8_sort 197 = .ok (.getfield 7, 3)) ∧ (decode cX8_sort 200 = .ok (.iload_n 1, 1)) := by decide +kernel
theorem dX8_sort_171 : decode cX8_sort 171 = .ok (.if_icmp .ge 107, 3) := dg_X8_sort_171.1
theorem dX8_sort_174 : decode cX8_sort 174 = .ok (.aload_n 0, 1) := dg_X8_sort_171.2.1
theorem dX8_sort_175 : decode cX8_sort 175 = .ok (.getfield 25, 3) := dg_X8_sort_171.2.2.1
theorem dX8_sort_178 : decode cX8_sort 178 = .ok (.iload 5, 2) := dg_X8_sort_171.2.2.2.1
theorem dX8_sort_180 : decode cX8_sort 180 = .ok (.iload 6, 2) := dg_X8_sort_171.2.2.2.2.1
theorem dX8_sort_182 : decode cX8_sort 182 = .ok (.iadd, 1) := dg_X8_sort_171.2.2.2.2.2.1
theorem dX8_sort_183 : decode cX8_sort 183 = .ok (.laload, 1) := dg_X8_sort_171.2.2.2.2.2.2.1
theorem dX8_sort_184 : decode cX8_sort 184 = .ok (.lstore 7, 2) := dg_X8_sort_171.2.2.2.2.2.2.2.1
theorem dX8_sort_186 : decode cX8_sort 186 = .ok (.iload 6, 2) := dg_X8_sort_171.2.2.2.2.2.2.2.2.1
theorem dX8_sort_188 : decode cX8_sort 188 = .ok (.istore 9, 2) := dg_X8_sort_171.2.2.2.2.2.2.2.2.2.1
theorem dX8_sort_190 : decode cX8_sort 190 = .ok (.iload 9, 2) := dg_X8_sort_171.2.2.2.2.2.2.2.2.2.2.1
theorem dX8_sort_192 : decode cX8_sort 192 = .ok (.iload_n 2, 1) := dg_X8_sort_171.2.2.2.2.2.2.2.2.2.2.2.1
theorem dX8_sort_193 : decode cX8_sort 193 = .ok (.if_icmp .le 67, 3) := dg_X8_sort_171.2.2.2.2.2.2.2.2.2.2.2.2.1
theorem dX8_sort_196 : decode cX8_sort 196 = .ok (.aload_n 0, 1) := dg_X8_sort_171.2.2.2.2.2.2.2.2.2.2.2.2.2.1
theorem dX8_sort_197 : decode cX8_sort 197 = .ok (.getfield 7, 3) := dg_X8_sort_171.2.2.2.2.2.2.2.2.2.2.2.2.2.2.1
theorem dX8_sort_200 : decode cX8_sort 200 = .ok (.iload_n 1, 1) := dg_X8_sort_171.2.2.2.2.2.2.2.2.2.2.2.2.2.2.2
theorem dg_X8_sort_201 : (decode cX8_sort 201 = .ok (.iaload, 1)) ∧ (decode cX8_sort 202 = .ok (.aload_n 0, 1)) ∧ (decode cX8_sort 203 = .ok (.getfield 25, 3)) ∧ (decode cX8_sort 206 = .ok (.iload 5, 2)) ∧ (decode cX8_sort 208 = .ok (.iload 9, 2)) ∧ (decode cX8_sort 210 = .ok (.iadd, 1)) ∧ (decode cX8_sort 211 = .ok (.iconst 1, 1)) ∧ (decode cX8_sort 212 = .ok (.isub, 1)) ∧ (decode cX8_sort 213 = .ok (.laload, 1)) ∧ (decode cX8_sort 214 = .ok (.invokestatic 239, 3)) ∧ (decode cX8_sort 217 = .ok (.aload_n 0, 1)) ∧ (decode cX8_sort 218 = .ok (.getfield 7, 3)) ∧ (decode cX8_sort 221 = .ok (.iload_n 1, 1)) ∧ (decode cX8_sort 222 = .ok (.iaload, 1)) ∧ (decode cX8_sort 223 = .ok (.lload 7, 2)) ∧ (decode cX8_sort 225 = .ok (.invokestatic 239, 3)) := by decide +kernel
theorem dX8_sort_201 : decode cX8_sort 201 = .ok (.iaload, 1) := dg_X8_sort_201.1
theorem dX8_sort_202 : decode cX8_sort 202 = .ok (.aload_n 0, 1) := dg_X8_sort_201.2.1
theorem dX8_sort_203 : decode cX8_sort 203 = .ok (.getfield 25, 3) := dg_X8_sort_201.2.2.1
theorem dX8_sort_206 : decode cX8_sort 206 = .ok (.iload 5, 2) := dg_X8_sort_201.2.2.2.1
theorem dX8_sort_208 : decode cX8_sort 208 = .ok (.iload 9, 2) := dg_X8_sort_201.2.2.2.2.1
theorem dX8_sort_210 : decode cX8_sort 210 = .ok (.iadd, 1) := dg_X8_sort_201.2.2.2.2.2.1
theorem dX8_sort_211 : decode cX8_sort 211 = .ok (.iconst 1, 1) := dg_X8_sort_201.2.2.2.2.2.2.1
theorem dX8_sort_212 : decode cX8_sort 212 = .ok (.isub, 1) := dg_X8_sort_201.2.2.2.2.2.2.2.1
theorem dX8_sort_213 : decode cX8_sort 213 = .ok (.laload, 1) := dg_X8_sort_201.2.2.2.2.2.2.2.2.1
theorem dX8_sort_214 : decode cX8_sort 214 = .ok (.invokestatic 239, 3) := dg_X8_sort_201.2.2.2.2.2.2.2.2.2.1
theorem dX8_sort_217 : decode cX8_sort 217 = .ok (.aload_n 0, 1) := dg_X8_sort_201.2.2.2.2.2.2.2.2.2.2.1
theorem dX8_sort_218 : decode cX8_sort 218 = .ok (.getfield 7, 3) := dg_X8_sort_201.2.2.2.2.2.2.2.2.2.2.2.1
theorem dX8_sort_221 : decode cX8_sort 221 = .ok (.iload_n 1, 1) := dg_X8_sort_201.2.2.2.2.2.2.2.2.2.2.2.2.1
theorem dX8_sort_222 : decode cX8_sort 222 = .ok (.iaload, 1) := dg_X8_sort_201.2.2.2.2.2.2.2.2.2.2.2.2.2.1
theorem dX8_sort_223 : decode cX8_sort 223 = .ok (.lload 7, 2) := dg_X8_sort_201.2.2.2.2.2.2.2.2.2.2.2.2.2.2.1
theorem dX8_sort_225 : decode cX8_sort 225 = .ok (.invokestatic 239, 3) := dg_X8_sort_201.2.2.2.2.2.2.2.2.2.2.2.2.2.2.2
theorem dg_X8_sort_228 : (decode cX8_sort 228 = .ok (.lcmp, 1)) ∧ (decode cX8_sort 229 = .ok (.ifCond .le 31, 3)) ∧ (decode cX8_sort 232 = .ok (.aload_n 0, 1)) ∧ (decode cX8_sort 233 = .ok (.getfield 25, 3)) ∧ (decode cX8_sort 236 = .ok (.iload 5, 2)) ∧ (decode cX8_sort 238 = .ok (.iload 9, 2)) ∧ (decode cX8_sort 240 = .ok (.iadd, 1)) ∧ (decode cX8_sort 241 = .ok (.aload_n 0, 1)) ∧ (decode cX8_sort 242 = .ok (.getfield 25, 3)) ∧ (decode cX8_sort 245 = .ok (.iload 5, 2)) ∧ (decode cX8_sort 247 = .ok (.iload 9, 2)) ∧ (decode cX8_sort 249 = .ok (.iadd, 1)) ∧ (decode cX8_sort 250 = .ok (.iconst 1, 1)) ∧ (decode cX8_sort 251 = .ok (.isub, 1)) ∧ (decode cX8_sort 252 = .ok (.laload, 1)) ∧ (decode cX8_sort 253 = .ok (.lastore, 1)) := by decide +kernel
theorem dX8_sort_228 : decode cX8_sort 228 = .ok (.lcmp, 1) := dg_X8_sort_228.1
theorem dX8_sort_229 : decode cX8_sort 229 = .ok (.ifCond .le 31, 3) := dg_X8_sort_228.2.1
theorem dX8_sort_232 : decode cX8_sort 232 = .ok (.aload_n 0, 1) := dg_X8_sort_228.2.2.1
theorem dX8_sort_233 : decode cX8_sort 233 = .ok (.getfield 25, 3) := dg_X8_sort_228.2.2.2.1
theorem dX8_sort_236 : decode cX8_sort 236 = .ok (.iload 5, 2) := dg_X8_sort_228.2.2.2.2.1
theorem dX8_sort_238 : decode cX8_sort 238 = .ok (.iload 9, 2) := dg_X8_sort_228.2.2.2.2.2.1
theorem dX8_sort_240 : decode cX8_sort 240 = .ok (.iadd, 1) := dg_X8_sort_228.2.2.2.2.2.2.1
theorem dX8_sort_241 : decode cX8_sort 241 = .ok (.aload_n 0, 1) := dg_X8_sort_228.2.2.2.2.2.2.2.1
theorem dX8_sort_242 : decode cX8_sort 242 = .ok (.getfield 25, 3) := dg_X8_sort_228.2.2.2.2.2.2.2.2.1
theorem dX8_sort_245 : decode cX8_sort 245 = .ok (.iload 5, 2) := dg_X8_sort_228.2.2.2.2.2.2.2.2.2.1
theorem dX8_sort_247 : decode cX8_sort 247 = .ok (.iload 9, 2) := dg_X8_sort_228.2.2.2.2.2.2.2.2.2.2.1
theorem dX8_sort_249 : decode cX8_sort 249 = .ok (.iadd, 1) := dg_X8_sort_228.2.2.2.2.2.2.2.2.2.2.2.1
theorem dX8_sort_250 : decode cX8_sort 250 = .ok (.iconst 1, 1) := dg_X8_sort_228.2.2.2.2.2.2.2.2.2.2.2.2.1
theorem dX8_sort_251 : decode cX8_sort 251 = .ok (.isub, 1) := dg_X8_sort_228.2.2.2.2.2.2.2.2.2.2.2.2.2.1
theorem dX8_sort_252 : decode cX8_sort 252 = .ok (.laload, 1) := dg_X8_sort_228.2.2.2.2.2.2.2.2.2.2.2.2.2.2.1
theorem dX8_sort_253 : decode cX8_sort 253 = .ok (.lastore, 1) := dg_X8_sort_228.2.2.2.2.2.2.2.2.2.2.2.2.2.2.2
theorem dg_X8_sort_254 : (decode cX8_sort 254 = .ok (.iinc 9 (-1), 3)) ∧ (decode cX8_sort 257 = .ok (.goto (-67), 3)) ∧ (decode cX8_sort 260 = .ok (.aload_n 0, 1)) ∧ (decode cX8_sort 261 = .ok (.getfield 25, 3)) ∧ (decode cX8_sort 264 = .ok (.iload 5, 2)) ∧ (decode cX8_sort 266 = .ok (.iload 9, 2)) ∧ (decode cX8_sort 268 = .ok (.iadd, 1)) ∧ (decode cX8_sort 269 = .ok (.lload 7, 2)) ∧ (decode cX8_sort 271 = .ok (.lastore, 1)) ∧ (decode cX8_sort 272 = .ok (.iinc 6 1, 3)) ∧ (decode cX8_sort 275 = .ok (.goto (-107), 3)) ∧ (decode cX8_sort 278 = .ok (.iconst 0, 1)) ∧ (decode cX8_sort 279 = .ok (.istore 6, 2)) ∧ (decode cX8_sort 281 = .ok (.iload_n 2, 1)) ∧ (decode cX8_sort 282 = .ok (.istore 7, 2)) ∧ (decode cX8_sort 284 = .ok (.iload 7, 2)) := by decide +kernel
theorem dX8_sort_254 : decode cX8_sort 254 = .ok (.iinc 9 (-1), 3) := dg_X8_sort_254.1
theorem dX8_sort_257 : decode cX8_sort 257 = .ok (.goto (-67), 3) := dg_X8_sort_254.2.1
theorem dX8_sort_260 : decode cX8_sort 260 = .ok (.aload_n 0, 1) := dg_X8_sort_254.2.2.1
theorem dX8_sort_261 : decode cX8_sort 261 = .ok (.getfield 25, 3) := dg_X8_sort_254.2.2.2.1
theorem dX8_sort_264 : decode cX8_sort 264 = .ok (.iload 5, 2) := dg_X8_sort_254.2.2.2.2.1
theorem dX8_sort_266 : decode cX8_sort 266 = .ok (.iload 9, 2) := dg_X8_sort_254.2.2.2.2.2.1
theorem dX8_sort_268 : decode cX8_sort 268 = .ok (.iadd, 1) := dg_X8_sort_254.2.2.2.2.2.2.1
theorem dX8_sort_269 : decode cX8_sort 269 = .ok (.lload 7, 2) := dg_X8_sort_254.2.2.2.2.2.2.2.1
theorem dX8_sort_271 : decode cX8_sort 271 = .ok (.lastore, 1) := dg_X8_sort_254.2.2.2.2.2.2.2.2.1
theorem dX8_sort_272 : decode cX8_sort 272 = .ok (.iinc 6 1, 3) := dg_X8_sort_254.2.2.2.2.2.2.2.2.2.1
theorem dX8_sort_275 : decode cX8_sort 275 = .ok (.goto (-107), 3) := dg_X8_sort_254.2.2.2.2.2.2.2.2.2.2.1
theorem dX8_sort_278 : decode cX8_sort 278 = .ok (.iconst 0, 1) := dg_X8_sort_254.2.2.2.2.2.2.2.2.2.2.2.1
theorem dX8_sort_279 : decode cX8_sort 279 = .ok (.istore 6, 2) := dg_X8_sort_254.2.2.2.2.2.2.2.2.2.2.2.2.1
theorem dX8_sort_281 : decode cX8_sort 281 = .ok (.iload_n 2, 1) := dg_X8_sort_254.2.2.2.2.2.2.2.2.2.2.2.2.2.1
theorem dX8_sort_282 : decode cX8_sort 282 = .ok (.istore 7, 2) := dg_X8_sort_254.2.2.2.2.2.2.2.2.2.2.2.2.2.2.1
theorem dX8_sort_284 : decode cX8_sort 284 = .ok (.iload 7, 2) := dg_X8_sort_254.2.2.2.2.2.2.2.2.2.2.2.2.2.2.2
theorem dg_X8_sort_286 : (decode cX8_sort 286 = .ok (.iload_n 3, 1)) ∧ (decode cX8_sort 287 = .ok (.if_icmp .ge 40, 3)) ∧ (decode cX8_sort 290 = .ok (.iload 6, 2)) ∧ (decode cX8_sort 292 = .ok (.aload_n 0, 1)) ∧ (decode cX8_sort 293 = .ok (.getfield 48, 3)) ∧ (decode cX8_sort 296 = .ok (.iload 7, 2)) ∧ (decode cX8_sort 298 = .ok (.laload, 1)) ∧ (decode cX8_sort 299 = .ok (.aload_n 0, 1)) ∧ (decode cX8_sort 300 = .ok (.getfield 25, 3)) ∧ (decode cX8_sort 303 = .ok (.iload 5, 2)) ∧ (decode cX8_sort 305 = .ok (.iload 7, 2)) ∧ (decode cX8_sort 307 = .ok (.iadd, 1)) ∧ (decode cX8_sort 308 = .ok (.laload, 1)) ∧ (decode cX8_sort 309 = .ok (.lcmp, 1)) ∧ (decode cX8_sort 310 = .ok (.ifCond .eq 7, 3)) ∧ (decode cX8_sort 313 = .ok (.iconst 1, 1)) := by decide +kernel
theorem dX8_sort_286 : decode cX8_sort 286 = .ok (.iload_n 3, 1) := dg_X8_sort_286.1
theorem dX8_sort_287 : decode cX8_sort 287 = .ok (.if_icmp .ge 40, 3) := dg_X8_sort_286.2.1
theorem dX8_sort_290 : decode cX8_sort 290 = .ok (.iload 6, 2) := dg_X8_sort_286.2.2.1
theorem dX8_sort_292 : decode cX8_sort 292 = .ok (.aload_n 0, 1) := dg_X8_sort_286.2.2.2.1
theorem dX8_sort_293 : decode cX8_sort 293 = .ok (.getfield 48, 3) := dg_X8_sort_286.2.2.2.2.1
theorem dX8_sort_296 : decode cX8_sort 296 = .ok (.iload 7, 2) := dg_X8_sort_286.2.2.2.2.2.1
theorem dX8_sort_298 : decode cX8_sort 298 = .ok (.laload, 1) := dg_X8_sort_286.2.2.2.2.2.2.1
theorem dX8_sort_299 : decode cX8_sort 299 = .ok (.aload_n 0, 1) := dg_X8_sort_286.2.2.2.2.2.2.2.1
theorem dX8_sort_300 : decode cX8_sort 300 = .ok (.getfield 25, 3) := dg_X8_sort_286.2.2.2.2.2.2.2.2.1
theorem dX8_sort_303 : decode cX8_sort 303 = .ok (.iload 5, 2) := dg_X8_sort_286.2.2.2.2.2.2.2.2.2.1
theorem dX8_sort_305 : decode cX8_sort 305 = .ok (.iload 7, 2) := dg_X8_sort_286.2.2.2.2.2.2.2.2.2.2.1
theorem dX8_sort_307 : decode cX8_sort 307 = .ok (.iadd, 1) := dg_X8_sort_286.2.2.2.2.2.2.2.2.2.2.2.1
theorem dX8_sort_308 : decode cX8_sort 308 = .ok (.laload, 1) := dg_X8_sort_286.2.2.2.2.2.2.2.2.2.2.2.2.1
theorem dX8_sort_309 : decode cX8_sort 309 = .ok (.lcmp, 1) := dg_X8_sort_286.2.2.2.2.2.2.2.2.2.2.2.2.2.1
theorem dX8_sort_310 : decode cX8_sort 310 = .ok (.ifCond .eq 7, 3) := dg_X8_sort_286.2.2.2.2.2.2.2.2.2.2.2.2.2.2.1
theorem dX8_sort_313 : decode cX8_sort 313 = .ok (.iconst 1, 1) := dg_X8_sort_286.2.2.2.2.2.2.2.2.2.2.2.2.2.2.2
theorem dg_X8_sort_314 : (decode cX8_sort 314 = .ok (.goto 4, 3)) ∧ (decode cX8_sort 317 = .ok (.iconst 0, 1)) ∧ (decode cX8_sort 318 = .ok (.iadd, 1)) ∧ (decode cX8_sort 319 = .ok (.istore 6, 2)) ∧ (decode cX8_sort 321 = .ok (.iinc 7 1, 3)) ∧ (decode cX8_sort 324 = .ok (.goto (-40), 3)) ∧ (decode cX8_sort 327 = .ok (.aload_n 0, 1)) ∧ (decode cX8_sort 328 = .ok (.iload 6, 2)) ∧ (decode cX8_sort 330 = .ok (.invokevirtual 183, 3)) ∧ (decode cX8_sort 333 = .ok (.ireturn, 1)) := by decide +kernel
theorem dX8_sort_314 : decode cX8_sort 314 = .ok (.goto 4, 3) := dg_X8_sort_314.1
theorem dX8_sort_317 : decode cX8_sort 317 = .ok (.iconst 0, 1) := dg_X8_sort_314.2.1
theorem dX8_sort_318 : decode cX8_sort 318 = .ok (.iadd, 1) := dg_X8_sort_314.2.2.1
theorem dX8_sort_319 : decode cX8_sort 319 = .ok (.istore 6, 2) := dg_X8_sort_314.2.2.2.1
theorem dX8_sort_321 : decode cX8_sort 321 = .ok (.iinc 7 1, 3) := dg_X8_sort_314.2.2.2.2.1
theorem dX8_sort_324 : decode cX8_sort 324 = .ok (.goto (-40), 3) := dg_X8_sort_314.2.2.2.2.2.1
theorem dX8_sort_327 : decode cX8_sort 327 = .ok (.aload_n 0, 1) := dg_X8_sort_314.2.2.2.2.2.2.1
theorem dX8_sort_328 : decode cX8_sort 328 = .ok (.iload 6, 2) := dg_X8_sort_314.2.2.2.2.2.2.2.1
theorem dX8_sort_330 : decode cX8_sort 330 = .ok (.invokevirtual 183, 3) := dg_X8_sort_314.2.2.2.2.2.2.2.2.1
theorem dX8_sort_333 : decode cX8_sort 333 = .ok (.ireturn, 1) := dg_X8_sort_314.2.2.2.2.2.2.2.2.2
theorem zk_1009 : Cond.methodLink RX8 239 yX8_orderNumber ∈ zz_w := zz_in (List.mem_append_right _ (List.mem_append_right _ (List.mem_append_right _ (List.mem_append_right _ (List.mem_append_right _ (List.mem_of_getElem? (i := 49) (by decide +kernel))))))) rfl
set_option maxRecDepth 20000 in
theorem zk_1011 : Cond.code yX8_orderNumber cX8_orderNumber 3 (some .long) ∈ zz_w := zz_in (List.mem_append_right _ (List.mem_append_right _ (List.mem_append_right _ (List.mem_append_right _ (List.mem_append_right _ (List.mem_of_getElem? (i := 51) (rfl))))))) rfl
theorem zk_1010 : Cond.static yX8_orderNumber ∈ zz_w := zz_in (List.mem_append_right _ (List.mem_append_right _ (List.mem_append_right _ (List.mem_append_right _ (List.mem_append_right _ (List.mem_of_getElem? (i := 50) (by decide +kernel))))))) rfl
theorem zc_X8_239 : zz_cS RX8 239 yX8_orderNumber cX8_orderNumber 3 (some .long) 2 := ⟨⟨zk_1009, zk_1011, zk_7, by decide, by decide, by decide +kernel⟩, zk_1010⟩
def fo_my_sort (na : Nat) (ne : Nat) (kdf : Nat → Int32) (dpf : Nat → Int32) (lnf : Nat → Int32) (saf : Nat → Int32) (btf : Nat → Int64) (pnf : Nat → Int32) (x1 : Int32) (x2 : Int32) (x3 : Int32) : (Int32) × (Nat → Int64) := (if (fn_cm_isArray (nI na) x1) = 0 then (-5, btf) else (if (nI ((dpf x1.toNatClampNeg).toNatClampNeg)) ≤ 1 then (if (fn_cm_within x2.toInt64 0 ((nI ((lnf x1.toNatClampNeg).toNatClampNeg)).toInt64)) = 0 then (-2, btf) else (if (fn_cm_within x3.toInt64 ((nI x2.toNatClampNeg).toInt64) ((nI ((lnf x1.toNatClampNeg).toNatClampNeg)).toInt64)) = 0 then (-2, btf) else (if (if zz_cp pnf (((saf x1.toNatClampNeg).toNatClampNeg) + x2.toNatClampNeg) (x3.toNatClampNeg - x2.toNatClampNeg) = 0 then (0 : Int32) else 6) ≤ 0 then ((sp_ce (sp_is (fn_cm_orderNumber (kdf x1.toNatClampNeg)) (((saf x1.toNatClampNeg).toNatClampNeg) + x2.toNatClampNeg) (x3.toNatClampNeg - (x2.toNatClampNeg + 1)) (((saf x1.toNatClampNeg).toNatClampNeg) + (x2.toNatClampNeg + 1)) btf) btf ((saf x1.toNatClampNeg).toNatClampNeg) (x3.toNatClampNeg - x2.toNatClampNeg) x2.toNatClampNeg 0), (sp_is (fn_cm_orderNumber (kdf x1.toNatClampNeg)) (((saf x1.toNatClampNeg).toNatClampNeg) + x2.toNatClampNeg) (x3.toNatClampNeg - (x2.toNatClampNeg + 1)) (((saf x1.toNatClampNeg).toNatClampNeg) + (x2.toNatClampNeg + 1)) btf)) else ((-(if zz_cp pnf (((saf x1.toNatClampNeg).toNatClampNeg) + x2.toNatClampNeg) (x3.toNatClampNeg - x2.toNatClampNeg) = 0 then (0 : Int32) else 6)), btf)))) else (-1, btf)))
abbrev rm_my_sort : Room := { frames := 2, cells := 0, slots := 0, locals := 46 }
abbrev po_my_sort (g : zz_G) (h0 : Nat) (a_kindOf : Nat) (a_depthOf : Nat) (a_lengthOf : Nat) (a_classOf : Nat) (a_baseOf : Nat) (a_bits : Nat) (a_pinned : Nat) (a_lengths : Nat) (a_stackArray : Nat) (a_stackOther : Nat) (a_stackAt : Nat) (a_path : Nat) (a_held : Nat) (a_alike : Nat) (a_hashes : Nat) (a_decisionArray : Nat) (a_decisionPlace : Nat) (a_candidateMany : Nat) (a_candidates : Nat) (a_ruleSort : Nat) (a_ruleArray : Nat) (a_ruleWeight : Nat) (a_ruleLow : Nat) (a_ruleHigh : Nat) (a_chosen : Nat) (a_bestOf : Nat) (a_markElements : Nat) (a_markBits : Nat) (a_markPins : Nat) (na : Nat) (ne : Nat) (nd : Nat) (nr : Nat) (nm : Nat) (i_code : Int32) (i_lastArray : Int32) (i_lastPlace : Int32) (kdf : Nat → Int32) (dpf : Nat → Int32) (lnf : Nat → Int32) (saf : Nat → Int32) (btf : Nat → Int64) (pnf : Nat → Int32) (hef : Nat → Int64) (x1 : Int32) (x2 : Int32) (x3 : Int32) (h_M : zz_MI na ne dpf saf lnf btf) : Int32 → va_W → Prop := fun (r : Int32) (u : va_W) => ∃ (k_c : Int32) (k_a : Int32) (k_p : Int32) (bt2 : Nat → Int64) (he2 : Nat → Int64), (r, bt2) = fo_my_sort na ne kdf dpf lnf saf btf pnf x1 x2 x3 ∧ (zz_MI na ne dpf saf lnf bt2) ∧ (zz_D1 na dpf saf lnf btf bt2) ∧ u = [cw_k7 h0 (nI na) (nI ne) a_kindOf a_depthOf a_lengthOf a_classOf a_baseOf a_bits a_pinned k_c a_lengths a_stackArray a_stackOther a_stackAt k_a k_p a_path a_held a_alike a_hashes (nI nd) a_decisionArray a_decisionPlace a_candidateMany a_candidates (nI nr) a_ruleSort a_ruleArray a_ruleWeight a_ruleLow a_ruleHigh a_chosen a_bestOf (nI nm) a_markElements a_markBits a_markPins, cw_i g a_kindOf 60 kdf, cw_i g a_depthOf 60 dpf, cw_i g a_lengthOf 60 lnf, cw_i g a_baseOf 60 saf, cw_l g a_bits 4000 bt2, cw_z g a_pinned 4000 pnf, cw_l g a_held 200 he2]
set_option maxHeartbeats 4000000 in
set_option maxRecDepth 100000 in
theorem my_sort (g : zz_G) (h0 : Nat) (a_kindOf : Nat) (a_depthOf : Nat) (a_lengthOf : Nat) (a_classOf : Nat) (a_baseOf : Nat) (a_bits : Nat) (a_pinned : Nat) (a_lengths : Nat) (a_stackArray : Nat) (a_stackOther : Nat) (a_stackAt : Nat) (a_path : Nat) (a_held : Nat) (a_alike : Nat) (a_hashes : Nat) (a_decisionArray : Nat) (a_decisionPlace : Nat) (a_candidateMany : Nat) (a_candidates : Nat) (a_ruleSort : Nat) (a_ruleArray : Nat) (a_ruleWeight : Nat) (a_ruleLow : Nat) (a_ruleHigh : Nat) (a_chosen : Nat) (a_bestOf : Nat) (a_markElements : Nat) (a_markBits : Nat) (a_markPins : Nat) (na : Nat) (ne : Nat) (nd : Nat) (nr : Nat) (nm : Nat) (i_code : Int32) (i_lastArray : Int32) (i_lastPlace : Int32) (kdf : Nat → Int32) (dpf : Nat → Int32) (lnf : Nat → Int32) (saf : Nat → Int32) (btf : Nat → Int64) (pnf : Nat → Int32) (hef : Nat → Int64) (x1 : Int32) (x2 : Int32) (x3 : Int32) (h_M : zz_MI na ne dpf saf lnf btf) : zz_I g yX8_sort (.code yX8_sort cX8_sort 10 (some .int)) rm_my_sort [.ref h0, .int x1, .int x2, .int x3] [cw_k7 h0 (nI na) (nI ne) a_kindOf a_depthOf a_lengthOf a_classOf a_baseOf a_bits a_pinned i_code a_lengths a_stackArray a_stackOther a_stackAt i_lastArray i_lastPlace a_path a_held a_alike a_hashes (nI nd) a_decisionArray a_decisionPlace a_candidateMany a_candidates (nI nr) a_ruleSort a_ruleArray a_ruleWeight a_ruleLow a_ruleHigh a_chosen a_bestOf (nI nm) a_markElements a_markBits a_markPins, cw_i g a_kindOf 60 kdf, cw_i g a_depthOf 60 dpf, cw_i g a_lengthOf 60 lnf, cw_i g a_baseOf 60 saf, cw_l g a_bits 4000 btf, cw_z g a_pinned 4000 pnf, cw_l g a_held 200 hef] (po_my_sort g h0 a_kindOf a_depthOf a_lengthOf a_classOf a_baseOf a_bits a_pinned a_lengths a_stackArray a_stackOther a_stackAt a_path a_held a_alike a_hashes a_decisionArray a_decisionPlace a_candidateMany a_candidates a_ruleSort a_ruleArray a_ruleWeight a_ruleLow a_ruleHigh a_chosen a_bestOf a_markElements a_markBits a_markPins na ne nd nr nm i_code i_lastArray i_lastPlace kdf dpf lnf saf btf pnf hef x1 x2 x3 h_M) := by
  refine zz_I.intro (own := RX8) (cc := cX8_sort) (nL := 10) (by decide) rfl (Nat.le_of_ble_eq_true rfl) ?_
  intro p l e s m args below meth c A H locs ls hC hnm hs hZ hl
  obtain ⟨hx, hb, hml, hown, hts, hr, hlocks, hK⟩ := id hC
  have hl : lv_has ls 10 [(0, .ref h0), (1, .int x1), (2, .int x2), (3, .int x3)] := hl
  have hZ : zz_Z g A s.heap [cw_k7 h0 (nI na) (nI ne) a_kindOf a_depthOf a_lengthOf a_classOf a_baseOf a_bits a_pinned i_code a_lengths a_stackArray a_stackOther a_stackAt i_lastArray i_lastPlace a_path a_held a_alike a_hashes (nI nd) a_decisionArray a_decisionPlace a_candidateMany a_candidates (nI nr) a_ruleSort a_ruleArray a_ruleWeight a_ruleLow a_ruleHigh a_chosen a_bestOf (nI nm) a_markElements a_markBits a_markPins, cw_i g a_kindOf 60 kdf, cw_i g a_depthOf 60 dpf, cw_i g a_lengthOf 60 lnf, cw_i g a_baseOf 60 saf, cw_l g a_bits 4000 btf, cw_z g a_pinned 4000 pnf, cw_l g a_held 200 hef] H locs := hZ
  have h_S := h_M.1
  have hna := h_S.1
  have hne := h_S.2.1
  refine lv_aload_n hx hb dX8_sort_0 rfl (lv_at hl 0 rfl) ?_
  refine lv_iload_n hx hb dX8_sort_1 rfl (lv_at hl 1 rfl) ?_
  refine zz_iV (As := [.int x1]) (wc := [cw_k7 h0 (nI na) (nI ne) a_kindOf a_depthOf a_lengthOf a_classOf a_baseOf a_bits a_pinned i_code a_lengths a_stackArray a_stackOther a_stackAt i_lastArray i_lastPlace a_path a_held a_alike a_hashes (nI nd) a_decisionArray a_decisionPlace a_candidateMany a_candidates (nI nr) a_ruleSort a_ruleArray a_ruleWeight a_ruleLow a_ruleHigh a_chosen a_bestOf (nI nm) a_markElements a_markBits a_markPins]) (wr := [cw_i g a_kindOf 60 kdf, cw_i g a_depthOf 60 dpf, cw_i g a_lengthOf 60 lnf, cw_i g a_baseOf 60 saf, cw_l g a_bits 4000 btf, cw_z g a_pinned 4000 pnf, cw_l g a_held 200 hef]) (rest := []) hC hZ hs hl zc_X8_200 (cm_isArray g h0 a_kindOf a_depthOf a_lengthOf a_classOf a_baseOf a_bits a_pinned a_lengths a_stackArray a_stackOther a_stackAt a_path a_held a_alike a_hashes a_decisionArray a_decisionPlace a_candidateMany a_candidates a_ruleSort a_ruleArray a_ruleWeight a_ruleLow a_ruleHigh a_chosen a_bestOf a_markElements a_markBits a_markPins (nI na) (nI ne) i_code i_lastArray i_lastPlace (nI nd) (nI nr) (nI nm) x1) [0] [1, 2, 3, 4, 5, 6, 7] rfl rfl (by decide +kernel) (ci := 7) (q0 := 0) rfl rfl rfl rfl (Nat.le_of_ble_eq_true rfl) ⟨⟨Nat.le_of_ble_eq_true rfl, Nat.le_of_ble_eq_true rfl⟩, Nat.le_of_ble_eq_true rfl, Nat.le_of_ble_eq_true rfl⟩ dX8_sort_2 (fun r1 u2 H locs hp hZ => ?_)
  obtain ⟨rfl, rfl⟩ := hp
  have hZ : zz_Z g A s.heap [cw_i g a_kindOf 60 kdf, cw_i g a_depthOf 60 dpf, cw_i g a_lengthOf 60 lnf, cw_i g a_baseOf 60 saf, cw_l g a_bits 4000 btf, cw_z g a_pinned 4000 pnf, cw_l g a_held 200 hef, cw_k7 h0 (nI na) (nI ne) a_kindOf a_depthOf a_lengthOf a_classOf a_baseOf a_bits a_pinned i_code a_lengths a_stackArray a_stackOther a_stackAt i_lastArray i_lastPlace a_path a_held a_alike a_hashes (nI nd) a_decisionArray a_decisionPlace a_candidateMany a_candidates (nI nr) a_ruleSort a_ruleArray a_ruleWeight a_ruleLow a_ruleHigh a_chosen a_bestOf (nI nm) a_markElements a_markBits a_markPins] H locs := hZ
  refine lv_if_ne (tgt := 12) hx hb dX8_sort_5 (by decide) (fun c3 => ?_) (fun c3 => ?_)
  · obtain ⟨a1, ha1, ea1⟩ := zl_isA (by omega) c3
    have hl : lv_has ls 10 [(0, .ref h0), (1, .int (nI a1)), (2, .int x2), (3, .int x3)] := by rw [← ea1]; exact hl
    have bd4 : a1 < 2 ^ 31 := by omega
    have d_a1 : x1.toNatClampNeg = a1 := by rw [ea1]; exact nI_clamp bd4
    obtain ⟨sz1, lz1, dz1, es1, el1, ed1, g11, g21, g31, g41⟩ := h_S.2.2 a1 ha1
    have bd5 : sz1 < 2 ^ 31 := by omega
    have d_sz1 : (saf a1).toNatClampNeg = sz1 := by rw [es1]; exact nI_clamp bd5
    have bd6 : lz1 < 2 ^ 31 := by omega
    have d_lz1 : (lnf a1).toNatClampNeg = lz1 := by rw [el1]; exact nI_clamp bd6
    have bd7 : dz1 < 2 ^ 31 := by omega
    have d_dz1 : (dpf a1).toNatClampNeg = dz1 := by rw [ed1]; exact nI_clamp bd7
    refine lv_aload_n hx hb dX8_sort_12 rfl (lv_at hl 0 rfl) ?_
    refine zz_get hC hZ 7 rfl zf_X8_13 rfl dX8_sort_13 ?_
    refine lv_iload_n hx hb dX8_sort_16 rfl (lv_at hl 1 rfl) ?_
    have bd8 : a1 < 60 := by omega
    refine zz_ialdn hC hZ 1 rfl bd8 (by decide) dX8_sort_17 ?_
    refine zz_topi (v := nI dz1) (ed1) ?_
    refine lv_iconst (v := 1) hx hb dX8_sort_18 (by decide) ?_
    refine lv_icmp_le (tgt := 26) hx hb dX8_sort_19 (by decide) (fun c9 => ?_) (fun c9 => ?_)
    · have nc9 : dz1 ≤ 1 := (nI_leI bd7 (by decide)).mp (show nI (dz1) ≤ nI (1) from c9)
      refine lv_iload_n hx hb dX8_sort_26 rfl (lv_at hl 2 rfl) ?_
      refine lv_i2l hx hb dX8_sort_27 rfl ?_
      refine lv_lconst (v := 0) hx hb dX8_sort_28 (by decide) ?_
      refine lv_aload_n hx hb dX8_sort_29 rfl (lv_at hl 0 rfl) ?_
      refine zz_get hC hZ 7 rfl zf_X8_16 rfl dX8_sort_30 ?_
      refine lv_iload_n hx hb dX8_sort_33 rfl (lv_at hl 1 rfl) ?_
      refine zz_ialdn hC hZ 2 rfl bd8 (by decide) dX8_sort_34 ?_
      refine zz_topi (v := nI lz1) (el1) ?_
      refine lv_i2l hx hb dX8_sort_35 rfl ?_
      refine zz_iS (As := [.long x2.toInt64, .long 0, .long ((nI lz1).toInt64)]) (wc := []) (wr := [cw_i g a_kindOf 60 kdf, cw_i g a_depthOf 60 dpf, cw_i g a_lengthOf 60 lnf, cw_i g a_baseOf 60 saf, cw_l g a_bits 4000 btf, cw_z g a_pinned 4000 pnf, cw_l g a_held 200 hef, cw_k7 h0 (nI na) (nI ne) a_kindOf a_depthOf a_lengthOf a_classOf a_baseOf a_bits a_pinned i_code a_lengths a_stackArray a_stackOther a_stackAt i_lastArray i_lastPlace a_path a_held a_alike a_hashes (nI nd) a_decisionArray a_decisionPlace a_candidateMany a_candidates (nI nr) a_ruleSort a_ruleArray a_ruleWeight a_ruleLow a_ruleHigh a_chosen a_bestOf (nI nm) a_markElements a_markBits a_markPins]) (rest := []) hC hZ hs hl zc_X8_106 (cm_within g x2.toInt64 0 ((nI lz1).toInt64)) [] [0, 1, 2, 3, 4, 5, 6, 7] rfl rfl (by decide +kernel) rfl rfl (Nat.le_of_ble_eq_true rfl) ⟨⟨Nat.le_of_ble_eq_true rfl, Nat.le_of_ble_eq_true rfl⟩, Nat.le_of_ble_eq_true rfl, Nat.le_of_ble_eq_true rfl⟩ dX8_sort_36 (fun r10 u11 H locs hp hZ => ?_)
      obtain ⟨rfl, rfl⟩ := hp
      have hZ : zz_Z g A s.heap [cw_i g a_kindOf 60 kdf, cw_i g a_depthOf 60 dpf, cw_i g a_lengthOf 60 lnf, cw_i g a_baseOf 60 saf, cw_l g a_bits 4000 btf, cw_z g a_pinned 4000 pnf, cw_l g a_held 200 hef, cw_k7 h0 (nI na) (nI ne) a_kindOf a_depthOf a_lengthOf a_classOf a_baseOf a_bits a_pinned i_code a_lengths a_stackArray a_stackOther a_stackAt i_lastArray i_lastPlace a_path a_held a_alike a_hashes (nI nd) a_decisionArray a_decisionPlace a_candidateMany a_candidates (nI nr) a_ruleSort a_ruleArray a_ruleWeight a_ruleLow a_ruleHigh a_chosen a_bestOf (nI nm) a_markElements a_markBits a_markPins] H locs := hZ
      refine lv_if_eq (tgt := 59) hx hb dX8_sort_39 (by decide) (fun c12 => ?_) (fun c12 => ?_)
      · refine lv_iconst (v := 2) hx hb dX8_sort_59 (by decide) ?_
        refine lv_goto (tgt := 64) hx hb dX8_sort_60 (by decide) ?_
        refine lv_istore (lv' := [(4, .int 2), (0, .ref h0), (1, .int (nI a1)), (2, .int x2), (3, .int x3)]) hx hb dX8_sort_64 hl (by decide) rfl (fun ls hl => ?_)
        refine lv_iload_n hx hb dX8_sort_66 rfl (lv_at hl 3 rfl) ?_
        refine lv_istore (lv' := [(5, .int x2), (4, .int 2), (0, .ref h0), (1, .int (nI a1)), (2, .int x2), (3, .int x3)]) hx hb dX8_sort_67 hl (by decide) rfl (fun ls hl => ?_)
        refine lv_iload hx hb dX8_sort_69 (lv_at hl 0 rfl) ?_
        refine lv_iload_n hx hb dX8_sort_71 rfl (lv_at hl 5 rfl) ?_
        refine lv_icmp_ge (tgt := 111) hx hb dX8_sort_72 (by decide) (fun c13 => ?_) (fun c13 => ?_)
        · refine lv_iload hx hb dX8_sort_111 (lv_at hl 1 rfl) ?_
          refine lv_if_le (tgt := 123) hx hb dX8_sort_113 (by decide) (fun c => absurd c (by decide)) (fun c14 => ?_)
          refine lv_aload_n hx hb dX8_sort_116 rfl (lv_at hl 2 rfl) ?_
          refine lv_iload hx hb dX8_sort_117 (lv_at hl 1 rfl) ?_
          refine zz_iV (As := [.int 2]) (wc := [cw_k7 h0 (nI na) (nI ne) a_kindOf a_depthOf a_lengthOf a_classOf a_baseOf a_bits a_pinned i_code a_lengths a_stackArray a_stackOther a_stackAt i_lastArray i_lastPlace a_path a_held a_alike a_hashes (nI nd) a_decisionArray a_decisionPlace a_candidateMany a_candidates (nI nr) a_ruleSort a_ruleArray a_ruleWeight a_ruleLow a_ruleHigh a_chosen a_bestOf (nI nm) a_markElements a_markBits a_markPins]) (wr := [cw_i g a_kindOf 60 kdf, cw_i g a_depthOf 60 dpf, cw_i g a_lengthOf 60 lnf, cw_i g a_baseOf 60 saf, cw_l g a_bits 4000 btf, cw_z g a_pinned 4000 pnf, cw_l g a_held 200 hef]) (rest := []) hC hZ hs hl zc_X8_175 (cm_fails g h0 a_kindOf a_depthOf a_lengthOf a_classOf a_baseOf a_bits a_pinned a_lengths a_stackArray a_stackOther a_stackAt a_path a_held a_alike a_hashes a_decisionArray a_decisionPlace a_candidateMany a_candidates a_ruleSort a_ruleArray a_ruleWeight a_ruleLow a_ruleHigh a_chosen a_bestOf a_markElements a_markBits a_markPins (nI na) (nI ne) i_code i_lastArray i_lastPlace (nI nd) (nI nr) (nI nm) 2) [7] [0, 1, 2, 3, 4, 5, 6] rfl rfl (by decide +kernel) (ci := 7) (q0 := 0) rfl rfl rfl rfl (Nat.le_of_ble_eq_true rfl) ⟨⟨Nat.le_of_ble_eq_true rfl, Nat.le_of_ble_eq_true rfl⟩, Nat.le_of_ble_eq_true rfl, Nat.le_of_ble_eq_true rfl⟩ dX8_sort_119 (fun r15 u16 H locs hp hZ => ?_)
          obtain ⟨rfl, rfl⟩ := hp
          have hZ : zz_Z g A s.heap [cw_i g a_kindOf 60 kdf, cw_i g a_depthOf 60 dpf, cw_i g a_lengthOf 60 lnf, cw_i g a_baseOf 60 saf, cw_l g a_bits 4000 btf, cw_z g a_pinned 4000 pnf, cw_l g a_held 200 hef, cw_k7 h0 (nI na) (nI ne) a_kindOf a_depthOf a_lengthOf a_classOf a_baseOf a_bits a_pinned 2 a_lengths a_stackArray a_stackOther a_stackAt i_lastArray i_lastPlace a_path a_held a_alike a_hashes (nI nd) a_decisionArray a_decisionPlace a_candidateMany a_candidates (nI nr) a_ruleSort a_ruleArray a_ruleWeight a_ruleLow a_ruleHigh a_chosen a_bestOf (nI nm) a_markElements a_markBits a_markPins] H locs := hZ
          have hZ : zz_Z g A s.heap [cw_k7 h0 (nI na) (nI ne) a_kindOf a_depthOf a_lengthOf a_classOf a_baseOf a_bits a_pinned 2 a_lengths a_stackArray a_stackOther a_stackAt i_lastArray i_lastPlace a_path a_held a_alike a_hashes (nI nd) a_decisionArray a_decisionPlace a_candidateMany a_candidates (nI nr) a_ruleSort a_ruleArray a_ruleWeight a_ruleLow a_ruleHigh a_chosen a_bestOf (nI nm) a_markElements a_markBits a_markPins, cw_i g a_kindOf 60 kdf, cw_i g a_depthOf 60 dpf, cw_i g a_lengthOf 60 lnf, cw_i g a_baseOf 60 saf, cw_l g a_bits 4000 btf, cw_z g a_pinned 4000 pnf, cw_l g a_held 200 hef] H locs := hZ.sub [7, 0, 1, 2, 3, 4, 5, 6] (by decide +kernel) rfl
          exact zz_iret hC hZ (⟨2, i_lastArray, i_lastPlace, btf, hef, by refine Eq.symm ?_; rw [fo_my_sort]; refine (if_neg (by (try simp only [d_a1, d_sz1, d_lz1, d_dz1]); exact c3)).trans ?_; refine (if_pos (by (try simp only [d_a1, d_sz1, d_lz1, d_dz1]); exact c9)).trans ?_; refine (if_pos (by (try simp only [d_a1, d_sz1, d_lz1, d_dz1]); exact c12)).trans ?_; first | (simp only [d_a1, d_sz1, d_lz1, d_dz1]; done) | rfl, h_M, zz_D1.rf, rfl⟩) (Nat.le_of_ble_eq_true rfl) (Nat.le_of_ble_eq_true rfl) dX8_sort_122
        · refine lv_iload hx hb dX8_sort_75 (lv_at hl 1 rfl) ?_
          refine lv_if_ne (tgt := 111) hx hb dX8_sort_77 (by decide) (fun c17 => ?_) (fun c => absurd c (by decide))
          refine lv_iload hx hb dX8_sort_111 (lv_at hl 1 rfl) ?_
          refine lv_if_le (tgt := 123) hx hb dX8_sort_113 (by decide) (fun c => absurd c (by decide)) (fun c18 => ?_)
          refine lv_aload_n hx hb dX8_sort_116 rfl (lv_at hl 2 rfl) ?_
          refine lv_iload hx hb dX8_sort_117 (lv_at hl 1 rfl) ?_
          refine zz_iV (As := [.int 2]) (wc := [cw_k7 h0 (nI na) (nI ne) a_kindOf a_depthOf a_lengthOf a_classOf a_baseOf a_bits a_pinned i_code a_lengths a_stackArray a_stackOther a_stackAt i_lastArray i_lastPlace a_path a_held a_alike a_hashes (nI nd) a_decisionArray a_decisionPlace a_candidateMany a_candidates (nI nr) a_ruleSort a_ruleArray a_ruleWeight a_ruleLow a_ruleHigh a_chosen a_bestOf (nI nm) a_markElements a_markBits a_markPins]) (wr := [cw_i g a_kindOf 60 kdf, cw_i g a_depthOf 60 dpf, cw_i g a_lengthOf 60 lnf, cw_i g a_baseOf 60 saf, cw_l g a_bits 4000 btf, cw_z g a_pinned 4000 pnf, cw_l g a_held 200 hef]) (rest := []) hC hZ hs hl zc_X8_175 (cm_fails g h0 a_kindOf a_depthOf a_lengthOf a_classOf a_baseOf a_bits a_pinned a_lengths a_stackArray a_stackOther a_stackAt a_path a_held a_alike a_hashes a_decisionArray a_decisionPlace a_candidateMany a_candidates a_ruleSort a_ruleArray a_ruleWeight a_ruleLow a_ruleHigh a_chosen a_bestOf a_markElements a_markBits a_markPins (nI na) (nI ne) i_code i_lastArray i_lastPlace (nI nd) (nI nr) (nI nm) 2) [7] [0, 1, 2, 3, 4, 5, 6] rfl rfl (by decide +kernel) (ci := 7) (q0 := 0) rfl rfl rfl rfl (Nat.le_of_ble_eq_true rfl) ⟨⟨Nat.le_of_ble_eq_true rfl, Nat.le_of_ble_eq_true rfl⟩, Nat.le_of_ble_eq_true rfl, Nat.le_of_ble_eq_true rfl⟩ dX8_sort_119 (fun r19 u20 H locs hp hZ => ?_)
          obtain ⟨rfl, rfl⟩ := hp
          have hZ : zz_Z g A s.heap [cw_i g a_kindOf 60 kdf, cw_i g a_depthOf 60 dpf, cw_i g a_lengthOf 60 lnf, cw_i g a_baseOf 60 saf, cw_l g a_bits 4000 btf, cw_z g a_pinned 4000 pnf, cw_l g a_held 200 hef, cw_k7 h0 (nI na) (nI ne) a_kindOf a_depthOf a_lengthOf a_classOf a_baseOf a_bits a_pinned 2 a_lengths a_stackArray a_stackOther a_stackAt i_lastArray i_lastPlace a_path a_held a_alike a_hashes (nI nd) a_decisionArray a_decisionPlace a_candidateMany a_candidates (nI nr) a_ruleSort a_ruleArray a_ruleWeight a_ruleLow a_ruleHigh a_chosen a_bestOf (nI nm) a_markElements a_markBits a_markPins] H locs := hZ
          have hZ : zz_Z g A s.heap [cw_k7 h0 (nI na) (nI ne) a_kindOf a_depthOf a_lengthOf a_classOf a_baseOf a_bits a_pinned 2 a_lengths a_stackArray a_stackOther a_stackAt i_lastArray i_lastPlace a_path a_held a_alike a_hashes (nI nd) a_decisionArray a_decisionPlace a_candidateMany a_candidates (nI nr) a_ruleSort a_ruleArray a_ruleWeight a_ruleLow a_ruleHigh a_chosen a_bestOf (nI nm) a_markElements a_markBits a_markPins, cw_i g a_kindOf 60 kdf, cw_i g a_depthOf 60 dpf, cw_i g a_lengthOf 60 lnf, cw_i g a_baseOf 60 saf, cw_l g a_bits 4000 btf, cw_z g a_pinned 4000 pnf, cw_l g a_held 200 hef] H locs := hZ.sub [7, 0, 1, 2, 3, 4, 5, 6] (by decide +kernel) rfl
          exact zz_iret hC hZ (⟨2, i_lastArray, i_lastPlace, btf, hef, by refine Eq.symm ?_; rw [fo_my_sort]; refine (if_neg (by (try simp only [d_a1, d_sz1, d_lz1, d_dz1]); exact c3)).trans ?_; refine (if_pos (by (try simp only [d_a1, d_sz1, d_lz1, d_dz1]); exact c9)).trans ?_; refine (if_pos (by (try simp only [d_a1, d_sz1, d_lz1, d_dz1]); exact c12)).trans ?_; first | (simp only [d_a1, d_sz1, d_lz1, d_dz1]; done) | rfl, h_M, zz_D1.rf, rfl⟩) (Nat.le_of_ble_eq_true rfl) (Nat.le_of_ble_eq_true rfl) dX8_sort_122
      · obtain ⟨f, hf, ef⟩ := zl_wi0 (by omega) c12
        have hl : lv_has ls 10 [(0, .ref h0), (1, .int (nI a1)), (2, .int (nI f)), (3, .int x3)] := by rw [← ef]; exact hl
        have bd21 : f < 2 ^ 31 := by omega
        have d_f : x2.toNatClampNeg = f := by rw [ef]; exact nI_clamp bd21
        refine lv_iload_n hx hb dX8_sort_42 rfl (lv_at hl 3 rfl) ?_
        refine lv_i2l hx hb dX8_sort_43 rfl ?_
        refine lv_iload_n hx hb dX8_sort_44 rfl (lv_at hl 2 rfl) ?_
        refine lv_i2l hx hb dX8_sort_45 rfl ?_
        refine lv_aload_n hx hb dX8_sort_46 rfl (lv_at hl 0 rfl) ?_
        refine zz_get hC hZ 7 rfl zf_X8_16 rfl dX8_sort_47 ?_
        refine lv_iload_n hx hb dX8_sort_50 rfl (lv_at hl 1 rfl) ?_
        refine zz_ialdn hC hZ 2 rfl bd8 (by decide) dX8_sort_51 ?_
        refine zz_topi (v := nI lz1) (el1) ?_
        refine lv_i2l hx hb dX8_sort_52 rfl ?_
        refine zz_iS (As := [.long x3.toInt64, .long ((nI f).toInt64), .long ((nI lz1).toInt64)]) (wc := []) (wr := [cw_i g a_kindOf 60 kdf, cw_i g a_depthOf 60 dpf, cw_i g a_lengthOf 60 lnf, cw_i g a_baseOf 60 saf, cw_l g a_bits 4000 btf, cw_z g a_pinned 4000 pnf, cw_l g a_held 200 hef, cw_k7 h0 (nI na) (nI ne) a_kindOf a_depthOf a_lengthOf a_classOf a_baseOf a_bits a_pinned i_code a_lengths a_stackArray a_stackOther a_stackAt i_lastArray i_lastPlace a_path a_held a_alike a_hashes (nI nd) a_decisionArray a_decisionPlace a_candidateMany a_candidates (nI nr) a_ruleSort a_ruleArray a_ruleWeight a_ruleLow a_ruleHigh a_chosen a_bestOf (nI nm) a_markElements a_markBits a_markPins]) (rest := []) hC hZ hs hl zc_X8_106 (cm_within g x3.toInt64 ((nI f).toInt64) ((nI lz1).toInt64)) [] [0, 1, 2, 3, 4, 5, 6, 7] rfl rfl (by decide +kernel) rfl rfl (Nat.le_of_ble_eq_true rfl) ⟨⟨Nat.le_of_ble_eq_true rfl, Nat.le_of_ble_eq_true rfl⟩, Nat.le_of_ble_eq_true rfl, Nat.le_of_ble_eq_true rfl⟩ dX8_sort_53 (fun r22 u23 H locs hp hZ => ?_)
        obtain ⟨rfl, rfl⟩ := hp
        have hZ : zz_Z g A s.heap [cw_i g a_kindOf 60 kdf, cw_i g a_depthOf 60 dpf, cw_i g a_lengthOf 60 lnf, cw_i g a_baseOf 60 saf, cw_l g a_bits 4000 btf, cw_z g a_pinned 4000 pnf, cw_l g a_held 200 hef, cw_k7 h0 (nI na) (nI ne) a_kindOf a_depthOf a_lengthOf a_classOf a_baseOf a_bits a_pinned i_code a_lengths a_stackArray a_stackOther a_stackAt i_lastArray i_lastPlace a_path a_held a_alike a_hashes (nI nd) a_decisionArray a_decisionPlace a_candidateMany a_candidates (nI nr) a_ruleSort a_ruleArray a_ruleWeight a_ruleLow a_ruleHigh a_chosen a_bestOf (nI nm) a_markElements a_markBits a_markPins] H locs := hZ
        refine lv_if_ne (tgt := 63) hx hb dX8_sort_56 (by decide) (fun c24 => ?_) (fun c24 => ?_)
        · obtain ⟨t, hft, htl, et⟩ := zl_wi1 (by omega) (by omega) c24
          have hl : lv_has ls 10 [(0, .ref h0), (1, .int (nI a1)), (2, .int (nI f)), (3, .int (nI t))] := by rw [← et]; exact hl
          have bd25 : t < 2 ^ 31 := by omega
          have d_t : x3.toNatClampNeg = t := by rw [et]; exact nI_clamp bd25
          refine lv_iconst (v := 0) hx hb dX8_sort_63 (by decide) ?_
          refine lv_istore (lv' := [(4, .int 0), (0, .ref h0), (1, .int (nI a1)), (2, .int (nI f)), (3, .int (nI t))]) hx hb dX8_sort_64 hl (by decide) rfl (fun ls hl => ?_)
          refine lv_iload_n hx hb dX8_sort_66 rfl (lv_at hl 3 rfl) ?_
          refine lv_istore (lv' := [(5, .int (nI f)), (4, .int 0), (0, .ref h0), (1, .int (nI a1)), (2, .int (nI f)), (3, .int (nI t))]) hx hb dX8_sort_67 hl (by decide) rfl (fun ls hl => ?_)
          have hcpb := zl_cpb pnf (sz1 + f) (t - f)
          have LP26 : ∀ (N26 : Nat) (i : Nat) (w : Int32) (H : Heap) (locs : List Loc) (ls : Array Slot), (f ≤ i ∧ i ≤ t) → ((w = 0 ∧ zz_cp pnf (sz1 + f) (i - f) = 0) ∨ (w = 6 ∧ 0 < zz_cp pnf (sz1 + f) (t - f))) → (t - i) < N26 → zz_Z g A s.heap [cw_i g a_kindOf 60 kdf, cw_i g a_depthOf 60 dpf, cw_i g a_lengthOf 60 lnf, cw_i g a_baseOf 60 saf, cw_l g a_bits 4000 btf, cw_z g a_pinned 4000 pnf, cw_l g a_held 200 hef, cw_k7 h0 (nI na) (nI ne) a_kindOf a_depthOf a_lengthOf a_classOf a_baseOf a_bits a_pinned i_code a_lengths a_stackArray a_stackOther a_stackAt i_lastArray i_lastPlace a_path a_held a_alike a_hashes (nI nd) a_decisionArray a_decisionPlace a_candidateMany a_candidates (nI nr) a_ruleSort a_ruleArray a_ruleWeight a_ruleLow a_ruleHigh a_chosen a_bestOf (nI nm) a_markElements a_markBits a_markPins] H locs → lv_has ls 10 [(5, .int (nI i)), (4, .int w), (0, .ref h0), (1, .int (nI a1)), (2, .int (nI f)), (3, .int (nI t))] → W p l e rm_my_sort s m args below meth c H locs 0 0 (zz_QI below g args s A rm_my_sort.cells rm_my_sort.slots (po_my_sort g h0 a_kindOf a_depthOf a_lengthOf a_classOf a_baseOf a_bits a_pinned a_lengths a_stackArray a_stackOther a_stackAt a_path a_held a_alike a_hashes a_decisionArray a_decisionPlace a_candidateMany a_candidates a_ruleSort a_ruleArray a_ruleWeight a_ruleLow a_ruleHigh a_chosen a_bestOf a_markElements a_markBits a_markPins na ne nd nr nm i_code i_lastArray i_lastPlace kdf dpf lnf saf btf pnf hef x1 x2 x3 h_M)) (F0 m 69 ls []) := by
            intro N26
            induction N26 with
            | zero =>
              intro i w H locs ls hi hc hN26
              exact absurd hN26 (Nat.not_lt_zero _)
            | succ N26 ih26 =>
              intro i w H locs ls hi hc hN26 hZ hl
              refine lv_iload hx hb dX8_sort_69 (lv_at hl 0 rfl) ?_
              refine lv_iload_n hx hb dX8_sort_71 rfl (lv_at hl 5 rfl) ?_
              have bd28 : i < 2 ^ 31 := by omega
              refine lv_icmp_ge (tgt := 111) hx hb dX8_sort_72 (by decide) (fun c27 => ?_) (fun c27 => ?_)
              · have nc27 : t ≤ i := (nI_leI bd25 bd28).mp (show nI (t) ≤ nI (i) from c27)
                have d_w : (if zz_cp pnf (sz1 + f) (t - f) = 0 then (0 : Int32) else 6) = w := zl_cE1 (by omega) hc
                refine lv_iload hx hb dX8_sort_111 (lv_at hl 1 rfl) ?_
                refine lv_if_le (tgt := 123) hx hb dX8_sort_113 (by decide) (fun c29 => ?_) (fun c29 => ?_)
                · refine lv_aload_n hx hb dX8_sort_123 rfl (lv_at hl 2 rfl) ?_
                  refine zz_get hC hZ 7 rfl zf_X8_22 rfl dX8_sort_124 ?_
                  refine lv_iload_n hx hb dX8_sort_127 rfl (lv_at hl 3 rfl) ?_
                  refine zz_ialdn hC hZ 3 rfl bd8 (by decide) dX8_sort_128 ?_
                  refine zz_topi (v := nI sz1) (es1) ?_
                  refine lv_istore (lv' := [(5, .int (nI sz1)), (4, .int w), (0, .ref h0), (1, .int (nI a1)), (2, .int (nI f)), (3, .int (nI t))]) hx hb dX8_sort_129 hl (by decide) rfl (fun ls hl => ?_)
                  refine lv_iload_n hx hb dX8_sort_131 rfl (lv_at hl 4 rfl) ?_
                  refine lv_istore (lv' := [(6, .int (nI f)), (5, .int (nI sz1)), (4, .int w), (0, .ref h0), (1, .int (nI a1)), (2, .int (nI f)), (3, .int (nI t))]) hx hb dX8_sort_132 hl (by decide) rfl (fun ls hl => ?_)
                  have LP30 : ∀ (N30 : Nat) (i2 : Nat) (he1 : Nat → Int64) (H : Heap) (locs : List Loc) (ls : Array Slot), (i2 ≤ t) → (∀ k, f ≤ k → k < i2 → he1 k = btf (sz1 + k)) → (t - i2) < N30 → zz_Z g A s.heap [cw_i g a_kindOf 60 kdf, cw_i g a_depthOf 60 dpf, cw_i g a_lengthOf 60 lnf, cw_i g a_baseOf 60 saf, cw_l g a_bits 4000 btf, cw_z g a_pinned 4000 pnf, cw_l g a_held 200 he1, cw_k7 h0 (nI na) (nI ne) a_kindOf a_depthOf a_lengthOf a_classOf a_baseOf a_bits a_pinned i_code a_lengths a_stackArray a_stackOther a_stackAt i_lastArray i_lastPlace a_path a_held a_alike a_hashes (nI nd) a_decisionArray a_decisionPlace a_candidateMany a_candidates (nI nr) a_ruleSort a_ruleArray a_ruleWeight a_ruleLow a_ruleHigh a_chosen a_bestOf (nI nm) a_markElements a_markBits a_markPins] H locs → lv_has ls 10 [(6, .int (nI i2)), (5, .int (nI sz1)), (4, .int w), (0, .ref h0), (1, .int (nI a1)), (2, .int (nI f)), (3, .int (nI t))] → W p l e rm_my_sort s m args below meth c H locs 0 0 (zz_QI below g args s A rm_my_sort.cells rm_my_sort.slots (po_my_sort g h0 a_kindOf a_depthOf a_lengthOf a_classOf a_baseOf a_bits a_pinned a_lengths a_stackArray a_stackOther a_stackAt a_path a_held a_alike a_hashes a_decisionArray a_decisionPlace a_candidateMany a_candidates a_ruleSort a_ruleArray a_ruleWeight a_ruleLow a_ruleHigh a_chosen a_bestOf a_markElements a_markBits a_markPins na ne nd nr nm i_code i_lastArray i_lastPlace kdf dpf lnf saf btf pnf hef x1 x2 x3 h_M)) (F0 m 134 ls []) := by
                    intro N30
                    induction N30 with
                    | zero =>
                      intro i2 he1 H locs ls hi2 hhe hN30
                      exact absurd hN30 (Nat.not_lt_zero _)
                    | succ N30 ih30 =>
                      intro i2 he1 H locs ls hi2 hhe hN30 hZ hl
                      refine lv_iload hx hb dX8_sort_134 (lv_at hl 0 rfl) ?_
                      refine lv_iload_n hx hb dX8_sort_136 rfl (lv_at hl 6 rfl) ?_
                      have bd32 : i2 < 2 ^ 31 := by omega
                      refine lv_icmp_ge (tgt := 163) hx hb dX8_sort_137 (by decide) (fun c31 => ?_) (fun c31 => ?_)
                      · have nc31 : t ≤ i2 := (nI_leI bd25 bd32).mp (show nI (t) ≤ nI (i2) from c31)
                        refine lv_iload_n hx hb dX8_sort_163 rfl (lv_at hl 5 rfl) ?_
                        refine lv_iconst (v := 1) hx hb dX8_sort_164 (by decide) ?_
                        refine lv_iadd hx hb dX8_sort_165 ?_
                        refine zz_topi (v := nI (f + 1)) (nI_1 _) ?_
                        refine lv_istore (lv' := [(6, .int (nI (f + 1))), (5, .int (nI sz1)), (4, .int w), (0, .ref h0), (1, .int (nI a1)), (2, .int (nI f)), (3, .int (nI t))]) hx hb dX8_sort_166 hl (by decide) rfl (fun ls hl => ?_)
                        have LP33 : ∀ (N33 : Nat) (i3 : Nat) (bt1 : Nat → Int64) (H : Heap) (locs : List Loc) (ls : Array Slot), (f < i3 ∧ i3 ≤ t + 1) → (zz_MI na ne dpf saf lnf bt1) → (∀ j, j < sz1 ∨ sz1 + lz1 ≤ j → bt1 j = btf j) → (sp_is (fn_cm_orderNumber (kdf a1)) (sz1 + f) (t - (f + 1)) (sz1 + (f + 1)) btf = sp_is (fn_cm_orderNumber (kdf a1)) (sz1 + f) (t - i3) (sz1 + i3) bt1) → (t - i3) < N33 → zz_Z g A s.heap [cw_i g a_kindOf 60 kdf, cw_i g a_depthOf 60 dpf, cw_i g a_lengthOf 60 lnf, cw_i g a_baseOf 60 saf, cw_l g a_bits 4000 bt1, cw_z g a_pinned 4000 pnf, cw_l g a_held 200 he1, cw_k7 h0 (nI na) (nI ne) a_kindOf a_depthOf a_lengthOf a_classOf a_baseOf a_bits a_pinned i_code a_lengths a_stackArray a_stackOther a_stackAt i_lastArray i_lastPlace a_path a_held a_alike a_hashes (nI nd) a_decisionArray a_decisionPlace a_candidateMany a_candidates (nI nr) a_ruleSort a_ruleArray a_ruleWeight a_ruleLow a_ruleHigh a_chosen a_bestOf (nI nm) a_markElements a_markBits a_markPins] H locs → lv_has ls 10 [(6, .int (nI i3)), (5, .int (nI sz1)), (4, .int w), (0, .ref h0), (1, .int (nI a1)), (2, .int (nI f)), (3, .int (nI t))] → W p l e rm_my_sort s m args below meth c H locs 0 0 (zz_QI below g args s A rm_my_sort.cells rm_my_sort.slots (po_my_sort g h0 a_kindOf a_depthOf a_lengthOf a_classOf a_baseOf a_bits a_pinned a_lengths a_stackArray a_stackOther a_stackAt a_path a_held a_alike a_hashes a_decisionArray a_decisionPlace a_candidateMany a_candidates a_ruleSort a_ruleArray a_ruleWeight a_ruleLow a_ruleHigh a_chosen a_bestOf a_markElements a_markBits a_markPins na ne nd nr nm i_code i_lastArray i_lastPlace kdf dpf lnf saf btf pnf hef x1 x2 x3 h_M)) (F0 m 168 ls []) := by
                          intro N33
                          induction N33 with
                          | zero =>
                            intro i3 bt1 H locs ls hi3 hM1 hk1 his hN33
                            exact absurd hN33 (Nat.not_lt_zero _)
                          | succ N33 ih33 =>
                            intro i3 bt1 H locs ls hi3 hM1 hk1 his hN33 hZ hl
                            refine lv_iload hx hb dX8_sort_168 (lv_at hl 0 rfl) ?_
                            refine lv_iload_n hx hb dX8_sort_170 rfl (lv_at hl 6 rfl) ?_
                            have bd35 : i3 < 2 ^ 31 := by omega
                            refine lv_icmp_ge (tgt := 278) hx hb dX8_sort_171 (by decide) (fun c34 => ?_) (fun c34 => ?_)
                            · have nc34 : t ≤ i3 := (nI_leI bd25 bd35).mp (show nI (t) ≤ nI (i3) from c34)
                              have d_bt1 : sp_is (fn_cm_orderNumber (kdf a1)) (sz1 + f) (t - (f + 1)) (sz1 + (f + 1)) btf = bt1 := by rw [his, show t - i3 = 0 by omega, sp_is]
                              refine lv_iconst (v := 0) hx hb dX8_sort_278 (by decide) ?_
                              refine lv_istore (lv' := [(6, .int 0), (5, .int (nI sz1)), (4, .int w), (0, .ref h0), (1, .int (nI a1)), (2, .int (nI f)), (3, .int (nI t))]) hx hb dX8_sort_279 hl (by decide) rfl (fun ls hl => ?_)
                              refine lv_iload_n hx hb dX8_sort_281 rfl (lv_at hl 5 rfl) ?_
                              refine lv_istore (lv' := [(7, .int (nI f)), (6, .int 0), (5, .int (nI sz1)), (4, .int w), (0, .ref h0), (1, .int (nI a1)), (2, .int (nI f)), (3, .int (nI t))]) hx hb dX8_sort_282 hl (by decide) rfl (fun ls hl => ?_)
                              have LP36 : ∀ (N36 : Nat) (i5 : Nat) (w5 : Int32) (H : Heap) (locs : List Loc) (ls : Array Slot), (f ≤ i5 ∧ i5 ≤ t) → (sp_ce bt1 btf sz1 (t - f) f 0 = sp_ce bt1 btf sz1 (t - i5) i5 w5) → (t - i5) < N36 → zz_Z g A s.heap [cw_i g a_kindOf 60 kdf, cw_i g a_depthOf 60 dpf, cw_i g a_lengthOf 60 lnf, cw_i g a_baseOf 60 saf, cw_l g a_bits 4000 bt1, cw_z g a_pinned 4000 pnf, cw_l g a_held 200 he1, cw_k7 h0 (nI na) (nI ne) a_kindOf a_depthOf a_lengthOf a_classOf a_baseOf a_bits a_pinned i_code a_lengths a_stackArray a_stackOther a_stackAt i_lastArray i_lastPlace a_path a_held a_alike a_hashes (nI nd) a_decisionArray a_decisionPlace a_candidateMany a_candidates (nI nr) a_ruleSort a_ruleArray a_ruleWeight a_ruleLow a_ruleHigh a_chosen a_bestOf (nI nm) a_markElements a_markBits a_markPins] H locs → lv_has ls 10 [(7, .int (nI i5)), (6, .int w5), (5, .int (nI sz1)), (4, .int w), (0, .ref h0), (1, .int (nI a1)), (2, .int (nI f)), (3, .int (nI t))] → W p l e rm_my_sort s m args below meth c H locs 0 0 (zz_QI below g args s A rm_my_sort.cells rm_my_sort.slots (po_my_sort g h0 a_kindOf a_depthOf a_lengthOf a_classOf a_baseOf a_bits a_pinned a_lengths a_stackArray a_stackOther a_stackAt a_path a_held a_alike a_hashes a_decisionArray a_decisionPlace a_candidateMany a_candidates a_ruleSort a_ruleArray a_ruleWeight a_ruleLow a_ruleHigh a_chosen a_bestOf a_markElements a_markBits a_markPins na ne nd nr nm i_code i_lastArray i_lastPlace kdf dpf lnf saf btf pnf hef x1 x2 x3 h_M)) (F0 m 284 ls []) := by
                                intro N36
                                induction N36 with
                                | zero =>
                                  intro i5 w5 H locs ls hi5 hce hN36
                                  exact absurd hN36 (Nat.not_lt_zero _)
                                | succ N36 ih36 =>
                                  intro i5 w5 H locs ls hi5 hce hN36 hZ hl
                                  refine lv_iload hx hb dX8_sort_284 (lv_at hl 0 rfl) ?_
                                  refine lv_iload_n hx hb dX8_sort_286 rfl (lv_at hl 7 rfl) ?_
                                  have bd38 : i5 < 2 ^ 31 := by omega
                                  refine lv_icmp_ge (tgt := 327) hx hb dX8_sort_287 (by decide) (fun c37 => ?_) (fun c37 => ?_)
                                  · have nc37 : t ≤ i5 := (nI_leI bd25 bd38).mp (show nI (t) ≤ nI (i5) from c37)
                                    have d_w5 : sp_ce bt1 btf sz1 (t - f) f 0 = w5 := by rw [hce, show t - i5 = 0 by omega, sp_ce]
                                    refine lv_aload_n hx hb dX8_sort_327 rfl (lv_at hl 4 rfl) ?_
                                    refine lv_iload hx hb dX8_sort_328 (lv_at hl 1 rfl) ?_
                                    refine zz_iV (As := [.int w5]) (wc := [cw_k7 h0 (nI na) (nI ne) a_kindOf a_depthOf a_lengthOf a_classOf a_baseOf a_bits a_pinned i_code a_lengths a_stackArray a_stackOther a_stackAt i_lastArray i_lastPlace a_path a_held a_alike a_hashes (nI nd) a_decisionArray a_decisionPlace a_candidateMany a_candidates (nI nr) a_ruleSort a_ruleArray a_ruleWeight a_ruleLow a_ruleHigh a_chosen a_bestOf (nI nm) a_markElements a_markBits a_markPins]) (wr := [cw_i g a_kindOf 60 kdf, cw_i g a_depthOf 60 dpf, cw_i g a_lengthOf 60 lnf, cw_i g a_baseOf 60 saf, cw_l g a_bits 4000 bt1, cw_z g a_pinned 4000 pnf, cw_l g a_held 200 he1]) (rest := []) hC hZ hs hl zc_X8_183 (cm_fine g h0 a_kindOf a_depthOf a_lengthOf a_classOf a_baseOf a_bits a_pinned a_lengths a_stackArray a_stackOther a_stackAt a_path a_held a_alike a_hashes a_decisionArray a_decisionPlace a_candidateMany a_candidates a_ruleSort a_ruleArray a_ruleWeight a_ruleLow a_ruleHigh a_chosen a_bestOf a_markElements a_markBits a_markPins (nI na) (nI ne) i_code i_lastArray i_lastPlace (nI nd) (nI nr) (nI nm) w5) [7] [0, 1, 2, 3, 4, 5, 6] rfl rfl (by decide +kernel) (ci := 7) (q0 := 0) rfl rfl rfl rfl (Nat.le_of_ble_eq_true rfl) ⟨⟨Nat.le_of_ble_eq_true rfl, Nat.le_of_ble_eq_true rfl⟩, Nat.le_of_ble_eq_true rfl, Nat.le_of_ble_eq_true rfl⟩ dX8_sort_330 (fun r39 u40 H locs hp hZ => ?_)
                                    obtain ⟨rfl, rfl⟩ := hp
                                    have hZ : zz_Z g A s.heap [cw_i g a_kindOf 60 kdf, cw_i g a_depthOf 60 dpf, cw_i g a_lengthOf 60 lnf, cw_i g a_baseOf 60 saf, cw_l g a_bits 4000 bt1, cw_z g a_pinned 4000 pnf, cw_l g a_held 200 he1, cw_k7 h0 (nI na) (nI ne) a_kindOf a_depthOf a_lengthOf a_classOf a_baseOf a_bits a_pinned 0 a_lengths a_stackArray a_stackOther a_stackAt i_lastArray i_lastPlace a_path a_held a_alike a_hashes (nI nd) a_decisionArray a_decisionPlace a_candidateMany a_candidates (nI nr) a_ruleSort a_ruleArray a_ruleWeight a_ruleLow a_ruleHigh a_chosen a_bestOf (nI nm) a_markElements a_markBits a_markPins] H locs := hZ
                                    have hZ : zz_Z g A s.heap [cw_k7 h0 (nI na) (nI ne) a_kindOf a_depthOf a_lengthOf a_classOf a_baseOf a_bits a_pinned 0 a_lengths a_stackArray a_stackOther a_stackAt i_lastArray i_lastPlace a_path a_held a_alike a_hashes (nI nd) a_decisionArray a_decisionPlace a_candidateMany a_candidates (nI nr) a_ruleSort a_ruleArray a_ruleWeight a_ruleLow a_ruleHigh a_chosen a_bestOf (nI nm) a_markElements a_markBits a_markPins, cw_i g a_kindOf 60 kdf, cw_i g a_depthOf 60 dpf, cw_i g a_lengthOf 60 lnf, cw_i g a_baseOf 60 saf, cw_l g a_bits 4000 bt1, cw_z g a_pinned 4000 pnf, cw_l g a_held 200 he1] H locs := hZ.sub [7, 0, 1, 2, 3, 4, 5, 6] (by decide +kernel) rfl
                                    exact zz_iret hC hZ (⟨0, i_lastArray, i_lastPlace, bt1, he1, by refine Eq.symm ?_; rw [fo_my_sort]; refine (if_neg (by (try simp only [d_a1, d_sz1, d_lz1, d_dz1, d_f, d_t, d_w, d_bt1, d_w5]); exact c3)).trans ?_; refine (if_pos (by (try simp only [d_a1, d_sz1, d_lz1, d_dz1, d_f, d_t, d_w, d_bt1, d_w5]); exact c9)).trans ?_; refine (if_neg (by (try simp only [d_a1, d_sz1, d_lz1, d_dz1, d_f, d_t, d_w, d_bt1, d_w5]); exact c12)).trans ?_; refine (if_neg (by (try simp only [d_a1, d_sz1, d_lz1, d_dz1, d_f, d_t, d_w, d_bt1, d_w5]); exact c24)).trans ?_; refine (if_pos (by (try simp only [d_a1, d_sz1, d_lz1, d_dz1, d_f, d_t, d_w, d_bt1, d_w5]); exact c29)).trans ?_; first | (simp only [d_a1, d_sz1, d_lz1, d_dz1, d_f, d_t, d_w, d_bt1, d_w5]; done) | rfl, hM1, zz_D1.of ha1 (by rw [ed1, show dz1 = 1 by omega]) es1 el1 (by omega) (by omega) hk1, rfl⟩) (Nat.le_of_ble_eq_true rfl) (Nat.le_of_ble_eq_true rfl) dX8_sort_333
                                  · have nc37 : ¬ t ≤ i5 := fun zq => c37 (show nI (t) ≤ nI (i5) from (nI_leI bd25 bd38).mpr zq)
                                    refine lv_iload hx hb dX8_sort_290 (lv_at hl 1 rfl) ?_
                                    refine lv_aload_n hx hb dX8_sort_292 rfl (lv_at hl 4 rfl) ?_
                                    refine zz_get hC hZ 7 rfl zf_X8_48 rfl dX8_sort_293 ?_
                                    refine lv_iload hx hb dX8_sort_296 (lv_at hl 0 rfl) ?_
                                    have bd41 : i5 < 200 := by omega
                                    refine zz_laldn hC hZ 6 rfl bd41 (by decide) dX8_sort_298 ?_
                                    refine lv_aload_n hx hb dX8_sort_299 rfl (lv_at hl 4 rfl) ?_
                                    refine zz_get hC hZ 7 rfl zf_X8_25 rfl dX8_sort_300 ?_
                                    refine lv_iload hx hb dX8_sort_303 (lv_at hl 2 rfl) ?_
                                    refine lv_iload hx hb dX8_sort_305 (lv_at hl 0 rfl) ?_
                                    refine lv_iadd hx hb dX8_sort_307 ?_
                                    refine zz_topi (v := nI (sz1 + i5)) (nI_add _ _) ?_
                                    have bd42 : (sz1 + i5) < 4000 := by omega
                                    refine zz_laldn hC hZ 4 rfl bd42 (by decide) dX8_sort_308 ?_
                                    refine zz_lcmp_eq (tgt := 317) hC dX8_sort_309 dX8_sort_310 (by decide) (fun c43 => ?_) (fun c43 => ?_)
                                    · refine lv_iconst (v := 0) hx hb dX8_sort_317 (by decide) ?_
                                      refine lv_iadd hx hb dX8_sort_318 ?_
                                      refine lv_istore (lv' := [(6, .int (w5 + 0)), (7, .int (nI i5)), (5, .int (nI sz1)), (4, .int w), (0, .ref h0), (1, .int (nI a1)), (2, .int (nI f)), (3, .int (nI t))]) hx hb dX8_sort_319 hl (by decide) rfl (fun ls hl => ?_)
                                      refine lv_iinc (v := nI (i5 + 1)) (lv' := [(7, .int (nI (i5 + 1))), (6, .int (w5 + 0)), (5, .int (nI sz1)), (4, .int w), (0, .ref h0), (1, .int (nI a1)), (2, .int (nI f)), (3, .int (nI t))]) hx hb dX8_sort_321 hl (k := 1) rfl (nI_1 _) (by decide) rfl (fun ls hl => ?_)
                                      refine lv_goto (tgt := 284) hx hb dX8_sort_324 (by decide) ?_
                                      exact ih36 (i5 + 1) (w5 + 0) H locs ls (by omega) (by rw [hce, show t - i5 = (t - (i5 + 1)) + 1 by omega, sp_ce, if_pos ((hhe i5 (by omega) (by omega)).symm.trans c43)]) (by omega) hZ (lv_sub hl [0, 1, 2, 3, 4, 5, 6, 7] rfl)
                                    · refine lv_iconst (v := 1) hx hb dX8_sort_313 (by decide) ?_
                                      refine lv_goto (tgt := 318) hx hb dX8_sort_314 (by decide) ?_
                                      refine lv_iadd hx hb dX8_sort_318 ?_
                                      refine lv_istore (lv' := [(6, .int (w5 + 1)), (7, .int (nI i5)), (5, .int (nI sz1)), (4, .int w), (0, .ref h0), (1, .int (nI a1)), (2, .int (nI f)), (3, .int (nI t))]) hx hb dX8_sort_319 hl (by decide) rfl (fun ls hl => ?_)
                                      refine lv_iinc (v := nI (i5 + 1)) (lv' := [(7, .int (nI (i5 + 1))), (6, .int (w5 + 1)), (5, .int (nI sz1)), (4, .int w), (0, .ref h0), (1, .int (nI a1)), (2, .int (nI f)), (3, .int (nI t))]) hx hb dX8_sort_321 hl (k := 1) rfl (nI_1 _) (by decide) rfl (fun ls hl => ?_)
                                      refine lv_goto (tgt := 284) hx hb dX8_sort_324 (by decide) ?_
                                      exact ih36 (i5 + 1) (w5 + 1) H locs ls (by omega) (by rw [hce, show t - i5 = (t - (i5 + 1)) + 1 by omega, sp_ce, if_neg (fun z => c43 ((hhe i5 (by omega) (by omega)).trans z))]) (by omega) hZ (lv_sub hl [0, 1, 2, 3, 4, 5, 6, 7] rfl)
                              exact LP36 _ f 0 H locs ls (by omega) (rfl) (Nat.lt_succ_self _) hZ (lv_sub hl [0, 1, 2, 3, 4, 5, 6, 7] rfl)
                            · have nc34 : ¬ t ≤ i3 := fun zq => c34 (show nI (t) ≤ nI (i3) from (nI_leI bd25 bd35).mpr zq)
                              refine lv_aload_n hx hb dX8_sort_174 rfl (lv_at hl 3 rfl) ?_
                              refine zz_get hC hZ 7 rfl zf_X8_25 rfl dX8_sort_175 ?_
                              refine lv_iload hx hb dX8_sort_178 (lv_at hl 1 rfl) ?_
                              refine lv_iload hx hb dX8_sort_180 (lv_at hl 0 rfl) ?_
                              refine lv_iadd hx hb dX8_sort_182 ?_
                              refine zz_topi (v := nI (sz1 + i3)) (nI_add _ _) ?_
                              have bd44 : (sz1 + i3) < 4000 := by omega
                              refine zz_laldn hC hZ 4 rfl bd44 (by decide) dX8_sort_183 ?_
                              refine lv_lstore (lv' := [(7, .long (bt1 (sz1 + i3))), (6, .int (nI i3)), (5, .int (nI sz1)), (4, .int w), (0, .ref h0), (1, .int (nI a1)), (2, .int (nI f)), (3, .int (nI t))]) hx hb dX8_sort_184 hl (by decide) rfl (fun ls hl => ?_)
                              refine lv_iload hx hb dX8_sort_186 (lv_at hl 1 rfl) ?_
                              refine lv_istore (lv' := [(9, .int (nI i3)), (7, .long (bt1 (sz1 + i3))), (6, .int (nI i3)), (5, .int (nI sz1)), (4, .int w), (0, .ref h0), (1, .int (nI a1)), (2, .int (nI f)), (3, .int (nI t))]) hx hb dX8_sort_188 hl (by decide) rfl (fun ls hl => ?_)
                              have LP45 : ∀ (N45 : Nat) (i4 : Nat) (bt4 : Nat → Int64) (H : Heap) (locs : List Loc) (ls : Array Slot), (f ≤ i4 ∧ i4 ≤ i3 ∧ i4 < t) → (zz_MI na ne dpf saf lnf bt4) → (∀ j, j < sz1 ∨ sz1 + lz1 ≤ j → bt4 j = btf j) → (∀ j, bt4 j = if sz1 + i4 < j ∧ j ≤ sz1 + i3 then bt1 (j - 1) else bt1 j) → (zz_ps (fn_cm_orderNumber (kdf a1)) bt1 (sz1 + f) (fn_cm_orderNumber (kdf a1) (bt1 (sz1 + i3))) (sz1 + i3) = zz_ps (fn_cm_orderNumber (kdf a1)) bt1 (sz1 + f) (fn_cm_orderNumber (kdf a1) (bt1 (sz1 + i3))) (sz1 + i4)) → i4 < N45 → zz_Z g A s.heap [cw_i g a_kindOf 60 kdf, cw_i g a_depthOf 60 dpf, cw_i g a_lengthOf 60 lnf, cw_i g a_baseOf 60 saf, cw_l g a_bits 4000 bt4, cw_z g a_pinned 4000 pnf, cw_l g a_held 200 he1, cw_k7 h0 (nI na) (nI ne) a_kindOf a_depthOf a_lengthOf a_classOf a_baseOf a_bits a_pinned i_code a_lengths a_stackArray a_stackOther a_stackAt i_lastArray i_lastPlace a_path a_held a_alike a_hashes (nI nd) a_decisionArray a_decisionPlace a_candidateMany a_candidates (nI nr) a_ruleSort a_ruleArray a_ruleWeight a_ruleLow a_ruleHigh a_chosen a_bestOf (nI nm) a_markElements a_markBits a_markPins] H locs → lv_has ls 10 [(9, .int (nI i4)), (7, .long (bt1 (sz1 + i3))), (6, .int (nI i3)), (5, .int (nI sz1)), (4, .int w), (0, .ref h0), (1, .int (nI a1)), (2, .int (nI f)), (3, .int (nI t))] → W p l e rm_my_sort s m args below meth c H locs 0 0 (zz_QI below g args s A rm_my_sort.cells rm_my_sort.slots (po_my_sort g h0 a_kindOf a_depthOf a_lengthOf a_classOf a_baseOf a_bits a_pinned a_lengths a_stackArray a_stackOther a_stackAt a_path a_held a_alike a_hashes a_decisionArray a_decisionPlace a_candidateMany a_candidates a_ruleSort a_ruleArray a_ruleWeight a_ruleLow a_ruleHigh a_chosen a_bestOf a_markElements a_markBits a_markPins na ne nd nr nm i_code i_lastArray i_lastPlace kdf dpf lnf saf btf pnf hef x1 x2 x3 h_M)) (F0 m 190 ls []) := by
                                intro N45
                                induction N45 with
                                | zero =>
                                  intro i4 bt4 H locs ls hi4 hM4 hk4 hsh hps hN45
                                  exact absurd hN45 (Nat.not_lt_zero _)
                                | succ N45 ih45 =>
                                  intro i4 bt4 H locs ls hi4 hM4 hk4 hsh hps hN45 hZ hl
                                  refine lv_iload hx hb dX8_sort_190 (lv_at hl 0 rfl) ?_
                                  refine lv_iload_n hx hb dX8_sort_192 rfl (lv_at hl 7 rfl) ?_
                                  have bd47 : i4 < 2 ^ 31 := by omega
                                  refine lv_icmp_le (tgt := 260) hx hb dX8_sort_193 (by decide) (fun c46 => ?_) (fun c46 => ?_)
                                  · have nc46 : i4 ≤ f := (nI_leI bd47 bd21).mp (show nI (i4) ≤ nI (f) from c46)
                                    refine lv_aload_n hx hb dX8_sort_260 rfl (lv_at hl 5 rfl) ?_
                                    refine zz_get hC hZ 7 rfl zf_X8_25 rfl dX8_sort_261 ?_
                                    refine lv_iload hx hb dX8_sort_264 (lv_at hl 3 rfl) ?_
                                    refine lv_iload hx hb dX8_sort_266 (lv_at hl 0 rfl) ?_
                                    refine lv_iadd hx hb dX8_sort_268 ?_
                                    refine zz_topi (v := nI (sz1 + i4)) (nI_add _ _) ?_
                                    refine lv_lload hx hb dX8_sort_269 (lv_at hl 1 rfl) ?_
                                    have bd48 : (sz1 + i4) < 4000 := by omega
                                    refine zz_lastn hC hZ 4 rfl bd48 (by decide) dX8_sort_271 (fun H locs hZ => ?_)
                                    have hZ : zz_Z g A s.heap [cw_i g a_kindOf 60 kdf, cw_i g a_depthOf 60 dpf, cw_i g a_lengthOf 60 lnf, cw_i g a_baseOf 60 saf, cw_l g a_bits 4000 (vp_updL bt4 (sz1 + i4) (bt1 (sz1 + i3))), cw_z g a_pinned 4000 pnf, cw_l g a_held 200 he1, cw_k7 h0 (nI na) (nI ne) a_kindOf a_depthOf a_lengthOf a_classOf a_baseOf a_bits a_pinned i_code a_lengths a_stackArray a_stackOther a_stackAt i_lastArray i_lastPlace a_path a_held a_alike a_hashes (nI nd) a_decisionArray a_decisionPlace a_candidateMany a_candidates (nI nr) a_ruleSort a_ruleArray a_ruleWeight a_ruleLow a_ruleHigh a_chosen a_bestOf (nI nm) a_markElements a_markBits a_markPins] H locs := hZ
                                    refine lv_iinc (v := nI (i3 + 1)) (lv' := [(6, .int (nI (i3 + 1))), (9, .int (nI i4)), (7, .long (bt1 (sz1 + i3))), (5, .int (nI sz1)), (4, .int w), (0, .ref h0), (1, .int (nI a1)), (2, .int (nI f)), (3, .int (nI t))]) hx hb dX8_sort_272 hl (k := 2) rfl (nI_1 _) (by decide) rfl (fun ls hl => ?_)
                                    refine lv_goto (tgt := 168) hx hb dX8_sort_275 (by decide) ?_
                                    have hpe := hps.trans (zl_psE (R := fn_cm_orderNumber (kdf a1)) (bt := bt1) (Or.inl (by omega)))
                                    exact ih33 (i3 + 1) (vp_updL bt4 (sz1 + i4) (bt1 (sz1 + i3))) H locs ls (by omega) (zl_set hM4 ha1 es1 el1 ed1 (by omega) (by omega) (by omega) (show i4 < lz1 by omega) (fun hz => absurd hz (by omega))) (fun j hj => (pk_uLn (by omega)).trans (hk4 j hj)) (by rw [his, show t - i3 = (t - (i3 + 1)) + 1 by omega, sp_is, hpe, ← zl_shE hsh] <;> rfl) (by omega) hZ (lv_sub hl [0, 3, 4, 5, 6, 7, 8] rfl)
                                  · have nc46 : ¬ i4 ≤ f := fun zq => c46 (show nI (i4) ≤ nI (f) from (nI_leI bd47 bd21).mpr zq)
                                    refine lv_aload_n hx hb dX8_sort_196 rfl (lv_at hl 5 rfl) ?_
                                    refine zz_get hC hZ 7 rfl zf_X8_7 rfl dX8_sort_197 ?_
                                    refine lv_iload_n hx hb dX8_sort_200 rfl (lv_at hl 6 rfl) ?_
                                    refine zz_ialdn hC hZ 0 rfl bd8 (by decide) dX8_sort_201 ?_
                                    refine lv_aload_n hx hb dX8_sort_202 rfl (lv_at hl 5 rfl) ?_
                                    refine zz_get hC hZ 7 rfl zf_X8_25 rfl dX8_sort_203 ?_
                                    refine lv_iload hx hb dX8_sort_206 (lv_at hl 3 rfl) ?_
                                    refine lv_iload hx hb dX8_sort_208 (lv_at hl 0 rfl) ?_
                                    refine lv_iadd hx hb dX8_sort_210 ?_
                                    refine zz_topi (v := nI (sz1 + i4)) (nI_add _ _) ?_
                                    refine lv_iconst (v := 1) hx hb dX8_sort_211 (by decide) ?_
                                    refine lv_isub hx hb dX8_sort_212 ?_
                                    refine zz_topi (v := nI ((sz1 + i4) - 1)) (pk_sub (b := 1) (by omega)) ?_
                                    have bd49 : ((sz1 + i4) - 1) < 4000 := by omega
                                    refine zz_laldn hC hZ 4 rfl bd49 (by decide) dX8_sort_213 ?_
                                    refine zz_lS (As := [.int (kdf a1), .long (bt4 ((sz1 + i4) - 1))]) (wc := []) (wr := [cw_i g a_kindOf 60 kdf, cw_i g a_depthOf 60 dpf, cw_i g a_lengthOf 60 lnf, cw_i g a_baseOf 60 saf, cw_l g a_bits 4000 bt4, cw_z g a_pinned 4000 pnf, cw_l g a_held 200 he1, cw_k7 h0 (nI na) (nI ne) a_kindOf a_depthOf a_lengthOf a_classOf a_baseOf a_bits a_pinned i_code a_lengths a_stackArray a_stackOther a_stackAt i_lastArray i_lastPlace a_path a_held a_alike a_hashes (nI nd) a_decisionArray a_decisionPlace a_candidateMany a_candidates (nI nr) a_ruleSort a_ruleArray a_ruleWeight a_ruleLow a_ruleHigh a_chosen a_bestOf (nI nm) a_markElements a_markBits a_markPins]) (rest := []) hC hZ hs hl zc_X8_239 (cm_orderNumber g (kdf a1) (bt4 ((sz1 + i4) - 1))) [] [0, 1, 2, 3, 4, 5, 6, 7] rfl rfl (by decide +kernel) rfl rfl (Nat.le_of_ble_eq_true rfl) ⟨⟨Nat.le_of_ble_eq_true rfl, Nat.le_of_ble_eq_true rfl⟩, Nat.le_of_ble_eq_true rfl, Nat.le_of_ble_eq_true rfl⟩ dX8_sort_214 (fun r50 u51 H locs hp hZ => ?_)
                                    obtain ⟨rfl, rfl⟩ := hp
                                    have hZ : zz_Z g A s.heap [cw_i g a_kindOf 60 kdf, cw_i g a_depthOf 60 dpf, cw_i g a_lengthOf 60 lnf, cw_i g a_baseOf 60 saf, cw_l g a_bits 4000 bt4, cw_z g a_pinned 4000 pnf, cw_l g a_held 200 he1, cw_k7 h0 (nI na) (nI ne) a_kindOf a_depthOf a_lengthOf a_classOf a_baseOf a_bits a_pinned i_code a_lengths a_stackArray a_stackOther a_stackAt i_lastArray i_lastPlace a_path a_held a_alike a_hashes (nI nd) a_decisionArray a_decisionPlace a_candidateMany a_candidates (nI nr) a_ruleSort a_ruleArray a_ruleWeight a_ruleLow a_ruleHigh a_chosen a_bestOf (nI nm) a_markElements a_markBits a_markPins] H locs := hZ
                                    refine lv_aload_n hx hb dX8_sort_217 rfl (lv_at hl 5 rfl) ?_
                                    refine zz_get hC hZ 7 rfl zf_X8_7 rfl dX8_sort_218 ?_
                                    refine lv_iload_n hx hb dX8_sort_221 rfl (lv_at hl 6 rfl) ?_
                                    refine zz_ialdn hC hZ 0 rfl bd8 (by decide) dX8_sort_222 ?_
                                    refine lv_lload hx hb dX8_sort_223 (lv_at hl 1 rfl) ?_
                                    refine zz_lS (As := [.int (kdf a1), .long (bt1 (sz1 + i3))]) (wc := []) (wr := [cw_i g a_kindOf 60 kdf, cw_i g a_depthOf 60 dpf, cw_i g a_lengthOf 60 lnf, cw_i g a_baseOf 60 saf, cw_l g a_bits 4000 bt4, cw_z g a_pinned 4000 pnf, cw_l g a_held 200 he1, cw_k7 h0 (nI na) (nI ne) a_kindOf a_depthOf a_lengthOf a_classOf a_baseOf a_bits a_pinned i_code a_lengths a_stackArray a_stackOther a_stackAt i_lastArray i_lastPlace a_path a_held a_alike a_hashes (nI nd) a_decisionArray a_decisionPlace a_candidateMany a_candidates (nI nr) a_ruleSort a_ruleArray a_ruleWeight a_ruleLow a_ruleHigh a_chosen a_bestOf (nI nm) a_markElements a_markBits a_markPins]) (rest := [.long (fn_cm_orderNumber (kdf a1) (bt4 ((sz1 + i4) - 1)))]) hC hZ hs hl zc_X8_239 (cm_orderNumber g (kdf a1) (bt1 (sz1 + i3))) [] [0, 1, 2, 3, 4, 5, 6, 7] rfl rfl (by decide +kernel) rfl rfl (Nat.le_of_ble_eq_true rfl) ⟨⟨Nat.le_of_ble_eq_true rfl, Nat.le_of_ble_eq_true rfl⟩, Nat.le_of_ble_eq_true rfl, Nat.le_of_ble_eq_true rfl⟩ dX8_sort_225 (fun r52 u53 H locs hp hZ => ?_)
                                    obtain ⟨rfl, rfl⟩ := hp
                                    have hZ : zz_Z g A s.heap [cw_i g a_kindOf 60 kdf, cw_i g a_depthOf 60 dpf, cw_i g a_lengthOf 60 lnf, cw_i g a_baseOf 60 saf, cw_l g a_bits 4000 bt4, cw_z g a_pinned 4000 pnf, cw_l g a_held 200 he1, cw_k7 h0 (nI na) (nI ne) a_kindOf a_depthOf a_lengthOf a_classOf a_baseOf a_bits a_pinned i_code a_lengths a_stackArray a_stackOther a_stackAt i_lastArray i_lastPlace a_path a_held a_alike a_hashes (nI nd) a_decisionArray a_decisionPlace a_candidateMany a_candidates (nI nr) a_ruleSort a_ruleArray a_ruleWeight a_ruleLow a_ruleHigh a_chosen a_bestOf (nI nm) a_markElements a_markBits a_markPins] H locs := hZ
                                    refine zz_lcmp_le (tgt := 260) hC dX8_sort_228 dX8_sort_229 (by decide) (fun c54 => ?_) (fun c54 => ?_)
                                    · refine lv_aload_n hx hb dX8_sort_260 rfl (lv_at hl 5 rfl) ?_
                                      refine zz_get hC hZ 7 rfl zf_X8_25 rfl dX8_sort_261 ?_
                                      refine lv_iload hx hb dX8_sort_264 (lv_at hl 3 rfl) ?_
                                      refine lv_iload hx hb dX8_sort_266 (lv_at hl 0 rfl) ?_
                                      refine lv_iadd hx hb dX8_sort_268 ?_
                                      refine zz_topi (v := nI (sz1 + i4)) (nI_add _ _) ?_
                                      refine lv_lload hx hb dX8_sort_269 (lv_at hl 1 rfl) ?_
                                      have bd55 : (sz1 + i4) < 4000 := by omega
                                      refine zz_lastn hC hZ 4 rfl bd55 (by decide) dX8_sort_271 (fun H locs hZ => ?_)
                                      have hZ : zz_Z g A s.heap [cw_i g a_kindOf 60 kdf, cw_i g a_depthOf 60 dpf, cw_i g a_lengthOf 60 lnf, cw_i g a_baseOf 60 saf, cw_l g a_bits 4000 (vp_updL bt4 (sz1 + i4) (bt1 (sz1 + i3))), cw_z g a_pinned 4000 pnf, cw_l g a_held 200 he1, cw_k7 h0 (nI na) (nI ne) a_kindOf a_depthOf a_lengthOf a_classOf a_baseOf a_bits a_pinned i_code a_lengths a_stackArray a_stackOther a_stackAt i_lastArray i_lastPlace a_path a_held a_alike a_hashes (nI nd) a_decisionArray a_decisionPlace a_candidateMany a_candidates (nI nr) a_ruleSort a_ruleArray a_ruleWeight a_ruleLow a_ruleHigh a_chosen a_bestOf (nI nm) a_markElements a_markBits a_markPins] H locs := hZ
                                      refine lv_iinc (v := nI (i3 + 1)) (lv' := [(6, .int (nI (i3 + 1))), (9, .int (nI i4)), (7, .long (bt1 (sz1 + i3))), (5, .int (nI sz1)), (4, .int w), (0, .ref h0), (1, .int (nI a1)), (2, .int (nI f)), (3, .int (nI t))]) hx hb dX8_sort_272 hl (k := 2) rfl (nI_1 _) (by decide) rfl (fun ls hl => ?_)
                                      refine lv_goto (tgt := 168) hx hb dX8_sort_275 (by decide) ?_
                                      have hpe := hps.trans (zl_psE (R := fn_cm_orderNumber (kdf a1)) (bt := bt1) (Or.inr (by have z := c54; rw [hsh, if_neg (by omega)] at z; exact z)))
                                      exact ih33 (i3 + 1) (vp_updL bt4 (sz1 + i4) (bt1 (sz1 + i3))) H locs ls (by omega) (zl_set hM4 ha1 es1 el1 ed1 (by omega) (by omega) (by omega) (show i4 < lz1 by omega) (fun hz => absurd hz (by omega))) (fun j hj => (pk_uLn (by omega)).trans (hk4 j hj)) (by rw [his, show t - i3 = (t - (i3 + 1)) + 1 by omega, sp_is, hpe, ← zl_shE hsh] <;> rfl) (by omega) hZ (lv_sub hl [0, 3, 4, 5, 6, 7, 8] rfl)
                                    · refine lv_aload_n hx hb dX8_sort_232 rfl (lv_at hl 5 rfl) ?_
                                      refine zz_get hC hZ 7 rfl zf_X8_25 rfl dX8_sort_233 ?_
                                      refine lv_iload hx hb dX8_sort_236 (lv_at hl 3 rfl) ?_
                                      refine lv_iload hx hb dX8_sort_238 (lv_at hl 0 rfl) ?_
                                      refine lv_iadd hx hb dX8_sort_240 ?_
                                      refine zz_topi (v := nI (sz1 + i4)) (nI_add _ _) ?_
                                      refine lv_aload_n hx hb dX8_sort_241 rfl (lv_at hl 5 rfl) ?_
                                      refine zz_get hC hZ 7 rfl zf_X8_25 rfl dX8_sort_242 ?_
                                      refine lv_iload hx hb dX8_sort_245 (lv_at hl 3 rfl) ?_
                                      refine lv_iload hx hb dX8_sort_247 (lv_at hl 0 rfl) ?_
                                      refine lv_iadd hx hb dX8_sort_249 ?_
                                      refine zz_topi (v := nI (sz1 + i4)) (nI_add _ _) ?_
                                      refine lv_iconst (v := 1) hx hb dX8_sort_250 (by decide) ?_
                                      refine lv_isub hx hb dX8_sort_251 ?_
                                      refine zz_topi (v := nI ((sz1 + i4) - 1)) (pk_sub (b := 1) (by omega)) ?_
                                      refine zz_laldn hC hZ 4 rfl bd49 (by decide) dX8_sort_252 ?_
                                      have bd56 : (sz1 + i4) < 4000 := by omega
                                      refine zz_lastn hC hZ 4 rfl bd56 (by decide) dX8_sort_253 (fun H locs hZ => ?_)
                                      have hZ : zz_Z g A s.heap [cw_i g a_kindOf 60 kdf, cw_i g a_depthOf 60 dpf, cw_i g a_lengthOf 60 lnf, cw_i g a_baseOf 60 saf, cw_l g a_bits 4000 (vp_updL bt4 (sz1 + i4) (bt4 ((sz1 + i4) - 1))), cw_z g a_pinned 4000 pnf, cw_l g a_held 200 he1, cw_k7 h0 (nI na) (nI ne) a_kindOf a_depthOf a_lengthOf a_classOf a_baseOf a_bits a_pinned i_code a_lengths a_stackArray a_stackOther a_stackAt i_lastArray i_lastPlace a_path a_held a_alike a_hashes (nI nd) a_decisionArray a_decisionPlace a_candidateMany a_candidates (nI nr) a_ruleSort a_ruleArray a_ruleWeight a_ruleLow a_ruleHigh a_chosen a_bestOf (nI nm) a_markElements a_markBits a_markPins] H locs := hZ
                                      refine lv_iinc (v := nI (i4 - 1)) (lv' := [(9, .int (nI (i4 - 1))), (7, .long (bt1 (sz1 + i3))), (6, .int (nI i3)), (5, .int (nI sz1)), (4, .int w), (0, .ref h0), (1, .int (nI a1)), (2, .int (nI f)), (3, .int (nI t))]) hx hb dX8_sort_254 hl (k := 0) rfl (zl_dec (by omega)) (by decide) rfl (fun ls hl => ?_)
                                      refine lv_goto (tgt := 190) hx hb dX8_sort_257 (by decide) ?_
                                      exact ih45 (i4 - 1) (vp_updL bt4 (sz1 + i4) (bt4 ((sz1 + i4) - 1))) H locs ls (by omega) (zl_set hM4 ha1 es1 el1 ed1 (by omega) (by omega) (by omega) (show i4 < lz1 by omega) (fun hz => absurd hz (by omega))) (fun j hj => (pk_uLn (by omega)).trans (hk4 j hj)) (zl_shS hsh (by omega) (by omega)) (by rw [hps, zl_psS (by omega) (by have z := c54; rw [hsh, if_neg (by omega)] at z; exact z), show sz1 + i4 - 1 = sz1 + (i4 - 1) by omega]) (by omega) hZ (lv_sub hl [0, 1, 2, 3, 4, 5, 6, 7, 8] rfl)
                              exact LP45 _ i3 bt1 H locs ls (by omega) (hM1) (hk1) (fun j => (if_neg (by omega)).symm) (rfl) (Nat.lt_succ_self _) hZ (lv_sub hl [0, 1, 2, 3, 4, 5, 6, 7, 8] rfl)
                        exact LP33 _ (f + 1) btf H locs ls (by omega) (h_M) (fun _ _ => rfl) (rfl) (Nat.lt_succ_self _) hZ (lv_sub hl [0, 1, 2, 3, 4, 5, 6] rfl)
                      · have nc31 : ¬ t ≤ i2 := fun zq => c31 (show nI (t) ≤ nI (i2) from (nI_leI bd25 bd32).mpr zq)
                        refine lv_aload_n hx hb dX8_sort_140 rfl (lv_at hl 3 rfl) ?_
                        refine zz_get hC hZ 7 rfl zf_X8_48 rfl dX8_sort_141 ?_
                        refine lv_iload hx hb dX8_sort_144 (lv_at hl 0 rfl) ?_
                        refine lv_aload_n hx hb dX8_sort_146 rfl (lv_at hl 3 rfl) ?_
                        refine zz_get hC hZ 7 rfl zf_X8_25 rfl dX8_sort_147 ?_
                        refine lv_iload hx hb dX8_sort_150 (lv_at hl 1 rfl) ?_
                        refine lv_iload hx hb dX8_sort_152 (lv_at hl 0 rfl) ?_
                        refine lv_iadd hx hb dX8_sort_154 ?_
                        refine zz_topi (v := nI (sz1 + i2)) (nI_add _ _) ?_
                        have bd57 : (sz1 + i2) < 4000 := by omega
                        refine zz_laldn hC hZ 4 rfl bd57 (by decide) dX8_sort_155 ?_
                        have bd58 : i2 < 200 := by omega
                        refine zz_lastn hC hZ 6 rfl bd58 (by decide) dX8_sort_156 (fun H locs hZ => ?_)
                        have hZ : zz_Z g A s.heap [cw_i g a_kindOf 60 kdf, cw_i g a_depthOf 60 dpf, cw_i g a_lengthOf 60 lnf, cw_i g a_baseOf 60 saf, cw_l g a_bits 4000 btf, cw_z g a_pinned 4000 pnf, cw_l g a_held 200 (vp_updL he1 i2 (btf (sz1 + i2))), cw_k7 h0 (nI na) (nI ne) a_kindOf a_depthOf a_lengthOf a_classOf a_baseOf a_bits a_pinned i_code a_lengths a_stackArray a_stackOther a_stackAt i_lastArray i_lastPlace a_path a_held a_alike a_hashes (nI nd) a_decisionArray a_decisionPlace a_candidateMany a_candidates (nI nr) a_ruleSort a_ruleArray a_ruleWeight a_ruleLow a_ruleHigh a_chosen a_bestOf (nI nm) a_markElements a_markBits a_markPins] H locs := hZ
                        refine lv_iinc (v := nI (i2 + 1)) (lv' := [(6, .int (nI (i2 + 1))), (5, .int (nI sz1)), (4, .int w), (0, .ref h0), (1, .int (nI a1)), (2, .int (nI f)), (3, .int (nI t))]) hx hb dX8_sort_157 hl (k := 0) rfl (nI_1 _) (by decide) rfl (fun ls hl => ?_)
                        refine lv_goto (tgt := 134) hx hb dX8_sort_160 (by decide) ?_
                        exact ih30 (i2 + 1) (vp_updL he1 i2 (btf (sz1 + i2))) H locs ls (by omega) (fun k h1 h2 => by by_cases z : k = i2; (rw [z, pk_uLs]); (rw [pk_uLn z]; exact hhe k h1 (by omega))) (by omega) hZ (lv_sub hl [0, 1, 2, 3, 4, 5, 6] rfl)
                  exact LP30 _ f hef H locs ls (by omega) (fun k h1 h2 => absurd h1 (by omega)) (Nat.lt_succ_self _) hZ (lv_sub hl [0, 1, 2, 3, 4, 5, 6] rfl)
                · refine lv_aload_n hx hb dX8_sort_116 rfl (lv_at hl 2 rfl) ?_
                  refine lv_iload hx hb dX8_sort_117 (lv_at hl 1 rfl) ?_
                  refine zz_iV (As := [.int w]) (wc := [cw_k7 h0 (nI na) (nI ne) a_kindOf a_depthOf a_lengthOf a_classOf a_baseOf a_bits a_pinned i_code a_lengths a_stackArray a_stackOther a_stackAt i_lastArray i_lastPlace a_path a_held a_alike a_hashes (nI nd) a_decisionArray a_decisionPlace a_candidateMany a_candidates (nI nr) a_ruleSort a_ruleArray a_ruleWeight a_ruleLow a_ruleHigh a_chosen a_bestOf (nI nm) a_markElements a_markBits a_markPins]) (wr := [cw_i g a_kindOf 60 kdf, cw_i g a_depthOf 60 dpf, cw_i g a_lengthOf 60 lnf, cw_i g a_baseOf 60 saf, cw_l g a_bits 4000 btf, cw_z g a_pinned 4000 pnf, cw_l g a_held 200 hef]) (rest := []) hC hZ hs hl zc_X8_175 (cm_fails g h0 a_kindOf a_depthOf a_lengthOf a_classOf a_baseOf a_bits a_pinned a_lengths a_stackArray a_stackOther a_stackAt a_path a_held a_alike a_hashes a_decisionArray a_decisionPlace a_candidateMany a_candidates a_ruleSort a_ruleArray a_ruleWeight a_ruleLow a_ruleHigh a_chosen a_bestOf a_markElements a_markBits a_markPins (nI na) (nI ne) i_code i_lastArray i_lastPlace (nI nd) (nI nr) (nI nm) w) [7] [0, 1, 2, 3, 4, 5, 6] rfl rfl (by decide +kernel) (ci := 7) (q0 := 0) rfl rfl rfl rfl (Nat.le_of_ble_eq_true rfl) ⟨⟨Nat.le_of_ble_eq_true rfl, Nat.le_of_ble_eq_true rfl⟩, Nat.le_of_ble_eq_true rfl, Nat.le_of_ble_eq_true rfl⟩ dX8_sort_119 (fun r59 u60 H locs hp hZ => ?_)
                  obtain ⟨rfl, rfl⟩ := hp
                  have hZ : zz_Z g A s.heap [cw_i g a_kindOf 60 kdf, cw_i g a_depthOf 60 dpf, cw_i g a_lengthOf 60 lnf, cw_i g a_baseOf 60 saf, cw_l g a_bits 4000 btf, cw_z g a_pinned 4000 pnf, cw_l g a_held 200 hef, cw_k7 h0 (nI na) (nI ne) a_kindOf a_depthOf a_lengthOf a_classOf a_baseOf a_bits a_pinned w a_lengths a_stackArray a_stackOther a_stackAt i_lastArray i_lastPlace a_path a_held a_alike a_hashes (nI nd) a_decisionArray a_decisionPlace a_candidateMany a_candidates (nI nr) a_ruleSort a_ruleArray a_ruleWeight a_ruleLow a_ruleHigh a_chosen a_bestOf (nI nm) a_markElements a_markBits a_markPins] H locs := hZ
                  have hZ : zz_Z g A s.heap [cw_k7 h0 (nI na) (nI ne) a_kindOf a_depthOf a_lengthOf a_classOf a_baseOf a_bits a_pinned w a_lengths a_stackArray a_stackOther a_stackAt i_lastArray i_lastPlace a_path a_held a_alike a_hashes (nI nd) a_decisionArray a_decisionPlace a_candidateMany a_candidates (nI nr) a_ruleSort a_ruleArray a_ruleWeight a_ruleLow a_ruleHigh a_chosen a_bestOf (nI nm) a_markElements a_markBits a_markPins, cw_i g a_kindOf 60 kdf, cw_i g a_depthOf 60 dpf, cw_i g a_lengthOf 60 lnf, cw_i g a_baseOf 60 saf, cw_l g a_bits 4000 btf, cw_z g a_pinned 4000 pnf, cw_l g a_held 200 hef] H locs := hZ.sub [7, 0, 1, 2, 3, 4, 5, 6] (by decide +kernel) rfl
                  exact zz_iret hC hZ (⟨w, i_lastArray, i_lastPlace, btf, hef, by refine Eq.symm ?_; rw [fo_my_sort]; refine (if_neg (by (try simp only [d_a1, d_sz1, d_lz1, d_dz1, d_f, d_t, d_w]); exact c3)).trans ?_; refine (if_pos (by (try simp only [d_a1, d_sz1, d_lz1, d_dz1, d_f, d_t, d_w]); exact c9)).trans ?_; refine (if_neg (by (try simp only [d_a1, d_sz1, d_lz1, d_dz1, d_f, d_t, d_w]); exact c12)).trans ?_; refine (if_neg (by (try simp only [d_a1, d_sz1, d_lz1, d_dz1, d_f, d_t, d_w]); exact c24)).trans ?_; refine (if_neg (by (try simp only [d_a1, d_sz1, d_lz1, d_dz1, d_f, d_t, d_w]); exact c29)).trans ?_; first | (simp only [d_a1, d_sz1, d_lz1, d_dz1, d_f, d_t, d_w]; done) | rfl, h_M, zz_D1.rf, rfl⟩) (Nat.le_of_ble_eq_true rfl) (Nat.le_of_ble_eq_true rfl) dX8_sort_122
              · have nc27 : ¬ t ≤ i := fun zq => c27 (show nI (t) ≤ nI (i) from (nI_leI bd25 bd28).mpr zq)
                refine lv_iload hx hb dX8_sort_75 (lv_at hl 1 rfl) ?_
                refine lv_if_ne (tgt := 111) hx hb dX8_sort_77 (by decide) (fun c61 => ?_) (fun c61 => ?_)
                · have d_w : (if zz_cp pnf (sz1 + f) (t - f) = 0 then (0 : Int32) else 6) = w := zl_cE2 hc c61
                  refine lv_iload hx hb dX8_sort_111 (lv_at hl 1 rfl) ?_
                  refine lv_if_le (tgt := 123) hx hb dX8_sort_113 (by decide) (fun c62 => ?_) (fun c62 => ?_)
                  · refine lv_aload_n hx hb dX8_sort_123 rfl (lv_at hl 2 rfl) ?_
                    refine zz_get hC hZ 7 rfl zf_X8_22 rfl dX8_sort_124 ?_
                    refine lv_iload_n hx hb dX8_sort_127 rfl (lv_at hl 3 rfl) ?_
                    refine zz_ialdn hC hZ 3 rfl bd8 (by decide) dX8_sort_128 ?_
                    refine zz_topi (v := nI sz1) (es1) ?_
                    refine lv_istore (lv' := [(5, .int (nI sz1)), (4, .int w), (0, .ref h0), (1, .int (nI a1)), (2, .int (nI f)), (3, .int (nI t))]) hx hb dX8_sort_129 hl (by decide) rfl (fun ls hl => ?_)
                    refine lv_iload_n hx hb dX8_sort_131 rfl (lv_at hl 4 rfl) ?_
                    refine lv_istore (lv' := [(6, .int (nI f)), (5, .int (nI sz1)), (4, .int w), (0, .ref h0), (1, .int (nI a1)), (2, .int (nI f)), (3, .int (nI t))]) hx hb dX8_sort_132 hl (by decide) rfl (fun ls hl => ?_)
                    have LP63 : ∀ (N63 : Nat) (i2 : Nat) (he1 : Nat → Int64) (H : Heap) (locs : List Loc) (ls : Array Slot), (i2 ≤ t) → (∀ k, f ≤ k → k < i2 → he1 k = btf (sz1 + k)) → (t - i2) < N63 → zz_Z g A s.heap [cw_i g a_kindOf 60 kdf, cw_i g a_depthOf 60 dpf, cw_i g a_lengthOf 60 lnf, cw_i g a_baseOf 60 saf, cw_l g a_bits 4000 btf, cw_z g a_pinned 4000 pnf, cw_l g a_held 200 he1, cw_k7 h0 (nI na) (nI ne) a_kindOf a_depthOf a_lengthOf a_classOf a_baseOf a_bits a_pinned i_code a_lengths a_stackArray a_stackOther a_stackAt i_lastArray i_lastPlace a_path a_held a_alike a_hashes (nI nd) a_decisionArray a_decisionPlace a_candidateMany a_candidates (nI nr) a_ruleSort a_ruleArray a_ruleWeight a_ruleLow a_ruleHigh a_chosen a_bestOf (nI nm) a_markElements a_markBits a_markPins] H locs → lv_has ls 10 [(6, .int (nI i2)), (5, .int (nI sz1)), (4, .int w), (0, .ref h0), (1, .int (nI a1)), (2, .int (nI f)), (3, .int (nI t))] → W p l e rm_my_sort s m args below meth c H locs 0 0 (zz_QI below g args s A rm_my_sort.cells rm_my_sort.slots (po_my_sort g h0 a_kindOf a_depthOf a_lengthOf a_classOf a_baseOf a_bits a_pinned a_lengths a_stackArray a_stackOther a_stackAt a_path a_held a_alike a_hashes a_decisionArray a_decisionPlace a_candidateMany a_candidates a_ruleSort a_ruleArray a_ruleWeight a_ruleLow a_ruleHigh a_chosen a_bestOf a_markElements a_markBits a_markPins na ne nd nr nm i_code i_lastArray i_lastPlace kdf dpf lnf saf btf pnf hef x1 x2 x3 h_M)) (F0 m 134 ls []) := by
                      intro N63
                      induction N63 with
                      | zero =>
                        intro i2 he1 H locs ls hi2 hhe hN63
                        exact absurd hN63 (Nat.not_lt_zero _)
                      | succ N63 ih63 =>
                        intro i2 he1 H locs ls hi2 hhe hN63 hZ hl
                        refine lv_iload hx hb dX8_sort_134 (lv_at hl 0 rfl) ?_
                        refine lv_iload_n hx hb dX8_sort_136 rfl (lv_at hl 6 rfl) ?_
                        have bd65 : i2 < 2 ^ 31 := by omega
                        refine lv_icmp_ge (tgt := 163) hx hb dX8_sort_137 (by decide) (fun c64 => ?_) (fun c64 => ?_)
                        · have nc64 : t ≤ i2 := (nI_leI bd25 bd65).mp (show nI (t) ≤ nI (i2) from c64)
                          refine lv_iload_n hx hb dX8_sort_163 rfl (lv_at hl 5 rfl) ?_
                          refine lv_iconst (v := 1) hx hb dX8_sort_164 (by decide) ?_
                          refine lv_iadd hx hb dX8_sort_165 ?_
                          refine zz_topi (v := nI (f + 1)) (nI_1 _) ?_
                          refine lv_istore (lv' := [(6, .int (nI (f + 1))), (5, .int (nI sz1)), (4, .int w), (0, .ref h0), (1, .int (nI a1)), (2, .int (nI f)), (3, .int (nI t))]) hx hb dX8_sort_166 hl (by decide) rfl (fun ls hl => ?_)
                          have LP66 : ∀ (N66 : Nat) (i3 : Nat) (bt1 : Nat → Int64) (H : Heap) (locs : List Loc) (ls : Array Slot), (f < i3 ∧ i3 ≤ t + 1) → (zz_MI na ne dpf saf lnf bt1) → (∀ j, j < sz1 ∨ sz1 + lz1 ≤ j → bt1 j = btf j) → (sp_is (fn_cm_orderNumber (kdf a1)) (sz1 + f) (t - (f + 1)) (sz1 + (f + 1)) btf = sp_is (fn_cm_orderNumber (kdf a1)) (sz1 + f) (t - i3) (sz1 + i3) bt1) → (t - i3) < N66 → zz_Z g A s.heap [cw_i g a_kindOf 60 kdf, cw_i g a_depthOf 60 dpf, cw_i g a_lengthOf 60 lnf, cw_i g a_baseOf 60 saf, cw_l g a_bits 4000 bt1, cw_z g a_pinned 4000 pnf, cw_l g a_held 200 he1, cw_k7 h0 (nI na) (nI ne) a_kindOf a_depthOf a_lengthOf a_classOf a_baseOf a_bits a_pinned i_code a_lengths a_stackArray a_stackOther a_stackAt i_lastArray i_lastPlace a_path a_held a_alike a_hashes (nI nd) a_decisionArray a_decisionPlace a_candidateMany a_candidates (nI nr) a_ruleSort a_ruleArray a_ruleWeight a_ruleLow a_ruleHigh a_chosen a_bestOf (nI nm) a_markElements a_markBits a_markPins] H locs → lv_has ls 10 [(6, .int (nI i3)), (5, .int (nI sz1)), (4, .int w), (0, .ref h0), (1, .int (nI a1)), (2, .int (nI f)), (3, .int (nI t))] → W p l e rm_my_sort s m args below meth c H locs 0 0 (zz_QI below g args s A rm_my_sort.cells rm_my_sort.slots (po_my_sort g h0 a_kindOf a_depthOf a_lengthOf a_classOf a_baseOf a_bits a_pinned a_lengths a_stackArray a_stackOther a_stackAt a_path a_held a_alike a_hashes a_decisionArray a_decisionPlace a_candidateMany a_candidates a_ruleSort a_ruleArray a_ruleWeight a_ruleLow a_ruleHigh a_chosen a_bestOf a_markElements a_markBits a_markPins na ne nd nr nm i_code i_lastArray i_lastPlace kdf dpf lnf saf btf pnf hef x1 x2 x3 h_M)) (F0 m 168 ls []) := by
                            intro N66
                            induction N66 with
                            | zero =>
                              intro i3 bt1 H locs ls hi3 hM1 hk1 his hN66
                              exact absurd hN66 (Nat.not_lt_zero _)
                            | succ N66 ih66 =>
                              intro i3 bt1 H locs ls hi3 hM1 hk1 his hN66 hZ hl
                              refine lv_iload hx hb dX8_sort_168 (lv_at hl 0 rfl) ?_
                              refine lv_iload_n hx hb dX8_sort_170 rfl (lv_at hl 6 rfl) ?_
                              have bd68 : i3 < 2 ^ 31 := by omega
                              refine lv_icmp_ge (tgt := 278) hx hb dX8_sort_171 (by decide) (fun c67 => ?_) (fun c67 => ?_)
                              · have nc67 : t ≤ i3 := (nI_leI bd25 bd68).mp (show nI (t) ≤ nI (i3) from c67)
                                have d_bt1 : sp_is (fn_cm_orderNumber (kdf a1)) (sz1 + f) (t - (f + 1)) (sz1 + (f + 1)) btf = bt1 := by rw [his, show t - i3 = 0 by omega, sp_is]
                                refine lv_iconst (v := 0) hx hb dX8_sort_278 (by decide) ?_
                                refine lv_istore (lv' := [(6, .int 0), (5, .int (nI sz1)), (4, .int w), (0, .ref h0), (1, .int (nI a1)), (2, .int (nI f)), (3, .int (nI t))]) hx hb dX8_sort_279 hl (by decide) rfl (fun ls hl => ?_)
                                refine lv_iload_n hx hb dX8_sort_281 rfl (lv_at hl 5 rfl) ?_
                                refine lv_istore (lv' := [(7, .int (nI f)), (6, .int 0), (5, .int (nI sz1)), (4, .int w), (0, .ref h0), (1, .int (nI a1)), (2, .int (nI f)), (3, .int (nI t))]) hx hb dX8_sort_282 hl (by decide) rfl (fun ls hl => ?_)
                                have LP69 : ∀ (N69 : Nat) (i5 : Nat) (w5 : Int32) (H : Heap) (locs : List Loc) (ls : Array Slot), (f ≤ i5 ∧ i5 ≤ t) → (sp_ce bt1 btf sz1 (t - f) f 0 = sp_ce bt1 btf sz1 (t - i5) i5 w5) → (t - i5) < N69 → zz_Z g A s.heap [cw_i g a_kindOf 60 kdf, cw_i g a_depthOf 60 dpf, cw_i g a_lengthOf 60 lnf, cw_i g a_baseOf 60 saf, cw_l g a_bits 4000 bt1, cw_z g a_pinned 4000 pnf, cw_l g a_held 200 he1, cw_k7 h0 (nI na) (nI ne) a_kindOf a_depthOf a_lengthOf a_classOf a_baseOf a_bits a_pinned i_code a_lengths a_stackArray a_stackOther a_stackAt i_lastArray i_lastPlace a_path a_held a_alike a_hashes (nI nd) a_decisionArray a_decisionPlace a_candidateMany a_candidates (nI nr) a_ruleSort a_ruleArray a_ruleWeight a_ruleLow a_ruleHigh a_chosen a_bestOf (nI nm) a_markElements a_markBits a_markPins] H locs → lv_has ls 10 [(7, .int (nI i5)), (6, .int w5), (5, .int (nI sz1)), (4, .int w), (0, .ref h0), (1, .int (nI a1)), (2, .int (nI f)), (3, .int (nI t))] → W p l e rm_my_sort s m args below meth c H locs 0 0 (zz_QI below g args s A rm_my_sort.cells rm_my_sort.slots (po_my_sort g h0 a_kindOf a_depthOf a_lengthOf a_classOf a_baseOf a_bits a_pinned a_lengths a_stackArray a_stackOther a_stackAt a_path a_held a_alike a_hashes a_decisionArray a_decisionPlace a_candidateMany a_candidates a_ruleSort a_ruleArray a_ruleWeight a_ruleLow a_ruleHigh a_chosen a_bestOf a_markElements a_markBits a_markPins na ne nd nr nm i_code i_lastArray i_lastPlace kdf dpf lnf saf btf pnf hef x1 x2 x3 h_M)) (F0 m 284 ls []) := by
                                  intro N69
                                  induction N69 with
                                  | zero =>
                                    intro i5 w5 H locs ls hi5 hce hN69
                                    exact absurd hN69 (Nat.not_lt_zero _)
                                  | succ N69 ih69 =>
                                    intro i5 w5 H locs ls hi5 hce hN69 hZ hl
                                    refine lv_iload hx hb dX8_sort_284 (lv_at hl 0 rfl) ?_
                                    refine lv_iload_n hx hb dX8_sort_286 rfl (lv_at hl 7 rfl) ?_
                                    have bd71 : i5 < 2 ^ 31 := by omega
                                    refine lv_icmp_ge (tgt := 327) hx hb dX8_sort_287 (by decide) (fun c70 => ?_) (fun c70 => ?_)
                                    · have nc70 : t ≤ i5 := (nI_leI bd25 bd71).mp (show nI (t) ≤ nI (i5) from c70)
                                      have d_w5 : sp_ce bt1 btf sz1 (t - f) f 0 = w5 := by rw [hce, show t - i5 = 0 by omega, sp_ce]
                                      refine lv_aload_n hx hb dX8_sort_327 rfl (lv_at hl 4 rfl) ?_
                                      refine lv_iload hx hb dX8_sort_328 (lv_at hl 1 rfl) ?_
                                      refine zz_iV (As := [.int w5]) (wc := [cw_k7 h0 (nI na) (nI ne) a_kindOf a_depthOf a_lengthOf a_classOf a_baseOf a_bits a_pinned i_code a_lengths a_stackArray a_stackOther a_stackAt i_lastArray i_lastPlace a_path a_held a_alike a_hashes (nI nd) a_decisionArray a_decisionPlace a_candidateMany a_candidates (nI nr) a_ruleSort a_ruleArray a_ruleWeight a_ruleLow a_ruleHigh a_chosen a_bestOf (nI nm) a_markElements a_markBits a_markPins]) (wr := [cw_i g a_kindOf 60 kdf, cw_i g a_depthOf 60 dpf, cw_i g a_lengthOf 60 lnf, cw_i g a_baseOf 60 saf, cw_l g a_bits 4000 bt1, cw_z g a_pinned 4000 pnf, cw_l g a_held 200 he1]) (rest := []) hC hZ hs hl zc_X8_183 (cm_fine g h0 a_kindOf a_depthOf a_lengthOf a_classOf a_baseOf a_bits a_pinned a_lengths a_stackArray a_stackOther a_stackAt a_path a_held a_alike a_hashes a_decisionArray a_decisionPlace a_candidateMany a_candidates a_ruleSort a_ruleArray a_ruleWeight a_ruleLow a_ruleHigh a_chosen a_bestOf a_markElements a_markBits a_markPins (nI na) (nI ne) i_code i_lastArray i_lastPlace (nI nd) (nI nr) (nI nm) w5) [7] [0, 1, 2, 3, 4, 5, 6] rfl rfl (by decide +kernel) (ci := 7) (q0 := 0) rfl rfl rfl rfl (Nat.le_of_ble_eq_true rfl) ⟨⟨Nat.le_of_ble_eq_true rfl, Nat.le_of_ble_eq_true rfl⟩, Nat.le_of_ble_eq_true rfl, Nat.le_of_ble_eq_true rfl⟩ dX8_sort_330 (fun r72 u73 H locs hp hZ => ?_)
                                      obtain ⟨rfl, rfl⟩ := hp
                                      have hZ : zz_Z g A s.heap [cw_i g a_kindOf 60 kdf, cw_i g a_depthOf 60 dpf, cw_i g a_lengthOf 60 lnf, cw_i g a_baseOf 60 saf, cw_l g a_bits 4000 bt1, cw_z g a_pinned 4000 pnf, cw_l g a_held 200 he1, cw_k7 h0 (nI na) (nI ne) a_kindOf a_depthOf a_lengthOf a_classOf a_baseOf a_bits a_pinned 0 a_lengths a_stackArray a_stackOther a_stackAt i_lastArray i_lastPlace a_path a_held a_alike a_hashes (nI nd) a_decisionArray a_decisionPlace a_candidateMany a_candidates (nI nr) a_ruleSort a_ruleArray a_ruleWeight a_ruleLow a_ruleHigh a_chosen a_bestOf (nI nm) a_markElements a_markBits a_markPins] H locs := hZ
                                      have hZ : zz_Z g A s.heap [cw_k7 h0 (nI na) (nI ne) a_kindOf a_depthOf a_lengthOf a_classOf a_baseOf a_bits a_pinned 0 a_lengths a_stackArray a_stackOther a_stackAt i_lastArray i_lastPlace a_path a_held a_alike a_hashes (nI nd) a_decisionArray a_decisionPlace a_candidateMany a_candidates (nI nr) a_ruleSort a_ruleArray a_ruleWeight a_ruleLow a_ruleHigh a_chosen a_bestOf (nI nm) a_markElements a_markBits a_markPins, cw_i g a_kindOf 60 kdf, cw_i g a_depthOf 60 dpf, cw_i g a_lengthOf 60 lnf, cw_i g a_baseOf 60 saf, cw_l g a_bits 4000 bt1, cw_z g a_pinned 4000 pnf, cw_l g a_held 200 he1] H locs := hZ.sub [7, 0, 1, 2, 3, 4, 5, 6] (by decide +kernel) rfl
                                      exact zz_iret hC hZ (⟨0, i_lastArray, i_lastPlace, bt1, he1, by refine Eq.symm ?_; rw [fo_my_sort]; refine (if_neg (by (try simp only [d_a1, d_sz1, d_lz1, d_dz1, d_f, d_t, d_w, d_bt1, d_w5]); exact c3)).trans ?_; refine (if_pos (by (try simp only [d_a1, d_sz1, d_lz1, d_dz1, d_f, d_t, d_w, d_bt1, d_w5]); exact c9)).trans ?_; refine (if_neg (by (try simp only [d_a1, d_sz1, d_lz1, d_dz1, d_f, d_t, d_w, d_bt1, d_w5]); exact c12)).trans ?_; refine (if_neg (by (try simp only [d_a1, d_sz1, d_lz1, d_dz1, d_f, d_t, d_w, d_bt1, d_w5]); exact c24)).trans ?_; refine (if_pos (by (try simp only [d_a1, d_sz1, d_lz1, d_dz1, d_f, d_t, d_w, d_bt1, d_w5]); exact c62)).trans ?_; first | (simp only [d_a1, d_sz1, d_lz1, d_dz1, d_f, d_t, d_w, d_bt1, d_w5]; done) | rfl, hM1, zz_D1.of ha1 (by rw [ed1, show dz1 = 1 by omega]) es1 el1 (by omega) (by omega) hk1, rfl⟩) (Nat.le_of_ble_eq_true rfl) (Nat.le_of_ble_eq_true rfl) dX8_sort_333
                                    · have nc70 : ¬ t ≤ i5 := fun zq => c70 (show nI (t) ≤ nI (i5) from (nI_leI bd25 bd71).mpr zq)
                                      refine lv_iload hx hb dX8_sort_290 (lv_at hl 1 rfl) ?_
                                      refine lv_aload_n hx hb dX8_sort_292 rfl (lv_at hl 4 rfl) ?_
                                      refine zz_get hC hZ 7 rfl zf_X8_48 rfl dX8_sort_293 ?_
                                      refine lv_iload hx hb dX8_sort_296 (lv_at hl 0 rfl) ?_
                                      have bd74 : i5 < 200 := by omega
                                      refine zz_laldn hC hZ 6 rfl bd74 (by decide) dX8_sort_298 ?_
                                      refine lv_aload_n hx hb dX8_sort_299 rfl (lv_at hl 4 rfl) ?_
                                      refine zz_get hC hZ 7 rfl zf_X8_25 rfl dX8_sort_300 ?_
                                      refine lv_iload hx hb dX8_sort_303 (lv_at hl 2 rfl) ?_
                                      refine lv_iload hx hb dX8_sort_305 (lv_at hl 0 rfl) ?_
                                      refine lv_iadd hx hb dX8_sort_307 ?_
                                      refine zz_topi (v := nI (sz1 + i5)) (nI_add _ _) ?_
                                      have bd75 : (sz1 + i5) < 4000 := by omega
                                      refine zz_laldn hC hZ 4 rfl bd75 (by decide) dX8_sort_308 ?_
                                      refine zz_lcmp_eq (tgt := 317) hC dX8_sort_309 dX8_sort_310 (by decide) (fun c76 => ?_) (fun c76 => ?_)
                                      · refine lv_iconst (v := 0) hx hb dX8_sort_317 (by decide) ?_
                                        refine lv_iadd hx hb dX8_sort_318 ?_
                                        refine lv_istore (lv' := [(6, .int (w5 + 0)), (7, .int (nI i5)), (5, .int (nI sz1)), (4, .int w), (0, .ref h0), (1, .int (nI a1)), (2, .int (nI f)), (3, .int (nI t))]) hx hb dX8_sort_319 hl (by decide) rfl (fun ls hl => ?_)
                                        refine lv_iinc (v := nI (i5 + 1)) (lv' := [(7, .int (nI (i5 + 1))), (6, .int (w5 + 0)), (5, .int (nI sz1)), (4, .int w), (0, .ref h0), (1, .int (nI a1)), (2, .int (nI f)), (3, .int (nI t))]) hx hb dX8_sort_321 hl (k := 1) rfl (nI_1 _) (by decide) rfl (fun ls hl => ?_)
                                        refine lv_goto (tgt := 284) hx hb dX8_sort_324 (by decide) ?_
                                        exact ih69 (i5 + 1) (w5 + 0) H locs ls (by omega) (by rw [hce, show t - i5 = (t - (i5 + 1)) + 1 by omega, sp_ce, if_pos ((hhe i5 (by omega) (by omega)).symm.trans c76)]) (by omega) hZ (lv_sub hl [0, 1, 2, 3, 4, 5, 6, 7] rfl)
                                      · refine lv_iconst (v := 1) hx hb dX8_sort_313 (by decide) ?_
                                        refine lv_goto (tgt := 318) hx hb dX8_sort_314 (by decide) ?_
                                        refine lv_iadd hx hb dX8_sort_318 ?_
                                        refine lv_istore (lv' := [(6, .int (w5 + 1)), (7, .int (nI i5)), (5, .int (nI sz1)), (4, .int w), (0, .ref h0), (1, .int (nI a1)), (2, .int (nI f)), (3, .int (nI t))]) hx hb dX8_sort_319 hl (by decide) rfl (fun ls hl => ?_)
                                        refine lv_iinc (v := nI (i5 + 1)) (lv' := [(7, .int (nI (i5 + 1))), (6, .int (w5 + 1)), (5, .int (nI sz1)), (4, .int w), (0, .ref h0), (1, .int (nI a1)), (2, .int (nI f)), (3, .int (nI t))]) hx hb dX8_sort_321 hl (k := 1) rfl (nI_1 _) (by decide) rfl (fun ls hl => ?_)
                                        refine lv_goto (tgt := 284) hx hb dX8_sort_324 (by decide) ?_
                                        exact ih69 (i5 + 1) (w5 + 1) H locs ls (by omega) (by rw [hce, show t - i5 = (t - (i5 + 1)) + 1 by omega, sp_ce, if_neg (fun z => c76 ((hhe i5 (by omega) (by omega)).trans z))]) (by omega) hZ (lv_sub hl [0, 1, 2, 3, 4, 5, 6, 7] rfl)
                                exact LP69 _ f 0 H locs ls (by omega) (rfl) (Nat.lt_succ_self _) hZ (lv_sub hl [0, 1, 2, 3, 4, 5, 6, 7] rfl)
                              · have nc67 : ¬ t ≤ i3 := fun zq => c67 (show nI (t) ≤ nI (i3) from (nI_leI bd25 bd68).mpr zq)
                                refine lv_aload_n hx hb dX8_sort_174 rfl (lv_at hl 3 rfl) ?_
                                refine zz_get hC hZ 7 rfl zf_X8_25 rfl dX8_sort_175 ?_
                                refine lv_iload hx hb dX8_sort_178 (lv_at hl 1 rfl) ?_
                                refine lv_iload hx hb dX8_sort_180 (lv_at hl 0 rfl) ?_
                                refine lv_iadd hx hb dX8_sort_182 ?_
                                refine zz_topi (v := nI (sz1 + i3)) (nI_add _ _) ?_
                                have bd77 : (sz1 + i3) < 4000 := by omega
                                refine zz_laldn hC hZ 4 rfl bd77 (by decide) dX8_sort_183 ?_
                                refine lv_lstore (lv' := [(7, .long (bt1 (sz1 + i3))), (6, .int (nI i3)), (5, .int (nI sz1)), (4, .int w), (0, .ref h0), (1, .int (nI a1)), (2, .int (nI f)), (3, .int (nI t))]) hx hb dX8_sort_184 hl (by decide) rfl (fun ls hl => ?_)
                                refine lv_iload hx hb dX8_sort_186 (lv_at hl 1 rfl) ?_
                                refine lv_istore (lv' := [(9, .int (nI i3)), (7, .long (bt1 (sz1 + i3))), (6, .int (nI i3)), (5, .int (nI sz1)), (4, .int w), (0, .ref h0), (1, .int (nI a1)), (2, .int (nI f)), (3, .int (nI t))]) hx hb dX8_sort_188 hl (by decide) rfl (fun ls hl => ?_)
                                have LP78 : ∀ (N78 : Nat) (i4 : Nat) (bt4 : Nat → Int64) (H : Heap) (locs : List Loc) (ls : Array Slot), (f ≤ i4 ∧ i4 ≤ i3 ∧ i4 < t) → (zz_MI na ne dpf saf lnf bt4) → (∀ j, j < sz1 ∨ sz1 + lz1 ≤ j → bt4 j = btf j) → (∀ j, bt4 j = if sz1 + i4 < j ∧ j ≤ sz1 + i3 then bt1 (j - 1) else bt1 j) → (zz_ps (fn_cm_orderNumber (kdf a1)) bt1 (sz1 + f) (fn_cm_orderNumber (kdf a1) (bt1 (sz1 + i3))) (sz1 + i3) = zz_ps (fn_cm_orderNumber (kdf a1)) bt1 (sz1 + f) (fn_cm_orderNumber (kdf a1) (bt1 (sz1 + i3))) (sz1 + i4)) → i4 < N78 → zz_Z g A s.heap [cw_i g a_kindOf 60 kdf, cw_i g a_depthOf 60 dpf, cw_i g a_lengthOf 60 lnf, cw_i g a_baseOf 60 saf, cw_l g a_bits 4000 bt4, cw_z g a_pinned 4000 pnf, cw_l g a_held 200 he1, cw_k7 h0 (nI na) (nI ne) a_kindOf a_depthOf a_lengthOf a_classOf a_baseOf a_bits a_pinned i_code a_lengths a_stackArray a_stackOther a_stackAt i_lastArray i_lastPlace a_path a_held a_alike a_hashes (nI nd) a_decisionArray a_decisionPlace a_candidateMany a_candidates (nI nr) a_ruleSort a_ruleArray a_ruleWeight a_ruleLow a_ruleHigh a_chosen a_bestOf (nI nm) a_markElements a_markBits a_markPins] H locs → lv_has ls 10 [(9, .int (nI i4)), (7, .long (bt1 (sz1 + i3))), (6, .int (nI i3)), (5, .int (nI sz1)), (4, .int w), (0, .ref h0), (1, .int (nI a1)), (2, .int (nI f)), (3, .int (nI t))] → W p l e rm_my_sort s m args below meth c H locs 0 0 (zz_QI below g args s A rm_my_sort.cells rm_my_sort.slots (po_my_sort g h0 a_kindOf a_depthOf a_lengthOf a_classOf a_baseOf a_bits a_pinned a_lengths a_stackArray a_stackOther a_stackAt a_path a_held a_alike a_hashes a_decisionArray a_decisionPlace a_candidateMany a_candidates a_ruleSort a_ruleArray a_ruleWeight a_ruleLow a_ruleHigh a_chosen a_bestOf a_markElements a_markBits a_markPins na ne nd nr nm i_code i_lastArray i_lastPlace kdf dpf lnf saf btf pnf hef x1 x2 x3 h_M)) (F0 m 190 ls []) := by
                                  intro N78
                                  induction N78 with
                                  | zero =>
                                    intro i4 bt4 H locs ls hi4 hM4 hk4 hsh hps hN78
                                    exact absurd hN78 (Nat.not_lt_zero _)
                                  | succ N78 ih78 =>
                                    intro i4 bt4 H locs ls hi4 hM4 hk4 hsh hps hN78 hZ hl
                                    refine lv_iload hx hb dX8_sort_190 (lv_at hl 0 rfl) ?_
                                    refine lv_iload_n hx hb dX8_sort_192 rfl (lv_at hl 7 rfl) ?_
                                    have bd80 : i4 < 2 ^ 31 := by omega
                                    refine lv_icmp_le (tgt := 260) hx hb dX8_sort_193 (by decide) (fun c79 => ?_) (fun c79 => ?_)
                                    · have nc79 : i4 ≤ f := (nI_leI bd80 bd21).mp (show nI (i4) ≤ nI (f) from c79)
                                      refine lv_aload_n hx hb dX8_sort_260 rfl (lv_at hl 5 rfl) ?_
                                      refine zz_get hC hZ 7 rfl zf_X8_25 rfl dX8_sort_261 ?_
                                      refine lv_iload hx hb dX8_sort_264 (lv_at hl 3 rfl) ?_
                                      refine lv_iload hx hb dX8_sort_266 (lv_at hl 0 rfl) ?_
                                      refine lv_iadd hx hb dX8_sort_268 ?_
                                      refine zz_topi (v := nI (sz1 + i4)) (nI_add _ _) ?_
                                      refine lv_lload hx hb dX8_sort_269 (lv_at hl 1 rfl) ?_
                                      have bd81 : (sz1 + i4) < 4000 := by omega
                                      refine zz_lastn hC hZ 4 rfl bd81 (by decide) dX8_sort_271 (fun H locs hZ => ?_)
                                      have hZ : zz_Z g A s.heap [cw_i g a_kindOf 60 kdf, cw_i g a_depthOf 60 dpf, cw_i g a_lengthOf 60 lnf, cw_i g a_baseOf 60 saf, cw_l g a_bits 4000 (vp_updL bt4 (sz1 + i4) (bt1 (sz1 + i3))), cw_z g a_pinned 4000 pnf, cw_l g a_held 200 he1, cw_k7 h0 (nI na) (nI ne) a_kindOf a_depthOf a_lengthOf a_classOf a_baseOf a_bits a_pinned i_code a_lengths a_stackArray a_stackOther a_stackAt i_lastArray i_lastPlace a_path a_held a_alike a_hashes (nI nd) a_decisionArray a_decisionPlace a_candidateMany a_candidates (nI nr) a_ruleSort a_ruleArray a_ruleWeight a_ruleLow a_ruleHigh a_chosen a_bestOf (nI nm) a_markElements a_markBits a_markPins] H locs := hZ
                                      refine lv_iinc (v := nI (i3 + 1)) (lv' := [(6, .int (nI (i3 + 1))), (9, .int (nI i4)), (7, .long (bt1 (sz1 + i3))), (5, .int (nI sz1)), (4, .int w), (0, .ref h0), (1, .int (nI a1)), (2, .int (nI f)), (3, .int (nI t))]) hx hb dX8_sort_272 hl (k := 2) rfl (nI_1 _) (by decide) rfl (fun ls hl => ?_)
                                      refine lv_goto (tgt := 168) hx hb dX8_sort_275 (by decide) ?_
                                      have hpe := hps.trans (zl_psE (R := fn_cm_orderNumber (kdf a1)) (bt := bt1) (Or.inl (by omega)))
                                      exact ih66 (i3 + 1) (vp_updL bt4 (sz1 + i4) (bt1 (sz1 + i3))) H locs ls (by omega) (zl_set hM4 ha1 es1 el1 ed1 (by omega) (by omega) (by omega) (show i4 < lz1 by omega) (fun hz => absurd hz (by omega))) (fun j hj => (pk_uLn (by omega)).trans (hk4 j hj)) (by rw [his, show t - i3 = (t - (i3 + 1)) + 1 by omega, sp_is, hpe, ← zl_shE hsh] <;> rfl) (by omega) hZ (lv_sub hl [0, 3, 4, 5, 6, 7, 8] rfl)
                                    · have nc79 : ¬ i4 ≤ f := fun zq => c79 (show nI (i4) ≤ nI (f) from (nI_leI bd80 bd21).mpr zq)
                                      refine lv_aload_n hx hb dX8_sort_196 rfl (lv_at hl 5 rfl) ?_
                                      refine zz_get hC hZ 7 rfl zf_X8_7 rfl dX8_sort_197 ?_
                                      refine lv_iload_n hx hb dX8_sort_200 rfl (lv_at hl 6 rfl) ?_
                                      refine zz_ialdn hC hZ 0 rfl bd8 (by decide) dX8_sort_201 ?_
                                      refine lv_aload_n hx hb dX8_sort_202 rfl (lv_at hl 5 rfl) ?_
                                      refine zz_get hC hZ 7 rfl zf_X8_25 rfl dX8_sort_203 ?_
                                      refine lv_iload hx hb dX8_sort_206 (lv_at hl 3 rfl) ?_
                                      refine lv_iload hx hb dX8_sort_208 (lv_at hl 0 rfl) ?_
                                      refine lv_iadd hx hb dX8_sort_210 ?_
                                      refine zz_topi (v := nI (sz1 + i4)) (nI_add _ _) ?_
                                      refine lv_iconst (v := 1) hx hb dX8_sort_211 (by decide) ?_
                                      refine lv_isub hx hb dX8_sort_212 ?_
                                      refine zz_topi (v := nI ((sz1 + i4) - 1)) (pk_sub (b := 1) (by omega)) ?_
                                      have bd82 : ((sz1 + i4) - 1) < 4000 := by omega
                                      refine zz_laldn hC hZ 4 rfl bd82 (by decide) dX8_sort_213 ?_
                                      refine zz_lS (As := [.int (kdf a1), .long (bt4 ((sz1 + i4) - 1))]) (wc := []) (wr := [cw_i g a_kindOf 60 kdf, cw_i g a_depthOf 60 dpf, cw_i g a_lengthOf 60 lnf, cw_i g a_baseOf 60 saf, cw_l g a_bits 4000 bt4, cw_z g a_pinned 4000 pnf, cw_l g a_held 200 he1, cw_k7 h0 (nI na) (nI ne) a_kindOf a_depthOf a_lengthOf a_classOf a_baseOf a_bits a_pinned i_code a_lengths a_stackArray a_stackOther a_stackAt i_lastArray i_lastPlace a_path a_held a_alike a_hashes (nI nd) a_decisionArray a_decisionPlace a_candidateMany a_candidates (nI nr) a_ruleSort a_ruleArray a_ruleWeight a_ruleLow a_ruleHigh a_chosen a_bestOf (nI nm) a_markElements a_markBits a_markPins]) (rest := []) hC hZ hs hl zc_X8_239 (cm_orderNumber g (kdf a1) (bt4 ((sz1 + i4) - 1))) [] [0, 1, 2, 3, 4, 5, 6, 7] rfl rfl (by decide +kernel) rfl rfl (Nat.le_of_ble_eq_true rfl) ⟨⟨Nat.le_of_ble_eq_true rfl, Nat.le_of_ble_eq_true rfl⟩, Nat.le_of_ble_eq_true rfl, Nat.le_of_ble_eq_true rfl⟩ dX8_sort_214 (fun r83 u84 H locs hp hZ => ?_)
                                      obtain ⟨rfl, rfl⟩ := hp
                                      have hZ : zz_Z g A s.heap [cw_i g a_kindOf 60 kdf, cw_i g a_depthOf 60 dpf, cw_i g a_lengthOf 60 lnf, cw_i g a_baseOf 60 saf, cw_l g a_bits 4000 bt4, cw_z g a_pinned 4000 pnf, cw_l g a_held 200 he1, cw_k7 h0 (nI na) (nI ne) a_kindOf a_depthOf a_lengthOf a_classOf a_baseOf a_bits a_pinned i_code a_lengths a_stackArray a_stackOther a_stackAt i_lastArray i_lastPlace a_path a_held a_alike a_hashes (nI nd) a_decisionArray a_decisionPlace a_candidateMany a_candidates (nI nr) a_ruleSort a_ruleArray a_ruleWeight a_ruleLow a_ruleHigh a_chosen a_bestOf (nI nm) a_markElements a_markBits a_markPins] H locs := hZ
                                      refine lv_aload_n hx hb dX8_sort_217 rfl (lv_at hl 5 rfl) ?_
                                      refine zz_get hC hZ 7 rfl zf_X8_7 rfl dX8_sort_218 ?_
                                      refine lv_iload_n hx hb dX8_sort_221 rfl (lv_at hl 6 rfl) ?_
                                      refine zz_ialdn hC hZ 0 rfl bd8 (by decide) dX8_sort_222 ?_
                                      refine lv_lload hx hb dX8_sort_223 (lv_at hl 1 rfl) ?_
                                      refine zz_lS (As := [.int (kdf a1), .long (bt1 (sz1 + i3))]) (wc := []) (wr := [cw_i g a_kindOf 60 kdf, cw_i g a_depthOf 60 dpf, cw_i g a_lengthOf 60 lnf, cw_i g a_baseOf 60 saf, cw_l g a_bits 4000 bt4, cw_z g a_pinned 4000 pnf, cw_l g a_held 200 he1, cw_k7 h0 (nI na) (nI ne) a_kindOf a_depthOf a_lengthOf a_classOf a_baseOf a_bits a_pinned i_code a_lengths a_stackArray a_stackOther a_stackAt i_lastArray i_lastPlace a_path a_held a_alike a_hashes (nI nd) a_decisionArray a_decisionPlace a_candidateMany a_candidates (nI nr) a_ruleSort a_ruleArray a_ruleWeight a_ruleLow a_ruleHigh a_chosen a_bestOf (nI nm) a_markElements a_markBits a_markPins]) (rest := [.long (fn_cm_orderNumber (kdf a1) (bt4 ((sz1 + i4) - 1)))]) hC hZ hs hl zc_X8_239 (cm_orderNumber g (kdf a1) (bt1 (sz1 + i3))) [] [0, 1, 2, 3, 4, 5, 6, 7] rfl rfl (by decide +kernel) rfl rfl (Nat.le_of_ble_eq_true rfl) ⟨⟨Nat.le_of_ble_eq_true rfl, Nat.le_of_ble_eq_true rfl⟩, Nat.le_of_ble_eq_true rfl, Nat.le_of_ble_eq_true rfl⟩ dX8_sort_225 (fun r85 u86 H locs hp hZ => ?_)
                                      obtain ⟨rfl, rfl⟩ := hp
                                      have hZ : zz_Z g A s.heap [cw_i g a_kindOf 60 kdf, cw_i g a_depthOf 60 dpf, cw_i g a_lengthOf 60 lnf, cw_i g a_baseOf 60 saf, cw_l g a_bits 4000 bt4, cw_z g a_pinned 4000 pnf, cw_l g a_held 200 he1, cw_k7 h0 (nI na) (nI ne) a_kindOf a_depthOf a_lengthOf a_classOf a_baseOf a_bits a_pinned i_code a_lengths a_stackArray a_stackOther a_stackAt i_lastArray i_lastPlace a_path a_held a_alike a_hashes (nI nd) a_decisionArray a_decisionPlace a_candidateMany a_candidates (nI nr) a_ruleSort a_ruleArray a_ruleWeight a_ruleLow a_ruleHigh a_chosen a_bestOf (nI nm) a_markElements a_markBits a_markPins] H locs := hZ
                                      refine zz_lcmp_le (tgt := 260) hC dX8_sort_228 dX8_sort_229 (by decide) (fun c87 => ?_) (fun c87 => ?_)
                                      · refine lv_aload_n hx hb dX8_sort_260 rfl (lv_at hl 5 rfl) ?_
                                        refine zz_get hC hZ 7 rfl zf_X8_25 rfl dX8_sort_261 ?_
                                        refine lv_iload hx hb dX8_sort_264 (lv_at hl 3 rfl) ?_
                                        refine lv_iload hx hb dX8_sort_266 (lv_at hl 0 rfl) ?_
                                        refine lv_iadd hx hb dX8_sort_268 ?_
                                        refine zz_topi (v := nI (sz1 + i4)) (nI_add _ _) ?_
                                        refine lv_lload hx hb dX8_sort_269 (lv_at hl 1 rfl) ?_
                                        have bd88 : (sz1 + i4) < 4000 := by omega
                                        refine zz_lastn hC hZ 4 rfl bd88 (by decide) dX8_sort_271 (fun H locs hZ => ?_)
                                        have hZ : zz_Z g A s.heap [cw_i g a_kindOf 60 kdf, cw_i g a_depthOf 60 dpf, cw_i g a_lengthOf 60 lnf, cw_i g a_baseOf 60 saf, cw_l g a_bits 4000 (vp_updL bt4 (sz1 + i4) (bt1 (sz1 + i3))), cw_z g a_pinned 4000 pnf, cw_l g a_held 200 he1, cw_k7 h0 (nI na) (nI ne) a_kindOf a_depthOf a_lengthOf a_classOf a_baseOf a_bits a_pinned i_code a_lengths a_stackArray a_stackOther a_stackAt i_lastArray i_lastPlace a_path a_held a_alike a_hashes (nI nd) a_decisionArray a_decisionPlace a_candidateMany a_candidates (nI nr) a_ruleSort a_ruleArray a_ruleWeight a_ruleLow a_ruleHigh a_chosen a_bestOf (nI nm) a_markElements a_markBits a_markPins] H locs := hZ
                                        refine lv_iinc (v := nI (i3 + 1)) (lv' := [(6, .int (nI (i3 + 1))), (9, .int (nI i4)), (7, .long (bt1 (sz1 + i3))), (5, .int (nI sz1)), (4, .int w), (0, .ref h0), (1, .int (nI a1)), (2, .int (nI f)), (3, .int (nI t))]) hx hb dX8_sort_272 hl (k := 2) rfl (nI_1 _) (by decide) rfl (fun ls hl => ?_)
                                        refine lv_goto (tgt := 168) hx hb dX8_sort_275 (by decide) ?_
                                        have hpe := hps.trans (zl_psE (R := fn_cm_orderNumber (kdf a1)) (bt := bt1) (Or.inr (by have z := c87; rw [hsh, if_neg (by omega)] at z; exact z)))
                                        exact ih66 (i3 + 1) (vp_updL bt4 (sz1 + i4) (bt1 (sz1 + i3))) H locs ls (by omega) (zl_set hM4 ha1 es1 el1 ed1 (by omega) (by omega) (by omega) (show i4 < lz1 by omega) (fun hz => absurd hz (by omega))) (fun j hj => (pk_uLn (by omega)).trans (hk4 j hj)) (by rw [his, show t - i3 = (t - (i3 + 1)) + 1 by omega, sp_is, hpe, ← zl_shE hsh] <;> rfl) (by omega) hZ (lv_sub hl [0, 3, 4, 5, 6, 7, 8] rfl)
                                      · refine lv_aload_n hx hb dX8_sort_232 rfl (lv_at hl 5 rfl) ?_
                                        refine zz_get hC hZ 7 rfl zf_X8_25 rfl dX8_sort_233 ?_
                                        refine lv_iload hx hb dX8_sort_236 (lv_at hl 3 rfl) ?_
                                        refine lv_iload hx hb dX8_sort_238 (lv_at hl 0 rfl) ?_
                                        refine lv_iadd hx hb dX8_sort_240 ?_
                                        refine zz_topi (v := nI (sz1 + i4)) (nI_add _ _) ?_
                                        refine lv_aload_n hx hb dX8_sort_241 rfl (lv_at hl 5 rfl) ?_
                                        refine zz_get hC hZ 7 rfl zf_X8_25 rfl dX8_sort_242 ?_
                                        refine lv_iload hx hb dX8_sort_245 (lv_at hl 3 rfl) ?_
                                        refine lv_iload hx hb dX8_sort_247 (lv_at hl 0 rfl) ?_
                                        refine lv_iadd hx hb dX8_sort_249 ?_
                                        refine zz_topi (v := nI (sz1 + i4)) (nI_add _ _) ?_
                                        refine lv_iconst (v := 1) hx hb dX8_sort_250 (by decide) ?_
                                        refine lv_isub hx hb dX8_sort_251 ?_
                                        refine zz_topi (v := nI ((sz1 + i4) - 1)) (pk_sub (b := 1) (by omega)) ?_
                                        refine zz_laldn hC hZ 4 rfl bd82 (by decide) dX8_sort_252 ?_
                                        have bd89 : (sz1 + i4) < 4000 := by omega
                                        refine zz_lastn hC hZ 4 rfl bd89 (by decide) dX8_sort_253 (fun H locs hZ => ?_)
                                        have hZ : zz_Z g A s.heap [cw_i g a_kindOf 60 kdf, cw_i g a_depthOf 60 dpf, cw_i g a_lengthOf 60 lnf, cw_i g a_baseOf 60 saf, cw_l g a_bits 4000 (vp_updL bt4 (sz1 + i4) (bt4 ((sz1 + i4) - 1))), cw_z g a_pinned 4000 pnf, cw_l g a_held 200 he1, cw_k7 h0 (nI na) (nI ne) a_kindOf a_depthOf a_lengthOf a_classOf a_baseOf a_bits a_pinned i_code a_lengths a_stackArray a_stackOther a_stackAt i_lastArray i_lastPlace a_path a_held a_alike a_hashes (nI nd) a_decisionArray a_decisionPlace a_candidateMany a_candidates (nI nr) a_ruleSort a_ruleArray a_ruleWeight a_ruleLow a_ruleHigh a_chosen a_bestOf (nI nm) a_markElements a_markBits a_markPins] H locs := hZ
                                        refine lv_iinc (v := nI (i4 - 1)) (lv' := [(9, .int (nI (i4 - 1))), (7, .long (bt1 (sz1 + i3))), (6, .int (nI i3)), (5, .int (nI sz1)), (4, .int w), (0, .ref h0), (1, .int (nI a1)), (2, .int (nI f)), (3, .int (nI t))]) hx hb dX8_sort_254 hl (k := 0) rfl (zl_dec (by omega)) (by decide) rfl (fun ls hl => ?_)
                                        refine lv_goto (tgt := 190) hx hb dX8_sort_257 (by decide) ?_
                                        exact ih78 (i4 - 1) (vp_updL bt4 (sz1 + i4) (bt4 ((sz1 + i4) - 1))) H locs ls (by omega) (zl_set hM4 ha1 es1 el1 ed1 (by omega) (by omega) (by omega) (show i4 < lz1 by omega) (fun hz => absurd hz (by omega))) (fun j hj => (pk_uLn (by omega)).trans (hk4 j hj)) (zl_shS hsh (by omega) (by omega)) (by rw [hps, zl_psS (by omega) (by have z := c87; rw [hsh, if_neg (by omega)] at z; exact z), show sz1 + i4 - 1 = sz1 + (i4 - 1) by omega]) (by omega) hZ (lv_sub hl [0, 1, 2, 3, 4, 5, 6, 7, 8] rfl)
                                exact LP78 _ i3 bt1 H locs ls (by omega) (hM1) (hk1) (fun j => (if_neg (by omega)).symm) (rfl) (Nat.lt_succ_self _) hZ (lv_sub hl [0, 1, 2, 3, 4, 5, 6, 7, 8] rfl)
                          exact LP66 _ (f + 1) btf H locs ls (by omega) (h_M) (fun _ _ => rfl) (rfl) (Nat.lt_succ_self _) hZ (lv_sub hl [0, 1, 2, 3, 4, 5, 6] rfl)
                        · have nc64 : ¬ t ≤ i2 := fun zq => c64 (show nI (t) ≤ nI (i2) from (nI_leI bd25 bd65).mpr zq)
                          refine lv_aload_n hx hb dX8_sort_140 rfl (lv_at hl 3 rfl) ?_
                          refine zz_get hC hZ 7 rfl zf_X8_48 rfl dX8_sort_141 ?_
                          refine lv_iload hx hb dX8_sort_144 (lv_at hl 0 rfl) ?_
                          refine lv_aload_n hx hb dX8_sort_146 rfl (lv_at hl 3 rfl) ?_
                          refine zz_get hC hZ 7 rfl zf_X8_25 rfl dX8_sort_147 ?_
                          refine lv_iload hx hb dX8_sort_150 (lv_at hl 1 rfl) ?_
                          refine lv_iload hx hb dX8_sort_152 (lv_at hl 0 rfl) ?_
                          refine lv_iadd hx hb dX8_sort_154 ?_
                          refine zz_topi (v := nI (sz1 + i2)) (nI_add _ _) ?_
                          have bd90 : (sz1 + i2) < 4000 := by omega
                          refine zz_laldn hC hZ 4 rfl bd90 (by decide) dX8_sort_155 ?_
                          have bd91 : i2 < 200 := by omega
                          refine zz_lastn hC hZ 6 rfl bd91 (by decide) dX8_sort_156 (fun H locs hZ => ?_)
                          have hZ : zz_Z g A s.heap [cw_i g a_kindOf 60 kdf, cw_i g a_depthOf 60 dpf, cw_i g a_lengthOf 60 lnf, cw_i g a_baseOf 60 saf, cw_l g a_bits 4000 btf, cw_z g a_pinned 4000 pnf, cw_l g a_held 200 (vp_updL he1 i2 (btf (sz1 + i2))), cw_k7 h0 (nI na) (nI ne) a_kindOf a_depthOf a_lengthOf a_classOf a_baseOf a_bits a_pinned i_code a_lengths a_stackArray a_stackOther a_stackAt i_lastArray i_lastPlace a_path a_held a_alike a_hashes (nI nd) a_decisionArray a_decisionPlace a_candidateMany a_candidates (nI nr) a_ruleSort a_ruleArray a_ruleWeight a_ruleLow a_ruleHigh a_chosen a_bestOf (nI nm) a_markElements a_markBits a_markPins] H locs := hZ
                          refine lv_iinc (v := nI (i2 + 1)) (lv' := [(6, .int (nI (i2 + 1))), (5, .int (nI sz1)), (4, .int w), (0, .ref h0), (1, .int (nI a1)), (2, .int (nI f)), (3, .int (nI t))]) hx hb dX8_sort_157 hl (k := 0) rfl (nI_1 _) (by decide) rfl (fun ls hl => ?_)
                          refine lv_goto (tgt := 134) hx hb dX8_sort_160 (by decide) ?_
                          exact ih63 (i2 + 1) (vp_updL he1 i2 (btf (sz1 + i2))) H locs ls (by omega) (fun k h1 h2 => by by_cases z : k = i2; (rw [z, pk_uLs]); (rw [pk_uLn z]; exact hhe k h1 (by omega))) (by omega) hZ (lv_sub hl [0, 1, 2, 3, 4, 5, 6] rfl)
                    exact LP63 _ f hef H locs ls (by omega) (fun k h1 h2 => absurd h1 (by omega)) (Nat.lt_succ_self _) hZ (lv_sub hl [0, 1, 2, 3, 4, 5, 6] rfl)
                  · refine lv_aload_n hx hb dX8_sort_116 rfl (lv_at hl 2 rfl) ?_
                    refine lv_iload hx hb dX8_sort_117 (lv_at hl 1 rfl) ?_
                    refine zz_iV (As := [.int w]) (wc := [cw_k7 h0 (nI na) (nI ne) a_kindOf a_depthOf a_lengthOf a_classOf a_baseOf a_bits a_pinned i_code a_lengths a_stackArray a_stackOther a_stackAt i_lastArray i_lastPlace a_path a_held a_alike a_hashes (nI nd) a_decisionArray a_decisionPlace a_candidateMany a_candidates (nI nr) a_ruleSort a_ruleArray a_ruleWeight a_ruleLow a_ruleHigh a_chosen a_bestOf (nI nm) a_markElements a_markBits a_markPins]) (wr := [cw_i g a_kindOf 60 kdf, cw_i g a_depthOf 60 dpf, cw_i g a_lengthOf 60 lnf, cw_i g a_baseOf 60 saf, cw_l g a_bits 4000 btf, cw_z g a_pinned 4000 pnf, cw_l g a_held 200 hef]) (rest := []) hC hZ hs hl zc_X8_175 (cm_fails g h0 a_kindOf a_depthOf a_lengthOf a_classOf a_baseOf a_bits a_pinned a_lengths a_stackArray a_stackOther a_stackAt a_path a_held a_alike a_hashes a_decisionArray a_decisionPlace a_candidateMany a_candidates a_ruleSort a_ruleArray a_ruleWeight a_ruleLow a_ruleHigh a_chosen a_bestOf a_markElements a_markBits a_markPins (nI na) (nI ne) i_code i_lastArray i_lastPlace (nI nd) (nI nr) (nI nm) w) [7] [0, 1, 2, 3, 4, 5, 6] rfl rfl (by decide +kernel) (ci := 7) (q0 := 0) rfl rfl rfl rfl (Nat.le_of_ble_eq_true rfl) ⟨⟨Nat.le_of_ble_eq_true rfl, Nat.le_of_ble_eq_true rfl⟩, Nat.le_of_ble_eq_true rfl, Nat.le_of_ble_eq_true rfl⟩ dX8_sort_119 (fun r92 u93 H locs hp hZ => ?_)
                    obtain ⟨rfl, rfl⟩ := hp
                    have hZ : zz_Z g A s.heap [cw_i g a_kindOf 60 kdf, cw_i g a_depthOf 60 dpf, cw_i g a_lengthOf 60 lnf, cw_i g a_baseOf 60 saf, cw_l g a_bits 4000 btf, cw_z g a_pinned 4000 pnf, cw_l g a_held 200 hef, cw_k7 h0 (nI na) (nI ne) a_kindOf a_depthOf a_lengthOf a_classOf a_baseOf a_bits a_pinned w a_lengths a_stackArray a_stackOther a_stackAt i_lastArray i_lastPlace a_path a_held a_alike a_hashes (nI nd) a_decisionArray a_decisionPlace a_candidateMany a_candidates (nI nr) a_ruleSort a_ruleArray a_ruleWeight a_ruleLow a_ruleHigh a_chosen a_bestOf (nI nm) a_markElements a_markBits a_markPins] H locs := hZ
                    have hZ : zz_Z g A s.heap [cw_k7 h0 (nI na) (nI ne) a_kindOf a_depthOf a_lengthOf a_classOf a_baseOf a_bits a_pinned w a_lengths a_stackArray a_stackOther a_stackAt i_lastArray i_lastPlace a_path a_held a_alike a_hashes (nI nd) a_decisionArray a_decisionPlace a_candidateMany a_candidates (nI nr) a_ruleSort a_ruleArray a_ruleWeight a_ruleLow a_ruleHigh a_chosen a_bestOf (nI nm) a_markElements a_markBits a_markPins, cw_i g a_kindOf 60 kdf, cw_i g a_depthOf 60 dpf, cw_i g a_lengthOf 60 lnf, cw_i g a_baseOf 60 saf, cw_l g a_bits 4000 btf, cw_z g a_pinned 4000 pnf, cw_l g a_held 200 hef] H locs := hZ.sub [7, 0, 1, 2, 3, 4, 5, 6] (by decide +kernel) rfl
                    exact zz_iret hC hZ (⟨w, i_lastArray, i_lastPlace, btf, hef, by refine Eq.symm ?_; rw [fo_my_sort]; refine (if_neg (by (try simp only [d_a1, d_sz1, d_lz1, d_dz1, d_f, d_t, d_w]); exact c3)).trans ?_; refine (if_pos (by (try simp only [d_a1, d_sz1, d_lz1, d_dz1, d_f, d_t, d_w]); exact c9)).trans ?_; refine (if_neg (by (try simp only [d_a1, d_sz1, d_lz1, d_dz1, d_f, d_t, d_w]); exact c12)).trans ?_; refine (if_neg (by (try simp only [d_a1, d_sz1, d_lz1, d_dz1, d_f, d_t, d_w]); exact c24)).trans ?_; refine (if_neg (by (try simp only [d_a1, d_sz1, d_lz1, d_dz1, d_f, d_t, d_w]); exact c62)).trans ?_; first | (simp only [d_a1, d_sz1, d_lz1, d_dz1, d_f, d_t, d_w]; done) | rfl, h_M, zz_D1.rf, rfl⟩) (Nat.le_of_ble_eq_true rfl) (Nat.le_of_ble_eq_true rfl) dX8_sort_122
                · refine lv_aload_n hx hb dX8_sort_80 rfl (lv_at hl 2 rfl) ?_
                  refine zz_get hC hZ 7 rfl zf_X8_29 rfl dX8_sort_81 ?_
                  refine lv_aload_n hx hb dX8_sort_84 rfl (lv_at hl 2 rfl) ?_
                  refine zz_get hC hZ 7 rfl zf_X8_22 rfl dX8_sort_85 ?_
                  refine lv_iload_n hx hb dX8_sort_88 rfl (lv_at hl 3 rfl) ?_
                  refine zz_ialdn hC hZ 3 rfl bd8 (by decide) dX8_sort_89 ?_
                  refine zz_topi (v := nI sz1) (es1) ?_
                  refine lv_iload hx hb dX8_sort_90 (lv_at hl 0 rfl) ?_
                  refine lv_iadd hx hb dX8_sort_92 ?_
                  refine zz_topi (v := nI (sz1 + i)) (nI_add _ _) ?_
                  have bd94 : (sz1 + i) < 4000 := by omega
                  refine zz_zaldn hC hZ 5 rfl bd94 (by decide) dX8_sort_93 ?_
                  refine lv_if_eq (tgt := 102) hx hb dX8_sort_94 (by decide) (fun c95 => ?_) (fun c95 => ?_)
                  · refine lv_iconst (v := 0) hx hb dX8_sort_102 (by decide) ?_
                    refine lv_istore (lv' := [(4, .int 0), (5, .int (nI i)), (0, .ref h0), (1, .int (nI a1)), (2, .int (nI f)), (3, .int (nI t))]) hx hb dX8_sort_103 hl (by decide) rfl (fun ls hl => ?_)
                    refine lv_iinc (v := nI (i + 1)) (lv' := [(5, .int (nI (i + 1))), (4, .int 0), (0, .ref h0), (1, .int (nI a1)), (2, .int (nI f)), (3, .int (nI t))]) hx hb dX8_sort_105 hl (k := 1) rfl (nI_1 _) (by decide) rfl (fun ls hl => ?_)
                    refine lv_goto (tgt := 69) hx hb dX8_sort_108 (by decide) ?_
                    exact ih26 (i + 1) 0 H locs ls (by omega) (Or.inl ⟨rfl, zl_cpZ (by omega) (zl_w0 hc c61) c95⟩) (by omega) hZ (lv_sub hl [0, 1, 2, 3, 4, 5] rfl)
                  · refine lv_bipush (v := 6) hx hb dX8_sort_97 (by decide) ?_
                    refine lv_goto (tgt := 103) hx hb dX8_sort_99 (by decide) ?_
                    refine lv_istore (lv' := [(4, .int 6), (5, .int (nI i)), (0, .ref h0), (1, .int (nI a1)), (2, .int (nI f)), (3, .int (nI t))]) hx hb dX8_sort_103 hl (by decide) rfl (fun ls hl => ?_)
                    refine lv_iinc (v := nI (i + 1)) (lv' := [(5, .int (nI (i + 1))), (4, .int 6), (0, .ref h0), (1, .int (nI a1)), (2, .int (nI f)), (3, .int (nI t))]) hx hb dX8_sort_105 hl (k := 1) rfl (nI_1 _) (by decide) rfl (fun ls hl => ?_)
                    refine lv_goto (tgt := 69) hx hb dX8_sort_108 (by decide) ?_
                    exact ih26 (i + 1) 6 H locs ls (by omega) (Or.inr ⟨rfl, zl_cpP (by omega) (by omega) c95⟩) (by omega) hZ (lv_sub hl [0, 1, 2, 3, 4, 5] rfl)
          exact LP26 _ f 0 H locs ls (by omega) (Or.inl ⟨rfl, by rw [Nat.sub_self]; rfl⟩) (Nat.lt_succ_self _) hZ (lv_sub hl [0, 1, 2, 3, 4, 5] rfl)
        · refine lv_iconst (v := 2) hx hb dX8_sort_59 (by decide) ?_
          refine lv_goto (tgt := 64) hx hb dX8_sort_60 (by decide) ?_
          refine lv_istore (lv' := [(4, .int 2), (0, .ref h0), (1, .int (nI a1)), (2, .int (nI f)), (3, .int x3)]) hx hb dX8_sort_64 hl (by decide) rfl (fun ls hl => ?_)
          refine lv_iload_n hx hb dX8_sort_66 rfl (lv_at hl 3 rfl) ?_
          refine lv_istore (lv' := [(5, .int (nI f)), (4, .int 2), (0, .ref h0), (1, .int (nI a1)), (2, .int (nI f)), (3, .int x3)]) hx hb dX8_sort_67 hl (by decide) rfl (fun ls hl => ?_)
          refine lv_iload hx hb dX8_sort_69 (lv_at hl 0 rfl) ?_
          refine lv_iload_n hx hb dX8_sort_71 rfl (lv_at hl 5 rfl) ?_
          refine lv_icmp_ge (tgt := 111) hx hb dX8_sort_72 (by decide) (fun c96 => ?_) (fun c96 => ?_)
          · refine lv_iload hx hb dX8_sort_111 (lv_at hl 1 rfl) ?_
            refine lv_if_le (tgt := 123) hx hb dX8_sort_113 (by decide) (fun c => absurd c (by decide)) (fun c97 => ?_)
            refine lv_aload_n hx hb dX8_sort_116 rfl (lv_at hl 2 rfl) ?_
            refine lv_iload hx hb dX8_sort_117 (lv_at hl 1 rfl) ?_
            refine zz_iV (As := [.int 2]) (wc := [cw_k7 h0 (nI na) (nI ne) a_kindOf a_depthOf a_lengthOf a_classOf a_baseOf a_bits a_pinned i_code a_lengths a_stackArray a_stackOther a_stackAt i_lastArray i_lastPlace a_path a_held a_alike a_hashes (nI nd) a_decisionArray a_decisionPlace a_candidateMany a_candidates (nI nr) a_ruleSort a_ruleArray a_ruleWeight a_ruleLow a_ruleHigh a_chosen a_bestOf (nI nm) a_markElements a_markBits a_markPins]) (wr := [cw_i g a_kindOf 60 kdf, cw_i g a_depthOf 60 dpf, cw_i g a_lengthOf 60 lnf, cw_i g a_baseOf 60 saf, cw_l g a_bits 4000 btf, cw_z g a_pinned 4000 pnf, cw_l g a_held 200 hef]) (rest := []) hC hZ hs hl zc_X8_175 (cm_fails g h0 a_kindOf a_depthOf a_lengthOf a_classOf a_baseOf a_bits a_pinned a_lengths a_stackArray a_stackOther a_stackAt a_path a_held a_alike a_hashes a_decisionArray a_decisionPlace a_candidateMany a_candidates a_ruleSort a_ruleArray a_ruleWeight a_ruleLow a_ruleHigh a_chosen a_bestOf a_markElements a_markBits a_markPins (nI na) (nI ne) i_code i_lastArray i_lastPlace (nI nd) (nI nr) (nI nm) 2) [7] [0, 1, 2, 3, 4, 5, 6] rfl rfl (by decide +kernel) (ci := 7) (q0 := 0) rfl rfl rfl rfl (Nat.le_of_ble_eq_true rfl) ⟨⟨Nat.le_of_ble_eq_true rfl, Nat.le_of_ble_eq_true rfl⟩, Nat.le_of_ble_eq_true rfl, Nat.le_of_ble_eq_true rfl⟩ dX8_sort_119 (fun r98 u99 H locs hp hZ => ?_)
            obtain ⟨rfl, rfl⟩ := hp
            have hZ : zz_Z g A s.heap [cw_i g a_kindOf 60 kdf, cw_i g a_depthOf 60 dpf, cw_i g a_lengthOf 60 lnf, cw_i g a_baseOf 60 saf, cw_l g a_bits 4000 btf, cw_z g a_pinned 4000 pnf, cw_l g a_held 200 hef, cw_k7 h0 (nI na) (nI ne) a_kindOf a_depthOf a_lengthOf a_classOf a_baseOf a_bits a_pinned 2 a_lengths a_stackArray a_stackOther a_stackAt i_lastArray i_lastPlace a_path a_held a_alike a_hashes (nI nd) a_decisionArray a_decisionPlace a_candidateMany a_candidates (nI nr) a_ruleSort a_ruleArray a_ruleWeight a_ruleLow a_ruleHigh a_chosen a_bestOf (nI nm) a_markElements a_markBits a_markPins] H locs := hZ
            have hZ : zz_Z g A s.heap [cw_k7 h0 (nI na) (nI ne) a_kindOf a_depthOf a_lengthOf a_classOf a_baseOf a_bits a_pinned 2 a_lengths a_stackArray a_stackOther a_stackAt i_lastArray i_lastPlace a_path a_held a_alike a_hashes (nI nd) a_decisionArray a_decisionPlace a_candidateMany a_candidates (nI nr) a_ruleSort a_ruleArray a_ruleWeight a_ruleLow a_ruleHigh a_chosen a_bestOf (nI nm) a_markElements a_markBits a_markPins, cw_i g a_kindOf 60 kdf, cw_i g a_depthOf 60 dpf, cw_i g a_lengthOf 60 lnf, cw_i g a_baseOf 60 saf, cw_l g a_bits 4000 btf, cw_z g a_pinned 4000 pnf, cw_l g a_held 200 hef] H locs := hZ.sub [7, 0, 1, 2, 3, 4, 5, 6] (by decide +kernel) rfl
            exact zz_iret hC hZ (⟨2, i_lastArray, i_lastPlace, btf, hef, by refine Eq.symm ?_; rw [fo_my_sort]; refine (if_neg (by (try simp only [d_a1, d_sz1, d_lz1, d_dz1, d_f]); exact c3)).trans ?_; refine (if_pos (by (try simp only [d_a1, d_sz1, d_lz1, d_dz1, d_f]); exact c9)).trans ?_; refine (if_neg (by (try simp only [d_a1, d_sz1, d_lz1, d_dz1, d_f]); exact c12)).trans ?_; refine (if_pos (by (try simp only [d_a1, d_sz1, d_lz1, d_dz1, d_f]); exact c24)).trans ?_; first | (simp only [d_a1, d_sz1, d_lz1, d_dz1, d_f]; done) | rfl, h_M, zz_D1.rf, rfl⟩) (Nat.le_of_ble_eq_true rfl) (Nat.le_of_ble_eq_true rfl) dX8_sort_122
          · refine lv_iload hx hb dX8_sort_75 (lv_at hl 1 rfl) ?_
            refine lv_if_ne (tgt := 111) hx hb dX8_sort_77 (by decide) (fun c100 => ?_) (fun c => absurd c (by decide))
            refine lv_iload hx hb dX8_sort_111 (lv_at hl 1 rfl) ?_
            refine lv_if_le (tgt := 123) hx hb dX8_sort_113 (by decide) (fun c => absurd c (by decide)) (fun c101 => ?_)
            refine lv_aload_n hx hb dX8_sort_116 rfl (lv_at hl 2 rfl) ?_
            refine lv_iload hx hb dX8_sort_117 (lv_at hl 1 rfl) ?_
            refine zz_iV (As := [.int 2]) (wc := [cw_k7 h0 (nI na) (nI ne) a_kindOf a_depthOf a_lengthOf a_classOf a_baseOf a_bits a_pinned i_code a_lengths a_stackArray a_stackOther a_stackAt i_lastArray i_lastPlace a_path a_held a_alike a_hashes (nI nd) a_decisionArray a_decisionPlace a_candidateMany a_candidates (nI nr) a_ruleSort a_ruleArray a_ruleWeight a_ruleLow a_ruleHigh a_chosen a_bestOf (nI nm) a_markElements a_markBits a_markPins]) (wr := [cw_i g a_kindOf 60 kdf, cw_i g a_depthOf 60 dpf, cw_i g a_lengthOf 60 lnf, cw_i g a_baseOf 60 saf, cw_l g a_bits 4000 btf, cw_z g a_pinned 4000 pnf, cw_l g a_held 200 hef]) (rest := []) hC hZ hs hl zc_X8_175 (cm_fails g h0 a_kindOf a_depthOf a_lengthOf a_classOf a_baseOf a_bits a_pinned a_lengths a_stackArray a_stackOther a_stackAt a_path a_held a_alike a_hashes a_decisionArray a_decisionPlace a_candidateMany a_candidates a_ruleSort a_ruleArray a_ruleWeight a_ruleLow a_ruleHigh a_chosen a_bestOf a_markElements a_markBits a_markPins (nI na) (nI ne) i_code i_lastArray i_lastPlace (nI nd) (nI nr) (nI nm) 2) [7] [0, 1, 2, 3, 4, 5, 6] rfl rfl (by decide +kernel) (ci := 7) (q0 := 0) rfl rfl rfl rfl (Nat.le_of_ble_eq_true rfl) ⟨⟨Nat.le_of_ble_eq_true rfl, Nat.le_of_ble_eq_true rfl⟩, Nat.le_of_ble_eq_true rfl, Nat.le_of_ble_eq_true rfl⟩ dX8_sort_119 (fun r102 u103 H locs hp hZ => ?_)
            obtain ⟨rfl, rfl⟩ := hp
            have hZ : zz_Z g A s.heap [cw_i g a_kindOf 60 kdf, cw_i g a_depthOf 60 dpf, cw_i g a_lengthOf 60 lnf, cw_i g a_baseOf 60 saf, cw_l g a_bits 4000 btf, cw_z g a_pinned 4000 pnf, cw_l g a_held 200 hef, cw_k7 h0 (nI na) (nI ne) a_kindOf a_depthOf a_lengthOf a_classOf a_baseOf a_bits a_pinned 2 a_lengths a_stackArray a_stackOther a_stackAt i_lastArray i_lastPlace a_path a_held a_alike a_hashes (nI nd) a_decisionArray a_decisionPlace a_candidateMany a_candidates (nI nr) a_ruleSort a_ruleArray a_ruleWeight a_ruleLow a_ruleHigh a_chosen a_bestOf (nI nm) a_markElements a_markBits a_markPins] H locs := hZ
            have hZ : zz_Z g A s.heap [cw_k7 h0 (nI na) (nI ne) a_kindOf a_depthOf a_lengthOf a_classOf a_baseOf a_bits a_pinned 2 a_lengths a_stackArray a_stackOther a_stackAt i_lastArray i_lastPlace a_path a_held a_alike a_hashes (nI nd) a_decisionArray a_decisionPlace a_candidateMany a_candidates (nI nr) a_ruleSort a_ruleArray a_ruleWeight a_ruleLow a_ruleHigh a_chosen a_bestOf (nI nm) a_markElements a_markBits a_markPins, cw_i g a_kindOf 60 kdf, cw_i g a_depthOf 60 dpf, cw_i g a_lengthOf 60 lnf, cw_i g a_baseOf 60 saf, cw_l g a_bits 4000 btf, cw_z g a_pinned 4000 pnf, cw_l g a_held 200 hef] H locs := hZ.sub [7, 0, 1, 2, 3, 4, 5, 6] (by decide +kernel) rfl
            exact zz_iret hC hZ (⟨2, i_lastArray, i_lastPlace, btf, hef, by refine Eq.symm ?_; rw [fo_my_sort]; refine (if_neg (by (try simp only [d_a1, d_sz1, d_lz1, d_dz1, d_f]); exact c3)).trans ?_; refine (if_pos (by (try simp only [d_a1, d_sz1, d_lz1, d_dz1, d_f]); exact c9)).trans ?_; refine (if_neg (by (try simp only [d_a1, d_sz1, d_lz1, d_dz1, d_f]); exact c12)).trans ?_; refine (if_pos (by (try simp only [d_a1, d_sz1, d_lz1, d_dz1, d_f]); exact c24)).trans ?_; first | (simp only [d_a1, d_sz1, d_lz1, d_dz1, d_f]; done) | rfl, h_M, zz_D1.rf, rfl⟩) (Nat.le_of_ble_eq_true rfl) (Nat.le_of_ble_eq_true rfl) dX8_sort_122
    · have nc9 : ¬ dz1 ≤ 1 := fun zq => c9 (show nI (dz1) ≤ nI (1) from (nI_leI bd7 (by decide)).mpr zq)
      refine lv_iconst (v := 1) hx hb dX8_sort_22 (by decide) ?_
      refine lv_goto (tgt := 64) hx hb dX8_sort_23 (by decide) ?_
      refine lv_istore (lv' := [(4, .int 1), (0, .ref h0), (1, .int (nI a1)), (2, .int x2), (3, .int x3)]) hx hb dX8_sort_64 hl (by decide) rfl (fun ls hl => ?_)
      refine lv_iload_n hx hb dX8_sort_66 rfl (lv_at hl 3 rfl) ?_
      refine lv_istore (lv' := [(5, .int x2), (4, .int 1), (0, .ref h0), (1, .int (nI a1)), (2, .int x2), (3, .int x3)]) hx hb dX8_sort_67 hl (by decide) rfl (fun ls hl => ?_)
      refine lv_iload hx hb dX8_sort_69 (lv_at hl 0 rfl) ?_
      refine lv_iload_n hx hb dX8_sort_71 rfl (lv_at hl 5 rfl) ?_
      refine lv_icmp_ge (tgt := 111) hx hb dX8_sort_72 (by decide) (fun c104 => ?_) (fun c104 => ?_)
      · refine lv_iload hx hb dX8_sort_111 (lv_at hl 1 rfl) ?_
        refine lv_if_le (tgt := 123) hx hb dX8_sort_113 (by decide) (fun c => absurd c (by decide)) (fun c105 => ?_)
        refine lv_aload_n hx hb dX8_sort_116 rfl (lv_at hl 2 rfl) ?_
        refine lv_iload hx hb dX8_sort_117 (lv_at hl 1 rfl) ?_
        refine zz_iV (As := [.int 1]) (wc := [cw_k7 h0 (nI na) (nI ne) a_kindOf a_depthOf a_lengthOf a_classOf a_baseOf a_bits a_pinned i_code a_lengths a_stackArray a_stackOther a_stackAt i_lastArray i_lastPlace a_path a_held a_alike a_hashes (nI nd) a_decisionArray a_decisionPlace a_candidateMany a_candidates (nI nr) a_ruleSort a_ruleArray a_ruleWeight a_ruleLow a_ruleHigh a_chosen a_bestOf (nI nm) a_markElements a_markBits a_markPins]) (wr := [cw_i g a_kindOf 60 kdf, cw_i g a_depthOf 60 dpf, cw_i g a_lengthOf 60 lnf, cw_i g a_baseOf 60 saf, cw_l g a_bits 4000 btf, cw_z g a_pinned 4000 pnf, cw_l g a_held 200 hef]) (rest := []) hC hZ hs hl zc_X8_175 (cm_fails g h0 a_kindOf a_depthOf a_lengthOf a_classOf a_baseOf a_bits a_pinned a_lengths a_stackArray a_stackOther a_stackAt a_path a_held a_alike a_hashes a_decisionArray a_decisionPlace a_candidateMany a_candidates a_ruleSort a_ruleArray a_ruleWeight a_ruleLow a_ruleHigh a_chosen a_bestOf a_markElements a_markBits a_markPins (nI na) (nI ne) i_code i_lastArray i_lastPlace (nI nd) (nI nr) (nI nm) 1) [7] [0, 1, 2, 3, 4, 5, 6] rfl rfl (by decide +kernel) (ci := 7) (q0 := 0) rfl rfl rfl rfl (Nat.le_of_ble_eq_true rfl) ⟨⟨Nat.le_of_ble_eq_true rfl, Nat.le_of_ble_eq_true rfl⟩, Nat.le_of_ble_eq_true rfl, Nat.le_of_ble_eq_true rfl⟩ dX8_sort_119 (fun r106 u107 H locs hp hZ => ?_)
        obtain ⟨rfl, rfl⟩ := hp
        have hZ : zz_Z g A s.heap [cw_i g a_kindOf 60 kdf, cw_i g a_depthOf 60 dpf, cw_i g a_lengthOf 60 lnf, cw_i g a_baseOf 60 saf, cw_l g a_bits 4000 btf, cw_z g a_pinned 4000 pnf, cw_l g a_held 200 hef, cw_k7 h0 (nI na) (nI ne) a_kindOf a_depthOf a_lengthOf a_classOf a_baseOf a_bits a_pinned 1 a_lengths a_stackArray a_stackOther a_stackAt i_lastArray i_lastPlace a_path a_held a_alike a_hashes (nI nd) a_decisionArray a_decisionPlace a_candidateMany a_candidates (nI nr) a_ruleSort a_ruleArray a_ruleWeight a_ruleLow a_ruleHigh a_chosen a_bestOf (nI nm) a_markElements a_markBits a_markPins] H locs := hZ
        have hZ : zz_Z g A s.heap [cw_k7 h0 (nI na) (nI ne) a_kindOf a_depthOf a_lengthOf a_classOf a_baseOf a_bits a_pinned 1 a_lengths a_stackArray a_stackOther a_stackAt i_lastArray i_lastPlace a_path a_held a_alike a_hashes (nI nd) a_decisionArray a_decisionPlace a_candidateMany a_candidates (nI nr) a_ruleSort a_ruleArray a_ruleWeight a_ruleLow a_ruleHigh a_chosen a_bestOf (nI nm) a_markElements a_markBits a_markPins, cw_i g a_kindOf 60 kdf, cw_i g a_depthOf 60 dpf, cw_i g a_lengthOf 60 lnf, cw_i g a_baseOf 60 saf, cw_l g a_bits 4000 btf, cw_z g a_pinned 4000 pnf, cw_l g a_held 200 hef] H locs := hZ.sub [7, 0, 1, 2, 3, 4, 5, 6] (by decide +kernel) rfl
        exact zz_iret hC hZ (⟨1, i_lastArray, i_lastPlace, btf, hef, by refine Eq.symm ?_; rw [fo_my_sort]; refine (if_neg (by (try simp only [d_a1, d_sz1, d_lz1, d_dz1]); exact c3)).trans ?_; refine (if_neg (by (try simp only [d_a1, d_sz1, d_lz1, d_dz1]); exact c9)).trans ?_; first | (simp only [d_a1, d_sz1, d_lz1, d_dz1]; done) | rfl, h_M, zz_D1.rf, rfl⟩) (Nat.le_of_ble_eq_true rfl) (Nat.le_of_ble_eq_true rfl) dX8_sort_122
      · refine lv_iload hx hb dX8_sort_75 (lv_at hl 1 rfl) ?_
        refine lv_if_ne (tgt := 111) hx hb dX8_sort_77 (by decide) (fun c108 => ?_) (fun c => absurd c (by decide))
        refine lv_iload hx hb dX8_sort_111 (lv_at hl 1 rfl) ?_
        refine lv_if_le (tgt := 123) hx hb dX8_sort_113 (by decide) (fun c => absurd c (by decide)) (fun c109 => ?_)
        refine lv_aload_n hx hb dX8_sort_116 rfl (lv_at hl 2 rfl) ?_
        refine lv_iload hx hb dX8_sort_117 (lv_at hl 1 rfl) ?_
        refine zz_iV (As := [.int 1]) (wc := [cw_k7 h0 (nI na) (nI ne) a_kindOf a_depthOf a_lengthOf a_classOf a_baseOf a_bits a_pinned i_code a_lengths a_stackArray a_stackOther a_stackAt i_lastArray i_lastPlace a_path a_held a_alike a_hashes (nI nd) a_decisionArray a_decisionPlace a_candidateMany a_candidates (nI nr) a_ruleSort a_ruleArray a_ruleWeight a_ruleLow a_ruleHigh a_chosen a_bestOf (nI nm) a_markElements a_markBits a_markPins]) (wr := [cw_i g a_kindOf 60 kdf, cw_i g a_depthOf 60 dpf, cw_i g a_lengthOf 60 lnf, cw_i g a_baseOf 60 saf, cw_l g a_bits 4000 btf, cw_z g a_pinned 4000 pnf, cw_l g a_held 200 hef]) (rest := []) hC hZ hs hl zc_X8_175 (cm_fails g h0 a_kindOf a_depthOf a_lengthOf a_classOf a_baseOf a_bits a_pinned a_lengths a_stackArray a_stackOther a_stackAt a_path a_held a_alike a_hashes a_decisionArray a_decisionPlace a_candidateMany a_candidates a_ruleSort a_ruleArray a_ruleWeight a_ruleLow a_ruleHigh a_chosen a_bestOf a_markElements a_markBits a_markPins (nI na) (nI ne) i_code i_lastArray i_lastPlace (nI nd) (nI nr) (nI nm) 1) [7] [0, 1, 2, 3, 4, 5, 6] rfl rfl (by decide +kernel) (ci := 7) (q0 := 0) rfl rfl rfl rfl (Nat.le_of_ble_eq_true rfl) ⟨⟨Nat.le_of_ble_eq_true rfl, Nat.le_of_ble_eq_true rfl⟩, Nat.le_of_ble_eq_true rfl, Nat.le_of_ble_eq_true rfl⟩ dX8_sort_119 (fun r110 u111 H locs hp hZ => ?_)
        obtain ⟨rfl, rfl⟩ := hp
        have hZ : zz_Z g A s.heap [cw_i g a_kindOf 60 kdf, cw_i g a_depthOf 60 dpf, cw_i g a_lengthOf 60 lnf, cw_i g a_baseOf 60 saf, cw_l g a_bits 4000 btf, cw_z g a_pinned 4000 pnf, cw_l g a_held 200 hef, cw_k7 h0 (nI na) (nI ne) a_kindOf a_depthOf a_lengthOf a_classOf a_baseOf a_bits a_pinned 1 a_lengths a_stackArray a_stackOther a_stackAt i_lastArray i_lastPlace a_path a_held a_alike a_hashes (nI nd) a_decisionArray a_decisionPlace a_candidateMany a_candidates (nI nr) a_ruleSort a_ruleArray a_ruleWeight a_ruleLow a_ruleHigh a_chosen a_bestOf (nI nm) a_markElements a_markBits a_markPins] H locs := hZ
        have hZ : zz_Z g A s.heap [cw_k7 h0 (nI na) (nI ne) a_kindOf a_depthOf a_lengthOf a_classOf a_baseOf a_bits a_pinned 1 a_lengths a_stackArray a_stackOther a_stackAt i_lastArray i_lastPlace a_path a_held a_alike a_hashes (nI nd) a_decisionArray a_decisionPlace a_candidateMany a_candidates (nI nr) a_ruleSort a_ruleArray a_ruleWeight a_ruleLow a_ruleHigh a_chosen a_bestOf (nI nm) a_markElements a_markBits a_markPins, cw_i g a_kindOf 60 kdf, cw_i g a_depthOf 60 dpf, cw_i g a_lengthOf 60 lnf, cw_i g a_baseOf 60 saf, cw_l g a_bits 4000 btf, cw_z g a_pinned 4000 pnf, cw_l g a_held 200 hef] H locs := hZ.sub [7, 0, 1, 2, 3, 4, 5, 6] (by decide +kernel) rfl
        exact zz_iret hC hZ (⟨1, i_lastArray, i_lastPlace, btf, hef, by refine Eq.symm ?_; rw [fo_my_sort]; refine (if_neg (by (try simp only [d_a1, d_sz1, d_lz1, d_dz1]); exact c3)).trans ?_; refine (if_neg (by (try simp only [d_a1, d_sz1, d_lz1, d_dz1]); exact c9)).trans ?_; first | (simp only [d_a1, d_sz1, d_lz1, d_dz1]; done) | rfl, h_M, zz_D1.rf, rfl⟩) (Nat.le_of_ble_eq_true rfl) (Nat.le_of_ble_eq_true rfl) dX8_sort_122
  · refine lv_iconst (v := 5) hx hb dX8_sort_8 (by decide) ?_
    refine lv_goto (tgt := 64) hx hb dX8_sort_9 (by decide) ?_
    refine lv_istore (lv' := [(4, .int 5), (0, .ref h0), (1, .int x1), (2, .int x2), (3, .int x3)]) hx hb dX8_sort_64 hl (by decide) rfl (fun ls hl => ?_)
    refine lv_iload_n hx hb dX8_sort_66 rfl (lv_at hl 3 rfl) ?_
    refine lv_istore (lv' := [(5, .int x2), (4, .int 5), (0, .ref h0), (1, .int x1), (2, .int x2), (3, .int x3)]) hx hb dX8_sort_67 hl (by decide) rfl (fun ls hl => ?_)
    refine lv_iload hx hb dX8_sort_69 (lv_at hl 0 rfl) ?_
    refine lv_iload_n hx hb dX8_sort_71 rfl (lv_at hl 5 rfl) ?_
    refine lv_icmp_ge (tgt := 111) hx hb dX8_sort_72 (by decide) (fun c112 => ?_) (fun c112 => ?_)
    · refine lv_iload hx hb dX8_sort_111 (lv_at hl 1 rfl) ?_
      refine lv_if_le (tgt := 123) hx hb dX8_sort_113 (by decide) (fun c => absurd c (by decide)) (fun c113 => ?_)
      refine lv_aload_n hx hb dX8_sort_116 rfl (lv_at hl 2 rfl) ?_
      refine lv_iload hx hb dX8_sort_117 (lv_at hl 1 rfl) ?_
      refine zz_iV (As := [.int 5]) (wc := [cw_k7 h0 (nI na) (nI ne) a_kindOf a_depthOf a_lengthOf a_classOf a_baseOf a_bits a_pinned i_code a_lengths a_stackArray a_stackOther a_stackAt i_lastArray i_lastPlace a_path a_held a_alike a_hashes (nI nd) a_decisionArray a_decisionPlace a_candidateMany a_candidates (nI nr) a_ruleSort a_ruleArray a_ruleWeight a_ruleLow a_ruleHigh a_chosen a_bestOf (nI nm) a_markElements a_markBits a_markPins]) (wr := [cw_i g a_kindOf 60 kdf, cw_i g a_depthOf 60 dpf, cw_i g a_lengthOf 60 lnf, cw_i g a_baseOf 60 saf, cw_l g a_bits 4000 btf, cw_z g a_pinned 4000 pnf, cw_l g a_held 200 hef]) (rest := []) hC hZ hs hl zc_X8_175 (cm_fails g h0 a_kindOf a_depthOf a_lengthOf a_classOf a_baseOf a_bits a_pinned a_lengths a_stackArray a_stackOther a_stackAt a_path a_held a_alike a_hashes a_decisionArray a_decisionPlace a_candidateMany a_candidates a_ruleSort a_ruleArray a_ruleWeight a_ruleLow a_ruleHigh a_chosen a_bestOf a_markElements a_markBits a_markPins (nI na) (nI ne) i_code i_lastArray i_lastPlace (nI nd) (nI nr) (nI nm) 5) [7] [0, 1, 2, 3, 4, 5, 6] rfl rfl (by decide +kernel) (ci := 7) (q0 := 0) rfl rfl rfl rfl (Nat.le_of_ble_eq_true rfl) ⟨⟨Nat.le_of_ble_eq_true rfl, Nat.le_of_ble_eq_true rfl⟩, Nat.le_of_ble_eq_true rfl, Nat.le_of_ble_eq_true rfl⟩ dX8_sort_119 (fun r114 u115 H locs hp hZ => ?_)
      obtain ⟨rfl, rfl⟩ := hp
      have hZ : zz_Z g A s.heap [cw_i g a_kindOf 60 kdf, cw_i g a_depthOf 60 dpf, cw_i g a_lengthOf 60 lnf, cw_i g a_baseOf 60 saf, cw_l g a_bits 4000 btf, cw_z g a_pinned 4000 pnf, cw_l g a_held 200 hef, cw_k7 h0 (nI na) (nI ne) a_kindOf a_depthOf a_lengthOf a_classOf a_baseOf a_bits a_pinned 5 a_lengths a_stackArray a_stackOther a_stackAt i_lastArray i_lastPlace a_path a_held a_alike a_hashes (nI nd) a_decisionArray a_decisionPlace a_candidateMany a_candidates (nI nr) a_ruleSort a_ruleArray a_ruleWeight a_ruleLow a_ruleHigh a_chosen a_bestOf (nI nm) a_markElements a_markBits a_markPins] H locs := hZ
      have hZ : zz_Z g A s.heap [cw_k7 h0 (nI na) (nI ne) a_kindOf a_depthOf a_lengthOf a_classOf a_baseOf a_bits a_pinned 5 a_lengths a_stackArray a_stackOther a_stackAt i_lastArray i_lastPlace a_path a_held a_alike a_hashes (nI nd) a_decisionArray a_decisionPlace a_candidateMany a_candidates (nI nr) a_ruleSort a_ruleArray a_ruleWeight a_ruleLow a_ruleHigh a_chosen a_bestOf (nI nm) a_markElements a_markBits a_markPins, cw_i g a_kindOf 60 kdf, cw_i g a_depthOf 60 dpf, cw_i g a_lengthOf 60 lnf, cw_i g a_baseOf 60 saf, cw_l g a_bits 4000 btf, cw_z g a_pinned 4000 pnf, cw_l g a_held 200 hef] H locs := hZ.sub [7, 0, 1, 2, 3, 4, 5, 6] (by decide +kernel) rfl
      exact zz_iret hC hZ (⟨5, i_lastArray, i_lastPlace, btf, hef, by show _ = _; rw [fo_my_sort]; rw [if_pos c3], h_M, zz_D1.rf, rfl⟩) (Nat.le_of_ble_eq_true rfl) (Nat.le_of_ble_eq_true rfl) dX8_sort_122
    · refine lv_iload hx hb dX8_sort_75 (lv_at hl 1 rfl) ?_
      refine lv_if_ne (tgt := 111) hx hb dX8_sort_77 (by decide) (fun c116 => ?_) (fun c => absurd c (by decide))
      refine lv_iload hx hb dX8_sort_111 (lv_at hl 1 rfl) ?_
      refine lv_if_le (tgt := 123) hx hb dX8_sort_113 (by decide) (fun c => absurd c (by decide)) (fun c117 => ?_)
      refine lv_aload_n hx hb dX8_sort_116 rfl (lv_at hl 2 rfl) ?_
      refine lv_iload hx hb dX8_sort_117 (lv_at hl 1 rfl) ?_
      refine zz_iV (As := [.int 5]) (wc := [cw_k7 h0 (nI na) (nI ne) a_kindOf a_depthOf a_lengthOf a_classOf a_baseOf a_bits a_pinned i_code a_lengths a_stackArray a_stackOther a_stackAt i_lastArray i_lastPlace a_path a_held a_alike a_hashes (nI nd) a_decisionArray a_decisionPlace a_candidateMany a_candidates (nI nr) a_ruleSort a_ruleArray a_ruleWeight a_ruleLow a_ruleHigh a_chosen a_bestOf (nI nm) a_markElements a_markBits a_markPins]) (wr := [cw_i g a_kindOf 60 kdf, cw_i g a_depthOf 60 dpf, cw_i g a_lengthOf 60 lnf, cw_i g a_baseOf 60 saf, cw_l g a_bits 4000 btf, cw_z g a_pinned 4000 pnf, cw_l g a_held 200 hef]) (rest := []) hC hZ hs hl zc_X8_175 (cm_fails g h0 a_kindOf a_depthOf a_lengthOf a_classOf a_baseOf a_bits a_pinned a_lengths a_stackArray a_stackOther a_stackAt a_path a_held a_alike a_hashes a_decisionArray a_decisionPlace a_candidateMany a_candidates a_ruleSort a_ruleArray a_ruleWeight a_ruleLow a_ruleHigh a_chosen a_bestOf a_markElements a_markBits a_markPins (nI na) (nI ne) i_code i_lastArray i_lastPlace (nI nd) (nI nr) (nI nm) 5) [7] [0, 1, 2, 3, 4, 5, 6] rfl rfl (by decide +kernel) (ci := 7) (q0 := 0) rfl rfl rfl rfl (Nat.le_of_ble_eq_true rfl) ⟨⟨Nat.le_of_ble_eq_true rfl, Nat.le_of_ble_eq_true rfl⟩, Nat.le_of_ble_eq_true rfl, Nat.le_of_ble_eq_true rfl⟩ dX8_sort_119 (fun r118 u119 H locs hp hZ => ?_)
      obtain ⟨rfl, rfl⟩ := hp
      have hZ : zz_Z g A s.heap [cw_i g a_kindOf 60 kdf, cw_i g a_depthOf 60 dpf, cw_i g a_lengthOf 60 lnf, cw_i g a_baseOf 60 saf, cw_l g a_bits 4000 btf, cw_z g a_pinned 4000 pnf, cw_l g a_held 200 hef, cw_k7 h0 (nI na) (nI ne) a_kindOf a_depthOf a_lengthOf a_classOf a_baseOf a_bits a_pinned 5 a_lengths a_stackArray a_stackOther a_stackAt i_lastArray i_lastPlace a_path a_held a_alike a_hashes (nI nd) a_decisionArray a_decisionPlace a_candidateMany a_candidates (nI nr) a_ruleSort a_ruleArray a_ruleWeight a_ruleLow a_ruleHigh a_chosen a_bestOf (nI nm) a_markElements a_markBits a_markPins] H locs := hZ
      have hZ : zz_Z g A s.heap [cw_k7 h0 (nI na) (nI ne) a_kindOf a_depthOf a_lengthOf a_classOf a_baseOf a_bits a_pinned 5 a_lengths a_stackArray a_stackOther a_stackAt i_lastArray i_lastPlace a_path a_held a_alike a_hashes (nI nd) a_decisionArray a_decisionPlace a_candidateMany a_candidates (nI nr) a_ruleSort a_ruleArray a_ruleWeight a_ruleLow a_ruleHigh a_chosen a_bestOf (nI nm) a_markElements a_markBits a_markPins, cw_i g a_kindOf 60 kdf, cw_i g a_depthOf 60 dpf, cw_i g a_lengthOf 60 lnf, cw_i g a_baseOf 60 saf, cw_l g a_bits 4000 btf, cw_z g a_pinned 4000 pnf, cw_l g a_held 200 hef] H locs := hZ.sub [7, 0, 1, 2, 3, 4, 5, 6] (by decide +kernel) rfl
      exact zz_iret hC hZ (⟨5, i_lastArray, i_lastPlace, btf, hef, by show _ = _; rw [fo_my_sort]; rw [if_pos c3], h_M, zz_D1.rf, rfl⟩) (Nat.le_of_ble_eq_true rfl) (Nat.le_of_ble_eq_true rfl) dX8_sort_122
theorem zl_60 (a b : Nat) : ((60 : Int64) * lN a + lN b).toInt32 = nI (60 * a + b) := by
  rw [show (60 : Int64) = lN 60 by decide, lN_mul, lN_add, lN_i]
