/-- what rules are: the arrays that they judge -/
def zz_RI (na nr : Nat) (juf saf lnf : Nat → Int32) : Prop := nr ≤ 12 ∧ ∀ r, r < nr → ∃ a sz lz : Nat, juf r = nI a ∧ a < na ∧ a < 60 ∧ saf a = nI sz ∧ lnf a = nI lz ∧ sz + lz ≤ 4000 ∧ lz ≤ 200
theorem zl_lz {lnf : Nat → Int32} {a b x y : Nat} (h : a = b) (e1 : lnf a = nI x) (e2 : lnf b = nI y) (h1 : x ≤ 4000) (h2 : y ≤ 4000) : x = y := by
  subst h
  exact (nI_eq (by omega) (by omega)).mp (e1.symm.trans e2)
theorem dg_X5_shareOf_0 : (decode cX5_shareOf 0 = .ok (.aload_n 0, 1)) ∧ (decode cX5_shareOf 1 = .ok (.getfield 15, 3)) ∧ (decode cX5_shareOf 4 = .ok (.iload_n 1, 1)) ∧ (decode cX5_shareOf 5 = .ok (.iaload, 1)) ∧ (decode cX5_shareOf 6 = .ok (.istore_n 3, 1)) ∧ (decode cX5_shareOf 7 = .ok (.aload_n 0, 1)) ∧ (decode cX5_shareOf 8 = .ok (.getfield 34, 3)) ∧ (decode cX5_shareOf 11 = .ok (.getfield 70, 3)) ∧ (decode cX5_shareOf 14 = .ok (.iload_n 3, 1)) ∧ (decode cX5_shareOf 15 = .ok (.iaload, 1)) ∧ (decode cX5_shareOf 16 = .ok (.istore 4, 2)) ∧ (decode cX5_shareOf 18 = .ok (.aload_n 0, 1)) ∧ (decode cX5_shareOf 19 = .ok (.getfield 34, 3)) ∧ (decode cX5_shareOf 22 = .ok (.getfield 73, 3)) ∧ (decode cX5_shareOf 25 = .ok (.iload_n 3, 1)) ∧ (decode cX5_shareOf 26 = .ok (.iaload, 1)) := by decide +kernel
theorem dX5_shareOf_0 : decode cX5_shareOf 0 = .ok (.aload_n 0, 1) := dg_X5_shareOf_0.1
theorem dX5_shareOf_1 : decode cX5_shareOf 1 = .ok (.getfield 15, 3) := dg_X5_shareOf_0.2.1
theorem dX5_shareOf_4 : decode cX5_shareOf 4 = .ok (.iload_n 1, 1) := dg_X5_shareOf_0.2.2.1
theorem dX5_shareOf_5 : decode cX5_shareOf 5 = .ok (.iaload, 1) := dg_X5_shareOf_0.2.2.2.1
theorem dX5_shareOf_6 : decode cX5_shareOf 6 = .ok (.istore_n 3, 1) := dg_X5_shareOf_0.2.2.2.2.1
theorem dX5_shareOf_7 : decode cX5_shareOf 7 = .ok (.aload_n 0, 1) := dg_X5_shareOf_0.2.2.2.2.2.1
theorem dX5_shareOf_8 : decode cX5_shareOf 8 = .ok (.getfield 34, 3) := dg_X5_shareOf_0.2.2.2.2.2.2.1
theorem dX5_shareOf_11 : decode cX5_shareOf 11 = .ok (.getfield 70, 3) := dg_X5_shareOf_0.2.2.2.2.2.2.2.1
theorem dX5_shareOf_14 : decode cX5_shareOf 14 = .ok (.iload_n 3, 1) := dg_X5_shareOf_0.2.2.2.2.2.2.2.2.1
theorem dX5_shareOf_15 : decode cX5_shareOf 15 = .ok (.iaload, 1) := dg_X5_shareOf_0.2.2.2.2.2.2.2.2.2.1
theorem dX5_shareOf_16 : decode cX5_shareOf 16 = .ok (.istore 4, 2) := dg_X5_shareOf_0.2.2.2.2.2.2.2.2.2.2.1
theorem dX5_shareOf_18 : decode cX5_shareOf 18 = .ok (.aload_n 0, 1) := dg_X5_shareOf_0.2.2.2.2.2.2.2.2.2.2.2.1
theorem dX5_shareOf_19 : decode cX5_shareOf 19 = .ok (.getfield 34, 3) := dg_X5_shareOf_0.2.2.2.2.2.2.2.2.2.2.2.2.1
theorem dX5_shareOf_22 : decode cX5_shareOf 22 = .ok (.getfield 73, 3) := dg_X5_shareOf_0.2.2.2.2.2.2.2.2.2.2.2.2.2.1
theorem dX5_shareOf_25 : decode cX5_shareOf 25 = .ok (.iload_n 3, 1) := dg_X5_shareOf_0.2.2.2.2.2.2.2.2.2.2.2.2.2.2.1
theorem dX5_shareOf_26 : decode cX5_shareOf 26 = .ok (.iaload, 1) := dg_X5_shareOf_0.2.2.2.2.2.2.2.2.2.2.2.2.2.2.2
theorem dg_X5_shareOf_27 : (decode cX5_shareOf 27 = .ok (.iload_n 2, 1)) ∧ (decode cX5_shareOf 28 = .ok (.iadd, 1)) ∧ (decode cX5_shareOf 29 = .ok (.istore 5, 2)) ∧ (decode cX5_shareOf 31 = .ok (.aload_n 0, 1)) ∧ (decode cX5_shareOf 32 = .ok (.getfield 34, 3)) ∧ (decode cX5_shareOf 35 = .ok (.getfield 76, 3)) ∧ (decode cX5_shareOf 38 = .ok (.iload 5, 2)) ∧ (decode cX5_shareOf 40 = .ok (.laload, 1)) ∧ (decode cX5_shareOf 41 = .ok (.lstore 6, 2)) ∧ (decode cX5_shareOf 43 = .ok (.iload_n 2, 1)) ∧ (decode cX5_shareOf 44 = .ok (.ifCond .le 18, 3)) ∧ (decode cX5_shareOf 47 = .ok (.aload_n 0, 1)) ∧ (decode cX5_shareOf 48 = .ok (.getfield 34, 3)) ∧ (decode cX5_shareOf 51 = .ok (.getfield 76, 3)) ∧ (decode cX5_shareOf 54 = .ok (.iload 5, 2)) ∧ (decode cX5_shareOf 56 = .ok (.iconst 1, 1)) := by decide +kernel
theorem dX5_shareOf_27 : decode cX5_shareOf 27 = .ok (.iload_n 2, 1) := dg_X5_shareOf_27.1
theorem dX5_shareOf_28 : decode cX5_shareOf 28 = .ok (.iadd, 1) := dg_X5_shareOf_27.2.1
theorem dX5_shareOf_29 : decode cX5_shareOf 29 = .ok (.istore 5, 2) := dg_X5_shareOf_27.2.2.1
theorem dX5_shareOf_31 : decode cX5_shareOf 31 = .ok (.aload_n 0, 1) := dg_X5_shareOf_27.2.2.2.1
theorem dX5_shareOf_32 : decode cX5_shareOf 32 = .ok (.getfield 34, 3) := dg_X5_shareOf_27.2.2.2.2.1
theorem dX5_shareOf_35 : decode cX5_shareOf 35 = .ok (.getfield 76, 3) := dg_X5_shareOf_27.2.2.2.2.2.1
theorem dX5_shareOf_38 : decode cX5_shareOf 38 = .ok (.iload 5, 2) := dg_X5_shareOf_27.2.2.2.2.2.2.1
theorem dX5_shareOf_40 : decode cX5_shareOf 40 = .ok (.laload, 1) := dg_X5_shareOf_27.2.2.2.2.2.2.2.1
theorem dX5_shareOf_41 : decode cX5_shareOf 41 = .ok (.lstore 6, 2) := dg_X5_shareOf_27.2.2.2.2.2.2.2.2.1
theorem dX5_shareOf_43 : decode cX5_shareOf 43 = .ok (.iload_n 2, 1) := dg_X5_shareOf_27.2.2.2.2.2.2.2.2.2.1
theorem dX5_shareOf_44 : decode cX5_shareOf 44 = .ok (.ifCond .le 18, 3) := dg_X5_shareOf_27.2.2.2.2.2.2.2.2.2.2.1
theorem dX5_shareOf_47 : decode cX5_shareOf 47 = .ok (.aload_n 0, 1) := dg_X5_shareOf_27.2.2.2.2.2.2.2.2.2.2.2.1
theorem dX5_shareOf_48 : decode cX5_shareOf 48 = .ok (.getfield 34, 3) := dg_X5_shareOf_27.2.2.2.2.2.2.2.2.2.2.2.2.1
theorem dX5_shareOf_51 : decode cX5_shareOf 51 = .ok (.getfield 76, 3) := dg_X5_shareOf_27.2.2.2.2.2.2.2.2.2.2.2.2.2.1
theorem dX5_shareOf_54 : decode cX5_shareOf 54 = .ok (.iload 5, 2) := dg_X5_shareOf_27.2.2.2.2.2.2.2.2.2.2.2.2.2.2.1
theorem dX5_shareOf_56 : decode cX5_shareOf 56 = .ok (.iconst 1, 1) := dg_X5_shareOf_27.2.2.2.2.2.2.2.2.2.2.2.2.2.2.2
theorem dg_X5_shareOf_57 : (decode cX5_shareOf 57 = .ok (.isub, 1)) ∧ (decode cX5_shareOf 58 = .ok (.laload, 1)) ∧ (decode cX5_shareOf 59 = .ok (.goto 5, 3)) ∧ (decode cX5_shareOf 62 = .ok (.lload 6, 2)) ∧ (decode cX5_shareOf 64 = .ok (.lstore 8, 2)) ∧ (decode cX5_shareOf 66 = .ok (.aload_n 0, 1)) ∧ (decode cX5_shareOf 67 = .ok (.getfield 9, 3)) ∧ (decode cX5_shareOf 70 = .ok (.iload_n 1, 1)) ∧ (decode cX5_shareOf 71 = .ok (.iaload, 1)) ∧ (decode cX5_shareOf 72 = .ok (.tableswitch 120 0 4 #[36, 44, 64, 88, 106], 36)) ∧ (decode cX5_shareOf 108 = .ok (.iload 4, 2)) ∧ (decode cX5_shareOf 110 = .ok (.lload 6, 2)) ∧ (decode cX5_shareOf 112 = .ok (.invokestatic 79, 3)) ∧ (decode cX5_shareOf 115 = .ok (.lreturn, 1)) ∧ (decode cX5_shareOf 116 = .ok (.aload_n 0, 1)) ∧ (decode cX5_shareOf 117 = .ok (.iload 4, 2)) := by decide +kernel
theorem dX5_shareOf_57 : decode cX5_shareOf 57 = .ok (.isub, 1) := dg_X5_shareOf_57.1
theorem dX5_shareOf_58 : decode cX5_shareOf 58 = .ok (.laload, 1) := dg_X5_shareOf_57.2.1
theorem dX5_shareOf_59 : decode cX5_shareOf 59 = .ok (.goto 5, 3) := dg_X5_shareOf_57.2.2.1
theorem dX5_shareOf_62 : decode cX5_shareOf 62 = .ok (.lload 6, 2) := dg_X5_shareOf_57.2.2.2.1
theorem dX5_shareOf_64 : decode cX5_shareOf 64 = .ok (.lstore 8, 2) := dg_X5_shareOf_57.2.2.2.2.1
theorem dX5_shareOf_66 : decode cX5_shareOf 66 = .ok (.aload_n 0, 1) := dg_X5_shareOf_57.2.2.2.2.2.1
theorem dX5_shareOf_67 : decode cX5_shareOf 67 = .ok (.getfield 9, 3) := dg_X5_shareOf_57.2.2.2.2.2.2.1
theorem dX5_shareOf_70 : decode cX5_shareOf 70 = .ok (.iload_n 1, 1) := dg_X5_shareOf_57.2.2.2.2.2.2.2.1
theorem dX5_shareOf_71 : decode cX5_shareOf 71 = .ok (.iaload, 1) := dg_X5_shareOf_57.2.2.2.2.2.2.2.2.1
theorem dX5_shareOf_72 : decode cX5_shareOf 72 = .ok (.tableswitch 120 0 4 #[36, 44, 64, 88, 106], 36) := dg_X5_shareOf_57.2.2.2.2.2.2.2.2.2.1
theorem dX5_shareOf_108 : decode cX5_shareOf 108 = .ok (.iload 4, 2) := dg_X5_shareOf_57.2.2.2.2.2.2.2.2.2.2.1
theorem dX5_shareOf_110 : decode cX5_shareOf 110 = .ok (.lload 6, 2) := dg_X5_shareOf_57.2.2.2.2.2.2.2.2.2.2.2.1
theorem dX5_shareOf_112 : decode cX5_shareOf 112 = .ok (.invokestatic 79, 3) := dg_X5_shareOf_57.2.2.2.2.2.2.2.2.2.2.2.2.1
theorem dX5_shareOf_115 : decode cX5_shareOf 115 = .ok (.lreturn, 1) := dg_X5_shareOf_57.2.2.2.2.2.2.2.2.2.2.2.2.2.1
theorem dX5_shareOf_116 : decode cX5_shareOf 116 = .ok (.aload_n 0, 1) := dg_X5_shareOf_57.2.2.2.2.2.2.2.2.2.2.2.2.2.2.1
theorem dX5_shareOf_117 : decode cX5_shareOf 117 = .ok (.iload 4, 2) := dg_X5_shareOf_57.2.2.2.2.2.2.2.2.2.2.2.2.2.2.2
theorem dg_X5_shareOf_119 : (decode cX5_shareOf 119 = .ok (.lload 6, 2)) ∧ (decode cX5_shareOf 121 = .ok (.aload_n 0, 1)) ∧ (decode cX5_shareOf 122 = .ok (.getfield 34, 3)) ∧ (decode cX5_shareOf 125 = .ok (.getfield 73, 3)) ∧ (decode cX5_shareOf 128 = .ok (.iload_n 3, 1)) ∧ (decode cX5_shareOf 129 = .ok (.iaload, 1)) ∧ (decode cX5_shareOf 130 = .ok (.iload 5, 2)) ∧ (decode cX5_shareOf 132 = .ok (.invokevirtual 85, 3)) ∧ (decode cX5_shareOf 135 = .ok (.lreturn, 1)) ∧ (decode cX5_shareOf 136 = .ok (.iload 4, 2)) ∧ (decode cX5_shareOf 138 = .ok (.lload 6, 2)) ∧ (decode cX5_shareOf 140 = .ok (.invokestatic 89, 3)) ∧ (decode cX5_shareOf 143 = .ok (.iload 4, 2)) ∧ (decode cX5_shareOf 145 = .ok (.lload 8, 2)) ∧ (decode cX5_shareOf 147 = .ok (.invokestatic 89, 3)) ∧ (decode cX5_shareOf 150 = .ok (.lcmp, 1)) := by decide +kernel
theorem dX5_shareOf_119 : decode cX5_shareOf 119 = .ok (.lload 6, 2) := dg_X5_shareOf_119.1
theorem dX5_shareOf_121 : decode cX5_shareOf 121 = .ok (.aload_n 0, 1) := dg_X5_shareOf_119.2.1
theorem dX5_shareOf_122 : decode cX5_shareOf 122 = .ok (.getfield 34, 3) := dg_X5_shareOf_119.2.2.1
theorem dX5_shareOf_125 : decode cX5_shareOf 125 = .ok (.getfield 73, 3) := dg_X5_shareOf_119.2.2.2.1
theorem dX5_shareOf_128 : decode cX5_shareOf 128 = .ok (.iload_n 3, 1) := dg_X5_shareOf_119.2.2.2.2.1
theorem dX5_shareOf_129 : decode cX5_shareOf 129 = .ok (.iaload, 1) := dg_X5_shareOf_119.2.2.2.2.2.1
theorem dX5_shareOf_130 : decode cX5_shareOf 130 = .ok (.iload 5, 2) := dg_X5_shareOf_119.2.2.2.2.2.2.1
theorem dX5_shareOf_132 : decode cX5_shareOf 132 = .ok (.invokevirtual 85, 3) := dg_X5_shareOf_119.2.2.2.2.2.2.2.1
theorem dX5_shareOf_135 : decode cX5_shareOf 135 = .ok (.lreturn, 1) := dg_X5_shareOf_119.2.2.2.2.2.2.2.2.1
theorem dX5_shareOf_136 : decode cX5_shareOf 136 = .ok (.iload 4, 2) := dg_X5_shareOf_119.2.2.2.2.2.2.2.2.2.1
theorem dX5_shareOf_138 : decode cX5_shareOf 138 = .ok (.lload 6, 2) := dg_X5_shareOf_119.2.2.2.2.2.2.2.2.2.2.1
theorem dX5_shareOf_140 : decode cX5_shareOf 140 = .ok (.invokestatic 89, 3) := dg_X5_shareOf_119.2.2.2.2.2.2.2.2.2.2.2.1
theorem dX5_shareOf_143 : decode cX5_shareOf 143 = .ok (.iload 4, 2) := dg_X5_shareOf_119.2.2.2.2.2.2.2.2.2.2.2.2.1
theorem dX5_shareOf_145 : decode cX5_shareOf 145 = .ok (.lload 8, 2) := dg_X5_shareOf_119.2.2.2.2.2.2.2.2.2.2.2.2.2.1
theorem dX5_shareOf_147 : decode cX5_shareOf 147 = .ok (.invokestatic 89, 3) := dg_X5_shareOf_119.2.2.2.2.2.2.2.2.2.2.2.2.2.2.1
theorem dX5_shareOf_150 : decode cX5_shareOf 150 = .ok (.lcmp, 1) := dg_X5_shareOf_119.2.2.2.2.2.2.2.2.2.2.2.2.2.2.2
theorem dg_X5_shareOf_151 : (decode cX5_shareOf 151 = .ok (.ifCond .ge 7, 3)) ∧ (decode cX5_shareOf 154 = .ok (.lconst 1, 1)) ∧ (decode cX5_shareOf 155 = .ok (.goto 4, 3)) ∧ (decode cX5_shareOf 158 = .ok (.lconst 0, 1)) ∧ (decode cX5_shareOf 159 = .ok (.lreturn, 1)) ∧ (decode cX5_shareOf 160 = .ok (.lload 6, 2)) ∧ (decode cX5_shareOf 162 = .ok (.aload_n 0, 1)) ∧ (decode cX5_shareOf 163 = .ok (.getfield 21, 3)) ∧ (decode cX5_shareOf 166 = .ok (.iload_n 1, 1)) ∧ (decode cX5_shareOf 167 = .ok (.laload, 1)) ∧ (decode cX5_shareOf 168 = .ok (.lcmp, 1)) ∧ (decode cX5_shareOf 169 = .ok (.ifCond .ne 7, 3)) ∧ (decode cX5_shareOf 172 = .ok (.lconst 1, 1)) ∧ (decode cX5_shareOf 173 = .ok (.goto 4, 3)) ∧ (decode cX5_shareOf 176 = .ok (.lconst 0, 1)) ∧ (decode cX5_shareOf 177 = .ok (.lreturn, 1)) := by decide +kernel
theorem dX5_shareOf_151 : decode cX5_shareOf 151 = .ok (.ifCond .ge 7, 3) := dg_X5_shareOf_151.1
theorem dX5_shareOf_154 : decode cX5_shareOf 154 = .ok (.lconst 1, 1) := dg_X5_shareOf_151.2.1
theorem dX5_shareOf_155 : decode cX5_shareOf 155 = .ok (.goto 4, 3) := dg_X5_shareOf_151.2.2.1
theorem dX5_shareOf_158 : decode cX5_shareOf 158 = .ok (.lconst 0, 1) := dg_X5_shareOf_151.2.2.2.1
theorem dX5_shareOf_159 : decode cX5_shareOf 159 = .ok (.lreturn, 1) := dg_X5_shareOf_151.2.2.2.2.1
theorem dX5_shareOf_160 : decode cX5_shareOf 160 = .ok (.lload 6, 2) := dg_X5_shareOf_151.2.2.2.2.2.1
theorem dX5_shareOf_162 : decode cX5_shareOf 162 = .ok (.aload_n 0, 1) := dg_X5_shareOf_151.2.2.2.2.2.2.1
theorem dX5_shareOf_163 : decode cX5_shareOf 163 = .ok (.getfield 21, 3) := dg_X5_shareOf_151.2.2.2.2.2.2.2.1
theorem dX5_shareOf_166 : decode cX5_shareOf 166 = .ok (.iload_n 1, 1) := dg_X5_shareOf_151.2.2.2.2.2.2.2.2.1
theorem dX5_shareOf_167 : decode cX5_shareOf 167 = .ok (.laload, 1) := dg_X5_shareOf_151.2.2.2.2.2.2.2.2.2.1
theorem dX5_shareOf_168 : decode cX5_shareOf 168 = .ok (.lcmp, 1) := dg_X5_shareOf_151.2.2.2.2.2.2.2.2.2.2.1
theorem dX5_shareOf_169 : decode cX5_shareOf 169 = .ok (.ifCond .ne 7, 3) := dg_X5_shareOf_151.2.2.2.2.2.2.2.2.2.2.2.1
theorem dX5_shareOf_172 : decode cX5_shareOf 172 = .ok (.lconst 1, 1) := dg_X5_shareOf_151.2.2.2.2.2.2.2.2.2.2.2.2.1
theorem dX5_shareOf_173 : decode cX5_shareOf 173 = .ok (.goto 4, 3) := dg_X5_shareOf_151.2.2.2.2.2.2.2.2.2.2.2.2.2.1
theorem dX5_shareOf_176 : decode cX5_shareOf 176 = .ok (.lconst 0, 1) := dg_X5_shareOf_151.2.2.2.2.2.2.2.2.2.2.2.2.2.2.1
theorem dX5_shareOf_177 : decode cX5_shareOf 177 = .ok (.lreturn, 1) := dg_X5_shareOf_151.2.2.2.2.2.2.2.2.2.2.2.2.2.2.2
theorem dg_X5_shareOf_178 : (decode cX5_shareOf 178 = .ok (.lload 6, 2)) ∧ (decode cX5_shareOf 180 = .ok (.lload 8, 2)) ∧ (decode cX5_shareOf 182 = .ok (.lcmp, 1)) ∧ (decode cX5_shareOf 183 = .ok (.ifCond .eq 7, 3)) ∧ (decode cX5_shareOf 186 = .ok (.lconst 1, 1)) ∧ (decode cX5_shareOf 187 = .ok (.goto 4, 3)) ∧ (decode cX5_shareOf 190 = .ok (.lconst 0, 1)) ∧ (decode cX5_shareOf 191 = .ok (.lreturn, 1)) ∧ (decode cX5_shareOf 192 = .ok (.iload 4, 2)) ∧ (decode cX5_shareOf 194 = .ok (.lload 6, 2)) ∧ (decode cX5_shareOf 196 = .ok (.invokestatic 79, 3)) ∧ (decode cX5_shareOf 199 = .ok (.iload 4, 2)) ∧ (decode cX5_shareOf 201 = .ok (.lload 8, 2)) ∧ (decode cX5_shareOf 203 = .ok (.invokestatic 79, 3)) ∧ (decode cX5_shareOf 206 = .ok (.invokestatic 46, 3)) ∧ (decode cX5_shareOf 209 = .ok (.lreturn, 1)) := by decide +kernel
theorem dX5_shareOf_178 : decode cX5_shareOf 178 = .ok (.lload 6, 2) := dg_X5_shareOf_178.1
theorem dX5_shareOf_180 : decode cX5_shareOf 180 = .ok (.lload 8, 2) := dg_X5_shareOf_178.2.1
theorem dX5_shareOf_182 : decode cX5_shareOf 182 = .ok (.lcmp, 1) := dg_X5_shareOf_178.2.2.1
theorem dX5_shareOf_183 : decode cX5_shareOf 183 = .ok (.ifCond .eq 7, 3) := dg_X5_shareOf_178.2.2.2.1
theorem dX5_shareOf_186 : decode cX5_shareOf 186 = .ok (.lconst 1, 1) := dg_X5_shareOf_178.2.2.2.2.1
theorem dX5_shareOf_187 : decode cX5_shareOf 187 = .ok (.goto 4, 3) := dg_X5_shareOf_178.2.2.2.2.2.1
theorem dX5_shareOf_190 : decode cX5_shareOf 190 = .ok (.lconst 0, 1) := dg_X5_shareOf_178.2.2.2.2.2.2.1
theorem dX5_shareOf_191 : decode cX5_shareOf 191 = .ok (.lreturn, 1) := dg_X5_shareOf_178.2.2.2.2.2.2.2.1
theorem dX5_shareOf_192 : decode cX5_shareOf 192 = .ok (.iload 4, 2) := dg_X5_shareOf_178.2.2.2.2.2.2.2.2.1
theorem dX5_shareOf_194 : decode cX5_shareOf 194 = .ok (.lload 6, 2) := dg_X5_shareOf_178.2.2.2.2.2.2.2.2.2.1
theorem dX5_shareOf_196 : decode cX5_shareOf 196 = .ok (.invokestatic 79, 3) := dg_X5_shareOf_178.2.2.2.2.2.2.2.2.2.2.1
theorem dX5_shareOf_199 : decode cX5_shareOf 199 = .ok (.iload 4, 2) := dg_X5_shareOf_178.2.2.2.2.2.2.2.2.2.2.2.1
theorem dX5_shareOf_201 : decode cX5_shareOf 201 = .ok (.lload 8, 2) := dg_X5_shareOf_178.2.2.2.2.2.2.2.2.2.2.2.2.1
theorem dX5_shareOf_203 : decode cX5_shareOf 203 = .ok (.invokestatic 79, 3) := dg_X5_shareOf_178.2.2.2.2.2.2.2.2.2.2.2.2.2.1
theorem dX5_shareOf_206 : decode cX5_shareOf 206 = .ok (.invokestatic 46, 3) := dg_X5_shareOf_178.2.2.2.2.2.2.2.2.2.2.2.2.2.2.1
theorem dX5_shareOf_209 : decode cX5_shareOf 209 = .ok (.lreturn, 1) := dg_X5_shareOf_178.2.2.2.2.2.2.2.2.2.2.2.2.2.2.2
theorem zk_35 : Cond.fieldLink RX5 70 RX6 "kind" "[I" ∈ zz_w := zz_in (List.mem_append_right _ (List.mem_append_left _ (List.mem_of_getElem? (i := 35) (by decide +kernel)))) rfl
theorem zf_X5_70 : zz_f RX5 70 5 2 := ⟨RX6, TX6, 10, rfl, zi_X6, by decide, zk_35⟩
theorem zk_48 : Cond.fieldLink RX5 73 RX6 "start" "[I" ∈ zz_w := zz_in (List.mem_append_right _ (List.mem_append_left _ (List.mem_of_getElem? (i := 48) (by decide +kernel)))) rfl
theorem zf_X5_73 : zz_f RX5 73 5 5 := ⟨RX6, TX6, 10, rfl, zi_X6, by decide, zk_48⟩
theorem zk_620 : Cond.methodLink RX5 79 yX1_number ∈ zz_w := zz_in (List.mem_append_right _ (List.mem_append_right _ (List.mem_append_right _ (List.mem_append_left _ (List.mem_of_getElem? (i := 140) (by decide +kernel)))))) rfl
set_option maxRecDepth 20000 in
theorem zk_622 : Cond.code yX1_number cX1_number 6 (some .long) ∈ zz_w := zz_in (List.mem_append_right _ (List.mem_append_right _ (List.mem_append_right _ (List.mem_append_left _ (List.mem_of_getElem? (i := 142) (rfl)))))) rfl
theorem zk_621 : Cond.static yX1_number ∈ zz_w := zz_in (List.mem_append_right _ (List.mem_append_right _ (List.mem_append_right _ (List.mem_append_left _ (List.mem_of_getElem? (i := 141) (by decide +kernel)))))) rfl
theorem zc_X5_79 : zz_cS RX5 79 yX1_number cX1_number 6 (some .long) 2 := ⟨⟨zk_620, zk_622, zk_8, by decide, by decide, by decide +kernel⟩, zk_621⟩
theorem zk_629 : Cond.methodLink RX5 85 yX5_alikeIn ∈ zz_w := zz_in (List.mem_append_right _ (List.mem_append_right _ (List.mem_append_right _ (List.mem_append_left _ (List.mem_of_getElem? (i := 149) (by decide +kernel)))))) rfl
set_option maxRecDepth 20000 in
theorem zk_632 : Cond.code yX5_alikeIn cX5_alikeIn 9 (some .long) ∈ zz_w := zz_in (List.mem_append_right _ (List.mem_append_right _ (List.mem_append_right _ (List.mem_append_left _ (List.mem_of_getElem? (i := 152) (rfl)))))) rfl
theorem zk_631 : Cond.instanceMethod yX5_alikeIn ∈ zz_w := zz_in (List.mem_append_right _ (List.mem_append_right _ (List.mem_append_right _ (List.mem_append_left _ (List.mem_of_getElem? (i := 151) (by decide +kernel)))))) rfl
theorem zs_14 : Cond.selects RX5 yX5_alikeIn yX5_alikeIn ∈ zz_w := zz_in (List.mem_append_left _ (List.mem_of_getElem? (i := 14) (by decide +kernel))) rfl
theorem zc_X5_85 : zz_cV RX5 85 yX5_alikeIn cX5_alikeIn 9 (some .long) 4 := ⟨⟨zk_629, zk_632, zk_6, by decide, by decide, by decide +kernel⟩, zk_631, zs_14⟩
theorem zk_636 : Cond.methodLink RX5 89 yX1_rank ∈ zz_w := zz_in (List.mem_append_right _ (List.mem_append_right _ (List.mem_append_right _ (List.mem_append_left _ (List.mem_of_getElem? (i := 156) (by decide +kernel)))))) rfl
theorem zc_X5_89 : zz_cS RX5 89 yX1_rank cX1_rank 3 (some .long) 2 := ⟨⟨zk_636, zk_484, zk_8, by decide, by decide, by decide +kernel⟩, zk_483⟩
def fn_co_shareOf (sof : Nat → Int32) (lof : Nat → Int64) (kdf : Nat → Int32) (btf : Nat → Int64) (d : Nat) (a : Nat) (sz : Nat) (pp : Nat) : Int64 := (if (nI pp) ≤ 0 then (if (sof d) = nI 0 then (fn_co_number (kdf a) (btf (sz + pp))) else (if (sof d) = nI 1 then (sp_ali (kdf a) (btf (sz + pp)) btf ((sz + pp) - sz) sz 0) else (if (sof d) = nI 2 then 0 else (if (sof d) = nI 3 then (if (btf (sz + pp)) = (lof d) then 1 else 0) else (if (sof d) = nI 4 then 0 else (fn_co_apart (fn_co_number (kdf a) (btf (sz + pp))) (fn_co_number (kdf a) (btf (sz + pp))))))))) else (if (sof d) = nI 0 then (fn_co_number (kdf a) (btf (sz + pp))) else (if (sof d) = nI 1 then (sp_ali (kdf a) (btf (sz + pp)) btf ((sz + pp) - sz) sz 0) else (if (sof d) = nI 2 then (if (fn_co_rank (kdf a) (btf ((sz + pp) - 1))) ≤ (fn_co_rank (kdf a) (btf (sz + pp))) then 0 else 1) else (if (sof d) = nI 3 then (if (btf (sz + pp)) = (lof d) then 1 else 0) else (if (sof d) = nI 4 then (if (btf (sz + pp)) = (btf ((sz + pp) - 1)) then 0 else 1) else (fn_co_apart (fn_co_number (kdf a) (btf (sz + pp))) (fn_co_number (kdf a) (btf ((sz + pp) - 1))))))))))
abbrev rm_co_shareOf : Room := { frames := 2, cells := 0, slots := 0, locals := 52 }
abbrev po_co_shareOf (g : zz_G) (ru : Nat) (st : Nat) (u_so : Nat) (u_ju : Nat) (u_we : Nat) (u_lo : Nat) (u_hi : Nat) (u_ta : Nat) (u_bo : Nat) (kd : Nat) (dp : Nat) (cl : Nat) (sa : Nat) (ln : Nat) (bt : Nat) (pn : Nat) (bf : Nat) (nr : Nat) (na : Nat) (nu : Nat) (juf : Nat → Int32) (sof : Nat → Int32) (lof : Nat → Int64) (kdf : Nat → Int32) (saf : Nat → Int32) (btf : Nat → Int64) (d : Nat) (a : Nat) (sz : Nat) (lz : Nat) (pp : Nat) (h_r : d < 12 ∧ a < 60 ∧ sz + lz ≤ 4000 ∧ lz ≤ 200 ∧ pp < lz) (e_j : juf d = nI a) (e_s : saf a = nI sz) : Int64 → va_W → Prop := fun (r : Int64) (u : va_W) => r = fn_co_shareOf sof lof kdf btf d a sz pp ∧ u = [cw_k4 ru st (nI nr) u_so u_ju u_we u_lo u_hi u_ta u_bo, cw_i g u_ju 12 juf, cw_i g u_so 12 sof, cw_l g u_lo 12 lof, cw_k5 st (nI na) (nI nu) kd dp cl sa ln bt pn bf, cw_i g kd 60 kdf, cw_i g sa 60 saf, cw_l g bt 4000 btf]
set_option maxHeartbeats 4000000 in
set_option maxRecDepth 100000 in
theorem co_shareOf (g : zz_G) (ru : Nat) (st : Nat) (u_so : Nat) (u_ju : Nat) (u_we : Nat) (u_lo : Nat) (u_hi : Nat) (u_ta : Nat) (u_bo : Nat) (kd : Nat) (dp : Nat) (cl : Nat) (sa : Nat) (ln : Nat) (bt : Nat) (pn : Nat) (bf : Nat) (nr : Nat) (na : Nat) (nu : Nat) (juf : Nat → Int32) (sof : Nat → Int32) (lof : Nat → Int64) (kdf : Nat → Int32) (saf : Nat → Int32) (btf : Nat → Int64) (d : Nat) (a : Nat) (sz : Nat) (lz : Nat) (pp : Nat) (h_r : d < 12 ∧ a < 60 ∧ sz + lz ≤ 4000 ∧ lz ≤ 200 ∧ pp < lz) (e_j : juf d = nI a) (e_s : saf a = nI sz) : zz_L g yX5_shareOf (.code yX5_shareOf cX5_shareOf 10 (some .long)) rm_co_shareOf [.ref ru, .int (nI d), .int (nI pp)] [cw_k4 ru st (nI nr) u_so u_ju u_we u_lo u_hi u_ta u_bo, cw_i g u_ju 12 juf, cw_i g u_so 12 sof, cw_l g u_lo 12 lof, cw_k5 st (nI na) (nI nu) kd dp cl sa ln bt pn bf, cw_i g kd 60 kdf, cw_i g sa 60 saf, cw_l g bt 4000 btf] (po_co_shareOf g ru st u_so u_ju u_we u_lo u_hi u_ta u_bo kd dp cl sa ln bt pn bf nr na nu juf sof lof kdf saf btf d a sz lz pp h_r e_j e_s) := by
  refine zz_L.intro (own := RX5) (cc := cX5_shareOf) (nL := 10) (by decide) rfl (Nat.le_of_ble_eq_true rfl) ?_
  intro p l e s m args below meth c A H locs ls hC hnm hs hZ hl
  obtain ⟨hx, hb, hml, hown, hts, hr, hlocks, hK⟩ := id hC
  have hl : lv_has ls 10 [(0, .ref ru), (1, .int (nI d)), (2, .int (nI pp))] := hl
  have hZ : zz_Z g A s.heap [cw_k4 ru st (nI nr) u_so u_ju u_we u_lo u_hi u_ta u_bo, cw_i g u_ju 12 juf, cw_i g u_so 12 sof, cw_l g u_lo 12 lof, cw_k5 st (nI na) (nI nu) kd dp cl sa ln bt pn bf, cw_i g kd 60 kdf, cw_i g sa 60 saf, cw_l g bt 4000 btf] H locs := hZ
  refine lv_aload_n hx hb dX5_shareOf_0 rfl (lv_at hl 0 rfl) ?_
  refine zz_get hC hZ 0 rfl zf_X5_15 rfl dX5_shareOf_1 ?_
  refine lv_iload_n hx hb dX5_shareOf_4 rfl (lv_at hl 1 rfl) ?_
  have bd1 : d < 12 := by omega
  refine zz_ialdn hC hZ 1 rfl bd1 (by decide) dX5_shareOf_5 ?_
  refine zz_topi (v := nI a) (e_j) ?_
  refine lv_istore_n (lv' := [(3, .int (nI a)), (0, .ref ru), (1, .int (nI d)), (2, .int (nI pp))]) hx hb dX5_shareOf_6 rfl hl (by decide) rfl (fun ls hl => ?_)
  refine lv_aload_n hx hb dX5_shareOf_7 rfl (lv_at hl 1 rfl) ?_
  refine zz_get hC hZ 0 rfl zf_X5_34 rfl dX5_shareOf_8 ?_
  refine zz_get hC hZ 4 rfl zf_X5_70 rfl dX5_shareOf_11 ?_
  refine lv_iload_n hx hb dX5_shareOf_14 rfl (lv_at hl 0 rfl) ?_
  have bd2 : a < 60 := by omega
  refine zz_ialdn hC hZ 5 rfl bd2 (by decide) dX5_shareOf_15 ?_
  refine lv_istore (lv' := [(4, .int (kdf a)), (3, .int (nI a)), (0, .ref ru), (1, .int (nI d)), (2, .int (nI pp))]) hx hb dX5_shareOf_16 hl (by decide) rfl (fun ls hl => ?_)
  refine lv_aload_n hx hb dX5_shareOf_18 rfl (lv_at hl 2 rfl) ?_
  refine zz_get hC hZ 0 rfl zf_X5_34 rfl dX5_shareOf_19 ?_
  refine zz_get hC hZ 4 rfl zf_X5_73 rfl dX5_shareOf_22 ?_
  refine lv_iload_n hx hb dX5_shareOf_25 rfl (lv_at hl 1 rfl) ?_
  refine zz_ialdn hC hZ 6 rfl bd2 (by decide) dX5_shareOf_26 ?_
  refine zz_topi (v := nI sz) (e_s) ?_
  refine lv_iload_n hx hb dX5_shareOf_27 rfl (lv_at hl 4 rfl) ?_
  refine lv_iadd hx hb dX5_shareOf_28 ?_
  refine zz_topi (v := nI (sz + pp)) (nI_add _ _) ?_
  refine lv_istore (lv' := [(5, .int (nI (sz + pp))), (4, .int (kdf a)), (3, .int (nI a)), (0, .ref ru), (1, .int (nI d)), (2, .int (nI pp))]) hx hb dX5_shareOf_29 hl (by decide) rfl (fun ls hl => ?_)
  refine lv_aload_n hx hb dX5_shareOf_31 rfl (lv_at hl 3 rfl) ?_
  refine zz_get hC hZ 0 rfl zf_X5_34 rfl dX5_shareOf_32 ?_
  refine zz_get hC hZ 4 rfl zf_X5_76 rfl dX5_shareOf_35 ?_
  refine lv_iload hx hb dX5_shareOf_38 (lv_at hl 0 rfl) ?_
  have bd3 : (sz + pp) < 4000 := by omega
  refine zz_laldn hC hZ 7 rfl bd3 (by decide) dX5_shareOf_40 ?_
  refine lv_lstore (lv' := [(6, .long (btf (sz + pp))), (5, .int (nI (sz + pp))), (4, .int (kdf a)), (3, .int (nI a)), (0, .ref ru), (1, .int (nI d)), (2, .int (nI pp))]) hx hb dX5_shareOf_41 hl (by decide) rfl (fun ls hl => ?_)
  refine lv_iload_n hx hb dX5_shareOf_43 rfl (lv_at hl 6 rfl) ?_
  have bd5 : pp < 2 ^ 31 := by omega
  refine lv_if_le (tgt := 62) hx hb dX5_shareOf_44 (by decide) (fun c4 => ?_) (fun c4 => ?_)
  · have nc4 : pp ≤ 0 := (nI_leI bd5 (by decide)).mp (show nI (pp) ≤ nI (0) from c4)
    refine lv_lload hx hb dX5_shareOf_62 (lv_at hl 0 rfl) ?_
    refine lv_lstore (lv' := [(8, .long (btf (sz + pp))), (6, .long (btf (sz + pp))), (5, .int (nI (sz + pp))), (4, .int (kdf a)), (3, .int (nI a)), (0, .ref ru), (1, .int (nI d)), (2, .int (nI pp))]) hx hb dX5_shareOf_64 hl (by decide) rfl (fun ls hl => ?_)
    refine lv_aload_n hx hb dX5_shareOf_66 rfl (lv_at hl 5 rfl) ?_
    refine zz_get hC hZ 0 rfl zf_X5_9 rfl dX5_shareOf_67 ?_
    refine lv_iload_n hx hb dX5_shareOf_70 rfl (lv_at hl 6 rfl) ?_
    refine zz_ialdn hC hZ 2 rfl bd1 (by decide) dX5_shareOf_71 ?_
    rcases zz_sw (sof d) 5 (by decide) with c6 | ⟨k_, hk_, c6⟩
    · refine lv_tableOut (tgt := 192) hx hb dX5_shareOf_72 (by rcases c6 with q | q; exact Or.inl (by omega); exact Or.inr (by omega)) (by decide) ?_
      refine lv_iload hx hb dX5_shareOf_192 (lv_at hl 3 rfl) ?_
      refine lv_lload hx hb dX5_shareOf_194 (lv_at hl 1 rfl) ?_
      refine zz_lS (As := [.int (kdf a), .long (btf (sz + pp))]) (wc := []) (wr := [cw_k4 ru st (nI nr) u_so u_ju u_we u_lo u_hi u_ta u_bo, cw_i g u_ju 12 juf, cw_i g u_so 12 sof, cw_l g u_lo 12 lof, cw_k5 st (nI na) (nI nu) kd dp cl sa ln bt pn bf, cw_i g kd 60 kdf, cw_i g sa 60 saf, cw_l g bt 4000 btf]) (rest := []) hC hZ hs hl zc_X5_79 (co_number g (kdf a) (btf (sz + pp))) [] [0, 1, 2, 3, 4, 5, 6, 7] rfl rfl (by decide +kernel) rfl rfl (Nat.le_of_ble_eq_true rfl) ⟨⟨Nat.le_of_ble_eq_true rfl, Nat.le_of_ble_eq_true rfl⟩, Nat.le_of_ble_eq_true rfl, Nat.le_of_ble_eq_true rfl⟩ dX5_shareOf_196 (fun r7 u8 H locs hp hZ => ?_)
      obtain ⟨rfl, rfl⟩ := hp
      have hZ : zz_Z g A s.heap [cw_k4 ru st (nI nr) u_so u_ju u_we u_lo u_hi u_ta u_bo, cw_i g u_ju 12 juf, cw_i g u_so 12 sof, cw_l g u_lo 12 lof, cw_k5 st (nI na) (nI nu) kd dp cl sa ln bt pn bf, cw_i g kd 60 kdf, cw_i g sa 60 saf, cw_l g bt 4000 btf] H locs := hZ
      refine lv_iload hx hb dX5_shareOf_199 (lv_at hl 3 rfl) ?_
      refine lv_lload hx hb dX5_shareOf_201 (lv_at hl 0 rfl) ?_
      refine zz_lS (As := [.int (kdf a), .long (btf (sz + pp))]) (wc := []) (wr := [cw_k4 ru st (nI nr) u_so u_ju u_we u_lo u_hi u_ta u_bo, cw_i g u_ju 12 juf, cw_i g u_so 12 sof, cw_l g u_lo 12 lof, cw_k5 st (nI na) (nI nu) kd dp cl sa ln bt pn bf, cw_i g kd 60 kdf, cw_i g sa 60 saf, cw_l g bt 4000 btf]) (rest := [.long (fn_co_number (kdf a) (btf (sz + pp)))]) hC hZ hs hl zc_X5_79 (co_number g (kdf a) (btf (sz + pp))) [] [0, 1, 2, 3, 4, 5, 6, 7] rfl rfl (by decide +kernel) rfl rfl (Nat.le_of_ble_eq_true rfl) ⟨⟨Nat.le_of_ble_eq_true rfl, Nat.le_of_ble_eq_true rfl⟩, Nat.le_of_ble_eq_true rfl, Nat.le_of_ble_eq_true rfl⟩ dX5_shareOf_203 (fun r9 u10 H locs hp hZ => ?_)
      obtain ⟨rfl, rfl⟩ := hp
      have hZ : zz_Z g A s.heap [cw_k4 ru st (nI nr) u_so u_ju u_we u_lo u_hi u_ta u_bo, cw_i g u_ju 12 juf, cw_i g u_so 12 sof, cw_l g u_lo 12 lof, cw_k5 st (nI na) (nI nu) kd dp cl sa ln bt pn bf, cw_i g kd 60 kdf, cw_i g sa 60 saf, cw_l g bt 4000 btf] H locs := hZ
      refine zz_lS (As := [.long (fn_co_number (kdf a) (btf (sz + pp))), .long (fn_co_number (kdf a) (btf (sz + pp)))]) (wc := []) (wr := [cw_k4 ru st (nI nr) u_so u_ju u_we u_lo u_hi u_ta u_bo, cw_i g u_ju 12 juf, cw_i g u_so 12 sof, cw_l g u_lo 12 lof, cw_k5 st (nI na) (nI nu) kd dp cl sa ln bt pn bf, cw_i g kd 60 kdf, cw_i g sa 60 saf, cw_l g bt 4000 btf]) (rest := []) hC hZ hs hl zc_X5_46 (co_apart g (fn_co_number (kdf a) (btf (sz + pp))) (fn_co_number (kdf a) (btf (sz + pp)))) [] [0, 1, 2, 3, 4, 5, 6, 7] rfl rfl (by decide +kernel) rfl rfl (Nat.le_of_ble_eq_true rfl) ⟨⟨Nat.le_of_ble_eq_true rfl, Nat.le_of_ble_eq_true rfl⟩, Nat.le_of_ble_eq_true rfl, Nat.le_of_ble_eq_true rfl⟩ dX5_shareOf_206 (fun r11 u12 H locs hp hZ => ?_)
      obtain ⟨rfl, rfl⟩ := hp
      have hZ : zz_Z g A s.heap [cw_k4 ru st (nI nr) u_so u_ju u_we u_lo u_hi u_ta u_bo, cw_i g u_ju 12 juf, cw_i g u_so 12 sof, cw_l g u_lo 12 lof, cw_k5 st (nI na) (nI nu) kd dp cl sa ln bt pn bf, cw_i g kd 60 kdf, cw_i g sa 60 saf, cw_l g bt 4000 btf] H locs := hZ
      exact zz_lret hC hZ (⟨by show _ = _; rw [fn_co_shareOf]; rw [if_pos c4, if_neg (zl_swo c6 0 (by decide) (by decide)), if_neg (zl_swo c6 1 (by decide) (by decide)), if_neg (zl_swo c6 2 (by decide) (by decide)), if_neg (zl_swo c6 3 (by decide) (by decide)), if_neg (zl_swo c6 4 (by decide) (by decide))], rfl⟩) (Nat.le_of_ble_eq_true rfl) (Nat.le_of_ble_eq_true rfl) dX5_shareOf_209
    · refine zz_topi c6 ?_
      rcases (show k_ = 0 ∨ k_ = 1 ∨ k_ = 2 ∨ k_ = 3 ∨ k_ = 4 by omega) with rfl | rfl | rfl | rfl | rfl
      · refine lv_tableIn (tgt := 108) (off := 36) hx hb dX5_shareOf_72 (by decide) (by decide) (by decide) (by decide) ?_
        refine lv_iload hx hb dX5_shareOf_108 (lv_at hl 3 rfl) ?_
        refine lv_lload hx hb dX5_shareOf_110 (lv_at hl 1 rfl) ?_
        refine zz_lS (As := [.int (kdf a), .long (btf (sz + pp))]) (wc := []) (wr := [cw_k4 ru st (nI nr) u_so u_ju u_we u_lo u_hi u_ta u_bo, cw_i g u_ju 12 juf, cw_i g u_so 12 sof, cw_l g u_lo 12 lof, cw_k5 st (nI na) (nI nu) kd dp cl sa ln bt pn bf, cw_i g kd 60 kdf, cw_i g sa 60 saf, cw_l g bt 4000 btf]) (rest := []) hC hZ hs hl zc_X5_79 (co_number g (kdf a) (btf (sz + pp))) [] [0, 1, 2, 3, 4, 5, 6, 7] rfl rfl (by decide +kernel) rfl rfl (Nat.le_of_ble_eq_true rfl) ⟨⟨Nat.le_of_ble_eq_true rfl, Nat.le_of_ble_eq_true rfl⟩, Nat.le_of_ble_eq_true rfl, Nat.le_of_ble_eq_true rfl⟩ dX5_shareOf_112 (fun r13 u14 H locs hp hZ => ?_)
        obtain ⟨rfl, rfl⟩ := hp
        have hZ : zz_Z g A s.heap [cw_k4 ru st (nI nr) u_so u_ju u_we u_lo u_hi u_ta u_bo, cw_i g u_ju 12 juf, cw_i g u_so 12 sof, cw_l g u_lo 12 lof, cw_k5 st (nI na) (nI nu) kd dp cl sa ln bt pn bf, cw_i g kd 60 kdf, cw_i g sa 60 saf, cw_l g bt 4000 btf] H locs := hZ
        exact zz_lret hC hZ (⟨by show _ = _; rw [fn_co_shareOf]; rw [if_pos c4, if_pos c6], rfl⟩) (Nat.le_of_ble_eq_true rfl) (Nat.le_of_ble_eq_true rfl) dX5_shareOf_115
      · refine lv_tableIn (tgt := 116) (off := 44) hx hb dX5_shareOf_72 (by decide) (by decide) (by decide) (by decide) ?_
        refine lv_aload_n hx hb dX5_shareOf_116 rfl (lv_at hl 5 rfl) ?_
        refine lv_iload hx hb dX5_shareOf_117 (lv_at hl 3 rfl) ?_
        refine lv_lload hx hb dX5_shareOf_119 (lv_at hl 1 rfl) ?_
        refine lv_aload_n hx hb dX5_shareOf_121 rfl (lv_at hl 5 rfl) ?_
        refine zz_get hC hZ 0 rfl zf_X5_34 rfl dX5_shareOf_122 ?_
        refine zz_get hC hZ 4 rfl zf_X5_73 rfl dX5_shareOf_125 ?_
        refine lv_iload_n hx hb dX5_shareOf_128 rfl (lv_at hl 4 rfl) ?_
        refine zz_ialdn hC hZ 6 rfl bd2 (by decide) dX5_shareOf_129 ?_
        refine zz_topi (v := nI sz) (e_s) ?_
        refine lv_iload hx hb dX5_shareOf_130 (lv_at hl 2 rfl) ?_
        refine zz_lV (As := [.int (kdf a), .long (btf (sz + pp)), .int (nI sz), .int (nI (sz + pp))]) (wc := [cw_k4 ru st (nI nr) u_so u_ju u_we u_lo u_hi u_ta u_bo, cw_k5 st (nI na) (nI nu) kd dp cl sa ln bt pn bf, cw_l g bt 4000 btf]) (wr := [cw_i g u_ju 12 juf, cw_i g u_so 12 sof, cw_l g u_lo 12 lof, cw_i g kd 60 kdf, cw_i g sa 60 saf]) (rest := []) hC hZ hs hl zc_X5_85 (co_alikeIn g ru st u_so u_ju u_we u_lo u_hi u_ta u_bo kd dp cl sa ln bt pn bf nr na nu btf (kdf a) (btf (sz + pp)) sz (sz + pp) (by omega)) [0, 4, 7] [1, 2, 3, 5, 6] rfl rfl (by decide +kernel) (ci := 4) (q0 := 0) rfl rfl rfl rfl (Nat.le_of_ble_eq_true rfl) ⟨⟨Nat.le_of_ble_eq_true rfl, Nat.le_of_ble_eq_true rfl⟩, Nat.le_of_ble_eq_true rfl, Nat.le_of_ble_eq_true rfl⟩ dX5_shareOf_132 (fun r15 u16 H locs hp hZ => ?_)
        obtain ⟨f17, rfl⟩ := hp
        have hZ : zz_Z g A s.heap [cw_i g u_ju 12 juf, cw_i g u_so 12 sof, cw_l g u_lo 12 lof, cw_i g kd 60 kdf, cw_i g sa 60 saf, cw_k4 ru st (nI nr) u_so u_ju u_we u_lo u_hi u_ta u_bo, cw_k5 st (nI na) (nI nu) kd dp cl sa ln bt pn bf, cw_l g bt 4000 btf] H locs := hZ
        have d_r15 : sp_ali (kdf a) (btf (sz + pp)) btf ((sz + pp) - sz) sz 0 = r15 := f17.symm
        have hZ : zz_Z g A s.heap [cw_k4 ru st (nI nr) u_so u_ju u_we u_lo u_hi u_ta u_bo, cw_i g u_ju 12 juf, cw_i g u_so 12 sof, cw_l g u_lo 12 lof, cw_k5 st (nI na) (nI nu) kd dp cl sa ln bt pn bf, cw_i g kd 60 kdf, cw_i g sa 60 saf, cw_l g bt 4000 btf] H locs := hZ.sub [5, 0, 1, 2, 6, 3, 4, 7] (by decide +kernel) rfl
        exact zz_lret hC hZ (⟨by refine Eq.symm ?_; rw [fn_co_shareOf]; refine (if_pos (by (try simp only [d_r15]); exact c4)).trans ?_; refine (if_neg (by (try simp only [d_r15]); exact ((show ¬ ((sof d) = nI 0) by rw [c6]; decide)))).trans ?_; refine (if_pos (by (try simp only [d_r15]); exact c6)).trans ?_; first | (simp only [d_r15]; done) | rfl, rfl⟩) (Nat.le_of_ble_eq_true rfl) (Nat.le_of_ble_eq_true rfl) dX5_shareOf_135
      · refine lv_tableIn (tgt := 136) (off := 64) hx hb dX5_shareOf_72 (by decide) (by decide) (by decide) (by decide) ?_
        refine lv_iload hx hb dX5_shareOf_136 (lv_at hl 3 rfl) ?_
        refine lv_lload hx hb dX5_shareOf_138 (lv_at hl 1 rfl) ?_
        refine zz_lS (As := [.int (kdf a), .long (btf (sz + pp))]) (wc := []) (wr := [cw_k4 ru st (nI nr) u_so u_ju u_we u_lo u_hi u_ta u_bo, cw_i g u_ju 12 juf, cw_i g u_so 12 sof, cw_l g u_lo 12 lof, cw_k5 st (nI na) (nI nu) kd dp cl sa ln bt pn bf, cw_i g kd 60 kdf, cw_i g sa 60 saf, cw_l g bt 4000 btf]) (rest := []) hC hZ hs hl zc_X5_89 (co_rank g (kdf a) (btf (sz + pp))) [] [0, 1, 2, 3, 4, 5, 6, 7] rfl rfl (by decide +kernel) rfl rfl (Nat.le_of_ble_eq_true rfl) ⟨⟨Nat.le_of_ble_eq_true rfl, Nat.le_of_ble_eq_true rfl⟩, Nat.le_of_ble_eq_true rfl, Nat.le_of_ble_eq_true rfl⟩ dX5_shareOf_140 (fun r18 u19 H locs hp hZ => ?_)
        obtain ⟨rfl, rfl⟩ := hp
        have hZ : zz_Z g A s.heap [cw_k4 ru st (nI nr) u_so u_ju u_we u_lo u_hi u_ta u_bo, cw_i g u_ju 12 juf, cw_i g u_so 12 sof, cw_l g u_lo 12 lof, cw_k5 st (nI na) (nI nu) kd dp cl sa ln bt pn bf, cw_i g kd 60 kdf, cw_i g sa 60 saf, cw_l g bt 4000 btf] H locs := hZ
        refine lv_iload hx hb dX5_shareOf_143 (lv_at hl 3 rfl) ?_
        refine lv_lload hx hb dX5_shareOf_145 (lv_at hl 0 rfl) ?_
        refine zz_lS (As := [.int (kdf a), .long (btf (sz + pp))]) (wc := []) (wr := [cw_k4 ru st (nI nr) u_so u_ju u_we u_lo u_hi u_ta u_bo, cw_i g u_ju 12 juf, cw_i g u_so 12 sof, cw_l g u_lo 12 lof, cw_k5 st (nI na) (nI nu) kd dp cl sa ln bt pn bf, cw_i g kd 60 kdf, cw_i g sa 60 saf, cw_l g bt 4000 btf]) (rest := [.long (fn_co_rank (kdf a) (btf (sz + pp)))]) hC hZ hs hl zc_X5_89 (co_rank g (kdf a) (btf (sz + pp))) [] [0, 1, 2, 3, 4, 5, 6, 7] rfl rfl (by decide +kernel) rfl rfl (Nat.le_of_ble_eq_true rfl) ⟨⟨Nat.le_of_ble_eq_true rfl, Nat.le_of_ble_eq_true rfl⟩, Nat.le_of_ble_eq_true rfl, Nat.le_of_ble_eq_true rfl⟩ dX5_shareOf_147 (fun r20 u21 H locs hp hZ => ?_)
        obtain ⟨rfl, rfl⟩ := hp
        have hZ : zz_Z g A s.heap [cw_k4 ru st (nI nr) u_so u_ju u_we u_lo u_hi u_ta u_bo, cw_i g u_ju 12 juf, cw_i g u_so 12 sof, cw_l g u_lo 12 lof, cw_k5 st (nI na) (nI nu) kd dp cl sa ln bt pn bf, cw_i g kd 60 kdf, cw_i g sa 60 saf, cw_l g bt 4000 btf] H locs := hZ
        refine zz_lcmp_ge (tgt := 158) hC dX5_shareOf_150 dX5_shareOf_151 (by decide) (fun c22 => ?_) (fun c => absurd (by simp) c)
        refine lv_lconst (v := 0) hx hb dX5_shareOf_158 (by decide) ?_
        exact zz_lret hC hZ (⟨by show _ = _; rw [fn_co_shareOf]; rw [if_pos c4, if_neg (show ¬ ((sof d) = nI 0) by rw [c6]; decide), if_neg (show ¬ ((sof d) = nI 1) by rw [c6]; decide), if_pos c6], rfl⟩) (Nat.le_of_ble_eq_true rfl) (Nat.le_of_ble_eq_true rfl) dX5_shareOf_159
      · refine lv_tableIn (tgt := 160) (off := 88) hx hb dX5_shareOf_72 (by decide) (by decide) (by decide) (by decide) ?_
        refine lv_lload hx hb dX5_shareOf_160 (lv_at hl 1 rfl) ?_
        refine lv_aload_n hx hb dX5_shareOf_162 rfl (lv_at hl 5 rfl) ?_
        refine zz_get hC hZ 0 rfl zf_X5_21 rfl dX5_shareOf_163 ?_
        refine lv_iload_n hx hb dX5_shareOf_166 rfl (lv_at hl 6 rfl) ?_
        refine zz_laldn hC hZ 3 rfl bd1 (by decide) dX5_shareOf_167 ?_
        refine zz_lcmp_ne (tgt := 176) hC dX5_shareOf_168 dX5_shareOf_169 (by decide) (fun c23 => ?_) (fun c23 => ?_)
        · refine lv_lconst (v := 0) hx hb dX5_shareOf_176 (by decide) ?_
          exact zz_lret hC hZ (⟨by show _ = _; rw [fn_co_shareOf]; rw [if_pos c4, if_neg (show ¬ ((sof d) = nI 0) by rw [c6]; decide), if_neg (show ¬ ((sof d) = nI 1) by rw [c6]; decide), if_neg (show ¬ ((sof d) = nI 2) by rw [c6]; decide), if_pos c6, if_neg c23], rfl⟩) (Nat.le_of_ble_eq_true rfl) (Nat.le_of_ble_eq_true rfl) dX5_shareOf_177
        · refine lv_lconst (v := 1) hx hb dX5_shareOf_172 (by decide) ?_
          refine lv_goto (tgt := 177) hx hb dX5_shareOf_173 (by decide) ?_
          exact zz_lret hC hZ (⟨by show _ = _; rw [fn_co_shareOf]; rw [if_pos c4, if_neg (show ¬ ((sof d) = nI 0) by rw [c6]; decide), if_neg (show ¬ ((sof d) = nI 1) by rw [c6]; decide), if_neg (show ¬ ((sof d) = nI 2) by rw [c6]; decide), if_pos c6, if_pos c23], rfl⟩) (Nat.le_of_ble_eq_true rfl) (Nat.le_of_ble_eq_true rfl) dX5_shareOf_177
      · refine lv_tableIn (tgt := 178) (off := 106) hx hb dX5_shareOf_72 (by decide) (by decide) (by decide) (by decide) ?_
        refine lv_lload hx hb dX5_shareOf_178 (lv_at hl 1 rfl) ?_
        refine lv_lload hx hb dX5_shareOf_180 (lv_at hl 0 rfl) ?_
        refine zz_lcmp_eq (tgt := 190) hC dX5_shareOf_182 dX5_shareOf_183 (by decide) (fun c24 => ?_) (fun c => absurd (rfl) c)
        refine lv_lconst (v := 0) hx hb dX5_shareOf_190 (by decide) ?_
        exact zz_lret hC hZ (⟨by show _ = _; rw [fn_co_shareOf]; rw [if_pos c4, if_neg (show ¬ ((sof d) = nI 0) by rw [c6]; decide), if_neg (show ¬ ((sof d) = nI 1) by rw [c6]; decide), if_neg (show ¬ ((sof d) = nI 2) by rw [c6]; decide), if_neg (show ¬ ((sof d) = nI 3) by rw [c6]; decide), if_pos c6], rfl⟩) (Nat.le_of_ble_eq_true rfl) (Nat.le_of_ble_eq_true rfl) dX5_shareOf_191
  · have nc4 : ¬ pp ≤ 0 := fun zq => c4 (show nI (pp) ≤ nI (0) from (nI_leI bd5 (by decide)).mpr zq)
    refine lv_aload_n hx hb dX5_shareOf_47 rfl (lv_at hl 4 rfl) ?_
    refine zz_get hC hZ 0 rfl zf_X5_34 rfl dX5_shareOf_48 ?_
    refine zz_get hC hZ 4 rfl zf_X5_76 rfl dX5_shareOf_51 ?_
    refine lv_iload hx hb dX5_shareOf_54 (lv_at hl 1 rfl) ?_
    refine lv_iconst (v := 1) hx hb dX5_shareOf_56 (by decide) ?_
    refine lv_isub hx hb dX5_shareOf_57 ?_
    refine zz_topi (v := nI ((sz + pp) - 1)) (pk_sub (b := 1) (by omega)) ?_
    have bd25 : ((sz + pp) - 1) < 4000 := by omega
    refine zz_laldn hC hZ 7 rfl bd25 (by decide) dX5_shareOf_58 ?_
    refine lv_goto (tgt := 64) hx hb dX5_shareOf_59 (by decide) ?_
    refine lv_lstore (lv' := [(8, .long (btf ((sz + pp) - 1))), (6, .long (btf (sz + pp))), (5, .int (nI (sz + pp))), (4, .int (kdf a)), (3, .int (nI a)), (0, .ref ru), (1, .int (nI d)), (2, .int (nI pp))]) hx hb dX5_shareOf_64 hl (by decide) rfl (fun ls hl => ?_)
    refine lv_aload_n hx hb dX5_shareOf_66 rfl (lv_at hl 5 rfl) ?_
    refine zz_get hC hZ 0 rfl zf_X5_9 rfl dX5_shareOf_67 ?_
    refine lv_iload_n hx hb dX5_shareOf_70 rfl (lv_at hl 6 rfl) ?_
    refine zz_ialdn hC hZ 2 rfl bd1 (by decide) dX5_shareOf_71 ?_
    rcases zz_sw (sof d) 5 (by decide) with c26 | ⟨k_, hk_, c26⟩
    · refine lv_tableOut (tgt := 192) hx hb dX5_shareOf_72 (by rcases c26 with q | q; exact Or.inl (by omega); exact Or.inr (by omega)) (by decide) ?_
      refine lv_iload hx hb dX5_shareOf_192 (lv_at hl 3 rfl) ?_
      refine lv_lload hx hb dX5_shareOf_194 (lv_at hl 1 rfl) ?_
      refine zz_lS (As := [.int (kdf a), .long (btf (sz + pp))]) (wc := []) (wr := [cw_k4 ru st (nI nr) u_so u_ju u_we u_lo u_hi u_ta u_bo, cw_i g u_ju 12 juf, cw_i g u_so 12 sof, cw_l g u_lo 12 lof, cw_k5 st (nI na) (nI nu) kd dp cl sa ln bt pn bf, cw_i g kd 60 kdf, cw_i g sa 60 saf, cw_l g bt 4000 btf]) (rest := []) hC hZ hs hl zc_X5_79 (co_number g (kdf a) (btf (sz + pp))) [] [0, 1, 2, 3, 4, 5, 6, 7] rfl rfl (by decide +kernel) rfl rfl (Nat.le_of_ble_eq_true rfl) ⟨⟨Nat.le_of_ble_eq_true rfl, Nat.le_of_ble_eq_true rfl⟩, Nat.le_of_ble_eq_true rfl, Nat.le_of_ble_eq_true rfl⟩ dX5_shareOf_196 (fun r27 u28 H locs hp hZ => ?_)
      obtain ⟨rfl, rfl⟩ := hp
      have hZ : zz_Z g A s.heap [cw_k4 ru st (nI nr) u_so u_ju u_we u_lo u_hi u_ta u_bo, cw_i g u_ju 12 juf, cw_i g u_so 12 sof, cw_l g u_lo 12 lof, cw_k5 st (nI na) (nI nu) kd dp cl sa ln bt pn bf, cw_i g kd 60 kdf, cw_i g sa 60 saf, cw_l g bt 4000 btf] H locs := hZ
      refine lv_iload hx hb dX5_shareOf_199 (lv_at hl 3 rfl) ?_
      refine lv_lload hx hb dX5_shareOf_201 (lv_at hl 0 rfl) ?_
      refine zz_lS (As := [.int (kdf a), .long (btf ((sz + pp) - 1))]) (wc := []) (wr := [cw_k4 ru st (nI nr) u_so u_ju u_we u_lo u_hi u_ta u_bo, cw_i g u_ju 12 juf, cw_i g u_so 12 sof, cw_l g u_lo 12 lof, cw_k5 st (nI na) (nI nu) kd dp cl sa ln bt pn bf, cw_i g kd 60 kdf, cw_i g sa 60 saf, cw_l g bt 4000 btf]) (rest := [.long (fn_co_number (kdf a) (btf (sz + pp)))]) hC hZ hs hl zc_X5_79 (co_number g (kdf a) (btf ((sz + pp) - 1))) [] [0, 1, 2, 3, 4, 5, 6, 7] rfl rfl (by decide +kernel) rfl rfl (Nat.le_of_ble_eq_true rfl) ⟨⟨Nat.le_of_ble_eq_true rfl, Nat.le_of_ble_eq_true rfl⟩, Nat.le_of_ble_eq_true rfl, Nat.le_of_ble_eq_true rfl⟩ dX5_shareOf_203 (fun r29 u30 H locs hp hZ => ?_)
      obtain ⟨rfl, rfl⟩ := hp
      have hZ : zz_Z g A s.heap [cw_k4 ru st (nI nr) u_so u_ju u_we u_lo u_hi u_ta u_bo, cw_i g u_ju 12 juf, cw_i g u_so 12 sof, cw_l g u_lo 12 lof, cw_k5 st (nI na) (nI nu) kd dp cl sa ln bt pn bf, cw_i g kd 60 kdf, cw_i g sa 60 saf, cw_l g bt 4000 btf] H locs := hZ
      refine zz_lS (As := [.long (fn_co_number (kdf a) (btf (sz + pp))), .long (fn_co_number (kdf a) (btf ((sz + pp) - 1)))]) (wc := []) (wr := [cw_k4 ru st (nI nr) u_so u_ju u_we u_lo u_hi u_ta u_bo, cw_i g u_ju 12 juf, cw_i g u_so 12 sof, cw_l g u_lo 12 lof, cw_k5 st (nI na) (nI nu) kd dp cl sa ln bt pn bf, cw_i g kd 60 kdf, cw_i g sa 60 saf, cw_l g bt 4000 btf]) (rest := []) hC hZ hs hl zc_X5_46 (co_apart g (fn_co_number (kdf a) (btf (sz + pp))) (fn_co_number (kdf a) (btf ((sz + pp) - 1)))) [] [0, 1, 2, 3, 4, 5, 6, 7] rfl rfl (by decide +kernel) rfl rfl (Nat.le_of_ble_eq_true rfl) ⟨⟨Nat.le_of_ble_eq_true rfl, Nat.le_of_ble_eq_true rfl⟩, Nat.le_of_ble_eq_true rfl, Nat.le_of_ble_eq_true rfl⟩ dX5_shareOf_206 (fun r31 u32 H locs hp hZ => ?_)
      obtain ⟨rfl, rfl⟩ := hp
      have hZ : zz_Z g A s.heap [cw_k4 ru st (nI nr) u_so u_ju u_we u_lo u_hi u_ta u_bo, cw_i g u_ju 12 juf, cw_i g u_so 12 sof, cw_l g u_lo 12 lof, cw_k5 st (nI na) (nI nu) kd dp cl sa ln bt pn bf, cw_i g kd 60 kdf, cw_i g sa 60 saf, cw_l g bt 4000 btf] H locs := hZ
      exact zz_lret hC hZ (⟨by show _ = _; rw [fn_co_shareOf]; rw [if_neg c4, if_neg (zl_swo c26 0 (by decide) (by decide)), if_neg (zl_swo c26 1 (by decide) (by decide)), if_neg (zl_swo c26 2 (by decide) (by decide)), if_neg (zl_swo c26 3 (by decide) (by decide)), if_neg (zl_swo c26 4 (by decide) (by decide))], rfl⟩) (Nat.le_of_ble_eq_true rfl) (Nat.le_of_ble_eq_true rfl) dX5_shareOf_209
    · refine zz_topi c26 ?_
      rcases (show k_ = 0 ∨ k_ = 1 ∨ k_ = 2 ∨ k_ = 3 ∨ k_ = 4 by omega) with rfl | rfl | rfl | rfl | rfl
      · refine lv_tableIn (tgt := 108) (off := 36) hx hb dX5_shareOf_72 (by decide) (by decide) (by decide) (by decide) ?_
        refine lv_iload hx hb dX5_shareOf_108 (lv_at hl 3 rfl) ?_
        refine lv_lload hx hb dX5_shareOf_110 (lv_at hl 1 rfl) ?_
        refine zz_lS (As := [.int (kdf a), .long (btf (sz + pp))]) (wc := []) (wr := [cw_k4 ru st (nI nr) u_so u_ju u_we u_lo u_hi u_ta u_bo, cw_i g u_ju 12 juf, cw_i g u_so 12 sof, cw_l g u_lo 12 lof, cw_k5 st (nI na) (nI nu) kd dp cl sa ln bt pn bf, cw_i g kd 60 kdf, cw_i g sa 60 saf, cw_l g bt 4000 btf]) (rest := []) hC hZ hs hl zc_X5_79 (co_number g (kdf a) (btf (sz + pp))) [] [0, 1, 2, 3, 4, 5, 6, 7] rfl rfl (by decide +kernel) rfl rfl (Nat.le_of_ble_eq_true rfl) ⟨⟨Nat.le_of_ble_eq_true rfl, Nat.le_of_ble_eq_true rfl⟩, Nat.le_of_ble_eq_true rfl, Nat.le_of_ble_eq_true rfl⟩ dX5_shareOf_112 (fun r33 u34 H locs hp hZ => ?_)
        obtain ⟨rfl, rfl⟩ := hp
        have hZ : zz_Z g A s.heap [cw_k4 ru st (nI nr) u_so u_ju u_we u_lo u_hi u_ta u_bo, cw_i g u_ju 12 juf, cw_i g u_so 12 sof, cw_l g u_lo 12 lof, cw_k5 st (nI na) (nI nu) kd dp cl sa ln bt pn bf, cw_i g kd 60 kdf, cw_i g sa 60 saf, cw_l g bt 4000 btf] H locs := hZ
        exact zz_lret hC hZ (⟨by show _ = _; rw [fn_co_shareOf]; rw [if_neg c4, if_pos c26], rfl⟩) (Nat.le_of_ble_eq_true rfl) (Nat.le_of_ble_eq_true rfl) dX5_shareOf_115
      · refine lv_tableIn (tgt := 116) (off := 44) hx hb dX5_shareOf_72 (by decide) (by decide) (by decide) (by decide) ?_
        refine lv_aload_n hx hb dX5_shareOf_116 rfl (lv_at hl 5 rfl) ?_
        refine lv_iload hx hb dX5_shareOf_117 (lv_at hl 3 rfl) ?_
        refine lv_lload hx hb dX5_shareOf_119 (lv_at hl 1 rfl) ?_
        refine lv_aload_n hx hb dX5_shareOf_121 rfl (lv_at hl 5 rfl) ?_
        refine zz_get hC hZ 0 rfl zf_X5_34 rfl dX5_shareOf_122 ?_
        refine zz_get hC hZ 4 rfl zf_X5_73 rfl dX5_shareOf_125 ?_
        refine lv_iload_n hx hb dX5_shareOf_128 rfl (lv_at hl 4 rfl) ?_
        refine zz_ialdn hC hZ 6 rfl bd2 (by decide) dX5_shareOf_129 ?_
        refine zz_topi (v := nI sz) (e_s) ?_
        refine lv_iload hx hb dX5_shareOf_130 (lv_at hl 2 rfl) ?_
        refine zz_lV (As := [.int (kdf a), .long (btf (sz + pp)), .int (nI sz), .int (nI (sz + pp))]) (wc := [cw_k4 ru st (nI nr) u_so u_ju u_we u_lo u_hi u_ta u_bo, cw_k5 st (nI na) (nI nu) kd dp cl sa ln bt pn bf, cw_l g bt 4000 btf]) (wr := [cw_i g u_ju 12 juf, cw_i g u_so 12 sof, cw_l g u_lo 12 lof, cw_i g kd 60 kdf, cw_i g sa 60 saf]) (rest := []) hC hZ hs hl zc_X5_85 (co_alikeIn g ru st u_so u_ju u_we u_lo u_hi u_ta u_bo kd dp cl sa ln bt pn bf nr na nu btf (kdf a) (btf (sz + pp)) sz (sz + pp) (by omega)) [0, 4, 7] [1, 2, 3, 5, 6] rfl rfl (by decide +kernel) (ci := 4) (q0 := 0) rfl rfl rfl rfl (Nat.le_of_ble_eq_true rfl) ⟨⟨Nat.le_of_ble_eq_true rfl, Nat.le_of_ble_eq_true rfl⟩, Nat.le_of_ble_eq_true rfl, Nat.le_of_ble_eq_true rfl⟩ dX5_shareOf_132 (fun r35 u36 H locs hp hZ => ?_)
        obtain ⟨f37, rfl⟩ := hp
        have hZ : zz_Z g A s.heap [cw_i g u_ju 12 juf, cw_i g u_so 12 sof, cw_l g u_lo 12 lof, cw_i g kd 60 kdf, cw_i g sa 60 saf, cw_k4 ru st (nI nr) u_so u_ju u_we u_lo u_hi u_ta u_bo, cw_k5 st (nI na) (nI nu) kd dp cl sa ln bt pn bf, cw_l g bt 4000 btf] H locs := hZ
        have d_r35 : sp_ali (kdf a) (btf (sz + pp)) btf ((sz + pp) - sz) sz 0 = r35 := f37.symm
        have hZ : zz_Z g A s.heap [cw_k4 ru st (nI nr) u_so u_ju u_we u_lo u_hi u_ta u_bo, cw_i g u_ju 12 juf, cw_i g u_so 12 sof, cw_l g u_lo 12 lof, cw_k5 st (nI na) (nI nu) kd dp cl sa ln bt pn bf, cw_i g kd 60 kdf, cw_i g sa 60 saf, cw_l g bt 4000 btf] H locs := hZ.sub [5, 0, 1, 2, 6, 3, 4, 7] (by decide +kernel) rfl
        exact zz_lret hC hZ (⟨by refine Eq.symm ?_; rw [fn_co_shareOf]; refine (if_neg (by (try simp only [d_r35]); exact c4)).trans ?_; refine (if_neg (by (try simp only [d_r35]); exact ((show ¬ ((sof d) = nI 0) by rw [c26]; decide)))).trans ?_; refine (if_pos (by (try simp only [d_r35]); exact c26)).trans ?_; first | (simp only [d_r35]; done) | rfl, rfl⟩) (Nat.le_of_ble_eq_true rfl) (Nat.le_of_ble_eq_true rfl) dX5_shareOf_135
      · refine lv_tableIn (tgt := 136) (off := 64) hx hb dX5_shareOf_72 (by decide) (by decide) (by decide) (by decide) ?_
        refine lv_iload hx hb dX5_shareOf_136 (lv_at hl 3 rfl) ?_
        refine lv_lload hx hb dX5_shareOf_138 (lv_at hl 1 rfl) ?_
        refine zz_lS (As := [.int (kdf a), .long (btf (sz + pp))]) (wc := []) (wr := [cw_k4 ru st (nI nr) u_so u_ju u_we u_lo u_hi u_ta u_bo, cw_i g u_ju 12 juf, cw_i g u_so 12 sof, cw_l g u_lo 12 lof, cw_k5 st (nI na) (nI nu) kd dp cl sa ln bt pn bf, cw_i g kd 60 kdf, cw_i g sa 60 saf, cw_l g bt 4000 btf]) (rest := []) hC hZ hs hl zc_X5_89 (co_rank g (kdf a) (btf (sz + pp))) [] [0, 1, 2, 3, 4, 5, 6, 7] rfl rfl (by decide +kernel) rfl rfl (Nat.le_of_ble_eq_true rfl) ⟨⟨Nat.le_of_ble_eq_true rfl, Nat.le_of_ble_eq_true rfl⟩, Nat.le_of_ble_eq_true rfl, Nat.le_of_ble_eq_true rfl⟩ dX5_shareOf_140 (fun r38 u39 H locs hp hZ => ?_)
        obtain ⟨rfl, rfl⟩ := hp
        have hZ : zz_Z g A s.heap [cw_k4 ru st (nI nr) u_so u_ju u_we u_lo u_hi u_ta u_bo, cw_i g u_ju 12 juf, cw_i g u_so 12 sof, cw_l g u_lo 12 lof, cw_k5 st (nI na) (nI nu) kd dp cl sa ln bt pn bf, cw_i g kd 60 kdf, cw_i g sa 60 saf, cw_l g bt 4000 btf] H locs := hZ
        refine lv_iload hx hb dX5_shareOf_143 (lv_at hl 3 rfl) ?_
        refine lv_lload hx hb dX5_shareOf_145 (lv_at hl 0 rfl) ?_
        refine zz_lS (As := [.int (kdf a), .long (btf ((sz + pp) - 1))]) (wc := []) (wr := [cw_k4 ru st (nI nr) u_so u_ju u_we u_lo u_hi u_ta u_bo, cw_i g u_ju 12 juf, cw_i g u_so 12 sof, cw_l g u_lo 12 lof, cw_k5 st (nI na) (nI nu) kd dp cl sa ln bt pn bf, cw_i g kd 60 kdf, cw_i g sa 60 saf, cw_l g bt 4000 btf]) (rest := [.long (fn_co_rank (kdf a) (btf (sz + pp)))]) hC hZ hs hl zc_X5_89 (co_rank g (kdf a) (btf ((sz + pp) - 1))) [] [0, 1, 2, 3, 4, 5, 6, 7] rfl rfl (by decide +kernel) rfl rfl (Nat.le_of_ble_eq_true rfl) ⟨⟨Nat.le_of_ble_eq_true rfl, Nat.le_of_ble_eq_true rfl⟩, Nat.le_of_ble_eq_true rfl, Nat.le_of_ble_eq_true rfl⟩ dX5_shareOf_147 (fun r40 u41 H locs hp hZ => ?_)
        obtain ⟨rfl, rfl⟩ := hp
        have hZ : zz_Z g A s.heap [cw_k4 ru st (nI nr) u_so u_ju u_we u_lo u_hi u_ta u_bo, cw_i g u_ju 12 juf, cw_i g u_so 12 sof, cw_l g u_lo 12 lof, cw_k5 st (nI na) (nI nu) kd dp cl sa ln bt pn bf, cw_i g kd 60 kdf, cw_i g sa 60 saf, cw_l g bt 4000 btf] H locs := hZ
        refine zz_lcmp_ge (tgt := 158) hC dX5_shareOf_150 dX5_shareOf_151 (by decide) (fun c42 => ?_) (fun c42 => ?_)
        · refine lv_lconst (v := 0) hx hb dX5_shareOf_158 (by decide) ?_
          exact zz_lret hC hZ (⟨by show _ = _; rw [fn_co_shareOf]; rw [if_neg c4, if_neg (show ¬ ((sof d) = nI 0) by rw [c26]; decide), if_neg (show ¬ ((sof d) = nI 1) by rw [c26]; decide), if_pos c26, if_pos c42], rfl⟩) (Nat.le_of_ble_eq_true rfl) (Nat.le_of_ble_eq_true rfl) dX5_shareOf_159
        · refine lv_lconst (v := 1) hx hb dX5_shareOf_154 (by decide) ?_
          refine lv_goto (tgt := 159) hx hb dX5_shareOf_155 (by decide) ?_
          exact zz_lret hC hZ (⟨by show _ = _; rw [fn_co_shareOf]; rw [if_neg c4, if_neg (show ¬ ((sof d) = nI 0) by rw [c26]; decide), if_neg (show ¬ ((sof d) = nI 1) by rw [c26]; decide), if_pos c26, if_neg c42], rfl⟩) (Nat.le_of_ble_eq_true rfl) (Nat.le_of_ble_eq_true rfl) dX5_shareOf_159
      · refine lv_tableIn (tgt := 160) (off := 88) hx hb dX5_shareOf_72 (by decide) (by decide) (by decide) (by decide) ?_
        refine lv_lload hx hb dX5_shareOf_160 (lv_at hl 1 rfl) ?_
        refine lv_aload_n hx hb dX5_shareOf_162 rfl (lv_at hl 5 rfl) ?_
        refine zz_get hC hZ 0 rfl zf_X5_21 rfl dX5_shareOf_163 ?_
        refine lv_iload_n hx hb dX5_shareOf_166 rfl (lv_at hl 6 rfl) ?_
        refine zz_laldn hC hZ 3 rfl bd1 (by decide) dX5_shareOf_167 ?_
        refine zz_lcmp_ne (tgt := 176) hC dX5_shareOf_168 dX5_shareOf_169 (by decide) (fun c43 => ?_) (fun c43 => ?_)
        · refine lv_lconst (v := 0) hx hb dX5_shareOf_176 (by decide) ?_
          exact zz_lret hC hZ (⟨by show _ = _; rw [fn_co_shareOf]; rw [if_neg c4, if_neg (show ¬ ((sof d) = nI 0) by rw [c26]; decide), if_neg (show ¬ ((sof d) = nI 1) by rw [c26]; decide), if_neg (show ¬ ((sof d) = nI 2) by rw [c26]; decide), if_pos c26, if_neg c43], rfl⟩) (Nat.le_of_ble_eq_true rfl) (Nat.le_of_ble_eq_true rfl) dX5_shareOf_177
        · refine lv_lconst (v := 1) hx hb dX5_shareOf_172 (by decide) ?_
          refine lv_goto (tgt := 177) hx hb dX5_shareOf_173 (by decide) ?_
          exact zz_lret hC hZ (⟨by show _ = _; rw [fn_co_shareOf]; rw [if_neg c4, if_neg (show ¬ ((sof d) = nI 0) by rw [c26]; decide), if_neg (show ¬ ((sof d) = nI 1) by rw [c26]; decide), if_neg (show ¬ ((sof d) = nI 2) by rw [c26]; decide), if_pos c26, if_pos c43], rfl⟩) (Nat.le_of_ble_eq_true rfl) (Nat.le_of_ble_eq_true rfl) dX5_shareOf_177
      · refine lv_tableIn (tgt := 178) (off := 106) hx hb dX5_shareOf_72 (by decide) (by decide) (by decide) (by decide) ?_
        refine lv_lload hx hb dX5_shareOf_178 (lv_at hl 1 rfl) ?_
        refine lv_lload hx hb dX5_shareOf_180 (lv_at hl 0 rfl) ?_
        refine zz_lcmp_eq (tgt := 190) hC dX5_shareOf_182 dX5_shareOf_183 (by decide) (fun c44 => ?_) (fun c44 => ?_)
        · refine lv_lconst (v := 0) hx hb dX5_shareOf_190 (by decide) ?_
          exact zz_lret hC hZ (⟨by show _ = _; rw [fn_co_shareOf]; rw [if_neg c4, if_neg (show ¬ ((sof d) = nI 0) by rw [c26]; decide), if_neg (show ¬ ((sof d) = nI 1) by rw [c26]; decide), if_neg (show ¬ ((sof d) = nI 2) by rw [c26]; decide), if_neg (show ¬ ((sof d) = nI 3) by rw [c26]; decide), if_pos c26, if_pos c44], rfl⟩) (Nat.le_of_ble_eq_true rfl) (Nat.le_of_ble_eq_true rfl) dX5_shareOf_191
        · refine lv_lconst (v := 1) hx hb dX5_shareOf_186 (by decide) ?_
          refine lv_goto (tgt := 191) hx hb dX5_shareOf_187 (by decide) ?_
          exact zz_lret hC hZ (⟨by show _ = _; rw [fn_co_shareOf]; rw [if_neg c4, if_neg (show ¬ ((sof d) = nI 0) by rw [c26]; decide), if_neg (show ¬ ((sof d) = nI 1) by rw [c26]; decide), if_neg (show ¬ ((sof d) = nI 2) by rw [c26]; decide), if_neg (show ¬ ((sof d) = nI 3) by rw [c26]; decide), if_pos c26, if_neg c44], rfl⟩) (Nat.le_of_ble_eq_true rfl) (Nat.le_of_ble_eq_true rfl) dX5_shareOf_191
theorem dg_X5_bearingOf_0 : (decode cX5_bearingOf 0 = .ok (.aload_n 0, 1)) ∧ (decode cX5_bearingOf 1 = .ok (.getfield 15, 3)) ∧ (decode cX5_bearingOf 4 = .ok (.iload_n 1, 1)) ∧ (decode cX5_bearingOf 5 = .ok (.iaload, 1)) ∧ (decode cX5_bearingOf 6 = .ok (.istore_n 3, 1)) ∧ (decode cX5_bearingOf 7 = .ok (.aload_n 0, 1)) ∧ (decode cX5_bearingOf 8 = .ok (.getfield 34, 3)) ∧ (decode cX5_bearingOf 11 = .ok (.getfield 73, 3)) ∧ (decode cX5_bearingOf 14 = .ok (.iload_n 3, 1)) ∧ (decode cX5_bearingOf 15 = .ok (.iaload, 1)) ∧ (decode cX5_bearingOf 16 = .ok (.istore 4, 2)) ∧ (decode cX5_bearingOf 18 = .ok (.iload 4, 2)) ∧ (decode cX5_bearingOf 20 = .ok (.iload_n 2, 1)) ∧ (decode cX5_bearingOf 21 = .ok (.iadd, 1)) ∧ (decode cX5_bearingOf 22 = .ok (.iconst 1, 1)) ∧ (decode cX5_bearingOf 23 = .ok (.iadd, 1)) := by decide +kernel
theorem dX5_bearingOf_0 : decode cX5_bearingOf 0 = .ok (.aload_n 0, 1) := dg_X5_bearingOf_0.1
theorem dX5_bearingOf_1 : decode cX5_bearingOf 1 = .ok (.getfield 15, 3) := dg_X5_bearingOf_0.2.1
theorem dX5_bearingOf_4 : decode cX5_bearingOf 4 = .ok (.iload_n 1, 1) := dg_X5_bearingOf_0.2.2.1
theorem dX5_bearingOf_5 : decode cX5_bearingOf 5 = .ok (.iaload, 1) := dg_X5_bearingOf_0.2.2.2.1
theorem dX5_bearingOf_6 : decode cX5_bearingOf 6 = .ok (.istore_n 3, 1) := dg_X5_bearingOf_0.2.2.2.2.1
theorem dX5_bearingOf_7 : decode cX5_bearingOf 7 = .ok (.aload_n 0, 1) := dg_X5_bearingOf_0.2.2.2.2.2.1
theorem dX5_bearingOf_8 : decode cX5_bearingOf 8 = .ok (.getfield 34, 3) := dg_X5_bearingOf_0.2.2.2.2.2.2.1
theorem dX5_bearingOf_11 : decode cX5_bearingOf 11 = .ok (.getfield 73, 3) := dg_X5_bearingOf_0.2.2.2.2.2.2.2.1
theorem dX5_bearingOf_14 : decode cX5_bearingOf 14 = .ok (.iload_n 3, 1) := dg_X5_bearingOf_0.2.2.2.2.2.2.2.2.1
theorem dX5_bearingOf_15 : decode cX5_bearingOf 15 = .ok (.iaload, 1) := dg_X5_bearingOf_0.2.2.2.2.2.2.2.2.2.1
theorem dX5_bearingOf_16 : decode cX5_bearingOf 16 = .ok (.istore 4, 2) := dg_X5_bearingOf_0.2.2.2.2.2.2.2.2.2.2.1
theorem dX5_bearingOf_18 : decode cX5_bearingOf 18 = .ok (.iload 4, 2) := dg_X5_bearingOf_0.2.2.2.2.2.2.2.2.2.2.2.1
theorem dX5_bearingOf_20 : decode cX5_bearingOf 20 = .ok (.iload_n 2, 1) := dg_X5_bearingOf_0.2.2.2.2.2.2.2.2.2.2.2.2.1
theorem dX5_bearingOf_21 : decode cX5_bearingOf 21 = .ok (.iadd, 1) := dg_X5_bearingOf_0.2.2.2.2.2.2.2.2.2.2.2.2.2.1
theorem dX5_bearingOf_22 : decode cX5_bearingOf 22 = .ok (.iconst 1, 1) := dg_X5_bearingOf_0.2.2.2.2.2.2.2.2.2.2.2.2.2.2.1
theorem dX5_bearingOf_23 : decode cX5_bearingOf 23 = .ok (.iadd, 1) := dg_X5_bearingOf_0.2.2.2.2.2.2.2.2.2.2.2.2.2.2.2
theorem dg_X5_bearingOf_24 : (decode cX5_bearingOf 24 = .ok (.istore 5, 2)) ∧ (decode cX5_bearingOf 26 = .ok (.iload 4, 2)) ∧ (decode cX5_bearingOf 28 = .ok (.aload_n 0, 1)) ∧ (decode cX5_bearingOf 29 = .ok (.getfield 34, 3)) ∧ (decode cX5_bearingOf 32 = .ok (.getfield 56, 3)) ∧ (decode cX5_bearingOf 35 = .ok (.iload_n 3, 1)) ∧ (decode cX5_bearingOf 36 = .ok (.iaload, 1)) ∧ (decode cX5_bearingOf 37 = .ok (.iadd, 1)) ∧ (decode cX5_bearingOf 38 = .ok (.istore 6, 2)) ∧ (decode cX5_bearingOf 40 = .ok (.aload_n 0, 1)) ∧ (decode cX5_bearingOf 41 = .ok (.iload_n 1, 1)) ∧ (decode cX5_bearingOf 42 = .ok (.iload_n 2, 1)) ∧ (decode cX5_bearingOf 43 = .ok (.invokevirtual 61, 3)) ∧ (decode cX5_bearingOf 46 = .ok (.lstore 7, 2)) ∧ (decode cX5_bearingOf 48 = .ok (.aload_n 0, 1)) ∧ (decode cX5_bearingOf 49 = .ok (.getfield 9, 3)) := by decide +kernel
theorem dX5_bearingOf_24 : decode cX5_bearingOf 24 = .ok (.istore 5, 2) := dg_X5_bearingOf_24.1
theorem dX5_bearingOf_26 : decode cX5_bearingOf 26 = .ok (.iload 4, 2) := dg_X5_bearingOf_24.2.1
theorem dX5_bearingOf_28 : decode cX5_bearingOf 28 = .ok (.aload_n 0, 1) := dg_X5_bearingOf_24.2.2.1
theorem dX5_bearingOf_29 : decode cX5_bearingOf 29 = .ok (.getfield 34, 3) := dg_X5_bearingOf_24.2.2.2.1
theorem dX5_bearingOf_32 : decode cX5_bearingOf 32 = .ok (.getfield 56, 3) := dg_X5_bearingOf_24.2.2.2.2.1
theorem dX5_bearingOf_35 : decode cX5_bearingOf 35 = .ok (.iload_n 3, 1) := dg_X5_bearingOf_24.2.2.2.2.2.1
theorem dX5_bearingOf_36 : decode cX5_bearingOf 36 = .ok (.iaload, 1) := dg_X5_bearingOf_24.2.2.2.2.2.2.1
theorem dX5_bearingOf_37 : decode cX5_bearingOf 37 = .ok (.iadd, 1) := dg_X5_bearingOf_24.2.2.2.2.2.2.2.1
theorem dX5_bearingOf_38 : decode cX5_bearingOf 38 = .ok (.istore 6, 2) := dg_X5_bearingOf_24.2.2.2.2.2.2.2.2.1
theorem dX5_bearingOf_40 : decode cX5_bearingOf 40 = .ok (.aload_n 0, 1) := dg_X5_bearingOf_24.2.2.2.2.2.2.2.2.2.1
theorem dX5_bearingOf_41 : decode cX5_bearingOf 41 = .ok (.iload_n 1, 1) := dg_X5_bearingOf_24.2.2.2.2.2.2.2.2.2.2.1
theorem dX5_bearingOf_42 : decode cX5_bearingOf 42 = .ok (.iload_n 2, 1) := dg_X5_bearingOf_24.2.2.2.2.2.2.2.2.2.2.2.1
theorem dX5_bearingOf_43 : decode cX5_bearingOf 43 = .ok (.invokevirtual 61, 3) := dg_X5_bearingOf_24.2.2.2.2.2.2.2.2.2.2.2.2.1
theorem dX5_bearingOf_46 : decode cX5_bearingOf 46 = .ok (.lstore 7, 2) := dg_X5_bearingOf_24.2.2.2.2.2.2.2.2.2.2.2.2.2.1
theorem dX5_bearingOf_48 : decode cX5_bearingOf 48 = .ok (.aload_n 0, 1) := dg_X5_bearingOf_24.2.2.2.2.2.2.2.2.2.2.2.2.2.2.1
theorem dX5_bearingOf_49 : decode cX5_bearingOf 49 = .ok (.getfield 9, 3) := dg_X5_bearingOf_24.2.2.2.2.2.2.2.2.2.2.2.2.2.2.2
theorem dg_X5_bearingOf_52 : (decode cX5_bearingOf 52 = .ok (.iload_n 1, 1)) ∧ (decode cX5_bearingOf 53 = .ok (.iaload, 1)) ∧ (decode cX5_bearingOf 54 = .ok (.tableswitch 117 1 5 #[34, 67, 117, 67, 91], 34)) ∧ (decode cX5_bearingOf 88 = .ok (.lload 7, 2)) ∧ (decode cX5_bearingOf 90 = .ok (.aload_n 0, 1)) ∧ (decode cX5_bearingOf 91 = .ok (.aload_n 0, 1)) ∧ (decode cX5_bearingOf 92 = .ok (.getfield 34, 3)) ∧ (decode cX5_bearingOf 95 = .ok (.getfield 70, 3)) ∧ (decode cX5_bearingOf 98 = .ok (.iload_n 3, 1)) ∧ (decode cX5_bearingOf 99 = .ok (.iaload, 1)) ∧ (decode cX5_bearingOf 100 = .ok (.aload_n 0, 1)) ∧ (decode cX5_bearingOf 101 = .ok (.getfield 34, 3)) ∧ (decode cX5_bearingOf 104 = .ok (.getfield 76, 3)) ∧ (decode cX5_bearingOf 107 = .ok (.iload 4, 2)) ∧ (decode cX5_bearingOf 109 = .ok (.iload_n 2, 1)) ∧ (decode cX5_bearingOf 110 = .ok (.iadd, 1)) := by decide +kernel
theorem dX5_bearingOf_52 : decode cX5_bearingOf 52 = .ok (.iload_n 1, 1) := dg_X5_bearingOf_52.1
theorem dX5_bearingOf_53 : decode cX5_bearingOf 53 = .ok (.iaload, 1) := dg_X5_bearingOf_52.2.1
theorem dX5_bearingOf_54 : decode cX5_bearingOf 54 = .ok (.tableswitch 117 1 5 #[34, 67, 117, 67, 91], 34) := dg_X5_bearingOf_52.2.2.1
theorem dX5_bearingOf_88 : decode cX5_bearingOf 88 = .ok (.lload 7, 2) := dg_X5_bearingOf_52.2.2.2.1
theorem dX5_bearingOf_90 : decode cX5_bearingOf 90 = .ok (.aload_n 0, 1) := dg_X5_bearingOf_52.2.2.2.2.1
theorem dX5_bearingOf_91 : decode cX5_bearingOf 91 = .ok (.aload_n 0, 1) := dg_X5_bearingOf_52.2.2.2.2.2.1
theorem dX5_bearingOf_92 : decode cX5_bearingOf 92 = .ok (.getfield 34, 3) := dg_X5_bearingOf_52.2.2.2.2.2.2.1
theorem dX5_bearingOf_95 : decode cX5_bearingOf 95 = .ok (.getfield 70, 3) := dg_X5_bearingOf_52.2.2.2.2.2.2.2.1
theorem dX5_bearingOf_98 : decode cX5_bearingOf 98 = .ok (.iload_n 3, 1) := dg_X5_bearingOf_52.2.2.2.2.2.2.2.2.1
theorem dX5_bearingOf_99 : decode cX5_bearingOf 99 = .ok (.iaload, 1) := dg_X5_bearingOf_52.2.2.2.2.2.2.2.2.2.1
theorem dX5_bearingOf_100 : decode cX5_bearingOf 100 = .ok (.aload_n 0, 1) := dg_X5_bearingOf_52.2.2.2.2.2.2.2.2.2.2.1
theorem dX5_bearingOf_101 : decode cX5_bearingOf 101 = .ok (.getfield 34, 3) := dg_X5_bearingOf_52.2.2.2.2.2.2.2.2.2.2.2.1
theorem dX5_bearingOf_104 : decode cX5_bearingOf 104 = .ok (.getfield 76, 3) := dg_X5_bearingOf_52.2.2.2.2.2.2.2.2.2.2.2.2.1
theorem dX5_bearingOf_107 : decode cX5_bearingOf 107 = .ok (.iload 4, 2) := dg_X5_bearingOf_52.2.2.2.2.2.2.2.2.2.2.2.2.2.1
theorem dX5_bearingOf_109 : decode cX5_bearingOf 109 = .ok (.iload_n 2, 1) := dg_X5_bearingOf_52.2.2.2.2.2.2.2.2.2.2.2.2.2.2.1
theorem dX5_bearingOf_110 : decode cX5_bearingOf 110 = .ok (.iadd, 1) := dg_X5_bearingOf_52.2.2.2.2.2.2.2.2.2.2.2.2.2.2.2
theorem dg_X5_bearingOf_111 : (decode cX5_bearingOf 111 = .ok (.laload, 1)) ∧ (decode cX5_bearingOf 112 = .ok (.iload 5, 2)) ∧ (decode cX5_bearingOf 114 = .ok (.iload 6, 2)) ∧ (decode cX5_bearingOf 116 = .ok (.invokevirtual 85, 3)) ∧ (decode cX5_bearingOf 119 = .ok (.ladd, 1)) ∧ (decode cX5_bearingOf 120 = .ok (.lreturn, 1)) ∧ (decode cX5_bearingOf 121 = .ok (.iload 5, 2)) ∧ (decode cX5_bearingOf 123 = .ok (.iload 6, 2)) ∧ (decode cX5_bearingOf 125 = .ok (.if_icmp .ge 17, 3)) ∧ (decode cX5_bearingOf 128 = .ok (.lload 7, 2)) ∧ (decode cX5_bearingOf 130 = .ok (.aload_n 0, 1)) ∧ (decode cX5_bearingOf 131 = .ok (.iload_n 1, 1)) ∧ (decode cX5_bearingOf 132 = .ok (.iload_n 2, 1)) ∧ (decode cX5_bearingOf 133 = .ok (.iconst 1, 1)) ∧ (decode cX5_bearingOf 134 = .ok (.iadd, 1)) ∧ (decode cX5_bearingOf 135 = .ok (.invokevirtual 61, 3)) := by decide +kernel
theorem dX5_bearingOf_111 : decode cX5_bearingOf 111 = .ok (.laload, 1) := dg_X5_bearingOf_111.1
theorem dX5_bearingOf_112 : decode cX5_bearingOf 112 = .ok (.iload 5, 2) := dg_X5_bearingOf_111.2.1
theorem dX5_bearingOf_114 : decode cX5_bearingOf 114 = .ok (.iload 6, 2) := dg_X5_bearingOf_111.2.2.1
theorem dX5_bearingOf_116 : decode cX5_bearingOf 116 = .ok (.invokevirtual 85, 3) := dg_X5_bearingOf_111.2.2.2.1
theorem dX5_bearingOf_119 : decode cX5_bearingOf 119 = .ok (.ladd, 1) := dg_X5_bearingOf_111.2.2.2.2.1
theorem dX5_bearingOf_120 : decode cX5_bearingOf 120 = .ok (.lreturn, 1) := dg_X5_bearingOf_111.2.2.2.2.2.1
theorem dX5_bearingOf_121 : decode cX5_bearingOf 121 = .ok (.iload 5, 2) := dg_X5_bearingOf_111.2.2.2.2.2.2.1
theorem dX5_bearingOf_123 : decode cX5_bearingOf 123 = .ok (.iload 6, 2) := dg_X5_bearingOf_111.2.2.2.2.2.2.2.1
theorem dX5_bearingOf_125 : decode cX5_bearingOf 125 = .ok (.if_icmp .ge 17, 3) := dg_X5_bearingOf_111.2.2.2.2.2.2.2.2.1
theorem dX5_bearingOf_128 : decode cX5_bearingOf 128 = .ok (.lload 7, 2) := dg_X5_bearingOf_111.2.2.2.2.2.2.2.2.2.1
theorem dX5_bearingOf_130 : decode cX5_bearingOf 130 = .ok (.aload_n 0, 1) := dg_X5_bearingOf_111.2.2.2.2.2.2.2.2.2.2.1
theorem dX5_bearingOf_131 : decode cX5_bearingOf 131 = .ok (.iload_n 1, 1) := dg_X5_bearingOf_111.2.2.2.2.2.2.2.2.2.2.2.1
theorem dX5_bearingOf_132 : decode cX5_bearingOf 132 = .ok (.iload_n 2, 1) := dg_X5_bearingOf_111.2.2.2.2.2.2.2.2.2.2.2.2.1
theorem dX5_bearingOf_133 : decode cX5_bearingOf 133 = .ok (.iconst 1, 1) := dg_X5_bearingOf_111.2.2.2.2.2.2.2.2.2.2.2.2.2.1
theorem dX5_bearingOf_134 : decode cX5_bearingOf 134 = .ok (.iadd, 1) := dg_X5_bearingOf_111.2.2.2.2.2.2.2.2.2.2.2.2.2.2.1
theorem dX5_bearingOf_135 : decode cX5_bearingOf 135 = .ok (.invokevirtual 61, 3) := dg_X5_bearingOf_111.2.2.2.2.2.2.2.2.2.2.2.2.2.2.2
theorem dg_X5_bearingOf_138 : (decode cX5_bearingOf 138 = .ok (.ladd, 1)) ∧ (decode cX5_bearingOf 139 = .ok (.goto 5, 3)) ∧ (decode cX5_bearingOf 142 = .ok (.lload 7, 2)) ∧ (decode cX5_bearingOf 144 = .ok (.lreturn, 1)) ∧ (decode cX5_bearingOf 145 = .ok (.iload 5, 2)) ∧ (decode cX5_bearingOf 147 = .ok (.iload 6, 2)) ∧ (decode cX5_bearingOf 149 = .ok (.if_icmp .ge 19, 3)) ∧ (decode cX5_bearingOf 152 = .ok (.lload 7, 2)) ∧ (decode cX5_bearingOf 154 = .ok (.aload_n 0, 1)) ∧ (decode cX5_bearingOf 155 = .ok (.iload_n 1, 1)) ∧ (decode cX5_bearingOf 156 = .ok (.iload_n 2, 1)) ∧ (decode cX5_bearingOf 157 = .ok (.iconst 1, 1)) ∧ (decode cX5_bearingOf 158 = .ok (.iadd, 1)) ∧ (decode cX5_bearingOf 159 = .ok (.invokevirtual 61, 3)) ∧ (decode cX5_bearingOf 162 = .ok (.invokestatic 65, 3)) ∧ (decode cX5_bearingOf 165 = .ok (.goto 5, 3)) := by decide +kernel
theorem dX5_bearingOf_138 : decode cX5_bearingOf 138 = .ok (.ladd, 1) := dg_X5_bearingOf_138.1
theorem dX5_bearingOf_139 : decode cX5_bearingOf 139 = .ok (.goto 5, 3) := dg_X5_bearingOf_138.2.1
theorem dX5_bearingOf_142 : decode cX5_bearingOf 142 = .ok (.lload 7, 2) := dg_X5_bearingOf_138.2.2.1
theorem dX5_bearingOf_144 : decode cX5_bearingOf 144 = .ok (.lreturn, 1) := dg_X5_bearingOf_138.2.2.2.1
theorem dX5_bearingOf_145 : decode cX5_bearingOf 145 = .ok (.iload 5, 2) := dg_X5_bearingOf_138.2.2.2.2.1
theorem dX5_bearingOf_147 : decode cX5_bearingOf 147 = .ok (.iload 6, 2) := dg_X5_bearingOf_138.2.2.2.2.2.1
theorem dX5_bearingOf_149 : decode cX5_bearingOf 149 = .ok (.if_icmp .ge 19, 3) := dg_X5_bearingOf_138.2.2.2.2.2.2.1
theorem dX5_bearingOf_152 : decode cX5_bearingOf 152 = .ok (.lload 7, 2) := dg_X5_bearingOf_138.2.2.2.2.2.2.2.1
theorem dX5_bearingOf_154 : decode cX5_bearingOf 154 = .ok (.aload_n 0, 1) := dg_X5_bearingOf_138.2.2.2.2.2.2.2.2.1
theorem dX5_bearingOf_155 : decode cX5_bearingOf 155 = .ok (.iload_n 1, 1) := dg_X5_bearingOf_138.2.2.2.2.2.2.2.2.2.1
theorem dX5_bearingOf_156 : decode cX5_bearingOf 156 = .ok (.iload_n 2, 1) := dg_X5_bearingOf_138.2.2.2.2.2.2.2.2.2.2.1
theorem dX5_bearingOf_157 : decode cX5_bearingOf 157 = .ok (.iconst 1, 1) := dg_X5_bearingOf_138.2.2.2.2.2.2.2.2.2.2.2.1
theorem dX5_bearingOf_158 : decode cX5_bearingOf 158 = .ok (.iadd, 1) := dg_X5_bearingOf_138.2.2.2.2.2.2.2.2.2.2.2.2.1
theorem dX5_bearingOf_159 : decode cX5_bearingOf 159 = .ok (.invokevirtual 61, 3) := dg_X5_bearingOf_138.2.2.2.2.2.2.2.2.2.2.2.2.2.1
theorem dX5_bearingOf_162 : decode cX5_bearingOf 162 = .ok (.invokestatic 65, 3) := dg_X5_bearingOf_138.2.2.2.2.2.2.2.2.2.2.2.2.2.2.1
theorem dX5_bearingOf_165 : decode cX5_bearingOf 165 = .ok (.goto 5, 3) := dg_X5_bearingOf_138.2.2.2.2.2.2.2.2.2.2.2.2.2.2.2
theorem dg_X5_bearingOf_168 : (decode cX5_bearingOf 168 = .ok (.lload 7, 2)) ∧ (decode cX5_bearingOf 170 = .ok (.lreturn, 1)) ∧ (decode cX5_bearingOf 171 = .ok (.lload 7, 2)) ∧ (decode cX5_bearingOf 173 = .ok (.lreturn, 1)) := by decide +kernel
theorem dX5_bearingOf_168 : decode cX5_bearingOf 168 = .ok (.lload 7, 2) := dg_X5_bearingOf_168.1
theorem dX5_bearingOf_170 : decode cX5_bearingOf 170 = .ok (.lreturn, 1) := dg_X5_bearingOf_168.2.1
theorem dX5_bearingOf_171 : decode cX5_bearingOf 171 = .ok (.lload 7, 2) := dg_X5_bearingOf_168.2.2.1
theorem dX5_bearingOf_173 : decode cX5_bearingOf 173 = .ok (.lreturn, 1) := dg_X5_bearingOf_168.2.2.2
theorem zk_52 : Cond.fieldLink RX5 56 RX6 "length" "[I" ∈ zz_w := zz_in (List.mem_append_right _ (List.mem_append_left _ (List.mem_of_getElem? (i := 52) (by decide +kernel)))) rfl
theorem zf_X5_56 : zz_f RX5 56 5 6 := ⟨RX6, TX6, 10, rfl, zi_X6, by decide, zk_52⟩
theorem zk_616 : Cond.methodLink RX5 61 yX5_shareOf ∈ zz_w := zz_in (List.mem_append_right _ (List.mem_append_right _ (List.mem_append_right _ (List.mem_append_left _ (List.mem_of_getElem? (i := 136) (by decide +kernel)))))) rfl
set_option maxRecDepth 20000 in
theorem zk_619 : Cond.code yX5_shareOf cX5_shareOf 10 (some .long) ∈ zz_w := zz_in (List.mem_append_right _ (List.mem_append_right _ (List.mem_append_right _ (List.mem_append_left _ (List.mem_of_getElem? (i := 139) (rfl)))))) rfl
theorem zk_618 : Cond.instanceMethod yX5_shareOf ∈ zz_w := zz_in (List.mem_append_right _ (List.mem_append_right _ (List.mem_append_right _ (List.mem_append_left _ (List.mem_of_getElem? (i := 138) (by decide +kernel)))))) rfl
theorem zs_13 : Cond.selects RX5 yX5_shareOf yX5_shareOf ∈ zz_w := zz_in (List.mem_append_left _ (List.mem_of_getElem? (i := 13) (by decide +kernel))) rfl
theorem zc_X5_61 : zz_cV RX5 61 yX5_shareOf cX5_shareOf 10 (some .long) 2 := ⟨⟨zk_616, zk_619, zk_6, by decide, by decide, by decide +kernel⟩, zk_618, zs_13⟩
theorem zk_641 : Cond.methodLink RX5 65 Lib.MathLoose.max_long.x ∈ zz_w := zz_in (List.mem_append_right _ (List.mem_append_right _ (List.mem_append_right _ (List.mem_append_left _ (List.mem_of_getElem? (i := 161) (by decide +kernel)))))) rfl
theorem zk_642 : Cond.static Lib.MathLoose.max_long.x ∈ zz_w := zz_in (List.mem_append_right _ (List.mem_append_right _ (List.mem_append_right _ (List.mem_append_left _ (List.mem_of_getElem? (i := 162) (by decide +kernel)))))) rfl
theorem zk_10 : Cond.initialized "java/lang/Math" ∈ zz_w := zz_in (List.mem_append_right _ (List.mem_append_left _ (List.mem_of_getElem? (i := 10) (by decide +kernel)))) rfl
set_option maxRecDepth 20000 in
theorem zk_643 : Cond.code Lib.MathLoose.max_long.x Lib.MathLoose.max_long.code 4 (some .long) ∈ zz_w := zz_in (List.mem_append_right _ (List.mem_append_right _ (List.mem_append_right _ (List.mem_append_left _ (List.mem_of_getElem? (i := 163) (rfl)))))) rfl
def fn_co_bearingOf (sof : Nat → Int32) (lof : Nat → Int64) (kdf : Nat → Int32) (btf : Nat → Int64) (d : Nat) (a : Nat) (sz : Nat) (lz : Nat) (pp : Nat) : Int64 := (if (sof d) = nI 0 then (fn_co_shareOf sof lof kdf btf d a sz pp) else (if (sof d) = nI 1 then (fn_co_shareOf sof lof kdf btf d a sz pp) + (sp_ali (kdf a) (btf (sz + pp)) btf ((sz + lz) - ((sz + pp) + 1)) ((sz + pp) + 1) 0) else (if (sof d) = nI 2 then (if (nI (sz + lz)) ≤ (nI ((sz + pp) + 1)) then (fn_co_shareOf sof lof kdf btf d a sz pp) else (fn_co_shareOf sof lof kdf btf d a sz pp) + (fn_co_shareOf sof lof kdf btf d a sz (pp + 1))) else (if (sof d) = nI 3 then (fn_co_shareOf sof lof kdf btf d a sz pp) else (if (sof d) = nI 4 then (if (nI (sz + lz)) ≤ (nI ((sz + pp) + 1)) then (fn_co_shareOf sof lof kdf btf d a sz pp) else (fn_co_shareOf sof lof kdf btf d a sz pp) + (fn_co_shareOf sof lof kdf btf d a sz (pp + 1))) else (if (sof d) = nI 5 then (if (nI (sz + lz)) ≤ (nI ((sz + pp) + 1)) then (fn_co_shareOf sof lof kdf btf d a sz pp) else if (fn_co_shareOf sof lof kdf btf d a sz (pp + 1)) < (fn_co_shareOf sof lof kdf btf d a sz pp) then (fn_co_shareOf sof lof kdf btf d a sz pp) else (fn_co_shareOf sof lof kdf btf d a sz (pp + 1))) else (fn_co_shareOf sof lof kdf btf d a sz pp)))))))
abbrev rm_co_bearingOf : Room := { frames := 3, cells := 0, slots := 0, locals := 81 }
abbrev po_co_bearingOf (g : zz_G) (ru : Nat) (st : Nat) (u_so : Nat) (u_ju : Nat) (u_we : Nat) (u_lo : Nat) (u_hi : Nat) (u_ta : Nat) (u_bo : Nat) (kd : Nat) (dp : Nat) (cl : Nat) (sa : Nat) (ln : Nat) (bt : Nat) (pn : Nat) (bf : Nat) (nr : Nat) (na : Nat) (nu : Nat) (juf : Nat → Int32) (sof : Nat → Int32) (lof : Nat → Int64) (kdf : Nat → Int32) (saf : Nat → Int32) (lnf : Nat → Int32) (btf : Nat → Int64) (d : Nat) (a : Nat) (sz : Nat) (lz : Nat) (pp : Nat) (h_r : d < 12 ∧ a < 60 ∧ sz + lz ≤ 4000 ∧ lz ≤ 200 ∧ pp < lz) (e_j : juf d = nI a) (e_s : saf a = nI sz) (e_l : lnf a = nI lz) : Int64 → va_W → Prop := fun (r : Int64) (u : va_W) => r = fn_co_bearingOf sof lof kdf btf d a sz lz pp ∧ u = [cw_k4 ru st (nI nr) u_so u_ju u_we u_lo u_hi u_ta u_bo, cw_i g u_ju 12 juf, cw_i g u_so 12 sof, cw_l g u_lo 12 lof, cw_k5 st (nI na) (nI nu) kd dp cl sa ln bt pn bf, cw_i g kd 60 kdf, cw_i g sa 60 saf, cw_i g ln 60 lnf, cw_l g bt 4000 btf]
set_option maxHeartbeats 4000000 in
set_option maxRecDepth 100000 in
theorem co_bearingOf (g : zz_G) (ru : Nat) (st : Nat) (u_so : Nat) (u_ju : Nat) (u_we : Nat) (u_lo : Nat) (u_hi : Nat) (u_ta : Nat) (u_bo : Nat) (kd : Nat) (dp : Nat) (cl : Nat) (sa : Nat) (ln : Nat) (bt : Nat) (pn : Nat) (bf : Nat) (nr : Nat) (na : Nat) (nu : Nat) (juf : Nat → Int32) (sof : Nat → Int32) (lof : Nat → Int64) (kdf : Nat → Int32) (saf : Nat → Int32) (lnf : Nat → Int32) (btf : Nat → Int64) (d : Nat) (a : Nat) (sz : Nat) (lz : Nat) (pp : Nat) (h_r : d < 12 ∧ a < 60 ∧ sz + lz ≤ 4000 ∧ lz ≤ 200 ∧ pp < lz) (e_j : juf d = nI a) (e_s : saf a = nI sz) (e_l : lnf a = nI lz) : zz_L g yX5_bearingOf (.code yX5_bearingOf cX5_bearingOf 9 (some .long)) rm_co_bearingOf [.ref ru, .int (nI d), .int (nI pp)] [cw_k4 ru st (nI nr) u_so u_ju u_we u_lo u_hi u_ta u_bo, cw_i g u_ju 12 juf, cw_i g u_so 12 sof, cw_l g u_lo 12 lof, cw_k5 st (nI na) (nI nu) kd dp cl sa ln bt pn bf, cw_i g kd 60 kdf, cw_i g sa 60 saf, cw_i g ln 60 lnf, cw_l g bt 4000 btf] (po_co_bearingOf g ru st u_so u_ju u_we u_lo u_hi u_ta u_bo kd dp cl sa ln bt pn bf nr na nu juf sof lof kdf saf lnf btf d a sz lz pp h_r e_j e_s e_l) := by
  refine zz_L.intro (own := RX5) (cc := cX5_bearingOf) (nL := 9) (by decide) rfl (Nat.le_of_ble_eq_true rfl) ?_
  intro p l e s m args below meth c A H locs ls hC hnm hs hZ hl
  obtain ⟨hx, hb, hml, hown, hts, hr, hlocks, hK⟩ := id hC
  have hl : lv_has ls 9 [(0, .ref ru), (1, .int (nI d)), (2, .int (nI pp))] := hl
  have hZ : zz_Z g A s.heap [cw_k4 ru st (nI nr) u_so u_ju u_we u_lo u_hi u_ta u_bo, cw_i g u_ju 12 juf, cw_i g u_so 12 sof, cw_l g u_lo 12 lof, cw_k5 st (nI na) (nI nu) kd dp cl sa ln bt pn bf, cw_i g kd 60 kdf, cw_i g sa 60 saf, cw_i g ln 60 lnf, cw_l g bt 4000 btf] H locs := hZ
  refine lv_aload_n hx hb dX5_bearingOf_0 rfl (lv_at hl 0 rfl) ?_
  refine zz_get hC hZ 0 rfl zf_X5_15 rfl dX5_bearingOf_1 ?_
  refine lv_iload_n hx hb dX5_bearingOf_4 rfl (lv_at hl 1 rfl) ?_
  have bd1 : d < 12 := by omega
  refine zz_ialdn hC hZ 1 rfl bd1 (by decide) dX5_bearingOf_5 ?_
  refine zz_topi (v := nI a) (e_j) ?_
  refine lv_istore_n (lv' := [(3, .int (nI a)), (0, .ref ru), (1, .int (nI d)), (2, .int (nI pp))]) hx hb dX5_bearingOf_6 rfl hl (by decide) rfl (fun ls hl => ?_)
  refine lv_aload_n hx hb dX5_bearingOf_7 rfl (lv_at hl 1 rfl) ?_
  refine zz_get hC hZ 0 rfl zf_X5_34 rfl dX5_bearingOf_8 ?_
  refine zz_get hC hZ 4 rfl zf_X5_73 rfl dX5_bearingOf_11 ?_
  refine lv_iload_n hx hb dX5_bearingOf_14 rfl (lv_at hl 0 rfl) ?_
  have bd2 : a < 60 := by omega
  refine zz_ialdn hC hZ 6 rfl bd2 (by decide) dX5_bearingOf_15 ?_
  refine zz_topi (v := nI sz) (e_s) ?_
  refine lv_istore (lv' := [(4, .int (nI sz)), (3, .int (nI a)), (0, .ref ru), (1, .int (nI d)), (2, .int (nI pp))]) hx hb dX5_bearingOf_16 hl (by decide) rfl (fun ls hl => ?_)
  refine lv_iload hx hb dX5_bearingOf_18 (lv_at hl 0 rfl) ?_
  refine lv_iload_n hx hb dX5_bearingOf_20 rfl (lv_at hl 4 rfl) ?_
  refine lv_iadd hx hb dX5_bearingOf_21 ?_
  refine zz_topi (v := nI (sz + pp)) (nI_add _ _) ?_
  refine lv_iconst (v := 1) hx hb dX5_bearingOf_22 (by decide) ?_
  refine lv_iadd hx hb dX5_bearingOf_23 ?_
  refine zz_topi (v := nI ((sz + pp) + 1)) (nI_1 _) ?_
  refine lv_istore (lv' := [(5, .int (nI ((sz + pp) + 1))), (4, .int (nI sz)), (3, .int (nI a)), (0, .ref ru), (1, .int (nI d)), (2, .int (nI pp))]) hx hb dX5_bearingOf_24 hl (by decide) rfl (fun ls hl => ?_)
  refine lv_iload hx hb dX5_bearingOf_26 (lv_at hl 1 rfl) ?_
  refine lv_aload_n hx hb dX5_bearingOf_28 rfl (lv_at hl 3 rfl) ?_
  refine zz_get hC hZ 0 rfl zf_X5_34 rfl dX5_bearingOf_29 ?_
  refine zz_get hC hZ 4 rfl zf_X5_56 rfl dX5_bearingOf_32 ?_
  refine lv_iload_n hx hb dX5_bearingOf_35 rfl (lv_at hl 2 rfl) ?_
  refine zz_ialdn hC hZ 7 rfl bd2 (by decide) dX5_bearingOf_36 ?_
  refine zz_topi (v := nI lz) (e_l) ?_
  refine lv_iadd hx hb dX5_bearingOf_37 ?_
  refine zz_topi (v := nI (sz + lz)) (nI_add _ _) ?_
  refine lv_istore (lv' := [(6, .int (nI (sz + lz))), (5, .int (nI ((sz + pp) + 1))), (4, .int (nI sz)), (3, .int (nI a)), (0, .ref ru), (1, .int (nI d)), (2, .int (nI pp))]) hx hb dX5_bearingOf_38 hl (by decide) rfl (fun ls hl => ?_)
  refine lv_aload_n hx hb dX5_bearingOf_40 rfl (lv_at hl 4 rfl) ?_
  refine lv_iload_n hx hb dX5_bearingOf_41 rfl (lv_at hl 5 rfl) ?_
  refine lv_iload_n hx hb dX5_bearingOf_42 rfl (lv_at hl 6 rfl) ?_
  refine zz_lV (As := [.int (nI d), .int (nI pp)]) (wc := [cw_k4 ru st (nI nr) u_so u_ju u_we u_lo u_hi u_ta u_bo, cw_i g u_ju 12 juf, cw_i g u_so 12 sof, cw_l g u_lo 12 lof, cw_k5 st (nI na) (nI nu) kd dp cl sa ln bt pn bf, cw_i g kd 60 kdf, cw_i g sa 60 saf, cw_l g bt 4000 btf]) (wr := [cw_i g ln 60 lnf]) (rest := []) hC hZ hs hl zc_X5_61 (co_shareOf g ru st u_so u_ju u_we u_lo u_hi u_ta u_bo kd dp cl sa ln bt pn bf nr na nu juf sof lof kdf saf btf d a sz lz pp (by omega) (e_j) (e_s)) [0, 1, 2, 3, 4, 5, 6, 8] [7] rfl rfl (by decide +kernel) (ci := 4) (q0 := 0) rfl rfl rfl rfl (Nat.le_of_ble_eq_true rfl) ⟨⟨Nat.le_of_ble_eq_true rfl, Nat.le_of_ble_eq_true rfl⟩, Nat.le_of_ble_eq_true rfl, Nat.le_of_ble_eq_true rfl⟩ dX5_bearingOf_43 (fun r3 u4 H locs hp hZ => ?_)
  obtain ⟨rfl, rfl⟩ := hp
  have hZ : zz_Z g A s.heap [cw_i g ln 60 lnf, cw_k4 ru st (nI nr) u_so u_ju u_we u_lo u_hi u_ta u_bo, cw_i g u_ju 12 juf, cw_i g u_so 12 sof, cw_l g u_lo 12 lof, cw_k5 st (nI na) (nI nu) kd dp cl sa ln bt pn bf, cw_i g kd 60 kdf, cw_i g sa 60 saf, cw_l g bt 4000 btf] H locs := hZ
  refine lv_lstore (lv' := [(7, .long (fn_co_shareOf sof lof kdf btf d a sz pp)), (6, .int (nI (sz + lz))), (5, .int (nI ((sz + pp) + 1))), (4, .int (nI sz)), (3, .int (nI a)), (0, .ref ru), (1, .int (nI d)), (2, .int (nI pp))]) hx hb dX5_bearingOf_46 hl (by decide) rfl (fun ls hl => ?_)
  refine lv_aload_n hx hb dX5_bearingOf_48 rfl (lv_at hl 5 rfl) ?_
  refine zz_get hC hZ 1 rfl zf_X5_9 rfl dX5_bearingOf_49 ?_
  refine lv_iload_n hx hb dX5_bearingOf_52 rfl (lv_at hl 6 rfl) ?_
  refine zz_ialdn hC hZ 3 rfl bd1 (by decide) dX5_bearingOf_53 ?_
  rcases zz_sw (sof d) 6 (by decide) with c5 | ⟨k_, hk_, c5⟩
  · refine lv_tableOut (tgt := 171) hx hb dX5_bearingOf_54 (by rcases c5 with q | q; exact Or.inl (by omega); exact Or.inr (by omega)) (by decide) ?_
    refine lv_lload hx hb dX5_bearingOf_171 (lv_at hl 0 rfl) ?_
    have hZ : zz_Z g A s.heap [cw_k4 ru st (nI nr) u_so u_ju u_we u_lo u_hi u_ta u_bo, cw_i g u_ju 12 juf, cw_i g u_so 12 sof, cw_l g u_lo 12 lof, cw_k5 st (nI na) (nI nu) kd dp cl sa ln bt pn bf, cw_i g kd 60 kdf, cw_i g sa 60 saf, cw_i g ln 60 lnf, cw_l g bt 4000 btf] H locs := hZ.sub [1, 2, 3, 4, 5, 6, 7, 0, 8] (by decide +kernel) rfl
    exact zz_lret hC hZ (⟨by show _ = _; rw [fn_co_bearingOf]; rw [if_neg (zl_swo c5 0 (by decide) (by decide)), if_neg (zl_swo c5 1 (by decide) (by decide)), if_neg (zl_swo c5 2 (by decide) (by decide)), if_neg (zl_swo c5 3 (by decide) (by decide)), if_neg (zl_swo c5 4 (by decide) (by decide)), if_neg (zl_swo c5 5 (by decide) (by decide))], rfl⟩) (Nat.le_of_ble_eq_true rfl) (Nat.le_of_ble_eq_true rfl) dX5_bearingOf_173
  · refine zz_topi c5 ?_
    rcases (show k_ = 0 ∨ k_ = 1 ∨ k_ = 2 ∨ k_ = 3 ∨ k_ = 4 ∨ k_ = 5 by omega) with rfl | rfl | rfl | rfl | rfl | rfl
    · refine lv_tableOut (tgt := 171) hx hb dX5_bearingOf_54 (by first | exact Or.inl (by decide) | exact Or.inr (by decide)) (by decide) ?_
      refine lv_lload hx hb dX5_bearingOf_171 (lv_at hl 0 rfl) ?_
      have hZ : zz_Z g A s.heap [cw_k4 ru st (nI nr) u_so u_ju u_we u_lo u_hi u_ta u_bo, cw_i g u_ju 12 juf, cw_i g u_so 12 sof, cw_l g u_lo 12 lof, cw_k5 st (nI na) (nI nu) kd dp cl sa ln bt pn bf, cw_i g kd 60 kdf, cw_i g sa 60 saf, cw_i g ln 60 lnf, cw_l g bt 4000 btf] H locs := hZ.sub [1, 2, 3, 4, 5, 6, 7, 0, 8] (by decide +kernel) rfl
      exact zz_lret hC hZ (⟨by show _ = _; rw [fn_co_bearingOf]; rw [if_pos c5], rfl⟩) (Nat.le_of_ble_eq_true rfl) (Nat.le_of_ble_eq_true rfl) dX5_bearingOf_173
    · refine lv_tableIn (tgt := 88) (off := 34) hx hb dX5_bearingOf_54 (by decide) (by decide) (by decide) (by decide) ?_
      refine lv_lload hx hb dX5_bearingOf_88 (lv_at hl 0 rfl) ?_
      refine lv_aload_n hx hb dX5_bearingOf_90 rfl (lv_at hl 5 rfl) ?_
      refine lv_aload_n hx hb dX5_bearingOf_91 rfl (lv_at hl 5 rfl) ?_
      refine zz_get hC hZ 1 rfl zf_X5_34 rfl dX5_bearingOf_92 ?_
      refine zz_get hC hZ 5 rfl zf_X5_70 rfl dX5_bearingOf_95 ?_
      refine lv_iload_n hx hb dX5_bearingOf_98 rfl (lv_at hl 4 rfl) ?_
      refine zz_ialdn hC hZ 6 rfl bd2 (by decide) dX5_bearingOf_99 ?_
      refine lv_aload_n hx hb dX5_bearingOf_100 rfl (lv_at hl 5 rfl) ?_
      refine zz_get hC hZ 1 rfl zf_X5_34 rfl dX5_bearingOf_101 ?_
      refine zz_get hC hZ 5 rfl zf_X5_76 rfl dX5_bearingOf_104 ?_
      refine lv_iload hx hb dX5_bearingOf_107 (lv_at hl 3 rfl) ?_
      refine lv_iload_n hx hb dX5_bearingOf_109 rfl (lv_at hl 7 rfl) ?_
      refine lv_iadd hx hb dX5_bearingOf_110 ?_
      refine zz_topi (v := nI (sz + pp)) (nI_add _ _) ?_
      have bd6 : (sz + pp) < 4000 := by omega
      refine zz_laldn hC hZ 8 rfl bd6 (by decide) dX5_bearingOf_111 ?_
      refine lv_iload hx hb dX5_bearingOf_112 (lv_at hl 2 rfl) ?_
      refine lv_iload hx hb dX5_bearingOf_114 (lv_at hl 1 rfl) ?_
      refine zz_lV (As := [.int (kdf a), .long (btf (sz + pp)), .int (nI ((sz + pp) + 1)), .int (nI (sz + lz))]) (wc := [cw_k4 ru st (nI nr) u_so u_ju u_we u_lo u_hi u_ta u_bo, cw_k5 st (nI na) (nI nu) kd dp cl sa ln bt pn bf, cw_l g bt 4000 btf]) (wr := [cw_i g ln 60 lnf, cw_i g u_ju 12 juf, cw_i g u_so 12 sof, cw_l g u_lo 12 lof, cw_i g kd 60 kdf, cw_i g sa 60 saf]) (rest := [.long (fn_co_shareOf sof lof kdf btf d a sz pp)]) hC hZ hs hl zc_X5_85 (co_alikeIn g ru st u_so u_ju u_we u_lo u_hi u_ta u_bo kd dp cl sa ln bt pn bf nr na nu btf (kdf a) (btf (sz + pp)) ((sz + pp) + 1) (sz + lz) (by omega)) [1, 5, 8] [0, 2, 3, 4, 6, 7] rfl rfl (by decide +kernel) (ci := 4) (q0 := 0) rfl rfl rfl rfl (Nat.le_of_ble_eq_true rfl) ⟨⟨Nat.le_of_ble_eq_true rfl, Nat.le_of_ble_eq_true rfl⟩, Nat.le_of_ble_eq_true rfl, Nat.le_of_ble_eq_true rfl⟩ dX5_bearingOf_116 (fun r7 u8 H locs hp hZ => ?_)
      obtain ⟨f9, rfl⟩ := hp
      have hZ : zz_Z g A s.heap [cw_i g ln 60 lnf, cw_i g u_ju 12 juf, cw_i g u_so 12 sof, cw_l g u_lo 12 lof, cw_i g kd 60 kdf, cw_i g sa 60 saf, cw_k4 ru st (nI nr) u_so u_ju u_we u_lo u_hi u_ta u_bo, cw_k5 st (nI na) (nI nu) kd dp cl sa ln bt pn bf, cw_l g bt 4000 btf] H locs := hZ
      have d_r7 : sp_ali (kdf a) (btf (sz + pp)) btf ((sz + lz) - ((sz + pp) + 1)) ((sz + pp) + 1) 0 = r7 := f9.symm
      refine lv_ladd hx hb dX5_bearingOf_119 ?_
      have hZ : zz_Z g A s.heap [cw_k4 ru st (nI nr) u_so u_ju u_we u_lo u_hi u_ta u_bo, cw_i g u_ju 12 juf, cw_i g u_so 12 sof, cw_l g u_lo 12 lof, cw_k5 st (nI na) (nI nu) kd dp cl sa ln bt pn bf, cw_i g kd 60 kdf, cw_i g sa 60 saf, cw_i g ln 60 lnf, cw_l g bt 4000 btf] H locs := hZ.sub [6, 1, 2, 3, 7, 4, 5, 0, 8] (by decide +kernel) rfl
      exact zz_lret hC hZ (⟨by refine Eq.symm ?_; rw [fn_co_bearingOf]; refine (if_neg (by (try simp only [d_r7]); exact ((show ¬ ((sof d) = nI 0) by rw [c5]; decide)))).trans ?_; refine (if_pos (by (try simp only [d_r7]); exact c5)).trans ?_; first | (simp only [d_r7]; done) | rfl, rfl⟩) (Nat.le_of_ble_eq_true rfl) (Nat.le_of_ble_eq_true rfl) dX5_bearingOf_120
    · refine lv_tableIn (tgt := 121) (off := 67) hx hb dX5_bearingOf_54 (by decide) (by decide) (by decide) (by decide) ?_
      refine lv_iload hx hb dX5_bearingOf_121 (lv_at hl 2 rfl) ?_
      refine lv_iload hx hb dX5_bearingOf_123 (lv_at hl 1 rfl) ?_
      have bd11 : (sz + lz) < 2 ^ 31 := by omega
      have bd12 : ((sz + pp) + 1) < 2 ^ 31 := by omega
      refine lv_icmp_ge (tgt := 142) hx hb dX5_bearingOf_125 (by decide) (fun c10 => ?_) (fun c10 => ?_)
      · have nc10 : (sz + lz) ≤ ((sz + pp) + 1) := (nI_leI bd11 bd12).mp (show nI ((sz + lz)) ≤ nI (((sz + pp) + 1)) from c10)
        refine lv_lload hx hb dX5_bearingOf_142 (lv_at hl 0 rfl) ?_
        have hZ : zz_Z g A s.heap [cw_k4 ru st (nI nr) u_so u_ju u_we u_lo u_hi u_ta u_bo, cw_i g u_ju 12 juf, cw_i g u_so 12 sof, cw_l g u_lo 12 lof, cw_k5 st (nI na) (nI nu) kd dp cl sa ln bt pn bf, cw_i g kd 60 kdf, cw_i g sa 60 saf, cw_i g ln 60 lnf, cw_l g bt 4000 btf] H locs := hZ.sub [1, 2, 3, 4, 5, 6, 7, 0, 8] (by decide +kernel) rfl
        exact zz_lret hC hZ (⟨by show _ = _; rw [fn_co_bearingOf]; rw [if_neg (show ¬ ((sof d) = nI 0) by rw [c5]; decide), if_neg (show ¬ ((sof d) = nI 1) by rw [c5]; decide), if_pos c5, if_pos c10], rfl⟩) (Nat.le_of_ble_eq_true rfl) (Nat.le_of_ble_eq_true rfl) dX5_bearingOf_144
      · have nc10 : ¬ (sz + lz) ≤ ((sz + pp) + 1) := fun zq => c10 (show nI ((sz + lz)) ≤ nI (((sz + pp) + 1)) from (nI_leI bd11 bd12).mpr zq)
        refine lv_lload hx hb dX5_bearingOf_128 (lv_at hl 0 rfl) ?_
        refine lv_aload_n hx hb dX5_bearingOf_130 rfl (lv_at hl 5 rfl) ?_
        refine lv_iload_n hx hb dX5_bearingOf_131 rfl (lv_at hl 6 rfl) ?_
        refine lv_iload_n hx hb dX5_bearingOf_132 rfl (lv_at hl 7 rfl) ?_
        refine lv_iconst (v := 1) hx hb dX5_bearingOf_133 (by decide) ?_
        refine lv_iadd hx hb dX5_bearingOf_134 ?_
        refine zz_topi (v := nI (pp + 1)) (nI_1 _) ?_
        refine zz_lV (As := [.int (nI d), .int (nI (pp + 1))]) (wc := [cw_k4 ru st (nI nr) u_so u_ju u_we u_lo u_hi u_ta u_bo, cw_i g u_ju 12 juf, cw_i g u_so 12 sof, cw_l g u_lo 12 lof, cw_k5 st (nI na) (nI nu) kd dp cl sa ln bt pn bf, cw_i g kd 60 kdf, cw_i g sa 60 saf, cw_l g bt 4000 btf]) (wr := [cw_i g ln 60 lnf]) (rest := [.long (fn_co_shareOf sof lof kdf btf d a sz pp)]) hC hZ hs hl zc_X5_61 (co_shareOf g ru st u_so u_ju u_we u_lo u_hi u_ta u_bo kd dp cl sa ln bt pn bf nr na nu juf sof lof kdf saf btf d a sz lz (pp + 1) (by omega) (e_j) (e_s)) [1, 2, 3, 4, 5, 6, 7, 8] [0] rfl rfl (by decide +kernel) (ci := 4) (q0 := 0) rfl rfl rfl rfl (Nat.le_of_ble_eq_true rfl) ⟨⟨Nat.le_of_ble_eq_true rfl, Nat.le_of_ble_eq_true rfl⟩, Nat.le_of_ble_eq_true rfl, Nat.le_of_ble_eq_true rfl⟩ dX5_bearingOf_135 (fun r13 u14 H locs hp hZ => ?_)
        obtain ⟨rfl, rfl⟩ := hp
        have hZ : zz_Z g A s.heap [cw_i g ln 60 lnf, cw_k4 ru st (nI nr) u_so u_ju u_we u_lo u_hi u_ta u_bo, cw_i g u_ju 12 juf, cw_i g u_so 12 sof, cw_l g u_lo 12 lof, cw_k5 st (nI na) (nI nu) kd dp cl sa ln bt pn bf, cw_i g kd 60 kdf, cw_i g sa 60 saf, cw_l g bt 4000 btf] H locs := hZ
        refine lv_ladd hx hb dX5_bearingOf_138 ?_
        refine lv_goto (tgt := 144) hx hb dX5_bearingOf_139 (by decide) ?_
        have hZ : zz_Z g A s.heap [cw_k4 ru st (nI nr) u_so u_ju u_we u_lo u_hi u_ta u_bo, cw_i g u_ju 12 juf, cw_i g u_so 12 sof, cw_l g u_lo 12 lof, cw_k5 st (nI na) (nI nu) kd dp cl sa ln bt pn bf, cw_i g kd 60 kdf, cw_i g sa 60 saf, cw_i g ln 60 lnf, cw_l g bt 4000 btf] H locs := hZ.sub [1, 2, 3, 4, 5, 6, 7, 0, 8] (by decide +kernel) rfl
        exact zz_lret hC hZ (⟨by show _ = _; rw [fn_co_bearingOf]; rw [if_neg (show ¬ ((sof d) = nI 0) by rw [c5]; decide), if_neg (show ¬ ((sof d) = nI 1) by rw [c5]; decide), if_pos c5, if_neg c10], rfl⟩) (Nat.le_of_ble_eq_true rfl) (Nat.le_of_ble_eq_true rfl) dX5_bearingOf_144
    · refine lv_tableIn (tgt := 171) (off := 117) hx hb dX5_bearingOf_54 (by decide) (by decide) (by decide) (by decide) ?_
      refine lv_lload hx hb dX5_bearingOf_171 (lv_at hl 0 rfl) ?_
      have hZ : zz_Z g A s.heap [cw_k4 ru st (nI nr) u_so u_ju u_we u_lo u_hi u_ta u_bo, cw_i g u_ju 12 juf, cw_i g u_so 12 sof, cw_l g u_lo 12 lof, cw_k5 st (nI na) (nI nu) kd dp cl sa ln bt pn bf, cw_i g kd 60 kdf, cw_i g sa 60 saf, cw_i g ln 60 lnf, cw_l g bt 4000 btf] H locs := hZ.sub [1, 2, 3, 4, 5, 6, 7, 0, 8] (by decide +kernel) rfl
      exact zz_lret hC hZ (⟨by show _ = _; rw [fn_co_bearingOf]; rw [if_neg (show ¬ ((sof d) = nI 0) by rw [c5]; decide), if_neg (show ¬ ((sof d) = nI 1) by rw [c5]; decide), if_neg (show ¬ ((sof d) = nI 2) by rw [c5]; decide), if_pos c5], rfl⟩) (Nat.le_of_ble_eq_true rfl) (Nat.le_of_ble_eq_true rfl) dX5_bearingOf_173
    · refine lv_tableIn (tgt := 121) (off := 67) hx hb dX5_bearingOf_54 (by decide) (by decide) (by decide) (by decide) ?_
      refine lv_iload hx hb dX5_bearingOf_121 (lv_at hl 2 rfl) ?_
      refine lv_iload hx hb dX5_bearingOf_123 (lv_at hl 1 rfl) ?_
      have bd16 : (sz + lz) < 2 ^ 31 := by omega
      have bd17 : ((sz + pp) + 1) < 2 ^ 31 := by omega
      refine lv_icmp_ge (tgt := 142) hx hb dX5_bearingOf_125 (by decide) (fun c15 => ?_) (fun c15 => ?_)
      · have nc15 : (sz + lz) ≤ ((sz + pp) + 1) := (nI_leI bd16 bd17).mp (show nI ((sz + lz)) ≤ nI (((sz + pp) + 1)) from c15)
        refine lv_lload hx hb dX5_bearingOf_142 (lv_at hl 0 rfl) ?_
        have hZ : zz_Z g A s.heap [cw_k4 ru st (nI nr) u_so u_ju u_we u_lo u_hi u_ta u_bo, cw_i g u_ju 12 juf, cw_i g u_so 12 sof, cw_l g u_lo 12 lof, cw_k5 st (nI na) (nI nu) kd dp cl sa ln bt pn bf, cw_i g kd 60 kdf, cw_i g sa 60 saf, cw_i g ln 60 lnf, cw_l g bt 4000 btf] H locs := hZ.sub [1, 2, 3, 4, 5, 6, 7, 0, 8] (by decide +kernel) rfl
        exact zz_lret hC hZ (⟨by show _ = _; rw [fn_co_bearingOf]; rw [if_neg (show ¬ ((sof d) = nI 0) by rw [c5]; decide), if_neg (show ¬ ((sof d) = nI 1) by rw [c5]; decide), if_neg (show ¬ ((sof d) = nI 2) by rw [c5]; decide), if_neg (show ¬ ((sof d) = nI 3) by rw [c5]; decide), if_pos c5, if_pos c15], rfl⟩) (Nat.le_of_ble_eq_true rfl) (Nat.le_of_ble_eq_true rfl) dX5_bearingOf_144
      · have nc15 : ¬ (sz + lz) ≤ ((sz + pp) + 1) := fun zq => c15 (show nI ((sz + lz)) ≤ nI (((sz + pp) + 1)) from (nI_leI bd16 bd17).mpr zq)
        refine lv_lload hx hb dX5_bearingOf_128 (lv_at hl 0 rfl) ?_
        refine lv_aload_n hx hb dX5_bearingOf_130 rfl (lv_at hl 5 rfl) ?_
        refine lv_iload_n hx hb dX5_bearingOf_131 rfl (lv_at hl 6 rfl) ?_
        refine lv_iload_n hx hb dX5_bearingOf_132 rfl (lv_at hl 7 rfl) ?_
        refine lv_iconst (v := 1) hx hb dX5_bearingOf_133 (by decide) ?_
        refine lv_iadd hx hb dX5_bearingOf_134 ?_
        refine zz_topi (v := nI (pp + 1)) (nI_1 _) ?_
        refine zz_lV (As := [.int (nI d), .int (nI (pp + 1))]) (wc := [cw_k4 ru st (nI nr) u_so u_ju u_we u_lo u_hi u_ta u_bo, cw_i g u_ju 12 juf, cw_i g u_so 12 sof, cw_l g u_lo 12 lof, cw_k5 st (nI na) (nI nu) kd dp cl sa ln bt pn bf, cw_i g kd 60 kdf, cw_i g sa 60 saf, cw_l g bt 4000 btf]) (wr := [cw_i g ln 60 lnf]) (rest := [.long (fn_co_shareOf sof lof kdf btf d a sz pp)]) hC hZ hs hl zc_X5_61 (co_shareOf g ru st u_so u_ju u_we u_lo u_hi u_ta u_bo kd dp cl sa ln bt pn bf nr na nu juf sof lof kdf saf btf d a sz lz (pp + 1) (by omega) (e_j) (e_s)) [1, 2, 3, 4, 5, 6, 7, 8] [0] rfl rfl (by decide +kernel) (ci := 4) (q0 := 0) rfl rfl rfl rfl (Nat.le_of_ble_eq_true rfl) ⟨⟨Nat.le_of_ble_eq_true rfl, Nat.le_of_ble_eq_true rfl⟩, Nat.le_of_ble_eq_true rfl, Nat.le_of_ble_eq_true rfl⟩ dX5_bearingOf_135 (fun r18 u19 H locs hp hZ => ?_)
        obtain ⟨rfl, rfl⟩ := hp
        have hZ : zz_Z g A s.heap [cw_i g ln 60 lnf, cw_k4 ru st (nI nr) u_so u_ju u_we u_lo u_hi u_ta u_bo, cw_i g u_ju 12 juf, cw_i g u_so 12 sof, cw_l g u_lo 12 lof, cw_k5 st (nI na) (nI nu) kd dp cl sa ln bt pn bf, cw_i g kd 60 kdf, cw_i g sa 60 saf, cw_l g bt 4000 btf] H locs := hZ
        refine lv_ladd hx hb dX5_bearingOf_138 ?_
        refine lv_goto (tgt := 144) hx hb dX5_bearingOf_139 (by decide) ?_
        have hZ : zz_Z g A s.heap [cw_k4 ru st (nI nr) u_so u_ju u_we u_lo u_hi u_ta u_bo, cw_i g u_ju 12 juf, cw_i g u_so 12 sof, cw_l g u_lo 12 lof, cw_k5 st (nI na) (nI nu) kd dp cl sa ln bt pn bf, cw_i g kd 60 kdf, cw_i g sa 60 saf, cw_i g ln 60 lnf, cw_l g bt 4000 btf] H locs := hZ.sub [1, 2, 3, 4, 5, 6, 7, 0, 8] (by decide +kernel) rfl
        exact zz_lret hC hZ (⟨by show _ = _; rw [fn_co_bearingOf]; rw [if_neg (show ¬ ((sof d) = nI 0) by rw [c5]; decide), if_neg (show ¬ ((sof d) = nI 1) by rw [c5]; decide), if_neg (show ¬ ((sof d) = nI 2) by rw [c5]; decide), if_neg (show ¬ ((sof d) = nI 3) by rw [c5]; decide), if_pos c5, if_neg c15], rfl⟩) (Nat.le_of_ble_eq_true rfl) (Nat.le_of_ble_eq_true rfl) dX5_bearingOf_144
    · refine lv_tableIn (tgt := 145) (off := 91) hx hb dX5_bearingOf_54 (by decide) (by decide) (by decide) (by decide) ?_
      refine lv_iload hx hb dX5_bearingOf_145 (lv_at hl 2 rfl) ?_
      refine lv_iload hx hb dX5_bearingOf_147 (lv_at hl 1 rfl) ?_
      have bd21 : (sz + lz) < 2 ^ 31 := by omega
      have bd22 : ((sz + pp) + 1) < 2 ^ 31 := by omega
      refine lv_icmp_ge (tgt := 168) hx hb dX5_bearingOf_149 (by decide) (fun c20 => ?_) (fun c20 => ?_)
      · have nc20 : (sz + lz) ≤ ((sz + pp) + 1) := (nI_leI bd21 bd22).mp (show nI ((sz + lz)) ≤ nI (((sz + pp) + 1)) from c20)
        refine lv_lload hx hb dX5_bearingOf_168 (lv_at hl 0 rfl) ?_
        have hZ : zz_Z g A s.heap [cw_k4 ru st (nI nr) u_so u_ju u_we u_lo u_hi u_ta u_bo, cw_i g u_ju 12 juf, cw_i g u_so 12 sof, cw_l g u_lo 12 lof, cw_k5 st (nI na) (nI nu) kd dp cl sa ln bt pn bf, cw_i g kd 60 kdf, cw_i g sa 60 saf, cw_i g ln 60 lnf, cw_l g bt 4000 btf] H locs := hZ.sub [1, 2, 3, 4, 5, 6, 7, 0, 8] (by decide +kernel) rfl
        exact zz_lret hC hZ (⟨by show _ = _; rw [fn_co_bearingOf]; rw [if_neg (show ¬ ((sof d) = nI 0) by rw [c5]; decide), if_neg (show ¬ ((sof d) = nI 1) by rw [c5]; decide), if_neg (show ¬ ((sof d) = nI 2) by rw [c5]; decide), if_neg (show ¬ ((sof d) = nI 3) by rw [c5]; decide), if_neg (show ¬ ((sof d) = nI 4) by rw [c5]; decide), if_pos c5, if_pos c20], rfl⟩) (Nat.le_of_ble_eq_true rfl) (Nat.le_of_ble_eq_true rfl) dX5_bearingOf_170
      · have nc20 : ¬ (sz + lz) ≤ ((sz + pp) + 1) := fun zq => c20 (show nI ((sz + lz)) ≤ nI (((sz + pp) + 1)) from (nI_leI bd21 bd22).mpr zq)
        refine lv_lload hx hb dX5_bearingOf_152 (lv_at hl 0 rfl) ?_
        refine lv_aload_n hx hb dX5_bearingOf_154 rfl (lv_at hl 5 rfl) ?_
        refine lv_iload_n hx hb dX5_bearingOf_155 rfl (lv_at hl 6 rfl) ?_
        refine lv_iload_n hx hb dX5_bearingOf_156 rfl (lv_at hl 7 rfl) ?_
        refine lv_iconst (v := 1) hx hb dX5_bearingOf_157 (by decide) ?_
        refine lv_iadd hx hb dX5_bearingOf_158 ?_
        refine zz_topi (v := nI (pp + 1)) (nI_1 _) ?_
        refine zz_lV (As := [.int (nI d), .int (nI (pp + 1))]) (wc := [cw_k4 ru st (nI nr) u_so u_ju u_we u_lo u_hi u_ta u_bo, cw_i g u_ju 12 juf, cw_i g u_so 12 sof, cw_l g u_lo 12 lof, cw_k5 st (nI na) (nI nu) kd dp cl sa ln bt pn bf, cw_i g kd 60 kdf, cw_i g sa 60 saf, cw_l g bt 4000 btf]) (wr := [cw_i g ln 60 lnf]) (rest := [.long (fn_co_shareOf sof lof kdf btf d a sz pp)]) hC hZ hs hl zc_X5_61 (co_shareOf g ru st u_so u_ju u_we u_lo u_hi u_ta u_bo kd dp cl sa ln bt pn bf nr na nu juf sof lof kdf saf btf d a sz lz (pp + 1) (by omega) (e_j) (e_s)) [1, 2, 3, 4, 5, 6, 7, 8] [0] rfl rfl (by decide +kernel) (ci := 4) (q0 := 0) rfl rfl rfl rfl (Nat.le_of_ble_eq_true rfl) ⟨⟨Nat.le_of_ble_eq_true rfl, Nat.le_of_ble_eq_true rfl⟩, Nat.le_of_ble_eq_true rfl, Nat.le_of_ble_eq_true rfl⟩ dX5_bearingOf_159 (fun r23 u24 H locs hp hZ => ?_)
        obtain ⟨rfl, rfl⟩ := hp
        have hZ : zz_Z g A s.heap [cw_i g ln 60 lnf, cw_k4 ru st (nI nr) u_so u_ju u_we u_lo u_hi u_ta u_bo, cw_i g u_ju 12 juf, cw_i g u_so 12 sof, cw_l g u_lo 12 lof, cw_k5 st (nI na) (nI nu) kd dp cl sa ln bt pn bf, cw_i g kd 60 kdf, cw_i g sa 60 saf, cw_l g bt 4000 btf] H locs := hZ
        refine va_mmax_long hx hb (hml.trans hl.1.symm) hown (hts _ zk_641) (hts _ zk_642) (hts _ zk_10) (hts _ zk_643) (Nat.le_of_ble_eq_true rfl) (Nat.le_of_ble_eq_true rfl) (Nat.le_of_ble_eq_true rfl) (Nat.le_of_ble_eq_true rfl) dX5_bearingOf_162 ?_
        refine lv_goto (tgt := 170) hx hb dX5_bearingOf_165 (by decide) ?_
        have hZ : zz_Z g A s.heap [cw_k4 ru st (nI nr) u_so u_ju u_we u_lo u_hi u_ta u_bo, cw_i g u_ju 12 juf, cw_i g u_so 12 sof, cw_l g u_lo 12 lof, cw_k5 st (nI na) (nI nu) kd dp cl sa ln bt pn bf, cw_i g kd 60 kdf, cw_i g sa 60 saf, cw_i g ln 60 lnf, cw_l g bt 4000 btf] H locs := hZ.sub [1, 2, 3, 4, 5, 6, 7, 0, 8] (by decide +kernel) rfl
        exact zz_lret hC hZ (⟨by show _ = _; rw [fn_co_bearingOf]; rw [if_neg (show ¬ ((sof d) = nI 0) by rw [c5]; decide), if_neg (show ¬ ((sof d) = nI 1) by rw [c5]; decide), if_neg (show ¬ ((sof d) = nI 2) by rw [c5]; decide), if_neg (show ¬ ((sof d) = nI 3) by rw [c5]; decide), if_neg (show ¬ ((sof d) = nI 4) by rw [c5]; decide), if_pos c5, if_neg c20], rfl⟩) (Nat.le_of_ble_eq_true rfl) (Nat.le_of_ble_eq_true rfl) dX5_bearingOf_170
/-- a rule's tally -/
def sp_me (so : Nat → Int32) (lo : Nat → Int64) (kd : Nat → Int32) (bt : Nat → Int64) (d a sz : Nat) : Nat → Nat → Int64 → Int64
  | 0, _, w => w
  | m + 1, i, w => sp_me so lo kd bt d a sz m (i + 1) (if so d = 5 then (if (fn_co_shareOf so lo kd bt d a sz i) < w then w else (fn_co_shareOf so lo kd bt d a sz i)) else w + (fn_co_shareOf so lo kd bt d a sz i))
theorem dg_X5_measure_0 : (decode cX5_measure 0 = .ok (.lconst 0, 1)) ∧ (decode cX5_measure 1 = .ok (.lstore_n 2, 1)) ∧ (decode cX5_measure 2 = .ok (.iconst 0, 1)) ∧ (decode cX5_measure 3 = .ok (.istore 4, 2)) ∧ (decode cX5_measure 5 = .ok (.iload 4, 2)) ∧ (decode cX5_measure 7 = .ok (.aload_n 0, 1)) ∧ (decode cX5_measure 8 = .ok (.getfield 34, 3)) ∧ (decode cX5_measure 11 = .ok (.getfield 56, 3)) ∧ (decode cX5_measure 14 = .ok (.aload_n 0, 1)) ∧ (decode cX5_measure 15 = .ok (.getfield 15, 3)) ∧ (decode cX5_measure 18 = .ok (.iload_n 1, 1)) ∧ (decode cX5_measure 19 = .ok (.iaload, 1)) ∧ (decode cX5_measure 20 = .ok (.iaload, 1)) ∧ (decode cX5_measure 21 = .ok (.if_icmp .ge 42, 3)) ∧ (decode cX5_measure 24 = .ok (.aload_n 0, 1)) ∧ (decode cX5_measure 25 = .ok (.iload_n 1, 1)) := by decide +kernel
theorem dX5_measure_0 : decode cX5_measure 0 = .ok (.lconst 0, 1) := dg_X5_measure_0.1
theorem dX5_measure_1 : decode cX5_measure 1 = .ok (.lstore_n 2, 1) := dg_X5_measure_0.2.1
theorem dX5_measure_2 : decode cX5_measure 2 = .ok (.iconst 0, 1) := dg_X5_measure_0.2.2.1
theorem dX5_measure_3 : decode cX5_measure 3 = .ok (.istore 4, 2) := dg_X5_measure_0.2.2.2.1
theorem dX5_measure_5 : decode cX5_measure 5 = .ok (.iload 4, 2) := dg_X5_measure_0.2.2.2.2.1
theorem dX5_measure_7 : decode cX5_measure 7 = .ok (.aload_n 0, 1) := dg_X5_measure_0.2.2.2.2.2.1
theorem dX5_measure_8 : decode cX5_measure 8 = .ok (.getfield 34, 3) := dg_X5_measure_0.2.2.2.2.2.2.1
theorem dX5_measure_11 : decode cX5_measure 11 = .ok (.getfield 56, 3) := dg_X5_measure_0.2.2.2.2.2.2.2.1
theorem dX5_measure_14 : decode cX5_measure 14 = .ok (.aload_n 0, 1) := dg_X5_measure_0.2.2.2.2.2.2.2.2.1
theorem dX5_measure_15 : decode cX5_measure 15 = .ok (.getfield 15, 3) := dg_X5_measure_0.2.2.2.2.2.2.2.2.2.1
theorem dX5_measure_18 : decode cX5_measure 18 = .ok (.iload_n 1, 1) := dg_X5_measure_0.2.2.2.2.2.2.2.2.2.2.1
theorem dX5_measure_19 : decode cX5_measure 19 = .ok (.iaload, 1) := dg_X5_measure_0.2.2.2.2.2.2.2.2.2.2.2.1
theorem dX5_measure_20 : decode cX5_measure 20 = .ok (.iaload, 1) := dg_X5_measure_0.2.2.2.2.2.2.2.2.2.2.2.2.1
theorem dX5_measure_21 : decode cX5_measure 21 = .ok (.if_icmp .ge 42, 3) := dg_X5_measure_0.2.2.2.2.2.2.2.2.2.2.2.2.2.1
theorem dX5_measure_24 : decode cX5_measure 24 = .ok (.aload_n 0, 1) := dg_X5_measure_0.2.2.2.2.2.2.2.2.2.2.2.2.2.2.1
theorem dX5_measure_25 : decode cX5_measure 25 = .ok (.iload_n 1, 1) := dg_X5_measure_0.2.2.2.2.2.2.2.2.2.2.2.2.2.2.2
theorem dg_X5_measure_26 : (decode cX5_measure 26 = .ok (.iload 4, 2)) ∧ (decode cX5_measure 28 = .ok (.invokevirtual 61, 3)) ∧ (decode cX5_measure 31 = .ok (.lstore 5, 2)) ∧ (decode cX5_measure 33 = .ok (.aload_n 0, 1)) ∧ (decode cX5_measure 34 = .ok (.getfield 9, 3)) ∧ (decode cX5_measure 37 = .ok (.iload_n 1, 1)) ∧ (decode cX5_measure 38 = .ok (.iaload, 1)) ∧ (decode cX5_measure 39 = .ok (.iconst 5, 1)) ∧ (decode cX5_measure 40 = .ok (.if_icmp .ne 12, 3)) ∧ (decode cX5_measure 43 = .ok (.lload_n 2, 1)) ∧ (decode cX5_measure 44 = .ok (.lload 5, 2)) ∧ (decode cX5_measure 46 = .ok (.invokestatic 65, 3)) ∧ (decode cX5_measure 49 = .ok (.goto 7, 3)) ∧ (decode cX5_measure 52 = .ok (.lload_n 2, 1)) ∧ (decode cX5_measure 53 = .ok (.lload 5, 2)) ∧ (decode cX5_measure 55 = .ok (.ladd, 1)) := by decide +kernel
theorem dX5_measure_26 : decode cX5_measure 26 = .ok (.iload 4, 2) := dg_X5_measure_26.1
theorem dX5_measure_28 : decode cX5_measure 28 = .ok (.invokevirtual 61, 3) := dg_X5_measure_26.2.1
theorem dX5_measure_31 : decode cX5_measure 31 = .ok (.lstore 5, 2) := dg_X5_measure_26.2.2.1
theorem dX5_measure_33 : decode cX5_measure 33 = .ok (.aload_n 0, 1) := dg_X5_measure_26.2.2.2.1
theorem dX5_measure_34 : decode cX5_measure 34 = .ok (.getfield 9, 3) := dg_X5_measure_26.2.2.2.2.1
theorem dX5_measure_37 : decode cX5_measure 37 = .ok (.iload_n 1, 1) := dg_X5_measure_26.2.2.2.2.2.1
theorem dX5_measure_38 : decode cX5_measure 38 = .ok (.iaload, 1) := dg_X5_measure_26.2.2.2.2.2.2.1
theorem dX5_measure_39 : decode cX5_measure 39 = .ok (.iconst 5, 1) := dg_X5_measure_26.2.2.2.2.2.2.2.1
theorem dX5_measure_40 : decode cX5_measure 40 = .ok (.if_icmp .ne 12, 3) := dg_X5_measure_26.2.2.2.2.2.2.2.2.1
theorem dX5_measure_43 : decode cX5_measure 43 = .ok (.lload_n 2, 1) := dg_X5_measure_26.2.2.2.2.2.2.2.2.2.1
theorem dX5_measure_44 : decode cX5_measure 44 = .ok (.lload 5, 2) := dg_X5_measure_26.2.2.2.2.2.2.2.2.2.2.1
theorem dX5_measure_46 : decode cX5_measure 46 = .ok (.invokestatic 65, 3) := dg_X5_measure_26.2.2.2.2.2.2.2.2.2.2.2.1
theorem dX5_measure_49 : decode cX5_measure 49 = .ok (.goto 7, 3) := dg_X5_measure_26.2.2.2.2.2.2.2.2.2.2.2.2.1
theorem dX5_measure_52 : decode cX5_measure 52 = .ok (.lload_n 2, 1) := dg_X5_measure_26.2.2.2.2.2.2.2.2.2.2.2.2.2.1
theorem dX5_measure_53 : decode cX5_measure 53 = .ok (.lload 5, 2) := dg_X5_measure_26.2.2.2.2.2.2.2.2.2.2.2.2.2.2.1
theorem dX5_measure_55 : decode cX5_measure 55 = .ok (.ladd, 1) := dg_X5_measure_26.2.2.2.2.2.2.2.2.2.2.2.2.2.2.2
theorem dg_X5_measure_56 : (decode cX5_measure 56 = .ok (.lstore_n 2, 1)) ∧ (decode cX5_measure 57 = .ok (.iinc 4 1, 3)) ∧ (decode cX5_measure 60 = .ok (.goto (-55), 3)) ∧ (decode cX5_measure 63 = .ok (.aload_n 0, 1)) ∧ (decode cX5_measure 64 = .ok (.getfield 28, 3)) ∧ (decode cX5_measure 67 = .ok (.iload_n 1, 1)) ∧ (decode cX5_measure 68 = .ok (.lload_n 2, 1)) ∧ (decode cX5_measure 69 = .ok (.lastore, 1)) ∧ (decode cX5_measure 70 = .ok (.return_, 1)) := by decide +kernel
theorem dX5_measure_56 : decode cX5_measure 56 = .ok (.lstore_n 2, 1) := dg_X5_measure_56.1
theorem dX5_measure_57 : decode cX5_measure 57 = .ok (.iinc 4 1, 3) := dg_X5_measure_56.2.1
theorem dX5_measure_60 : decode cX5_measure 60 = .ok (.goto (-55), 3) := dg_X5_measure_56.2.2.1
theorem dX5_measure_63 : decode cX5_measure 63 = .ok (.aload_n 0, 1) := dg_X5_measure_56.2.2.2.1
theorem dX5_measure_64 : decode cX5_measure 64 = .ok (.getfield 28, 3) := dg_X5_measure_56.2.2.2.2.1
theorem dX5_measure_67 : decode cX5_measure 67 = .ok (.iload_n 1, 1) := dg_X5_measure_56.2.2.2.2.2.1
theorem dX5_measure_68 : decode cX5_measure 68 = .ok (.lload_n 2, 1) := dg_X5_measure_56.2.2.2.2.2.2.1
theorem dX5_measure_69 : decode cX5_measure 69 = .ok (.lastore, 1) := dg_X5_measure_56.2.2.2.2.2.2.2.1
theorem dX5_measure_70 : decode cX5_measure 70 = .ok (.return_, 1) := dg_X5_measure_56.2.2.2.2.2.2.2.2
def fo_co_measure (sof : Nat → Int32) (lof : Nat → Int64) (taf : Nat → Int64) (kdf : Nat → Int32) (btf : Nat → Int64) (d : Nat) (a : Nat) (sz : Nat) (lz : Nat) : (Nat → Int64) := ((vp_updL taf d (sp_me sof lof kdf btf d a sz lz 0 0)))
abbrev rm_co_measure : Room := { frames := 3, cells := 0, slots := 0, locals := 81 }
abbrev po_co_measure (g : zz_G) (ru : Nat) (st : Nat) (u_so : Nat) (u_ju : Nat) (u_we : Nat) (u_lo : Nat) (u_hi : Nat) (u_ta : Nat) (u_bo : Nat) (kd : Nat) (dp : Nat) (cl : Nat) (sa : Nat) (ln : Nat) (bt : Nat) (pn : Nat) (bf : Nat) (nr : Nat) (na : Nat) (nu : Nat) (juf : Nat → Int32) (sof : Nat → Int32) (lof : Nat → Int64) (taf : Nat → Int64) (kdf : Nat → Int32) (saf : Nat → Int32) (lnf : Nat → Int32) (btf : Nat → Int64) (d : Nat) (a : Nat) (sz : Nat) (lz : Nat) (h_r : d < 12 ∧ a < 60 ∧ sz + lz ≤ 4000 ∧ lz ≤ 200) (e_j : juf d = nI a) (e_s : saf a = nI sz) (e_l : lnf a = nI lz) : va_W → Prop := fun (u : va_W) => ∃ (ta2 : Nat → Int64), (ta2) = fo_co_measure sof lof taf kdf btf d a sz lz ∧ u = [cw_k4 ru st (nI nr) u_so u_ju u_we u_lo u_hi u_ta u_bo, cw_i g u_ju 12 juf, cw_i g u_so 12 sof, cw_l g u_lo 12 lof, cw_l g u_ta 12 ta2, cw_k5 st (nI na) (nI nu) kd dp cl sa ln bt pn bf, cw_i g kd 60 kdf, cw_i g sa 60 saf, cw_i g ln 60 lnf, cw_l g bt 4000 btf]
set_option maxHeartbeats 4000000 in
set_option maxRecDepth 100000 in
theorem co_measure (g : zz_G) (ru : Nat) (st : Nat) (u_so : Nat) (u_ju : Nat) (u_we : Nat) (u_lo : Nat) (u_hi : Nat) (u_ta : Nat) (u_bo : Nat) (kd : Nat) (dp : Nat) (cl : Nat) (sa : Nat) (ln : Nat) (bt : Nat) (pn : Nat) (bf : Nat) (nr : Nat) (na : Nat) (nu : Nat) (juf : Nat → Int32) (sof : Nat → Int32) (lof : Nat → Int64) (taf : Nat → Int64) (kdf : Nat → Int32) (saf : Nat → Int32) (lnf : Nat → Int32) (btf : Nat → Int64) (d : Nat) (a : Nat) (sz : Nat) (lz : Nat) (h_r : d < 12 ∧ a < 60 ∧ sz + lz ≤ 4000 ∧ lz ≤ 200) (e_j : juf d = nI a) (e_s : saf a = nI sz) (e_l : lnf a = nI lz) : zz_V g yX5_measure (.code yX5_measure cX5_measure 7 none) rm_co_measure [.ref ru, .int (nI d)] [cw_k4 ru st (nI nr) u_so u_ju u_we u_lo u_hi u_ta u_bo, cw_i g u_ju 12 juf, cw_i g u_so 12 sof, cw_l g u_lo 12 lof, cw_l g u_ta 12 taf, cw_k5 st (nI na) (nI nu) kd dp cl sa ln bt pn bf, cw_i g kd 60 kdf, cw_i g sa 60 saf, cw_i g ln 60 lnf, cw_l g bt 4000 btf] (po_co_measure g ru st u_so u_ju u_we u_lo u_hi u_ta u_bo kd dp cl sa ln bt pn bf nr na nu juf sof lof taf kdf saf lnf btf d a sz lz h_r e_j e_s e_l) := by
  refine zz_V.intro (own := RX5) (cc := cX5_measure) (nL := 7) (by decide) rfl (Nat.le_of_ble_eq_true rfl) ?_
  intro p l e s m args below meth c A H locs ls hC hnm hs hZ hl
  obtain ⟨hx, hb, hml, hown, hts, hr, hlocks, hK⟩ := id hC
  have hl : lv_has ls 7 [(0, .ref ru), (1, .int (nI d))] := hl
  have hZ : zz_Z g A s.heap [cw_k4 ru st (nI nr) u_so u_ju u_we u_lo u_hi u_ta u_bo, cw_i g u_ju 12 juf, cw_i g u_so 12 sof, cw_l g u_lo 12 lof, cw_l g u_ta 12 taf, cw_k5 st (nI na) (nI nu) kd dp cl sa ln bt pn bf, cw_i g kd 60 kdf, cw_i g sa 60 saf, cw_i g ln 60 lnf, cw_l g bt 4000 btf] H locs := hZ
  refine lv_lconst (v := 0) hx hb dX5_measure_0 (by decide) ?_
  refine lv_lstore_n (lv' := [(2, .long 0), (0, .ref ru), (1, .int (nI d))]) hx hb dX5_measure_1 rfl hl (by decide) rfl (fun ls hl => ?_)
  refine lv_iconst (v := 0) hx hb dX5_measure_2 (by decide) ?_
  refine lv_istore (lv' := [(4, .int 0), (2, .long 0), (0, .ref ru), (1, .int (nI d))]) hx hb dX5_measure_3 hl (by decide) rfl (fun ls hl => ?_)
  have LP1 : ∀ (N : Nat) (i : Nat) (w : Int64) (H : Heap) (locs : List Loc) (ls : Array Slot), (i ≤ lz) → (sp_me sof lof kdf btf d a sz lz 0 0 = sp_me sof lof kdf btf d a sz (lz - i) i w) → (lz - i) < N → zz_Z g A s.heap [cw_k4 ru st (nI nr) u_so u_ju u_we u_lo u_hi u_ta u_bo, cw_i g u_ju 12 juf, cw_i g u_so 12 sof, cw_l g u_lo 12 lof, cw_l g u_ta 12 taf, cw_k5 st (nI na) (nI nu) kd dp cl sa ln bt pn bf, cw_i g kd 60 kdf, cw_i g sa 60 saf, cw_i g ln 60 lnf, cw_l g bt 4000 btf] H locs → lv_has ls 7 [(4, .int (nI i)), (2, .long w), (0, .ref ru), (1, .int (nI d))] → W p l e rm_co_measure s m args below meth c H locs 0 0 (zz_QV below g args s A rm_co_measure.cells rm_co_measure.slots (po_co_measure g ru st u_so u_ju u_we u_lo u_hi u_ta u_bo kd dp cl sa ln bt pn bf nr na nu juf sof lof taf kdf saf lnf btf d a sz lz h_r e_j e_s e_l)) (F0 m 5 ls []) := by
    intro N
    induction N with
    | zero =>
      intro i w H locs ls hi he hN
      exact absurd hN (Nat.not_lt_zero _)
    | succ N ih =>
      intro i w H locs ls hi he hN hZ hl
      refine lv_iload hx hb dX5_measure_5 (lv_at hl 0 rfl) ?_
      refine lv_aload_n hx hb dX5_measure_7 rfl (lv_at hl 2 rfl) ?_
      refine zz_get hC hZ 0 rfl zf_X5_34 rfl dX5_measure_8 ?_
      refine zz_get hC hZ 5 rfl zf_X5_56 rfl dX5_measure_11 ?_
      refine lv_aload_n hx hb dX5_measure_14 rfl (lv_at hl 2 rfl) ?_
      refine zz_get hC hZ 0 rfl zf_X5_15 rfl dX5_measure_15 ?_
      refine lv_iload_n hx hb dX5_measure_18 rfl (lv_at hl 3 rfl) ?_
      have bd2 : d < 12 := by omega
      refine zz_ialdn hC hZ 1 rfl bd2 (by decide) dX5_measure_19 ?_
      refine zz_topi (v := nI a) (e_j) ?_
      have bd3 : a < 60 := by omega
      refine zz_ialdn hC hZ 8 rfl bd3 (by decide) dX5_measure_20 ?_
      refine zz_topi (v := nI lz) (e_l) ?_
      have bd5 : lz < 2 ^ 31 := by omega
      have bd6 : i < 2 ^ 31 := by omega
      refine lv_icmp_ge (tgt := 63) hx hb dX5_measure_21 (by decide) (fun c4 => ?_) (fun c4 => ?_)
      · have nc4 : lz ≤ i := (nI_leI bd5 bd6).mp (show nI (lz) ≤ nI (i) from c4)
        have d_w : sp_me sof lof kdf btf d a sz lz 0 0 = w := by rw [he, show lz - i = 0 by omega, sp_me]
        refine lv_aload_n hx hb dX5_measure_63 rfl (lv_at hl 2 rfl) ?_
        refine zz_get hC hZ 0 rfl zf_X5_28 rfl dX5_measure_64 ?_
        refine lv_iload_n hx hb dX5_measure_67 rfl (lv_at hl 3 rfl) ?_
        refine lv_lload_n hx hb dX5_measure_68 rfl (lv_at hl 1 rfl) ?_
        refine zz_lastn hC hZ 4 rfl bd2 (by decide) dX5_measure_69 (fun H locs hZ => ?_)
        have hZ : zz_Z g A s.heap [cw_k4 ru st (nI nr) u_so u_ju u_we u_lo u_hi u_ta u_bo, cw_i g u_ju 12 juf, cw_i g u_so 12 sof, cw_l g u_lo 12 lof, cw_l g u_ta 12 (vp_updL taf d w), cw_k5 st (nI na) (nI nu) kd dp cl sa ln bt pn bf, cw_i g kd 60 kdf, cw_i g sa 60 saf, cw_i g ln 60 lnf, cw_l g bt 4000 btf] H locs := hZ
        exact zz_vret hC hZ (⟨(vp_updL taf d w), by refine Eq.symm ?_; rw [fo_co_measure]; first | (simp only [d_w]; done) | rfl, rfl⟩) (Nat.le_of_ble_eq_true rfl) (Nat.le_of_ble_eq_true rfl) dX5_measure_70
      · have nc4 : ¬ lz ≤ i := fun zq => c4 (show nI (lz) ≤ nI (i) from (nI_leI bd5 bd6).mpr zq)
        refine lv_aload_n hx hb dX5_measure_24 rfl (lv_at hl 2 rfl) ?_
        refine lv_iload_n hx hb dX5_measure_25 rfl (lv_at hl 3 rfl) ?_
        refine lv_iload hx hb dX5_measure_26 (lv_at hl 0 rfl) ?_
        refine zz_lV (As := [.int (nI d), .int (nI i)]) (wc := [cw_k4 ru st (nI nr) u_so u_ju u_we u_lo u_hi u_ta u_bo, cw_i g u_ju 12 juf, cw_i g u_so 12 sof, cw_l g u_lo 12 lof, cw_k5 st (nI na) (nI nu) kd dp cl sa ln bt pn bf, cw_i g kd 60 kdf, cw_i g sa 60 saf, cw_l g bt 4000 btf]) (wr := [cw_l g u_ta 12 taf, cw_i g ln 60 lnf]) (rest := []) hC hZ hs hl zc_X5_61 (co_shareOf g ru st u_so u_ju u_we u_lo u_hi u_ta u_bo kd dp cl sa ln bt pn bf nr na nu juf sof lof kdf saf btf d a sz lz i (by omega) (e_j) (e_s)) [0, 1, 2, 3, 5, 6, 7, 9] [4, 8] rfl rfl (by decide +kernel) (ci := 4) (q0 := 0) rfl rfl rfl rfl (Nat.le_of_ble_eq_true rfl) ⟨⟨Nat.le_of_ble_eq_true rfl, Nat.le_of_ble_eq_true rfl⟩, Nat.le_of_ble_eq_true rfl, Nat.le_of_ble_eq_true rfl⟩ dX5_measure_28 (fun r7 u8 H locs hp hZ => ?_)
        obtain ⟨rfl, rfl⟩ := hp
        have hZ : zz_Z g A s.heap [cw_l g u_ta 12 taf, cw_i g ln 60 lnf, cw_k4 ru st (nI nr) u_so u_ju u_we u_lo u_hi u_ta u_bo, cw_i g u_ju 12 juf, cw_i g u_so 12 sof, cw_l g u_lo 12 lof, cw_k5 st (nI na) (nI nu) kd dp cl sa ln bt pn bf, cw_i g kd 60 kdf, cw_i g sa 60 saf, cw_l g bt 4000 btf] H locs := hZ
        refine lv_lstore (lv' := [(5, .long (fn_co_shareOf sof lof kdf btf d a sz i)), (4, .int (nI i)), (2, .long w), (0, .ref ru), (1, .int (nI d))]) hx hb dX5_measure_31 hl (by decide) rfl (fun ls hl => ?_)
        refine lv_aload_n hx hb dX5_measure_33 rfl (lv_at hl 3 rfl) ?_
        refine zz_get hC hZ 2 rfl zf_X5_9 rfl dX5_measure_34 ?_
        refine lv_iload_n hx hb dX5_measure_37 rfl (lv_at hl 4 rfl) ?_
        refine zz_ialdn hC hZ 4 rfl bd2 (by decide) dX5_measure_38 ?_
        refine lv_iconst (v := 5) hx hb dX5_measure_39 (by decide) ?_
        refine lv_icmp_ne (tgt := 52) hx hb dX5_measure_40 (by decide) (fun c9 => ?_) (fun c9 => ?_)
        · refine lv_lload_n hx hb dX5_measure_52 rfl (lv_at hl 2 rfl) ?_
          refine lv_lload hx hb dX5_measure_53 (lv_at hl 0 rfl) ?_
          refine lv_ladd hx hb dX5_measure_55 ?_
          refine lv_lstore_n (lv' := [(2, .long (w + (fn_co_shareOf sof lof kdf btf d a sz i))), (5, .long (fn_co_shareOf sof lof kdf btf d a sz i)), (4, .int (nI i)), (0, .ref ru), (1, .int (nI d))]) hx hb dX5_measure_56 rfl hl (by decide) rfl (fun ls hl => ?_)
          refine lv_iinc (v := nI (i + 1)) (lv' := [(4, .int (nI (i + 1))), (2, .long (w + (fn_co_shareOf sof lof kdf btf d a sz i))), (5, .long (fn_co_shareOf sof lof kdf btf d a sz i)), (0, .ref ru), (1, .int (nI d))]) hx hb dX5_measure_57 hl (k := 2) rfl (nI_1 _) (by decide) rfl (fun ls hl => ?_)
          refine lv_goto (tgt := 5) hx hb dX5_measure_60 (by decide) ?_
          exact ih (i + 1) (w + (fn_co_shareOf sof lof kdf btf d a sz i)) H locs ls (by omega) (by rw [he, show lz - i = (lz - (i + 1)) + 1 by omega, sp_me, if_neg c9]) (by omega) (hZ.sub [2, 3, 4, 5, 0, 6, 7, 8, 1, 9] (by decide +kernel) rfl) (lv_sub hl [0, 1, 3, 4] rfl)
        · refine lv_lload_n hx hb dX5_measure_43 rfl (lv_at hl 2 rfl) ?_
          refine lv_lload hx hb dX5_measure_44 (lv_at hl 0 rfl) ?_
          refine va_mmax_long hx hb (hml.trans hl.1.symm) hown (hts _ zk_641) (hts _ zk_642) (hts _ zk_10) (hts _ zk_643) (Nat.le_of_ble_eq_true rfl) (Nat.le_of_ble_eq_true rfl) (Nat.le_of_ble_eq_true rfl) (Nat.le_of_ble_eq_true rfl) dX5_measure_46 ?_
          refine lv_goto (tgt := 56) hx hb dX5_measure_49 (by decide) ?_
          refine lv_lstore_n (lv' := [(2, .long (if (fn_co_shareOf sof lof kdf btf d a sz i) < w then w else (fn_co_shareOf sof lof kdf btf d a sz i))), (5, .long (fn_co_shareOf sof lof kdf btf d a sz i)), (4, .int (nI i)), (0, .ref ru), (1, .int (nI d))]) hx hb dX5_measure_56 rfl hl (by decide) rfl (fun ls hl => ?_)
          refine lv_iinc (v := nI (i + 1)) (lv' := [(4, .int (nI (i + 1))), (2, .long (if (fn_co_shareOf sof lof kdf btf d a sz i) < w then w else (fn_co_shareOf sof lof kdf btf d a sz i))), (5, .long (fn_co_shareOf sof lof kdf btf d a sz i)), (0, .ref ru), (1, .int (nI d))]) hx hb dX5_measure_57 hl (k := 2) rfl (nI_1 _) (by decide) rfl (fun ls hl => ?_)
          refine lv_goto (tgt := 5) hx hb dX5_measure_60 (by decide) ?_
          exact ih (i + 1) (if (fn_co_shareOf sof lof kdf btf d a sz i) < w then w else (fn_co_shareOf sof lof kdf btf d a sz i)) H locs ls (by omega) (by rw [he, show lz - i = (lz - (i + 1)) + 1 by omega, sp_me, if_pos c9]) (by omega) (hZ.sub [2, 3, 4, 5, 0, 6, 7, 8, 1, 9] (by decide +kernel) rfl) (lv_sub hl [0, 1, 3, 4] rfl)
  exact LP1 _ 0 0 H locs ls (by omega) (rfl) (Nat.lt_succ_self _) hZ (lv_sub hl [0, 1, 2, 3] rfl)
theorem dg_X5_adjust_0 : (decode cX5_adjust 0 = .ok (.aload_n 0, 1)) ∧ (decode cX5_adjust 1 = .ok (.getfield 9, 3)) ∧ (decode cX5_adjust 4 = .ok (.iload_n 1, 1)) ∧ (decode cX5_adjust 5 = .ok (.iaload, 1)) ∧ (decode cX5_adjust 6 = .ok (.iconst 5, 1)) ∧ (decode cX5_adjust 7 = .ok (.if_icmp .eq 19, 3)) ∧ (decode cX5_adjust 10 = .ok (.aload_n 0, 1)) ∧ (decode cX5_adjust 11 = .ok (.getfield 28, 3)) ∧ (decode cX5_adjust 14 = .ok (.iload_n 1, 1)) ∧ (decode cX5_adjust 15 = .ok (.dup2, 1)) ∧ (decode cX5_adjust 16 = .ok (.laload, 1)) ∧ (decode cX5_adjust 17 = .ok (.lload 4, 2)) ∧ (decode cX5_adjust 19 = .ok (.lload_n 2, 1)) ∧ (decode cX5_adjust 20 = .ok (.lsub, 1)) ∧ (decode cX5_adjust 21 = .ok (.ladd, 1)) ∧ (decode cX5_adjust 22 = .ok (.lastore, 1)) := by decide +kernel
theorem dX5_adjust_0 : decode cX5_adjust 0 = .ok (.aload_n 0, 1) := dg_X5_adjust_0.1
theorem dX5_adjust_1 : decode cX5_adjust 1 = .ok (.getfield 9, 3) := dg_X5_adjust_0.2.1
theorem dX5_adjust_4 : decode cX5_adjust 4 = .ok (.iload_n 1, 1) := dg_X5_adjust_0.2.2.1
theorem dX5_adjust_5 : decode cX5_adjust 5 = .ok (.iaload, 1) := dg_X5_adjust_0.2.2.2.1
theorem dX5_adjust_6 : decode cX5_adjust 6 = .ok (.iconst 5, 1) := dg_X5_adjust_0.2.2.2.2.1
theorem dX5_adjust_7 : decode cX5_adjust 7 = .ok (.if_icmp .eq 19, 3) := dg_X5_adjust_0.2.2.2.2.2.1
theorem dX5_adjust_10 : decode cX5_adjust 10 = .ok (.aload_n 0, 1) := dg_X5_adjust_0.2.2.2.2.2.2.1
theorem dX5_adjust_11 : decode cX5_adjust 11 = .ok (.getfield 28, 3) := dg_X5_adjust_0.2.2.2.2.2.2.2.1
theorem dX5_adjust_14 : decode cX5_adjust 14 = .ok (.iload_n 1, 1) := dg_X5_adjust_0.2.2.2.2.2.2.2.2.1
theorem dX5_adjust_15 : decode cX5_adjust 15 = .ok (.dup2, 1) := dg_X5_adjust_0.2.2.2.2.2.2.2.2.2.1
theorem dX5_adjust_16 : decode cX5_adjust 16 = .ok (.laload, 1) := dg_X5_adjust_0.2.2.2.2.2.2.2.2.2.2.1
theorem dX5_adjust_17 : decode cX5_adjust 17 = .ok (.lload 4, 2) := dg_X5_adjust_0.2.2.2.2.2.2.2.2.2.2.2.1
theorem dX5_adjust_19 : decode cX5_adjust 19 = .ok (.lload_n 2, 1) := dg_X5_adjust_0.2.2.2.2.2.2.2.2.2.2.2.2.1
theorem dX5_adjust_20 : decode cX5_adjust 20 = .ok (.lsub, 1) := dg_X5_adjust_0.2.2.2.2.2.2.2.2.2.2.2.2.2.1
theorem dX5_adjust_21 : decode cX5_adjust 21 = .ok (.ladd, 1) := dg_X5_adjust_0.2.2.2.2.2.2.2.2.2.2.2.2.2.2.1
theorem dX5_adjust_22 : decode cX5_adjust 22 = .ok (.lastore, 1) := dg_X5_adjust_0.2.2.2.2.2.2.2.2.2.2.2.2.2.2.2
theorem dg_X5_adjust_23 : (decode cX5_adjust 23 = .ok (.goto 42, 3)) ∧ (decode cX5_adjust 26 = .ok (.lload 4, 2)) ∧ (decode cX5_adjust 28 = .ok (.aload_n 0, 1)) ∧ (decode cX5_adjust 29 = .ok (.getfield 28, 3)) ∧ (decode cX5_adjust 32 = .ok (.iload_n 1, 1)) ∧ (decode cX5_adjust 33 = .ok (.laload, 1)) ∧ (decode cX5_adjust 34 = .ok (.lcmp, 1)) ∧ (decode cX5_adjust 35 = .ok (.ifCond .lt 14, 3)) ∧ (decode cX5_adjust 38 = .ok (.aload_n 0, 1)) ∧ (decode cX5_adjust 39 = .ok (.getfield 28, 3)) ∧ (decode cX5_adjust 42 = .ok (.iload_n 1, 1)) ∧ (decode cX5_adjust 43 = .ok (.lload 4, 2)) ∧ (decode cX5_adjust 45 = .ok (.lastore, 1)) ∧ (decode cX5_adjust 46 = .ok (.goto 19, 3)) ∧ (decode cX5_adjust 49 = .ok (.lload_n 2, 1)) ∧ (decode cX5_adjust 50 = .ok (.aload_n 0, 1)) := by decide +kernel
theorem dX5_adjust_23 : decode cX5_adjust 23 = .ok (.goto 42, 3) := dg_X5_adjust_23.1
theorem dX5_adjust_26 : decode cX5_adjust 26 = .ok (.lload 4, 2) := dg_X5_adjust_23.2.1
theorem dX5_adjust_28 : decode cX5_adjust 28 = .ok (.aload_n 0, 1) := dg_X5_adjust_23.2.2.1
theorem dX5_adjust_29 : decode cX5_adjust 29 = .ok (.getfield 28, 3) := dg_X5_adjust_23.2.2.2.1
theorem dX5_adjust_32 : decode cX5_adjust 32 = .ok (.iload_n 1, 1) := dg_X5_adjust_23.2.2.2.2.1
theorem dX5_adjust_33 : decode cX5_adjust 33 = .ok (.laload, 1) := dg_X5_adjust_23.2.2.2.2.2.1
theorem dX5_adjust_34 : decode cX5_adjust 34 = .ok (.lcmp, 1) := dg_X5_adjust_23.2.2.2.2.2.2.1
theorem dX5_adjust_35 : decode cX5_adjust 35 = .ok (.ifCond .lt 14, 3) := dg_X5_adjust_23.2.2.2.2.2.2.2.1
theorem dX5_adjust_38 : decode cX5_adjust 38 = .ok (.aload_n 0, 1) := dg_X5_adjust_23.2.2.2.2.2.2.2.2.1
theorem dX5_adjust_39 : decode cX5_adjust 39 = .ok (.getfield 28, 3) := dg_X5_adjust_23.2.2.2.2.2.2.2.2.2.1
theorem dX5_adjust_42 : decode cX5_adjust 42 = .ok (.iload_n 1, 1) := dg_X5_adjust_23.2.2.2.2.2.2.2.2.2.2.1
theorem dX5_adjust_43 : decode cX5_adjust 43 = .ok (.lload 4, 2) := dg_X5_adjust_23.2.2.2.2.2.2.2.2.2.2.2.1
theorem dX5_adjust_45 : decode cX5_adjust 45 = .ok (.lastore, 1) := dg_X5_adjust_23.2.2.2.2.2.2.2.2.2.2.2.2.1
theorem dX5_adjust_46 : decode cX5_adjust 46 = .ok (.goto 19, 3) := dg_X5_adjust_23.2.2.2.2.2.2.2.2.2.2.2.2.2.1
theorem dX5_adjust_49 : decode cX5_adjust 49 = .ok (.lload_n 2, 1) := dg_X5_adjust_23.2.2.2.2.2.2.2.2.2.2.2.2.2.2.1
theorem dX5_adjust_50 : decode cX5_adjust 50 = .ok (.aload_n 0, 1) := dg_X5_adjust_23.2.2.2.2.2.2.2.2.2.2.2.2.2.2.2
theorem dg_X5_adjust_51 : (decode cX5_adjust 51 = .ok (.getfield 28, 3)) ∧ (decode cX5_adjust 54 = .ok (.iload_n 1, 1)) ∧ (decode cX5_adjust 55 = .ok (.laload, 1)) ∧ (decode cX5_adjust 56 = .ok (.lcmp, 1)) ∧ (decode cX5_adjust 57 = .ok (.ifCond .ne 8, 3)) ∧ (decode cX5_adjust 60 = .ok (.aload_n 0, 1)) ∧ (decode cX5_adjust 61 = .ok (.iload_n 1, 1)) ∧ (decode cX5_adjust 62 = .ok (.invokevirtual 52, 3)) ∧ (decode cX5_adjust 65 = .ok (.return_, 1)) := by decide +kernel
theorem dX5_adjust_51 : decode cX5_adjust 51 = .ok (.getfield 28, 3) := dg_X5_adjust_51.1
theorem dX5_adjust_54 : decode cX5_adjust 54 = .ok (.iload_n 1, 1) := dg_X5_adjust_51.2.1
theorem dX5_adjust_55 : decode cX5_adjust 55 = .ok (.laload, 1) := dg_X5_adjust_51.2.2.1
theorem dX5_adjust_56 : decode cX5_adjust 56 = .ok (.lcmp, 1) := dg_X5_adjust_51.2.2.2.1
theorem dX5_adjust_57 : decode cX5_adjust 57 = .ok (.ifCond .ne 8, 3) := dg_X5_adjust_51.2.2.2.2.1
theorem dX5_adjust_60 : decode cX5_adjust 60 = .ok (.aload_n 0, 1) := dg_X5_adjust_51.2.2.2.2.2.1
theorem dX5_adjust_61 : decode cX5_adjust 61 = .ok (.iload_n 1, 1) := dg_X5_adjust_51.2.2.2.2.2.2.1
theorem dX5_adjust_62 : decode cX5_adjust 62 = .ok (.invokevirtual 52, 3) := dg_X5_adjust_51.2.2.2.2.2.2.2.1
theorem dX5_adjust_65 : decode cX5_adjust 65 = .ok (.return_, 1) := dg_X5_adjust_51.2.2.2.2.2.2.2.2
theorem zk_656 : Cond.methodLink RX5 52 yX5_measure ∈ zz_w := zz_in (List.mem_append_right _ (List.mem_append_right _ (List.mem_append_right _ (List.mem_append_left _ (List.mem_of_getElem? (i := 176) (by decide +kernel)))))) rfl
set_option maxRecDepth 20000 in
theorem zk_615 : Cond.code yX5_measure cX5_measure 7 none ∈ zz_w := zz_in (List.mem_append_right _ (List.mem_append_right _ (List.mem_append_right _ (List.mem_append_left _ (List.mem_of_getElem? (i := 135) (rfl)))))) rfl
theorem zk_613 : Cond.instanceMethod yX5_measure ∈ zz_w := zz_in (List.mem_append_right _ (List.mem_append_right _ (List.mem_append_right _ (List.mem_append_left _ (List.mem_of_getElem? (i := 133) (by decide +kernel)))))) rfl
theorem zk_614 : Cond.selects RX5 yX5_measure yX5_measure ∈ zz_w := zz_in (List.mem_append_right _ (List.mem_append_right _ (List.mem_append_right _ (List.mem_append_left _ (List.mem_of_getElem? (i := 134) (by decide +kernel)))))) rfl
theorem zc_X5_52 : zz_cV RX5 52 yX5_measure cX5_measure 7 none 1 := ⟨⟨zk_656, zk_615, zk_6, by decide, by decide, by decide +kernel⟩, zk_613, zk_614⟩
def fo_co_adjust (sof : Nat → Int32) (lof : Nat → Int64) (taf : Nat → Int64) (kdf : Nat → Int32) (btf : Nat → Int64) (d : Nat) (a : Nat) (sz : Nat) (lz : Nat) (x : Int64) (y : Int64) : (Nat → Int64) := (if (sof d) = 5 then (if y < (taf d) then (if x = (taf d) then ((fo_co_measure sof lof taf kdf btf d a sz lz)) else (taf)) else ((vp_updL taf d y))) else ((vp_updL taf d ((taf d) + (y - x)))))
abbrev rm_co_adjust : Room := { frames := 4, cells := 0, slots := 0, locals := 107 }
abbrev po_co_adjust (g : zz_G) (ru : Nat) (st : Nat) (u_so : Nat) (u_ju : Nat) (u_we : Nat) (u_lo : Nat) (u_hi : Nat) (u_ta : Nat) (u_bo : Nat) (kd : Nat) (dp : Nat) (cl : Nat) (sa : Nat) (ln : Nat) (bt : Nat) (pn : Nat) (bf : Nat) (nr : Nat) (na : Nat) (nu : Nat) (juf : Nat → Int32) (sof : Nat → Int32) (lof : Nat → Int64) (taf : Nat → Int64) (kdf : Nat → Int32) (saf : Nat → Int32) (lnf : Nat → Int32) (btf : Nat → Int64) (d : Nat) (a : Nat) (sz : Nat) (lz : Nat) (x : Int64) (y : Int64) (h_r : d < 12 ∧ a < 60 ∧ sz + lz ≤ 4000 ∧ lz ≤ 200) (e_j : juf d = nI a) (e_s : saf a = nI sz) (e_l : lnf a = nI lz) : va_W → Prop := fun (u : va_W) => ∃ (ta2 : Nat → Int64), (ta2) = fo_co_adjust sof lof taf kdf btf d a sz lz x y ∧ u = [cw_k4 ru st (nI nr) u_so u_ju u_we u_lo u_hi u_ta u_bo, cw_i g u_ju 12 juf, cw_i g u_so 12 sof, cw_l g u_lo 12 lof, cw_l g u_ta 12 ta2, cw_k5 st (nI na) (nI nu) kd dp cl sa ln bt pn bf, cw_i g kd 60 kdf, cw_i g sa 60 saf, cw_i g ln 60 lnf, cw_l g bt 4000 btf]
set_option maxHeartbeats 4000000 in
set_option maxRecDepth 100000 in
theorem co_adjust (g : zz_G) (ru : Nat) (st : Nat) (u_so : Nat) (u_ju : Nat) (u_we : Nat) (u_lo : Nat) (u_hi : Nat) (u_ta : Nat) (u_bo : Nat) (kd : Nat) (dp : Nat) (cl : Nat) (sa : Nat) (ln : Nat) (bt : Nat) (pn : Nat) (bf : Nat) (nr : Nat) (na : Nat) (nu : Nat) (juf : Nat → Int32) (sof : Nat → Int32) (lof : Nat → Int64) (taf : Nat → Int64) (kdf : Nat → Int32) (saf : Nat → Int32) (lnf : Nat → Int32) (btf : Nat → Int64) (d : Nat) (a : Nat) (sz : Nat) (lz : Nat) (x : Int64) (y : Int64) (h_r : d < 12 ∧ a < 60 ∧ sz + lz ≤ 4000 ∧ lz ≤ 200) (e_j : juf d = nI a) (e_s : saf a = nI sz) (e_l : lnf a = nI lz) : zz_V g yX5_adjust (.code yX5_adjust cX5_adjust 6 none) rm_co_adjust [.ref ru, .int (nI d), .long x, .long y] [cw_k4 ru st (nI nr) u_so u_ju u_we u_lo u_hi u_ta u_bo, cw_i g u_ju 12 juf, cw_i g u_so 12 sof, cw_l g u_lo 12 lof, cw_l g u_ta 12 taf, cw_k5 st (nI na) (nI nu) kd dp cl sa ln bt pn bf, cw_i g kd 60 kdf, cw_i g sa 60 saf, cw_i g ln 60 lnf, cw_l g bt 4000 btf] (po_co_adjust g ru st u_so u_ju u_we u_lo u_hi u_ta u_bo kd dp cl sa ln bt pn bf nr na nu juf sof lof taf kdf saf lnf btf d a sz lz x y h_r e_j e_s e_l) := by
  refine zz_V.intro (own := RX5) (cc := cX5_adjust) (nL := 6) (by decide) rfl (Nat.le_of_ble_eq_true rfl) ?_
  intro p l e s m args below meth c A H locs ls hC hnm hs hZ hl
  obtain ⟨hx, hb, hml, hown, hts, hr, hlocks, hK⟩ := id hC
  have hl : lv_has ls 6 [(0, .ref ru), (1, .int (nI d)), (2, .long x), (4, .long y)] := hl
  have hZ : zz_Z g A s.heap [cw_k4 ru st (nI nr) u_so u_ju u_we u_lo u_hi u_ta u_bo, cw_i g u_ju 12 juf, cw_i g u_so 12 sof, cw_l g u_lo 12 lof, cw_l g u_ta 12 taf, cw_k5 st (nI na) (nI nu) kd dp cl sa ln bt pn bf, cw_i g kd 60 kdf, cw_i g sa 60 saf, cw_i g ln 60 lnf, cw_l g bt 4000 btf] H locs := hZ
  refine lv_aload_n hx hb dX5_adjust_0 rfl (lv_at hl 0 rfl) ?_
  refine zz_get hC hZ 0 rfl zf_X5_9 rfl dX5_adjust_1 ?_
  refine lv_iload_n hx hb dX5_adjust_4 rfl (lv_at hl 1 rfl) ?_
  have bd1 : d < 12 := by omega
  refine zz_ialdn hC hZ 2 rfl bd1 (by decide) dX5_adjust_5 ?_
  refine lv_iconst (v := 5) hx hb dX5_adjust_6 (by decide) ?_
  refine lv_icmp_eq (tgt := 26) hx hb dX5_adjust_7 (by decide) (fun c2 => ?_) (fun c2 => ?_)
  · refine lv_lload hx hb dX5_adjust_26 (lv_at hl 3 rfl) ?_
    refine lv_aload_n hx hb dX5_adjust_28 rfl (lv_at hl 0 rfl) ?_
    refine zz_get hC hZ 0 rfl zf_X5_28 rfl dX5_adjust_29 ?_
    refine lv_iload_n hx hb dX5_adjust_32 rfl (lv_at hl 1 rfl) ?_
    refine zz_laldn hC hZ 4 rfl bd1 (by decide) dX5_adjust_33 ?_
    refine zz_lcmp_lt (tgt := 49) hC dX5_adjust_34 dX5_adjust_35 (by decide) (fun c3 => ?_) (fun c3 => ?_)
    · refine lv_lload_n hx hb dX5_adjust_49 rfl (lv_at hl 2 rfl) ?_
      refine lv_aload_n hx hb dX5_adjust_50 rfl (lv_at hl 0 rfl) ?_
      refine zz_get hC hZ 0 rfl zf_X5_28 rfl dX5_adjust_51 ?_
      refine lv_iload_n hx hb dX5_adjust_54 rfl (lv_at hl 1 rfl) ?_
      refine zz_laldn hC hZ 4 rfl bd1 (by decide) dX5_adjust_55 ?_
      refine zz_lcmp_ne (tgt := 65) hC dX5_adjust_56 dX5_adjust_57 (by decide) (fun c4 => ?_) (fun c4 => ?_)
      · exact zz_vret hC hZ (⟨taf, by show _ = _; rw [fo_co_adjust]; rw [if_pos c2, if_pos c3, if_neg c4], rfl⟩) (Nat.le_of_ble_eq_true rfl) (Nat.le_of_ble_eq_true rfl) dX5_adjust_65
      · refine lv_aload_n hx hb dX5_adjust_60 rfl (lv_at hl 0 rfl) ?_
        refine lv_iload_n hx hb dX5_adjust_61 rfl (lv_at hl 1 rfl) ?_
        refine zz_vV (As := [.int (nI d)]) (wc := [cw_k4 ru st (nI nr) u_so u_ju u_we u_lo u_hi u_ta u_bo, cw_i g u_ju 12 juf, cw_i g u_so 12 sof, cw_l g u_lo 12 lof, cw_l g u_ta 12 taf, cw_k5 st (nI na) (nI nu) kd dp cl sa ln bt pn bf, cw_i g kd 60 kdf, cw_i g sa 60 saf, cw_i g ln 60 lnf, cw_l g bt 4000 btf]) (wr := []) (rest := []) hC hZ hs hl zc_X5_52 (co_measure g ru st u_so u_ju u_we u_lo u_hi u_ta u_bo kd dp cl sa ln bt pn bf nr na nu juf sof lof taf kdf saf lnf btf d a sz lz (by omega) (e_j) (e_s) (e_l)) [0, 1, 2, 3, 4, 5, 6, 7, 8, 9] [] rfl rfl (by decide +kernel) (ci := 4) (q0 := 0) rfl rfl rfl rfl (Nat.le_of_ble_eq_true rfl) ⟨⟨Nat.le_of_ble_eq_true rfl, Nat.le_of_ble_eq_true rfl⟩, Nat.le_of_ble_eq_true rfl, Nat.le_of_ble_eq_true rfl⟩ dX5_adjust_62 (fun u6 H locs hp hZ => ?_)
        obtain ⟨ta2_7, ft8, rfl⟩ := hp
        have hZ : zz_Z g A s.heap [cw_k4 ru st (nI nr) u_so u_ju u_we u_lo u_hi u_ta u_bo, cw_i g u_ju 12 juf, cw_i g u_so 12 sof, cw_l g u_lo 12 lof, cw_l g u_ta 12 ta2_7, cw_k5 st (nI na) (nI nu) kd dp cl sa ln bt pn bf, cw_i g kd 60 kdf, cw_i g sa 60 saf, cw_i g ln 60 lnf, cw_l g bt 4000 btf] H locs := hZ
        have d_ta2_7 : (fo_co_measure sof lof taf kdf btf d a sz lz) = ta2_7 := by rw [← ft8]
        exact zz_vret hC hZ (⟨ta2_7, by refine Eq.symm ?_; rw [fo_co_adjust]; refine (if_pos (by (try simp only [d_ta2_7]); exact c2)).trans ?_; refine (if_pos (by (try simp only [d_ta2_7]); exact c3)).trans ?_; refine (if_pos (by (try simp only [d_ta2_7]); exact c4)).trans ?_; first | (simp only [d_ta2_7]; done) | rfl, rfl⟩) (Nat.le_of_ble_eq_true rfl) (Nat.le_of_ble_eq_true rfl) dX5_adjust_65
    · refine lv_aload_n hx hb dX5_adjust_38 rfl (lv_at hl 0 rfl) ?_
      refine zz_get hC hZ 0 rfl zf_X5_28 rfl dX5_adjust_39 ?_
      refine lv_iload_n hx hb dX5_adjust_42 rfl (lv_at hl 1 rfl) ?_
      refine lv_lload hx hb dX5_adjust_43 (lv_at hl 3 rfl) ?_
      refine zz_lastn hC hZ 4 rfl bd1 (by decide) dX5_adjust_45 (fun H locs hZ => ?_)
      have hZ : zz_Z g A s.heap [cw_k4 ru st (nI nr) u_so u_ju u_we u_lo u_hi u_ta u_bo, cw_i g u_ju 12 juf, cw_i g u_so 12 sof, cw_l g u_lo 12 lof, cw_l g u_ta 12 (vp_updL taf d y), cw_k5 st (nI na) (nI nu) kd dp cl sa ln bt pn bf, cw_i g kd 60 kdf, cw_i g sa 60 saf, cw_i g ln 60 lnf, cw_l g bt 4000 btf] H locs := hZ
      refine lv_goto (tgt := 65) hx hb dX5_adjust_46 (by decide) ?_
      exact zz_vret hC hZ (⟨(vp_updL taf d y), by show _ = _; rw [fo_co_adjust]; rw [if_pos c2, if_neg c3], rfl⟩) (Nat.le_of_ble_eq_true rfl) (Nat.le_of_ble_eq_true rfl) dX5_adjust_65
  · refine lv_aload_n hx hb dX5_adjust_10 rfl (lv_at hl 0 rfl) ?_
    refine zz_get hC hZ 0 rfl zf_X5_28 rfl dX5_adjust_11 ?_
    refine lv_iload_n hx hb dX5_adjust_14 rfl (lv_at hl 1 rfl) ?_
    refine lv_dup2_11 hx hb dX5_adjust_15 rfl rfl ?_
    refine zz_laldn hC hZ 4 rfl bd1 (by decide) dX5_adjust_16 ?_
    refine lv_lload hx hb dX5_adjust_17 (lv_at hl 3 rfl) ?_
    refine lv_lload_n hx hb dX5_adjust_19 rfl (lv_at hl 2 rfl) ?_
    refine lv_lsub hx hb dX5_adjust_20 ?_
    refine lv_ladd hx hb dX5_adjust_21 ?_
    refine zz_lastn hC hZ 4 rfl bd1 (by decide) dX5_adjust_22 (fun H locs hZ => ?_)
    have hZ : zz_Z g A s.heap [cw_k4 ru st (nI nr) u_so u_ju u_we u_lo u_hi u_ta u_bo, cw_i g u_ju 12 juf, cw_i g u_so 12 sof, cw_l g u_lo 12 lof, cw_l g u_ta 12 (vp_updL taf d ((taf d) + (y - x))), cw_k5 st (nI na) (nI nu) kd dp cl sa ln bt pn bf, cw_i g kd 60 kdf, cw_i g sa 60 saf, cw_i g ln 60 lnf, cw_l g bt 4000 btf] H locs := hZ
    refine lv_goto (tgt := 65) hx hb dX5_adjust_23 (by decide) ?_
    exact zz_vret hC hZ (⟨(vp_updL taf d ((taf d) + (y - x))), by show _ = _; rw [fo_co_adjust]; rw [if_neg c2], rfl⟩) (Nat.le_of_ble_eq_true rfl) (Nat.le_of_ble_eq_true rfl) dX5_adjust_65
/-- the tally of a rule, of all that is there -/
def zz_me (so : Nat → Int32) (lo : Nat → Int64) (kd : Nat → Int32) (bt : Nat → Int64) (ju sa ln : Nat → Int32) (d : Nat) : Int64 := sp_me so lo kd bt d (ju d).toNatClampNeg (sa (ju d).toNatClampNeg).toNatClampNeg (ln (ju d).toNatClampNeg).toNatClampNeg 0 0
theorem zl_meE {so : Nat → Int32} {lo : Nat → Int64} {kd : Nat → Int32} {bt : Nat → Int64} {ju sa ln : Nat → Int32} {d a sz lz : Nat} (ej : ju d = nI a) (es : sa a = nI sz) (el : ln a = nI lz) (h1 : a < 60) (h2 : sz ≤ 4000) (h3 : lz ≤ 200) : sp_me so lo kd bt d a sz lz 0 0 = zz_me so lo kd bt ju sa ln d := by
  unfold zz_me
  rw [ej, nI_clamp (show a < 2 ^ 31 by omega), es, el, nI_clamp (show sz < 2 ^ 31 by omega), nI_clamp (show lz < 2 ^ 31 by omega)]
theorem zl_maS {ta ta1 ta2 g : Nat → Int64} {i : Nat} {x : Int64} (h : ∀ j, ta1 j = if j < i then g j else ta j) (e : ta2 = vp_updL ta1 i x) (ex : x = g i) : ∀ j, ta2 j = if j < i + 1 then g j else ta j := fun j => by
  rw [e]
  by_cases q : j = i
  · subst q; rw [pk_uLs, if_pos (Nat.lt_succ_self _), ex]
  · rw [pk_uLn q, h j]
    by_cases w : j < i
    · rw [if_pos w, if_pos (by omega)]
    · rw [if_neg w, if_neg (by omega)]
theorem dg_X5_measureAll_0 : (decode cX5_measureAll 0 = .ok (.iconst 0, 1)) ∧ (decode cX5_measureAll 1 = .ok (.istore_n 1, 1)) ∧ (decode cX5_measureAll 2 = .ok (.iload_n 1, 1)) ∧ (decode cX5_measureAll 3 = .ok (.aload_n 0, 1)) ∧ (decode cX5_measureAll 4 = .ok (.getfield 38, 3)) ∧ (decode cX5_measureAll 7 = .ok (.if_icmp .ge 14, 3)) ∧ (decode cX5_measureAll 10 = .ok (.aload_n 0, 1)) ∧ (decode cX5_measureAll 11 = .ok (.iload_n 1, 1)) ∧ (decode cX5_measureAll 12 = .ok (.invokevirtual 52, 3)) ∧ (decode cX5_measureAll 15 = .ok (.iinc 1 1, 3)) ∧ (decode cX5_measureAll 18 = .ok (.goto (-16), 3)) ∧ (decode cX5_measureAll 21 = .ok (.return_, 1)) := by decide +kernel
theorem dX5_measureAll_0 : decode cX5_measureAll 0 = .ok (.iconst 0, 1) := dg_X5_measureAll_0.1
theorem dX5_measureAll_1 : decode cX5_measureAll 1 = .ok (.istore_n 1, 1) := dg_X5_measureAll_0.2.1
theorem dX5_measureAll_2 : decode cX5_measureAll 2 = .ok (.iload_n 1, 1) := dg_X5_measureAll_0.2.2.1
theorem dX5_measureAll_3 : decode cX5_measureAll 3 = .ok (.aload_n 0, 1) := dg_X5_measureAll_0.2.2.2.1
theorem dX5_measureAll_4 : decode cX5_measureAll 4 = .ok (.getfield 38, 3) := dg_X5_measureAll_0.2.2.2.2.1
theorem dX5_measureAll_7 : decode cX5_measureAll 7 = .ok (.if_icmp .ge 14, 3) := dg_X5_measureAll_0.2.2.2.2.2.1
theorem dX5_measureAll_10 : decode cX5_measureAll 10 = .ok (.aload_n 0, 1) := dg_X5_measureAll_0.2.2.2.2.2.2.1
theorem dX5_measureAll_11 : decode cX5_measureAll 11 = .ok (.iload_n 1, 1) := dg_X5_measureAll_0.2.2.2.2.2.2.2.1
theorem dX5_measureAll_12 : decode cX5_measureAll 12 = .ok (.invokevirtual 52, 3) := dg_X5_measureAll_0.2.2.2.2.2.2.2.2.1
theorem dX5_measureAll_15 : decode cX5_measureAll 15 = .ok (.iinc 1 1, 3) := dg_X5_measureAll_0.2.2.2.2.2.2.2.2.2.1
theorem dX5_measureAll_18 : decode cX5_measureAll 18 = .ok (.goto (-16), 3) := dg_X5_measureAll_0.2.2.2.2.2.2.2.2.2.2.1
theorem dX5_measureAll_21 : decode cX5_measureAll 21 = .ok (.return_, 1) := dg_X5_measureAll_0.2.2.2.2.2.2.2.2.2.2.2
abbrev rm_co_measureAll : Room := { frames := 4, cells := 0, slots := 0, locals := 107 }
abbrev po_co_measureAll (g : zz_G) (ru : Nat) (st : Nat) (u_so : Nat) (u_ju : Nat) (u_we : Nat) (u_lo : Nat) (u_hi : Nat) (u_ta : Nat) (u_bo : Nat) (kd : Nat) (dp : Nat) (cl : Nat) (sa : Nat) (ln : Nat) (bt : Nat) (pn : Nat) (bf : Nat) (nr : Nat) (na : Nat) (nu : Nat) (juf : Nat → Int32) (sof : Nat → Int32) (lof : Nat → Int64) (taf : Nat → Int64) (kdf : Nat → Int32) (saf : Nat → Int32) (lnf : Nat → Int32) (btf : Nat → Int64) (h_R : zz_RI na nr juf saf lnf) : va_W → Prop := fun (u : va_W) => ∃ (ta2 : Nat → Int64), (∀ j, ta2 j = if j < nr then zz_me sof lof kdf btf juf saf lnf j else taf j) ∧ u = [cw_k4 ru st (nI nr) u_so u_ju u_we u_lo u_hi u_ta u_bo, cw_i g u_ju 12 juf, cw_i g u_so 12 sof, cw_l g u_lo 12 lof, cw_l g u_ta 12 ta2, cw_k5 st (nI na) (nI nu) kd dp cl sa ln bt pn bf, cw_i g kd 60 kdf, cw_i g sa 60 saf, cw_i g ln 60 lnf, cw_l g bt 4000 btf]
set_option maxHeartbeats 4000000 in
set_option maxRecDepth 100000 in
theorem co_measureAll (g : zz_G) (ru : Nat) (st : Nat) (u_so : Nat) (u_ju : Nat) (u_we : Nat) (u_lo : Nat) (u_hi : Nat) (u_ta : Nat) (u_bo : Nat) (kd : Nat) (dp : Nat) (cl : Nat) (sa : Nat) (ln : Nat) (bt : Nat) (pn : Nat) (bf : Nat) (nr : Nat) (na : Nat) (nu : Nat) (juf : Nat → Int32) (sof : Nat → Int32) (lof : Nat → Int64) (taf : Nat → Int64) (kdf : Nat → Int32) (saf : Nat → Int32) (lnf : Nat → Int32) (btf : Nat → Int64) (h_R : zz_RI na nr juf saf lnf) : zz_V g yX5_measureAll (.code yX5_measureAll cX5_measureAll 2 none) rm_co_measureAll [.ref ru] [cw_k4 ru st (nI nr) u_so u_ju u_we u_lo u_hi u_ta u_bo, cw_i g u_ju 12 juf, cw_i g u_so 12 sof, cw_l g u_lo 12 lof, cw_l g u_ta 12 taf, cw_k5 st (nI na) (nI nu) kd dp cl sa ln bt pn bf, cw_i g kd 60 kdf, cw_i g sa 60 saf, cw_i g ln 60 lnf, cw_l g bt 4000 btf] (po_co_measureAll g ru st u_so u_ju u_we u_lo u_hi u_ta u_bo kd dp cl sa ln bt pn bf nr na nu juf sof lof taf kdf saf lnf btf h_R) := by
  refine zz_V.intro (own := RX5) (cc := cX5_measureAll) (nL := 2) (by decide) rfl (Nat.le_of_ble_eq_true rfl) ?_
  intro p l e s m args below meth c A H locs ls hC hnm hs hZ hl
  obtain ⟨hx, hb, hml, hown, hts, hr, hlocks, hK⟩ := id hC
  have hl : lv_has ls 2 [(0, .ref ru)] := hl
  have hZ : zz_Z g A s.heap [cw_k4 ru st (nI nr) u_so u_ju u_we u_lo u_hi u_ta u_bo, cw_i g u_ju 12 juf, cw_i g u_so 12 sof, cw_l g u_lo 12 lof, cw_l g u_ta 12 taf, cw_k5 st (nI na) (nI nu) kd dp cl sa ln bt pn bf, cw_i g kd 60 kdf, cw_i g sa 60 saf, cw_i g ln 60 lnf, cw_l g bt 4000 btf] H locs := hZ
  have hr12 := h_R.1
  refine lv_iconst (v := 0) hx hb dX5_measureAll_0 (by decide) ?_
  refine lv_istore_n (lv' := [(1, .int 0), (0, .ref ru)]) hx hb dX5_measureAll_1 rfl hl (by decide) rfl (fun ls hl => ?_)
  have LP1 : ∀ (N : Nat) (i : Nat) (ta1 : Nat → Int64) (H : Heap) (locs : List Loc) (ls : Array Slot), (i ≤ nr) → (∀ j, ta1 j = if j < i then zz_me sof lof kdf btf juf saf lnf j else taf j) → (nr - i) < N → zz_Z g A s.heap [cw_k4 ru st (nI nr) u_so u_ju u_we u_lo u_hi u_ta u_bo, cw_i g u_ju 12 juf, cw_i g u_so 12 sof, cw_l g u_lo 12 lof, cw_l g u_ta 12 ta1, cw_k5 st (nI na) (nI nu) kd dp cl sa ln bt pn bf, cw_i g kd 60 kdf, cw_i g sa 60 saf, cw_i g ln 60 lnf, cw_l g bt 4000 btf] H locs → lv_has ls 2 [(1, .int (nI i)), (0, .ref ru)] → W p l e rm_co_measureAll s m args below meth c H locs 0 0 (zz_QV below g args s A rm_co_measureAll.cells rm_co_measureAll.slots (po_co_measureAll g ru st u_so u_ju u_we u_lo u_hi u_ta u_bo kd dp cl sa ln bt pn bf nr na nu juf sof lof taf kdf saf lnf btf h_R)) (F0 m 2 ls []) := by
    intro N
    induction N with
    | zero =>
      intro i ta1 H locs ls hi hta hN
      exact absurd hN (Nat.not_lt_zero _)
    | succ N ih =>
      intro i ta1 H locs ls hi hta hN hZ hl
      refine lv_iload_n hx hb dX5_measureAll_2 rfl (lv_at hl 0 rfl) ?_
      refine lv_aload_n hx hb dX5_measureAll_3 rfl (lv_at hl 1 rfl) ?_
      refine zz_get hC hZ 0 rfl zf_X5_38 rfl dX5_measureAll_4 ?_
      have bd3 : nr < 2 ^ 31 := by omega
      have bd4 : i < 2 ^ 31 := by omega
      refine lv_icmp_ge (tgt := 21) hx hb dX5_measureAll_7 (by decide) (fun c2 => ?_) (fun c2 => ?_)
      · have nc2 : nr ≤ i := (nI_leI bd3 bd4).mp (show nI (nr) ≤ nI (i) from c2)
        exact zz_vret hC hZ (⟨ta1, fun j => (show i = nr by omega) ▸ hta j, rfl⟩) (Nat.le_of_ble_eq_true rfl) (Nat.le_of_ble_eq_true rfl) dX5_measureAll_21
      · have nc2 : ¬ nr ≤ i := fun zq => c2 (show nI (nr) ≤ nI (i) from (nI_leI bd3 bd4).mpr zq)
        obtain ⟨a, sz, lz, e_j, ha, ha6, e_s, e_l, hb1, hb2⟩ := h_R.2 i (by omega)
        refine lv_aload_n hx hb dX5_measureAll_10 rfl (lv_at hl 1 rfl) ?_
        refine lv_iload_n hx hb dX5_measureAll_11 rfl (lv_at hl 0 rfl) ?_
        refine zz_vV (As := [.int (nI i)]) (wc := [cw_k4 ru st (nI nr) u_so u_ju u_we u_lo u_hi u_ta u_bo, cw_i g u_ju 12 juf, cw_i g u_so 12 sof, cw_l g u_lo 12 lof, cw_l g u_ta 12 ta1, cw_k5 st (nI na) (nI nu) kd dp cl sa ln bt pn bf, cw_i g kd 60 kdf, cw_i g sa 60 saf, cw_i g ln 60 lnf, cw_l g bt 4000 btf]) (wr := []) (rest := []) hC hZ hs hl zc_X5_52 (co_measure g ru st u_so u_ju u_we u_lo u_hi u_ta u_bo kd dp cl sa ln bt pn bf nr na nu juf sof lof ta1 kdf saf lnf btf i a sz lz (by omega) (e_j) (e_s) (e_l)) [0, 1, 2, 3, 4, 5, 6, 7, 8, 9] [] rfl rfl (by decide +kernel) (ci := 4) (q0 := 0) rfl rfl rfl rfl (Nat.le_of_ble_eq_true rfl) ⟨⟨Nat.le_of_ble_eq_true rfl, Nat.le_of_ble_eq_true rfl⟩, Nat.le_of_ble_eq_true rfl, Nat.le_of_ble_eq_true rfl⟩ dX5_measureAll_12 (fun u6 H locs hp hZ => ?_)
        obtain ⟨ta2_7, ft8, rfl⟩ := hp
        have hZ : zz_Z g A s.heap [cw_k4 ru st (nI nr) u_so u_ju u_we u_lo u_hi u_ta u_bo, cw_i g u_ju 12 juf, cw_i g u_so 12 sof, cw_l g u_lo 12 lof, cw_l g u_ta 12 ta2_7, cw_k5 st (nI na) (nI nu) kd dp cl sa ln bt pn bf, cw_i g kd 60 kdf, cw_i g sa 60 saf, cw_i g ln 60 lnf, cw_l g bt 4000 btf] H locs := hZ
        refine lv_iinc (v := nI (i + 1)) (lv' := [(1, .int (nI (i + 1))), (0, .ref ru)]) hx hb dX5_measureAll_15 hl (k := 0) rfl (nI_1 _) (by decide) rfl (fun ls hl => ?_)
        refine lv_goto (tgt := 2) hx hb dX5_measureAll_18 (by decide) ?_
        exact ih (i + 1) ta2_7 H locs ls (by omega) (zl_maS hta ft8 (zl_meE e_j e_s e_l (by omega) (by omega) (by omega))) (by omega) hZ (lv_sub hl [0, 1] rfl)
  exact LP1 _ 0 taf H locs ls (by omega) (fun j => (if_neg (Nat.not_lt_zero j)).symm) (Nat.lt_succ_self _) hZ (lv_sub hl [0, 1] rfl)
theorem zl_boS {bo g : Nat → Int64} {i : Nat} {x : Int64} (h : ∀ j, j < i → bo j = g j) (e : x = g i) : ∀ j, j < i + 1 → vp_updL bo i x j = g j := fun j hj => by
  by_cases q : j = i
  · subst q; rw [pk_uLs, e]
  · rw [pk_uLn q]; exact h j (by omega)
theorem zl_adj1 {so : Nat → Int32} {lo ta ta1 : Nat → Int64} {kd : Nat → Int32} {bt : Nat → Int64} {d a sz lz : Nat} {x y : Int64} (h : ta1 d = ta d) : fo_co_adjust so lo ta1 kd bt d a sz lz x y d = fo_co_adjust so lo ta kd bt d a sz lz x y d := by
  unfold fo_co_adjust fo_co_measure
  rw [h]
  by_cases c : so d = 5
  · rw [if_pos c, if_pos c]
    by_cases c1 : y < ta d
    · rw [if_pos c1, if_pos c1]
      by_cases c2 : x = ta d
      · rw [if_pos c2, if_pos c2, pk_uLs, pk_uLs]
      · rw [if_neg c2, if_neg c2, h]
    · rw [if_neg c1, if_neg c1, pk_uLs, pk_uLs]
  · rw [if_neg c, if_neg c, pk_uLs, pk_uLs]
theorem zl_adj2 {so : Nat → Int32} {lo ta : Nat → Int64} {kd : Nat → Int32} {bt : Nat → Int64} {d a sz lz j : Nat} {x y : Int64} (h : j ≠ d) : fo_co_adjust so lo ta kd bt d a sz lz x y j = ta j := by
  unfold fo_co_adjust fo_co_measure
  by_cases c : so d = 5
  · rw [if_pos c]
    by_cases c1 : y < ta d
    · rw [if_pos c1]
      by_cases c2 : x = ta d
      · rw [if_pos c2, pk_uLn h]
      · rw [if_neg c2]
    · rw [if_neg c1, pk_uLn h]
  · rw [if_neg c, pk_uLn h]
/-- a tally behind a change of one element of the array that the rule judges -/
def zz_ad (so : Nat → Int32) (lo : Nat → Int64) (kd : Nat → Int32) (bt bt2 ta : Nat → Int64) (b sz lz q j : Nat) : Int64 := fo_co_adjust so lo ta kd bt2 j b sz lz (fn_co_bearingOf so lo kd bt j b sz lz q) (fn_co_bearingOf so lo kd bt2 j b sz lz q) j
theorem zl_adT {so ju : Nat → Int32} {lo : Nat → Int64} {kd : Nat → Int32} {bt bt2 ta ta1 ta2 : Nat → Int64} {b sz lz q i a s l : Nat} {x : Int64} (h : ∀ j, ta1 j = if j < i ∧ ju j = nI b then zz_ad so lo kd bt bt2 ta b sz lz q j else ta j) (e : ta2 = fo_co_adjust so lo ta1 kd bt2 i a s l x (fn_co_bearingOf so lo kd bt2 i a s l q)) (ej : ju i = nI b) (e1 : a = b) (e2 : s = sz) (e3 : l = lz) (ex : x = fn_co_bearingOf so lo kd bt i b sz lz q) : ∀ j, ta2 j = if j < i + 1 ∧ ju j = nI b then zz_ad so lo kd bt bt2 ta b sz lz q j else ta j := fun j => by
  subst e1 e2 e3
  rw [e, ex]
  by_cases w : j = i
  · subst w
    rw [if_pos ⟨Nat.lt_succ_self _, ej⟩]
    exact zl_adj1 (by rw [h j, if_neg (fun z => absurd z.1 (Nat.lt_irrefl _))])
  · rw [zl_adj2 w, h j]
    by_cases z : j < i ∧ ju j = nI a
    · rw [if_pos z, if_pos ⟨by omega, z.2⟩]
    · rw [if_neg z, if_neg (fun y => z ⟨by have := y.1; omega, y.2⟩)]
theorem zl_adF {so ju : Nat → Int32} {lo : Nat → Int64} {kd : Nat → Int32} {bt bt2 ta ta1 : Nat → Int64} {b sz lz q i : Nat} (h : ∀ j, ta1 j = if j < i ∧ ju j = nI b then zz_ad so lo kd bt bt2 ta b sz lz q j else ta j) (ej : ¬ ju i = nI b) : ∀ j, ta1 j = if j < i + 1 ∧ ju j = nI b then zz_ad so lo kd bt bt2 ta b sz lz q j else ta j := fun j => by
  rw [h j]
  by_cases z : j < i ∧ ju j = nI b
  · rw [if_pos z, if_pos ⟨by omega, z.2⟩]
  · rw [if_neg z, if_neg (fun y => by
      by_cases w : j = i
      · exact ej (w ▸ y.2)
      · exact z ⟨by have := y.1; omega, y.2⟩)]
theorem dg_X5_replace_0 : (decode cX5_replace 0 = .ok (.iload_n 1, 1)) ∧ (decode cX5_replace 1 = .ok (.sipush 1000, 3)) ∧ (decode cX5_replace 4 = .ok (.idiv, 1)) ∧ (decode cX5_replace 5 = .ok (.istore 4, 2)) ∧ (decode cX5_replace 7 = .ok (.iload_n 1, 1)) ∧ (decode cX5_replace 8 = .ok (.sipush 1000, 3)) ∧ (decode cX5_replace 11 = .ok (.irem, 1)) ∧ (decode cX5_replace 12 = .ok (.istore 5, 2)) ∧ (decode cX5_replace 14 = .ok (.iconst 0, 1)) ∧ (decode cX5_replace 15 = .ok (.istore 6, 2)) ∧ (decode cX5_replace 17 = .ok (.iload 6, 2)) ∧ (decode cX5_replace 19 = .ok (.aload_n 0, 1)) ∧ (decode cX5_replace 20 = .ok (.getfield 38, 3)) ∧ (decode cX5_replace 23 = .ok (.if_icmp .ge 40, 3)) ∧ (decode cX5_replace 26 = .ok (.aload_n 0, 1)) ∧ (decode cX5_replace 27 = .ok (.getfield 31, 3)) := by decide +kernel
theorem dX5_replace_0 : decode cX5_replace 0 = .ok (.iload_n 1, 1) := dg_X5_replace_0.1
theorem dX5_replace_1 : decode cX5_replace 1 = .ok (.sipush 1000, 3) := dg_X5_replace_0.2.1
theorem dX5_replace_4 : decode cX5_replace 4 = .ok (.idiv, 1) := dg_X5_replace_0.2.2.1
theorem dX5_replace_5 : decode cX5_replace 5 = .ok (.istore 4, 2) := dg_X5_replace_0.2.2.2.1
theorem dX5_replace_7 : decode cX5_replace 7 = .ok (.iload_n 1, 1) := dg_X5_replace_0.2.2.2.2.1
theorem dX5_replace_8 : decode cX5_replace 8 = .ok (.sipush 1000, 3) := dg_X5_replace_0.2.2.2.2.2.1
theorem dX5_replace_11 : decode cX5_replace 11 = .ok (.irem, 1) := dg_X5_replace_0.2.2.2.2.2.2.1
theorem dX5_replace_12 : decode cX5_replace 12 = .ok (.istore 5, 2) := dg_X5_replace_0.2.2.2.2.2.2.2.1
theorem dX5_replace_14 : decode cX5_replace 14 = .ok (.iconst 0, 1) := dg_X5_replace_0.2.2.2.2.2.2.2.2.1
theorem dX5_replace_15 : decode cX5_replace 15 = .ok (.istore 6, 2) := dg_X5_replace_0.2.2.2.2.2.2.2.2.2.1
theorem dX5_replace_17 : decode cX5_replace 17 = .ok (.iload 6, 2) := dg_X5_replace_0.2.2.2.2.2.2.2.2.2.2.1
theorem dX5_replace_19 : decode cX5_replace 19 = .ok (.aload_n 0, 1) := dg_X5_replace_0.2.2.2.2.2.2.2.2.2.2.2.1
theorem dX5_replace_20 : decode cX5_replace 20 = .ok (.getfield 38, 3) := dg_X5_replace_0.2.2.2.2.2.2.2.2.2.2.2.2.1
theorem dX5_replace_23 : decode cX5_replace 23 = .ok (.if_icmp .ge 40, 3) := dg_X5_replace_0.2.2.2.2.2.2.2.2.2.2.2.2.2.1
theorem dX5_replace_26 : decode cX5_replace 26 = .ok (.aload_n 0, 1) := dg_X5_replace_0.2.2.2.2.2.2.2.2.2.2.2.2.2.2.1
theorem dX5_replace_27 : decode cX5_replace 27 = .ok (.getfield 31, 3) := dg_X5_replace_0.2.2.2.2.2.2.2.2.2.2.2.2.2.2.2
theorem dg_X5_replace_30 : (decode cX5_replace 30 = .ok (.iload 6, 2)) ∧ (decode cX5_replace 32 = .ok (.aload_n 0, 1)) ∧ (decode cX5_replace 33 = .ok (.getfield 15, 3)) ∧ (decode cX5_replace 36 = .ok (.iload 6, 2)) ∧ (decode cX5_replace 38 = .ok (.iaload, 1)) ∧ (decode cX5_replace 39 = .ok (.iload 4, 2)) ∧ (decode cX5_replace 41 = .ok (.if_icmp .ne 14, 3)) ∧ (decode cX5_replace 44 = .ok (.aload_n 0, 1)) ∧ (decode cX5_replace 45 = .ok (.iload 6, 2)) ∧ (decode cX5_replace 47 = .ok (.iload 5, 2)) ∧ (decode cX5_replace 49 = .ok (.invokevirtual 96, 3)) ∧ (decode cX5_replace 52 = .ok (.goto 4, 3)) ∧ (decode cX5_replace 55 = .ok (.lconst 0, 1)) ∧ (decode cX5_replace 56 = .ok (.lastore, 1)) ∧ (decode cX5_replace 57 = .ok (.iinc 6 1, 3)) ∧ (decode cX5_replace 60 = .ok (.goto (-43), 3)) := by decide +kernel
theorem dX5_replace_30 : decode cX5_replace 30 = .ok (.iload 6, 2) := dg_X5_replace_30.1
theorem dX5_replace_32 : decode cX5_replace 32 = .ok (.aload_n 0, 1) := dg_X5_replace_30.2.1
theorem dX5_replace_33 : decode cX5_replace 33 = .ok (.getfield 15, 3) := dg_X5_replace_30.2.2.1
theorem dX5_replace_36 : decode cX5_replace 36 = .ok (.iload 6, 2) := dg_X5_replace_30.2.2.2.1
theorem dX5_replace_38 : decode cX5_replace 38 = .ok (.iaload, 1) := dg_X5_replace_30.2.2.2.2.1
theorem dX5_replace_39 : decode cX5_replace 39 = .ok (.iload 4, 2) := dg_X5_replace_30.2.2.2.2.2.1
theorem dX5_replace_41 : decode cX5_replace 41 = .ok (.if_icmp .ne 14, 3) := dg_X5_replace_30.2.2.2.2.2.2.1
theorem dX5_replace_44 : decode cX5_replace 44 = .ok (.aload_n 0, 1) := dg_X5_replace_30.2.2.2.2.2.2.2.1
theorem dX5_replace_45 : decode cX5_replace 45 = .ok (.iload 6, 2) := dg_X5_replace_30.2.2.2.2.2.2.2.2.1
theorem dX5_replace_47 : decode cX5_replace 47 = .ok (.iload 5, 2) := dg_X5_replace_30.2.2.2.2.2.2.2.2.2.1
theorem dX5_replace_49 : decode cX5_replace 49 = .ok (.invokevirtual 96, 3) := dg_X5_replace_30.2.2.2.2.2.2.2.2.2.2.1
theorem dX5_replace_52 : decode cX5_replace 52 = .ok (.goto 4, 3) := dg_X5_replace_30.2.2.2.2.2.2.2.2.2.2.2.1
theorem dX5_replace_55 : decode cX5_replace 55 = .ok (.lconst 0, 1) := dg_X5_replace_30.2.2.2.2.2.2.2.2.2.2.2.2.1
theorem dX5_replace_56 : decode cX5_replace 56 = .ok (.lastore, 1) := dg_X5_replace_30.2.2.2.2.2.2.2.2.2.2.2.2.2.1
theorem dX5_replace_57 : decode cX5_replace 57 = .ok (.iinc 6 1, 3) := dg_X5_replace_30.2.2.2.2.2.2.2.2.2.2.2.2.2.2.1
theorem dX5_replace_60 : decode cX5_replace 60 = .ok (.goto (-43), 3) := dg_X5_replace_30.2.2.2.2.2.2.2.2.2.2.2.2.2.2.2
theorem dg_X5_replace_63 : (decode cX5_replace 63 = .ok (.aload_n 0, 1)) ∧ (decode cX5_replace 64 = .ok (.getfield 34, 3)) ∧ (decode cX5_replace 67 = .ok (.getfield 76, 3)) ∧ (decode cX5_replace 70 = .ok (.aload_n 0, 1)) ∧ (decode cX5_replace 71 = .ok (.getfield 34, 3)) ∧ (decode cX5_replace 74 = .ok (.getfield 73, 3)) ∧ (decode cX5_replace 77 = .ok (.iload 4, 2)) ∧ (decode cX5_replace 79 = .ok (.iaload, 1)) ∧ (decode cX5_replace 80 = .ok (.iload 5, 2)) ∧ (decode cX5_replace 82 = .ok (.iadd, 1)) ∧ (decode cX5_replace 83 = .ok (.lload_n 2, 1)) ∧ (decode cX5_replace 84 = .ok (.lastore, 1)) ∧ (decode cX5_replace 85 = .ok (.iconst 0, 1)) ∧ (decode cX5_replace 86 = .ok (.istore 6, 2)) ∧ (decode cX5_replace 88 = .ok (.iload 6, 2)) ∧ (decode cX5_replace 90 = .ok (.aload_n 0, 1)) := by decide +kernel
theorem dX5_replace_63 : decode cX5_replace 63 = .ok (.aload_n 0, 1) := dg_X5_replace_63.1
theorem dX5_replace_64 : decode cX5_replace 64 = .ok (.getfield 34, 3) := dg_X5_replace_63.2.1
theorem dX5_replace_67 : decode cX5_replace 67 = .ok (.getfield 76, 3) := dg_X5_replace_63.2.2.1
theorem dX5_replace_70 : decode cX5_replace 70 = .ok (.aload_n 0, 1) := dg_X5_replace_63.2.2.2.1
theorem dX5_replace_71 : decode cX5_replace 71 = .ok (.getfield 34, 3) := dg_X5_replace_63.2.2.2.2.1
theorem dX5_replace_74 : decode cX5_replace 74 = .ok (.getfield 73, 3) := dg_X5_replace_63.2.2.2.2.2.1
theorem dX5_replace_77 : decode cX5_replace 77 = .ok (.iload 4, 2) := dg_X5_replace_63.2.2.2.2.2.2.1
theorem dX5_replace_79 : decode cX5_replace 79 = .ok (.iaload, 1) := dg_X5_replace_63.2.2.2.2.2.2.2.1
theorem dX5_replace_80 : decode cX5_replace 80 = .ok (.iload 5, 2) := dg_X5_replace_63.2.2.2.2.2.2.2.2.1
theorem dX5_replace_82 : decode cX5_replace 82 = .ok (.iadd, 1) := dg_X5_replace_63.2.2.2.2.2.2.2.2.2.1
theorem dX5_replace_83 : decode cX5_replace 83 = .ok (.lload_n 2, 1) := dg_X5_replace_63.2.2.2.2.2.2.2.2.2.2.1
theorem dX5_replace_84 : decode cX5_replace 84 = .ok (.lastore, 1) := dg_X5_replace_63.2.2.2.2.2.2.2.2.2.2.2.1
theorem dX5_replace_85 : decode cX5_replace 85 = .ok (.iconst 0, 1) := dg_X5_replace_63.2.2.2.2.2.2.2.2.2.2.2.2.1
theorem dX5_replace_86 : decode cX5_replace 86 = .ok (.istore 6, 2) := dg_X5_replace_63.2.2.2.2.2.2.2.2.2.2.2.2.2.1
theorem dX5_replace_88 : decode cX5_replace 88 = .ok (.iload 6, 2) := dg_X5_replace_63.2.2.2.2.2.2.2.2.2.2.2.2.2.2.1
theorem dX5_replace_90 : decode cX5_replace 90 = .ok (.aload_n 0, 1) := dg_X5_replace_63.2.2.2.2.2.2.2.2.2.2.2.2.2.2.2
theorem dg_X5_replace_91 : (decode cX5_replace 91 = .ok (.getfield 38, 3)) ∧ (decode cX5_replace 94 = .ok (.if_icmp .ge 42, 3)) ∧ (decode cX5_replace 97 = .ok (.aload_n 0, 1)) ∧ (decode cX5_replace 98 = .ok (.getfield 15, 3)) ∧ (decode cX5_replace 101 = .ok (.iload 6, 2)) ∧ (decode cX5_replace 103 = .ok (.iaload, 1)) ∧ (decode cX5_replace 104 = .ok (.iload 4, 2)) ∧ (decode cX5_replace 106 = .ok (.if_icmp .ne 24, 3)) ∧ (decode cX5_replace 109 = .ok (.aload_n 0, 1)) ∧ (decode cX5_replace 110 = .ok (.iload 6, 2)) ∧ (decode cX5_replace 112 = .ok (.aload_n 0, 1)) ∧ (decode cX5_replace 113 = .ok (.getfield 31, 3)) ∧ (decode cX5_replace 116 = .ok (.iload 6, 2)) ∧ (decode cX5_replace 118 = .ok (.laload, 1)) ∧ (decode cX5_replace 119 = .ok (.aload_n 0, 1)) ∧ (decode cX5_replace 120 = .ok (.iload 6, 2)) := by decide +kernel
theorem dX5_replace_91 : decode cX5_replace 91 = .ok (.getfield 38, 3) := dg_X5_replace_91.1
theorem dX5_replace_94 : decode cX5_replace 94 = .ok (.if_icmp .ge 42, 3) := dg_X5_replace_91.2.1
theorem dX5_replace_97 : decode cX5_replace 97 = .ok (.aload_n 0, 1) := dg_X5_replace_91.2.2.1
theorem dX5_replace_98 : decode cX5_replace 98 = .ok (.getfield 15, 3) := dg_X5_replace_91.2.2.2.1
theorem dX5_replace_101 : decode cX5_replace 101 = .ok (.iload 6, 2) := dg_X5_replace_91.2.2.2.2.1
theorem dX5_replace_103 : decode cX5_replace 103 = .ok (.iaload, 1) := dg_X5_replace_91.2.2.2.2.2.1
theorem dX5_replace_104 : decode cX5_replace 104 = .ok (.iload 4, 2) := dg_X5_replace_91.2.2.2.2.2.2.1
theorem dX5_replace_106 : decode cX5_replace 106 = .ok (.if_icmp .ne 24, 3) := dg_X5_replace_91.2.2.2.2.2.2.2.1
theorem dX5_replace_109 : decode cX5_replace 109 = .ok (.aload_n 0, 1) := dg_X5_replace_91.2.2.2.2.2.2.2.2.1
theorem dX5_replace_110 : decode cX5_replace 110 = .ok (.iload 6, 2) := dg_X5_replace_91.2.2.2.2.2.2.2.2.2.1
theorem dX5_replace_112 : decode cX5_replace 112 = .ok (.aload_n 0, 1) := dg_X5_replace_91.2.2.2.2.2.2.2.2.2.2.1
theorem dX5_replace_113 : decode cX5_replace 113 = .ok (.getfield 31, 3) := dg_X5_replace_91.2.2.2.2.2.2.2.2.2.2.2.1
theorem dX5_replace_116 : decode cX5_replace 116 = .ok (.iload 6, 2) := dg_X5_replace_91.2.2.2.2.2.2.2.2.2.2.2.2.1
theorem dX5_replace_118 : decode cX5_replace 118 = .ok (.laload, 1) := dg_X5_replace_91.2.2.2.2.2.2.2.2.2.2.2.2.2.1
theorem dX5_replace_119 : decode cX5_replace 119 = .ok (.aload_n 0, 1) := dg_X5_replace_91.2.2.2.2.2.2.2.2.2.2.2.2.2.2.1
theorem dX5_replace_120 : decode cX5_replace 120 = .ok (.iload 6, 2) := dg_X5_replace_91.2.2.2.2.2.2.2.2.2.2.2.2.2.2.2
theorem dg_X5_replace_122 : (decode cX5_replace 122 = .ok (.iload 5, 2)) ∧ (decode cX5_replace 124 = .ok (.invokevirtual 96, 3)) ∧ (decode cX5_replace 127 = .ok (.invokevirtual 99, 3)) ∧ (decode cX5_replace 130 = .ok (.iinc 6 1, 3)) ∧ (decode cX5_replace 133 = .ok (.goto (-45), 3)) ∧ (decode cX5_replace 136 = .ok (.return_, 1)) := by decide +kernel
theorem dX5_replace_122 : decode cX5_replace 122 = .ok (.iload 5, 2) := dg_X5_replace_122.1
theorem dX5_replace_124 : decode cX5_replace 124 = .ok (.invokevirtual 96, 3) := dg_X5_replace_122.2.1
theorem dX5_replace_127 : decode cX5_replace 127 = .ok (.invokevirtual 99, 3) := dg_X5_replace_122.2.2.1
theorem dX5_replace_130 : decode cX5_replace 130 = .ok (.iinc 6 1, 3) := dg_X5_replace_122.2.2.2.1
theorem dX5_replace_133 : decode cX5_replace 133 = .ok (.goto (-45), 3) := dg_X5_replace_122.2.2.2.2.1
theorem dX5_replace_136 : decode cX5_replace 136 = .ok (.return_, 1) := dg_X5_replace_122.2.2.2.2.2
theorem zf_X5_31 : zz_f RX5 31 4 8 := ⟨RX5, TX5, 9, rfl, zi_X5, by decide, zk_178⟩
theorem zk_686 : Cond.methodLink RX5 96 yX5_bearingOf ∈ zz_w := zz_in (List.mem_append_right _ (List.mem_append_right _ (List.mem_append_right _ (List.mem_append_left _ (List.mem_of_getElem? (i := 206) (by decide +kernel)))))) rfl
set_option maxRecDepth 20000 in
theorem zk_689 : Cond.code yX5_bearingOf cX5_bearingOf 9 (some .long) ∈ zz_w := zz_in (List.mem_append_right _ (List.mem_append_right _ (List.mem_append_right _ (List.mem_append_left _ (List.mem_of_getElem? (i := 209) (rfl)))))) rfl
theorem zk_688 : Cond.instanceMethod yX5_bearingOf ∈ zz_w := zz_in (List.mem_append_right _ (List.mem_append_right _ (List.mem_append_right _ (List.mem_append_left _ (List.mem_of_getElem? (i := 208) (by decide +kernel)))))) rfl
theorem zs_16 : Cond.selects RX5 yX5_bearingOf yX5_bearingOf ∈ zz_w := zz_in (List.mem_append_left _ (List.mem_of_getElem? (i := 16) (by decide +kernel))) rfl
theorem zc_X5_96 : zz_cV RX5 96 yX5_bearingOf cX5_bearingOf 9 (some .long) 2 := ⟨⟨zk_686, zk_689, zk_6, by decide, by decide, by decide +kernel⟩, zk_688, zs_16⟩
theorem zk_690 : Cond.methodLink RX5 99 yX5_adjust ∈ zz_w := zz_in (List.mem_append_right _ (List.mem_append_right _ (List.mem_append_right _ (List.mem_append_left _ (List.mem_of_getElem? (i := 210) (by decide +kernel)))))) rfl
set_option maxRecDepth 20000 in
theorem zk_693 : Cond.code yX5_adjust cX5_adjust 6 none ∈ zz_w := zz_in (List.mem_append_right _ (List.mem_append_right _ (List.mem_append_right _ (List.mem_append_left _ (List.mem_of_getElem? (i := 213) (rfl)))))) rfl
theorem zk_692 : Cond.instanceMethod yX5_adjust ∈ zz_w := zz_in (List.mem_append_right _ (List.mem_append_right _ (List.mem_append_right _ (List.mem_append_left _ (List.mem_of_getElem? (i := 212) (by decide +kernel)))))) rfl
theorem zs_17 : Cond.selects RX5 yX5_adjust yX5_adjust ∈ zz_w := zz_in (List.mem_append_left _ (List.mem_of_getElem? (i := 17) (by decide +kernel))) rfl
theorem zc_X5_99 : zz_cV RX5 99 yX5_adjust cX5_adjust 6 none 3 := ⟨⟨zk_690, zk_693, zk_6, by decide, by decide, by decide +kernel⟩, zk_692, zs_17⟩
abbrev rm_co_replace : Room := { frames := 5, cells := 0, slots := 0, locals := 132 }
abbrev po_co_replace (g : zz_G) (ru : Nat) (st : Nat) (u_so : Nat) (u_ju : Nat) (u_we : Nat) (u_lo : Nat) (u_hi : Nat) (u_ta : Nat) (u_bo : Nat) (kd : Nat) (dp : Nat) (cl : Nat) (sa : Nat) (ln : Nat) (bt : Nat) (pn : Nat) (bf : Nat) (nr : Nat) (na : Nat) (nu : Nat) (juf : Nat → Int32) (sof : Nat → Int32) (lof : Nat → Int64) (taf : Nat → Int64) (bof : Nat → Int64) (kdf : Nat → Int32) (saf : Nat → Int32) (lnf : Nat → Int32) (btf : Nat → Int64) (b : Nat) (q : Nat) (szb : Nat) (lzb : Nat) (x : Int64) (h_R : zz_RI na nr juf saf lnf) (h_b : b < 60 ∧ szb + lzb ≤ 4000 ∧ lzb ≤ 200 ∧ q < lzb) (e_sb : saf b = nI szb) (e_lb : lnf b = nI lzb) : va_W → Prop := fun (u : va_W) => ∃ (ta2 : Nat → Int64) (bo2 : Nat → Int64), (∀ j, ta2 j = if j < nr ∧ juf j = nI b then zz_ad sof lof kdf btf (vp_updL btf (szb + q) x) taf b szb lzb q j else taf j) ∧ u = [cw_k4 ru st (nI nr) u_so u_ju u_we u_lo u_hi u_ta u_bo, cw_i g u_ju 12 juf, cw_i g u_so 12 sof, cw_l g u_lo 12 lof, cw_l g u_ta 12 ta2, cw_l g u_bo 12 bo2, cw_k5 st (nI na) (nI nu) kd dp cl sa ln bt pn bf, cw_i g kd 60 kdf, cw_i g sa 60 saf, cw_i g ln 60 lnf, cw_l g bt 4000 (vp_updL btf (szb + q) x)]
set_option maxHeartbeats 4000000 in
set_option maxRecDepth 100000 in
theorem co_replace (g : zz_G) (ru : Nat) (st : Nat) (u_so : Nat) (u_ju : Nat) (u_we : Nat) (u_lo : Nat) (u_hi : Nat) (u_ta : Nat) (u_bo : Nat) (kd : Nat) (dp : Nat) (cl : Nat) (sa : Nat) (ln : Nat) (bt : Nat) (pn : Nat) (bf : Nat) (nr : Nat) (na : Nat) (nu : Nat) (juf : Nat → Int32) (sof : Nat → Int32) (lof : Nat → Int64) (taf : Nat → Int64) (bof : Nat → Int64) (kdf : Nat → Int32) (saf : Nat → Int32) (lnf : Nat → Int32) (btf : Nat → Int64) (b : Nat) (q : Nat) (szb : Nat) (lzb : Nat) (x : Int64) (h_R : zz_RI na nr juf saf lnf) (h_b : b < 60 ∧ szb + lzb ≤ 4000 ∧ lzb ≤ 200 ∧ q < lzb) (e_sb : saf b = nI szb) (e_lb : lnf b = nI lzb) : zz_V g yX5_replace (.code yX5_replace cX5_replace 7 none) rm_co_replace [.ref ru, .int (nI (1000 * b + q)), .long x] [cw_k4 ru st (nI nr) u_so u_ju u_we u_lo u_hi u_ta u_bo, cw_i g u_ju 12 juf, cw_i g u_so 12 sof, cw_l g u_lo 12 lof, cw_l g u_ta 12 taf, cw_l g u_bo 12 bof, cw_k5 st (nI na) (nI nu) kd dp cl sa ln bt pn bf, cw_i g kd 60 kdf, cw_i g sa 60 saf, cw_i g ln 60 lnf, cw_l g bt 4000 btf] (po_co_replace g ru st u_so u_ju u_we u_lo u_hi u_ta u_bo kd dp cl sa ln bt pn bf nr na nu juf sof lof taf bof kdf saf lnf btf b q szb lzb x h_R h_b e_sb e_lb) := by
  refine zz_V.intro (own := RX5) (cc := cX5_replace) (nL := 7) (by decide) rfl (Nat.le_of_ble_eq_true rfl) ?_
  intro p l e s m args below meth c A H locs ls hC hnm hs hZ hl
  obtain ⟨hx, hb, hml, hown, hts, hr, hlocks, hK⟩ := id hC
  have hl : lv_has ls 7 [(0, .ref ru), (1, .int (nI (1000 * b + q))), (2, .long x)] := hl
  have hZ : zz_Z g A s.heap [cw_k4 ru st (nI nr) u_so u_ju u_we u_lo u_hi u_ta u_bo, cw_i g u_ju 12 juf, cw_i g u_so 12 sof, cw_l g u_lo 12 lof, cw_l g u_ta 12 taf, cw_l g u_bo 12 bof, cw_k5 st (nI na) (nI nu) kd dp cl sa ln bt pn bf, cw_i g kd 60 kdf, cw_i g sa 60 saf, cw_i g ln 60 lnf, cw_l g bt 4000 btf] H locs := hZ
  have hr12 := h_R.1
  refine lv_iload_n hx hb dX5_replace_0 rfl (lv_at hl 1 rfl) ?_
  refine lv_sipush (v := 1000) hx hb dX5_replace_1 (by decide) ?_
  refine lv_idiv hx hb dX5_replace_4 (by decide) ?_
  refine zz_topi (v := nI b) (zl_div1000 (by omega) (by omega)) ?_
  refine lv_istore (lv' := [(4, .int (nI b)), (0, .ref ru), (1, .int (nI (1000 * b + q))), (2, .long x)]) hx hb dX5_replace_5 hl (by decide) rfl (fun ls hl => ?_)
  refine lv_iload_n hx hb dX5_replace_7 rfl (lv_at hl 2 rfl) ?_
  refine lv_sipush (v := 1000) hx hb dX5_replace_8 (by decide) ?_
  refine lv_irem hx hb dX5_replace_11 (by decide) ?_
  refine zz_topi (v := nI q) (zl_rem1000 (by omega) (by omega)) ?_
  refine lv_istore (lv' := [(5, .int (nI q)), (4, .int (nI b)), (0, .ref ru), (1, .int (nI (1000 * b + q))), (2, .long x)]) hx hb dX5_replace_12 hl (by decide) rfl (fun ls hl => ?_)
  refine lv_iconst (v := 0) hx hb dX5_replace_14 (by decide) ?_
  refine lv_istore (lv' := [(6, .int 0), (5, .int (nI q)), (4, .int (nI b)), (0, .ref ru), (1, .int (nI (1000 * b + q))), (2, .long x)]) hx hb dX5_replace_15 hl (by decide) rfl (fun ls hl => ?_)
  have LP1 : ∀ (N : Nat) (i : Nat) (bo1 : Nat → Int64) (H : Heap) (locs : List Loc) (ls : Array Slot), (i ≤ nr) → (∀ j, j < i → bo1 j = if juf j = nI b then fn_co_bearingOf sof lof kdf btf j b szb lzb q else 0) → (nr - i) < N → zz_Z g A s.heap [cw_k4 ru st (nI nr) u_so u_ju u_we u_lo u_hi u_ta u_bo, cw_i g u_ju 12 juf, cw_i g u_so 12 sof, cw_l g u_lo 12 lof, cw_l g u_ta 12 taf, cw_l g u_bo 12 bo1, cw_k5 st (nI na) (nI nu) kd dp cl sa ln bt pn bf, cw_i g kd 60 kdf, cw_i g sa 60 saf, cw_i g ln 60 lnf, cw_l g bt 4000 btf] H locs → lv_has ls 7 [(6, .int (nI i)), (5, .int (nI q)), (4, .int (nI b)), (0, .ref ru), (1, .int (nI (1000 * b + q))), (2, .long x)] → W p l e rm_co_replace s m args below meth c H locs 0 0 (zz_QV below g args s A rm_co_replace.cells rm_co_replace.slots (po_co_replace g ru st u_so u_ju u_we u_lo u_hi u_ta u_bo kd dp cl sa ln bt pn bf nr na nu juf sof lof taf bof kdf saf lnf btf b q szb lzb x h_R h_b e_sb e_lb)) (F0 m 17 ls []) := by
    intro N
    induction N with
    | zero =>
      intro i bo1 H locs ls hi hbo hN
      exact absurd hN (Nat.not_lt_zero _)
    | succ N ih =>
      intro i bo1 H locs ls hi hbo hN hZ hl
      refine lv_iload hx hb dX5_replace_17 (lv_at hl 0 rfl) ?_
      refine lv_aload_n hx hb dX5_replace_19 rfl (lv_at hl 3 rfl) ?_
      refine zz_get hC hZ 0 rfl zf_X5_38 rfl dX5_replace_20 ?_
      have bd3 : nr < 2 ^ 31 := by omega
      have bd4 : i < 2 ^ 31 := by omega
      refine lv_icmp_ge (tgt := 63) hx hb dX5_replace_23 (by decide) (fun c2 => ?_) (fun c2 => ?_)
      · have nc2 : nr ≤ i := (nI_leI bd3 bd4).mp (show nI (nr) ≤ nI (i) from c2)
        refine lv_aload_n hx hb dX5_replace_63 rfl (lv_at hl 3 rfl) ?_
        refine zz_get hC hZ 0 rfl zf_X5_34 rfl dX5_replace_64 ?_
        refine zz_get hC hZ 6 rfl zf_X5_76 rfl dX5_replace_67 ?_
        refine lv_aload_n hx hb dX5_replace_70 rfl (lv_at hl 3 rfl) ?_
        refine zz_get hC hZ 0 rfl zf_X5_34 rfl dX5_replace_71 ?_
        refine zz_get hC hZ 6 rfl zf_X5_73 rfl dX5_replace_74 ?_
        refine lv_iload hx hb dX5_replace_77 (lv_at hl 2 rfl) ?_
        have bd5 : b < 60 := by omega
        refine zz_ialdn hC hZ 8 rfl bd5 (by decide) dX5_replace_79 ?_
        refine zz_topi (v := nI szb) (e_sb) ?_
        refine lv_iload hx hb dX5_replace_80 (lv_at hl 1 rfl) ?_
        refine lv_iadd hx hb dX5_replace_82 ?_
        refine zz_topi (v := nI (szb + q)) (nI_add _ _) ?_
        refine lv_lload_n hx hb dX5_replace_83 rfl (lv_at hl 5 rfl) ?_
        have bd6 : (szb + q) < 4000 := by omega
        refine zz_lastn hC hZ 10 rfl bd6 (by decide) dX5_replace_84 (fun H locs hZ => ?_)
        have hZ : zz_Z g A s.heap [cw_k4 ru st (nI nr) u_so u_ju u_we u_lo u_hi u_ta u_bo, cw_i g u_ju 12 juf, cw_i g u_so 12 sof, cw_l g u_lo 12 lof, cw_l g u_ta 12 taf, cw_l g u_bo 12 bo1, cw_k5 st (nI na) (nI nu) kd dp cl sa ln bt pn bf, cw_i g kd 60 kdf, cw_i g sa 60 saf, cw_i g ln 60 lnf, cw_l g bt 4000 (vp_updL btf (szb + q) x)] H locs := hZ
        refine lv_iconst (v := 0) hx hb dX5_replace_85 (by decide) ?_
        refine lv_istore (lv' := [(6, .int 0), (5, .int (nI q)), (4, .int (nI b)), (0, .ref ru), (1, .int (nI (1000 * b + q))), (2, .long x)]) hx hb dX5_replace_86 hl (by decide) rfl (fun ls hl => ?_)
        have LP7 : ∀ (N : Nat) (i2 : Nat) (ta1 : Nat → Int64) (H : Heap) (locs : List Loc) (ls : Array Slot), (i2 ≤ nr) → (∀ j, ta1 j = if j < i2 ∧ juf j = nI b then zz_ad sof lof kdf btf (vp_updL btf (szb + q) x) taf b szb lzb q j else taf j) → (nr - i2) < N → zz_Z g A s.heap [cw_k4 ru st (nI nr) u_so u_ju u_we u_lo u_hi u_ta u_bo, cw_i g u_ju 12 juf, cw_i g u_so 12 sof, cw_l g u_lo 12 lof, cw_l g u_ta 12 ta1, cw_l g u_bo 12 bo1, cw_k5 st (nI na) (nI nu) kd dp cl sa ln bt pn bf, cw_i g kd 60 kdf, cw_i g sa 60 saf, cw_i g ln 60 lnf, cw_l g bt 4000 (vp_updL btf (szb + q) x)] H locs → lv_has ls 7 [(6, .int (nI i2)), (5, .int (nI q)), (4, .int (nI b)), (0, .ref ru), (1, .int (nI (1000 * b + q))), (2, .long x)] → W p l e rm_co_replace s m args below meth c H locs 0 0 (zz_QV below g args s A rm_co_replace.cells rm_co_replace.slots (po_co_replace g ru st u_so u_ju u_we u_lo u_hi u_ta u_bo kd dp cl sa ln bt pn bf nr na nu juf sof lof taf bof kdf saf lnf btf b q szb lzb x h_R h_b e_sb e_lb)) (F0 m 88 ls []) := by
          intro N
          induction N with
          | zero =>
            intro i2 ta1 H locs ls hi2 hta hN
            exact absurd hN (Nat.not_lt_zero _)
          | succ N ih =>
            intro i2 ta1 H locs ls hi2 hta hN hZ hl
            refine lv_iload hx hb dX5_replace_88 (lv_at hl 0 rfl) ?_
            refine lv_aload_n hx hb dX5_replace_90 rfl (lv_at hl 3 rfl) ?_
            refine zz_get hC hZ 0 rfl zf_X5_38 rfl dX5_replace_91 ?_
            have bd9 : i2 < 2 ^ 31 := by omega
            refine lv_icmp_ge (tgt := 136) hx hb dX5_replace_94 (by decide) (fun c8 => ?_) (fun c8 => ?_)
            · have nc8 : nr ≤ i2 := (nI_leI bd3 bd9).mp (show nI (nr) ≤ nI (i2) from c8)
              exact zz_vret hC hZ (⟨ta1, bo1, fun j => (show i2 = nr by omega) ▸ hta j, rfl⟩) (Nat.le_of_ble_eq_true rfl) (Nat.le_of_ble_eq_true rfl) dX5_replace_136
            · have nc8 : ¬ nr ≤ i2 := fun zq => c8 (show nI (nr) ≤ nI (i2) from (nI_leI bd3 bd9).mpr zq)
              obtain ⟨a, sz, lz, e_j, ha, ha6, e_s, e_l, hb1, hb2⟩ := h_R.2 i2 (by omega)
              refine lv_aload_n hx hb dX5_replace_97 rfl (lv_at hl 3 rfl) ?_
              refine zz_get hC hZ 0 rfl zf_X5_15 rfl dX5_replace_98 ?_
              refine lv_iload hx hb dX5_replace_101 (lv_at hl 0 rfl) ?_
              have bd10 : i2 < 12 := by omega
              refine zz_ialdn hC hZ 1 rfl bd10 (by decide) dX5_replace_103 ?_
              refine zz_topi (v := nI a) (e_j) ?_
              refine lv_iload hx hb dX5_replace_104 (lv_at hl 2 rfl) ?_
              have bd12 : a < 2 ^ 31 := by omega
              have bd13 : b < 2 ^ 31 := by omega
              refine lv_icmp_ne (tgt := 130) hx hb dX5_replace_106 (by decide) (fun c11 => ?_) (fun c11 => ?_)
              · have nc11 : ¬ a = b := fun zq => c11 (show nI (a) = nI (b) from (nI_eq bd12 bd13).mpr zq)
                refine lv_iinc (v := nI (i2 + 1)) (lv' := [(6, .int (nI (i2 + 1))), (5, .int (nI q)), (4, .int (nI b)), (0, .ref ru), (1, .int (nI (1000 * b + q))), (2, .long x)]) hx hb dX5_replace_130 hl (k := 0) rfl (nI_1 _) (by decide) rfl (fun ls hl => ?_)
                refine lv_goto (tgt := 88) hx hb dX5_replace_133 (by decide) ?_
                exact ih (i2 + 1) ta1 H locs ls (by omega) (zl_adF hta (fun z => c11 (e_j.symm.trans z))) (by omega) hZ (lv_sub hl [0, 1, 2, 3, 4, 5] rfl)
              · have nc11 : a = b := (nI_eq bd12 bd13).mp (show nI (a) = nI (b) from c11)
                have hq2 : lz = lzb := zl_lz nc11 e_l e_lb (by omega) (by omega)
                have hq1 : a = b := nc11
                have hq3 : sz = szb := zl_lz nc11 e_s e_sb (by omega) (by omega)
                refine lv_aload_n hx hb dX5_replace_109 rfl (lv_at hl 3 rfl) ?_
                refine lv_iload hx hb dX5_replace_110 (lv_at hl 0 rfl) ?_
                refine lv_aload_n hx hb dX5_replace_112 rfl (lv_at hl 3 rfl) ?_
                refine zz_get hC hZ 0 rfl zf_X5_31 rfl dX5_replace_113 ?_
                refine lv_iload hx hb dX5_replace_116 (lv_at hl 0 rfl) ?_
                refine zz_laldn hC hZ 5 rfl bd10 (by decide) dX5_replace_118 ?_
                refine lv_aload_n hx hb dX5_replace_119 rfl (lv_at hl 3 rfl) ?_
                refine lv_iload hx hb dX5_replace_120 (lv_at hl 0 rfl) ?_
                refine lv_iload hx hb dX5_replace_122 (lv_at hl 1 rfl) ?_
                refine zz_lV (As := [.int (nI i2), .int (nI q)]) (wc := [cw_k4 ru st (nI nr) u_so u_ju u_we u_lo u_hi u_ta u_bo, cw_i g u_ju 12 juf, cw_i g u_so 12 sof, cw_l g u_lo 12 lof, cw_k5 st (nI na) (nI nu) kd dp cl sa ln bt pn bf, cw_i g kd 60 kdf, cw_i g sa 60 saf, cw_i g ln 60 lnf, cw_l g bt 4000 (vp_updL btf (szb + q) x)]) (wr := [cw_l g u_ta 12 ta1, cw_l g u_bo 12 bo1]) (rest := [.long (bo1 i2), .int (nI i2), .ref ru]) hC hZ hs hl zc_X5_96 (co_bearingOf g ru st u_so u_ju u_we u_lo u_hi u_ta u_bo kd dp cl sa ln bt pn bf nr na nu juf sof lof kdf saf lnf (vp_updL btf (szb + q) x) i2 a sz lz q (by omega) (e_j) (e_s) (e_l)) [0, 1, 2, 3, 6, 7, 8, 9, 10] [4, 5] rfl rfl (by decide +kernel) (ci := 4) (q0 := 0) rfl rfl rfl rfl (Nat.le_of_ble_eq_true rfl) ⟨⟨Nat.le_of_ble_eq_true rfl, Nat.le_of_ble_eq_true rfl⟩, Nat.le_of_ble_eq_true rfl, Nat.le_of_ble_eq_true rfl⟩ dX5_replace_124 (fun r14 u15 H locs hp hZ => ?_)
                obtain ⟨rfl, rfl⟩ := hp
                have hZ : zz_Z g A s.heap [cw_l g u_ta 12 ta1, cw_l g u_bo 12 bo1, cw_k4 ru st (nI nr) u_so u_ju u_we u_lo u_hi u_ta u_bo, cw_i g u_ju 12 juf, cw_i g u_so 12 sof, cw_l g u_lo 12 lof, cw_k5 st (nI na) (nI nu) kd dp cl sa ln bt pn bf, cw_i g kd 60 kdf, cw_i g sa 60 saf, cw_i g ln 60 lnf, cw_l g bt 4000 (vp_updL btf (szb + q) x)] H locs := hZ
                refine zz_vV (As := [.int (nI i2), .long (bo1 i2), .long (fn_co_bearingOf sof lof kdf (vp_updL btf (szb + q) x) i2 a sz lz q)]) (wc := [cw_k4 ru st (nI nr) u_so u_ju u_we u_lo u_hi u_ta u_bo, cw_i g u_ju 12 juf, cw_i g u_so 12 sof, cw_l g u_lo 12 lof, cw_l g u_ta 12 ta1, cw_k5 st (nI na) (nI nu) kd dp cl sa ln bt pn bf, cw_i g kd 60 kdf, cw_i g sa 60 saf, cw_i g ln 60 lnf, cw_l g bt 4000 (vp_updL btf (szb + q) x)]) (wr := [cw_l g u_bo 12 bo1]) (rest := []) hC hZ hs hl zc_X5_99 (co_adjust g ru st u_so u_ju u_we u_lo u_hi u_ta u_bo kd dp cl sa ln bt pn bf nr na nu juf sof lof ta1 kdf saf lnf (vp_updL btf (szb + q) x) i2 a sz lz (bo1 i2) (fn_co_bearingOf sof lof kdf (vp_updL btf (szb + q) x) i2 a sz lz q) (by omega) (e_j) (e_s) (e_l)) [2, 3, 4, 5, 0, 6, 7, 8, 9, 10] [1] rfl rfl (by decide +kernel) (ci := 4) (q0 := 0) rfl rfl rfl rfl (Nat.le_of_ble_eq_true rfl) ⟨⟨Nat.le_of_ble_eq_true rfl, Nat.le_of_ble_eq_true rfl⟩, Nat.le_of_ble_eq_true rfl, Nat.le_of_ble_eq_true rfl⟩ dX5_replace_127 (fun u17 H locs hp hZ => ?_)
                obtain ⟨ta2_18, ft19, rfl⟩ := hp
                have hZ : zz_Z g A s.heap [cw_l g u_bo 12 bo1, cw_k4 ru st (nI nr) u_so u_ju u_we u_lo u_hi u_ta u_bo, cw_i g u_ju 12 juf, cw_i g u_so 12 sof, cw_l g u_lo 12 lof, cw_l g u_ta 12 ta2_18, cw_k5 st (nI na) (nI nu) kd dp cl sa ln bt pn bf, cw_i g kd 60 kdf, cw_i g sa 60 saf, cw_i g ln 60 lnf, cw_l g bt 4000 (vp_updL btf (szb + q) x)] H locs := hZ
                refine lv_iinc (v := nI (i2 + 1)) (lv' := [(6, .int (nI (i2 + 1))), (5, .int (nI q)), (4, .int (nI b)), (0, .ref ru), (1, .int (nI (1000 * b + q))), (2, .long x)]) hx hb dX5_replace_130 hl (k := 0) rfl (nI_1 _) (by decide) rfl (fun ls hl => ?_)
                refine lv_goto (tgt := 88) hx hb dX5_replace_133 (by decide) ?_
                exact ih (i2 + 1) ta2_18 H locs ls (by omega) (zl_adT hta ft19 (e_j.trans c11) hq1 hq3 hq2 ((hbo i2 (by omega)).trans (if_pos (e_j.trans c11)))) (by omega) (hZ.sub [1, 2, 3, 4, 5, 0, 6, 7, 8, 9, 10] (by decide +kernel) rfl) (lv_sub hl [0, 1, 2, 3, 4, 5] rfl)
        exact LP7 _ 0 taf H locs ls (by omega) (fun j => (if_neg (fun z => absurd z.1 (Nat.not_lt_zero j))).symm) (Nat.lt_succ_self _) hZ (lv_sub hl [0, 1, 2, 3, 4, 5] rfl)
      · have nc2 : ¬ nr ≤ i := fun zq => c2 (show nI (nr) ≤ nI (i) from (nI_leI bd3 bd4).mpr zq)
        obtain ⟨a, sz, lz, e_j, ha, ha6, e_s, e_l, hb1, hb2⟩ := h_R.2 i (by omega)
        refine lv_aload_n hx hb dX5_replace_26 rfl (lv_at hl 3 rfl) ?_
        refine zz_get hC hZ 0 rfl zf_X5_31 rfl dX5_replace_27 ?_
        refine lv_iload hx hb dX5_replace_30 (lv_at hl 0 rfl) ?_
        refine lv_aload_n hx hb dX5_replace_32 rfl (lv_at hl 3 rfl) ?_
        refine zz_get hC hZ 0 rfl zf_X5_15 rfl dX5_replace_33 ?_
        refine lv_iload hx hb dX5_replace_36 (lv_at hl 0 rfl) ?_
        have bd20 : i < 12 := by omega
        refine zz_ialdn hC hZ 1 rfl bd20 (by decide) dX5_replace_38 ?_
        refine zz_topi (v := nI a) (e_j) ?_
        refine lv_iload hx hb dX5_replace_39 (lv_at hl 2 rfl) ?_
        have bd22 : a < 2 ^ 31 := by omega
        have bd23 : b < 2 ^ 31 := by omega
        refine lv_icmp_ne (tgt := 55) hx hb dX5_replace_41 (by decide) (fun c21 => ?_) (fun c21 => ?_)
        · have nc21 : ¬ a = b := fun zq => c21 (show nI (a) = nI (b) from (nI_eq bd22 bd23).mpr zq)
          refine lv_lconst (v := 0) hx hb dX5_replace_55 (by decide) ?_
          refine zz_lastn hC hZ 5 rfl bd20 (by decide) dX5_replace_56 (fun H locs hZ => ?_)
          have hZ : zz_Z g A s.heap [cw_k4 ru st (nI nr) u_so u_ju u_we u_lo u_hi u_ta u_bo, cw_i g u_ju 12 juf, cw_i g u_so 12 sof, cw_l g u_lo 12 lof, cw_l g u_ta 12 taf, cw_l g u_bo 12 (vp_updL bo1 i 0), cw_k5 st (nI na) (nI nu) kd dp cl sa ln bt pn bf, cw_i g kd 60 kdf, cw_i g sa 60 saf, cw_i g ln 60 lnf, cw_l g bt 4000 btf] H locs := hZ
          refine lv_iinc (v := nI (i + 1)) (lv' := [(6, .int (nI (i + 1))), (5, .int (nI q)), (4, .int (nI b)), (0, .ref ru), (1, .int (nI (1000 * b + q))), (2, .long x)]) hx hb dX5_replace_57 hl (k := 0) rfl (nI_1 _) (by decide) rfl (fun ls hl => ?_)
          refine lv_goto (tgt := 17) hx hb dX5_replace_60 (by decide) ?_
          exact ih (i + 1) (vp_updL bo1 i 0) H locs ls (by omega) (zl_boS (g := fun j => if juf j = nI b then fn_co_bearingOf sof lof kdf btf j b szb lzb q else 0) hbo (by show _ = (if juf i = nI b then fn_co_bearingOf sof lof kdf btf i b szb lzb q else 0); rw [if_neg (fun z => c21 (e_j.symm.trans z))])) (by omega) hZ (lv_sub hl [0, 1, 2, 3, 4, 5] rfl)
        · have nc21 : a = b := (nI_eq bd22 bd23).mp (show nI (a) = nI (b) from c21)
          have hq2 : lz = lzb := zl_lz nc21 e_l e_lb (by omega) (by omega)
          have hq1 : a = b := nc21
          have hq3 : sz = szb := zl_lz nc21 e_s e_sb (by omega) (by omega)
          refine lv_aload_n hx hb dX5_replace_44 rfl (lv_at hl 3 rfl) ?_
          refine lv_iload hx hb dX5_replace_45 (lv_at hl 0 rfl) ?_
          refine lv_iload hx hb dX5_replace_47 (lv_at hl 1 rfl) ?_
          refine zz_lV (As := [.int (nI i), .int (nI q)]) (wc := [cw_k4 ru st (nI nr) u_so u_ju u_we u_lo u_hi u_ta u_bo, cw_i g u_ju 12 juf, cw_i g u_so 12 sof, cw_l g u_lo 12 lof, cw_k5 st (nI na) (nI nu) kd dp cl sa ln bt pn bf, cw_i g kd 60 kdf, cw_i g sa 60 saf, cw_i g ln 60 lnf, cw_l g bt 4000 btf]) (wr := [cw_l g u_ta 12 taf, cw_l g u_bo 12 bo1]) (rest := [.int (nI i), .ref u_bo]) hC hZ hs hl zc_X5_96 (co_bearingOf g ru st u_so u_ju u_we u_lo u_hi u_ta u_bo kd dp cl sa ln bt pn bf nr na nu juf sof lof kdf saf lnf btf i a sz lz q (by omega) (e_j) (e_s) (e_l)) [0, 1, 2, 3, 6, 7, 8, 9, 10] [4, 5] rfl rfl (by decide +kernel) (ci := 4) (q0 := 0) rfl rfl rfl rfl (Nat.le_of_ble_eq_true rfl) ⟨⟨Nat.le_of_ble_eq_true rfl, Nat.le_of_ble_eq_true rfl⟩, Nat.le_of_ble_eq_true rfl, Nat.le_of_ble_eq_true rfl⟩ dX5_replace_49 (fun r24 u25 H locs hp hZ => ?_)
          obtain ⟨rfl, rfl⟩ := hp
          have hZ : zz_Z g A s.heap [cw_l g u_ta 12 taf, cw_l g u_bo 12 bo1, cw_k4 ru st (nI nr) u_so u_ju u_we u_lo u_hi u_ta u_bo, cw_i g u_ju 12 juf, cw_i g u_so 12 sof, cw_l g u_lo 12 lof, cw_k5 st (nI na) (nI nu) kd dp cl sa ln bt pn bf, cw_i g kd 60 kdf, cw_i g sa 60 saf, cw_i g ln 60 lnf, cw_l g bt 4000 btf] H locs := hZ
          refine lv_goto (tgt := 56) hx hb dX5_replace_52 (by decide) ?_
          refine zz_lastn hC hZ 1 rfl bd20 (by decide) dX5_replace_56 (fun H locs hZ => ?_)
          have hZ : zz_Z g A s.heap [cw_l g u_ta 12 taf, cw_l g u_bo 12 (vp_updL bo1 i (fn_co_bearingOf sof lof kdf btf i a sz lz q)), cw_k4 ru st (nI nr) u_so u_ju u_we u_lo u_hi u_ta u_bo, cw_i g u_ju 12 juf, cw_i g u_so 12 sof, cw_l g u_lo 12 lof, cw_k5 st (nI na) (nI nu) kd dp cl sa ln bt pn bf, cw_i g kd 60 kdf, cw_i g sa 60 saf, cw_i g ln 60 lnf, cw_l g bt 4000 btf] H locs := hZ
          refine lv_iinc (v := nI (i + 1)) (lv' := [(6, .int (nI (i + 1))), (5, .int (nI q)), (4, .int (nI b)), (0, .ref ru), (1, .int (nI (1000 * b + q))), (2, .long x)]) hx hb dX5_replace_57 hl (k := 0) rfl (nI_1 _) (by decide) rfl (fun ls hl => ?_)
          refine lv_goto (tgt := 17) hx hb dX5_replace_60 (by decide) ?_
          exact ih (i + 1) (vp_updL bo1 i (fn_co_bearingOf sof lof kdf btf i a sz lz q)) H locs ls (by omega) (zl_boS (g := fun j => if juf j = nI b then fn_co_bearingOf sof lof kdf btf j b szb lzb q else 0) hbo (by show _ = (if juf i = nI b then fn_co_bearingOf sof lof kdf btf i b szb lzb q else 0); rw [if_pos (e_j.trans c21), hq1, hq2, hq3])) (by omega) (hZ.sub [2, 3, 4, 5, 0, 1, 6, 7, 8, 9, 10] (by decide +kernel) rfl) (lv_sub hl [0, 1, 2, 3, 4, 5] rfl)
  exact LP1 _ 0 bof H locs ls (by omega) (fun j hj => absurd hj (Nat.not_lt_zero j)) (Nat.lt_succ_self _) hZ (lv_sub hl [0, 1, 2, 3, 4, 5] rfl)
