theorem dg_X8_rule_0 : (decode cX8_rule 0 = .ok (.aload_n 0, 1)) ∧ (decode cX8_rule 1 = .ok (.iload_n 2, 1)) ∧ (decode cX8_rule 2 = .ok (.invokevirtual 200, 3)) ∧ (decode cX8_rule 5 = .ok (.ifCond .ne 7, 3)) ∧ (decode cX8_rule 8 = .ok (.iconst 5, 1)) ∧ (decode cX8_rule 9 = .ok (.goto 82, 3)) ∧ (decode cX8_rule 12 = .ok (.iload_n 1, 1)) ∧ (decode cX8_rule 13 = .ok (.i2l, 1)) ∧ (decode cX8_rule 14 = .ok (.lconst 0, 1)) ∧ (decode cX8_rule 15 = .ok (.ldc2_w 210, 3)) ∧ (decode cX8_rule 18 = .ok (.invokestatic 106, 3)) ∧ (decode cX8_rule 21 = .ok (.ifCond .eq 36, 3)) ∧ (decode cX8_rule 24 = .ok (.iload_n 3, 1)) ∧ (decode cX8_rule 25 = .ok (.i2l, 1)) ∧ (decode cX8_rule 26 = .ok (.ldc2_w 263, 3)) ∧ (decode cX8_rule 29 = .ok (.ldc2_w 124, 3)) := by decide +kernel
theorem dX8_rule_0 : decode cX8_rule 0 = .ok (.aload_n 0, 1) := dg_X8_rule_0.1
theorem dX8_rule_1 : decode cX8_rule 1 = .ok (.iload_n 2, 1) := dg_X8_rule_0.2.1
theorem dX8_rule_2 : decode cX8_rule 2 = .ok (.invokevirtual 200, 3) := dg_X8_rule_0.2.2.1
theorem dX8_rule_5 : decode cX8_rule 5 = .ok (.ifCond .ne 7, 3) := dg_X8_rule_0.2.2.2.1
theorem dX8_rule_8 : decode cX8_rule 8 = .ok (.iconst 5, 1) := dg_X8_rule_0.2.2.2.2.1
theorem dX8_rule_9 : decode cX8_rule 9 = .ok (.goto 82, 3) := dg_X8_rule_0.2.2.2.2.2.1
theorem dX8_rule_12 : decode cX8_rule 12 = .ok (.iload_n 1, 1) := dg_X8_rule_0.2.2.2.2.2.2.1
theorem dX8_rule_13 : decode cX8_rule 13 = .ok (.i2l, 1) := dg_X8_rule_0.2.2.2.2.2.2.2.1
theorem dX8_rule_14 : decode cX8_rule 14 = .ok (.lconst 0, 1) := dg_X8_rule_0.2.2.2.2.2.2.2.2.1
theorem dX8_rule_15 : decode cX8_rule 15 = .ok (.ldc2_w 210, 3) := dg_X8_rule_0.2.2.2.2.2.2.2.2.2.1
theorem dX8_rule_18 : decode cX8_rule 18 = .ok (.invokestatic 106, 3) := dg_X8_rule_0.2.2.2.2.2.2.2.2.2.2.1
theorem dX8_rule_21 : decode cX8_rule 21 = .ok (.ifCond .eq 36, 3) := dg_X8_rule_0.2.2.2.2.2.2.2.2.2.2.2.1
theorem dX8_rule_24 : decode cX8_rule 24 = .ok (.iload_n 3, 1) := dg_X8_rule_0.2.2.2.2.2.2.2.2.2.2.2.2.1
theorem dX8_rule_25 : decode cX8_rule 25 = .ok (.i2l, 1) := dg_X8_rule_0.2.2.2.2.2.2.2.2.2.2.2.2.2.1
theorem dX8_rule_26 : decode cX8_rule 26 = .ok (.ldc2_w 263, 3) := dg_X8_rule_0.2.2.2.2.2.2.2.2.2.2.2.2.2.2.1
theorem dX8_rule_29 : decode cX8_rule 29 = .ok (.ldc2_w 124, 3) := dg_X8_rule_0.2.2.2.2.2.2.2.2.2.2.2.2.2.2.2
theorem dg_X8_rule_32 : (decode cX8_rule 32 = .ok (.invokestatic 106, 3)) ∧ (decode cX8_rule 35 = .ok (.ifCond .eq 22, 3)) ∧ (decode cX8_rule 38 = .ok (.iload_n 1, 1)) ∧ (decode cX8_rule 39 = .ok (.iconst 3, 1)) ∧ (decode cX8_rule 40 = .ok (.if_icmp .ne 22, 3)) ∧ (decode cX8_rule 43 = .ok (.aload_n 0, 1)) ∧ (decode cX8_rule 44 = .ok (.getfield 7, 3)) ∧ (decode cX8_rule 47 = .ok (.iload_n 2, 1)) ∧ (decode cX8_rule 48 = .ok (.iaload, 1)) ∧ (decode cX8_rule 49 = .ok (.lload 4, 2)) ∧ (decode cX8_rule 51 = .ok (.invokestatic 230, 3)) ∧ (decode cX8_rule 54 = .ok (.ifCond .ne 8, 3)) ∧ (decode cX8_rule 57 = .ok (.bipush 9, 2)) ∧ (decode cX8_rule 59 = .ok (.goto 32, 3)) ∧ (decode cX8_rule 62 = .ok (.aload_n 0, 1)) ∧ (decode cX8_rule 63 = .ok (.getfield 13, 3)) := by decide +kernel
theorem dX8_rule_32 : decode cX8_rule 32 = .ok (.invokestatic 106, 3) := dg_X8_rule_32.1
theorem dX8_rule_35 : decode cX8_rule 35 = .ok (.ifCond .eq 22, 3) := dg_X8_rule_32.2.1
theorem dX8_rule_38 : decode cX8_rule 38 = .ok (.iload_n 1, 1) := dg_X8_rule_32.2.2.1
theorem dX8_rule_39 : decode cX8_rule 39 = .ok (.iconst 3, 1) := dg_X8_rule_32.2.2.2.1
theorem dX8_rule_40 : decode cX8_rule 40 = .ok (.if_icmp .ne 22, 3) := dg_X8_rule_32.2.2.2.2.1
theorem dX8_rule_43 : decode cX8_rule 43 = .ok (.aload_n 0, 1) := dg_X8_rule_32.2.2.2.2.2.1
theorem dX8_rule_44 : decode cX8_rule 44 = .ok (.getfield 7, 3) := dg_X8_rule_32.2.2.2.2.2.2.1
theorem dX8_rule_47 : decode cX8_rule 47 = .ok (.iload_n 2, 1) := dg_X8_rule_32.2.2.2.2.2.2.2.1
theorem dX8_rule_48 : decode cX8_rule 48 = .ok (.iaload, 1) := dg_X8_rule_32.2.2.2.2.2.2.2.2.1
theorem dX8_rule_49 : decode cX8_rule 49 = .ok (.lload 4, 2) := dg_X8_rule_32.2.2.2.2.2.2.2.2.2.1
theorem dX8_rule_51 : decode cX8_rule 51 = .ok (.invokestatic 230, 3) := dg_X8_rule_32.2.2.2.2.2.2.2.2.2.2.1
theorem dX8_rule_54 : decode cX8_rule 54 = .ok (.ifCond .ne 8, 3) := dg_X8_rule_32.2.2.2.2.2.2.2.2.2.2.2.1
theorem dX8_rule_57 : decode cX8_rule 57 = .ok (.bipush 9, 2) := dg_X8_rule_32.2.2.2.2.2.2.2.2.2.2.2.2.1
theorem dX8_rule_59 : decode cX8_rule 59 = .ok (.goto 32, 3) := dg_X8_rule_32.2.2.2.2.2.2.2.2.2.2.2.2.2.1
theorem dX8_rule_62 : decode cX8_rule 62 = .ok (.aload_n 0, 1) := dg_X8_rule_32.2.2.2.2.2.2.2.2.2.2.2.2.2.2.1
theorem dX8_rule_63 : decode cX8_rule 63 = .ok (.getfield 13, 3) := dg_X8_rule_32.2.2.2.2.2.2.2.2.2.2.2.2.2.2.2
theorem dg_X8_rule_66 : (decode cX8_rule 66 = .ok (.iload_n 2, 1)) ∧ (decode cX8_rule 67 = .ok (.iaload, 1)) ∧ (decode cX8_rule 68 = .ok (.iconst 1, 1)) ∧ (decode cX8_rule 69 = .ok (.if_icmp .le 7, 3)) ∧ (decode cX8_rule 72 = .ok (.iconst 1, 1)) ∧ (decode cX8_rule 73 = .ok (.goto 18, 3)) ∧ (decode cX8_rule 76 = .ok (.aload_n 0, 1)) ∧ (decode cX8_rule 77 = .ok (.getfield 265, 3)) ∧ (decode cX8_rule 80 = .ok (.bipush 12, 2)) ∧ (decode cX8_rule 82 = .ok (.if_icmp .ne 8, 3)) ∧ (decode cX8_rule 85 = .ok (.bipush 8, 2)) ∧ (decode cX8_rule 87 = .ok (.goto 4, 3)) ∧ (decode cX8_rule 90 = .ok (.iconst 0, 1)) ∧ (decode cX8_rule 91 = .ok (.istore 8, 2)) ∧ (decode cX8_rule 93 = .ok (.iload 8, 2)) ∧ (decode cX8_rule 95 = .ok (.ifCond .le 10, 3)) := by decide +kernel
theorem dX8_rule_66 : decode cX8_rule 66 = .ok (.iload_n 2, 1) := dg_X8_rule_66.1
theorem dX8_rule_67 : decode cX8_rule 67 = .ok (.iaload, 1) := dg_X8_rule_66.2.1
theorem dX8_rule_68 : decode cX8_rule 68 = .ok (.iconst 1, 1) := dg_X8_rule_66.2.2.1
theorem dX8_rule_69 : decode cX8_rule 69 = .ok (.if_icmp .le 7, 3) := dg_X8_rule_66.2.2.2.1
theorem dX8_rule_72 : decode cX8_rule 72 = .ok (.iconst 1, 1) := dg_X8_rule_66.2.2.2.2.1
theorem dX8_rule_73 : decode cX8_rule 73 = .ok (.goto 18, 3) := dg_X8_rule_66.2.2.2.2.2.1
theorem dX8_rule_76 : decode cX8_rule 76 = .ok (.aload_n 0, 1) := dg_X8_rule_66.2.2.2.2.2.2.1
theorem dX8_rule_77 : decode cX8_rule 77 = .ok (.getfield 265, 3) := dg_X8_rule_66.2.2.2.2.2.2.2.1
theorem dX8_rule_80 : decode cX8_rule 80 = .ok (.bipush 12, 2) := dg_X8_rule_66.2.2.2.2.2.2.2.2.1
theorem dX8_rule_82 : decode cX8_rule 82 = .ok (.if_icmp .ne 8, 3) := dg_X8_rule_66.2.2.2.2.2.2.2.2.2.1
theorem dX8_rule_85 : decode cX8_rule 85 = .ok (.bipush 8, 2) := dg_X8_rule_66.2.2.2.2.2.2.2.2.2.2.1
theorem dX8_rule_87 : decode cX8_rule 87 = .ok (.goto 4, 3) := dg_X8_rule_66.2.2.2.2.2.2.2.2.2.2.2.1
theorem dX8_rule_90 : decode cX8_rule 90 = .ok (.iconst 0, 1) := dg_X8_rule_66.2.2.2.2.2.2.2.2.2.2.2.2.1
theorem dX8_rule_91 : decode cX8_rule 91 = .ok (.istore 8, 2) := dg_X8_rule_66.2.2.2.2.2.2.2.2.2.2.2.2.2.1
theorem dX8_rule_93 : decode cX8_rule 93 = .ok (.iload 8, 2) := dg_X8_rule_66.2.2.2.2.2.2.2.2.2.2.2.2.2.2.1
theorem dX8_rule_95 : decode cX8_rule 95 = .ok (.ifCond .le 10, 3) := dg_X8_rule_66.2.2.2.2.2.2.2.2.2.2.2.2.2.2.2
theorem dg_X8_rule_98 : (decode cX8_rule 98 = .ok (.aload_n 0, 1)) ∧ (decode cX8_rule 99 = .ok (.iload 8, 2)) ∧ (decode cX8_rule 101 = .ok (.invokevirtual 175, 3)) ∧ (decode cX8_rule 104 = .ok (.ireturn, 1)) ∧ (decode cX8_rule 105 = .ok (.aload_n 0, 1)) ∧ (decode cX8_rule 106 = .ok (.getfield 69, 3)) ∧ (decode cX8_rule 109 = .ok (.aload_n 0, 1)) ∧ (decode cX8_rule 110 = .ok (.getfield 265, 3)) ∧ (decode cX8_rule 113 = .ok (.iload_n 1, 1)) ∧ (decode cX8_rule 114 = .ok (.iastore, 1)) ∧ (decode cX8_rule 115 = .ok (.aload_n 0, 1)) ∧ (decode cX8_rule 116 = .ok (.getfield 72, 3)) ∧ (decode cX8_rule 119 = .ok (.aload_n 0, 1)) ∧ (decode cX8_rule 120 = .ok (.getfield 265, 3)) ∧ (decode cX8_rule 123 = .ok (.iload_n 2, 1)) ∧ (decode cX8_rule 124 = .ok (.iastore, 1)) := by decide +kernel
theorem dX8_rule_98 : decode cX8_rule 98 = .ok (.aload_n 0, 1) := dg_X8_rule_98.1
theorem dX8_rule_99 : decode cX8_rule 99 = .ok (.iload 8, 2) := dg_X8_rule_98.2.1
theorem dX8_rule_101 : decode cX8_rule 101 = .ok (.invokevirtual 175, 3) := dg_X8_rule_98.2.2.1
theorem dX8_rule_104 : decode cX8_rule 104 = .ok (.ireturn, 1) := dg_X8_rule_98.2.2.2.1
theorem dX8_rule_105 : decode cX8_rule 105 = .ok (.aload_n 0, 1) := dg_X8_rule_98.2.2.2.2.1
theorem dX8_rule_106 : decode cX8_rule 106 = .ok (.getfield 69, 3) := dg_X8_rule_98.2.2.2.2.2.1
theorem dX8_rule_109 : decode cX8_rule 109 = .ok (.aload_n 0, 1) := dg_X8_rule_98.2.2.2.2.2.2.1
theorem dX8_rule_110 : decode cX8_rule 110 = .ok (.getfield 265, 3) := dg_X8_rule_98.2.2.2.2.2.2.2.1
theorem dX8_rule_113 : decode cX8_rule 113 = .ok (.iload_n 1, 1) := dg_X8_rule_98.2.2.2.2.2.2.2.2.1
theorem dX8_rule_114 : decode cX8_rule 114 = .ok (.iastore, 1) := dg_X8_rule_98.2.2.2.2.2.2.2.2.2.1
theorem dX8_rule_115 : decode cX8_rule 115 = .ok (.aload_n 0, 1) := dg_X8_rule_98.2.2.2.2.2.2.2.2.2.2.1
theorem dX8_rule_116 : decode cX8_rule 116 = .ok (.getfield 72, 3) := dg_X8_rule_98.2.2.2.2.2.2.2.2.2.2.2.1
theorem dX8_rule_119 : decode cX8_rule 119 = .ok (.aload_n 0, 1) := dg_X8_rule_98.2.2.2.2.2.2.2.2.2.2.2.2.1
theorem dX8_rule_120 : decode cX8_rule 120 = .ok (.getfield 265, 3) := dg_X8_rule_98.2.2.2.2.2.2.2.2.2.2.2.2.2.1
theorem dX8_rule_123 : decode cX8_rule 123 = .ok (.iload_n 2, 1) := dg_X8_rule_98.2.2.2.2.2.2.2.2.2.2.2.2.2.2.1
theorem dX8_rule_124 : decode cX8_rule 124 = .ok (.iastore, 1) := dg_X8_rule_98.2.2.2.2.2.2.2.2.2.2.2.2.2.2.2
theorem dg_X8_rule_125 : (decode cX8_rule 125 = .ok (.aload_n 0, 1)) ∧ (decode cX8_rule 126 = .ok (.getfield 75, 3)) ∧ (decode cX8_rule 129 = .ok (.aload_n 0, 1)) ∧ (decode cX8_rule 130 = .ok (.getfield 265, 3)) ∧ (decode cX8_rule 133 = .ok (.iload_n 3, 1)) ∧ (decode cX8_rule 134 = .ok (.iastore, 1)) ∧ (decode cX8_rule 135 = .ok (.aload_n 0, 1)) ∧ (decode cX8_rule 136 = .ok (.getfield 78, 3)) ∧ (decode cX8_rule 139 = .ok (.aload_n 0, 1)) ∧ (decode cX8_rule 140 = .ok (.getfield 265, 3)) ∧ (decode cX8_rule 143 = .ok (.iload_n 1, 1)) ∧ (decode cX8_rule 144 = .ok (.iconst 3, 1)) ∧ (decode cX8_rule 145 = .ok (.if_icmp .ne 17, 3)) ∧ (decode cX8_rule 148 = .ok (.aload_n 0, 1)) ∧ (decode cX8_rule 149 = .ok (.getfield 7, 3)) ∧ (decode cX8_rule 152 = .ok (.iload_n 2, 1)) := by decide +kernel
theorem dX8_rule_125 : decode cX8_rule 125 = .ok (.aload_n 0, 1) := dg_X8_rule_125.1
theorem dX8_rule_126 : decode cX8_rule 126 = .ok (.getfield 75, 3) := dg_X8_rule_125.2.1
theorem dX8_rule_129 : decode cX8_rule 129 = .ok (.aload_n 0, 1) := dg_X8_rule_125.2.2.1
theorem dX8_rule_130 : decode cX8_rule 130 = .ok (.getfield 265, 3) := dg_X8_rule_125.2.2.2.1
theorem dX8_rule_133 : decode cX8_rule 133 = .ok (.iload_n 3, 1) := dg_X8_rule_125.2.2.2.2.1
theorem dX8_rule_134 : decode cX8_rule 134 = .ok (.iastore, 1) := dg_X8_rule_125.2.2.2.2.2.1
theorem dX8_rule_135 : decode cX8_rule 135 = .ok (.aload_n 0, 1) := dg_X8_rule_125.2.2.2.2.2.2.1
theorem dX8_rule_136 : decode cX8_rule 136 = .ok (.getfield 78, 3) := dg_X8_rule_125.2.2.2.2.2.2.2.1
theorem dX8_rule_139 : decode cX8_rule 139 = .ok (.aload_n 0, 1) := dg_X8_rule_125.2.2.2.2.2.2.2.2.1
theorem dX8_rule_140 : decode cX8_rule 140 = .ok (.getfield 265, 3) := dg_X8_rule_125.2.2.2.2.2.2.2.2.2.1
theorem dX8_rule_143 : decode cX8_rule 143 = .ok (.iload_n 1, 1) := dg_X8_rule_125.2.2.2.2.2.2.2.2.2.2.1
theorem dX8_rule_144 : decode cX8_rule 144 = .ok (.iconst 3, 1) := dg_X8_rule_125.2.2.2.2.2.2.2.2.2.2.2.1
theorem dX8_rule_145 : decode cX8_rule 145 = .ok (.if_icmp .ne 17, 3) := dg_X8_rule_125.2.2.2.2.2.2.2.2.2.2.2.2.1
theorem dX8_rule_148 : decode cX8_rule 148 = .ok (.aload_n 0, 1) := dg_X8_rule_125.2.2.2.2.2.2.2.2.2.2.2.2.2.1
theorem dX8_rule_149 : decode cX8_rule 149 = .ok (.getfield 7, 3) := dg_X8_rule_125.2.2.2.2.2.2.2.2.2.2.2.2.2.2.1
theorem dX8_rule_152 : decode cX8_rule 152 = .ok (.iload_n 2, 1) := dg_X8_rule_125.2.2.2.2.2.2.2.2.2.2.2.2.2.2.2
theorem dg_X8_rule_153 : (decode cX8_rule 153 = .ok (.iaload, 1)) ∧ (decode cX8_rule 154 = .ok (.lload 4, 2)) ∧ (decode cX8_rule 156 = .ok (.invokestatic 150, 3)) ∧ (decode cX8_rule 159 = .ok (.goto 5, 3)) ∧ (decode cX8_rule 162 = .ok (.lload 4, 2)) ∧ (decode cX8_rule 164 = .ok (.lastore, 1)) ∧ (decode cX8_rule 165 = .ok (.aload_n 0, 1)) ∧ (decode cX8_rule 166 = .ok (.getfield 81, 3)) ∧ (decode cX8_rule 169 = .ok (.aload_n 0, 1)) ∧ (decode cX8_rule 170 = .ok (.getfield 265, 3)) ∧ (decode cX8_rule 173 = .ok (.lload 6, 2)) ∧ (decode cX8_rule 175 = .ok (.lastore, 1)) ∧ (decode cX8_rule 176 = .ok (.aload_n 0, 1)) ∧ (decode cX8_rule 177 = .ok (.dup, 1)) ∧ (decode cX8_rule 178 = .ok (.getfield 265, 3)) ∧ (decode cX8_rule 181 = .ok (.iconst 1, 1)) := by decide +kernel
theorem dX8_rule_153 : decode cX8_rule 153 = .ok (.iaload, 1) := dg_X8_rule_153.1
theorem dX8_rule_154 : decode cX8_rule 154 = .ok (.lload 4, 2) := dg_X8_rule_153.2.1
theorem dX8_rule_156 : decode cX8_rule 156 = .ok (.invokestatic 150, 3) := dg_X8_rule_153.2.2.1
theorem dX8_rule_159 : decode cX8_rule 159 = .ok (.goto 5, 3) := dg_X8_rule_153.2.2.2.1
theorem dX8_rule_162 : decode cX8_rule 162 = .ok (.lload 4, 2) := dg_X8_rule_153.2.2.2.2.1
theorem dX8_rule_164 : decode cX8_rule 164 = .ok (.lastore, 1) := dg_X8_rule_153.2.2.2.2.2.1
theorem dX8_rule_165 : decode cX8_rule 165 = .ok (.aload_n 0, 1) := dg_X8_rule_153.2.2.2.2.2.2.1
theorem dX8_rule_166 : decode cX8_rule 166 = .ok (.getfield 81, 3) := dg_X8_rule_153.2.2.2.2.2.2.2.1
theorem dX8_rule_169 : decode cX8_rule 169 = .ok (.aload_n 0, 1) := dg_X8_rule_153.2.2.2.2.2.2.2.2.1
theorem dX8_rule_170 : decode cX8_rule 170 = .ok (.getfield 265, 3) := dg_X8_rule_153.2.2.2.2.2.2.2.2.2.1
theorem dX8_rule_173 : decode cX8_rule 173 = .ok (.lload 6, 2) := dg_X8_rule_153.2.2.2.2.2.2.2.2.2.2.1
theorem dX8_rule_175 : decode cX8_rule 175 = .ok (.lastore, 1) := dg_X8_rule_153.2.2.2.2.2.2.2.2.2.2.2.1
theorem dX8_rule_176 : decode cX8_rule 176 = .ok (.aload_n 0, 1) := dg_X8_rule_153.2.2.2.2.2.2.2.2.2.2.2.2.1
theorem dX8_rule_177 : decode cX8_rule 177 = .ok (.dup, 1) := dg_X8_rule_153.2.2.2.2.2.2.2.2.2.2.2.2.2.1
theorem dX8_rule_178 : decode cX8_rule 178 = .ok (.getfield 265, 3) := dg_X8_rule_153.2.2.2.2.2.2.2.2.2.2.2.2.2.2.1
theorem dX8_rule_181 : decode cX8_rule 181 = .ok (.iconst 1, 1) := dg_X8_rule_153.2.2.2.2.2.2.2.2.2.2.2.2.2.2.2
theorem dg_X8_rule_182 : (decode cX8_rule 182 = .ok (.iadd, 1)) ∧ (decode cX8_rule 183 = .ok (.putfield 265, 3)) ∧ (decode cX8_rule 186 = .ok (.aload_n 0, 1)) ∧ (decode cX8_rule 187 = .ok (.aload_n 0, 1)) ∧ (decode cX8_rule 188 = .ok (.getfield 265, 3)) ∧ (decode cX8_rule 191 = .ok (.iconst 1, 1)) ∧ (decode cX8_rule 192 = .ok (.isub, 1)) ∧ (decode cX8_rule 193 = .ok (.invokevirtual 183, 3)) ∧ (decode cX8_rule 196 = .ok (.ireturn, 1)) := by decide +kernel
theorem dX8_rule_182 : decode cX8_rule 182 = .ok (.iadd, 1) := dg_X8_rule_182.1
theorem dX8_rule_183 : decode cX8_rule 183 = .ok (.putfield 265, 3) := dg_X8_rule_182.2.1
theorem dX8_rule_186 : decode cX8_rule 186 = .ok (.aload_n 0, 1) := dg_X8_rule_182.2.2.1
theorem dX8_rule_187 : decode cX8_rule 187 = .ok (.aload_n 0, 1) := dg_X8_rule_182.2.2.2.1
theorem dX8_rule_188 : decode cX8_rule 188 = .ok (.getfield 265, 3) := dg_X8_rule_182.2.2.2.2.1
theorem dX8_rule_191 : decode cX8_rule 191 = .ok (.iconst 1, 1) := dg_X8_rule_182.2.2.2.2.2.1
theorem dX8_rule_192 : decode cX8_rule 192 = .ok (.isub, 1) := dg_X8_rule_182.2.2.2.2.2.2.1
theorem dX8_rule_193 : decode cX8_rule 193 = .ok (.invokevirtual 183, 3) := dg_X8_rule_182.2.2.2.2.2.2.2.1
theorem dX8_rule_196 : decode cX8_rule 196 = .ok (.ireturn, 1) := dg_X8_rule_182.2.2.2.2.2.2.2.2
theorem zk_1073 : Cond.constantLong RX8 263 (-1000) ∈ zz_w := zz_in (List.mem_append_right _ (List.mem_append_right _ (List.mem_append_right _ (List.mem_append_right _ (List.mem_append_right _ (List.mem_of_getElem? (i := 113) (by decide +kernel))))))) rfl
theorem zk_760 : Cond.fieldLink RX8 265 RX8 "rules" "I" ∈ zz_w := zz_in (List.mem_append_right _ (List.mem_append_right _ (List.mem_append_right _ (List.mem_append_right _ (List.mem_append_left _ (List.mem_of_getElem? (i := 40) (by decide +kernel))))))) rfl
theorem zf_X8_265 : zz_f RX8 265 7 25 := ⟨RX8, TX8, 37, rfl, zi_X8, by decide, zk_760⟩
theorem zf_X8_69 : zz_f RX8 69 7 26 := ⟨RX8, TX8, 37, rfl, zi_X8, by decide, zk_761⟩
theorem zf_X8_72 : zz_f RX8 72 7 27 := ⟨RX8, TX8, 37, rfl, zi_X8, by decide, zk_762⟩
theorem zf_X8_75 : zz_f RX8 75 7 28 := ⟨RX8, TX8, 37, rfl, zi_X8, by decide, zk_763⟩
theorem zf_X8_78 : zz_f RX8 78 7 29 := ⟨RX8, TX8, 37, rfl, zi_X8, by decide, zk_764⟩
theorem zf_X8_81 : zz_f RX8 81 7 30 := ⟨RX8, TX8, 37, rfl, zi_X8, by decide, zk_765⟩
theorem zu_X8_265 : zz_fw RX8 265 7 25 false .int := ⟨RX8, TX8, 37, tyX8, rfl, zi_X8, by decide, zk_760, tyX8_ok, nmX8, rfl, by decide +kernel, fun h => by cases h⟩
def fo_my_rule (na : Nat) (nr : Nat) (kdf : Nat → Int32) (dpf : Nat → Int32) (lnf : Nat → Int32) (saf : Nat → Int32) (rsf : Nat → Int32) (juf : Nat → Int32) (wef : Nat → Int32) (lof : Nat → Int64) (hif : Nat → Int64) (x1 : Int32) (x2 : Int32) (x3 : Int32) (x4 : Int64) (x5 : Int64) : (Int32) × (Nat) × (Nat → Int32) × (Nat → Int32) × (Nat → Int32) × (Nat → Int64) × (Nat → Int64) := (if (fn_cm_isArray (nI na) x2) = 0 then (-5, nr, rsf, juf, wef, lof, hif) else (if (fn_cm_within x1.toInt64 0 5) = 0 then (-9, nr, rsf, juf, wef, lof, hif) else (if (fn_cm_within x3.toInt64 (-1000) 1000) = 0 then (-9, nr, rsf, juf, wef, lof, hif) else (if x1 = 3 then (if (fn_cm_isBits (kdf x2.toNatClampNeg) x4) = 0 then (-9, nr, rsf, juf, wef, lof, hif) else (if (nI ((dpf x2.toNatClampNeg).toNatClampNeg)) ≤ 1 then (if (nI nr) = 12 then (-8, nr, rsf, juf, wef, lof, hif) else ((nI nr), (nr + 1), (upd rsf nr x1), (upd juf nr (nI x2.toNatClampNeg)), (upd wef nr x3), (vp_updL lof nr (fn_cm_plain (kdf x2.toNatClampNeg) x4)), (vp_updL hif nr x5))) else (-1, nr, rsf, juf, wef, lof, hif))) else (if (nI ((dpf x2.toNatClampNeg).toNatClampNeg)) ≤ 1 then (if (nI nr) = 12 then (-8, nr, rsf, juf, wef, lof, hif) else ((nI nr), (nr + 1), (upd rsf nr x1), (upd juf nr (nI x2.toNatClampNeg)), (upd wef nr x3), (vp_updL lof nr x4), (vp_updL hif nr x5))) else (-1, nr, rsf, juf, wef, lof, hif))))))
abbrev rm_my_rule : Room := { frames := 2, cells := 0, slots := 0, locals := 47 }
abbrev po_my_rule (g : zz_G) (h0 : Nat) (a_kindOf : Nat) (a_depthOf : Nat) (a_lengthOf : Nat) (a_classOf : Nat) (a_baseOf : Nat) (a_bits : Nat) (a_pinned : Nat) (a_lengths : Nat) (a_stackArray : Nat) (a_stackOther : Nat) (a_stackAt : Nat) (a_path : Nat) (a_held : Nat) (a_alike : Nat) (a_hashes : Nat) (a_decisionArray : Nat) (a_decisionPlace : Nat) (a_candidateMany : Nat) (a_candidates : Nat) (a_ruleSort : Nat) (a_ruleArray : Nat) (a_ruleWeight : Nat) (a_ruleLow : Nat) (a_ruleHigh : Nat) (a_chosen : Nat) (a_bestOf : Nat) (a_markElements : Nat) (a_markBits : Nat) (a_markPins : Nat) (na : Nat) (ne : Nat) (nd : Nat) (nr : Nat) (nm : Nat) (i_code : Int32) (i_lastArray : Int32) (i_lastPlace : Int32) (kdf : Nat → Int32) (dpf : Nat → Int32) (lnf : Nat → Int32) (saf : Nat → Int32) (rsf : Nat → Int32) (juf : Nat → Int32) (wef : Nat → Int32) (lof : Nat → Int64) (hif : Nat → Int64) (x1 : Int32) (x2 : Int32) (x3 : Int32) (x4 : Int64) (x5 : Int64) (h_S : zz_SI na ne dpf saf lnf) (h_R : zz_RI na nr juf saf lnf) : Int32 → va_W → Prop := fun (r : Int32) (u : va_W) => ∃ (k_c : Int32) (k_a : Int32) (k_p : Int32) (nr2 : Nat) (rs2 : Nat → Int32) (ju2 : Nat → Int32) (we2 : Nat → Int32) (lo2 : Nat → Int64) (hi2 : Nat → Int64), (r, nr2, rs2, ju2, we2, lo2, hi2) = fo_my_rule na nr kdf dpf lnf saf rsf juf wef lof hif x1 x2 x3 x4 x5 ∧ (zz_RI na nr2 ju2 saf lnf) ∧ u = [cw_k7 h0 (nI na) (nI ne) a_kindOf a_depthOf a_lengthOf a_classOf a_baseOf a_bits a_pinned k_c a_lengths a_stackArray a_stackOther a_stackAt k_a k_p a_path a_held a_alike a_hashes (nI nd) a_decisionArray a_decisionPlace a_candidateMany a_candidates (nI nr2) a_ruleSort a_ruleArray a_ruleWeight a_ruleLow a_ruleHigh a_chosen a_bestOf (nI nm) a_markElements a_markBits a_markPins, cw_i g a_kindOf 60 kdf, cw_i g a_depthOf 60 dpf, cw_i g a_lengthOf 60 lnf, cw_i g a_baseOf 60 saf, cw_i g a_ruleSort 12 rs2, cw_i g a_ruleArray 12 ju2, cw_i g a_ruleWeight 12 we2, cw_l g a_ruleLow 12 lo2, cw_l g a_ruleHigh 12 hi2]
set_option maxHeartbeats 4000000 in
set_option maxRecDepth 100000 in
theorem my_rule (g : zz_G) (h0 : Nat) (a_kindOf : Nat) (a_depthOf : Nat) (a_lengthOf : Nat) (a_classOf : Nat) (a_baseOf : Nat) (a_bits : Nat) (a_pinned : Nat) (a_lengths : Nat) (a_stackArray : Nat) (a_stackOther : Nat) (a_stackAt : Nat) (a_path : Nat) (a_held : Nat) (a_alike : Nat) (a_hashes : Nat) (a_decisionArray : Nat) (a_decisionPlace : Nat) (a_candidateMany : Nat) (a_candidates : Nat) (a_ruleSort : Nat) (a_ruleArray : Nat) (a_ruleWeight : Nat) (a_ruleLow : Nat) (a_ruleHigh : Nat) (a_chosen : Nat) (a_bestOf : Nat) (a_markElements : Nat) (a_markBits : Nat) (a_markPins : Nat) (na : Nat) (ne : Nat) (nd : Nat) (nr : Nat) (nm : Nat) (i_code : Int32) (i_lastArray : Int32) (i_lastPlace : Int32) (kdf : Nat → Int32) (dpf : Nat → Int32) (lnf : Nat → Int32) (saf : Nat → Int32) (rsf : Nat → Int32) (juf : Nat → Int32) (wef : Nat → Int32) (lof : Nat → Int64) (hif : Nat → Int64) (x1 : Int32) (x2 : Int32) (x3 : Int32) (x4 : Int64) (x5 : Int64) (h_S : zz_SI na ne dpf saf lnf) (h_R : zz_RI na nr juf saf lnf) : zz_I g yX8_rule (.code yX8_rule cX8_rule 9 (some .int)) rm_my_rule [.ref h0, .int x1, .int x2, .int x3, .long x4, .long x5] [cw_k7 h0 (nI na) (nI ne) a_kindOf a_depthOf a_lengthOf a_classOf a_baseOf a_bits a_pinned i_code a_lengths a_stackArray a_stackOther a_stackAt i_lastArray i_lastPlace a_path a_held a_alike a_hashes (nI nd) a_decisionArray a_decisionPlace a_candidateMany a_candidates (nI nr) a_ruleSort a_ruleArray a_ruleWeight a_ruleLow a_ruleHigh a_chosen a_bestOf (nI nm) a_markElements a_markBits a_markPins, cw_i g a_kindOf 60 kdf, cw_i g a_depthOf 60 dpf, cw_i g a_lengthOf 60 lnf, cw_i g a_baseOf 60 saf, cw_i g a_ruleSort 12 rsf, cw_i g a_ruleArray 12 juf, cw_i g a_ruleWeight 12 wef, cw_l g a_ruleLow 12 lof, cw_l g a_ruleHigh 12 hif] (po_my_rule g h0 a_kindOf a_depthOf a_lengthOf a_classOf a_baseOf a_bits a_pinned a_lengths a_stackArray a_stackOther a_stackAt a_path a_held a_alike a_hashes a_decisionArray a_decisionPlace a_candidateMany a_candidates a_ruleSort a_ruleArray a_ruleWeight a_ruleLow a_ruleHigh a_chosen a_bestOf a_markElements a_markBits a_markPins na ne nd nr nm i_code i_lastArray i_lastPlace kdf dpf lnf saf rsf juf wef lof hif x1 x2 x3 x4 x5 h_S h_R) := by
  refine zz_I.intro (own := RX8) (cc := cX8_rule) (nL := 9) (by decide) rfl (Nat.le_of_ble_eq_true rfl) ?_
  intro p l e s m args below meth c A H locs ls hC hnm hs hZ hl
  obtain ⟨hx, hb, hml, hown, hts, hr, hlocks, hK⟩ := id hC
  have hl : lv_has ls 9 [(0, .ref h0), (1, .int x1), (2, .int x2), (3, .int x3), (4, .long x4), (6, .long x5)] := hl
  have hZ : zz_Z g A s.heap [cw_k7 h0 (nI na) (nI ne) a_kindOf a_depthOf a_lengthOf a_classOf a_baseOf a_bits a_pinned i_code a_lengths a_stackArray a_stackOther a_stackAt i_lastArray i_lastPlace a_path a_held a_alike a_hashes (nI nd) a_decisionArray a_decisionPlace a_candidateMany a_candidates (nI nr) a_ruleSort a_ruleArray a_ruleWeight a_ruleLow a_ruleHigh a_chosen a_bestOf (nI nm) a_markElements a_markBits a_markPins, cw_i g a_kindOf 60 kdf, cw_i g a_depthOf 60 dpf, cw_i g a_lengthOf 60 lnf, cw_i g a_baseOf 60 saf, cw_i g a_ruleSort 12 rsf, cw_i g a_ruleArray 12 juf, cw_i g a_ruleWeight 12 wef, cw_l g a_ruleLow 12 lof, cw_l g a_ruleHigh 12 hif] H locs := hZ
  have hna := h_S.1
  have hne := h_S.2.1
  have hr12 := h_R.1
  refine lv_aload_n hx hb dX8_rule_0 rfl (lv_at hl 0 rfl) ?_
  refine lv_iload_n hx hb dX8_rule_1 rfl (lv_at hl 2 rfl) ?_
  refine zz_iV (As := [.int x2]) (wc := [cw_k7 h0 (nI na) (nI ne) a_kindOf a_depthOf a_lengthOf a_classOf a_baseOf a_bits a_pinned i_code a_lengths a_stackArray a_stackOther a_stackAt i_lastArray i_lastPlace a_path a_held a_alike a_hashes (nI nd) a_decisionArray a_decisionPlace a_candidateMany a_candidates (nI nr) a_ruleSort a_ruleArray a_ruleWeight a_ruleLow a_ruleHigh a_chosen a_bestOf (nI nm) a_markElements a_markBits a_markPins]) (wr := [cw_i g a_kindOf 60 kdf, cw_i g a_depthOf 60 dpf, cw_i g a_lengthOf 60 lnf, cw_i g a_baseOf 60 saf, cw_i g a_ruleSort 12 rsf, cw_i g a_ruleArray 12 juf, cw_i g a_ruleWeight 12 wef, cw_l g a_ruleLow 12 lof, cw_l g a_ruleHigh 12 hif]) (rest := []) hC hZ hs hl zc_X8_200 (cm_isArray g h0 a_kindOf a_depthOf a_lengthOf a_classOf a_baseOf a_bits a_pinned a_lengths a_stackArray a_stackOther a_stackAt a_path a_held a_alike a_hashes a_decisionArray a_decisionPlace a_candidateMany a_candidates a_ruleSort a_ruleArray a_ruleWeight a_ruleLow a_ruleHigh a_chosen a_bestOf a_markElements a_markBits a_markPins (nI na) (nI ne) i_code i_lastArray i_lastPlace (nI nd) (nI nr) (nI nm) x2) [0] [1, 2, 3, 4, 5, 6, 7, 8, 9] rfl rfl (by decide +kernel) (ci := 7) (q0 := 0) rfl rfl rfl rfl (Nat.le_of_ble_eq_true rfl) ⟨⟨Nat.le_of_ble_eq_true rfl, Nat.le_of_ble_eq_true rfl⟩, Nat.le_of_ble_eq_true rfl, Nat.le_of_ble_eq_true rfl⟩ dX8_rule_2 (fun r1 u2 H locs hp hZ => ?_)
  obtain ⟨rfl, rfl⟩ := hp
  have hZ : zz_Z g A s.heap [cw_i g a_kindOf 60 kdf, cw_i g a_depthOf 60 dpf, cw_i g a_lengthOf 60 lnf, cw_i g a_baseOf 60 saf, cw_i g a_ruleSort 12 rsf, cw_i g a_ruleArray 12 juf, cw_i g a_ruleWeight 12 wef, cw_l g a_ruleLow 12 lof, cw_l g a_ruleHigh 12 hif, cw_k7 h0 (nI na) (nI ne) a_kindOf a_depthOf a_lengthOf a_classOf a_baseOf a_bits a_pinned i_code a_lengths a_stackArray a_stackOther a_stackAt i_lastArray i_lastPlace a_path a_held a_alike a_hashes (nI nd) a_decisionArray a_decisionPlace a_candidateMany a_candidates (nI nr) a_ruleSort a_ruleArray a_ruleWeight a_ruleLow a_ruleHigh a_chosen a_bestOf (nI nm) a_markElements a_markBits a_markPins] H locs := hZ
  refine lv_if_ne (tgt := 12) hx hb dX8_rule_5 (by decide) (fun c3 => ?_) (fun c3 => ?_)
  · obtain ⟨a2, ha2, ea2⟩ := zl_isA (by omega) c3
    have hl : lv_has ls 9 [(0, .ref h0), (1, .int x1), (2, .int (nI a2)), (3, .int x3), (4, .long x4), (6, .long x5)] := by rw [← ea2]; exact hl
    have bd4 : a2 < 2 ^ 31 := by omega
    have d_a2 : x2.toNatClampNeg = a2 := by rw [ea2]; exact nI_clamp bd4
    obtain ⟨sz2, lz2, dz2, es2, el2, ed2, g12, g22, g32, g42⟩ := h_S.2.2 a2 ha2
    have bd5 : sz2 < 2 ^ 31 := by omega
    have d_sz2 : (saf a2).toNatClampNeg = sz2 := by rw [es2]; exact nI_clamp bd5
    have bd6 : lz2 < 2 ^ 31 := by omega
    have d_lz2 : (lnf a2).toNatClampNeg = lz2 := by rw [el2]; exact nI_clamp bd6
    have bd7 : dz2 < 2 ^ 31 := by omega
    have d_dz2 : (dpf a2).toNatClampNeg = dz2 := by rw [ed2]; exact nI_clamp bd7
    refine lv_iload_n hx hb dX8_rule_12 rfl (lv_at hl 1 rfl) ?_
    refine lv_i2l hx hb dX8_rule_13 rfl ?_
    refine lv_lconst (v := 0) hx hb dX8_rule_14 (by decide) ?_
    refine lv_ldc2 hx hb hown (hts _ zk_908) dX8_rule_15 ?_
    refine zz_iS (As := [.long x1.toInt64, .long 0, .long 5]) (wc := []) (wr := [cw_i g a_kindOf 60 kdf, cw_i g a_depthOf 60 dpf, cw_i g a_lengthOf 60 lnf, cw_i g a_baseOf 60 saf, cw_i g a_ruleSort 12 rsf, cw_i g a_ruleArray 12 juf, cw_i g a_ruleWeight 12 wef, cw_l g a_ruleLow 12 lof, cw_l g a_ruleHigh 12 hif, cw_k7 h0 (nI na) (nI ne) a_kindOf a_depthOf a_lengthOf a_classOf a_baseOf a_bits a_pinned i_code a_lengths a_stackArray a_stackOther a_stackAt i_lastArray i_lastPlace a_path a_held a_alike a_hashes (nI nd) a_decisionArray a_decisionPlace a_candidateMany a_candidates (nI nr) a_ruleSort a_ruleArray a_ruleWeight a_ruleLow a_ruleHigh a_chosen a_bestOf (nI nm) a_markElements a_markBits a_markPins]) (rest := []) hC hZ hs hl zc_X8_106 (cm_within g x1.toInt64 0 5) [] [0, 1, 2, 3, 4, 5, 6, 7, 8, 9] rfl rfl (by decide +kernel) rfl rfl (Nat.le_of_ble_eq_true rfl) ⟨⟨Nat.le_of_ble_eq_true rfl, Nat.le_of_ble_eq_true rfl⟩, Nat.le_of_ble_eq_true rfl, Nat.le_of_ble_eq_true rfl⟩ dX8_rule_18 (fun r8 u9 H locs hp hZ => ?_)
    obtain ⟨rfl, rfl⟩ := hp
    have hZ : zz_Z g A s.heap [cw_i g a_kindOf 60 kdf, cw_i g a_depthOf 60 dpf, cw_i g a_lengthOf 60 lnf, cw_i g a_baseOf 60 saf, cw_i g a_ruleSort 12 rsf, cw_i g a_ruleArray 12 juf, cw_i g a_ruleWeight 12 wef, cw_l g a_ruleLow 12 lof, cw_l g a_ruleHigh 12 hif, cw_k7 h0 (nI na) (nI ne) a_kindOf a_depthOf a_lengthOf a_classOf a_baseOf a_bits a_pinned i_code a_lengths a_stackArray a_stackOther a_stackAt i_lastArray i_lastPlace a_path a_held a_alike a_hashes (nI nd) a_decisionArray a_decisionPlace a_candidateMany a_candidates (nI nr) a_ruleSort a_ruleArray a_ruleWeight a_ruleLow a_ruleHigh a_chosen a_bestOf (nI nm) a_markElements a_markBits a_markPins] H locs := hZ
    refine lv_if_eq (tgt := 57) hx hb dX8_rule_21 (by decide) (fun c10 => ?_) (fun c10 => ?_)
    · refine lv_bipush (v := 9) hx hb dX8_rule_57 (by decide) ?_
      refine lv_goto (tgt := 91) hx hb dX8_rule_59 (by decide) ?_
      refine lv_istore (lv' := [(8, .int 9), (0, .ref h0), (1, .int x1), (2, .int (nI a2)), (3, .int x3), (4, .long x4), (6, .long x5)]) hx hb dX8_rule_91 hl (by decide) rfl (fun ls hl => ?_)
      refine lv_iload hx hb dX8_rule_93 (lv_at hl 0 rfl) ?_
      refine lv_if_le (tgt := 105) hx hb dX8_rule_95 (by decide) (fun c => absurd c (by decide)) (fun c11 => ?_)
      refine lv_aload_n hx hb dX8_rule_98 rfl (lv_at hl 1 rfl) ?_
      refine lv_iload hx hb dX8_rule_99 (lv_at hl 0 rfl) ?_
      refine zz_iV (As := [.int 9]) (wc := [cw_k7 h0 (nI na) (nI ne) a_kindOf a_depthOf a_lengthOf a_classOf a_baseOf a_bits a_pinned i_code a_lengths a_stackArray a_stackOther a_stackAt i_lastArray i_lastPlace a_path a_held a_alike a_hashes (nI nd) a_decisionArray a_decisionPlace a_candidateMany a_candidates (nI nr) a_ruleSort a_ruleArray a_ruleWeight a_ruleLow a_ruleHigh a_chosen a_bestOf (nI nm) a_markElements a_markBits a_markPins]) (wr := [cw_i g a_kindOf 60 kdf, cw_i g a_depthOf 60 dpf, cw_i g a_lengthOf 60 lnf, cw_i g a_baseOf 60 saf, cw_i g a_ruleSort 12 rsf, cw_i g a_ruleArray 12 juf, cw_i g a_ruleWeight 12 wef, cw_l g a_ruleLow 12 lof, cw_l g a_ruleHigh 12 hif]) (rest := []) hC hZ hs hl zc_X8_175 (cm_fails g h0 a_kindOf a_depthOf a_lengthOf a_classOf a_baseOf a_bits a_pinned a_lengths a_stackArray a_stackOther a_stackAt a_path a_held a_alike a_hashes a_decisionArray a_decisionPlace a_candidateMany a_candidates a_ruleSort a_ruleArray a_ruleWeight a_ruleLow a_ruleHigh a_chosen a_bestOf a_markElements a_markBits a_markPins (nI na) (nI ne) i_code i_lastArray i_lastPlace (nI nd) (nI nr) (nI nm) 9) [9] [0, 1, 2, 3, 4, 5, 6, 7, 8] rfl rfl (by decide +kernel) (ci := 7) (q0 := 0) rfl rfl rfl rfl (Nat.le_of_ble_eq_true rfl) ⟨⟨Nat.le_of_ble_eq_true rfl, Nat.le_of_ble_eq_true rfl⟩, Nat.le_of_ble_eq_true rfl, Nat.le_of_ble_eq_true rfl⟩ dX8_rule_101 (fun r12 u13 H locs hp hZ => ?_)
      obtain ⟨rfl, rfl⟩ := hp
      have hZ : zz_Z g A s.heap [cw_i g a_kindOf 60 kdf, cw_i g a_depthOf 60 dpf, cw_i g a_lengthOf 60 lnf, cw_i g a_baseOf 60 saf, cw_i g a_ruleSort 12 rsf, cw_i g a_ruleArray 12 juf, cw_i g a_ruleWeight 12 wef, cw_l g a_ruleLow 12 lof, cw_l g a_ruleHigh 12 hif, cw_k7 h0 (nI na) (nI ne) a_kindOf a_depthOf a_lengthOf a_classOf a_baseOf a_bits a_pinned 9 a_lengths a_stackArray a_stackOther a_stackAt i_lastArray i_lastPlace a_path a_held a_alike a_hashes (nI nd) a_decisionArray a_decisionPlace a_candidateMany a_candidates (nI nr) a_ruleSort a_ruleArray a_ruleWeight a_ruleLow a_ruleHigh a_chosen a_bestOf (nI nm) a_markElements a_markBits a_markPins] H locs := hZ
      have hZ : zz_Z g A s.heap [cw_k7 h0 (nI na) (nI ne) a_kindOf a_depthOf a_lengthOf a_classOf a_baseOf a_bits a_pinned 9 a_lengths a_stackArray a_stackOther a_stackAt i_lastArray i_lastPlace a_path a_held a_alike a_hashes (nI nd) a_decisionArray a_decisionPlace a_candidateMany a_candidates (nI nr) a_ruleSort a_ruleArray a_ruleWeight a_ruleLow a_ruleHigh a_chosen a_bestOf (nI nm) a_markElements a_markBits a_markPins, cw_i g a_kindOf 60 kdf, cw_i g a_depthOf 60 dpf, cw_i g a_lengthOf 60 lnf, cw_i g a_baseOf 60 saf, cw_i g a_ruleSort 12 rsf, cw_i g a_ruleArray 12 juf, cw_i g a_ruleWeight 12 wef, cw_l g a_ruleLow 12 lof, cw_l g a_ruleHigh 12 hif] H locs := hZ.sub [9, 0, 1, 2, 3, 4, 5, 6, 7, 8] (by decide +kernel) rfl
      exact zz_iret hC hZ (⟨9, i_lastArray, i_lastPlace, nr, rsf, juf, wef, lof, hif, by refine Eq.symm ?_; rw [fo_my_rule]; refine (if_neg (by (try simp only [d_a2, d_sz2, d_lz2, d_dz2]); exact c3)).trans ?_; refine (if_pos (by (try simp only [d_a2, d_sz2, d_lz2, d_dz2]); exact c10)).trans ?_; first | (simp only [d_a2, d_sz2, d_lz2, d_dz2]; done) | rfl, h_R, rfl⟩) (Nat.le_of_ble_eq_true rfl) (Nat.le_of_ble_eq_true rfl) dX8_rule_104
    · refine lv_iload_n hx hb dX8_rule_24 rfl (lv_at hl 3 rfl) ?_
      refine lv_i2l hx hb dX8_rule_25 rfl ?_
      refine lv_ldc2 hx hb hown (hts _ zk_1073) dX8_rule_26 ?_
      refine lv_ldc2 hx hb hown (hts _ zk_968) dX8_rule_29 ?_
      refine zz_iS (As := [.long x3.toInt64, .long (-1000), .long 1000]) (wc := []) (wr := [cw_i g a_kindOf 60 kdf, cw_i g a_depthOf 60 dpf, cw_i g a_lengthOf 60 lnf, cw_i g a_baseOf 60 saf, cw_i g a_ruleSort 12 rsf, cw_i g a_ruleArray 12 juf, cw_i g a_ruleWeight 12 wef, cw_l g a_ruleLow 12 lof, cw_l g a_ruleHigh 12 hif, cw_k7 h0 (nI na) (nI ne) a_kindOf a_depthOf a_lengthOf a_classOf a_baseOf a_bits a_pinned i_code a_lengths a_stackArray a_stackOther a_stackAt i_lastArray i_lastPlace a_path a_held a_alike a_hashes (nI nd) a_decisionArray a_decisionPlace a_candidateMany a_candidates (nI nr) a_ruleSort a_ruleArray a_ruleWeight a_ruleLow a_ruleHigh a_chosen a_bestOf (nI nm) a_markElements a_markBits a_markPins]) (rest := []) hC hZ hs hl zc_X8_106 (cm_within g x3.toInt64 (-1000) 1000) [] [0, 1, 2, 3, 4, 5, 6, 7, 8, 9] rfl rfl (by decide +kernel) rfl rfl (Nat.le_of_ble_eq_true rfl) ⟨⟨Nat.le_of_ble_eq_true rfl, Nat.le_of_ble_eq_true rfl⟩, Nat.le_of_ble_eq_true rfl, Nat.le_of_ble_eq_true rfl⟩ dX8_rule_32 (fun r14 u15 H locs hp hZ => ?_)
      obtain ⟨rfl, rfl⟩ := hp
      have hZ : zz_Z g A s.heap [cw_i g a_kindOf 60 kdf, cw_i g a_depthOf 60 dpf, cw_i g a_lengthOf 60 lnf, cw_i g a_baseOf 60 saf, cw_i g a_ruleSort 12 rsf, cw_i g a_ruleArray 12 juf, cw_i g a_ruleWeight 12 wef, cw_l g a_ruleLow 12 lof, cw_l g a_ruleHigh 12 hif, cw_k7 h0 (nI na) (nI ne) a_kindOf a_depthOf a_lengthOf a_classOf a_baseOf a_bits a_pinned i_code a_lengths a_stackArray a_stackOther a_stackAt i_lastArray i_lastPlace a_path a_held a_alike a_hashes (nI nd) a_decisionArray a_decisionPlace a_candidateMany a_candidates (nI nr) a_ruleSort a_ruleArray a_ruleWeight a_ruleLow a_ruleHigh a_chosen a_bestOf (nI nm) a_markElements a_markBits a_markPins] H locs := hZ
      refine lv_if_eq (tgt := 57) hx hb dX8_rule_35 (by decide) (fun c16 => ?_) (fun c16 => ?_)
      · refine lv_bipush (v := 9) hx hb dX8_rule_57 (by decide) ?_
        refine lv_goto (tgt := 91) hx hb dX8_rule_59 (by decide) ?_
        refine lv_istore (lv' := [(8, .int 9), (0, .ref h0), (1, .int x1), (2, .int (nI a2)), (3, .int x3), (4, .long x4), (6, .long x5)]) hx hb dX8_rule_91 hl (by decide) rfl (fun ls hl => ?_)
        refine lv_iload hx hb dX8_rule_93 (lv_at hl 0 rfl) ?_
        refine lv_if_le (tgt := 105) hx hb dX8_rule_95 (by decide) (fun c => absurd c (by decide)) (fun c17 => ?_)
        refine lv_aload_n hx hb dX8_rule_98 rfl (lv_at hl 1 rfl) ?_
        refine lv_iload hx hb dX8_rule_99 (lv_at hl 0 rfl) ?_
        refine zz_iV (As := [.int 9]) (wc := [cw_k7 h0 (nI na) (nI ne) a_kindOf a_depthOf a_lengthOf a_classOf a_baseOf a_bits a_pinned i_code a_lengths a_stackArray a_stackOther a_stackAt i_lastArray i_lastPlace a_path a_held a_alike a_hashes (nI nd) a_decisionArray a_decisionPlace a_candidateMany a_candidates (nI nr) a_ruleSort a_ruleArray a_ruleWeight a_ruleLow a_ruleHigh a_chosen a_bestOf (nI nm) a_markElements a_markBits a_markPins]) (wr := [cw_i g a_kindOf 60 kdf, cw_i g a_depthOf 60 dpf, cw_i g a_lengthOf 60 lnf, cw_i g a_baseOf 60 saf, cw_i g a_ruleSort 12 rsf, cw_i g a_ruleArray 12 juf, cw_i g a_ruleWeight 12 wef, cw_l g a_ruleLow 12 lof, cw_l g a_ruleHigh 12 hif]) (rest := []) hC hZ hs hl zc_X8_175 (cm_fails g h0 a_kindOf a_depthOf a_lengthOf a_classOf a_baseOf a_bits a_pinned a_lengths a_stackArray a_stackOther a_stackAt a_path a_held a_alike a_hashes a_decisionArray a_decisionPlace a_candidateMany a_candidates a_ruleSort a_ruleArray a_ruleWeight a_ruleLow a_ruleHigh a_chosen a_bestOf a_markElements a_markBits a_markPins (nI na) (nI ne) i_code i_lastArray i_lastPlace (nI nd) (nI nr) (nI nm) 9) [9] [0, 1, 2, 3, 4, 5, 6, 7, 8] rfl rfl (by decide +kernel) (ci := 7) (q0 := 0) rfl rfl rfl rfl (Nat.le_of_ble_eq_true rfl) ⟨⟨Nat.le_of_ble_eq_true rfl, Nat.le_of_ble_eq_true rfl⟩, Nat.le_of_ble_eq_true rfl, Nat.le_of_ble_eq_true rfl⟩ dX8_rule_101 (fun r18 u19 H locs hp hZ => ?_)
        obtain ⟨rfl, rfl⟩ := hp
        have hZ : zz_Z g A s.heap [cw_i g a_kindOf 60 kdf, cw_i g a_depthOf 60 dpf, cw_i g a_lengthOf 60 lnf, cw_i g a_baseOf 60 saf, cw_i g a_ruleSort 12 rsf, cw_i g a_ruleArray 12 juf, cw_i g a_ruleWeight 12 wef, cw_l g a_ruleLow 12 lof, cw_l g a_ruleHigh 12 hif, cw_k7 h0 (nI na) (nI ne) a_kindOf a_depthOf a_lengthOf a_classOf a_baseOf a_bits a_pinned 9 a_lengths a_stackArray a_stackOther a_stackAt i_lastArray i_lastPlace a_path a_held a_alike a_hashes (nI nd) a_decisionArray a_decisionPlace a_candidateMany a_candidates (nI nr) a_ruleSort a_ruleArray a_ruleWeight a_ruleLow a_ruleHigh a_chosen a_bestOf (nI nm) a_markElements a_markBits a_markPins] H locs := hZ
        have hZ : zz_Z g A s.heap [cw_k7 h0 (nI na) (nI ne) a_kindOf a_depthOf a_lengthOf a_classOf a_baseOf a_bits a_pinned 9 a_lengths a_stackArray a_stackOther a_stackAt i_lastArray i_lastPlace a_path a_held a_alike a_hashes (nI nd) a_decisionArray a_decisionPlace a_candidateMany a_candidates (nI nr) a_ruleSort a_ruleArray a_ruleWeight a_ruleLow a_ruleHigh a_chosen a_bestOf (nI nm) a_markElements a_markBits a_markPins, cw_i g a_kindOf 60 kdf, cw_i g a_depthOf 60 dpf, cw_i g a_lengthOf 60 lnf, cw_i g a_baseOf 60 saf, cw_i g a_ruleSort 12 rsf, cw_i g a_ruleArray 12 juf, cw_i g a_ruleWeight 12 wef, cw_l g a_ruleLow 12 lof, cw_l g a_ruleHigh 12 hif] H locs := hZ.sub [9, 0, 1, 2, 3, 4, 5, 6, 7, 8] (by decide +kernel) rfl
        exact zz_iret hC hZ (⟨9, i_lastArray, i_lastPlace, nr, rsf, juf, wef, lof, hif, by refine Eq.symm ?_; rw [fo_my_rule]; refine (if_neg (by (try simp only [d_a2, d_sz2, d_lz2, d_dz2]); exact c3)).trans ?_; refine (if_neg (by (try simp only [d_a2, d_sz2, d_lz2, d_dz2]); exact c10)).trans ?_; refine (if_pos (by (try simp only [d_a2, d_sz2, d_lz2, d_dz2]); exact c16)).trans ?_; first | (simp only [d_a2, d_sz2, d_lz2, d_dz2]; done) | rfl, h_R, rfl⟩) (Nat.le_of_ble_eq_true rfl) (Nat.le_of_ble_eq_true rfl) dX8_rule_104
      · refine lv_iload_n hx hb dX8_rule_38 rfl (lv_at hl 1 rfl) ?_
        refine lv_iconst (v := 3) hx hb dX8_rule_39 (by decide) ?_
        refine lv_icmp_ne (tgt := 62) hx hb dX8_rule_40 (by decide) (fun c20 => ?_) (fun c20 => ?_)
        · refine lv_aload_n hx hb dX8_rule_62 rfl (lv_at hl 0 rfl) ?_
          refine zz_get hC hZ 9 rfl zf_X8_13 rfl dX8_rule_63 ?_
          refine lv_iload_n hx hb dX8_rule_66 rfl (lv_at hl 2 rfl) ?_
          have bd21 : a2 < 60 := by omega
          refine zz_ialdn hC hZ 1 rfl bd21 (by decide) dX8_rule_67 ?_
          refine zz_topi (v := nI dz2) (ed2) ?_
          refine lv_iconst (v := 1) hx hb dX8_rule_68 (by decide) ?_
          refine lv_icmp_le (tgt := 76) hx hb dX8_rule_69 (by decide) (fun c22 => ?_) (fun c22 => ?_)
          · have nc22 : dz2 ≤ 1 := (nI_leI bd7 (by decide)).mp (show nI (dz2) ≤ nI (1) from c22)
            refine lv_aload_n hx hb dX8_rule_76 rfl (lv_at hl 0 rfl) ?_
            refine zz_get hC hZ 9 rfl zf_X8_265 rfl dX8_rule_77 ?_
            refine lv_bipush (v := 12) hx hb dX8_rule_80 (by decide) ?_
            have bd24 : nr < 2 ^ 31 := by omega
            refine lv_icmp_ne (tgt := 90) hx hb dX8_rule_82 (by decide) (fun c23 => ?_) (fun c23 => ?_)
            · have nc23 : ¬ nr = 12 := fun zq => c23 (show nI (nr) = nI (12) from (nI_eq bd24 (by decide)).mpr zq)
              refine lv_iconst (v := 0) hx hb dX8_rule_90 (by decide) ?_
              refine lv_istore (lv' := [(8, .int 0), (0, .ref h0), (1, .int x1), (2, .int (nI a2)), (3, .int x3), (4, .long x4), (6, .long x5)]) hx hb dX8_rule_91 hl (by decide) rfl (fun ls hl => ?_)
              refine lv_iload hx hb dX8_rule_93 (lv_at hl 0 rfl) ?_
              refine lv_if_le (tgt := 105) hx hb dX8_rule_95 (by decide) (fun c25 => ?_) (fun c => absurd (by decide) c)
              refine lv_aload_n hx hb dX8_rule_105 rfl (lv_at hl 1 rfl) ?_
              refine zz_get hC hZ 9 rfl zf_X8_69 rfl dX8_rule_106 ?_
              refine lv_aload_n hx hb dX8_rule_109 rfl (lv_at hl 1 rfl) ?_
              refine zz_get hC hZ 9 rfl zf_X8_265 rfl dX8_rule_110 ?_
              refine lv_iload_n hx hb dX8_rule_113 rfl (lv_at hl 2 rfl) ?_
              have bd26 : nr < 12 := by omega
              refine zz_iastn hC hZ 4 rfl bd26 (by decide) dX8_rule_114 (fun H locs hZ => ?_)
              have hZ : zz_Z g A s.heap [cw_i g a_kindOf 60 kdf, cw_i g a_depthOf 60 dpf, cw_i g a_lengthOf 60 lnf, cw_i g a_baseOf 60 saf, cw_i g a_ruleSort 12 (upd rsf nr x1), cw_i g a_ruleArray 12 juf, cw_i g a_ruleWeight 12 wef, cw_l g a_ruleLow 12 lof, cw_l g a_ruleHigh 12 hif, cw_k7 h0 (nI na) (nI ne) a_kindOf a_depthOf a_lengthOf a_classOf a_baseOf a_bits a_pinned i_code a_lengths a_stackArray a_stackOther a_stackAt i_lastArray i_lastPlace a_path a_held a_alike a_hashes (nI nd) a_decisionArray a_decisionPlace a_candidateMany a_candidates (nI nr) a_ruleSort a_ruleArray a_ruleWeight a_ruleLow a_ruleHigh a_chosen a_bestOf (nI nm) a_markElements a_markBits a_markPins] H locs := hZ
              refine lv_aload_n hx hb dX8_rule_115 rfl (lv_at hl 1 rfl) ?_
              refine zz_get hC hZ 9 rfl zf_X8_72 rfl dX8_rule_116 ?_
              refine lv_aload_n hx hb dX8_rule_119 rfl (lv_at hl 1 rfl) ?_
              refine zz_get hC hZ 9 rfl zf_X8_265 rfl dX8_rule_120 ?_
              refine lv_iload_n hx hb dX8_rule_123 rfl (lv_at hl 3 rfl) ?_
              refine zz_iastn hC hZ 5 rfl bd26 (by decide) dX8_rule_124 (fun H locs hZ => ?_)
              have hZ : zz_Z g A s.heap [cw_i g a_kindOf 60 kdf, cw_i g a_depthOf 60 dpf, cw_i g a_lengthOf 60 lnf, cw_i g a_baseOf 60 saf, cw_i g a_ruleSort 12 (upd rsf nr x1), cw_i g a_ruleArray 12 (upd juf nr (nI a2)), cw_i g a_ruleWeight 12 wef, cw_l g a_ruleLow 12 lof, cw_l g a_ruleHigh 12 hif, cw_k7 h0 (nI na) (nI ne) a_kindOf a_depthOf a_lengthOf a_classOf a_baseOf a_bits a_pinned i_code a_lengths a_stackArray a_stackOther a_stackAt i_lastArray i_lastPlace a_path a_held a_alike a_hashes (nI nd) a_decisionArray a_decisionPlace a_candidateMany a_candidates (nI nr) a_ruleSort a_ruleArray a_ruleWeight a_ruleLow a_ruleHigh a_chosen a_bestOf (nI nm) a_markElements a_markBits a_markPins] H locs := hZ
              refine lv_aload_n hx hb dX8_rule_125 rfl (lv_at hl 1 rfl) ?_
              refine zz_get hC hZ 9 rfl zf_X8_75 rfl dX8_rule_126 ?_
              refine lv_aload_n hx hb dX8_rule_129 rfl (lv_at hl 1 rfl) ?_
              refine zz_get hC hZ 9 rfl zf_X8_265 rfl dX8_rule_130 ?_
              refine lv_iload_n hx hb dX8_rule_133 rfl (lv_at hl 4 rfl) ?_
              refine zz_iastn hC hZ 6 rfl bd26 (by decide) dX8_rule_134 (fun H locs hZ => ?_)
              have hZ : zz_Z g A s.heap [cw_i g a_kindOf 60 kdf, cw_i g a_depthOf 60 dpf, cw_i g a_lengthOf 60 lnf, cw_i g a_baseOf 60 saf, cw_i g a_ruleSort 12 (upd rsf nr x1), cw_i g a_ruleArray 12 (upd juf nr (nI a2)), cw_i g a_ruleWeight 12 (upd wef nr x3), cw_l g a_ruleLow 12 lof, cw_l g a_ruleHigh 12 hif, cw_k7 h0 (nI na) (nI ne) a_kindOf a_depthOf a_lengthOf a_classOf a_baseOf a_bits a_pinned i_code a_lengths a_stackArray a_stackOther a_stackAt i_lastArray i_lastPlace a_path a_held a_alike a_hashes (nI nd) a_decisionArray a_decisionPlace a_candidateMany a_candidates (nI nr) a_ruleSort a_ruleArray a_ruleWeight a_ruleLow a_ruleHigh a_chosen a_bestOf (nI nm) a_markElements a_markBits a_markPins] H locs := hZ
              refine lv_aload_n hx hb dX8_rule_135 rfl (lv_at hl 1 rfl) ?_
              refine zz_get hC hZ 9 rfl zf_X8_78 rfl dX8_rule_136 ?_
              refine lv_aload_n hx hb dX8_rule_139 rfl (lv_at hl 1 rfl) ?_
              refine zz_get hC hZ 9 rfl zf_X8_265 rfl dX8_rule_140 ?_
              refine lv_iload_n hx hb dX8_rule_143 rfl (lv_at hl 2 rfl) ?_
              refine lv_iconst (v := 3) hx hb dX8_rule_144 (by decide) ?_
              refine lv_icmp_ne (tgt := 162) hx hb dX8_rule_145 (by decide) (fun c27 => ?_) (fun c => absurd c (c20))
              refine lv_lload hx hb dX8_rule_162 (lv_at hl 5 rfl) ?_
              refine zz_lastn hC hZ 7 rfl bd26 (by decide) dX8_rule_164 (fun H locs hZ => ?_)
              have hZ : zz_Z g A s.heap [cw_i g a_kindOf 60 kdf, cw_i g a_depthOf 60 dpf, cw_i g a_lengthOf 60 lnf, cw_i g a_baseOf 60 saf, cw_i g a_ruleSort 12 (upd rsf nr x1), cw_i g a_ruleArray 12 (upd juf nr (nI a2)), cw_i g a_ruleWeight 12 (upd wef nr x3), cw_l g a_ruleLow 12 (vp_updL lof nr x4), cw_l g a_ruleHigh 12 hif, cw_k7 h0 (nI na) (nI ne) a_kindOf a_depthOf a_lengthOf a_classOf a_baseOf a_bits a_pinned i_code a_lengths a_stackArray a_stackOther a_stackAt i_lastArray i_lastPlace a_path a_held a_alike a_hashes (nI nd) a_decisionArray a_decisionPlace a_candidateMany a_candidates (nI nr) a_ruleSort a_ruleArray a_ruleWeight a_ruleLow a_ruleHigh a_chosen a_bestOf (nI nm) a_markElements a_markBits a_markPins] H locs := hZ
              refine lv_aload_n hx hb dX8_rule_165 rfl (lv_at hl 1 rfl) ?_
              refine zz_get hC hZ 9 rfl zf_X8_81 rfl dX8_rule_166 ?_
              refine lv_aload_n hx hb dX8_rule_169 rfl (lv_at hl 1 rfl) ?_
              refine zz_get hC hZ 9 rfl zf_X8_265 rfl dX8_rule_170 ?_
              refine lv_lload hx hb dX8_rule_173 (lv_at hl 6 rfl) ?_
              refine zz_lastn hC hZ 8 rfl bd26 (by decide) dX8_rule_175 (fun H locs hZ => ?_)
              have hZ : zz_Z g A s.heap [cw_i g a_kindOf 60 kdf, cw_i g a_depthOf 60 dpf, cw_i g a_lengthOf 60 lnf, cw_i g a_baseOf 60 saf, cw_i g a_ruleSort 12 (upd rsf nr x1), cw_i g a_ruleArray 12 (upd juf nr (nI a2)), cw_i g a_ruleWeight 12 (upd wef nr x3), cw_l g a_ruleLow 12 (vp_updL lof nr x4), cw_l g a_ruleHigh 12 (vp_updL hif nr x5), cw_k7 h0 (nI na) (nI ne) a_kindOf a_depthOf a_lengthOf a_classOf a_baseOf a_bits a_pinned i_code a_lengths a_stackArray a_stackOther a_stackAt i_lastArray i_lastPlace a_path a_held a_alike a_hashes (nI nd) a_decisionArray a_decisionPlace a_candidateMany a_candidates (nI nr) a_ruleSort a_ruleArray a_ruleWeight a_ruleLow a_ruleHigh a_chosen a_bestOf (nI nm) a_markElements a_markBits a_markPins] H locs := hZ
              refine lv_aload_n hx hb dX8_rule_176 rfl (lv_at hl 1 rfl) ?_
              refine lv_dup hx hb dX8_rule_177 rfl ?_
              refine zz_get hC hZ 9 rfl zf_X8_265 rfl dX8_rule_178 ?_
              refine lv_iconst (v := 1) hx hb dX8_rule_181 (by decide) ?_
              refine lv_iadd hx hb dX8_rule_182 ?_
              refine zz_topi (v := nI (nr + 1)) (nI_1 _) ?_
              refine zz_put hC hZ 9 rfl zu_X8_265 (Nat.le_of_ble_eq_true rfl) dX8_rule_183 (fun H locs hZ => ?_)
              have hZ : zz_Z g A s.heap [cw_i g a_kindOf 60 kdf, cw_i g a_depthOf 60 dpf, cw_i g a_lengthOf 60 lnf, cw_i g a_baseOf 60 saf, cw_i g a_ruleSort 12 (upd rsf nr x1), cw_i g a_ruleArray 12 (upd juf nr (nI a2)), cw_i g a_ruleWeight 12 (upd wef nr x3), cw_l g a_ruleLow 12 (vp_updL lof nr x4), cw_l g a_ruleHigh 12 (vp_updL hif nr x5), cw_k7 h0 (nI na) (nI ne) a_kindOf a_depthOf a_lengthOf a_classOf a_baseOf a_bits a_pinned i_code a_lengths a_stackArray a_stackOther a_stackAt i_lastArray i_lastPlace a_path a_held a_alike a_hashes (nI nd) a_decisionArray a_decisionPlace a_candidateMany a_candidates (nI (nr + 1)) a_ruleSort a_ruleArray a_ruleWeight a_ruleLow a_ruleHigh a_chosen a_bestOf (nI nm) a_markElements a_markBits a_markPins] H locs := hZ
              refine lv_aload_n hx hb dX8_rule_186 rfl (lv_at hl 1 rfl) ?_
              refine lv_aload_n hx hb dX8_rule_187 rfl (lv_at hl 1 rfl) ?_
              refine zz_get hC hZ 9 rfl zf_X8_265 rfl dX8_rule_188 ?_
              refine lv_iconst (v := 1) hx hb dX8_rule_191 (by decide) ?_
              refine lv_isub hx hb dX8_rule_192 ?_
              refine zz_topi (v := nI nr) (nI_pred _) ?_
              refine zz_iV (As := [.int (nI nr)]) (wc := [cw_k7 h0 (nI na) (nI ne) a_kindOf a_depthOf a_lengthOf a_classOf a_baseOf a_bits a_pinned i_code a_lengths a_stackArray a_stackOther a_stackAt i_lastArray i_lastPlace a_path a_held a_alike a_hashes (nI nd) a_decisionArray a_decisionPlace a_candidateMany a_candidates (nI (nr + 1)) a_ruleSort a_ruleArray a_ruleWeight a_ruleLow a_ruleHigh a_chosen a_bestOf (nI nm) a_markElements a_markBits a_markPins]) (wr := [cw_i g a_kindOf 60 kdf, cw_i g a_depthOf 60 dpf, cw_i g a_lengthOf 60 lnf, cw_i g a_baseOf 60 saf, cw_i g a_ruleSort 12 (upd rsf nr x1), cw_i g a_ruleArray 12 (upd juf nr (nI a2)), cw_i g a_ruleWeight 12 (upd wef nr x3), cw_l g a_ruleLow 12 (vp_updL lof nr x4), cw_l g a_ruleHigh 12 (vp_updL hif nr x5)]) (rest := []) hC hZ hs hl zc_X8_183 (cm_fine g h0 a_kindOf a_depthOf a_lengthOf a_classOf a_baseOf a_bits a_pinned a_lengths a_stackArray a_stackOther a_stackAt a_path a_held a_alike a_hashes a_decisionArray a_decisionPlace a_candidateMany a_candidates a_ruleSort a_ruleArray a_ruleWeight a_ruleLow a_ruleHigh a_chosen a_bestOf a_markElements a_markBits a_markPins (nI na) (nI ne) i_code i_lastArray i_lastPlace (nI nd) (nI (nr + 1)) (nI nm) (nI nr)) [9] [0, 1, 2, 3, 4, 5, 6, 7, 8] rfl rfl (by decide +kernel) (ci := 7) (q0 := 0) rfl rfl rfl rfl (Nat.le_of_ble_eq_true rfl) ⟨⟨Nat.le_of_ble_eq_true rfl, Nat.le_of_ble_eq_true rfl⟩, Nat.le_of_ble_eq_true rfl, Nat.le_of_ble_eq_true rfl⟩ dX8_rule_193 (fun r28 u29 H locs hp hZ => ?_)
              obtain ⟨rfl, rfl⟩ := hp
              have hZ : zz_Z g A s.heap [cw_i g a_kindOf 60 kdf, cw_i g a_depthOf 60 dpf, cw_i g a_lengthOf 60 lnf, cw_i g a_baseOf 60 saf, cw_i g a_ruleSort 12 (upd rsf nr x1), cw_i g a_ruleArray 12 (upd juf nr (nI a2)), cw_i g a_ruleWeight 12 (upd wef nr x3), cw_l g a_ruleLow 12 (vp_updL lof nr x4), cw_l g a_ruleHigh 12 (vp_updL hif nr x5), cw_k7 h0 (nI na) (nI ne) a_kindOf a_depthOf a_lengthOf a_classOf a_baseOf a_bits a_pinned 0 a_lengths a_stackArray a_stackOther a_stackAt i_lastArray i_lastPlace a_path a_held a_alike a_hashes (nI nd) a_decisionArray a_decisionPlace a_candidateMany a_candidates (nI (nr + 1)) a_ruleSort a_ruleArray a_ruleWeight a_ruleLow a_ruleHigh a_chosen a_bestOf (nI nm) a_markElements a_markBits a_markPins] H locs := hZ
              have hZ : zz_Z g A s.heap [cw_k7 h0 (nI na) (nI ne) a_kindOf a_depthOf a_lengthOf a_classOf a_baseOf a_bits a_pinned 0 a_lengths a_stackArray a_stackOther a_stackAt i_lastArray i_lastPlace a_path a_held a_alike a_hashes (nI nd) a_decisionArray a_decisionPlace a_candidateMany a_candidates (nI (nr + 1)) a_ruleSort a_ruleArray a_ruleWeight a_ruleLow a_ruleHigh a_chosen a_bestOf (nI nm) a_markElements a_markBits a_markPins, cw_i g a_kindOf 60 kdf, cw_i g a_depthOf 60 dpf, cw_i g a_lengthOf 60 lnf, cw_i g a_baseOf 60 saf, cw_i g a_ruleSort 12 (upd rsf nr x1), cw_i g a_ruleArray 12 (upd juf nr (nI a2)), cw_i g a_ruleWeight 12 (upd wef nr x3), cw_l g a_ruleLow 12 (vp_updL lof nr x4), cw_l g a_ruleHigh 12 (vp_updL hif nr x5)] H locs := hZ.sub [9, 0, 1, 2, 3, 4, 5, 6, 7, 8] (by decide +kernel) rfl
              exact zz_iret hC hZ (⟨0, i_lastArray, i_lastPlace, (nr + 1), (upd rsf nr x1), (upd juf nr (nI a2)), (upd wef nr x3), (vp_updL lof nr x4), (vp_updL hif nr x5), by refine Eq.symm ?_; rw [fo_my_rule]; refine (if_neg (by (try simp only [d_a2, d_sz2, d_lz2, d_dz2]); exact c3)).trans ?_; refine (if_neg (by (try simp only [d_a2, d_sz2, d_lz2, d_dz2]); exact c10)).trans ?_; refine (if_neg (by (try simp only [d_a2, d_sz2, d_lz2, d_dz2]); exact c16)).trans ?_; refine (if_neg (by (try simp only [d_a2, d_sz2, d_lz2, d_dz2]); exact c20)).trans ?_; refine (if_pos (by (try simp only [d_a2, d_sz2, d_lz2, d_dz2]); exact c22)).trans ?_; refine (if_neg (by (try simp only [d_a2, d_sz2, d_lz2, d_dz2]); exact c23)).trans ?_; first | (simp only [d_a2, d_sz2, d_lz2, d_dz2]; done) | rfl, zl_RIadd h_R (by omega) (by omega) (by omega) es2 el2 (by omega) (by omega), rfl⟩) (Nat.le_of_ble_eq_true rfl) (Nat.le_of_ble_eq_true rfl) dX8_rule_196
            · have nc23 : nr = 12 := (nI_eq bd24 (by decide)).mp (show nI (nr) = nI (12) from c23)
              refine lv_bipush (v := 8) hx hb dX8_rule_85 (by decide) ?_
              refine lv_goto (tgt := 91) hx hb dX8_rule_87 (by decide) ?_
              refine lv_istore (lv' := [(8, .int 8), (0, .ref h0), (1, .int x1), (2, .int (nI a2)), (3, .int x3), (4, .long x4), (6, .long x5)]) hx hb dX8_rule_91 hl (by decide) rfl (fun ls hl => ?_)
              refine lv_iload hx hb dX8_rule_93 (lv_at hl 0 rfl) ?_
              refine lv_if_le (tgt := 105) hx hb dX8_rule_95 (by decide) (fun c => absurd c (by decide)) (fun c30 => ?_)
              refine lv_aload_n hx hb dX8_rule_98 rfl (lv_at hl 1 rfl) ?_
              refine lv_iload hx hb dX8_rule_99 (lv_at hl 0 rfl) ?_
              refine zz_iV (As := [.int 8]) (wc := [cw_k7 h0 (nI na) (nI ne) a_kindOf a_depthOf a_lengthOf a_classOf a_baseOf a_bits a_pinned i_code a_lengths a_stackArray a_stackOther a_stackAt i_lastArray i_lastPlace a_path a_held a_alike a_hashes (nI nd) a_decisionArray a_decisionPlace a_candidateMany a_candidates (nI nr) a_ruleSort a_ruleArray a_ruleWeight a_ruleLow a_ruleHigh a_chosen a_bestOf (nI nm) a_markElements a_markBits a_markPins]) (wr := [cw_i g a_kindOf 60 kdf, cw_i g a_depthOf 60 dpf, cw_i g a_lengthOf 60 lnf, cw_i g a_baseOf 60 saf, cw_i g a_ruleSort 12 rsf, cw_i g a_ruleArray 12 juf, cw_i g a_ruleWeight 12 wef, cw_l g a_ruleLow 12 lof, cw_l g a_ruleHigh 12 hif]) (rest := []) hC hZ hs hl zc_X8_175 (cm_fails g h0 a_kindOf a_depthOf a_lengthOf a_classOf a_baseOf a_bits a_pinned a_lengths a_stackArray a_stackOther a_stackAt a_path a_held a_alike a_hashes a_decisionArray a_decisionPlace a_candidateMany a_candidates a_ruleSort a_ruleArray a_ruleWeight a_ruleLow a_ruleHigh a_chosen a_bestOf a_markElements a_markBits a_markPins (nI na) (nI ne) i_code i_lastArray i_lastPlace (nI nd) (nI nr) (nI nm) 8) [9] [0, 1, 2, 3, 4, 5, 6, 7, 8] rfl rfl (by decide +kernel) (ci := 7) (q0 := 0) rfl rfl rfl rfl (Nat.le_of_ble_eq_true rfl) ⟨⟨Nat.le_of_ble_eq_true rfl, Nat.le_of_ble_eq_true rfl⟩, Nat.le_of_ble_eq_true rfl, Nat.le_of_ble_eq_true rfl⟩ dX8_rule_101 (fun r31 u32 H locs hp hZ => ?_)
              obtain ⟨rfl, rfl⟩ := hp
              have hZ : zz_Z g A s.heap [cw_i g a_kindOf 60 kdf, cw_i g a_depthOf 60 dpf, cw_i g a_lengthOf 60 lnf, cw_i g a_baseOf 60 saf, cw_i g a_ruleSort 12 rsf, cw_i g a_ruleArray 12 juf, cw_i g a_ruleWeight 12 wef, cw_l g a_ruleLow 12 lof, cw_l g a_ruleHigh 12 hif, cw_k7 h0 (nI na) (nI ne) a_kindOf a_depthOf a_lengthOf a_classOf a_baseOf a_bits a_pinned 8 a_lengths a_stackArray a_stackOther a_stackAt i_lastArray i_lastPlace a_path a_held a_alike a_hashes (nI nd) a_decisionArray a_decisionPlace a_candidateMany a_candidates (nI nr) a_ruleSort a_ruleArray a_ruleWeight a_ruleLow a_ruleHigh a_chosen a_bestOf (nI nm) a_markElements a_markBits a_markPins] H locs := hZ
              have hZ : zz_Z g A s.heap [cw_k7 h0 (nI na) (nI ne) a_kindOf a_depthOf a_lengthOf a_classOf a_baseOf a_bits a_pinned 8 a_lengths a_stackArray a_stackOther a_stackAt i_lastArray i_lastPlace a_path a_held a_alike a_hashes (nI nd) a_decisionArray a_decisionPlace a_candidateMany a_candidates (nI nr) a_ruleSort a_ruleArray a_ruleWeight a_ruleLow a_ruleHigh a_chosen a_bestOf (nI nm) a_markElements a_markBits a_markPins, cw_i g a_kindOf 60 kdf, cw_i g a_depthOf 60 dpf, cw_i g a_lengthOf 60 lnf, cw_i g a_baseOf 60 saf, cw_i g a_ruleSort 12 rsf, cw_i g a_ruleArray 12 juf, cw_i g a_ruleWeight 12 wef, cw_l g a_ruleLow 12 lof, cw_l g a_ruleHigh 12 hif] H locs := hZ.sub [9, 0, 1, 2, 3, 4, 5, 6, 7, 8] (by decide +kernel) rfl
              exact zz_iret hC hZ (⟨8, i_lastArray, i_lastPlace, nr, rsf, juf, wef, lof, hif, by refine Eq.symm ?_; rw [fo_my_rule]; refine (if_neg (by (try simp only [d_a2, d_sz2, d_lz2, d_dz2]); exact c3)).trans ?_; refine (if_neg (by (try simp only [d_a2, d_sz2, d_lz2, d_dz2]); exact c10)).trans ?_; refine (if_neg (by (try simp only [d_a2, d_sz2, d_lz2, d_dz2]); exact c16)).trans ?_; refine (if_neg (by (try simp only [d_a2, d_sz2, d_lz2, d_dz2]); exact c20)).trans ?_; refine (if_pos (by (try simp only [d_a2, d_sz2, d_lz2, d_dz2]); exact c22)).trans ?_; refine (if_pos (by (try simp only [d_a2, d_sz2, d_lz2, d_dz2]); exact c23)).trans ?_; first | (simp only [d_a2, d_sz2, d_lz2, d_dz2]; done) | rfl, h_R, rfl⟩) (Nat.le_of_ble_eq_true rfl) (Nat.le_of_ble_eq_true rfl) dX8_rule_104
          · have nc22 : ¬ dz2 ≤ 1 := fun zq => c22 (show nI (dz2) ≤ nI (1) from (nI_leI bd7 (by decide)).mpr zq)
            refine lv_iconst (v := 1) hx hb dX8_rule_72 (by decide) ?_
            refine lv_goto (tgt := 91) hx hb dX8_rule_73 (by decide) ?_
            refine lv_istore (lv' := [(8, .int 1), (0, .ref h0), (1, .int x1), (2, .int (nI a2)), (3, .int x3), (4, .long x4), (6, .long x5)]) hx hb dX8_rule_91 hl (by decide) rfl (fun ls hl => ?_)
            refine lv_iload hx hb dX8_rule_93 (lv_at hl 0 rfl) ?_
            refine lv_if_le (tgt := 105) hx hb dX8_rule_95 (by decide) (fun c => absurd c (by decide)) (fun c33 => ?_)
            refine lv_aload_n hx hb dX8_rule_98 rfl (lv_at hl 1 rfl) ?_
            refine lv_iload hx hb dX8_rule_99 (lv_at hl 0 rfl) ?_
            refine zz_iV (As := [.int 1]) (wc := [cw_k7 h0 (nI na) (nI ne) a_kindOf a_depthOf a_lengthOf a_classOf a_baseOf a_bits a_pinned i_code a_lengths a_stackArray a_stackOther a_stackAt i_lastArray i_lastPlace a_path a_held a_alike a_hashes (nI nd) a_decisionArray a_decisionPlace a_candidateMany a_candidates (nI nr) a_ruleSort a_ruleArray a_ruleWeight a_ruleLow a_ruleHigh a_chosen a_bestOf (nI nm) a_markElements a_markBits a_markPins]) (wr := [cw_i g a_kindOf 60 kdf, cw_i g a_depthOf 60 dpf, cw_i g a_lengthOf 60 lnf, cw_i g a_baseOf 60 saf, cw_i g a_ruleSort 12 rsf, cw_i g a_ruleArray 12 juf, cw_i g a_ruleWeight 12 wef, cw_l g a_ruleLow 12 lof, cw_l g a_ruleHigh 12 hif]) (rest := []) hC hZ hs hl zc_X8_175 (cm_fails g h0 a_kindOf a_depthOf a_lengthOf a_classOf a_baseOf a_bits a_pinned a_lengths a_stackArray a_stackOther a_stackAt a_path a_held a_alike a_hashes a_decisionArray a_decisionPlace a_candidateMany a_candidates a_ruleSort a_ruleArray a_ruleWeight a_ruleLow a_ruleHigh a_chosen a_bestOf a_markElements a_markBits a_markPins (nI na) (nI ne) i_code i_lastArray i_lastPlace (nI nd) (nI nr) (nI nm) 1) [9] [0, 1, 2, 3, 4, 5, 6, 7, 8] rfl rfl (by decide +kernel) (ci := 7) (q0 := 0) rfl rfl rfl rfl (Nat.le_of_ble_eq_true rfl) ⟨⟨Nat.le_of_ble_eq_true rfl, Nat.le_of_ble_eq_true rfl⟩, Nat.le_of_ble_eq_true rfl, Nat.le_of_ble_eq_true rfl⟩ dX8_rule_101 (fun r34 u35 H locs hp hZ => ?_)
            obtain ⟨rfl, rfl⟩ := hp
            have hZ : zz_Z g A s.heap [cw_i g a_kindOf 60 kdf, cw_i g a_depthOf 60 dpf, cw_i g a_lengthOf 60 lnf, cw_i g a_baseOf 60 saf, cw_i g a_ruleSort 12 rsf, cw_i g a_ruleArray 12 juf, cw_i g a_ruleWeight 12 wef, cw_l g a_ruleLow 12 lof, cw_l g a_ruleHigh 12 hif, cw_k7 h0 (nI na) (nI ne) a_kindOf a_depthOf a_lengthOf a_classOf a_baseOf a_bits a_pinned 1 a_lengths a_stackArray a_stackOther a_stackAt i_lastArray i_lastPlace a_path a_held a_alike a_hashes (nI nd) a_decisionArray a_decisionPlace a_candidateMany a_candidates (nI nr) a_ruleSort a_ruleArray a_ruleWeight a_ruleLow a_ruleHigh a_chosen a_bestOf (nI nm) a_markElements a_markBits a_markPins] H locs := hZ
            have hZ : zz_Z g A s.heap [cw_k7 h0 (nI na) (nI ne) a_kindOf a_depthOf a_lengthOf a_classOf a_baseOf a_bits a_pinned 1 a_lengths a_stackArray a_stackOther a_stackAt i_lastArray i_lastPlace a_path a_held a_alike a_hashes (nI nd) a_decisionArray a_decisionPlace a_candidateMany a_candidates (nI nr) a_ruleSort a_ruleArray a_ruleWeight a_ruleLow a_ruleHigh a_chosen a_bestOf (nI nm) a_markElements a_markBits a_markPins, cw_i g a_kindOf 60 kdf, cw_i g a_depthOf 60 dpf, cw_i g a_lengthOf 60 lnf, cw_i g a_baseOf 60 saf, cw_i g a_ruleSort 12 rsf, cw_i g a_ruleArray 12 juf, cw_i g a_ruleWeight 12 wef, cw_l g a_ruleLow 12 lof, cw_l g a_ruleHigh 12 hif] H locs := hZ.sub [9, 0, 1, 2, 3, 4, 5, 6, 7, 8] (by decide +kernel) rfl
            exact zz_iret hC hZ (⟨1, i_lastArray, i_lastPlace, nr, rsf, juf, wef, lof, hif, by refine Eq.symm ?_; rw [fo_my_rule]; refine (if_neg (by (try simp only [d_a2, d_sz2, d_lz2, d_dz2]); exact c3)).trans ?_; refine (if_neg (by (try simp only [d_a2, d_sz2, d_lz2, d_dz2]); exact c10)).trans ?_; refine (if_neg (by (try simp only [d_a2, d_sz2, d_lz2, d_dz2]); exact c16)).trans ?_; refine (if_neg (by (try simp only [d_a2, d_sz2, d_lz2, d_dz2]); exact c20)).trans ?_; refine (if_neg (by (try simp only [d_a2, d_sz2, d_lz2, d_dz2]); exact c22)).trans ?_; first | (simp only [d_a2, d_sz2, d_lz2, d_dz2]; done) | rfl, h_R, rfl⟩) (Nat.le_of_ble_eq_true rfl) (Nat.le_of_ble_eq_true rfl) dX8_rule_104
        · refine lv_aload_n hx hb dX8_rule_43 rfl (lv_at hl 0 rfl) ?_
          refine zz_get hC hZ 9 rfl zf_X8_7 rfl dX8_rule_44 ?_
          refine lv_iload_n hx hb dX8_rule_47 rfl (lv_at hl 2 rfl) ?_
          have bd36 : a2 < 60 := by omega
          refine zz_ialdn hC hZ 0 rfl bd36 (by decide) dX8_rule_48 ?_
          refine lv_lload hx hb dX8_rule_49 (lv_at hl 4 rfl) ?_
          refine zz_iS (As := [.int (kdf a2), .long x4]) (wc := []) (wr := [cw_i g a_kindOf 60 kdf, cw_i g a_depthOf 60 dpf, cw_i g a_lengthOf 60 lnf, cw_i g a_baseOf 60 saf, cw_i g a_ruleSort 12 rsf, cw_i g a_ruleArray 12 juf, cw_i g a_ruleWeight 12 wef, cw_l g a_ruleLow 12 lof, cw_l g a_ruleHigh 12 hif, cw_k7 h0 (nI na) (nI ne) a_kindOf a_depthOf a_lengthOf a_classOf a_baseOf a_bits a_pinned i_code a_lengths a_stackArray a_stackOther a_stackAt i_lastArray i_lastPlace a_path a_held a_alike a_hashes (nI nd) a_decisionArray a_decisionPlace a_candidateMany a_candidates (nI nr) a_ruleSort a_ruleArray a_ruleWeight a_ruleLow a_ruleHigh a_chosen a_bestOf (nI nm) a_markElements a_markBits a_markPins]) (rest := []) hC hZ hs hl zc_X8_230 (cm_isBits g (kdf a2) x4) [] [0, 1, 2, 3, 4, 5, 6, 7, 8, 9] rfl rfl (by decide +kernel) rfl rfl (Nat.le_of_ble_eq_true rfl) ⟨⟨Nat.le_of_ble_eq_true rfl, Nat.le_of_ble_eq_true rfl⟩, Nat.le_of_ble_eq_true rfl, Nat.le_of_ble_eq_true rfl⟩ dX8_rule_51 (fun r37 u38 H locs hp hZ => ?_)
          obtain ⟨rfl, rfl⟩ := hp
          have hZ : zz_Z g A s.heap [cw_i g a_kindOf 60 kdf, cw_i g a_depthOf 60 dpf, cw_i g a_lengthOf 60 lnf, cw_i g a_baseOf 60 saf, cw_i g a_ruleSort 12 rsf, cw_i g a_ruleArray 12 juf, cw_i g a_ruleWeight 12 wef, cw_l g a_ruleLow 12 lof, cw_l g a_ruleHigh 12 hif, cw_k7 h0 (nI na) (nI ne) a_kindOf a_depthOf a_lengthOf a_classOf a_baseOf a_bits a_pinned i_code a_lengths a_stackArray a_stackOther a_stackAt i_lastArray i_lastPlace a_path a_held a_alike a_hashes (nI nd) a_decisionArray a_decisionPlace a_candidateMany a_candidates (nI nr) a_ruleSort a_ruleArray a_ruleWeight a_ruleLow a_ruleHigh a_chosen a_bestOf (nI nm) a_markElements a_markBits a_markPins] H locs := hZ
          refine lv_if_ne (tgt := 62) hx hb dX8_rule_54 (by decide) (fun c39 => ?_) (fun c39 => ?_)
          · refine lv_aload_n hx hb dX8_rule_62 rfl (lv_at hl 0 rfl) ?_
            refine zz_get hC hZ 9 rfl zf_X8_13 rfl dX8_rule_63 ?_
            refine lv_iload_n hx hb dX8_rule_66 rfl (lv_at hl 2 rfl) ?_
            refine zz_ialdn hC hZ 1 rfl bd36 (by decide) dX8_rule_67 ?_
            refine zz_topi (v := nI dz2) (ed2) ?_
            refine lv_iconst (v := 1) hx hb dX8_rule_68 (by decide) ?_
            refine lv_icmp_le (tgt := 76) hx hb dX8_rule_69 (by decide) (fun c40 => ?_) (fun c40 => ?_)
            · have nc40 : dz2 ≤ 1 := (nI_leI bd7 (by decide)).mp (show nI (dz2) ≤ nI (1) from c40)
              refine lv_aload_n hx hb dX8_rule_76 rfl (lv_at hl 0 rfl) ?_
              refine zz_get hC hZ 9 rfl zf_X8_265 rfl dX8_rule_77 ?_
              refine lv_bipush (v := 12) hx hb dX8_rule_80 (by decide) ?_
              have bd42 : nr < 2 ^ 31 := by omega
              refine lv_icmp_ne (tgt := 90) hx hb dX8_rule_82 (by decide) (fun c41 => ?_) (fun c41 => ?_)
              · have nc41 : ¬ nr = 12 := fun zq => c41 (show nI (nr) = nI (12) from (nI_eq bd42 (by decide)).mpr zq)
                refine lv_iconst (v := 0) hx hb dX8_rule_90 (by decide) ?_
                refine lv_istore (lv' := [(8, .int 0), (0, .ref h0), (1, .int x1), (2, .int (nI a2)), (3, .int x3), (4, .long x4), (6, .long x5)]) hx hb dX8_rule_91 hl (by decide) rfl (fun ls hl => ?_)
                refine lv_iload hx hb dX8_rule_93 (lv_at hl 0 rfl) ?_
                refine lv_if_le (tgt := 105) hx hb dX8_rule_95 (by decide) (fun c43 => ?_) (fun c => absurd (by decide) c)
                refine lv_aload_n hx hb dX8_rule_105 rfl (lv_at hl 1 rfl) ?_
                refine zz_get hC hZ 9 rfl zf_X8_69 rfl dX8_rule_106 ?_
                refine lv_aload_n hx hb dX8_rule_109 rfl (lv_at hl 1 rfl) ?_
                refine zz_get hC hZ 9 rfl zf_X8_265 rfl dX8_rule_110 ?_
                refine lv_iload_n hx hb dX8_rule_113 rfl (lv_at hl 2 rfl) ?_
                have bd44 : nr < 12 := by omega
                refine zz_iastn hC hZ 4 rfl bd44 (by decide) dX8_rule_114 (fun H locs hZ => ?_)
                have hZ : zz_Z g A s.heap [cw_i g a_kindOf 60 kdf, cw_i g a_depthOf 60 dpf, cw_i g a_lengthOf 60 lnf, cw_i g a_baseOf 60 saf, cw_i g a_ruleSort 12 (upd rsf nr x1), cw_i g a_ruleArray 12 juf, cw_i g a_ruleWeight 12 wef, cw_l g a_ruleLow 12 lof, cw_l g a_ruleHigh 12 hif, cw_k7 h0 (nI na) (nI ne) a_kindOf a_depthOf a_lengthOf a_classOf a_baseOf a_bits a_pinned i_code a_lengths a_stackArray a_stackOther a_stackAt i_lastArray i_lastPlace a_path a_held a_alike a_hashes (nI nd) a_decisionArray a_decisionPlace a_candidateMany a_candidates (nI nr) a_ruleSort a_ruleArray a_ruleWeight a_ruleLow a_ruleHigh a_chosen a_bestOf (nI nm) a_markElements a_markBits a_markPins] H locs := hZ
                refine lv_aload_n hx hb dX8_rule_115 rfl (lv_at hl 1 rfl) ?_
                refine zz_get hC hZ 9 rfl zf_X8_72 rfl dX8_rule_116 ?_
                refine lv_aload_n hx hb dX8_rule_119 rfl (lv_at hl 1 rfl) ?_
                refine zz_get hC hZ 9 rfl zf_X8_265 rfl dX8_rule_120 ?_
                refine lv_iload_n hx hb dX8_rule_123 rfl (lv_at hl 3 rfl) ?_
                refine zz_iastn hC hZ 5 rfl bd44 (by decide) dX8_rule_124 (fun H locs hZ => ?_)
                have hZ : zz_Z g A s.heap [cw_i g a_kindOf 60 kdf, cw_i g a_depthOf 60 dpf, cw_i g a_lengthOf 60 lnf, cw_i g a_baseOf 60 saf, cw_i g a_ruleSort 12 (upd rsf nr x1), cw_i g a_ruleArray 12 (upd juf nr (nI a2)), cw_i g a_ruleWeight 12 wef, cw_l g a_ruleLow 12 lof, cw_l g a_ruleHigh 12 hif, cw_k7 h0 (nI na) (nI ne) a_kindOf a_depthOf a_lengthOf a_classOf a_baseOf a_bits a_pinned i_code a_lengths a_stackArray a_stackOther a_stackAt i_lastArray i_lastPlace a_path a_held a_alike a_hashes (nI nd) a_decisionArray a_decisionPlace a_candidateMany a_candidates (nI nr) a_ruleSort a_ruleArray a_ruleWeight a_ruleLow a_ruleHigh a_chosen a_bestOf (nI nm) a_markElements a_markBits a_markPins] H locs := hZ
                refine lv_aload_n hx hb dX8_rule_125 rfl (lv_at hl 1 rfl) ?_
                refine zz_get hC hZ 9 rfl zf_X8_75 rfl dX8_rule_126 ?_
                refine lv_aload_n hx hb dX8_rule_129 rfl (lv_at hl 1 rfl) ?_
                refine zz_get hC hZ 9 rfl zf_X8_265 rfl dX8_rule_130 ?_
                refine lv_iload_n hx hb dX8_rule_133 rfl (lv_at hl 4 rfl) ?_
                refine zz_iastn hC hZ 6 rfl bd44 (by decide) dX8_rule_134 (fun H locs hZ => ?_)
                have hZ : zz_Z g A s.heap [cw_i g a_kindOf 60 kdf, cw_i g a_depthOf 60 dpf, cw_i g a_lengthOf 60 lnf, cw_i g a_baseOf 60 saf, cw_i g a_ruleSort 12 (upd rsf nr x1), cw_i g a_ruleArray 12 (upd juf nr (nI a2)), cw_i g a_ruleWeight 12 (upd wef nr x3), cw_l g a_ruleLow 12 lof, cw_l g a_ruleHigh 12 hif, cw_k7 h0 (nI na) (nI ne) a_kindOf a_depthOf a_lengthOf a_classOf a_baseOf a_bits a_pinned i_code a_lengths a_stackArray a_stackOther a_stackAt i_lastArray i_lastPlace a_path a_held a_alike a_hashes (nI nd) a_decisionArray a_decisionPlace a_candidateMany a_candidates (nI nr) a_ruleSort a_ruleArray a_ruleWeight a_ruleLow a_ruleHigh a_chosen a_bestOf (nI nm) a_markElements a_markBits a_markPins] H locs := hZ
                refine lv_aload_n hx hb dX8_rule_135 rfl (lv_at hl 1 rfl) ?_
                refine zz_get hC hZ 9 rfl zf_X8_78 rfl dX8_rule_136 ?_
                refine lv_aload_n hx hb dX8_rule_139 rfl (lv_at hl 1 rfl) ?_
                refine zz_get hC hZ 9 rfl zf_X8_265 rfl dX8_rule_140 ?_
                refine lv_iload_n hx hb dX8_rule_143 rfl (lv_at hl 2 rfl) ?_
                refine lv_iconst (v := 3) hx hb dX8_rule_144 (by decide) ?_
                refine lv_icmp_ne (tgt := 162) hx hb dX8_rule_145 (by decide) (fun c => absurd (c20) c) (fun c45 => ?_)
                refine lv_aload_n hx hb dX8_rule_148 rfl (lv_at hl 1 rfl) ?_
                refine zz_get hC hZ 9 rfl zf_X8_7 rfl dX8_rule_149 ?_
                refine lv_iload_n hx hb dX8_rule_152 rfl (lv_at hl 3 rfl) ?_
                refine zz_ialdn hC hZ 0 rfl bd36 (by decide) dX8_rule_153 ?_
                refine lv_lload hx hb dX8_rule_154 (lv_at hl 5 rfl) ?_
                refine zz_lS (As := [.int (kdf a2), .long x4]) (wc := []) (wr := [cw_i g a_kindOf 60 kdf, cw_i g a_depthOf 60 dpf, cw_i g a_lengthOf 60 lnf, cw_i g a_baseOf 60 saf, cw_i g a_ruleSort 12 (upd rsf nr x1), cw_i g a_ruleArray 12 (upd juf nr (nI a2)), cw_i g a_ruleWeight 12 (upd wef nr x3), cw_l g a_ruleLow 12 lof, cw_l g a_ruleHigh 12 hif, cw_k7 h0 (nI na) (nI ne) a_kindOf a_depthOf a_lengthOf a_classOf a_baseOf a_bits a_pinned i_code a_lengths a_stackArray a_stackOther a_stackAt i_lastArray i_lastPlace a_path a_held a_alike a_hashes (nI nd) a_decisionArray a_decisionPlace a_candidateMany a_candidates (nI nr) a_ruleSort a_ruleArray a_ruleWeight a_ruleLow a_ruleHigh a_chosen a_bestOf (nI nm) a_markElements a_markBits a_markPins]) (rest := [.int (nI nr), .ref a_ruleLow]) hC hZ hs hl zc_X8_150 (cm_plain g (kdf a2) x4) [] [0, 1, 2, 3, 4, 5, 6, 7, 8, 9] rfl rfl (by decide +kernel) rfl rfl (Nat.le_of_ble_eq_true rfl) ⟨⟨Nat.le_of_ble_eq_true rfl, Nat.le_of_ble_eq_true rfl⟩, Nat.le_of_ble_eq_true rfl, Nat.le_of_ble_eq_true rfl⟩ dX8_rule_156 (fun r46 u47 H locs hp hZ => ?_)
                obtain ⟨rfl, rfl⟩ := hp
                have hZ : zz_Z g A s.heap [cw_i g a_kindOf 60 kdf, cw_i g a_depthOf 60 dpf, cw_i g a_lengthOf 60 lnf, cw_i g a_baseOf 60 saf, cw_i g a_ruleSort 12 (upd rsf nr x1), cw_i g a_ruleArray 12 (upd juf nr (nI a2)), cw_i g a_ruleWeight 12 (upd wef nr x3), cw_l g a_ruleLow 12 lof, cw_l g a_ruleHigh 12 hif, cw_k7 h0 (nI na) (nI ne) a_kindOf a_depthOf a_lengthOf a_classOf a_baseOf a_bits a_pinned i_code a_lengths a_stackArray a_stackOther a_stackAt i_lastArray i_lastPlace a_path a_held a_alike a_hashes (nI nd) a_decisionArray a_decisionPlace a_candidateMany a_candidates (nI nr) a_ruleSort a_ruleArray a_ruleWeight a_ruleLow a_ruleHigh a_chosen a_bestOf (nI nm) a_markElements a_markBits a_markPins] H locs := hZ
                refine lv_goto (tgt := 164) hx hb dX8_rule_159 (by decide) ?_
                refine zz_lastn hC hZ 7 rfl bd44 (by decide) dX8_rule_164 (fun H locs hZ => ?_)
                have hZ : zz_Z g A s.heap [cw_i g a_kindOf 60 kdf, cw_i g a_depthOf 60 dpf, cw_i g a_lengthOf 60 lnf, cw_i g a_baseOf 60 saf, cw_i g a_ruleSort 12 (upd rsf nr x1), cw_i g a_ruleArray 12 (upd juf nr (nI a2)), cw_i g a_ruleWeight 12 (upd wef nr x3), cw_l g a_ruleLow 12 (vp_updL lof nr (fn_cm_plain (kdf a2) x4)), cw_l g a_ruleHigh 12 hif, cw_k7 h0 (nI na) (nI ne) a_kindOf a_depthOf a_lengthOf a_classOf a_baseOf a_bits a_pinned i_code a_lengths a_stackArray a_stackOther a_stackAt i_lastArray i_lastPlace a_path a_held a_alike a_hashes (nI nd) a_decisionArray a_decisionPlace a_candidateMany a_candidates (nI nr) a_ruleSort a_ruleArray a_ruleWeight a_ruleLow a_ruleHigh a_chosen a_bestOf (nI nm) a_markElements a_markBits a_markPins] H locs := hZ
                refine lv_aload_n hx hb dX8_rule_165 rfl (lv_at hl 1 rfl) ?_
                refine zz_get hC hZ 9 rfl zf_X8_81 rfl dX8_rule_166 ?_
                refine lv_aload_n hx hb dX8_rule_169 rfl (lv_at hl 1 rfl) ?_
                refine zz_get hC hZ 9 rfl zf_X8_265 rfl dX8_rule_170 ?_
                refine lv_lload hx hb dX8_rule_173 (lv_at hl 6 rfl) ?_
                refine zz_lastn hC hZ 8 rfl bd44 (by decide) dX8_rule_175 (fun H locs hZ => ?_)
                have hZ : zz_Z g A s.heap [cw_i g a_kindOf 60 kdf, cw_i g a_depthOf 60 dpf, cw_i g a_lengthOf 60 lnf, cw_i g a_baseOf 60 saf, cw_i g a_ruleSort 12 (upd rsf nr x1), cw_i g a_ruleArray 12 (upd juf nr (nI a2)), cw_i g a_ruleWeight 12 (upd wef nr x3), cw_l g a_ruleLow 12 (vp_updL lof nr (fn_cm_plain (kdf a2) x4)), cw_l g a_ruleHigh 12 (vp_updL hif nr x5), cw_k7 h0 (nI na) (nI ne) a_kindOf a_depthOf a_lengthOf a_classOf a_baseOf a_bits a_pinned i_code a_lengths a_stackArray a_stackOther a_stackAt i_lastArray i_lastPlace a_path a_held a_alike a_hashes (nI nd) a_decisionArray a_decisionPlace a_candidateMany a_candidates (nI nr) a_ruleSort a_ruleArray a_ruleWeight a_ruleLow a_ruleHigh a_chosen a_bestOf (nI nm) a_markElements a_markBits a_markPins] H locs := hZ
                refine lv_aload_n hx hb dX8_rule_176 rfl (lv_at hl 1 rfl) ?_
                refine lv_dup hx hb dX8_rule_177 rfl ?_
                refine zz_get hC hZ 9 rfl zf_X8_265 rfl dX8_rule_178 ?_
                refine lv_iconst (v := 1) hx hb dX8_rule_181 (by decide) ?_
                refine lv_iadd hx hb dX8_rule_182 ?_
                refine zz_topi (v := nI (nr + 1)) (nI_1 _) ?_
                refine zz_put hC hZ 9 rfl zu_X8_265 (Nat.le_of_ble_eq_true rfl) dX8_rule_183 (fun H locs hZ => ?_)
                have hZ : zz_Z g A s.heap [cw_i g a_kindOf 60 kdf, cw_i g a_depthOf 60 dpf, cw_i g a_lengthOf 60 lnf, cw_i g a_baseOf 60 saf, cw_i g a_ruleSort 12 (upd rsf nr x1), cw_i g a_ruleArray 12 (upd juf nr (nI a2)), cw_i g a_ruleWeight 12 (upd wef nr x3), cw_l g a_ruleLow 12 (vp_updL lof nr (fn_cm_plain (kdf a2) x4)), cw_l g a_ruleHigh 12 (vp_updL hif nr x5), cw_k7 h0 (nI na) (nI ne) a_kindOf a_depthOf a_lengthOf a_classOf a_baseOf a_bits a_pinned i_code a_lengths a_stackArray a_stackOther a_stackAt i_lastArray i_lastPlace a_path a_held a_alike a_hashes (nI nd) a_decisionArray a_decisionPlace a_candidateMany a_candidates (nI (nr + 1)) a_ruleSort a_ruleArray a_ruleWeight a_ruleLow a_ruleHigh a_chosen a_bestOf (nI nm) a_markElements a_markBits a_markPins] H locs := hZ
                refine lv_aload_n hx hb dX8_rule_186 rfl (lv_at hl 1 rfl) ?_
                refine lv_aload_n hx hb dX8_rule_187 rfl (lv_at hl 1 rfl) ?_
                refine zz_get hC hZ 9 rfl zf_X8_265 rfl dX8_rule_188 ?_
                refine lv_iconst (v := 1) hx hb dX8_rule_191 (by decide) ?_
                refine lv_isub hx hb dX8_rule_192 ?_
                refine zz_topi (v := nI nr) (nI_pred _) ?_
                refine zz_iV (As := [.int (nI nr)]) (wc := [cw_k7 h0 (nI na) (nI ne) a_kindOf a_depthOf a_lengthOf a_classOf a_baseOf a_bits a_pinned i_code a_lengths a_stackArray a_stackOther a_stackAt i_lastArray i_lastPlace a_path a_held a_alike a_hashes (nI nd) a_decisionArray a_decisionPlace a_candidateMany a_candidates (nI (nr + 1)) a_ruleSort a_ruleArray a_ruleWeight a_ruleLow a_ruleHigh a_chosen a_bestOf (nI nm) a_markElements a_markBits a_markPins]) (wr := [cw_i g a_kindOf 60 kdf, cw_i g a_depthOf 60 dpf, cw_i g a_lengthOf 60 lnf, cw_i g a_baseOf 60 saf, cw_i g a_ruleSort 12 (upd rsf nr x1), cw_i g a_ruleArray 12 (upd juf nr (nI a2)), cw_i g a_ruleWeight 12 (upd wef nr x3), cw_l g a_ruleLow 12 (vp_updL lof nr (fn_cm_plain (kdf a2) x4)), cw_l g a_ruleHigh 12 (vp_updL hif nr x5)]) (rest := []) hC hZ hs hl zc_X8_183 (cm_fine g h0 a_kindOf a_depthOf a_lengthOf a_classOf a_baseOf a_bits a_pinned a_lengths a_stackArray a_stackOther a_stackAt a_path a_held a_alike a_hashes a_decisionArray a_decisionPlace a_candidateMany a_candidates a_ruleSort a_ruleArray a_ruleWeight a_ruleLow a_ruleHigh a_chosen a_bestOf a_markElements a_markBits a_markPins (nI na) (nI ne) i_code i_lastArray i_lastPlace (nI nd) (nI (nr + 1)) (nI nm) (nI nr)) [9] [0, 1, 2, 3, 4, 5, 6, 7, 8] rfl rfl (by decide +kernel) (ci := 7) (q0 := 0) rfl rfl rfl rfl (Nat.le_of_ble_eq_true rfl) ⟨⟨Nat.le_of_ble_eq_true rfl, Nat.le_of_ble_eq_true rfl⟩, Nat.le_of_ble_eq_true rfl, Nat.le_of_ble_eq_true rfl⟩ dX8_rule_193 (fun r48 u49 H locs hp hZ => ?_)
                obtain ⟨rfl, rfl⟩ := hp
                have hZ : zz_Z g A s.heap [cw_i g a_kindOf 60 kdf, cw_i g a_depthOf 60 dpf, cw_i g a_lengthOf 60 lnf, cw_i g a_baseOf 60 saf, cw_i g a_ruleSort 12 (upd rsf nr x1), cw_i g a_ruleArray 12 (upd juf nr (nI a2)), cw_i g a_ruleWeight 12 (upd wef nr x3), cw_l g a_ruleLow 12 (vp_updL lof nr (fn_cm_plain (kdf a2) x4)), cw_l g a_ruleHigh 12 (vp_updL hif nr x5), cw_k7 h0 (nI na) (nI ne) a_kindOf a_depthOf a_lengthOf a_classOf a_baseOf a_bits a_pinned 0 a_lengths a_stackArray a_stackOther a_stackAt i_lastArray i_lastPlace a_path a_held a_alike a_hashes (nI nd) a_decisionArray a_decisionPlace a_candidateMany a_candidates (nI (nr + 1)) a_ruleSort a_ruleArray a_ruleWeight a_ruleLow a_ruleHigh a_chosen a_bestOf (nI nm) a_markElements a_markBits a_markPins] H locs := hZ
                have hZ : zz_Z g A s.heap [cw_k7 h0 (nI na) (nI ne) a_kindOf a_depthOf a_lengthOf a_classOf a_baseOf a_bits a_pinned 0 a_lengths a_stackArray a_stackOther a_stackAt i_lastArray i_lastPlace a_path a_held a_alike a_hashes (nI nd) a_decisionArray a_decisionPlace a_candidateMany a_candidates (nI (nr + 1)) a_ruleSort a_ruleArray a_ruleWeight a_ruleLow a_ruleHigh a_chosen a_bestOf (nI nm) a_markElements a_markBits a_markPins, cw_i g a_kindOf 60 kdf, cw_i g a_depthOf 60 dpf, cw_i g a_lengthOf 60 lnf, cw_i g a_baseOf 60 saf, cw_i g a_ruleSort 12 (upd rsf nr x1), cw_i g a_ruleArray 12 (upd juf nr (nI a2)), cw_i g a_ruleWeight 12 (upd wef nr x3), cw_l g a_ruleLow 12 (vp_updL lof nr (fn_cm_plain (kdf a2) x4)), cw_l g a_ruleHigh 12 (vp_updL hif nr x5)] H locs := hZ.sub [9, 0, 1, 2, 3, 4, 5, 6, 7, 8] (by decide +kernel) rfl
                exact zz_iret hC hZ (⟨0, i_lastArray, i_lastPlace, (nr + 1), (upd rsf nr x1), (upd juf nr (nI a2)), (upd wef nr x3), (vp_updL lof nr (fn_cm_plain (kdf a2) x4)), (vp_updL hif nr x5), by refine Eq.symm ?_; rw [fo_my_rule]; refine (if_neg (by (try simp only [d_a2, d_sz2, d_lz2, d_dz2]); exact c3)).trans ?_; refine (if_neg (by (try simp only [d_a2, d_sz2, d_lz2, d_dz2]); exact c10)).trans ?_; refine (if_neg (by (try simp only [d_a2, d_sz2, d_lz2, d_dz2]); exact c16)).trans ?_; refine (if_pos (by (try simp only [d_a2, d_sz2, d_lz2, d_dz2]); exact c20)).trans ?_; refine (if_neg (by (try simp only [d_a2, d_sz2, d_lz2, d_dz2]); exact c39)).trans ?_; refine (if_pos (by (try simp only [d_a2, d_sz2, d_lz2, d_dz2]); exact c40)).trans ?_; refine (if_neg (by (try simp only [d_a2, d_sz2, d_lz2, d_dz2]); exact c41)).trans ?_; first | (simp only [d_a2, d_sz2, d_lz2, d_dz2]; done) | rfl, zl_RIadd h_R (by omega) (by omega) (by omega) es2 el2 (by omega) (by omega), rfl⟩) (Nat.le_of_ble_eq_true rfl) (Nat.le_of_ble_eq_true rfl) dX8_rule_196
              · have nc41 : nr = 12 := (nI_eq bd42 (by decide)).mp (show nI (nr) = nI (12) from c41)
                refine lv_bipush (v := 8) hx hb dX8_rule_85 (by decide) ?_
                refine lv_goto (tgt := 91) hx hb dX8_rule_87 (by decide) ?_
                refine lv_istore (lv' := [(8, .int 8), (0, .ref h0), (1, .int x1), (2, .int (nI a2)), (3, .int x3), (4, .long x4), (6, .long x5)]) hx hb dX8_rule_91 hl (by decide) rfl (fun ls hl => ?_)
                refine lv_iload hx hb dX8_rule_93 (lv_at hl 0 rfl) ?_
                refine lv_if_le (tgt := 105) hx hb dX8_rule_95 (by decide) (fun c => absurd c (by decide)) (fun c50 => ?_)
                refine lv_aload_n hx hb dX8_rule_98 rfl (lv_at hl 1 rfl) ?_
                refine lv_iload hx hb dX8_rule_99 (lv_at hl 0 rfl) ?_
                refine zz_iV (As := [.int 8]) (wc := [cw_k7 h0 (nI na) (nI ne) a_kindOf a_depthOf a_lengthOf a_classOf a_baseOf a_bits a_pinned i_code a_lengths a_stackArray a_stackOther a_stackAt i_lastArray i_lastPlace a_path a_held a_alike a_hashes (nI nd) a_decisionArray a_decisionPlace a_candidateMany a_candidates (nI nr) a_ruleSort a_ruleArray a_ruleWeight a_ruleLow a_ruleHigh a_chosen a_bestOf (nI nm) a_markElements a_markBits a_markPins]) (wr := [cw_i g a_kindOf 60 kdf, cw_i g a_depthOf 60 dpf, cw_i g a_lengthOf 60 lnf, cw_i g a_baseOf 60 saf, cw_i g a_ruleSort 12 rsf, cw_i g a_ruleArray 12 juf, cw_i g a_ruleWeight 12 wef, cw_l g a_ruleLow 12 lof, cw_l g a_ruleHigh 12 hif]) (rest := []) hC hZ hs hl zc_X8_175 (cm_fails g h0 a_kindOf a_depthOf a_lengthOf a_classOf a_baseOf a_bits a_pinned a_lengths a_stackArray a_stackOther a_stackAt a_path a_held a_alike a_hashes a_decisionArray a_decisionPlace a_candidateMany a_candidates a_ruleSort a_ruleArray a_ruleWeight a_ruleLow a_ruleHigh a_chosen a_bestOf a_markElements a_markBits a_markPins (nI na) (nI ne) i_code i_lastArray i_lastPlace (nI nd) (nI nr) (nI nm) 8) [9] [0, 1, 2, 3, 4, 5, 6, 7, 8] rfl rfl (by decide +kernel) (ci := 7) (q0 := 0) rfl rfl rfl rfl (Nat.le_of_ble_eq_true rfl) ⟨⟨Nat.le_of_ble_eq_true rfl, Nat.le_of_ble_eq_true rfl⟩, Nat.le_of_ble_eq_true rfl, Nat.le_of_ble_eq_true rfl⟩ dX8_rule_101 (fun r51 u52 H locs hp hZ => ?_)
                obtain ⟨rfl, rfl⟩ := hp
                have hZ : zz_Z g A s.heap [cw_i g a_kindOf 60 kdf, cw_i g a_depthOf 60 dpf, cw_i g a_lengthOf 60 lnf, cw_i g a_baseOf 60 saf, cw_i g a_ruleSort 12 rsf, cw_i g a_ruleArray 12 juf, cw_i g a_ruleWeight 12 wef, cw_l g a_ruleLow 12 lof, cw_l g a_ruleHigh 12 hif, cw_k7 h0 (nI na) (nI ne) a_kindOf a_depthOf a_lengthOf a_classOf a_baseOf a_bits a_pinned 8 a_lengths a_stackArray a_stackOther a_stackAt i_lastArray i_lastPlace a_path a_held a_alike a_hashes (nI nd) a_decisionArray a_decisionPlace a_candidateMany a_candidates (nI nr) a_ruleSort a_ruleArray a_ruleWeight a_ruleLow a_ruleHigh a_chosen a_bestOf (nI nm) a_markElements a_markBits a_markPins] H locs := hZ
                have hZ : zz_Z g A s.heap [cw_k7 h0 (nI na) (nI ne) a_kindOf a_depthOf a_lengthOf a_classOf a_baseOf a_bits a_pinned 8 a_lengths a_stackArray a_stackOther a_stackAt i_lastArray i_lastPlace a_path a_held a_alike a_hashes (nI nd) a_decisionArray a_decisionPlace a_candidateMany a_candidates (nI nr) a_ruleSort a_ruleArray a_ruleWeight a_ruleLow a_ruleHigh a_chosen a_bestOf (nI nm) a_markElements a_markBits a_markPins, cw_i g a_kindOf 60 kdf, cw_i g a_depthOf 60 dpf, cw_i g a_lengthOf 60 lnf, cw_i g a_baseOf 60 saf, cw_i g a_ruleSort 12 rsf, cw_i g a_ruleArray 12 juf, cw_i g a_ruleWeight 12 wef, cw_l g a_ruleLow 12 lof, cw_l g a_ruleHigh 12 hif] H locs := hZ.sub [9, 0, 1, 2, 3, 4, 5, 6, 7, 8] (by decide +kernel) rfl
                exact zz_iret hC hZ (⟨8, i_lastArray, i_lastPlace, nr, rsf, juf, wef, lof, hif, by refine Eq.symm ?_; rw [fo_my_rule]; refine (if_neg (by (try simp only [d_a2, d_sz2, d_lz2, d_dz2]); exact c3)).trans ?_; refine (if_neg (by (try simp only [d_a2, d_sz2, d_lz2, d_dz2]); exact c10)).trans ?_; refine (if_neg (by (try simp only [d_a2, d_sz2, d_lz2, d_dz2]); exact c16)).trans ?_; refine (if_pos (by (try simp only [d_a2, d_sz2, d_lz2, d_dz2]); exact c20)).trans ?_; refine (if_neg (by (try simp only [d_a2, d_sz2, d_lz2, d_dz2]); exact c39)).trans ?_; refine (if_pos (by (try simp only [d_a2, d_sz2, d_lz2, d_dz2]); exact c40)).trans ?_; refine (if_pos (by (try simp only [d_a2, d_sz2, d_lz2, d_dz2]); exact c41)).trans ?_; first | (simp only [d_a2, d_sz2, d_lz2, d_dz2]; done) | rfl, h_R, rfl⟩) (Nat.le_of_ble_eq_true rfl) (Nat.le_of_ble_eq_true rfl) dX8_rule_104
            · have nc40 : ¬ dz2 ≤ 1 := fun zq => c40 (show nI (dz2) ≤ nI (1) from (nI_leI bd7 (by decide)).mpr zq)
              refine lv_iconst (v := 1) hx hb dX8_rule_72 (by decide) ?_
              refine lv_goto (tgt := 91) hx hb dX8_rule_73 (by decide) ?_
              refine lv_istore (lv' := [(8, .int 1), (0, .ref h0), (1, .int x1), (2, .int (nI a2)), (3, .int x3), (4, .long x4), (6, .long x5)]) hx hb dX8_rule_91 hl (by decide) rfl (fun ls hl => ?_)
              refine lv_iload hx hb dX8_rule_93 (lv_at hl 0 rfl) ?_
              refine lv_if_le (tgt := 105) hx hb dX8_rule_95 (by decide) (fun c => absurd c (by decide)) (fun c53 => ?_)
              refine lv_aload_n hx hb dX8_rule_98 rfl (lv_at hl 1 rfl) ?_
              refine lv_iload hx hb dX8_rule_99 (lv_at hl 0 rfl) ?_
              refine zz_iV (As := [.int 1]) (wc := [cw_k7 h0 (nI na) (nI ne) a_kindOf a_depthOf a_lengthOf a_classOf a_baseOf a_bits a_pinned i_code a_lengths a_stackArray a_stackOther a_stackAt i_lastArray i_lastPlace a_path a_held a_alike a_hashes (nI nd) a_decisionArray a_decisionPlace a_candidateMany a_candidates (nI nr) a_ruleSort a_ruleArray a_ruleWeight a_ruleLow a_ruleHigh a_chosen a_bestOf (nI nm) a_markElements a_markBits a_markPins]) (wr := [cw_i g a_kindOf 60 kdf, cw_i g a_depthOf 60 dpf, cw_i g a_lengthOf 60 lnf, cw_i g a_baseOf 60 saf, cw_i g a_ruleSort 12 rsf, cw_i g a_ruleArray 12 juf, cw_i g a_ruleWeight 12 wef, cw_l g a_ruleLow 12 lof, cw_l g a_ruleHigh 12 hif]) (rest := []) hC hZ hs hl zc_X8_175 (cm_fails g h0 a_kindOf a_depthOf a_lengthOf a_classOf a_baseOf a_bits a_pinned a_lengths a_stackArray a_stackOther a_stackAt a_path a_held a_alike a_hashes a_decisionArray a_decisionPlace a_candidateMany a_candidates a_ruleSort a_ruleArray a_ruleWeight a_ruleLow a_ruleHigh a_chosen a_bestOf a_markElements a_markBits a_markPins (nI na) (nI ne) i_code i_lastArray i_lastPlace (nI nd) (nI nr) (nI nm) 1) [9] [0, 1, 2, 3, 4, 5, 6, 7, 8] rfl rfl (by decide +kernel) (ci := 7) (q0 := 0) rfl rfl rfl rfl (Nat.le_of_ble_eq_true rfl) ⟨⟨Nat.le_of_ble_eq_true rfl, Nat.le_of_ble_eq_true rfl⟩, Nat.le_of_ble_eq_true rfl, Nat.le_of_ble_eq_true rfl⟩ dX8_rule_101 (fun r54 u55 H locs hp hZ => ?_)
              obtain ⟨rfl, rfl⟩ := hp
              have hZ : zz_Z g A s.heap [cw_i g a_kindOf 60 kdf, cw_i g a_depthOf 60 dpf, cw_i g a_lengthOf 60 lnf, cw_i g a_baseOf 60 saf, cw_i g a_ruleSort 12 rsf, cw_i g a_ruleArray 12 juf, cw_i g a_ruleWeight 12 wef, cw_l g a_ruleLow 12 lof, cw_l g a_ruleHigh 12 hif, cw_k7 h0 (nI na) (nI ne) a_kindOf a_depthOf a_lengthOf a_classOf a_baseOf a_bits a_pinned 1 a_lengths a_stackArray a_stackOther a_stackAt i_lastArray i_lastPlace a_path a_held a_alike a_hashes (nI nd) a_decisionArray a_decisionPlace a_candidateMany a_candidates (nI nr) a_ruleSort a_ruleArray a_ruleWeight a_ruleLow a_ruleHigh a_chosen a_bestOf (nI nm) a_markElements a_markBits a_markPins] H locs := hZ
              have hZ : zz_Z g A s.heap [cw_k7 h0 (nI na) (nI ne) a_kindOf a_depthOf a_lengthOf a_classOf a_baseOf a_bits a_pinned 1 a_lengths a_stackArray a_stackOther a_stackAt i_lastArray i_lastPlace a_path a_held a_alike a_hashes (nI nd) a_decisionArray a_decisionPlace a_candidateMany a_candidates (nI nr) a_ruleSort a_ruleArray a_ruleWeight a_ruleLow a_ruleHigh a_chosen a_bestOf (nI nm) a_markElements a_markBits a_markPins, cw_i g a_kindOf 60 kdf, cw_i g a_depthOf 60 dpf, cw_i g a_lengthOf 60 lnf, cw_i g a_baseOf 60 saf, cw_i g a_ruleSort 12 rsf, cw_i g a_ruleArray 12 juf, cw_i g a_ruleWeight 12 wef, cw_l g a_ruleLow 12 lof, cw_l g a_ruleHigh 12 hif] H locs := hZ.sub [9, 0, 1, 2, 3, 4, 5, 6, 7, 8] (by decide +kernel) rfl
              exact zz_iret hC hZ (⟨1, i_lastArray, i_lastPlace, nr, rsf, juf, wef, lof, hif, by refine Eq.symm ?_; rw [fo_my_rule]; refine (if_neg (by (try simp only [d_a2, d_sz2, d_lz2, d_dz2]); exact c3)).trans ?_; refine (if_neg (by (try simp only [d_a2, d_sz2, d_lz2, d_dz2]); exact c10)).trans ?_; refine (if_neg (by (try simp only [d_a2, d_sz2, d_lz2, d_dz2]); exact c16)).trans ?_; refine (if_pos (by (try simp only [d_a2, d_sz2, d_lz2, d_dz2]); exact c20)).trans ?_; refine (if_neg (by (try simp only [d_a2, d_sz2, d_lz2, d_dz2]); exact c39)).trans ?_; refine (if_neg (by (try simp only [d_a2, d_sz2, d_lz2, d_dz2]); exact c40)).trans ?_; first | (simp only [d_a2, d_sz2, d_lz2, d_dz2]; done) | rfl, h_R, rfl⟩) (Nat.le_of_ble_eq_true rfl) (Nat.le_of_ble_eq_true rfl) dX8_rule_104
          · refine lv_bipush (v := 9) hx hb dX8_rule_57 (by decide) ?_
            refine lv_goto (tgt := 91) hx hb dX8_rule_59 (by decide) ?_
            refine lv_istore (lv' := [(8, .int 9), (0, .ref h0), (1, .int x1), (2, .int (nI a2)), (3, .int x3), (4, .long x4), (6, .long x5)]) hx hb dX8_rule_91 hl (by decide) rfl (fun ls hl => ?_)
            refine lv_iload hx hb dX8_rule_93 (lv_at hl 0 rfl) ?_
            refine lv_if_le (tgt := 105) hx hb dX8_rule_95 (by decide) (fun c => absurd c (by decide)) (fun c56 => ?_)
            refine lv_aload_n hx hb dX8_rule_98 rfl (lv_at hl 1 rfl) ?_
            refine lv_iload hx hb dX8_rule_99 (lv_at hl 0 rfl) ?_
            refine zz_iV (As := [.int 9]) (wc := [cw_k7 h0 (nI na) (nI ne) a_kindOf a_depthOf a_lengthOf a_classOf a_baseOf a_bits a_pinned i_code a_lengths a_stackArray a_stackOther a_stackAt i_lastArray i_lastPlace a_path a_held a_alike a_hashes (nI nd) a_decisionArray a_decisionPlace a_candidateMany a_candidates (nI nr) a_ruleSort a_ruleArray a_ruleWeight a_ruleLow a_ruleHigh a_chosen a_bestOf (nI nm) a_markElements a_markBits a_markPins]) (wr := [cw_i g a_kindOf 60 kdf, cw_i g a_depthOf 60 dpf, cw_i g a_lengthOf 60 lnf, cw_i g a_baseOf 60 saf, cw_i g a_ruleSort 12 rsf, cw_i g a_ruleArray 12 juf, cw_i g a_ruleWeight 12 wef, cw_l g a_ruleLow 12 lof, cw_l g a_ruleHigh 12 hif]) (rest := []) hC hZ hs hl zc_X8_175 (cm_fails g h0 a_kindOf a_depthOf a_lengthOf a_classOf a_baseOf a_bits a_pinned a_lengths a_stackArray a_stackOther a_stackAt a_path a_held a_alike a_hashes a_decisionArray a_decisionPlace a_candidateMany a_candidates a_ruleSort a_ruleArray a_ruleWeight a_ruleLow a_ruleHigh a_chosen a_bestOf a_markElements a_markBits a_markPins (nI na) (nI ne) i_code i_lastArray i_lastPlace (nI nd) (nI nr) (nI nm) 9) [9] [0, 1, 2, 3, 4, 5, 6, 7, 8] rfl rfl (by decide +kernel) (ci := 7) (q0 := 0) rfl rfl rfl rfl (Nat.le_of_ble_eq_true rfl) ⟨⟨Nat.le_of_ble_eq_true rfl, Nat.le_of_ble_eq_true rfl⟩, Nat.le_of_ble_eq_true rfl, Nat.le_of_ble_eq_true rfl⟩ dX8_rule_101 (fun r57 u58 H locs hp hZ => ?_)
            obtain ⟨rfl, rfl⟩ := hp
            have hZ : zz_Z g A s.heap [cw_i g a_kindOf 60 kdf, cw_i g a_depthOf 60 dpf, cw_i g a_lengthOf 60 lnf, cw_i g a_baseOf 60 saf, cw_i g a_ruleSort 12 rsf, cw_i g a_ruleArray 12 juf, cw_i g a_ruleWeight 12 wef, cw_l g a_ruleLow 12 lof, cw_l g a_ruleHigh 12 hif, cw_k7 h0 (nI na) (nI ne) a_kindOf a_depthOf a_lengthOf a_classOf a_baseOf a_bits a_pinned 9 a_lengths a_stackArray a_stackOther a_stackAt i_lastArray i_lastPlace a_path a_held a_alike a_hashes (nI nd) a_decisionArray a_decisionPlace a_candidateMany a_candidates (nI nr) a_ruleSort a_ruleArray a_ruleWeight a_ruleLow a_ruleHigh a_chosen a_bestOf (nI nm) a_markElements a_markBits a_markPins] H locs := hZ
            have hZ : zz_Z g A s.heap [cw_k7 h0 (nI na) (nI ne) a_kindOf a_depthOf a_lengthOf a_classOf a_baseOf a_bits a_pinned 9 a_lengths a_stackArray a_stackOther a_stackAt i_lastArray i_lastPlace a_path a_held a_alike a_hashes (nI nd) a_decisionArray a_decisionPlace a_candidateMany a_candidates (nI nr) a_ruleSort a_ruleArray a_ruleWeight a_ruleLow a_ruleHigh a_chosen a_bestOf (nI nm) a_markElements a_markBits a_markPins, cw_i g a_kindOf 60 kdf, cw_i g a_depthOf 60 dpf, cw_i g a_lengthOf 60 lnf, cw_i g a_baseOf 60 saf, cw_i g a_ruleSort 12 rsf, cw_i g a_ruleArray 12 juf, cw_i g a_ruleWeight 12 wef, cw_l g a_ruleLow 12 lof, cw_l g a_ruleHigh 12 hif] H locs := hZ.sub [9, 0, 1, 2, 3, 4, 5, 6, 7, 8] (by decide +kernel) rfl
            exact zz_iret hC hZ (⟨9, i_lastArray, i_lastPlace, nr, rsf, juf, wef, lof, hif, by refine Eq.symm ?_; rw [fo_my_rule]; refine (if_neg (by (try simp only [d_a2, d_sz2, d_lz2, d_dz2]); exact c3)).trans ?_; refine (if_neg (by (try simp only [d_a2, d_sz2, d_lz2, d_dz2]); exact c10)).trans ?_; refine (if_neg (by (try simp only [d_a2, d_sz2, d_lz2, d_dz2]); exact c16)).trans ?_; refine (if_pos (by (try simp only [d_a2, d_sz2, d_lz2, d_dz2]); exact c20)).trans ?_; refine (if_pos (by (try simp only [d_a2, d_sz2, d_lz2, d_dz2]); exact c39)).trans ?_; first | (simp only [d_a2, d_sz2, d_lz2, d_dz2]; done) | rfl, h_R, rfl⟩) (Nat.le_of_ble_eq_true rfl) (Nat.le_of_ble_eq_true rfl) dX8_rule_104
  · refine lv_iconst (v := 5) hx hb dX8_rule_8 (by decide) ?_
    refine lv_goto (tgt := 91) hx hb dX8_rule_9 (by decide) ?_
    refine lv_istore (lv' := [(8, .int 5), (0, .ref h0), (1, .int x1), (2, .int x2), (3, .int x3), (4, .long x4), (6, .long x5)]) hx hb dX8_rule_91 hl (by decide) rfl (fun ls hl => ?_)
    refine lv_iload hx hb dX8_rule_93 (lv_at hl 0 rfl) ?_
    refine lv_if_le (tgt := 105) hx hb dX8_rule_95 (by decide) (fun c => absurd c (by decide)) (fun c59 => ?_)
    refine lv_aload_n hx hb dX8_rule_98 rfl (lv_at hl 1 rfl) ?_
    refine lv_iload hx hb dX8_rule_99 (lv_at hl 0 rfl) ?_
    refine zz_iV (As := [.int 5]) (wc := [cw_k7 h0 (nI na) (nI ne) a_kindOf a_depthOf a_lengthOf a_classOf a_baseOf a_bits a_pinned i_code a_lengths a_stackArray a_stackOther a_stackAt i_lastArray i_lastPlace a_path a_held a_alike a_hashes (nI nd) a_decisionArray a_decisionPlace a_candidateMany a_candidates (nI nr) a_ruleSort a_ruleArray a_ruleWeight a_ruleLow a_ruleHigh a_chosen a_bestOf (nI nm) a_markElements a_markBits a_markPins]) (wr := [cw_i g a_kindOf 60 kdf, cw_i g a_depthOf 60 dpf, cw_i g a_lengthOf 60 lnf, cw_i g a_baseOf 60 saf, cw_i g a_ruleSort 12 rsf, cw_i g a_ruleArray 12 juf, cw_i g a_ruleWeight 12 wef, cw_l g a_ruleLow 12 lof, cw_l g a_ruleHigh 12 hif]) (rest := []) hC hZ hs hl zc_X8_175 (cm_fails g h0 a_kindOf a_depthOf a_lengthOf a_classOf a_baseOf a_bits a_pinned a_lengths a_stackArray a_stackOther a_stackAt a_path a_held a_alike a_hashes a_decisionArray a_decisionPlace a_candidateMany a_candidates a_ruleSort a_ruleArray a_ruleWeight a_ruleLow a_ruleHigh a_chosen a_bestOf a_markElements a_markBits a_markPins (nI na) (nI ne) i_code i_lastArray i_lastPlace (nI nd) (nI nr) (nI nm) 5) [9] [0, 1, 2, 3, 4, 5, 6, 7, 8] rfl rfl (by decide +kernel) (ci := 7) (q0 := 0) rfl rfl rfl rfl (Nat.le_of_ble_eq_true rfl) ⟨⟨Nat.le_of_ble_eq_true rfl, Nat.le_of_ble_eq_true rfl⟩, Nat.le_of_ble_eq_true rfl, Nat.le_of_ble_eq_true rfl⟩ dX8_rule_101 (fun r60 u61 H locs hp hZ => ?_)
    obtain ⟨rfl, rfl⟩ := hp
    have hZ : zz_Z g A s.heap [cw_i g a_kindOf 60 kdf, cw_i g a_depthOf 60 dpf, cw_i g a_lengthOf 60 lnf, cw_i g a_baseOf 60 saf, cw_i g a_ruleSort 12 rsf, cw_i g a_ruleArray 12 juf, cw_i g a_ruleWeight 12 wef, cw_l g a_ruleLow 12 lof, cw_l g a_ruleHigh 12 hif, cw_k7 h0 (nI na) (nI ne) a_kindOf a_depthOf a_lengthOf a_classOf a_baseOf a_bits a_pinned 5 a_lengths a_stackArray a_stackOther a_stackAt i_lastArray i_lastPlace a_path a_held a_alike a_hashes (nI nd) a_decisionArray a_decisionPlace a_candidateMany a_candidates (nI nr) a_ruleSort a_ruleArray a_ruleWeight a_ruleLow a_ruleHigh a_chosen a_bestOf (nI nm) a_markElements a_markBits a_markPins] H locs := hZ
    have hZ : zz_Z g A s.heap [cw_k7 h0 (nI na) (nI ne) a_kindOf a_depthOf a_lengthOf a_classOf a_baseOf a_bits a_pinned 5 a_lengths a_stackArray a_stackOther a_stackAt i_lastArray i_lastPlace a_path a_held a_alike a_hashes (nI nd) a_decisionArray a_decisionPlace a_candidateMany a_candidates (nI nr) a_ruleSort a_ruleArray a_ruleWeight a_ruleLow a_ruleHigh a_chosen a_bestOf (nI nm) a_markElements a_markBits a_markPins, cw_i g a_kindOf 60 kdf, cw_i g a_depthOf 60 dpf, cw_i g a_lengthOf 60 lnf, cw_i g a_baseOf 60 saf, cw_i g a_ruleSort 12 rsf, cw_i g a_ruleArray 12 juf, cw_i g a_ruleWeight 12 wef, cw_l g a_ruleLow 12 lof, cw_l g a_ruleHigh 12 hif] H locs := hZ.sub [9, 0, 1, 2, 3, 4, 5, 6, 7, 8] (by decide +kernel) rfl
    exact zz_iret hC hZ (⟨5, i_lastArray, i_lastPlace, nr, rsf, juf, wef, lof, hif, by show _ = _; rw [fo_my_rule]; rw [if_pos c3], h_R, rfl⟩) (Nat.le_of_ble_eq_true rfl) (Nat.le_of_ble_eq_true rfl) dX8_rule_104
/-- what a rule amounts to, of the reference: its loops -/
def sp_m0 (K : Int32) (bt : Nat → Int64) : Nat → Nat → Int64 → Int64
  | 0, _, w => w
  | m + 1, i, w => sp_m0 K bt m (i + 1) (w + (fn_cm_sumNumber K (bt i)))
def sp_m1i (K : Int32) (bt : Nat → Int64) (k : Nat) : Nat → Nat → Int64 → Int64
  | 0, _, w => w
  | m + 1, i, w => sp_m1i K bt k m (i + 1) (if (fn_cm_isLike K (bt k) (bt i)) = 0 then w + 0 else w + 1)
def sp_m1 (K : Int32) (bt : Nat → Int64) (t : Nat) : Nat → Nat → Int64 → Int64
  | 0, _, w => w
  | m + 1, i, w => sp_m1 K bt t m (i + 1) (sp_m1i K bt i (t - (i + 1)) (i + 1) w)
def sp_m2 (K : Int32) (bt : Nat → Int64) : Nat → Nat → Int64 → Int64
  | 0, _, w => w
  | m + 1, i, w => sp_m2 K bt m (i + 1) (if (fn_cm_orderNumber K (bt (i - 1))) ≤ (fn_cm_orderNumber K (bt i)) then w + 0 else w + 1)
def sp_m3 (x : Int64) (bt : Nat → Int64) : Nat → Nat → Int64 → Int64
  | 0, _, w => w
  | m + 1, i, w => sp_m3 x bt m (i + 1) (if (bt i) = x then w + 1 else w + 0)
def sp_m4 (bt : Nat → Int64) : Nat → Nat → Int64 → Int64
  | 0, _, w => w
  | m + 1, i, w => sp_m4 bt m (i + 1) (if (bt i) = (bt (i - 1)) then w + 0 else w + 1)
def sp_m5 (K : Int32) (bt : Nat → Int64) : Nat → Nat → Int64 → Int64
  | 0, _, w => w
  | m + 1, i, w => sp_m5 K bt m (i + 1) (if (fn_cm_sumNumber K (bt i)) ≤ (fn_cm_sumNumber K (bt (i - 1))) then (if (fn_cm_far (fn_cm_sumNumber K (bt (i - 1))) (fn_cm_sumNumber K (bt i))) ≤ w then w else (fn_cm_far (fn_cm_sumNumber K (bt (i - 1))) (fn_cm_sumNumber K (bt i)))) else (if (fn_cm_far (fn_cm_sumNumber K (bt i)) (fn_cm_sumNumber K (bt (i - 1)))) ≤ w then w else (fn_cm_far (fn_cm_sumNumber K (bt i)) (fn_cm_sumNumber K (bt (i - 1))))))
theorem dg_X8_amountOf_0 : (decode cX8_amountOf 0 = .ok (.aload_n 0, 1)) ∧ (decode cX8_amountOf 1 = .ok (.getfield 72, 3)) ∧ (decode cX8_amountOf 4 = .ok (.iload_n 1, 1)) ∧ (decode cX8_amountOf 5 = .ok (.iaload, 1)) ∧ (decode cX8_amountOf 6 = .ok (.istore_n 2, 1)) ∧ (decode cX8_amountOf 7 = .ok (.aload_n 0, 1)) ∧ (decode cX8_amountOf 8 = .ok (.getfield 7, 3)) ∧ (decode cX8_amountOf 11 = .ok (.iload_n 2, 1)) ∧ (decode cX8_amountOf 12 = .ok (.iaload, 1)) ∧ (decode cX8_amountOf 13 = .ok (.istore_n 3, 1)) ∧ (decode cX8_amountOf 14 = .ok (.aload_n 0, 1)) ∧ (decode cX8_amountOf 15 = .ok (.getfield 22, 3)) ∧ (decode cX8_amountOf 18 = .ok (.iload_n 2, 1)) ∧ (decode cX8_amountOf 19 = .ok (.iaload, 1)) ∧ (decode cX8_amountOf 20 = .ok (.istore 4, 2)) ∧ (decode cX8_amountOf 22 = .ok (.iload 4, 2)) := by decide +kernel
theorem dX8_amountOf_0 : decode cX8_amountOf 0 = .ok (.aload_n 0, 1) := dg_X8_amountOf_0.1
theorem dX8_amountOf_1 : decode cX8_amountOf 1 = .ok (.getfield 72, 3) := dg_X8_amountOf_0.2.1
theorem dX8_amountOf_4 : decode cX8_amountOf 4 = .ok (.iload_n 1, 1) := dg_X8_amountOf_0.2.2.1
theorem dX8_amountOf_5 : decode cX8_amountOf 5 = .ok (.iaload, 1) := dg_X8_amountOf_0.2.2.2.1
theorem dX8_amountOf_6 : decode cX8_amountOf 6 = .ok (.istore_n 2, 1) := dg_X8_amountOf_0.2.2.2.2.1
theorem dX8_amountOf_7 : decode cX8_amountOf 7 = .ok (.aload_n 0, 1) := dg_X8_amountOf_0.2.2.2.2.2.1
theorem dX8_amountOf_8 : decode cX8_amountOf 8 = .ok (.getfield 7, 3) := dg_X8_amountOf_0.2.2.2.2.2.2.1
theorem dX8_amountOf_11 : decode cX8_amountOf 11 = .ok (.iload_n 2, 1) := dg_X8_amountOf_0.2.2.2.2.2.2.2.1
theorem dX8_amountOf_12 : decode cX8_amountOf 12 = .ok (.iaload, 1) := dg_X8_amountOf_0.2.2.2.2.2.2.2.2.1
theorem dX8_amountOf_13 : decode cX8_amountOf 13 = .ok (.istore_n 3, 1) := dg_X8_amountOf_0.2.2.2.2.2.2.2.2.2.1
theorem dX8_amountOf_14 : decode cX8_amountOf 14 = .ok (.aload_n 0, 1) := dg_X8_amountOf_0.2.2.2.2.2.2.2.2.2.2.1
theorem dX8_amountOf_15 : decode cX8_amountOf 15 = .ok (.getfield 22, 3) := dg_X8_amountOf_0.2.2.2.2.2.2.2.2.2.2.2.1
theorem dX8_amountOf_18 : decode cX8_amountOf 18 = .ok (.iload_n 2, 1) := dg_X8_amountOf_0.2.2.2.2.2.2.2.2.2.2.2.2.1
theorem dX8_amountOf_19 : decode cX8_amountOf 19 = .ok (.iaload, 1) := dg_X8_amountOf_0.2.2.2.2.2.2.2.2.2.2.2.2.2.1
theorem dX8_amountOf_20 : decode cX8_amountOf 20 = .ok (.istore 4, 2) := dg_X8_amountOf_0.2.2.2.2.2.2.2.2.2.2.2.2.2.2.1
theorem dX8_amountOf_22 : decode cX8_amountOf 22 = .ok (.iload 4, 2) := dg_X8_amountOf_0.2.2.2.2.2.2.2.2.2.2.2.2.2.2.2
theorem dg_X8_amountOf_24 : (decode cX8_amountOf 24 = .ok (.aload_n 0, 1)) ∧ (decode cX8_amountOf 25 = .ok (.getfield 16, 3)) ∧ (decode cX8_amountOf 28 = .ok (.iload_n 2, 1)) ∧ (decode cX8_amountOf 29 = .ok (.iaload, 1)) ∧ (decode cX8_amountOf 30 = .ok (.iadd, 1)) ∧ (decode cX8_amountOf 31 = .ok (.istore 5, 2)) ∧ (decode cX8_amountOf 33 = .ok (.lconst 0, 1)) ∧ (decode cX8_amountOf 34 = .ok (.lstore 6, 2)) ∧ (decode cX8_amountOf 36 = .ok (.aload_n 0, 1)) ∧ (decode cX8_amountOf 37 = .ok (.getfield 69, 3)) ∧ (decode cX8_amountOf 40 = .ok (.iload_n 1, 1)) ∧ (decode cX8_amountOf 41 = .ok (.iaload, 1)) ∧ (decode cX8_amountOf 42 = .ok (.tableswitch 388 0 4 #[34, 124, 194, 254, 336], 34)) ∧ (decode cX8_amountOf 76 = .ok (.lconst 0, 1)) ∧ (decode cX8_amountOf 77 = .ok (.lstore 8, 2)) ∧ (decode cX8_amountOf 79 = .ok (.iload 4, 2)) := by decide +kernel
theorem dX8_amountOf_24 : decode cX8_amountOf 24 = .ok (.aload_n 0, 1) := dg_X8_amountOf_24.1
theorem dX8_amountOf_25 : decode cX8_amountOf 25 = .ok (.getfield 16, 3) := dg_X8_amountOf_24.2.1
theorem dX8_amountOf_28 : decode cX8_amountOf 28 = .ok (.iload_n 2, 1) := dg_X8_amountOf_24.2.2.1
theorem dX8_amountOf_29 : decode cX8_amountOf 29 = .ok (.iaload, 1) := dg_X8_amountOf_24.2.2.2.1
theorem dX8_amountOf_30 : decode cX8_amountOf 30 = .ok (.iadd, 1) := dg_X8_amountOf_24.2.2.2.2.1
theorem dX8_amountOf_31 : decode cX8_amountOf 31 = .ok (.istore 5, 2) := dg_X8_amountOf_24.2.2.2.2.2.1
theorem dX8_amountOf_33 : decode cX8_amountOf 33 = .ok (.lconst 0, 1) := dg_X8_amountOf_24.2.2.2.2.2.2.1
theorem dX8_amountOf_34 : decode cX8_amountOf 34 = .ok (.lstore 6, 2) := dg_X8_amountOf_24.2.2.2.2.2.2.2.1
theorem dX8_amountOf_36 : decode cX8_amountOf 36 = .ok (.aload_n 0, 1) := dg_X8_amountOf_24.2.2.2.2.2.2.2.2.1
theorem dX8_amountOf_37 : decode cX8_amountOf 37 = .ok (.getfield 69, 3) := dg_X8_amountOf_24.2.2.2.2.2.2.2.2.2.1
theorem dX8_amountOf_40 : decode cX8_amountOf 40 = .ok (.iload_n 1, 1) := dg_X8_amountOf_24.2.2.2.2.2.2.2.2.2.2.1
theorem dX8_amountOf_41 : decode cX8_amountOf 41 = .ok (.iaload, 1) := dg_X8_amountOf_24.2.2.2.2.2.2.2.2.2.2.2.1
theorem dX8_amountOf_42 : decode cX8_amountOf 42 = .ok (.tableswitch 388 0 4 #[34, 124, 194, 254, 336], 34) := dg_X8_amountOf_24.2.2.2.2.2.2.2.2.2.2.2.2.1
theorem dX8_amountOf_76 : decode cX8_amountOf 76 = .ok (.lconst 0, 1) := dg_X8_amountOf_24.2.2.2.2.2.2.2.2.2.2.2.2.2.1
theorem dX8_amountOf_77 : decode cX8_amountOf 77 = .ok (.lstore 8, 2) := dg_X8_amountOf_24.2.2.2.2.2.2.2.2.2.2.2.2.2.2.1
theorem dX8_amountOf_79 : decode cX8_amountOf 79 = .ok (.iload 4, 2) := dg_X8_amountOf_24.2.2.2.2.2.2.2.2.2.2.2.2.2.2.2
theorem dg_X8_amountOf_81 : (decode cX8_amountOf 81 = .ok (.istore 10, 2)) ∧ (decode cX8_amountOf 83 = .ok (.iload 10, 2)) ∧ (decode cX8_amountOf 85 = .ok (.iload 5, 2)) ∧ (decode cX8_amountOf 87 = .ok (.if_icmp .ge 25, 3)) ∧ (decode cX8_amountOf 90 = .ok (.lload 8, 2)) ∧ (decode cX8_amountOf 92 = .ok (.iload_n 3, 1)) ∧ (decode cX8_amountOf 93 = .ok (.aload_n 0, 1)) ∧ (decode cX8_amountOf 94 = .ok (.getfield 25, 3)) ∧ (decode cX8_amountOf 97 = .ok (.iload 10, 2)) ∧ (decode cX8_amountOf 99 = .ok (.laload, 1)) ∧ (decode cX8_amountOf 100 = .ok (.invokestatic 270, 3)) ∧ (decode cX8_amountOf 103 = .ok (.ladd, 1)) ∧ (decode cX8_amountOf 104 = .ok (.lstore 8, 2)) ∧ (decode cX8_amountOf 106 = .ok (.iinc 10 1, 3)) ∧ (decode cX8_amountOf 109 = .ok (.goto (-26), 3)) ∧ (decode cX8_amountOf 112 = .ok (.lload 8, 2)) := by decide +kernel
theorem dX8_amountOf_81 : decode cX8_amountOf 81 = .ok (.istore 10, 2) := dg_X8_amountOf_81.1
theorem dX8_amountOf_83 : decode cX8_amountOf 83 = .ok (.iload 10, 2) := dg_X8_amountOf_81.2.1
theorem dX8_amountOf_85 : decode cX8_amountOf 85 = .ok (.iload 5, 2) := dg_X8_amountOf_81.2.2.1
theorem dX8_amountOf_87 : decode cX8_amountOf 87 = .ok (.if_icmp .ge 25, 3) := dg_X8_amountOf_81.2.2.2.1
theorem dX8_amountOf_90 : decode cX8_amountOf 90 = .ok (.lload 8, 2) := dg_X8_amountOf_81.2.2.2.2.1
theorem dX8_amountOf_92 : decode cX8_amountOf 92 = .ok (.iload_n 3, 1) := dg_X8_amountOf_81.2.2.2.2.2.1
theorem dX8_amountOf_93 : decode cX8_amountOf 93 = .ok (.aload_n 0, 1) := dg_X8_amountOf_81.2.2.2.2.2.2.1
theorem dX8_amountOf_94 : decode cX8_amountOf 94 = .ok (.getfield 25, 3) := dg_X8_amountOf_81.2.2.2.2.2.2.2.1
theorem dX8_amountOf_97 : decode cX8_amountOf 97 = .ok (.iload 10, 2) := dg_X8_amountOf_81.2.2.2.2.2.2.2.2.1
theorem dX8_amountOf_99 : decode cX8_amountOf 99 = .ok (.laload, 1) := dg_X8_amountOf_81.2.2.2.2.2.2.2.2.2.1
theorem dX8_amountOf_100 : decode cX8_amountOf 100 = .ok (.invokestatic 270, 3) := dg_X8_amountOf_81.2.2.2.2.2.2.2.2.2.2.1
theorem dX8_amountOf_103 : decode cX8_amountOf 103 = .ok (.ladd, 1) := dg_X8_amountOf_81.2.2.2.2.2.2.2.2.2.2.2.1
theorem dX8_amountOf_104 : decode cX8_amountOf 104 = .ok (.lstore 8, 2) := dg_X8_amountOf_81.2.2.2.2.2.2.2.2.2.2.2.2.1
theorem dX8_amountOf_106 : decode cX8_amountOf 106 = .ok (.iinc 10 1, 3) := dg_X8_amountOf_81.2.2.2.2.2.2.2.2.2.2.2.2.2.1
theorem dX8_amountOf_109 : decode cX8_amountOf 109 = .ok (.goto (-26), 3) := dg_X8_amountOf_81.2.2.2.2.2.2.2.2.2.2.2.2.2.2.1
theorem dX8_amountOf_112 : decode cX8_amountOf 112 = .ok (.lload 8, 2) := dg_X8_amountOf_81.2.2.2.2.2.2.2.2.2.2.2.2.2.2.2
theorem dg_X8_amountOf_114 : (decode cX8_amountOf 114 = .ok (.aload_n 0, 1)) ∧ (decode cX8_amountOf 115 = .ok (.getfield 78, 3)) ∧ (decode cX8_amountOf 118 = .ok (.iload_n 1, 1)) ∧ (decode cX8_amountOf 119 = .ok (.laload, 1)) ∧ (decode cX8_amountOf 120 = .ok (.lcmp, 1)) ∧ (decode cX8_amountOf 121 = .ok (.ifCond .ge 17, 3)) ∧ (decode cX8_amountOf 124 = .ok (.aload_n 0, 1)) ∧ (decode cX8_amountOf 125 = .ok (.getfield 78, 3)) ∧ (decode cX8_amountOf 128 = .ok (.iload_n 1, 1)) ∧ (decode cX8_amountOf 129 = .ok (.laload, 1)) ∧ (decode cX8_amountOf 130 = .ok (.lload 8, 2)) ∧ (decode cX8_amountOf 132 = .ok (.invokestatic 273, 3)) ∧ (decode cX8_amountOf 135 = .ok (.goto 30, 3)) ∧ (decode cX8_amountOf 138 = .ok (.lload 8, 2)) ∧ (decode cX8_amountOf 140 = .ok (.aload_n 0, 1)) ∧ (decode cX8_amountOf 141 = .ok (.getfield 81, 3)) := by decide +kernel
theorem dX8_amountOf_114 : decode cX8_amountOf 114 = .ok (.aload_n 0, 1) := dg_X8_amountOf_114.1
theorem dX8_amountOf_115 : decode cX8_amountOf 115 = .ok (.getfield 78, 3) := dg_X8_amountOf_114.2.1
theorem dX8_amountOf_118 : decode cX8_amountOf 118 = .ok (.iload_n 1, 1) := dg_X8_amountOf_114.2.2.1
theorem dX8_amountOf_119 : decode cX8_amountOf 119 = .ok (.laload, 1) := dg_X8_amountOf_114.2.2.2.1
theorem dX8_amountOf_120 : decode cX8_amountOf 120 = .ok (.lcmp, 1) := dg_X8_amountOf_114.2.2.2.2.1
theorem dX8_amountOf_121 : decode cX8_amountOf 121 = .ok (.ifCond .ge 17, 3) := dg_X8_amountOf_114.2.2.2.2.2.1
theorem dX8_amountOf_124 : decode cX8_amountOf 124 = .ok (.aload_n 0, 1) := dg_X8_amountOf_114.2.2.2.2.2.2.1
theorem dX8_amountOf_125 : decode cX8_amountOf 125 = .ok (.getfield 78, 3) := dg_X8_amountOf_114.2.2.2.2.2.2.2.1
theorem dX8_amountOf_128 : decode cX8_amountOf 128 = .ok (.iload_n 1, 1) := dg_X8_amountOf_114.2.2.2.2.2.2.2.2.1
theorem dX8_amountOf_129 : decode cX8_amountOf 129 = .ok (.laload, 1) := dg_X8_amountOf_114.2.2.2.2.2.2.2.2.2.1
theorem dX8_amountOf_130 : decode cX8_amountOf 130 = .ok (.lload 8, 2) := dg_X8_amountOf_114.2.2.2.2.2.2.2.2.2.2.1
theorem dX8_amountOf_132 : decode cX8_amountOf 132 = .ok (.invokestatic 273, 3) := dg_X8_amountOf_114.2.2.2.2.2.2.2.2.2.2.2.1
theorem dX8_amountOf_135 : decode cX8_amountOf 135 = .ok (.goto 30, 3) := dg_X8_amountOf_114.2.2.2.2.2.2.2.2.2.2.2.2.1
theorem dX8_amountOf_138 : decode cX8_amountOf 138 = .ok (.lload 8, 2) := dg_X8_amountOf_114.2.2.2.2.2.2.2.2.2.2.2.2.2.1
theorem dX8_amountOf_140 : decode cX8_amountOf 140 = .ok (.aload_n 0, 1) := dg_X8_amountOf_114.2.2.2.2.2.2.2.2.2.2.2.2.2.2.1
theorem dX8_amountOf_141 : decode cX8_amountOf 141 = .ok (.getfield 81, 3) := dg_X8_amountOf_114.2.2.2.2.2.2.2.2.2.2.2.2.2.2.2
theorem dg_X8_amountOf_144 : (decode cX8_amountOf 144 = .ok (.iload_n 1, 1)) ∧ (decode cX8_amountOf 145 = .ok (.laload, 1)) ∧ (decode cX8_amountOf 146 = .ok (.lcmp, 1)) ∧ (decode cX8_amountOf 147 = .ok (.ifCond .le 17, 3)) ∧ (decode cX8_amountOf 150 = .ok (.lload 8, 2)) ∧ (decode cX8_amountOf 152 = .ok (.aload_n 0, 1)) ∧ (decode cX8_amountOf 153 = .ok (.getfield 81, 3)) ∧ (decode cX8_amountOf 156 = .ok (.iload_n 1, 1)) ∧ (decode cX8_amountOf 157 = .ok (.laload, 1)) ∧ (decode cX8_amountOf 158 = .ok (.invokestatic 273, 3)) ∧ (decode cX8_amountOf 161 = .ok (.goto 4, 3)) ∧ (decode cX8_amountOf 164 = .ok (.lconst 0, 1)) ∧ (decode cX8_amountOf 165 = .ok (.lreturn, 1)) ∧ (decode cX8_amountOf 166 = .ok (.iload 4, 2)) ∧ (decode cX8_amountOf 168 = .ok (.istore 10, 2)) ∧ (decode cX8_amountOf 170 = .ok (.iload 10, 2)) := by decide +kernel
theorem dX8_amountOf_144 : decode cX8_amountOf 144 = .ok (.iload_n 1, 1) := dg_X8_amountOf_144.1
theorem dX8_amountOf_145 : decode cX8_amountOf 145 = .ok (.laload, 1) := dg_X8_amountOf_144.2.1
theorem dX8_amountOf_146 : decode cX8_amountOf 146 = .ok (.lcmp, 1) := dg_X8_amountOf_144.2.2.1
theorem dX8_amountOf_147 : decode cX8_amountOf 147 = .ok (.ifCond .le 17, 3) := dg_X8_amountOf_144.2.2.2.1
theorem dX8_amountOf_150 : decode cX8_amountOf 150 = .ok (.lload 8, 2) := dg_X8_amountOf_144.2.2.2.2.1
theorem dX8_amountOf_152 : decode cX8_amountOf 152 = .ok (.aload_n 0, 1) := dg_X8_amountOf_144.2.2.2.2.2.1
theorem dX8_amountOf_153 : decode cX8_amountOf 153 = .ok (.getfield 81, 3) := dg_X8_amountOf_144.2.2.2.2.2.2.1
theorem dX8_amountOf_156 : decode cX8_amountOf 156 = .ok (.iload_n 1, 1) := dg_X8_amountOf_144.2.2.2.2.2.2.2.1
theorem dX8_amountOf_157 : decode cX8_amountOf 157 = .ok (.laload, 1) := dg_X8_amountOf_144.2.2.2.2.2.2.2.2.1
theorem dX8_amountOf_158 : decode cX8_amountOf 158 = .ok (.invokestatic 273, 3) := dg_X8_amountOf_144.2.2.2.2.2.2.2.2.2.1
theorem dX8_amountOf_161 : decode cX8_amountOf 161 = .ok (.goto 4, 3) := dg_X8_amountOf_144.2.2.2.2.2.2.2.2.2.2.1
theorem dX8_amountOf_164 : decode cX8_amountOf 164 = .ok (.lconst 0, 1) := dg_X8_amountOf_144.2.2.2.2.2.2.2.2.2.2.2.1
theorem dX8_amountOf_165 : decode cX8_amountOf 165 = .ok (.lreturn, 1) := dg_X8_amountOf_144.2.2.2.2.2.2.2.2.2.2.2.2.1
theorem dX8_amountOf_166 : decode cX8_amountOf 166 = .ok (.iload 4, 2) := dg_X8_amountOf_144.2.2.2.2.2.2.2.2.2.2.2.2.2.1
theorem dX8_amountOf_168 : decode cX8_amountOf 168 = .ok (.istore 10, 2) := dg_X8_amountOf_144.2.2.2.2.2.2.2.2.2.2.2.2.2.2.1
theorem dX8_amountOf_170 : decode cX8_amountOf 170 = .ok (.iload 10, 2) := dg_X8_amountOf_144.2.2.2.2.2.2.2.2.2.2.2.2.2.2.2
theorem dg_X8_amountOf_172 : (decode cX8_amountOf 172 = .ok (.iload 5, 2)) ∧ (decode cX8_amountOf 174 = .ok (.if_icmp .ge 59, 3)) ∧ (decode cX8_amountOf 177 = .ok (.iload 10, 2)) ∧ (decode cX8_amountOf 179 = .ok (.iconst 1, 1)) ∧ (decode cX8_amountOf 180 = .ok (.iadd, 1)) ∧ (decode cX8_amountOf 181 = .ok (.istore 11, 2)) ∧ (decode cX8_amountOf 183 = .ok (.iload 11, 2)) ∧ (decode cX8_amountOf 185 = .ok (.iload 5, 2)) ∧ (decode cX8_amountOf 187 = .ok (.if_icmp .ge 40, 3)) ∧ (decode cX8_amountOf 190 = .ok (.lload 6, 2)) ∧ (decode cX8_amountOf 192 = .ok (.iload_n 3, 1)) ∧ (decode cX8_amountOf 193 = .ok (.aload_n 0, 1)) ∧ (decode cX8_amountOf 194 = .ok (.getfield 25, 3)) ∧ (decode cX8_amountOf 197 = .ok (.iload 10, 2)) ∧ (decode cX8_amountOf 199 = .ok (.laload, 1)) ∧ (decode cX8_amountOf 200 = .ok (.aload_n 0, 1)) := by decide +kernel
theorem dX8_amountOf_172 : decode cX8_amountOf 172 = .ok (.iload 5, 2) := dg_X8_amountOf_172.1
theorem dX8_amountOf_174 : decode cX8_amountOf 174 = .ok (.if_icmp .ge 59, 3) := dg_X8_amountOf_172.2.1
theorem dX8_amountOf_177 : decode cX8_amountOf 177 = .ok (.iload 10, 2) := dg_X8_amountOf_172.2.2.1
theorem dX8_amountOf_179 : decode cX8_amountOf 179 = .ok (.iconst 1, 1) := dg_X8_amountOf_172.2.2.2.1
theorem dX8_amountOf_180 : decode cX8_amountOf 180 = .ok (.iadd, 1) := dg_X8_amountOf_172.2.2.2.2.1
theorem dX8_amountOf_181 : decode cX8_amountOf 181 = .ok (.istore 11, 2) := dg_X8_amountOf_172.2.2.2.2.2.1
theorem dX8_amountOf_183 : decode cX8_amountOf 183 = .ok (.iload 11, 2) := dg_X8_amountOf_172.2.2.2.2.2.2.1
theorem dX8_amountOf_185 : decode cX8_amountOf 185 = .ok (.iload 5, 2) := dg_X8_amountOf_172.2.2.2.2.2.2.2.1
theorem dX8_amountOf_187 : decode cX8_amountOf 187 = .ok (.if_icmp .ge 40, 3) := dg_X8_amountOf_172.2.2.2.2.2.2.2.2.1
theorem dX8_amountOf_190 : decode cX8_amountOf 190 = .ok (.lload 6, 2) := dg_X8_amountOf_172.2.2.2.2.2.2.2.2.2.1
theorem dX8_amountOf_192 : decode cX8_amountOf 192 = .ok (.iload_n 3, 1) := dg_X8_amountOf_172.2.2.2.2.2.2.2.2.2.2.1
theorem dX8_amountOf_193 : decode cX8_amountOf 193 = .ok (.aload_n 0, 1) := dg_X8_amountOf_172.2.2.2.2.2.2.2.2.2.2.2.1
theorem dX8_amountOf_194 : decode cX8_amountOf 194 = .ok (.getfield 25, 3) := dg_X8_amountOf_172.2.2.2.2.2.2.2.2.2.2.2.2.1
theorem dX8_amountOf_197 : decode cX8_amountOf 197 = .ok (.iload 10, 2) := dg_X8_amountOf_172.2.2.2.2.2.2.2.2.2.2.2.2.2.1
theorem dX8_amountOf_199 : decode cX8_amountOf 199 = .ok (.laload, 1) := dg_X8_amountOf_172.2.2.2.2.2.2.2.2.2.2.2.2.2.2.1
theorem dX8_amountOf_200 : decode cX8_amountOf 200 = .ok (.aload_n 0, 1) := dg_X8_amountOf_172.2.2.2.2.2.2.2.2.2.2.2.2.2.2.2
theorem dg_X8_amountOf_201 : (decode cX8_amountOf 201 = .ok (.getfield 25, 3)) ∧ (decode cX8_amountOf 204 = .ok (.iload 11, 2)) ∧ (decode cX8_amountOf 206 = .ok (.laload, 1)) ∧ (decode cX8_amountOf 207 = .ok (.invokestatic 277, 3)) ∧ (decode cX8_amountOf 210 = .ok (.ifCond .eq 7, 3)) ∧ (decode cX8_amountOf 213 = .ok (.lconst 1, 1)) ∧ (decode cX8_amountOf 214 = .ok (.goto 4, 3)) ∧ (decode cX8_amountOf 217 = .ok (.lconst 0, 1)) ∧ (decode cX8_amountOf 218 = .ok (.ladd, 1)) ∧ (decode cX8_amountOf 219 = .ok (.lstore 6, 2)) ∧ (decode cX8_amountOf 221 = .ok (.iinc 11 1, 3)) ∧ (decode cX8_amountOf 224 = .ok (.goto (-41), 3)) ∧ (decode cX8_amountOf 227 = .ok (.iinc 10 1, 3)) ∧ (decode cX8_amountOf 230 = .ok (.goto (-60), 3)) ∧ (decode cX8_amountOf 233 = .ok (.lload 6, 2)) ∧ (decode cX8_amountOf 235 = .ok (.lreturn, 1)) := by decide +kernel
theorem dX8_amountOf_201 : decode cX8_amountOf 201 = .ok (.getfield 25, 3) := dg_X8_amountOf_201.1
theorem dX8_amountOf_204 : decode cX8_amountOf 204 = .ok (.iload 11, 2) := dg_X8_amountOf_201.2.1
theorem dX8_amountOf_206 : decode cX8_amountOf 206 = .ok (.laload, 1) := dg_X8_amountOf_201.2.2.1
theorem dX8_amountOf_207 : decode cX8_amountOf 207 = .ok (.invokestatic 277, 3) := dg_X8_amountOf_201.2.2.2.1
theorem dX8_amountOf_210 : decode cX8_amountOf 210 = .ok (.ifCond .eq 7, 3) := dg_X8_amountOf_201.2.2.2.2.1
theorem dX8_amountOf_213 : decode cX8_amountOf 213 = .ok (.lconst 1, 1) := dg_X8_amountOf_201.2.2.2.2.2.1
theorem dX8_amountOf_214 : decode cX8_amountOf 214 = .ok (.goto 4, 3) := dg_X8_amountOf_201.2.2.2.2.2.2.1
theorem dX8_amountOf_217 : decode cX8_amountOf 217 = .ok (.lconst 0, 1) := dg_X8_amountOf_201.2.2.2.2.2.2.2.1
theorem dX8_amountOf_218 : decode cX8_amountOf 218 = .ok (.ladd, 1) := dg_X8_amountOf_201.2.2.2.2.2.2.2.2.1
theorem dX8_amountOf_219 : decode cX8_amountOf 219 = .ok (.lstore 6, 2) := dg_X8_amountOf_201.2.2.2.2.2.2.2.2.2.1
theorem dX8_amountOf_221 : decode cX8_amountOf 221 = .ok (.iinc 11 1, 3) := dg_X8_amountOf_201.2.2.2.2.2.2.2.2.2.2.1
theorem dX8_amountOf_224 : decode cX8_amountOf 224 = .ok (.goto (-41), 3) := dg_X8_amountOf_201.2.2.2.2.2.2.2.2.2.2.2.1
theorem dX8_amountOf_227 : decode cX8_amountOf 227 = .ok (.iinc 10 1, 3) := dg_X8_amountOf_201.2.2.2.2.2.2.2.2.2.2.2.2.1
theorem dX8_amountOf_230 : decode cX8_amountOf 230 = .ok (.goto (-60), 3) := dg_X8_amountOf_201.2.2.2.2.2.2.2.2.2.2.2.2.2.1
theorem dX8_amountOf_233 : decode cX8_amountOf 233 = .ok (.lload 6, 2) := dg_X8_amountOf_201.2.2.2.2.2.2.2.2.2.2.2.2.2.2.1
theorem dX8_amountOf_235 : decode cX8_amountOf 235 = .ok (.lreturn, 1) := dg_X8_amountOf_201.2.2.2.2.2.2.2.2.2.2.2.2.2.2.2
theorem dg_X8_amountOf_236 : (decode cX8_amountOf 236 = .ok (.iload 4, 2)) ∧ (decode cX8_amountOf 238 = .ok (.iconst 1, 1)) ∧ (decode cX8_amountOf 239 = .ok (.iadd, 1)) ∧ (decode cX8_amountOf 240 = .ok (.istore 10, 2)) ∧ (decode cX8_amountOf 242 = .ok (.iload 10, 2)) ∧ (decode cX8_amountOf 244 = .ok (.iload 5, 2)) ∧ (decode cX8_amountOf 246 = .ok (.if_icmp .ge 47, 3)) ∧ (decode cX8_amountOf 249 = .ok (.lload 6, 2)) ∧ (decode cX8_amountOf 251 = .ok (.iload_n 3, 1)) ∧ (decode cX8_amountOf 252 = .ok (.aload_n 0, 1)) ∧ (decode cX8_amountOf 253 = .ok (.getfield 25, 3)) ∧ (decode cX8_amountOf 256 = .ok (.iload 10, 2)) ∧ (decode cX8_amountOf 258 = .ok (.laload, 1)) ∧ (decode cX8_amountOf 259 = .ok (.invokestatic 239, 3)) ∧ (decode cX8_amountOf 262 = .ok (.iload_n 3, 1)) ∧ (decode cX8_amountOf 263 = .ok (.aload_n 0, 1)) := by decide +kernel
theorem dX8_amountOf_236 : decode cX8_amountOf 236 = .ok (.iload 4, 2) := dg_X8_amountOf_236.1
theorem dX8_amountOf_238 : decode cX8_amountOf 238 = .ok (.iconst 1, 1) := dg_X8_amountOf_236.2.1
theorem dX8_amountOf_239 : decode cX8_amountOf 239 = .ok (.iadd, 1) := dg_X8_amountOf_236.2.2.1
theorem dX8_amountOf_240 : decode cX8_amountOf 240 = .ok (.istore 10, 2) := dg_X8_amountOf_236.2.2.2.1
theorem dX8_amountOf_242 : decode cX8_amountOf 242 = .ok (.iload 10, 2) := dg_X8_amountOf_236.2.2.2.2.1
theorem dX8_amountOf_244 : decode cX8_amountOf 244 = .ok (.iload 5, 2) := dg_X8_amountOf_236.2.2.2.2.2.1
theorem dX8_amountOf_246 : decode cX8_amountOf 246 = .ok (.if_icmp .ge 47, 3) := dg_X8_amountOf_236.2.2.2.2.2.2.1
theorem dX8_amountOf_249 : decode cX8_amountOf 249 = .ok (.lload 6, 2) := dg_X8_amountOf_236.2.2.2.2.2.2.2.1
theorem dX8_amountOf_251 : decode cX8_amountOf 251 = .ok (.iload_n 3, 1) := dg_X8_amountOf_236.2.2.2.2.2.2.2.2.1
theorem dX8_amountOf_252 : decode cX8_amountOf 252 = .ok (.aload_n 0, 1) := dg_X8_amountOf_236.2.2.2.2.2.2.2.2.2.1
theorem dX8_amountOf_253 : decode cX8_amountOf 253 = .ok (.getfield 25, 3) := dg_X8_amountOf_236.2.2.2.2.2.2.2.2.2.2.1
theorem dX8_amountOf_256 : decode cX8_amountOf 256 = .ok (.iload 10, 2) := dg_X8_amountOf_236.2.2.2.2.2.2.2.2.2.2.2.1
theorem dX8_amountOf_258 : decode cX8_amountOf 258 = .ok (.laload, 1) := dg_X8_amountOf_236.2.2.2.2.2.2.2.2.2.2.2.2.1
theorem dX8_amountOf_259 : decode cX8_amountOf 259 = .ok (.invokestatic 239, 3) := dg_X8_amountOf_236.2.2.2.2.2.2.2.2.2.2.2.2.2.1
theorem dX8_amountOf_262 : decode cX8_amountOf 262 = .ok (.iload_n 3, 1) := dg_X8_amountOf_236.2.2.2.2.2.2.2.2.2.2.2.2.2.2.1
theorem dX8_amountOf_263 : decode cX8_amountOf 263 = .ok (.aload_n 0, 1) := dg_X8_amountOf_236.2.2.2.2.2.2.2.2.2.2.2.2.2.2.2
theorem dg_X8_amountOf_264 : (decode cX8_amountOf 264 = .ok (.getfield 25, 3)) ∧ (decode cX8_amountOf 267 = .ok (.iload 10, 2)) ∧ (decode cX8_amountOf 269 = .ok (.iconst 1, 1)) ∧ (decode cX8_amountOf 270 = .ok (.isub, 1)) ∧ (decode cX8_amountOf 271 = .ok (.laload, 1)) ∧ (decode cX8_amountOf 272 = .ok (.invokestatic 239, 3)) ∧ (decode cX8_amountOf 275 = .ok (.lcmp, 1)) ∧ (decode cX8_amountOf 276 = .ok (.ifCond .ge 7, 3)) ∧ (decode cX8_amountOf 279 = .ok (.lconst 1, 1)) ∧ (decode cX8_amountOf 280 = .ok (.goto 4, 3)) ∧ (decode cX8_amountOf 283 = .ok (.lconst 0, 1)) ∧ (decode cX8_amountOf 284 = .ok (.ladd, 1)) ∧ (decode cX8_amountOf 285 = .ok (.lstore 6, 2)) ∧ (decode cX8_amountOf 287 = .ok (.iinc 10 1, 3)) ∧ (decode cX8_amountOf 290 = .ok (.goto (-48), 3)) ∧ (decode cX8_amountOf 293 = .ok (.lload 6, 2)) := by decide +kernel
theorem dX8_amountOf_264 : decode cX8_amountOf 264 = .ok (.getfield 25, 3) := dg_X8_amountOf_264.1
theorem dX8_amountOf_267 : decode cX8_amountOf 267 = .ok (.iload 10, 2) := dg_X8_amountOf_264.2.1
theorem dX8_amountOf_269 : decode cX8_amountOf 269 = .ok (.iconst 1, 1) := dg_X8_amountOf_264.2.2.1
theorem dX8_amountOf_270 : decode cX8_amountOf 270 = .ok (.isub, 1) := dg_X8_amountOf_264.2.2.2.1
theorem dX8_amountOf_271 : decode cX8_amountOf 271 = .ok (.laload, 1) := dg_X8_amountOf_264.2.2.2.2.1
theorem dX8_amountOf_272 : decode cX8_amountOf 272 = .ok (.invokestatic 239, 3) := dg_X8_amountOf_264.2.2.2.2.2.1
theorem dX8_amountOf_275 : decode cX8_amountOf 275 = .ok (.lcmp, 1) := dg_X8_amountOf_264.2.2.2.2.2.2.1
theorem dX8_amountOf_276 : decode cX8_amountOf 276 = .ok (.ifCond .ge 7, 3) := dg_X8_amountOf_264.2.2.2.2.2.2.2.1
theorem dX8_amountOf_279 : decode cX8_amountOf 279 = .ok (.lconst 1, 1) := dg_X8_amountOf_264.2.2.2.2.2.2.2.2.1
theorem dX8_amountOf_280 : decode cX8_amountOf 280 = .ok (.goto 4, 3) := dg_X8_amountOf_264.2.2.2.2.2.2.2.2.2.1
theorem dX8_amountOf_283 : decode cX8_amountOf 283 = .ok (.lconst 0, 1) := dg_X8_amountOf_264.2.2.2.2.2.2.2.2.2.2.1
theorem dX8_amountOf_284 : decode cX8_amountOf 284 = .ok (.ladd, 1) := dg_X8_amountOf_264.2.2.2.2.2.2.2.2.2.2.2.1
theorem dX8_amountOf_285 : decode cX8_amountOf 285 = .ok (.lstore 6, 2) := dg_X8_amountOf_264.2.2.2.2.2.2.2.2.2.2.2.2.1
theorem dX8_amountOf_287 : decode cX8_amountOf 287 = .ok (.iinc 10 1, 3) := dg_X8_amountOf_264.2.2.2.2.2.2.2.2.2.2.2.2.2.1
theorem dX8_amountOf_290 : decode cX8_amountOf 290 = .ok (.goto (-48), 3) := dg_X8_amountOf_264.2.2.2.2.2.2.2.2.2.2.2.2.2.2.1
theorem dX8_amountOf_293 : decode cX8_amountOf 293 = .ok (.lload 6, 2) := dg_X8_amountOf_264.2.2.2.2.2.2.2.2.2.2.2.2.2.2.2
theorem dg_X8_amountOf_295 : (decode cX8_amountOf 295 = .ok (.lreturn, 1)) ∧ (decode cX8_amountOf 296 = .ok (.iload 4, 2)) ∧ (decode cX8_amountOf 298 = .ok (.istore 10, 2)) ∧ (decode cX8_amountOf 300 = .ok (.iload 10, 2)) ∧ (decode cX8_amountOf 302 = .ok (.iload 5, 2)) ∧ (decode cX8_amountOf 304 = .ok (.if_icmp .ge 36, 3)) ∧ (decode cX8_amountOf 307 = .ok (.lload 6, 2)) ∧ (decode cX8_amountOf 309 = .ok (.aload_n 0, 1)) ∧ (decode cX8_amountOf 310 = .ok (.getfield 25, 3)) ∧ (decode cX8_amountOf 313 = .ok (.iload 10, 2)) ∧ (decode cX8_amountOf 315 = .ok (.laload, 1)) ∧ (decode cX8_amountOf 316 = .ok (.aload_n 0, 1)) ∧ (decode cX8_amountOf 317 = .ok (.getfield 78, 3)) ∧ (decode cX8_amountOf 320 = .ok (.iload_n 1, 1)) ∧ (decode cX8_amountOf 321 = .ok (.laload, 1)) ∧ (decode cX8_amountOf 322 = .ok (.lcmp, 1)) := by decide +kernel
theorem dX8_amountOf_295 : decode cX8_amountOf 295 = .ok (.lreturn, 1) := dg_X8_amountOf_295.1
theorem dX8_amountOf_296 : decode cX8_amountOf 296 = .ok (.iload 4, 2) := dg_X8_amountOf_295.2.1
theorem dX8_amountOf_298 : decode cX8_amountOf 298 = .ok (.istore 10, 2) := dg_X8_amountOf_295.2.2.1
theorem dX8_amountOf_300 : decode cX8_amountOf 300 = .ok (.iload 10, 2) := dg_X8_amountOf_295.2.2.2.1
theorem dX8_amountOf_302 : decode cX8_amountOf 302 = .ok (.iload 5, 2) := dg_X8_amountOf_295.2.2.2.2.1
theorem dX8_amountOf_304 : decode cX8_amountOf 304 = .ok (.if_icmp .ge 36, 3) := dg_X8_amountOf_295.2.2.2.2.2.1
theorem dX8_amountOf_307 : decode cX8_amountOf 307 = .ok (.lload 6, 2) := dg_X8_amountOf_295.2.2.2.2.2.2.1
theorem dX8_amountOf_309 : decode cX8_amountOf 309 = .ok (.aload_n 0, 1) := dg_X8_amountOf_295.2.2.2.2.2.2.2.1
theorem dX8_amountOf_310 : decode cX8_amountOf 310 = .ok (.getfield 25, 3) := dg_X8_amountOf_295.2.2.2.2.2.2.2.2.1
theorem dX8_amountOf_313 : decode cX8_amountOf 313 = .ok (.iload 10, 2) := dg_X8_amountOf_295.2.2.2.2.2.2.2.2.2.1
theorem dX8_amountOf_315 : decode cX8_amountOf 315 = .ok (.laload, 1) := dg_X8_amountOf_295.2.2.2.2.2.2.2.2.2.2.1
theorem dX8_amountOf_316 : decode cX8_amountOf 316 = .ok (.aload_n 0, 1) := dg_X8_amountOf_295.2.2.2.2.2.2.2.2.2.2.2.1
theorem dX8_amountOf_317 : decode cX8_amountOf 317 = .ok (.getfield 78, 3) := dg_X8_amountOf_295.2.2.2.2.2.2.2.2.2.2.2.2.1
theorem dX8_amountOf_320 : decode cX8_amountOf 320 = .ok (.iload_n 1, 1) := dg_X8_amountOf_295.2.2.2.2.2.2.2.2.2.2.2.2.2.1
theorem dX8_amountOf_321 : decode cX8_amountOf 321 = .ok (.laload, 1) := dg_X8_amountOf_295.2.2.2.2.2.2.2.2.2.2.2.2.2.2.1
theorem dX8_amountOf_322 : decode cX8_amountOf 322 = .ok (.lcmp, 1) := dg_X8_amountOf_295.2.2.2.2.2.2.2.2.2.2.2.2.2.2.2
theorem dg_X8_amountOf_323 : (decode cX8_amountOf 323 = .ok (.ifCond .ne 7, 3)) ∧ (decode cX8_amountOf 326 = .ok (.lconst 1, 1)) ∧ (decode cX8_amountOf 327 = .ok (.goto 4, 3)) ∧ (decode cX8_amountOf 330 = .ok (.lconst 0, 1)) ∧ (decode cX8_amountOf 331 = .ok (.ladd, 1)) ∧ (decode cX8_amountOf 332 = .ok (.lstore 6, 2)) ∧ (decode cX8_amountOf 334 = .ok (.iinc 10 1, 3)) ∧ (decode cX8_amountOf 337 = .ok (.goto (-37), 3)) ∧ (decode cX8_amountOf 340 = .ok (.lload 6, 2)) ∧ (decode cX8_amountOf 342 = .ok (.aload_n 0, 1)) ∧ (decode cX8_amountOf 343 = .ok (.getfield 81, 3)) ∧ (decode cX8_amountOf 346 = .ok (.iload_n 1, 1)) ∧ (decode cX8_amountOf 347 = .ok (.laload, 1)) ∧ (decode cX8_amountOf 348 = .ok (.lcmp, 1)) ∧ (decode cX8_amountOf 349 = .ok (.ifCond .le 17, 3)) ∧ (decode cX8_amountOf 352 = .ok (.lload 6, 2)) := by decide +kernel
theorem dX8_amountOf_323 : decode cX8_amountOf 323 = .ok (.ifCond .ne 7, 3) := dg_X8_amountOf_323.1
theorem dX8_amountOf_326 : decode cX8_amountOf 326 = .ok (.lconst 1, 1) := dg_X8_amountOf_323.2.1
theorem dX8_amountOf_327 : decode cX8_amountOf 327 = .ok (.goto 4, 3) := dg_X8_amountOf_323.2.2.1
theorem dX8_amountOf_330 : decode cX8_amountOf 330 = .ok (.lconst 0, 1) := dg_X8_amountOf_323.2.2.2.1
theorem dX8_amountOf_331 : decode cX8_amountOf 331 = .ok (.ladd, 1) := dg_X8_amountOf_323.2.2.2.2.1
theorem dX8_amountOf_332 : decode cX8_amountOf 332 = .ok (.lstore 6, 2) := dg_X8_amountOf_323.2.2.2.2.2.1
theorem dX8_amountOf_334 : decode cX8_amountOf 334 = .ok (.iinc 10 1, 3) := dg_X8_amountOf_323.2.2.2.2.2.2.1
theorem dX8_amountOf_337 : decode cX8_amountOf 337 = .ok (.goto (-37), 3) := dg_X8_amountOf_323.2.2.2.2.2.2.2.1
theorem dX8_amountOf_340 : decode cX8_amountOf 340 = .ok (.lload 6, 2) := dg_X8_amountOf_323.2.2.2.2.2.2.2.2.1
theorem dX8_amountOf_342 : decode cX8_amountOf 342 = .ok (.aload_n 0, 1) := dg_X8_amountOf_323.2.2.2.2.2.2.2.2.2.1
theorem dX8_amountOf_343 : decode cX8_amountOf 343 = .ok (.getfield 81, 3) := dg_X8_amountOf_323.2.2.2.2.2.2.2.2.2.2.1
theorem dX8_amountOf_346 : decode cX8_amountOf 346 = .ok (.iload_n 1, 1) := dg_X8_amountOf_323.2.2.2.2.2.2.2.2.2.2.2.1
theorem dX8_amountOf_347 : decode cX8_amountOf 347 = .ok (.laload, 1) := dg_X8_amountOf_323.2.2.2.2.2.2.2.2.2.2.2.2.1
theorem dX8_amountOf_348 : decode cX8_amountOf 348 = .ok (.lcmp, 1) := dg_X8_amountOf_323.2.2.2.2.2.2.2.2.2.2.2.2.2.1
theorem dX8_amountOf_349 : decode cX8_amountOf 349 = .ok (.ifCond .le 17, 3) := dg_X8_amountOf_323.2.2.2.2.2.2.2.2.2.2.2.2.2.2.1
theorem dX8_amountOf_352 : decode cX8_amountOf 352 = .ok (.lload 6, 2) := dg_X8_amountOf_323.2.2.2.2.2.2.2.2.2.2.2.2.2.2.2
theorem dg_X8_amountOf_354 : (decode cX8_amountOf 354 = .ok (.aload_n 0, 1)) ∧ (decode cX8_amountOf 355 = .ok (.getfield 81, 3)) ∧ (decode cX8_amountOf 358 = .ok (.iload_n 1, 1)) ∧ (decode cX8_amountOf 359 = .ok (.laload, 1)) ∧ (decode cX8_amountOf 360 = .ok (.invokestatic 273, 3)) ∧ (decode cX8_amountOf 363 = .ok (.goto 14, 3)) ∧ (decode cX8_amountOf 366 = .ok (.aload_n 0, 1)) ∧ (decode cX8_amountOf 367 = .ok (.getfield 81, 3)) ∧ (decode cX8_amountOf 370 = .ok (.iload_n 1, 1)) ∧ (decode cX8_amountOf 371 = .ok (.laload, 1)) ∧ (decode cX8_amountOf 372 = .ok (.lload 6, 2)) ∧ (decode cX8_amountOf 374 = .ok (.invokestatic 273, 3)) ∧ (decode cX8_amountOf 377 = .ok (.lreturn, 1)) ∧ (decode cX8_amountOf 378 = .ok (.iload 4, 2)) ∧ (decode cX8_amountOf 380 = .ok (.iconst 1, 1)) ∧ (decode cX8_amountOf 381 = .ok (.iadd, 1)) := by decide +kernel
theorem dX8_amountOf_354 : decode cX8_amountOf 354 = .ok (.aload_n 0, 1) := dg_X8_amountOf_354.1
theorem dX8_amountOf_355 : decode cX8_amountOf 355 = .ok (.getfield 81, 3) := dg_X8_amountOf_354.2.1
theorem dX8_amountOf_358 : decode cX8_amountOf 358 = .ok (.iload_n 1, 1) := dg_X8_amountOf_354.2.2.1
theorem dX8_amountOf_359 : decode cX8_amountOf 359 = .ok (.laload, 1) := dg_X8_amountOf_354.2.2.2.1
theorem dX8_amountOf_360 : decode cX8_amountOf 360 = .ok (.invokestatic 273, 3) := dg_X8_amountOf_354.2.2.2.2.1
theorem dX8_amountOf_363 : decode cX8_amountOf 363 = .ok (.goto 14, 3) := dg_X8_amountOf_354.2.2.2.2.2.1
theorem dX8_amountOf_366 : decode cX8_amountOf 366 = .ok (.aload_n 0, 1) := dg_X8_amountOf_354.2.2.2.2.2.2.1
theorem dX8_amountOf_367 : decode cX8_amountOf 367 = .ok (.getfield 81, 3) := dg_X8_amountOf_354.2.2.2.2.2.2.2.1
theorem dX8_amountOf_370 : decode cX8_amountOf 370 = .ok (.iload_n 1, 1) := dg_X8_amountOf_354.2.2.2.2.2.2.2.2.1
theorem dX8_amountOf_371 : decode cX8_amountOf 371 = .ok (.laload, 1) := dg_X8_amountOf_354.2.2.2.2.2.2.2.2.2.1
theorem dX8_amountOf_372 : decode cX8_amountOf 372 = .ok (.lload 6, 2) := dg_X8_amountOf_354.2.2.2.2.2.2.2.2.2.2.1
theorem dX8_amountOf_374 : decode cX8_amountOf 374 = .ok (.invokestatic 273, 3) := dg_X8_amountOf_354.2.2.2.2.2.2.2.2.2.2.2.1
theorem dX8_amountOf_377 : decode cX8_amountOf 377 = .ok (.lreturn, 1) := dg_X8_amountOf_354.2.2.2.2.2.2.2.2.2.2.2.2.1
theorem dX8_amountOf_378 : decode cX8_amountOf 378 = .ok (.iload 4, 2) := dg_X8_amountOf_354.2.2.2.2.2.2.2.2.2.2.2.2.2.1
theorem dX8_amountOf_380 : decode cX8_amountOf 380 = .ok (.iconst 1, 1) := dg_X8_amountOf_354.2.2.2.2.2.2.2.2.2.2.2.2.2.2.1
theorem dX8_amountOf_381 : decode cX8_amountOf 381 = .ok (.iadd, 1) := dg_X8_amountOf_354.2.2.2.2.2.2.2.2.2.2.2.2.2.2.2
theorem dg_X8_amountOf_382 : (decode cX8_amountOf 382 = .ok (.istore 10, 2)) ∧ (decode cX8_amountOf 384 = .ok (.iload 10, 2)) ∧ (decode cX8_amountOf 386 = .ok (.iload 5, 2)) ∧ (decode cX8_amountOf 388 = .ok (.if_icmp .ge 39, 3)) ∧ (decode cX8_amountOf 391 = .ok (.lload 6, 2)) ∧ (decode cX8_amountOf 393 = .ok (.aload_n 0, 1)) ∧ (decode cX8_amountOf 394 = .ok (.getfield 25, 3)) ∧ (decode cX8_amountOf 397 = .ok (.iload 10, 2)) ∧ (decode cX8_amountOf 399 = .ok (.laload, 1)) ∧ (decode cX8_amountOf 400 = .ok (.aload_n 0, 1)) ∧ (decode cX8_amountOf 401 = .ok (.getfield 25, 3)) ∧ (decode cX8_amountOf 404 = .ok (.iload 10, 2)) ∧ (decode cX8_amountOf 406 = .ok (.iconst 1, 1)) ∧ (decode cX8_amountOf 407 = .ok (.isub, 1)) ∧ (decode cX8_amountOf 408 = .ok (.laload, 1)) ∧ (decode cX8_amountOf 409 = .ok (.lcmp, 1)) := by decide +kernel
theorem dX8_amountOf_382 : decode cX8_amountOf 382 = .ok (.istore 10, 2) := dg_X8_amountOf_382.1
theorem dX8_amountOf_384 : decode cX8_amountOf 384 = .ok (.iload 10, 2) := dg_X8_amountOf_382.2.1
theorem dX8_amountOf_386 : decode cX8_amountOf 386 = .ok (.iload 5, 2) := dg_X8_amountOf_382.2.2.1
theorem dX8_amountOf_388 : decode cX8_amountOf 388 = .ok (.if_icmp .ge 39, 3) := dg_X8_amountOf_382.2.2.2.1
theorem dX8_amountOf_391 : decode cX8_amountOf 391 = .ok (.lload 6, 2) := dg_X8_amountOf_382.2.2.2.2.1
theorem dX8_amountOf_393 : decode cX8_amountOf 393 = .ok (.aload_n 0, 1) := dg_X8_amountOf_382.2.2.2.2.2.1
theorem dX8_amountOf_394 : decode cX8_amountOf 394 = .ok (.getfield 25, 3) := dg_X8_amountOf_382.2.2.2.2.2.2.1
theorem dX8_amountOf_397 : decode cX8_amountOf 397 = .ok (.iload 10, 2) := dg_X8_amountOf_382.2.2.2.2.2.2.2.1
theorem dX8_amountOf_399 : decode cX8_amountOf 399 = .ok (.laload, 1) := dg_X8_amountOf_382.2.2.2.2.2.2.2.2.1
theorem dX8_amountOf_400 : decode cX8_amountOf 400 = .ok (.aload_n 0, 1) := dg_X8_amountOf_382.2.2.2.2.2.2.2.2.2.1
theorem dX8_amountOf_401 : decode cX8_amountOf 401 = .ok (.getfield 25, 3) := dg_X8_amountOf_382.2.2.2.2.2.2.2.2.2.2.1
theorem dX8_amountOf_404 : decode cX8_amountOf 404 = .ok (.iload 10, 2) := dg_X8_amountOf_382.2.2.2.2.2.2.2.2.2.2.2.1
theorem dX8_amountOf_406 : decode cX8_amountOf 406 = .ok (.iconst 1, 1) := dg_X8_amountOf_382.2.2.2.2.2.2.2.2.2.2.2.2.1
theorem dX8_amountOf_407 : decode cX8_amountOf 407 = .ok (.isub, 1) := dg_X8_amountOf_382.2.2.2.2.2.2.2.2.2.2.2.2.2.1
theorem dX8_amountOf_408 : decode cX8_amountOf 408 = .ok (.laload, 1) := dg_X8_amountOf_382.2.2.2.2.2.2.2.2.2.2.2.2.2.2.1
theorem dX8_amountOf_409 : decode cX8_amountOf 409 = .ok (.lcmp, 1) := dg_X8_amountOf_382.2.2.2.2.2.2.2.2.2.2.2.2.2.2.2
theorem dg_X8_amountOf_410 : (decode cX8_amountOf 410 = .ok (.ifCond .eq 7, 3)) ∧ (decode cX8_amountOf 413 = .ok (.lconst 1, 1)) ∧ (decode cX8_amountOf 414 = .ok (.goto 4, 3)) ∧ (decode cX8_amountOf 417 = .ok (.lconst 0, 1)) ∧ (decode cX8_amountOf 418 = .ok (.ladd, 1)) ∧ (decode cX8_amountOf 419 = .ok (.lstore 6, 2)) ∧ (decode cX8_amountOf 421 = .ok (.iinc 10 1, 3)) ∧ (decode cX8_amountOf 424 = .ok (.goto (-40), 3)) ∧ (decode cX8_amountOf 427 = .ok (.lload 6, 2)) ∧ (decode cX8_amountOf 429 = .ok (.lreturn, 1)) ∧ (decode cX8_amountOf 430 = .ok (.iload 4, 2)) ∧ (decode cX8_amountOf 432 = .ok (.iconst 1, 1)) ∧ (decode cX8_amountOf 433 = .ok (.iadd, 1)) ∧ (decode cX8_amountOf 434 = .ok (.istore 10, 2)) ∧ (decode cX8_amountOf 436 = .ok (.iload 10, 2)) ∧ (decode cX8_amountOf 438 = .ok (.iload 5, 2)) := by decide +kernel
theorem dX8_amountOf_410 : decode cX8_amountOf 410 = .ok (.ifCond .eq 7, 3) := dg_X8_amountOf_410.1
theorem dX8_amountOf_413 : decode cX8_amountOf 413 = .ok (.lconst 1, 1) := dg_X8_amountOf_410.2.1
theorem dX8_amountOf_414 : decode cX8_amountOf 414 = .ok (.goto 4, 3) := dg_X8_amountOf_410.2.2.1
theorem dX8_amountOf_417 : decode cX8_amountOf 417 = .ok (.lconst 0, 1) := dg_X8_amountOf_410.2.2.2.1
theorem dX8_amountOf_418 : decode cX8_amountOf 418 = .ok (.ladd, 1) := dg_X8_amountOf_410.2.2.2.2.1
theorem dX8_amountOf_419 : decode cX8_amountOf 419 = .ok (.lstore 6, 2) := dg_X8_amountOf_410.2.2.2.2.2.1
theorem dX8_amountOf_421 : decode cX8_amountOf 421 = .ok (.iinc 10 1, 3) := dg_X8_amountOf_410.2.2.2.2.2.2.1
theorem dX8_amountOf_424 : decode cX8_amountOf 424 = .ok (.goto (-40), 3) := dg_X8_amountOf_410.2.2.2.2.2.2.2.1
theorem dX8_amountOf_427 : decode cX8_amountOf 427 = .ok (.lload 6, 2) := dg_X8_amountOf_410.2.2.2.2.2.2.2.2.1
theorem dX8_amountOf_429 : decode cX8_amountOf 429 = .ok (.lreturn, 1) := dg_X8_amountOf_410.2.2.2.2.2.2.2.2.2.1
theorem dX8_amountOf_430 : decode cX8_amountOf 430 = .ok (.iload 4, 2) := dg_X8_amountOf_410.2.2.2.2.2.2.2.2.2.2.1
theorem dX8_amountOf_432 : decode cX8_amountOf 432 = .ok (.iconst 1, 1) := dg_X8_amountOf_410.2.2.2.2.2.2.2.2.2.2.2.1
theorem dX8_amountOf_433 : decode cX8_amountOf 433 = .ok (.iadd, 1) := dg_X8_amountOf_410.2.2.2.2.2.2.2.2.2.2.2.2.1
theorem dX8_amountOf_434 : decode cX8_amountOf 434 = .ok (.istore 10, 2) := dg_X8_amountOf_410.2.2.2.2.2.2.2.2.2.2.2.2.2.1
theorem dX8_amountOf_436 : decode cX8_amountOf 436 = .ok (.iload 10, 2) := dg_X8_amountOf_410.2.2.2.2.2.2.2.2.2.2.2.2.2.2.1
theorem dX8_amountOf_438 : decode cX8_amountOf 438 = .ok (.iload 5, 2) := dg_X8_amountOf_410.2.2.2.2.2.2.2.2.2.2.2.2.2.2.2
theorem dg_X8_amountOf_440 : (decode cX8_amountOf 440 = .ok (.if_icmp .ge 81, 3)) ∧ (decode cX8_amountOf 443 = .ok (.iload_n 3, 1)) ∧ (decode cX8_amountOf 444 = .ok (.aload_n 0, 1)) ∧ (decode cX8_amountOf 445 = .ok (.getfield 25, 3)) ∧ (decode cX8_amountOf 448 = .ok (.iload 10, 2)) ∧ (decode cX8_amountOf 450 = .ok (.laload, 1)) ∧ (decode cX8_amountOf 451 = .ok (.invokestatic 270, 3)) ∧ (decode cX8_amountOf 454 = .ok (.lstore 11, 2)) ∧ (decode cX8_amountOf 456 = .ok (.iload_n 3, 1)) ∧ (decode cX8_amountOf 457 = .ok (.aload_n 0, 1)) ∧ (decode cX8_amountOf 458 = .ok (.getfield 25, 3)) ∧ (decode cX8_amountOf 461 = .ok (.iload 10, 2)) ∧ (decode cX8_amountOf 463 = .ok (.iconst 1, 1)) ∧ (decode cX8_amountOf 464 = .ok (.isub, 1)) ∧ (decode cX8_amountOf 465 = .ok (.laload, 1)) ∧ (decode cX8_amountOf 466 = .ok (.invokestatic 270, 3)) := by decide +kernel
theorem dX8_amountOf_440 : decode cX8_amountOf 440 = .ok (.if_icmp .ge 81, 3) := dg_X8_amountOf_440.1
theorem dX8_amountOf_443 : decode cX8_amountOf 443 = .ok (.iload_n 3, 1) := dg_X8_amountOf_440.2.1
theorem dX8_amountOf_444 : decode cX8_amountOf 444 = .ok (.aload_n 0, 1) := dg_X8_amountOf_440.2.2.1
theorem dX8_amountOf_445 : decode cX8_amountOf 445 = .ok (.getfield 25, 3) := dg_X8_amountOf_440.2.2.2.1
theorem dX8_amountOf_448 : decode cX8_amountOf 448 = .ok (.iload 10, 2) := dg_X8_amountOf_440.2.2.2.2.1
theorem dX8_amountOf_450 : decode cX8_amountOf 450 = .ok (.laload, 1) := dg_X8_amountOf_440.2.2.2.2.2.1
theorem dX8_amountOf_451 : decode cX8_amountOf 451 = .ok (.invokestatic 270, 3) := dg_X8_amountOf_440.2.2.2.2.2.2.1
theorem dX8_amountOf_454 : decode cX8_amountOf 454 = .ok (.lstore 11, 2) := dg_X8_amountOf_440.2.2.2.2.2.2.2.1
theorem dX8_amountOf_456 : decode cX8_amountOf 456 = .ok (.iload_n 3, 1) := dg_X8_amountOf_440.2.2.2.2.2.2.2.2.1
theorem dX8_amountOf_457 : decode cX8_amountOf 457 = .ok (.aload_n 0, 1) := dg_X8_amountOf_440.2.2.2.2.2.2.2.2.2.1
theorem dX8_amountOf_458 : decode cX8_amountOf 458 = .ok (.getfield 25, 3) := dg_X8_amountOf_440.2.2.2.2.2.2.2.2.2.2.1
theorem dX8_amountOf_461 : decode cX8_amountOf 461 = .ok (.iload 10, 2) := dg_X8_amountOf_440.2.2.2.2.2.2.2.2.2.2.2.1
theorem dX8_amountOf_463 : decode cX8_amountOf 463 = .ok (.iconst 1, 1) := dg_X8_amountOf_440.2.2.2.2.2.2.2.2.2.2.2.2.1
theorem dX8_amountOf_464 : decode cX8_amountOf 464 = .ok (.isub, 1) := dg_X8_amountOf_440.2.2.2.2.2.2.2.2.2.2.2.2.2.1
theorem dX8_amountOf_465 : decode cX8_amountOf 465 = .ok (.laload, 1) := dg_X8_amountOf_440.2.2.2.2.2.2.2.2.2.2.2.2.2.2.1
theorem dX8_amountOf_466 : decode cX8_amountOf 466 = .ok (.invokestatic 270, 3) := dg_X8_amountOf_440.2.2.2.2.2.2.2.2.2.2.2.2.2.2.2
theorem dg_X8_amountOf_469 : (decode cX8_amountOf 469 = .ok (.lstore 13, 2)) ∧ (decode cX8_amountOf 471 = .ok (.lload 11, 2)) ∧ (decode cX8_amountOf 473 = .ok (.lload 13, 2)) ∧ (decode cX8_amountOf 475 = .ok (.lcmp, 1)) ∧ (decode cX8_amountOf 476 = .ok (.ifCond .le 13, 3)) ∧ (decode cX8_amountOf 479 = .ok (.lload 11, 2)) ∧ (decode cX8_amountOf 481 = .ok (.lload 13, 2)) ∧ (decode cX8_amountOf 483 = .ok (.invokestatic 273, 3)) ∧ (decode cX8_amountOf 486 = .ok (.goto 10, 3)) ∧ (decode cX8_amountOf 489 = .ok (.lload 13, 2)) ∧ (decode cX8_amountOf 491 = .ok (.lload 11, 2)) ∧ (decode cX8_amountOf 493 = .ok (.invokestatic 273, 3)) ∧ (decode cX8_amountOf 496 = .ok (.lstore 15, 2)) ∧ (decode cX8_amountOf 498 = .ok (.lload 15, 2)) ∧ (decode cX8_amountOf 500 = .ok (.lload 6, 2)) ∧ (decode cX8_amountOf 502 = .ok (.lcmp, 1)) := by decide +kernel
theorem dX8_amountOf_469 : decode cX8_amountOf 469 = .ok (.lstore 13, 2) := dg_X8_amountOf_469.1
theorem dX8_amountOf_471 : decode cX8_amountOf 471 = .ok (.lload 11, 2) := dg_X8_amountOf_469.2.1
theorem dX8_amountOf_473 : decode cX8_amountOf 473 = .ok (.lload 13, 2) := dg_X8_amountOf_469.2.2.1
theorem dX8_amountOf_475 : decode cX8_amountOf 475 = .ok (.lcmp, 1) := dg_X8_amountOf_469.2.2.2.1
theorem dX8_amountOf_476 : decode cX8_amountOf 476 = .ok (.ifCond .le 13, 3) := dg_X8_amountOf_469.2.2.2.2.1
theorem dX8_amountOf_479 : decode cX8_amountOf 479 = .ok (.lload 11, 2) := dg_X8_amountOf_469.2.2.2.2.2.1
theorem dX8_amountOf_481 : decode cX8_amountOf 481 = .ok (.lload 13, 2) := dg_X8_amountOf_469.2.2.2.2.2.2.1
theorem dX8_amountOf_483 : decode cX8_amountOf 483 = .ok (.invokestatic 273, 3) := dg_X8_amountOf_469.2.2.2.2.2.2.2.1
theorem dX8_amountOf_486 : decode cX8_amountOf 486 = .ok (.goto 10, 3) := dg_X8_amountOf_469.2.2.2.2.2.2.2.2.1
theorem dX8_amountOf_489 : decode cX8_amountOf 489 = .ok (.lload 13, 2) := dg_X8_amountOf_469.2.2.2.2.2.2.2.2.2.1
theorem dX8_amountOf_491 : decode cX8_amountOf 491 = .ok (.lload 11, 2) := dg_X8_amountOf_469.2.2.2.2.2.2.2.2.2.2.1
theorem dX8_amountOf_493 : decode cX8_amountOf 493 = .ok (.invokestatic 273, 3) := dg_X8_amountOf_469.2.2.2.2.2.2.2.2.2.2.2.1
theorem dX8_amountOf_496 : decode cX8_amountOf 496 = .ok (.lstore 15, 2) := dg_X8_amountOf_469.2.2.2.2.2.2.2.2.2.2.2.2.1
theorem dX8_amountOf_498 : decode cX8_amountOf 498 = .ok (.lload 15, 2) := dg_X8_amountOf_469.2.2.2.2.2.2.2.2.2.2.2.2.2.1
theorem dX8_amountOf_500 : decode cX8_amountOf 500 = .ok (.lload 6, 2) := dg_X8_amountOf_469.2.2.2.2.2.2.2.2.2.2.2.2.2.2.1
theorem dX8_amountOf_502 : decode cX8_amountOf 502 = .ok (.lcmp, 1) := dg_X8_amountOf_469.2.2.2.2.2.2.2.2.2.2.2.2.2.2.2
theorem dg_X8_amountOf_503 : (decode cX8_amountOf 503 = .ok (.ifCond .le 8, 3)) ∧ (decode cX8_amountOf 506 = .ok (.lload 15, 2)) ∧ (decode cX8_amountOf 508 = .ok (.goto 5, 3)) ∧ (decode cX8_amountOf 511 = .ok (.lload 6, 2)) ∧ (decode cX8_amountOf 513 = .ok (.lstore 6, 2)) ∧ (decode cX8_amountOf 515 = .ok (.iinc 10 1, 3)) ∧ (decode cX8_amountOf 518 = .ok (.goto (-82), 3)) ∧ (decode cX8_amountOf 521 = .ok (.lload 6, 2)) ∧ (decode cX8_amountOf 523 = .ok (.lreturn, 1)) := by decide +kernel
theorem dX8_amountOf_503 : decode cX8_amountOf 503 = .ok (.ifCond .le 8, 3) := dg_X8_amountOf_503.1
theorem dX8_amountOf_506 : decode cX8_amountOf 506 = .ok (.lload 15, 2) := dg_X8_amountOf_503.2.1
theorem dX8_amountOf_508 : decode cX8_amountOf 508 = .ok (.goto 5, 3) := dg_X8_amountOf_503.2.2.1
theorem dX8_amountOf_511 : decode cX8_amountOf 511 = .ok (.lload 6, 2) := dg_X8_amountOf_503.2.2.2.1
theorem dX8_amountOf_513 : decode cX8_amountOf 513 = .ok (.lstore 6, 2) := dg_X8_amountOf_503.2.2.2.2.1
theorem dX8_amountOf_515 : decode cX8_amountOf 515 = .ok (.iinc 10 1, 3) := dg_X8_amountOf_503.2.2.2.2.2.1
theorem dX8_amountOf_518 : decode cX8_amountOf 518 = .ok (.goto (-82), 3) := dg_X8_amountOf_503.2.2.2.2.2.2.1
theorem dX8_amountOf_521 : decode cX8_amountOf 521 = .ok (.lload 6, 2) := dg_X8_amountOf_503.2.2.2.2.2.2.2.1
theorem dX8_amountOf_523 : decode cX8_amountOf 523 = .ok (.lreturn, 1) := dg_X8_amountOf_503.2.2.2.2.2.2.2.2
theorem zk_1082 : Cond.methodLink RX8 270 yX8_sumNumber ∈ zz_w := zz_in (List.mem_append_right _ (List.mem_append_right _ (List.mem_append_right _ (List.mem_append_right _ (List.mem_append_right _ (List.mem_of_getElem? (i := 122) (by decide +kernel))))))) rfl
set_option maxRecDepth 20000 in
theorem zk_1084 : Cond.code yX8_sumNumber cX8_sumNumber 3 (some .long) ∈ zz_w := zz_in (List.mem_append_right _ (List.mem_append_right _ (List.mem_append_right _ (List.mem_append_right _ (List.mem_append_right _ (List.mem_of_getElem? (i := 124) (rfl))))))) rfl
theorem zk_1083 : Cond.static yX8_sumNumber ∈ zz_w := zz_in (List.mem_append_right _ (List.mem_append_right _ (List.mem_append_right _ (List.mem_append_right _ (List.mem_append_right _ (List.mem_of_getElem? (i := 123) (by decide +kernel))))))) rfl
theorem zc_X8_270 : zz_cS RX8 270 yX8_sumNumber cX8_sumNumber 3 (some .long) 2 := ⟨⟨zk_1082, zk_1084, zk_7, by decide, by decide, by decide +kernel⟩, zk_1083⟩
theorem zk_1091 : Cond.methodLink RX8 273 yX8_far ∈ zz_w := zz_in (List.mem_append_right _ (List.mem_append_right _ (List.mem_append_right _ (List.mem_append_right _ (List.mem_append_right _ (List.mem_of_getElem? (i := 131) (by decide +kernel))))))) rfl
set_option maxRecDepth 20000 in
theorem zk_1093 : Cond.code yX8_far cX8_far 6 (some .long) ∈ zz_w := zz_in (List.mem_append_right _ (List.mem_append_right _ (List.mem_append_right _ (List.mem_append_right _ (List.mem_append_right _ (List.mem_of_getElem? (i := 133) (rfl))))))) rfl
theorem zk_1092 : Cond.static yX8_far ∈ zz_w := zz_in (List.mem_append_right _ (List.mem_append_right _ (List.mem_append_right _ (List.mem_append_right _ (List.mem_append_right _ (List.mem_of_getElem? (i := 132) (by decide +kernel))))))) rfl
theorem zc_X8_273 : zz_cS RX8 273 yX8_far cX8_far 6 (some .long) 2 := ⟨⟨zk_1091, zk_1093, zk_7, by decide, by decide, by decide +kernel⟩, zk_1092⟩
theorem zk_1095 : Cond.methodLink RX8 277 yX8_isLike ∈ zz_w := zz_in (List.mem_append_right _ (List.mem_append_right _ (List.mem_append_right _ (List.mem_append_right _ (List.mem_append_right _ (List.mem_of_getElem? (i := 135) (by decide +kernel))))))) rfl
set_option maxRecDepth 20000 in
theorem zk_1097 : Cond.code yX8_isLike cX8_isLike 6 (some .boolean) ∈ zz_w := zz_in (List.mem_append_right _ (List.mem_append_right _ (List.mem_append_right _ (List.mem_append_right _ (List.mem_append_right _ (List.mem_of_getElem? (i := 137) (rfl))))))) rfl
theorem zk_1096 : Cond.static yX8_isLike ∈ zz_w := zz_in (List.mem_append_right _ (List.mem_append_right _ (List.mem_append_right _ (List.mem_append_right _ (List.mem_append_right _ (List.mem_of_getElem? (i := 136) (by decide +kernel))))))) rfl
theorem zc_X8_277 : zz_cS RX8 277 yX8_isLike cX8_isLike 6 (some .boolean) 3 := ⟨⟨zk_1095, zk_1097, zk_7, by decide, by decide, by decide +kernel⟩, zk_1096⟩
def fn_cm_amountOf (kdf : Nat → Int32) (btf : Nat → Int64) (rsf : Nat → Int32) (lof : Nat → Int64) (hif : Nat → Int64) (d : Nat) (a : Nat) (sz : Nat) (lz : Nat) : Int64 := (if (rsf d) = nI 0 then (if (lof d) ≤ (sp_m0 (kdf a) btf (sz + lz - sz) sz 0) then (if (sp_m0 (kdf a) btf (sz + lz - sz) sz 0) ≤ (hif d) then 0 else (fn_cm_far (sp_m0 (kdf a) btf (sz + lz - sz) sz 0) (hif d))) else (fn_cm_far (lof d) (sp_m0 (kdf a) btf (sz + lz - sz) sz 0))) else (if (rsf d) = nI 1 then (sp_m1 (kdf a) btf (sz + lz) (sz + lz - sz) sz 0) else (if (rsf d) = nI 2 then (sp_m2 (kdf a) btf (sz + lz - (sz + 1)) (sz + 1) 0) else (if (rsf d) = nI 3 then (if (sp_m3 (lof d) btf (sz + lz - sz) sz 0) ≤ (hif d) then (fn_cm_far (hif d) (sp_m3 (lof d) btf (sz + lz - sz) sz 0)) else (fn_cm_far (sp_m3 (lof d) btf (sz + lz - sz) sz 0) (hif d))) else (if (rsf d) = nI 4 then (sp_m4 btf (sz + lz - (sz + 1)) (sz + 1) 0) else (sp_m5 (kdf a) btf (sz + lz - (sz + 1)) (sz + 1) 0))))))
abbrev rm_cm_amountOf : Room := { frames := 3, cells := 0, slots := 0, locals := 71 }
abbrev po_cm_amountOf (g : zz_G) (h0 : Nat) (a_kindOf : Nat) (a_depthOf : Nat) (a_lengthOf : Nat) (a_classOf : Nat) (a_baseOf : Nat) (a_bits : Nat) (a_pinned : Nat) (a_lengths : Nat) (a_stackArray : Nat) (a_stackOther : Nat) (a_stackAt : Nat) (a_path : Nat) (a_held : Nat) (a_alike : Nat) (a_hashes : Nat) (a_decisionArray : Nat) (a_decisionPlace : Nat) (a_candidateMany : Nat) (a_candidates : Nat) (a_ruleSort : Nat) (a_ruleArray : Nat) (a_ruleWeight : Nat) (a_ruleLow : Nat) (a_ruleHigh : Nat) (a_chosen : Nat) (a_bestOf : Nat) (a_markElements : Nat) (a_markBits : Nat) (a_markPins : Nat) (na : Nat) (ne : Nat) (nd : Nat) (nr : Nat) (nm : Nat) (i_code : Int32) (i_lastArray : Int32) (i_lastPlace : Int32) (kdf : Nat → Int32) (lnf : Nat → Int32) (saf : Nat → Int32) (btf : Nat → Int64) (rsf : Nat → Int32) (juf : Nat → Int32) (lof : Nat → Int64) (hif : Nat → Int64) (d : Nat) (a : Nat) (sz : Nat) (lz : Nat) (h_r : d < 12 ∧ a < 60 ∧ sz + lz ≤ 4000 ∧ lz ≤ 200) (e_j : juf d = nI a) (e_s : saf a = nI sz) (e_l : lnf a = nI lz) : Int64 → va_W → Prop := fun (r : Int64) (u : va_W) => r = fn_cm_amountOf kdf btf rsf lof hif d a sz lz ∧ u = [cw_k7 h0 (nI na) (nI ne) a_kindOf a_depthOf a_lengthOf a_classOf a_baseOf a_bits a_pinned i_code a_lengths a_stackArray a_stackOther a_stackAt i_lastArray i_lastPlace a_path a_held a_alike a_hashes (nI nd) a_decisionArray a_decisionPlace a_candidateMany a_candidates (nI nr) a_ruleSort a_ruleArray a_ruleWeight a_ruleLow a_ruleHigh a_chosen a_bestOf (nI nm) a_markElements a_markBits a_markPins, cw_i g a_kindOf 60 kdf, cw_i g a_lengthOf 60 lnf, cw_i g a_baseOf 60 saf, cw_l g a_bits 4000 btf, cw_i g a_ruleSort 12 rsf, cw_i g a_ruleArray 12 juf, cw_l g a_ruleLow 12 lof, cw_l g a_ruleHigh 12 hif]
set_option maxHeartbeats 4000000 in
set_option maxRecDepth 100000 in
theorem cm_amountOf (g : zz_G) (h0 : Nat) (a_kindOf : Nat) (a_depthOf : Nat) (a_lengthOf : Nat) (a_classOf : Nat) (a_baseOf : Nat) (a_bits : Nat) (a_pinned : Nat) (a_lengths : Nat) (a_stackArray : Nat) (a_stackOther : Nat) (a_stackAt : Nat) (a_path : Nat) (a_held : Nat) (a_alike : Nat) (a_hashes : Nat) (a_decisionArray : Nat) (a_decisionPlace : Nat) (a_candidateMany : Nat) (a_candidates : Nat) (a_ruleSort : Nat) (a_ruleArray : Nat) (a_ruleWeight : Nat) (a_ruleLow : Nat) (a_ruleHigh : Nat) (a_chosen : Nat) (a_bestOf : Nat) (a_markElements : Nat) (a_markBits : Nat) (a_markPins : Nat) (na : Nat) (ne : Nat) (nd : Nat) (nr : Nat) (nm : Nat) (i_code : Int32) (i_lastArray : Int32) (i_lastPlace : Int32) (kdf : Nat → Int32) (lnf : Nat → Int32) (saf : Nat → Int32) (btf : Nat → Int64) (rsf : Nat → Int32) (juf : Nat → Int32) (lof : Nat → Int64) (hif : Nat → Int64) (d : Nat) (a : Nat) (sz : Nat) (lz : Nat) (h_r : d < 12 ∧ a < 60 ∧ sz + lz ≤ 4000 ∧ lz ≤ 200) (e_j : juf d = nI a) (e_s : saf a = nI sz) (e_l : lnf a = nI lz) : zz_L g yX8_amountOf (.code yX8_amountOf cX8_amountOf 17 (some .long)) rm_cm_amountOf [.ref h0, .int (nI d)] [cw_k7 h0 (nI na) (nI ne) a_kindOf a_depthOf a_lengthOf a_classOf a_baseOf a_bits a_pinned i_code a_lengths a_stackArray a_stackOther a_stackAt i_lastArray i_lastPlace a_path a_held a_alike a_hashes (nI nd) a_decisionArray a_decisionPlace a_candidateMany a_candidates (nI nr) a_ruleSort a_ruleArray a_ruleWeight a_ruleLow a_ruleHigh a_chosen a_bestOf (nI nm) a_markElements a_markBits a_markPins, cw_i g a_kindOf 60 kdf, cw_i g a_lengthOf 60 lnf, cw_i g a_baseOf 60 saf, cw_l g a_bits 4000 btf, cw_i g a_ruleSort 12 rsf, cw_i g a_ruleArray 12 juf, cw_l g a_ruleLow 12 lof, cw_l g a_ruleHigh 12 hif] (po_cm_amountOf g h0 a_kindOf a_depthOf a_lengthOf a_classOf a_baseOf a_bits a_pinned a_lengths a_stackArray a_stackOther a_stackAt a_path a_held a_alike a_hashes a_decisionArray a_decisionPlace a_candidateMany a_candidates a_ruleSort a_ruleArray a_ruleWeight a_ruleLow a_ruleHigh a_chosen a_bestOf a_markElements a_markBits a_markPins na ne nd nr nm i_code i_lastArray i_lastPlace kdf lnf saf btf rsf juf lof hif d a sz lz h_r e_j e_s e_l) := by
  refine zz_L.intro (own := RX8) (cc := cX8_amountOf) (nL := 17) (by decide) rfl (Nat.le_of_ble_eq_true rfl) ?_
  intro p l e s m args below meth c A H locs ls hC hnm hs hZ hl
  obtain ⟨hx, hb, hml, hown, hts, hr, hlocks, hK⟩ := id hC
  have hl : lv_has ls 17 [(0, .ref h0), (1, .int (nI d))] := hl
  have hZ : zz_Z g A s.heap [cw_k7 h0 (nI na) (nI ne) a_kindOf a_depthOf a_lengthOf a_classOf a_baseOf a_bits a_pinned i_code a_lengths a_stackArray a_stackOther a_stackAt i_lastArray i_lastPlace a_path a_held a_alike a_hashes (nI nd) a_decisionArray a_decisionPlace a_candidateMany a_candidates (nI nr) a_ruleSort a_ruleArray a_ruleWeight a_ruleLow a_ruleHigh a_chosen a_bestOf (nI nm) a_markElements a_markBits a_markPins, cw_i g a_kindOf 60 kdf, cw_i g a_lengthOf 60 lnf, cw_i g a_baseOf 60 saf, cw_l g a_bits 4000 btf, cw_i g a_ruleSort 12 rsf, cw_i g a_ruleArray 12 juf, cw_l g a_ruleLow 12 lof, cw_l g a_ruleHigh 12 hif] H locs := hZ
  refine lv_aload_n hx hb dX8_amountOf_0 rfl (lv_at hl 0 rfl) ?_
  refine zz_get hC hZ 0 rfl zf_X8_72 rfl dX8_amountOf_1 ?_
  refine lv_iload_n hx hb dX8_amountOf_4 rfl (lv_at hl 1 rfl) ?_
  have bd1 : d < 12 := by omega
  refine zz_ialdn hC hZ 6 rfl bd1 (by decide) dX8_amountOf_5 ?_
  refine zz_topi (v := nI a) (e_j) ?_
  refine lv_istore_n (lv' := [(2, .int (nI a)), (0, .ref h0), (1, .int (nI d))]) hx hb dX8_amountOf_6 rfl hl (by decide) rfl (fun ls hl => ?_)
  refine lv_aload_n hx hb dX8_amountOf_7 rfl (lv_at hl 1 rfl) ?_
  refine zz_get hC hZ 0 rfl zf_X8_7 rfl dX8_amountOf_8 ?_
  refine lv_iload_n hx hb dX8_amountOf_11 rfl (lv_at hl 0 rfl) ?_
  have bd2 : a < 60 := by omega
  refine zz_ialdn hC hZ 1 rfl bd2 (by decide) dX8_amountOf_12 ?_
  refine lv_istore_n (lv' := [(3, .int (kdf a)), (2, .int (nI a)), (0, .ref h0), (1, .int (nI d))]) hx hb dX8_amountOf_13 rfl hl (by decide) rfl (fun ls hl => ?_)
  refine lv_aload_n hx hb dX8_amountOf_14 rfl (lv_at hl 2 rfl) ?_
  refine zz_get hC hZ 0 rfl zf_X8_22 rfl dX8_amountOf_15 ?_
  refine lv_iload_n hx hb dX8_amountOf_18 rfl (lv_at hl 1 rfl) ?_
  refine zz_ialdn hC hZ 3 rfl bd2 (by decide) dX8_amountOf_19 ?_
  refine zz_topi (v := nI sz) (e_s) ?_
  refine lv_istore (lv' := [(4, .int (nI sz)), (3, .int (kdf a)), (2, .int (nI a)), (0, .ref h0), (1, .int (nI d))]) hx hb dX8_amountOf_20 hl (by decide) rfl (fun ls hl => ?_)
  refine lv_iload hx hb dX8_amountOf_22 (lv_at hl 0 rfl) ?_
  refine lv_aload_n hx hb dX8_amountOf_24 rfl (lv_at hl 3 rfl) ?_
  refine zz_get hC hZ 0 rfl zf_X8_16 rfl dX8_amountOf_25 ?_
  refine lv_iload_n hx hb dX8_amountOf_28 rfl (lv_at hl 2 rfl) ?_
  refine zz_ialdn hC hZ 2 rfl bd2 (by decide) dX8_amountOf_29 ?_
  refine zz_topi (v := nI lz) (e_l) ?_
  refine lv_iadd hx hb dX8_amountOf_30 ?_
  refine zz_topi (v := nI (sz + lz)) (nI_add _ _) ?_
  refine lv_istore (lv' := [(5, .int (nI (sz + lz))), (4, .int (nI sz)), (3, .int (kdf a)), (2, .int (nI a)), (0, .ref h0), (1, .int (nI d))]) hx hb dX8_amountOf_31 hl (by decide) rfl (fun ls hl => ?_)
  refine lv_lconst (v := 0) hx hb dX8_amountOf_33 (by decide) ?_
  refine lv_lstore (lv' := [(6, .long 0), (5, .int (nI (sz + lz))), (4, .int (nI sz)), (3, .int (kdf a)), (2, .int (nI a)), (0, .ref h0), (1, .int (nI d))]) hx hb dX8_amountOf_34 hl (by decide) rfl (fun ls hl => ?_)
  refine lv_aload_n hx hb dX8_amountOf_36 rfl (lv_at hl 5 rfl) ?_
  refine zz_get hC hZ 0 rfl zf_X8_69 rfl dX8_amountOf_37 ?_
  refine lv_iload_n hx hb dX8_amountOf_40 rfl (lv_at hl 6 rfl) ?_
  refine zz_ialdn hC hZ 5 rfl bd1 (by decide) dX8_amountOf_41 ?_
  rcases zz_sw (rsf d) 5 (by decide) with c3 | ⟨k_, hk_, c3⟩
  · refine lv_tableOut (tgt := 430) hx hb dX8_amountOf_42 (by rcases c3 with q | q; exact Or.inl (by omega); exact Or.inr (by omega)) (by decide) ?_
    refine lv_iload hx hb dX8_amountOf_430 (lv_at hl 2 rfl) ?_
    refine lv_iconst (v := 1) hx hb dX8_amountOf_432 (by decide) ?_
    refine lv_iadd hx hb dX8_amountOf_433 ?_
    refine zz_topi (v := nI (sz + 1)) (nI_1 _) ?_
    refine lv_istore (lv' := [(10, .int (nI (sz + 1))), (6, .long 0), (5, .int (nI (sz + lz))), (4, .int (nI sz)), (3, .int (kdf a)), (2, .int (nI a)), (0, .ref h0), (1, .int (nI d))]) hx hb dX8_amountOf_434 hl (by decide) rfl (fun ls hl => ?_)
    have LP4 : ∀ (N4 : Nat) (i6 : Nat) (w6 : Int64) (H : Heap) (locs : List Loc) (ls : Array Slot), (sz + 1 ≤ i6 ∧ i6 ≤ sz + lz + 1) → (sp_m5 (kdf a) btf (sz + lz - (sz + 1)) (sz + 1) 0 = sp_m5 (kdf a) btf (sz + lz - i6) i6 w6) → (sz + lz - i6) < N4 → zz_Z g A s.heap [cw_k7 h0 (nI na) (nI ne) a_kindOf a_depthOf a_lengthOf a_classOf a_baseOf a_bits a_pinned i_code a_lengths a_stackArray a_stackOther a_stackAt i_lastArray i_lastPlace a_path a_held a_alike a_hashes (nI nd) a_decisionArray a_decisionPlace a_candidateMany a_candidates (nI nr) a_ruleSort a_ruleArray a_ruleWeight a_ruleLow a_ruleHigh a_chosen a_bestOf (nI nm) a_markElements a_markBits a_markPins, cw_i g a_kindOf 60 kdf, cw_i g a_lengthOf 60 lnf, cw_i g a_baseOf 60 saf, cw_l g a_bits 4000 btf, cw_i g a_ruleSort 12 rsf, cw_i g a_ruleArray 12 juf, cw_l g a_ruleLow 12 lof, cw_l g a_ruleHigh 12 hif] H locs → lv_has ls 17 [(10, .int (nI i6)), (6, .long w6), (5, .int (nI (sz + lz))), (4, .int (nI sz)), (3, .int (kdf a)), (2, .int (nI a)), (0, .ref h0), (1, .int (nI d))] → W p l e rm_cm_amountOf s m args below meth c H locs 0 0 (zz_QL below g args s A rm_cm_amountOf.cells rm_cm_amountOf.slots (po_cm_amountOf g h0 a_kindOf a_depthOf a_lengthOf a_classOf a_baseOf a_bits a_pinned a_lengths a_stackArray a_stackOther a_stackAt a_path a_held a_alike a_hashes a_decisionArray a_decisionPlace a_candidateMany a_candidates a_ruleSort a_ruleArray a_ruleWeight a_ruleLow a_ruleHigh a_chosen a_bestOf a_markElements a_markBits a_markPins na ne nd nr nm i_code i_lastArray i_lastPlace kdf lnf saf btf rsf juf lof hif d a sz lz h_r e_j e_s e_l)) (F0 m 436 ls []) := by
      intro N4
      induction N4 with
      | zero =>
        intro i6 w6 H locs ls hi6 he6 hN4
        exact absurd hN4 (Nat.not_lt_zero _)
      | succ N4 ih4 =>
        intro i6 w6 H locs ls hi6 he6 hN4 hZ hl
        refine lv_iload hx hb dX8_amountOf_436 (lv_at hl 0 rfl) ?_
        refine lv_iload hx hb dX8_amountOf_438 (lv_at hl 2 rfl) ?_
        have bd6 : (sz + lz) < 2 ^ 31 := by omega
        have bd7 : i6 < 2 ^ 31 := by omega
        refine lv_icmp_ge (tgt := 521) hx hb dX8_amountOf_440 (by decide) (fun c5 => ?_) (fun c5 => ?_)
        · have nc5 : (sz + lz) ≤ i6 := (nI_leI bd6 bd7).mp (show nI ((sz + lz)) ≤ nI (i6) from c5)
          have d_w6 : sp_m5 (kdf a) btf (sz + lz - (sz + 1)) (sz + 1) 0 = w6 := by rw [he6, show sz + lz - i6 = 0 by omega, sp_m5]
          refine lv_lload hx hb dX8_amountOf_521 (lv_at hl 1 rfl) ?_
          exact zz_lret hC hZ (⟨by refine Eq.symm ?_; rw [fn_cm_amountOf]; refine (if_neg (by (try simp only [d_w6]); exact ((zl_swo c3 0 (by decide) (by decide))))).trans ?_; refine (if_neg (by (try simp only [d_w6]); exact ((zl_swo c3 1 (by decide) (by decide))))).trans ?_; refine (if_neg (by (try simp only [d_w6]); exact ((zl_swo c3 2 (by decide) (by decide))))).trans ?_; refine (if_neg (by (try simp only [d_w6]); exact ((zl_swo c3 3 (by decide) (by decide))))).trans ?_; refine (if_neg (by (try simp only [d_w6]); exact ((zl_swo c3 4 (by decide) (by decide))))).trans ?_; first | (simp only [d_w6]; done) | rfl, rfl⟩) (Nat.le_of_ble_eq_true rfl) (Nat.le_of_ble_eq_true rfl) dX8_amountOf_523
        · have nc5 : ¬ (sz + lz) ≤ i6 := fun zq => c5 (show nI ((sz + lz)) ≤ nI (i6) from (nI_leI bd6 bd7).mpr zq)
          refine lv_iload_n hx hb dX8_amountOf_443 rfl (lv_at hl 4 rfl) ?_
          refine lv_aload_n hx hb dX8_amountOf_444 rfl (lv_at hl 6 rfl) ?_
          refine zz_get hC hZ 0 rfl zf_X8_25 rfl dX8_amountOf_445 ?_
          refine lv_iload hx hb dX8_amountOf_448 (lv_at hl 0 rfl) ?_
          have bd8 : i6 < 4000 := by omega
          refine zz_laldn hC hZ 4 rfl bd8 (by decide) dX8_amountOf_450 ?_
          refine zz_lS (As := [.int (kdf a), .long (btf i6)]) (wc := []) (wr := [cw_k7 h0 (nI na) (nI ne) a_kindOf a_depthOf a_lengthOf a_classOf a_baseOf a_bits a_pinned i_code a_lengths a_stackArray a_stackOther a_stackAt i_lastArray i_lastPlace a_path a_held a_alike a_hashes (nI nd) a_decisionArray a_decisionPlace a_candidateMany a_candidates (nI nr) a_ruleSort a_ruleArray a_ruleWeight a_ruleLow a_ruleHigh a_chosen a_bestOf (nI nm) a_markElements a_markBits a_markPins, cw_i g a_kindOf 60 kdf, cw_i g a_lengthOf 60 lnf, cw_i g a_baseOf 60 saf, cw_l g a_bits 4000 btf, cw_i g a_ruleSort 12 rsf, cw_i g a_ruleArray 12 juf, cw_l g a_ruleLow 12 lof, cw_l g a_ruleHigh 12 hif]) (rest := []) hC hZ hs hl zc_X8_270 (cm_sumNumber g (kdf a) (btf i6)) [] [0, 1, 2, 3, 4, 5, 6, 7, 8] rfl rfl (by decide +kernel) rfl rfl (Nat.le_of_ble_eq_true rfl) ⟨⟨Nat.le_of_ble_eq_true rfl, Nat.le_of_ble_eq_true rfl⟩, Nat.le_of_ble_eq_true rfl, Nat.le_of_ble_eq_true rfl⟩ dX8_amountOf_451 (fun r9 u10 H locs hp hZ => ?_)
          obtain ⟨rfl, rfl⟩ := hp
          have hZ : zz_Z g A s.heap [cw_k7 h0 (nI na) (nI ne) a_kindOf a_depthOf a_lengthOf a_classOf a_baseOf a_bits a_pinned i_code a_lengths a_stackArray a_stackOther a_stackAt i_lastArray i_lastPlace a_path a_held a_alike a_hashes (nI nd) a_decisionArray a_decisionPlace a_candidateMany a_candidates (nI nr) a_ruleSort a_ruleArray a_ruleWeight a_ruleLow a_ruleHigh a_chosen a_bestOf (nI nm) a_markElements a_markBits a_markPins, cw_i g a_kindOf 60 kdf, cw_i g a_lengthOf 60 lnf, cw_i g a_baseOf 60 saf, cw_l g a_bits 4000 btf, cw_i g a_ruleSort 12 rsf, cw_i g a_ruleArray 12 juf, cw_l g a_ruleLow 12 lof, cw_l g a_ruleHigh 12 hif] H locs := hZ
          refine lv_lstore (lv' := [(11, .long (fn_cm_sumNumber (kdf a) (btf i6))), (10, .int (nI i6)), (6, .long w6), (5, .int (nI (sz + lz))), (4, .int (nI sz)), (3, .int (kdf a)), (2, .int (nI a)), (0, .ref h0), (1, .int (nI d))]) hx hb dX8_amountOf_454 hl (by decide) rfl (fun ls hl => ?_)
          refine lv_iload_n hx hb dX8_amountOf_456 rfl (lv_at hl 5 rfl) ?_
          refine lv_aload_n hx hb dX8_amountOf_457 rfl (lv_at hl 7 rfl) ?_
          refine zz_get hC hZ 0 rfl zf_X8_25 rfl dX8_amountOf_458 ?_
          refine lv_iload hx hb dX8_amountOf_461 (lv_at hl 1 rfl) ?_
          refine lv_iconst (v := 1) hx hb dX8_amountOf_463 (by decide) ?_
          refine lv_isub hx hb dX8_amountOf_464 ?_
          refine zz_topi (v := nI (i6 - 1)) (pk_sub (b := 1) (by omega)) ?_
          have bd11 : (i6 - 1) < 4000 := by omega
          refine zz_laldn hC hZ 4 rfl bd11 (by decide) dX8_amountOf_465 ?_
          refine zz_lS (As := [.int (kdf a), .long (btf (i6 - 1))]) (wc := []) (wr := [cw_k7 h0 (nI na) (nI ne) a_kindOf a_depthOf a_lengthOf a_classOf a_baseOf a_bits a_pinned i_code a_lengths a_stackArray a_stackOther a_stackAt i_lastArray i_lastPlace a_path a_held a_alike a_hashes (nI nd) a_decisionArray a_decisionPlace a_candidateMany a_candidates (nI nr) a_ruleSort a_ruleArray a_ruleWeight a_ruleLow a_ruleHigh a_chosen a_bestOf (nI nm) a_markElements a_markBits a_markPins, cw_i g a_kindOf 60 kdf, cw_i g a_lengthOf 60 lnf, cw_i g a_baseOf 60 saf, cw_l g a_bits 4000 btf, cw_i g a_ruleSort 12 rsf, cw_i g a_ruleArray 12 juf, cw_l g a_ruleLow 12 lof, cw_l g a_ruleHigh 12 hif]) (rest := []) hC hZ hs hl zc_X8_270 (cm_sumNumber g (kdf a) (btf (i6 - 1))) [] [0, 1, 2, 3, 4, 5, 6, 7, 8] rfl rfl (by decide +kernel) rfl rfl (Nat.le_of_ble_eq_true rfl) ⟨⟨Nat.le_of_ble_eq_true rfl, Nat.le_of_ble_eq_true rfl⟩, Nat.le_of_ble_eq_true rfl, Nat.le_of_ble_eq_true rfl⟩ dX8_amountOf_466 (fun r12 u13 H locs hp hZ => ?_)
          obtain ⟨rfl, rfl⟩ := hp
          have hZ : zz_Z g A s.heap [cw_k7 h0 (nI na) (nI ne) a_kindOf a_depthOf a_lengthOf a_classOf a_baseOf a_bits a_pinned i_code a_lengths a_stackArray a_stackOther a_stackAt i_lastArray i_lastPlace a_path a_held a_alike a_hashes (nI nd) a_decisionArray a_decisionPlace a_candidateMany a_candidates (nI nr) a_ruleSort a_ruleArray a_ruleWeight a_ruleLow a_ruleHigh a_chosen a_bestOf (nI nm) a_markElements a_markBits a_markPins, cw_i g a_kindOf 60 kdf, cw_i g a_lengthOf 60 lnf, cw_i g a_baseOf 60 saf, cw_l g a_bits 4000 btf, cw_i g a_ruleSort 12 rsf, cw_i g a_ruleArray 12 juf, cw_l g a_ruleLow 12 lof, cw_l g a_ruleHigh 12 hif] H locs := hZ
          refine lv_lstore (lv' := [(13, .long (fn_cm_sumNumber (kdf a) (btf (i6 - 1)))), (11, .long (fn_cm_sumNumber (kdf a) (btf i6))), (10, .int (nI i6)), (6, .long w6), (5, .int (nI (sz + lz))), (4, .int (nI sz)), (3, .int (kdf a)), (2, .int (nI a)), (0, .ref h0), (1, .int (nI d))]) hx hb dX8_amountOf_469 hl (by decide) rfl (fun ls hl => ?_)
          refine lv_lload hx hb dX8_amountOf_471 (lv_at hl 1 rfl) ?_
          refine lv_lload hx hb dX8_amountOf_473 (lv_at hl 0 rfl) ?_
          refine zz_lcmp_le (tgt := 489) hC dX8_amountOf_475 dX8_amountOf_476 (by decide) (fun c14 => ?_) (fun c14 => ?_)
          · refine lv_lload hx hb dX8_amountOf_489 (lv_at hl 0 rfl) ?_
            refine lv_lload hx hb dX8_amountOf_491 (lv_at hl 1 rfl) ?_
            refine zz_lS (As := [.long (fn_cm_sumNumber (kdf a) (btf (i6 - 1))), .long (fn_cm_sumNumber (kdf a) (btf i6))]) (wc := []) (wr := [cw_k7 h0 (nI na) (nI ne) a_kindOf a_depthOf a_lengthOf a_classOf a_baseOf a_bits a_pinned i_code a_lengths a_stackArray a_stackOther a_stackAt i_lastArray i_lastPlace a_path a_held a_alike a_hashes (nI nd) a_decisionArray a_decisionPlace a_candidateMany a_candidates (nI nr) a_ruleSort a_ruleArray a_ruleWeight a_ruleLow a_ruleHigh a_chosen a_bestOf (nI nm) a_markElements a_markBits a_markPins, cw_i g a_kindOf 60 kdf, cw_i g a_lengthOf 60 lnf, cw_i g a_baseOf 60 saf, cw_l g a_bits 4000 btf, cw_i g a_ruleSort 12 rsf, cw_i g a_ruleArray 12 juf, cw_l g a_ruleLow 12 lof, cw_l g a_ruleHigh 12 hif]) (rest := []) hC hZ hs hl zc_X8_273 (cm_far g (fn_cm_sumNumber (kdf a) (btf (i6 - 1))) (fn_cm_sumNumber (kdf a) (btf i6))) [] [0, 1, 2, 3, 4, 5, 6, 7, 8] rfl rfl (by decide +kernel) rfl rfl (Nat.le_of_ble_eq_true rfl) ⟨⟨Nat.le_of_ble_eq_true rfl, Nat.le_of_ble_eq_true rfl⟩, Nat.le_of_ble_eq_true rfl, Nat.le_of_ble_eq_true rfl⟩ dX8_amountOf_493 (fun r15 u16 H locs hp hZ => ?_)
            obtain ⟨rfl, rfl⟩ := hp
            have hZ : zz_Z g A s.heap [cw_k7 h0 (nI na) (nI ne) a_kindOf a_depthOf a_lengthOf a_classOf a_baseOf a_bits a_pinned i_code a_lengths a_stackArray a_stackOther a_stackAt i_lastArray i_lastPlace a_path a_held a_alike a_hashes (nI nd) a_decisionArray a_decisionPlace a_candidateMany a_candidates (nI nr) a_ruleSort a_ruleArray a_ruleWeight a_ruleLow a_ruleHigh a_chosen a_bestOf (nI nm) a_markElements a_markBits a_markPins, cw_i g a_kindOf 60 kdf, cw_i g a_lengthOf 60 lnf, cw_i g a_baseOf 60 saf, cw_l g a_bits 4000 btf, cw_i g a_ruleSort 12 rsf, cw_i g a_ruleArray 12 juf, cw_l g a_ruleLow 12 lof, cw_l g a_ruleHigh 12 hif] H locs := hZ
            refine lv_lstore (lv' := [(15, .long (fn_cm_far (fn_cm_sumNumber (kdf a) (btf (i6 - 1))) (fn_cm_sumNumber (kdf a) (btf i6)))), (13, .long (fn_cm_sumNumber (kdf a) (btf (i6 - 1)))), (11, .long (fn_cm_sumNumber (kdf a) (btf i6))), (10, .int (nI i6)), (6, .long w6), (5, .int (nI (sz + lz))), (4, .int (nI sz)), (3, .int (kdf a)), (2, .int (nI a)), (0, .ref h0), (1, .int (nI d))]) hx hb dX8_amountOf_496 hl (by decide) rfl (fun ls hl => ?_)
            refine lv_lload hx hb dX8_amountOf_498 (lv_at hl 0 rfl) ?_
            refine lv_lload hx hb dX8_amountOf_500 (lv_at hl 4 rfl) ?_
            refine zz_lcmp_le (tgt := 511) hC dX8_amountOf_502 dX8_amountOf_503 (by decide) (fun c17 => ?_) (fun c17 => ?_)
            · refine lv_lload hx hb dX8_amountOf_511 (lv_at hl 4 rfl) ?_
              refine lv_lstore (lv' := [(6, .long w6), (15, .long (fn_cm_far (fn_cm_sumNumber (kdf a) (btf (i6 - 1))) (fn_cm_sumNumber (kdf a) (btf i6)))), (13, .long (fn_cm_sumNumber (kdf a) (btf (i6 - 1)))), (11, .long (fn_cm_sumNumber (kdf a) (btf i6))), (10, .int (nI i6)), (5, .int (nI (sz + lz))), (4, .int (nI sz)), (3, .int (kdf a)), (2, .int (nI a)), (0, .ref h0), (1, .int (nI d))]) hx hb dX8_amountOf_513 hl (by decide) rfl (fun ls hl => ?_)
              refine lv_iinc (v := nI (i6 + 1)) (lv' := [(10, .int (nI (i6 + 1))), (6, .long w6), (15, .long (fn_cm_far (fn_cm_sumNumber (kdf a) (btf (i6 - 1))) (fn_cm_sumNumber (kdf a) (btf i6)))), (13, .long (fn_cm_sumNumber (kdf a) (btf (i6 - 1)))), (11, .long (fn_cm_sumNumber (kdf a) (btf i6))), (5, .int (nI (sz + lz))), (4, .int (nI sz)), (3, .int (kdf a)), (2, .int (nI a)), (0, .ref h0), (1, .int (nI d))]) hx hb dX8_amountOf_515 hl (k := 4) rfl (nI_1 _) (by decide) rfl (fun ls hl => ?_)
              refine lv_goto (tgt := 436) hx hb dX8_amountOf_518 (by decide) ?_
              exact ih4 (i6 + 1) w6 H locs ls (by omega) (by rw [he6, show sz + lz - i6 = (sz + lz - (i6 + 1)) + 1 by omega, sp_m5, if_pos c14, if_pos c17]) (by omega) hZ (lv_sub hl [0, 1, 5, 6, 7, 8, 9, 10] rfl)
            · refine lv_lload hx hb dX8_amountOf_506 (lv_at hl 0 rfl) ?_
              refine lv_goto (tgt := 513) hx hb dX8_amountOf_508 (by decide) ?_
              refine lv_lstore (lv' := [(6, .long (fn_cm_far (fn_cm_sumNumber (kdf a) (btf (i6 - 1))) (fn_cm_sumNumber (kdf a) (btf i6)))), (15, .long (fn_cm_far (fn_cm_sumNumber (kdf a) (btf (i6 - 1))) (fn_cm_sumNumber (kdf a) (btf i6)))), (13, .long (fn_cm_sumNumber (kdf a) (btf (i6 - 1)))), (11, .long (fn_cm_sumNumber (kdf a) (btf i6))), (10, .int (nI i6)), (5, .int (nI (sz + lz))), (4, .int (nI sz)), (3, .int (kdf a)), (2, .int (nI a)), (0, .ref h0), (1, .int (nI d))]) hx hb dX8_amountOf_513 hl (by decide) rfl (fun ls hl => ?_)
              refine lv_iinc (v := nI (i6 + 1)) (lv' := [(10, .int (nI (i6 + 1))), (6, .long (fn_cm_far (fn_cm_sumNumber (kdf a) (btf (i6 - 1))) (fn_cm_sumNumber (kdf a) (btf i6)))), (15, .long (fn_cm_far (fn_cm_sumNumber (kdf a) (btf (i6 - 1))) (fn_cm_sumNumber (kdf a) (btf i6)))), (13, .long (fn_cm_sumNumber (kdf a) (btf (i6 - 1)))), (11, .long (fn_cm_sumNumber (kdf a) (btf i6))), (5, .int (nI (sz + lz))), (4, .int (nI sz)), (3, .int (kdf a)), (2, .int (nI a)), (0, .ref h0), (1, .int (nI d))]) hx hb dX8_amountOf_515 hl (k := 4) rfl (nI_1 _) (by decide) rfl (fun ls hl => ?_)
              refine lv_goto (tgt := 436) hx hb dX8_amountOf_518 (by decide) ?_
              exact ih4 (i6 + 1) (fn_cm_far (fn_cm_sumNumber (kdf a) (btf (i6 - 1))) (fn_cm_sumNumber (kdf a) (btf i6))) H locs ls (by omega) (by rw [he6, show sz + lz - i6 = (sz + lz - (i6 + 1)) + 1 by omega, sp_m5, if_pos c14, if_neg c17]) (by omega) hZ (lv_sub hl [0, 1, 5, 6, 7, 8, 9, 10] rfl)
          · refine lv_lload hx hb dX8_amountOf_479 (lv_at hl 1 rfl) ?_
            refine lv_lload hx hb dX8_amountOf_481 (lv_at hl 0 rfl) ?_
            refine zz_lS (As := [.long (fn_cm_sumNumber (kdf a) (btf i6)), .long (fn_cm_sumNumber (kdf a) (btf (i6 - 1)))]) (wc := []) (wr := [cw_k7 h0 (nI na) (nI ne) a_kindOf a_depthOf a_lengthOf a_classOf a_baseOf a_bits a_pinned i_code a_lengths a_stackArray a_stackOther a_stackAt i_lastArray i_lastPlace a_path a_held a_alike a_hashes (nI nd) a_decisionArray a_decisionPlace a_candidateMany a_candidates (nI nr) a_ruleSort a_ruleArray a_ruleWeight a_ruleLow a_ruleHigh a_chosen a_bestOf (nI nm) a_markElements a_markBits a_markPins, cw_i g a_kindOf 60 kdf, cw_i g a_lengthOf 60 lnf, cw_i g a_baseOf 60 saf, cw_l g a_bits 4000 btf, cw_i g a_ruleSort 12 rsf, cw_i g a_ruleArray 12 juf, cw_l g a_ruleLow 12 lof, cw_l g a_ruleHigh 12 hif]) (rest := []) hC hZ hs hl zc_X8_273 (cm_far g (fn_cm_sumNumber (kdf a) (btf i6)) (fn_cm_sumNumber (kdf a) (btf (i6 - 1)))) [] [0, 1, 2, 3, 4, 5, 6, 7, 8] rfl rfl (by decide +kernel) rfl rfl (Nat.le_of_ble_eq_true rfl) ⟨⟨Nat.le_of_ble_eq_true rfl, Nat.le_of_ble_eq_true rfl⟩, Nat.le_of_ble_eq_true rfl, Nat.le_of_ble_eq_true rfl⟩ dX8_amountOf_483 (fun r18 u19 H locs hp hZ => ?_)
            obtain ⟨rfl, rfl⟩ := hp
            have hZ : zz_Z g A s.heap [cw_k7 h0 (nI na) (nI ne) a_kindOf a_depthOf a_lengthOf a_classOf a_baseOf a_bits a_pinned i_code a_lengths a_stackArray a_stackOther a_stackAt i_lastArray i_lastPlace a_path a_held a_alike a_hashes (nI nd) a_decisionArray a_decisionPlace a_candidateMany a_candidates (nI nr) a_ruleSort a_ruleArray a_ruleWeight a_ruleLow a_ruleHigh a_chosen a_bestOf (nI nm) a_markElements a_markBits a_markPins, cw_i g a_kindOf 60 kdf, cw_i g a_lengthOf 60 lnf, cw_i g a_baseOf 60 saf, cw_l g a_bits 4000 btf, cw_i g a_ruleSort 12 rsf, cw_i g a_ruleArray 12 juf, cw_l g a_ruleLow 12 lof, cw_l g a_ruleHigh 12 hif] H locs := hZ
            refine lv_goto (tgt := 496) hx hb dX8_amountOf_486 (by decide) ?_
            refine lv_lstore (lv' := [(15, .long (fn_cm_far (fn_cm_sumNumber (kdf a) (btf i6)) (fn_cm_sumNumber (kdf a) (btf (i6 - 1))))), (13, .long (fn_cm_sumNumber (kdf a) (btf (i6 - 1)))), (11, .long (fn_cm_sumNumber (kdf a) (btf i6))), (10, .int (nI i6)), (6, .long w6), (5, .int (nI (sz + lz))), (4, .int (nI sz)), (3, .int (kdf a)), (2, .int (nI a)), (0, .ref h0), (1, .int (nI d))]) hx hb dX8_amountOf_496 hl (by decide) rfl (fun ls hl => ?_)
            refine lv_lload hx hb dX8_amountOf_498 (lv_at hl 0 rfl) ?_
            refine lv_lload hx hb dX8_amountOf_500 (lv_at hl 4 rfl) ?_
            refine zz_lcmp_le (tgt := 511) hC dX8_amountOf_502 dX8_amountOf_503 (by decide) (fun c20 => ?_) (fun c20 => ?_)
            · refine lv_lload hx hb dX8_amountOf_511 (lv_at hl 4 rfl) ?_
              refine lv_lstore (lv' := [(6, .long w6), (15, .long (fn_cm_far (fn_cm_sumNumber (kdf a) (btf i6)) (fn_cm_sumNumber (kdf a) (btf (i6 - 1))))), (13, .long (fn_cm_sumNumber (kdf a) (btf (i6 - 1)))), (11, .long (fn_cm_sumNumber (kdf a) (btf i6))), (10, .int (nI i6)), (5, .int (nI (sz + lz))), (4, .int (nI sz)), (3, .int (kdf a)), (2, .int (nI a)), (0, .ref h0), (1, .int (nI d))]) hx hb dX8_amountOf_513 hl (by decide) rfl (fun ls hl => ?_)
              refine lv_iinc (v := nI (i6 + 1)) (lv' := [(10, .int (nI (i6 + 1))), (6, .long w6), (15, .long (fn_cm_far (fn_cm_sumNumber (kdf a) (btf i6)) (fn_cm_sumNumber (kdf a) (btf (i6 - 1))))), (13, .long (fn_cm_sumNumber (kdf a) (btf (i6 - 1)))), (11, .long (fn_cm_sumNumber (kdf a) (btf i6))), (5, .int (nI (sz + lz))), (4, .int (nI sz)), (3, .int (kdf a)), (2, .int (nI a)), (0, .ref h0), (1, .int (nI d))]) hx hb dX8_amountOf_515 hl (k := 4) rfl (nI_1 _) (by decide) rfl (fun ls hl => ?_)
              refine lv_goto (tgt := 436) hx hb dX8_amountOf_518 (by decide) ?_
              exact ih4 (i6 + 1) w6 H locs ls (by omega) (by rw [he6, show sz + lz - i6 = (sz + lz - (i6 + 1)) + 1 by omega, sp_m5, if_neg c14, if_pos c20]) (by omega) hZ (lv_sub hl [0, 1, 5, 6, 7, 8, 9, 10] rfl)
            · refine lv_lload hx hb dX8_amountOf_506 (lv_at hl 0 rfl) ?_
              refine lv_goto (tgt := 513) hx hb dX8_amountOf_508 (by decide) ?_
              refine lv_lstore (lv' := [(6, .long (fn_cm_far (fn_cm_sumNumber (kdf a) (btf i6)) (fn_cm_sumNumber (kdf a) (btf (i6 - 1))))), (15, .long (fn_cm_far (fn_cm_sumNumber (kdf a) (btf i6)) (fn_cm_sumNumber (kdf a) (btf (i6 - 1))))), (13, .long (fn_cm_sumNumber (kdf a) (btf (i6 - 1)))), (11, .long (fn_cm_sumNumber (kdf a) (btf i6))), (10, .int (nI i6)), (5, .int (nI (sz + lz))), (4, .int (nI sz)), (3, .int (kdf a)), (2, .int (nI a)), (0, .ref h0), (1, .int (nI d))]) hx hb dX8_amountOf_513 hl (by decide) rfl (fun ls hl => ?_)
              refine lv_iinc (v := nI (i6 + 1)) (lv' := [(10, .int (nI (i6 + 1))), (6, .long (fn_cm_far (fn_cm_sumNumber (kdf a) (btf i6)) (fn_cm_sumNumber (kdf a) (btf (i6 - 1))))), (15, .long (fn_cm_far (fn_cm_sumNumber (kdf a) (btf i6)) (fn_cm_sumNumber (kdf a) (btf (i6 - 1))))), (13, .long (fn_cm_sumNumber (kdf a) (btf (i6 - 1)))), (11, .long (fn_cm_sumNumber (kdf a) (btf i6))), (5, .int (nI (sz + lz))), (4, .int (nI sz)), (3, .int (kdf a)), (2, .int (nI a)), (0, .ref h0), (1, .int (nI d))]) hx hb dX8_amountOf_515 hl (k := 4) rfl (nI_1 _) (by decide) rfl (fun ls hl => ?_)
              refine lv_goto (tgt := 436) hx hb dX8_amountOf_518 (by decide) ?_
              exact ih4 (i6 + 1) (fn_cm_far (fn_cm_sumNumber (kdf a) (btf i6)) (fn_cm_sumNumber (kdf a) (btf (i6 - 1)))) H locs ls (by omega) (by rw [he6, show sz + lz - i6 = (sz + lz - (i6 + 1)) + 1 by omega, sp_m5, if_neg c14, if_neg c20]) (by omega) hZ (lv_sub hl [0, 1, 5, 6, 7, 8, 9, 10] rfl)
    exact LP4 _ (sz + 1) 0 H locs ls (by omega) (rfl) (Nat.lt_succ_self _) hZ (lv_sub hl [0, 1, 2, 3, 4, 5, 6, 7] rfl)
  · refine zz_topi c3 ?_
    rcases (show k_ = 0 ∨ k_ = 1 ∨ k_ = 2 ∨ k_ = 3 ∨ k_ = 4 by omega) with rfl | rfl | rfl | rfl | rfl
    · refine lv_tableIn (tgt := 76) (off := 34) hx hb dX8_amountOf_42 (by decide) (by decide) (by decide) (by decide) ?_
      refine lv_lconst (v := 0) hx hb dX8_amountOf_76 (by decide) ?_
      refine lv_lstore (lv' := [(8, .long 0), (6, .long 0), (5, .int (nI (sz + lz))), (4, .int (nI sz)), (3, .int (kdf a)), (2, .int (nI a)), (0, .ref h0), (1, .int (nI d))]) hx hb dX8_amountOf_77 hl (by decide) rfl (fun ls hl => ?_)
      refine lv_iload hx hb dX8_amountOf_79 (lv_at hl 3 rfl) ?_
      refine lv_istore (lv' := [(10, .int (nI sz)), (8, .long 0), (6, .long 0), (5, .int (nI (sz + lz))), (4, .int (nI sz)), (3, .int (kdf a)), (2, .int (nI a)), (0, .ref h0), (1, .int (nI d))]) hx hb dX8_amountOf_81 hl (by decide) rfl (fun ls hl => ?_)
      have LP21 : ∀ (N21 : Nat) (i0 : Nat) (w0 : Int64) (H : Heap) (locs : List Loc) (ls : Array Slot), (sz ≤ i0 ∧ i0 ≤ sz + lz + 1) → (sp_m0 (kdf a) btf (sz + lz - sz) sz 0 = sp_m0 (kdf a) btf (sz + lz - i0) i0 w0) → (sz + lz - i0) < N21 → zz_Z g A s.heap [cw_k7 h0 (nI na) (nI ne) a_kindOf a_depthOf a_lengthOf a_classOf a_baseOf a_bits a_pinned i_code a_lengths a_stackArray a_stackOther a_stackAt i_lastArray i_lastPlace a_path a_held a_alike a_hashes (nI nd) a_decisionArray a_decisionPlace a_candidateMany a_candidates (nI nr) a_ruleSort a_ruleArray a_ruleWeight a_ruleLow a_ruleHigh a_chosen a_bestOf (nI nm) a_markElements a_markBits a_markPins, cw_i g a_kindOf 60 kdf, cw_i g a_lengthOf 60 lnf, cw_i g a_baseOf 60 saf, cw_l g a_bits 4000 btf, cw_i g a_ruleSort 12 rsf, cw_i g a_ruleArray 12 juf, cw_l g a_ruleLow 12 lof, cw_l g a_ruleHigh 12 hif] H locs → lv_has ls 17 [(10, .int (nI i0)), (8, .long w0), (6, .long 0), (5, .int (nI (sz + lz))), (4, .int (nI sz)), (3, .int (kdf a)), (2, .int (nI a)), (0, .ref h0), (1, .int (nI d))] → W p l e rm_cm_amountOf s m args below meth c H locs 0 0 (zz_QL below g args s A rm_cm_amountOf.cells rm_cm_amountOf.slots (po_cm_amountOf g h0 a_kindOf a_depthOf a_lengthOf a_classOf a_baseOf a_bits a_pinned a_lengths a_stackArray a_stackOther a_stackAt a_path a_held a_alike a_hashes a_decisionArray a_decisionPlace a_candidateMany a_candidates a_ruleSort a_ruleArray a_ruleWeight a_ruleLow a_ruleHigh a_chosen a_bestOf a_markElements a_markBits a_markPins na ne nd nr nm i_code i_lastArray i_lastPlace kdf lnf saf btf rsf juf lof hif d a sz lz h_r e_j e_s e_l)) (F0 m 83 ls []) := by
        intro N21
        induction N21 with
        | zero =>
          intro i0 w0 H locs ls hi0 he0 hN21
          exact absurd hN21 (Nat.not_lt_zero _)
        | succ N21 ih21 =>
          intro i0 w0 H locs ls hi0 he0 hN21 hZ hl
          refine lv_iload hx hb dX8_amountOf_83 (lv_at hl 0 rfl) ?_
          refine lv_iload hx hb dX8_amountOf_85 (lv_at hl 3 rfl) ?_
          have bd23 : (sz + lz) < 2 ^ 31 := by omega
          have bd24 : i0 < 2 ^ 31 := by omega
          refine lv_icmp_ge (tgt := 112) hx hb dX8_amountOf_87 (by decide) (fun c22 => ?_) (fun c22 => ?_)
          · have nc22 : (sz + lz) ≤ i0 := (nI_leI bd23 bd24).mp (show nI ((sz + lz)) ≤ nI (i0) from c22)
            have d_w0 : sp_m0 (kdf a) btf (sz + lz - sz) sz 0 = w0 := by rw [he0, show sz + lz - i0 = 0 by omega, sp_m0]
            refine lv_lload hx hb dX8_amountOf_112 (lv_at hl 1 rfl) ?_
            refine lv_aload_n hx hb dX8_amountOf_114 rfl (lv_at hl 7 rfl) ?_
            refine zz_get hC hZ 0 rfl zf_X8_78 rfl dX8_amountOf_115 ?_
            refine lv_iload_n hx hb dX8_amountOf_118 rfl (lv_at hl 8 rfl) ?_
            refine zz_laldn hC hZ 7 rfl bd1 (by decide) dX8_amountOf_119 ?_
            refine zz_lcmp_ge (tgt := 138) hC dX8_amountOf_120 dX8_amountOf_121 (by decide) (fun c25 => ?_) (fun c25 => ?_)
            · refine lv_lload hx hb dX8_amountOf_138 (lv_at hl 1 rfl) ?_
              refine lv_aload_n hx hb dX8_amountOf_140 rfl (lv_at hl 7 rfl) ?_
              refine zz_get hC hZ 0 rfl zf_X8_81 rfl dX8_amountOf_141 ?_
              refine lv_iload_n hx hb dX8_amountOf_144 rfl (lv_at hl 8 rfl) ?_
              refine zz_laldn hC hZ 8 rfl bd1 (by decide) dX8_amountOf_145 ?_
              refine zz_lcmp_le (tgt := 164) hC dX8_amountOf_146 dX8_amountOf_147 (by decide) (fun c26 => ?_) (fun c26 => ?_)
              · refine lv_lconst (v := 0) hx hb dX8_amountOf_164 (by decide) ?_
                exact zz_lret hC hZ (⟨by refine Eq.symm ?_; rw [fn_cm_amountOf]; refine (if_pos (by (try simp only [d_w0]); exact c3)).trans ?_; refine (if_pos (by (try simp only [d_w0]); exact c25)).trans ?_; refine (if_pos (by (try simp only [d_w0]); exact c26)).trans ?_; first | (simp only [d_w0]; done) | rfl, rfl⟩) (Nat.le_of_ble_eq_true rfl) (Nat.le_of_ble_eq_true rfl) dX8_amountOf_165
              · refine lv_lload hx hb dX8_amountOf_150 (lv_at hl 1 rfl) ?_
                refine lv_aload_n hx hb dX8_amountOf_152 rfl (lv_at hl 7 rfl) ?_
                refine zz_get hC hZ 0 rfl zf_X8_81 rfl dX8_amountOf_153 ?_
                refine lv_iload_n hx hb dX8_amountOf_156 rfl (lv_at hl 8 rfl) ?_
                refine zz_laldn hC hZ 8 rfl bd1 (by decide) dX8_amountOf_157 ?_
                refine zz_lS (As := [.long w0, .long (hif d)]) (wc := []) (wr := [cw_k7 h0 (nI na) (nI ne) a_kindOf a_depthOf a_lengthOf a_classOf a_baseOf a_bits a_pinned i_code a_lengths a_stackArray a_stackOther a_stackAt i_lastArray i_lastPlace a_path a_held a_alike a_hashes (nI nd) a_decisionArray a_decisionPlace a_candidateMany a_candidates (nI nr) a_ruleSort a_ruleArray a_ruleWeight a_ruleLow a_ruleHigh a_chosen a_bestOf (nI nm) a_markElements a_markBits a_markPins, cw_i g a_kindOf 60 kdf, cw_i g a_lengthOf 60 lnf, cw_i g a_baseOf 60 saf, cw_l g a_bits 4000 btf, cw_i g a_ruleSort 12 rsf, cw_i g a_ruleArray 12 juf, cw_l g a_ruleLow 12 lof, cw_l g a_ruleHigh 12 hif]) (rest := []) hC hZ hs hl zc_X8_273 (cm_far g w0 (hif d)) [] [0, 1, 2, 3, 4, 5, 6, 7, 8] rfl rfl (by decide +kernel) rfl rfl (Nat.le_of_ble_eq_true rfl) ⟨⟨Nat.le_of_ble_eq_true rfl, Nat.le_of_ble_eq_true rfl⟩, Nat.le_of_ble_eq_true rfl, Nat.le_of_ble_eq_true rfl⟩ dX8_amountOf_158 (fun r27 u28 H locs hp hZ => ?_)
                obtain ⟨rfl, rfl⟩ := hp
                have hZ : zz_Z g A s.heap [cw_k7 h0 (nI na) (nI ne) a_kindOf a_depthOf a_lengthOf a_classOf a_baseOf a_bits a_pinned i_code a_lengths a_stackArray a_stackOther a_stackAt i_lastArray i_lastPlace a_path a_held a_alike a_hashes (nI nd) a_decisionArray a_decisionPlace a_candidateMany a_candidates (nI nr) a_ruleSort a_ruleArray a_ruleWeight a_ruleLow a_ruleHigh a_chosen a_bestOf (nI nm) a_markElements a_markBits a_markPins, cw_i g a_kindOf 60 kdf, cw_i g a_lengthOf 60 lnf, cw_i g a_baseOf 60 saf, cw_l g a_bits 4000 btf, cw_i g a_ruleSort 12 rsf, cw_i g a_ruleArray 12 juf, cw_l g a_ruleLow 12 lof, cw_l g a_ruleHigh 12 hif] H locs := hZ
                refine lv_goto (tgt := 165) hx hb dX8_amountOf_161 (by decide) ?_
                exact zz_lret hC hZ (⟨by refine Eq.symm ?_; rw [fn_cm_amountOf]; refine (if_pos (by (try simp only [d_w0]); exact c3)).trans ?_; refine (if_pos (by (try simp only [d_w0]); exact c25)).trans ?_; refine (if_neg (by (try simp only [d_w0]); exact c26)).trans ?_; first | (simp only [d_w0]; done) | rfl, rfl⟩) (Nat.le_of_ble_eq_true rfl) (Nat.le_of_ble_eq_true rfl) dX8_amountOf_165
            · refine lv_aload_n hx hb dX8_amountOf_124 rfl (lv_at hl 7 rfl) ?_
              refine zz_get hC hZ 0 rfl zf_X8_78 rfl dX8_amountOf_125 ?_
              refine lv_iload_n hx hb dX8_amountOf_128 rfl (lv_at hl 8 rfl) ?_
              refine zz_laldn hC hZ 7 rfl bd1 (by decide) dX8_amountOf_129 ?_
              refine lv_lload hx hb dX8_amountOf_130 (lv_at hl 1 rfl) ?_
              refine zz_lS (As := [.long (lof d), .long w0]) (wc := []) (wr := [cw_k7 h0 (nI na) (nI ne) a_kindOf a_depthOf a_lengthOf a_classOf a_baseOf a_bits a_pinned i_code a_lengths a_stackArray a_stackOther a_stackAt i_lastArray i_lastPlace a_path a_held a_alike a_hashes (nI nd) a_decisionArray a_decisionPlace a_candidateMany a_candidates (nI nr) a_ruleSort a_ruleArray a_ruleWeight a_ruleLow a_ruleHigh a_chosen a_bestOf (nI nm) a_markElements a_markBits a_markPins, cw_i g a_kindOf 60 kdf, cw_i g a_lengthOf 60 lnf, cw_i g a_baseOf 60 saf, cw_l g a_bits 4000 btf, cw_i g a_ruleSort 12 rsf, cw_i g a_ruleArray 12 juf, cw_l g a_ruleLow 12 lof, cw_l g a_ruleHigh 12 hif]) (rest := []) hC hZ hs hl zc_X8_273 (cm_far g (lof d) w0) [] [0, 1, 2, 3, 4, 5, 6, 7, 8] rfl rfl (by decide +kernel) rfl rfl (Nat.le_of_ble_eq_true rfl) ⟨⟨Nat.le_of_ble_eq_true rfl, Nat.le_of_ble_eq_true rfl⟩, Nat.le_of_ble_eq_true rfl, Nat.le_of_ble_eq_true rfl⟩ dX8_amountOf_132 (fun r29 u30 H locs hp hZ => ?_)
              obtain ⟨rfl, rfl⟩ := hp
              have hZ : zz_Z g A s.heap [cw_k7 h0 (nI na) (nI ne) a_kindOf a_depthOf a_lengthOf a_classOf a_baseOf a_bits a_pinned i_code a_lengths a_stackArray a_stackOther a_stackAt i_lastArray i_lastPlace a_path a_held a_alike a_hashes (nI nd) a_decisionArray a_decisionPlace a_candidateMany a_candidates (nI nr) a_ruleSort a_ruleArray a_ruleWeight a_ruleLow a_ruleHigh a_chosen a_bestOf (nI nm) a_markElements a_markBits a_markPins, cw_i g a_kindOf 60 kdf, cw_i g a_lengthOf 60 lnf, cw_i g a_baseOf 60 saf, cw_l g a_bits 4000 btf, cw_i g a_ruleSort 12 rsf, cw_i g a_ruleArray 12 juf, cw_l g a_ruleLow 12 lof, cw_l g a_ruleHigh 12 hif] H locs := hZ
              refine lv_goto (tgt := 165) hx hb dX8_amountOf_135 (by decide) ?_
              exact zz_lret hC hZ (⟨by refine Eq.symm ?_; rw [fn_cm_amountOf]; refine (if_pos (by (try simp only [d_w0]); exact c3)).trans ?_; refine (if_neg (by (try simp only [d_w0]); exact c25)).trans ?_; first | (simp only [d_w0]; done) | rfl, rfl⟩) (Nat.le_of_ble_eq_true rfl) (Nat.le_of_ble_eq_true rfl) dX8_amountOf_165
          · have nc22 : ¬ (sz + lz) ≤ i0 := fun zq => c22 (show nI ((sz + lz)) ≤ nI (i0) from (nI_leI bd23 bd24).mpr zq)
            refine lv_lload hx hb dX8_amountOf_90 (lv_at hl 1 rfl) ?_
            refine lv_iload_n hx hb dX8_amountOf_92 rfl (lv_at hl 5 rfl) ?_
            refine lv_aload_n hx hb dX8_amountOf_93 rfl (lv_at hl 7 rfl) ?_
            refine zz_get hC hZ 0 rfl zf_X8_25 rfl dX8_amountOf_94 ?_
            refine lv_iload hx hb dX8_amountOf_97 (lv_at hl 0 rfl) ?_
            have bd31 : i0 < 4000 := by omega
            refine zz_laldn hC hZ 4 rfl bd31 (by decide) dX8_amountOf_99 ?_
            refine zz_lS (As := [.int (kdf a), .long (btf i0)]) (wc := []) (wr := [cw_k7 h0 (nI na) (nI ne) a_kindOf a_depthOf a_lengthOf a_classOf a_baseOf a_bits a_pinned i_code a_lengths a_stackArray a_stackOther a_stackAt i_lastArray i_lastPlace a_path a_held a_alike a_hashes (nI nd) a_decisionArray a_decisionPlace a_candidateMany a_candidates (nI nr) a_ruleSort a_ruleArray a_ruleWeight a_ruleLow a_ruleHigh a_chosen a_bestOf (nI nm) a_markElements a_markBits a_markPins, cw_i g a_kindOf 60 kdf, cw_i g a_lengthOf 60 lnf, cw_i g a_baseOf 60 saf, cw_l g a_bits 4000 btf, cw_i g a_ruleSort 12 rsf, cw_i g a_ruleArray 12 juf, cw_l g a_ruleLow 12 lof, cw_l g a_ruleHigh 12 hif]) (rest := [.long w0]) hC hZ hs hl zc_X8_270 (cm_sumNumber g (kdf a) (btf i0)) [] [0, 1, 2, 3, 4, 5, 6, 7, 8] rfl rfl (by decide +kernel) rfl rfl (Nat.le_of_ble_eq_true rfl) ⟨⟨Nat.le_of_ble_eq_true rfl, Nat.le_of_ble_eq_true rfl⟩, Nat.le_of_ble_eq_true rfl, Nat.le_of_ble_eq_true rfl⟩ dX8_amountOf_100 (fun r32 u33 H locs hp hZ => ?_)
            obtain ⟨rfl, rfl⟩ := hp
            have hZ : zz_Z g A s.heap [cw_k7 h0 (nI na) (nI ne) a_kindOf a_depthOf a_lengthOf a_classOf a_baseOf a_bits a_pinned i_code a_lengths a_stackArray a_stackOther a_stackAt i_lastArray i_lastPlace a_path a_held a_alike a_hashes (nI nd) a_decisionArray a_decisionPlace a_candidateMany a_candidates (nI nr) a_ruleSort a_ruleArray a_ruleWeight a_ruleLow a_ruleHigh a_chosen a_bestOf (nI nm) a_markElements a_markBits a_markPins, cw_i g a_kindOf 60 kdf, cw_i g a_lengthOf 60 lnf, cw_i g a_baseOf 60 saf, cw_l g a_bits 4000 btf, cw_i g a_ruleSort 12 rsf, cw_i g a_ruleArray 12 juf, cw_l g a_ruleLow 12 lof, cw_l g a_ruleHigh 12 hif] H locs := hZ
            refine lv_ladd hx hb dX8_amountOf_103 ?_
            refine lv_lstore (lv' := [(8, .long (w0 + (fn_cm_sumNumber (kdf a) (btf i0)))), (10, .int (nI i0)), (6, .long 0), (5, .int (nI (sz + lz))), (4, .int (nI sz)), (3, .int (kdf a)), (2, .int (nI a)), (0, .ref h0), (1, .int (nI d))]) hx hb dX8_amountOf_104 hl (by decide) rfl (fun ls hl => ?_)
            refine lv_iinc (v := nI (i0 + 1)) (lv' := [(10, .int (nI (i0 + 1))), (8, .long (w0 + (fn_cm_sumNumber (kdf a) (btf i0)))), (6, .long 0), (5, .int (nI (sz + lz))), (4, .int (nI sz)), (3, .int (kdf a)), (2, .int (nI a)), (0, .ref h0), (1, .int (nI d))]) hx hb dX8_amountOf_106 hl (k := 1) rfl (nI_1 _) (by decide) rfl (fun ls hl => ?_)
            refine lv_goto (tgt := 83) hx hb dX8_amountOf_109 (by decide) ?_
            exact ih21 (i0 + 1) (w0 + (fn_cm_sumNumber (kdf a) (btf i0))) H locs ls (by omega) (by rw [he0, show sz + lz - i0 = (sz + lz - (i0 + 1)) + 1 by omega, sp_m0]) (by omega) hZ (lv_sub hl [0, 1, 2, 3, 4, 5, 6, 7, 8] rfl)
      exact LP21 _ sz 0 H locs ls (by omega) (rfl) (Nat.lt_succ_self _) hZ (lv_sub hl [0, 1, 2, 3, 4, 5, 6, 7, 8] rfl)
    · refine lv_tableIn (tgt := 166) (off := 124) hx hb dX8_amountOf_42 (by decide) (by decide) (by decide) (by decide) ?_
      refine lv_iload hx hb dX8_amountOf_166 (lv_at hl 2 rfl) ?_
      refine lv_istore (lv' := [(10, .int (nI sz)), (6, .long 0), (5, .int (nI (sz + lz))), (4, .int (nI sz)), (3, .int (kdf a)), (2, .int (nI a)), (0, .ref h0), (1, .int (nI d))]) hx hb dX8_amountOf_168 hl (by decide) rfl (fun ls hl => ?_)
      have LP34 : ∀ (N34 : Nat) (i1 : Nat) (w1 : Int64) (H : Heap) (locs : List Loc) (ls : Array Slot), (sz ≤ i1 ∧ i1 ≤ sz + lz + 1) → (sp_m1 (kdf a) btf (sz + lz) (sz + lz - sz) sz 0 = sp_m1 (kdf a) btf (sz + lz) (sz + lz - i1) i1 w1) → (sz + lz - i1) < N34 → zz_Z g A s.heap [cw_k7 h0 (nI na) (nI ne) a_kindOf a_depthOf a_lengthOf a_classOf a_baseOf a_bits a_pinned i_code a_lengths a_stackArray a_stackOther a_stackAt i_lastArray i_lastPlace a_path a_held a_alike a_hashes (nI nd) a_decisionArray a_decisionPlace a_candidateMany a_candidates (nI nr) a_ruleSort a_ruleArray a_ruleWeight a_ruleLow a_ruleHigh a_chosen a_bestOf (nI nm) a_markElements a_markBits a_markPins, cw_i g a_kindOf 60 kdf, cw_i g a_lengthOf 60 lnf, cw_i g a_baseOf 60 saf, cw_l g a_bits 4000 btf, cw_i g a_ruleSort 12 rsf, cw_i g a_ruleArray 12 juf, cw_l g a_ruleLow 12 lof, cw_l g a_ruleHigh 12 hif] H locs → lv_has ls 17 [(10, .int (nI i1)), (6, .long w1), (5, .int (nI (sz + lz))), (4, .int (nI sz)), (3, .int (kdf a)), (2, .int (nI a)), (0, .ref h0), (1, .int (nI d))] → W p l e rm_cm_amountOf s m args below meth c H locs 0 0 (zz_QL below g args s A rm_cm_amountOf.cells rm_cm_amountOf.slots (po_cm_amountOf g h0 a_kindOf a_depthOf a_lengthOf a_classOf a_baseOf a_bits a_pinned a_lengths a_stackArray a_stackOther a_stackAt a_path a_held a_alike a_hashes a_decisionArray a_decisionPlace a_candidateMany a_candidates a_ruleSort a_ruleArray a_ruleWeight a_ruleLow a_ruleHigh a_chosen a_bestOf a_markElements a_markBits a_markPins na ne nd nr nm i_code i_lastArray i_lastPlace kdf lnf saf btf rsf juf lof hif d a sz lz h_r e_j e_s e_l)) (F0 m 170 ls []) := by
        intro N34
        induction N34 with
        | zero =>
          intro i1 w1 H locs ls hi1 he1 hN34
          exact absurd hN34 (Nat.not_lt_zero _)
        | succ N34 ih34 =>
          intro i1 w1 H locs ls hi1 he1 hN34 hZ hl
          refine lv_iload hx hb dX8_amountOf_170 (lv_at hl 0 rfl) ?_
          refine lv_iload hx hb dX8_amountOf_172 (lv_at hl 2 rfl) ?_
          have bd36 : (sz + lz) < 2 ^ 31 := by omega
          have bd37 : i1 < 2 ^ 31 := by omega
          refine lv_icmp_ge (tgt := 233) hx hb dX8_amountOf_174 (by decide) (fun c35 => ?_) (fun c35 => ?_)
          · have nc35 : (sz + lz) ≤ i1 := (nI_leI bd36 bd37).mp (show nI ((sz + lz)) ≤ nI (i1) from c35)
            have d_w1 : sp_m1 (kdf a) btf (sz + lz) (sz + lz - sz) sz 0 = w1 := by rw [he1, show sz + lz - i1 = 0 by omega, sp_m1]
            refine lv_lload hx hb dX8_amountOf_233 (lv_at hl 1 rfl) ?_
            exact zz_lret hC hZ (⟨by refine Eq.symm ?_; rw [fn_cm_amountOf]; refine (if_neg (by (try simp only [d_w1]); exact ((show ¬ ((rsf d) = nI 0) by rw [c3]; decide)))).trans ?_; refine (if_pos (by (try simp only [d_w1]); exact c3)).trans ?_; first | (simp only [d_w1]; done) | rfl, rfl⟩) (Nat.le_of_ble_eq_true rfl) (Nat.le_of_ble_eq_true rfl) dX8_amountOf_235
          · have nc35 : ¬ (sz + lz) ≤ i1 := fun zq => c35 (show nI ((sz + lz)) ≤ nI (i1) from (nI_leI bd36 bd37).mpr zq)
            refine lv_iload hx hb dX8_amountOf_177 (lv_at hl 0 rfl) ?_
            refine lv_iconst (v := 1) hx hb dX8_amountOf_179 (by decide) ?_
            refine lv_iadd hx hb dX8_amountOf_180 ?_
            refine zz_topi (v := nI (i1 + 1)) (nI_1 _) ?_
            refine lv_istore (lv' := [(11, .int (nI (i1 + 1))), (10, .int (nI i1)), (6, .long w1), (5, .int (nI (sz + lz))), (4, .int (nI sz)), (3, .int (kdf a)), (2, .int (nI a)), (0, .ref h0), (1, .int (nI d))]) hx hb dX8_amountOf_181 hl (by decide) rfl (fun ls hl => ?_)
            have LP38 : ∀ (N38 : Nat) (i2 : Nat) (w2 : Int64) (H : Heap) (locs : List Loc) (ls : Array Slot), (sz ≤ i2 ∧ i2 ≤ sz + lz + 1) → (sp_m1i (kdf a) btf i1 (sz + lz - (i1 + 1)) (i1 + 1) w1 = sp_m1i (kdf a) btf i1 (sz + lz - i2) i2 w2) → (sz + lz - i2) < N38 → zz_Z g A s.heap [cw_k7 h0 (nI na) (nI ne) a_kindOf a_depthOf a_lengthOf a_classOf a_baseOf a_bits a_pinned i_code a_lengths a_stackArray a_stackOther a_stackAt i_lastArray i_lastPlace a_path a_held a_alike a_hashes (nI nd) a_decisionArray a_decisionPlace a_candidateMany a_candidates (nI nr) a_ruleSort a_ruleArray a_ruleWeight a_ruleLow a_ruleHigh a_chosen a_bestOf (nI nm) a_markElements a_markBits a_markPins, cw_i g a_kindOf 60 kdf, cw_i g a_lengthOf 60 lnf, cw_i g a_baseOf 60 saf, cw_l g a_bits 4000 btf, cw_i g a_ruleSort 12 rsf, cw_i g a_ruleArray 12 juf, cw_l g a_ruleLow 12 lof, cw_l g a_ruleHigh 12 hif] H locs → lv_has ls 17 [(11, .int (nI i2)), (10, .int (nI i1)), (6, .long w2), (5, .int (nI (sz + lz))), (4, .int (nI sz)), (3, .int (kdf a)), (2, .int (nI a)), (0, .ref h0), (1, .int (nI d))] → W p l e rm_cm_amountOf s m args below meth c H locs 0 0 (zz_QL below g args s A rm_cm_amountOf.cells rm_cm_amountOf.slots (po_cm_amountOf g h0 a_kindOf a_depthOf a_lengthOf a_classOf a_baseOf a_bits a_pinned a_lengths a_stackArray a_stackOther a_stackAt a_path a_held a_alike a_hashes a_decisionArray a_decisionPlace a_candidateMany a_candidates a_ruleSort a_ruleArray a_ruleWeight a_ruleLow a_ruleHigh a_chosen a_bestOf a_markElements a_markBits a_markPins na ne nd nr nm i_code i_lastArray i_lastPlace kdf lnf saf btf rsf juf lof hif d a sz lz h_r e_j e_s e_l)) (F0 m 183 ls []) := by
              intro N38
              induction N38 with
              | zero =>
                intro i2 w2 H locs ls hi2 he2 hN38
                exact absurd hN38 (Nat.not_lt_zero _)
              | succ N38 ih38 =>
                intro i2 w2 H locs ls hi2 he2 hN38 hZ hl
                refine lv_iload hx hb dX8_amountOf_183 (lv_at hl 0 rfl) ?_
                refine lv_iload hx hb dX8_amountOf_185 (lv_at hl 3 rfl) ?_
                have bd40 : i2 < 2 ^ 31 := by omega
                refine lv_icmp_ge (tgt := 227) hx hb dX8_amountOf_187 (by decide) (fun c39 => ?_) (fun c39 => ?_)
                · have nc39 : (sz + lz) ≤ i2 := (nI_leI bd36 bd40).mp (show nI ((sz + lz)) ≤ nI (i2) from c39)
                  have d_w2 : sp_m1i (kdf a) btf i1 (sz + lz - (i1 + 1)) (i1 + 1) w1 = w2 := by rw [he2, show sz + lz - i2 = 0 by omega, sp_m1i]
                  refine lv_iinc (v := nI (i1 + 1)) (lv' := [(10, .int (nI (i1 + 1))), (11, .int (nI i2)), (6, .long w2), (5, .int (nI (sz + lz))), (4, .int (nI sz)), (3, .int (kdf a)), (2, .int (nI a)), (0, .ref h0), (1, .int (nI d))]) hx hb dX8_amountOf_227 hl (k := 1) rfl (nI_1 _) (by decide) rfl (fun ls hl => ?_)
                  refine lv_goto (tgt := 170) hx hb dX8_amountOf_230 (by decide) ?_
                  exact ih34 (i1 + 1) w2 H locs ls (by omega) (by rw [he1, show sz + lz - i1 = (sz + lz - (i1 + 1)) + 1 by omega, sp_m1, d_w2]) (by omega) hZ (lv_sub hl [0, 2, 3, 4, 5, 6, 7, 8] rfl)
                · have nc39 : ¬ (sz + lz) ≤ i2 := fun zq => c39 (show nI ((sz + lz)) ≤ nI (i2) from (nI_leI bd36 bd40).mpr zq)
                  refine lv_lload hx hb dX8_amountOf_190 (lv_at hl 2 rfl) ?_
                  refine lv_iload_n hx hb dX8_amountOf_192 rfl (lv_at hl 5 rfl) ?_
                  refine lv_aload_n hx hb dX8_amountOf_193 rfl (lv_at hl 7 rfl) ?_
                  refine zz_get hC hZ 0 rfl zf_X8_25 rfl dX8_amountOf_194 ?_
                  refine lv_iload hx hb dX8_amountOf_197 (lv_at hl 1 rfl) ?_
                  have bd41 : i1 < 4000 := by omega
                  refine zz_laldn hC hZ 4 rfl bd41 (by decide) dX8_amountOf_199 ?_
                  refine lv_aload_n hx hb dX8_amountOf_200 rfl (lv_at hl 7 rfl) ?_
                  refine zz_get hC hZ 0 rfl zf_X8_25 rfl dX8_amountOf_201 ?_
                  refine lv_iload hx hb dX8_amountOf_204 (lv_at hl 0 rfl) ?_
                  have bd42 : i2 < 4000 := by omega
                  refine zz_laldn hC hZ 4 rfl bd42 (by decide) dX8_amountOf_206 ?_
                  refine zz_iS (As := [.int (kdf a), .long (btf i1), .long (btf i2)]) (wc := []) (wr := [cw_k7 h0 (nI na) (nI ne) a_kindOf a_depthOf a_lengthOf a_classOf a_baseOf a_bits a_pinned i_code a_lengths a_stackArray a_stackOther a_stackAt i_lastArray i_lastPlace a_path a_held a_alike a_hashes (nI nd) a_decisionArray a_decisionPlace a_candidateMany a_candidates (nI nr) a_ruleSort a_ruleArray a_ruleWeight a_ruleLow a_ruleHigh a_chosen a_bestOf (nI nm) a_markElements a_markBits a_markPins, cw_i g a_kindOf 60 kdf, cw_i g a_lengthOf 60 lnf, cw_i g a_baseOf 60 saf, cw_l g a_bits 4000 btf, cw_i g a_ruleSort 12 rsf, cw_i g a_ruleArray 12 juf, cw_l g a_ruleLow 12 lof, cw_l g a_ruleHigh 12 hif]) (rest := [.long w2]) hC hZ hs hl zc_X8_277 (cm_isLike g (kdf a) (btf i1) (btf i2)) [] [0, 1, 2, 3, 4, 5, 6, 7, 8] rfl rfl (by decide +kernel) rfl rfl (Nat.le_of_ble_eq_true rfl) ⟨⟨Nat.le_of_ble_eq_true rfl, Nat.le_of_ble_eq_true rfl⟩, Nat.le_of_ble_eq_true rfl, Nat.le_of_ble_eq_true rfl⟩ dX8_amountOf_207 (fun r43 u44 H locs hp hZ => ?_)
                  obtain ⟨rfl, rfl⟩ := hp
                  have hZ : zz_Z g A s.heap [cw_k7 h0 (nI na) (nI ne) a_kindOf a_depthOf a_lengthOf a_classOf a_baseOf a_bits a_pinned i_code a_lengths a_stackArray a_stackOther a_stackAt i_lastArray i_lastPlace a_path a_held a_alike a_hashes (nI nd) a_decisionArray a_decisionPlace a_candidateMany a_candidates (nI nr) a_ruleSort a_ruleArray a_ruleWeight a_ruleLow a_ruleHigh a_chosen a_bestOf (nI nm) a_markElements a_markBits a_markPins, cw_i g a_kindOf 60 kdf, cw_i g a_lengthOf 60 lnf, cw_i g a_baseOf 60 saf, cw_l g a_bits 4000 btf, cw_i g a_ruleSort 12 rsf, cw_i g a_ruleArray 12 juf, cw_l g a_ruleLow 12 lof, cw_l g a_ruleHigh 12 hif] H locs := hZ
                  refine lv_if_eq (tgt := 217) hx hb dX8_amountOf_210 (by decide) (fun c45 => ?_) (fun c45 => ?_)
                  · refine lv_lconst (v := 0) hx hb dX8_amountOf_217 (by decide) ?_
                    refine lv_ladd hx hb dX8_amountOf_218 ?_
                    refine lv_lstore (lv' := [(6, .long (w2 + 0)), (11, .int (nI i2)), (10, .int (nI i1)), (5, .int (nI (sz + lz))), (4, .int (nI sz)), (3, .int (kdf a)), (2, .int (nI a)), (0, .ref h0), (1, .int (nI d))]) hx hb dX8_amountOf_219 hl (by decide) rfl (fun ls hl => ?_)
                    refine lv_iinc (v := nI (i2 + 1)) (lv' := [(11, .int (nI (i2 + 1))), (6, .long (w2 + 0)), (10, .int (nI i1)), (5, .int (nI (sz + lz))), (4, .int (nI sz)), (3, .int (kdf a)), (2, .int (nI a)), (0, .ref h0), (1, .int (nI d))]) hx hb dX8_amountOf_221 hl (k := 1) rfl (nI_1 _) (by decide) rfl (fun ls hl => ?_)
                    refine lv_goto (tgt := 183) hx hb dX8_amountOf_224 (by decide) ?_
                    exact ih38 (i2 + 1) (w2 + 0) H locs ls (by omega) (by rw [he2, show sz + lz - i2 = (sz + lz - (i2 + 1)) + 1 by omega, sp_m1i, if_pos c45]) (by omega) hZ (lv_sub hl [0, 2, 1, 3, 4, 5, 6, 7, 8] rfl)
                  · refine lv_lconst (v := 1) hx hb dX8_amountOf_213 (by decide) ?_
                    refine lv_goto (tgt := 218) hx hb dX8_amountOf_214 (by decide) ?_
                    refine lv_ladd hx hb dX8_amountOf_218 ?_
                    refine lv_lstore (lv' := [(6, .long (w2 + 1)), (11, .int (nI i2)), (10, .int (nI i1)), (5, .int (nI (sz + lz))), (4, .int (nI sz)), (3, .int (kdf a)), (2, .int (nI a)), (0, .ref h0), (1, .int (nI d))]) hx hb dX8_amountOf_219 hl (by decide) rfl (fun ls hl => ?_)
                    refine lv_iinc (v := nI (i2 + 1)) (lv' := [(11, .int (nI (i2 + 1))), (6, .long (w2 + 1)), (10, .int (nI i1)), (5, .int (nI (sz + lz))), (4, .int (nI sz)), (3, .int (kdf a)), (2, .int (nI a)), (0, .ref h0), (1, .int (nI d))]) hx hb dX8_amountOf_221 hl (k := 1) rfl (nI_1 _) (by decide) rfl (fun ls hl => ?_)
                    refine lv_goto (tgt := 183) hx hb dX8_amountOf_224 (by decide) ?_
                    exact ih38 (i2 + 1) (w2 + 1) H locs ls (by omega) (by rw [he2, show sz + lz - i2 = (sz + lz - (i2 + 1)) + 1 by omega, sp_m1i, if_neg c45]) (by omega) hZ (lv_sub hl [0, 2, 1, 3, 4, 5, 6, 7, 8] rfl)
            exact LP38 _ (i1 + 1) w1 H locs ls (by omega) (rfl) (Nat.lt_succ_self _) hZ (lv_sub hl [0, 1, 2, 3, 4, 5, 6, 7, 8] rfl)
      exact LP34 _ sz 0 H locs ls (by omega) (rfl) (Nat.lt_succ_self _) hZ (lv_sub hl [0, 1, 2, 3, 4, 5, 6, 7] rfl)
    · refine lv_tableIn (tgt := 236) (off := 194) hx hb dX8_amountOf_42 (by decide) (by decide) (by decide) (by decide) ?_
      refine lv_iload hx hb dX8_amountOf_236 (lv_at hl 2 rfl) ?_
      refine lv_iconst (v := 1) hx hb dX8_amountOf_238 (by decide) ?_
      refine lv_iadd hx hb dX8_amountOf_239 ?_
      refine zz_topi (v := nI (sz + 1)) (nI_1 _) ?_
      refine lv_istore (lv' := [(10, .int (nI (sz + 1))), (6, .long 0), (5, .int (nI (sz + lz))), (4, .int (nI sz)), (3, .int (kdf a)), (2, .int (nI a)), (0, .ref h0), (1, .int (nI d))]) hx hb dX8_amountOf_240 hl (by decide) rfl (fun ls hl => ?_)
      have LP46 : ∀ (N46 : Nat) (i3 : Nat) (w3 : Int64) (H : Heap) (locs : List Loc) (ls : Array Slot), (sz + 1 ≤ i3 ∧ i3 ≤ sz + lz + 1) → (sp_m2 (kdf a) btf (sz + lz - (sz + 1)) (sz + 1) 0 = sp_m2 (kdf a) btf (sz + lz - i3) i3 w3) → (sz + lz - i3) < N46 → zz_Z g A s.heap [cw_k7 h0 (nI na) (nI ne) a_kindOf a_depthOf a_lengthOf a_classOf a_baseOf a_bits a_pinned i_code a_lengths a_stackArray a_stackOther a_stackAt i_lastArray i_lastPlace a_path a_held a_alike a_hashes (nI nd) a_decisionArray a_decisionPlace a_candidateMany a_candidates (nI nr) a_ruleSort a_ruleArray a_ruleWeight a_ruleLow a_ruleHigh a_chosen a_bestOf (nI nm) a_markElements a_markBits a_markPins, cw_i g a_kindOf 60 kdf, cw_i g a_lengthOf 60 lnf, cw_i g a_baseOf 60 saf, cw_l g a_bits 4000 btf, cw_i g a_ruleSort 12 rsf, cw_i g a_ruleArray 12 juf, cw_l g a_ruleLow 12 lof, cw_l g a_ruleHigh 12 hif] H locs → lv_has ls 17 [(10, .int (nI i3)), (6, .long w3), (5, .int (nI (sz + lz))), (4, .int (nI sz)), (3, .int (kdf a)), (2, .int (nI a)), (0, .ref h0), (1, .int (nI d))] → W p l e rm_cm_amountOf s m args below meth c H locs 0 0 (zz_QL below g args s A rm_cm_amountOf.cells rm_cm_amountOf.slots (po_cm_amountOf g h0 a_kindOf a_depthOf a_lengthOf a_classOf a_baseOf a_bits a_pinned a_lengths a_stackArray a_stackOther a_stackAt a_path a_held a_alike a_hashes a_decisionArray a_decisionPlace a_candidateMany a_candidates a_ruleSort a_ruleArray a_ruleWeight a_ruleLow a_ruleHigh a_chosen a_bestOf a_markElements a_markBits a_markPins na ne nd nr nm i_code i_lastArray i_lastPlace kdf lnf saf btf rsf juf lof hif d a sz lz h_r e_j e_s e_l)) (F0 m 242 ls []) := by
        intro N46
        induction N46 with
        | zero =>
          intro i3 w3 H locs ls hi3 he3 hN46
          exact absurd hN46 (Nat.not_lt_zero _)
        | succ N46 ih46 =>
          intro i3 w3 H locs ls hi3 he3 hN46 hZ hl
          refine lv_iload hx hb dX8_amountOf_242 (lv_at hl 0 rfl) ?_
          refine lv_iload hx hb dX8_amountOf_244 (lv_at hl 2 rfl) ?_
          have bd48 : (sz + lz) < 2 ^ 31 := by omega
          have bd49 : i3 < 2 ^ 31 := by omega
          refine lv_icmp_ge (tgt := 293) hx hb dX8_amountOf_246 (by decide) (fun c47 => ?_) (fun c47 => ?_)
          · have nc47 : (sz + lz) ≤ i3 := (nI_leI bd48 bd49).mp (show nI ((sz + lz)) ≤ nI (i3) from c47)
            have d_w3 : sp_m2 (kdf a) btf (sz + lz - (sz + 1)) (sz + 1) 0 = w3 := by rw [he3, show sz + lz - i3 = 0 by omega, sp_m2]
            refine lv_lload hx hb dX8_amountOf_293 (lv_at hl 1 rfl) ?_
            exact zz_lret hC hZ (⟨by refine Eq.symm ?_; rw [fn_cm_amountOf]; refine (if_neg (by (try simp only [d_w3]); exact ((show ¬ ((rsf d) = nI 0) by rw [c3]; decide)))).trans ?_; refine (if_neg (by (try simp only [d_w3]); exact ((show ¬ ((rsf d) = nI 1) by rw [c3]; decide)))).trans ?_; refine (if_pos (by (try simp only [d_w3]); exact c3)).trans ?_; first | (simp only [d_w3]; done) | rfl, rfl⟩) (Nat.le_of_ble_eq_true rfl) (Nat.le_of_ble_eq_true rfl) dX8_amountOf_295
          · have nc47 : ¬ (sz + lz) ≤ i3 := fun zq => c47 (show nI ((sz + lz)) ≤ nI (i3) from (nI_leI bd48 bd49).mpr zq)
            refine lv_lload hx hb dX8_amountOf_249 (lv_at hl 1 rfl) ?_
            refine lv_iload_n hx hb dX8_amountOf_251 rfl (lv_at hl 4 rfl) ?_
            refine lv_aload_n hx hb dX8_amountOf_252 rfl (lv_at hl 6 rfl) ?_
            refine zz_get hC hZ 0 rfl zf_X8_25 rfl dX8_amountOf_253 ?_
            refine lv_iload hx hb dX8_amountOf_256 (lv_at hl 0 rfl) ?_
            have bd50 : i3 < 4000 := by omega
            refine zz_laldn hC hZ 4 rfl bd50 (by decide) dX8_amountOf_258 ?_
            refine zz_lS (As := [.int (kdf a), .long (btf i3)]) (wc := []) (wr := [cw_k7 h0 (nI na) (nI ne) a_kindOf a_depthOf a_lengthOf a_classOf a_baseOf a_bits a_pinned i_code a_lengths a_stackArray a_stackOther a_stackAt i_lastArray i_lastPlace a_path a_held a_alike a_hashes (nI nd) a_decisionArray a_decisionPlace a_candidateMany a_candidates (nI nr) a_ruleSort a_ruleArray a_ruleWeight a_ruleLow a_ruleHigh a_chosen a_bestOf (nI nm) a_markElements a_markBits a_markPins, cw_i g a_kindOf 60 kdf, cw_i g a_lengthOf 60 lnf, cw_i g a_baseOf 60 saf, cw_l g a_bits 4000 btf, cw_i g a_ruleSort 12 rsf, cw_i g a_ruleArray 12 juf, cw_l g a_ruleLow 12 lof, cw_l g a_ruleHigh 12 hif]) (rest := [.long w3]) hC hZ hs hl zc_X8_239 (cm_orderNumber g (kdf a) (btf i3)) [] [0, 1, 2, 3, 4, 5, 6, 7, 8] rfl rfl (by decide +kernel) rfl rfl (Nat.le_of_ble_eq_true rfl) ⟨⟨Nat.le_of_ble_eq_true rfl, Nat.le_of_ble_eq_true rfl⟩, Nat.le_of_ble_eq_true rfl, Nat.le_of_ble_eq_true rfl⟩ dX8_amountOf_259 (fun r51 u52 H locs hp hZ => ?_)
            obtain ⟨rfl, rfl⟩ := hp
            have hZ : zz_Z g A s.heap [cw_k7 h0 (nI na) (nI ne) a_kindOf a_depthOf a_lengthOf a_classOf a_baseOf a_bits a_pinned i_code a_lengths a_stackArray a_stackOther a_stackAt i_lastArray i_lastPlace a_path a_held a_alike a_hashes (nI nd) a_decisionArray a_decisionPlace a_candidateMany a_candidates (nI nr) a_ruleSort a_ruleArray a_ruleWeight a_ruleLow a_ruleHigh a_chosen a_bestOf (nI nm) a_markElements a_markBits a_markPins, cw_i g a_kindOf 60 kdf, cw_i g a_lengthOf 60 lnf, cw_i g a_baseOf 60 saf, cw_l g a_bits 4000 btf, cw_i g a_ruleSort 12 rsf, cw_i g a_ruleArray 12 juf, cw_l g a_ruleLow 12 lof, cw_l g a_ruleHigh 12 hif] H locs := hZ
            refine lv_iload_n hx hb dX8_amountOf_262 rfl (lv_at hl 4 rfl) ?_
            refine lv_aload_n hx hb dX8_amountOf_263 rfl (lv_at hl 6 rfl) ?_
            refine zz_get hC hZ 0 rfl zf_X8_25 rfl dX8_amountOf_264 ?_
            refine lv_iload hx hb dX8_amountOf_267 (lv_at hl 0 rfl) ?_
            refine lv_iconst (v := 1) hx hb dX8_amountOf_269 (by decide) ?_
            refine lv_isub hx hb dX8_amountOf_270 ?_
            refine zz_topi (v := nI (i3 - 1)) (pk_sub (b := 1) (by omega)) ?_
            have bd53 : (i3 - 1) < 4000 := by omega
            refine zz_laldn hC hZ 4 rfl bd53 (by decide) dX8_amountOf_271 ?_
            refine zz_lS (As := [.int (kdf a), .long (btf (i3 - 1))]) (wc := []) (wr := [cw_k7 h0 (nI na) (nI ne) a_kindOf a_depthOf a_lengthOf a_classOf a_baseOf a_bits a_pinned i_code a_lengths a_stackArray a_stackOther a_stackAt i_lastArray i_lastPlace a_path a_held a_alike a_hashes (nI nd) a_decisionArray a_decisionPlace a_candidateMany a_candidates (nI nr) a_ruleSort a_ruleArray a_ruleWeight a_ruleLow a_ruleHigh a_chosen a_bestOf (nI nm) a_markElements a_markBits a_markPins, cw_i g a_kindOf 60 kdf, cw_i g a_lengthOf 60 lnf, cw_i g a_baseOf 60 saf, cw_l g a_bits 4000 btf, cw_i g a_ruleSort 12 rsf, cw_i g a_ruleArray 12 juf, cw_l g a_ruleLow 12 lof, cw_l g a_ruleHigh 12 hif]) (rest := [.long (fn_cm_orderNumber (kdf a) (btf i3)), .long w3]) hC hZ hs hl zc_X8_239 (cm_orderNumber g (kdf a) (btf (i3 - 1))) [] [0, 1, 2, 3, 4, 5, 6, 7, 8] rfl rfl (by decide +kernel) rfl rfl (Nat.le_of_ble_eq_true rfl) ⟨⟨Nat.le_of_ble_eq_true rfl, Nat.le_of_ble_eq_true rfl⟩, Nat.le_of_ble_eq_true rfl, Nat.le_of_ble_eq_true rfl⟩ dX8_amountOf_272 (fun r54 u55 H locs hp hZ => ?_)
            obtain ⟨rfl, rfl⟩ := hp
            have hZ : zz_Z g A s.heap [cw_k7 h0 (nI na) (nI ne) a_kindOf a_depthOf a_lengthOf a_classOf a_baseOf a_bits a_pinned i_code a_lengths a_stackArray a_stackOther a_stackAt i_lastArray i_lastPlace a_path a_held a_alike a_hashes (nI nd) a_decisionArray a_decisionPlace a_candidateMany a_candidates (nI nr) a_ruleSort a_ruleArray a_ruleWeight a_ruleLow a_ruleHigh a_chosen a_bestOf (nI nm) a_markElements a_markBits a_markPins, cw_i g a_kindOf 60 kdf, cw_i g a_lengthOf 60 lnf, cw_i g a_baseOf 60 saf, cw_l g a_bits 4000 btf, cw_i g a_ruleSort 12 rsf, cw_i g a_ruleArray 12 juf, cw_l g a_ruleLow 12 lof, cw_l g a_ruleHigh 12 hif] H locs := hZ
            refine zz_lcmp_ge (tgt := 283) hC dX8_amountOf_275 dX8_amountOf_276 (by decide) (fun c56 => ?_) (fun c56 => ?_)
            · refine lv_lconst (v := 0) hx hb dX8_amountOf_283 (by decide) ?_
              refine lv_ladd hx hb dX8_amountOf_284 ?_
              refine lv_lstore (lv' := [(6, .long (w3 + 0)), (10, .int (nI i3)), (5, .int (nI (sz + lz))), (4, .int (nI sz)), (3, .int (kdf a)), (2, .int (nI a)), (0, .ref h0), (1, .int (nI d))]) hx hb dX8_amountOf_285 hl (by decide) rfl (fun ls hl => ?_)
              refine lv_iinc (v := nI (i3 + 1)) (lv' := [(10, .int (nI (i3 + 1))), (6, .long (w3 + 0)), (5, .int (nI (sz + lz))), (4, .int (nI sz)), (3, .int (kdf a)), (2, .int (nI a)), (0, .ref h0), (1, .int (nI d))]) hx hb dX8_amountOf_287 hl (k := 1) rfl (nI_1 _) (by decide) rfl (fun ls hl => ?_)
              refine lv_goto (tgt := 242) hx hb dX8_amountOf_290 (by decide) ?_
              exact ih46 (i3 + 1) (w3 + 0) H locs ls (by omega) (by rw [he3, show sz + lz - i3 = (sz + lz - (i3 + 1)) + 1 by omega, sp_m2, if_pos c56]) (by omega) hZ (lv_sub hl [0, 1, 2, 3, 4, 5, 6, 7] rfl)
            · refine lv_lconst (v := 1) hx hb dX8_amountOf_279 (by decide) ?_
              refine lv_goto (tgt := 284) hx hb dX8_amountOf_280 (by decide) ?_
              refine lv_ladd hx hb dX8_amountOf_284 ?_
              refine lv_lstore (lv' := [(6, .long (w3 + 1)), (10, .int (nI i3)), (5, .int (nI (sz + lz))), (4, .int (nI sz)), (3, .int (kdf a)), (2, .int (nI a)), (0, .ref h0), (1, .int (nI d))]) hx hb dX8_amountOf_285 hl (by decide) rfl (fun ls hl => ?_)
              refine lv_iinc (v := nI (i3 + 1)) (lv' := [(10, .int (nI (i3 + 1))), (6, .long (w3 + 1)), (5, .int (nI (sz + lz))), (4, .int (nI sz)), (3, .int (kdf a)), (2, .int (nI a)), (0, .ref h0), (1, .int (nI d))]) hx hb dX8_amountOf_287 hl (k := 1) rfl (nI_1 _) (by decide) rfl (fun ls hl => ?_)
              refine lv_goto (tgt := 242) hx hb dX8_amountOf_290 (by decide) ?_
              exact ih46 (i3 + 1) (w3 + 1) H locs ls (by omega) (by rw [he3, show sz + lz - i3 = (sz + lz - (i3 + 1)) + 1 by omega, sp_m2, if_neg c56]) (by omega) hZ (lv_sub hl [0, 1, 2, 3, 4, 5, 6, 7] rfl)
      exact LP46 _ (sz + 1) 0 H locs ls (by omega) (rfl) (Nat.lt_succ_self _) hZ (lv_sub hl [0, 1, 2, 3, 4, 5, 6, 7] rfl)
    · refine lv_tableIn (tgt := 296) (off := 254) hx hb dX8_amountOf_42 (by decide) (by decide) (by decide) (by decide) ?_
      refine lv_iload hx hb dX8_amountOf_296 (lv_at hl 2 rfl) ?_
      refine lv_istore (lv' := [(10, .int (nI sz)), (6, .long 0), (5, .int (nI (sz + lz))), (4, .int (nI sz)), (3, .int (kdf a)), (2, .int (nI a)), (0, .ref h0), (1, .int (nI d))]) hx hb dX8_amountOf_298 hl (by decide) rfl (fun ls hl => ?_)
      have LP57 : ∀ (N57 : Nat) (i4 : Nat) (w4 : Int64) (H : Heap) (locs : List Loc) (ls : Array Slot), (sz ≤ i4 ∧ i4 ≤ sz + lz + 1) → (sp_m3 (lof d) btf (sz + lz - sz) sz 0 = sp_m3 (lof d) btf (sz + lz - i4) i4 w4) → (sz + lz - i4) < N57 → zz_Z g A s.heap [cw_k7 h0 (nI na) (nI ne) a_kindOf a_depthOf a_lengthOf a_classOf a_baseOf a_bits a_pinned i_code a_lengths a_stackArray a_stackOther a_stackAt i_lastArray i_lastPlace a_path a_held a_alike a_hashes (nI nd) a_decisionArray a_decisionPlace a_candidateMany a_candidates (nI nr) a_ruleSort a_ruleArray a_ruleWeight a_ruleLow a_ruleHigh a_chosen a_bestOf (nI nm) a_markElements a_markBits a_markPins, cw_i g a_kindOf 60 kdf, cw_i g a_lengthOf 60 lnf, cw_i g a_baseOf 60 saf, cw_l g a_bits 4000 btf, cw_i g a_ruleSort 12 rsf, cw_i g a_ruleArray 12 juf, cw_l g a_ruleLow 12 lof, cw_l g a_ruleHigh 12 hif] H locs → lv_has ls 17 [(10, .int (nI i4)), (6, .long w4), (5, .int (nI (sz + lz))), (4, .int (nI sz)), (3, .int (kdf a)), (2, .int (nI a)), (0, .ref h0), (1, .int (nI d))] → W p l e rm_cm_amountOf s m args below meth c H locs 0 0 (zz_QL below g args s A rm_cm_amountOf.cells rm_cm_amountOf.slots (po_cm_amountOf g h0 a_kindOf a_depthOf a_lengthOf a_classOf a_baseOf a_bits a_pinned a_lengths a_stackArray a_stackOther a_stackAt a_path a_held a_alike a_hashes a_decisionArray a_decisionPlace a_candidateMany a_candidates a_ruleSort a_ruleArray a_ruleWeight a_ruleLow a_ruleHigh a_chosen a_bestOf a_markElements a_markBits a_markPins na ne nd nr nm i_code i_lastArray i_lastPlace kdf lnf saf btf rsf juf lof hif d a sz lz h_r e_j e_s e_l)) (F0 m 300 ls []) := by
        intro N57
        induction N57 with
        | zero =>
          intro i4 w4 H locs ls hi4 he4 hN57
          exact absurd hN57 (Nat.not_lt_zero _)
        | succ N57 ih57 =>
          intro i4 w4 H locs ls hi4 he4 hN57 hZ hl
          refine lv_iload hx hb dX8_amountOf_300 (lv_at hl 0 rfl) ?_
          refine lv_iload hx hb dX8_amountOf_302 (lv_at hl 2 rfl) ?_
          have bd59 : (sz + lz) < 2 ^ 31 := by omega
          have bd60 : i4 < 2 ^ 31 := by omega
          refine lv_icmp_ge (tgt := 340) hx hb dX8_amountOf_304 (by decide) (fun c58 => ?_) (fun c58 => ?_)
          · have nc58 : (sz + lz) ≤ i4 := (nI_leI bd59 bd60).mp (show nI ((sz + lz)) ≤ nI (i4) from c58)
            have d_w4 : sp_m3 (lof d) btf (sz + lz - sz) sz 0 = w4 := by rw [he4, show sz + lz - i4 = 0 by omega, sp_m3]
            refine lv_lload hx hb dX8_amountOf_340 (lv_at hl 1 rfl) ?_
            refine lv_aload_n hx hb dX8_amountOf_342 rfl (lv_at hl 6 rfl) ?_
            refine zz_get hC hZ 0 rfl zf_X8_81 rfl dX8_amountOf_343 ?_
            refine lv_iload_n hx hb dX8_amountOf_346 rfl (lv_at hl 7 rfl) ?_
            refine zz_laldn hC hZ 8 rfl bd1 (by decide) dX8_amountOf_347 ?_
            refine zz_lcmp_le (tgt := 366) hC dX8_amountOf_348 dX8_amountOf_349 (by decide) (fun c61 => ?_) (fun c61 => ?_)
            · refine lv_aload_n hx hb dX8_amountOf_366 rfl (lv_at hl 6 rfl) ?_
              refine zz_get hC hZ 0 rfl zf_X8_81 rfl dX8_amountOf_367 ?_
              refine lv_iload_n hx hb dX8_amountOf_370 rfl (lv_at hl 7 rfl) ?_
              refine zz_laldn hC hZ 8 rfl bd1 (by decide) dX8_amountOf_371 ?_
              refine lv_lload hx hb dX8_amountOf_372 (lv_at hl 1 rfl) ?_
              refine zz_lS (As := [.long (hif d), .long w4]) (wc := []) (wr := [cw_k7 h0 (nI na) (nI ne) a_kindOf a_depthOf a_lengthOf a_classOf a_baseOf a_bits a_pinned i_code a_lengths a_stackArray a_stackOther a_stackAt i_lastArray i_lastPlace a_path a_held a_alike a_hashes (nI nd) a_decisionArray a_decisionPlace a_candidateMany a_candidates (nI nr) a_ruleSort a_ruleArray a_ruleWeight a_ruleLow a_ruleHigh a_chosen a_bestOf (nI nm) a_markElements a_markBits a_markPins, cw_i g a_kindOf 60 kdf, cw_i g a_lengthOf 60 lnf, cw_i g a_baseOf 60 saf, cw_l g a_bits 4000 btf, cw_i g a_ruleSort 12 rsf, cw_i g a_ruleArray 12 juf, cw_l g a_ruleLow 12 lof, cw_l g a_ruleHigh 12 hif]) (rest := []) hC hZ hs hl zc_X8_273 (cm_far g (hif d) w4) [] [0, 1, 2, 3, 4, 5, 6, 7, 8] rfl rfl (by decide +kernel) rfl rfl (Nat.le_of_ble_eq_true rfl) ⟨⟨Nat.le_of_ble_eq_true rfl, Nat.le_of_ble_eq_true rfl⟩, Nat.le_of_ble_eq_true rfl, Nat.le_of_ble_eq_true rfl⟩ dX8_amountOf_374 (fun r62 u63 H locs hp hZ => ?_)
              obtain ⟨rfl, rfl⟩ := hp
              have hZ : zz_Z g A s.heap [cw_k7 h0 (nI na) (nI ne) a_kindOf a_depthOf a_lengthOf a_classOf a_baseOf a_bits a_pinned i_code a_lengths a_stackArray a_stackOther a_stackAt i_lastArray i_lastPlace a_path a_held a_alike a_hashes (nI nd) a_decisionArray a_decisionPlace a_candidateMany a_candidates (nI nr) a_ruleSort a_ruleArray a_ruleWeight a_ruleLow a_ruleHigh a_chosen a_bestOf (nI nm) a_markElements a_markBits a_markPins, cw_i g a_kindOf 60 kdf, cw_i g a_lengthOf 60 lnf, cw_i g a_baseOf 60 saf, cw_l g a_bits 4000 btf, cw_i g a_ruleSort 12 rsf, cw_i g a_ruleArray 12 juf, cw_l g a_ruleLow 12 lof, cw_l g a_ruleHigh 12 hif] H locs := hZ
              exact zz_lret hC hZ (⟨by refine Eq.symm ?_; rw [fn_cm_amountOf]; refine (if_neg (by (try simp only [d_w4]); exact ((show ¬ ((rsf d) = nI 0) by rw [c3]; decide)))).trans ?_; refine (if_neg (by (try simp only [d_w4]); exact ((show ¬ ((rsf d) = nI 1) by rw [c3]; decide)))).trans ?_; refine (if_neg (by (try simp only [d_w4]); exact ((show ¬ ((rsf d) = nI 2) by rw [c3]; decide)))).trans ?_; refine (if_pos (by (try simp only [d_w4]); exact c3)).trans ?_; refine (if_pos (by (try simp only [d_w4]); exact c61)).trans ?_; first | (simp only [d_w4]; done) | rfl, rfl⟩) (Nat.le_of_ble_eq_true rfl) (Nat.le_of_ble_eq_true rfl) dX8_amountOf_377
            · refine lv_lload hx hb dX8_amountOf_352 (lv_at hl 1 rfl) ?_
              refine lv_aload_n hx hb dX8_amountOf_354 rfl (lv_at hl 6 rfl) ?_
              refine zz_get hC hZ 0 rfl zf_X8_81 rfl dX8_amountOf_355 ?_
              refine lv_iload_n hx hb dX8_amountOf_358 rfl (lv_at hl 7 rfl) ?_
              refine zz_laldn hC hZ 8 rfl bd1 (by decide) dX8_amountOf_359 ?_
              refine zz_lS (As := [.long w4, .long (hif d)]) (wc := []) (wr := [cw_k7 h0 (nI na) (nI ne) a_kindOf a_depthOf a_lengthOf a_classOf a_baseOf a_bits a_pinned i_code a_lengths a_stackArray a_stackOther a_stackAt i_lastArray i_lastPlace a_path a_held a_alike a_hashes (nI nd) a_decisionArray a_decisionPlace a_candidateMany a_candidates (nI nr) a_ruleSort a_ruleArray a_ruleWeight a_ruleLow a_ruleHigh a_chosen a_bestOf (nI nm) a_markElements a_markBits a_markPins, cw_i g a_kindOf 60 kdf, cw_i g a_lengthOf 60 lnf, cw_i g a_baseOf 60 saf, cw_l g a_bits 4000 btf, cw_i g a_ruleSort 12 rsf, cw_i g a_ruleArray 12 juf, cw_l g a_ruleLow 12 lof, cw_l g a_ruleHigh 12 hif]) (rest := []) hC hZ hs hl zc_X8_273 (cm_far g w4 (hif d)) [] [0, 1, 2, 3, 4, 5, 6, 7, 8] rfl rfl (by decide +kernel) rfl rfl (Nat.le_of_ble_eq_true rfl) ⟨⟨Nat.le_of_ble_eq_true rfl, Nat.le_of_ble_eq_true rfl⟩, Nat.le_of_ble_eq_true rfl, Nat.le_of_ble_eq_true rfl⟩ dX8_amountOf_360 (fun r64 u65 H locs hp hZ => ?_)
              obtain ⟨rfl, rfl⟩ := hp
              have hZ : zz_Z g A s.heap [cw_k7 h0 (nI na) (nI ne) a_kindOf a_depthOf a_lengthOf a_classOf a_baseOf a_bits a_pinned i_code a_lengths a_stackArray a_stackOther a_stackAt i_lastArray i_lastPlace a_path a_held a_alike a_hashes (nI nd) a_decisionArray a_decisionPlace a_candidateMany a_candidates (nI nr) a_ruleSort a_ruleArray a_ruleWeight a_ruleLow a_ruleHigh a_chosen a_bestOf (nI nm) a_markElements a_markBits a_markPins, cw_i g a_kindOf 60 kdf, cw_i g a_lengthOf 60 lnf, cw_i g a_baseOf 60 saf, cw_l g a_bits 4000 btf, cw_i g a_ruleSort 12 rsf, cw_i g a_ruleArray 12 juf, cw_l g a_ruleLow 12 lof, cw_l g a_ruleHigh 12 hif] H locs := hZ
              refine lv_goto (tgt := 377) hx hb dX8_amountOf_363 (by decide) ?_
              exact zz_lret hC hZ (⟨by refine Eq.symm ?_; rw [fn_cm_amountOf]; refine (if_neg (by (try simp only [d_w4]); exact ((show ¬ ((rsf d) = nI 0) by rw [c3]; decide)))).trans ?_; refine (if_neg (by (try simp only [d_w4]); exact ((show ¬ ((rsf d) = nI 1) by rw [c3]; decide)))).trans ?_; refine (if_neg (by (try simp only [d_w4]); exact ((show ¬ ((rsf d) = nI 2) by rw [c3]; decide)))).trans ?_; refine (if_pos (by (try simp only [d_w4]); exact c3)).trans ?_; refine (if_neg (by (try simp only [d_w4]); exact c61)).trans ?_; first | (simp only [d_w4]; done) | rfl, rfl⟩) (Nat.le_of_ble_eq_true rfl) (Nat.le_of_ble_eq_true rfl) dX8_amountOf_377
          · have nc58 : ¬ (sz + lz) ≤ i4 := fun zq => c58 (show nI ((sz + lz)) ≤ nI (i4) from (nI_leI bd59 bd60).mpr zq)
            refine lv_lload hx hb dX8_amountOf_307 (lv_at hl 1 rfl) ?_
            refine lv_aload_n hx hb dX8_amountOf_309 rfl (lv_at hl 6 rfl) ?_
            refine zz_get hC hZ 0 rfl zf_X8_25 rfl dX8_amountOf_310 ?_
            refine lv_iload hx hb dX8_amountOf_313 (lv_at hl 0 rfl) ?_
            have bd66 : i4 < 4000 := by omega
            refine zz_laldn hC hZ 4 rfl bd66 (by decide) dX8_amountOf_315 ?_
            refine lv_aload_n hx hb dX8_amountOf_316 rfl (lv_at hl 6 rfl) ?_
            refine zz_get hC hZ 0 rfl zf_X8_78 rfl dX8_amountOf_317 ?_
            refine lv_iload_n hx hb dX8_amountOf_320 rfl (lv_at hl 7 rfl) ?_
            refine zz_laldn hC hZ 7 rfl bd1 (by decide) dX8_amountOf_321 ?_
            refine zz_lcmp_ne (tgt := 330) hC dX8_amountOf_322 dX8_amountOf_323 (by decide) (fun c67 => ?_) (fun c67 => ?_)
            · refine lv_lconst (v := 0) hx hb dX8_amountOf_330 (by decide) ?_
              refine lv_ladd hx hb dX8_amountOf_331 ?_
              refine lv_lstore (lv' := [(6, .long (w4 + 0)), (10, .int (nI i4)), (5, .int (nI (sz + lz))), (4, .int (nI sz)), (3, .int (kdf a)), (2, .int (nI a)), (0, .ref h0), (1, .int (nI d))]) hx hb dX8_amountOf_332 hl (by decide) rfl (fun ls hl => ?_)
              refine lv_iinc (v := nI (i4 + 1)) (lv' := [(10, .int (nI (i4 + 1))), (6, .long (w4 + 0)), (5, .int (nI (sz + lz))), (4, .int (nI sz)), (3, .int (kdf a)), (2, .int (nI a)), (0, .ref h0), (1, .int (nI d))]) hx hb dX8_amountOf_334 hl (k := 1) rfl (nI_1 _) (by decide) rfl (fun ls hl => ?_)
              refine lv_goto (tgt := 300) hx hb dX8_amountOf_337 (by decide) ?_
              exact ih57 (i4 + 1) (w4 + 0) H locs ls (by omega) (by rw [he4, show sz + lz - i4 = (sz + lz - (i4 + 1)) + 1 by omega, sp_m3, if_neg c67]) (by omega) hZ (lv_sub hl [0, 1, 2, 3, 4, 5, 6, 7] rfl)
            · refine lv_lconst (v := 1) hx hb dX8_amountOf_326 (by decide) ?_
              refine lv_goto (tgt := 331) hx hb dX8_amountOf_327 (by decide) ?_
              refine lv_ladd hx hb dX8_amountOf_331 ?_
              refine lv_lstore (lv' := [(6, .long (w4 + 1)), (10, .int (nI i4)), (5, .int (nI (sz + lz))), (4, .int (nI sz)), (3, .int (kdf a)), (2, .int (nI a)), (0, .ref h0), (1, .int (nI d))]) hx hb dX8_amountOf_332 hl (by decide) rfl (fun ls hl => ?_)
              refine lv_iinc (v := nI (i4 + 1)) (lv' := [(10, .int (nI (i4 + 1))), (6, .long (w4 + 1)), (5, .int (nI (sz + lz))), (4, .int (nI sz)), (3, .int (kdf a)), (2, .int (nI a)), (0, .ref h0), (1, .int (nI d))]) hx hb dX8_amountOf_334 hl (k := 1) rfl (nI_1 _) (by decide) rfl (fun ls hl => ?_)
              refine lv_goto (tgt := 300) hx hb dX8_amountOf_337 (by decide) ?_
              exact ih57 (i4 + 1) (w4 + 1) H locs ls (by omega) (by rw [he4, show sz + lz - i4 = (sz + lz - (i4 + 1)) + 1 by omega, sp_m3, if_pos c67]) (by omega) hZ (lv_sub hl [0, 1, 2, 3, 4, 5, 6, 7] rfl)
      exact LP57 _ sz 0 H locs ls (by omega) (rfl) (Nat.lt_succ_self _) hZ (lv_sub hl [0, 1, 2, 3, 4, 5, 6, 7] rfl)
    · refine lv_tableIn (tgt := 378) (off := 336) hx hb dX8_amountOf_42 (by decide) (by decide) (by decide) (by decide) ?_
      refine lv_iload hx hb dX8_amountOf_378 (lv_at hl 2 rfl) ?_
      refine lv_iconst (v := 1) hx hb dX8_amountOf_380 (by decide) ?_
      refine lv_iadd hx hb dX8_amountOf_381 ?_
      refine zz_topi (v := nI (sz + 1)) (nI_1 _) ?_
      refine lv_istore (lv' := [(10, .int (nI (sz + 1))), (6, .long 0), (5, .int (nI (sz + lz))), (4, .int (nI sz)), (3, .int (kdf a)), (2, .int (nI a)), (0, .ref h0), (1, .int (nI d))]) hx hb dX8_amountOf_382 hl (by decide) rfl (fun ls hl => ?_)
      have LP68 : ∀ (N68 : Nat) (i5 : Nat) (w5 : Int64) (H : Heap) (locs : List Loc) (ls : Array Slot), (sz + 1 ≤ i5 ∧ i5 ≤ sz + lz + 1) → (sp_m4 btf (sz + lz - (sz + 1)) (sz + 1) 0 = sp_m4 btf (sz + lz - i5) i5 w5) → (sz + lz - i5) < N68 → zz_Z g A s.heap [cw_k7 h0 (nI na) (nI ne) a_kindOf a_depthOf a_lengthOf a_classOf a_baseOf a_bits a_pinned i_code a_lengths a_stackArray a_stackOther a_stackAt i_lastArray i_lastPlace a_path a_held a_alike a_hashes (nI nd) a_decisionArray a_decisionPlace a_candidateMany a_candidates (nI nr) a_ruleSort a_ruleArray a_ruleWeight a_ruleLow a_ruleHigh a_chosen a_bestOf (nI nm) a_markElements a_markBits a_markPins, cw_i g a_kindOf 60 kdf, cw_i g a_lengthOf 60 lnf, cw_i g a_baseOf 60 saf, cw_l g a_bits 4000 btf, cw_i g a_ruleSort 12 rsf, cw_i g a_ruleArray 12 juf, cw_l g a_ruleLow 12 lof, cw_l g a_ruleHigh 12 hif] H locs → lv_has ls 17 [(10, .int (nI i5)), (6, .long w5), (5, .int (nI (sz + lz))), (4, .int (nI sz)), (3, .int (kdf a)), (2, .int (nI a)), (0, .ref h0), (1, .int (nI d))] → W p l e rm_cm_amountOf s m args below meth c H locs 0 0 (zz_QL below g args s A rm_cm_amountOf.cells rm_cm_amountOf.slots (po_cm_amountOf g h0 a_kindOf a_depthOf a_lengthOf a_classOf a_baseOf a_bits a_pinned a_lengths a_stackArray a_stackOther a_stackAt a_path a_held a_alike a_hashes a_decisionArray a_decisionPlace a_candidateMany a_candidates a_ruleSort a_ruleArray a_ruleWeight a_ruleLow a_ruleHigh a_chosen a_bestOf a_markElements a_markBits a_markPins na ne nd nr nm i_code i_lastArray i_lastPlace kdf lnf saf btf rsf juf lof hif d a sz lz h_r e_j e_s e_l)) (F0 m 384 ls []) := by
        intro N68
        induction N68 with
        | zero =>
          intro i5 w5 H locs ls hi5 he5 hN68
          exact absurd hN68 (Nat.not_lt_zero _)
        | succ N68 ih68 =>
          intro i5 w5 H locs ls hi5 he5 hN68 hZ hl
          refine lv_iload hx hb dX8_amountOf_384 (lv_at hl 0 rfl) ?_
          refine lv_iload hx hb dX8_amountOf_386 (lv_at hl 2 rfl) ?_
          have bd70 : (sz + lz) < 2 ^ 31 := by omega
          have bd71 : i5 < 2 ^ 31 := by omega
          refine lv_icmp_ge (tgt := 427) hx hb dX8_amountOf_388 (by decide) (fun c69 => ?_) (fun c69 => ?_)
          · have nc69 : (sz + lz) ≤ i5 := (nI_leI bd70 bd71).mp (show nI ((sz + lz)) ≤ nI (i5) from c69)
            have d_w5 : sp_m4 btf (sz + lz - (sz + 1)) (sz + 1) 0 = w5 := by rw [he5, show sz + lz - i5 = 0 by omega, sp_m4]
            refine lv_lload hx hb dX8_amountOf_427 (lv_at hl 1 rfl) ?_
            exact zz_lret hC hZ (⟨by refine Eq.symm ?_; rw [fn_cm_amountOf]; refine (if_neg (by (try simp only [d_w5]); exact ((show ¬ ((rsf d) = nI 0) by rw [c3]; decide)))).trans ?_; refine (if_neg (by (try simp only [d_w5]); exact ((show ¬ ((rsf d) = nI 1) by rw [c3]; decide)))).trans ?_; refine (if_neg (by (try simp only [d_w5]); exact ((show ¬ ((rsf d) = nI 2) by rw [c3]; decide)))).trans ?_; refine (if_neg (by (try simp only [d_w5]); exact ((show ¬ ((rsf d) = nI 3) by rw [c3]; decide)))).trans ?_; refine (if_pos (by (try simp only [d_w5]); exact c3)).trans ?_; first | (simp only [d_w5]; done) | rfl, rfl⟩) (Nat.le_of_ble_eq_true rfl) (Nat.le_of_ble_eq_true rfl) dX8_amountOf_429
          · have nc69 : ¬ (sz + lz) ≤ i5 := fun zq => c69 (show nI ((sz + lz)) ≤ nI (i5) from (nI_leI bd70 bd71).mpr zq)
            refine lv_lload hx hb dX8_amountOf_391 (lv_at hl 1 rfl) ?_
            refine lv_aload_n hx hb dX8_amountOf_393 rfl (lv_at hl 6 rfl) ?_
            refine zz_get hC hZ 0 rfl zf_X8_25 rfl dX8_amountOf_394 ?_
            refine lv_iload hx hb dX8_amountOf_397 (lv_at hl 0 rfl) ?_
            have bd72 : i5 < 4000 := by omega
            refine zz_laldn hC hZ 4 rfl bd72 (by decide) dX8_amountOf_399 ?_
            refine lv_aload_n hx hb dX8_amountOf_400 rfl (lv_at hl 6 rfl) ?_
            refine zz_get hC hZ 0 rfl zf_X8_25 rfl dX8_amountOf_401 ?_
            refine lv_iload hx hb dX8_amountOf_404 (lv_at hl 0 rfl) ?_
            refine lv_iconst (v := 1) hx hb dX8_amountOf_406 (by decide) ?_
            refine lv_isub hx hb dX8_amountOf_407 ?_
            refine zz_topi (v := nI (i5 - 1)) (pk_sub (b := 1) (by omega)) ?_
            have bd73 : (i5 - 1) < 4000 := by omega
            refine zz_laldn hC hZ 4 rfl bd73 (by decide) dX8_amountOf_408 ?_
            refine zz_lcmp_eq (tgt := 417) hC dX8_amountOf_409 dX8_amountOf_410 (by decide) (fun c74 => ?_) (fun c74 => ?_)
            · refine lv_lconst (v := 0) hx hb dX8_amountOf_417 (by decide) ?_
              refine lv_ladd hx hb dX8_amountOf_418 ?_
              refine lv_lstore (lv' := [(6, .long (w5 + 0)), (10, .int (nI i5)), (5, .int (nI (sz + lz))), (4, .int (nI sz)), (3, .int (kdf a)), (2, .int (nI a)), (0, .ref h0), (1, .int (nI d))]) hx hb dX8_amountOf_419 hl (by decide) rfl (fun ls hl => ?_)
              refine lv_iinc (v := nI (i5 + 1)) (lv' := [(10, .int (nI (i5 + 1))), (6, .long (w5 + 0)), (5, .int (nI (sz + lz))), (4, .int (nI sz)), (3, .int (kdf a)), (2, .int (nI a)), (0, .ref h0), (1, .int (nI d))]) hx hb dX8_amountOf_421 hl (k := 1) rfl (nI_1 _) (by decide) rfl (fun ls hl => ?_)
              refine lv_goto (tgt := 384) hx hb dX8_amountOf_424 (by decide) ?_
              exact ih68 (i5 + 1) (w5 + 0) H locs ls (by omega) (by rw [he5, show sz + lz - i5 = (sz + lz - (i5 + 1)) + 1 by omega, sp_m4, if_pos c74]) (by omega) hZ (lv_sub hl [0, 1, 2, 3, 4, 5, 6, 7] rfl)
            · refine lv_lconst (v := 1) hx hb dX8_amountOf_413 (by decide) ?_
              refine lv_goto (tgt := 418) hx hb dX8_amountOf_414 (by decide) ?_
              refine lv_ladd hx hb dX8_amountOf_418 ?_
              refine lv_lstore (lv' := [(6, .long (w5 + 1)), (10, .int (nI i5)), (5, .int (nI (sz + lz))), (4, .int (nI sz)), (3, .int (kdf a)), (2, .int (nI a)), (0, .ref h0), (1, .int (nI d))]) hx hb dX8_amountOf_419 hl (by decide) rfl (fun ls hl => ?_)
              refine lv_iinc (v := nI (i5 + 1)) (lv' := [(10, .int (nI (i5 + 1))), (6, .long (w5 + 1)), (5, .int (nI (sz + lz))), (4, .int (nI sz)), (3, .int (kdf a)), (2, .int (nI a)), (0, .ref h0), (1, .int (nI d))]) hx hb dX8_amountOf_421 hl (k := 1) rfl (nI_1 _) (by decide) rfl (fun ls hl => ?_)
              refine lv_goto (tgt := 384) hx hb dX8_amountOf_424 (by decide) ?_
              exact ih68 (i5 + 1) (w5 + 1) H locs ls (by omega) (by rw [he5, show sz + lz - i5 = (sz + lz - (i5 + 1)) + 1 by omega, sp_m4, if_neg c74]) (by omega) hZ (lv_sub hl [0, 1, 2, 3, 4, 5, 6, 7] rfl)
      exact LP68 _ (sz + 1) 0 H locs ls (by omega) (rfl) (Nat.lt_succ_self _) hZ (lv_sub hl [0, 1, 2, 3, 4, 5, 6, 7] rfl)
theorem dg_X8_amount_0 : (decode cX8_amount 0 = .ok (.iload_n 1, 1)) ∧ (decode cX8_amount 1 = .ok (.i2l, 1)) ∧ (decode cX8_amount 2 = .ok (.lconst 0, 1)) ∧ (decode cX8_amount 3 = .ok (.aload_n 0, 1)) ∧ (decode cX8_amount 4 = .ok (.getfield 265, 3)) ∧ (decode cX8_amount 7 = .ok (.iconst 1, 1)) ∧ (decode cX8_amount 8 = .ok (.isub, 1)) ∧ (decode cX8_amount 9 = .ok (.i2l, 1)) ∧ (decode cX8_amount 10 = .ok (.invokestatic 106, 3)) ∧ (decode cX8_amount 13 = .ok (.ifCond .ne 11, 3)) ∧ (decode cX8_amount 16 = .ok (.aload_n 0, 1)) ∧ (decode cX8_amount 17 = .ok (.bipush 9, 2)) ∧ (decode cX8_amount 19 = .ok (.putfield 99, 3)) ∧ (decode cX8_amount 22 = .ok (.lconst 0, 1)) ∧ (decode cX8_amount 23 = .ok (.lreturn, 1)) ∧ (decode cX8_amount 24 = .ok (.aload_n 0, 1)) := by decide +kernel
theorem dX8_amount_0 : decode cX8_amount 0 = .ok (.iload_n 1, 1) := dg_X8_amount_0.1
theorem dX8_amount_1 : decode cX8_amount 1 = .ok (.i2l, 1) := dg_X8_amount_0.2.1
theorem dX8_amount_2 : decode cX8_amount 2 = .ok (.lconst 0, 1) := dg_X8_amount_0.2.2.1
theorem dX8_amount_3 : decode cX8_amount 3 = .ok (.aload_n 0, 1) := dg_X8_amount_0.2.2.2.1
theorem dX8_amount_4 : decode cX8_amount 4 = .ok (.getfield 265, 3) := dg_X8_amount_0.2.2.2.2.1
theorem dX8_amount_7 : decode cX8_amount 7 = .ok (.iconst 1, 1) := dg_X8_amount_0.2.2.2.2.2.1
theorem dX8_amount_8 : decode cX8_amount 8 = .ok (.isub, 1) := dg_X8_amount_0.2.2.2.2.2.2.1
theorem dX8_amount_9 : decode cX8_amount 9 = .ok (.i2l, 1) := dg_X8_amount_0.2.2.2.2.2.2.2.1
theorem dX8_amount_10 : decode cX8_amount 10 = .ok (.invokestatic 106, 3) := dg_X8_amount_0.2.2.2.2.2.2.2.2.1
theorem dX8_amount_13 : decode cX8_amount 13 = .ok (.ifCond .ne 11, 3) := dg_X8_amount_0.2.2.2.2.2.2.2.2.2.1
theorem dX8_amount_16 : decode cX8_amount 16 = .ok (.aload_n 0, 1) := dg_X8_amount_0.2.2.2.2.2.2.2.2.2.2.1
theorem dX8_amount_17 : decode cX8_amount 17 = .ok (.bipush 9, 2) := dg_X8_amount_0.2.2.2.2.2.2.2.2.2.2.2.1
theorem dX8_amount_19 : decode cX8_amount 19 = .ok (.putfield 99, 3) := dg_X8_amount_0.2.2.2.2.2.2.2.2.2.2.2.2.1
theorem dX8_amount_22 : decode cX8_amount 22 = .ok (.lconst 0, 1) := dg_X8_amount_0.2.2.2.2.2.2.2.2.2.2.2.2.2.1
theorem dX8_amount_23 : decode cX8_amount 23 = .ok (.lreturn, 1) := dg_X8_amount_0.2.2.2.2.2.2.2.2.2.2.2.2.2.2.1
theorem dX8_amount_24 : decode cX8_amount 24 = .ok (.aload_n 0, 1) := dg_X8_amount_0.2.2.2.2.2.2.2.2.2.2.2.2.2.2.2
theorem dg_X8_amount_25 : (decode cX8_amount 25 = .ok (.iconst 0, 1)) ∧ (decode cX8_amount 26 = .ok (.putfield 99, 3)) ∧ (decode cX8_amount 29 = .ok (.aload_n 0, 1)) ∧ (decode cX8_amount 30 = .ok (.iload_n 1, 1)) ∧ (decode cX8_amount 31 = .ok (.invokevirtual 281, 3)) ∧ (decode cX8_amount 34 = .ok (.lreturn, 1)) := by decide +kernel
theorem dX8_amount_25 : decode cX8_amount 25 = .ok (.iconst 0, 1) := dg_X8_amount_25.1
theorem dX8_amount_26 : decode cX8_amount 26 = .ok (.putfield 99, 3) := dg_X8_amount_25.2.1
theorem dX8_amount_29 : decode cX8_amount 29 = .ok (.aload_n 0, 1) := dg_X8_amount_25.2.2.1
theorem dX8_amount_30 : decode cX8_amount 30 = .ok (.iload_n 1, 1) := dg_X8_amount_25.2.2.2.1
theorem dX8_amount_31 : decode cX8_amount 31 = .ok (.invokevirtual 281, 3) := dg_X8_amount_25.2.2.2.2.1
theorem dX8_amount_34 : decode cX8_amount 34 = .ok (.lreturn, 1) := dg_X8_amount_25.2.2.2.2.2
theorem zk_1078 : Cond.methodLink RX8 281 yX8_amountOf ∈ zz_w := zz_in (List.mem_append_right _ (List.mem_append_right _ (List.mem_append_right _ (List.mem_append_right _ (List.mem_append_right _ (List.mem_of_getElem? (i := 118) (by decide +kernel))))))) rfl
set_option maxRecDepth 20000 in
theorem zk_1081 : Cond.code yX8_amountOf cX8_amountOf 17 (some .long) ∈ zz_w := zz_in (List.mem_append_right _ (List.mem_append_right _ (List.mem_append_right _ (List.mem_append_right _ (List.mem_append_right _ (List.mem_of_getElem? (i := 121) (rfl))))))) rfl
theorem zk_1080 : Cond.instanceMethod yX8_amountOf ∈ zz_w := zz_in (List.mem_append_right _ (List.mem_append_right _ (List.mem_append_right _ (List.mem_append_right _ (List.mem_append_right _ (List.mem_of_getElem? (i := 120) (by decide +kernel))))))) rfl
theorem zs_32 : Cond.selects RX8 yX8_amountOf yX8_amountOf ∈ zz_w := zz_in (List.mem_append_left _ (List.mem_of_getElem? (i := 32) (by decide +kernel))) rfl
theorem zc_X8_281 : zz_cV RX8 281 yX8_amountOf cX8_amountOf 17 (some .long) 1 := ⟨⟨zk_1078, zk_1081, zk_7, by decide, by decide, by decide +kernel⟩, zk_1080, zs_32⟩
def fn_my_amount (nr : Nat) (kdf : Nat → Int32) (lnf : Nat → Int32) (saf : Nat → Int32) (btf : Nat → Int64) (rsf : Nat → Int32) (juf : Nat → Int32) (lof : Nat → Int64) (hif : Nat → Int64) (x1 : Int32) : Int64 := (if (fn_cm_within x1.toInt64 0 (((nI nr) - 1).toInt64)) = 0 then 0 else (fn_cm_amountOf kdf btf rsf lof hif x1.toNatClampNeg ((juf x1.toNatClampNeg).toNatClampNeg) ((saf ((juf x1.toNatClampNeg).toNatClampNeg)).toNatClampNeg) ((lnf ((juf x1.toNatClampNeg).toNatClampNeg)).toNatClampNeg)))
abbrev rm_my_amount : Room := { frames := 4, cells := 0, slots := 0, locals := 107 }
abbrev po_my_amount (g : zz_G) (h0 : Nat) (a_kindOf : Nat) (a_depthOf : Nat) (a_lengthOf : Nat) (a_classOf : Nat) (a_baseOf : Nat) (a_bits : Nat) (a_pinned : Nat) (a_lengths : Nat) (a_stackArray : Nat) (a_stackOther : Nat) (a_stackAt : Nat) (a_path : Nat) (a_held : Nat) (a_alike : Nat) (a_hashes : Nat) (a_decisionArray : Nat) (a_decisionPlace : Nat) (a_candidateMany : Nat) (a_candidates : Nat) (a_ruleSort : Nat) (a_ruleArray : Nat) (a_ruleWeight : Nat) (a_ruleLow : Nat) (a_ruleHigh : Nat) (a_chosen : Nat) (a_bestOf : Nat) (a_markElements : Nat) (a_markBits : Nat) (a_markPins : Nat) (na : Nat) (ne : Nat) (nd : Nat) (nr : Nat) (nm : Nat) (i_code : Int32) (i_lastArray : Int32) (i_lastPlace : Int32) (kdf : Nat → Int32) (lnf : Nat → Int32) (saf : Nat → Int32) (btf : Nat → Int64) (rsf : Nat → Int32) (juf : Nat → Int32) (lof : Nat → Int64) (hif : Nat → Int64) (dpf : Nat → Int32) (x1 : Int32) (h_S : zz_SI na ne dpf saf lnf) (h_R : zz_RI na nr juf saf lnf) : Int64 → va_W → Prop := fun (r : Int64) (u : va_W) => ∃ (k_c : Int32) (k_a : Int32) (k_p : Int32), r = fn_my_amount nr kdf lnf saf btf rsf juf lof hif x1 ∧ u = [cw_k7 h0 (nI na) (nI ne) a_kindOf a_depthOf a_lengthOf a_classOf a_baseOf a_bits a_pinned k_c a_lengths a_stackArray a_stackOther a_stackAt k_a k_p a_path a_held a_alike a_hashes (nI nd) a_decisionArray a_decisionPlace a_candidateMany a_candidates (nI nr) a_ruleSort a_ruleArray a_ruleWeight a_ruleLow a_ruleHigh a_chosen a_bestOf (nI nm) a_markElements a_markBits a_markPins, cw_i g a_kindOf 60 kdf, cw_i g a_lengthOf 60 lnf, cw_i g a_baseOf 60 saf, cw_l g a_bits 4000 btf, cw_i g a_ruleSort 12 rsf, cw_i g a_ruleArray 12 juf, cw_l g a_ruleLow 12 lof, cw_l g a_ruleHigh 12 hif]
set_option maxHeartbeats 4000000 in
set_option maxRecDepth 100000 in
theorem my_amount (g : zz_G) (h0 : Nat) (a_kindOf : Nat) (a_depthOf : Nat) (a_lengthOf : Nat) (a_classOf : Nat) (a_baseOf : Nat) (a_bits : Nat) (a_pinned : Nat) (a_lengths : Nat) (a_stackArray : Nat) (a_stackOther : Nat) (a_stackAt : Nat) (a_path : Nat) (a_held : Nat) (a_alike : Nat) (a_hashes : Nat) (a_decisionArray : Nat) (a_decisionPlace : Nat) (a_candidateMany : Nat) (a_candidates : Nat) (a_ruleSort : Nat) (a_ruleArray : Nat) (a_ruleWeight : Nat) (a_ruleLow : Nat) (a_ruleHigh : Nat) (a_chosen : Nat) (a_bestOf : Nat) (a_markElements : Nat) (a_markBits : Nat) (a_markPins : Nat) (na : Nat) (ne : Nat) (nd : Nat) (nr : Nat) (nm : Nat) (i_code : Int32) (i_lastArray : Int32) (i_lastPlace : Int32) (kdf : Nat → Int32) (lnf : Nat → Int32) (saf : Nat → Int32) (btf : Nat → Int64) (rsf : Nat → Int32) (juf : Nat → Int32) (lof : Nat → Int64) (hif : Nat → Int64) (dpf : Nat → Int32) (x1 : Int32) (h_S : zz_SI na ne dpf saf lnf) (h_R : zz_RI na nr juf saf lnf) : zz_L g yX8_amount (.code yX8_amount cX8_amount 2 (some .long)) rm_my_amount [.ref h0, .int x1] [cw_k7 h0 (nI na) (nI ne) a_kindOf a_depthOf a_lengthOf a_classOf a_baseOf a_bits a_pinned i_code a_lengths a_stackArray a_stackOther a_stackAt i_lastArray i_lastPlace a_path a_held a_alike a_hashes (nI nd) a_decisionArray a_decisionPlace a_candidateMany a_candidates (nI nr) a_ruleSort a_ruleArray a_ruleWeight a_ruleLow a_ruleHigh a_chosen a_bestOf (nI nm) a_markElements a_markBits a_markPins, cw_i g a_kindOf 60 kdf, cw_i g a_lengthOf 60 lnf, cw_i g a_baseOf 60 saf, cw_l g a_bits 4000 btf, cw_i g a_ruleSort 12 rsf, cw_i g a_ruleArray 12 juf, cw_l g a_ruleLow 12 lof, cw_l g a_ruleHigh 12 hif] (po_my_amount g h0 a_kindOf a_depthOf a_lengthOf a_classOf a_baseOf a_bits a_pinned a_lengths a_stackArray a_stackOther a_stackAt a_path a_held a_alike a_hashes a_decisionArray a_decisionPlace a_candidateMany a_candidates a_ruleSort a_ruleArray a_ruleWeight a_ruleLow a_ruleHigh a_chosen a_bestOf a_markElements a_markBits a_markPins na ne nd nr nm i_code i_lastArray i_lastPlace kdf lnf saf btf rsf juf lof hif dpf x1 h_S h_R) := by
  refine zz_L.intro (own := RX8) (cc := cX8_amount) (nL := 2) (by decide) rfl (Nat.le_of_ble_eq_true rfl) ?_
  intro p l e s m args below meth c A H locs ls hC hnm hs hZ hl
  obtain ⟨hx, hb, hml, hown, hts, hr, hlocks, hK⟩ := id hC
  have hl : lv_has ls 2 [(0, .ref h0), (1, .int x1)] := hl
  have hZ : zz_Z g A s.heap [cw_k7 h0 (nI na) (nI ne) a_kindOf a_depthOf a_lengthOf a_classOf a_baseOf a_bits a_pinned i_code a_lengths a_stackArray a_stackOther a_stackAt i_lastArray i_lastPlace a_path a_held a_alike a_hashes (nI nd) a_decisionArray a_decisionPlace a_candidateMany a_candidates (nI nr) a_ruleSort a_ruleArray a_ruleWeight a_ruleLow a_ruleHigh a_chosen a_bestOf (nI nm) a_markElements a_markBits a_markPins, cw_i g a_kindOf 60 kdf, cw_i g a_lengthOf 60 lnf, cw_i g a_baseOf 60 saf, cw_l g a_bits 4000 btf, cw_i g a_ruleSort 12 rsf, cw_i g a_ruleArray 12 juf, cw_l g a_ruleLow 12 lof, cw_l g a_ruleHigh 12 hif] H locs := hZ
  have hna := h_S.1
  have hne := h_S.2.1
  have hr12 := h_R.1
  refine lv_iload_n hx hb dX8_amount_0 rfl (lv_at hl 1 rfl) ?_
  refine lv_i2l hx hb dX8_amount_1 rfl ?_
  refine lv_lconst (v := 0) hx hb dX8_amount_2 (by decide) ?_
  refine lv_aload_n hx hb dX8_amount_3 rfl (lv_at hl 0 rfl) ?_
  refine zz_get hC hZ 0 rfl zf_X8_265 rfl dX8_amount_4 ?_
  refine lv_iconst (v := 1) hx hb dX8_amount_7 (by decide) ?_
  refine lv_isub hx hb dX8_amount_8 ?_
  refine lv_i2l hx hb dX8_amount_9 rfl ?_
  refine zz_iS (As := [.long x1.toInt64, .long 0, .long (((nI nr) - 1).toInt64)]) (wc := []) (wr := [cw_k7 h0 (nI na) (nI ne) a_kindOf a_depthOf a_lengthOf a_classOf a_baseOf a_bits a_pinned i_code a_lengths a_stackArray a_stackOther a_stackAt i_lastArray i_lastPlace a_path a_held a_alike a_hashes (nI nd) a_decisionArray a_decisionPlace a_candidateMany a_candidates (nI nr) a_ruleSort a_ruleArray a_ruleWeight a_ruleLow a_ruleHigh a_chosen a_bestOf (nI nm) a_markElements a_markBits a_markPins, cw_i g a_kindOf 60 kdf, cw_i g a_lengthOf 60 lnf, cw_i g a_baseOf 60 saf, cw_l g a_bits 4000 btf, cw_i g a_ruleSort 12 rsf, cw_i g a_ruleArray 12 juf, cw_l g a_ruleLow 12 lof, cw_l g a_ruleHigh 12 hif]) (rest := []) hC hZ hs hl zc_X8_106 (cm_within g x1.toInt64 0 (((nI nr) - 1).toInt64)) [] [0, 1, 2, 3, 4, 5, 6, 7, 8] rfl rfl (by decide +kernel) rfl rfl (Nat.le_of_ble_eq_true rfl) ⟨⟨Nat.le_of_ble_eq_true rfl, Nat.le_of_ble_eq_true rfl⟩, Nat.le_of_ble_eq_true rfl, Nat.le_of_ble_eq_true rfl⟩ dX8_amount_10 (fun r1 u2 H locs hp hZ => ?_)
  obtain ⟨rfl, rfl⟩ := hp
  have hZ : zz_Z g A s.heap [cw_k7 h0 (nI na) (nI ne) a_kindOf a_depthOf a_lengthOf a_classOf a_baseOf a_bits a_pinned i_code a_lengths a_stackArray a_stackOther a_stackAt i_lastArray i_lastPlace a_path a_held a_alike a_hashes (nI nd) a_decisionArray a_decisionPlace a_candidateMany a_candidates (nI nr) a_ruleSort a_ruleArray a_ruleWeight a_ruleLow a_ruleHigh a_chosen a_bestOf (nI nm) a_markElements a_markBits a_markPins, cw_i g a_kindOf 60 kdf, cw_i g a_lengthOf 60 lnf, cw_i g a_baseOf 60 saf, cw_l g a_bits 4000 btf, cw_i g a_ruleSort 12 rsf, cw_i g a_ruleArray 12 juf, cw_l g a_ruleLow 12 lof, cw_l g a_ruleHigh 12 hif] H locs := hZ
  refine lv_if_ne (tgt := 24) hx hb dX8_amount_13 (by decide) (fun c3 => ?_) (fun c3 => ?_)
  · obtain ⟨d, hd, ed⟩ := zl_wi (by omega) c3
    have hl : lv_has ls 2 [(0, .ref h0), (1, .int (nI d))] := by rw [← ed]; exact hl
    obtain ⟨a, sz, lz, e_j, ha, ha6, e_s, e_l, hb1, hb2⟩ := h_R.2 d hd
    have bd4 : d < 2 ^ 31 := by omega
    have d_d : x1.toNatClampNeg = d := by rw [ed]; exact nI_clamp bd4
    have d_a : (juf d).toNatClampNeg = a := by rw [e_j]; exact nI_clamp (by omega)
    have d_sz : (saf a).toNatClampNeg = sz := by rw [e_s]; exact nI_clamp (by omega)
    have d_lz : (lnf a).toNatClampNeg = lz := by rw [e_l]; exact nI_clamp (by omega)
    obtain ⟨q1, hq1, eq1⟩ := zl_wi (by omega) c3
    have bd5 : q1 < 2 ^ 31 := by omega
    have d_q1 : x1.toNatClampNeg = q1 := by rw [eq1]; exact nI_clamp bd5
    refine lv_aload_n hx hb dX8_amount_24 rfl (lv_at hl 0 rfl) ?_
    refine lv_iconst (v := 0) hx hb dX8_amount_25 (by decide) ?_
    refine zz_put hC hZ 0 rfl zu_X8_99 (Nat.le_of_ble_eq_true rfl) dX8_amount_26 (fun H locs hZ => ?_)
    have hZ : zz_Z g A s.heap [cw_k7 h0 (nI na) (nI ne) a_kindOf a_depthOf a_lengthOf a_classOf a_baseOf a_bits a_pinned 0 a_lengths a_stackArray a_stackOther a_stackAt i_lastArray i_lastPlace a_path a_held a_alike a_hashes (nI nd) a_decisionArray a_decisionPlace a_candidateMany a_candidates (nI nr) a_ruleSort a_ruleArray a_ruleWeight a_ruleLow a_ruleHigh a_chosen a_bestOf (nI nm) a_markElements a_markBits a_markPins, cw_i g a_kindOf 60 kdf, cw_i g a_lengthOf 60 lnf, cw_i g a_baseOf 60 saf, cw_l g a_bits 4000 btf, cw_i g a_ruleSort 12 rsf, cw_i g a_ruleArray 12 juf, cw_l g a_ruleLow 12 lof, cw_l g a_ruleHigh 12 hif] H locs := hZ
    refine lv_aload_n hx hb dX8_amount_29 rfl (lv_at hl 0 rfl) ?_
    refine lv_iload_n hx hb dX8_amount_30 rfl (lv_at hl 1 rfl) ?_
    refine zz_lV (As := [.int (nI d)]) (wc := [cw_k7 h0 (nI na) (nI ne) a_kindOf a_depthOf a_lengthOf a_classOf a_baseOf a_bits a_pinned 0 a_lengths a_stackArray a_stackOther a_stackAt i_lastArray i_lastPlace a_path a_held a_alike a_hashes (nI nd) a_decisionArray a_decisionPlace a_candidateMany a_candidates (nI nr) a_ruleSort a_ruleArray a_ruleWeight a_ruleLow a_ruleHigh a_chosen a_bestOf (nI nm) a_markElements a_markBits a_markPins, cw_i g a_kindOf 60 kdf, cw_i g a_lengthOf 60 lnf, cw_i g a_baseOf 60 saf, cw_l g a_bits 4000 btf, cw_i g a_ruleSort 12 rsf, cw_i g a_ruleArray 12 juf, cw_l g a_ruleLow 12 lof, cw_l g a_ruleHigh 12 hif]) (wr := []) (rest := []) hC hZ hs hl zc_X8_281 (cm_amountOf g h0 a_kindOf a_depthOf a_lengthOf a_classOf a_baseOf a_bits a_pinned a_lengths a_stackArray a_stackOther a_stackAt a_path a_held a_alike a_hashes a_decisionArray a_decisionPlace a_candidateMany a_candidates a_ruleSort a_ruleArray a_ruleWeight a_ruleLow a_ruleHigh a_chosen a_bestOf a_markElements a_markBits a_markPins na ne nd nr nm 0 i_lastArray i_lastPlace kdf lnf saf btf rsf juf lof hif d a sz lz (by omega) (e_j) (e_s) (e_l)) [0, 1, 2, 3, 4, 5, 6, 7, 8] [] rfl rfl (by decide +kernel) (ci := 7) (q0 := 0) rfl rfl rfl rfl (Nat.le_of_ble_eq_true rfl) ⟨⟨Nat.le_of_ble_eq_true rfl, Nat.le_of_ble_eq_true rfl⟩, Nat.le_of_ble_eq_true rfl, Nat.le_of_ble_eq_true rfl⟩ dX8_amount_31 (fun r6 u7 H locs hp hZ => ?_)
    obtain ⟨rfl, rfl⟩ := hp
    have hZ : zz_Z g A s.heap [cw_k7 h0 (nI na) (nI ne) a_kindOf a_depthOf a_lengthOf a_classOf a_baseOf a_bits a_pinned 0 a_lengths a_stackArray a_stackOther a_stackAt i_lastArray i_lastPlace a_path a_held a_alike a_hashes (nI nd) a_decisionArray a_decisionPlace a_candidateMany a_candidates (nI nr) a_ruleSort a_ruleArray a_ruleWeight a_ruleLow a_ruleHigh a_chosen a_bestOf (nI nm) a_markElements a_markBits a_markPins, cw_i g a_kindOf 60 kdf, cw_i g a_lengthOf 60 lnf, cw_i g a_baseOf 60 saf, cw_l g a_bits 4000 btf, cw_i g a_ruleSort 12 rsf, cw_i g a_ruleArray 12 juf, cw_l g a_ruleLow 12 lof, cw_l g a_ruleHigh 12 hif] H locs := hZ
    exact zz_lret hC hZ (⟨0, i_lastArray, i_lastPlace, by refine Eq.symm ?_; rw [fn_my_amount]; refine (if_neg (by (try simp only [d_d, d_a, d_sz, d_lz, d_q1]); exact c3)).trans ?_; first | (simp only [d_d, d_a, d_sz, d_lz, d_q1]; done) | rfl, rfl⟩) (Nat.le_of_ble_eq_true rfl) (Nat.le_of_ble_eq_true rfl) dX8_amount_34
  · refine lv_aload_n hx hb dX8_amount_16 rfl (lv_at hl 0 rfl) ?_
    refine lv_bipush (v := 9) hx hb dX8_amount_17 (by decide) ?_
    refine zz_put hC hZ 0 rfl zu_X8_99 (Nat.le_of_ble_eq_true rfl) dX8_amount_19 (fun H locs hZ => ?_)
    have hZ : zz_Z g A s.heap [cw_k7 h0 (nI na) (nI ne) a_kindOf a_depthOf a_lengthOf a_classOf a_baseOf a_bits a_pinned 9 a_lengths a_stackArray a_stackOther a_stackAt i_lastArray i_lastPlace a_path a_held a_alike a_hashes (nI nd) a_decisionArray a_decisionPlace a_candidateMany a_candidates (nI nr) a_ruleSort a_ruleArray a_ruleWeight a_ruleLow a_ruleHigh a_chosen a_bestOf (nI nm) a_markElements a_markBits a_markPins, cw_i g a_kindOf 60 kdf, cw_i g a_lengthOf 60 lnf, cw_i g a_baseOf 60 saf, cw_l g a_bits 4000 btf, cw_i g a_ruleSort 12 rsf, cw_i g a_ruleArray 12 juf, cw_l g a_ruleLow 12 lof, cw_l g a_ruleHigh 12 hif] H locs := hZ
    refine lv_lconst (v := 0) hx hb dX8_amount_22 (by decide) ?_
    exact zz_lret hC hZ (⟨9, i_lastArray, i_lastPlace, by show _ = _; rw [fn_my_amount]; rw [if_pos c3], rfl⟩) (Nat.le_of_ble_eq_true rfl) (Nat.le_of_ble_eq_true rfl) dX8_amount_23
/-- the reference's score -/
def sp_ts (kd : Nat → Int32) (bt : Nat → Int64) (rs ju we : Nat → Int32) (lo hi : Nat → Int64) (sa ln : Nat → Int32) : Nat → Nat → Int64 → Int64
  | 0, _, w => w
  | m + 1, i, w => sp_ts kd bt rs ju we lo hi sa ln m (i + 1) (w + ((we i).toInt64) * (fn_cm_amountOf kd bt rs lo hi i (ju i).toNatClampNeg (sa (ju i).toNatClampNeg).toNatClampNeg (ln (ju i).toNatClampNeg).toNatClampNeg))
theorem dg_X8_score_0 : (decode cX8_score 0 = .ok (.lconst 0, 1)) ∧ (decode cX8_score 1 = .ok (.lstore_n 1, 1)) ∧ (decode cX8_score 2 = .ok (.iconst 0, 1)) ∧ (decode cX8_score 3 = .ok (.istore_n 3, 1)) ∧ (decode cX8_score 4 = .ok (.iload_n 3, 1)) ∧ (decode cX8_score 5 = .ok (.aload_n 0, 1)) ∧ (decode cX8_score 6 = .ok (.getfield 265, 3)) ∧ (decode cX8_score 9 = .ok (.if_icmp .ge 25, 3)) ∧ (decode cX8_score 12 = .ok (.lload_n 1, 1)) ∧ (decode cX8_score 13 = .ok (.aload_n 0, 1)) ∧ (decode cX8_score 14 = .ok (.getfield 75, 3)) ∧ (decode cX8_score 17 = .ok (.iload_n 3, 1)) ∧ (decode cX8_score 18 = .ok (.iaload, 1)) ∧ (decode cX8_score 19 = .ok (.i2l, 1)) ∧ (decode cX8_score 20 = .ok (.aload_n 0, 1)) ∧ (decode cX8_score 21 = .ok (.iload_n 3, 1)) := by decide +kernel
theorem dX8_score_0 : decode cX8_score 0 = .ok (.lconst 0, 1) := dg_X8_score_0.1
theorem dX8_score_1 : decode cX8_score 1 = .ok (.lstore_n 1, 1) := dg_X8_score_0.2.1
theorem dX8_score_2 : decode cX8_score 2 = .ok (.iconst 0, 1) := dg_X8_score_0.2.2.1
theorem dX8_score_3 : decode cX8_score 3 = .ok (.istore_n 3, 1) := dg_X8_score_0.2.2.2.1
theorem dX8_score_4 : decode cX8_score 4 = .ok (.iload_n 3, 1) := dg_X8_score_0.2.2.2.2.1
theorem dX8_score_5 : decode cX8_score 5 = .ok (.aload_n 0, 1) := dg_X8_score_0.2.2.2.2.2.1
theorem dX8_score_6 : decode cX8_score 6 = .ok (.getfield 265, 3) := dg_X8_score_0.2.2.2.2.2.2.1
theorem dX8_score_9 : decode cX8_score 9 = .ok (.if_icmp .ge 25, 3) := dg_X8_score_0.2.2.2.2.2.2.2.1
theorem dX8_score_12 : decode cX8_score 12 = .ok (.lload_n 1, 1) := dg_X8_score_0.2.2.2.2.2.2.2.2.1
theorem dX8_score_13 : decode cX8_score 13 = .ok (.aload_n 0, 1) := dg_X8_score_0.2.2.2.2.2.2.2.2.2.1
theorem dX8_score_14 : decode cX8_score 14 = .ok (.getfield 75, 3) := dg_X8_score_0.2.2.2.2.2.2.2.2.2.2.1
theorem dX8_score_17 : decode cX8_score 17 = .ok (.iload_n 3, 1) := dg_X8_score_0.2.2.2.2.2.2.2.2.2.2.2.1
theorem dX8_score_18 : decode cX8_score 18 = .ok (.iaload, 1) := dg_X8_score_0.2.2.2.2.2.2.2.2.2.2.2.2.1
theorem dX8_score_19 : decode cX8_score 19 = .ok (.i2l, 1) := dg_X8_score_0.2.2.2.2.2.2.2.2.2.2.2.2.2.1
theorem dX8_score_20 : decode cX8_score 20 = .ok (.aload_n 0, 1) := dg_X8_score_0.2.2.2.2.2.2.2.2.2.2.2.2.2.2.1
theorem dX8_score_21 : decode cX8_score 21 = .ok (.iload_n 3, 1) := dg_X8_score_0.2.2.2.2.2.2.2.2.2.2.2.2.2.2.2
theorem dg_X8_score_22 : (decode cX8_score 22 = .ok (.invokevirtual 281, 3)) ∧ (decode cX8_score 25 = .ok (.lmul, 1)) ∧ (decode cX8_score 26 = .ok (.ladd, 1)) ∧ (decode cX8_score 27 = .ok (.lstore_n 1, 1)) ∧ (decode cX8_score 28 = .ok (.iinc 3 1, 3)) ∧ (decode cX8_score 31 = .ok (.goto (-27), 3)) ∧ (decode cX8_score 34 = .ok (.lload_n 1, 1)) ∧ (decode cX8_score 35 = .ok (.lreturn, 1)) := by decide +kernel
theorem dX8_score_22 : decode cX8_score 22 = .ok (.invokevirtual 281, 3) := dg_X8_score_22.1
theorem dX8_score_25 : decode cX8_score 25 = .ok (.lmul, 1) := dg_X8_score_22.2.1
theorem dX8_score_26 : decode cX8_score 26 = .ok (.ladd, 1) := dg_X8_score_22.2.2.1
theorem dX8_score_27 : decode cX8_score 27 = .ok (.lstore_n 1, 1) := dg_X8_score_22.2.2.2.1
theorem dX8_score_28 : decode cX8_score 28 = .ok (.iinc 3 1, 3) := dg_X8_score_22.2.2.2.2.1
theorem dX8_score_31 : decode cX8_score 31 = .ok (.goto (-27), 3) := dg_X8_score_22.2.2.2.2.2.1
theorem dX8_score_34 : decode cX8_score 34 = .ok (.lload_n 1, 1) := dg_X8_score_22.2.2.2.2.2.2.1
theorem dX8_score_35 : decode cX8_score 35 = .ok (.lreturn, 1) := dg_X8_score_22.2.2.2.2.2.2.2
abbrev rm_my_score : Room := { frames := 4, cells := 0, slots := 0, locals := 107 }
abbrev po_my_score (g : zz_G) (h0 : Nat) (a_kindOf : Nat) (a_depthOf : Nat) (a_lengthOf : Nat) (a_classOf : Nat) (a_baseOf : Nat) (a_bits : Nat) (a_pinned : Nat) (a_lengths : Nat) (a_stackArray : Nat) (a_stackOther : Nat) (a_stackAt : Nat) (a_path : Nat) (a_held : Nat) (a_alike : Nat) (a_hashes : Nat) (a_decisionArray : Nat) (a_decisionPlace : Nat) (a_candidateMany : Nat) (a_candidates : Nat) (a_ruleSort : Nat) (a_ruleArray : Nat) (a_ruleWeight : Nat) (a_ruleLow : Nat) (a_ruleHigh : Nat) (a_chosen : Nat) (a_bestOf : Nat) (a_markElements : Nat) (a_markBits : Nat) (a_markPins : Nat) (na : Nat) (ne : Nat) (nd : Nat) (nr : Nat) (nm : Nat) (i_code : Int32) (i_lastArray : Int32) (i_lastPlace : Int32) (kdf : Nat → Int32) (lnf : Nat → Int32) (saf : Nat → Int32) (btf : Nat → Int64) (rsf : Nat → Int32) (juf : Nat → Int32) (lof : Nat → Int64) (hif : Nat → Int64) (wef : Nat → Int32) (dpf : Nat → Int32) (h_S : zz_SI na ne dpf saf lnf) (h_R : zz_RI na nr juf saf lnf) : Int64 → va_W → Prop := fun (r : Int64) (u : va_W) => (r = sp_ts kdf btf rsf juf wef lof hif saf lnf nr 0 0) ∧ u = [cw_k7 h0 (nI na) (nI ne) a_kindOf a_depthOf a_lengthOf a_classOf a_baseOf a_bits a_pinned i_code a_lengths a_stackArray a_stackOther a_stackAt i_lastArray i_lastPlace a_path a_held a_alike a_hashes (nI nd) a_decisionArray a_decisionPlace a_candidateMany a_candidates (nI nr) a_ruleSort a_ruleArray a_ruleWeight a_ruleLow a_ruleHigh a_chosen a_bestOf (nI nm) a_markElements a_markBits a_markPins, cw_i g a_kindOf 60 kdf, cw_i g a_lengthOf 60 lnf, cw_i g a_baseOf 60 saf, cw_l g a_bits 4000 btf, cw_i g a_ruleSort 12 rsf, cw_i g a_ruleArray 12 juf, cw_l g a_ruleLow 12 lof, cw_l g a_ruleHigh 12 hif, cw_i g a_ruleWeight 12 wef]
set_option maxHeartbeats 4000000 in
set_option maxRecDepth 100000 in
theorem my_score (g : zz_G) (h0 : Nat) (a_kindOf : Nat) (a_depthOf : Nat) (a_lengthOf : Nat) (a_classOf : Nat) (a_baseOf : Nat) (a_bits : Nat) (a_pinned : Nat) (a_lengths : Nat) (a_stackArray : Nat) (a_stackOther : Nat) (a_stackAt : Nat) (a_path : Nat) (a_held : Nat) (a_alike : Nat) (a_hashes : Nat) (a_decisionArray : Nat) (a_decisionPlace : Nat) (a_candidateMany : Nat) (a_candidates : Nat) (a_ruleSort : Nat) (a_ruleArray : Nat) (a_ruleWeight : Nat) (a_ruleLow : Nat) (a_ruleHigh : Nat) (a_chosen : Nat) (a_bestOf : Nat) (a_markElements : Nat) (a_markBits : Nat) (a_markPins : Nat) (na : Nat) (ne : Nat) (nd : Nat) (nr : Nat) (nm : Nat) (i_code : Int32) (i_lastArray : Int32) (i_lastPlace : Int32) (kdf : Nat → Int32) (lnf : Nat → Int32) (saf : Nat → Int32) (btf : Nat → Int64) (rsf : Nat → Int32) (juf : Nat → Int32) (lof : Nat → Int64) (hif : Nat → Int64) (wef : Nat → Int32) (dpf : Nat → Int32) (h_S : zz_SI na ne dpf saf lnf) (h_R : zz_RI na nr juf saf lnf) : zz_L g yX8_score (.code yX8_score cX8_score 4 (some .long)) rm_my_score [.ref h0] [cw_k7 h0 (nI na) (nI ne) a_kindOf a_depthOf a_lengthOf a_classOf a_baseOf a_bits a_pinned i_code a_lengths a_stackArray a_stackOther a_stackAt i_lastArray i_lastPlace a_path a_held a_alike a_hashes (nI nd) a_decisionArray a_decisionPlace a_candidateMany a_candidates (nI nr) a_ruleSort a_ruleArray a_ruleWeight a_ruleLow a_ruleHigh a_chosen a_bestOf (nI nm) a_markElements a_markBits a_markPins, cw_i g a_kindOf 60 kdf, cw_i g a_lengthOf 60 lnf, cw_i g a_baseOf 60 saf, cw_l g a_bits 4000 btf, cw_i g a_ruleSort 12 rsf, cw_i g a_ruleArray 12 juf, cw_l g a_ruleLow 12 lof, cw_l g a_ruleHigh 12 hif, cw_i g a_ruleWeight 12 wef] (po_my_score g h0 a_kindOf a_depthOf a_lengthOf a_classOf a_baseOf a_bits a_pinned a_lengths a_stackArray a_stackOther a_stackAt a_path a_held a_alike a_hashes a_decisionArray a_decisionPlace a_candidateMany a_candidates a_ruleSort a_ruleArray a_ruleWeight a_ruleLow a_ruleHigh a_chosen a_bestOf a_markElements a_markBits a_markPins na ne nd nr nm i_code i_lastArray i_lastPlace kdf lnf saf btf rsf juf lof hif wef dpf h_S h_R) := by
  refine zz_L.intro (own := RX8) (cc := cX8_score) (nL := 4) (by decide) rfl (Nat.le_of_ble_eq_true rfl) ?_
  intro p l e s m args below meth c A H locs ls hC hnm hs hZ hl
  obtain ⟨hx, hb, hml, hown, hts, hr, hlocks, hK⟩ := id hC
  have hl : lv_has ls 4 [(0, .ref h0)] := hl
  have hZ : zz_Z g A s.heap [cw_k7 h0 (nI na) (nI ne) a_kindOf a_depthOf a_lengthOf a_classOf a_baseOf a_bits a_pinned i_code a_lengths a_stackArray a_stackOther a_stackAt i_lastArray i_lastPlace a_path a_held a_alike a_hashes (nI nd) a_decisionArray a_decisionPlace a_candidateMany a_candidates (nI nr) a_ruleSort a_ruleArray a_ruleWeight a_ruleLow a_ruleHigh a_chosen a_bestOf (nI nm) a_markElements a_markBits a_markPins, cw_i g a_kindOf 60 kdf, cw_i g a_lengthOf 60 lnf, cw_i g a_baseOf 60 saf, cw_l g a_bits 4000 btf, cw_i g a_ruleSort 12 rsf, cw_i g a_ruleArray 12 juf, cw_l g a_ruleLow 12 lof, cw_l g a_ruleHigh 12 hif, cw_i g a_ruleWeight 12 wef] H locs := hZ
  have hna := h_S.1
  have hne := h_S.2.1
  have hr12 := h_R.1
  refine lv_lconst (v := 0) hx hb dX8_score_0 (by decide) ?_
  refine lv_lstore_n (lv' := [(1, .long 0), (0, .ref h0)]) hx hb dX8_score_1 rfl hl (by decide) rfl (fun ls hl => ?_)
  refine lv_iconst (v := 0) hx hb dX8_score_2 (by decide) ?_
  refine lv_istore_n (lv' := [(3, .int 0), (1, .long 0), (0, .ref h0)]) hx hb dX8_score_3 rfl hl (by decide) rfl (fun ls hl => ?_)
  have LP1 : ∀ (N : Nat) (i : Nat) (w : Int64) (H : Heap) (locs : List Loc) (ls : Array Slot), (i ≤ nr) → (sp_ts kdf btf rsf juf wef lof hif saf lnf nr 0 0 = sp_ts kdf btf rsf juf wef lof hif saf lnf (nr - i) i w) → (nr - i) < N → zz_Z g A s.heap [cw_k7 h0 (nI na) (nI ne) a_kindOf a_depthOf a_lengthOf a_classOf a_baseOf a_bits a_pinned i_code a_lengths a_stackArray a_stackOther a_stackAt i_lastArray i_lastPlace a_path a_held a_alike a_hashes (nI nd) a_decisionArray a_decisionPlace a_candidateMany a_candidates (nI nr) a_ruleSort a_ruleArray a_ruleWeight a_ruleLow a_ruleHigh a_chosen a_bestOf (nI nm) a_markElements a_markBits a_markPins, cw_i g a_kindOf 60 kdf, cw_i g a_lengthOf 60 lnf, cw_i g a_baseOf 60 saf, cw_l g a_bits 4000 btf, cw_i g a_ruleSort 12 rsf, cw_i g a_ruleArray 12 juf, cw_l g a_ruleLow 12 lof, cw_l g a_ruleHigh 12 hif, cw_i g a_ruleWeight 12 wef] H locs → lv_has ls 4 [(3, .int (nI i)), (1, .long w), (0, .ref h0)] → W p l e rm_my_score s m args below meth c H locs 0 0 (zz_QL below g args s A rm_my_score.cells rm_my_score.slots (po_my_score g h0 a_kindOf a_depthOf a_lengthOf a_classOf a_baseOf a_bits a_pinned a_lengths a_stackArray a_stackOther a_stackAt a_path a_held a_alike a_hashes a_decisionArray a_decisionPlace a_candidateMany a_candidates a_ruleSort a_ruleArray a_ruleWeight a_ruleLow a_ruleHigh a_chosen a_bestOf a_markElements a_markBits a_markPins na ne nd nr nm i_code i_lastArray i_lastPlace kdf lnf saf btf rsf juf lof hif wef dpf h_S h_R)) (F0 m 4 ls []) := by
    intro N
    induction N with
    | zero =>
      intro i w H locs ls hi he hN
      exact absurd hN (Nat.not_lt_zero _)
    | succ N ih =>
      intro i w H locs ls hi he hN hZ hl
      refine lv_iload_n hx hb dX8_score_4 rfl (lv_at hl 0 rfl) ?_
      refine lv_aload_n hx hb dX8_score_5 rfl (lv_at hl 2 rfl) ?_
      refine zz_get hC hZ 0 rfl zf_X8_265 rfl dX8_score_6 ?_
      have bd3 : nr < 2 ^ 31 := by omega
      have bd4 : i < 2 ^ 31 := by omega
      refine lv_icmp_ge (tgt := 34) hx hb dX8_score_9 (by decide) (fun c2 => ?_) (fun c2 => ?_)
      · have nc2 : nr ≤ i := (nI_leI bd3 bd4).mp (show nI (nr) ≤ nI (i) from c2)
        refine lv_lload_n hx hb dX8_score_34 rfl (lv_at hl 1 rfl) ?_
        exact zz_lret hC hZ (⟨by rw [he, show nr - i = 0 by omega, sp_ts], rfl⟩) (Nat.le_of_ble_eq_true rfl) (Nat.le_of_ble_eq_true rfl) dX8_score_35
      · have nc2 : ¬ nr ≤ i := fun zq => c2 (show nI (nr) ≤ nI (i) from (nI_leI bd3 bd4).mpr zq)
        obtain ⟨a, sz, lz, e_j, ha, ha6, e_s, e_l, hb1, hb2⟩ := h_R.2 i (by omega)
        refine lv_lload_n hx hb dX8_score_12 rfl (lv_at hl 1 rfl) ?_
        refine lv_aload_n hx hb dX8_score_13 rfl (lv_at hl 2 rfl) ?_
        refine zz_get hC hZ 0 rfl zf_X8_75 rfl dX8_score_14 ?_
        refine lv_iload_n hx hb dX8_score_17 rfl (lv_at hl 0 rfl) ?_
        have bd5 : i < 12 := by omega
        refine zz_ialdn hC hZ 9 rfl bd5 (by decide) dX8_score_18 ?_
        refine lv_i2l hx hb dX8_score_19 rfl ?_
        refine lv_aload_n hx hb dX8_score_20 rfl (lv_at hl 2 rfl) ?_
        refine lv_iload_n hx hb dX8_score_21 rfl (lv_at hl 0 rfl) ?_
        refine zz_lV (As := [.int (nI i)]) (wc := [cw_k7 h0 (nI na) (nI ne) a_kindOf a_depthOf a_lengthOf a_classOf a_baseOf a_bits a_pinned i_code a_lengths a_stackArray a_stackOther a_stackAt i_lastArray i_lastPlace a_path a_held a_alike a_hashes (nI nd) a_decisionArray a_decisionPlace a_candidateMany a_candidates (nI nr) a_ruleSort a_ruleArray a_ruleWeight a_ruleLow a_ruleHigh a_chosen a_bestOf (nI nm) a_markElements a_markBits a_markPins, cw_i g a_kindOf 60 kdf, cw_i g a_lengthOf 60 lnf, cw_i g a_baseOf 60 saf, cw_l g a_bits 4000 btf, cw_i g a_ruleSort 12 rsf, cw_i g a_ruleArray 12 juf, cw_l g a_ruleLow 12 lof, cw_l g a_ruleHigh 12 hif]) (wr := [cw_i g a_ruleWeight 12 wef]) (rest := [.long ((wef i).toInt64), .long w]) hC hZ hs hl zc_X8_281 (cm_amountOf g h0 a_kindOf a_depthOf a_lengthOf a_classOf a_baseOf a_bits a_pinned a_lengths a_stackArray a_stackOther a_stackAt a_path a_held a_alike a_hashes a_decisionArray a_decisionPlace a_candidateMany a_candidates a_ruleSort a_ruleArray a_ruleWeight a_ruleLow a_ruleHigh a_chosen a_bestOf a_markElements a_markBits a_markPins na ne nd nr nm i_code i_lastArray i_lastPlace kdf lnf saf btf rsf juf lof hif i a sz lz (by omega) (e_j) (e_s) (e_l)) [0, 1, 2, 3, 4, 5, 6, 7, 8] [9] rfl rfl (by decide +kernel) (ci := 7) (q0 := 0) rfl rfl rfl rfl (Nat.le_of_ble_eq_true rfl) ⟨⟨Nat.le_of_ble_eq_true rfl, Nat.le_of_ble_eq_true rfl⟩, Nat.le_of_ble_eq_true rfl, Nat.le_of_ble_eq_true rfl⟩ dX8_score_22 (fun r6 u7 H locs hp hZ => ?_)
        obtain ⟨rfl, rfl⟩ := hp
        have hZ : zz_Z g A s.heap [cw_i g a_ruleWeight 12 wef, cw_k7 h0 (nI na) (nI ne) a_kindOf a_depthOf a_lengthOf a_classOf a_baseOf a_bits a_pinned i_code a_lengths a_stackArray a_stackOther a_stackAt i_lastArray i_lastPlace a_path a_held a_alike a_hashes (nI nd) a_decisionArray a_decisionPlace a_candidateMany a_candidates (nI nr) a_ruleSort a_ruleArray a_ruleWeight a_ruleLow a_ruleHigh a_chosen a_bestOf (nI nm) a_markElements a_markBits a_markPins, cw_i g a_kindOf 60 kdf, cw_i g a_lengthOf 60 lnf, cw_i g a_baseOf 60 saf, cw_l g a_bits 4000 btf, cw_i g a_ruleSort 12 rsf, cw_i g a_ruleArray 12 juf, cw_l g a_ruleLow 12 lof, cw_l g a_ruleHigh 12 hif] H locs := hZ
        refine lv_lmul hx hb dX8_score_25 ?_
        refine lv_ladd hx hb dX8_score_26 ?_
        refine lv_lstore_n (lv' := [(1, .long (w + (((wef i).toInt64) * (fn_cm_amountOf kdf btf rsf lof hif i a sz lz)))), (3, .int (nI i)), (0, .ref h0)]) hx hb dX8_score_27 rfl hl (by decide) rfl (fun ls hl => ?_)
        refine lv_iinc (v := nI (i + 1)) (lv' := [(3, .int (nI (i + 1))), (1, .long (w + (((wef i).toInt64) * (fn_cm_amountOf kdf btf rsf lof hif i a sz lz)))), (0, .ref h0)]) hx hb dX8_score_28 hl (k := 1) rfl (nI_1 _) (by decide) rfl (fun ls hl => ?_)
        refine lv_goto (tgt := 4) hx hb dX8_score_31 (by decide) ?_
        exact ih (i + 1) (w + (((wef i).toInt64) * (fn_cm_amountOf kdf btf rsf lof hif i a sz lz))) H locs ls (by omega) (by rw [he, show nr - i = (nr - (i + 1)) + 1 by omega, sp_ts, show (juf i).toNatClampNeg = a by rw [e_j]; exact nI_clamp (by omega), show (saf a).toNatClampNeg = sz by rw [e_s]; exact nI_clamp (by omega), show (lnf a).toNatClampNeg = lz by rw [e_l]; exact nI_clamp (by omega)]) (by omega) (hZ.sub [1, 2, 3, 4, 5, 6, 7, 8, 9, 0] (by decide +kernel) rfl) (lv_sub hl [0, 1, 2] rfl)
  exact LP1 _ 0 0 H locs ls (by omega) (rfl) (Nat.lt_succ_self _) hZ (lv_sub hl [0, 1, 2] rfl)
def zz_cM (pn sa da dq co : Nat → Int32) : Nat → Nat := fun d => zz_ch pn (co d).toNatClampNeg ((sa (da d).toNatClampNeg).toNatClampNeg + (dq d).toNatClampNeg)
theorem zl_cM {pn sa da dq co : Nat → Int32} {d b q sz n : Nat} (ea : da d = nI b) (eq : dq d = nI q) (es : sa b = nI sz) (ec : co d = nI n) (h1 : b < 60) (h2 : q < 200) (h3 : sz ≤ 4000) (h4 : n ≤ 16) : zz_cM pn sa da dq co d = zz_ch pn n (sz + q) := by
  show zz_ch pn (co d).toNatClampNeg ((sa (da d).toNatClampNeg).toNatClampNeg + (dq d).toNatClampNeg) = _
  rw [ec, ea, nI_clamp (show b < 2 ^ 31 by omega), es, eq, nI_clamp (show n < 2 ^ 31 by omega), nI_clamp (show sz < 2 ^ 31 by omega), nI_clamp (show q < 2 ^ 31 by omega)]
theorem zl_chP {pn : Nat → Int32} {n z : Nat} (h : ¬ pn z = 0) : 1 = zz_ch pn n z := by
  unfold zz_ch
  by_cases e : n = 0
  · rw [if_pos e]
  · rw [if_neg e, if_neg h]
theorem zl_ch0 {pn : Nat → Int32} {n z : Nat} (h : n = 0) : 1 = zz_ch pn n z := by rw [zz_ch, if_pos h]
theorem zl_chM {pn : Nat → Int32} {n z : Nat} (h : ¬ n = 0) (p : pn z = 0) : n = zz_ch pn n z := by rw [zz_ch, if_neg h, if_pos p]
theorem zl_lle5 {x : Nat} (hx : x < 2 ^ 40) (h : lN x ≤ 5000) : x ≤ 5000 := by
  have h' : ¬ (5000 : Int64) < lN x := by
    rw [Int64.lt_iff_toInt_lt]; rw [Int64.le_iff_toInt_le] at h; omega
  rw [show (5000 : Int64) = lN 5000 by decide, pk_lLT (by decide) (by omega)] at h'
  omega
theorem zl_lgt5 {x : Nat} (hx : x < 2 ^ 40) (h : ¬ lN x ≤ 5000) : 5000 < x := by
  have h' : (5000 : Int64) < lN x := by
    rw [Int64.le_iff_toInt_le] at h; rw [Int64.lt_iff_toInt_lt]; omega
  rw [show (5000 : Int64) = lN 5000 by decide, pk_lLT (by decide) (by omega)] at h'
  exact h'
/-- the reference goes on behind 5000, and stays there -/
def zz_wM (c : Nat → Nat) (nd i w : Nat) : Prop := (w ≤ 5000 ∧ zz_wy c nd 0 1 = zz_wy c (nd - i) i w) ∨ (w = 5001 ∧ zz_wy c nd 0 1 = 5001)
theorem zl_wM1 {c : Nat → Nat} {nd i w cn : Nat} (h : zz_wM c nd i w) (hi : i < nd) (e : cn = c i) (h1 : 1 ≤ cn) (hl : w * cn ≤ 5000) : zz_wM c nd (i + 1) (w * cn) := by
  rcases h with ⟨h2, h3⟩ | ⟨h2, h3⟩
  · exact Or.inl ⟨hl, by rw [h3, show nd - i = (nd - (i + 1)) + 1 by omega, zl_wyS (by rw [← e]; omega), ← e]⟩
  · rw [h2] at hl; omega
theorem zl_wM2 {c : Nat → Nat} {nd i w cn : Nat} (h : zz_wM c nd i w) (hi : i < nd) (e : cn = c i) (hl : 5000 < w * cn) : zz_wM c nd (i + 1) 5001 := by
  rcases h with ⟨h2, h3⟩ | ⟨h2, h3⟩
  · exact Or.inr ⟨rfl, by rw [h3, show nd - i = (nd - (i + 1)) + 1 by omega, zl_wyB (by rw [← e]; exact hl)]⟩
  · exact Or.inr ⟨rfl, h3⟩
theorem zl_wME {c : Nat → Nat} {nd i w : Nat} (h : zz_wM c nd i w) (hi : i = nd) : (lN w).toInt32 = nI (zz_wy c nd 0 1) := by
  rw [lN_i]
  rcases h with ⟨h2, h3⟩ | ⟨h2, h3⟩
  · rw [h3, show nd - i = 0 by omega, zz_wy]
  · rw [h3, h2]
/-- where a decision's element lies, of the reference -/
def zz_sM (sa da dq : Nat → Int32) : Nat → Int32 := fun d => nI ((sa (da d).toNatClampNeg).toNatClampNeg + (dq d).toNatClampNeg)
theorem zl_sMe {sa da dq : Nat → Int32} {d b q sz : Nat} (ea : da d = nI b) (eq : dq d = nI q) (es : sa b = nI sz) (h1 : b < 60) (h2 : q < 200) (h3 : sz ≤ 4000) : (zz_sM sa da dq d).toNatClampNeg = sz + q := by
  show (nI ((sa (da d).toNatClampNeg).toNatClampNeg + (dq d).toNatClampNeg)).toNatClampNeg = _
  rw [ea, nI_clamp (show b < 2 ^ 31 by omega), es, eq, nI_clamp (show sz < 2 ^ 31 by omega), nI_clamp (show q < 2 ^ 31 by omega), nI_clamp (by omega)]
theorem zl_cMX {pn sa da dq co : Nat → Int32} {d b q sz n : Nat} (ea : da d = nI b) (eq : dq d = nI q) (es : sa b = nI sz) (ec : co d = nI n) (h1 : b < 60) (h2 : q < 200) (h3 : sz ≤ 4000) (h4 : n ≤ 16) : zz_cM pn sa da dq co d = zz_cX pn (zz_sM sa da dq) co d := by
  rw [zl_cM ea eq es ec h1 h2 h3 h4]
  show _ = zz_ch pn (co d).toNatClampNeg (zz_sM sa da dq d).toNatClampNeg
  rw [zl_sMe ea eq es h1 h2 h3, ec, nI_clamp (show n < 2 ^ 31 by omega)]
/-- one choice laid -/
def zz_ly (pn sl co : Nat → Int32) (ca : Nat → Int64) (d t : Nat) (bt : Nat → Int64) : Nat → Int64 := if fn_co_isFree pn (co d).toNatClampNeg (sl d).toNatClampNeg = 0 then bt else vp_updL bt (sl d).toNatClampNeg (ca (d * 16 + t))
theorem zl_fr0 {pn : Nat → Int32} {n z : Nat} (h : ¬ pn z = 0) : fn_co_isFree pn n z = 0 := by
  unfold fn_co_isFree
  rw [if_neg h, ite_self]
theorem zl_frn {pn : Nat → Int32} {z : Nat} : fn_co_isFree pn 0 z = 0 := by
  unfold fn_co_isFree
  rw [if_pos (by decide)]
theorem zl_ar02 {S : Nat → Int64} {i : Nat} {s : Int64} (z : i = 0) (e : s = S i) : (i, s) = zz_ar S (i + 1 - 1) := by
  subst z; exact Prod.ext rfl e
theorem zl_fr1 {pn : Nat → Int32} {n z : Nat} (hn : n ≤ 16) (h0 : 0 < n) (h : pn z = 0) : ¬ fn_co_isFree pn n z = 0 := by
  unfold fn_co_isFree
  rw [if_neg (show ¬ nI n ≤ 0 from fun q => absurd ((nI_leI (a := n) (b := 0) (by omega) (by decide)).mp q) (by omega)), if_pos h]
  decide
theorem zl_tkS {pn sl co : Nat → Int32} {ca : Nat → Int64} {D l : Nat} {bt : Nat → Int64} (h : (co D).toNatClampNeg ≤ 16) : sp_tkw pn sl co ca (D + 1) l bt = sp_tkw pn sl co ca D (l / zz_cX pn sl co D) (zz_ly pn sl co ca D (l % zz_cX pn sl co D) bt) := by
  rw [sp_tkw, zz_ly]
  by_cases f : fn_co_isFree pn (co D).toNatClampNeg (sl D).toNatClampNeg = 0
  · have c1 : zz_cX pn sl co D = 1 := zl_ch1 h f
    rw [if_pos f, if_pos f, c1, Nat.div_one]
  · have c1 : zz_cX pn sl co D = (co D).toNatClampNeg := zl_chN h f
    rw [if_neg f, if_neg f, c1]
theorem zz_WB.ext {pn sl co : Nat → Int32} {ca : Nat → Int64} {nd i t : Nat} {bto bt : Nat → Int64} {tu : Nat → Int32} (h : zz_WB pn sl co ca i bto tu bt) (hI : zz_SD nd sl) (hi : i < nd) (e : tu i = nI t) (ht : t < 16) : zz_WB pn sl co ca (i + 1) bto tu (zz_ly pn sl co ca i t bt) := by
  unfold zz_ly
  by_cases f : fn_co_isFree pn (co i).toNatClampNeg (sl i).toNatClampNeg = 0
  · rw [if_pos f]
    exact ⟨fun d hd hf => h.1 d (by
      have : d ≠ i := fun z => hf (z ▸ f)
      omega) hf, fun j hj => h.2 j (fun d hd => hj d (by omega))⟩
  · rw [if_neg f]
    refine ⟨fun d hd hf => ?_, fun j hj => ?_⟩
    · by_cases z : d = i
      · subst z; rw [pk_uLs, e, nI_clamp (by omega)]
      · rw [pk_uLn (fun y => z (hI d i (by omega) hi y))]; exact h.1 d (by omega) hf
    · rw [pk_uLn (fun y => hj i (Nat.lt_succ_self i) f y.symm)]; exact h.2 j (fun d hd => hj d (by omega))
theorem zl_MD16 {na nd : Nat} {dp sa ln da dq co : Nat → Int32} (h : zz_MD na nd dp sa ln da dq co) : ∀ d, d < nd → (co d).toNatClampNeg ≤ 16 := fun d hd => by
  obtain ⟨b, q, sz, lz, n, e1, e2, e3, e4, e5, e6, e7, e8, e9, e10, e11, e12⟩ := h.2 d hd
  rw [e11, nI_clamp (by omega)]; exact e12
theorem dg_X8_choices_0 : (decode cX8_choices 0 = .ok (.aload_n 0, 1)) ∧ (decode cX8_choices 1 = .ok (.getfield 29, 3)) ∧ (decode cX8_choices 4 = .ok (.aload_n 0, 1)) ∧ (decode cX8_choices 5 = .ok (.iload_n 1, 1)) ∧ (decode cX8_choices 6 = .ok (.invokevirtual 258, 3)) ∧ (decode cX8_choices 9 = .ok (.baload, 1)) ∧ (decode cX8_choices 10 = .ok (.ifCond .ne 12, 3)) ∧ (decode cX8_choices 13 = .ok (.aload_n 0, 1)) ∧ (decode cX8_choices 14 = .ok (.getfield 63, 3)) ∧ (decode cX8_choices 17 = .ok (.iload_n 1, 1)) ∧ (decode cX8_choices 18 = .ok (.iaload, 1)) ∧ (decode cX8_choices 19 = .ok (.ifCond .ne 7, 3)) ∧ (decode cX8_choices 22 = .ok (.iconst 1, 1)) ∧ (decode cX8_choices 23 = .ok (.goto 9, 3)) ∧ (decode cX8_choices 26 = .ok (.aload_n 0, 1)) ∧ (decode cX8_choices 27 = .ok (.getfield 63, 3)) := by decide +kernel
theorem dX8_choices_0 : decode cX8_choices 0 = .ok (.aload_n 0, 1) := dg_X8_choices_0.1
theorem dX8_choices_1 : decode cX8_choices 1 = .ok (.getfield 29, 3) := dg_X8_choices_0.2.1
theorem dX8_choices_4 : decode cX8_choices 4 = .ok (.aload_n 0, 1) := dg_X8_choices_0.2.2.1
theorem dX8_choices_5 : decode cX8_choices 5 = .ok (.iload_n 1, 1) := dg_X8_choices_0.2.2.2.1
theorem dX8_choices_6 : decode cX8_choices 6 = .ok (.invokevirtual 258, 3) := dg_X8_choices_0.2.2.2.2.1
theorem dX8_choices_9 : decode cX8_choices 9 = .ok (.baload, 1) := dg_X8_choices_0.2.2.2.2.2.1
theorem dX8_choices_10 : decode cX8_choices 10 = .ok (.ifCond .ne 12, 3) := dg_X8_choices_0.2.2.2.2.2.2.1
theorem dX8_choices_13 : decode cX8_choices 13 = .ok (.aload_n 0, 1) := dg_X8_choices_0.2.2.2.2.2.2.2.1
theorem dX8_choices_14 : decode cX8_choices 14 = .ok (.getfield 63, 3) := dg_X8_choices_0.2.2.2.2.2.2.2.2.1
theorem dX8_choices_17 : decode cX8_choices 17 = .ok (.iload_n 1, 1) := dg_X8_choices_0.2.2.2.2.2.2.2.2.2.1
theorem dX8_choices_18 : decode cX8_choices 18 = .ok (.iaload, 1) := dg_X8_choices_0.2.2.2.2.2.2.2.2.2.2.1
theorem dX8_choices_19 : decode cX8_choices 19 = .ok (.ifCond .ne 7, 3) := dg_X8_choices_0.2.2.2.2.2.2.2.2.2.2.2.1
theorem dX8_choices_22 : decode cX8_choices 22 = .ok (.iconst 1, 1) := dg_X8_choices_0.2.2.2.2.2.2.2.2.2.2.2.2.1
theorem dX8_choices_23 : decode cX8_choices 23 = .ok (.goto 9, 3) := dg_X8_choices_0.2.2.2.2.2.2.2.2.2.2.2.2.2.1
theorem dX8_choices_26 : decode cX8_choices 26 = .ok (.aload_n 0, 1) := dg_X8_choices_0.2.2.2.2.2.2.2.2.2.2.2.2.2.2.1
theorem dX8_choices_27 : decode cX8_choices 27 = .ok (.getfield 63, 3) := dg_X8_choices_0.2.2.2.2.2.2.2.2.2.2.2.2.2.2.2
theorem dg_X8_choices_30 : (decode cX8_choices 30 = .ok (.iload_n 1, 1)) ∧ (decode cX8_choices 31 = .ok (.iaload, 1)) ∧ (decode cX8_choices 32 = .ok (.ireturn, 1)) := by decide +kernel
theorem dX8_choices_30 : decode cX8_choices 30 = .ok (.iload_n 1, 1) := dg_X8_choices_30.1
theorem dX8_choices_31 : decode cX8_choices 31 = .ok (.iaload, 1) := dg_X8_choices_30.2.1
theorem dX8_choices_32 : decode cX8_choices 32 = .ok (.ireturn, 1) := dg_X8_choices_30.2.2
abbrev rm_cm_choices : Room := { frames := 1, cells := 0, slots := 0, locals := 21 }
abbrev po_cm_choices (g : zz_G) (h0 : Nat) (a_kindOf : Nat) (a_depthOf : Nat) (a_lengthOf : Nat) (a_classOf : Nat) (a_baseOf : Nat) (a_bits : Nat) (a_pinned : Nat) (a_lengths : Nat) (a_stackArray : Nat) (a_stackOther : Nat) (a_stackAt : Nat) (a_path : Nat) (a_held : Nat) (a_alike : Nat) (a_hashes : Nat) (a_decisionArray : Nat) (a_decisionPlace : Nat) (a_candidateMany : Nat) (a_candidates : Nat) (a_ruleSort : Nat) (a_ruleArray : Nat) (a_ruleWeight : Nat) (a_ruleLow : Nat) (a_ruleHigh : Nat) (a_chosen : Nat) (a_bestOf : Nat) (a_markElements : Nat) (a_markBits : Nat) (a_markPins : Nat) (na : Nat) (ne : Nat) (nd : Nat) (nr : Nat) (nm : Nat) (i_code : Int32) (i_lastArray : Int32) (i_lastPlace : Int32) (saf : Nat → Int32) (pnf : Nat → Int32) (daf : Nat → Int32) (dqf : Nat → Int32) (cof : Nat → Int32) (dpf : Nat → Int32) (lnf : Nat → Int32) (d : Nat) (hd : d < nd) (h_D : zz_MD na nd dpf saf lnf daf dqf cof) : Int32 → va_W → Prop := fun (r : Int32) (u : va_W) => ∃ (cn : Nat), (r = nI cn) ∧ (1 ≤ cn ∧ cn ≤ 16) ∧ (cn = zz_cM pnf saf daf dqf cof d) ∧ (cn = zz_cX pnf (zz_sM saf daf dqf) cof d) ∧ u = [cw_k7 h0 (nI na) (nI ne) a_kindOf a_depthOf a_lengthOf a_classOf a_baseOf a_bits a_pinned i_code a_lengths a_stackArray a_stackOther a_stackAt i_lastArray i_lastPlace a_path a_held a_alike a_hashes (nI nd) a_decisionArray a_decisionPlace a_candidateMany a_candidates (nI nr) a_ruleSort a_ruleArray a_ruleWeight a_ruleLow a_ruleHigh a_chosen a_bestOf (nI nm) a_markElements a_markBits a_markPins, cw_i g a_baseOf 60 saf, cw_z g a_pinned 4000 pnf, cw_i g a_decisionArray 24 daf, cw_i g a_decisionPlace 24 dqf, cw_i g a_candidateMany 24 cof]
set_option maxHeartbeats 4000000 in
set_option maxRecDepth 100000 in
theorem cm_choices (g : zz_G) (h0 : Nat) (a_kindOf : Nat) (a_depthOf : Nat) (a_lengthOf : Nat) (a_classOf : Nat) (a_baseOf : Nat) (a_bits : Nat) (a_pinned : Nat) (a_lengths : Nat) (a_stackArray : Nat) (a_stackOther : Nat) (a_stackAt : Nat) (a_path : Nat) (a_held : Nat) (a_alike : Nat) (a_hashes : Nat) (a_decisionArray : Nat) (a_decisionPlace : Nat) (a_candidateMany : Nat) (a_candidates : Nat) (a_ruleSort : Nat) (a_ruleArray : Nat) (a_ruleWeight : Nat) (a_ruleLow : Nat) (a_ruleHigh : Nat) (a_chosen : Nat) (a_bestOf : Nat) (a_markElements : Nat) (a_markBits : Nat) (a_markPins : Nat) (na : Nat) (ne : Nat) (nd : Nat) (nr : Nat) (nm : Nat) (i_code : Int32) (i_lastArray : Int32) (i_lastPlace : Int32) (saf : Nat → Int32) (pnf : Nat → Int32) (daf : Nat → Int32) (dqf : Nat → Int32) (cof : Nat → Int32) (dpf : Nat → Int32) (lnf : Nat → Int32) (d : Nat) (hd : d < nd) (h_D : zz_MD na nd dpf saf lnf daf dqf cof) : zz_I g yX8_choices (.code yX8_choices cX8_choices 2 (some .int)) rm_cm_choices [.ref h0, .int (nI d)] [cw_k7 h0 (nI na) (nI ne) a_kindOf a_depthOf a_lengthOf a_classOf a_baseOf a_bits a_pinned i_code a_lengths a_stackArray a_stackOther a_stackAt i_lastArray i_lastPlace a_path a_held a_alike a_hashes (nI nd) a_decisionArray a_decisionPlace a_candidateMany a_candidates (nI nr) a_ruleSort a_ruleArray a_ruleWeight a_ruleLow a_ruleHigh a_chosen a_bestOf (nI nm) a_markElements a_markBits a_markPins, cw_i g a_baseOf 60 saf, cw_z g a_pinned 4000 pnf, cw_i g a_decisionArray 24 daf, cw_i g a_decisionPlace 24 dqf, cw_i g a_candidateMany 24 cof] (po_cm_choices g h0 a_kindOf a_depthOf a_lengthOf a_classOf a_baseOf a_bits a_pinned a_lengths a_stackArray a_stackOther a_stackAt a_path a_held a_alike a_hashes a_decisionArray a_decisionPlace a_candidateMany a_candidates a_ruleSort a_ruleArray a_ruleWeight a_ruleLow a_ruleHigh a_chosen a_bestOf a_markElements a_markBits a_markPins na ne nd nr nm i_code i_lastArray i_lastPlace saf pnf daf dqf cof dpf lnf d hd h_D) := by
  refine zz_I.intro (own := RX8) (cc := cX8_choices) (nL := 2) (by decide) rfl (Nat.le_of_ble_eq_true rfl) ?_
  intro p l e s m args below meth c A H locs ls hC hnm hs hZ hl
  obtain ⟨hx, hb, hml, hown, hts, hr, hlocks, hK⟩ := id hC
  have hl : lv_has ls 2 [(0, .ref h0), (1, .int (nI d))] := hl
  have hZ : zz_Z g A s.heap [cw_k7 h0 (nI na) (nI ne) a_kindOf a_depthOf a_lengthOf a_classOf a_baseOf a_bits a_pinned i_code a_lengths a_stackArray a_stackOther a_stackAt i_lastArray i_lastPlace a_path a_held a_alike a_hashes (nI nd) a_decisionArray a_decisionPlace a_candidateMany a_candidates (nI nr) a_ruleSort a_ruleArray a_ruleWeight a_ruleLow a_ruleHigh a_chosen a_bestOf (nI nm) a_markElements a_markBits a_markPins, cw_i g a_baseOf 60 saf, cw_z g a_pinned 4000 pnf, cw_i g a_decisionArray 24 daf, cw_i g a_decisionPlace 24 dqf, cw_i g a_candidateMany 24 cof] H locs := hZ
  have hd24 := h_D.1
  obtain ⟨b, q, sz, lz, n, e_a, e_q, hbn, hb6, e_s, e_l, hb1, hb2, hq, e_d1, e_c, hn⟩ := h_D.2 d hd
  refine lv_aload_n hx hb dX8_choices_0 rfl (lv_at hl 0 rfl) ?_
  refine zz_get hC hZ 0 rfl zf_X8_29 rfl dX8_choices_1 ?_
  refine lv_aload_n hx hb dX8_choices_4 rfl (lv_at hl 0 rfl) ?_
  refine lv_iload_n hx hb dX8_choices_5 rfl (lv_at hl 1 rfl) ?_
  refine zz_iV (As := [.int (nI d)]) (wc := [cw_k7 h0 (nI na) (nI ne) a_kindOf a_depthOf a_lengthOf a_classOf a_baseOf a_bits a_pinned i_code a_lengths a_stackArray a_stackOther a_stackAt i_lastArray i_lastPlace a_path a_held a_alike a_hashes (nI nd) a_decisionArray a_decisionPlace a_candidateMany a_candidates (nI nr) a_ruleSort a_ruleArray a_ruleWeight a_ruleLow a_ruleHigh a_chosen a_bestOf (nI nm) a_markElements a_markBits a_markPins, cw_i g a_baseOf 60 saf, cw_i g a_decisionArray 24 daf, cw_i g a_decisionPlace 24 dqf]) (wr := [cw_z g a_pinned 4000 pnf, cw_i g a_candidateMany 24 cof]) (rest := [.ref a_pinned]) hC hZ hs hl zc_X8_258 (cm_elementOf g h0 a_kindOf a_depthOf a_lengthOf a_classOf a_baseOf a_bits a_pinned a_lengths a_stackArray a_stackOther a_stackAt a_path a_held a_alike a_hashes a_decisionArray a_decisionPlace a_candidateMany a_candidates a_ruleSort a_ruleArray a_ruleWeight a_ruleLow a_ruleHigh a_chosen a_bestOf a_markElements a_markBits a_markPins na ne nd nr nm i_code i_lastArray i_lastPlace saf daf dqf d b q sz (by omega) (e_a) (e_q) (e_s)) [0, 1, 3, 4] [2, 5] rfl rfl (by decide +kernel) (ci := 7) (q0 := 0) rfl rfl rfl rfl (Nat.le_of_ble_eq_true rfl) ⟨⟨Nat.le_of_ble_eq_true rfl, Nat.le_of_ble_eq_true rfl⟩, Nat.le_of_ble_eq_true rfl, Nat.le_of_ble_eq_true rfl⟩ dX8_choices_6 (fun r1 u2 H locs hp hZ => ?_)
  obtain ⟨rfl, rfl⟩ := hp
  have hZ : zz_Z g A s.heap [cw_z g a_pinned 4000 pnf, cw_i g a_candidateMany 24 cof, cw_k7 h0 (nI na) (nI ne) a_kindOf a_depthOf a_lengthOf a_classOf a_baseOf a_bits a_pinned i_code a_lengths a_stackArray a_stackOther a_stackAt i_lastArray i_lastPlace a_path a_held a_alike a_hashes (nI nd) a_decisionArray a_decisionPlace a_candidateMany a_candidates (nI nr) a_ruleSort a_ruleArray a_ruleWeight a_ruleLow a_ruleHigh a_chosen a_bestOf (nI nm) a_markElements a_markBits a_markPins, cw_i g a_baseOf 60 saf, cw_i g a_decisionArray 24 daf, cw_i g a_decisionPlace 24 dqf] H locs := hZ
  have bd3 : (sz + q) < 4000 := by omega
  refine zz_zaldn hC hZ 0 rfl bd3 (by decide) dX8_choices_9 ?_
  refine lv_if_ne (tgt := 22) hx hb dX8_choices_10 (by decide) (fun c4 => ?_) (fun c4 => ?_)
  · refine lv_iconst (v := 1) hx hb dX8_choices_22 (by decide) ?_
    refine lv_goto (tgt := 32) hx hb dX8_choices_23 (by decide) ?_
    have hZ : zz_Z g A s.heap [cw_k7 h0 (nI na) (nI ne) a_kindOf a_depthOf a_lengthOf a_classOf a_baseOf a_bits a_pinned i_code a_lengths a_stackArray a_stackOther a_stackAt i_lastArray i_lastPlace a_path a_held a_alike a_hashes (nI nd) a_decisionArray a_decisionPlace a_candidateMany a_candidates (nI nr) a_ruleSort a_ruleArray a_ruleWeight a_ruleLow a_ruleHigh a_chosen a_bestOf (nI nm) a_markElements a_markBits a_markPins, cw_i g a_baseOf 60 saf, cw_z g a_pinned 4000 pnf, cw_i g a_decisionArray 24 daf, cw_i g a_decisionPlace 24 dqf, cw_i g a_candidateMany 24 cof] H locs := hZ.sub [2, 3, 0, 4, 5, 1] (by decide +kernel) rfl
    exact zz_iret hC hZ (⟨1, rfl, by omega, (zl_chP c4).trans (zl_cM e_a e_q e_s e_c (by omega) (by omega) (by omega) (by omega)).symm, ((zl_chP c4).trans (zl_cM e_a e_q e_s e_c (by omega) (by omega) (by omega) (by omega)).symm).trans (zl_cMX e_a e_q e_s e_c (by omega) (by omega) (by omega) (by omega)), rfl⟩) (Nat.le_of_ble_eq_true rfl) (Nat.le_of_ble_eq_true rfl) dX8_choices_32
  · refine lv_aload_n hx hb dX8_choices_13 rfl (lv_at hl 0 rfl) ?_
    refine zz_get hC hZ 2 rfl zf_X8_63 rfl dX8_choices_14 ?_
    refine lv_iload_n hx hb dX8_choices_17 rfl (lv_at hl 1 rfl) ?_
    have bd5 : d < 24 := by omega
    refine zz_ialdn hC hZ 1 rfl bd5 (by decide) dX8_choices_18 ?_
    refine zz_topi (v := nI n) (e_c) ?_
    have bd7 : n < 2 ^ 31 := by omega
    refine lv_if_ne (tgt := 26) hx hb dX8_choices_19 (by decide) (fun c6 => ?_) (fun c6 => ?_)
    · have nc6 : ¬ n = 0 := fun zq => c6 (show nI (n) = nI (0) from (nI_eq bd7 (by decide)).mpr zq)
      refine lv_aload_n hx hb dX8_choices_26 rfl (lv_at hl 0 rfl) ?_
      refine zz_get hC hZ 2 rfl zf_X8_63 rfl dX8_choices_27 ?_
      refine lv_iload_n hx hb dX8_choices_30 rfl (lv_at hl 1 rfl) ?_
      refine zz_ialdn hC hZ 1 rfl bd5 (by decide) dX8_choices_31 ?_
      refine zz_topi (v := nI n) (e_c) ?_
      have hZ : zz_Z g A s.heap [cw_k7 h0 (nI na) (nI ne) a_kindOf a_depthOf a_lengthOf a_classOf a_baseOf a_bits a_pinned i_code a_lengths a_stackArray a_stackOther a_stackAt i_lastArray i_lastPlace a_path a_held a_alike a_hashes (nI nd) a_decisionArray a_decisionPlace a_candidateMany a_candidates (nI nr) a_ruleSort a_ruleArray a_ruleWeight a_ruleLow a_ruleHigh a_chosen a_bestOf (nI nm) a_markElements a_markBits a_markPins, cw_i g a_baseOf 60 saf, cw_z g a_pinned 4000 pnf, cw_i g a_decisionArray 24 daf, cw_i g a_decisionPlace 24 dqf, cw_i g a_candidateMany 24 cof] H locs := hZ.sub [2, 3, 0, 4, 5, 1] (by decide +kernel) rfl
      exact zz_iret hC hZ (⟨n, rfl, by omega, (zl_chM (by omega) c4).trans (zl_cM e_a e_q e_s e_c (by omega) (by omega) (by omega) (by omega)).symm, ((zl_chM (by omega) c4).trans (zl_cM e_a e_q e_s e_c (by omega) (by omega) (by omega) (by omega)).symm).trans (zl_cMX e_a e_q e_s e_c (by omega) (by omega) (by omega) (by omega)), rfl⟩) (Nat.le_of_ble_eq_true rfl) (Nat.le_of_ble_eq_true rfl) dX8_choices_32
    · have nc6 : n = 0 := (nI_eq bd7 (by decide)).mp (show nI (n) = nI (0) from c6)
      refine lv_iconst (v := 1) hx hb dX8_choices_22 (by decide) ?_
      refine lv_goto (tgt := 32) hx hb dX8_choices_23 (by decide) ?_
      have hZ : zz_Z g A s.heap [cw_k7 h0 (nI na) (nI ne) a_kindOf a_depthOf a_lengthOf a_classOf a_baseOf a_bits a_pinned i_code a_lengths a_stackArray a_stackOther a_stackAt i_lastArray i_lastPlace a_path a_held a_alike a_hashes (nI nd) a_decisionArray a_decisionPlace a_candidateMany a_candidates (nI nr) a_ruleSort a_ruleArray a_ruleWeight a_ruleLow a_ruleHigh a_chosen a_bestOf (nI nm) a_markElements a_markBits a_markPins, cw_i g a_baseOf 60 saf, cw_z g a_pinned 4000 pnf, cw_i g a_decisionArray 24 daf, cw_i g a_decisionPlace 24 dqf, cw_i g a_candidateMany 24 cof] H locs := hZ.sub [2, 3, 0, 4, 5, 1] (by decide +kernel) rfl
      exact zz_iret hC hZ (⟨1, rfl, by omega, (zl_ch0 (by omega)).trans (zl_cM e_a e_q e_s e_c (by omega) (by omega) (by omega) (by omega)).symm, ((zl_ch0 (by omega)).trans (zl_cM e_a e_q e_s e_c (by omega) (by omega) (by omega) (by omega)).symm).trans (zl_cMX e_a e_q e_s e_c (by omega) (by omega) (by omega) (by omega)), rfl⟩) (Nat.le_of_ble_eq_true rfl) (Nat.le_of_ble_eq_true rfl) dX8_choices_32
theorem dg_X8_ways_0 : (decode cX8_ways 0 = .ok (.lconst 1, 1)) ∧ (decode cX8_ways 1 = .ok (.lstore_n 1, 1)) ∧ (decode cX8_ways 2 = .ok (.iconst 0, 1)) ∧ (decode cX8_ways 3 = .ok (.istore_n 3, 1)) ∧ (decode cX8_ways 4 = .ok (.iload_n 3, 1)) ∧ (decode cX8_ways 5 = .ok (.aload_n 0, 1)) ∧ (decode cX8_ways 6 = .ok (.getfield 248, 3)) ∧ (decode cX8_ways 9 = .ok (.if_icmp .ge 34, 3)) ∧ (decode cX8_ways 12 = .ok (.lload_n 1, 1)) ∧ (decode cX8_ways 13 = .ok (.aload_n 0, 1)) ∧ (decode cX8_ways 14 = .ok (.iload_n 3, 1)) ∧ (decode cX8_ways 15 = .ok (.invokevirtual 285, 3)) ∧ (decode cX8_ways 18 = .ok (.i2l, 1)) ∧ (decode cX8_ways 19 = .ok (.lmul, 1)) ∧ (decode cX8_ways 20 = .ok (.lstore_n 1, 1)) ∧ (decode cX8_ways 21 = .ok (.lload_n 1, 1)) := by decide +kernel
theorem dX8_ways_0 : decode cX8_ways 0 = .ok (.lconst 1, 1) := dg_X8_ways_0.1
theorem dX8_ways_1 : decode cX8_ways 1 = .ok (.lstore_n 1, 1) := dg_X8_ways_0.2.1
theorem dX8_ways_2 : decode cX8_ways 2 = .ok (.iconst 0, 1) := dg_X8_ways_0.2.2.1
theorem dX8_ways_3 : decode cX8_ways 3 = .ok (.istore_n 3, 1) := dg_X8_ways_0.2.2.2.1
theorem dX8_ways_4 : decode cX8_ways 4 = .ok (.iload_n 3, 1) := dg_X8_ways_0.2.2.2.2.1
theorem dX8_ways_5 : decode cX8_ways 5 = .ok (.aload_n 0, 1) := dg_X8_ways_0.2.2.2.2.2.1
theorem dX8_ways_6 : decode cX8_ways 6 = .ok (.getfield 248, 3) := dg_X8_ways_0.2.2.2.2.2.2.1
theorem dX8_ways_9 : decode cX8_ways 9 = .ok (.if_icmp .ge 34, 3) := dg_X8_ways_0.2.2.2.2.2.2.2.1
theorem dX8_ways_12 : decode cX8_ways 12 = .ok (.lload_n 1, 1) := dg_X8_ways_0.2.2.2.2.2.2.2.2.1
theorem dX8_ways_13 : decode cX8_ways 13 = .ok (.aload_n 0, 1) := dg_X8_ways_0.2.2.2.2.2.2.2.2.2.1
theorem dX8_ways_14 : decode cX8_ways 14 = .ok (.iload_n 3, 1) := dg_X8_ways_0.2.2.2.2.2.2.2.2.2.2.1
theorem dX8_ways_15 : decode cX8_ways 15 = .ok (.invokevirtual 285, 3) := dg_X8_ways_0.2.2.2.2.2.2.2.2.2.2.2.1
theorem dX8_ways_18 : decode cX8_ways 18 = .ok (.i2l, 1) := dg_X8_ways_0.2.2.2.2.2.2.2.2.2.2.2.2.1
theorem dX8_ways_19 : decode cX8_ways 19 = .ok (.lmul, 1) := dg_X8_ways_0.2.2.2.2.2.2.2.2.2.2.2.2.2.1
theorem dX8_ways_20 : decode cX8_ways 20 = .ok (.lstore_n 1, 1) := dg_X8_ways_0.2.2.2.2.2.2.2.2.2.2.2.2.2.2.1
theorem dX8_ways_21 : decode cX8_ways 21 = .ok (.lload_n 1, 1) := dg_X8_ways_0.2.2.2.2.2.2.2.2.2.2.2.2.2.2.2
theorem dg_X8_ways_22 : (decode cX8_ways 22 = .ok (.ldc2_w 288, 3)) ∧ (decode cX8_ways 25 = .ok (.lcmp, 1)) ∧ (decode cX8_ways 26 = .ok (.ifCond .le 9, 3)) ∧ (decode cX8_ways 29 = .ok (.ldc2_w 290, 3)) ∧ (decode cX8_ways 32 = .ok (.goto 4, 3)) ∧ (decode cX8_ways 35 = .ok (.lload_n 1, 1)) ∧ (decode cX8_ways 36 = .ok (.lstore_n 1, 1)) ∧ (decode cX8_ways 37 = .ok (.iinc 3 1, 3)) ∧ (decode cX8_ways 40 = .ok (.goto (-36), 3)) ∧ (decode cX8_ways 43 = .ok (.lload_n 1, 1)) ∧ (decode cX8_ways 44 = .ok (.l2i, 1)) ∧ (decode cX8_ways 45 = .ok (.ireturn, 1)) := by decide +kernel
theorem dX8_ways_22 : decode cX8_ways 22 = .ok (.ldc2_w 288, 3) := dg_X8_ways_22.1
theorem dX8_ways_25 : decode cX8_ways 25 = .ok (.lcmp, 1) := dg_X8_ways_22.2.1
theorem dX8_ways_26 : decode cX8_ways 26 = .ok (.ifCond .le 9, 3) := dg_X8_ways_22.2.2.1
theorem dX8_ways_29 : decode cX8_ways 29 = .ok (.ldc2_w 290, 3) := dg_X8_ways_22.2.2.2.1
theorem dX8_ways_32 : decode cX8_ways 32 = .ok (.goto 4, 3) := dg_X8_ways_22.2.2.2.2.1
theorem dX8_ways_35 : decode cX8_ways 35 = .ok (.lload_n 1, 1) := dg_X8_ways_22.2.2.2.2.2.1
theorem dX8_ways_36 : decode cX8_ways 36 = .ok (.lstore_n 1, 1) := dg_X8_ways_22.2.2.2.2.2.2.1
theorem dX8_ways_37 : decode cX8_ways 37 = .ok (.iinc 3 1, 3) := dg_X8_ways_22.2.2.2.2.2.2.2.1
theorem dX8_ways_40 : decode cX8_ways 40 = .ok (.goto (-36), 3) := dg_X8_ways_22.2.2.2.2.2.2.2.2.1
theorem dX8_ways_43 : decode cX8_ways 43 = .ok (.lload_n 1, 1) := dg_X8_ways_22.2.2.2.2.2.2.2.2.2.1
theorem dX8_ways_44 : decode cX8_ways 44 = .ok (.l2i, 1) := dg_X8_ways_22.2.2.2.2.2.2.2.2.2.2.1
theorem dX8_ways_45 : decode cX8_ways 45 = .ok (.ireturn, 1) := dg_X8_ways_22.2.2.2.2.2.2.2.2.2.2.2
theorem zk_1110 : Cond.methodLink RX8 285 yX8_choices ∈ zz_w := zz_in (List.mem_append_right _ (List.mem_append_right _ (List.mem_append_right _ (List.mem_append_right _ (List.mem_append_right _ (List.mem_of_getElem? (i := 150) (by decide +kernel))))))) rfl
set_option maxRecDepth 20000 in
theorem zk_1113 : Cond.code yX8_choices cX8_choices 2 (some .int) ∈ zz_w := zz_in (List.mem_append_right _ (List.mem_append_right _ (List.mem_append_right _ (List.mem_append_right _ (List.mem_append_right _ (List.mem_of_getElem? (i := 153) (rfl))))))) rfl
theorem zk_1112 : Cond.instanceMethod yX8_choices ∈ zz_w := zz_in (List.mem_append_right _ (List.mem_append_right _ (List.mem_append_right _ (List.mem_append_right _ (List.mem_append_right _ (List.mem_of_getElem? (i := 152) (by decide +kernel))))))) rfl
theorem zs_34 : Cond.selects RX8 yX8_choices yX8_choices ∈ zz_w := zz_in (List.mem_append_left _ (List.mem_of_getElem? (i := 34) (by decide +kernel))) rfl
theorem zc_X8_285 : zz_cV RX8 285 yX8_choices cX8_choices 2 (some .int) 1 := ⟨⟨zk_1110, zk_1113, zk_7, by decide, by decide, by decide +kernel⟩, zk_1112, zs_34⟩
theorem zk_1114 : Cond.constantLong RX8 288 (5000) ∈ zz_w := zz_in (List.mem_append_right _ (List.mem_append_right _ (List.mem_append_right _ (List.mem_append_right _ (List.mem_append_right _ (List.mem_of_getElem? (i := 154) (by decide +kernel))))))) rfl
theorem zk_1115 : Cond.constantLong RX8 290 (5001) ∈ zz_w := zz_in (List.mem_append_right _ (List.mem_append_right _ (List.mem_append_right _ (List.mem_append_right _ (List.mem_append_right _ (List.mem_of_getElem? (i := 155) (by decide +kernel))))))) rfl
abbrev rm_cm_ways : Room := { frames := 2, cells := 0, slots := 0, locals := 42 }
abbrev po_cm_ways (g : zz_G) (h0 : Nat) (a_kindOf : Nat) (a_depthOf : Nat) (a_lengthOf : Nat) (a_classOf : Nat) (a_baseOf : Nat) (a_bits : Nat) (a_pinned : Nat) (a_lengths : Nat) (a_stackArray : Nat) (a_stackOther : Nat) (a_stackAt : Nat) (a_path : Nat) (a_held : Nat) (a_alike : Nat) (a_hashes : Nat) (a_decisionArray : Nat) (a_decisionPlace : Nat) (a_candidateMany : Nat) (a_candidates : Nat) (a_ruleSort : Nat) (a_ruleArray : Nat) (a_ruleWeight : Nat) (a_ruleLow : Nat) (a_ruleHigh : Nat) (a_chosen : Nat) (a_bestOf : Nat) (a_markElements : Nat) (a_markBits : Nat) (a_markPins : Nat) (na : Nat) (ne : Nat) (nd : Nat) (nr : Nat) (nm : Nat) (i_code : Int32) (i_lastArray : Int32) (i_lastPlace : Int32) (saf : Nat → Int32) (pnf : Nat → Int32) (daf : Nat → Int32) (dqf : Nat → Int32) (cof : Nat → Int32) (dpf : Nat → Int32) (lnf : Nat → Int32) (h_S : zz_SI na ne dpf saf lnf) (h_D : zz_MD na nd dpf saf lnf daf dqf cof) : Int32 → va_W → Prop := fun (r : Int32) (u : va_W) => (r = nI (zz_wy (zz_cM pnf saf daf dqf cof) nd 0 1)) ∧ u = [cw_k7 h0 (nI na) (nI ne) a_kindOf a_depthOf a_lengthOf a_classOf a_baseOf a_bits a_pinned i_code a_lengths a_stackArray a_stackOther a_stackAt i_lastArray i_lastPlace a_path a_held a_alike a_hashes (nI nd) a_decisionArray a_decisionPlace a_candidateMany a_candidates (nI nr) a_ruleSort a_ruleArray a_ruleWeight a_ruleLow a_ruleHigh a_chosen a_bestOf (nI nm) a_markElements a_markBits a_markPins, cw_i g a_baseOf 60 saf, cw_z g a_pinned 4000 pnf, cw_i g a_decisionArray 24 daf, cw_i g a_decisionPlace 24 dqf, cw_i g a_candidateMany 24 cof]
set_option maxHeartbeats 4000000 in
set_option maxRecDepth 100000 in
theorem cm_ways (g : zz_G) (h0 : Nat) (a_kindOf : Nat) (a_depthOf : Nat) (a_lengthOf : Nat) (a_classOf : Nat) (a_baseOf : Nat) (a_bits : Nat) (a_pinned : Nat) (a_lengths : Nat) (a_stackArray : Nat) (a_stackOther : Nat) (a_stackAt : Nat) (a_path : Nat) (a_held : Nat) (a_alike : Nat) (a_hashes : Nat) (a_decisionArray : Nat) (a_decisionPlace : Nat) (a_candidateMany : Nat) (a_candidates : Nat) (a_ruleSort : Nat) (a_ruleArray : Nat) (a_ruleWeight : Nat) (a_ruleLow : Nat) (a_ruleHigh : Nat) (a_chosen : Nat) (a_bestOf : Nat) (a_markElements : Nat) (a_markBits : Nat) (a_markPins : Nat) (na : Nat) (ne : Nat) (nd : Nat) (nr : Nat) (nm : Nat) (i_code : Int32) (i_lastArray : Int32) (i_lastPlace : Int32) (saf : Nat → Int32) (pnf : Nat → Int32) (daf : Nat → Int32) (dqf : Nat → Int32) (cof : Nat → Int32) (dpf : Nat → Int32) (lnf : Nat → Int32) (h_S : zz_SI na ne dpf saf lnf) (h_D : zz_MD na nd dpf saf lnf daf dqf cof) : zz_I g yX8_ways (.code yX8_ways cX8_ways 4 (some .int)) rm_cm_ways [.ref h0] [cw_k7 h0 (nI na) (nI ne) a_kindOf a_depthOf a_lengthOf a_classOf a_baseOf a_bits a_pinned i_code a_lengths a_stackArray a_stackOther a_stackAt i_lastArray i_lastPlace a_path a_held a_alike a_hashes (nI nd) a_decisionArray a_decisionPlace a_candidateMany a_candidates (nI nr) a_ruleSort a_ruleArray a_ruleWeight a_ruleLow a_ruleHigh a_chosen a_bestOf (nI nm) a_markElements a_markBits a_markPins, cw_i g a_baseOf 60 saf, cw_z g a_pinned 4000 pnf, cw_i g a_decisionArray 24 daf, cw_i g a_decisionPlace 24 dqf, cw_i g a_candidateMany 24 cof] (po_cm_ways g h0 a_kindOf a_depthOf a_lengthOf a_classOf a_baseOf a_bits a_pinned a_lengths a_stackArray a_stackOther a_stackAt a_path a_held a_alike a_hashes a_decisionArray a_decisionPlace a_candidateMany a_candidates a_ruleSort a_ruleArray a_ruleWeight a_ruleLow a_ruleHigh a_chosen a_bestOf a_markElements a_markBits a_markPins na ne nd nr nm i_code i_lastArray i_lastPlace saf pnf daf dqf cof dpf lnf h_S h_D) := by
  refine zz_I.intro (own := RX8) (cc := cX8_ways) (nL := 4) (by decide) rfl (Nat.le_of_ble_eq_true rfl) ?_
  intro p l e s m args below meth c A H locs ls hC hnm hs hZ hl
  obtain ⟨hx, hb, hml, hown, hts, hr, hlocks, hK⟩ := id hC
  have hl : lv_has ls 4 [(0, .ref h0)] := hl
  have hZ : zz_Z g A s.heap [cw_k7 h0 (nI na) (nI ne) a_kindOf a_depthOf a_lengthOf a_classOf a_baseOf a_bits a_pinned i_code a_lengths a_stackArray a_stackOther a_stackAt i_lastArray i_lastPlace a_path a_held a_alike a_hashes (nI nd) a_decisionArray a_decisionPlace a_candidateMany a_candidates (nI nr) a_ruleSort a_ruleArray a_ruleWeight a_ruleLow a_ruleHigh a_chosen a_bestOf (nI nm) a_markElements a_markBits a_markPins, cw_i g a_baseOf 60 saf, cw_z g a_pinned 4000 pnf, cw_i g a_decisionArray 24 daf, cw_i g a_decisionPlace 24 dqf, cw_i g a_candidateMany 24 cof] H locs := hZ
  have hna := h_S.1
  have hne := h_S.2.1
  have hd24 := h_D.1
  refine lv_lconst (v := 1) hx hb dX8_ways_0 (by decide) ?_
  refine lv_lstore_n (lv' := [(1, .long 1), (0, .ref h0)]) hx hb dX8_ways_1 rfl hl (by decide) rfl (fun ls hl => ?_)
  refine lv_iconst (v := 0) hx hb dX8_ways_2 (by decide) ?_
  refine lv_istore_n (lv' := [(3, .int 0), (1, .long 1), (0, .ref h0)]) hx hb dX8_ways_3 rfl hl (by decide) rfl (fun ls hl => ?_)
  have LP1 : ∀ (N : Nat) (i : Nat) (w : Nat) (H : Heap) (locs : List Loc) (ls : Array Slot), (i ≤ nd) → (w ≤ 5001) → (zz_wM (zz_cM pnf saf daf dqf cof) nd i w) → (nd - i) < N → zz_Z g A s.heap [cw_k7 h0 (nI na) (nI ne) a_kindOf a_depthOf a_lengthOf a_classOf a_baseOf a_bits a_pinned i_code a_lengths a_stackArray a_stackOther a_stackAt i_lastArray i_lastPlace a_path a_held a_alike a_hashes (nI nd) a_decisionArray a_decisionPlace a_candidateMany a_candidates (nI nr) a_ruleSort a_ruleArray a_ruleWeight a_ruleLow a_ruleHigh a_chosen a_bestOf (nI nm) a_markElements a_markBits a_markPins, cw_i g a_baseOf 60 saf, cw_z g a_pinned 4000 pnf, cw_i g a_decisionArray 24 daf, cw_i g a_decisionPlace 24 dqf, cw_i g a_candidateMany 24 cof] H locs → lv_has ls 4 [(3, .int (nI i)), (1, .long (lN w)), (0, .ref h0)] → W p l e rm_cm_ways s m args below meth c H locs 0 0 (zz_QI below g args s A rm_cm_ways.cells rm_cm_ways.slots (po_cm_ways g h0 a_kindOf a_depthOf a_lengthOf a_classOf a_baseOf a_bits a_pinned a_lengths a_stackArray a_stackOther a_stackAt a_path a_held a_alike a_hashes a_decisionArray a_decisionPlace a_candidateMany a_candidates a_ruleSort a_ruleArray a_ruleWeight a_ruleLow a_ruleHigh a_chosen a_bestOf a_markElements a_markBits a_markPins na ne nd nr nm i_code i_lastArray i_lastPlace saf pnf daf dqf cof dpf lnf h_S h_D)) (F0 m 4 ls []) := by
    intro N
    induction N with
    | zero =>
      intro i w H locs ls hi hw5 he hN
      exact absurd hN (Nat.not_lt_zero _)
    | succ N ih =>
      intro i w H locs ls hi hw5 he hN hZ hl
      refine lv_iload_n hx hb dX8_ways_4 rfl (lv_at hl 0 rfl) ?_
      refine lv_aload_n hx hb dX8_ways_5 rfl (lv_at hl 2 rfl) ?_
      refine zz_get hC hZ 0 rfl zf_X8_248 rfl dX8_ways_6 ?_
      have bd3 : nd < 2 ^ 31 := by omega
      have bd4 : i < 2 ^ 31 := by omega
      refine lv_icmp_ge (tgt := 43) hx hb dX8_ways_9 (by decide) (fun c2 => ?_) (fun c2 => ?_)
      · have nc2 : nd ≤ i := (nI_leI bd3 bd4).mp (show nI (nd) ≤ nI (i) from c2)
        refine lv_lload_n hx hb dX8_ways_43 rfl (lv_at hl 1 rfl) ?_
        refine lv_l2i hx hb dX8_ways_44 rfl ?_
        exact zz_iret hC hZ (⟨zl_wME he (by omega), rfl⟩) (Nat.le_of_ble_eq_true rfl) (Nat.le_of_ble_eq_true rfl) dX8_ways_45
      · have nc2 : ¬ nd ≤ i := fun zq => c2 (show nI (nd) ≤ nI (i) from (nI_leI bd3 bd4).mpr zq)
        refine lv_lload_n hx hb dX8_ways_12 rfl (lv_at hl 1 rfl) ?_
        refine lv_aload_n hx hb dX8_ways_13 rfl (lv_at hl 2 rfl) ?_
        refine lv_iload_n hx hb dX8_ways_14 rfl (lv_at hl 0 rfl) ?_
        refine zz_iV (As := [.int (nI i)]) (wc := [cw_k7 h0 (nI na) (nI ne) a_kindOf a_depthOf a_lengthOf a_classOf a_baseOf a_bits a_pinned i_code a_lengths a_stackArray a_stackOther a_stackAt i_lastArray i_lastPlace a_path a_held a_alike a_hashes (nI nd) a_decisionArray a_decisionPlace a_candidateMany a_candidates (nI nr) a_ruleSort a_ruleArray a_ruleWeight a_ruleLow a_ruleHigh a_chosen a_bestOf (nI nm) a_markElements a_markBits a_markPins, cw_i g a_baseOf 60 saf, cw_z g a_pinned 4000 pnf, cw_i g a_decisionArray 24 daf, cw_i g a_decisionPlace 24 dqf, cw_i g a_candidateMany 24 cof]) (wr := []) (rest := [.long (lN w)]) hC hZ hs hl zc_X8_285 (cm_choices g h0 a_kindOf a_depthOf a_lengthOf a_classOf a_baseOf a_bits a_pinned a_lengths a_stackArray a_stackOther a_stackAt a_path a_held a_alike a_hashes a_decisionArray a_decisionPlace a_candidateMany a_candidates a_ruleSort a_ruleArray a_ruleWeight a_ruleLow a_ruleHigh a_chosen a_bestOf a_markElements a_markBits a_markPins na ne nd nr nm i_code i_lastArray i_lastPlace saf pnf daf dqf cof dpf lnf i (by omega) (h_D)) [0, 1, 2, 3, 4, 5] [] rfl rfl (by decide +kernel) (ci := 7) (q0 := 0) rfl rfl rfl rfl (Nat.le_of_ble_eq_true rfl) ⟨⟨Nat.le_of_ble_eq_true rfl, Nat.le_of_ble_eq_true rfl⟩, Nat.le_of_ble_eq_true rfl, Nat.le_of_ble_eq_true rfl⟩ dX8_ways_15 (fun r5 u6 H locs hp hZ => ?_)
        obtain ⟨cn_7, f8, f9, f10, f11, rfl⟩ := hp
        have hZ : zz_Z g A s.heap [cw_k7 h0 (nI na) (nI ne) a_kindOf a_depthOf a_lengthOf a_classOf a_baseOf a_bits a_pinned i_code a_lengths a_stackArray a_stackOther a_stackAt i_lastArray i_lastPlace a_path a_held a_alike a_hashes (nI nd) a_decisionArray a_decisionPlace a_candidateMany a_candidates (nI nr) a_ruleSort a_ruleArray a_ruleWeight a_ruleLow a_ruleHigh a_chosen a_bestOf (nI nm) a_markElements a_markBits a_markPins, cw_i g a_baseOf 60 saf, cw_z g a_pinned 4000 pnf, cw_i g a_decisionArray 24 daf, cw_i g a_decisionPlace 24 dqf, cw_i g a_candidateMany 24 cof] H locs := hZ
        refine zz_topi (v := nI cn_7) (f8) ?_
        have hcn := f9
        have ecn := f10
        have hwn : w * cn_7 ≤ 5001 * 16 := Nat.mul_le_mul hw5 hcn.2
        refine lv_i2l hx hb dX8_ways_18 rfl ?_
        refine lv_lmul hx hb dX8_ways_19 ?_
        refine zz_topl (v := lN (w * cn_7)) (by rw [nI_l (show cn_7 < 2 ^ 31 by omega), lN_mul]) ?_
        refine lv_lstore_n (lv' := [(1, .long (lN (w * cn_7))), (3, .int (nI i)), (0, .ref h0)]) hx hb dX8_ways_20 rfl hl (by decide) rfl (fun ls hl => ?_)
        refine lv_lload_n hx hb dX8_ways_21 rfl (lv_at hl 0 rfl) ?_
        refine lv_ldc2 hx hb hown (hts _ zk_1114) dX8_ways_22 ?_
        refine zz_lcmp_le (tgt := 35) hC dX8_ways_25 dX8_ways_26 (by decide) (fun c12 => ?_) (fun c12 => ?_)
        · have hle := zl_lle5 (by omega) c12
          refine lv_lload_n hx hb dX8_ways_35 rfl (lv_at hl 0 rfl) ?_
          refine lv_lstore_n (lv' := [(1, .long (lN (w * cn_7))), (3, .int (nI i)), (0, .ref h0)]) hx hb dX8_ways_36 rfl hl (by decide) rfl (fun ls hl => ?_)
          refine lv_iinc (v := nI (i + 1)) (lv' := [(3, .int (nI (i + 1))), (1, .long (lN (w * cn_7))), (0, .ref h0)]) hx hb dX8_ways_37 hl (k := 1) rfl (nI_1 _) (by decide) rfl (fun ls hl => ?_)
          refine lv_goto (tgt := 4) hx hb dX8_ways_40 (by decide) ?_
          exact ih (i + 1) (w * cn_7) H locs ls (by omega) (by omega) (zl_wM1 he (by omega) ecn hcn.1 hle) (by omega) hZ (lv_sub hl [0, 1, 2] rfl)
        · have hgt := zl_lgt5 (by omega) c12
          refine lv_ldc2 hx hb hown (hts _ zk_1115) dX8_ways_29 ?_
          refine lv_goto (tgt := 36) hx hb dX8_ways_32 (by decide) ?_
          refine lv_lstore_n (lv' := [(1, .long 5001), (3, .int (nI i)), (0, .ref h0)]) hx hb dX8_ways_36 rfl hl (by decide) rfl (fun ls hl => ?_)
          refine lv_iinc (v := nI (i + 1)) (lv' := [(3, .int (nI (i + 1))), (1, .long 5001), (0, .ref h0)]) hx hb dX8_ways_37 hl (k := 1) rfl (nI_1 _) (by decide) rfl (fun ls hl => ?_)
          refine lv_goto (tgt := 4) hx hb dX8_ways_40 (by decide) ?_
          exact ih (i + 1) 5001 H locs ls (by omega) (by omega) (zl_wM2 he (by omega) ecn hgt) (by omega) hZ (lv_sub hl [0, 1, 2] rfl)
  exact LP1 _ 0 1 H locs ls (by omega) (by omega) (Or.inl ⟨by omega, rfl⟩) (Nat.lt_succ_self _) hZ (lv_sub hl [0, 1, 2] rfl)
theorem dg_X8_lay_0 : (decode cX8_lay 0 = .ok (.aload_n 0, 1)) ∧ (decode cX8_lay 1 = .ok (.getfield 29, 3)) ∧ (decode cX8_lay 4 = .ok (.aload_n 0, 1)) ∧ (decode cX8_lay 5 = .ok (.iload_n 1, 1)) ∧ (decode cX8_lay 6 = .ok (.invokevirtual 258, 3)) ∧ (decode cX8_lay 9 = .ok (.baload, 1)) ∧ (decode cX8_lay 10 = .ok (.ifCond .ne 33, 3)) ∧ (decode cX8_lay 13 = .ok (.aload_n 0, 1)) ∧ (decode cX8_lay 14 = .ok (.getfield 63, 3)) ∧ (decode cX8_lay 17 = .ok (.iload_n 1, 1)) ∧ (decode cX8_lay 18 = .ok (.iaload, 1)) ∧ (decode cX8_lay 19 = .ok (.ifCond .le 24, 3)) ∧ (decode cX8_lay 22 = .ok (.aload_n 0, 1)) ∧ (decode cX8_lay 23 = .ok (.getfield 25, 3)) ∧ (decode cX8_lay 26 = .ok (.aload_n 0, 1)) ∧ (decode cX8_lay 27 = .ok (.iload_n 1, 1)) := by decide +kernel
theorem dX8_lay_0 : decode cX8_lay 0 = .ok (.aload_n 0, 1) := dg_X8_lay_0.1
theorem dX8_lay_1 : decode cX8_lay 1 = .ok (.getfield 29, 3) := dg_X8_lay_0.2.1
theorem dX8_lay_4 : decode cX8_lay 4 = .ok (.aload_n 0, 1) := dg_X8_lay_0.2.2.1
theorem dX8_lay_5 : decode cX8_lay 5 = .ok (.iload_n 1, 1) := dg_X8_lay_0.2.2.2.1
theorem dX8_lay_6 : decode cX8_lay 6 = .ok (.invokevirtual 258, 3) := dg_X8_lay_0.2.2.2.2.1
theorem dX8_lay_9 : decode cX8_lay 9 = .ok (.baload, 1) := dg_X8_lay_0.2.2.2.2.2.1
theorem dX8_lay_10 : decode cX8_lay 10 = .ok (.ifCond .ne 33, 3) := dg_X8_lay_0.2.2.2.2.2.2.1
theorem dX8_lay_13 : decode cX8_lay 13 = .ok (.aload_n 0, 1) := dg_X8_lay_0.2.2.2.2.2.2.2.1
theorem dX8_lay_14 : decode cX8_lay 14 = .ok (.getfield 63, 3) := dg_X8_lay_0.2.2.2.2.2.2.2.2.1
theorem dX8_lay_17 : decode cX8_lay 17 = .ok (.iload_n 1, 1) := dg_X8_lay_0.2.2.2.2.2.2.2.2.2.1
theorem dX8_lay_18 : decode cX8_lay 18 = .ok (.iaload, 1) := dg_X8_lay_0.2.2.2.2.2.2.2.2.2.2.1
theorem dX8_lay_19 : decode cX8_lay 19 = .ok (.ifCond .le 24, 3) := dg_X8_lay_0.2.2.2.2.2.2.2.2.2.2.2.1
theorem dX8_lay_22 : decode cX8_lay 22 = .ok (.aload_n 0, 1) := dg_X8_lay_0.2.2.2.2.2.2.2.2.2.2.2.2.1
theorem dX8_lay_23 : decode cX8_lay 23 = .ok (.getfield 25, 3) := dg_X8_lay_0.2.2.2.2.2.2.2.2.2.2.2.2.2.1
theorem dX8_lay_26 : decode cX8_lay 26 = .ok (.aload_n 0, 1) := dg_X8_lay_0.2.2.2.2.2.2.2.2.2.2.2.2.2.2.1
theorem dX8_lay_27 : decode cX8_lay 27 = .ok (.iload_n 1, 1) := dg_X8_lay_0.2.2.2.2.2.2.2.2.2.2.2.2.2.2.2
theorem dg_X8_lay_28 : (decode cX8_lay 28 = .ok (.invokevirtual 258, 3)) ∧ (decode cX8_lay 31 = .ok (.aload_n 0, 1)) ∧ (decode cX8_lay 32 = .ok (.getfield 66, 3)) ∧ (decode cX8_lay 35 = .ok (.bipush 16, 2)) ∧ (decode cX8_lay 37 = .ok (.iload_n 1, 1)) ∧ (decode cX8_lay 38 = .ok (.imul, 1)) ∧ (decode cX8_lay 39 = .ok (.iload_n 2, 1)) ∧ (decode cX8_lay 40 = .ok (.iadd, 1)) ∧ (decode cX8_lay 41 = .ok (.laload, 1)) ∧ (decode cX8_lay 42 = .ok (.lastore, 1)) ∧ (decode cX8_lay 43 = .ok (.return_, 1)) := by decide +kernel
theorem dX8_lay_28 : decode cX8_lay 28 = .ok (.invokevirtual 258, 3) := dg_X8_lay_28.1
theorem dX8_lay_31 : decode cX8_lay 31 = .ok (.aload_n 0, 1) := dg_X8_lay_28.2.1
theorem dX8_lay_32 : decode cX8_lay 32 = .ok (.getfield 66, 3) := dg_X8_lay_28.2.2.1
theorem dX8_lay_35 : decode cX8_lay 35 = .ok (.bipush 16, 2) := dg_X8_lay_28.2.2.2.1
theorem dX8_lay_37 : decode cX8_lay 37 = .ok (.iload_n 1, 1) := dg_X8_lay_28.2.2.2.2.1
theorem dX8_lay_38 : decode cX8_lay 38 = .ok (.imul, 1) := dg_X8_lay_28.2.2.2.2.2.1
theorem dX8_lay_39 : decode cX8_lay 39 = .ok (.iload_n 2, 1) := dg_X8_lay_28.2.2.2.2.2.2.1
theorem dX8_lay_40 : decode cX8_lay 40 = .ok (.iadd, 1) := dg_X8_lay_28.2.2.2.2.2.2.2.1
theorem dX8_lay_41 : decode cX8_lay 41 = .ok (.laload, 1) := dg_X8_lay_28.2.2.2.2.2.2.2.2.1
theorem dX8_lay_42 : decode cX8_lay 42 = .ok (.lastore, 1) := dg_X8_lay_28.2.2.2.2.2.2.2.2.2.1
theorem dX8_lay_43 : decode cX8_lay 43 = .ok (.return_, 1) := dg_X8_lay_28.2.2.2.2.2.2.2.2.2.2
abbrev rm_cm_lay : Room := { frames := 1, cells := 0, slots := 0, locals := 21 }
abbrev po_cm_lay (g : zz_G) (h0 : Nat) (a_kindOf : Nat) (a_depthOf : Nat) (a_lengthOf : Nat) (a_classOf : Nat) (a_baseOf : Nat) (a_bits : Nat) (a_pinned : Nat) (a_lengths : Nat) (a_stackArray : Nat) (a_stackOther : Nat) (a_stackAt : Nat) (a_path : Nat) (a_held : Nat) (a_alike : Nat) (a_hashes : Nat) (a_decisionArray : Nat) (a_decisionPlace : Nat) (a_candidateMany : Nat) (a_candidates : Nat) (a_ruleSort : Nat) (a_ruleArray : Nat) (a_ruleWeight : Nat) (a_ruleLow : Nat) (a_ruleHigh : Nat) (a_chosen : Nat) (a_bestOf : Nat) (a_markElements : Nat) (a_markBits : Nat) (a_markPins : Nat) (na : Nat) (ne : Nat) (nd : Nat) (nr : Nat) (nm : Nat) (i_code : Int32) (i_lastArray : Int32) (i_lastPlace : Int32) (saf : Nat → Int32) (btf : Nat → Int64) (pnf : Nat → Int32) (daf : Nat → Int32) (dqf : Nat → Int32) (cof : Nat → Int32) (caf : Nat → Int64) (dpf : Nat → Int32) (lnf : Nat → Int32) (d : Nat) (t : Nat) (hd : d < nd) (h_t : t < 16) (h_M : zz_MI na ne dpf saf lnf btf) (h_D : zz_MD na nd dpf saf lnf daf dqf cof) : va_W → Prop := fun (u : va_W) => ∃ (bt2 : Nat → Int64), (zz_MI na ne dpf saf lnf bt2) ∧ (zz_D1 na dpf saf lnf btf bt2) ∧ (bt2 = zz_ly pnf (zz_sM saf daf dqf) cof caf d t btf) ∧ u = [cw_k7 h0 (nI na) (nI ne) a_kindOf a_depthOf a_lengthOf a_classOf a_baseOf a_bits a_pinned i_code a_lengths a_stackArray a_stackOther a_stackAt i_lastArray i_lastPlace a_path a_held a_alike a_hashes (nI nd) a_decisionArray a_decisionPlace a_candidateMany a_candidates (nI nr) a_ruleSort a_ruleArray a_ruleWeight a_ruleLow a_ruleHigh a_chosen a_bestOf (nI nm) a_markElements a_markBits a_markPins, cw_i g a_baseOf 60 saf, cw_l g a_bits 4000 bt2, cw_z g a_pinned 4000 pnf, cw_i g a_decisionArray 24 daf, cw_i g a_decisionPlace 24 dqf, cw_i g a_candidateMany 24 cof, cw_l g a_candidates 384 caf]
set_option maxHeartbeats 4000000 in
set_option maxRecDepth 100000 in
theorem cm_lay (g : zz_G) (h0 : Nat) (a_kindOf : Nat) (a_depthOf : Nat) (a_lengthOf : Nat) (a_classOf : Nat) (a_baseOf : Nat) (a_bits : Nat) (a_pinned : Nat) (a_lengths : Nat) (a_stackArray : Nat) (a_stackOther : Nat) (a_stackAt : Nat) (a_path : Nat) (a_held : Nat) (a_alike : Nat) (a_hashes : Nat) (a_decisionArray : Nat) (a_decisionPlace : Nat) (a_candidateMany : Nat) (a_candidates : Nat) (a_ruleSort : Nat) (a_ruleArray : Nat) (a_ruleWeight : Nat) (a_ruleLow : Nat) (a_ruleHigh : Nat) (a_chosen : Nat) (a_bestOf : Nat) (a_markElements : Nat) (a_markBits : Nat) (a_markPins : Nat) (na : Nat) (ne : Nat) (nd : Nat) (nr : Nat) (nm : Nat) (i_code : Int32) (i_lastArray : Int32) (i_lastPlace : Int32) (saf : Nat → Int32) (btf : Nat → Int64) (pnf : Nat → Int32) (daf : Nat → Int32) (dqf : Nat → Int32) (cof : Nat → Int32) (caf : Nat → Int64) (dpf : Nat → Int32) (lnf : Nat → Int32) (d : Nat) (t : Nat) (hd : d < nd) (h_t : t < 16) (h_M : zz_MI na ne dpf saf lnf btf) (h_D : zz_MD na nd dpf saf lnf daf dqf cof) : zz_V g yX8_lay (.code yX8_lay cX8_lay 3 none) rm_cm_lay [.ref h0, .int (nI d), .int (nI t)] [cw_k7 h0 (nI na) (nI ne) a_kindOf a_depthOf a_lengthOf a_classOf a_baseOf a_bits a_pinned i_code a_lengths a_stackArray a_stackOther a_stackAt i_lastArray i_lastPlace a_path a_held a_alike a_hashes (nI nd) a_decisionArray a_decisionPlace a_candidateMany a_candidates (nI nr) a_ruleSort a_ruleArray a_ruleWeight a_ruleLow a_ruleHigh a_chosen a_bestOf (nI nm) a_markElements a_markBits a_markPins, cw_i g a_baseOf 60 saf, cw_l g a_bits 4000 btf, cw_z g a_pinned 4000 pnf, cw_i g a_decisionArray 24 daf, cw_i g a_decisionPlace 24 dqf, cw_i g a_candidateMany 24 cof, cw_l g a_candidates 384 caf] (po_cm_lay g h0 a_kindOf a_depthOf a_lengthOf a_classOf a_baseOf a_bits a_pinned a_lengths a_stackArray a_stackOther a_stackAt a_path a_held a_alike a_hashes a_decisionArray a_decisionPlace a_candidateMany a_candidates a_ruleSort a_ruleArray a_ruleWeight a_ruleLow a_ruleHigh a_chosen a_bestOf a_markElements a_markBits a_markPins na ne nd nr nm i_code i_lastArray i_lastPlace saf btf pnf daf dqf cof caf dpf lnf d t hd h_t h_M h_D) := by
  refine zz_V.intro (own := RX8) (cc := cX8_lay) (nL := 3) (by decide) rfl (Nat.le_of_ble_eq_true rfl) ?_
  intro p l e s m args below meth c A H locs ls hC hnm hs hZ hl
  obtain ⟨hx, hb, hml, hown, hts, hr, hlocks, hK⟩ := id hC
  have hl : lv_has ls 3 [(0, .ref h0), (1, .int (nI d)), (2, .int (nI t))] := hl
  have hZ : zz_Z g A s.heap [cw_k7 h0 (nI na) (nI ne) a_kindOf a_depthOf a_lengthOf a_classOf a_baseOf a_bits a_pinned i_code a_lengths a_stackArray a_stackOther a_stackAt i_lastArray i_lastPlace a_path a_held a_alike a_hashes (nI nd) a_decisionArray a_decisionPlace a_candidateMany a_candidates (nI nr) a_ruleSort a_ruleArray a_ruleWeight a_ruleLow a_ruleHigh a_chosen a_bestOf (nI nm) a_markElements a_markBits a_markPins, cw_i g a_baseOf 60 saf, cw_l g a_bits 4000 btf, cw_z g a_pinned 4000 pnf, cw_i g a_decisionArray 24 daf, cw_i g a_decisionPlace 24 dqf, cw_i g a_candidateMany 24 cof, cw_l g a_candidates 384 caf] H locs := hZ
  have h_S := h_M.1
  have hna := h_S.1
  have hne := h_S.2.1
  have hd24 := h_D.1
  obtain ⟨b, q, sz, lz, n, e_a, e_q, hbn, hb6, e_s, e_l, hb1, hb2, hq, e_d1, e_c, hn⟩ := h_D.2 d hd
  refine lv_aload_n hx hb dX8_lay_0 rfl (lv_at hl 0 rfl) ?_
  refine zz_get hC hZ 0 rfl zf_X8_29 rfl dX8_lay_1 ?_
  refine lv_aload_n hx hb dX8_lay_4 rfl (lv_at hl 0 rfl) ?_
  refine lv_iload_n hx hb dX8_lay_5 rfl (lv_at hl 1 rfl) ?_
  refine zz_iV (As := [.int (nI d)]) (wc := [cw_k7 h0 (nI na) (nI ne) a_kindOf a_depthOf a_lengthOf a_classOf a_baseOf a_bits a_pinned i_code a_lengths a_stackArray a_stackOther a_stackAt i_lastArray i_lastPlace a_path a_held a_alike a_hashes (nI nd) a_decisionArray a_decisionPlace a_candidateMany a_candidates (nI nr) a_ruleSort a_ruleArray a_ruleWeight a_ruleLow a_ruleHigh a_chosen a_bestOf (nI nm) a_markElements a_markBits a_markPins, cw_i g a_baseOf 60 saf, cw_i g a_decisionArray 24 daf, cw_i g a_decisionPlace 24 dqf]) (wr := [cw_l g a_bits 4000 btf, cw_z g a_pinned 4000 pnf, cw_i g a_candidateMany 24 cof, cw_l g a_candidates 384 caf]) (rest := [.ref a_pinned]) hC hZ hs hl zc_X8_258 (cm_elementOf g h0 a_kindOf a_depthOf a_lengthOf a_classOf a_baseOf a_bits a_pinned a_lengths a_stackArray a_stackOther a_stackAt a_path a_held a_alike a_hashes a_decisionArray a_decisionPlace a_candidateMany a_candidates a_ruleSort a_ruleArray a_ruleWeight a_ruleLow a_ruleHigh a_chosen a_bestOf a_markElements a_markBits a_markPins na ne nd nr nm i_code i_lastArray i_lastPlace saf daf dqf d b q sz (by omega) (e_a) (e_q) (e_s)) [0, 1, 4, 5] [2, 3, 6, 7] rfl rfl (by decide +kernel) (ci := 7) (q0 := 0) rfl rfl rfl rfl (Nat.le_of_ble_eq_true rfl) ⟨⟨Nat.le_of_ble_eq_true rfl, Nat.le_of_ble_eq_true rfl⟩, Nat.le_of_ble_eq_true rfl, Nat.le_of_ble_eq_true rfl⟩ dX8_lay_6 (fun r1 u2 H locs hp hZ => ?_)
  obtain ⟨rfl, rfl⟩ := hp
  have hZ : zz_Z g A s.heap [cw_l g a_bits 4000 btf, cw_z g a_pinned 4000 pnf, cw_i g a_candidateMany 24 cof, cw_l g a_candidates 384 caf, cw_k7 h0 (nI na) (nI ne) a_kindOf a_depthOf a_lengthOf a_classOf a_baseOf a_bits a_pinned i_code a_lengths a_stackArray a_stackOther a_stackAt i_lastArray i_lastPlace a_path a_held a_alike a_hashes (nI nd) a_decisionArray a_decisionPlace a_candidateMany a_candidates (nI nr) a_ruleSort a_ruleArray a_ruleWeight a_ruleLow a_ruleHigh a_chosen a_bestOf (nI nm) a_markElements a_markBits a_markPins, cw_i g a_baseOf 60 saf, cw_i g a_decisionArray 24 daf, cw_i g a_decisionPlace 24 dqf] H locs := hZ
  have bd3 : (sz + q) < 4000 := by omega
  refine zz_zaldn hC hZ 1 rfl bd3 (by decide) dX8_lay_9 ?_
  refine lv_if_ne (tgt := 43) hx hb dX8_lay_10 (by decide) (fun c4 => ?_) (fun c4 => ?_)
  · have hZ : zz_Z g A s.heap [cw_k7 h0 (nI na) (nI ne) a_kindOf a_depthOf a_lengthOf a_classOf a_baseOf a_bits a_pinned i_code a_lengths a_stackArray a_stackOther a_stackAt i_lastArray i_lastPlace a_path a_held a_alike a_hashes (nI nd) a_decisionArray a_decisionPlace a_candidateMany a_candidates (nI nr) a_ruleSort a_ruleArray a_ruleWeight a_ruleLow a_ruleHigh a_chosen a_bestOf (nI nm) a_markElements a_markBits a_markPins, cw_i g a_baseOf 60 saf, cw_l g a_bits 4000 btf, cw_z g a_pinned 4000 pnf, cw_i g a_decisionArray 24 daf, cw_i g a_decisionPlace 24 dqf, cw_i g a_candidateMany 24 cof, cw_l g a_candidates 384 caf] H locs := hZ.sub [4, 5, 0, 1, 6, 7, 2, 3] (by decide +kernel) rfl
    exact zz_vret hC hZ (⟨btf, h_M, zz_D1.rf, by rw [zz_ly, zl_sMe e_a e_q e_s (by omega) (by omega) (by omega), show (cof d).toNatClampNeg = n by rw [e_c]; exact nI_clamp (by omega), if_pos (zl_fr0 c4)], rfl⟩) (Nat.le_of_ble_eq_true rfl) (Nat.le_of_ble_eq_true rfl) dX8_lay_43
  · refine lv_aload_n hx hb dX8_lay_13 rfl (lv_at hl 0 rfl) ?_
    refine zz_get hC hZ 4 rfl zf_X8_63 rfl dX8_lay_14 ?_
    refine lv_iload_n hx hb dX8_lay_17 rfl (lv_at hl 1 rfl) ?_
    have bd5 : d < 24 := by omega
    refine zz_ialdn hC hZ 2 rfl bd5 (by decide) dX8_lay_18 ?_
    refine zz_topi (v := nI n) (e_c) ?_
    have bd7 : n < 2 ^ 31 := by omega
    refine lv_if_le (tgt := 43) hx hb dX8_lay_19 (by decide) (fun c6 => ?_) (fun c6 => ?_)
    · have nc6 : n ≤ 0 := (nI_leI bd7 (by decide)).mp (show nI (n) ≤ nI (0) from c6)
      have hZ : zz_Z g A s.heap [cw_k7 h0 (nI na) (nI ne) a_kindOf a_depthOf a_lengthOf a_classOf a_baseOf a_bits a_pinned i_code a_lengths a_stackArray a_stackOther a_stackAt i_lastArray i_lastPlace a_path a_held a_alike a_hashes (nI nd) a_decisionArray a_decisionPlace a_candidateMany a_candidates (nI nr) a_ruleSort a_ruleArray a_ruleWeight a_ruleLow a_ruleHigh a_chosen a_bestOf (nI nm) a_markElements a_markBits a_markPins, cw_i g a_baseOf 60 saf, cw_l g a_bits 4000 btf, cw_z g a_pinned 4000 pnf, cw_i g a_decisionArray 24 daf, cw_i g a_decisionPlace 24 dqf, cw_i g a_candidateMany 24 cof, cw_l g a_candidates 384 caf] H locs := hZ.sub [4, 5, 0, 1, 6, 7, 2, 3] (by decide +kernel) rfl
      exact zz_vret hC hZ (⟨btf, h_M, zz_D1.rf, by rw [zz_ly, zl_sMe e_a e_q e_s (by omega) (by omega) (by omega), show (cof d).toNatClampNeg = n by rw [e_c]; exact nI_clamp (by omega), show n = 0 by omega, if_pos zl_frn], rfl⟩) (Nat.le_of_ble_eq_true rfl) (Nat.le_of_ble_eq_true rfl) dX8_lay_43
    · have nc6 : ¬ n ≤ 0 := fun zq => c6 (show nI (n) ≤ nI (0) from (nI_leI bd7 (by decide)).mpr zq)
      refine lv_aload_n hx hb dX8_lay_22 rfl (lv_at hl 0 rfl) ?_
      refine zz_get hC hZ 4 rfl zf_X8_25 rfl dX8_lay_23 ?_
      refine lv_aload_n hx hb dX8_lay_26 rfl (lv_at hl 0 rfl) ?_
      refine lv_iload_n hx hb dX8_lay_27 rfl (lv_at hl 1 rfl) ?_
      refine zz_iV (As := [.int (nI d)]) (wc := [cw_k7 h0 (nI na) (nI ne) a_kindOf a_depthOf a_lengthOf a_classOf a_baseOf a_bits a_pinned i_code a_lengths a_stackArray a_stackOther a_stackAt i_lastArray i_lastPlace a_path a_held a_alike a_hashes (nI nd) a_decisionArray a_decisionPlace a_candidateMany a_candidates (nI nr) a_ruleSort a_ruleArray a_ruleWeight a_ruleLow a_ruleHigh a_chosen a_bestOf (nI nm) a_markElements a_markBits a_markPins, cw_i g a_baseOf 60 saf, cw_i g a_decisionArray 24 daf, cw_i g a_decisionPlace 24 dqf]) (wr := [cw_l g a_bits 4000 btf, cw_z g a_pinned 4000 pnf, cw_i g a_candidateMany 24 cof, cw_l g a_candidates 384 caf]) (rest := [.ref a_bits]) hC hZ hs hl zc_X8_258 (cm_elementOf g h0 a_kindOf a_depthOf a_lengthOf a_classOf a_baseOf a_bits a_pinned a_lengths a_stackArray a_stackOther a_stackAt a_path a_held a_alike a_hashes a_decisionArray a_decisionPlace a_candidateMany a_candidates a_ruleSort a_ruleArray a_ruleWeight a_ruleLow a_ruleHigh a_chosen a_bestOf a_markElements a_markBits a_markPins na ne nd nr nm i_code i_lastArray i_lastPlace saf daf dqf d b q sz (by omega) (e_a) (e_q) (e_s)) [4, 5, 6, 7] [0, 1, 2, 3] rfl rfl (by decide +kernel) (ci := 7) (q0 := 0) rfl rfl rfl rfl (Nat.le_of_ble_eq_true rfl) ⟨⟨Nat.le_of_ble_eq_true rfl, Nat.le_of_ble_eq_true rfl⟩, Nat.le_of_ble_eq_true rfl, Nat.le_of_ble_eq_true rfl⟩ dX8_lay_28 (fun r8 u9 H locs hp hZ => ?_)
      obtain ⟨rfl, rfl⟩ := hp
      have hZ : zz_Z g A s.heap [cw_l g a_bits 4000 btf, cw_z g a_pinned 4000 pnf, cw_i g a_candidateMany 24 cof, cw_l g a_candidates 384 caf, cw_k7 h0 (nI na) (nI ne) a_kindOf a_depthOf a_lengthOf a_classOf a_baseOf a_bits a_pinned i_code a_lengths a_stackArray a_stackOther a_stackAt i_lastArray i_lastPlace a_path a_held a_alike a_hashes (nI nd) a_decisionArray a_decisionPlace a_candidateMany a_candidates (nI nr) a_ruleSort a_ruleArray a_ruleWeight a_ruleLow a_ruleHigh a_chosen a_bestOf (nI nm) a_markElements a_markBits a_markPins, cw_i g a_baseOf 60 saf, cw_i g a_decisionArray 24 daf, cw_i g a_decisionPlace 24 dqf] H locs := hZ
      refine lv_aload_n hx hb dX8_lay_31 rfl (lv_at hl 0 rfl) ?_
      refine zz_get hC hZ 4 rfl zf_X8_66 rfl dX8_lay_32 ?_
      refine lv_bipush (v := 16) hx hb dX8_lay_35 (by decide) ?_
      refine lv_iload_n hx hb dX8_lay_37 rfl (lv_at hl 1 rfl) ?_
      refine lv_imul hx hb dX8_lay_38 ?_
      refine zz_topi (v := nI (16 * d)) (pk_mul 16 _) ?_
      refine lv_iload_n hx hb dX8_lay_39 rfl (lv_at hl 2 rfl) ?_
      refine lv_iadd hx hb dX8_lay_40 ?_
      refine zz_topi (v := nI ((16 * d) + t)) (nI_add _ _) ?_
      have bd10 : ((16 * d) + t) < 384 := by omega
      refine zz_laldn hC hZ 3 rfl bd10 (by decide) dX8_lay_41 ?_
      refine zz_lastn hC hZ 0 rfl bd3 (by decide) dX8_lay_42 (fun H locs hZ => ?_)
      have hZ : zz_Z g A s.heap [cw_l g a_bits 4000 (vp_updL btf (sz + q) (caf ((16 * d) + t))), cw_z g a_pinned 4000 pnf, cw_i g a_candidateMany 24 cof, cw_l g a_candidates 384 caf, cw_k7 h0 (nI na) (nI ne) a_kindOf a_depthOf a_lengthOf a_classOf a_baseOf a_bits a_pinned i_code a_lengths a_stackArray a_stackOther a_stackAt i_lastArray i_lastPlace a_path a_held a_alike a_hashes (nI nd) a_decisionArray a_decisionPlace a_candidateMany a_candidates (nI nr) a_ruleSort a_ruleArray a_ruleWeight a_ruleLow a_ruleHigh a_chosen a_bestOf (nI nm) a_markElements a_markBits a_markPins, cw_i g a_baseOf 60 saf, cw_i g a_decisionArray 24 daf, cw_i g a_decisionPlace 24 dqf] H locs := hZ
      have hZ : zz_Z g A s.heap [cw_k7 h0 (nI na) (nI ne) a_kindOf a_depthOf a_lengthOf a_classOf a_baseOf a_bits a_pinned i_code a_lengths a_stackArray a_stackOther a_stackAt i_lastArray i_lastPlace a_path a_held a_alike a_hashes (nI nd) a_decisionArray a_decisionPlace a_candidateMany a_candidates (nI nr) a_ruleSort a_ruleArray a_ruleWeight a_ruleLow a_ruleHigh a_chosen a_bestOf (nI nm) a_markElements a_markBits a_markPins, cw_i g a_baseOf 60 saf, cw_l g a_bits 4000 (vp_updL btf (sz + q) (caf ((16 * d) + t))), cw_z g a_pinned 4000 pnf, cw_i g a_decisionArray 24 daf, cw_i g a_decisionPlace 24 dqf, cw_i g a_candidateMany 24 cof, cw_l g a_candidates 384 caf] H locs := hZ.sub [4, 5, 0, 1, 6, 7, 2, 3] (by decide +kernel) rfl
      exact zz_vret hC hZ (⟨(vp_updL btf (sz + q) (caf ((16 * d) + t))), zl_set h_M hbn e_s e_l e_d1 (by omega) (by omega) (by omega) hq (fun hz => absurd hz (by omega)), zz_D1.set hbn e_d1 e_s e_l (by omega) (by omega) hq, by rw [zz_ly, zl_sMe e_a e_q e_s (by omega) (by omega) (by omega), show (cof d).toNatClampNeg = n by rw [e_c]; exact nI_clamp (by omega), if_neg (zl_fr1 (by omega) (by omega) c4), Nat.mul_comm d 16], rfl⟩) (Nat.le_of_ble_eq_true rfl) (Nat.le_of_ble_eq_true rfl) dX8_lay_43
theorem zl_arT2 {S : Nat → Int64} {i fo : Nat} {le s : Int64} (hi : 0 < i) (h : (fo, le) = zz_ar S (i - 1)) (e : s = S i) (c : ¬ le ≤ s) : (i, s) = zz_ar S (i + 1 - 1) := by
  obtain ⟨j, rfl⟩ : ∃ j, i = j + 1 := ⟨i - 1, by omega⟩
  exact zl_arT h e c
theorem zl_arF2 {S : Nat → Int64} {i fo : Nat} {le s : Int64} (hi : 0 < i) (h : (fo, le) = zz_ar S (i - 1)) (e : s = S i) (c : le ≤ s) : (fo, le) = zz_ar S (i + 1 - 1) := by
  obtain ⟨j, rfl⟩ : ∃ j, i = j + 1 := ⟨i - 1, by omega⟩
  exact zl_arF h e c
theorem zl_iWn2 {W i : Nat} {r : Int32} (h : W ≤ 5001) (f : r = nI W) (hj : i ≤ 5000) (c : ¬ r ≤ nI i) : i < W := by
  rw [f, nI_leI (by omega) (by omega)] at c; omega
theorem zl_iWy2 {W i : Nat} {r : Int32} (h : W ≤ 5001) (f : r = nI W) (hj : i ≤ 5000) (c : r ≤ nI i) : W ≤ i := by
  rw [f, nI_leI (by omega) (by omega)] at c; exact c
theorem zl_bsE2 {S : Nat → Int64} {W i fo : Nat} {le : Int64} (hW : W = i) (h : (fo, le) = zz_ar S (i - 1)) : fo = (zz_ar S (W - 1)).1 := by rw [hW, ← h]
theorem zl_TIc {tuf : Nat → Int32} {k : Nat} {x : Int32} (h : zz_TI tuf) (hx : ∃ t : Nat, t < 16 ∧ x = nI t) : zz_TI (upd tuf k x) := by
  obtain ⟨t, ht, rfl⟩ := hx
  exact zl_TIu h ht
theorem zl_cM1 {na nd : Nat} {pn dp sa ln da dq co : Nat → Int32} (h : zz_MD na nd dp sa ln da dq co) {d : Nat} (hd : d < nd) : 1 ≤ zz_cM pn sa da dq co d := by
  obtain ⟨b, q, sz, lz, n, e1, e2, e3, e4, e5, e6, e7, e8, e9, e10, e11, e12⟩ := h.2 d hd
  rw [zl_cMX e1 e2 e5 e11 (by omega) (by omega) (by omega) e12]
  exact (zl_cXb (by rw [e11, nI_clamp (by omega)]; exact e12)).1
theorem dg_X8_best_0 : (decode cX8_best 0 = .ok (.aload_n 0, 1)) ∧ (decode cX8_best 1 = .ok (.invokevirtual 292, 3)) ∧ (decode cX8_best 4 = .ok (.istore_n 1, 1)) ∧ (decode cX8_best 5 = .ok (.iload_n 1, 1)) ∧ (decode cX8_best 6 = .ok (.sipush 5000, 3)) ∧ (decode cX8_best 9 = .ok (.if_icmp .le 10, 3)) ∧ (decode cX8_best 12 = .ok (.aload_n 0, 1)) ∧ (decode cX8_best 13 = .ok (.bipush 8, 2)) ∧ (decode cX8_best 15 = .ok (.invokevirtual 175, 3)) ∧ (decode cX8_best 18 = .ok (.ireturn, 1)) ∧ (decode cX8_best 19 = .ok (.lconst 0, 1)) ∧ (decode cX8_best 20 = .ok (.lstore_n 2, 1)) ∧ (decode cX8_best 21 = .ok (.iconst 0, 1)) ∧ (decode cX8_best 22 = .ok (.istore 4, 2)) ∧ (decode cX8_best 24 = .ok (.iload 4, 2)) ∧ (decode cX8_best 26 = .ok (.iload_n 1, 1)) := by decide +kernel
theorem dX8_best_0 : decode cX8_best 0 = .ok (.aload_n 0, 1) := dg_X8_best_0.1
theorem dX8_best_1 : decode cX8_best 1 = .ok (.invokevirtual 292, 3) := dg_X8_best_0.2.1
theorem dX8_best_4 : decode cX8_best 4 = .ok (.istore_n 1, 1) := dg_X8_best_0.2.2.1
theorem dX8_best_5 : decode cX8_best 5 = .ok (.iload_n 1, 1) := dg_X8_best_0.2.2.2.1
theorem dX8_best_6 : decode cX8_best 6 = .ok (.sipush 5000, 3) := dg_X8_best_0.2.2.2.2.1
theorem dX8_best_9 : decode cX8_best 9 = .ok (.if_icmp .le 10, 3) := dg_X8_best_0.2.2.2.2.2.1
theorem dX8_best_12 : decode cX8_best 12 = .ok (.aload_n 0, 1) := dg_X8_best_0.2.2.2.2.2.2.1
theorem dX8_best_13 : decode cX8_best 13 = .ok (.bipush 8, 2) := dg_X8_best_0.2.2.2.2.2.2.2.1
theorem dX8_best_15 : decode cX8_best 15 = .ok (.invokevirtual 175, 3) := dg_X8_best_0.2.2.2.2.2.2.2.2.1
theorem dX8_best_18 : decode cX8_best 18 = .ok (.ireturn, 1) := dg_X8_best_0.2.2.2.2.2.2.2.2.2.1
theorem dX8_best_19 : decode cX8_best 19 = .ok (.lconst 0, 1) := dg_X8_best_0.2.2.2.2.2.2.2.2.2.2.1
theorem dX8_best_20 : decode cX8_best 20 = .ok (.lstore_n 2, 1) := dg_X8_best_0.2.2.2.2.2.2.2.2.2.2.2.1
theorem dX8_best_21 : decode cX8_best 21 = .ok (.iconst 0, 1) := dg_X8_best_0.2.2.2.2.2.2.2.2.2.2.2.2.1
theorem dX8_best_22 : decode cX8_best 22 = .ok (.istore 4, 2) := dg_X8_best_0.2.2.2.2.2.2.2.2.2.2.2.2.2.1
theorem dX8_best_24 : decode cX8_best 24 = .ok (.iload 4, 2) := dg_X8_best_0.2.2.2.2.2.2.2.2.2.2.2.2.2.2.1
theorem dX8_best_26 : decode cX8_best 26 = .ok (.iload_n 1, 1) := dg_X8_best_0.2.2.2.2.2.2.2.2.2.2.2.2.2.2.2
theorem dg_X8_best_27 : (decode cX8_best 27 = .ok (.if_icmp .ge 125, 3)) ∧ (decode cX8_best 30 = .ok (.iload 4, 2)) ∧ (decode cX8_best 32 = .ok (.istore 5, 2)) ∧ (decode cX8_best 34 = .ok (.aload_n 0, 1)) ∧ (decode cX8_best 35 = .ok (.getfield 248, 3)) ∧ (decode cX8_best 38 = .ok (.iconst 1, 1)) ∧ (decode cX8_best 39 = .ok (.isub, 1)) ∧ (decode cX8_best 40 = .ok (.istore 6, 2)) ∧ (decode cX8_best 42 = .ok (.iload 6, 2)) ∧ (decode cX8_best 44 = .ok (.ifCond .lt 49, 3)) ∧ (decode cX8_best 47 = .ok (.aload_n 0, 1)) ∧ (decode cX8_best 48 = .ok (.getfield 84, 3)) ∧ (decode cX8_best 51 = .ok (.iload 6, 2)) ∧ (decode cX8_best 53 = .ok (.iload 5, 2)) ∧ (decode cX8_best 55 = .ok (.aload_n 0, 1)) ∧ (decode cX8_best 56 = .ok (.iload 6, 2)) := by decide +kernel
theorem dX8_best_27 : decode cX8_best 27 = .ok (.if_icmp .ge 125, 3) := dg_X8_best_27.1
theorem dX8_best_30 : decode cX8_best 30 = .ok (.iload 4, 2) := dg_X8_best_27.2.1
theorem dX8_best_32 : decode cX8_best 32 = .ok (.istore 5, 2) := dg_X8_best_27.2.2.1
theorem dX8_best_34 : decode cX8_best 34 = .ok (.aload_n 0, 1) := dg_X8_best_27.2.2.2.1
theorem dX8_best_35 : decode cX8_best 35 = .ok (.getfield 248, 3) := dg_X8_best_27.2.2.2.2.1
theorem dX8_best_38 : decode cX8_best 38 = .ok (.iconst 1, 1) := dg_X8_best_27.2.2.2.2.2.1
theorem dX8_best_39 : decode cX8_best 39 = .ok (.isub, 1) := dg_X8_best_27.2.2.2.2.2.2.1
theorem dX8_best_40 : decode cX8_best 40 = .ok (.istore 6, 2) := dg_X8_best_27.2.2.2.2.2.2.2.1
theorem dX8_best_42 : decode cX8_best 42 = .ok (.iload 6, 2) := dg_X8_best_27.2.2.2.2.2.2.2.2.1
theorem dX8_best_44 : decode cX8_best 44 = .ok (.ifCond .lt 49, 3) := dg_X8_best_27.2.2.2.2.2.2.2.2.2.1
theorem dX8_best_47 : decode cX8_best 47 = .ok (.aload_n 0, 1) := dg_X8_best_27.2.2.2.2.2.2.2.2.2.2.1
theorem dX8_best_48 : decode cX8_best 48 = .ok (.getfield 84, 3) := dg_X8_best_27.2.2.2.2.2.2.2.2.2.2.2.1
theorem dX8_best_51 : decode cX8_best 51 = .ok (.iload 6, 2) := dg_X8_best_27.2.2.2.2.2.2.2.2.2.2.2.2.1
theorem dX8_best_53 : decode cX8_best 53 = .ok (.iload 5, 2) := dg_X8_best_27.2.2.2.2.2.2.2.2.2.2.2.2.2.1
theorem dX8_best_55 : decode cX8_best 55 = .ok (.aload_n 0, 1) := dg_X8_best_27.2.2.2.2.2.2.2.2.2.2.2.2.2.2.1
theorem dX8_best_56 : decode cX8_best 56 = .ok (.iload 6, 2) := dg_X8_best_27.2.2.2.2.2.2.2.2.2.2.2.2.2.2.2
theorem dg_X8_best_58 : (decode cX8_best 58 = .ok (.invokevirtual 285, 3)) ∧ (decode cX8_best 61 = .ok (.irem, 1)) ∧ (decode cX8_best 62 = .ok (.iastore, 1)) ∧ (decode cX8_best 63 = .ok (.iload 5, 2)) ∧ (decode cX8_best 65 = .ok (.aload_n 0, 1)) ∧ (decode cX8_best 66 = .ok (.iload 6, 2)) ∧ (decode cX8_best 68 = .ok (.invokevirtual 285, 3)) ∧ (decode cX8_best 71 = .ok (.idiv, 1)) ∧ (decode cX8_best 72 = .ok (.istore 5, 2)) ∧ (decode cX8_best 74 = .ok (.aload_n 0, 1)) ∧ (decode cX8_best 75 = .ok (.iload 6, 2)) ∧ (decode cX8_best 77 = .ok (.aload_n 0, 1)) ∧ (decode cX8_best 78 = .ok (.getfield 84, 3)) ∧ (decode cX8_best 81 = .ok (.iload 6, 2)) ∧ (decode cX8_best 83 = .ok (.iaload, 1)) ∧ (decode cX8_best 84 = .ok (.invokevirtual 295, 3)) := by decide +kernel
theorem dX8_best_58 : decode cX8_best 58 = .ok (.invokevirtual 285, 3) := dg_X8_best_58.1
theorem dX8_best_61 : decode cX8_best 61 = .ok (.irem, 1) := dg_X8_best_58.2.1
theorem dX8_best_62 : decode cX8_best 62 = .ok (.iastore, 1) := dg_X8_best_58.2.2.1
theorem dX8_best_63 : decode cX8_best 63 = .ok (.iload 5, 2) := dg_X8_best_58.2.2.2.1
theorem dX8_best_65 : decode cX8_best 65 = .ok (.aload_n 0, 1) := dg_X8_best_58.2.2.2.2.1
theorem dX8_best_66 : decode cX8_best 66 = .ok (.iload 6, 2) := dg_X8_best_58.2.2.2.2.2.1
theorem dX8_best_68 : decode cX8_best 68 = .ok (.invokevirtual 285, 3) := dg_X8_best_58.2.2.2.2.2.2.1
theorem dX8_best_71 : decode cX8_best 71 = .ok (.idiv, 1) := dg_X8_best_58.2.2.2.2.2.2.2.1
theorem dX8_best_72 : decode cX8_best 72 = .ok (.istore 5, 2) := dg_X8_best_58.2.2.2.2.2.2.2.2.1
theorem dX8_best_74 : decode cX8_best 74 = .ok (.aload_n 0, 1) := dg_X8_best_58.2.2.2.2.2.2.2.2.2.1
theorem dX8_best_75 : decode cX8_best 75 = .ok (.iload 6, 2) := dg_X8_best_58.2.2.2.2.2.2.2.2.2.2.1
theorem dX8_best_77 : decode cX8_best 77 = .ok (.aload_n 0, 1) := dg_X8_best_58.2.2.2.2.2.2.2.2.2.2.2.1
theorem dX8_best_78 : decode cX8_best 78 = .ok (.getfield 84, 3) := dg_X8_best_58.2.2.2.2.2.2.2.2.2.2.2.2.1
theorem dX8_best_81 : decode cX8_best 81 = .ok (.iload 6, 2) := dg_X8_best_58.2.2.2.2.2.2.2.2.2.2.2.2.2.1
theorem dX8_best_83 : decode cX8_best 83 = .ok (.iaload, 1) := dg_X8_best_58.2.2.2.2.2.2.2.2.2.2.2.2.2.2.1
theorem dX8_best_84 : decode cX8_best 84 = .ok (.invokevirtual 295, 3) := dg_X8_best_58.2.2.2.2.2.2.2.2.2.2.2.2.2.2.2
theorem dg_X8_best_87 : (decode cX8_best 87 = .ok (.iinc 6 (-1), 3)) ∧ (decode cX8_best 90 = .ok (.goto (-48), 3)) ∧ (decode cX8_best 93 = .ok (.aload_n 0, 1)) ∧ (decode cX8_best 94 = .ok (.invokevirtual 299, 3)) ∧ (decode cX8_best 97 = .ok (.lstore 6, 2)) ∧ (decode cX8_best 99 = .ok (.iload 4, 2)) ∧ (decode cX8_best 101 = .ok (.ifCond .eq 10, 3)) ∧ (decode cX8_best 104 = .ok (.lload 6, 2)) ∧ (decode cX8_best 106 = .ok (.lload_n 2, 1)) ∧ (decode cX8_best 107 = .ok (.lcmp, 1)) ∧ (decode cX8_best 108 = .ok (.ifCond .ge 38, 3)) ∧ (decode cX8_best 111 = .ok (.lload 6, 2)) ∧ (decode cX8_best 113 = .ok (.lstore_n 2, 1)) ∧ (decode cX8_best 114 = .ok (.iconst 0, 1)) ∧ (decode cX8_best 115 = .ok (.istore 8, 2)) ∧ (decode cX8_best 117 = .ok (.iload 8, 2)) := by decide +kernel
theorem dX8_best_87 : decode cX8_best 87 = .ok (.iinc 6 (-1), 3) := dg_X8_best_87.1
theorem dX8_best_90 : decode cX8_best 90 = .ok (.goto (-48), 3) := dg_X8_best_87.2.1
theorem dX8_best_93 : decode cX8_best 93 = .ok (.aload_n 0, 1) := dg_X8_best_87.2.2.1
theorem dX8_best_94 : decode cX8_best 94 = .ok (.invokevirtual 299, 3) := dg_X8_best_87.2.2.2.1
theorem dX8_best_97 : decode cX8_best 97 = .ok (.lstore 6, 2) := dg_X8_best_87.2.2.2.2.1
theorem dX8_best_99 : decode cX8_best 99 = .ok (.iload 4, 2) := dg_X8_best_87.2.2.2.2.2.1
theorem dX8_best_101 : decode cX8_best 101 = .ok (.ifCond .eq 10, 3) := dg_X8_best_87.2.2.2.2.2.2.1
theorem dX8_best_104 : decode cX8_best 104 = .ok (.lload 6, 2) := dg_X8_best_87.2.2.2.2.2.2.2.1
theorem dX8_best_106 : decode cX8_best 106 = .ok (.lload_n 2, 1) := dg_X8_best_87.2.2.2.2.2.2.2.2.1
theorem dX8_best_107 : decode cX8_best 107 = .ok (.lcmp, 1) := dg_X8_best_87.2.2.2.2.2.2.2.2.2.1
theorem dX8_best_108 : decode cX8_best 108 = .ok (.ifCond .ge 38, 3) := dg_X8_best_87.2.2.2.2.2.2.2.2.2.2.1
theorem dX8_best_111 : decode cX8_best 111 = .ok (.lload 6, 2) := dg_X8_best_87.2.2.2.2.2.2.2.2.2.2.2.1
theorem dX8_best_113 : decode cX8_best 113 = .ok (.lstore_n 2, 1) := dg_X8_best_87.2.2.2.2.2.2.2.2.2.2.2.2.1
theorem dX8_best_114 : decode cX8_best 114 = .ok (.iconst 0, 1) := dg_X8_best_87.2.2.2.2.2.2.2.2.2.2.2.2.2.1
theorem dX8_best_115 : decode cX8_best 115 = .ok (.istore 8, 2) := dg_X8_best_87.2.2.2.2.2.2.2.2.2.2.2.2.2.2.1
theorem dX8_best_117 : decode cX8_best 117 = .ok (.iload 8, 2) := dg_X8_best_87.2.2.2.2.2.2.2.2.2.2.2.2.2.2.2
theorem dg_X8_best_119 : (decode cX8_best 119 = .ok (.aload_n 0, 1)) ∧ (decode cX8_best 120 = .ok (.getfield 248, 3)) ∧ (decode cX8_best 123 = .ok (.if_icmp .ge 23, 3)) ∧ (decode cX8_best 126 = .ok (.aload_n 0, 1)) ∧ (decode cX8_best 127 = .ok (.getfield 87, 3)) ∧ (decode cX8_best 130 = .ok (.iload 8, 2)) ∧ (decode cX8_best 132 = .ok (.aload_n 0, 1)) ∧ (decode cX8_best 133 = .ok (.getfield 84, 3)) ∧ (decode cX8_best 136 = .ok (.iload 8, 2)) ∧ (decode cX8_best 138 = .ok (.iaload, 1)) ∧ (decode cX8_best 139 = .ok (.iastore, 1)) ∧ (decode cX8_best 140 = .ok (.iinc 8 1, 3)) ∧ (decode cX8_best 143 = .ok (.goto (-26), 3)) ∧ (decode cX8_best 146 = .ok (.iinc 4 1, 3)) ∧ (decode cX8_best 149 = .ok (.goto (-125), 3)) ∧ (decode cX8_best 152 = .ok (.iconst 0, 1)) := by decide +kernel
theorem dX8_best_119 : decode cX8_best 119 = .ok (.aload_n 0, 1) := dg_X8_best_119.1
theorem dX8_best_120 : decode cX8_best 120 = .ok (.getfield 248, 3) := dg_X8_best_119.2.1
theorem dX8_best_123 : decode cX8_best 123 = .ok (.if_icmp .ge 23, 3) := dg_X8_best_119.2.2.1
theorem dX8_best_126 : decode cX8_best 126 = .ok (.aload_n 0, 1) := dg_X8_best_119.2.2.2.1
theorem dX8_best_127 : decode cX8_best 127 = .ok (.getfield 87, 3) := dg_X8_best_119.2.2.2.2.1
theorem dX8_best_130 : decode cX8_best 130 = .ok (.iload 8, 2) := dg_X8_best_119.2.2.2.2.2.1
theorem dX8_best_132 : decode cX8_best 132 = .ok (.aload_n 0, 1) := dg_X8_best_119.2.2.2.2.2.2.1
theorem dX8_best_133 : decode cX8_best 133 = .ok (.getfield 84, 3) := dg_X8_best_119.2.2.2.2.2.2.2.1
theorem dX8_best_136 : decode cX8_best 136 = .ok (.iload 8, 2) := dg_X8_best_119.2.2.2.2.2.2.2.2.1
theorem dX8_best_138 : decode cX8_best 138 = .ok (.iaload, 1) := dg_X8_best_119.2.2.2.2.2.2.2.2.2.1
theorem dX8_best_139 : decode cX8_best 139 = .ok (.iastore, 1) := dg_X8_best_119.2.2.2.2.2.2.2.2.2.2.1
theorem dX8_best_140 : decode cX8_best 140 = .ok (.iinc 8 1, 3) := dg_X8_best_119.2.2.2.2.2.2.2.2.2.2.2.1
theorem dX8_best_143 : decode cX8_best 143 = .ok (.goto (-26), 3) := dg_X8_best_119.2.2.2.2.2.2.2.2.2.2.2.2.1
theorem dX8_best_146 : decode cX8_best 146 = .ok (.iinc 4 1, 3) := dg_X8_best_119.2.2.2.2.2.2.2.2.2.2.2.2.2.1
theorem dX8_best_149 : decode cX8_best 149 = .ok (.goto (-125), 3) := dg_X8_best_119.2.2.2.2.2.2.2.2.2.2.2.2.2.2.1
theorem dX8_best_152 : decode cX8_best 152 = .ok (.iconst 0, 1) := dg_X8_best_119.2.2.2.2.2.2.2.2.2.2.2.2.2.2.2
theorem dg_X8_best_153 : (decode cX8_best 153 = .ok (.istore 4, 2)) ∧ (decode cX8_best 155 = .ok (.iload 4, 2)) ∧ (decode cX8_best 157 = .ok (.aload_n 0, 1)) ∧ (decode cX8_best 158 = .ok (.getfield 248, 3)) ∧ (decode cX8_best 161 = .ok (.if_icmp .ge 22, 3)) ∧ (decode cX8_best 164 = .ok (.aload_n 0, 1)) ∧ (decode cX8_best 165 = .ok (.iload 4, 2)) ∧ (decode cX8_best 167 = .ok (.aload_n 0, 1)) ∧ (decode cX8_best 168 = .ok (.getfield 87, 3)) ∧ (decode cX8_best 171 = .ok (.iload 4, 2)) ∧ (decode cX8_best 173 = .ok (.iaload, 1)) ∧ (decode cX8_best 174 = .ok (.invokevirtual 295, 3)) ∧ (decode cX8_best 177 = .ok (.iinc 4 1, 3)) ∧ (decode cX8_best 180 = .ok (.goto (-25), 3)) ∧ (decode cX8_best 183 = .ok (.aload_n 0, 1)) ∧ (decode cX8_best 184 = .ok (.iload_n 1, 1)) := by decide +kernel
theorem dX8_best_153 : decode cX8_best 153 = .ok (.istore 4, 2) := dg_X8_best_153.1
theorem dX8_best_155 : decode cX8_best 155 = .ok (.iload 4, 2) := dg_X8_best_153.2.1
theorem dX8_best_157 : decode cX8_best 157 = .ok (.aload_n 0, 1) := dg_X8_best_153.2.2.1
theorem dX8_best_158 : decode cX8_best 158 = .ok (.getfield 248, 3) := dg_X8_best_153.2.2.2.1
theorem dX8_best_161 : decode cX8_best 161 = .ok (.if_icmp .ge 22, 3) := dg_X8_best_153.2.2.2.2.1
theorem dX8_best_164 : decode cX8_best 164 = .ok (.aload_n 0, 1) := dg_X8_best_153.2.2.2.2.2.1
theorem dX8_best_165 : decode cX8_best 165 = .ok (.iload 4, 2) := dg_X8_best_153.2.2.2.2.2.2.1
theorem dX8_best_167 : decode cX8_best 167 = .ok (.aload_n 0, 1) := dg_X8_best_153.2.2.2.2.2.2.2.1
theorem dX8_best_168 : decode cX8_best 168 = .ok (.getfield 87, 3) := dg_X8_best_153.2.2.2.2.2.2.2.2.1
theorem dX8_best_171 : decode cX8_best 171 = .ok (.iload 4, 2) := dg_X8_best_153.2.2.2.2.2.2.2.2.2.1
theorem dX8_best_173 : decode cX8_best 173 = .ok (.iaload, 1) := dg_X8_best_153.2.2.2.2.2.2.2.2.2.2.1
theorem dX8_best_174 : decode cX8_best 174 = .ok (.invokevirtual 295, 3) := dg_X8_best_153.2.2.2.2.2.2.2.2.2.2.2.1
theorem dX8_best_177 : decode cX8_best 177 = .ok (.iinc 4 1, 3) := dg_X8_best_153.2.2.2.2.2.2.2.2.2.2.2.2.1
theorem dX8_best_180 : decode cX8_best 180 = .ok (.goto (-25), 3) := dg_X8_best_153.2.2.2.2.2.2.2.2.2.2.2.2.2.1
theorem dX8_best_183 : decode cX8_best 183 = .ok (.aload_n 0, 1) := dg_X8_best_153.2.2.2.2.2.2.2.2.2.2.2.2.2.2.1
theorem dX8_best_184 : decode cX8_best 184 = .ok (.iload_n 1, 1) := dg_X8_best_153.2.2.2.2.2.2.2.2.2.2.2.2.2.2.2
theorem dg_X8_best_185 : (decode cX8_best 185 = .ok (.invokevirtual 183, 3)) ∧ (decode cX8_best 188 = .ok (.ireturn, 1)) := by decide +kernel
theorem dX8_best_185 : decode cX8_best 185 = .ok (.invokevirtual 183, 3) := dg_X8_best_185.1
theorem dX8_best_188 : decode cX8_best 188 = .ok (.ireturn, 1) := dg_X8_best_185.2
theorem zk_1106 : Cond.methodLink RX8 292 yX8_ways ∈ zz_w := zz_in (List.mem_append_right _ (List.mem_append_right _ (List.mem_append_right _ (List.mem_append_right _ (List.mem_append_right _ (List.mem_of_getElem? (i := 146) (by decide +kernel))))))) rfl
set_option maxRecDepth 20000 in
theorem zk_1109 : Cond.code yX8_ways cX8_ways 4 (some .int) ∈ zz_w := zz_in (List.mem_append_right _ (List.mem_append_right _ (List.mem_append_right _ (List.mem_append_right _ (List.mem_append_right _ (List.mem_of_getElem? (i := 149) (rfl))))))) rfl
theorem zk_1108 : Cond.instanceMethod yX8_ways ∈ zz_w := zz_in (List.mem_append_right _ (List.mem_append_right _ (List.mem_append_right _ (List.mem_append_right _ (List.mem_append_right _ (List.mem_of_getElem? (i := 148) (by decide +kernel))))))) rfl
theorem zs_33 : Cond.selects RX8 yX8_ways yX8_ways ∈ zz_w := zz_in (List.mem_append_left _ (List.mem_of_getElem? (i := 33) (by decide +kernel))) rfl
theorem zc_X8_292 : zz_cV RX8 292 yX8_ways cX8_ways 4 (some .int) 0 := ⟨⟨zk_1106, zk_1109, zk_7, by decide, by decide, by decide +kernel⟩, zk_1108, zs_33⟩
theorem zf_X8_87 : zz_f RX8 87 7 32 := ⟨RX8, TX8, 37, rfl, zi_X8, by decide, zk_767⟩
theorem zk_1116 : Cond.methodLink RX8 295 yX8_lay ∈ zz_w := zz_in (List.mem_append_right _ (List.mem_append_right _ (List.mem_append_right _ (List.mem_append_right _ (List.mem_append_right _ (List.mem_of_getElem? (i := 156) (by decide +kernel))))))) rfl
set_option maxRecDepth 20000 in
theorem zk_1119 : Cond.code yX8_lay cX8_lay 3 none ∈ zz_w := zz_in (List.mem_append_right _ (List.mem_append_right _ (List.mem_append_right _ (List.mem_append_right _ (List.mem_append_right _ (List.mem_of_getElem? (i := 159) (rfl))))))) rfl
theorem zk_1118 : Cond.instanceMethod yX8_lay ∈ zz_w := zz_in (List.mem_append_right _ (List.mem_append_right _ (List.mem_append_right _ (List.mem_append_right _ (List.mem_append_right _ (List.mem_of_getElem? (i := 158) (by decide +kernel))))))) rfl
theorem zs_35 : Cond.selects RX8 yX8_lay yX8_lay ∈ zz_w := zz_in (List.mem_append_left _ (List.mem_of_getElem? (i := 35) (by decide +kernel))) rfl
theorem zc_X8_295 : zz_cV RX8 295 yX8_lay cX8_lay 3 none 2 := ⟨⟨zk_1116, zk_1119, zk_7, by decide, by decide, by decide +kernel⟩, zk_1118, zs_35⟩
theorem zk_1120 : Cond.methodLink RX8 299 yX8_score ∈ zz_w := zz_in (List.mem_append_right _ (List.mem_append_right _ (List.mem_append_right _ (List.mem_append_right _ (List.mem_append_right _ (List.mem_of_getElem? (i := 160) (by decide +kernel))))))) rfl
set_option maxRecDepth 20000 in
theorem zk_1101 : Cond.code yX8_score cX8_score 4 (some .long) ∈ zz_w := zz_in (List.mem_append_right _ (List.mem_append_right _ (List.mem_append_right _ (List.mem_append_right _ (List.mem_append_right _ (List.mem_of_getElem? (i := 141) (rfl))))))) rfl
theorem zk_1099 : Cond.instanceMethod yX8_score ∈ zz_w := zz_in (List.mem_append_right _ (List.mem_append_right _ (List.mem_append_right _ (List.mem_append_right _ (List.mem_append_right _ (List.mem_of_getElem? (i := 139) (by decide +kernel))))))) rfl
theorem zk_1100 : Cond.selects RX8 yX8_score yX8_score ∈ zz_w := zz_in (List.mem_append_right _ (List.mem_append_right _ (List.mem_append_right _ (List.mem_append_right _ (List.mem_append_right _ (List.mem_of_getElem? (i := 140) (by decide +kernel))))))) rfl
theorem zc_X8_299 : zz_cV RX8 299 yX8_score cX8_score 4 (some .long) 0 := ⟨⟨zk_1120, zk_1101, zk_7, by decide, by decide, by decide +kernel⟩, zk_1099, zk_1100⟩
theorem zf_X8_84 : zz_f RX8 84 7 31 := ⟨RX8, TX8, 37, rfl, zi_X8, by decide, zk_766⟩
abbrev rm_my_best : Room := { frames := 5, cells := 0, slots := 0, locals := 130 }
abbrev po_my_best (g : zz_G) (h0 : Nat) (a_kindOf : Nat) (a_depthOf : Nat) (a_lengthOf : Nat) (a_classOf : Nat) (a_baseOf : Nat) (a_bits : Nat) (a_pinned : Nat) (a_lengths : Nat) (a_stackArray : Nat) (a_stackOther : Nat) (a_stackAt : Nat) (a_path : Nat) (a_held : Nat) (a_alike : Nat) (a_hashes : Nat) (a_decisionArray : Nat) (a_decisionPlace : Nat) (a_candidateMany : Nat) (a_candidates : Nat) (a_ruleSort : Nat) (a_ruleArray : Nat) (a_ruleWeight : Nat) (a_ruleLow : Nat) (a_ruleHigh : Nat) (a_chosen : Nat) (a_bestOf : Nat) (a_markElements : Nat) (a_markBits : Nat) (a_markPins : Nat) (na : Nat) (ne : Nat) (nd : Nat) (nr : Nat) (nm : Nat) (i_code : Int32) (i_lastArray : Int32) (i_lastPlace : Int32) (kdf : Nat → Int32) (lnf : Nat → Int32) (saf : Nat → Int32) (btf : Nat → Int64) (pnf : Nat → Int32) (daf : Nat → Int32) (dqf : Nat → Int32) (cof : Nat → Int32) (caf : Nat → Int64) (rsf : Nat → Int32) (juf : Nat → Int32) (wef : Nat → Int32) (lof : Nat → Int64) (hif : Nat → Int64) (chf : Nat → Int32) (bef : Nat → Int32) (dpf : Nat → Int32) (h_M : zz_MI na ne dpf saf lnf btf) (h_D : zz_MD na nd dpf saf lnf daf dqf cof) (h_R : zz_RI na nr juf saf lnf) (h_T : zz_TI chf) (h_U : zz_TI bef) (h_I : zz_SD nd (zz_sM saf daf dqf)) : Int32 → va_W → Prop := fun (r : Int32) (u : va_W) => ∃ (k_c : Int32) (k_a : Int32) (k_p : Int32) (bt2 : Nat → Int64) (ch2 : Nat → Int32) (be2 : Nat → Int32), (zz_MI na ne dpf saf lnf bt2) ∧ (zz_TI ch2) ∧ (zz_TI be2) ∧ (zz_D1 na dpf saf lnf btf bt2) ∧ (r = sp_bR (zz_wy (zz_cM pnf saf daf dqf cof) nd 0 1)) ∧ (bt2 = if zz_wy (zz_cM pnf saf daf dqf cof) nd 0 1 ≤ 5000 then sp_tkw pnf (zz_sM saf daf dqf) cof caf nd (zz_ar (fun w => sp_ts kdf (sp_tkw pnf (zz_sM saf daf dqf) cof caf nd w btf) rsf juf wef lof hif saf lnf nr 0 0) (zz_wy (zz_cM pnf saf daf dqf cof) nd 0 1 - 1)).1 btf else btf) ∧ u = [cw_k7 h0 (nI na) (nI ne) a_kindOf a_depthOf a_lengthOf a_classOf a_baseOf a_bits a_pinned k_c a_lengths a_stackArray a_stackOther a_stackAt k_a k_p a_path a_held a_alike a_hashes (nI nd) a_decisionArray a_decisionPlace a_candidateMany a_candidates (nI nr) a_ruleSort a_ruleArray a_ruleWeight a_ruleLow a_ruleHigh a_chosen a_bestOf (nI nm) a_markElements a_markBits a_markPins, cw_i g a_kindOf 60 kdf, cw_i g a_lengthOf 60 lnf, cw_i g a_baseOf 60 saf, cw_l g a_bits 4000 bt2, cw_z g a_pinned 4000 pnf, cw_i g a_decisionArray 24 daf, cw_i g a_decisionPlace 24 dqf, cw_i g a_candidateMany 24 cof, cw_l g a_candidates 384 caf, cw_i g a_ruleSort 12 rsf, cw_i g a_ruleArray 12 juf, cw_i g a_ruleWeight 12 wef, cw_l g a_ruleLow 12 lof, cw_l g a_ruleHigh 12 hif, cw_i g a_chosen 24 ch2, cw_i g a_bestOf 24 be2]
set_option maxHeartbeats 4000000 in
set_option maxRecDepth 100000 in
theorem my_best (g : zz_G) (h0 : Nat) (a_kindOf : Nat) (a_depthOf : Nat) (a_lengthOf : Nat) (a_classOf : Nat) (a_baseOf : Nat) (a_bits : Nat) (a_pinned : Nat) (a_lengths : Nat) (a_stackArray : Nat) (a_stackOther : Nat) (a_stackAt : Nat) (a_path : Nat) (a_held : Nat) (a_alike : Nat) (a_hashes : Nat) (a_decisionArray : Nat) (a_decisionPlace : Nat) (a_candidateMany : Nat) (a_candidates : Nat) (a_ruleSort : Nat) (a_ruleArray : Nat) (a_ruleWeight : Nat) (a_ruleLow : Nat) (a_ruleHigh : Nat) (a_chosen : Nat) (a_bestOf : Nat) (a_markElements : Nat) (a_markBits : Nat) (a_markPins : Nat) (na : Nat) (ne : Nat) (nd : Nat) (nr : Nat) (nm : Nat) (i_code : Int32) (i_lastArray : Int32) (i_lastPlace : Int32) (kdf : Nat → Int32) (lnf : Nat → Int32) (saf : Nat → Int32) (btf : Nat → Int64) (pnf : Nat → Int32) (daf : Nat → Int32) (dqf : Nat → Int32) (cof : Nat → Int32) (caf : Nat → Int64) (rsf : Nat → Int32) (juf : Nat → Int32) (wef : Nat → Int32) (lof : Nat → Int64) (hif : Nat → Int64) (chf : Nat → Int32) (bef : Nat → Int32) (dpf : Nat → Int32) (h_M : zz_MI na ne dpf saf lnf btf) (h_D : zz_MD na nd dpf saf lnf daf dqf cof) (h_R : zz_RI na nr juf saf lnf) (h_T : zz_TI chf) (h_U : zz_TI bef) (h_I : zz_SD nd (zz_sM saf daf dqf)) : zz_I g yX8_best (.code yX8_best cX8_best 9 (some .int)) rm_my_best [.ref h0] [cw_k7 h0 (nI na) (nI ne) a_kindOf a_depthOf a_lengthOf a_classOf a_baseOf a_bits a_pinned i_code a_lengths a_stackArray a_stackOther a_stackAt i_lastArray i_lastPlace a_path a_held a_alike a_hashes (nI nd) a_decisionArray a_decisionPlace a_candidateMany a_candidates (nI nr) a_ruleSort a_ruleArray a_ruleWeight a_ruleLow a_ruleHigh a_chosen a_bestOf (nI nm) a_markElements a_markBits a_markPins, cw_i g a_kindOf 60 kdf, cw_i g a_lengthOf 60 lnf, cw_i g a_baseOf 60 saf, cw_l g a_bits 4000 btf, cw_z g a_pinned 4000 pnf, cw_i g a_decisionArray 24 daf, cw_i g a_decisionPlace 24 dqf, cw_i g a_candidateMany 24 cof, cw_l g a_candidates 384 caf, cw_i g a_ruleSort 12 rsf, cw_i g a_ruleArray 12 juf, cw_i g a_ruleWeight 12 wef, cw_l g a_ruleLow 12 lof, cw_l g a_ruleHigh 12 hif, cw_i g a_chosen 24 chf, cw_i g a_bestOf 24 bef] (po_my_best g h0 a_kindOf a_depthOf a_lengthOf a_classOf a_baseOf a_bits a_pinned a_lengths a_stackArray a_stackOther a_stackAt a_path a_held a_alike a_hashes a_decisionArray a_decisionPlace a_candidateMany a_candidates a_ruleSort a_ruleArray a_ruleWeight a_ruleLow a_ruleHigh a_chosen a_bestOf a_markElements a_markBits a_markPins na ne nd nr nm i_code i_lastArray i_lastPlace kdf lnf saf btf pnf daf dqf cof caf rsf juf wef lof hif chf bef dpf h_M h_D h_R h_T h_U h_I) := by
  refine zz_I.intro (own := RX8) (cc := cX8_best) (nL := 9) (by decide) rfl (Nat.le_of_ble_eq_true rfl) ?_
  intro p l e s m args below meth c A H locs ls hC hnm hs hZ hl
  obtain ⟨hx, hb, hml, hown, hts, hr, hlocks, hK⟩ := id hC
  have hl : lv_has ls 9 [(0, .ref h0)] := hl
  have hZ : zz_Z g A s.heap [cw_k7 h0 (nI na) (nI ne) a_kindOf a_depthOf a_lengthOf a_classOf a_baseOf a_bits a_pinned i_code a_lengths a_stackArray a_stackOther a_stackAt i_lastArray i_lastPlace a_path a_held a_alike a_hashes (nI nd) a_decisionArray a_decisionPlace a_candidateMany a_candidates (nI nr) a_ruleSort a_ruleArray a_ruleWeight a_ruleLow a_ruleHigh a_chosen a_bestOf (nI nm) a_markElements a_markBits a_markPins, cw_i g a_kindOf 60 kdf, cw_i g a_lengthOf 60 lnf, cw_i g a_baseOf 60 saf, cw_l g a_bits 4000 btf, cw_z g a_pinned 4000 pnf, cw_i g a_decisionArray 24 daf, cw_i g a_decisionPlace 24 dqf, cw_i g a_candidateMany 24 cof, cw_l g a_candidates 384 caf, cw_i g a_ruleSort 12 rsf, cw_i g a_ruleArray 12 juf, cw_i g a_ruleWeight 12 wef, cw_l g a_ruleLow 12 lof, cw_l g a_ruleHigh 12 hif, cw_i g a_chosen 24 chf, cw_i g a_bestOf 24 bef] H locs := hZ
  have h_S := h_M.1
  have hna := h_S.1
  have hne := h_S.2.1
  have hd24 := h_D.1
  have hr12 := h_R.1
  refine lv_aload_n hx hb dX8_best_0 rfl (lv_at hl 0 rfl) ?_
  refine zz_iV (As := []) (wc := [cw_k7 h0 (nI na) (nI ne) a_kindOf a_depthOf a_lengthOf a_classOf a_baseOf a_bits a_pinned i_code a_lengths a_stackArray a_stackOther a_stackAt i_lastArray i_lastPlace a_path a_held a_alike a_hashes (nI nd) a_decisionArray a_decisionPlace a_candidateMany a_candidates (nI nr) a_ruleSort a_ruleArray a_ruleWeight a_ruleLow a_ruleHigh a_chosen a_bestOf (nI nm) a_markElements a_markBits a_markPins, cw_i g a_baseOf 60 saf, cw_z g a_pinned 4000 pnf, cw_i g a_decisionArray 24 daf, cw_i g a_decisionPlace 24 dqf, cw_i g a_candidateMany 24 cof]) (wr := [cw_i g a_kindOf 60 kdf, cw_i g a_lengthOf 60 lnf, cw_l g a_bits 4000 btf, cw_l g a_candidates 384 caf, cw_i g a_ruleSort 12 rsf, cw_i g a_ruleArray 12 juf, cw_i g a_ruleWeight 12 wef, cw_l g a_ruleLow 12 lof, cw_l g a_ruleHigh 12 hif, cw_i g a_chosen 24 chf, cw_i g a_bestOf 24 bef]) (rest := []) hC hZ hs hl zc_X8_292 (cm_ways g h0 a_kindOf a_depthOf a_lengthOf a_classOf a_baseOf a_bits a_pinned a_lengths a_stackArray a_stackOther a_stackAt a_path a_held a_alike a_hashes a_decisionArray a_decisionPlace a_candidateMany a_candidates a_ruleSort a_ruleArray a_ruleWeight a_ruleLow a_ruleHigh a_chosen a_bestOf a_markElements a_markBits a_markPins na ne nd nr nm i_code i_lastArray i_lastPlace saf pnf daf dqf cof dpf lnf (h_S) (h_D)) [0, 3, 5, 6, 7, 8] [1, 2, 4, 9, 10, 11, 12, 13, 14, 15, 16] rfl rfl (by decide +kernel) (ci := 7) (q0 := 0) rfl rfl rfl rfl (Nat.le_of_ble_eq_true rfl) ⟨⟨Nat.le_of_ble_eq_true rfl, Nat.le_of_ble_eq_true rfl⟩, Nat.le_of_ble_eq_true rfl, Nat.le_of_ble_eq_true rfl⟩ dX8_best_1 (fun r1 u2 H locs hp hZ => ?_)
  obtain ⟨f3, rfl⟩ := hp
  have hZ : zz_Z g A s.heap [cw_i g a_kindOf 60 kdf, cw_i g a_lengthOf 60 lnf, cw_l g a_bits 4000 btf, cw_l g a_candidates 384 caf, cw_i g a_ruleSort 12 rsf, cw_i g a_ruleArray 12 juf, cw_i g a_ruleWeight 12 wef, cw_l g a_ruleLow 12 lof, cw_l g a_ruleHigh 12 hif, cw_i g a_chosen 24 chf, cw_i g a_bestOf 24 bef, cw_k7 h0 (nI na) (nI ne) a_kindOf a_depthOf a_lengthOf a_classOf a_baseOf a_bits a_pinned i_code a_lengths a_stackArray a_stackOther a_stackAt i_lastArray i_lastPlace a_path a_held a_alike a_hashes (nI nd) a_decisionArray a_decisionPlace a_candidateMany a_candidates (nI nr) a_ruleSort a_ruleArray a_ruleWeight a_ruleLow a_ruleHigh a_chosen a_bestOf (nI nm) a_markElements a_markBits a_markPins, cw_i g a_baseOf 60 saf, cw_z g a_pinned 4000 pnf, cw_i g a_decisionArray 24 daf, cw_i g a_decisionPlace 24 dqf, cw_i g a_candidateMany 24 cof] H locs := hZ
  refine lv_istore_n (lv' := [(1, .int r1), (0, .ref h0)]) hx hb dX8_best_4 rfl hl (by decide) rfl (fun ls hl => ?_)
  refine lv_iload_n hx hb dX8_best_5 rfl (lv_at hl 0 rfl) ?_
  refine lv_sipush (v := 5000) hx hb dX8_best_6 (by decide) ?_
  refine lv_icmp_le (tgt := 19) hx hb dX8_best_9 (by decide) (fun c4 => ?_) (fun c4 => ?_)
  · refine lv_lconst (v := 0) hx hb dX8_best_19 (by decide) ?_
    refine lv_lstore_n (lv' := [(2, .long 0), (1, .int r1), (0, .ref h0)]) hx hb dX8_best_20 rfl hl (by decide) rfl (fun ls hl => ?_)
    refine lv_iconst (v := 0) hx hb dX8_best_21 (by decide) ?_
    refine lv_istore (lv' := [(4, .int 0), (2, .long 0), (1, .int r1), (0, .ref h0)]) hx hb dX8_best_22 hl (by decide) rfl (fun ls hl => ?_)
    have LP5 : ∀ (N5 : Nat) (i : Nat) (le : Int64) (bt1 : Nat → Int64) (ch1 : Nat → Int32) (be1 : Nat → Int32) (fo : Nat) (H : Heap) (locs : List Loc) (ls : Array Slot), (i ≤ 5000) → (zz_MI na ne dpf saf lnf bt1) → (zz_TI ch1) → (zz_TI be1) → (zz_D1 na dpf saf lnf btf bt1) → (i ≤ zz_wy (zz_cM pnf saf daf dqf cof) nd 0 1) → (∀ w, sp_tkw pnf (zz_sM saf daf dqf) cof caf nd w bt1 = sp_tkw pnf (zz_sM saf daf dqf) cof caf nd w btf) → (0 < i → (fo, le) = zz_ar (fun w => sp_ts kdf (sp_tkw pnf (zz_sM saf daf dqf) cof caf nd w btf) rsf juf wef lof hif saf lnf nr 0 0) (i - 1)) → (0 < i → ∀ d, d < nd → be1 d = nI (zz_dg (zz_cX pnf (zz_sM saf daf dqf) cof) nd fo d)) → (5000 - i) < N5 → zz_Z g A s.heap [cw_i g a_kindOf 60 kdf, cw_i g a_lengthOf 60 lnf, cw_l g a_bits 4000 bt1, cw_l g a_candidates 384 caf, cw_i g a_ruleSort 12 rsf, cw_i g a_ruleArray 12 juf, cw_i g a_ruleWeight 12 wef, cw_l g a_ruleLow 12 lof, cw_l g a_ruleHigh 12 hif, cw_i g a_chosen 24 ch1, cw_i g a_bestOf 24 be1, cw_k7 h0 (nI na) (nI ne) a_kindOf a_depthOf a_lengthOf a_classOf a_baseOf a_bits a_pinned i_code a_lengths a_stackArray a_stackOther a_stackAt i_lastArray i_lastPlace a_path a_held a_alike a_hashes (nI nd) a_decisionArray a_decisionPlace a_candidateMany a_candidates (nI nr) a_ruleSort a_ruleArray a_ruleWeight a_ruleLow a_ruleHigh a_chosen a_bestOf (nI nm) a_markElements a_markBits a_markPins, cw_i g a_baseOf 60 saf, cw_z g a_pinned 4000 pnf, cw_i g a_decisionArray 24 daf, cw_i g a_decisionPlace 24 dqf, cw_i g a_candidateMany 24 cof] H locs → lv_has ls 9 [(4, .int (nI i)), (2, .long le), (1, .int r1), (0, .ref h0)] → W p l e rm_my_best s m args below meth c H locs 0 0 (zz_QI below g args s A rm_my_best.cells rm_my_best.slots (po_my_best g h0 a_kindOf a_depthOf a_lengthOf a_classOf a_baseOf a_bits a_pinned a_lengths a_stackArray a_stackOther a_stackAt a_path a_held a_alike a_hashes a_decisionArray a_decisionPlace a_candidateMany a_candidates a_ruleSort a_ruleArray a_ruleWeight a_ruleLow a_ruleHigh a_chosen a_bestOf a_markElements a_markBits a_markPins na ne nd nr nm i_code i_lastArray i_lastPlace kdf lnf saf btf pnf daf dqf cof caf rsf juf wef lof hif chf bef dpf h_M h_D h_R h_T h_U h_I)) (F0 m 24 ls []) := by
      intro N5
      induction N5 with
      | zero =>
        intro i le bt1 ch1 be1 fo H locs ls hi hM1 hT1 hU1 hX1 hiW hbw har hbe hN5
        exact absurd hN5 (Nat.not_lt_zero _)
      | succ N5 ih5 =>
        intro i le bt1 ch1 be1 fo H locs ls hi hM1 hT1 hU1 hX1 hiW hbw har hbe hN5 hZ hl
        refine lv_iload hx hb dX8_best_24 (lv_at hl 0 rfl) ?_
        refine lv_iload_n hx hb dX8_best_26 rfl (lv_at hl 2 rfl) ?_
        refine lv_icmp_ge (tgt := 152) hx hb dX8_best_27 (by decide) (fun c6 => ?_) (fun c6 => ?_)
        · have hWj := zl_iWy2 (zl_wyL _ _ _ (by omega)) f3 (by omega) c6
          have hW1 := zl_wyg (c := zz_cM pnf saf daf dqf cof) (fun d hd => zl_cM1 h_D hd) nd 0 1 (by omega) (by omega)
          refine lv_iconst (v := 0) hx hb dX8_best_152 (by decide) ?_
          refine lv_istore (lv' := [(4, .int 0), (2, .long le), (1, .int r1), (0, .ref h0)]) hx hb dX8_best_153 hl (by decide) rfl (fun ls hl => ?_)
          have LP7 : ∀ (N7 : Nat) (i4 : Nat) (bt4 : Nat → Int64) (H : Heap) (locs : List Loc) (ls : Array Slot), (i4 ≤ nd) → (zz_MI na ne dpf saf lnf bt4) → (zz_D1 na dpf saf lnf btf bt4) → (zz_WB pnf (zz_sM saf daf dqf) cof caf i4 bt1 be1 bt4) → (nd - i4) < N7 → zz_Z g A s.heap [cw_i g a_kindOf 60 kdf, cw_i g a_lengthOf 60 lnf, cw_l g a_bits 4000 bt4, cw_l g a_candidates 384 caf, cw_i g a_ruleSort 12 rsf, cw_i g a_ruleArray 12 juf, cw_i g a_ruleWeight 12 wef, cw_l g a_ruleLow 12 lof, cw_l g a_ruleHigh 12 hif, cw_i g a_chosen 24 ch1, cw_i g a_bestOf 24 be1, cw_k7 h0 (nI na) (nI ne) a_kindOf a_depthOf a_lengthOf a_classOf a_baseOf a_bits a_pinned i_code a_lengths a_stackArray a_stackOther a_stackAt i_lastArray i_lastPlace a_path a_held a_alike a_hashes (nI nd) a_decisionArray a_decisionPlace a_candidateMany a_candidates (nI nr) a_ruleSort a_ruleArray a_ruleWeight a_ruleLow a_ruleHigh a_chosen a_bestOf (nI nm) a_markElements a_markBits a_markPins, cw_i g a_baseOf 60 saf, cw_z g a_pinned 4000 pnf, cw_i g a_decisionArray 24 daf, cw_i g a_decisionPlace 24 dqf, cw_i g a_candidateMany 24 cof] H locs → lv_has ls 9 [(4, .int (nI i4)), (2, .long le), (1, .int r1), (0, .ref h0)] → W p l e rm_my_best s m args below meth c H locs 0 0 (zz_QI below g args s A rm_my_best.cells rm_my_best.slots (po_my_best g h0 a_kindOf a_depthOf a_lengthOf a_classOf a_baseOf a_bits a_pinned a_lengths a_stackArray a_stackOther a_stackAt a_path a_held a_alike a_hashes a_decisionArray a_decisionPlace a_candidateMany a_candidates a_ruleSort a_ruleArray a_ruleWeight a_ruleLow a_ruleHigh a_chosen a_bestOf a_markElements a_markBits a_markPins na ne nd nr nm i_code i_lastArray i_lastPlace kdf lnf saf btf pnf daf dqf cof caf rsf juf wef lof hif chf bef dpf h_M h_D h_R h_T h_U h_I)) (F0 m 155 ls []) := by
            intro N7
            induction N7 with
            | zero =>
              intro i4 bt4 H locs ls hi4 hM4 hX4 hwb hN7
              exact absurd hN7 (Nat.not_lt_zero _)
            | succ N7 ih7 =>
              intro i4 bt4 H locs ls hi4 hM4 hX4 hwb hN7 hZ hl
              refine lv_iload hx hb dX8_best_155 (lv_at hl 0 rfl) ?_
              refine lv_aload_n hx hb dX8_best_157 rfl (lv_at hl 3 rfl) ?_
              refine zz_get hC hZ 11 rfl zf_X8_248 rfl dX8_best_158 ?_
              have bd9 : nd < 2 ^ 31 := by omega
              have bd10 : i4 < 2 ^ 31 := by omega
              refine lv_icmp_ge (tgt := 183) hx hb dX8_best_161 (by decide) (fun c8 => ?_) (fun c8 => ?_)
              · have nc8 : nd ≤ i4 := (nI_leI bd9 bd10).mp (show nI (nd) ≤ nI (i4) from c8)
                refine lv_aload_n hx hb dX8_best_183 rfl (lv_at hl 3 rfl) ?_
                refine lv_iload_n hx hb dX8_best_184 rfl (lv_at hl 2 rfl) ?_
                refine zz_iV (As := [.int r1]) (wc := [cw_k7 h0 (nI na) (nI ne) a_kindOf a_depthOf a_lengthOf a_classOf a_baseOf a_bits a_pinned i_code a_lengths a_stackArray a_stackOther a_stackAt i_lastArray i_lastPlace a_path a_held a_alike a_hashes (nI nd) a_decisionArray a_decisionPlace a_candidateMany a_candidates (nI nr) a_ruleSort a_ruleArray a_ruleWeight a_ruleLow a_ruleHigh a_chosen a_bestOf (nI nm) a_markElements a_markBits a_markPins]) (wr := [cw_i g a_kindOf 60 kdf, cw_i g a_lengthOf 60 lnf, cw_l g a_bits 4000 bt4, cw_l g a_candidates 384 caf, cw_i g a_ruleSort 12 rsf, cw_i g a_ruleArray 12 juf, cw_i g a_ruleWeight 12 wef, cw_l g a_ruleLow 12 lof, cw_l g a_ruleHigh 12 hif, cw_i g a_chosen 24 ch1, cw_i g a_bestOf 24 be1, cw_i g a_baseOf 60 saf, cw_z g a_pinned 4000 pnf, cw_i g a_decisionArray 24 daf, cw_i g a_decisionPlace 24 dqf, cw_i g a_candidateMany 24 cof]) (rest := []) hC hZ hs hl zc_X8_183 (cm_fine g h0 a_kindOf a_depthOf a_lengthOf a_classOf a_baseOf a_bits a_pinned a_lengths a_stackArray a_stackOther a_stackAt a_path a_held a_alike a_hashes a_decisionArray a_decisionPlace a_candidateMany a_candidates a_ruleSort a_ruleArray a_ruleWeight a_ruleLow a_ruleHigh a_chosen a_bestOf a_markElements a_markBits a_markPins (nI na) (nI ne) i_code i_lastArray i_lastPlace (nI nd) (nI nr) (nI nm) r1) [11] [0, 1, 2, 3, 4, 5, 6, 7, 8, 9, 10, 12, 13, 14, 15, 16] rfl rfl (by decide +kernel) (ci := 7) (q0 := 0) rfl rfl rfl rfl (Nat.le_of_ble_eq_true rfl) ⟨⟨Nat.le_of_ble_eq_true rfl, Nat.le_of_ble_eq_true rfl⟩, Nat.le_of_ble_eq_true rfl, Nat.le_of_ble_eq_true rfl⟩ dX8_best_185 (fun r11 u12 H locs hp hZ => ?_)
                obtain ⟨rfl, rfl⟩ := hp
                have hZ : zz_Z g A s.heap [cw_i g a_kindOf 60 kdf, cw_i g a_lengthOf 60 lnf, cw_l g a_bits 4000 bt4, cw_l g a_candidates 384 caf, cw_i g a_ruleSort 12 rsf, cw_i g a_ruleArray 12 juf, cw_i g a_ruleWeight 12 wef, cw_l g a_ruleLow 12 lof, cw_l g a_ruleHigh 12 hif, cw_i g a_chosen 24 ch1, cw_i g a_bestOf 24 be1, cw_i g a_baseOf 60 saf, cw_z g a_pinned 4000 pnf, cw_i g a_decisionArray 24 daf, cw_i g a_decisionPlace 24 dqf, cw_i g a_candidateMany 24 cof, cw_k7 h0 (nI na) (nI ne) a_kindOf a_depthOf a_lengthOf a_classOf a_baseOf a_bits a_pinned 0 a_lengths a_stackArray a_stackOther a_stackAt i_lastArray i_lastPlace a_path a_held a_alike a_hashes (nI nd) a_decisionArray a_decisionPlace a_candidateMany a_candidates (nI nr) a_ruleSort a_ruleArray a_ruleWeight a_ruleLow a_ruleHigh a_chosen a_bestOf (nI nm) a_markElements a_markBits a_markPins] H locs := hZ
                have hZ : zz_Z g A s.heap [cw_k7 h0 (nI na) (nI ne) a_kindOf a_depthOf a_lengthOf a_classOf a_baseOf a_bits a_pinned 0 a_lengths a_stackArray a_stackOther a_stackAt i_lastArray i_lastPlace a_path a_held a_alike a_hashes (nI nd) a_decisionArray a_decisionPlace a_candidateMany a_candidates (nI nr) a_ruleSort a_ruleArray a_ruleWeight a_ruleLow a_ruleHigh a_chosen a_bestOf (nI nm) a_markElements a_markBits a_markPins, cw_i g a_kindOf 60 kdf, cw_i g a_lengthOf 60 lnf, cw_i g a_baseOf 60 saf, cw_l g a_bits 4000 bt4, cw_z g a_pinned 4000 pnf, cw_i g a_decisionArray 24 daf, cw_i g a_decisionPlace 24 dqf, cw_i g a_candidateMany 24 cof, cw_l g a_candidates 384 caf, cw_i g a_ruleSort 12 rsf, cw_i g a_ruleArray 12 juf, cw_i g a_ruleWeight 12 wef, cw_l g a_ruleLow 12 lof, cw_l g a_ruleHigh 12 hif, cw_i g a_chosen 24 ch1, cw_i g a_bestOf 24 be1] H locs := hZ.sub [16, 0, 1, 11, 2, 12, 13, 14, 15, 3, 4, 5, 6, 7, 8, 9, 10] (by decide +kernel) rfl
                exact zz_iret hC hZ (⟨0, i_lastArray, i_lastPlace, bt4, ch1, be1, hM4, hT1, hU1, hX4, zl_bR (zl_wyL _ _ _ (by omega)) f3 c4, by rw [if_pos (zl_W5 (zl_wyL _ _ _ (by omega)) f3 c4), ← zl_bsE2 (show zz_wy (zz_cM pnf saf daf dqf cof) nd 0 1 = i by omega) (har (by omega)), ← hbw]; exact zl_WBe h_I (zl_MD16 h_D) (fun d hd _ => hbe (by omega) d hd) ((show i4 = nd by omega) ▸ hwb), rfl⟩) (Nat.le_of_ble_eq_true rfl) (Nat.le_of_ble_eq_true rfl) dX8_best_188
              · have nc8 : ¬ nd ≤ i4 := fun zq => c8 (show nI (nd) ≤ nI (i4) from (nI_leI bd9 bd10).mpr zq)
                obtain ⟨t4, ht4, et4⟩ := hU1 i4
                refine lv_aload_n hx hb dX8_best_164 rfl (lv_at hl 3 rfl) ?_
                refine lv_iload hx hb dX8_best_165 (lv_at hl 0 rfl) ?_
                refine lv_aload_n hx hb dX8_best_167 rfl (lv_at hl 3 rfl) ?_
                refine zz_get hC hZ 11 rfl zf_X8_87 rfl dX8_best_168 ?_
                refine lv_iload hx hb dX8_best_171 (lv_at hl 0 rfl) ?_
                have bd13 : i4 < 24 := by omega
                refine zz_ialdn hC hZ 10 rfl bd13 (by decide) dX8_best_173 ?_
                refine zz_topi (v := nI t4) (et4) ?_
                refine zz_vV (As := [.int (nI i4), .int (nI t4)]) (wc := [cw_k7 h0 (nI na) (nI ne) a_kindOf a_depthOf a_lengthOf a_classOf a_baseOf a_bits a_pinned i_code a_lengths a_stackArray a_stackOther a_stackAt i_lastArray i_lastPlace a_path a_held a_alike a_hashes (nI nd) a_decisionArray a_decisionPlace a_candidateMany a_candidates (nI nr) a_ruleSort a_ruleArray a_ruleWeight a_ruleLow a_ruleHigh a_chosen a_bestOf (nI nm) a_markElements a_markBits a_markPins, cw_i g a_baseOf 60 saf, cw_l g a_bits 4000 bt4, cw_z g a_pinned 4000 pnf, cw_i g a_decisionArray 24 daf, cw_i g a_decisionPlace 24 dqf, cw_i g a_candidateMany 24 cof, cw_l g a_candidates 384 caf]) (wr := [cw_i g a_kindOf 60 kdf, cw_i g a_lengthOf 60 lnf, cw_i g a_ruleSort 12 rsf, cw_i g a_ruleArray 12 juf, cw_i g a_ruleWeight 12 wef, cw_l g a_ruleLow 12 lof, cw_l g a_ruleHigh 12 hif, cw_i g a_chosen 24 ch1, cw_i g a_bestOf 24 be1]) (rest := []) hC hZ hs hl zc_X8_295 (cm_lay g h0 a_kindOf a_depthOf a_lengthOf a_classOf a_baseOf a_bits a_pinned a_lengths a_stackArray a_stackOther a_stackAt a_path a_held a_alike a_hashes a_decisionArray a_decisionPlace a_candidateMany a_candidates a_ruleSort a_ruleArray a_ruleWeight a_ruleLow a_ruleHigh a_chosen a_bestOf a_markElements a_markBits a_markPins na ne nd nr nm i_code i_lastArray i_lastPlace saf bt4 pnf daf dqf cof caf dpf lnf i4 t4 (by omega) (by omega) (hM4) (h_D)) [11, 12, 2, 13, 14, 15, 16, 3] [0, 1, 4, 5, 6, 7, 8, 9, 10] rfl rfl (by decide +kernel) (ci := 7) (q0 := 0) rfl rfl rfl rfl (Nat.le_of_ble_eq_true rfl) ⟨⟨Nat.le_of_ble_eq_true rfl, Nat.le_of_ble_eq_true rfl⟩, Nat.le_of_ble_eq_true rfl, Nat.le_of_ble_eq_true rfl⟩ dX8_best_174 (fun u15 H locs hp hZ => ?_)
                obtain ⟨bt2_16, f17, f18, f19, rfl⟩ := hp
                have hZ : zz_Z g A s.heap [cw_i g a_kindOf 60 kdf, cw_i g a_lengthOf 60 lnf, cw_i g a_ruleSort 12 rsf, cw_i g a_ruleArray 12 juf, cw_i g a_ruleWeight 12 wef, cw_l g a_ruleLow 12 lof, cw_l g a_ruleHigh 12 hif, cw_i g a_chosen 24 ch1, cw_i g a_bestOf 24 be1, cw_k7 h0 (nI na) (nI ne) a_kindOf a_depthOf a_lengthOf a_classOf a_baseOf a_bits a_pinned i_code a_lengths a_stackArray a_stackOther a_stackAt i_lastArray i_lastPlace a_path a_held a_alike a_hashes (nI nd) a_decisionArray a_decisionPlace a_candidateMany a_candidates (nI nr) a_ruleSort a_ruleArray a_ruleWeight a_ruleLow a_ruleHigh a_chosen a_bestOf (nI nm) a_markElements a_markBits a_markPins, cw_i g a_baseOf 60 saf, cw_l g a_bits 4000 bt2_16, cw_z g a_pinned 4000 pnf, cw_i g a_decisionArray 24 daf, cw_i g a_decisionPlace 24 dqf, cw_i g a_candidateMany 24 cof, cw_l g a_candidates 384 caf] H locs := hZ
                refine lv_iinc (v := nI (i4 + 1)) (lv' := [(4, .int (nI (i4 + 1))), (2, .long le), (1, .int r1), (0, .ref h0)]) hx hb dX8_best_177 hl (k := 0) rfl (nI_1 _) (by decide) rfl (fun ls hl => ?_)
                refine lv_goto (tgt := 155) hx hb dX8_best_180 (by decide) ?_
                exact ih7 (i4 + 1) bt2_16 H locs ls (by omega) (f17) (hX4.tr f18) (by rw [f19]; exact hwb.ext h_I (by omega) et4 ht4) (by omega) (hZ.sub [0, 1, 11, 16, 2, 3, 4, 5, 6, 7, 8, 9, 10, 12, 13, 14, 15] (by decide +kernel) rfl) (lv_sub hl [0, 1, 2, 3] rfl)
          exact LP7 _ 0 bt1 H locs ls (by omega) (hM1) (hX1) (⟨fun d hd => absurd hd (Nat.not_lt_zero d), fun _ _ => rfl⟩) (Nat.lt_succ_self _) hZ (lv_sub hl [0, 1, 2, 3] rfl)
        · have hi5 : i < 5000 := zl_i5 hi c4 c6
          have hiW2 := zl_iWn2 (zl_wyL _ _ _ (by omega)) f3 (by omega) c6
          refine lv_iload hx hb dX8_best_30 (lv_at hl 0 rfl) ?_
          refine lv_istore (lv' := [(5, .int (nI i)), (4, .int (nI i)), (2, .long le), (1, .int r1), (0, .ref h0)]) hx hb dX8_best_32 hl (by decide) rfl (fun ls hl => ?_)
          refine lv_aload_n hx hb dX8_best_34 rfl (lv_at hl 4 rfl) ?_
          refine zz_get hC hZ 11 rfl zf_X8_248 rfl dX8_best_35 ?_
          refine lv_iconst (v := 1) hx hb dX8_best_38 (by decide) ?_
          refine lv_isub hx hb dX8_best_39 ?_
          refine lv_istore (lv' := [(6, .int ((nI nd) - 1)), (5, .int (nI i)), (4, .int (nI i)), (2, .long le), (1, .int r1), (0, .ref h0)]) hx hb dX8_best_40 hl (by decide) rfl (fun ls hl => ?_)
          have hl : lv_has ls 9 [(6, .int ((nI nd) + (-1))), (5, .int (nI i)), (4, .int (nI i)), (2, .long le), (1, .int r1), (0, .ref h0)] := by rw [← zl_sub1]; exact hl
          have LP20 : ∀ (N20 : Nat) (dv : Int32) (K : Nat) (lf : Nat) (bt2 : Nat → Int64) (ch2 : Nat → Int32) (H : Heap) (locs : List Loc) (ls : Array Slot), (dv = nI K + (-1)) → (K ≤ nd) → (lf ≤ 5000) → (zz_MI na ne dpf saf lnf bt2) → (zz_TI ch2) → (zz_D1 na dpf saf lnf btf bt2) → (sp_tkw pnf (zz_sM saf daf dqf) cof caf nd i bt1 = sp_tkw pnf (zz_sM saf daf dqf) cof caf K lf bt2) → (∀ d, d < K → zz_dg (zz_cX pnf (zz_sM saf daf dqf) cof) nd i d = zz_dg (zz_cX pnf (zz_sM saf daf dqf) cof) K lf d) → (∀ d, K ≤ d → d < nd → ch2 d = nI (zz_dg (zz_cX pnf (zz_sM saf daf dqf) cof) nd i d)) → K < N20 → zz_Z g A s.heap [cw_i g a_kindOf 60 kdf, cw_i g a_lengthOf 60 lnf, cw_l g a_bits 4000 bt2, cw_l g a_candidates 384 caf, cw_i g a_ruleSort 12 rsf, cw_i g a_ruleArray 12 juf, cw_i g a_ruleWeight 12 wef, cw_l g a_ruleLow 12 lof, cw_l g a_ruleHigh 12 hif, cw_i g a_chosen 24 ch2, cw_i g a_bestOf 24 be1, cw_k7 h0 (nI na) (nI ne) a_kindOf a_depthOf a_lengthOf a_classOf a_baseOf a_bits a_pinned i_code a_lengths a_stackArray a_stackOther a_stackAt i_lastArray i_lastPlace a_path a_held a_alike a_hashes (nI nd) a_decisionArray a_decisionPlace a_candidateMany a_candidates (nI nr) a_ruleSort a_ruleArray a_ruleWeight a_ruleLow a_ruleHigh a_chosen a_bestOf (nI nm) a_markElements a_markBits a_markPins, cw_i g a_baseOf 60 saf, cw_z g a_pinned 4000 pnf, cw_i g a_decisionArray 24 daf, cw_i g a_decisionPlace 24 dqf, cw_i g a_candidateMany 24 cof] H locs → lv_has ls 9 [(6, .int dv), (5, .int (nI lf)), (4, .int (nI i)), (2, .long le), (1, .int r1), (0, .ref h0)] → W p l e rm_my_best s m args below meth c H locs 0 0 (zz_QI below g args s A rm_my_best.cells rm_my_best.slots (po_my_best g h0 a_kindOf a_depthOf a_lengthOf a_classOf a_baseOf a_bits a_pinned a_lengths a_stackArray a_stackOther a_stackAt a_path a_held a_alike a_hashes a_decisionArray a_decisionPlace a_candidateMany a_candidates a_ruleSort a_ruleArray a_ruleWeight a_ruleLow a_ruleHigh a_chosen a_bestOf a_markElements a_markBits a_markPins na ne nd nr nm i_code i_lastArray i_lastPlace kdf lnf saf btf pnf daf dqf cof caf rsf juf wef lof hif chf bef dpf h_M h_D h_R h_T h_U h_I)) (F0 m 42 ls []) := by
            intro N20
            induction N20 with
            | zero =>
              intro dv K lf bt2 ch2 H locs ls hdv hK hlf hM2 hT2 hX2 htk hdl hdg hN20
              exact absurd hN20 (Nat.not_lt_zero _)
            | succ N20 ih20 =>
              intro dv K lf bt2 ch2 H locs ls hdv hK hlf hM2 hT2 hX2 htk hdl hdg hN20 hZ hl
              refine lv_iload hx hb dX8_best_42 (lv_at hl 0 rfl) ?_
              refine lv_if_lt (tgt := 93) hx hb dX8_best_44 (by decide) (fun c21 => ?_) (fun c21 => ?_)
              · refine lv_aload_n hx hb dX8_best_93 rfl (lv_at hl 5 rfl) ?_
                refine zz_lV (As := []) (wc := [cw_k7 h0 (nI na) (nI ne) a_kindOf a_depthOf a_lengthOf a_classOf a_baseOf a_bits a_pinned i_code a_lengths a_stackArray a_stackOther a_stackAt i_lastArray i_lastPlace a_path a_held a_alike a_hashes (nI nd) a_decisionArray a_decisionPlace a_candidateMany a_candidates (nI nr) a_ruleSort a_ruleArray a_ruleWeight a_ruleLow a_ruleHigh a_chosen a_bestOf (nI nm) a_markElements a_markBits a_markPins, cw_i g a_kindOf 60 kdf, cw_i g a_lengthOf 60 lnf, cw_i g a_baseOf 60 saf, cw_l g a_bits 4000 bt2, cw_i g a_ruleSort 12 rsf, cw_i g a_ruleArray 12 juf, cw_l g a_ruleLow 12 lof, cw_l g a_ruleHigh 12 hif, cw_i g a_ruleWeight 12 wef]) (wr := [cw_l g a_candidates 384 caf, cw_i g a_chosen 24 ch2, cw_i g a_bestOf 24 be1, cw_z g a_pinned 4000 pnf, cw_i g a_decisionArray 24 daf, cw_i g a_decisionPlace 24 dqf, cw_i g a_candidateMany 24 cof]) (rest := []) hC hZ hs hl zc_X8_299 (my_score g h0 a_kindOf a_depthOf a_lengthOf a_classOf a_baseOf a_bits a_pinned a_lengths a_stackArray a_stackOther a_stackAt a_path a_held a_alike a_hashes a_decisionArray a_decisionPlace a_candidateMany a_candidates a_ruleSort a_ruleArray a_ruleWeight a_ruleLow a_ruleHigh a_chosen a_bestOf a_markElements a_markBits a_markPins na ne nd nr nm i_code i_lastArray i_lastPlace kdf lnf saf bt2 rsf juf lof hif wef dpf (h_S) (h_R)) [11, 0, 1, 12, 2, 4, 5, 7, 8, 6] [3, 9, 10, 13, 14, 15, 16] rfl rfl (by decide +kernel) (ci := 7) (q0 := 0) rfl rfl rfl rfl (Nat.le_of_ble_eq_true rfl) ⟨⟨Nat.le_of_ble_eq_true rfl, Nat.le_of_ble_eq_true rfl⟩, Nat.le_of_ble_eq_true rfl, Nat.le_of_ble_eq_true rfl⟩ dX8_best_94 (fun r22 u23 H locs hp hZ => ?_)
                obtain ⟨f24, rfl⟩ := hp
                have hZ : zz_Z g A s.heap [cw_l g a_candidates 384 caf, cw_i g a_chosen 24 ch2, cw_i g a_bestOf 24 be1, cw_z g a_pinned 4000 pnf, cw_i g a_decisionArray 24 daf, cw_i g a_decisionPlace 24 dqf, cw_i g a_candidateMany 24 cof, cw_k7 h0 (nI na) (nI ne) a_kindOf a_depthOf a_lengthOf a_classOf a_baseOf a_bits a_pinned i_code a_lengths a_stackArray a_stackOther a_stackAt i_lastArray i_lastPlace a_path a_held a_alike a_hashes (nI nd) a_decisionArray a_decisionPlace a_candidateMany a_candidates (nI nr) a_ruleSort a_ruleArray a_ruleWeight a_ruleLow a_ruleHigh a_chosen a_bestOf (nI nm) a_markElements a_markBits a_markPins, cw_i g a_kindOf 60 kdf, cw_i g a_lengthOf 60 lnf, cw_i g a_baseOf 60 saf, cw_l g a_bits 4000 bt2, cw_i g a_ruleSort 12 rsf, cw_i g a_ruleArray 12 juf, cw_l g a_ruleLow 12 lof, cw_l g a_ruleHigh 12 hif, cw_i g a_ruleWeight 12 wef] H locs := hZ
                refine lv_lstore (lv' := [(6, .long r22), (5, .int (nI lf)), (4, .int (nI i)), (2, .long le), (1, .int r1), (0, .ref h0)]) hx hb dX8_best_97 hl (by decide) rfl (fun ls hl => ?_)
                refine lv_iload hx hb dX8_best_99 (lv_at hl 2 rfl) ?_
                have bd26 : i < 2 ^ 31 := by omega
                refine lv_if_eq (tgt := 111) hx hb dX8_best_101 (by decide) (fun c25 => ?_) (fun c25 => ?_)
                · have nc25 : i = 0 := (nI_eq bd26 (by decide)).mp (show nI (i) = nI (0) from c25)
                  refine lv_lload hx hb dX8_best_111 (lv_at hl 0 rfl) ?_
                  refine lv_lstore_n (lv' := [(2, .long r22), (6, .long r22), (5, .int (nI lf)), (4, .int (nI i)), (1, .int r1), (0, .ref h0)]) hx hb dX8_best_113 rfl hl (by decide) rfl (fun ls hl => ?_)
                  refine lv_iconst (v := 0) hx hb dX8_best_114 (by decide) ?_
                  refine lv_istore (lv' := [(8, .int 0), (2, .long r22), (6, .long r22), (5, .int (nI lf)), (4, .int (nI i)), (1, .int r1), (0, .ref h0)]) hx hb dX8_best_115 hl (by decide) rfl (fun ls hl => ?_)
                  have LP27 : ∀ (N27 : Nat) (i3 : Nat) (be3 : Nat → Int32) (H : Heap) (locs : List Loc) (ls : Array Slot), (i3 ≤ nd) → (zz_TI be3) → (∀ d, d < i3 → be3 d = ch2 d) → (nd - i3) < N27 → zz_Z g A s.heap [cw_l g a_candidates 384 caf, cw_i g a_chosen 24 ch2, cw_i g a_bestOf 24 be3, cw_z g a_pinned 4000 pnf, cw_i g a_decisionArray 24 daf, cw_i g a_decisionPlace 24 dqf, cw_i g a_candidateMany 24 cof, cw_k7 h0 (nI na) (nI ne) a_kindOf a_depthOf a_lengthOf a_classOf a_baseOf a_bits a_pinned i_code a_lengths a_stackArray a_stackOther a_stackAt i_lastArray i_lastPlace a_path a_held a_alike a_hashes (nI nd) a_decisionArray a_decisionPlace a_candidateMany a_candidates (nI nr) a_ruleSort a_ruleArray a_ruleWeight a_ruleLow a_ruleHigh a_chosen a_bestOf (nI nm) a_markElements a_markBits a_markPins, cw_i g a_kindOf 60 kdf, cw_i g a_lengthOf 60 lnf, cw_i g a_baseOf 60 saf, cw_l g a_bits 4000 bt2, cw_i g a_ruleSort 12 rsf, cw_i g a_ruleArray 12 juf, cw_l g a_ruleLow 12 lof, cw_l g a_ruleHigh 12 hif, cw_i g a_ruleWeight 12 wef] H locs → lv_has ls 9 [(8, .int (nI i3)), (2, .long r22), (6, .long r22), (5, .int (nI lf)), (4, .int (nI i)), (1, .int r1), (0, .ref h0)] → W p l e rm_my_best s m args below meth c H locs 0 0 (zz_QI below g args s A rm_my_best.cells rm_my_best.slots (po_my_best g h0 a_kindOf a_depthOf a_lengthOf a_classOf a_baseOf a_bits a_pinned a_lengths a_stackArray a_stackOther a_stackAt a_path a_held a_alike a_hashes a_decisionArray a_decisionPlace a_candidateMany a_candidates a_ruleSort a_ruleArray a_ruleWeight a_ruleLow a_ruleHigh a_chosen a_bestOf a_markElements a_markBits a_markPins na ne nd nr nm i_code i_lastArray i_lastPlace kdf lnf saf btf pnf daf dqf cof caf rsf juf wef lof hif chf bef dpf h_M h_D h_R h_T h_U h_I)) (F0 m 117 ls []) := by
                    intro N27
                    induction N27 with
                    | zero =>
                      intro i3 be3 H locs ls hi3 hU3 hcp hN27
                      exact absurd hN27 (Nat.not_lt_zero _)
                    | succ N27 ih27 =>
                      intro i3 be3 H locs ls hi3 hU3 hcp hN27 hZ hl
                      refine lv_iload hx hb dX8_best_117 (lv_at hl 0 rfl) ?_
                      refine lv_aload_n hx hb dX8_best_119 rfl (lv_at hl 6 rfl) ?_
                      refine zz_get hC hZ 7 rfl zf_X8_248 rfl dX8_best_120 ?_
                      have bd29 : nd < 2 ^ 31 := by omega
                      have bd30 : i3 < 2 ^ 31 := by omega
                      refine lv_icmp_ge (tgt := 146) hx hb dX8_best_123 (by decide) (fun c28 => ?_) (fun c28 => ?_)
                      · have nc28 : nd ≤ i3 := (nI_leI bd29 bd30).mp (show nI (nd) ≤ nI (i3) from c28)
                        refine lv_iinc (v := nI (i + 1)) (lv' := [(4, .int (nI (i + 1))), (8, .int (nI i3)), (2, .long r22), (6, .long r22), (5, .int (nI lf)), (1, .int r1), (0, .ref h0)]) hx hb dX8_best_146 hl (k := 4) rfl (nI_1 _) (by decide) rfl (fun ls hl => ?_)
                        refine lv_goto (tgt := 24) hx hb dX8_best_149 (by decide) ?_
                        have hK0 := zl_K0 hdv (by omega) c21
                        have ebt : sp_tkw pnf (zz_sM saf daf dqf) cof caf nd i bt1 = bt2 := by rw [htk, hK0, sp_tkw]
                        have eSC := f24.trans (congrArg (fun z => sp_ts kdf z rsf juf wef lof hif saf lnf nr 0 0) (ebt.symm.trans (hbw i)))
                        exact ih5 (i + 1) r22 bt2 ch2 be3 i H locs ls (by omega) (hM2) (hT2) (hU3) (hX2) (by omega) (fun w => by rw [← ebt, zl_tkk h_I (zl_MD16 h_D)]; exact hbw w) (fun _ => zl_ar02 (by omega) eSC) (fun _ d hd => (hcp d (by omega)).trans (hdg d (by omega) hd)) (by omega) (hZ.sub [8, 9, 11, 0, 12, 13, 16, 14, 15, 1, 2, 7, 10, 3, 4, 5, 6] (by decide +kernel) rfl) (lv_sub hl [0, 2, 5, 6] rfl)
                      · have nc28 : ¬ nd ≤ i3 := fun zq => c28 (show nI (nd) ≤ nI (i3) from (nI_leI bd29 bd30).mpr zq)
                        refine lv_aload_n hx hb dX8_best_126 rfl (lv_at hl 6 rfl) ?_
                        refine zz_get hC hZ 7 rfl zf_X8_87 rfl dX8_best_127 ?_
                        refine lv_iload hx hb dX8_best_130 (lv_at hl 0 rfl) ?_
                        refine lv_aload_n hx hb dX8_best_132 rfl (lv_at hl 6 rfl) ?_
                        refine zz_get hC hZ 7 rfl zf_X8_84 rfl dX8_best_133 ?_
                        refine lv_iload hx hb dX8_best_136 (lv_at hl 0 rfl) ?_
                        have bd31 : i3 < 24 := by omega
                        refine zz_ialdn hC hZ 1 rfl bd31 (by decide) dX8_best_138 ?_
                        refine zz_iastn hC hZ 2 rfl bd31 (by decide) dX8_best_139 (fun H locs hZ => ?_)
                        have hZ : zz_Z g A s.heap [cw_l g a_candidates 384 caf, cw_i g a_chosen 24 ch2, cw_i g a_bestOf 24 (upd be3 i3 (ch2 i3)), cw_z g a_pinned 4000 pnf, cw_i g a_decisionArray 24 daf, cw_i g a_decisionPlace 24 dqf, cw_i g a_candidateMany 24 cof, cw_k7 h0 (nI na) (nI ne) a_kindOf a_depthOf a_lengthOf a_classOf a_baseOf a_bits a_pinned i_code a_lengths a_stackArray a_stackOther a_stackAt i_lastArray i_lastPlace a_path a_held a_alike a_hashes (nI nd) a_decisionArray a_decisionPlace a_candidateMany a_candidates (nI nr) a_ruleSort a_ruleArray a_ruleWeight a_ruleLow a_ruleHigh a_chosen a_bestOf (nI nm) a_markElements a_markBits a_markPins, cw_i g a_kindOf 60 kdf, cw_i g a_lengthOf 60 lnf, cw_i g a_baseOf 60 saf, cw_l g a_bits 4000 bt2, cw_i g a_ruleSort 12 rsf, cw_i g a_ruleArray 12 juf, cw_l g a_ruleLow 12 lof, cw_l g a_ruleHigh 12 hif, cw_i g a_ruleWeight 12 wef] H locs := hZ
                        refine lv_iinc (v := nI (i3 + 1)) (lv' := [(8, .int (nI (i3 + 1))), (2, .long r22), (6, .long r22), (5, .int (nI lf)), (4, .int (nI i)), (1, .int r1), (0, .ref h0)]) hx hb dX8_best_140 hl (k := 0) rfl (nI_1 _) (by decide) rfl (fun ls hl => ?_)
                        refine lv_goto (tgt := 117) hx hb dX8_best_143 (by decide) ?_
                        exact ih27 (i3 + 1) (upd be3 i3 (ch2 i3)) H locs ls (by omega) (zl_TIc hU3 (hT2 i3)) (fun d hd => by by_cases z : d = i3; (rw [z, pk_us]); (rw [pk_un z]; exact hcp d (by omega))) (by omega) hZ (lv_sub hl [0, 1, 2, 3, 4, 5, 6] rfl)
                  exact LP27 _ 0 be1 H locs ls (by omega) (hU1) (fun d hd => absurd hd (Nat.not_lt_zero d)) (Nat.lt_succ_self _) hZ (lv_sub hl [0, 1, 2, 3, 4, 5, 6] rfl)
                · have nc25 : ¬ i = 0 := fun zq => c25 (show nI (i) = nI (0) from (nI_eq bd26 (by decide)).mpr zq)
                  refine lv_lload hx hb dX8_best_104 (lv_at hl 0 rfl) ?_
                  refine lv_lload_n hx hb dX8_best_106 rfl (lv_at hl 3 rfl) ?_
                  refine zz_lcmp_ge (tgt := 146) hC dX8_best_107 dX8_best_108 (by decide) (fun c32 => ?_) (fun c32 => ?_)
                  · refine lv_iinc (v := nI (i + 1)) (lv' := [(4, .int (nI (i + 1))), (6, .long r22), (5, .int (nI lf)), (2, .long le), (1, .int r1), (0, .ref h0)]) hx hb dX8_best_146 hl (k := 2) rfl (nI_1 _) (by decide) rfl (fun ls hl => ?_)
                    refine lv_goto (tgt := 24) hx hb dX8_best_149 (by decide) ?_
                    have hK0 := zl_K0 hdv (by omega) c21
                    have ebt : sp_tkw pnf (zz_sM saf daf dqf) cof caf nd i bt1 = bt2 := by rw [htk, hK0, sp_tkw]
                    have eSC := f24.trans (congrArg (fun z => sp_ts kdf z rsf juf wef lof hif saf lnf nr 0 0) (ebt.symm.trans (hbw i)))
                    exact ih5 (i + 1) le bt2 ch2 be1 fo H locs ls (by omega) (hM2) (hT2) (hU1) (hX2) (by omega) (fun w => by rw [← ebt, zl_tkk h_I (zl_MD16 h_D)]; exact hbw w) (fun _ => zl_arF2 (by omega) (har (by omega)) eSC c32) (fun _ => hbe (by omega)) (by omega) (hZ.sub [8, 9, 11, 0, 12, 13, 16, 14, 15, 1, 2, 7, 10, 3, 4, 5, 6] (by decide +kernel) rfl) (lv_sub hl [0, 3, 4, 5] rfl)
                  · refine lv_lload hx hb dX8_best_111 (lv_at hl 0 rfl) ?_
                    refine lv_lstore_n (lv' := [(2, .long r22), (6, .long r22), (5, .int (nI lf)), (4, .int (nI i)), (1, .int r1), (0, .ref h0)]) hx hb dX8_best_113 rfl hl (by decide) rfl (fun ls hl => ?_)
                    refine lv_iconst (v := 0) hx hb dX8_best_114 (by decide) ?_
                    refine lv_istore (lv' := [(8, .int 0), (2, .long r22), (6, .long r22), (5, .int (nI lf)), (4, .int (nI i)), (1, .int r1), (0, .ref h0)]) hx hb dX8_best_115 hl (by decide) rfl (fun ls hl => ?_)
                    have LP33 : ∀ (N33 : Nat) (i3 : Nat) (be3 : Nat → Int32) (H : Heap) (locs : List Loc) (ls : Array Slot), (i3 ≤ nd) → (zz_TI be3) → (∀ d, d < i3 → be3 d = ch2 d) → (nd - i3) < N33 → zz_Z g A s.heap [cw_l g a_candidates 384 caf, cw_i g a_chosen 24 ch2, cw_i g a_bestOf 24 be3, cw_z g a_pinned 4000 pnf, cw_i g a_decisionArray 24 daf, cw_i g a_decisionPlace 24 dqf, cw_i g a_candidateMany 24 cof, cw_k7 h0 (nI na) (nI ne) a_kindOf a_depthOf a_lengthOf a_classOf a_baseOf a_bits a_pinned i_code a_lengths a_stackArray a_stackOther a_stackAt i_lastArray i_lastPlace a_path a_held a_alike a_hashes (nI nd) a_decisionArray a_decisionPlace a_candidateMany a_candidates (nI nr) a_ruleSort a_ruleArray a_ruleWeight a_ruleLow a_ruleHigh a_chosen a_bestOf (nI nm) a_markElements a_markBits a_markPins, cw_i g a_kindOf 60 kdf, cw_i g a_lengthOf 60 lnf, cw_i g a_baseOf 60 saf, cw_l g a_bits 4000 bt2, cw_i g a_ruleSort 12 rsf, cw_i g a_ruleArray 12 juf, cw_l g a_ruleLow 12 lof, cw_l g a_ruleHigh 12 hif, cw_i g a_ruleWeight 12 wef] H locs → lv_has ls 9 [(8, .int (nI i3)), (2, .long r22), (6, .long r22), (5, .int (nI lf)), (4, .int (nI i)), (1, .int r1), (0, .ref h0)] → W p l e rm_my_best s m args below meth c H locs 0 0 (zz_QI below g args s A rm_my_best.cells rm_my_best.slots (po_my_best g h0 a_kindOf a_depthOf a_lengthOf a_classOf a_baseOf a_bits a_pinned a_lengths a_stackArray a_stackOther a_stackAt a_path a_held a_alike a_hashes a_decisionArray a_decisionPlace a_candidateMany a_candidates a_ruleSort a_ruleArray a_ruleWeight a_ruleLow a_ruleHigh a_chosen a_bestOf a_markElements a_markBits a_markPins na ne nd nr nm i_code i_lastArray i_lastPlace kdf lnf saf btf pnf daf dqf cof caf rsf juf wef lof hif chf bef dpf h_M h_D h_R h_T h_U h_I)) (F0 m 117 ls []) := by
                      intro N33
                      induction N33 with
                      | zero =>
                        intro i3 be3 H locs ls hi3 hU3 hcp hN33
                        exact absurd hN33 (Nat.not_lt_zero _)
                      | succ N33 ih33 =>
                        intro i3 be3 H locs ls hi3 hU3 hcp hN33 hZ hl
                        refine lv_iload hx hb dX8_best_117 (lv_at hl 0 rfl) ?_
                        refine lv_aload_n hx hb dX8_best_119 rfl (lv_at hl 6 rfl) ?_
                        refine zz_get hC hZ 7 rfl zf_X8_248 rfl dX8_best_120 ?_
                        have bd35 : nd < 2 ^ 31 := by omega
                        have bd36 : i3 < 2 ^ 31 := by omega
                        refine lv_icmp_ge (tgt := 146) hx hb dX8_best_123 (by decide) (fun c34 => ?_) (fun c34 => ?_)
                        · have nc34 : nd ≤ i3 := (nI_leI bd35 bd36).mp (show nI (nd) ≤ nI (i3) from c34)
                          refine lv_iinc (v := nI (i + 1)) (lv' := [(4, .int (nI (i + 1))), (8, .int (nI i3)), (2, .long r22), (6, .long r22), (5, .int (nI lf)), (1, .int r1), (0, .ref h0)]) hx hb dX8_best_146 hl (k := 4) rfl (nI_1 _) (by decide) rfl (fun ls hl => ?_)
                          refine lv_goto (tgt := 24) hx hb dX8_best_149 (by decide) ?_
                          have hK0 := zl_K0 hdv (by omega) c21
                          have ebt : sp_tkw pnf (zz_sM saf daf dqf) cof caf nd i bt1 = bt2 := by rw [htk, hK0, sp_tkw]
                          have eSC := f24.trans (congrArg (fun z => sp_ts kdf z rsf juf wef lof hif saf lnf nr 0 0) (ebt.symm.trans (hbw i)))
                          exact ih5 (i + 1) r22 bt2 ch2 be3 i H locs ls (by omega) (hM2) (hT2) (hU3) (hX2) (by omega) (fun w => by rw [← ebt, zl_tkk h_I (zl_MD16 h_D)]; exact hbw w) (fun _ => zl_arT2 (by omega) (har (by omega)) eSC c32) (fun _ d hd => (hcp d (by omega)).trans (hdg d (by omega) hd)) (by omega) (hZ.sub [8, 9, 11, 0, 12, 13, 16, 14, 15, 1, 2, 7, 10, 3, 4, 5, 6] (by decide +kernel) rfl) (lv_sub hl [0, 2, 5, 6] rfl)
                        · have nc34 : ¬ nd ≤ i3 := fun zq => c34 (show nI (nd) ≤ nI (i3) from (nI_leI bd35 bd36).mpr zq)
                          refine lv_aload_n hx hb dX8_best_126 rfl (lv_at hl 6 rfl) ?_
                          refine zz_get hC hZ 7 rfl zf_X8_87 rfl dX8_best_127 ?_
                          refine lv_iload hx hb dX8_best_130 (lv_at hl 0 rfl) ?_
                          refine lv_aload_n hx hb dX8_best_132 rfl (lv_at hl 6 rfl) ?_
                          refine zz_get hC hZ 7 rfl zf_X8_84 rfl dX8_best_133 ?_
                          refine lv_iload hx hb dX8_best_136 (lv_at hl 0 rfl) ?_
                          have bd37 : i3 < 24 := by omega
                          refine zz_ialdn hC hZ 1 rfl bd37 (by decide) dX8_best_138 ?_
                          refine zz_iastn hC hZ 2 rfl bd37 (by decide) dX8_best_139 (fun H locs hZ => ?_)
                          have hZ : zz_Z g A s.heap [cw_l g a_candidates 384 caf, cw_i g a_chosen 24 ch2, cw_i g a_bestOf 24 (upd be3 i3 (ch2 i3)), cw_z g a_pinned 4000 pnf, cw_i g a_decisionArray 24 daf, cw_i g a_decisionPlace 24 dqf, cw_i g a_candidateMany 24 cof, cw_k7 h0 (nI na) (nI ne) a_kindOf a_depthOf a_lengthOf a_classOf a_baseOf a_bits a_pinned i_code a_lengths a_stackArray a_stackOther a_stackAt i_lastArray i_lastPlace a_path a_held a_alike a_hashes (nI nd) a_decisionArray a_decisionPlace a_candidateMany a_candidates (nI nr) a_ruleSort a_ruleArray a_ruleWeight a_ruleLow a_ruleHigh a_chosen a_bestOf (nI nm) a_markElements a_markBits a_markPins, cw_i g a_kindOf 60 kdf, cw_i g a_lengthOf 60 lnf, cw_i g a_baseOf 60 saf, cw_l g a_bits 4000 bt2, cw_i g a_ruleSort 12 rsf, cw_i g a_ruleArray 12 juf, cw_l g a_ruleLow 12 lof, cw_l g a_ruleHigh 12 hif, cw_i g a_ruleWeight 12 wef] H locs := hZ
                          refine lv_iinc (v := nI (i3 + 1)) (lv' := [(8, .int (nI (i3 + 1))), (2, .long r22), (6, .long r22), (5, .int (nI lf)), (4, .int (nI i)), (1, .int r1), (0, .ref h0)]) hx hb dX8_best_140 hl (k := 0) rfl (nI_1 _) (by decide) rfl (fun ls hl => ?_)
                          refine lv_goto (tgt := 117) hx hb dX8_best_143 (by decide) ?_
                          exact ih33 (i3 + 1) (upd be3 i3 (ch2 i3)) H locs ls (by omega) (zl_TIc hU3 (hT2 i3)) (fun d hd => by by_cases z : d = i3; (rw [z, pk_us]); (rw [pk_un z]; exact hcp d (by omega))) (by omega) hZ (lv_sub hl [0, 1, 2, 3, 4, 5, 6] rfl)
                    exact LP33 _ 0 be1 H locs ls (by omega) (hU1) (fun d hd => absurd hd (Nat.not_lt_zero d)) (Nat.lt_succ_self _) hZ (lv_sub hl [0, 1, 2, 3, 4, 5, 6] rfl)
              · obtain ⟨D, eD, edD⟩ := zl_lev hdv c21
                have hl : lv_has ls 9 [(6, .int (nI D)), (5, .int (nI lf)), (4, .int (nI i)), (2, .long le), (1, .int r1), (0, .ref h0)] := by rw [← edD]; exact hl
                refine lv_aload_n hx hb dX8_best_47 rfl (lv_at hl 5 rfl) ?_
                refine zz_get hC hZ 11 rfl zf_X8_84 rfl dX8_best_48 ?_
                refine lv_iload hx hb dX8_best_51 (lv_at hl 0 rfl) ?_
                refine lv_iload hx hb dX8_best_53 (lv_at hl 1 rfl) ?_
                refine lv_aload_n hx hb dX8_best_55 rfl (lv_at hl 5 rfl) ?_
                refine lv_iload hx hb dX8_best_56 (lv_at hl 0 rfl) ?_
                refine zz_iV (As := [.int (nI D)]) (wc := [cw_k7 h0 (nI na) (nI ne) a_kindOf a_depthOf a_lengthOf a_classOf a_baseOf a_bits a_pinned i_code a_lengths a_stackArray a_stackOther a_stackAt i_lastArray i_lastPlace a_path a_held a_alike a_hashes (nI nd) a_decisionArray a_decisionPlace a_candidateMany a_candidates (nI nr) a_ruleSort a_ruleArray a_ruleWeight a_ruleLow a_ruleHigh a_chosen a_bestOf (nI nm) a_markElements a_markBits a_markPins, cw_i g a_baseOf 60 saf, cw_z g a_pinned 4000 pnf, cw_i g a_decisionArray 24 daf, cw_i g a_decisionPlace 24 dqf, cw_i g a_candidateMany 24 cof]) (wr := [cw_i g a_kindOf 60 kdf, cw_i g a_lengthOf 60 lnf, cw_l g a_bits 4000 bt2, cw_l g a_candidates 384 caf, cw_i g a_ruleSort 12 rsf, cw_i g a_ruleArray 12 juf, cw_i g a_ruleWeight 12 wef, cw_l g a_ruleLow 12 lof, cw_l g a_ruleHigh 12 hif, cw_i g a_chosen 24 ch2, cw_i g a_bestOf 24 be1]) (rest := [.int (nI lf), .int (nI D), .ref a_chosen]) hC hZ hs hl zc_X8_285 (cm_choices g h0 a_kindOf a_depthOf a_lengthOf a_classOf a_baseOf a_bits a_pinned a_lengths a_stackArray a_stackOther a_stackAt a_path a_held a_alike a_hashes a_decisionArray a_decisionPlace a_candidateMany a_candidates a_ruleSort a_ruleArray a_ruleWeight a_ruleLow a_ruleHigh a_chosen a_bestOf a_markElements a_markBits a_markPins na ne nd nr nm i_code i_lastArray i_lastPlace saf pnf daf dqf cof dpf lnf D (by omega) (h_D)) [11, 12, 13, 14, 15, 16] [0, 1, 2, 3, 4, 5, 6, 7, 8, 9, 10] rfl rfl (by decide +kernel) (ci := 7) (q0 := 0) rfl rfl rfl rfl (Nat.le_of_ble_eq_true rfl) ⟨⟨Nat.le_of_ble_eq_true rfl, Nat.le_of_ble_eq_true rfl⟩, Nat.le_of_ble_eq_true rfl, Nat.le_of_ble_eq_true rfl⟩ dX8_best_58 (fun r38 u39 H locs hp hZ => ?_)
                obtain ⟨cn_40, f41, f42, f43, f44, rfl⟩ := hp
                have hZ : zz_Z g A s.heap [cw_i g a_kindOf 60 kdf, cw_i g a_lengthOf 60 lnf, cw_l g a_bits 4000 bt2, cw_l g a_candidates 384 caf, cw_i g a_ruleSort 12 rsf, cw_i g a_ruleArray 12 juf, cw_i g a_ruleWeight 12 wef, cw_l g a_ruleLow 12 lof, cw_l g a_ruleHigh 12 hif, cw_i g a_chosen 24 ch2, cw_i g a_bestOf 24 be1, cw_k7 h0 (nI na) (nI ne) a_kindOf a_depthOf a_lengthOf a_classOf a_baseOf a_bits a_pinned i_code a_lengths a_stackArray a_stackOther a_stackAt i_lastArray i_lastPlace a_path a_held a_alike a_hashes (nI nd) a_decisionArray a_decisionPlace a_candidateMany a_candidates (nI nr) a_ruleSort a_ruleArray a_ruleWeight a_ruleLow a_ruleHigh a_chosen a_bestOf (nI nm) a_markElements a_markBits a_markPins, cw_i g a_baseOf 60 saf, cw_z g a_pinned 4000 pnf, cw_i g a_decisionArray 24 daf, cw_i g a_decisionPlace 24 dqf, cw_i g a_candidateMany 24 cof] H locs := hZ
                refine zz_topi (v := nI cn_40) (f41) ?_
                have hcn58 := f42
                have ecn58 := f44
                have hmod : lf % cn_40 < cn_40 := Nat.mod_lt _ (by omega)
                refine lv_irem hx hb dX8_best_61 (nI_ne0 (by omega) (by omega)) ?_
                refine zz_topi (v := nI (lf % cn_40)) (pk_rem (by omega) (by omega) (by omega)) ?_
                have bd45 : D < 24 := by omega
                refine zz_iastn hC hZ 9 rfl bd45 (by decide) dX8_best_62 (fun H locs hZ => ?_)
                have hZ : zz_Z g A s.heap [cw_i g a_kindOf 60 kdf, cw_i g a_lengthOf 60 lnf, cw_l g a_bits 4000 bt2, cw_l g a_candidates 384 caf, cw_i g a_ruleSort 12 rsf, cw_i g a_ruleArray 12 juf, cw_i g a_ruleWeight 12 wef, cw_l g a_ruleLow 12 lof, cw_l g a_ruleHigh 12 hif, cw_i g a_chosen 24 (upd ch2 D (nI (lf % cn_40))), cw_i g a_bestOf 24 be1, cw_k7 h0 (nI na) (nI ne) a_kindOf a_depthOf a_lengthOf a_classOf a_baseOf a_bits a_pinned i_code a_lengths a_stackArray a_stackOther a_stackAt i_lastArray i_lastPlace a_path a_held a_alike a_hashes (nI nd) a_decisionArray a_decisionPlace a_candidateMany a_candidates (nI nr) a_ruleSort a_ruleArray a_ruleWeight a_ruleLow a_ruleHigh a_chosen a_bestOf (nI nm) a_markElements a_markBits a_markPins, cw_i g a_baseOf 60 saf, cw_z g a_pinned 4000 pnf, cw_i g a_decisionArray 24 daf, cw_i g a_decisionPlace 24 dqf, cw_i g a_candidateMany 24 cof] H locs := hZ
                refine lv_iload hx hb dX8_best_63 (lv_at hl 1 rfl) ?_
                refine lv_aload_n hx hb dX8_best_65 rfl (lv_at hl 5 rfl) ?_
                refine lv_iload hx hb dX8_best_66 (lv_at hl 0 rfl) ?_
                refine zz_iV (As := [.int (nI D)]) (wc := [cw_k7 h0 (nI na) (nI ne) a_kindOf a_depthOf a_lengthOf a_classOf a_baseOf a_bits a_pinned i_code a_lengths a_stackArray a_stackOther a_stackAt i_lastArray i_lastPlace a_path a_held a_alike a_hashes (nI nd) a_decisionArray a_decisionPlace a_candidateMany a_candidates (nI nr) a_ruleSort a_ruleArray a_ruleWeight a_ruleLow a_ruleHigh a_chosen a_bestOf (nI nm) a_markElements a_markBits a_markPins, cw_i g a_baseOf 60 saf, cw_z g a_pinned 4000 pnf, cw_i g a_decisionArray 24 daf, cw_i g a_decisionPlace 24 dqf, cw_i g a_candidateMany 24 cof]) (wr := [cw_i g a_kindOf 60 kdf, cw_i g a_lengthOf 60 lnf, cw_l g a_bits 4000 bt2, cw_l g a_candidates 384 caf, cw_i g a_ruleSort 12 rsf, cw_i g a_ruleArray 12 juf, cw_i g a_ruleWeight 12 wef, cw_l g a_ruleLow 12 lof, cw_l g a_ruleHigh 12 hif, cw_i g a_chosen 24 (upd ch2 D (nI (lf % cn_40))), cw_i g a_bestOf 24 be1]) (rest := [.int (nI lf)]) hC hZ hs hl zc_X8_285 (cm_choices g h0 a_kindOf a_depthOf a_lengthOf a_classOf a_baseOf a_bits a_pinned a_lengths a_stackArray a_stackOther a_stackAt a_path a_held a_alike a_hashes a_decisionArray a_decisionPlace a_candidateMany a_candidates a_ruleSort a_ruleArray a_ruleWeight a_ruleLow a_ruleHigh a_chosen a_bestOf a_markElements a_markBits a_markPins na ne nd nr nm i_code i_lastArray i_lastPlace saf pnf daf dqf cof dpf lnf D (by omega) (h_D)) [11, 12, 13, 14, 15, 16] [0, 1, 2, 3, 4, 5, 6, 7, 8, 9, 10] rfl rfl (by decide +kernel) (ci := 7) (q0 := 0) rfl rfl rfl rfl (Nat.le_of_ble_eq_true rfl) ⟨⟨Nat.le_of_ble_eq_true rfl, Nat.le_of_ble_eq_true rfl⟩, Nat.le_of_ble_eq_true rfl, Nat.le_of_ble_eq_true rfl⟩ dX8_best_68 (fun r46 u47 H locs hp hZ => ?_)
                obtain ⟨cn_48, f49, f50, f51, f52, rfl⟩ := hp
                have hZ : zz_Z g A s.heap [cw_i g a_kindOf 60 kdf, cw_i g a_lengthOf 60 lnf, cw_l g a_bits 4000 bt2, cw_l g a_candidates 384 caf, cw_i g a_ruleSort 12 rsf, cw_i g a_ruleArray 12 juf, cw_i g a_ruleWeight 12 wef, cw_l g a_ruleLow 12 lof, cw_l g a_ruleHigh 12 hif, cw_i g a_chosen 24 (upd ch2 D (nI (lf % cn_40))), cw_i g a_bestOf 24 be1, cw_k7 h0 (nI na) (nI ne) a_kindOf a_depthOf a_lengthOf a_classOf a_baseOf a_bits a_pinned i_code a_lengths a_stackArray a_stackOther a_stackAt i_lastArray i_lastPlace a_path a_held a_alike a_hashes (nI nd) a_decisionArray a_decisionPlace a_candidateMany a_candidates (nI nr) a_ruleSort a_ruleArray a_ruleWeight a_ruleLow a_ruleHigh a_chosen a_bestOf (nI nm) a_markElements a_markBits a_markPins, cw_i g a_baseOf 60 saf, cw_z g a_pinned 4000 pnf, cw_i g a_decisionArray 24 daf, cw_i g a_decisionPlace 24 dqf, cw_i g a_candidateMany 24 cof] H locs := hZ
                refine zz_topi (v := nI cn_48) (f49) ?_
                have hcn68 := f50
                have ecn68 := f52
                have ecn68b : cn_48 = cn_40 := ecn68.trans ecn58.symm
                refine lv_idiv hx hb dX8_best_71 (nI_ne0 (by omega) (by omega)) ?_
                refine zz_topi (v := nI (lf / cn_48)) (pk_div (by omega) (by omega) (by omega)) ?_
                refine lv_istore (lv' := [(5, .int (nI (lf / cn_48))), (6, .int (nI D)), (4, .int (nI i)), (2, .long le), (1, .int r1), (0, .ref h0)]) hx hb dX8_best_72 hl (by decide) rfl (fun ls hl => ?_)
                refine lv_aload_n hx hb dX8_best_74 rfl (lv_at hl 5 rfl) ?_
                refine lv_iload hx hb dX8_best_75 (lv_at hl 1 rfl) ?_
                refine lv_aload_n hx hb dX8_best_77 rfl (lv_at hl 5 rfl) ?_
                refine zz_get hC hZ 11 rfl zf_X8_84 rfl dX8_best_78 ?_
                refine lv_iload hx hb dX8_best_81 (lv_at hl 1 rfl) ?_
                refine zz_ialdn hC hZ 9 rfl bd45 (by decide) dX8_best_83 ?_
                refine zz_topi (v := nI (lf % cn_40)) (pk_us) ?_
                refine zz_vV (As := [.int (nI D), .int (nI (lf % cn_40))]) (wc := [cw_k7 h0 (nI na) (nI ne) a_kindOf a_depthOf a_lengthOf a_classOf a_baseOf a_bits a_pinned i_code a_lengths a_stackArray a_stackOther a_stackAt i_lastArray i_lastPlace a_path a_held a_alike a_hashes (nI nd) a_decisionArray a_decisionPlace a_candidateMany a_candidates (nI nr) a_ruleSort a_ruleArray a_ruleWeight a_ruleLow a_ruleHigh a_chosen a_bestOf (nI nm) a_markElements a_markBits a_markPins, cw_i g a_baseOf 60 saf, cw_l g a_bits 4000 bt2, cw_z g a_pinned 4000 pnf, cw_i g a_decisionArray 24 daf, cw_i g a_decisionPlace 24 dqf, cw_i g a_candidateMany 24 cof, cw_l g a_candidates 384 caf]) (wr := [cw_i g a_kindOf 60 kdf, cw_i g a_lengthOf 60 lnf, cw_i g a_ruleSort 12 rsf, cw_i g a_ruleArray 12 juf, cw_i g a_ruleWeight 12 wef, cw_l g a_ruleLow 12 lof, cw_l g a_ruleHigh 12 hif, cw_i g a_chosen 24 (upd ch2 D (nI (lf % cn_40))), cw_i g a_bestOf 24 be1]) (rest := []) hC hZ hs hl zc_X8_295 (cm_lay g h0 a_kindOf a_depthOf a_lengthOf a_classOf a_baseOf a_bits a_pinned a_lengths a_stackArray a_stackOther a_stackAt a_path a_held a_alike a_hashes a_decisionArray a_decisionPlace a_candidateMany a_candidates a_ruleSort a_ruleArray a_ruleWeight a_ruleLow a_ruleHigh a_chosen a_bestOf a_markElements a_markBits a_markPins na ne nd nr nm i_code i_lastArray i_lastPlace saf bt2 pnf daf dqf cof caf dpf lnf D (lf % cn_40) (by omega) (by omega) (hM2) (h_D)) [11, 12, 2, 13, 14, 15, 16, 3] [0, 1, 4, 5, 6, 7, 8, 9, 10] rfl rfl (by decide +kernel) (ci := 7) (q0 := 0) rfl rfl rfl rfl (Nat.le_of_ble_eq_true rfl) ⟨⟨Nat.le_of_ble_eq_true rfl, Nat.le_of_ble_eq_true rfl⟩, Nat.le_of_ble_eq_true rfl, Nat.le_of_ble_eq_true rfl⟩ dX8_best_84 (fun u54 H locs hp hZ => ?_)
                obtain ⟨bt2_55, f56, f57, f58, rfl⟩ := hp
                have hZ : zz_Z g A s.heap [cw_i g a_kindOf 60 kdf, cw_i g a_lengthOf 60 lnf, cw_i g a_ruleSort 12 rsf, cw_i g a_ruleArray 12 juf, cw_i g a_ruleWeight 12 wef, cw_l g a_ruleLow 12 lof, cw_l g a_ruleHigh 12 hif, cw_i g a_chosen 24 (upd ch2 D (nI (lf % cn_40))), cw_i g a_bestOf 24 be1, cw_k7 h0 (nI na) (nI ne) a_kindOf a_depthOf a_lengthOf a_classOf a_baseOf a_bits a_pinned i_code a_lengths a_stackArray a_stackOther a_stackAt i_lastArray i_lastPlace a_path a_held a_alike a_hashes (nI nd) a_decisionArray a_decisionPlace a_candidateMany a_candidates (nI nr) a_ruleSort a_ruleArray a_ruleWeight a_ruleLow a_ruleHigh a_chosen a_bestOf (nI nm) a_markElements a_markBits a_markPins, cw_i g a_baseOf 60 saf, cw_l g a_bits 4000 bt2_55, cw_z g a_pinned 4000 pnf, cw_i g a_decisionArray 24 daf, cw_i g a_decisionPlace 24 dqf, cw_i g a_candidateMany 24 cof, cw_l g a_candidates 384 caf] H locs := hZ
                refine lv_iinc (v := (nI D) + (-1)) (lv' := [(6, .int ((nI D) + (-1))), (5, .int (nI (lf / cn_48))), (4, .int (nI i)), (2, .long le), (1, .int r1), (0, .ref h0)]) hx hb dX8_best_87 hl (k := 1) rfl (by first | rfl | decide) (by decide) rfl (fun ls hl => ?_)
                refine lv_goto (tgt := 42) hx hb dX8_best_90 (by decide) ?_
                exact ih20 ((nI D) + (-1)) D (lf / cn_48) bt2_55 (upd ch2 D (nI (lf % cn_40))) H locs ls (rfl) (by omega) (by have := Nat.div_le_self lf cn_48; omega) (f56) (zl_TIu hT2 (by omega)) (hX2.tr f57) (by rw [htk, eD, zl_tkS (zl_MD16 h_D D (by omega)), ← ecn58, ecn68b, f58]) (fun d hd => by rw [hdl d (by omega), eD, zl_dgS hd, ← ecn68]) (fun d h1 h2 => by by_cases z : d = D; (rw [z, pk_us, hdl D (by omega), eD, zl_dgK, ← ecn58]); (rw [pk_un z]; exact hdg d (by omega) h2)) (by omega) (hZ.sub [0, 1, 11, 16, 2, 3, 4, 5, 6, 7, 8, 9, 10, 12, 13, 14, 15] (by decide +kernel) rfl) (lv_sub hl [0, 1, 2, 3, 4, 5] rfl)
          exact LP20 _ ((nI nd) + (-1)) nd i bt1 ch1 H locs ls (rfl) (by omega) (by omega) (hM1) (hT1) (hX1) (rfl) (fun _ _ => rfl) (fun d h1 h2 => absurd h1 (by omega)) (Nat.lt_succ_self _) hZ (lv_sub hl [0, 1, 2, 3, 4, 5] rfl)
    exact LP5 _ 0 0 btf chf bef 0 H locs ls (by omega) (h_M) (h_T) (h_U) (zz_D1.rf) (by omega) (fun _ => rfl) (fun z => absurd z (Nat.lt_irrefl 0)) (fun z => absurd z (Nat.lt_irrefl 0)) (Nat.lt_succ_self _) hZ (lv_sub hl [0, 1, 2, 3] rfl)
  · refine lv_aload_n hx hb dX8_best_12 rfl (lv_at hl 1 rfl) ?_
    refine lv_bipush (v := 8) hx hb dX8_best_13 (by decide) ?_
    refine zz_iV (As := [.int 8]) (wc := [cw_k7 h0 (nI na) (nI ne) a_kindOf a_depthOf a_lengthOf a_classOf a_baseOf a_bits a_pinned i_code a_lengths a_stackArray a_stackOther a_stackAt i_lastArray i_lastPlace a_path a_held a_alike a_hashes (nI nd) a_decisionArray a_decisionPlace a_candidateMany a_candidates (nI nr) a_ruleSort a_ruleArray a_ruleWeight a_ruleLow a_ruleHigh a_chosen a_bestOf (nI nm) a_markElements a_markBits a_markPins]) (wr := [cw_i g a_kindOf 60 kdf, cw_i g a_lengthOf 60 lnf, cw_l g a_bits 4000 btf, cw_l g a_candidates 384 caf, cw_i g a_ruleSort 12 rsf, cw_i g a_ruleArray 12 juf, cw_i g a_ruleWeight 12 wef, cw_l g a_ruleLow 12 lof, cw_l g a_ruleHigh 12 hif, cw_i g a_chosen 24 chf, cw_i g a_bestOf 24 bef, cw_i g a_baseOf 60 saf, cw_z g a_pinned 4000 pnf, cw_i g a_decisionArray 24 daf, cw_i g a_decisionPlace 24 dqf, cw_i g a_candidateMany 24 cof]) (rest := []) hC hZ hs hl zc_X8_175 (cm_fails g h0 a_kindOf a_depthOf a_lengthOf a_classOf a_baseOf a_bits a_pinned a_lengths a_stackArray a_stackOther a_stackAt a_path a_held a_alike a_hashes a_decisionArray a_decisionPlace a_candidateMany a_candidates a_ruleSort a_ruleArray a_ruleWeight a_ruleLow a_ruleHigh a_chosen a_bestOf a_markElements a_markBits a_markPins (nI na) (nI ne) i_code i_lastArray i_lastPlace (nI nd) (nI nr) (nI nm) 8) [11] [0, 1, 2, 3, 4, 5, 6, 7, 8, 9, 10, 12, 13, 14, 15, 16] rfl rfl (by decide +kernel) (ci := 7) (q0 := 0) rfl rfl rfl rfl (Nat.le_of_ble_eq_true rfl) ⟨⟨Nat.le_of_ble_eq_true rfl, Nat.le_of_ble_eq_true rfl⟩, Nat.le_of_ble_eq_true rfl, Nat.le_of_ble_eq_true rfl⟩ dX8_best_15 (fun r59 u60 H locs hp hZ => ?_)
    obtain ⟨rfl, rfl⟩ := hp
    have hZ : zz_Z g A s.heap [cw_i g a_kindOf 60 kdf, cw_i g a_lengthOf 60 lnf, cw_l g a_bits 4000 btf, cw_l g a_candidates 384 caf, cw_i g a_ruleSort 12 rsf, cw_i g a_ruleArray 12 juf, cw_i g a_ruleWeight 12 wef, cw_l g a_ruleLow 12 lof, cw_l g a_ruleHigh 12 hif, cw_i g a_chosen 24 chf, cw_i g a_bestOf 24 bef, cw_i g a_baseOf 60 saf, cw_z g a_pinned 4000 pnf, cw_i g a_decisionArray 24 daf, cw_i g a_decisionPlace 24 dqf, cw_i g a_candidateMany 24 cof, cw_k7 h0 (nI na) (nI ne) a_kindOf a_depthOf a_lengthOf a_classOf a_baseOf a_bits a_pinned 8 a_lengths a_stackArray a_stackOther a_stackAt i_lastArray i_lastPlace a_path a_held a_alike a_hashes (nI nd) a_decisionArray a_decisionPlace a_candidateMany a_candidates (nI nr) a_ruleSort a_ruleArray a_ruleWeight a_ruleLow a_ruleHigh a_chosen a_bestOf (nI nm) a_markElements a_markBits a_markPins] H locs := hZ
    have hZ : zz_Z g A s.heap [cw_k7 h0 (nI na) (nI ne) a_kindOf a_depthOf a_lengthOf a_classOf a_baseOf a_bits a_pinned 8 a_lengths a_stackArray a_stackOther a_stackAt i_lastArray i_lastPlace a_path a_held a_alike a_hashes (nI nd) a_decisionArray a_decisionPlace a_candidateMany a_candidates (nI nr) a_ruleSort a_ruleArray a_ruleWeight a_ruleLow a_ruleHigh a_chosen a_bestOf (nI nm) a_markElements a_markBits a_markPins, cw_i g a_kindOf 60 kdf, cw_i g a_lengthOf 60 lnf, cw_i g a_baseOf 60 saf, cw_l g a_bits 4000 btf, cw_z g a_pinned 4000 pnf, cw_i g a_decisionArray 24 daf, cw_i g a_decisionPlace 24 dqf, cw_i g a_candidateMany 24 cof, cw_l g a_candidates 384 caf, cw_i g a_ruleSort 12 rsf, cw_i g a_ruleArray 12 juf, cw_i g a_ruleWeight 12 wef, cw_l g a_ruleLow 12 lof, cw_l g a_ruleHigh 12 hif, cw_i g a_chosen 24 chf, cw_i g a_bestOf 24 bef] H locs := hZ.sub [16, 0, 1, 11, 2, 12, 13, 14, 15, 3, 4, 5, 6, 7, 8, 9, 10] (by decide +kernel) rfl
    exact zz_iret hC hZ (⟨8, i_lastArray, i_lastPlace, btf, chf, bef, h_M, h_T, h_U, zz_D1.rf, zl_bR8 (zl_wyL _ _ _ (by omega)) f3 c4, by rw [if_neg (zl_W5n (zl_wyL _ _ _ (by omega)) f3 c4)], rfl⟩) (Nat.le_of_ble_eq_true rfl) (Nat.le_of_ble_eq_true rfl) dX8_best_18
theorem dg_X8_count_0 : (decode cX8_count 0 = .ok (.iload_n 1, 1)) ∧ (decode cX8_count 1 = .ok (.i2l, 1)) ∧ (decode cX8_count 2 = .ok (.lconst 0, 1)) ∧ (decode cX8_count 3 = .ok (.ldc2_w 210, 3)) ∧ (decode cX8_count 6 = .ok (.invokestatic 106, 3)) ∧ (decode cX8_count 9 = .ok (.ifCond .ne 10, 3)) ∧ (decode cX8_count 12 = .ok (.aload_n 0, 1)) ∧ (decode cX8_count 13 = .ok (.bipush 9, 2)) ∧ (decode cX8_count 15 = .ok (.invokevirtual 175, 3)) ∧ (decode cX8_count 18 = .ok (.ireturn, 1)) ∧ (decode cX8_count 19 = .ok (.aload_n 0, 1)) ∧ (decode cX8_count 20 = .ok (.iload_n 1, 1)) ∧ (decode cX8_count 21 = .ok (.ifCond .ne 10, 3)) ∧ (decode cX8_count 24 = .ok (.aload_n 0, 1)) ∧ (decode cX8_count 25 = .ok (.getfield 103, 3)) ∧ (decode cX8_count 28 = .ok (.goto 55, 3)) := by decide +kernel
theorem dX8_count_0 : decode cX8_count 0 = .ok (.iload_n 1, 1) := dg_X8_count_0.1
theorem dX8_count_1 : decode cX8_count 1 = .ok (.i2l, 1) := dg_X8_count_0.2.1
theorem dX8_count_2 : decode cX8_count 2 = .ok (.lconst 0, 1) := dg_X8_count_0.2.2.1
theorem dX8_count_3 : decode cX8_count 3 = .ok (.ldc2_w 210, 3) := dg_X8_count_0.2.2.2.1
theorem dX8_count_6 : decode cX8_count 6 = .ok (.invokestatic 106, 3) := dg_X8_count_0.2.2.2.2.1
theorem dX8_count_9 : decode cX8_count 9 = .ok (.ifCond .ne 10, 3) := dg_X8_count_0.2.2.2.2.2.1
theorem dX8_count_12 : decode cX8_count 12 = .ok (.aload_n 0, 1) := dg_X8_count_0.2.2.2.2.2.2.1
theorem dX8_count_13 : decode cX8_count 13 = .ok (.bipush 9, 2) := dg_X8_count_0.2.2.2.2.2.2.2.1
theorem dX8_count_15 : decode cX8_count 15 = .ok (.invokevirtual 175, 3) := dg_X8_count_0.2.2.2.2.2.2.2.2.1
theorem dX8_count_18 : decode cX8_count 18 = .ok (.ireturn, 1) := dg_X8_count_0.2.2.2.2.2.2.2.2.2.1
theorem dX8_count_19 : decode cX8_count 19 = .ok (.aload_n 0, 1) := dg_X8_count_0.2.2.2.2.2.2.2.2.2.2.1
theorem dX8_count_20 : decode cX8_count 20 = .ok (.iload_n 1, 1) := dg_X8_count_0.2.2.2.2.2.2.2.2.2.2.2.1
theorem dX8_count_21 : decode cX8_count 21 = .ok (.ifCond .ne 10, 3) := dg_X8_count_0.2.2.2.2.2.2.2.2.2.2.2.2.1
theorem dX8_count_24 : decode cX8_count 24 = .ok (.aload_n 0, 1) := dg_X8_count_0.2.2.2.2.2.2.2.2.2.2.2.2.2.1
theorem dX8_count_25 : decode cX8_count 25 = .ok (.getfield 103, 3) := dg_X8_count_0.2.2.2.2.2.2.2.2.2.2.2.2.2.2.1
theorem dX8_count_28 : decode cX8_count 28 = .ok (.goto 55, 3) := dg_X8_count_0.2.2.2.2.2.2.2.2.2.2.2.2.2.2.2
theorem dg_X8_count_31 : (decode cX8_count 31 = .ok (.iload_n 1, 1)) ∧ (decode cX8_count 32 = .ok (.iconst 1, 1)) ∧ (decode cX8_count 33 = .ok (.if_icmp .ne 10, 3)) ∧ (decode cX8_count 36 = .ok (.aload_n 0, 1)) ∧ (decode cX8_count 37 = .ok (.getfield 186, 3)) ∧ (decode cX8_count 40 = .ok (.goto 43, 3)) ∧ (decode cX8_count 43 = .ok (.iload_n 1, 1)) ∧ (decode cX8_count 44 = .ok (.iconst 2, 1)) ∧ (decode cX8_count 45 = .ok (.if_icmp .ne 10, 3)) ∧ (decode cX8_count 48 = .ok (.aload_n 0, 1)) ∧ (decode cX8_count 49 = .ok (.getfield 248, 3)) ∧ (decode cX8_count 52 = .ok (.goto 31, 3)) ∧ (decode cX8_count 55 = .ok (.iload_n 1, 1)) ∧ (decode cX8_count 56 = .ok (.iconst 3, 1)) ∧ (decode cX8_count 57 = .ok (.if_icmp .ne 10, 3)) ∧ (decode cX8_count 60 = .ok (.aload_n 0, 1)) := by decide +kernel
theorem dX8_count_31 : decode cX8_count 31 = .ok (.iload_n 1, 1) := dg_X8_count_31.1
theorem dX8_count_32 : decode cX8_count 32 = .ok (.iconst 1, 1) := dg_X8_count_31.2.1
theorem dX8_count_33 : decode cX8_count 33 = .ok (.if_icmp .ne 10, 3) := dg_X8_count_31.2.2.1
theorem dX8_count_36 : decode cX8_count 36 = .ok (.aload_n 0, 1) := dg_X8_count_31.2.2.2.1
theorem dX8_count_37 : decode cX8_count 37 = .ok (.getfield 186, 3) := dg_X8_count_31.2.2.2.2.1
theorem dX8_count_40 : decode cX8_count 40 = .ok (.goto 43, 3) := dg_X8_count_31.2.2.2.2.2.1
theorem dX8_count_43 : decode cX8_count 43 = .ok (.iload_n 1, 1) := dg_X8_count_31.2.2.2.2.2.2.1
theorem dX8_count_44 : decode cX8_count 44 = .ok (.iconst 2, 1) := dg_X8_count_31.2.2.2.2.2.2.2.1
theorem dX8_count_45 : decode cX8_count 45 = .ok (.if_icmp .ne 10, 3) := dg_X8_count_31.2.2.2.2.2.2.2.2.1
theorem dX8_count_48 : decode cX8_count 48 = .ok (.aload_n 0, 1) := dg_X8_count_31.2.2.2.2.2.2.2.2.2.1
theorem dX8_count_49 : decode cX8_count 49 = .ok (.getfield 248, 3) := dg_X8_count_31.2.2.2.2.2.2.2.2.2.2.1
theorem dX8_count_52 : decode cX8_count 52 = .ok (.goto 31, 3) := dg_X8_count_31.2.2.2.2.2.2.2.2.2.2.2.1
theorem dX8_count_55 : decode cX8_count 55 = .ok (.iload_n 1, 1) := dg_X8_count_31.2.2.2.2.2.2.2.2.2.2.2.2.1
theorem dX8_count_56 : decode cX8_count 56 = .ok (.iconst 3, 1) := dg_X8_count_31.2.2.2.2.2.2.2.2.2.2.2.2.2.1
theorem dX8_count_57 : decode cX8_count 57 = .ok (.if_icmp .ne 10, 3) := dg_X8_count_31.2.2.2.2.2.2.2.2.2.2.2.2.2.2.1
theorem dX8_count_60 : decode cX8_count 60 = .ok (.aload_n 0, 1) := dg_X8_count_31.2.2.2.2.2.2.2.2.2.2.2.2.2.2.2
theorem dg_X8_count_61 : (decode cX8_count 61 = .ok (.getfield 265, 3)) ∧ (decode cX8_count 64 = .ok (.goto 19, 3)) ∧ (decode cX8_count 67 = .ok (.iload_n 1, 1)) ∧ (decode cX8_count 68 = .ok (.iconst 4, 1)) ∧ (decode cX8_count 69 = .ok (.if_icmp .ne 10, 3)) ∧ (decode cX8_count 72 = .ok (.aload_n 0, 1)) ∧ (decode cX8_count 73 = .ok (.getfield 303, 3)) ∧ (decode cX8_count 76 = .ok (.goto 7, 3)) ∧ (decode cX8_count 79 = .ok (.aload_n 0, 1)) ∧ (decode cX8_count 80 = .ok (.invokevirtual 292, 3)) ∧ (decode cX8_count 83 = .ok (.invokevirtual 183, 3)) ∧ (decode cX8_count 86 = .ok (.ireturn, 1)) := by decide +kernel
theorem dX8_count_61 : decode cX8_count 61 = .ok (.getfield 265, 3) := dg_X8_count_61.1
theorem dX8_count_64 : decode cX8_count 64 = .ok (.goto 19, 3) := dg_X8_count_61.2.1
theorem dX8_count_67 : decode cX8_count 67 = .ok (.iload_n 1, 1) := dg_X8_count_61.2.2.1
theorem dX8_count_68 : decode cX8_count 68 = .ok (.iconst 4, 1) := dg_X8_count_61.2.2.2.1
theorem dX8_count_69 : decode cX8_count 69 = .ok (.if_icmp .ne 10, 3) := dg_X8_count_61.2.2.2.2.1
theorem dX8_count_72 : decode cX8_count 72 = .ok (.aload_n 0, 1) := dg_X8_count_61.2.2.2.2.2.1
theorem dX8_count_73 : decode cX8_count 73 = .ok (.getfield 303, 3) := dg_X8_count_61.2.2.2.2.2.2.1
theorem dX8_count_76 : decode cX8_count 76 = .ok (.goto 7, 3) := dg_X8_count_61.2.2.2.2.2.2.2.1
theorem dX8_count_79 : decode cX8_count 79 = .ok (.aload_n 0, 1) := dg_X8_count_61.2.2.2.2.2.2.2.2.1
theorem dX8_count_80 : decode cX8_count 80 = .ok (.invokevirtual 292, 3) := dg_X8_count_61.2.2.2.2.2.2.2.2.2.1
theorem dX8_count_83 : decode cX8_count 83 = .ok (.invokevirtual 183, 3) := dg_X8_count_61.2.2.2.2.2.2.2.2.2.2.1
theorem dX8_count_86 : decode cX8_count 86 = .ok (.ireturn, 1) := dg_X8_count_61.2.2.2.2.2.2.2.2.2.2.2
theorem zk_768 : Cond.fieldLink RX8 303 RX8 "marks" "I" ∈ zz_w := zz_in (List.mem_append_right _ (List.mem_append_right _ (List.mem_append_right _ (List.mem_append_right _ (List.mem_append_left _ (List.mem_of_getElem? (i := 48) (by decide +kernel))))))) rfl
theorem zf_X8_303 : zz_f RX8 303 7 33 := ⟨RX8, TX8, 37, rfl, zi_X8, by decide, zk_768⟩
def fn_my_count (na : Nat) (ne : Nat) (nd : Nat) (nr : Nat) (nm : Nat) (saf : Nat → Int32) (pnf : Nat → Int32) (daf : Nat → Int32) (dqf : Nat → Int32) (cof : Nat → Int32) (x1 : Int32) : Int32 := (if (fn_cm_within x1.toInt64 0 5) = 0 then -9 else (if x1 = 0 then (nI na) else (if x1 = 1 then (nI ne) else (if x1 = 2 then (nI nd) else (if x1 = 3 then (nI nr) else (if x1 = 4 then (nI nm) else (nI (zz_wy (zz_cM pnf saf daf dqf cof) nd 0 1))))))))
abbrev rm_my_count : Room := { frames := 3, cells := 0, slots := 0, locals := 65 }
abbrev po_my_count (g : zz_G) (h0 : Nat) (a_kindOf : Nat) (a_depthOf : Nat) (a_lengthOf : Nat) (a_classOf : Nat) (a_baseOf : Nat) (a_bits : Nat) (a_pinned : Nat) (a_lengths : Nat) (a_stackArray : Nat) (a_stackOther : Nat) (a_stackAt : Nat) (a_path : Nat) (a_held : Nat) (a_alike : Nat) (a_hashes : Nat) (a_decisionArray : Nat) (a_decisionPlace : Nat) (a_candidateMany : Nat) (a_candidates : Nat) (a_ruleSort : Nat) (a_ruleArray : Nat) (a_ruleWeight : Nat) (a_ruleLow : Nat) (a_ruleHigh : Nat) (a_chosen : Nat) (a_bestOf : Nat) (a_markElements : Nat) (a_markBits : Nat) (a_markPins : Nat) (na : Nat) (ne : Nat) (nd : Nat) (nr : Nat) (nm : Nat) (i_code : Int32) (i_lastArray : Int32) (i_lastPlace : Int32) (saf : Nat → Int32) (pnf : Nat → Int32) (daf : Nat → Int32) (dqf : Nat → Int32) (cof : Nat → Int32) (dpf : Nat → Int32) (lnf : Nat → Int32) (x1 : Int32) (h_S : zz_SI na ne dpf saf lnf) (h_D : zz_MD na nd dpf saf lnf daf dqf cof) : Int32 → va_W → Prop := fun (r : Int32) (u : va_W) => ∃ (k_c : Int32) (k_a : Int32) (k_p : Int32), r = fn_my_count na ne nd nr nm saf pnf daf dqf cof x1 ∧ u = [cw_k7 h0 (nI na) (nI ne) a_kindOf a_depthOf a_lengthOf a_classOf a_baseOf a_bits a_pinned k_c a_lengths a_stackArray a_stackOther a_stackAt k_a k_p a_path a_held a_alike a_hashes (nI nd) a_decisionArray a_decisionPlace a_candidateMany a_candidates (nI nr) a_ruleSort a_ruleArray a_ruleWeight a_ruleLow a_ruleHigh a_chosen a_bestOf (nI nm) a_markElements a_markBits a_markPins, cw_i g a_baseOf 60 saf, cw_z g a_pinned 4000 pnf, cw_i g a_decisionArray 24 daf, cw_i g a_decisionPlace 24 dqf, cw_i g a_candidateMany 24 cof]
set_option maxHeartbeats 4000000 in
set_option maxRecDepth 100000 in
theorem my_count (g : zz_G) (h0 : Nat) (a_kindOf : Nat) (a_depthOf : Nat) (a_lengthOf : Nat) (a_classOf : Nat) (a_baseOf : Nat) (a_bits : Nat) (a_pinned : Nat) (a_lengths : Nat) (a_stackArray : Nat) (a_stackOther : Nat) (a_stackAt : Nat) (a_path : Nat) (a_held : Nat) (a_alike : Nat) (a_hashes : Nat) (a_decisionArray : Nat) (a_decisionPlace : Nat) (a_candidateMany : Nat) (a_candidates : Nat) (a_ruleSort : Nat) (a_ruleArray : Nat) (a_ruleWeight : Nat) (a_ruleLow : Nat) (a_ruleHigh : Nat) (a_chosen : Nat) (a_bestOf : Nat) (a_markElements : Nat) (a_markBits : Nat) (a_markPins : Nat) (na : Nat) (ne : Nat) (nd : Nat) (nr : Nat) (nm : Nat) (i_code : Int32) (i_lastArray : Int32) (i_lastPlace : Int32) (saf : Nat → Int32) (pnf : Nat → Int32) (daf : Nat → Int32) (dqf : Nat → Int32) (cof : Nat → Int32) (dpf : Nat → Int32) (lnf : Nat → Int32) (x1 : Int32) (h_S : zz_SI na ne dpf saf lnf) (h_D : zz_MD na nd dpf saf lnf daf dqf cof) : zz_I g yX8_count (.code yX8_count cX8_count 2 (some .int)) rm_my_count [.ref h0, .int x1] [cw_k7 h0 (nI na) (nI ne) a_kindOf a_depthOf a_lengthOf a_classOf a_baseOf a_bits a_pinned i_code a_lengths a_stackArray a_stackOther a_stackAt i_lastArray i_lastPlace a_path a_held a_alike a_hashes (nI nd) a_decisionArray a_decisionPlace a_candidateMany a_candidates (nI nr) a_ruleSort a_ruleArray a_ruleWeight a_ruleLow a_ruleHigh a_chosen a_bestOf (nI nm) a_markElements a_markBits a_markPins, cw_i g a_baseOf 60 saf, cw_z g a_pinned 4000 pnf, cw_i g a_decisionArray 24 daf, cw_i g a_decisionPlace 24 dqf, cw_i g a_candidateMany 24 cof] (po_my_count g h0 a_kindOf a_depthOf a_lengthOf a_classOf a_baseOf a_bits a_pinned a_lengths a_stackArray a_stackOther a_stackAt a_path a_held a_alike a_hashes a_decisionArray a_decisionPlace a_candidateMany a_candidates a_ruleSort a_ruleArray a_ruleWeight a_ruleLow a_ruleHigh a_chosen a_bestOf a_markElements a_markBits a_markPins na ne nd nr nm i_code i_lastArray i_lastPlace saf pnf daf dqf cof dpf lnf x1 h_S h_D) := by
  refine zz_I.intro (own := RX8) (cc := cX8_count) (nL := 2) (by decide) rfl (Nat.le_of_ble_eq_true rfl) ?_
  intro p l e s m args below meth c A H locs ls hC hnm hs hZ hl
  obtain ⟨hx, hb, hml, hown, hts, hr, hlocks, hK⟩ := id hC
  have hl : lv_has ls 2 [(0, .ref h0), (1, .int x1)] := hl
  have hZ : zz_Z g A s.heap [cw_k7 h0 (nI na) (nI ne) a_kindOf a_depthOf a_lengthOf a_classOf a_baseOf a_bits a_pinned i_code a_lengths a_stackArray a_stackOther a_stackAt i_lastArray i_lastPlace a_path a_held a_alike a_hashes (nI nd) a_decisionArray a_decisionPlace a_candidateMany a_candidates (nI nr) a_ruleSort a_ruleArray a_ruleWeight a_ruleLow a_ruleHigh a_chosen a_bestOf (nI nm) a_markElements a_markBits a_markPins, cw_i g a_baseOf 60 saf, cw_z g a_pinned 4000 pnf, cw_i g a_decisionArray 24 daf, cw_i g a_decisionPlace 24 dqf, cw_i g a_candidateMany 24 cof] H locs := hZ
  have hna := h_S.1
  have hne := h_S.2.1
  have hd24 := h_D.1
  refine lv_iload_n hx hb dX8_count_0 rfl (lv_at hl 1 rfl) ?_
  refine lv_i2l hx hb dX8_count_1 rfl ?_
  refine lv_lconst (v := 0) hx hb dX8_count_2 (by decide) ?_
  refine lv_ldc2 hx hb hown (hts _ zk_908) dX8_count_3 ?_
  refine zz_iS (As := [.long x1.toInt64, .long 0, .long 5]) (wc := []) (wr := [cw_k7 h0 (nI na) (nI ne) a_kindOf a_depthOf a_lengthOf a_classOf a_baseOf a_bits a_pinned i_code a_lengths a_stackArray a_stackOther a_stackAt i_lastArray i_lastPlace a_path a_held a_alike a_hashes (nI nd) a_decisionArray a_decisionPlace a_candidateMany a_candidates (nI nr) a_ruleSort a_ruleArray a_ruleWeight a_ruleLow a_ruleHigh a_chosen a_bestOf (nI nm) a_markElements a_markBits a_markPins, cw_i g a_baseOf 60 saf, cw_z g a_pinned 4000 pnf, cw_i g a_decisionArray 24 daf, cw_i g a_decisionPlace 24 dqf, cw_i g a_candidateMany 24 cof]) (rest := []) hC hZ hs hl zc_X8_106 (cm_within g x1.toInt64 0 5) [] [0, 1, 2, 3, 4, 5] rfl rfl (by decide +kernel) rfl rfl (Nat.le_of_ble_eq_true rfl) ⟨⟨Nat.le_of_ble_eq_true rfl, Nat.le_of_ble_eq_true rfl⟩, Nat.le_of_ble_eq_true rfl, Nat.le_of_ble_eq_true rfl⟩ dX8_count_6 (fun r1 u2 H locs hp hZ => ?_)
  obtain ⟨rfl, rfl⟩ := hp
  have hZ : zz_Z g A s.heap [cw_k7 h0 (nI na) (nI ne) a_kindOf a_depthOf a_lengthOf a_classOf a_baseOf a_bits a_pinned i_code a_lengths a_stackArray a_stackOther a_stackAt i_lastArray i_lastPlace a_path a_held a_alike a_hashes (nI nd) a_decisionArray a_decisionPlace a_candidateMany a_candidates (nI nr) a_ruleSort a_ruleArray a_ruleWeight a_ruleLow a_ruleHigh a_chosen a_bestOf (nI nm) a_markElements a_markBits a_markPins, cw_i g a_baseOf 60 saf, cw_z g a_pinned 4000 pnf, cw_i g a_decisionArray 24 daf, cw_i g a_decisionPlace 24 dqf, cw_i g a_candidateMany 24 cof] H locs := hZ
  refine lv_if_ne (tgt := 19) hx hb dX8_count_9 (by decide) (fun c3 => ?_) (fun c3 => ?_)
  · refine lv_aload_n hx hb dX8_count_19 rfl (lv_at hl 0 rfl) ?_
    refine lv_iload_n hx hb dX8_count_20 rfl (lv_at hl 1 rfl) ?_
    refine lv_if_ne (tgt := 31) hx hb dX8_count_21 (by decide) (fun c4 => ?_) (fun c4 => ?_)
    · refine lv_iload_n hx hb dX8_count_31 rfl (lv_at hl 1 rfl) ?_
      refine lv_iconst (v := 1) hx hb dX8_count_32 (by decide) ?_
      refine lv_icmp_ne (tgt := 43) hx hb dX8_count_33 (by decide) (fun c5 => ?_) (fun c5 => ?_)
      · refine lv_iload_n hx hb dX8_count_43 rfl (lv_at hl 1 rfl) ?_
        refine lv_iconst (v := 2) hx hb dX8_count_44 (by decide) ?_
        refine lv_icmp_ne (tgt := 55) hx hb dX8_count_45 (by decide) (fun c6 => ?_) (fun c6 => ?_)
        · refine lv_iload_n hx hb dX8_count_55 rfl (lv_at hl 1 rfl) ?_
          refine lv_iconst (v := 3) hx hb dX8_count_56 (by decide) ?_
          refine lv_icmp_ne (tgt := 67) hx hb dX8_count_57 (by decide) (fun c7 => ?_) (fun c7 => ?_)
          · refine lv_iload_n hx hb dX8_count_67 rfl (lv_at hl 1 rfl) ?_
            refine lv_iconst (v := 4) hx hb dX8_count_68 (by decide) ?_
            refine lv_icmp_ne (tgt := 79) hx hb dX8_count_69 (by decide) (fun c8 => ?_) (fun c8 => ?_)
            · refine lv_aload_n hx hb dX8_count_79 rfl (lv_at hl 0 rfl) ?_
              refine zz_iV (As := []) (wc := [cw_k7 h0 (nI na) (nI ne) a_kindOf a_depthOf a_lengthOf a_classOf a_baseOf a_bits a_pinned i_code a_lengths a_stackArray a_stackOther a_stackAt i_lastArray i_lastPlace a_path a_held a_alike a_hashes (nI nd) a_decisionArray a_decisionPlace a_candidateMany a_candidates (nI nr) a_ruleSort a_ruleArray a_ruleWeight a_ruleLow a_ruleHigh a_chosen a_bestOf (nI nm) a_markElements a_markBits a_markPins, cw_i g a_baseOf 60 saf, cw_z g a_pinned 4000 pnf, cw_i g a_decisionArray 24 daf, cw_i g a_decisionPlace 24 dqf, cw_i g a_candidateMany 24 cof]) (wr := []) (rest := [.ref h0]) hC hZ hs hl zc_X8_292 (cm_ways g h0 a_kindOf a_depthOf a_lengthOf a_classOf a_baseOf a_bits a_pinned a_lengths a_stackArray a_stackOther a_stackAt a_path a_held a_alike a_hashes a_decisionArray a_decisionPlace a_candidateMany a_candidates a_ruleSort a_ruleArray a_ruleWeight a_ruleLow a_ruleHigh a_chosen a_bestOf a_markElements a_markBits a_markPins na ne nd nr nm i_code i_lastArray i_lastPlace saf pnf daf dqf cof dpf lnf (h_S) (h_D)) [0, 1, 2, 3, 4, 5] [] rfl rfl (by decide +kernel) (ci := 7) (q0 := 0) rfl rfl rfl rfl (Nat.le_of_ble_eq_true rfl) ⟨⟨Nat.le_of_ble_eq_true rfl, Nat.le_of_ble_eq_true rfl⟩, Nat.le_of_ble_eq_true rfl, Nat.le_of_ble_eq_true rfl⟩ dX8_count_80 (fun r9 u10 H locs hp hZ => ?_)
              obtain ⟨f11, rfl⟩ := hp
              have hZ : zz_Z g A s.heap [cw_k7 h0 (nI na) (nI ne) a_kindOf a_depthOf a_lengthOf a_classOf a_baseOf a_bits a_pinned i_code a_lengths a_stackArray a_stackOther a_stackAt i_lastArray i_lastPlace a_path a_held a_alike a_hashes (nI nd) a_decisionArray a_decisionPlace a_candidateMany a_candidates (nI nr) a_ruleSort a_ruleArray a_ruleWeight a_ruleLow a_ruleHigh a_chosen a_bestOf (nI nm) a_markElements a_markBits a_markPins, cw_i g a_baseOf 60 saf, cw_z g a_pinned 4000 pnf, cw_i g a_decisionArray 24 daf, cw_i g a_decisionPlace 24 dqf, cw_i g a_candidateMany 24 cof] H locs := hZ
              have d_r9 : nI (zz_wy (zz_cM pnf saf daf dqf cof) nd 0 1) = r9 := f11.symm
              refine zz_iV (As := [.int r9]) (wc := [cw_k7 h0 (nI na) (nI ne) a_kindOf a_depthOf a_lengthOf a_classOf a_baseOf a_bits a_pinned i_code a_lengths a_stackArray a_stackOther a_stackAt i_lastArray i_lastPlace a_path a_held a_alike a_hashes (nI nd) a_decisionArray a_decisionPlace a_candidateMany a_candidates (nI nr) a_ruleSort a_ruleArray a_ruleWeight a_ruleLow a_ruleHigh a_chosen a_bestOf (nI nm) a_markElements a_markBits a_markPins]) (wr := [cw_i g a_baseOf 60 saf, cw_z g a_pinned 4000 pnf, cw_i g a_decisionArray 24 daf, cw_i g a_decisionPlace 24 dqf, cw_i g a_candidateMany 24 cof]) (rest := []) hC hZ hs hl zc_X8_183 (cm_fine g h0 a_kindOf a_depthOf a_lengthOf a_classOf a_baseOf a_bits a_pinned a_lengths a_stackArray a_stackOther a_stackAt a_path a_held a_alike a_hashes a_decisionArray a_decisionPlace a_candidateMany a_candidates a_ruleSort a_ruleArray a_ruleWeight a_ruleLow a_ruleHigh a_chosen a_bestOf a_markElements a_markBits a_markPins (nI na) (nI ne) i_code i_lastArray i_lastPlace (nI nd) (nI nr) (nI nm) r9) [0] [1, 2, 3, 4, 5] rfl rfl (by decide +kernel) (ci := 7) (q0 := 0) rfl rfl rfl rfl (Nat.le_of_ble_eq_true rfl) ⟨⟨Nat.le_of_ble_eq_true rfl, Nat.le_of_ble_eq_true rfl⟩, Nat.le_of_ble_eq_true rfl, Nat.le_of_ble_eq_true rfl⟩ dX8_count_83 (fun r12 u13 H locs hp hZ => ?_)
              obtain ⟨rfl, rfl⟩ := hp
              have hZ : zz_Z g A s.heap [cw_i g a_baseOf 60 saf, cw_z g a_pinned 4000 pnf, cw_i g a_decisionArray 24 daf, cw_i g a_decisionPlace 24 dqf, cw_i g a_candidateMany 24 cof, cw_k7 h0 (nI na) (nI ne) a_kindOf a_depthOf a_lengthOf a_classOf a_baseOf a_bits a_pinned 0 a_lengths a_stackArray a_stackOther a_stackAt i_lastArray i_lastPlace a_path a_held a_alike a_hashes (nI nd) a_decisionArray a_decisionPlace a_candidateMany a_candidates (nI nr) a_ruleSort a_ruleArray a_ruleWeight a_ruleLow a_ruleHigh a_chosen a_bestOf (nI nm) a_markElements a_markBits a_markPins] H locs := hZ
              have hZ : zz_Z g A s.heap [cw_k7 h0 (nI na) (nI ne) a_kindOf a_depthOf a_lengthOf a_classOf a_baseOf a_bits a_pinned 0 a_lengths a_stackArray a_stackOther a_stackAt i_lastArray i_lastPlace a_path a_held a_alike a_hashes (nI nd) a_decisionArray a_decisionPlace a_candidateMany a_candidates (nI nr) a_ruleSort a_ruleArray a_ruleWeight a_ruleLow a_ruleHigh a_chosen a_bestOf (nI nm) a_markElements a_markBits a_markPins, cw_i g a_baseOf 60 saf, cw_z g a_pinned 4000 pnf, cw_i g a_decisionArray 24 daf, cw_i g a_decisionPlace 24 dqf, cw_i g a_candidateMany 24 cof] H locs := hZ.sub [5, 0, 1, 2, 3, 4] (by decide +kernel) rfl
              exact zz_iret hC hZ (⟨0, i_lastArray, i_lastPlace, by refine Eq.symm ?_; rw [fn_my_count]; refine (if_neg (by (try simp only [d_r9]); exact c3)).trans ?_; refine (if_neg (by (try simp only [d_r9]); exact c4)).trans ?_; refine (if_neg (by (try simp only [d_r9]); exact c5)).trans ?_; refine (if_neg (by (try simp only [d_r9]); exact c6)).trans ?_; refine (if_neg (by (try simp only [d_r9]); exact c7)).trans ?_; refine (if_neg (by (try simp only [d_r9]); exact c8)).trans ?_; first | (simp only [d_r9]; done) | rfl, rfl⟩) (Nat.le_of_ble_eq_true rfl) (Nat.le_of_ble_eq_true rfl) dX8_count_86
            · refine lv_aload_n hx hb dX8_count_72 rfl (lv_at hl 0 rfl) ?_
              refine zz_get hC hZ 0 rfl zf_X8_303 rfl dX8_count_73 ?_
              refine lv_goto (tgt := 83) hx hb dX8_count_76 (by decide) ?_
              refine zz_iV (As := [.int (nI nm)]) (wc := [cw_k7 h0 (nI na) (nI ne) a_kindOf a_depthOf a_lengthOf a_classOf a_baseOf a_bits a_pinned i_code a_lengths a_stackArray a_stackOther a_stackAt i_lastArray i_lastPlace a_path a_held a_alike a_hashes (nI nd) a_decisionArray a_decisionPlace a_candidateMany a_candidates (nI nr) a_ruleSort a_ruleArray a_ruleWeight a_ruleLow a_ruleHigh a_chosen a_bestOf (nI nm) a_markElements a_markBits a_markPins]) (wr := [cw_i g a_baseOf 60 saf, cw_z g a_pinned 4000 pnf, cw_i g a_decisionArray 24 daf, cw_i g a_decisionPlace 24 dqf, cw_i g a_candidateMany 24 cof]) (rest := []) hC hZ hs hl zc_X8_183 (cm_fine g h0 a_kindOf a_depthOf a_lengthOf a_classOf a_baseOf a_bits a_pinned a_lengths a_stackArray a_stackOther a_stackAt a_path a_held a_alike a_hashes a_decisionArray a_decisionPlace a_candidateMany a_candidates a_ruleSort a_ruleArray a_ruleWeight a_ruleLow a_ruleHigh a_chosen a_bestOf a_markElements a_markBits a_markPins (nI na) (nI ne) i_code i_lastArray i_lastPlace (nI nd) (nI nr) (nI nm) (nI nm)) [0] [1, 2, 3, 4, 5] rfl rfl (by decide +kernel) (ci := 7) (q0 := 0) rfl rfl rfl rfl (Nat.le_of_ble_eq_true rfl) ⟨⟨Nat.le_of_ble_eq_true rfl, Nat.le_of_ble_eq_true rfl⟩, Nat.le_of_ble_eq_true rfl, Nat.le_of_ble_eq_true rfl⟩ dX8_count_83 (fun r14 u15 H locs hp hZ => ?_)
              obtain ⟨rfl, rfl⟩ := hp
              have hZ : zz_Z g A s.heap [cw_i g a_baseOf 60 saf, cw_z g a_pinned 4000 pnf, cw_i g a_decisionArray 24 daf, cw_i g a_decisionPlace 24 dqf, cw_i g a_candidateMany 24 cof, cw_k7 h0 (nI na) (nI ne) a_kindOf a_depthOf a_lengthOf a_classOf a_baseOf a_bits a_pinned 0 a_lengths a_stackArray a_stackOther a_stackAt i_lastArray i_lastPlace a_path a_held a_alike a_hashes (nI nd) a_decisionArray a_decisionPlace a_candidateMany a_candidates (nI nr) a_ruleSort a_ruleArray a_ruleWeight a_ruleLow a_ruleHigh a_chosen a_bestOf (nI nm) a_markElements a_markBits a_markPins] H locs := hZ
              have hZ : zz_Z g A s.heap [cw_k7 h0 (nI na) (nI ne) a_kindOf a_depthOf a_lengthOf a_classOf a_baseOf a_bits a_pinned 0 a_lengths a_stackArray a_stackOther a_stackAt i_lastArray i_lastPlace a_path a_held a_alike a_hashes (nI nd) a_decisionArray a_decisionPlace a_candidateMany a_candidates (nI nr) a_ruleSort a_ruleArray a_ruleWeight a_ruleLow a_ruleHigh a_chosen a_bestOf (nI nm) a_markElements a_markBits a_markPins, cw_i g a_baseOf 60 saf, cw_z g a_pinned 4000 pnf, cw_i g a_decisionArray 24 daf, cw_i g a_decisionPlace 24 dqf, cw_i g a_candidateMany 24 cof] H locs := hZ.sub [5, 0, 1, 2, 3, 4] (by decide +kernel) rfl
              exact zz_iret hC hZ (⟨0, i_lastArray, i_lastPlace, by show _ = _; rw [fn_my_count]; rw [if_neg c3, if_neg c4, if_neg c5, if_neg c6, if_neg c7, if_pos c8], rfl⟩) (Nat.le_of_ble_eq_true rfl) (Nat.le_of_ble_eq_true rfl) dX8_count_86
          · refine lv_aload_n hx hb dX8_count_60 rfl (lv_at hl 0 rfl) ?_
            refine zz_get hC hZ 0 rfl zf_X8_265 rfl dX8_count_61 ?_
            refine lv_goto (tgt := 83) hx hb dX8_count_64 (by decide) ?_
            refine zz_iV (As := [.int (nI nr)]) (wc := [cw_k7 h0 (nI na) (nI ne) a_kindOf a_depthOf a_lengthOf a_classOf a_baseOf a_bits a_pinned i_code a_lengths a_stackArray a_stackOther a_stackAt i_lastArray i_lastPlace a_path a_held a_alike a_hashes (nI nd) a_decisionArray a_decisionPlace a_candidateMany a_candidates (nI nr) a_ruleSort a_ruleArray a_ruleWeight a_ruleLow a_ruleHigh a_chosen a_bestOf (nI nm) a_markElements a_markBits a_markPins]) (wr := [cw_i g a_baseOf 60 saf, cw_z g a_pinned 4000 pnf, cw_i g a_decisionArray 24 daf, cw_i g a_decisionPlace 24 dqf, cw_i g a_candidateMany 24 cof]) (rest := []) hC hZ hs hl zc_X8_183 (cm_fine g h0 a_kindOf a_depthOf a_lengthOf a_classOf a_baseOf a_bits a_pinned a_lengths a_stackArray a_stackOther a_stackAt a_path a_held a_alike a_hashes a_decisionArray a_decisionPlace a_candidateMany a_candidates a_ruleSort a_ruleArray a_ruleWeight a_ruleLow a_ruleHigh a_chosen a_bestOf a_markElements a_markBits a_markPins (nI na) (nI ne) i_code i_lastArray i_lastPlace (nI nd) (nI nr) (nI nm) (nI nr)) [0] [1, 2, 3, 4, 5] rfl rfl (by decide +kernel) (ci := 7) (q0 := 0) rfl rfl rfl rfl (Nat.le_of_ble_eq_true rfl) ⟨⟨Nat.le_of_ble_eq_true rfl, Nat.le_of_ble_eq_true rfl⟩, Nat.le_of_ble_eq_true rfl, Nat.le_of_ble_eq_true rfl⟩ dX8_count_83 (fun r16 u17 H locs hp hZ => ?_)
            obtain ⟨rfl, rfl⟩ := hp
            have hZ : zz_Z g A s.heap [cw_i g a_baseOf 60 saf, cw_z g a_pinned 4000 pnf, cw_i g a_decisionArray 24 daf, cw_i g a_decisionPlace 24 dqf, cw_i g a_candidateMany 24 cof, cw_k7 h0 (nI na) (nI ne) a_kindOf a_depthOf a_lengthOf a_classOf a_baseOf a_bits a_pinned 0 a_lengths a_stackArray a_stackOther a_stackAt i_lastArray i_lastPlace a_path a_held a_alike a_hashes (nI nd) a_decisionArray a_decisionPlace a_candidateMany a_candidates (nI nr) a_ruleSort a_ruleArray a_ruleWeight a_ruleLow a_ruleHigh a_chosen a_bestOf (nI nm) a_markElements a_markBits a_markPins] H locs := hZ
            have hZ : zz_Z g A s.heap [cw_k7 h0 (nI na) (nI ne) a_kindOf a_depthOf a_lengthOf a_classOf a_baseOf a_bits a_pinned 0 a_lengths a_stackArray a_stackOther a_stackAt i_lastArray i_lastPlace a_path a_held a_alike a_hashes (nI nd) a_decisionArray a_decisionPlace a_candidateMany a_candidates (nI nr) a_ruleSort a_ruleArray a_ruleWeight a_ruleLow a_ruleHigh a_chosen a_bestOf (nI nm) a_markElements a_markBits a_markPins, cw_i g a_baseOf 60 saf, cw_z g a_pinned 4000 pnf, cw_i g a_decisionArray 24 daf, cw_i g a_decisionPlace 24 dqf, cw_i g a_candidateMany 24 cof] H locs := hZ.sub [5, 0, 1, 2, 3, 4] (by decide +kernel) rfl
            exact zz_iret hC hZ (⟨0, i_lastArray, i_lastPlace, by show _ = _; rw [fn_my_count]; rw [if_neg c3, if_neg c4, if_neg c5, if_neg c6, if_pos c7], rfl⟩) (Nat.le_of_ble_eq_true rfl) (Nat.le_of_ble_eq_true rfl) dX8_count_86
        · refine lv_aload_n hx hb dX8_count_48 rfl (lv_at hl 0 rfl) ?_
          refine zz_get hC hZ 0 rfl zf_X8_248 rfl dX8_count_49 ?_
          refine lv_goto (tgt := 83) hx hb dX8_count_52 (by decide) ?_
          refine zz_iV (As := [.int (nI nd)]) (wc := [cw_k7 h0 (nI na) (nI ne) a_kindOf a_depthOf a_lengthOf a_classOf a_baseOf a_bits a_pinned i_code a_lengths a_stackArray a_stackOther a_stackAt i_lastArray i_lastPlace a_path a_held a_alike a_hashes (nI nd) a_decisionArray a_decisionPlace a_candidateMany a_candidates (nI nr) a_ruleSort a_ruleArray a_ruleWeight a_ruleLow a_ruleHigh a_chosen a_bestOf (nI nm) a_markElements a_markBits a_markPins]) (wr := [cw_i g a_baseOf 60 saf, cw_z g a_pinned 4000 pnf, cw_i g a_decisionArray 24 daf, cw_i g a_decisionPlace 24 dqf, cw_i g a_candidateMany 24 cof]) (rest := []) hC hZ hs hl zc_X8_183 (cm_fine g h0 a_kindOf a_depthOf a_lengthOf a_classOf a_baseOf a_bits a_pinned a_lengths a_stackArray a_stackOther a_stackAt a_path a_held a_alike a_hashes a_decisionArray a_decisionPlace a_candidateMany a_candidates a_ruleSort a_ruleArray a_ruleWeight a_ruleLow a_ruleHigh a_chosen a_bestOf a_markElements a_markBits a_markPins (nI na) (nI ne) i_code i_lastArray i_lastPlace (nI nd) (nI nr) (nI nm) (nI nd)) [0] [1, 2, 3, 4, 5] rfl rfl (by decide +kernel) (ci := 7) (q0 := 0) rfl rfl rfl rfl (Nat.le_of_ble_eq_true rfl) ⟨⟨Nat.le_of_ble_eq_true rfl, Nat.le_of_ble_eq_true rfl⟩, Nat.le_of_ble_eq_true rfl, Nat.le_of_ble_eq_true rfl⟩ dX8_count_83 (fun r18 u19 H locs hp hZ => ?_)
          obtain ⟨rfl, rfl⟩ := hp
          have hZ : zz_Z g A s.heap [cw_i g a_baseOf 60 saf, cw_z g a_pinned 4000 pnf, cw_i g a_decisionArray 24 daf, cw_i g a_decisionPlace 24 dqf, cw_i g a_candidateMany 24 cof, cw_k7 h0 (nI na) (nI ne) a_kindOf a_depthOf a_lengthOf a_classOf a_baseOf a_bits a_pinned 0 a_lengths a_stackArray a_stackOther a_stackAt i_lastArray i_lastPlace a_path a_held a_alike a_hashes (nI nd) a_decisionArray a_decisionPlace a_candidateMany a_candidates (nI nr) a_ruleSort a_ruleArray a_ruleWeight a_ruleLow a_ruleHigh a_chosen a_bestOf (nI nm) a_markElements a_markBits a_markPins] H locs := hZ
          have hZ : zz_Z g A s.heap [cw_k7 h0 (nI na) (nI ne) a_kindOf a_depthOf a_lengthOf a_classOf a_baseOf a_bits a_pinned 0 a_lengths a_stackArray a_stackOther a_stackAt i_lastArray i_lastPlace a_path a_held a_alike a_hashes (nI nd) a_decisionArray a_decisionPlace a_candidateMany a_candidates (nI nr) a_ruleSort a_ruleArray a_ruleWeight a_ruleLow a_ruleHigh a_chosen a_bestOf (nI nm) a_markElements a_markBits a_markPins, cw_i g a_baseOf 60 saf, cw_z g a_pinned 4000 pnf, cw_i g a_decisionArray 24 daf, cw_i g a_decisionPlace 24 dqf, cw_i g a_candidateMany 24 cof] H locs := hZ.sub [5, 0, 1, 2, 3, 4] (by decide +kernel) rfl
          exact zz_iret hC hZ (⟨0, i_lastArray, i_lastPlace, by show _ = _; rw [fn_my_count]; rw [if_neg c3, if_neg c4, if_neg c5, if_pos c6], rfl⟩) (Nat.le_of_ble_eq_true rfl) (Nat.le_of_ble_eq_true rfl) dX8_count_86
      · refine lv_aload_n hx hb dX8_count_36 rfl (lv_at hl 0 rfl) ?_
        refine zz_get hC hZ 0 rfl zf_X8_186 rfl dX8_count_37 ?_
        refine lv_goto (tgt := 83) hx hb dX8_count_40 (by decide) ?_
        refine zz_iV (As := [.int (nI ne)]) (wc := [cw_k7 h0 (nI na) (nI ne) a_kindOf a_depthOf a_lengthOf a_classOf a_baseOf a_bits a_pinned i_code a_lengths a_stackArray a_stackOther a_stackAt i_lastArray i_lastPlace a_path a_held a_alike a_hashes (nI nd) a_decisionArray a_decisionPlace a_candidateMany a_candidates (nI nr) a_ruleSort a_ruleArray a_ruleWeight a_ruleLow a_ruleHigh a_chosen a_bestOf (nI nm) a_markElements a_markBits a_markPins]) (wr := [cw_i g a_baseOf 60 saf, cw_z g a_pinned 4000 pnf, cw_i g a_decisionArray 24 daf, cw_i g a_decisionPlace 24 dqf, cw_i g a_candidateMany 24 cof]) (rest := []) hC hZ hs hl zc_X8_183 (cm_fine g h0 a_kindOf a_depthOf a_lengthOf a_classOf a_baseOf a_bits a_pinned a_lengths a_stackArray a_stackOther a_stackAt a_path a_held a_alike a_hashes a_decisionArray a_decisionPlace a_candidateMany a_candidates a_ruleSort a_ruleArray a_ruleWeight a_ruleLow a_ruleHigh a_chosen a_bestOf a_markElements a_markBits a_markPins (nI na) (nI ne) i_code i_lastArray i_lastPlace (nI nd) (nI nr) (nI nm) (nI ne)) [0] [1, 2, 3, 4, 5] rfl rfl (by decide +kernel) (ci := 7) (q0 := 0) rfl rfl rfl rfl (Nat.le_of_ble_eq_true rfl) ⟨⟨Nat.le_of_ble_eq_true rfl, Nat.le_of_ble_eq_true rfl⟩, Nat.le_of_ble_eq_true rfl, Nat.le_of_ble_eq_true rfl⟩ dX8_count_83 (fun r20 u21 H locs hp hZ => ?_)
        obtain ⟨rfl, rfl⟩ := hp
        have hZ : zz_Z g A s.heap [cw_i g a_baseOf 60 saf, cw_z g a_pinned 4000 pnf, cw_i g a_decisionArray 24 daf, cw_i g a_decisionPlace 24 dqf, cw_i g a_candidateMany 24 cof, cw_k7 h0 (nI na) (nI ne) a_kindOf a_depthOf a_lengthOf a_classOf a_baseOf a_bits a_pinned 0 a_lengths a_stackArray a_stackOther a_stackAt i_lastArray i_lastPlace a_path a_held a_alike a_hashes (nI nd) a_decisionArray a_decisionPlace a_candidateMany a_candidates (nI nr) a_ruleSort a_ruleArray a_ruleWeight a_ruleLow a_ruleHigh a_chosen a_bestOf (nI nm) a_markElements a_markBits a_markPins] H locs := hZ
        have hZ : zz_Z g A s.heap [cw_k7 h0 (nI na) (nI ne) a_kindOf a_depthOf a_lengthOf a_classOf a_baseOf a_bits a_pinned 0 a_lengths a_stackArray a_stackOther a_stackAt i_lastArray i_lastPlace a_path a_held a_alike a_hashes (nI nd) a_decisionArray a_decisionPlace a_candidateMany a_candidates (nI nr) a_ruleSort a_ruleArray a_ruleWeight a_ruleLow a_ruleHigh a_chosen a_bestOf (nI nm) a_markElements a_markBits a_markPins, cw_i g a_baseOf 60 saf, cw_z g a_pinned 4000 pnf, cw_i g a_decisionArray 24 daf, cw_i g a_decisionPlace 24 dqf, cw_i g a_candidateMany 24 cof] H locs := hZ.sub [5, 0, 1, 2, 3, 4] (by decide +kernel) rfl
        exact zz_iret hC hZ (⟨0, i_lastArray, i_lastPlace, by show _ = _; rw [fn_my_count]; rw [if_neg c3, if_neg c4, if_pos c5], rfl⟩) (Nat.le_of_ble_eq_true rfl) (Nat.le_of_ble_eq_true rfl) dX8_count_86
    · refine lv_aload_n hx hb dX8_count_24 rfl (lv_at hl 0 rfl) ?_
      refine zz_get hC hZ 0 rfl zf_X8_103 rfl dX8_count_25 ?_
      refine lv_goto (tgt := 83) hx hb dX8_count_28 (by decide) ?_
      refine zz_iV (As := [.int (nI na)]) (wc := [cw_k7 h0 (nI na) (nI ne) a_kindOf a_depthOf a_lengthOf a_classOf a_baseOf a_bits a_pinned i_code a_lengths a_stackArray a_stackOther a_stackAt i_lastArray i_lastPlace a_path a_held a_alike a_hashes (nI nd) a_decisionArray a_decisionPlace a_candidateMany a_candidates (nI nr) a_ruleSort a_ruleArray a_ruleWeight a_ruleLow a_ruleHigh a_chosen a_bestOf (nI nm) a_markElements a_markBits a_markPins]) (wr := [cw_i g a_baseOf 60 saf, cw_z g a_pinned 4000 pnf, cw_i g a_decisionArray 24 daf, cw_i g a_decisionPlace 24 dqf, cw_i g a_candidateMany 24 cof]) (rest := []) hC hZ hs hl zc_X8_183 (cm_fine g h0 a_kindOf a_depthOf a_lengthOf a_classOf a_baseOf a_bits a_pinned a_lengths a_stackArray a_stackOther a_stackAt a_path a_held a_alike a_hashes a_decisionArray a_decisionPlace a_candidateMany a_candidates a_ruleSort a_ruleArray a_ruleWeight a_ruleLow a_ruleHigh a_chosen a_bestOf a_markElements a_markBits a_markPins (nI na) (nI ne) i_code i_lastArray i_lastPlace (nI nd) (nI nr) (nI nm) (nI na)) [0] [1, 2, 3, 4, 5] rfl rfl (by decide +kernel) (ci := 7) (q0 := 0) rfl rfl rfl rfl (Nat.le_of_ble_eq_true rfl) ⟨⟨Nat.le_of_ble_eq_true rfl, Nat.le_of_ble_eq_true rfl⟩, Nat.le_of_ble_eq_true rfl, Nat.le_of_ble_eq_true rfl⟩ dX8_count_83 (fun r22 u23 H locs hp hZ => ?_)
      obtain ⟨rfl, rfl⟩ := hp
      have hZ : zz_Z g A s.heap [cw_i g a_baseOf 60 saf, cw_z g a_pinned 4000 pnf, cw_i g a_decisionArray 24 daf, cw_i g a_decisionPlace 24 dqf, cw_i g a_candidateMany 24 cof, cw_k7 h0 (nI na) (nI ne) a_kindOf a_depthOf a_lengthOf a_classOf a_baseOf a_bits a_pinned 0 a_lengths a_stackArray a_stackOther a_stackAt i_lastArray i_lastPlace a_path a_held a_alike a_hashes (nI nd) a_decisionArray a_decisionPlace a_candidateMany a_candidates (nI nr) a_ruleSort a_ruleArray a_ruleWeight a_ruleLow a_ruleHigh a_chosen a_bestOf (nI nm) a_markElements a_markBits a_markPins] H locs := hZ
      have hZ : zz_Z g A s.heap [cw_k7 h0 (nI na) (nI ne) a_kindOf a_depthOf a_lengthOf a_classOf a_baseOf a_bits a_pinned 0 a_lengths a_stackArray a_stackOther a_stackAt i_lastArray i_lastPlace a_path a_held a_alike a_hashes (nI nd) a_decisionArray a_decisionPlace a_candidateMany a_candidates (nI nr) a_ruleSort a_ruleArray a_ruleWeight a_ruleLow a_ruleHigh a_chosen a_bestOf (nI nm) a_markElements a_markBits a_markPins, cw_i g a_baseOf 60 saf, cw_z g a_pinned 4000 pnf, cw_i g a_decisionArray 24 daf, cw_i g a_decisionPlace 24 dqf, cw_i g a_candidateMany 24 cof] H locs := hZ.sub [5, 0, 1, 2, 3, 4] (by decide +kernel) rfl
      exact zz_iret hC hZ (⟨0, i_lastArray, i_lastPlace, by show _ = _; rw [fn_my_count]; rw [if_neg c3, if_pos c4], rfl⟩) (Nat.le_of_ble_eq_true rfl) (Nat.le_of_ble_eq_true rfl) dX8_count_86
  · refine lv_aload_n hx hb dX8_count_12 rfl (lv_at hl 0 rfl) ?_
    refine lv_bipush (v := 9) hx hb dX8_count_13 (by decide) ?_
    refine zz_iV (As := [.int 9]) (wc := [cw_k7 h0 (nI na) (nI ne) a_kindOf a_depthOf a_lengthOf a_classOf a_baseOf a_bits a_pinned i_code a_lengths a_stackArray a_stackOther a_stackAt i_lastArray i_lastPlace a_path a_held a_alike a_hashes (nI nd) a_decisionArray a_decisionPlace a_candidateMany a_candidates (nI nr) a_ruleSort a_ruleArray a_ruleWeight a_ruleLow a_ruleHigh a_chosen a_bestOf (nI nm) a_markElements a_markBits a_markPins]) (wr := [cw_i g a_baseOf 60 saf, cw_z g a_pinned 4000 pnf, cw_i g a_decisionArray 24 daf, cw_i g a_decisionPlace 24 dqf, cw_i g a_candidateMany 24 cof]) (rest := []) hC hZ hs hl zc_X8_175 (cm_fails g h0 a_kindOf a_depthOf a_lengthOf a_classOf a_baseOf a_bits a_pinned a_lengths a_stackArray a_stackOther a_stackAt a_path a_held a_alike a_hashes a_decisionArray a_decisionPlace a_candidateMany a_candidates a_ruleSort a_ruleArray a_ruleWeight a_ruleLow a_ruleHigh a_chosen a_bestOf a_markElements a_markBits a_markPins (nI na) (nI ne) i_code i_lastArray i_lastPlace (nI nd) (nI nr) (nI nm) 9) [0] [1, 2, 3, 4, 5] rfl rfl (by decide +kernel) (ci := 7) (q0 := 0) rfl rfl rfl rfl (Nat.le_of_ble_eq_true rfl) ⟨⟨Nat.le_of_ble_eq_true rfl, Nat.le_of_ble_eq_true rfl⟩, Nat.le_of_ble_eq_true rfl, Nat.le_of_ble_eq_true rfl⟩ dX8_count_15 (fun r24 u25 H locs hp hZ => ?_)
    obtain ⟨rfl, rfl⟩ := hp
    have hZ : zz_Z g A s.heap [cw_i g a_baseOf 60 saf, cw_z g a_pinned 4000 pnf, cw_i g a_decisionArray 24 daf, cw_i g a_decisionPlace 24 dqf, cw_i g a_candidateMany 24 cof, cw_k7 h0 (nI na) (nI ne) a_kindOf a_depthOf a_lengthOf a_classOf a_baseOf a_bits a_pinned 9 a_lengths a_stackArray a_stackOther a_stackAt i_lastArray i_lastPlace a_path a_held a_alike a_hashes (nI nd) a_decisionArray a_decisionPlace a_candidateMany a_candidates (nI nr) a_ruleSort a_ruleArray a_ruleWeight a_ruleLow a_ruleHigh a_chosen a_bestOf (nI nm) a_markElements a_markBits a_markPins] H locs := hZ
    have hZ : zz_Z g A s.heap [cw_k7 h0 (nI na) (nI ne) a_kindOf a_depthOf a_lengthOf a_classOf a_baseOf a_bits a_pinned 9 a_lengths a_stackArray a_stackOther a_stackAt i_lastArray i_lastPlace a_path a_held a_alike a_hashes (nI nd) a_decisionArray a_decisionPlace a_candidateMany a_candidates (nI nr) a_ruleSort a_ruleArray a_ruleWeight a_ruleLow a_ruleHigh a_chosen a_bestOf (nI nm) a_markElements a_markBits a_markPins, cw_i g a_baseOf 60 saf, cw_z g a_pinned 4000 pnf, cw_i g a_decisionArray 24 daf, cw_i g a_decisionPlace 24 dqf, cw_i g a_candidateMany 24 cof] H locs := hZ.sub [5, 0, 1, 2, 3, 4] (by decide +kernel) rfl
    exact zz_iret hC hZ (⟨9, i_lastArray, i_lastPlace, by show _ = _; rw [fn_my_count]; rw [if_pos c3], rfl⟩) (Nat.le_of_ble_eq_true rfl) (Nat.le_of_ble_eq_true rfl) dX8_count_18
