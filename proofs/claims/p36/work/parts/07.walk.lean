/-- what a store is: its arrays' starts, lengths, depths -/
def zz_SI (na nu : Nat) (dpf saf lnf : Nat → Int32) : Prop := na ≤ 60 ∧ nu ≤ 4000 ∧ ∀ a, a < na → ∃ sz lz dz : Nat, saf a = nI sz ∧ lnf a = nI lz ∧ dpf a = nI dz ∧ lz ≤ 200 ∧ sz + lz ≤ nu ∧ 1 ≤ dz ∧ dz ≤ 4
/-- what a walk answers -/
def zz_WR (na : Nat) (dpf lnf : Nat → Int32) (r : Int32) : Prop := r = -2 ∨ r = -3 ∨ ∃ b q lz : Nat, r = nI (1000 * b + q) ∧ b < na ∧ lnf b = nI lz ∧ q < lz ∧ lz ≤ 200 ∧ dpf b = 1
theorem zl_place {lnf : Nat → Int32} {b lz : Nat} {k : Int32} (el : lnf b = nI lz) (hz : lz ≤ 200) (h : ¬ fn_co_hasPlace lnf b k = 0) : ∃ q, q < lz ∧ k = nI q := by
  unfold fn_co_hasPlace at h
  rw [el] at h
  rcases pk_ix k (n := lz) (by omega) with q | q | q
  · exact absurd (by rw [if_pos q]) h
  · exact absurd (by by_cases z : k < 0
                     · rw [if_pos z]
                     · rw [if_neg z, if_pos q]) h
  · exact q
theorem zl_has {na : Nat} {k : Int32} (hn : na ≤ 60) (h : ¬ fn_co_has (nI na) k = 0) : ∃ q, q < na ∧ k = nI q := by
  unfold fn_co_has at h
  rcases pk_ix k (n := na) (by omega) with q | q | q
  · exact absurd (by rw [if_pos q]) h
  · exact absurd (by by_cases z : k < 0
                     · rw [if_pos z]
                     · rw [if_neg z, if_pos q]) h
  · exact q
/-- a path, and where it ends: the array times 1000 and the place; -2, -3 -/
def zz_pa (ki kj kk kl : Int32) (n : Nat) : Int32 := if n = 0 then ki else if n = 1 then kj else if n = 2 then kk else kl
def sp_walk (na : Nat) (dpf saf lnf : Nat → Int32) (btf : Nat → Int64) : Nat → Nat → Nat → (Nat → Int32) → Int32
  | 0, _, _, _ => -2
  | s + 1, b, n, p => if fn_co_hasPlace lnf b (p n) = 0 then -2 else if dpf b = 1 then nI (1000 * b + (p n).toNatClampNeg) else if fn_co_has (nI na) (btf ((saf b).toNatClampNeg + (p n).toNatClampNeg)).toInt32 = 0 then -3 else sp_walk na dpf saf lnf btf s (btf ((saf b).toNatClampNeg + (p n).toNatClampNeg)).toInt32.toNatClampNeg (n + 1) p
theorem zl_1000 (b q : Nat) : nI b * 1000 + nI q = nI (1000 * b + q) := by
  rw [show (1000 : Int32) = nI 1000 by decide, pk_mul, nI_add, Nat.mul_comm]
theorem dg_X6_walk_0 : (decode cX6_walk 0 = .ok (.iload_n 1, 1)) ∧ (decode cX6_walk 1 = .ok (.istore 6, 2)) ∧ (decode cX6_walk 3 = .ok (.iconst 0, 1)) ∧ (decode cX6_walk 4 = .ok (.istore 7, 2)) ∧ (decode cX6_walk 6 = .ok (.iload 7, 2)) ∧ (decode cX6_walk 8 = .ok (.iconst 4, 1)) ∧ (decode cX6_walk 9 = .ok (.if_icmp .ge 112, 3)) ∧ (decode cX6_walk 12 = .ok (.iload 7, 2)) ∧ (decode cX6_walk 14 = .ok (.ifCond .ne 7, 3)) ∧ (decode cX6_walk 17 = .ok (.iload_n 2, 1)) ∧ (decode cX6_walk 18 = .ok (.goto 26, 3)) ∧ (decode cX6_walk 21 = .ok (.iload 7, 2)) ∧ (decode cX6_walk 23 = .ok (.iconst 1, 1)) ∧ (decode cX6_walk 24 = .ok (.if_icmp .ne 7, 3)) ∧ (decode cX6_walk 27 = .ok (.iload_n 3, 1)) ∧ (decode cX6_walk 28 = .ok (.goto 16, 3)) := by decide +kernel
theorem dX6_walk_0 : decode cX6_walk 0 = .ok (.iload_n 1, 1) := dg_X6_walk_0.1
theorem dX6_walk_1 : decode cX6_walk 1 = .ok (.istore 6, 2) := dg_X6_walk_0.2.1
theorem dX6_walk_3 : decode cX6_walk 3 = .ok (.iconst 0, 1) := dg_X6_walk_0.2.2.1
theorem dX6_walk_4 : decode cX6_walk 4 = .ok (.istore 7, 2) := dg_X6_walk_0.2.2.2.1
theorem dX6_walk_6 : decode cX6_walk 6 = .ok (.iload 7, 2) := dg_X6_walk_0.2.2.2.2.1
theorem dX6_walk_8 : decode cX6_walk 8 = .ok (.iconst 4, 1) := dg_X6_walk_0.2.2.2.2.2.1
theorem dX6_walk_9 : decode cX6_walk 9 = .ok (.if_icmp .ge 112, 3) := dg_X6_walk_0.2.2.2.2.2.2.1
theorem dX6_walk_12 : decode cX6_walk 12 = .ok (.iload 7, 2) := dg_X6_walk_0.2.2.2.2.2.2.2.1
theorem dX6_walk_14 : decode cX6_walk 14 = .ok (.ifCond .ne 7, 3) := dg_X6_walk_0.2.2.2.2.2.2.2.2.1
theorem dX6_walk_17 : decode cX6_walk 17 = .ok (.iload_n 2, 1) := dg_X6_walk_0.2.2.2.2.2.2.2.2.2.1
theorem dX6_walk_18 : decode cX6_walk 18 = .ok (.goto 26, 3) := dg_X6_walk_0.2.2.2.2.2.2.2.2.2.2.1
theorem dX6_walk_21 : decode cX6_walk 21 = .ok (.iload 7, 2) := dg_X6_walk_0.2.2.2.2.2.2.2.2.2.2.2.1
theorem dX6_walk_23 : decode cX6_walk 23 = .ok (.iconst 1, 1) := dg_X6_walk_0.2.2.2.2.2.2.2.2.2.2.2.2.1
theorem dX6_walk_24 : decode cX6_walk 24 = .ok (.if_icmp .ne 7, 3) := dg_X6_walk_0.2.2.2.2.2.2.2.2.2.2.2.2.2.1
theorem dX6_walk_27 : decode cX6_walk 27 = .ok (.iload_n 3, 1) := dg_X6_walk_0.2.2.2.2.2.2.2.2.2.2.2.2.2.2.1
theorem dX6_walk_28 : decode cX6_walk 28 = .ok (.goto 16, 3) := dg_X6_walk_0.2.2.2.2.2.2.2.2.2.2.2.2.2.2.2
theorem dg_X6_walk_31 : (decode cX6_walk 31 = .ok (.iload 7, 2)) ∧ (decode cX6_walk 33 = .ok (.iconst 2, 1)) ∧ (decode cX6_walk 34 = .ok (.if_icmp .ne 8, 3)) ∧ (decode cX6_walk 37 = .ok (.iload 4, 2)) ∧ (decode cX6_walk 39 = .ok (.goto 5, 3)) ∧ (decode cX6_walk 42 = .ok (.iload 5, 2)) ∧ (decode cX6_walk 44 = .ok (.istore 8, 2)) ∧ (decode cX6_walk 46 = .ok (.aload_n 0, 1)) ∧ (decode cX6_walk 47 = .ok (.iload 6, 2)) ∧ (decode cX6_walk 49 = .ok (.iload 8, 2)) ∧ (decode cX6_walk 51 = .ok (.invokevirtual 51, 3)) ∧ (decode cX6_walk 54 = .ok (.ifCond .ne 6, 3)) ∧ (decode cX6_walk 57 = .ok (.bipush (-2), 2)) ∧ (decode cX6_walk 59 = .ok (.ireturn, 1)) ∧ (decode cX6_walk 60 = .ok (.aload_n 0, 1)) ∧ (decode cX6_walk 61 = .ok (.getfield 15, 3)) := by decide +kernel
theorem dX6_walk_31 : decode cX6_walk 31 = .ok (.iload 7, 2) := dg_X6_walk_31.1
theorem dX6_walk_33 : decode cX6_walk 33 = .ok (.iconst 2, 1) := dg_X6_walk_31.2.1
theorem dX6_walk_34 : decode cX6_walk 34 = .ok (.if_icmp .ne 8, 3) := dg_X6_walk_31.2.2.1
theorem dX6_walk_37 : decode cX6_walk 37 = .ok (.iload 4, 2) := dg_X6_walk_31.2.2.2.1
theorem dX6_walk_39 : decode cX6_walk 39 = .ok (.goto 5, 3) := dg_X6_walk_31.2.2.2.2.1
theorem dX6_walk_42 : decode cX6_walk 42 = .ok (.iload 5, 2) := dg_X6_walk_31.2.2.2.2.2.1
theorem dX6_walk_44 : decode cX6_walk 44 = .ok (.istore 8, 2) := dg_X6_walk_31.2.2.2.2.2.2.1
theorem dX6_walk_46 : decode cX6_walk 46 = .ok (.aload_n 0, 1) := dg_X6_walk_31.2.2.2.2.2.2.2.1
theorem dX6_walk_47 : decode cX6_walk 47 = .ok (.iload 6, 2) := dg_X6_walk_31.2.2.2.2.2.2.2.2.1
theorem dX6_walk_49 : decode cX6_walk 49 = .ok (.iload 8, 2) := dg_X6_walk_31.2.2.2.2.2.2.2.2.2.1
theorem dX6_walk_51 : decode cX6_walk 51 = .ok (.invokevirtual 51, 3) := dg_X6_walk_31.2.2.2.2.2.2.2.2.2.2.1
theorem dX6_walk_54 : decode cX6_walk 54 = .ok (.ifCond .ne 6, 3) := dg_X6_walk_31.2.2.2.2.2.2.2.2.2.2.2.1
theorem dX6_walk_57 : decode cX6_walk 57 = .ok (.bipush (-2), 2) := dg_X6_walk_31.2.2.2.2.2.2.2.2.2.2.2.2.1
theorem dX6_walk_59 : decode cX6_walk 59 = .ok (.ireturn, 1) := dg_X6_walk_31.2.2.2.2.2.2.2.2.2.2.2.2.2.1
theorem dX6_walk_60 : decode cX6_walk 60 = .ok (.aload_n 0, 1) := dg_X6_walk_31.2.2.2.2.2.2.2.2.2.2.2.2.2.2.1
theorem dX6_walk_61 : decode cX6_walk 61 = .ok (.getfield 15, 3) := dg_X6_walk_31.2.2.2.2.2.2.2.2.2.2.2.2.2.2.2
theorem dg_X6_walk_64 : (decode cX6_walk 64 = .ok (.iload 6, 2)) ∧ (decode cX6_walk 66 = .ok (.iaload, 1)) ∧ (decode cX6_walk 67 = .ok (.iconst 1, 1)) ∧ (decode cX6_walk 68 = .ok (.if_icmp .ne 13, 3)) ∧ (decode cX6_walk 71 = .ok (.iload 6, 2)) ∧ (decode cX6_walk 73 = .ok (.sipush 1000, 3)) ∧ (decode cX6_walk 76 = .ok (.imul, 1)) ∧ (decode cX6_walk 77 = .ok (.iload 8, 2)) ∧ (decode cX6_walk 79 = .ok (.iadd, 1)) ∧ (decode cX6_walk 80 = .ok (.ireturn, 1)) ∧ (decode cX6_walk 81 = .ok (.aload_n 0, 1)) ∧ (decode cX6_walk 82 = .ok (.getfield 27, 3)) ∧ (decode cX6_walk 85 = .ok (.aload_n 0, 1)) ∧ (decode cX6_walk 86 = .ok (.getfield 21, 3)) ∧ (decode cX6_walk 89 = .ok (.iload 6, 2)) ∧ (decode cX6_walk 91 = .ok (.iaload, 1)) := by decide +kernel
theorem dX6_walk_64 : decode cX6_walk 64 = .ok (.iload 6, 2) := dg_X6_walk_64.1
theorem dX6_walk_66 : decode cX6_walk 66 = .ok (.iaload, 1) := dg_X6_walk_64.2.1
theorem dX6_walk_67 : decode cX6_walk 67 = .ok (.iconst 1, 1) := dg_X6_walk_64.2.2.1
theorem dX6_walk_68 : decode cX6_walk 68 = .ok (.if_icmp .ne 13, 3) := dg_X6_walk_64.2.2.2.1
theorem dX6_walk_71 : decode cX6_walk 71 = .ok (.iload 6, 2) := dg_X6_walk_64.2.2.2.2.1
theorem dX6_walk_73 : decode cX6_walk 73 = .ok (.sipush 1000, 3) := dg_X6_walk_64.2.2.2.2.2.1
theorem dX6_walk_76 : decode cX6_walk 76 = .ok (.imul, 1) := dg_X6_walk_64.2.2.2.2.2.2.1
theorem dX6_walk_77 : decode cX6_walk 77 = .ok (.iload 8, 2) := dg_X6_walk_64.2.2.2.2.2.2.2.1
theorem dX6_walk_79 : decode cX6_walk 79 = .ok (.iadd, 1) := dg_X6_walk_64.2.2.2.2.2.2.2.2.1
theorem dX6_walk_80 : decode cX6_walk 80 = .ok (.ireturn, 1) := dg_X6_walk_64.2.2.2.2.2.2.2.2.2.1
theorem dX6_walk_81 : decode cX6_walk 81 = .ok (.aload_n 0, 1) := dg_X6_walk_64.2.2.2.2.2.2.2.2.2.2.1
theorem dX6_walk_82 : decode cX6_walk 82 = .ok (.getfield 27, 3) := dg_X6_walk_64.2.2.2.2.2.2.2.2.2.2.2.1
theorem dX6_walk_85 : decode cX6_walk 85 = .ok (.aload_n 0, 1) := dg_X6_walk_64.2.2.2.2.2.2.2.2.2.2.2.2.1
theorem dX6_walk_86 : decode cX6_walk 86 = .ok (.getfield 21, 3) := dg_X6_walk_64.2.2.2.2.2.2.2.2.2.2.2.2.2.1
theorem dX6_walk_89 : decode cX6_walk 89 = .ok (.iload 6, 2) := dg_X6_walk_64.2.2.2.2.2.2.2.2.2.2.2.2.2.2.1
theorem dX6_walk_91 : decode cX6_walk 91 = .ok (.iaload, 1) := dg_X6_walk_64.2.2.2.2.2.2.2.2.2.2.2.2.2.2.2
theorem dg_X6_walk_92 : (decode cX6_walk 92 = .ok (.iload 8, 2)) ∧ (decode cX6_walk 94 = .ok (.iadd, 1)) ∧ (decode cX6_walk 95 = .ok (.laload, 1)) ∧ (decode cX6_walk 96 = .ok (.l2i, 1)) ∧ (decode cX6_walk 97 = .ok (.istore 9, 2)) ∧ (decode cX6_walk 99 = .ok (.aload_n 0, 1)) ∧ (decode cX6_walk 100 = .ok (.iload 9, 2)) ∧ (decode cX6_walk 102 = .ok (.invokevirtual 55, 3)) ∧ (decode cX6_walk 105 = .ok (.ifCond .ne 6, 3)) ∧ (decode cX6_walk 108 = .ok (.bipush (-3), 2)) ∧ (decode cX6_walk 110 = .ok (.ireturn, 1)) ∧ (decode cX6_walk 111 = .ok (.iload 9, 2)) ∧ (decode cX6_walk 113 = .ok (.istore 6, 2)) ∧ (decode cX6_walk 115 = .ok (.iinc 7 1, 3)) ∧ (decode cX6_walk 118 = .ok (.goto (-112), 3)) ∧ (decode cX6_walk 121 = .ok (.bipush (-2), 2)) := by decide +kernel
theorem dX6_walk_92 : decode cX6_walk 92 = .ok (.iload 8, 2) := dg_X6_walk_92.1
theorem dX6_walk_94 : decode cX6_walk 94 = .ok (.iadd, 1) := dg_X6_walk_92.2.1
theorem dX6_walk_95 : decode cX6_walk 95 = .ok (.laload, 1) := dg_X6_walk_92.2.2.1
theorem dX6_walk_96 : decode cX6_walk 96 = .ok (.l2i, 1) := dg_X6_walk_92.2.2.2.1
theorem dX6_walk_97 : decode cX6_walk 97 = .ok (.istore 9, 2) := dg_X6_walk_92.2.2.2.2.1
theorem dX6_walk_99 : decode cX6_walk 99 = .ok (.aload_n 0, 1) := dg_X6_walk_92.2.2.2.2.2.1
theorem dX6_walk_100 : decode cX6_walk 100 = .ok (.iload 9, 2) := dg_X6_walk_92.2.2.2.2.2.2.1
theorem dX6_walk_102 : decode cX6_walk 102 = .ok (.invokevirtual 55, 3) := dg_X6_walk_92.2.2.2.2.2.2.2.1
theorem dX6_walk_105 : decode cX6_walk 105 = .ok (.ifCond .ne 6, 3) := dg_X6_walk_92.2.2.2.2.2.2.2.2.1
theorem dX6_walk_108 : decode cX6_walk 108 = .ok (.bipush (-3), 2) := dg_X6_walk_92.2.2.2.2.2.2.2.2.2.1
theorem dX6_walk_110 : decode cX6_walk 110 = .ok (.ireturn, 1) := dg_X6_walk_92.2.2.2.2.2.2.2.2.2.2.1
theorem dX6_walk_111 : decode cX6_walk 111 = .ok (.iload 9, 2) := dg_X6_walk_92.2.2.2.2.2.2.2.2.2.2.2.1
theorem dX6_walk_113 : decode cX6_walk 113 = .ok (.istore 6, 2) := dg_X6_walk_92.2.2.2.2.2.2.2.2.2.2.2.2.1
theorem dX6_walk_115 : decode cX6_walk 115 = .ok (.iinc 7 1, 3) := dg_X6_walk_92.2.2.2.2.2.2.2.2.2.2.2.2.2.1
theorem dX6_walk_118 : decode cX6_walk 118 = .ok (.goto (-112), 3) := dg_X6_walk_92.2.2.2.2.2.2.2.2.2.2.2.2.2.2.1
theorem dX6_walk_121 : decode cX6_walk 121 = .ok (.bipush (-2), 2) := dg_X6_walk_92.2.2.2.2.2.2.2.2.2.2.2.2.2.2.2
theorem dg_X6_walk_123 : (decode cX6_walk 123 = .ok (.ireturn, 1)) := by decide +kernel
theorem dX6_walk_123 : decode cX6_walk 123 = .ok (.ireturn, 1) := dg_X6_walk_123
theorem zk_337 : Cond.methodLink RX6 51 yX6_hasPlace ∈ zz_w := zz_in (List.mem_append_right _ (List.mem_append_right _ (List.mem_append_left _ (List.mem_of_getElem? (i := 97) (by decide +kernel))))) rfl
set_option maxRecDepth 20000 in
theorem zk_316 : Cond.code yX6_hasPlace cX6_hasPlace 3 (some .boolean) ∈ zz_w := zz_in (List.mem_append_right _ (List.mem_append_right _ (List.mem_append_left _ (List.mem_of_getElem? (i := 76) (rfl))))) rfl
theorem zk_314 : Cond.instanceMethod yX6_hasPlace ∈ zz_w := zz_in (List.mem_append_right _ (List.mem_append_right _ (List.mem_append_left _ (List.mem_of_getElem? (i := 74) (by decide +kernel))))) rfl
theorem zk_315 : Cond.selects RX6 yX6_hasPlace yX6_hasPlace ∈ zz_w := zz_in (List.mem_append_right _ (List.mem_append_right _ (List.mem_append_left _ (List.mem_of_getElem? (i := 75) (by decide +kernel))))) rfl
theorem zc_X6_51 : zz_cV RX6 51 yX6_hasPlace cX6_hasPlace 3 (some .boolean) 2 := ⟨⟨zk_337, zk_316, zk_2, by decide, by decide, by decide +kernel⟩, zk_314, zk_315⟩
theorem zk_338 : Cond.methodLink RX6 55 yX6_has ∈ zz_w := zz_in (List.mem_append_right _ (List.mem_append_right _ (List.mem_append_left _ (List.mem_of_getElem? (i := 98) (by decide +kernel))))) rfl
set_option maxRecDepth 20000 in
theorem zk_266 : Cond.code yX6_has cX6_has 2 (some .boolean) ∈ zz_w := zz_in (List.mem_append_right _ (List.mem_append_right _ (List.mem_append_left _ (List.mem_of_getElem? (i := 26) (rfl))))) rfl
theorem zk_264 : Cond.instanceMethod yX6_has ∈ zz_w := zz_in (List.mem_append_right _ (List.mem_append_right _ (List.mem_append_left _ (List.mem_of_getElem? (i := 24) (by decide +kernel))))) rfl
theorem zk_265 : Cond.selects RX6 yX6_has yX6_has ∈ zz_w := zz_in (List.mem_append_right _ (List.mem_append_right _ (List.mem_append_left _ (List.mem_of_getElem? (i := 25) (by decide +kernel))))) rfl
theorem zc_X6_55 : zz_cV RX6 55 yX6_has cX6_has 2 (some .boolean) 1 := ⟨⟨zk_338, zk_266, zk_2, by decide, by decide, by decide +kernel⟩, zk_264, zk_265⟩
abbrev rm_co_walk : Room := { frames := 1, cells := 0, slots := 0, locals := 22 }
abbrev po_co_walk (g : zz_G) (st : Nat) (kd : Nat) (dp : Nat) (cl : Nat) (sa : Nat) (ln : Nat) (bt : Nat) (pn : Nat) (bf : Nat) (na : Nat) (nu : Nat) (dpf : Nat → Int32) (saf : Nat → Int32) (lnf : Nat → Int32) (btf : Nat → Int64) (a : Nat) (ki : Int32) (kj : Int32) (kk : Int32) (kl : Int32) (h_S : zz_SI na nu dpf saf lnf) (h_a : a < na) : Int32 → va_W → Prop := fun (r : Int32) (u : va_W) => (zz_WR na dpf lnf r) ∧ (r = sp_walk na dpf saf lnf btf 4 a 0 (zz_pa ki kj kk kl)) ∧ u = [cw_k5 st (nI na) (nI nu) kd dp cl sa ln bt pn bf, cw_i g dp 60 dpf, cw_i g sa 60 saf, cw_i g ln 60 lnf, cw_l g bt 4000 btf]
set_option maxHeartbeats 4000000 in
set_option maxRecDepth 100000 in
theorem co_walk (g : zz_G) (st : Nat) (kd : Nat) (dp : Nat) (cl : Nat) (sa : Nat) (ln : Nat) (bt : Nat) (pn : Nat) (bf : Nat) (na : Nat) (nu : Nat) (dpf : Nat → Int32) (saf : Nat → Int32) (lnf : Nat → Int32) (btf : Nat → Int64) (a : Nat) (ki : Int32) (kj : Int32) (kk : Int32) (kl : Int32) (h_S : zz_SI na nu dpf saf lnf) (h_a : a < na) : zz_I g yX6_walk (.code yX6_walk cX6_walk 10 (some .int)) rm_co_walk [.ref st, .int (nI a), .int ki, .int kj, .int kk, .int kl] [cw_k5 st (nI na) (nI nu) kd dp cl sa ln bt pn bf, cw_i g dp 60 dpf, cw_i g sa 60 saf, cw_i g ln 60 lnf, cw_l g bt 4000 btf] (po_co_walk g st kd dp cl sa ln bt pn bf na nu dpf saf lnf btf a ki kj kk kl h_S h_a) := by
  refine zz_I.intro (own := RX6) (cc := cX6_walk) (nL := 10) (by decide) rfl (Nat.le_of_ble_eq_true rfl) ?_
  intro p l e s m args below meth c A H locs ls hC hnm hs hZ hl
  obtain ⟨hx, hb, hml, hown, hts, hr, hlocks, hK⟩ := id hC
  have hl : lv_has ls 10 [(0, .ref st), (1, .int (nI a)), (2, .int ki), (3, .int kj), (4, .int kk), (5, .int kl)] := hl
  have hZ : zz_Z g A s.heap [cw_k5 st (nI na) (nI nu) kd dp cl sa ln bt pn bf, cw_i g dp 60 dpf, cw_i g sa 60 saf, cw_i g ln 60 lnf, cw_l g bt 4000 btf] H locs := hZ
  have hna := h_S.1
  have hnu := h_S.2.1
  refine lv_iload_n hx hb dX6_walk_0 rfl (lv_at hl 1 rfl) ?_
  refine lv_istore (lv' := [(6, .int (nI a)), (0, .ref st), (1, .int (nI a)), (2, .int ki), (3, .int kj), (4, .int kk), (5, .int kl)]) hx hb dX6_walk_1 hl (by decide) rfl (fun ls hl => ?_)
  refine lv_iconst (v := 0) hx hb dX6_walk_3 (by decide) ?_
  refine lv_istore (lv' := [(7, .int 0), (6, .int (nI a)), (0, .ref st), (1, .int (nI a)), (2, .int ki), (3, .int kj), (4, .int kk), (5, .int kl)]) hx hb dX6_walk_4 hl (by decide) rfl (fun ls hl => ?_)
  have LP1 : ∀ (N : Nat) (n : Nat) (b : Nat) (H : Heap) (locs : List Loc) (ls : Array Slot), (n ≤ 4) → (b < na) → (sp_walk na dpf saf lnf btf 4 a 0 (zz_pa ki kj kk kl) = sp_walk na dpf saf lnf btf (4 - n) b n (zz_pa ki kj kk kl)) → (4 - n) < N → zz_Z g A s.heap [cw_k5 st (nI na) (nI nu) kd dp cl sa ln bt pn bf, cw_i g dp 60 dpf, cw_i g sa 60 saf, cw_i g ln 60 lnf, cw_l g bt 4000 btf] H locs → lv_has ls 10 [(7, .int (nI n)), (6, .int (nI b)), (0, .ref st), (1, .int (nI a)), (2, .int ki), (3, .int kj), (4, .int kk), (5, .int kl)] → W p l e rm_co_walk s m args below meth c H locs 0 0 (zz_QI below g args s A rm_co_walk.cells rm_co_walk.slots (po_co_walk g st kd dp cl sa ln bt pn bf na nu dpf saf lnf btf a ki kj kk kl h_S h_a)) (F0 m 6 ls []) := by
    intro N
    induction N with
    | zero =>
      intro n b H locs ls hn hb0 he hN
      exact absurd hN (Nat.not_lt_zero _)
    | succ N ih =>
      intro n b H locs ls hn hb0 he hN hZ hl
      refine lv_iload hx hb dX6_walk_6 (lv_at hl 0 rfl) ?_
      refine lv_iconst (v := 4) hx hb dX6_walk_8 (by decide) ?_
      have bd3 : n < 2 ^ 31 := by omega
      refine lv_icmp_ge (tgt := 121) hx hb dX6_walk_9 (by decide) (fun c2 => ?_) (fun c2 => ?_)
      · have nc2 : 4 ≤ n := (nI_leI (by decide) bd3).mp (show nI (4) ≤ nI (n) from c2)
        refine lv_bipush (v := -2) hx hb dX6_walk_121 (by decide) ?_
        exact zz_iret hC hZ (⟨Or.inl rfl, by rw [he, show 4 - n = 0 by omega, sp_walk], rfl⟩) (Nat.le_of_ble_eq_true rfl) (Nat.le_of_ble_eq_true rfl) dX6_walk_123
      · have nc2 : ¬ 4 ≤ n := fun zq => c2 (show nI (4) ≤ nI (n) from (nI_leI (by decide) bd3).mpr zq)
        refine lv_iload hx hb dX6_walk_12 (lv_at hl 0 rfl) ?_
        refine lv_if_ne (tgt := 21) hx hb dX6_walk_14 (by decide) (fun c4 => ?_) (fun c4 => ?_)
        · have nc4 : ¬ n = 0 := fun zq => c4 (show nI (n) = nI (0) from (nI_eq bd3 (by decide)).mpr zq)
          refine lv_iload hx hb dX6_walk_21 (lv_at hl 0 rfl) ?_
          refine lv_iconst (v := 1) hx hb dX6_walk_23 (by decide) ?_
          refine lv_icmp_ne (tgt := 31) hx hb dX6_walk_24 (by decide) (fun c5 => ?_) (fun c5 => ?_)
          · have nc5 : ¬ n = 1 := fun zq => c5 (show nI (n) = nI (1) from (nI_eq bd3 (by decide)).mpr zq)
            refine lv_iload hx hb dX6_walk_31 (lv_at hl 0 rfl) ?_
            refine lv_iconst (v := 2) hx hb dX6_walk_33 (by decide) ?_
            refine lv_icmp_ne (tgt := 42) hx hb dX6_walk_34 (by decide) (fun c6 => ?_) (fun c6 => ?_)
            · have nc6 : ¬ n = 2 := fun zq => c6 (show nI (n) = nI (2) from (nI_eq bd3 (by decide)).mpr zq)
              refine lv_iload hx hb dX6_walk_42 (lv_at hl 7 rfl) ?_
              refine lv_istore (lv' := [(8, .int kl), (7, .int (nI n)), (6, .int (nI b)), (0, .ref st), (1, .int (nI a)), (2, .int ki), (3, .int kj), (4, .int kk), (5, .int kl)]) hx hb dX6_walk_44 hl (by decide) rfl (fun ls hl => ?_)
              have ep : zz_pa ki kj kk kl n = kl := by rw [zz_pa, if_neg (by omega), if_neg (by omega), if_neg (by omega)]
              refine lv_aload_n hx hb dX6_walk_46 rfl (lv_at hl 3 rfl) ?_
              refine lv_iload hx hb dX6_walk_47 (lv_at hl 2 rfl) ?_
              refine lv_iload hx hb dX6_walk_49 (lv_at hl 0 rfl) ?_
              refine zz_iV (As := [.int (nI b), .int kl]) (wc := [cw_k5 st (nI na) (nI nu) kd dp cl sa ln bt pn bf, cw_i g ln 60 lnf]) (wr := [cw_i g dp 60 dpf, cw_i g sa 60 saf, cw_l g bt 4000 btf]) (rest := []) hC hZ hs hl zc_X6_51 (co_hasPlace g st kd dp cl sa ln bt pn bf na nu lnf b kl (by omega)) [0, 3] [1, 2, 4] rfl rfl (by decide +kernel) (ci := 5) (q0 := 0) rfl rfl rfl rfl (Nat.le_of_ble_eq_true rfl) ⟨⟨Nat.le_of_ble_eq_true rfl, Nat.le_of_ble_eq_true rfl⟩, Nat.le_of_ble_eq_true rfl, Nat.le_of_ble_eq_true rfl⟩ dX6_walk_51 (fun r7 u8 H locs hp hZ => ?_)
              obtain ⟨rfl, rfl⟩ := hp
              have hZ : zz_Z g A s.heap [cw_i g dp 60 dpf, cw_i g sa 60 saf, cw_l g bt 4000 btf, cw_k5 st (nI na) (nI nu) kd dp cl sa ln bt pn bf, cw_i g ln 60 lnf] H locs := hZ
              refine lv_if_ne (tgt := 60) hx hb dX6_walk_54 (by decide) (fun c9 => ?_) (fun c9 => ?_)
              · obtain ⟨sz, lz, dz, es, el, ed, g1, g2, g3, g4⟩ := h_S.2.2 b hb0
                obtain ⟨q, hq, eq0⟩ := zl_place el g1 c9
                have hkq : (kl).toNatClampNeg = q := by rw [eq0]; exact nI_clamp (by omega)
                have hsq : (saf b).toNatClampNeg = sz := by rw [es]; exact nI_clamp (by omega)
                have hl : lv_has ls 10 [(8, .int (nI q)), (7, .int (nI n)), (6, .int (nI b)), (0, .ref st), (1, .int (nI a)), (2, .int ki), (3, .int kj), (4, .int kk), (5, .int kl)] := by rw [← eq0]; exact hl
                refine lv_aload_n hx hb dX6_walk_60 rfl (lv_at hl 3 rfl) ?_
                refine zz_get hC hZ 3 rfl zf_X6_15 rfl dX6_walk_61 ?_
                refine lv_iload hx hb dX6_walk_64 (lv_at hl 2 rfl) ?_
                have bd10 : b < 60 := by omega
                refine zz_ialdn hC hZ 0 rfl bd10 (by decide) dX6_walk_66 ?_
                refine zz_topi (v := nI dz) (ed) ?_
                refine lv_iconst (v := 1) hx hb dX6_walk_67 (by decide) ?_
                have bd12 : dz < 2 ^ 31 := by omega
                refine lv_icmp_ne (tgt := 81) hx hb dX6_walk_68 (by decide) (fun c11 => ?_) (fun c11 => ?_)
                · have nc11 : ¬ dz = 1 := fun zq => c11 (show nI (dz) = nI (1) from (nI_eq bd12 (by decide)).mpr zq)
                  refine lv_aload_n hx hb dX6_walk_81 rfl (lv_at hl 3 rfl) ?_
                  refine zz_get hC hZ 3 rfl zf_X6_27 rfl dX6_walk_82 ?_
                  refine lv_aload_n hx hb dX6_walk_85 rfl (lv_at hl 3 rfl) ?_
                  refine zz_get hC hZ 3 rfl zf_X6_21 rfl dX6_walk_86 ?_
                  refine lv_iload hx hb dX6_walk_89 (lv_at hl 2 rfl) ?_
                  refine zz_ialdn hC hZ 1 rfl bd10 (by decide) dX6_walk_91 ?_
                  refine zz_topi (v := nI sz) (es) ?_
                  refine lv_iload hx hb dX6_walk_92 (lv_at hl 0 rfl) ?_
                  refine lv_iadd hx hb dX6_walk_94 ?_
                  refine zz_topi (v := nI (sz + q)) (nI_add _ _) ?_
                  have bd13 : (sz + q) < 4000 := by omega
                  refine zz_laldn hC hZ 2 rfl bd13 (by decide) dX6_walk_95 ?_
                  refine lv_l2i hx hb dX6_walk_96 rfl ?_
                  refine lv_istore (lv' := [(9, .int ((btf (sz + q)).toInt32)), (8, .int (nI q)), (7, .int (nI n)), (6, .int (nI b)), (0, .ref st), (1, .int (nI a)), (2, .int ki), (3, .int kj), (4, .int kk), (5, .int kl)]) hx hb dX6_walk_97 hl (by decide) rfl (fun ls hl => ?_)
                  refine lv_aload_n hx hb dX6_walk_99 rfl (lv_at hl 4 rfl) ?_
                  refine lv_iload hx hb dX6_walk_100 (lv_at hl 0 rfl) ?_
                  refine zz_iV (As := [.int ((btf (sz + q)).toInt32)]) (wc := [cw_k5 st (nI na) (nI nu) kd dp cl sa ln bt pn bf]) (wr := [cw_i g dp 60 dpf, cw_i g sa 60 saf, cw_l g bt 4000 btf, cw_i g ln 60 lnf]) (rest := []) hC hZ hs hl zc_X6_55 (co_has g st kd dp cl sa ln bt pn bf (nI na) (nI nu) ((btf (sz + q)).toInt32)) [3] [0, 1, 2, 4] rfl rfl (by decide +kernel) (ci := 5) (q0 := 0) rfl rfl rfl rfl (Nat.le_of_ble_eq_true rfl) ⟨⟨Nat.le_of_ble_eq_true rfl, Nat.le_of_ble_eq_true rfl⟩, Nat.le_of_ble_eq_true rfl, Nat.le_of_ble_eq_true rfl⟩ dX6_walk_102 (fun r14 u15 H locs hp hZ => ?_)
                  obtain ⟨rfl, rfl⟩ := hp
                  have hZ : zz_Z g A s.heap [cw_i g dp 60 dpf, cw_i g sa 60 saf, cw_l g bt 4000 btf, cw_i g ln 60 lnf, cw_k5 st (nI na) (nI nu) kd dp cl sa ln bt pn bf] H locs := hZ
                  refine lv_if_ne (tgt := 111) hx hb dX6_walk_105 (by decide) (fun c16 => ?_) (fun c16 => ?_)
                  · obtain ⟨b2, hb2, eb2⟩ := zl_has (by omega) c16
                    have hl : lv_has ls 10 [(9, .int (nI b2)), (8, .int (nI q)), (7, .int (nI n)), (6, .int (nI b)), (0, .ref st), (1, .int (nI a)), (2, .int ki), (3, .int kj), (4, .int kk), (5, .int kl)] := by rw [← eb2]; exact hl
                    refine lv_iload hx hb dX6_walk_111 (lv_at hl 0 rfl) ?_
                    refine lv_istore (lv' := [(6, .int (nI b2)), (9, .int (nI b2)), (8, .int (nI q)), (7, .int (nI n)), (0, .ref st), (1, .int (nI a)), (2, .int ki), (3, .int kj), (4, .int kk), (5, .int kl)]) hx hb dX6_walk_113 hl (by decide) rfl (fun ls hl => ?_)
                    refine lv_iinc (v := nI (n + 1)) (lv' := [(7, .int (nI (n + 1))), (6, .int (nI b2)), (9, .int (nI b2)), (8, .int (nI q)), (0, .ref st), (1, .int (nI a)), (2, .int ki), (3, .int kj), (4, .int kk), (5, .int kl)]) hx hb dX6_walk_115 hl (k := 3) rfl (nI_1 _) (by decide) rfl (fun ls hl => ?_)
                    refine lv_goto (tgt := 6) hx hb dX6_walk_118 (by decide) ?_
                    exact ih (n + 1) b2 H locs ls (by omega) (by omega) (by rw [he, show 4 - n = (4 - (n + 1)) + 1 by omega, sp_walk, ep, hkq, hsq, if_neg c9, if_neg (fun z => c11 (ed.symm.trans z)), if_neg c16, eb2, nI_clamp (by omega)]) (by omega) (hZ.sub [4, 0, 1, 3, 2] (by decide +kernel) rfl) (lv_sub hl [0, 1, 4, 5, 6, 7, 8, 9] rfl)
                  · refine lv_bipush (v := -3) hx hb dX6_walk_108 (by decide) ?_
                    have hZ : zz_Z g A s.heap [cw_k5 st (nI na) (nI nu) kd dp cl sa ln bt pn bf, cw_i g dp 60 dpf, cw_i g sa 60 saf, cw_i g ln 60 lnf, cw_l g bt 4000 btf] H locs := hZ.sub [4, 0, 1, 3, 2] (by decide +kernel) rfl
                    exact zz_iret hC hZ (⟨Or.inr (Or.inl rfl), by rw [he, show 4 - n = (4 - (n + 1)) + 1 by omega, sp_walk, ep, hkq, hsq, if_neg c9, if_neg (fun z => c11 (ed.symm.trans z)), if_pos c16], rfl⟩) (Nat.le_of_ble_eq_true rfl) (Nat.le_of_ble_eq_true rfl) dX6_walk_110
                · have nc11 : dz = 1 := (nI_eq bd12 (by decide)).mp (show nI (dz) = nI (1) from c11)
                  refine lv_iload hx hb dX6_walk_71 (lv_at hl 2 rfl) ?_
                  refine lv_sipush (v := 1000) hx hb dX6_walk_73 (by decide) ?_
                  refine lv_imul hx hb dX6_walk_76 ?_
                  refine lv_iload hx hb dX6_walk_77 (lv_at hl 0 rfl) ?_
                  refine lv_iadd hx hb dX6_walk_79 ?_
                  have hZ : zz_Z g A s.heap [cw_k5 st (nI na) (nI nu) kd dp cl sa ln bt pn bf, cw_i g dp 60 dpf, cw_i g sa 60 saf, cw_i g ln 60 lnf, cw_l g bt 4000 btf] H locs := hZ.sub [3, 0, 1, 4, 2] (by decide +kernel) rfl
                  exact zz_iret hC hZ (⟨Or.inr (Or.inr ⟨b, q, lz, zl_1000 b q, hb0, el, hq, g1, ed.trans (by rw [nc11]; rfl)⟩), by rw [he, show 4 - n = (4 - (n + 1)) + 1 by omega, sp_walk, ep, hkq, hsq, if_neg c9, if_pos (ed.trans c11)]; exact zl_1000 b q, rfl⟩) (Nat.le_of_ble_eq_true rfl) (Nat.le_of_ble_eq_true rfl) dX6_walk_80
              · refine lv_bipush (v := -2) hx hb dX6_walk_57 (by decide) ?_
                have hZ : zz_Z g A s.heap [cw_k5 st (nI na) (nI nu) kd dp cl sa ln bt pn bf, cw_i g dp 60 dpf, cw_i g sa 60 saf, cw_i g ln 60 lnf, cw_l g bt 4000 btf] H locs := hZ.sub [3, 0, 1, 4, 2] (by decide +kernel) rfl
                exact zz_iret hC hZ (⟨Or.inl rfl, by rw [he, show 4 - n = (4 - (n + 1)) + 1 by omega, sp_walk, ep, if_pos c9], rfl⟩) (Nat.le_of_ble_eq_true rfl) (Nat.le_of_ble_eq_true rfl) dX6_walk_59
            · have nc6 : n = 2 := (nI_eq bd3 (by decide)).mp (show nI (n) = nI (2) from c6)
              refine lv_iload hx hb dX6_walk_37 (lv_at hl 6 rfl) ?_
              refine lv_goto (tgt := 44) hx hb dX6_walk_39 (by decide) ?_
              refine lv_istore (lv' := [(8, .int kk), (7, .int (nI n)), (6, .int (nI b)), (0, .ref st), (1, .int (nI a)), (2, .int ki), (3, .int kj), (4, .int kk), (5, .int kl)]) hx hb dX6_walk_44 hl (by decide) rfl (fun ls hl => ?_)
              have ep : zz_pa ki kj kk kl n = kk := by rw [zz_pa, if_neg (by omega), if_neg (by omega), if_pos (by omega)]
              refine lv_aload_n hx hb dX6_walk_46 rfl (lv_at hl 3 rfl) ?_
              refine lv_iload hx hb dX6_walk_47 (lv_at hl 2 rfl) ?_
              refine lv_iload hx hb dX6_walk_49 (lv_at hl 0 rfl) ?_
              refine zz_iV (As := [.int (nI b), .int kk]) (wc := [cw_k5 st (nI na) (nI nu) kd dp cl sa ln bt pn bf, cw_i g ln 60 lnf]) (wr := [cw_i g dp 60 dpf, cw_i g sa 60 saf, cw_l g bt 4000 btf]) (rest := []) hC hZ hs hl zc_X6_51 (co_hasPlace g st kd dp cl sa ln bt pn bf na nu lnf b kk (by omega)) [0, 3] [1, 2, 4] rfl rfl (by decide +kernel) (ci := 5) (q0 := 0) rfl rfl rfl rfl (Nat.le_of_ble_eq_true rfl) ⟨⟨Nat.le_of_ble_eq_true rfl, Nat.le_of_ble_eq_true rfl⟩, Nat.le_of_ble_eq_true rfl, Nat.le_of_ble_eq_true rfl⟩ dX6_walk_51 (fun r17 u18 H locs hp hZ => ?_)
              obtain ⟨rfl, rfl⟩ := hp
              have hZ : zz_Z g A s.heap [cw_i g dp 60 dpf, cw_i g sa 60 saf, cw_l g bt 4000 btf, cw_k5 st (nI na) (nI nu) kd dp cl sa ln bt pn bf, cw_i g ln 60 lnf] H locs := hZ
              refine lv_if_ne (tgt := 60) hx hb dX6_walk_54 (by decide) (fun c19 => ?_) (fun c19 => ?_)
              · obtain ⟨sz, lz, dz, es, el, ed, g1, g2, g3, g4⟩ := h_S.2.2 b hb0
                obtain ⟨q, hq, eq0⟩ := zl_place el g1 c19
                have hkq : (kk).toNatClampNeg = q := by rw [eq0]; exact nI_clamp (by omega)
                have hsq : (saf b).toNatClampNeg = sz := by rw [es]; exact nI_clamp (by omega)
                have hl : lv_has ls 10 [(8, .int (nI q)), (7, .int (nI n)), (6, .int (nI b)), (0, .ref st), (1, .int (nI a)), (2, .int ki), (3, .int kj), (4, .int kk), (5, .int kl)] := by rw [← eq0]; exact hl
                refine lv_aload_n hx hb dX6_walk_60 rfl (lv_at hl 3 rfl) ?_
                refine zz_get hC hZ 3 rfl zf_X6_15 rfl dX6_walk_61 ?_
                refine lv_iload hx hb dX6_walk_64 (lv_at hl 2 rfl) ?_
                have bd20 : b < 60 := by omega
                refine zz_ialdn hC hZ 0 rfl bd20 (by decide) dX6_walk_66 ?_
                refine zz_topi (v := nI dz) (ed) ?_
                refine lv_iconst (v := 1) hx hb dX6_walk_67 (by decide) ?_
                have bd22 : dz < 2 ^ 31 := by omega
                refine lv_icmp_ne (tgt := 81) hx hb dX6_walk_68 (by decide) (fun c21 => ?_) (fun c21 => ?_)
                · have nc21 : ¬ dz = 1 := fun zq => c21 (show nI (dz) = nI (1) from (nI_eq bd22 (by decide)).mpr zq)
                  refine lv_aload_n hx hb dX6_walk_81 rfl (lv_at hl 3 rfl) ?_
                  refine zz_get hC hZ 3 rfl zf_X6_27 rfl dX6_walk_82 ?_
                  refine lv_aload_n hx hb dX6_walk_85 rfl (lv_at hl 3 rfl) ?_
                  refine zz_get hC hZ 3 rfl zf_X6_21 rfl dX6_walk_86 ?_
                  refine lv_iload hx hb dX6_walk_89 (lv_at hl 2 rfl) ?_
                  refine zz_ialdn hC hZ 1 rfl bd20 (by decide) dX6_walk_91 ?_
                  refine zz_topi (v := nI sz) (es) ?_
                  refine lv_iload hx hb dX6_walk_92 (lv_at hl 0 rfl) ?_
                  refine lv_iadd hx hb dX6_walk_94 ?_
                  refine zz_topi (v := nI (sz + q)) (nI_add _ _) ?_
                  have bd23 : (sz + q) < 4000 := by omega
                  refine zz_laldn hC hZ 2 rfl bd23 (by decide) dX6_walk_95 ?_
                  refine lv_l2i hx hb dX6_walk_96 rfl ?_
                  refine lv_istore (lv' := [(9, .int ((btf (sz + q)).toInt32)), (8, .int (nI q)), (7, .int (nI n)), (6, .int (nI b)), (0, .ref st), (1, .int (nI a)), (2, .int ki), (3, .int kj), (4, .int kk), (5, .int kl)]) hx hb dX6_walk_97 hl (by decide) rfl (fun ls hl => ?_)
                  refine lv_aload_n hx hb dX6_walk_99 rfl (lv_at hl 4 rfl) ?_
                  refine lv_iload hx hb dX6_walk_100 (lv_at hl 0 rfl) ?_
                  refine zz_iV (As := [.int ((btf (sz + q)).toInt32)]) (wc := [cw_k5 st (nI na) (nI nu) kd dp cl sa ln bt pn bf]) (wr := [cw_i g dp 60 dpf, cw_i g sa 60 saf, cw_l g bt 4000 btf, cw_i g ln 60 lnf]) (rest := []) hC hZ hs hl zc_X6_55 (co_has g st kd dp cl sa ln bt pn bf (nI na) (nI nu) ((btf (sz + q)).toInt32)) [3] [0, 1, 2, 4] rfl rfl (by decide +kernel) (ci := 5) (q0 := 0) rfl rfl rfl rfl (Nat.le_of_ble_eq_true rfl) ⟨⟨Nat.le_of_ble_eq_true rfl, Nat.le_of_ble_eq_true rfl⟩, Nat.le_of_ble_eq_true rfl, Nat.le_of_ble_eq_true rfl⟩ dX6_walk_102 (fun r24 u25 H locs hp hZ => ?_)
                  obtain ⟨rfl, rfl⟩ := hp
                  have hZ : zz_Z g A s.heap [cw_i g dp 60 dpf, cw_i g sa 60 saf, cw_l g bt 4000 btf, cw_i g ln 60 lnf, cw_k5 st (nI na) (nI nu) kd dp cl sa ln bt pn bf] H locs := hZ
                  refine lv_if_ne (tgt := 111) hx hb dX6_walk_105 (by decide) (fun c26 => ?_) (fun c26 => ?_)
                  · obtain ⟨b2, hb2, eb2⟩ := zl_has (by omega) c26
                    have hl : lv_has ls 10 [(9, .int (nI b2)), (8, .int (nI q)), (7, .int (nI n)), (6, .int (nI b)), (0, .ref st), (1, .int (nI a)), (2, .int ki), (3, .int kj), (4, .int kk), (5, .int kl)] := by rw [← eb2]; exact hl
                    refine lv_iload hx hb dX6_walk_111 (lv_at hl 0 rfl) ?_
                    refine lv_istore (lv' := [(6, .int (nI b2)), (9, .int (nI b2)), (8, .int (nI q)), (7, .int (nI n)), (0, .ref st), (1, .int (nI a)), (2, .int ki), (3, .int kj), (4, .int kk), (5, .int kl)]) hx hb dX6_walk_113 hl (by decide) rfl (fun ls hl => ?_)
                    refine lv_iinc (v := nI (n + 1)) (lv' := [(7, .int (nI (n + 1))), (6, .int (nI b2)), (9, .int (nI b2)), (8, .int (nI q)), (0, .ref st), (1, .int (nI a)), (2, .int ki), (3, .int kj), (4, .int kk), (5, .int kl)]) hx hb dX6_walk_115 hl (k := 3) rfl (nI_1 _) (by decide) rfl (fun ls hl => ?_)
                    refine lv_goto (tgt := 6) hx hb dX6_walk_118 (by decide) ?_
                    exact ih (n + 1) b2 H locs ls (by omega) (by omega) (by rw [he, show 4 - n = (4 - (n + 1)) + 1 by omega, sp_walk, ep, hkq, hsq, if_neg c19, if_neg (fun z => c21 (ed.symm.trans z)), if_neg c26, eb2, nI_clamp (by omega)]) (by omega) (hZ.sub [4, 0, 1, 3, 2] (by decide +kernel) rfl) (lv_sub hl [0, 1, 4, 5, 6, 7, 8, 9] rfl)
                  · refine lv_bipush (v := -3) hx hb dX6_walk_108 (by decide) ?_
                    have hZ : zz_Z g A s.heap [cw_k5 st (nI na) (nI nu) kd dp cl sa ln bt pn bf, cw_i g dp 60 dpf, cw_i g sa 60 saf, cw_i g ln 60 lnf, cw_l g bt 4000 btf] H locs := hZ.sub [4, 0, 1, 3, 2] (by decide +kernel) rfl
                    exact zz_iret hC hZ (⟨Or.inr (Or.inl rfl), by rw [he, show 4 - n = (4 - (n + 1)) + 1 by omega, sp_walk, ep, hkq, hsq, if_neg c19, if_neg (fun z => c21 (ed.symm.trans z)), if_pos c26], rfl⟩) (Nat.le_of_ble_eq_true rfl) (Nat.le_of_ble_eq_true rfl) dX6_walk_110
                · have nc21 : dz = 1 := (nI_eq bd22 (by decide)).mp (show nI (dz) = nI (1) from c21)
                  refine lv_iload hx hb dX6_walk_71 (lv_at hl 2 rfl) ?_
                  refine lv_sipush (v := 1000) hx hb dX6_walk_73 (by decide) ?_
                  refine lv_imul hx hb dX6_walk_76 ?_
                  refine lv_iload hx hb dX6_walk_77 (lv_at hl 0 rfl) ?_
                  refine lv_iadd hx hb dX6_walk_79 ?_
                  have hZ : zz_Z g A s.heap [cw_k5 st (nI na) (nI nu) kd dp cl sa ln bt pn bf, cw_i g dp 60 dpf, cw_i g sa 60 saf, cw_i g ln 60 lnf, cw_l g bt 4000 btf] H locs := hZ.sub [3, 0, 1, 4, 2] (by decide +kernel) rfl
                  exact zz_iret hC hZ (⟨Or.inr (Or.inr ⟨b, q, lz, zl_1000 b q, hb0, el, hq, g1, ed.trans (by rw [nc21]; rfl)⟩), by rw [he, show 4 - n = (4 - (n + 1)) + 1 by omega, sp_walk, ep, hkq, hsq, if_neg c19, if_pos (ed.trans c21)]; exact zl_1000 b q, rfl⟩) (Nat.le_of_ble_eq_true rfl) (Nat.le_of_ble_eq_true rfl) dX6_walk_80
              · refine lv_bipush (v := -2) hx hb dX6_walk_57 (by decide) ?_
                have hZ : zz_Z g A s.heap [cw_k5 st (nI na) (nI nu) kd dp cl sa ln bt pn bf, cw_i g dp 60 dpf, cw_i g sa 60 saf, cw_i g ln 60 lnf, cw_l g bt 4000 btf] H locs := hZ.sub [3, 0, 1, 4, 2] (by decide +kernel) rfl
                exact zz_iret hC hZ (⟨Or.inl rfl, by rw [he, show 4 - n = (4 - (n + 1)) + 1 by omega, sp_walk, ep, if_pos c19], rfl⟩) (Nat.le_of_ble_eq_true rfl) (Nat.le_of_ble_eq_true rfl) dX6_walk_59
          · have nc5 : n = 1 := (nI_eq bd3 (by decide)).mp (show nI (n) = nI (1) from c5)
            refine lv_iload_n hx hb dX6_walk_27 rfl (lv_at hl 5 rfl) ?_
            refine lv_goto (tgt := 44) hx hb dX6_walk_28 (by decide) ?_
            refine lv_istore (lv' := [(8, .int kj), (7, .int (nI n)), (6, .int (nI b)), (0, .ref st), (1, .int (nI a)), (2, .int ki), (3, .int kj), (4, .int kk), (5, .int kl)]) hx hb dX6_walk_44 hl (by decide) rfl (fun ls hl => ?_)
            have ep : zz_pa ki kj kk kl n = kj := by rw [zz_pa, if_neg (by omega), if_pos (by omega)]
            refine lv_aload_n hx hb dX6_walk_46 rfl (lv_at hl 3 rfl) ?_
            refine lv_iload hx hb dX6_walk_47 (lv_at hl 2 rfl) ?_
            refine lv_iload hx hb dX6_walk_49 (lv_at hl 0 rfl) ?_
            refine zz_iV (As := [.int (nI b), .int kj]) (wc := [cw_k5 st (nI na) (nI nu) kd dp cl sa ln bt pn bf, cw_i g ln 60 lnf]) (wr := [cw_i g dp 60 dpf, cw_i g sa 60 saf, cw_l g bt 4000 btf]) (rest := []) hC hZ hs hl zc_X6_51 (co_hasPlace g st kd dp cl sa ln bt pn bf na nu lnf b kj (by omega)) [0, 3] [1, 2, 4] rfl rfl (by decide +kernel) (ci := 5) (q0 := 0) rfl rfl rfl rfl (Nat.le_of_ble_eq_true rfl) ⟨⟨Nat.le_of_ble_eq_true rfl, Nat.le_of_ble_eq_true rfl⟩, Nat.le_of_ble_eq_true rfl, Nat.le_of_ble_eq_true rfl⟩ dX6_walk_51 (fun r27 u28 H locs hp hZ => ?_)
            obtain ⟨rfl, rfl⟩ := hp
            have hZ : zz_Z g A s.heap [cw_i g dp 60 dpf, cw_i g sa 60 saf, cw_l g bt 4000 btf, cw_k5 st (nI na) (nI nu) kd dp cl sa ln bt pn bf, cw_i g ln 60 lnf] H locs := hZ
            refine lv_if_ne (tgt := 60) hx hb dX6_walk_54 (by decide) (fun c29 => ?_) (fun c29 => ?_)
            · obtain ⟨sz, lz, dz, es, el, ed, g1, g2, g3, g4⟩ := h_S.2.2 b hb0
              obtain ⟨q, hq, eq0⟩ := zl_place el g1 c29
              have hkq : (kj).toNatClampNeg = q := by rw [eq0]; exact nI_clamp (by omega)
              have hsq : (saf b).toNatClampNeg = sz := by rw [es]; exact nI_clamp (by omega)
              have hl : lv_has ls 10 [(8, .int (nI q)), (7, .int (nI n)), (6, .int (nI b)), (0, .ref st), (1, .int (nI a)), (2, .int ki), (3, .int kj), (4, .int kk), (5, .int kl)] := by rw [← eq0]; exact hl
              refine lv_aload_n hx hb dX6_walk_60 rfl (lv_at hl 3 rfl) ?_
              refine zz_get hC hZ 3 rfl zf_X6_15 rfl dX6_walk_61 ?_
              refine lv_iload hx hb dX6_walk_64 (lv_at hl 2 rfl) ?_
              have bd30 : b < 60 := by omega
              refine zz_ialdn hC hZ 0 rfl bd30 (by decide) dX6_walk_66 ?_
              refine zz_topi (v := nI dz) (ed) ?_
              refine lv_iconst (v := 1) hx hb dX6_walk_67 (by decide) ?_
              have bd32 : dz < 2 ^ 31 := by omega
              refine lv_icmp_ne (tgt := 81) hx hb dX6_walk_68 (by decide) (fun c31 => ?_) (fun c31 => ?_)
              · have nc31 : ¬ dz = 1 := fun zq => c31 (show nI (dz) = nI (1) from (nI_eq bd32 (by decide)).mpr zq)
                refine lv_aload_n hx hb dX6_walk_81 rfl (lv_at hl 3 rfl) ?_
                refine zz_get hC hZ 3 rfl zf_X6_27 rfl dX6_walk_82 ?_
                refine lv_aload_n hx hb dX6_walk_85 rfl (lv_at hl 3 rfl) ?_
                refine zz_get hC hZ 3 rfl zf_X6_21 rfl dX6_walk_86 ?_
                refine lv_iload hx hb dX6_walk_89 (lv_at hl 2 rfl) ?_
                refine zz_ialdn hC hZ 1 rfl bd30 (by decide) dX6_walk_91 ?_
                refine zz_topi (v := nI sz) (es) ?_
                refine lv_iload hx hb dX6_walk_92 (lv_at hl 0 rfl) ?_
                refine lv_iadd hx hb dX6_walk_94 ?_
                refine zz_topi (v := nI (sz + q)) (nI_add _ _) ?_
                have bd33 : (sz + q) < 4000 := by omega
                refine zz_laldn hC hZ 2 rfl bd33 (by decide) dX6_walk_95 ?_
                refine lv_l2i hx hb dX6_walk_96 rfl ?_
                refine lv_istore (lv' := [(9, .int ((btf (sz + q)).toInt32)), (8, .int (nI q)), (7, .int (nI n)), (6, .int (nI b)), (0, .ref st), (1, .int (nI a)), (2, .int ki), (3, .int kj), (4, .int kk), (5, .int kl)]) hx hb dX6_walk_97 hl (by decide) rfl (fun ls hl => ?_)
                refine lv_aload_n hx hb dX6_walk_99 rfl (lv_at hl 4 rfl) ?_
                refine lv_iload hx hb dX6_walk_100 (lv_at hl 0 rfl) ?_
                refine zz_iV (As := [.int ((btf (sz + q)).toInt32)]) (wc := [cw_k5 st (nI na) (nI nu) kd dp cl sa ln bt pn bf]) (wr := [cw_i g dp 60 dpf, cw_i g sa 60 saf, cw_l g bt 4000 btf, cw_i g ln 60 lnf]) (rest := []) hC hZ hs hl zc_X6_55 (co_has g st kd dp cl sa ln bt pn bf (nI na) (nI nu) ((btf (sz + q)).toInt32)) [3] [0, 1, 2, 4] rfl rfl (by decide +kernel) (ci := 5) (q0 := 0) rfl rfl rfl rfl (Nat.le_of_ble_eq_true rfl) ⟨⟨Nat.le_of_ble_eq_true rfl, Nat.le_of_ble_eq_true rfl⟩, Nat.le_of_ble_eq_true rfl, Nat.le_of_ble_eq_true rfl⟩ dX6_walk_102 (fun r34 u35 H locs hp hZ => ?_)
                obtain ⟨rfl, rfl⟩ := hp
                have hZ : zz_Z g A s.heap [cw_i g dp 60 dpf, cw_i g sa 60 saf, cw_l g bt 4000 btf, cw_i g ln 60 lnf, cw_k5 st (nI na) (nI nu) kd dp cl sa ln bt pn bf] H locs := hZ
                refine lv_if_ne (tgt := 111) hx hb dX6_walk_105 (by decide) (fun c36 => ?_) (fun c36 => ?_)
                · obtain ⟨b2, hb2, eb2⟩ := zl_has (by omega) c36
                  have hl : lv_has ls 10 [(9, .int (nI b2)), (8, .int (nI q)), (7, .int (nI n)), (6, .int (nI b)), (0, .ref st), (1, .int (nI a)), (2, .int ki), (3, .int kj), (4, .int kk), (5, .int kl)] := by rw [← eb2]; exact hl
                  refine lv_iload hx hb dX6_walk_111 (lv_at hl 0 rfl) ?_
                  refine lv_istore (lv' := [(6, .int (nI b2)), (9, .int (nI b2)), (8, .int (nI q)), (7, .int (nI n)), (0, .ref st), (1, .int (nI a)), (2, .int ki), (3, .int kj), (4, .int kk), (5, .int kl)]) hx hb dX6_walk_113 hl (by decide) rfl (fun ls hl => ?_)
                  refine lv_iinc (v := nI (n + 1)) (lv' := [(7, .int (nI (n + 1))), (6, .int (nI b2)), (9, .int (nI b2)), (8, .int (nI q)), (0, .ref st), (1, .int (nI a)), (2, .int ki), (3, .int kj), (4, .int kk), (5, .int kl)]) hx hb dX6_walk_115 hl (k := 3) rfl (nI_1 _) (by decide) rfl (fun ls hl => ?_)
                  refine lv_goto (tgt := 6) hx hb dX6_walk_118 (by decide) ?_
                  exact ih (n + 1) b2 H locs ls (by omega) (by omega) (by rw [he, show 4 - n = (4 - (n + 1)) + 1 by omega, sp_walk, ep, hkq, hsq, if_neg c29, if_neg (fun z => c31 (ed.symm.trans z)), if_neg c36, eb2, nI_clamp (by omega)]) (by omega) (hZ.sub [4, 0, 1, 3, 2] (by decide +kernel) rfl) (lv_sub hl [0, 1, 4, 5, 6, 7, 8, 9] rfl)
                · refine lv_bipush (v := -3) hx hb dX6_walk_108 (by decide) ?_
                  have hZ : zz_Z g A s.heap [cw_k5 st (nI na) (nI nu) kd dp cl sa ln bt pn bf, cw_i g dp 60 dpf, cw_i g sa 60 saf, cw_i g ln 60 lnf, cw_l g bt 4000 btf] H locs := hZ.sub [4, 0, 1, 3, 2] (by decide +kernel) rfl
                  exact zz_iret hC hZ (⟨Or.inr (Or.inl rfl), by rw [he, show 4 - n = (4 - (n + 1)) + 1 by omega, sp_walk, ep, hkq, hsq, if_neg c29, if_neg (fun z => c31 (ed.symm.trans z)), if_pos c36], rfl⟩) (Nat.le_of_ble_eq_true rfl) (Nat.le_of_ble_eq_true rfl) dX6_walk_110
              · have nc31 : dz = 1 := (nI_eq bd32 (by decide)).mp (show nI (dz) = nI (1) from c31)
                refine lv_iload hx hb dX6_walk_71 (lv_at hl 2 rfl) ?_
                refine lv_sipush (v := 1000) hx hb dX6_walk_73 (by decide) ?_
                refine lv_imul hx hb dX6_walk_76 ?_
                refine lv_iload hx hb dX6_walk_77 (lv_at hl 0 rfl) ?_
                refine lv_iadd hx hb dX6_walk_79 ?_
                have hZ : zz_Z g A s.heap [cw_k5 st (nI na) (nI nu) kd dp cl sa ln bt pn bf, cw_i g dp 60 dpf, cw_i g sa 60 saf, cw_i g ln 60 lnf, cw_l g bt 4000 btf] H locs := hZ.sub [3, 0, 1, 4, 2] (by decide +kernel) rfl
                exact zz_iret hC hZ (⟨Or.inr (Or.inr ⟨b, q, lz, zl_1000 b q, hb0, el, hq, g1, ed.trans (by rw [nc31]; rfl)⟩), by rw [he, show 4 - n = (4 - (n + 1)) + 1 by omega, sp_walk, ep, hkq, hsq, if_neg c29, if_pos (ed.trans c31)]; exact zl_1000 b q, rfl⟩) (Nat.le_of_ble_eq_true rfl) (Nat.le_of_ble_eq_true rfl) dX6_walk_80
            · refine lv_bipush (v := -2) hx hb dX6_walk_57 (by decide) ?_
              have hZ : zz_Z g A s.heap [cw_k5 st (nI na) (nI nu) kd dp cl sa ln bt pn bf, cw_i g dp 60 dpf, cw_i g sa 60 saf, cw_i g ln 60 lnf, cw_l g bt 4000 btf] H locs := hZ.sub [3, 0, 1, 4, 2] (by decide +kernel) rfl
              exact zz_iret hC hZ (⟨Or.inl rfl, by rw [he, show 4 - n = (4 - (n + 1)) + 1 by omega, sp_walk, ep, if_pos c29], rfl⟩) (Nat.le_of_ble_eq_true rfl) (Nat.le_of_ble_eq_true rfl) dX6_walk_59
        · have nc4 : n = 0 := (nI_eq bd3 (by decide)).mp (show nI (n) = nI (0) from c4)
          refine lv_iload_n hx hb dX6_walk_17 rfl (lv_at hl 4 rfl) ?_
          refine lv_goto (tgt := 44) hx hb dX6_walk_18 (by decide) ?_
          refine lv_istore (lv' := [(8, .int ki), (7, .int (nI n)), (6, .int (nI b)), (0, .ref st), (1, .int (nI a)), (2, .int ki), (3, .int kj), (4, .int kk), (5, .int kl)]) hx hb dX6_walk_44 hl (by decide) rfl (fun ls hl => ?_)
          have ep : zz_pa ki kj kk kl n = ki := by rw [zz_pa, if_pos (by omega)]
          refine lv_aload_n hx hb dX6_walk_46 rfl (lv_at hl 3 rfl) ?_
          refine lv_iload hx hb dX6_walk_47 (lv_at hl 2 rfl) ?_
          refine lv_iload hx hb dX6_walk_49 (lv_at hl 0 rfl) ?_
          refine zz_iV (As := [.int (nI b), .int ki]) (wc := [cw_k5 st (nI na) (nI nu) kd dp cl sa ln bt pn bf, cw_i g ln 60 lnf]) (wr := [cw_i g dp 60 dpf, cw_i g sa 60 saf, cw_l g bt 4000 btf]) (rest := []) hC hZ hs hl zc_X6_51 (co_hasPlace g st kd dp cl sa ln bt pn bf na nu lnf b ki (by omega)) [0, 3] [1, 2, 4] rfl rfl (by decide +kernel) (ci := 5) (q0 := 0) rfl rfl rfl rfl (Nat.le_of_ble_eq_true rfl) ⟨⟨Nat.le_of_ble_eq_true rfl, Nat.le_of_ble_eq_true rfl⟩, Nat.le_of_ble_eq_true rfl, Nat.le_of_ble_eq_true rfl⟩ dX6_walk_51 (fun r37 u38 H locs hp hZ => ?_)
          obtain ⟨rfl, rfl⟩ := hp
          have hZ : zz_Z g A s.heap [cw_i g dp 60 dpf, cw_i g sa 60 saf, cw_l g bt 4000 btf, cw_k5 st (nI na) (nI nu) kd dp cl sa ln bt pn bf, cw_i g ln 60 lnf] H locs := hZ
          refine lv_if_ne (tgt := 60) hx hb dX6_walk_54 (by decide) (fun c39 => ?_) (fun c39 => ?_)
          · obtain ⟨sz, lz, dz, es, el, ed, g1, g2, g3, g4⟩ := h_S.2.2 b hb0
            obtain ⟨q, hq, eq0⟩ := zl_place el g1 c39
            have hkq : (ki).toNatClampNeg = q := by rw [eq0]; exact nI_clamp (by omega)
            have hsq : (saf b).toNatClampNeg = sz := by rw [es]; exact nI_clamp (by omega)
            have hl : lv_has ls 10 [(8, .int (nI q)), (7, .int (nI n)), (6, .int (nI b)), (0, .ref st), (1, .int (nI a)), (2, .int ki), (3, .int kj), (4, .int kk), (5, .int kl)] := by rw [← eq0]; exact hl
            refine lv_aload_n hx hb dX6_walk_60 rfl (lv_at hl 3 rfl) ?_
            refine zz_get hC hZ 3 rfl zf_X6_15 rfl dX6_walk_61 ?_
            refine lv_iload hx hb dX6_walk_64 (lv_at hl 2 rfl) ?_
            have bd40 : b < 60 := by omega
            refine zz_ialdn hC hZ 0 rfl bd40 (by decide) dX6_walk_66 ?_
            refine zz_topi (v := nI dz) (ed) ?_
            refine lv_iconst (v := 1) hx hb dX6_walk_67 (by decide) ?_
            have bd42 : dz < 2 ^ 31 := by omega
            refine lv_icmp_ne (tgt := 81) hx hb dX6_walk_68 (by decide) (fun c41 => ?_) (fun c41 => ?_)
            · have nc41 : ¬ dz = 1 := fun zq => c41 (show nI (dz) = nI (1) from (nI_eq bd42 (by decide)).mpr zq)
              refine lv_aload_n hx hb dX6_walk_81 rfl (lv_at hl 3 rfl) ?_
              refine zz_get hC hZ 3 rfl zf_X6_27 rfl dX6_walk_82 ?_
              refine lv_aload_n hx hb dX6_walk_85 rfl (lv_at hl 3 rfl) ?_
              refine zz_get hC hZ 3 rfl zf_X6_21 rfl dX6_walk_86 ?_
              refine lv_iload hx hb dX6_walk_89 (lv_at hl 2 rfl) ?_
              refine zz_ialdn hC hZ 1 rfl bd40 (by decide) dX6_walk_91 ?_
              refine zz_topi (v := nI sz) (es) ?_
              refine lv_iload hx hb dX6_walk_92 (lv_at hl 0 rfl) ?_
              refine lv_iadd hx hb dX6_walk_94 ?_
              refine zz_topi (v := nI (sz + q)) (nI_add _ _) ?_
              have bd43 : (sz + q) < 4000 := by omega
              refine zz_laldn hC hZ 2 rfl bd43 (by decide) dX6_walk_95 ?_
              refine lv_l2i hx hb dX6_walk_96 rfl ?_
              refine lv_istore (lv' := [(9, .int ((btf (sz + q)).toInt32)), (8, .int (nI q)), (7, .int (nI n)), (6, .int (nI b)), (0, .ref st), (1, .int (nI a)), (2, .int ki), (3, .int kj), (4, .int kk), (5, .int kl)]) hx hb dX6_walk_97 hl (by decide) rfl (fun ls hl => ?_)
              refine lv_aload_n hx hb dX6_walk_99 rfl (lv_at hl 4 rfl) ?_
              refine lv_iload hx hb dX6_walk_100 (lv_at hl 0 rfl) ?_
              refine zz_iV (As := [.int ((btf (sz + q)).toInt32)]) (wc := [cw_k5 st (nI na) (nI nu) kd dp cl sa ln bt pn bf]) (wr := [cw_i g dp 60 dpf, cw_i g sa 60 saf, cw_l g bt 4000 btf, cw_i g ln 60 lnf]) (rest := []) hC hZ hs hl zc_X6_55 (co_has g st kd dp cl sa ln bt pn bf (nI na) (nI nu) ((btf (sz + q)).toInt32)) [3] [0, 1, 2, 4] rfl rfl (by decide +kernel) (ci := 5) (q0 := 0) rfl rfl rfl rfl (Nat.le_of_ble_eq_true rfl) ⟨⟨Nat.le_of_ble_eq_true rfl, Nat.le_of_ble_eq_true rfl⟩, Nat.le_of_ble_eq_true rfl, Nat.le_of_ble_eq_true rfl⟩ dX6_walk_102 (fun r44 u45 H locs hp hZ => ?_)
              obtain ⟨rfl, rfl⟩ := hp
              have hZ : zz_Z g A s.heap [cw_i g dp 60 dpf, cw_i g sa 60 saf, cw_l g bt 4000 btf, cw_i g ln 60 lnf, cw_k5 st (nI na) (nI nu) kd dp cl sa ln bt pn bf] H locs := hZ
              refine lv_if_ne (tgt := 111) hx hb dX6_walk_105 (by decide) (fun c46 => ?_) (fun c46 => ?_)
              · obtain ⟨b2, hb2, eb2⟩ := zl_has (by omega) c46
                have hl : lv_has ls 10 [(9, .int (nI b2)), (8, .int (nI q)), (7, .int (nI n)), (6, .int (nI b)), (0, .ref st), (1, .int (nI a)), (2, .int ki), (3, .int kj), (4, .int kk), (5, .int kl)] := by rw [← eb2]; exact hl
                refine lv_iload hx hb dX6_walk_111 (lv_at hl 0 rfl) ?_
                refine lv_istore (lv' := [(6, .int (nI b2)), (9, .int (nI b2)), (8, .int (nI q)), (7, .int (nI n)), (0, .ref st), (1, .int (nI a)), (2, .int ki), (3, .int kj), (4, .int kk), (5, .int kl)]) hx hb dX6_walk_113 hl (by decide) rfl (fun ls hl => ?_)
                refine lv_iinc (v := nI (n + 1)) (lv' := [(7, .int (nI (n + 1))), (6, .int (nI b2)), (9, .int (nI b2)), (8, .int (nI q)), (0, .ref st), (1, .int (nI a)), (2, .int ki), (3, .int kj), (4, .int kk), (5, .int kl)]) hx hb dX6_walk_115 hl (k := 3) rfl (nI_1 _) (by decide) rfl (fun ls hl => ?_)
                refine lv_goto (tgt := 6) hx hb dX6_walk_118 (by decide) ?_
                exact ih (n + 1) b2 H locs ls (by omega) (by omega) (by rw [he, show 4 - n = (4 - (n + 1)) + 1 by omega, sp_walk, ep, hkq, hsq, if_neg c39, if_neg (fun z => c41 (ed.symm.trans z)), if_neg c46, eb2, nI_clamp (by omega)]) (by omega) (hZ.sub [4, 0, 1, 3, 2] (by decide +kernel) rfl) (lv_sub hl [0, 1, 4, 5, 6, 7, 8, 9] rfl)
              · refine lv_bipush (v := -3) hx hb dX6_walk_108 (by decide) ?_
                have hZ : zz_Z g A s.heap [cw_k5 st (nI na) (nI nu) kd dp cl sa ln bt pn bf, cw_i g dp 60 dpf, cw_i g sa 60 saf, cw_i g ln 60 lnf, cw_l g bt 4000 btf] H locs := hZ.sub [4, 0, 1, 3, 2] (by decide +kernel) rfl
                exact zz_iret hC hZ (⟨Or.inr (Or.inl rfl), by rw [he, show 4 - n = (4 - (n + 1)) + 1 by omega, sp_walk, ep, hkq, hsq, if_neg c39, if_neg (fun z => c41 (ed.symm.trans z)), if_pos c46], rfl⟩) (Nat.le_of_ble_eq_true rfl) (Nat.le_of_ble_eq_true rfl) dX6_walk_110
            · have nc41 : dz = 1 := (nI_eq bd42 (by decide)).mp (show nI (dz) = nI (1) from c41)
              refine lv_iload hx hb dX6_walk_71 (lv_at hl 2 rfl) ?_
              refine lv_sipush (v := 1000) hx hb dX6_walk_73 (by decide) ?_
              refine lv_imul hx hb dX6_walk_76 ?_
              refine lv_iload hx hb dX6_walk_77 (lv_at hl 0 rfl) ?_
              refine lv_iadd hx hb dX6_walk_79 ?_
              have hZ : zz_Z g A s.heap [cw_k5 st (nI na) (nI nu) kd dp cl sa ln bt pn bf, cw_i g dp 60 dpf, cw_i g sa 60 saf, cw_i g ln 60 lnf, cw_l g bt 4000 btf] H locs := hZ.sub [3, 0, 1, 4, 2] (by decide +kernel) rfl
              exact zz_iret hC hZ (⟨Or.inr (Or.inr ⟨b, q, lz, zl_1000 b q, hb0, el, hq, g1, ed.trans (by rw [nc41]; rfl)⟩), by rw [he, show 4 - n = (4 - (n + 1)) + 1 by omega, sp_walk, ep, hkq, hsq, if_neg c39, if_pos (ed.trans c41)]; exact zl_1000 b q, rfl⟩) (Nat.le_of_ble_eq_true rfl) (Nat.le_of_ble_eq_true rfl) dX6_walk_80
          · refine lv_bipush (v := -2) hx hb dX6_walk_57 (by decide) ?_
            have hZ : zz_Z g A s.heap [cw_k5 st (nI na) (nI nu) kd dp cl sa ln bt pn bf, cw_i g dp 60 dpf, cw_i g sa 60 saf, cw_i g ln 60 lnf, cw_l g bt 4000 btf] H locs := hZ.sub [3, 0, 1, 4, 2] (by decide +kernel) rfl
            exact zz_iret hC hZ (⟨Or.inl rfl, by rw [he, show 4 - n = (4 - (n + 1)) + 1 by omega, sp_walk, ep, if_pos c39], rfl⟩) (Nat.le_of_ble_eq_true rfl) (Nat.le_of_ble_eq_true rfl) dX6_walk_59
  exact LP1 _ 0 a H locs ls (by omega) (h_a) (rfl) (Nat.lt_succ_self _) hZ (lv_sub hl [0, 1, 2, 3, 4, 5, 6, 7] rfl)
