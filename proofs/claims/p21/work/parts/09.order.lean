section zzCopy
variable {p : Program} {l : Launch} {e : Env} {R : Room} {s : State} {m : MethodId} {args : Array Value} {below : List Frame} {meth : Method} {c : Code} {H : Heap} {locs : List Loc} {cells slots : Nat} {Q : State → Prop}
variable {cc : ByteArray} {pc : Nat} {ls : Array Slot} {rest : List Value} {g : zz_G} {A : Nat → Prop} {a a0 : Nat} {ws : va_W} {own : String} {nL index : Nat} {ret : Option FieldType}
/-- System.arraycopy of longs, the one array or two -/
theorem zz_copyl {x y n : Nat} (hC : zz_C p s m args meth c g own cc nL ret) (hZ : zz_Z g A s.heap ws H locs) {lv : List (Nat × Value)} (hl : lv_has ls nL lv) (w1 : Cond.methodLink own index arraycopyName ∈ zz_w) (w2 : Cond.native arraycopyName ∈ zz_w) (w3 : Cond.static arraycopyName ∈ zz_w) (w4 : Cond.initialized "java/lang/System" ∈ zz_w)
    (q0 q1 : Nat) {n0 n1 : Nat} {f h : Nat → Int64} (ha0 : ws[q0]? = some (cw_l g a0 n0 f)) (ha1 : ws[q1]? = some (cw_l g a n1 h)) (h4 : x + n ≤ n0) (h5 : y + n ≤ n1) (h6 : n0 < 2 ^ 31 ∧ n1 < 2 ^ 31)
    (hframes : 1 ≤ R.frames) (hlocals : (rest.map fun v => v.category).sum + (nativeFrameWords "java/lang/System" "arraycopy" 5 + 11) ≤ R.locals) (hdg : decode cc pc = .ok (.invokestatic index, 3))
    (kk : ∀ (H1 : Heap) (locs1 : List Loc), zz_Z g A s.heap (ws.set q1 (cw_l g a n1 (va_cpy f h x y n))) H1 locs1 → W p l e R s m args below meth c H1 locs1 cells slots Q (F0 m (pc + 3) ls rest)) : W p l e R s m args below meth c H locs cells slots Q (F0 m pc ls (.int (nI n) :: .int (nI y) :: .ref a :: .int (nI x) :: .ref a0 :: rest)) := by
  have ex : (nI x).toNatClampNeg = x := nI_clamp (by omega)
  have ey : (nI y).toNatClampNeg = y := nI_clamp (by omega)
  have en : (nI n).toNatClampNeg = n := nI_clamp (by omega)
  obtain ⟨hP, hD, hS, hA⟩ := hZ
  refine va_copyl (ty := .long) hC.1 hC.2.1 (by rw [hC.2.2.1]; exact hl.1.symm) hC.2.2.2.1 (hC.2.2.2.2.1 _ w1) (hC.2.2.2.2.1 _ w2) (hC.2.2.2.2.1 _ w3) (hC.2.2.2.2.1 _ w4) hC.2.2.2.2.2.2.2.1 hP hD hS q0 q1 1 1 ha0 ha1 rfl rfl rfl (nI_pos (by omega)) (nI_pos (by omega)) (nI_pos (by omega)) (by rw [ex, en]; exact h4) (by rw [ey, en]; exact h5) (fun _ _ => rfl) hframes hlocals hdg (fun H1 locs1 b1 b2 b3 => ?_)
  rw [ex, ey, en] at b1 b2
  exact kk H1 locs1 ⟨b1, b2, b3, hA⟩
end zzCopy
theorem zl_hv {hv : Int32} {hh lo : Nat} (e : hv = nI hh + (-1)) (h1 : hh ≤ 200) (h2 : lo ≤ 200) (h : ¬ hv < nI lo) : ∃ K, hh = K + 1 ∧ lo ≤ K := by
  cases hh with
  | zero =>
    refine absurd ?_ h
    rw [e, Int32.lt_iff_toInt_lt, nI_toInt (by omega)]
    have : (nI 0 + (-1) : Int32).toInt = -1 := by decide
    omega
  | succ K =>
    rw [e, pk_m1] at h
    exact ⟨K, rfl, by rw [nI_ltI (by omega) (by omega)] at h; omega⟩
theorem zl_div2 {n : Nat} (h : n < 2 ^ 31) : nI n / 2 = nI (n / 2) := by
  rw [show (2 : Int32) = nI 2 by decide, pk_div h (by decide) (by decide)]
theorem zl_sub1 (n : Nat) : nI n - 1 = nI n + (-1) := by rw [Int32.sub_eq_add_neg]
theorem dg_X6_halve_0 : (decode cX6_halve 0 = .ok (.aload_n 0, 1)) ∧ (decode cX6_halve 1 = .ok (.getfield 9, 3)) ∧ (decode cX6_halve 4 = .ok (.iload_n 1, 1)) ∧ (decode cX6_halve 5 = .ok (.iaload, 1)) ∧ (decode cX6_halve 6 = .ok (.lload_n 2, 1)) ∧ (decode cX6_halve 7 = .ok (.invokestatic 75, 3)) ∧ (decode cX6_halve 10 = .ok (.lstore 4, 2)) ∧ (decode cX6_halve 12 = .ok (.iconst 0, 1)) ∧ (decode cX6_halve 13 = .ok (.istore 6, 2)) ∧ (decode cX6_halve 15 = .ok (.aload_n 0, 1)) ∧ (decode cX6_halve 16 = .ok (.getfield 24, 3)) ∧ (decode cX6_halve 19 = .ok (.iload_n 1, 1)) ∧ (decode cX6_halve 20 = .ok (.iaload, 1)) ∧ (decode cX6_halve 21 = .ok (.iconst 1, 1)) ∧ (decode cX6_halve 22 = .ok (.isub, 1)) ∧ (decode cX6_halve 23 = .ok (.istore 7, 2)) := by decide +kernel
theorem dX6_halve_0 : decode cX6_halve 0 = .ok (.aload_n 0, 1) := dg_X6_halve_0.1
theorem dX6_halve_1 : decode cX6_halve 1 = .ok (.getfield 9, 3) := dg_X6_halve_0.2.1
theorem dX6_halve_4 : decode cX6_halve 4 = .ok (.iload_n 1, 1) := dg_X6_halve_0.2.2.1
theorem dX6_halve_5 : decode cX6_halve 5 = .ok (.iaload, 1) := dg_X6_halve_0.2.2.2.1
theorem dX6_halve_6 : decode cX6_halve 6 = .ok (.lload_n 2, 1) := dg_X6_halve_0.2.2.2.2.1
theorem dX6_halve_7 : decode cX6_halve 7 = .ok (.invokestatic 75, 3) := dg_X6_halve_0.2.2.2.2.2.1
theorem dX6_halve_10 : decode cX6_halve 10 = .ok (.lstore 4, 2) := dg_X6_halve_0.2.2.2.2.2.2.1
theorem dX6_halve_12 : decode cX6_halve 12 = .ok (.iconst 0, 1) := dg_X6_halve_0.2.2.2.2.2.2.2.1
theorem dX6_halve_13 : decode cX6_halve 13 = .ok (.istore 6, 2) := dg_X6_halve_0.2.2.2.2.2.2.2.2.1
theorem dX6_halve_15 : decode cX6_halve 15 = .ok (.aload_n 0, 1) := dg_X6_halve_0.2.2.2.2.2.2.2.2.2.1
theorem dX6_halve_16 : decode cX6_halve 16 = .ok (.getfield 24, 3) := dg_X6_halve_0.2.2.2.2.2.2.2.2.2.2.1
theorem dX6_halve_19 : decode cX6_halve 19 = .ok (.iload_n 1, 1) := dg_X6_halve_0.2.2.2.2.2.2.2.2.2.2.2.1
theorem dX6_halve_20 : decode cX6_halve 20 = .ok (.iaload, 1) := dg_X6_halve_0.2.2.2.2.2.2.2.2.2.2.2.2.1
theorem dX6_halve_21 : decode cX6_halve 21 = .ok (.iconst 1, 1) := dg_X6_halve_0.2.2.2.2.2.2.2.2.2.2.2.2.2.1
theorem dX6_halve_22 : decode cX6_halve 22 = .ok (.isub, 1) := dg_X6_halve_0.2.2.2.2.2.2.2.2.2.2.2.2.2.2.1
theorem dX6_halve_23 : decode cX6_halve 23 = .ok (.istore 7, 2) := dg_X6_halve_0.2.2.2.2.2.2.2.2.2.2.2.2.2.2.2
theorem dg_X6_halve_25 : (decode cX6_halve 25 = .ok (.iload 6, 2)) ∧ (decode cX6_halve 27 = .ok (.iload 7, 2)) ∧ (decode cX6_halve 29 = .ok (.if_icmp .gt 74, 3)) ∧ (decode cX6_halve 32 = .ok (.iload 6, 2)) ∧ (decode cX6_halve 34 = .ok (.iload 7, 2)) ∧ (decode cX6_halve 36 = .ok (.iadd, 1)) ∧ (decode cX6_halve 37 = .ok (.iconst 2, 1)) ∧ (decode cX6_halve 38 = .ok (.idiv, 1)) ∧ (decode cX6_halve 39 = .ok (.istore 8, 2)) ∧ (decode cX6_halve 41 = .ok (.aload_n 0, 1)) ∧ (decode cX6_halve 42 = .ok (.getfield 9, 3)) ∧ (decode cX6_halve 45 = .ok (.iload_n 1, 1)) ∧ (decode cX6_halve 46 = .ok (.iaload, 1)) ∧ (decode cX6_halve 47 = .ok (.aload_n 0, 1)) ∧ (decode cX6_halve 48 = .ok (.getfield 27, 3)) ∧ (decode cX6_halve 51 = .ok (.aload_n 0, 1)) := by decide +kernel
theorem dX6_halve_25 : decode cX6_halve 25 = .ok (.iload 6, 2) := dg_X6_halve_25.1
theorem dX6_halve_27 : decode cX6_halve 27 = .ok (.iload 7, 2) := dg_X6_halve_25.2.1
theorem dX6_halve_29 : decode cX6_halve 29 = .ok (.if_icmp .gt 74, 3) := dg_X6_halve_25.2.2.1
theorem dX6_halve_32 : decode cX6_halve 32 = .ok (.iload 6, 2) := dg_X6_halve_25.2.2.2.1
theorem dX6_halve_34 : decode cX6_halve 34 = .ok (.iload 7, 2) := dg_X6_halve_25.2.2.2.2.1
theorem dX6_halve_36 : decode cX6_halve 36 = .ok (.iadd, 1) := dg_X6_halve_25.2.2.2.2.2.1
theorem dX6_halve_37 : decode cX6_halve 37 = .ok (.iconst 2, 1) := dg_X6_halve_25.2.2.2.2.2.2.1
theorem dX6_halve_38 : decode cX6_halve 38 = .ok (.idiv, 1) := dg_X6_halve_25.2.2.2.2.2.2.2.1
theorem dX6_halve_39 : decode cX6_halve 39 = .ok (.istore 8, 2) := dg_X6_halve_25.2.2.2.2.2.2.2.2.1
theorem dX6_halve_41 : decode cX6_halve 41 = .ok (.aload_n 0, 1) := dg_X6_halve_25.2.2.2.2.2.2.2.2.2.1
theorem dX6_halve_42 : decode cX6_halve 42 = .ok (.getfield 9, 3) := dg_X6_halve_25.2.2.2.2.2.2.2.2.2.2.1
theorem dX6_halve_45 : decode cX6_halve 45 = .ok (.iload_n 1, 1) := dg_X6_halve_25.2.2.2.2.2.2.2.2.2.2.2.1
theorem dX6_halve_46 : decode cX6_halve 46 = .ok (.iaload, 1) := dg_X6_halve_25.2.2.2.2.2.2.2.2.2.2.2.2.1
theorem dX6_halve_47 : decode cX6_halve 47 = .ok (.aload_n 0, 1) := dg_X6_halve_25.2.2.2.2.2.2.2.2.2.2.2.2.2.1
theorem dX6_halve_48 : decode cX6_halve 48 = .ok (.getfield 27, 3) := dg_X6_halve_25.2.2.2.2.2.2.2.2.2.2.2.2.2.2.1
theorem dX6_halve_51 : decode cX6_halve 51 = .ok (.aload_n 0, 1) := dg_X6_halve_25.2.2.2.2.2.2.2.2.2.2.2.2.2.2.2
theorem dg_X6_halve_52 : (decode cX6_halve 52 = .ok (.getfield 21, 3)) ∧ (decode cX6_halve 55 = .ok (.iload_n 1, 1)) ∧ (decode cX6_halve 56 = .ok (.iaload, 1)) ∧ (decode cX6_halve 57 = .ok (.iload 8, 2)) ∧ (decode cX6_halve 59 = .ok (.iadd, 1)) ∧ (decode cX6_halve 60 = .ok (.laload, 1)) ∧ (decode cX6_halve 61 = .ok (.invokestatic 75, 3)) ∧ (decode cX6_halve 64 = .ok (.lstore 9, 2)) ∧ (decode cX6_halve 66 = .ok (.lload 9, 2)) ∧ (decode cX6_halve 68 = .ok (.lload 4, 2)) ∧ (decode cX6_halve 70 = .ok (.lcmp, 1)) ∧ (decode cX6_halve 71 = .ok (.ifCond .ne 6, 3)) ∧ (decode cX6_halve 74 = .ok (.iload 8, 2)) ∧ (decode cX6_halve 76 = .ok (.ireturn, 1)) ∧ (decode cX6_halve 77 = .ok (.lload 9, 2)) ∧ (decode cX6_halve 79 = .ok (.lload 4, 2)) := by decide +kernel
theorem dX6_halve_52 : decode cX6_halve 52 = .ok (.getfield 21, 3) := dg_X6_halve_52.1
theorem dX6_halve_55 : decode cX6_halve 55 = .ok (.iload_n 1, 1) := dg_X6_halve_52.2.1
theorem dX6_halve_56 : decode cX6_halve 56 = .ok (.iaload, 1) := dg_X6_halve_52.2.2.1
theorem dX6_halve_57 : decode cX6_halve 57 = .ok (.iload 8, 2) := dg_X6_halve_52.2.2.2.1
theorem dX6_halve_59 : decode cX6_halve 59 = .ok (.iadd, 1) := dg_X6_halve_52.2.2.2.2.1
theorem dX6_halve_60 : decode cX6_halve 60 = .ok (.laload, 1) := dg_X6_halve_52.2.2.2.2.2.1
theorem dX6_halve_61 : decode cX6_halve 61 = .ok (.invokestatic 75, 3) := dg_X6_halve_52.2.2.2.2.2.2.1
theorem dX6_halve_64 : decode cX6_halve 64 = .ok (.lstore 9, 2) := dg_X6_halve_52.2.2.2.2.2.2.2.1
theorem dX6_halve_66 : decode cX6_halve 66 = .ok (.lload 9, 2) := dg_X6_halve_52.2.2.2.2.2.2.2.2.1
theorem dX6_halve_68 : decode cX6_halve 68 = .ok (.lload 4, 2) := dg_X6_halve_52.2.2.2.2.2.2.2.2.2.1
theorem dX6_halve_70 : decode cX6_halve 70 = .ok (.lcmp, 1) := dg_X6_halve_52.2.2.2.2.2.2.2.2.2.2.1
theorem dX6_halve_71 : decode cX6_halve 71 = .ok (.ifCond .ne 6, 3) := dg_X6_halve_52.2.2.2.2.2.2.2.2.2.2.2.1
theorem dX6_halve_74 : decode cX6_halve 74 = .ok (.iload 8, 2) := dg_X6_halve_52.2.2.2.2.2.2.2.2.2.2.2.2.1
theorem dX6_halve_76 : decode cX6_halve 76 = .ok (.ireturn, 1) := dg_X6_halve_52.2.2.2.2.2.2.2.2.2.2.2.2.2.1
theorem dX6_halve_77 : decode cX6_halve 77 = .ok (.lload 9, 2) := dg_X6_halve_52.2.2.2.2.2.2.2.2.2.2.2.2.2.2.1
theorem dX6_halve_79 : decode cX6_halve 79 = .ok (.lload 4, 2) := dg_X6_halve_52.2.2.2.2.2.2.2.2.2.2.2.2.2.2.2
theorem dg_X6_halve_81 : (decode cX6_halve 81 = .ok (.lcmp, 1)) ∧ (decode cX6_halve 82 = .ok (.ifCond .ge 12, 3)) ∧ (decode cX6_halve 85 = .ok (.iload 8, 2)) ∧ (decode cX6_halve 87 = .ok (.iconst 1, 1)) ∧ (decode cX6_halve 88 = .ok (.iadd, 1)) ∧ (decode cX6_halve 89 = .ok (.istore 6, 2)) ∧ (decode cX6_halve 91 = .ok (.goto 9, 3)) ∧ (decode cX6_halve 94 = .ok (.iload 8, 2)) ∧ (decode cX6_halve 96 = .ok (.iconst 1, 1)) ∧ (decode cX6_halve 97 = .ok (.isub, 1)) ∧ (decode cX6_halve 98 = .ok (.istore 7, 2)) ∧ (decode cX6_halve 100 = .ok (.goto (-75), 3)) ∧ (decode cX6_halve 103 = .ok (.bipush (-100), 2)) ∧ (decode cX6_halve 105 = .ok (.iload 6, 2)) ∧ (decode cX6_halve 107 = .ok (.isub, 1)) ∧ (decode cX6_halve 108 = .ok (.ireturn, 1)) := by decide +kernel
theorem dX6_halve_81 : decode cX6_halve 81 = .ok (.lcmp, 1) := dg_X6_halve_81.1
theorem dX6_halve_82 : decode cX6_halve 82 = .ok (.ifCond .ge 12, 3) := dg_X6_halve_81.2.1
theorem dX6_halve_85 : decode cX6_halve 85 = .ok (.iload 8, 2) := dg_X6_halve_81.2.2.1
theorem dX6_halve_87 : decode cX6_halve 87 = .ok (.iconst 1, 1) := dg_X6_halve_81.2.2.2.1
theorem dX6_halve_88 : decode cX6_halve 88 = .ok (.iadd, 1) := dg_X6_halve_81.2.2.2.2.1
theorem dX6_halve_89 : decode cX6_halve 89 = .ok (.istore 6, 2) := dg_X6_halve_81.2.2.2.2.2.1
theorem dX6_halve_91 : decode cX6_halve 91 = .ok (.goto 9, 3) := dg_X6_halve_81.2.2.2.2.2.2.1
theorem dX6_halve_94 : decode cX6_halve 94 = .ok (.iload 8, 2) := dg_X6_halve_81.2.2.2.2.2.2.2.1
theorem dX6_halve_96 : decode cX6_halve 96 = .ok (.iconst 1, 1) := dg_X6_halve_81.2.2.2.2.2.2.2.2.1
theorem dX6_halve_97 : decode cX6_halve 97 = .ok (.isub, 1) := dg_X6_halve_81.2.2.2.2.2.2.2.2.2.1
theorem dX6_halve_98 : decode cX6_halve 98 = .ok (.istore 7, 2) := dg_X6_halve_81.2.2.2.2.2.2.2.2.2.2.1
theorem dX6_halve_100 : decode cX6_halve 100 = .ok (.goto (-75), 3) := dg_X6_halve_81.2.2.2.2.2.2.2.2.2.2.2.1
theorem dX6_halve_103 : decode cX6_halve 103 = .ok (.bipush (-100), 2) := dg_X6_halve_81.2.2.2.2.2.2.2.2.2.2.2.2.1
theorem dX6_halve_105 : decode cX6_halve 105 = .ok (.iload 6, 2) := dg_X6_halve_81.2.2.2.2.2.2.2.2.2.2.2.2.2.1
theorem dX6_halve_107 : decode cX6_halve 107 = .ok (.isub, 1) := dg_X6_halve_81.2.2.2.2.2.2.2.2.2.2.2.2.2.2.1
theorem dX6_halve_108 : decode cX6_halve 108 = .ok (.ireturn, 1) := dg_X6_halve_81.2.2.2.2.2.2.2.2.2.2.2.2.2.2.2
theorem zk_482 : Cond.methodLink RX6 75 yX1_rank ∈ zz_w := zz_in (List.mem_append_right _ (List.mem_append_right _ (List.mem_append_right _ (List.mem_append_left _ (List.mem_of_getElem? (i := 2) (by decide +kernel)))))) rfl
set_option maxRecDepth 20000 in
theorem zk_484 : Cond.code yX1_rank cX1_rank 3 (some .long) ∈ zz_w := zz_in (List.mem_append_right _ (List.mem_append_right _ (List.mem_append_right _ (List.mem_append_left _ (List.mem_of_getElem? (i := 4) (rfl)))))) rfl
theorem zk_483 : Cond.static yX1_rank ∈ zz_w := zz_in (List.mem_append_right _ (List.mem_append_right _ (List.mem_append_right _ (List.mem_append_left _ (List.mem_of_getElem? (i := 3) (by decide +kernel)))))) rfl
theorem zc_X6_75 : zz_cS RX6 75 yX1_rank cX1_rank 3 (some .long) 2 := ⟨⟨zk_482, zk_484, zk_8, by decide, by decide, by decide +kernel⟩, zk_483⟩
abbrev rm_co_halve : Room := { frames := 1, cells := 0, slots := 0, locals := 22 }
abbrev po_co_halve (g : zz_G) (st : Nat) (kd : Nat) (dp : Nat) (cl : Nat) (sa : Nat) (ln : Nat) (bt : Nat) (pn : Nat) (bf : Nat) (na : Nat) (nu : Nat) (kdf : Nat → Int32) (saf : Nat → Int32) (lnf : Nat → Int32) (btf : Nat → Int64) (a : Nat) (sz : Nat) (lz : Nat) (x : Int64) (h_60 : a < 60) (e_s : saf a = nI sz) (e_l : lnf a = nI lz) (h_b : sz + lz ≤ 4000 ∧ lz ≤ 200) : Int32 → va_W → Prop := fun (r : Int32) (u : va_W) => u = [cw_k5 st (nI na) (nI nu) kd dp cl sa ln bt pn bf, cw_i g kd 60 kdf, cw_i g sa 60 saf, cw_i g ln 60 lnf, cw_l g bt 4000 btf]
set_option maxHeartbeats 4000000 in
set_option maxRecDepth 100000 in
theorem co_halve (g : zz_G) (st : Nat) (kd : Nat) (dp : Nat) (cl : Nat) (sa : Nat) (ln : Nat) (bt : Nat) (pn : Nat) (bf : Nat) (na : Nat) (nu : Nat) (kdf : Nat → Int32) (saf : Nat → Int32) (lnf : Nat → Int32) (btf : Nat → Int64) (a : Nat) (sz : Nat) (lz : Nat) (x : Int64) (h_60 : a < 60) (e_s : saf a = nI sz) (e_l : lnf a = nI lz) (h_b : sz + lz ≤ 4000 ∧ lz ≤ 200) : zz_I g yX6_halve (.code yX6_halve cX6_halve 11 (some .int)) rm_co_halve [.ref st, .int (nI a), .long x] [cw_k5 st (nI na) (nI nu) kd dp cl sa ln bt pn bf, cw_i g kd 60 kdf, cw_i g sa 60 saf, cw_i g ln 60 lnf, cw_l g bt 4000 btf] (po_co_halve g st kd dp cl sa ln bt pn bf na nu kdf saf lnf btf a sz lz x h_60 e_s e_l h_b) := by
  refine zz_I.intro (own := RX6) (cc := cX6_halve) (nL := 11) (by decide) rfl (Nat.le_of_ble_eq_true rfl) ?_
  intro p l e s m args below meth c A H locs ls hC hnm hs hZ hl
  obtain ⟨hx, hb, hml, hown, hts, hr, hlocks, hK⟩ := id hC
  have hl : lv_has ls 11 [(0, .ref st), (1, .int (nI a)), (2, .long x)] := hl
  have hZ : zz_Z g A s.heap [cw_k5 st (nI na) (nI nu) kd dp cl sa ln bt pn bf, cw_i g kd 60 kdf, cw_i g sa 60 saf, cw_i g ln 60 lnf, cw_l g bt 4000 btf] H locs := hZ
  refine lv_aload_n hx hb dX6_halve_0 rfl (lv_at hl 0 rfl) ?_
  refine zz_get hC hZ 0 rfl zf_X6_9 rfl dX6_halve_1 ?_
  refine lv_iload_n hx hb dX6_halve_4 rfl (lv_at hl 1 rfl) ?_
  refine zz_iald hC hZ 1 rfl (vp_in_nI (by omega) (by decide)) dX6_halve_5 ?_
  rw [nI_clamp (n := a) (by omega)]
  refine lv_lload_n hx hb dX6_halve_6 rfl (lv_at hl 2 rfl) ?_
  refine zz_lS (As := [.int (kdf a), .long x]) (wc := []) (wr := [cw_k5 st (nI na) (nI nu) kd dp cl sa ln bt pn bf, cw_i g kd 60 kdf, cw_i g sa 60 saf, cw_i g ln 60 lnf, cw_l g bt 4000 btf]) (rest := []) hC hZ hs hl zc_X6_75 (co_rank g (kdf a) x) [] [0, 1, 2, 3, 4] rfl rfl (by decide +kernel) rfl rfl (Nat.le_of_ble_eq_true rfl) ⟨⟨Nat.le_of_ble_eq_true rfl, Nat.le_of_ble_eq_true rfl⟩, Nat.le_of_ble_eq_true rfl, Nat.le_of_ble_eq_true rfl⟩ dX6_halve_7 (fun r1 u2 H locs hp hZ => ?_)
  obtain ⟨rfl, rfl⟩ := hp
  have hZ : zz_Z g A s.heap [cw_k5 st (nI na) (nI nu) kd dp cl sa ln bt pn bf, cw_i g kd 60 kdf, cw_i g sa 60 saf, cw_i g ln 60 lnf, cw_l g bt 4000 btf] H locs := hZ
  refine lv_lstore (lv' := [(4, .long (fn_co_rank (kdf a) x)), (0, .ref st), (1, .int (nI a)), (2, .long x)]) hx hb dX6_halve_10 hl (by decide) rfl (fun ls hl => ?_)
  refine lv_iconst (v := 0) hx hb dX6_halve_12 (by decide) ?_
  refine lv_istore (lv' := [(6, .int 0), (4, .long (fn_co_rank (kdf a) x)), (0, .ref st), (1, .int (nI a)), (2, .long x)]) hx hb dX6_halve_13 hl (by decide) rfl (fun ls hl => ?_)
  refine lv_aload_n hx hb dX6_halve_15 rfl (lv_at hl 2 rfl) ?_
  refine zz_get hC hZ 0 rfl zf_X6_24 rfl dX6_halve_16 ?_
  refine lv_iload_n hx hb dX6_halve_19 rfl (lv_at hl 3 rfl) ?_
  refine zz_iald hC hZ 3 rfl (vp_in_nI (by omega) (by decide)) dX6_halve_20 ?_
  rw [nI_clamp (n := a) (by omega)]
  refine zz_topi (v := nI lz) (e_l) ?_
  refine lv_iconst (v := 1) hx hb dX6_halve_21 (by decide) ?_
  refine lv_isub hx hb dX6_halve_22 ?_
  refine lv_istore (lv' := [(7, .int ((nI lz) - 1)), (6, .int 0), (4, .long (fn_co_rank (kdf a) x)), (0, .ref st), (1, .int (nI a)), (2, .long x)]) hx hb dX6_halve_23 hl (by decide) rfl (fun ls hl => ?_)
  have LP3 : ∀ (N : Nat) (lo : Nat) (hh : Nat) (hv : Int32) (H : Heap) (locs : List Loc) (ls : Array Slot), (hv = nI hh + (-1)) → (lo ≤ hh) → (hh ≤ lz) → (hh - lo) < N → zz_Z g A s.heap [cw_k5 st (nI na) (nI nu) kd dp cl sa ln bt pn bf, cw_i g kd 60 kdf, cw_i g sa 60 saf, cw_i g ln 60 lnf, cw_l g bt 4000 btf] H locs → lv_has ls 11 [(7, .int hv), (6, .int (nI lo)), (4, .long (fn_co_rank (kdf a) x)), (0, .ref st), (1, .int (nI a)), (2, .long x)] → W p l e rm_co_halve s m args below meth c H locs 0 0 (zz_QI below g args s A rm_co_halve.cells rm_co_halve.slots (po_co_halve g st kd dp cl sa ln bt pn bf na nu kdf saf lnf btf a sz lz x h_60 e_s e_l h_b)) (F0 m 25 ls []) := by
    intro N
    induction N with
    | zero =>
      intro lo hh hv H locs ls ehv hlo hhl hN
      exact absurd hN (Nat.not_lt_zero _)
    | succ N ih =>
      intro lo hh hv H locs ls ehv hlo hhl hN hZ hl
      refine lv_iload hx hb dX6_halve_25 (lv_at hl 1 rfl) ?_
      refine lv_iload hx hb dX6_halve_27 (lv_at hl 0 rfl) ?_
      refine lv_icmp_gt (tgt := 103) hx hb dX6_halve_29 (by decide) (fun c4 => ?_) (fun c4 => ?_)
      · refine lv_bipush (v := -100) hx hb dX6_halve_103 (by decide) ?_
        refine lv_iload hx hb dX6_halve_105 (lv_at hl 1 rfl) ?_
        refine lv_isub hx hb dX6_halve_107 ?_
        exact zz_iret hC hZ (rfl) (Nat.le_of_ble_eq_true rfl) (Nat.le_of_ble_eq_true rfl) dX6_halve_108
      · obtain ⟨K, rfl, hK1⟩ := zl_hv ehv (by omega) (by omega) c4
        have hl : lv_has ls 11 [(7, .int (nI K)), (6, .int (nI lo)), (4, .long (fn_co_rank (kdf a) x)), (0, .ref st), (1, .int (nI a)), (2, .long x)] := by rw [← (ehv.trans (pk_m1 K))]; exact hl
        refine lv_iload hx hb dX6_halve_32 (lv_at hl 1 rfl) ?_
        refine lv_iload hx hb dX6_halve_34 (lv_at hl 0 rfl) ?_
        refine lv_iadd hx hb dX6_halve_36 ?_
        refine zz_topi (v := nI (lo + K)) (nI_add _ _) ?_
        refine lv_iconst (v := 2) hx hb dX6_halve_37 (by decide) ?_
        refine lv_idiv hx hb dX6_halve_38 (by decide) ?_
        refine zz_topi (v := nI ((lo + K) / 2)) (zl_div2 (by omega)) ?_
        refine lv_istore (lv' := [(8, .int (nI ((lo + K) / 2))), (7, .int (nI K)), (6, .int (nI lo)), (4, .long (fn_co_rank (kdf a) x)), (0, .ref st), (1, .int (nI a)), (2, .long x)]) hx hb dX6_halve_39 hl (by decide) rfl (fun ls hl => ?_)
        refine lv_aload_n hx hb dX6_halve_41 rfl (lv_at hl 4 rfl) ?_
        refine zz_get hC hZ 0 rfl zf_X6_9 rfl dX6_halve_42 ?_
        refine lv_iload_n hx hb dX6_halve_45 rfl (lv_at hl 5 rfl) ?_
        refine zz_iald hC hZ 1 rfl (vp_in_nI (by omega) (by decide)) dX6_halve_46 ?_
        rw [nI_clamp (n := a) (by omega)]
        refine lv_aload_n hx hb dX6_halve_47 rfl (lv_at hl 4 rfl) ?_
        refine zz_get hC hZ 0 rfl zf_X6_27 rfl dX6_halve_48 ?_
        refine lv_aload_n hx hb dX6_halve_51 rfl (lv_at hl 4 rfl) ?_
        refine zz_get hC hZ 0 rfl zf_X6_21 rfl dX6_halve_52 ?_
        refine lv_iload_n hx hb dX6_halve_55 rfl (lv_at hl 5 rfl) ?_
        refine zz_iald hC hZ 2 rfl (vp_in_nI (by omega) (by decide)) dX6_halve_56 ?_
        rw [nI_clamp (n := a) (by omega)]
        refine zz_topi (v := nI sz) (e_s) ?_
        refine lv_iload hx hb dX6_halve_57 (lv_at hl 0 rfl) ?_
        refine lv_iadd hx hb dX6_halve_59 ?_
        refine zz_topi (v := nI (sz + ((lo + K) / 2))) (nI_add _ _) ?_
        refine zz_lald hC hZ 4 rfl (vp_in_nI (by omega) (by decide)) dX6_halve_60 ?_
        rw [nI_clamp (n := (sz + ((lo + K) / 2))) (by omega)]
        refine zz_lS (As := [.int (kdf a), .long (btf (sz + ((lo + K) / 2)))]) (wc := []) (wr := [cw_k5 st (nI na) (nI nu) kd dp cl sa ln bt pn bf, cw_i g kd 60 kdf, cw_i g sa 60 saf, cw_i g ln 60 lnf, cw_l g bt 4000 btf]) (rest := []) hC hZ hs hl zc_X6_75 (co_rank g (kdf a) (btf (sz + ((lo + K) / 2)))) [] [0, 1, 2, 3, 4] rfl rfl (by decide +kernel) rfl rfl (Nat.le_of_ble_eq_true rfl) ⟨⟨Nat.le_of_ble_eq_true rfl, Nat.le_of_ble_eq_true rfl⟩, Nat.le_of_ble_eq_true rfl, Nat.le_of_ble_eq_true rfl⟩ dX6_halve_61 (fun r5 u6 H locs hp hZ => ?_)
        obtain ⟨rfl, rfl⟩ := hp
        have hZ : zz_Z g A s.heap [cw_k5 st (nI na) (nI nu) kd dp cl sa ln bt pn bf, cw_i g kd 60 kdf, cw_i g sa 60 saf, cw_i g ln 60 lnf, cw_l g bt 4000 btf] H locs := hZ
        refine lv_lstore (lv' := [(9, .long (fn_co_rank (kdf a) (btf (sz + ((lo + K) / 2))))), (8, .int (nI ((lo + K) / 2))), (7, .int (nI K)), (6, .int (nI lo)), (4, .long (fn_co_rank (kdf a) x)), (0, .ref st), (1, .int (nI a)), (2, .long x)]) hx hb dX6_halve_64 hl (by decide) rfl (fun ls hl => ?_)
        refine lv_lload hx hb dX6_halve_66 (lv_at hl 0 rfl) ?_
        refine lv_lload hx hb dX6_halve_68 (lv_at hl 4 rfl) ?_
        refine zz_lcmp_ne (tgt := 77) hC dX6_halve_70 dX6_halve_71 (by decide) (fun c7 => ?_) (fun c7 => ?_)
        · refine lv_lload hx hb dX6_halve_77 (lv_at hl 0 rfl) ?_
          refine lv_lload hx hb dX6_halve_79 (lv_at hl 4 rfl) ?_
          refine zz_lcmp_ge (tgt := 94) hC dX6_halve_81 dX6_halve_82 (by decide) (fun c8 => ?_) (fun c8 => ?_)
          · refine lv_iload hx hb dX6_halve_94 (lv_at hl 1 rfl) ?_
            refine lv_iconst (v := 1) hx hb dX6_halve_96 (by decide) ?_
            refine lv_isub hx hb dX6_halve_97 ?_
            refine lv_istore (lv' := [(7, .int ((nI ((lo + K) / 2)) - 1)), (9, .long (fn_co_rank (kdf a) (btf (sz + ((lo + K) / 2))))), (8, .int (nI ((lo + K) / 2))), (6, .int (nI lo)), (4, .long (fn_co_rank (kdf a) x)), (0, .ref st), (1, .int (nI a)), (2, .long x)]) hx hb dX6_halve_98 hl (by decide) rfl (fun ls hl => ?_)
            refine lv_goto (tgt := 25) hx hb dX6_halve_100 (by decide) ?_
            exact ih lo ((lo + K) / 2) ((nI ((lo + K) / 2)) - 1) H locs ls (zl_sub1 _) (by omega) (by omega) (by omega) hZ (lv_sub hl [0, 3, 4, 5, 6, 7] rfl)
          · refine lv_iload hx hb dX6_halve_85 (lv_at hl 1 rfl) ?_
            refine lv_iconst (v := 1) hx hb dX6_halve_87 (by decide) ?_
            refine lv_iadd hx hb dX6_halve_88 ?_
            refine zz_topi (v := nI (((lo + K) / 2) + 1)) (nI_1 _) ?_
            refine lv_istore (lv' := [(6, .int (nI (((lo + K) / 2) + 1))), (9, .long (fn_co_rank (kdf a) (btf (sz + ((lo + K) / 2))))), (8, .int (nI ((lo + K) / 2))), (7, .int (nI K)), (4, .long (fn_co_rank (kdf a) x)), (0, .ref st), (1, .int (nI a)), (2, .long x)]) hx hb dX6_halve_89 hl (by decide) rfl (fun ls hl => ?_)
            refine lv_goto (tgt := 100) hx hb dX6_halve_91 (by decide) ?_
            refine lv_goto (tgt := 25) hx hb dX6_halve_100 (by decide) ?_
            exact ih (((lo + K) / 2) + 1) (K + 1) (nI K) H locs ls ((pk_m1 K).symm) (by omega) (by omega) (by omega) hZ (lv_sub hl [3, 0, 4, 5, 6, 7] rfl)
        · refine lv_iload hx hb dX6_halve_74 (lv_at hl 1 rfl) ?_
          exact zz_iret hC hZ (rfl) (Nat.le_of_ble_eq_true rfl) (Nat.le_of_ble_eq_true rfl) dX6_halve_76
  exact LP3 _ 0 lz ((nI lz) - 1) H locs ls (zl_sub1 _) (by omega) (by omega) (Nat.lt_succ_self _) hZ (lv_sub hl [0, 1, 2, 3, 4, 5] rfl)
