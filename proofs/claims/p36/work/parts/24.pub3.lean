theorem zl_CIadd {na nd b q sz lz : Nat} {saf lnf plf slf cof : Nat → Int32} (h : zz_CI na nd saf lnf plf slf cof) (h1 : nd < 24) (h2 : b < na) (h3 : b < 60) (es : saf b = nI sz) (el : lnf b = nI lz) (h4 : sz + lz ≤ 4000) (h5 : lz ≤ 200) (h6 : q < lz) : zz_CI na (nd + 1) saf lnf (upd plf nd (nI (1000 * b + q))) (upd slf nd (nI (sz + q))) (upd cof nd 0) := by
  refine ⟨by omega, fun d hd => ?_⟩
  by_cases e : d = nd
  · subst e; exact ⟨b, q, sz, lz, 0, pk_us, h2, h3, es, el, h4, h5, h6, pk_us, pk_us, by omega⟩
  · obtain ⟨b', q', sz', lz', n', g1, g2, g3, g4, g5, g6, g7, g8, g9, g10, g11⟩ := h.2 d (by omega)
    exact ⟨b', q', sz', lz', n', (pk_un e).trans g1, g2, g3, g4, g5, g6, g7, g8, (pk_un e).trans g9, (pk_un e).trans g10, g11⟩
theorem zl_CIs {na nd d n2 : Nat} {saf lnf plf slf cof co2 : Nat → Int32} (h : zz_CI na nd saf lnf plf slf cof) (e : co2 d = nI n2) (h1 : n2 ≤ 16) (h2 : ∀ j, j ≠ d → co2 j = cof j) : zz_CI na nd saf lnf plf slf co2 := by
  refine ⟨h.1, fun k hk => ?_⟩
  obtain ⟨b', q', sz', lz', n', g1, g2, g3, g4, g5, g6, g7, g8, g9, g10, g11⟩ := h.2 k hk
  by_cases e0 : k = d
  · subst e0; exact ⟨b', q', sz', lz', n2, g1, g2, g3, g4, g5, g6, g7, g8, g9, e, h1⟩
  · exact ⟨b', q', sz', lz', n', g1, g2, g3, g4, g5, g6, g7, g8, g9, (h2 k e0).trans g10, g11⟩
theorem zl_rlt {x y : Int32} (h : x < y) : ¬ y ≤ x := by
  rw [Int32.lt_iff_toInt_lt] at h; rw [Int32.le_iff_toInt_le]; omega
theorem zl_RIadd {na nr a sz lz : Nat} {juf saf lnf : Nat → Int32} (h : zz_RI na nr juf saf lnf) (h1 : nr < 12) (h2 : a < na) (h3 : a < 60) (es : saf a = nI sz) (el : lnf a = nI lz) (h4 : sz + lz ≤ 4000) (h5 : lz ≤ 200) : zz_RI na (nr + 1) (upd juf nr (nI a)) saf lnf := by
  refine ⟨by omega, fun r hr => ?_⟩
  by_cases e : r = nr
  · subst e; exact ⟨a, sz, lz, pk_us, h2, h3, es, el, h4, h5⟩
  · obtain ⟨a', sz', lz', g1, g⟩ := h.2 r (by omega)
    exact ⟨a', sz', lz', (pk_un e).trans g1, g⟩
theorem dg_X7_decide_0 : (decode cX7_decide 0 = .ok (.aload_n 0, 1)) ∧ (decode cX7_decide 1 = .ok (.getfield 10, 3)) ∧ (decode cX7_decide 4 = .ok (.iload_n 1, 1)) ∧ (decode cX7_decide 5 = .ok (.invokevirtual 73, 3)) ∧ (decode cX7_decide 8 = .ok (.ifCond .ne 9, 3)) ∧ (decode cX7_decide 11 = .ok (.aload_n 0, 1)) ∧ (decode cX7_decide 12 = .ok (.iconst 5, 1)) ∧ (decode cX7_decide 13 = .ok (.invokevirtual 65, 3)) ∧ (decode cX7_decide 16 = .ok (.ireturn, 1)) ∧ (decode cX7_decide 17 = .ok (.aload_n 0, 1)) ∧ (decode cX7_decide 18 = .ok (.getfield 10, 3)) ∧ (decode cX7_decide 21 = .ok (.iload_n 1, 1)) ∧ (decode cX7_decide 22 = .ok (.iload_n 2, 1)) ∧ (decode cX7_decide 23 = .ok (.iload_n 3, 1)) ∧ (decode cX7_decide 24 = .ok (.iload 4, 2)) ∧ (decode cX7_decide 26 = .ok (.iload 5, 2)) := by decide +kernel
theorem dX7_decide_0 : decode cX7_decide 0 = .ok (.aload_n 0, 1) := dg_X7_decide_0.1
theorem dX7_decide_1 : decode cX7_decide 1 = .ok (.getfield 10, 3) := dg_X7_decide_0.2.1
theorem dX7_decide_4 : decode cX7_decide 4 = .ok (.iload_n 1, 1) := dg_X7_decide_0.2.2.1
theorem dX7_decide_5 : decode cX7_decide 5 = .ok (.invokevirtual 73, 3) := dg_X7_decide_0.2.2.2.1
theorem dX7_decide_8 : decode cX7_decide 8 = .ok (.ifCond .ne 9, 3) := dg_X7_decide_0.2.2.2.2.1
theorem dX7_decide_11 : decode cX7_decide 11 = .ok (.aload_n 0, 1) := dg_X7_decide_0.2.2.2.2.2.1
theorem dX7_decide_12 : decode cX7_decide 12 = .ok (.iconst 5, 1) := dg_X7_decide_0.2.2.2.2.2.2.1
theorem dX7_decide_13 : decode cX7_decide 13 = .ok (.invokevirtual 65, 3) := dg_X7_decide_0.2.2.2.2.2.2.2.1
theorem dX7_decide_16 : decode cX7_decide 16 = .ok (.ireturn, 1) := dg_X7_decide_0.2.2.2.2.2.2.2.2.1
theorem dX7_decide_17 : decode cX7_decide 17 = .ok (.aload_n 0, 1) := dg_X7_decide_0.2.2.2.2.2.2.2.2.2.1
theorem dX7_decide_18 : decode cX7_decide 18 = .ok (.getfield 10, 3) := dg_X7_decide_0.2.2.2.2.2.2.2.2.2.2.1
theorem dX7_decide_21 : decode cX7_decide 21 = .ok (.iload_n 1, 1) := dg_X7_decide_0.2.2.2.2.2.2.2.2.2.2.2.1
theorem dX7_decide_22 : decode cX7_decide 22 = .ok (.iload_n 2, 1) := dg_X7_decide_0.2.2.2.2.2.2.2.2.2.2.2.2.1
theorem dX7_decide_23 : decode cX7_decide 23 = .ok (.iload_n 3, 1) := dg_X7_decide_0.2.2.2.2.2.2.2.2.2.2.2.2.2.1
theorem dX7_decide_24 : decode cX7_decide 24 = .ok (.iload 4, 2) := dg_X7_decide_0.2.2.2.2.2.2.2.2.2.2.2.2.2.2.1
theorem dX7_decide_26 : decode cX7_decide 26 = .ok (.iload 5, 2) := dg_X7_decide_0.2.2.2.2.2.2.2.2.2.2.2.2.2.2.2
theorem dg_X7_decide_28 : (decode cX7_decide 28 = .ok (.invokevirtual 134, 3)) ∧ (decode cX7_decide 31 = .ok (.istore 6, 2)) ∧ (decode cX7_decide 33 = .ok (.iload 6, 2)) ∧ (decode cX7_decide 35 = .ok (.ifCond .ge 11, 3)) ∧ (decode cX7_decide 38 = .ok (.aload_n 0, 1)) ∧ (decode cX7_decide 39 = .ok (.iload 6, 2)) ∧ (decode cX7_decide 41 = .ok (.ineg, 1)) ∧ (decode cX7_decide 42 = .ok (.invokevirtual 65, 3)) ∧ (decode cX7_decide 45 = .ok (.ireturn, 1)) ∧ (decode cX7_decide 46 = .ok (.aload_n 0, 1)) ∧ (decode cX7_decide 47 = .ok (.getfield 35, 3)) ∧ (decode cX7_decide 50 = .ok (.iload 6, 2)) ∧ (decode cX7_decide 52 = .ok (.invokevirtual 209, 3)) ∧ (decode cX7_decide 55 = .ok (.istore 7, 2)) ∧ (decode cX7_decide 57 = .ok (.iload 7, 2)) ∧ (decode cX7_decide 59 = .ok (.ifCond .lt 10, 3)) := by decide +kernel
theorem dX7_decide_28 : decode cX7_decide 28 = .ok (.invokevirtual 134, 3) := dg_X7_decide_28.1
theorem dX7_decide_31 : decode cX7_decide 31 = .ok (.istore 6, 2) := dg_X7_decide_28.2.1
theorem dX7_decide_33 : decode cX7_decide 33 = .ok (.iload 6, 2) := dg_X7_decide_28.2.2.1
theorem dX7_decide_35 : decode cX7_decide 35 = .ok (.ifCond .ge 11, 3) := dg_X7_decide_28.2.2.2.1
theorem dX7_decide_38 : decode cX7_decide 38 = .ok (.aload_n 0, 1) := dg_X7_decide_28.2.2.2.2.1
theorem dX7_decide_39 : decode cX7_decide 39 = .ok (.iload 6, 2) := dg_X7_decide_28.2.2.2.2.2.1
theorem dX7_decide_41 : decode cX7_decide 41 = .ok (.ineg, 1) := dg_X7_decide_28.2.2.2.2.2.2.1
theorem dX7_decide_42 : decode cX7_decide 42 = .ok (.invokevirtual 65, 3) := dg_X7_decide_28.2.2.2.2.2.2.2.1
theorem dX7_decide_45 : decode cX7_decide 45 = .ok (.ireturn, 1) := dg_X7_decide_28.2.2.2.2.2.2.2.2.1
theorem dX7_decide_46 : decode cX7_decide 46 = .ok (.aload_n 0, 1) := dg_X7_decide_28.2.2.2.2.2.2.2.2.2.1
theorem dX7_decide_47 : decode cX7_decide 47 = .ok (.getfield 35, 3) := dg_X7_decide_28.2.2.2.2.2.2.2.2.2.2.1
theorem dX7_decide_50 : decode cX7_decide 50 = .ok (.iload 6, 2) := dg_X7_decide_28.2.2.2.2.2.2.2.2.2.2.2.1
theorem dX7_decide_52 : decode cX7_decide 52 = .ok (.invokevirtual 209, 3) := dg_X7_decide_28.2.2.2.2.2.2.2.2.2.2.2.2.1
theorem dX7_decide_55 : decode cX7_decide 55 = .ok (.istore 7, 2) := dg_X7_decide_28.2.2.2.2.2.2.2.2.2.2.2.2.2.1
theorem dX7_decide_57 : decode cX7_decide 57 = .ok (.iload 7, 2) := dg_X7_decide_28.2.2.2.2.2.2.2.2.2.2.2.2.2.2.1
theorem dX7_decide_59 : decode cX7_decide 59 = .ok (.ifCond .lt 10, 3) := dg_X7_decide_28.2.2.2.2.2.2.2.2.2.2.2.2.2.2.2
theorem dg_X7_decide_62 : (decode cX7_decide 62 = .ok (.aload_n 0, 1)) ∧ (decode cX7_decide 63 = .ok (.iload 7, 2)) ∧ (decode cX7_decide 65 = .ok (.invokevirtual 100, 3)) ∧ (decode cX7_decide 68 = .ok (.ireturn, 1)) ∧ (decode cX7_decide 69 = .ok (.aload_n 0, 1)) ∧ (decode cX7_decide 70 = .ok (.getfield 35, 3)) ∧ (decode cX7_decide 73 = .ok (.getfield 212, 3)) ∧ (decode cX7_decide 76 = .ok (.bipush 24, 2)) ∧ (decode cX7_decide 78 = .ok (.if_icmp .lt 10, 3)) ∧ (decode cX7_decide 81 = .ok (.aload_n 0, 1)) ∧ (decode cX7_decide 82 = .ok (.bipush 8, 2)) ∧ (decode cX7_decide 84 = .ok (.invokevirtual 65, 3)) ∧ (decode cX7_decide 87 = .ok (.ireturn, 1)) ∧ (decode cX7_decide 88 = .ok (.aload_n 0, 1)) ∧ (decode cX7_decide 89 = .ok (.aload_n 0, 1)) ∧ (decode cX7_decide 90 = .ok (.getfield 35, 3)) := by decide +kernel
theorem dX7_decide_62 : decode cX7_decide 62 = .ok (.aload_n 0, 1) := dg_X7_decide_62.1
theorem dX7_decide_63 : decode cX7_decide 63 = .ok (.iload 7, 2) := dg_X7_decide_62.2.1
theorem dX7_decide_65 : decode cX7_decide 65 = .ok (.invokevirtual 100, 3) := dg_X7_decide_62.2.2.1
theorem dX7_decide_68 : decode cX7_decide 68 = .ok (.ireturn, 1) := dg_X7_decide_62.2.2.2.1
theorem dX7_decide_69 : decode cX7_decide 69 = .ok (.aload_n 0, 1) := dg_X7_decide_62.2.2.2.2.1
theorem dX7_decide_70 : decode cX7_decide 70 = .ok (.getfield 35, 3) := dg_X7_decide_62.2.2.2.2.2.1
theorem dX7_decide_73 : decode cX7_decide 73 = .ok (.getfield 212, 3) := dg_X7_decide_62.2.2.2.2.2.2.1
theorem dX7_decide_76 : decode cX7_decide 76 = .ok (.bipush 24, 2) := dg_X7_decide_62.2.2.2.2.2.2.2.1
theorem dX7_decide_78 : decode cX7_decide 78 = .ok (.if_icmp .lt 10, 3) := dg_X7_decide_62.2.2.2.2.2.2.2.2.1
theorem dX7_decide_81 : decode cX7_decide 81 = .ok (.aload_n 0, 1) := dg_X7_decide_62.2.2.2.2.2.2.2.2.2.1
theorem dX7_decide_82 : decode cX7_decide 82 = .ok (.bipush 8, 2) := dg_X7_decide_62.2.2.2.2.2.2.2.2.2.2.1
theorem dX7_decide_84 : decode cX7_decide 84 = .ok (.invokevirtual 65, 3) := dg_X7_decide_62.2.2.2.2.2.2.2.2.2.2.2.1
theorem dX7_decide_87 : decode cX7_decide 87 = .ok (.ireturn, 1) := dg_X7_decide_62.2.2.2.2.2.2.2.2.2.2.2.2.1
theorem dX7_decide_88 : decode cX7_decide 88 = .ok (.aload_n 0, 1) := dg_X7_decide_62.2.2.2.2.2.2.2.2.2.2.2.2.2.1
theorem dX7_decide_89 : decode cX7_decide 89 = .ok (.aload_n 0, 1) := dg_X7_decide_62.2.2.2.2.2.2.2.2.2.2.2.2.2.2.1
theorem dX7_decide_90 : decode cX7_decide 90 = .ok (.getfield 35, 3) := dg_X7_decide_62.2.2.2.2.2.2.2.2.2.2.2.2.2.2.2
theorem dg_X7_decide_93 : (decode cX7_decide 93 = .ok (.iload 6, 2)) ∧ (decode cX7_decide 95 = .ok (.invokevirtual 215, 3)) ∧ (decode cX7_decide 98 = .ok (.invokevirtual 100, 3)) ∧ (decode cX7_decide 101 = .ok (.ireturn, 1)) := by decide +kernel
theorem dX7_decide_93 : decode cX7_decide 93 = .ok (.iload 6, 2) := dg_X7_decide_93.1
theorem dX7_decide_95 : decode cX7_decide 95 = .ok (.invokevirtual 215, 3) := dg_X7_decide_93.2.1
theorem dX7_decide_98 : decode cX7_decide 98 = .ok (.invokevirtual 100, 3) := dg_X7_decide_93.2.2.1
theorem dX7_decide_101 : decode cX7_decide 101 = .ok (.ireturn, 1) := dg_X7_decide_93.2.2.2
theorem zf_X7_35 : zz_f RX7 35 6 3 := ⟨RX7, TX7, 8, rfl, zi_X7, by decide, zk_203⟩
theorem zk_533 : Cond.methodLink RX7 209 yX0_at ∈ zz_w := zz_in (List.mem_append_right _ (List.mem_append_right _ (List.mem_append_right _ (List.mem_append_left _ (List.mem_of_getElem? (i := 53) (by decide +kernel)))))) rfl
set_option maxRecDepth 20000 in
theorem zk_536 : Cond.code yX0_at cX0_at 3 (some .int) ∈ zz_w := zz_in (List.mem_append_right _ (List.mem_append_right _ (List.mem_append_right _ (List.mem_append_left _ (List.mem_of_getElem? (i := 56) (rfl)))))) rfl
theorem zk_534 : Cond.instanceMethod yX0_at ∈ zz_w := zz_in (List.mem_append_right _ (List.mem_append_right _ (List.mem_append_right _ (List.mem_append_left _ (List.mem_of_getElem? (i := 54) (by decide +kernel)))))) rfl
theorem zk_535 : Cond.selects RX0 yX0_at yX0_at ∈ zz_w := zz_in (List.mem_append_right _ (List.mem_append_right _ (List.mem_append_right _ (List.mem_append_left _ (List.mem_of_getElem? (i := 55) (by decide +kernel)))))) rfl
theorem zc_X7_209 : zz_cV RX7 209 yX0_at cX0_at 3 (some .int) 1 := ⟨⟨zk_533, zk_536, zk_5, by decide, by decide, by decide +kernel⟩, zk_534, zk_535⟩
theorem zk_139 : Cond.fieldLink RX7 212 RX0 "made" "I" ∈ zz_w := zz_in (List.mem_append_right _ (List.mem_append_left _ (List.mem_of_getElem? (i := 139) (by decide +kernel)))) rfl
theorem zf_X7_212 : zz_f RX7 212 0 1 := ⟨RX0, TX0, 7, rfl, zi_X0, by decide, zk_139⟩
theorem zk_537 : Cond.methodLink RX7 215 yX0_add ∈ zz_w := zz_in (List.mem_append_right _ (List.mem_append_right _ (List.mem_append_right _ (List.mem_append_left _ (List.mem_of_getElem? (i := 57) (by decide +kernel)))))) rfl
set_option maxRecDepth 20000 in
theorem zk_540 : Cond.code yX0_add cX0_add 2 (some .int) ∈ zz_w := zz_in (List.mem_append_right _ (List.mem_append_right _ (List.mem_append_right _ (List.mem_append_left _ (List.mem_of_getElem? (i := 60) (rfl)))))) rfl
theorem zk_538 : Cond.instanceMethod yX0_add ∈ zz_w := zz_in (List.mem_append_right _ (List.mem_append_right _ (List.mem_append_right _ (List.mem_append_left _ (List.mem_of_getElem? (i := 58) (by decide +kernel)))))) rfl
theorem zk_539 : Cond.selects RX0 yX0_add yX0_add ∈ zz_w := zz_in (List.mem_append_right _ (List.mem_append_right _ (List.mem_append_right _ (List.mem_append_left _ (List.mem_of_getElem? (i := 59) (by decide +kernel)))))) rfl
theorem zc_X7_215 : zz_cV RX7 215 yX0_add cX0_add 2 (some .int) 1 := ⟨⟨zk_537, zk_540, zk_5, by decide, by decide, by decide +kernel⟩, zk_538, zk_539⟩
def fo_cx_decide (na : Nat) (nu : Nat) (nd : Nat) (dpf : Nat → Int32) (saf : Nat → Int32) (lnf : Nat → Int32) (btf : Nat → Int64) (plf : Nat → Int32) (slf : Nat → Int32) (cof : Nat → Int32) (x1 : Int32) (x2 : Int32) (x3 : Int32) (x4 : Int32) (x5 : Int32) : (Int32) × (Nat) × (Nat → Int32) × (Nat → Int32) × (Nat → Int32) := (if (fn_co_has (nI na) x1) = 0 then (-5, nd, plf, slf, cof) else (if 0 ≤ (sp_walk na dpf saf lnf btf 4 x1.toNatClampNeg 0 (zz_pa x2 x3 x4 x5)) then (if (sp_at plf (nI (1000 * ((sp_walk na dpf saf lnf btf 4 x1.toNatClampNeg 0 (zz_pa x2 x3 x4 x5)).toNatClampNeg / 1000) + ((sp_walk na dpf saf lnf btf 4 x1.toNatClampNeg 0 (zz_pa x2 x3 x4 x5)).toNatClampNeg % 1000))) nd 0) < 0 then (if (nI nd) < 24 then ((nI nd), (nd + 1), (upd plf nd (nI (1000 * ((sp_walk na dpf saf lnf btf 4 x1.toNatClampNeg 0 (zz_pa x2 x3 x4 x5)).toNatClampNeg / 1000) + ((sp_walk na dpf saf lnf btf 4 x1.toNatClampNeg 0 (zz_pa x2 x3 x4 x5)).toNatClampNeg % 1000)))), (upd slf nd (nI (((saf ((sp_walk na dpf saf lnf btf 4 x1.toNatClampNeg 0 (zz_pa x2 x3 x4 x5)).toNatClampNeg / 1000)).toNatClampNeg) + ((sp_walk na dpf saf lnf btf 4 x1.toNatClampNeg 0 (zz_pa x2 x3 x4 x5)).toNatClampNeg % 1000)))), (upd cof nd 0)) else (-8, nd, plf, slf, cof)) else ((sp_at plf (nI (1000 * ((sp_walk na dpf saf lnf btf 4 x1.toNatClampNeg 0 (zz_pa x2 x3 x4 x5)).toNatClampNeg / 1000) + ((sp_walk na dpf saf lnf btf 4 x1.toNatClampNeg 0 (zz_pa x2 x3 x4 x5)).toNatClampNeg % 1000))) nd 0), nd, plf, slf, cof)) else ((-(-(sp_walk na dpf saf lnf btf 4 x1.toNatClampNeg 0 (zz_pa x2 x3 x4 x5)))), nd, plf, slf, cof)))
abbrev rm_cx_decide : Room := { frames := 2, cells := 0, slots := 0, locals := 51 }
abbrev po_cx_decide (g : zz_G) (h0 : Nat) (st : Nat) (mk : Nat) (lk : Nat) (ch : Nat) (ru : Nat) (mr : Nat) (kd : Nat) (dp : Nat) (cl : Nat) (sa : Nat) (ln : Nat) (bt : Nat) (pn : Nat) (bf : Nat) (c_pl : Nat) (c_sl : Nat) (c_co : Nat) (c_ca : Nat) (c_tu : Nat) (md : Int32) (la : Int32) (na : Nat) (nu : Nat) (nd : Nat) (dpf : Nat → Int32) (saf : Nat → Int32) (lnf : Nat → Int32) (btf : Nat → Int64) (plf : Nat → Int32) (slf : Nat → Int32) (cof : Nat → Int32) (x1 : Int32) (x2 : Int32) (x3 : Int32) (x4 : Int32) (x5 : Int32) (h_S : zz_SI na nu dpf saf lnf) (h_C : zz_CI na nd saf lnf plf slf cof) : Int32 → va_W → Prop := fun (r : Int32) (u : va_W) => ∃ (la2 : Int32) (nd2 : Nat) (pl2 : Nat → Int32) (sl2 : Nat → Int32) (co2 : Nat → Int32), (r, nd2, pl2, sl2, co2) = fo_cx_decide na nu nd dpf saf lnf btf plf slf cof x1 x2 x3 x4 x5 ∧ (zz_CI na nd2 saf lnf pl2 sl2 co2) ∧ u = [cw_k6 h0 st mk lk ch ru mr md la2, cw_k5 st (nI na) (nI nu) kd dp cl sa ln bt pn bf, cw_k0 ch st (nI nd2) c_pl c_sl c_co c_ca c_tu, cw_i g dp 60 dpf, cw_i g sa 60 saf, cw_i g ln 60 lnf, cw_l g bt 4000 btf, cw_i g c_pl 24 pl2, cw_i g c_sl 24 sl2, cw_i g c_co 24 co2]
set_option maxHeartbeats 4000000 in
set_option maxRecDepth 100000 in
theorem cx_decide (g : zz_G) (h0 : Nat) (st : Nat) (mk : Nat) (lk : Nat) (ch : Nat) (ru : Nat) (mr : Nat) (kd : Nat) (dp : Nat) (cl : Nat) (sa : Nat) (ln : Nat) (bt : Nat) (pn : Nat) (bf : Nat) (c_pl : Nat) (c_sl : Nat) (c_co : Nat) (c_ca : Nat) (c_tu : Nat) (md : Int32) (la : Int32) (na : Nat) (nu : Nat) (nd : Nat) (dpf : Nat → Int32) (saf : Nat → Int32) (lnf : Nat → Int32) (btf : Nat → Int64) (plf : Nat → Int32) (slf : Nat → Int32) (cof : Nat → Int32) (x1 : Int32) (x2 : Int32) (x3 : Int32) (x4 : Int32) (x5 : Int32) (h_S : zz_SI na nu dpf saf lnf) (h_C : zz_CI na nd saf lnf plf slf cof) : zz_I g yX7_decide (.code yX7_decide cX7_decide 8 (some .int)) rm_cx_decide [.ref h0, .int x1, .int x2, .int x3, .int x4, .int x5] [cw_k6 h0 st mk lk ch ru mr md la, cw_k5 st (nI na) (nI nu) kd dp cl sa ln bt pn bf, cw_k0 ch st (nI nd) c_pl c_sl c_co c_ca c_tu, cw_i g dp 60 dpf, cw_i g sa 60 saf, cw_i g ln 60 lnf, cw_l g bt 4000 btf, cw_i g c_pl 24 plf, cw_i g c_sl 24 slf, cw_i g c_co 24 cof] (po_cx_decide g h0 st mk lk ch ru mr kd dp cl sa ln bt pn bf c_pl c_sl c_co c_ca c_tu md la na nu nd dpf saf lnf btf plf slf cof x1 x2 x3 x4 x5 h_S h_C) := by
  refine zz_I.intro (own := RX7) (cc := cX7_decide) (nL := 8) (by decide) rfl (Nat.le_of_ble_eq_true rfl) ?_
  intro p l e s m args below meth c A H locs ls hC hnm hs hZ hl
  obtain ⟨hx, hb, hml, hown, hts, hr, hlocks, hK⟩ := id hC
  have hl : lv_has ls 8 [(0, .ref h0), (1, .int x1), (2, .int x2), (3, .int x3), (4, .int x4), (5, .int x5)] := hl
  have hZ : zz_Z g A s.heap [cw_k6 h0 st mk lk ch ru mr md la, cw_k5 st (nI na) (nI nu) kd dp cl sa ln bt pn bf, cw_k0 ch st (nI nd) c_pl c_sl c_co c_ca c_tu, cw_i g dp 60 dpf, cw_i g sa 60 saf, cw_i g ln 60 lnf, cw_l g bt 4000 btf, cw_i g c_pl 24 plf, cw_i g c_sl 24 slf, cw_i g c_co 24 cof] H locs := hZ
  have hna := h_S.1
  have hnu := h_S.2.1
  have hd24 := h_C.1
  refine lv_aload_n hx hb dX7_decide_0 rfl (lv_at hl 0 rfl) ?_
  refine zz_get hC hZ 0 rfl zf_X7_10 rfl dX7_decide_1 ?_
  refine lv_iload_n hx hb dX7_decide_4 rfl (lv_at hl 1 rfl) ?_
  refine zz_iV (As := [.int x1]) (wc := [cw_k5 st (nI na) (nI nu) kd dp cl sa ln bt pn bf]) (wr := [cw_k6 h0 st mk lk ch ru mr md la, cw_k0 ch st (nI nd) c_pl c_sl c_co c_ca c_tu, cw_i g dp 60 dpf, cw_i g sa 60 saf, cw_i g ln 60 lnf, cw_l g bt 4000 btf, cw_i g c_pl 24 plf, cw_i g c_sl 24 slf, cw_i g c_co 24 cof]) (rest := []) hC hZ hs hl zc_X7_73 (co_has g st kd dp cl sa ln bt pn bf (nI na) (nI nu) x1) [1] [0, 2, 3, 4, 5, 6, 7, 8, 9] rfl rfl (by decide +kernel) (ci := 5) (q0 := 0) rfl rfl rfl rfl (Nat.le_of_ble_eq_true rfl) ⟨⟨Nat.le_of_ble_eq_true rfl, Nat.le_of_ble_eq_true rfl⟩, Nat.le_of_ble_eq_true rfl, Nat.le_of_ble_eq_true rfl⟩ dX7_decide_5 (fun r1 u2 H locs hp hZ => ?_)
  obtain ⟨rfl, rfl⟩ := hp
  have hZ : zz_Z g A s.heap [cw_k6 h0 st mk lk ch ru mr md la, cw_k0 ch st (nI nd) c_pl c_sl c_co c_ca c_tu, cw_i g dp 60 dpf, cw_i g sa 60 saf, cw_i g ln 60 lnf, cw_l g bt 4000 btf, cw_i g c_pl 24 plf, cw_i g c_sl 24 slf, cw_i g c_co 24 cof, cw_k5 st (nI na) (nI nu) kd dp cl sa ln bt pn bf] H locs := hZ
  refine lv_if_ne (tgt := 17) hx hb dX7_decide_8 (by decide) (fun c3 => ?_) (fun c3 => ?_)
  · obtain ⟨a1, ha1, ea1⟩ := zl_has (by omega) c3
    have hl : lv_has ls 8 [(0, .ref h0), (1, .int (nI a1)), (2, .int x2), (3, .int x3), (4, .int x4), (5, .int x5)] := by rw [← ea1]; exact hl
    have bd4 : a1 < 2 ^ 31 := by omega
    have d_a1 : x1.toNatClampNeg = a1 := by rw [ea1]; exact nI_clamp bd4
    obtain ⟨sz1, lz1, dz1, es1, el1, ed1, g11, g21, g31, g41⟩ := h_S.2.2 a1 ha1
    have bd5 : sz1 < 2 ^ 31 := by omega
    have d_sz1 : (saf a1).toNatClampNeg = sz1 := by rw [es1]; exact nI_clamp bd5
    have bd6 : lz1 < 2 ^ 31 := by omega
    have d_lz1 : (lnf a1).toNatClampNeg = lz1 := by rw [el1]; exact nI_clamp bd6
    have bd7 : dz1 < 2 ^ 31 := by omega
    have d_dz1 : (dpf a1).toNatClampNeg = dz1 := by rw [ed1]; exact nI_clamp bd7
    refine lv_aload_n hx hb dX7_decide_17 rfl (lv_at hl 0 rfl) ?_
    refine zz_get hC hZ 0 rfl zf_X7_10 rfl dX7_decide_18 ?_
    refine lv_iload_n hx hb dX7_decide_21 rfl (lv_at hl 1 rfl) ?_
    refine lv_iload_n hx hb dX7_decide_22 rfl (lv_at hl 2 rfl) ?_
    refine lv_iload_n hx hb dX7_decide_23 rfl (lv_at hl 3 rfl) ?_
    refine lv_iload hx hb dX7_decide_24 (lv_at hl 4 rfl) ?_
    refine lv_iload hx hb dX7_decide_26 (lv_at hl 5 rfl) ?_
    refine zz_iV (As := [.int (nI a1), .int x2, .int x3, .int x4, .int x5]) (wc := [cw_k5 st (nI na) (nI nu) kd dp cl sa ln bt pn bf, cw_i g dp 60 dpf, cw_i g sa 60 saf, cw_i g ln 60 lnf, cw_l g bt 4000 btf]) (wr := [cw_k6 h0 st mk lk ch ru mr md la, cw_k0 ch st (nI nd) c_pl c_sl c_co c_ca c_tu, cw_i g c_pl 24 plf, cw_i g c_sl 24 slf, cw_i g c_co 24 cof]) (rest := []) hC hZ hs hl zc_X7_134 (co_walk g st kd dp cl sa ln bt pn bf na nu dpf saf lnf btf a1 x2 x3 x4 x5 (h_S) (by omega)) [9, 2, 3, 4, 5] [0, 1, 6, 7, 8] rfl rfl (by decide +kernel) (ci := 5) (q0 := 0) rfl rfl rfl rfl (Nat.le_of_ble_eq_true rfl) ⟨⟨Nat.le_of_ble_eq_true rfl, Nat.le_of_ble_eq_true rfl⟩, Nat.le_of_ble_eq_true rfl, Nat.le_of_ble_eq_true rfl⟩ dX7_decide_28 (fun r8 u9 H locs hp hZ => ?_)
    obtain ⟨f10, f11, rfl⟩ := hp
    have hZ : zz_Z g A s.heap [cw_k6 h0 st mk lk ch ru mr md la, cw_k0 ch st (nI nd) c_pl c_sl c_co c_ca c_tu, cw_i g c_pl 24 plf, cw_i g c_sl 24 slf, cw_i g c_co 24 cof, cw_k5 st (nI na) (nI nu) kd dp cl sa ln bt pn bf, cw_i g dp 60 dpf, cw_i g sa 60 saf, cw_i g ln 60 lnf, cw_l g bt 4000 btf] H locs := hZ
    have d_r8 : sp_walk na dpf saf lnf btf 4 a1 0 (zz_pa x2 x3 x4 x5) = r8 := f11.symm
    refine lv_istore (lv' := [(6, .int r8), (0, .ref h0), (1, .int (nI a1)), (2, .int x2), (3, .int x3), (4, .int x4), (5, .int x5)]) hx hb dX7_decide_31 hl (by decide) rfl (fun ls hl => ?_)
    refine lv_iload hx hb dX7_decide_33 (lv_at hl 0 rfl) ?_
    refine lv_if_ge (tgt := 46) hx hb dX7_decide_35 (by decide) (fun c12 => ?_) (fun c12 => ?_)
    · obtain ⟨bw, qw, lzw0, ew, hbw, elw0, hqw0, hlw0, edw0⟩ := zl_WR f10 (zl_ge0 c12)
      have hl : lv_has ls 8 [(6, .int (nI (1000 * bw + qw))), (0, .ref h0), (1, .int (nI a1)), (2, .int x2), (3, .int x3), (4, .int x4), (5, .int x5)] := by rw [← ew]; exact hl
      obtain ⟨szw, lzw, dzw, esw, elw, edw, g1w, g2w, g3w, g4w⟩ := h_S.2.2 bw hbw
      have hqw : qw < lzw := by have := zl_lz rfl elw0 elw (by omega) (by omega); omega
      have d_bw : r8.toNatClampNeg / 1000 = bw := by rw [ew, nI_clamp (by omega)]; omega
      have d_qw : r8.toNatClampNeg % 1000 = qw := by rw [ew, nI_clamp (by omega)]; omega
      have bd13 : szw < 2 ^ 31 := by omega
      have d_szw : (saf bw).toNatClampNeg = szw := by rw [esw]; exact nI_clamp bd13
      have bd14 : lzw < 2 ^ 31 := by omega
      have d_lzw : (lnf bw).toNatClampNeg = lzw := by rw [elw]; exact nI_clamp bd14
      have bd15 : dzw < 2 ^ 31 := by omega
      have d_dzw : (dpf bw).toNatClampNeg = dzw := by rw [edw]; exact nI_clamp bd15
      refine lv_aload_n hx hb dX7_decide_46 rfl (lv_at hl 1 rfl) ?_
      refine zz_get hC hZ 0 rfl zf_X7_35 rfl dX7_decide_47 ?_
      refine lv_iload hx hb dX7_decide_50 (lv_at hl 0 rfl) ?_
      refine zz_iV (As := [.int (nI (1000 * bw + qw))]) (wc := [cw_k0 ch st (nI nd) c_pl c_sl c_co c_ca c_tu, cw_i g c_pl 24 plf]) (wr := [cw_k6 h0 st mk lk ch ru mr md la, cw_i g c_sl 24 slf, cw_i g c_co 24 cof, cw_k5 st (nI na) (nI nu) kd dp cl sa ln bt pn bf, cw_i g dp 60 dpf, cw_i g sa 60 saf, cw_i g ln 60 lnf, cw_l g bt 4000 btf]) (rest := []) hC hZ hs hl zc_X7_209 (co_at g ch st c_pl c_sl c_co c_ca c_tu nd plf (nI (1000 * bw + qw)) (by omega)) [1, 2] [0, 3, 4, 5, 6, 7, 8, 9] rfl rfl (by decide +kernel) (ci := 0) (q0 := 0) rfl rfl rfl rfl (Nat.le_of_ble_eq_true rfl) ⟨⟨Nat.le_of_ble_eq_true rfl, Nat.le_of_ble_eq_true rfl⟩, Nat.le_of_ble_eq_true rfl, Nat.le_of_ble_eq_true rfl⟩ dX7_decide_52 (fun r16 u17 H locs hp hZ => ?_)
      obtain ⟨f18, f19, rfl⟩ := hp
      have hZ : zz_Z g A s.heap [cw_k6 h0 st mk lk ch ru mr md la, cw_i g c_sl 24 slf, cw_i g c_co 24 cof, cw_k5 st (nI na) (nI nu) kd dp cl sa ln bt pn bf, cw_i g dp 60 dpf, cw_i g sa 60 saf, cw_i g ln 60 lnf, cw_l g bt 4000 btf, cw_k0 ch st (nI nd) c_pl c_sl c_co c_ca c_tu, cw_i g c_pl 24 plf] H locs := hZ
      have d_r16 : sp_at plf (nI (1000 * bw + qw)) nd 0 = r16 := f19.symm
      refine lv_istore (lv' := [(7, .int r16), (6, .int (nI (1000 * bw + qw))), (0, .ref h0), (1, .int (nI a1)), (2, .int x2), (3, .int x3), (4, .int x4), (5, .int x5)]) hx hb dX7_decide_55 hl (by decide) rfl (fun ls hl => ?_)
      refine lv_iload hx hb dX7_decide_57 (lv_at hl 0 rfl) ?_
      refine lv_if_lt (tgt := 69) hx hb dX7_decide_59 (by decide) (fun c20 => ?_) (fun c20 => ?_)
      · refine lv_aload_n hx hb dX7_decide_69 rfl (lv_at hl 2 rfl) ?_
        refine zz_get hC hZ 0 rfl zf_X7_35 rfl dX7_decide_70 ?_
        refine zz_get hC hZ 8 rfl zf_X7_212 rfl dX7_decide_73 ?_
        refine lv_bipush (v := 24) hx hb dX7_decide_76 (by decide) ?_
        have bd22 : nd < 2 ^ 31 := by omega
        refine lv_icmp_lt (tgt := 88) hx hb dX7_decide_78 (by decide) (fun c21 => ?_) (fun c21 => ?_)
        · have nc21 : nd < 24 := (nI_ltI bd22 (by decide)).mp (show nI (nd) < nI (24) from c21)
          refine lv_aload_n hx hb dX7_decide_88 rfl (lv_at hl 2 rfl) ?_
          refine lv_aload_n hx hb dX7_decide_89 rfl (lv_at hl 2 rfl) ?_
          refine zz_get hC hZ 0 rfl zf_X7_35 rfl dX7_decide_90 ?_
          refine lv_iload hx hb dX7_decide_93 (lv_at hl 1 rfl) ?_
          refine zz_iV (As := [.int (nI (1000 * bw + qw))]) (wc := [cw_k0 ch st (nI nd) c_pl c_sl c_co c_ca c_tu, cw_i g c_pl 24 plf, cw_i g c_sl 24 slf, cw_i g c_co 24 cof, cw_k5 st (nI na) (nI nu) kd dp cl sa ln bt pn bf, cw_i g sa 60 saf]) (wr := [cw_k6 h0 st mk lk ch ru mr md la, cw_i g dp 60 dpf, cw_i g ln 60 lnf, cw_l g bt 4000 btf]) (rest := [.ref h0]) hC hZ hs hl zc_X7_215 (co_cadd g ch st c_pl c_sl c_co c_ca c_tu kd dp cl sa ln bt pn bf nd na nu plf slf cof saf bw qw szw (by omega) (by omega) (esw)) [8, 9, 1, 2, 3, 5] [0, 4, 6, 7] rfl rfl (by decide +kernel) (ci := 0) (q0 := 0) rfl rfl rfl rfl (Nat.le_of_ble_eq_true rfl) ⟨⟨Nat.le_of_ble_eq_true rfl, Nat.le_of_ble_eq_true rfl⟩, Nat.le_of_ble_eq_true rfl, Nat.le_of_ble_eq_true rfl⟩ dX7_decide_95 (fun r23 u24 H locs hp hZ => ?_)
          obtain ⟨rfl, rfl⟩ := hp
          have hZ : zz_Z g A s.heap [cw_k6 h0 st mk lk ch ru mr md la, cw_i g dp 60 dpf, cw_i g ln 60 lnf, cw_l g bt 4000 btf, cw_k0 ch st (nI (nd + 1)) c_pl c_sl c_co c_ca c_tu, cw_i g c_pl 24 (upd plf nd (nI (1000 * bw + qw))), cw_i g c_sl 24 (upd slf nd (nI (szw + qw))), cw_i g c_co 24 (upd cof nd 0), cw_k5 st (nI na) (nI nu) kd dp cl sa ln bt pn bf, cw_i g sa 60 saf] H locs := hZ
          refine zz_iV (As := [.int (nI nd)]) (wc := [cw_k6 h0 st mk lk ch ru mr md la]) (wr := [cw_i g dp 60 dpf, cw_i g ln 60 lnf, cw_l g bt 4000 btf, cw_k0 ch st (nI (nd + 1)) c_pl c_sl c_co c_ca c_tu, cw_i g c_pl 24 (upd plf nd (nI (1000 * bw + qw))), cw_i g c_sl 24 (upd slf nd (nI (szw + qw))), cw_i g c_co 24 (upd cof nd 0), cw_k5 st (nI na) (nI nu) kd dp cl sa ln bt pn bf, cw_i g sa 60 saf]) (rest := []) hC hZ hs hl zc_X7_100 (co_fine g h0 st mk lk ch ru mr md la (nI nd)) [0] [1, 2, 3, 4, 5, 6, 7, 8, 9] rfl rfl (by decide +kernel) (ci := 6) (q0 := 0) rfl rfl rfl rfl (Nat.le_of_ble_eq_true rfl) ⟨⟨Nat.le_of_ble_eq_true rfl, Nat.le_of_ble_eq_true rfl⟩, Nat.le_of_ble_eq_true rfl, Nat.le_of_ble_eq_true rfl⟩ dX7_decide_98 (fun r25 u26 H locs hp hZ => ?_)
          obtain ⟨rfl, rfl⟩ := hp
          have hZ : zz_Z g A s.heap [cw_i g dp 60 dpf, cw_i g ln 60 lnf, cw_l g bt 4000 btf, cw_k0 ch st (nI (nd + 1)) c_pl c_sl c_co c_ca c_tu, cw_i g c_pl 24 (upd plf nd (nI (1000 * bw + qw))), cw_i g c_sl 24 (upd slf nd (nI (szw + qw))), cw_i g c_co 24 (upd cof nd 0), cw_k5 st (nI na) (nI nu) kd dp cl sa ln bt pn bf, cw_i g sa 60 saf, cw_k6 h0 st mk lk ch ru mr md 0] H locs := hZ
          have hZ : zz_Z g A s.heap [cw_k6 h0 st mk lk ch ru mr md 0, cw_k5 st (nI na) (nI nu) kd dp cl sa ln bt pn bf, cw_k0 ch st (nI (nd + 1)) c_pl c_sl c_co c_ca c_tu, cw_i g dp 60 dpf, cw_i g sa 60 saf, cw_i g ln 60 lnf, cw_l g bt 4000 btf, cw_i g c_pl 24 (upd plf nd (nI (1000 * bw + qw))), cw_i g c_sl 24 (upd slf nd (nI (szw + qw))), cw_i g c_co 24 (upd cof nd 0)] H locs := hZ.sub [9, 7, 3, 0, 8, 1, 2, 4, 5, 6] (by decide +kernel) rfl
          exact zz_iret hC hZ (⟨0, (nd + 1), (upd plf nd (nI (1000 * bw + qw))), (upd slf nd (nI (szw + qw))), (upd cof nd 0), by refine Eq.symm ?_; rw [fo_cx_decide]; refine (if_neg (by (try simp only [d_a1, d_sz1, d_lz1, d_dz1, d_r8, d_bw, d_qw, d_szw, d_lzw, d_dzw, d_r16]); exact c3)).trans ?_; refine (if_pos (by (try simp only [d_a1, d_sz1, d_lz1, d_dz1, d_r8, d_bw, d_qw, d_szw, d_lzw, d_dzw, d_r16]); exact c12)).trans ?_; refine (if_pos (by (try simp only [d_a1, d_sz1, d_lz1, d_dz1, d_r8, d_bw, d_qw, d_szw, d_lzw, d_dzw, d_r16]); exact c20)).trans ?_; refine (if_pos (by (try simp only [d_a1, d_sz1, d_lz1, d_dz1, d_r8, d_bw, d_qw, d_szw, d_lzw, d_dzw, d_r16]); exact c21)).trans ?_; first | (simp only [d_a1, d_sz1, d_lz1, d_dz1, d_r8, d_bw, d_qw, d_szw, d_lzw, d_dzw, d_r16]; done) | rfl, zl_CIadd h_C (by omega) (by omega) (by omega) esw elw (by omega) (by omega) hqw, rfl⟩) (Nat.le_of_ble_eq_true rfl) (Nat.le_of_ble_eq_true rfl) dX7_decide_101
        · have nc21 : ¬ nd < 24 := fun zq => c21 (show nI (nd) < nI (24) from (nI_ltI bd22 (by decide)).mpr zq)
          refine lv_aload_n hx hb dX7_decide_81 rfl (lv_at hl 2 rfl) ?_
          refine lv_bipush (v := 8) hx hb dX7_decide_82 (by decide) ?_
          refine zz_iV (As := [.int 8]) (wc := [cw_k6 h0 st mk lk ch ru mr md la]) (wr := [cw_i g c_sl 24 slf, cw_i g c_co 24 cof, cw_k5 st (nI na) (nI nu) kd dp cl sa ln bt pn bf, cw_i g dp 60 dpf, cw_i g sa 60 saf, cw_i g ln 60 lnf, cw_l g bt 4000 btf, cw_k0 ch st (nI nd) c_pl c_sl c_co c_ca c_tu, cw_i g c_pl 24 plf]) (rest := []) hC hZ hs hl zc_X7_65 (co_fail g h0 st mk lk ch ru mr md la 8) [0] [1, 2, 3, 4, 5, 6, 7, 8, 9] rfl rfl (by decide +kernel) (ci := 6) (q0 := 0) rfl rfl rfl rfl (Nat.le_of_ble_eq_true rfl) ⟨⟨Nat.le_of_ble_eq_true rfl, Nat.le_of_ble_eq_true rfl⟩, Nat.le_of_ble_eq_true rfl, Nat.le_of_ble_eq_true rfl⟩ dX7_decide_84 (fun r27 u28 H locs hp hZ => ?_)
          obtain ⟨rfl, rfl⟩ := hp
          have hZ : zz_Z g A s.heap [cw_i g c_sl 24 slf, cw_i g c_co 24 cof, cw_k5 st (nI na) (nI nu) kd dp cl sa ln bt pn bf, cw_i g dp 60 dpf, cw_i g sa 60 saf, cw_i g ln 60 lnf, cw_l g bt 4000 btf, cw_k0 ch st (nI nd) c_pl c_sl c_co c_ca c_tu, cw_i g c_pl 24 plf, cw_k6 h0 st mk lk ch ru mr md 8] H locs := hZ
          have hZ : zz_Z g A s.heap [cw_k6 h0 st mk lk ch ru mr md 8, cw_k5 st (nI na) (nI nu) kd dp cl sa ln bt pn bf, cw_k0 ch st (nI nd) c_pl c_sl c_co c_ca c_tu, cw_i g dp 60 dpf, cw_i g sa 60 saf, cw_i g ln 60 lnf, cw_l g bt 4000 btf, cw_i g c_pl 24 plf, cw_i g c_sl 24 slf, cw_i g c_co 24 cof] H locs := hZ.sub [9, 2, 7, 3, 4, 5, 6, 8, 0, 1] (by decide +kernel) rfl
          exact zz_iret hC hZ (⟨8, nd, plf, slf, cof, by refine Eq.symm ?_; rw [fo_cx_decide]; refine (if_neg (by (try simp only [d_a1, d_sz1, d_lz1, d_dz1, d_r8, d_bw, d_qw, d_szw, d_lzw, d_dzw, d_r16]); exact c3)).trans ?_; refine (if_pos (by (try simp only [d_a1, d_sz1, d_lz1, d_dz1, d_r8, d_bw, d_qw, d_szw, d_lzw, d_dzw, d_r16]); exact c12)).trans ?_; refine (if_pos (by (try simp only [d_a1, d_sz1, d_lz1, d_dz1, d_r8, d_bw, d_qw, d_szw, d_lzw, d_dzw, d_r16]); exact c20)).trans ?_; refine (if_neg (by (try simp only [d_a1, d_sz1, d_lz1, d_dz1, d_r8, d_bw, d_qw, d_szw, d_lzw, d_dzw, d_r16]); exact c21)).trans ?_; first | (simp only [d_a1, d_sz1, d_lz1, d_dz1, d_r8, d_bw, d_qw, d_szw, d_lzw, d_dzw, d_r16]; done) | rfl, h_C, rfl⟩) (Nat.le_of_ble_eq_true rfl) (Nat.le_of_ble_eq_true rfl) dX7_decide_87
      · refine lv_aload_n hx hb dX7_decide_62 rfl (lv_at hl 2 rfl) ?_
        refine lv_iload hx hb dX7_decide_63 (lv_at hl 0 rfl) ?_
        refine zz_iV (As := [.int r16]) (wc := [cw_k6 h0 st mk lk ch ru mr md la]) (wr := [cw_i g c_sl 24 slf, cw_i g c_co 24 cof, cw_k5 st (nI na) (nI nu) kd dp cl sa ln bt pn bf, cw_i g dp 60 dpf, cw_i g sa 60 saf, cw_i g ln 60 lnf, cw_l g bt 4000 btf, cw_k0 ch st (nI nd) c_pl c_sl c_co c_ca c_tu, cw_i g c_pl 24 plf]) (rest := []) hC hZ hs hl zc_X7_100 (co_fine g h0 st mk lk ch ru mr md la r16) [0] [1, 2, 3, 4, 5, 6, 7, 8, 9] rfl rfl (by decide +kernel) (ci := 6) (q0 := 0) rfl rfl rfl rfl (Nat.le_of_ble_eq_true rfl) ⟨⟨Nat.le_of_ble_eq_true rfl, Nat.le_of_ble_eq_true rfl⟩, Nat.le_of_ble_eq_true rfl, Nat.le_of_ble_eq_true rfl⟩ dX7_decide_65 (fun r29 u30 H locs hp hZ => ?_)
        obtain ⟨rfl, rfl⟩ := hp
        have hZ : zz_Z g A s.heap [cw_i g c_sl 24 slf, cw_i g c_co 24 cof, cw_k5 st (nI na) (nI nu) kd dp cl sa ln bt pn bf, cw_i g dp 60 dpf, cw_i g sa 60 saf, cw_i g ln 60 lnf, cw_l g bt 4000 btf, cw_k0 ch st (nI nd) c_pl c_sl c_co c_ca c_tu, cw_i g c_pl 24 plf, cw_k6 h0 st mk lk ch ru mr md 0] H locs := hZ
        have hZ : zz_Z g A s.heap [cw_k6 h0 st mk lk ch ru mr md 0, cw_k5 st (nI na) (nI nu) kd dp cl sa ln bt pn bf, cw_k0 ch st (nI nd) c_pl c_sl c_co c_ca c_tu, cw_i g dp 60 dpf, cw_i g sa 60 saf, cw_i g ln 60 lnf, cw_l g bt 4000 btf, cw_i g c_pl 24 plf, cw_i g c_sl 24 slf, cw_i g c_co 24 cof] H locs := hZ.sub [9, 2, 7, 3, 4, 5, 6, 8, 0, 1] (by decide +kernel) rfl
        exact zz_iret hC hZ (⟨0, nd, plf, slf, cof, by refine Eq.symm ?_; rw [fo_cx_decide]; refine (if_neg (by (try simp only [d_a1, d_sz1, d_lz1, d_dz1, d_r8, d_bw, d_qw, d_szw, d_lzw, d_dzw, d_r16]); exact c3)).trans ?_; refine (if_pos (by (try simp only [d_a1, d_sz1, d_lz1, d_dz1, d_r8, d_bw, d_qw, d_szw, d_lzw, d_dzw, d_r16]); exact c12)).trans ?_; refine (if_neg (by (try simp only [d_a1, d_sz1, d_lz1, d_dz1, d_r8, d_bw, d_qw, d_szw, d_lzw, d_dzw, d_r16]); exact c20)).trans ?_; first | (simp only [d_a1, d_sz1, d_lz1, d_dz1, d_r8, d_bw, d_qw, d_szw, d_lzw, d_dzw, d_r16]; done) | rfl, h_C, rfl⟩) (Nat.le_of_ble_eq_true rfl) (Nat.le_of_ble_eq_true rfl) dX7_decide_68
    · refine lv_aload_n hx hb dX7_decide_38 rfl (lv_at hl 1 rfl) ?_
      refine lv_iload hx hb dX7_decide_39 (lv_at hl 0 rfl) ?_
      refine lv_ineg hx hb dX7_decide_41 ?_
      refine zz_iV (As := [.int (-r8)]) (wc := [cw_k6 h0 st mk lk ch ru mr md la]) (wr := [cw_k0 ch st (nI nd) c_pl c_sl c_co c_ca c_tu, cw_i g c_pl 24 plf, cw_i g c_sl 24 slf, cw_i g c_co 24 cof, cw_k5 st (nI na) (nI nu) kd dp cl sa ln bt pn bf, cw_i g dp 60 dpf, cw_i g sa 60 saf, cw_i g ln 60 lnf, cw_l g bt 4000 btf]) (rest := []) hC hZ hs hl zc_X7_65 (co_fail g h0 st mk lk ch ru mr md la (-r8)) [0] [1, 2, 3, 4, 5, 6, 7, 8, 9] rfl rfl (by decide +kernel) (ci := 6) (q0 := 0) rfl rfl rfl rfl (Nat.le_of_ble_eq_true rfl) ⟨⟨Nat.le_of_ble_eq_true rfl, Nat.le_of_ble_eq_true rfl⟩, Nat.le_of_ble_eq_true rfl, Nat.le_of_ble_eq_true rfl⟩ dX7_decide_42 (fun r31 u32 H locs hp hZ => ?_)
      obtain ⟨rfl, rfl⟩ := hp
      have hZ : zz_Z g A s.heap [cw_k0 ch st (nI nd) c_pl c_sl c_co c_ca c_tu, cw_i g c_pl 24 plf, cw_i g c_sl 24 slf, cw_i g c_co 24 cof, cw_k5 st (nI na) (nI nu) kd dp cl sa ln bt pn bf, cw_i g dp 60 dpf, cw_i g sa 60 saf, cw_i g ln 60 lnf, cw_l g bt 4000 btf, cw_k6 h0 st mk lk ch ru mr md (-r8)] H locs := hZ
      have hZ : zz_Z g A s.heap [cw_k6 h0 st mk lk ch ru mr md (-r8), cw_k5 st (nI na) (nI nu) kd dp cl sa ln bt pn bf, cw_k0 ch st (nI nd) c_pl c_sl c_co c_ca c_tu, cw_i g dp 60 dpf, cw_i g sa 60 saf, cw_i g ln 60 lnf, cw_l g bt 4000 btf, cw_i g c_pl 24 plf, cw_i g c_sl 24 slf, cw_i g c_co 24 cof] H locs := hZ.sub [9, 4, 0, 5, 6, 7, 8, 1, 2, 3] (by decide +kernel) rfl
      exact zz_iret hC hZ (⟨(-r8), nd, plf, slf, cof, by refine Eq.symm ?_; rw [fo_cx_decide]; refine (if_neg (by (try simp only [d_a1, d_sz1, d_lz1, d_dz1, d_r8]); exact c3)).trans ?_; refine (if_neg (by (try simp only [d_a1, d_sz1, d_lz1, d_dz1, d_r8]); exact c12)).trans ?_; first | (simp only [d_a1, d_sz1, d_lz1, d_dz1, d_r8]; done) | rfl, h_C, rfl⟩) (Nat.le_of_ble_eq_true rfl) (Nat.le_of_ble_eq_true rfl) dX7_decide_45
  · refine lv_aload_n hx hb dX7_decide_11 rfl (lv_at hl 0 rfl) ?_
    refine lv_iconst (v := 5) hx hb dX7_decide_12 (by decide) ?_
    refine zz_iV (As := [.int 5]) (wc := [cw_k6 h0 st mk lk ch ru mr md la]) (wr := [cw_k0 ch st (nI nd) c_pl c_sl c_co c_ca c_tu, cw_i g dp 60 dpf, cw_i g sa 60 saf, cw_i g ln 60 lnf, cw_l g bt 4000 btf, cw_i g c_pl 24 plf, cw_i g c_sl 24 slf, cw_i g c_co 24 cof, cw_k5 st (nI na) (nI nu) kd dp cl sa ln bt pn bf]) (rest := []) hC hZ hs hl zc_X7_65 (co_fail g h0 st mk lk ch ru mr md la 5) [0] [1, 2, 3, 4, 5, 6, 7, 8, 9] rfl rfl (by decide +kernel) (ci := 6) (q0 := 0) rfl rfl rfl rfl (Nat.le_of_ble_eq_true rfl) ⟨⟨Nat.le_of_ble_eq_true rfl, Nat.le_of_ble_eq_true rfl⟩, Nat.le_of_ble_eq_true rfl, Nat.le_of_ble_eq_true rfl⟩ dX7_decide_13 (fun r33 u34 H locs hp hZ => ?_)
    obtain ⟨rfl, rfl⟩ := hp
    have hZ : zz_Z g A s.heap [cw_k0 ch st (nI nd) c_pl c_sl c_co c_ca c_tu, cw_i g dp 60 dpf, cw_i g sa 60 saf, cw_i g ln 60 lnf, cw_l g bt 4000 btf, cw_i g c_pl 24 plf, cw_i g c_sl 24 slf, cw_i g c_co 24 cof, cw_k5 st (nI na) (nI nu) kd dp cl sa ln bt pn bf, cw_k6 h0 st mk lk ch ru mr md 5] H locs := hZ
    have hZ : zz_Z g A s.heap [cw_k6 h0 st mk lk ch ru mr md 5, cw_k5 st (nI na) (nI nu) kd dp cl sa ln bt pn bf, cw_k0 ch st (nI nd) c_pl c_sl c_co c_ca c_tu, cw_i g dp 60 dpf, cw_i g sa 60 saf, cw_i g ln 60 lnf, cw_l g bt 4000 btf, cw_i g c_pl 24 plf, cw_i g c_sl 24 slf, cw_i g c_co 24 cof] H locs := hZ.sub [9, 8, 0, 1, 2, 3, 4, 5, 6, 7] (by decide +kernel) rfl
    exact zz_iret hC hZ (⟨5, nd, plf, slf, cof, by show _ = _; rw [fo_cx_decide]; rw [if_pos c3], h_C, rfl⟩) (Nat.le_of_ble_eq_true rfl) (Nat.le_of_ble_eq_true rfl) dX7_decide_16
theorem dg_X7_candidate_0 : (decode cX7_candidate 0 = .ok (.aload_n 0, 1)) ∧ (decode cX7_candidate 1 = .ok (.getfield 35, 3)) ∧ (decode cX7_candidate 4 = .ok (.iload_n 1, 1)) ∧ (decode cX7_candidate 5 = .ok (.invokevirtual 218, 3)) ∧ (decode cX7_candidate 8 = .ok (.ifCond .ne 10, 3)) ∧ (decode cX7_candidate 11 = .ok (.aload_n 0, 1)) ∧ (decode cX7_candidate 12 = .ok (.bipush 9, 2)) ∧ (decode cX7_candidate 14 = .ok (.invokevirtual 65, 3)) ∧ (decode cX7_candidate 17 = .ok (.ireturn, 1)) ∧ (decode cX7_candidate 18 = .ok (.aload_n 0, 1)) ∧ (decode cX7_candidate 19 = .ok (.getfield 35, 3)) ∧ (decode cX7_candidate 22 = .ok (.iload_n 1, 1)) ∧ (decode cX7_candidate 23 = .ok (.invokevirtual 219, 3)) ∧ (decode cX7_candidate 26 = .ok (.istore 4, 2)) ∧ (decode cX7_candidate 28 = .ok (.iload 4, 2)) ∧ (decode cX7_candidate 30 = .ok (.lload_n 2, 1)) := by decide +kernel
theorem dX7_candidate_0 : decode cX7_candidate 0 = .ok (.aload_n 0, 1) := dg_X7_candidate_0.1
theorem dX7_candidate_1 : decode cX7_candidate 1 = .ok (.getfield 35, 3) := dg_X7_candidate_0.2.1
theorem dX7_candidate_4 : decode cX7_candidate 4 = .ok (.iload_n 1, 1) := dg_X7_candidate_0.2.2.1
theorem dX7_candidate_5 : decode cX7_candidate 5 = .ok (.invokevirtual 218, 3) := dg_X7_candidate_0.2.2.2.1
theorem dX7_candidate_8 : decode cX7_candidate 8 = .ok (.ifCond .ne 10, 3) := dg_X7_candidate_0.2.2.2.2.1
theorem dX7_candidate_11 : decode cX7_candidate 11 = .ok (.aload_n 0, 1) := dg_X7_candidate_0.2.2.2.2.2.1
theorem dX7_candidate_12 : decode cX7_candidate 12 = .ok (.bipush 9, 2) := dg_X7_candidate_0.2.2.2.2.2.2.1
theorem dX7_candidate_14 : decode cX7_candidate 14 = .ok (.invokevirtual 65, 3) := dg_X7_candidate_0.2.2.2.2.2.2.2.1
theorem dX7_candidate_17 : decode cX7_candidate 17 = .ok (.ireturn, 1) := dg_X7_candidate_0.2.2.2.2.2.2.2.2.1
theorem dX7_candidate_18 : decode cX7_candidate 18 = .ok (.aload_n 0, 1) := dg_X7_candidate_0.2.2.2.2.2.2.2.2.2.1
theorem dX7_candidate_19 : decode cX7_candidate 19 = .ok (.getfield 35, 3) := dg_X7_candidate_0.2.2.2.2.2.2.2.2.2.2.1
theorem dX7_candidate_22 : decode cX7_candidate 22 = .ok (.iload_n 1, 1) := dg_X7_candidate_0.2.2.2.2.2.2.2.2.2.2.2.1
theorem dX7_candidate_23 : decode cX7_candidate 23 = .ok (.invokevirtual 219, 3) := dg_X7_candidate_0.2.2.2.2.2.2.2.2.2.2.2.2.1
theorem dX7_candidate_26 : decode cX7_candidate 26 = .ok (.istore 4, 2) := dg_X7_candidate_0.2.2.2.2.2.2.2.2.2.2.2.2.2.1
theorem dX7_candidate_28 : decode cX7_candidate 28 = .ok (.iload 4, 2) := dg_X7_candidate_0.2.2.2.2.2.2.2.2.2.2.2.2.2.2.1
theorem dX7_candidate_30 : decode cX7_candidate 30 = .ok (.lload_n 2, 1) := dg_X7_candidate_0.2.2.2.2.2.2.2.2.2.2.2.2.2.2.2
theorem dg_X7_candidate_31 : (decode cX7_candidate 31 = .ok (.invokestatic 156, 3)) ∧ (decode cX7_candidate 34 = .ok (.lstore 5, 2)) ∧ (decode cX7_candidate 36 = .ok (.iload 4, 2)) ∧ (decode cX7_candidate 38 = .ok (.lload_n 2, 1)) ∧ (decode cX7_candidate 39 = .ok (.invokestatic 148, 3)) ∧ (decode cX7_candidate 42 = .ok (.ifCond .eq 26, 3)) ∧ (decode cX7_candidate 45 = .ok (.iload 4, 2)) ∧ (decode cX7_candidate 47 = .ok (.lload 5, 2)) ∧ (decode cX7_candidate 49 = .ok (.invokestatic 222, 3)) ∧ (decode cX7_candidate 52 = .ok (.ifCond .ne 16, 3)) ∧ (decode cX7_candidate 55 = .ok (.aload_n 0, 1)) ∧ (decode cX7_candidate 56 = .ok (.getfield 35, 3)) ∧ (decode cX7_candidate 59 = .ok (.iload_n 1, 1)) ∧ (decode cX7_candidate 60 = .ok (.lload 5, 2)) ∧ (decode cX7_candidate 62 = .ok (.invokevirtual 225, 3)) ∧ (decode cX7_candidate 65 = .ok (.ifCond .lt 10, 3)) := by decide +kernel
theorem dX7_candidate_31 : decode cX7_candidate 31 = .ok (.invokestatic 156, 3) := dg_X7_candidate_31.1
theorem dX7_candidate_34 : decode cX7_candidate 34 = .ok (.lstore 5, 2) := dg_X7_candidate_31.2.1
theorem dX7_candidate_36 : decode cX7_candidate 36 = .ok (.iload 4, 2) := dg_X7_candidate_31.2.2.1
theorem dX7_candidate_38 : decode cX7_candidate 38 = .ok (.lload_n 2, 1) := dg_X7_candidate_31.2.2.2.1
theorem dX7_candidate_39 : decode cX7_candidate 39 = .ok (.invokestatic 148, 3) := dg_X7_candidate_31.2.2.2.2.1
theorem dX7_candidate_42 : decode cX7_candidate 42 = .ok (.ifCond .eq 26, 3) := dg_X7_candidate_31.2.2.2.2.2.1
theorem dX7_candidate_45 : decode cX7_candidate 45 = .ok (.iload 4, 2) := dg_X7_candidate_31.2.2.2.2.2.2.1
theorem dX7_candidate_47 : decode cX7_candidate 47 = .ok (.lload 5, 2) := dg_X7_candidate_31.2.2.2.2.2.2.2.1
theorem dX7_candidate_49 : decode cX7_candidate 49 = .ok (.invokestatic 222, 3) := dg_X7_candidate_31.2.2.2.2.2.2.2.2.1
theorem dX7_candidate_52 : decode cX7_candidate 52 = .ok (.ifCond .ne 16, 3) := dg_X7_candidate_31.2.2.2.2.2.2.2.2.2.1
theorem dX7_candidate_55 : decode cX7_candidate 55 = .ok (.aload_n 0, 1) := dg_X7_candidate_31.2.2.2.2.2.2.2.2.2.2.1
theorem dX7_candidate_56 : decode cX7_candidate 56 = .ok (.getfield 35, 3) := dg_X7_candidate_31.2.2.2.2.2.2.2.2.2.2.2.1
theorem dX7_candidate_59 : decode cX7_candidate 59 = .ok (.iload_n 1, 1) := dg_X7_candidate_31.2.2.2.2.2.2.2.2.2.2.2.2.1
theorem dX7_candidate_60 : decode cX7_candidate 60 = .ok (.lload 5, 2) := dg_X7_candidate_31.2.2.2.2.2.2.2.2.2.2.2.2.2.1
theorem dX7_candidate_62 : decode cX7_candidate 62 = .ok (.invokevirtual 225, 3) := dg_X7_candidate_31.2.2.2.2.2.2.2.2.2.2.2.2.2.2.1
theorem dX7_candidate_65 : decode cX7_candidate 65 = .ok (.ifCond .lt 10, 3) := dg_X7_candidate_31.2.2.2.2.2.2.2.2.2.2.2.2.2.2.2
theorem dg_X7_candidate_68 : (decode cX7_candidate 68 = .ok (.aload_n 0, 1)) ∧ (decode cX7_candidate 69 = .ok (.bipush 9, 2)) ∧ (decode cX7_candidate 71 = .ok (.invokevirtual 65, 3)) ∧ (decode cX7_candidate 74 = .ok (.ireturn, 1)) ∧ (decode cX7_candidate 75 = .ok (.aload_n 0, 1)) ∧ (decode cX7_candidate 76 = .ok (.getfield 10, 3)) ∧ (decode cX7_candidate 79 = .ok (.aload_n 0, 1)) ∧ (decode cX7_candidate 80 = .ok (.getfield 35, 3)) ∧ (decode cX7_candidate 83 = .ok (.iload_n 1, 1)) ∧ (decode cX7_candidate 84 = .ok (.invokevirtual 228, 3)) ∧ (decode cX7_candidate 87 = .ok (.lload 5, 2)) ∧ (decode cX7_candidate 89 = .ok (.invokevirtual 160, 3)) ∧ (decode cX7_candidate 92 = .ok (.ifCond .ne 10, 3)) ∧ (decode cX7_candidate 95 = .ok (.aload_n 0, 1)) ∧ (decode cX7_candidate 96 = .ok (.bipush 7, 2)) ∧ (decode cX7_candidate 98 = .ok (.invokevirtual 65, 3)) := by decide +kernel
theorem dX7_candidate_68 : decode cX7_candidate 68 = .ok (.aload_n 0, 1) := dg_X7_candidate_68.1
theorem dX7_candidate_69 : decode cX7_candidate 69 = .ok (.bipush 9, 2) := dg_X7_candidate_68.2.1
theorem dX7_candidate_71 : decode cX7_candidate 71 = .ok (.invokevirtual 65, 3) := dg_X7_candidate_68.2.2.1
theorem dX7_candidate_74 : decode cX7_candidate 74 = .ok (.ireturn, 1) := dg_X7_candidate_68.2.2.2.1
theorem dX7_candidate_75 : decode cX7_candidate 75 = .ok (.aload_n 0, 1) := dg_X7_candidate_68.2.2.2.2.1
theorem dX7_candidate_76 : decode cX7_candidate 76 = .ok (.getfield 10, 3) := dg_X7_candidate_68.2.2.2.2.2.1
theorem dX7_candidate_79 : decode cX7_candidate 79 = .ok (.aload_n 0, 1) := dg_X7_candidate_68.2.2.2.2.2.2.1
theorem dX7_candidate_80 : decode cX7_candidate 80 = .ok (.getfield 35, 3) := dg_X7_candidate_68.2.2.2.2.2.2.2.1
theorem dX7_candidate_83 : decode cX7_candidate 83 = .ok (.iload_n 1, 1) := dg_X7_candidate_68.2.2.2.2.2.2.2.2.1
theorem dX7_candidate_84 : decode cX7_candidate 84 = .ok (.invokevirtual 228, 3) := dg_X7_candidate_68.2.2.2.2.2.2.2.2.2.1
theorem dX7_candidate_87 : decode cX7_candidate 87 = .ok (.lload 5, 2) := dg_X7_candidate_68.2.2.2.2.2.2.2.2.2.2.1
theorem dX7_candidate_89 : decode cX7_candidate 89 = .ok (.invokevirtual 160, 3) := dg_X7_candidate_68.2.2.2.2.2.2.2.2.2.2.2.1
theorem dX7_candidate_92 : decode cX7_candidate 92 = .ok (.ifCond .ne 10, 3) := dg_X7_candidate_68.2.2.2.2.2.2.2.2.2.2.2.2.1
theorem dX7_candidate_95 : decode cX7_candidate 95 = .ok (.aload_n 0, 1) := dg_X7_candidate_68.2.2.2.2.2.2.2.2.2.2.2.2.2.1
theorem dX7_candidate_96 : decode cX7_candidate 96 = .ok (.bipush 7, 2) := dg_X7_candidate_68.2.2.2.2.2.2.2.2.2.2.2.2.2.2.1
theorem dX7_candidate_98 : decode cX7_candidate 98 = .ok (.invokevirtual 65, 3) := dg_X7_candidate_68.2.2.2.2.2.2.2.2.2.2.2.2.2.2.2
theorem dg_X7_candidate_101 : (decode cX7_candidate 101 = .ok (.ireturn, 1)) ∧ (decode cX7_candidate 102 = .ok (.aload_n 0, 1)) ∧ (decode cX7_candidate 103 = .ok (.getfield 35, 3)) ∧ (decode cX7_candidate 106 = .ok (.getfield 231, 3)) ∧ (decode cX7_candidate 109 = .ok (.iload_n 1, 1)) ∧ (decode cX7_candidate 110 = .ok (.iaload, 1)) ∧ (decode cX7_candidate 111 = .ok (.bipush 16, 2)) ∧ (decode cX7_candidate 113 = .ok (.if_icmp .lt 10, 3)) ∧ (decode cX7_candidate 116 = .ok (.aload_n 0, 1)) ∧ (decode cX7_candidate 117 = .ok (.bipush 8, 2)) ∧ (decode cX7_candidate 119 = .ok (.invokevirtual 65, 3)) ∧ (decode cX7_candidate 122 = .ok (.ireturn, 1)) ∧ (decode cX7_candidate 123 = .ok (.aload_n 0, 1)) ∧ (decode cX7_candidate 124 = .ok (.getfield 35, 3)) ∧ (decode cX7_candidate 127 = .ok (.iload_n 1, 1)) ∧ (decode cX7_candidate 128 = .ok (.lload 5, 2)) := by decide +kernel
theorem dX7_candidate_101 : decode cX7_candidate 101 = .ok (.ireturn, 1) := dg_X7_candidate_101.1
theorem dX7_candidate_102 : decode cX7_candidate 102 = .ok (.aload_n 0, 1) := dg_X7_candidate_101.2.1
theorem dX7_candidate_103 : decode cX7_candidate 103 = .ok (.getfield 35, 3) := dg_X7_candidate_101.2.2.1
theorem dX7_candidate_106 : decode cX7_candidate 106 = .ok (.getfield 231, 3) := dg_X7_candidate_101.2.2.2.1
theorem dX7_candidate_109 : decode cX7_candidate 109 = .ok (.iload_n 1, 1) := dg_X7_candidate_101.2.2.2.2.1
theorem dX7_candidate_110 : decode cX7_candidate 110 = .ok (.iaload, 1) := dg_X7_candidate_101.2.2.2.2.2.1
theorem dX7_candidate_111 : decode cX7_candidate 111 = .ok (.bipush 16, 2) := dg_X7_candidate_101.2.2.2.2.2.2.1
theorem dX7_candidate_113 : decode cX7_candidate 113 = .ok (.if_icmp .lt 10, 3) := dg_X7_candidate_101.2.2.2.2.2.2.2.1
theorem dX7_candidate_116 : decode cX7_candidate 116 = .ok (.aload_n 0, 1) := dg_X7_candidate_101.2.2.2.2.2.2.2.2.1
theorem dX7_candidate_117 : decode cX7_candidate 117 = .ok (.bipush 8, 2) := dg_X7_candidate_101.2.2.2.2.2.2.2.2.2.1
theorem dX7_candidate_119 : decode cX7_candidate 119 = .ok (.invokevirtual 65, 3) := dg_X7_candidate_101.2.2.2.2.2.2.2.2.2.2.1
theorem dX7_candidate_122 : decode cX7_candidate 122 = .ok (.ireturn, 1) := dg_X7_candidate_101.2.2.2.2.2.2.2.2.2.2.2.1
theorem dX7_candidate_123 : decode cX7_candidate 123 = .ok (.aload_n 0, 1) := dg_X7_candidate_101.2.2.2.2.2.2.2.2.2.2.2.2.1
theorem dX7_candidate_124 : decode cX7_candidate 124 = .ok (.getfield 35, 3) := dg_X7_candidate_101.2.2.2.2.2.2.2.2.2.2.2.2.2.1
theorem dX7_candidate_127 : decode cX7_candidate 127 = .ok (.iload_n 1, 1) := dg_X7_candidate_101.2.2.2.2.2.2.2.2.2.2.2.2.2.2.1
theorem dX7_candidate_128 : decode cX7_candidate 128 = .ok (.lload 5, 2) := dg_X7_candidate_101.2.2.2.2.2.2.2.2.2.2.2.2.2.2.2
theorem dg_X7_candidate_130 : (decode cX7_candidate 130 = .ok (.invokevirtual 234, 3)) ∧ (decode cX7_candidate 133 = .ok (.aload_n 0, 1)) ∧ (decode cX7_candidate 134 = .ok (.aload_n 0, 1)) ∧ (decode cX7_candidate 135 = .ok (.getfield 35, 3)) ∧ (decode cX7_candidate 138 = .ok (.getfield 231, 3)) ∧ (decode cX7_candidate 141 = .ok (.iload_n 1, 1)) ∧ (decode cX7_candidate 142 = .ok (.iaload, 1)) ∧ (decode cX7_candidate 143 = .ok (.invokevirtual 100, 3)) ∧ (decode cX7_candidate 146 = .ok (.ireturn, 1)) := by decide +kernel
theorem dX7_candidate_130 : decode cX7_candidate 130 = .ok (.invokevirtual 234, 3) := dg_X7_candidate_130.1
theorem dX7_candidate_133 : decode cX7_candidate 133 = .ok (.aload_n 0, 1) := dg_X7_candidate_130.2.1
theorem dX7_candidate_134 : decode cX7_candidate 134 = .ok (.aload_n 0, 1) := dg_X7_candidate_130.2.2.1
theorem dX7_candidate_135 : decode cX7_candidate 135 = .ok (.getfield 35, 3) := dg_X7_candidate_130.2.2.2.1
theorem dX7_candidate_138 : decode cX7_candidate 138 = .ok (.getfield 231, 3) := dg_X7_candidate_130.2.2.2.2.1
theorem dX7_candidate_141 : decode cX7_candidate 141 = .ok (.iload_n 1, 1) := dg_X7_candidate_130.2.2.2.2.2.1
theorem dX7_candidate_142 : decode cX7_candidate 142 = .ok (.iaload, 1) := dg_X7_candidate_130.2.2.2.2.2.2.1
theorem dX7_candidate_143 : decode cX7_candidate 143 = .ok (.invokevirtual 100, 3) := dg_X7_candidate_130.2.2.2.2.2.2.2.1
theorem dX7_candidate_146 : decode cX7_candidate 146 = .ok (.ireturn, 1) := dg_X7_candidate_130.2.2.2.2.2.2.2.2
theorem zk_546 : Cond.methodLink RX7 218 yX0_has ∈ zz_w := zz_in (List.mem_append_right _ (List.mem_append_right _ (List.mem_append_right _ (List.mem_append_left _ (List.mem_of_getElem? (i := 66) (by decide +kernel)))))) rfl
theorem zc_X7_218 : zz_cV RX7 218 yX0_has cX0_has 2 (some .boolean) 1 := ⟨⟨zk_546, zk_549, zk_5, by decide, by decide, by decide +kernel⟩, zk_547, zk_548⟩
theorem zk_550 : Cond.methodLink RX7 219 yX0_kindOf ∈ zz_w := zz_in (List.mem_append_right _ (List.mem_append_right _ (List.mem_append_right _ (List.mem_append_left _ (List.mem_of_getElem? (i := 70) (by decide +kernel)))))) rfl
set_option maxRecDepth 20000 in
theorem zk_553 : Cond.code yX0_kindOf cX0_kindOf 2 (some .int) ∈ zz_w := zz_in (List.mem_append_right _ (List.mem_append_right _ (List.mem_append_right _ (List.mem_append_left _ (List.mem_of_getElem? (i := 73) (rfl)))))) rfl
theorem zk_551 : Cond.instanceMethod yX0_kindOf ∈ zz_w := zz_in (List.mem_append_right _ (List.mem_append_right _ (List.mem_append_right _ (List.mem_append_left _ (List.mem_of_getElem? (i := 71) (by decide +kernel)))))) rfl
theorem zk_552 : Cond.selects RX0 yX0_kindOf yX0_kindOf ∈ zz_w := zz_in (List.mem_append_right _ (List.mem_append_right _ (List.mem_append_right _ (List.mem_append_left _ (List.mem_of_getElem? (i := 72) (by decide +kernel)))))) rfl
theorem zc_X7_219 : zz_cV RX7 219 yX0_kindOf cX0_kindOf 2 (some .int) 1 := ⟨⟨zk_550, zk_553, zk_5, by decide, by decide, by decide +kernel⟩, zk_551, zk_552⟩
theorem zk_558 : Cond.methodLink RX7 222 yX1_isNoNumber ∈ zz_w := zz_in (List.mem_append_right _ (List.mem_append_right _ (List.mem_append_right _ (List.mem_append_left _ (List.mem_of_getElem? (i := 78) (by decide +kernel)))))) rfl
theorem zc_X7_222 : zz_cS RX7 222 yX1_isNoNumber cX1_isNoNumber 3 (some .boolean) 2 := ⟨⟨zk_558, zk_382, zk_8, by decide, by decide, by decide +kernel⟩, zk_381⟩
theorem zk_559 : Cond.methodLink RX7 225 yX0_indexOf ∈ zz_w := zz_in (List.mem_append_right _ (List.mem_append_right _ (List.mem_append_right _ (List.mem_append_left _ (List.mem_of_getElem? (i := 79) (by decide +kernel)))))) rfl
theorem zc_X7_225 : zz_cV RX7 225 yX0_indexOf cX0_indexOf 5 (some .int) 2 := ⟨⟨zk_559, zk_562, zk_5, by decide, by decide, by decide +kernel⟩, zk_560, zk_561⟩
theorem zk_567 : Cond.methodLink RX7 228 yX0_arrayOf ∈ zz_w := zz_in (List.mem_append_right _ (List.mem_append_right _ (List.mem_append_right _ (List.mem_append_left _ (List.mem_of_getElem? (i := 87) (by decide +kernel)))))) rfl
theorem zc_X7_228 : zz_cV RX7 228 yX0_arrayOf cX0_arrayOf 2 (some .int) 1 := ⟨⟨zk_567, zk_557, zk_5, by decide, by decide, by decide +kernel⟩, zk_555, zk_556⟩
theorem zk_145 : Cond.fieldLink RX7 231 RX0 "counts" "[I" ∈ zz_w := zz_in (List.mem_append_right _ (List.mem_append_left _ (List.mem_of_getElem? (i := 145) (by decide +kernel)))) rfl
theorem zf_X7_231 : zz_f RX7 231 0 4 := ⟨RX0, TX0, 7, rfl, zi_X0, by decide, zk_145⟩
theorem zk_568 : Cond.methodLink RX7 234 yX0_append ∈ zz_w := zz_in (List.mem_append_right _ (List.mem_append_right _ (List.mem_append_right _ (List.mem_append_left _ (List.mem_of_getElem? (i := 88) (by decide +kernel)))))) rfl
theorem zc_X7_234 : zz_cV RX7 234 yX0_append cX0_append 4 none 2 := ⟨⟨zk_568, zk_571, zk_5, by decide, by decide, by decide +kernel⟩, zk_569, zk_570⟩
def fo_cx_candidate (na : Nat) (nu : Nat) (nd : Nat) (kdf : Nat → Int32) (clf : Nat → Int32) (plf : Nat → Int32) (cof : Nat → Int32) (caf : Nat → Int64) (dpf : Nat → Int32) (saf : Nat → Int32) (lnf : Nat → Int32) (slf : Nat → Int32) (x1 : Int32) (x2 : Int64) : (Int32) × (Nat → Int32) × (Nat → Int64) := (if (fn_co_chas (nI nd) x1) = 0 then (-9, cof, caf) else (if (fn_co_holds (kdf ((plf x1.toNatClampNeg).toNatClampNeg / 1000)) x2) = 0 then (-9, cof, caf) else (if (fn_co_isNoNumber (kdf ((plf x1.toNatClampNeg).toNatClampNeg / 1000)) (fn_co_cleaned (kdf ((plf x1.toNatClampNeg).toNatClampNeg / 1000)) x2)) = 0 then (if (sp_ix caf (fn_co_cleaned (kdf ((plf x1.toNatClampNeg).toNatClampNeg / 1000)) x2) (x1.toNatClampNeg * 16) ((cof x1.toNatClampNeg).toNatClampNeg) 0) < 0 then (if (fn_co_takes clf ((plf x1.toNatClampNeg).toNatClampNeg / 1000) (fn_co_cleaned (kdf ((plf x1.toNatClampNeg).toNatClampNeg / 1000)) x2)) = 0 then (-7, cof, caf) else (if (nI ((cof x1.toNatClampNeg).toNatClampNeg)) < 16 then (((upd cof x1.toNatClampNeg (nI (((cof x1.toNatClampNeg).toNatClampNeg) + 1))) x1.toNatClampNeg), (upd cof x1.toNatClampNeg (nI (((cof x1.toNatClampNeg).toNatClampNeg) + 1))), (vp_updL caf (x1.toNatClampNeg * 16 + ((cof x1.toNatClampNeg).toNatClampNeg)) (fn_co_cleaned (kdf ((plf x1.toNatClampNeg).toNatClampNeg / 1000)) x2))) else (-8, cof, caf))) else (-9, cof, caf)) else (-9, cof, caf))))
abbrev rm_cx_candidate : Room := { frames := 2, cells := 0, slots := 0, locals := 46 }
abbrev po_cx_candidate (g : zz_G) (h0 : Nat) (st : Nat) (mk : Nat) (lk : Nat) (ch : Nat) (ru : Nat) (mr : Nat) (kd : Nat) (dp : Nat) (cl : Nat) (sa : Nat) (ln : Nat) (bt : Nat) (pn : Nat) (bf : Nat) (c_pl : Nat) (c_sl : Nat) (c_co : Nat) (c_ca : Nat) (c_tu : Nat) (md : Int32) (la : Int32) (na : Nat) (nu : Nat) (nd : Nat) (kdf : Nat → Int32) (clf : Nat → Int32) (plf : Nat → Int32) (cof : Nat → Int32) (caf : Nat → Int64) (dpf : Nat → Int32) (saf : Nat → Int32) (lnf : Nat → Int32) (slf : Nat → Int32) (x1 : Int32) (x2 : Int64) (h_S : zz_SI na nu dpf saf lnf) (h_C : zz_CI na nd saf lnf plf slf cof) : Int32 → va_W → Prop := fun (r : Int32) (u : va_W) => ∃ (la2 : Int32) (co2 : Nat → Int32) (ca2 : Nat → Int64), (r, co2, ca2) = fo_cx_candidate na nu nd kdf clf plf cof caf dpf saf lnf slf x1 x2 ∧ (zz_CI na nd saf lnf plf slf co2) ∧ u = [cw_k6 h0 st mk lk ch ru mr md la2, cw_k5 st (nI na) (nI nu) kd dp cl sa ln bt pn bf, cw_k0 ch st (nI nd) c_pl c_sl c_co c_ca c_tu, cw_i g kd 60 kdf, cw_i g cl 60 clf, cw_i g c_pl 24 plf, cw_i g c_co 24 co2, cw_l g c_ca 384 ca2]
set_option maxHeartbeats 4000000 in
set_option maxRecDepth 100000 in
theorem cx_candidate (g : zz_G) (h0 : Nat) (st : Nat) (mk : Nat) (lk : Nat) (ch : Nat) (ru : Nat) (mr : Nat) (kd : Nat) (dp : Nat) (cl : Nat) (sa : Nat) (ln : Nat) (bt : Nat) (pn : Nat) (bf : Nat) (c_pl : Nat) (c_sl : Nat) (c_co : Nat) (c_ca : Nat) (c_tu : Nat) (md : Int32) (la : Int32) (na : Nat) (nu : Nat) (nd : Nat) (kdf : Nat → Int32) (clf : Nat → Int32) (plf : Nat → Int32) (cof : Nat → Int32) (caf : Nat → Int64) (dpf : Nat → Int32) (saf : Nat → Int32) (lnf : Nat → Int32) (slf : Nat → Int32) (x1 : Int32) (x2 : Int64) (h_S : zz_SI na nu dpf saf lnf) (h_C : zz_CI na nd saf lnf plf slf cof) : zz_I g yX7_candidate (.code yX7_candidate cX7_candidate 7 (some .int)) rm_cx_candidate [.ref h0, .int x1, .long x2] [cw_k6 h0 st mk lk ch ru mr md la, cw_k5 st (nI na) (nI nu) kd dp cl sa ln bt pn bf, cw_k0 ch st (nI nd) c_pl c_sl c_co c_ca c_tu, cw_i g kd 60 kdf, cw_i g cl 60 clf, cw_i g c_pl 24 plf, cw_i g c_co 24 cof, cw_l g c_ca 384 caf] (po_cx_candidate g h0 st mk lk ch ru mr kd dp cl sa ln bt pn bf c_pl c_sl c_co c_ca c_tu md la na nu nd kdf clf plf cof caf dpf saf lnf slf x1 x2 h_S h_C) := by
  refine zz_I.intro (own := RX7) (cc := cX7_candidate) (nL := 7) (by decide) rfl (Nat.le_of_ble_eq_true rfl) ?_
  intro p l e s m args below meth c A H locs ls hC hnm hs hZ hl
  obtain ⟨hx, hb, hml, hown, hts, hr, hlocks, hK⟩ := id hC
  have hl : lv_has ls 7 [(0, .ref h0), (1, .int x1), (2, .long x2)] := hl
  have hZ : zz_Z g A s.heap [cw_k6 h0 st mk lk ch ru mr md la, cw_k5 st (nI na) (nI nu) kd dp cl sa ln bt pn bf, cw_k0 ch st (nI nd) c_pl c_sl c_co c_ca c_tu, cw_i g kd 60 kdf, cw_i g cl 60 clf, cw_i g c_pl 24 plf, cw_i g c_co 24 cof, cw_l g c_ca 384 caf] H locs := hZ
  have hna := h_S.1
  have hnu := h_S.2.1
  have hd24 := h_C.1
  refine lv_aload_n hx hb dX7_candidate_0 rfl (lv_at hl 0 rfl) ?_
  refine zz_get hC hZ 0 rfl zf_X7_35 rfl dX7_candidate_1 ?_
  refine lv_iload_n hx hb dX7_candidate_4 rfl (lv_at hl 1 rfl) ?_
  refine zz_iV (As := [.int x1]) (wc := [cw_k0 ch st (nI nd) c_pl c_sl c_co c_ca c_tu]) (wr := [cw_k6 h0 st mk lk ch ru mr md la, cw_k5 st (nI na) (nI nu) kd dp cl sa ln bt pn bf, cw_i g kd 60 kdf, cw_i g cl 60 clf, cw_i g c_pl 24 plf, cw_i g c_co 24 cof, cw_l g c_ca 384 caf]) (rest := []) hC hZ hs hl zc_X7_218 (co_chas g ch st c_pl c_sl c_co c_ca c_tu (nI nd) x1) [2] [0, 1, 3, 4, 5, 6, 7] rfl rfl (by decide +kernel) (ci := 0) (q0 := 0) rfl rfl rfl rfl (Nat.le_of_ble_eq_true rfl) ⟨⟨Nat.le_of_ble_eq_true rfl, Nat.le_of_ble_eq_true rfl⟩, Nat.le_of_ble_eq_true rfl, Nat.le_of_ble_eq_true rfl⟩ dX7_candidate_5 (fun r1 u2 H locs hp hZ => ?_)
  obtain ⟨rfl, rfl⟩ := hp
  have hZ : zz_Z g A s.heap [cw_k6 h0 st mk lk ch ru mr md la, cw_k5 st (nI na) (nI nu) kd dp cl sa ln bt pn bf, cw_i g kd 60 kdf, cw_i g cl 60 clf, cw_i g c_pl 24 plf, cw_i g c_co 24 cof, cw_l g c_ca 384 caf, cw_k0 ch st (nI nd) c_pl c_sl c_co c_ca c_tu] H locs := hZ
  refine lv_if_ne (tgt := 18) hx hb dX7_candidate_8 (by decide) (fun c3 => ?_) (fun c3 => ?_)
  · obtain ⟨d, hd, ed⟩ := zl_chas (by omega) c3
    have hl : lv_has ls 7 [(0, .ref h0), (1, .int (nI d)), (2, .long x2)] := by rw [← ed]; exact hl
    have bd4 : d < 2 ^ 31 := by omega
    have d_d : x1.toNatClampNeg = d := by rw [ed]; exact nI_clamp bd4
    obtain ⟨b, q, sz, lz, n, e_p, hbn, hb6, e_s, e_l, hb1, hb2, hq, e_z, e_c, hn⟩ := h_C.2 d hd
    have d_b : (plf d).toNatClampNeg / 1000 = b := by rw [e_p, nI_clamp (by omega)]; omega
    have d_q : (plf d).toNatClampNeg % 1000 = q := by rw [e_p, nI_clamp (by omega)]; omega
    have d_sz : (saf b).toNatClampNeg = sz := by rw [e_s]; exact nI_clamp (by omega)
    have d_lz : (lnf b).toNatClampNeg = lz := by rw [e_l]; exact nI_clamp (by omega)
    have d_n : (cof d).toNatClampNeg = n := by rw [e_c]; exact nI_clamp (by omega)
    refine lv_aload_n hx hb dX7_candidate_18 rfl (lv_at hl 0 rfl) ?_
    refine zz_get hC hZ 0 rfl zf_X7_35 rfl dX7_candidate_19 ?_
    refine lv_iload_n hx hb dX7_candidate_22 rfl (lv_at hl 1 rfl) ?_
    refine zz_iV (As := [.int (nI d)]) (wc := [cw_k0 ch st (nI nd) c_pl c_sl c_co c_ca c_tu, cw_i g c_pl 24 plf, cw_k5 st (nI na) (nI nu) kd dp cl sa ln bt pn bf, cw_i g kd 60 kdf]) (wr := [cw_k6 h0 st mk lk ch ru mr md la, cw_i g cl 60 clf, cw_i g c_co 24 cof, cw_l g c_ca 384 caf]) (rest := []) hC hZ hs hl zc_X7_219 (co_kindOf g ch st c_pl c_sl c_co c_ca c_tu kd dp cl sa ln bt pn bf nd na nu plf kdf d b q (by omega) (e_p)) [7, 4, 1, 2] [0, 3, 5, 6] rfl rfl (by decide +kernel) (ci := 0) (q0 := 0) rfl rfl rfl rfl (Nat.le_of_ble_eq_true rfl) ⟨⟨Nat.le_of_ble_eq_true rfl, Nat.le_of_ble_eq_true rfl⟩, Nat.le_of_ble_eq_true rfl, Nat.le_of_ble_eq_true rfl⟩ dX7_candidate_23 (fun r5 u6 H locs hp hZ => ?_)
    obtain ⟨rfl, rfl⟩ := hp
    have hZ : zz_Z g A s.heap [cw_k6 h0 st mk lk ch ru mr md la, cw_i g cl 60 clf, cw_i g c_co 24 cof, cw_l g c_ca 384 caf, cw_k0 ch st (nI nd) c_pl c_sl c_co c_ca c_tu, cw_i g c_pl 24 plf, cw_k5 st (nI na) (nI nu) kd dp cl sa ln bt pn bf, cw_i g kd 60 kdf] H locs := hZ
    refine lv_istore (lv' := [(4, .int (kdf b)), (0, .ref h0), (1, .int (nI d)), (2, .long x2)]) hx hb dX7_candidate_26 hl (by decide) rfl (fun ls hl => ?_)
    refine lv_iload hx hb dX7_candidate_28 (lv_at hl 0 rfl) ?_
    refine lv_lload_n hx hb dX7_candidate_30 rfl (lv_at hl 3 rfl) ?_
    refine zz_lS (As := [.int (kdf b), .long x2]) (wc := []) (wr := [cw_k6 h0 st mk lk ch ru mr md la, cw_i g cl 60 clf, cw_i g c_co 24 cof, cw_l g c_ca 384 caf, cw_k0 ch st (nI nd) c_pl c_sl c_co c_ca c_tu, cw_i g c_pl 24 plf, cw_k5 st (nI na) (nI nu) kd dp cl sa ln bt pn bf, cw_i g kd 60 kdf]) (rest := []) hC hZ hs hl zc_X7_156 (co_cleaned g (kdf b) x2) [] [0, 1, 2, 3, 4, 5, 6, 7] rfl rfl (by decide +kernel) rfl rfl (Nat.le_of_ble_eq_true rfl) ⟨⟨Nat.le_of_ble_eq_true rfl, Nat.le_of_ble_eq_true rfl⟩, Nat.le_of_ble_eq_true rfl, Nat.le_of_ble_eq_true rfl⟩ dX7_candidate_31 (fun r7 u8 H locs hp hZ => ?_)
    obtain ⟨rfl, rfl⟩ := hp
    have hZ : zz_Z g A s.heap [cw_k6 h0 st mk lk ch ru mr md la, cw_i g cl 60 clf, cw_i g c_co 24 cof, cw_l g c_ca 384 caf, cw_k0 ch st (nI nd) c_pl c_sl c_co c_ca c_tu, cw_i g c_pl 24 plf, cw_k5 st (nI na) (nI nu) kd dp cl sa ln bt pn bf, cw_i g kd 60 kdf] H locs := hZ
    refine lv_lstore (lv' := [(5, .long (fn_co_cleaned (kdf b) x2)), (4, .int (kdf b)), (0, .ref h0), (1, .int (nI d)), (2, .long x2)]) hx hb dX7_candidate_34 hl (by decide) rfl (fun ls hl => ?_)
    refine lv_iload hx hb dX7_candidate_36 (lv_at hl 1 rfl) ?_
    refine lv_lload_n hx hb dX7_candidate_38 rfl (lv_at hl 4 rfl) ?_
    refine zz_iS (As := [.int (kdf b), .long x2]) (wc := []) (wr := [cw_k6 h0 st mk lk ch ru mr md la, cw_i g cl 60 clf, cw_i g c_co 24 cof, cw_l g c_ca 384 caf, cw_k0 ch st (nI nd) c_pl c_sl c_co c_ca c_tu, cw_i g c_pl 24 plf, cw_k5 st (nI na) (nI nu) kd dp cl sa ln bt pn bf, cw_i g kd 60 kdf]) (rest := []) hC hZ hs hl zc_X7_148 (co_holds g (kdf b) x2) [] [0, 1, 2, 3, 4, 5, 6, 7] rfl rfl (by decide +kernel) rfl rfl (Nat.le_of_ble_eq_true rfl) ⟨⟨Nat.le_of_ble_eq_true rfl, Nat.le_of_ble_eq_true rfl⟩, Nat.le_of_ble_eq_true rfl, Nat.le_of_ble_eq_true rfl⟩ dX7_candidate_39 (fun r9 u10 H locs hp hZ => ?_)
    obtain ⟨rfl, rfl⟩ := hp
    have hZ : zz_Z g A s.heap [cw_k6 h0 st mk lk ch ru mr md la, cw_i g cl 60 clf, cw_i g c_co 24 cof, cw_l g c_ca 384 caf, cw_k0 ch st (nI nd) c_pl c_sl c_co c_ca c_tu, cw_i g c_pl 24 plf, cw_k5 st (nI na) (nI nu) kd dp cl sa ln bt pn bf, cw_i g kd 60 kdf] H locs := hZ
    refine lv_if_eq (tgt := 68) hx hb dX7_candidate_42 (by decide) (fun c11 => ?_) (fun c11 => ?_)
    · refine lv_aload_n hx hb dX7_candidate_68 rfl (lv_at hl 2 rfl) ?_
      refine lv_bipush (v := 9) hx hb dX7_candidate_69 (by decide) ?_
      refine zz_iV (As := [.int 9]) (wc := [cw_k6 h0 st mk lk ch ru mr md la]) (wr := [cw_i g cl 60 clf, cw_i g c_co 24 cof, cw_l g c_ca 384 caf, cw_k0 ch st (nI nd) c_pl c_sl c_co c_ca c_tu, cw_i g c_pl 24 plf, cw_k5 st (nI na) (nI nu) kd dp cl sa ln bt pn bf, cw_i g kd 60 kdf]) (rest := []) hC hZ hs hl zc_X7_65 (co_fail g h0 st mk lk ch ru mr md la 9) [0] [1, 2, 3, 4, 5, 6, 7] rfl rfl (by decide +kernel) (ci := 6) (q0 := 0) rfl rfl rfl rfl (Nat.le_of_ble_eq_true rfl) ⟨⟨Nat.le_of_ble_eq_true rfl, Nat.le_of_ble_eq_true rfl⟩, Nat.le_of_ble_eq_true rfl, Nat.le_of_ble_eq_true rfl⟩ dX7_candidate_71 (fun r12 u13 H locs hp hZ => ?_)
      obtain ⟨rfl, rfl⟩ := hp
      have hZ : zz_Z g A s.heap [cw_i g cl 60 clf, cw_i g c_co 24 cof, cw_l g c_ca 384 caf, cw_k0 ch st (nI nd) c_pl c_sl c_co c_ca c_tu, cw_i g c_pl 24 plf, cw_k5 st (nI na) (nI nu) kd dp cl sa ln bt pn bf, cw_i g kd 60 kdf, cw_k6 h0 st mk lk ch ru mr md 9] H locs := hZ
      have hZ : zz_Z g A s.heap [cw_k6 h0 st mk lk ch ru mr md 9, cw_k5 st (nI na) (nI nu) kd dp cl sa ln bt pn bf, cw_k0 ch st (nI nd) c_pl c_sl c_co c_ca c_tu, cw_i g kd 60 kdf, cw_i g cl 60 clf, cw_i g c_pl 24 plf, cw_i g c_co 24 cof, cw_l g c_ca 384 caf] H locs := hZ.sub [7, 5, 3, 6, 0, 4, 1, 2] (by decide +kernel) rfl
      exact zz_iret hC hZ (⟨9, cof, caf, by refine Eq.symm ?_; rw [fo_cx_candidate]; refine (if_neg (by (try simp only [d_d, d_b, d_q, d_sz, d_lz, d_n]); exact c3)).trans ?_; refine (if_pos (by (try simp only [d_d, d_b, d_q, d_sz, d_lz, d_n]); exact c11)).trans ?_; first | (simp only [d_d, d_b, d_q, d_sz, d_lz, d_n]; done) | rfl, h_C, rfl⟩) (Nat.le_of_ble_eq_true rfl) (Nat.le_of_ble_eq_true rfl) dX7_candidate_74
    · refine lv_iload hx hb dX7_candidate_45 (lv_at hl 1 rfl) ?_
      refine lv_lload hx hb dX7_candidate_47 (lv_at hl 0 rfl) ?_
      refine zz_iS (As := [.int (kdf b), .long (fn_co_cleaned (kdf b) x2)]) (wc := []) (wr := [cw_k6 h0 st mk lk ch ru mr md la, cw_i g cl 60 clf, cw_i g c_co 24 cof, cw_l g c_ca 384 caf, cw_k0 ch st (nI nd) c_pl c_sl c_co c_ca c_tu, cw_i g c_pl 24 plf, cw_k5 st (nI na) (nI nu) kd dp cl sa ln bt pn bf, cw_i g kd 60 kdf]) (rest := []) hC hZ hs hl zc_X7_222 (co_isNoNumber g (kdf b) (fn_co_cleaned (kdf b) x2)) [] [0, 1, 2, 3, 4, 5, 6, 7] rfl rfl (by decide +kernel) rfl rfl (Nat.le_of_ble_eq_true rfl) ⟨⟨Nat.le_of_ble_eq_true rfl, Nat.le_of_ble_eq_true rfl⟩, Nat.le_of_ble_eq_true rfl, Nat.le_of_ble_eq_true rfl⟩ dX7_candidate_49 (fun r14 u15 H locs hp hZ => ?_)
      obtain ⟨rfl, rfl⟩ := hp
      have hZ : zz_Z g A s.heap [cw_k6 h0 st mk lk ch ru mr md la, cw_i g cl 60 clf, cw_i g c_co 24 cof, cw_l g c_ca 384 caf, cw_k0 ch st (nI nd) c_pl c_sl c_co c_ca c_tu, cw_i g c_pl 24 plf, cw_k5 st (nI na) (nI nu) kd dp cl sa ln bt pn bf, cw_i g kd 60 kdf] H locs := hZ
      refine lv_if_ne (tgt := 68) hx hb dX7_candidate_52 (by decide) (fun c16 => ?_) (fun c16 => ?_)
      · refine lv_aload_n hx hb dX7_candidate_68 rfl (lv_at hl 2 rfl) ?_
        refine lv_bipush (v := 9) hx hb dX7_candidate_69 (by decide) ?_
        refine zz_iV (As := [.int 9]) (wc := [cw_k6 h0 st mk lk ch ru mr md la]) (wr := [cw_i g cl 60 clf, cw_i g c_co 24 cof, cw_l g c_ca 384 caf, cw_k0 ch st (nI nd) c_pl c_sl c_co c_ca c_tu, cw_i g c_pl 24 plf, cw_k5 st (nI na) (nI nu) kd dp cl sa ln bt pn bf, cw_i g kd 60 kdf]) (rest := []) hC hZ hs hl zc_X7_65 (co_fail g h0 st mk lk ch ru mr md la 9) [0] [1, 2, 3, 4, 5, 6, 7] rfl rfl (by decide +kernel) (ci := 6) (q0 := 0) rfl rfl rfl rfl (Nat.le_of_ble_eq_true rfl) ⟨⟨Nat.le_of_ble_eq_true rfl, Nat.le_of_ble_eq_true rfl⟩, Nat.le_of_ble_eq_true rfl, Nat.le_of_ble_eq_true rfl⟩ dX7_candidate_71 (fun r17 u18 H locs hp hZ => ?_)
        obtain ⟨rfl, rfl⟩ := hp
        have hZ : zz_Z g A s.heap [cw_i g cl 60 clf, cw_i g c_co 24 cof, cw_l g c_ca 384 caf, cw_k0 ch st (nI nd) c_pl c_sl c_co c_ca c_tu, cw_i g c_pl 24 plf, cw_k5 st (nI na) (nI nu) kd dp cl sa ln bt pn bf, cw_i g kd 60 kdf, cw_k6 h0 st mk lk ch ru mr md 9] H locs := hZ
        have hZ : zz_Z g A s.heap [cw_k6 h0 st mk lk ch ru mr md 9, cw_k5 st (nI na) (nI nu) kd dp cl sa ln bt pn bf, cw_k0 ch st (nI nd) c_pl c_sl c_co c_ca c_tu, cw_i g kd 60 kdf, cw_i g cl 60 clf, cw_i g c_pl 24 plf, cw_i g c_co 24 cof, cw_l g c_ca 384 caf] H locs := hZ.sub [7, 5, 3, 6, 0, 4, 1, 2] (by decide +kernel) rfl
        exact zz_iret hC hZ (⟨9, cof, caf, by refine Eq.symm ?_; rw [fo_cx_candidate]; refine (if_neg (by (try simp only [d_d, d_b, d_q, d_sz, d_lz, d_n]); exact c3)).trans ?_; refine (if_neg (by (try simp only [d_d, d_b, d_q, d_sz, d_lz, d_n]); exact c11)).trans ?_; refine (if_neg (by (try simp only [d_d, d_b, d_q, d_sz, d_lz, d_n]); exact c16)).trans ?_; first | (simp only [d_d, d_b, d_q, d_sz, d_lz, d_n]; done) | rfl, h_C, rfl⟩) (Nat.le_of_ble_eq_true rfl) (Nat.le_of_ble_eq_true rfl) dX7_candidate_74
      · refine lv_aload_n hx hb dX7_candidate_55 rfl (lv_at hl 2 rfl) ?_
        refine zz_get hC hZ 0 rfl zf_X7_35 rfl dX7_candidate_56 ?_
        refine lv_iload_n hx hb dX7_candidate_59 rfl (lv_at hl 3 rfl) ?_
        refine lv_lload hx hb dX7_candidate_60 (lv_at hl 0 rfl) ?_
        refine zz_iV (As := [.int (nI d), .long (fn_co_cleaned (kdf b) x2)]) (wc := [cw_k0 ch st (nI nd) c_pl c_sl c_co c_ca c_tu, cw_i g c_co 24 cof, cw_l g c_ca 384 caf]) (wr := [cw_k6 h0 st mk lk ch ru mr md la, cw_i g cl 60 clf, cw_i g c_pl 24 plf, cw_k5 st (nI na) (nI nu) kd dp cl sa ln bt pn bf, cw_i g kd 60 kdf]) (rest := []) hC hZ hs hl zc_X7_225 (co_indexOf g ch st c_pl c_sl c_co c_ca c_tu nd cof caf d n (fn_co_cleaned (kdf b) x2) (by omega) (e_c)) [4, 2, 3] [0, 1, 5, 6, 7] rfl rfl (by decide +kernel) (ci := 0) (q0 := 0) rfl rfl rfl rfl (Nat.le_of_ble_eq_true rfl) ⟨⟨Nat.le_of_ble_eq_true rfl, Nat.le_of_ble_eq_true rfl⟩, Nat.le_of_ble_eq_true rfl, Nat.le_of_ble_eq_true rfl⟩ dX7_candidate_62 (fun r19 u20 H locs hp hZ => ?_)
        obtain ⟨f21, rfl⟩ := hp
        have hZ : zz_Z g A s.heap [cw_k6 h0 st mk lk ch ru mr md la, cw_i g cl 60 clf, cw_i g c_pl 24 plf, cw_k5 st (nI na) (nI nu) kd dp cl sa ln bt pn bf, cw_i g kd 60 kdf, cw_k0 ch st (nI nd) c_pl c_sl c_co c_ca c_tu, cw_i g c_co 24 cof, cw_l g c_ca 384 caf] H locs := hZ
        have d_r19 : sp_ix caf (fn_co_cleaned (kdf b) x2) (d * 16) n 0 = r19 := f21.symm
        refine lv_if_lt (tgt := 75) hx hb dX7_candidate_65 (by decide) (fun c22 => ?_) (fun c22 => ?_)
        · refine lv_aload_n hx hb dX7_candidate_75 rfl (lv_at hl 2 rfl) ?_
          refine zz_get hC hZ 0 rfl zf_X7_10 rfl dX7_candidate_76 ?_
          refine lv_aload_n hx hb dX7_candidate_79 rfl (lv_at hl 2 rfl) ?_
          refine zz_get hC hZ 0 rfl zf_X7_35 rfl dX7_candidate_80 ?_
          refine lv_iload_n hx hb dX7_candidate_83 rfl (lv_at hl 3 rfl) ?_
          refine zz_iV (As := [.int (nI d)]) (wc := [cw_k0 ch st (nI nd) c_pl c_sl c_co c_ca c_tu, cw_i g c_pl 24 plf]) (wr := [cw_k6 h0 st mk lk ch ru mr md la, cw_i g cl 60 clf, cw_k5 st (nI na) (nI nu) kd dp cl sa ln bt pn bf, cw_i g kd 60 kdf, cw_i g c_co 24 cof, cw_l g c_ca 384 caf]) (rest := [.ref st]) hC hZ hs hl zc_X7_228 (co_arrayOf g ch st c_pl c_sl c_co c_ca c_tu nd plf d b q (by omega) (e_p)) [5, 2] [0, 1, 3, 4, 6, 7] rfl rfl (by decide +kernel) (ci := 0) (q0 := 0) rfl rfl rfl rfl (Nat.le_of_ble_eq_true rfl) ⟨⟨Nat.le_of_ble_eq_true rfl, Nat.le_of_ble_eq_true rfl⟩, Nat.le_of_ble_eq_true rfl, Nat.le_of_ble_eq_true rfl⟩ dX7_candidate_84 (fun r23 u24 H locs hp hZ => ?_)
          obtain ⟨rfl, rfl⟩ := hp
          have hZ : zz_Z g A s.heap [cw_k6 h0 st mk lk ch ru mr md la, cw_i g cl 60 clf, cw_k5 st (nI na) (nI nu) kd dp cl sa ln bt pn bf, cw_i g kd 60 kdf, cw_i g c_co 24 cof, cw_l g c_ca 384 caf, cw_k0 ch st (nI nd) c_pl c_sl c_co c_ca c_tu, cw_i g c_pl 24 plf] H locs := hZ
          refine lv_lload hx hb dX7_candidate_87 (lv_at hl 0 rfl) ?_
          refine zz_iV (As := [.int (nI b), .long (fn_co_cleaned (kdf b) x2)]) (wc := [cw_k5 st (nI na) (nI nu) kd dp cl sa ln bt pn bf, cw_i g cl 60 clf]) (wr := [cw_k6 h0 st mk lk ch ru mr md la, cw_i g kd 60 kdf, cw_i g c_co 24 cof, cw_l g c_ca 384 caf, cw_k0 ch st (nI nd) c_pl c_sl c_co c_ca c_tu, cw_i g c_pl 24 plf]) (rest := []) hC hZ hs hl zc_X7_160 (co_takes g st kd dp cl sa ln bt pn bf na nu clf b (fn_co_cleaned (kdf b) x2) (by omega)) [2, 1] [0, 3, 4, 5, 6, 7] rfl rfl (by decide +kernel) (ci := 5) (q0 := 0) rfl rfl rfl rfl (Nat.le_of_ble_eq_true rfl) ⟨⟨Nat.le_of_ble_eq_true rfl, Nat.le_of_ble_eq_true rfl⟩, Nat.le_of_ble_eq_true rfl, Nat.le_of_ble_eq_true rfl⟩ dX7_candidate_89 (fun r25 u26 H locs hp hZ => ?_)
          obtain ⟨rfl, rfl⟩ := hp
          have hZ : zz_Z g A s.heap [cw_k6 h0 st mk lk ch ru mr md la, cw_i g kd 60 kdf, cw_i g c_co 24 cof, cw_l g c_ca 384 caf, cw_k0 ch st (nI nd) c_pl c_sl c_co c_ca c_tu, cw_i g c_pl 24 plf, cw_k5 st (nI na) (nI nu) kd dp cl sa ln bt pn bf, cw_i g cl 60 clf] H locs := hZ
          refine lv_if_ne (tgt := 102) hx hb dX7_candidate_92 (by decide) (fun c27 => ?_) (fun c27 => ?_)
          · refine lv_aload_n hx hb dX7_candidate_102 rfl (lv_at hl 2 rfl) ?_
            refine zz_get hC hZ 0 rfl zf_X7_35 rfl dX7_candidate_103 ?_
            refine zz_get hC hZ 4 rfl zf_X7_231 rfl dX7_candidate_106 ?_
            refine lv_iload_n hx hb dX7_candidate_109 rfl (lv_at hl 3 rfl) ?_
            have bd28 : d < 24 := by omega
            refine zz_ialdn hC hZ 2 rfl bd28 (by decide) dX7_candidate_110 ?_
            refine zz_topi (v := nI n) (e_c) ?_
            refine lv_bipush (v := 16) hx hb dX7_candidate_111 (by decide) ?_
            have bd30 : n < 2 ^ 31 := by omega
            refine lv_icmp_lt (tgt := 123) hx hb dX7_candidate_113 (by decide) (fun c29 => ?_) (fun c29 => ?_)
            · have nc29 : n < 16 := (nI_ltI bd30 (by decide)).mp (show nI (n) < nI (16) from c29)
              refine lv_aload_n hx hb dX7_candidate_123 rfl (lv_at hl 2 rfl) ?_
              refine zz_get hC hZ 0 rfl zf_X7_35 rfl dX7_candidate_124 ?_
              refine lv_iload_n hx hb dX7_candidate_127 rfl (lv_at hl 3 rfl) ?_
              refine lv_lload hx hb dX7_candidate_128 (lv_at hl 0 rfl) ?_
              refine zz_vV (As := [.int (nI d), .long (fn_co_cleaned (kdf b) x2)]) (wc := [cw_k0 ch st (nI nd) c_pl c_sl c_co c_ca c_tu, cw_i g c_co 24 cof, cw_l g c_ca 384 caf]) (wr := [cw_k6 h0 st mk lk ch ru mr md la, cw_i g kd 60 kdf, cw_i g c_pl 24 plf, cw_k5 st (nI na) (nI nu) kd dp cl sa ln bt pn bf, cw_i g cl 60 clf]) (rest := []) hC hZ hs hl zc_X7_234 (co_append g ch st c_pl c_sl c_co c_ca c_tu nd cof caf d n (fn_co_cleaned (kdf b) x2) (by omega) (e_c)) [4, 2, 3] [0, 1, 5, 6, 7] rfl rfl (by decide +kernel) (ci := 0) (q0 := 0) rfl rfl rfl rfl (Nat.le_of_ble_eq_true rfl) ⟨⟨Nat.le_of_ble_eq_true rfl, Nat.le_of_ble_eq_true rfl⟩, Nat.le_of_ble_eq_true rfl, Nat.le_of_ble_eq_true rfl⟩ dX7_candidate_130 (fun u32 H locs hp hZ => ?_)
              obtain rfl := hp
              have hZ : zz_Z g A s.heap [cw_k6 h0 st mk lk ch ru mr md la, cw_i g kd 60 kdf, cw_i g c_pl 24 plf, cw_k5 st (nI na) (nI nu) kd dp cl sa ln bt pn bf, cw_i g cl 60 clf, cw_k0 ch st (nI nd) c_pl c_sl c_co c_ca c_tu, cw_i g c_co 24 (upd cof d (nI (n + 1))), cw_l g c_ca 384 (vp_updL caf (d * 16 + n) (fn_co_cleaned (kdf b) x2))] H locs := hZ
              refine lv_aload_n hx hb dX7_candidate_133 rfl (lv_at hl 2 rfl) ?_
              refine lv_aload_n hx hb dX7_candidate_134 rfl (lv_at hl 2 rfl) ?_
              refine zz_get hC hZ 0 rfl zf_X7_35 rfl dX7_candidate_135 ?_
              refine zz_get hC hZ 5 rfl zf_X7_231 rfl dX7_candidate_138 ?_
              refine lv_iload_n hx hb dX7_candidate_141 rfl (lv_at hl 3 rfl) ?_
              refine zz_ialdn hC hZ 6 rfl bd28 (by decide) dX7_candidate_142 ?_
              refine zz_iV (As := [.int ((upd cof d (nI (n + 1))) d)]) (wc := [cw_k6 h0 st mk lk ch ru mr md la]) (wr := [cw_i g kd 60 kdf, cw_i g c_pl 24 plf, cw_k5 st (nI na) (nI nu) kd dp cl sa ln bt pn bf, cw_i g cl 60 clf, cw_k0 ch st (nI nd) c_pl c_sl c_co c_ca c_tu, cw_i g c_co 24 (upd cof d (nI (n + 1))), cw_l g c_ca 384 (vp_updL caf (d * 16 + n) (fn_co_cleaned (kdf b) x2))]) (rest := []) hC hZ hs hl zc_X7_100 (co_fine g h0 st mk lk ch ru mr md la ((upd cof d (nI (n + 1))) d)) [0] [1, 2, 3, 4, 5, 6, 7] rfl rfl (by decide +kernel) (ci := 6) (q0 := 0) rfl rfl rfl rfl (Nat.le_of_ble_eq_true rfl) ⟨⟨Nat.le_of_ble_eq_true rfl, Nat.le_of_ble_eq_true rfl⟩, Nat.le_of_ble_eq_true rfl, Nat.le_of_ble_eq_true rfl⟩ dX7_candidate_143 (fun r33 u34 H locs hp hZ => ?_)
              obtain ⟨rfl, rfl⟩ := hp
              have hZ : zz_Z g A s.heap [cw_i g kd 60 kdf, cw_i g c_pl 24 plf, cw_k5 st (nI na) (nI nu) kd dp cl sa ln bt pn bf, cw_i g cl 60 clf, cw_k0 ch st (nI nd) c_pl c_sl c_co c_ca c_tu, cw_i g c_co 24 (upd cof d (nI (n + 1))), cw_l g c_ca 384 (vp_updL caf (d * 16 + n) (fn_co_cleaned (kdf b) x2)), cw_k6 h0 st mk lk ch ru mr md 0] H locs := hZ
              have hZ : zz_Z g A s.heap [cw_k6 h0 st mk lk ch ru mr md 0, cw_k5 st (nI na) (nI nu) kd dp cl sa ln bt pn bf, cw_k0 ch st (nI nd) c_pl c_sl c_co c_ca c_tu, cw_i g kd 60 kdf, cw_i g cl 60 clf, cw_i g c_pl 24 plf, cw_i g c_co 24 (upd cof d (nI (n + 1))), cw_l g c_ca 384 (vp_updL caf (d * 16 + n) (fn_co_cleaned (kdf b) x2))] H locs := hZ.sub [7, 2, 4, 0, 3, 1, 5, 6] (by decide +kernel) rfl
              exact zz_iret hC hZ (⟨0, (upd cof d (nI (n + 1))), (vp_updL caf (d * 16 + n) (fn_co_cleaned (kdf b) x2)), by refine Eq.symm ?_; rw [fo_cx_candidate]; refine (if_neg (by (try simp only [d_d, d_b, d_q, d_sz, d_lz, d_n, d_r19]); exact c3)).trans ?_; refine (if_neg (by (try simp only [d_d, d_b, d_q, d_sz, d_lz, d_n, d_r19]); exact c11)).trans ?_; refine (if_pos (by (try simp only [d_d, d_b, d_q, d_sz, d_lz, d_n, d_r19]); exact c16)).trans ?_; refine (if_pos (by (try simp only [d_d, d_b, d_q, d_sz, d_lz, d_n, d_r19]); exact c22)).trans ?_; refine (if_neg (by (try simp only [d_d, d_b, d_q, d_sz, d_lz, d_n, d_r19]); exact c27)).trans ?_; refine (if_pos (by (try simp only [d_d, d_b, d_q, d_sz, d_lz, d_n, d_r19]); exact c29)).trans ?_; first | (simp only [d_d, d_b, d_q, d_sz, d_lz, d_n, d_r19]; done) | rfl, zl_CIs h_C pk_us (by omega) (fun j hj => pk_un hj), rfl⟩) (Nat.le_of_ble_eq_true rfl) (Nat.le_of_ble_eq_true rfl) dX7_candidate_146
            · have nc29 : ¬ n < 16 := fun zq => c29 (show nI (n) < nI (16) from (nI_ltI bd30 (by decide)).mpr zq)
              refine lv_aload_n hx hb dX7_candidate_116 rfl (lv_at hl 2 rfl) ?_
              refine lv_bipush (v := 8) hx hb dX7_candidate_117 (by decide) ?_
              refine zz_iV (As := [.int 8]) (wc := [cw_k6 h0 st mk lk ch ru mr md la]) (wr := [cw_i g kd 60 kdf, cw_i g c_co 24 cof, cw_l g c_ca 384 caf, cw_k0 ch st (nI nd) c_pl c_sl c_co c_ca c_tu, cw_i g c_pl 24 plf, cw_k5 st (nI na) (nI nu) kd dp cl sa ln bt pn bf, cw_i g cl 60 clf]) (rest := []) hC hZ hs hl zc_X7_65 (co_fail g h0 st mk lk ch ru mr md la 8) [0] [1, 2, 3, 4, 5, 6, 7] rfl rfl (by decide +kernel) (ci := 6) (q0 := 0) rfl rfl rfl rfl (Nat.le_of_ble_eq_true rfl) ⟨⟨Nat.le_of_ble_eq_true rfl, Nat.le_of_ble_eq_true rfl⟩, Nat.le_of_ble_eq_true rfl, Nat.le_of_ble_eq_true rfl⟩ dX7_candidate_119 (fun r35 u36 H locs hp hZ => ?_)
              obtain ⟨rfl, rfl⟩ := hp
              have hZ : zz_Z g A s.heap [cw_i g kd 60 kdf, cw_i g c_co 24 cof, cw_l g c_ca 384 caf, cw_k0 ch st (nI nd) c_pl c_sl c_co c_ca c_tu, cw_i g c_pl 24 plf, cw_k5 st (nI na) (nI nu) kd dp cl sa ln bt pn bf, cw_i g cl 60 clf, cw_k6 h0 st mk lk ch ru mr md 8] H locs := hZ
              have hZ : zz_Z g A s.heap [cw_k6 h0 st mk lk ch ru mr md 8, cw_k5 st (nI na) (nI nu) kd dp cl sa ln bt pn bf, cw_k0 ch st (nI nd) c_pl c_sl c_co c_ca c_tu, cw_i g kd 60 kdf, cw_i g cl 60 clf, cw_i g c_pl 24 plf, cw_i g c_co 24 cof, cw_l g c_ca 384 caf] H locs := hZ.sub [7, 5, 3, 0, 6, 4, 1, 2] (by decide +kernel) rfl
              exact zz_iret hC hZ (⟨8, cof, caf, by refine Eq.symm ?_; rw [fo_cx_candidate]; refine (if_neg (by (try simp only [d_d, d_b, d_q, d_sz, d_lz, d_n, d_r19]); exact c3)).trans ?_; refine (if_neg (by (try simp only [d_d, d_b, d_q, d_sz, d_lz, d_n, d_r19]); exact c11)).trans ?_; refine (if_pos (by (try simp only [d_d, d_b, d_q, d_sz, d_lz, d_n, d_r19]); exact c16)).trans ?_; refine (if_pos (by (try simp only [d_d, d_b, d_q, d_sz, d_lz, d_n, d_r19]); exact c22)).trans ?_; refine (if_neg (by (try simp only [d_d, d_b, d_q, d_sz, d_lz, d_n, d_r19]); exact c27)).trans ?_; refine (if_neg (by (try simp only [d_d, d_b, d_q, d_sz, d_lz, d_n, d_r19]); exact c29)).trans ?_; first | (simp only [d_d, d_b, d_q, d_sz, d_lz, d_n, d_r19]; done) | rfl, h_C, rfl⟩) (Nat.le_of_ble_eq_true rfl) (Nat.le_of_ble_eq_true rfl) dX7_candidate_122
          · refine lv_aload_n hx hb dX7_candidate_95 rfl (lv_at hl 2 rfl) ?_
            refine lv_bipush (v := 7) hx hb dX7_candidate_96 (by decide) ?_
            refine zz_iV (As := [.int 7]) (wc := [cw_k6 h0 st mk lk ch ru mr md la]) (wr := [cw_i g kd 60 kdf, cw_i g c_co 24 cof, cw_l g c_ca 384 caf, cw_k0 ch st (nI nd) c_pl c_sl c_co c_ca c_tu, cw_i g c_pl 24 plf, cw_k5 st (nI na) (nI nu) kd dp cl sa ln bt pn bf, cw_i g cl 60 clf]) (rest := []) hC hZ hs hl zc_X7_65 (co_fail g h0 st mk lk ch ru mr md la 7) [0] [1, 2, 3, 4, 5, 6, 7] rfl rfl (by decide +kernel) (ci := 6) (q0 := 0) rfl rfl rfl rfl (Nat.le_of_ble_eq_true rfl) ⟨⟨Nat.le_of_ble_eq_true rfl, Nat.le_of_ble_eq_true rfl⟩, Nat.le_of_ble_eq_true rfl, Nat.le_of_ble_eq_true rfl⟩ dX7_candidate_98 (fun r37 u38 H locs hp hZ => ?_)
            obtain ⟨rfl, rfl⟩ := hp
            have hZ : zz_Z g A s.heap [cw_i g kd 60 kdf, cw_i g c_co 24 cof, cw_l g c_ca 384 caf, cw_k0 ch st (nI nd) c_pl c_sl c_co c_ca c_tu, cw_i g c_pl 24 plf, cw_k5 st (nI na) (nI nu) kd dp cl sa ln bt pn bf, cw_i g cl 60 clf, cw_k6 h0 st mk lk ch ru mr md 7] H locs := hZ
            have hZ : zz_Z g A s.heap [cw_k6 h0 st mk lk ch ru mr md 7, cw_k5 st (nI na) (nI nu) kd dp cl sa ln bt pn bf, cw_k0 ch st (nI nd) c_pl c_sl c_co c_ca c_tu, cw_i g kd 60 kdf, cw_i g cl 60 clf, cw_i g c_pl 24 plf, cw_i g c_co 24 cof, cw_l g c_ca 384 caf] H locs := hZ.sub [7, 5, 3, 0, 6, 4, 1, 2] (by decide +kernel) rfl
            exact zz_iret hC hZ (⟨7, cof, caf, by refine Eq.symm ?_; rw [fo_cx_candidate]; refine (if_neg (by (try simp only [d_d, d_b, d_q, d_sz, d_lz, d_n, d_r19]); exact c3)).trans ?_; refine (if_neg (by (try simp only [d_d, d_b, d_q, d_sz, d_lz, d_n, d_r19]); exact c11)).trans ?_; refine (if_pos (by (try simp only [d_d, d_b, d_q, d_sz, d_lz, d_n, d_r19]); exact c16)).trans ?_; refine (if_pos (by (try simp only [d_d, d_b, d_q, d_sz, d_lz, d_n, d_r19]); exact c22)).trans ?_; refine (if_pos (by (try simp only [d_d, d_b, d_q, d_sz, d_lz, d_n, d_r19]); exact c27)).trans ?_; first | (simp only [d_d, d_b, d_q, d_sz, d_lz, d_n, d_r19]; done) | rfl, h_C, rfl⟩) (Nat.le_of_ble_eq_true rfl) (Nat.le_of_ble_eq_true rfl) dX7_candidate_101
        · refine lv_aload_n hx hb dX7_candidate_68 rfl (lv_at hl 2 rfl) ?_
          refine lv_bipush (v := 9) hx hb dX7_candidate_69 (by decide) ?_
          refine zz_iV (As := [.int 9]) (wc := [cw_k6 h0 st mk lk ch ru mr md la]) (wr := [cw_i g cl 60 clf, cw_i g c_pl 24 plf, cw_k5 st (nI na) (nI nu) kd dp cl sa ln bt pn bf, cw_i g kd 60 kdf, cw_k0 ch st (nI nd) c_pl c_sl c_co c_ca c_tu, cw_i g c_co 24 cof, cw_l g c_ca 384 caf]) (rest := []) hC hZ hs hl zc_X7_65 (co_fail g h0 st mk lk ch ru mr md la 9) [0] [1, 2, 3, 4, 5, 6, 7] rfl rfl (by decide +kernel) (ci := 6) (q0 := 0) rfl rfl rfl rfl (Nat.le_of_ble_eq_true rfl) ⟨⟨Nat.le_of_ble_eq_true rfl, Nat.le_of_ble_eq_true rfl⟩, Nat.le_of_ble_eq_true rfl, Nat.le_of_ble_eq_true rfl⟩ dX7_candidate_71 (fun r39 u40 H locs hp hZ => ?_)
          obtain ⟨rfl, rfl⟩ := hp
          have hZ : zz_Z g A s.heap [cw_i g cl 60 clf, cw_i g c_pl 24 plf, cw_k5 st (nI na) (nI nu) kd dp cl sa ln bt pn bf, cw_i g kd 60 kdf, cw_k0 ch st (nI nd) c_pl c_sl c_co c_ca c_tu, cw_i g c_co 24 cof, cw_l g c_ca 384 caf, cw_k6 h0 st mk lk ch ru mr md 9] H locs := hZ
          have hZ : zz_Z g A s.heap [cw_k6 h0 st mk lk ch ru mr md 9, cw_k5 st (nI na) (nI nu) kd dp cl sa ln bt pn bf, cw_k0 ch st (nI nd) c_pl c_sl c_co c_ca c_tu, cw_i g kd 60 kdf, cw_i g cl 60 clf, cw_i g c_pl 24 plf, cw_i g c_co 24 cof, cw_l g c_ca 384 caf] H locs := hZ.sub [7, 2, 4, 3, 0, 1, 5, 6] (by decide +kernel) rfl
          exact zz_iret hC hZ (⟨9, cof, caf, by refine Eq.symm ?_; rw [fo_cx_candidate]; refine (if_neg (by (try simp only [d_d, d_b, d_q, d_sz, d_lz, d_n, d_r19]); exact c3)).trans ?_; refine (if_neg (by (try simp only [d_d, d_b, d_q, d_sz, d_lz, d_n, d_r19]); exact c11)).trans ?_; refine (if_pos (by (try simp only [d_d, d_b, d_q, d_sz, d_lz, d_n, d_r19]); exact c16)).trans ?_; refine (if_neg (by (try simp only [d_d, d_b, d_q, d_sz, d_lz, d_n, d_r19]); exact c22)).trans ?_; first | (simp only [d_d, d_b, d_q, d_sz, d_lz, d_n, d_r19]; done) | rfl, h_C, rfl⟩) (Nat.le_of_ble_eq_true rfl) (Nat.le_of_ble_eq_true rfl) dX7_candidate_74
  · refine lv_aload_n hx hb dX7_candidate_11 rfl (lv_at hl 0 rfl) ?_
    refine lv_bipush (v := 9) hx hb dX7_candidate_12 (by decide) ?_
    refine zz_iV (As := [.int 9]) (wc := [cw_k6 h0 st mk lk ch ru mr md la]) (wr := [cw_k5 st (nI na) (nI nu) kd dp cl sa ln bt pn bf, cw_i g kd 60 kdf, cw_i g cl 60 clf, cw_i g c_pl 24 plf, cw_i g c_co 24 cof, cw_l g c_ca 384 caf, cw_k0 ch st (nI nd) c_pl c_sl c_co c_ca c_tu]) (rest := []) hC hZ hs hl zc_X7_65 (co_fail g h0 st mk lk ch ru mr md la 9) [0] [1, 2, 3, 4, 5, 6, 7] rfl rfl (by decide +kernel) (ci := 6) (q0 := 0) rfl rfl rfl rfl (Nat.le_of_ble_eq_true rfl) ⟨⟨Nat.le_of_ble_eq_true rfl, Nat.le_of_ble_eq_true rfl⟩, Nat.le_of_ble_eq_true rfl, Nat.le_of_ble_eq_true rfl⟩ dX7_candidate_14 (fun r41 u42 H locs hp hZ => ?_)
    obtain ⟨rfl, rfl⟩ := hp
    have hZ : zz_Z g A s.heap [cw_k5 st (nI na) (nI nu) kd dp cl sa ln bt pn bf, cw_i g kd 60 kdf, cw_i g cl 60 clf, cw_i g c_pl 24 plf, cw_i g c_co 24 cof, cw_l g c_ca 384 caf, cw_k0 ch st (nI nd) c_pl c_sl c_co c_ca c_tu, cw_k6 h0 st mk lk ch ru mr md 9] H locs := hZ
    have hZ : zz_Z g A s.heap [cw_k6 h0 st mk lk ch ru mr md 9, cw_k5 st (nI na) (nI nu) kd dp cl sa ln bt pn bf, cw_k0 ch st (nI nd) c_pl c_sl c_co c_ca c_tu, cw_i g kd 60 kdf, cw_i g cl 60 clf, cw_i g c_pl 24 plf, cw_i g c_co 24 cof, cw_l g c_ca 384 caf] H locs := hZ.sub [7, 0, 6, 1, 2, 3, 4, 5] (by decide +kernel) rfl
    exact zz_iret hC hZ (⟨9, cof, caf, by show _ = _; rw [fo_cx_candidate]; rw [if_pos c3], h_C, rfl⟩) (Nat.le_of_ble_eq_true rfl) (Nat.le_of_ble_eq_true rfl) dX7_candidate_17
theorem dg_X7_span_0 : (decode cX7_span 0 = .ok (.aload_n 0, 1)) ∧ (decode cX7_span 1 = .ok (.getfield 35, 3)) ∧ (decode cX7_span 4 = .ok (.iload_n 1, 1)) ∧ (decode cX7_span 5 = .ok (.invokevirtual 218, 3)) ∧ (decode cX7_span 8 = .ok (.ifCond .eq 10, 3)) ∧ (decode cX7_span 11 = .ok (.lload 6, 2)) ∧ (decode cX7_span 13 = .ok (.lconst 1, 1)) ∧ (decode cX7_span 14 = .ok (.lcmp, 1)) ∧ (decode cX7_span 15 = .ok (.ifCond .ge 10, 3)) ∧ (decode cX7_span 18 = .ok (.aload_n 0, 1)) ∧ (decode cX7_span 19 = .ok (.bipush 9, 2)) ∧ (decode cX7_span 21 = .ok (.invokevirtual 65, 3)) ∧ (decode cX7_span 24 = .ok (.ireturn, 1)) ∧ (decode cX7_span 25 = .ok (.aload_n 0, 1)) ∧ (decode cX7_span 26 = .ok (.getfield 35, 3)) ∧ (decode cX7_span 29 = .ok (.iload_n 1, 1)) := by decide +kernel
theorem dX7_span_0 : decode cX7_span 0 = .ok (.aload_n 0, 1) := dg_X7_span_0.1
theorem dX7_span_1 : decode cX7_span 1 = .ok (.getfield 35, 3) := dg_X7_span_0.2.1
theorem dX7_span_4 : decode cX7_span 4 = .ok (.iload_n 1, 1) := dg_X7_span_0.2.2.1
theorem dX7_span_5 : decode cX7_span 5 = .ok (.invokevirtual 218, 3) := dg_X7_span_0.2.2.2.1
theorem dX7_span_8 : decode cX7_span 8 = .ok (.ifCond .eq 10, 3) := dg_X7_span_0.2.2.2.2.1
theorem dX7_span_11 : decode cX7_span 11 = .ok (.lload 6, 2) := dg_X7_span_0.2.2.2.2.2.1
theorem dX7_span_13 : decode cX7_span 13 = .ok (.lconst 1, 1) := dg_X7_span_0.2.2.2.2.2.2.1
theorem dX7_span_14 : decode cX7_span 14 = .ok (.lcmp, 1) := dg_X7_span_0.2.2.2.2.2.2.2.1
theorem dX7_span_15 : decode cX7_span 15 = .ok (.ifCond .ge 10, 3) := dg_X7_span_0.2.2.2.2.2.2.2.2.1
theorem dX7_span_18 : decode cX7_span 18 = .ok (.aload_n 0, 1) := dg_X7_span_0.2.2.2.2.2.2.2.2.2.1
theorem dX7_span_19 : decode cX7_span 19 = .ok (.bipush 9, 2) := dg_X7_span_0.2.2.2.2.2.2.2.2.2.2.1
theorem dX7_span_21 : decode cX7_span 21 = .ok (.invokevirtual 65, 3) := dg_X7_span_0.2.2.2.2.2.2.2.2.2.2.2.1
theorem dX7_span_24 : decode cX7_span 24 = .ok (.ireturn, 1) := dg_X7_span_0.2.2.2.2.2.2.2.2.2.2.2.2.1
theorem dX7_span_25 : decode cX7_span 25 = .ok (.aload_n 0, 1) := dg_X7_span_0.2.2.2.2.2.2.2.2.2.2.2.2.2.1
theorem dX7_span_26 : decode cX7_span 26 = .ok (.getfield 35, 3) := dg_X7_span_0.2.2.2.2.2.2.2.2.2.2.2.2.2.2.1
theorem dX7_span_29 : decode cX7_span 29 = .ok (.iload_n 1, 1) := dg_X7_span_0.2.2.2.2.2.2.2.2.2.2.2.2.2.2.2
theorem dg_X7_span_30 : (decode cX7_span 30 = .ok (.invokevirtual 219, 3)) ∧ (decode cX7_span 33 = .ok (.istore 8, 2)) ∧ (decode cX7_span 35 = .ok (.iload 8, 2)) ∧ (decode cX7_span 37 = .ok (.iconst 1, 1)) ∧ (decode cX7_span 38 = .ok (.if_icmp .lt 28, 3)) ∧ (decode cX7_span 41 = .ok (.iload 8, 2)) ∧ (decode cX7_span 43 = .ok (.iconst 5, 1)) ∧ (decode cX7_span 44 = .ok (.if_icmp .gt 22, 3)) ∧ (decode cX7_span 47 = .ok (.iload 8, 2)) ∧ (decode cX7_span 49 = .ok (.lload_n 2, 1)) ∧ (decode cX7_span 50 = .ok (.invokestatic 148, 3)) ∧ (decode cX7_span 53 = .ok (.ifCond .eq 13, 3)) ∧ (decode cX7_span 56 = .ok (.iload 8, 2)) ∧ (decode cX7_span 58 = .ok (.lload 4, 2)) ∧ (decode cX7_span 60 = .ok (.invokestatic 148, 3)) ∧ (decode cX7_span 63 = .ok (.ifCond .ne 10, 3)) := by decide +kernel
theorem dX7_span_30 : decode cX7_span 30 = .ok (.invokevirtual 219, 3) := dg_X7_span_30.1
theorem dX7_span_33 : decode cX7_span 33 = .ok (.istore 8, 2) := dg_X7_span_30.2.1
theorem dX7_span_35 : decode cX7_span 35 = .ok (.iload 8, 2) := dg_X7_span_30.2.2.1
theorem dX7_span_37 : decode cX7_span 37 = .ok (.iconst 1, 1) := dg_X7_span_30.2.2.2.1
theorem dX7_span_38 : decode cX7_span 38 = .ok (.if_icmp .lt 28, 3) := dg_X7_span_30.2.2.2.2.1
theorem dX7_span_41 : decode cX7_span 41 = .ok (.iload 8, 2) := dg_X7_span_30.2.2.2.2.2.1
theorem dX7_span_43 : decode cX7_span 43 = .ok (.iconst 5, 1) := dg_X7_span_30.2.2.2.2.2.2.1
theorem dX7_span_44 : decode cX7_span 44 = .ok (.if_icmp .gt 22, 3) := dg_X7_span_30.2.2.2.2.2.2.2.1
theorem dX7_span_47 : decode cX7_span 47 = .ok (.iload 8, 2) := dg_X7_span_30.2.2.2.2.2.2.2.2.1
theorem dX7_span_49 : decode cX7_span 49 = .ok (.lload_n 2, 1) := dg_X7_span_30.2.2.2.2.2.2.2.2.2.1
theorem dX7_span_50 : decode cX7_span 50 = .ok (.invokestatic 148, 3) := dg_X7_span_30.2.2.2.2.2.2.2.2.2.2.1
theorem dX7_span_53 : decode cX7_span 53 = .ok (.ifCond .eq 13, 3) := dg_X7_span_30.2.2.2.2.2.2.2.2.2.2.2.1
theorem dX7_span_56 : decode cX7_span 56 = .ok (.iload 8, 2) := dg_X7_span_30.2.2.2.2.2.2.2.2.2.2.2.2.1
theorem dX7_span_58 : decode cX7_span 58 = .ok (.lload 4, 2) := dg_X7_span_30.2.2.2.2.2.2.2.2.2.2.2.2.2.1
theorem dX7_span_60 : decode cX7_span 60 = .ok (.invokestatic 148, 3) := dg_X7_span_30.2.2.2.2.2.2.2.2.2.2.2.2.2.2.1
theorem dX7_span_63 : decode cX7_span 63 = .ok (.ifCond .ne 10, 3) := dg_X7_span_30.2.2.2.2.2.2.2.2.2.2.2.2.2.2.2
theorem dg_X7_span_66 : (decode cX7_span 66 = .ok (.aload_n 0, 1)) ∧ (decode cX7_span 67 = .ok (.bipush 9, 2)) ∧ (decode cX7_span 69 = .ok (.invokevirtual 65, 3)) ∧ (decode cX7_span 72 = .ok (.ireturn, 1)) ∧ (decode cX7_span 73 = .ok (.aload_n 0, 1)) ∧ (decode cX7_span 74 = .ok (.getfield 35, 3)) ∧ (decode cX7_span 77 = .ok (.getfield 231, 3)) ∧ (decode cX7_span 80 = .ok (.iload_n 1, 1)) ∧ (decode cX7_span 81 = .ok (.iaload, 1)) ∧ (decode cX7_span 82 = .ok (.istore 9, 2)) ∧ (decode cX7_span 84 = .ok (.aload_n 0, 1)) ∧ (decode cX7_span 85 = .ok (.getfield 35, 3)) ∧ (decode cX7_span 88 = .ok (.iload_n 1, 1)) ∧ (decode cX7_span 89 = .ok (.lload_n 2, 1)) ∧ (decode cX7_span 90 = .ok (.lload 4, 2)) ∧ (decode cX7_span 92 = .ok (.lload 6, 2)) := by decide +kernel
theorem dX7_span_66 : decode cX7_span 66 = .ok (.aload_n 0, 1) := dg_X7_span_66.1
theorem dX7_span_67 : decode cX7_span 67 = .ok (.bipush 9, 2) := dg_X7_span_66.2.1
theorem dX7_span_69 : decode cX7_span 69 = .ok (.invokevirtual 65, 3) := dg_X7_span_66.2.2.1
theorem dX7_span_72 : decode cX7_span 72 = .ok (.ireturn, 1) := dg_X7_span_66.2.2.2.1
theorem dX7_span_73 : decode cX7_span 73 = .ok (.aload_n 0, 1) := dg_X7_span_66.2.2.2.2.1
theorem dX7_span_74 : decode cX7_span 74 = .ok (.getfield 35, 3) := dg_X7_span_66.2.2.2.2.2.1
theorem dX7_span_77 : decode cX7_span 77 = .ok (.getfield 231, 3) := dg_X7_span_66.2.2.2.2.2.2.1
theorem dX7_span_80 : decode cX7_span 80 = .ok (.iload_n 1, 1) := dg_X7_span_66.2.2.2.2.2.2.2.1
theorem dX7_span_81 : decode cX7_span 81 = .ok (.iaload, 1) := dg_X7_span_66.2.2.2.2.2.2.2.2.1
theorem dX7_span_82 : decode cX7_span 82 = .ok (.istore 9, 2) := dg_X7_span_66.2.2.2.2.2.2.2.2.2.1
theorem dX7_span_84 : decode cX7_span 84 = .ok (.aload_n 0, 1) := dg_X7_span_66.2.2.2.2.2.2.2.2.2.2.1
theorem dX7_span_85 : decode cX7_span 85 = .ok (.getfield 35, 3) := dg_X7_span_66.2.2.2.2.2.2.2.2.2.2.2.1
theorem dX7_span_88 : decode cX7_span 88 = .ok (.iload_n 1, 1) := dg_X7_span_66.2.2.2.2.2.2.2.2.2.2.2.2.1
theorem dX7_span_89 : decode cX7_span 89 = .ok (.lload_n 2, 1) := dg_X7_span_66.2.2.2.2.2.2.2.2.2.2.2.2.2.1
theorem dX7_span_90 : decode cX7_span 90 = .ok (.lload 4, 2) := dg_X7_span_66.2.2.2.2.2.2.2.2.2.2.2.2.2.2.1
theorem dX7_span_92 : decode cX7_span 92 = .ok (.lload 6, 2) := dg_X7_span_66.2.2.2.2.2.2.2.2.2.2.2.2.2.2.2
theorem dg_X7_span_94 : (decode cX7_span 94 = .ok (.invokevirtual 238, 3)) ∧ (decode cX7_span 97 = .ok (.ifCond .ne 21, 3)) ∧ (decode cX7_span 100 = .ok (.aload_n 0, 1)) ∧ (decode cX7_span 101 = .ok (.getfield 35, 3)) ∧ (decode cX7_span 104 = .ok (.getfield 231, 3)) ∧ (decode cX7_span 107 = .ok (.iload_n 1, 1)) ∧ (decode cX7_span 108 = .ok (.iload 9, 2)) ∧ (decode cX7_span 110 = .ok (.iastore, 1)) ∧ (decode cX7_span 111 = .ok (.aload_n 0, 1)) ∧ (decode cX7_span 112 = .ok (.bipush 8, 2)) ∧ (decode cX7_span 114 = .ok (.invokevirtual 65, 3)) ∧ (decode cX7_span 117 = .ok (.ireturn, 1)) ∧ (decode cX7_span 118 = .ok (.aload_n 0, 1)) ∧ (decode cX7_span 119 = .ok (.aload_n 0, 1)) ∧ (decode cX7_span 120 = .ok (.getfield 35, 3)) ∧ (decode cX7_span 123 = .ok (.getfield 231, 3)) := by decide +kernel
theorem dX7_span_94 : decode cX7_span 94 = .ok (.invokevirtual 238, 3) := dg_X7_span_94.1
theorem dX7_span_97 : decode cX7_span 97 = .ok (.ifCond .ne 21, 3) := dg_X7_span_94.2.1
theorem dX7_span_100 : decode cX7_span 100 = .ok (.aload_n 0, 1) := dg_X7_span_94.2.2.1
theorem dX7_span_101 : decode cX7_span 101 = .ok (.getfield 35, 3) := dg_X7_span_94.2.2.2.1
theorem dX7_span_104 : decode cX7_span 104 = .ok (.getfield 231, 3) := dg_X7_span_94.2.2.2.2.1
theorem dX7_span_107 : decode cX7_span 107 = .ok (.iload_n 1, 1) := dg_X7_span_94.2.2.2.2.2.1
theorem dX7_span_108 : decode cX7_span 108 = .ok (.iload 9, 2) := dg_X7_span_94.2.2.2.2.2.2.1
theorem dX7_span_110 : decode cX7_span 110 = .ok (.iastore, 1) := dg_X7_span_94.2.2.2.2.2.2.2.1
theorem dX7_span_111 : decode cX7_span 111 = .ok (.aload_n 0, 1) := dg_X7_span_94.2.2.2.2.2.2.2.2.1
theorem dX7_span_112 : decode cX7_span 112 = .ok (.bipush 8, 2) := dg_X7_span_94.2.2.2.2.2.2.2.2.2.1
theorem dX7_span_114 : decode cX7_span 114 = .ok (.invokevirtual 65, 3) := dg_X7_span_94.2.2.2.2.2.2.2.2.2.2.1
theorem dX7_span_117 : decode cX7_span 117 = .ok (.ireturn, 1) := dg_X7_span_94.2.2.2.2.2.2.2.2.2.2.2.1
theorem dX7_span_118 : decode cX7_span 118 = .ok (.aload_n 0, 1) := dg_X7_span_94.2.2.2.2.2.2.2.2.2.2.2.2.1
theorem dX7_span_119 : decode cX7_span 119 = .ok (.aload_n 0, 1) := dg_X7_span_94.2.2.2.2.2.2.2.2.2.2.2.2.2.1
theorem dX7_span_120 : decode cX7_span 120 = .ok (.getfield 35, 3) := dg_X7_span_94.2.2.2.2.2.2.2.2.2.2.2.2.2.2.1
theorem dX7_span_123 : decode cX7_span 123 = .ok (.getfield 231, 3) := dg_X7_span_94.2.2.2.2.2.2.2.2.2.2.2.2.2.2.2
theorem dg_X7_span_126 : (decode cX7_span 126 = .ok (.iload_n 1, 1)) ∧ (decode cX7_span 127 = .ok (.iaload, 1)) ∧ (decode cX7_span 128 = .ok (.invokevirtual 100, 3)) ∧ (decode cX7_span 131 = .ok (.ireturn, 1)) := by decide +kernel
theorem dX7_span_126 : decode cX7_span 126 = .ok (.iload_n 1, 1) := dg_X7_span_126.1
theorem dX7_span_127 : decode cX7_span 127 = .ok (.iaload, 1) := dg_X7_span_126.2.1
theorem dX7_span_128 : decode cX7_span 128 = .ok (.invokevirtual 100, 3) := dg_X7_span_126.2.2.1
theorem dX7_span_131 : decode cX7_span 131 = .ok (.ireturn, 1) := dg_X7_span_126.2.2.2
theorem zk_576 : Cond.methodLink RX7 238 yX0_appendSpan ∈ zz_w := zz_in (List.mem_append_right _ (List.mem_append_right _ (List.mem_append_right _ (List.mem_append_left _ (List.mem_of_getElem? (i := 96) (by decide +kernel)))))) rfl
set_option maxRecDepth 20000 in
theorem zk_579 : Cond.code yX0_appendSpan cX0_appendSpan 13 (some .boolean) ∈ zz_w := zz_in (List.mem_append_right _ (List.mem_append_right _ (List.mem_append_right _ (List.mem_append_left _ (List.mem_of_getElem? (i := 99) (rfl)))))) rfl
theorem zk_577 : Cond.instanceMethod yX0_appendSpan ∈ zz_w := zz_in (List.mem_append_right _ (List.mem_append_right _ (List.mem_append_right _ (List.mem_append_left _ (List.mem_of_getElem? (i := 97) (by decide +kernel)))))) rfl
theorem zk_578 : Cond.selects RX0 yX0_appendSpan yX0_appendSpan ∈ zz_w := zz_in (List.mem_append_right _ (List.mem_append_right _ (List.mem_append_right _ (List.mem_append_left _ (List.mem_of_getElem? (i := 98) (by decide +kernel)))))) rfl
theorem zc_X7_238 : zz_cV RX7 238 yX0_appendSpan cX0_appendSpan 13 (some .boolean) 4 := ⟨⟨zk_576, zk_579, zk_5, by decide, by decide, by decide +kernel⟩, zk_577, zk_578⟩
def fo_cx_span (na : Nat) (nu : Nat) (nd : Nat) (kdf : Nat → Int32) (plf : Nat → Int32) (cof : Nat → Int32) (caf : Nat → Int64) (dpf : Nat → Int32) (saf : Nat → Int32) (lnf : Nat → Int32) (slf : Nat → Int32) (x1 : Int32) (x2 : Int64) (x3 : Int64) (x4 : Int64) : (Int32) × (Nat → Int32) × (Nat → Int64) := (if (fn_co_chas (nI nd) x1) = 0 then (-9, cof, caf) else (if 1 ≤ x4 then (if (kdf ((plf x1.toNatClampNeg).toNatClampNeg / 1000)) < 1 then (-9, cof, caf) else (if 5 < (kdf ((plf x1.toNatClampNeg).toNatClampNeg / 1000)) then (-9, cof, caf) else (if (fn_co_holds (kdf ((plf x1.toNatClampNeg).toNatClampNeg / 1000)) x2) = 0 then (-9, cof, caf) else (if (fn_co_holds (kdf ((plf x1.toNatClampNeg).toNatClampNeg / 1000)) x3) = 0 then (-9, cof, caf) else (if ((sp_spR x2 x3 x4 (x1.toNatClampNeg * 16) ((cof x1.toNatClampNeg).toNatClampNeg) caf).1) = 0 then (-8, (upd (upd cof x1.toNatClampNeg (nI ((sp_spR x2 x3 x4 (x1.toNatClampNeg * 16) ((cof x1.toNatClampNeg).toNatClampNeg) caf).2.1))) x1.toNatClampNeg (nI ((cof x1.toNatClampNeg).toNatClampNeg))), ((sp_spR x2 x3 x4 (x1.toNatClampNeg * 16) ((cof x1.toNatClampNeg).toNatClampNeg) caf).2.2)) else (((upd cof x1.toNatClampNeg (nI ((sp_spR x2 x3 x4 (x1.toNatClampNeg * 16) ((cof x1.toNatClampNeg).toNatClampNeg) caf).2.1))) x1.toNatClampNeg), (upd cof x1.toNatClampNeg (nI ((sp_spR x2 x3 x4 (x1.toNatClampNeg * 16) ((cof x1.toNatClampNeg).toNatClampNeg) caf).2.1))), ((sp_spR x2 x3 x4 (x1.toNatClampNeg * 16) ((cof x1.toNatClampNeg).toNatClampNeg) caf).2.2))))))) else (-9, cof, caf)))
abbrev rm_cx_span : Room := { frames := 3, cells := 0, slots := 0, locals := 78 }
abbrev po_cx_span (g : zz_G) (h0 : Nat) (st : Nat) (mk : Nat) (lk : Nat) (ch : Nat) (ru : Nat) (mr : Nat) (kd : Nat) (dp : Nat) (cl : Nat) (sa : Nat) (ln : Nat) (bt : Nat) (pn : Nat) (bf : Nat) (c_pl : Nat) (c_sl : Nat) (c_co : Nat) (c_ca : Nat) (c_tu : Nat) (md : Int32) (la : Int32) (na : Nat) (nu : Nat) (nd : Nat) (kdf : Nat → Int32) (plf : Nat → Int32) (cof : Nat → Int32) (caf : Nat → Int64) (dpf : Nat → Int32) (saf : Nat → Int32) (lnf : Nat → Int32) (slf : Nat → Int32) (x1 : Int32) (x2 : Int64) (x3 : Int64) (x4 : Int64) (h_S : zz_SI na nu dpf saf lnf) (h_C : zz_CI na nd saf lnf plf slf cof) : Int32 → va_W → Prop := fun (r : Int32) (u : va_W) => ∃ (la2 : Int32) (co2 : Nat → Int32) (ca2 : Nat → Int64), (r, co2, ca2) = fo_cx_span na nu nd kdf plf cof caf dpf saf lnf slf x1 x2 x3 x4 ∧ (zz_CI na nd saf lnf plf slf co2) ∧ u = [cw_k6 h0 st mk lk ch ru mr md la2, cw_k5 st (nI na) (nI nu) kd dp cl sa ln bt pn bf, cw_k0 ch st (nI nd) c_pl c_sl c_co c_ca c_tu, cw_i g kd 60 kdf, cw_i g c_pl 24 plf, cw_i g c_co 24 co2, cw_l g c_ca 384 ca2]
set_option maxHeartbeats 4000000 in
set_option maxRecDepth 100000 in
theorem cx_span (g : zz_G) (h0 : Nat) (st : Nat) (mk : Nat) (lk : Nat) (ch : Nat) (ru : Nat) (mr : Nat) (kd : Nat) (dp : Nat) (cl : Nat) (sa : Nat) (ln : Nat) (bt : Nat) (pn : Nat) (bf : Nat) (c_pl : Nat) (c_sl : Nat) (c_co : Nat) (c_ca : Nat) (c_tu : Nat) (md : Int32) (la : Int32) (na : Nat) (nu : Nat) (nd : Nat) (kdf : Nat → Int32) (plf : Nat → Int32) (cof : Nat → Int32) (caf : Nat → Int64) (dpf : Nat → Int32) (saf : Nat → Int32) (lnf : Nat → Int32) (slf : Nat → Int32) (x1 : Int32) (x2 : Int64) (x3 : Int64) (x4 : Int64) (h_S : zz_SI na nu dpf saf lnf) (h_C : zz_CI na nd saf lnf plf slf cof) : zz_I g yX7_span (.code yX7_span cX7_span 10 (some .int)) rm_cx_span [.ref h0, .int x1, .long x2, .long x3, .long x4] [cw_k6 h0 st mk lk ch ru mr md la, cw_k5 st (nI na) (nI nu) kd dp cl sa ln bt pn bf, cw_k0 ch st (nI nd) c_pl c_sl c_co c_ca c_tu, cw_i g kd 60 kdf, cw_i g c_pl 24 plf, cw_i g c_co 24 cof, cw_l g c_ca 384 caf] (po_cx_span g h0 st mk lk ch ru mr kd dp cl sa ln bt pn bf c_pl c_sl c_co c_ca c_tu md la na nu nd kdf plf cof caf dpf saf lnf slf x1 x2 x3 x4 h_S h_C) := by
  refine zz_I.intro (own := RX7) (cc := cX7_span) (nL := 10) (by decide) rfl (Nat.le_of_ble_eq_true rfl) ?_
  intro p l e s m args below meth c A H locs ls hC hnm hs hZ hl
  obtain ⟨hx, hb, hml, hown, hts, hr, hlocks, hK⟩ := id hC
  have hl : lv_has ls 10 [(0, .ref h0), (1, .int x1), (2, .long x2), (4, .long x3), (6, .long x4)] := hl
  have hZ : zz_Z g A s.heap [cw_k6 h0 st mk lk ch ru mr md la, cw_k5 st (nI na) (nI nu) kd dp cl sa ln bt pn bf, cw_k0 ch st (nI nd) c_pl c_sl c_co c_ca c_tu, cw_i g kd 60 kdf, cw_i g c_pl 24 plf, cw_i g c_co 24 cof, cw_l g c_ca 384 caf] H locs := hZ
  have hna := h_S.1
  have hnu := h_S.2.1
  have hd24 := h_C.1
  refine lv_aload_n hx hb dX7_span_0 rfl (lv_at hl 0 rfl) ?_
  refine zz_get hC hZ 0 rfl zf_X7_35 rfl dX7_span_1 ?_
  refine lv_iload_n hx hb dX7_span_4 rfl (lv_at hl 1 rfl) ?_
  refine zz_iV (As := [.int x1]) (wc := [cw_k0 ch st (nI nd) c_pl c_sl c_co c_ca c_tu]) (wr := [cw_k6 h0 st mk lk ch ru mr md la, cw_k5 st (nI na) (nI nu) kd dp cl sa ln bt pn bf, cw_i g kd 60 kdf, cw_i g c_pl 24 plf, cw_i g c_co 24 cof, cw_l g c_ca 384 caf]) (rest := []) hC hZ hs hl zc_X7_218 (co_chas g ch st c_pl c_sl c_co c_ca c_tu (nI nd) x1) [2] [0, 1, 3, 4, 5, 6] rfl rfl (by decide +kernel) (ci := 0) (q0 := 0) rfl rfl rfl rfl (Nat.le_of_ble_eq_true rfl) ⟨⟨Nat.le_of_ble_eq_true rfl, Nat.le_of_ble_eq_true rfl⟩, Nat.le_of_ble_eq_true rfl, Nat.le_of_ble_eq_true rfl⟩ dX7_span_5 (fun r1 u2 H locs hp hZ => ?_)
  obtain ⟨rfl, rfl⟩ := hp
  have hZ : zz_Z g A s.heap [cw_k6 h0 st mk lk ch ru mr md la, cw_k5 st (nI na) (nI nu) kd dp cl sa ln bt pn bf, cw_i g kd 60 kdf, cw_i g c_pl 24 plf, cw_i g c_co 24 cof, cw_l g c_ca 384 caf, cw_k0 ch st (nI nd) c_pl c_sl c_co c_ca c_tu] H locs := hZ
  refine lv_if_eq (tgt := 18) hx hb dX7_span_8 (by decide) (fun c3 => ?_) (fun c3 => ?_)
  · refine lv_aload_n hx hb dX7_span_18 rfl (lv_at hl 0 rfl) ?_
    refine lv_bipush (v := 9) hx hb dX7_span_19 (by decide) ?_
    refine zz_iV (As := [.int 9]) (wc := [cw_k6 h0 st mk lk ch ru mr md la]) (wr := [cw_k5 st (nI na) (nI nu) kd dp cl sa ln bt pn bf, cw_i g kd 60 kdf, cw_i g c_pl 24 plf, cw_i g c_co 24 cof, cw_l g c_ca 384 caf, cw_k0 ch st (nI nd) c_pl c_sl c_co c_ca c_tu]) (rest := []) hC hZ hs hl zc_X7_65 (co_fail g h0 st mk lk ch ru mr md la 9) [0] [1, 2, 3, 4, 5, 6] rfl rfl (by decide +kernel) (ci := 6) (q0 := 0) rfl rfl rfl rfl (Nat.le_of_ble_eq_true rfl) ⟨⟨Nat.le_of_ble_eq_true rfl, Nat.le_of_ble_eq_true rfl⟩, Nat.le_of_ble_eq_true rfl, Nat.le_of_ble_eq_true rfl⟩ dX7_span_21 (fun r4 u5 H locs hp hZ => ?_)
    obtain ⟨rfl, rfl⟩ := hp
    have hZ : zz_Z g A s.heap [cw_k5 st (nI na) (nI nu) kd dp cl sa ln bt pn bf, cw_i g kd 60 kdf, cw_i g c_pl 24 plf, cw_i g c_co 24 cof, cw_l g c_ca 384 caf, cw_k0 ch st (nI nd) c_pl c_sl c_co c_ca c_tu, cw_k6 h0 st mk lk ch ru mr md 9] H locs := hZ
    have hZ : zz_Z g A s.heap [cw_k6 h0 st mk lk ch ru mr md 9, cw_k5 st (nI na) (nI nu) kd dp cl sa ln bt pn bf, cw_k0 ch st (nI nd) c_pl c_sl c_co c_ca c_tu, cw_i g kd 60 kdf, cw_i g c_pl 24 plf, cw_i g c_co 24 cof, cw_l g c_ca 384 caf] H locs := hZ.sub [6, 0, 5, 1, 2, 3, 4] (by decide +kernel) rfl
    exact zz_iret hC hZ (⟨9, cof, caf, by show _ = _; rw [fo_cx_span]; rw [if_pos c3], h_C, rfl⟩) (Nat.le_of_ble_eq_true rfl) (Nat.le_of_ble_eq_true rfl) dX7_span_24
  · obtain ⟨d, hd, ed⟩ := zl_chas (by omega) c3
    have hl : lv_has ls 10 [(0, .ref h0), (1, .int (nI d)), (2, .long x2), (4, .long x3), (6, .long x4)] := by rw [← ed]; exact hl
    have bd6 : d < 2 ^ 31 := by omega
    have d_d : x1.toNatClampNeg = d := by rw [ed]; exact nI_clamp bd6
    obtain ⟨b, q, sz, lz, n, e_p, hbn, hb6, e_s, e_l, hb1, hb2, hq, e_z, e_c, hn⟩ := h_C.2 d hd
    have d_b : (plf d).toNatClampNeg / 1000 = b := by rw [e_p, nI_clamp (by omega)]; omega
    have d_q : (plf d).toNatClampNeg % 1000 = q := by rw [e_p, nI_clamp (by omega)]; omega
    have d_sz : (saf b).toNatClampNeg = sz := by rw [e_s]; exact nI_clamp (by omega)
    have d_lz : (lnf b).toNatClampNeg = lz := by rw [e_l]; exact nI_clamp (by omega)
    have d_n : (cof d).toNatClampNeg = n := by rw [e_c]; exact nI_clamp (by omega)
    refine lv_lload hx hb dX7_span_11 (lv_at hl 4 rfl) ?_
    refine lv_lconst (v := 1) hx hb dX7_span_13 (by decide) ?_
    refine zz_lcmp_ge (tgt := 25) hC dX7_span_14 dX7_span_15 (by decide) (fun c7 => ?_) (fun c7 => ?_)
    · refine lv_aload_n hx hb dX7_span_25 rfl (lv_at hl 0 rfl) ?_
      refine zz_get hC hZ 0 rfl zf_X7_35 rfl dX7_span_26 ?_
      refine lv_iload_n hx hb dX7_span_29 rfl (lv_at hl 1 rfl) ?_
      refine zz_iV (As := [.int (nI d)]) (wc := [cw_k0 ch st (nI nd) c_pl c_sl c_co c_ca c_tu, cw_i g c_pl 24 plf, cw_k5 st (nI na) (nI nu) kd dp cl sa ln bt pn bf, cw_i g kd 60 kdf]) (wr := [cw_k6 h0 st mk lk ch ru mr md la, cw_i g c_co 24 cof, cw_l g c_ca 384 caf]) (rest := []) hC hZ hs hl zc_X7_219 (co_kindOf g ch st c_pl c_sl c_co c_ca c_tu kd dp cl sa ln bt pn bf nd na nu plf kdf d b q (by omega) (e_p)) [6, 3, 1, 2] [0, 4, 5] rfl rfl (by decide +kernel) (ci := 0) (q0 := 0) rfl rfl rfl rfl (Nat.le_of_ble_eq_true rfl) ⟨⟨Nat.le_of_ble_eq_true rfl, Nat.le_of_ble_eq_true rfl⟩, Nat.le_of_ble_eq_true rfl, Nat.le_of_ble_eq_true rfl⟩ dX7_span_30 (fun r8 u9 H locs hp hZ => ?_)
      obtain ⟨rfl, rfl⟩ := hp
      have hZ : zz_Z g A s.heap [cw_k6 h0 st mk lk ch ru mr md la, cw_i g c_co 24 cof, cw_l g c_ca 384 caf, cw_k0 ch st (nI nd) c_pl c_sl c_co c_ca c_tu, cw_i g c_pl 24 plf, cw_k5 st (nI na) (nI nu) kd dp cl sa ln bt pn bf, cw_i g kd 60 kdf] H locs := hZ
      refine lv_istore (lv' := [(8, .int (kdf b)), (0, .ref h0), (1, .int (nI d)), (2, .long x2), (4, .long x3), (6, .long x4)]) hx hb dX7_span_33 hl (by decide) rfl (fun ls hl => ?_)
      refine lv_iload hx hb dX7_span_35 (lv_at hl 0 rfl) ?_
      refine lv_iconst (v := 1) hx hb dX7_span_37 (by decide) ?_
      refine lv_icmp_lt (tgt := 66) hx hb dX7_span_38 (by decide) (fun c10 => ?_) (fun c10 => ?_)
      · refine lv_aload_n hx hb dX7_span_66 rfl (lv_at hl 1 rfl) ?_
        refine lv_bipush (v := 9) hx hb dX7_span_67 (by decide) ?_
        refine zz_iV (As := [.int 9]) (wc := [cw_k6 h0 st mk lk ch ru mr md la]) (wr := [cw_i g c_co 24 cof, cw_l g c_ca 384 caf, cw_k0 ch st (nI nd) c_pl c_sl c_co c_ca c_tu, cw_i g c_pl 24 plf, cw_k5 st (nI na) (nI nu) kd dp cl sa ln bt pn bf, cw_i g kd 60 kdf]) (rest := []) hC hZ hs hl zc_X7_65 (co_fail g h0 st mk lk ch ru mr md la 9) [0] [1, 2, 3, 4, 5, 6] rfl rfl (by decide +kernel) (ci := 6) (q0 := 0) rfl rfl rfl rfl (Nat.le_of_ble_eq_true rfl) ⟨⟨Nat.le_of_ble_eq_true rfl, Nat.le_of_ble_eq_true rfl⟩, Nat.le_of_ble_eq_true rfl, Nat.le_of_ble_eq_true rfl⟩ dX7_span_69 (fun r11 u12 H locs hp hZ => ?_)
        obtain ⟨rfl, rfl⟩ := hp
        have hZ : zz_Z g A s.heap [cw_i g c_co 24 cof, cw_l g c_ca 384 caf, cw_k0 ch st (nI nd) c_pl c_sl c_co c_ca c_tu, cw_i g c_pl 24 plf, cw_k5 st (nI na) (nI nu) kd dp cl sa ln bt pn bf, cw_i g kd 60 kdf, cw_k6 h0 st mk lk ch ru mr md 9] H locs := hZ
        have hZ : zz_Z g A s.heap [cw_k6 h0 st mk lk ch ru mr md 9, cw_k5 st (nI na) (nI nu) kd dp cl sa ln bt pn bf, cw_k0 ch st (nI nd) c_pl c_sl c_co c_ca c_tu, cw_i g kd 60 kdf, cw_i g c_pl 24 plf, cw_i g c_co 24 cof, cw_l g c_ca 384 caf] H locs := hZ.sub [6, 4, 2, 5, 3, 0, 1] (by decide +kernel) rfl
        exact zz_iret hC hZ (⟨9, cof, caf, by refine Eq.symm ?_; rw [fo_cx_span]; refine (if_neg (by (try simp only [d_d, d_b, d_q, d_sz, d_lz, d_n]); exact c3)).trans ?_; refine (if_pos (by (try simp only [d_d, d_b, d_q, d_sz, d_lz, d_n]); exact c7)).trans ?_; refine (if_pos (by (try simp only [d_d, d_b, d_q, d_sz, d_lz, d_n]); exact c10)).trans ?_; first | (simp only [d_d, d_b, d_q, d_sz, d_lz, d_n]; done) | rfl, h_C, rfl⟩) (Nat.le_of_ble_eq_true rfl) (Nat.le_of_ble_eq_true rfl) dX7_span_72
      · refine lv_iload hx hb dX7_span_41 (lv_at hl 0 rfl) ?_
        refine lv_iconst (v := 5) hx hb dX7_span_43 (by decide) ?_
        refine lv_icmp_gt (tgt := 66) hx hb dX7_span_44 (by decide) (fun c13 => ?_) (fun c13 => ?_)
        · refine lv_aload_n hx hb dX7_span_66 rfl (lv_at hl 1 rfl) ?_
          refine lv_bipush (v := 9) hx hb dX7_span_67 (by decide) ?_
          refine zz_iV (As := [.int 9]) (wc := [cw_k6 h0 st mk lk ch ru mr md la]) (wr := [cw_i g c_co 24 cof, cw_l g c_ca 384 caf, cw_k0 ch st (nI nd) c_pl c_sl c_co c_ca c_tu, cw_i g c_pl 24 plf, cw_k5 st (nI na) (nI nu) kd dp cl sa ln bt pn bf, cw_i g kd 60 kdf]) (rest := []) hC hZ hs hl zc_X7_65 (co_fail g h0 st mk lk ch ru mr md la 9) [0] [1, 2, 3, 4, 5, 6] rfl rfl (by decide +kernel) (ci := 6) (q0 := 0) rfl rfl rfl rfl (Nat.le_of_ble_eq_true rfl) ⟨⟨Nat.le_of_ble_eq_true rfl, Nat.le_of_ble_eq_true rfl⟩, Nat.le_of_ble_eq_true rfl, Nat.le_of_ble_eq_true rfl⟩ dX7_span_69 (fun r14 u15 H locs hp hZ => ?_)
          obtain ⟨rfl, rfl⟩ := hp
          have hZ : zz_Z g A s.heap [cw_i g c_co 24 cof, cw_l g c_ca 384 caf, cw_k0 ch st (nI nd) c_pl c_sl c_co c_ca c_tu, cw_i g c_pl 24 plf, cw_k5 st (nI na) (nI nu) kd dp cl sa ln bt pn bf, cw_i g kd 60 kdf, cw_k6 h0 st mk lk ch ru mr md 9] H locs := hZ
          have hZ : zz_Z g A s.heap [cw_k6 h0 st mk lk ch ru mr md 9, cw_k5 st (nI na) (nI nu) kd dp cl sa ln bt pn bf, cw_k0 ch st (nI nd) c_pl c_sl c_co c_ca c_tu, cw_i g kd 60 kdf, cw_i g c_pl 24 plf, cw_i g c_co 24 cof, cw_l g c_ca 384 caf] H locs := hZ.sub [6, 4, 2, 5, 3, 0, 1] (by decide +kernel) rfl
          exact zz_iret hC hZ (⟨9, cof, caf, by refine Eq.symm ?_; rw [fo_cx_span]; refine (if_neg (by (try simp only [d_d, d_b, d_q, d_sz, d_lz, d_n]); exact c3)).trans ?_; refine (if_pos (by (try simp only [d_d, d_b, d_q, d_sz, d_lz, d_n]); exact c7)).trans ?_; refine (if_neg (by (try simp only [d_d, d_b, d_q, d_sz, d_lz, d_n]); exact c10)).trans ?_; refine (if_pos (by (try simp only [d_d, d_b, d_q, d_sz, d_lz, d_n]); exact c13)).trans ?_; first | (simp only [d_d, d_b, d_q, d_sz, d_lz, d_n]; done) | rfl, h_C, rfl⟩) (Nat.le_of_ble_eq_true rfl) (Nat.le_of_ble_eq_true rfl) dX7_span_72
        · refine lv_iload hx hb dX7_span_47 (lv_at hl 0 rfl) ?_
          refine lv_lload_n hx hb dX7_span_49 rfl (lv_at hl 3 rfl) ?_
          refine zz_iS (As := [.int (kdf b), .long x2]) (wc := []) (wr := [cw_k6 h0 st mk lk ch ru mr md la, cw_i g c_co 24 cof, cw_l g c_ca 384 caf, cw_k0 ch st (nI nd) c_pl c_sl c_co c_ca c_tu, cw_i g c_pl 24 plf, cw_k5 st (nI na) (nI nu) kd dp cl sa ln bt pn bf, cw_i g kd 60 kdf]) (rest := []) hC hZ hs hl zc_X7_148 (co_holds g (kdf b) x2) [] [0, 1, 2, 3, 4, 5, 6] rfl rfl (by decide +kernel) rfl rfl (Nat.le_of_ble_eq_true rfl) ⟨⟨Nat.le_of_ble_eq_true rfl, Nat.le_of_ble_eq_true rfl⟩, Nat.le_of_ble_eq_true rfl, Nat.le_of_ble_eq_true rfl⟩ dX7_span_50 (fun r16 u17 H locs hp hZ => ?_)
          obtain ⟨rfl, rfl⟩ := hp
          have hZ : zz_Z g A s.heap [cw_k6 h0 st mk lk ch ru mr md la, cw_i g c_co 24 cof, cw_l g c_ca 384 caf, cw_k0 ch st (nI nd) c_pl c_sl c_co c_ca c_tu, cw_i g c_pl 24 plf, cw_k5 st (nI na) (nI nu) kd dp cl sa ln bt pn bf, cw_i g kd 60 kdf] H locs := hZ
          refine lv_if_eq (tgt := 66) hx hb dX7_span_53 (by decide) (fun c18 => ?_) (fun c18 => ?_)
          · refine lv_aload_n hx hb dX7_span_66 rfl (lv_at hl 1 rfl) ?_
            refine lv_bipush (v := 9) hx hb dX7_span_67 (by decide) ?_
            refine zz_iV (As := [.int 9]) (wc := [cw_k6 h0 st mk lk ch ru mr md la]) (wr := [cw_i g c_co 24 cof, cw_l g c_ca 384 caf, cw_k0 ch st (nI nd) c_pl c_sl c_co c_ca c_tu, cw_i g c_pl 24 plf, cw_k5 st (nI na) (nI nu) kd dp cl sa ln bt pn bf, cw_i g kd 60 kdf]) (rest := []) hC hZ hs hl zc_X7_65 (co_fail g h0 st mk lk ch ru mr md la 9) [0] [1, 2, 3, 4, 5, 6] rfl rfl (by decide +kernel) (ci := 6) (q0 := 0) rfl rfl rfl rfl (Nat.le_of_ble_eq_true rfl) ⟨⟨Nat.le_of_ble_eq_true rfl, Nat.le_of_ble_eq_true rfl⟩, Nat.le_of_ble_eq_true rfl, Nat.le_of_ble_eq_true rfl⟩ dX7_span_69 (fun r19 u20 H locs hp hZ => ?_)
            obtain ⟨rfl, rfl⟩ := hp
            have hZ : zz_Z g A s.heap [cw_i g c_co 24 cof, cw_l g c_ca 384 caf, cw_k0 ch st (nI nd) c_pl c_sl c_co c_ca c_tu, cw_i g c_pl 24 plf, cw_k5 st (nI na) (nI nu) kd dp cl sa ln bt pn bf, cw_i g kd 60 kdf, cw_k6 h0 st mk lk ch ru mr md 9] H locs := hZ
            have hZ : zz_Z g A s.heap [cw_k6 h0 st mk lk ch ru mr md 9, cw_k5 st (nI na) (nI nu) kd dp cl sa ln bt pn bf, cw_k0 ch st (nI nd) c_pl c_sl c_co c_ca c_tu, cw_i g kd 60 kdf, cw_i g c_pl 24 plf, cw_i g c_co 24 cof, cw_l g c_ca 384 caf] H locs := hZ.sub [6, 4, 2, 5, 3, 0, 1] (by decide +kernel) rfl
            exact zz_iret hC hZ (⟨9, cof, caf, by refine Eq.symm ?_; rw [fo_cx_span]; refine (if_neg (by (try simp only [d_d, d_b, d_q, d_sz, d_lz, d_n]); exact c3)).trans ?_; refine (if_pos (by (try simp only [d_d, d_b, d_q, d_sz, d_lz, d_n]); exact c7)).trans ?_; refine (if_neg (by (try simp only [d_d, d_b, d_q, d_sz, d_lz, d_n]); exact c10)).trans ?_; refine (if_neg (by (try simp only [d_d, d_b, d_q, d_sz, d_lz, d_n]); exact c13)).trans ?_; refine (if_pos (by (try simp only [d_d, d_b, d_q, d_sz, d_lz, d_n]); exact c18)).trans ?_; first | (simp only [d_d, d_b, d_q, d_sz, d_lz, d_n]; done) | rfl, h_C, rfl⟩) (Nat.le_of_ble_eq_true rfl) (Nat.le_of_ble_eq_true rfl) dX7_span_72
          · refine lv_iload hx hb dX7_span_56 (lv_at hl 0 rfl) ?_
            refine lv_lload hx hb dX7_span_58 (lv_at hl 4 rfl) ?_
            refine zz_iS (As := [.int (kdf b), .long x3]) (wc := []) (wr := [cw_k6 h0 st mk lk ch ru mr md la, cw_i g c_co 24 cof, cw_l g c_ca 384 caf, cw_k0 ch st (nI nd) c_pl c_sl c_co c_ca c_tu, cw_i g c_pl 24 plf, cw_k5 st (nI na) (nI nu) kd dp cl sa ln bt pn bf, cw_i g kd 60 kdf]) (rest := []) hC hZ hs hl zc_X7_148 (co_holds g (kdf b) x3) [] [0, 1, 2, 3, 4, 5, 6] rfl rfl (by decide +kernel) rfl rfl (Nat.le_of_ble_eq_true rfl) ⟨⟨Nat.le_of_ble_eq_true rfl, Nat.le_of_ble_eq_true rfl⟩, Nat.le_of_ble_eq_true rfl, Nat.le_of_ble_eq_true rfl⟩ dX7_span_60 (fun r21 u22 H locs hp hZ => ?_)
            obtain ⟨rfl, rfl⟩ := hp
            have hZ : zz_Z g A s.heap [cw_k6 h0 st mk lk ch ru mr md la, cw_i g c_co 24 cof, cw_l g c_ca 384 caf, cw_k0 ch st (nI nd) c_pl c_sl c_co c_ca c_tu, cw_i g c_pl 24 plf, cw_k5 st (nI na) (nI nu) kd dp cl sa ln bt pn bf, cw_i g kd 60 kdf] H locs := hZ
            refine lv_if_ne (tgt := 73) hx hb dX7_span_63 (by decide) (fun c23 => ?_) (fun c23 => ?_)
            · refine lv_aload_n hx hb dX7_span_73 rfl (lv_at hl 1 rfl) ?_
              refine zz_get hC hZ 0 rfl zf_X7_35 rfl dX7_span_74 ?_
              refine zz_get hC hZ 3 rfl zf_X7_231 rfl dX7_span_77 ?_
              refine lv_iload_n hx hb dX7_span_80 rfl (lv_at hl 2 rfl) ?_
              have bd24 : d < 24 := by omega
              refine zz_ialdn hC hZ 1 rfl bd24 (by decide) dX7_span_81 ?_
              refine zz_topi (v := nI n) (e_c) ?_
              refine lv_istore (lv' := [(9, .int (nI n)), (8, .int (kdf b)), (0, .ref h0), (1, .int (nI d)), (2, .long x2), (4, .long x3), (6, .long x4)]) hx hb dX7_span_82 hl (by decide) rfl (fun ls hl => ?_)
              refine lv_aload_n hx hb dX7_span_84 rfl (lv_at hl 2 rfl) ?_
              refine zz_get hC hZ 0 rfl zf_X7_35 rfl dX7_span_85 ?_
              refine lv_iload_n hx hb dX7_span_88 rfl (lv_at hl 3 rfl) ?_
              refine lv_lload_n hx hb dX7_span_89 rfl (lv_at hl 4 rfl) ?_
              refine lv_lload hx hb dX7_span_90 (lv_at hl 5 rfl) ?_
              refine lv_lload hx hb dX7_span_92 (lv_at hl 6 rfl) ?_
              refine zz_iV (As := [.int (nI d), .long x2, .long x3, .long x4]) (wc := [cw_k0 ch st (nI nd) c_pl c_sl c_co c_ca c_tu, cw_i g c_co 24 cof, cw_l g c_ca 384 caf]) (wr := [cw_k6 h0 st mk lk ch ru mr md la, cw_i g c_pl 24 plf, cw_k5 st (nI na) (nI nu) kd dp cl sa ln bt pn bf, cw_i g kd 60 kdf]) (rest := []) hC hZ hs hl zc_X7_238 (co_appendSpan g ch st c_pl c_sl c_co c_ca c_tu nd cof caf d n x2 x3 x4 (by omega) (e_c)) [3, 1, 2] [0, 4, 5, 6] rfl rfl (by decide +kernel) (ci := 0) (q0 := 0) rfl rfl rfl rfl (Nat.le_of_ble_eq_true rfl) ⟨⟨Nat.le_of_ble_eq_true rfl, Nat.le_of_ble_eq_true rfl⟩, Nat.le_of_ble_eq_true rfl, Nat.le_of_ble_eq_true rfl⟩ dX7_span_94 (fun r25 u26 H locs hp hZ => ?_)
              obtain ⟨co2_27, ca2_28, n2_29, f30, f31, f32, f33, f34, rfl⟩ := hp
              have hZ : zz_Z g A s.heap [cw_k6 h0 st mk lk ch ru mr md la, cw_i g c_pl 24 plf, cw_k5 st (nI na) (nI nu) kd dp cl sa ln bt pn bf, cw_i g kd 60 kdf, cw_k0 ch st (nI nd) c_pl c_sl c_co c_ca c_tu, cw_i g c_co 24 co2_27, cw_l g c_ca 384 ca2_28] H locs := hZ
              have d_r25 : (sp_spR x2 x3 x4 (d * 16) n caf).1 = r25 := by rw [← f33]
              have d_n2_29 : (sp_spR x2 x3 x4 (d * 16) n caf).2.1 = n2_29 := by rw [← f33]
              have d_ca2_28 : (sp_spR x2 x3 x4 (d * 16) n caf).2.2 = ca2_28 := by rw [← f33]
              have d_co2_27 : upd cof d (nI n2_29) = co2_27 := f34.symm
              refine lv_if_ne (tgt := 118) hx hb dX7_span_97 (by decide) (fun c35 => ?_) (fun c35 => ?_)
              · refine lv_aload_n hx hb dX7_span_118 rfl (lv_at hl 2 rfl) ?_
                refine lv_aload_n hx hb dX7_span_119 rfl (lv_at hl 2 rfl) ?_
                refine zz_get hC hZ 0 rfl zf_X7_35 rfl dX7_span_120 ?_
                refine zz_get hC hZ 4 rfl zf_X7_231 rfl dX7_span_123 ?_
                refine lv_iload_n hx hb dX7_span_126 rfl (lv_at hl 3 rfl) ?_
                refine zz_ialdn hC hZ 5 rfl bd24 (by decide) dX7_span_127 ?_
                refine zz_iV (As := [.int (co2_27 d)]) (wc := [cw_k6 h0 st mk lk ch ru mr md la]) (wr := [cw_i g c_pl 24 plf, cw_k5 st (nI na) (nI nu) kd dp cl sa ln bt pn bf, cw_i g kd 60 kdf, cw_k0 ch st (nI nd) c_pl c_sl c_co c_ca c_tu, cw_i g c_co 24 co2_27, cw_l g c_ca 384 ca2_28]) (rest := []) hC hZ hs hl zc_X7_100 (co_fine g h0 st mk lk ch ru mr md la (co2_27 d)) [0] [1, 2, 3, 4, 5, 6] rfl rfl (by decide +kernel) (ci := 6) (q0 := 0) rfl rfl rfl rfl (Nat.le_of_ble_eq_true rfl) ⟨⟨Nat.le_of_ble_eq_true rfl, Nat.le_of_ble_eq_true rfl⟩, Nat.le_of_ble_eq_true rfl, Nat.le_of_ble_eq_true rfl⟩ dX7_span_128 (fun r36 u37 H locs hp hZ => ?_)
                obtain ⟨rfl, rfl⟩ := hp
                have hZ : zz_Z g A s.heap [cw_i g c_pl 24 plf, cw_k5 st (nI na) (nI nu) kd dp cl sa ln bt pn bf, cw_i g kd 60 kdf, cw_k0 ch st (nI nd) c_pl c_sl c_co c_ca c_tu, cw_i g c_co 24 co2_27, cw_l g c_ca 384 ca2_28, cw_k6 h0 st mk lk ch ru mr md 0] H locs := hZ
                have hZ : zz_Z g A s.heap [cw_k6 h0 st mk lk ch ru mr md 0, cw_k5 st (nI na) (nI nu) kd dp cl sa ln bt pn bf, cw_k0 ch st (nI nd) c_pl c_sl c_co c_ca c_tu, cw_i g kd 60 kdf, cw_i g c_pl 24 plf, cw_i g c_co 24 co2_27, cw_l g c_ca 384 ca2_28] H locs := hZ.sub [6, 1, 3, 2, 0, 4, 5] (by decide +kernel) rfl
                exact zz_iret hC hZ (⟨0, co2_27, ca2_28, by refine Eq.symm ?_; rw [fo_cx_span]; refine (if_neg (by (try simp only [d_d, d_b, d_q, d_sz, d_lz, d_n, d_r25, d_n2_29, d_ca2_28, d_co2_27]); exact c3)).trans ?_; refine (if_pos (by (try simp only [d_d, d_b, d_q, d_sz, d_lz, d_n, d_r25, d_n2_29, d_ca2_28, d_co2_27]); exact c7)).trans ?_; refine (if_neg (by (try simp only [d_d, d_b, d_q, d_sz, d_lz, d_n, d_r25, d_n2_29, d_ca2_28, d_co2_27]); exact c10)).trans ?_; refine (if_neg (by (try simp only [d_d, d_b, d_q, d_sz, d_lz, d_n, d_r25, d_n2_29, d_ca2_28, d_co2_27]); exact c13)).trans ?_; refine (if_neg (by (try simp only [d_d, d_b, d_q, d_sz, d_lz, d_n, d_r25, d_n2_29, d_ca2_28, d_co2_27]); exact c18)).trans ?_; refine (if_neg (by (try simp only [d_d, d_b, d_q, d_sz, d_lz, d_n, d_r25, d_n2_29, d_ca2_28, d_co2_27]); exact c23)).trans ?_; refine (if_neg (by (try simp only [d_d, d_b, d_q, d_sz, d_lz, d_n, d_r25, d_n2_29, d_ca2_28, d_co2_27]); exact c35)).trans ?_; first | (simp only [d_d, d_b, d_q, d_sz, d_lz, d_n, d_r25, d_n2_29, d_ca2_28, d_co2_27]; done) | rfl, zl_CIs h_C f30 f31 f32, rfl⟩) (Nat.le_of_ble_eq_true rfl) (Nat.le_of_ble_eq_true rfl) dX7_span_131
              · refine lv_aload_n hx hb dX7_span_100 rfl (lv_at hl 2 rfl) ?_
                refine zz_get hC hZ 0 rfl zf_X7_35 rfl dX7_span_101 ?_
                refine zz_get hC hZ 4 rfl zf_X7_231 rfl dX7_span_104 ?_
                refine lv_iload_n hx hb dX7_span_107 rfl (lv_at hl 3 rfl) ?_
                refine lv_iload hx hb dX7_span_108 (lv_at hl 0 rfl) ?_
                refine zz_iastn hC hZ 5 rfl bd24 (by decide) dX7_span_110 (fun H locs hZ => ?_)
                have hZ : zz_Z g A s.heap [cw_k6 h0 st mk lk ch ru mr md la, cw_i g c_pl 24 plf, cw_k5 st (nI na) (nI nu) kd dp cl sa ln bt pn bf, cw_i g kd 60 kdf, cw_k0 ch st (nI nd) c_pl c_sl c_co c_ca c_tu, cw_i g c_co 24 (upd co2_27 d (nI n)), cw_l g c_ca 384 ca2_28] H locs := hZ
                refine lv_aload_n hx hb dX7_span_111 rfl (lv_at hl 2 rfl) ?_
                refine lv_bipush (v := 8) hx hb dX7_span_112 (by decide) ?_
                refine zz_iV (As := [.int 8]) (wc := [cw_k6 h0 st mk lk ch ru mr md la]) (wr := [cw_i g c_pl 24 plf, cw_k5 st (nI na) (nI nu) kd dp cl sa ln bt pn bf, cw_i g kd 60 kdf, cw_k0 ch st (nI nd) c_pl c_sl c_co c_ca c_tu, cw_i g c_co 24 (upd co2_27 d (nI n)), cw_l g c_ca 384 ca2_28]) (rest := []) hC hZ hs hl zc_X7_65 (co_fail g h0 st mk lk ch ru mr md la 8) [0] [1, 2, 3, 4, 5, 6] rfl rfl (by decide +kernel) (ci := 6) (q0 := 0) rfl rfl rfl rfl (Nat.le_of_ble_eq_true rfl) ⟨⟨Nat.le_of_ble_eq_true rfl, Nat.le_of_ble_eq_true rfl⟩, Nat.le_of_ble_eq_true rfl, Nat.le_of_ble_eq_true rfl⟩ dX7_span_114 (fun r38 u39 H locs hp hZ => ?_)
                obtain ⟨rfl, rfl⟩ := hp
                have hZ : zz_Z g A s.heap [cw_i g c_pl 24 plf, cw_k5 st (nI na) (nI nu) kd dp cl sa ln bt pn bf, cw_i g kd 60 kdf, cw_k0 ch st (nI nd) c_pl c_sl c_co c_ca c_tu, cw_i g c_co 24 (upd co2_27 d (nI n)), cw_l g c_ca 384 ca2_28, cw_k6 h0 st mk lk ch ru mr md 8] H locs := hZ
                have hZ : zz_Z g A s.heap [cw_k6 h0 st mk lk ch ru mr md 8, cw_k5 st (nI na) (nI nu) kd dp cl sa ln bt pn bf, cw_k0 ch st (nI nd) c_pl c_sl c_co c_ca c_tu, cw_i g kd 60 kdf, cw_i g c_pl 24 plf, cw_i g c_co 24 (upd co2_27 d (nI n)), cw_l g c_ca 384 ca2_28] H locs := hZ.sub [6, 1, 3, 2, 0, 4, 5] (by decide +kernel) rfl
                exact zz_iret hC hZ (⟨8, (upd co2_27 d (nI n)), ca2_28, by refine Eq.symm ?_; rw [fo_cx_span]; refine (if_neg (by (try simp only [d_d, d_b, d_q, d_sz, d_lz, d_n, d_r25, d_n2_29, d_ca2_28, d_co2_27]); exact c3)).trans ?_; refine (if_pos (by (try simp only [d_d, d_b, d_q, d_sz, d_lz, d_n, d_r25, d_n2_29, d_ca2_28, d_co2_27]); exact c7)).trans ?_; refine (if_neg (by (try simp only [d_d, d_b, d_q, d_sz, d_lz, d_n, d_r25, d_n2_29, d_ca2_28, d_co2_27]); exact c10)).trans ?_; refine (if_neg (by (try simp only [d_d, d_b, d_q, d_sz, d_lz, d_n, d_r25, d_n2_29, d_ca2_28, d_co2_27]); exact c13)).trans ?_; refine (if_neg (by (try simp only [d_d, d_b, d_q, d_sz, d_lz, d_n, d_r25, d_n2_29, d_ca2_28, d_co2_27]); exact c18)).trans ?_; refine (if_neg (by (try simp only [d_d, d_b, d_q, d_sz, d_lz, d_n, d_r25, d_n2_29, d_ca2_28, d_co2_27]); exact c23)).trans ?_; refine (if_pos (by (try simp only [d_d, d_b, d_q, d_sz, d_lz, d_n, d_r25, d_n2_29, d_ca2_28, d_co2_27]); exact c35)).trans ?_; first | (simp only [d_d, d_b, d_q, d_sz, d_lz, d_n, d_r25, d_n2_29, d_ca2_28, d_co2_27]; done) | rfl, zl_CIs h_C pk_us (by omega) (zl_up f32), rfl⟩) (Nat.le_of_ble_eq_true rfl) (Nat.le_of_ble_eq_true rfl) dX7_span_117
            · refine lv_aload_n hx hb dX7_span_66 rfl (lv_at hl 1 rfl) ?_
              refine lv_bipush (v := 9) hx hb dX7_span_67 (by decide) ?_
              refine zz_iV (As := [.int 9]) (wc := [cw_k6 h0 st mk lk ch ru mr md la]) (wr := [cw_i g c_co 24 cof, cw_l g c_ca 384 caf, cw_k0 ch st (nI nd) c_pl c_sl c_co c_ca c_tu, cw_i g c_pl 24 plf, cw_k5 st (nI na) (nI nu) kd dp cl sa ln bt pn bf, cw_i g kd 60 kdf]) (rest := []) hC hZ hs hl zc_X7_65 (co_fail g h0 st mk lk ch ru mr md la 9) [0] [1, 2, 3, 4, 5, 6] rfl rfl (by decide +kernel) (ci := 6) (q0 := 0) rfl rfl rfl rfl (Nat.le_of_ble_eq_true rfl) ⟨⟨Nat.le_of_ble_eq_true rfl, Nat.le_of_ble_eq_true rfl⟩, Nat.le_of_ble_eq_true rfl, Nat.le_of_ble_eq_true rfl⟩ dX7_span_69 (fun r40 u41 H locs hp hZ => ?_)
              obtain ⟨rfl, rfl⟩ := hp
              have hZ : zz_Z g A s.heap [cw_i g c_co 24 cof, cw_l g c_ca 384 caf, cw_k0 ch st (nI nd) c_pl c_sl c_co c_ca c_tu, cw_i g c_pl 24 plf, cw_k5 st (nI na) (nI nu) kd dp cl sa ln bt pn bf, cw_i g kd 60 kdf, cw_k6 h0 st mk lk ch ru mr md 9] H locs := hZ
              have hZ : zz_Z g A s.heap [cw_k6 h0 st mk lk ch ru mr md 9, cw_k5 st (nI na) (nI nu) kd dp cl sa ln bt pn bf, cw_k0 ch st (nI nd) c_pl c_sl c_co c_ca c_tu, cw_i g kd 60 kdf, cw_i g c_pl 24 plf, cw_i g c_co 24 cof, cw_l g c_ca 384 caf] H locs := hZ.sub [6, 4, 2, 5, 3, 0, 1] (by decide +kernel) rfl
              exact zz_iret hC hZ (⟨9, cof, caf, by refine Eq.symm ?_; rw [fo_cx_span]; refine (if_neg (by (try simp only [d_d, d_b, d_q, d_sz, d_lz, d_n]); exact c3)).trans ?_; refine (if_pos (by (try simp only [d_d, d_b, d_q, d_sz, d_lz, d_n]); exact c7)).trans ?_; refine (if_neg (by (try simp only [d_d, d_b, d_q, d_sz, d_lz, d_n]); exact c10)).trans ?_; refine (if_neg (by (try simp only [d_d, d_b, d_q, d_sz, d_lz, d_n]); exact c13)).trans ?_; refine (if_neg (by (try simp only [d_d, d_b, d_q, d_sz, d_lz, d_n]); exact c18)).trans ?_; refine (if_pos (by (try simp only [d_d, d_b, d_q, d_sz, d_lz, d_n]); exact c23)).trans ?_; first | (simp only [d_d, d_b, d_q, d_sz, d_lz, d_n]; done) | rfl, h_C, rfl⟩) (Nat.le_of_ble_eq_true rfl) (Nat.le_of_ble_eq_true rfl) dX7_span_72
    · refine lv_aload_n hx hb dX7_span_18 rfl (lv_at hl 0 rfl) ?_
      refine lv_bipush (v := 9) hx hb dX7_span_19 (by decide) ?_
      refine zz_iV (As := [.int 9]) (wc := [cw_k6 h0 st mk lk ch ru mr md la]) (wr := [cw_k5 st (nI na) (nI nu) kd dp cl sa ln bt pn bf, cw_i g kd 60 kdf, cw_i g c_pl 24 plf, cw_i g c_co 24 cof, cw_l g c_ca 384 caf, cw_k0 ch st (nI nd) c_pl c_sl c_co c_ca c_tu]) (rest := []) hC hZ hs hl zc_X7_65 (co_fail g h0 st mk lk ch ru mr md la 9) [0] [1, 2, 3, 4, 5, 6] rfl rfl (by decide +kernel) (ci := 6) (q0 := 0) rfl rfl rfl rfl (Nat.le_of_ble_eq_true rfl) ⟨⟨Nat.le_of_ble_eq_true rfl, Nat.le_of_ble_eq_true rfl⟩, Nat.le_of_ble_eq_true rfl, Nat.le_of_ble_eq_true rfl⟩ dX7_span_21 (fun r42 u43 H locs hp hZ => ?_)
      obtain ⟨rfl, rfl⟩ := hp
      have hZ : zz_Z g A s.heap [cw_k5 st (nI na) (nI nu) kd dp cl sa ln bt pn bf, cw_i g kd 60 kdf, cw_i g c_pl 24 plf, cw_i g c_co 24 cof, cw_l g c_ca 384 caf, cw_k0 ch st (nI nd) c_pl c_sl c_co c_ca c_tu, cw_k6 h0 st mk lk ch ru mr md 9] H locs := hZ
      have hZ : zz_Z g A s.heap [cw_k6 h0 st mk lk ch ru mr md 9, cw_k5 st (nI na) (nI nu) kd dp cl sa ln bt pn bf, cw_k0 ch st (nI nd) c_pl c_sl c_co c_ca c_tu, cw_i g kd 60 kdf, cw_i g c_pl 24 plf, cw_i g c_co 24 cof, cw_l g c_ca 384 caf] H locs := hZ.sub [6, 0, 5, 1, 2, 3, 4] (by decide +kernel) rfl
      exact zz_iret hC hZ (⟨9, cof, caf, by refine Eq.symm ?_; rw [fo_cx_span]; refine (if_neg (by (try simp only [d_d, d_b, d_q, d_sz, d_lz, d_n]); exact c3)).trans ?_; refine (if_neg (by (try simp only [d_d, d_b, d_q, d_sz, d_lz, d_n]); exact c7)).trans ?_; first | (simp only [d_d, d_b, d_q, d_sz, d_lz, d_n]; done) | rfl, h_C, rfl⟩) (Nat.le_of_ble_eq_true rfl) (Nat.le_of_ble_eq_true rfl) dX7_span_24
theorem dg_X7_choose_0 : (decode cX7_choose 0 = .ok (.aload_n 0, 1)) ∧ (decode cX7_choose 1 = .ok (.getfield 35, 3)) ∧ (decode cX7_choose 4 = .ok (.iload_n 1, 1)) ∧ (decode cX7_choose 5 = .ok (.iload_n 2, 1)) ∧ (decode cX7_choose 6 = .ok (.invokevirtual 242, 3)) ∧ (decode cX7_choose 9 = .ok (.ifCond .ne 10, 3)) ∧ (decode cX7_choose 12 = .ok (.aload_n 0, 1)) ∧ (decode cX7_choose 13 = .ok (.bipush 9, 2)) ∧ (decode cX7_choose 15 = .ok (.invokevirtual 65, 3)) ∧ (decode cX7_choose 18 = .ok (.ireturn, 1)) ∧ (decode cX7_choose 19 = .ok (.aload_n 0, 1)) ∧ (decode cX7_choose 20 = .ok (.getfield 10, 3)) ∧ (decode cX7_choose 23 = .ok (.getfield 152, 3)) ∧ (decode cX7_choose 26 = .ok (.aload_n 0, 1)) ∧ (decode cX7_choose 27 = .ok (.getfield 35, 3)) ∧ (decode cX7_choose 30 = .ok (.getfield 245, 3)) := by decide +kernel
theorem dX7_choose_0 : decode cX7_choose 0 = .ok (.aload_n 0, 1) := dg_X7_choose_0.1
theorem dX7_choose_1 : decode cX7_choose 1 = .ok (.getfield 35, 3) := dg_X7_choose_0.2.1
theorem dX7_choose_4 : decode cX7_choose 4 = .ok (.iload_n 1, 1) := dg_X7_choose_0.2.2.1
theorem dX7_choose_5 : decode cX7_choose 5 = .ok (.iload_n 2, 1) := dg_X7_choose_0.2.2.2.1
theorem dX7_choose_6 : decode cX7_choose 6 = .ok (.invokevirtual 242, 3) := dg_X7_choose_0.2.2.2.2.1
theorem dX7_choose_9 : decode cX7_choose 9 = .ok (.ifCond .ne 10, 3) := dg_X7_choose_0.2.2.2.2.2.1
theorem dX7_choose_12 : decode cX7_choose 12 = .ok (.aload_n 0, 1) := dg_X7_choose_0.2.2.2.2.2.2.1
theorem dX7_choose_13 : decode cX7_choose 13 = .ok (.bipush 9, 2) := dg_X7_choose_0.2.2.2.2.2.2.2.1
theorem dX7_choose_15 : decode cX7_choose 15 = .ok (.invokevirtual 65, 3) := dg_X7_choose_0.2.2.2.2.2.2.2.2.1
theorem dX7_choose_18 : decode cX7_choose 18 = .ok (.ireturn, 1) := dg_X7_choose_0.2.2.2.2.2.2.2.2.2.1
theorem dX7_choose_19 : decode cX7_choose 19 = .ok (.aload_n 0, 1) := dg_X7_choose_0.2.2.2.2.2.2.2.2.2.2.1
theorem dX7_choose_20 : decode cX7_choose 20 = .ok (.getfield 10, 3) := dg_X7_choose_0.2.2.2.2.2.2.2.2.2.2.2.1
theorem dX7_choose_23 : decode cX7_choose 23 = .ok (.getfield 152, 3) := dg_X7_choose_0.2.2.2.2.2.2.2.2.2.2.2.2.1
theorem dX7_choose_26 : decode cX7_choose 26 = .ok (.aload_n 0, 1) := dg_X7_choose_0.2.2.2.2.2.2.2.2.2.2.2.2.2.1
theorem dX7_choose_27 : decode cX7_choose 27 = .ok (.getfield 35, 3) := dg_X7_choose_0.2.2.2.2.2.2.2.2.2.2.2.2.2.2.1
theorem dX7_choose_30 : decode cX7_choose 30 = .ok (.getfield 245, 3) := dg_X7_choose_0.2.2.2.2.2.2.2.2.2.2.2.2.2.2.2
theorem dg_X7_choose_33 : (decode cX7_choose 33 = .ok (.iload_n 1, 1)) ∧ (decode cX7_choose 34 = .ok (.iaload, 1)) ∧ (decode cX7_choose 35 = .ok (.baload, 1)) ∧ (decode cX7_choose 36 = .ok (.ifCond .eq 10, 3)) ∧ (decode cX7_choose 39 = .ok (.aload_n 0, 1)) ∧ (decode cX7_choose 40 = .ok (.bipush 6, 2)) ∧ (decode cX7_choose 42 = .ok (.invokevirtual 65, 3)) ∧ (decode cX7_choose 45 = .ok (.ireturn, 1)) ∧ (decode cX7_choose 46 = .ok (.aload_n 0, 1)) ∧ (decode cX7_choose 47 = .ok (.getfield 10, 3)) ∧ (decode cX7_choose 50 = .ok (.getfield 116, 3)) ∧ (decode cX7_choose 53 = .ok (.aload_n 0, 1)) ∧ (decode cX7_choose 54 = .ok (.getfield 35, 3)) ∧ (decode cX7_choose 57 = .ok (.getfield 245, 3)) ∧ (decode cX7_choose 60 = .ok (.iload_n 1, 1)) ∧ (decode cX7_choose 61 = .ok (.iaload, 1)) := by decide +kernel
theorem dX7_choose_33 : decode cX7_choose 33 = .ok (.iload_n 1, 1) := dg_X7_choose_33.1
theorem dX7_choose_34 : decode cX7_choose 34 = .ok (.iaload, 1) := dg_X7_choose_33.2.1
theorem dX7_choose_35 : decode cX7_choose 35 = .ok (.baload, 1) := dg_X7_choose_33.2.2.1
theorem dX7_choose_36 : decode cX7_choose 36 = .ok (.ifCond .eq 10, 3) := dg_X7_choose_33.2.2.2.1
theorem dX7_choose_39 : decode cX7_choose 39 = .ok (.aload_n 0, 1) := dg_X7_choose_33.2.2.2.2.1
theorem dX7_choose_40 : decode cX7_choose 40 = .ok (.bipush 6, 2) := dg_X7_choose_33.2.2.2.2.2.1
theorem dX7_choose_42 : decode cX7_choose 42 = .ok (.invokevirtual 65, 3) := dg_X7_choose_33.2.2.2.2.2.2.1
theorem dX7_choose_45 : decode cX7_choose 45 = .ok (.ireturn, 1) := dg_X7_choose_33.2.2.2.2.2.2.2.1
theorem dX7_choose_46 : decode cX7_choose 46 = .ok (.aload_n 0, 1) := dg_X7_choose_33.2.2.2.2.2.2.2.2.1
theorem dX7_choose_47 : decode cX7_choose 47 = .ok (.getfield 10, 3) := dg_X7_choose_33.2.2.2.2.2.2.2.2.2.1
theorem dX7_choose_50 : decode cX7_choose 50 = .ok (.getfield 116, 3) := dg_X7_choose_33.2.2.2.2.2.2.2.2.2.2.1
theorem dX7_choose_53 : decode cX7_choose 53 = .ok (.aload_n 0, 1) := dg_X7_choose_33.2.2.2.2.2.2.2.2.2.2.2.1
theorem dX7_choose_54 : decode cX7_choose 54 = .ok (.getfield 35, 3) := dg_X7_choose_33.2.2.2.2.2.2.2.2.2.2.2.2.1
theorem dX7_choose_57 : decode cX7_choose 57 = .ok (.getfield 245, 3) := dg_X7_choose_33.2.2.2.2.2.2.2.2.2.2.2.2.2.1
theorem dX7_choose_60 : decode cX7_choose 60 = .ok (.iload_n 1, 1) := dg_X7_choose_33.2.2.2.2.2.2.2.2.2.2.2.2.2.2.1
theorem dX7_choose_61 : decode cX7_choose 61 = .ok (.iaload, 1) := dg_X7_choose_33.2.2.2.2.2.2.2.2.2.2.2.2.2.2.2
theorem dg_X7_choose_62 : (decode cX7_choose 62 = .ok (.aload_n 0, 1)) ∧ (decode cX7_choose 63 = .ok (.getfield 35, 3)) ∧ (decode cX7_choose 66 = .ok (.iload_n 1, 1)) ∧ (decode cX7_choose 67 = .ok (.iload_n 2, 1)) ∧ (decode cX7_choose 68 = .ok (.invokevirtual 248, 3)) ∧ (decode cX7_choose 71 = .ok (.lastore, 1)) ∧ (decode cX7_choose 72 = .ok (.aload_n 0, 1)) ∧ (decode cX7_choose 73 = .ok (.iconst 0, 1)) ∧ (decode cX7_choose 74 = .ok (.invokevirtual 100, 3)) ∧ (decode cX7_choose 77 = .ok (.ireturn, 1)) := by decide +kernel
theorem dX7_choose_62 : decode cX7_choose 62 = .ok (.aload_n 0, 1) := dg_X7_choose_62.1
theorem dX7_choose_63 : decode cX7_choose 63 = .ok (.getfield 35, 3) := dg_X7_choose_62.2.1
theorem dX7_choose_66 : decode cX7_choose 66 = .ok (.iload_n 1, 1) := dg_X7_choose_62.2.2.1
theorem dX7_choose_67 : decode cX7_choose 67 = .ok (.iload_n 2, 1) := dg_X7_choose_62.2.2.2.1
theorem dX7_choose_68 : decode cX7_choose 68 = .ok (.invokevirtual 248, 3) := dg_X7_choose_62.2.2.2.2.1
theorem dX7_choose_71 : decode cX7_choose 71 = .ok (.lastore, 1) := dg_X7_choose_62.2.2.2.2.2.1
theorem dX7_choose_72 : decode cX7_choose 72 = .ok (.aload_n 0, 1) := dg_X7_choose_62.2.2.2.2.2.2.1
theorem dX7_choose_73 : decode cX7_choose 73 = .ok (.iconst 0, 1) := dg_X7_choose_62.2.2.2.2.2.2.2.1
theorem dX7_choose_74 : decode cX7_choose 74 = .ok (.invokevirtual 100, 3) := dg_X7_choose_62.2.2.2.2.2.2.2.2.1
theorem dX7_choose_77 : decode cX7_choose 77 = .ok (.ireturn, 1) := dg_X7_choose_62.2.2.2.2.2.2.2.2.2
theorem zk_586 : Cond.methodLink RX7 242 yX0_hasCandidate ∈ zz_w := zz_in (List.mem_append_right _ (List.mem_append_right _ (List.mem_append_right _ (List.mem_append_left _ (List.mem_of_getElem? (i := 106) (by decide +kernel)))))) rfl
set_option maxRecDepth 20000 in
theorem zk_589 : Cond.code yX0_hasCandidate cX0_hasCandidate 3 (some .boolean) ∈ zz_w := zz_in (List.mem_append_right _ (List.mem_append_right _ (List.mem_append_right _ (List.mem_append_left _ (List.mem_of_getElem? (i := 109) (rfl)))))) rfl
theorem zk_587 : Cond.instanceMethod yX0_hasCandidate ∈ zz_w := zz_in (List.mem_append_right _ (List.mem_append_right _ (List.mem_append_right _ (List.mem_append_left _ (List.mem_of_getElem? (i := 107) (by decide +kernel)))))) rfl
theorem zk_588 : Cond.selects RX0 yX0_hasCandidate yX0_hasCandidate ∈ zz_w := zz_in (List.mem_append_right _ (List.mem_append_right _ (List.mem_append_right _ (List.mem_append_left _ (List.mem_of_getElem? (i := 108) (by decide +kernel)))))) rfl
theorem zc_X7_242 : zz_cV RX7 242 yX0_hasCandidate cX0_hasCandidate 3 (some .boolean) 2 := ⟨⟨zk_586, zk_589, zk_5, by decide, by decide, by decide +kernel⟩, zk_587, zk_588⟩
theorem zk_143 : Cond.fieldLink RX7 245 RX0 "slots" "[I" ∈ zz_w := zz_in (List.mem_append_right _ (List.mem_append_left _ (List.mem_of_getElem? (i := 143) (by decide +kernel)))) rfl
theorem zf_X7_245 : zz_f RX7 245 0 3 := ⟨RX0, TX0, 7, rfl, zi_X0, by decide, zk_143⟩
theorem zk_591 : Cond.methodLink RX7 248 yX0_candidateAt ∈ zz_w := zz_in (List.mem_append_right _ (List.mem_append_right _ (List.mem_append_right _ (List.mem_append_left _ (List.mem_of_getElem? (i := 111) (by decide +kernel)))))) rfl
theorem zc_X7_248 : zz_cV RX7 248 yX0_candidateAt cX0_candidateAt 3 (some .long) 2 := ⟨⟨zk_591, zk_566, zk_5, by decide, by decide, by decide +kernel⟩, zk_564, zk_565⟩
def fo_cx_choose (na : Nat) (nu : Nat) (nd : Nat) (btf : Nat → Int64) (pnf : Nat → Int32) (slf : Nat → Int32) (cof : Nat → Int32) (caf : Nat → Int64) (dpf : Nat → Int32) (saf : Nat → Int32) (lnf : Nat → Int32) (plf : Nat → Int32) (x1 : Int32) (x2 : Int32) : (Int32) × (Nat → Int64) := (if (sp_hc nd cof x1 x2) = 0 then (-9, btf) else (if (pnf (((saf ((plf x1.toNatClampNeg).toNatClampNeg / 1000)).toNatClampNeg) + ((plf x1.toNatClampNeg).toNatClampNeg % 1000))) = 0 then (0, (vp_updL btf (((saf ((plf x1.toNatClampNeg).toNatClampNeg / 1000)).toNatClampNeg) + ((plf x1.toNatClampNeg).toNatClampNeg % 1000)) (caf (x1.toNatClampNeg * 16 + x2.toNatClampNeg)))) else (-6, btf)))
abbrev rm_cx_choose : Room := { frames := 2, cells := 0, slots := 0, locals := 43 }
abbrev po_cx_choose (g : zz_G) (h0 : Nat) (st : Nat) (mk : Nat) (lk : Nat) (ch : Nat) (ru : Nat) (mr : Nat) (kd : Nat) (dp : Nat) (cl : Nat) (sa : Nat) (ln : Nat) (bt : Nat) (pn : Nat) (bf : Nat) (c_pl : Nat) (c_sl : Nat) (c_co : Nat) (c_ca : Nat) (c_tu : Nat) (md : Int32) (la : Int32) (na : Nat) (nu : Nat) (nd : Nat) (btf : Nat → Int64) (pnf : Nat → Int32) (slf : Nat → Int32) (cof : Nat → Int32) (caf : Nat → Int64) (dpf : Nat → Int32) (saf : Nat → Int32) (lnf : Nat → Int32) (plf : Nat → Int32) (x1 : Int32) (x2 : Int32) (h_S : zz_SI na nu dpf saf lnf) (h_C : zz_CI na nd saf lnf plf slf cof) : Int32 → va_W → Prop := fun (r : Int32) (u : va_W) => ∃ (la2 : Int32) (bt2 : Nat → Int64), (r, bt2) = fo_cx_choose na nu nd btf pnf slf cof caf dpf saf lnf plf x1 x2 ∧ (∀ j, (∀ d t, d < nd → slf d = nI t → t ≤ 4000 → j ≠ t) → bt2 j = btf j) ∧ u = [cw_k6 h0 st mk lk ch ru mr md la2, cw_k5 st (nI na) (nI nu) kd dp cl sa ln bt pn bf, cw_k0 ch st (nI nd) c_pl c_sl c_co c_ca c_tu, cw_l g bt 4000 bt2, cw_z g pn 4000 pnf, cw_i g c_sl 24 slf, cw_i g c_co 24 cof, cw_l g c_ca 384 caf]
set_option maxHeartbeats 4000000 in
set_option maxRecDepth 100000 in
theorem cx_choose (g : zz_G) (h0 : Nat) (st : Nat) (mk : Nat) (lk : Nat) (ch : Nat) (ru : Nat) (mr : Nat) (kd : Nat) (dp : Nat) (cl : Nat) (sa : Nat) (ln : Nat) (bt : Nat) (pn : Nat) (bf : Nat) (c_pl : Nat) (c_sl : Nat) (c_co : Nat) (c_ca : Nat) (c_tu : Nat) (md : Int32) (la : Int32) (na : Nat) (nu : Nat) (nd : Nat) (btf : Nat → Int64) (pnf : Nat → Int32) (slf : Nat → Int32) (cof : Nat → Int32) (caf : Nat → Int64) (dpf : Nat → Int32) (saf : Nat → Int32) (lnf : Nat → Int32) (plf : Nat → Int32) (x1 : Int32) (x2 : Int32) (h_S : zz_SI na nu dpf saf lnf) (h_C : zz_CI na nd saf lnf plf slf cof) : zz_I g yX7_choose (.code yX7_choose cX7_choose 3 (some .int)) rm_cx_choose [.ref h0, .int x1, .int x2] [cw_k6 h0 st mk lk ch ru mr md la, cw_k5 st (nI na) (nI nu) kd dp cl sa ln bt pn bf, cw_k0 ch st (nI nd) c_pl c_sl c_co c_ca c_tu, cw_l g bt 4000 btf, cw_z g pn 4000 pnf, cw_i g c_sl 24 slf, cw_i g c_co 24 cof, cw_l g c_ca 384 caf] (po_cx_choose g h0 st mk lk ch ru mr kd dp cl sa ln bt pn bf c_pl c_sl c_co c_ca c_tu md la na nu nd btf pnf slf cof caf dpf saf lnf plf x1 x2 h_S h_C) := by
  refine zz_I.intro (own := RX7) (cc := cX7_choose) (nL := 3) (by decide) rfl (Nat.le_of_ble_eq_true rfl) ?_
  intro p l e s m args below meth c A H locs ls hC hnm hs hZ hl
  obtain ⟨hx, hb, hml, hown, hts, hr, hlocks, hK⟩ := id hC
  have hl : lv_has ls 3 [(0, .ref h0), (1, .int x1), (2, .int x2)] := hl
  have hZ : zz_Z g A s.heap [cw_k6 h0 st mk lk ch ru mr md la, cw_k5 st (nI na) (nI nu) kd dp cl sa ln bt pn bf, cw_k0 ch st (nI nd) c_pl c_sl c_co c_ca c_tu, cw_l g bt 4000 btf, cw_z g pn 4000 pnf, cw_i g c_sl 24 slf, cw_i g c_co 24 cof, cw_l g c_ca 384 caf] H locs := hZ
  have hna := h_S.1
  have hnu := h_S.2.1
  have hd24 := h_C.1
  refine lv_aload_n hx hb dX7_choose_0 rfl (lv_at hl 0 rfl) ?_
  refine zz_get hC hZ 0 rfl zf_X7_35 rfl dX7_choose_1 ?_
  refine lv_iload_n hx hb dX7_choose_4 rfl (lv_at hl 1 rfl) ?_
  refine lv_iload_n hx hb dX7_choose_5 rfl (lv_at hl 2 rfl) ?_
  refine zz_iV (As := [.int x1, .int x2]) (wc := [cw_k0 ch st (nI nd) c_pl c_sl c_co c_ca c_tu, cw_i g c_co 24 cof]) (wr := [cw_k6 h0 st mk lk ch ru mr md la, cw_k5 st (nI na) (nI nu) kd dp cl sa ln bt pn bf, cw_l g bt 4000 btf, cw_z g pn 4000 pnf, cw_i g c_sl 24 slf, cw_l g c_ca 384 caf]) (rest := []) hC hZ hs hl zc_X7_242 (co_hasCand g ch st c_pl c_sl c_co c_ca c_tu nd na nu plf slf cof saf lnf x1 x2 (h_C)) [2, 6] [0, 1, 3, 4, 5, 7] rfl rfl (by decide +kernel) (ci := 0) (q0 := 0) rfl rfl rfl rfl (Nat.le_of_ble_eq_true rfl) ⟨⟨Nat.le_of_ble_eq_true rfl, Nat.le_of_ble_eq_true rfl⟩, Nat.le_of_ble_eq_true rfl, Nat.le_of_ble_eq_true rfl⟩ dX7_choose_6 (fun r1 u2 H locs hp hZ => ?_)
  obtain ⟨f3, f4, rfl⟩ := hp
  have hZ : zz_Z g A s.heap [cw_k6 h0 st mk lk ch ru mr md la, cw_k5 st (nI na) (nI nu) kd dp cl sa ln bt pn bf, cw_l g bt 4000 btf, cw_z g pn 4000 pnf, cw_i g c_sl 24 slf, cw_l g c_ca 384 caf, cw_k0 ch st (nI nd) c_pl c_sl c_co c_ca c_tu, cw_i g c_co 24 cof] H locs := hZ
  have d_r1 : sp_hc nd cof x1 x2 = r1 := f4.symm
  refine lv_if_ne (tgt := 19) hx hb dX7_choose_9 (by decide) (fun c5 => ?_) (fun c5 => ?_)
  · obtain ⟨d, c2, n0, ed, hd, e_c0, hn0, ec2, hc2⟩ := f3.resolve_left c5
    have hl : lv_has ls 3 [(0, .ref h0), (1, .int (nI d)), (2, .int x2)] := by rw [← ed]; exact hl
    have hl : lv_has ls 3 [(0, .ref h0), (1, .int (nI d)), (2, .int (nI c2))] := by rw [← ec2]; exact hl
    have bd6 : d < 2 ^ 31 := by omega
    have d_d : x1.toNatClampNeg = d := by rw [ed]; exact nI_clamp bd6
    have bd7 : c2 < 2 ^ 31 := by omega
    have d_c2 : x2.toNatClampNeg = c2 := by rw [ec2]; exact nI_clamp bd7
    obtain ⟨b, q, sz, lz, n, e_p, hbn, hb6, e_s, e_l, hb1, hb2, hq, e_z, e_c, hn⟩ := h_C.2 d hd
    have d_b : (plf d).toNatClampNeg / 1000 = b := by rw [e_p, nI_clamp (by omega)]; omega
    have d_q : (plf d).toNatClampNeg % 1000 = q := by rw [e_p, nI_clamp (by omega)]; omega
    have d_sz : (saf b).toNatClampNeg = sz := by rw [e_s]; exact nI_clamp (by omega)
    have d_lz : (lnf b).toNatClampNeg = lz := by rw [e_l]; exact nI_clamp (by omega)
    have d_n : (cof d).toNatClampNeg = n := by rw [e_c]; exact nI_clamp (by omega)
    refine lv_aload_n hx hb dX7_choose_19 rfl (lv_at hl 0 rfl) ?_
    refine zz_get hC hZ 0 rfl zf_X7_10 rfl dX7_choose_20 ?_
    refine zz_get hC hZ 1 rfl zf_X7_152 rfl dX7_choose_23 ?_
    refine lv_aload_n hx hb dX7_choose_26 rfl (lv_at hl 0 rfl) ?_
    refine zz_get hC hZ 0 rfl zf_X7_35 rfl dX7_choose_27 ?_
    refine zz_get hC hZ 6 rfl zf_X7_245 rfl dX7_choose_30 ?_
    refine lv_iload_n hx hb dX7_choose_33 rfl (lv_at hl 1 rfl) ?_
    have bd8 : d < 24 := by omega
    refine zz_ialdn hC hZ 4 rfl bd8 (by decide) dX7_choose_34 ?_
    refine zz_topi (v := nI (sz + q)) (e_z) ?_
    have bd9 : (sz + q) < 4000 := by omega
    refine zz_zaldn hC hZ 3 rfl bd9 (by decide) dX7_choose_35 ?_
    refine lv_if_eq (tgt := 46) hx hb dX7_choose_36 (by decide) (fun c10 => ?_) (fun c10 => ?_)
    · refine lv_aload_n hx hb dX7_choose_46 rfl (lv_at hl 0 rfl) ?_
      refine zz_get hC hZ 0 rfl zf_X7_10 rfl dX7_choose_47 ?_
      refine zz_get hC hZ 1 rfl zf_X7_116 rfl dX7_choose_50 ?_
      refine lv_aload_n hx hb dX7_choose_53 rfl (lv_at hl 0 rfl) ?_
      refine zz_get hC hZ 0 rfl zf_X7_35 rfl dX7_choose_54 ?_
      refine zz_get hC hZ 6 rfl zf_X7_245 rfl dX7_choose_57 ?_
      refine lv_iload_n hx hb dX7_choose_60 rfl (lv_at hl 1 rfl) ?_
      refine zz_ialdn hC hZ 4 rfl bd8 (by decide) dX7_choose_61 ?_
      refine zz_topi (v := nI (sz + q)) (e_z) ?_
      refine lv_aload_n hx hb dX7_choose_62 rfl (lv_at hl 0 rfl) ?_
      refine zz_get hC hZ 0 rfl zf_X7_35 rfl dX7_choose_63 ?_
      refine lv_iload_n hx hb dX7_choose_66 rfl (lv_at hl 1 rfl) ?_
      refine lv_iload_n hx hb dX7_choose_67 rfl (lv_at hl 2 rfl) ?_
      refine zz_lV (As := [.int (nI d), .int (nI c2)]) (wc := [cw_k0 ch st (nI nd) c_pl c_sl c_co c_ca c_tu, cw_l g c_ca 384 caf]) (wr := [cw_k6 h0 st mk lk ch ru mr md la, cw_k5 st (nI na) (nI nu) kd dp cl sa ln bt pn bf, cw_l g bt 4000 btf, cw_z g pn 4000 pnf, cw_i g c_sl 24 slf, cw_i g c_co 24 cof]) (rest := [.int (nI (sz + q)), .ref bt]) hC hZ hs hl zc_X7_248 (co_candidateAt g ch st c_pl c_sl c_co c_ca c_tu nd caf d c2 (by omega)) [6, 5] [0, 1, 2, 3, 4, 7] rfl rfl (by decide +kernel) (ci := 0) (q0 := 0) rfl rfl rfl rfl (Nat.le_of_ble_eq_true rfl) ⟨⟨Nat.le_of_ble_eq_true rfl, Nat.le_of_ble_eq_true rfl⟩, Nat.le_of_ble_eq_true rfl, Nat.le_of_ble_eq_true rfl⟩ dX7_choose_68 (fun r11 u12 H locs hp hZ => ?_)
      obtain ⟨rfl, rfl⟩ := hp
      have hZ : zz_Z g A s.heap [cw_k6 h0 st mk lk ch ru mr md la, cw_k5 st (nI na) (nI nu) kd dp cl sa ln bt pn bf, cw_l g bt 4000 btf, cw_z g pn 4000 pnf, cw_i g c_sl 24 slf, cw_i g c_co 24 cof, cw_k0 ch st (nI nd) c_pl c_sl c_co c_ca c_tu, cw_l g c_ca 384 caf] H locs := hZ
      refine zz_lastn hC hZ 2 rfl bd9 (by decide) dX7_choose_71 (fun H locs hZ => ?_)
      have hZ : zz_Z g A s.heap [cw_k6 h0 st mk lk ch ru mr md la, cw_k5 st (nI na) (nI nu) kd dp cl sa ln bt pn bf, cw_l g bt 4000 (vp_updL btf (sz + q) (caf (d * 16 + c2))), cw_z g pn 4000 pnf, cw_i g c_sl 24 slf, cw_i g c_co 24 cof, cw_k0 ch st (nI nd) c_pl c_sl c_co c_ca c_tu, cw_l g c_ca 384 caf] H locs := hZ
      refine lv_aload_n hx hb dX7_choose_72 rfl (lv_at hl 0 rfl) ?_
      refine lv_iconst (v := 0) hx hb dX7_choose_73 (by decide) ?_
      refine zz_iV (As := [.int 0]) (wc := [cw_k6 h0 st mk lk ch ru mr md la]) (wr := [cw_k5 st (nI na) (nI nu) kd dp cl sa ln bt pn bf, cw_l g bt 4000 (vp_updL btf (sz + q) (caf (d * 16 + c2))), cw_z g pn 4000 pnf, cw_i g c_sl 24 slf, cw_i g c_co 24 cof, cw_k0 ch st (nI nd) c_pl c_sl c_co c_ca c_tu, cw_l g c_ca 384 caf]) (rest := []) hC hZ hs hl zc_X7_100 (co_fine g h0 st mk lk ch ru mr md la 0) [0] [1, 2, 3, 4, 5, 6, 7] rfl rfl (by decide +kernel) (ci := 6) (q0 := 0) rfl rfl rfl rfl (Nat.le_of_ble_eq_true rfl) ⟨⟨Nat.le_of_ble_eq_true rfl, Nat.le_of_ble_eq_true rfl⟩, Nat.le_of_ble_eq_true rfl, Nat.le_of_ble_eq_true rfl⟩ dX7_choose_74 (fun r13 u14 H locs hp hZ => ?_)
      obtain ⟨rfl, rfl⟩ := hp
      have hZ : zz_Z g A s.heap [cw_k5 st (nI na) (nI nu) kd dp cl sa ln bt pn bf, cw_l g bt 4000 (vp_updL btf (sz + q) (caf (d * 16 + c2))), cw_z g pn 4000 pnf, cw_i g c_sl 24 slf, cw_i g c_co 24 cof, cw_k0 ch st (nI nd) c_pl c_sl c_co c_ca c_tu, cw_l g c_ca 384 caf, cw_k6 h0 st mk lk ch ru mr md 0] H locs := hZ
      have hZ : zz_Z g A s.heap [cw_k6 h0 st mk lk ch ru mr md 0, cw_k5 st (nI na) (nI nu) kd dp cl sa ln bt pn bf, cw_k0 ch st (nI nd) c_pl c_sl c_co c_ca c_tu, cw_l g bt 4000 (vp_updL btf (sz + q) (caf (d * 16 + c2))), cw_z g pn 4000 pnf, cw_i g c_sl 24 slf, cw_i g c_co 24 cof, cw_l g c_ca 384 caf] H locs := hZ.sub [7, 0, 5, 1, 2, 3, 4, 6] (by decide +kernel) rfl
      exact zz_iret hC hZ (⟨0, (vp_updL btf (sz + q) (caf (d * 16 + c2))), by refine Eq.symm ?_; rw [fo_cx_choose]; refine (if_neg (by (try simp only [d_r1, d_d, d_c2, d_b, d_q, d_sz, d_lz, d_n]); exact c5)).trans ?_; refine (if_pos (by (try simp only [d_r1, d_d, d_c2, d_b, d_q, d_sz, d_lz, d_n]); exact c10)).trans ?_; first | (simp only [d_r1, d_d, d_c2, d_b, d_q, d_sz, d_lz, d_n]; done) | rfl, zl_dk (fun _ _ => rfl) hd e_z (by omega), rfl⟩) (Nat.le_of_ble_eq_true rfl) (Nat.le_of_ble_eq_true rfl) dX7_choose_77
    · refine lv_aload_n hx hb dX7_choose_39 rfl (lv_at hl 0 rfl) ?_
      refine lv_bipush (v := 6) hx hb dX7_choose_40 (by decide) ?_
      refine zz_iV (As := [.int 6]) (wc := [cw_k6 h0 st mk lk ch ru mr md la]) (wr := [cw_k5 st (nI na) (nI nu) kd dp cl sa ln bt pn bf, cw_l g bt 4000 btf, cw_z g pn 4000 pnf, cw_i g c_sl 24 slf, cw_l g c_ca 384 caf, cw_k0 ch st (nI nd) c_pl c_sl c_co c_ca c_tu, cw_i g c_co 24 cof]) (rest := []) hC hZ hs hl zc_X7_65 (co_fail g h0 st mk lk ch ru mr md la 6) [0] [1, 2, 3, 4, 5, 6, 7] rfl rfl (by decide +kernel) (ci := 6) (q0 := 0) rfl rfl rfl rfl (Nat.le_of_ble_eq_true rfl) ⟨⟨Nat.le_of_ble_eq_true rfl, Nat.le_of_ble_eq_true rfl⟩, Nat.le_of_ble_eq_true rfl, Nat.le_of_ble_eq_true rfl⟩ dX7_choose_42 (fun r15 u16 H locs hp hZ => ?_)
      obtain ⟨rfl, rfl⟩ := hp
      have hZ : zz_Z g A s.heap [cw_k5 st (nI na) (nI nu) kd dp cl sa ln bt pn bf, cw_l g bt 4000 btf, cw_z g pn 4000 pnf, cw_i g c_sl 24 slf, cw_l g c_ca 384 caf, cw_k0 ch st (nI nd) c_pl c_sl c_co c_ca c_tu, cw_i g c_co 24 cof, cw_k6 h0 st mk lk ch ru mr md 6] H locs := hZ
      have hZ : zz_Z g A s.heap [cw_k6 h0 st mk lk ch ru mr md 6, cw_k5 st (nI na) (nI nu) kd dp cl sa ln bt pn bf, cw_k0 ch st (nI nd) c_pl c_sl c_co c_ca c_tu, cw_l g bt 4000 btf, cw_z g pn 4000 pnf, cw_i g c_sl 24 slf, cw_i g c_co 24 cof, cw_l g c_ca 384 caf] H locs := hZ.sub [7, 0, 5, 1, 2, 3, 6, 4] (by decide +kernel) rfl
      exact zz_iret hC hZ (⟨6, btf, by refine Eq.symm ?_; rw [fo_cx_choose]; refine (if_neg (by (try simp only [d_r1, d_d, d_c2, d_b, d_q, d_sz, d_lz, d_n]); exact c5)).trans ?_; refine (if_neg (by (try simp only [d_r1, d_d, d_c2, d_b, d_q, d_sz, d_lz, d_n]); exact c10)).trans ?_; first | (simp only [d_r1, d_d, d_c2, d_b, d_q, d_sz, d_lz, d_n]; done) | rfl, fun _ _ => rfl, rfl⟩) (Nat.le_of_ble_eq_true rfl) (Nat.le_of_ble_eq_true rfl) dX7_choose_45
  · refine lv_aload_n hx hb dX7_choose_12 rfl (lv_at hl 0 rfl) ?_
    refine lv_bipush (v := 9) hx hb dX7_choose_13 (by decide) ?_
    refine zz_iV (As := [.int 9]) (wc := [cw_k6 h0 st mk lk ch ru mr md la]) (wr := [cw_k5 st (nI na) (nI nu) kd dp cl sa ln bt pn bf, cw_l g bt 4000 btf, cw_z g pn 4000 pnf, cw_i g c_sl 24 slf, cw_l g c_ca 384 caf, cw_k0 ch st (nI nd) c_pl c_sl c_co c_ca c_tu, cw_i g c_co 24 cof]) (rest := []) hC hZ hs hl zc_X7_65 (co_fail g h0 st mk lk ch ru mr md la 9) [0] [1, 2, 3, 4, 5, 6, 7] rfl rfl (by decide +kernel) (ci := 6) (q0 := 0) rfl rfl rfl rfl (Nat.le_of_ble_eq_true rfl) ⟨⟨Nat.le_of_ble_eq_true rfl, Nat.le_of_ble_eq_true rfl⟩, Nat.le_of_ble_eq_true rfl, Nat.le_of_ble_eq_true rfl⟩ dX7_choose_15 (fun r17 u18 H locs hp hZ => ?_)
    obtain ⟨rfl, rfl⟩ := hp
    have hZ : zz_Z g A s.heap [cw_k5 st (nI na) (nI nu) kd dp cl sa ln bt pn bf, cw_l g bt 4000 btf, cw_z g pn 4000 pnf, cw_i g c_sl 24 slf, cw_l g c_ca 384 caf, cw_k0 ch st (nI nd) c_pl c_sl c_co c_ca c_tu, cw_i g c_co 24 cof, cw_k6 h0 st mk lk ch ru mr md 9] H locs := hZ
    have hZ : zz_Z g A s.heap [cw_k6 h0 st mk lk ch ru mr md 9, cw_k5 st (nI na) (nI nu) kd dp cl sa ln bt pn bf, cw_k0 ch st (nI nd) c_pl c_sl c_co c_ca c_tu, cw_l g bt 4000 btf, cw_z g pn 4000 pnf, cw_i g c_sl 24 slf, cw_i g c_co 24 cof, cw_l g c_ca 384 caf] H locs := hZ.sub [7, 0, 5, 1, 2, 3, 6, 4] (by decide +kernel) rfl
    exact zz_iret hC hZ (⟨9, btf, by refine Eq.symm ?_; rw [fo_cx_choose]; refine (if_pos (by (try simp only [d_r1]); exact c5)).trans ?_; first | (simp only [d_r1]; done) | rfl, fun _ _ => rfl, rfl⟩) (Nat.le_of_ble_eq_true rfl) (Nat.le_of_ble_eq_true rfl) dX7_choose_18
theorem dg_X7_decision_0 : (decode cX7_decision 0 = .ok (.aload_n 0, 1)) ∧ (decode cX7_decision 1 = .ok (.getfield 35, 3)) ∧ (decode cX7_decision 4 = .ok (.iload_n 1, 1)) ∧ (decode cX7_decision 5 = .ok (.invokevirtual 218, 3)) ∧ (decode cX7_decision 8 = .ok (.ifCond .ne 10, 3)) ∧ (decode cX7_decision 11 = .ok (.aload_n 0, 1)) ∧ (decode cX7_decision 12 = .ok (.bipush 9, 2)) ∧ (decode cX7_decision 14 = .ok (.invokevirtual 65, 3)) ∧ (decode cX7_decision 17 = .ok (.ireturn, 1)) ∧ (decode cX7_decision 18 = .ok (.iload_n 2, 1)) ∧ (decode cX7_decision 19 = .ok (.tableswitch 104 0 3 #[29, 42, 60, 74], 29)) ∧ (decode cX7_decision 48 = .ok (.aload_n 0, 1)) ∧ (decode cX7_decision 49 = .ok (.aload_n 0, 1)) ∧ (decode cX7_decision 50 = .ok (.getfield 35, 3)) ∧ (decode cX7_decision 53 = .ok (.iload_n 1, 1)) ∧ (decode cX7_decision 54 = .ok (.invokevirtual 228, 3)) := by decide +kernel
theorem dX7_decision_0 : decode cX7_decision 0 = .ok (.aload_n 0, 1) := dg_X7_decision_0.1
theorem dX7_decision_1 : decode cX7_decision 1 = .ok (.getfield 35, 3) := dg_X7_decision_0.2.1
theorem dX7_decision_4 : decode cX7_decision 4 = .ok (.iload_n 1, 1) := dg_X7_decision_0.2.2.1
theorem dX7_decision_5 : decode cX7_decision 5 = .ok (.invokevirtual 218, 3) := dg_X7_decision_0.2.2.2.1
theorem dX7_decision_8 : decode cX7_decision 8 = .ok (.ifCond .ne 10, 3) := dg_X7_decision_0.2.2.2.2.1
theorem dX7_decision_11 : decode cX7_decision 11 = .ok (.aload_n 0, 1) := dg_X7_decision_0.2.2.2.2.2.1
theorem dX7_decision_12 : decode cX7_decision 12 = .ok (.bipush 9, 2) := dg_X7_decision_0.2.2.2.2.2.2.1
theorem dX7_decision_14 : decode cX7_decision 14 = .ok (.invokevirtual 65, 3) := dg_X7_decision_0.2.2.2.2.2.2.2.1
theorem dX7_decision_17 : decode cX7_decision 17 = .ok (.ireturn, 1) := dg_X7_decision_0.2.2.2.2.2.2.2.2.1
theorem dX7_decision_18 : decode cX7_decision 18 = .ok (.iload_n 2, 1) := dg_X7_decision_0.2.2.2.2.2.2.2.2.2.1
theorem dX7_decision_19 : decode cX7_decision 19 = .ok (.tableswitch 104 0 3 #[29, 42, 60, 74], 29) := dg_X7_decision_0.2.2.2.2.2.2.2.2.2.2.1
theorem dX7_decision_48 : decode cX7_decision 48 = .ok (.aload_n 0, 1) := dg_X7_decision_0.2.2.2.2.2.2.2.2.2.2.2.1
theorem dX7_decision_49 : decode cX7_decision 49 = .ok (.aload_n 0, 1) := dg_X7_decision_0.2.2.2.2.2.2.2.2.2.2.2.2.1
theorem dX7_decision_50 : decode cX7_decision 50 = .ok (.getfield 35, 3) := dg_X7_decision_0.2.2.2.2.2.2.2.2.2.2.2.2.2.1
theorem dX7_decision_53 : decode cX7_decision 53 = .ok (.iload_n 1, 1) := dg_X7_decision_0.2.2.2.2.2.2.2.2.2.2.2.2.2.2.1
theorem dX7_decision_54 : decode cX7_decision 54 = .ok (.invokevirtual 228, 3) := dg_X7_decision_0.2.2.2.2.2.2.2.2.2.2.2.2.2.2.2
theorem dg_X7_decision_57 : (decode cX7_decision 57 = .ok (.invokevirtual 100, 3)) ∧ (decode cX7_decision 60 = .ok (.ireturn, 1)) ∧ (decode cX7_decision 61 = .ok (.aload_n 0, 1)) ∧ (decode cX7_decision 62 = .ok (.aload_n 0, 1)) ∧ (decode cX7_decision 63 = .ok (.getfield 35, 3)) ∧ (decode cX7_decision 66 = .ok (.getfield 252, 3)) ∧ (decode cX7_decision 69 = .ok (.iload_n 1, 1)) ∧ (decode cX7_decision 70 = .ok (.iaload, 1)) ∧ (decode cX7_decision 71 = .ok (.sipush 1000, 3)) ∧ (decode cX7_decision 74 = .ok (.irem, 1)) ∧ (decode cX7_decision 75 = .ok (.invokevirtual 100, 3)) ∧ (decode cX7_decision 78 = .ok (.ireturn, 1)) ∧ (decode cX7_decision 79 = .ok (.aload_n 0, 1)) ∧ (decode cX7_decision 80 = .ok (.aload_n 0, 1)) ∧ (decode cX7_decision 81 = .ok (.getfield 35, 3)) ∧ (decode cX7_decision 84 = .ok (.getfield 231, 3)) := by decide +kernel
theorem dX7_decision_57 : decode cX7_decision 57 = .ok (.invokevirtual 100, 3) := dg_X7_decision_57.1
theorem dX7_decision_60 : decode cX7_decision 60 = .ok (.ireturn, 1) := dg_X7_decision_57.2.1
theorem dX7_decision_61 : decode cX7_decision 61 = .ok (.aload_n 0, 1) := dg_X7_decision_57.2.2.1
theorem dX7_decision_62 : decode cX7_decision 62 = .ok (.aload_n 0, 1) := dg_X7_decision_57.2.2.2.1
theorem dX7_decision_63 : decode cX7_decision 63 = .ok (.getfield 35, 3) := dg_X7_decision_57.2.2.2.2.1
theorem dX7_decision_66 : decode cX7_decision 66 = .ok (.getfield 252, 3) := dg_X7_decision_57.2.2.2.2.2.1
theorem dX7_decision_69 : decode cX7_decision 69 = .ok (.iload_n 1, 1) := dg_X7_decision_57.2.2.2.2.2.2.1
theorem dX7_decision_70 : decode cX7_decision 70 = .ok (.iaload, 1) := dg_X7_decision_57.2.2.2.2.2.2.2.1
theorem dX7_decision_71 : decode cX7_decision 71 = .ok (.sipush 1000, 3) := dg_X7_decision_57.2.2.2.2.2.2.2.2.1
theorem dX7_decision_74 : decode cX7_decision 74 = .ok (.irem, 1) := dg_X7_decision_57.2.2.2.2.2.2.2.2.2.1
theorem dX7_decision_75 : decode cX7_decision 75 = .ok (.invokevirtual 100, 3) := dg_X7_decision_57.2.2.2.2.2.2.2.2.2.2.1
theorem dX7_decision_78 : decode cX7_decision 78 = .ok (.ireturn, 1) := dg_X7_decision_57.2.2.2.2.2.2.2.2.2.2.2.1
theorem dX7_decision_79 : decode cX7_decision 79 = .ok (.aload_n 0, 1) := dg_X7_decision_57.2.2.2.2.2.2.2.2.2.2.2.2.1
theorem dX7_decision_80 : decode cX7_decision 80 = .ok (.aload_n 0, 1) := dg_X7_decision_57.2.2.2.2.2.2.2.2.2.2.2.2.2.1
theorem dX7_decision_81 : decode cX7_decision 81 = .ok (.getfield 35, 3) := dg_X7_decision_57.2.2.2.2.2.2.2.2.2.2.2.2.2.2.1
theorem dX7_decision_84 : decode cX7_decision 84 = .ok (.getfield 231, 3) := dg_X7_decision_57.2.2.2.2.2.2.2.2.2.2.2.2.2.2.2
theorem dg_X7_decision_87 : (decode cX7_decision 87 = .ok (.iload_n 1, 1)) ∧ (decode cX7_decision 88 = .ok (.iaload, 1)) ∧ (decode cX7_decision 89 = .ok (.invokevirtual 100, 3)) ∧ (decode cX7_decision 92 = .ok (.ireturn, 1)) ∧ (decode cX7_decision 93 = .ok (.aload_n 0, 1)) ∧ (decode cX7_decision 94 = .ok (.aload_n 0, 1)) ∧ (decode cX7_decision 95 = .ok (.getfield 35, 3)) ∧ (decode cX7_decision 98 = .ok (.iload_n 1, 1)) ∧ (decode cX7_decision 99 = .ok (.aload_n 0, 1)) ∧ (decode cX7_decision 100 = .ok (.getfield 10, 3)) ∧ (decode cX7_decision 103 = .ok (.getfield 116, 3)) ∧ (decode cX7_decision 106 = .ok (.aload_n 0, 1)) ∧ (decode cX7_decision 107 = .ok (.getfield 35, 3)) ∧ (decode cX7_decision 110 = .ok (.getfield 245, 3)) ∧ (decode cX7_decision 113 = .ok (.iload_n 1, 1)) ∧ (decode cX7_decision 114 = .ok (.iaload, 1)) := by decide +kernel
theorem dX7_decision_87 : decode cX7_decision 87 = .ok (.iload_n 1, 1) := dg_X7_decision_87.1
theorem dX7_decision_88 : decode cX7_decision 88 = .ok (.iaload, 1) := dg_X7_decision_87.2.1
theorem dX7_decision_89 : decode cX7_decision 89 = .ok (.invokevirtual 100, 3) := dg_X7_decision_87.2.2.1
theorem dX7_decision_92 : decode cX7_decision 92 = .ok (.ireturn, 1) := dg_X7_decision_87.2.2.2.1
theorem dX7_decision_93 : decode cX7_decision 93 = .ok (.aload_n 0, 1) := dg_X7_decision_87.2.2.2.2.1
theorem dX7_decision_94 : decode cX7_decision 94 = .ok (.aload_n 0, 1) := dg_X7_decision_87.2.2.2.2.2.1
theorem dX7_decision_95 : decode cX7_decision 95 = .ok (.getfield 35, 3) := dg_X7_decision_87.2.2.2.2.2.2.1
theorem dX7_decision_98 : decode cX7_decision 98 = .ok (.iload_n 1, 1) := dg_X7_decision_87.2.2.2.2.2.2.2.1
theorem dX7_decision_99 : decode cX7_decision 99 = .ok (.aload_n 0, 1) := dg_X7_decision_87.2.2.2.2.2.2.2.2.1
theorem dX7_decision_100 : decode cX7_decision 100 = .ok (.getfield 10, 3) := dg_X7_decision_87.2.2.2.2.2.2.2.2.2.1
theorem dX7_decision_103 : decode cX7_decision 103 = .ok (.getfield 116, 3) := dg_X7_decision_87.2.2.2.2.2.2.2.2.2.2.1
theorem dX7_decision_106 : decode cX7_decision 106 = .ok (.aload_n 0, 1) := dg_X7_decision_87.2.2.2.2.2.2.2.2.2.2.2.1
theorem dX7_decision_107 : decode cX7_decision 107 = .ok (.getfield 35, 3) := dg_X7_decision_87.2.2.2.2.2.2.2.2.2.2.2.2.1
theorem dX7_decision_110 : decode cX7_decision 110 = .ok (.getfield 245, 3) := dg_X7_decision_87.2.2.2.2.2.2.2.2.2.2.2.2.2.1
theorem dX7_decision_113 : decode cX7_decision 113 = .ok (.iload_n 1, 1) := dg_X7_decision_87.2.2.2.2.2.2.2.2.2.2.2.2.2.2.1
theorem dX7_decision_114 : decode cX7_decision 114 = .ok (.iaload, 1) := dg_X7_decision_87.2.2.2.2.2.2.2.2.2.2.2.2.2.2.2
theorem dg_X7_decision_115 : (decode cX7_decision 115 = .ok (.laload, 1)) ∧ (decode cX7_decision 116 = .ok (.invokevirtual 225, 3)) ∧ (decode cX7_decision 119 = .ok (.invokevirtual 100, 3)) ∧ (decode cX7_decision 122 = .ok (.ireturn, 1)) ∧ (decode cX7_decision 123 = .ok (.aload_n 0, 1)) ∧ (decode cX7_decision 124 = .ok (.bipush 9, 2)) ∧ (decode cX7_decision 126 = .ok (.invokevirtual 65, 3)) ∧ (decode cX7_decision 129 = .ok (.ireturn, 1)) := by decide +kernel
theorem dX7_decision_115 : decode cX7_decision 115 = .ok (.laload, 1) := dg_X7_decision_115.1
theorem dX7_decision_116 : decode cX7_decision 116 = .ok (.invokevirtual 225, 3) := dg_X7_decision_115.2.1
theorem dX7_decision_119 : decode cX7_decision 119 = .ok (.invokevirtual 100, 3) := dg_X7_decision_115.2.2.1
theorem dX7_decision_122 : decode cX7_decision 122 = .ok (.ireturn, 1) := dg_X7_decision_115.2.2.2.1
theorem dX7_decision_123 : decode cX7_decision 123 = .ok (.aload_n 0, 1) := dg_X7_decision_115.2.2.2.2.1
theorem dX7_decision_124 : decode cX7_decision 124 = .ok (.bipush 9, 2) := dg_X7_decision_115.2.2.2.2.2.1
theorem dX7_decision_126 : decode cX7_decision 126 = .ok (.invokevirtual 65, 3) := dg_X7_decision_115.2.2.2.2.2.2.1
theorem dX7_decision_129 : decode cX7_decision 129 = .ok (.ireturn, 1) := dg_X7_decision_115.2.2.2.2.2.2.2
theorem zk_141 : Cond.fieldLink RX7 252 RX0 "places" "[I" ∈ zz_w := zz_in (List.mem_append_right _ (List.mem_append_left _ (List.mem_of_getElem? (i := 141) (by decide +kernel)))) rfl
theorem zf_X7_252 : zz_f RX7 252 0 2 := ⟨RX0, TX0, 7, rfl, zi_X0, by decide, zk_141⟩
def fn_cx_decision (na : Nat) (nu : Nat) (nd : Nat) (btf : Nat → Int64) (plf : Nat → Int32) (slf : Nat → Int32) (cof : Nat → Int32) (caf : Nat → Int64) (dpf : Nat → Int32) (saf : Nat → Int32) (lnf : Nat → Int32) (x1 : Int32) (x2 : Int32) : Int32 := (if (fn_co_chas (nI nd) x1) = 0 then -9 else (if x2 = nI 0 then (nI ((plf x1.toNatClampNeg).toNatClampNeg / 1000)) else (if x2 = nI 1 then ((nI (1000 * ((plf x1.toNatClampNeg).toNatClampNeg / 1000) + ((plf x1.toNatClampNeg).toNatClampNeg % 1000))) - (nI (1000 * ((plf x1.toNatClampNeg).toNatClampNeg / 1000) + ((plf x1.toNatClampNeg).toNatClampNeg % 1000))) / 1000 * 1000) else (if x2 = nI 2 then (nI ((cof x1.toNatClampNeg).toNatClampNeg)) else (if x2 = nI 3 then (sp_ix caf (btf (((saf ((plf x1.toNatClampNeg).toNatClampNeg / 1000)).toNatClampNeg) + ((plf x1.toNatClampNeg).toNatClampNeg % 1000))) (x1.toNatClampNeg * 16) ((cof x1.toNatClampNeg).toNatClampNeg) 0) else -9)))))
abbrev rm_cx_decision : Room := { frames := 2, cells := 0, slots := 0, locals := 46 }
abbrev po_cx_decision (g : zz_G) (h0 : Nat) (st : Nat) (mk : Nat) (lk : Nat) (ch : Nat) (ru : Nat) (mr : Nat) (kd : Nat) (dp : Nat) (cl : Nat) (sa : Nat) (ln : Nat) (bt : Nat) (pn : Nat) (bf : Nat) (c_pl : Nat) (c_sl : Nat) (c_co : Nat) (c_ca : Nat) (c_tu : Nat) (md : Int32) (la : Int32) (na : Nat) (nu : Nat) (nd : Nat) (btf : Nat → Int64) (plf : Nat → Int32) (slf : Nat → Int32) (cof : Nat → Int32) (caf : Nat → Int64) (dpf : Nat → Int32) (saf : Nat → Int32) (lnf : Nat → Int32) (x1 : Int32) (x2 : Int32) (h_S : zz_SI na nu dpf saf lnf) (h_C : zz_CI na nd saf lnf plf slf cof) : Int32 → va_W → Prop := fun (r : Int32) (u : va_W) => ∃ (la2 : Int32), r = fn_cx_decision na nu nd btf plf slf cof caf dpf saf lnf x1 x2 ∧ u = [cw_k6 h0 st mk lk ch ru mr md la2, cw_k5 st (nI na) (nI nu) kd dp cl sa ln bt pn bf, cw_k0 ch st (nI nd) c_pl c_sl c_co c_ca c_tu, cw_l g bt 4000 btf, cw_i g c_pl 24 plf, cw_i g c_sl 24 slf, cw_i g c_co 24 cof, cw_l g c_ca 384 caf]
set_option maxHeartbeats 4000000 in
set_option maxRecDepth 100000 in
theorem cx_decision (g : zz_G) (h0 : Nat) (st : Nat) (mk : Nat) (lk : Nat) (ch : Nat) (ru : Nat) (mr : Nat) (kd : Nat) (dp : Nat) (cl : Nat) (sa : Nat) (ln : Nat) (bt : Nat) (pn : Nat) (bf : Nat) (c_pl : Nat) (c_sl : Nat) (c_co : Nat) (c_ca : Nat) (c_tu : Nat) (md : Int32) (la : Int32) (na : Nat) (nu : Nat) (nd : Nat) (btf : Nat → Int64) (plf : Nat → Int32) (slf : Nat → Int32) (cof : Nat → Int32) (caf : Nat → Int64) (dpf : Nat → Int32) (saf : Nat → Int32) (lnf : Nat → Int32) (x1 : Int32) (x2 : Int32) (h_S : zz_SI na nu dpf saf lnf) (h_C : zz_CI na nd saf lnf plf slf cof) : zz_I g yX7_decision (.code yX7_decision cX7_decision 3 (some .int)) rm_cx_decision [.ref h0, .int x1, .int x2] [cw_k6 h0 st mk lk ch ru mr md la, cw_k5 st (nI na) (nI nu) kd dp cl sa ln bt pn bf, cw_k0 ch st (nI nd) c_pl c_sl c_co c_ca c_tu, cw_l g bt 4000 btf, cw_i g c_pl 24 plf, cw_i g c_sl 24 slf, cw_i g c_co 24 cof, cw_l g c_ca 384 caf] (po_cx_decision g h0 st mk lk ch ru mr kd dp cl sa ln bt pn bf c_pl c_sl c_co c_ca c_tu md la na nu nd btf plf slf cof caf dpf saf lnf x1 x2 h_S h_C) := by
  refine zz_I.intro (own := RX7) (cc := cX7_decision) (nL := 3) (by decide) rfl (Nat.le_of_ble_eq_true rfl) ?_
  intro p l e s m args below meth c A H locs ls hC hnm hs hZ hl
  obtain ⟨hx, hb, hml, hown, hts, hr, hlocks, hK⟩ := id hC
  have hl : lv_has ls 3 [(0, .ref h0), (1, .int x1), (2, .int x2)] := hl
  have hZ : zz_Z g A s.heap [cw_k6 h0 st mk lk ch ru mr md la, cw_k5 st (nI na) (nI nu) kd dp cl sa ln bt pn bf, cw_k0 ch st (nI nd) c_pl c_sl c_co c_ca c_tu, cw_l g bt 4000 btf, cw_i g c_pl 24 plf, cw_i g c_sl 24 slf, cw_i g c_co 24 cof, cw_l g c_ca 384 caf] H locs := hZ
  have hna := h_S.1
  have hnu := h_S.2.1
  have hd24 := h_C.1
  refine lv_aload_n hx hb dX7_decision_0 rfl (lv_at hl 0 rfl) ?_
  refine zz_get hC hZ 0 rfl zf_X7_35 rfl dX7_decision_1 ?_
  refine lv_iload_n hx hb dX7_decision_4 rfl (lv_at hl 1 rfl) ?_
  refine zz_iV (As := [.int x1]) (wc := [cw_k0 ch st (nI nd) c_pl c_sl c_co c_ca c_tu]) (wr := [cw_k6 h0 st mk lk ch ru mr md la, cw_k5 st (nI na) (nI nu) kd dp cl sa ln bt pn bf, cw_l g bt 4000 btf, cw_i g c_pl 24 plf, cw_i g c_sl 24 slf, cw_i g c_co 24 cof, cw_l g c_ca 384 caf]) (rest := []) hC hZ hs hl zc_X7_218 (co_chas g ch st c_pl c_sl c_co c_ca c_tu (nI nd) x1) [2] [0, 1, 3, 4, 5, 6, 7] rfl rfl (by decide +kernel) (ci := 0) (q0 := 0) rfl rfl rfl rfl (Nat.le_of_ble_eq_true rfl) ⟨⟨Nat.le_of_ble_eq_true rfl, Nat.le_of_ble_eq_true rfl⟩, Nat.le_of_ble_eq_true rfl, Nat.le_of_ble_eq_true rfl⟩ dX7_decision_5 (fun r1 u2 H locs hp hZ => ?_)
  obtain ⟨rfl, rfl⟩ := hp
  have hZ : zz_Z g A s.heap [cw_k6 h0 st mk lk ch ru mr md la, cw_k5 st (nI na) (nI nu) kd dp cl sa ln bt pn bf, cw_l g bt 4000 btf, cw_i g c_pl 24 plf, cw_i g c_sl 24 slf, cw_i g c_co 24 cof, cw_l g c_ca 384 caf, cw_k0 ch st (nI nd) c_pl c_sl c_co c_ca c_tu] H locs := hZ
  refine lv_if_ne (tgt := 18) hx hb dX7_decision_8 (by decide) (fun c3 => ?_) (fun c3 => ?_)
  · obtain ⟨d, hd, ed⟩ := zl_chas (by omega) c3
    have hl : lv_has ls 3 [(0, .ref h0), (1, .int (nI d)), (2, .int x2)] := by rw [← ed]; exact hl
    have bd4 : d < 2 ^ 31 := by omega
    have d_d : x1.toNatClampNeg = d := by rw [ed]; exact nI_clamp bd4
    obtain ⟨b, q, sz, lz, n, e_p, hbn, hb6, e_s, e_l, hb1, hb2, hq, e_z, e_c, hn⟩ := h_C.2 d hd
    have d_b : (plf d).toNatClampNeg / 1000 = b := by rw [e_p, nI_clamp (by omega)]; omega
    have d_q : (plf d).toNatClampNeg % 1000 = q := by rw [e_p, nI_clamp (by omega)]; omega
    have d_sz : (saf b).toNatClampNeg = sz := by rw [e_s]; exact nI_clamp (by omega)
    have d_lz : (lnf b).toNatClampNeg = lz := by rw [e_l]; exact nI_clamp (by omega)
    have d_n : (cof d).toNatClampNeg = n := by rw [e_c]; exact nI_clamp (by omega)
    refine lv_iload_n hx hb dX7_decision_18 rfl (lv_at hl 2 rfl) ?_
    rcases zz_sw x2 4 (by decide) with c5 | ⟨k_, hk_, c5⟩
    · refine lv_tableOut (tgt := 123) hx hb dX7_decision_19 (by rcases c5 with q | q; exact Or.inl (by omega); exact Or.inr (by omega)) (by decide) ?_
      refine lv_aload_n hx hb dX7_decision_123 rfl (lv_at hl 0 rfl) ?_
      refine lv_bipush (v := 9) hx hb dX7_decision_124 (by decide) ?_
      refine zz_iV (As := [.int 9]) (wc := [cw_k6 h0 st mk lk ch ru mr md la]) (wr := [cw_k5 st (nI na) (nI nu) kd dp cl sa ln bt pn bf, cw_l g bt 4000 btf, cw_i g c_pl 24 plf, cw_i g c_sl 24 slf, cw_i g c_co 24 cof, cw_l g c_ca 384 caf, cw_k0 ch st (nI nd) c_pl c_sl c_co c_ca c_tu]) (rest := []) hC hZ hs hl zc_X7_65 (co_fail g h0 st mk lk ch ru mr md la 9) [0] [1, 2, 3, 4, 5, 6, 7] rfl rfl (by decide +kernel) (ci := 6) (q0 := 0) rfl rfl rfl rfl (Nat.le_of_ble_eq_true rfl) ⟨⟨Nat.le_of_ble_eq_true rfl, Nat.le_of_ble_eq_true rfl⟩, Nat.le_of_ble_eq_true rfl, Nat.le_of_ble_eq_true rfl⟩ dX7_decision_126 (fun r6 u7 H locs hp hZ => ?_)
      obtain ⟨rfl, rfl⟩ := hp
      have hZ : zz_Z g A s.heap [cw_k5 st (nI na) (nI nu) kd dp cl sa ln bt pn bf, cw_l g bt 4000 btf, cw_i g c_pl 24 plf, cw_i g c_sl 24 slf, cw_i g c_co 24 cof, cw_l g c_ca 384 caf, cw_k0 ch st (nI nd) c_pl c_sl c_co c_ca c_tu, cw_k6 h0 st mk lk ch ru mr md 9] H locs := hZ
      have hZ : zz_Z g A s.heap [cw_k6 h0 st mk lk ch ru mr md 9, cw_k5 st (nI na) (nI nu) kd dp cl sa ln bt pn bf, cw_k0 ch st (nI nd) c_pl c_sl c_co c_ca c_tu, cw_l g bt 4000 btf, cw_i g c_pl 24 plf, cw_i g c_sl 24 slf, cw_i g c_co 24 cof, cw_l g c_ca 384 caf] H locs := hZ.sub [7, 0, 6, 1, 2, 3, 4, 5] (by decide +kernel) rfl
      exact zz_iret hC hZ (⟨9, by refine Eq.symm ?_; rw [fn_cx_decision]; refine (if_neg (by (try simp only [d_d, d_b, d_q, d_sz, d_lz, d_n]); exact c3)).trans ?_; refine (if_neg (by (try simp only [d_d, d_b, d_q, d_sz, d_lz, d_n]); exact ((zl_swo c5 0 (by decide) (by decide))))).trans ?_; refine (if_neg (by (try simp only [d_d, d_b, d_q, d_sz, d_lz, d_n]); exact ((zl_swo c5 1 (by decide) (by decide))))).trans ?_; refine (if_neg (by (try simp only [d_d, d_b, d_q, d_sz, d_lz, d_n]); exact ((zl_swo c5 2 (by decide) (by decide))))).trans ?_; refine (if_neg (by (try simp only [d_d, d_b, d_q, d_sz, d_lz, d_n]); exact ((zl_swo c5 3 (by decide) (by decide))))).trans ?_; first | (simp only [d_d, d_b, d_q, d_sz, d_lz, d_n]; done) | rfl, rfl⟩) (Nat.le_of_ble_eq_true rfl) (Nat.le_of_ble_eq_true rfl) dX7_decision_129
    · refine zz_topi c5 ?_
      rcases (show k_ = 0 ∨ k_ = 1 ∨ k_ = 2 ∨ k_ = 3 by omega) with rfl | rfl | rfl | rfl
      · refine lv_tableIn (tgt := 48) (off := 29) hx hb dX7_decision_19 (by decide) (by decide) (by decide) (by decide) ?_
        refine lv_aload_n hx hb dX7_decision_48 rfl (lv_at hl 0 rfl) ?_
        refine lv_aload_n hx hb dX7_decision_49 rfl (lv_at hl 0 rfl) ?_
        refine zz_get hC hZ 0 rfl zf_X7_35 rfl dX7_decision_50 ?_
        refine lv_iload_n hx hb dX7_decision_53 rfl (lv_at hl 1 rfl) ?_
        refine zz_iV (As := [.int (nI d)]) (wc := [cw_k0 ch st (nI nd) c_pl c_sl c_co c_ca c_tu, cw_i g c_pl 24 plf]) (wr := [cw_k6 h0 st mk lk ch ru mr md la, cw_k5 st (nI na) (nI nu) kd dp cl sa ln bt pn bf, cw_l g bt 4000 btf, cw_i g c_sl 24 slf, cw_i g c_co 24 cof, cw_l g c_ca 384 caf]) (rest := [.ref h0]) hC hZ hs hl zc_X7_228 (co_arrayOf g ch st c_pl c_sl c_co c_ca c_tu nd plf d b q (by omega) (e_p)) [7, 3] [0, 1, 2, 4, 5, 6] rfl rfl (by decide +kernel) (ci := 0) (q0 := 0) rfl rfl rfl rfl (Nat.le_of_ble_eq_true rfl) ⟨⟨Nat.le_of_ble_eq_true rfl, Nat.le_of_ble_eq_true rfl⟩, Nat.le_of_ble_eq_true rfl, Nat.le_of_ble_eq_true rfl⟩ dX7_decision_54 (fun r8 u9 H locs hp hZ => ?_)
        obtain ⟨rfl, rfl⟩ := hp
        have hZ : zz_Z g A s.heap [cw_k6 h0 st mk lk ch ru mr md la, cw_k5 st (nI na) (nI nu) kd dp cl sa ln bt pn bf, cw_l g bt 4000 btf, cw_i g c_sl 24 slf, cw_i g c_co 24 cof, cw_l g c_ca 384 caf, cw_k0 ch st (nI nd) c_pl c_sl c_co c_ca c_tu, cw_i g c_pl 24 plf] H locs := hZ
        refine zz_iV (As := [.int (nI b)]) (wc := [cw_k6 h0 st mk lk ch ru mr md la]) (wr := [cw_k5 st (nI na) (nI nu) kd dp cl sa ln bt pn bf, cw_l g bt 4000 btf, cw_i g c_sl 24 slf, cw_i g c_co 24 cof, cw_l g c_ca 384 caf, cw_k0 ch st (nI nd) c_pl c_sl c_co c_ca c_tu, cw_i g c_pl 24 plf]) (rest := []) hC hZ hs hl zc_X7_100 (co_fine g h0 st mk lk ch ru mr md la (nI b)) [0] [1, 2, 3, 4, 5, 6, 7] rfl rfl (by decide +kernel) (ci := 6) (q0 := 0) rfl rfl rfl rfl (Nat.le_of_ble_eq_true rfl) ⟨⟨Nat.le_of_ble_eq_true rfl, Nat.le_of_ble_eq_true rfl⟩, Nat.le_of_ble_eq_true rfl, Nat.le_of_ble_eq_true rfl⟩ dX7_decision_57 (fun r10 u11 H locs hp hZ => ?_)
        obtain ⟨rfl, rfl⟩ := hp
        have hZ : zz_Z g A s.heap [cw_k5 st (nI na) (nI nu) kd dp cl sa ln bt pn bf, cw_l g bt 4000 btf, cw_i g c_sl 24 slf, cw_i g c_co 24 cof, cw_l g c_ca 384 caf, cw_k0 ch st (nI nd) c_pl c_sl c_co c_ca c_tu, cw_i g c_pl 24 plf, cw_k6 h0 st mk lk ch ru mr md 0] H locs := hZ
        have hZ : zz_Z g A s.heap [cw_k6 h0 st mk lk ch ru mr md 0, cw_k5 st (nI na) (nI nu) kd dp cl sa ln bt pn bf, cw_k0 ch st (nI nd) c_pl c_sl c_co c_ca c_tu, cw_l g bt 4000 btf, cw_i g c_pl 24 plf, cw_i g c_sl 24 slf, cw_i g c_co 24 cof, cw_l g c_ca 384 caf] H locs := hZ.sub [7, 0, 5, 1, 6, 2, 3, 4] (by decide +kernel) rfl
        exact zz_iret hC hZ (⟨0, by refine Eq.symm ?_; rw [fn_cx_decision]; refine (if_neg (by (try simp only [d_d, d_b, d_q, d_sz, d_lz, d_n]); exact c3)).trans ?_; refine (if_pos (by (try simp only [d_d, d_b, d_q, d_sz, d_lz, d_n]); exact c5)).trans ?_; first | (simp only [d_d, d_b, d_q, d_sz, d_lz, d_n]; done) | rfl, rfl⟩) (Nat.le_of_ble_eq_true rfl) (Nat.le_of_ble_eq_true rfl) dX7_decision_60
      · refine lv_tableIn (tgt := 61) (off := 42) hx hb dX7_decision_19 (by decide) (by decide) (by decide) (by decide) ?_
        refine lv_aload_n hx hb dX7_decision_61 rfl (lv_at hl 0 rfl) ?_
        refine lv_aload_n hx hb dX7_decision_62 rfl (lv_at hl 0 rfl) ?_
        refine zz_get hC hZ 0 rfl zf_X7_35 rfl dX7_decision_63 ?_
        refine zz_get hC hZ 7 rfl zf_X7_252 rfl dX7_decision_66 ?_
        refine lv_iload_n hx hb dX7_decision_69 rfl (lv_at hl 1 rfl) ?_
        have bd12 : d < 24 := by omega
        refine zz_ialdn hC hZ 3 rfl bd12 (by decide) dX7_decision_70 ?_
        refine zz_topi (v := nI (1000 * b + q)) (e_p) ?_
        refine lv_sipush (v := 1000) hx hb dX7_decision_71 (by decide) ?_
        refine lv_irem hx hb dX7_decision_74 (by decide) ?_
        refine zz_iV (As := [.int ((nI (1000 * b + q)) - (nI (1000 * b + q)) / 1000 * 1000)]) (wc := [cw_k6 h0 st mk lk ch ru mr md la]) (wr := [cw_k5 st (nI na) (nI nu) kd dp cl sa ln bt pn bf, cw_l g bt 4000 btf, cw_i g c_pl 24 plf, cw_i g c_sl 24 slf, cw_i g c_co 24 cof, cw_l g c_ca 384 caf, cw_k0 ch st (nI nd) c_pl c_sl c_co c_ca c_tu]) (rest := []) hC hZ hs hl zc_X7_100 (co_fine g h0 st mk lk ch ru mr md la ((nI (1000 * b + q)) - (nI (1000 * b + q)) / 1000 * 1000)) [0] [1, 2, 3, 4, 5, 6, 7] rfl rfl (by decide +kernel) (ci := 6) (q0 := 0) rfl rfl rfl rfl (Nat.le_of_ble_eq_true rfl) ⟨⟨Nat.le_of_ble_eq_true rfl, Nat.le_of_ble_eq_true rfl⟩, Nat.le_of_ble_eq_true rfl, Nat.le_of_ble_eq_true rfl⟩ dX7_decision_75 (fun r13 u14 H locs hp hZ => ?_)
        obtain ⟨rfl, rfl⟩ := hp
        have hZ : zz_Z g A s.heap [cw_k5 st (nI na) (nI nu) kd dp cl sa ln bt pn bf, cw_l g bt 4000 btf, cw_i g c_pl 24 plf, cw_i g c_sl 24 slf, cw_i g c_co 24 cof, cw_l g c_ca 384 caf, cw_k0 ch st (nI nd) c_pl c_sl c_co c_ca c_tu, cw_k6 h0 st mk lk ch ru mr md 0] H locs := hZ
        have hZ : zz_Z g A s.heap [cw_k6 h0 st mk lk ch ru mr md 0, cw_k5 st (nI na) (nI nu) kd dp cl sa ln bt pn bf, cw_k0 ch st (nI nd) c_pl c_sl c_co c_ca c_tu, cw_l g bt 4000 btf, cw_i g c_pl 24 plf, cw_i g c_sl 24 slf, cw_i g c_co 24 cof, cw_l g c_ca 384 caf] H locs := hZ.sub [7, 0, 6, 1, 2, 3, 4, 5] (by decide +kernel) rfl
        exact zz_iret hC hZ (⟨0, by refine Eq.symm ?_; rw [fn_cx_decision]; refine (if_neg (by (try simp only [d_d, d_b, d_q, d_sz, d_lz, d_n]); exact c3)).trans ?_; refine (if_neg (by (try simp only [d_d, d_b, d_q, d_sz, d_lz, d_n]); exact ((show ¬ (x2 = nI 0) by rw [c5]; decide)))).trans ?_; refine (if_pos (by (try simp only [d_d, d_b, d_q, d_sz, d_lz, d_n]); exact c5)).trans ?_; first | (simp only [d_d, d_b, d_q, d_sz, d_lz, d_n]; done) | rfl, rfl⟩) (Nat.le_of_ble_eq_true rfl) (Nat.le_of_ble_eq_true rfl) dX7_decision_78
      · refine lv_tableIn (tgt := 79) (off := 60) hx hb dX7_decision_19 (by decide) (by decide) (by decide) (by decide) ?_
        refine lv_aload_n hx hb dX7_decision_79 rfl (lv_at hl 0 rfl) ?_
        refine lv_aload_n hx hb dX7_decision_80 rfl (lv_at hl 0 rfl) ?_
        refine zz_get hC hZ 0 rfl zf_X7_35 rfl dX7_decision_81 ?_
        refine zz_get hC hZ 7 rfl zf_X7_231 rfl dX7_decision_84 ?_
        refine lv_iload_n hx hb dX7_decision_87 rfl (lv_at hl 1 rfl) ?_
        have bd15 : d < 24 := by omega
        refine zz_ialdn hC hZ 5 rfl bd15 (by decide) dX7_decision_88 ?_
        refine zz_topi (v := nI n) (e_c) ?_
        refine zz_iV (As := [.int (nI n)]) (wc := [cw_k6 h0 st mk lk ch ru mr md la]) (wr := [cw_k5 st (nI na) (nI nu) kd dp cl sa ln bt pn bf, cw_l g bt 4000 btf, cw_i g c_pl 24 plf, cw_i g c_sl 24 slf, cw_i g c_co 24 cof, cw_l g c_ca 384 caf, cw_k0 ch st (nI nd) c_pl c_sl c_co c_ca c_tu]) (rest := []) hC hZ hs hl zc_X7_100 (co_fine g h0 st mk lk ch ru mr md la (nI n)) [0] [1, 2, 3, 4, 5, 6, 7] rfl rfl (by decide +kernel) (ci := 6) (q0 := 0) rfl rfl rfl rfl (Nat.le_of_ble_eq_true rfl) ⟨⟨Nat.le_of_ble_eq_true rfl, Nat.le_of_ble_eq_true rfl⟩, Nat.le_of_ble_eq_true rfl, Nat.le_of_ble_eq_true rfl⟩ dX7_decision_89 (fun r16 u17 H locs hp hZ => ?_)
        obtain ⟨rfl, rfl⟩ := hp
        have hZ : zz_Z g A s.heap [cw_k5 st (nI na) (nI nu) kd dp cl sa ln bt pn bf, cw_l g bt 4000 btf, cw_i g c_pl 24 plf, cw_i g c_sl 24 slf, cw_i g c_co 24 cof, cw_l g c_ca 384 caf, cw_k0 ch st (nI nd) c_pl c_sl c_co c_ca c_tu, cw_k6 h0 st mk lk ch ru mr md 0] H locs := hZ
        have hZ : zz_Z g A s.heap [cw_k6 h0 st mk lk ch ru mr md 0, cw_k5 st (nI na) (nI nu) kd dp cl sa ln bt pn bf, cw_k0 ch st (nI nd) c_pl c_sl c_co c_ca c_tu, cw_l g bt 4000 btf, cw_i g c_pl 24 plf, cw_i g c_sl 24 slf, cw_i g c_co 24 cof, cw_l g c_ca 384 caf] H locs := hZ.sub [7, 0, 6, 1, 2, 3, 4, 5] (by decide +kernel) rfl
        exact zz_iret hC hZ (⟨0, by refine Eq.symm ?_; rw [fn_cx_decision]; refine (if_neg (by (try simp only [d_d, d_b, d_q, d_sz, d_lz, d_n]); exact c3)).trans ?_; refine (if_neg (by (try simp only [d_d, d_b, d_q, d_sz, d_lz, d_n]); exact ((show ¬ (x2 = nI 0) by rw [c5]; decide)))).trans ?_; refine (if_neg (by (try simp only [d_d, d_b, d_q, d_sz, d_lz, d_n]); exact ((show ¬ (x2 = nI 1) by rw [c5]; decide)))).trans ?_; refine (if_pos (by (try simp only [d_d, d_b, d_q, d_sz, d_lz, d_n]); exact c5)).trans ?_; first | (simp only [d_d, d_b, d_q, d_sz, d_lz, d_n]; done) | rfl, rfl⟩) (Nat.le_of_ble_eq_true rfl) (Nat.le_of_ble_eq_true rfl) dX7_decision_92
      · refine lv_tableIn (tgt := 93) (off := 74) hx hb dX7_decision_19 (by decide) (by decide) (by decide) (by decide) ?_
        refine lv_aload_n hx hb dX7_decision_93 rfl (lv_at hl 0 rfl) ?_
        refine lv_aload_n hx hb dX7_decision_94 rfl (lv_at hl 0 rfl) ?_
        refine zz_get hC hZ 0 rfl zf_X7_35 rfl dX7_decision_95 ?_
        refine lv_iload_n hx hb dX7_decision_98 rfl (lv_at hl 1 rfl) ?_
        refine lv_aload_n hx hb dX7_decision_99 rfl (lv_at hl 0 rfl) ?_
        refine zz_get hC hZ 0 rfl zf_X7_10 rfl dX7_decision_100 ?_
        refine zz_get hC hZ 1 rfl zf_X7_116 rfl dX7_decision_103 ?_
        refine lv_aload_n hx hb dX7_decision_106 rfl (lv_at hl 0 rfl) ?_
        refine zz_get hC hZ 0 rfl zf_X7_35 rfl dX7_decision_107 ?_
        refine zz_get hC hZ 7 rfl zf_X7_245 rfl dX7_decision_110 ?_
        refine lv_iload_n hx hb dX7_decision_113 rfl (lv_at hl 1 rfl) ?_
        have bd18 : d < 24 := by omega
        refine zz_ialdn hC hZ 4 rfl bd18 (by decide) dX7_decision_114 ?_
        refine zz_topi (v := nI (sz + q)) (e_z) ?_
        have bd19 : (sz + q) < 4000 := by omega
        refine zz_laldn hC hZ 2 rfl bd19 (by decide) dX7_decision_115 ?_
        refine zz_iV (As := [.int (nI d), .long (btf (sz + q))]) (wc := [cw_k0 ch st (nI nd) c_pl c_sl c_co c_ca c_tu, cw_i g c_co 24 cof, cw_l g c_ca 384 caf]) (wr := [cw_k6 h0 st mk lk ch ru mr md la, cw_k5 st (nI na) (nI nu) kd dp cl sa ln bt pn bf, cw_l g bt 4000 btf, cw_i g c_pl 24 plf, cw_i g c_sl 24 slf]) (rest := [.ref h0]) hC hZ hs hl zc_X7_225 (co_indexOf g ch st c_pl c_sl c_co c_ca c_tu nd cof caf d n (btf (sz + q)) (by omega) (e_c)) [7, 5, 6] [0, 1, 2, 3, 4] rfl rfl (by decide +kernel) (ci := 0) (q0 := 0) rfl rfl rfl rfl (Nat.le_of_ble_eq_true rfl) ⟨⟨Nat.le_of_ble_eq_true rfl, Nat.le_of_ble_eq_true rfl⟩, Nat.le_of_ble_eq_true rfl, Nat.le_of_ble_eq_true rfl⟩ dX7_decision_116 (fun r20 u21 H locs hp hZ => ?_)
        obtain ⟨f22, rfl⟩ := hp
        have hZ : zz_Z g A s.heap [cw_k6 h0 st mk lk ch ru mr md la, cw_k5 st (nI na) (nI nu) kd dp cl sa ln bt pn bf, cw_l g bt 4000 btf, cw_i g c_pl 24 plf, cw_i g c_sl 24 slf, cw_k0 ch st (nI nd) c_pl c_sl c_co c_ca c_tu, cw_i g c_co 24 cof, cw_l g c_ca 384 caf] H locs := hZ
        have d_r20 : sp_ix caf (btf (sz + q)) (d * 16) n 0 = r20 := f22.symm
        refine zz_iV (As := [.int r20]) (wc := [cw_k6 h0 st mk lk ch ru mr md la]) (wr := [cw_k5 st (nI na) (nI nu) kd dp cl sa ln bt pn bf, cw_l g bt 4000 btf, cw_i g c_pl 24 plf, cw_i g c_sl 24 slf, cw_k0 ch st (nI nd) c_pl c_sl c_co c_ca c_tu, cw_i g c_co 24 cof, cw_l g c_ca 384 caf]) (rest := []) hC hZ hs hl zc_X7_100 (co_fine g h0 st mk lk ch ru mr md la r20) [0] [1, 2, 3, 4, 5, 6, 7] rfl rfl (by decide +kernel) (ci := 6) (q0 := 0) rfl rfl rfl rfl (Nat.le_of_ble_eq_true rfl) ⟨⟨Nat.le_of_ble_eq_true rfl, Nat.le_of_ble_eq_true rfl⟩, Nat.le_of_ble_eq_true rfl, Nat.le_of_ble_eq_true rfl⟩ dX7_decision_119 (fun r23 u24 H locs hp hZ => ?_)
        obtain ⟨rfl, rfl⟩ := hp
        have hZ : zz_Z g A s.heap [cw_k5 st (nI na) (nI nu) kd dp cl sa ln bt pn bf, cw_l g bt 4000 btf, cw_i g c_pl 24 plf, cw_i g c_sl 24 slf, cw_k0 ch st (nI nd) c_pl c_sl c_co c_ca c_tu, cw_i g c_co 24 cof, cw_l g c_ca 384 caf, cw_k6 h0 st mk lk ch ru mr md 0] H locs := hZ
        have hZ : zz_Z g A s.heap [cw_k6 h0 st mk lk ch ru mr md 0, cw_k5 st (nI na) (nI nu) kd dp cl sa ln bt pn bf, cw_k0 ch st (nI nd) c_pl c_sl c_co c_ca c_tu, cw_l g bt 4000 btf, cw_i g c_pl 24 plf, cw_i g c_sl 24 slf, cw_i g c_co 24 cof, cw_l g c_ca 384 caf] H locs := hZ.sub [7, 0, 4, 1, 2, 3, 5, 6] (by decide +kernel) rfl
        exact zz_iret hC hZ (⟨0, by refine Eq.symm ?_; rw [fn_cx_decision]; refine (if_neg (by (try simp only [d_d, d_b, d_q, d_sz, d_lz, d_n, d_r20]); exact c3)).trans ?_; refine (if_neg (by (try simp only [d_d, d_b, d_q, d_sz, d_lz, d_n, d_r20]); exact ((show ¬ (x2 = nI 0) by rw [c5]; decide)))).trans ?_; refine (if_neg (by (try simp only [d_d, d_b, d_q, d_sz, d_lz, d_n, d_r20]); exact ((show ¬ (x2 = nI 1) by rw [c5]; decide)))).trans ?_; refine (if_neg (by (try simp only [d_d, d_b, d_q, d_sz, d_lz, d_n, d_r20]); exact ((show ¬ (x2 = nI 2) by rw [c5]; decide)))).trans ?_; refine (if_pos (by (try simp only [d_d, d_b, d_q, d_sz, d_lz, d_n, d_r20]); exact c5)).trans ?_; first | (simp only [d_d, d_b, d_q, d_sz, d_lz, d_n, d_r20]; done) | rfl, rfl⟩) (Nat.le_of_ble_eq_true rfl) (Nat.le_of_ble_eq_true rfl) dX7_decision_122
  · refine lv_aload_n hx hb dX7_decision_11 rfl (lv_at hl 0 rfl) ?_
    refine lv_bipush (v := 9) hx hb dX7_decision_12 (by decide) ?_
    refine zz_iV (As := [.int 9]) (wc := [cw_k6 h0 st mk lk ch ru mr md la]) (wr := [cw_k5 st (nI na) (nI nu) kd dp cl sa ln bt pn bf, cw_l g bt 4000 btf, cw_i g c_pl 24 plf, cw_i g c_sl 24 slf, cw_i g c_co 24 cof, cw_l g c_ca 384 caf, cw_k0 ch st (nI nd) c_pl c_sl c_co c_ca c_tu]) (rest := []) hC hZ hs hl zc_X7_65 (co_fail g h0 st mk lk ch ru mr md la 9) [0] [1, 2, 3, 4, 5, 6, 7] rfl rfl (by decide +kernel) (ci := 6) (q0 := 0) rfl rfl rfl rfl (Nat.le_of_ble_eq_true rfl) ⟨⟨Nat.le_of_ble_eq_true rfl, Nat.le_of_ble_eq_true rfl⟩, Nat.le_of_ble_eq_true rfl, Nat.le_of_ble_eq_true rfl⟩ dX7_decision_14 (fun r25 u26 H locs hp hZ => ?_)
    obtain ⟨rfl, rfl⟩ := hp
    have hZ : zz_Z g A s.heap [cw_k5 st (nI na) (nI nu) kd dp cl sa ln bt pn bf, cw_l g bt 4000 btf, cw_i g c_pl 24 plf, cw_i g c_sl 24 slf, cw_i g c_co 24 cof, cw_l g c_ca 384 caf, cw_k0 ch st (nI nd) c_pl c_sl c_co c_ca c_tu, cw_k6 h0 st mk lk ch ru mr md 9] H locs := hZ
    have hZ : zz_Z g A s.heap [cw_k6 h0 st mk lk ch ru mr md 9, cw_k5 st (nI na) (nI nu) kd dp cl sa ln bt pn bf, cw_k0 ch st (nI nd) c_pl c_sl c_co c_ca c_tu, cw_l g bt 4000 btf, cw_i g c_pl 24 plf, cw_i g c_sl 24 slf, cw_i g c_co 24 cof, cw_l g c_ca 384 caf] H locs := hZ.sub [7, 0, 6, 1, 2, 3, 4, 5] (by decide +kernel) rfl
    exact zz_iret hC hZ (⟨9, by show _ = _; rw [fn_cx_decision]; rw [if_pos c3], rfl⟩) (Nat.le_of_ble_eq_true rfl) (Nat.le_of_ble_eq_true rfl) dX7_decision_17
theorem dg_X7_candidateOf_0 : (decode cX7_candidateOf 0 = .ok (.aload_n 0, 1)) ∧ (decode cX7_candidateOf 1 = .ok (.getfield 35, 3)) ∧ (decode cX7_candidateOf 4 = .ok (.iload_n 1, 1)) ∧ (decode cX7_candidateOf 5 = .ok (.iload_n 2, 1)) ∧ (decode cX7_candidateOf 6 = .ok (.invokevirtual 242, 3)) ∧ (decode cX7_candidateOf 9 = .ok (.ifCond .ne 10, 3)) ∧ (decode cX7_candidateOf 12 = .ok (.aload_n 0, 1)) ∧ (decode cX7_candidateOf 13 = .ok (.bipush 9, 2)) ∧ (decode cX7_candidateOf 15 = .ok (.invokevirtual 130, 3)) ∧ (decode cX7_candidateOf 18 = .ok (.lreturn, 1)) ∧ (decode cX7_candidateOf 19 = .ok (.aload_n 0, 1)) ∧ (decode cX7_candidateOf 20 = .ok (.iconst 0, 1)) ∧ (decode cX7_candidateOf 21 = .ok (.putfield 56, 3)) ∧ (decode cX7_candidateOf 24 = .ok (.aload_n 0, 1)) ∧ (decode cX7_candidateOf 25 = .ok (.getfield 35, 3)) ∧ (decode cX7_candidateOf 28 = .ok (.iload_n 1, 1)) := by decide +kernel
theorem dX7_candidateOf_0 : decode cX7_candidateOf 0 = .ok (.aload_n 0, 1) := dg_X7_candidateOf_0.1
theorem dX7_candidateOf_1 : decode cX7_candidateOf 1 = .ok (.getfield 35, 3) := dg_X7_candidateOf_0.2.1
theorem dX7_candidateOf_4 : decode cX7_candidateOf 4 = .ok (.iload_n 1, 1) := dg_X7_candidateOf_0.2.2.1
theorem dX7_candidateOf_5 : decode cX7_candidateOf 5 = .ok (.iload_n 2, 1) := dg_X7_candidateOf_0.2.2.2.1
theorem dX7_candidateOf_6 : decode cX7_candidateOf 6 = .ok (.invokevirtual 242, 3) := dg_X7_candidateOf_0.2.2.2.2.1
theorem dX7_candidateOf_9 : decode cX7_candidateOf 9 = .ok (.ifCond .ne 10, 3) := dg_X7_candidateOf_0.2.2.2.2.2.1
theorem dX7_candidateOf_12 : decode cX7_candidateOf 12 = .ok (.aload_n 0, 1) := dg_X7_candidateOf_0.2.2.2.2.2.2.1
theorem dX7_candidateOf_13 : decode cX7_candidateOf 13 = .ok (.bipush 9, 2) := dg_X7_candidateOf_0.2.2.2.2.2.2.2.1
theorem dX7_candidateOf_15 : decode cX7_candidateOf 15 = .ok (.invokevirtual 130, 3) := dg_X7_candidateOf_0.2.2.2.2.2.2.2.2.1
theorem dX7_candidateOf_18 : decode cX7_candidateOf 18 = .ok (.lreturn, 1) := dg_X7_candidateOf_0.2.2.2.2.2.2.2.2.2.1
theorem dX7_candidateOf_19 : decode cX7_candidateOf 19 = .ok (.aload_n 0, 1) := dg_X7_candidateOf_0.2.2.2.2.2.2.2.2.2.2.1
theorem dX7_candidateOf_20 : decode cX7_candidateOf 20 = .ok (.iconst 0, 1) := dg_X7_candidateOf_0.2.2.2.2.2.2.2.2.2.2.2.1
theorem dX7_candidateOf_21 : decode cX7_candidateOf 21 = .ok (.putfield 56, 3) := dg_X7_candidateOf_0.2.2.2.2.2.2.2.2.2.2.2.2.1
theorem dX7_candidateOf_24 : decode cX7_candidateOf 24 = .ok (.aload_n 0, 1) := dg_X7_candidateOf_0.2.2.2.2.2.2.2.2.2.2.2.2.2.1
theorem dX7_candidateOf_25 : decode cX7_candidateOf 25 = .ok (.getfield 35, 3) := dg_X7_candidateOf_0.2.2.2.2.2.2.2.2.2.2.2.2.2.2.1
theorem dX7_candidateOf_28 : decode cX7_candidateOf 28 = .ok (.iload_n 1, 1) := dg_X7_candidateOf_0.2.2.2.2.2.2.2.2.2.2.2.2.2.2.2
theorem dg_X7_candidateOf_29 : (decode cX7_candidateOf 29 = .ok (.iload_n 2, 1)) ∧ (decode cX7_candidateOf 30 = .ok (.invokevirtual 248, 3)) ∧ (decode cX7_candidateOf 33 = .ok (.lreturn, 1)) := by decide +kernel
theorem dX7_candidateOf_29 : decode cX7_candidateOf 29 = .ok (.iload_n 2, 1) := dg_X7_candidateOf_29.1
theorem dX7_candidateOf_30 : decode cX7_candidateOf 30 = .ok (.invokevirtual 248, 3) := dg_X7_candidateOf_29.2.1
theorem dX7_candidateOf_33 : decode cX7_candidateOf 33 = .ok (.lreturn, 1) := dg_X7_candidateOf_29.2.2
def fn_cx_candidateOf (na : Nat) (nu : Nat) (nd : Nat) (cof : Nat → Int32) (caf : Nat → Int64) (dpf : Nat → Int32) (saf : Nat → Int32) (lnf : Nat → Int32) (plf : Nat → Int32) (slf : Nat → Int32) (x1 : Int32) (x2 : Int32) : Int64 := (if (sp_hc nd cof x1 x2) = 0 then 0 else (caf (x1.toNatClampNeg * 16 + x2.toNatClampNeg)))
abbrev rm_cx_candidateOf : Room := { frames := 2, cells := 0, slots := 0, locals := 43 }
abbrev po_cx_candidateOf (g : zz_G) (h0 : Nat) (st : Nat) (mk : Nat) (lk : Nat) (ch : Nat) (ru : Nat) (mr : Nat) (kd : Nat) (dp : Nat) (cl : Nat) (sa : Nat) (ln : Nat) (bt : Nat) (pn : Nat) (bf : Nat) (c_pl : Nat) (c_sl : Nat) (c_co : Nat) (c_ca : Nat) (c_tu : Nat) (md : Int32) (la : Int32) (na : Nat) (nu : Nat) (nd : Nat) (cof : Nat → Int32) (caf : Nat → Int64) (dpf : Nat → Int32) (saf : Nat → Int32) (lnf : Nat → Int32) (plf : Nat → Int32) (slf : Nat → Int32) (x1 : Int32) (x2 : Int32) (h_S : zz_SI na nu dpf saf lnf) (h_C : zz_CI na nd saf lnf plf slf cof) : Int64 → va_W → Prop := fun (r : Int64) (u : va_W) => ∃ (la2 : Int32), r = fn_cx_candidateOf na nu nd cof caf dpf saf lnf plf slf x1 x2 ∧ u = [cw_k6 h0 st mk lk ch ru mr md la2, cw_k5 st (nI na) (nI nu) kd dp cl sa ln bt pn bf, cw_k0 ch st (nI nd) c_pl c_sl c_co c_ca c_tu, cw_i g c_co 24 cof, cw_l g c_ca 384 caf]
set_option maxHeartbeats 4000000 in
set_option maxRecDepth 100000 in
theorem cx_candidateOf (g : zz_G) (h0 : Nat) (st : Nat) (mk : Nat) (lk : Nat) (ch : Nat) (ru : Nat) (mr : Nat) (kd : Nat) (dp : Nat) (cl : Nat) (sa : Nat) (ln : Nat) (bt : Nat) (pn : Nat) (bf : Nat) (c_pl : Nat) (c_sl : Nat) (c_co : Nat) (c_ca : Nat) (c_tu : Nat) (md : Int32) (la : Int32) (na : Nat) (nu : Nat) (nd : Nat) (cof : Nat → Int32) (caf : Nat → Int64) (dpf : Nat → Int32) (saf : Nat → Int32) (lnf : Nat → Int32) (plf : Nat → Int32) (slf : Nat → Int32) (x1 : Int32) (x2 : Int32) (h_S : zz_SI na nu dpf saf lnf) (h_C : zz_CI na nd saf lnf plf slf cof) : zz_L g yX7_candidateOf (.code yX7_candidateOf cX7_candidateOf 3 (some .long)) rm_cx_candidateOf [.ref h0, .int x1, .int x2] [cw_k6 h0 st mk lk ch ru mr md la, cw_k5 st (nI na) (nI nu) kd dp cl sa ln bt pn bf, cw_k0 ch st (nI nd) c_pl c_sl c_co c_ca c_tu, cw_i g c_co 24 cof, cw_l g c_ca 384 caf] (po_cx_candidateOf g h0 st mk lk ch ru mr kd dp cl sa ln bt pn bf c_pl c_sl c_co c_ca c_tu md la na nu nd cof caf dpf saf lnf plf slf x1 x2 h_S h_C) := by
  refine zz_L.intro (own := RX7) (cc := cX7_candidateOf) (nL := 3) (by decide) rfl (Nat.le_of_ble_eq_true rfl) ?_
  intro p l e s m args below meth c A H locs ls hC hnm hs hZ hl
  obtain ⟨hx, hb, hml, hown, hts, hr, hlocks, hK⟩ := id hC
  have hl : lv_has ls 3 [(0, .ref h0), (1, .int x1), (2, .int x2)] := hl
  have hZ : zz_Z g A s.heap [cw_k6 h0 st mk lk ch ru mr md la, cw_k5 st (nI na) (nI nu) kd dp cl sa ln bt pn bf, cw_k0 ch st (nI nd) c_pl c_sl c_co c_ca c_tu, cw_i g c_co 24 cof, cw_l g c_ca 384 caf] H locs := hZ
  have hna := h_S.1
  have hnu := h_S.2.1
  have hd24 := h_C.1
  refine lv_aload_n hx hb dX7_candidateOf_0 rfl (lv_at hl 0 rfl) ?_
  refine zz_get hC hZ 0 rfl zf_X7_35 rfl dX7_candidateOf_1 ?_
  refine lv_iload_n hx hb dX7_candidateOf_4 rfl (lv_at hl 1 rfl) ?_
  refine lv_iload_n hx hb dX7_candidateOf_5 rfl (lv_at hl 2 rfl) ?_
  refine zz_iV (As := [.int x1, .int x2]) (wc := [cw_k0 ch st (nI nd) c_pl c_sl c_co c_ca c_tu, cw_i g c_co 24 cof]) (wr := [cw_k6 h0 st mk lk ch ru mr md la, cw_k5 st (nI na) (nI nu) kd dp cl sa ln bt pn bf, cw_l g c_ca 384 caf]) (rest := []) hC hZ hs hl zc_X7_242 (co_hasCand g ch st c_pl c_sl c_co c_ca c_tu nd na nu plf slf cof saf lnf x1 x2 (h_C)) [2, 3] [0, 1, 4] rfl rfl (by decide +kernel) (ci := 0) (q0 := 0) rfl rfl rfl rfl (Nat.le_of_ble_eq_true rfl) ⟨⟨Nat.le_of_ble_eq_true rfl, Nat.le_of_ble_eq_true rfl⟩, Nat.le_of_ble_eq_true rfl, Nat.le_of_ble_eq_true rfl⟩ dX7_candidateOf_6 (fun r1 u2 H locs hp hZ => ?_)
  obtain ⟨f3, f4, rfl⟩ := hp
  have hZ : zz_Z g A s.heap [cw_k6 h0 st mk lk ch ru mr md la, cw_k5 st (nI na) (nI nu) kd dp cl sa ln bt pn bf, cw_l g c_ca 384 caf, cw_k0 ch st (nI nd) c_pl c_sl c_co c_ca c_tu, cw_i g c_co 24 cof] H locs := hZ
  have d_r1 : sp_hc nd cof x1 x2 = r1 := f4.symm
  refine lv_if_ne (tgt := 19) hx hb dX7_candidateOf_9 (by decide) (fun c5 => ?_) (fun c5 => ?_)
  · obtain ⟨d, c2, n0, ed, hd, e_c0, hn0, ec2, hc2⟩ := f3.resolve_left c5
    have hl : lv_has ls 3 [(0, .ref h0), (1, .int (nI d)), (2, .int x2)] := by rw [← ed]; exact hl
    have hl : lv_has ls 3 [(0, .ref h0), (1, .int (nI d)), (2, .int (nI c2))] := by rw [← ec2]; exact hl
    have bd6 : d < 2 ^ 31 := by omega
    have d_d : x1.toNatClampNeg = d := by rw [ed]; exact nI_clamp bd6
    have bd7 : c2 < 2 ^ 31 := by omega
    have d_c2 : x2.toNatClampNeg = c2 := by rw [ec2]; exact nI_clamp bd7
    obtain ⟨b, q, sz, lz, n, e_p, hbn, hb6, e_s, e_l, hb1, hb2, hq, e_z, e_c, hn⟩ := h_C.2 d hd
    have d_b : (plf d).toNatClampNeg / 1000 = b := by rw [e_p, nI_clamp (by omega)]; omega
    have d_q : (plf d).toNatClampNeg % 1000 = q := by rw [e_p, nI_clamp (by omega)]; omega
    have d_sz : (saf b).toNatClampNeg = sz := by rw [e_s]; exact nI_clamp (by omega)
    have d_lz : (lnf b).toNatClampNeg = lz := by rw [e_l]; exact nI_clamp (by omega)
    have d_n : (cof d).toNatClampNeg = n := by rw [e_c]; exact nI_clamp (by omega)
    refine lv_aload_n hx hb dX7_candidateOf_19 rfl (lv_at hl 0 rfl) ?_
    refine lv_iconst (v := 0) hx hb dX7_candidateOf_20 (by decide) ?_
    refine zz_put hC hZ 0 rfl zu_X7_56 (Nat.le_of_ble_eq_true rfl) dX7_candidateOf_21 (fun H locs hZ => ?_)
    have hZ : zz_Z g A s.heap [cw_k6 h0 st mk lk ch ru mr md 0, cw_k5 st (nI na) (nI nu) kd dp cl sa ln bt pn bf, cw_l g c_ca 384 caf, cw_k0 ch st (nI nd) c_pl c_sl c_co c_ca c_tu, cw_i g c_co 24 cof] H locs := hZ
    refine lv_aload_n hx hb dX7_candidateOf_24 rfl (lv_at hl 0 rfl) ?_
    refine zz_get hC hZ 0 rfl zf_X7_35 rfl dX7_candidateOf_25 ?_
    refine lv_iload_n hx hb dX7_candidateOf_28 rfl (lv_at hl 1 rfl) ?_
    refine lv_iload_n hx hb dX7_candidateOf_29 rfl (lv_at hl 2 rfl) ?_
    refine zz_lV (As := [.int (nI d), .int (nI c2)]) (wc := [cw_k0 ch st (nI nd) c_pl c_sl c_co c_ca c_tu, cw_l g c_ca 384 caf]) (wr := [cw_k6 h0 st mk lk ch ru mr md 0, cw_k5 st (nI na) (nI nu) kd dp cl sa ln bt pn bf, cw_i g c_co 24 cof]) (rest := []) hC hZ hs hl zc_X7_248 (co_candidateAt g ch st c_pl c_sl c_co c_ca c_tu nd caf d c2 (by omega)) [3, 2] [0, 1, 4] rfl rfl (by decide +kernel) (ci := 0) (q0 := 0) rfl rfl rfl rfl (Nat.le_of_ble_eq_true rfl) ⟨⟨Nat.le_of_ble_eq_true rfl, Nat.le_of_ble_eq_true rfl⟩, Nat.le_of_ble_eq_true rfl, Nat.le_of_ble_eq_true rfl⟩ dX7_candidateOf_30 (fun r8 u9 H locs hp hZ => ?_)
    obtain ⟨rfl, rfl⟩ := hp
    have hZ : zz_Z g A s.heap [cw_k6 h0 st mk lk ch ru mr md 0, cw_k5 st (nI na) (nI nu) kd dp cl sa ln bt pn bf, cw_i g c_co 24 cof, cw_k0 ch st (nI nd) c_pl c_sl c_co c_ca c_tu, cw_l g c_ca 384 caf] H locs := hZ
    have hZ : zz_Z g A s.heap [cw_k6 h0 st mk lk ch ru mr md 0, cw_k5 st (nI na) (nI nu) kd dp cl sa ln bt pn bf, cw_k0 ch st (nI nd) c_pl c_sl c_co c_ca c_tu, cw_i g c_co 24 cof, cw_l g c_ca 384 caf] H locs := hZ.sub [0, 1, 3, 2, 4] (by decide +kernel) rfl
    exact zz_lret hC hZ (⟨0, by refine Eq.symm ?_; rw [fn_cx_candidateOf]; refine (if_neg (by (try simp only [d_r1, d_d, d_c2, d_b, d_q, d_sz, d_lz, d_n]); exact c5)).trans ?_; first | (simp only [d_r1, d_d, d_c2, d_b, d_q, d_sz, d_lz, d_n]; done) | rfl, rfl⟩) (Nat.le_of_ble_eq_true rfl) (Nat.le_of_ble_eq_true rfl) dX7_candidateOf_33
  · refine lv_aload_n hx hb dX7_candidateOf_12 rfl (lv_at hl 0 rfl) ?_
    refine lv_bipush (v := 9) hx hb dX7_candidateOf_13 (by decide) ?_
    refine zz_lV (As := [.int 9]) (wc := [cw_k6 h0 st mk lk ch ru mr md la]) (wr := [cw_k5 st (nI na) (nI nu) kd dp cl sa ln bt pn bf, cw_l g c_ca 384 caf, cw_k0 ch st (nI nd) c_pl c_sl c_co c_ca c_tu, cw_i g c_co 24 cof]) (rest := []) hC hZ hs hl zc_X7_130 (co_noBits g h0 st mk lk ch ru mr md la 9) [0] [1, 2, 3, 4] rfl rfl (by decide +kernel) (ci := 6) (q0 := 0) rfl rfl rfl rfl (Nat.le_of_ble_eq_true rfl) ⟨⟨Nat.le_of_ble_eq_true rfl, Nat.le_of_ble_eq_true rfl⟩, Nat.le_of_ble_eq_true rfl, Nat.le_of_ble_eq_true rfl⟩ dX7_candidateOf_15 (fun r10 u11 H locs hp hZ => ?_)
    obtain ⟨rfl, rfl⟩ := hp
    have hZ : zz_Z g A s.heap [cw_k5 st (nI na) (nI nu) kd dp cl sa ln bt pn bf, cw_l g c_ca 384 caf, cw_k0 ch st (nI nd) c_pl c_sl c_co c_ca c_tu, cw_i g c_co 24 cof, cw_k6 h0 st mk lk ch ru mr md 9] H locs := hZ
    have hZ : zz_Z g A s.heap [cw_k6 h0 st mk lk ch ru mr md 9, cw_k5 st (nI na) (nI nu) kd dp cl sa ln bt pn bf, cw_k0 ch st (nI nd) c_pl c_sl c_co c_ca c_tu, cw_i g c_co 24 cof, cw_l g c_ca 384 caf] H locs := hZ.sub [4, 0, 2, 3, 1] (by decide +kernel) rfl
    exact zz_lret hC hZ (⟨9, by refine Eq.symm ?_; rw [fn_cx_candidateOf]; refine (if_pos (by (try simp only [d_r1]); exact c5)).trans ?_; first | (simp only [d_r1]; done) | rfl, rfl⟩) (Nat.le_of_ble_eq_true rfl) (Nat.le_of_ble_eq_true rfl) dX7_candidateOf_18
theorem dg_X7_rule_0 : (decode cX7_rule 0 = .ok (.aload_n 0, 1)) ∧ (decode cX7_rule 1 = .ok (.getfield 10, 3)) ∧ (decode cX7_rule 4 = .ok (.iload_n 2, 1)) ∧ (decode cX7_rule 5 = .ok (.invokevirtual 73, 3)) ∧ (decode cX7_rule 8 = .ok (.ifCond .ne 9, 3)) ∧ (decode cX7_rule 11 = .ok (.aload_n 0, 1)) ∧ (decode cX7_rule 12 = .ok (.iconst 5, 1)) ∧ (decode cX7_rule 13 = .ok (.invokevirtual 65, 3)) ∧ (decode cX7_rule 16 = .ok (.ireturn, 1)) ∧ (decode cX7_rule 17 = .ok (.iload_n 1, 1)) ∧ (decode cX7_rule 18 = .ok (.ifCond .lt 22, 3)) ∧ (decode cX7_rule 21 = .ok (.iload_n 1, 1)) ∧ (decode cX7_rule 22 = .ok (.iconst 5, 1)) ∧ (decode cX7_rule 23 = .ok (.if_icmp .gt 17, 3)) ∧ (decode cX7_rule 26 = .ok (.iload_n 3, 1)) ∧ (decode cX7_rule 27 = .ok (.sipush (-1000), 3)) := by decide +kernel
theorem dX7_rule_0 : decode cX7_rule 0 = .ok (.aload_n 0, 1) := dg_X7_rule_0.1
theorem dX7_rule_1 : decode cX7_rule 1 = .ok (.getfield 10, 3) := dg_X7_rule_0.2.1
theorem dX7_rule_4 : decode cX7_rule 4 = .ok (.iload_n 2, 1) := dg_X7_rule_0.2.2.1
theorem dX7_rule_5 : decode cX7_rule 5 = .ok (.invokevirtual 73, 3) := dg_X7_rule_0.2.2.2.1
theorem dX7_rule_8 : decode cX7_rule 8 = .ok (.ifCond .ne 9, 3) := dg_X7_rule_0.2.2.2.2.1
theorem dX7_rule_11 : decode cX7_rule 11 = .ok (.aload_n 0, 1) := dg_X7_rule_0.2.2.2.2.2.1
theorem dX7_rule_12 : decode cX7_rule 12 = .ok (.iconst 5, 1) := dg_X7_rule_0.2.2.2.2.2.2.1
theorem dX7_rule_13 : decode cX7_rule 13 = .ok (.invokevirtual 65, 3) := dg_X7_rule_0.2.2.2.2.2.2.2.1
theorem dX7_rule_16 : decode cX7_rule 16 = .ok (.ireturn, 1) := dg_X7_rule_0.2.2.2.2.2.2.2.2.1
theorem dX7_rule_17 : decode cX7_rule 17 = .ok (.iload_n 1, 1) := dg_X7_rule_0.2.2.2.2.2.2.2.2.2.1
theorem dX7_rule_18 : decode cX7_rule 18 = .ok (.ifCond .lt 22, 3) := dg_X7_rule_0.2.2.2.2.2.2.2.2.2.2.1
theorem dX7_rule_21 : decode cX7_rule 21 = .ok (.iload_n 1, 1) := dg_X7_rule_0.2.2.2.2.2.2.2.2.2.2.2.1
theorem dX7_rule_22 : decode cX7_rule 22 = .ok (.iconst 5, 1) := dg_X7_rule_0.2.2.2.2.2.2.2.2.2.2.2.2.1
theorem dX7_rule_23 : decode cX7_rule 23 = .ok (.if_icmp .gt 17, 3) := dg_X7_rule_0.2.2.2.2.2.2.2.2.2.2.2.2.2.1
theorem dX7_rule_26 : decode cX7_rule 26 = .ok (.iload_n 3, 1) := dg_X7_rule_0.2.2.2.2.2.2.2.2.2.2.2.2.2.2.1
theorem dX7_rule_27 : decode cX7_rule 27 = .ok (.sipush (-1000), 3) := dg_X7_rule_0.2.2.2.2.2.2.2.2.2.2.2.2.2.2.2
theorem dg_X7_rule_30 : (decode cX7_rule 30 = .ok (.if_icmp .lt 10, 3)) ∧ (decode cX7_rule 33 = .ok (.iload_n 3, 1)) ∧ (decode cX7_rule 34 = .ok (.sipush 1000, 3)) ∧ (decode cX7_rule 37 = .ok (.if_icmp .le 10, 3)) ∧ (decode cX7_rule 40 = .ok (.aload_n 0, 1)) ∧ (decode cX7_rule 41 = .ok (.bipush 9, 2)) ∧ (decode cX7_rule 43 = .ok (.invokevirtual 65, 3)) ∧ (decode cX7_rule 46 = .ok (.ireturn, 1)) ∧ (decode cX7_rule 47 = .ok (.aload_n 0, 1)) ∧ (decode cX7_rule 48 = .ok (.getfield 10, 3)) ∧ (decode cX7_rule 51 = .ok (.getfield 80, 3)) ∧ (decode cX7_rule 54 = .ok (.iload_n 2, 1)) ∧ (decode cX7_rule 55 = .ok (.iaload, 1)) ∧ (decode cX7_rule 56 = .ok (.istore 8, 2)) ∧ (decode cX7_rule 58 = .ok (.iload_n 1, 1)) ∧ (decode cX7_rule 59 = .ok (.iconst 3, 1)) := by decide +kernel
theorem dX7_rule_30 : decode cX7_rule 30 = .ok (.if_icmp .lt 10, 3) := dg_X7_rule_30.1
theorem dX7_rule_33 : decode cX7_rule 33 = .ok (.iload_n 3, 1) := dg_X7_rule_30.2.1
theorem dX7_rule_34 : decode cX7_rule 34 = .ok (.sipush 1000, 3) := dg_X7_rule_30.2.2.1
theorem dX7_rule_37 : decode cX7_rule 37 = .ok (.if_icmp .le 10, 3) := dg_X7_rule_30.2.2.2.1
theorem dX7_rule_40 : decode cX7_rule 40 = .ok (.aload_n 0, 1) := dg_X7_rule_30.2.2.2.2.1
theorem dX7_rule_41 : decode cX7_rule 41 = .ok (.bipush 9, 2) := dg_X7_rule_30.2.2.2.2.2.1
theorem dX7_rule_43 : decode cX7_rule 43 = .ok (.invokevirtual 65, 3) := dg_X7_rule_30.2.2.2.2.2.2.1
theorem dX7_rule_46 : decode cX7_rule 46 = .ok (.ireturn, 1) := dg_X7_rule_30.2.2.2.2.2.2.2.1
theorem dX7_rule_47 : decode cX7_rule 47 = .ok (.aload_n 0, 1) := dg_X7_rule_30.2.2.2.2.2.2.2.2.1
theorem dX7_rule_48 : decode cX7_rule 48 = .ok (.getfield 10, 3) := dg_X7_rule_30.2.2.2.2.2.2.2.2.2.1
theorem dX7_rule_51 : decode cX7_rule 51 = .ok (.getfield 80, 3) := dg_X7_rule_30.2.2.2.2.2.2.2.2.2.2.1
theorem dX7_rule_54 : decode cX7_rule 54 = .ok (.iload_n 2, 1) := dg_X7_rule_30.2.2.2.2.2.2.2.2.2.2.2.1
theorem dX7_rule_55 : decode cX7_rule 55 = .ok (.iaload, 1) := dg_X7_rule_30.2.2.2.2.2.2.2.2.2.2.2.2.1
theorem dX7_rule_56 : decode cX7_rule 56 = .ok (.istore 8, 2) := dg_X7_rule_30.2.2.2.2.2.2.2.2.2.2.2.2.2.1
theorem dX7_rule_58 : decode cX7_rule 58 = .ok (.iload_n 1, 1) := dg_X7_rule_30.2.2.2.2.2.2.2.2.2.2.2.2.2.2.1
theorem dX7_rule_59 : decode cX7_rule 59 = .ok (.iconst 3, 1) := dg_X7_rule_30.2.2.2.2.2.2.2.2.2.2.2.2.2.2.2
theorem dg_X7_rule_60 : (decode cX7_rule 60 = .ok (.if_icmp .ne 20, 3)) ∧ (decode cX7_rule 63 = .ok (.iload 8, 2)) ∧ (decode cX7_rule 65 = .ok (.lload 4, 2)) ∧ (decode cX7_rule 67 = .ok (.invokestatic 148, 3)) ∧ (decode cX7_rule 70 = .ok (.ifCond .ne 10, 3)) ∧ (decode cX7_rule 73 = .ok (.aload_n 0, 1)) ∧ (decode cX7_rule 74 = .ok (.bipush 9, 2)) ∧ (decode cX7_rule 76 = .ok (.invokevirtual 65, 3)) ∧ (decode cX7_rule 79 = .ok (.ireturn, 1)) ∧ (decode cX7_rule 80 = .ok (.aload_n 0, 1)) ∧ (decode cX7_rule 81 = .ok (.getfield 10, 3)) ∧ (decode cX7_rule 84 = .ok (.getfield 76, 3)) ∧ (decode cX7_rule 87 = .ok (.iload_n 2, 1)) ∧ (decode cX7_rule 88 = .ok (.iaload, 1)) ∧ (decode cX7_rule 89 = .ok (.iconst 1, 1)) ∧ (decode cX7_rule 90 = .ok (.if_icmp .eq 9, 3)) := by decide +kernel
theorem dX7_rule_60 : decode cX7_rule 60 = .ok (.if_icmp .ne 20, 3) := dg_X7_rule_60.1
theorem dX7_rule_63 : decode cX7_rule 63 = .ok (.iload 8, 2) := dg_X7_rule_60.2.1
theorem dX7_rule_65 : decode cX7_rule 65 = .ok (.lload 4, 2) := dg_X7_rule_60.2.2.1
theorem dX7_rule_67 : decode cX7_rule 67 = .ok (.invokestatic 148, 3) := dg_X7_rule_60.2.2.2.1
theorem dX7_rule_70 : decode cX7_rule 70 = .ok (.ifCond .ne 10, 3) := dg_X7_rule_60.2.2.2.2.1
theorem dX7_rule_73 : decode cX7_rule 73 = .ok (.aload_n 0, 1) := dg_X7_rule_60.2.2.2.2.2.1
theorem dX7_rule_74 : decode cX7_rule 74 = .ok (.bipush 9, 2) := dg_X7_rule_60.2.2.2.2.2.2.1
theorem dX7_rule_76 : decode cX7_rule 76 = .ok (.invokevirtual 65, 3) := dg_X7_rule_60.2.2.2.2.2.2.2.1
theorem dX7_rule_79 : decode cX7_rule 79 = .ok (.ireturn, 1) := dg_X7_rule_60.2.2.2.2.2.2.2.2.1
theorem dX7_rule_80 : decode cX7_rule 80 = .ok (.aload_n 0, 1) := dg_X7_rule_60.2.2.2.2.2.2.2.2.2.1
theorem dX7_rule_81 : decode cX7_rule 81 = .ok (.getfield 10, 3) := dg_X7_rule_60.2.2.2.2.2.2.2.2.2.2.1
theorem dX7_rule_84 : decode cX7_rule 84 = .ok (.getfield 76, 3) := dg_X7_rule_60.2.2.2.2.2.2.2.2.2.2.2.1
theorem dX7_rule_87 : decode cX7_rule 87 = .ok (.iload_n 2, 1) := dg_X7_rule_60.2.2.2.2.2.2.2.2.2.2.2.2.1
theorem dX7_rule_88 : decode cX7_rule 88 = .ok (.iaload, 1) := dg_X7_rule_60.2.2.2.2.2.2.2.2.2.2.2.2.2.1
theorem dX7_rule_89 : decode cX7_rule 89 = .ok (.iconst 1, 1) := dg_X7_rule_60.2.2.2.2.2.2.2.2.2.2.2.2.2.2.1
theorem dX7_rule_90 : decode cX7_rule 90 = .ok (.if_icmp .eq 9, 3) := dg_X7_rule_60.2.2.2.2.2.2.2.2.2.2.2.2.2.2.2
theorem dg_X7_rule_93 : (decode cX7_rule 93 = .ok (.aload_n 0, 1)) ∧ (decode cX7_rule 94 = .ok (.iconst 1, 1)) ∧ (decode cX7_rule 95 = .ok (.invokevirtual 65, 3)) ∧ (decode cX7_rule 98 = .ok (.ireturn, 1)) ∧ (decode cX7_rule 99 = .ok (.aload_n 0, 1)) ∧ (decode cX7_rule 100 = .ok (.getfield 42, 3)) ∧ (decode cX7_rule 103 = .ok (.getfield 255, 3)) ∧ (decode cX7_rule 106 = .ok (.bipush 12, 2)) ∧ (decode cX7_rule 108 = .ok (.if_icmp .lt 10, 3)) ∧ (decode cX7_rule 111 = .ok (.aload_n 0, 1)) ∧ (decode cX7_rule 112 = .ok (.bipush 8, 2)) ∧ (decode cX7_rule 114 = .ok (.invokevirtual 65, 3)) ∧ (decode cX7_rule 117 = .ok (.ireturn, 1)) ∧ (decode cX7_rule 118 = .ok (.iload_n 1, 1)) ∧ (decode cX7_rule 119 = .ok (.iconst 3, 1)) ∧ (decode cX7_rule 120 = .ok (.if_icmp .ne 13, 3)) := by decide +kernel
theorem dX7_rule_93 : decode cX7_rule 93 = .ok (.aload_n 0, 1) := dg_X7_rule_93.1
theorem dX7_rule_94 : decode cX7_rule 94 = .ok (.iconst 1, 1) := dg_X7_rule_93.2.1
theorem dX7_rule_95 : decode cX7_rule 95 = .ok (.invokevirtual 65, 3) := dg_X7_rule_93.2.2.1
theorem dX7_rule_98 : decode cX7_rule 98 = .ok (.ireturn, 1) := dg_X7_rule_93.2.2.2.1
theorem dX7_rule_99 : decode cX7_rule 99 = .ok (.aload_n 0, 1) := dg_X7_rule_93.2.2.2.2.1
theorem dX7_rule_100 : decode cX7_rule 100 = .ok (.getfield 42, 3) := dg_X7_rule_93.2.2.2.2.2.1
theorem dX7_rule_103 : decode cX7_rule 103 = .ok (.getfield 255, 3) := dg_X7_rule_93.2.2.2.2.2.2.1
theorem dX7_rule_106 : decode cX7_rule 106 = .ok (.bipush 12, 2) := dg_X7_rule_93.2.2.2.2.2.2.2.1
theorem dX7_rule_108 : decode cX7_rule 108 = .ok (.if_icmp .lt 10, 3) := dg_X7_rule_93.2.2.2.2.2.2.2.2.1
theorem dX7_rule_111 : decode cX7_rule 111 = .ok (.aload_n 0, 1) := dg_X7_rule_93.2.2.2.2.2.2.2.2.2.1
theorem dX7_rule_112 : decode cX7_rule 112 = .ok (.bipush 8, 2) := dg_X7_rule_93.2.2.2.2.2.2.2.2.2.2.1
theorem dX7_rule_114 : decode cX7_rule 114 = .ok (.invokevirtual 65, 3) := dg_X7_rule_93.2.2.2.2.2.2.2.2.2.2.2.1
theorem dX7_rule_117 : decode cX7_rule 117 = .ok (.ireturn, 1) := dg_X7_rule_93.2.2.2.2.2.2.2.2.2.2.2.2.1
theorem dX7_rule_118 : decode cX7_rule 118 = .ok (.iload_n 1, 1) := dg_X7_rule_93.2.2.2.2.2.2.2.2.2.2.2.2.2.1
theorem dX7_rule_119 : decode cX7_rule 119 = .ok (.iconst 3, 1) := dg_X7_rule_93.2.2.2.2.2.2.2.2.2.2.2.2.2.2.1
theorem dX7_rule_120 : decode cX7_rule 120 = .ok (.if_icmp .ne 13, 3) := dg_X7_rule_93.2.2.2.2.2.2.2.2.2.2.2.2.2.2.2
theorem dg_X7_rule_123 : (decode cX7_rule 123 = .ok (.iload 8, 2)) ∧ (decode cX7_rule 125 = .ok (.lload 4, 2)) ∧ (decode cX7_rule 127 = .ok (.invokestatic 156, 3)) ∧ (decode cX7_rule 130 = .ok (.goto 5, 3)) ∧ (decode cX7_rule 133 = .ok (.lload 4, 2)) ∧ (decode cX7_rule 135 = .ok (.lstore 9, 2)) ∧ (decode cX7_rule 137 = .ok (.aload_n 0, 1)) ∧ (decode cX7_rule 138 = .ok (.aload_n 0, 1)) ∧ (decode cX7_rule 139 = .ok (.getfield 42, 3)) ∧ (decode cX7_rule 142 = .ok (.iload_n 1, 1)) ∧ (decode cX7_rule 143 = .ok (.iload_n 2, 1)) ∧ (decode cX7_rule 144 = .ok (.iload_n 3, 1)) ∧ (decode cX7_rule 145 = .ok (.lload 9, 2)) ∧ (decode cX7_rule 147 = .ok (.lload 6, 2)) ∧ (decode cX7_rule 149 = .ok (.invokevirtual 256, 3)) ∧ (decode cX7_rule 152 = .ok (.invokevirtual 100, 3)) := by decide +kernel
theorem dX7_rule_123 : decode cX7_rule 123 = .ok (.iload 8, 2) := dg_X7_rule_123.1
theorem dX7_rule_125 : decode cX7_rule 125 = .ok (.lload 4, 2) := dg_X7_rule_123.2.1
theorem dX7_rule_127 : decode cX7_rule 127 = .ok (.invokestatic 156, 3) := dg_X7_rule_123.2.2.1
theorem dX7_rule_130 : decode cX7_rule 130 = .ok (.goto 5, 3) := dg_X7_rule_123.2.2.2.1
theorem dX7_rule_133 : decode cX7_rule 133 = .ok (.lload 4, 2) := dg_X7_rule_123.2.2.2.2.1
theorem dX7_rule_135 : decode cX7_rule 135 = .ok (.lstore 9, 2) := dg_X7_rule_123.2.2.2.2.2.1
theorem dX7_rule_137 : decode cX7_rule 137 = .ok (.aload_n 0, 1) := dg_X7_rule_123.2.2.2.2.2.2.1
theorem dX7_rule_138 : decode cX7_rule 138 = .ok (.aload_n 0, 1) := dg_X7_rule_123.2.2.2.2.2.2.2.1
theorem dX7_rule_139 : decode cX7_rule 139 = .ok (.getfield 42, 3) := dg_X7_rule_123.2.2.2.2.2.2.2.2.1
theorem dX7_rule_142 : decode cX7_rule 142 = .ok (.iload_n 1, 1) := dg_X7_rule_123.2.2.2.2.2.2.2.2.2.1
theorem dX7_rule_143 : decode cX7_rule 143 = .ok (.iload_n 2, 1) := dg_X7_rule_123.2.2.2.2.2.2.2.2.2.2.1
theorem dX7_rule_144 : decode cX7_rule 144 = .ok (.iload_n 3, 1) := dg_X7_rule_123.2.2.2.2.2.2.2.2.2.2.2.1
theorem dX7_rule_145 : decode cX7_rule 145 = .ok (.lload 9, 2) := dg_X7_rule_123.2.2.2.2.2.2.2.2.2.2.2.2.1
theorem dX7_rule_147 : decode cX7_rule 147 = .ok (.lload 6, 2) := dg_X7_rule_123.2.2.2.2.2.2.2.2.2.2.2.2.2.1
theorem dX7_rule_149 : decode cX7_rule 149 = .ok (.invokevirtual 256, 3) := dg_X7_rule_123.2.2.2.2.2.2.2.2.2.2.2.2.2.2.1
theorem dX7_rule_152 : decode cX7_rule 152 = .ok (.invokevirtual 100, 3) := dg_X7_rule_123.2.2.2.2.2.2.2.2.2.2.2.2.2.2.2
theorem dg_X7_rule_155 : (decode cX7_rule 155 = .ok (.ireturn, 1)) := by decide +kernel
theorem dX7_rule_155 : decode cX7_rule 155 = .ok (.ireturn, 1) := dg_X7_rule_155
theorem zf_X7_42 : zz_f RX7 42 6 4 := ⟨RX7, TX7, 8, rfl, zi_X7, by decide, zk_204⟩
theorem zk_171 : Cond.fieldLink RX7 255 RX5 "made" "I" ∈ zz_w := zz_in (List.mem_append_right _ (List.mem_append_left _ (List.mem_of_getElem? (i := 171) (by decide +kernel)))) rfl
theorem zf_X7_255 : zz_f RX7 255 4 1 := ⟨RX5, TX5, 9, rfl, zi_X5, by decide, zk_171⟩
theorem zk_604 : Cond.methodLink RX7 256 yX5_add ∈ zz_w := zz_in (List.mem_append_right _ (List.mem_append_right _ (List.mem_append_right _ (List.mem_append_left _ (List.mem_of_getElem? (i := 124) (by decide +kernel)))))) rfl
set_option maxRecDepth 20000 in
theorem zk_607 : Cond.code yX5_add cX5_add 8 (some .int) ∈ zz_w := zz_in (List.mem_append_right _ (List.mem_append_right _ (List.mem_append_right _ (List.mem_append_left _ (List.mem_of_getElem? (i := 127) (rfl)))))) rfl
theorem zk_605 : Cond.instanceMethod yX5_add ∈ zz_w := zz_in (List.mem_append_right _ (List.mem_append_right _ (List.mem_append_right _ (List.mem_append_left _ (List.mem_of_getElem? (i := 125) (by decide +kernel)))))) rfl
theorem zk_606 : Cond.selects RX5 yX5_add yX5_add ∈ zz_w := zz_in (List.mem_append_right _ (List.mem_append_right _ (List.mem_append_right _ (List.mem_append_left _ (List.mem_of_getElem? (i := 126) (by decide +kernel)))))) rfl
theorem zc_X7_256 : zz_cV RX7 256 yX5_add cX5_add 8 (some .int) 5 := ⟨⟨zk_604, zk_607, zk_6, by decide, by decide, by decide +kernel⟩, zk_605, zk_606⟩
def fo_cx_rule (na : Nat) (nu : Nat) (nr : Nat) (kdf : Nat → Int32) (dpf : Nat → Int32) (saf : Nat → Int32) (lnf : Nat → Int32) (sof : Nat → Int32) (juf : Nat → Int32) (wef : Nat → Int32) (lof : Nat → Int64) (hif : Nat → Int64) (x1 : Int32) (x2 : Int32) (x3 : Int32) (x4 : Int64) (x5 : Int64) : (Int32) × (Nat) × (Nat → Int32) × (Nat → Int32) × (Nat → Int32) × (Nat → Int64) × (Nat → Int64) := (if (fn_co_has (nI na) x2) = 0 then (-5, nr, sof, juf, wef, lof, hif) else (if x1 < 0 then (-9, nr, sof, juf, wef, lof, hif) else (if 5 < x1 then (-9, nr, sof, juf, wef, lof, hif) else (if x3 < (-1000) then (-9, nr, sof, juf, wef, lof, hif) else (if x3 ≤ 1000 then (if x1 = 3 then (if (fn_co_holds (kdf x2.toNatClampNeg) x4) = 0 then (-9, nr, sof, juf, wef, lof, hif) else (if (nI ((dpf x2.toNatClampNeg).toNatClampNeg)) = 1 then (if (nI nr) < 12 then ((nI nr), (nr + 1), (upd sof nr x1), (upd juf nr (nI x2.toNatClampNeg)), (upd wef nr x3), (vp_updL lof nr (fn_co_cleaned (kdf x2.toNatClampNeg) x4)), (vp_updL hif nr x5)) else (-8, nr, sof, juf, wef, lof, hif)) else (-1, nr, sof, juf, wef, lof, hif))) else (if (nI ((dpf x2.toNatClampNeg).toNatClampNeg)) = 1 then (if (nI nr) < 12 then ((nI nr), (nr + 1), (upd sof nr x1), (upd juf nr (nI x2.toNatClampNeg)), (upd wef nr x3), (vp_updL lof nr x4), (vp_updL hif nr x5)) else (-8, nr, sof, juf, wef, lof, hif)) else (-1, nr, sof, juf, wef, lof, hif))) else (-9, nr, sof, juf, wef, lof, hif))))))
abbrev rm_cx_rule : Room := { frames := 2, cells := 0, slots := 0, locals := 44 }
abbrev po_cx_rule (g : zz_G) (h0 : Nat) (st : Nat) (mk : Nat) (lk : Nat) (ch : Nat) (ru : Nat) (mr : Nat) (kd : Nat) (dp : Nat) (cl : Nat) (sa : Nat) (ln : Nat) (bt : Nat) (pn : Nat) (bf : Nat) (u_so : Nat) (u_ju : Nat) (u_we : Nat) (u_lo : Nat) (u_hi : Nat) (u_ta : Nat) (u_bo : Nat) (md : Int32) (la : Int32) (na : Nat) (nu : Nat) (nr : Nat) (kdf : Nat → Int32) (dpf : Nat → Int32) (saf : Nat → Int32) (lnf : Nat → Int32) (sof : Nat → Int32) (juf : Nat → Int32) (wef : Nat → Int32) (lof : Nat → Int64) (hif : Nat → Int64) (x1 : Int32) (x2 : Int32) (x3 : Int32) (x4 : Int64) (x5 : Int64) (h_S : zz_SI na nu dpf saf lnf) (h_R : zz_RI na nr juf saf lnf) : Int32 → va_W → Prop := fun (r : Int32) (u : va_W) => ∃ (la2 : Int32) (nr2 : Nat) (so2 : Nat → Int32) (ju2 : Nat → Int32) (we2 : Nat → Int32) (lo2 : Nat → Int64) (hi2 : Nat → Int64), (r, nr2, so2, ju2, we2, lo2, hi2) = fo_cx_rule na nu nr kdf dpf saf lnf sof juf wef lof hif x1 x2 x3 x4 x5 ∧ (zz_RI na nr2 ju2 saf lnf) ∧ u = [cw_k6 h0 st mk lk ch ru mr md la2, cw_k5 st (nI na) (nI nu) kd dp cl sa ln bt pn bf, cw_k4 ru st (nI nr2) u_so u_ju u_we u_lo u_hi u_ta u_bo, cw_i g kd 60 kdf, cw_i g dp 60 dpf, cw_i g sa 60 saf, cw_i g ln 60 lnf, cw_i g u_so 12 so2, cw_i g u_ju 12 ju2, cw_i g u_we 12 we2, cw_l g u_lo 12 lo2, cw_l g u_hi 12 hi2]
set_option maxHeartbeats 4000000 in
set_option maxRecDepth 100000 in
theorem cx_rule (g : zz_G) (h0 : Nat) (st : Nat) (mk : Nat) (lk : Nat) (ch : Nat) (ru : Nat) (mr : Nat) (kd : Nat) (dp : Nat) (cl : Nat) (sa : Nat) (ln : Nat) (bt : Nat) (pn : Nat) (bf : Nat) (u_so : Nat) (u_ju : Nat) (u_we : Nat) (u_lo : Nat) (u_hi : Nat) (u_ta : Nat) (u_bo : Nat) (md : Int32) (la : Int32) (na : Nat) (nu : Nat) (nr : Nat) (kdf : Nat → Int32) (dpf : Nat → Int32) (saf : Nat → Int32) (lnf : Nat → Int32) (sof : Nat → Int32) (juf : Nat → Int32) (wef : Nat → Int32) (lof : Nat → Int64) (hif : Nat → Int64) (x1 : Int32) (x2 : Int32) (x3 : Int32) (x4 : Int64) (x5 : Int64) (h_S : zz_SI na nu dpf saf lnf) (h_R : zz_RI na nr juf saf lnf) : zz_I g yX7_rule (.code yX7_rule cX7_rule 11 (some .int)) rm_cx_rule [.ref h0, .int x1, .int x2, .int x3, .long x4, .long x5] [cw_k6 h0 st mk lk ch ru mr md la, cw_k5 st (nI na) (nI nu) kd dp cl sa ln bt pn bf, cw_k4 ru st (nI nr) u_so u_ju u_we u_lo u_hi u_ta u_bo, cw_i g kd 60 kdf, cw_i g dp 60 dpf, cw_i g sa 60 saf, cw_i g ln 60 lnf, cw_i g u_so 12 sof, cw_i g u_ju 12 juf, cw_i g u_we 12 wef, cw_l g u_lo 12 lof, cw_l g u_hi 12 hif] (po_cx_rule g h0 st mk lk ch ru mr kd dp cl sa ln bt pn bf u_so u_ju u_we u_lo u_hi u_ta u_bo md la na nu nr kdf dpf saf lnf sof juf wef lof hif x1 x2 x3 x4 x5 h_S h_R) := by
  refine zz_I.intro (own := RX7) (cc := cX7_rule) (nL := 11) (by decide) rfl (Nat.le_of_ble_eq_true rfl) ?_
  intro p l e s m args below meth c A H locs ls hC hnm hs hZ hl
  obtain ⟨hx, hb, hml, hown, hts, hr, hlocks, hK⟩ := id hC
  have hl : lv_has ls 11 [(0, .ref h0), (1, .int x1), (2, .int x2), (3, .int x3), (4, .long x4), (6, .long x5)] := hl
  have hZ : zz_Z g A s.heap [cw_k6 h0 st mk lk ch ru mr md la, cw_k5 st (nI na) (nI nu) kd dp cl sa ln bt pn bf, cw_k4 ru st (nI nr) u_so u_ju u_we u_lo u_hi u_ta u_bo, cw_i g kd 60 kdf, cw_i g dp 60 dpf, cw_i g sa 60 saf, cw_i g ln 60 lnf, cw_i g u_so 12 sof, cw_i g u_ju 12 juf, cw_i g u_we 12 wef, cw_l g u_lo 12 lof, cw_l g u_hi 12 hif] H locs := hZ
  have hna := h_S.1
  have hnu := h_S.2.1
  have hr12 := h_R.1
  refine lv_aload_n hx hb dX7_rule_0 rfl (lv_at hl 0 rfl) ?_
  refine zz_get hC hZ 0 rfl zf_X7_10 rfl dX7_rule_1 ?_
  refine lv_iload_n hx hb dX7_rule_4 rfl (lv_at hl 2 rfl) ?_
  refine zz_iV (As := [.int x2]) (wc := [cw_k5 st (nI na) (nI nu) kd dp cl sa ln bt pn bf]) (wr := [cw_k6 h0 st mk lk ch ru mr md la, cw_k4 ru st (nI nr) u_so u_ju u_we u_lo u_hi u_ta u_bo, cw_i g kd 60 kdf, cw_i g dp 60 dpf, cw_i g sa 60 saf, cw_i g ln 60 lnf, cw_i g u_so 12 sof, cw_i g u_ju 12 juf, cw_i g u_we 12 wef, cw_l g u_lo 12 lof, cw_l g u_hi 12 hif]) (rest := []) hC hZ hs hl zc_X7_73 (co_has g st kd dp cl sa ln bt pn bf (nI na) (nI nu) x2) [1] [0, 2, 3, 4, 5, 6, 7, 8, 9, 10, 11] rfl rfl (by decide +kernel) (ci := 5) (q0 := 0) rfl rfl rfl rfl (Nat.le_of_ble_eq_true rfl) ⟨⟨Nat.le_of_ble_eq_true rfl, Nat.le_of_ble_eq_true rfl⟩, Nat.le_of_ble_eq_true rfl, Nat.le_of_ble_eq_true rfl⟩ dX7_rule_5 (fun r1 u2 H locs hp hZ => ?_)
  obtain ⟨rfl, rfl⟩ := hp
  have hZ : zz_Z g A s.heap [cw_k6 h0 st mk lk ch ru mr md la, cw_k4 ru st (nI nr) u_so u_ju u_we u_lo u_hi u_ta u_bo, cw_i g kd 60 kdf, cw_i g dp 60 dpf, cw_i g sa 60 saf, cw_i g ln 60 lnf, cw_i g u_so 12 sof, cw_i g u_ju 12 juf, cw_i g u_we 12 wef, cw_l g u_lo 12 lof, cw_l g u_hi 12 hif, cw_k5 st (nI na) (nI nu) kd dp cl sa ln bt pn bf] H locs := hZ
  refine lv_if_ne (tgt := 17) hx hb dX7_rule_8 (by decide) (fun c3 => ?_) (fun c3 => ?_)
  · obtain ⟨a2, ha2, ea2⟩ := zl_has (by omega) c3
    have hl : lv_has ls 11 [(0, .ref h0), (1, .int x1), (2, .int (nI a2)), (3, .int x3), (4, .long x4), (6, .long x5)] := by rw [← ea2]; exact hl
    have bd4 : a2 < 2 ^ 31 := by omega
    have d_a2 : x2.toNatClampNeg = a2 := by rw [ea2]; exact nI_clamp bd4
    obtain ⟨sz2, lz2, dz2, es2, el2, ed2, g12, g22, g32, g42⟩ := h_S.2.2 a2 ha2
    have bd5 : sz2 < 2 ^ 31 := by omega
    have d_sz2 : (saf a2).toNatClampNeg = sz2 := by rw [es2]; exact nI_clamp bd5
    have bd6 : lz2 < 2 ^ 31 := by omega
    have d_lz2 : (lnf a2).toNatClampNeg = lz2 := by rw [el2]; exact nI_clamp bd6
    have bd7 : dz2 < 2 ^ 31 := by omega
    have d_dz2 : (dpf a2).toNatClampNeg = dz2 := by rw [ed2]; exact nI_clamp bd7
    refine lv_iload_n hx hb dX7_rule_17 rfl (lv_at hl 1 rfl) ?_
    refine lv_if_lt (tgt := 40) hx hb dX7_rule_18 (by decide) (fun c8 => ?_) (fun c8 => ?_)
    · refine lv_aload_n hx hb dX7_rule_40 rfl (lv_at hl 0 rfl) ?_
      refine lv_bipush (v := 9) hx hb dX7_rule_41 (by decide) ?_
      refine zz_iV (As := [.int 9]) (wc := [cw_k6 h0 st mk lk ch ru mr md la]) (wr := [cw_k4 ru st (nI nr) u_so u_ju u_we u_lo u_hi u_ta u_bo, cw_i g kd 60 kdf, cw_i g dp 60 dpf, cw_i g sa 60 saf, cw_i g ln 60 lnf, cw_i g u_so 12 sof, cw_i g u_ju 12 juf, cw_i g u_we 12 wef, cw_l g u_lo 12 lof, cw_l g u_hi 12 hif, cw_k5 st (nI na) (nI nu) kd dp cl sa ln bt pn bf]) (rest := []) hC hZ hs hl zc_X7_65 (co_fail g h0 st mk lk ch ru mr md la 9) [0] [1, 2, 3, 4, 5, 6, 7, 8, 9, 10, 11] rfl rfl (by decide +kernel) (ci := 6) (q0 := 0) rfl rfl rfl rfl (Nat.le_of_ble_eq_true rfl) ⟨⟨Nat.le_of_ble_eq_true rfl, Nat.le_of_ble_eq_true rfl⟩, Nat.le_of_ble_eq_true rfl, Nat.le_of_ble_eq_true rfl⟩ dX7_rule_43 (fun r9 u10 H locs hp hZ => ?_)
      obtain ⟨rfl, rfl⟩ := hp
      have hZ : zz_Z g A s.heap [cw_k4 ru st (nI nr) u_so u_ju u_we u_lo u_hi u_ta u_bo, cw_i g kd 60 kdf, cw_i g dp 60 dpf, cw_i g sa 60 saf, cw_i g ln 60 lnf, cw_i g u_so 12 sof, cw_i g u_ju 12 juf, cw_i g u_we 12 wef, cw_l g u_lo 12 lof, cw_l g u_hi 12 hif, cw_k5 st (nI na) (nI nu) kd dp cl sa ln bt pn bf, cw_k6 h0 st mk lk ch ru mr md 9] H locs := hZ
      have hZ : zz_Z g A s.heap [cw_k6 h0 st mk lk ch ru mr md 9, cw_k5 st (nI na) (nI nu) kd dp cl sa ln bt pn bf, cw_k4 ru st (nI nr) u_so u_ju u_we u_lo u_hi u_ta u_bo, cw_i g kd 60 kdf, cw_i g dp 60 dpf, cw_i g sa 60 saf, cw_i g ln 60 lnf, cw_i g u_so 12 sof, cw_i g u_ju 12 juf, cw_i g u_we 12 wef, cw_l g u_lo 12 lof, cw_l g u_hi 12 hif] H locs := hZ.sub [11, 10, 0, 1, 2, 3, 4, 5, 6, 7, 8, 9] (by decide +kernel) rfl
      exact zz_iret hC hZ (⟨9, nr, sof, juf, wef, lof, hif, by refine Eq.symm ?_; rw [fo_cx_rule]; refine (if_neg (by (try simp only [d_a2, d_sz2, d_lz2, d_dz2]); exact c3)).trans ?_; refine (if_pos (by (try simp only [d_a2, d_sz2, d_lz2, d_dz2]); exact c8)).trans ?_; first | (simp only [d_a2, d_sz2, d_lz2, d_dz2]; done) | rfl, h_R, rfl⟩) (Nat.le_of_ble_eq_true rfl) (Nat.le_of_ble_eq_true rfl) dX7_rule_46
    · refine lv_iload_n hx hb dX7_rule_21 rfl (lv_at hl 1 rfl) ?_
      refine lv_iconst (v := 5) hx hb dX7_rule_22 (by decide) ?_
      refine lv_icmp_gt (tgt := 40) hx hb dX7_rule_23 (by decide) (fun c11 => ?_) (fun c11 => ?_)
      · refine lv_aload_n hx hb dX7_rule_40 rfl (lv_at hl 0 rfl) ?_
        refine lv_bipush (v := 9) hx hb dX7_rule_41 (by decide) ?_
        refine zz_iV (As := [.int 9]) (wc := [cw_k6 h0 st mk lk ch ru mr md la]) (wr := [cw_k4 ru st (nI nr) u_so u_ju u_we u_lo u_hi u_ta u_bo, cw_i g kd 60 kdf, cw_i g dp 60 dpf, cw_i g sa 60 saf, cw_i g ln 60 lnf, cw_i g u_so 12 sof, cw_i g u_ju 12 juf, cw_i g u_we 12 wef, cw_l g u_lo 12 lof, cw_l g u_hi 12 hif, cw_k5 st (nI na) (nI nu) kd dp cl sa ln bt pn bf]) (rest := []) hC hZ hs hl zc_X7_65 (co_fail g h0 st mk lk ch ru mr md la 9) [0] [1, 2, 3, 4, 5, 6, 7, 8, 9, 10, 11] rfl rfl (by decide +kernel) (ci := 6) (q0 := 0) rfl rfl rfl rfl (Nat.le_of_ble_eq_true rfl) ⟨⟨Nat.le_of_ble_eq_true rfl, Nat.le_of_ble_eq_true rfl⟩, Nat.le_of_ble_eq_true rfl, Nat.le_of_ble_eq_true rfl⟩ dX7_rule_43 (fun r12 u13 H locs hp hZ => ?_)
        obtain ⟨rfl, rfl⟩ := hp
        have hZ : zz_Z g A s.heap [cw_k4 ru st (nI nr) u_so u_ju u_we u_lo u_hi u_ta u_bo, cw_i g kd 60 kdf, cw_i g dp 60 dpf, cw_i g sa 60 saf, cw_i g ln 60 lnf, cw_i g u_so 12 sof, cw_i g u_ju 12 juf, cw_i g u_we 12 wef, cw_l g u_lo 12 lof, cw_l g u_hi 12 hif, cw_k5 st (nI na) (nI nu) kd dp cl sa ln bt pn bf, cw_k6 h0 st mk lk ch ru mr md 9] H locs := hZ
        have hZ : zz_Z g A s.heap [cw_k6 h0 st mk lk ch ru mr md 9, cw_k5 st (nI na) (nI nu) kd dp cl sa ln bt pn bf, cw_k4 ru st (nI nr) u_so u_ju u_we u_lo u_hi u_ta u_bo, cw_i g kd 60 kdf, cw_i g dp 60 dpf, cw_i g sa 60 saf, cw_i g ln 60 lnf, cw_i g u_so 12 sof, cw_i g u_ju 12 juf, cw_i g u_we 12 wef, cw_l g u_lo 12 lof, cw_l g u_hi 12 hif] H locs := hZ.sub [11, 10, 0, 1, 2, 3, 4, 5, 6, 7, 8, 9] (by decide +kernel) rfl
        exact zz_iret hC hZ (⟨9, nr, sof, juf, wef, lof, hif, by refine Eq.symm ?_; rw [fo_cx_rule]; refine (if_neg (by (try simp only [d_a2, d_sz2, d_lz2, d_dz2]); exact c3)).trans ?_; refine (if_neg (by (try simp only [d_a2, d_sz2, d_lz2, d_dz2]); exact c8)).trans ?_; refine (if_pos (by (try simp only [d_a2, d_sz2, d_lz2, d_dz2]); exact c11)).trans ?_; first | (simp only [d_a2, d_sz2, d_lz2, d_dz2]; done) | rfl, h_R, rfl⟩) (Nat.le_of_ble_eq_true rfl) (Nat.le_of_ble_eq_true rfl) dX7_rule_46
      · refine lv_iload_n hx hb dX7_rule_26 rfl (lv_at hl 3 rfl) ?_
        refine lv_sipush (v := -1000) hx hb dX7_rule_27 (by decide) ?_
        refine lv_icmp_lt (tgt := 40) hx hb dX7_rule_30 (by decide) (fun c14 => ?_) (fun c14 => ?_)
        · refine lv_aload_n hx hb dX7_rule_40 rfl (lv_at hl 0 rfl) ?_
          refine lv_bipush (v := 9) hx hb dX7_rule_41 (by decide) ?_
          refine zz_iV (As := [.int 9]) (wc := [cw_k6 h0 st mk lk ch ru mr md la]) (wr := [cw_k4 ru st (nI nr) u_so u_ju u_we u_lo u_hi u_ta u_bo, cw_i g kd 60 kdf, cw_i g dp 60 dpf, cw_i g sa 60 saf, cw_i g ln 60 lnf, cw_i g u_so 12 sof, cw_i g u_ju 12 juf, cw_i g u_we 12 wef, cw_l g u_lo 12 lof, cw_l g u_hi 12 hif, cw_k5 st (nI na) (nI nu) kd dp cl sa ln bt pn bf]) (rest := []) hC hZ hs hl zc_X7_65 (co_fail g h0 st mk lk ch ru mr md la 9) [0] [1, 2, 3, 4, 5, 6, 7, 8, 9, 10, 11] rfl rfl (by decide +kernel) (ci := 6) (q0 := 0) rfl rfl rfl rfl (Nat.le_of_ble_eq_true rfl) ⟨⟨Nat.le_of_ble_eq_true rfl, Nat.le_of_ble_eq_true rfl⟩, Nat.le_of_ble_eq_true rfl, Nat.le_of_ble_eq_true rfl⟩ dX7_rule_43 (fun r15 u16 H locs hp hZ => ?_)
          obtain ⟨rfl, rfl⟩ := hp
          have hZ : zz_Z g A s.heap [cw_k4 ru st (nI nr) u_so u_ju u_we u_lo u_hi u_ta u_bo, cw_i g kd 60 kdf, cw_i g dp 60 dpf, cw_i g sa 60 saf, cw_i g ln 60 lnf, cw_i g u_so 12 sof, cw_i g u_ju 12 juf, cw_i g u_we 12 wef, cw_l g u_lo 12 lof, cw_l g u_hi 12 hif, cw_k5 st (nI na) (nI nu) kd dp cl sa ln bt pn bf, cw_k6 h0 st mk lk ch ru mr md 9] H locs := hZ
          have hZ : zz_Z g A s.heap [cw_k6 h0 st mk lk ch ru mr md 9, cw_k5 st (nI na) (nI nu) kd dp cl sa ln bt pn bf, cw_k4 ru st (nI nr) u_so u_ju u_we u_lo u_hi u_ta u_bo, cw_i g kd 60 kdf, cw_i g dp 60 dpf, cw_i g sa 60 saf, cw_i g ln 60 lnf, cw_i g u_so 12 sof, cw_i g u_ju 12 juf, cw_i g u_we 12 wef, cw_l g u_lo 12 lof, cw_l g u_hi 12 hif] H locs := hZ.sub [11, 10, 0, 1, 2, 3, 4, 5, 6, 7, 8, 9] (by decide +kernel) rfl
          exact zz_iret hC hZ (⟨9, nr, sof, juf, wef, lof, hif, by refine Eq.symm ?_; rw [fo_cx_rule]; refine (if_neg (by (try simp only [d_a2, d_sz2, d_lz2, d_dz2]); exact c3)).trans ?_; refine (if_neg (by (try simp only [d_a2, d_sz2, d_lz2, d_dz2]); exact c8)).trans ?_; refine (if_neg (by (try simp only [d_a2, d_sz2, d_lz2, d_dz2]); exact c11)).trans ?_; refine (if_pos (by (try simp only [d_a2, d_sz2, d_lz2, d_dz2]); exact c14)).trans ?_; first | (simp only [d_a2, d_sz2, d_lz2, d_dz2]; done) | rfl, h_R, rfl⟩) (Nat.le_of_ble_eq_true rfl) (Nat.le_of_ble_eq_true rfl) dX7_rule_46
        · refine lv_iload_n hx hb dX7_rule_33 rfl (lv_at hl 3 rfl) ?_
          refine lv_sipush (v := 1000) hx hb dX7_rule_34 (by decide) ?_
          refine lv_icmp_le (tgt := 47) hx hb dX7_rule_37 (by decide) (fun c17 => ?_) (fun c17 => ?_)
          · refine lv_aload_n hx hb dX7_rule_47 rfl (lv_at hl 0 rfl) ?_
            refine zz_get hC hZ 0 rfl zf_X7_10 rfl dX7_rule_48 ?_
            refine zz_get hC hZ 11 rfl zf_X7_80 rfl dX7_rule_51 ?_
            refine lv_iload_n hx hb dX7_rule_54 rfl (lv_at hl 2 rfl) ?_
            have bd18 : a2 < 60 := by omega
            refine zz_ialdn hC hZ 2 rfl bd18 (by decide) dX7_rule_55 ?_
            refine lv_istore (lv' := [(8, .int (kdf a2)), (0, .ref h0), (1, .int x1), (2, .int (nI a2)), (3, .int x3), (4, .long x4), (6, .long x5)]) hx hb dX7_rule_56 hl (by decide) rfl (fun ls hl => ?_)
            refine lv_iload_n hx hb dX7_rule_58 rfl (lv_at hl 2 rfl) ?_
            refine lv_iconst (v := 3) hx hb dX7_rule_59 (by decide) ?_
            refine lv_icmp_ne (tgt := 80) hx hb dX7_rule_60 (by decide) (fun c19 => ?_) (fun c19 => ?_)
            · refine lv_aload_n hx hb dX7_rule_80 rfl (lv_at hl 1 rfl) ?_
              refine zz_get hC hZ 0 rfl zf_X7_10 rfl dX7_rule_81 ?_
              refine zz_get hC hZ 11 rfl zf_X7_76 rfl dX7_rule_84 ?_
              refine lv_iload_n hx hb dX7_rule_87 rfl (lv_at hl 3 rfl) ?_
              refine zz_ialdn hC hZ 3 rfl bd18 (by decide) dX7_rule_88 ?_
              refine zz_topi (v := nI dz2) (ed2) ?_
              refine lv_iconst (v := 1) hx hb dX7_rule_89 (by decide) ?_
              refine lv_icmp_eq (tgt := 99) hx hb dX7_rule_90 (by decide) (fun c20 => ?_) (fun c20 => ?_)
              · have nc20 : dz2 = 1 := (nI_eq bd7 (by decide)).mp (show nI (dz2) = nI (1) from c20)
                refine lv_aload_n hx hb dX7_rule_99 rfl (lv_at hl 1 rfl) ?_
                refine zz_get hC hZ 0 rfl zf_X7_42 rfl dX7_rule_100 ?_
                refine zz_get hC hZ 1 rfl zf_X7_255 rfl dX7_rule_103 ?_
                refine lv_bipush (v := 12) hx hb dX7_rule_106 (by decide) ?_
                have bd22 : nr < 2 ^ 31 := by omega
                refine lv_icmp_lt (tgt := 118) hx hb dX7_rule_108 (by decide) (fun c21 => ?_) (fun c21 => ?_)
                · have nc21 : nr < 12 := (nI_ltI bd22 (by decide)).mp (show nI (nr) < nI (12) from c21)
                  refine lv_iload_n hx hb dX7_rule_118 rfl (lv_at hl 2 rfl) ?_
                  refine lv_iconst (v := 3) hx hb dX7_rule_119 (by decide) ?_
                  refine lv_icmp_ne (tgt := 133) hx hb dX7_rule_120 (by decide) (fun c23 => ?_) (fun c => absurd c (c19))
                  refine lv_lload hx hb dX7_rule_133 (lv_at hl 5 rfl) ?_
                  refine lv_lstore (lv' := [(9, .long x4), (8, .int (kdf a2)), (0, .ref h0), (1, .int x1), (2, .int (nI a2)), (3, .int x3), (4, .long x4), (6, .long x5)]) hx hb dX7_rule_135 hl (by decide) rfl (fun ls hl => ?_)
                  refine lv_aload_n hx hb dX7_rule_137 rfl (lv_at hl 2 rfl) ?_
                  refine lv_aload_n hx hb dX7_rule_138 rfl (lv_at hl 2 rfl) ?_
                  refine zz_get hC hZ 0 rfl zf_X7_42 rfl dX7_rule_139 ?_
                  refine lv_iload_n hx hb dX7_rule_142 rfl (lv_at hl 3 rfl) ?_
                  refine lv_iload_n hx hb dX7_rule_143 rfl (lv_at hl 4 rfl) ?_
                  refine lv_iload_n hx hb dX7_rule_144 rfl (lv_at hl 5 rfl) ?_
                  refine lv_lload hx hb dX7_rule_145 (lv_at hl 0 rfl) ?_
                  refine lv_lload hx hb dX7_rule_147 (lv_at hl 7 rfl) ?_
                  refine zz_iV (As := [.int x1, .int (nI a2), .int x3, .long x4, .long x5]) (wc := [cw_k4 ru st (nI nr) u_so u_ju u_we u_lo u_hi u_ta u_bo, cw_i g u_so 12 sof, cw_i g u_ju 12 juf, cw_i g u_we 12 wef, cw_l g u_lo 12 lof, cw_l g u_hi 12 hif]) (wr := [cw_k6 h0 st mk lk ch ru mr md la, cw_i g kd 60 kdf, cw_i g dp 60 dpf, cw_i g sa 60 saf, cw_i g ln 60 lnf, cw_k5 st (nI na) (nI nu) kd dp cl sa ln bt pn bf]) (rest := [.ref h0]) hC hZ hs hl zc_X7_256 (co_radd g ru st u_so u_ju u_we u_lo u_hi u_ta u_bo nr sof juf wef lof hif x1 (nI a2) x3 x4 x5 (by omega)) [1, 6, 7, 8, 9, 10] [0, 2, 3, 4, 5, 11] rfl rfl (by decide +kernel) (ci := 4) (q0 := 0) rfl rfl rfl rfl (Nat.le_of_ble_eq_true rfl) ⟨⟨Nat.le_of_ble_eq_true rfl, Nat.le_of_ble_eq_true rfl⟩, Nat.le_of_ble_eq_true rfl, Nat.le_of_ble_eq_true rfl⟩ dX7_rule_149 (fun r24 u25 H locs hp hZ => ?_)
                  obtain ⟨rfl, rfl⟩ := hp
                  have hZ : zz_Z g A s.heap [cw_k6 h0 st mk lk ch ru mr md la, cw_i g kd 60 kdf, cw_i g dp 60 dpf, cw_i g sa 60 saf, cw_i g ln 60 lnf, cw_k5 st (nI na) (nI nu) kd dp cl sa ln bt pn bf, cw_k4 ru st (nI (nr + 1)) u_so u_ju u_we u_lo u_hi u_ta u_bo, cw_i g u_so 12 (upd sof nr x1), cw_i g u_ju 12 (upd juf nr (nI a2)), cw_i g u_we 12 (upd wef nr x3), cw_l g u_lo 12 (vp_updL lof nr x4), cw_l g u_hi 12 (vp_updL hif nr x5)] H locs := hZ
                  refine zz_iV (As := [.int (nI nr)]) (wc := [cw_k6 h0 st mk lk ch ru mr md la]) (wr := [cw_i g kd 60 kdf, cw_i g dp 60 dpf, cw_i g sa 60 saf, cw_i g ln 60 lnf, cw_k5 st (nI na) (nI nu) kd dp cl sa ln bt pn bf, cw_k4 ru st (nI (nr + 1)) u_so u_ju u_we u_lo u_hi u_ta u_bo, cw_i g u_so 12 (upd sof nr x1), cw_i g u_ju 12 (upd juf nr (nI a2)), cw_i g u_we 12 (upd wef nr x3), cw_l g u_lo 12 (vp_updL lof nr x4), cw_l g u_hi 12 (vp_updL hif nr x5)]) (rest := []) hC hZ hs hl zc_X7_100 (co_fine g h0 st mk lk ch ru mr md la (nI nr)) [0] [1, 2, 3, 4, 5, 6, 7, 8, 9, 10, 11] rfl rfl (by decide +kernel) (ci := 6) (q0 := 0) rfl rfl rfl rfl (Nat.le_of_ble_eq_true rfl) ⟨⟨Nat.le_of_ble_eq_true rfl, Nat.le_of_ble_eq_true rfl⟩, Nat.le_of_ble_eq_true rfl, Nat.le_of_ble_eq_true rfl⟩ dX7_rule_152 (fun r26 u27 H locs hp hZ => ?_)
                  obtain ⟨rfl, rfl⟩ := hp
                  have hZ : zz_Z g A s.heap [cw_i g kd 60 kdf, cw_i g dp 60 dpf, cw_i g sa 60 saf, cw_i g ln 60 lnf, cw_k5 st (nI na) (nI nu) kd dp cl sa ln bt pn bf, cw_k4 ru st (nI (nr + 1)) u_so u_ju u_we u_lo u_hi u_ta u_bo, cw_i g u_so 12 (upd sof nr x1), cw_i g u_ju 12 (upd juf nr (nI a2)), cw_i g u_we 12 (upd wef nr x3), cw_l g u_lo 12 (vp_updL lof nr x4), cw_l g u_hi 12 (vp_updL hif nr x5), cw_k6 h0 st mk lk ch ru mr md 0] H locs := hZ
                  have hZ : zz_Z g A s.heap [cw_k6 h0 st mk lk ch ru mr md 0, cw_k5 st (nI na) (nI nu) kd dp cl sa ln bt pn bf, cw_k4 ru st (nI (nr + 1)) u_so u_ju u_we u_lo u_hi u_ta u_bo, cw_i g kd 60 kdf, cw_i g dp 60 dpf, cw_i g sa 60 saf, cw_i g ln 60 lnf, cw_i g u_so 12 (upd sof nr x1), cw_i g u_ju 12 (upd juf nr (nI a2)), cw_i g u_we 12 (upd wef nr x3), cw_l g u_lo 12 (vp_updL lof nr x4), cw_l g u_hi 12 (vp_updL hif nr x5)] H locs := hZ.sub [11, 4, 5, 0, 1, 2, 3, 6, 7, 8, 9, 10] (by decide +kernel) rfl
                  exact zz_iret hC hZ (⟨0, (nr + 1), (upd sof nr x1), (upd juf nr (nI a2)), (upd wef nr x3), (vp_updL lof nr x4), (vp_updL hif nr x5), by refine Eq.symm ?_; rw [fo_cx_rule]; refine (if_neg (by (try simp only [d_a2, d_sz2, d_lz2, d_dz2]); exact c3)).trans ?_; refine (if_neg (by (try simp only [d_a2, d_sz2, d_lz2, d_dz2]); exact c8)).trans ?_; refine (if_neg (by (try simp only [d_a2, d_sz2, d_lz2, d_dz2]); exact c11)).trans ?_; refine (if_neg (by (try simp only [d_a2, d_sz2, d_lz2, d_dz2]); exact c14)).trans ?_; refine (if_pos (by (try simp only [d_a2, d_sz2, d_lz2, d_dz2]); exact c17)).trans ?_; refine (if_neg (by (try simp only [d_a2, d_sz2, d_lz2, d_dz2]); exact c19)).trans ?_; refine (if_pos (by (try simp only [d_a2, d_sz2, d_lz2, d_dz2]); exact c20)).trans ?_; refine (if_pos (by (try simp only [d_a2, d_sz2, d_lz2, d_dz2]); exact c21)).trans ?_; first | (simp only [d_a2, d_sz2, d_lz2, d_dz2]; done) | rfl, zl_RIadd h_R (by omega) (by omega) (by omega) es2 el2 (by omega) (by omega), rfl⟩) (Nat.le_of_ble_eq_true rfl) (Nat.le_of_ble_eq_true rfl) dX7_rule_155
                · have nc21 : ¬ nr < 12 := fun zq => c21 (show nI (nr) < nI (12) from (nI_ltI bd22 (by decide)).mpr zq)
                  refine lv_aload_n hx hb dX7_rule_111 rfl (lv_at hl 1 rfl) ?_
                  refine lv_bipush (v := 8) hx hb dX7_rule_112 (by decide) ?_
                  refine zz_iV (As := [.int 8]) (wc := [cw_k6 h0 st mk lk ch ru mr md la]) (wr := [cw_k4 ru st (nI nr) u_so u_ju u_we u_lo u_hi u_ta u_bo, cw_i g kd 60 kdf, cw_i g dp 60 dpf, cw_i g sa 60 saf, cw_i g ln 60 lnf, cw_i g u_so 12 sof, cw_i g u_ju 12 juf, cw_i g u_we 12 wef, cw_l g u_lo 12 lof, cw_l g u_hi 12 hif, cw_k5 st (nI na) (nI nu) kd dp cl sa ln bt pn bf]) (rest := []) hC hZ hs hl zc_X7_65 (co_fail g h0 st mk lk ch ru mr md la 8) [0] [1, 2, 3, 4, 5, 6, 7, 8, 9, 10, 11] rfl rfl (by decide +kernel) (ci := 6) (q0 := 0) rfl rfl rfl rfl (Nat.le_of_ble_eq_true rfl) ⟨⟨Nat.le_of_ble_eq_true rfl, Nat.le_of_ble_eq_true rfl⟩, Nat.le_of_ble_eq_true rfl, Nat.le_of_ble_eq_true rfl⟩ dX7_rule_114 (fun r28 u29 H locs hp hZ => ?_)
                  obtain ⟨rfl, rfl⟩ := hp
                  have hZ : zz_Z g A s.heap [cw_k4 ru st (nI nr) u_so u_ju u_we u_lo u_hi u_ta u_bo, cw_i g kd 60 kdf, cw_i g dp 60 dpf, cw_i g sa 60 saf, cw_i g ln 60 lnf, cw_i g u_so 12 sof, cw_i g u_ju 12 juf, cw_i g u_we 12 wef, cw_l g u_lo 12 lof, cw_l g u_hi 12 hif, cw_k5 st (nI na) (nI nu) kd dp cl sa ln bt pn bf, cw_k6 h0 st mk lk ch ru mr md 8] H locs := hZ
                  have hZ : zz_Z g A s.heap [cw_k6 h0 st mk lk ch ru mr md 8, cw_k5 st (nI na) (nI nu) kd dp cl sa ln bt pn bf, cw_k4 ru st (nI nr) u_so u_ju u_we u_lo u_hi u_ta u_bo, cw_i g kd 60 kdf, cw_i g dp 60 dpf, cw_i g sa 60 saf, cw_i g ln 60 lnf, cw_i g u_so 12 sof, cw_i g u_ju 12 juf, cw_i g u_we 12 wef, cw_l g u_lo 12 lof, cw_l g u_hi 12 hif] H locs := hZ.sub [11, 10, 0, 1, 2, 3, 4, 5, 6, 7, 8, 9] (by decide +kernel) rfl
                  exact zz_iret hC hZ (⟨8, nr, sof, juf, wef, lof, hif, by refine Eq.symm ?_; rw [fo_cx_rule]; refine (if_neg (by (try simp only [d_a2, d_sz2, d_lz2, d_dz2]); exact c3)).trans ?_; refine (if_neg (by (try simp only [d_a2, d_sz2, d_lz2, d_dz2]); exact c8)).trans ?_; refine (if_neg (by (try simp only [d_a2, d_sz2, d_lz2, d_dz2]); exact c11)).trans ?_; refine (if_neg (by (try simp only [d_a2, d_sz2, d_lz2, d_dz2]); exact c14)).trans ?_; refine (if_pos (by (try simp only [d_a2, d_sz2, d_lz2, d_dz2]); exact c17)).trans ?_; refine (if_neg (by (try simp only [d_a2, d_sz2, d_lz2, d_dz2]); exact c19)).trans ?_; refine (if_pos (by (try simp only [d_a2, d_sz2, d_lz2, d_dz2]); exact c20)).trans ?_; refine (if_neg (by (try simp only [d_a2, d_sz2, d_lz2, d_dz2]); exact c21)).trans ?_; first | (simp only [d_a2, d_sz2, d_lz2, d_dz2]; done) | rfl, h_R, rfl⟩) (Nat.le_of_ble_eq_true rfl) (Nat.le_of_ble_eq_true rfl) dX7_rule_117
              · have nc20 : ¬ dz2 = 1 := fun zq => c20 (show nI (dz2) = nI (1) from (nI_eq bd7 (by decide)).mpr zq)
                refine lv_aload_n hx hb dX7_rule_93 rfl (lv_at hl 1 rfl) ?_
                refine lv_iconst (v := 1) hx hb dX7_rule_94 (by decide) ?_
                refine zz_iV (As := [.int 1]) (wc := [cw_k6 h0 st mk lk ch ru mr md la]) (wr := [cw_k4 ru st (nI nr) u_so u_ju u_we u_lo u_hi u_ta u_bo, cw_i g kd 60 kdf, cw_i g dp 60 dpf, cw_i g sa 60 saf, cw_i g ln 60 lnf, cw_i g u_so 12 sof, cw_i g u_ju 12 juf, cw_i g u_we 12 wef, cw_l g u_lo 12 lof, cw_l g u_hi 12 hif, cw_k5 st (nI na) (nI nu) kd dp cl sa ln bt pn bf]) (rest := []) hC hZ hs hl zc_X7_65 (co_fail g h0 st mk lk ch ru mr md la 1) [0] [1, 2, 3, 4, 5, 6, 7, 8, 9, 10, 11] rfl rfl (by decide +kernel) (ci := 6) (q0 := 0) rfl rfl rfl rfl (Nat.le_of_ble_eq_true rfl) ⟨⟨Nat.le_of_ble_eq_true rfl, Nat.le_of_ble_eq_true rfl⟩, Nat.le_of_ble_eq_true rfl, Nat.le_of_ble_eq_true rfl⟩ dX7_rule_95 (fun r30 u31 H locs hp hZ => ?_)
                obtain ⟨rfl, rfl⟩ := hp
                have hZ : zz_Z g A s.heap [cw_k4 ru st (nI nr) u_so u_ju u_we u_lo u_hi u_ta u_bo, cw_i g kd 60 kdf, cw_i g dp 60 dpf, cw_i g sa 60 saf, cw_i g ln 60 lnf, cw_i g u_so 12 sof, cw_i g u_ju 12 juf, cw_i g u_we 12 wef, cw_l g u_lo 12 lof, cw_l g u_hi 12 hif, cw_k5 st (nI na) (nI nu) kd dp cl sa ln bt pn bf, cw_k6 h0 st mk lk ch ru mr md 1] H locs := hZ
                have hZ : zz_Z g A s.heap [cw_k6 h0 st mk lk ch ru mr md 1, cw_k5 st (nI na) (nI nu) kd dp cl sa ln bt pn bf, cw_k4 ru st (nI nr) u_so u_ju u_we u_lo u_hi u_ta u_bo, cw_i g kd 60 kdf, cw_i g dp 60 dpf, cw_i g sa 60 saf, cw_i g ln 60 lnf, cw_i g u_so 12 sof, cw_i g u_ju 12 juf, cw_i g u_we 12 wef, cw_l g u_lo 12 lof, cw_l g u_hi 12 hif] H locs := hZ.sub [11, 10, 0, 1, 2, 3, 4, 5, 6, 7, 8, 9] (by decide +kernel) rfl
                exact zz_iret hC hZ (⟨1, nr, sof, juf, wef, lof, hif, by refine Eq.symm ?_; rw [fo_cx_rule]; refine (if_neg (by (try simp only [d_a2, d_sz2, d_lz2, d_dz2]); exact c3)).trans ?_; refine (if_neg (by (try simp only [d_a2, d_sz2, d_lz2, d_dz2]); exact c8)).trans ?_; refine (if_neg (by (try simp only [d_a2, d_sz2, d_lz2, d_dz2]); exact c11)).trans ?_; refine (if_neg (by (try simp only [d_a2, d_sz2, d_lz2, d_dz2]); exact c14)).trans ?_; refine (if_pos (by (try simp only [d_a2, d_sz2, d_lz2, d_dz2]); exact c17)).trans ?_; refine (if_neg (by (try simp only [d_a2, d_sz2, d_lz2, d_dz2]); exact c19)).trans ?_; refine (if_neg (by (try simp only [d_a2, d_sz2, d_lz2, d_dz2]); exact c20)).trans ?_; first | (simp only [d_a2, d_sz2, d_lz2, d_dz2]; done) | rfl, h_R, rfl⟩) (Nat.le_of_ble_eq_true rfl) (Nat.le_of_ble_eq_true rfl) dX7_rule_98
            · refine lv_iload hx hb dX7_rule_63 (lv_at hl 0 rfl) ?_
              refine lv_lload hx hb dX7_rule_65 (lv_at hl 5 rfl) ?_
              refine zz_iS (As := [.int (kdf a2), .long x4]) (wc := []) (wr := [cw_k6 h0 st mk lk ch ru mr md la, cw_k4 ru st (nI nr) u_so u_ju u_we u_lo u_hi u_ta u_bo, cw_i g kd 60 kdf, cw_i g dp 60 dpf, cw_i g sa 60 saf, cw_i g ln 60 lnf, cw_i g u_so 12 sof, cw_i g u_ju 12 juf, cw_i g u_we 12 wef, cw_l g u_lo 12 lof, cw_l g u_hi 12 hif, cw_k5 st (nI na) (nI nu) kd dp cl sa ln bt pn bf]) (rest := []) hC hZ hs hl zc_X7_148 (co_holds g (kdf a2) x4) [] [0, 1, 2, 3, 4, 5, 6, 7, 8, 9, 10, 11] rfl rfl (by decide +kernel) rfl rfl (Nat.le_of_ble_eq_true rfl) ⟨⟨Nat.le_of_ble_eq_true rfl, Nat.le_of_ble_eq_true rfl⟩, Nat.le_of_ble_eq_true rfl, Nat.le_of_ble_eq_true rfl⟩ dX7_rule_67 (fun r32 u33 H locs hp hZ => ?_)
              obtain ⟨rfl, rfl⟩ := hp
              have hZ : zz_Z g A s.heap [cw_k6 h0 st mk lk ch ru mr md la, cw_k4 ru st (nI nr) u_so u_ju u_we u_lo u_hi u_ta u_bo, cw_i g kd 60 kdf, cw_i g dp 60 dpf, cw_i g sa 60 saf, cw_i g ln 60 lnf, cw_i g u_so 12 sof, cw_i g u_ju 12 juf, cw_i g u_we 12 wef, cw_l g u_lo 12 lof, cw_l g u_hi 12 hif, cw_k5 st (nI na) (nI nu) kd dp cl sa ln bt pn bf] H locs := hZ
              refine lv_if_ne (tgt := 80) hx hb dX7_rule_70 (by decide) (fun c34 => ?_) (fun c34 => ?_)
              · refine lv_aload_n hx hb dX7_rule_80 rfl (lv_at hl 1 rfl) ?_
                refine zz_get hC hZ 0 rfl zf_X7_10 rfl dX7_rule_81 ?_
                refine zz_get hC hZ 11 rfl zf_X7_76 rfl dX7_rule_84 ?_
                refine lv_iload_n hx hb dX7_rule_87 rfl (lv_at hl 3 rfl) ?_
                refine zz_ialdn hC hZ 3 rfl bd18 (by decide) dX7_rule_88 ?_
                refine zz_topi (v := nI dz2) (ed2) ?_
                refine lv_iconst (v := 1) hx hb dX7_rule_89 (by decide) ?_
                refine lv_icmp_eq (tgt := 99) hx hb dX7_rule_90 (by decide) (fun c35 => ?_) (fun c35 => ?_)
                · have nc35 : dz2 = 1 := (nI_eq bd7 (by decide)).mp (show nI (dz2) = nI (1) from c35)
                  refine lv_aload_n hx hb dX7_rule_99 rfl (lv_at hl 1 rfl) ?_
                  refine zz_get hC hZ 0 rfl zf_X7_42 rfl dX7_rule_100 ?_
                  refine zz_get hC hZ 1 rfl zf_X7_255 rfl dX7_rule_103 ?_
                  refine lv_bipush (v := 12) hx hb dX7_rule_106 (by decide) ?_
                  have bd37 : nr < 2 ^ 31 := by omega
                  refine lv_icmp_lt (tgt := 118) hx hb dX7_rule_108 (by decide) (fun c36 => ?_) (fun c36 => ?_)
                  · have nc36 : nr < 12 := (nI_ltI bd37 (by decide)).mp (show nI (nr) < nI (12) from c36)
                    refine lv_iload_n hx hb dX7_rule_118 rfl (lv_at hl 2 rfl) ?_
                    refine lv_iconst (v := 3) hx hb dX7_rule_119 (by decide) ?_
                    refine lv_icmp_ne (tgt := 133) hx hb dX7_rule_120 (by decide) (fun c => absurd (c19) c) (fun c38 => ?_)
                    refine lv_iload hx hb dX7_rule_123 (lv_at hl 0 rfl) ?_
                    refine lv_lload hx hb dX7_rule_125 (lv_at hl 5 rfl) ?_
                    refine zz_lS (As := [.int (kdf a2), .long x4]) (wc := []) (wr := [cw_k6 h0 st mk lk ch ru mr md la, cw_k4 ru st (nI nr) u_so u_ju u_we u_lo u_hi u_ta u_bo, cw_i g kd 60 kdf, cw_i g dp 60 dpf, cw_i g sa 60 saf, cw_i g ln 60 lnf, cw_i g u_so 12 sof, cw_i g u_ju 12 juf, cw_i g u_we 12 wef, cw_l g u_lo 12 lof, cw_l g u_hi 12 hif, cw_k5 st (nI na) (nI nu) kd dp cl sa ln bt pn bf]) (rest := []) hC hZ hs hl zc_X7_156 (co_cleaned g (kdf a2) x4) [] [0, 1, 2, 3, 4, 5, 6, 7, 8, 9, 10, 11] rfl rfl (by decide +kernel) rfl rfl (Nat.le_of_ble_eq_true rfl) ⟨⟨Nat.le_of_ble_eq_true rfl, Nat.le_of_ble_eq_true rfl⟩, Nat.le_of_ble_eq_true rfl, Nat.le_of_ble_eq_true rfl⟩ dX7_rule_127 (fun r39 u40 H locs hp hZ => ?_)
                    obtain ⟨rfl, rfl⟩ := hp
                    have hZ : zz_Z g A s.heap [cw_k6 h0 st mk lk ch ru mr md la, cw_k4 ru st (nI nr) u_so u_ju u_we u_lo u_hi u_ta u_bo, cw_i g kd 60 kdf, cw_i g dp 60 dpf, cw_i g sa 60 saf, cw_i g ln 60 lnf, cw_i g u_so 12 sof, cw_i g u_ju 12 juf, cw_i g u_we 12 wef, cw_l g u_lo 12 lof, cw_l g u_hi 12 hif, cw_k5 st (nI na) (nI nu) kd dp cl sa ln bt pn bf] H locs := hZ
                    refine lv_goto (tgt := 135) hx hb dX7_rule_130 (by decide) ?_
                    refine lv_lstore (lv' := [(9, .long (fn_co_cleaned (kdf a2) x4)), (8, .int (kdf a2)), (0, .ref h0), (1, .int x1), (2, .int (nI a2)), (3, .int x3), (4, .long x4), (6, .long x5)]) hx hb dX7_rule_135 hl (by decide) rfl (fun ls hl => ?_)
                    refine lv_aload_n hx hb dX7_rule_137 rfl (lv_at hl 2 rfl) ?_
                    refine lv_aload_n hx hb dX7_rule_138 rfl (lv_at hl 2 rfl) ?_
                    refine zz_get hC hZ 0 rfl zf_X7_42 rfl dX7_rule_139 ?_
                    refine lv_iload_n hx hb dX7_rule_142 rfl (lv_at hl 3 rfl) ?_
                    refine lv_iload_n hx hb dX7_rule_143 rfl (lv_at hl 4 rfl) ?_
                    refine lv_iload_n hx hb dX7_rule_144 rfl (lv_at hl 5 rfl) ?_
                    refine lv_lload hx hb dX7_rule_145 (lv_at hl 0 rfl) ?_
                    refine lv_lload hx hb dX7_rule_147 (lv_at hl 7 rfl) ?_
                    refine zz_iV (As := [.int x1, .int (nI a2), .int x3, .long (fn_co_cleaned (kdf a2) x4), .long x5]) (wc := [cw_k4 ru st (nI nr) u_so u_ju u_we u_lo u_hi u_ta u_bo, cw_i g u_so 12 sof, cw_i g u_ju 12 juf, cw_i g u_we 12 wef, cw_l g u_lo 12 lof, cw_l g u_hi 12 hif]) (wr := [cw_k6 h0 st mk lk ch ru mr md la, cw_i g kd 60 kdf, cw_i g dp 60 dpf, cw_i g sa 60 saf, cw_i g ln 60 lnf, cw_k5 st (nI na) (nI nu) kd dp cl sa ln bt pn bf]) (rest := [.ref h0]) hC hZ hs hl zc_X7_256 (co_radd g ru st u_so u_ju u_we u_lo u_hi u_ta u_bo nr sof juf wef lof hif x1 (nI a2) x3 (fn_co_cleaned (kdf a2) x4) x5 (by omega)) [1, 6, 7, 8, 9, 10] [0, 2, 3, 4, 5, 11] rfl rfl (by decide +kernel) (ci := 4) (q0 := 0) rfl rfl rfl rfl (Nat.le_of_ble_eq_true rfl) ⟨⟨Nat.le_of_ble_eq_true rfl, Nat.le_of_ble_eq_true rfl⟩, Nat.le_of_ble_eq_true rfl, Nat.le_of_ble_eq_true rfl⟩ dX7_rule_149 (fun r41 u42 H locs hp hZ => ?_)
                    obtain ⟨rfl, rfl⟩ := hp
                    have hZ : zz_Z g A s.heap [cw_k6 h0 st mk lk ch ru mr md la, cw_i g kd 60 kdf, cw_i g dp 60 dpf, cw_i g sa 60 saf, cw_i g ln 60 lnf, cw_k5 st (nI na) (nI nu) kd dp cl sa ln bt pn bf, cw_k4 ru st (nI (nr + 1)) u_so u_ju u_we u_lo u_hi u_ta u_bo, cw_i g u_so 12 (upd sof nr x1), cw_i g u_ju 12 (upd juf nr (nI a2)), cw_i g u_we 12 (upd wef nr x3), cw_l g u_lo 12 (vp_updL lof nr (fn_co_cleaned (kdf a2) x4)), cw_l g u_hi 12 (vp_updL hif nr x5)] H locs := hZ
                    refine zz_iV (As := [.int (nI nr)]) (wc := [cw_k6 h0 st mk lk ch ru mr md la]) (wr := [cw_i g kd 60 kdf, cw_i g dp 60 dpf, cw_i g sa 60 saf, cw_i g ln 60 lnf, cw_k5 st (nI na) (nI nu) kd dp cl sa ln bt pn bf, cw_k4 ru st (nI (nr + 1)) u_so u_ju u_we u_lo u_hi u_ta u_bo, cw_i g u_so 12 (upd sof nr x1), cw_i g u_ju 12 (upd juf nr (nI a2)), cw_i g u_we 12 (upd wef nr x3), cw_l g u_lo 12 (vp_updL lof nr (fn_co_cleaned (kdf a2) x4)), cw_l g u_hi 12 (vp_updL hif nr x5)]) (rest := []) hC hZ hs hl zc_X7_100 (co_fine g h0 st mk lk ch ru mr md la (nI nr)) [0] [1, 2, 3, 4, 5, 6, 7, 8, 9, 10, 11] rfl rfl (by decide +kernel) (ci := 6) (q0 := 0) rfl rfl rfl rfl (Nat.le_of_ble_eq_true rfl) ⟨⟨Nat.le_of_ble_eq_true rfl, Nat.le_of_ble_eq_true rfl⟩, Nat.le_of_ble_eq_true rfl, Nat.le_of_ble_eq_true rfl⟩ dX7_rule_152 (fun r43 u44 H locs hp hZ => ?_)
                    obtain ⟨rfl, rfl⟩ := hp
                    have hZ : zz_Z g A s.heap [cw_i g kd 60 kdf, cw_i g dp 60 dpf, cw_i g sa 60 saf, cw_i g ln 60 lnf, cw_k5 st (nI na) (nI nu) kd dp cl sa ln bt pn bf, cw_k4 ru st (nI (nr + 1)) u_so u_ju u_we u_lo u_hi u_ta u_bo, cw_i g u_so 12 (upd sof nr x1), cw_i g u_ju 12 (upd juf nr (nI a2)), cw_i g u_we 12 (upd wef nr x3), cw_l g u_lo 12 (vp_updL lof nr (fn_co_cleaned (kdf a2) x4)), cw_l g u_hi 12 (vp_updL hif nr x5), cw_k6 h0 st mk lk ch ru mr md 0] H locs := hZ
                    have hZ : zz_Z g A s.heap [cw_k6 h0 st mk lk ch ru mr md 0, cw_k5 st (nI na) (nI nu) kd dp cl sa ln bt pn bf, cw_k4 ru st (nI (nr + 1)) u_so u_ju u_we u_lo u_hi u_ta u_bo, cw_i g kd 60 kdf, cw_i g dp 60 dpf, cw_i g sa 60 saf, cw_i g ln 60 lnf, cw_i g u_so 12 (upd sof nr x1), cw_i g u_ju 12 (upd juf nr (nI a2)), cw_i g u_we 12 (upd wef nr x3), cw_l g u_lo 12 (vp_updL lof nr (fn_co_cleaned (kdf a2) x4)), cw_l g u_hi 12 (vp_updL hif nr x5)] H locs := hZ.sub [11, 4, 5, 0, 1, 2, 3, 6, 7, 8, 9, 10] (by decide +kernel) rfl
                    exact zz_iret hC hZ (⟨0, (nr + 1), (upd sof nr x1), (upd juf nr (nI a2)), (upd wef nr x3), (vp_updL lof nr (fn_co_cleaned (kdf a2) x4)), (vp_updL hif nr x5), by refine Eq.symm ?_; rw [fo_cx_rule]; refine (if_neg (by (try simp only [d_a2, d_sz2, d_lz2, d_dz2]); exact c3)).trans ?_; refine (if_neg (by (try simp only [d_a2, d_sz2, d_lz2, d_dz2]); exact c8)).trans ?_; refine (if_neg (by (try simp only [d_a2, d_sz2, d_lz2, d_dz2]); exact c11)).trans ?_; refine (if_neg (by (try simp only [d_a2, d_sz2, d_lz2, d_dz2]); exact c14)).trans ?_; refine (if_pos (by (try simp only [d_a2, d_sz2, d_lz2, d_dz2]); exact c17)).trans ?_; refine (if_pos (by (try simp only [d_a2, d_sz2, d_lz2, d_dz2]); exact c19)).trans ?_; refine (if_neg (by (try simp only [d_a2, d_sz2, d_lz2, d_dz2]); exact c34)).trans ?_; refine (if_pos (by (try simp only [d_a2, d_sz2, d_lz2, d_dz2]); exact c35)).trans ?_; refine (if_pos (by (try simp only [d_a2, d_sz2, d_lz2, d_dz2]); exact c36)).trans ?_; first | (simp only [d_a2, d_sz2, d_lz2, d_dz2]; done) | rfl, zl_RIadd h_R (by omega) (by omega) (by omega) es2 el2 (by omega) (by omega), rfl⟩) (Nat.le_of_ble_eq_true rfl) (Nat.le_of_ble_eq_true rfl) dX7_rule_155
                  · have nc36 : ¬ nr < 12 := fun zq => c36 (show nI (nr) < nI (12) from (nI_ltI bd37 (by decide)).mpr zq)
                    refine lv_aload_n hx hb dX7_rule_111 rfl (lv_at hl 1 rfl) ?_
                    refine lv_bipush (v := 8) hx hb dX7_rule_112 (by decide) ?_
                    refine zz_iV (As := [.int 8]) (wc := [cw_k6 h0 st mk lk ch ru mr md la]) (wr := [cw_k4 ru st (nI nr) u_so u_ju u_we u_lo u_hi u_ta u_bo, cw_i g kd 60 kdf, cw_i g dp 60 dpf, cw_i g sa 60 saf, cw_i g ln 60 lnf, cw_i g u_so 12 sof, cw_i g u_ju 12 juf, cw_i g u_we 12 wef, cw_l g u_lo 12 lof, cw_l g u_hi 12 hif, cw_k5 st (nI na) (nI nu) kd dp cl sa ln bt pn bf]) (rest := []) hC hZ hs hl zc_X7_65 (co_fail g h0 st mk lk ch ru mr md la 8) [0] [1, 2, 3, 4, 5, 6, 7, 8, 9, 10, 11] rfl rfl (by decide +kernel) (ci := 6) (q0 := 0) rfl rfl rfl rfl (Nat.le_of_ble_eq_true rfl) ⟨⟨Nat.le_of_ble_eq_true rfl, Nat.le_of_ble_eq_true rfl⟩, Nat.le_of_ble_eq_true rfl, Nat.le_of_ble_eq_true rfl⟩ dX7_rule_114 (fun r45 u46 H locs hp hZ => ?_)
                    obtain ⟨rfl, rfl⟩ := hp
                    have hZ : zz_Z g A s.heap [cw_k4 ru st (nI nr) u_so u_ju u_we u_lo u_hi u_ta u_bo, cw_i g kd 60 kdf, cw_i g dp 60 dpf, cw_i g sa 60 saf, cw_i g ln 60 lnf, cw_i g u_so 12 sof, cw_i g u_ju 12 juf, cw_i g u_we 12 wef, cw_l g u_lo 12 lof, cw_l g u_hi 12 hif, cw_k5 st (nI na) (nI nu) kd dp cl sa ln bt pn bf, cw_k6 h0 st mk lk ch ru mr md 8] H locs := hZ
                    have hZ : zz_Z g A s.heap [cw_k6 h0 st mk lk ch ru mr md 8, cw_k5 st (nI na) (nI nu) kd dp cl sa ln bt pn bf, cw_k4 ru st (nI nr) u_so u_ju u_we u_lo u_hi u_ta u_bo, cw_i g kd 60 kdf, cw_i g dp 60 dpf, cw_i g sa 60 saf, cw_i g ln 60 lnf, cw_i g u_so 12 sof, cw_i g u_ju 12 juf, cw_i g u_we 12 wef, cw_l g u_lo 12 lof, cw_l g u_hi 12 hif] H locs := hZ.sub [11, 10, 0, 1, 2, 3, 4, 5, 6, 7, 8, 9] (by decide +kernel) rfl
                    exact zz_iret hC hZ (⟨8, nr, sof, juf, wef, lof, hif, by refine Eq.symm ?_; rw [fo_cx_rule]; refine (if_neg (by (try simp only [d_a2, d_sz2, d_lz2, d_dz2]); exact c3)).trans ?_; refine (if_neg (by (try simp only [d_a2, d_sz2, d_lz2, d_dz2]); exact c8)).trans ?_; refine (if_neg (by (try simp only [d_a2, d_sz2, d_lz2, d_dz2]); exact c11)).trans ?_; refine (if_neg (by (try simp only [d_a2, d_sz2, d_lz2, d_dz2]); exact c14)).trans ?_; refine (if_pos (by (try simp only [d_a2, d_sz2, d_lz2, d_dz2]); exact c17)).trans ?_; refine (if_pos (by (try simp only [d_a2, d_sz2, d_lz2, d_dz2]); exact c19)).trans ?_; refine (if_neg (by (try simp only [d_a2, d_sz2, d_lz2, d_dz2]); exact c34)).trans ?_; refine (if_pos (by (try simp only [d_a2, d_sz2, d_lz2, d_dz2]); exact c35)).trans ?_; refine (if_neg (by (try simp only [d_a2, d_sz2, d_lz2, d_dz2]); exact c36)).trans ?_; first | (simp only [d_a2, d_sz2, d_lz2, d_dz2]; done) | rfl, h_R, rfl⟩) (Nat.le_of_ble_eq_true rfl) (Nat.le_of_ble_eq_true rfl) dX7_rule_117
                · have nc35 : ¬ dz2 = 1 := fun zq => c35 (show nI (dz2) = nI (1) from (nI_eq bd7 (by decide)).mpr zq)
                  refine lv_aload_n hx hb dX7_rule_93 rfl (lv_at hl 1 rfl) ?_
                  refine lv_iconst (v := 1) hx hb dX7_rule_94 (by decide) ?_
                  refine zz_iV (As := [.int 1]) (wc := [cw_k6 h0 st mk lk ch ru mr md la]) (wr := [cw_k4 ru st (nI nr) u_so u_ju u_we u_lo u_hi u_ta u_bo, cw_i g kd 60 kdf, cw_i g dp 60 dpf, cw_i g sa 60 saf, cw_i g ln 60 lnf, cw_i g u_so 12 sof, cw_i g u_ju 12 juf, cw_i g u_we 12 wef, cw_l g u_lo 12 lof, cw_l g u_hi 12 hif, cw_k5 st (nI na) (nI nu) kd dp cl sa ln bt pn bf]) (rest := []) hC hZ hs hl zc_X7_65 (co_fail g h0 st mk lk ch ru mr md la 1) [0] [1, 2, 3, 4, 5, 6, 7, 8, 9, 10, 11] rfl rfl (by decide +kernel) (ci := 6) (q0 := 0) rfl rfl rfl rfl (Nat.le_of_ble_eq_true rfl) ⟨⟨Nat.le_of_ble_eq_true rfl, Nat.le_of_ble_eq_true rfl⟩, Nat.le_of_ble_eq_true rfl, Nat.le_of_ble_eq_true rfl⟩ dX7_rule_95 (fun r47 u48 H locs hp hZ => ?_)
                  obtain ⟨rfl, rfl⟩ := hp
                  have hZ : zz_Z g A s.heap [cw_k4 ru st (nI nr) u_so u_ju u_we u_lo u_hi u_ta u_bo, cw_i g kd 60 kdf, cw_i g dp 60 dpf, cw_i g sa 60 saf, cw_i g ln 60 lnf, cw_i g u_so 12 sof, cw_i g u_ju 12 juf, cw_i g u_we 12 wef, cw_l g u_lo 12 lof, cw_l g u_hi 12 hif, cw_k5 st (nI na) (nI nu) kd dp cl sa ln bt pn bf, cw_k6 h0 st mk lk ch ru mr md 1] H locs := hZ
                  have hZ : zz_Z g A s.heap [cw_k6 h0 st mk lk ch ru mr md 1, cw_k5 st (nI na) (nI nu) kd dp cl sa ln bt pn bf, cw_k4 ru st (nI nr) u_so u_ju u_we u_lo u_hi u_ta u_bo, cw_i g kd 60 kdf, cw_i g dp 60 dpf, cw_i g sa 60 saf, cw_i g ln 60 lnf, cw_i g u_so 12 sof, cw_i g u_ju 12 juf, cw_i g u_we 12 wef, cw_l g u_lo 12 lof, cw_l g u_hi 12 hif] H locs := hZ.sub [11, 10, 0, 1, 2, 3, 4, 5, 6, 7, 8, 9] (by decide +kernel) rfl
                  exact zz_iret hC hZ (⟨1, nr, sof, juf, wef, lof, hif, by refine Eq.symm ?_; rw [fo_cx_rule]; refine (if_neg (by (try simp only [d_a2, d_sz2, d_lz2, d_dz2]); exact c3)).trans ?_; refine (if_neg (by (try simp only [d_a2, d_sz2, d_lz2, d_dz2]); exact c8)).trans ?_; refine (if_neg (by (try simp only [d_a2, d_sz2, d_lz2, d_dz2]); exact c11)).trans ?_; refine (if_neg (by (try simp only [d_a2, d_sz2, d_lz2, d_dz2]); exact c14)).trans ?_; refine (if_pos (by (try simp only [d_a2, d_sz2, d_lz2, d_dz2]); exact c17)).trans ?_; refine (if_pos (by (try simp only [d_a2, d_sz2, d_lz2, d_dz2]); exact c19)).trans ?_; refine (if_neg (by (try simp only [d_a2, d_sz2, d_lz2, d_dz2]); exact c34)).trans ?_; refine (if_neg (by (try simp only [d_a2, d_sz2, d_lz2, d_dz2]); exact c35)).trans ?_; first | (simp only [d_a2, d_sz2, d_lz2, d_dz2]; done) | rfl, h_R, rfl⟩) (Nat.le_of_ble_eq_true rfl) (Nat.le_of_ble_eq_true rfl) dX7_rule_98
              · refine lv_aload_n hx hb dX7_rule_73 rfl (lv_at hl 1 rfl) ?_
                refine lv_bipush (v := 9) hx hb dX7_rule_74 (by decide) ?_
                refine zz_iV (As := [.int 9]) (wc := [cw_k6 h0 st mk lk ch ru mr md la]) (wr := [cw_k4 ru st (nI nr) u_so u_ju u_we u_lo u_hi u_ta u_bo, cw_i g kd 60 kdf, cw_i g dp 60 dpf, cw_i g sa 60 saf, cw_i g ln 60 lnf, cw_i g u_so 12 sof, cw_i g u_ju 12 juf, cw_i g u_we 12 wef, cw_l g u_lo 12 lof, cw_l g u_hi 12 hif, cw_k5 st (nI na) (nI nu) kd dp cl sa ln bt pn bf]) (rest := []) hC hZ hs hl zc_X7_65 (co_fail g h0 st mk lk ch ru mr md la 9) [0] [1, 2, 3, 4, 5, 6, 7, 8, 9, 10, 11] rfl rfl (by decide +kernel) (ci := 6) (q0 := 0) rfl rfl rfl rfl (Nat.le_of_ble_eq_true rfl) ⟨⟨Nat.le_of_ble_eq_true rfl, Nat.le_of_ble_eq_true rfl⟩, Nat.le_of_ble_eq_true rfl, Nat.le_of_ble_eq_true rfl⟩ dX7_rule_76 (fun r49 u50 H locs hp hZ => ?_)
                obtain ⟨rfl, rfl⟩ := hp
                have hZ : zz_Z g A s.heap [cw_k4 ru st (nI nr) u_so u_ju u_we u_lo u_hi u_ta u_bo, cw_i g kd 60 kdf, cw_i g dp 60 dpf, cw_i g sa 60 saf, cw_i g ln 60 lnf, cw_i g u_so 12 sof, cw_i g u_ju 12 juf, cw_i g u_we 12 wef, cw_l g u_lo 12 lof, cw_l g u_hi 12 hif, cw_k5 st (nI na) (nI nu) kd dp cl sa ln bt pn bf, cw_k6 h0 st mk lk ch ru mr md 9] H locs := hZ
                have hZ : zz_Z g A s.heap [cw_k6 h0 st mk lk ch ru mr md 9, cw_k5 st (nI na) (nI nu) kd dp cl sa ln bt pn bf, cw_k4 ru st (nI nr) u_so u_ju u_we u_lo u_hi u_ta u_bo, cw_i g kd 60 kdf, cw_i g dp 60 dpf, cw_i g sa 60 saf, cw_i g ln 60 lnf, cw_i g u_so 12 sof, cw_i g u_ju 12 juf, cw_i g u_we 12 wef, cw_l g u_lo 12 lof, cw_l g u_hi 12 hif] H locs := hZ.sub [11, 10, 0, 1, 2, 3, 4, 5, 6, 7, 8, 9] (by decide +kernel) rfl
                exact zz_iret hC hZ (⟨9, nr, sof, juf, wef, lof, hif, by refine Eq.symm ?_; rw [fo_cx_rule]; refine (if_neg (by (try simp only [d_a2, d_sz2, d_lz2, d_dz2]); exact c3)).trans ?_; refine (if_neg (by (try simp only [d_a2, d_sz2, d_lz2, d_dz2]); exact c8)).trans ?_; refine (if_neg (by (try simp only [d_a2, d_sz2, d_lz2, d_dz2]); exact c11)).trans ?_; refine (if_neg (by (try simp only [d_a2, d_sz2, d_lz2, d_dz2]); exact c14)).trans ?_; refine (if_pos (by (try simp only [d_a2, d_sz2, d_lz2, d_dz2]); exact c17)).trans ?_; refine (if_pos (by (try simp only [d_a2, d_sz2, d_lz2, d_dz2]); exact c19)).trans ?_; refine (if_pos (by (try simp only [d_a2, d_sz2, d_lz2, d_dz2]); exact c34)).trans ?_; first | (simp only [d_a2, d_sz2, d_lz2, d_dz2]; done) | rfl, h_R, rfl⟩) (Nat.le_of_ble_eq_true rfl) (Nat.le_of_ble_eq_true rfl) dX7_rule_79
          · refine lv_aload_n hx hb dX7_rule_40 rfl (lv_at hl 0 rfl) ?_
            refine lv_bipush (v := 9) hx hb dX7_rule_41 (by decide) ?_
            refine zz_iV (As := [.int 9]) (wc := [cw_k6 h0 st mk lk ch ru mr md la]) (wr := [cw_k4 ru st (nI nr) u_so u_ju u_we u_lo u_hi u_ta u_bo, cw_i g kd 60 kdf, cw_i g dp 60 dpf, cw_i g sa 60 saf, cw_i g ln 60 lnf, cw_i g u_so 12 sof, cw_i g u_ju 12 juf, cw_i g u_we 12 wef, cw_l g u_lo 12 lof, cw_l g u_hi 12 hif, cw_k5 st (nI na) (nI nu) kd dp cl sa ln bt pn bf]) (rest := []) hC hZ hs hl zc_X7_65 (co_fail g h0 st mk lk ch ru mr md la 9) [0] [1, 2, 3, 4, 5, 6, 7, 8, 9, 10, 11] rfl rfl (by decide +kernel) (ci := 6) (q0 := 0) rfl rfl rfl rfl (Nat.le_of_ble_eq_true rfl) ⟨⟨Nat.le_of_ble_eq_true rfl, Nat.le_of_ble_eq_true rfl⟩, Nat.le_of_ble_eq_true rfl, Nat.le_of_ble_eq_true rfl⟩ dX7_rule_43 (fun r51 u52 H locs hp hZ => ?_)
            obtain ⟨rfl, rfl⟩ := hp
            have hZ : zz_Z g A s.heap [cw_k4 ru st (nI nr) u_so u_ju u_we u_lo u_hi u_ta u_bo, cw_i g kd 60 kdf, cw_i g dp 60 dpf, cw_i g sa 60 saf, cw_i g ln 60 lnf, cw_i g u_so 12 sof, cw_i g u_ju 12 juf, cw_i g u_we 12 wef, cw_l g u_lo 12 lof, cw_l g u_hi 12 hif, cw_k5 st (nI na) (nI nu) kd dp cl sa ln bt pn bf, cw_k6 h0 st mk lk ch ru mr md 9] H locs := hZ
            have hZ : zz_Z g A s.heap [cw_k6 h0 st mk lk ch ru mr md 9, cw_k5 st (nI na) (nI nu) kd dp cl sa ln bt pn bf, cw_k4 ru st (nI nr) u_so u_ju u_we u_lo u_hi u_ta u_bo, cw_i g kd 60 kdf, cw_i g dp 60 dpf, cw_i g sa 60 saf, cw_i g ln 60 lnf, cw_i g u_so 12 sof, cw_i g u_ju 12 juf, cw_i g u_we 12 wef, cw_l g u_lo 12 lof, cw_l g u_hi 12 hif] H locs := hZ.sub [11, 10, 0, 1, 2, 3, 4, 5, 6, 7, 8, 9] (by decide +kernel) rfl
            exact zz_iret hC hZ (⟨9, nr, sof, juf, wef, lof, hif, by refine Eq.symm ?_; rw [fo_cx_rule]; refine (if_neg (by (try simp only [d_a2, d_sz2, d_lz2, d_dz2]); exact c3)).trans ?_; refine (if_neg (by (try simp only [d_a2, d_sz2, d_lz2, d_dz2]); exact c8)).trans ?_; refine (if_neg (by (try simp only [d_a2, d_sz2, d_lz2, d_dz2]); exact c11)).trans ?_; refine (if_neg (by (try simp only [d_a2, d_sz2, d_lz2, d_dz2]); exact c14)).trans ?_; refine (if_neg (by (try simp only [d_a2, d_sz2, d_lz2, d_dz2]); exact c17)).trans ?_; first | (simp only [d_a2, d_sz2, d_lz2, d_dz2]; done) | rfl, h_R, rfl⟩) (Nat.le_of_ble_eq_true rfl) (Nat.le_of_ble_eq_true rfl) dX7_rule_46
  · refine lv_aload_n hx hb dX7_rule_11 rfl (lv_at hl 0 rfl) ?_
    refine lv_iconst (v := 5) hx hb dX7_rule_12 (by decide) ?_
    refine zz_iV (As := [.int 5]) (wc := [cw_k6 h0 st mk lk ch ru mr md la]) (wr := [cw_k4 ru st (nI nr) u_so u_ju u_we u_lo u_hi u_ta u_bo, cw_i g kd 60 kdf, cw_i g dp 60 dpf, cw_i g sa 60 saf, cw_i g ln 60 lnf, cw_i g u_so 12 sof, cw_i g u_ju 12 juf, cw_i g u_we 12 wef, cw_l g u_lo 12 lof, cw_l g u_hi 12 hif, cw_k5 st (nI na) (nI nu) kd dp cl sa ln bt pn bf]) (rest := []) hC hZ hs hl zc_X7_65 (co_fail g h0 st mk lk ch ru mr md la 5) [0] [1, 2, 3, 4, 5, 6, 7, 8, 9, 10, 11] rfl rfl (by decide +kernel) (ci := 6) (q0 := 0) rfl rfl rfl rfl (Nat.le_of_ble_eq_true rfl) ⟨⟨Nat.le_of_ble_eq_true rfl, Nat.le_of_ble_eq_true rfl⟩, Nat.le_of_ble_eq_true rfl, Nat.le_of_ble_eq_true rfl⟩ dX7_rule_13 (fun r53 u54 H locs hp hZ => ?_)
    obtain ⟨rfl, rfl⟩ := hp
    have hZ : zz_Z g A s.heap [cw_k4 ru st (nI nr) u_so u_ju u_we u_lo u_hi u_ta u_bo, cw_i g kd 60 kdf, cw_i g dp 60 dpf, cw_i g sa 60 saf, cw_i g ln 60 lnf, cw_i g u_so 12 sof, cw_i g u_ju 12 juf, cw_i g u_we 12 wef, cw_l g u_lo 12 lof, cw_l g u_hi 12 hif, cw_k5 st (nI na) (nI nu) kd dp cl sa ln bt pn bf, cw_k6 h0 st mk lk ch ru mr md 5] H locs := hZ
    have hZ : zz_Z g A s.heap [cw_k6 h0 st mk lk ch ru mr md 5, cw_k5 st (nI na) (nI nu) kd dp cl sa ln bt pn bf, cw_k4 ru st (nI nr) u_so u_ju u_we u_lo u_hi u_ta u_bo, cw_i g kd 60 kdf, cw_i g dp 60 dpf, cw_i g sa 60 saf, cw_i g ln 60 lnf, cw_i g u_so 12 sof, cw_i g u_ju 12 juf, cw_i g u_we 12 wef, cw_l g u_lo 12 lof, cw_l g u_hi 12 hif] H locs := hZ.sub [11, 10, 0, 1, 2, 3, 4, 5, 6, 7, 8, 9] (by decide +kernel) rfl
    exact zz_iret hC hZ (⟨5, nr, sof, juf, wef, lof, hif, by show _ = _; rw [fo_cx_rule]; rw [if_pos c3], h_R, rfl⟩) (Nat.le_of_ble_eq_true rfl) (Nat.le_of_ble_eq_true rfl) dX7_rule_16
theorem dg_X7_amount_0 : (decode cX7_amount 0 = .ok (.iload_n 1, 1)) ∧ (decode cX7_amount 1 = .ok (.ifCond .lt 14, 3)) ∧ (decode cX7_amount 4 = .ok (.iload_n 1, 1)) ∧ (decode cX7_amount 5 = .ok (.aload_n 0, 1)) ∧ (decode cX7_amount 6 = .ok (.getfield 42, 3)) ∧ (decode cX7_amount 9 = .ok (.getfield 255, 3)) ∧ (decode cX7_amount 12 = .ok (.if_icmp .lt 10, 3)) ∧ (decode cX7_amount 15 = .ok (.aload_n 0, 1)) ∧ (decode cX7_amount 16 = .ok (.bipush 9, 2)) ∧ (decode cX7_amount 18 = .ok (.invokevirtual 130, 3)) ∧ (decode cX7_amount 21 = .ok (.lreturn, 1)) ∧ (decode cX7_amount 22 = .ok (.aload_n 0, 1)) ∧ (decode cX7_amount 23 = .ok (.iconst 0, 1)) ∧ (decode cX7_amount 24 = .ok (.putfield 56, 3)) ∧ (decode cX7_amount 27 = .ok (.aload_n 0, 1)) ∧ (decode cX7_amount 28 = .ok (.getfield 42, 3)) := by decide +kernel
theorem dX7_amount_0 : decode cX7_amount 0 = .ok (.iload_n 1, 1) := dg_X7_amount_0.1
theorem dX7_amount_1 : decode cX7_amount 1 = .ok (.ifCond .lt 14, 3) := dg_X7_amount_0.2.1
theorem dX7_amount_4 : decode cX7_amount 4 = .ok (.iload_n 1, 1) := dg_X7_amount_0.2.2.1
theorem dX7_amount_5 : decode cX7_amount 5 = .ok (.aload_n 0, 1) := dg_X7_amount_0.2.2.2.1
theorem dX7_amount_6 : decode cX7_amount 6 = .ok (.getfield 42, 3) := dg_X7_amount_0.2.2.2.2.1
theorem dX7_amount_9 : decode cX7_amount 9 = .ok (.getfield 255, 3) := dg_X7_amount_0.2.2.2.2.2.1
theorem dX7_amount_12 : decode cX7_amount 12 = .ok (.if_icmp .lt 10, 3) := dg_X7_amount_0.2.2.2.2.2.2.1
theorem dX7_amount_15 : decode cX7_amount 15 = .ok (.aload_n 0, 1) := dg_X7_amount_0.2.2.2.2.2.2.2.1
theorem dX7_amount_16 : decode cX7_amount 16 = .ok (.bipush 9, 2) := dg_X7_amount_0.2.2.2.2.2.2.2.2.1
theorem dX7_amount_18 : decode cX7_amount 18 = .ok (.invokevirtual 130, 3) := dg_X7_amount_0.2.2.2.2.2.2.2.2.2.1
theorem dX7_amount_21 : decode cX7_amount 21 = .ok (.lreturn, 1) := dg_X7_amount_0.2.2.2.2.2.2.2.2.2.2.1
theorem dX7_amount_22 : decode cX7_amount 22 = .ok (.aload_n 0, 1) := dg_X7_amount_0.2.2.2.2.2.2.2.2.2.2.2.1
theorem dX7_amount_23 : decode cX7_amount 23 = .ok (.iconst 0, 1) := dg_X7_amount_0.2.2.2.2.2.2.2.2.2.2.2.2.1
theorem dX7_amount_24 : decode cX7_amount 24 = .ok (.putfield 56, 3) := dg_X7_amount_0.2.2.2.2.2.2.2.2.2.2.2.2.2.1
theorem dX7_amount_27 : decode cX7_amount 27 = .ok (.aload_n 0, 1) := dg_X7_amount_0.2.2.2.2.2.2.2.2.2.2.2.2.2.2.1
theorem dX7_amount_28 : decode cX7_amount 28 = .ok (.getfield 42, 3) := dg_X7_amount_0.2.2.2.2.2.2.2.2.2.2.2.2.2.2.2
theorem dg_X7_amount_31 : (decode cX7_amount 31 = .ok (.iload_n 1, 1)) ∧ (decode cX7_amount 32 = .ok (.invokevirtual 259, 3)) ∧ (decode cX7_amount 35 = .ok (.aload_n 0, 1)) ∧ (decode cX7_amount 36 = .ok (.getfield 42, 3)) ∧ (decode cX7_amount 39 = .ok (.iload_n 1, 1)) ∧ (decode cX7_amount 40 = .ok (.invokevirtual 263, 3)) ∧ (decode cX7_amount 43 = .ok (.lreturn, 1)) := by decide +kernel
theorem dX7_amount_31 : decode cX7_amount 31 = .ok (.iload_n 1, 1) := dg_X7_amount_31.1
theorem dX7_amount_32 : decode cX7_amount 32 = .ok (.invokevirtual 259, 3) := dg_X7_amount_31.2.1
theorem dX7_amount_35 : decode cX7_amount 35 = .ok (.aload_n 0, 1) := dg_X7_amount_31.2.2.1
theorem dX7_amount_36 : decode cX7_amount 36 = .ok (.getfield 42, 3) := dg_X7_amount_31.2.2.2.1
theorem dX7_amount_39 : decode cX7_amount 39 = .ok (.iload_n 1, 1) := dg_X7_amount_31.2.2.2.2.1
theorem dX7_amount_40 : decode cX7_amount 40 = .ok (.invokevirtual 263, 3) := dg_X7_amount_31.2.2.2.2.2.1
theorem dX7_amount_43 : decode cX7_amount 43 = .ok (.lreturn, 1) := dg_X7_amount_31.2.2.2.2.2.2
theorem zk_612 : Cond.methodLink RX7 259 yX5_measure ∈ zz_w := zz_in (List.mem_append_right _ (List.mem_append_right _ (List.mem_append_right _ (List.mem_append_left _ (List.mem_of_getElem? (i := 132) (by decide +kernel)))))) rfl
theorem zc_X7_259 : zz_cV RX7 259 yX5_measure cX5_measure 7 none 1 := ⟨⟨zk_612, zk_615, zk_6, by decide, by decide, by decide +kernel⟩, zk_613, zk_614⟩
theorem zk_644 : Cond.methodLink RX7 263 yX5_amountOf ∈ zz_w := zz_in (List.mem_append_right _ (List.mem_append_right _ (List.mem_append_right _ (List.mem_append_left _ (List.mem_of_getElem? (i := 164) (by decide +kernel)))))) rfl
theorem zc_X7_263 : zz_cV RX7 263 yX5_amountOf cX5_amountOf 4 (some .long) 1 := ⟨⟨zk_644, zk_647, zk_6, by decide, by decide, by decide +kernel⟩, zk_645, zk_646⟩
def fo_cx_amount (na : Nat) (nu : Nat) (nr : Nat) (kdf : Nat → Int32) (saf : Nat → Int32) (lnf : Nat → Int32) (btf : Nat → Int64) (sof : Nat → Int32) (juf : Nat → Int32) (lof : Nat → Int64) (hif : Nat → Int64) (taf : Nat → Int64) (dpf : Nat → Int32) (x1 : Int32) : (Int64) × (Nat → Int64) := (if x1 < 0 then (0, taf) else (if x1 < (nI nr) then ((fn_co_amountOf sof lof hif (fo_co_measure sof lof taf kdf btf x1.toNatClampNeg ((juf x1.toNatClampNeg).toNatClampNeg) ((saf ((juf x1.toNatClampNeg).toNatClampNeg)).toNatClampNeg) ((lnf ((juf x1.toNatClampNeg).toNatClampNeg)).toNatClampNeg)) x1.toNatClampNeg), (fo_co_measure sof lof taf kdf btf x1.toNatClampNeg ((juf x1.toNatClampNeg).toNatClampNeg) ((saf ((juf x1.toNatClampNeg).toNatClampNeg)).toNatClampNeg) ((lnf ((juf x1.toNatClampNeg).toNatClampNeg)).toNatClampNeg))) else (0, taf)))
abbrev rm_cx_amount : Room := { frames := 4, cells := 0, slots := 0, locals := 107 }
abbrev po_cx_amount (g : zz_G) (h0 : Nat) (st : Nat) (mk : Nat) (lk : Nat) (ch : Nat) (ru : Nat) (mr : Nat) (kd : Nat) (dp : Nat) (cl : Nat) (sa : Nat) (ln : Nat) (bt : Nat) (pn : Nat) (bf : Nat) (u_so : Nat) (u_ju : Nat) (u_we : Nat) (u_lo : Nat) (u_hi : Nat) (u_ta : Nat) (u_bo : Nat) (md : Int32) (la : Int32) (na : Nat) (nu : Nat) (nr : Nat) (kdf : Nat → Int32) (saf : Nat → Int32) (lnf : Nat → Int32) (btf : Nat → Int64) (sof : Nat → Int32) (juf : Nat → Int32) (lof : Nat → Int64) (hif : Nat → Int64) (taf : Nat → Int64) (dpf : Nat → Int32) (x1 : Int32) (h_S : zz_SI na nu dpf saf lnf) (h_R : zz_RI na nr juf saf lnf) : Int64 → va_W → Prop := fun (r : Int64) (u : va_W) => ∃ (la2 : Int32) (ta2 : Nat → Int64), (r, ta2) = fo_cx_amount na nu nr kdf saf lnf btf sof juf lof hif taf dpf x1 ∧ u = [cw_k6 h0 st mk lk ch ru mr md la2, cw_k5 st (nI na) (nI nu) kd dp cl sa ln bt pn bf, cw_k4 ru st (nI nr) u_so u_ju u_we u_lo u_hi u_ta u_bo, cw_i g kd 60 kdf, cw_i g sa 60 saf, cw_i g ln 60 lnf, cw_l g bt 4000 btf, cw_i g u_so 12 sof, cw_i g u_ju 12 juf, cw_l g u_lo 12 lof, cw_l g u_hi 12 hif, cw_l g u_ta 12 ta2]
set_option maxHeartbeats 4000000 in
set_option maxRecDepth 100000 in
theorem cx_amount (g : zz_G) (h0 : Nat) (st : Nat) (mk : Nat) (lk : Nat) (ch : Nat) (ru : Nat) (mr : Nat) (kd : Nat) (dp : Nat) (cl : Nat) (sa : Nat) (ln : Nat) (bt : Nat) (pn : Nat) (bf : Nat) (u_so : Nat) (u_ju : Nat) (u_we : Nat) (u_lo : Nat) (u_hi : Nat) (u_ta : Nat) (u_bo : Nat) (md : Int32) (la : Int32) (na : Nat) (nu : Nat) (nr : Nat) (kdf : Nat → Int32) (saf : Nat → Int32) (lnf : Nat → Int32) (btf : Nat → Int64) (sof : Nat → Int32) (juf : Nat → Int32) (lof : Nat → Int64) (hif : Nat → Int64) (taf : Nat → Int64) (dpf : Nat → Int32) (x1 : Int32) (h_S : zz_SI na nu dpf saf lnf) (h_R : zz_RI na nr juf saf lnf) : zz_L g yX7_amount (.code yX7_amount cX7_amount 2 (some .long)) rm_cx_amount [.ref h0, .int x1] [cw_k6 h0 st mk lk ch ru mr md la, cw_k5 st (nI na) (nI nu) kd dp cl sa ln bt pn bf, cw_k4 ru st (nI nr) u_so u_ju u_we u_lo u_hi u_ta u_bo, cw_i g kd 60 kdf, cw_i g sa 60 saf, cw_i g ln 60 lnf, cw_l g bt 4000 btf, cw_i g u_so 12 sof, cw_i g u_ju 12 juf, cw_l g u_lo 12 lof, cw_l g u_hi 12 hif, cw_l g u_ta 12 taf] (po_cx_amount g h0 st mk lk ch ru mr kd dp cl sa ln bt pn bf u_so u_ju u_we u_lo u_hi u_ta u_bo md la na nu nr kdf saf lnf btf sof juf lof hif taf dpf x1 h_S h_R) := by
  refine zz_L.intro (own := RX7) (cc := cX7_amount) (nL := 2) (by decide) rfl (Nat.le_of_ble_eq_true rfl) ?_
  intro p l e s m args below meth c A H locs ls hC hnm hs hZ hl
  obtain ⟨hx, hb, hml, hown, hts, hr, hlocks, hK⟩ := id hC
  have hl : lv_has ls 2 [(0, .ref h0), (1, .int x1)] := hl
  have hZ : zz_Z g A s.heap [cw_k6 h0 st mk lk ch ru mr md la, cw_k5 st (nI na) (nI nu) kd dp cl sa ln bt pn bf, cw_k4 ru st (nI nr) u_so u_ju u_we u_lo u_hi u_ta u_bo, cw_i g kd 60 kdf, cw_i g sa 60 saf, cw_i g ln 60 lnf, cw_l g bt 4000 btf, cw_i g u_so 12 sof, cw_i g u_ju 12 juf, cw_l g u_lo 12 lof, cw_l g u_hi 12 hif, cw_l g u_ta 12 taf] H locs := hZ
  have hna := h_S.1
  have hnu := h_S.2.1
  have hr12 := h_R.1
  refine lv_iload_n hx hb dX7_amount_0 rfl (lv_at hl 1 rfl) ?_
  refine lv_if_lt (tgt := 15) hx hb dX7_amount_1 (by decide) (fun c1 => ?_) (fun c1 => ?_)
  · refine lv_aload_n hx hb dX7_amount_15 rfl (lv_at hl 0 rfl) ?_
    refine lv_bipush (v := 9) hx hb dX7_amount_16 (by decide) ?_
    refine zz_lV (As := [.int 9]) (wc := [cw_k6 h0 st mk lk ch ru mr md la]) (wr := [cw_k5 st (nI na) (nI nu) kd dp cl sa ln bt pn bf, cw_k4 ru st (nI nr) u_so u_ju u_we u_lo u_hi u_ta u_bo, cw_i g kd 60 kdf, cw_i g sa 60 saf, cw_i g ln 60 lnf, cw_l g bt 4000 btf, cw_i g u_so 12 sof, cw_i g u_ju 12 juf, cw_l g u_lo 12 lof, cw_l g u_hi 12 hif, cw_l g u_ta 12 taf]) (rest := []) hC hZ hs hl zc_X7_130 (co_noBits g h0 st mk lk ch ru mr md la 9) [0] [1, 2, 3, 4, 5, 6, 7, 8, 9, 10, 11] rfl rfl (by decide +kernel) (ci := 6) (q0 := 0) rfl rfl rfl rfl (Nat.le_of_ble_eq_true rfl) ⟨⟨Nat.le_of_ble_eq_true rfl, Nat.le_of_ble_eq_true rfl⟩, Nat.le_of_ble_eq_true rfl, Nat.le_of_ble_eq_true rfl⟩ dX7_amount_18 (fun r2 u3 H locs hp hZ => ?_)
    obtain ⟨rfl, rfl⟩ := hp
    have hZ : zz_Z g A s.heap [cw_k5 st (nI na) (nI nu) kd dp cl sa ln bt pn bf, cw_k4 ru st (nI nr) u_so u_ju u_we u_lo u_hi u_ta u_bo, cw_i g kd 60 kdf, cw_i g sa 60 saf, cw_i g ln 60 lnf, cw_l g bt 4000 btf, cw_i g u_so 12 sof, cw_i g u_ju 12 juf, cw_l g u_lo 12 lof, cw_l g u_hi 12 hif, cw_l g u_ta 12 taf, cw_k6 h0 st mk lk ch ru mr md 9] H locs := hZ
    have hZ : zz_Z g A s.heap [cw_k6 h0 st mk lk ch ru mr md 9, cw_k5 st (nI na) (nI nu) kd dp cl sa ln bt pn bf, cw_k4 ru st (nI nr) u_so u_ju u_we u_lo u_hi u_ta u_bo, cw_i g kd 60 kdf, cw_i g sa 60 saf, cw_i g ln 60 lnf, cw_l g bt 4000 btf, cw_i g u_so 12 sof, cw_i g u_ju 12 juf, cw_l g u_lo 12 lof, cw_l g u_hi 12 hif, cw_l g u_ta 12 taf] H locs := hZ.sub [11, 0, 1, 2, 3, 4, 5, 6, 7, 8, 9, 10] (by decide +kernel) rfl
    exact zz_lret hC hZ (⟨9, taf, by show _ = _; rw [fo_cx_amount]; rw [if_pos c1], rfl⟩) (Nat.le_of_ble_eq_true rfl) (Nat.le_of_ble_eq_true rfl) dX7_amount_21
  · refine lv_iload_n hx hb dX7_amount_4 rfl (lv_at hl 1 rfl) ?_
    refine lv_aload_n hx hb dX7_amount_5 rfl (lv_at hl 0 rfl) ?_
    refine zz_get hC hZ 0 rfl zf_X7_42 rfl dX7_amount_6 ?_
    refine zz_get hC hZ 2 rfl zf_X7_255 rfl dX7_amount_9 ?_
    refine lv_icmp_lt (tgt := 22) hx hb dX7_amount_12 (by decide) (fun c4 => ?_) (fun c4 => ?_)
    · obtain ⟨d, hd, ed⟩ := zl_rng (by omega) c1 (zl_rlt c4)
      have hl : lv_has ls 2 [(0, .ref h0), (1, .int (nI d))] := by rw [← ed]; exact hl
      obtain ⟨a, sz, lz, e_j, ha, ha6, e_s, e_l, hb1, hb2⟩ := h_R.2 d hd
      have bd5 : d < 2 ^ 31 := by omega
      have d_d : x1.toNatClampNeg = d := by rw [ed]; exact nI_clamp bd5
      have d_a : (juf d).toNatClampNeg = a := by rw [e_j]; exact nI_clamp (by omega)
      have d_sz : (saf a).toNatClampNeg = sz := by rw [e_s]; exact nI_clamp (by omega)
      have d_lz : (lnf a).toNatClampNeg = lz := by rw [e_l]; exact nI_clamp (by omega)
      refine lv_aload_n hx hb dX7_amount_22 rfl (lv_at hl 0 rfl) ?_
      refine lv_iconst (v := 0) hx hb dX7_amount_23 (by decide) ?_
      refine zz_put hC hZ 0 rfl zu_X7_56 (Nat.le_of_ble_eq_true rfl) dX7_amount_24 (fun H locs hZ => ?_)
      have hZ : zz_Z g A s.heap [cw_k6 h0 st mk lk ch ru mr md 0, cw_k5 st (nI na) (nI nu) kd dp cl sa ln bt pn bf, cw_k4 ru st (nI nr) u_so u_ju u_we u_lo u_hi u_ta u_bo, cw_i g kd 60 kdf, cw_i g sa 60 saf, cw_i g ln 60 lnf, cw_l g bt 4000 btf, cw_i g u_so 12 sof, cw_i g u_ju 12 juf, cw_l g u_lo 12 lof, cw_l g u_hi 12 hif, cw_l g u_ta 12 taf] H locs := hZ
      refine lv_aload_n hx hb dX7_amount_27 rfl (lv_at hl 0 rfl) ?_
      refine zz_get hC hZ 0 rfl zf_X7_42 rfl dX7_amount_28 ?_
      refine lv_iload_n hx hb dX7_amount_31 rfl (lv_at hl 1 rfl) ?_
      refine zz_vV (As := [.int (nI d)]) (wc := [cw_k4 ru st (nI nr) u_so u_ju u_we u_lo u_hi u_ta u_bo, cw_i g u_ju 12 juf, cw_i g u_so 12 sof, cw_l g u_lo 12 lof, cw_l g u_ta 12 taf, cw_k5 st (nI na) (nI nu) kd dp cl sa ln bt pn bf, cw_i g kd 60 kdf, cw_i g sa 60 saf, cw_i g ln 60 lnf, cw_l g bt 4000 btf]) (wr := [cw_k6 h0 st mk lk ch ru mr md 0, cw_l g u_hi 12 hif]) (rest := []) hC hZ hs hl zc_X7_259 (co_measure g ru st u_so u_ju u_we u_lo u_hi u_ta u_bo kd dp cl sa ln bt pn bf nr na nu juf sof lof taf kdf saf lnf btf d a sz lz (by omega) (e_j) (e_s) (e_l)) [2, 8, 7, 9, 11, 1, 3, 4, 5, 6] [0, 10] rfl rfl (by decide +kernel) (ci := 4) (q0 := 0) rfl rfl rfl rfl (Nat.le_of_ble_eq_true rfl) ⟨⟨Nat.le_of_ble_eq_true rfl, Nat.le_of_ble_eq_true rfl⟩, Nat.le_of_ble_eq_true rfl, Nat.le_of_ble_eq_true rfl⟩ dX7_amount_32 (fun u7 H locs hp hZ => ?_)
      obtain ⟨ta2_8, ft9, rfl⟩ := hp
      have hZ : zz_Z g A s.heap [cw_k6 h0 st mk lk ch ru mr md 0, cw_l g u_hi 12 hif, cw_k4 ru st (nI nr) u_so u_ju u_we u_lo u_hi u_ta u_bo, cw_i g u_ju 12 juf, cw_i g u_so 12 sof, cw_l g u_lo 12 lof, cw_l g u_ta 12 ta2_8, cw_k5 st (nI na) (nI nu) kd dp cl sa ln bt pn bf, cw_i g kd 60 kdf, cw_i g sa 60 saf, cw_i g ln 60 lnf, cw_l g bt 4000 btf] H locs := hZ
      have d_ta2_8 : (fo_co_measure sof lof taf kdf btf d a sz lz) = ta2_8 := by rw [← ft9]
      refine lv_aload_n hx hb dX7_amount_35 rfl (lv_at hl 0 rfl) ?_
      refine zz_get hC hZ 0 rfl zf_X7_42 rfl dX7_amount_36 ?_
      refine lv_iload_n hx hb dX7_amount_39 rfl (lv_at hl 1 rfl) ?_
      refine zz_lV (As := [.int (nI d)]) (wc := [cw_k4 ru st (nI nr) u_so u_ju u_we u_lo u_hi u_ta u_bo, cw_i g u_so 12 sof, cw_l g u_lo 12 lof, cw_l g u_hi 12 hif, cw_l g u_ta 12 ta2_8]) (wr := [cw_k6 h0 st mk lk ch ru mr md 0, cw_i g u_ju 12 juf, cw_k5 st (nI na) (nI nu) kd dp cl sa ln bt pn bf, cw_i g kd 60 kdf, cw_i g sa 60 saf, cw_i g ln 60 lnf, cw_l g bt 4000 btf]) (rest := []) hC hZ hs hl zc_X7_263 (co_amountOf g ru st u_so u_ju u_we u_lo u_hi u_ta u_bo nr sof lof hif ta2_8 d (by omega)) [2, 4, 5, 1, 6] [0, 3, 7, 8, 9, 10, 11] rfl rfl (by decide +kernel) (ci := 4) (q0 := 0) rfl rfl rfl rfl (Nat.le_of_ble_eq_true rfl) ⟨⟨Nat.le_of_ble_eq_true rfl, Nat.le_of_ble_eq_true rfl⟩, Nat.le_of_ble_eq_true rfl, Nat.le_of_ble_eq_true rfl⟩ dX7_amount_40 (fun r10 u11 H locs hp hZ => ?_)
      obtain ⟨rfl, rfl⟩ := hp
      have hZ : zz_Z g A s.heap [cw_k6 h0 st mk lk ch ru mr md 0, cw_i g u_ju 12 juf, cw_k5 st (nI na) (nI nu) kd dp cl sa ln bt pn bf, cw_i g kd 60 kdf, cw_i g sa 60 saf, cw_i g ln 60 lnf, cw_l g bt 4000 btf, cw_k4 ru st (nI nr) u_so u_ju u_we u_lo u_hi u_ta u_bo, cw_i g u_so 12 sof, cw_l g u_lo 12 lof, cw_l g u_hi 12 hif, cw_l g u_ta 12 ta2_8] H locs := hZ
      have hZ : zz_Z g A s.heap [cw_k6 h0 st mk lk ch ru mr md 0, cw_k5 st (nI na) (nI nu) kd dp cl sa ln bt pn bf, cw_k4 ru st (nI nr) u_so u_ju u_we u_lo u_hi u_ta u_bo, cw_i g kd 60 kdf, cw_i g sa 60 saf, cw_i g ln 60 lnf, cw_l g bt 4000 btf, cw_i g u_so 12 sof, cw_i g u_ju 12 juf, cw_l g u_lo 12 lof, cw_l g u_hi 12 hif, cw_l g u_ta 12 ta2_8] H locs := hZ.sub [0, 2, 7, 3, 4, 5, 6, 8, 1, 9, 10, 11] (by decide +kernel) rfl
      exact zz_lret hC hZ (⟨0, ta2_8, by refine Eq.symm ?_; rw [fo_cx_amount]; refine (if_neg (by (try simp only [d_d, d_a, d_sz, d_lz, d_ta2_8]); exact c1)).trans ?_; refine (if_pos (by (try simp only [d_d, d_a, d_sz, d_lz, d_ta2_8]); exact c4)).trans ?_; first | (simp only [d_d, d_a, d_sz, d_lz, d_ta2_8]; done) | rfl, rfl⟩) (Nat.le_of_ble_eq_true rfl) (Nat.le_of_ble_eq_true rfl) dX7_amount_43
    · refine lv_aload_n hx hb dX7_amount_15 rfl (lv_at hl 0 rfl) ?_
      refine lv_bipush (v := 9) hx hb dX7_amount_16 (by decide) ?_
      refine zz_lV (As := [.int 9]) (wc := [cw_k6 h0 st mk lk ch ru mr md la]) (wr := [cw_k5 st (nI na) (nI nu) kd dp cl sa ln bt pn bf, cw_k4 ru st (nI nr) u_so u_ju u_we u_lo u_hi u_ta u_bo, cw_i g kd 60 kdf, cw_i g sa 60 saf, cw_i g ln 60 lnf, cw_l g bt 4000 btf, cw_i g u_so 12 sof, cw_i g u_ju 12 juf, cw_l g u_lo 12 lof, cw_l g u_hi 12 hif, cw_l g u_ta 12 taf]) (rest := []) hC hZ hs hl zc_X7_130 (co_noBits g h0 st mk lk ch ru mr md la 9) [0] [1, 2, 3, 4, 5, 6, 7, 8, 9, 10, 11] rfl rfl (by decide +kernel) (ci := 6) (q0 := 0) rfl rfl rfl rfl (Nat.le_of_ble_eq_true rfl) ⟨⟨Nat.le_of_ble_eq_true rfl, Nat.le_of_ble_eq_true rfl⟩, Nat.le_of_ble_eq_true rfl, Nat.le_of_ble_eq_true rfl⟩ dX7_amount_18 (fun r12 u13 H locs hp hZ => ?_)
      obtain ⟨rfl, rfl⟩ := hp
      have hZ : zz_Z g A s.heap [cw_k5 st (nI na) (nI nu) kd dp cl sa ln bt pn bf, cw_k4 ru st (nI nr) u_so u_ju u_we u_lo u_hi u_ta u_bo, cw_i g kd 60 kdf, cw_i g sa 60 saf, cw_i g ln 60 lnf, cw_l g bt 4000 btf, cw_i g u_so 12 sof, cw_i g u_ju 12 juf, cw_l g u_lo 12 lof, cw_l g u_hi 12 hif, cw_l g u_ta 12 taf, cw_k6 h0 st mk lk ch ru mr md 9] H locs := hZ
      have hZ : zz_Z g A s.heap [cw_k6 h0 st mk lk ch ru mr md 9, cw_k5 st (nI na) (nI nu) kd dp cl sa ln bt pn bf, cw_k4 ru st (nI nr) u_so u_ju u_we u_lo u_hi u_ta u_bo, cw_i g kd 60 kdf, cw_i g sa 60 saf, cw_i g ln 60 lnf, cw_l g bt 4000 btf, cw_i g u_so 12 sof, cw_i g u_ju 12 juf, cw_l g u_lo 12 lof, cw_l g u_hi 12 hif, cw_l g u_ta 12 taf] H locs := hZ.sub [11, 0, 1, 2, 3, 4, 5, 6, 7, 8, 9, 10] (by decide +kernel) rfl
      exact zz_lret hC hZ (⟨9, taf, by show _ = _; rw [fo_cx_amount]; rw [if_neg c1, if_neg c4], rfl⟩) (Nat.le_of_ble_eq_true rfl) (Nat.le_of_ble_eq_true rfl) dX7_amount_21
theorem zl_scE {nr : Nat} {so we ju : Nat → Int32} {lo hi : Nat → Int64} {kd sa ln : Nat → Int32} {ta bt btw : Nat → Int64} (h : ∀ r, r < nr → ta r = zz_me so lo kd bt ju sa ln r) (hb : bt = btw) : sp_tot so we lo hi ta nr 0 0 = zz_sc so we ju lo hi kd sa ln nr btw := by
  rw [← hb]
  exact zl_totC h nr 0 0 (by omega)
theorem dg_X7_score_0 : (decode cX7_score 0 = .ok (.aload_n 0, 1)) ∧ (decode cX7_score 1 = .ok (.getfield 42, 3)) ∧ (decode cX7_score 4 = .ok (.invokevirtual 266, 3)) ∧ (decode cX7_score 7 = .ok (.aload_n 0, 1)) ∧ (decode cX7_score 8 = .ok (.getfield 42, 3)) ∧ (decode cX7_score 11 = .ok (.invokevirtual 269, 3)) ∧ (decode cX7_score 14 = .ok (.lreturn, 1)) := by decide +kernel
theorem dX7_score_0 : decode cX7_score 0 = .ok (.aload_n 0, 1) := dg_X7_score_0.1
theorem dX7_score_1 : decode cX7_score 1 = .ok (.getfield 42, 3) := dg_X7_score_0.2.1
theorem dX7_score_4 : decode cX7_score 4 = .ok (.invokevirtual 266, 3) := dg_X7_score_0.2.2.1
theorem dX7_score_7 : decode cX7_score 7 = .ok (.aload_n 0, 1) := dg_X7_score_0.2.2.2.1
theorem dX7_score_8 : decode cX7_score 8 = .ok (.getfield 42, 3) := dg_X7_score_0.2.2.2.2.1
theorem dX7_score_11 : decode cX7_score 11 = .ok (.invokevirtual 269, 3) := dg_X7_score_0.2.2.2.2.2.1
theorem dX7_score_14 : decode cX7_score 14 = .ok (.lreturn, 1) := dg_X7_score_0.2.2.2.2.2.2
theorem zk_652 : Cond.methodLink RX7 266 yX5_measureAll ∈ zz_w := zz_in (List.mem_append_right _ (List.mem_append_right _ (List.mem_append_right _ (List.mem_append_left _ (List.mem_of_getElem? (i := 172) (by decide +kernel)))))) rfl
set_option maxRecDepth 20000 in
theorem zk_655 : Cond.code yX5_measureAll cX5_measureAll 2 none ∈ zz_w := zz_in (List.mem_append_right _ (List.mem_append_right _ (List.mem_append_right _ (List.mem_append_left _ (List.mem_of_getElem? (i := 175) (rfl)))))) rfl
theorem zk_653 : Cond.instanceMethod yX5_measureAll ∈ zz_w := zz_in (List.mem_append_right _ (List.mem_append_right _ (List.mem_append_right _ (List.mem_append_left _ (List.mem_of_getElem? (i := 173) (by decide +kernel)))))) rfl
theorem zk_654 : Cond.selects RX5 yX5_measureAll yX5_measureAll ∈ zz_w := zz_in (List.mem_append_right _ (List.mem_append_right _ (List.mem_append_right _ (List.mem_append_left _ (List.mem_of_getElem? (i := 174) (by decide +kernel)))))) rfl
theorem zc_X7_266 : zz_cV RX7 266 yX5_measureAll cX5_measureAll 2 none 0 := ⟨⟨zk_652, zk_655, zk_6, by decide, by decide, by decide +kernel⟩, zk_653, zk_654⟩
theorem zk_657 : Cond.methodLink RX7 269 yX5_total ∈ zz_w := zz_in (List.mem_append_right _ (List.mem_append_right _ (List.mem_append_right _ (List.mem_append_left _ (List.mem_of_getElem? (i := 177) (by decide +kernel)))))) rfl
set_option maxRecDepth 20000 in
theorem zk_660 : Cond.code yX5_total cX5_total 4 (some .long) ∈ zz_w := zz_in (List.mem_append_right _ (List.mem_append_right _ (List.mem_append_right _ (List.mem_append_left _ (List.mem_of_getElem? (i := 180) (rfl)))))) rfl
theorem zk_658 : Cond.instanceMethod yX5_total ∈ zz_w := zz_in (List.mem_append_right _ (List.mem_append_right _ (List.mem_append_right _ (List.mem_append_left _ (List.mem_of_getElem? (i := 178) (by decide +kernel)))))) rfl
theorem zk_659 : Cond.selects RX5 yX5_total yX5_total ∈ zz_w := zz_in (List.mem_append_right _ (List.mem_append_right _ (List.mem_append_right _ (List.mem_append_left _ (List.mem_of_getElem? (i := 179) (by decide +kernel)))))) rfl
theorem zc_X7_269 : zz_cV RX7 269 yX5_total cX5_total 4 (some .long) 0 := ⟨⟨zk_657, zk_660, zk_6, by decide, by decide, by decide +kernel⟩, zk_658, zk_659⟩
abbrev rm_cx_score : Room := { frames := 5, cells := 0, slots := 0, locals := 128 }
abbrev po_cx_score (g : zz_G) (h0 : Nat) (st : Nat) (mk : Nat) (lk : Nat) (ch : Nat) (ru : Nat) (mr : Nat) (kd : Nat) (dp : Nat) (cl : Nat) (sa : Nat) (ln : Nat) (bt : Nat) (pn : Nat) (bf : Nat) (u_so : Nat) (u_ju : Nat) (u_we : Nat) (u_lo : Nat) (u_hi : Nat) (u_ta : Nat) (u_bo : Nat) (md : Int32) (la : Int32) (na : Nat) (nu : Nat) (nr : Nat) (kdf : Nat → Int32) (saf : Nat → Int32) (lnf : Nat → Int32) (btf : Nat → Int64) (sof : Nat → Int32) (juf : Nat → Int32) (lof : Nat → Int64) (hif : Nat → Int64) (taf : Nat → Int64) (wef : Nat → Int32) (dpf : Nat → Int32) (h_S : zz_SI na nu dpf saf lnf) (h_R : zz_RI na nr juf saf lnf) : Int64 → va_W → Prop := fun (r : Int64) (u : va_W) => ∃ (la2 : Int32) (ta2 : Nat → Int64), (r = zz_sc sof wef juf lof hif kdf saf lnf nr btf) ∧ u = [cw_k6 h0 st mk lk ch ru mr md la2, cw_k5 st (nI na) (nI nu) kd dp cl sa ln bt pn bf, cw_k4 ru st (nI nr) u_so u_ju u_we u_lo u_hi u_ta u_bo, cw_i g kd 60 kdf, cw_i g sa 60 saf, cw_i g ln 60 lnf, cw_l g bt 4000 btf, cw_i g u_so 12 sof, cw_i g u_ju 12 juf, cw_l g u_lo 12 lof, cw_l g u_hi 12 hif, cw_l g u_ta 12 ta2, cw_i g u_we 12 wef]
set_option maxHeartbeats 4000000 in
set_option maxRecDepth 100000 in
theorem cx_score (g : zz_G) (h0 : Nat) (st : Nat) (mk : Nat) (lk : Nat) (ch : Nat) (ru : Nat) (mr : Nat) (kd : Nat) (dp : Nat) (cl : Nat) (sa : Nat) (ln : Nat) (bt : Nat) (pn : Nat) (bf : Nat) (u_so : Nat) (u_ju : Nat) (u_we : Nat) (u_lo : Nat) (u_hi : Nat) (u_ta : Nat) (u_bo : Nat) (md : Int32) (la : Int32) (na : Nat) (nu : Nat) (nr : Nat) (kdf : Nat → Int32) (saf : Nat → Int32) (lnf : Nat → Int32) (btf : Nat → Int64) (sof : Nat → Int32) (juf : Nat → Int32) (lof : Nat → Int64) (hif : Nat → Int64) (taf : Nat → Int64) (wef : Nat → Int32) (dpf : Nat → Int32) (h_S : zz_SI na nu dpf saf lnf) (h_R : zz_RI na nr juf saf lnf) : zz_L g yX7_score (.code yX7_score cX7_score 1 (some .long)) rm_cx_score [.ref h0] [cw_k6 h0 st mk lk ch ru mr md la, cw_k5 st (nI na) (nI nu) kd dp cl sa ln bt pn bf, cw_k4 ru st (nI nr) u_so u_ju u_we u_lo u_hi u_ta u_bo, cw_i g kd 60 kdf, cw_i g sa 60 saf, cw_i g ln 60 lnf, cw_l g bt 4000 btf, cw_i g u_so 12 sof, cw_i g u_ju 12 juf, cw_l g u_lo 12 lof, cw_l g u_hi 12 hif, cw_l g u_ta 12 taf, cw_i g u_we 12 wef] (po_cx_score g h0 st mk lk ch ru mr kd dp cl sa ln bt pn bf u_so u_ju u_we u_lo u_hi u_ta u_bo md la na nu nr kdf saf lnf btf sof juf lof hif taf wef dpf h_S h_R) := by
  refine zz_L.intro (own := RX7) (cc := cX7_score) (nL := 1) (by decide) rfl (Nat.le_of_ble_eq_true rfl) ?_
  intro p l e s m args below meth c A H locs ls hC hnm hs hZ hl
  obtain ⟨hx, hb, hml, hown, hts, hr, hlocks, hK⟩ := id hC
  have hl : lv_has ls 1 [(0, .ref h0)] := hl
  have hZ : zz_Z g A s.heap [cw_k6 h0 st mk lk ch ru mr md la, cw_k5 st (nI na) (nI nu) kd dp cl sa ln bt pn bf, cw_k4 ru st (nI nr) u_so u_ju u_we u_lo u_hi u_ta u_bo, cw_i g kd 60 kdf, cw_i g sa 60 saf, cw_i g ln 60 lnf, cw_l g bt 4000 btf, cw_i g u_so 12 sof, cw_i g u_ju 12 juf, cw_l g u_lo 12 lof, cw_l g u_hi 12 hif, cw_l g u_ta 12 taf, cw_i g u_we 12 wef] H locs := hZ
  have hna := h_S.1
  have hnu := h_S.2.1
  have hr12 := h_R.1
  refine lv_aload_n hx hb dX7_score_0 rfl (lv_at hl 0 rfl) ?_
  refine zz_get hC hZ 0 rfl zf_X7_42 rfl dX7_score_1 ?_
  refine zz_vV (As := []) (wc := [cw_k4 ru st (nI nr) u_so u_ju u_we u_lo u_hi u_ta u_bo, cw_i g u_ju 12 juf, cw_i g u_so 12 sof, cw_l g u_lo 12 lof, cw_l g u_ta 12 taf, cw_k5 st (nI na) (nI nu) kd dp cl sa ln bt pn bf, cw_i g kd 60 kdf, cw_i g sa 60 saf, cw_i g ln 60 lnf, cw_l g bt 4000 btf]) (wr := [cw_k6 h0 st mk lk ch ru mr md la, cw_l g u_hi 12 hif, cw_i g u_we 12 wef]) (rest := []) hC hZ hs hl zc_X7_266 (co_measureAll g ru st u_so u_ju u_we u_lo u_hi u_ta u_bo kd dp cl sa ln bt pn bf nr na nu juf sof lof taf kdf saf lnf btf (h_R)) [2, 8, 7, 9, 11, 1, 3, 4, 5, 6] [0, 10, 12] rfl rfl (by decide +kernel) (ci := 4) (q0 := 0) rfl rfl rfl rfl (Nat.le_of_ble_eq_true rfl) ⟨⟨Nat.le_of_ble_eq_true rfl, Nat.le_of_ble_eq_true rfl⟩, Nat.le_of_ble_eq_true rfl, Nat.le_of_ble_eq_true rfl⟩ dX7_score_4 (fun u2 H locs hp hZ => ?_)
  obtain ⟨ta2_3, f4, rfl⟩ := hp
  have hZ : zz_Z g A s.heap [cw_k6 h0 st mk lk ch ru mr md la, cw_l g u_hi 12 hif, cw_i g u_we 12 wef, cw_k4 ru st (nI nr) u_so u_ju u_we u_lo u_hi u_ta u_bo, cw_i g u_ju 12 juf, cw_i g u_so 12 sof, cw_l g u_lo 12 lof, cw_l g u_ta 12 ta2_3, cw_k5 st (nI na) (nI nu) kd dp cl sa ln bt pn bf, cw_i g kd 60 kdf, cw_i g sa 60 saf, cw_i g ln 60 lnf, cw_l g bt 4000 btf] H locs := hZ
  refine lv_aload_n hx hb dX7_score_7 rfl (lv_at hl 0 rfl) ?_
  refine zz_get hC hZ 0 rfl zf_X7_42 rfl dX7_score_8 ?_
  refine zz_lV (As := []) (wc := [cw_k4 ru st (nI nr) u_so u_ju u_we u_lo u_hi u_ta u_bo, cw_i g u_so 12 sof, cw_i g u_we 12 wef, cw_l g u_lo 12 lof, cw_l g u_hi 12 hif, cw_l g u_ta 12 ta2_3]) (wr := [cw_k6 h0 st mk lk ch ru mr md la, cw_i g u_ju 12 juf, cw_k5 st (nI na) (nI nu) kd dp cl sa ln bt pn bf, cw_i g kd 60 kdf, cw_i g sa 60 saf, cw_i g ln 60 lnf, cw_l g bt 4000 btf]) (rest := []) hC hZ hs hl zc_X7_269 (co_total g ru st u_so u_ju u_we u_lo u_hi u_ta u_bo nr sof wef lof hif ta2_3 (by omega)) [3, 5, 2, 6, 1, 7] [0, 4, 8, 9, 10, 11, 12] rfl rfl (by decide +kernel) (ci := 4) (q0 := 0) rfl rfl rfl rfl (Nat.le_of_ble_eq_true rfl) ⟨⟨Nat.le_of_ble_eq_true rfl, Nat.le_of_ble_eq_true rfl⟩, Nat.le_of_ble_eq_true rfl, Nat.le_of_ble_eq_true rfl⟩ dX7_score_11 (fun r5 u6 H locs hp hZ => ?_)
  obtain ⟨f7, rfl⟩ := hp
  have hZ : zz_Z g A s.heap [cw_k6 h0 st mk lk ch ru mr md la, cw_i g u_ju 12 juf, cw_k5 st (nI na) (nI nu) kd dp cl sa ln bt pn bf, cw_i g kd 60 kdf, cw_i g sa 60 saf, cw_i g ln 60 lnf, cw_l g bt 4000 btf, cw_k4 ru st (nI nr) u_so u_ju u_we u_lo u_hi u_ta u_bo, cw_i g u_so 12 sof, cw_i g u_we 12 wef, cw_l g u_lo 12 lof, cw_l g u_hi 12 hif, cw_l g u_ta 12 ta2_3] H locs := hZ
  have hZ : zz_Z g A s.heap [cw_k6 h0 st mk lk ch ru mr md la, cw_k5 st (nI na) (nI nu) kd dp cl sa ln bt pn bf, cw_k4 ru st (nI nr) u_so u_ju u_we u_lo u_hi u_ta u_bo, cw_i g kd 60 kdf, cw_i g sa 60 saf, cw_i g ln 60 lnf, cw_l g bt 4000 btf, cw_i g u_so 12 sof, cw_i g u_ju 12 juf, cw_l g u_lo 12 lof, cw_l g u_hi 12 hif, cw_l g u_ta 12 ta2_3, cw_i g u_we 12 wef] H locs := hZ.sub [0, 2, 7, 3, 4, 5, 6, 8, 1, 10, 11, 12, 9] (by decide +kernel) rfl
  exact zz_lret hC hZ (⟨la, ta2_3, f7.trans (zl_scE (we := wef) (hi := hif) (fun r hr => (f4 r).trans (if_pos hr)) rfl), rfl⟩) (Nat.le_of_ble_eq_true rfl) (Nat.le_of_ble_eq_true rfl) dX7_score_14
theorem zl_i5 {i : Nat} {r : Int32} (hi : i ≤ 5000) (h : r ≤ 5000) (h2 : ¬ r ≤ nI i) : i < 5000 := by
  have e5 : (5000 : Int32).toInt = 5000 := by decide
  have e1 := nI_toInt (n := i) (by omega)
  rw [Int32.le_iff_toInt_le] at h h2
  omega
/-- what best answers -/
def sp_bR (W : Nat) : Int32 := if W ≤ 5000 then nI W else -8
theorem zl_wyL {c : Nat → Nat} : ∀ m i w : Nat, w ≤ 5000 → zz_wy c m i w ≤ 5001
  | 0, _, w, h => by rw [zz_wy]; omega
  | m + 1, i, w, h => by
    rw [zz_wy]
    by_cases q : 5000 < w * c i
    · rw [if_pos q]; exact Nat.le_refl _
    · rw [if_neg q]; exact zl_wyL m (i + 1) (w * c i) (by omega)
theorem zl_bR {W : Nat} {r : Int32} (h : W ≤ 5001) (f : r = nI W) (c : r ≤ 5000) : r = sp_bR W := by
  rw [f] at c ⊢
  have q : W ≤ 5000 := (nI_leI (a := W) (b := 5000) (by omega) (by decide)).mp c
  rw [sp_bR, if_pos q]
theorem zl_bR8 {W : Nat} {r : Int32} (h : W ≤ 5001) (f : r = nI W) (c : ¬ r ≤ 5000) : (-8 : Int32) = sp_bR W := by
  rw [f] at c
  have q : ¬ W ≤ 5000 := fun z => c ((nI_leI (a := W) (b := 5000) (by omega) (by decide)).mpr z)
  rw [sp_bR, if_neg q]
theorem zl_wyg {c : Nat → Nat} {nd : Nat} (hc : ∀ d, d < nd → 1 ≤ c d) : ∀ m i w : Nat, i + m ≤ nd → 1 ≤ w → 1 ≤ zz_wy c m i w
  | 0, _, w, _, h => by rw [zz_wy]; exact h
  | m + 1, i, w, hm, h => by
    rw [zz_wy]
    by_cases q : 5000 < w * c i
    · rw [if_pos q]; omega
    · rw [if_neg q]
      exact zl_wyg hc m (i + 1) (w * c i) (by omega) (Nat.mul_le_mul h (hc i (by omega)))
theorem zl_wy1 {pn sl co : Nat → Int32} {nd : Nat} (h : ∀ d, d < nd → (co d).toNatClampNeg ≤ 16) : 0 + 1 ≤ zz_wy (zz_cX pn sl co) nd 0 1 := zl_wyg (fun d hd => (zl_cXb (h d hd)).1) nd 0 1 (by omega) (by omega)
theorem zl_iWn {W j : Nat} {r : Int32} (h : W ≤ 5001) (f : r = nI W) (hj : j + 1 ≤ 5000) (c : ¬ r ≤ nI (j + 1)) : j + 1 < W := by
  rw [f, nI_leI (by omega) (by omega)] at c; omega
theorem zl_iWy {W j : Nat} {r : Int32} (h : W ≤ 5001) (f : r = nI W) (hj : j + 1 ≤ 5000) (c : r ≤ nI (j + 1)) : W ≤ j + 1 := by
  rw [f, nI_leI (by omega) (by omega)] at c; exact c
theorem zl_arT {S : Nat → Int64} {j fo : Nat} {le s : Int64} (h : (fo, le) = zz_ar S j) (e : s = S (j + 1)) (c : ¬ le ≤ s) : (j + 1, s) = zz_ar S (j + 1) := by
  have e2 : (zz_ar S j).2 = le := by rw [← h]
  have c' : s < le := by
    rw [Int64.le_iff_toInt_le] at c; rw [Int64.lt_iff_toInt_lt]; omega
  rw [zz_ar, e2, ← e, if_pos c']
theorem zl_arF {S : Nat → Int64} {j fo : Nat} {le s : Int64} (h : (fo, le) = zz_ar S j) (e : s = S (j + 1)) (c : le ≤ s) : (fo, le) = zz_ar S (j + 1) := by
  have e2 : (zz_ar S j).2 = le := by rw [← h]
  have c' : ¬ s < le := by
    rw [Int64.le_iff_toInt_le] at c; rw [Int64.lt_iff_toInt_lt]; omega
  rw [zz_ar, e2, ← e, if_neg c']
  exact h
theorem zl_bsE {S : Nat → Int64} {W j fo : Nat} {le : Int64} (hW : W = j + 1) (h : (fo, le) = zz_ar S j) : fo = (zz_ar S (W - 1)).1 := by rw [hW, Nat.add_sub_cancel, ← h]
theorem zl_W5 {W : Nat} {r : Int32} (h : W ≤ 5001) (f : r = nI W) (c : r ≤ 5000) : W ≤ 5000 := by
  rw [f] at c
  exact (nI_leI (a := W) (b := 5000) (by omega) (by decide)).mp c
theorem zl_W5n {W : Nat} {r : Int32} (h : W ≤ 5001) (f : r = nI W) (c : ¬ r ≤ 5000) : ¬ W ≤ 5000 := fun z => c (by
  rw [f]
  exact (nI_leI (a := W) (b := 5000) (by omega) (by decide)).mpr z)
theorem dg_X7_best_0 : (decode cX7_best 0 = .ok (.aload_n 0, 1)) ∧ (decode cX7_best 1 = .ok (.getfield 35, 3)) ∧ (decode cX7_best 4 = .ok (.invokevirtual 273, 3)) ∧ (decode cX7_best 7 = .ok (.istore_n 1, 1)) ∧ (decode cX7_best 8 = .ok (.iload_n 1, 1)) ∧ (decode cX7_best 9 = .ok (.sipush 5000, 3)) ∧ (decode cX7_best 12 = .ok (.if_icmp .le 10, 3)) ∧ (decode cX7_best 15 = .ok (.aload_n 0, 1)) ∧ (decode cX7_best 16 = .ok (.bipush 8, 2)) ∧ (decode cX7_best 18 = .ok (.invokevirtual 65, 3)) ∧ (decode cX7_best 21 = .ok (.ireturn, 1)) ∧ (decode cX7_best 22 = .ok (.aload_n 0, 1)) ∧ (decode cX7_best 23 = .ok (.getfield 35, 3)) ∧ (decode cX7_best 26 = .ok (.iconst 0, 1)) ∧ (decode cX7_best 27 = .ok (.invokevirtual 277, 3)) ∧ (decode cX7_best 30 = .ok (.aload_n 0, 1)) := by decide +kernel
theorem dX7_best_0 : decode cX7_best 0 = .ok (.aload_n 0, 1) := dg_X7_best_0.1
theorem dX7_best_1 : decode cX7_best 1 = .ok (.getfield 35, 3) := dg_X7_best_0.2.1
theorem dX7_best_4 : decode cX7_best 4 = .ok (.invokevirtual 273, 3) := dg_X7_best_0.2.2.1
theorem dX7_best_7 : decode cX7_best 7 = .ok (.istore_n 1, 1) := dg_X7_best_0.2.2.2.1
theorem dX7_best_8 : decode cX7_best 8 = .ok (.iload_n 1, 1) := dg_X7_best_0.2.2.2.2.1
theorem dX7_best_9 : decode cX7_best 9 = .ok (.sipush 5000, 3) := dg_X7_best_0.2.2.2.2.2.1
theorem dX7_best_12 : decode cX7_best 12 = .ok (.if_icmp .le 10, 3) := dg_X7_best_0.2.2.2.2.2.2.1
theorem dX7_best_15 : decode cX7_best 15 = .ok (.aload_n 0, 1) := dg_X7_best_0.2.2.2.2.2.2.2.1
theorem dX7_best_16 : decode cX7_best 16 = .ok (.bipush 8, 2) := dg_X7_best_0.2.2.2.2.2.2.2.2.1
theorem dX7_best_18 : decode cX7_best 18 = .ok (.invokevirtual 65, 3) := dg_X7_best_0.2.2.2.2.2.2.2.2.2.1
theorem dX7_best_21 : decode cX7_best 21 = .ok (.ireturn, 1) := dg_X7_best_0.2.2.2.2.2.2.2.2.2.2.1
theorem dX7_best_22 : decode cX7_best 22 = .ok (.aload_n 0, 1) := dg_X7_best_0.2.2.2.2.2.2.2.2.2.2.2.1
theorem dX7_best_23 : decode cX7_best 23 = .ok (.getfield 35, 3) := dg_X7_best_0.2.2.2.2.2.2.2.2.2.2.2.2.1
theorem dX7_best_26 : decode cX7_best 26 = .ok (.iconst 0, 1) := dg_X7_best_0.2.2.2.2.2.2.2.2.2.2.2.2.2.1
theorem dX7_best_27 : decode cX7_best 27 = .ok (.invokevirtual 277, 3) := dg_X7_best_0.2.2.2.2.2.2.2.2.2.2.2.2.2.2.1
theorem dX7_best_30 : decode cX7_best 30 = .ok (.aload_n 0, 1) := dg_X7_best_0.2.2.2.2.2.2.2.2.2.2.2.2.2.2.2
theorem dg_X7_best_31 : (decode cX7_best 31 = .ok (.getfield 42, 3)) ∧ (decode cX7_best 34 = .ok (.invokevirtual 266, 3)) ∧ (decode cX7_best 37 = .ok (.aload_n 0, 1)) ∧ (decode cX7_best 38 = .ok (.getfield 42, 3)) ∧ (decode cX7_best 41 = .ok (.invokevirtual 269, 3)) ∧ (decode cX7_best 44 = .ok (.lstore_n 2, 1)) ∧ (decode cX7_best 45 = .ok (.iconst 0, 1)) ∧ (decode cX7_best 46 = .ok (.istore 4, 2)) ∧ (decode cX7_best 48 = .ok (.iconst 1, 1)) ∧ (decode cX7_best 49 = .ok (.istore 5, 2)) ∧ (decode cX7_best 51 = .ok (.iload 5, 2)) ∧ (decode cX7_best 53 = .ok (.iload_n 1, 1)) ∧ (decode cX7_best 54 = .ok (.if_icmp .ge 43, 3)) ∧ (decode cX7_best 57 = .ok (.aload_n 0, 1)) ∧ (decode cX7_best 58 = .ok (.getfield 35, 3)) ∧ (decode cX7_best 61 = .ok (.aload_n 0, 1)) := by decide +kernel
theorem dX7_best_31 : decode cX7_best 31 = .ok (.getfield 42, 3) := dg_X7_best_31.1
theorem dX7_best_34 : decode cX7_best 34 = .ok (.invokevirtual 266, 3) := dg_X7_best_31.2.1
theorem dX7_best_37 : decode cX7_best 37 = .ok (.aload_n 0, 1) := dg_X7_best_31.2.2.1
theorem dX7_best_38 : decode cX7_best 38 = .ok (.getfield 42, 3) := dg_X7_best_31.2.2.2.1
theorem dX7_best_41 : decode cX7_best 41 = .ok (.invokevirtual 269, 3) := dg_X7_best_31.2.2.2.2.1
theorem dX7_best_44 : decode cX7_best 44 = .ok (.lstore_n 2, 1) := dg_X7_best_31.2.2.2.2.2.1
theorem dX7_best_45 : decode cX7_best 45 = .ok (.iconst 0, 1) := dg_X7_best_31.2.2.2.2.2.2.1
theorem dX7_best_46 : decode cX7_best 46 = .ok (.istore 4, 2) := dg_X7_best_31.2.2.2.2.2.2.2.1
theorem dX7_best_48 : decode cX7_best 48 = .ok (.iconst 1, 1) := dg_X7_best_31.2.2.2.2.2.2.2.2.1
theorem dX7_best_49 : decode cX7_best 49 = .ok (.istore 5, 2) := dg_X7_best_31.2.2.2.2.2.2.2.2.2.1
theorem dX7_best_51 : decode cX7_best 51 = .ok (.iload 5, 2) := dg_X7_best_31.2.2.2.2.2.2.2.2.2.2.1
theorem dX7_best_53 : decode cX7_best 53 = .ok (.iload_n 1, 1) := dg_X7_best_31.2.2.2.2.2.2.2.2.2.2.2.1
theorem dX7_best_54 : decode cX7_best 54 = .ok (.if_icmp .ge 43, 3) := dg_X7_best_31.2.2.2.2.2.2.2.2.2.2.2.2.1
theorem dX7_best_57 : decode cX7_best 57 = .ok (.aload_n 0, 1) := dg_X7_best_31.2.2.2.2.2.2.2.2.2.2.2.2.2.1
theorem dX7_best_58 : decode cX7_best 58 = .ok (.getfield 35, 3) := dg_X7_best_31.2.2.2.2.2.2.2.2.2.2.2.2.2.2.1
theorem dX7_best_61 : decode cX7_best 61 = .ok (.aload_n 0, 1) := dg_X7_best_31.2.2.2.2.2.2.2.2.2.2.2.2.2.2.2
theorem dg_X7_best_62 : (decode cX7_best 62 = .ok (.getfield 42, 3)) ∧ (decode cX7_best 65 = .ok (.invokevirtual 280, 3)) ∧ (decode cX7_best 68 = .ok (.aload_n 0, 1)) ∧ (decode cX7_best 69 = .ok (.getfield 42, 3)) ∧ (decode cX7_best 72 = .ok (.invokevirtual 269, 3)) ∧ (decode cX7_best 75 = .ok (.lstore 6, 2)) ∧ (decode cX7_best 77 = .ok (.lload 6, 2)) ∧ (decode cX7_best 79 = .ok (.lload_n 2, 1)) ∧ (decode cX7_best 80 = .ok (.lcmp, 1)) ∧ (decode cX7_best 81 = .ok (.ifCond .ge 10, 3)) ∧ (decode cX7_best 84 = .ok (.lload 6, 2)) ∧ (decode cX7_best 86 = .ok (.lstore_n 2, 1)) ∧ (decode cX7_best 87 = .ok (.iload 5, 2)) ∧ (decode cX7_best 89 = .ok (.istore 4, 2)) ∧ (decode cX7_best 91 = .ok (.iinc 5 1, 3)) ∧ (decode cX7_best 94 = .ok (.goto (-43), 3)) := by decide +kernel
theorem dX7_best_62 : decode cX7_best 62 = .ok (.getfield 42, 3) := dg_X7_best_62.1
theorem dX7_best_65 : decode cX7_best 65 = .ok (.invokevirtual 280, 3) := dg_X7_best_62.2.1
theorem dX7_best_68 : decode cX7_best 68 = .ok (.aload_n 0, 1) := dg_X7_best_62.2.2.1
theorem dX7_best_69 : decode cX7_best 69 = .ok (.getfield 42, 3) := dg_X7_best_62.2.2.2.1
theorem dX7_best_72 : decode cX7_best 72 = .ok (.invokevirtual 269, 3) := dg_X7_best_62.2.2.2.2.1
theorem dX7_best_75 : decode cX7_best 75 = .ok (.lstore 6, 2) := dg_X7_best_62.2.2.2.2.2.1
theorem dX7_best_77 : decode cX7_best 77 = .ok (.lload 6, 2) := dg_X7_best_62.2.2.2.2.2.2.1
theorem dX7_best_79 : decode cX7_best 79 = .ok (.lload_n 2, 1) := dg_X7_best_62.2.2.2.2.2.2.2.1
theorem dX7_best_80 : decode cX7_best 80 = .ok (.lcmp, 1) := dg_X7_best_62.2.2.2.2.2.2.2.2.1
theorem dX7_best_81 : decode cX7_best 81 = .ok (.ifCond .ge 10, 3) := dg_X7_best_62.2.2.2.2.2.2.2.2.2.1
theorem dX7_best_84 : decode cX7_best 84 = .ok (.lload 6, 2) := dg_X7_best_62.2.2.2.2.2.2.2.2.2.2.1
theorem dX7_best_86 : decode cX7_best 86 = .ok (.lstore_n 2, 1) := dg_X7_best_62.2.2.2.2.2.2.2.2.2.2.2.1
theorem dX7_best_87 : decode cX7_best 87 = .ok (.iload 5, 2) := dg_X7_best_62.2.2.2.2.2.2.2.2.2.2.2.2.1
theorem dX7_best_89 : decode cX7_best 89 = .ok (.istore 4, 2) := dg_X7_best_62.2.2.2.2.2.2.2.2.2.2.2.2.2.1
theorem dX7_best_91 : decode cX7_best 91 = .ok (.iinc 5 1, 3) := dg_X7_best_62.2.2.2.2.2.2.2.2.2.2.2.2.2.2.1
theorem dX7_best_94 : decode cX7_best 94 = .ok (.goto (-43), 3) := dg_X7_best_62.2.2.2.2.2.2.2.2.2.2.2.2.2.2.2
theorem dg_X7_best_97 : (decode cX7_best 97 = .ok (.aload_n 0, 1)) ∧ (decode cX7_best 98 = .ok (.getfield 35, 3)) ∧ (decode cX7_best 101 = .ok (.iload 4, 2)) ∧ (decode cX7_best 103 = .ok (.invokevirtual 277, 3)) ∧ (decode cX7_best 106 = .ok (.aload_n 0, 1)) ∧ (decode cX7_best 107 = .ok (.iload_n 1, 1)) ∧ (decode cX7_best 108 = .ok (.invokevirtual 100, 3)) ∧ (decode cX7_best 111 = .ok (.ireturn, 1)) := by decide +kernel
theorem dX7_best_97 : decode cX7_best 97 = .ok (.aload_n 0, 1) := dg_X7_best_97.1
theorem dX7_best_98 : decode cX7_best 98 = .ok (.getfield 35, 3) := dg_X7_best_97.2.1
theorem dX7_best_101 : decode cX7_best 101 = .ok (.iload 4, 2) := dg_X7_best_97.2.2.1
theorem dX7_best_103 : decode cX7_best 103 = .ok (.invokevirtual 277, 3) := dg_X7_best_97.2.2.2.1
theorem dX7_best_106 : decode cX7_best 106 = .ok (.aload_n 0, 1) := dg_X7_best_97.2.2.2.2.1
theorem dX7_best_107 : decode cX7_best 107 = .ok (.iload_n 1, 1) := dg_X7_best_97.2.2.2.2.2.1
theorem dX7_best_108 : decode cX7_best 108 = .ok (.invokevirtual 100, 3) := dg_X7_best_97.2.2.2.2.2.2.1
theorem dX7_best_111 : decode cX7_best 111 = .ok (.ireturn, 1) := dg_X7_best_97.2.2.2.2.2.2.2
theorem zk_666 : Cond.methodLink RX7 273 yX0_ways ∈ zz_w := zz_in (List.mem_append_right _ (List.mem_append_right _ (List.mem_append_right _ (List.mem_append_left _ (List.mem_of_getElem? (i := 186) (by decide +kernel)))))) rfl
set_option maxRecDepth 20000 in
theorem zk_669 : Cond.code yX0_ways cX0_ways 3 (some .int) ∈ zz_w := zz_in (List.mem_append_right _ (List.mem_append_right _ (List.mem_append_right _ (List.mem_append_left _ (List.mem_of_getElem? (i := 189) (rfl)))))) rfl
theorem zk_667 : Cond.instanceMethod yX0_ways ∈ zz_w := zz_in (List.mem_append_right _ (List.mem_append_right _ (List.mem_append_right _ (List.mem_append_left _ (List.mem_of_getElem? (i := 187) (by decide +kernel)))))) rfl
theorem zk_668 : Cond.selects RX0 yX0_ways yX0_ways ∈ zz_w := zz_in (List.mem_append_right _ (List.mem_append_right _ (List.mem_append_right _ (List.mem_append_left _ (List.mem_of_getElem? (i := 188) (by decide +kernel)))))) rfl
theorem zc_X7_273 : zz_cV RX7 273 yX0_ways cX0_ways 3 (some .int) 0 := ⟨⟨zk_666, zk_669, zk_5, by decide, by decide, by decide +kernel⟩, zk_667, zk_668⟩
theorem zk_674 : Cond.methodLink RX7 277 yX0_takeWay ∈ zz_w := zz_in (List.mem_append_right _ (List.mem_append_right _ (List.mem_append_right _ (List.mem_append_left _ (List.mem_of_getElem? (i := 194) (by decide +kernel)))))) rfl
set_option maxRecDepth 20000 in
theorem zk_677 : Cond.code yX0_takeWay cX0_takeWay 4 none ∈ zz_w := zz_in (List.mem_append_right _ (List.mem_append_right _ (List.mem_append_right _ (List.mem_append_left _ (List.mem_of_getElem? (i := 197) (rfl)))))) rfl
theorem zk_675 : Cond.instanceMethod yX0_takeWay ∈ zz_w := zz_in (List.mem_append_right _ (List.mem_append_right _ (List.mem_append_right _ (List.mem_append_left _ (List.mem_of_getElem? (i := 195) (by decide +kernel)))))) rfl
theorem zk_676 : Cond.selects RX0 yX0_takeWay yX0_takeWay ∈ zz_w := zz_in (List.mem_append_right _ (List.mem_append_right _ (List.mem_append_right _ (List.mem_append_left _ (List.mem_of_getElem? (i := 196) (by decide +kernel)))))) rfl
theorem zc_X7_277 : zz_cV RX7 277 yX0_takeWay cX0_takeWay 4 none 1 := ⟨⟨zk_674, zk_677, zk_5, by decide, by decide, by decide +kernel⟩, zk_675, zk_676⟩
theorem zk_678 : Cond.methodLink RX7 280 yX0_takeNext ∈ zz_w := zz_in (List.mem_append_right _ (List.mem_append_right _ (List.mem_append_right _ (List.mem_append_left _ (List.mem_of_getElem? (i := 198) (by decide +kernel)))))) rfl
set_option maxRecDepth 20000 in
theorem zk_681 : Cond.code yX0_takeNext cX0_takeNext 3 none ∈ zz_w := zz_in (List.mem_append_right _ (List.mem_append_right _ (List.mem_append_right _ (List.mem_append_left _ (List.mem_of_getElem? (i := 201) (rfl)))))) rfl
theorem zk_679 : Cond.instanceMethod yX0_takeNext ∈ zz_w := zz_in (List.mem_append_right _ (List.mem_append_right _ (List.mem_append_right _ (List.mem_append_left _ (List.mem_of_getElem? (i := 199) (by decide +kernel)))))) rfl
theorem zk_680 : Cond.selects RX0 yX0_takeNext yX0_takeNext ∈ zz_w := zz_in (List.mem_append_right _ (List.mem_append_right _ (List.mem_append_right _ (List.mem_append_left _ (List.mem_of_getElem? (i := 200) (by decide +kernel)))))) rfl
theorem zc_X7_280 : zz_cV RX7 280 yX0_takeNext cX0_takeNext 3 none 1 := ⟨⟨zk_678, zk_681, zk_5, by decide, by decide, by decide +kernel⟩, zk_679, zk_680⟩
abbrev rm_cx_best : Room := { frames := 7, cells := 0, slots := 0, locals := 180 }
abbrev po_cx_best (g : zz_G) (h0 : Nat) (st : Nat) (mk : Nat) (lk : Nat) (ch : Nat) (ru : Nat) (mr : Nat) (kd : Nat) (dp : Nat) (cl : Nat) (sa : Nat) (ln : Nat) (bt : Nat) (pn : Nat) (bf : Nat) (c_pl : Nat) (c_sl : Nat) (c_co : Nat) (c_ca : Nat) (c_tu : Nat) (u_so : Nat) (u_ju : Nat) (u_we : Nat) (u_lo : Nat) (u_hi : Nat) (u_ta : Nat) (u_bo : Nat) (md : Int32) (la : Int32) (na : Nat) (nu : Nat) (nd : Nat) (nr : Nat) (kdf : Nat → Int32) (saf : Nat → Int32) (lnf : Nat → Int32) (btf : Nat → Int64) (pnf : Nat → Int32) (plf : Nat → Int32) (slf : Nat → Int32) (cof : Nat → Int32) (caf : Nat → Int64) (tuf : Nat → Int32) (sof : Nat → Int32) (juf : Nat → Int32) (wef : Nat → Int32) (lof : Nat → Int64) (hif : Nat → Int64) (taf : Nat → Int64) (bof : Nat → Int64) (dpf : Nat → Int32) (h_S : zz_SI na nu dpf saf lnf) (h_C : zz_CI na nd saf lnf plf slf cof) (h_R : zz_RI na nr juf saf lnf) (h_T : zz_TI tuf) (h_O : zz_SO nr sof) (h_J : zz_DJ na saf lnf) (h_I : zz_SD nd slf) : Int32 → va_W → Prop := fun (r : Int32) (u : va_W) => ∃ (la2 : Int32) (tu2 : Nat → Int32) (bt2 : Nat → Int64) (ta2 : Nat → Int64) (bo2 : Nat → Int64), (zz_TI tu2) ∧ (∀ j, (∀ d t, d < nd → slf d = nI t → t ≤ 4000 → j ≠ t) → bt2 j = btf j) ∧ (r = sp_bR (zz_wy (zz_cX pnf slf cof) nd 0 1)) ∧ (bt2 = if zz_wy (zz_cX pnf slf cof) nd 0 1 ≤ 5000 then sp_tkw pnf slf cof caf nd (zz_ar (fun w => zz_sc sof wef juf lof hif kdf saf lnf nr (sp_tkw pnf slf cof caf nd w btf)) (zz_wy (zz_cX pnf slf cof) nd 0 1 - 1)).1 btf else btf) ∧ u = [cw_k6 h0 st mk lk ch ru mr md la2, cw_k5 st (nI na) (nI nu) kd dp cl sa ln bt pn bf, cw_k0 ch st (nI nd) c_pl c_sl c_co c_ca c_tu, cw_k4 ru st (nI nr) u_so u_ju u_we u_lo u_hi u_ta u_bo, cw_i g kd 60 kdf, cw_i g sa 60 saf, cw_i g ln 60 lnf, cw_l g bt 4000 bt2, cw_z g pn 4000 pnf, cw_i g c_pl 24 plf, cw_i g c_sl 24 slf, cw_i g c_co 24 cof, cw_l g c_ca 384 caf, cw_i g c_tu 24 tu2, cw_i g u_so 12 sof, cw_i g u_ju 12 juf, cw_i g u_we 12 wef, cw_l g u_lo 12 lof, cw_l g u_hi 12 hif, cw_l g u_ta 12 ta2, cw_l g u_bo 12 bo2]
set_option maxHeartbeats 4000000 in
set_option maxRecDepth 100000 in
theorem cx_best (g : zz_G) (h0 : Nat) (st : Nat) (mk : Nat) (lk : Nat) (ch : Nat) (ru : Nat) (mr : Nat) (kd : Nat) (dp : Nat) (cl : Nat) (sa : Nat) (ln : Nat) (bt : Nat) (pn : Nat) (bf : Nat) (c_pl : Nat) (c_sl : Nat) (c_co : Nat) (c_ca : Nat) (c_tu : Nat) (u_so : Nat) (u_ju : Nat) (u_we : Nat) (u_lo : Nat) (u_hi : Nat) (u_ta : Nat) (u_bo : Nat) (md : Int32) (la : Int32) (na : Nat) (nu : Nat) (nd : Nat) (nr : Nat) (kdf : Nat → Int32) (saf : Nat → Int32) (lnf : Nat → Int32) (btf : Nat → Int64) (pnf : Nat → Int32) (plf : Nat → Int32) (slf : Nat → Int32) (cof : Nat → Int32) (caf : Nat → Int64) (tuf : Nat → Int32) (sof : Nat → Int32) (juf : Nat → Int32) (wef : Nat → Int32) (lof : Nat → Int64) (hif : Nat → Int64) (taf : Nat → Int64) (bof : Nat → Int64) (dpf : Nat → Int32) (h_S : zz_SI na nu dpf saf lnf) (h_C : zz_CI na nd saf lnf plf slf cof) (h_R : zz_RI na nr juf saf lnf) (h_T : zz_TI tuf) (h_O : zz_SO nr sof) (h_J : zz_DJ na saf lnf) (h_I : zz_SD nd slf) : zz_I g yX7_best (.code yX7_best cX7_best 8 (some .int)) rm_cx_best [.ref h0] [cw_k6 h0 st mk lk ch ru mr md la, cw_k5 st (nI na) (nI nu) kd dp cl sa ln bt pn bf, cw_k0 ch st (nI nd) c_pl c_sl c_co c_ca c_tu, cw_k4 ru st (nI nr) u_so u_ju u_we u_lo u_hi u_ta u_bo, cw_i g kd 60 kdf, cw_i g sa 60 saf, cw_i g ln 60 lnf, cw_l g bt 4000 btf, cw_z g pn 4000 pnf, cw_i g c_pl 24 plf, cw_i g c_sl 24 slf, cw_i g c_co 24 cof, cw_l g c_ca 384 caf, cw_i g c_tu 24 tuf, cw_i g u_so 12 sof, cw_i g u_ju 12 juf, cw_i g u_we 12 wef, cw_l g u_lo 12 lof, cw_l g u_hi 12 hif, cw_l g u_ta 12 taf, cw_l g u_bo 12 bof] (po_cx_best g h0 st mk lk ch ru mr kd dp cl sa ln bt pn bf c_pl c_sl c_co c_ca c_tu u_so u_ju u_we u_lo u_hi u_ta u_bo md la na nu nd nr kdf saf lnf btf pnf plf slf cof caf tuf sof juf wef lof hif taf bof dpf h_S h_C h_R h_T h_O h_J h_I) := by
  refine zz_I.intro (own := RX7) (cc := cX7_best) (nL := 8) (by decide) rfl (Nat.le_of_ble_eq_true rfl) ?_
  intro p l e s m args below meth c A H locs ls hC hnm hs hZ hl
  obtain ⟨hx, hb, hml, hown, hts, hr, hlocks, hK⟩ := id hC
  have hl : lv_has ls 8 [(0, .ref h0)] := hl
  have hZ : zz_Z g A s.heap [cw_k6 h0 st mk lk ch ru mr md la, cw_k5 st (nI na) (nI nu) kd dp cl sa ln bt pn bf, cw_k0 ch st (nI nd) c_pl c_sl c_co c_ca c_tu, cw_k4 ru st (nI nr) u_so u_ju u_we u_lo u_hi u_ta u_bo, cw_i g kd 60 kdf, cw_i g sa 60 saf, cw_i g ln 60 lnf, cw_l g bt 4000 btf, cw_z g pn 4000 pnf, cw_i g c_pl 24 plf, cw_i g c_sl 24 slf, cw_i g c_co 24 cof, cw_l g c_ca 384 caf, cw_i g c_tu 24 tuf, cw_i g u_so 12 sof, cw_i g u_ju 12 juf, cw_i g u_we 12 wef, cw_l g u_lo 12 lof, cw_l g u_hi 12 hif, cw_l g u_ta 12 taf, cw_l g u_bo 12 bof] H locs := hZ
  have hna := h_S.1
  have hnu := h_S.2.1
  have hd24 := h_C.1
  have hr12 := h_R.1
  refine lv_aload_n hx hb dX7_best_0 rfl (lv_at hl 0 rfl) ?_
  refine zz_get hC hZ 0 rfl zf_X7_35 rfl dX7_best_1 ?_
  refine zz_iV (As := []) (wc := [cw_k0 ch st (nI nd) c_pl c_sl c_co c_ca c_tu, cw_i g c_sl 24 slf, cw_i g c_co 24 cof, cw_k5 st (nI na) (nI nu) kd dp cl sa ln bt pn bf, cw_z g pn 4000 pnf]) (wr := [cw_k6 h0 st mk lk ch ru mr md la, cw_k4 ru st (nI nr) u_so u_ju u_we u_lo u_hi u_ta u_bo, cw_i g kd 60 kdf, cw_i g sa 60 saf, cw_i g ln 60 lnf, cw_l g bt 4000 btf, cw_i g c_pl 24 plf, cw_l g c_ca 384 caf, cw_i g c_tu 24 tuf, cw_i g u_so 12 sof, cw_i g u_ju 12 juf, cw_i g u_we 12 wef, cw_l g u_lo 12 lof, cw_l g u_hi 12 hif, cw_l g u_ta 12 taf, cw_l g u_bo 12 bof]) (rest := []) hC hZ hs hl zc_X7_273 (co_ways g ch st c_pl c_sl c_co c_ca c_tu kd dp cl sa ln bt pn bf nd na nu plf slf cof saf lnf pnf (h_C)) [2, 10, 11, 1, 8] [0, 3, 4, 5, 6, 7, 9, 12, 13, 14, 15, 16, 17, 18, 19, 20] rfl rfl (by decide +kernel) (ci := 0) (q0 := 0) rfl rfl rfl rfl (Nat.le_of_ble_eq_true rfl) ⟨⟨Nat.le_of_ble_eq_true rfl, Nat.le_of_ble_eq_true rfl⟩, Nat.le_of_ble_eq_true rfl, Nat.le_of_ble_eq_true rfl⟩ dX7_best_4 (fun r1 u2 H locs hp hZ => ?_)
  obtain ⟨f3, rfl⟩ := hp
  have hZ : zz_Z g A s.heap [cw_k6 h0 st mk lk ch ru mr md la, cw_k4 ru st (nI nr) u_so u_ju u_we u_lo u_hi u_ta u_bo, cw_i g kd 60 kdf, cw_i g sa 60 saf, cw_i g ln 60 lnf, cw_l g bt 4000 btf, cw_i g c_pl 24 plf, cw_l g c_ca 384 caf, cw_i g c_tu 24 tuf, cw_i g u_so 12 sof, cw_i g u_ju 12 juf, cw_i g u_we 12 wef, cw_l g u_lo 12 lof, cw_l g u_hi 12 hif, cw_l g u_ta 12 taf, cw_l g u_bo 12 bof, cw_k0 ch st (nI nd) c_pl c_sl c_co c_ca c_tu, cw_i g c_sl 24 slf, cw_i g c_co 24 cof, cw_k5 st (nI na) (nI nu) kd dp cl sa ln bt pn bf, cw_z g pn 4000 pnf] H locs := hZ
  refine lv_istore_n (lv' := [(1, .int r1), (0, .ref h0)]) hx hb dX7_best_7 rfl hl (by decide) rfl (fun ls hl => ?_)
  refine lv_iload_n hx hb dX7_best_8 rfl (lv_at hl 0 rfl) ?_
  refine lv_sipush (v := 5000) hx hb dX7_best_9 (by decide) ?_
  refine lv_icmp_le (tgt := 22) hx hb dX7_best_12 (by decide) (fun c4 => ?_) (fun c4 => ?_)
  · refine lv_aload_n hx hb dX7_best_22 rfl (lv_at hl 1 rfl) ?_
    refine zz_get hC hZ 0 rfl zf_X7_35 rfl dX7_best_23 ?_
    refine lv_iconst (v := 0) hx hb dX7_best_26 (by decide) ?_
    refine zz_vV (As := [.int 0]) (wc := [cw_k0 ch st (nI nd) c_pl c_sl c_co c_ca c_tu, cw_i g c_sl 24 slf, cw_i g c_co 24 cof, cw_l g c_ca 384 caf, cw_i g c_tu 24 tuf, cw_k5 st (nI na) (nI nu) kd dp cl sa ln bt pn bf, cw_l g bt 4000 btf, cw_z g pn 4000 pnf]) (wr := [cw_k6 h0 st mk lk ch ru mr md la, cw_k4 ru st (nI nr) u_so u_ju u_we u_lo u_hi u_ta u_bo, cw_i g kd 60 kdf, cw_i g sa 60 saf, cw_i g ln 60 lnf, cw_i g c_pl 24 plf, cw_i g u_so 12 sof, cw_i g u_ju 12 juf, cw_i g u_we 12 wef, cw_l g u_lo 12 lof, cw_l g u_hi 12 hif, cw_l g u_ta 12 taf, cw_l g u_bo 12 bof]) (rest := []) hC hZ hs hl zc_X7_277 (co_takeWay g ch st c_pl c_sl c_co c_ca c_tu kd dp cl sa ln bt pn bf nd na nu plf slf cof caf tuf saf lnf btf pnf 0 (h_C) (h_T) (by omega)) [16, 17, 18, 7, 8, 19, 5, 20] [0, 1, 2, 3, 4, 6, 9, 10, 11, 12, 13, 14, 15] rfl rfl (by decide +kernel) (ci := 0) (q0 := 0) rfl rfl rfl rfl (Nat.le_of_ble_eq_true rfl) ⟨⟨Nat.le_of_ble_eq_true rfl, Nat.le_of_ble_eq_true rfl⟩, Nat.le_of_ble_eq_true rfl, Nat.le_of_ble_eq_true rfl⟩ dX7_best_27 (fun u6 H locs hp hZ => ?_)
    obtain ⟨tu2_7, bt2_8, f9, f10, f11, f12, rfl⟩ := hp
    have hZ : zz_Z g A s.heap [cw_k6 h0 st mk lk ch ru mr md la, cw_k4 ru st (nI nr) u_so u_ju u_we u_lo u_hi u_ta u_bo, cw_i g kd 60 kdf, cw_i g sa 60 saf, cw_i g ln 60 lnf, cw_i g c_pl 24 plf, cw_i g u_so 12 sof, cw_i g u_ju 12 juf, cw_i g u_we 12 wef, cw_l g u_lo 12 lof, cw_l g u_hi 12 hif, cw_l g u_ta 12 taf, cw_l g u_bo 12 bof, cw_k0 ch st (nI nd) c_pl c_sl c_co c_ca c_tu, cw_i g c_sl 24 slf, cw_i g c_co 24 cof, cw_l g c_ca 384 caf, cw_i g c_tu 24 tu2_7, cw_k5 st (nI na) (nI nu) kd dp cl sa ln bt pn bf, cw_l g bt 4000 bt2_8, cw_z g pn 4000 pnf] H locs := hZ
    refine lv_aload_n hx hb dX7_best_30 rfl (lv_at hl 1 rfl) ?_
    refine zz_get hC hZ 0 rfl zf_X7_42 rfl dX7_best_31 ?_
    refine zz_vV (As := []) (wc := [cw_k4 ru st (nI nr) u_so u_ju u_we u_lo u_hi u_ta u_bo, cw_i g u_ju 12 juf, cw_i g u_so 12 sof, cw_l g u_lo 12 lof, cw_l g u_ta 12 taf, cw_k5 st (nI na) (nI nu) kd dp cl sa ln bt pn bf, cw_i g kd 60 kdf, cw_i g sa 60 saf, cw_i g ln 60 lnf, cw_l g bt 4000 bt2_8]) (wr := [cw_k6 h0 st mk lk ch ru mr md la, cw_i g c_pl 24 plf, cw_i g u_we 12 wef, cw_l g u_hi 12 hif, cw_l g u_bo 12 bof, cw_k0 ch st (nI nd) c_pl c_sl c_co c_ca c_tu, cw_i g c_sl 24 slf, cw_i g c_co 24 cof, cw_l g c_ca 384 caf, cw_i g c_tu 24 tu2_7, cw_z g pn 4000 pnf]) (rest := []) hC hZ hs hl zc_X7_266 (co_measureAll g ru st u_so u_ju u_we u_lo u_hi u_ta u_bo kd dp cl sa ln bt pn bf nr na nu juf sof lof taf kdf saf lnf bt2_8 (h_R)) [1, 7, 6, 9, 11, 18, 2, 3, 4, 19] [0, 5, 8, 10, 12, 13, 14, 15, 16, 17, 20] rfl rfl (by decide +kernel) (ci := 4) (q0 := 0) rfl rfl rfl rfl (Nat.le_of_ble_eq_true rfl) ⟨⟨Nat.le_of_ble_eq_true rfl, Nat.le_of_ble_eq_true rfl⟩, Nat.le_of_ble_eq_true rfl, Nat.le_of_ble_eq_true rfl⟩ dX7_best_34 (fun u14 H locs hp hZ => ?_)
    obtain ⟨ta2_15, f16, rfl⟩ := hp
    have hZ : zz_Z g A s.heap [cw_k6 h0 st mk lk ch ru mr md la, cw_i g c_pl 24 plf, cw_i g u_we 12 wef, cw_l g u_hi 12 hif, cw_l g u_bo 12 bof, cw_k0 ch st (nI nd) c_pl c_sl c_co c_ca c_tu, cw_i g c_sl 24 slf, cw_i g c_co 24 cof, cw_l g c_ca 384 caf, cw_i g c_tu 24 tu2_7, cw_z g pn 4000 pnf, cw_k4 ru st (nI nr) u_so u_ju u_we u_lo u_hi u_ta u_bo, cw_i g u_ju 12 juf, cw_i g u_so 12 sof, cw_l g u_lo 12 lof, cw_l g u_ta 12 ta2_15, cw_k5 st (nI na) (nI nu) kd dp cl sa ln bt pn bf, cw_i g kd 60 kdf, cw_i g sa 60 saf, cw_i g ln 60 lnf, cw_l g bt 4000 bt2_8] H locs := hZ
    refine lv_aload_n hx hb dX7_best_37 rfl (lv_at hl 1 rfl) ?_
    refine zz_get hC hZ 0 rfl zf_X7_42 rfl dX7_best_38 ?_
    refine zz_lV (As := []) (wc := [cw_k4 ru st (nI nr) u_so u_ju u_we u_lo u_hi u_ta u_bo, cw_i g u_so 12 sof, cw_i g u_we 12 wef, cw_l g u_lo 12 lof, cw_l g u_hi 12 hif, cw_l g u_ta 12 ta2_15]) (wr := [cw_k6 h0 st mk lk ch ru mr md la, cw_i g c_pl 24 plf, cw_l g u_bo 12 bof, cw_k0 ch st (nI nd) c_pl c_sl c_co c_ca c_tu, cw_i g c_sl 24 slf, cw_i g c_co 24 cof, cw_l g c_ca 384 caf, cw_i g c_tu 24 tu2_7, cw_z g pn 4000 pnf, cw_i g u_ju 12 juf, cw_k5 st (nI na) (nI nu) kd dp cl sa ln bt pn bf, cw_i g kd 60 kdf, cw_i g sa 60 saf, cw_i g ln 60 lnf, cw_l g bt 4000 bt2_8]) (rest := []) hC hZ hs hl zc_X7_269 (co_total g ru st u_so u_ju u_we u_lo u_hi u_ta u_bo nr sof wef lof hif ta2_15 (by omega)) [11, 13, 2, 14, 3, 15] [0, 1, 4, 5, 6, 7, 8, 9, 10, 12, 16, 17, 18, 19, 20] rfl rfl (by decide +kernel) (ci := 4) (q0 := 0) rfl rfl rfl rfl (Nat.le_of_ble_eq_true rfl) ⟨⟨Nat.le_of_ble_eq_true rfl, Nat.le_of_ble_eq_true rfl⟩, Nat.le_of_ble_eq_true rfl, Nat.le_of_ble_eq_true rfl⟩ dX7_best_41 (fun r17 u18 H locs hp hZ => ?_)
    obtain ⟨f19, rfl⟩ := hp
    have hZ : zz_Z g A s.heap [cw_k6 h0 st mk lk ch ru mr md la, cw_i g c_pl 24 plf, cw_l g u_bo 12 bof, cw_k0 ch st (nI nd) c_pl c_sl c_co c_ca c_tu, cw_i g c_sl 24 slf, cw_i g c_co 24 cof, cw_l g c_ca 384 caf, cw_i g c_tu 24 tu2_7, cw_z g pn 4000 pnf, cw_i g u_ju 12 juf, cw_k5 st (nI na) (nI nu) kd dp cl sa ln bt pn bf, cw_i g kd 60 kdf, cw_i g sa 60 saf, cw_i g ln 60 lnf, cw_l g bt 4000 bt2_8, cw_k4 ru st (nI nr) u_so u_ju u_we u_lo u_hi u_ta u_bo, cw_i g u_so 12 sof, cw_i g u_we 12 wef, cw_l g u_lo 12 lof, cw_l g u_hi 12 hif, cw_l g u_ta 12 ta2_15] H locs := hZ
    refine lv_lstore_n (lv' := [(2, .long r17), (1, .int r1), (0, .ref h0)]) hx hb dX7_best_44 rfl hl (by decide) rfl (fun ls hl => ?_)
    refine lv_iconst (v := 0) hx hb dX7_best_45 (by decide) ?_
    refine lv_istore (lv' := [(4, .int 0), (2, .long r17), (1, .int r1), (0, .ref h0)]) hx hb dX7_best_46 hl (by decide) rfl (fun ls hl => ?_)
    refine lv_iconst (v := 1) hx hb dX7_best_48 (by decide) ?_
    refine lv_istore (lv' := [(5, .int 1), (4, .int 0), (2, .long r17), (1, .int r1), (0, .ref h0)]) hx hb dX7_best_49 hl (by decide) rfl (fun ls hl => ?_)
    have LP20 : ∀ (N : Nat) (j : Nat) (fo : Nat) (le : Int64) (tu1 : Nat → Int32) (bt1 : Nat → Int64) (ta1 : Nat → Int64) (bo1 : Nat → Int64) (H : Heap) (locs : List Loc) (ls : Array Slot), (j + 1 ≤ 5000) → (fo ≤ 5000) → (zz_TI tu1) → (∀ j, (∀ d t, d < nd → slf d = nI t → t ≤ 4000 → j ≠ t) → bt1 j = btf j) → (j + 1 ≤ zz_wy (zz_cX pnf slf cof) nd 0 1) → (∀ d, d < nd → zz_fr pnf slf cof d → tu1 d = nI (zz_dg (zz_cX pnf slf cof) nd j d)) → (bt1 = sp_tkw pnf slf cof caf nd j btf) → (∀ r, r < nr → ta1 r = zz_me sof lof kdf bt1 juf saf lnf r) → ((fo, le) = zz_ar (fun w => zz_sc sof wef juf lof hif kdf saf lnf nr (sp_tkw pnf slf cof caf nd w btf)) j) → (5000 - j) < N → zz_Z g A s.heap [cw_k6 h0 st mk lk ch ru mr md la, cw_i g c_pl 24 plf, cw_l g u_bo 12 bo1, cw_k0 ch st (nI nd) c_pl c_sl c_co c_ca c_tu, cw_i g c_sl 24 slf, cw_i g c_co 24 cof, cw_l g c_ca 384 caf, cw_i g c_tu 24 tu1, cw_z g pn 4000 pnf, cw_i g u_ju 12 juf, cw_k5 st (nI na) (nI nu) kd dp cl sa ln bt pn bf, cw_i g kd 60 kdf, cw_i g sa 60 saf, cw_i g ln 60 lnf, cw_l g bt 4000 bt1, cw_k4 ru st (nI nr) u_so u_ju u_we u_lo u_hi u_ta u_bo, cw_i g u_so 12 sof, cw_i g u_we 12 wef, cw_l g u_lo 12 lof, cw_l g u_hi 12 hif, cw_l g u_ta 12 ta1] H locs → lv_has ls 8 [(5, .int (nI (j + 1))), (4, .int (nI fo)), (2, .long le), (1, .int r1), (0, .ref h0)] → W p l e rm_cx_best s m args below meth c H locs 0 0 (zz_QI below g args s A rm_cx_best.cells rm_cx_best.slots (po_cx_best g h0 st mk lk ch ru mr kd dp cl sa ln bt pn bf c_pl c_sl c_co c_ca c_tu u_so u_ju u_we u_lo u_hi u_ta u_bo md la na nu nd nr kdf saf lnf btf pnf plf slf cof caf tuf sof juf wef lof hif taf bof dpf h_S h_C h_R h_T h_O h_J h_I)) (F0 m 51 ls []) := by
      intro N
      induction N with
      | zero =>
        intro j fo le tu1 bt1 ta1 bo1 H locs ls hi hfo hT1 hbk hiW hdg hbw hta har hN
        exact absurd hN (Nat.not_lt_zero _)
      | succ N ih =>
        intro j fo le tu1 bt1 ta1 bo1 H locs ls hi hfo hT1 hbk hiW hdg hbw hta har hN hZ hl
        refine lv_iload hx hb dX7_best_51 (lv_at hl 0 rfl) ?_
        refine lv_iload_n hx hb dX7_best_53 rfl (lv_at hl 3 rfl) ?_
        refine lv_icmp_ge (tgt := 97) hx hb dX7_best_54 (by decide) (fun c21 => ?_) (fun c21 => ?_)
        · have hWj := zl_iWy (zl_wyL _ _ _ (by omega)) f3 (by omega) c21
          refine lv_aload_n hx hb dX7_best_97 rfl (lv_at hl 4 rfl) ?_
          refine zz_get hC hZ 0 rfl zf_X7_35 rfl dX7_best_98 ?_
          refine lv_iload hx hb dX7_best_101 (lv_at hl 1 rfl) ?_
          refine zz_vV (As := [.int (nI fo)]) (wc := [cw_k0 ch st (nI nd) c_pl c_sl c_co c_ca c_tu, cw_i g c_sl 24 slf, cw_i g c_co 24 cof, cw_l g c_ca 384 caf, cw_i g c_tu 24 tu1, cw_k5 st (nI na) (nI nu) kd dp cl sa ln bt pn bf, cw_l g bt 4000 bt1, cw_z g pn 4000 pnf]) (wr := [cw_k6 h0 st mk lk ch ru mr md la, cw_i g c_pl 24 plf, cw_l g u_bo 12 bo1, cw_i g u_ju 12 juf, cw_i g kd 60 kdf, cw_i g sa 60 saf, cw_i g ln 60 lnf, cw_k4 ru st (nI nr) u_so u_ju u_we u_lo u_hi u_ta u_bo, cw_i g u_so 12 sof, cw_i g u_we 12 wef, cw_l g u_lo 12 lof, cw_l g u_hi 12 hif, cw_l g u_ta 12 ta1]) (rest := []) hC hZ hs hl zc_X7_277 (co_takeWay g ch st c_pl c_sl c_co c_ca c_tu kd dp cl sa ln bt pn bf nd na nu plf slf cof caf tu1 saf lnf bt1 pnf fo (h_C) (hT1) (by omega)) [3, 4, 5, 6, 7, 10, 14, 8] [0, 1, 2, 9, 11, 12, 13, 15, 16, 17, 18, 19, 20] rfl rfl (by decide +kernel) (ci := 0) (q0 := 0) rfl rfl rfl rfl (Nat.le_of_ble_eq_true rfl) ⟨⟨Nat.le_of_ble_eq_true rfl, Nat.le_of_ble_eq_true rfl⟩, Nat.le_of_ble_eq_true rfl, Nat.le_of_ble_eq_true rfl⟩ dX7_best_103 (fun u23 H locs hp hZ => ?_)
          obtain ⟨tu2_24, bt2_25, f26, f27, f28, f29, rfl⟩ := hp
          have hZ : zz_Z g A s.heap [cw_k6 h0 st mk lk ch ru mr md la, cw_i g c_pl 24 plf, cw_l g u_bo 12 bo1, cw_i g u_ju 12 juf, cw_i g kd 60 kdf, cw_i g sa 60 saf, cw_i g ln 60 lnf, cw_k4 ru st (nI nr) u_so u_ju u_we u_lo u_hi u_ta u_bo, cw_i g u_so 12 sof, cw_i g u_we 12 wef, cw_l g u_lo 12 lof, cw_l g u_hi 12 hif, cw_l g u_ta 12 ta1, cw_k0 ch st (nI nd) c_pl c_sl c_co c_ca c_tu, cw_i g c_sl 24 slf, cw_i g c_co 24 cof, cw_l g c_ca 384 caf, cw_i g c_tu 24 tu2_24, cw_k5 st (nI na) (nI nu) kd dp cl sa ln bt pn bf, cw_l g bt 4000 bt2_25, cw_z g pn 4000 pnf] H locs := hZ
          refine lv_aload_n hx hb dX7_best_106 rfl (lv_at hl 4 rfl) ?_
          refine lv_iload_n hx hb dX7_best_107 rfl (lv_at hl 3 rfl) ?_
          refine zz_iV (As := [.int r1]) (wc := [cw_k6 h0 st mk lk ch ru mr md la]) (wr := [cw_i g c_pl 24 plf, cw_l g u_bo 12 bo1, cw_i g u_ju 12 juf, cw_i g kd 60 kdf, cw_i g sa 60 saf, cw_i g ln 60 lnf, cw_k4 ru st (nI nr) u_so u_ju u_we u_lo u_hi u_ta u_bo, cw_i g u_so 12 sof, cw_i g u_we 12 wef, cw_l g u_lo 12 lof, cw_l g u_hi 12 hif, cw_l g u_ta 12 ta1, cw_k0 ch st (nI nd) c_pl c_sl c_co c_ca c_tu, cw_i g c_sl 24 slf, cw_i g c_co 24 cof, cw_l g c_ca 384 caf, cw_i g c_tu 24 tu2_24, cw_k5 st (nI na) (nI nu) kd dp cl sa ln bt pn bf, cw_l g bt 4000 bt2_25, cw_z g pn 4000 pnf]) (rest := []) hC hZ hs hl zc_X7_100 (co_fine g h0 st mk lk ch ru mr md la r1) [0] [1, 2, 3, 4, 5, 6, 7, 8, 9, 10, 11, 12, 13, 14, 15, 16, 17, 18, 19, 20] rfl rfl (by decide +kernel) (ci := 6) (q0 := 0) rfl rfl rfl rfl (Nat.le_of_ble_eq_true rfl) ⟨⟨Nat.le_of_ble_eq_true rfl, Nat.le_of_ble_eq_true rfl⟩, Nat.le_of_ble_eq_true rfl, Nat.le_of_ble_eq_true rfl⟩ dX7_best_108 (fun r30 u31 H locs hp hZ => ?_)
          obtain ⟨rfl, rfl⟩ := hp
          have hZ : zz_Z g A s.heap [cw_i g c_pl 24 plf, cw_l g u_bo 12 bo1, cw_i g u_ju 12 juf, cw_i g kd 60 kdf, cw_i g sa 60 saf, cw_i g ln 60 lnf, cw_k4 ru st (nI nr) u_so u_ju u_we u_lo u_hi u_ta u_bo, cw_i g u_so 12 sof, cw_i g u_we 12 wef, cw_l g u_lo 12 lof, cw_l g u_hi 12 hif, cw_l g u_ta 12 ta1, cw_k0 ch st (nI nd) c_pl c_sl c_co c_ca c_tu, cw_i g c_sl 24 slf, cw_i g c_co 24 cof, cw_l g c_ca 384 caf, cw_i g c_tu 24 tu2_24, cw_k5 st (nI na) (nI nu) kd dp cl sa ln bt pn bf, cw_l g bt 4000 bt2_25, cw_z g pn 4000 pnf, cw_k6 h0 st mk lk ch ru mr md 0] H locs := hZ
          have hZ : zz_Z g A s.heap [cw_k6 h0 st mk lk ch ru mr md 0, cw_k5 st (nI na) (nI nu) kd dp cl sa ln bt pn bf, cw_k0 ch st (nI nd) c_pl c_sl c_co c_ca c_tu, cw_k4 ru st (nI nr) u_so u_ju u_we u_lo u_hi u_ta u_bo, cw_i g kd 60 kdf, cw_i g sa 60 saf, cw_i g ln 60 lnf, cw_l g bt 4000 bt2_25, cw_z g pn 4000 pnf, cw_i g c_pl 24 plf, cw_i g c_sl 24 slf, cw_i g c_co 24 cof, cw_l g c_ca 384 caf, cw_i g c_tu 24 tu2_24, cw_i g u_so 12 sof, cw_i g u_ju 12 juf, cw_i g u_we 12 wef, cw_l g u_lo 12 lof, cw_l g u_hi 12 hif, cw_l g u_ta 12 ta1, cw_l g u_bo 12 bo1] H locs := hZ.sub [20, 17, 12, 6, 3, 4, 5, 18, 19, 0, 13, 14, 15, 16, 7, 2, 8, 9, 10, 11, 1] (by decide +kernel) rfl
          exact zz_iret hC hZ (⟨0, tu2_24, bt2_25, ta1, bo1, f26, fun j hj => (f27 j hj).trans (hbk j hj), zl_bR (zl_wyL _ _ _ (by omega)) f3 c4, by rw [if_pos (zl_W5 (zl_wyL _ _ _ (by omega)) f3 c4), f28, hbw, zl_tkk h_I (zl_c16 h_C), zl_bsE (W := zz_wy (zz_cX pnf slf cof) nd 0 1) (by omega) har], rfl⟩) (Nat.le_of_ble_eq_true rfl) (Nat.le_of_ble_eq_true rfl) dX7_best_111
        · have hi5 : j + 1 < 5000 := zl_i5 (by omega) c4 c21
          have hiW2 := zl_iWn (zl_wyL _ _ _ (by omega)) f3 (by omega) c21
          refine lv_aload_n hx hb dX7_best_57 rfl (lv_at hl 4 rfl) ?_
          refine zz_get hC hZ 0 rfl zf_X7_35 rfl dX7_best_58 ?_
          refine lv_aload_n hx hb dX7_best_61 rfl (lv_at hl 4 rfl) ?_
          refine zz_get hC hZ 0 rfl zf_X7_42 rfl dX7_best_62 ?_
          refine zz_vV (As := [.ref ru]) (wc := [cw_k0 ch st (nI nd) c_pl c_sl c_co c_ca c_tu, cw_i g c_pl 24 plf, cw_i g c_sl 24 slf, cw_i g c_co 24 cof, cw_l g c_ca 384 caf, cw_i g c_tu 24 tu1, cw_k4 ru st (nI nr) u_so u_ju u_we u_lo u_hi u_ta u_bo, cw_i g u_ju 12 juf, cw_i g u_so 12 sof, cw_l g u_lo 12 lof, cw_l g u_ta 12 ta1, cw_l g u_bo 12 bo1, cw_k5 st (nI na) (nI nu) kd dp cl sa ln bt pn bf, cw_i g kd 60 kdf, cw_i g sa 60 saf, cw_i g ln 60 lnf, cw_l g bt 4000 bt1, cw_z g pn 4000 pnf]) (wr := [cw_k6 h0 st mk lk ch ru mr md la, cw_i g u_we 12 wef, cw_l g u_hi 12 hif]) (rest := []) hC hZ hs hl zc_X7_280 (co_takeNext g ch st c_pl c_sl c_co c_ca c_tu ru u_so u_ju u_we u_lo u_hi u_ta u_bo kd dp cl sa ln bt pn bf nd nr na nu plf slf cof caf tu1 juf sof lof ta1 bo1 kdf saf lnf bt1 pnf j btf (h_C) (hT1) (h_R) (h_O) (h_J) (h_I) (hdg) (hbw) (hta)) [3, 1, 4, 5, 6, 7, 15, 9, 16, 18, 20, 2, 10, 11, 12, 13, 14, 8] [0, 17, 19] rfl rfl (by decide +kernel) (ci := 0) (q0 := 0) rfl rfl rfl rfl (Nat.le_of_ble_eq_true rfl) ⟨⟨Nat.le_of_ble_eq_true rfl, Nat.le_of_ble_eq_true rfl⟩, Nat.le_of_ble_eq_true rfl, Nat.le_of_ble_eq_true rfl⟩ dX7_best_65 (fun u33 H locs hp hZ => ?_)
          obtain ⟨tu2_34, bt2_35, ta2_36, bo2_37, f38, f39, f40, f41, f42, rfl⟩ := hp
          have hZ : zz_Z g A s.heap [cw_k6 h0 st mk lk ch ru mr md la, cw_i g u_we 12 wef, cw_l g u_hi 12 hif, cw_k0 ch st (nI nd) c_pl c_sl c_co c_ca c_tu, cw_i g c_pl 24 plf, cw_i g c_sl 24 slf, cw_i g c_co 24 cof, cw_l g c_ca 384 caf, cw_i g c_tu 24 tu2_34, cw_k4 ru st (nI nr) u_so u_ju u_we u_lo u_hi u_ta u_bo, cw_i g u_ju 12 juf, cw_i g u_so 12 sof, cw_l g u_lo 12 lof, cw_l g u_ta 12 ta2_36, cw_l g u_bo 12 bo2_37, cw_k5 st (nI na) (nI nu) kd dp cl sa ln bt pn bf, cw_i g kd 60 kdf, cw_i g sa 60 saf, cw_i g ln 60 lnf, cw_l g bt 4000 bt2_35, cw_z g pn 4000 pnf] H locs := hZ
          refine lv_aload_n hx hb dX7_best_68 rfl (lv_at hl 4 rfl) ?_
          refine zz_get hC hZ 0 rfl zf_X7_42 rfl dX7_best_69 ?_
          refine zz_lV (As := []) (wc := [cw_k4 ru st (nI nr) u_so u_ju u_we u_lo u_hi u_ta u_bo, cw_i g u_so 12 sof, cw_i g u_we 12 wef, cw_l g u_lo 12 lof, cw_l g u_hi 12 hif, cw_l g u_ta 12 ta2_36]) (wr := [cw_k6 h0 st mk lk ch ru mr md la, cw_k0 ch st (nI nd) c_pl c_sl c_co c_ca c_tu, cw_i g c_pl 24 plf, cw_i g c_sl 24 slf, cw_i g c_co 24 cof, cw_l g c_ca 384 caf, cw_i g c_tu 24 tu2_34, cw_i g u_ju 12 juf, cw_l g u_bo 12 bo2_37, cw_k5 st (nI na) (nI nu) kd dp cl sa ln bt pn bf, cw_i g kd 60 kdf, cw_i g sa 60 saf, cw_i g ln 60 lnf, cw_l g bt 4000 bt2_35, cw_z g pn 4000 pnf]) (rest := []) hC hZ hs hl zc_X7_269 (co_total g ru st u_so u_ju u_we u_lo u_hi u_ta u_bo nr sof wef lof hif ta2_36 (by omega)) [9, 11, 1, 12, 2, 13] [0, 3, 4, 5, 6, 7, 8, 10, 14, 15, 16, 17, 18, 19, 20] rfl rfl (by decide +kernel) (ci := 4) (q0 := 0) rfl rfl rfl rfl (Nat.le_of_ble_eq_true rfl) ⟨⟨Nat.le_of_ble_eq_true rfl, Nat.le_of_ble_eq_true rfl⟩, Nat.le_of_ble_eq_true rfl, Nat.le_of_ble_eq_true rfl⟩ dX7_best_72 (fun r43 u44 H locs hp hZ => ?_)
          obtain ⟨f45, rfl⟩ := hp
          have hZ : zz_Z g A s.heap [cw_k6 h0 st mk lk ch ru mr md la, cw_k0 ch st (nI nd) c_pl c_sl c_co c_ca c_tu, cw_i g c_pl 24 plf, cw_i g c_sl 24 slf, cw_i g c_co 24 cof, cw_l g c_ca 384 caf, cw_i g c_tu 24 tu2_34, cw_i g u_ju 12 juf, cw_l g u_bo 12 bo2_37, cw_k5 st (nI na) (nI nu) kd dp cl sa ln bt pn bf, cw_i g kd 60 kdf, cw_i g sa 60 saf, cw_i g ln 60 lnf, cw_l g bt 4000 bt2_35, cw_z g pn 4000 pnf, cw_k4 ru st (nI nr) u_so u_ju u_we u_lo u_hi u_ta u_bo, cw_i g u_so 12 sof, cw_i g u_we 12 wef, cw_l g u_lo 12 lof, cw_l g u_hi 12 hif, cw_l g u_ta 12 ta2_36] H locs := hZ
          refine lv_lstore (lv' := [(6, .long r43), (5, .int (nI (j + 1))), (4, .int (nI fo)), (2, .long le), (1, .int r1), (0, .ref h0)]) hx hb dX7_best_75 hl (by decide) rfl (fun ls hl => ?_)
          refine lv_lload hx hb dX7_best_77 (lv_at hl 0 rfl) ?_
          refine lv_lload_n hx hb dX7_best_79 rfl (lv_at hl 3 rfl) ?_
          refine zz_lcmp_ge (tgt := 91) hC dX7_best_80 dX7_best_81 (by decide) (fun c46 => ?_) (fun c46 => ?_)
          · refine lv_iinc (v := nI ((j + 1) + 1)) (lv' := [(5, .int (nI ((j + 1) + 1))), (6, .long r43), (4, .int (nI fo)), (2, .long le), (1, .int r1), (0, .ref h0)]) hx hb dX7_best_91 hl (k := 1) rfl (nI_1 _) (by decide) rfl (fun ls hl => ?_)
            refine lv_goto (tgt := 51) hx hb dX7_best_94 (by decide) ?_
            have eSC := f45.trans (zl_scE (we := wef) (hi := hif) f42 f41)
            exact ih (j + 1) fo le tu2_34 bt2_35 ta2_36 bo2_37 H locs ls (by omega) (by omega) (f38) (fun j hj => (f39 j hj).trans (hbk j hj)) (by omega) (f40) (f41) (f42) (zl_arF har eSC c46) (by omega) (hZ.sub [0, 2, 8, 1, 3, 4, 5, 6, 14, 7, 9, 10, 11, 12, 13, 15, 16, 17, 18, 19, 20] (by decide +kernel) rfl) (lv_sub hl [0, 2, 3, 4, 5] rfl)
          · refine lv_lload hx hb dX7_best_84 (lv_at hl 0 rfl) ?_
            refine lv_lstore_n (lv' := [(2, .long r43), (6, .long r43), (5, .int (nI (j + 1))), (4, .int (nI fo)), (1, .int r1), (0, .ref h0)]) hx hb dX7_best_86 rfl hl (by decide) rfl (fun ls hl => ?_)
            refine lv_iload hx hb dX7_best_87 (lv_at hl 2 rfl) ?_
            refine lv_istore (lv' := [(4, .int (nI (j + 1))), (2, .long r43), (6, .long r43), (5, .int (nI (j + 1))), (1, .int r1), (0, .ref h0)]) hx hb dX7_best_89 hl (by decide) rfl (fun ls hl => ?_)
            refine lv_iinc (v := nI ((j + 1) + 1)) (lv' := [(5, .int (nI ((j + 1) + 1))), (4, .int (nI (j + 1))), (2, .long r43), (6, .long r43), (1, .int r1), (0, .ref h0)]) hx hb dX7_best_91 hl (k := 3) rfl (nI_1 _) (by decide) rfl (fun ls hl => ?_)
            refine lv_goto (tgt := 51) hx hb dX7_best_94 (by decide) ?_
            have eSC := f45.trans (zl_scE (we := wef) (hi := hif) f42 f41)
            exact ih (j + 1) (j + 1) r43 tu2_34 bt2_35 ta2_36 bo2_37 H locs ls (by omega) (by omega) (f38) (fun j hj => (f39 j hj).trans (hbk j hj)) (by omega) (f40) (f41) (f42) (zl_arT har eSC c46) (by omega) (hZ.sub [0, 2, 8, 1, 3, 4, 5, 6, 14, 7, 9, 10, 11, 12, 13, 15, 16, 17, 18, 19, 20] (by decide +kernel) rfl) (lv_sub hl [0, 1, 2, 4, 5] rfl)
    exact LP20 _ 0 0 r17 tu2_7 bt2_8 ta2_15 bof H locs ls (by omega) (by omega) (f9) (f10) (zl_wy1 (zl_c16 h_C)) (f12) (f11) (fun r hr => (f16 r).trans (if_pos hr)) (Prod.ext rfl (f19.trans (zl_scE (we := wef) (hi := hif) (fun r hr => (f16 r).trans (if_pos hr)) f11))) (Nat.lt_succ_self _) hZ (lv_sub hl [0, 1, 2, 3, 4] rfl)
  · refine lv_aload_n hx hb dX7_best_15 rfl (lv_at hl 1 rfl) ?_
    refine lv_bipush (v := 8) hx hb dX7_best_16 (by decide) ?_
    refine zz_iV (As := [.int 8]) (wc := [cw_k6 h0 st mk lk ch ru mr md la]) (wr := [cw_k4 ru st (nI nr) u_so u_ju u_we u_lo u_hi u_ta u_bo, cw_i g kd 60 kdf, cw_i g sa 60 saf, cw_i g ln 60 lnf, cw_l g bt 4000 btf, cw_i g c_pl 24 plf, cw_l g c_ca 384 caf, cw_i g c_tu 24 tuf, cw_i g u_so 12 sof, cw_i g u_ju 12 juf, cw_i g u_we 12 wef, cw_l g u_lo 12 lof, cw_l g u_hi 12 hif, cw_l g u_ta 12 taf, cw_l g u_bo 12 bof, cw_k0 ch st (nI nd) c_pl c_sl c_co c_ca c_tu, cw_i g c_sl 24 slf, cw_i g c_co 24 cof, cw_k5 st (nI na) (nI nu) kd dp cl sa ln bt pn bf, cw_z g pn 4000 pnf]) (rest := []) hC hZ hs hl zc_X7_65 (co_fail g h0 st mk lk ch ru mr md la 8) [0] [1, 2, 3, 4, 5, 6, 7, 8, 9, 10, 11, 12, 13, 14, 15, 16, 17, 18, 19, 20] rfl rfl (by decide +kernel) (ci := 6) (q0 := 0) rfl rfl rfl rfl (Nat.le_of_ble_eq_true rfl) ⟨⟨Nat.le_of_ble_eq_true rfl, Nat.le_of_ble_eq_true rfl⟩, Nat.le_of_ble_eq_true rfl, Nat.le_of_ble_eq_true rfl⟩ dX7_best_18 (fun r47 u48 H locs hp hZ => ?_)
    obtain ⟨rfl, rfl⟩ := hp
    have hZ : zz_Z g A s.heap [cw_k4 ru st (nI nr) u_so u_ju u_we u_lo u_hi u_ta u_bo, cw_i g kd 60 kdf, cw_i g sa 60 saf, cw_i g ln 60 lnf, cw_l g bt 4000 btf, cw_i g c_pl 24 plf, cw_l g c_ca 384 caf, cw_i g c_tu 24 tuf, cw_i g u_so 12 sof, cw_i g u_ju 12 juf, cw_i g u_we 12 wef, cw_l g u_lo 12 lof, cw_l g u_hi 12 hif, cw_l g u_ta 12 taf, cw_l g u_bo 12 bof, cw_k0 ch st (nI nd) c_pl c_sl c_co c_ca c_tu, cw_i g c_sl 24 slf, cw_i g c_co 24 cof, cw_k5 st (nI na) (nI nu) kd dp cl sa ln bt pn bf, cw_z g pn 4000 pnf, cw_k6 h0 st mk lk ch ru mr md 8] H locs := hZ
    have hZ : zz_Z g A s.heap [cw_k6 h0 st mk lk ch ru mr md 8, cw_k5 st (nI na) (nI nu) kd dp cl sa ln bt pn bf, cw_k0 ch st (nI nd) c_pl c_sl c_co c_ca c_tu, cw_k4 ru st (nI nr) u_so u_ju u_we u_lo u_hi u_ta u_bo, cw_i g kd 60 kdf, cw_i g sa 60 saf, cw_i g ln 60 lnf, cw_l g bt 4000 btf, cw_z g pn 4000 pnf, cw_i g c_pl 24 plf, cw_i g c_sl 24 slf, cw_i g c_co 24 cof, cw_l g c_ca 384 caf, cw_i g c_tu 24 tuf, cw_i g u_so 12 sof, cw_i g u_ju 12 juf, cw_i g u_we 12 wef, cw_l g u_lo 12 lof, cw_l g u_hi 12 hif, cw_l g u_ta 12 taf, cw_l g u_bo 12 bof] H locs := hZ.sub [20, 18, 15, 0, 1, 2, 3, 4, 19, 5, 16, 17, 6, 7, 8, 9, 10, 11, 12, 13, 14] (by decide +kernel) rfl
    exact zz_iret hC hZ (⟨8, tuf, btf, taf, bof, h_T, fun _ _ => rfl, zl_bR8 (zl_wyL _ _ _ (by omega)) f3 c4, by rw [if_neg (zl_W5n (zl_wyL _ _ _ (by omega)) f3 c4)], rfl⟩) (Nat.le_of_ble_eq_true rfl) (Nat.le_of_ble_eq_true rfl) dX7_best_21
theorem dg_X7_count_0 : (decode cX7_count 0 = .ok (.iload_n 1, 1)) ∧ (decode cX7_count 1 = .ok (.tableswitch 108 0 5 #[39, 51, 63, 75, 87, 96], 39)) ∧ (decode cX7_count 40 = .ok (.aload_n 0, 1)) ∧ (decode cX7_count 41 = .ok (.aload_n 0, 1)) ∧ (decode cX7_count 42 = .ok (.getfield 10, 3)) ∧ (decode cX7_count 45 = .ok (.getfield 163, 3)) ∧ (decode cX7_count 48 = .ok (.invokevirtual 100, 3)) ∧ (decode cX7_count 51 = .ok (.ireturn, 1)) ∧ (decode cX7_count 52 = .ok (.aload_n 0, 1)) ∧ (decode cX7_count 53 = .ok (.aload_n 0, 1)) ∧ (decode cX7_count 54 = .ok (.getfield 10, 3)) ∧ (decode cX7_count 57 = .ok (.getfield 291, 3)) ∧ (decode cX7_count 60 = .ok (.invokevirtual 100, 3)) ∧ (decode cX7_count 63 = .ok (.ireturn, 1)) ∧ (decode cX7_count 64 = .ok (.aload_n 0, 1)) ∧ (decode cX7_count 65 = .ok (.aload_n 0, 1)) := by decide +kernel
theorem dX7_count_0 : decode cX7_count 0 = .ok (.iload_n 1, 1) := dg_X7_count_0.1
theorem dX7_count_1 : decode cX7_count 1 = .ok (.tableswitch 108 0 5 #[39, 51, 63, 75, 87, 96], 39) := dg_X7_count_0.2.1
theorem dX7_count_40 : decode cX7_count 40 = .ok (.aload_n 0, 1) := dg_X7_count_0.2.2.1
theorem dX7_count_41 : decode cX7_count 41 = .ok (.aload_n 0, 1) := dg_X7_count_0.2.2.2.1
theorem dX7_count_42 : decode cX7_count 42 = .ok (.getfield 10, 3) := dg_X7_count_0.2.2.2.2.1
theorem dX7_count_45 : decode cX7_count 45 = .ok (.getfield 163, 3) := dg_X7_count_0.2.2.2.2.2.1
theorem dX7_count_48 : decode cX7_count 48 = .ok (.invokevirtual 100, 3) := dg_X7_count_0.2.2.2.2.2.2.1
theorem dX7_count_51 : decode cX7_count 51 = .ok (.ireturn, 1) := dg_X7_count_0.2.2.2.2.2.2.2.1
theorem dX7_count_52 : decode cX7_count 52 = .ok (.aload_n 0, 1) := dg_X7_count_0.2.2.2.2.2.2.2.2.1
theorem dX7_count_53 : decode cX7_count 53 = .ok (.aload_n 0, 1) := dg_X7_count_0.2.2.2.2.2.2.2.2.2.1
theorem dX7_count_54 : decode cX7_count 54 = .ok (.getfield 10, 3) := dg_X7_count_0.2.2.2.2.2.2.2.2.2.2.1
theorem dX7_count_57 : decode cX7_count 57 = .ok (.getfield 291, 3) := dg_X7_count_0.2.2.2.2.2.2.2.2.2.2.2.1
theorem dX7_count_60 : decode cX7_count 60 = .ok (.invokevirtual 100, 3) := dg_X7_count_0.2.2.2.2.2.2.2.2.2.2.2.2.1
theorem dX7_count_63 : decode cX7_count 63 = .ok (.ireturn, 1) := dg_X7_count_0.2.2.2.2.2.2.2.2.2.2.2.2.2.1
theorem dX7_count_64 : decode cX7_count 64 = .ok (.aload_n 0, 1) := dg_X7_count_0.2.2.2.2.2.2.2.2.2.2.2.2.2.2.1
theorem dX7_count_65 : decode cX7_count 65 = .ok (.aload_n 0, 1) := dg_X7_count_0.2.2.2.2.2.2.2.2.2.2.2.2.2.2.2
theorem dg_X7_count_66 : (decode cX7_count 66 = .ok (.getfield 35, 3)) ∧ (decode cX7_count 69 = .ok (.getfield 212, 3)) ∧ (decode cX7_count 72 = .ok (.invokevirtual 100, 3)) ∧ (decode cX7_count 75 = .ok (.ireturn, 1)) ∧ (decode cX7_count 76 = .ok (.aload_n 0, 1)) ∧ (decode cX7_count 77 = .ok (.aload_n 0, 1)) ∧ (decode cX7_count 78 = .ok (.getfield 42, 3)) ∧ (decode cX7_count 81 = .ok (.getfield 255, 3)) ∧ (decode cX7_count 84 = .ok (.invokevirtual 100, 3)) ∧ (decode cX7_count 87 = .ok (.ireturn, 1)) ∧ (decode cX7_count 88 = .ok (.aload_n 0, 1)) ∧ (decode cX7_count 89 = .ok (.aload_n 0, 1)) ∧ (decode cX7_count 90 = .ok (.getfield 52, 3)) ∧ (decode cX7_count 93 = .ok (.invokevirtual 100, 3)) ∧ (decode cX7_count 96 = .ok (.ireturn, 1)) ∧ (decode cX7_count 97 = .ok (.aload_n 0, 1)) := by decide +kernel
theorem dX7_count_66 : decode cX7_count 66 = .ok (.getfield 35, 3) := dg_X7_count_66.1
theorem dX7_count_69 : decode cX7_count 69 = .ok (.getfield 212, 3) := dg_X7_count_66.2.1
theorem dX7_count_72 : decode cX7_count 72 = .ok (.invokevirtual 100, 3) := dg_X7_count_66.2.2.1
theorem dX7_count_75 : decode cX7_count 75 = .ok (.ireturn, 1) := dg_X7_count_66.2.2.2.1
theorem dX7_count_76 : decode cX7_count 76 = .ok (.aload_n 0, 1) := dg_X7_count_66.2.2.2.2.1
theorem dX7_count_77 : decode cX7_count 77 = .ok (.aload_n 0, 1) := dg_X7_count_66.2.2.2.2.2.1
theorem dX7_count_78 : decode cX7_count 78 = .ok (.getfield 42, 3) := dg_X7_count_66.2.2.2.2.2.2.1
theorem dX7_count_81 : decode cX7_count 81 = .ok (.getfield 255, 3) := dg_X7_count_66.2.2.2.2.2.2.2.1
theorem dX7_count_84 : decode cX7_count 84 = .ok (.invokevirtual 100, 3) := dg_X7_count_66.2.2.2.2.2.2.2.2.1
theorem dX7_count_87 : decode cX7_count 87 = .ok (.ireturn, 1) := dg_X7_count_66.2.2.2.2.2.2.2.2.2.1
theorem dX7_count_88 : decode cX7_count 88 = .ok (.aload_n 0, 1) := dg_X7_count_66.2.2.2.2.2.2.2.2.2.2.1
theorem dX7_count_89 : decode cX7_count 89 = .ok (.aload_n 0, 1) := dg_X7_count_66.2.2.2.2.2.2.2.2.2.2.2.1
theorem dX7_count_90 : decode cX7_count 90 = .ok (.getfield 52, 3) := dg_X7_count_66.2.2.2.2.2.2.2.2.2.2.2.2.1
theorem dX7_count_93 : decode cX7_count 93 = .ok (.invokevirtual 100, 3) := dg_X7_count_66.2.2.2.2.2.2.2.2.2.2.2.2.2.1
theorem dX7_count_96 : decode cX7_count 96 = .ok (.ireturn, 1) := dg_X7_count_66.2.2.2.2.2.2.2.2.2.2.2.2.2.2.1
theorem dX7_count_97 : decode cX7_count 97 = .ok (.aload_n 0, 1) := dg_X7_count_66.2.2.2.2.2.2.2.2.2.2.2.2.2.2.2
theorem dg_X7_count_98 : (decode cX7_count 98 = .ok (.aload_n 0, 1)) ∧ (decode cX7_count 99 = .ok (.getfield 35, 3)) ∧ (decode cX7_count 102 = .ok (.invokevirtual 273, 3)) ∧ (decode cX7_count 105 = .ok (.invokevirtual 100, 3)) ∧ (decode cX7_count 108 = .ok (.ireturn, 1)) ∧ (decode cX7_count 109 = .ok (.aload_n 0, 1)) ∧ (decode cX7_count 110 = .ok (.bipush 9, 2)) ∧ (decode cX7_count 112 = .ok (.invokevirtual 65, 3)) ∧ (decode cX7_count 115 = .ok (.ireturn, 1)) := by decide +kernel
theorem dX7_count_98 : decode cX7_count 98 = .ok (.aload_n 0, 1) := dg_X7_count_98.1
theorem dX7_count_99 : decode cX7_count 99 = .ok (.getfield 35, 3) := dg_X7_count_98.2.1
theorem dX7_count_102 : decode cX7_count 102 = .ok (.invokevirtual 273, 3) := dg_X7_count_98.2.2.1
theorem dX7_count_105 : decode cX7_count 105 = .ok (.invokevirtual 100, 3) := dg_X7_count_98.2.2.2.1
theorem dX7_count_108 : decode cX7_count 108 = .ok (.ireturn, 1) := dg_X7_count_98.2.2.2.2.1
theorem dX7_count_109 : decode cX7_count 109 = .ok (.aload_n 0, 1) := dg_X7_count_98.2.2.2.2.2.1
theorem dX7_count_110 : decode cX7_count 110 = .ok (.bipush 9, 2) := dg_X7_count_98.2.2.2.2.2.2.1
theorem dX7_count_112 : decode cX7_count 112 = .ok (.invokevirtual 65, 3) := dg_X7_count_98.2.2.2.2.2.2.2.1
theorem dX7_count_115 : decode cX7_count 115 = .ok (.ireturn, 1) := dg_X7_count_98.2.2.2.2.2.2.2.2
theorem zk_30 : Cond.fieldLink RX7 291 RX6 "used" "I" ∈ zz_w := zz_in (List.mem_append_right _ (List.mem_append_left _ (List.mem_of_getElem? (i := 30) (by decide +kernel)))) rfl
theorem zf_X7_291 : zz_f RX7 291 5 1 := ⟨RX6, TX6, 10, rfl, zi_X6, by decide, zk_30⟩
theorem zf_X7_52 : zz_f RX7 52 6 6 := ⟨RX7, TX7, 8, rfl, zi_X7, by decide, zk_206⟩
def fn_cx_count (md : Int32) (na : Nat) (nu : Nat) (nd : Nat) (nr : Nat) (slf : Nat → Int32) (cof : Nat → Int32) (pnf : Nat → Int32) (x1 : Int32) : Int32 := (if x1 = nI 0 then (nI na) else (if x1 = nI 1 then (nI nu) else (if x1 = nI 2 then (nI nd) else (if x1 = nI 3 then (nI nr) else (if x1 = nI 4 then md else (if x1 = nI 5 then (nI (zz_wy (zz_cX pnf slf cof) nd 0 1)) else -9))))))
abbrev rm_cx_count : Room := { frames := 2, cells := 0, slots := 0, locals := 43 }
abbrev po_cx_count (g : zz_G) (h0 : Nat) (st : Nat) (mk : Nat) (lk : Nat) (ch : Nat) (ru : Nat) (mr : Nat) (kd : Nat) (dp : Nat) (cl : Nat) (sa : Nat) (ln : Nat) (bt : Nat) (pn : Nat) (bf : Nat) (c_pl : Nat) (c_sl : Nat) (c_co : Nat) (c_ca : Nat) (c_tu : Nat) (u_so : Nat) (u_ju : Nat) (u_we : Nat) (u_lo : Nat) (u_hi : Nat) (u_ta : Nat) (u_bo : Nat) (md : Int32) (la : Int32) (na : Nat) (nu : Nat) (nd : Nat) (nr : Nat) (slf : Nat → Int32) (cof : Nat → Int32) (pnf : Nat → Int32) (dpf : Nat → Int32) (saf : Nat → Int32) (lnf : Nat → Int32) (plf : Nat → Int32) (x1 : Int32) (h_S : zz_SI na nu dpf saf lnf) (h_C : zz_CI na nd saf lnf plf slf cof) : Int32 → va_W → Prop := fun (r : Int32) (u : va_W) => ∃ (la2 : Int32), r = fn_cx_count md na nu nd nr slf cof pnf x1 ∧ u = [cw_k6 h0 st mk lk ch ru mr md la2, cw_k5 st (nI na) (nI nu) kd dp cl sa ln bt pn bf, cw_k0 ch st (nI nd) c_pl c_sl c_co c_ca c_tu, cw_k4 ru st (nI nr) u_so u_ju u_we u_lo u_hi u_ta u_bo, cw_i g c_sl 24 slf, cw_i g c_co 24 cof, cw_z g pn 4000 pnf]
set_option maxHeartbeats 4000000 in
set_option maxRecDepth 100000 in
theorem cx_count (g : zz_G) (h0 : Nat) (st : Nat) (mk : Nat) (lk : Nat) (ch : Nat) (ru : Nat) (mr : Nat) (kd : Nat) (dp : Nat) (cl : Nat) (sa : Nat) (ln : Nat) (bt : Nat) (pn : Nat) (bf : Nat) (c_pl : Nat) (c_sl : Nat) (c_co : Nat) (c_ca : Nat) (c_tu : Nat) (u_so : Nat) (u_ju : Nat) (u_we : Nat) (u_lo : Nat) (u_hi : Nat) (u_ta : Nat) (u_bo : Nat) (md : Int32) (la : Int32) (na : Nat) (nu : Nat) (nd : Nat) (nr : Nat) (slf : Nat → Int32) (cof : Nat → Int32) (pnf : Nat → Int32) (dpf : Nat → Int32) (saf : Nat → Int32) (lnf : Nat → Int32) (plf : Nat → Int32) (x1 : Int32) (h_S : zz_SI na nu dpf saf lnf) (h_C : zz_CI na nd saf lnf plf slf cof) : zz_I g yX7_count (.code yX7_count cX7_count 2 (some .int)) rm_cx_count [.ref h0, .int x1] [cw_k6 h0 st mk lk ch ru mr md la, cw_k5 st (nI na) (nI nu) kd dp cl sa ln bt pn bf, cw_k0 ch st (nI nd) c_pl c_sl c_co c_ca c_tu, cw_k4 ru st (nI nr) u_so u_ju u_we u_lo u_hi u_ta u_bo, cw_i g c_sl 24 slf, cw_i g c_co 24 cof, cw_z g pn 4000 pnf] (po_cx_count g h0 st mk lk ch ru mr kd dp cl sa ln bt pn bf c_pl c_sl c_co c_ca c_tu u_so u_ju u_we u_lo u_hi u_ta u_bo md la na nu nd nr slf cof pnf dpf saf lnf plf x1 h_S h_C) := by
  refine zz_I.intro (own := RX7) (cc := cX7_count) (nL := 2) (by decide) rfl (Nat.le_of_ble_eq_true rfl) ?_
  intro p l e s m args below meth c A H locs ls hC hnm hs hZ hl
  obtain ⟨hx, hb, hml, hown, hts, hr, hlocks, hK⟩ := id hC
  have hl : lv_has ls 2 [(0, .ref h0), (1, .int x1)] := hl
  have hZ : zz_Z g A s.heap [cw_k6 h0 st mk lk ch ru mr md la, cw_k5 st (nI na) (nI nu) kd dp cl sa ln bt pn bf, cw_k0 ch st (nI nd) c_pl c_sl c_co c_ca c_tu, cw_k4 ru st (nI nr) u_so u_ju u_we u_lo u_hi u_ta u_bo, cw_i g c_sl 24 slf, cw_i g c_co 24 cof, cw_z g pn 4000 pnf] H locs := hZ
  have hna := h_S.1
  have hnu := h_S.2.1
  have hd24 := h_C.1
  refine lv_iload_n hx hb dX7_count_0 rfl (lv_at hl 1 rfl) ?_
  rcases zz_sw x1 6 (by decide) with c1 | ⟨k_, hk_, c1⟩
  · refine lv_tableOut (tgt := 109) hx hb dX7_count_1 (by rcases c1 with q | q; exact Or.inl (by omega); exact Or.inr (by omega)) (by decide) ?_
    refine lv_aload_n hx hb dX7_count_109 rfl (lv_at hl 0 rfl) ?_
    refine lv_bipush (v := 9) hx hb dX7_count_110 (by decide) ?_
    refine zz_iV (As := [.int 9]) (wc := [cw_k6 h0 st mk lk ch ru mr md la]) (wr := [cw_k5 st (nI na) (nI nu) kd dp cl sa ln bt pn bf, cw_k0 ch st (nI nd) c_pl c_sl c_co c_ca c_tu, cw_k4 ru st (nI nr) u_so u_ju u_we u_lo u_hi u_ta u_bo, cw_i g c_sl 24 slf, cw_i g c_co 24 cof, cw_z g pn 4000 pnf]) (rest := []) hC hZ hs hl zc_X7_65 (co_fail g h0 st mk lk ch ru mr md la 9) [0] [1, 2, 3, 4, 5, 6] rfl rfl (by decide +kernel) (ci := 6) (q0 := 0) rfl rfl rfl rfl (Nat.le_of_ble_eq_true rfl) ⟨⟨Nat.le_of_ble_eq_true rfl, Nat.le_of_ble_eq_true rfl⟩, Nat.le_of_ble_eq_true rfl, Nat.le_of_ble_eq_true rfl⟩ dX7_count_112 (fun r2 u3 H locs hp hZ => ?_)
    obtain ⟨rfl, rfl⟩ := hp
    have hZ : zz_Z g A s.heap [cw_k5 st (nI na) (nI nu) kd dp cl sa ln bt pn bf, cw_k0 ch st (nI nd) c_pl c_sl c_co c_ca c_tu, cw_k4 ru st (nI nr) u_so u_ju u_we u_lo u_hi u_ta u_bo, cw_i g c_sl 24 slf, cw_i g c_co 24 cof, cw_z g pn 4000 pnf, cw_k6 h0 st mk lk ch ru mr md 9] H locs := hZ
    have hZ : zz_Z g A s.heap [cw_k6 h0 st mk lk ch ru mr md 9, cw_k5 st (nI na) (nI nu) kd dp cl sa ln bt pn bf, cw_k0 ch st (nI nd) c_pl c_sl c_co c_ca c_tu, cw_k4 ru st (nI nr) u_so u_ju u_we u_lo u_hi u_ta u_bo, cw_i g c_sl 24 slf, cw_i g c_co 24 cof, cw_z g pn 4000 pnf] H locs := hZ.sub [6, 0, 1, 2, 3, 4, 5] (by decide +kernel) rfl
    exact zz_iret hC hZ (⟨9, by show _ = _; rw [fn_cx_count]; rw [if_neg (zl_swo c1 0 (by decide) (by decide)), if_neg (zl_swo c1 1 (by decide) (by decide)), if_neg (zl_swo c1 2 (by decide) (by decide)), if_neg (zl_swo c1 3 (by decide) (by decide)), if_neg (zl_swo c1 4 (by decide) (by decide)), if_neg (zl_swo c1 5 (by decide) (by decide))], rfl⟩) (Nat.le_of_ble_eq_true rfl) (Nat.le_of_ble_eq_true rfl) dX7_count_115
  · refine zz_topi c1 ?_
    rcases (show k_ = 0 ∨ k_ = 1 ∨ k_ = 2 ∨ k_ = 3 ∨ k_ = 4 ∨ k_ = 5 by omega) with rfl | rfl | rfl | rfl | rfl | rfl
    · refine lv_tableIn (tgt := 40) (off := 39) hx hb dX7_count_1 (by decide) (by decide) (by decide) (by decide) ?_
      refine lv_aload_n hx hb dX7_count_40 rfl (lv_at hl 0 rfl) ?_
      refine lv_aload_n hx hb dX7_count_41 rfl (lv_at hl 0 rfl) ?_
      refine zz_get hC hZ 0 rfl zf_X7_10 rfl dX7_count_42 ?_
      refine zz_get hC hZ 1 rfl zf_X7_163 rfl dX7_count_45 ?_
      refine zz_iV (As := [.int (nI na)]) (wc := [cw_k6 h0 st mk lk ch ru mr md la]) (wr := [cw_k5 st (nI na) (nI nu) kd dp cl sa ln bt pn bf, cw_k0 ch st (nI nd) c_pl c_sl c_co c_ca c_tu, cw_k4 ru st (nI nr) u_so u_ju u_we u_lo u_hi u_ta u_bo, cw_i g c_sl 24 slf, cw_i g c_co 24 cof, cw_z g pn 4000 pnf]) (rest := []) hC hZ hs hl zc_X7_100 (co_fine g h0 st mk lk ch ru mr md la (nI na)) [0] [1, 2, 3, 4, 5, 6] rfl rfl (by decide +kernel) (ci := 6) (q0 := 0) rfl rfl rfl rfl (Nat.le_of_ble_eq_true rfl) ⟨⟨Nat.le_of_ble_eq_true rfl, Nat.le_of_ble_eq_true rfl⟩, Nat.le_of_ble_eq_true rfl, Nat.le_of_ble_eq_true rfl⟩ dX7_count_48 (fun r4 u5 H locs hp hZ => ?_)
      obtain ⟨rfl, rfl⟩ := hp
      have hZ : zz_Z g A s.heap [cw_k5 st (nI na) (nI nu) kd dp cl sa ln bt pn bf, cw_k0 ch st (nI nd) c_pl c_sl c_co c_ca c_tu, cw_k4 ru st (nI nr) u_so u_ju u_we u_lo u_hi u_ta u_bo, cw_i g c_sl 24 slf, cw_i g c_co 24 cof, cw_z g pn 4000 pnf, cw_k6 h0 st mk lk ch ru mr md 0] H locs := hZ
      have hZ : zz_Z g A s.heap [cw_k6 h0 st mk lk ch ru mr md 0, cw_k5 st (nI na) (nI nu) kd dp cl sa ln bt pn bf, cw_k0 ch st (nI nd) c_pl c_sl c_co c_ca c_tu, cw_k4 ru st (nI nr) u_so u_ju u_we u_lo u_hi u_ta u_bo, cw_i g c_sl 24 slf, cw_i g c_co 24 cof, cw_z g pn 4000 pnf] H locs := hZ.sub [6, 0, 1, 2, 3, 4, 5] (by decide +kernel) rfl
      exact zz_iret hC hZ (⟨0, by show _ = _; rw [fn_cx_count]; rw [if_pos c1], rfl⟩) (Nat.le_of_ble_eq_true rfl) (Nat.le_of_ble_eq_true rfl) dX7_count_51
    · refine lv_tableIn (tgt := 52) (off := 51) hx hb dX7_count_1 (by decide) (by decide) (by decide) (by decide) ?_
      refine lv_aload_n hx hb dX7_count_52 rfl (lv_at hl 0 rfl) ?_
      refine lv_aload_n hx hb dX7_count_53 rfl (lv_at hl 0 rfl) ?_
      refine zz_get hC hZ 0 rfl zf_X7_10 rfl dX7_count_54 ?_
      refine zz_get hC hZ 1 rfl zf_X7_291 rfl dX7_count_57 ?_
      refine zz_iV (As := [.int (nI nu)]) (wc := [cw_k6 h0 st mk lk ch ru mr md la]) (wr := [cw_k5 st (nI na) (nI nu) kd dp cl sa ln bt pn bf, cw_k0 ch st (nI nd) c_pl c_sl c_co c_ca c_tu, cw_k4 ru st (nI nr) u_so u_ju u_we u_lo u_hi u_ta u_bo, cw_i g c_sl 24 slf, cw_i g c_co 24 cof, cw_z g pn 4000 pnf]) (rest := []) hC hZ hs hl zc_X7_100 (co_fine g h0 st mk lk ch ru mr md la (nI nu)) [0] [1, 2, 3, 4, 5, 6] rfl rfl (by decide +kernel) (ci := 6) (q0 := 0) rfl rfl rfl rfl (Nat.le_of_ble_eq_true rfl) ⟨⟨Nat.le_of_ble_eq_true rfl, Nat.le_of_ble_eq_true rfl⟩, Nat.le_of_ble_eq_true rfl, Nat.le_of_ble_eq_true rfl⟩ dX7_count_60 (fun r6 u7 H locs hp hZ => ?_)
      obtain ⟨rfl, rfl⟩ := hp
      have hZ : zz_Z g A s.heap [cw_k5 st (nI na) (nI nu) kd dp cl sa ln bt pn bf, cw_k0 ch st (nI nd) c_pl c_sl c_co c_ca c_tu, cw_k4 ru st (nI nr) u_so u_ju u_we u_lo u_hi u_ta u_bo, cw_i g c_sl 24 slf, cw_i g c_co 24 cof, cw_z g pn 4000 pnf, cw_k6 h0 st mk lk ch ru mr md 0] H locs := hZ
      have hZ : zz_Z g A s.heap [cw_k6 h0 st mk lk ch ru mr md 0, cw_k5 st (nI na) (nI nu) kd dp cl sa ln bt pn bf, cw_k0 ch st (nI nd) c_pl c_sl c_co c_ca c_tu, cw_k4 ru st (nI nr) u_so u_ju u_we u_lo u_hi u_ta u_bo, cw_i g c_sl 24 slf, cw_i g c_co 24 cof, cw_z g pn 4000 pnf] H locs := hZ.sub [6, 0, 1, 2, 3, 4, 5] (by decide +kernel) rfl
      exact zz_iret hC hZ (⟨0, by show _ = _; rw [fn_cx_count]; rw [if_neg (show ¬ (x1 = nI 0) by rw [c1]; decide), if_pos c1], rfl⟩) (Nat.le_of_ble_eq_true rfl) (Nat.le_of_ble_eq_true rfl) dX7_count_63
    · refine lv_tableIn (tgt := 64) (off := 63) hx hb dX7_count_1 (by decide) (by decide) (by decide) (by decide) ?_
      refine lv_aload_n hx hb dX7_count_64 rfl (lv_at hl 0 rfl) ?_
      refine lv_aload_n hx hb dX7_count_65 rfl (lv_at hl 0 rfl) ?_
      refine zz_get hC hZ 0 rfl zf_X7_35 rfl dX7_count_66 ?_
      refine zz_get hC hZ 2 rfl zf_X7_212 rfl dX7_count_69 ?_
      refine zz_iV (As := [.int (nI nd)]) (wc := [cw_k6 h0 st mk lk ch ru mr md la]) (wr := [cw_k5 st (nI na) (nI nu) kd dp cl sa ln bt pn bf, cw_k0 ch st (nI nd) c_pl c_sl c_co c_ca c_tu, cw_k4 ru st (nI nr) u_so u_ju u_we u_lo u_hi u_ta u_bo, cw_i g c_sl 24 slf, cw_i g c_co 24 cof, cw_z g pn 4000 pnf]) (rest := []) hC hZ hs hl zc_X7_100 (co_fine g h0 st mk lk ch ru mr md la (nI nd)) [0] [1, 2, 3, 4, 5, 6] rfl rfl (by decide +kernel) (ci := 6) (q0 := 0) rfl rfl rfl rfl (Nat.le_of_ble_eq_true rfl) ⟨⟨Nat.le_of_ble_eq_true rfl, Nat.le_of_ble_eq_true rfl⟩, Nat.le_of_ble_eq_true rfl, Nat.le_of_ble_eq_true rfl⟩ dX7_count_72 (fun r8 u9 H locs hp hZ => ?_)
      obtain ⟨rfl, rfl⟩ := hp
      have hZ : zz_Z g A s.heap [cw_k5 st (nI na) (nI nu) kd dp cl sa ln bt pn bf, cw_k0 ch st (nI nd) c_pl c_sl c_co c_ca c_tu, cw_k4 ru st (nI nr) u_so u_ju u_we u_lo u_hi u_ta u_bo, cw_i g c_sl 24 slf, cw_i g c_co 24 cof, cw_z g pn 4000 pnf, cw_k6 h0 st mk lk ch ru mr md 0] H locs := hZ
      have hZ : zz_Z g A s.heap [cw_k6 h0 st mk lk ch ru mr md 0, cw_k5 st (nI na) (nI nu) kd dp cl sa ln bt pn bf, cw_k0 ch st (nI nd) c_pl c_sl c_co c_ca c_tu, cw_k4 ru st (nI nr) u_so u_ju u_we u_lo u_hi u_ta u_bo, cw_i g c_sl 24 slf, cw_i g c_co 24 cof, cw_z g pn 4000 pnf] H locs := hZ.sub [6, 0, 1, 2, 3, 4, 5] (by decide +kernel) rfl
      exact zz_iret hC hZ (⟨0, by show _ = _; rw [fn_cx_count]; rw [if_neg (show ¬ (x1 = nI 0) by rw [c1]; decide), if_neg (show ¬ (x1 = nI 1) by rw [c1]; decide), if_pos c1], rfl⟩) (Nat.le_of_ble_eq_true rfl) (Nat.le_of_ble_eq_true rfl) dX7_count_75
    · refine lv_tableIn (tgt := 76) (off := 75) hx hb dX7_count_1 (by decide) (by decide) (by decide) (by decide) ?_
      refine lv_aload_n hx hb dX7_count_76 rfl (lv_at hl 0 rfl) ?_
      refine lv_aload_n hx hb dX7_count_77 rfl (lv_at hl 0 rfl) ?_
      refine zz_get hC hZ 0 rfl zf_X7_42 rfl dX7_count_78 ?_
      refine zz_get hC hZ 3 rfl zf_X7_255 rfl dX7_count_81 ?_
      refine zz_iV (As := [.int (nI nr)]) (wc := [cw_k6 h0 st mk lk ch ru mr md la]) (wr := [cw_k5 st (nI na) (nI nu) kd dp cl sa ln bt pn bf, cw_k0 ch st (nI nd) c_pl c_sl c_co c_ca c_tu, cw_k4 ru st (nI nr) u_so u_ju u_we u_lo u_hi u_ta u_bo, cw_i g c_sl 24 slf, cw_i g c_co 24 cof, cw_z g pn 4000 pnf]) (rest := []) hC hZ hs hl zc_X7_100 (co_fine g h0 st mk lk ch ru mr md la (nI nr)) [0] [1, 2, 3, 4, 5, 6] rfl rfl (by decide +kernel) (ci := 6) (q0 := 0) rfl rfl rfl rfl (Nat.le_of_ble_eq_true rfl) ⟨⟨Nat.le_of_ble_eq_true rfl, Nat.le_of_ble_eq_true rfl⟩, Nat.le_of_ble_eq_true rfl, Nat.le_of_ble_eq_true rfl⟩ dX7_count_84 (fun r10 u11 H locs hp hZ => ?_)
      obtain ⟨rfl, rfl⟩ := hp
      have hZ : zz_Z g A s.heap [cw_k5 st (nI na) (nI nu) kd dp cl sa ln bt pn bf, cw_k0 ch st (nI nd) c_pl c_sl c_co c_ca c_tu, cw_k4 ru st (nI nr) u_so u_ju u_we u_lo u_hi u_ta u_bo, cw_i g c_sl 24 slf, cw_i g c_co 24 cof, cw_z g pn 4000 pnf, cw_k6 h0 st mk lk ch ru mr md 0] H locs := hZ
      have hZ : zz_Z g A s.heap [cw_k6 h0 st mk lk ch ru mr md 0, cw_k5 st (nI na) (nI nu) kd dp cl sa ln bt pn bf, cw_k0 ch st (nI nd) c_pl c_sl c_co c_ca c_tu, cw_k4 ru st (nI nr) u_so u_ju u_we u_lo u_hi u_ta u_bo, cw_i g c_sl 24 slf, cw_i g c_co 24 cof, cw_z g pn 4000 pnf] H locs := hZ.sub [6, 0, 1, 2, 3, 4, 5] (by decide +kernel) rfl
      exact zz_iret hC hZ (⟨0, by show _ = _; rw [fn_cx_count]; rw [if_neg (show ¬ (x1 = nI 0) by rw [c1]; decide), if_neg (show ¬ (x1 = nI 1) by rw [c1]; decide), if_neg (show ¬ (x1 = nI 2) by rw [c1]; decide), if_pos c1], rfl⟩) (Nat.le_of_ble_eq_true rfl) (Nat.le_of_ble_eq_true rfl) dX7_count_87
    · refine lv_tableIn (tgt := 88) (off := 87) hx hb dX7_count_1 (by decide) (by decide) (by decide) (by decide) ?_
      refine lv_aload_n hx hb dX7_count_88 rfl (lv_at hl 0 rfl) ?_
      refine lv_aload_n hx hb dX7_count_89 rfl (lv_at hl 0 rfl) ?_
      refine zz_get hC hZ 0 rfl zf_X7_52 rfl dX7_count_90 ?_
      refine zz_iV (As := [.int md]) (wc := [cw_k6 h0 st mk lk ch ru mr md la]) (wr := [cw_k5 st (nI na) (nI nu) kd dp cl sa ln bt pn bf, cw_k0 ch st (nI nd) c_pl c_sl c_co c_ca c_tu, cw_k4 ru st (nI nr) u_so u_ju u_we u_lo u_hi u_ta u_bo, cw_i g c_sl 24 slf, cw_i g c_co 24 cof, cw_z g pn 4000 pnf]) (rest := []) hC hZ hs hl zc_X7_100 (co_fine g h0 st mk lk ch ru mr md la md) [0] [1, 2, 3, 4, 5, 6] rfl rfl (by decide +kernel) (ci := 6) (q0 := 0) rfl rfl rfl rfl (Nat.le_of_ble_eq_true rfl) ⟨⟨Nat.le_of_ble_eq_true rfl, Nat.le_of_ble_eq_true rfl⟩, Nat.le_of_ble_eq_true rfl, Nat.le_of_ble_eq_true rfl⟩ dX7_count_93 (fun r12 u13 H locs hp hZ => ?_)
      obtain ⟨hr14, rfl⟩ := hp
      have hZ : zz_Z g A s.heap [cw_k5 st (nI na) (nI nu) kd dp cl sa ln bt pn bf, cw_k0 ch st (nI nd) c_pl c_sl c_co c_ca c_tu, cw_k4 ru st (nI nr) u_so u_ju u_we u_lo u_hi u_ta u_bo, cw_i g c_sl 24 slf, cw_i g c_co 24 cof, cw_z g pn 4000 pnf, cw_k6 h0 st mk lk ch ru mr md 0] H locs := hZ
      refine zz_topi hr14 ?_
      have hZ : zz_Z g A s.heap [cw_k6 h0 st mk lk ch ru mr md 0, cw_k5 st (nI na) (nI nu) kd dp cl sa ln bt pn bf, cw_k0 ch st (nI nd) c_pl c_sl c_co c_ca c_tu, cw_k4 ru st (nI nr) u_so u_ju u_we u_lo u_hi u_ta u_bo, cw_i g c_sl 24 slf, cw_i g c_co 24 cof, cw_z g pn 4000 pnf] H locs := hZ.sub [6, 0, 1, 2, 3, 4, 5] (by decide +kernel) rfl
      exact zz_iret hC hZ (⟨0, by show _ = _; rw [fn_cx_count]; rw [if_neg (show ¬ (x1 = nI 0) by rw [c1]; decide), if_neg (show ¬ (x1 = nI 1) by rw [c1]; decide), if_neg (show ¬ (x1 = nI 2) by rw [c1]; decide), if_neg (show ¬ (x1 = nI 3) by rw [c1]; decide), if_pos c1], rfl⟩) (Nat.le_of_ble_eq_true rfl) (Nat.le_of_ble_eq_true rfl) dX7_count_96
    · refine lv_tableIn (tgt := 97) (off := 96) hx hb dX7_count_1 (by decide) (by decide) (by decide) (by decide) ?_
      refine lv_aload_n hx hb dX7_count_97 rfl (lv_at hl 0 rfl) ?_
      refine lv_aload_n hx hb dX7_count_98 rfl (lv_at hl 0 rfl) ?_
      refine zz_get hC hZ 0 rfl zf_X7_35 rfl dX7_count_99 ?_
      refine zz_iV (As := []) (wc := [cw_k0 ch st (nI nd) c_pl c_sl c_co c_ca c_tu, cw_i g c_sl 24 slf, cw_i g c_co 24 cof, cw_k5 st (nI na) (nI nu) kd dp cl sa ln bt pn bf, cw_z g pn 4000 pnf]) (wr := [cw_k6 h0 st mk lk ch ru mr md la, cw_k4 ru st (nI nr) u_so u_ju u_we u_lo u_hi u_ta u_bo]) (rest := [.ref h0]) hC hZ hs hl zc_X7_273 (co_ways g ch st c_pl c_sl c_co c_ca c_tu kd dp cl sa ln bt pn bf nd na nu plf slf cof saf lnf pnf (h_C)) [2, 4, 5, 1, 6] [0, 3] rfl rfl (by decide +kernel) (ci := 0) (q0 := 0) rfl rfl rfl rfl (Nat.le_of_ble_eq_true rfl) ⟨⟨Nat.le_of_ble_eq_true rfl, Nat.le_of_ble_eq_true rfl⟩, Nat.le_of_ble_eq_true rfl, Nat.le_of_ble_eq_true rfl⟩ dX7_count_102 (fun r15 u16 H locs hp hZ => ?_)
      obtain ⟨f17, rfl⟩ := hp
      have hZ : zz_Z g A s.heap [cw_k6 h0 st mk lk ch ru mr md la, cw_k4 ru st (nI nr) u_so u_ju u_we u_lo u_hi u_ta u_bo, cw_k0 ch st (nI nd) c_pl c_sl c_co c_ca c_tu, cw_i g c_sl 24 slf, cw_i g c_co 24 cof, cw_k5 st (nI na) (nI nu) kd dp cl sa ln bt pn bf, cw_z g pn 4000 pnf] H locs := hZ
      have d_r15 : nI (zz_wy (zz_cX pnf slf cof) nd 0 1) = r15 := f17.symm
      refine zz_iV (As := [.int r15]) (wc := [cw_k6 h0 st mk lk ch ru mr md la]) (wr := [cw_k4 ru st (nI nr) u_so u_ju u_we u_lo u_hi u_ta u_bo, cw_k0 ch st (nI nd) c_pl c_sl c_co c_ca c_tu, cw_i g c_sl 24 slf, cw_i g c_co 24 cof, cw_k5 st (nI na) (nI nu) kd dp cl sa ln bt pn bf, cw_z g pn 4000 pnf]) (rest := []) hC hZ hs hl zc_X7_100 (co_fine g h0 st mk lk ch ru mr md la r15) [0] [1, 2, 3, 4, 5, 6] rfl rfl (by decide +kernel) (ci := 6) (q0 := 0) rfl rfl rfl rfl (Nat.le_of_ble_eq_true rfl) ⟨⟨Nat.le_of_ble_eq_true rfl, Nat.le_of_ble_eq_true rfl⟩, Nat.le_of_ble_eq_true rfl, Nat.le_of_ble_eq_true rfl⟩ dX7_count_105 (fun r18 u19 H locs hp hZ => ?_)
      obtain ⟨rfl, rfl⟩ := hp
      have hZ : zz_Z g A s.heap [cw_k4 ru st (nI nr) u_so u_ju u_we u_lo u_hi u_ta u_bo, cw_k0 ch st (nI nd) c_pl c_sl c_co c_ca c_tu, cw_i g c_sl 24 slf, cw_i g c_co 24 cof, cw_k5 st (nI na) (nI nu) kd dp cl sa ln bt pn bf, cw_z g pn 4000 pnf, cw_k6 h0 st mk lk ch ru mr md 0] H locs := hZ
      have hZ : zz_Z g A s.heap [cw_k6 h0 st mk lk ch ru mr md 0, cw_k5 st (nI na) (nI nu) kd dp cl sa ln bt pn bf, cw_k0 ch st (nI nd) c_pl c_sl c_co c_ca c_tu, cw_k4 ru st (nI nr) u_so u_ju u_we u_lo u_hi u_ta u_bo, cw_i g c_sl 24 slf, cw_i g c_co 24 cof, cw_z g pn 4000 pnf] H locs := hZ.sub [6, 4, 1, 0, 2, 3, 5] (by decide +kernel) rfl
      exact zz_iret hC hZ (⟨0, by refine Eq.symm ?_; rw [fn_cx_count]; refine (if_neg (by (try simp only [d_r15]); exact ((show ¬ (x1 = nI 0) by rw [c1]; decide)))).trans ?_; refine (if_neg (by (try simp only [d_r15]); exact ((show ¬ (x1 = nI 1) by rw [c1]; decide)))).trans ?_; refine (if_neg (by (try simp only [d_r15]); exact ((show ¬ (x1 = nI 2) by rw [c1]; decide)))).trans ?_; refine (if_neg (by (try simp only [d_r15]); exact ((show ¬ (x1 = nI 3) by rw [c1]; decide)))).trans ?_; refine (if_neg (by (try simp only [d_r15]); exact ((show ¬ (x1 = nI 4) by rw [c1]; decide)))).trans ?_; refine (if_pos (by (try simp only [d_r15]); exact c1)).trans ?_; first | (simp only [d_r15]; done) | rfl, rfl⟩) (Nat.le_of_ble_eq_true rfl) (Nat.le_of_ble_eq_true rfl) dX7_count_108
/-- numbers of a row of ints -/
def zz_nf (f : Nat → Int32) : Nat → Nat := fun x => (f x).toNatClampNeg
def zz_rw (sa : Nat → Int32) (bt : Nat → Int64) : Nat → Nat → Int64 := fun x i => bt (zz_nf sa x + i)
noncomputable def sp_dR (na nu : Nat) (dp sa ln : Nat → Int32) (bt : Nat → Int64) (x1 : Int32) : Int32 := if fn_co_has (nI na) x1 = 0 then -5 else @ite Int32 (zz_DF na nu (zz_nf ln) (zz_nf dp) (zz_rw sa bt) x1.toNatClampNeg) (Classical.propDecidable _) (nI na) (-8)
theorem zl_TRm {na nu : Nat} {dpf saf lnf : Nat → Int32} {btf : Nat → Int64} (h : zz_MI na nu dpf saf lnf btf) : zz_TR na nu (zz_nf saf) (zz_nf lnf) (zz_nf dpf) btf ∧ ∀ x, x < na → saf x = nI (zz_nf saf x) ∧ lnf x = nI (zz_nf lnf x) ∧ dpf x = nI (zz_nf dpf x) := by
  have hne := h.1.2.1
  have h0 : ∀ x, x < na → saf x = nI (zz_nf saf x) ∧ lnf x = nI (zz_nf lnf x) ∧ dpf x = nI (zz_nf dpf x) ∧ zz_nf lnf x ≤ 200 ∧ zz_nf saf x + zz_nf lnf x ≤ nu ∧ 1 ≤ zz_nf dpf x ∧ zz_nf dpf x ≤ 4 := fun x hx => by
    obtain ⟨sz, lz, dz, e1, e2, e3, g1, g2, g3, g4⟩ := h.1.2.2 x hx
    show saf x = nI (saf x).toNatClampNeg ∧ lnf x = nI (lnf x).toNatClampNeg ∧ dpf x = nI (dpf x).toNatClampNeg ∧ (lnf x).toNatClampNeg ≤ 200 ∧ (saf x).toNatClampNeg + (lnf x).toNatClampNeg ≤ nu ∧ 1 ≤ (dpf x).toNatClampNeg ∧ (dpf x).toNatClampNeg ≤ 4
    rw [e1, e2, e3, nI_clamp (show sz < 2 ^ 31 by omega), nI_clamp (show lz < 2 ^ 31 by omega), nI_clamp (show dz < 2 ^ 31 by omega)]
    exact ⟨rfl, rfl, rfl, g1, g2, g3, g4⟩
  refine ⟨⟨h.1.1, hne, fun x hx => (h0 x hx).2.2.2, fun x hx h1 i hi => ?_⟩, fun x hx => ⟨(h0 x hx).1, (h0 x hx).2.1, (h0 x hx).2.2.1⟩⟩
  obtain ⟨e1, e2, e3, g1, g2, g3, g4⟩ := h0 x hx
  rcases h.2.2 x _ _ _ hx e1 e2 e3 (by omega) g1 g4 h1 i hi with q | ⟨r, dr, q1, q2, q3, q4⟩
  · exact Or.inl q
  · refine Or.inr ⟨r, q1, q2, ?_⟩
    show (dpf r).toNatClampNeg + 1 = _
    have : dr ≤ 4 := by omega
    rw [q3, nI_clamp (by omega)]; exact q4
theorem dg_X7_deep_0 : (decode cX7_deep 0 = .ok (.aload_n 0, 1)) ∧ (decode cX7_deep 1 = .ok (.getfield 10, 3)) ∧ (decode cX7_deep 4 = .ok (.iload_n 1, 1)) ∧ (decode cX7_deep 5 = .ok (.invokevirtual 73, 3)) ∧ (decode cX7_deep 8 = .ok (.ifCond .ne 9, 3)) ∧ (decode cX7_deep 11 = .ok (.aload_n 0, 1)) ∧ (decode cX7_deep 12 = .ok (.iconst 5, 1)) ∧ (decode cX7_deep 13 = .ok (.invokevirtual 65, 3)) ∧ (decode cX7_deep 16 = .ok (.ireturn, 1)) ∧ (decode cX7_deep 17 = .ok (.aload_n 0, 1)) ∧ (decode cX7_deep 18 = .ok (.getfield 21, 3)) ∧ (decode cX7_deep 21 = .ok (.iload_n 1, 1)) ∧ (decode cX7_deep 22 = .ok (.invokevirtual 190, 3)) ∧ (decode cX7_deep 25 = .ok (.ifCond .ne 10, 3)) ∧ (decode cX7_deep 28 = .ok (.aload_n 0, 1)) ∧ (decode cX7_deep 29 = .ok (.bipush 8, 2)) := by decide +kernel
theorem dX7_deep_0 : decode cX7_deep 0 = .ok (.aload_n 0, 1) := dg_X7_deep_0.1
theorem dX7_deep_1 : decode cX7_deep 1 = .ok (.getfield 10, 3) := dg_X7_deep_0.2.1
theorem dX7_deep_4 : decode cX7_deep 4 = .ok (.iload_n 1, 1) := dg_X7_deep_0.2.2.1
theorem dX7_deep_5 : decode cX7_deep 5 = .ok (.invokevirtual 73, 3) := dg_X7_deep_0.2.2.2.1
theorem dX7_deep_8 : decode cX7_deep 8 = .ok (.ifCond .ne 9, 3) := dg_X7_deep_0.2.2.2.2.1
theorem dX7_deep_11 : decode cX7_deep 11 = .ok (.aload_n 0, 1) := dg_X7_deep_0.2.2.2.2.2.1
theorem dX7_deep_12 : decode cX7_deep 12 = .ok (.iconst 5, 1) := dg_X7_deep_0.2.2.2.2.2.2.1
theorem dX7_deep_13 : decode cX7_deep 13 = .ok (.invokevirtual 65, 3) := dg_X7_deep_0.2.2.2.2.2.2.2.1
theorem dX7_deep_16 : decode cX7_deep 16 = .ok (.ireturn, 1) := dg_X7_deep_0.2.2.2.2.2.2.2.2.1
theorem dX7_deep_17 : decode cX7_deep 17 = .ok (.aload_n 0, 1) := dg_X7_deep_0.2.2.2.2.2.2.2.2.2.1
theorem dX7_deep_18 : decode cX7_deep 18 = .ok (.getfield 21, 3) := dg_X7_deep_0.2.2.2.2.2.2.2.2.2.2.1
theorem dX7_deep_21 : decode cX7_deep 21 = .ok (.iload_n 1, 1) := dg_X7_deep_0.2.2.2.2.2.2.2.2.2.2.2.1
theorem dX7_deep_22 : decode cX7_deep 22 = .ok (.invokevirtual 190, 3) := dg_X7_deep_0.2.2.2.2.2.2.2.2.2.2.2.2.1
theorem dX7_deep_25 : decode cX7_deep 25 = .ok (.ifCond .ne 10, 3) := dg_X7_deep_0.2.2.2.2.2.2.2.2.2.2.2.2.2.1
theorem dX7_deep_28 : decode cX7_deep 28 = .ok (.aload_n 0, 1) := dg_X7_deep_0.2.2.2.2.2.2.2.2.2.2.2.2.2.2.1
theorem dX7_deep_29 : decode cX7_deep 29 = .ok (.bipush 8, 2) := dg_X7_deep_0.2.2.2.2.2.2.2.2.2.2.2.2.2.2.2
theorem dg_X7_deep_31 : (decode cX7_deep 31 = .ok (.invokevirtual 65, 3)) ∧ (decode cX7_deep 34 = .ok (.ireturn, 1)) ∧ (decode cX7_deep 35 = .ok (.aload_n 0, 1)) ∧ (decode cX7_deep 36 = .ok (.aload_n 0, 1)) ∧ (decode cX7_deep 37 = .ok (.getfield 21, 3)) ∧ (decode cX7_deep 40 = .ok (.iload_n 1, 1)) ∧ (decode cX7_deep 41 = .ok (.invokevirtual 193, 3)) ∧ (decode cX7_deep 44 = .ok (.invokevirtual 100, 3)) ∧ (decode cX7_deep 47 = .ok (.ireturn, 1)) := by decide +kernel
theorem dX7_deep_31 : decode cX7_deep 31 = .ok (.invokevirtual 65, 3) := dg_X7_deep_31.1
theorem dX7_deep_34 : decode cX7_deep 34 = .ok (.ireturn, 1) := dg_X7_deep_31.2.1
theorem dX7_deep_35 : decode cX7_deep 35 = .ok (.aload_n 0, 1) := dg_X7_deep_31.2.2.1
theorem dX7_deep_36 : decode cX7_deep 36 = .ok (.aload_n 0, 1) := dg_X7_deep_31.2.2.2.1
theorem dX7_deep_37 : decode cX7_deep 37 = .ok (.getfield 21, 3) := dg_X7_deep_31.2.2.2.2.1
theorem dX7_deep_40 : decode cX7_deep 40 = .ok (.iload_n 1, 1) := dg_X7_deep_31.2.2.2.2.2.1
theorem dX7_deep_41 : decode cX7_deep 41 = .ok (.invokevirtual 193, 3) := dg_X7_deep_31.2.2.2.2.2.2.1
theorem dX7_deep_44 : decode cX7_deep 44 = .ok (.invokevirtual 100, 3) := dg_X7_deep_31.2.2.2.2.2.2.2.1
theorem dX7_deep_47 : decode cX7_deep 47 = .ok (.ireturn, 1) := dg_X7_deep_31.2.2.2.2.2.2.2.2
theorem zf_X7_21 : zz_f RX7 21 6 1 := ⟨RX7, TX7, 8, rfl, zi_X7, by decide, zk_201⟩
theorem zk_451 : Cond.methodLink RX7 190 yX3_twinFits ∈ zz_w := zz_in (List.mem_append_right _ (List.mem_append_right _ (List.mem_append_left _ (List.mem_of_getElem? (i := 211) (by decide +kernel))))) rfl
set_option maxRecDepth 20000 in
theorem zk_454 : Cond.code yX3_twinFits cX3_twinFits 2 (some .boolean) ∈ zz_w := zz_in (List.mem_append_right _ (List.mem_append_right _ (List.mem_append_left _ (List.mem_of_getElem? (i := 214) (rfl))))) rfl
theorem zk_452 : Cond.instanceMethod yX3_twinFits ∈ zz_w := zz_in (List.mem_append_right _ (List.mem_append_right _ (List.mem_append_left _ (List.mem_of_getElem? (i := 212) (by decide +kernel))))) rfl
theorem zk_453 : Cond.selects RX3 yX3_twinFits yX3_twinFits ∈ zz_w := zz_in (List.mem_append_right _ (List.mem_append_right _ (List.mem_append_left _ (List.mem_of_getElem? (i := 213) (by decide +kernel))))) rfl
theorem zc_X7_190 : zz_cV RX7 190 yX3_twinFits cX3_twinFits 2 (some .boolean) 1 := ⟨⟨zk_451, zk_454, zk_3, by decide, by decide, by decide +kernel⟩, zk_452, zk_453⟩
theorem zk_460 : Cond.methodLink RX7 193 yX3_makeTwin ∈ zz_w := zz_in (List.mem_append_right _ (List.mem_append_right _ (List.mem_append_left _ (List.mem_of_getElem? (i := 220) (by decide +kernel))))) rfl
set_option maxRecDepth 20000 in
theorem zk_463 : Cond.code yX3_makeTwin cX3_makeTwin 2 (some .int) ∈ zz_w := zz_in (List.mem_append_right _ (List.mem_append_right _ (List.mem_append_left _ (List.mem_of_getElem? (i := 223) (rfl))))) rfl
theorem zk_461 : Cond.instanceMethod yX3_makeTwin ∈ zz_w := zz_in (List.mem_append_right _ (List.mem_append_right _ (List.mem_append_left _ (List.mem_of_getElem? (i := 221) (by decide +kernel))))) rfl
theorem zk_462 : Cond.selects RX3 yX3_makeTwin yX3_makeTwin ∈ zz_w := zz_in (List.mem_append_right _ (List.mem_append_right _ (List.mem_append_left _ (List.mem_of_getElem? (i := 222) (by decide +kernel))))) rfl
theorem zc_X7_193 : zz_cV RX7 193 yX3_makeTwin cX3_makeTwin 2 (some .int) 1 := ⟨⟨zk_460, zk_463, zk_3, by decide, by decide, by decide +kernel⟩, zk_461, zk_462⟩
abbrev rm_cx_deep : Room := { frames := 6, cells := 0, slots := 0, locals := 193 }
abbrev po_cx_deep (g : zz_G) (h0 : Nat) (st : Nat) (mk : Nat) (lk : Nat) (ch : Nat) (ru : Nat) (mr : Nat) (kd : Nat) (dp : Nat) (cl : Nat) (sa : Nat) (ln : Nat) (bt : Nat) (pn : Nat) (bf : Nat) (ml : Nat) (md : Int32) (la : Int32) (pa : Int32) (pe : Int32) (na : Nat) (nu : Nat) (mlf : Nat → Int32) (kdf : Nat → Int32) (dpf : Nat → Int32) (clf : Nat → Int32) (saf : Nat → Int32) (lnf : Nat → Int32) (btf : Nat → Int64) (x1 : Int32) (h_M : zz_MI na nu dpf saf lnf btf) : Int32 → va_W → Prop := fun (r : Int32) (u : va_W) => ∃ (la2 : Int32) (pa2 : Int32) (pe2 : Int32) (na2 : Nat) (nu2 : Nat) (kd2 : Nat → Int32) (dp2 : Nat → Int32) (cl2 : Nat → Int32) (sa2 : Nat → Int32) (ln2 : Nat → Int32) (bt2 : Nat → Int64), (zz_SI na2 nu2 dp2 sa2 ln2) ∧ (na ≤ na2) ∧ (zz_EX na dpf saf lnf dp2 sa2 ln2) ∧ (r = sp_dR na nu dpf saf lnf btf x1) ∧ ((na2, nu2, kd2, dp2, cl2, sa2, ln2, bt2) = if r < 0 then (na, nu, kdf, dpf, clf, saf, lnf, btf) else sp_tw kdf clf (zz_nf saf) (zz_nf lnf) (zz_rw saf btf) (zz_nf dpf x1.toNatClampNeg) x1.toNatClampNeg (na, nu, kdf, dpf, clf, saf, lnf, btf)) ∧ u = [cw_k6 h0 st mk lk ch ru mr md la2, cw_k2 mk st ml pa2 pe2, cw_i g ml 4 mlf, cw_k5 st (nI na2) (nI nu2) kd dp cl sa ln bt pn bf, cw_i g kd 60 kd2, cw_i g dp 60 dp2, cw_i g cl 60 cl2, cw_i g sa 60 sa2, cw_i g ln 60 ln2, cw_l g bt 4000 bt2]
set_option maxHeartbeats 4000000 in
set_option maxRecDepth 100000 in
theorem cx_deep (g : zz_G) (h0 : Nat) (st : Nat) (mk : Nat) (lk : Nat) (ch : Nat) (ru : Nat) (mr : Nat) (kd : Nat) (dp : Nat) (cl : Nat) (sa : Nat) (ln : Nat) (bt : Nat) (pn : Nat) (bf : Nat) (ml : Nat) (md : Int32) (la : Int32) (pa : Int32) (pe : Int32) (na : Nat) (nu : Nat) (mlf : Nat → Int32) (kdf : Nat → Int32) (dpf : Nat → Int32) (clf : Nat → Int32) (saf : Nat → Int32) (lnf : Nat → Int32) (btf : Nat → Int64) (x1 : Int32) (h_M : zz_MI na nu dpf saf lnf btf) : zz_I g yX7_deep (.code yX7_deep cX7_deep 2 (some .int)) rm_cx_deep [.ref h0, .int x1] [cw_k6 h0 st mk lk ch ru mr md la, cw_k2 mk st ml pa pe, cw_i g ml 4 mlf, cw_k5 st (nI na) (nI nu) kd dp cl sa ln bt pn bf, cw_i g kd 60 kdf, cw_i g dp 60 dpf, cw_i g cl 60 clf, cw_i g sa 60 saf, cw_i g ln 60 lnf, cw_l g bt 4000 btf] (po_cx_deep g h0 st mk lk ch ru mr kd dp cl sa ln bt pn bf ml md la pa pe na nu mlf kdf dpf clf saf lnf btf x1 h_M) := by
  refine zz_I.intro (own := RX7) (cc := cX7_deep) (nL := 2) (by decide) rfl (Nat.le_of_ble_eq_true rfl) ?_
  intro p l e s m args below meth c A H locs ls hC hnm hs hZ hl
  obtain ⟨hx, hb, hml, hown, hts, hr, hlocks, hK⟩ := id hC
  have hl : lv_has ls 2 [(0, .ref h0), (1, .int x1)] := hl
  have hZ : zz_Z g A s.heap [cw_k6 h0 st mk lk ch ru mr md la, cw_k2 mk st ml pa pe, cw_i g ml 4 mlf, cw_k5 st (nI na) (nI nu) kd dp cl sa ln bt pn bf, cw_i g kd 60 kdf, cw_i g dp 60 dpf, cw_i g cl 60 clf, cw_i g sa 60 saf, cw_i g ln 60 lnf, cw_l g bt 4000 btf] H locs := hZ
  have h_S := h_M.1
  have hna := h_S.1
  have hnu := h_S.2.1
  refine lv_aload_n hx hb dX7_deep_0 rfl (lv_at hl 0 rfl) ?_
  refine zz_get hC hZ 0 rfl zf_X7_10 rfl dX7_deep_1 ?_
  refine lv_iload_n hx hb dX7_deep_4 rfl (lv_at hl 1 rfl) ?_
  refine zz_iV (As := [.int x1]) (wc := [cw_k5 st (nI na) (nI nu) kd dp cl sa ln bt pn bf]) (wr := [cw_k6 h0 st mk lk ch ru mr md la, cw_k2 mk st ml pa pe, cw_i g ml 4 mlf, cw_i g kd 60 kdf, cw_i g dp 60 dpf, cw_i g cl 60 clf, cw_i g sa 60 saf, cw_i g ln 60 lnf, cw_l g bt 4000 btf]) (rest := []) hC hZ hs hl zc_X7_73 (co_has g st kd dp cl sa ln bt pn bf (nI na) (nI nu) x1) [3] [0, 1, 2, 4, 5, 6, 7, 8, 9] rfl rfl (by decide +kernel) (ci := 5) (q0 := 0) rfl rfl rfl rfl (Nat.le_of_ble_eq_true rfl) ⟨⟨Nat.le_of_ble_eq_true rfl, Nat.le_of_ble_eq_true rfl⟩, Nat.le_of_ble_eq_true rfl, Nat.le_of_ble_eq_true rfl⟩ dX7_deep_5 (fun r1 u2 H locs hp hZ => ?_)
  obtain ⟨rfl, rfl⟩ := hp
  have hZ : zz_Z g A s.heap [cw_k6 h0 st mk lk ch ru mr md la, cw_k2 mk st ml pa pe, cw_i g ml 4 mlf, cw_i g kd 60 kdf, cw_i g dp 60 dpf, cw_i g cl 60 clf, cw_i g sa 60 saf, cw_i g ln 60 lnf, cw_l g bt 4000 btf, cw_k5 st (nI na) (nI nu) kd dp cl sa ln bt pn bf] H locs := hZ
  refine lv_if_ne (tgt := 17) hx hb dX7_deep_8 (by decide) (fun c3 => ?_) (fun c3 => ?_)
  · obtain ⟨a1, ha1, ea1⟩ := zl_has (by omega) c3
    have hl : lv_has ls 2 [(0, .ref h0), (1, .int (nI a1))] := by rw [← ea1]; exact hl
    have d1c : x1.toNatClampNeg = a1 := by rw [ea1]; exact nI_clamp (by omega)
    obtain ⟨hTR, hNN⟩ := zl_TRm h_M
    refine lv_aload_n hx hb dX7_deep_17 rfl (lv_at hl 0 rfl) ?_
    refine zz_get hC hZ 0 rfl zf_X7_21 rfl dX7_deep_18 ?_
    refine lv_iload_n hx hb dX7_deep_21 rfl (lv_at hl 1 rfl) ?_
    refine zz_iV (As := [.int (nI a1)]) (wc := [cw_k2 mk st ml pa pe, cw_k5 st (nI na) (nI nu) kd dp cl sa ln bt pn bf, cw_i g dp 60 dpf, cw_i g sa 60 saf, cw_i g ln 60 lnf, cw_l g bt 4000 btf]) (wr := [cw_k6 h0 st mk lk ch ru mr md la, cw_i g ml 4 mlf, cw_i g kd 60 kdf, cw_i g cl 60 clf]) (rest := []) hC hZ hs hl zc_X7_190 (co_twinFits g mk ml st kd dp cl sa ln bt pn bf na nu pa pe dpf saf lnf btf (zz_nf saf) (zz_nf lnf) (zz_nf dpf) a1 (hTR) (hNN) (ha1)) [1, 9, 4, 6, 7, 8] [0, 2, 3, 5] rfl rfl (by decide +kernel) (ci := 2) (q0 := 0) rfl rfl rfl rfl (Nat.le_of_ble_eq_true rfl) ⟨⟨Nat.le_of_ble_eq_true rfl, Nat.le_of_ble_eq_true rfl⟩, Nat.le_of_ble_eq_true rfl, Nat.le_of_ble_eq_true rfl⟩ dX7_deep_22 (fun r4 u5 H locs hp hZ => ?_)
    obtain ⟨pa2_6, pe2_7, f8, rfl⟩ := hp
    have hZ : zz_Z g A s.heap [cw_k6 h0 st mk lk ch ru mr md la, cw_i g ml 4 mlf, cw_i g kd 60 kdf, cw_i g cl 60 clf, cw_k2 mk st ml (nI pa2_6) (nI pe2_7), cw_k5 st (nI na) (nI nu) kd dp cl sa ln bt pn bf, cw_i g dp 60 dpf, cw_i g sa 60 saf, cw_i g ln 60 lnf, cw_l g bt 4000 btf] H locs := hZ
    refine lv_if_ne (tgt := 35) hx hb dX7_deep_25 (by decide) (fun c9 => ?_) (fun c9 => ?_)
    · have hDF := (f8.resolve_left (fun z => c9 z.1)).2
      refine lv_aload_n hx hb dX7_deep_35 rfl (lv_at hl 0 rfl) ?_
      refine lv_aload_n hx hb dX7_deep_36 rfl (lv_at hl 0 rfl) ?_
      refine zz_get hC hZ 0 rfl zf_X7_21 rfl dX7_deep_37 ?_
      refine lv_iload_n hx hb dX7_deep_40 rfl (lv_at hl 1 rfl) ?_
      refine zz_iV (As := [.int (nI a1)]) (wc := [cw_k2 mk st ml (nI pa2_6) (nI pe2_7), cw_i g ml 4 mlf, cw_k5 st (nI na) (nI nu) kd dp cl sa ln bt pn bf, cw_i g kd 60 kdf, cw_i g dp 60 dpf, cw_i g cl 60 clf, cw_i g sa 60 saf, cw_i g ln 60 lnf, cw_l g bt 4000 btf]) (wr := [cw_k6 h0 st mk lk ch ru mr md la]) (rest := [.ref h0]) hC hZ hs hl zc_X7_193 (co_makeTwin g mk ml st kd dp cl sa ln bt pn bf na nu (nI pa2_6) (nI pe2_7) mlf kdf dpf clf saf lnf btf na nu (zz_nf saf) (zz_nf lnf) (zz_nf dpf) kdf clf btf a1 (hTR) (⟨Nat.le_refl _, Nat.le_refl _, hNN, fun _ _ => ⟨rfl, rfl⟩, fun _ _ => rfl⟩) (h_S) (ha1) (hDF)) [4, 1, 5, 2, 6, 3, 7, 8, 9] [0] rfl rfl (by decide +kernel) (ci := 2) (q0 := 0) rfl rfl rfl rfl (Nat.le_of_ble_eq_true rfl) ⟨⟨Nat.le_of_ble_eq_true rfl, Nat.le_of_ble_eq_true rfl⟩, Nat.le_of_ble_eq_true rfl, Nat.le_of_ble_eq_true rfl⟩ dX7_deep_41 (fun r10 u11 H locs hp hZ => ?_)
      obtain ⟨na2_12, nu2_13, kd2_14, dp2_15, cl2_16, sa2_17, ln2_18, bt2_19, rfl, f20, f21, f22, f23, rfl⟩ := hp
      have hZ : zz_Z g A s.heap [cw_k6 h0 st mk lk ch ru mr md la, cw_k2 mk st ml (nI pa2_6) (nI pe2_7), cw_i g ml 4 mlf, cw_k5 st (nI na2_12) (nI nu2_13) kd dp cl sa ln bt pn bf, cw_i g kd 60 kd2_14, cw_i g dp 60 dp2_15, cw_i g cl 60 cl2_16, cw_i g sa 60 sa2_17, cw_i g ln 60 ln2_18, cw_l g bt 4000 bt2_19] H locs := hZ
      refine zz_iV (As := [.int (nI na)]) (wc := [cw_k6 h0 st mk lk ch ru mr md la]) (wr := [cw_k2 mk st ml (nI pa2_6) (nI pe2_7), cw_i g ml 4 mlf, cw_k5 st (nI na2_12) (nI nu2_13) kd dp cl sa ln bt pn bf, cw_i g kd 60 kd2_14, cw_i g dp 60 dp2_15, cw_i g cl 60 cl2_16, cw_i g sa 60 sa2_17, cw_i g ln 60 ln2_18, cw_l g bt 4000 bt2_19]) (rest := []) hC hZ hs hl zc_X7_100 (co_fine g h0 st mk lk ch ru mr md la (nI na)) [0] [1, 2, 3, 4, 5, 6, 7, 8, 9] rfl rfl (by decide +kernel) (ci := 6) (q0 := 0) rfl rfl rfl rfl (Nat.le_of_ble_eq_true rfl) ⟨⟨Nat.le_of_ble_eq_true rfl, Nat.le_of_ble_eq_true rfl⟩, Nat.le_of_ble_eq_true rfl, Nat.le_of_ble_eq_true rfl⟩ dX7_deep_44 (fun r24 u25 H locs hp hZ => ?_)
      obtain ⟨rfl, rfl⟩ := hp
      have hZ : zz_Z g A s.heap [cw_k2 mk st ml (nI pa2_6) (nI pe2_7), cw_i g ml 4 mlf, cw_k5 st (nI na2_12) (nI nu2_13) kd dp cl sa ln bt pn bf, cw_i g kd 60 kd2_14, cw_i g dp 60 dp2_15, cw_i g cl 60 cl2_16, cw_i g sa 60 sa2_17, cw_i g ln 60 ln2_18, cw_l g bt 4000 bt2_19, cw_k6 h0 st mk lk ch ru mr md 0] H locs := hZ
      have hZ : zz_Z g A s.heap [cw_k6 h0 st mk lk ch ru mr md 0, cw_k2 mk st ml (nI pa2_6) (nI pe2_7), cw_i g ml 4 mlf, cw_k5 st (nI na2_12) (nI nu2_13) kd dp cl sa ln bt pn bf, cw_i g kd 60 kd2_14, cw_i g dp 60 dp2_15, cw_i g cl 60 cl2_16, cw_i g sa 60 sa2_17, cw_i g ln 60 ln2_18, cw_l g bt 4000 bt2_19] H locs := hZ.sub [9, 0, 1, 2, 3, 4, 5, 6, 7, 8] (by decide +kernel) rfl
      exact zz_iret hC hZ (⟨0, (nI pa2_6), (nI pe2_7), na2_12, nu2_13, kd2_14, dp2_15, cl2_16, sa2_17, ln2_18, bt2_19, f20, f21, f22, by rw [sp_dR, if_neg c3, d1c]; exact (if_pos hDF).symm, by rw [if_neg (nI_pos (by omega)), d1c]; exact f23, rfl⟩) (Nat.le_of_ble_eq_true rfl) (Nat.le_of_ble_eq_true rfl) dX7_deep_47
    · refine lv_aload_n hx hb dX7_deep_28 rfl (lv_at hl 0 rfl) ?_
      refine lv_bipush (v := 8) hx hb dX7_deep_29 (by decide) ?_
      refine zz_iV (As := [.int 8]) (wc := [cw_k6 h0 st mk lk ch ru mr md la]) (wr := [cw_i g ml 4 mlf, cw_i g kd 60 kdf, cw_i g cl 60 clf, cw_k2 mk st ml (nI pa2_6) (nI pe2_7), cw_k5 st (nI na) (nI nu) kd dp cl sa ln bt pn bf, cw_i g dp 60 dpf, cw_i g sa 60 saf, cw_i g ln 60 lnf, cw_l g bt 4000 btf]) (rest := []) hC hZ hs hl zc_X7_65 (co_fail g h0 st mk lk ch ru mr md la 8) [0] [1, 2, 3, 4, 5, 6, 7, 8, 9] rfl rfl (by decide +kernel) (ci := 6) (q0 := 0) rfl rfl rfl rfl (Nat.le_of_ble_eq_true rfl) ⟨⟨Nat.le_of_ble_eq_true rfl, Nat.le_of_ble_eq_true rfl⟩, Nat.le_of_ble_eq_true rfl, Nat.le_of_ble_eq_true rfl⟩ dX7_deep_31 (fun r26 u27 H locs hp hZ => ?_)
      obtain ⟨rfl, rfl⟩ := hp
      have hZ : zz_Z g A s.heap [cw_i g ml 4 mlf, cw_i g kd 60 kdf, cw_i g cl 60 clf, cw_k2 mk st ml (nI pa2_6) (nI pe2_7), cw_k5 st (nI na) (nI nu) kd dp cl sa ln bt pn bf, cw_i g dp 60 dpf, cw_i g sa 60 saf, cw_i g ln 60 lnf, cw_l g bt 4000 btf, cw_k6 h0 st mk lk ch ru mr md 8] H locs := hZ
      have hZ : zz_Z g A s.heap [cw_k6 h0 st mk lk ch ru mr md 8, cw_k2 mk st ml (nI pa2_6) (nI pe2_7), cw_i g ml 4 mlf, cw_k5 st (nI na) (nI nu) kd dp cl sa ln bt pn bf, cw_i g kd 60 kdf, cw_i g dp 60 dpf, cw_i g cl 60 clf, cw_i g sa 60 saf, cw_i g ln 60 lnf, cw_l g bt 4000 btf] H locs := hZ.sub [9, 3, 0, 4, 1, 5, 2, 6, 7, 8] (by decide +kernel) rfl
      exact zz_iret hC hZ (⟨8, (nI pa2_6), (nI pe2_7), na, nu, kdf, dpf, clf, saf, lnf, btf, h_S, Nat.le_refl _, zz_EX.rf, by rw [sp_dR, if_neg c3, d1c]; exact (if_neg (f8.resolve_right (fun z => absurd (z.1.symm.trans c9) (by decide))).2).symm, by rw [if_pos (by decide)], rfl⟩) (Nat.le_of_ble_eq_true rfl) (Nat.le_of_ble_eq_true rfl) dX7_deep_34
  · refine lv_aload_n hx hb dX7_deep_11 rfl (lv_at hl 0 rfl) ?_
    refine lv_iconst (v := 5) hx hb dX7_deep_12 (by decide) ?_
    refine zz_iV (As := [.int 5]) (wc := [cw_k6 h0 st mk lk ch ru mr md la]) (wr := [cw_k2 mk st ml pa pe, cw_i g ml 4 mlf, cw_i g kd 60 kdf, cw_i g dp 60 dpf, cw_i g cl 60 clf, cw_i g sa 60 saf, cw_i g ln 60 lnf, cw_l g bt 4000 btf, cw_k5 st (nI na) (nI nu) kd dp cl sa ln bt pn bf]) (rest := []) hC hZ hs hl zc_X7_65 (co_fail g h0 st mk lk ch ru mr md la 5) [0] [1, 2, 3, 4, 5, 6, 7, 8, 9] rfl rfl (by decide +kernel) (ci := 6) (q0 := 0) rfl rfl rfl rfl (Nat.le_of_ble_eq_true rfl) ⟨⟨Nat.le_of_ble_eq_true rfl, Nat.le_of_ble_eq_true rfl⟩, Nat.le_of_ble_eq_true rfl, Nat.le_of_ble_eq_true rfl⟩ dX7_deep_13 (fun r28 u29 H locs hp hZ => ?_)
    obtain ⟨rfl, rfl⟩ := hp
    have hZ : zz_Z g A s.heap [cw_k2 mk st ml pa pe, cw_i g ml 4 mlf, cw_i g kd 60 kdf, cw_i g dp 60 dpf, cw_i g cl 60 clf, cw_i g sa 60 saf, cw_i g ln 60 lnf, cw_l g bt 4000 btf, cw_k5 st (nI na) (nI nu) kd dp cl sa ln bt pn bf, cw_k6 h0 st mk lk ch ru mr md 5] H locs := hZ
    have hZ : zz_Z g A s.heap [cw_k6 h0 st mk lk ch ru mr md 5, cw_k2 mk st ml pa pe, cw_i g ml 4 mlf, cw_k5 st (nI na) (nI nu) kd dp cl sa ln bt pn bf, cw_i g kd 60 kdf, cw_i g dp 60 dpf, cw_i g cl 60 clf, cw_i g sa 60 saf, cw_i g ln 60 lnf, cw_l g bt 4000 btf] H locs := hZ.sub [9, 0, 1, 8, 2, 3, 4, 5, 6, 7] (by decide +kernel) rfl
    exact zz_iret hC hZ (⟨5, pa, pe, na, nu, kdf, dpf, clf, saf, lnf, btf, h_S, Nat.le_refl _, zz_EX.rf, by rw [sp_dR, if_pos c3], by rw [if_pos (by decide)], rfl⟩) (Nat.le_of_ble_eq_true rfl) (Nat.le_of_ble_eq_true rfl) dX7_deep_16
