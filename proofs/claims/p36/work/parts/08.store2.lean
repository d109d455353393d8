theorem zl_div1000 {b q : Nat} (h : b < 60) (hq : q < 1000) : nI (1000 * b + q) / 1000 = nI b := by
  rw [show (1000 : Int32) = nI 1000 by decide, pk_div (by omega) (by decide) (by decide)]
  congr 1; omega
theorem zl_rem1000 {b q : Nat} (h : b < 60) (hq : q < 1000) : nI (1000 * b + q) - nI (1000 * b + q) / 1000 * 1000 = nI q := by
  rw [show (1000 : Int32) = nI 1000 by decide, pk_rem (by omega) (by decide) (by decide)]
  congr 1; omega
theorem zz_SI_add {na nu n d : Nat} {dpf saf lnf : Nat → Int32} (h : zz_SI na nu dpf saf lnf) (h1 : na < 60) (h2 : nu + n ≤ 4000) (h3 : n ≤ 200) (h4 : 1 ≤ d ∧ d ≤ 4) : zz_SI (na + 1) (nu + n) (upd dpf na (nI d)) (upd saf na (nI nu)) (upd lnf na (nI n)) := by
  refine ⟨by omega, h2, fun a ha => ?_⟩
  by_cases e : a = na
  · subst e
    exact ⟨nu, n, d, pk_us, pk_us, pk_us, h3, by omega, h4.1, h4.2⟩
  · obtain ⟨sz, lz, dz, e1, e2, e3, g1, g2, g3, g4⟩ := h.2.2 a (by omega)
    exact ⟨sz, lz, dz, (pk_un e).trans e1, (pk_un e).trans e2, (pk_un e).trans e3, g1, by omega, g3, g4⟩
/-- the bits behind a new array: rows are null -/
def zz_nb (bt : Nat → Int64) (d : Int32) (nu nn : Nat) : Nat → Int64 := fun j => if d ≤ 1 then bt j else if nu ≤ j ∧ j < nu + nn then -1 else bt j
theorem zl_nbS {bt bt1 : Nat → Int64} {nu i : Nat} (hb : ∀ j, bt1 j = if nu ≤ j ∧ j < nu + i then -1 else bt j) : ∀ j, vp_updL bt1 (nu + i) (-1) j = if nu ≤ j ∧ j < nu + (i + 1) then -1 else bt j := fun j => by
  by_cases e : j = nu + i
  · subst e; rw [pk_uLs, if_pos (by omega)]
  · rw [pk_uLn e, hb j]
    by_cases q : nu ≤ j ∧ j < nu + i
    · rw [if_pos q, if_pos (by omega)]
    · rw [if_neg q, if_neg (by omega)]
theorem zl_nbE {bt bt1 : Nat → Int64} {d : Int32} {nu nn i : Nat} (c : ¬ d ≤ 1) (hi : i = nn) (hb : ∀ j, bt1 j = if nu ≤ j ∧ j < nu + i then -1 else bt j) : bt1 = zz_nb bt d nu nn := by
  subst hi
  funext j
  rw [hb j]
  exact (if_neg c).symm
theorem dg_X6_slotOf_0 : (decode cX6_slotOf 0 = .ok (.aload_n 0, 1)) ∧ (decode cX6_slotOf 1 = .ok (.getfield 21, 3)) ∧ (decode cX6_slotOf 4 = .ok (.iload_n 1, 1)) ∧ (decode cX6_slotOf 5 = .ok (.sipush 1000, 3)) ∧ (decode cX6_slotOf 8 = .ok (.idiv, 1)) ∧ (decode cX6_slotOf 9 = .ok (.iaload, 1)) ∧ (decode cX6_slotOf 10 = .ok (.iload_n 1, 1)) ∧ (decode cX6_slotOf 11 = .ok (.sipush 1000, 3)) ∧ (decode cX6_slotOf 14 = .ok (.irem, 1)) ∧ (decode cX6_slotOf 15 = .ok (.iadd, 1)) ∧ (decode cX6_slotOf 16 = .ok (.ireturn, 1)) := by decide +kernel
theorem dX6_slotOf_0 : decode cX6_slotOf 0 = .ok (.aload_n 0, 1) := dg_X6_slotOf_0.1
theorem dX6_slotOf_1 : decode cX6_slotOf 1 = .ok (.getfield 21, 3) := dg_X6_slotOf_0.2.1
theorem dX6_slotOf_4 : decode cX6_slotOf 4 = .ok (.iload_n 1, 1) := dg_X6_slotOf_0.2.2.1
theorem dX6_slotOf_5 : decode cX6_slotOf 5 = .ok (.sipush 1000, 3) := dg_X6_slotOf_0.2.2.2.1
theorem dX6_slotOf_8 : decode cX6_slotOf 8 = .ok (.idiv, 1) := dg_X6_slotOf_0.2.2.2.2.1
theorem dX6_slotOf_9 : decode cX6_slotOf 9 = .ok (.iaload, 1) := dg_X6_slotOf_0.2.2.2.2.2.1
theorem dX6_slotOf_10 : decode cX6_slotOf 10 = .ok (.iload_n 1, 1) := dg_X6_slotOf_0.2.2.2.2.2.2.1
theorem dX6_slotOf_11 : decode cX6_slotOf 11 = .ok (.sipush 1000, 3) := dg_X6_slotOf_0.2.2.2.2.2.2.2.1
theorem dX6_slotOf_14 : decode cX6_slotOf 14 = .ok (.irem, 1) := dg_X6_slotOf_0.2.2.2.2.2.2.2.2.1
theorem dX6_slotOf_15 : decode cX6_slotOf 15 = .ok (.iadd, 1) := dg_X6_slotOf_0.2.2.2.2.2.2.2.2.2.1
theorem dX6_slotOf_16 : decode cX6_slotOf 16 = .ok (.ireturn, 1) := dg_X6_slotOf_0.2.2.2.2.2.2.2.2.2.2
abbrev rm_co_slotOf : Room := { frames := 0, cells := 0, slots := 0, locals := 0 }
abbrev po_co_slotOf (g : zz_G) (st : Nat) (kd : Nat) (dp : Nat) (cl : Nat) (sa : Nat) (ln : Nat) (bt : Nat) (pn : Nat) (bf : Nat) (na : Nat) (nu : Nat) (saf : Nat → Int32) (b : Nat) (q : Nat) (sz : Nat) (h_60 : b < 60 ∧ q < 1000) (e_s : saf b = nI sz) : Int32 → va_W → Prop := fun (r : Int32) (u : va_W) => r = nI (sz + q) ∧ u = [cw_k5 st (nI na) (nI nu) kd dp cl sa ln bt pn bf, cw_i g sa 60 saf]
set_option maxHeartbeats 4000000 in
set_option maxRecDepth 100000 in
theorem co_slotOf (g : zz_G) (st : Nat) (kd : Nat) (dp : Nat) (cl : Nat) (sa : Nat) (ln : Nat) (bt : Nat) (pn : Nat) (bf : Nat) (na : Nat) (nu : Nat) (saf : Nat → Int32) (b : Nat) (q : Nat) (sz : Nat) (h_60 : b < 60 ∧ q < 1000) (e_s : saf b = nI sz) : zz_I g yX6_slotOf (.code yX6_slotOf cX6_slotOf 2 (some .int)) rm_co_slotOf [.ref st, .int (nI (1000 * b + q))] [cw_k5 st (nI na) (nI nu) kd dp cl sa ln bt pn bf, cw_i g sa 60 saf] (po_co_slotOf g st kd dp cl sa ln bt pn bf na nu saf b q sz h_60 e_s) := by
  refine zz_I.intro (own := RX6) (cc := cX6_slotOf) (nL := 2) (by decide) rfl (Nat.le_of_ble_eq_true rfl) ?_
  intro p l e s m args below meth c A H locs ls hC hnm hs hZ hl
  obtain ⟨hx, hb, hml, hown, hts, hr, hlocks, hK⟩ := id hC
  have hl : lv_has ls 2 [(0, .ref st), (1, .int (nI (1000 * b + q)))] := hl
  have hZ : zz_Z g A s.heap [cw_k5 st (nI na) (nI nu) kd dp cl sa ln bt pn bf, cw_i g sa 60 saf] H locs := hZ
  refine lv_aload_n hx hb dX6_slotOf_0 rfl (lv_at hl 0 rfl) ?_
  refine zz_get hC hZ 0 rfl zf_X6_21 rfl dX6_slotOf_1 ?_
  refine lv_iload_n hx hb dX6_slotOf_4 rfl (lv_at hl 1 rfl) ?_
  refine lv_sipush (v := 1000) hx hb dX6_slotOf_5 (by decide) ?_
  refine lv_idiv hx hb dX6_slotOf_8 (by decide) ?_
  refine zz_topi (v := nI b) (zl_div1000 h_60.1 h_60.2) ?_
  have bd1 : b < 60 := by omega
  refine zz_ialdn hC hZ 1 rfl bd1 (by decide) dX6_slotOf_9 ?_
  refine zz_topi (v := nI sz) (e_s) ?_
  refine lv_iload_n hx hb dX6_slotOf_10 rfl (lv_at hl 1 rfl) ?_
  refine lv_sipush (v := 1000) hx hb dX6_slotOf_11 (by decide) ?_
  refine lv_irem hx hb dX6_slotOf_14 (by decide) ?_
  refine zz_topi (v := nI q) (zl_rem1000 h_60.1 h_60.2) ?_
  refine lv_iadd hx hb dX6_slotOf_15 ?_
  refine zz_topi (v := nI (sz + q)) (nI_add _ _) ?_
  exact zz_iret hC hZ (⟨rfl, rfl⟩) (Nat.le_of_ble_eq_true rfl) (Nat.le_of_ble_eq_true rfl) dX6_slotOf_16
theorem dg_X6_add_0 : (decode cX6_add 0 = .ok (.aload_n 0, 1)) ∧ (decode cX6_add 1 = .ok (.getfield 38, 3)) ∧ (decode cX6_add 4 = .ok (.istore 5, 2)) ∧ (decode cX6_add 6 = .ok (.aload_n 0, 1)) ∧ (decode cX6_add 7 = .ok (.getfield 9, 3)) ∧ (decode cX6_add 10 = .ok (.iload 5, 2)) ∧ (decode cX6_add 12 = .ok (.iload_n 1, 1)) ∧ (decode cX6_add 13 = .ok (.iastore, 1)) ∧ (decode cX6_add 14 = .ok (.aload_n 0, 1)) ∧ (decode cX6_add 15 = .ok (.getfield 15, 3)) ∧ (decode cX6_add 18 = .ok (.iload 5, 2)) ∧ (decode cX6_add 20 = .ok (.iload_n 2, 1)) ∧ (decode cX6_add 21 = .ok (.iastore, 1)) ∧ (decode cX6_add 22 = .ok (.aload_n 0, 1)) ∧ (decode cX6_add 23 = .ok (.getfield 18, 3)) ∧ (decode cX6_add 26 = .ok (.iload 5, 2)) := by decide +kernel
theorem dX6_add_0 : decode cX6_add 0 = .ok (.aload_n 0, 1) := dg_X6_add_0.1
theorem dX6_add_1 : decode cX6_add 1 = .ok (.getfield 38, 3) := dg_X6_add_0.2.1
theorem dX6_add_4 : decode cX6_add 4 = .ok (.istore 5, 2) := dg_X6_add_0.2.2.1
theorem dX6_add_6 : decode cX6_add 6 = .ok (.aload_n 0, 1) := dg_X6_add_0.2.2.2.1
theorem dX6_add_7 : decode cX6_add 7 = .ok (.getfield 9, 3) := dg_X6_add_0.2.2.2.2.1
theorem dX6_add_10 : decode cX6_add 10 = .ok (.iload 5, 2) := dg_X6_add_0.2.2.2.2.2.1
theorem dX6_add_12 : decode cX6_add 12 = .ok (.iload_n 1, 1) := dg_X6_add_0.2.2.2.2.2.2.1
theorem dX6_add_13 : decode cX6_add 13 = .ok (.iastore, 1) := dg_X6_add_0.2.2.2.2.2.2.2.1
theorem dX6_add_14 : decode cX6_add 14 = .ok (.aload_n 0, 1) := dg_X6_add_0.2.2.2.2.2.2.2.2.1
theorem dX6_add_15 : decode cX6_add 15 = .ok (.getfield 15, 3) := dg_X6_add_0.2.2.2.2.2.2.2.2.2.1
theorem dX6_add_18 : decode cX6_add 18 = .ok (.iload 5, 2) := dg_X6_add_0.2.2.2.2.2.2.2.2.2.2.1
theorem dX6_add_20 : decode cX6_add 20 = .ok (.iload_n 2, 1) := dg_X6_add_0.2.2.2.2.2.2.2.2.2.2.2.1
theorem dX6_add_21 : decode cX6_add 21 = .ok (.iastore, 1) := dg_X6_add_0.2.2.2.2.2.2.2.2.2.2.2.2.1
theorem dX6_add_22 : decode cX6_add 22 = .ok (.aload_n 0, 1) := dg_X6_add_0.2.2.2.2.2.2.2.2.2.2.2.2.2.1
theorem dX6_add_23 : decode cX6_add 23 = .ok (.getfield 18, 3) := dg_X6_add_0.2.2.2.2.2.2.2.2.2.2.2.2.2.2.1
theorem dX6_add_26 : decode cX6_add 26 = .ok (.iload 5, 2) := dg_X6_add_0.2.2.2.2.2.2.2.2.2.2.2.2.2.2.2
theorem dg_X6_add_28 : (decode cX6_add 28 = .ok (.iload_n 3, 1)) ∧ (decode cX6_add 29 = .ok (.iastore, 1)) ∧ (decode cX6_add 30 = .ok (.aload_n 0, 1)) ∧ (decode cX6_add 31 = .ok (.getfield 21, 3)) ∧ (decode cX6_add 34 = .ok (.iload 5, 2)) ∧ (decode cX6_add 36 = .ok (.aload_n 0, 1)) ∧ (decode cX6_add 37 = .ok (.getfield 44, 3)) ∧ (decode cX6_add 40 = .ok (.iastore, 1)) ∧ (decode cX6_add 41 = .ok (.aload_n 0, 1)) ∧ (decode cX6_add 42 = .ok (.getfield 24, 3)) ∧ (decode cX6_add 45 = .ok (.iload 5, 2)) ∧ (decode cX6_add 47 = .ok (.iload 4, 2)) ∧ (decode cX6_add 49 = .ok (.iastore, 1)) ∧ (decode cX6_add 50 = .ok (.iload_n 2, 1)) ∧ (decode cX6_add 51 = .ok (.iconst 1, 1)) ∧ (decode cX6_add 52 = .ok (.if_icmp .le 34, 3)) := by decide +kernel
theorem dX6_add_28 : decode cX6_add 28 = .ok (.iload_n 3, 1) := dg_X6_add_28.1
theorem dX6_add_29 : decode cX6_add 29 = .ok (.iastore, 1) := dg_X6_add_28.2.1
theorem dX6_add_30 : decode cX6_add 30 = .ok (.aload_n 0, 1) := dg_X6_add_28.2.2.1
theorem dX6_add_31 : decode cX6_add 31 = .ok (.getfield 21, 3) := dg_X6_add_28.2.2.2.1
theorem dX6_add_34 : decode cX6_add 34 = .ok (.iload 5, 2) := dg_X6_add_28.2.2.2.2.1
theorem dX6_add_36 : decode cX6_add 36 = .ok (.aload_n 0, 1) := dg_X6_add_28.2.2.2.2.2.1
theorem dX6_add_37 : decode cX6_add 37 = .ok (.getfield 44, 3) := dg_X6_add_28.2.2.2.2.2.2.1
theorem dX6_add_40 : decode cX6_add 40 = .ok (.iastore, 1) := dg_X6_add_28.2.2.2.2.2.2.2.1
theorem dX6_add_41 : decode cX6_add 41 = .ok (.aload_n 0, 1) := dg_X6_add_28.2.2.2.2.2.2.2.2.1
theorem dX6_add_42 : decode cX6_add 42 = .ok (.getfield 24, 3) := dg_X6_add_28.2.2.2.2.2.2.2.2.2.1
theorem dX6_add_45 : decode cX6_add 45 = .ok (.iload 5, 2) := dg_X6_add_28.2.2.2.2.2.2.2.2.2.2.1
theorem dX6_add_47 : decode cX6_add 47 = .ok (.iload 4, 2) := dg_X6_add_28.2.2.2.2.2.2.2.2.2.2.2.1
theorem dX6_add_49 : decode cX6_add 49 = .ok (.iastore, 1) := dg_X6_add_28.2.2.2.2.2.2.2.2.2.2.2.2.1
theorem dX6_add_50 : decode cX6_add 50 = .ok (.iload_n 2, 1) := dg_X6_add_28.2.2.2.2.2.2.2.2.2.2.2.2.2.1
theorem dX6_add_51 : decode cX6_add 51 = .ok (.iconst 1, 1) := dg_X6_add_28.2.2.2.2.2.2.2.2.2.2.2.2.2.2.1
theorem dX6_add_52 : decode cX6_add 52 = .ok (.if_icmp .le 34, 3) := dg_X6_add_28.2.2.2.2.2.2.2.2.2.2.2.2.2.2.2
theorem dg_X6_add_55 : (decode cX6_add 55 = .ok (.iconst 0, 1)) ∧ (decode cX6_add 56 = .ok (.istore 6, 2)) ∧ (decode cX6_add 58 = .ok (.iload 6, 2)) ∧ (decode cX6_add 60 = .ok (.iload 4, 2)) ∧ (decode cX6_add 62 = .ok (.if_icmp .ge 24, 3)) ∧ (decode cX6_add 65 = .ok (.aload_n 0, 1)) ∧ (decode cX6_add 66 = .ok (.getfield 27, 3)) ∧ (decode cX6_add 69 = .ok (.aload_n 0, 1)) ∧ (decode cX6_add 70 = .ok (.getfield 44, 3)) ∧ (decode cX6_add 73 = .ok (.iload 6, 2)) ∧ (decode cX6_add 75 = .ok (.iadd, 1)) ∧ (decode cX6_add 76 = .ok (.ldc2_w 49, 3)) ∧ (decode cX6_add 79 = .ok (.lastore, 1)) ∧ (decode cX6_add 80 = .ok (.iinc 6 1, 3)) ∧ (decode cX6_add 83 = .ok (.goto (-25), 3)) ∧ (decode cX6_add 86 = .ok (.aload_n 0, 1)) := by decide +kernel
theorem dX6_add_55 : decode cX6_add 55 = .ok (.iconst 0, 1) := dg_X6_add_55.1
theorem dX6_add_56 : decode cX6_add 56 = .ok (.istore 6, 2) := dg_X6_add_55.2.1
theorem dX6_add_58 : decode cX6_add 58 = .ok (.iload 6, 2) := dg_X6_add_55.2.2.1
theorem dX6_add_60 : decode cX6_add 60 = .ok (.iload 4, 2) := dg_X6_add_55.2.2.2.1
theorem dX6_add_62 : decode cX6_add 62 = .ok (.if_icmp .ge 24, 3) := dg_X6_add_55.2.2.2.2.1
theorem dX6_add_65 : decode cX6_add 65 = .ok (.aload_n 0, 1) := dg_X6_add_55.2.2.2.2.2.1
theorem dX6_add_66 : decode cX6_add 66 = .ok (.getfield 27, 3) := dg_X6_add_55.2.2.2.2.2.2.1
theorem dX6_add_69 : decode cX6_add 69 = .ok (.aload_n 0, 1) := dg_X6_add_55.2.2.2.2.2.2.2.1
theorem dX6_add_70 : decode cX6_add 70 = .ok (.getfield 44, 3) := dg_X6_add_55.2.2.2.2.2.2.2.2.1
theorem dX6_add_73 : decode cX6_add 73 = .ok (.iload 6, 2) := dg_X6_add_55.2.2.2.2.2.2.2.2.2.1
theorem dX6_add_75 : decode cX6_add 75 = .ok (.iadd, 1) := dg_X6_add_55.2.2.2.2.2.2.2.2.2.2.1
theorem dX6_add_76 : decode cX6_add 76 = .ok (.ldc2_w 49, 3) := dg_X6_add_55.2.2.2.2.2.2.2.2.2.2.2.1
theorem dX6_add_79 : decode cX6_add 79 = .ok (.lastore, 1) := dg_X6_add_55.2.2.2.2.2.2.2.2.2.2.2.2.1
theorem dX6_add_80 : decode cX6_add 80 = .ok (.iinc 6 1, 3) := dg_X6_add_55.2.2.2.2.2.2.2.2.2.2.2.2.2.1
theorem dX6_add_83 : decode cX6_add 83 = .ok (.goto (-25), 3) := dg_X6_add_55.2.2.2.2.2.2.2.2.2.2.2.2.2.2.1
theorem dX6_add_86 : decode cX6_add 86 = .ok (.aload_n 0, 1) := dg_X6_add_55.2.2.2.2.2.2.2.2.2.2.2.2.2.2.2
theorem dg_X6_add_87 : (decode cX6_add 87 = .ok (.dup, 1)) ∧ (decode cX6_add 88 = .ok (.getfield 38, 3)) ∧ (decode cX6_add 91 = .ok (.iconst 1, 1)) ∧ (decode cX6_add 92 = .ok (.iadd, 1)) ∧ (decode cX6_add 93 = .ok (.putfield 38, 3)) ∧ (decode cX6_add 96 = .ok (.aload_n 0, 1)) ∧ (decode cX6_add 97 = .ok (.dup, 1)) ∧ (decode cX6_add 98 = .ok (.getfield 44, 3)) ∧ (decode cX6_add 101 = .ok (.iload 4, 2)) ∧ (decode cX6_add 103 = .ok (.iadd, 1)) ∧ (decode cX6_add 104 = .ok (.putfield 44, 3)) ∧ (decode cX6_add 107 = .ok (.iload 5, 2)) ∧ (decode cX6_add 109 = .ok (.ireturn, 1)) := by decide +kernel
theorem dX6_add_87 : decode cX6_add 87 = .ok (.dup, 1) := dg_X6_add_87.1
theorem dX6_add_88 : decode cX6_add 88 = .ok (.getfield 38, 3) := dg_X6_add_87.2.1
theorem dX6_add_91 : decode cX6_add 91 = .ok (.iconst 1, 1) := dg_X6_add_87.2.2.1
theorem dX6_add_92 : decode cX6_add 92 = .ok (.iadd, 1) := dg_X6_add_87.2.2.2.1
theorem dX6_add_93 : decode cX6_add 93 = .ok (.putfield 38, 3) := dg_X6_add_87.2.2.2.2.1
theorem dX6_add_96 : decode cX6_add 96 = .ok (.aload_n 0, 1) := dg_X6_add_87.2.2.2.2.2.1
theorem dX6_add_97 : decode cX6_add 97 = .ok (.dup, 1) := dg_X6_add_87.2.2.2.2.2.2.1
theorem dX6_add_98 : decode cX6_add 98 = .ok (.getfield 44, 3) := dg_X6_add_87.2.2.2.2.2.2.2.1
theorem dX6_add_101 : decode cX6_add 101 = .ok (.iload 4, 2) := dg_X6_add_87.2.2.2.2.2.2.2.2.1
theorem dX6_add_103 : decode cX6_add 103 = .ok (.iadd, 1) := dg_X6_add_87.2.2.2.2.2.2.2.2.2.1
theorem dX6_add_104 : decode cX6_add 104 = .ok (.putfield 44, 3) := dg_X6_add_87.2.2.2.2.2.2.2.2.2.2.1
theorem dX6_add_107 : decode cX6_add 107 = .ok (.iload 5, 2) := dg_X6_add_87.2.2.2.2.2.2.2.2.2.2.2.1
theorem dX6_add_109 : decode cX6_add 109 = .ok (.ireturn, 1) := dg_X6_add_87.2.2.2.2.2.2.2.2.2.2.2.2
theorem zu_X6_38 : zz_fw RX6 38 5 0 false .int := ⟨RX6, TX6, 10, tyX6, rfl, zi_X6, by decide, zk_26, tyX6_ok, nmX6, rfl, by decide +kernel, fun h => by cases h⟩
theorem zu_X6_44 : zz_fw RX6 44 5 1 false .int := ⟨RX6, TX6, 10, tyX6, rfl, zi_X6, by decide, zk_29, tyX6_ok, nmX6, rfl, by decide +kernel, fun h => by cases h⟩
abbrev rm_co_add : Room := { frames := 0, cells := 0, slots := 0, locals := 0 }
abbrev po_co_add (g : zz_G) (st : Nat) (kd : Nat) (dp : Nat) (cl : Nat) (sa : Nat) (ln : Nat) (bt : Nat) (pn : Nat) (bf : Nat) (na : Nat) (nu : Nat) (nn : Nat) (kdf : Nat → Int32) (dpf : Nat → Int32) (clf : Nat → Int32) (saf : Nat → Int32) (lnf : Nat → Int32) (btf : Nat → Int64) (k : Int32) (d : Int32) (kc : Int32) (h_a : na < 60) (h_e : nu + nn ≤ 4000) : Int32 → va_W → Prop := fun (r : Int32) (u : va_W) => ∃ (bt2 : Nat → Int64), r = nI na ∧ (bt2 = zz_nb btf d nu nn) ∧ u = [cw_k5 st (nI (na + 1)) (nI (nu + nn)) kd dp cl sa ln bt pn bf, cw_i g kd 60 (upd kdf na k), cw_i g dp 60 (upd dpf na d), cw_i g cl 60 (upd clf na kc), cw_i g sa 60 (upd saf na (nI nu)), cw_i g ln 60 (upd lnf na (nI nn)), cw_l g bt 4000 bt2]
set_option maxHeartbeats 4000000 in
set_option maxRecDepth 100000 in
theorem co_add (g : zz_G) (st : Nat) (kd : Nat) (dp : Nat) (cl : Nat) (sa : Nat) (ln : Nat) (bt : Nat) (pn : Nat) (bf : Nat) (na : Nat) (nu : Nat) (nn : Nat) (kdf : Nat → Int32) (dpf : Nat → Int32) (clf : Nat → Int32) (saf : Nat → Int32) (lnf : Nat → Int32) (btf : Nat → Int64) (k : Int32) (d : Int32) (kc : Int32) (h_a : na < 60) (h_e : nu + nn ≤ 4000) : zz_I g yX6_add (.code yX6_add cX6_add 7 (some .int)) rm_co_add [.ref st, .int k, .int d, .int kc, .int (nI nn)] [cw_k5 st (nI na) (nI nu) kd dp cl sa ln bt pn bf, cw_i g kd 60 kdf, cw_i g dp 60 dpf, cw_i g cl 60 clf, cw_i g sa 60 saf, cw_i g ln 60 lnf, cw_l g bt 4000 btf] (po_co_add g st kd dp cl sa ln bt pn bf na nu nn kdf dpf clf saf lnf btf k d kc h_a h_e) := by
  refine zz_I.intro (own := RX6) (cc := cX6_add) (nL := 7) (by decide) rfl (Nat.le_of_ble_eq_true rfl) ?_
  intro p l e s m args below meth c A H locs ls hC hnm hs hZ hl
  obtain ⟨hx, hb, hml, hown, hts, hr, hlocks, hK⟩ := id hC
  have hl : lv_has ls 7 [(0, .ref st), (1, .int k), (2, .int d), (3, .int kc), (4, .int (nI nn))] := hl
  have hZ : zz_Z g A s.heap [cw_k5 st (nI na) (nI nu) kd dp cl sa ln bt pn bf, cw_i g kd 60 kdf, cw_i g dp 60 dpf, cw_i g cl 60 clf, cw_i g sa 60 saf, cw_i g ln 60 lnf, cw_l g bt 4000 btf] H locs := hZ
  refine lv_aload_n hx hb dX6_add_0 rfl (lv_at hl 0 rfl) ?_
  refine zz_get hC hZ 0 rfl zf_X6_38 rfl dX6_add_1 ?_
  refine lv_istore (lv' := [(5, .int (nI na)), (0, .ref st), (1, .int k), (2, .int d), (3, .int kc), (4, .int (nI nn))]) hx hb dX6_add_4 hl (by decide) rfl (fun ls hl => ?_)
  refine lv_aload_n hx hb dX6_add_6 rfl (lv_at hl 1 rfl) ?_
  refine zz_get hC hZ 0 rfl zf_X6_9 rfl dX6_add_7 ?_
  refine lv_iload hx hb dX6_add_10 (lv_at hl 0 rfl) ?_
  refine lv_iload_n hx hb dX6_add_12 rfl (lv_at hl 2 rfl) ?_
  have bd1 : na < 60 := by omega
  refine zz_iastn hC hZ 1 rfl bd1 (by decide) dX6_add_13 (fun H locs hZ => ?_)
  have hZ : zz_Z g A s.heap [cw_k5 st (nI na) (nI nu) kd dp cl sa ln bt pn bf, cw_i g kd 60 (upd kdf na k), cw_i g dp 60 dpf, cw_i g cl 60 clf, cw_i g sa 60 saf, cw_i g ln 60 lnf, cw_l g bt 4000 btf] H locs := hZ
  refine lv_aload_n hx hb dX6_add_14 rfl (lv_at hl 1 rfl) ?_
  refine zz_get hC hZ 0 rfl zf_X6_15 rfl dX6_add_15 ?_
  refine lv_iload hx hb dX6_add_18 (lv_at hl 0 rfl) ?_
  refine lv_iload_n hx hb dX6_add_20 rfl (lv_at hl 3 rfl) ?_
  refine zz_iastn hC hZ 2 rfl bd1 (by decide) dX6_add_21 (fun H locs hZ => ?_)
  have hZ : zz_Z g A s.heap [cw_k5 st (nI na) (nI nu) kd dp cl sa ln bt pn bf, cw_i g kd 60 (upd kdf na k), cw_i g dp 60 (upd dpf na d), cw_i g cl 60 clf, cw_i g sa 60 saf, cw_i g ln 60 lnf, cw_l g bt 4000 btf] H locs := hZ
  refine lv_aload_n hx hb dX6_add_22 rfl (lv_at hl 1 rfl) ?_
  refine zz_get hC hZ 0 rfl zf_X6_18 rfl dX6_add_23 ?_
  refine lv_iload hx hb dX6_add_26 (lv_at hl 0 rfl) ?_
  refine lv_iload_n hx hb dX6_add_28 rfl (lv_at hl 4 rfl) ?_
  refine zz_iastn hC hZ 3 rfl bd1 (by decide) dX6_add_29 (fun H locs hZ => ?_)
  have hZ : zz_Z g A s.heap [cw_k5 st (nI na) (nI nu) kd dp cl sa ln bt pn bf, cw_i g kd 60 (upd kdf na k), cw_i g dp 60 (upd dpf na d), cw_i g cl 60 (upd clf na kc), cw_i g sa 60 saf, cw_i g ln 60 lnf, cw_l g bt 4000 btf] H locs := hZ
  refine lv_aload_n hx hb dX6_add_30 rfl (lv_at hl 1 rfl) ?_
  refine zz_get hC hZ 0 rfl zf_X6_21 rfl dX6_add_31 ?_
  refine lv_iload hx hb dX6_add_34 (lv_at hl 0 rfl) ?_
  refine lv_aload_n hx hb dX6_add_36 rfl (lv_at hl 1 rfl) ?_
  refine zz_get hC hZ 0 rfl zf_X6_44 rfl dX6_add_37 ?_
  refine zz_iastn hC hZ 4 rfl bd1 (by decide) dX6_add_40 (fun H locs hZ => ?_)
  have hZ : zz_Z g A s.heap [cw_k5 st (nI na) (nI nu) kd dp cl sa ln bt pn bf, cw_i g kd 60 (upd kdf na k), cw_i g dp 60 (upd dpf na d), cw_i g cl 60 (upd clf na kc), cw_i g sa 60 (upd saf na (nI nu)), cw_i g ln 60 lnf, cw_l g bt 4000 btf] H locs := hZ
  refine lv_aload_n hx hb dX6_add_41 rfl (lv_at hl 1 rfl) ?_
  refine zz_get hC hZ 0 rfl zf_X6_24 rfl dX6_add_42 ?_
  refine lv_iload hx hb dX6_add_45 (lv_at hl 0 rfl) ?_
  refine lv_iload hx hb dX6_add_47 (lv_at hl 5 rfl) ?_
  refine zz_iastn hC hZ 5 rfl bd1 (by decide) dX6_add_49 (fun H locs hZ => ?_)
  have hZ : zz_Z g A s.heap [cw_k5 st (nI na) (nI nu) kd dp cl sa ln bt pn bf, cw_i g kd 60 (upd kdf na k), cw_i g dp 60 (upd dpf na d), cw_i g cl 60 (upd clf na kc), cw_i g sa 60 (upd saf na (nI nu)), cw_i g ln 60 (upd lnf na (nI nn)), cw_l g bt 4000 btf] H locs := hZ
  refine lv_iload_n hx hb dX6_add_50 rfl (lv_at hl 3 rfl) ?_
  refine lv_iconst (v := 1) hx hb dX6_add_51 (by decide) ?_
  refine lv_icmp_le (tgt := 86) hx hb dX6_add_52 (by decide) (fun c2 => ?_) (fun c2 => ?_)
  · refine lv_aload_n hx hb dX6_add_86 rfl (lv_at hl 1 rfl) ?_
    refine lv_dup hx hb dX6_add_87 rfl ?_
    refine zz_get hC hZ 0 rfl zf_X6_38 rfl dX6_add_88 ?_
    refine lv_iconst (v := 1) hx hb dX6_add_91 (by decide) ?_
    refine lv_iadd hx hb dX6_add_92 ?_
    refine zz_topi (v := nI (na + 1)) (nI_1 _) ?_
    refine zz_put hC hZ 0 rfl zu_X6_38 (Nat.le_of_ble_eq_true rfl) dX6_add_93 (fun H locs hZ => ?_)
    have hZ : zz_Z g A s.heap [cw_k5 st (nI (na + 1)) (nI nu) kd dp cl sa ln bt pn bf, cw_i g kd 60 (upd kdf na k), cw_i g dp 60 (upd dpf na d), cw_i g cl 60 (upd clf na kc), cw_i g sa 60 (upd saf na (nI nu)), cw_i g ln 60 (upd lnf na (nI nn)), cw_l g bt 4000 btf] H locs := hZ
    refine lv_aload_n hx hb dX6_add_96 rfl (lv_at hl 1 rfl) ?_
    refine lv_dup hx hb dX6_add_97 rfl ?_
    refine zz_get hC hZ 0 rfl zf_X6_44 rfl dX6_add_98 ?_
    refine lv_iload hx hb dX6_add_101 (lv_at hl 5 rfl) ?_
    refine lv_iadd hx hb dX6_add_103 ?_
    refine zz_topi (v := nI (nu + nn)) (nI_add _ _) ?_
    refine zz_put hC hZ 0 rfl zu_X6_44 (Nat.le_of_ble_eq_true rfl) dX6_add_104 (fun H locs hZ => ?_)
    have hZ : zz_Z g A s.heap [cw_k5 st (nI (na + 1)) (nI (nu + nn)) kd dp cl sa ln bt pn bf, cw_i g kd 60 (upd kdf na k), cw_i g dp 60 (upd dpf na d), cw_i g cl 60 (upd clf na kc), cw_i g sa 60 (upd saf na (nI nu)), cw_i g ln 60 (upd lnf na (nI nn)), cw_l g bt 4000 btf] H locs := hZ
    refine lv_iload hx hb dX6_add_107 (lv_at hl 0 rfl) ?_
    exact zz_iret hC hZ (⟨btf, rfl, funext fun j => Eq.symm (if_pos c2), rfl⟩) (Nat.le_of_ble_eq_true rfl) (Nat.le_of_ble_eq_true rfl) dX6_add_109
  · refine lv_iconst (v := 0) hx hb dX6_add_55 (by decide) ?_
    refine lv_istore (lv' := [(6, .int 0), (5, .int (nI na)), (0, .ref st), (1, .int k), (2, .int d), (3, .int kc), (4, .int (nI nn))]) hx hb dX6_add_56 hl (by decide) rfl (fun ls hl => ?_)
    have LP3 : ∀ (N : Nat) (i : Nat) (bt1 : Nat → Int64) (H : Heap) (locs : List Loc) (ls : Array Slot), (i ≤ nn) → (∀ j, bt1 j = if nu ≤ j ∧ j < nu + i then -1 else btf j) → (nn - i) < N → zz_Z g A s.heap [cw_k5 st (nI na) (nI nu) kd dp cl sa ln bt pn bf, cw_i g kd 60 (upd kdf na k), cw_i g dp 60 (upd dpf na d), cw_i g cl 60 (upd clf na kc), cw_i g sa 60 (upd saf na (nI nu)), cw_i g ln 60 (upd lnf na (nI nn)), cw_l g bt 4000 bt1] H locs → lv_has ls 7 [(6, .int (nI i)), (5, .int (nI na)), (0, .ref st), (1, .int k), (2, .int d), (3, .int kc), (4, .int (nI nn))] → W p l e rm_co_add s m args below meth c H locs 0 0 (zz_QI below g args s A rm_co_add.cells rm_co_add.slots (po_co_add g st kd dp cl sa ln bt pn bf na nu nn kdf dpf clf saf lnf btf k d kc h_a h_e)) (F0 m 58 ls []) := by
      intro N
      induction N with
      | zero =>
        intro i bt1 H locs ls hi hbn hN
        exact absurd hN (Nat.not_lt_zero _)
      | succ N ih =>
        intro i bt1 H locs ls hi hbn hN hZ hl
        refine lv_iload hx hb dX6_add_58 (lv_at hl 0 rfl) ?_
        refine lv_iload hx hb dX6_add_60 (lv_at hl 6 rfl) ?_
        have bd5 : nn < 2 ^ 31 := by omega
        have bd6 : i < 2 ^ 31 := by omega
        refine lv_icmp_ge (tgt := 86) hx hb dX6_add_62 (by decide) (fun c4 => ?_) (fun c4 => ?_)
        · have nc4 : nn ≤ i := (nI_leI bd5 bd6).mp (show nI (nn) ≤ nI (i) from c4)
          refine lv_aload_n hx hb dX6_add_86 rfl (lv_at hl 2 rfl) ?_
          refine lv_dup hx hb dX6_add_87 rfl ?_
          refine zz_get hC hZ 0 rfl zf_X6_38 rfl dX6_add_88 ?_
          refine lv_iconst (v := 1) hx hb dX6_add_91 (by decide) ?_
          refine lv_iadd hx hb dX6_add_92 ?_
          refine zz_topi (v := nI (na + 1)) (nI_1 _) ?_
          refine zz_put hC hZ 0 rfl zu_X6_38 (Nat.le_of_ble_eq_true rfl) dX6_add_93 (fun H locs hZ => ?_)
          have hZ : zz_Z g A s.heap [cw_k5 st (nI (na + 1)) (nI nu) kd dp cl sa ln bt pn bf, cw_i g kd 60 (upd kdf na k), cw_i g dp 60 (upd dpf na d), cw_i g cl 60 (upd clf na kc), cw_i g sa 60 (upd saf na (nI nu)), cw_i g ln 60 (upd lnf na (nI nn)), cw_l g bt 4000 bt1] H locs := hZ
          refine lv_aload_n hx hb dX6_add_96 rfl (lv_at hl 2 rfl) ?_
          refine lv_dup hx hb dX6_add_97 rfl ?_
          refine zz_get hC hZ 0 rfl zf_X6_44 rfl dX6_add_98 ?_
          refine lv_iload hx hb dX6_add_101 (lv_at hl 6 rfl) ?_
          refine lv_iadd hx hb dX6_add_103 ?_
          refine zz_topi (v := nI (nu + nn)) (nI_add _ _) ?_
          refine zz_put hC hZ 0 rfl zu_X6_44 (Nat.le_of_ble_eq_true rfl) dX6_add_104 (fun H locs hZ => ?_)
          have hZ : zz_Z g A s.heap [cw_k5 st (nI (na + 1)) (nI (nu + nn)) kd dp cl sa ln bt pn bf, cw_i g kd 60 (upd kdf na k), cw_i g dp 60 (upd dpf na d), cw_i g cl 60 (upd clf na kc), cw_i g sa 60 (upd saf na (nI nu)), cw_i g ln 60 (upd lnf na (nI nn)), cw_l g bt 4000 bt1] H locs := hZ
          refine lv_iload hx hb dX6_add_107 (lv_at hl 1 rfl) ?_
          exact zz_iret hC hZ (⟨bt1, rfl, zl_nbE c2 (by omega) hbn, rfl⟩) (Nat.le_of_ble_eq_true rfl) (Nat.le_of_ble_eq_true rfl) dX6_add_109
        · have nc4 : ¬ nn ≤ i := fun zq => c4 (show nI (nn) ≤ nI (i) from (nI_leI bd5 bd6).mpr zq)
          refine lv_aload_n hx hb dX6_add_65 rfl (lv_at hl 2 rfl) ?_
          refine zz_get hC hZ 0 rfl zf_X6_27 rfl dX6_add_66 ?_
          refine lv_aload_n hx hb dX6_add_69 rfl (lv_at hl 2 rfl) ?_
          refine zz_get hC hZ 0 rfl zf_X6_44 rfl dX6_add_70 ?_
          refine lv_iload hx hb dX6_add_73 (lv_at hl 0 rfl) ?_
          refine lv_iadd hx hb dX6_add_75 ?_
          refine zz_topi (v := nI (nu + i)) (nI_add _ _) ?_
          refine lv_ldc2 hx hb hown (hts _ zk_250) dX6_add_76 ?_
          have bd7 : (nu + i) < 4000 := by omega
          refine zz_lastn hC hZ 6 rfl bd7 (by decide) dX6_add_79 (fun H locs hZ => ?_)
          have hZ : zz_Z g A s.heap [cw_k5 st (nI na) (nI nu) kd dp cl sa ln bt pn bf, cw_i g kd 60 (upd kdf na k), cw_i g dp 60 (upd dpf na d), cw_i g cl 60 (upd clf na kc), cw_i g sa 60 (upd saf na (nI nu)), cw_i g ln 60 (upd lnf na (nI nn)), cw_l g bt 4000 (vp_updL bt1 (nu + i) (-1))] H locs := hZ
          refine lv_iinc (v := nI (i + 1)) (lv' := [(6, .int (nI (i + 1))), (5, .int (nI na)), (0, .ref st), (1, .int k), (2, .int d), (3, .int kc), (4, .int (nI nn))]) hx hb dX6_add_80 hl (k := 0) rfl (nI_1 _) (by decide) rfl (fun ls hl => ?_)
          refine lv_goto (tgt := 58) hx hb dX6_add_83 (by decide) ?_
          exact ih (i + 1) (vp_updL bt1 (nu + i) (-1)) H locs ls (by omega) (zl_nbS hbn) (by omega) hZ (lv_sub hl [0, 1, 2, 3, 4, 5, 6] rfl)
    exact LP3 _ 0 btf H locs ls (Nat.zero_le _) (fun j => (if_neg (by omega)).symm) (Nat.lt_succ_self _) hZ (lv_sub hl [0, 1, 2, 3, 4, 5, 6] rfl)
