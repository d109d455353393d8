theorem zl_14 {x : Int32} (h : ¬ x < 1) (h2 : x ≤ 4) : ∃ dd : Nat, 1 ≤ dd ∧ dd ≤ 4 ∧ x = nI dd := by
  have h0 : ¬ x < 0 := by
    rw [Int32.lt_iff_toInt_lt] at h ⊢
    have e1 : (1 : Int32).toInt = 1 := by decide
    have e0 : (0 : Int32).toInt = 0 := by decide
    omega
  obtain ⟨j, hj, rfl⟩ := nI_of2 (M := 4) (n := 4) (by decide) h0 h2
  exact ⟨j, Nat.not_lt.mp fun q => h ((nI_ltI (a := j) (b := 1) (by omega) (by decide)).mpr (by omega)), hj, rfl⟩
theorem zl_lens {lf : Nat → Int32} {dd : Nat} (h1 : ∀ j, j < dd → ¬ lf j < 0) (h2 : ∀ j, j < dd → lf j ≤ 200) : ∃ ll : Nat → Nat, ∀ j, j < dd → lf j = nI (ll j) ∧ ll j ≤ 200 := by
  refine ⟨fun j => (lf j).toNatClampNeg, fun j hj => ?_⟩
  obtain ⟨n, hn, e⟩ := nI_of2 (M := 200) (n := 200) (by decide) (h1 j hj) (h2 j hj)
  show lf j = nI (lf j).toNatClampNeg ∧ (lf j).toNatClampNeg ≤ 200
  rw [e, nI_clamp (by omega)]
  exact ⟨rfl, hn⟩
theorem zl_nge {x : Int32} (h : ¬ 0 ≤ x) : x < 0 := by
  rw [Int32.le_iff_toInt_le] at h; rw [Int32.lt_iff_toInt_lt]; omega
theorem dg_X3_hasLengthBelowZero_0 : (decode cX3_hasLengthBelowZero 0 = .ok (.iconst 0, 1)) ∧ (decode cX3_hasLengthBelowZero 1 = .ok (.istore_n 2, 1)) ∧ (decode cX3_hasLengthBelowZero 2 = .ok (.iload_n 2, 1)) ∧ (decode cX3_hasLengthBelowZero 3 = .ok (.iload_n 1, 1)) ∧ (decode cX3_hasLengthBelowZero 4 = .ok (.if_icmp .ge 25, 3)) ∧ (decode cX3_hasLengthBelowZero 7 = .ok (.iload_n 2, 1)) ∧ (decode cX3_hasLengthBelowZero 8 = .ok (.iconst 4, 1)) ∧ (decode cX3_hasLengthBelowZero 9 = .ok (.if_icmp .ge 20, 3)) ∧ (decode cX3_hasLengthBelowZero 12 = .ok (.aload_n 0, 1)) ∧ (decode cX3_hasLengthBelowZero 13 = .ok (.getfield 9, 3)) ∧ (decode cX3_hasLengthBelowZero 16 = .ok (.iload_n 2, 1)) ∧ (decode cX3_hasLengthBelowZero 17 = .ok (.iaload, 1)) ∧ (decode cX3_hasLengthBelowZero 18 = .ok (.ifCond .ge 5, 3)) ∧ (decode cX3_hasLengthBelowZero 21 = .ok (.iconst 1, 1)) ∧ (decode cX3_hasLengthBelowZero 22 = .ok (.ireturn, 1)) ∧ (decode cX3_hasLengthBelowZero 23 = .ok (.iinc 2 1, 3)) := by decide +kernel
theorem dX3_hasLengthBelowZero_0 : decode cX3_hasLengthBelowZero 0 = .ok (.iconst 0, 1) := dg_X3_hasLengthBelowZero_0.1
theorem dX3_hasLengthBelowZero_1 : decode cX3_hasLengthBelowZero 1 = .ok (.istore_n 2, 1) := dg_X3_hasLengthBelowZero_0.2.1
theorem dX3_hasLengthBelowZero_2 : decode cX3_hasLengthBelowZero 2 = .ok (.iload_n 2, 1) := dg_X3_hasLengthBelowZero_0.2.2.1
theorem dX3_hasLengthBelowZero_3 : decode cX3_hasLengthBelowZero 3 = .ok (.iload_n 1, 1) := dg_X3_hasLengthBelowZero_0.2.2.2.1
theorem dX3_hasLengthBelowZero_4 : decode cX3_hasLengthBelowZero 4 = .ok (.if_icmp .ge 25, 3) := dg_X3_hasLengthBelowZero_0.2.2.2.2.1
theorem dX3_hasLengthBelowZero_7 : decode cX3_hasLengthBelowZero 7 = .ok (.iload_n 2, 1) := dg_X3_hasLengthBelowZero_0.2.2.2.2.2.1
theorem dX3_hasLengthBelowZero_8 : decode cX3_hasLengthBelowZero 8 = .ok (.iconst 4, 1) := dg_X3_hasLengthBelowZero_0.2.2.2.2.2.2.1
theorem dX3_hasLengthBelowZero_9 : decode cX3_hasLengthBelowZero 9 = .ok (.if_icmp .ge 20, 3) := dg_X3_hasLengthBelowZero_0.2.2.2.2.2.2.2.1
theorem dX3_hasLengthBelowZero_12 : decode cX3_hasLengthBelowZero 12 = .ok (.aload_n 0, 1) := dg_X3_hasLengthBelowZero_0.2.2.2.2.2.2.2.2.1
theorem dX3_hasLengthBelowZero_13 : decode cX3_hasLengthBelowZero 13 = .ok (.getfield 9, 3) := dg_X3_hasLengthBelowZero_0.2.2.2.2.2.2.2.2.2.1
theorem dX3_hasLengthBelowZero_16 : decode cX3_hasLengthBelowZero 16 = .ok (.iload_n 2, 1) := dg_X3_hasLengthBelowZero_0.2.2.2.2.2.2.2.2.2.2.1
theorem dX3_hasLengthBelowZero_17 : decode cX3_hasLengthBelowZero 17 = .ok (.iaload, 1) := dg_X3_hasLengthBelowZero_0.2.2.2.2.2.2.2.2.2.2.2.1
theorem dX3_hasLengthBelowZero_18 : decode cX3_hasLengthBelowZero 18 = .ok (.ifCond .ge 5, 3) := dg_X3_hasLengthBelowZero_0.2.2.2.2.2.2.2.2.2.2.2.2.1
theorem dX3_hasLengthBelowZero_21 : decode cX3_hasLengthBelowZero 21 = .ok (.iconst 1, 1) := dg_X3_hasLengthBelowZero_0.2.2.2.2.2.2.2.2.2.2.2.2.2.1
theorem dX3_hasLengthBelowZero_22 : decode cX3_hasLengthBelowZero 22 = .ok (.ireturn, 1) := dg_X3_hasLengthBelowZero_0.2.2.2.2.2.2.2.2.2.2.2.2.2.2.1
theorem dX3_hasLengthBelowZero_23 : decode cX3_hasLengthBelowZero 23 = .ok (.iinc 2 1, 3) := dg_X3_hasLengthBelowZero_0.2.2.2.2.2.2.2.2.2.2.2.2.2.2.2
theorem dg_X3_hasLengthBelowZero_26 : (decode cX3_hasLengthBelowZero 26 = .ok (.goto (-24), 3)) ∧ (decode cX3_hasLengthBelowZero 29 = .ok (.iconst 0, 1)) ∧ (decode cX3_hasLengthBelowZero 30 = .ok (.ireturn, 1)) := by decide +kernel
theorem dX3_hasLengthBelowZero_26 : decode cX3_hasLengthBelowZero 26 = .ok (.goto (-24), 3) := dg_X3_hasLengthBelowZero_26.1
theorem dX3_hasLengthBelowZero_29 : decode cX3_hasLengthBelowZero 29 = .ok (.iconst 0, 1) := dg_X3_hasLengthBelowZero_26.2.1
theorem dX3_hasLengthBelowZero_30 : decode cX3_hasLengthBelowZero 30 = .ok (.ireturn, 1) := dg_X3_hasLengthBelowZero_26.2.2
abbrev rm_co_hasNeg : Room := { frames := 0, cells := 0, slots := 0, locals := 0 }
abbrev po_co_hasNeg (g : zz_G) (st : Nat) (mk : Nat) (ml : Nat) (pa : Int32) (pe : Int32) (lf : Nat → Int32) (dd : Nat) (h_d : dd ≤ 4) : Int32 → va_W → Prop := fun (r : Int32) (u : va_W) => ((r = 0 ∧ ∀ j, j < dd → ¬ lf j < 0) ∨ (r = 1 ∧ ∃ j, j < dd ∧ lf j < 0)) ∧ u = [cw_k2 mk st ml pa pe, cw_i g ml 4 lf]
set_option maxHeartbeats 4000000 in
set_option maxRecDepth 100000 in
theorem co_hasNeg (g : zz_G) (st : Nat) (mk : Nat) (ml : Nat) (pa : Int32) (pe : Int32) (lf : Nat → Int32) (dd : Nat) (h_d : dd ≤ 4) : zz_I g yX3_hasLengthBelowZero (.code yX3_hasLengthBelowZero cX3_hasLengthBelowZero 3 (some .boolean)) rm_co_hasNeg [.ref mk, .int (nI dd)] [cw_k2 mk st ml pa pe, cw_i g ml 4 lf] (po_co_hasNeg g st mk ml pa pe lf dd h_d) := by
  refine zz_I.intro (own := RX3) (cc := cX3_hasLengthBelowZero) (nL := 3) (by decide) rfl (Nat.le_of_ble_eq_true rfl) ?_
  intro p l e s m args below meth c A H locs ls hC hnm hs hZ hl
  obtain ⟨hx, hb, hml, hown, hts, hr, hlocks, hK⟩ := id hC
  have hl : lv_has ls 3 [(0, .ref mk), (1, .int (nI dd))] := hl
  have hZ : zz_Z g A s.heap [cw_k2 mk st ml pa pe, cw_i g ml 4 lf] H locs := hZ
  refine lv_iconst (v := 0) hx hb dX3_hasLengthBelowZero_0 (by decide) ?_
  refine lv_istore_n (lv' := [(2, .int 0), (0, .ref mk), (1, .int (nI dd))]) hx hb dX3_hasLengthBelowZero_1 rfl hl (by decide) rfl (fun ls hl => ?_)
  have LP1 : ∀ (N : Nat) (i : Nat) (H : Heap) (locs : List Loc) (ls : Array Slot), (i ≤ dd) → (∀ j, j < i → ¬ lf j < 0) → (dd - i) < N → zz_Z g A s.heap [cw_k2 mk st ml pa pe, cw_i g ml 4 lf] H locs → lv_has ls 3 [(2, .int (nI i)), (0, .ref mk), (1, .int (nI dd))] → W p l e rm_co_hasNeg s m args below meth c H locs 0 0 (zz_QI below g args s A rm_co_hasNeg.cells rm_co_hasNeg.slots (po_co_hasNeg g st mk ml pa pe lf dd h_d)) (F0 m 2 ls []) := by
    intro N
    induction N with
    | zero =>
      intro i H locs ls hi hng hN
      exact absurd hN (Nat.not_lt_zero _)
    | succ N ih =>
      intro i H locs ls hi hng hN hZ hl
      refine lv_iload_n hx hb dX3_hasLengthBelowZero_2 rfl (lv_at hl 0 rfl) ?_
      refine lv_iload_n hx hb dX3_hasLengthBelowZero_3 rfl (lv_at hl 2 rfl) ?_
      have bd3 : dd < 2 ^ 31 := by omega
      have bd4 : i < 2 ^ 31 := by omega
      refine lv_icmp_ge (tgt := 29) hx hb dX3_hasLengthBelowZero_4 (by decide) (fun c2 => ?_) (fun c2 => ?_)
      · have nc2 : dd ≤ i := (nI_leI bd3 bd4).mp (show nI (dd) ≤ nI (i) from c2)
        refine lv_iconst (v := 0) hx hb dX3_hasLengthBelowZero_29 (by decide) ?_
        exact zz_zret hC hZ (by decide) (⟨Or.inl ⟨rfl, fun j hj => hng j (by omega)⟩, rfl⟩) (Nat.le_of_ble_eq_true rfl) (Nat.le_of_ble_eq_true rfl) dX3_hasLengthBelowZero_30
      · have nc2 : ¬ dd ≤ i := fun zq => c2 (show nI (dd) ≤ nI (i) from (nI_leI bd3 bd4).mpr zq)
        refine lv_iload_n hx hb dX3_hasLengthBelowZero_7 rfl (lv_at hl 0 rfl) ?_
        refine lv_iconst (v := 4) hx hb dX3_hasLengthBelowZero_8 (by decide) ?_
        refine lv_icmp_ge (tgt := 29) hx hb dX3_hasLengthBelowZero_9 (by decide) (fun c5 => ?_) (fun c5 => ?_)
        · have nc5 : 4 ≤ i := (nI_leI (by decide) bd4).mp (show nI (4) ≤ nI (i) from c5)
          refine lv_iconst (v := 0) hx hb dX3_hasLengthBelowZero_29 (by decide) ?_
          exact zz_zret hC hZ (by decide) (⟨Or.inl ⟨rfl, fun j hj => hng j (by omega)⟩, rfl⟩) (Nat.le_of_ble_eq_true rfl) (Nat.le_of_ble_eq_true rfl) dX3_hasLengthBelowZero_30
        · have nc5 : ¬ 4 ≤ i := fun zq => c5 (show nI (4) ≤ nI (i) from (nI_leI (by decide) bd4).mpr zq)
          refine lv_aload_n hx hb dX3_hasLengthBelowZero_12 rfl (lv_at hl 1 rfl) ?_
          refine zz_get hC hZ 0 rfl zf_X3_9 rfl dX3_hasLengthBelowZero_13 ?_
          refine lv_iload_n hx hb dX3_hasLengthBelowZero_16 rfl (lv_at hl 0 rfl) ?_
          have bd6 : i < 4 := by omega
          refine zz_ialdn hC hZ 1 rfl bd6 (by decide) dX3_hasLengthBelowZero_17 ?_
          refine lv_if_ge (tgt := 23) hx hb dX3_hasLengthBelowZero_18 (by decide) (fun c7 => ?_) (fun c7 => ?_)
          · refine lv_iinc (v := nI (i + 1)) (lv' := [(2, .int (nI (i + 1))), (0, .ref mk), (1, .int (nI dd))]) hx hb dX3_hasLengthBelowZero_23 hl (k := 0) rfl (nI_1 _) (by decide) rfl (fun ls hl => ?_)
            refine lv_goto (tgt := 2) hx hb dX3_hasLengthBelowZero_26 (by decide) ?_
            exact ih (i + 1) H locs ls (by omega) (zl_step (P := fun j => ¬ lf j < 0) hng (zl_ge0 c7)) (by omega) hZ (lv_sub hl [0, 1, 2] rfl)
          · refine lv_iconst (v := 1) hx hb dX3_hasLengthBelowZero_21 (by decide) ?_
            exact zz_zret hC hZ (by decide) (⟨Or.inr ⟨rfl, i, by omega, zl_nge c7⟩, rfl⟩) (Nat.le_of_ble_eq_true rfl) (Nat.le_of_ble_eq_true rfl) dX3_hasLengthBelowZero_22
  exact LP1 _ 0 H locs ls (by omega) (fun j hj => absurd hj (Nat.not_lt_zero j)) (Nat.lt_succ_self _) hZ (lv_sub hl [0, 1, 2] rfl)
theorem zl_acc2 {ll : Nat → Nat} {i : Nat} {mn al ti : Int64} (h : zz_AC ll i mn al ti) (hl : ll i ≤ 200) : zz_AC ll (i + 1) (mn + ti) (al + ti * (nI (ll i)).toInt64) (ti * (nI (ll i)).toInt64) := zl_acc h hl
theorem dg_X3_gridFits_0 : (decode cX3_gridFits 0 = .ok (.lconst 0, 1)) ∧ (decode cX3_gridFits 1 = .ok (.lstore_n 2, 1)) ∧ (decode cX3_gridFits 2 = .ok (.lconst 0, 1)) ∧ (decode cX3_gridFits 3 = .ok (.lstore 4, 2)) ∧ (decode cX3_gridFits 5 = .ok (.lconst 1, 1)) ∧ (decode cX3_gridFits 6 = .ok (.lstore 6, 2)) ∧ (decode cX3_gridFits 8 = .ok (.iconst 0, 1)) ∧ (decode cX3_gridFits 9 = .ok (.istore 8, 2)) ∧ (decode cX3_gridFits 11 = .ok (.iload 8, 2)) ∧ (decode cX3_gridFits 13 = .ok (.iload_n 1, 1)) ∧ (decode cX3_gridFits 14 = .ok (.if_icmp .ge 55, 3)) ∧ (decode cX3_gridFits 17 = .ok (.iload 8, 2)) ∧ (decode cX3_gridFits 19 = .ok (.iconst 4, 1)) ∧ (decode cX3_gridFits 20 = .ok (.if_icmp .ge 49, 3)) ∧ (decode cX3_gridFits 23 = .ok (.aload_n 0, 1)) ∧ (decode cX3_gridFits 24 = .ok (.getfield 9, 3)) := by decide +kernel
theorem dX3_gridFits_0 : decode cX3_gridFits 0 = .ok (.lconst 0, 1) := dg_X3_gridFits_0.1
theorem dX3_gridFits_1 : decode cX3_gridFits 1 = .ok (.lstore_n 2, 1) := dg_X3_gridFits_0.2.1
theorem dX3_gridFits_2 : decode cX3_gridFits 2 = .ok (.lconst 0, 1) := dg_X3_gridFits_0.2.2.1
theorem dX3_gridFits_3 : decode cX3_gridFits 3 = .ok (.lstore 4, 2) := dg_X3_gridFits_0.2.2.2.1
theorem dX3_gridFits_5 : decode cX3_gridFits 5 = .ok (.lconst 1, 1) := dg_X3_gridFits_0.2.2.2.2.1
theorem dX3_gridFits_6 : decode cX3_gridFits 6 = .ok (.lstore 6, 2) := dg_X3_gridFits_0.2.2.2.2.2.1
theorem dX3_gridFits_8 : decode cX3_gridFits 8 = .ok (.iconst 0, 1) := dg_X3_gridFits_0.2.2.2.2.2.2.1
theorem dX3_gridFits_9 : decode cX3_gridFits 9 = .ok (.istore 8, 2) := dg_X3_gridFits_0.2.2.2.2.2.2.2.1
theorem dX3_gridFits_11 : decode cX3_gridFits 11 = .ok (.iload 8, 2) := dg_X3_gridFits_0.2.2.2.2.2.2.2.2.1
theorem dX3_gridFits_13 : decode cX3_gridFits 13 = .ok (.iload_n 1, 1) := dg_X3_gridFits_0.2.2.2.2.2.2.2.2.2.1
theorem dX3_gridFits_14 : decode cX3_gridFits 14 = .ok (.if_icmp .ge 55, 3) := dg_X3_gridFits_0.2.2.2.2.2.2.2.2.2.2.1
theorem dX3_gridFits_17 : decode cX3_gridFits 17 = .ok (.iload 8, 2) := dg_X3_gridFits_0.2.2.2.2.2.2.2.2.2.2.2.1
theorem dX3_gridFits_19 : decode cX3_gridFits 19 = .ok (.iconst 4, 1) := dg_X3_gridFits_0.2.2.2.2.2.2.2.2.2.2.2.2.1
theorem dX3_gridFits_20 : decode cX3_gridFits 20 = .ok (.if_icmp .ge 49, 3) := dg_X3_gridFits_0.2.2.2.2.2.2.2.2.2.2.2.2.2.1
theorem dX3_gridFits_23 : decode cX3_gridFits 23 = .ok (.aload_n 0, 1) := dg_X3_gridFits_0.2.2.2.2.2.2.2.2.2.2.2.2.2.2.1
theorem dX3_gridFits_24 : decode cX3_gridFits 24 = .ok (.getfield 9, 3) := dg_X3_gridFits_0.2.2.2.2.2.2.2.2.2.2.2.2.2.2.2
theorem dg_X3_gridFits_27 : (decode cX3_gridFits 27 = .ok (.iload 8, 2)) ∧ (decode cX3_gridFits 29 = .ok (.iaload, 1)) ∧ (decode cX3_gridFits 30 = .ok (.sipush 200, 3)) ∧ (decode cX3_gridFits 33 = .ok (.if_icmp .le 5, 3)) ∧ (decode cX3_gridFits 36 = .ok (.iconst 0, 1)) ∧ (decode cX3_gridFits 37 = .ok (.ireturn, 1)) ∧ (decode cX3_gridFits 38 = .ok (.lload_n 2, 1)) ∧ (decode cX3_gridFits 39 = .ok (.lload 6, 2)) ∧ (decode cX3_gridFits 41 = .ok (.ladd, 1)) ∧ (decode cX3_gridFits 42 = .ok (.lstore_n 2, 1)) ∧ (decode cX3_gridFits 43 = .ok (.lload 6, 2)) ∧ (decode cX3_gridFits 45 = .ok (.aload_n 0, 1)) ∧ (decode cX3_gridFits 46 = .ok (.getfield 9, 3)) ∧ (decode cX3_gridFits 49 = .ok (.iload 8, 2)) ∧ (decode cX3_gridFits 51 = .ok (.iaload, 1)) ∧ (decode cX3_gridFits 52 = .ok (.i2l, 1)) := by decide +kernel
theorem dX3_gridFits_27 : decode cX3_gridFits 27 = .ok (.iload 8, 2) := dg_X3_gridFits_27.1
theorem dX3_gridFits_29 : decode cX3_gridFits 29 = .ok (.iaload, 1) := dg_X3_gridFits_27.2.1
theorem dX3_gridFits_30 : decode cX3_gridFits 30 = .ok (.sipush 200, 3) := dg_X3_gridFits_27.2.2.1
theorem dX3_gridFits_33 : decode cX3_gridFits 33 = .ok (.if_icmp .le 5, 3) := dg_X3_gridFits_27.2.2.2.1
theorem dX3_gridFits_36 : decode cX3_gridFits 36 = .ok (.iconst 0, 1) := dg_X3_gridFits_27.2.2.2.2.1
theorem dX3_gridFits_37 : decode cX3_gridFits 37 = .ok (.ireturn, 1) := dg_X3_gridFits_27.2.2.2.2.2.1
theorem dX3_gridFits_38 : decode cX3_gridFits 38 = .ok (.lload_n 2, 1) := dg_X3_gridFits_27.2.2.2.2.2.2.1
theorem dX3_gridFits_39 : decode cX3_gridFits 39 = .ok (.lload 6, 2) := dg_X3_gridFits_27.2.2.2.2.2.2.2.1
theorem dX3_gridFits_41 : decode cX3_gridFits 41 = .ok (.ladd, 1) := dg_X3_gridFits_27.2.2.2.2.2.2.2.2.1
theorem dX3_gridFits_42 : decode cX3_gridFits 42 = .ok (.lstore_n 2, 1) := dg_X3_gridFits_27.2.2.2.2.2.2.2.2.2.1
theorem dX3_gridFits_43 : decode cX3_gridFits 43 = .ok (.lload 6, 2) := dg_X3_gridFits_27.2.2.2.2.2.2.2.2.2.2.1
theorem dX3_gridFits_45 : decode cX3_gridFits 45 = .ok (.aload_n 0, 1) := dg_X3_gridFits_27.2.2.2.2.2.2.2.2.2.2.2.1
theorem dX3_gridFits_46 : decode cX3_gridFits 46 = .ok (.getfield 9, 3) := dg_X3_gridFits_27.2.2.2.2.2.2.2.2.2.2.2.2.1
theorem dX3_gridFits_49 : decode cX3_gridFits 49 = .ok (.iload 8, 2) := dg_X3_gridFits_27.2.2.2.2.2.2.2.2.2.2.2.2.2.1
theorem dX3_gridFits_51 : decode cX3_gridFits 51 = .ok (.iaload, 1) := dg_X3_gridFits_27.2.2.2.2.2.2.2.2.2.2.2.2.2.2.1
theorem dX3_gridFits_52 : decode cX3_gridFits 52 = .ok (.i2l, 1) := dg_X3_gridFits_27.2.2.2.2.2.2.2.2.2.2.2.2.2.2.2
theorem dg_X3_gridFits_53 : (decode cX3_gridFits 53 = .ok (.lmul, 1)) ∧ (decode cX3_gridFits 54 = .ok (.lstore 6, 2)) ∧ (decode cX3_gridFits 56 = .ok (.lload 4, 2)) ∧ (decode cX3_gridFits 58 = .ok (.lload 6, 2)) ∧ (decode cX3_gridFits 60 = .ok (.ladd, 1)) ∧ (decode cX3_gridFits 61 = .ok (.lstore 4, 2)) ∧ (decode cX3_gridFits 63 = .ok (.iinc 8 1, 3)) ∧ (decode cX3_gridFits 66 = .ok (.goto (-55), 3)) ∧ (decode cX3_gridFits 69 = .ok (.aload_n 0, 1)) ∧ (decode cX3_gridFits 70 = .ok (.getfield 15, 3)) ∧ (decode cX3_gridFits 73 = .ok (.lload_n 2, 1)) ∧ (decode cX3_gridFits 74 = .ok (.lload 4, 2)) ∧ (decode cX3_gridFits 76 = .ok (.invokevirtual 19, 3)) ∧ (decode cX3_gridFits 79 = .ok (.ireturn, 1)) := by decide +kernel
theorem dX3_gridFits_53 : decode cX3_gridFits 53 = .ok (.lmul, 1) := dg_X3_gridFits_53.1
theorem dX3_gridFits_54 : decode cX3_gridFits 54 = .ok (.lstore 6, 2) := dg_X3_gridFits_53.2.1
theorem dX3_gridFits_56 : decode cX3_gridFits 56 = .ok (.lload 4, 2) := dg_X3_gridFits_53.2.2.1
theorem dX3_gridFits_58 : decode cX3_gridFits 58 = .ok (.lload 6, 2) := dg_X3_gridFits_53.2.2.2.1
theorem dX3_gridFits_60 : decode cX3_gridFits 60 = .ok (.ladd, 1) := dg_X3_gridFits_53.2.2.2.2.1
theorem dX3_gridFits_61 : decode cX3_gridFits 61 = .ok (.lstore 4, 2) := dg_X3_gridFits_53.2.2.2.2.2.1
theorem dX3_gridFits_63 : decode cX3_gridFits 63 = .ok (.iinc 8 1, 3) := dg_X3_gridFits_53.2.2.2.2.2.2.1
theorem dX3_gridFits_66 : decode cX3_gridFits 66 = .ok (.goto (-55), 3) := dg_X3_gridFits_53.2.2.2.2.2.2.2.1
theorem dX3_gridFits_69 : decode cX3_gridFits 69 = .ok (.aload_n 0, 1) := dg_X3_gridFits_53.2.2.2.2.2.2.2.2.1
theorem dX3_gridFits_70 : decode cX3_gridFits 70 = .ok (.getfield 15, 3) := dg_X3_gridFits_53.2.2.2.2.2.2.2.2.2.1
theorem dX3_gridFits_73 : decode cX3_gridFits 73 = .ok (.lload_n 2, 1) := dg_X3_gridFits_53.2.2.2.2.2.2.2.2.2.2.1
theorem dX3_gridFits_74 : decode cX3_gridFits 74 = .ok (.lload 4, 2) := dg_X3_gridFits_53.2.2.2.2.2.2.2.2.2.2.2.1
theorem dX3_gridFits_76 : decode cX3_gridFits 76 = .ok (.invokevirtual 19, 3) := dg_X3_gridFits_53.2.2.2.2.2.2.2.2.2.2.2.2.1
theorem dX3_gridFits_79 : decode cX3_gridFits 79 = .ok (.ireturn, 1) := dg_X3_gridFits_53.2.2.2.2.2.2.2.2.2.2.2.2.2
abbrev rm_co_gridFits : Room := { frames := 1, cells := 0, slots := 0, locals := 24 }
abbrev po_co_gridFits (g : zz_G) (st : Nat) (mk : Nat) (ml : Nat) (pa : Int32) (pe : Int32) (lf : Nat → Int32) (kd : Nat) (dp : Nat) (cl : Nat) (sa : Nat) (ln : Nat) (bt : Nat) (pn : Nat) (bf : Nat) (na : Nat) (nu : Nat) (dpf : Nat → Int32) (saf : Nat → Int32) (lnf : Nat → Int32) (ll : Nat → Nat) (dd : Nat) (h_d : dd ≤ 4) (h_S : zz_SI na nu dpf saf lnf) (h_l : ∀ j, j < dd → lf j = nI (ll j) ∧ ll j < 2 ^ 31) : Int32 → va_W → Prop := fun (r : Int32) (u : va_W) => ((r = 0 ∧ ¬ zz_GF na nu ll dd) ∨ (r = 1 ∧ zz_GF na nu ll dd)) ∧ u = [cw_k2 mk st ml pa pe, cw_i g ml 4 lf, cw_k5 st (nI na) (nI nu) kd dp cl sa ln bt pn bf]
set_option maxHeartbeats 4000000 in
set_option maxRecDepth 100000 in
theorem co_gridFits (g : zz_G) (st : Nat) (mk : Nat) (ml : Nat) (pa : Int32) (pe : Int32) (lf : Nat → Int32) (kd : Nat) (dp : Nat) (cl : Nat) (sa : Nat) (ln : Nat) (bt : Nat) (pn : Nat) (bf : Nat) (na : Nat) (nu : Nat) (dpf : Nat → Int32) (saf : Nat → Int32) (lnf : Nat → Int32) (ll : Nat → Nat) (dd : Nat) (h_d : dd ≤ 4) (h_S : zz_SI na nu dpf saf lnf) (h_l : ∀ j, j < dd → lf j = nI (ll j) ∧ ll j < 2 ^ 31) : zz_I g yX3_gridFits (.code yX3_gridFits cX3_gridFits 9 (some .boolean)) rm_co_gridFits [.ref mk, .int (nI dd)] [cw_k2 mk st ml pa pe, cw_i g ml 4 lf, cw_k5 st (nI na) (nI nu) kd dp cl sa ln bt pn bf] (po_co_gridFits g st mk ml pa pe lf kd dp cl sa ln bt pn bf na nu dpf saf lnf ll dd h_d h_S h_l) := by
  refine zz_I.intro (own := RX3) (cc := cX3_gridFits) (nL := 9) (by decide) rfl (Nat.le_of_ble_eq_true rfl) ?_
  intro p l e s m args below meth c A H locs ls hC hnm hs hZ hl
  obtain ⟨hx, hb, hml, hown, hts, hr, hlocks, hK⟩ := id hC
  have hl : lv_has ls 9 [(0, .ref mk), (1, .int (nI dd))] := hl
  have hZ : zz_Z g A s.heap [cw_k2 mk st ml pa pe, cw_i g ml 4 lf, cw_k5 st (nI na) (nI nu) kd dp cl sa ln bt pn bf] H locs := hZ
  refine lv_lconst (v := 0) hx hb dX3_gridFits_0 (by decide) ?_
  refine lv_lstore_n (lv' := [(2, .long 0), (0, .ref mk), (1, .int (nI dd))]) hx hb dX3_gridFits_1 rfl hl (by decide) rfl (fun ls hl => ?_)
  refine lv_lconst (v := 0) hx hb dX3_gridFits_2 (by decide) ?_
  refine lv_lstore (lv' := [(4, .long 0), (2, .long 0), (0, .ref mk), (1, .int (nI dd))]) hx hb dX3_gridFits_3 hl (by decide) rfl (fun ls hl => ?_)
  refine lv_lconst (v := 1) hx hb dX3_gridFits_5 (by decide) ?_
  refine lv_lstore (lv' := [(6, .long 1), (4, .long 0), (2, .long 0), (0, .ref mk), (1, .int (nI dd))]) hx hb dX3_gridFits_6 hl (by decide) rfl (fun ls hl => ?_)
  refine lv_iconst (v := 0) hx hb dX3_gridFits_8 (by decide) ?_
  refine lv_istore (lv' := [(8, .int 0), (6, .long 1), (4, .long 0), (2, .long 0), (0, .ref mk), (1, .int (nI dd))]) hx hb dX3_gridFits_9 hl (by decide) rfl (fun ls hl => ?_)
  have LP1 : ∀ (N : Nat) (i : Nat) (w1 : Int64) (w2 : Int64) (w3 : Int64) (H : Heap) (locs : List Loc) (ls : Array Slot), (i ≤ dd) → (zz_AC ll i w1 w2 w3) → (dd - i) < N → zz_Z g A s.heap [cw_k2 mk st ml pa pe, cw_i g ml 4 lf, cw_k5 st (nI na) (nI nu) kd dp cl sa ln bt pn bf] H locs → lv_has ls 9 [(8, .int (nI i)), (6, .long w3), (4, .long w2), (2, .long w1), (0, .ref mk), (1, .int (nI dd))] → W p l e rm_co_gridFits s m args below meth c H locs 0 0 (zz_QI below g args s A rm_co_gridFits.cells rm_co_gridFits.slots (po_co_gridFits g st mk ml pa pe lf kd dp cl sa ln bt pn bf na nu dpf saf lnf ll dd h_d h_S h_l)) (F0 m 11 ls []) := by
    intro N
    induction N with
    | zero =>
      intro i w1 w2 w3 H locs ls hi hA hN
      exact absurd hN (Nat.not_lt_zero _)
    | succ N ih =>
      intro i w1 w2 w3 H locs ls hi hA hN hZ hl
      refine lv_iload hx hb dX3_gridFits_11 (lv_at hl 0 rfl) ?_
      refine lv_iload_n hx hb dX3_gridFits_13 rfl (lv_at hl 5 rfl) ?_
      have bd3 : dd < 2 ^ 31 := by omega
      have bd4 : i < 2 ^ 31 := by omega
      refine lv_icmp_ge (tgt := 69) hx hb dX3_gridFits_14 (by decide) (fun c2 => ?_) (fun c2 => ?_)
      · have nc2 : dd ≤ i := (nI_leI bd3 bd4).mp (show nI (dd) ≤ nI (i) from c2)
        refine lv_aload_n hx hb dX3_gridFits_69 rfl (lv_at hl 4 rfl) ?_
        refine zz_get hC hZ 0 rfl zf_X3_15 rfl dX3_gridFits_70 ?_
        refine lv_lload_n hx hb dX3_gridFits_73 rfl (lv_at hl 3 rfl) ?_
        refine lv_lload hx hb dX3_gridFits_74 (lv_at hl 2 rfl) ?_
        refine zz_iV (As := [.long w1, .long w2]) (wc := [cw_k5 st (nI na) (nI nu) kd dp cl sa ln bt pn bf]) (wr := [cw_k2 mk st ml pa pe, cw_i g ml 4 lf]) (rest := []) hC hZ hs hl zc_X3_19 (co_fits g st kd dp cl sa ln bt pn bf (nI na) (nI nu) w1 w2) [2] [0, 1] rfl rfl (by decide +kernel) (ci := 5) (q0 := 0) rfl rfl rfl rfl (Nat.le_of_ble_eq_true rfl) ⟨⟨Nat.le_of_ble_eq_true rfl, Nat.le_of_ble_eq_true rfl⟩, Nat.le_of_ble_eq_true rfl, Nat.le_of_ble_eq_true rfl⟩ dX3_gridFits_76 (fun r5 u6 H locs hp hZ => ?_)
        obtain ⟨rfl, rfl⟩ := hp
        have hZ : zz_Z g A s.heap [cw_k2 mk st ml pa pe, cw_i g ml 4 lf, cw_k5 st (nI na) (nI nu) kd dp cl sa ln bt pn bf] H locs := hZ
        exact zz_zret hC hZ (zl_b01 (zl_fits01 _ _ _ _)) (⟨zl_GFr (show zz_AC ll dd w1 w2 w3 from (show i = dd by omega) ▸ hA) h_d h_S.1 h_S.2.1, rfl⟩) (Nat.le_of_ble_eq_true rfl) (Nat.le_of_ble_eq_true rfl) dX3_gridFits_79
      · have nc2 : ¬ dd ≤ i := fun zq => c2 (show nI (dd) ≤ nI (i) from (nI_leI bd3 bd4).mpr zq)
        obtain ⟨el2, hlb⟩ := h_l i (by omega)
        refine lv_iload hx hb dX3_gridFits_17 (lv_at hl 0 rfl) ?_
        refine lv_iconst (v := 4) hx hb dX3_gridFits_19 (by decide) ?_
        refine lv_icmp_ge (tgt := 69) hx hb dX3_gridFits_20 (by decide) (fun c7 => ?_) (fun c7 => ?_)
        · have nc7 : 4 ≤ i := (nI_leI (by decide) bd4).mp (show nI (4) ≤ nI (i) from c7)
          refine lv_aload_n hx hb dX3_gridFits_69 rfl (lv_at hl 4 rfl) ?_
          refine zz_get hC hZ 0 rfl zf_X3_15 rfl dX3_gridFits_70 ?_
          refine lv_lload_n hx hb dX3_gridFits_73 rfl (lv_at hl 3 rfl) ?_
          refine lv_lload hx hb dX3_gridFits_74 (lv_at hl 2 rfl) ?_
          refine zz_iV (As := [.long w1, .long w2]) (wc := [cw_k5 st (nI na) (nI nu) kd dp cl sa ln bt pn bf]) (wr := [cw_k2 mk st ml pa pe, cw_i g ml 4 lf]) (rest := []) hC hZ hs hl zc_X3_19 (co_fits g st kd dp cl sa ln bt pn bf (nI na) (nI nu) w1 w2) [2] [0, 1] rfl rfl (by decide +kernel) (ci := 5) (q0 := 0) rfl rfl rfl rfl (Nat.le_of_ble_eq_true rfl) ⟨⟨Nat.le_of_ble_eq_true rfl, Nat.le_of_ble_eq_true rfl⟩, Nat.le_of_ble_eq_true rfl, Nat.le_of_ble_eq_true rfl⟩ dX3_gridFits_76 (fun r8 u9 H locs hp hZ => ?_)
          obtain ⟨rfl, rfl⟩ := hp
          have hZ : zz_Z g A s.heap [cw_k2 mk st ml pa pe, cw_i g ml 4 lf, cw_k5 st (nI na) (nI nu) kd dp cl sa ln bt pn bf] H locs := hZ
          exact zz_zret hC hZ (zl_b01 (zl_fits01 _ _ _ _)) (⟨zl_GFr (show zz_AC ll dd w1 w2 w3 from (show i = dd by omega) ▸ hA) h_d h_S.1 h_S.2.1, rfl⟩) (Nat.le_of_ble_eq_true rfl) (Nat.le_of_ble_eq_true rfl) dX3_gridFits_79
        · have nc7 : ¬ 4 ≤ i := fun zq => c7 (show nI (4) ≤ nI (i) from (nI_leI (by decide) bd4).mpr zq)
          refine lv_aload_n hx hb dX3_gridFits_23 rfl (lv_at hl 4 rfl) ?_
          refine zz_get hC hZ 0 rfl zf_X3_9 rfl dX3_gridFits_24 ?_
          refine lv_iload hx hb dX3_gridFits_27 (lv_at hl 0 rfl) ?_
          have bd10 : i < 4 := by omega
          refine zz_ialdn hC hZ 1 rfl bd10 (by decide) dX3_gridFits_29 ?_
          refine zz_topi (v := nI (ll i)) (el2) ?_
          refine lv_sipush (v := 200) hx hb dX3_gridFits_30 (by decide) ?_
          have bd12 : (ll i) < 2 ^ 31 := by omega
          refine lv_icmp_le (tgt := 38) hx hb dX3_gridFits_33 (by decide) (fun c11 => ?_) (fun c11 => ?_)
          · have nc11 : (ll i) ≤ 200 := (nI_leI bd12 (by decide)).mp (show nI ((ll i)) ≤ nI (200) from c11)
            refine lv_lload_n hx hb dX3_gridFits_38 rfl (lv_at hl 3 rfl) ?_
            refine lv_lload hx hb dX3_gridFits_39 (lv_at hl 1 rfl) ?_
            refine lv_ladd hx hb dX3_gridFits_41 ?_
            refine lv_lstore_n (lv' := [(2, .long (w1 + w3)), (8, .int (nI i)), (6, .long w3), (4, .long w2), (0, .ref mk), (1, .int (nI dd))]) hx hb dX3_gridFits_42 rfl hl (by decide) rfl (fun ls hl => ?_)
            refine lv_lload hx hb dX3_gridFits_43 (lv_at hl 2 rfl) ?_
            refine lv_aload_n hx hb dX3_gridFits_45 rfl (lv_at hl 4 rfl) ?_
            refine zz_get hC hZ 0 rfl zf_X3_9 rfl dX3_gridFits_46 ?_
            refine lv_iload hx hb dX3_gridFits_49 (lv_at hl 1 rfl) ?_
            refine zz_ialdn hC hZ 1 rfl bd10 (by decide) dX3_gridFits_51 ?_
            refine zz_topi (v := nI (ll i)) (el2) ?_
            refine lv_i2l hx hb dX3_gridFits_52 rfl ?_
            refine lv_lmul hx hb dX3_gridFits_53 ?_
            refine lv_lstore (lv' := [(6, .long (w3 * ((nI (ll i)).toInt64))), (2, .long (w1 + w3)), (8, .int (nI i)), (4, .long w2), (0, .ref mk), (1, .int (nI dd))]) hx hb dX3_gridFits_54 hl (by decide) rfl (fun ls hl => ?_)
            refine lv_lload hx hb dX3_gridFits_56 (lv_at hl 3 rfl) ?_
            refine lv_lload hx hb dX3_gridFits_58 (lv_at hl 0 rfl) ?_
            refine lv_ladd hx hb dX3_gridFits_60 ?_
            refine lv_lstore (lv' := [(4, .long (w2 + (w3 * ((nI (ll i)).toInt64)))), (6, .long (w3 * ((nI (ll i)).toInt64))), (2, .long (w1 + w3)), (8, .int (nI i)), (0, .ref mk), (1, .int (nI dd))]) hx hb dX3_gridFits_61 hl (by decide) rfl (fun ls hl => ?_)
            refine lv_iinc (v := nI (i + 1)) (lv' := [(8, .int (nI (i + 1))), (4, .long (w2 + (w3 * ((nI (ll i)).toInt64)))), (6, .long (w3 * ((nI (ll i)).toInt64))), (2, .long (w1 + w3)), (0, .ref mk), (1, .int (nI dd))]) hx hb dX3_gridFits_63 hl (k := 3) rfl (nI_1 _) (by decide) rfl (fun ls hl => ?_)
            refine lv_goto (tgt := 11) hx hb dX3_gridFits_66 (by decide) ?_
            exact ih (i + 1) (w1 + w3) (w2 + (w3 * ((nI (ll i)).toInt64))) (w3 * ((nI (ll i)).toInt64)) H locs ls (by omega) (zl_acc2 hA (by omega)) (by omega) hZ (lv_sub hl [0, 2, 1, 3, 4, 5] rfl)
          · have nc11 : ¬ (ll i) ≤ 200 := fun zq => c11 (show nI ((ll i)) ≤ nI (200) from (nI_leI bd12 (by decide)).mpr zq)
            refine lv_iconst (v := 0) hx hb dX3_gridFits_36 (by decide) ?_
            exact zz_zret hC hZ (by decide) (⟨Or.inl ⟨rfl, fun zq => absurd (zq.1 i (by omega)) (by omega)⟩, rfl⟩) (Nat.le_of_ble_eq_true rfl) (Nat.le_of_ble_eq_true rfl) dX3_gridFits_37
  exact LP1 _ 0 0 0 1 H locs ls (by omega) (⟨fun j hj => absurd hj (Nat.not_lt_zero j), (by show (0 : Int64) = lN 0; decide), (by show (0 : Int64) = lN 0; decide), (by show (1 : Int64) = lN 1; decide)⟩) (Nat.lt_succ_self _) hZ (lv_sub hl [0, 1, 2, 3, 4, 5] rfl)
theorem dg_X3_gridAt_0 : (decode cX3_gridAt 0 = .ok (.iload_n 3, 1)) ∧ (decode cX3_gridAt 1 = .ok (.iconst 4, 1)) ∧ (decode cX3_gridAt 2 = .ok (.if_icmp .ge 21, 3)) ∧ (decode cX3_gridAt 5 = .ok (.aload_n 0, 1)) ∧ (decode cX3_gridAt 6 = .ok (.getfield 15, 3)) ∧ (decode cX3_gridAt 9 = .ok (.lconst 1, 1)) ∧ (decode cX3_gridAt 10 = .ok (.aload_n 0, 1)) ∧ (decode cX3_gridAt 11 = .ok (.getfield 9, 3)) ∧ (decode cX3_gridAt 14 = .ok (.iload_n 3, 1)) ∧ (decode cX3_gridAt 15 = .ok (.iaload, 1)) ∧ (decode cX3_gridAt 16 = .ok (.i2l, 1)) ∧ (decode cX3_gridAt 17 = .ok (.invokevirtual 19, 3)) ∧ (decode cX3_gridAt 20 = .ok (.ifCond .ne 5, 3)) ∧ (decode cX3_gridAt 23 = .ok (.iconst (-1), 1)) ∧ (decode cX3_gridAt 24 = .ok (.ireturn, 1)) ∧ (decode cX3_gridAt 25 = .ok (.aload_n 0, 1)) := by decide +kernel
theorem dX3_gridAt_0 : decode cX3_gridAt 0 = .ok (.iload_n 3, 1) := dg_X3_gridAt_0.1
theorem dX3_gridAt_1 : decode cX3_gridAt 1 = .ok (.iconst 4, 1) := dg_X3_gridAt_0.2.1
theorem dX3_gridAt_2 : decode cX3_gridAt 2 = .ok (.if_icmp .ge 21, 3) := dg_X3_gridAt_0.2.2.1
theorem dX3_gridAt_5 : decode cX3_gridAt 5 = .ok (.aload_n 0, 1) := dg_X3_gridAt_0.2.2.2.1
theorem dX3_gridAt_6 : decode cX3_gridAt 6 = .ok (.getfield 15, 3) := dg_X3_gridAt_0.2.2.2.2.1
theorem dX3_gridAt_9 : decode cX3_gridAt 9 = .ok (.lconst 1, 1) := dg_X3_gridAt_0.2.2.2.2.2.1
theorem dX3_gridAt_10 : decode cX3_gridAt 10 = .ok (.aload_n 0, 1) := dg_X3_gridAt_0.2.2.2.2.2.2.1
theorem dX3_gridAt_11 : decode cX3_gridAt 11 = .ok (.getfield 9, 3) := dg_X3_gridAt_0.2.2.2.2.2.2.2.1
theorem dX3_gridAt_14 : decode cX3_gridAt 14 = .ok (.iload_n 3, 1) := dg_X3_gridAt_0.2.2.2.2.2.2.2.2.1
theorem dX3_gridAt_15 : decode cX3_gridAt 15 = .ok (.iaload, 1) := dg_X3_gridAt_0.2.2.2.2.2.2.2.2.2.1
theorem dX3_gridAt_16 : decode cX3_gridAt 16 = .ok (.i2l, 1) := dg_X3_gridAt_0.2.2.2.2.2.2.2.2.2.2.1
theorem dX3_gridAt_17 : decode cX3_gridAt 17 = .ok (.invokevirtual 19, 3) := dg_X3_gridAt_0.2.2.2.2.2.2.2.2.2.2.2.1
theorem dX3_gridAt_20 : decode cX3_gridAt 20 = .ok (.ifCond .ne 5, 3) := dg_X3_gridAt_0.2.2.2.2.2.2.2.2.2.2.2.2.1
theorem dX3_gridAt_23 : decode cX3_gridAt 23 = .ok (.iconst (-1), 1) := dg_X3_gridAt_0.2.2.2.2.2.2.2.2.2.2.2.2.2.1
theorem dX3_gridAt_24 : decode cX3_gridAt 24 = .ok (.ireturn, 1) := dg_X3_gridAt_0.2.2.2.2.2.2.2.2.2.2.2.2.2.2.1
theorem dX3_gridAt_25 : decode cX3_gridAt 25 = .ok (.aload_n 0, 1) := dg_X3_gridAt_0.2.2.2.2.2.2.2.2.2.2.2.2.2.2.2
theorem dg_X3_gridAt_26 : (decode cX3_gridAt 26 = .ok (.getfield 15, 3)) ∧ (decode cX3_gridAt 29 = .ok (.iload_n 1, 1)) ∧ (decode cX3_gridAt 30 = .ok (.iload_n 2, 1)) ∧ (decode cX3_gridAt 31 = .ok (.iload_n 3, 1)) ∧ (decode cX3_gridAt 32 = .ok (.isub, 1)) ∧ (decode cX3_gridAt 33 = .ok (.iconst (-1), 1)) ∧ (decode cX3_gridAt 34 = .ok (.aload_n 0, 1)) ∧ (decode cX3_gridAt 35 = .ok (.getfield 9, 3)) ∧ (decode cX3_gridAt 38 = .ok (.iload_n 3, 1)) ∧ (decode cX3_gridAt 39 = .ok (.iaload, 1)) ∧ (decode cX3_gridAt 40 = .ok (.invokevirtual 29, 3)) ∧ (decode cX3_gridAt 43 = .ok (.istore 4, 2)) ∧ (decode cX3_gridAt 45 = .ok (.iload_n 3, 1)) ∧ (decode cX3_gridAt 46 = .ok (.iconst 1, 1)) ∧ (decode cX3_gridAt 47 = .ok (.iadd, 1)) ∧ (decode cX3_gridAt 48 = .ok (.iload_n 2, 1)) := by decide +kernel
theorem dX3_gridAt_26 : decode cX3_gridAt 26 = .ok (.getfield 15, 3) := dg_X3_gridAt_26.1
theorem dX3_gridAt_29 : decode cX3_gridAt 29 = .ok (.iload_n 1, 1) := dg_X3_gridAt_26.2.1
theorem dX3_gridAt_30 : decode cX3_gridAt 30 = .ok (.iload_n 2, 1) := dg_X3_gridAt_26.2.2.1
theorem dX3_gridAt_31 : decode cX3_gridAt 31 = .ok (.iload_n 3, 1) := dg_X3_gridAt_26.2.2.2.1
theorem dX3_gridAt_32 : decode cX3_gridAt 32 = .ok (.isub, 1) := dg_X3_gridAt_26.2.2.2.2.1
theorem dX3_gridAt_33 : decode cX3_gridAt 33 = .ok (.iconst (-1), 1) := dg_X3_gridAt_26.2.2.2.2.2.1
theorem dX3_gridAt_34 : decode cX3_gridAt 34 = .ok (.aload_n 0, 1) := dg_X3_gridAt_26.2.2.2.2.2.2.1
theorem dX3_gridAt_35 : decode cX3_gridAt 35 = .ok (.getfield 9, 3) := dg_X3_gridAt_26.2.2.2.2.2.2.2.1
theorem dX3_gridAt_38 : decode cX3_gridAt 38 = .ok (.iload_n 3, 1) := dg_X3_gridAt_26.2.2.2.2.2.2.2.2.1
theorem dX3_gridAt_39 : decode cX3_gridAt 39 = .ok (.iaload, 1) := dg_X3_gridAt_26.2.2.2.2.2.2.2.2.2.1
theorem dX3_gridAt_40 : decode cX3_gridAt 40 = .ok (.invokevirtual 29, 3) := dg_X3_gridAt_26.2.2.2.2.2.2.2.2.2.2.1
theorem dX3_gridAt_43 : decode cX3_gridAt 43 = .ok (.istore 4, 2) := dg_X3_gridAt_26.2.2.2.2.2.2.2.2.2.2.2.1
theorem dX3_gridAt_45 : decode cX3_gridAt 45 = .ok (.iload_n 3, 1) := dg_X3_gridAt_26.2.2.2.2.2.2.2.2.2.2.2.2.1
theorem dX3_gridAt_46 : decode cX3_gridAt 46 = .ok (.iconst 1, 1) := dg_X3_gridAt_26.2.2.2.2.2.2.2.2.2.2.2.2.2.1
theorem dX3_gridAt_47 : decode cX3_gridAt 47 = .ok (.iadd, 1) := dg_X3_gridAt_26.2.2.2.2.2.2.2.2.2.2.2.2.2.2.1
theorem dX3_gridAt_48 : decode cX3_gridAt 48 = .ok (.iload_n 2, 1) := dg_X3_gridAt_26.2.2.2.2.2.2.2.2.2.2.2.2.2.2.2
theorem dg_X3_gridAt_49 : (decode cX3_gridAt 49 = .ok (.if_icmp .ge 54, 3)) ∧ (decode cX3_gridAt 52 = .ok (.iconst 0, 1)) ∧ (decode cX3_gridAt 53 = .ok (.istore 5, 2)) ∧ (decode cX3_gridAt 55 = .ok (.iload 5, 2)) ∧ (decode cX3_gridAt 57 = .ok (.aload_n 0, 1)) ∧ (decode cX3_gridAt 58 = .ok (.getfield 9, 3)) ∧ (decode cX3_gridAt 61 = .ok (.iload_n 3, 1)) ∧ (decode cX3_gridAt 62 = .ok (.iaload, 1)) ∧ (decode cX3_gridAt 63 = .ok (.if_icmp .ge 40, 3)) ∧ (decode cX3_gridAt 66 = .ok (.aload_n 0, 1)) ∧ (decode cX3_gridAt 67 = .ok (.getfield 15, 3)) ∧ (decode cX3_gridAt 70 = .ok (.getfield 33, 3)) ∧ (decode cX3_gridAt 73 = .ok (.aload_n 0, 1)) ∧ (decode cX3_gridAt 74 = .ok (.getfield 15, 3)) ∧ (decode cX3_gridAt 77 = .ok (.getfield 37, 3)) ∧ (decode cX3_gridAt 80 = .ok (.iload 4, 2)) := by decide +kernel
theorem dX3_gridAt_49 : decode cX3_gridAt 49 = .ok (.if_icmp .ge 54, 3) := dg_X3_gridAt_49.1
theorem dX3_gridAt_52 : decode cX3_gridAt 52 = .ok (.iconst 0, 1) := dg_X3_gridAt_49.2.1
theorem dX3_gridAt_53 : decode cX3_gridAt 53 = .ok (.istore 5, 2) := dg_X3_gridAt_49.2.2.1
theorem dX3_gridAt_55 : decode cX3_gridAt 55 = .ok (.iload 5, 2) := dg_X3_gridAt_49.2.2.2.1
theorem dX3_gridAt_57 : decode cX3_gridAt 57 = .ok (.aload_n 0, 1) := dg_X3_gridAt_49.2.2.2.2.1
theorem dX3_gridAt_58 : decode cX3_gridAt 58 = .ok (.getfield 9, 3) := dg_X3_gridAt_49.2.2.2.2.2.1
theorem dX3_gridAt_61 : decode cX3_gridAt 61 = .ok (.iload_n 3, 1) := dg_X3_gridAt_49.2.2.2.2.2.2.1
theorem dX3_gridAt_62 : decode cX3_gridAt 62 = .ok (.iaload, 1) := dg_X3_gridAt_49.2.2.2.2.2.2.2.1
theorem dX3_gridAt_63 : decode cX3_gridAt 63 = .ok (.if_icmp .ge 40, 3) := dg_X3_gridAt_49.2.2.2.2.2.2.2.2.1
theorem dX3_gridAt_66 : decode cX3_gridAt 66 = .ok (.aload_n 0, 1) := dg_X3_gridAt_49.2.2.2.2.2.2.2.2.2.1
theorem dX3_gridAt_67 : decode cX3_gridAt 67 = .ok (.getfield 15, 3) := dg_X3_gridAt_49.2.2.2.2.2.2.2.2.2.2.1
theorem dX3_gridAt_70 : decode cX3_gridAt 70 = .ok (.getfield 33, 3) := dg_X3_gridAt_49.2.2.2.2.2.2.2.2.2.2.2.1
theorem dX3_gridAt_73 : decode cX3_gridAt 73 = .ok (.aload_n 0, 1) := dg_X3_gridAt_49.2.2.2.2.2.2.2.2.2.2.2.2.1
theorem dX3_gridAt_74 : decode cX3_gridAt 74 = .ok (.getfield 15, 3) := dg_X3_gridAt_49.2.2.2.2.2.2.2.2.2.2.2.2.2.1
theorem dX3_gridAt_77 : decode cX3_gridAt 77 = .ok (.getfield 37, 3) := dg_X3_gridAt_49.2.2.2.2.2.2.2.2.2.2.2.2.2.2.1
theorem dX3_gridAt_80 : decode cX3_gridAt 80 = .ok (.iload 4, 2) := dg_X3_gridAt_49.2.2.2.2.2.2.2.2.2.2.2.2.2.2.2
theorem dg_X3_gridAt_82 : (decode cX3_gridAt 82 = .ok (.iaload, 1)) ∧ (decode cX3_gridAt 83 = .ok (.iload 5, 2)) ∧ (decode cX3_gridAt 85 = .ok (.iadd, 1)) ∧ (decode cX3_gridAt 86 = .ok (.aload_n 0, 1)) ∧ (decode cX3_gridAt 87 = .ok (.iload_n 1, 1)) ∧ (decode cX3_gridAt 88 = .ok (.iload_n 2, 1)) ∧ (decode cX3_gridAt 89 = .ok (.iload_n 3, 1)) ∧ (decode cX3_gridAt 90 = .ok (.iconst 1, 1)) ∧ (decode cX3_gridAt 91 = .ok (.iadd, 1)) ∧ (decode cX3_gridAt 92 = .ok (.invokevirtual 25, 3)) ∧ (decode cX3_gridAt 95 = .ok (.i2l, 1)) ∧ (decode cX3_gridAt 96 = .ok (.lastore, 1)) ∧ (decode cX3_gridAt 97 = .ok (.iinc 5 1, 3)) ∧ (decode cX3_gridAt 100 = .ok (.goto (-45), 3)) ∧ (decode cX3_gridAt 103 = .ok (.iload 4, 2)) ∧ (decode cX3_gridAt 105 = .ok (.ireturn, 1)) := by decide +kernel
theorem dX3_gridAt_82 : decode cX3_gridAt 82 = .ok (.iaload, 1) := dg_X3_gridAt_82.1
theorem dX3_gridAt_83 : decode cX3_gridAt 83 = .ok (.iload 5, 2) := dg_X3_gridAt_82.2.1
theorem dX3_gridAt_85 : decode cX3_gridAt 85 = .ok (.iadd, 1) := dg_X3_gridAt_82.2.2.1
theorem dX3_gridAt_86 : decode cX3_gridAt 86 = .ok (.aload_n 0, 1) := dg_X3_gridAt_82.2.2.2.1
theorem dX3_gridAt_87 : decode cX3_gridAt 87 = .ok (.iload_n 1, 1) := dg_X3_gridAt_82.2.2.2.2.1
theorem dX3_gridAt_88 : decode cX3_gridAt 88 = .ok (.iload_n 2, 1) := dg_X3_gridAt_82.2.2.2.2.2.1
theorem dX3_gridAt_89 : decode cX3_gridAt 89 = .ok (.iload_n 3, 1) := dg_X3_gridAt_82.2.2.2.2.2.2.1
theorem dX3_gridAt_90 : decode cX3_gridAt 90 = .ok (.iconst 1, 1) := dg_X3_gridAt_82.2.2.2.2.2.2.2.1
theorem dX3_gridAt_91 : decode cX3_gridAt 91 = .ok (.iadd, 1) := dg_X3_gridAt_82.2.2.2.2.2.2.2.2.1
theorem dX3_gridAt_92 : decode cX3_gridAt 92 = .ok (.invokevirtual 25, 3) := dg_X3_gridAt_82.2.2.2.2.2.2.2.2.2.1
theorem dX3_gridAt_95 : decode cX3_gridAt 95 = .ok (.i2l, 1) := dg_X3_gridAt_82.2.2.2.2.2.2.2.2.2.2.1
theorem dX3_gridAt_96 : decode cX3_gridAt 96 = .ok (.lastore, 1) := dg_X3_gridAt_82.2.2.2.2.2.2.2.2.2.2.2.1
theorem dX3_gridAt_97 : decode cX3_gridAt 97 = .ok (.iinc 5 1, 3) := dg_X3_gridAt_82.2.2.2.2.2.2.2.2.2.2.2.2.1
theorem dX3_gridAt_100 : decode cX3_gridAt 100 = .ok (.goto (-45), 3) := dg_X3_gridAt_82.2.2.2.2.2.2.2.2.2.2.2.2.2.1
theorem dX3_gridAt_103 : decode cX3_gridAt 103 = .ok (.iload 4, 2) := dg_X3_gridAt_82.2.2.2.2.2.2.2.2.2.2.2.2.2.2.1
theorem dX3_gridAt_105 : decode cX3_gridAt 105 = .ok (.ireturn, 1) := dg_X3_gridAt_82.2.2.2.2.2.2.2.2.2.2.2.2.2.2.2
abbrev rm_co_gridAt1 : Room := { frames := 1, cells := 0, slots := 0, locals := 26 }
abbrev po_co_gridAt1 (g : zz_G) (st : Nat) (mk : Nat) (ml : Nat) (pa : Int32) (pe : Int32) (lf : Nat → Int32) (kd : Nat) (dp : Nat) (cl : Nat) (sa : Nat) (ln : Nat) (bt : Nat) (pn : Nat) (bf : Nat) (na : Nat) (nu : Nat) (kdf : Nat → Int32) (dpf : Nat → Int32) (clf : Nat → Int32) (saf : Nat → Int32) (lnf : Nat → Int32) (btf : Nat → Int64) (ll : Nat → Nat) (t : Nat) (dd : Nat) (k : Int32) (h_t : t + 1 = dd) (h_d : dd ≤ 4) (h_m : na + zz_TT2 ll 1 t ≤ 60 ∧ nu + zz_EE ll 1 t ≤ 4000) (h_S : zz_SI na nu dpf saf lnf) (h_l : ∀ j, j < dd → lf j = nI (ll j) ∧ ll j ≤ 200) : Int32 → va_W → Prop := fun (r : Int32) (u : va_W) => ∃ (na2 : Nat) (nu2 : Nat) (kd2 : Nat → Int32) (dp2 : Nat → Int32) (cl2 : Nat → Int32) (sa2 : Nat → Int32) (ln2 : Nat → Int32) (bt2 : Nat → Int64), r = nI na ∧ (zz_SI na2 nu2 dp2 sa2 ln2) ∧ (na ≤ na2) ∧ (zz_EX na dpf saf lnf dp2 sa2 ln2) ∧ ((na2, nu2, kd2, dp2, cl2, sa2, ln2, bt2) = sp_grid k ll 1 t (na, nu, kdf, dpf, clf, saf, lnf, btf)) ∧ u = [cw_k2 mk st ml pa pe, cw_i g ml 4 lf, cw_k5 st (nI na2) (nI nu2) kd dp cl sa ln bt pn bf, cw_i g kd 60 kd2, cw_i g dp 60 dp2, cw_i g cl 60 cl2, cw_i g sa 60 sa2, cw_i g ln 60 ln2, cw_l g bt 4000 bt2]
set_option maxHeartbeats 4000000 in
set_option maxRecDepth 100000 in
theorem co_gridAt1 (g : zz_G) (st : Nat) (mk : Nat) (ml : Nat) (pa : Int32) (pe : Int32) (lf : Nat → Int32) (kd : Nat) (dp : Nat) (cl : Nat) (sa : Nat) (ln : Nat) (bt : Nat) (pn : Nat) (bf : Nat) (na : Nat) (nu : Nat) (kdf : Nat → Int32) (dpf : Nat → Int32) (clf : Nat → Int32) (saf : Nat → Int32) (lnf : Nat → Int32) (btf : Nat → Int64) (ll : Nat → Nat) (t : Nat) (dd : Nat) (k : Int32) (h_t : t + 1 = dd) (h_d : dd ≤ 4) (h_m : na + zz_TT2 ll 1 t ≤ 60 ∧ nu + zz_EE ll 1 t ≤ 4000) (h_S : zz_SI na nu dpf saf lnf) (h_l : ∀ j, j < dd → lf j = nI (ll j) ∧ ll j ≤ 200) : zz_I g yX3_gridAt (.code yX3_gridAt cX3_gridAt 6 (some .int)) rm_co_gridAt1 [.ref mk, .int k, .int (nI dd), .int (nI t)] [cw_k2 mk st ml pa pe, cw_i g ml 4 lf, cw_k5 st (nI na) (nI nu) kd dp cl sa ln bt pn bf, cw_i g kd 60 kdf, cw_i g dp 60 dpf, cw_i g cl 60 clf, cw_i g sa 60 saf, cw_i g ln 60 lnf, cw_l g bt 4000 btf] (po_co_gridAt1 g st mk ml pa pe lf kd dp cl sa ln bt pn bf na nu kdf dpf clf saf lnf btf ll t dd k h_t h_d h_m h_S h_l) := by
  refine zz_I.intro (own := RX3) (cc := cX3_gridAt) (nL := 6) (by decide) rfl (Nat.le_of_ble_eq_true rfl) ?_
  intro p l e s m args below meth c A H locs ls hC hnm hs hZ hl
  obtain ⟨hx, hb, hml, hown, hts, hr, hlocks, hK⟩ := id hC
  have hl : lv_has ls 6 [(0, .ref mk), (1, .int k), (2, .int (nI dd)), (3, .int (nI t))] := hl
  have hZ : zz_Z g A s.heap [cw_k2 mk st ml pa pe, cw_i g ml 4 lf, cw_k5 st (nI na) (nI nu) kd dp cl sa ln bt pn bf, cw_i g kd 60 kdf, cw_i g dp 60 dpf, cw_i g cl 60 clf, cw_i g sa 60 saf, cw_i g ln 60 lnf, cw_l g bt 4000 btf] H locs := hZ
  have hna := h_S.1
  have hnu := h_S.2.1
  obtain ⟨elt, hlt⟩ := h_l t (by omega)
  have hTT : zz_TT2 ll 1 t = 1 + ll t * zz_TT2 ll 0 (t + 1) := rfl
  have hEE : zz_EE ll 1 t = ll t + ll t * zz_EE ll 0 (t + 1) := rfl
  refine lv_iload_n hx hb dX3_gridAt_0 rfl (lv_at hl 3 rfl) ?_
  refine lv_iconst (v := 4) hx hb dX3_gridAt_1 (by decide) ?_
  refine lv_icmp_ge (tgt := 23) hx hb dX3_gridAt_2 (by decide) (fun c => absurd c ((nI_ge (b := 4) (by omega) (by decide) : ¬ nI 4 ≤ nI t))) (fun c1 => ?_)
  refine lv_aload_n hx hb dX3_gridAt_5 rfl (lv_at hl 0 rfl) ?_
  refine zz_get hC hZ 0 rfl zf_X3_15 rfl dX3_gridAt_6 ?_
  refine lv_lconst (v := 1) hx hb dX3_gridAt_9 (by decide) ?_
  refine lv_aload_n hx hb dX3_gridAt_10 rfl (lv_at hl 0 rfl) ?_
  refine zz_get hC hZ 0 rfl zf_X3_9 rfl dX3_gridAt_11 ?_
  refine lv_iload_n hx hb dX3_gridAt_14 rfl (lv_at hl 3 rfl) ?_
  have bd2 : t < 4 := by omega
  refine zz_ialdn hC hZ 1 rfl bd2 (by decide) dX3_gridAt_15 ?_
  refine zz_topi (v := nI (ll t)) (elt) ?_
  refine lv_i2l hx hb dX3_gridAt_16 rfl ?_
  refine zz_iV (As := [.long 1, .long ((nI (ll t)).toInt64)]) (wc := [cw_k5 st (nI na) (nI nu) kd dp cl sa ln bt pn bf]) (wr := [cw_k2 mk st ml pa pe, cw_i g ml 4 lf, cw_i g kd 60 kdf, cw_i g dp 60 dpf, cw_i g cl 60 clf, cw_i g sa 60 saf, cw_i g ln 60 lnf, cw_l g bt 4000 btf]) (rest := []) hC hZ hs hl zc_X3_19 (co_fits g st kd dp cl sa ln bt pn bf (nI na) (nI nu) 1 ((nI (ll t)).toInt64)) [2] [0, 1, 3, 4, 5, 6, 7, 8] rfl rfl (by decide +kernel) (ci := 5) (q0 := 0) rfl rfl rfl rfl (Nat.le_of_ble_eq_true rfl) ⟨⟨Nat.le_of_ble_eq_true rfl, Nat.le_of_ble_eq_true rfl⟩, Nat.le_of_ble_eq_true rfl, Nat.le_of_ble_eq_true rfl⟩ dX3_gridAt_17 (fun r3 u4 H locs hp hZ => ?_)
  obtain ⟨rfl, rfl⟩ := hp
  have hZ : zz_Z g A s.heap [cw_k2 mk st ml pa pe, cw_i g ml 4 lf, cw_i g kd 60 kdf, cw_i g dp 60 dpf, cw_i g cl 60 clf, cw_i g sa 60 saf, cw_i g ln 60 lnf, cw_l g bt 4000 btf, cw_k5 st (nI na) (nI nu) kd dp cl sa ln bt pn bf] H locs := hZ
  refine lv_if_ne (tgt := 25) hx hb dX3_gridAt_20 (by decide) (fun c5 => ?_) (fun c => absurd c (zl_fitN (by omega) (by omega)))
  refine lv_aload_n hx hb dX3_gridAt_25 rfl (lv_at hl 0 rfl) ?_
  refine zz_get hC hZ 0 rfl zf_X3_15 rfl dX3_gridAt_26 ?_
  refine lv_iload_n hx hb dX3_gridAt_29 rfl (lv_at hl 1 rfl) ?_
  refine lv_iload_n hx hb dX3_gridAt_30 rfl (lv_at hl 2 rfl) ?_
  refine lv_iload_n hx hb dX3_gridAt_31 rfl (lv_at hl 3 rfl) ?_
  refine lv_isub hx hb dX3_gridAt_32 ?_
  refine zz_topi (v := nI (dd - t)) (pk_sub (by omega)) ?_
  refine lv_iconst (v := -1) hx hb dX3_gridAt_33 (by decide) ?_
  refine lv_aload_n hx hb dX3_gridAt_34 rfl (lv_at hl 0 rfl) ?_
  refine zz_get hC hZ 0 rfl zf_X3_9 rfl dX3_gridAt_35 ?_
  refine lv_iload_n hx hb dX3_gridAt_38 rfl (lv_at hl 3 rfl) ?_
  refine zz_ialdn hC hZ 1 rfl bd2 (by decide) dX3_gridAt_39 ?_
  refine zz_topi (v := nI (ll t)) (elt) ?_
  refine zz_iV (As := [.int k, .int (nI (dd - t)), .int (-1), .int (nI (ll t))]) (wc := [cw_k5 st (nI na) (nI nu) kd dp cl sa ln bt pn bf, cw_i g kd 60 kdf, cw_i g dp 60 dpf, cw_i g cl 60 clf, cw_i g sa 60 saf, cw_i g ln 60 lnf, cw_l g bt 4000 btf]) (wr := [cw_k2 mk st ml pa pe, cw_i g ml 4 lf]) (rest := []) hC hZ hs hl zc_X3_29 (co_add g st kd dp cl sa ln bt pn bf na nu (ll t) kdf dpf clf saf lnf btf k (nI (dd - t)) (-1) (by omega) (by omega)) [8, 2, 3, 4, 5, 6, 7] [0, 1] rfl rfl (by decide +kernel) (ci := 5) (q0 := 0) rfl rfl rfl rfl (Nat.le_of_ble_eq_true rfl) ⟨⟨Nat.le_of_ble_eq_true rfl, Nat.le_of_ble_eq_true rfl⟩, Nat.le_of_ble_eq_true rfl, Nat.le_of_ble_eq_true rfl⟩ dX3_gridAt_40 (fun r6 u7 H locs hp hZ => ?_)
  obtain ⟨bt2_8, rfl, f9, rfl⟩ := hp
  have hZ : zz_Z g A s.heap [cw_k2 mk st ml pa pe, cw_i g ml 4 lf, cw_k5 st (nI (na + 1)) (nI (nu + (ll t))) kd dp cl sa ln bt pn bf, cw_i g kd 60 (upd kdf na k), cw_i g dp 60 (upd dpf na (nI (dd - t))), cw_i g cl 60 (upd clf na (-1)), cw_i g sa 60 (upd saf na (nI nu)), cw_i g ln 60 (upd lnf na (nI (ll t))), cw_l g bt 4000 bt2_8] H locs := hZ
  have hSA := zz_SI_add h_S (by omega) (by omega) hlt (d := dd - t) ⟨by omega, by omega⟩
  have hAD : (na + 1, nu + ll t, upd kdf na k, upd dpf na (nI (dd - t)), upd clf na (-1), upd saf na (nI nu), upd lnf na (nI (ll t)), bt2_8) = sp_add k (nI 1) (-1) (ll t) (na, nu, kdf, dpf, clf, saf, lnf, btf) := by rw [f9, show dd - t = 1 by omega]; rfl
  refine lv_istore (lv' := [(4, .int (nI na)), (0, .ref mk), (1, .int k), (2, .int (nI dd)), (3, .int (nI t))]) hx hb dX3_gridAt_43 hl (by decide) rfl (fun ls hl => ?_)
  refine lv_iload_n hx hb dX3_gridAt_45 rfl (lv_at hl 4 rfl) ?_
  refine lv_iconst (v := 1) hx hb dX3_gridAt_46 (by decide) ?_
  refine lv_iadd hx hb dX3_gridAt_47 ?_
  refine zz_topi (v := nI (t + 1)) (nI_1 _) ?_
  refine lv_iload_n hx hb dX3_gridAt_48 rfl (lv_at hl 3 rfl) ?_
  refine lv_icmp_ge (tgt := 103) hx hb dX3_gridAt_49 (by decide) (fun c10 => ?_) (fun c => absurd (nI_le (by omega) (by omega)) c)
  refine lv_iload hx hb dX3_gridAt_103 (lv_at hl 0 rfl) ?_
  exact zz_iret hC hZ (⟨(na + 1), (nu + (ll t)), (upd kdf na k), (upd dpf na (nI (dd - t))), (upd clf na (-1)), (upd saf na (nI nu)), (upd lnf na (nI (ll t))), bt2_8, rfl, hSA, by omega, zz_EX.up, by rw [hAD, sp_grid, if_pos rfl, if_pos rfl, sp_gl], rfl⟩) (Nat.le_of_ble_eq_true rfl) (Nat.le_of_ble_eq_true rfl) dX3_gridAt_105
theorem zk_288 : Cond.methodLink RX3 25 yX3_gridAt ∈ zz_w := zz_in (List.mem_append_right _ (List.mem_append_right _ (List.mem_append_left _ (List.mem_of_getElem? (i := 48) (by decide +kernel))))) rfl
set_option maxRecDepth 20000 in
theorem zk_291 : Cond.code yX3_gridAt cX3_gridAt 6 (some .int) ∈ zz_w := zz_in (List.mem_append_right _ (List.mem_append_right _ (List.mem_append_left _ (List.mem_of_getElem? (i := 51) (rfl))))) rfl
theorem zk_290 : Cond.instanceMethod yX3_gridAt ∈ zz_w := zz_in (List.mem_append_right _ (List.mem_append_right _ (List.mem_append_left _ (List.mem_of_getElem? (i := 50) (by decide +kernel))))) rfl
theorem zs_3 : Cond.selects RX3 yX3_gridAt yX3_gridAt ∈ zz_w := zz_in (List.mem_append_left _ (List.mem_of_getElem? (i := 3) (by decide +kernel))) rfl
theorem zc_X3_25 : zz_cV RX3 25 yX3_gridAt cX3_gridAt 6 (some .int) 3 := ⟨⟨zk_288, zk_291, zk_3, by decide, by decide, by decide +kernel⟩, zk_290, zs_3⟩
abbrev rm_co_gridAt2 : Room := { frames := 2, cells := 0, slots := 0, locals := 51 }
abbrev po_co_gridAt2 (g : zz_G) (st : Nat) (mk : Nat) (ml : Nat) (pa : Int32) (pe : Int32) (lf : Nat → Int32) (kd : Nat) (dp : Nat) (cl : Nat) (sa : Nat) (ln : Nat) (bt : Nat) (pn : Nat) (bf : Nat) (na : Nat) (nu : Nat) (kdf : Nat → Int32) (dpf : Nat → Int32) (clf : Nat → Int32) (saf : Nat → Int32) (lnf : Nat → Int32) (btf : Nat → Int64) (ll : Nat → Nat) (t : Nat) (dd : Nat) (k : Int32) (h_t : t + 2 = dd) (h_d : dd ≤ 4) (h_m : na + zz_TT2 ll 2 t ≤ 60 ∧ nu + zz_EE ll 2 t ≤ 4000) (h_S : zz_SI na nu dpf saf lnf) (h_l : ∀ j, j < dd → lf j = nI (ll j) ∧ ll j ≤ 200) : Int32 → va_W → Prop := fun (r : Int32) (u : va_W) => ∃ (na2 : Nat) (nu2 : Nat) (kd2 : Nat → Int32) (dp2 : Nat → Int32) (cl2 : Nat → Int32) (sa2 : Nat → Int32) (ln2 : Nat → Int32) (bt2 : Nat → Int64), r = nI na ∧ (zz_SI na2 nu2 dp2 sa2 ln2) ∧ (na ≤ na2) ∧ (zz_EX na dpf saf lnf dp2 sa2 ln2) ∧ ((na2, nu2, kd2, dp2, cl2, sa2, ln2, bt2) = sp_grid k ll 2 t (na, nu, kdf, dpf, clf, saf, lnf, btf)) ∧ u = [cw_k2 mk st ml pa pe, cw_i g ml 4 lf, cw_k5 st (nI na2) (nI nu2) kd dp cl sa ln bt pn bf, cw_i g kd 60 kd2, cw_i g dp 60 dp2, cw_i g cl 60 cl2, cw_i g sa 60 sa2, cw_i g ln 60 ln2, cw_l g bt 4000 bt2]
set_option maxHeartbeats 4000000 in
set_option maxRecDepth 100000 in
theorem co_gridAt2 (g : zz_G) (st : Nat) (mk : Nat) (ml : Nat) (pa : Int32) (pe : Int32) (lf : Nat → Int32) (kd : Nat) (dp : Nat) (cl : Nat) (sa : Nat) (ln : Nat) (bt : Nat) (pn : Nat) (bf : Nat) (na : Nat) (nu : Nat) (kdf : Nat → Int32) (dpf : Nat → Int32) (clf : Nat → Int32) (saf : Nat → Int32) (lnf : Nat → Int32) (btf : Nat → Int64) (ll : Nat → Nat) (t : Nat) (dd : Nat) (k : Int32) (h_t : t + 2 = dd) (h_d : dd ≤ 4) (h_m : na + zz_TT2 ll 2 t ≤ 60 ∧ nu + zz_EE ll 2 t ≤ 4000) (h_S : zz_SI na nu dpf saf lnf) (h_l : ∀ j, j < dd → lf j = nI (ll j) ∧ ll j ≤ 200) : zz_I g yX3_gridAt (.code yX3_gridAt cX3_gridAt 6 (some .int)) rm_co_gridAt2 [.ref mk, .int k, .int (nI dd), .int (nI t)] [cw_k2 mk st ml pa pe, cw_i g ml 4 lf, cw_k5 st (nI na) (nI nu) kd dp cl sa ln bt pn bf, cw_i g kd 60 kdf, cw_i g dp 60 dpf, cw_i g cl 60 clf, cw_i g sa 60 saf, cw_i g ln 60 lnf, cw_l g bt 4000 btf] (po_co_gridAt2 g st mk ml pa pe lf kd dp cl sa ln bt pn bf na nu kdf dpf clf saf lnf btf ll t dd k h_t h_d h_m h_S h_l) := by
  refine zz_I.intro (own := RX3) (cc := cX3_gridAt) (nL := 6) (by decide) rfl (Nat.le_of_ble_eq_true rfl) ?_
  intro p l e s m args below meth c A H locs ls hC hnm hs hZ hl
  obtain ⟨hx, hb, hml, hown, hts, hr, hlocks, hK⟩ := id hC
  have hl : lv_has ls 6 [(0, .ref mk), (1, .int k), (2, .int (nI dd)), (3, .int (nI t))] := hl
  have hZ : zz_Z g A s.heap [cw_k2 mk st ml pa pe, cw_i g ml 4 lf, cw_k5 st (nI na) (nI nu) kd dp cl sa ln bt pn bf, cw_i g kd 60 kdf, cw_i g dp 60 dpf, cw_i g cl 60 clf, cw_i g sa 60 saf, cw_i g ln 60 lnf, cw_l g bt 4000 btf] H locs := hZ
  have hna := h_S.1
  have hnu := h_S.2.1
  obtain ⟨elt, hlt⟩ := h_l t (by omega)
  have hTT : zz_TT2 ll 2 t = 1 + ll t * zz_TT2 ll 1 (t + 1) := rfl
  have hEE : zz_EE ll 2 t = ll t + ll t * zz_EE ll 1 (t + 1) := rfl
  refine lv_iload_n hx hb dX3_gridAt_0 rfl (lv_at hl 3 rfl) ?_
  refine lv_iconst (v := 4) hx hb dX3_gridAt_1 (by decide) ?_
  refine lv_icmp_ge (tgt := 23) hx hb dX3_gridAt_2 (by decide) (fun c => absurd c ((nI_ge (b := 4) (by omega) (by decide) : ¬ nI 4 ≤ nI t))) (fun c1 => ?_)
  refine lv_aload_n hx hb dX3_gridAt_5 rfl (lv_at hl 0 rfl) ?_
  refine zz_get hC hZ 0 rfl zf_X3_15 rfl dX3_gridAt_6 ?_
  refine lv_lconst (v := 1) hx hb dX3_gridAt_9 (by decide) ?_
  refine lv_aload_n hx hb dX3_gridAt_10 rfl (lv_at hl 0 rfl) ?_
  refine zz_get hC hZ 0 rfl zf_X3_9 rfl dX3_gridAt_11 ?_
  refine lv_iload_n hx hb dX3_gridAt_14 rfl (lv_at hl 3 rfl) ?_
  have bd2 : t < 4 := by omega
  refine zz_ialdn hC hZ 1 rfl bd2 (by decide) dX3_gridAt_15 ?_
  refine zz_topi (v := nI (ll t)) (elt) ?_
  refine lv_i2l hx hb dX3_gridAt_16 rfl ?_
  refine zz_iV (As := [.long 1, .long ((nI (ll t)).toInt64)]) (wc := [cw_k5 st (nI na) (nI nu) kd dp cl sa ln bt pn bf]) (wr := [cw_k2 mk st ml pa pe, cw_i g ml 4 lf, cw_i g kd 60 kdf, cw_i g dp 60 dpf, cw_i g cl 60 clf, cw_i g sa 60 saf, cw_i g ln 60 lnf, cw_l g bt 4000 btf]) (rest := []) hC hZ hs hl zc_X3_19 (co_fits g st kd dp cl sa ln bt pn bf (nI na) (nI nu) 1 ((nI (ll t)).toInt64)) [2] [0, 1, 3, 4, 5, 6, 7, 8] rfl rfl (by decide +kernel) (ci := 5) (q0 := 0) rfl rfl rfl rfl (Nat.le_of_ble_eq_true rfl) ⟨⟨Nat.le_of_ble_eq_true rfl, Nat.le_of_ble_eq_true rfl⟩, Nat.le_of_ble_eq_true rfl, Nat.le_of_ble_eq_true rfl⟩ dX3_gridAt_17 (fun r3 u4 H locs hp hZ => ?_)
  obtain ⟨rfl, rfl⟩ := hp
  have hZ : zz_Z g A s.heap [cw_k2 mk st ml pa pe, cw_i g ml 4 lf, cw_i g kd 60 kdf, cw_i g dp 60 dpf, cw_i g cl 60 clf, cw_i g sa 60 saf, cw_i g ln 60 lnf, cw_l g bt 4000 btf, cw_k5 st (nI na) (nI nu) kd dp cl sa ln bt pn bf] H locs := hZ
  refine lv_if_ne (tgt := 25) hx hb dX3_gridAt_20 (by decide) (fun c5 => ?_) (fun c => absurd c (zl_fitN (by omega) (by omega)))
  refine lv_aload_n hx hb dX3_gridAt_25 rfl (lv_at hl 0 rfl) ?_
  refine zz_get hC hZ 0 rfl zf_X3_15 rfl dX3_gridAt_26 ?_
  refine lv_iload_n hx hb dX3_gridAt_29 rfl (lv_at hl 1 rfl) ?_
  refine lv_iload_n hx hb dX3_gridAt_30 rfl (lv_at hl 2 rfl) ?_
  refine lv_iload_n hx hb dX3_gridAt_31 rfl (lv_at hl 3 rfl) ?_
  refine lv_isub hx hb dX3_gridAt_32 ?_
  refine zz_topi (v := nI (dd - t)) (pk_sub (by omega)) ?_
  refine lv_iconst (v := -1) hx hb dX3_gridAt_33 (by decide) ?_
  refine lv_aload_n hx hb dX3_gridAt_34 rfl (lv_at hl 0 rfl) ?_
  refine zz_get hC hZ 0 rfl zf_X3_9 rfl dX3_gridAt_35 ?_
  refine lv_iload_n hx hb dX3_gridAt_38 rfl (lv_at hl 3 rfl) ?_
  refine zz_ialdn hC hZ 1 rfl bd2 (by decide) dX3_gridAt_39 ?_
  refine zz_topi (v := nI (ll t)) (elt) ?_
  refine zz_iV (As := [.int k, .int (nI (dd - t)), .int (-1), .int (nI (ll t))]) (wc := [cw_k5 st (nI na) (nI nu) kd dp cl sa ln bt pn bf, cw_i g kd 60 kdf, cw_i g dp 60 dpf, cw_i g cl 60 clf, cw_i g sa 60 saf, cw_i g ln 60 lnf, cw_l g bt 4000 btf]) (wr := [cw_k2 mk st ml pa pe, cw_i g ml 4 lf]) (rest := []) hC hZ hs hl zc_X3_29 (co_add g st kd dp cl sa ln bt pn bf na nu (ll t) kdf dpf clf saf lnf btf k (nI (dd - t)) (-1) (by omega) (by omega)) [8, 2, 3, 4, 5, 6, 7] [0, 1] rfl rfl (by decide +kernel) (ci := 5) (q0 := 0) rfl rfl rfl rfl (Nat.le_of_ble_eq_true rfl) ⟨⟨Nat.le_of_ble_eq_true rfl, Nat.le_of_ble_eq_true rfl⟩, Nat.le_of_ble_eq_true rfl, Nat.le_of_ble_eq_true rfl⟩ dX3_gridAt_40 (fun r6 u7 H locs hp hZ => ?_)
  obtain ⟨bt2_8, rfl, f9, rfl⟩ := hp
  have hZ : zz_Z g A s.heap [cw_k2 mk st ml pa pe, cw_i g ml 4 lf, cw_k5 st (nI (na + 1)) (nI (nu + (ll t))) kd dp cl sa ln bt pn bf, cw_i g kd 60 (upd kdf na k), cw_i g dp 60 (upd dpf na (nI (dd - t))), cw_i g cl 60 (upd clf na (-1)), cw_i g sa 60 (upd saf na (nI nu)), cw_i g ln 60 (upd lnf na (nI (ll t))), cw_l g bt 4000 bt2_8] H locs := hZ
  have hSA := zz_SI_add h_S (by omega) (by omega) hlt (d := dd - t) ⟨by omega, by omega⟩
  have hAD : (na + 1, nu + ll t, upd kdf na k, upd dpf na (nI (dd - t)), upd clf na (-1), upd saf na (nI nu), upd lnf na (nI (ll t)), bt2_8) = sp_add k (nI 2) (-1) (ll t) (na, nu, kdf, dpf, clf, saf, lnf, btf) := by rw [f9, show dd - t = 2 by omega]; rfl
  refine lv_istore (lv' := [(4, .int (nI na)), (0, .ref mk), (1, .int k), (2, .int (nI dd)), (3, .int (nI t))]) hx hb dX3_gridAt_43 hl (by decide) rfl (fun ls hl => ?_)
  refine lv_iload_n hx hb dX3_gridAt_45 rfl (lv_at hl 4 rfl) ?_
  refine lv_iconst (v := 1) hx hb dX3_gridAt_46 (by decide) ?_
  refine lv_iadd hx hb dX3_gridAt_47 ?_
  refine zz_topi (v := nI (t + 1)) (nI_1 _) ?_
  refine lv_iload_n hx hb dX3_gridAt_48 rfl (lv_at hl 3 rfl) ?_
  refine lv_icmp_ge (tgt := 103) hx hb dX3_gridAt_49 (by decide) (fun c => absurd c (nI_ge (by omega) (by omega))) (fun c10 => ?_)
  refine lv_iconst (v := 0) hx hb dX3_gridAt_52 (by decide) ?_
  refine lv_istore (lv' := [(5, .int 0), (4, .int (nI na)), (0, .ref mk), (1, .int k), (2, .int (nI dd)), (3, .int (nI t))]) hx hb dX3_gridAt_53 hl (by decide) rfl (fun ls hl => ?_)
  have LP11 : ∀ (N : Nat) (i : Nat) (na1 : Nat) (nu1 : Nat) (kd1 : Nat → Int32) (dp1 : Nat → Int32) (cl1 : Nat → Int32) (sa1 : Nat → Int32) (ln1 : Nat → Int32) (bt1 : Nat → Int64) (H : Heap) (locs : List Loc) (ls : Array Slot), (i ≤ ll t) → (na + 1 ≤ na1) → (zz_SI na1 nu1 dp1 sa1 ln1) → (sa1 na = nI nu) → (zz_EX na dpf saf lnf dp1 sa1 ln1) → (na1 + (ll t - i) * zz_TT2 ll 1 (t + 1) ≤ 60) → (nu1 + (ll t - i) * zz_EE ll 1 (t + 1) ≤ 4000) → (sp_grid k ll 2 t (na, nu, kdf, dpf, clf, saf, lnf, btf) = sp_gl (sp_grid k ll 1 (t + 1)) nu (ll t - i) i (na1, nu1, kd1, dp1, cl1, sa1, ln1, bt1)) → (ll t - i) < N → zz_Z g A s.heap [cw_k2 mk st ml pa pe, cw_i g ml 4 lf, cw_k5 st (nI na1) (nI nu1) kd dp cl sa ln bt pn bf, cw_i g kd 60 kd1, cw_i g dp 60 dp1, cw_i g cl 60 cl1, cw_i g sa 60 sa1, cw_i g ln 60 ln1, cw_l g bt 4000 bt1] H locs → lv_has ls 6 [(5, .int (nI i)), (4, .int (nI na)), (0, .ref mk), (1, .int k), (2, .int (nI dd)), (3, .int (nI t))] → W p l e rm_co_gridAt2 s m args below meth c H locs 0 0 (zz_QI below g args s A rm_co_gridAt2.cells rm_co_gridAt2.slots (po_co_gridAt2 g st mk ml pa pe lf kd dp cl sa ln bt pn bf na nu kdf dpf clf saf lnf btf ll t dd k h_t h_d h_m h_S h_l)) (F0 m 55 ls []) := by
    intro N
    induction N with
    | zero =>
      intro i na1 nu1 kd1 dp1 cl1 sa1 ln1 bt1 H locs ls hi h1 hS1 h4 hE1 hm1 hm2 hSG hN
      exact absurd hN (Nat.not_lt_zero _)
    | succ N ih =>
      intro i na1 nu1 kd1 dp1 cl1 sa1 ln1 bt1 H locs ls hi h1 hS1 h4 hE1 hm1 hm2 hSG hN hZ hl
      refine lv_iload hx hb dX3_gridAt_55 (lv_at hl 0 rfl) ?_
      refine lv_aload_n hx hb dX3_gridAt_57 rfl (lv_at hl 2 rfl) ?_
      refine zz_get hC hZ 0 rfl zf_X3_9 rfl dX3_gridAt_58 ?_
      refine lv_iload_n hx hb dX3_gridAt_61 rfl (lv_at hl 5 rfl) ?_
      refine zz_ialdn hC hZ 1 rfl bd2 (by decide) dX3_gridAt_62 ?_
      refine zz_topi (v := nI (ll t)) (elt) ?_
      have bd13 : (ll t) < 2 ^ 31 := by omega
      have bd14 : i < 2 ^ 31 := by omega
      refine lv_icmp_ge (tgt := 103) hx hb dX3_gridAt_63 (by decide) (fun c12 => ?_) (fun c12 => ?_)
      · have nc12 : (ll t) ≤ i := (nI_leI bd13 bd14).mp (show nI ((ll t)) ≤ nI (i) from c12)
        refine lv_iload hx hb dX3_gridAt_103 (lv_at hl 1 rfl) ?_
        exact zz_iret hC hZ (⟨na1, nu1, kd1, dp1, cl1, sa1, ln1, bt1, rfl, hS1, by omega, hE1, by rw [hSG, show ll t - i = 0 by omega, sp_gl], rfl⟩) (Nat.le_of_ble_eq_true rfl) (Nat.le_of_ble_eq_true rfl) dX3_gridAt_105
      · have nc12 : ¬ (ll t) ≤ i := fun zq => c12 (show nI ((ll t)) ≤ nI (i) from (nI_leI bd13 bd14).mpr zq)
        have hna1 := hS1.1
        have hnu1 := hS1.2.1
        have hxTT2 : (ll t - i) * zz_TT2 ll 1 (t + 1) = (ll t - (i + 1)) * zz_TT2 ll 1 (t + 1) + zz_TT2 ll 1 (t + 1) := by rw [show ll t - i = (ll t - (i + 1)) + 1 by omega, Nat.add_mul, Nat.one_mul]
        have hxEE : (ll t - i) * zz_EE ll 1 (t + 1) = (ll t - (i + 1)) * zz_EE ll 1 (t + 1) + zz_EE ll 1 (t + 1) := by rw [show ll t - i = (ll t - (i + 1)) + 1 by omega, Nat.add_mul, Nat.one_mul]
        refine lv_aload_n hx hb dX3_gridAt_66 rfl (lv_at hl 2 rfl) ?_
        refine zz_get hC hZ 0 rfl zf_X3_15 rfl dX3_gridAt_67 ?_
        refine zz_get hC hZ 2 rfl zf_X3_33 rfl dX3_gridAt_70 ?_
        refine lv_aload_n hx hb dX3_gridAt_73 rfl (lv_at hl 2 rfl) ?_
        refine zz_get hC hZ 0 rfl zf_X3_15 rfl dX3_gridAt_74 ?_
        refine zz_get hC hZ 2 rfl zf_X3_37 rfl dX3_gridAt_77 ?_
        refine lv_iload hx hb dX3_gridAt_80 (lv_at hl 1 rfl) ?_
        have bd15 : na < 60 := by omega
        refine zz_ialdn hC hZ 6 rfl bd15 (by decide) dX3_gridAt_82 ?_
        refine zz_topi (v := nI nu) (h4) ?_
        refine lv_iload hx hb dX3_gridAt_83 (lv_at hl 0 rfl) ?_
        refine lv_iadd hx hb dX3_gridAt_85 ?_
        refine zz_topi (v := nI (nu + i)) (nI_add _ _) ?_
        refine lv_aload_n hx hb dX3_gridAt_86 rfl (lv_at hl 2 rfl) ?_
        refine lv_iload_n hx hb dX3_gridAt_87 rfl (lv_at hl 3 rfl) ?_
        refine lv_iload_n hx hb dX3_gridAt_88 rfl (lv_at hl 4 rfl) ?_
        refine lv_iload_n hx hb dX3_gridAt_89 rfl (lv_at hl 5 rfl) ?_
        refine lv_iconst (v := 1) hx hb dX3_gridAt_90 (by decide) ?_
        refine lv_iadd hx hb dX3_gridAt_91 ?_
        refine zz_topi (v := nI (t + 1)) (nI_1 _) ?_
        refine zz_iV (As := [.int k, .int (nI dd), .int (nI (t + 1))]) (wc := [cw_k2 mk st ml pa pe, cw_i g ml 4 lf, cw_k5 st (nI na1) (nI nu1) kd dp cl sa ln bt pn bf, cw_i g kd 60 kd1, cw_i g dp 60 dp1, cw_i g cl 60 cl1, cw_i g sa 60 sa1, cw_i g ln 60 ln1, cw_l g bt 4000 bt1]) (wr := []) (rest := [.int (nI (nu + i)), .ref bt]) hC hZ hs hl zc_X3_25 (co_gridAt1 g st mk ml pa pe lf kd dp cl sa ln bt pn bf na1 nu1 kd1 dp1 cl1 sa1 ln1 bt1 ll (t + 1) dd k (by omega) (by omega) (by omega) (hS1) (h_l)) [0, 1, 2, 3, 4, 5, 6, 7, 8] [] rfl rfl (by decide +kernel) (ci := 2) (q0 := 0) rfl rfl rfl rfl (Nat.le_of_ble_eq_true rfl) ⟨⟨Nat.le_of_ble_eq_true rfl, Nat.le_of_ble_eq_true rfl⟩, Nat.le_of_ble_eq_true rfl, Nat.le_of_ble_eq_true rfl⟩ dX3_gridAt_92 (fun r16 u17 H locs hp hZ => ?_)
        obtain ⟨na2_18, nu2_19, kd2_20, dp2_21, cl2_22, sa2_23, ln2_24, bt2_25, rfl, f26, f27, f28, f29, rfl⟩ := hp
        have hZ : zz_Z g A s.heap [cw_k2 mk st ml pa pe, cw_i g ml 4 lf, cw_k5 st (nI na2_18) (nI nu2_19) kd dp cl sa ln bt pn bf, cw_i g kd 60 kd2_20, cw_i g dp 60 dp2_21, cw_i g cl 60 cl2_22, cw_i g sa 60 sa2_23, cw_i g ln 60 ln2_24, cw_l g bt 4000 bt2_25] H locs := hZ
        refine lv_i2l hx hb dX3_gridAt_95 rfl ?_
        have bd30 : (nu + i) < 4000 := by omega
        refine zz_lastn hC hZ 8 rfl bd30 (by decide) dX3_gridAt_96 (fun H locs hZ => ?_)
        have hZ : zz_Z g A s.heap [cw_k2 mk st ml pa pe, cw_i g ml 4 lf, cw_k5 st (nI na2_18) (nI nu2_19) kd dp cl sa ln bt pn bf, cw_i g kd 60 kd2_20, cw_i g dp 60 dp2_21, cw_i g cl 60 cl2_22, cw_i g sa 60 sa2_23, cw_i g ln 60 ln2_24, cw_l g bt 4000 (vp_updL bt2_25 (nu + i) ((nI na1).toInt64))] H locs := hZ
        refine lv_iinc (v := nI (i + 1)) (lv' := [(5, .int (nI (i + 1))), (4, .int (nI na)), (0, .ref mk), (1, .int k), (2, .int (nI dd)), (3, .int (nI t))]) hx hb dX3_gridAt_97 hl (k := 0) rfl (nI_1 _) (by decide) rfl (fun ls hl => ?_)
        refine lv_goto (tgt := 55) hx hb dX3_gridAt_100 (by decide) ?_
        have hgn := sp_grid_n k ll 1 (t + 1) (na1, nu1, kd1, dp1, cl1, sa1, ln1, bt1)
        rw [← f29] at hgn
        have hg1 : na2_18 = na1 + zz_TT2 ll 1 (t + 1) := hgn.1
        have hg2 : nu2_19 = nu1 + zz_EE ll 1 (t + 1) := hgn.2
        exact ih (i + 1) na2_18 nu2_19 kd2_20 dp2_21 cl2_22 sa2_23 ln2_24 (vp_updL bt2_25 (nu + i) ((nI na1).toInt64)) H locs ls (by omega) (by omega) (f26) ((f28 na (by omega)).1.trans h4) (hE1.tr (by omega) f28) (by omega) (by omega) (by rw [hSG, show ll t - i = (ll t - (i + 1)) + 1 by omega, sp_gl, ← f29, nI_l (show na1 < 2 ^ 31 by omega)]; rfl) (by omega) hZ (lv_sub hl [0, 1, 2, 3, 4, 5] rfl)
  exact LP11 _ 0 (na + 1) (nu + (ll t)) (upd kdf na k) (upd dpf na (nI (dd - t))) (upd clf na (-1)) (upd saf na (nI nu)) (upd lnf na (nI (ll t))) bt2_8 H locs ls (by omega) (by omega) (hSA) (pk_us) (zz_EX.up) (by rw [Nat.sub_zero]; omega) (by rw [Nat.sub_zero]; omega) (by rw [hAD, sp_grid, if_neg (by omega), if_neg (by omega)]; rfl) (Nat.lt_succ_self _) hZ (lv_sub hl [0, 1, 2, 3, 4, 5] rfl)
abbrev rm_co_gridAt3 : Room := { frames := 3, cells := 0, slots := 0, locals := 76 }
abbrev po_co_gridAt3 (g : zz_G) (st : Nat) (mk : Nat) (ml : Nat) (pa : Int32) (pe : Int32) (lf : Nat → Int32) (kd : Nat) (dp : Nat) (cl : Nat) (sa : Nat) (ln : Nat) (bt : Nat) (pn : Nat) (bf : Nat) (na : Nat) (nu : Nat) (kdf : Nat → Int32) (dpf : Nat → Int32) (clf : Nat → Int32) (saf : Nat → Int32) (lnf : Nat → Int32) (btf : Nat → Int64) (ll : Nat → Nat) (t : Nat) (dd : Nat) (k : Int32) (h_t : t + 3 = dd) (h_d : dd ≤ 4) (h_m : na + zz_TT2 ll 3 t ≤ 60 ∧ nu + zz_EE ll 3 t ≤ 4000) (h_S : zz_SI na nu dpf saf lnf) (h_l : ∀ j, j < dd → lf j = nI (ll j) ∧ ll j ≤ 200) : Int32 → va_W → Prop := fun (r : Int32) (u : va_W) => ∃ (na2 : Nat) (nu2 : Nat) (kd2 : Nat → Int32) (dp2 : Nat → Int32) (cl2 : Nat → Int32) (sa2 : Nat → Int32) (ln2 : Nat → Int32) (bt2 : Nat → Int64), r = nI na ∧ (zz_SI na2 nu2 dp2 sa2 ln2) ∧ (na ≤ na2) ∧ (zz_EX na dpf saf lnf dp2 sa2 ln2) ∧ ((na2, nu2, kd2, dp2, cl2, sa2, ln2, bt2) = sp_grid k ll 3 t (na, nu, kdf, dpf, clf, saf, lnf, btf)) ∧ u = [cw_k2 mk st ml pa pe, cw_i g ml 4 lf, cw_k5 st (nI na2) (nI nu2) kd dp cl sa ln bt pn bf, cw_i g kd 60 kd2, cw_i g dp 60 dp2, cw_i g cl 60 cl2, cw_i g sa 60 sa2, cw_i g ln 60 ln2, cw_l g bt 4000 bt2]
set_option maxHeartbeats 4000000 in
set_option maxRecDepth 100000 in
theorem co_gridAt3 (g : zz_G) (st : Nat) (mk : Nat) (ml : Nat) (pa : Int32) (pe : Int32) (lf : Nat → Int32) (kd : Nat) (dp : Nat) (cl : Nat) (sa : Nat) (ln : Nat) (bt : Nat) (pn : Nat) (bf : Nat) (na : Nat) (nu : Nat) (kdf : Nat → Int32) (dpf : Nat → Int32) (clf : Nat → Int32) (saf : Nat → Int32) (lnf : Nat → Int32) (btf : Nat → Int64) (ll : Nat → Nat) (t : Nat) (dd : Nat) (k : Int32) (h_t : t + 3 = dd) (h_d : dd ≤ 4) (h_m : na + zz_TT2 ll 3 t ≤ 60 ∧ nu + zz_EE ll 3 t ≤ 4000) (h_S : zz_SI na nu dpf saf lnf) (h_l : ∀ j, j < dd → lf j = nI (ll j) ∧ ll j ≤ 200) : zz_I g yX3_gridAt (.code yX3_gridAt cX3_gridAt 6 (some .int)) rm_co_gridAt3 [.ref mk, .int k, .int (nI dd), .int (nI t)] [cw_k2 mk st ml pa pe, cw_i g ml 4 lf, cw_k5 st (nI na) (nI nu) kd dp cl sa ln bt pn bf, cw_i g kd 60 kdf, cw_i g dp 60 dpf, cw_i g cl 60 clf, cw_i g sa 60 saf, cw_i g ln 60 lnf, cw_l g bt 4000 btf] (po_co_gridAt3 g st mk ml pa pe lf kd dp cl sa ln bt pn bf na nu kdf dpf clf saf lnf btf ll t dd k h_t h_d h_m h_S h_l) := by
  refine zz_I.intro (own := RX3) (cc := cX3_gridAt) (nL := 6) (by decide) rfl (Nat.le_of_ble_eq_true rfl) ?_
  intro p l e s m args below meth c A H locs ls hC hnm hs hZ hl
  obtain ⟨hx, hb, hml, hown, hts, hr, hlocks, hK⟩ := id hC
  have hl : lv_has ls 6 [(0, .ref mk), (1, .int k), (2, .int (nI dd)), (3, .int (nI t))] := hl
  have hZ : zz_Z g A s.heap [cw_k2 mk st ml pa pe, cw_i g ml 4 lf, cw_k5 st (nI na) (nI nu) kd dp cl sa ln bt pn bf, cw_i g kd 60 kdf, cw_i g dp 60 dpf, cw_i g cl 60 clf, cw_i g sa 60 saf, cw_i g ln 60 lnf, cw_l g bt 4000 btf] H locs := hZ
  have hna := h_S.1
  have hnu := h_S.2.1
  obtain ⟨elt, hlt⟩ := h_l t (by omega)
  have hTT : zz_TT2 ll 3 t = 1 + ll t * zz_TT2 ll 2 (t + 1) := rfl
  have hEE : zz_EE ll 3 t = ll t + ll t * zz_EE ll 2 (t + 1) := rfl
  refine lv_iload_n hx hb dX3_gridAt_0 rfl (lv_at hl 3 rfl) ?_
  refine lv_iconst (v := 4) hx hb dX3_gridAt_1 (by decide) ?_
  refine lv_icmp_ge (tgt := 23) hx hb dX3_gridAt_2 (by decide) (fun c => absurd c ((nI_ge (b := 4) (by omega) (by decide) : ¬ nI 4 ≤ nI t))) (fun c1 => ?_)
  refine lv_aload_n hx hb dX3_gridAt_5 rfl (lv_at hl 0 rfl) ?_
  refine zz_get hC hZ 0 rfl zf_X3_15 rfl dX3_gridAt_6 ?_
  refine lv_lconst (v := 1) hx hb dX3_gridAt_9 (by decide) ?_
  refine lv_aload_n hx hb dX3_gridAt_10 rfl (lv_at hl 0 rfl) ?_
  refine zz_get hC hZ 0 rfl zf_X3_9 rfl dX3_gridAt_11 ?_
  refine lv_iload_n hx hb dX3_gridAt_14 rfl (lv_at hl 3 rfl) ?_
  have bd2 : t < 4 := by omega
  refine zz_ialdn hC hZ 1 rfl bd2 (by decide) dX3_gridAt_15 ?_
  refine zz_topi (v := nI (ll t)) (elt) ?_
  refine lv_i2l hx hb dX3_gridAt_16 rfl ?_
  refine zz_iV (As := [.long 1, .long ((nI (ll t)).toInt64)]) (wc := [cw_k5 st (nI na) (nI nu) kd dp cl sa ln bt pn bf]) (wr := [cw_k2 mk st ml pa pe, cw_i g ml 4 lf, cw_i g kd 60 kdf, cw_i g dp 60 dpf, cw_i g cl 60 clf, cw_i g sa 60 saf, cw_i g ln 60 lnf, cw_l g bt 4000 btf]) (rest := []) hC hZ hs hl zc_X3_19 (co_fits g st kd dp cl sa ln bt pn bf (nI na) (nI nu) 1 ((nI (ll t)).toInt64)) [2] [0, 1, 3, 4, 5, 6, 7, 8] rfl rfl (by decide +kernel) (ci := 5) (q0 := 0) rfl rfl rfl rfl (Nat.le_of_ble_eq_true rfl) ⟨⟨Nat.le_of_ble_eq_true rfl, Nat.le_of_ble_eq_true rfl⟩, Nat.le_of_ble_eq_true rfl, Nat.le_of_ble_eq_true rfl⟩ dX3_gridAt_17 (fun r3 u4 H locs hp hZ => ?_)
  obtain ⟨rfl, rfl⟩ := hp
  have hZ : zz_Z g A s.heap [cw_k2 mk st ml pa pe, cw_i g ml 4 lf, cw_i g kd 60 kdf, cw_i g dp 60 dpf, cw_i g cl 60 clf, cw_i g sa 60 saf, cw_i g ln 60 lnf, cw_l g bt 4000 btf, cw_k5 st (nI na) (nI nu) kd dp cl sa ln bt pn bf] H locs := hZ
  refine lv_if_ne (tgt := 25) hx hb dX3_gridAt_20 (by decide) (fun c5 => ?_) (fun c => absurd c (zl_fitN (by omega) (by omega)))
  refine lv_aload_n hx hb dX3_gridAt_25 rfl (lv_at hl 0 rfl) ?_
  refine zz_get hC hZ 0 rfl zf_X3_15 rfl dX3_gridAt_26 ?_
  refine lv_iload_n hx hb dX3_gridAt_29 rfl (lv_at hl 1 rfl) ?_
  refine lv_iload_n hx hb dX3_gridAt_30 rfl (lv_at hl 2 rfl) ?_
  refine lv_iload_n hx hb dX3_gridAt_31 rfl (lv_at hl 3 rfl) ?_
  refine lv_isub hx hb dX3_gridAt_32 ?_
  refine zz_topi (v := nI (dd - t)) (pk_sub (by omega)) ?_
  refine lv_iconst (v := -1) hx hb dX3_gridAt_33 (by decide) ?_
  refine lv_aload_n hx hb dX3_gridAt_34 rfl (lv_at hl 0 rfl) ?_
  refine zz_get hC hZ 0 rfl zf_X3_9 rfl dX3_gridAt_35 ?_
  refine lv_iload_n hx hb dX3_gridAt_38 rfl (lv_at hl 3 rfl) ?_
  refine zz_ialdn hC hZ 1 rfl bd2 (by decide) dX3_gridAt_39 ?_
  refine zz_topi (v := nI (ll t)) (elt) ?_
  refine zz_iV (As := [.int k, .int (nI (dd - t)), .int (-1), .int (nI (ll t))]) (wc := [cw_k5 st (nI na) (nI nu) kd dp cl sa ln bt pn bf, cw_i g kd 60 kdf, cw_i g dp 60 dpf, cw_i g cl 60 clf, cw_i g sa 60 saf, cw_i g ln 60 lnf, cw_l g bt 4000 btf]) (wr := [cw_k2 mk st ml pa pe, cw_i g ml 4 lf]) (rest := []) hC hZ hs hl zc_X3_29 (co_add g st kd dp cl sa ln bt pn bf na nu (ll t) kdf dpf clf saf lnf btf k (nI (dd - t)) (-1) (by omega) (by omega)) [8, 2, 3, 4, 5, 6, 7] [0, 1] rfl rfl (by decide +kernel) (ci := 5) (q0 := 0) rfl rfl rfl rfl (Nat.le_of_ble_eq_true rfl) ⟨⟨Nat.le_of_ble_eq_true rfl, Nat.le_of_ble_eq_true rfl⟩, Nat.le_of_ble_eq_true rfl, Nat.le_of_ble_eq_true rfl⟩ dX3_gridAt_40 (fun r6 u7 H locs hp hZ => ?_)
  obtain ⟨bt2_8, rfl, f9, rfl⟩ := hp
  have hZ : zz_Z g A s.heap [cw_k2 mk st ml pa pe, cw_i g ml 4 lf, cw_k5 st (nI (na + 1)) (nI (nu + (ll t))) kd dp cl sa ln bt pn bf, cw_i g kd 60 (upd kdf na k), cw_i g dp 60 (upd dpf na (nI (dd - t))), cw_i g cl 60 (upd clf na (-1)), cw_i g sa 60 (upd saf na (nI nu)), cw_i g ln 60 (upd lnf na (nI (ll t))), cw_l g bt 4000 bt2_8] H locs := hZ
  have hSA := zz_SI_add h_S (by omega) (by omega) hlt (d := dd - t) ⟨by omega, by omega⟩
  have hAD : (na + 1, nu + ll t, upd kdf na k, upd dpf na (nI (dd - t)), upd clf na (-1), upd saf na (nI nu), upd lnf na (nI (ll t)), bt2_8) = sp_add k (nI 3) (-1) (ll t) (na, nu, kdf, dpf, clf, saf, lnf, btf) := by rw [f9, show dd - t = 3 by omega]; rfl
  refine lv_istore (lv' := [(4, .int (nI na)), (0, .ref mk), (1, .int k), (2, .int (nI dd)), (3, .int (nI t))]) hx hb dX3_gridAt_43 hl (by decide) rfl (fun ls hl => ?_)
  refine lv_iload_n hx hb dX3_gridAt_45 rfl (lv_at hl 4 rfl) ?_
  refine lv_iconst (v := 1) hx hb dX3_gridAt_46 (by decide) ?_
  refine lv_iadd hx hb dX3_gridAt_47 ?_
  refine zz_topi (v := nI (t + 1)) (nI_1 _) ?_
  refine lv_iload_n hx hb dX3_gridAt_48 rfl (lv_at hl 3 rfl) ?_
  refine lv_icmp_ge (tgt := 103) hx hb dX3_gridAt_49 (by decide) (fun c => absurd c (nI_ge (by omega) (by omega))) (fun c10 => ?_)
  refine lv_iconst (v := 0) hx hb dX3_gridAt_52 (by decide) ?_
  refine lv_istore (lv' := [(5, .int 0), (4, .int (nI na)), (0, .ref mk), (1, .int k), (2, .int (nI dd)), (3, .int (nI t))]) hx hb dX3_gridAt_53 hl (by decide) rfl (fun ls hl => ?_)
  have LP11 : ∀ (N : Nat) (i : Nat) (na1 : Nat) (nu1 : Nat) (kd1 : Nat → Int32) (dp1 : Nat → Int32) (cl1 : Nat → Int32) (sa1 : Nat → Int32) (ln1 : Nat → Int32) (bt1 : Nat → Int64) (H : Heap) (locs : List Loc) (ls : Array Slot), (i ≤ ll t) → (na + 1 ≤ na1) → (zz_SI na1 nu1 dp1 sa1 ln1) → (sa1 na = nI nu) → (zz_EX na dpf saf lnf dp1 sa1 ln1) → (na1 + (ll t - i) * zz_TT2 ll 2 (t + 1) ≤ 60) → (nu1 + (ll t - i) * zz_EE ll 2 (t + 1) ≤ 4000) → (sp_grid k ll 3 t (na, nu, kdf, dpf, clf, saf, lnf, btf) = sp_gl (sp_grid k ll 2 (t + 1)) nu (ll t - i) i (na1, nu1, kd1, dp1, cl1, sa1, ln1, bt1)) → (ll t - i) < N → zz_Z g A s.heap [cw_k2 mk st ml pa pe, cw_i g ml 4 lf, cw_k5 st (nI na1) (nI nu1) kd dp cl sa ln bt pn bf, cw_i g kd 60 kd1, cw_i g dp 60 dp1, cw_i g cl 60 cl1, cw_i g sa 60 sa1, cw_i g ln 60 ln1, cw_l g bt 4000 bt1] H locs → lv_has ls 6 [(5, .int (nI i)), (4, .int (nI na)), (0, .ref mk), (1, .int k), (2, .int (nI dd)), (3, .int (nI t))] → W p l e rm_co_gridAt3 s m args below meth c H locs 0 0 (zz_QI below g args s A rm_co_gridAt3.cells rm_co_gridAt3.slots (po_co_gridAt3 g st mk ml pa pe lf kd dp cl sa ln bt pn bf na nu kdf dpf clf saf lnf btf ll t dd k h_t h_d h_m h_S h_l)) (F0 m 55 ls []) := by
    intro N
    induction N with
    | zero =>
      intro i na1 nu1 kd1 dp1 cl1 sa1 ln1 bt1 H locs ls hi h1 hS1 h4 hE1 hm1 hm2 hSG hN
      exact absurd hN (Nat.not_lt_zero _)
    | succ N ih =>
      intro i na1 nu1 kd1 dp1 cl1 sa1 ln1 bt1 H locs ls hi h1 hS1 h4 hE1 hm1 hm2 hSG hN hZ hl
      refine lv_iload hx hb dX3_gridAt_55 (lv_at hl 0 rfl) ?_
      refine lv_aload_n hx hb dX3_gridAt_57 rfl (lv_at hl 2 rfl) ?_
      refine zz_get hC hZ 0 rfl zf_X3_9 rfl dX3_gridAt_58 ?_
      refine lv_iload_n hx hb dX3_gridAt_61 rfl (lv_at hl 5 rfl) ?_
      refine zz_ialdn hC hZ 1 rfl bd2 (by decide) dX3_gridAt_62 ?_
      refine zz_topi (v := nI (ll t)) (elt) ?_
      have bd13 : (ll t) < 2 ^ 31 := by omega
      have bd14 : i < 2 ^ 31 := by omega
      refine lv_icmp_ge (tgt := 103) hx hb dX3_gridAt_63 (by decide) (fun c12 => ?_) (fun c12 => ?_)
      · have nc12 : (ll t) ≤ i := (nI_leI bd13 bd14).mp (show nI ((ll t)) ≤ nI (i) from c12)
        refine lv_iload hx hb dX3_gridAt_103 (lv_at hl 1 rfl) ?_
        exact zz_iret hC hZ (⟨na1, nu1, kd1, dp1, cl1, sa1, ln1, bt1, rfl, hS1, by omega, hE1, by rw [hSG, show ll t - i = 0 by omega, sp_gl], rfl⟩) (Nat.le_of_ble_eq_true rfl) (Nat.le_of_ble_eq_true rfl) dX3_gridAt_105
      · have nc12 : ¬ (ll t) ≤ i := fun zq => c12 (show nI ((ll t)) ≤ nI (i) from (nI_leI bd13 bd14).mpr zq)
        have hna1 := hS1.1
        have hnu1 := hS1.2.1
        have hxTT2 : (ll t - i) * zz_TT2 ll 2 (t + 1) = (ll t - (i + 1)) * zz_TT2 ll 2 (t + 1) + zz_TT2 ll 2 (t + 1) := by rw [show ll t - i = (ll t - (i + 1)) + 1 by omega, Nat.add_mul, Nat.one_mul]
        have hxEE : (ll t - i) * zz_EE ll 2 (t + 1) = (ll t - (i + 1)) * zz_EE ll 2 (t + 1) + zz_EE ll 2 (t + 1) := by rw [show ll t - i = (ll t - (i + 1)) + 1 by omega, Nat.add_mul, Nat.one_mul]
        refine lv_aload_n hx hb dX3_gridAt_66 rfl (lv_at hl 2 rfl) ?_
        refine zz_get hC hZ 0 rfl zf_X3_15 rfl dX3_gridAt_67 ?_
        refine zz_get hC hZ 2 rfl zf_X3_33 rfl dX3_gridAt_70 ?_
        refine lv_aload_n hx hb dX3_gridAt_73 rfl (lv_at hl 2 rfl) ?_
        refine zz_get hC hZ 0 rfl zf_X3_15 rfl dX3_gridAt_74 ?_
        refine zz_get hC hZ 2 rfl zf_X3_37 rfl dX3_gridAt_77 ?_
        refine lv_iload hx hb dX3_gridAt_80 (lv_at hl 1 rfl) ?_
        have bd15 : na < 60 := by omega
        refine zz_ialdn hC hZ 6 rfl bd15 (by decide) dX3_gridAt_82 ?_
        refine zz_topi (v := nI nu) (h4) ?_
        refine lv_iload hx hb dX3_gridAt_83 (lv_at hl 0 rfl) ?_
        refine lv_iadd hx hb dX3_gridAt_85 ?_
        refine zz_topi (v := nI (nu + i)) (nI_add _ _) ?_
        refine lv_aload_n hx hb dX3_gridAt_86 rfl (lv_at hl 2 rfl) ?_
        refine lv_iload_n hx hb dX3_gridAt_87 rfl (lv_at hl 3 rfl) ?_
        refine lv_iload_n hx hb dX3_gridAt_88 rfl (lv_at hl 4 rfl) ?_
        refine lv_iload_n hx hb dX3_gridAt_89 rfl (lv_at hl 5 rfl) ?_
        refine lv_iconst (v := 1) hx hb dX3_gridAt_90 (by decide) ?_
        refine lv_iadd hx hb dX3_gridAt_91 ?_
        refine zz_topi (v := nI (t + 1)) (nI_1 _) ?_
        refine zz_iV (As := [.int k, .int (nI dd), .int (nI (t + 1))]) (wc := [cw_k2 mk st ml pa pe, cw_i g ml 4 lf, cw_k5 st (nI na1) (nI nu1) kd dp cl sa ln bt pn bf, cw_i g kd 60 kd1, cw_i g dp 60 dp1, cw_i g cl 60 cl1, cw_i g sa 60 sa1, cw_i g ln 60 ln1, cw_l g bt 4000 bt1]) (wr := []) (rest := [.int (nI (nu + i)), .ref bt]) hC hZ hs hl zc_X3_25 (co_gridAt2 g st mk ml pa pe lf kd dp cl sa ln bt pn bf na1 nu1 kd1 dp1 cl1 sa1 ln1 bt1 ll (t + 1) dd k (by omega) (by omega) (by omega) (hS1) (h_l)) [0, 1, 2, 3, 4, 5, 6, 7, 8] [] rfl rfl (by decide +kernel) (ci := 2) (q0 := 0) rfl rfl rfl rfl (Nat.le_of_ble_eq_true rfl) ⟨⟨Nat.le_of_ble_eq_true rfl, Nat.le_of_ble_eq_true rfl⟩, Nat.le_of_ble_eq_true rfl, Nat.le_of_ble_eq_true rfl⟩ dX3_gridAt_92 (fun r16 u17 H locs hp hZ => ?_)
        obtain ⟨na2_18, nu2_19, kd2_20, dp2_21, cl2_22, sa2_23, ln2_24, bt2_25, rfl, f26, f27, f28, f29, rfl⟩ := hp
        have hZ : zz_Z g A s.heap [cw_k2 mk st ml pa pe, cw_i g ml 4 lf, cw_k5 st (nI na2_18) (nI nu2_19) kd dp cl sa ln bt pn bf, cw_i g kd 60 kd2_20, cw_i g dp 60 dp2_21, cw_i g cl 60 cl2_22, cw_i g sa 60 sa2_23, cw_i g ln 60 ln2_24, cw_l g bt 4000 bt2_25] H locs := hZ
        refine lv_i2l hx hb dX3_gridAt_95 rfl ?_
        have bd30 : (nu + i) < 4000 := by omega
        refine zz_lastn hC hZ 8 rfl bd30 (by decide) dX3_gridAt_96 (fun H locs hZ => ?_)
        have hZ : zz_Z g A s.heap [cw_k2 mk st ml pa pe, cw_i g ml 4 lf, cw_k5 st (nI na2_18) (nI nu2_19) kd dp cl sa ln bt pn bf, cw_i g kd 60 kd2_20, cw_i g dp 60 dp2_21, cw_i g cl 60 cl2_22, cw_i g sa 60 sa2_23, cw_i g ln 60 ln2_24, cw_l g bt 4000 (vp_updL bt2_25 (nu + i) ((nI na1).toInt64))] H locs := hZ
        refine lv_iinc (v := nI (i + 1)) (lv' := [(5, .int (nI (i + 1))), (4, .int (nI na)), (0, .ref mk), (1, .int k), (2, .int (nI dd)), (3, .int (nI t))]) hx hb dX3_gridAt_97 hl (k := 0) rfl (nI_1 _) (by decide) rfl (fun ls hl => ?_)
        refine lv_goto (tgt := 55) hx hb dX3_gridAt_100 (by decide) ?_
        have hgn := sp_grid_n k ll 2 (t + 1) (na1, nu1, kd1, dp1, cl1, sa1, ln1, bt1)
        rw [← f29] at hgn
        have hg1 : na2_18 = na1 + zz_TT2 ll 2 (t + 1) := hgn.1
        have hg2 : nu2_19 = nu1 + zz_EE ll 2 (t + 1) := hgn.2
        exact ih (i + 1) na2_18 nu2_19 kd2_20 dp2_21 cl2_22 sa2_23 ln2_24 (vp_updL bt2_25 (nu + i) ((nI na1).toInt64)) H locs ls (by omega) (by omega) (f26) ((f28 na (by omega)).1.trans h4) (hE1.tr (by omega) f28) (by omega) (by omega) (by rw [hSG, show ll t - i = (ll t - (i + 1)) + 1 by omega, sp_gl, ← f29, nI_l (show na1 < 2 ^ 31 by omega)]; rfl) (by omega) hZ (lv_sub hl [0, 1, 2, 3, 4, 5] rfl)
  exact LP11 _ 0 (na + 1) (nu + (ll t)) (upd kdf na k) (upd dpf na (nI (dd - t))) (upd clf na (-1)) (upd saf na (nI nu)) (upd lnf na (nI (ll t))) bt2_8 H locs ls (by omega) (by omega) (hSA) (pk_us) (zz_EX.up) (by rw [Nat.sub_zero]; omega) (by rw [Nat.sub_zero]; omega) (by rw [hAD, sp_grid, if_neg (by omega), if_neg (by omega)]; rfl) (Nat.lt_succ_self _) hZ (lv_sub hl [0, 1, 2, 3, 4, 5] rfl)
abbrev rm_co_gridAt4 : Room := { frames := 4, cells := 0, slots := 0, locals := 101 }
abbrev po_co_gridAt4 (g : zz_G) (st : Nat) (mk : Nat) (ml : Nat) (pa : Int32) (pe : Int32) (lf : Nat → Int32) (kd : Nat) (dp : Nat) (cl : Nat) (sa : Nat) (ln : Nat) (bt : Nat) (pn : Nat) (bf : Nat) (na : Nat) (nu : Nat) (kdf : Nat → Int32) (dpf : Nat → Int32) (clf : Nat → Int32) (saf : Nat → Int32) (lnf : Nat → Int32) (btf : Nat → Int64) (ll : Nat → Nat) (t : Nat) (dd : Nat) (k : Int32) (h_t : t + 4 = dd) (h_d : dd ≤ 4) (h_m : na + zz_TT2 ll 4 t ≤ 60 ∧ nu + zz_EE ll 4 t ≤ 4000) (h_S : zz_SI na nu dpf saf lnf) (h_l : ∀ j, j < dd → lf j = nI (ll j) ∧ ll j ≤ 200) : Int32 → va_W → Prop := fun (r : Int32) (u : va_W) => ∃ (na2 : Nat) (nu2 : Nat) (kd2 : Nat → Int32) (dp2 : Nat → Int32) (cl2 : Nat → Int32) (sa2 : Nat → Int32) (ln2 : Nat → Int32) (bt2 : Nat → Int64), r = nI na ∧ (zz_SI na2 nu2 dp2 sa2 ln2) ∧ (na ≤ na2) ∧ (zz_EX na dpf saf lnf dp2 sa2 ln2) ∧ ((na2, nu2, kd2, dp2, cl2, sa2, ln2, bt2) = sp_grid k ll 4 t (na, nu, kdf, dpf, clf, saf, lnf, btf)) ∧ u = [cw_k2 mk st ml pa pe, cw_i g ml 4 lf, cw_k5 st (nI na2) (nI nu2) kd dp cl sa ln bt pn bf, cw_i g kd 60 kd2, cw_i g dp 60 dp2, cw_i g cl 60 cl2, cw_i g sa 60 sa2, cw_i g ln 60 ln2, cw_l g bt 4000 bt2]
set_option maxHeartbeats 4000000 in
set_option maxRecDepth 100000 in
theorem co_gridAt4 (g : zz_G) (st : Nat) (mk : Nat) (ml : Nat) (pa : Int32) (pe : Int32) (lf : Nat → Int32) (kd : Nat) (dp : Nat) (cl : Nat) (sa : Nat) (ln : Nat) (bt : Nat) (pn : Nat) (bf : Nat) (na : Nat) (nu : Nat) (kdf : Nat → Int32) (dpf : Nat → Int32) (clf : Nat → Int32) (saf : Nat → Int32) (lnf : Nat → Int32) (btf : Nat → Int64) (ll : Nat → Nat) (t : Nat) (dd : Nat) (k : Int32) (h_t : t + 4 = dd) (h_d : dd ≤ 4) (h_m : na + zz_TT2 ll 4 t ≤ 60 ∧ nu + zz_EE ll 4 t ≤ 4000) (h_S : zz_SI na nu dpf saf lnf) (h_l : ∀ j, j < dd → lf j = nI (ll j) ∧ ll j ≤ 200) : zz_I g yX3_gridAt (.code yX3_gridAt cX3_gridAt 6 (some .int)) rm_co_gridAt4 [.ref mk, .int k, .int (nI dd), .int (nI t)] [cw_k2 mk st ml pa pe, cw_i g ml 4 lf, cw_k5 st (nI na) (nI nu) kd dp cl sa ln bt pn bf, cw_i g kd 60 kdf, cw_i g dp 60 dpf, cw_i g cl 60 clf, cw_i g sa 60 saf, cw_i g ln 60 lnf, cw_l g bt 4000 btf] (po_co_gridAt4 g st mk ml pa pe lf kd dp cl sa ln bt pn bf na nu kdf dpf clf saf lnf btf ll t dd k h_t h_d h_m h_S h_l) := by
  refine zz_I.intro (own := RX3) (cc := cX3_gridAt) (nL := 6) (by decide) rfl (Nat.le_of_ble_eq_true rfl) ?_
  intro p l e s m args below meth c A H locs ls hC hnm hs hZ hl
  obtain ⟨hx, hb, hml, hown, hts, hr, hlocks, hK⟩ := id hC
  have hl : lv_has ls 6 [(0, .ref mk), (1, .int k), (2, .int (nI dd)), (3, .int (nI t))] := hl
  have hZ : zz_Z g A s.heap [cw_k2 mk st ml pa pe, cw_i g ml 4 lf, cw_k5 st (nI na) (nI nu) kd dp cl sa ln bt pn bf, cw_i g kd 60 kdf, cw_i g dp 60 dpf, cw_i g cl 60 clf, cw_i g sa 60 saf, cw_i g ln 60 lnf, cw_l g bt 4000 btf] H locs := hZ
  have hna := h_S.1
  have hnu := h_S.2.1
  obtain ⟨elt, hlt⟩ := h_l t (by omega)
  have hTT : zz_TT2 ll 4 t = 1 + ll t * zz_TT2 ll 3 (t + 1) := rfl
  have hEE : zz_EE ll 4 t = ll t + ll t * zz_EE ll 3 (t + 1) := rfl
  refine lv_iload_n hx hb dX3_gridAt_0 rfl (lv_at hl 3 rfl) ?_
  refine lv_iconst (v := 4) hx hb dX3_gridAt_1 (by decide) ?_
  refine lv_icmp_ge (tgt := 23) hx hb dX3_gridAt_2 (by decide) (fun c => absurd c ((nI_ge (b := 4) (by omega) (by decide) : ¬ nI 4 ≤ nI t))) (fun c1 => ?_)
  refine lv_aload_n hx hb dX3_gridAt_5 rfl (lv_at hl 0 rfl) ?_
  refine zz_get hC hZ 0 rfl zf_X3_15 rfl dX3_gridAt_6 ?_
  refine lv_lconst (v := 1) hx hb dX3_gridAt_9 (by decide) ?_
  refine lv_aload_n hx hb dX3_gridAt_10 rfl (lv_at hl 0 rfl) ?_
  refine zz_get hC hZ 0 rfl zf_X3_9 rfl dX3_gridAt_11 ?_
  refine lv_iload_n hx hb dX3_gridAt_14 rfl (lv_at hl 3 rfl) ?_
  have bd2 : t < 4 := by omega
  refine zz_ialdn hC hZ 1 rfl bd2 (by decide) dX3_gridAt_15 ?_
  refine zz_topi (v := nI (ll t)) (elt) ?_
  refine lv_i2l hx hb dX3_gridAt_16 rfl ?_
  refine zz_iV (As := [.long 1, .long ((nI (ll t)).toInt64)]) (wc := [cw_k5 st (nI na) (nI nu) kd dp cl sa ln bt pn bf]) (wr := [cw_k2 mk st ml pa pe, cw_i g ml 4 lf, cw_i g kd 60 kdf, cw_i g dp 60 dpf, cw_i g cl 60 clf, cw_i g sa 60 saf, cw_i g ln 60 lnf, cw_l g bt 4000 btf]) (rest := []) hC hZ hs hl zc_X3_19 (co_fits g st kd dp cl sa ln bt pn bf (nI na) (nI nu) 1 ((nI (ll t)).toInt64)) [2] [0, 1, 3, 4, 5, 6, 7, 8] rfl rfl (by decide +kernel) (ci := 5) (q0 := 0) rfl rfl rfl rfl (Nat.le_of_ble_eq_true rfl) ⟨⟨Nat.le_of_ble_eq_true rfl, Nat.le_of_ble_eq_true rfl⟩, Nat.le_of_ble_eq_true rfl, Nat.le_of_ble_eq_true rfl⟩ dX3_gridAt_17 (fun r3 u4 H locs hp hZ => ?_)
  obtain ⟨rfl, rfl⟩ := hp
  have hZ : zz_Z g A s.heap [cw_k2 mk st ml pa pe, cw_i g ml 4 lf, cw_i g kd 60 kdf, cw_i g dp 60 dpf, cw_i g cl 60 clf, cw_i g sa 60 saf, cw_i g ln 60 lnf, cw_l g bt 4000 btf, cw_k5 st (nI na) (nI nu) kd dp cl sa ln bt pn bf] H locs := hZ
  refine lv_if_ne (tgt := 25) hx hb dX3_gridAt_20 (by decide) (fun c5 => ?_) (fun c => absurd c (zl_fitN (by omega) (by omega)))
  refine lv_aload_n hx hb dX3_gridAt_25 rfl (lv_at hl 0 rfl) ?_
  refine zz_get hC hZ 0 rfl zf_X3_15 rfl dX3_gridAt_26 ?_
  refine lv_iload_n hx hb dX3_gridAt_29 rfl (lv_at hl 1 rfl) ?_
  refine lv_iload_n hx hb dX3_gridAt_30 rfl (lv_at hl 2 rfl) ?_
  refine lv_iload_n hx hb dX3_gridAt_31 rfl (lv_at hl 3 rfl) ?_
  refine lv_isub hx hb dX3_gridAt_32 ?_
  refine zz_topi (v := nI (dd - t)) (pk_sub (by omega)) ?_
  refine lv_iconst (v := -1) hx hb dX3_gridAt_33 (by decide) ?_
  refine lv_aload_n hx hb dX3_gridAt_34 rfl (lv_at hl 0 rfl) ?_
  refine zz_get hC hZ 0 rfl zf_X3_9 rfl dX3_gridAt_35 ?_
  refine lv_iload_n hx hb dX3_gridAt_38 rfl (lv_at hl 3 rfl) ?_
  refine zz_ialdn hC hZ 1 rfl bd2 (by decide) dX3_gridAt_39 ?_
  refine zz_topi (v := nI (ll t)) (elt) ?_
  refine zz_iV (As := [.int k, .int (nI (dd - t)), .int (-1), .int (nI (ll t))]) (wc := [cw_k5 st (nI na) (nI nu) kd dp cl sa ln bt pn bf, cw_i g kd 60 kdf, cw_i g dp 60 dpf, cw_i g cl 60 clf, cw_i g sa 60 saf, cw_i g ln 60 lnf, cw_l g bt 4000 btf]) (wr := [cw_k2 mk st ml pa pe, cw_i g ml 4 lf]) (rest := []) hC hZ hs hl zc_X3_29 (co_add g st kd dp cl sa ln bt pn bf na nu (ll t) kdf dpf clf saf lnf btf k (nI (dd - t)) (-1) (by omega) (by omega)) [8, 2, 3, 4, 5, 6, 7] [0, 1] rfl rfl (by decide +kernel) (ci := 5) (q0 := 0) rfl rfl rfl rfl (Nat.le_of_ble_eq_true rfl) ⟨⟨Nat.le_of_ble_eq_true rfl, Nat.le_of_ble_eq_true rfl⟩, Nat.le_of_ble_eq_true rfl, Nat.le_of_ble_eq_true rfl⟩ dX3_gridAt_40 (fun r6 u7 H locs hp hZ => ?_)
  obtain ⟨bt2_8, rfl, f9, rfl⟩ := hp
  have hZ : zz_Z g A s.heap [cw_k2 mk st ml pa pe, cw_i g ml 4 lf, cw_k5 st (nI (na + 1)) (nI (nu + (ll t))) kd dp cl sa ln bt pn bf, cw_i g kd 60 (upd kdf na k), cw_i g dp 60 (upd dpf na (nI (dd - t))), cw_i g cl 60 (upd clf na (-1)), cw_i g sa 60 (upd saf na (nI nu)), cw_i g ln 60 (upd lnf na (nI (ll t))), cw_l g bt 4000 bt2_8] H locs := hZ
  have hSA := zz_SI_add h_S (by omega) (by omega) hlt (d := dd - t) ⟨by omega, by omega⟩
  have hAD : (na + 1, nu + ll t, upd kdf na k, upd dpf na (nI (dd - t)), upd clf na (-1), upd saf na (nI nu), upd lnf na (nI (ll t)), bt2_8) = sp_add k (nI 4) (-1) (ll t) (na, nu, kdf, dpf, clf, saf, lnf, btf) := by rw [f9, show dd - t = 4 by omega]; rfl
  refine lv_istore (lv' := [(4, .int (nI na)), (0, .ref mk), (1, .int k), (2, .int (nI dd)), (3, .int (nI t))]) hx hb dX3_gridAt_43 hl (by decide) rfl (fun ls hl => ?_)
  refine lv_iload_n hx hb dX3_gridAt_45 rfl (lv_at hl 4 rfl) ?_
  refine lv_iconst (v := 1) hx hb dX3_gridAt_46 (by decide) ?_
  refine lv_iadd hx hb dX3_gridAt_47 ?_
  refine zz_topi (v := nI (t + 1)) (nI_1 _) ?_
  refine lv_iload_n hx hb dX3_gridAt_48 rfl (lv_at hl 3 rfl) ?_
  refine lv_icmp_ge (tgt := 103) hx hb dX3_gridAt_49 (by decide) (fun c => absurd c (nI_ge (by omega) (by omega))) (fun c10 => ?_)
  refine lv_iconst (v := 0) hx hb dX3_gridAt_52 (by decide) ?_
  refine lv_istore (lv' := [(5, .int 0), (4, .int (nI na)), (0, .ref mk), (1, .int k), (2, .int (nI dd)), (3, .int (nI t))]) hx hb dX3_gridAt_53 hl (by decide) rfl (fun ls hl => ?_)
  have LP11 : ∀ (N : Nat) (i : Nat) (na1 : Nat) (nu1 : Nat) (kd1 : Nat → Int32) (dp1 : Nat → Int32) (cl1 : Nat → Int32) (sa1 : Nat → Int32) (ln1 : Nat → Int32) (bt1 : Nat → Int64) (H : Heap) (locs : List Loc) (ls : Array Slot), (i ≤ ll t) → (na + 1 ≤ na1) → (zz_SI na1 nu1 dp1 sa1 ln1) → (sa1 na = nI nu) → (zz_EX na dpf saf lnf dp1 sa1 ln1) → (na1 + (ll t - i) * zz_TT2 ll 3 (t + 1) ≤ 60) → (nu1 + (ll t - i) * zz_EE ll 3 (t + 1) ≤ 4000) → (sp_grid k ll 4 t (na, nu, kdf, dpf, clf, saf, lnf, btf) = sp_gl (sp_grid k ll 3 (t + 1)) nu (ll t - i) i (na1, nu1, kd1, dp1, cl1, sa1, ln1, bt1)) → (ll t - i) < N → zz_Z g A s.heap [cw_k2 mk st ml pa pe, cw_i g ml 4 lf, cw_k5 st (nI na1) (nI nu1) kd dp cl sa ln bt pn bf, cw_i g kd 60 kd1, cw_i g dp 60 dp1, cw_i g cl 60 cl1, cw_i g sa 60 sa1, cw_i g ln 60 ln1, cw_l g bt 4000 bt1] H locs → lv_has ls 6 [(5, .int (nI i)), (4, .int (nI na)), (0, .ref mk), (1, .int k), (2, .int (nI dd)), (3, .int (nI t))] → W p l e rm_co_gridAt4 s m args below meth c H locs 0 0 (zz_QI below g args s A rm_co_gridAt4.cells rm_co_gridAt4.slots (po_co_gridAt4 g st mk ml pa pe lf kd dp cl sa ln bt pn bf na nu kdf dpf clf saf lnf btf ll t dd k h_t h_d h_m h_S h_l)) (F0 m 55 ls []) := by
    intro N
    induction N with
    | zero =>
      intro i na1 nu1 kd1 dp1 cl1 sa1 ln1 bt1 H locs ls hi h1 hS1 h4 hE1 hm1 hm2 hSG hN
      exact absurd hN (Nat.not_lt_zero _)
    | succ N ih =>
      intro i na1 nu1 kd1 dp1 cl1 sa1 ln1 bt1 H locs ls hi h1 hS1 h4 hE1 hm1 hm2 hSG hN hZ hl
      refine lv_iload hx hb dX3_gridAt_55 (lv_at hl 0 rfl) ?_
      refine lv_aload_n hx hb dX3_gridAt_57 rfl (lv_at hl 2 rfl) ?_
      refine zz_get hC hZ 0 rfl zf_X3_9 rfl dX3_gridAt_58 ?_
      refine lv_iload_n hx hb dX3_gridAt_61 rfl (lv_at hl 5 rfl) ?_
      refine zz_ialdn hC hZ 1 rfl bd2 (by decide) dX3_gridAt_62 ?_
      refine zz_topi (v := nI (ll t)) (elt) ?_
      have bd13 : (ll t) < 2 ^ 31 := by omega
      have bd14 : i < 2 ^ 31 := by omega
      refine lv_icmp_ge (tgt := 103) hx hb dX3_gridAt_63 (by decide) (fun c12 => ?_) (fun c12 => ?_)
      · have nc12 : (ll t) ≤ i := (nI_leI bd13 bd14).mp (show nI ((ll t)) ≤ nI (i) from c12)
        refine lv_iload hx hb dX3_gridAt_103 (lv_at hl 1 rfl) ?_
        exact zz_iret hC hZ (⟨na1, nu1, kd1, dp1, cl1, sa1, ln1, bt1, rfl, hS1, by omega, hE1, by rw [hSG, show ll t - i = 0 by omega, sp_gl], rfl⟩) (Nat.le_of_ble_eq_true rfl) (Nat.le_of_ble_eq_true rfl) dX3_gridAt_105
      · have nc12 : ¬ (ll t) ≤ i := fun zq => c12 (show nI ((ll t)) ≤ nI (i) from (nI_leI bd13 bd14).mpr zq)
        have hna1 := hS1.1
        have hnu1 := hS1.2.1
        have hxTT2 : (ll t - i) * zz_TT2 ll 3 (t + 1) = (ll t - (i + 1)) * zz_TT2 ll 3 (t + 1) + zz_TT2 ll 3 (t + 1) := by rw [show ll t - i = (ll t - (i + 1)) + 1 by omega, Nat.add_mul, Nat.one_mul]
        have hxEE : (ll t - i) * zz_EE ll 3 (t + 1) = (ll t - (i + 1)) * zz_EE ll 3 (t + 1) + zz_EE ll 3 (t + 1) := by rw [show ll t - i = (ll t - (i + 1)) + 1 by omega, Nat.add_mul, Nat.one_mul]
        refine lv_aload_n hx hb dX3_gridAt_66 rfl (lv_at hl 2 rfl) ?_
        refine zz_get hC hZ 0 rfl zf_X3_15 rfl dX3_gridAt_67 ?_
        refine zz_get hC hZ 2 rfl zf_X3_33 rfl dX3_gridAt_70 ?_
        refine lv_aload_n hx hb dX3_gridAt_73 rfl (lv_at hl 2 rfl) ?_
        refine zz_get hC hZ 0 rfl zf_X3_15 rfl dX3_gridAt_74 ?_
        refine zz_get hC hZ 2 rfl zf_X3_37 rfl dX3_gridAt_77 ?_
        refine lv_iload hx hb dX3_gridAt_80 (lv_at hl 1 rfl) ?_
        have bd15 : na < 60 := by omega
        refine zz_ialdn hC hZ 6 rfl bd15 (by decide) dX3_gridAt_82 ?_
        refine zz_topi (v := nI nu) (h4) ?_
        refine lv_iload hx hb dX3_gridAt_83 (lv_at hl 0 rfl) ?_
        refine lv_iadd hx hb dX3_gridAt_85 ?_
        refine zz_topi (v := nI (nu + i)) (nI_add _ _) ?_
        refine lv_aload_n hx hb dX3_gridAt_86 rfl (lv_at hl 2 rfl) ?_
        refine lv_iload_n hx hb dX3_gridAt_87 rfl (lv_at hl 3 rfl) ?_
        refine lv_iload_n hx hb dX3_gridAt_88 rfl (lv_at hl 4 rfl) ?_
        refine lv_iload_n hx hb dX3_gridAt_89 rfl (lv_at hl 5 rfl) ?_
        refine lv_iconst (v := 1) hx hb dX3_gridAt_90 (by decide) ?_
        refine lv_iadd hx hb dX3_gridAt_91 ?_
        refine zz_topi (v := nI (t + 1)) (nI_1 _) ?_
        refine zz_iV (As := [.int k, .int (nI dd), .int (nI (t + 1))]) (wc := [cw_k2 mk st ml pa pe, cw_i g ml 4 lf, cw_k5 st (nI na1) (nI nu1) kd dp cl sa ln bt pn bf, cw_i g kd 60 kd1, cw_i g dp 60 dp1, cw_i g cl 60 cl1, cw_i g sa 60 sa1, cw_i g ln 60 ln1, cw_l g bt 4000 bt1]) (wr := []) (rest := [.int (nI (nu + i)), .ref bt]) hC hZ hs hl zc_X3_25 (co_gridAt3 g st mk ml pa pe lf kd dp cl sa ln bt pn bf na1 nu1 kd1 dp1 cl1 sa1 ln1 bt1 ll (t + 1) dd k (by omega) (by omega) (by omega) (hS1) (h_l)) [0, 1, 2, 3, 4, 5, 6, 7, 8] [] rfl rfl (by decide +kernel) (ci := 2) (q0 := 0) rfl rfl rfl rfl (Nat.le_of_ble_eq_true rfl) ⟨⟨Nat.le_of_ble_eq_true rfl, Nat.le_of_ble_eq_true rfl⟩, Nat.le_of_ble_eq_true rfl, Nat.le_of_ble_eq_true rfl⟩ dX3_gridAt_92 (fun r16 u17 H locs hp hZ => ?_)
        obtain ⟨na2_18, nu2_19, kd2_20, dp2_21, cl2_22, sa2_23, ln2_24, bt2_25, rfl, f26, f27, f28, f29, rfl⟩ := hp
        have hZ : zz_Z g A s.heap [cw_k2 mk st ml pa pe, cw_i g ml 4 lf, cw_k5 st (nI na2_18) (nI nu2_19) kd dp cl sa ln bt pn bf, cw_i g kd 60 kd2_20, cw_i g dp 60 dp2_21, cw_i g cl 60 cl2_22, cw_i g sa 60 sa2_23, cw_i g ln 60 ln2_24, cw_l g bt 4000 bt2_25] H locs := hZ
        refine lv_i2l hx hb dX3_gridAt_95 rfl ?_
        have bd30 : (nu + i) < 4000 := by omega
        refine zz_lastn hC hZ 8 rfl bd30 (by decide) dX3_gridAt_96 (fun H locs hZ => ?_)
        have hZ : zz_Z g A s.heap [cw_k2 mk st ml pa pe, cw_i g ml 4 lf, cw_k5 st (nI na2_18) (nI nu2_19) kd dp cl sa ln bt pn bf, cw_i g kd 60 kd2_20, cw_i g dp 60 dp2_21, cw_i g cl 60 cl2_22, cw_i g sa 60 sa2_23, cw_i g ln 60 ln2_24, cw_l g bt 4000 (vp_updL bt2_25 (nu + i) ((nI na1).toInt64))] H locs := hZ
        refine lv_iinc (v := nI (i + 1)) (lv' := [(5, .int (nI (i + 1))), (4, .int (nI na)), (0, .ref mk), (1, .int k), (2, .int (nI dd)), (3, .int (nI t))]) hx hb dX3_gridAt_97 hl (k := 0) rfl (nI_1 _) (by decide) rfl (fun ls hl => ?_)
        refine lv_goto (tgt := 55) hx hb dX3_gridAt_100 (by decide) ?_
        have hgn := sp_grid_n k ll 3 (t + 1) (na1, nu1, kd1, dp1, cl1, sa1, ln1, bt1)
        rw [← f29] at hgn
        have hg1 : na2_18 = na1 + zz_TT2 ll 3 (t + 1) := hgn.1
        have hg2 : nu2_19 = nu1 + zz_EE ll 3 (t + 1) := hgn.2
        exact ih (i + 1) na2_18 nu2_19 kd2_20 dp2_21 cl2_22 sa2_23 ln2_24 (vp_updL bt2_25 (nu + i) ((nI na1).toInt64)) H locs ls (by omega) (by omega) (f26) ((f28 na (by omega)).1.trans h4) (hE1.tr (by omega) f28) (by omega) (by omega) (by rw [hSG, show ll t - i = (ll t - (i + 1)) + 1 by omega, sp_gl, ← f29, nI_l (show na1 < 2 ^ 31 by omega)]; rfl) (by omega) hZ (lv_sub hl [0, 1, 2, 3, 4, 5] rfl)
  exact LP11 _ 0 (na + 1) (nu + (ll t)) (upd kdf na k) (upd dpf na (nI (dd - t))) (upd clf na (-1)) (upd saf na (nI nu)) (upd lnf na (nI (ll t))) bt2_8 H locs ls (by omega) (by omega) (hSA) (pk_us) (zz_EX.up) (by rw [Nat.sub_zero]; omega) (by rw [Nat.sub_zero]; omega) (by rw [hAD, sp_grid, if_neg (by omega), if_neg (by omega)]; rfl) (Nat.lt_succ_self _) hZ (lv_sub hl [0, 1, 2, 3, 4, 5] rfl)
theorem dg_X3_makeGrid_0 : (decode cX3_makeGrid 0 = .ok (.aload_n 0, 1)) ∧ (decode cX3_makeGrid 1 = .ok (.iload_n 1, 1)) ∧ (decode cX3_makeGrid 2 = .ok (.iload_n 2, 1)) ∧ (decode cX3_makeGrid 3 = .ok (.iconst 0, 1)) ∧ (decode cX3_makeGrid 4 = .ok (.invokevirtual 25, 3)) ∧ (decode cX3_makeGrid 7 = .ok (.ireturn, 1)) := by decide +kernel
theorem dX3_makeGrid_0 : decode cX3_makeGrid 0 = .ok (.aload_n 0, 1) := dg_X3_makeGrid_0.1
theorem dX3_makeGrid_1 : decode cX3_makeGrid 1 = .ok (.iload_n 1, 1) := dg_X3_makeGrid_0.2.1
theorem dX3_makeGrid_2 : decode cX3_makeGrid 2 = .ok (.iload_n 2, 1) := dg_X3_makeGrid_0.2.2.1
theorem dX3_makeGrid_3 : decode cX3_makeGrid 3 = .ok (.iconst 0, 1) := dg_X3_makeGrid_0.2.2.2.1
theorem dX3_makeGrid_4 : decode cX3_makeGrid 4 = .ok (.invokevirtual 25, 3) := dg_X3_makeGrid_0.2.2.2.2.1
theorem dX3_makeGrid_7 : decode cX3_makeGrid 7 = .ok (.ireturn, 1) := dg_X3_makeGrid_0.2.2.2.2.2
abbrev rm_co_makeGrid1 : Room := { frames := 2, cells := 0, slots := 0, locals := 51 }
abbrev po_co_makeGrid1 (g : zz_G) (st : Nat) (mk : Nat) (ml : Nat) (pa : Int32) (pe : Int32) (lf : Nat → Int32) (kd : Nat) (dp : Nat) (cl : Nat) (sa : Nat) (ln : Nat) (bt : Nat) (pn : Nat) (bf : Nat) (na : Nat) (nu : Nat) (kdf : Nat → Int32) (dpf : Nat → Int32) (clf : Nat → Int32) (saf : Nat → Int32) (lnf : Nat → Int32) (btf : Nat → Int64) (ll : Nat → Nat) (dd : Nat) (k : Int32) (h_dd : dd = 1) (h_m : na + zz_TT2 ll 1 0 ≤ 60 ∧ nu + zz_EE ll 1 0 ≤ 4000) (h_S : zz_SI na nu dpf saf lnf) (h_l : ∀ j, j < dd → lf j = nI (ll j) ∧ ll j ≤ 200) : Int32 → va_W → Prop := fun (r : Int32) (u : va_W) => ∃ (na2 : Nat) (nu2 : Nat) (kd2 : Nat → Int32) (dp2 : Nat → Int32) (cl2 : Nat → Int32) (sa2 : Nat → Int32) (ln2 : Nat → Int32) (bt2 : Nat → Int64), r = nI na ∧ (zz_SI na2 nu2 dp2 sa2 ln2) ∧ (na ≤ na2) ∧ (zz_EX na dpf saf lnf dp2 sa2 ln2) ∧ ((na2, nu2, kd2, dp2, cl2, sa2, ln2, bt2) = sp_grid k ll 1 0 (na, nu, kdf, dpf, clf, saf, lnf, btf)) ∧ u = [cw_k2 mk st ml pa pe, cw_i g ml 4 lf, cw_k5 st (nI na2) (nI nu2) kd dp cl sa ln bt pn bf, cw_i g kd 60 kd2, cw_i g dp 60 dp2, cw_i g cl 60 cl2, cw_i g sa 60 sa2, cw_i g ln 60 ln2, cw_l g bt 4000 bt2]
set_option maxHeartbeats 4000000 in
set_option maxRecDepth 100000 in
theorem co_makeGrid1 (g : zz_G) (st : Nat) (mk : Nat) (ml : Nat) (pa : Int32) (pe : Int32) (lf : Nat → Int32) (kd : Nat) (dp : Nat) (cl : Nat) (sa : Nat) (ln : Nat) (bt : Nat) (pn : Nat) (bf : Nat) (na : Nat) (nu : Nat) (kdf : Nat → Int32) (dpf : Nat → Int32) (clf : Nat → Int32) (saf : Nat → Int32) (lnf : Nat → Int32) (btf : Nat → Int64) (ll : Nat → Nat) (dd : Nat) (k : Int32) (h_dd : dd = 1) (h_m : na + zz_TT2 ll 1 0 ≤ 60 ∧ nu + zz_EE ll 1 0 ≤ 4000) (h_S : zz_SI na nu dpf saf lnf) (h_l : ∀ j, j < dd → lf j = nI (ll j) ∧ ll j ≤ 200) : zz_I g yX3_makeGrid (.code yX3_makeGrid cX3_makeGrid 3 (some .int)) rm_co_makeGrid1 [.ref mk, .int k, .int (nI dd)] [cw_k2 mk st ml pa pe, cw_i g ml 4 lf, cw_k5 st (nI na) (nI nu) kd dp cl sa ln bt pn bf, cw_i g kd 60 kdf, cw_i g dp 60 dpf, cw_i g cl 60 clf, cw_i g sa 60 saf, cw_i g ln 60 lnf, cw_l g bt 4000 btf] (po_co_makeGrid1 g st mk ml pa pe lf kd dp cl sa ln bt pn bf na nu kdf dpf clf saf lnf btf ll dd k h_dd h_m h_S h_l) := by
  refine zz_I.intro (own := RX3) (cc := cX3_makeGrid) (nL := 3) (by decide) rfl (Nat.le_of_ble_eq_true rfl) ?_
  intro p l e s m args below meth c A H locs ls hC hnm hs hZ hl
  obtain ⟨hx, hb, hml, hown, hts, hr, hlocks, hK⟩ := id hC
  have hl : lv_has ls 3 [(0, .ref mk), (1, .int k), (2, .int (nI dd))] := hl
  have hZ : zz_Z g A s.heap [cw_k2 mk st ml pa pe, cw_i g ml 4 lf, cw_k5 st (nI na) (nI nu) kd dp cl sa ln bt pn bf, cw_i g kd 60 kdf, cw_i g dp 60 dpf, cw_i g cl 60 clf, cw_i g sa 60 saf, cw_i g ln 60 lnf, cw_l g bt 4000 btf] H locs := hZ
  refine lv_aload_n hx hb dX3_makeGrid_0 rfl (lv_at hl 0 rfl) ?_
  refine lv_iload_n hx hb dX3_makeGrid_1 rfl (lv_at hl 1 rfl) ?_
  refine lv_iload_n hx hb dX3_makeGrid_2 rfl (lv_at hl 2 rfl) ?_
  refine lv_iconst (v := 0) hx hb dX3_makeGrid_3 (by decide) ?_
  refine zz_iV (As := [.int k, .int (nI dd), .int 0]) (wc := [cw_k2 mk st ml pa pe, cw_i g ml 4 lf, cw_k5 st (nI na) (nI nu) kd dp cl sa ln bt pn bf, cw_i g kd 60 kdf, cw_i g dp 60 dpf, cw_i g cl 60 clf, cw_i g sa 60 saf, cw_i g ln 60 lnf, cw_l g bt 4000 btf]) (wr := []) (rest := []) hC hZ hs hl zc_X3_25 (co_gridAt1 g st mk ml pa pe lf kd dp cl sa ln bt pn bf na nu kdf dpf clf saf lnf btf ll 0 dd k (by omega) (by omega) (by omega) (h_S) (h_l)) [0, 1, 2, 3, 4, 5, 6, 7, 8] [] rfl rfl (by decide +kernel) (ci := 2) (q0 := 0) rfl rfl rfl rfl (Nat.le_of_ble_eq_true rfl) ⟨⟨Nat.le_of_ble_eq_true rfl, Nat.le_of_ble_eq_true rfl⟩, Nat.le_of_ble_eq_true rfl, Nat.le_of_ble_eq_true rfl⟩ dX3_makeGrid_4 (fun r1 u2 H locs hp hZ => ?_)
  obtain ⟨na2_3, nu2_4, kd2_5, dp2_6, cl2_7, sa2_8, ln2_9, bt2_10, rfl, f11, f12, f13, f14, rfl⟩ := hp
  have hZ : zz_Z g A s.heap [cw_k2 mk st ml pa pe, cw_i g ml 4 lf, cw_k5 st (nI na2_3) (nI nu2_4) kd dp cl sa ln bt pn bf, cw_i g kd 60 kd2_5, cw_i g dp 60 dp2_6, cw_i g cl 60 cl2_7, cw_i g sa 60 sa2_8, cw_i g ln 60 ln2_9, cw_l g bt 4000 bt2_10] H locs := hZ
  exact zz_iret hC hZ (⟨na2_3, nu2_4, kd2_5, dp2_6, cl2_7, sa2_8, ln2_9, bt2_10, rfl, f11, f12, f13, f14, rfl⟩) (Nat.le_of_ble_eq_true rfl) (Nat.le_of_ble_eq_true rfl) dX3_makeGrid_7
abbrev rm_co_makeGrid2 : Room := { frames := 3, cells := 0, slots := 0, locals := 76 }
abbrev po_co_makeGrid2 (g : zz_G) (st : Nat) (mk : Nat) (ml : Nat) (pa : Int32) (pe : Int32) (lf : Nat → Int32) (kd : Nat) (dp : Nat) (cl : Nat) (sa : Nat) (ln : Nat) (bt : Nat) (pn : Nat) (bf : Nat) (na : Nat) (nu : Nat) (kdf : Nat → Int32) (dpf : Nat → Int32) (clf : Nat → Int32) (saf : Nat → Int32) (lnf : Nat → Int32) (btf : Nat → Int64) (ll : Nat → Nat) (dd : Nat) (k : Int32) (h_dd : dd = 2) (h_m : na + zz_TT2 ll 2 0 ≤ 60 ∧ nu + zz_EE ll 2 0 ≤ 4000) (h_S : zz_SI na nu dpf saf lnf) (h_l : ∀ j, j < dd → lf j = nI (ll j) ∧ ll j ≤ 200) : Int32 → va_W → Prop := fun (r : Int32) (u : va_W) => ∃ (na2 : Nat) (nu2 : Nat) (kd2 : Nat → Int32) (dp2 : Nat → Int32) (cl2 : Nat → Int32) (sa2 : Nat → Int32) (ln2 : Nat → Int32) (bt2 : Nat → Int64), r = nI na ∧ (zz_SI na2 nu2 dp2 sa2 ln2) ∧ (na ≤ na2) ∧ (zz_EX na dpf saf lnf dp2 sa2 ln2) ∧ ((na2, nu2, kd2, dp2, cl2, sa2, ln2, bt2) = sp_grid k ll 2 0 (na, nu, kdf, dpf, clf, saf, lnf, btf)) ∧ u = [cw_k2 mk st ml pa pe, cw_i g ml 4 lf, cw_k5 st (nI na2) (nI nu2) kd dp cl sa ln bt pn bf, cw_i g kd 60 kd2, cw_i g dp 60 dp2, cw_i g cl 60 cl2, cw_i g sa 60 sa2, cw_i g ln 60 ln2, cw_l g bt 4000 bt2]
set_option maxHeartbeats 4000000 in
set_option maxRecDepth 100000 in
theorem co_makeGrid2 (g : zz_G) (st : Nat) (mk : Nat) (ml : Nat) (pa : Int32) (pe : Int32) (lf : Nat → Int32) (kd : Nat) (dp : Nat) (cl : Nat) (sa : Nat) (ln : Nat) (bt : Nat) (pn : Nat) (bf : Nat) (na : Nat) (nu : Nat) (kdf : Nat → Int32) (dpf : Nat → Int32) (clf : Nat → Int32) (saf : Nat → Int32) (lnf : Nat → Int32) (btf : Nat → Int64) (ll : Nat → Nat) (dd : Nat) (k : Int32) (h_dd : dd = 2) (h_m : na + zz_TT2 ll 2 0 ≤ 60 ∧ nu + zz_EE ll 2 0 ≤ 4000) (h_S : zz_SI na nu dpf saf lnf) (h_l : ∀ j, j < dd → lf j = nI (ll j) ∧ ll j ≤ 200) : zz_I g yX3_makeGrid (.code yX3_makeGrid cX3_makeGrid 3 (some .int)) rm_co_makeGrid2 [.ref mk, .int k, .int (nI dd)] [cw_k2 mk st ml pa pe, cw_i g ml 4 lf, cw_k5 st (nI na) (nI nu) kd dp cl sa ln bt pn bf, cw_i g kd 60 kdf, cw_i g dp 60 dpf, cw_i g cl 60 clf, cw_i g sa 60 saf, cw_i g ln 60 lnf, cw_l g bt 4000 btf] (po_co_makeGrid2 g st mk ml pa pe lf kd dp cl sa ln bt pn bf na nu kdf dpf clf saf lnf btf ll dd k h_dd h_m h_S h_l) := by
  refine zz_I.intro (own := RX3) (cc := cX3_makeGrid) (nL := 3) (by decide) rfl (Nat.le_of_ble_eq_true rfl) ?_
  intro p l e s m args below meth c A H locs ls hC hnm hs hZ hl
  obtain ⟨hx, hb, hml, hown, hts, hr, hlocks, hK⟩ := id hC
  have hl : lv_has ls 3 [(0, .ref mk), (1, .int k), (2, .int (nI dd))] := hl
  have hZ : zz_Z g A s.heap [cw_k2 mk st ml pa pe, cw_i g ml 4 lf, cw_k5 st (nI na) (nI nu) kd dp cl sa ln bt pn bf, cw_i g kd 60 kdf, cw_i g dp 60 dpf, cw_i g cl 60 clf, cw_i g sa 60 saf, cw_i g ln 60 lnf, cw_l g bt 4000 btf] H locs := hZ
  refine lv_aload_n hx hb dX3_makeGrid_0 rfl (lv_at hl 0 rfl) ?_
  refine lv_iload_n hx hb dX3_makeGrid_1 rfl (lv_at hl 1 rfl) ?_
  refine lv_iload_n hx hb dX3_makeGrid_2 rfl (lv_at hl 2 rfl) ?_
  refine lv_iconst (v := 0) hx hb dX3_makeGrid_3 (by decide) ?_
  refine zz_iV (As := [.int k, .int (nI dd), .int 0]) (wc := [cw_k2 mk st ml pa pe, cw_i g ml 4 lf, cw_k5 st (nI na) (nI nu) kd dp cl sa ln bt pn bf, cw_i g kd 60 kdf, cw_i g dp 60 dpf, cw_i g cl 60 clf, cw_i g sa 60 saf, cw_i g ln 60 lnf, cw_l g bt 4000 btf]) (wr := []) (rest := []) hC hZ hs hl zc_X3_25 (co_gridAt2 g st mk ml pa pe lf kd dp cl sa ln bt pn bf na nu kdf dpf clf saf lnf btf ll 0 dd k (by omega) (by omega) (by omega) (h_S) (h_l)) [0, 1, 2, 3, 4, 5, 6, 7, 8] [] rfl rfl (by decide +kernel) (ci := 2) (q0 := 0) rfl rfl rfl rfl (Nat.le_of_ble_eq_true rfl) ⟨⟨Nat.le_of_ble_eq_true rfl, Nat.le_of_ble_eq_true rfl⟩, Nat.le_of_ble_eq_true rfl, Nat.le_of_ble_eq_true rfl⟩ dX3_makeGrid_4 (fun r1 u2 H locs hp hZ => ?_)
  obtain ⟨na2_3, nu2_4, kd2_5, dp2_6, cl2_7, sa2_8, ln2_9, bt2_10, rfl, f11, f12, f13, f14, rfl⟩ := hp
  have hZ : zz_Z g A s.heap [cw_k2 mk st ml pa pe, cw_i g ml 4 lf, cw_k5 st (nI na2_3) (nI nu2_4) kd dp cl sa ln bt pn bf, cw_i g kd 60 kd2_5, cw_i g dp 60 dp2_6, cw_i g cl 60 cl2_7, cw_i g sa 60 sa2_8, cw_i g ln 60 ln2_9, cw_l g bt 4000 bt2_10] H locs := hZ
  exact zz_iret hC hZ (⟨na2_3, nu2_4, kd2_5, dp2_6, cl2_7, sa2_8, ln2_9, bt2_10, rfl, f11, f12, f13, f14, rfl⟩) (Nat.le_of_ble_eq_true rfl) (Nat.le_of_ble_eq_true rfl) dX3_makeGrid_7
abbrev rm_co_makeGrid3 : Room := { frames := 4, cells := 0, slots := 0, locals := 101 }
abbrev po_co_makeGrid3 (g : zz_G) (st : Nat) (mk : Nat) (ml : Nat) (pa : Int32) (pe : Int32) (lf : Nat → Int32) (kd : Nat) (dp : Nat) (cl : Nat) (sa : Nat) (ln : Nat) (bt : Nat) (pn : Nat) (bf : Nat) (na : Nat) (nu : Nat) (kdf : Nat → Int32) (dpf : Nat → Int32) (clf : Nat → Int32) (saf : Nat → Int32) (lnf : Nat → Int32) (btf : Nat → Int64) (ll : Nat → Nat) (dd : Nat) (k : Int32) (h_dd : dd = 3) (h_m : na + zz_TT2 ll 3 0 ≤ 60 ∧ nu + zz_EE ll 3 0 ≤ 4000) (h_S : zz_SI na nu dpf saf lnf) (h_l : ∀ j, j < dd → lf j = nI (ll j) ∧ ll j ≤ 200) : Int32 → va_W → Prop := fun (r : Int32) (u : va_W) => ∃ (na2 : Nat) (nu2 : Nat) (kd2 : Nat → Int32) (dp2 : Nat → Int32) (cl2 : Nat → Int32) (sa2 : Nat → Int32) (ln2 : Nat → Int32) (bt2 : Nat → Int64), r = nI na ∧ (zz_SI na2 nu2 dp2 sa2 ln2) ∧ (na ≤ na2) ∧ (zz_EX na dpf saf lnf dp2 sa2 ln2) ∧ ((na2, nu2, kd2, dp2, cl2, sa2, ln2, bt2) = sp_grid k ll 3 0 (na, nu, kdf, dpf, clf, saf, lnf, btf)) ∧ u = [cw_k2 mk st ml pa pe, cw_i g ml 4 lf, cw_k5 st (nI na2) (nI nu2) kd dp cl sa ln bt pn bf, cw_i g kd 60 kd2, cw_i g dp 60 dp2, cw_i g cl 60 cl2, cw_i g sa 60 sa2, cw_i g ln 60 ln2, cw_l g bt 4000 bt2]
set_option maxHeartbeats 4000000 in
set_option maxRecDepth 100000 in
theorem co_makeGrid3 (g : zz_G) (st : Nat) (mk : Nat) (ml : Nat) (pa : Int32) (pe : Int32) (lf : Nat → Int32) (kd : Nat) (dp : Nat) (cl : Nat) (sa : Nat) (ln : Nat) (bt : Nat) (pn : Nat) (bf : Nat) (na : Nat) (nu : Nat) (kdf : Nat → Int32) (dpf : Nat → Int32) (clf : Nat → Int32) (saf : Nat → Int32) (lnf : Nat → Int32) (btf : Nat → Int64) (ll : Nat → Nat) (dd : Nat) (k : Int32) (h_dd : dd = 3) (h_m : na + zz_TT2 ll 3 0 ≤ 60 ∧ nu + zz_EE ll 3 0 ≤ 4000) (h_S : zz_SI na nu dpf saf lnf) (h_l : ∀ j, j < dd → lf j = nI (ll j) ∧ ll j ≤ 200) : zz_I g yX3_makeGrid (.code yX3_makeGrid cX3_makeGrid 3 (some .int)) rm_co_makeGrid3 [.ref mk, .int k, .int (nI dd)] [cw_k2 mk st ml pa pe, cw_i g ml 4 lf, cw_k5 st (nI na) (nI nu) kd dp cl sa ln bt pn bf, cw_i g kd 60 kdf, cw_i g dp 60 dpf, cw_i g cl 60 clf, cw_i g sa 60 saf, cw_i g ln 60 lnf, cw_l g bt 4000 btf] (po_co_makeGrid3 g st mk ml pa pe lf kd dp cl sa ln bt pn bf na nu kdf dpf clf saf lnf btf ll dd k h_dd h_m h_S h_l) := by
  refine zz_I.intro (own := RX3) (cc := cX3_makeGrid) (nL := 3) (by decide) rfl (Nat.le_of_ble_eq_true rfl) ?_
  intro p l e s m args below meth c A H locs ls hC hnm hs hZ hl
  obtain ⟨hx, hb, hml, hown, hts, hr, hlocks, hK⟩ := id hC
  have hl : lv_has ls 3 [(0, .ref mk), (1, .int k), (2, .int (nI dd))] := hl
  have hZ : zz_Z g A s.heap [cw_k2 mk st ml pa pe, cw_i g ml 4 lf, cw_k5 st (nI na) (nI nu) kd dp cl sa ln bt pn bf, cw_i g kd 60 kdf, cw_i g dp 60 dpf, cw_i g cl 60 clf, cw_i g sa 60 saf, cw_i g ln 60 lnf, cw_l g bt 4000 btf] H locs := hZ
  refine lv_aload_n hx hb dX3_makeGrid_0 rfl (lv_at hl 0 rfl) ?_
  refine lv_iload_n hx hb dX3_makeGrid_1 rfl (lv_at hl 1 rfl) ?_
  refine lv_iload_n hx hb dX3_makeGrid_2 rfl (lv_at hl 2 rfl) ?_
  refine lv_iconst (v := 0) hx hb dX3_makeGrid_3 (by decide) ?_
  refine zz_iV (As := [.int k, .int (nI dd), .int 0]) (wc := [cw_k2 mk st ml pa pe, cw_i g ml 4 lf, cw_k5 st (nI na) (nI nu) kd dp cl sa ln bt pn bf, cw_i g kd 60 kdf, cw_i g dp 60 dpf, cw_i g cl 60 clf, cw_i g sa 60 saf, cw_i g ln 60 lnf, cw_l g bt 4000 btf]) (wr := []) (rest := []) hC hZ hs hl zc_X3_25 (co_gridAt3 g st mk ml pa pe lf kd dp cl sa ln bt pn bf na nu kdf dpf clf saf lnf btf ll 0 dd k (by omega) (by omega) (by omega) (h_S) (h_l)) [0, 1, 2, 3, 4, 5, 6, 7, 8] [] rfl rfl (by decide +kernel) (ci := 2) (q0 := 0) rfl rfl rfl rfl (Nat.le_of_ble_eq_true rfl) ⟨⟨Nat.le_of_ble_eq_true rfl, Nat.le_of_ble_eq_true rfl⟩, Nat.le_of_ble_eq_true rfl, Nat.le_of_ble_eq_true rfl⟩ dX3_makeGrid_4 (fun r1 u2 H locs hp hZ => ?_)
  obtain ⟨na2_3, nu2_4, kd2_5, dp2_6, cl2_7, sa2_8, ln2_9, bt2_10, rfl, f11, f12, f13, f14, rfl⟩ := hp
  have hZ : zz_Z g A s.heap [cw_k2 mk st ml pa pe, cw_i g ml 4 lf, cw_k5 st (nI na2_3) (nI nu2_4) kd dp cl sa ln bt pn bf, cw_i g kd 60 kd2_5, cw_i g dp 60 dp2_6, cw_i g cl 60 cl2_7, cw_i g sa 60 sa2_8, cw_i g ln 60 ln2_9, cw_l g bt 4000 bt2_10] H locs := hZ
  exact zz_iret hC hZ (⟨na2_3, nu2_4, kd2_5, dp2_6, cl2_7, sa2_8, ln2_9, bt2_10, rfl, f11, f12, f13, f14, rfl⟩) (Nat.le_of_ble_eq_true rfl) (Nat.le_of_ble_eq_true rfl) dX3_makeGrid_7
abbrev rm_co_makeGrid4 : Room := { frames := 5, cells := 0, slots := 0, locals := 126 }
abbrev po_co_makeGrid4 (g : zz_G) (st : Nat) (mk : Nat) (ml : Nat) (pa : Int32) (pe : Int32) (lf : Nat → Int32) (kd : Nat) (dp : Nat) (cl : Nat) (sa : Nat) (ln : Nat) (bt : Nat) (pn : Nat) (bf : Nat) (na : Nat) (nu : Nat) (kdf : Nat → Int32) (dpf : Nat → Int32) (clf : Nat → Int32) (saf : Nat → Int32) (lnf : Nat → Int32) (btf : Nat → Int64) (ll : Nat → Nat) (dd : Nat) (k : Int32) (h_dd : dd = 4) (h_m : na + zz_TT2 ll 4 0 ≤ 60 ∧ nu + zz_EE ll 4 0 ≤ 4000) (h_S : zz_SI na nu dpf saf lnf) (h_l : ∀ j, j < dd → lf j = nI (ll j) ∧ ll j ≤ 200) : Int32 → va_W → Prop := fun (r : Int32) (u : va_W) => ∃ (na2 : Nat) (nu2 : Nat) (kd2 : Nat → Int32) (dp2 : Nat → Int32) (cl2 : Nat → Int32) (sa2 : Nat → Int32) (ln2 : Nat → Int32) (bt2 : Nat → Int64), r = nI na ∧ (zz_SI na2 nu2 dp2 sa2 ln2) ∧ (na ≤ na2) ∧ (zz_EX na dpf saf lnf dp2 sa2 ln2) ∧ ((na2, nu2, kd2, dp2, cl2, sa2, ln2, bt2) = sp_grid k ll 4 0 (na, nu, kdf, dpf, clf, saf, lnf, btf)) ∧ u = [cw_k2 mk st ml pa pe, cw_i g ml 4 lf, cw_k5 st (nI na2) (nI nu2) kd dp cl sa ln bt pn bf, cw_i g kd 60 kd2, cw_i g dp 60 dp2, cw_i g cl 60 cl2, cw_i g sa 60 sa2, cw_i g ln 60 ln2, cw_l g bt 4000 bt2]
set_option maxHeartbeats 4000000 in
set_option maxRecDepth 100000 in
theorem co_makeGrid4 (g : zz_G) (st : Nat) (mk : Nat) (ml : Nat) (pa : Int32) (pe : Int32) (lf : Nat → Int32) (kd : Nat) (dp : Nat) (cl : Nat) (sa : Nat) (ln : Nat) (bt : Nat) (pn : Nat) (bf : Nat) (na : Nat) (nu : Nat) (kdf : Nat → Int32) (dpf : Nat → Int32) (clf : Nat → Int32) (saf : Nat → Int32) (lnf : Nat → Int32) (btf : Nat → Int64) (ll : Nat → Nat) (dd : Nat) (k : Int32) (h_dd : dd = 4) (h_m : na + zz_TT2 ll 4 0 ≤ 60 ∧ nu + zz_EE ll 4 0 ≤ 4000) (h_S : zz_SI na nu dpf saf lnf) (h_l : ∀ j, j < dd → lf j = nI (ll j) ∧ ll j ≤ 200) : zz_I g yX3_makeGrid (.code yX3_makeGrid cX3_makeGrid 3 (some .int)) rm_co_makeGrid4 [.ref mk, .int k, .int (nI dd)] [cw_k2 mk st ml pa pe, cw_i g ml 4 lf, cw_k5 st (nI na) (nI nu) kd dp cl sa ln bt pn bf, cw_i g kd 60 kdf, cw_i g dp 60 dpf, cw_i g cl 60 clf, cw_i g sa 60 saf, cw_i g ln 60 lnf, cw_l g bt 4000 btf] (po_co_makeGrid4 g st mk ml pa pe lf kd dp cl sa ln bt pn bf na nu kdf dpf clf saf lnf btf ll dd k h_dd h_m h_S h_l) := by
  refine zz_I.intro (own := RX3) (cc := cX3_makeGrid) (nL := 3) (by decide) rfl (Nat.le_of_ble_eq_true rfl) ?_
  intro p l e s m args below meth c A H locs ls hC hnm hs hZ hl
  obtain ⟨hx, hb, hml, hown, hts, hr, hlocks, hK⟩ := id hC
  have hl : lv_has ls 3 [(0, .ref mk), (1, .int k), (2, .int (nI dd))] := hl
  have hZ : zz_Z g A s.heap [cw_k2 mk st ml pa pe, cw_i g ml 4 lf, cw_k5 st (nI na) (nI nu) kd dp cl sa ln bt pn bf, cw_i g kd 60 kdf, cw_i g dp 60 dpf, cw_i g cl 60 clf, cw_i g sa 60 saf, cw_i g ln 60 lnf, cw_l g bt 4000 btf] H locs := hZ
  refine lv_aload_n hx hb dX3_makeGrid_0 rfl (lv_at hl 0 rfl) ?_
  refine lv_iload_n hx hb dX3_makeGrid_1 rfl (lv_at hl 1 rfl) ?_
  refine lv_iload_n hx hb dX3_makeGrid_2 rfl (lv_at hl 2 rfl) ?_
  refine lv_iconst (v := 0) hx hb dX3_makeGrid_3 (by decide) ?_
  refine zz_iV (As := [.int k, .int (nI dd), .int 0]) (wc := [cw_k2 mk st ml pa pe, cw_i g ml 4 lf, cw_k5 st (nI na) (nI nu) kd dp cl sa ln bt pn bf, cw_i g kd 60 kdf, cw_i g dp 60 dpf, cw_i g cl 60 clf, cw_i g sa 60 saf, cw_i g ln 60 lnf, cw_l g bt 4000 btf]) (wr := []) (rest := []) hC hZ hs hl zc_X3_25 (co_gridAt4 g st mk ml pa pe lf kd dp cl sa ln bt pn bf na nu kdf dpf clf saf lnf btf ll 0 dd k (by omega) (by omega) (by omega) (h_S) (h_l)) [0, 1, 2, 3, 4, 5, 6, 7, 8] [] rfl rfl (by decide +kernel) (ci := 2) (q0 := 0) rfl rfl rfl rfl (Nat.le_of_ble_eq_true rfl) ⟨⟨Nat.le_of_ble_eq_true rfl, Nat.le_of_ble_eq_true rfl⟩, Nat.le_of_ble_eq_true rfl, Nat.le_of_ble_eq_true rfl⟩ dX3_makeGrid_4 (fun r1 u2 H locs hp hZ => ?_)
  obtain ⟨na2_3, nu2_4, kd2_5, dp2_6, cl2_7, sa2_8, ln2_9, bt2_10, rfl, f11, f12, f13, f14, rfl⟩ := hp
  have hZ : zz_Z g A s.heap [cw_k2 mk st ml pa pe, cw_i g ml 4 lf, cw_k5 st (nI na2_3) (nI nu2_4) kd dp cl sa ln bt pn bf, cw_i g kd 60 kd2_5, cw_i g dp 60 dp2_6, cw_i g cl 60 cl2_7, cw_i g sa 60 sa2_8, cw_i g ln 60 ln2_9, cw_l g bt 4000 bt2_10] H locs := hZ
  exact zz_iret hC hZ (⟨na2_3, nu2_4, kd2_5, dp2_6, cl2_7, sa2_8, ln2_9, bt2_10, rfl, f11, f12, f13, f14, rfl⟩) (Nat.le_of_ble_eq_true rfl) (Nat.le_of_ble_eq_true rfl) dX3_makeGrid_7
theorem zl_gA {x1 x2 : Int32} (h : x1 < 0) : ¬ (0 ≤ x1 ∧ x1 < 8 ∧ 1 ≤ x2 ∧ x2 ≤ 4) := fun z => by
  have z1 := z.1; rw [Int32.lt_iff_toInt_lt] at h; rw [Int32.le_iff_toInt_le] at z1; omega
theorem zl_gB {x1 x2 : Int32} (h : 8 ≤ x1) : ¬ (0 ≤ x1 ∧ x1 < 8 ∧ 1 ≤ x2 ∧ x2 ≤ 4) := fun z => by
  have z1 := z.2.1; rw [Int32.le_iff_toInt_le] at h; rw [Int32.lt_iff_toInt_lt] at z1; omega
theorem zl_gC {x1 x2 : Int32} (h : x2 < 1) : ¬ (0 ≤ x1 ∧ x1 < 8 ∧ 1 ≤ x2 ∧ x2 ≤ 4) := fun z => by
  have z1 := z.2.2.1; rw [Int32.lt_iff_toInt_lt] at h; rw [Int32.le_iff_toInt_le] at z1; omega
theorem zl_gD {x1 x2 : Int32} (h : ¬ x2 ≤ 4) : ¬ (0 ≤ x1 ∧ x1 < 8 ∧ 1 ≤ x2 ∧ x2 ≤ 4) := fun z => h z.2.2.2
theorem zl_gE {x1 x2 : Int32} (h1 : ¬ x1 < 0) (h2 : ¬ 8 ≤ x1) (h3 : ¬ x2 < 1) (h4 : x2 ≤ 4) : 0 ≤ x1 ∧ x1 < 8 ∧ 1 ≤ x2 ∧ x2 ≤ 4 := by
  refine ⟨?_, ?_, ?_, h4⟩
  · rw [Int32.lt_iff_toInt_lt] at h1; rw [Int32.le_iff_toInt_le]; omega
  · rw [Int32.le_iff_toInt_le] at h2; rw [Int32.lt_iff_toInt_lt]; omega
  · rw [Int32.lt_iff_toInt_lt] at h3; rw [Int32.le_iff_toInt_le]; omega
theorem zl_gneg {f : Nat → Int32} {x3 x4 x5 x6 : Int32} {dd : Nat} (h4 : dd ≤ 4) (h : ∃ j, j < dd ∧ upd (upd (upd (upd f 0 x3) 1 x4) 2 x5) 3 x6 j < 0) : ¬ ∀ j, j < dd → ¬ zz_pa x3 x4 x5 x6 j < 0 := fun z => by
  obtain ⟨j, hj, h⟩ := h
  rw [zl_upd4 (by omega)] at h
  exact z j hj h
theorem zl_gnn {f : Nat → Int32} {x3 x4 x5 x6 : Int32} {dd : Nat} (h4 : dd ≤ 4) (h : ∀ j, j < dd → ¬ upd (upd (upd (upd f 0 x3) 1 x4) 2 x5) 3 x6 j < 0) : ∀ j, j < dd → ¬ zz_pa x3 x4 x5 x6 j < 0 := fun j hj => by
  have := h j hj
  rw [zl_upd4 (by omega)] at this
  exact this
theorem zl_gll {f : Nat → Int32} {x3 x4 x5 x6 : Int32} {dd : Nat} (h4 : dd ≤ 4) (h : ∀ j, j < dd → ¬ upd (upd (upd (upd f 0 x3) 1 x4) 2 x5) 3 x6 j < 0) : ∀ j, j < dd → upd (upd (upd (upd f 0 x3) 1 x4) 2 x5) 3 x6 j = nI (zz_gll x3 x4 x5 x6 j) ∧ zz_gll x3 x4 x5 x6 j < 2 ^ 31 := fun j hj => by
  have := h j hj
  rw [zl_upd4 (by omega)] at this ⊢
  exact zl_clamp this
theorem dg_X7_grid_0 : (decode cX7_grid 0 = .ok (.iload_n 1, 1)) ∧ (decode cX7_grid 1 = .ok (.ifCond .lt 19, 3)) ∧ (decode cX7_grid 4 = .ok (.iload_n 1, 1)) ∧ (decode cX7_grid 5 = .ok (.bipush 8, 2)) ∧ (decode cX7_grid 7 = .ok (.if_icmp .ge 13, 3)) ∧ (decode cX7_grid 10 = .ok (.iload_n 2, 1)) ∧ (decode cX7_grid 11 = .ok (.iconst 1, 1)) ∧ (decode cX7_grid 12 = .ok (.if_icmp .lt 8, 3)) ∧ (decode cX7_grid 15 = .ok (.iload_n 2, 1)) ∧ (decode cX7_grid 16 = .ok (.iconst 4, 1)) ∧ (decode cX7_grid 17 = .ok (.if_icmp .le 10, 3)) ∧ (decode cX7_grid 20 = .ok (.aload_n 0, 1)) ∧ (decode cX7_grid 21 = .ok (.bipush 9, 2)) ∧ (decode cX7_grid 23 = .ok (.invokevirtual 65, 3)) ∧ (decode cX7_grid 26 = .ok (.ireturn, 1)) ∧ (decode cX7_grid 27 = .ok (.aload_n 0, 1)) := by decide +kernel
theorem dX7_grid_0 : decode cX7_grid 0 = .ok (.iload_n 1, 1) := dg_X7_grid_0.1
theorem dX7_grid_1 : decode cX7_grid 1 = .ok (.ifCond .lt 19, 3) := dg_X7_grid_0.2.1
theorem dX7_grid_4 : decode cX7_grid 4 = .ok (.iload_n 1, 1) := dg_X7_grid_0.2.2.1
theorem dX7_grid_5 : decode cX7_grid 5 = .ok (.bipush 8, 2) := dg_X7_grid_0.2.2.2.1
theorem dX7_grid_7 : decode cX7_grid 7 = .ok (.if_icmp .ge 13, 3) := dg_X7_grid_0.2.2.2.2.1
theorem dX7_grid_10 : decode cX7_grid 10 = .ok (.iload_n 2, 1) := dg_X7_grid_0.2.2.2.2.2.1
theorem dX7_grid_11 : decode cX7_grid 11 = .ok (.iconst 1, 1) := dg_X7_grid_0.2.2.2.2.2.2.1
theorem dX7_grid_12 : decode cX7_grid 12 = .ok (.if_icmp .lt 8, 3) := dg_X7_grid_0.2.2.2.2.2.2.2.1
theorem dX7_grid_15 : decode cX7_grid 15 = .ok (.iload_n 2, 1) := dg_X7_grid_0.2.2.2.2.2.2.2.2.1
theorem dX7_grid_16 : decode cX7_grid 16 = .ok (.iconst 4, 1) := dg_X7_grid_0.2.2.2.2.2.2.2.2.2.1
theorem dX7_grid_17 : decode cX7_grid 17 = .ok (.if_icmp .le 10, 3) := dg_X7_grid_0.2.2.2.2.2.2.2.2.2.2.1
theorem dX7_grid_20 : decode cX7_grid 20 = .ok (.aload_n 0, 1) := dg_X7_grid_0.2.2.2.2.2.2.2.2.2.2.2.1
theorem dX7_grid_21 : decode cX7_grid 21 = .ok (.bipush 9, 2) := dg_X7_grid_0.2.2.2.2.2.2.2.2.2.2.2.2.1
theorem dX7_grid_23 : decode cX7_grid 23 = .ok (.invokevirtual 65, 3) := dg_X7_grid_0.2.2.2.2.2.2.2.2.2.2.2.2.2.1
theorem dX7_grid_26 : decode cX7_grid 26 = .ok (.ireturn, 1) := dg_X7_grid_0.2.2.2.2.2.2.2.2.2.2.2.2.2.2.1
theorem dX7_grid_27 : decode cX7_grid 27 = .ok (.aload_n 0, 1) := dg_X7_grid_0.2.2.2.2.2.2.2.2.2.2.2.2.2.2.2
theorem dg_X7_grid_28 : (decode cX7_grid 28 = .ok (.getfield 21, 3)) ∧ (decode cX7_grid 31 = .ok (.iload_n 3, 1)) ∧ (decode cX7_grid 32 = .ok (.iload 4, 2)) ∧ (decode cX7_grid 34 = .ok (.iload 5, 2)) ∧ (decode cX7_grid 36 = .ok (.iload 6, 2)) ∧ (decode cX7_grid 38 = .ok (.invokevirtual 86, 3)) ∧ (decode cX7_grid 41 = .ok (.aload_n 0, 1)) ∧ (decode cX7_grid 42 = .ok (.getfield 21, 3)) ∧ (decode cX7_grid 45 = .ok (.iload_n 2, 1)) ∧ (decode cX7_grid 46 = .ok (.invokevirtual 90, 3)) ∧ (decode cX7_grid 49 = .ok (.ifCond .eq 9, 3)) ∧ (decode cX7_grid 52 = .ok (.aload_n 0, 1)) ∧ (decode cX7_grid 53 = .ok (.iconst 4, 1)) ∧ (decode cX7_grid 54 = .ok (.invokevirtual 65, 3)) ∧ (decode cX7_grid 57 = .ok (.ireturn, 1)) ∧ (decode cX7_grid 58 = .ok (.aload_n 0, 1)) := by decide +kernel
theorem dX7_grid_28 : decode cX7_grid 28 = .ok (.getfield 21, 3) := dg_X7_grid_28.1
theorem dX7_grid_31 : decode cX7_grid 31 = .ok (.iload_n 3, 1) := dg_X7_grid_28.2.1
theorem dX7_grid_32 : decode cX7_grid 32 = .ok (.iload 4, 2) := dg_X7_grid_28.2.2.1
theorem dX7_grid_34 : decode cX7_grid 34 = .ok (.iload 5, 2) := dg_X7_grid_28.2.2.2.1
theorem dX7_grid_36 : decode cX7_grid 36 = .ok (.iload 6, 2) := dg_X7_grid_28.2.2.2.2.1
theorem dX7_grid_38 : decode cX7_grid 38 = .ok (.invokevirtual 86, 3) := dg_X7_grid_28.2.2.2.2.2.1
theorem dX7_grid_41 : decode cX7_grid 41 = .ok (.aload_n 0, 1) := dg_X7_grid_28.2.2.2.2.2.2.1
theorem dX7_grid_42 : decode cX7_grid 42 = .ok (.getfield 21, 3) := dg_X7_grid_28.2.2.2.2.2.2.2.1
theorem dX7_grid_45 : decode cX7_grid 45 = .ok (.iload_n 2, 1) := dg_X7_grid_28.2.2.2.2.2.2.2.2.1
theorem dX7_grid_46 : decode cX7_grid 46 = .ok (.invokevirtual 90, 3) := dg_X7_grid_28.2.2.2.2.2.2.2.2.2.1
theorem dX7_grid_49 : decode cX7_grid 49 = .ok (.ifCond .eq 9, 3) := dg_X7_grid_28.2.2.2.2.2.2.2.2.2.2.1
theorem dX7_grid_52 : decode cX7_grid 52 = .ok (.aload_n 0, 1) := dg_X7_grid_28.2.2.2.2.2.2.2.2.2.2.2.1
theorem dX7_grid_53 : decode cX7_grid 53 = .ok (.iconst 4, 1) := dg_X7_grid_28.2.2.2.2.2.2.2.2.2.2.2.2.1
theorem dX7_grid_54 : decode cX7_grid 54 = .ok (.invokevirtual 65, 3) := dg_X7_grid_28.2.2.2.2.2.2.2.2.2.2.2.2.2.1
theorem dX7_grid_57 : decode cX7_grid 57 = .ok (.ireturn, 1) := dg_X7_grid_28.2.2.2.2.2.2.2.2.2.2.2.2.2.2.1
theorem dX7_grid_58 : decode cX7_grid 58 = .ok (.aload_n 0, 1) := dg_X7_grid_28.2.2.2.2.2.2.2.2.2.2.2.2.2.2.2
theorem dg_X7_grid_59 : (decode cX7_grid 59 = .ok (.getfield 21, 3)) ∧ (decode cX7_grid 62 = .ok (.iload_n 2, 1)) ∧ (decode cX7_grid 63 = .ok (.invokevirtual 93, 3)) ∧ (decode cX7_grid 66 = .ok (.ifCond .ne 10, 3)) ∧ (decode cX7_grid 69 = .ok (.aload_n 0, 1)) ∧ (decode cX7_grid 70 = .ok (.bipush 8, 2)) ∧ (decode cX7_grid 72 = .ok (.invokevirtual 65, 3)) ∧ (decode cX7_grid 75 = .ok (.ireturn, 1)) ∧ (decode cX7_grid 76 = .ok (.aload_n 0, 1)) ∧ (decode cX7_grid 77 = .ok (.aload_n 0, 1)) ∧ (decode cX7_grid 78 = .ok (.getfield 21, 3)) ∧ (decode cX7_grid 81 = .ok (.iload_n 1, 1)) ∧ (decode cX7_grid 82 = .ok (.iload_n 2, 1)) ∧ (decode cX7_grid 83 = .ok (.invokevirtual 96, 3)) ∧ (decode cX7_grid 86 = .ok (.invokevirtual 100, 3)) ∧ (decode cX7_grid 89 = .ok (.ireturn, 1)) := by decide +kernel
theorem dX7_grid_59 : decode cX7_grid 59 = .ok (.getfield 21, 3) := dg_X7_grid_59.1
theorem dX7_grid_62 : decode cX7_grid 62 = .ok (.iload_n 2, 1) := dg_X7_grid_59.2.1
theorem dX7_grid_63 : decode cX7_grid 63 = .ok (.invokevirtual 93, 3) := dg_X7_grid_59.2.2.1
theorem dX7_grid_66 : decode cX7_grid 66 = .ok (.ifCond .ne 10, 3) := dg_X7_grid_59.2.2.2.1
theorem dX7_grid_69 : decode cX7_grid 69 = .ok (.aload_n 0, 1) := dg_X7_grid_59.2.2.2.2.1
theorem dX7_grid_70 : decode cX7_grid 70 = .ok (.bipush 8, 2) := dg_X7_grid_59.2.2.2.2.2.1
theorem dX7_grid_72 : decode cX7_grid 72 = .ok (.invokevirtual 65, 3) := dg_X7_grid_59.2.2.2.2.2.2.1
theorem dX7_grid_75 : decode cX7_grid 75 = .ok (.ireturn, 1) := dg_X7_grid_59.2.2.2.2.2.2.2.1
theorem dX7_grid_76 : decode cX7_grid 76 = .ok (.aload_n 0, 1) := dg_X7_grid_59.2.2.2.2.2.2.2.2.1
theorem dX7_grid_77 : decode cX7_grid 77 = .ok (.aload_n 0, 1) := dg_X7_grid_59.2.2.2.2.2.2.2.2.2.1
theorem dX7_grid_78 : decode cX7_grid 78 = .ok (.getfield 21, 3) := dg_X7_grid_59.2.2.2.2.2.2.2.2.2.2.1
theorem dX7_grid_81 : decode cX7_grid 81 = .ok (.iload_n 1, 1) := dg_X7_grid_59.2.2.2.2.2.2.2.2.2.2.2.1
theorem dX7_grid_82 : decode cX7_grid 82 = .ok (.iload_n 2, 1) := dg_X7_grid_59.2.2.2.2.2.2.2.2.2.2.2.2.1
theorem dX7_grid_83 : decode cX7_grid 83 = .ok (.invokevirtual 96, 3) := dg_X7_grid_59.2.2.2.2.2.2.2.2.2.2.2.2.2.1
theorem dX7_grid_86 : decode cX7_grid 86 = .ok (.invokevirtual 100, 3) := dg_X7_grid_59.2.2.2.2.2.2.2.2.2.2.2.2.2.2.1
theorem dX7_grid_89 : decode cX7_grid 89 = .ok (.ireturn, 1) := dg_X7_grid_59.2.2.2.2.2.2.2.2.2.2.2.2.2.2.2
theorem zk_271 : Cond.methodLink RX7 86 yX3_tellLengths ∈ zz_w := zz_in (List.mem_append_right _ (List.mem_append_right _ (List.mem_append_left _ (List.mem_of_getElem? (i := 31) (by decide +kernel))))) rfl
set_option maxRecDepth 20000 in
theorem zk_274 : Cond.code yX3_tellLengths cX3_tellLengths 5 none ∈ zz_w := zz_in (List.mem_append_right _ (List.mem_append_right _ (List.mem_append_left _ (List.mem_of_getElem? (i := 34) (rfl))))) rfl
theorem zk_272 : Cond.instanceMethod yX3_tellLengths ∈ zz_w := zz_in (List.mem_append_right _ (List.mem_append_right _ (List.mem_append_left _ (List.mem_of_getElem? (i := 32) (by decide +kernel))))) rfl
theorem zk_273 : Cond.selects RX3 yX3_tellLengths yX3_tellLengths ∈ zz_w := zz_in (List.mem_append_right _ (List.mem_append_right _ (List.mem_append_left _ (List.mem_of_getElem? (i := 33) (by decide +kernel))))) rfl
theorem zc_X7_86 : zz_cV RX7 86 yX3_tellLengths cX3_tellLengths 5 none 4 := ⟨⟨zk_271, zk_274, zk_3, by decide, by decide, by decide +kernel⟩, zk_272, zk_273⟩
theorem zk_275 : Cond.methodLink RX7 90 yX3_hasLengthBelowZero ∈ zz_w := zz_in (List.mem_append_right _ (List.mem_append_right _ (List.mem_append_left _ (List.mem_of_getElem? (i := 35) (by decide +kernel))))) rfl
set_option maxRecDepth 20000 in
theorem zk_278 : Cond.code yX3_hasLengthBelowZero cX3_hasLengthBelowZero 3 (some .boolean) ∈ zz_w := zz_in (List.mem_append_right _ (List.mem_append_right _ (List.mem_append_left _ (List.mem_of_getElem? (i := 38) (rfl))))) rfl
theorem zk_276 : Cond.instanceMethod yX3_hasLengthBelowZero ∈ zz_w := zz_in (List.mem_append_right _ (List.mem_append_right _ (List.mem_append_left _ (List.mem_of_getElem? (i := 36) (by decide +kernel))))) rfl
theorem zk_277 : Cond.selects RX3 yX3_hasLengthBelowZero yX3_hasLengthBelowZero ∈ zz_w := zz_in (List.mem_append_right _ (List.mem_append_right _ (List.mem_append_left _ (List.mem_of_getElem? (i := 37) (by decide +kernel))))) rfl
theorem zc_X7_90 : zz_cV RX7 90 yX3_hasLengthBelowZero cX3_hasLengthBelowZero 3 (some .boolean) 1 := ⟨⟨zk_275, zk_278, zk_3, by decide, by decide, by decide +kernel⟩, zk_276, zk_277⟩
theorem zk_279 : Cond.methodLink RX7 93 yX3_gridFits ∈ zz_w := zz_in (List.mem_append_right _ (List.mem_append_right _ (List.mem_append_left _ (List.mem_of_getElem? (i := 39) (by decide +kernel))))) rfl
set_option maxRecDepth 20000 in
theorem zk_282 : Cond.code yX3_gridFits cX3_gridFits 9 (some .boolean) ∈ zz_w := zz_in (List.mem_append_right _ (List.mem_append_right _ (List.mem_append_left _ (List.mem_of_getElem? (i := 42) (rfl))))) rfl
theorem zk_280 : Cond.instanceMethod yX3_gridFits ∈ zz_w := zz_in (List.mem_append_right _ (List.mem_append_right _ (List.mem_append_left _ (List.mem_of_getElem? (i := 40) (by decide +kernel))))) rfl
theorem zk_281 : Cond.selects RX3 yX3_gridFits yX3_gridFits ∈ zz_w := zz_in (List.mem_append_right _ (List.mem_append_right _ (List.mem_append_left _ (List.mem_of_getElem? (i := 41) (by decide +kernel))))) rfl
theorem zc_X7_93 : zz_cV RX7 93 yX3_gridFits cX3_gridFits 9 (some .boolean) 1 := ⟨⟨zk_279, zk_282, zk_3, by decide, by decide, by decide +kernel⟩, zk_280, zk_281⟩
theorem zk_284 : Cond.methodLink RX7 96 yX3_makeGrid ∈ zz_w := zz_in (List.mem_append_right _ (List.mem_append_right _ (List.mem_append_left _ (List.mem_of_getElem? (i := 44) (by decide +kernel))))) rfl
set_option maxRecDepth 20000 in
theorem zk_287 : Cond.code yX3_makeGrid cX3_makeGrid 3 (some .int) ∈ zz_w := zz_in (List.mem_append_right _ (List.mem_append_right _ (List.mem_append_left _ (List.mem_of_getElem? (i := 47) (rfl))))) rfl
theorem zk_285 : Cond.instanceMethod yX3_makeGrid ∈ zz_w := zz_in (List.mem_append_right _ (List.mem_append_right _ (List.mem_append_left _ (List.mem_of_getElem? (i := 45) (by decide +kernel))))) rfl
theorem zk_286 : Cond.selects RX3 yX3_makeGrid yX3_makeGrid ∈ zz_w := zz_in (List.mem_append_right _ (List.mem_append_right _ (List.mem_append_left _ (List.mem_of_getElem? (i := 46) (by decide +kernel))))) rfl
theorem zc_X7_96 : zz_cV RX7 96 yX3_makeGrid cX3_makeGrid 3 (some .int) 2 := ⟨⟨zk_284, zk_287, zk_3, by decide, by decide, by decide +kernel⟩, zk_285, zk_286⟩
abbrev rm_cx_grid : Room := { frames := 6, cells := 0, slots := 0, locals := 148 }
abbrev po_cx_grid (g : zz_G) (h0 : Nat) (st : Nat) (mk : Nat) (lk : Nat) (ch : Nat) (ru : Nat) (mr : Nat) (kd : Nat) (dp : Nat) (cl : Nat) (sa : Nat) (ln : Nat) (bt : Nat) (pn : Nat) (bf : Nat) (ml : Nat) (md : Int32) (la : Int32) (pa : Int32) (pe : Int32) (na : Nat) (nu : Nat) (mlf : Nat → Int32) (kdf : Nat → Int32) (dpf : Nat → Int32) (clf : Nat → Int32) (saf : Nat → Int32) (lnf : Nat → Int32) (btf : Nat → Int64) (x1 : Int32) (x2 : Int32) (x3 : Int32) (x4 : Int32) (x5 : Int32) (x6 : Int32) (h_S : zz_SI na nu dpf saf lnf) : Int32 → va_W → Prop := fun (r : Int32) (u : va_W) => ∃ (la2 : Int32) (ml2 : Nat → Int32) (na2 : Nat) (nu2 : Nat) (kd2 : Nat → Int32) (dp2 : Nat → Int32) (cl2 : Nat → Int32) (sa2 : Nat → Int32) (ln2 : Nat → Int32) (bt2 : Nat → Int64), (zz_SI na2 nu2 dp2 sa2 ln2) ∧ (na ≤ na2) ∧ (zz_EX na dpf saf lnf dp2 sa2 ln2) ∧ (r = sp_gR na nu x1 x2 x3 x4 x5 x6) ∧ ((na2, nu2, kd2, dp2, cl2, sa2, ln2, bt2) = if r < 0 then (na, nu, kdf, dpf, clf, saf, lnf, btf) else sp_grid x1 (zz_gll x3 x4 x5 x6) x2.toNatClampNeg 0 (na, nu, kdf, dpf, clf, saf, lnf, btf)) ∧ u = [cw_k6 h0 st mk lk ch ru mr md la2, cw_k2 mk st ml pa pe, cw_i g ml 4 ml2, cw_k5 st (nI na2) (nI nu2) kd dp cl sa ln bt pn bf, cw_i g kd 60 kd2, cw_i g dp 60 dp2, cw_i g cl 60 cl2, cw_i g sa 60 sa2, cw_i g ln 60 ln2, cw_l g bt 4000 bt2]
set_option maxHeartbeats 4000000 in
set_option maxRecDepth 100000 in
theorem cx_grid (g : zz_G) (h0 : Nat) (st : Nat) (mk : Nat) (lk : Nat) (ch : Nat) (ru : Nat) (mr : Nat) (kd : Nat) (dp : Nat) (cl : Nat) (sa : Nat) (ln : Nat) (bt : Nat) (pn : Nat) (bf : Nat) (ml : Nat) (md : Int32) (la : Int32) (pa : Int32) (pe : Int32) (na : Nat) (nu : Nat) (mlf : Nat → Int32) (kdf : Nat → Int32) (dpf : Nat → Int32) (clf : Nat → Int32) (saf : Nat → Int32) (lnf : Nat → Int32) (btf : Nat → Int64) (x1 : Int32) (x2 : Int32) (x3 : Int32) (x4 : Int32) (x5 : Int32) (x6 : Int32) (h_S : zz_SI na nu dpf saf lnf) : zz_I g yX7_grid (.code yX7_grid cX7_grid 7 (some .int)) rm_cx_grid [.ref h0, .int x1, .int x2, .int x3, .int x4, .int x5, .int x6] [cw_k6 h0 st mk lk ch ru mr md la, cw_k2 mk st ml pa pe, cw_i g ml 4 mlf, cw_k5 st (nI na) (nI nu) kd dp cl sa ln bt pn bf, cw_i g kd 60 kdf, cw_i g dp 60 dpf, cw_i g cl 60 clf, cw_i g sa 60 saf, cw_i g ln 60 lnf, cw_l g bt 4000 btf] (po_cx_grid g h0 st mk lk ch ru mr kd dp cl sa ln bt pn bf ml md la pa pe na nu mlf kdf dpf clf saf lnf btf x1 x2 x3 x4 x5 x6 h_S) := by
  refine zz_I.intro (own := RX7) (cc := cX7_grid) (nL := 7) (by decide) rfl (Nat.le_of_ble_eq_true rfl) ?_
  intro p l e s m args below meth c A H locs ls hC hnm hs hZ hl
  obtain ⟨hx, hb, hml, hown, hts, hr, hlocks, hK⟩ := id hC
  have hl : lv_has ls 7 [(0, .ref h0), (1, .int x1), (2, .int x2), (3, .int x3), (4, .int x4), (5, .int x5), (6, .int x6)] := hl
  have hZ : zz_Z g A s.heap [cw_k6 h0 st mk lk ch ru mr md la, cw_k2 mk st ml pa pe, cw_i g ml 4 mlf, cw_k5 st (nI na) (nI nu) kd dp cl sa ln bt pn bf, cw_i g kd 60 kdf, cw_i g dp 60 dpf, cw_i g cl 60 clf, cw_i g sa 60 saf, cw_i g ln 60 lnf, cw_l g bt 4000 btf] H locs := hZ
  have hna := h_S.1
  have hnu := h_S.2.1
  refine lv_iload_n hx hb dX7_grid_0 rfl (lv_at hl 1 rfl) ?_
  refine lv_if_lt (tgt := 20) hx hb dX7_grid_1 (by decide) (fun c1 => ?_) (fun c1 => ?_)
  · refine lv_aload_n hx hb dX7_grid_20 rfl (lv_at hl 0 rfl) ?_
    refine lv_bipush (v := 9) hx hb dX7_grid_21 (by decide) ?_
    refine zz_iV (As := [.int 9]) (wc := [cw_k6 h0 st mk lk ch ru mr md la]) (wr := [cw_k2 mk st ml pa pe, cw_i g ml 4 mlf, cw_k5 st (nI na) (nI nu) kd dp cl sa ln bt pn bf, cw_i g kd 60 kdf, cw_i g dp 60 dpf, cw_i g cl 60 clf, cw_i g sa 60 saf, cw_i g ln 60 lnf, cw_l g bt 4000 btf]) (rest := []) hC hZ hs hl zc_X7_65 (co_fail g h0 st mk lk ch ru mr md la 9) [0] [1, 2, 3, 4, 5, 6, 7, 8, 9] rfl rfl (by decide +kernel) (ci := 6) (q0 := 0) rfl rfl rfl rfl (Nat.le_of_ble_eq_true rfl) ⟨⟨Nat.le_of_ble_eq_true rfl, Nat.le_of_ble_eq_true rfl⟩, Nat.le_of_ble_eq_true rfl, Nat.le_of_ble_eq_true rfl⟩ dX7_grid_23 (fun r2 u3 H locs hp hZ => ?_)
    obtain ⟨rfl, rfl⟩ := hp
    have hZ : zz_Z g A s.heap [cw_k2 mk st ml pa pe, cw_i g ml 4 mlf, cw_k5 st (nI na) (nI nu) kd dp cl sa ln bt pn bf, cw_i g kd 60 kdf, cw_i g dp 60 dpf, cw_i g cl 60 clf, cw_i g sa 60 saf, cw_i g ln 60 lnf, cw_l g bt 4000 btf, cw_k6 h0 st mk lk ch ru mr md 9] H locs := hZ
    have hZ : zz_Z g A s.heap [cw_k6 h0 st mk lk ch ru mr md 9, cw_k2 mk st ml pa pe, cw_i g ml 4 mlf, cw_k5 st (nI na) (nI nu) kd dp cl sa ln bt pn bf, cw_i g kd 60 kdf, cw_i g dp 60 dpf, cw_i g cl 60 clf, cw_i g sa 60 saf, cw_i g ln 60 lnf, cw_l g bt 4000 btf] H locs := hZ.sub [9, 0, 1, 2, 3, 4, 5, 6, 7, 8] (by decide +kernel) rfl
    exact zz_iret hC hZ (⟨9, mlf, na, nu, kdf, dpf, clf, saf, lnf, btf, h_S, Nat.le_refl _, zz_EX.rf, by rw [sp_gR, if_neg (zl_gA c1)], by rw [if_pos (by decide)], rfl⟩) (Nat.le_of_ble_eq_true rfl) (Nat.le_of_ble_eq_true rfl) dX7_grid_26
  · refine lv_iload_n hx hb dX7_grid_4 rfl (lv_at hl 1 rfl) ?_
    refine lv_bipush (v := 8) hx hb dX7_grid_5 (by decide) ?_
    refine lv_icmp_ge (tgt := 20) hx hb dX7_grid_7 (by decide) (fun c4 => ?_) (fun c4 => ?_)
    · refine lv_aload_n hx hb dX7_grid_20 rfl (lv_at hl 0 rfl) ?_
      refine lv_bipush (v := 9) hx hb dX7_grid_21 (by decide) ?_
      refine zz_iV (As := [.int 9]) (wc := [cw_k6 h0 st mk lk ch ru mr md la]) (wr := [cw_k2 mk st ml pa pe, cw_i g ml 4 mlf, cw_k5 st (nI na) (nI nu) kd dp cl sa ln bt pn bf, cw_i g kd 60 kdf, cw_i g dp 60 dpf, cw_i g cl 60 clf, cw_i g sa 60 saf, cw_i g ln 60 lnf, cw_l g bt 4000 btf]) (rest := []) hC hZ hs hl zc_X7_65 (co_fail g h0 st mk lk ch ru mr md la 9) [0] [1, 2, 3, 4, 5, 6, 7, 8, 9] rfl rfl (by decide +kernel) (ci := 6) (q0 := 0) rfl rfl rfl rfl (Nat.le_of_ble_eq_true rfl) ⟨⟨Nat.le_of_ble_eq_true rfl, Nat.le_of_ble_eq_true rfl⟩, Nat.le_of_ble_eq_true rfl, Nat.le_of_ble_eq_true rfl⟩ dX7_grid_23 (fun r5 u6 H locs hp hZ => ?_)
      obtain ⟨rfl, rfl⟩ := hp
      have hZ : zz_Z g A s.heap [cw_k2 mk st ml pa pe, cw_i g ml 4 mlf, cw_k5 st (nI na) (nI nu) kd dp cl sa ln bt pn bf, cw_i g kd 60 kdf, cw_i g dp 60 dpf, cw_i g cl 60 clf, cw_i g sa 60 saf, cw_i g ln 60 lnf, cw_l g bt 4000 btf, cw_k6 h0 st mk lk ch ru mr md 9] H locs := hZ
      have hZ : zz_Z g A s.heap [cw_k6 h0 st mk lk ch ru mr md 9, cw_k2 mk st ml pa pe, cw_i g ml 4 mlf, cw_k5 st (nI na) (nI nu) kd dp cl sa ln bt pn bf, cw_i g kd 60 kdf, cw_i g dp 60 dpf, cw_i g cl 60 clf, cw_i g sa 60 saf, cw_i g ln 60 lnf, cw_l g bt 4000 btf] H locs := hZ.sub [9, 0, 1, 2, 3, 4, 5, 6, 7, 8] (by decide +kernel) rfl
      exact zz_iret hC hZ (⟨9, mlf, na, nu, kdf, dpf, clf, saf, lnf, btf, h_S, Nat.le_refl _, zz_EX.rf, by rw [sp_gR, if_neg (zl_gB c4)], by rw [if_pos (by decide)], rfl⟩) (Nat.le_of_ble_eq_true rfl) (Nat.le_of_ble_eq_true rfl) dX7_grid_26
    · refine lv_iload_n hx hb dX7_grid_10 rfl (lv_at hl 2 rfl) ?_
      refine lv_iconst (v := 1) hx hb dX7_grid_11 (by decide) ?_
      refine lv_icmp_lt (tgt := 20) hx hb dX7_grid_12 (by decide) (fun c7 => ?_) (fun c7 => ?_)
      · refine lv_aload_n hx hb dX7_grid_20 rfl (lv_at hl 0 rfl) ?_
        refine lv_bipush (v := 9) hx hb dX7_grid_21 (by decide) ?_
        refine zz_iV (As := [.int 9]) (wc := [cw_k6 h0 st mk lk ch ru mr md la]) (wr := [cw_k2 mk st ml pa pe, cw_i g ml 4 mlf, cw_k5 st (nI na) (nI nu) kd dp cl sa ln bt pn bf, cw_i g kd 60 kdf, cw_i g dp 60 dpf, cw_i g cl 60 clf, cw_i g sa 60 saf, cw_i g ln 60 lnf, cw_l g bt 4000 btf]) (rest := []) hC hZ hs hl zc_X7_65 (co_fail g h0 st mk lk ch ru mr md la 9) [0] [1, 2, 3, 4, 5, 6, 7, 8, 9] rfl rfl (by decide +kernel) (ci := 6) (q0 := 0) rfl rfl rfl rfl (Nat.le_of_ble_eq_true rfl) ⟨⟨Nat.le_of_ble_eq_true rfl, Nat.le_of_ble_eq_true rfl⟩, Nat.le_of_ble_eq_true rfl, Nat.le_of_ble_eq_true rfl⟩ dX7_grid_23 (fun r8 u9 H locs hp hZ => ?_)
        obtain ⟨rfl, rfl⟩ := hp
        have hZ : zz_Z g A s.heap [cw_k2 mk st ml pa pe, cw_i g ml 4 mlf, cw_k5 st (nI na) (nI nu) kd dp cl sa ln bt pn bf, cw_i g kd 60 kdf, cw_i g dp 60 dpf, cw_i g cl 60 clf, cw_i g sa 60 saf, cw_i g ln 60 lnf, cw_l g bt 4000 btf, cw_k6 h0 st mk lk ch ru mr md 9] H locs := hZ
        have hZ : zz_Z g A s.heap [cw_k6 h0 st mk lk ch ru mr md 9, cw_k2 mk st ml pa pe, cw_i g ml 4 mlf, cw_k5 st (nI na) (nI nu) kd dp cl sa ln bt pn bf, cw_i g kd 60 kdf, cw_i g dp 60 dpf, cw_i g cl 60 clf, cw_i g sa 60 saf, cw_i g ln 60 lnf, cw_l g bt 4000 btf] H locs := hZ.sub [9, 0, 1, 2, 3, 4, 5, 6, 7, 8] (by decide +kernel) rfl
        exact zz_iret hC hZ (⟨9, mlf, na, nu, kdf, dpf, clf, saf, lnf, btf, h_S, Nat.le_refl _, zz_EX.rf, by rw [sp_gR, if_neg (zl_gC c7)], by rw [if_pos (by decide)], rfl⟩) (Nat.le_of_ble_eq_true rfl) (Nat.le_of_ble_eq_true rfl) dX7_grid_26
      · refine lv_iload_n hx hb dX7_grid_15 rfl (lv_at hl 2 rfl) ?_
        refine lv_iconst (v := 4) hx hb dX7_grid_16 (by decide) ?_
        refine lv_icmp_le (tgt := 27) hx hb dX7_grid_17 (by decide) (fun c10 => ?_) (fun c10 => ?_)
        · obtain ⟨dd, hd1, hd4, edd⟩ := zl_14 c7 c10
          have edc : x2.toNatClampNeg = dd := by rw [edd]; exact nI_clamp (by omega)
          have hl : lv_has ls 7 [(0, .ref h0), (1, .int x1), (2, .int (nI dd)), (3, .int x3), (4, .int x4), (5, .int x5), (6, .int x6)] := by rw [← edd]; exact hl
          refine lv_aload_n hx hb dX7_grid_27 rfl (lv_at hl 0 rfl) ?_
          refine zz_get hC hZ 0 rfl zf_X7_21 rfl dX7_grid_28 ?_
          refine lv_iload_n hx hb dX7_grid_31 rfl (lv_at hl 3 rfl) ?_
          refine lv_iload hx hb dX7_grid_32 (lv_at hl 4 rfl) ?_
          refine lv_iload hx hb dX7_grid_34 (lv_at hl 5 rfl) ?_
          refine lv_iload hx hb dX7_grid_36 (lv_at hl 6 rfl) ?_
          refine zz_vV (As := [.int x3, .int x4, .int x5, .int x6]) (wc := [cw_k2 mk st ml pa pe, cw_i g ml 4 mlf]) (wr := [cw_k6 h0 st mk lk ch ru mr md la, cw_k5 st (nI na) (nI nu) kd dp cl sa ln bt pn bf, cw_i g kd 60 kdf, cw_i g dp 60 dpf, cw_i g cl 60 clf, cw_i g sa 60 saf, cw_i g ln 60 lnf, cw_l g bt 4000 btf]) (rest := []) hC hZ hs hl zc_X7_86 (co_tell g st mk ml pa pe mlf x3 x4 x5 x6) [1, 2] [0, 3, 4, 5, 6, 7, 8, 9] rfl rfl (by decide +kernel) (ci := 2) (q0 := 0) rfl rfl rfl rfl (Nat.le_of_ble_eq_true rfl) ⟨⟨Nat.le_of_ble_eq_true rfl, Nat.le_of_ble_eq_true rfl⟩, Nat.le_of_ble_eq_true rfl, Nat.le_of_ble_eq_true rfl⟩ dX7_grid_38 (fun u12 H locs hp hZ => ?_)
          obtain rfl := hp
          have hZ : zz_Z g A s.heap [cw_k6 h0 st mk lk ch ru mr md la, cw_k5 st (nI na) (nI nu) kd dp cl sa ln bt pn bf, cw_i g kd 60 kdf, cw_i g dp 60 dpf, cw_i g cl 60 clf, cw_i g sa 60 saf, cw_i g ln 60 lnf, cw_l g bt 4000 btf, cw_k2 mk st ml pa pe, cw_i g ml 4 (upd (upd (upd (upd mlf 0 x3) 1 x4) 2 x5) 3 x6)] H locs := hZ
          refine lv_aload_n hx hb dX7_grid_41 rfl (lv_at hl 0 rfl) ?_
          refine zz_get hC hZ 0 rfl zf_X7_21 rfl dX7_grid_42 ?_
          refine lv_iload_n hx hb dX7_grid_45 rfl (lv_at hl 2 rfl) ?_
          refine zz_iV (As := [.int (nI dd)]) (wc := [cw_k2 mk st ml pa pe, cw_i g ml 4 (upd (upd (upd (upd mlf 0 x3) 1 x4) 2 x5) 3 x6)]) (wr := [cw_k6 h0 st mk lk ch ru mr md la, cw_k5 st (nI na) (nI nu) kd dp cl sa ln bt pn bf, cw_i g kd 60 kdf, cw_i g dp 60 dpf, cw_i g cl 60 clf, cw_i g sa 60 saf, cw_i g ln 60 lnf, cw_l g bt 4000 btf]) (rest := []) hC hZ hs hl zc_X7_90 (co_hasNeg g st mk ml pa pe (upd (upd (upd (upd mlf 0 x3) 1 x4) 2 x5) 3 x6) dd (by omega)) [8, 9] [0, 1, 2, 3, 4, 5, 6, 7] rfl rfl (by decide +kernel) (ci := 2) (q0 := 0) rfl rfl rfl rfl (Nat.le_of_ble_eq_true rfl) ⟨⟨Nat.le_of_ble_eq_true rfl, Nat.le_of_ble_eq_true rfl⟩, Nat.le_of_ble_eq_true rfl, Nat.le_of_ble_eq_true rfl⟩ dX7_grid_46 (fun r13 u14 H locs hp hZ => ?_)
          obtain ⟨f15, rfl⟩ := hp
          have hZ : zz_Z g A s.heap [cw_k6 h0 st mk lk ch ru mr md la, cw_k5 st (nI na) (nI nu) kd dp cl sa ln bt pn bf, cw_i g kd 60 kdf, cw_i g dp 60 dpf, cw_i g cl 60 clf, cw_i g sa 60 saf, cw_i g ln 60 lnf, cw_l g bt 4000 btf, cw_k2 mk st ml pa pe, cw_i g ml 4 (upd (upd (upd (upd mlf 0 x3) 1 x4) 2 x5) 3 x6)] H locs := hZ
          refine lv_if_eq (tgt := 58) hx hb dX7_grid_49 (by decide) (fun c16 => ?_) (fun c16 => ?_)
          · have hng := (f15.resolve_right (fun z => absurd (z.1.symm.trans c16) (by decide))).2
            have hll := zl_gll (by omega) hng
            refine lv_aload_n hx hb dX7_grid_58 rfl (lv_at hl 0 rfl) ?_
            refine zz_get hC hZ 0 rfl zf_X7_21 rfl dX7_grid_59 ?_
            refine lv_iload_n hx hb dX7_grid_62 rfl (lv_at hl 2 rfl) ?_
            refine zz_iV (As := [.int (nI dd)]) (wc := [cw_k2 mk st ml pa pe, cw_i g ml 4 (upd (upd (upd (upd mlf 0 x3) 1 x4) 2 x5) 3 x6), cw_k5 st (nI na) (nI nu) kd dp cl sa ln bt pn bf]) (wr := [cw_k6 h0 st mk lk ch ru mr md la, cw_i g kd 60 kdf, cw_i g dp 60 dpf, cw_i g cl 60 clf, cw_i g sa 60 saf, cw_i g ln 60 lnf, cw_l g bt 4000 btf]) (rest := []) hC hZ hs hl zc_X7_93 (co_gridFits g st mk ml pa pe (upd (upd (upd (upd mlf 0 x3) 1 x4) 2 x5) 3 x6) kd dp cl sa ln bt pn bf na nu dpf saf lnf (zz_gll x3 x4 x5 x6) dd (by omega) (h_S) (hll)) [8, 9, 1] [0, 2, 3, 4, 5, 6, 7] rfl rfl (by decide +kernel) (ci := 2) (q0 := 0) rfl rfl rfl rfl (Nat.le_of_ble_eq_true rfl) ⟨⟨Nat.le_of_ble_eq_true rfl, Nat.le_of_ble_eq_true rfl⟩, Nat.le_of_ble_eq_true rfl, Nat.le_of_ble_eq_true rfl⟩ dX7_grid_63 (fun r17 u18 H locs hp hZ => ?_)
            obtain ⟨f19, rfl⟩ := hp
            have hZ : zz_Z g A s.heap [cw_k6 h0 st mk lk ch ru mr md la, cw_i g kd 60 kdf, cw_i g dp 60 dpf, cw_i g cl 60 clf, cw_i g sa 60 saf, cw_i g ln 60 lnf, cw_l g bt 4000 btf, cw_k2 mk st ml pa pe, cw_i g ml 4 (upd (upd (upd (upd mlf 0 x3) 1 x4) 2 x5) 3 x6), cw_k5 st (nI na) (nI nu) kd dp cl sa ln bt pn bf] H locs := hZ
            refine lv_if_ne (tgt := 76) hx hb dX7_grid_66 (by decide) (fun c20 => ?_) (fun c20 => ?_)
            · have hGF := (f19.resolve_left (fun z => c20 z.1)).2
              have hT : na + zz_TT2 (zz_gll x3 x4 x5 x6) dd 0 ≤ 60 ∧ nu + zz_EE (zz_gll x3 x4 x5 x6) dd 0 ≤ 4000 := by rw [(zl_tot hd1 hd4).1, (zl_tot hd1 hd4).2]; exact ⟨hGF.2.1, hGF.2.2⟩
              rcases (show dd = 1 ∨ dd = 2 ∨ dd = 3 ∨ dd = 4 by omega) with hdd | hdd | hdd | hdd
              · have hT1 := hT
                rw [hdd] at hT1
                refine lv_aload_n hx hb dX7_grid_76 rfl (lv_at hl 0 rfl) ?_
                refine lv_aload_n hx hb dX7_grid_77 rfl (lv_at hl 0 rfl) ?_
                refine zz_get hC hZ 0 rfl zf_X7_21 rfl dX7_grid_78 ?_
                refine lv_iload_n hx hb dX7_grid_81 rfl (lv_at hl 1 rfl) ?_
                refine lv_iload_n hx hb dX7_grid_82 rfl (lv_at hl 2 rfl) ?_
                refine zz_iV (As := [.int x1, .int (nI dd)]) (wc := [cw_k2 mk st ml pa pe, cw_i g ml 4 (upd (upd (upd (upd mlf 0 x3) 1 x4) 2 x5) 3 x6), cw_k5 st (nI na) (nI nu) kd dp cl sa ln bt pn bf, cw_i g kd 60 kdf, cw_i g dp 60 dpf, cw_i g cl 60 clf, cw_i g sa 60 saf, cw_i g ln 60 lnf, cw_l g bt 4000 btf]) (wr := [cw_k6 h0 st mk lk ch ru mr md la]) (rest := [.ref h0]) hC hZ hs hl zc_X7_96 (co_makeGrid1 g st mk ml pa pe (upd (upd (upd (upd mlf 0 x3) 1 x4) 2 x5) 3 x6) kd dp cl sa ln bt pn bf na nu kdf dpf clf saf lnf btf (zz_gll x3 x4 x5 x6) dd x1 (hdd) (hT1) (h_S) (fun j hj => ⟨(hll j hj).1, hGF.1 j hj⟩)) [7, 8, 9, 1, 2, 3, 4, 5, 6] [0] rfl rfl (by decide +kernel) (ci := 2) (q0 := 0) rfl rfl rfl rfl (Nat.le_of_ble_eq_true rfl) ⟨⟨Nat.le_of_ble_eq_true rfl, Nat.le_of_ble_eq_true rfl⟩, Nat.le_of_ble_eq_true rfl, Nat.le_of_ble_eq_true rfl⟩ dX7_grid_83 (fun r21 u22 H locs hp hZ => ?_)
                obtain ⟨na2_23, nu2_24, kd2_25, dp2_26, cl2_27, sa2_28, ln2_29, bt2_30, rfl, f31, f32, f33, f34, rfl⟩ := hp
                have hZ : zz_Z g A s.heap [cw_k6 h0 st mk lk ch ru mr md la, cw_k2 mk st ml pa pe, cw_i g ml 4 (upd (upd (upd (upd mlf 0 x3) 1 x4) 2 x5) 3 x6), cw_k5 st (nI na2_23) (nI nu2_24) kd dp cl sa ln bt pn bf, cw_i g kd 60 kd2_25, cw_i g dp 60 dp2_26, cw_i g cl 60 cl2_27, cw_i g sa 60 sa2_28, cw_i g ln 60 ln2_29, cw_l g bt 4000 bt2_30] H locs := hZ
                refine zz_iV (As := [.int (nI na)]) (wc := [cw_k6 h0 st mk lk ch ru mr md la]) (wr := [cw_k2 mk st ml pa pe, cw_i g ml 4 (upd (upd (upd (upd mlf 0 x3) 1 x4) 2 x5) 3 x6), cw_k5 st (nI na2_23) (nI nu2_24) kd dp cl sa ln bt pn bf, cw_i g kd 60 kd2_25, cw_i g dp 60 dp2_26, cw_i g cl 60 cl2_27, cw_i g sa 60 sa2_28, cw_i g ln 60 ln2_29, cw_l g bt 4000 bt2_30]) (rest := []) hC hZ hs hl zc_X7_100 (co_fine g h0 st mk lk ch ru mr md la (nI na)) [0] [1, 2, 3, 4, 5, 6, 7, 8, 9] rfl rfl (by decide +kernel) (ci := 6) (q0 := 0) rfl rfl rfl rfl (Nat.le_of_ble_eq_true rfl) ⟨⟨Nat.le_of_ble_eq_true rfl, Nat.le_of_ble_eq_true rfl⟩, Nat.le_of_ble_eq_true rfl, Nat.le_of_ble_eq_true rfl⟩ dX7_grid_86 (fun r35 u36 H locs hp hZ => ?_)
                obtain ⟨rfl, rfl⟩ := hp
                have hZ : zz_Z g A s.heap [cw_k2 mk st ml pa pe, cw_i g ml 4 (upd (upd (upd (upd mlf 0 x3) 1 x4) 2 x5) 3 x6), cw_k5 st (nI na2_23) (nI nu2_24) kd dp cl sa ln bt pn bf, cw_i g kd 60 kd2_25, cw_i g dp 60 dp2_26, cw_i g cl 60 cl2_27, cw_i g sa 60 sa2_28, cw_i g ln 60 ln2_29, cw_l g bt 4000 bt2_30, cw_k6 h0 st mk lk ch ru mr md 0] H locs := hZ
                have hZ : zz_Z g A s.heap [cw_k6 h0 st mk lk ch ru mr md 0, cw_k2 mk st ml pa pe, cw_i g ml 4 (upd (upd (upd (upd mlf 0 x3) 1 x4) 2 x5) 3 x6), cw_k5 st (nI na2_23) (nI nu2_24) kd dp cl sa ln bt pn bf, cw_i g kd 60 kd2_25, cw_i g dp 60 dp2_26, cw_i g cl 60 cl2_27, cw_i g sa 60 sa2_28, cw_i g ln 60 ln2_29, cw_l g bt 4000 bt2_30] H locs := hZ.sub [9, 0, 1, 2, 3, 4, 5, 6, 7, 8] (by decide +kernel) rfl
                exact zz_iret hC hZ (⟨0, (upd (upd (upd (upd mlf 0 x3) 1 x4) 2 x5) 3 x6), na2_23, nu2_24, kd2_25, dp2_26, cl2_27, sa2_28, ln2_29, bt2_30, f31, f32, f33, by rw [sp_gR, edc, if_pos (zl_gE c1 c4 c7 c10), if_pos (zl_gnn (by omega) hng), if_pos hGF], by rw [if_neg (nI_pos (by omega)), edc, hdd]; exact f34, rfl⟩) (Nat.le_of_ble_eq_true rfl) (Nat.le_of_ble_eq_true rfl) dX7_grid_89
              · have hT2 := hT
                rw [hdd] at hT2
                refine lv_aload_n hx hb dX7_grid_76 rfl (lv_at hl 0 rfl) ?_
                refine lv_aload_n hx hb dX7_grid_77 rfl (lv_at hl 0 rfl) ?_
                refine zz_get hC hZ 0 rfl zf_X7_21 rfl dX7_grid_78 ?_
                refine lv_iload_n hx hb dX7_grid_81 rfl (lv_at hl 1 rfl) ?_
                refine lv_iload_n hx hb dX7_grid_82 rfl (lv_at hl 2 rfl) ?_
                refine zz_iV (As := [.int x1, .int (nI dd)]) (wc := [cw_k2 mk st ml pa pe, cw_i g ml 4 (upd (upd (upd (upd mlf 0 x3) 1 x4) 2 x5) 3 x6), cw_k5 st (nI na) (nI nu) kd dp cl sa ln bt pn bf, cw_i g kd 60 kdf, cw_i g dp 60 dpf, cw_i g cl 60 clf, cw_i g sa 60 saf, cw_i g ln 60 lnf, cw_l g bt 4000 btf]) (wr := [cw_k6 h0 st mk lk ch ru mr md la]) (rest := [.ref h0]) hC hZ hs hl zc_X7_96 (co_makeGrid2 g st mk ml pa pe (upd (upd (upd (upd mlf 0 x3) 1 x4) 2 x5) 3 x6) kd dp cl sa ln bt pn bf na nu kdf dpf clf saf lnf btf (zz_gll x3 x4 x5 x6) dd x1 (hdd) (hT2) (h_S) (fun j hj => ⟨(hll j hj).1, hGF.1 j hj⟩)) [7, 8, 9, 1, 2, 3, 4, 5, 6] [0] rfl rfl (by decide +kernel) (ci := 2) (q0 := 0) rfl rfl rfl rfl (Nat.le_of_ble_eq_true rfl) ⟨⟨Nat.le_of_ble_eq_true rfl, Nat.le_of_ble_eq_true rfl⟩, Nat.le_of_ble_eq_true rfl, Nat.le_of_ble_eq_true rfl⟩ dX7_grid_83 (fun r37 u38 H locs hp hZ => ?_)
                obtain ⟨na2_39, nu2_40, kd2_41, dp2_42, cl2_43, sa2_44, ln2_45, bt2_46, rfl, f47, f48, f49, f50, rfl⟩ := hp
                have hZ : zz_Z g A s.heap [cw_k6 h0 st mk lk ch ru mr md la, cw_k2 mk st ml pa pe, cw_i g ml 4 (upd (upd (upd (upd mlf 0 x3) 1 x4) 2 x5) 3 x6), cw_k5 st (nI na2_39) (nI nu2_40) kd dp cl sa ln bt pn bf, cw_i g kd 60 kd2_41, cw_i g dp 60 dp2_42, cw_i g cl 60 cl2_43, cw_i g sa 60 sa2_44, cw_i g ln 60 ln2_45, cw_l g bt 4000 bt2_46] H locs := hZ
                refine zz_iV (As := [.int (nI na)]) (wc := [cw_k6 h0 st mk lk ch ru mr md la]) (wr := [cw_k2 mk st ml pa pe, cw_i g ml 4 (upd (upd (upd (upd mlf 0 x3) 1 x4) 2 x5) 3 x6), cw_k5 st (nI na2_39) (nI nu2_40) kd dp cl sa ln bt pn bf, cw_i g kd 60 kd2_41, cw_i g dp 60 dp2_42, cw_i g cl 60 cl2_43, cw_i g sa 60 sa2_44, cw_i g ln 60 ln2_45, cw_l g bt 4000 bt2_46]) (rest := []) hC hZ hs hl zc_X7_100 (co_fine g h0 st mk lk ch ru mr md la (nI na)) [0] [1, 2, 3, 4, 5, 6, 7, 8, 9] rfl rfl (by decide +kernel) (ci := 6) (q0 := 0) rfl rfl rfl rfl (Nat.le_of_ble_eq_true rfl) ⟨⟨Nat.le_of_ble_eq_true rfl, Nat.le_of_ble_eq_true rfl⟩, Nat.le_of_ble_eq_true rfl, Nat.le_of_ble_eq_true rfl⟩ dX7_grid_86 (fun r51 u52 H locs hp hZ => ?_)
                obtain ⟨rfl, rfl⟩ := hp
                have hZ : zz_Z g A s.heap [cw_k2 mk st ml pa pe, cw_i g ml 4 (upd (upd (upd (upd mlf 0 x3) 1 x4) 2 x5) 3 x6), cw_k5 st (nI na2_39) (nI nu2_40) kd dp cl sa ln bt pn bf, cw_i g kd 60 kd2_41, cw_i g dp 60 dp2_42, cw_i g cl 60 cl2_43, cw_i g sa 60 sa2_44, cw_i g ln 60 ln2_45, cw_l g bt 4000 bt2_46, cw_k6 h0 st mk lk ch ru mr md 0] H locs := hZ
                have hZ : zz_Z g A s.heap [cw_k6 h0 st mk lk ch ru mr md 0, cw_k2 mk st ml pa pe, cw_i g ml 4 (upd (upd (upd (upd mlf 0 x3) 1 x4) 2 x5) 3 x6), cw_k5 st (nI na2_39) (nI nu2_40) kd dp cl sa ln bt pn bf, cw_i g kd 60 kd2_41, cw_i g dp 60 dp2_42, cw_i g cl 60 cl2_43, cw_i g sa 60 sa2_44, cw_i g ln 60 ln2_45, cw_l g bt 4000 bt2_46] H locs := hZ.sub [9, 0, 1, 2, 3, 4, 5, 6, 7, 8] (by decide +kernel) rfl
                exact zz_iret hC hZ (⟨0, (upd (upd (upd (upd mlf 0 x3) 1 x4) 2 x5) 3 x6), na2_39, nu2_40, kd2_41, dp2_42, cl2_43, sa2_44, ln2_45, bt2_46, f47, f48, f49, by rw [sp_gR, edc, if_pos (zl_gE c1 c4 c7 c10), if_pos (zl_gnn (by omega) hng), if_pos hGF], by rw [if_neg (nI_pos (by omega)), edc, hdd]; exact f50, rfl⟩) (Nat.le_of_ble_eq_true rfl) (Nat.le_of_ble_eq_true rfl) dX7_grid_89
              · have hT3 := hT
                rw [hdd] at hT3
                refine lv_aload_n hx hb dX7_grid_76 rfl (lv_at hl 0 rfl) ?_
                refine lv_aload_n hx hb dX7_grid_77 rfl (lv_at hl 0 rfl) ?_
                refine zz_get hC hZ 0 rfl zf_X7_21 rfl dX7_grid_78 ?_
                refine lv_iload_n hx hb dX7_grid_81 rfl (lv_at hl 1 rfl) ?_
                refine lv_iload_n hx hb dX7_grid_82 rfl (lv_at hl 2 rfl) ?_
                refine zz_iV (As := [.int x1, .int (nI dd)]) (wc := [cw_k2 mk st ml pa pe, cw_i g ml 4 (upd (upd (upd (upd mlf 0 x3) 1 x4) 2 x5) 3 x6), cw_k5 st (nI na) (nI nu) kd dp cl sa ln bt pn bf, cw_i g kd 60 kdf, cw_i g dp 60 dpf, cw_i g cl 60 clf, cw_i g sa 60 saf, cw_i g ln 60 lnf, cw_l g bt 4000 btf]) (wr := [cw_k6 h0 st mk lk ch ru mr md la]) (rest := [.ref h0]) hC hZ hs hl zc_X7_96 (co_makeGrid3 g st mk ml pa pe (upd (upd (upd (upd mlf 0 x3) 1 x4) 2 x5) 3 x6) kd dp cl sa ln bt pn bf na nu kdf dpf clf saf lnf btf (zz_gll x3 x4 x5 x6) dd x1 (hdd) (hT3) (h_S) (fun j hj => ⟨(hll j hj).1, hGF.1 j hj⟩)) [7, 8, 9, 1, 2, 3, 4, 5, 6] [0] rfl rfl (by decide +kernel) (ci := 2) (q0 := 0) rfl rfl rfl rfl (Nat.le_of_ble_eq_true rfl) ⟨⟨Nat.le_of_ble_eq_true rfl, Nat.le_of_ble_eq_true rfl⟩, Nat.le_of_ble_eq_true rfl, Nat.le_of_ble_eq_true rfl⟩ dX7_grid_83 (fun r53 u54 H locs hp hZ => ?_)
                obtain ⟨na2_55, nu2_56, kd2_57, dp2_58, cl2_59, sa2_60, ln2_61, bt2_62, rfl, f63, f64, f65, f66, rfl⟩ := hp
                have hZ : zz_Z g A s.heap [cw_k6 h0 st mk lk ch ru mr md la, cw_k2 mk st ml pa pe, cw_i g ml 4 (upd (upd (upd (upd mlf 0 x3) 1 x4) 2 x5) 3 x6), cw_k5 st (nI na2_55) (nI nu2_56) kd dp cl sa ln bt pn bf, cw_i g kd 60 kd2_57, cw_i g dp 60 dp2_58, cw_i g cl 60 cl2_59, cw_i g sa 60 sa2_60, cw_i g ln 60 ln2_61, cw_l g bt 4000 bt2_62] H locs := hZ
                refine zz_iV (As := [.int (nI na)]) (wc := [cw_k6 h0 st mk lk ch ru mr md la]) (wr := [cw_k2 mk st ml pa pe, cw_i g ml 4 (upd (upd (upd (upd mlf 0 x3) 1 x4) 2 x5) 3 x6), cw_k5 st (nI na2_55) (nI nu2_56) kd dp cl sa ln bt pn bf, cw_i g kd 60 kd2_57, cw_i g dp 60 dp2_58, cw_i g cl 60 cl2_59, cw_i g sa 60 sa2_60, cw_i g ln 60 ln2_61, cw_l g bt 4000 bt2_62]) (rest := []) hC hZ hs hl zc_X7_100 (co_fine g h0 st mk lk ch ru mr md la (nI na)) [0] [1, 2, 3, 4, 5, 6, 7, 8, 9] rfl rfl (by decide +kernel) (ci := 6) (q0 := 0) rfl rfl rfl rfl (Nat.le_of_ble_eq_true rfl) ⟨⟨Nat.le_of_ble_eq_true rfl, Nat.le_of_ble_eq_true rfl⟩, Nat.le_of_ble_eq_true rfl, Nat.le_of_ble_eq_true rfl⟩ dX7_grid_86 (fun r67 u68 H locs hp hZ => ?_)
                obtain ⟨rfl, rfl⟩ := hp
                have hZ : zz_Z g A s.heap [cw_k2 mk st ml pa pe, cw_i g ml 4 (upd (upd (upd (upd mlf 0 x3) 1 x4) 2 x5) 3 x6), cw_k5 st (nI na2_55) (nI nu2_56) kd dp cl sa ln bt pn bf, cw_i g kd 60 kd2_57, cw_i g dp 60 dp2_58, cw_i g cl 60 cl2_59, cw_i g sa 60 sa2_60, cw_i g ln 60 ln2_61, cw_l g bt 4000 bt2_62, cw_k6 h0 st mk lk ch ru mr md 0] H locs := hZ
                have hZ : zz_Z g A s.heap [cw_k6 h0 st mk lk ch ru mr md 0, cw_k2 mk st ml pa pe, cw_i g ml 4 (upd (upd (upd (upd mlf 0 x3) 1 x4) 2 x5) 3 x6), cw_k5 st (nI na2_55) (nI nu2_56) kd dp cl sa ln bt pn bf, cw_i g kd 60 kd2_57, cw_i g dp 60 dp2_58, cw_i g cl 60 cl2_59, cw_i g sa 60 sa2_60, cw_i g ln 60 ln2_61, cw_l g bt 4000 bt2_62] H locs := hZ.sub [9, 0, 1, 2, 3, 4, 5, 6, 7, 8] (by decide +kernel) rfl
                exact zz_iret hC hZ (⟨0, (upd (upd (upd (upd mlf 0 x3) 1 x4) 2 x5) 3 x6), na2_55, nu2_56, kd2_57, dp2_58, cl2_59, sa2_60, ln2_61, bt2_62, f63, f64, f65, by rw [sp_gR, edc, if_pos (zl_gE c1 c4 c7 c10), if_pos (zl_gnn (by omega) hng), if_pos hGF], by rw [if_neg (nI_pos (by omega)), edc, hdd]; exact f66, rfl⟩) (Nat.le_of_ble_eq_true rfl) (Nat.le_of_ble_eq_true rfl) dX7_grid_89
              · have hT4 := hT
                rw [hdd] at hT4
                refine lv_aload_n hx hb dX7_grid_76 rfl (lv_at hl 0 rfl) ?_
                refine lv_aload_n hx hb dX7_grid_77 rfl (lv_at hl 0 rfl) ?_
                refine zz_get hC hZ 0 rfl zf_X7_21 rfl dX7_grid_78 ?_
                refine lv_iload_n hx hb dX7_grid_81 rfl (lv_at hl 1 rfl) ?_
                refine lv_iload_n hx hb dX7_grid_82 rfl (lv_at hl 2 rfl) ?_
                refine zz_iV (As := [.int x1, .int (nI dd)]) (wc := [cw_k2 mk st ml pa pe, cw_i g ml 4 (upd (upd (upd (upd mlf 0 x3) 1 x4) 2 x5) 3 x6), cw_k5 st (nI na) (nI nu) kd dp cl sa ln bt pn bf, cw_i g kd 60 kdf, cw_i g dp 60 dpf, cw_i g cl 60 clf, cw_i g sa 60 saf, cw_i g ln 60 lnf, cw_l g bt 4000 btf]) (wr := [cw_k6 h0 st mk lk ch ru mr md la]) (rest := [.ref h0]) hC hZ hs hl zc_X7_96 (co_makeGrid4 g st mk ml pa pe (upd (upd (upd (upd mlf 0 x3) 1 x4) 2 x5) 3 x6) kd dp cl sa ln bt pn bf na nu kdf dpf clf saf lnf btf (zz_gll x3 x4 x5 x6) dd x1 (hdd) (hT4) (h_S) (fun j hj => ⟨(hll j hj).1, hGF.1 j hj⟩)) [7, 8, 9, 1, 2, 3, 4, 5, 6] [0] rfl rfl (by decide +kernel) (ci := 2) (q0 := 0) rfl rfl rfl rfl (Nat.le_of_ble_eq_true rfl) ⟨⟨Nat.le_of_ble_eq_true rfl, Nat.le_of_ble_eq_true rfl⟩, Nat.le_of_ble_eq_true rfl, Nat.le_of_ble_eq_true rfl⟩ dX7_grid_83 (fun r69 u70 H locs hp hZ => ?_)
                obtain ⟨na2_71, nu2_72, kd2_73, dp2_74, cl2_75, sa2_76, ln2_77, bt2_78, rfl, f79, f80, f81, f82, rfl⟩ := hp
                have hZ : zz_Z g A s.heap [cw_k6 h0 st mk lk ch ru mr md la, cw_k2 mk st ml pa pe, cw_i g ml 4 (upd (upd (upd (upd mlf 0 x3) 1 x4) 2 x5) 3 x6), cw_k5 st (nI na2_71) (nI nu2_72) kd dp cl sa ln bt pn bf, cw_i g kd 60 kd2_73, cw_i g dp 60 dp2_74, cw_i g cl 60 cl2_75, cw_i g sa 60 sa2_76, cw_i g ln 60 ln2_77, cw_l g bt 4000 bt2_78] H locs := hZ
                refine zz_iV (As := [.int (nI na)]) (wc := [cw_k6 h0 st mk lk ch ru mr md la]) (wr := [cw_k2 mk st ml pa pe, cw_i g ml 4 (upd (upd (upd (upd mlf 0 x3) 1 x4) 2 x5) 3 x6), cw_k5 st (nI na2_71) (nI nu2_72) kd dp cl sa ln bt pn bf, cw_i g kd 60 kd2_73, cw_i g dp 60 dp2_74, cw_i g cl 60 cl2_75, cw_i g sa 60 sa2_76, cw_i g ln 60 ln2_77, cw_l g bt 4000 bt2_78]) (rest := []) hC hZ hs hl zc_X7_100 (co_fine g h0 st mk lk ch ru mr md la (nI na)) [0] [1, 2, 3, 4, 5, 6, 7, 8, 9] rfl rfl (by decide +kernel) (ci := 6) (q0 := 0) rfl rfl rfl rfl (Nat.le_of_ble_eq_true rfl) ⟨⟨Nat.le_of_ble_eq_true rfl, Nat.le_of_ble_eq_true rfl⟩, Nat.le_of_ble_eq_true rfl, Nat.le_of_ble_eq_true rfl⟩ dX7_grid_86 (fun r83 u84 H locs hp hZ => ?_)
                obtain ⟨rfl, rfl⟩ := hp
                have hZ : zz_Z g A s.heap [cw_k2 mk st ml pa pe, cw_i g ml 4 (upd (upd (upd (upd mlf 0 x3) 1 x4) 2 x5) 3 x6), cw_k5 st (nI na2_71) (nI nu2_72) kd dp cl sa ln bt pn bf, cw_i g kd 60 kd2_73, cw_i g dp 60 dp2_74, cw_i g cl 60 cl2_75, cw_i g sa 60 sa2_76, cw_i g ln 60 ln2_77, cw_l g bt 4000 bt2_78, cw_k6 h0 st mk lk ch ru mr md 0] H locs := hZ
                have hZ : zz_Z g A s.heap [cw_k6 h0 st mk lk ch ru mr md 0, cw_k2 mk st ml pa pe, cw_i g ml 4 (upd (upd (upd (upd mlf 0 x3) 1 x4) 2 x5) 3 x6), cw_k5 st (nI na2_71) (nI nu2_72) kd dp cl sa ln bt pn bf, cw_i g kd 60 kd2_73, cw_i g dp 60 dp2_74, cw_i g cl 60 cl2_75, cw_i g sa 60 sa2_76, cw_i g ln 60 ln2_77, cw_l g bt 4000 bt2_78] H locs := hZ.sub [9, 0, 1, 2, 3, 4, 5, 6, 7, 8] (by decide +kernel) rfl
                exact zz_iret hC hZ (⟨0, (upd (upd (upd (upd mlf 0 x3) 1 x4) 2 x5) 3 x6), na2_71, nu2_72, kd2_73, dp2_74, cl2_75, sa2_76, ln2_77, bt2_78, f79, f80, f81, by rw [sp_gR, edc, if_pos (zl_gE c1 c4 c7 c10), if_pos (zl_gnn (by omega) hng), if_pos hGF], by rw [if_neg (nI_pos (by omega)), edc, hdd]; exact f82, rfl⟩) (Nat.le_of_ble_eq_true rfl) (Nat.le_of_ble_eq_true rfl) dX7_grid_89
            · refine lv_aload_n hx hb dX7_grid_69 rfl (lv_at hl 0 rfl) ?_
              refine lv_bipush (v := 8) hx hb dX7_grid_70 (by decide) ?_
              refine zz_iV (As := [.int 8]) (wc := [cw_k6 h0 st mk lk ch ru mr md la]) (wr := [cw_i g kd 60 kdf, cw_i g dp 60 dpf, cw_i g cl 60 clf, cw_i g sa 60 saf, cw_i g ln 60 lnf, cw_l g bt 4000 btf, cw_k2 mk st ml pa pe, cw_i g ml 4 (upd (upd (upd (upd mlf 0 x3) 1 x4) 2 x5) 3 x6), cw_k5 st (nI na) (nI nu) kd dp cl sa ln bt pn bf]) (rest := []) hC hZ hs hl zc_X7_65 (co_fail g h0 st mk lk ch ru mr md la 8) [0] [1, 2, 3, 4, 5, 6, 7, 8, 9] rfl rfl (by decide +kernel) (ci := 6) (q0 := 0) rfl rfl rfl rfl (Nat.le_of_ble_eq_true rfl) ⟨⟨Nat.le_of_ble_eq_true rfl, Nat.le_of_ble_eq_true rfl⟩, Nat.le_of_ble_eq_true rfl, Nat.le_of_ble_eq_true rfl⟩ dX7_grid_72 (fun r85 u86 H locs hp hZ => ?_)
              obtain ⟨rfl, rfl⟩ := hp
              have hZ : zz_Z g A s.heap [cw_i g kd 60 kdf, cw_i g dp 60 dpf, cw_i g cl 60 clf, cw_i g sa 60 saf, cw_i g ln 60 lnf, cw_l g bt 4000 btf, cw_k2 mk st ml pa pe, cw_i g ml 4 (upd (upd (upd (upd mlf 0 x3) 1 x4) 2 x5) 3 x6), cw_k5 st (nI na) (nI nu) kd dp cl sa ln bt pn bf, cw_k6 h0 st mk lk ch ru mr md 8] H locs := hZ
              have hZ : zz_Z g A s.heap [cw_k6 h0 st mk lk ch ru mr md 8, cw_k2 mk st ml pa pe, cw_i g ml 4 (upd (upd (upd (upd mlf 0 x3) 1 x4) 2 x5) 3 x6), cw_k5 st (nI na) (nI nu) kd dp cl sa ln bt pn bf, cw_i g kd 60 kdf, cw_i g dp 60 dpf, cw_i g cl 60 clf, cw_i g sa 60 saf, cw_i g ln 60 lnf, cw_l g bt 4000 btf] H locs := hZ.sub [9, 6, 7, 8, 0, 1, 2, 3, 4, 5] (by decide +kernel) rfl
              exact zz_iret hC hZ (⟨8, (upd (upd (upd (upd mlf 0 x3) 1 x4) 2 x5) 3 x6), na, nu, kdf, dpf, clf, saf, lnf, btf, h_S, Nat.le_refl _, zz_EX.rf, by rw [sp_gR, edc, if_pos (zl_gE c1 c4 c7 c10), if_pos (zl_gnn (by omega) hng), if_neg (f19.resolve_right (fun z => absurd (z.1.symm.trans c20) (by decide))).2], by rw [if_pos (by decide)], rfl⟩) (Nat.le_of_ble_eq_true rfl) (Nat.le_of_ble_eq_true rfl) dX7_grid_75
          · refine lv_aload_n hx hb dX7_grid_52 rfl (lv_at hl 0 rfl) ?_
            refine lv_iconst (v := 4) hx hb dX7_grid_53 (by decide) ?_
            refine zz_iV (As := [.int 4]) (wc := [cw_k6 h0 st mk lk ch ru mr md la]) (wr := [cw_k5 st (nI na) (nI nu) kd dp cl sa ln bt pn bf, cw_i g kd 60 kdf, cw_i g dp 60 dpf, cw_i g cl 60 clf, cw_i g sa 60 saf, cw_i g ln 60 lnf, cw_l g bt 4000 btf, cw_k2 mk st ml pa pe, cw_i g ml 4 (upd (upd (upd (upd mlf 0 x3) 1 x4) 2 x5) 3 x6)]) (rest := []) hC hZ hs hl zc_X7_65 (co_fail g h0 st mk lk ch ru mr md la 4) [0] [1, 2, 3, 4, 5, 6, 7, 8, 9] rfl rfl (by decide +kernel) (ci := 6) (q0 := 0) rfl rfl rfl rfl (Nat.le_of_ble_eq_true rfl) ⟨⟨Nat.le_of_ble_eq_true rfl, Nat.le_of_ble_eq_true rfl⟩, Nat.le_of_ble_eq_true rfl, Nat.le_of_ble_eq_true rfl⟩ dX7_grid_54 (fun r87 u88 H locs hp hZ => ?_)
            obtain ⟨rfl, rfl⟩ := hp
            have hZ : zz_Z g A s.heap [cw_k5 st (nI na) (nI nu) kd dp cl sa ln bt pn bf, cw_i g kd 60 kdf, cw_i g dp 60 dpf, cw_i g cl 60 clf, cw_i g sa 60 saf, cw_i g ln 60 lnf, cw_l g bt 4000 btf, cw_k2 mk st ml pa pe, cw_i g ml 4 (upd (upd (upd (upd mlf 0 x3) 1 x4) 2 x5) 3 x6), cw_k6 h0 st mk lk ch ru mr md 4] H locs := hZ
            have hZ : zz_Z g A s.heap [cw_k6 h0 st mk lk ch ru mr md 4, cw_k2 mk st ml pa pe, cw_i g ml 4 (upd (upd (upd (upd mlf 0 x3) 1 x4) 2 x5) 3 x6), cw_k5 st (nI na) (nI nu) kd dp cl sa ln bt pn bf, cw_i g kd 60 kdf, cw_i g dp 60 dpf, cw_i g cl 60 clf, cw_i g sa 60 saf, cw_i g ln 60 lnf, cw_l g bt 4000 btf] H locs := hZ.sub [9, 7, 8, 0, 1, 2, 3, 4, 5, 6] (by decide +kernel) rfl
            exact zz_iret hC hZ (⟨4, (upd (upd (upd (upd mlf 0 x3) 1 x4) 2 x5) 3 x6), na, nu, kdf, dpf, clf, saf, lnf, btf, h_S, Nat.le_refl _, zz_EX.rf, by rw [sp_gR, edc, if_pos (zl_gE c1 c4 c7 c10), if_neg (zl_gneg (by omega) (f15.resolve_left (fun z => c16 z.1)).2)], by rw [if_pos (by decide)], rfl⟩) (Nat.le_of_ble_eq_true rfl) (Nat.le_of_ble_eq_true rfl) dX7_grid_57
        · refine lv_aload_n hx hb dX7_grid_20 rfl (lv_at hl 0 rfl) ?_
          refine lv_bipush (v := 9) hx hb dX7_grid_21 (by decide) ?_
          refine zz_iV (As := [.int 9]) (wc := [cw_k6 h0 st mk lk ch ru mr md la]) (wr := [cw_k2 mk st ml pa pe, cw_i g ml 4 mlf, cw_k5 st (nI na) (nI nu) kd dp cl sa ln bt pn bf, cw_i g kd 60 kdf, cw_i g dp 60 dpf, cw_i g cl 60 clf, cw_i g sa 60 saf, cw_i g ln 60 lnf, cw_l g bt 4000 btf]) (rest := []) hC hZ hs hl zc_X7_65 (co_fail g h0 st mk lk ch ru mr md la 9) [0] [1, 2, 3, 4, 5, 6, 7, 8, 9] rfl rfl (by decide +kernel) (ci := 6) (q0 := 0) rfl rfl rfl rfl (Nat.le_of_ble_eq_true rfl) ⟨⟨Nat.le_of_ble_eq_true rfl, Nat.le_of_ble_eq_true rfl⟩, Nat.le_of_ble_eq_true rfl, Nat.le_of_ble_eq_true rfl⟩ dX7_grid_23 (fun r89 u90 H locs hp hZ => ?_)
          obtain ⟨rfl, rfl⟩ := hp
          have hZ : zz_Z g A s.heap [cw_k2 mk st ml pa pe, cw_i g ml 4 mlf, cw_k5 st (nI na) (nI nu) kd dp cl sa ln bt pn bf, cw_i g kd 60 kdf, cw_i g dp 60 dpf, cw_i g cl 60 clf, cw_i g sa 60 saf, cw_i g ln 60 lnf, cw_l g bt 4000 btf, cw_k6 h0 st mk lk ch ru mr md 9] H locs := hZ
          have hZ : zz_Z g A s.heap [cw_k6 h0 st mk lk ch ru mr md 9, cw_k2 mk st ml pa pe, cw_i g ml 4 mlf, cw_k5 st (nI na) (nI nu) kd dp cl sa ln bt pn bf, cw_i g kd 60 kdf, cw_i g dp 60 dpf, cw_i g cl 60 clf, cw_i g sa 60 saf, cw_i g ln 60 lnf, cw_l g bt 4000 btf] H locs := hZ.sub [9, 0, 1, 2, 3, 4, 5, 6, 7, 8] (by decide +kernel) rfl
          exact zz_iret hC hZ (⟨9, mlf, na, nu, kdf, dpf, clf, saf, lnf, btf, h_S, Nat.le_refl _, zz_EX.rf, by rw [sp_gR, if_neg (zl_gD c10)], by rw [if_pos (by decide)], rfl⟩) (Nat.le_of_ble_eq_true rfl) (Nat.le_of_ble_eq_true rfl) dX7_grid_26
