theorem dg_X5_apart_0 : (decode cX5_apart 0 = .ok (.lload_n 0, 1)) ∧ (decode cX5_apart 1 = .ok (.lload_n 2, 1)) ∧ (decode cX5_apart 2 = .ok (.lcmp, 1)) ∧ (decode cX5_apart 3 = .ok (.ifCond .le 9, 3)) ∧ (decode cX5_apart 6 = .ok (.lload_n 0, 1)) ∧ (decode cX5_apart 7 = .ok (.lload_n 2, 1)) ∧ (decode cX5_apart 8 = .ok (.lsub, 1)) ∧ (decode cX5_apart 9 = .ok (.goto 6, 3)) ∧ (decode cX5_apart 12 = .ok (.lload_n 2, 1)) ∧ (decode cX5_apart 13 = .ok (.lload_n 0, 1)) ∧ (decode cX5_apart 14 = .ok (.lsub, 1)) ∧ (decode cX5_apart 15 = .ok (.lstore 4, 2)) ∧ (decode cX5_apart 17 = .ok (.lload 4, 2)) ∧ (decode cX5_apart 19 = .ok (.lconst 0, 1)) ∧ (decode cX5_apart 20 = .ok (.lcmp, 1)) ∧ (decode cX5_apart 21 = .ok (.ifCond .lt 12, 3)) := by decide +kernel
theorem dX5_apart_0 : decode cX5_apart 0 = .ok (.lload_n 0, 1) := dg_X5_apart_0.1
theorem dX5_apart_1 : decode cX5_apart 1 = .ok (.lload_n 2, 1) := dg_X5_apart_0.2.1
theorem dX5_apart_2 : decode cX5_apart 2 = .ok (.lcmp, 1) := dg_X5_apart_0.2.2.1
theorem dX5_apart_3 : decode cX5_apart 3 = .ok (.ifCond .le 9, 3) := dg_X5_apart_0.2.2.2.1
theorem dX5_apart_6 : decode cX5_apart 6 = .ok (.lload_n 0, 1) := dg_X5_apart_0.2.2.2.2.1
theorem dX5_apart_7 : decode cX5_apart 7 = .ok (.lload_n 2, 1) := dg_X5_apart_0.2.2.2.2.2.1
theorem dX5_apart_8 : decode cX5_apart 8 = .ok (.lsub, 1) := dg_X5_apart_0.2.2.2.2.2.2.1
theorem dX5_apart_9 : decode cX5_apart 9 = .ok (.goto 6, 3) := dg_X5_apart_0.2.2.2.2.2.2.2.1
theorem dX5_apart_12 : decode cX5_apart 12 = .ok (.lload_n 2, 1) := dg_X5_apart_0.2.2.2.2.2.2.2.2.1
theorem dX5_apart_13 : decode cX5_apart 13 = .ok (.lload_n 0, 1) := dg_X5_apart_0.2.2.2.2.2.2.2.2.2.1
theorem dX5_apart_14 : decode cX5_apart 14 = .ok (.lsub, 1) := dg_X5_apart_0.2.2.2.2.2.2.2.2.2.2.1
theorem dX5_apart_15 : decode cX5_apart 15 = .ok (.lstore 4, 2) := dg_X5_apart_0.2.2.2.2.2.2.2.2.2.2.2.1
theorem dX5_apart_17 : decode cX5_apart 17 = .ok (.lload 4, 2) := dg_X5_apart_0.2.2.2.2.2.2.2.2.2.2.2.2.1
theorem dX5_apart_19 : decode cX5_apart 19 = .ok (.lconst 0, 1) := dg_X5_apart_0.2.2.2.2.2.2.2.2.2.2.2.2.2.1
theorem dX5_apart_20 : decode cX5_apart 20 = .ok (.lcmp, 1) := dg_X5_apart_0.2.2.2.2.2.2.2.2.2.2.2.2.2.2.1
theorem dX5_apart_21 : decode cX5_apart 21 = .ok (.ifCond .lt 12, 3) := dg_X5_apart_0.2.2.2.2.2.2.2.2.2.2.2.2.2.2.2
theorem dg_X5_apart_24 : (decode cX5_apart 24 = .ok (.lload 4, 2)) ∧ (decode cX5_apart 26 = .ok (.ldc2_w 50, 3)) ∧ (decode cX5_apart 29 = .ok (.lcmp, 1)) ∧ (decode cX5_apart 30 = .ok (.ifCond .le 9, 3)) ∧ (decode cX5_apart 33 = .ok (.ldc2_w 50, 3)) ∧ (decode cX5_apart 36 = .ok (.goto 5, 3)) ∧ (decode cX5_apart 39 = .ok (.lload 4, 2)) ∧ (decode cX5_apart 41 = .ok (.lreturn, 1)) := by decide +kernel
theorem dX5_apart_24 : decode cX5_apart 24 = .ok (.lload 4, 2) := dg_X5_apart_24.1
theorem dX5_apart_26 : decode cX5_apart 26 = .ok (.ldc2_w 50, 3) := dg_X5_apart_24.2.1
theorem dX5_apart_29 : decode cX5_apart 29 = .ok (.lcmp, 1) := dg_X5_apart_24.2.2.1
theorem dX5_apart_30 : decode cX5_apart 30 = .ok (.ifCond .le 9, 3) := dg_X5_apart_24.2.2.2.1
theorem dX5_apart_33 : decode cX5_apart 33 = .ok (.ldc2_w 50, 3) := dg_X5_apart_24.2.2.2.2.1
theorem dX5_apart_36 : decode cX5_apart 36 = .ok (.goto 5, 3) := dg_X5_apart_24.2.2.2.2.2.1
theorem dX5_apart_39 : decode cX5_apart 39 = .ok (.lload 4, 2) := dg_X5_apart_24.2.2.2.2.2.2.1
theorem dX5_apart_41 : decode cX5_apart 41 = .ok (.lreturn, 1) := dg_X5_apart_24.2.2.2.2.2.2.2
theorem zk_640 : Cond.constantLong RX5 50 (1000000) ∈ zz_w := zz_in (List.mem_append_right _ (List.mem_append_right _ (List.mem_append_right _ (List.mem_append_left _ (List.mem_of_getElem? (i := 160) (by decide +kernel)))))) rfl
def fn_co_apart (x : Int64) (y : Int64) : Int64 := (if x ≤ y then (if (y - x) < 0 then 1000000 else (if (y - x) ≤ 1000000 then y - x else 1000000)) else (if (x - y) < 0 then 1000000 else (if (x - y) ≤ 1000000 then x - y else 1000000)))
abbrev rm_co_apart : Room := { frames := 0, cells := 0, slots := 0, locals := 0 }
abbrev po_co_apart (g : zz_G) (x : Int64) (y : Int64) : Int64 → va_W → Prop := fun (r : Int64) (u : va_W) => r = fn_co_apart x y ∧ u = []
set_option maxHeartbeats 4000000 in
set_option maxRecDepth 100000 in
theorem co_apart (g : zz_G) (x : Int64) (y : Int64) : zz_L g yX5_apart (.code yX5_apart cX5_apart 6 (some .long)) rm_co_apart [.long x, .long y] [] (po_co_apart g x y) := by
  refine zz_L.intro (own := RX5) (cc := cX5_apart) (nL := 6) (by decide) rfl (Nat.le_of_ble_eq_true rfl) ?_
  intro p l e s m args below meth c A H locs ls hC hnm hs hZ hl
  obtain ⟨hx, hb, hml, hown, hts, hr, hlocks, hK⟩ := id hC
  have hl : lv_has ls 6 [(0, .long x), (2, .long y)] := hl
  have hZ : zz_Z g A s.heap [] H locs := hZ
  refine lv_lload_n hx hb dX5_apart_0 rfl (lv_at hl 0 rfl) ?_
  refine lv_lload_n hx hb dX5_apart_1 rfl (lv_at hl 1 rfl) ?_
  refine zz_lcmp_le (tgt := 12) hC dX5_apart_2 dX5_apart_3 (by decide) (fun c1 => ?_) (fun c1 => ?_)
  · refine lv_lload_n hx hb dX5_apart_12 rfl (lv_at hl 1 rfl) ?_
    refine lv_lload_n hx hb dX5_apart_13 rfl (lv_at hl 0 rfl) ?_
    refine lv_lsub hx hb dX5_apart_14 ?_
    refine lv_lstore (lv' := [(4, .long (y - x)), (0, .long x), (2, .long y)]) hx hb dX5_apart_15 hl (by decide) rfl (fun ls hl => ?_)
    refine lv_lload hx hb dX5_apart_17 (lv_at hl 0 rfl) ?_
    refine lv_lconst (v := 0) hx hb dX5_apart_19 (by decide) ?_
    refine zz_lcmp_lt (tgt := 33) hC dX5_apart_20 dX5_apart_21 (by decide) (fun c2 => ?_) (fun c2 => ?_)
    · refine lv_ldc2 hx hb hown (hts _ zk_640) dX5_apart_33 ?_
      refine lv_goto (tgt := 41) hx hb dX5_apart_36 (by decide) ?_
      exact zz_lret hC hZ (⟨by show _ = _; rw [fn_co_apart, if_pos c1, if_pos c2], rfl⟩) (Nat.le_of_ble_eq_true rfl) (Nat.le_of_ble_eq_true rfl) dX5_apart_41
    · refine lv_lload hx hb dX5_apart_24 (lv_at hl 0 rfl) ?_
      refine lv_ldc2 hx hb hown (hts _ zk_640) dX5_apart_26 ?_
      refine zz_lcmp_le (tgt := 39) hC dX5_apart_29 dX5_apart_30 (by decide) (fun c3 => ?_) (fun c3 => ?_)
      · refine lv_lload hx hb dX5_apart_39 (lv_at hl 0 rfl) ?_
        exact zz_lret hC hZ (⟨by show _ = _; rw [fn_co_apart, if_pos c1, if_neg c2, if_pos c3], rfl⟩) (Nat.le_of_ble_eq_true rfl) (Nat.le_of_ble_eq_true rfl) dX5_apart_41
      · refine lv_ldc2 hx hb hown (hts _ zk_640) dX5_apart_33 ?_
        refine lv_goto (tgt := 41) hx hb dX5_apart_36 (by decide) ?_
        exact zz_lret hC hZ (⟨by show _ = _; rw [fn_co_apart, if_pos c1, if_neg c2, if_neg c3], rfl⟩) (Nat.le_of_ble_eq_true rfl) (Nat.le_of_ble_eq_true rfl) dX5_apart_41
  · refine lv_lload_n hx hb dX5_apart_6 rfl (lv_at hl 0 rfl) ?_
    refine lv_lload_n hx hb dX5_apart_7 rfl (lv_at hl 1 rfl) ?_
    refine lv_lsub hx hb dX5_apart_8 ?_
    refine lv_goto (tgt := 15) hx hb dX5_apart_9 (by decide) ?_
    refine lv_lstore (lv' := [(4, .long (x - y)), (0, .long x), (2, .long y)]) hx hb dX5_apart_15 hl (by decide) rfl (fun ls hl => ?_)
    refine lv_lload hx hb dX5_apart_17 (lv_at hl 0 rfl) ?_
    refine lv_lconst (v := 0) hx hb dX5_apart_19 (by decide) ?_
    refine zz_lcmp_lt (tgt := 33) hC dX5_apart_20 dX5_apart_21 (by decide) (fun c4 => ?_) (fun c4 => ?_)
    · refine lv_ldc2 hx hb hown (hts _ zk_640) dX5_apart_33 ?_
      refine lv_goto (tgt := 41) hx hb dX5_apart_36 (by decide) ?_
      exact zz_lret hC hZ (⟨by show _ = _; rw [fn_co_apart, if_neg c1, if_pos c4], rfl⟩) (Nat.le_of_ble_eq_true rfl) (Nat.le_of_ble_eq_true rfl) dX5_apart_41
    · refine lv_lload hx hb dX5_apart_24 (lv_at hl 0 rfl) ?_
      refine lv_ldc2 hx hb hown (hts _ zk_640) dX5_apart_26 ?_
      refine zz_lcmp_le (tgt := 39) hC dX5_apart_29 dX5_apart_30 (by decide) (fun c5 => ?_) (fun c5 => ?_)
      · refine lv_lload hx hb dX5_apart_39 (lv_at hl 0 rfl) ?_
        exact zz_lret hC hZ (⟨by show _ = _; rw [fn_co_apart, if_neg c1, if_neg c4, if_pos c5], rfl⟩) (Nat.le_of_ble_eq_true rfl) (Nat.le_of_ble_eq_true rfl) dX5_apart_41
      · refine lv_ldc2 hx hb hown (hts _ zk_640) dX5_apart_33 ?_
        refine lv_goto (tgt := 41) hx hb dX5_apart_36 (by decide) ?_
        exact zz_lret hC hZ (⟨by show _ = _; rw [fn_co_apart, if_neg c1, if_neg c4, if_neg c5], rfl⟩) (Nat.le_of_ble_eq_true rfl) (Nat.le_of_ble_eq_true rfl) dX5_apart_41
theorem dg_X5_amountOf_0 : (decode cX5_amountOf 0 = .ok (.aload_n 0, 1)) ∧ (decode cX5_amountOf 1 = .ok (.getfield 28, 3)) ∧ (decode cX5_amountOf 4 = .ok (.iload_n 1, 1)) ∧ (decode cX5_amountOf 5 = .ok (.laload, 1)) ∧ (decode cX5_amountOf 6 = .ok (.lstore_n 2, 1)) ∧ (decode cX5_amountOf 7 = .ok (.aload_n 0, 1)) ∧ (decode cX5_amountOf 8 = .ok (.getfield 9, 3)) ∧ (decode cX5_amountOf 11 = .ok (.iload_n 1, 1)) ∧ (decode cX5_amountOf 12 = .ok (.iaload, 1)) ∧ (decode cX5_amountOf 13 = .ok (.ifCond .ne 51, 3)) ∧ (decode cX5_amountOf 16 = .ok (.lload_n 2, 1)) ∧ (decode cX5_amountOf 17 = .ok (.aload_n 0, 1)) ∧ (decode cX5_amountOf 18 = .ok (.getfield 21, 3)) ∧ (decode cX5_amountOf 21 = .ok (.iload_n 1, 1)) ∧ (decode cX5_amountOf 22 = .ok (.laload, 1)) ∧ (decode cX5_amountOf 23 = .ok (.lcmp, 1)) := by decide +kernel
theorem dX5_amountOf_0 : decode cX5_amountOf 0 = .ok (.aload_n 0, 1) := dg_X5_amountOf_0.1
theorem dX5_amountOf_1 : decode cX5_amountOf 1 = .ok (.getfield 28, 3) := dg_X5_amountOf_0.2.1
theorem dX5_amountOf_4 : decode cX5_amountOf 4 = .ok (.iload_n 1, 1) := dg_X5_amountOf_0.2.2.1
theorem dX5_amountOf_5 : decode cX5_amountOf 5 = .ok (.laload, 1) := dg_X5_amountOf_0.2.2.2.1
theorem dX5_amountOf_6 : decode cX5_amountOf 6 = .ok (.lstore_n 2, 1) := dg_X5_amountOf_0.2.2.2.2.1
theorem dX5_amountOf_7 : decode cX5_amountOf 7 = .ok (.aload_n 0, 1) := dg_X5_amountOf_0.2.2.2.2.2.1
theorem dX5_amountOf_8 : decode cX5_amountOf 8 = .ok (.getfield 9, 3) := dg_X5_amountOf_0.2.2.2.2.2.2.1
theorem dX5_amountOf_11 : decode cX5_amountOf 11 = .ok (.iload_n 1, 1) := dg_X5_amountOf_0.2.2.2.2.2.2.2.1
theorem dX5_amountOf_12 : decode cX5_amountOf 12 = .ok (.iaload, 1) := dg_X5_amountOf_0.2.2.2.2.2.2.2.2.1
theorem dX5_amountOf_13 : decode cX5_amountOf 13 = .ok (.ifCond .ne 51, 3) := dg_X5_amountOf_0.2.2.2.2.2.2.2.2.2.1
theorem dX5_amountOf_16 : decode cX5_amountOf 16 = .ok (.lload_n 2, 1) := dg_X5_amountOf_0.2.2.2.2.2.2.2.2.2.2.1
theorem dX5_amountOf_17 : decode cX5_amountOf 17 = .ok (.aload_n 0, 1) := dg_X5_amountOf_0.2.2.2.2.2.2.2.2.2.2.2.1
theorem dX5_amountOf_18 : decode cX5_amountOf 18 = .ok (.getfield 21, 3) := dg_X5_amountOf_0.2.2.2.2.2.2.2.2.2.2.2.2.1
theorem dX5_amountOf_21 : decode cX5_amountOf 21 = .ok (.iload_n 1, 1) := dg_X5_amountOf_0.2.2.2.2.2.2.2.2.2.2.2.2.2.1
theorem dX5_amountOf_22 : decode cX5_amountOf 22 = .ok (.laload, 1) := dg_X5_amountOf_0.2.2.2.2.2.2.2.2.2.2.2.2.2.2.1
theorem dX5_amountOf_23 : decode cX5_amountOf 23 = .ok (.lcmp, 1) := dg_X5_amountOf_0.2.2.2.2.2.2.2.2.2.2.2.2.2.2.2
theorem dg_X5_amountOf_24 : (decode cX5_amountOf 24 = .ok (.ifCond .ge 14, 3)) ∧ (decode cX5_amountOf 27 = .ok (.aload_n 0, 1)) ∧ (decode cX5_amountOf 28 = .ok (.getfield 21, 3)) ∧ (decode cX5_amountOf 31 = .ok (.iload_n 1, 1)) ∧ (decode cX5_amountOf 32 = .ok (.laload, 1)) ∧ (decode cX5_amountOf 33 = .ok (.lload_n 2, 1)) ∧ (decode cX5_amountOf 34 = .ok (.invokestatic 46, 3)) ∧ (decode cX5_amountOf 37 = .ok (.lreturn, 1)) ∧ (decode cX5_amountOf 38 = .ok (.lload_n 2, 1)) ∧ (decode cX5_amountOf 39 = .ok (.aload_n 0, 1)) ∧ (decode cX5_amountOf 40 = .ok (.getfield 25, 3)) ∧ (decode cX5_amountOf 43 = .ok (.iload_n 1, 1)) ∧ (decode cX5_amountOf 44 = .ok (.laload, 1)) ∧ (decode cX5_amountOf 45 = .ok (.lcmp, 1)) ∧ (decode cX5_amountOf 46 = .ok (.ifCond .le 16, 3)) ∧ (decode cX5_amountOf 49 = .ok (.lload_n 2, 1)) := by decide +kernel
theorem dX5_amountOf_24 : decode cX5_amountOf 24 = .ok (.ifCond .ge 14, 3) := dg_X5_amountOf_24.1
theorem dX5_amountOf_27 : decode cX5_amountOf 27 = .ok (.aload_n 0, 1) := dg_X5_amountOf_24.2.1
theorem dX5_amountOf_28 : decode cX5_amountOf 28 = .ok (.getfield 21, 3) := dg_X5_amountOf_24.2.2.1
theorem dX5_amountOf_31 : decode cX5_amountOf 31 = .ok (.iload_n 1, 1) := dg_X5_amountOf_24.2.2.2.1
theorem dX5_amountOf_32 : decode cX5_amountOf 32 = .ok (.laload, 1) := dg_X5_amountOf_24.2.2.2.2.1
theorem dX5_amountOf_33 : decode cX5_amountOf 33 = .ok (.lload_n 2, 1) := dg_X5_amountOf_24.2.2.2.2.2.1
theorem dX5_amountOf_34 : decode cX5_amountOf 34 = .ok (.invokestatic 46, 3) := dg_X5_amountOf_24.2.2.2.2.2.2.1
theorem dX5_amountOf_37 : decode cX5_amountOf 37 = .ok (.lreturn, 1) := dg_X5_amountOf_24.2.2.2.2.2.2.2.1
theorem dX5_amountOf_38 : decode cX5_amountOf 38 = .ok (.lload_n 2, 1) := dg_X5_amountOf_24.2.2.2.2.2.2.2.2.1
theorem dX5_amountOf_39 : decode cX5_amountOf 39 = .ok (.aload_n 0, 1) := dg_X5_amountOf_24.2.2.2.2.2.2.2.2.2.1
theorem dX5_amountOf_40 : decode cX5_amountOf 40 = .ok (.getfield 25, 3) := dg_X5_amountOf_24.2.2.2.2.2.2.2.2.2.2.1
theorem dX5_amountOf_43 : decode cX5_amountOf 43 = .ok (.iload_n 1, 1) := dg_X5_amountOf_24.2.2.2.2.2.2.2.2.2.2.2.1
theorem dX5_amountOf_44 : decode cX5_amountOf 44 = .ok (.laload, 1) := dg_X5_amountOf_24.2.2.2.2.2.2.2.2.2.2.2.2.1
theorem dX5_amountOf_45 : decode cX5_amountOf 45 = .ok (.lcmp, 1) := dg_X5_amountOf_24.2.2.2.2.2.2.2.2.2.2.2.2.2.1
theorem dX5_amountOf_46 : decode cX5_amountOf 46 = .ok (.ifCond .le 16, 3) := dg_X5_amountOf_24.2.2.2.2.2.2.2.2.2.2.2.2.2.2.1
theorem dX5_amountOf_49 : decode cX5_amountOf 49 = .ok (.lload_n 2, 1) := dg_X5_amountOf_24.2.2.2.2.2.2.2.2.2.2.2.2.2.2.2
theorem dg_X5_amountOf_50 : (decode cX5_amountOf 50 = .ok (.aload_n 0, 1)) ∧ (decode cX5_amountOf 51 = .ok (.getfield 25, 3)) ∧ (decode cX5_amountOf 54 = .ok (.iload_n 1, 1)) ∧ (decode cX5_amountOf 55 = .ok (.laload, 1)) ∧ (decode cX5_amountOf 56 = .ok (.invokestatic 46, 3)) ∧ (decode cX5_amountOf 59 = .ok (.goto 4, 3)) ∧ (decode cX5_amountOf 62 = .ok (.lconst 0, 1)) ∧ (decode cX5_amountOf 63 = .ok (.lreturn, 1)) ∧ (decode cX5_amountOf 64 = .ok (.aload_n 0, 1)) ∧ (decode cX5_amountOf 65 = .ok (.getfield 9, 3)) ∧ (decode cX5_amountOf 68 = .ok (.iload_n 1, 1)) ∧ (decode cX5_amountOf 69 = .ok (.iaload, 1)) ∧ (decode cX5_amountOf 70 = .ok (.iconst 3, 1)) ∧ (decode cX5_amountOf 71 = .ok (.if_icmp .ne 16, 3)) ∧ (decode cX5_amountOf 74 = .ok (.lload_n 2, 1)) ∧ (decode cX5_amountOf 75 = .ok (.aload_n 0, 1)) := by decide +kernel
theorem dX5_amountOf_50 : decode cX5_amountOf 50 = .ok (.aload_n 0, 1) := dg_X5_amountOf_50.1
theorem dX5_amountOf_51 : decode cX5_amountOf 51 = .ok (.getfield 25, 3) := dg_X5_amountOf_50.2.1
theorem dX5_amountOf_54 : decode cX5_amountOf 54 = .ok (.iload_n 1, 1) := dg_X5_amountOf_50.2.2.1
theorem dX5_amountOf_55 : decode cX5_amountOf 55 = .ok (.laload, 1) := dg_X5_amountOf_50.2.2.2.1
theorem dX5_amountOf_56 : decode cX5_amountOf 56 = .ok (.invokestatic 46, 3) := dg_X5_amountOf_50.2.2.2.2.1
theorem dX5_amountOf_59 : decode cX5_amountOf 59 = .ok (.goto 4, 3) := dg_X5_amountOf_50.2.2.2.2.2.1
theorem dX5_amountOf_62 : decode cX5_amountOf 62 = .ok (.lconst 0, 1) := dg_X5_amountOf_50.2.2.2.2.2.2.1
theorem dX5_amountOf_63 : decode cX5_amountOf 63 = .ok (.lreturn, 1) := dg_X5_amountOf_50.2.2.2.2.2.2.2.1
theorem dX5_amountOf_64 : decode cX5_amountOf 64 = .ok (.aload_n 0, 1) := dg_X5_amountOf_50.2.2.2.2.2.2.2.2.1
theorem dX5_amountOf_65 : decode cX5_amountOf 65 = .ok (.getfield 9, 3) := dg_X5_amountOf_50.2.2.2.2.2.2.2.2.2.1
theorem dX5_amountOf_68 : decode cX5_amountOf 68 = .ok (.iload_n 1, 1) := dg_X5_amountOf_50.2.2.2.2.2.2.2.2.2.2.1
theorem dX5_amountOf_69 : decode cX5_amountOf 69 = .ok (.iaload, 1) := dg_X5_amountOf_50.2.2.2.2.2.2.2.2.2.2.2.1
theorem dX5_amountOf_70 : decode cX5_amountOf 70 = .ok (.iconst 3, 1) := dg_X5_amountOf_50.2.2.2.2.2.2.2.2.2.2.2.2.1
theorem dX5_amountOf_71 : decode cX5_amountOf 71 = .ok (.if_icmp .ne 16, 3) := dg_X5_amountOf_50.2.2.2.2.2.2.2.2.2.2.2.2.2.1
theorem dX5_amountOf_74 : decode cX5_amountOf 74 = .ok (.lload_n 2, 1) := dg_X5_amountOf_50.2.2.2.2.2.2.2.2.2.2.2.2.2.2.1
theorem dX5_amountOf_75 : decode cX5_amountOf 75 = .ok (.aload_n 0, 1) := dg_X5_amountOf_50.2.2.2.2.2.2.2.2.2.2.2.2.2.2.2
theorem dg_X5_amountOf_76 : (decode cX5_amountOf 76 = .ok (.getfield 25, 3)) ∧ (decode cX5_amountOf 79 = .ok (.iload_n 1, 1)) ∧ (decode cX5_amountOf 80 = .ok (.laload, 1)) ∧ (decode cX5_amountOf 81 = .ok (.invokestatic 46, 3)) ∧ (decode cX5_amountOf 84 = .ok (.goto 4, 3)) ∧ (decode cX5_amountOf 87 = .ok (.lload_n 2, 1)) ∧ (decode cX5_amountOf 88 = .ok (.lreturn, 1)) := by decide +kernel
theorem dX5_amountOf_76 : decode cX5_amountOf 76 = .ok (.getfield 25, 3) := dg_X5_amountOf_76.1
theorem dX5_amountOf_79 : decode cX5_amountOf 79 = .ok (.iload_n 1, 1) := dg_X5_amountOf_76.2.1
theorem dX5_amountOf_80 : decode cX5_amountOf 80 = .ok (.laload, 1) := dg_X5_amountOf_76.2.2.1
theorem dX5_amountOf_81 : decode cX5_amountOf 81 = .ok (.invokestatic 46, 3) := dg_X5_amountOf_76.2.2.2.1
theorem dX5_amountOf_84 : decode cX5_amountOf 84 = .ok (.goto 4, 3) := dg_X5_amountOf_76.2.2.2.2.1
theorem dX5_amountOf_87 : decode cX5_amountOf 87 = .ok (.lload_n 2, 1) := dg_X5_amountOf_76.2.2.2.2.2.1
theorem dX5_amountOf_88 : decode cX5_amountOf 88 = .ok (.lreturn, 1) := dg_X5_amountOf_76.2.2.2.2.2.2
theorem zk_177 : Cond.fieldLink RX5 28 RX5 "tallies" "[J" ∈ zz_w := zz_in (List.mem_append_right _ (List.mem_append_left _ (List.mem_of_getElem? (i := 177) (by decide +kernel)))) rfl
theorem zi_X5_a : ∀ w ∈ u_ws RX5 TX5 9, w ∈ lw_tbl := by decide +kernel
theorem zi_X5_b : ∀ w ∈ u_ws RX5 TX5 9, goodWord w = true := by decide +kernel
theorem zi_X5 : ∀ w ∈ u_ws RX5 TX5 9, w ∈ zz_w := fun w h => zz_in (zi_X5_a w h) (zi_X5_b w h)
theorem zf_X5_28 : zz_f RX5 28 4 7 := ⟨RX5, TX5, 9, rfl, zi_X5, by decide, zk_177⟩
theorem zk_172 : Cond.fieldLink RX5 9 RX5 "sorts" "[I" ∈ zz_w := zz_in (List.mem_append_right _ (List.mem_append_left _ (List.mem_of_getElem? (i := 172) (by decide +kernel)))) rfl
theorem zf_X5_9 : zz_f RX5 9 4 2 := ⟨RX5, TX5, 9, rfl, zi_X5, by decide, zk_172⟩
theorem zk_176 : Cond.fieldLink RX5 25 RX5 "highs" "[J" ∈ zz_w := zz_in (List.mem_append_right _ (List.mem_append_left _ (List.mem_of_getElem? (i := 176) (by decide +kernel)))) rfl
theorem zf_X5_25 : zz_f RX5 25 4 6 := ⟨RX5, TX5, 9, rfl, zi_X5, by decide, zk_176⟩
theorem zk_637 : Cond.methodLink RX5 46 yX5_apart ∈ zz_w := zz_in (List.mem_append_right _ (List.mem_append_right _ (List.mem_append_right _ (List.mem_append_left _ (List.mem_of_getElem? (i := 157) (by decide +kernel)))))) rfl
set_option maxRecDepth 20000 in
theorem zk_639 : Cond.code yX5_apart cX5_apart 6 (some .long) ∈ zz_w := zz_in (List.mem_append_right _ (List.mem_append_right _ (List.mem_append_right _ (List.mem_append_left _ (List.mem_of_getElem? (i := 159) (rfl)))))) rfl
theorem zk_6 : Cond.initialized RX5 ∈ zz_w := zz_in (List.mem_append_right _ (List.mem_append_left _ (List.mem_of_getElem? (i := 6) (by decide +kernel)))) rfl
theorem zk_638 : Cond.static yX5_apart ∈ zz_w := zz_in (List.mem_append_right _ (List.mem_append_right _ (List.mem_append_right _ (List.mem_append_left _ (List.mem_of_getElem? (i := 158) (by decide +kernel)))))) rfl
theorem zc_X5_46 : zz_cS RX5 46 yX5_apart cX5_apart 6 (some .long) 2 := ⟨⟨zk_637, zk_639, zk_6, by decide, by decide, by decide +kernel⟩, zk_638⟩
theorem zk_175 : Cond.fieldLink RX5 21 RX5 "lows" "[J" ∈ zz_w := zz_in (List.mem_append_right _ (List.mem_append_left _ (List.mem_of_getElem? (i := 175) (by decide +kernel)))) rfl
theorem zf_X5_21 : zz_f RX5 21 4 5 := ⟨RX5, TX5, 9, rfl, zi_X5, by decide, zk_175⟩
def fn_co_amountOf (sof : Nat → Int32) (lof : Nat → Int64) (hif : Nat → Int64) (taf : Nat → Int64) (d : Nat) : Int64 := (if (sof d) = 0 then (if (lof d) ≤ (taf d) then (if (taf d) ≤ (hif d) then 0 else (fn_co_apart (taf d) (hif d))) else (fn_co_apart (lof d) (taf d))) else (if (sof d) = 3 then (fn_co_apart (taf d) (hif d)) else taf d))
abbrev rm_co_amountOf : Room := { frames := 1, cells := 0, slots := 0, locals := 25 }
abbrev po_co_amountOf (g : zz_G) (ru : Nat) (st : Nat) (u_so : Nat) (u_ju : Nat) (u_we : Nat) (u_lo : Nat) (u_hi : Nat) (u_ta : Nat) (u_bo : Nat) (nr : Nat) (sof : Nat → Int32) (lof : Nat → Int64) (hif : Nat → Int64) (taf : Nat → Int64) (d : Nat) (h_r : d < 12) : Int64 → va_W → Prop := fun (r : Int64) (u : va_W) => r = fn_co_amountOf sof lof hif taf d ∧ u = [cw_k4 ru st (nI nr) u_so u_ju u_we u_lo u_hi u_ta u_bo, cw_i g u_so 12 sof, cw_l g u_lo 12 lof, cw_l g u_hi 12 hif, cw_l g u_ta 12 taf]
set_option maxHeartbeats 4000000 in
set_option maxRecDepth 100000 in
theorem co_amountOf (g : zz_G) (ru : Nat) (st : Nat) (u_so : Nat) (u_ju : Nat) (u_we : Nat) (u_lo : Nat) (u_hi : Nat) (u_ta : Nat) (u_bo : Nat) (nr : Nat) (sof : Nat → Int32) (lof : Nat → Int64) (hif : Nat → Int64) (taf : Nat → Int64) (d : Nat) (h_r : d < 12) : zz_L g yX5_amountOf (.code yX5_amountOf cX5_amountOf 4 (some .long)) rm_co_amountOf [.ref ru, .int (nI d)] [cw_k4 ru st (nI nr) u_so u_ju u_we u_lo u_hi u_ta u_bo, cw_i g u_so 12 sof, cw_l g u_lo 12 lof, cw_l g u_hi 12 hif, cw_l g u_ta 12 taf] (po_co_amountOf g ru st u_so u_ju u_we u_lo u_hi u_ta u_bo nr sof lof hif taf d h_r) := by
  refine zz_L.intro (own := RX5) (cc := cX5_amountOf) (nL := 4) (by decide) rfl (Nat.le_of_ble_eq_true rfl) ?_
  intro p l e s m args below meth c A H locs ls hC hnm hs hZ hl
  obtain ⟨hx, hb, hml, hown, hts, hr, hlocks, hK⟩ := id hC
  have hl : lv_has ls 4 [(0, .ref ru), (1, .int (nI d))] := hl
  have hZ : zz_Z g A s.heap [cw_k4 ru st (nI nr) u_so u_ju u_we u_lo u_hi u_ta u_bo, cw_i g u_so 12 sof, cw_l g u_lo 12 lof, cw_l g u_hi 12 hif, cw_l g u_ta 12 taf] H locs := hZ
  refine lv_aload_n hx hb dX5_amountOf_0 rfl (lv_at hl 0 rfl) ?_
  refine zz_get hC hZ 0 rfl zf_X5_28 rfl dX5_amountOf_1 ?_
  refine lv_iload_n hx hb dX5_amountOf_4 rfl (lv_at hl 1 rfl) ?_
  have bd1 : d < 12 := by omega
  refine zz_laldn hC hZ 4 rfl bd1 (by decide) dX5_amountOf_5 ?_
  refine lv_lstore_n (lv' := [(2, .long (taf d)), (0, .ref ru), (1, .int (nI d))]) hx hb dX5_amountOf_6 rfl hl (by decide) rfl (fun ls hl => ?_)
  refine lv_aload_n hx hb dX5_amountOf_7 rfl (lv_at hl 1 rfl) ?_
  refine zz_get hC hZ 0 rfl zf_X5_9 rfl dX5_amountOf_8 ?_
  refine lv_iload_n hx hb dX5_amountOf_11 rfl (lv_at hl 2 rfl) ?_
  refine zz_ialdn hC hZ 1 rfl bd1 (by decide) dX5_amountOf_12 ?_
  refine lv_if_ne (tgt := 64) hx hb dX5_amountOf_13 (by decide) (fun c2 => ?_) (fun c2 => ?_)
  · refine lv_aload_n hx hb dX5_amountOf_64 rfl (lv_at hl 1 rfl) ?_
    refine zz_get hC hZ 0 rfl zf_X5_9 rfl dX5_amountOf_65 ?_
    refine lv_iload_n hx hb dX5_amountOf_68 rfl (lv_at hl 2 rfl) ?_
    refine zz_ialdn hC hZ 1 rfl bd1 (by decide) dX5_amountOf_69 ?_
    refine lv_iconst (v := 3) hx hb dX5_amountOf_70 (by decide) ?_
    refine lv_icmp_ne (tgt := 87) hx hb dX5_amountOf_71 (by decide) (fun c3 => ?_) (fun c3 => ?_)
    · refine lv_lload_n hx hb dX5_amountOf_87 rfl (lv_at hl 0 rfl) ?_
      exact zz_lret hC hZ (⟨by show _ = _; rw [fn_co_amountOf, if_neg c2, if_neg c3], rfl⟩) (Nat.le_of_ble_eq_true rfl) (Nat.le_of_ble_eq_true rfl) dX5_amountOf_88
    · refine lv_lload_n hx hb dX5_amountOf_74 rfl (lv_at hl 0 rfl) ?_
      refine lv_aload_n hx hb dX5_amountOf_75 rfl (lv_at hl 1 rfl) ?_
      refine zz_get hC hZ 0 rfl zf_X5_25 rfl dX5_amountOf_76 ?_
      refine lv_iload_n hx hb dX5_amountOf_79 rfl (lv_at hl 2 rfl) ?_
      refine zz_laldn hC hZ 3 rfl bd1 (by decide) dX5_amountOf_80 ?_
      refine zz_lS (As := [.long (taf d), .long (hif d)]) (wc := []) (wr := [cw_k4 ru st (nI nr) u_so u_ju u_we u_lo u_hi u_ta u_bo, cw_i g u_so 12 sof, cw_l g u_lo 12 lof, cw_l g u_hi 12 hif, cw_l g u_ta 12 taf]) (rest := []) hC hZ hs hl zc_X5_46 (co_apart g (taf d) (hif d)) [] [0, 1, 2, 3, 4] rfl rfl (by decide +kernel) rfl rfl (Nat.le_of_ble_eq_true rfl) ⟨⟨Nat.le_of_ble_eq_true rfl, Nat.le_of_ble_eq_true rfl⟩, Nat.le_of_ble_eq_true rfl, Nat.le_of_ble_eq_true rfl⟩ dX5_amountOf_81 (fun r4 u5 H locs hp hZ => ?_)
      obtain ⟨rfl, rfl⟩ := hp
      have hZ : zz_Z g A s.heap [cw_k4 ru st (nI nr) u_so u_ju u_we u_lo u_hi u_ta u_bo, cw_i g u_so 12 sof, cw_l g u_lo 12 lof, cw_l g u_hi 12 hif, cw_l g u_ta 12 taf] H locs := hZ
      refine lv_goto (tgt := 88) hx hb dX5_amountOf_84 (by decide) ?_
      exact zz_lret hC hZ (⟨by show _ = _; rw [fn_co_amountOf, if_neg c2, if_pos c3], rfl⟩) (Nat.le_of_ble_eq_true rfl) (Nat.le_of_ble_eq_true rfl) dX5_amountOf_88
  · refine lv_lload_n hx hb dX5_amountOf_16 rfl (lv_at hl 0 rfl) ?_
    refine lv_aload_n hx hb dX5_amountOf_17 rfl (lv_at hl 1 rfl) ?_
    refine zz_get hC hZ 0 rfl zf_X5_21 rfl dX5_amountOf_18 ?_
    refine lv_iload_n hx hb dX5_amountOf_21 rfl (lv_at hl 2 rfl) ?_
    refine zz_laldn hC hZ 2 rfl bd1 (by decide) dX5_amountOf_22 ?_
    refine zz_lcmp_ge (tgt := 38) hC dX5_amountOf_23 dX5_amountOf_24 (by decide) (fun c6 => ?_) (fun c6 => ?_)
    · refine lv_lload_n hx hb dX5_amountOf_38 rfl (lv_at hl 0 rfl) ?_
      refine lv_aload_n hx hb dX5_amountOf_39 rfl (lv_at hl 1 rfl) ?_
      refine zz_get hC hZ 0 rfl zf_X5_25 rfl dX5_amountOf_40 ?_
      refine lv_iload_n hx hb dX5_amountOf_43 rfl (lv_at hl 2 rfl) ?_
      refine zz_laldn hC hZ 3 rfl bd1 (by decide) dX5_amountOf_44 ?_
      refine zz_lcmp_le (tgt := 62) hC dX5_amountOf_45 dX5_amountOf_46 (by decide) (fun c7 => ?_) (fun c7 => ?_)
      · refine lv_lconst (v := 0) hx hb dX5_amountOf_62 (by decide) ?_
        exact zz_lret hC hZ (⟨by show _ = _; rw [fn_co_amountOf, if_pos c2, if_pos c6, if_pos c7], rfl⟩) (Nat.le_of_ble_eq_true rfl) (Nat.le_of_ble_eq_true rfl) dX5_amountOf_63
      · refine lv_lload_n hx hb dX5_amountOf_49 rfl (lv_at hl 0 rfl) ?_
        refine lv_aload_n hx hb dX5_amountOf_50 rfl (lv_at hl 1 rfl) ?_
        refine zz_get hC hZ 0 rfl zf_X5_25 rfl dX5_amountOf_51 ?_
        refine lv_iload_n hx hb dX5_amountOf_54 rfl (lv_at hl 2 rfl) ?_
        refine zz_laldn hC hZ 3 rfl bd1 (by decide) dX5_amountOf_55 ?_
        refine zz_lS (As := [.long (taf d), .long (hif d)]) (wc := []) (wr := [cw_k4 ru st (nI nr) u_so u_ju u_we u_lo u_hi u_ta u_bo, cw_i g u_so 12 sof, cw_l g u_lo 12 lof, cw_l g u_hi 12 hif, cw_l g u_ta 12 taf]) (rest := []) hC hZ hs hl zc_X5_46 (co_apart g (taf d) (hif d)) [] [0, 1, 2, 3, 4] rfl rfl (by decide +kernel) rfl rfl (Nat.le_of_ble_eq_true rfl) ⟨⟨Nat.le_of_ble_eq_true rfl, Nat.le_of_ble_eq_true rfl⟩, Nat.le_of_ble_eq_true rfl, Nat.le_of_ble_eq_true rfl⟩ dX5_amountOf_56 (fun r8 u9 H locs hp hZ => ?_)
        obtain ⟨rfl, rfl⟩ := hp
        have hZ : zz_Z g A s.heap [cw_k4 ru st (nI nr) u_so u_ju u_we u_lo u_hi u_ta u_bo, cw_i g u_so 12 sof, cw_l g u_lo 12 lof, cw_l g u_hi 12 hif, cw_l g u_ta 12 taf] H locs := hZ
        refine lv_goto (tgt := 63) hx hb dX5_amountOf_59 (by decide) ?_
        exact zz_lret hC hZ (⟨by show _ = _; rw [fn_co_amountOf, if_pos c2, if_pos c6, if_neg c7], rfl⟩) (Nat.le_of_ble_eq_true rfl) (Nat.le_of_ble_eq_true rfl) dX5_amountOf_63
    · refine lv_aload_n hx hb dX5_amountOf_27 rfl (lv_at hl 1 rfl) ?_
      refine zz_get hC hZ 0 rfl zf_X5_21 rfl dX5_amountOf_28 ?_
      refine lv_iload_n hx hb dX5_amountOf_31 rfl (lv_at hl 2 rfl) ?_
      refine zz_laldn hC hZ 2 rfl bd1 (by decide) dX5_amountOf_32 ?_
      refine lv_lload_n hx hb dX5_amountOf_33 rfl (lv_at hl 0 rfl) ?_
      refine zz_lS (As := [.long (lof d), .long (taf d)]) (wc := []) (wr := [cw_k4 ru st (nI nr) u_so u_ju u_we u_lo u_hi u_ta u_bo, cw_i g u_so 12 sof, cw_l g u_lo 12 lof, cw_l g u_hi 12 hif, cw_l g u_ta 12 taf]) (rest := []) hC hZ hs hl zc_X5_46 (co_apart g (lof d) (taf d)) [] [0, 1, 2, 3, 4] rfl rfl (by decide +kernel) rfl rfl (Nat.le_of_ble_eq_true rfl) ⟨⟨Nat.le_of_ble_eq_true rfl, Nat.le_of_ble_eq_true rfl⟩, Nat.le_of_ble_eq_true rfl, Nat.le_of_ble_eq_true rfl⟩ dX5_amountOf_34 (fun r10 u11 H locs hp hZ => ?_)
      obtain ⟨rfl, rfl⟩ := hp
      have hZ : zz_Z g A s.heap [cw_k4 ru st (nI nr) u_so u_ju u_we u_lo u_hi u_ta u_bo, cw_i g u_so 12 sof, cw_l g u_lo 12 lof, cw_l g u_hi 12 hif, cw_l g u_ta 12 taf] H locs := hZ
      exact zz_lret hC hZ (⟨by show _ = _; rw [fn_co_amountOf, if_pos c2, if_neg c6], rfl⟩) (Nat.le_of_ble_eq_true rfl) (Nat.le_of_ble_eq_true rfl) dX5_amountOf_37
/-- the sum of all rules' amounts, each by its weight -/
def sp_tot (so we : Nat → Int32) (lo hi ta : Nat → Int64) : Nat → Nat → Int64 → Int64
  | 0, _, w => w
  | m + 1, i, w => sp_tot so we lo hi ta m (i + 1) (w + (fn_co_amountOf so lo hi ta i) * ((we i).toInt64))
theorem dg_X5_total_0 : (decode cX5_total 0 = .ok (.lconst 0, 1)) ∧ (decode cX5_total 1 = .ok (.lstore_n 1, 1)) ∧ (decode cX5_total 2 = .ok (.iconst 0, 1)) ∧ (decode cX5_total 3 = .ok (.istore_n 3, 1)) ∧ (decode cX5_total 4 = .ok (.iload_n 3, 1)) ∧ (decode cX5_total 5 = .ok (.aload_n 0, 1)) ∧ (decode cX5_total 6 = .ok (.getfield 38, 3)) ∧ (decode cX5_total 9 = .ok (.if_icmp .ge 25, 3)) ∧ (decode cX5_total 12 = .ok (.lload_n 1, 1)) ∧ (decode cX5_total 13 = .ok (.aload_n 0, 1)) ∧ (decode cX5_total 14 = .ok (.iload_n 3, 1)) ∧ (decode cX5_total 15 = .ok (.invokevirtual 42, 3)) ∧ (decode cX5_total 18 = .ok (.aload_n 0, 1)) ∧ (decode cX5_total 19 = .ok (.getfield 18, 3)) ∧ (decode cX5_total 22 = .ok (.iload_n 3, 1)) ∧ (decode cX5_total 23 = .ok (.iaload, 1)) := by decide +kernel
theorem dX5_total_0 : decode cX5_total 0 = .ok (.lconst 0, 1) := dg_X5_total_0.1
theorem dX5_total_1 : decode cX5_total 1 = .ok (.lstore_n 1, 1) := dg_X5_total_0.2.1
theorem dX5_total_2 : decode cX5_total 2 = .ok (.iconst 0, 1) := dg_X5_total_0.2.2.1
theorem dX5_total_3 : decode cX5_total 3 = .ok (.istore_n 3, 1) := dg_X5_total_0.2.2.2.1
theorem dX5_total_4 : decode cX5_total 4 = .ok (.iload_n 3, 1) := dg_X5_total_0.2.2.2.2.1
theorem dX5_total_5 : decode cX5_total 5 = .ok (.aload_n 0, 1) := dg_X5_total_0.2.2.2.2.2.1
theorem dX5_total_6 : decode cX5_total 6 = .ok (.getfield 38, 3) := dg_X5_total_0.2.2.2.2.2.2.1
theorem dX5_total_9 : decode cX5_total 9 = .ok (.if_icmp .ge 25, 3) := dg_X5_total_0.2.2.2.2.2.2.2.1
theorem dX5_total_12 : decode cX5_total 12 = .ok (.lload_n 1, 1) := dg_X5_total_0.2.2.2.2.2.2.2.2.1
theorem dX5_total_13 : decode cX5_total 13 = .ok (.aload_n 0, 1) := dg_X5_total_0.2.2.2.2.2.2.2.2.2.1
theorem dX5_total_14 : decode cX5_total 14 = .ok (.iload_n 3, 1) := dg_X5_total_0.2.2.2.2.2.2.2.2.2.2.1
theorem dX5_total_15 : decode cX5_total 15 = .ok (.invokevirtual 42, 3) := dg_X5_total_0.2.2.2.2.2.2.2.2.2.2.2.1
theorem dX5_total_18 : decode cX5_total 18 = .ok (.aload_n 0, 1) := dg_X5_total_0.2.2.2.2.2.2.2.2.2.2.2.2.1
theorem dX5_total_19 : decode cX5_total 19 = .ok (.getfield 18, 3) := dg_X5_total_0.2.2.2.2.2.2.2.2.2.2.2.2.2.1
theorem dX5_total_22 : decode cX5_total 22 = .ok (.iload_n 3, 1) := dg_X5_total_0.2.2.2.2.2.2.2.2.2.2.2.2.2.2.1
theorem dX5_total_23 : decode cX5_total 23 = .ok (.iaload, 1) := dg_X5_total_0.2.2.2.2.2.2.2.2.2.2.2.2.2.2.2
theorem dg_X5_total_24 : (decode cX5_total 24 = .ok (.i2l, 1)) ∧ (decode cX5_total 25 = .ok (.lmul, 1)) ∧ (decode cX5_total 26 = .ok (.ladd, 1)) ∧ (decode cX5_total 27 = .ok (.lstore_n 1, 1)) ∧ (decode cX5_total 28 = .ok (.iinc 3 1, 3)) ∧ (decode cX5_total 31 = .ok (.goto (-27), 3)) ∧ (decode cX5_total 34 = .ok (.lload_n 1, 1)) ∧ (decode cX5_total 35 = .ok (.lreturn, 1)) := by decide +kernel
theorem dX5_total_24 : decode cX5_total 24 = .ok (.i2l, 1) := dg_X5_total_24.1
theorem dX5_total_25 : decode cX5_total 25 = .ok (.lmul, 1) := dg_X5_total_24.2.1
theorem dX5_total_26 : decode cX5_total 26 = .ok (.ladd, 1) := dg_X5_total_24.2.2.1
theorem dX5_total_27 : decode cX5_total 27 = .ok (.lstore_n 1, 1) := dg_X5_total_24.2.2.2.1
theorem dX5_total_28 : decode cX5_total 28 = .ok (.iinc 3 1, 3) := dg_X5_total_24.2.2.2.2.1
theorem dX5_total_31 : decode cX5_total 31 = .ok (.goto (-27), 3) := dg_X5_total_24.2.2.2.2.2.1
theorem dX5_total_34 : decode cX5_total 34 = .ok (.lload_n 1, 1) := dg_X5_total_24.2.2.2.2.2.2.1
theorem dX5_total_35 : decode cX5_total 35 = .ok (.lreturn, 1) := dg_X5_total_24.2.2.2.2.2.2.2
theorem zk_170 : Cond.fieldLink RX5 38 RX5 "made" "I" ∈ zz_w := zz_in (List.mem_append_right _ (List.mem_append_left _ (List.mem_of_getElem? (i := 170) (by decide +kernel)))) rfl
theorem zf_X5_38 : zz_f RX5 38 4 1 := ⟨RX5, TX5, 9, rfl, zi_X5, by decide, zk_170⟩
theorem zk_661 : Cond.methodLink RX5 42 yX5_amountOf ∈ zz_w := zz_in (List.mem_append_right _ (List.mem_append_right _ (List.mem_append_right _ (List.mem_append_left _ (List.mem_of_getElem? (i := 181) (by decide +kernel)))))) rfl
set_option maxRecDepth 20000 in
theorem zk_647 : Cond.code yX5_amountOf cX5_amountOf 4 (some .long) ∈ zz_w := zz_in (List.mem_append_right _ (List.mem_append_right _ (List.mem_append_right _ (List.mem_append_left _ (List.mem_of_getElem? (i := 167) (rfl)))))) rfl
theorem zk_645 : Cond.instanceMethod yX5_amountOf ∈ zz_w := zz_in (List.mem_append_right _ (List.mem_append_right _ (List.mem_append_right _ (List.mem_append_left _ (List.mem_of_getElem? (i := 165) (by decide +kernel)))))) rfl
theorem zk_646 : Cond.selects RX5 yX5_amountOf yX5_amountOf ∈ zz_w := zz_in (List.mem_append_right _ (List.mem_append_right _ (List.mem_append_right _ (List.mem_append_left _ (List.mem_of_getElem? (i := 166) (by decide +kernel)))))) rfl
theorem zc_X5_42 : zz_cV RX5 42 yX5_amountOf cX5_amountOf 4 (some .long) 1 := ⟨⟨zk_661, zk_647, zk_6, by decide, by decide, by decide +kernel⟩, zk_645, zk_646⟩
theorem zk_174 : Cond.fieldLink RX5 18 RX5 "weights" "[I" ∈ zz_w := zz_in (List.mem_append_right _ (List.mem_append_left _ (List.mem_of_getElem? (i := 174) (by decide +kernel)))) rfl
theorem zf_X5_18 : zz_f RX5 18 4 4 := ⟨RX5, TX5, 9, rfl, zi_X5, by decide, zk_174⟩
abbrev rm_co_total : Room := { frames := 2, cells := 0, slots := 0, locals := 48 }
abbrev po_co_total (g : zz_G) (ru : Nat) (st : Nat) (u_so : Nat) (u_ju : Nat) (u_we : Nat) (u_lo : Nat) (u_hi : Nat) (u_ta : Nat) (u_bo : Nat) (nr : Nat) (sof : Nat → Int32) (wef : Nat → Int32) (lof : Nat → Int64) (hif : Nat → Int64) (taf : Nat → Int64) (h_r : nr ≤ 12) : Int64 → va_W → Prop := fun (r : Int64) (u : va_W) => (r = sp_tot sof wef lof hif taf nr 0 0) ∧ u = [cw_k4 ru st (nI nr) u_so u_ju u_we u_lo u_hi u_ta u_bo, cw_i g u_so 12 sof, cw_i g u_we 12 wef, cw_l g u_lo 12 lof, cw_l g u_hi 12 hif, cw_l g u_ta 12 taf]
set_option maxHeartbeats 4000000 in
set_option maxRecDepth 100000 in
theorem co_total (g : zz_G) (ru : Nat) (st : Nat) (u_so : Nat) (u_ju : Nat) (u_we : Nat) (u_lo : Nat) (u_hi : Nat) (u_ta : Nat) (u_bo : Nat) (nr : Nat) (sof : Nat → Int32) (wef : Nat → Int32) (lof : Nat → Int64) (hif : Nat → Int64) (taf : Nat → Int64) (h_r : nr ≤ 12) : zz_L g yX5_total (.code yX5_total cX5_total 4 (some .long)) rm_co_total [.ref ru] [cw_k4 ru st (nI nr) u_so u_ju u_we u_lo u_hi u_ta u_bo, cw_i g u_so 12 sof, cw_i g u_we 12 wef, cw_l g u_lo 12 lof, cw_l g u_hi 12 hif, cw_l g u_ta 12 taf] (po_co_total g ru st u_so u_ju u_we u_lo u_hi u_ta u_bo nr sof wef lof hif taf h_r) := by
  refine zz_L.intro (own := RX5) (cc := cX5_total) (nL := 4) (by decide) rfl (Nat.le_of_ble_eq_true rfl) ?_
  intro p l e s m args below meth c A H locs ls hC hnm hs hZ hl
  obtain ⟨hx, hb, hml, hown, hts, hr, hlocks, hK⟩ := id hC
  have hl : lv_has ls 4 [(0, .ref ru)] := hl
  have hZ : zz_Z g A s.heap [cw_k4 ru st (nI nr) u_so u_ju u_we u_lo u_hi u_ta u_bo, cw_i g u_so 12 sof, cw_i g u_we 12 wef, cw_l g u_lo 12 lof, cw_l g u_hi 12 hif, cw_l g u_ta 12 taf] H locs := hZ
  refine lv_lconst (v := 0) hx hb dX5_total_0 (by decide) ?_
  refine lv_lstore_n (lv' := [(1, .long 0), (0, .ref ru)]) hx hb dX5_total_1 rfl hl (by decide) rfl (fun ls hl => ?_)
  refine lv_iconst (v := 0) hx hb dX5_total_2 (by decide) ?_
  refine lv_istore_n (lv' := [(3, .int 0), (1, .long 0), (0, .ref ru)]) hx hb dX5_total_3 rfl hl (by decide) rfl (fun ls hl => ?_)
  have LP1 : ∀ (N : Nat) (i : Nat) (w : Int64) (H : Heap) (locs : List Loc) (ls : Array Slot), (i ≤ nr) → (sp_tot sof wef lof hif taf nr 0 0 = sp_tot sof wef lof hif taf (nr - i) i w) → (nr - i) < N → zz_Z g A s.heap [cw_k4 ru st (nI nr) u_so u_ju u_we u_lo u_hi u_ta u_bo, cw_i g u_so 12 sof, cw_i g u_we 12 wef, cw_l g u_lo 12 lof, cw_l g u_hi 12 hif, cw_l g u_ta 12 taf] H locs → lv_has ls 4 [(3, .int (nI i)), (1, .long w), (0, .ref ru)] → W p l e rm_co_total s m args below meth c H locs 0 0 (zz_QL below g args s A rm_co_total.cells rm_co_total.slots (po_co_total g ru st u_so u_ju u_we u_lo u_hi u_ta u_bo nr sof wef lof hif taf h_r)) (F0 m 4 ls []) := by
    intro N
    induction N with
    | zero =>
      intro i w H locs ls hi he hN
      exact absurd hN (Nat.not_lt_zero _)
    | succ N ih =>
      intro i w H locs ls hi he hN hZ hl
      refine lv_iload_n hx hb dX5_total_4 rfl (lv_at hl 0 rfl) ?_
      refine lv_aload_n hx hb dX5_total_5 rfl (lv_at hl 2 rfl) ?_
      refine zz_get hC hZ 0 rfl zf_X5_38 rfl dX5_total_6 ?_
      have bd3 : nr < 2 ^ 31 := by omega
      have bd4 : i < 2 ^ 31 := by omega
      refine lv_icmp_ge (tgt := 34) hx hb dX5_total_9 (by decide) (fun c2 => ?_) (fun c2 => ?_)
      · have nc2 : nr ≤ i := (nI_leI bd3 bd4).mp (show nI (nr) ≤ nI (i) from c2)
        refine lv_lload_n hx hb dX5_total_34 rfl (lv_at hl 1 rfl) ?_
        exact zz_lret hC hZ (⟨by rw [he, show nr - i = 0 by omega, sp_tot], rfl⟩) (Nat.le_of_ble_eq_true rfl) (Nat.le_of_ble_eq_true rfl) dX5_total_35
      · have nc2 : ¬ nr ≤ i := fun zq => c2 (show nI (nr) ≤ nI (i) from (nI_leI bd3 bd4).mpr zq)
        refine lv_lload_n hx hb dX5_total_12 rfl (lv_at hl 1 rfl) ?_
        refine lv_aload_n hx hb dX5_total_13 rfl (lv_at hl 2 rfl) ?_
        refine lv_iload_n hx hb dX5_total_14 rfl (lv_at hl 0 rfl) ?_
        refine zz_lV (As := [.int (nI i)]) (wc := [cw_k4 ru st (nI nr) u_so u_ju u_we u_lo u_hi u_ta u_bo, cw_i g u_so 12 sof, cw_l g u_lo 12 lof, cw_l g u_hi 12 hif, cw_l g u_ta 12 taf]) (wr := [cw_i g u_we 12 wef]) (rest := [.long w]) hC hZ hs hl zc_X5_42 (co_amountOf g ru st u_so u_ju u_we u_lo u_hi u_ta u_bo nr sof lof hif taf i (by omega)) [0, 1, 3, 4, 5] [2] rfl rfl (by decide +kernel) (ci := 4) (q0 := 0) rfl rfl rfl rfl (Nat.le_of_ble_eq_true rfl) ⟨⟨Nat.le_of_ble_eq_true rfl, Nat.le_of_ble_eq_true rfl⟩, Nat.le_of_ble_eq_true rfl, Nat.le_of_ble_eq_true rfl⟩ dX5_total_15 (fun r5 u6 H locs hp hZ => ?_)
        obtain ⟨rfl, rfl⟩ := hp
        have hZ : zz_Z g A s.heap [cw_i g u_we 12 wef, cw_k4 ru st (nI nr) u_so u_ju u_we u_lo u_hi u_ta u_bo, cw_i g u_so 12 sof, cw_l g u_lo 12 lof, cw_l g u_hi 12 hif, cw_l g u_ta 12 taf] H locs := hZ
        refine lv_aload_n hx hb dX5_total_18 rfl (lv_at hl 2 rfl) ?_
        refine zz_get hC hZ 1 rfl zf_X5_18 rfl dX5_total_19 ?_
        refine lv_iload_n hx hb dX5_total_22 rfl (lv_at hl 0 rfl) ?_
        have bd7 : i < 12 := by omega
        refine zz_ialdn hC hZ 0 rfl bd7 (by decide) dX5_total_23 ?_
        refine lv_i2l hx hb dX5_total_24 rfl ?_
        refine lv_lmul hx hb dX5_total_25 ?_
        refine lv_ladd hx hb dX5_total_26 ?_
        refine lv_lstore_n (lv' := [(1, .long (w + ((fn_co_amountOf sof lof hif taf i) * ((wef i).toInt64)))), (3, .int (nI i)), (0, .ref ru)]) hx hb dX5_total_27 rfl hl (by decide) rfl (fun ls hl => ?_)
        refine lv_iinc (v := nI (i + 1)) (lv' := [(3, .int (nI (i + 1))), (1, .long (w + ((fn_co_amountOf sof lof hif taf i) * ((wef i).toInt64)))), (0, .ref ru)]) hx hb dX5_total_28 hl (k := 1) rfl (nI_1 _) (by decide) rfl (fun ls hl => ?_)
        refine lv_goto (tgt := 4) hx hb dX5_total_31 (by decide) ?_
        exact ih (i + 1) (w + ((fn_co_amountOf sof lof hif taf i) * ((wef i).toInt64))) H locs ls (by omega) (by rw [he, show nr - i = (nr - (i + 1)) + 1 by omega, sp_tot]) (by omega) (hZ.sub [1, 2, 0, 3, 4, 5] (by decide +kernel) rfl) (lv_sub hl [0, 1, 2] rfl)
  exact LP1 _ 0 0 H locs ls (by omega) (rfl) (Nat.lt_succ_self _) hZ (lv_sub hl [0, 1, 2] rfl)
/-- how many elements are like a value -/
def sp_ali (k : Int32) (x : Int64) (bt : Nat → Int64) : Nat → Nat → Int64 → Int64
  | 0, _, w => w
  | m + 1, i, w => sp_ali k x bt m (i + 1) (if fn_co_alike k x (bt i) = 0 then w else w + 1)
theorem dg_X5_alikeIn_0 : (decode cX5_alikeIn 0 = .ok (.lconst 0, 1)) ∧ (decode cX5_alikeIn 1 = .ok (.lstore 6, 2)) ∧ (decode cX5_alikeIn 3 = .ok (.iload 4, 2)) ∧ (decode cX5_alikeIn 5 = .ok (.istore 8, 2)) ∧ (decode cX5_alikeIn 7 = .ok (.iload 8, 2)) ∧ (decode cX5_alikeIn 9 = .ok (.iload 5, 2)) ∧ (decode cX5_alikeIn 11 = .ok (.if_icmp .ge 33, 3)) ∧ (decode cX5_alikeIn 14 = .ok (.iload_n 1, 1)) ∧ (decode cX5_alikeIn 15 = .ok (.lload_n 2, 1)) ∧ (decode cX5_alikeIn 16 = .ok (.aload_n 0, 1)) ∧ (decode cX5_alikeIn 17 = .ok (.getfield 34, 3)) ∧ (decode cX5_alikeIn 20 = .ok (.getfield 76, 3)) ∧ (decode cX5_alikeIn 23 = .ok (.iload 8, 2)) ∧ (decode cX5_alikeIn 25 = .ok (.laload, 1)) ∧ (decode cX5_alikeIn 26 = .ok (.invokestatic 92, 3)) ∧ (decode cX5_alikeIn 29 = .ok (.ifCond .eq 9, 3)) := by decide +kernel
theorem dX5_alikeIn_0 : decode cX5_alikeIn 0 = .ok (.lconst 0, 1) := dg_X5_alikeIn_0.1
theorem dX5_alikeIn_1 : decode cX5_alikeIn 1 = .ok (.lstore 6, 2) := dg_X5_alikeIn_0.2.1
theorem dX5_alikeIn_3 : decode cX5_alikeIn 3 = .ok (.iload 4, 2) := dg_X5_alikeIn_0.2.2.1
theorem dX5_alikeIn_5 : decode cX5_alikeIn 5 = .ok (.istore 8, 2) := dg_X5_alikeIn_0.2.2.2.1
theorem dX5_alikeIn_7 : decode cX5_alikeIn 7 = .ok (.iload 8, 2) := dg_X5_alikeIn_0.2.2.2.2.1
theorem dX5_alikeIn_9 : decode cX5_alikeIn 9 = .ok (.iload 5, 2) := dg_X5_alikeIn_0.2.2.2.2.2.1
theorem dX5_alikeIn_11 : decode cX5_alikeIn 11 = .ok (.if_icmp .ge 33, 3) := dg_X5_alikeIn_0.2.2.2.2.2.2.1
theorem dX5_alikeIn_14 : decode cX5_alikeIn 14 = .ok (.iload_n 1, 1) := dg_X5_alikeIn_0.2.2.2.2.2.2.2.1
theorem dX5_alikeIn_15 : decode cX5_alikeIn 15 = .ok (.lload_n 2, 1) := dg_X5_alikeIn_0.2.2.2.2.2.2.2.2.1
theorem dX5_alikeIn_16 : decode cX5_alikeIn 16 = .ok (.aload_n 0, 1) := dg_X5_alikeIn_0.2.2.2.2.2.2.2.2.2.1
theorem dX5_alikeIn_17 : decode cX5_alikeIn 17 = .ok (.getfield 34, 3) := dg_X5_alikeIn_0.2.2.2.2.2.2.2.2.2.2.1
theorem dX5_alikeIn_20 : decode cX5_alikeIn 20 = .ok (.getfield 76, 3) := dg_X5_alikeIn_0.2.2.2.2.2.2.2.2.2.2.2.1
theorem dX5_alikeIn_23 : decode cX5_alikeIn 23 = .ok (.iload 8, 2) := dg_X5_alikeIn_0.2.2.2.2.2.2.2.2.2.2.2.2.1
theorem dX5_alikeIn_25 : decode cX5_alikeIn 25 = .ok (.laload, 1) := dg_X5_alikeIn_0.2.2.2.2.2.2.2.2.2.2.2.2.2.1
theorem dX5_alikeIn_26 : decode cX5_alikeIn 26 = .ok (.invokestatic 92, 3) := dg_X5_alikeIn_0.2.2.2.2.2.2.2.2.2.2.2.2.2.2.1
theorem dX5_alikeIn_29 : decode cX5_alikeIn 29 = .ok (.ifCond .eq 9, 3) := dg_X5_alikeIn_0.2.2.2.2.2.2.2.2.2.2.2.2.2.2.2
theorem dg_X5_alikeIn_32 : (decode cX5_alikeIn 32 = .ok (.lload 6, 2)) ∧ (decode cX5_alikeIn 34 = .ok (.lconst 1, 1)) ∧ (decode cX5_alikeIn 35 = .ok (.ladd, 1)) ∧ (decode cX5_alikeIn 36 = .ok (.lstore 6, 2)) ∧ (decode cX5_alikeIn 38 = .ok (.iinc 8 1, 3)) ∧ (decode cX5_alikeIn 41 = .ok (.goto (-34), 3)) ∧ (decode cX5_alikeIn 44 = .ok (.lload 6, 2)) ∧ (decode cX5_alikeIn 46 = .ok (.lreturn, 1)) := by decide +kernel
theorem dX5_alikeIn_32 : decode cX5_alikeIn 32 = .ok (.lload 6, 2) := dg_X5_alikeIn_32.1
theorem dX5_alikeIn_34 : decode cX5_alikeIn 34 = .ok (.lconst 1, 1) := dg_X5_alikeIn_32.2.1
theorem dX5_alikeIn_35 : decode cX5_alikeIn 35 = .ok (.ladd, 1) := dg_X5_alikeIn_32.2.2.1
theorem dX5_alikeIn_36 : decode cX5_alikeIn 36 = .ok (.lstore 6, 2) := dg_X5_alikeIn_32.2.2.2.1
theorem dX5_alikeIn_38 : decode cX5_alikeIn 38 = .ok (.iinc 8 1, 3) := dg_X5_alikeIn_32.2.2.2.2.1
theorem dX5_alikeIn_41 : decode cX5_alikeIn 41 = .ok (.goto (-34), 3) := dg_X5_alikeIn_32.2.2.2.2.2.1
theorem dX5_alikeIn_44 : decode cX5_alikeIn 44 = .ok (.lload 6, 2) := dg_X5_alikeIn_32.2.2.2.2.2.2.1
theorem dX5_alikeIn_46 : decode cX5_alikeIn 46 = .ok (.lreturn, 1) := dg_X5_alikeIn_32.2.2.2.2.2.2.2
theorem zk_169 : Cond.fieldLink RX5 34 RX5 "store" "LDecisionArrays$Store;" ∈ zz_w := zz_in (List.mem_append_right _ (List.mem_append_left _ (List.mem_of_getElem? (i := 169) (by decide +kernel)))) rfl
theorem zf_X5_34 : zz_f RX5 34 4 0 := ⟨RX5, TX5, 9, rfl, zi_X5, by decide, zk_169⟩
theorem zk_59 : Cond.fieldLink RX5 76 RX6 "bits" "[J" ∈ zz_w := zz_in (List.mem_append_right _ (List.mem_append_left _ (List.mem_of_getElem? (i := 59) (by decide +kernel)))) rfl
theorem zf_X5_76 : zz_f RX5 76 5 7 := ⟨RX6, TX6, 10, rfl, zi_X6, by decide, zk_59⟩
theorem zk_633 : Cond.methodLink RX5 92 yX1_alike ∈ zz_w := zz_in (List.mem_append_right _ (List.mem_append_right _ (List.mem_append_right _ (List.mem_append_left _ (List.mem_of_getElem? (i := 153) (by decide +kernel)))))) rfl
set_option maxRecDepth 20000 in
theorem zk_635 : Cond.code yX1_alike cX1_alike 5 (some .boolean) ∈ zz_w := zz_in (List.mem_append_right _ (List.mem_append_right _ (List.mem_append_right _ (List.mem_append_left _ (List.mem_of_getElem? (i := 155) (rfl)))))) rfl
theorem zk_634 : Cond.static yX1_alike ∈ zz_w := zz_in (List.mem_append_right _ (List.mem_append_right _ (List.mem_append_right _ (List.mem_append_left _ (List.mem_of_getElem? (i := 154) (by decide +kernel)))))) rfl
theorem zc_X5_92 : zz_cS RX5 92 yX1_alike cX1_alike 5 (some .boolean) 3 := ⟨⟨zk_633, zk_635, zk_8, by decide, by decide, by decide +kernel⟩, zk_634⟩
abbrev rm_co_alikeIn : Room := { frames := 1, cells := 0, slots := 0, locals := 24 }
abbrev po_co_alikeIn (g : zz_G) (ru : Nat) (st : Nat) (u_so : Nat) (u_ju : Nat) (u_we : Nat) (u_lo : Nat) (u_hi : Nat) (u_ta : Nat) (u_bo : Nat) (kd : Nat) (dp : Nat) (cl : Nat) (sa : Nat) (ln : Nat) (bt : Nat) (pn : Nat) (bf : Nat) (nr : Nat) (na : Nat) (nu : Nat) (btf : Nat → Int64) (k : Int32) (x : Int64) (f : Nat) (t : Nat) (h_t : f ≤ 4000 ∧ t ≤ 4000) : Int64 → va_W → Prop := fun (r : Int64) (u : va_W) => (r = sp_ali k x btf (t - f) f 0) ∧ u = [cw_k4 ru st (nI nr) u_so u_ju u_we u_lo u_hi u_ta u_bo, cw_k5 st (nI na) (nI nu) kd dp cl sa ln bt pn bf, cw_l g bt 4000 btf]
set_option maxHeartbeats 4000000 in
set_option maxRecDepth 100000 in
theorem co_alikeIn (g : zz_G) (ru : Nat) (st : Nat) (u_so : Nat) (u_ju : Nat) (u_we : Nat) (u_lo : Nat) (u_hi : Nat) (u_ta : Nat) (u_bo : Nat) (kd : Nat) (dp : Nat) (cl : Nat) (sa : Nat) (ln : Nat) (bt : Nat) (pn : Nat) (bf : Nat) (nr : Nat) (na : Nat) (nu : Nat) (btf : Nat → Int64) (k : Int32) (x : Int64) (f : Nat) (t : Nat) (h_t : f ≤ 4000 ∧ t ≤ 4000) : zz_L g yX5_alikeIn (.code yX5_alikeIn cX5_alikeIn 9 (some .long)) rm_co_alikeIn [.ref ru, .int k, .long x, .int (nI f), .int (nI t)] [cw_k4 ru st (nI nr) u_so u_ju u_we u_lo u_hi u_ta u_bo, cw_k5 st (nI na) (nI nu) kd dp cl sa ln bt pn bf, cw_l g bt 4000 btf] (po_co_alikeIn g ru st u_so u_ju u_we u_lo u_hi u_ta u_bo kd dp cl sa ln bt pn bf nr na nu btf k x f t h_t) := by
  refine zz_L.intro (own := RX5) (cc := cX5_alikeIn) (nL := 9) (by decide) rfl (Nat.le_of_ble_eq_true rfl) ?_
  intro p l e s m args below meth c A H locs ls hC hnm hs hZ hl
  obtain ⟨hx, hb, hml, hown, hts, hr, hlocks, hK⟩ := id hC
  have hl : lv_has ls 9 [(0, .ref ru), (1, .int k), (2, .long x), (4, .int (nI f)), (5, .int (nI t))] := hl
  have hZ : zz_Z g A s.heap [cw_k4 ru st (nI nr) u_so u_ju u_we u_lo u_hi u_ta u_bo, cw_k5 st (nI na) (nI nu) kd dp cl sa ln bt pn bf, cw_l g bt 4000 btf] H locs := hZ
  refine lv_lconst (v := 0) hx hb dX5_alikeIn_0 (by decide) ?_
  refine lv_lstore (lv' := [(6, .long 0), (0, .ref ru), (1, .int k), (2, .long x), (4, .int (nI f)), (5, .int (nI t))]) hx hb dX5_alikeIn_1 hl (by decide) rfl (fun ls hl => ?_)
  refine lv_iload hx hb dX5_alikeIn_3 (lv_at hl 4 rfl) ?_
  refine lv_istore (lv' := [(8, .int (nI f)), (6, .long 0), (0, .ref ru), (1, .int k), (2, .long x), (4, .int (nI f)), (5, .int (nI t))]) hx hb dX5_alikeIn_5 hl (by decide) rfl (fun ls hl => ?_)
  have LP1 : ∀ (N : Nat) (i : Nat) (w : Int64) (H : Heap) (locs : List Loc) (ls : Array Slot), (i ≤ 4000) → (sp_ali k x btf (t - f) f 0 = sp_ali k x btf (t - i) i w) → (t - i) < N → zz_Z g A s.heap [cw_k4 ru st (nI nr) u_so u_ju u_we u_lo u_hi u_ta u_bo, cw_k5 st (nI na) (nI nu) kd dp cl sa ln bt pn bf, cw_l g bt 4000 btf] H locs → lv_has ls 9 [(8, .int (nI i)), (6, .long w), (0, .ref ru), (1, .int k), (2, .long x), (4, .int (nI f)), (5, .int (nI t))] → W p l e rm_co_alikeIn s m args below meth c H locs 0 0 (zz_QL below g args s A rm_co_alikeIn.cells rm_co_alikeIn.slots (po_co_alikeIn g ru st u_so u_ju u_we u_lo u_hi u_ta u_bo kd dp cl sa ln bt pn bf nr na nu btf k x f t h_t)) (F0 m 7 ls []) := by
    intro N
    induction N with
    | zero =>
      intro i w H locs ls hi he hN
      exact absurd hN (Nat.not_lt_zero _)
    | succ N ih =>
      intro i w H locs ls hi he hN hZ hl
      refine lv_iload hx hb dX5_alikeIn_7 (lv_at hl 0 rfl) ?_
      refine lv_iload hx hb dX5_alikeIn_9 (lv_at hl 6 rfl) ?_
      have bd3 : t < 2 ^ 31 := by omega
      have bd4 : i < 2 ^ 31 := by omega
      refine lv_icmp_ge (tgt := 44) hx hb dX5_alikeIn_11 (by decide) (fun c2 => ?_) (fun c2 => ?_)
      · have nc2 : t ≤ i := (nI_leI bd3 bd4).mp (show nI (t) ≤ nI (i) from c2)
        refine lv_lload hx hb dX5_alikeIn_44 (lv_at hl 1 rfl) ?_
        exact zz_lret hC hZ (⟨by rw [he, show t - i = 0 by omega, sp_ali], rfl⟩) (Nat.le_of_ble_eq_true rfl) (Nat.le_of_ble_eq_true rfl) dX5_alikeIn_46
      · have nc2 : ¬ t ≤ i := fun zq => c2 (show nI (t) ≤ nI (i) from (nI_leI bd3 bd4).mpr zq)
        refine lv_iload_n hx hb dX5_alikeIn_14 rfl (lv_at hl 3 rfl) ?_
        refine lv_lload_n hx hb dX5_alikeIn_15 rfl (lv_at hl 4 rfl) ?_
        refine lv_aload_n hx hb dX5_alikeIn_16 rfl (lv_at hl 2 rfl) ?_
        refine zz_get hC hZ 0 rfl zf_X5_34 rfl dX5_alikeIn_17 ?_
        refine zz_get hC hZ 1 rfl zf_X5_76 rfl dX5_alikeIn_20 ?_
        refine lv_iload hx hb dX5_alikeIn_23 (lv_at hl 0 rfl) ?_
        have bd5 : i < 4000 := by omega
        refine zz_laldn hC hZ 2 rfl bd5 (by decide) dX5_alikeIn_25 ?_
        refine zz_iS (As := [.int k, .long x, .long (btf i)]) (wc := []) (wr := [cw_k4 ru st (nI nr) u_so u_ju u_we u_lo u_hi u_ta u_bo, cw_k5 st (nI na) (nI nu) kd dp cl sa ln bt pn bf, cw_l g bt 4000 btf]) (rest := []) hC hZ hs hl zc_X5_92 (co_alike g k x (btf i)) [] [0, 1, 2] rfl rfl (by decide +kernel) rfl rfl (Nat.le_of_ble_eq_true rfl) ⟨⟨Nat.le_of_ble_eq_true rfl, Nat.le_of_ble_eq_true rfl⟩, Nat.le_of_ble_eq_true rfl, Nat.le_of_ble_eq_true rfl⟩ dX5_alikeIn_26 (fun r6 u7 H locs hp hZ => ?_)
        obtain ⟨rfl, rfl⟩ := hp
        have hZ : zz_Z g A s.heap [cw_k4 ru st (nI nr) u_so u_ju u_we u_lo u_hi u_ta u_bo, cw_k5 st (nI na) (nI nu) kd dp cl sa ln bt pn bf, cw_l g bt 4000 btf] H locs := hZ
        refine lv_if_eq (tgt := 38) hx hb dX5_alikeIn_29 (by decide) (fun c8 => ?_) (fun c8 => ?_)
        · refine lv_iinc (v := nI (i + 1)) (lv' := [(8, .int (nI (i + 1))), (6, .long w), (0, .ref ru), (1, .int k), (2, .long x), (4, .int (nI f)), (5, .int (nI t))]) hx hb dX5_alikeIn_38 hl (k := 0) rfl (nI_1 _) (by decide) rfl (fun ls hl => ?_)
          refine lv_goto (tgt := 7) hx hb dX5_alikeIn_41 (by decide) ?_
          exact ih (i + 1) w H locs ls (by omega) (by rw [he, show t - i = (t - (i + 1)) + 1 by omega, sp_ali, if_pos c8]) (by omega) hZ (lv_sub hl [0, 1, 2, 3, 4, 5, 6] rfl)
        · refine lv_lload hx hb dX5_alikeIn_32 (lv_at hl 1 rfl) ?_
          refine lv_lconst (v := 1) hx hb dX5_alikeIn_34 (by decide) ?_
          refine lv_ladd hx hb dX5_alikeIn_35 ?_
          refine lv_lstore (lv' := [(6, .long (w + 1)), (8, .int (nI i)), (0, .ref ru), (1, .int k), (2, .long x), (4, .int (nI f)), (5, .int (nI t))]) hx hb dX5_alikeIn_36 hl (by decide) rfl (fun ls hl => ?_)
          refine lv_iinc (v := nI (i + 1)) (lv' := [(8, .int (nI (i + 1))), (6, .long (w + 1)), (0, .ref ru), (1, .int k), (2, .long x), (4, .int (nI f)), (5, .int (nI t))]) hx hb dX5_alikeIn_38 hl (k := 1) rfl (nI_1 _) (by decide) rfl (fun ls hl => ?_)
          refine lv_goto (tgt := 7) hx hb dX5_alikeIn_41 (by decide) ?_
          exact ih (i + 1) (w + 1) H locs ls (by omega) (by rw [he, show t - i = (t - (i + 1)) + 1 by omega, sp_ali, if_neg c8]) (by omega) hZ (lv_sub hl [0, 1, 2, 3, 4, 5, 6] rfl)
  exact LP1 _ f 0 H locs ls (by omega) (rfl) (Nat.lt_succ_self _) hZ (lv_sub hl [0, 1, 2, 3, 4, 5, 6] rfl)
