theorem dg_X1_isKind_0 : (decode cX1_isKind 0 = .ok (.iload_n 0, 1)) ∧ (decode cX1_isKind 1 = .ok (.ifCond .lt 13, 3)) ∧ (decode cX1_isKind 4 = .ok (.iload_n 0, 1)) ∧ (decode cX1_isKind 5 = .ok (.bipush 8, 2)) ∧ (decode cX1_isKind 7 = .ok (.if_icmp .gt 7, 3)) ∧ (decode cX1_isKind 10 = .ok (.iconst 1, 1)) ∧ (decode cX1_isKind 11 = .ok (.goto 4, 3)) ∧ (decode cX1_isKind 14 = .ok (.iconst 0, 1)) ∧ (decode cX1_isKind 15 = .ok (.ireturn, 1)) := by decide +kernel
theorem dX1_isKind_0 : decode cX1_isKind 0 = .ok (.iload_n 0, 1) := dg_X1_isKind_0.1
theorem dX1_isKind_1 : decode cX1_isKind 1 = .ok (.ifCond .lt 13, 3) := dg_X1_isKind_0.2.1
theorem dX1_isKind_4 : decode cX1_isKind 4 = .ok (.iload_n 0, 1) := dg_X1_isKind_0.2.2.1
theorem dX1_isKind_5 : decode cX1_isKind 5 = .ok (.bipush 8, 2) := dg_X1_isKind_0.2.2.2.1
theorem dX1_isKind_7 : decode cX1_isKind 7 = .ok (.if_icmp .gt 7, 3) := dg_X1_isKind_0.2.2.2.2.1
theorem dX1_isKind_10 : decode cX1_isKind 10 = .ok (.iconst 1, 1) := dg_X1_isKind_0.2.2.2.2.2.1
theorem dX1_isKind_11 : decode cX1_isKind 11 = .ok (.goto 4, 3) := dg_X1_isKind_0.2.2.2.2.2.2.1
theorem dX1_isKind_14 : decode cX1_isKind 14 = .ok (.iconst 0, 1) := dg_X1_isKind_0.2.2.2.2.2.2.2.1
theorem dX1_isKind_15 : decode cX1_isKind 15 = .ok (.ireturn, 1) := dg_X1_isKind_0.2.2.2.2.2.2.2.2
def fn_co_isKind (k : Int32) : Int32 := (if k < 0 then 0 else (if 8 < k then 0 else 1))
abbrev rm_co_isKind : Room := { frames := 0, cells := 0, slots := 0, locals := 0 }
abbrev po_co_isKind (g : zz_G) (k : Int32) : Int32 → va_W → Prop := fun (r : Int32) (u : va_W) => r = fn_co_isKind k ∧ u = []
set_option maxHeartbeats 4000000 in
set_option maxRecDepth 100000 in
theorem co_isKind (g : zz_G) (k : Int32) : zz_I g yX1_isKind (.code yX1_isKind cX1_isKind 1 (some .boolean)) rm_co_isKind [.int k] [] (po_co_isKind g k) := by
  refine zz_I.intro (own := RX1) (cc := cX1_isKind) (nL := 1) (by decide) rfl (Nat.le_of_ble_eq_true rfl) ?_
  intro p l e s m args below meth c A H locs ls hC hnm hs hZ hl
  obtain ⟨hx, hb, hml, hown, hts, hr, hlocks, hK⟩ := id hC
  have hl : lv_has ls 1 [(0, .int k)] := hl
  have hZ : zz_Z g A s.heap [] H locs := hZ
  refine lv_iload_n hx hb dX1_isKind_0 rfl (lv_at hl 0 rfl) ?_
  refine lv_if_lt (tgt := 14) hx hb dX1_isKind_1 (by decide) (fun c1 => ?_) (fun c1 => ?_)
  · refine lv_iconst (v := 0) hx hb dX1_isKind_14 (by decide) ?_
    exact zz_zret hC hZ (by decide) (⟨by show _ = _; rw [fn_co_isKind, if_pos c1], rfl⟩) (Nat.le_of_ble_eq_true rfl) (Nat.le_of_ble_eq_true rfl) dX1_isKind_15
  · refine lv_iload_n hx hb dX1_isKind_4 rfl (lv_at hl 0 rfl) ?_
    refine lv_bipush (v := 8) hx hb dX1_isKind_5 (by decide) ?_
    refine lv_icmp_gt (tgt := 14) hx hb dX1_isKind_7 (by decide) (fun c2 => ?_) (fun c2 => ?_)
    · refine lv_iconst (v := 0) hx hb dX1_isKind_14 (by decide) ?_
      exact zz_zret hC hZ (by decide) (⟨by show _ = _; rw [fn_co_isKind, if_neg c1, if_pos c2], rfl⟩) (Nat.le_of_ble_eq_true rfl) (Nat.le_of_ble_eq_true rfl) dX1_isKind_15
    · refine lv_iconst (v := 1) hx hb dX1_isKind_10 (by decide) ?_
      refine lv_goto (tgt := 15) hx hb dX1_isKind_11 (by decide) ?_
      exact zz_zret hC hZ (by decide) (⟨by show _ = _; rw [fn_co_isKind, if_neg c1, if_neg c2], rfl⟩) (Nat.le_of_ble_eq_true rfl) (Nat.le_of_ble_eq_true rfl) dX1_isKind_15
theorem zl_kin {k : Int32} (h : ¬ fn_co_isKind k = 0) : vp_in k 9 := by
  unfold fn_co_isKind at h
  have h1 : ¬ k < 0 := fun q => h (by rw [if_pos q])
  have h2 : ¬ 8 < k := fun q => h (by rw [if_neg h1, if_pos q])
  rw [vp_in_iff]
  rw [Int32.lt_iff_toInt_lt] at h1 h2
  have e8 : (8 : Int32).toInt = 8 := by decide
  have e0 : (0 : Int32).toInt = 0 := by decide
  omega
theorem dg_X1_holds_0 : (decode cX1_holds 0 = .ok (.iload_n 0, 1)) ∧ (decode cX1_holds 1 = .ok (.invokestatic 9, 3)) ∧ (decode cX1_holds 4 = .ok (.ifCond .eq 27, 3)) ∧ (decode cX1_holds 7 = .ok (.lload_n 1, 1)) ∧ (decode cX1_holds 8 = .ok (.getstatic 15, 3)) ∧ (decode cX1_holds 11 = .ok (.iload_n 0, 1)) ∧ (decode cX1_holds 12 = .ok (.laload, 1)) ∧ (decode cX1_holds 13 = .ok (.lcmp, 1)) ∧ (decode cX1_holds 14 = .ok (.ifCond .lt 17, 3)) ∧ (decode cX1_holds 17 = .ok (.lload_n 1, 1)) ∧ (decode cX1_holds 18 = .ok (.getstatic 19, 3)) ∧ (decode cX1_holds 21 = .ok (.iload_n 0, 1)) ∧ (decode cX1_holds 22 = .ok (.laload, 1)) ∧ (decode cX1_holds 23 = .ok (.lcmp, 1)) ∧ (decode cX1_holds 24 = .ok (.ifCond .gt 7, 3)) ∧ (decode cX1_holds 27 = .ok (.iconst 1, 1)) := by decide +kernel
theorem dX1_holds_0 : decode cX1_holds 0 = .ok (.iload_n 0, 1) := dg_X1_holds_0.1
theorem dX1_holds_1 : decode cX1_holds 1 = .ok (.invokestatic 9, 3) := dg_X1_holds_0.2.1
theorem dX1_holds_4 : decode cX1_holds 4 = .ok (.ifCond .eq 27, 3) := dg_X1_holds_0.2.2.1
theorem dX1_holds_7 : decode cX1_holds 7 = .ok (.lload_n 1, 1) := dg_X1_holds_0.2.2.2.1
theorem dX1_holds_8 : decode cX1_holds 8 = .ok (.getstatic 15, 3) := dg_X1_holds_0.2.2.2.2.1
theorem dX1_holds_11 : decode cX1_holds 11 = .ok (.iload_n 0, 1) := dg_X1_holds_0.2.2.2.2.2.1
theorem dX1_holds_12 : decode cX1_holds 12 = .ok (.laload, 1) := dg_X1_holds_0.2.2.2.2.2.2.1
theorem dX1_holds_13 : decode cX1_holds 13 = .ok (.lcmp, 1) := dg_X1_holds_0.2.2.2.2.2.2.2.1
theorem dX1_holds_14 : decode cX1_holds 14 = .ok (.ifCond .lt 17, 3) := dg_X1_holds_0.2.2.2.2.2.2.2.2.1
theorem dX1_holds_17 : decode cX1_holds 17 = .ok (.lload_n 1, 1) := dg_X1_holds_0.2.2.2.2.2.2.2.2.2.1
theorem dX1_holds_18 : decode cX1_holds 18 = .ok (.getstatic 19, 3) := dg_X1_holds_0.2.2.2.2.2.2.2.2.2.2.1
theorem dX1_holds_21 : decode cX1_holds 21 = .ok (.iload_n 0, 1) := dg_X1_holds_0.2.2.2.2.2.2.2.2.2.2.2.1
theorem dX1_holds_22 : decode cX1_holds 22 = .ok (.laload, 1) := dg_X1_holds_0.2.2.2.2.2.2.2.2.2.2.2.2.1
theorem dX1_holds_23 : decode cX1_holds 23 = .ok (.lcmp, 1) := dg_X1_holds_0.2.2.2.2.2.2.2.2.2.2.2.2.2.1
theorem dX1_holds_24 : decode cX1_holds 24 = .ok (.ifCond .gt 7, 3) := dg_X1_holds_0.2.2.2.2.2.2.2.2.2.2.2.2.2.2.1
theorem dX1_holds_27 : decode cX1_holds 27 = .ok (.iconst 1, 1) := dg_X1_holds_0.2.2.2.2.2.2.2.2.2.2.2.2.2.2.2
theorem dg_X1_holds_28 : (decode cX1_holds 28 = .ok (.goto 4, 3)) ∧ (decode cX1_holds 31 = .ok (.iconst 0, 1)) ∧ (decode cX1_holds 32 = .ok (.ireturn, 1)) := by decide +kernel
theorem dX1_holds_28 : decode cX1_holds 28 = .ok (.goto 4, 3) := dg_X1_holds_28.1
theorem dX1_holds_31 : decode cX1_holds 31 = .ok (.iconst 0, 1) := dg_X1_holds_28.2.1
theorem dX1_holds_32 : decode cX1_holds 32 = .ok (.ireturn, 1) := dg_X1_holds_28.2.2
theorem zk_372 : Cond.methodLink RX1 9 yX1_isKind ∈ zz_w := zz_in (List.mem_append_right _ (List.mem_append_right _ (List.mem_append_left _ (List.mem_of_getElem? (i := 132) (by decide +kernel))))) rfl
set_option maxRecDepth 20000 in
theorem zk_231 : Cond.code yX1_isKind cX1_isKind 1 (some .boolean) ∈ zz_w := zz_in (List.mem_append_right _ (List.mem_append_left _ (List.mem_of_getElem? (i := 231) (rfl)))) rfl
theorem zk_8 : Cond.initialized RX1 ∈ zz_w := zz_in (List.mem_append_right _ (List.mem_append_left _ (List.mem_of_getElem? (i := 8) (by decide +kernel)))) rfl
theorem zk_230 : Cond.static yX1_isKind ∈ zz_w := zz_in (List.mem_append_right _ (List.mem_append_left _ (List.mem_of_getElem? (i := 230) (by decide +kernel)))) rfl
theorem zc_X1_9 : zz_cS RX1 9 yX1_isKind cX1_isKind 1 (some .boolean) 1 := ⟨⟨zk_372, zk_231, zk_8, by decide, by decide, by decide +kernel⟩, zk_230⟩
theorem zk_373 : Cond.fieldLink RX1 15 zz_RK "LOWEST" "[J" ∈ zz_w := zz_in (List.mem_append_right _ (List.mem_append_right _ (List.mem_append_left _ (List.mem_of_getElem? (i := 133) (by decide +kernel))))) rfl
theorem zk_375 : Cond.fieldLink RX1 19 zz_RK "HIGHEST" "[J" ∈ zz_w := zz_in (List.mem_append_right _ (List.mem_append_right _ (List.mem_append_left _ (List.mem_of_getElem? (i := 135) (by decide +kernel))))) rfl
def fn_co_holds (k : Int32) (x : Int64) : Int32 := (if (fn_co_isKind k) = 0 then 0 else (if x < (zz_low k.toNatClampNeg) then 0 else (if (zz_high k.toNatClampNeg) < x then 0 else 1)))
abbrev rm_co_holds : Room := { frames := 1, cells := 0, slots := 0, locals := 20 }
abbrev po_co_holds (g : zz_G) (k : Int32) (x : Int64) : Int32 → va_W → Prop := fun (r : Int32) (u : va_W) => r = fn_co_holds k x ∧ u = []
set_option maxHeartbeats 4000000 in
set_option maxRecDepth 100000 in
theorem co_holds (g : zz_G) (k : Int32) (x : Int64) : zz_I g yX1_holds (.code yX1_holds cX1_holds 3 (some .boolean)) rm_co_holds [.int k, .long x] [] (po_co_holds g k x) := by
  refine zz_I.intro (own := RX1) (cc := cX1_holds) (nL := 3) (by decide) rfl (Nat.le_of_ble_eq_true rfl) ?_
  intro p l e s m args below meth c A H locs ls hC hnm hs hZ hl
  obtain ⟨hx, hb, hml, hown, hts, hr, hlocks, hK⟩ := id hC
  have hl : lv_has ls 3 [(0, .int k), (1, .long x)] := hl
  have hZ : zz_Z g A s.heap [] H locs := hZ
  refine lv_iload_n hx hb dX1_holds_0 rfl (lv_at hl 0 rfl) ?_
  refine zz_iS (As := [.int k]) (wc := []) (wr := []) (rest := []) hC hZ hs hl zc_X1_9 (co_isKind g k) [] [] rfl rfl (by decide +kernel) rfl rfl (Nat.le_of_ble_eq_true rfl) ⟨⟨Nat.le_of_ble_eq_true rfl, Nat.le_of_ble_eq_true rfl⟩, Nat.le_of_ble_eq_true rfl, Nat.le_of_ble_eq_true rfl⟩ dX1_holds_1 (fun r1 u2 H locs hp hZ => ?_)
  obtain ⟨rfl, rfl⟩ := hp
  have hZ : zz_Z g A s.heap [] H locs := hZ
  refine lv_if_eq (tgt := 31) hx hb dX1_holds_4 (by decide) (fun c3 => ?_) (fun c3 => ?_)
  · refine lv_iconst (v := 0) hx hb dX1_holds_31 (by decide) ?_
    exact zz_zret hC hZ (by decide) (⟨by show _ = _; rw [fn_co_holds, if_pos c3], rfl⟩) (Nat.le_of_ble_eq_true rfl) (Nat.le_of_ble_eq_true rfl) dX1_holds_32
  · refine lv_lload_n hx hb dX1_holds_7 rfl (lv_at hl 1 rfl) ?_
    refine zz_gets hC hs.1 hZ zk_373 dX1_holds_8 ?_
    refine lv_iload_n hx hb dX1_holds_11 rfl (lv_at hl 0 rfl) ?_
    refine zz_slald hC hs.1 hZ (zl_kin c3) dX1_holds_12 ?_
    refine zz_lcmp_lt (tgt := 31) hC dX1_holds_13 dX1_holds_14 (by decide) (fun c4 => ?_) (fun c4 => ?_)
    · refine lv_iconst (v := 0) hx hb dX1_holds_31 (by decide) ?_
      exact zz_zret hC hZ (by decide) (⟨by show _ = _; rw [fn_co_holds, if_neg c3, if_pos c4], rfl⟩) (Nat.le_of_ble_eq_true rfl) (Nat.le_of_ble_eq_true rfl) dX1_holds_32
    · refine lv_lload_n hx hb dX1_holds_17 rfl (lv_at hl 1 rfl) ?_
      refine zz_gets hC hs.2 hZ zk_375 dX1_holds_18 ?_
      refine lv_iload_n hx hb dX1_holds_21 rfl (lv_at hl 0 rfl) ?_
      refine zz_slald hC hs.2 hZ (zl_kin c3) dX1_holds_22 ?_
      refine zz_lcmp_gt (tgt := 31) hC dX1_holds_23 dX1_holds_24 (by decide) (fun c5 => ?_) (fun c5 => ?_)
      · refine lv_iconst (v := 0) hx hb dX1_holds_31 (by decide) ?_
        exact zz_zret hC hZ (by decide) (⟨by show _ = _; rw [fn_co_holds, if_neg c3, if_neg c4, if_pos c5], rfl⟩) (Nat.le_of_ble_eq_true rfl) (Nat.le_of_ble_eq_true rfl) dX1_holds_32
      · refine lv_iconst (v := 1) hx hb dX1_holds_27 (by decide) ?_
        refine lv_goto (tgt := 32) hx hb dX1_holds_28 (by decide) ?_
        exact zz_zret hC hZ (by decide) (⟨by show _ = _; rw [fn_co_holds, if_neg c3, if_neg c4, if_neg c5], rfl⟩) (Nat.le_of_ble_eq_true rfl) (Nat.le_of_ble_eq_true rfl) dX1_holds_32
theorem dg_X1_isNoNumber_0 : (decode cX1_isNoNumber 0 = .ok (.iload_n 0, 1)) ∧ (decode cX1_isNoNumber 1 = .ok (.bipush 6, 2)) ∧ (decode cX1_isNoNumber 3 = .ok (.if_icmp .ne 21, 3)) ∧ (decode cX1_isNoNumber 6 = .ok (.lload_n 1, 1)) ∧ (decode cX1_isNoNumber 7 = .ok (.ldc2_w 22, 3)) ∧ (decode cX1_isNoNumber 10 = .ok (.land, 1)) ∧ (decode cX1_isNoNumber 11 = .ok (.ldc2_w 24, 3)) ∧ (decode cX1_isNoNumber 14 = .ok (.lcmp, 1)) ∧ (decode cX1_isNoNumber 15 = .ok (.ifCond .le 7, 3)) ∧ (decode cX1_isNoNumber 18 = .ok (.iconst 1, 1)) ∧ (decode cX1_isNoNumber 19 = .ok (.goto 4, 3)) ∧ (decode cX1_isNoNumber 22 = .ok (.iconst 0, 1)) ∧ (decode cX1_isNoNumber 23 = .ok (.ireturn, 1)) ∧ (decode cX1_isNoNumber 24 = .ok (.iload_n 0, 1)) ∧ (decode cX1_isNoNumber 25 = .ok (.bipush 7, 2)) ∧ (decode cX1_isNoNumber 27 = .ok (.if_icmp .ne 19, 3)) := by decide +kernel
theorem dX1_isNoNumber_0 : decode cX1_isNoNumber 0 = .ok (.iload_n 0, 1) := dg_X1_isNoNumber_0.1
theorem dX1_isNoNumber_1 : decode cX1_isNoNumber 1 = .ok (.bipush 6, 2) := dg_X1_isNoNumber_0.2.1
theorem dX1_isNoNumber_3 : decode cX1_isNoNumber 3 = .ok (.if_icmp .ne 21, 3) := dg_X1_isNoNumber_0.2.2.1
theorem dX1_isNoNumber_6 : decode cX1_isNoNumber 6 = .ok (.lload_n 1, 1) := dg_X1_isNoNumber_0.2.2.2.1
theorem dX1_isNoNumber_7 : decode cX1_isNoNumber 7 = .ok (.ldc2_w 22, 3) := dg_X1_isNoNumber_0.2.2.2.2.1
theorem dX1_isNoNumber_10 : decode cX1_isNoNumber 10 = .ok (.land, 1) := dg_X1_isNoNumber_0.2.2.2.2.2.1
theorem dX1_isNoNumber_11 : decode cX1_isNoNumber 11 = .ok (.ldc2_w 24, 3) := dg_X1_isNoNumber_0.2.2.2.2.2.2.1
theorem dX1_isNoNumber_14 : decode cX1_isNoNumber 14 = .ok (.lcmp, 1) := dg_X1_isNoNumber_0.2.2.2.2.2.2.2.1
theorem dX1_isNoNumber_15 : decode cX1_isNoNumber 15 = .ok (.ifCond .le 7, 3) := dg_X1_isNoNumber_0.2.2.2.2.2.2.2.2.1
theorem dX1_isNoNumber_18 : decode cX1_isNoNumber 18 = .ok (.iconst 1, 1) := dg_X1_isNoNumber_0.2.2.2.2.2.2.2.2.2.1
theorem dX1_isNoNumber_19 : decode cX1_isNoNumber 19 = .ok (.goto 4, 3) := dg_X1_isNoNumber_0.2.2.2.2.2.2.2.2.2.2.1
theorem dX1_isNoNumber_22 : decode cX1_isNoNumber 22 = .ok (.iconst 0, 1) := dg_X1_isNoNumber_0.2.2.2.2.2.2.2.2.2.2.2.1
theorem dX1_isNoNumber_23 : decode cX1_isNoNumber 23 = .ok (.ireturn, 1) := dg_X1_isNoNumber_0.2.2.2.2.2.2.2.2.2.2.2.2.1
theorem dX1_isNoNumber_24 : decode cX1_isNoNumber 24 = .ok (.iload_n 0, 1) := dg_X1_isNoNumber_0.2.2.2.2.2.2.2.2.2.2.2.2.2.1
theorem dX1_isNoNumber_25 : decode cX1_isNoNumber 25 = .ok (.bipush 7, 2) := dg_X1_isNoNumber_0.2.2.2.2.2.2.2.2.2.2.2.2.2.2.1
theorem dX1_isNoNumber_27 : decode cX1_isNoNumber 27 = .ok (.if_icmp .ne 19, 3) := dg_X1_isNoNumber_0.2.2.2.2.2.2.2.2.2.2.2.2.2.2.2
theorem dg_X1_isNoNumber_30 : (decode cX1_isNoNumber 30 = .ok (.lload_n 1, 1)) ∧ (decode cX1_isNoNumber 31 = .ok (.ldc2_w 26, 3)) ∧ (decode cX1_isNoNumber 34 = .ok (.land, 1)) ∧ (decode cX1_isNoNumber 35 = .ok (.ldc2_w 28, 3)) ∧ (decode cX1_isNoNumber 38 = .ok (.lcmp, 1)) ∧ (decode cX1_isNoNumber 39 = .ok (.ifCond .le 7, 3)) ∧ (decode cX1_isNoNumber 42 = .ok (.iconst 1, 1)) ∧ (decode cX1_isNoNumber 43 = .ok (.goto 4, 3)) ∧ (decode cX1_isNoNumber 46 = .ok (.iconst 0, 1)) ∧ (decode cX1_isNoNumber 47 = .ok (.ireturn, 1)) := by decide +kernel
theorem dX1_isNoNumber_30 : decode cX1_isNoNumber 30 = .ok (.lload_n 1, 1) := dg_X1_isNoNumber_30.1
theorem dX1_isNoNumber_31 : decode cX1_isNoNumber 31 = .ok (.ldc2_w 26, 3) := dg_X1_isNoNumber_30.2.1
theorem dX1_isNoNumber_34 : decode cX1_isNoNumber 34 = .ok (.land, 1) := dg_X1_isNoNumber_30.2.2.1
theorem dX1_isNoNumber_35 : decode cX1_isNoNumber 35 = .ok (.ldc2_w 28, 3) := dg_X1_isNoNumber_30.2.2.2.1
theorem dX1_isNoNumber_38 : decode cX1_isNoNumber 38 = .ok (.lcmp, 1) := dg_X1_isNoNumber_30.2.2.2.2.1
theorem dX1_isNoNumber_39 : decode cX1_isNoNumber 39 = .ok (.ifCond .le 7, 3) := dg_X1_isNoNumber_30.2.2.2.2.2.1
theorem dX1_isNoNumber_42 : decode cX1_isNoNumber 42 = .ok (.iconst 1, 1) := dg_X1_isNoNumber_30.2.2.2.2.2.2.1
theorem dX1_isNoNumber_43 : decode cX1_isNoNumber 43 = .ok (.goto 4, 3) := dg_X1_isNoNumber_30.2.2.2.2.2.2.2.1
theorem dX1_isNoNumber_46 : decode cX1_isNoNumber 46 = .ok (.iconst 0, 1) := dg_X1_isNoNumber_30.2.2.2.2.2.2.2.2.1
theorem dX1_isNoNumber_47 : decode cX1_isNoNumber 47 = .ok (.ireturn, 1) := dg_X1_isNoNumber_30.2.2.2.2.2.2.2.2.2
theorem zk_385 : Cond.constantLong RX1 26 (9223372036854775807) ∈ zz_w := zz_in (List.mem_append_right _ (List.mem_append_right _ (List.mem_append_left _ (List.mem_of_getElem? (i := 145) (by decide +kernel))))) rfl
theorem zk_356 : Cond.constantLong RX1 28 (9218868437227405312) ∈ zz_w := zz_in (List.mem_append_right _ (List.mem_append_right _ (List.mem_append_left _ (List.mem_of_getElem? (i := 116) (by decide +kernel))))) rfl
theorem zk_383 : Cond.constantLong RX1 22 (2147483647) ∈ zz_w := zz_in (List.mem_append_right _ (List.mem_append_right _ (List.mem_append_left _ (List.mem_of_getElem? (i := 143) (by decide +kernel))))) rfl
theorem zk_384 : Cond.constantLong RX1 24 (2139095040) ∈ zz_w := zz_in (List.mem_append_right _ (List.mem_append_right _ (List.mem_append_left _ (List.mem_of_getElem? (i := 144) (by decide +kernel))))) rfl
def fn_co_isNoNumber (k : Int32) (x : Int64) : Int32 := (if k = 6 then (if (x &&& 2147483647) ≤ 2139095040 then 0 else 1) else (if k = 7 then (if (x &&& 9223372036854775807) ≤ 9218868437227405312 then 0 else 1) else 0))
abbrev rm_co_isNoNumber : Room := { frames := 0, cells := 0, slots := 0, locals := 0 }
abbrev po_co_isNoNumber (g : zz_G) (k : Int32) (x : Int64) : Int32 → va_W → Prop := fun (r : Int32) (u : va_W) => r = fn_co_isNoNumber k x ∧ u = []
set_option maxHeartbeats 4000000 in
set_option maxRecDepth 100000 in
theorem co_isNoNumber (g : zz_G) (k : Int32) (x : Int64) : zz_I g yX1_isNoNumber (.code yX1_isNoNumber cX1_isNoNumber 3 (some .boolean)) rm_co_isNoNumber [.int k, .long x] [] (po_co_isNoNumber g k x) := by
  refine zz_I.intro (own := RX1) (cc := cX1_isNoNumber) (nL := 3) (by decide) rfl (Nat.le_of_ble_eq_true rfl) ?_
  intro p l e s m args below meth c A H locs ls hC hnm hs hZ hl
  obtain ⟨hx, hb, hml, hown, hts, hr, hlocks, hK⟩ := id hC
  have hl : lv_has ls 3 [(0, .int k), (1, .long x)] := hl
  have hZ : zz_Z g A s.heap [] H locs := hZ
  refine lv_iload_n hx hb dX1_isNoNumber_0 rfl (lv_at hl 0 rfl) ?_
  refine lv_bipush (v := 6) hx hb dX1_isNoNumber_1 (by decide) ?_
  refine lv_icmp_ne (tgt := 24) hx hb dX1_isNoNumber_3 (by decide) (fun c1 => ?_) (fun c1 => ?_)
  · refine lv_iload_n hx hb dX1_isNoNumber_24 rfl (lv_at hl 0 rfl) ?_
    refine lv_bipush (v := 7) hx hb dX1_isNoNumber_25 (by decide) ?_
    refine lv_icmp_ne (tgt := 46) hx hb dX1_isNoNumber_27 (by decide) (fun c2 => ?_) (fun c2 => ?_)
    · refine lv_iconst (v := 0) hx hb dX1_isNoNumber_46 (by decide) ?_
      exact zz_zret hC hZ (by decide) (⟨by show _ = _; rw [fn_co_isNoNumber, if_neg c1, if_neg c2], rfl⟩) (Nat.le_of_ble_eq_true rfl) (Nat.le_of_ble_eq_true rfl) dX1_isNoNumber_47
    · refine lv_lload_n hx hb dX1_isNoNumber_30 rfl (lv_at hl 1 rfl) ?_
      refine lv_ldc2 hx hb hown (hts _ zk_385) dX1_isNoNumber_31 ?_
      refine lv_land hx hb dX1_isNoNumber_34 ?_
      refine lv_ldc2 hx hb hown (hts _ zk_356) dX1_isNoNumber_35 ?_
      refine zz_lcmp_le (tgt := 46) hC dX1_isNoNumber_38 dX1_isNoNumber_39 (by decide) (fun c3 => ?_) (fun c3 => ?_)
      · refine lv_iconst (v := 0) hx hb dX1_isNoNumber_46 (by decide) ?_
        exact zz_zret hC hZ (by decide) (⟨by show _ = _; rw [fn_co_isNoNumber, if_neg c1, if_pos c2, if_pos c3], rfl⟩) (Nat.le_of_ble_eq_true rfl) (Nat.le_of_ble_eq_true rfl) dX1_isNoNumber_47
      · refine lv_iconst (v := 1) hx hb dX1_isNoNumber_42 (by decide) ?_
        refine lv_goto (tgt := 47) hx hb dX1_isNoNumber_43 (by decide) ?_
        exact zz_zret hC hZ (by decide) (⟨by show _ = _; rw [fn_co_isNoNumber, if_neg c1, if_pos c2, if_neg c3], rfl⟩) (Nat.le_of_ble_eq_true rfl) (Nat.le_of_ble_eq_true rfl) dX1_isNoNumber_47
  · refine lv_lload_n hx hb dX1_isNoNumber_6 rfl (lv_at hl 1 rfl) ?_
    refine lv_ldc2 hx hb hown (hts _ zk_383) dX1_isNoNumber_7 ?_
    refine lv_land hx hb dX1_isNoNumber_10 ?_
    refine lv_ldc2 hx hb hown (hts _ zk_384) dX1_isNoNumber_11 ?_
    refine zz_lcmp_le (tgt := 22) hC dX1_isNoNumber_14 dX1_isNoNumber_15 (by decide) (fun c4 => ?_) (fun c4 => ?_)
    · refine lv_iconst (v := 0) hx hb dX1_isNoNumber_22 (by decide) ?_
      exact zz_zret hC hZ (by decide) (⟨by show _ = _; rw [fn_co_isNoNumber, if_pos c1, if_pos c4], rfl⟩) (Nat.le_of_ble_eq_true rfl) (Nat.le_of_ble_eq_true rfl) dX1_isNoNumber_23
    · refine lv_iconst (v := 1) hx hb dX1_isNoNumber_18 (by decide) ?_
      refine lv_goto (tgt := 23) hx hb dX1_isNoNumber_19 (by decide) ?_
      exact zz_zret hC hZ (by decide) (⟨by show _ = _; rw [fn_co_isNoNumber, if_pos c1, if_neg c4], rfl⟩) (Nat.le_of_ble_eq_true rfl) (Nat.le_of_ble_eq_true rfl) dX1_isNoNumber_23
theorem dg_X1_cleaned_0 : (decode cX1_cleaned 0 = .ok (.iload_n 0, 1)) ∧ (decode cX1_cleaned 1 = .ok (.lload_n 1, 1)) ∧ (decode cX1_cleaned 2 = .ok (.invokestatic 30, 3)) ∧ (decode cX1_cleaned 5 = .ok (.ifCond .ne 5, 3)) ∧ (decode cX1_cleaned 8 = .ok (.lload_n 1, 1)) ∧ (decode cX1_cleaned 9 = .ok (.lreturn, 1)) ∧ (decode cX1_cleaned 10 = .ok (.iload_n 0, 1)) ∧ (decode cX1_cleaned 11 = .ok (.bipush 6, 2)) ∧ (decode cX1_cleaned 13 = .ok (.if_icmp .ne 9, 3)) ∧ (decode cX1_cleaned 16 = .ok (.ldc2_w 34, 3)) ∧ (decode cX1_cleaned 19 = .ok (.goto 6, 3)) ∧ (decode cX1_cleaned 22 = .ok (.ldc2_w 36, 3)) ∧ (decode cX1_cleaned 25 = .ok (.lreturn, 1)) := by decide +kernel
theorem dX1_cleaned_0 : decode cX1_cleaned 0 = .ok (.iload_n 0, 1) := dg_X1_cleaned_0.1
theorem dX1_cleaned_1 : decode cX1_cleaned 1 = .ok (.lload_n 1, 1) := dg_X1_cleaned_0.2.1
theorem dX1_cleaned_2 : decode cX1_cleaned 2 = .ok (.invokestatic 30, 3) := dg_X1_cleaned_0.2.2.1
theorem dX1_cleaned_5 : decode cX1_cleaned 5 = .ok (.ifCond .ne 5, 3) := dg_X1_cleaned_0.2.2.2.1
theorem dX1_cleaned_8 : decode cX1_cleaned 8 = .ok (.lload_n 1, 1) := dg_X1_cleaned_0.2.2.2.2.1
theorem dX1_cleaned_9 : decode cX1_cleaned 9 = .ok (.lreturn, 1) := dg_X1_cleaned_0.2.2.2.2.2.1
theorem dX1_cleaned_10 : decode cX1_cleaned 10 = .ok (.iload_n 0, 1) := dg_X1_cleaned_0.2.2.2.2.2.2.1
theorem dX1_cleaned_11 : decode cX1_cleaned 11 = .ok (.bipush 6, 2) := dg_X1_cleaned_0.2.2.2.2.2.2.2.1
theorem dX1_cleaned_13 : decode cX1_cleaned 13 = .ok (.if_icmp .ne 9, 3) := dg_X1_cleaned_0.2.2.2.2.2.2.2.2.1
theorem dX1_cleaned_16 : decode cX1_cleaned 16 = .ok (.ldc2_w 34, 3) := dg_X1_cleaned_0.2.2.2.2.2.2.2.2.2.1
theorem dX1_cleaned_19 : decode cX1_cleaned 19 = .ok (.goto 6, 3) := dg_X1_cleaned_0.2.2.2.2.2.2.2.2.2.2.1
theorem dX1_cleaned_22 : decode cX1_cleaned 22 = .ok (.ldc2_w 36, 3) := dg_X1_cleaned_0.2.2.2.2.2.2.2.2.2.2.2.1
theorem dX1_cleaned_25 : decode cX1_cleaned 25 = .ok (.lreturn, 1) := dg_X1_cleaned_0.2.2.2.2.2.2.2.2.2.2.2.2
theorem zk_380 : Cond.methodLink RX1 30 yX1_isNoNumber ∈ zz_w := zz_in (List.mem_append_right _ (List.mem_append_right _ (List.mem_append_left _ (List.mem_of_getElem? (i := 140) (by decide +kernel))))) rfl
set_option maxRecDepth 20000 in
theorem zk_382 : Cond.code yX1_isNoNumber cX1_isNoNumber 3 (some .boolean) ∈ zz_w := zz_in (List.mem_append_right _ (List.mem_append_right _ (List.mem_append_left _ (List.mem_of_getElem? (i := 142) (rfl))))) rfl
theorem zk_381 : Cond.static yX1_isNoNumber ∈ zz_w := zz_in (List.mem_append_right _ (List.mem_append_right _ (List.mem_append_left _ (List.mem_of_getElem? (i := 141) (by decide +kernel))))) rfl
theorem zc_X1_30 : zz_cS RX1 30 yX1_isNoNumber cX1_isNoNumber 3 (some .boolean) 2 := ⟨⟨zk_380, zk_382, zk_8, by decide, by decide, by decide +kernel⟩, zk_381⟩
theorem zk_355 : Cond.constantLong RX1 36 (9221120237041090560) ∈ zz_w := zz_in (List.mem_append_right _ (List.mem_append_right _ (List.mem_append_left _ (List.mem_of_getElem? (i := 115) (by decide +kernel))))) rfl
theorem zk_386 : Cond.constantLong RX1 34 (2143289344) ∈ zz_w := zz_in (List.mem_append_right _ (List.mem_append_right _ (List.mem_append_left _ (List.mem_of_getElem? (i := 146) (by decide +kernel))))) rfl
def fn_co_cleaned (k : Int32) (x : Int64) : Int64 := (if (fn_co_isNoNumber k x) = 0 then x else (if k = 6 then 2143289344 else 9221120237041090560))
abbrev rm_co_cleaned : Room := { frames := 1, cells := 0, slots := 0, locals := 22 }
abbrev po_co_cleaned (g : zz_G) (k : Int32) (x : Int64) : Int64 → va_W → Prop := fun (r : Int64) (u : va_W) => r = fn_co_cleaned k x ∧ u = []
set_option maxHeartbeats 4000000 in
set_option maxRecDepth 100000 in
theorem co_cleaned (g : zz_G) (k : Int32) (x : Int64) : zz_L g yX1_cleaned (.code yX1_cleaned cX1_cleaned 3 (some .long)) rm_co_cleaned [.int k, .long x] [] (po_co_cleaned g k x) := by
  refine zz_L.intro (own := RX1) (cc := cX1_cleaned) (nL := 3) (by decide) rfl (Nat.le_of_ble_eq_true rfl) ?_
  intro p l e s m args below meth c A H locs ls hC hnm hs hZ hl
  obtain ⟨hx, hb, hml, hown, hts, hr, hlocks, hK⟩ := id hC
  have hl : lv_has ls 3 [(0, .int k), (1, .long x)] := hl
  have hZ : zz_Z g A s.heap [] H locs := hZ
  refine lv_iload_n hx hb dX1_cleaned_0 rfl (lv_at hl 0 rfl) ?_
  refine lv_lload_n hx hb dX1_cleaned_1 rfl (lv_at hl 1 rfl) ?_
  refine zz_iS (As := [.int k, .long x]) (wc := []) (wr := []) (rest := []) hC hZ hs hl zc_X1_30 (co_isNoNumber g k x) [] [] rfl rfl (by decide +kernel) rfl rfl (Nat.le_of_ble_eq_true rfl) ⟨⟨Nat.le_of_ble_eq_true rfl, Nat.le_of_ble_eq_true rfl⟩, Nat.le_of_ble_eq_true rfl, Nat.le_of_ble_eq_true rfl⟩ dX1_cleaned_2 (fun r1 u2 H locs hp hZ => ?_)
  obtain ⟨rfl, rfl⟩ := hp
  have hZ : zz_Z g A s.heap [] H locs := hZ
  refine lv_if_ne (tgt := 10) hx hb dX1_cleaned_5 (by decide) (fun c3 => ?_) (fun c3 => ?_)
  · refine lv_iload_n hx hb dX1_cleaned_10 rfl (lv_at hl 0 rfl) ?_
    refine lv_bipush (v := 6) hx hb dX1_cleaned_11 (by decide) ?_
    refine lv_icmp_ne (tgt := 22) hx hb dX1_cleaned_13 (by decide) (fun c4 => ?_) (fun c4 => ?_)
    · refine lv_ldc2 hx hb hown (hts _ zk_355) dX1_cleaned_22 ?_
      exact zz_lret hC hZ (⟨by show _ = _; rw [fn_co_cleaned, if_neg c3, if_neg c4], rfl⟩) (Nat.le_of_ble_eq_true rfl) (Nat.le_of_ble_eq_true rfl) dX1_cleaned_25
    · refine lv_ldc2 hx hb hown (hts _ zk_386) dX1_cleaned_16 ?_
      refine lv_goto (tgt := 25) hx hb dX1_cleaned_19 (by decide) ?_
      exact zz_lret hC hZ (⟨by show _ = _; rw [fn_co_cleaned, if_neg c3, if_pos c4], rfl⟩) (Nat.le_of_ble_eq_true rfl) (Nat.le_of_ble_eq_true rfl) dX1_cleaned_25
  · refine lv_lload_n hx hb dX1_cleaned_8 rfl (lv_at hl 1 rfl) ?_
    exact zz_lret hC hZ (⟨by show _ = _; rw [fn_co_cleaned, if_pos c3], rfl⟩) (Nat.le_of_ble_eq_true rfl) (Nat.le_of_ble_eq_true rfl) dX1_cleaned_9
theorem dg_X1_reaches_0 : (decode cX1_reaches 0 = .ok (.iload_n 0, 1)) ∧ (decode cX1_reaches 1 = .ok (.iload_n 1, 1)) ∧ (decode cX1_reaches 2 = .ok (.if_icmp .eq 13, 3)) ∧ (decode cX1_reaches 5 = .ok (.iload_n 0, 1)) ∧ (decode cX1_reaches 6 = .ok (.iconst 2, 1)) ∧ (decode cX1_reaches 7 = .ok (.if_icmp .ne 10, 3)) ∧ (decode cX1_reaches 10 = .ok (.iload_n 1, 1)) ∧ (decode cX1_reaches 11 = .ok (.iconst 3, 1)) ∧ (decode cX1_reaches 12 = .ok (.if_icmp .ne 5, 3)) ∧ (decode cX1_reaches 15 = .ok (.iconst 1, 1)) ∧ (decode cX1_reaches 16 = .ok (.ireturn, 1)) ∧ (decode cX1_reaches 17 = .ok (.iload_n 0, 1)) ∧ (decode cX1_reaches 18 = .ok (.iconst 1, 1)) ∧ (decode cX1_reaches 19 = .ok (.if_icmp .lt 23, 3)) ∧ (decode cX1_reaches 22 = .ok (.iload_n 0, 1)) ∧ (decode cX1_reaches 23 = .ok (.iload_n 1, 1)) := by decide +kernel
theorem dX1_reaches_0 : decode cX1_reaches 0 = .ok (.iload_n 0, 1) := dg_X1_reaches_0.1
theorem dX1_reaches_1 : decode cX1_reaches 1 = .ok (.iload_n 1, 1) := dg_X1_reaches_0.2.1
theorem dX1_reaches_2 : decode cX1_reaches 2 = .ok (.if_icmp .eq 13, 3) := dg_X1_reaches_0.2.2.1
theorem dX1_reaches_5 : decode cX1_reaches 5 = .ok (.iload_n 0, 1) := dg_X1_reaches_0.2.2.2.1
theorem dX1_reaches_6 : decode cX1_reaches 6 = .ok (.iconst 2, 1) := dg_X1_reaches_0.2.2.2.2.1
theorem dX1_reaches_7 : decode cX1_reaches 7 = .ok (.if_icmp .ne 10, 3) := dg_X1_reaches_0.2.2.2.2.2.1
theorem dX1_reaches_10 : decode cX1_reaches 10 = .ok (.iload_n 1, 1) := dg_X1_reaches_0.2.2.2.2.2.2.1
theorem dX1_reaches_11 : decode cX1_reaches 11 = .ok (.iconst 3, 1) := dg_X1_reaches_0.2.2.2.2.2.2.2.1
theorem dX1_reaches_12 : decode cX1_reaches 12 = .ok (.if_icmp .ne 5, 3) := dg_X1_reaches_0.2.2.2.2.2.2.2.2.1
theorem dX1_reaches_15 : decode cX1_reaches 15 = .ok (.iconst 1, 1) := dg_X1_reaches_0.2.2.2.2.2.2.2.2.2.1
theorem dX1_reaches_16 : decode cX1_reaches 16 = .ok (.ireturn, 1) := dg_X1_reaches_0.2.2.2.2.2.2.2.2.2.2.1
theorem dX1_reaches_17 : decode cX1_reaches 17 = .ok (.iload_n 0, 1) := dg_X1_reaches_0.2.2.2.2.2.2.2.2.2.2.2.1
theorem dX1_reaches_18 : decode cX1_reaches 18 = .ok (.iconst 1, 1) := dg_X1_reaches_0.2.2.2.2.2.2.2.2.2.2.2.2.1
theorem dX1_reaches_19 : decode cX1_reaches 19 = .ok (.if_icmp .lt 23, 3) := dg_X1_reaches_0.2.2.2.2.2.2.2.2.2.2.2.2.2.1
theorem dX1_reaches_22 : decode cX1_reaches 22 = .ok (.iload_n 0, 1) := dg_X1_reaches_0.2.2.2.2.2.2.2.2.2.2.2.2.2.2.1
theorem dX1_reaches_23 : decode cX1_reaches 23 = .ok (.iload_n 1, 1) := dg_X1_reaches_0.2.2.2.2.2.2.2.2.2.2.2.2.2.2.2
theorem dg_X1_reaches_24 : (decode cX1_reaches 24 = .ok (.if_icmp .ge 18, 3)) ∧ (decode cX1_reaches 27 = .ok (.iload_n 1, 1)) ∧ (decode cX1_reaches 28 = .ok (.iconst 4, 1)) ∧ (decode cX1_reaches 29 = .ok (.if_icmp .lt 13, 3)) ∧ (decode cX1_reaches 32 = .ok (.iload_n 1, 1)) ∧ (decode cX1_reaches 33 = .ok (.bipush 7, 2)) ∧ (decode cX1_reaches 35 = .ok (.if_icmp .gt 7, 3)) ∧ (decode cX1_reaches 38 = .ok (.iconst 1, 1)) ∧ (decode cX1_reaches 39 = .ok (.goto 4, 3)) ∧ (decode cX1_reaches 42 = .ok (.iconst 0, 1)) ∧ (decode cX1_reaches 43 = .ok (.ireturn, 1)) := by decide +kernel
theorem dX1_reaches_24 : decode cX1_reaches 24 = .ok (.if_icmp .ge 18, 3) := dg_X1_reaches_24.1
theorem dX1_reaches_27 : decode cX1_reaches 27 = .ok (.iload_n 1, 1) := dg_X1_reaches_24.2.1
theorem dX1_reaches_28 : decode cX1_reaches 28 = .ok (.iconst 4, 1) := dg_X1_reaches_24.2.2.1
theorem dX1_reaches_29 : decode cX1_reaches 29 = .ok (.if_icmp .lt 13, 3) := dg_X1_reaches_24.2.2.2.1
theorem dX1_reaches_32 : decode cX1_reaches 32 = .ok (.iload_n 1, 1) := dg_X1_reaches_24.2.2.2.2.1
theorem dX1_reaches_33 : decode cX1_reaches 33 = .ok (.bipush 7, 2) := dg_X1_reaches_24.2.2.2.2.2.1
theorem dX1_reaches_35 : decode cX1_reaches 35 = .ok (.if_icmp .gt 7, 3) := dg_X1_reaches_24.2.2.2.2.2.2.1
theorem dX1_reaches_38 : decode cX1_reaches 38 = .ok (.iconst 1, 1) := dg_X1_reaches_24.2.2.2.2.2.2.2.1
theorem dX1_reaches_39 : decode cX1_reaches 39 = .ok (.goto 4, 3) := dg_X1_reaches_24.2.2.2.2.2.2.2.2.1
theorem dX1_reaches_42 : decode cX1_reaches 42 = .ok (.iconst 0, 1) := dg_X1_reaches_24.2.2.2.2.2.2.2.2.2.1
theorem dX1_reaches_43 : decode cX1_reaches 43 = .ok (.ireturn, 1) := dg_X1_reaches_24.2.2.2.2.2.2.2.2.2.2
def fn_co_reaches (k : Int32) (j : Int32) : Int32 := (if k = j then 1 else (if k = 2 then (if j = 3 then 1 else (if k < 1 then 0 else (if j ≤ k then 0 else (if j < 4 then 0 else (if 7 < j then 0 else 1))))) else (if k < 1 then 0 else (if j ≤ k then 0 else (if j < 4 then 0 else (if 7 < j then 0 else 1))))))
abbrev rm_co_reaches : Room := { frames := 0, cells := 0, slots := 0, locals := 0 }
abbrev po_co_reaches (g : zz_G) (k : Int32) (j : Int32) : Int32 → va_W → Prop := fun (r : Int32) (u : va_W) => r = fn_co_reaches k j ∧ u = []
set_option maxHeartbeats 4000000 in
set_option maxRecDepth 100000 in
theorem co_reaches (g : zz_G) (k : Int32) (j : Int32) : zz_I g yX1_reaches (.code yX1_reaches cX1_reaches 2 (some .boolean)) rm_co_reaches [.int k, .int j] [] (po_co_reaches g k j) := by
  refine zz_I.intro (own := RX1) (cc := cX1_reaches) (nL := 2) (by decide) rfl (Nat.le_of_ble_eq_true rfl) ?_
  intro p l e s m args below meth c A H locs ls hC hnm hs hZ hl
  obtain ⟨hx, hb, hml, hown, hts, hr, hlocks, hK⟩ := id hC
  have hl : lv_has ls 2 [(0, .int k), (1, .int j)] := hl
  have hZ : zz_Z g A s.heap [] H locs := hZ
  refine lv_iload_n hx hb dX1_reaches_0 rfl (lv_at hl 0 rfl) ?_
  refine lv_iload_n hx hb dX1_reaches_1 rfl (lv_at hl 1 rfl) ?_
  refine lv_icmp_eq (tgt := 15) hx hb dX1_reaches_2 (by decide) (fun c1 => ?_) (fun c1 => ?_)
  · refine lv_iconst (v := 1) hx hb dX1_reaches_15 (by decide) ?_
    exact zz_zret hC hZ (by decide) (⟨by show _ = _; rw [fn_co_reaches, if_pos c1], rfl⟩) (Nat.le_of_ble_eq_true rfl) (Nat.le_of_ble_eq_true rfl) dX1_reaches_16
  · refine lv_iload_n hx hb dX1_reaches_5 rfl (lv_at hl 0 rfl) ?_
    refine lv_iconst (v := 2) hx hb dX1_reaches_6 (by decide) ?_
    refine lv_icmp_ne (tgt := 17) hx hb dX1_reaches_7 (by decide) (fun c2 => ?_) (fun c2 => ?_)
    · refine lv_iload_n hx hb dX1_reaches_17 rfl (lv_at hl 0 rfl) ?_
      refine lv_iconst (v := 1) hx hb dX1_reaches_18 (by decide) ?_
      refine lv_icmp_lt (tgt := 42) hx hb dX1_reaches_19 (by decide) (fun c3 => ?_) (fun c3 => ?_)
      · refine lv_iconst (v := 0) hx hb dX1_reaches_42 (by decide) ?_
        exact zz_zret hC hZ (by decide) (⟨by show _ = _; rw [fn_co_reaches, if_neg c1, if_neg c2, if_pos c3], rfl⟩) (Nat.le_of_ble_eq_true rfl) (Nat.le_of_ble_eq_true rfl) dX1_reaches_43
      · refine lv_iload_n hx hb dX1_reaches_22 rfl (lv_at hl 0 rfl) ?_
        refine lv_iload_n hx hb dX1_reaches_23 rfl (lv_at hl 1 rfl) ?_
        refine lv_icmp_ge (tgt := 42) hx hb dX1_reaches_24 (by decide) (fun c4 => ?_) (fun c4 => ?_)
        · refine lv_iconst (v := 0) hx hb dX1_reaches_42 (by decide) ?_
          exact zz_zret hC hZ (by decide) (⟨by show _ = _; rw [fn_co_reaches, if_neg c1, if_neg c2, if_neg c3, if_pos c4], rfl⟩) (Nat.le_of_ble_eq_true rfl) (Nat.le_of_ble_eq_true rfl) dX1_reaches_43
        · refine lv_iload_n hx hb dX1_reaches_27 rfl (lv_at hl 1 rfl) ?_
          refine lv_iconst (v := 4) hx hb dX1_reaches_28 (by decide) ?_
          refine lv_icmp_lt (tgt := 42) hx hb dX1_reaches_29 (by decide) (fun c5 => ?_) (fun c5 => ?_)
          · refine lv_iconst (v := 0) hx hb dX1_reaches_42 (by decide) ?_
            exact zz_zret hC hZ (by decide) (⟨by show _ = _; rw [fn_co_reaches, if_neg c1, if_neg c2, if_neg c3, if_neg c4, if_pos c5], rfl⟩) (Nat.le_of_ble_eq_true rfl) (Nat.le_of_ble_eq_true rfl) dX1_reaches_43
          · refine lv_iload_n hx hb dX1_reaches_32 rfl (lv_at hl 1 rfl) ?_
            refine lv_bipush (v := 7) hx hb dX1_reaches_33 (by decide) ?_
            refine lv_icmp_gt (tgt := 42) hx hb dX1_reaches_35 (by decide) (fun c6 => ?_) (fun c6 => ?_)
            · refine lv_iconst (v := 0) hx hb dX1_reaches_42 (by decide) ?_
              exact zz_zret hC hZ (by decide) (⟨by show _ = _; rw [fn_co_reaches, if_neg c1, if_neg c2, if_neg c3, if_neg c4, if_neg c5, if_pos c6], rfl⟩) (Nat.le_of_ble_eq_true rfl) (Nat.le_of_ble_eq_true rfl) dX1_reaches_43
            · refine lv_iconst (v := 1) hx hb dX1_reaches_38 (by decide) ?_
              refine lv_goto (tgt := 43) hx hb dX1_reaches_39 (by decide) ?_
              exact zz_zret hC hZ (by decide) (⟨by show _ = _; rw [fn_co_reaches, if_neg c1, if_neg c2, if_neg c3, if_neg c4, if_neg c5, if_neg c6], rfl⟩) (Nat.le_of_ble_eq_true rfl) (Nat.le_of_ble_eq_true rfl) dX1_reaches_43
    · refine lv_iload_n hx hb dX1_reaches_10 rfl (lv_at hl 1 rfl) ?_
      refine lv_iconst (v := 3) hx hb dX1_reaches_11 (by decide) ?_
      refine lv_icmp_ne (tgt := 17) hx hb dX1_reaches_12 (by decide) (fun c7 => ?_) (fun c7 => ?_)
      · refine lv_iload_n hx hb dX1_reaches_17 rfl (lv_at hl 0 rfl) ?_
        refine lv_iconst (v := 1) hx hb dX1_reaches_18 (by decide) ?_
        refine lv_icmp_lt (tgt := 42) hx hb dX1_reaches_19 (by decide) (fun c8 => ?_) (fun c8 => ?_)
        · refine lv_iconst (v := 0) hx hb dX1_reaches_42 (by decide) ?_
          exact zz_zret hC hZ (by decide) (⟨by show _ = _; rw [fn_co_reaches, if_neg c1, if_pos c2, if_neg c7, if_pos c8], rfl⟩) (Nat.le_of_ble_eq_true rfl) (Nat.le_of_ble_eq_true rfl) dX1_reaches_43
        · refine lv_iload_n hx hb dX1_reaches_22 rfl (lv_at hl 0 rfl) ?_
          refine lv_iload_n hx hb dX1_reaches_23 rfl (lv_at hl 1 rfl) ?_
          refine lv_icmp_ge (tgt := 42) hx hb dX1_reaches_24 (by decide) (fun c9 => ?_) (fun c9 => ?_)
          · refine lv_iconst (v := 0) hx hb dX1_reaches_42 (by decide) ?_
            exact zz_zret hC hZ (by decide) (⟨by show _ = _; rw [fn_co_reaches, if_neg c1, if_pos c2, if_neg c7, if_neg c8, if_pos c9], rfl⟩) (Nat.le_of_ble_eq_true rfl) (Nat.le_of_ble_eq_true rfl) dX1_reaches_43
          · refine lv_iload_n hx hb dX1_reaches_27 rfl (lv_at hl 1 rfl) ?_
            refine lv_iconst (v := 4) hx hb dX1_reaches_28 (by decide) ?_
            refine lv_icmp_lt (tgt := 42) hx hb dX1_reaches_29 (by decide) (fun c10 => ?_) (fun c10 => ?_)
            · refine lv_iconst (v := 0) hx hb dX1_reaches_42 (by decide) ?_
              exact zz_zret hC hZ (by decide) (⟨by show _ = _; rw [fn_co_reaches, if_neg c1, if_pos c2, if_neg c7, if_neg c8, if_neg c9, if_pos c10], rfl⟩) (Nat.le_of_ble_eq_true rfl) (Nat.le_of_ble_eq_true rfl) dX1_reaches_43
            · refine lv_iload_n hx hb dX1_reaches_32 rfl (lv_at hl 1 rfl) ?_
              refine lv_bipush (v := 7) hx hb dX1_reaches_33 (by decide) ?_
              refine lv_icmp_gt (tgt := 42) hx hb dX1_reaches_35 (by decide) (fun c11 => ?_) (fun c11 => ?_)
              · refine lv_iconst (v := 0) hx hb dX1_reaches_42 (by decide) ?_
                exact zz_zret hC hZ (by decide) (⟨by show _ = _; rw [fn_co_reaches, if_neg c1, if_pos c2, if_neg c7, if_neg c8, if_neg c9, if_neg c10, if_pos c11], rfl⟩) (Nat.le_of_ble_eq_true rfl) (Nat.le_of_ble_eq_true rfl) dX1_reaches_43
              · refine lv_iconst (v := 1) hx hb dX1_reaches_38 (by decide) ?_
                refine lv_goto (tgt := 43) hx hb dX1_reaches_39 (by decide) ?_
                exact zz_zret hC hZ (by decide) (⟨by show _ = _; rw [fn_co_reaches, if_neg c1, if_pos c2, if_neg c7, if_neg c8, if_neg c9, if_neg c10, if_neg c11], rfl⟩) (Nat.le_of_ble_eq_true rfl) (Nat.le_of_ble_eq_true rfl) dX1_reaches_43
      · refine lv_iconst (v := 1) hx hb dX1_reaches_15 (by decide) ?_
        exact zz_zret hC hZ (by decide) (⟨by show _ = _; rw [fn_co_reaches, if_neg c1, if_pos c2, if_pos c7], rfl⟩) (Nat.le_of_ble_eq_true rfl) (Nat.le_of_ble_eq_true rfl) dX1_reaches_16
theorem dg_X1_rank_0 : (decode cX1_rank 0 = .ok (.lload_n 1, 1)) ∧ (decode cX1_rank 1 = .ok (.lconst 0, 1)) ∧ (decode cX1_rank 2 = .ok (.lcmp, 1)) ∧ (decode cX1_rank 3 = .ok (.ifCond .ge 15, 3)) ∧ (decode cX1_rank 6 = .ok (.iload_n 0, 1)) ∧ (decode cX1_rank 7 = .ok (.bipush 6, 2)) ∧ (decode cX1_rank 9 = .ok (.if_icmp .lt 9, 3)) ∧ (decode cX1_rank 12 = .ok (.iload_n 0, 1)) ∧ (decode cX1_rank 13 = .ok (.bipush 7, 2)) ∧ (decode cX1_rank 15 = .ok (.if_icmp .le 5, 3)) ∧ (decode cX1_rank 18 = .ok (.lload_n 1, 1)) ∧ (decode cX1_rank 19 = .ok (.lreturn, 1)) ∧ (decode cX1_rank 20 = .ok (.iload_n 0, 1)) ∧ (decode cX1_rank 21 = .ok (.bipush 6, 2)) ∧ (decode cX1_rank 23 = .ok (.if_icmp .ne 11, 3)) ∧ (decode cX1_rank 26 = .ok (.lload_n 1, 1)) := by decide +kernel
theorem dX1_rank_0 : decode cX1_rank 0 = .ok (.lload_n 1, 1) := dg_X1_rank_0.1
theorem dX1_rank_1 : decode cX1_rank 1 = .ok (.lconst 0, 1) := dg_X1_rank_0.2.1
theorem dX1_rank_2 : decode cX1_rank 2 = .ok (.lcmp, 1) := dg_X1_rank_0.2.2.1
theorem dX1_rank_3 : decode cX1_rank 3 = .ok (.ifCond .ge 15, 3) := dg_X1_rank_0.2.2.2.1
theorem dX1_rank_6 : decode cX1_rank 6 = .ok (.iload_n 0, 1) := dg_X1_rank_0.2.2.2.2.1
theorem dX1_rank_7 : decode cX1_rank 7 = .ok (.bipush 6, 2) := dg_X1_rank_0.2.2.2.2.2.1
theorem dX1_rank_9 : decode cX1_rank 9 = .ok (.if_icmp .lt 9, 3) := dg_X1_rank_0.2.2.2.2.2.2.1
theorem dX1_rank_12 : decode cX1_rank 12 = .ok (.iload_n 0, 1) := dg_X1_rank_0.2.2.2.2.2.2.2.1
theorem dX1_rank_13 : decode cX1_rank 13 = .ok (.bipush 7, 2) := dg_X1_rank_0.2.2.2.2.2.2.2.2.1
theorem dX1_rank_15 : decode cX1_rank 15 = .ok (.if_icmp .le 5, 3) := dg_X1_rank_0.2.2.2.2.2.2.2.2.2.1
theorem dX1_rank_18 : decode cX1_rank 18 = .ok (.lload_n 1, 1) := dg_X1_rank_0.2.2.2.2.2.2.2.2.2.2.1
theorem dX1_rank_19 : decode cX1_rank 19 = .ok (.lreturn, 1) := dg_X1_rank_0.2.2.2.2.2.2.2.2.2.2.2.1
theorem dX1_rank_20 : decode cX1_rank 20 = .ok (.iload_n 0, 1) := dg_X1_rank_0.2.2.2.2.2.2.2.2.2.2.2.2.1
theorem dX1_rank_21 : decode cX1_rank 21 = .ok (.bipush 6, 2) := dg_X1_rank_0.2.2.2.2.2.2.2.2.2.2.2.2.2.1
theorem dX1_rank_23 : decode cX1_rank 23 = .ok (.if_icmp .ne 11, 3) := dg_X1_rank_0.2.2.2.2.2.2.2.2.2.2.2.2.2.2.1
theorem dX1_rank_26 : decode cX1_rank 26 = .ok (.lload_n 1, 1) := dg_X1_rank_0.2.2.2.2.2.2.2.2.2.2.2.2.2.2.2
theorem dg_X1_rank_27 : (decode cX1_rank 27 = .ok (.ldc2_w 22, 3)) ∧ (decode cX1_rank 30 = .ok (.lxor, 1)) ∧ (decode cX1_rank 31 = .ok (.goto 8, 3)) ∧ (decode cX1_rank 34 = .ok (.lload_n 1, 1)) ∧ (decode cX1_rank 35 = .ok (.ldc2_w 26, 3)) ∧ (decode cX1_rank 38 = .ok (.lxor, 1)) ∧ (decode cX1_rank 39 = .ok (.lreturn, 1)) := by decide +kernel
theorem dX1_rank_27 : decode cX1_rank 27 = .ok (.ldc2_w 22, 3) := dg_X1_rank_27.1
theorem dX1_rank_30 : decode cX1_rank 30 = .ok (.lxor, 1) := dg_X1_rank_27.2.1
theorem dX1_rank_31 : decode cX1_rank 31 = .ok (.goto 8, 3) := dg_X1_rank_27.2.2.1
theorem dX1_rank_34 : decode cX1_rank 34 = .ok (.lload_n 1, 1) := dg_X1_rank_27.2.2.2.1
theorem dX1_rank_35 : decode cX1_rank 35 = .ok (.ldc2_w 26, 3) := dg_X1_rank_27.2.2.2.2.1
theorem dX1_rank_38 : decode cX1_rank 38 = .ok (.lxor, 1) := dg_X1_rank_27.2.2.2.2.2.1
theorem dX1_rank_39 : decode cX1_rank 39 = .ok (.lreturn, 1) := dg_X1_rank_27.2.2.2.2.2.2
def fn_co_rank (k : Int32) (x : Int64) : Int64 := (if 0 ≤ x then x else (if k < 6 then x else (if k ≤ 7 then (if k = 6 then x ^^^ 2147483647 else x ^^^ 9223372036854775807) else x)))
abbrev rm_co_rank : Room := { frames := 0, cells := 0, slots := 0, locals := 0 }
abbrev po_co_rank (g : zz_G) (k : Int32) (x : Int64) : Int64 → va_W → Prop := fun (r : Int64) (u : va_W) => r = fn_co_rank k x ∧ u = []
set_option maxHeartbeats 4000000 in
set_option maxRecDepth 100000 in
theorem co_rank (g : zz_G) (k : Int32) (x : Int64) : zz_L g yX1_rank (.code yX1_rank cX1_rank 3 (some .long)) rm_co_rank [.int k, .long x] [] (po_co_rank g k x) := by
  refine zz_L.intro (own := RX1) (cc := cX1_rank) (nL := 3) (by decide) rfl (Nat.le_of_ble_eq_true rfl) ?_
  intro p l e s m args below meth c A H locs ls hC hnm hs hZ hl
  obtain ⟨hx, hb, hml, hown, hts, hr, hlocks, hK⟩ := id hC
  have hl : lv_has ls 3 [(0, .int k), (1, .long x)] := hl
  have hZ : zz_Z g A s.heap [] H locs := hZ
  refine lv_lload_n hx hb dX1_rank_0 rfl (lv_at hl 1 rfl) ?_
  refine lv_lconst (v := 0) hx hb dX1_rank_1 (by decide) ?_
  refine zz_lcmp_ge (tgt := 18) hC dX1_rank_2 dX1_rank_3 (by decide) (fun c1 => ?_) (fun c1 => ?_)
  · refine lv_lload_n hx hb dX1_rank_18 rfl (lv_at hl 1 rfl) ?_
    exact zz_lret hC hZ (⟨by show _ = _; rw [fn_co_rank, if_pos c1], rfl⟩) (Nat.le_of_ble_eq_true rfl) (Nat.le_of_ble_eq_true rfl) dX1_rank_19
  · refine lv_iload_n hx hb dX1_rank_6 rfl (lv_at hl 0 rfl) ?_
    refine lv_bipush (v := 6) hx hb dX1_rank_7 (by decide) ?_
    refine lv_icmp_lt (tgt := 18) hx hb dX1_rank_9 (by decide) (fun c2 => ?_) (fun c2 => ?_)
    · refine lv_lload_n hx hb dX1_rank_18 rfl (lv_at hl 1 rfl) ?_
      exact zz_lret hC hZ (⟨by show _ = _; rw [fn_co_rank, if_neg c1, if_pos c2], rfl⟩) (Nat.le_of_ble_eq_true rfl) (Nat.le_of_ble_eq_true rfl) dX1_rank_19
    · refine lv_iload_n hx hb dX1_rank_12 rfl (lv_at hl 0 rfl) ?_
      refine lv_bipush (v := 7) hx hb dX1_rank_13 (by decide) ?_
      refine lv_icmp_le (tgt := 20) hx hb dX1_rank_15 (by decide) (fun c3 => ?_) (fun c3 => ?_)
      · refine lv_iload_n hx hb dX1_rank_20 rfl (lv_at hl 0 rfl) ?_
        refine lv_bipush (v := 6) hx hb dX1_rank_21 (by decide) ?_
        refine lv_icmp_ne (tgt := 34) hx hb dX1_rank_23 (by decide) (fun c4 => ?_) (fun c4 => ?_)
        · refine lv_lload_n hx hb dX1_rank_34 rfl (lv_at hl 1 rfl) ?_
          refine lv_ldc2 hx hb hown (hts _ zk_385) dX1_rank_35 ?_
          refine lv_lxor hx hb dX1_rank_38 ?_
          exact zz_lret hC hZ (⟨by show _ = _; rw [fn_co_rank, if_neg c1, if_neg c2, if_pos c3, if_neg c4], rfl⟩) (Nat.le_of_ble_eq_true rfl) (Nat.le_of_ble_eq_true rfl) dX1_rank_39
        · refine lv_lload_n hx hb dX1_rank_26 rfl (lv_at hl 1 rfl) ?_
          refine lv_ldc2 hx hb hown (hts _ zk_383) dX1_rank_27 ?_
          refine lv_lxor hx hb dX1_rank_30 ?_
          refine lv_goto (tgt := 39) hx hb dX1_rank_31 (by decide) ?_
          exact zz_lret hC hZ (⟨by show _ = _; rw [fn_co_rank, if_neg c1, if_neg c2, if_pos c3, if_pos c4], rfl⟩) (Nat.le_of_ble_eq_true rfl) (Nat.le_of_ble_eq_true rfl) dX1_rank_39
      · refine lv_lload_n hx hb dX1_rank_18 rfl (lv_at hl 1 rfl) ?_
        exact zz_lret hC hZ (⟨by show _ = _; rw [fn_co_rank, if_neg c1, if_neg c2, if_neg c3], rfl⟩) (Nat.le_of_ble_eq_true rfl) (Nat.le_of_ble_eq_true rfl) dX1_rank_19
theorem dg_X1_hashOf_0 : (decode cX1_hashOf 0 = .ok (.iload_n 0, 1)) ∧ (decode cX1_hashOf 1 = .ok (.ifCond .ne 19, 3)) ∧ (decode cX1_hashOf 4 = .ok (.lload_n 1, 1)) ∧ (decode cX1_hashOf 5 = .ok (.lconst 1, 1)) ∧ (decode cX1_hashOf 6 = .ok (.lcmp, 1)) ∧ (decode cX1_hashOf 7 = .ok (.ifCond .ne 9, 3)) ∧ (decode cX1_hashOf 10 = .ok (.sipush 1231, 3)) ∧ (decode cX1_hashOf 13 = .ok (.goto 6, 3)) ∧ (decode cX1_hashOf 16 = .ok (.sipush 1237, 3)) ∧ (decode cX1_hashOf 19 = .ok (.ireturn, 1)) ∧ (decode cX1_hashOf 20 = .ok (.iload_n 0, 1)) ∧ (decode cX1_hashOf 21 = .ok (.iconst 5, 1)) ∧ (decode cX1_hashOf 22 = .ok (.if_icmp .eq 9, 3)) ∧ (decode cX1_hashOf 25 = .ok (.iload_n 0, 1)) ∧ (decode cX1_hashOf 26 = .ok (.bipush 7, 2)) ∧ (decode cX1_hashOf 28 = .ok (.if_icmp .ne 11, 3)) := by decide +kernel
theorem dX1_hashOf_0 : decode cX1_hashOf 0 = .ok (.iload_n 0, 1) := dg_X1_hashOf_0.1
theorem dX1_hashOf_1 : decode cX1_hashOf 1 = .ok (.ifCond .ne 19, 3) := dg_X1_hashOf_0.2.1
theorem dX1_hashOf_4 : decode cX1_hashOf 4 = .ok (.lload_n 1, 1) := dg_X1_hashOf_0.2.2.1
theorem dX1_hashOf_5 : decode cX1_hashOf 5 = .ok (.lconst 1, 1) := dg_X1_hashOf_0.2.2.2.1
theorem dX1_hashOf_6 : decode cX1_hashOf 6 = .ok (.lcmp, 1) := dg_X1_hashOf_0.2.2.2.2.1
theorem dX1_hashOf_7 : decode cX1_hashOf 7 = .ok (.ifCond .ne 9, 3) := dg_X1_hashOf_0.2.2.2.2.2.1
theorem dX1_hashOf_10 : decode cX1_hashOf 10 = .ok (.sipush 1231, 3) := dg_X1_hashOf_0.2.2.2.2.2.2.1
theorem dX1_hashOf_13 : decode cX1_hashOf 13 = .ok (.goto 6, 3) := dg_X1_hashOf_0.2.2.2.2.2.2.2.1
theorem dX1_hashOf_16 : decode cX1_hashOf 16 = .ok (.sipush 1237, 3) := dg_X1_hashOf_0.2.2.2.2.2.2.2.2.1
theorem dX1_hashOf_19 : decode cX1_hashOf 19 = .ok (.ireturn, 1) := dg_X1_hashOf_0.2.2.2.2.2.2.2.2.2.1
theorem dX1_hashOf_20 : decode cX1_hashOf 20 = .ok (.iload_n 0, 1) := dg_X1_hashOf_0.2.2.2.2.2.2.2.2.2.2.1
theorem dX1_hashOf_21 : decode cX1_hashOf 21 = .ok (.iconst 5, 1) := dg_X1_hashOf_0.2.2.2.2.2.2.2.2.2.2.2.1
theorem dX1_hashOf_22 : decode cX1_hashOf 22 = .ok (.if_icmp .eq 9, 3) := dg_X1_hashOf_0.2.2.2.2.2.2.2.2.2.2.2.2.1
theorem dX1_hashOf_25 : decode cX1_hashOf 25 = .ok (.iload_n 0, 1) := dg_X1_hashOf_0.2.2.2.2.2.2.2.2.2.2.2.2.2.1
theorem dX1_hashOf_26 : decode cX1_hashOf 26 = .ok (.bipush 7, 2) := dg_X1_hashOf_0.2.2.2.2.2.2.2.2.2.2.2.2.2.2.1
theorem dX1_hashOf_28 : decode cX1_hashOf 28 = .ok (.if_icmp .ne 11, 3) := dg_X1_hashOf_0.2.2.2.2.2.2.2.2.2.2.2.2.2.2.2
theorem dg_X1_hashOf_31 : (decode cX1_hashOf 31 = .ok (.lload_n 1, 1)) ∧ (decode cX1_hashOf 32 = .ok (.lload_n 1, 1)) ∧ (decode cX1_hashOf 33 = .ok (.bipush 32, 2)) ∧ (decode cX1_hashOf 35 = .ok (.lushr, 1)) ∧ (decode cX1_hashOf 36 = .ok (.lxor, 1)) ∧ (decode cX1_hashOf 37 = .ok (.l2i, 1)) ∧ (decode cX1_hashOf 38 = .ok (.ireturn, 1)) ∧ (decode cX1_hashOf 39 = .ok (.lload_n 1, 1)) ∧ (decode cX1_hashOf 40 = .ok (.l2i, 1)) ∧ (decode cX1_hashOf 41 = .ok (.ireturn, 1)) := by decide +kernel
theorem dX1_hashOf_31 : decode cX1_hashOf 31 = .ok (.lload_n 1, 1) := dg_X1_hashOf_31.1
theorem dX1_hashOf_32 : decode cX1_hashOf 32 = .ok (.lload_n 1, 1) := dg_X1_hashOf_31.2.1
theorem dX1_hashOf_33 : decode cX1_hashOf 33 = .ok (.bipush 32, 2) := dg_X1_hashOf_31.2.2.1
theorem dX1_hashOf_35 : decode cX1_hashOf 35 = .ok (.lushr, 1) := dg_X1_hashOf_31.2.2.2.1
theorem dX1_hashOf_36 : decode cX1_hashOf 36 = .ok (.lxor, 1) := dg_X1_hashOf_31.2.2.2.2.1
theorem dX1_hashOf_37 : decode cX1_hashOf 37 = .ok (.l2i, 1) := dg_X1_hashOf_31.2.2.2.2.2.1
theorem dX1_hashOf_38 : decode cX1_hashOf 38 = .ok (.ireturn, 1) := dg_X1_hashOf_31.2.2.2.2.2.2.1
theorem dX1_hashOf_39 : decode cX1_hashOf 39 = .ok (.lload_n 1, 1) := dg_X1_hashOf_31.2.2.2.2.2.2.2.1
theorem dX1_hashOf_40 : decode cX1_hashOf 40 = .ok (.l2i, 1) := dg_X1_hashOf_31.2.2.2.2.2.2.2.2.1
theorem dX1_hashOf_41 : decode cX1_hashOf 41 = .ok (.ireturn, 1) := dg_X1_hashOf_31.2.2.2.2.2.2.2.2.2
def fn_co_hashOf (k : Int32) (x : Int64) : Int32 := (if k = 0 then (if x = 1 then 1231 else 1237) else (if k = 5 then (x ^^^ ((x.toUInt64 >>> ((32 : Int32).toInt64.toUInt64 &&& Int64.toUInt64 63)).toInt64)).toInt32 else (if k = 7 then (x ^^^ ((x.toUInt64 >>> ((32 : Int32).toInt64.toUInt64 &&& Int64.toUInt64 63)).toInt64)).toInt32 else x.toInt32)))
abbrev rm_co_hashOf : Room := { frames := 0, cells := 0, slots := 0, locals := 0 }
abbrev po_co_hashOf (g : zz_G) (k : Int32) (x : Int64) : Int32 → va_W → Prop := fun (r : Int32) (u : va_W) => r = fn_co_hashOf k x ∧ u = []
set_option maxHeartbeats 4000000 in
set_option maxRecDepth 100000 in
theorem co_hashOf (g : zz_G) (k : Int32) (x : Int64) : zz_I g yX1_hashOf (.code yX1_hashOf cX1_hashOf 3 (some .int)) rm_co_hashOf [.int k, .long x] [] (po_co_hashOf g k x) := by
  refine zz_I.intro (own := RX1) (cc := cX1_hashOf) (nL := 3) (by decide) rfl (Nat.le_of_ble_eq_true rfl) ?_
  intro p l e s m args below meth c A H locs ls hC hnm hs hZ hl
  obtain ⟨hx, hb, hml, hown, hts, hr, hlocks, hK⟩ := id hC
  have hl : lv_has ls 3 [(0, .int k), (1, .long x)] := hl
  have hZ : zz_Z g A s.heap [] H locs := hZ
  refine lv_iload_n hx hb dX1_hashOf_0 rfl (lv_at hl 0 rfl) ?_
  refine lv_if_ne (tgt := 20) hx hb dX1_hashOf_1 (by decide) (fun c1 => ?_) (fun c1 => ?_)
  · refine lv_iload_n hx hb dX1_hashOf_20 rfl (lv_at hl 0 rfl) ?_
    refine lv_iconst (v := 5) hx hb dX1_hashOf_21 (by decide) ?_
    refine lv_icmp_eq (tgt := 31) hx hb dX1_hashOf_22 (by decide) (fun c2 => ?_) (fun c2 => ?_)
    · refine lv_lload_n hx hb dX1_hashOf_31 rfl (lv_at hl 1 rfl) ?_
      refine lv_lload_n hx hb dX1_hashOf_32 rfl (lv_at hl 1 rfl) ?_
      refine lv_bipush (v := 32) hx hb dX1_hashOf_33 (by decide) ?_
      refine lv_lushr hx hb dX1_hashOf_35 rfl ?_
      refine lv_lxor hx hb dX1_hashOf_36 ?_
      refine lv_l2i hx hb dX1_hashOf_37 rfl ?_
      exact zz_iret hC hZ (⟨by show _ = _; rw [fn_co_hashOf, if_neg c1, if_pos c2], rfl⟩) (Nat.le_of_ble_eq_true rfl) (Nat.le_of_ble_eq_true rfl) dX1_hashOf_38
    · refine lv_iload_n hx hb dX1_hashOf_25 rfl (lv_at hl 0 rfl) ?_
      refine lv_bipush (v := 7) hx hb dX1_hashOf_26 (by decide) ?_
      refine lv_icmp_ne (tgt := 39) hx hb dX1_hashOf_28 (by decide) (fun c3 => ?_) (fun c3 => ?_)
      · refine lv_lload_n hx hb dX1_hashOf_39 rfl (lv_at hl 1 rfl) ?_
        refine lv_l2i hx hb dX1_hashOf_40 rfl ?_
        exact zz_iret hC hZ (⟨by show _ = _; rw [fn_co_hashOf, if_neg c1, if_neg c2, if_neg c3], rfl⟩) (Nat.le_of_ble_eq_true rfl) (Nat.le_of_ble_eq_true rfl) dX1_hashOf_41
      · refine lv_lload_n hx hb dX1_hashOf_31 rfl (lv_at hl 1 rfl) ?_
        refine lv_lload_n hx hb dX1_hashOf_32 rfl (lv_at hl 1 rfl) ?_
        refine lv_bipush (v := 32) hx hb dX1_hashOf_33 (by decide) ?_
        refine lv_lushr hx hb dX1_hashOf_35 rfl ?_
        refine lv_lxor hx hb dX1_hashOf_36 ?_
        refine lv_l2i hx hb dX1_hashOf_37 rfl ?_
        exact zz_iret hC hZ (⟨by show _ = _; rw [fn_co_hashOf, if_neg c1, if_neg c2, if_pos c3], rfl⟩) (Nat.le_of_ble_eq_true rfl) (Nat.le_of_ble_eq_true rfl) dX1_hashOf_38
  · refine lv_lload_n hx hb dX1_hashOf_4 rfl (lv_at hl 1 rfl) ?_
    refine lv_lconst (v := 1) hx hb dX1_hashOf_5 (by decide) ?_
    refine zz_lcmp_ne (tgt := 16) hC dX1_hashOf_6 dX1_hashOf_7 (by decide) (fun c4 => ?_) (fun c4 => ?_)
    · refine lv_sipush (v := 1237) hx hb dX1_hashOf_16 (by decide) ?_
      exact zz_iret hC hZ (⟨by show _ = _; rw [fn_co_hashOf, if_pos c1, if_neg c4], rfl⟩) (Nat.le_of_ble_eq_true rfl) (Nat.le_of_ble_eq_true rfl) dX1_hashOf_19
    · refine lv_sipush (v := 1231) hx hb dX1_hashOf_10 (by decide) ?_
      refine lv_goto (tgt := 19) hx hb dX1_hashOf_13 (by decide) ?_
      exact zz_iret hC hZ (⟨by show _ = _; rw [fn_co_hashOf, if_pos c1, if_pos c4], rfl⟩) (Nat.le_of_ble_eq_true rfl) (Nat.le_of_ble_eq_true rfl) dX1_hashOf_19
theorem dg_X1_alike_0 : (decode cX1_alike 0 = .ok (.iload_n 0, 1)) ∧ (decode cX1_alike 1 = .ok (.bipush 6, 2)) ∧ (decode cX1_alike 3 = .ok (.if_icmp .ne 43, 3)) ∧ (decode cX1_alike 6 = .ok (.lload_n 1, 1)) ∧ (decode cX1_alike 7 = .ok (.lload_n 3, 1)) ∧ (decode cX1_alike 8 = .ok (.lcmp, 1)) ∧ (decode cX1_alike 9 = .ok (.ifCond .ne 19, 3)) ∧ (decode cX1_alike 12 = .ok (.lload_n 1, 1)) ∧ (decode cX1_alike 13 = .ok (.ldc2_w 34, 3)) ∧ (decode cX1_alike 16 = .ok (.lcmp, 1)) ∧ (decode cX1_alike 17 = .ok (.ifCond .eq 7, 3)) ∧ (decode cX1_alike 20 = .ok (.iconst 1, 1)) ∧ (decode cX1_alike 21 = .ok (.goto 24, 3)) ∧ (decode cX1_alike 24 = .ok (.iconst 0, 1)) ∧ (decode cX1_alike 25 = .ok (.goto 20, 3)) ∧ (decode cX1_alike 28 = .ok (.lload_n 1, 1)) := by decide +kernel
theorem dX1_alike_0 : decode cX1_alike 0 = .ok (.iload_n 0, 1) := dg_X1_alike_0.1
theorem dX1_alike_1 : decode cX1_alike 1 = .ok (.bipush 6, 2) := dg_X1_alike_0.2.1
theorem dX1_alike_3 : decode cX1_alike 3 = .ok (.if_icmp .ne 43, 3) := dg_X1_alike_0.2.2.1
theorem dX1_alike_6 : decode cX1_alike 6 = .ok (.lload_n 1, 1) := dg_X1_alike_0.2.2.2.1
theorem dX1_alike_7 : decode cX1_alike 7 = .ok (.lload_n 3, 1) := dg_X1_alike_0.2.2.2.2.1
theorem dX1_alike_8 : decode cX1_alike 8 = .ok (.lcmp, 1) := dg_X1_alike_0.2.2.2.2.2.1
theorem dX1_alike_9 : decode cX1_alike 9 = .ok (.ifCond .ne 19, 3) := dg_X1_alike_0.2.2.2.2.2.2.1
theorem dX1_alike_12 : decode cX1_alike 12 = .ok (.lload_n 1, 1) := dg_X1_alike_0.2.2.2.2.2.2.2.1
theorem dX1_alike_13 : decode cX1_alike 13 = .ok (.ldc2_w 34, 3) := dg_X1_alike_0.2.2.2.2.2.2.2.2.1
theorem dX1_alike_16 : decode cX1_alike 16 = .ok (.lcmp, 1) := dg_X1_alike_0.2.2.2.2.2.2.2.2.2.1
theorem dX1_alike_17 : decode cX1_alike 17 = .ok (.ifCond .eq 7, 3) := dg_X1_alike_0.2.2.2.2.2.2.2.2.2.2.1
theorem dX1_alike_20 : decode cX1_alike 20 = .ok (.iconst 1, 1) := dg_X1_alike_0.2.2.2.2.2.2.2.2.2.2.2.1
theorem dX1_alike_21 : decode cX1_alike 21 = .ok (.goto 24, 3) := dg_X1_alike_0.2.2.2.2.2.2.2.2.2.2.2.2.1
theorem dX1_alike_24 : decode cX1_alike 24 = .ok (.iconst 0, 1) := dg_X1_alike_0.2.2.2.2.2.2.2.2.2.2.2.2.2.1
theorem dX1_alike_25 : decode cX1_alike 25 = .ok (.goto 20, 3) := dg_X1_alike_0.2.2.2.2.2.2.2.2.2.2.2.2.2.2.1
theorem dX1_alike_28 : decode cX1_alike 28 = .ok (.lload_n 1, 1) := dg_X1_alike_0.2.2.2.2.2.2.2.2.2.2.2.2.2.2.2
theorem dg_X1_alike_29 : (decode cX1_alike 29 = .ok (.lload_n 3, 1)) ∧ (decode cX1_alike 30 = .ok (.lor, 1)) ∧ (decode cX1_alike 31 = .ok (.ldc2_w 22, 3)) ∧ (decode cX1_alike 34 = .ok (.land, 1)) ∧ (decode cX1_alike 35 = .ok (.lconst 0, 1)) ∧ (decode cX1_alike 36 = .ok (.lcmp, 1)) ∧ (decode cX1_alike 37 = .ok (.ifCond .ne 7, 3)) ∧ (decode cX1_alike 40 = .ok (.iconst 1, 1)) ∧ (decode cX1_alike 41 = .ok (.goto 4, 3)) ∧ (decode cX1_alike 44 = .ok (.iconst 0, 1)) ∧ (decode cX1_alike 45 = .ok (.ireturn, 1)) ∧ (decode cX1_alike 46 = .ok (.iload_n 0, 1)) ∧ (decode cX1_alike 47 = .ok (.bipush 7, 2)) ∧ (decode cX1_alike 49 = .ok (.if_icmp .ne 43, 3)) ∧ (decode cX1_alike 52 = .ok (.lload_n 1, 1)) ∧ (decode cX1_alike 53 = .ok (.lload_n 3, 1)) := by decide +kernel
theorem dX1_alike_29 : decode cX1_alike 29 = .ok (.lload_n 3, 1) := dg_X1_alike_29.1
theorem dX1_alike_30 : decode cX1_alike 30 = .ok (.lor, 1) := dg_X1_alike_29.2.1
theorem dX1_alike_31 : decode cX1_alike 31 = .ok (.ldc2_w 22, 3) := dg_X1_alike_29.2.2.1
theorem dX1_alike_34 : decode cX1_alike 34 = .ok (.land, 1) := dg_X1_alike_29.2.2.2.1
theorem dX1_alike_35 : decode cX1_alike 35 = .ok (.lconst 0, 1) := dg_X1_alike_29.2.2.2.2.1
theorem dX1_alike_36 : decode cX1_alike 36 = .ok (.lcmp, 1) := dg_X1_alike_29.2.2.2.2.2.1
theorem dX1_alike_37 : decode cX1_alike 37 = .ok (.ifCond .ne 7, 3) := dg_X1_alike_29.2.2.2.2.2.2.1
theorem dX1_alike_40 : decode cX1_alike 40 = .ok (.iconst 1, 1) := dg_X1_alike_29.2.2.2.2.2.2.2.1
theorem dX1_alike_41 : decode cX1_alike 41 = .ok (.goto 4, 3) := dg_X1_alike_29.2.2.2.2.2.2.2.2.1
theorem dX1_alike_44 : decode cX1_alike 44 = .ok (.iconst 0, 1) := dg_X1_alike_29.2.2.2.2.2.2.2.2.2.1
theorem dX1_alike_45 : decode cX1_alike 45 = .ok (.ireturn, 1) := dg_X1_alike_29.2.2.2.2.2.2.2.2.2.2.1
theorem dX1_alike_46 : decode cX1_alike 46 = .ok (.iload_n 0, 1) := dg_X1_alike_29.2.2.2.2.2.2.2.2.2.2.2.1
theorem dX1_alike_47 : decode cX1_alike 47 = .ok (.bipush 7, 2) := dg_X1_alike_29.2.2.2.2.2.2.2.2.2.2.2.2.1
theorem dX1_alike_49 : decode cX1_alike 49 = .ok (.if_icmp .ne 43, 3) := dg_X1_alike_29.2.2.2.2.2.2.2.2.2.2.2.2.2.1
theorem dX1_alike_52 : decode cX1_alike 52 = .ok (.lload_n 1, 1) := dg_X1_alike_29.2.2.2.2.2.2.2.2.2.2.2.2.2.2.1
theorem dX1_alike_53 : decode cX1_alike 53 = .ok (.lload_n 3, 1) := dg_X1_alike_29.2.2.2.2.2.2.2.2.2.2.2.2.2.2.2
theorem dg_X1_alike_54 : (decode cX1_alike 54 = .ok (.lcmp, 1)) ∧ (decode cX1_alike 55 = .ok (.ifCond .ne 19, 3)) ∧ (decode cX1_alike 58 = .ok (.lload_n 1, 1)) ∧ (decode cX1_alike 59 = .ok (.ldc2_w 36, 3)) ∧ (decode cX1_alike 62 = .ok (.lcmp, 1)) ∧ (decode cX1_alike 63 = .ok (.ifCond .eq 7, 3)) ∧ (decode cX1_alike 66 = .ok (.iconst 1, 1)) ∧ (decode cX1_alike 67 = .ok (.goto 24, 3)) ∧ (decode cX1_alike 70 = .ok (.iconst 0, 1)) ∧ (decode cX1_alike 71 = .ok (.goto 20, 3)) ∧ (decode cX1_alike 74 = .ok (.lload_n 1, 1)) ∧ (decode cX1_alike 75 = .ok (.lload_n 3, 1)) ∧ (decode cX1_alike 76 = .ok (.lor, 1)) ∧ (decode cX1_alike 77 = .ok (.ldc2_w 26, 3)) ∧ (decode cX1_alike 80 = .ok (.land, 1)) ∧ (decode cX1_alike 81 = .ok (.lconst 0, 1)) := by decide +kernel
theorem dX1_alike_54 : decode cX1_alike 54 = .ok (.lcmp, 1) := dg_X1_alike_54.1
theorem dX1_alike_55 : decode cX1_alike 55 = .ok (.ifCond .ne 19, 3) := dg_X1_alike_54.2.1
theorem dX1_alike_58 : decode cX1_alike 58 = .ok (.lload_n 1, 1) := dg_X1_alike_54.2.2.1
theorem dX1_alike_59 : decode cX1_alike 59 = .ok (.ldc2_w 36, 3) := dg_X1_alike_54.2.2.2.1
theorem dX1_alike_62 : decode cX1_alike 62 = .ok (.lcmp, 1) := dg_X1_alike_54.2.2.2.2.1
theorem dX1_alike_63 : decode cX1_alike 63 = .ok (.ifCond .eq 7, 3) := dg_X1_alike_54.2.2.2.2.2.1
theorem dX1_alike_66 : decode cX1_alike 66 = .ok (.iconst 1, 1) := dg_X1_alike_54.2.2.2.2.2.2.1
theorem dX1_alike_67 : decode cX1_alike 67 = .ok (.goto 24, 3) := dg_X1_alike_54.2.2.2.2.2.2.2.1
theorem dX1_alike_70 : decode cX1_alike 70 = .ok (.iconst 0, 1) := dg_X1_alike_54.2.2.2.2.2.2.2.2.1
theorem dX1_alike_71 : decode cX1_alike 71 = .ok (.goto 20, 3) := dg_X1_alike_54.2.2.2.2.2.2.2.2.2.1
theorem dX1_alike_74 : decode cX1_alike 74 = .ok (.lload_n 1, 1) := dg_X1_alike_54.2.2.2.2.2.2.2.2.2.2.1
theorem dX1_alike_75 : decode cX1_alike 75 = .ok (.lload_n 3, 1) := dg_X1_alike_54.2.2.2.2.2.2.2.2.2.2.2.1
theorem dX1_alike_76 : decode cX1_alike 76 = .ok (.lor, 1) := dg_X1_alike_54.2.2.2.2.2.2.2.2.2.2.2.2.1
theorem dX1_alike_77 : decode cX1_alike 77 = .ok (.ldc2_w 26, 3) := dg_X1_alike_54.2.2.2.2.2.2.2.2.2.2.2.2.2.1
theorem dX1_alike_80 : decode cX1_alike 80 = .ok (.land, 1) := dg_X1_alike_54.2.2.2.2.2.2.2.2.2.2.2.2.2.2.1
theorem dX1_alike_81 : decode cX1_alike 81 = .ok (.lconst 0, 1) := dg_X1_alike_54.2.2.2.2.2.2.2.2.2.2.2.2.2.2.2
theorem dg_X1_alike_82 : (decode cX1_alike 82 = .ok (.lcmp, 1)) ∧ (decode cX1_alike 83 = .ok (.ifCond .ne 7, 3)) ∧ (decode cX1_alike 86 = .ok (.iconst 1, 1)) ∧ (decode cX1_alike 87 = .ok (.goto 4, 3)) ∧ (decode cX1_alike 90 = .ok (.iconst 0, 1)) ∧ (decode cX1_alike 91 = .ok (.ireturn, 1)) ∧ (decode cX1_alike 92 = .ok (.lload_n 1, 1)) ∧ (decode cX1_alike 93 = .ok (.lload_n 3, 1)) ∧ (decode cX1_alike 94 = .ok (.lcmp, 1)) ∧ (decode cX1_alike 95 = .ok (.ifCond .ne 7, 3)) ∧ (decode cX1_alike 98 = .ok (.iconst 1, 1)) ∧ (decode cX1_alike 99 = .ok (.goto 4, 3)) ∧ (decode cX1_alike 102 = .ok (.iconst 0, 1)) ∧ (decode cX1_alike 103 = .ok (.ireturn, 1)) := by decide +kernel
theorem dX1_alike_82 : decode cX1_alike 82 = .ok (.lcmp, 1) := dg_X1_alike_82.1
theorem dX1_alike_83 : decode cX1_alike 83 = .ok (.ifCond .ne 7, 3) := dg_X1_alike_82.2.1
theorem dX1_alike_86 : decode cX1_alike 86 = .ok (.iconst 1, 1) := dg_X1_alike_82.2.2.1
theorem dX1_alike_87 : decode cX1_alike 87 = .ok (.goto 4, 3) := dg_X1_alike_82.2.2.2.1
theorem dX1_alike_90 : decode cX1_alike 90 = .ok (.iconst 0, 1) := dg_X1_alike_82.2.2.2.2.1
theorem dX1_alike_91 : decode cX1_alike 91 = .ok (.ireturn, 1) := dg_X1_alike_82.2.2.2.2.2.1
theorem dX1_alike_92 : decode cX1_alike 92 = .ok (.lload_n 1, 1) := dg_X1_alike_82.2.2.2.2.2.2.1
theorem dX1_alike_93 : decode cX1_alike 93 = .ok (.lload_n 3, 1) := dg_X1_alike_82.2.2.2.2.2.2.2.1
theorem dX1_alike_94 : decode cX1_alike 94 = .ok (.lcmp, 1) := dg_X1_alike_82.2.2.2.2.2.2.2.2.1
theorem dX1_alike_95 : decode cX1_alike 95 = .ok (.ifCond .ne 7, 3) := dg_X1_alike_82.2.2.2.2.2.2.2.2.2.1
theorem dX1_alike_98 : decode cX1_alike 98 = .ok (.iconst 1, 1) := dg_X1_alike_82.2.2.2.2.2.2.2.2.2.2.1
theorem dX1_alike_99 : decode cX1_alike 99 = .ok (.goto 4, 3) := dg_X1_alike_82.2.2.2.2.2.2.2.2.2.2.2.1
theorem dX1_alike_102 : decode cX1_alike 102 = .ok (.iconst 0, 1) := dg_X1_alike_82.2.2.2.2.2.2.2.2.2.2.2.2.1
theorem dX1_alike_103 : decode cX1_alike 103 = .ok (.ireturn, 1) := dg_X1_alike_82.2.2.2.2.2.2.2.2.2.2.2.2.2
def fn_co_alike (k : Int32) (x : Int64) (y : Int64) : Int32 := (if k = 6 then (if x = y then (if x = 2143289344 then 0 else 1) else (if ((x ||| y) &&& 2147483647) = 0 then 1 else 0)) else (if k = 7 then (if x = y then (if x = 9221120237041090560 then 0 else 1) else (if ((x ||| y) &&& 9223372036854775807) = 0 then 1 else 0)) else (if x = y then 1 else 0)))
abbrev rm_co_alike : Room := { frames := 0, cells := 0, slots := 0, locals := 0 }
abbrev po_co_alike (g : zz_G) (k : Int32) (x : Int64) (y : Int64) : Int32 → va_W → Prop := fun (r : Int32) (u : va_W) => r = fn_co_alike k x y ∧ u = []
set_option maxHeartbeats 4000000 in
set_option maxRecDepth 100000 in
theorem co_alike (g : zz_G) (k : Int32) (x : Int64) (y : Int64) : zz_I g yX1_alike (.code yX1_alike cX1_alike 5 (some .boolean)) rm_co_alike [.int k, .long x, .long y] [] (po_co_alike g k x y) := by
  refine zz_I.intro (own := RX1) (cc := cX1_alike) (nL := 5) (by decide) rfl (Nat.le_of_ble_eq_true rfl) ?_
  intro p l e s m args below meth c A H locs ls hC hnm hs hZ hl
  obtain ⟨hx, hb, hml, hown, hts, hr, hlocks, hK⟩ := id hC
  have hl : lv_has ls 5 [(0, .int k), (1, .long x), (3, .long y)] := hl
  have hZ : zz_Z g A s.heap [] H locs := hZ
  refine lv_iload_n hx hb dX1_alike_0 rfl (lv_at hl 0 rfl) ?_
  refine lv_bipush (v := 6) hx hb dX1_alike_1 (by decide) ?_
  refine lv_icmp_ne (tgt := 46) hx hb dX1_alike_3 (by decide) (fun c1 => ?_) (fun c1 => ?_)
  · refine lv_iload_n hx hb dX1_alike_46 rfl (lv_at hl 0 rfl) ?_
    refine lv_bipush (v := 7) hx hb dX1_alike_47 (by decide) ?_
    refine lv_icmp_ne (tgt := 92) hx hb dX1_alike_49 (by decide) (fun c2 => ?_) (fun c2 => ?_)
    · refine lv_lload_n hx hb dX1_alike_92 rfl (lv_at hl 1 rfl) ?_
      refine lv_lload_n hx hb dX1_alike_93 rfl (lv_at hl 2 rfl) ?_
      refine zz_lcmp_ne (tgt := 102) hC dX1_alike_94 dX1_alike_95 (by decide) (fun c3 => ?_) (fun c3 => ?_)
      · refine lv_iconst (v := 0) hx hb dX1_alike_102 (by decide) ?_
        exact zz_zret hC hZ (by decide) (⟨by show _ = _; rw [fn_co_alike, if_neg c1, if_neg c2, if_neg c3], rfl⟩) (Nat.le_of_ble_eq_true rfl) (Nat.le_of_ble_eq_true rfl) dX1_alike_103
      · refine lv_iconst (v := 1) hx hb dX1_alike_98 (by decide) ?_
        refine lv_goto (tgt := 103) hx hb dX1_alike_99 (by decide) ?_
        exact zz_zret hC hZ (by decide) (⟨by show _ = _; rw [fn_co_alike, if_neg c1, if_neg c2, if_pos c3], rfl⟩) (Nat.le_of_ble_eq_true rfl) (Nat.le_of_ble_eq_true rfl) dX1_alike_103
    · refine lv_lload_n hx hb dX1_alike_52 rfl (lv_at hl 1 rfl) ?_
      refine lv_lload_n hx hb dX1_alike_53 rfl (lv_at hl 2 rfl) ?_
      refine zz_lcmp_ne (tgt := 74) hC dX1_alike_54 dX1_alike_55 (by decide) (fun c4 => ?_) (fun c4 => ?_)
      · refine lv_lload_n hx hb dX1_alike_74 rfl (lv_at hl 1 rfl) ?_
        refine lv_lload_n hx hb dX1_alike_75 rfl (lv_at hl 2 rfl) ?_
        refine lv_lor hx hb dX1_alike_76 ?_
        refine lv_ldc2 hx hb hown (hts _ zk_385) dX1_alike_77 ?_
        refine lv_land hx hb dX1_alike_80 ?_
        refine lv_lconst (v := 0) hx hb dX1_alike_81 (by decide) ?_
        refine zz_lcmp_ne (tgt := 90) hC dX1_alike_82 dX1_alike_83 (by decide) (fun c5 => ?_) (fun c5 => ?_)
        · refine lv_iconst (v := 0) hx hb dX1_alike_90 (by decide) ?_
          exact zz_zret hC hZ (by decide) (⟨by show _ = _; rw [fn_co_alike, if_neg c1, if_pos c2, if_neg c4, if_neg c5], rfl⟩) (Nat.le_of_ble_eq_true rfl) (Nat.le_of_ble_eq_true rfl) dX1_alike_91
        · refine lv_iconst (v := 1) hx hb dX1_alike_86 (by decide) ?_
          refine lv_goto (tgt := 91) hx hb dX1_alike_87 (by decide) ?_
          exact zz_zret hC hZ (by decide) (⟨by show _ = _; rw [fn_co_alike, if_neg c1, if_pos c2, if_neg c4, if_pos c5], rfl⟩) (Nat.le_of_ble_eq_true rfl) (Nat.le_of_ble_eq_true rfl) dX1_alike_91
      · refine lv_lload_n hx hb dX1_alike_58 rfl (lv_at hl 1 rfl) ?_
        refine lv_ldc2 hx hb hown (hts _ zk_355) dX1_alike_59 ?_
        refine zz_lcmp_eq (tgt := 70) hC dX1_alike_62 dX1_alike_63 (by decide) (fun c6 => ?_) (fun c6 => ?_)
        · refine lv_iconst (v := 0) hx hb dX1_alike_70 (by decide) ?_
          refine lv_goto (tgt := 91) hx hb dX1_alike_71 (by decide) ?_
          exact zz_zret hC hZ (by decide) (⟨by show _ = _; rw [fn_co_alike, if_neg c1, if_pos c2, if_pos c4, if_pos c6], rfl⟩) (Nat.le_of_ble_eq_true rfl) (Nat.le_of_ble_eq_true rfl) dX1_alike_91
        · refine lv_iconst (v := 1) hx hb dX1_alike_66 (by decide) ?_
          refine lv_goto (tgt := 91) hx hb dX1_alike_67 (by decide) ?_
          exact zz_zret hC hZ (by decide) (⟨by show _ = _; rw [fn_co_alike, if_neg c1, if_pos c2, if_pos c4, if_neg c6], rfl⟩) (Nat.le_of_ble_eq_true rfl) (Nat.le_of_ble_eq_true rfl) dX1_alike_91
  · refine lv_lload_n hx hb dX1_alike_6 rfl (lv_at hl 1 rfl) ?_
    refine lv_lload_n hx hb dX1_alike_7 rfl (lv_at hl 2 rfl) ?_
    refine zz_lcmp_ne (tgt := 28) hC dX1_alike_8 dX1_alike_9 (by decide) (fun c7 => ?_) (fun c7 => ?_)
    · refine lv_lload_n hx hb dX1_alike_28 rfl (lv_at hl 1 rfl) ?_
      refine lv_lload_n hx hb dX1_alike_29 rfl (lv_at hl 2 rfl) ?_
      refine lv_lor hx hb dX1_alike_30 ?_
      refine lv_ldc2 hx hb hown (hts _ zk_383) dX1_alike_31 ?_
      refine lv_land hx hb dX1_alike_34 ?_
      refine lv_lconst (v := 0) hx hb dX1_alike_35 (by decide) ?_
      refine zz_lcmp_ne (tgt := 44) hC dX1_alike_36 dX1_alike_37 (by decide) (fun c8 => ?_) (fun c8 => ?_)
      · refine lv_iconst (v := 0) hx hb dX1_alike_44 (by decide) ?_
        exact zz_zret hC hZ (by decide) (⟨by show _ = _; rw [fn_co_alike, if_pos c1, if_neg c7, if_neg c8], rfl⟩) (Nat.le_of_ble_eq_true rfl) (Nat.le_of_ble_eq_true rfl) dX1_alike_45
      · refine lv_iconst (v := 1) hx hb dX1_alike_40 (by decide) ?_
        refine lv_goto (tgt := 45) hx hb dX1_alike_41 (by decide) ?_
        exact zz_zret hC hZ (by decide) (⟨by show _ = _; rw [fn_co_alike, if_pos c1, if_neg c7, if_pos c8], rfl⟩) (Nat.le_of_ble_eq_true rfl) (Nat.le_of_ble_eq_true rfl) dX1_alike_45
    · refine lv_lload_n hx hb dX1_alike_12 rfl (lv_at hl 1 rfl) ?_
      refine lv_ldc2 hx hb hown (hts _ zk_386) dX1_alike_13 ?_
      refine zz_lcmp_eq (tgt := 24) hC dX1_alike_16 dX1_alike_17 (by decide) (fun c9 => ?_) (fun c9 => ?_)
      · refine lv_iconst (v := 0) hx hb dX1_alike_24 (by decide) ?_
        refine lv_goto (tgt := 45) hx hb dX1_alike_25 (by decide) ?_
        exact zz_zret hC hZ (by decide) (⟨by show _ = _; rw [fn_co_alike, if_pos c1, if_pos c7, if_pos c9], rfl⟩) (Nat.le_of_ble_eq_true rfl) (Nat.le_of_ble_eq_true rfl) dX1_alike_45
      · refine lv_iconst (v := 1) hx hb dX1_alike_20 (by decide) ?_
        refine lv_goto (tgt := 45) hx hb dX1_alike_21 (by decide) ?_
        exact zz_zret hC hZ (by decide) (⟨by show _ = _; rw [fn_co_alike, if_pos c1, if_pos c7, if_neg c9], rfl⟩) (Nat.le_of_ble_eq_true rfl) (Nat.le_of_ble_eq_true rfl) dX1_alike_45
theorem dg_X1_towardsZero_0 : (decode cX1_towardsZero 0 = .ok (.iload_n 1, 1)) ∧ (decode cX1_towardsZero 1 = .ok (.ifCond .ge 5, 3)) ∧ (decode cX1_towardsZero 4 = .ok (.lconst 0, 1)) ∧ (decode cX1_towardsZero 5 = .ok (.lreturn, 1)) ∧ (decode cX1_towardsZero 6 = .ok (.iload_n 1, 1)) ∧ (decode cX1_towardsZero 7 = .ok (.bipush 63, 2)) ∧ (decode cX1_towardsZero 9 = .ok (.if_icmp .lt 17, 3)) ∧ (decode cX1_towardsZero 12 = .ok (.iload_n 0, 1)) ∧ (decode cX1_towardsZero 13 = .ok (.ifCond .eq 9, 3)) ∧ (decode cX1_towardsZero 16 = .ok (.ldc2_w 48, 3)) ∧ (decode cX1_towardsZero 19 = .ok (.goto 6, 3)) ∧ (decode cX1_towardsZero 22 = .ok (.ldc2_w 26, 3)) ∧ (decode cX1_towardsZero 25 = .ok (.lreturn, 1)) ∧ (decode cX1_towardsZero 26 = .ok (.iload_n 1, 1)) ∧ (decode cX1_towardsZero 27 = .ok (.iload 4, 2)) ∧ (decode cX1_towardsZero 29 = .ok (.if_icmp .lt 12, 3)) := by decide +kernel
theorem dX1_towardsZero_0 : decode cX1_towardsZero 0 = .ok (.iload_n 1, 1) := dg_X1_towardsZero_0.1
theorem dX1_towardsZero_1 : decode cX1_towardsZero 1 = .ok (.ifCond .ge 5, 3) := dg_X1_towardsZero_0.2.1
theorem dX1_towardsZero_4 : decode cX1_towardsZero 4 = .ok (.lconst 0, 1) := dg_X1_towardsZero_0.2.2.1
theorem dX1_towardsZero_5 : decode cX1_towardsZero 5 = .ok (.lreturn, 1) := dg_X1_towardsZero_0.2.2.2.1
theorem dX1_towardsZero_6 : decode cX1_towardsZero 6 = .ok (.iload_n 1, 1) := dg_X1_towardsZero_0.2.2.2.2.1
theorem dX1_towardsZero_7 : decode cX1_towardsZero 7 = .ok (.bipush 63, 2) := dg_X1_towardsZero_0.2.2.2.2.2.1
theorem dX1_towardsZero_9 : decode cX1_towardsZero 9 = .ok (.if_icmp .lt 17, 3) := dg_X1_towardsZero_0.2.2.2.2.2.2.1
theorem dX1_towardsZero_12 : decode cX1_towardsZero 12 = .ok (.iload_n 0, 1) := dg_X1_towardsZero_0.2.2.2.2.2.2.2.1
theorem dX1_towardsZero_13 : decode cX1_towardsZero 13 = .ok (.ifCond .eq 9, 3) := dg_X1_towardsZero_0.2.2.2.2.2.2.2.2.1
theorem dX1_towardsZero_16 : decode cX1_towardsZero 16 = .ok (.ldc2_w 48, 3) := dg_X1_towardsZero_0.2.2.2.2.2.2.2.2.2.1
theorem dX1_towardsZero_19 : decode cX1_towardsZero 19 = .ok (.goto 6, 3) := dg_X1_towardsZero_0.2.2.2.2.2.2.2.2.2.2.1
theorem dX1_towardsZero_22 : decode cX1_towardsZero 22 = .ok (.ldc2_w 26, 3) := dg_X1_towardsZero_0.2.2.2.2.2.2.2.2.2.2.2.1
theorem dX1_towardsZero_25 : decode cX1_towardsZero 25 = .ok (.lreturn, 1) := dg_X1_towardsZero_0.2.2.2.2.2.2.2.2.2.2.2.2.1
theorem dX1_towardsZero_26 : decode cX1_towardsZero 26 = .ok (.iload_n 1, 1) := dg_X1_towardsZero_0.2.2.2.2.2.2.2.2.2.2.2.2.2.1
theorem dX1_towardsZero_27 : decode cX1_towardsZero 27 = .ok (.iload 4, 2) := dg_X1_towardsZero_0.2.2.2.2.2.2.2.2.2.2.2.2.2.2.1
theorem dX1_towardsZero_29 : decode cX1_towardsZero 29 = .ok (.if_icmp .lt 12, 3) := dg_X1_towardsZero_0.2.2.2.2.2.2.2.2.2.2.2.2.2.2.2
theorem dg_X1_towardsZero_32 : (decode cX1_towardsZero 32 = .ok (.lload_n 2, 1)) ∧ (decode cX1_towardsZero 33 = .ok (.iload_n 1, 1)) ∧ (decode cX1_towardsZero 34 = .ok (.iload 4, 2)) ∧ (decode cX1_towardsZero 36 = .ok (.isub, 1)) ∧ (decode cX1_towardsZero 37 = .ok (.lshl, 1)) ∧ (decode cX1_towardsZero 38 = .ok (.goto 9, 3)) ∧ (decode cX1_towardsZero 41 = .ok (.lload_n 2, 1)) ∧ (decode cX1_towardsZero 42 = .ok (.iload 4, 2)) ∧ (decode cX1_towardsZero 44 = .ok (.iload_n 1, 1)) ∧ (decode cX1_towardsZero 45 = .ok (.isub, 1)) ∧ (decode cX1_towardsZero 46 = .ok (.lushr, 1)) ∧ (decode cX1_towardsZero 47 = .ok (.lstore 5, 2)) ∧ (decode cX1_towardsZero 49 = .ok (.iload_n 0, 1)) ∧ (decode cX1_towardsZero 50 = .ok (.ifCond .eq 9, 3)) ∧ (decode cX1_towardsZero 53 = .ok (.lload 5, 2)) ∧ (decode cX1_towardsZero 55 = .ok (.lneg, 1)) := by decide +kernel
theorem dX1_towardsZero_32 : decode cX1_towardsZero 32 = .ok (.lload_n 2, 1) := dg_X1_towardsZero_32.1
theorem dX1_towardsZero_33 : decode cX1_towardsZero 33 = .ok (.iload_n 1, 1) := dg_X1_towardsZero_32.2.1
theorem dX1_towardsZero_34 : decode cX1_towardsZero 34 = .ok (.iload 4, 2) := dg_X1_towardsZero_32.2.2.1
theorem dX1_towardsZero_36 : decode cX1_towardsZero 36 = .ok (.isub, 1) := dg_X1_towardsZero_32.2.2.2.1
theorem dX1_towardsZero_37 : decode cX1_towardsZero 37 = .ok (.lshl, 1) := dg_X1_towardsZero_32.2.2.2.2.1
theorem dX1_towardsZero_38 : decode cX1_towardsZero 38 = .ok (.goto 9, 3) := dg_X1_towardsZero_32.2.2.2.2.2.1
theorem dX1_towardsZero_41 : decode cX1_towardsZero 41 = .ok (.lload_n 2, 1) := dg_X1_towardsZero_32.2.2.2.2.2.2.1
theorem dX1_towardsZero_42 : decode cX1_towardsZero 42 = .ok (.iload 4, 2) := dg_X1_towardsZero_32.2.2.2.2.2.2.2.1
theorem dX1_towardsZero_44 : decode cX1_towardsZero 44 = .ok (.iload_n 1, 1) := dg_X1_towardsZero_32.2.2.2.2.2.2.2.2.1
theorem dX1_towardsZero_45 : decode cX1_towardsZero 45 = .ok (.isub, 1) := dg_X1_towardsZero_32.2.2.2.2.2.2.2.2.2.1
theorem dX1_towardsZero_46 : decode cX1_towardsZero 46 = .ok (.lushr, 1) := dg_X1_towardsZero_32.2.2.2.2.2.2.2.2.2.2.1
theorem dX1_towardsZero_47 : decode cX1_towardsZero 47 = .ok (.lstore 5, 2) := dg_X1_towardsZero_32.2.2.2.2.2.2.2.2.2.2.2.1
theorem dX1_towardsZero_49 : decode cX1_towardsZero 49 = .ok (.iload_n 0, 1) := dg_X1_towardsZero_32.2.2.2.2.2.2.2.2.2.2.2.2.1
theorem dX1_towardsZero_50 : decode cX1_towardsZero 50 = .ok (.ifCond .eq 9, 3) := dg_X1_towardsZero_32.2.2.2.2.2.2.2.2.2.2.2.2.2.1
theorem dX1_towardsZero_53 : decode cX1_towardsZero 53 = .ok (.lload 5, 2) := dg_X1_towardsZero_32.2.2.2.2.2.2.2.2.2.2.2.2.2.2.1
theorem dX1_towardsZero_55 : decode cX1_towardsZero 55 = .ok (.lneg, 1) := dg_X1_towardsZero_32.2.2.2.2.2.2.2.2.2.2.2.2.2.2.2
theorem dg_X1_towardsZero_56 : (decode cX1_towardsZero 56 = .ok (.goto 5, 3)) ∧ (decode cX1_towardsZero 59 = .ok (.lload 5, 2)) ∧ (decode cX1_towardsZero 61 = .ok (.lreturn, 1)) := by decide +kernel
theorem dX1_towardsZero_56 : decode cX1_towardsZero 56 = .ok (.goto 5, 3) := dg_X1_towardsZero_56.1
theorem dX1_towardsZero_59 : decode cX1_towardsZero 59 = .ok (.lload 5, 2) := dg_X1_towardsZero_56.2.1
theorem dX1_towardsZero_61 : decode cX1_towardsZero 61 = .ok (.lreturn, 1) := dg_X1_towardsZero_56.2.2
theorem zk_352 : Cond.constantLong RX1 48 (-9223372036854775808) ∈ zz_w := zz_in (List.mem_append_right _ (List.mem_append_right _ (List.mem_append_left _ (List.mem_of_getElem? (i := 112) (by decide +kernel))))) rfl
def fn_co_towardsZero (w : Int32) (k : Int32) (x : Int64) (j : Int32) : Int64 := (if 0 ≤ k then (if k < 63 then (if k < j then (if w = 0 then (x.toUInt64 >>> ((j - k : Int32).toInt64.toUInt64 &&& Int64.toUInt64 63)).toInt64 else -((x.toUInt64 >>> ((j - k : Int32).toInt64.toUInt64 &&& Int64.toUInt64 63)).toInt64)) else (if w = 0 then (x : Int64) <<< ((k - j : Int32).toInt64 &&& 63) else -((x : Int64) <<< ((k - j : Int32).toInt64 &&& 63)))) else (if w = 0 then 9223372036854775807 else -9223372036854775808)) else 0)
abbrev rm_co_towardsZero : Room := { frames := 0, cells := 0, slots := 0, locals := 0 }
abbrev po_co_towardsZero (g : zz_G) (w : Int32) (k : Int32) (x : Int64) (j : Int32) : Int64 → va_W → Prop := fun (r : Int64) (u : va_W) => r = fn_co_towardsZero w k x j ∧ u = []
set_option maxHeartbeats 4000000 in
set_option maxRecDepth 100000 in
theorem co_towardsZero (g : zz_G) (w : Int32) (k : Int32) (x : Int64) (j : Int32) : zz_L g yX1_towardsZero (.code yX1_towardsZero cX1_towardsZero 7 (some .long)) rm_co_towardsZero [.int w, .int k, .long x, .int j] [] (po_co_towardsZero g w k x j) := by
  refine zz_L.intro (own := RX1) (cc := cX1_towardsZero) (nL := 7) (by decide) rfl (Nat.le_of_ble_eq_true rfl) ?_
  intro p l e s m args below meth c A H locs ls hC hnm hs hZ hl
  obtain ⟨hx, hb, hml, hown, hts, hr, hlocks, hK⟩ := id hC
  have hl : lv_has ls 7 [(0, .int w), (1, .int k), (2, .long x), (4, .int j)] := hl
  have hZ : zz_Z g A s.heap [] H locs := hZ
  refine lv_iload_n hx hb dX1_towardsZero_0 rfl (lv_at hl 1 rfl) ?_
  refine lv_if_ge (tgt := 6) hx hb dX1_towardsZero_1 (by decide) (fun c1 => ?_) (fun c1 => ?_)
  · refine lv_iload_n hx hb dX1_towardsZero_6 rfl (lv_at hl 1 rfl) ?_
    refine lv_bipush (v := 63) hx hb dX1_towardsZero_7 (by decide) ?_
    refine lv_icmp_lt (tgt := 26) hx hb dX1_towardsZero_9 (by decide) (fun c2 => ?_) (fun c2 => ?_)
    · refine lv_iload_n hx hb dX1_towardsZero_26 rfl (lv_at hl 1 rfl) ?_
      refine lv_iload hx hb dX1_towardsZero_27 (lv_at hl 3 rfl) ?_
      refine lv_icmp_lt (tgt := 41) hx hb dX1_towardsZero_29 (by decide) (fun c3 => ?_) (fun c3 => ?_)
      · refine lv_lload_n hx hb dX1_towardsZero_41 rfl (lv_at hl 2 rfl) ?_
        refine lv_iload hx hb dX1_towardsZero_42 (lv_at hl 3 rfl) ?_
        refine lv_iload_n hx hb dX1_towardsZero_44 rfl (lv_at hl 1 rfl) ?_
        refine lv_isub hx hb dX1_towardsZero_45 ?_
        refine lv_lushr hx hb dX1_towardsZero_46 rfl ?_
        refine lv_lstore (lv' := [(5, .long ((x.toUInt64 >>> ((j - k : Int32).toInt64.toUInt64 &&& Int64.toUInt64 63)).toInt64)), (0, .int w), (1, .int k), (2, .long x), (4, .int j)]) hx hb dX1_towardsZero_47 hl (by decide) rfl (fun ls hl => ?_)
        refine lv_iload_n hx hb dX1_towardsZero_49 rfl (lv_at hl 1 rfl) ?_
        refine lv_if_eq (tgt := 59) hx hb dX1_towardsZero_50 (by decide) (fun c4 => ?_) (fun c4 => ?_)
        · refine lv_lload hx hb dX1_towardsZero_59 (lv_at hl 0 rfl) ?_
          exact zz_lret hC hZ (⟨by show _ = _; rw [fn_co_towardsZero, if_pos c1, if_pos c2, if_pos c3, if_pos c4], rfl⟩) (Nat.le_of_ble_eq_true rfl) (Nat.le_of_ble_eq_true rfl) dX1_towardsZero_61
        · refine lv_lload hx hb dX1_towardsZero_53 (lv_at hl 0 rfl) ?_
          refine lv_lneg hx hb dX1_towardsZero_55 ?_
          refine lv_goto (tgt := 61) hx hb dX1_towardsZero_56 (by decide) ?_
          exact zz_lret hC hZ (⟨by show _ = _; rw [fn_co_towardsZero, if_pos c1, if_pos c2, if_pos c3, if_neg c4], rfl⟩) (Nat.le_of_ble_eq_true rfl) (Nat.le_of_ble_eq_true rfl) dX1_towardsZero_61
      · refine lv_lload_n hx hb dX1_towardsZero_32 rfl (lv_at hl 2 rfl) ?_
        refine lv_iload_n hx hb dX1_towardsZero_33 rfl (lv_at hl 1 rfl) ?_
        refine lv_iload hx hb dX1_towardsZero_34 (lv_at hl 3 rfl) ?_
        refine lv_isub hx hb dX1_towardsZero_36 ?_
        refine lv_lshl hx hb dX1_towardsZero_37 rfl ?_
        refine lv_goto (tgt := 47) hx hb dX1_towardsZero_38 (by decide) ?_
        refine lv_lstore (lv' := [(5, .long ((x : Int64) <<< ((k - j : Int32).toInt64 &&& 63))), (0, .int w), (1, .int k), (2, .long x), (4, .int j)]) hx hb dX1_towardsZero_47 hl (by decide) rfl (fun ls hl => ?_)
        refine lv_iload_n hx hb dX1_towardsZero_49 rfl (lv_at hl 1 rfl) ?_
        refine lv_if_eq (tgt := 59) hx hb dX1_towardsZero_50 (by decide) (fun c5 => ?_) (fun c5 => ?_)
        · refine lv_lload hx hb dX1_towardsZero_59 (lv_at hl 0 rfl) ?_
          exact zz_lret hC hZ (⟨by show _ = _; rw [fn_co_towardsZero, if_pos c1, if_pos c2, if_neg c3, if_pos c5], rfl⟩) (Nat.le_of_ble_eq_true rfl) (Nat.le_of_ble_eq_true rfl) dX1_towardsZero_61
        · refine lv_lload hx hb dX1_towardsZero_53 (lv_at hl 0 rfl) ?_
          refine lv_lneg hx hb dX1_towardsZero_55 ?_
          refine lv_goto (tgt := 61) hx hb dX1_towardsZero_56 (by decide) ?_
          exact zz_lret hC hZ (⟨by show _ = _; rw [fn_co_towardsZero, if_pos c1, if_pos c2, if_neg c3, if_neg c5], rfl⟩) (Nat.le_of_ble_eq_true rfl) (Nat.le_of_ble_eq_true rfl) dX1_towardsZero_61
    · refine lv_iload_n hx hb dX1_towardsZero_12 rfl (lv_at hl 0 rfl) ?_
      refine lv_if_eq (tgt := 22) hx hb dX1_towardsZero_13 (by decide) (fun c6 => ?_) (fun c6 => ?_)
      · refine lv_ldc2 hx hb hown (hts _ zk_385) dX1_towardsZero_22 ?_
        exact zz_lret hC hZ (⟨by show _ = _; rw [fn_co_towardsZero, if_pos c1, if_neg c2, if_pos c6], rfl⟩) (Nat.le_of_ble_eq_true rfl) (Nat.le_of_ble_eq_true rfl) dX1_towardsZero_25
      · refine lv_ldc2 hx hb hown (hts _ zk_352) dX1_towardsZero_16 ?_
        refine lv_goto (tgt := 25) hx hb dX1_towardsZero_19 (by decide) ?_
        exact zz_lret hC hZ (⟨by show _ = _; rw [fn_co_towardsZero, if_pos c1, if_neg c2, if_neg c6], rfl⟩) (Nat.le_of_ble_eq_true rfl) (Nat.le_of_ble_eq_true rfl) dX1_towardsZero_25
  · refine lv_lconst (v := 0) hx hb dX1_towardsZero_4 (by decide) ?_
    exact zz_lret hC hZ (⟨by show _ = _; rw [fn_co_towardsZero, if_neg c1], rfl⟩) (Nat.le_of_ble_eq_true rfl) (Nat.le_of_ble_eq_true rfl) dX1_towardsZero_5
theorem dg_X1_number_0 : (decode cX1_number 0 = .ok (.iload_n 0, 1)) ∧ (decode cX1_number 1 = .ok (.bipush 6, 2)) ∧ (decode cX1_number 3 = .ok (.if_icmp .ne 59, 3)) ∧ (decode cX1_number 6 = .ok (.lload_n 1, 1)) ∧ (decode cX1_number 7 = .ok (.bipush 23, 2)) ∧ (decode cX1_number 9 = .ok (.lushr, 1)) ∧ (decode cX1_number 10 = .ok (.ldc2_w 54, 3)) ∧ (decode cX1_number 13 = .ok (.land, 1)) ∧ (decode cX1_number 14 = .ok (.l2i, 1)) ∧ (decode cX1_number 15 = .ok (.bipush 127, 2)) ∧ (decode cX1_number 17 = .ok (.isub, 1)) ∧ (decode cX1_number 18 = .ok (.istore_n 3, 1)) ∧ (decode cX1_number 19 = .ok (.lload_n 1, 1)) ∧ (decode cX1_number 20 = .ok (.ldc2_w 56, 3)) ∧ (decode cX1_number 23 = .ok (.land, 1)) ∧ (decode cX1_number 24 = .ok (.ldc2_w 60, 3)) := by decide +kernel
theorem dX1_number_0 : decode cX1_number 0 = .ok (.iload_n 0, 1) := dg_X1_number_0.1
theorem dX1_number_1 : decode cX1_number 1 = .ok (.bipush 6, 2) := dg_X1_number_0.2.1
theorem dX1_number_3 : decode cX1_number 3 = .ok (.if_icmp .ne 59, 3) := dg_X1_number_0.2.2.1
theorem dX1_number_6 : decode cX1_number 6 = .ok (.lload_n 1, 1) := dg_X1_number_0.2.2.2.1
theorem dX1_number_7 : decode cX1_number 7 = .ok (.bipush 23, 2) := dg_X1_number_0.2.2.2.2.1
theorem dX1_number_9 : decode cX1_number 9 = .ok (.lushr, 1) := dg_X1_number_0.2.2.2.2.2.1
theorem dX1_number_10 : decode cX1_number 10 = .ok (.ldc2_w 54, 3) := dg_X1_number_0.2.2.2.2.2.2.1
theorem dX1_number_13 : decode cX1_number 13 = .ok (.land, 1) := dg_X1_number_0.2.2.2.2.2.2.2.1
theorem dX1_number_14 : decode cX1_number 14 = .ok (.l2i, 1) := dg_X1_number_0.2.2.2.2.2.2.2.2.1
theorem dX1_number_15 : decode cX1_number 15 = .ok (.bipush 127, 2) := dg_X1_number_0.2.2.2.2.2.2.2.2.2.1
theorem dX1_number_17 : decode cX1_number 17 = .ok (.isub, 1) := dg_X1_number_0.2.2.2.2.2.2.2.2.2.2.1
theorem dX1_number_18 : decode cX1_number 18 = .ok (.istore_n 3, 1) := dg_X1_number_0.2.2.2.2.2.2.2.2.2.2.2.1
theorem dX1_number_19 : decode cX1_number 19 = .ok (.lload_n 1, 1) := dg_X1_number_0.2.2.2.2.2.2.2.2.2.2.2.2.1
theorem dX1_number_20 : decode cX1_number 20 = .ok (.ldc2_w 56, 3) := dg_X1_number_0.2.2.2.2.2.2.2.2.2.2.2.2.2.1
theorem dX1_number_23 : decode cX1_number 23 = .ok (.land, 1) := dg_X1_number_0.2.2.2.2.2.2.2.2.2.2.2.2.2.2.1
theorem dX1_number_24 : decode cX1_number 24 = .ok (.ldc2_w 60, 3) := dg_X1_number_0.2.2.2.2.2.2.2.2.2.2.2.2.2.2.2
theorem dg_X1_number_27 : (decode cX1_number 27 = .ok (.lor, 1)) ∧ (decode cX1_number 28 = .ok (.lstore 4, 2)) ∧ (decode cX1_number 30 = .ok (.lload_n 1, 1)) ∧ (decode cX1_number 31 = .ok (.ldc2_w 34, 3)) ∧ (decode cX1_number 34 = .ok (.lcmp, 1)) ∧ (decode cX1_number 35 = .ok (.ifCond .ne 7, 3)) ∧ (decode cX1_number 38 = .ok (.lconst 0, 1)) ∧ (decode cX1_number 39 = .ok (.goto 22, 3)) ∧ (decode cX1_number 42 = .ok (.lload_n 1, 1)) ∧ (decode cX1_number 43 = .ok (.lconst 0, 1)) ∧ (decode cX1_number 44 = .ok (.lcmp, 1)) ∧ (decode cX1_number 45 = .ok (.ifCond .ge 7, 3)) ∧ (decode cX1_number 48 = .ok (.iconst 1, 1)) ∧ (decode cX1_number 49 = .ok (.goto 4, 3)) ∧ (decode cX1_number 52 = .ok (.iconst 0, 1)) ∧ (decode cX1_number 53 = .ok (.iload_n 3, 1)) := by decide +kernel
theorem dX1_number_27 : decode cX1_number 27 = .ok (.lor, 1) := dg_X1_number_27.1
theorem dX1_number_28 : decode cX1_number 28 = .ok (.lstore 4, 2) := dg_X1_number_27.2.1
theorem dX1_number_30 : decode cX1_number 30 = .ok (.lload_n 1, 1) := dg_X1_number_27.2.2.1
theorem dX1_number_31 : decode cX1_number 31 = .ok (.ldc2_w 34, 3) := dg_X1_number_27.2.2.2.1
theorem dX1_number_34 : decode cX1_number 34 = .ok (.lcmp, 1) := dg_X1_number_27.2.2.2.2.1
theorem dX1_number_35 : decode cX1_number 35 = .ok (.ifCond .ne 7, 3) := dg_X1_number_27.2.2.2.2.2.1
theorem dX1_number_38 : decode cX1_number 38 = .ok (.lconst 0, 1) := dg_X1_number_27.2.2.2.2.2.2.1
theorem dX1_number_39 : decode cX1_number 39 = .ok (.goto 22, 3) := dg_X1_number_27.2.2.2.2.2.2.2.1
theorem dX1_number_42 : decode cX1_number 42 = .ok (.lload_n 1, 1) := dg_X1_number_27.2.2.2.2.2.2.2.2.1
theorem dX1_number_43 : decode cX1_number 43 = .ok (.lconst 0, 1) := dg_X1_number_27.2.2.2.2.2.2.2.2.2.1
theorem dX1_number_44 : decode cX1_number 44 = .ok (.lcmp, 1) := dg_X1_number_27.2.2.2.2.2.2.2.2.2.2.1
theorem dX1_number_45 : decode cX1_number 45 = .ok (.ifCond .ge 7, 3) := dg_X1_number_27.2.2.2.2.2.2.2.2.2.2.2.1
theorem dX1_number_48 : decode cX1_number 48 = .ok (.iconst 1, 1) := dg_X1_number_27.2.2.2.2.2.2.2.2.2.2.2.2.1
theorem dX1_number_49 : decode cX1_number 49 = .ok (.goto 4, 3) := dg_X1_number_27.2.2.2.2.2.2.2.2.2.2.2.2.2.1
theorem dX1_number_52 : decode cX1_number 52 = .ok (.iconst 0, 1) := dg_X1_number_27.2.2.2.2.2.2.2.2.2.2.2.2.2.2.1
theorem dX1_number_53 : decode cX1_number 53 = .ok (.iload_n 3, 1) := dg_X1_number_27.2.2.2.2.2.2.2.2.2.2.2.2.2.2.2
theorem dg_X1_number_54 : (decode cX1_number 54 = .ok (.lload 4, 2)) ∧ (decode cX1_number 56 = .ok (.bipush 23, 2)) ∧ (decode cX1_number 58 = .ok (.invokestatic 62, 3)) ∧ (decode cX1_number 61 = .ok (.lreturn, 1)) ∧ (decode cX1_number 62 = .ok (.iload_n 0, 1)) ∧ (decode cX1_number 63 = .ok (.bipush 7, 2)) ∧ (decode cX1_number 65 = .ok (.if_icmp .ne 60, 3)) ∧ (decode cX1_number 68 = .ok (.lload_n 1, 1)) ∧ (decode cX1_number 69 = .ok (.bipush 52, 2)) ∧ (decode cX1_number 71 = .ok (.lushr, 1)) ∧ (decode cX1_number 72 = .ok (.ldc2_w 66, 3)) ∧ (decode cX1_number 75 = .ok (.land, 1)) ∧ (decode cX1_number 76 = .ok (.l2i, 1)) ∧ (decode cX1_number 77 = .ok (.sipush 1023, 3)) ∧ (decode cX1_number 80 = .ok (.isub, 1)) ∧ (decode cX1_number 81 = .ok (.istore_n 3, 1)) := by decide +kernel
theorem dX1_number_54 : decode cX1_number 54 = .ok (.lload 4, 2) := dg_X1_number_54.1
theorem dX1_number_56 : decode cX1_number 56 = .ok (.bipush 23, 2) := dg_X1_number_54.2.1
theorem dX1_number_58 : decode cX1_number 58 = .ok (.invokestatic 62, 3) := dg_X1_number_54.2.2.1
theorem dX1_number_61 : decode cX1_number 61 = .ok (.lreturn, 1) := dg_X1_number_54.2.2.2.1
theorem dX1_number_62 : decode cX1_number 62 = .ok (.iload_n 0, 1) := dg_X1_number_54.2.2.2.2.1
theorem dX1_number_63 : decode cX1_number 63 = .ok (.bipush 7, 2) := dg_X1_number_54.2.2.2.2.2.1
theorem dX1_number_65 : decode cX1_number 65 = .ok (.if_icmp .ne 60, 3) := dg_X1_number_54.2.2.2.2.2.2.1
theorem dX1_number_68 : decode cX1_number 68 = .ok (.lload_n 1, 1) := dg_X1_number_54.2.2.2.2.2.2.2.1
theorem dX1_number_69 : decode cX1_number 69 = .ok (.bipush 52, 2) := dg_X1_number_54.2.2.2.2.2.2.2.2.1
theorem dX1_number_71 : decode cX1_number 71 = .ok (.lushr, 1) := dg_X1_number_54.2.2.2.2.2.2.2.2.2.1
theorem dX1_number_72 : decode cX1_number 72 = .ok (.ldc2_w 66, 3) := dg_X1_number_54.2.2.2.2.2.2.2.2.2.2.1
theorem dX1_number_75 : decode cX1_number 75 = .ok (.land, 1) := dg_X1_number_54.2.2.2.2.2.2.2.2.2.2.2.1
theorem dX1_number_76 : decode cX1_number 76 = .ok (.l2i, 1) := dg_X1_number_54.2.2.2.2.2.2.2.2.2.2.2.2.1
theorem dX1_number_77 : decode cX1_number 77 = .ok (.sipush 1023, 3) := dg_X1_number_54.2.2.2.2.2.2.2.2.2.2.2.2.2.1
theorem dX1_number_80 : decode cX1_number 80 = .ok (.isub, 1) := dg_X1_number_54.2.2.2.2.2.2.2.2.2.2.2.2.2.2.1
theorem dX1_number_81 : decode cX1_number 81 = .ok (.istore_n 3, 1) := dg_X1_number_54.2.2.2.2.2.2.2.2.2.2.2.2.2.2.2
theorem dg_X1_number_82 : (decode cX1_number 82 = .ok (.lload_n 1, 1)) ∧ (decode cX1_number 83 = .ok (.ldc2_w 58, 3)) ∧ (decode cX1_number 86 = .ok (.land, 1)) ∧ (decode cX1_number 87 = .ok (.ldc2_w 68, 3)) ∧ (decode cX1_number 90 = .ok (.lor, 1)) ∧ (decode cX1_number 91 = .ok (.lstore 4, 2)) ∧ (decode cX1_number 93 = .ok (.lload_n 1, 1)) ∧ (decode cX1_number 94 = .ok (.ldc2_w 36, 3)) ∧ (decode cX1_number 97 = .ok (.lcmp, 1)) ∧ (decode cX1_number 98 = .ok (.ifCond .ne 7, 3)) ∧ (decode cX1_number 101 = .ok (.lconst 0, 1)) ∧ (decode cX1_number 102 = .ok (.goto 22, 3)) ∧ (decode cX1_number 105 = .ok (.lload_n 1, 1)) ∧ (decode cX1_number 106 = .ok (.lconst 0, 1)) ∧ (decode cX1_number 107 = .ok (.lcmp, 1)) ∧ (decode cX1_number 108 = .ok (.ifCond .ge 7, 3)) := by decide +kernel
theorem dX1_number_82 : decode cX1_number 82 = .ok (.lload_n 1, 1) := dg_X1_number_82.1
theorem dX1_number_83 : decode cX1_number 83 = .ok (.ldc2_w 58, 3) := dg_X1_number_82.2.1
theorem dX1_number_86 : decode cX1_number 86 = .ok (.land, 1) := dg_X1_number_82.2.2.1
theorem dX1_number_87 : decode cX1_number 87 = .ok (.ldc2_w 68, 3) := dg_X1_number_82.2.2.2.1
theorem dX1_number_90 : decode cX1_number 90 = .ok (.lor, 1) := dg_X1_number_82.2.2.2.2.1
theorem dX1_number_91 : decode cX1_number 91 = .ok (.lstore 4, 2) := dg_X1_number_82.2.2.2.2.2.1
theorem dX1_number_93 : decode cX1_number 93 = .ok (.lload_n 1, 1) := dg_X1_number_82.2.2.2.2.2.2.1
theorem dX1_number_94 : decode cX1_number 94 = .ok (.ldc2_w 36, 3) := dg_X1_number_82.2.2.2.2.2.2.2.1
theorem dX1_number_97 : decode cX1_number 97 = .ok (.lcmp, 1) := dg_X1_number_82.2.2.2.2.2.2.2.2.1
theorem dX1_number_98 : decode cX1_number 98 = .ok (.ifCond .ne 7, 3) := dg_X1_number_82.2.2.2.2.2.2.2.2.2.1
theorem dX1_number_101 : decode cX1_number 101 = .ok (.lconst 0, 1) := dg_X1_number_82.2.2.2.2.2.2.2.2.2.2.1
theorem dX1_number_102 : decode cX1_number 102 = .ok (.goto 22, 3) := dg_X1_number_82.2.2.2.2.2.2.2.2.2.2.2.1
theorem dX1_number_105 : decode cX1_number 105 = .ok (.lload_n 1, 1) := dg_X1_number_82.2.2.2.2.2.2.2.2.2.2.2.2.1
theorem dX1_number_106 : decode cX1_number 106 = .ok (.lconst 0, 1) := dg_X1_number_82.2.2.2.2.2.2.2.2.2.2.2.2.2.1
theorem dX1_number_107 : decode cX1_number 107 = .ok (.lcmp, 1) := dg_X1_number_82.2.2.2.2.2.2.2.2.2.2.2.2.2.2.1
theorem dX1_number_108 : decode cX1_number 108 = .ok (.ifCond .ge 7, 3) := dg_X1_number_82.2.2.2.2.2.2.2.2.2.2.2.2.2.2.2
theorem dg_X1_number_111 : (decode cX1_number 111 = .ok (.iconst 1, 1)) ∧ (decode cX1_number 112 = .ok (.goto 4, 3)) ∧ (decode cX1_number 115 = .ok (.iconst 0, 1)) ∧ (decode cX1_number 116 = .ok (.iload_n 3, 1)) ∧ (decode cX1_number 117 = .ok (.lload 4, 2)) ∧ (decode cX1_number 119 = .ok (.bipush 52, 2)) ∧ (decode cX1_number 121 = .ok (.invokestatic 62, 3)) ∧ (decode cX1_number 124 = .ok (.lreturn, 1)) ∧ (decode cX1_number 125 = .ok (.lload_n 1, 1)) ∧ (decode cX1_number 126 = .ok (.lreturn, 1)) := by decide +kernel
theorem dX1_number_111 : decode cX1_number 111 = .ok (.iconst 1, 1) := dg_X1_number_111.1
theorem dX1_number_112 : decode cX1_number 112 = .ok (.goto 4, 3) := dg_X1_number_111.2.1
theorem dX1_number_115 : decode cX1_number 115 = .ok (.iconst 0, 1) := dg_X1_number_111.2.2.1
theorem dX1_number_116 : decode cX1_number 116 = .ok (.iload_n 3, 1) := dg_X1_number_111.2.2.2.1
theorem dX1_number_117 : decode cX1_number 117 = .ok (.lload 4, 2) := dg_X1_number_111.2.2.2.2.1
theorem dX1_number_119 : decode cX1_number 119 = .ok (.bipush 52, 2) := dg_X1_number_111.2.2.2.2.2.1
theorem dX1_number_121 : decode cX1_number 121 = .ok (.invokestatic 62, 3) := dg_X1_number_111.2.2.2.2.2.2.1
theorem dX1_number_124 : decode cX1_number 124 = .ok (.lreturn, 1) := dg_X1_number_111.2.2.2.2.2.2.2.1
theorem dX1_number_125 : decode cX1_number 125 = .ok (.lload_n 1, 1) := dg_X1_number_111.2.2.2.2.2.2.2.2.1
theorem dX1_number_126 : decode cX1_number 126 = .ok (.lreturn, 1) := dg_X1_number_111.2.2.2.2.2.2.2.2.2
theorem zk_627 : Cond.constantLong RX1 66 (2047) ∈ zz_w := zz_in (List.mem_append_right _ (List.mem_append_right _ (List.mem_append_right _ (List.mem_append_left _ (List.mem_of_getElem? (i := 147) (by decide +kernel)))))) rfl
theorem zk_360 : Cond.constantLong RX1 58 (4503599627370495) ∈ zz_w := zz_in (List.mem_append_right _ (List.mem_append_right _ (List.mem_append_left _ (List.mem_of_getElem? (i := 120) (by decide +kernel))))) rfl
theorem zk_628 : Cond.constantLong RX1 68 (4503599627370496) ∈ zz_w := zz_in (List.mem_append_right _ (List.mem_append_right _ (List.mem_append_right _ (List.mem_append_left _ (List.mem_of_getElem? (i := 148) (by decide +kernel)))))) rfl
theorem zk_624 : Cond.methodLink RX1 62 yX1_towardsZero ∈ zz_w := zz_in (List.mem_append_right _ (List.mem_append_right _ (List.mem_append_right _ (List.mem_append_left _ (List.mem_of_getElem? (i := 144) (by decide +kernel)))))) rfl
set_option maxRecDepth 20000 in
theorem zk_626 : Cond.code yX1_towardsZero cX1_towardsZero 7 (some .long) ∈ zz_w := zz_in (List.mem_append_right _ (List.mem_append_right _ (List.mem_append_right _ (List.mem_append_left _ (List.mem_of_getElem? (i := 146) (rfl)))))) rfl
theorem zk_625 : Cond.static yX1_towardsZero ∈ zz_w := zz_in (List.mem_append_right _ (List.mem_append_right _ (List.mem_append_right _ (List.mem_append_left _ (List.mem_of_getElem? (i := 145) (by decide +kernel)))))) rfl
theorem zc_X1_62 : zz_cS RX1 62 yX1_towardsZero cX1_towardsZero 7 (some .long) 4 := ⟨⟨zk_624, zk_626, zk_8, by decide, by decide, by decide +kernel⟩, zk_625⟩
theorem zk_353 : Cond.constantLong RX1 54 (255) ∈ zz_w := zz_in (List.mem_append_right _ (List.mem_append_right _ (List.mem_append_left _ (List.mem_of_getElem? (i := 113) (by decide +kernel))))) rfl
theorem zk_354 : Cond.constantLong RX1 56 (8388607) ∈ zz_w := zz_in (List.mem_append_right _ (List.mem_append_right _ (List.mem_append_left _ (List.mem_of_getElem? (i := 114) (by decide +kernel))))) rfl
theorem zk_623 : Cond.constantLong RX1 60 (8388608) ∈ zz_w := zz_in (List.mem_append_right _ (List.mem_append_right _ (List.mem_append_right _ (List.mem_append_left _ (List.mem_of_getElem? (i := 143) (by decide +kernel)))))) rfl
def fn_co_number (k : Int32) (x : Int64) : Int64 := (if k = 6 then (if x = 2143289344 then 0 else (if 0 ≤ x then (fn_co_towardsZero 0 (((((x.toUInt64 >>> ((23 : Int32).toInt64.toUInt64 &&& Int64.toUInt64 63)).toInt64) &&& 255).toInt32) - 127) ((x &&& 8388607) ||| 8388608) 23) else (fn_co_towardsZero 1 (((((x.toUInt64 >>> ((23 : Int32).toInt64.toUInt64 &&& Int64.toUInt64 63)).toInt64) &&& 255).toInt32) - 127) ((x &&& 8388607) ||| 8388608) 23))) else (if k = 7 then (if x = 9221120237041090560 then 0 else (if 0 ≤ x then (fn_co_towardsZero 0 (((((x.toUInt64 >>> ((52 : Int32).toInt64.toUInt64 &&& Int64.toUInt64 63)).toInt64) &&& 2047).toInt32) - 1023) ((x &&& 4503599627370495) ||| 4503599627370496) 52) else (fn_co_towardsZero 1 (((((x.toUInt64 >>> ((52 : Int32).toInt64.toUInt64 &&& Int64.toUInt64 63)).toInt64) &&& 2047).toInt32) - 1023) ((x &&& 4503599627370495) ||| 4503599627370496) 52))) else x))
abbrev rm_co_number : Room := { frames := 1, cells := 0, slots := 0, locals := 26 }
abbrev po_co_number (g : zz_G) (k : Int32) (x : Int64) : Int64 → va_W → Prop := fun (r : Int64) (u : va_W) => r = fn_co_number k x ∧ u = []
set_option maxHeartbeats 4000000 in
set_option maxRecDepth 100000 in
theorem co_number (g : zz_G) (k : Int32) (x : Int64) : zz_L g yX1_number (.code yX1_number cX1_number 6 (some .long)) rm_co_number [.int k, .long x] [] (po_co_number g k x) := by
  refine zz_L.intro (own := RX1) (cc := cX1_number) (nL := 6) (by decide) rfl (Nat.le_of_ble_eq_true rfl) ?_
  intro p l e s m args below meth c A H locs ls hC hnm hs hZ hl
  obtain ⟨hx, hb, hml, hown, hts, hr, hlocks, hK⟩ := id hC
  have hl : lv_has ls 6 [(0, .int k), (1, .long x)] := hl
  have hZ : zz_Z g A s.heap [] H locs := hZ
  refine lv_iload_n hx hb dX1_number_0 rfl (lv_at hl 0 rfl) ?_
  refine lv_bipush (v := 6) hx hb dX1_number_1 (by decide) ?_
  refine lv_icmp_ne (tgt := 62) hx hb dX1_number_3 (by decide) (fun c1 => ?_) (fun c1 => ?_)
  · refine lv_iload_n hx hb dX1_number_62 rfl (lv_at hl 0 rfl) ?_
    refine lv_bipush (v := 7) hx hb dX1_number_63 (by decide) ?_
    refine lv_icmp_ne (tgt := 125) hx hb dX1_number_65 (by decide) (fun c2 => ?_) (fun c2 => ?_)
    · refine lv_lload_n hx hb dX1_number_125 rfl (lv_at hl 1 rfl) ?_
      exact zz_lret hC hZ (⟨by show _ = _; rw [fn_co_number, if_neg c1, if_neg c2], rfl⟩) (Nat.le_of_ble_eq_true rfl) (Nat.le_of_ble_eq_true rfl) dX1_number_126
    · refine lv_lload_n hx hb dX1_number_68 rfl (lv_at hl 1 rfl) ?_
      refine lv_bipush (v := 52) hx hb dX1_number_69 (by decide) ?_
      refine lv_lushr hx hb dX1_number_71 rfl ?_
      refine lv_ldc2 hx hb hown (hts _ zk_627) dX1_number_72 ?_
      refine lv_land hx hb dX1_number_75 ?_
      refine lv_l2i hx hb dX1_number_76 rfl ?_
      refine lv_sipush (v := 1023) hx hb dX1_number_77 (by decide) ?_
      refine lv_isub hx hb dX1_number_80 ?_
      refine lv_istore_n (lv' := [(3, .int (((((x.toUInt64 >>> ((52 : Int32).toInt64.toUInt64 &&& Int64.toUInt64 63)).toInt64) &&& 2047).toInt32) - 1023)), (0, .int k), (1, .long x)]) hx hb dX1_number_81 rfl hl (by decide) rfl (fun ls hl => ?_)
      refine lv_lload_n hx hb dX1_number_82 rfl (lv_at hl 2 rfl) ?_
      refine lv_ldc2 hx hb hown (hts _ zk_360) dX1_number_83 ?_
      refine lv_land hx hb dX1_number_86 ?_
      refine lv_ldc2 hx hb hown (hts _ zk_628) dX1_number_87 ?_
      refine lv_lor hx hb dX1_number_90 ?_
      refine lv_lstore (lv' := [(4, .long ((x &&& 4503599627370495) ||| 4503599627370496)), (3, .int (((((x.toUInt64 >>> ((52 : Int32).toInt64.toUInt64 &&& Int64.toUInt64 63)).toInt64) &&& 2047).toInt32) - 1023)), (0, .int k), (1, .long x)]) hx hb dX1_number_91 hl (by decide) rfl (fun ls hl => ?_)
      refine lv_lload_n hx hb dX1_number_93 rfl (lv_at hl 3 rfl) ?_
      refine lv_ldc2 hx hb hown (hts _ zk_355) dX1_number_94 ?_
      refine zz_lcmp_ne (tgt := 105) hC dX1_number_97 dX1_number_98 (by decide) (fun c3 => ?_) (fun c3 => ?_)
      · refine lv_lload_n hx hb dX1_number_105 rfl (lv_at hl 3 rfl) ?_
        refine lv_lconst (v := 0) hx hb dX1_number_106 (by decide) ?_
        refine zz_lcmp_ge (tgt := 115) hC dX1_number_107 dX1_number_108 (by decide) (fun c4 => ?_) (fun c4 => ?_)
        · refine lv_iconst (v := 0) hx hb dX1_number_115 (by decide) ?_
          refine lv_iload_n hx hb dX1_number_116 rfl (lv_at hl 1 rfl) ?_
          refine lv_lload hx hb dX1_number_117 (lv_at hl 0 rfl) ?_
          refine lv_bipush (v := 52) hx hb dX1_number_119 (by decide) ?_
          refine zz_lS (As := [.int 0, .int (((((x.toUInt64 >>> ((52 : Int32).toInt64.toUInt64 &&& Int64.toUInt64 63)).toInt64) &&& 2047).toInt32) - 1023), .long ((x &&& 4503599627370495) ||| 4503599627370496), .int 52]) (wc := []) (wr := []) (rest := []) hC hZ hs hl zc_X1_62 (co_towardsZero g 0 (((((x.toUInt64 >>> ((52 : Int32).toInt64.toUInt64 &&& Int64.toUInt64 63)).toInt64) &&& 2047).toInt32) - 1023) ((x &&& 4503599627370495) ||| 4503599627370496) 52) [] [] rfl rfl (by decide +kernel) rfl rfl (Nat.le_of_ble_eq_true rfl) ⟨⟨Nat.le_of_ble_eq_true rfl, Nat.le_of_ble_eq_true rfl⟩, Nat.le_of_ble_eq_true rfl, Nat.le_of_ble_eq_true rfl⟩ dX1_number_121 (fun r5 u6 H locs hp hZ => ?_)
          obtain ⟨rfl, rfl⟩ := hp
          have hZ : zz_Z g A s.heap [] H locs := hZ
          exact zz_lret hC hZ (⟨by show _ = _; rw [fn_co_number, if_neg c1, if_pos c2, if_neg c3, if_pos c4], rfl⟩) (Nat.le_of_ble_eq_true rfl) (Nat.le_of_ble_eq_true rfl) dX1_number_124
        · refine lv_iconst (v := 1) hx hb dX1_number_111 (by decide) ?_
          refine lv_goto (tgt := 116) hx hb dX1_number_112 (by decide) ?_
          refine lv_iload_n hx hb dX1_number_116 rfl (lv_at hl 1 rfl) ?_
          refine lv_lload hx hb dX1_number_117 (lv_at hl 0 rfl) ?_
          refine lv_bipush (v := 52) hx hb dX1_number_119 (by decide) ?_
          refine zz_lS (As := [.int 1, .int (((((x.toUInt64 >>> ((52 : Int32).toInt64.toUInt64 &&& Int64.toUInt64 63)).toInt64) &&& 2047).toInt32) - 1023), .long ((x &&& 4503599627370495) ||| 4503599627370496), .int 52]) (wc := []) (wr := []) (rest := []) hC hZ hs hl zc_X1_62 (co_towardsZero g 1 (((((x.toUInt64 >>> ((52 : Int32).toInt64.toUInt64 &&& Int64.toUInt64 63)).toInt64) &&& 2047).toInt32) - 1023) ((x &&& 4503599627370495) ||| 4503599627370496) 52) [] [] rfl rfl (by decide +kernel) rfl rfl (Nat.le_of_ble_eq_true rfl) ⟨⟨Nat.le_of_ble_eq_true rfl, Nat.le_of_ble_eq_true rfl⟩, Nat.le_of_ble_eq_true rfl, Nat.le_of_ble_eq_true rfl⟩ dX1_number_121 (fun r7 u8 H locs hp hZ => ?_)
          obtain ⟨rfl, rfl⟩ := hp
          have hZ : zz_Z g A s.heap [] H locs := hZ
          exact zz_lret hC hZ (⟨by show _ = _; rw [fn_co_number, if_neg c1, if_pos c2, if_neg c3, if_neg c4], rfl⟩) (Nat.le_of_ble_eq_true rfl) (Nat.le_of_ble_eq_true rfl) dX1_number_124
      · refine lv_lconst (v := 0) hx hb dX1_number_101 (by decide) ?_
        refine lv_goto (tgt := 124) hx hb dX1_number_102 (by decide) ?_
        exact zz_lret hC hZ (⟨by show _ = _; rw [fn_co_number, if_neg c1, if_pos c2, if_pos c3], rfl⟩) (Nat.le_of_ble_eq_true rfl) (Nat.le_of_ble_eq_true rfl) dX1_number_124
  · refine lv_lload_n hx hb dX1_number_6 rfl (lv_at hl 1 rfl) ?_
    refine lv_bipush (v := 23) hx hb dX1_number_7 (by decide) ?_
    refine lv_lushr hx hb dX1_number_9 rfl ?_
    refine lv_ldc2 hx hb hown (hts _ zk_353) dX1_number_10 ?_
    refine lv_land hx hb dX1_number_13 ?_
    refine lv_l2i hx hb dX1_number_14 rfl ?_
    refine lv_bipush (v := 127) hx hb dX1_number_15 (by decide) ?_
    refine lv_isub hx hb dX1_number_17 ?_
    refine lv_istore_n (lv' := [(3, .int (((((x.toUInt64 >>> ((23 : Int32).toInt64.toUInt64 &&& Int64.toUInt64 63)).toInt64) &&& 255).toInt32) - 127)), (0, .int k), (1, .long x)]) hx hb dX1_number_18 rfl hl (by decide) rfl (fun ls hl => ?_)
    refine lv_lload_n hx hb dX1_number_19 rfl (lv_at hl 2 rfl) ?_
    refine lv_ldc2 hx hb hown (hts _ zk_354) dX1_number_20 ?_
    refine lv_land hx hb dX1_number_23 ?_
    refine lv_ldc2 hx hb hown (hts _ zk_623) dX1_number_24 ?_
    refine lv_lor hx hb dX1_number_27 ?_
    refine lv_lstore (lv' := [(4, .long ((x &&& 8388607) ||| 8388608)), (3, .int (((((x.toUInt64 >>> ((23 : Int32).toInt64.toUInt64 &&& Int64.toUInt64 63)).toInt64) &&& 255).toInt32) - 127)), (0, .int k), (1, .long x)]) hx hb dX1_number_28 hl (by decide) rfl (fun ls hl => ?_)
    refine lv_lload_n hx hb dX1_number_30 rfl (lv_at hl 3 rfl) ?_
    refine lv_ldc2 hx hb hown (hts _ zk_386) dX1_number_31 ?_
    refine zz_lcmp_ne (tgt := 42) hC dX1_number_34 dX1_number_35 (by decide) (fun c9 => ?_) (fun c9 => ?_)
    · refine lv_lload_n hx hb dX1_number_42 rfl (lv_at hl 3 rfl) ?_
      refine lv_lconst (v := 0) hx hb dX1_number_43 (by decide) ?_
      refine zz_lcmp_ge (tgt := 52) hC dX1_number_44 dX1_number_45 (by decide) (fun c10 => ?_) (fun c10 => ?_)
      · refine lv_iconst (v := 0) hx hb dX1_number_52 (by decide) ?_
        refine lv_iload_n hx hb dX1_number_53 rfl (lv_at hl 1 rfl) ?_
        refine lv_lload hx hb dX1_number_54 (lv_at hl 0 rfl) ?_
        refine lv_bipush (v := 23) hx hb dX1_number_56 (by decide) ?_
        refine zz_lS (As := [.int 0, .int (((((x.toUInt64 >>> ((23 : Int32).toInt64.toUInt64 &&& Int64.toUInt64 63)).toInt64) &&& 255).toInt32) - 127), .long ((x &&& 8388607) ||| 8388608), .int 23]) (wc := []) (wr := []) (rest := []) hC hZ hs hl zc_X1_62 (co_towardsZero g 0 (((((x.toUInt64 >>> ((23 : Int32).toInt64.toUInt64 &&& Int64.toUInt64 63)).toInt64) &&& 255).toInt32) - 127) ((x &&& 8388607) ||| 8388608) 23) [] [] rfl rfl (by decide +kernel) rfl rfl (Nat.le_of_ble_eq_true rfl) ⟨⟨Nat.le_of_ble_eq_true rfl, Nat.le_of_ble_eq_true rfl⟩, Nat.le_of_ble_eq_true rfl, Nat.le_of_ble_eq_true rfl⟩ dX1_number_58 (fun r11 u12 H locs hp hZ => ?_)
        obtain ⟨rfl, rfl⟩ := hp
        have hZ : zz_Z g A s.heap [] H locs := hZ
        exact zz_lret hC hZ (⟨by show _ = _; rw [fn_co_number, if_pos c1, if_neg c9, if_pos c10], rfl⟩) (Nat.le_of_ble_eq_true rfl) (Nat.le_of_ble_eq_true rfl) dX1_number_61
      · refine lv_iconst (v := 1) hx hb dX1_number_48 (by decide) ?_
        refine lv_goto (tgt := 53) hx hb dX1_number_49 (by decide) ?_
        refine lv_iload_n hx hb dX1_number_53 rfl (lv_at hl 1 rfl) ?_
        refine lv_lload hx hb dX1_number_54 (lv_at hl 0 rfl) ?_
        refine lv_bipush (v := 23) hx hb dX1_number_56 (by decide) ?_
        refine zz_lS (As := [.int 1, .int (((((x.toUInt64 >>> ((23 : Int32).toInt64.toUInt64 &&& Int64.toUInt64 63)).toInt64) &&& 255).toInt32) - 127), .long ((x &&& 8388607) ||| 8388608), .int 23]) (wc := []) (wr := []) (rest := []) hC hZ hs hl zc_X1_62 (co_towardsZero g 1 (((((x.toUInt64 >>> ((23 : Int32).toInt64.toUInt64 &&& Int64.toUInt64 63)).toInt64) &&& 255).toInt32) - 127) ((x &&& 8388607) ||| 8388608) 23) [] [] rfl rfl (by decide +kernel) rfl rfl (Nat.le_of_ble_eq_true rfl) ⟨⟨Nat.le_of_ble_eq_true rfl, Nat.le_of_ble_eq_true rfl⟩, Nat.le_of_ble_eq_true rfl, Nat.le_of_ble_eq_true rfl⟩ dX1_number_58 (fun r13 u14 H locs hp hZ => ?_)
        obtain ⟨rfl, rfl⟩ := hp
        have hZ : zz_Z g A s.heap [] H locs := hZ
        exact zz_lret hC hZ (⟨by show _ = _; rw [fn_co_number, if_pos c1, if_neg c9, if_neg c10], rfl⟩) (Nat.le_of_ble_eq_true rfl) (Nat.le_of_ble_eq_true rfl) dX1_number_61
    · refine lv_lconst (v := 0) hx hb dX1_number_38 (by decide) ?_
      refine lv_goto (tgt := 61) hx hb dX1_number_39 (by decide) ?_
      exact zz_lret hC hZ (⟨by show _ = _; rw [fn_co_number, if_pos c1, if_pos c9], rfl⟩) (Nat.le_of_ble_eq_true rfl) (Nat.le_of_ble_eq_true rfl) dX1_number_61
def fn_topBit (x : Int64) : Nat → Int32
  | 0 => 0
  | n + 1 => if (x.toUInt64 >>> ((nI (n + 1) : Int32).toInt64.toUInt64 &&& Int64.toUInt64 63)).toInt64 &&& 1 = 1 then nI (n + 1) else fn_topBit x n
theorem dg_X1_topBit_0 : (decode cX1_topBit 0 = .ok (.bipush 63, 2)) ∧ (decode cX1_topBit 2 = .ok (.istore_n 2, 1)) ∧ (decode cX1_topBit 3 = .ok (.iload_n 2, 1)) ∧ (decode cX1_topBit 4 = .ok (.ifCond .le 21, 3)) ∧ (decode cX1_topBit 7 = .ok (.lload_n 0, 1)) ∧ (decode cX1_topBit 8 = .ok (.iload_n 2, 1)) ∧ (decode cX1_topBit 9 = .ok (.lushr, 1)) ∧ (decode cX1_topBit 10 = .ok (.lconst 1, 1)) ∧ (decode cX1_topBit 11 = .ok (.land, 1)) ∧ (decode cX1_topBit 12 = .ok (.lconst 1, 1)) ∧ (decode cX1_topBit 13 = .ok (.lcmp, 1)) ∧ (decode cX1_topBit 14 = .ok (.ifCond .ne 5, 3)) ∧ (decode cX1_topBit 17 = .ok (.iload_n 2, 1)) ∧ (decode cX1_topBit 18 = .ok (.ireturn, 1)) ∧ (decode cX1_topBit 19 = .ok (.iinc 2 (-1), 3)) ∧ (decode cX1_topBit 22 = .ok (.goto (-19), 3)) := by decide +kernel
theorem dX1_topBit_0 : decode cX1_topBit 0 = .ok (.bipush 63, 2) := dg_X1_topBit_0.1
theorem dX1_topBit_2 : decode cX1_topBit 2 = .ok (.istore_n 2, 1) := dg_X1_topBit_0.2.1
theorem dX1_topBit_3 : decode cX1_topBit 3 = .ok (.iload_n 2, 1) := dg_X1_topBit_0.2.2.1
theorem dX1_topBit_4 : decode cX1_topBit 4 = .ok (.ifCond .le 21, 3) := dg_X1_topBit_0.2.2.2.1
theorem dX1_topBit_7 : decode cX1_topBit 7 = .ok (.lload_n 0, 1) := dg_X1_topBit_0.2.2.2.2.1
theorem dX1_topBit_8 : decode cX1_topBit 8 = .ok (.iload_n 2, 1) := dg_X1_topBit_0.2.2.2.2.2.1
theorem dX1_topBit_9 : decode cX1_topBit 9 = .ok (.lushr, 1) := dg_X1_topBit_0.2.2.2.2.2.2.1
theorem dX1_topBit_10 : decode cX1_topBit 10 = .ok (.lconst 1, 1) := dg_X1_topBit_0.2.2.2.2.2.2.2.1
theorem dX1_topBit_11 : decode cX1_topBit 11 = .ok (.land, 1) := dg_X1_topBit_0.2.2.2.2.2.2.2.2.1
theorem dX1_topBit_12 : decode cX1_topBit 12 = .ok (.lconst 1, 1) := dg_X1_topBit_0.2.2.2.2.2.2.2.2.2.1
theorem dX1_topBit_13 : decode cX1_topBit 13 = .ok (.lcmp, 1) := dg_X1_topBit_0.2.2.2.2.2.2.2.2.2.2.1
theorem dX1_topBit_14 : decode cX1_topBit 14 = .ok (.ifCond .ne 5, 3) := dg_X1_topBit_0.2.2.2.2.2.2.2.2.2.2.2.1
theorem dX1_topBit_17 : decode cX1_topBit 17 = .ok (.iload_n 2, 1) := dg_X1_topBit_0.2.2.2.2.2.2.2.2.2.2.2.2.1
theorem dX1_topBit_18 : decode cX1_topBit 18 = .ok (.ireturn, 1) := dg_X1_topBit_0.2.2.2.2.2.2.2.2.2.2.2.2.2.1
theorem dX1_topBit_19 : decode cX1_topBit 19 = .ok (.iinc 2 (-1), 3) := dg_X1_topBit_0.2.2.2.2.2.2.2.2.2.2.2.2.2.2.1
theorem dX1_topBit_22 : decode cX1_topBit 22 = .ok (.goto (-19), 3) := dg_X1_topBit_0.2.2.2.2.2.2.2.2.2.2.2.2.2.2.2
theorem dg_X1_topBit_25 : (decode cX1_topBit 25 = .ok (.iconst 0, 1)) ∧ (decode cX1_topBit 26 = .ok (.ireturn, 1)) := by decide +kernel
theorem dX1_topBit_25 : decode cX1_topBit 25 = .ok (.iconst 0, 1) := dg_X1_topBit_25.1
theorem dX1_topBit_26 : decode cX1_topBit 26 = .ok (.ireturn, 1) := dg_X1_topBit_25.2
abbrev rm_co_topBit : Room := { frames := 0, cells := 0, slots := 0, locals := 0 }
abbrev po_co_topBit (g : zz_G) (x : Int64) : Int32 → va_W → Prop := fun (r : Int32) (u : va_W) => r = fn_topBit x 63 ∧ u = []
set_option maxHeartbeats 4000000 in
set_option maxRecDepth 100000 in
theorem co_topBit (g : zz_G) (x : Int64) : zz_I g yX1_topBit (.code yX1_topBit cX1_topBit 3 (some .int)) rm_co_topBit [.long x] [] (po_co_topBit g x) := by
  refine zz_I.intro (own := RX1) (cc := cX1_topBit) (nL := 3) (by decide) rfl (Nat.le_of_ble_eq_true rfl) ?_
  intro p l e s m args below meth c A H locs ls hC hnm hs hZ hl
  obtain ⟨hx, hb, hml, hown, hts, hr, hlocks, hK⟩ := id hC
  have hl : lv_has ls 3 [(0, .long x)] := hl
  have hZ : zz_Z g A s.heap [] H locs := hZ
  refine lv_bipush (v := 63) hx hb dX1_topBit_0 (by decide) ?_
  refine lv_istore_n (lv' := [(2, .int 63), (0, .long x)]) hx hb dX1_topBit_2 rfl hl (by decide) rfl (fun ls hl => ?_)
  have LP1 : ∀ (N : Nat) (n : Nat) (H : Heap) (locs : List Loc) (ls : Array Slot), (n ≤ 63) → (fn_topBit x 63 = fn_topBit x n) → n < N → zz_Z g A s.heap [] H locs → lv_has ls 3 [(2, .int (nI n)), (0, .long x)] → W p l e rm_co_topBit s m args below meth c H locs 0 0 (zz_QI below g args s A rm_co_topBit.cells rm_co_topBit.slots (po_co_topBit g x)) (F0 m 3 ls []) := by
    intro N
    induction N with
    | zero =>
      intro n H locs ls hn6 he hN
      exact absurd hN (Nat.not_lt_zero _)
    | succ N ih =>
      intro n H locs ls hn6 he hN hZ hl
      refine lv_iload_n hx hb dX1_topBit_3 rfl (lv_at hl 0 rfl) ?_
      have bd3 : n < 2 ^ 31 := by omega
      refine lv_if_le (tgt := 25) hx hb dX1_topBit_4 (by decide) (fun c2 => ?_) (fun c2 => ?_)
      · have nc2 : n ≤ 0 := (nI_leI bd3 (by decide)).mp (show nI (n) ≤ nI (0) from c2)
        refine lv_iconst (v := 0) hx hb dX1_topBit_25 (by decide) ?_
        exact zz_iret hC hZ (⟨by rw [he, show n = 0 by omega, fn_topBit], rfl⟩) (Nat.le_of_ble_eq_true rfl) (Nat.le_of_ble_eq_true rfl) dX1_topBit_26
      · have nc2 : ¬ n ≤ 0 := fun zq => c2 (show nI (n) ≤ nI (0) from (nI_leI bd3 (by decide)).mpr zq)
        obtain ⟨K, rfl⟩ : ∃ K, n = K + 1 := ⟨n - 1, by omega⟩
        refine lv_lload_n hx hb dX1_topBit_7 rfl (lv_at hl 1 rfl) ?_
        refine lv_iload_n hx hb dX1_topBit_8 rfl (lv_at hl 0 rfl) ?_
        refine lv_lushr hx hb dX1_topBit_9 rfl ?_
        refine lv_lconst (v := 1) hx hb dX1_topBit_10 (by decide) ?_
        refine lv_land hx hb dX1_topBit_11 ?_
        refine lv_lconst (v := 1) hx hb dX1_topBit_12 (by decide) ?_
        refine zz_lcmp_ne (tgt := 19) hC dX1_topBit_13 dX1_topBit_14 (by decide) (fun c4 => ?_) (fun c4 => ?_)
        · refine lv_iinc (v := nI K) (lv' := [(2, .int (nI K)), (0, .long x)]) hx hb dX1_topBit_19 hl (k := 0) rfl (pk_m1 _) (by decide) rfl (fun ls hl => ?_)
          refine lv_goto (tgt := 3) hx hb dX1_topBit_22 (by decide) ?_
          exact ih K H locs ls (by omega) (he.trans (by rw [fn_topBit, if_neg c4])) (by omega) hZ (lv_sub hl [0, 1] rfl)
        · refine lv_iload_n hx hb dX1_topBit_17 rfl (lv_at hl 0 rfl) ?_
          exact zz_iret hC hZ (⟨by rw [he, fn_topBit, if_pos c4], rfl⟩) (Nat.le_of_ble_eq_true rfl) (Nat.le_of_ble_eq_true rfl) dX1_topBit_18
  exact LP1 _ 63 H locs ls (by omega) (rfl) (Nat.lt_succ_self _) hZ (lv_sub hl [0, 1] rfl)
theorem dg_X1_nearest_0 : (decode cX1_nearest 0 = .ok (.lload_n 0, 1)) ∧ (decode cX1_nearest 1 = .ok (.lconst 0, 1)) ∧ (decode cX1_nearest 2 = .ok (.lcmp, 1)) ∧ (decode cX1_nearest 3 = .ok (.ifCond .ne 5, 3)) ∧ (decode cX1_nearest 6 = .ok (.lconst 0, 1)) ∧ (decode cX1_nearest 7 = .ok (.lreturn, 1)) ∧ (decode cX1_nearest 8 = .ok (.lload_n 0, 1)) ∧ (decode cX1_nearest 9 = .ok (.lconst 0, 1)) ∧ (decode cX1_nearest 10 = .ok (.lcmp, 1)) ∧ (decode cX1_nearest 11 = .ok (.ifCond .ge 8, 3)) ∧ (decode cX1_nearest 14 = .ok (.lload_n 0, 1)) ∧ (decode cX1_nearest 15 = .ok (.lneg, 1)) ∧ (decode cX1_nearest 16 = .ok (.goto 4, 3)) ∧ (decode cX1_nearest 19 = .ok (.lload_n 0, 1)) ∧ (decode cX1_nearest 20 = .ok (.lstore 4, 2)) ∧ (decode cX1_nearest 22 = .ok (.lload 4, 2)) := by decide +kernel
theorem dX1_nearest_0 : decode cX1_nearest 0 = .ok (.lload_n 0, 1) := dg_X1_nearest_0.1
theorem dX1_nearest_1 : decode cX1_nearest 1 = .ok (.lconst 0, 1) := dg_X1_nearest_0.2.1
theorem dX1_nearest_2 : decode cX1_nearest 2 = .ok (.lcmp, 1) := dg_X1_nearest_0.2.2.1
theorem dX1_nearest_3 : decode cX1_nearest 3 = .ok (.ifCond .ne 5, 3) := dg_X1_nearest_0.2.2.2.1
theorem dX1_nearest_6 : decode cX1_nearest 6 = .ok (.lconst 0, 1) := dg_X1_nearest_0.2.2.2.2.1
theorem dX1_nearest_7 : decode cX1_nearest 7 = .ok (.lreturn, 1) := dg_X1_nearest_0.2.2.2.2.2.1
theorem dX1_nearest_8 : decode cX1_nearest 8 = .ok (.lload_n 0, 1) := dg_X1_nearest_0.2.2.2.2.2.2.1
theorem dX1_nearest_9 : decode cX1_nearest 9 = .ok (.lconst 0, 1) := dg_X1_nearest_0.2.2.2.2.2.2.2.1
theorem dX1_nearest_10 : decode cX1_nearest 10 = .ok (.lcmp, 1) := dg_X1_nearest_0.2.2.2.2.2.2.2.2.1
theorem dX1_nearest_11 : decode cX1_nearest 11 = .ok (.ifCond .ge 8, 3) := dg_X1_nearest_0.2.2.2.2.2.2.2.2.2.1
theorem dX1_nearest_14 : decode cX1_nearest 14 = .ok (.lload_n 0, 1) := dg_X1_nearest_0.2.2.2.2.2.2.2.2.2.2.1
theorem dX1_nearest_15 : decode cX1_nearest 15 = .ok (.lneg, 1) := dg_X1_nearest_0.2.2.2.2.2.2.2.2.2.2.2.1
theorem dX1_nearest_16 : decode cX1_nearest 16 = .ok (.goto 4, 3) := dg_X1_nearest_0.2.2.2.2.2.2.2.2.2.2.2.2.1
theorem dX1_nearest_19 : decode cX1_nearest 19 = .ok (.lload_n 0, 1) := dg_X1_nearest_0.2.2.2.2.2.2.2.2.2.2.2.2.2.1
theorem dX1_nearest_20 : decode cX1_nearest 20 = .ok (.lstore 4, 2) := dg_X1_nearest_0.2.2.2.2.2.2.2.2.2.2.2.2.2.2.1
theorem dX1_nearest_22 : decode cX1_nearest 22 = .ok (.lload 4, 2) := dg_X1_nearest_0.2.2.2.2.2.2.2.2.2.2.2.2.2.2.2
theorem dg_X1_nearest_24 : (decode cX1_nearest 24 = .ok (.invokestatic 50, 3)) ∧ (decode cX1_nearest 27 = .ok (.istore 6, 2)) ∧ (decode cX1_nearest 29 = .ok (.iload 6, 2)) ∧ (decode cX1_nearest 31 = .ok (.iload_n 2, 1)) ∧ (decode cX1_nearest 32 = .ok (.if_icmp .gt 15, 3)) ∧ (decode cX1_nearest 35 = .ok (.lload 4, 2)) ∧ (decode cX1_nearest 37 = .ok (.iload_n 2, 1)) ∧ (decode cX1_nearest 38 = .ok (.iload 6, 2)) ∧ (decode cX1_nearest 40 = .ok (.isub, 1)) ∧ (decode cX1_nearest 41 = .ok (.lshl, 1)) ∧ (decode cX1_nearest 42 = .ok (.lstore 7, 2)) ∧ (decode cX1_nearest 44 = .ok (.goto 66, 3)) ∧ (decode cX1_nearest 47 = .ok (.iload 6, 2)) ∧ (decode cX1_nearest 49 = .ok (.iload_n 2, 1)) ∧ (decode cX1_nearest 50 = .ok (.isub, 1)) ∧ (decode cX1_nearest 51 = .ok (.istore 9, 2)) := by decide +kernel
theorem dX1_nearest_24 : decode cX1_nearest 24 = .ok (.invokestatic 50, 3) := dg_X1_nearest_24.1
theorem dX1_nearest_27 : decode cX1_nearest 27 = .ok (.istore 6, 2) := dg_X1_nearest_24.2.1
theorem dX1_nearest_29 : decode cX1_nearest 29 = .ok (.iload 6, 2) := dg_X1_nearest_24.2.2.1
theorem dX1_nearest_31 : decode cX1_nearest 31 = .ok (.iload_n 2, 1) := dg_X1_nearest_24.2.2.2.1
theorem dX1_nearest_32 : decode cX1_nearest 32 = .ok (.if_icmp .gt 15, 3) := dg_X1_nearest_24.2.2.2.2.1
theorem dX1_nearest_35 : decode cX1_nearest 35 = .ok (.lload 4, 2) := dg_X1_nearest_24.2.2.2.2.2.1
theorem dX1_nearest_37 : decode cX1_nearest 37 = .ok (.iload_n 2, 1) := dg_X1_nearest_24.2.2.2.2.2.2.1
theorem dX1_nearest_38 : decode cX1_nearest 38 = .ok (.iload 6, 2) := dg_X1_nearest_24.2.2.2.2.2.2.2.1
theorem dX1_nearest_40 : decode cX1_nearest 40 = .ok (.isub, 1) := dg_X1_nearest_24.2.2.2.2.2.2.2.2.1
theorem dX1_nearest_41 : decode cX1_nearest 41 = .ok (.lshl, 1) := dg_X1_nearest_24.2.2.2.2.2.2.2.2.2.1
theorem dX1_nearest_42 : decode cX1_nearest 42 = .ok (.lstore 7, 2) := dg_X1_nearest_24.2.2.2.2.2.2.2.2.2.2.1
theorem dX1_nearest_44 : decode cX1_nearest 44 = .ok (.goto 66, 3) := dg_X1_nearest_24.2.2.2.2.2.2.2.2.2.2.2.1
theorem dX1_nearest_47 : decode cX1_nearest 47 = .ok (.iload 6, 2) := dg_X1_nearest_24.2.2.2.2.2.2.2.2.2.2.2.2.1
theorem dX1_nearest_49 : decode cX1_nearest 49 = .ok (.iload_n 2, 1) := dg_X1_nearest_24.2.2.2.2.2.2.2.2.2.2.2.2.2.1
theorem dX1_nearest_50 : decode cX1_nearest 50 = .ok (.isub, 1) := dg_X1_nearest_24.2.2.2.2.2.2.2.2.2.2.2.2.2.2.1
theorem dX1_nearest_51 : decode cX1_nearest 51 = .ok (.istore 9, 2) := dg_X1_nearest_24.2.2.2.2.2.2.2.2.2.2.2.2.2.2.2
theorem dg_X1_nearest_53 : (decode cX1_nearest 53 = .ok (.lload 4, 2)) ∧ (decode cX1_nearest 55 = .ok (.iload 9, 2)) ∧ (decode cX1_nearest 57 = .ok (.lushr, 1)) ∧ (decode cX1_nearest 58 = .ok (.lstore 7, 2)) ∧ (decode cX1_nearest 60 = .ok (.lload 4, 2)) ∧ (decode cX1_nearest 62 = .ok (.lconst 1, 1)) ∧ (decode cX1_nearest 63 = .ok (.iload 9, 2)) ∧ (decode cX1_nearest 65 = .ok (.lshl, 1)) ∧ (decode cX1_nearest 66 = .ok (.lconst 1, 1)) ∧ (decode cX1_nearest 67 = .ok (.lsub, 1)) ∧ (decode cX1_nearest 68 = .ok (.land, 1)) ∧ (decode cX1_nearest 69 = .ok (.lstore 10, 2)) ∧ (decode cX1_nearest 71 = .ok (.lconst 1, 1)) ∧ (decode cX1_nearest 72 = .ok (.iload 9, 2)) ∧ (decode cX1_nearest 74 = .ok (.iconst 1, 1)) ∧ (decode cX1_nearest 75 = .ok (.isub, 1)) := by decide +kernel
theorem dX1_nearest_53 : decode cX1_nearest 53 = .ok (.lload 4, 2) := dg_X1_nearest_53.1
theorem dX1_nearest_55 : decode cX1_nearest 55 = .ok (.iload 9, 2) := dg_X1_nearest_53.2.1
theorem dX1_nearest_57 : decode cX1_nearest 57 = .ok (.lushr, 1) := dg_X1_nearest_53.2.2.1
theorem dX1_nearest_58 : decode cX1_nearest 58 = .ok (.lstore 7, 2) := dg_X1_nearest_53.2.2.2.1
theorem dX1_nearest_60 : decode cX1_nearest 60 = .ok (.lload 4, 2) := dg_X1_nearest_53.2.2.2.2.1
theorem dX1_nearest_62 : decode cX1_nearest 62 = .ok (.lconst 1, 1) := dg_X1_nearest_53.2.2.2.2.2.1
theorem dX1_nearest_63 : decode cX1_nearest 63 = .ok (.iload 9, 2) := dg_X1_nearest_53.2.2.2.2.2.2.1
theorem dX1_nearest_65 : decode cX1_nearest 65 = .ok (.lshl, 1) := dg_X1_nearest_53.2.2.2.2.2.2.2.1
theorem dX1_nearest_66 : decode cX1_nearest 66 = .ok (.lconst 1, 1) := dg_X1_nearest_53.2.2.2.2.2.2.2.2.1
theorem dX1_nearest_67 : decode cX1_nearest 67 = .ok (.lsub, 1) := dg_X1_nearest_53.2.2.2.2.2.2.2.2.2.1
theorem dX1_nearest_68 : decode cX1_nearest 68 = .ok (.land, 1) := dg_X1_nearest_53.2.2.2.2.2.2.2.2.2.2.1
theorem dX1_nearest_69 : decode cX1_nearest 69 = .ok (.lstore 10, 2) := dg_X1_nearest_53.2.2.2.2.2.2.2.2.2.2.2.1
theorem dX1_nearest_71 : decode cX1_nearest 71 = .ok (.lconst 1, 1) := dg_X1_nearest_53.2.2.2.2.2.2.2.2.2.2.2.2.1
theorem dX1_nearest_72 : decode cX1_nearest 72 = .ok (.iload 9, 2) := dg_X1_nearest_53.2.2.2.2.2.2.2.2.2.2.2.2.2.1
theorem dX1_nearest_74 : decode cX1_nearest 74 = .ok (.iconst 1, 1) := dg_X1_nearest_53.2.2.2.2.2.2.2.2.2.2.2.2.2.2.1
theorem dX1_nearest_75 : decode cX1_nearest 75 = .ok (.isub, 1) := dg_X1_nearest_53.2.2.2.2.2.2.2.2.2.2.2.2.2.2.2
theorem dg_X1_nearest_76 : (decode cX1_nearest 76 = .ok (.lshl, 1)) ∧ (decode cX1_nearest 77 = .ok (.lstore 12, 2)) ∧ (decode cX1_nearest 79 = .ok (.lload 10, 2)) ∧ (decode cX1_nearest 81 = .ok (.lload 12, 2)) ∧ (decode cX1_nearest 83 = .ok (.lcmp, 1)) ∧ (decode cX1_nearest 84 = .ok (.ifCond .gt 20, 3)) ∧ (decode cX1_nearest 87 = .ok (.lload 10, 2)) ∧ (decode cX1_nearest 89 = .ok (.lload 12, 2)) ∧ (decode cX1_nearest 91 = .ok (.lcmp, 1)) ∧ (decode cX1_nearest 92 = .ok (.ifCond .ne 18, 3)) ∧ (decode cX1_nearest 95 = .ok (.lload 7, 2)) ∧ (decode cX1_nearest 97 = .ok (.lconst 1, 1)) ∧ (decode cX1_nearest 98 = .ok (.land, 1)) ∧ (decode cX1_nearest 99 = .ok (.lconst 1, 1)) ∧ (decode cX1_nearest 100 = .ok (.lcmp, 1)) ∧ (decode cX1_nearest 101 = .ok (.ifCond .ne 9, 3)) := by decide +kernel
theorem dX1_nearest_76 : decode cX1_nearest 76 = .ok (.lshl, 1) := dg_X1_nearest_76.1
theorem dX1_nearest_77 : decode cX1_nearest 77 = .ok (.lstore 12, 2) := dg_X1_nearest_76.2.1
theorem dX1_nearest_79 : decode cX1_nearest 79 = .ok (.lload 10, 2) := dg_X1_nearest_76.2.2.1
theorem dX1_nearest_81 : decode cX1_nearest 81 = .ok (.lload 12, 2) := dg_X1_nearest_76.2.2.2.1
theorem dX1_nearest_83 : decode cX1_nearest 83 = .ok (.lcmp, 1) := dg_X1_nearest_76.2.2.2.2.1
theorem dX1_nearest_84 : decode cX1_nearest 84 = .ok (.ifCond .gt 20, 3) := dg_X1_nearest_76.2.2.2.2.2.1
theorem dX1_nearest_87 : decode cX1_nearest 87 = .ok (.lload 10, 2) := dg_X1_nearest_76.2.2.2.2.2.2.1
theorem dX1_nearest_89 : decode cX1_nearest 89 = .ok (.lload 12, 2) := dg_X1_nearest_76.2.2.2.2.2.2.2.1
theorem dX1_nearest_91 : decode cX1_nearest 91 = .ok (.lcmp, 1) := dg_X1_nearest_76.2.2.2.2.2.2.2.2.1
theorem dX1_nearest_92 : decode cX1_nearest 92 = .ok (.ifCond .ne 18, 3) := dg_X1_nearest_76.2.2.2.2.2.2.2.2.2.1
theorem dX1_nearest_95 : decode cX1_nearest 95 = .ok (.lload 7, 2) := dg_X1_nearest_76.2.2.2.2.2.2.2.2.2.2.1
theorem dX1_nearest_97 : decode cX1_nearest 97 = .ok (.lconst 1, 1) := dg_X1_nearest_76.2.2.2.2.2.2.2.2.2.2.2.1
theorem dX1_nearest_98 : decode cX1_nearest 98 = .ok (.land, 1) := dg_X1_nearest_76.2.2.2.2.2.2.2.2.2.2.2.2.1
theorem dX1_nearest_99 : decode cX1_nearest 99 = .ok (.lconst 1, 1) := dg_X1_nearest_76.2.2.2.2.2.2.2.2.2.2.2.2.2.1
theorem dX1_nearest_100 : decode cX1_nearest 100 = .ok (.lcmp, 1) := dg_X1_nearest_76.2.2.2.2.2.2.2.2.2.2.2.2.2.2.1
theorem dX1_nearest_101 : decode cX1_nearest 101 = .ok (.ifCond .ne 9, 3) := dg_X1_nearest_76.2.2.2.2.2.2.2.2.2.2.2.2.2.2.2
theorem dg_X1_nearest_104 : (decode cX1_nearest 104 = .ok (.lload 7, 2)) ∧ (decode cX1_nearest 106 = .ok (.lconst 1, 1)) ∧ (decode cX1_nearest 107 = .ok (.ladd, 1)) ∧ (decode cX1_nearest 108 = .ok (.lstore 7, 2)) ∧ (decode cX1_nearest 110 = .ok (.iload 6, 2)) ∧ (decode cX1_nearest 112 = .ok (.iload_n 3, 1)) ∧ (decode cX1_nearest 113 = .ok (.iadd, 1)) ∧ (decode cX1_nearest 114 = .ok (.i2l, 1)) ∧ (decode cX1_nearest 115 = .ok (.iload_n 2, 1)) ∧ (decode cX1_nearest 116 = .ok (.lshl, 1)) ∧ (decode cX1_nearest 117 = .ok (.lload 7, 2)) ∧ (decode cX1_nearest 119 = .ok (.lconst 1, 1)) ∧ (decode cX1_nearest 120 = .ok (.iload_n 2, 1)) ∧ (decode cX1_nearest 121 = .ok (.lshl, 1)) ∧ (decode cX1_nearest 122 = .ok (.lsub, 1)) ∧ (decode cX1_nearest 123 = .ok (.ladd, 1)) := by decide +kernel
theorem dX1_nearest_104 : decode cX1_nearest 104 = .ok (.lload 7, 2) := dg_X1_nearest_104.1
theorem dX1_nearest_106 : decode cX1_nearest 106 = .ok (.lconst 1, 1) := dg_X1_nearest_104.2.1
theorem dX1_nearest_107 : decode cX1_nearest 107 = .ok (.ladd, 1) := dg_X1_nearest_104.2.2.1
theorem dX1_nearest_108 : decode cX1_nearest 108 = .ok (.lstore 7, 2) := dg_X1_nearest_104.2.2.2.1
theorem dX1_nearest_110 : decode cX1_nearest 110 = .ok (.iload 6, 2) := dg_X1_nearest_104.2.2.2.2.1
theorem dX1_nearest_112 : decode cX1_nearest 112 = .ok (.iload_n 3, 1) := dg_X1_nearest_104.2.2.2.2.2.1
theorem dX1_nearest_113 : decode cX1_nearest 113 = .ok (.iadd, 1) := dg_X1_nearest_104.2.2.2.2.2.2.1
theorem dX1_nearest_114 : decode cX1_nearest 114 = .ok (.i2l, 1) := dg_X1_nearest_104.2.2.2.2.2.2.2.1
theorem dX1_nearest_115 : decode cX1_nearest 115 = .ok (.iload_n 2, 1) := dg_X1_nearest_104.2.2.2.2.2.2.2.2.1
theorem dX1_nearest_116 : decode cX1_nearest 116 = .ok (.lshl, 1) := dg_X1_nearest_104.2.2.2.2.2.2.2.2.2.1
theorem dX1_nearest_117 : decode cX1_nearest 117 = .ok (.lload 7, 2) := dg_X1_nearest_104.2.2.2.2.2.2.2.2.2.2.1
theorem dX1_nearest_119 : decode cX1_nearest 119 = .ok (.lconst 1, 1) := dg_X1_nearest_104.2.2.2.2.2.2.2.2.2.2.2.1
theorem dX1_nearest_120 : decode cX1_nearest 120 = .ok (.iload_n 2, 1) := dg_X1_nearest_104.2.2.2.2.2.2.2.2.2.2.2.2.1
theorem dX1_nearest_121 : decode cX1_nearest 121 = .ok (.lshl, 1) := dg_X1_nearest_104.2.2.2.2.2.2.2.2.2.2.2.2.2.1
theorem dX1_nearest_122 : decode cX1_nearest 122 = .ok (.lsub, 1) := dg_X1_nearest_104.2.2.2.2.2.2.2.2.2.2.2.2.2.2.1
theorem dX1_nearest_123 : decode cX1_nearest 123 = .ok (.ladd, 1) := dg_X1_nearest_104.2.2.2.2.2.2.2.2.2.2.2.2.2.2.2
theorem dg_X1_nearest_124 : (decode cX1_nearest 124 = .ok (.lreturn, 1)) := by decide +kernel
theorem dX1_nearest_124 : decode cX1_nearest 124 = .ok (.lreturn, 1) := dg_X1_nearest_124
theorem zk_357 : Cond.methodLink RX1 50 yX1_topBit ∈ zz_w := zz_in (List.mem_append_right _ (List.mem_append_right _ (List.mem_append_left _ (List.mem_of_getElem? (i := 117) (by decide +kernel))))) rfl
set_option maxRecDepth 20000 in
theorem zk_359 : Cond.code yX1_topBit cX1_topBit 3 (some .int) ∈ zz_w := zz_in (List.mem_append_right _ (List.mem_append_right _ (List.mem_append_left _ (List.mem_of_getElem? (i := 119) (rfl))))) rfl
theorem zk_358 : Cond.static yX1_topBit ∈ zz_w := zz_in (List.mem_append_right _ (List.mem_append_right _ (List.mem_append_left _ (List.mem_of_getElem? (i := 118) (by decide +kernel))))) rfl
theorem zc_X1_50 : zz_cS RX1 50 yX1_topBit cX1_topBit 3 (some .int) 1 := ⟨⟨zk_357, zk_359, zk_8, by decide, by decide, by decide +kernel⟩, zk_358⟩
def fn_co_nearest (x : Int64) (k : Int32) (j : Int32) : Int64 := (if x = 0 then 0 else (if 0 ≤ x then (if k < (fn_topBit x 63) then (if ((1 : Int64) <<< ((((fn_topBit x 63) - k) - 1 : Int32).toInt64 &&& 63)) < (x &&& (((1 : Int64) <<< (((fn_topBit x 63) - k : Int32).toInt64 &&& 63)) - 1)) then ((((fn_topBit x 63) + j).toInt64 : Int64) <<< ((k : Int32).toInt64 &&& 63)) + ((((x.toUInt64 >>> (((fn_topBit x 63) - k : Int32).toInt64.toUInt64 &&& Int64.toUInt64 63)).toInt64) + 1) - ((1 : Int64) <<< ((k : Int32).toInt64 &&& 63))) else (if (x &&& (((1 : Int64) <<< (((fn_topBit x 63) - k : Int32).toInt64 &&& 63)) - 1)) = ((1 : Int64) <<< ((((fn_topBit x 63) - k) - 1 : Int32).toInt64 &&& 63)) then (if (((x.toUInt64 >>> (((fn_topBit x 63) - k : Int32).toInt64.toUInt64 &&& Int64.toUInt64 63)).toInt64) &&& 1) = 1 then ((((fn_topBit x 63) + j).toInt64 : Int64) <<< ((k : Int32).toInt64 &&& 63)) + ((((x.toUInt64 >>> (((fn_topBit x 63) - k : Int32).toInt64.toUInt64 &&& Int64.toUInt64 63)).toInt64) + 1) - ((1 : Int64) <<< ((k : Int32).toInt64 &&& 63))) else ((((fn_topBit x 63) + j).toInt64 : Int64) <<< ((k : Int32).toInt64 &&& 63)) + (((x.toUInt64 >>> (((fn_topBit x 63) - k : Int32).toInt64.toUInt64 &&& Int64.toUInt64 63)).toInt64) - ((1 : Int64) <<< ((k : Int32).toInt64 &&& 63)))) else ((((fn_topBit x 63) + j).toInt64 : Int64) <<< ((k : Int32).toInt64 &&& 63)) + (((x.toUInt64 >>> (((fn_topBit x 63) - k : Int32).toInt64.toUInt64 &&& Int64.toUInt64 63)).toInt64) - ((1 : Int64) <<< ((k : Int32).toInt64 &&& 63))))) else ((((fn_topBit x 63) + j).toInt64 : Int64) <<< ((k : Int32).toInt64 &&& 63)) + (((x : Int64) <<< ((k - (fn_topBit x 63) : Int32).toInt64 &&& 63)) - ((1 : Int64) <<< ((k : Int32).toInt64 &&& 63)))) else (if k < (fn_topBit (-x) 63) then (if ((1 : Int64) <<< ((((fn_topBit (-x) 63) - k) - 1 : Int32).toInt64 &&& 63)) < ((-x) &&& (((1 : Int64) <<< (((fn_topBit (-x) 63) - k : Int32).toInt64 &&& 63)) - 1)) then ((((fn_topBit (-x) 63) + j).toInt64 : Int64) <<< ((k : Int32).toInt64 &&& 63)) + (((((-x).toUInt64 >>> (((fn_topBit (-x) 63) - k : Int32).toInt64.toUInt64 &&& Int64.toUInt64 63)).toInt64) + 1) - ((1 : Int64) <<< ((k : Int32).toInt64 &&& 63))) else (if ((-x) &&& (((1 : Int64) <<< (((fn_topBit (-x) 63) - k : Int32).toInt64 &&& 63)) - 1)) = ((1 : Int64) <<< ((((fn_topBit (-x) 63) - k) - 1 : Int32).toInt64 &&& 63)) then (if ((((-x).toUInt64 >>> (((fn_topBit (-x) 63) - k : Int32).toInt64.toUInt64 &&& Int64.toUInt64 63)).toInt64) &&& 1) = 1 then ((((fn_topBit (-x) 63) + j).toInt64 : Int64) <<< ((k : Int32).toInt64 &&& 63)) + (((((-x).toUInt64 >>> (((fn_topBit (-x) 63) - k : Int32).toInt64.toUInt64 &&& Int64.toUInt64 63)).toInt64) + 1) - ((1 : Int64) <<< ((k : Int32).toInt64 &&& 63))) else ((((fn_topBit (-x) 63) + j).toInt64 : Int64) <<< ((k : Int32).toInt64 &&& 63)) + ((((-x).toUInt64 >>> (((fn_topBit (-x) 63) - k : Int32).toInt64.toUInt64 &&& Int64.toUInt64 63)).toInt64) - ((1 : Int64) <<< ((k : Int32).toInt64 &&& 63)))) else ((((fn_topBit (-x) 63) + j).toInt64 : Int64) <<< ((k : Int32).toInt64 &&& 63)) + ((((-x).toUInt64 >>> (((fn_topBit (-x) 63) - k : Int32).toInt64.toUInt64 &&& Int64.toUInt64 63)).toInt64) - ((1 : Int64) <<< ((k : Int32).toInt64 &&& 63))))) else ((((fn_topBit (-x) 63) + j).toInt64 : Int64) <<< ((k : Int32).toInt64 &&& 63)) + (((-x : Int64) <<< ((k - (fn_topBit (-x) 63) : Int32).toInt64 &&& 63)) - ((1 : Int64) <<< ((k : Int32).toInt64 &&& 63))))))
abbrev rm_co_nearest : Room := { frames := 1, cells := 0, slots := 0, locals := 22 }
abbrev po_co_nearest (g : zz_G) (x : Int64) (k : Int32) (j : Int32) : Int64 → va_W → Prop := fun (r : Int64) (u : va_W) => r = fn_co_nearest x k j ∧ u = []
set_option maxHeartbeats 4000000 in
set_option maxRecDepth 100000 in
theorem co_nearest (g : zz_G) (x : Int64) (k : Int32) (j : Int32) : zz_L g yX1_nearest (.code yX1_nearest cX1_nearest 14 (some .long)) rm_co_nearest [.long x, .int k, .int j] [] (po_co_nearest g x k j) := by
  refine zz_L.intro (own := RX1) (cc := cX1_nearest) (nL := 14) (by decide) rfl (Nat.le_of_ble_eq_true rfl) ?_
  intro p l e s m args below meth c A H locs ls hC hnm hs hZ hl
  obtain ⟨hx, hb, hml, hown, hts, hr, hlocks, hK⟩ := id hC
  have hl : lv_has ls 14 [(0, .long x), (2, .int k), (3, .int j)] := hl
  have hZ : zz_Z g A s.heap [] H locs := hZ
  refine lv_lload_n hx hb dX1_nearest_0 rfl (lv_at hl 0 rfl) ?_
  refine lv_lconst (v := 0) hx hb dX1_nearest_1 (by decide) ?_
  refine zz_lcmp_ne (tgt := 8) hC dX1_nearest_2 dX1_nearest_3 (by decide) (fun c1 => ?_) (fun c1 => ?_)
  · refine lv_lload_n hx hb dX1_nearest_8 rfl (lv_at hl 0 rfl) ?_
    refine lv_lconst (v := 0) hx hb dX1_nearest_9 (by decide) ?_
    refine zz_lcmp_ge (tgt := 19) hC dX1_nearest_10 dX1_nearest_11 (by decide) (fun c2 => ?_) (fun c2 => ?_)
    · refine lv_lload_n hx hb dX1_nearest_19 rfl (lv_at hl 0 rfl) ?_
      refine lv_lstore (lv' := [(4, .long x), (0, .long x), (2, .int k), (3, .int j)]) hx hb dX1_nearest_20 hl (by decide) rfl (fun ls hl => ?_)
      refine lv_lload hx hb dX1_nearest_22 (lv_at hl 0 rfl) ?_
      refine zz_iS (As := [.long x]) (wc := []) (wr := []) (rest := []) hC hZ hs hl zc_X1_50 (co_topBit g x) [] [] rfl rfl (by decide +kernel) rfl rfl (Nat.le_of_ble_eq_true rfl) ⟨⟨Nat.le_of_ble_eq_true rfl, Nat.le_of_ble_eq_true rfl⟩, Nat.le_of_ble_eq_true rfl, Nat.le_of_ble_eq_true rfl⟩ dX1_nearest_24 (fun r3 u4 H locs hp hZ => ?_)
      obtain ⟨rfl, rfl⟩ := hp
      have hZ : zz_Z g A s.heap [] H locs := hZ
      refine lv_istore (lv' := [(6, .int (fn_topBit x 63)), (4, .long x), (0, .long x), (2, .int k), (3, .int j)]) hx hb dX1_nearest_27 hl (by decide) rfl (fun ls hl => ?_)
      refine lv_iload hx hb dX1_nearest_29 (lv_at hl 0 rfl) ?_
      refine lv_iload_n hx hb dX1_nearest_31 rfl (lv_at hl 3 rfl) ?_
      refine lv_icmp_gt (tgt := 47) hx hb dX1_nearest_32 (by decide) (fun c5 => ?_) (fun c5 => ?_)
      · refine lv_iload hx hb dX1_nearest_47 (lv_at hl 0 rfl) ?_
        refine lv_iload_n hx hb dX1_nearest_49 rfl (lv_at hl 3 rfl) ?_
        refine lv_isub hx hb dX1_nearest_50 ?_
        refine lv_istore (lv' := [(9, .int ((fn_topBit x 63) - k)), (6, .int (fn_topBit x 63)), (4, .long x), (0, .long x), (2, .int k), (3, .int j)]) hx hb dX1_nearest_51 hl (by decide) rfl (fun ls hl => ?_)
        refine lv_lload hx hb dX1_nearest_53 (lv_at hl 2 rfl) ?_
        refine lv_iload hx hb dX1_nearest_55 (lv_at hl 0 rfl) ?_
        refine lv_lushr hx hb dX1_nearest_57 rfl ?_
        refine lv_lstore (lv' := [(7, .long ((x.toUInt64 >>> (((fn_topBit x 63) - k : Int32).toInt64.toUInt64 &&& Int64.toUInt64 63)).toInt64)), (9, .int ((fn_topBit x 63) - k)), (6, .int (fn_topBit x 63)), (4, .long x), (0, .long x), (2, .int k), (3, .int j)]) hx hb dX1_nearest_58 hl (by decide) rfl (fun ls hl => ?_)
        refine lv_lload hx hb dX1_nearest_60 (lv_at hl 3 rfl) ?_
        refine lv_lconst (v := 1) hx hb dX1_nearest_62 (by decide) ?_
        refine lv_iload hx hb dX1_nearest_63 (lv_at hl 1 rfl) ?_
        refine lv_lshl hx hb dX1_nearest_65 rfl ?_
        refine lv_lconst (v := 1) hx hb dX1_nearest_66 (by decide) ?_
        refine lv_lsub hx hb dX1_nearest_67 ?_
        refine lv_land hx hb dX1_nearest_68 ?_
        refine lv_lstore (lv' := [(10, .long (x &&& (((1 : Int64) <<< (((fn_topBit x 63) - k : Int32).toInt64 &&& 63)) - 1))), (7, .long ((x.toUInt64 >>> (((fn_topBit x 63) - k : Int32).toInt64.toUInt64 &&& Int64.toUInt64 63)).toInt64)), (9, .int ((fn_topBit x 63) - k)), (6, .int (fn_topBit x 63)), (4, .long x), (0, .long x), (2, .int k), (3, .int j)]) hx hb dX1_nearest_69 hl (by decide) rfl (fun ls hl => ?_)
        refine lv_lconst (v := 1) hx hb dX1_nearest_71 (by decide) ?_
        refine lv_iload hx hb dX1_nearest_72 (lv_at hl 2 rfl) ?_
        refine lv_iconst (v := 1) hx hb dX1_nearest_74 (by decide) ?_
        refine lv_isub hx hb dX1_nearest_75 ?_
        refine lv_lshl hx hb dX1_nearest_76 rfl ?_
        refine lv_lstore (lv' := [(12, .long ((1 : Int64) <<< ((((fn_topBit x 63) - k) - 1 : Int32).toInt64 &&& 63))), (10, .long (x &&& (((1 : Int64) <<< (((fn_topBit x 63) - k : Int32).toInt64 &&& 63)) - 1))), (7, .long ((x.toUInt64 >>> (((fn_topBit x 63) - k : Int32).toInt64.toUInt64 &&& Int64.toUInt64 63)).toInt64)), (9, .int ((fn_topBit x 63) - k)), (6, .int (fn_topBit x 63)), (4, .long x), (0, .long x), (2, .int k), (3, .int j)]) hx hb dX1_nearest_77 hl (by decide) rfl (fun ls hl => ?_)
        refine lv_lload hx hb dX1_nearest_79 (lv_at hl 1 rfl) ?_
        refine lv_lload hx hb dX1_nearest_81 (lv_at hl 0 rfl) ?_
        refine zz_lcmp_gt (tgt := 104) hC dX1_nearest_83 dX1_nearest_84 (by decide) (fun c6 => ?_) (fun c6 => ?_)
        · refine lv_lload hx hb dX1_nearest_104 (lv_at hl 2 rfl) ?_
          refine lv_lconst (v := 1) hx hb dX1_nearest_106 (by decide) ?_
          refine lv_ladd hx hb dX1_nearest_107 ?_
          refine lv_lstore (lv' := [(7, .long (((x.toUInt64 >>> (((fn_topBit x 63) - k : Int32).toInt64.toUInt64 &&& Int64.toUInt64 63)).toInt64) + 1)), (12, .long ((1 : Int64) <<< ((((fn_topBit x 63) - k) - 1 : Int32).toInt64 &&& 63))), (10, .long (x &&& (((1 : Int64) <<< (((fn_topBit x 63) - k : Int32).toInt64 &&& 63)) - 1))), (9, .int ((fn_topBit x 63) - k)), (6, .int (fn_topBit x 63)), (4, .long x), (0, .long x), (2, .int k), (3, .int j)]) hx hb dX1_nearest_108 hl (by decide) rfl (fun ls hl => ?_)
          refine lv_iload hx hb dX1_nearest_110 (lv_at hl 4 rfl) ?_
          refine lv_iload_n hx hb dX1_nearest_112 rfl (lv_at hl 8 rfl) ?_
          refine lv_iadd hx hb dX1_nearest_113 ?_
          refine lv_i2l hx hb dX1_nearest_114 rfl ?_
          refine lv_iload_n hx hb dX1_nearest_115 rfl (lv_at hl 7 rfl) ?_
          refine lv_lshl hx hb dX1_nearest_116 rfl ?_
          refine lv_lload hx hb dX1_nearest_117 (lv_at hl 0 rfl) ?_
          refine lv_lconst (v := 1) hx hb dX1_nearest_119 (by decide) ?_
          refine lv_iload_n hx hb dX1_nearest_120 rfl (lv_at hl 7 rfl) ?_
          refine lv_lshl hx hb dX1_nearest_121 rfl ?_
          refine lv_lsub hx hb dX1_nearest_122 ?_
          refine lv_ladd hx hb dX1_nearest_123 ?_
          exact zz_lret hC hZ (⟨by show _ = _; rw [fn_co_nearest, if_neg c1, if_pos c2, if_pos c5, if_pos c6], rfl⟩) (Nat.le_of_ble_eq_true rfl) (Nat.le_of_ble_eq_true rfl) dX1_nearest_124
        · refine lv_lload hx hb dX1_nearest_87 (lv_at hl 1 rfl) ?_
          refine lv_lload hx hb dX1_nearest_89 (lv_at hl 0 rfl) ?_
          refine zz_lcmp_ne (tgt := 110) hC dX1_nearest_91 dX1_nearest_92 (by decide) (fun c7 => ?_) (fun c7 => ?_)
          · refine lv_iload hx hb dX1_nearest_110 (lv_at hl 4 rfl) ?_
            refine lv_iload_n hx hb dX1_nearest_112 rfl (lv_at hl 8 rfl) ?_
            refine lv_iadd hx hb dX1_nearest_113 ?_
            refine lv_i2l hx hb dX1_nearest_114 rfl ?_
            refine lv_iload_n hx hb dX1_nearest_115 rfl (lv_at hl 7 rfl) ?_
            refine lv_lshl hx hb dX1_nearest_116 rfl ?_
            refine lv_lload hx hb dX1_nearest_117 (lv_at hl 2 rfl) ?_
            refine lv_lconst (v := 1) hx hb dX1_nearest_119 (by decide) ?_
            refine lv_iload_n hx hb dX1_nearest_120 rfl (lv_at hl 7 rfl) ?_
            refine lv_lshl hx hb dX1_nearest_121 rfl ?_
            refine lv_lsub hx hb dX1_nearest_122 ?_
            refine lv_ladd hx hb dX1_nearest_123 ?_
            exact zz_lret hC hZ (⟨by show _ = _; rw [fn_co_nearest, if_neg c1, if_pos c2, if_pos c5, if_neg c6, if_neg c7], rfl⟩) (Nat.le_of_ble_eq_true rfl) (Nat.le_of_ble_eq_true rfl) dX1_nearest_124
          · refine lv_lload hx hb dX1_nearest_95 (lv_at hl 2 rfl) ?_
            refine lv_lconst (v := 1) hx hb dX1_nearest_97 (by decide) ?_
            refine lv_land hx hb dX1_nearest_98 ?_
            refine lv_lconst (v := 1) hx hb dX1_nearest_99 (by decide) ?_
            refine zz_lcmp_ne (tgt := 110) hC dX1_nearest_100 dX1_nearest_101 (by decide) (fun c8 => ?_) (fun c8 => ?_)
            · refine lv_iload hx hb dX1_nearest_110 (lv_at hl 4 rfl) ?_
              refine lv_iload_n hx hb dX1_nearest_112 rfl (lv_at hl 8 rfl) ?_
              refine lv_iadd hx hb dX1_nearest_113 ?_
              refine lv_i2l hx hb dX1_nearest_114 rfl ?_
              refine lv_iload_n hx hb dX1_nearest_115 rfl (lv_at hl 7 rfl) ?_
              refine lv_lshl hx hb dX1_nearest_116 rfl ?_
              refine lv_lload hx hb dX1_nearest_117 (lv_at hl 2 rfl) ?_
              refine lv_lconst (v := 1) hx hb dX1_nearest_119 (by decide) ?_
              refine lv_iload_n hx hb dX1_nearest_120 rfl (lv_at hl 7 rfl) ?_
              refine lv_lshl hx hb dX1_nearest_121 rfl ?_
              refine lv_lsub hx hb dX1_nearest_122 ?_
              refine lv_ladd hx hb dX1_nearest_123 ?_
              exact zz_lret hC hZ (⟨by show _ = _; rw [fn_co_nearest, if_neg c1, if_pos c2, if_pos c5, if_neg c6, if_pos c7, if_neg c8], rfl⟩) (Nat.le_of_ble_eq_true rfl) (Nat.le_of_ble_eq_true rfl) dX1_nearest_124
            · refine lv_lload hx hb dX1_nearest_104 (lv_at hl 2 rfl) ?_
              refine lv_lconst (v := 1) hx hb dX1_nearest_106 (by decide) ?_
              refine lv_ladd hx hb dX1_nearest_107 ?_
              refine lv_lstore (lv' := [(7, .long (((x.toUInt64 >>> (((fn_topBit x 63) - k : Int32).toInt64.toUInt64 &&& Int64.toUInt64 63)).toInt64) + 1)), (12, .long ((1 : Int64) <<< ((((fn_topBit x 63) - k) - 1 : Int32).toInt64 &&& 63))), (10, .long (x &&& (((1 : Int64) <<< (((fn_topBit x 63) - k : Int32).toInt64 &&& 63)) - 1))), (9, .int ((fn_topBit x 63) - k)), (6, .int (fn_topBit x 63)), (4, .long x), (0, .long x), (2, .int k), (3, .int j)]) hx hb dX1_nearest_108 hl (by decide) rfl (fun ls hl => ?_)
              refine lv_iload hx hb dX1_nearest_110 (lv_at hl 4 rfl) ?_
              refine lv_iload_n hx hb dX1_nearest_112 rfl (lv_at hl 8 rfl) ?_
              refine lv_iadd hx hb dX1_nearest_113 ?_
              refine lv_i2l hx hb dX1_nearest_114 rfl ?_
              refine lv_iload_n hx hb dX1_nearest_115 rfl (lv_at hl 7 rfl) ?_
              refine lv_lshl hx hb dX1_nearest_116 rfl ?_
              refine lv_lload hx hb dX1_nearest_117 (lv_at hl 0 rfl) ?_
              refine lv_lconst (v := 1) hx hb dX1_nearest_119 (by decide) ?_
              refine lv_iload_n hx hb dX1_nearest_120 rfl (lv_at hl 7 rfl) ?_
              refine lv_lshl hx hb dX1_nearest_121 rfl ?_
              refine lv_lsub hx hb dX1_nearest_122 ?_
              refine lv_ladd hx hb dX1_nearest_123 ?_
              exact zz_lret hC hZ (⟨by show _ = _; rw [fn_co_nearest, if_neg c1, if_pos c2, if_pos c5, if_neg c6, if_pos c7, if_pos c8], rfl⟩) (Nat.le_of_ble_eq_true rfl) (Nat.le_of_ble_eq_true rfl) dX1_nearest_124
      · refine lv_lload hx hb dX1_nearest_35 (lv_at hl 1 rfl) ?_
        refine lv_iload_n hx hb dX1_nearest_37 rfl (lv_at hl 3 rfl) ?_
        refine lv_iload hx hb dX1_nearest_38 (lv_at hl 0 rfl) ?_
        refine lv_isub hx hb dX1_nearest_40 ?_
        refine lv_lshl hx hb dX1_nearest_41 rfl ?_
        refine lv_lstore (lv' := [(7, .long ((x : Int64) <<< ((k - (fn_topBit x 63) : Int32).toInt64 &&& 63))), (6, .int (fn_topBit x 63)), (4, .long x), (0, .long x), (2, .int k), (3, .int j)]) hx hb dX1_nearest_42 hl (by decide) rfl (fun ls hl => ?_)
        refine lv_goto (tgt := 110) hx hb dX1_nearest_44 (by decide) ?_
        refine lv_iload hx hb dX1_nearest_110 (lv_at hl 1 rfl) ?_
        refine lv_iload_n hx hb dX1_nearest_112 rfl (lv_at hl 5 rfl) ?_
        refine lv_iadd hx hb dX1_nearest_113 ?_
        refine lv_i2l hx hb dX1_nearest_114 rfl ?_
        refine lv_iload_n hx hb dX1_nearest_115 rfl (lv_at hl 4 rfl) ?_
        refine lv_lshl hx hb dX1_nearest_116 rfl ?_
        refine lv_lload hx hb dX1_nearest_117 (lv_at hl 0 rfl) ?_
        refine lv_lconst (v := 1) hx hb dX1_nearest_119 (by decide) ?_
        refine lv_iload_n hx hb dX1_nearest_120 rfl (lv_at hl 4 rfl) ?_
        refine lv_lshl hx hb dX1_nearest_121 rfl ?_
        refine lv_lsub hx hb dX1_nearest_122 ?_
        refine lv_ladd hx hb dX1_nearest_123 ?_
        exact zz_lret hC hZ (⟨by show _ = _; rw [fn_co_nearest, if_neg c1, if_pos c2, if_neg c5], rfl⟩) (Nat.le_of_ble_eq_true rfl) (Nat.le_of_ble_eq_true rfl) dX1_nearest_124
    · refine lv_lload_n hx hb dX1_nearest_14 rfl (lv_at hl 0 rfl) ?_
      refine lv_lneg hx hb dX1_nearest_15 ?_
      refine lv_goto (tgt := 20) hx hb dX1_nearest_16 (by decide) ?_
      refine lv_lstore (lv' := [(4, .long (-x)), (0, .long x), (2, .int k), (3, .int j)]) hx hb dX1_nearest_20 hl (by decide) rfl (fun ls hl => ?_)
      refine lv_lload hx hb dX1_nearest_22 (lv_at hl 0 rfl) ?_
      refine zz_iS (As := [.long (-x)]) (wc := []) (wr := []) (rest := []) hC hZ hs hl zc_X1_50 (co_topBit g (-x)) [] [] rfl rfl (by decide +kernel) rfl rfl (Nat.le_of_ble_eq_true rfl) ⟨⟨Nat.le_of_ble_eq_true rfl, Nat.le_of_ble_eq_true rfl⟩, Nat.le_of_ble_eq_true rfl, Nat.le_of_ble_eq_true rfl⟩ dX1_nearest_24 (fun r9 u10 H locs hp hZ => ?_)
      obtain ⟨rfl, rfl⟩ := hp
      have hZ : zz_Z g A s.heap [] H locs := hZ
      refine lv_istore (lv' := [(6, .int (fn_topBit (-x) 63)), (4, .long (-x)), (0, .long x), (2, .int k), (3, .int j)]) hx hb dX1_nearest_27 hl (by decide) rfl (fun ls hl => ?_)
      refine lv_iload hx hb dX1_nearest_29 (lv_at hl 0 rfl) ?_
      refine lv_iload_n hx hb dX1_nearest_31 rfl (lv_at hl 3 rfl) ?_
      refine lv_icmp_gt (tgt := 47) hx hb dX1_nearest_32 (by decide) (fun c11 => ?_) (fun c11 => ?_)
      · refine lv_iload hx hb dX1_nearest_47 (lv_at hl 0 rfl) ?_
        refine lv_iload_n hx hb dX1_nearest_49 rfl (lv_at hl 3 rfl) ?_
        refine lv_isub hx hb dX1_nearest_50 ?_
        refine lv_istore (lv' := [(9, .int ((fn_topBit (-x) 63) - k)), (6, .int (fn_topBit (-x) 63)), (4, .long (-x)), (0, .long x), (2, .int k), (3, .int j)]) hx hb dX1_nearest_51 hl (by decide) rfl (fun ls hl => ?_)
        refine lv_lload hx hb dX1_nearest_53 (lv_at hl 2 rfl) ?_
        refine lv_iload hx hb dX1_nearest_55 (lv_at hl 0 rfl) ?_
        refine lv_lushr hx hb dX1_nearest_57 rfl ?_
        refine lv_lstore (lv' := [(7, .long (((-x).toUInt64 >>> (((fn_topBit (-x) 63) - k : Int32).toInt64.toUInt64 &&& Int64.toUInt64 63)).toInt64)), (9, .int ((fn_topBit (-x) 63) - k)), (6, .int (fn_topBit (-x) 63)), (4, .long (-x)), (0, .long x), (2, .int k), (3, .int j)]) hx hb dX1_nearest_58 hl (by decide) rfl (fun ls hl => ?_)
        refine lv_lload hx hb dX1_nearest_60 (lv_at hl 3 rfl) ?_
        refine lv_lconst (v := 1) hx hb dX1_nearest_62 (by decide) ?_
        refine lv_iload hx hb dX1_nearest_63 (lv_at hl 1 rfl) ?_
        refine lv_lshl hx hb dX1_nearest_65 rfl ?_
        refine lv_lconst (v := 1) hx hb dX1_nearest_66 (by decide) ?_
        refine lv_lsub hx hb dX1_nearest_67 ?_
        refine lv_land hx hb dX1_nearest_68 ?_
        refine lv_lstore (lv' := [(10, .long ((-x) &&& (((1 : Int64) <<< (((fn_topBit (-x) 63) - k : Int32).toInt64 &&& 63)) - 1))), (7, .long (((-x).toUInt64 >>> (((fn_topBit (-x) 63) - k : Int32).toInt64.toUInt64 &&& Int64.toUInt64 63)).toInt64)), (9, .int ((fn_topBit (-x) 63) - k)), (6, .int (fn_topBit (-x) 63)), (4, .long (-x)), (0, .long x), (2, .int k), (3, .int j)]) hx hb dX1_nearest_69 hl (by decide) rfl (fun ls hl => ?_)
        refine lv_lconst (v := 1) hx hb dX1_nearest_71 (by decide) ?_
        refine lv_iload hx hb dX1_nearest_72 (lv_at hl 2 rfl) ?_
        refine lv_iconst (v := 1) hx hb dX1_nearest_74 (by decide) ?_
        refine lv_isub hx hb dX1_nearest_75 ?_
        refine lv_lshl hx hb dX1_nearest_76 rfl ?_
        refine lv_lstore (lv' := [(12, .long ((1 : Int64) <<< ((((fn_topBit (-x) 63) - k) - 1 : Int32).toInt64 &&& 63))), (10, .long ((-x) &&& (((1 : Int64) <<< (((fn_topBit (-x) 63) - k : Int32).toInt64 &&& 63)) - 1))), (7, .long (((-x).toUInt64 >>> (((fn_topBit (-x) 63) - k : Int32).toInt64.toUInt64 &&& Int64.toUInt64 63)).toInt64)), (9, .int ((fn_topBit (-x) 63) - k)), (6, .int (fn_topBit (-x) 63)), (4, .long (-x)), (0, .long x), (2, .int k), (3, .int j)]) hx hb dX1_nearest_77 hl (by decide) rfl (fun ls hl => ?_)
        refine lv_lload hx hb dX1_nearest_79 (lv_at hl 1 rfl) ?_
        refine lv_lload hx hb dX1_nearest_81 (lv_at hl 0 rfl) ?_
        refine zz_lcmp_gt (tgt := 104) hC dX1_nearest_83 dX1_nearest_84 (by decide) (fun c12 => ?_) (fun c12 => ?_)
        · refine lv_lload hx hb dX1_nearest_104 (lv_at hl 2 rfl) ?_
          refine lv_lconst (v := 1) hx hb dX1_nearest_106 (by decide) ?_
          refine lv_ladd hx hb dX1_nearest_107 ?_
          refine lv_lstore (lv' := [(7, .long ((((-x).toUInt64 >>> (((fn_topBit (-x) 63) - k : Int32).toInt64.toUInt64 &&& Int64.toUInt64 63)).toInt64) + 1)), (12, .long ((1 : Int64) <<< ((((fn_topBit (-x) 63) - k) - 1 : Int32).toInt64 &&& 63))), (10, .long ((-x) &&& (((1 : Int64) <<< (((fn_topBit (-x) 63) - k : Int32).toInt64 &&& 63)) - 1))), (9, .int ((fn_topBit (-x) 63) - k)), (6, .int (fn_topBit (-x) 63)), (4, .long (-x)), (0, .long x), (2, .int k), (3, .int j)]) hx hb dX1_nearest_108 hl (by decide) rfl (fun ls hl => ?_)
          refine lv_iload hx hb dX1_nearest_110 (lv_at hl 4 rfl) ?_
          refine lv_iload_n hx hb dX1_nearest_112 rfl (lv_at hl 8 rfl) ?_
          refine lv_iadd hx hb dX1_nearest_113 ?_
          refine lv_i2l hx hb dX1_nearest_114 rfl ?_
          refine lv_iload_n hx hb dX1_nearest_115 rfl (lv_at hl 7 rfl) ?_
          refine lv_lshl hx hb dX1_nearest_116 rfl ?_
          refine lv_lload hx hb dX1_nearest_117 (lv_at hl 0 rfl) ?_
          refine lv_lconst (v := 1) hx hb dX1_nearest_119 (by decide) ?_
          refine lv_iload_n hx hb dX1_nearest_120 rfl (lv_at hl 7 rfl) ?_
          refine lv_lshl hx hb dX1_nearest_121 rfl ?_
          refine lv_lsub hx hb dX1_nearest_122 ?_
          refine lv_ladd hx hb dX1_nearest_123 ?_
          exact zz_lret hC hZ (⟨by show _ = _; rw [fn_co_nearest, if_neg c1, if_neg c2, if_pos c11, if_pos c12], rfl⟩) (Nat.le_of_ble_eq_true rfl) (Nat.le_of_ble_eq_true rfl) dX1_nearest_124
        · refine lv_lload hx hb dX1_nearest_87 (lv_at hl 1 rfl) ?_
          refine lv_lload hx hb dX1_nearest_89 (lv_at hl 0 rfl) ?_
          refine zz_lcmp_ne (tgt := 110) hC dX1_nearest_91 dX1_nearest_92 (by decide) (fun c13 => ?_) (fun c13 => ?_)
          · refine lv_iload hx hb dX1_nearest_110 (lv_at hl 4 rfl) ?_
            refine lv_iload_n hx hb dX1_nearest_112 rfl (lv_at hl 8 rfl) ?_
            refine lv_iadd hx hb dX1_nearest_113 ?_
            refine lv_i2l hx hb dX1_nearest_114 rfl ?_
            refine lv_iload_n hx hb dX1_nearest_115 rfl (lv_at hl 7 rfl) ?_
            refine lv_lshl hx hb dX1_nearest_116 rfl ?_
            refine lv_lload hx hb dX1_nearest_117 (lv_at hl 2 rfl) ?_
            refine lv_lconst (v := 1) hx hb dX1_nearest_119 (by decide) ?_
            refine lv_iload_n hx hb dX1_nearest_120 rfl (lv_at hl 7 rfl) ?_
            refine lv_lshl hx hb dX1_nearest_121 rfl ?_
            refine lv_lsub hx hb dX1_nearest_122 ?_
            refine lv_ladd hx hb dX1_nearest_123 ?_
            exact zz_lret hC hZ (⟨by show _ = _; rw [fn_co_nearest, if_neg c1, if_neg c2, if_pos c11, if_neg c12, if_neg c13], rfl⟩) (Nat.le_of_ble_eq_true rfl) (Nat.le_of_ble_eq_true rfl) dX1_nearest_124
          · refine lv_lload hx hb dX1_nearest_95 (lv_at hl 2 rfl) ?_
            refine lv_lconst (v := 1) hx hb dX1_nearest_97 (by decide) ?_
            refine lv_land hx hb dX1_nearest_98 ?_
            refine lv_lconst (v := 1) hx hb dX1_nearest_99 (by decide) ?_
            refine zz_lcmp_ne (tgt := 110) hC dX1_nearest_100 dX1_nearest_101 (by decide) (fun c14 => ?_) (fun c14 => ?_)
            · refine lv_iload hx hb dX1_nearest_110 (lv_at hl 4 rfl) ?_
              refine lv_iload_n hx hb dX1_nearest_112 rfl (lv_at hl 8 rfl) ?_
              refine lv_iadd hx hb dX1_nearest_113 ?_
              refine lv_i2l hx hb dX1_nearest_114 rfl ?_
              refine lv_iload_n hx hb dX1_nearest_115 rfl (lv_at hl 7 rfl) ?_
              refine lv_lshl hx hb dX1_nearest_116 rfl ?_
              refine lv_lload hx hb dX1_nearest_117 (lv_at hl 2 rfl) ?_
              refine lv_lconst (v := 1) hx hb dX1_nearest_119 (by decide) ?_
              refine lv_iload_n hx hb dX1_nearest_120 rfl (lv_at hl 7 rfl) ?_
              refine lv_lshl hx hb dX1_nearest_121 rfl ?_
              refine lv_lsub hx hb dX1_nearest_122 ?_
              refine lv_ladd hx hb dX1_nearest_123 ?_
              exact zz_lret hC hZ (⟨by show _ = _; rw [fn_co_nearest, if_neg c1, if_neg c2, if_pos c11, if_neg c12, if_pos c13, if_neg c14], rfl⟩) (Nat.le_of_ble_eq_true rfl) (Nat.le_of_ble_eq_true rfl) dX1_nearest_124
            · refine lv_lload hx hb dX1_nearest_104 (lv_at hl 2 rfl) ?_
              refine lv_lconst (v := 1) hx hb dX1_nearest_106 (by decide) ?_
              refine lv_ladd hx hb dX1_nearest_107 ?_
              refine lv_lstore (lv' := [(7, .long ((((-x).toUInt64 >>> (((fn_topBit (-x) 63) - k : Int32).toInt64.toUInt64 &&& Int64.toUInt64 63)).toInt64) + 1)), (12, .long ((1 : Int64) <<< ((((fn_topBit (-x) 63) - k) - 1 : Int32).toInt64 &&& 63))), (10, .long ((-x) &&& (((1 : Int64) <<< (((fn_topBit (-x) 63) - k : Int32).toInt64 &&& 63)) - 1))), (9, .int ((fn_topBit (-x) 63) - k)), (6, .int (fn_topBit (-x) 63)), (4, .long (-x)), (0, .long x), (2, .int k), (3, .int j)]) hx hb dX1_nearest_108 hl (by decide) rfl (fun ls hl => ?_)
              refine lv_iload hx hb dX1_nearest_110 (lv_at hl 4 rfl) ?_
              refine lv_iload_n hx hb dX1_nearest_112 rfl (lv_at hl 8 rfl) ?_
              refine lv_iadd hx hb dX1_nearest_113 ?_
              refine lv_i2l hx hb dX1_nearest_114 rfl ?_
              refine lv_iload_n hx hb dX1_nearest_115 rfl (lv_at hl 7 rfl) ?_
              refine lv_lshl hx hb dX1_nearest_116 rfl ?_
              refine lv_lload hx hb dX1_nearest_117 (lv_at hl 0 rfl) ?_
              refine lv_lconst (v := 1) hx hb dX1_nearest_119 (by decide) ?_
              refine lv_iload_n hx hb dX1_nearest_120 rfl (lv_at hl 7 rfl) ?_
              refine lv_lshl hx hb dX1_nearest_121 rfl ?_
              refine lv_lsub hx hb dX1_nearest_122 ?_
              refine lv_ladd hx hb dX1_nearest_123 ?_
              exact zz_lret hC hZ (⟨by show _ = _; rw [fn_co_nearest, if_neg c1, if_neg c2, if_pos c11, if_neg c12, if_pos c13, if_pos c14], rfl⟩) (Nat.le_of_ble_eq_true rfl) (Nat.le_of_ble_eq_true rfl) dX1_nearest_124
      · refine lv_lload hx hb dX1_nearest_35 (lv_at hl 1 rfl) ?_
        refine lv_iload_n hx hb dX1_nearest_37 rfl (lv_at hl 3 rfl) ?_
        refine lv_iload hx hb dX1_nearest_38 (lv_at hl 0 rfl) ?_
        refine lv_isub hx hb dX1_nearest_40 ?_
        refine lv_lshl hx hb dX1_nearest_41 rfl ?_
        refine lv_lstore (lv' := [(7, .long ((-x : Int64) <<< ((k - (fn_topBit (-x) 63) : Int32).toInt64 &&& 63))), (6, .int (fn_topBit (-x) 63)), (4, .long (-x)), (0, .long x), (2, .int k), (3, .int j)]) hx hb dX1_nearest_42 hl (by decide) rfl (fun ls hl => ?_)
        refine lv_goto (tgt := 110) hx hb dX1_nearest_44 (by decide) ?_
        refine lv_iload hx hb dX1_nearest_110 (lv_at hl 1 rfl) ?_
        refine lv_iload_n hx hb dX1_nearest_112 rfl (lv_at hl 5 rfl) ?_
        refine lv_iadd hx hb dX1_nearest_113 ?_
        refine lv_i2l hx hb dX1_nearest_114 rfl ?_
        refine lv_iload_n hx hb dX1_nearest_115 rfl (lv_at hl 4 rfl) ?_
        refine lv_lshl hx hb dX1_nearest_116 rfl ?_
        refine lv_lload hx hb dX1_nearest_117 (lv_at hl 0 rfl) ?_
        refine lv_lconst (v := 1) hx hb dX1_nearest_119 (by decide) ?_
        refine lv_iload_n hx hb dX1_nearest_120 rfl (lv_at hl 4 rfl) ?_
        refine lv_lshl hx hb dX1_nearest_121 rfl ?_
        refine lv_lsub hx hb dX1_nearest_122 ?_
        refine lv_ladd hx hb dX1_nearest_123 ?_
        exact zz_lret hC hZ (⟨by show _ = _; rw [fn_co_nearest, if_neg c1, if_neg c2, if_neg c11], rfl⟩) (Nat.le_of_ble_eq_true rfl) (Nat.le_of_ble_eq_true rfl) dX1_nearest_124
  · refine lv_lconst (v := 0) hx hb dX1_nearest_6 (by decide) ?_
    exact zz_lret hC hZ (⟨by show _ = _; rw [fn_co_nearest, if_pos c1], rfl⟩) (Nat.le_of_ble_eq_true rfl) (Nat.le_of_ble_eq_true rfl) dX1_nearest_7
theorem dg_X1_doubleOfFloat_0 : (decode cX1_doubleOfFloat 0 = .ok (.lload_n 0, 1)) ∧ (decode cX1_doubleOfFloat 1 = .ok (.lconst 0, 1)) ∧ (decode cX1_doubleOfFloat 2 = .ok (.lcmp, 1)) ∧ (decode cX1_doubleOfFloat 3 = .ok (.ifCond .ge 9, 3)) ∧ (decode cX1_doubleOfFloat 6 = .ok (.ldc2_w 48, 3)) ∧ (decode cX1_doubleOfFloat 9 = .ok (.goto 4, 3)) ∧ (decode cX1_doubleOfFloat 12 = .ok (.lconst 0, 1)) ∧ (decode cX1_doubleOfFloat 13 = .ok (.lstore_n 2, 1)) ∧ (decode cX1_doubleOfFloat 14 = .ok (.lload_n 0, 1)) ∧ (decode cX1_doubleOfFloat 15 = .ok (.bipush 23, 2)) ∧ (decode cX1_doubleOfFloat 17 = .ok (.lushr, 1)) ∧ (decode cX1_doubleOfFloat 18 = .ok (.ldc2_w 54, 3)) ∧ (decode cX1_doubleOfFloat 21 = .ok (.land, 1)) ∧ (decode cX1_doubleOfFloat 22 = .ok (.l2i, 1)) ∧ (decode cX1_doubleOfFloat 23 = .ok (.istore 4, 2)) ∧ (decode cX1_doubleOfFloat 25 = .ok (.lload_n 0, 1)) := by decide +kernel
theorem dX1_doubleOfFloat_0 : decode cX1_doubleOfFloat 0 = .ok (.lload_n 0, 1) := dg_X1_doubleOfFloat_0.1
theorem dX1_doubleOfFloat_1 : decode cX1_doubleOfFloat 1 = .ok (.lconst 0, 1) := dg_X1_doubleOfFloat_0.2.1
theorem dX1_doubleOfFloat_2 : decode cX1_doubleOfFloat 2 = .ok (.lcmp, 1) := dg_X1_doubleOfFloat_0.2.2.1
theorem dX1_doubleOfFloat_3 : decode cX1_doubleOfFloat 3 = .ok (.ifCond .ge 9, 3) := dg_X1_doubleOfFloat_0.2.2.2.1
theorem dX1_doubleOfFloat_6 : decode cX1_doubleOfFloat 6 = .ok (.ldc2_w 48, 3) := dg_X1_doubleOfFloat_0.2.2.2.2.1
theorem dX1_doubleOfFloat_9 : decode cX1_doubleOfFloat 9 = .ok (.goto 4, 3) := dg_X1_doubleOfFloat_0.2.2.2.2.2.1
theorem dX1_doubleOfFloat_12 : decode cX1_doubleOfFloat 12 = .ok (.lconst 0, 1) := dg_X1_doubleOfFloat_0.2.2.2.2.2.2.1
theorem dX1_doubleOfFloat_13 : decode cX1_doubleOfFloat 13 = .ok (.lstore_n 2, 1) := dg_X1_doubleOfFloat_0.2.2.2.2.2.2.2.1
theorem dX1_doubleOfFloat_14 : decode cX1_doubleOfFloat 14 = .ok (.lload_n 0, 1) := dg_X1_doubleOfFloat_0.2.2.2.2.2.2.2.2.1
theorem dX1_doubleOfFloat_15 : decode cX1_doubleOfFloat 15 = .ok (.bipush 23, 2) := dg_X1_doubleOfFloat_0.2.2.2.2.2.2.2.2.2.1
theorem dX1_doubleOfFloat_17 : decode cX1_doubleOfFloat 17 = .ok (.lushr, 1) := dg_X1_doubleOfFloat_0.2.2.2.2.2.2.2.2.2.2.1
theorem dX1_doubleOfFloat_18 : decode cX1_doubleOfFloat 18 = .ok (.ldc2_w 54, 3) := dg_X1_doubleOfFloat_0.2.2.2.2.2.2.2.2.2.2.2.1
theorem dX1_doubleOfFloat_21 : decode cX1_doubleOfFloat 21 = .ok (.land, 1) := dg_X1_doubleOfFloat_0.2.2.2.2.2.2.2.2.2.2.2.2.1
theorem dX1_doubleOfFloat_22 : decode cX1_doubleOfFloat 22 = .ok (.l2i, 1) := dg_X1_doubleOfFloat_0.2.2.2.2.2.2.2.2.2.2.2.2.2.1
theorem dX1_doubleOfFloat_23 : decode cX1_doubleOfFloat 23 = .ok (.istore 4, 2) := dg_X1_doubleOfFloat_0.2.2.2.2.2.2.2.2.2.2.2.2.2.2.1
theorem dX1_doubleOfFloat_25 : decode cX1_doubleOfFloat 25 = .ok (.lload_n 0, 1) := dg_X1_doubleOfFloat_0.2.2.2.2.2.2.2.2.2.2.2.2.2.2.2
theorem dg_X1_doubleOfFloat_26 : (decode cX1_doubleOfFloat 26 = .ok (.ldc2_w 56, 3)) ∧ (decode cX1_doubleOfFloat 29 = .ok (.land, 1)) ∧ (decode cX1_doubleOfFloat 30 = .ok (.lstore 5, 2)) ∧ (decode cX1_doubleOfFloat 32 = .ok (.iload 4, 2)) ∧ (decode cX1_doubleOfFloat 34 = .ok (.sipush 255, 3)) ∧ (decode cX1_doubleOfFloat 37 = .ok (.if_icmp .ne 22, 3)) ∧ (decode cX1_doubleOfFloat 40 = .ok (.lload 5, 2)) ∧ (decode cX1_doubleOfFloat 42 = .ok (.lconst 0, 1)) ∧ (decode cX1_doubleOfFloat 43 = .ok (.lcmp, 1)) ∧ (decode cX1_doubleOfFloat 44 = .ok (.ifCond .eq 9, 3)) ∧ (decode cX1_doubleOfFloat 47 = .ok (.ldc2_w 36, 3)) ∧ (decode cX1_doubleOfFloat 50 = .ok (.goto 8, 3)) ∧ (decode cX1_doubleOfFloat 53 = .ok (.lload_n 2, 1)) ∧ (decode cX1_doubleOfFloat 54 = .ok (.ldc2_w 28, 3)) ∧ (decode cX1_doubleOfFloat 57 = .ok (.lor, 1)) ∧ (decode cX1_doubleOfFloat 58 = .ok (.lreturn, 1)) := by decide +kernel
theorem dX1_doubleOfFloat_26 : decode cX1_doubleOfFloat 26 = .ok (.ldc2_w 56, 3) := dg_X1_doubleOfFloat_26.1
theorem dX1_doubleOfFloat_29 : decode cX1_doubleOfFloat 29 = .ok (.land, 1) := dg_X1_doubleOfFloat_26.2.1
theorem dX1_doubleOfFloat_30 : decode cX1_doubleOfFloat 30 = .ok (.lstore 5, 2) := dg_X1_doubleOfFloat_26.2.2.1
theorem dX1_doubleOfFloat_32 : decode cX1_doubleOfFloat 32 = .ok (.iload 4, 2) := dg_X1_doubleOfFloat_26.2.2.2.1
theorem dX1_doubleOfFloat_34 : decode cX1_doubleOfFloat 34 = .ok (.sipush 255, 3) := dg_X1_doubleOfFloat_26.2.2.2.2.1
theorem dX1_doubleOfFloat_37 : decode cX1_doubleOfFloat 37 = .ok (.if_icmp .ne 22, 3) := dg_X1_doubleOfFloat_26.2.2.2.2.2.1
theorem dX1_doubleOfFloat_40 : decode cX1_doubleOfFloat 40 = .ok (.lload 5, 2) := dg_X1_doubleOfFloat_26.2.2.2.2.2.2.1
theorem dX1_doubleOfFloat_42 : decode cX1_doubleOfFloat 42 = .ok (.lconst 0, 1) := dg_X1_doubleOfFloat_26.2.2.2.2.2.2.2.1
theorem dX1_doubleOfFloat_43 : decode cX1_doubleOfFloat 43 = .ok (.lcmp, 1) := dg_X1_doubleOfFloat_26.2.2.2.2.2.2.2.2.1
theorem dX1_doubleOfFloat_44 : decode cX1_doubleOfFloat 44 = .ok (.ifCond .eq 9, 3) := dg_X1_doubleOfFloat_26.2.2.2.2.2.2.2.2.2.1
theorem dX1_doubleOfFloat_47 : decode cX1_doubleOfFloat 47 = .ok (.ldc2_w 36, 3) := dg_X1_doubleOfFloat_26.2.2.2.2.2.2.2.2.2.2.1
theorem dX1_doubleOfFloat_50 : decode cX1_doubleOfFloat 50 = .ok (.goto 8, 3) := dg_X1_doubleOfFloat_26.2.2.2.2.2.2.2.2.2.2.2.1
theorem dX1_doubleOfFloat_53 : decode cX1_doubleOfFloat 53 = .ok (.lload_n 2, 1) := dg_X1_doubleOfFloat_26.2.2.2.2.2.2.2.2.2.2.2.2.1
theorem dX1_doubleOfFloat_54 : decode cX1_doubleOfFloat 54 = .ok (.ldc2_w 28, 3) := dg_X1_doubleOfFloat_26.2.2.2.2.2.2.2.2.2.2.2.2.2.1
theorem dX1_doubleOfFloat_57 : decode cX1_doubleOfFloat 57 = .ok (.lor, 1) := dg_X1_doubleOfFloat_26.2.2.2.2.2.2.2.2.2.2.2.2.2.2.1
theorem dX1_doubleOfFloat_58 : decode cX1_doubleOfFloat 58 = .ok (.lreturn, 1) := dg_X1_doubleOfFloat_26.2.2.2.2.2.2.2.2.2.2.2.2.2.2.2
theorem dg_X1_doubleOfFloat_59 : (decode cX1_doubleOfFloat 59 = .ok (.iload 4, 2)) ∧ (decode cX1_doubleOfFloat 61 = .ok (.ifCond .le 29, 3)) ∧ (decode cX1_doubleOfFloat 64 = .ok (.iload 4, 2)) ∧ (decode cX1_doubleOfFloat 66 = .ok (.bipush 127, 2)) ∧ (decode cX1_doubleOfFloat 68 = .ok (.isub, 1)) ∧ (decode cX1_doubleOfFloat 69 = .ok (.sipush 1023, 3)) ∧ (decode cX1_doubleOfFloat 72 = .ok (.iadd, 1)) ∧ (decode cX1_doubleOfFloat 73 = .ok (.i2l, 1)) ∧ (decode cX1_doubleOfFloat 74 = .ok (.bipush 52, 2)) ∧ (decode cX1_doubleOfFloat 76 = .ok (.lshl, 1)) ∧ (decode cX1_doubleOfFloat 77 = .ok (.lstore 7, 2)) ∧ (decode cX1_doubleOfFloat 79 = .ok (.lload_n 2, 1)) ∧ (decode cX1_doubleOfFloat 80 = .ok (.lload 7, 2)) ∧ (decode cX1_doubleOfFloat 82 = .ok (.lor, 1)) ∧ (decode cX1_doubleOfFloat 83 = .ok (.lload 5, 2)) ∧ (decode cX1_doubleOfFloat 85 = .ok (.bipush 29, 2)) := by decide +kernel
theorem dX1_doubleOfFloat_59 : decode cX1_doubleOfFloat 59 = .ok (.iload 4, 2) := dg_X1_doubleOfFloat_59.1
theorem dX1_doubleOfFloat_61 : decode cX1_doubleOfFloat 61 = .ok (.ifCond .le 29, 3) := dg_X1_doubleOfFloat_59.2.1
theorem dX1_doubleOfFloat_64 : decode cX1_doubleOfFloat 64 = .ok (.iload 4, 2) := dg_X1_doubleOfFloat_59.2.2.1
theorem dX1_doubleOfFloat_66 : decode cX1_doubleOfFloat 66 = .ok (.bipush 127, 2) := dg_X1_doubleOfFloat_59.2.2.2.1
theorem dX1_doubleOfFloat_68 : decode cX1_doubleOfFloat 68 = .ok (.isub, 1) := dg_X1_doubleOfFloat_59.2.2.2.2.1
theorem dX1_doubleOfFloat_69 : decode cX1_doubleOfFloat 69 = .ok (.sipush 1023, 3) := dg_X1_doubleOfFloat_59.2.2.2.2.2.1
theorem dX1_doubleOfFloat_72 : decode cX1_doubleOfFloat 72 = .ok (.iadd, 1) := dg_X1_doubleOfFloat_59.2.2.2.2.2.2.1
theorem dX1_doubleOfFloat_73 : decode cX1_doubleOfFloat 73 = .ok (.i2l, 1) := dg_X1_doubleOfFloat_59.2.2.2.2.2.2.2.1
theorem dX1_doubleOfFloat_74 : decode cX1_doubleOfFloat 74 = .ok (.bipush 52, 2) := dg_X1_doubleOfFloat_59.2.2.2.2.2.2.2.2.1
theorem dX1_doubleOfFloat_76 : decode cX1_doubleOfFloat 76 = .ok (.lshl, 1) := dg_X1_doubleOfFloat_59.2.2.2.2.2.2.2.2.2.1
theorem dX1_doubleOfFloat_77 : decode cX1_doubleOfFloat 77 = .ok (.lstore 7, 2) := dg_X1_doubleOfFloat_59.2.2.2.2.2.2.2.2.2.2.1
theorem dX1_doubleOfFloat_79 : decode cX1_doubleOfFloat 79 = .ok (.lload_n 2, 1) := dg_X1_doubleOfFloat_59.2.2.2.2.2.2.2.2.2.2.2.1
theorem dX1_doubleOfFloat_80 : decode cX1_doubleOfFloat 80 = .ok (.lload 7, 2) := dg_X1_doubleOfFloat_59.2.2.2.2.2.2.2.2.2.2.2.2.1
theorem dX1_doubleOfFloat_82 : decode cX1_doubleOfFloat 82 = .ok (.lor, 1) := dg_X1_doubleOfFloat_59.2.2.2.2.2.2.2.2.2.2.2.2.2.1
theorem dX1_doubleOfFloat_83 : decode cX1_doubleOfFloat 83 = .ok (.lload 5, 2) := dg_X1_doubleOfFloat_59.2.2.2.2.2.2.2.2.2.2.2.2.2.2.1
theorem dX1_doubleOfFloat_85 : decode cX1_doubleOfFloat 85 = .ok (.bipush 29, 2) := dg_X1_doubleOfFloat_59.2.2.2.2.2.2.2.2.2.2.2.2.2.2.2
theorem dg_X1_doubleOfFloat_87 : (decode cX1_doubleOfFloat 87 = .ok (.lshl, 1)) ∧ (decode cX1_doubleOfFloat 88 = .ok (.lor, 1)) ∧ (decode cX1_doubleOfFloat 89 = .ok (.lreturn, 1)) ∧ (decode cX1_doubleOfFloat 90 = .ok (.lload 5, 2)) ∧ (decode cX1_doubleOfFloat 92 = .ok (.lconst 0, 1)) ∧ (decode cX1_doubleOfFloat 93 = .ok (.lcmp, 1)) ∧ (decode cX1_doubleOfFloat 94 = .ok (.ifCond .ne 5, 3)) ∧ (decode cX1_doubleOfFloat 97 = .ok (.lload_n 2, 1)) ∧ (decode cX1_doubleOfFloat 98 = .ok (.lreturn, 1)) ∧ (decode cX1_doubleOfFloat 99 = .ok (.lload 5, 2)) ∧ (decode cX1_doubleOfFloat 101 = .ok (.invokestatic 50, 3)) ∧ (decode cX1_doubleOfFloat 104 = .ok (.istore 7, 2)) ∧ (decode cX1_doubleOfFloat 106 = .ok (.iload 7, 2)) ∧ (decode cX1_doubleOfFloat 108 = .ok (.sipush 149, 3)) ∧ (decode cX1_doubleOfFloat 111 = .ok (.isub, 1)) ∧ (decode cX1_doubleOfFloat 112 = .ok (.sipush 1023, 3)) := by decide +kernel
theorem dX1_doubleOfFloat_87 : decode cX1_doubleOfFloat 87 = .ok (.lshl, 1) := dg_X1_doubleOfFloat_87.1
theorem dX1_doubleOfFloat_88 : decode cX1_doubleOfFloat 88 = .ok (.lor, 1) := dg_X1_doubleOfFloat_87.2.1
theorem dX1_doubleOfFloat_89 : decode cX1_doubleOfFloat 89 = .ok (.lreturn, 1) := dg_X1_doubleOfFloat_87.2.2.1
theorem dX1_doubleOfFloat_90 : decode cX1_doubleOfFloat 90 = .ok (.lload 5, 2) := dg_X1_doubleOfFloat_87.2.2.2.1
theorem dX1_doubleOfFloat_92 : decode cX1_doubleOfFloat 92 = .ok (.lconst 0, 1) := dg_X1_doubleOfFloat_87.2.2.2.2.1
theorem dX1_doubleOfFloat_93 : decode cX1_doubleOfFloat 93 = .ok (.lcmp, 1) := dg_X1_doubleOfFloat_87.2.2.2.2.2.1
theorem dX1_doubleOfFloat_94 : decode cX1_doubleOfFloat 94 = .ok (.ifCond .ne 5, 3) := dg_X1_doubleOfFloat_87.2.2.2.2.2.2.1
theorem dX1_doubleOfFloat_97 : decode cX1_doubleOfFloat 97 = .ok (.lload_n 2, 1) := dg_X1_doubleOfFloat_87.2.2.2.2.2.2.2.1
theorem dX1_doubleOfFloat_98 : decode cX1_doubleOfFloat 98 = .ok (.lreturn, 1) := dg_X1_doubleOfFloat_87.2.2.2.2.2.2.2.2.1
theorem dX1_doubleOfFloat_99 : decode cX1_doubleOfFloat 99 = .ok (.lload 5, 2) := dg_X1_doubleOfFloat_87.2.2.2.2.2.2.2.2.2.1
theorem dX1_doubleOfFloat_101 : decode cX1_doubleOfFloat 101 = .ok (.invokestatic 50, 3) := dg_X1_doubleOfFloat_87.2.2.2.2.2.2.2.2.2.2.1
theorem dX1_doubleOfFloat_104 : decode cX1_doubleOfFloat 104 = .ok (.istore 7, 2) := dg_X1_doubleOfFloat_87.2.2.2.2.2.2.2.2.2.2.2.1
theorem dX1_doubleOfFloat_106 : decode cX1_doubleOfFloat 106 = .ok (.iload 7, 2) := dg_X1_doubleOfFloat_87.2.2.2.2.2.2.2.2.2.2.2.2.1
theorem dX1_doubleOfFloat_108 : decode cX1_doubleOfFloat 108 = .ok (.sipush 149, 3) := dg_X1_doubleOfFloat_87.2.2.2.2.2.2.2.2.2.2.2.2.2.1
theorem dX1_doubleOfFloat_111 : decode cX1_doubleOfFloat 111 = .ok (.isub, 1) := dg_X1_doubleOfFloat_87.2.2.2.2.2.2.2.2.2.2.2.2.2.2.1
theorem dX1_doubleOfFloat_112 : decode cX1_doubleOfFloat 112 = .ok (.sipush 1023, 3) := dg_X1_doubleOfFloat_87.2.2.2.2.2.2.2.2.2.2.2.2.2.2.2
theorem dg_X1_doubleOfFloat_115 : (decode cX1_doubleOfFloat 115 = .ok (.iadd, 1)) ∧ (decode cX1_doubleOfFloat 116 = .ok (.i2l, 1)) ∧ (decode cX1_doubleOfFloat 117 = .ok (.bipush 52, 2)) ∧ (decode cX1_doubleOfFloat 119 = .ok (.lshl, 1)) ∧ (decode cX1_doubleOfFloat 120 = .ok (.lstore 8, 2)) ∧ (decode cX1_doubleOfFloat 122 = .ok (.lload_n 2, 1)) ∧ (decode cX1_doubleOfFloat 123 = .ok (.lload 8, 2)) ∧ (decode cX1_doubleOfFloat 125 = .ok (.lor, 1)) ∧ (decode cX1_doubleOfFloat 126 = .ok (.lload 5, 2)) ∧ (decode cX1_doubleOfFloat 128 = .ok (.bipush 52, 2)) ∧ (decode cX1_doubleOfFloat 130 = .ok (.iload 7, 2)) ∧ (decode cX1_doubleOfFloat 132 = .ok (.isub, 1)) ∧ (decode cX1_doubleOfFloat 133 = .ok (.lshl, 1)) ∧ (decode cX1_doubleOfFloat 134 = .ok (.ldc2_w 58, 3)) ∧ (decode cX1_doubleOfFloat 137 = .ok (.land, 1)) ∧ (decode cX1_doubleOfFloat 138 = .ok (.lor, 1)) := by decide +kernel
theorem dX1_doubleOfFloat_115 : decode cX1_doubleOfFloat 115 = .ok (.iadd, 1) := dg_X1_doubleOfFloat_115.1
theorem dX1_doubleOfFloat_116 : decode cX1_doubleOfFloat 116 = .ok (.i2l, 1) := dg_X1_doubleOfFloat_115.2.1
theorem dX1_doubleOfFloat_117 : decode cX1_doubleOfFloat 117 = .ok (.bipush 52, 2) := dg_X1_doubleOfFloat_115.2.2.1
theorem dX1_doubleOfFloat_119 : decode cX1_doubleOfFloat 119 = .ok (.lshl, 1) := dg_X1_doubleOfFloat_115.2.2.2.1
theorem dX1_doubleOfFloat_120 : decode cX1_doubleOfFloat 120 = .ok (.lstore 8, 2) := dg_X1_doubleOfFloat_115.2.2.2.2.1
theorem dX1_doubleOfFloat_122 : decode cX1_doubleOfFloat 122 = .ok (.lload_n 2, 1) := dg_X1_doubleOfFloat_115.2.2.2.2.2.1
theorem dX1_doubleOfFloat_123 : decode cX1_doubleOfFloat 123 = .ok (.lload 8, 2) := dg_X1_doubleOfFloat_115.2.2.2.2.2.2.1
theorem dX1_doubleOfFloat_125 : decode cX1_doubleOfFloat 125 = .ok (.lor, 1) := dg_X1_doubleOfFloat_115.2.2.2.2.2.2.2.1
theorem dX1_doubleOfFloat_126 : decode cX1_doubleOfFloat 126 = .ok (.lload 5, 2) := dg_X1_doubleOfFloat_115.2.2.2.2.2.2.2.2.1
theorem dX1_doubleOfFloat_128 : decode cX1_doubleOfFloat 128 = .ok (.bipush 52, 2) := dg_X1_doubleOfFloat_115.2.2.2.2.2.2.2.2.2.1
theorem dX1_doubleOfFloat_130 : decode cX1_doubleOfFloat 130 = .ok (.iload 7, 2) := dg_X1_doubleOfFloat_115.2.2.2.2.2.2.2.2.2.2.1
theorem dX1_doubleOfFloat_132 : decode cX1_doubleOfFloat 132 = .ok (.isub, 1) := dg_X1_doubleOfFloat_115.2.2.2.2.2.2.2.2.2.2.2.1
theorem dX1_doubleOfFloat_133 : decode cX1_doubleOfFloat 133 = .ok (.lshl, 1) := dg_X1_doubleOfFloat_115.2.2.2.2.2.2.2.2.2.2.2.2.1
theorem dX1_doubleOfFloat_134 : decode cX1_doubleOfFloat 134 = .ok (.ldc2_w 58, 3) := dg_X1_doubleOfFloat_115.2.2.2.2.2.2.2.2.2.2.2.2.2.1
theorem dX1_doubleOfFloat_137 : decode cX1_doubleOfFloat 137 = .ok (.land, 1) := dg_X1_doubleOfFloat_115.2.2.2.2.2.2.2.2.2.2.2.2.2.2.1
theorem dX1_doubleOfFloat_138 : decode cX1_doubleOfFloat 138 = .ok (.lor, 1) := dg_X1_doubleOfFloat_115.2.2.2.2.2.2.2.2.2.2.2.2.2.2.2
theorem dg_X1_doubleOfFloat_139 : (decode cX1_doubleOfFloat 139 = .ok (.lreturn, 1)) := by decide +kernel
theorem dX1_doubleOfFloat_139 : decode cX1_doubleOfFloat 139 = .ok (.lreturn, 1) := dg_X1_doubleOfFloat_139
def fn_co_doubleOfFloat (x : Int64) : Int64 := (if 0 ≤ x then (if ((((x.toUInt64 >>> ((23 : Int32).toInt64.toUInt64 &&& Int64.toUInt64 63)).toInt64) &&& 255).toInt32) = 255 then (if (x &&& 8388607) = 0 then 9218868437227405312 else 9221120237041090560) else (if ((((x.toUInt64 >>> ((23 : Int32).toInt64.toUInt64 &&& Int64.toUInt64 63)).toInt64) &&& 255).toInt32) ≤ 0 then (if (x &&& 8388607) = 0 then 0 else (0 ||| (((((fn_topBit (x &&& 8388607) 63) - 149) + 1023).toInt64 : Int64) <<< ((52 : Int32).toInt64 &&& 63))) ||| (((x &&& 8388607 : Int64) <<< ((52 - (fn_topBit (x &&& 8388607) 63) : Int32).toInt64 &&& 63)) &&& 4503599627370495)) else (0 ||| ((((((((x.toUInt64 >>> ((23 : Int32).toInt64.toUInt64 &&& Int64.toUInt64 63)).toInt64) &&& 255).toInt32) - 127) + 1023).toInt64 : Int64) <<< ((52 : Int32).toInt64 &&& 63))) ||| ((x &&& 8388607 : Int64) <<< ((29 : Int32).toInt64 &&& 63)))) else (if ((((x.toUInt64 >>> ((23 : Int32).toInt64.toUInt64 &&& Int64.toUInt64 63)).toInt64) &&& 255).toInt32) = 255 then (if (x &&& 8388607) = 0 then -4503599627370496 else 9221120237041090560) else (if ((((x.toUInt64 >>> ((23 : Int32).toInt64.toUInt64 &&& Int64.toUInt64 63)).toInt64) &&& 255).toInt32) ≤ 0 then (if (x &&& 8388607) = 0 then -9223372036854775808 else ((-9223372036854775808) ||| (((((fn_topBit (x &&& 8388607) 63) - 149) + 1023).toInt64 : Int64) <<< ((52 : Int32).toInt64 &&& 63))) ||| (((x &&& 8388607 : Int64) <<< ((52 - (fn_topBit (x &&& 8388607) 63) : Int32).toInt64 &&& 63)) &&& 4503599627370495)) else ((-9223372036854775808) ||| ((((((((x.toUInt64 >>> ((23 : Int32).toInt64.toUInt64 &&& Int64.toUInt64 63)).toInt64) &&& 255).toInt32) - 127) + 1023).toInt64 : Int64) <<< ((52 : Int32).toInt64 &&& 63))) ||| ((x &&& 8388607 : Int64) <<< ((29 : Int32).toInt64 &&& 63)))))
abbrev rm_co_doubleOfFloat : Room := { frames := 1, cells := 0, slots := 0, locals := 22 }
abbrev po_co_doubleOfFloat (g : zz_G) (x : Int64) : Int64 → va_W → Prop := fun (r : Int64) (u : va_W) => r = fn_co_doubleOfFloat x ∧ u = []
set_option maxHeartbeats 4000000 in
set_option maxRecDepth 100000 in
theorem co_doubleOfFloat (g : zz_G) (x : Int64) : zz_L g yX1_doubleOfFloat (.code yX1_doubleOfFloat cX1_doubleOfFloat 10 (some .long)) rm_co_doubleOfFloat [.long x] [] (po_co_doubleOfFloat g x) := by
  refine zz_L.intro (own := RX1) (cc := cX1_doubleOfFloat) (nL := 10) (by decide) rfl (Nat.le_of_ble_eq_true rfl) ?_
  intro p l e s m args below meth c A H locs ls hC hnm hs hZ hl
  obtain ⟨hx, hb, hml, hown, hts, hr, hlocks, hK⟩ := id hC
  have hl : lv_has ls 10 [(0, .long x)] := hl
  have hZ : zz_Z g A s.heap [] H locs := hZ
  refine lv_lload_n hx hb dX1_doubleOfFloat_0 rfl (lv_at hl 0 rfl) ?_
  refine lv_lconst (v := 0) hx hb dX1_doubleOfFloat_1 (by decide) ?_
  refine zz_lcmp_ge (tgt := 12) hC dX1_doubleOfFloat_2 dX1_doubleOfFloat_3 (by decide) (fun c1 => ?_) (fun c1 => ?_)
  · refine lv_lconst (v := 0) hx hb dX1_doubleOfFloat_12 (by decide) ?_
    refine lv_lstore_n (lv' := [(2, .long 0), (0, .long x)]) hx hb dX1_doubleOfFloat_13 rfl hl (by decide) rfl (fun ls hl => ?_)
    refine lv_lload_n hx hb dX1_doubleOfFloat_14 rfl (lv_at hl 1 rfl) ?_
    refine lv_bipush (v := 23) hx hb dX1_doubleOfFloat_15 (by decide) ?_
    refine lv_lushr hx hb dX1_doubleOfFloat_17 rfl ?_
    refine lv_ldc2 hx hb hown (hts _ zk_353) dX1_doubleOfFloat_18 ?_
    refine lv_land hx hb dX1_doubleOfFloat_21 ?_
    refine lv_l2i hx hb dX1_doubleOfFloat_22 rfl ?_
    refine lv_istore (lv' := [(4, .int ((((x.toUInt64 >>> ((23 : Int32).toInt64.toUInt64 &&& Int64.toUInt64 63)).toInt64) &&& 255).toInt32)), (2, .long 0), (0, .long x)]) hx hb dX1_doubleOfFloat_23 hl (by decide) rfl (fun ls hl => ?_)
    refine lv_lload_n hx hb dX1_doubleOfFloat_25 rfl (lv_at hl 2 rfl) ?_
    refine lv_ldc2 hx hb hown (hts _ zk_354) dX1_doubleOfFloat_26 ?_
    refine lv_land hx hb dX1_doubleOfFloat_29 ?_
    refine lv_lstore (lv' := [(5, .long (x &&& 8388607)), (4, .int ((((x.toUInt64 >>> ((23 : Int32).toInt64.toUInt64 &&& Int64.toUInt64 63)).toInt64) &&& 255).toInt32)), (2, .long 0), (0, .long x)]) hx hb dX1_doubleOfFloat_30 hl (by decide) rfl (fun ls hl => ?_)
    refine lv_iload hx hb dX1_doubleOfFloat_32 (lv_at hl 1 rfl) ?_
    refine lv_sipush (v := 255) hx hb dX1_doubleOfFloat_34 (by decide) ?_
    refine lv_icmp_ne (tgt := 59) hx hb dX1_doubleOfFloat_37 (by decide) (fun c2 => ?_) (fun c2 => ?_)
    · refine lv_iload hx hb dX1_doubleOfFloat_59 (lv_at hl 1 rfl) ?_
      refine lv_if_le (tgt := 90) hx hb dX1_doubleOfFloat_61 (by decide) (fun c3 => ?_) (fun c3 => ?_)
      · refine lv_lload hx hb dX1_doubleOfFloat_90 (lv_at hl 0 rfl) ?_
        refine lv_lconst (v := 0) hx hb dX1_doubleOfFloat_92 (by decide) ?_
        refine zz_lcmp_ne (tgt := 99) hC dX1_doubleOfFloat_93 dX1_doubleOfFloat_94 (by decide) (fun c4 => ?_) (fun c4 => ?_)
        · refine lv_lload hx hb dX1_doubleOfFloat_99 (lv_at hl 0 rfl) ?_
          refine zz_iS (As := [.long (x &&& 8388607)]) (wc := []) (wr := []) (rest := []) hC hZ hs hl zc_X1_50 (co_topBit g (x &&& 8388607)) [] [] rfl rfl (by decide +kernel) rfl rfl (Nat.le_of_ble_eq_true rfl) ⟨⟨Nat.le_of_ble_eq_true rfl, Nat.le_of_ble_eq_true rfl⟩, Nat.le_of_ble_eq_true rfl, Nat.le_of_ble_eq_true rfl⟩ dX1_doubleOfFloat_101 (fun r5 u6 H locs hp hZ => ?_)
          obtain ⟨rfl, rfl⟩ := hp
          have hZ : zz_Z g A s.heap [] H locs := hZ
          refine lv_istore (lv' := [(7, .int (fn_topBit (x &&& 8388607) 63)), (5, .long (x &&& 8388607)), (4, .int ((((x.toUInt64 >>> ((23 : Int32).toInt64.toUInt64 &&& Int64.toUInt64 63)).toInt64) &&& 255).toInt32)), (2, .long 0), (0, .long x)]) hx hb dX1_doubleOfFloat_104 hl (by decide) rfl (fun ls hl => ?_)
          refine lv_iload hx hb dX1_doubleOfFloat_106 (lv_at hl 0 rfl) ?_
          refine lv_sipush (v := 149) hx hb dX1_doubleOfFloat_108 (by decide) ?_
          refine lv_isub hx hb dX1_doubleOfFloat_111 ?_
          refine lv_sipush (v := 1023) hx hb dX1_doubleOfFloat_112 (by decide) ?_
          refine lv_iadd hx hb dX1_doubleOfFloat_115 ?_
          refine lv_i2l hx hb dX1_doubleOfFloat_116 rfl ?_
          refine lv_bipush (v := 52) hx hb dX1_doubleOfFloat_117 (by decide) ?_
          refine lv_lshl hx hb dX1_doubleOfFloat_119 rfl ?_
          refine lv_lstore (lv' := [(8, .long (((((fn_topBit (x &&& 8388607) 63) - 149) + 1023).toInt64 : Int64) <<< ((52 : Int32).toInt64 &&& 63))), (7, .int (fn_topBit (x &&& 8388607) 63)), (5, .long (x &&& 8388607)), (4, .int ((((x.toUInt64 >>> ((23 : Int32).toInt64.toUInt64 &&& Int64.toUInt64 63)).toInt64) &&& 255).toInt32)), (2, .long 0), (0, .long x)]) hx hb dX1_doubleOfFloat_120 hl (by decide) rfl (fun ls hl => ?_)
          refine lv_lload_n hx hb dX1_doubleOfFloat_122 rfl (lv_at hl 4 rfl) ?_
          refine lv_lload hx hb dX1_doubleOfFloat_123 (lv_at hl 0 rfl) ?_
          refine lv_lor hx hb dX1_doubleOfFloat_125 ?_
          refine lv_lload hx hb dX1_doubleOfFloat_126 (lv_at hl 2 rfl) ?_
          refine lv_bipush (v := 52) hx hb dX1_doubleOfFloat_128 (by decide) ?_
          refine lv_iload hx hb dX1_doubleOfFloat_130 (lv_at hl 1 rfl) ?_
          refine lv_isub hx hb dX1_doubleOfFloat_132 ?_
          refine lv_lshl hx hb dX1_doubleOfFloat_133 rfl ?_
          refine lv_ldc2 hx hb hown (hts _ zk_360) dX1_doubleOfFloat_134 ?_
          refine lv_land hx hb dX1_doubleOfFloat_137 ?_
          refine lv_lor hx hb dX1_doubleOfFloat_138 ?_
          exact zz_lret hC hZ (⟨by show _ = _; rw [fn_co_doubleOfFloat, if_pos c1, if_neg c2, if_pos c3, if_neg c4], rfl⟩) (Nat.le_of_ble_eq_true rfl) (Nat.le_of_ble_eq_true rfl) dX1_doubleOfFloat_139
        · refine lv_lload_n hx hb dX1_doubleOfFloat_97 rfl (lv_at hl 2 rfl) ?_
          exact zz_lret hC hZ (⟨by show _ = _; rw [fn_co_doubleOfFloat, if_pos c1, if_neg c2, if_pos c3, if_pos c4], rfl⟩) (Nat.le_of_ble_eq_true rfl) (Nat.le_of_ble_eq_true rfl) dX1_doubleOfFloat_98
      · refine lv_iload hx hb dX1_doubleOfFloat_64 (lv_at hl 1 rfl) ?_
        refine lv_bipush (v := 127) hx hb dX1_doubleOfFloat_66 (by decide) ?_
        refine lv_isub hx hb dX1_doubleOfFloat_68 ?_
        refine lv_sipush (v := 1023) hx hb dX1_doubleOfFloat_69 (by decide) ?_
        refine lv_iadd hx hb dX1_doubleOfFloat_72 ?_
        refine lv_i2l hx hb dX1_doubleOfFloat_73 rfl ?_
        refine lv_bipush (v := 52) hx hb dX1_doubleOfFloat_74 (by decide) ?_
        refine lv_lshl hx hb dX1_doubleOfFloat_76 rfl ?_
        refine lv_lstore (lv' := [(7, .long ((((((((x.toUInt64 >>> ((23 : Int32).toInt64.toUInt64 &&& Int64.toUInt64 63)).toInt64) &&& 255).toInt32) - 127) + 1023).toInt64 : Int64) <<< ((52 : Int32).toInt64 &&& 63))), (5, .long (x &&& 8388607)), (4, .int ((((x.toUInt64 >>> ((23 : Int32).toInt64.toUInt64 &&& Int64.toUInt64 63)).toInt64) &&& 255).toInt32)), (2, .long 0), (0, .long x)]) hx hb dX1_doubleOfFloat_77 hl (by decide) rfl (fun ls hl => ?_)
        refine lv_lload_n hx hb dX1_doubleOfFloat_79 rfl (lv_at hl 3 rfl) ?_
        refine lv_lload hx hb dX1_doubleOfFloat_80 (lv_at hl 0 rfl) ?_
        refine lv_lor hx hb dX1_doubleOfFloat_82 ?_
        refine lv_lload hx hb dX1_doubleOfFloat_83 (lv_at hl 1 rfl) ?_
        refine lv_bipush (v := 29) hx hb dX1_doubleOfFloat_85 (by decide) ?_
        refine lv_lshl hx hb dX1_doubleOfFloat_87 rfl ?_
        refine lv_lor hx hb dX1_doubleOfFloat_88 ?_
        exact zz_lret hC hZ (⟨by show _ = _; rw [fn_co_doubleOfFloat, if_pos c1, if_neg c2, if_neg c3], rfl⟩) (Nat.le_of_ble_eq_true rfl) (Nat.le_of_ble_eq_true rfl) dX1_doubleOfFloat_89
    · refine lv_lload hx hb dX1_doubleOfFloat_40 (lv_at hl 0 rfl) ?_
      refine lv_lconst (v := 0) hx hb dX1_doubleOfFloat_42 (by decide) ?_
      refine zz_lcmp_eq (tgt := 53) hC dX1_doubleOfFloat_43 dX1_doubleOfFloat_44 (by decide) (fun c7 => ?_) (fun c7 => ?_)
      · refine lv_lload_n hx hb dX1_doubleOfFloat_53 rfl (lv_at hl 2 rfl) ?_
        refine lv_ldc2 hx hb hown (hts _ zk_356) dX1_doubleOfFloat_54 ?_
        refine lv_lor hx hb dX1_doubleOfFloat_57 ?_
        refine zz_topl (v := 9218868437227405312) (by decide) ?_
        exact zz_lret hC hZ (⟨by show _ = _; rw [fn_co_doubleOfFloat, if_pos c1, if_pos c2, if_pos c7], rfl⟩) (Nat.le_of_ble_eq_true rfl) (Nat.le_of_ble_eq_true rfl) dX1_doubleOfFloat_58
      · refine lv_ldc2 hx hb hown (hts _ zk_355) dX1_doubleOfFloat_47 ?_
        refine lv_goto (tgt := 58) hx hb dX1_doubleOfFloat_50 (by decide) ?_
        exact zz_lret hC hZ (⟨by show _ = _; rw [fn_co_doubleOfFloat, if_pos c1, if_pos c2, if_neg c7], rfl⟩) (Nat.le_of_ble_eq_true rfl) (Nat.le_of_ble_eq_true rfl) dX1_doubleOfFloat_58
  · refine lv_ldc2 hx hb hown (hts _ zk_352) dX1_doubleOfFloat_6 ?_
    refine lv_goto (tgt := 13) hx hb dX1_doubleOfFloat_9 (by decide) ?_
    refine lv_lstore_n (lv' := [(2, .long (-9223372036854775808)), (0, .long x)]) hx hb dX1_doubleOfFloat_13 rfl hl (by decide) rfl (fun ls hl => ?_)
    refine lv_lload_n hx hb dX1_doubleOfFloat_14 rfl (lv_at hl 1 rfl) ?_
    refine lv_bipush (v := 23) hx hb dX1_doubleOfFloat_15 (by decide) ?_
    refine lv_lushr hx hb dX1_doubleOfFloat_17 rfl ?_
    refine lv_ldc2 hx hb hown (hts _ zk_353) dX1_doubleOfFloat_18 ?_
    refine lv_land hx hb dX1_doubleOfFloat_21 ?_
    refine lv_l2i hx hb dX1_doubleOfFloat_22 rfl ?_
    refine lv_istore (lv' := [(4, .int ((((x.toUInt64 >>> ((23 : Int32).toInt64.toUInt64 &&& Int64.toUInt64 63)).toInt64) &&& 255).toInt32)), (2, .long (-9223372036854775808)), (0, .long x)]) hx hb dX1_doubleOfFloat_23 hl (by decide) rfl (fun ls hl => ?_)
    refine lv_lload_n hx hb dX1_doubleOfFloat_25 rfl (lv_at hl 2 rfl) ?_
    refine lv_ldc2 hx hb hown (hts _ zk_354) dX1_doubleOfFloat_26 ?_
    refine lv_land hx hb dX1_doubleOfFloat_29 ?_
    refine lv_lstore (lv' := [(5, .long (x &&& 8388607)), (4, .int ((((x.toUInt64 >>> ((23 : Int32).toInt64.toUInt64 &&& Int64.toUInt64 63)).toInt64) &&& 255).toInt32)), (2, .long (-9223372036854775808)), (0, .long x)]) hx hb dX1_doubleOfFloat_30 hl (by decide) rfl (fun ls hl => ?_)
    refine lv_iload hx hb dX1_doubleOfFloat_32 (lv_at hl 1 rfl) ?_
    refine lv_sipush (v := 255) hx hb dX1_doubleOfFloat_34 (by decide) ?_
    refine lv_icmp_ne (tgt := 59) hx hb dX1_doubleOfFloat_37 (by decide) (fun c8 => ?_) (fun c8 => ?_)
    · refine lv_iload hx hb dX1_doubleOfFloat_59 (lv_at hl 1 rfl) ?_
      refine lv_if_le (tgt := 90) hx hb dX1_doubleOfFloat_61 (by decide) (fun c9 => ?_) (fun c9 => ?_)
      · refine lv_lload hx hb dX1_doubleOfFloat_90 (lv_at hl 0 rfl) ?_
        refine lv_lconst (v := 0) hx hb dX1_doubleOfFloat_92 (by decide) ?_
        refine zz_lcmp_ne (tgt := 99) hC dX1_doubleOfFloat_93 dX1_doubleOfFloat_94 (by decide) (fun c10 => ?_) (fun c10 => ?_)
        · refine lv_lload hx hb dX1_doubleOfFloat_99 (lv_at hl 0 rfl) ?_
          refine zz_iS (As := [.long (x &&& 8388607)]) (wc := []) (wr := []) (rest := []) hC hZ hs hl zc_X1_50 (co_topBit g (x &&& 8388607)) [] [] rfl rfl (by decide +kernel) rfl rfl (Nat.le_of_ble_eq_true rfl) ⟨⟨Nat.le_of_ble_eq_true rfl, Nat.le_of_ble_eq_true rfl⟩, Nat.le_of_ble_eq_true rfl, Nat.le_of_ble_eq_true rfl⟩ dX1_doubleOfFloat_101 (fun r11 u12 H locs hp hZ => ?_)
          obtain ⟨rfl, rfl⟩ := hp
          have hZ : zz_Z g A s.heap [] H locs := hZ
          refine lv_istore (lv' := [(7, .int (fn_topBit (x &&& 8388607) 63)), (5, .long (x &&& 8388607)), (4, .int ((((x.toUInt64 >>> ((23 : Int32).toInt64.toUInt64 &&& Int64.toUInt64 63)).toInt64) &&& 255).toInt32)), (2, .long (-9223372036854775808)), (0, .long x)]) hx hb dX1_doubleOfFloat_104 hl (by decide) rfl (fun ls hl => ?_)
          refine lv_iload hx hb dX1_doubleOfFloat_106 (lv_at hl 0 rfl) ?_
          refine lv_sipush (v := 149) hx hb dX1_doubleOfFloat_108 (by decide) ?_
          refine lv_isub hx hb dX1_doubleOfFloat_111 ?_
          refine lv_sipush (v := 1023) hx hb dX1_doubleOfFloat_112 (by decide) ?_
          refine lv_iadd hx hb dX1_doubleOfFloat_115 ?_
          refine lv_i2l hx hb dX1_doubleOfFloat_116 rfl ?_
          refine lv_bipush (v := 52) hx hb dX1_doubleOfFloat_117 (by decide) ?_
          refine lv_lshl hx hb dX1_doubleOfFloat_119 rfl ?_
          refine lv_lstore (lv' := [(8, .long (((((fn_topBit (x &&& 8388607) 63) - 149) + 1023).toInt64 : Int64) <<< ((52 : Int32).toInt64 &&& 63))), (7, .int (fn_topBit (x &&& 8388607) 63)), (5, .long (x &&& 8388607)), (4, .int ((((x.toUInt64 >>> ((23 : Int32).toInt64.toUInt64 &&& Int64.toUInt64 63)).toInt64) &&& 255).toInt32)), (2, .long (-9223372036854775808)), (0, .long x)]) hx hb dX1_doubleOfFloat_120 hl (by decide) rfl (fun ls hl => ?_)
          refine lv_lload_n hx hb dX1_doubleOfFloat_122 rfl (lv_at hl 4 rfl) ?_
          refine lv_lload hx hb dX1_doubleOfFloat_123 (lv_at hl 0 rfl) ?_
          refine lv_lor hx hb dX1_doubleOfFloat_125 ?_
          refine lv_lload hx hb dX1_doubleOfFloat_126 (lv_at hl 2 rfl) ?_
          refine lv_bipush (v := 52) hx hb dX1_doubleOfFloat_128 (by decide) ?_
          refine lv_iload hx hb dX1_doubleOfFloat_130 (lv_at hl 1 rfl) ?_
          refine lv_isub hx hb dX1_doubleOfFloat_132 ?_
          refine lv_lshl hx hb dX1_doubleOfFloat_133 rfl ?_
          refine lv_ldc2 hx hb hown (hts _ zk_360) dX1_doubleOfFloat_134 ?_
          refine lv_land hx hb dX1_doubleOfFloat_137 ?_
          refine lv_lor hx hb dX1_doubleOfFloat_138 ?_
          exact zz_lret hC hZ (⟨by show _ = _; rw [fn_co_doubleOfFloat, if_neg c1, if_neg c8, if_pos c9, if_neg c10], rfl⟩) (Nat.le_of_ble_eq_true rfl) (Nat.le_of_ble_eq_true rfl) dX1_doubleOfFloat_139
        · refine lv_lload_n hx hb dX1_doubleOfFloat_97 rfl (lv_at hl 2 rfl) ?_
          exact zz_lret hC hZ (⟨by show _ = _; rw [fn_co_doubleOfFloat, if_neg c1, if_neg c8, if_pos c9, if_pos c10], rfl⟩) (Nat.le_of_ble_eq_true rfl) (Nat.le_of_ble_eq_true rfl) dX1_doubleOfFloat_98
      · refine lv_iload hx hb dX1_doubleOfFloat_64 (lv_at hl 1 rfl) ?_
        refine lv_bipush (v := 127) hx hb dX1_doubleOfFloat_66 (by decide) ?_
        refine lv_isub hx hb dX1_doubleOfFloat_68 ?_
        refine lv_sipush (v := 1023) hx hb dX1_doubleOfFloat_69 (by decide) ?_
        refine lv_iadd hx hb dX1_doubleOfFloat_72 ?_
        refine lv_i2l hx hb dX1_doubleOfFloat_73 rfl ?_
        refine lv_bipush (v := 52) hx hb dX1_doubleOfFloat_74 (by decide) ?_
        refine lv_lshl hx hb dX1_doubleOfFloat_76 rfl ?_
        refine lv_lstore (lv' := [(7, .long ((((((((x.toUInt64 >>> ((23 : Int32).toInt64.toUInt64 &&& Int64.toUInt64 63)).toInt64) &&& 255).toInt32) - 127) + 1023).toInt64 : Int64) <<< ((52 : Int32).toInt64 &&& 63))), (5, .long (x &&& 8388607)), (4, .int ((((x.toUInt64 >>> ((23 : Int32).toInt64.toUInt64 &&& Int64.toUInt64 63)).toInt64) &&& 255).toInt32)), (2, .long (-9223372036854775808)), (0, .long x)]) hx hb dX1_doubleOfFloat_77 hl (by decide) rfl (fun ls hl => ?_)
        refine lv_lload_n hx hb dX1_doubleOfFloat_79 rfl (lv_at hl 3 rfl) ?_
        refine lv_lload hx hb dX1_doubleOfFloat_80 (lv_at hl 0 rfl) ?_
        refine lv_lor hx hb dX1_doubleOfFloat_82 ?_
        refine lv_lload hx hb dX1_doubleOfFloat_83 (lv_at hl 1 rfl) ?_
        refine lv_bipush (v := 29) hx hb dX1_doubleOfFloat_85 (by decide) ?_
        refine lv_lshl hx hb dX1_doubleOfFloat_87 rfl ?_
        refine lv_lor hx hb dX1_doubleOfFloat_88 ?_
        exact zz_lret hC hZ (⟨by show _ = _; rw [fn_co_doubleOfFloat, if_neg c1, if_neg c8, if_neg c9], rfl⟩) (Nat.le_of_ble_eq_true rfl) (Nat.le_of_ble_eq_true rfl) dX1_doubleOfFloat_89
    · refine lv_lload hx hb dX1_doubleOfFloat_40 (lv_at hl 0 rfl) ?_
      refine lv_lconst (v := 0) hx hb dX1_doubleOfFloat_42 (by decide) ?_
      refine zz_lcmp_eq (tgt := 53) hC dX1_doubleOfFloat_43 dX1_doubleOfFloat_44 (by decide) (fun c13 => ?_) (fun c13 => ?_)
      · refine lv_lload_n hx hb dX1_doubleOfFloat_53 rfl (lv_at hl 2 rfl) ?_
        refine lv_ldc2 hx hb hown (hts _ zk_356) dX1_doubleOfFloat_54 ?_
        refine lv_lor hx hb dX1_doubleOfFloat_57 ?_
        refine zz_topl (v := -4503599627370496) (by decide) ?_
        exact zz_lret hC hZ (⟨by show _ = _; rw [fn_co_doubleOfFloat, if_neg c1, if_pos c8, if_pos c13], rfl⟩) (Nat.le_of_ble_eq_true rfl) (Nat.le_of_ble_eq_true rfl) dX1_doubleOfFloat_58
      · refine lv_ldc2 hx hb hown (hts _ zk_355) dX1_doubleOfFloat_47 ?_
        refine lv_goto (tgt := 58) hx hb dX1_doubleOfFloat_50 (by decide) ?_
        exact zz_lret hC hZ (⟨by show _ = _; rw [fn_co_doubleOfFloat, if_neg c1, if_pos c8, if_neg c13], rfl⟩) (Nat.le_of_ble_eq_true rfl) (Nat.le_of_ble_eq_true rfl) dX1_doubleOfFloat_58
theorem dg_X1_widened_0 : (decode cX1_widened 0 = .ok (.iload_n 0, 1)) ∧ (decode cX1_widened 1 = .ok (.iload_n 1, 1)) ∧ (decode cX1_widened 2 = .ok (.if_icmp .eq 8, 3)) ∧ (decode cX1_widened 5 = .ok (.iload_n 1, 1)) ∧ (decode cX1_widened 6 = .ok (.iconst 5, 1)) ∧ (decode cX1_widened 7 = .ok (.if_icmp .gt 5, 3)) ∧ (decode cX1_widened 10 = .ok (.lload_n 2, 1)) ∧ (decode cX1_widened 11 = .ok (.lreturn, 1)) ∧ (decode cX1_widened 12 = .ok (.iload_n 0, 1)) ∧ (decode cX1_widened 13 = .ok (.bipush 6, 2)) ∧ (decode cX1_widened 15 = .ok (.if_icmp .ne 8, 3)) ∧ (decode cX1_widened 18 = .ok (.lload_n 2, 1)) ∧ (decode cX1_widened 19 = .ok (.invokestatic 38, 3)) ∧ (decode cX1_widened 22 = .ok (.lreturn, 1)) ∧ (decode cX1_widened 23 = .ok (.iload_n 1, 1)) ∧ (decode cX1_widened 24 = .ok (.bipush 6, 2)) := by decide +kernel
theorem dX1_widened_0 : decode cX1_widened 0 = .ok (.iload_n 0, 1) := dg_X1_widened_0.1
theorem dX1_widened_1 : decode cX1_widened 1 = .ok (.iload_n 1, 1) := dg_X1_widened_0.2.1
theorem dX1_widened_2 : decode cX1_widened 2 = .ok (.if_icmp .eq 8, 3) := dg_X1_widened_0.2.2.1
theorem dX1_widened_5 : decode cX1_widened 5 = .ok (.iload_n 1, 1) := dg_X1_widened_0.2.2.2.1
theorem dX1_widened_6 : decode cX1_widened 6 = .ok (.iconst 5, 1) := dg_X1_widened_0.2.2.2.2.1
theorem dX1_widened_7 : decode cX1_widened 7 = .ok (.if_icmp .gt 5, 3) := dg_X1_widened_0.2.2.2.2.2.1
theorem dX1_widened_10 : decode cX1_widened 10 = .ok (.lload_n 2, 1) := dg_X1_widened_0.2.2.2.2.2.2.1
theorem dX1_widened_11 : decode cX1_widened 11 = .ok (.lreturn, 1) := dg_X1_widened_0.2.2.2.2.2.2.2.1
theorem dX1_widened_12 : decode cX1_widened 12 = .ok (.iload_n 0, 1) := dg_X1_widened_0.2.2.2.2.2.2.2.2.1
theorem dX1_widened_13 : decode cX1_widened 13 = .ok (.bipush 6, 2) := dg_X1_widened_0.2.2.2.2.2.2.2.2.2.1
theorem dX1_widened_15 : decode cX1_widened 15 = .ok (.if_icmp .ne 8, 3) := dg_X1_widened_0.2.2.2.2.2.2.2.2.2.2.1
theorem dX1_widened_18 : decode cX1_widened 18 = .ok (.lload_n 2, 1) := dg_X1_widened_0.2.2.2.2.2.2.2.2.2.2.2.1
theorem dX1_widened_19 : decode cX1_widened 19 = .ok (.invokestatic 38, 3) := dg_X1_widened_0.2.2.2.2.2.2.2.2.2.2.2.2.1
theorem dX1_widened_22 : decode cX1_widened 22 = .ok (.lreturn, 1) := dg_X1_widened_0.2.2.2.2.2.2.2.2.2.2.2.2.2.1
theorem dX1_widened_23 : decode cX1_widened 23 = .ok (.iload_n 1, 1) := dg_X1_widened_0.2.2.2.2.2.2.2.2.2.2.2.2.2.2.1
theorem dX1_widened_24 : decode cX1_widened 24 = .ok (.bipush 6, 2) := dg_X1_widened_0.2.2.2.2.2.2.2.2.2.2.2.2.2.2.2
theorem dg_X1_widened_26 : (decode cX1_widened 26 = .ok (.if_icmp .ne 31, 3)) ∧ (decode cX1_widened 29 = .ok (.lload_n 2, 1)) ∧ (decode cX1_widened 30 = .ok (.bipush 23, 2)) ∧ (decode cX1_widened 32 = .ok (.bipush 127, 2)) ∧ (decode cX1_widened 34 = .ok (.invokestatic 42, 3)) ∧ (decode cX1_widened 37 = .ok (.lstore 4, 2)) ∧ (decode cX1_widened 39 = .ok (.lload_n 2, 1)) ∧ (decode cX1_widened 40 = .ok (.lconst 0, 1)) ∧ (decode cX1_widened 41 = .ok (.lcmp, 1)) ∧ (decode cX1_widened 42 = .ok (.ifCond .ge 12, 3)) ∧ (decode cX1_widened 45 = .ok (.lload 4, 2)) ∧ (decode cX1_widened 47 = .ok (.ldc2_w 46, 3)) ∧ (decode cX1_widened 50 = .ok (.lor, 1)) ∧ (decode cX1_widened 51 = .ok (.goto 5, 3)) ∧ (decode cX1_widened 54 = .ok (.lload 4, 2)) ∧ (decode cX1_widened 56 = .ok (.lreturn, 1)) := by decide +kernel
theorem dX1_widened_26 : decode cX1_widened 26 = .ok (.if_icmp .ne 31, 3) := dg_X1_widened_26.1
theorem dX1_widened_29 : decode cX1_widened 29 = .ok (.lload_n 2, 1) := dg_X1_widened_26.2.1
theorem dX1_widened_30 : decode cX1_widened 30 = .ok (.bipush 23, 2) := dg_X1_widened_26.2.2.1
theorem dX1_widened_32 : decode cX1_widened 32 = .ok (.bipush 127, 2) := dg_X1_widened_26.2.2.2.1
theorem dX1_widened_34 : decode cX1_widened 34 = .ok (.invokestatic 42, 3) := dg_X1_widened_26.2.2.2.2.1
theorem dX1_widened_37 : decode cX1_widened 37 = .ok (.lstore 4, 2) := dg_X1_widened_26.2.2.2.2.2.1
theorem dX1_widened_39 : decode cX1_widened 39 = .ok (.lload_n 2, 1) := dg_X1_widened_26.2.2.2.2.2.2.1
theorem dX1_widened_40 : decode cX1_widened 40 = .ok (.lconst 0, 1) := dg_X1_widened_26.2.2.2.2.2.2.2.1
theorem dX1_widened_41 : decode cX1_widened 41 = .ok (.lcmp, 1) := dg_X1_widened_26.2.2.2.2.2.2.2.2.1
theorem dX1_widened_42 : decode cX1_widened 42 = .ok (.ifCond .ge 12, 3) := dg_X1_widened_26.2.2.2.2.2.2.2.2.2.1
theorem dX1_widened_45 : decode cX1_widened 45 = .ok (.lload 4, 2) := dg_X1_widened_26.2.2.2.2.2.2.2.2.2.2.1
theorem dX1_widened_47 : decode cX1_widened 47 = .ok (.ldc2_w 46, 3) := dg_X1_widened_26.2.2.2.2.2.2.2.2.2.2.2.1
theorem dX1_widened_50 : decode cX1_widened 50 = .ok (.lor, 1) := dg_X1_widened_26.2.2.2.2.2.2.2.2.2.2.2.2.1
theorem dX1_widened_51 : decode cX1_widened 51 = .ok (.goto 5, 3) := dg_X1_widened_26.2.2.2.2.2.2.2.2.2.2.2.2.2.1
theorem dX1_widened_54 : decode cX1_widened 54 = .ok (.lload 4, 2) := dg_X1_widened_26.2.2.2.2.2.2.2.2.2.2.2.2.2.2.1
theorem dX1_widened_56 : decode cX1_widened 56 = .ok (.lreturn, 1) := dg_X1_widened_26.2.2.2.2.2.2.2.2.2.2.2.2.2.2.2
theorem dg_X1_widened_57 : (decode cX1_widened 57 = .ok (.lload_n 2, 1)) ∧ (decode cX1_widened 58 = .ok (.bipush 52, 2)) ∧ (decode cX1_widened 60 = .ok (.sipush 1023, 3)) ∧ (decode cX1_widened 63 = .ok (.invokestatic 42, 3)) ∧ (decode cX1_widened 66 = .ok (.lstore 4, 2)) ∧ (decode cX1_widened 68 = .ok (.lload_n 2, 1)) ∧ (decode cX1_widened 69 = .ok (.lconst 0, 1)) ∧ (decode cX1_widened 70 = .ok (.lcmp, 1)) ∧ (decode cX1_widened 71 = .ok (.ifCond .ge 12, 3)) ∧ (decode cX1_widened 74 = .ok (.lload 4, 2)) ∧ (decode cX1_widened 76 = .ok (.ldc2_w 48, 3)) ∧ (decode cX1_widened 79 = .ok (.lor, 1)) ∧ (decode cX1_widened 80 = .ok (.goto 5, 3)) ∧ (decode cX1_widened 83 = .ok (.lload 4, 2)) ∧ (decode cX1_widened 85 = .ok (.lreturn, 1)) := by decide +kernel
theorem dX1_widened_57 : decode cX1_widened 57 = .ok (.lload_n 2, 1) := dg_X1_widened_57.1
theorem dX1_widened_58 : decode cX1_widened 58 = .ok (.bipush 52, 2) := dg_X1_widened_57.2.1
theorem dX1_widened_60 : decode cX1_widened 60 = .ok (.sipush 1023, 3) := dg_X1_widened_57.2.2.1
theorem dX1_widened_63 : decode cX1_widened 63 = .ok (.invokestatic 42, 3) := dg_X1_widened_57.2.2.2.1
theorem dX1_widened_66 : decode cX1_widened 66 = .ok (.lstore 4, 2) := dg_X1_widened_57.2.2.2.2.1
theorem dX1_widened_68 : decode cX1_widened 68 = .ok (.lload_n 2, 1) := dg_X1_widened_57.2.2.2.2.2.1
theorem dX1_widened_69 : decode cX1_widened 69 = .ok (.lconst 0, 1) := dg_X1_widened_57.2.2.2.2.2.2.1
theorem dX1_widened_70 : decode cX1_widened 70 = .ok (.lcmp, 1) := dg_X1_widened_57.2.2.2.2.2.2.2.1
theorem dX1_widened_71 : decode cX1_widened 71 = .ok (.ifCond .ge 12, 3) := dg_X1_widened_57.2.2.2.2.2.2.2.2.1
theorem dX1_widened_74 : decode cX1_widened 74 = .ok (.lload 4, 2) := dg_X1_widened_57.2.2.2.2.2.2.2.2.2.1
theorem dX1_widened_76 : decode cX1_widened 76 = .ok (.ldc2_w 48, 3) := dg_X1_widened_57.2.2.2.2.2.2.2.2.2.2.1
theorem dX1_widened_79 : decode cX1_widened 79 = .ok (.lor, 1) := dg_X1_widened_57.2.2.2.2.2.2.2.2.2.2.2.1
theorem dX1_widened_80 : decode cX1_widened 80 = .ok (.goto 5, 3) := dg_X1_widened_57.2.2.2.2.2.2.2.2.2.2.2.2.1
theorem dX1_widened_83 : decode cX1_widened 83 = .ok (.lload 4, 2) := dg_X1_widened_57.2.2.2.2.2.2.2.2.2.2.2.2.2.1
theorem dX1_widened_85 : decode cX1_widened 85 = .ok (.lreturn, 1) := dg_X1_widened_57.2.2.2.2.2.2.2.2.2.2.2.2.2.2
theorem zk_361 : Cond.methodLink RX1 42 yX1_nearest ∈ zz_w := zz_in (List.mem_append_right _ (List.mem_append_right _ (List.mem_append_left _ (List.mem_of_getElem? (i := 121) (by decide +kernel))))) rfl
set_option maxRecDepth 20000 in
theorem zk_363 : Cond.code yX1_nearest cX1_nearest 14 (some .long) ∈ zz_w := zz_in (List.mem_append_right _ (List.mem_append_right _ (List.mem_append_left _ (List.mem_of_getElem? (i := 123) (rfl))))) rfl
theorem zk_362 : Cond.static yX1_nearest ∈ zz_w := zz_in (List.mem_append_right _ (List.mem_append_right _ (List.mem_append_left _ (List.mem_of_getElem? (i := 122) (by decide +kernel))))) rfl
theorem zc_X1_42 : zz_cS RX1 42 yX1_nearest cX1_nearest 14 (some .long) 3 := ⟨⟨zk_361, zk_363, zk_8, by decide, by decide, by decide +kernel⟩, zk_362⟩
theorem zk_364 : Cond.constantLong RX1 46 (-2147483648) ∈ zz_w := zz_in (List.mem_append_right _ (List.mem_append_right _ (List.mem_append_left _ (List.mem_of_getElem? (i := 124) (by decide +kernel))))) rfl
theorem zk_349 : Cond.methodLink RX1 38 yX1_doubleOfFloat ∈ zz_w := zz_in (List.mem_append_right _ (List.mem_append_right _ (List.mem_append_left _ (List.mem_of_getElem? (i := 109) (by decide +kernel))))) rfl
set_option maxRecDepth 20000 in
theorem zk_351 : Cond.code yX1_doubleOfFloat cX1_doubleOfFloat 10 (some .long) ∈ zz_w := zz_in (List.mem_append_right _ (List.mem_append_right _ (List.mem_append_left _ (List.mem_of_getElem? (i := 111) (rfl))))) rfl
theorem zk_350 : Cond.static yX1_doubleOfFloat ∈ zz_w := zz_in (List.mem_append_right _ (List.mem_append_right _ (List.mem_append_left _ (List.mem_of_getElem? (i := 110) (by decide +kernel))))) rfl
theorem zc_X1_38 : zz_cS RX1 38 yX1_doubleOfFloat cX1_doubleOfFloat 10 (some .long) 1 := ⟨⟨zk_349, zk_351, zk_8, by decide, by decide, by decide +kernel⟩, zk_350⟩
def fn_co_widened (k : Int32) (j : Int32) (x : Int64) : Int64 := (if k = j then x else (if 5 < j then (if k = 6 then (fn_co_doubleOfFloat x) else (if j = 6 then (if 0 ≤ x then (fn_co_nearest x 23 127) else (fn_co_nearest x 23 127) ||| (-2147483648)) else (if 0 ≤ x then (fn_co_nearest x 52 1023) else (fn_co_nearest x 52 1023) ||| (-9223372036854775808)))) else x))
abbrev rm_co_widened : Room := { frames := 2, cells := 0, slots := 0, locals := 55 }
abbrev po_co_widened (g : zz_G) (k : Int32) (j : Int32) (x : Int64) : Int64 → va_W → Prop := fun (r : Int64) (u : va_W) => r = fn_co_widened k j x ∧ u = []
set_option maxHeartbeats 4000000 in
set_option maxRecDepth 100000 in
theorem co_widened (g : zz_G) (k : Int32) (j : Int32) (x : Int64) : zz_L g yX1_widened (.code yX1_widened cX1_widened 6 (some .long)) rm_co_widened [.int k, .int j, .long x] [] (po_co_widened g k j x) := by
  refine zz_L.intro (own := RX1) (cc := cX1_widened) (nL := 6) (by decide) rfl (Nat.le_of_ble_eq_true rfl) ?_
  intro p l e s m args below meth c A H locs ls hC hnm hs hZ hl
  obtain ⟨hx, hb, hml, hown, hts, hr, hlocks, hK⟩ := id hC
  have hl : lv_has ls 6 [(0, .int k), (1, .int j), (2, .long x)] := hl
  have hZ : zz_Z g A s.heap [] H locs := hZ
  refine lv_iload_n hx hb dX1_widened_0 rfl (lv_at hl 0 rfl) ?_
  refine lv_iload_n hx hb dX1_widened_1 rfl (lv_at hl 1 rfl) ?_
  refine lv_icmp_eq (tgt := 10) hx hb dX1_widened_2 (by decide) (fun c1 => ?_) (fun c1 => ?_)
  · refine lv_lload_n hx hb dX1_widened_10 rfl (lv_at hl 2 rfl) ?_
    exact zz_lret hC hZ (⟨by show _ = _; rw [fn_co_widened, if_pos c1], rfl⟩) (Nat.le_of_ble_eq_true rfl) (Nat.le_of_ble_eq_true rfl) dX1_widened_11
  · refine lv_iload_n hx hb dX1_widened_5 rfl (lv_at hl 1 rfl) ?_
    refine lv_iconst (v := 5) hx hb dX1_widened_6 (by decide) ?_
    refine lv_icmp_gt (tgt := 12) hx hb dX1_widened_7 (by decide) (fun c2 => ?_) (fun c2 => ?_)
    · refine lv_iload_n hx hb dX1_widened_12 rfl (lv_at hl 0 rfl) ?_
      refine lv_bipush (v := 6) hx hb dX1_widened_13 (by decide) ?_
      refine lv_icmp_ne (tgt := 23) hx hb dX1_widened_15 (by decide) (fun c3 => ?_) (fun c3 => ?_)
      · refine lv_iload_n hx hb dX1_widened_23 rfl (lv_at hl 1 rfl) ?_
        refine lv_bipush (v := 6) hx hb dX1_widened_24 (by decide) ?_
        refine lv_icmp_ne (tgt := 57) hx hb dX1_widened_26 (by decide) (fun c4 => ?_) (fun c4 => ?_)
        · refine lv_lload_n hx hb dX1_widened_57 rfl (lv_at hl 2 rfl) ?_
          refine lv_bipush (v := 52) hx hb dX1_widened_58 (by decide) ?_
          refine lv_sipush (v := 1023) hx hb dX1_widened_60 (by decide) ?_
          refine zz_lS (As := [.long x, .int 52, .int 1023]) (wc := []) (wr := []) (rest := []) hC hZ hs hl zc_X1_42 (co_nearest g x 52 1023) [] [] rfl rfl (by decide +kernel) rfl rfl (Nat.le_of_ble_eq_true rfl) ⟨⟨Nat.le_of_ble_eq_true rfl, Nat.le_of_ble_eq_true rfl⟩, Nat.le_of_ble_eq_true rfl, Nat.le_of_ble_eq_true rfl⟩ dX1_widened_63 (fun r5 u6 H locs hp hZ => ?_)
          obtain ⟨rfl, rfl⟩ := hp
          have hZ : zz_Z g A s.heap [] H locs := hZ
          refine lv_lstore (lv' := [(4, .long (fn_co_nearest x 52 1023)), (0, .int k), (1, .int j), (2, .long x)]) hx hb dX1_widened_66 hl (by decide) rfl (fun ls hl => ?_)
          refine lv_lload_n hx hb dX1_widened_68 rfl (lv_at hl 3 rfl) ?_
          refine lv_lconst (v := 0) hx hb dX1_widened_69 (by decide) ?_
          refine zz_lcmp_ge (tgt := 83) hC dX1_widened_70 dX1_widened_71 (by decide) (fun c7 => ?_) (fun c7 => ?_)
          · refine lv_lload hx hb dX1_widened_83 (lv_at hl 0 rfl) ?_
            exact zz_lret hC hZ (⟨by show _ = _; rw [fn_co_widened, if_neg c1, if_pos c2, if_neg c3, if_neg c4, if_pos c7], rfl⟩) (Nat.le_of_ble_eq_true rfl) (Nat.le_of_ble_eq_true rfl) dX1_widened_85
          · refine lv_lload hx hb dX1_widened_74 (lv_at hl 0 rfl) ?_
            refine lv_ldc2 hx hb hown (hts _ zk_352) dX1_widened_76 ?_
            refine lv_lor hx hb dX1_widened_79 ?_
            refine lv_goto (tgt := 85) hx hb dX1_widened_80 (by decide) ?_
            exact zz_lret hC hZ (⟨by show _ = _; rw [fn_co_widened, if_neg c1, if_pos c2, if_neg c3, if_neg c4, if_neg c7], rfl⟩) (Nat.le_of_ble_eq_true rfl) (Nat.le_of_ble_eq_true rfl) dX1_widened_85
        · refine lv_lload_n hx hb dX1_widened_29 rfl (lv_at hl 2 rfl) ?_
          refine lv_bipush (v := 23) hx hb dX1_widened_30 (by decide) ?_
          refine lv_bipush (v := 127) hx hb dX1_widened_32 (by decide) ?_
          refine zz_lS (As := [.long x, .int 23, .int 127]) (wc := []) (wr := []) (rest := []) hC hZ hs hl zc_X1_42 (co_nearest g x 23 127) [] [] rfl rfl (by decide +kernel) rfl rfl (Nat.le_of_ble_eq_true rfl) ⟨⟨Nat.le_of_ble_eq_true rfl, Nat.le_of_ble_eq_true rfl⟩, Nat.le_of_ble_eq_true rfl, Nat.le_of_ble_eq_true rfl⟩ dX1_widened_34 (fun r8 u9 H locs hp hZ => ?_)
          obtain ⟨rfl, rfl⟩ := hp
          have hZ : zz_Z g A s.heap [] H locs := hZ
          refine lv_lstore (lv' := [(4, .long (fn_co_nearest x 23 127)), (0, .int k), (1, .int j), (2, .long x)]) hx hb dX1_widened_37 hl (by decide) rfl (fun ls hl => ?_)
          refine lv_lload_n hx hb dX1_widened_39 rfl (lv_at hl 3 rfl) ?_
          refine lv_lconst (v := 0) hx hb dX1_widened_40 (by decide) ?_
          refine zz_lcmp_ge (tgt := 54) hC dX1_widened_41 dX1_widened_42 (by decide) (fun c10 => ?_) (fun c10 => ?_)
          · refine lv_lload hx hb dX1_widened_54 (lv_at hl 0 rfl) ?_
            exact zz_lret hC hZ (⟨by show _ = _; rw [fn_co_widened, if_neg c1, if_pos c2, if_neg c3, if_pos c4, if_pos c10], rfl⟩) (Nat.le_of_ble_eq_true rfl) (Nat.le_of_ble_eq_true rfl) dX1_widened_56
          · refine lv_lload hx hb dX1_widened_45 (lv_at hl 0 rfl) ?_
            refine lv_ldc2 hx hb hown (hts _ zk_364) dX1_widened_47 ?_
            refine lv_lor hx hb dX1_widened_50 ?_
            refine lv_goto (tgt := 56) hx hb dX1_widened_51 (by decide) ?_
            exact zz_lret hC hZ (⟨by show _ = _; rw [fn_co_widened, if_neg c1, if_pos c2, if_neg c3, if_pos c4, if_neg c10], rfl⟩) (Nat.le_of_ble_eq_true rfl) (Nat.le_of_ble_eq_true rfl) dX1_widened_56
      · refine lv_lload_n hx hb dX1_widened_18 rfl (lv_at hl 2 rfl) ?_
        refine zz_lS (As := [.long x]) (wc := []) (wr := []) (rest := []) hC hZ hs hl zc_X1_38 (co_doubleOfFloat g x) [] [] rfl rfl (by decide +kernel) rfl rfl (Nat.le_of_ble_eq_true rfl) ⟨⟨Nat.le_of_ble_eq_true rfl, Nat.le_of_ble_eq_true rfl⟩, Nat.le_of_ble_eq_true rfl, Nat.le_of_ble_eq_true rfl⟩ dX1_widened_19 (fun r11 u12 H locs hp hZ => ?_)
        obtain ⟨rfl, rfl⟩ := hp
        have hZ : zz_Z g A s.heap [] H locs := hZ
        exact zz_lret hC hZ (⟨by show _ = _; rw [fn_co_widened, if_neg c1, if_pos c2, if_pos c3], rfl⟩) (Nat.le_of_ble_eq_true rfl) (Nat.le_of_ble_eq_true rfl) dX1_widened_22
    · refine lv_lload_n hx hb dX1_widened_10 rfl (lv_at hl 2 rfl) ?_
      exact zz_lret hC hZ (⟨by show _ = _; rw [fn_co_widened, if_neg c1, if_neg c2], rfl⟩) (Nat.le_of_ble_eq_true rfl) (Nat.le_of_ble_eq_true rfl) dX1_widened_11
