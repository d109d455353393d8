theorem dX7_fail_0 : decode cX7_fail 0 = .ok (.aload_n 0, 1) := by decide +kernel
theorem dX7_fail_1 : decode cX7_fail 1 = .ok (.iload_n 1, 1) := by decide +kernel
theorem dX7_fail_2 : decode cX7_fail 2 = .ok (.putfield 56, 3) := by decide +kernel
theorem zk_207 : Cond.fieldLink RX7 56 RX7 "latest" "I" ∈ zz_w := zz_in (List.mem_append_right _ (List.mem_append_left _ (List.mem_of_getElem? (i := 207) (by decide +kernel)))) rfl
theorem zi_X7_a : ∀ w ∈ u_ws RX7 TX7 8, w ∈ lw_tbl := by decide +kernel
theorem zi_X7_b : ∀ w ∈ u_ws RX7 TX7 8, goodWord w = true := by decide +kernel
theorem zi_X7 : ∀ w ∈ u_ws RX7 TX7 8, w ∈ zz_w := fun w h => zz_in (zi_X7_a w h) (zi_X7_b w h)
theorem zu_X7_56 : zz_fw RX7 56 6 7 false .int := ⟨RX7, TX7, 8, tyX7, rfl, zi_X7, by decide, zk_207, tyX7_ok, nmX7, rfl, by decide +kernel, fun h => by cases h⟩
theorem dX7_fail_5 : decode cX7_fail 5 = .ok (.iload_n 1, 1) := by decide +kernel
theorem dX7_fail_6 : decode cX7_fail 6 = .ok (.ineg, 1) := by decide +kernel
theorem dX7_fail_7 : decode cX7_fail 7 = .ok (.ireturn, 1) := by decide +kernel
abbrev rm_co_fail : Room := { frames := 0, cells := 0, slots := 0, locals := 0 }
abbrev po_co_fail (g : zz_G) (h0 : Nat) (st : Nat) (mk : Nat) (lk : Nat) (ch : Nat) (ru : Nat) (mr : Nat) (md : Int32) (la : Int32) (k : Int32) : Int32 → va_W → Prop := fun (r : Int32) (u : va_W) => r = -k ∧ u = [(h0, .inr (6, [.ref st, .ref mk, .ref lk, .ref ch, .ref ru, .ref mr, .int md, .int k]))]
set_option maxHeartbeats 4000000 in
set_option maxRecDepth 100000 in
theorem co_fail (g : zz_G) (h0 : Nat) (st : Nat) (mk : Nat) (lk : Nat) (ch : Nat) (ru : Nat) (mr : Nat) (md : Int32) (la : Int32) (k : Int32) : zz_I g yX7_fail (.code yX7_fail cX7_fail 2 (some .int)) rm_co_fail [.ref h0, .int k] [(h0, .inr (6, [.ref st, .ref mk, .ref lk, .ref ch, .ref ru, .ref mr, .int md, .int la]))] (po_co_fail g h0 st mk lk ch ru mr md la k) := by
  refine zz_I.intro (own := RX7) (cc := cX7_fail) (nL := 2) (by decide) rfl (Nat.le_of_ble_eq_true rfl) ?_
  intro p l e s m args below meth c A H locs ls hC hnm hZ hl
  obtain ⟨hx, hb, hml, hown, hts, hr, hlocks, hK⟩ := id hC
  have hl : lv_has ls 2 [(0, .ref h0), (1, .int k)] := hl
  have hZ : zz_Z g A s.heap [(h0, .inr (6, [.ref st, .ref mk, .ref lk, .ref ch, .ref ru, .ref mr, .int md, .int la]))] H locs := hZ
  refine lv_aload_n hx hb dX7_fail_0 rfl (lv_at hl 0 rfl) ?_
  refine lv_iload_n hx hb dX7_fail_1 rfl (lv_at hl 1 rfl) ?_
  refine zz_put hC hZ 0 rfl zu_X7_56 (Nat.le_of_ble_eq_true rfl) dX7_fail_2 (fun H locs hZ => ?_)
  have hZ : zz_Z g A s.heap [(h0, .inr (6, [.ref st, .ref mk, .ref lk, .ref ch, .ref ru, .ref mr, .int md, .int k]))] H locs := hZ
  refine lv_iload_n hx hb dX7_fail_5 rfl (lv_at hl 1 rfl) ?_
  refine lv_ineg hx hb dX7_fail_6 ?_
  exact zz_iret hC hZ (⟨rfl, rfl⟩) (Nat.le_of_ble_eq_true rfl) (Nat.le_of_ble_eq_true rfl) dX7_fail_7
theorem dX7_fine_0 : decode cX7_fine 0 = .ok (.aload_n 0, 1) := by decide +kernel
theorem dX7_fine_1 : decode cX7_fine 1 = .ok (.iconst 0, 1) := by decide +kernel
theorem dX7_fine_2 : decode cX7_fine 2 = .ok (.putfield 56, 3) := by decide +kernel
theorem dX7_fine_5 : decode cX7_fine 5 = .ok (.iload_n 1, 1) := by decide +kernel
theorem dX7_fine_6 : decode cX7_fine 6 = .ok (.ireturn, 1) := by decide +kernel
abbrev rm_co_fine : Room := { frames := 0, cells := 0, slots := 0, locals := 0 }
abbrev po_co_fine (g : zz_G) (h0 : Nat) (st : Nat) (mk : Nat) (lk : Nat) (ch : Nat) (ru : Nat) (mr : Nat) (md : Int32) (la : Int32) (k : Int32) : Int32 → va_W → Prop := fun (r : Int32) (u : va_W) => r = k ∧ u = [(h0, .inr (6, [.ref st, .ref mk, .ref lk, .ref ch, .ref ru, .ref mr, .int md, .int 0]))]
set_option maxHeartbeats 4000000 in
set_option maxRecDepth 100000 in
theorem co_fine (g : zz_G) (h0 : Nat) (st : Nat) (mk : Nat) (lk : Nat) (ch : Nat) (ru : Nat) (mr : Nat) (md : Int32) (la : Int32) (k : Int32) : zz_I g yX7_fine (.code yX7_fine cX7_fine 2 (some .int)) rm_co_fine [.ref h0, .int k] [(h0, .inr (6, [.ref st, .ref mk, .ref lk, .ref ch, .ref ru, .ref mr, .int md, .int la]))] (po_co_fine g h0 st mk lk ch ru mr md la k) := by
  refine zz_I.intro (own := RX7) (cc := cX7_fine) (nL := 2) (by decide) rfl (Nat.le_of_ble_eq_true rfl) ?_
  intro p l e s m args below meth c A H locs ls hC hnm hZ hl
  obtain ⟨hx, hb, hml, hown, hts, hr, hlocks, hK⟩ := id hC
  have hl : lv_has ls 2 [(0, .ref h0), (1, .int k)] := hl
  have hZ : zz_Z g A s.heap [(h0, .inr (6, [.ref st, .ref mk, .ref lk, .ref ch, .ref ru, .ref mr, .int md, .int la]))] H locs := hZ
  refine lv_aload_n hx hb dX7_fine_0 rfl (lv_at hl 0 rfl) ?_
  refine lv_iconst (v := 0) hx hb dX7_fine_1 (by decide) ?_
  refine zz_put hC hZ 0 rfl zu_X7_56 (Nat.le_of_ble_eq_true rfl) dX7_fine_2 (fun H locs hZ => ?_)
  have hZ : zz_Z g A s.heap [(h0, .inr (6, [.ref st, .ref mk, .ref lk, .ref ch, .ref ru, .ref mr, .int md, .int 0]))] H locs := hZ
  refine lv_iload_n hx hb dX7_fine_5 rfl (lv_at hl 1 rfl) ?_
  exact zz_iret hC hZ (⟨rfl, rfl⟩) (Nat.le_of_ble_eq_true rfl) (Nat.le_of_ble_eq_true rfl) dX7_fine_6
theorem dX7_noBits_0 : decode cX7_noBits 0 = .ok (.aload_n 0, 1) := by decide +kernel
theorem dX7_noBits_1 : decode cX7_noBits 1 = .ok (.iload_n 1, 1) := by decide +kernel
theorem dX7_noBits_2 : decode cX7_noBits 2 = .ok (.putfield 56, 3) := by decide +kernel
theorem dX7_noBits_5 : decode cX7_noBits 5 = .ok (.lconst 0, 1) := by decide +kernel
theorem dX7_noBits_6 : decode cX7_noBits 6 = .ok (.lreturn, 1) := by decide +kernel
abbrev rm_co_noBits : Room := { frames := 0, cells := 0, slots := 0, locals := 0 }
abbrev po_co_noBits (g : zz_G) (h0 : Nat) (st : Nat) (mk : Nat) (lk : Nat) (ch : Nat) (ru : Nat) (mr : Nat) (md : Int32) (la : Int32) (k : Int32) : Int64 → va_W → Prop := fun (r : Int64) (u : va_W) => r = 0 ∧ u = [(h0, .inr (6, [.ref st, .ref mk, .ref lk, .ref ch, .ref ru, .ref mr, .int md, .int k]))]
set_option maxHeartbeats 4000000 in
set_option maxRecDepth 100000 in
theorem co_noBits (g : zz_G) (h0 : Nat) (st : Nat) (mk : Nat) (lk : Nat) (ch : Nat) (ru : Nat) (mr : Nat) (md : Int32) (la : Int32) (k : Int32) : zz_L g yX7_noBits (.code yX7_noBits cX7_noBits 2 (some .long)) rm_co_noBits [.ref h0, .int k] [(h0, .inr (6, [.ref st, .ref mk, .ref lk, .ref ch, .ref ru, .ref mr, .int md, .int la]))] (po_co_noBits g h0 st mk lk ch ru mr md la k) := by
  refine zz_L.intro (own := RX7) (cc := cX7_noBits) (nL := 2) (by decide) rfl (Nat.le_of_ble_eq_true rfl) ?_
  intro p l e s m args below meth c A H locs ls hC hnm hZ hl
  obtain ⟨hx, hb, hml, hown, hts, hr, hlocks, hK⟩ := id hC
  have hl : lv_has ls 2 [(0, .ref h0), (1, .int k)] := hl
  have hZ : zz_Z g A s.heap [(h0, .inr (6, [.ref st, .ref mk, .ref lk, .ref ch, .ref ru, .ref mr, .int md, .int la]))] H locs := hZ
  refine lv_aload_n hx hb dX7_noBits_0 rfl (lv_at hl 0 rfl) ?_
  refine lv_iload_n hx hb dX7_noBits_1 rfl (lv_at hl 1 rfl) ?_
  refine zz_put hC hZ 0 rfl zu_X7_56 (Nat.le_of_ble_eq_true rfl) dX7_noBits_2 (fun H locs hZ => ?_)
  have hZ : zz_Z g A s.heap [(h0, .inr (6, [.ref st, .ref mk, .ref lk, .ref ch, .ref ru, .ref mr, .int md, .int k]))] H locs := hZ
  refine lv_lconst (v := 0) hx hb dX7_noBits_5 (by decide) ?_
  exact zz_lret hC hZ (⟨rfl, rfl⟩) (Nat.le_of_ble_eq_true rfl) (Nat.le_of_ble_eq_true rfl) dX7_noBits_6
theorem dX1_isKind_0 : decode cX1_isKind 0 = .ok (.iload_n 0, 1) := by decide +kernel
theorem dX1_isKind_1 : decode cX1_isKind 1 = .ok (.ifCond .lt 13, 3) := by decide +kernel
theorem dX1_isKind_14 : decode cX1_isKind 14 = .ok (.iconst 0, 1) := by decide +kernel
theorem dX1_isKind_15 : decode cX1_isKind 15 = .ok (.ireturn, 1) := by decide +kernel
theorem dX1_isKind_4 : decode cX1_isKind 4 = .ok (.iload_n 0, 1) := by decide +kernel
theorem dX1_isKind_5 : decode cX1_isKind 5 = .ok (.bipush 8, 2) := by decide +kernel
theorem dX1_isKind_7 : decode cX1_isKind 7 = .ok (.if_icmp .gt 7, 3) := by decide +kernel
theorem dX1_isKind_10 : decode cX1_isKind 10 = .ok (.iconst 1, 1) := by decide +kernel
theorem dX1_isKind_11 : decode cX1_isKind 11 = .ok (.goto 4, 3) := by decide +kernel
def fn_co_isKind (k : Int32) : Int32 := (if k < 0 then 0 else (if 8 < k then 0 else 1))
abbrev rm_co_isKind : Room := { frames := 0, cells := 0, slots := 0, locals := 0 }
abbrev po_co_isKind (g : zz_G) (k : Int32) : Int32 → va_W → Prop := fun (r : Int32) (u : va_W) => r = fn_co_isKind k ∧ u = []
set_option maxHeartbeats 4000000 in
set_option maxRecDepth 100000 in
theorem co_isKind (g : zz_G) (k : Int32) : zz_I g yX1_isKind (.code yX1_isKind cX1_isKind 1 (some .boolean)) rm_co_isKind [.int k] [] (po_co_isKind g k) := by
  refine zz_I.intro (own := RX1) (cc := cX1_isKind) (nL := 1) (by decide) rfl (Nat.le_of_ble_eq_true rfl) ?_
  intro p l e s m args below meth c A H locs ls hC hnm hZ hl
  obtain ⟨hx, hb, hml, hown, hts, hr, hlocks, hK⟩ := id hC
  have hl : lv_has ls 1 [(0, .int k)] := hl
  have hZ : zz_Z g A s.heap [] H locs := hZ
  refine lv_iload_n hx hb dX1_isKind_0 rfl (lv_at hl 0 rfl) ?_
  refine lv_if_lt (tgt := 14) hx hb dX1_isKind_1 (by decide) (fun c1 => ?_) (fun c1 => ?_)
  · refine lv_iconst (v := 0) hx hb dX1_isKind_14 (by decide) ?_
    exact zz_zret hC hZ (by decide) (⟨by show _ = _; rw [fn_co_isKind, if_pos c1], rfl⟩) (Nat.le_of_ble_eq_true rfl) (Nat.le_of_ble_eq_true rfl) dX1_isKind_15
  · refine lv_iload_n hx hb dX1_isKind_4 rfl (lv_at hl 0 rfl) ?_
    refine lv_bipush (v := 8) hx hb dX1_isKind_5 (by decide) ?_
    refine lv_icmp_gt (tgt := 14) hx hb dX1_isKind_7 (by decide) (fun c2 => ?_) (fun c2 => ?_)
    · refine lv_iconst (v := 0) hx hb dX1_isKind_14 (by decide) ?_
      exact zz_zret hC hZ (by decide) (⟨by show _ = _; rw [fn_co_isKind, if_neg c1, if_pos c2], rfl⟩) (Nat.le_of_ble_eq_true rfl) (Nat.le_of_ble_eq_true rfl) dX1_isKind_15
    · refine lv_iconst (v := 1) hx hb dX1_isKind_10 (by decide) ?_
      refine lv_goto (tgt := 15) hx hb dX1_isKind_11 (by decide) ?_
      exact zz_zret hC hZ (by decide) (⟨by show _ = _; rw [fn_co_isKind, if_neg c1, if_neg c2], rfl⟩) (Nat.le_of_ble_eq_true rfl) (Nat.le_of_ble_eq_true rfl) dX1_isKind_15
theorem dX1_reaches_0 : decode cX1_reaches 0 = .ok (.iload_n 0, 1) := by decide +kernel
theorem dX1_reaches_1 : decode cX1_reaches 1 = .ok (.iload_n 1, 1) := by decide +kernel
theorem dX1_reaches_2 : decode cX1_reaches 2 = .ok (.if_icmp .eq 13, 3) := by decide +kernel
theorem dX1_reaches_15 : decode cX1_reaches 15 = .ok (.iconst 1, 1) := by decide +kernel
theorem dX1_reaches_16 : decode cX1_reaches 16 = .ok (.ireturn, 1) := by decide +kernel
theorem dX1_reaches_5 : decode cX1_reaches 5 = .ok (.iload_n 0, 1) := by decide +kernel
theorem dX1_reaches_6 : decode cX1_reaches 6 = .ok (.iconst 2, 1) := by decide +kernel
theorem dX1_reaches_7 : decode cX1_reaches 7 = .ok (.if_icmp .ne 10, 3) := by decide +kernel
theorem dX1_reaches_17 : decode cX1_reaches 17 = .ok (.iload_n 0, 1) := by decide +kernel
theorem dX1_reaches_18 : decode cX1_reaches 18 = .ok (.iconst 1, 1) := by decide +kernel
theorem dX1_reaches_19 : decode cX1_reaches 19 = .ok (.if_icmp .lt 23, 3) := by decide +kernel
theorem dX1_reaches_42 : decode cX1_reaches 42 = .ok (.iconst 0, 1) := by decide +kernel
theorem dX1_reaches_43 : decode cX1_reaches 43 = .ok (.ireturn, 1) := by decide +kernel
theorem dX1_reaches_22 : decode cX1_reaches 22 = .ok (.iload_n 0, 1) := by decide +kernel
theorem dX1_reaches_23 : decode cX1_reaches 23 = .ok (.iload_n 1, 1) := by decide +kernel
theorem dX1_reaches_24 : decode cX1_reaches 24 = .ok (.if_icmp .ge 18, 3) := by decide +kernel
theorem dX1_reaches_27 : decode cX1_reaches 27 = .ok (.iload_n 1, 1) := by decide +kernel
theorem dX1_reaches_28 : decode cX1_reaches 28 = .ok (.iconst 4, 1) := by decide +kernel
theorem dX1_reaches_29 : decode cX1_reaches 29 = .ok (.if_icmp .lt 13, 3) := by decide +kernel
theorem dX1_reaches_32 : decode cX1_reaches 32 = .ok (.iload_n 1, 1) := by decide +kernel
theorem dX1_reaches_33 : decode cX1_reaches 33 = .ok (.bipush 7, 2) := by decide +kernel
theorem dX1_reaches_35 : decode cX1_reaches 35 = .ok (.if_icmp .gt 7, 3) := by decide +kernel
theorem dX1_reaches_38 : decode cX1_reaches 38 = .ok (.iconst 1, 1) := by decide +kernel
theorem dX1_reaches_39 : decode cX1_reaches 39 = .ok (.goto 4, 3) := by decide +kernel
theorem dX1_reaches_10 : decode cX1_reaches 10 = .ok (.iload_n 1, 1) := by decide +kernel
theorem dX1_reaches_11 : decode cX1_reaches 11 = .ok (.iconst 3, 1) := by decide +kernel
theorem dX1_reaches_12 : decode cX1_reaches 12 = .ok (.if_icmp .ne 5, 3) := by decide +kernel
def fn_co_reaches (k : Int32) (j : Int32) : Int32 := (if k = j then 1 else (if k = 2 then (if j = 3 then 1 else (if k < 1 then 0 else (if j ≤ k then 0 else (if j < 4 then 0 else (if 7 < j then 0 else 1))))) else (if k < 1 then 0 else (if j ≤ k then 0 else (if j < 4 then 0 else (if 7 < j then 0 else 1))))))
abbrev rm_co_reaches : Room := { frames := 0, cells := 0, slots := 0, locals := 0 }
abbrev po_co_reaches (g : zz_G) (k : Int32) (j : Int32) : Int32 → va_W → Prop := fun (r : Int32) (u : va_W) => r = fn_co_reaches k j ∧ u = []
set_option maxHeartbeats 4000000 in
set_option maxRecDepth 100000 in
theorem co_reaches (g : zz_G) (k : Int32) (j : Int32) : zz_I g yX1_reaches (.code yX1_reaches cX1_reaches 2 (some .boolean)) rm_co_reaches [.int k, .int j] [] (po_co_reaches g k j) := by
  refine zz_I.intro (own := RX1) (cc := cX1_reaches) (nL := 2) (by decide) rfl (Nat.le_of_ble_eq_true rfl) ?_
  intro p l e s m args below meth c A H locs ls hC hnm hZ hl
  obtain ⟨hx, hb, hml, hown, hts, hr, hlocks, hK⟩ := id hC
  have hl : lv_has ls 2 [(0, .int k), (1, .int j)] := hl
  have hZ : zz_Z g A s.heap [] H locs := hZ
  refine lv_iload_n hx hb dX1_reaches_0 rfl (lv_at hl 0 rfl) ?_
  refine lv_iload_n hx hb dX1_reaches_1 rfl (lv_at hl 1 rfl) ?_
  refine lv_icmp_eq (tgt := 15) hx hb dX1_reaches_2 (by decide) (fun c1 => ?_) (fun c1 => ?_)
  · refine lv_iconst (v := 1) hx hb dX1_reaches_15 (by decide) ?_
    exact zz_zret hC hZ (by decide) (⟨by show _ = _; rw [fn_co_reaches, if_pos c1], rfl⟩) (Nat.le_of_ble_eq_true rfl) (Nat.le_of_ble_eq_true rfl) dX1_reaches_16
  · refine lv_iload_n hx hb dX1_reaches_5 rfl (lv_at hl 0 rfl) ?_
    refine lv_iconst (v := 2) hx hb dX1_reaches_6 (by decide) ?_
    refine lv_icmp_ne (tgt := 17) hx hb dX1_reaches_7 (by decide) (fun c2 => ?_) (fun c2 => ?_)
    · refine lv_iload_n hx hb dX1_reaches_17 rfl (lv_at hl 0 rfl) ?_
      refine lv_iconst (v := 1) hx hb dX1_reaches_18 (by decide) ?_
      refine lv_icmp_lt (tgt := 42) hx hb dX1_reaches_19 (by decide) (fun c3 => ?_) (fun c3 => ?_)
      · refine lv_iconst (v := 0) hx hb dX1_reaches_42 (by decide) ?_
        exact zz_zret hC hZ (by decide) (⟨by show _ = _; rw [fn_co_reaches, if_neg c1, if_neg c2, if_pos c3], rfl⟩) (Nat.le_of_ble_eq_true rfl) (Nat.le_of_ble_eq_true rfl) dX1_reaches_43
      · refine lv_iload_n hx hb dX1_reaches_22 rfl (lv_at hl 0 rfl) ?_
        refine lv_iload_n hx hb dX1_reaches_23 rfl (lv_at hl 1 rfl) ?_
        refine lv_icmp_ge (tgt := 42) hx hb dX1_reaches_24 (by decide) (fun c4 => ?_) (fun c4 => ?_)
        · refine lv_iconst (v := 0) hx hb dX1_reaches_42 (by decide) ?_
          exact zz_zret hC hZ (by decide) (⟨by show _ = _; rw [fn_co_reaches, if_neg c1, if_neg c2, if_neg c3, if_pos c4], rfl⟩) (Nat.le_of_ble_eq_true rfl) (Nat.le_of_ble_eq_true rfl) dX1_reaches_43
        · refine lv_iload_n hx hb dX1_reaches_27 rfl (lv_at hl 1 rfl) ?_
          refine lv_iconst (v := 4) hx hb dX1_reaches_28 (by decide) ?_
          refine lv_icmp_lt (tgt := 42) hx hb dX1_reaches_29 (by decide) (fun c5 => ?_) (fun c5 => ?_)
          · refine lv_iconst (v := 0) hx hb dX1_reaches_42 (by decide) ?_
            exact zz_zret hC hZ (by decide) (⟨by show _ = _; rw [fn_co_reaches, if_neg c1, if_neg c2, if_neg c3, if_neg c4, if_pos c5], rfl⟩) (Nat.le_of_ble_eq_true rfl) (Nat.le_of_ble_eq_true rfl) dX1_reaches_43
          · refine lv_iload_n hx hb dX1_reaches_32 rfl (lv_at hl 1 rfl) ?_
            refine lv_bipush (v := 7) hx hb dX1_reaches_33 (by decide) ?_
            refine lv_icmp_gt (tgt := 42) hx hb dX1_reaches_35 (by decide) (fun c6 => ?_) (fun c6 => ?_)
            · refine lv_iconst (v := 0) hx hb dX1_reaches_42 (by decide) ?_
              exact zz_zret hC hZ (by decide) (⟨by show _ = _; rw [fn_co_reaches, if_neg c1, if_neg c2, if_neg c3, if_neg c4, if_neg c5, if_pos c6], rfl⟩) (Nat.le_of_ble_eq_true rfl) (Nat.le_of_ble_eq_true rfl) dX1_reaches_43
            · refine lv_iconst (v := 1) hx hb dX1_reaches_38 (by decide) ?_
              refine lv_goto (tgt := 43) hx hb dX1_reaches_39 (by decide) ?_
              exact zz_zret hC hZ (by decide) (⟨by show _ = _; rw [fn_co_reaches, if_neg c1, if_neg c2, if_neg c3, if_neg c4, if_neg c5, if_neg c6], rfl⟩) (Nat.le_of_ble_eq_true rfl) (Nat.le_of_ble_eq_true rfl) dX1_reaches_43
    · refine lv_iload_n hx hb dX1_reaches_10 rfl (lv_at hl 1 rfl) ?_
      refine lv_iconst (v := 3) hx hb dX1_reaches_11 (by decide) ?_
      refine lv_icmp_ne (tgt := 17) hx hb dX1_reaches_12 (by decide) (fun c7 => ?_) (fun c7 => ?_)
      · refine lv_iload_n hx hb dX1_reaches_17 rfl (lv_at hl 0 rfl) ?_
        refine lv_iconst (v := 1) hx hb dX1_reaches_18 (by decide) ?_
        refine lv_icmp_lt (tgt := 42) hx hb dX1_reaches_19 (by decide) (fun c8 => ?_) (fun c8 => ?_)
        · refine lv_iconst (v := 0) hx hb dX1_reaches_42 (by decide) ?_
          exact zz_zret hC hZ (by decide) (⟨by show _ = _; rw [fn_co_reaches, if_neg c1, if_pos c2, if_neg c7, if_pos c8], rfl⟩) (Nat.le_of_ble_eq_true rfl) (Nat.le_of_ble_eq_true rfl) dX1_reaches_43
        · refine lv_iload_n hx hb dX1_reaches_22 rfl (lv_at hl 0 rfl) ?_
          refine lv_iload_n hx hb dX1_reaches_23 rfl (lv_at hl 1 rfl) ?_
          refine lv_icmp_ge (tgt := 42) hx hb dX1_reaches_24 (by decide) (fun c9 => ?_) (fun c9 => ?_)
          · refine lv_iconst (v := 0) hx hb dX1_reaches_42 (by decide) ?_
            exact zz_zret hC hZ (by decide) (⟨by show _ = _; rw [fn_co_reaches, if_neg c1, if_pos c2, if_neg c7, if_neg c8, if_pos c9], rfl⟩) (Nat.le_of_ble_eq_true rfl) (Nat.le_of_ble_eq_true rfl) dX1_reaches_43
          · refine lv_iload_n hx hb dX1_reaches_27 rfl (lv_at hl 1 rfl) ?_
            refine lv_iconst (v := 4) hx hb dX1_reaches_28 (by decide) ?_
            refine lv_icmp_lt (tgt := 42) hx hb dX1_reaches_29 (by decide) (fun c10 => ?_) (fun c10 => ?_)
            · refine lv_iconst (v := 0) hx hb dX1_reaches_42 (by decide) ?_
              exact zz_zret hC hZ (by decide) (⟨by show _ = _; rw [fn_co_reaches, if_neg c1, if_pos c2, if_neg c7, if_neg c8, if_neg c9, if_pos c10], rfl⟩) (Nat.le_of_ble_eq_true rfl) (Nat.le_of_ble_eq_true rfl) dX1_reaches_43
            · refine lv_iload_n hx hb dX1_reaches_32 rfl (lv_at hl 1 rfl) ?_
              refine lv_bipush (v := 7) hx hb dX1_reaches_33 (by decide) ?_
              refine lv_icmp_gt (tgt := 42) hx hb dX1_reaches_35 (by decide) (fun c11 => ?_) (fun c11 => ?_)
              · refine lv_iconst (v := 0) hx hb dX1_reaches_42 (by decide) ?_
                exact zz_zret hC hZ (by decide) (⟨by show _ = _; rw [fn_co_reaches, if_neg c1, if_pos c2, if_neg c7, if_neg c8, if_neg c9, if_neg c10, if_pos c11], rfl⟩) (Nat.le_of_ble_eq_true rfl) (Nat.le_of_ble_eq_true rfl) dX1_reaches_43
              · refine lv_iconst (v := 1) hx hb dX1_reaches_38 (by decide) ?_
                refine lv_goto (tgt := 43) hx hb dX1_reaches_39 (by decide) ?_
                exact zz_zret hC hZ (by decide) (⟨by show _ = _; rw [fn_co_reaches, if_neg c1, if_pos c2, if_neg c7, if_neg c8, if_neg c9, if_neg c10, if_neg c11], rfl⟩) (Nat.le_of_ble_eq_true rfl) (Nat.le_of_ble_eq_true rfl) dX1_reaches_43
      · refine lv_iconst (v := 1) hx hb dX1_reaches_15 (by decide) ?_
        exact zz_zret hC hZ (by decide) (⟨by show _ = _; rw [fn_co_reaches, if_neg c1, if_pos c2, if_pos c7], rfl⟩) (Nat.le_of_ble_eq_true rfl) (Nat.le_of_ble_eq_true rfl) dX1_reaches_16
theorem dX8_fails_0 : decode cX8_fails 0 = .ok (.aload_n 0, 1) := by decide +kernel
theorem dX8_fails_1 : decode cX8_fails 1 = .ok (.iload_n 1, 1) := by decide +kernel
theorem dX8_fails_2 : decode cX8_fails 2 = .ok (.putfield 99, 3) := by decide +kernel
theorem zk_744 : Cond.fieldLink RX8 99 RX8 "code" "I" ∈ zz_w := zz_in (List.mem_append_right _ (List.mem_append_right _ (List.mem_append_right _ (List.mem_append_right _ (List.mem_append_left _ (List.mem_of_getElem? (i := 24) (by decide +kernel))))))) rfl
theorem zi_X8_a : ∀ w ∈ u_ws RX8 TX8 37, w ∈ lw_tbl := by decide +kernel
theorem zi_X8_b : ∀ w ∈ u_ws RX8 TX8 37, goodWord w = true := by decide +kernel
theorem zi_X8 : ∀ w ∈ u_ws RX8 TX8 37, w ∈ zz_w := fun w h => zz_in (zi_X8_a w h) (zi_X8_b w h)
theorem zu_X8_99 : zz_fw RX8 99 7 9 false .int := ⟨RX8, TX8, 37, tyX8, rfl, zi_X8, by decide, zk_744, tyX8_ok, nmX8, rfl, by decide +kernel, fun h => by cases h⟩
theorem dX8_fails_5 : decode cX8_fails 5 = .ok (.iload_n 1, 1) := by decide +kernel
theorem dX8_fails_6 : decode cX8_fails 6 = .ok (.ineg, 1) := by decide +kernel
theorem dX8_fails_7 : decode cX8_fails 7 = .ok (.ireturn, 1) := by decide +kernel
abbrev rm_cm_fails : Room := { frames := 0, cells := 0, slots := 0, locals := 0 }
abbrev po_cm_fails (g : zz_G) (h0 : Nat) (a_kindOf : Nat) (a_depthOf : Nat) (a_lengthOf : Nat) (a_classOf : Nat) (a_baseOf : Nat) (a_bits : Nat) (a_pinned : Nat) (a_lengths : Nat) (a_stackArray : Nat) (a_stackOther : Nat) (a_stackAt : Nat) (a_path : Nat) (a_held : Nat) (a_alike : Nat) (a_hashes : Nat) (a_decisionArray : Nat) (a_decisionPlace : Nat) (a_candidateMany : Nat) (a_candidates : Nat) (a_ruleSort : Nat) (a_ruleArray : Nat) (a_ruleWeight : Nat) (a_ruleLow : Nat) (a_ruleHigh : Nat) (a_chosen : Nat) (a_bestOf : Nat) (a_markElements : Nat) (a_markBits : Nat) (a_markPins : Nat) (i_arrays : Int32) (i_elements : Int32) (i_code : Int32) (i_lastArray : Int32) (i_lastPlace : Int32) (i_decisions : Int32) (i_rules : Int32) (i_marks : Int32) (k : Int32) : Int32 → va_W → Prop := fun (r : Int32) (u : va_W) => r = -k ∧ u = [(h0, .inr (7, [.int i_arrays, .int i_elements, .ref a_kindOf, .ref a_depthOf, .ref a_lengthOf, .ref a_classOf, .ref a_baseOf, .ref a_bits, .ref a_pinned, .int k, .ref a_lengths, .ref a_stackArray, .ref a_stackOther, .ref a_stackAt, .int i_lastArray, .int i_lastPlace, .ref a_path, .ref a_held, .ref a_alike, .ref a_hashes, .int i_decisions, .ref a_decisionArray, .ref a_decisionPlace, .ref a_candidateMany, .ref a_candidates, .int i_rules, .ref a_ruleSort, .ref a_ruleArray, .ref a_ruleWeight, .ref a_ruleLow, .ref a_ruleHigh, .ref a_chosen, .ref a_bestOf, .int i_marks, .ref a_markElements, .ref a_markBits, .ref a_markPins]))]
set_option maxHeartbeats 4000000 in
set_option maxRecDepth 100000 in
theorem cm_fails (g : zz_G) (h0 : Nat) (a_kindOf : Nat) (a_depthOf : Nat) (a_lengthOf : Nat) (a_classOf : Nat) (a_baseOf : Nat) (a_bits : Nat) (a_pinned : Nat) (a_lengths : Nat) (a_stackArray : Nat) (a_stackOther : Nat) (a_stackAt : Nat) (a_path : Nat) (a_held : Nat) (a_alike : Nat) (a_hashes : Nat) (a_decisionArray : Nat) (a_decisionPlace : Nat) (a_candidateMany : Nat) (a_candidates : Nat) (a_ruleSort : Nat) (a_ruleArray : Nat) (a_ruleWeight : Nat) (a_ruleLow : Nat) (a_ruleHigh : Nat) (a_chosen : Nat) (a_bestOf : Nat) (a_markElements : Nat) (a_markBits : Nat) (a_markPins : Nat) (i_arrays : Int32) (i_elements : Int32) (i_code : Int32) (i_lastArray : Int32) (i_lastPlace : Int32) (i_decisions : Int32) (i_rules : Int32) (i_marks : Int32) (k : Int32) : zz_I g yX8_fails (.code yX8_fails cX8_fails 2 (some .int)) rm_cm_fails [.ref h0, .int k] [(h0, .inr (7, [.int i_arrays, .int i_elements, .ref a_kindOf, .ref a_depthOf, .ref a_lengthOf, .ref a_classOf, .ref a_baseOf, .ref a_bits, .ref a_pinned, .int i_code, .ref a_lengths, .ref a_stackArray, .ref a_stackOther, .ref a_stackAt, .int i_lastArray, .int i_lastPlace, .ref a_path, .ref a_held, .ref a_alike, .ref a_hashes, .int i_decisions, .ref a_decisionArray, .ref a_decisionPlace, .ref a_candidateMany, .ref a_candidates, .int i_rules, .ref a_ruleSort, .ref a_ruleArray, .ref a_ruleWeight, .ref a_ruleLow, .ref a_ruleHigh, .ref a_chosen, .ref a_bestOf, .int i_marks, .ref a_markElements, .ref a_markBits, .ref a_markPins]))] (po_cm_fails g h0 a_kindOf a_depthOf a_lengthOf a_classOf a_baseOf a_bits a_pinned a_lengths a_stackArray a_stackOther a_stackAt a_path a_held a_alike a_hashes a_decisionArray a_decisionPlace a_candidateMany a_candidates a_ruleSort a_ruleArray a_ruleWeight a_ruleLow a_ruleHigh a_chosen a_bestOf a_markElements a_markBits a_markPins i_arrays i_elements i_code i_lastArray i_lastPlace i_decisions i_rules i_marks k) := by
  refine zz_I.intro (own := RX8) (cc := cX8_fails) (nL := 2) (by decide) rfl (Nat.le_of_ble_eq_true rfl) ?_
  intro p l e s m args below meth c A H locs ls hC hnm hZ hl
  obtain ⟨hx, hb, hml, hown, hts, hr, hlocks, hK⟩ := id hC
  have hl : lv_has ls 2 [(0, .ref h0), (1, .int k)] := hl
  have hZ : zz_Z g A s.heap [(h0, .inr (7, [.int i_arrays, .int i_elements, .ref a_kindOf, .ref a_depthOf, .ref a_lengthOf, .ref a_classOf, .ref a_baseOf, .ref a_bits, .ref a_pinned, .int i_code, .ref a_lengths, .ref a_stackArray, .ref a_stackOther, .ref a_stackAt, .int i_lastArray, .int i_lastPlace, .ref a_path, .ref a_held, .ref a_alike, .ref a_hashes, .int i_decisions, .ref a_decisionArray, .ref a_decisionPlace, .ref a_candidateMany, .ref a_candidates, .int i_rules, .ref a_ruleSort, .ref a_ruleArray, .ref a_ruleWeight, .ref a_ruleLow, .ref a_ruleHigh, .ref a_chosen, .ref a_bestOf, .int i_marks, .ref a_markElements, .ref a_markBits, .ref a_markPins]))] H locs := hZ
  refine lv_aload_n hx hb dX8_fails_0 rfl (lv_at hl 0 rfl) ?_
  refine lv_iload_n hx hb dX8_fails_1 rfl (lv_at hl 1 rfl) ?_
  refine zz_put hC hZ 0 rfl zu_X8_99 (Nat.le_of_ble_eq_true rfl) dX8_fails_2 (fun H locs hZ => ?_)
  have hZ : zz_Z g A s.heap [(h0, .inr (7, [.int i_arrays, .int i_elements, .ref a_kindOf, .ref a_depthOf, .ref a_lengthOf, .ref a_classOf, .ref a_baseOf, .ref a_bits, .ref a_pinned, .int k, .ref a_lengths, .ref a_stackArray, .ref a_stackOther, .ref a_stackAt, .int i_lastArray, .int i_lastPlace, .ref a_path, .ref a_held, .ref a_alike, .ref a_hashes, .int i_decisions, .ref a_decisionArray, .ref a_decisionPlace, .ref a_candidateMany, .ref a_candidates, .int i_rules, .ref a_ruleSort, .ref a_ruleArray, .ref a_ruleWeight, .ref a_ruleLow, .ref a_ruleHigh, .ref a_chosen, .ref a_bestOf, .int i_marks, .ref a_markElements, .ref a_markBits, .ref a_markPins]))] H locs := hZ
  refine lv_iload_n hx hb dX8_fails_5 rfl (lv_at hl 1 rfl) ?_
  refine lv_ineg hx hb dX8_fails_6 ?_
  exact zz_iret hC hZ (⟨rfl, rfl⟩) (Nat.le_of_ble_eq_true rfl) (Nat.le_of_ble_eq_true rfl) dX8_fails_7
theorem dX8_fine_0 : decode cX8_fine 0 = .ok (.aload_n 0, 1) := by decide +kernel
theorem dX8_fine_1 : decode cX8_fine 1 = .ok (.iconst 0, 1) := by decide +kernel
theorem dX8_fine_2 : decode cX8_fine 2 = .ok (.putfield 99, 3) := by decide +kernel
theorem dX8_fine_5 : decode cX8_fine 5 = .ok (.iload_n 1, 1) := by decide +kernel
theorem dX8_fine_6 : decode cX8_fine 6 = .ok (.ireturn, 1) := by decide +kernel
abbrev rm_cm_fine : Room := { frames := 0, cells := 0, slots := 0, locals := 0 }
abbrev po_cm_fine (g : zz_G) (h0 : Nat) (a_kindOf : Nat) (a_depthOf : Nat) (a_lengthOf : Nat) (a_classOf : Nat) (a_baseOf : Nat) (a_bits : Nat) (a_pinned : Nat) (a_lengths : Nat) (a_stackArray : Nat) (a_stackOther : Nat) (a_stackAt : Nat) (a_path : Nat) (a_held : Nat) (a_alike : Nat) (a_hashes : Nat) (a_decisionArray : Nat) (a_decisionPlace : Nat) (a_candidateMany : Nat) (a_candidates : Nat) (a_ruleSort : Nat) (a_ruleArray : Nat) (a_ruleWeight : Nat) (a_ruleLow : Nat) (a_ruleHigh : Nat) (a_chosen : Nat) (a_bestOf : Nat) (a_markElements : Nat) (a_markBits : Nat) (a_markPins : Nat) (i_arrays : Int32) (i_elements : Int32) (i_code : Int32) (i_lastArray : Int32) (i_lastPlace : Int32) (i_decisions : Int32) (i_rules : Int32) (i_marks : Int32) (k : Int32) : Int32 → va_W → Prop := fun (r : Int32) (u : va_W) => r = k ∧ u = [(h0, .inr (7, [.int i_arrays, .int i_elements, .ref a_kindOf, .ref a_depthOf, .ref a_lengthOf, .ref a_classOf, .ref a_baseOf, .ref a_bits, .ref a_pinned, .int 0, .ref a_lengths, .ref a_stackArray, .ref a_stackOther, .ref a_stackAt, .int i_lastArray, .int i_lastPlace, .ref a_path, .ref a_held, .ref a_alike, .ref a_hashes, .int i_decisions, .ref a_decisionArray, .ref a_decisionPlace, .ref a_candidateMany, .ref a_candidates, .int i_rules, .ref a_ruleSort, .ref a_ruleArray, .ref a_ruleWeight, .ref a_ruleLow, .ref a_ruleHigh, .ref a_chosen, .ref a_bestOf, .int i_marks, .ref a_markElements, .ref a_markBits, .ref a_markPins]))]
set_option maxHeartbeats 4000000 in
set_option maxRecDepth 100000 in
theorem cm_fine (g : zz_G) (h0 : Nat) (a_kindOf : Nat) (a_depthOf : Nat) (a_lengthOf : Nat) (a_classOf : Nat) (a_baseOf : Nat) (a_bits : Nat) (a_pinned : Nat) (a_lengths : Nat) (a_stackArray : Nat) (a_stackOther : Nat) (a_stackAt : Nat) (a_path : Nat) (a_held : Nat) (a_alike : Nat) (a_hashes : Nat) (a_decisionArray : Nat) (a_decisionPlace : Nat) (a_candidateMany : Nat) (a_candidates : Nat) (a_ruleSort : Nat) (a_ruleArray : Nat) (a_ruleWeight : Nat) (a_ruleLow : Nat) (a_ruleHigh : Nat) (a_chosen : Nat) (a_bestOf : Nat) (a_markElements : Nat) (a_markBits : Nat) (a_markPins : Nat) (i_arrays : Int32) (i_elements : Int32) (i_code : Int32) (i_lastArray : Int32) (i_lastPlace : Int32) (i_decisions : Int32) (i_rules : Int32) (i_marks : Int32) (k : Int32) : zz_I g yX8_fine (.code yX8_fine cX8_fine 2 (some .int)) rm_cm_fine [.ref h0, .int k] [(h0, .inr (7, [.int i_arrays, .int i_elements, .ref a_kindOf, .ref a_depthOf, .ref a_lengthOf, .ref a_classOf, .ref a_baseOf, .ref a_bits, .ref a_pinned, .int i_code, .ref a_lengths, .ref a_stackArray, .ref a_stackOther, .ref a_stackAt, .int i_lastArray, .int i_lastPlace, .ref a_path, .ref a_held, .ref a_alike, .ref a_hashes, .int i_decisions, .ref a_decisionArray, .ref a_decisionPlace, .ref a_candidateMany, .ref a_candidates, .int i_rules, .ref a_ruleSort, .ref a_ruleArray, .ref a_ruleWeight, .ref a_ruleLow, .ref a_ruleHigh, .ref a_chosen, .ref a_bestOf, .int i_marks, .ref a_markElements, .ref a_markBits, .ref a_markPins]))] (po_cm_fine g h0 a_kindOf a_depthOf a_lengthOf a_classOf a_baseOf a_bits a_pinned a_lengths a_stackArray a_stackOther a_stackAt a_path a_held a_alike a_hashes a_decisionArray a_decisionPlace a_candidateMany a_candidates a_ruleSort a_ruleArray a_ruleWeight a_ruleLow a_ruleHigh a_chosen a_bestOf a_markElements a_markBits a_markPins i_arrays i_elements i_code i_lastArray i_lastPlace i_decisions i_rules i_marks k) := by
  refine zz_I.intro (own := RX8) (cc := cX8_fine) (nL := 2) (by decide) rfl (Nat.le_of_ble_eq_true rfl) ?_
  intro p l e s m args below meth c A H locs ls hC hnm hZ hl
  obtain ⟨hx, hb, hml, hown, hts, hr, hlocks, hK⟩ := id hC
  have hl : lv_has ls 2 [(0, .ref h0), (1, .int k)] := hl
  have hZ : zz_Z g A s.heap [(h0, .inr (7, [.int i_arrays, .int i_elements, .ref a_kindOf, .ref a_depthOf, .ref a_lengthOf, .ref a_classOf, .ref a_baseOf, .ref a_bits, .ref a_pinned, .int i_code, .ref a_lengths, .ref a_stackArray, .ref a_stackOther, .ref a_stackAt, .int i_lastArray, .int i_lastPlace, .ref a_path, .ref a_held, .ref a_alike, .ref a_hashes, .int i_decisions, .ref a_decisionArray, .ref a_decisionPlace, .ref a_candidateMany, .ref a_candidates, .int i_rules, .ref a_ruleSort, .ref a_ruleArray, .ref a_ruleWeight, .ref a_ruleLow, .ref a_ruleHigh, .ref a_chosen, .ref a_bestOf, .int i_marks, .ref a_markElements, .ref a_markBits, .ref a_markPins]))] H locs := hZ
  refine lv_aload_n hx hb dX8_fine_0 rfl (lv_at hl 0 rfl) ?_
  refine lv_iconst (v := 0) hx hb dX8_fine_1 (by decide) ?_
  refine zz_put hC hZ 0 rfl zu_X8_99 (Nat.le_of_ble_eq_true rfl) dX8_fine_2 (fun H locs hZ => ?_)
  have hZ : zz_Z g A s.heap [(h0, .inr (7, [.int i_arrays, .int i_elements, .ref a_kindOf, .ref a_depthOf, .ref a_lengthOf, .ref a_classOf, .ref a_baseOf, .ref a_bits, .ref a_pinned, .int 0, .ref a_lengths, .ref a_stackArray, .ref a_stackOther, .ref a_stackAt, .int i_lastArray, .int i_lastPlace, .ref a_path, .ref a_held, .ref a_alike, .ref a_hashes, .int i_decisions, .ref a_decisionArray, .ref a_decisionPlace, .ref a_candidateMany, .ref a_candidates, .int i_rules, .ref a_ruleSort, .ref a_ruleArray, .ref a_ruleWeight, .ref a_ruleLow, .ref a_ruleHigh, .ref a_chosen, .ref a_bestOf, .int i_marks, .ref a_markElements, .ref a_markBits, .ref a_markPins]))] H locs := hZ
  refine lv_iload_n hx hb dX8_fine_5 rfl (lv_at hl 1 rfl) ?_
  exact zz_iret hC hZ (⟨rfl, rfl⟩) (Nat.le_of_ble_eq_true rfl) (Nat.le_of_ble_eq_true rfl) dX8_fine_6
theorem dX8_within_0 : decode cX8_within 0 = .ok (.lload_n 0, 1) := by decide +kernel
theorem dX8_within_1 : decode cX8_within 1 = .ok (.lload_n 2, 1) := by decide +kernel
theorem dX8_within_2 : decode cX8_within 2 = .ok (.lcmp, 1) := by decide +kernel
theorem dX8_within_3 : decode cX8_within 3 = .ok (.ifCond .lt 14, 3) := by decide +kernel
theorem dX8_within_17 : decode cX8_within 17 = .ok (.iconst 0, 1) := by decide +kernel
theorem dX8_within_18 : decode cX8_within 18 = .ok (.ireturn, 1) := by decide +kernel
theorem dX8_within_6 : decode cX8_within 6 = .ok (.lload_n 0, 1) := by decide +kernel
theorem dX8_within_7 : decode cX8_within 7 = .ok (.lload 4, 2) := by decide +kernel
theorem dX8_within_9 : decode cX8_within 9 = .ok (.lcmp, 1) := by decide +kernel
theorem dX8_within_10 : decode cX8_within 10 = .ok (.ifCond .gt 7, 3) := by decide +kernel
theorem dX8_within_13 : decode cX8_within 13 = .ok (.iconst 1, 1) := by decide +kernel
theorem dX8_within_14 : decode cX8_within 14 = .ok (.goto 4, 3) := by decide +kernel
def fn_cm_within (v : Int64) (lo : Int64) (hi : Int64) : Int32 := (if v < lo then 0 else (if hi < v then 0 else 1))
abbrev rm_cm_within : Room := { frames := 0, cells := 0, slots := 0, locals := 0 }
abbrev po_cm_within (g : zz_G) (v : Int64) (lo : Int64) (hi : Int64) : Int32 → va_W → Prop := fun (r : Int32) (u : va_W) => r = fn_cm_within v lo hi ∧ u = []
set_option maxHeartbeats 4000000 in
set_option maxRecDepth 100000 in
theorem cm_within (g : zz_G) (v : Int64) (lo : Int64) (hi : Int64) : zz_I g yX8_within (.code yX8_within cX8_within 6 (some .boolean)) rm_cm_within [.long v, .long lo, .long hi] [] (po_cm_within g v lo hi) := by
  refine zz_I.intro (own := RX8) (cc := cX8_within) (nL := 6) (by decide) rfl (Nat.le_of_ble_eq_true rfl) ?_
  intro p l e s m args below meth c A H locs ls hC hnm hZ hl
  obtain ⟨hx, hb, hml, hown, hts, hr, hlocks, hK⟩ := id hC
  have hl : lv_has ls 6 [(0, .long v), (2, .long lo), (4, .long hi)] := hl
  have hZ : zz_Z g A s.heap [] H locs := hZ
  refine lv_lload_n hx hb dX8_within_0 rfl (lv_at hl 0 rfl) ?_
  refine lv_lload_n hx hb dX8_within_1 rfl (lv_at hl 1 rfl) ?_
  refine zz_lcmp_lt (tgt := 17) hC dX8_within_2 dX8_within_3 (by decide) (fun c1 => ?_) (fun c1 => ?_)
  · refine lv_iconst (v := 0) hx hb dX8_within_17 (by decide) ?_
    exact zz_zret hC hZ (by decide) (⟨by show _ = _; rw [fn_cm_within, if_pos c1], rfl⟩) (Nat.le_of_ble_eq_true rfl) (Nat.le_of_ble_eq_true rfl) dX8_within_18
  · refine lv_lload_n hx hb dX8_within_6 rfl (lv_at hl 0 rfl) ?_
    refine lv_lload hx hb dX8_within_7 (lv_at hl 2 rfl) ?_
    refine zz_lcmp_gt (tgt := 17) hC dX8_within_9 dX8_within_10 (by decide) (fun c2 => ?_) (fun c2 => ?_)
    · refine lv_iconst (v := 0) hx hb dX8_within_17 (by decide) ?_
      exact zz_zret hC hZ (by decide) (⟨by show _ = _; rw [fn_cm_within, if_neg c1, if_pos c2], rfl⟩) (Nat.le_of_ble_eq_true rfl) (Nat.le_of_ble_eq_true rfl) dX8_within_18
    · refine lv_iconst (v := 1) hx hb dX8_within_13 (by decide) ?_
      refine lv_goto (tgt := 18) hx hb dX8_within_14 (by decide) ?_
      exact zz_zret hC hZ (by decide) (⟨by show _ = _; rw [fn_cm_within, if_neg c1, if_neg c2], rfl⟩) (Nat.le_of_ble_eq_true rfl) (Nat.le_of_ble_eq_true rfl) dX8_within_18
theorem dX8_isWider_86 : decode cX8_isWider 86 = .ok (.iload_n 0, 1) := by decide +kernel
theorem dX8_isWider_87 : decode cX8_isWider 87 = .ok (.bipush 6, 2) := by decide +kernel
theorem dX8_isWider_89 : decode cX8_isWider 89 = .ok (.if_icmp .ne 13, 3) := by decide +kernel
theorem dX8_isWider_102 : decode cX8_isWider 102 = .ok (.iconst 0, 1) := by decide +kernel
theorem dX8_isWider_103 : decode cX8_isWider 103 = .ok (.ireturn, 1) := by decide +kernel
theorem dX8_isWider_92 : decode cX8_isWider 92 = .ok (.iload_n 1, 1) := by decide +kernel
theorem dX8_isWider_93 : decode cX8_isWider 93 = .ok (.bipush 7, 2) := by decide +kernel
theorem dX8_isWider_95 : decode cX8_isWider 95 = .ok (.if_icmp .ne 7, 3) := by decide +kernel
theorem dX8_isWider_98 : decode cX8_isWider 98 = .ok (.iconst 1, 1) := by decide +kernel
theorem dX8_isWider_99 : decode cX8_isWider 99 = .ok (.goto 4, 3) := by decide +kernel
theorem dX8_isWider_69 : decode cX8_isWider 69 = .ok (.iload_n 0, 1) := by decide +kernel
theorem dX8_isWider_70 : decode cX8_isWider 70 = .ok (.iconst 5, 1) := by decide +kernel
theorem dX8_isWider_71 : decode cX8_isWider 71 = .ok (.if_icmp .ne 15, 3) := by decide +kernel
theorem dX8_isWider_74 : decode cX8_isWider 74 = .ok (.iload_n 1, 1) := by decide +kernel
theorem dX8_isWider_75 : decode cX8_isWider 75 = .ok (.bipush 6, 2) := by decide +kernel
theorem dX8_isWider_77 : decode cX8_isWider 77 = .ok (.if_icmp .eq 21, 3) := by decide +kernel
theorem dX8_isWider_80 : decode cX8_isWider 80 = .ok (.iload_n 1, 1) := by decide +kernel
theorem dX8_isWider_81 : decode cX8_isWider 81 = .ok (.bipush 7, 2) := by decide +kernel
theorem dX8_isWider_83 : decode cX8_isWider 83 = .ok (.if_icmp .eq 15, 3) := by decide +kernel
theorem dX8_isWider_53 : decode cX8_isWider 53 = .ok (.iload_n 0, 1) := by decide +kernel
theorem dX8_isWider_54 : decode cX8_isWider 54 = .ok (.iconst 4, 1) := by decide +kernel
theorem dX8_isWider_55 : decode cX8_isWider 55 = .ok (.if_icmp .ne 14, 3) := by decide +kernel
theorem dX8_isWider_58 : decode cX8_isWider 58 = .ok (.iload_n 1, 1) := by decide +kernel
theorem dX8_isWider_59 : decode cX8_isWider 59 = .ok (.iconst 5, 1) := by decide +kernel
theorem dX8_isWider_60 : decode cX8_isWider 60 = .ok (.if_icmp .lt 9, 3) := by decide +kernel
theorem dX8_isWider_63 : decode cX8_isWider 63 = .ok (.iload_n 1, 1) := by decide +kernel
theorem dX8_isWider_64 : decode cX8_isWider 64 = .ok (.bipush 7, 2) := by decide +kernel
theorem dX8_isWider_66 : decode cX8_isWider 66 = .ok (.if_icmp .le 32, 3) := by decide +kernel
theorem dX8_isWider_37 : decode cX8_isWider 37 = .ok (.iload_n 0, 1) := by decide +kernel
theorem dX8_isWider_38 : decode cX8_isWider 38 = .ok (.iconst 3, 1) := by decide +kernel
theorem dX8_isWider_39 : decode cX8_isWider 39 = .ok (.if_icmp .ne 14, 3) := by decide +kernel
theorem dX8_isWider_42 : decode cX8_isWider 42 = .ok (.iload_n 1, 1) := by decide +kernel
theorem dX8_isWider_43 : decode cX8_isWider 43 = .ok (.iconst 4, 1) := by decide +kernel
theorem dX8_isWider_44 : decode cX8_isWider 44 = .ok (.if_icmp .lt 9, 3) := by decide +kernel
theorem dX8_isWider_47 : decode cX8_isWider 47 = .ok (.iload_n 1, 1) := by decide +kernel
theorem dX8_isWider_48 : decode cX8_isWider 48 = .ok (.bipush 7, 2) := by decide +kernel
theorem dX8_isWider_50 : decode cX8_isWider 50 = .ok (.if_icmp .le 48, 3) := by decide +kernel
theorem dX8_isWider_21 : decode cX8_isWider 21 = .ok (.iload_n 0, 1) := by decide +kernel
theorem dX8_isWider_22 : decode cX8_isWider 22 = .ok (.iconst 2, 1) := by decide +kernel
theorem dX8_isWider_23 : decode cX8_isWider 23 = .ok (.if_icmp .ne 14, 3) := by decide +kernel
theorem dX8_isWider_26 : decode cX8_isWider 26 = .ok (.iload_n 1, 1) := by decide +kernel
theorem dX8_isWider_27 : decode cX8_isWider 27 = .ok (.iconst 3, 1) := by decide +kernel
theorem dX8_isWider_28 : decode cX8_isWider 28 = .ok (.if_icmp .lt 9, 3) := by decide +kernel
theorem dX8_isWider_31 : decode cX8_isWider 31 = .ok (.iload_n 1, 1) := by decide +kernel
theorem dX8_isWider_32 : decode cX8_isWider 32 = .ok (.bipush 7, 2) := by decide +kernel
theorem dX8_isWider_34 : decode cX8_isWider 34 = .ok (.if_icmp .le 64, 3) := by decide +kernel
theorem dX8_isWider_0 : decode cX8_isWider 0 = .ok (.iload_n 0, 1) := by decide +kernel
theorem dX8_isWider_1 : decode cX8_isWider 1 = .ok (.iload_n 1, 1) := by decide +kernel
theorem dX8_isWider_2 : decode cX8_isWider 2 = .ok (.if_icmp .eq 96, 3) := by decide +kernel
theorem dX8_isWider_5 : decode cX8_isWider 5 = .ok (.iload_n 0, 1) := by decide +kernel
theorem dX8_isWider_6 : decode cX8_isWider 6 = .ok (.iconst 1, 1) := by decide +kernel
theorem dX8_isWider_7 : decode cX8_isWider 7 = .ok (.if_icmp .ne 14, 3) := by decide +kernel
theorem dX8_isWider_10 : decode cX8_isWider 10 = .ok (.iload_n 1, 1) := by decide +kernel
theorem dX8_isWider_11 : decode cX8_isWider 11 = .ok (.iconst 4, 1) := by decide +kernel
theorem dX8_isWider_12 : decode cX8_isWider 12 = .ok (.if_icmp .lt 9, 3) := by decide +kernel
theorem dX8_isWider_15 : decode cX8_isWider 15 = .ok (.iload_n 1, 1) := by decide +kernel
theorem dX8_isWider_16 : decode cX8_isWider 16 = .ok (.bipush 7, 2) := by decide +kernel
theorem dX8_isWider_18 : decode cX8_isWider 18 = .ok (.if_icmp .le 80, 3) := by decide +kernel
def fn_cm_isWider_86 (k : Int32) (j : Int32) : Int32 := (if k = 6 then (if j = 7 then 1 else 0) else 0)
def fn_cm_isWider_69 (k : Int32) (j : Int32) : Int32 := (if k = 5 then (if j = 6 then 1 else (if j = 7 then 1 else (fn_cm_isWider_86 k j))) else (fn_cm_isWider_86 k j))
def fn_cm_isWider_53 (k : Int32) (j : Int32) : Int32 := (if k = 4 then (if j < 5 then (fn_cm_isWider_69 k j) else (if j ≤ 7 then 1 else (fn_cm_isWider_69 k j))) else (fn_cm_isWider_69 k j))
def fn_cm_isWider_37 (k : Int32) (j : Int32) : Int32 := (if k = 3 then (if j < 4 then (fn_cm_isWider_53 k j) else (if j ≤ 7 then 1 else (fn_cm_isWider_53 k j))) else (fn_cm_isWider_53 k j))
def fn_cm_isWider_21 (k : Int32) (j : Int32) : Int32 := (if k = 2 then (if j < 3 then (fn_cm_isWider_37 k j) else (if j ≤ 7 then 1 else (fn_cm_isWider_37 k j))) else (fn_cm_isWider_37 k j))
def fn_cm_isWider (k : Int32) (j : Int32) : Int32 := (if k = j then 1 else (if k = 1 then (if j < 4 then (fn_cm_isWider_21 k j) else (if j ≤ 7 then 1 else (fn_cm_isWider_21 k j))) else (fn_cm_isWider_21 k j)))
abbrev rm_cm_isWider : Room := { frames := 0, cells := 0, slots := 0, locals := 0 }
abbrev po_cm_isWider (g : zz_G) (k : Int32) (j : Int32) : Int32 → va_W → Prop := fun (r : Int32) (u : va_W) => r = fn_cm_isWider k j ∧ u = []
set_option maxHeartbeats 4000000 in
set_option maxRecDepth 100000 in
theorem cm_isWider (g : zz_G) (k : Int32) (j : Int32) : zz_I g yX8_isWider (.code yX8_isWider cX8_isWider 2 (some .boolean)) rm_cm_isWider [.int k, .int j] [] (po_cm_isWider g k j) := by
  refine zz_I.intro (own := RX8) (cc := cX8_isWider) (nL := 2) (by decide) rfl (Nat.le_of_ble_eq_true rfl) ?_
  intro p l e s m args below meth c A H locs ls hC hnm hZ hl
  obtain ⟨hx, hb, hml, hown, hts, hr, hlocks, hK⟩ := id hC
  have hl : lv_has ls 2 [(0, .int k), (1, .int j)] := hl
  have hZ : zz_Z g A s.heap [] H locs := hZ
  have J86 : fn_cm_isWider k j = fn_cm_isWider_86 k j → W p l e rm_cm_isWider s m args below meth c H locs 0 0 (zz_QI below g args s A rm_cm_isWider.cells rm_cm_isWider.slots (po_cm_isWider g k j)) (F0 m 86 ls []) := by
    intro e86
    refine lv_iload_n hx hb dX8_isWider_86 rfl (lv_at hl 0 rfl) ?_
    refine lv_bipush (v := 6) hx hb dX8_isWider_87 (by decide) ?_
    refine lv_icmp_ne (tgt := 102) hx hb dX8_isWider_89 (by decide) (fun c1 => ?_) (fun c1 => ?_)
    · refine lv_iconst (v := 0) hx hb dX8_isWider_102 (by decide) ?_
      exact zz_zret hC hZ (by decide) (⟨by show _ = _; rw [e86, fn_cm_isWider_86, if_neg c1], rfl⟩) (Nat.le_of_ble_eq_true rfl) (Nat.le_of_ble_eq_true rfl) dX8_isWider_103
    · refine lv_iload_n hx hb dX8_isWider_92 rfl (lv_at hl 1 rfl) ?_
      refine lv_bipush (v := 7) hx hb dX8_isWider_93 (by decide) ?_
      refine lv_icmp_ne (tgt := 102) hx hb dX8_isWider_95 (by decide) (fun c2 => ?_) (fun c2 => ?_)
      · refine lv_iconst (v := 0) hx hb dX8_isWider_102 (by decide) ?_
        exact zz_zret hC hZ (by decide) (⟨by show _ = _; rw [e86, fn_cm_isWider_86, if_pos c1, if_neg c2], rfl⟩) (Nat.le_of_ble_eq_true rfl) (Nat.le_of_ble_eq_true rfl) dX8_isWider_103
      · refine lv_iconst (v := 1) hx hb dX8_isWider_98 (by decide) ?_
        refine lv_goto (tgt := 103) hx hb dX8_isWider_99 (by decide) ?_
        exact zz_zret hC hZ (by decide) (⟨by show _ = _; rw [e86, fn_cm_isWider_86, if_pos c1, if_pos c2], rfl⟩) (Nat.le_of_ble_eq_true rfl) (Nat.le_of_ble_eq_true rfl) dX8_isWider_103
  have J69 : fn_cm_isWider k j = fn_cm_isWider_69 k j → W p l e rm_cm_isWider s m args below meth c H locs 0 0 (zz_QI below g args s A rm_cm_isWider.cells rm_cm_isWider.slots (po_cm_isWider g k j)) (F0 m 69 ls []) := by
    intro e69
    refine lv_iload_n hx hb dX8_isWider_69 rfl (lv_at hl 0 rfl) ?_
    refine lv_iconst (v := 5) hx hb dX8_isWider_70 (by decide) ?_
    refine lv_icmp_ne (tgt := 86) hx hb dX8_isWider_71 (by decide) (fun c3 => ?_) (fun c3 => ?_)
    · exact J86 (by rw [e69, fn_cm_isWider_69, if_neg c3])
    · refine lv_iload_n hx hb dX8_isWider_74 rfl (lv_at hl 1 rfl) ?_
      refine lv_bipush (v := 6) hx hb dX8_isWider_75 (by decide) ?_
      refine lv_icmp_eq (tgt := 98) hx hb dX8_isWider_77 (by decide) (fun c4 => ?_) (fun c4 => ?_)
      · refine lv_iconst (v := 1) hx hb dX8_isWider_98 (by decide) ?_
        refine lv_goto (tgt := 103) hx hb dX8_isWider_99 (by decide) ?_
        exact zz_zret hC hZ (by decide) (⟨by show _ = _; rw [e69, fn_cm_isWider_69, if_pos c3, if_pos c4], rfl⟩) (Nat.le_of_ble_eq_true rfl) (Nat.le_of_ble_eq_true rfl) dX8_isWider_103
      · refine lv_iload_n hx hb dX8_isWider_80 rfl (lv_at hl 1 rfl) ?_
        refine lv_bipush (v := 7) hx hb dX8_isWider_81 (by decide) ?_
        refine lv_icmp_eq (tgt := 98) hx hb dX8_isWider_83 (by decide) (fun c5 => ?_) (fun c5 => ?_)
        · refine lv_iconst (v := 1) hx hb dX8_isWider_98 (by decide) ?_
          refine lv_goto (tgt := 103) hx hb dX8_isWider_99 (by decide) ?_
          exact zz_zret hC hZ (by decide) (⟨by show _ = _; rw [e69, fn_cm_isWider_69, if_pos c3, if_neg c4, if_pos c5], rfl⟩) (Nat.le_of_ble_eq_true rfl) (Nat.le_of_ble_eq_true rfl) dX8_isWider_103
        · exact J86 (by rw [e69, fn_cm_isWider_69, if_pos c3, if_neg c4, if_neg c5])
  have J53 : fn_cm_isWider k j = fn_cm_isWider_53 k j → W p l e rm_cm_isWider s m args below meth c H locs 0 0 (zz_QI below g args s A rm_cm_isWider.cells rm_cm_isWider.slots (po_cm_isWider g k j)) (F0 m 53 ls []) := by
    intro e53
    refine lv_iload_n hx hb dX8_isWider_53 rfl (lv_at hl 0 rfl) ?_
    refine lv_iconst (v := 4) hx hb dX8_isWider_54 (by decide) ?_
    refine lv_icmp_ne (tgt := 69) hx hb dX8_isWider_55 (by decide) (fun c6 => ?_) (fun c6 => ?_)
    · exact J69 (by rw [e53, fn_cm_isWider_53, if_neg c6])
    · refine lv_iload_n hx hb dX8_isWider_58 rfl (lv_at hl 1 rfl) ?_
      refine lv_iconst (v := 5) hx hb dX8_isWider_59 (by decide) ?_
      refine lv_icmp_lt (tgt := 69) hx hb dX8_isWider_60 (by decide) (fun c7 => ?_) (fun c7 => ?_)
      · exact J69 (by rw [e53, fn_cm_isWider_53, if_pos c6, if_pos c7])
      · refine lv_iload_n hx hb dX8_isWider_63 rfl (lv_at hl 1 rfl) ?_
        refine lv_bipush (v := 7) hx hb dX8_isWider_64 (by decide) ?_
        refine lv_icmp_le (tgt := 98) hx hb dX8_isWider_66 (by decide) (fun c8 => ?_) (fun c8 => ?_)
        · refine lv_iconst (v := 1) hx hb dX8_isWider_98 (by decide) ?_
          refine lv_goto (tgt := 103) hx hb dX8_isWider_99 (by decide) ?_
          exact zz_zret hC hZ (by decide) (⟨by show _ = _; rw [e53, fn_cm_isWider_53, if_pos c6, if_neg c7, if_pos c8], rfl⟩) (Nat.le_of_ble_eq_true rfl) (Nat.le_of_ble_eq_true rfl) dX8_isWider_103
        · exact J69 (by rw [e53, fn_cm_isWider_53, if_pos c6, if_neg c7, if_neg c8])
  have J37 : fn_cm_isWider k j = fn_cm_isWider_37 k j → W p l e rm_cm_isWider s m args below meth c H locs 0 0 (zz_QI below g args s A rm_cm_isWider.cells rm_cm_isWider.slots (po_cm_isWider g k j)) (F0 m 37 ls []) := by
    intro e37
    refine lv_iload_n hx hb dX8_isWider_37 rfl (lv_at hl 0 rfl) ?_
    refine lv_iconst (v := 3) hx hb dX8_isWider_38 (by decide) ?_
    refine lv_icmp_ne (tgt := 53) hx hb dX8_isWider_39 (by decide) (fun c9 => ?_) (fun c9 => ?_)
    · exact J53 (by rw [e37, fn_cm_isWider_37, if_neg c9])
    · refine lv_iload_n hx hb dX8_isWider_42 rfl (lv_at hl 1 rfl) ?_
      refine lv_iconst (v := 4) hx hb dX8_isWider_43 (by decide) ?_
      refine lv_icmp_lt (tgt := 53) hx hb dX8_isWider_44 (by decide) (fun c10 => ?_) (fun c10 => ?_)
      · exact J53 (by rw [e37, fn_cm_isWider_37, if_pos c9, if_pos c10])
      · refine lv_iload_n hx hb dX8_isWider_47 rfl (lv_at hl 1 rfl) ?_
        refine lv_bipush (v := 7) hx hb dX8_isWider_48 (by decide) ?_
        refine lv_icmp_le (tgt := 98) hx hb dX8_isWider_50 (by decide) (fun c11 => ?_) (fun c11 => ?_)
        · refine lv_iconst (v := 1) hx hb dX8_isWider_98 (by decide) ?_
          refine lv_goto (tgt := 103) hx hb dX8_isWider_99 (by decide) ?_
          exact zz_zret hC hZ (by decide) (⟨by show _ = _; rw [e37, fn_cm_isWider_37, if_pos c9, if_neg c10, if_pos c11], rfl⟩) (Nat.le_of_ble_eq_true rfl) (Nat.le_of_ble_eq_true rfl) dX8_isWider_103
        · exact J53 (by rw [e37, fn_cm_isWider_37, if_pos c9, if_neg c10, if_neg c11])
  have J21 : fn_cm_isWider k j = fn_cm_isWider_21 k j → W p l e rm_cm_isWider s m args below meth c H locs 0 0 (zz_QI below g args s A rm_cm_isWider.cells rm_cm_isWider.slots (po_cm_isWider g k j)) (F0 m 21 ls []) := by
    intro e21
    refine lv_iload_n hx hb dX8_isWider_21 rfl (lv_at hl 0 rfl) ?_
    refine lv_iconst (v := 2) hx hb dX8_isWider_22 (by decide) ?_
    refine lv_icmp_ne (tgt := 37) hx hb dX8_isWider_23 (by decide) (fun c12 => ?_) (fun c12 => ?_)
    · exact J37 (by rw [e21, fn_cm_isWider_21, if_neg c12])
    · refine lv_iload_n hx hb dX8_isWider_26 rfl (lv_at hl 1 rfl) ?_
      refine lv_iconst (v := 3) hx hb dX8_isWider_27 (by decide) ?_
      refine lv_icmp_lt (tgt := 37) hx hb dX8_isWider_28 (by decide) (fun c13 => ?_) (fun c13 => ?_)
      · exact J37 (by rw [e21, fn_cm_isWider_21, if_pos c12, if_pos c13])
      · refine lv_iload_n hx hb dX8_isWider_31 rfl (lv_at hl 1 rfl) ?_
        refine lv_bipush (v := 7) hx hb dX8_isWider_32 (by decide) ?_
        refine lv_icmp_le (tgt := 98) hx hb dX8_isWider_34 (by decide) (fun c14 => ?_) (fun c14 => ?_)
        · refine lv_iconst (v := 1) hx hb dX8_isWider_98 (by decide) ?_
          refine lv_goto (tgt := 103) hx hb dX8_isWider_99 (by decide) ?_
          exact zz_zret hC hZ (by decide) (⟨by show _ = _; rw [e21, fn_cm_isWider_21, if_pos c12, if_neg c13, if_pos c14], rfl⟩) (Nat.le_of_ble_eq_true rfl) (Nat.le_of_ble_eq_true rfl) dX8_isWider_103
        · exact J37 (by rw [e21, fn_cm_isWider_21, if_pos c12, if_neg c13, if_neg c14])
  refine lv_iload_n hx hb dX8_isWider_0 rfl (lv_at hl 0 rfl) ?_
  refine lv_iload_n hx hb dX8_isWider_1 rfl (lv_at hl 1 rfl) ?_
  refine lv_icmp_eq (tgt := 98) hx hb dX8_isWider_2 (by decide) (fun c15 => ?_) (fun c15 => ?_)
  · refine lv_iconst (v := 1) hx hb dX8_isWider_98 (by decide) ?_
    refine lv_goto (tgt := 103) hx hb dX8_isWider_99 (by decide) ?_
    exact zz_zret hC hZ (by decide) (⟨by show _ = _; rw [fn_cm_isWider, if_pos c15], rfl⟩) (Nat.le_of_ble_eq_true rfl) (Nat.le_of_ble_eq_true rfl) dX8_isWider_103
  · refine lv_iload_n hx hb dX8_isWider_5 rfl (lv_at hl 0 rfl) ?_
    refine lv_iconst (v := 1) hx hb dX8_isWider_6 (by decide) ?_
    refine lv_icmp_ne (tgt := 21) hx hb dX8_isWider_7 (by decide) (fun c16 => ?_) (fun c16 => ?_)
    · exact J21 (by rw [fn_cm_isWider, if_neg c15, if_neg c16])
    · refine lv_iload_n hx hb dX8_isWider_10 rfl (lv_at hl 1 rfl) ?_
      refine lv_iconst (v := 4) hx hb dX8_isWider_11 (by decide) ?_
      refine lv_icmp_lt (tgt := 21) hx hb dX8_isWider_12 (by decide) (fun c17 => ?_) (fun c17 => ?_)
      · exact J21 (by rw [fn_cm_isWider, if_neg c15, if_pos c16, if_pos c17])
      · refine lv_iload_n hx hb dX8_isWider_15 rfl (lv_at hl 1 rfl) ?_
        refine lv_bipush (v := 7) hx hb dX8_isWider_16 (by decide) ?_
        refine lv_icmp_le (tgt := 98) hx hb dX8_isWider_18 (by decide) (fun c18 => ?_) (fun c18 => ?_)
        · refine lv_iconst (v := 1) hx hb dX8_isWider_98 (by decide) ?_
          refine lv_goto (tgt := 103) hx hb dX8_isWider_99 (by decide) ?_
          exact zz_zret hC hZ (by decide) (⟨by show _ = _; rw [fn_cm_isWider, if_neg c15, if_pos c16, if_neg c17, if_pos c18], rfl⟩) (Nat.le_of_ble_eq_true rfl) (Nat.le_of_ble_eq_true rfl) dX8_isWider_103
        · exact J21 (by rw [fn_cm_isWider, if_neg c15, if_pos c16, if_neg c17, if_neg c18])
theorem dX8_isRoom_0 : decode cX8_isRoom 0 = .ok (.aload_n 0, 1) := by decide +kernel
theorem dX8_isRoom_1 : decode cX8_isRoom 1 = .ok (.getfield 103, 3) := by decide +kernel
theorem zk_735 : Cond.fieldLink RX8 103 RX8 "arrays" "I" ∈ zz_w := zz_in (List.mem_append_right _ (List.mem_append_right _ (List.mem_append_right _ (List.mem_append_right _ (List.mem_append_left _ (List.mem_of_getElem? (i := 15) (by decide +kernel))))))) rfl
theorem zf_X8_103 : zz_f RX8 103 7 0 := ⟨RX8, TX8, 37, rfl, zi_X8, by decide, zk_735⟩
theorem dX8_isRoom_4 : decode cX8_isRoom 4 = .ok (.iload_n 1, 1) := by decide +kernel
theorem dX8_isRoom_5 : decode cX8_isRoom 5 = .ok (.iadd, 1) := by decide +kernel
theorem dX8_isRoom_6 : decode cX8_isRoom 6 = .ok (.bipush 60, 2) := by decide +kernel
theorem dX8_isRoom_8 : decode cX8_isRoom 8 = .ok (.if_icmp .gt 21, 3) := by decide +kernel
theorem dX8_isRoom_29 : decode cX8_isRoom 29 = .ok (.iconst 0, 1) := by decide +kernel
theorem dX8_isRoom_30 : decode cX8_isRoom 30 = .ok (.ireturn, 1) := by decide +kernel
theorem dX8_isRoom_11 : decode cX8_isRoom 11 = .ok (.aload_n 0, 1) := by decide +kernel
theorem dX8_isRoom_12 : decode cX8_isRoom 12 = .ok (.getfield 186, 3) := by decide +kernel
theorem zk_736 : Cond.fieldLink RX8 186 RX8 "elements" "I" ∈ zz_w := zz_in (List.mem_append_right _ (List.mem_append_right _ (List.mem_append_right _ (List.mem_append_right _ (List.mem_append_left _ (List.mem_of_getElem? (i := 16) (by decide +kernel))))))) rfl
theorem zf_X8_186 : zz_f RX8 186 7 1 := ⟨RX8, TX8, 37, rfl, zi_X8, by decide, zk_736⟩
theorem dX8_isRoom_15 : decode cX8_isRoom 15 = .ok (.i2l, 1) := by decide +kernel
theorem dX8_isRoom_16 : decode cX8_isRoom 16 = .ok (.lload_n 2, 1) := by decide +kernel
theorem dX8_isRoom_17 : decode cX8_isRoom 17 = .ok (.ladd, 1) := by decide +kernel
theorem dX8_isRoom_18 : decode cX8_isRoom 18 = .ok (.ldc2_w 189, 3) := by decide +kernel
theorem zk_878 : Cond.constantLong RX8 189 (4000) ∈ zz_w := zz_in (List.mem_append_right _ (List.mem_append_right _ (List.mem_append_right _ (List.mem_append_right _ (List.mem_append_left _ (List.mem_of_getElem? (i := 158) (by decide +kernel))))))) rfl
theorem dX8_isRoom_21 : decode cX8_isRoom 21 = .ok (.lcmp, 1) := by decide +kernel
theorem dX8_isRoom_22 : decode cX8_isRoom 22 = .ok (.ifCond .gt 7, 3) := by decide +kernel
theorem dX8_isRoom_25 : decode cX8_isRoom 25 = .ok (.iconst 1, 1) := by decide +kernel
theorem dX8_isRoom_26 : decode cX8_isRoom 26 = .ok (.goto 4, 3) := by decide +kernel
def fn_cm_isRoom (i_arrays : Int32) (i_elements : Int32) (k : Int32) (n : Int64) : Int32 := (if 60 < (i_arrays + k) then 0 else (if 4000 < (i_elements.toInt64 + n) then 0 else 1))
abbrev rm_cm_isRoom : Room := { frames := 0, cells := 0, slots := 0, locals := 0 }
abbrev po_cm_isRoom (g : zz_G) (h0 : Nat) (a_kindOf : Nat) (a_depthOf : Nat) (a_lengthOf : Nat) (a_classOf : Nat) (a_baseOf : Nat) (a_bits : Nat) (a_pinned : Nat) (a_lengths : Nat) (a_stackArray : Nat) (a_stackOther : Nat) (a_stackAt : Nat) (a_path : Nat) (a_held : Nat) (a_alike : Nat) (a_hashes : Nat) (a_decisionArray : Nat) (a_decisionPlace : Nat) (a_candidateMany : Nat) (a_candidates : Nat) (a_ruleSort : Nat) (a_ruleArray : Nat) (a_ruleWeight : Nat) (a_ruleLow : Nat) (a_ruleHigh : Nat) (a_chosen : Nat) (a_bestOf : Nat) (a_markElements : Nat) (a_markBits : Nat) (a_markPins : Nat) (i_arrays : Int32) (i_elements : Int32) (i_code : Int32) (i_lastArray : Int32) (i_lastPlace : Int32) (i_decisions : Int32) (i_rules : Int32) (i_marks : Int32) (k : Int32) (n : Int64) : Int32 → va_W → Prop := fun (r : Int32) (u : va_W) => r = fn_cm_isRoom i_arrays i_elements k n ∧ u = [(h0, .inr (7, [.int i_arrays, .int i_elements, .ref a_kindOf, .ref a_depthOf, .ref a_lengthOf, .ref a_classOf, .ref a_baseOf, .ref a_bits, .ref a_pinned, .int i_code, .ref a_lengths, .ref a_stackArray, .ref a_stackOther, .ref a_stackAt, .int i_lastArray, .int i_lastPlace, .ref a_path, .ref a_held, .ref a_alike, .ref a_hashes, .int i_decisions, .ref a_decisionArray, .ref a_decisionPlace, .ref a_candidateMany, .ref a_candidates, .int i_rules, .ref a_ruleSort, .ref a_ruleArray, .ref a_ruleWeight, .ref a_ruleLow, .ref a_ruleHigh, .ref a_chosen, .ref a_bestOf, .int i_marks, .ref a_markElements, .ref a_markBits, .ref a_markPins]))]
set_option maxHeartbeats 4000000 in
set_option maxRecDepth 100000 in
theorem cm_isRoom (g : zz_G) (h0 : Nat) (a_kindOf : Nat) (a_depthOf : Nat) (a_lengthOf : Nat) (a_classOf : Nat) (a_baseOf : Nat) (a_bits : Nat) (a_pinned : Nat) (a_lengths : Nat) (a_stackArray : Nat) (a_stackOther : Nat) (a_stackAt : Nat) (a_path : Nat) (a_held : Nat) (a_alike : Nat) (a_hashes : Nat) (a_decisionArray : Nat) (a_decisionPlace : Nat) (a_candidateMany : Nat) (a_candidates : Nat) (a_ruleSort : Nat) (a_ruleArray : Nat) (a_ruleWeight : Nat) (a_ruleLow : Nat) (a_ruleHigh : Nat) (a_chosen : Nat) (a_bestOf : Nat) (a_markElements : Nat) (a_markBits : Nat) (a_markPins : Nat) (i_arrays : Int32) (i_elements : Int32) (i_code : Int32) (i_lastArray : Int32) (i_lastPlace : Int32) (i_decisions : Int32) (i_rules : Int32) (i_marks : Int32) (k : Int32) (n : Int64) : zz_I g yX8_isRoom (.code yX8_isRoom cX8_isRoom 4 (some .boolean)) rm_cm_isRoom [.ref h0, .int k, .long n] [(h0, .inr (7, [.int i_arrays, .int i_elements, .ref a_kindOf, .ref a_depthOf, .ref a_lengthOf, .ref a_classOf, .ref a_baseOf, .ref a_bits, .ref a_pinned, .int i_code, .ref a_lengths, .ref a_stackArray, .ref a_stackOther, .ref a_stackAt, .int i_lastArray, .int i_lastPlace, .ref a_path, .ref a_held, .ref a_alike, .ref a_hashes, .int i_decisions, .ref a_decisionArray, .ref a_decisionPlace, .ref a_candidateMany, .ref a_candidates, .int i_rules, .ref a_ruleSort, .ref a_ruleArray, .ref a_ruleWeight, .ref a_ruleLow, .ref a_ruleHigh, .ref a_chosen, .ref a_bestOf, .int i_marks, .ref a_markElements, .ref a_markBits, .ref a_markPins]))] (po_cm_isRoom g h0 a_kindOf a_depthOf a_lengthOf a_classOf a_baseOf a_bits a_pinned a_lengths a_stackArray a_stackOther a_stackAt a_path a_held a_alike a_hashes a_decisionArray a_decisionPlace a_candidateMany a_candidates a_ruleSort a_ruleArray a_ruleWeight a_ruleLow a_ruleHigh a_chosen a_bestOf a_markElements a_markBits a_markPins i_arrays i_elements i_code i_lastArray i_lastPlace i_decisions i_rules i_marks k n) := by
  refine zz_I.intro (own := RX8) (cc := cX8_isRoom) (nL := 4) (by decide) rfl (Nat.le_of_ble_eq_true rfl) ?_
  intro p l e s m args below meth c A H locs ls hC hnm hZ hl
  obtain ⟨hx, hb, hml, hown, hts, hr, hlocks, hK⟩ := id hC
  have hl : lv_has ls 4 [(0, .ref h0), (1, .int k), (2, .long n)] := hl
  have hZ : zz_Z g A s.heap [(h0, .inr (7, [.int i_arrays, .int i_elements, .ref a_kindOf, .ref a_depthOf, .ref a_lengthOf, .ref a_classOf, .ref a_baseOf, .ref a_bits, .ref a_pinned, .int i_code, .ref a_lengths, .ref a_stackArray, .ref a_stackOther, .ref a_stackAt, .int i_lastArray, .int i_lastPlace, .ref a_path, .ref a_held, .ref a_alike, .ref a_hashes, .int i_decisions, .ref a_decisionArray, .ref a_decisionPlace, .ref a_candidateMany, .ref a_candidates, .int i_rules, .ref a_ruleSort, .ref a_ruleArray, .ref a_ruleWeight, .ref a_ruleLow, .ref a_ruleHigh, .ref a_chosen, .ref a_bestOf, .int i_marks, .ref a_markElements, .ref a_markBits, .ref a_markPins]))] H locs := hZ
  refine lv_aload_n hx hb dX8_isRoom_0 rfl (lv_at hl 0 rfl) ?_
  refine zz_get hC hZ 0 rfl zf_X8_103 rfl dX8_isRoom_1 ?_
  refine lv_iload_n hx hb dX8_isRoom_4 rfl (lv_at hl 1 rfl) ?_
  refine lv_iadd hx hb dX8_isRoom_5 ?_
  refine lv_bipush (v := 60) hx hb dX8_isRoom_6 (by decide) ?_
  refine lv_icmp_gt (tgt := 29) hx hb dX8_isRoom_8 (by decide) (fun c1 => ?_) (fun c1 => ?_)
  · refine lv_iconst (v := 0) hx hb dX8_isRoom_29 (by decide) ?_
    exact zz_zret hC hZ (by decide) (⟨by show _ = _; rw [fn_cm_isRoom, if_pos c1], rfl⟩) (Nat.le_of_ble_eq_true rfl) (Nat.le_of_ble_eq_true rfl) dX8_isRoom_30
  · refine lv_aload_n hx hb dX8_isRoom_11 rfl (lv_at hl 0 rfl) ?_
    refine zz_get hC hZ 0 rfl zf_X8_186 rfl dX8_isRoom_12 ?_
    refine lv_i2l hx hb dX8_isRoom_15 rfl ?_
    refine lv_lload_n hx hb dX8_isRoom_16 rfl (lv_at hl 2 rfl) ?_
    refine lv_ladd hx hb dX8_isRoom_17 ?_
    refine lv_ldc2 hx hb hown (hts _ zk_878) dX8_isRoom_18 ?_
    refine zz_lcmp_gt (tgt := 29) hC dX8_isRoom_21 dX8_isRoom_22 (by decide) (fun c2 => ?_) (fun c2 => ?_)
    · refine lv_iconst (v := 0) hx hb dX8_isRoom_29 (by decide) ?_
      exact zz_zret hC hZ (by decide) (⟨by show _ = _; rw [fn_cm_isRoom, if_neg c1, if_pos c2], rfl⟩) (Nat.le_of_ble_eq_true rfl) (Nat.le_of_ble_eq_true rfl) dX8_isRoom_30
    · refine lv_iconst (v := 1) hx hb dX8_isRoom_25 (by decide) ?_
      refine lv_goto (tgt := 30) hx hb dX8_isRoom_26 (by decide) ?_
      exact zz_zret hC hZ (by decide) (⟨by show _ = _; rw [fn_cm_isRoom, if_neg c1, if_neg c2], rfl⟩) (Nat.le_of_ble_eq_true rfl) (Nat.le_of_ble_eq_true rfl) dX8_isRoom_30
theorem zl_b01 {x : Int32} (h : x = 0 ∨ x = 1) : narrow .boolean (.int x) = .int x := by
  rcases h with rfl | rfl <;> rfl
theorem zl_within01 (v lo hi : Int64) : fn_cm_within v lo hi = 0 ∨ fn_cm_within v lo hi = 1 := by
  unfold fn_cm_within; split
  · exact Or.inl rfl
  · split
    · exact Or.inl rfl
    · exact Or.inr rfl
theorem zl_none (v : Int64) : fn_cm_within v 0 (-1) = 0 := by
  unfold fn_cm_within
  split
  · rfl
  · rename_i h
    rw [if_pos]
    rw [Int64.lt_iff_toInt_lt] at h ⊢
    have e0 : (0 : Int64).toInt = 0 := by decide
    have e1 : (-1 : Int64).toInt = -1 := by decide
    omega
theorem dX8_isArray_0 : decode cX8_isArray 0 = .ok (.iload_n 1, 1) := by decide +kernel
theorem dX8_isArray_1 : decode cX8_isArray 1 = .ok (.i2l, 1) := by decide +kernel
theorem dX8_isArray_2 : decode cX8_isArray 2 = .ok (.lconst 0, 1) := by decide +kernel
theorem dX8_isArray_3 : decode cX8_isArray 3 = .ok (.aload_n 0, 1) := by decide +kernel
theorem dX8_isArray_4 : decode cX8_isArray 4 = .ok (.getfield 103, 3) := by decide +kernel
theorem dX8_isArray_7 : decode cX8_isArray 7 = .ok (.iconst 1, 1) := by decide +kernel
theorem dX8_isArray_8 : decode cX8_isArray 8 = .ok (.isub, 1) := by decide +kernel
theorem dX8_isArray_9 : decode cX8_isArray 9 = .ok (.i2l, 1) := by decide +kernel
theorem dX8_isArray_10 : decode cX8_isArray 10 = .ok (.invokestatic 106, 3) := by decide +kernel
theorem zk_852 : Cond.methodLink RX8 106 yX8_within ∈ zz_w := zz_in (List.mem_append_right _ (List.mem_append_right _ (List.mem_append_right _ (List.mem_append_right _ (List.mem_append_left _ (List.mem_of_getElem? (i := 132) (by decide +kernel))))))) rfl
set_option maxRecDepth 20000 in
theorem zk_854 : Cond.code yX8_within cX8_within 6 (some .boolean) ∈ zz_w := zz_in (List.mem_append_right _ (List.mem_append_right _ (List.mem_append_right _ (List.mem_append_right _ (List.mem_append_left _ (List.mem_of_getElem? (i := 134) (rfl))))))) rfl
theorem zk_7 : Cond.initialized RX8 ∈ zz_w := zz_in (List.mem_append_right _ (List.mem_append_left _ (List.mem_of_getElem? (i := 7) (by decide +kernel)))) rfl
theorem zk_853 : Cond.static yX8_within ∈ zz_w := zz_in (List.mem_append_right _ (List.mem_append_right _ (List.mem_append_right _ (List.mem_append_right _ (List.mem_append_left _ (List.mem_of_getElem? (i := 133) (by decide +kernel))))))) rfl
theorem zc_X8_106 : zz_cS RX8 106 yX8_within cX8_within 6 (some .boolean) 3 := ⟨⟨zk_852, zk_854, zk_7, by decide, by decide, by decide +kernel⟩, zk_853⟩
theorem dX8_isArray_13 : decode cX8_isArray 13 = .ok (.ireturn, 1) := by decide +kernel
abbrev rm_cm_isArray0 : Room := { frames := 1, cells := 0, slots := 0, locals := 25 }
abbrev po_cm_isArray0 (g : zz_G) (h0 : Nat) (a_kindOf : Nat) (a_depthOf : Nat) (a_lengthOf : Nat) (a_classOf : Nat) (a_baseOf : Nat) (a_bits : Nat) (a_pinned : Nat) (a_lengths : Nat) (a_stackArray : Nat) (a_stackOther : Nat) (a_stackAt : Nat) (a_path : Nat) (a_held : Nat) (a_alike : Nat) (a_hashes : Nat) (a_decisionArray : Nat) (a_decisionPlace : Nat) (a_candidateMany : Nat) (a_candidates : Nat) (a_ruleSort : Nat) (a_ruleArray : Nat) (a_ruleWeight : Nat) (a_ruleLow : Nat) (a_ruleHigh : Nat) (a_chosen : Nat) (a_bestOf : Nat) (a_markElements : Nat) (a_markBits : Nat) (a_markPins : Nat) (i_elements : Int32) (i_code : Int32) (i_lastArray : Int32) (i_lastPlace : Int32) (i_decisions : Int32) (i_rules : Int32) (i_marks : Int32) (k : Int32) : Int32 → va_W → Prop := fun (r : Int32) (u : va_W) => r = 0 ∧ u = [(h0, .inr (7, [.int 0, .int i_elements, .ref a_kindOf, .ref a_depthOf, .ref a_lengthOf, .ref a_classOf, .ref a_baseOf, .ref a_bits, .ref a_pinned, .int i_code, .ref a_lengths, .ref a_stackArray, .ref a_stackOther, .ref a_stackAt, .int i_lastArray, .int i_lastPlace, .ref a_path, .ref a_held, .ref a_alike, .ref a_hashes, .int i_decisions, .ref a_decisionArray, .ref a_decisionPlace, .ref a_candidateMany, .ref a_candidates, .int i_rules, .ref a_ruleSort, .ref a_ruleArray, .ref a_ruleWeight, .ref a_ruleLow, .ref a_ruleHigh, .ref a_chosen, .ref a_bestOf, .int i_marks, .ref a_markElements, .ref a_markBits, .ref a_markPins]))]
set_option maxHeartbeats 4000000 in
set_option maxRecDepth 100000 in
theorem cm_isArray0 (g : zz_G) (h0 : Nat) (a_kindOf : Nat) (a_depthOf : Nat) (a_lengthOf : Nat) (a_classOf : Nat) (a_baseOf : Nat) (a_bits : Nat) (a_pinned : Nat) (a_lengths : Nat) (a_stackArray : Nat) (a_stackOther : Nat) (a_stackAt : Nat) (a_path : Nat) (a_held : Nat) (a_alike : Nat) (a_hashes : Nat) (a_decisionArray : Nat) (a_decisionPlace : Nat) (a_candidateMany : Nat) (a_candidates : Nat) (a_ruleSort : Nat) (a_ruleArray : Nat) (a_ruleWeight : Nat) (a_ruleLow : Nat) (a_ruleHigh : Nat) (a_chosen : Nat) (a_bestOf : Nat) (a_markElements : Nat) (a_markBits : Nat) (a_markPins : Nat) (i_elements : Int32) (i_code : Int32) (i_lastArray : Int32) (i_lastPlace : Int32) (i_decisions : Int32) (i_rules : Int32) (i_marks : Int32) (k : Int32) : zz_I g yX8_isArray (.code yX8_isArray cX8_isArray 2 (some .boolean)) rm_cm_isArray0 [.ref h0, .int k] [(h0, .inr (7, [.int 0, .int i_elements, .ref a_kindOf, .ref a_depthOf, .ref a_lengthOf, .ref a_classOf, .ref a_baseOf, .ref a_bits, .ref a_pinned, .int i_code, .ref a_lengths, .ref a_stackArray, .ref a_stackOther, .ref a_stackAt, .int i_lastArray, .int i_lastPlace, .ref a_path, .ref a_held, .ref a_alike, .ref a_hashes, .int i_decisions, .ref a_decisionArray, .ref a_decisionPlace, .ref a_candidateMany, .ref a_candidates, .int i_rules, .ref a_ruleSort, .ref a_ruleArray, .ref a_ruleWeight, .ref a_ruleLow, .ref a_ruleHigh, .ref a_chosen, .ref a_bestOf, .int i_marks, .ref a_markElements, .ref a_markBits, .ref a_markPins]))] (po_cm_isArray0 g h0 a_kindOf a_depthOf a_lengthOf a_classOf a_baseOf a_bits a_pinned a_lengths a_stackArray a_stackOther a_stackAt a_path a_held a_alike a_hashes a_decisionArray a_decisionPlace a_candidateMany a_candidates a_ruleSort a_ruleArray a_ruleWeight a_ruleLow a_ruleHigh a_chosen a_bestOf a_markElements a_markBits a_markPins i_elements i_code i_lastArray i_lastPlace i_decisions i_rules i_marks k) := by
  refine zz_I.intro (own := RX8) (cc := cX8_isArray) (nL := 2) (by decide) rfl (Nat.le_of_ble_eq_true rfl) ?_
  intro p l e s m args below meth c A H locs ls hC hnm hZ hl
  obtain ⟨hx, hb, hml, hown, hts, hr, hlocks, hK⟩ := id hC
  have hl : lv_has ls 2 [(0, .ref h0), (1, .int k)] := hl
  have hZ : zz_Z g A s.heap [(h0, .inr (7, [.int 0, .int i_elements, .ref a_kindOf, .ref a_depthOf, .ref a_lengthOf, .ref a_classOf, .ref a_baseOf, .ref a_bits, .ref a_pinned, .int i_code, .ref a_lengths, .ref a_stackArray, .ref a_stackOther, .ref a_stackAt, .int i_lastArray, .int i_lastPlace, .ref a_path, .ref a_held, .ref a_alike, .ref a_hashes, .int i_decisions, .ref a_decisionArray, .ref a_decisionPlace, .ref a_candidateMany, .ref a_candidates, .int i_rules, .ref a_ruleSort, .ref a_ruleArray, .ref a_ruleWeight, .ref a_ruleLow, .ref a_ruleHigh, .ref a_chosen, .ref a_bestOf, .int i_marks, .ref a_markElements, .ref a_markBits, .ref a_markPins]))] H locs := hZ
  refine lv_iload_n hx hb dX8_isArray_0 rfl (lv_at hl 1 rfl) ?_
  refine lv_i2l hx hb dX8_isArray_1 rfl ?_
  refine lv_lconst (v := 0) hx hb dX8_isArray_2 (by decide) ?_
  refine lv_aload_n hx hb dX8_isArray_3 rfl (lv_at hl 0 rfl) ?_
  refine zz_get hC hZ 0 rfl zf_X8_103 rfl dX8_isArray_4 ?_
  refine lv_iconst (v := 1) hx hb dX8_isArray_7 (by decide) ?_
  refine lv_isub hx hb dX8_isArray_8 ?_
  refine zz_topi (v := -1) (by decide) ?_
  refine lv_i2l (v := -1) hx hb dX8_isArray_9 (by decide) ?_
  refine zz_iS (As := [.long k.toInt64, .long 0, .long (-1)]) (wc := []) (wr := [(h0, .inr (7, [.int 0, .int i_elements, .ref a_kindOf, .ref a_depthOf, .ref a_lengthOf, .ref a_classOf, .ref a_baseOf, .ref a_bits, .ref a_pinned, .int i_code, .ref a_lengths, .ref a_stackArray, .ref a_stackOther, .ref a_stackAt, .int i_lastArray, .int i_lastPlace, .ref a_path, .ref a_held, .ref a_alike, .ref a_hashes, .int i_decisions, .ref a_decisionArray, .ref a_decisionPlace, .ref a_candidateMany, .ref a_candidates, .int i_rules, .ref a_ruleSort, .ref a_ruleArray, .ref a_ruleWeight, .ref a_ruleLow, .ref a_ruleHigh, .ref a_chosen, .ref a_bestOf, .int i_marks, .ref a_markElements, .ref a_markBits, .ref a_markPins]))]) (rest := []) hC hZ hl zc_X8_106 (cm_within g k.toInt64 0 (-1)) [] [0] rfl rfl (by decide) rfl rfl (Nat.le_of_ble_eq_true rfl) ⟨⟨Nat.le_of_ble_eq_true rfl, Nat.le_of_ble_eq_true rfl⟩, Nat.le_of_ble_eq_true rfl, Nat.le_of_ble_eq_true rfl⟩ dX8_isArray_10 (fun r1 u2 H locs hp hZ => ?_)
  obtain ⟨rfl, rfl⟩ := hp
  have hZ : zz_Z g A s.heap [(h0, .inr (7, [.int 0, .int i_elements, .ref a_kindOf, .ref a_depthOf, .ref a_lengthOf, .ref a_classOf, .ref a_baseOf, .ref a_bits, .ref a_pinned, .int i_code, .ref a_lengths, .ref a_stackArray, .ref a_stackOther, .ref a_stackAt, .int i_lastArray, .int i_lastPlace, .ref a_path, .ref a_held, .ref a_alike, .ref a_hashes, .int i_decisions, .ref a_decisionArray, .ref a_decisionPlace, .ref a_candidateMany, .ref a_candidates, .int i_rules, .ref a_ruleSort, .ref a_ruleArray, .ref a_ruleWeight, .ref a_ruleLow, .ref a_ruleHigh, .ref a_chosen, .ref a_bestOf, .int i_marks, .ref a_markElements, .ref a_markBits, .ref a_markPins]))] H locs := hZ
  exact zz_zret hC hZ (zl_b01 (zl_within01 _ _ _)) (⟨zl_none _, rfl⟩) (Nat.le_of_ble_eq_true rfl) (Nat.le_of_ble_eq_true rfl) dX8_isArray_13
theorem dX8_isDecision_0 : decode cX8_isDecision 0 = .ok (.iload_n 1, 1) := by decide +kernel
theorem dX8_isDecision_1 : decode cX8_isDecision 1 = .ok (.i2l, 1) := by decide +kernel
theorem dX8_isDecision_2 : decode cX8_isDecision 2 = .ok (.lconst 0, 1) := by decide +kernel
theorem dX8_isDecision_3 : decode cX8_isDecision 3 = .ok (.aload_n 0, 1) := by decide +kernel
theorem dX8_isDecision_4 : decode cX8_isDecision 4 = .ok (.getfield 248, 3) := by decide +kernel
theorem zk_755 : Cond.fieldLink RX8 248 RX8 "decisions" "I" ∈ zz_w := zz_in (List.mem_append_right _ (List.mem_append_right _ (List.mem_append_right _ (List.mem_append_right _ (List.mem_append_left _ (List.mem_of_getElem? (i := 35) (by decide +kernel))))))) rfl
theorem zf_X8_248 : zz_f RX8 248 7 20 := ⟨RX8, TX8, 37, rfl, zi_X8, by decide, zk_755⟩
theorem dX8_isDecision_7 : decode cX8_isDecision 7 = .ok (.iconst 1, 1) := by decide +kernel
theorem dX8_isDecision_8 : decode cX8_isDecision 8 = .ok (.isub, 1) := by decide +kernel
theorem dX8_isDecision_9 : decode cX8_isDecision 9 = .ok (.i2l, 1) := by decide +kernel
theorem dX8_isDecision_10 : decode cX8_isDecision 10 = .ok (.invokestatic 106, 3) := by decide +kernel
theorem dX8_isDecision_13 : decode cX8_isDecision 13 = .ok (.ireturn, 1) := by decide +kernel
abbrev rm_cm_isDecision0 : Room := { frames := 1, cells := 0, slots := 0, locals := 25 }
abbrev po_cm_isDecision0 (g : zz_G) (h0 : Nat) (a_kindOf : Nat) (a_depthOf : Nat) (a_lengthOf : Nat) (a_classOf : Nat) (a_baseOf : Nat) (a_bits : Nat) (a_pinned : Nat) (a_lengths : Nat) (a_stackArray : Nat) (a_stackOther : Nat) (a_stackAt : Nat) (a_path : Nat) (a_held : Nat) (a_alike : Nat) (a_hashes : Nat) (a_decisionArray : Nat) (a_decisionPlace : Nat) (a_candidateMany : Nat) (a_candidates : Nat) (a_ruleSort : Nat) (a_ruleArray : Nat) (a_ruleWeight : Nat) (a_ruleLow : Nat) (a_ruleHigh : Nat) (a_chosen : Nat) (a_bestOf : Nat) (a_markElements : Nat) (a_markBits : Nat) (a_markPins : Nat) (i_arrays : Int32) (i_elements : Int32) (i_code : Int32) (i_lastArray : Int32) (i_lastPlace : Int32) (i_rules : Int32) (i_marks : Int32) (k : Int32) : Int32 → va_W → Prop := fun (r : Int32) (u : va_W) => r = 0 ∧ u = [(h0, .inr (7, [.int i_arrays, .int i_elements, .ref a_kindOf, .ref a_depthOf, .ref a_lengthOf, .ref a_classOf, .ref a_baseOf, .ref a_bits, .ref a_pinned, .int i_code, .ref a_lengths, .ref a_stackArray, .ref a_stackOther, .ref a_stackAt, .int i_lastArray, .int i_lastPlace, .ref a_path, .ref a_held, .ref a_alike, .ref a_hashes, .int 0, .ref a_decisionArray, .ref a_decisionPlace, .ref a_candidateMany, .ref a_candidates, .int i_rules, .ref a_ruleSort, .ref a_ruleArray, .ref a_ruleWeight, .ref a_ruleLow, .ref a_ruleHigh, .ref a_chosen, .ref a_bestOf, .int i_marks, .ref a_markElements, .ref a_markBits, .ref a_markPins]))]
set_option maxHeartbeats 4000000 in
set_option maxRecDepth 100000 in
theorem cm_isDecision0 (g : zz_G) (h0 : Nat) (a_kindOf : Nat) (a_depthOf : Nat) (a_lengthOf : Nat) (a_classOf : Nat) (a_baseOf : Nat) (a_bits : Nat) (a_pinned : Nat) (a_lengths : Nat) (a_stackArray : Nat) (a_stackOther : Nat) (a_stackAt : Nat) (a_path : Nat) (a_held : Nat) (a_alike : Nat) (a_hashes : Nat) (a_decisionArray : Nat) (a_decisionPlace : Nat) (a_candidateMany : Nat) (a_candidates : Nat) (a_ruleSort : Nat) (a_ruleArray : Nat) (a_ruleWeight : Nat) (a_ruleLow : Nat) (a_ruleHigh : Nat) (a_chosen : Nat) (a_bestOf : Nat) (a_markElements : Nat) (a_markBits : Nat) (a_markPins : Nat) (i_arrays : Int32) (i_elements : Int32) (i_code : Int32) (i_lastArray : Int32) (i_lastPlace : Int32) (i_rules : Int32) (i_marks : Int32) (k : Int32) : zz_I g yX8_isDecision (.code yX8_isDecision cX8_isDecision 2 (some .boolean)) rm_cm_isDecision0 [.ref h0, .int k] [(h0, .inr (7, [.int i_arrays, .int i_elements, .ref a_kindOf, .ref a_depthOf, .ref a_lengthOf, .ref a_classOf, .ref a_baseOf, .ref a_bits, .ref a_pinned, .int i_code, .ref a_lengths, .ref a_stackArray, .ref a_stackOther, .ref a_stackAt, .int i_lastArray, .int i_lastPlace, .ref a_path, .ref a_held, .ref a_alike, .ref a_hashes, .int 0, .ref a_decisionArray, .ref a_decisionPlace, .ref a_candidateMany, .ref a_candidates, .int i_rules, .ref a_ruleSort, .ref a_ruleArray, .ref a_ruleWeight, .ref a_ruleLow, .ref a_ruleHigh, .ref a_chosen, .ref a_bestOf, .int i_marks, .ref a_markElements, .ref a_markBits, .ref a_markPins]))] (po_cm_isDecision0 g h0 a_kindOf a_depthOf a_lengthOf a_classOf a_baseOf a_bits a_pinned a_lengths a_stackArray a_stackOther a_stackAt a_path a_held a_alike a_hashes a_decisionArray a_decisionPlace a_candidateMany a_candidates a_ruleSort a_ruleArray a_ruleWeight a_ruleLow a_ruleHigh a_chosen a_bestOf a_markElements a_markBits a_markPins i_arrays i_elements i_code i_lastArray i_lastPlace i_rules i_marks k) := by
  refine zz_I.intro (own := RX8) (cc := cX8_isDecision) (nL := 2) (by decide) rfl (Nat.le_of_ble_eq_true rfl) ?_
  intro p l e s m args below meth c A H locs ls hC hnm hZ hl
  obtain ⟨hx, hb, hml, hown, hts, hr, hlocks, hK⟩ := id hC
  have hl : lv_has ls 2 [(0, .ref h0), (1, .int k)] := hl
  have hZ : zz_Z g A s.heap [(h0, .inr (7, [.int i_arrays, .int i_elements, .ref a_kindOf, .ref a_depthOf, .ref a_lengthOf, .ref a_classOf, .ref a_baseOf, .ref a_bits, .ref a_pinned, .int i_code, .ref a_lengths, .ref a_stackArray, .ref a_stackOther, .ref a_stackAt, .int i_lastArray, .int i_lastPlace, .ref a_path, .ref a_held, .ref a_alike, .ref a_hashes, .int 0, .ref a_decisionArray, .ref a_decisionPlace, .ref a_candidateMany, .ref a_candidates, .int i_rules, .ref a_ruleSort, .ref a_ruleArray, .ref a_ruleWeight, .ref a_ruleLow, .ref a_ruleHigh, .ref a_chosen, .ref a_bestOf, .int i_marks, .ref a_markElements, .ref a_markBits, .ref a_markPins]))] H locs := hZ
  refine lv_iload_n hx hb dX8_isDecision_0 rfl (lv_at hl 1 rfl) ?_
  refine lv_i2l hx hb dX8_isDecision_1 rfl ?_
  refine lv_lconst (v := 0) hx hb dX8_isDecision_2 (by decide) ?_
  refine lv_aload_n hx hb dX8_isDecision_3 rfl (lv_at hl 0 rfl) ?_
  refine zz_get hC hZ 0 rfl zf_X8_248 rfl dX8_isDecision_4 ?_
  refine lv_iconst (v := 1) hx hb dX8_isDecision_7 (by decide) ?_
  refine lv_isub hx hb dX8_isDecision_8 ?_
  refine zz_topi (v := -1) (by decide) ?_
  refine lv_i2l (v := -1) hx hb dX8_isDecision_9 (by decide) ?_
  refine zz_iS (As := [.long k.toInt64, .long 0, .long (-1)]) (wc := []) (wr := [(h0, .inr (7, [.int i_arrays, .int i_elements, .ref a_kindOf, .ref a_depthOf, .ref a_lengthOf, .ref a_classOf, .ref a_baseOf, .ref a_bits, .ref a_pinned, .int i_code, .ref a_lengths, .ref a_stackArray, .ref a_stackOther, .ref a_stackAt, .int i_lastArray, .int i_lastPlace, .ref a_path, .ref a_held, .ref a_alike, .ref a_hashes, .int 0, .ref a_decisionArray, .ref a_decisionPlace, .ref a_candidateMany, .ref a_candidates, .int i_rules, .ref a_ruleSort, .ref a_ruleArray, .ref a_ruleWeight, .ref a_ruleLow, .ref a_ruleHigh, .ref a_chosen, .ref a_bestOf, .int i_marks, .ref a_markElements, .ref a_markBits, .ref a_markPins]))]) (rest := []) hC hZ hl zc_X8_106 (cm_within g k.toInt64 0 (-1)) [] [0] rfl rfl (by decide) rfl rfl (Nat.le_of_ble_eq_true rfl) ⟨⟨Nat.le_of_ble_eq_true rfl, Nat.le_of_ble_eq_true rfl⟩, Nat.le_of_ble_eq_true rfl, Nat.le_of_ble_eq_true rfl⟩ dX8_isDecision_10 (fun r1 u2 H locs hp hZ => ?_)
  obtain ⟨rfl, rfl⟩ := hp
  have hZ : zz_Z g A s.heap [(h0, .inr (7, [.int i_arrays, .int i_elements, .ref a_kindOf, .ref a_depthOf, .ref a_lengthOf, .ref a_classOf, .ref a_baseOf, .ref a_bits, .ref a_pinned, .int i_code, .ref a_lengths, .ref a_stackArray, .ref a_stackOther, .ref a_stackAt, .int i_lastArray, .int i_lastPlace, .ref a_path, .ref a_held, .ref a_alike, .ref a_hashes, .int 0, .ref a_decisionArray, .ref a_decisionPlace, .ref a_candidateMany, .ref a_candidates, .int i_rules, .ref a_ruleSort, .ref a_ruleArray, .ref a_ruleWeight, .ref a_ruleLow, .ref a_ruleHigh, .ref a_chosen, .ref a_bestOf, .int i_marks, .ref a_markElements, .ref a_markBits, .ref a_markPins]))] H locs := hZ
  exact zz_zret hC hZ (zl_b01 (zl_within01 _ _ _)) (⟨zl_none _, rfl⟩) (Nat.le_of_ble_eq_true rfl) (Nat.le_of_ble_eq_true rfl) dX8_isDecision_13
theorem dX6_has_0 : decode cX6_has 0 = .ok (.iload_n 1, 1) := by decide +kernel
theorem dX6_has_1 : decode cX6_has 1 = .ok (.ifCond .lt 15, 3) := by decide +kernel
theorem dX6_has_16 : decode cX6_has 16 = .ok (.iconst 0, 1) := by decide +kernel
theorem dX6_has_17 : decode cX6_has 17 = .ok (.ireturn, 1) := by decide +kernel
theorem dX6_has_4 : decode cX6_has 4 = .ok (.iload_n 1, 1) := by decide +kernel
theorem dX6_has_5 : decode cX6_has 5 = .ok (.aload_n 0, 1) := by decide +kernel
theorem dX6_has_6 : decode cX6_has 6 = .ok (.getfield 38, 3) := by decide +kernel
theorem zk_26 : Cond.fieldLink RX6 38 RX6 "arrays" "I" ∈ zz_w := zz_in (List.mem_append_right _ (List.mem_append_left _ (List.mem_of_getElem? (i := 26) (by decide +kernel)))) rfl
theorem zi_X6_a : ∀ w ∈ u_ws RX6 TX6 10, w ∈ lw_tbl := by decide +kernel
theorem zi_X6_b : ∀ w ∈ u_ws RX6 TX6 10, goodWord w = true := by decide +kernel
theorem zi_X6 : ∀ w ∈ u_ws RX6 TX6 10, w ∈ zz_w := fun w h => zz_in (zi_X6_a w h) (zi_X6_b w h)
theorem zf_X6_38 : zz_f RX6 38 5 0 := ⟨RX6, TX6, 10, rfl, zi_X6, by decide, zk_26⟩
theorem dX6_has_9 : decode cX6_has 9 = .ok (.if_icmp .ge 7, 3) := by decide +kernel
theorem dX6_has_12 : decode cX6_has 12 = .ok (.iconst 1, 1) := by decide +kernel
theorem dX6_has_13 : decode cX6_has 13 = .ok (.goto 4, 3) := by decide +kernel
def fn_co_has (ar : Int32) (k : Int32) : Int32 := (if k < 0 then 0 else (if ar ≤ k then 0 else 1))
abbrev rm_co_has : Room := { frames := 0, cells := 0, slots := 0, locals := 0 }
abbrev po_co_has (g : zz_G) (st : Nat) (kd : Nat) (dp : Nat) (cl : Nat) (sa : Nat) (ln : Nat) (bt : Nat) (pn : Nat) (bf : Nat) (ar : Int32) (us : Int32) (k : Int32) : Int32 → va_W → Prop := fun (r : Int32) (u : va_W) => r = fn_co_has ar k ∧ u = [(st, .inr (5, [.int ar, .int us, .ref kd, .ref dp, .ref cl, .ref sa, .ref ln, .ref bt, .ref pn, .ref bf]))]
set_option maxHeartbeats 4000000 in
set_option maxRecDepth 100000 in
theorem co_has (g : zz_G) (st : Nat) (kd : Nat) (dp : Nat) (cl : Nat) (sa : Nat) (ln : Nat) (bt : Nat) (pn : Nat) (bf : Nat) (ar : Int32) (us : Int32) (k : Int32) : zz_I g yX6_has (.code yX6_has cX6_has 2 (some .boolean)) rm_co_has [.ref st, .int k] [(st, .inr (5, [.int ar, .int us, .ref kd, .ref dp, .ref cl, .ref sa, .ref ln, .ref bt, .ref pn, .ref bf]))] (po_co_has g st kd dp cl sa ln bt pn bf ar us k) := by
  refine zz_I.intro (own := RX6) (cc := cX6_has) (nL := 2) (by decide) rfl (Nat.le_of_ble_eq_true rfl) ?_
  intro p l e s m args below meth c A H locs ls hC hnm hZ hl
  obtain ⟨hx, hb, hml, hown, hts, hr, hlocks, hK⟩ := id hC
  have hl : lv_has ls 2 [(0, .ref st), (1, .int k)] := hl
  have hZ : zz_Z g A s.heap [(st, .inr (5, [.int ar, .int us, .ref kd, .ref dp, .ref cl, .ref sa, .ref ln, .ref bt, .ref pn, .ref bf]))] H locs := hZ
  refine lv_iload_n hx hb dX6_has_0 rfl (lv_at hl 1 rfl) ?_
  refine lv_if_lt (tgt := 16) hx hb dX6_has_1 (by decide) (fun c1 => ?_) (fun c1 => ?_)
  · refine lv_iconst (v := 0) hx hb dX6_has_16 (by decide) ?_
    exact zz_zret hC hZ (by decide) (⟨by show _ = _; rw [fn_co_has, if_pos c1], rfl⟩) (Nat.le_of_ble_eq_true rfl) (Nat.le_of_ble_eq_true rfl) dX6_has_17
  · refine lv_iload_n hx hb dX6_has_4 rfl (lv_at hl 1 rfl) ?_
    refine lv_aload_n hx hb dX6_has_5 rfl (lv_at hl 0 rfl) ?_
    refine zz_get hC hZ 0 rfl zf_X6_38 rfl dX6_has_6 ?_
    refine lv_icmp_ge (tgt := 16) hx hb dX6_has_9 (by decide) (fun c2 => ?_) (fun c2 => ?_)
    · refine lv_iconst (v := 0) hx hb dX6_has_16 (by decide) ?_
      exact zz_zret hC hZ (by decide) (⟨by show _ = _; rw [fn_co_has, if_neg c1, if_pos c2], rfl⟩) (Nat.le_of_ble_eq_true rfl) (Nat.le_of_ble_eq_true rfl) dX6_has_17
    · refine lv_iconst (v := 1) hx hb dX6_has_12 (by decide) ?_
      refine lv_goto (tgt := 17) hx hb dX6_has_13 (by decide) ?_
      exact zz_zret hC hZ (by decide) (⟨by show _ = _; rw [fn_co_has, if_neg c1, if_neg c2], rfl⟩) (Nat.le_of_ble_eq_true rfl) (Nat.le_of_ble_eq_true rfl) dX6_has_17
theorem dX6_fits_0 : decode cX6_fits 0 = .ok (.aload_n 0, 1) := by decide +kernel
theorem dX6_fits_1 : decode cX6_fits 1 = .ok (.getfield 38, 3) := by decide +kernel
theorem dX6_fits_4 : decode cX6_fits 4 = .ok (.i2l, 1) := by decide +kernel
theorem dX6_fits_5 : decode cX6_fits 5 = .ok (.lload_n 1, 1) := by decide +kernel
theorem dX6_fits_6 : decode cX6_fits 6 = .ok (.ladd, 1) := by decide +kernel
theorem dX6_fits_7 : decode cX6_fits 7 = .ok (.ldc2_w 42, 3) := by decide +kernel
theorem zk_244 : Cond.constantLong RX6 42 (60) ∈ zz_w := zz_in (List.mem_append_right _ (List.mem_append_right _ (List.mem_append_left _ (List.mem_of_getElem? (i := 4) (by decide +kernel))))) rfl
theorem dX6_fits_10 : decode cX6_fits 10 = .ok (.lcmp, 1) := by decide +kernel
theorem dX6_fits_11 : decode cX6_fits 11 = .ok (.ifCond .gt 21, 3) := by decide +kernel
theorem dX6_fits_32 : decode cX6_fits 32 = .ok (.iconst 0, 1) := by decide +kernel
theorem dX6_fits_33 : decode cX6_fits 33 = .ok (.ireturn, 1) := by decide +kernel
theorem dX6_fits_14 : decode cX6_fits 14 = .ok (.aload_n 0, 1) := by decide +kernel
theorem dX6_fits_15 : decode cX6_fits 15 = .ok (.getfield 44, 3) := by decide +kernel
theorem zk_29 : Cond.fieldLink RX6 44 RX6 "used" "I" ∈ zz_w := zz_in (List.mem_append_right _ (List.mem_append_left _ (List.mem_of_getElem? (i := 29) (by decide +kernel)))) rfl
theorem zf_X6_44 : zz_f RX6 44 5 1 := ⟨RX6, TX6, 10, rfl, zi_X6, by decide, zk_29⟩
theorem dX6_fits_18 : decode cX6_fits 18 = .ok (.i2l, 1) := by decide +kernel
theorem dX6_fits_19 : decode cX6_fits 19 = .ok (.lload_n 3, 1) := by decide +kernel
theorem dX6_fits_20 : decode cX6_fits 20 = .ok (.ladd, 1) := by decide +kernel
theorem dX6_fits_21 : decode cX6_fits 21 = .ok (.ldc2_w 47, 3) := by decide +kernel
theorem zk_245 : Cond.constantLong RX6 47 (4000) ∈ zz_w := zz_in (List.mem_append_right _ (List.mem_append_right _ (List.mem_append_left _ (List.mem_of_getElem? (i := 5) (by decide +kernel))))) rfl
theorem dX6_fits_24 : decode cX6_fits 24 = .ok (.lcmp, 1) := by decide +kernel
theorem dX6_fits_25 : decode cX6_fits 25 = .ok (.ifCond .gt 7, 3) := by decide +kernel
theorem dX6_fits_28 : decode cX6_fits 28 = .ok (.iconst 1, 1) := by decide +kernel
theorem dX6_fits_29 : decode cX6_fits 29 = .ok (.goto 4, 3) := by decide +kernel
def fn_co_fits (ar : Int32) (us : Int32) (ma : Int64) (me : Int64) : Int32 := (if 60 < (ar.toInt64 + ma) then 0 else (if 4000 < (us.toInt64 + me) then 0 else 1))
abbrev rm_co_fits : Room := { frames := 0, cells := 0, slots := 0, locals := 0 }
abbrev po_co_fits (g : zz_G) (st : Nat) (kd : Nat) (dp : Nat) (cl : Nat) (sa : Nat) (ln : Nat) (bt : Nat) (pn : Nat) (bf : Nat) (ar : Int32) (us : Int32) (ma : Int64) (me : Int64) : Int32 → va_W → Prop := fun (r : Int32) (u : va_W) => r = fn_co_fits ar us ma me ∧ u = [(st, .inr (5, [.int ar, .int us, .ref kd, .ref dp, .ref cl, .ref sa, .ref ln, .ref bt, .ref pn, .ref bf]))]
set_option maxHeartbeats 4000000 in
set_option maxRecDepth 100000 in
theorem co_fits (g : zz_G) (st : Nat) (kd : Nat) (dp : Nat) (cl : Nat) (sa : Nat) (ln : Nat) (bt : Nat) (pn : Nat) (bf : Nat) (ar : Int32) (us : Int32) (ma : Int64) (me : Int64) : zz_I g yX6_fits (.code yX6_fits cX6_fits 5 (some .boolean)) rm_co_fits [.ref st, .long ma, .long me] [(st, .inr (5, [.int ar, .int us, .ref kd, .ref dp, .ref cl, .ref sa, .ref ln, .ref bt, .ref pn, .ref bf]))] (po_co_fits g st kd dp cl sa ln bt pn bf ar us ma me) := by
  refine zz_I.intro (own := RX6) (cc := cX6_fits) (nL := 5) (by decide) rfl (Nat.le_of_ble_eq_true rfl) ?_
  intro p l e s m args below meth c A H locs ls hC hnm hZ hl
  obtain ⟨hx, hb, hml, hown, hts, hr, hlocks, hK⟩ := id hC
  have hl : lv_has ls 5 [(0, .ref st), (1, .long ma), (3, .long me)] := hl
  have hZ : zz_Z g A s.heap [(st, .inr (5, [.int ar, .int us, .ref kd, .ref dp, .ref cl, .ref sa, .ref ln, .ref bt, .ref pn, .ref bf]))] H locs := hZ
  refine lv_aload_n hx hb dX6_fits_0 rfl (lv_at hl 0 rfl) ?_
  refine zz_get hC hZ 0 rfl zf_X6_38 rfl dX6_fits_1 ?_
  refine lv_i2l hx hb dX6_fits_4 rfl ?_
  refine lv_lload_n hx hb dX6_fits_5 rfl (lv_at hl 1 rfl) ?_
  refine lv_ladd hx hb dX6_fits_6 ?_
  refine lv_ldc2 hx hb hown (hts _ zk_244) dX6_fits_7 ?_
  refine zz_lcmp_gt (tgt := 32) hC dX6_fits_10 dX6_fits_11 (by decide) (fun c1 => ?_) (fun c1 => ?_)
  · refine lv_iconst (v := 0) hx hb dX6_fits_32 (by decide) ?_
    exact zz_zret hC hZ (by decide) (⟨by show _ = _; rw [fn_co_fits, if_pos c1], rfl⟩) (Nat.le_of_ble_eq_true rfl) (Nat.le_of_ble_eq_true rfl) dX6_fits_33
  · refine lv_aload_n hx hb dX6_fits_14 rfl (lv_at hl 0 rfl) ?_
    refine zz_get hC hZ 0 rfl zf_X6_44 rfl dX6_fits_15 ?_
    refine lv_i2l hx hb dX6_fits_18 rfl ?_
    refine lv_lload_n hx hb dX6_fits_19 rfl (lv_at hl 2 rfl) ?_
    refine lv_ladd hx hb dX6_fits_20 ?_
    refine lv_ldc2 hx hb hown (hts _ zk_245) dX6_fits_21 ?_
    refine zz_lcmp_gt (tgt := 32) hC dX6_fits_24 dX6_fits_25 (by decide) (fun c2 => ?_) (fun c2 => ?_)
    · refine lv_iconst (v := 0) hx hb dX6_fits_32 (by decide) ?_
      exact zz_zret hC hZ (by decide) (⟨by show _ = _; rw [fn_co_fits, if_neg c1, if_pos c2], rfl⟩) (Nat.le_of_ble_eq_true rfl) (Nat.le_of_ble_eq_true rfl) dX6_fits_33
    · refine lv_iconst (v := 1) hx hb dX6_fits_28 (by decide) ?_
      refine lv_goto (tgt := 33) hx hb dX6_fits_29 (by decide) ?_
      exact zz_zret hC hZ (by decide) (⟨by show _ = _; rw [fn_co_fits, if_neg c1, if_neg c2], rfl⟩) (Nat.le_of_ble_eq_true rfl) (Nat.le_of_ble_eq_true rfl) dX6_fits_33
