theorem dX7_fail_0 : decode cX7_fail 0 = .ok (.aload_n 0, 1) := by decide +kernel
theorem dX7_fail_1 : decode cX7_fail 1 = .ok (.iload_n 1, 1) := by decide +kernel
theorem dX7_fail_2 : decode cX7_fail 2 = .ok (.putfield 56, 3) := by decide +kernel
theorem zk_207 : Cond.fieldLink RX7 56 RX7 "latest" "I" ∈ zz_w := zz_in (List.mem_append_right _ (List.mem_of_getElem? (i := 207) (by decide +kernel))) rfl
theorem zi_X7_a : ∀ w ∈ u_ws RX7 TX7 8, w ∈ lw_tbl := by decide +kernel
theorem zi_X7_b : ∀ w ∈ u_ws RX7 TX7 8, goodWord w = true := by decide +kernel
theorem zi_X7 : ∀ w ∈ u_ws RX7 TX7 8, w ∈ zz_w := fun w h => zz_in (zi_X7_a w h) (zi_X7_b w h)
theorem zu_X7_56 : zz_fw RX7 56 6 7 false .int := ⟨RX7, TX7, 8, tyX7, rfl, zi_X7, by decide, zk_207, tyX7_ok, nmX7, rfl, by decide +kernel, fun h => by cases h⟩
theorem dX7_fail_5 : decode cX7_fail 5 = .ok (.iload_n 1, 1) := by decide +kernel
theorem dX7_fail_6 : decode cX7_fail 6 = .ok (.ineg, 1) := by decide +kernel
theorem dX7_fail_7 : decode cX7_fail 7 = .ok (.ireturn, 1) := by decide +kernel
set_option maxHeartbeats 4000000 in
set_option maxRecDepth 100000 in
theorem co_fail (g : zz_G) (h0 : Nat) (st : Nat) (mk : Nat) (lk : Nat) (ch : Nat) (ru : Nat) (mr : Nat) (md : Int32) (la : Int32) (k : Int32) : zz_I g yX7_fail (.code yX7_fail cX7_fail 2 (some .int)) { frames := 0, cells := 0, slots := 0, locals := 0 } [.ref h0, .int k] [(h0, .inr (6, [.ref st, .ref mk, .ref lk, .ref ch, .ref ru, .ref mr, .int md, .int la]))] (fun (r : Int32) (u : va_W) => r = -k ∧ u = [(h0, .inr (6, [.ref st, .ref mk, .ref lk, .ref ch, .ref ru, .ref mr, .int md, .int k]))]) := by
  refine zz_I.intro (own := RX7) (cc := cX7_fail) (nL := 2) (by decide) rfl (Nat.le_of_ble_eq_true rfl) ?_
  intro p l e s m args below meth c A ls hC hnm hZ hl
  obtain ⟨hx, hb, hml, hown, hts, hr, hlocks, hK⟩ := id hC
  have hl : lv_has ls 2 [(0, .ref h0), (1, .int k)] := hl
  have hZ : zz_Z g A s.heap [(h0, .inr (6, [.ref st, .ref mk, .ref lk, .ref ch, .ref ru, .ref mr, .int md, .int la]))] s.heap [] := hZ
  refine lv_aload_n hx hb dX7_fail_0 rfl (lv_at hl 0 rfl) ?_
  refine lv_iload_n hx hb dX7_fail_1 rfl (lv_at hl 1 rfl) ?_
  refine zz_put hC hZ 0 rfl zu_X7_56 (by decide) dX7_fail_2 (fun H locs hZ => ?_)
  have hZ : zz_Z g A s.heap [(h0, .inr (6, [.ref st, .ref mk, .ref lk, .ref ch, .ref ru, .ref mr, .int md, .int k]))] H locs := hZ
  refine lv_iload_n hx hb dX7_fail_5 rfl (lv_at hl 1 rfl) ?_
  refine lv_ineg hx hb dX7_fail_6 ?_
  exact zz_iret hC hZ (⟨rfl, rfl⟩) (Nat.le_of_ble_eq_true rfl) (Nat.le_of_ble_eq_true rfl) dX7_fail_7
theorem dX7_fine_0 : decode cX7_fine 0 = .ok (.aload_n 0, 1) := by decide +kernel
theorem dX7_fine_1 : decode cX7_fine 1 = .ok (.iconst 0, 1) := by decide +kernel
theorem dX7_fine_2 : decode cX7_fine 2 = .ok (.putfield 56, 3) := by decide +kernel
theorem dX7_fine_5 : decode cX7_fine 5 = .ok (.iload_n 1, 1) := by decide +kernel
theorem dX7_fine_6 : decode cX7_fine 6 = .ok (.ireturn, 1) := by decide +kernel
set_option maxHeartbeats 4000000 in
set_option maxRecDepth 100000 in
theorem co_fine (g : zz_G) (h0 : Nat) (st : Nat) (mk : Nat) (lk : Nat) (ch : Nat) (ru : Nat) (mr : Nat) (md : Int32) (la : Int32) (k : Int32) : zz_I g yX7_fine (.code yX7_fine cX7_fine 2 (some .int)) { frames := 0, cells := 0, slots := 0, locals := 0 } [.ref h0, .int k] [(h0, .inr (6, [.ref st, .ref mk, .ref lk, .ref ch, .ref ru, .ref mr, .int md, .int la]))] (fun (r : Int32) (u : va_W) => r = k ∧ u = [(h0, .inr (6, [.ref st, .ref mk, .ref lk, .ref ch, .ref ru, .ref mr, .int md, .int 0]))]) := by
  refine zz_I.intro (own := RX7) (cc := cX7_fine) (nL := 2) (by decide) rfl (Nat.le_of_ble_eq_true rfl) ?_
  intro p l e s m args below meth c A ls hC hnm hZ hl
  obtain ⟨hx, hb, hml, hown, hts, hr, hlocks, hK⟩ := id hC
  have hl : lv_has ls 2 [(0, .ref h0), (1, .int k)] := hl
  have hZ : zz_Z g A s.heap [(h0, .inr (6, [.ref st, .ref mk, .ref lk, .ref ch, .ref ru, .ref mr, .int md, .int la]))] s.heap [] := hZ
  refine lv_aload_n hx hb dX7_fine_0 rfl (lv_at hl 0 rfl) ?_
  refine lv_iconst (v := 0) hx hb dX7_fine_1 (by decide) ?_
  refine zz_put hC hZ 0 rfl zu_X7_56 (by decide) dX7_fine_2 (fun H locs hZ => ?_)
  have hZ : zz_Z g A s.heap [(h0, .inr (6, [.ref st, .ref mk, .ref lk, .ref ch, .ref ru, .ref mr, .int md, .int 0]))] H locs := hZ
  refine lv_iload_n hx hb dX7_fine_5 rfl (lv_at hl 1 rfl) ?_
  exact zz_iret hC hZ (⟨rfl, rfl⟩) (Nat.le_of_ble_eq_true rfl) (Nat.le_of_ble_eq_true rfl) dX7_fine_6
theorem dX7_noBits_0 : decode cX7_noBits 0 = .ok (.aload_n 0, 1) := by decide +kernel
theorem dX7_noBits_1 : decode cX7_noBits 1 = .ok (.iload_n 1, 1) := by decide +kernel
theorem dX7_noBits_2 : decode cX7_noBits 2 = .ok (.putfield 56, 3) := by decide +kernel
theorem dX7_noBits_5 : decode cX7_noBits 5 = .ok (.lconst 0, 1) := by decide +kernel
theorem dX7_noBits_6 : decode cX7_noBits 6 = .ok (.lreturn, 1) := by decide +kernel
set_option maxHeartbeats 4000000 in
set_option maxRecDepth 100000 in
theorem co_noBits (g : zz_G) (h0 : Nat) (st : Nat) (mk : Nat) (lk : Nat) (ch : Nat) (ru : Nat) (mr : Nat) (md : Int32) (la : Int32) (k : Int32) : zz_L g yX7_noBits (.code yX7_noBits cX7_noBits 2 (some .long)) { frames := 0, cells := 0, slots := 0, locals := 0 } [.ref h0, .int k] [(h0, .inr (6, [.ref st, .ref mk, .ref lk, .ref ch, .ref ru, .ref mr, .int md, .int la]))] (fun (r : Int64) (u : va_W) => r = 0 ∧ u = [(h0, .inr (6, [.ref st, .ref mk, .ref lk, .ref ch, .ref ru, .ref mr, .int md, .int k]))]) := by
  refine zz_L.intro (own := RX7) (cc := cX7_noBits) (nL := 2) (by decide) rfl (Nat.le_of_ble_eq_true rfl) ?_
  intro p l e s m args below meth c A ls hC hnm hZ hl
  obtain ⟨hx, hb, hml, hown, hts, hr, hlocks, hK⟩ := id hC
  have hl : lv_has ls 2 [(0, .ref h0), (1, .int k)] := hl
  have hZ : zz_Z g A s.heap [(h0, .inr (6, [.ref st, .ref mk, .ref lk, .ref ch, .ref ru, .ref mr, .int md, .int la]))] s.heap [] := hZ
  refine lv_aload_n hx hb dX7_noBits_0 rfl (lv_at hl 0 rfl) ?_
  refine lv_iload_n hx hb dX7_noBits_1 rfl (lv_at hl 1 rfl) ?_
  refine zz_put hC hZ 0 rfl zu_X7_56 (by decide) dX7_noBits_2 (fun H locs hZ => ?_)
  have hZ : zz_Z g A s.heap [(h0, .inr (6, [.ref st, .ref mk, .ref lk, .ref ch, .ref ru, .ref mr, .int md, .int k]))] H locs := hZ
  refine lv_lconst (v := 0) hx hb dX7_noBits_5 (by decide) ?_
  exact zz_lret hC hZ (⟨rfl, rfl⟩) (Nat.le_of_ble_eq_true rfl) (Nat.le_of_ble_eq_true rfl) dX7_noBits_6
theorem dX1_isKind_0 : decode cX1_isKind 0 = .ok (.iload_n 0, 1) := by decide +kernel
theorem dX1_isKind_1 : decode cX1_isKind 1 = .ok (.ifCond .lt 13, 3) := by decide +kernel
theorem dX1_isKind_14 : decode cX1_isKind 14 = .ok (.iconst 0, 1) := by decide +kernel
theorem dX1_isKind_15 : decode cX1_isKind 15 = .ok (.ireturn, 1) := by decide +kernel
theorem dX1_isKind_4 : decode cX1_isKind 4 = .ok (.iload_n 0, 1) := by decide +kernel
theorem dX1_isKind_5 : decode cX1_isKind 5 = .ok (.bipush 8, 2) := by decide +kernel
theorem dX1_isKind_7 : decode cX1_isKind 7 = .ok (.if_icmp .gt 7, 3) := by decide +kernel
theorem dX1_isKind_10 : decode cX1_isKind 10 = .ok (.iconst 1, 1) := by decide +kernel
theorem dX1_isKind_11 : decode cX1_isKind 11 = .ok (.goto 4, 3) := by decide +kernel
def fn_co_isKind (k : Int32) : Int32 := (if k < 0 then 0 else (if 8 < k then 0 else 1))
set_option maxHeartbeats 4000000 in
set_option maxRecDepth 100000 in
theorem co_isKind (g : zz_G) (k : Int32) : zz_I g yX1_isKind (.code yX1_isKind cX1_isKind 1 (some .boolean)) { frames := 0, cells := 0, slots := 0, locals := 0 } [.int k] [] (fun (r : Int32) (u : va_W) => r = fn_co_isKind k ∧ u = []) := by
  refine zz_I.intro (own := RX1) (cc := cX1_isKind) (nL := 1) (by decide) rfl (Nat.le_of_ble_eq_true rfl) ?_
  intro p l e s m args below meth c A ls hC hnm hZ hl
  obtain ⟨hx, hb, hml, hown, hts, hr, hlocks, hK⟩ := id hC
  have hl : lv_has ls 1 [(0, .int k)] := hl
  have hZ : zz_Z g A s.heap [] s.heap [] := hZ
  refine lv_iload_n hx hb dX1_isKind_0 rfl (lv_at hl 0 rfl) ?_
  refine lv_if_lt (tgt := 14) hx hb dX1_isKind_1 (by decide) (fun c1 => ?_) (fun c1 => ?_)
  · refine lv_iconst (v := 0) hx hb dX1_isKind_14 (by decide) ?_
    exact zz_zret hC hZ (by decide) (⟨by rw [fn_co_isKind, if_pos c1], rfl⟩) (Nat.le_of_ble_eq_true rfl) (Nat.le_of_ble_eq_true rfl) dX1_isKind_15
  · refine lv_iload_n hx hb dX1_isKind_4 rfl (lv_at hl 0 rfl) ?_
    refine lv_bipush (v := 8) hx hb dX1_isKind_5 (by decide) ?_
    refine lv_icmp_gt (tgt := 14) hx hb dX1_isKind_7 (by decide) (fun c2 => ?_) (fun c2 => ?_)
    · refine lv_iconst (v := 0) hx hb dX1_isKind_14 (by decide) ?_
      exact zz_zret hC hZ (by decide) (⟨by rw [fn_co_isKind, if_neg c1, if_pos c2], rfl⟩) (Nat.le_of_ble_eq_true rfl) (Nat.le_of_ble_eq_true rfl) dX1_isKind_15
    · refine lv_iconst (v := 1) hx hb dX1_isKind_10 (by decide) ?_
      refine lv_goto (tgt := 15) hx hb dX1_isKind_11 (by decide) ?_
      exact zz_zret hC hZ (by decide) (⟨by rw [fn_co_isKind, if_neg c1, if_neg c2], rfl⟩) (Nat.le_of_ble_eq_true rfl) (Nat.le_of_ble_eq_true rfl) dX1_isKind_15
theorem dX1_reaches_0 : decode cX1_reaches 0 = .ok (.iload_n 0, 1) := by decide +kernel
theorem dX1_reaches_1 : decode cX1_reaches 1 = .ok (.iload_n 1, 1) := by decide +kernel
theorem dX1_reaches_2 : decode cX1_reaches 2 = .ok (.if_icmp .eq 13, 3) := by decide +kernel
theorem dX1_reaches_15 : decode cX1_reaches 15 = .ok (.iconst 1, 1) := by decide +kernel
theorem dX1_reaches_16 : decode cX1_reaches 16 = .ok (.ireturn, 1) := by decide +kernel
theorem dX1_reaches_5 : decode cX1_reaches 5 = .ok (.iload_n 0, 1) := by decide +kernel
theorem dX1_reaches_6 : decode cX1_reaches 6 = .ok (.iconst 2, 1) := by decide +kernel
theorem dX1_reaches_7 : decode cX1_reaches 7 = .ok (.if_icmp .ne 10, 3) := by decide +kernel
theorem dX1_reaches_17 : decode cX1_reaches 17 = .ok (.iload_n 0, 1) := by decide +kernel
theorem dX1_reaches_18 : decode cX1_reaches 18 = .ok (.iconst 1, 1) := by decide +kernel
theorem dX1_reaches_19 : decode cX1_reaches 19 = .ok (.if_icmp .lt 23, 3) := by decide +kernel
theorem dX1_reaches_42 : decode cX1_reaches 42 = .ok (.iconst 0, 1) := by decide +kernel
theorem dX1_reaches_43 : decode cX1_reaches 43 = .ok (.ireturn, 1) := by decide +kernel
theorem dX1_reaches_22 : decode cX1_reaches 22 = .ok (.iload_n 0, 1) := by decide +kernel
theorem dX1_reaches_23 : decode cX1_reaches 23 = .ok (.iload_n 1, 1) := by decide +kernel
theorem dX1_reaches_24 : decode cX1_reaches 24 = .ok (.if_icmp .ge 18, 3) := by decide +kernel
theorem dX1_reaches_27 : decode cX1_reaches 27 = .ok (.iload_n 1, 1) := by decide +kernel
theorem dX1_reaches_28 : decode cX1_reaches 28 = .ok (.iconst 4, 1) := by decide +kernel
theorem dX1_reaches_29 : decode cX1_reaches 29 = .ok (.if_icmp .lt 13, 3) := by decide +kernel
theorem dX1_reaches_32 : decode cX1_reaches 32 = .ok (.iload_n 1, 1) := by decide +kernel
theorem dX1_reaches_33 : decode cX1_reaches 33 = .ok (.bipush 7, 2) := by decide +kernel
theorem dX1_reaches_35 : decode cX1_reaches 35 = .ok (.if_icmp .gt 7, 3) := by decide +kernel
theorem dX1_reaches_38 : decode cX1_reaches 38 = .ok (.iconst 1, 1) := by decide +kernel
theorem dX1_reaches_39 : decode cX1_reaches 39 = .ok (.goto 4, 3) := by decide +kernel
theorem dX1_reaches_10 : decode cX1_reaches 10 = .ok (.iload_n 1, 1) := by decide +kernel
theorem dX1_reaches_11 : decode cX1_reaches 11 = .ok (.iconst 3, 1) := by decide +kernel
theorem dX1_reaches_12 : decode cX1_reaches 12 = .ok (.if_icmp .ne 5, 3) := by decide +kernel
def fn_co_reaches (k : Int32) (j : Int32) : Int32 := (if k = j then 1 else (if k = 2 then (if j = 3 then 1 else (if k < 1 then 0 else (if j ≤ k then 0 else (if j < 4 then 0 else (if 7 < j then 0 else 1))))) else (if k < 1 then 0 else (if j ≤ k then 0 else (if j < 4 then 0 else (if 7 < j then 0 else 1))))))
set_option maxHeartbeats 4000000 in
set_option maxRecDepth 100000 in
theorem co_reaches (g : zz_G) (k : Int32) (j : Int32) : zz_I g yX1_reaches (.code yX1_reaches cX1_reaches 2 (some .boolean)) { frames := 0, cells := 0, slots := 0, locals := 0 } [.int k, .int j] [] (fun (r : Int32) (u : va_W) => r = fn_co_reaches k j ∧ u = []) := by
  refine zz_I.intro (own := RX1) (cc := cX1_reaches) (nL := 2) (by decide) rfl (Nat.le_of_ble_eq_true rfl) ?_
  intro p l e s m args below meth c A ls hC hnm hZ hl
  obtain ⟨hx, hb, hml, hown, hts, hr, hlocks, hK⟩ := id hC
  have hl : lv_has ls 2 [(0, .int k), (1, .int j)] := hl
  have hZ : zz_Z g A s.heap [] s.heap [] := hZ
  refine lv_iload_n hx hb dX1_reaches_0 rfl (lv_at hl 0 rfl) ?_
  refine lv_iload_n hx hb dX1_reaches_1 rfl (lv_at hl 1 rfl) ?_
  refine lv_icmp_eq (tgt := 15) hx hb dX1_reaches_2 (by decide) (fun c1 => ?_) (fun c1 => ?_)
  · refine lv_iconst (v := 1) hx hb dX1_reaches_15 (by decide) ?_
    exact zz_zret hC hZ (by decide) (⟨by rw [fn_co_reaches, if_pos c1], rfl⟩) (Nat.le_of_ble_eq_true rfl) (Nat.le_of_ble_eq_true rfl) dX1_reaches_16
  · refine lv_iload_n hx hb dX1_reaches_5 rfl (lv_at hl 0 rfl) ?_
    refine lv_iconst (v := 2) hx hb dX1_reaches_6 (by decide) ?_
    refine lv_icmp_ne (tgt := 17) hx hb dX1_reaches_7 (by decide) (fun c2 => ?_) (fun c2 => ?_)
    · refine lv_iload_n hx hb dX1_reaches_17 rfl (lv_at hl 0 rfl) ?_
      refine lv_iconst (v := 1) hx hb dX1_reaches_18 (by decide) ?_
      refine lv_icmp_lt (tgt := 42) hx hb dX1_reaches_19 (by decide) (fun c3 => ?_) (fun c3 => ?_)
      · refine lv_iconst (v := 0) hx hb dX1_reaches_42 (by decide) ?_
        exact zz_zret hC hZ (by decide) (⟨by rw [fn_co_reaches, if_neg c1, if_neg c2, if_pos c3], rfl⟩) (Nat.le_of_ble_eq_true rfl) (Nat.le_of_ble_eq_true rfl) dX1_reaches_43
      · refine lv_iload_n hx hb dX1_reaches_22 rfl (lv_at hl 0 rfl) ?_
        refine lv_iload_n hx hb dX1_reaches_23 rfl (lv_at hl 1 rfl) ?_
        refine lv_icmp_ge (tgt := 42) hx hb dX1_reaches_24 (by decide) (fun c4 => ?_) (fun c4 => ?_)
        · refine lv_iconst (v := 0) hx hb dX1_reaches_42 (by decide) ?_
          exact zz_zret hC hZ (by decide) (⟨by rw [fn_co_reaches, if_neg c1, if_neg c2, if_neg c3, if_pos c4], rfl⟩) (Nat.le_of_ble_eq_true rfl) (Nat.le_of_ble_eq_true rfl) dX1_reaches_43
        · refine lv_iload_n hx hb dX1_reaches_27 rfl (lv_at hl 1 rfl) ?_
          refine lv_iconst (v := 4) hx hb dX1_reaches_28 (by decide) ?_
          refine lv_icmp_lt (tgt := 42) hx hb dX1_reaches_29 (by decide) (fun c5 => ?_) (fun c5 => ?_)
          · refine lv_iconst (v := 0) hx hb dX1_reaches_42 (by decide) ?_
            exact zz_zret hC hZ (by decide) (⟨by rw [fn_co_reaches, if_neg c1, if_neg c2, if_neg c3, if_neg c4, if_pos c5], rfl⟩) (Nat.le_of_ble_eq_true rfl) (Nat.le_of_ble_eq_true rfl) dX1_reaches_43
          · refine lv_iload_n hx hb dX1_reaches_32 rfl (lv_at hl 1 rfl) ?_
            refine lv_bipush (v := 7) hx hb dX1_reaches_33 (by decide) ?_
            refine lv_icmp_gt (tgt := 42) hx hb dX1_reaches_35 (by decide) (fun c6 => ?_) (fun c6 => ?_)
            · refine lv_iconst (v := 0) hx hb dX1_reaches_42 (by decide) ?_
              exact zz_zret hC hZ (by decide) (⟨by rw [fn_co_reaches, if_neg c1, if_neg c2, if_neg c3, if_neg c4, if_neg c5, if_pos c6], rfl⟩) (Nat.le_of_ble_eq_true rfl) (Nat.le_of_ble_eq_true rfl) dX1_reaches_43
            · refine lv_iconst (v := 1) hx hb dX1_reaches_38 (by decide) ?_
              refine lv_goto (tgt := 43) hx hb dX1_reaches_39 (by decide) ?_
              exact zz_zret hC hZ (by decide) (⟨by rw [fn_co_reaches, if_neg c1, if_neg c2, if_neg c3, if_neg c4, if_neg c5, if_neg c6], rfl⟩) (Nat.le_of_ble_eq_true rfl) (Nat.le_of_ble_eq_true rfl) dX1_reaches_43
    · refine lv_iload_n hx hb dX1_reaches_10 rfl (lv_at hl 1 rfl) ?_
      refine lv_iconst (v := 3) hx hb dX1_reaches_11 (by decide) ?_
      refine lv_icmp_ne (tgt := 17) hx hb dX1_reaches_12 (by decide) (fun c7 => ?_) (fun c7 => ?_)
      · refine lv_iload_n hx hb dX1_reaches_17 rfl (lv_at hl 0 rfl) ?_
        refine lv_iconst (v := 1) hx hb dX1_reaches_18 (by decide) ?_
        refine lv_icmp_lt (tgt := 42) hx hb dX1_reaches_19 (by decide) (fun c8 => ?_) (fun c8 => ?_)
        · refine lv_iconst (v := 0) hx hb dX1_reaches_42 (by decide) ?_
          exact zz_zret hC hZ (by decide) (⟨by rw [fn_co_reaches, if_neg c1, if_pos c2, if_neg c7, if_pos c8], rfl⟩) (Nat.le_of_ble_eq_true rfl) (Nat.le_of_ble_eq_true rfl) dX1_reaches_43
        · refine lv_iload_n hx hb dX1_reaches_22 rfl (lv_at hl 0 rfl) ?_
          refine lv_iload_n hx hb dX1_reaches_23 rfl (lv_at hl 1 rfl) ?_
          refine lv_icmp_ge (tgt := 42) hx hb dX1_reaches_24 (by decide) (fun c9 => ?_) (fun c9 => ?_)
          · refine lv_iconst (v := 0) hx hb dX1_reaches_42 (by decide) ?_
            exact zz_zret hC hZ (by decide) (⟨by rw [fn_co_reaches, if_neg c1, if_pos c2, if_neg c7, if_neg c8, if_pos c9], rfl⟩) (Nat.le_of_ble_eq_true rfl) (Nat.le_of_ble_eq_true rfl) dX1_reaches_43
          · refine lv_iload_n hx hb dX1_reaches_27 rfl (lv_at hl 1 rfl) ?_
            refine lv_iconst (v := 4) hx hb dX1_reaches_28 (by decide) ?_
            refine lv_icmp_lt (tgt := 42) hx hb dX1_reaches_29 (by decide) (fun c10 => ?_) (fun c10 => ?_)
            · refine lv_iconst (v := 0) hx hb dX1_reaches_42 (by decide) ?_
              exact zz_zret hC hZ (by decide) (⟨by rw [fn_co_reaches, if_neg c1, if_pos c2, if_neg c7, if_neg c8, if_neg c9, if_pos c10], rfl⟩) (Nat.le_of_ble_eq_true rfl) (Nat.le_of_ble_eq_true rfl) dX1_reaches_43
            · refine lv_iload_n hx hb dX1_reaches_32 rfl (lv_at hl 1 rfl) ?_
              refine lv_bipush (v := 7) hx hb dX1_reaches_33 (by decide) ?_
              refine lv_icmp_gt (tgt := 42) hx hb dX1_reaches_35 (by decide) (fun c11 => ?_) (fun c11 => ?_)
              · refine lv_iconst (v := 0) hx hb dX1_reaches_42 (by decide) ?_
                exact zz_zret hC hZ (by decide) (⟨by rw [fn_co_reaches, if_neg c1, if_pos c2, if_neg c7, if_neg c8, if_neg c9, if_neg c10, if_pos c11], rfl⟩) (Nat.le_of_ble_eq_true rfl) (Nat.le_of_ble_eq_true rfl) dX1_reaches_43
              · refine lv_iconst (v := 1) hx hb dX1_reaches_38 (by decide) ?_
                refine lv_goto (tgt := 43) hx hb dX1_reaches_39 (by decide) ?_
                exact zz_zret hC hZ (by decide) (⟨by rw [fn_co_reaches, if_neg c1, if_pos c2, if_neg c7, if_neg c8, if_neg c9, if_neg c10, if_neg c11], rfl⟩) (Nat.le_of_ble_eq_true rfl) (Nat.le_of_ble_eq_true rfl) dX1_reaches_43
      · refine lv_iconst (v := 1) hx hb dX1_reaches_15 (by decide) ?_
        exact zz_zret hC hZ (by decide) (⟨by rw [fn_co_reaches, if_neg c1, if_pos c2, if_pos c7], rfl⟩) (Nat.le_of_ble_eq_true rfl) (Nat.le_of_ble_eq_true rfl) dX1_reaches_16
