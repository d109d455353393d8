theorem dg_X6_has_0 : (decode cX6_has 0 = .ok (.iload_n 1, 1)) ∧ (decode cX6_has 1 = .ok (.ifCond .lt 15, 3)) ∧ (decode cX6_has 4 = .ok (.iload_n 1, 1)) ∧ (decode cX6_has 5 = .ok (.aload_n 0, 1)) ∧ (decode cX6_has 6 = .ok (.getfield 38, 3)) ∧ (decode cX6_has 9 = .ok (.if_icmp .ge 7, 3)) ∧ (decode cX6_has 12 = .ok (.iconst 1, 1)) ∧ (decode cX6_has 13 = .ok (.goto 4, 3)) ∧ (decode cX6_has 16 = .ok (.iconst 0, 1)) ∧ (decode cX6_has 17 = .ok (.ireturn, 1)) := by decide +kernel
theorem dX6_has_0 : decode cX6_has 0 = .ok (.iload_n 1, 1) := dg_X6_has_0.1
theorem dX6_has_1 : decode cX6_has 1 = .ok (.ifCond .lt 15, 3) := dg_X6_has_0.2.1
theorem dX6_has_4 : decode cX6_has 4 = .ok (.iload_n 1, 1) := dg_X6_has_0.2.2.1
theorem dX6_has_5 : decode cX6_has 5 = .ok (.aload_n 0, 1) := dg_X6_has_0.2.2.2.1
theorem dX6_has_6 : decode cX6_has 6 = .ok (.getfield 38, 3) := dg_X6_has_0.2.2.2.2.1
theorem dX6_has_9 : decode cX6_has 9 = .ok (.if_icmp .ge 7, 3) := dg_X6_has_0.2.2.2.2.2.1
theorem dX6_has_12 : decode cX6_has 12 = .ok (.iconst 1, 1) := dg_X6_has_0.2.2.2.2.2.2.1
theorem dX6_has_13 : decode cX6_has 13 = .ok (.goto 4, 3) := dg_X6_has_0.2.2.2.2.2.2.2.1
theorem dX6_has_16 : decode cX6_has 16 = .ok (.iconst 0, 1) := dg_X6_has_0.2.2.2.2.2.2.2.2.1
theorem dX6_has_17 : decode cX6_has 17 = .ok (.ireturn, 1) := dg_X6_has_0.2.2.2.2.2.2.2.2.2
theorem zk_26 : Cond.fieldLink RX6 38 RX6 "arrays" "I" ∈ zz_w := zz_in (List.mem_append_right _ (List.mem_append_left _ (List.mem_of_getElem? (i := 26) (by decide +kernel)))) rfl
theorem zi_X6_a : ∀ w ∈ u_ws RX6 TX6 10, w ∈ lw_tbl := by decide +kernel
theorem zi_X6_b : ∀ w ∈ u_ws RX6 TX6 10, goodWord w = true := by decide +kernel
theorem zi_X6 : ∀ w ∈ u_ws RX6 TX6 10, w ∈ zz_w := fun w h => zz_in (zi_X6_a w h) (zi_X6_b w h)
theorem zf_X6_38 : zz_f RX6 38 5 0 := ⟨RX6, TX6, 10, rfl, zi_X6, by decide, zk_26⟩
def fn_co_has (ar : Int32) (k : Int32) : Int32 := (if k < 0 then 0 else (if ar ≤ k then 0 else 1))
abbrev rm_co_has : Room := { frames := 0, cells := 0, slots := 0, locals := 0 }
abbrev po_co_has (g : zz_G) (st : Nat) (kd : Nat) (dp : Nat) (cl : Nat) (sa : Nat) (ln : Nat) (bt : Nat) (pn : Nat) (bf : Nat) (ar : Int32) (us : Int32) (k : Int32) : Int32 → va_W → Prop := fun (r : Int32) (u : va_W) => r = fn_co_has ar k ∧ u = [cw_k5 st ar us kd dp cl sa ln bt pn bf]
set_option maxHeartbeats 4000000 in
set_option maxRecDepth 100000 in
theorem co_has (g : zz_G) (st : Nat) (kd : Nat) (dp : Nat) (cl : Nat) (sa : Nat) (ln : Nat) (bt : Nat) (pn : Nat) (bf : Nat) (ar : Int32) (us : Int32) (k : Int32) : zz_I g yX6_has (.code yX6_has cX6_has 2 (some .boolean)) rm_co_has [.ref st, .int k] [cw_k5 st ar us kd dp cl sa ln bt pn bf] (po_co_has g st kd dp cl sa ln bt pn bf ar us k) := by
  refine zz_I.intro (own := RX6) (cc := cX6_has) (nL := 2) (by decide) rfl (Nat.le_of_ble_eq_true rfl) ?_
  intro p l e s m args below meth c A H locs ls hC hnm hs hZ hl
  obtain ⟨hx, hb, hml, hown, hts, hr, hlocks, hK⟩ := id hC
  have hl : lv_has ls 2 [(0, .ref st), (1, .int k)] := hl
  have hZ : zz_Z g A s.heap [cw_k5 st ar us kd dp cl sa ln bt pn bf] H locs := hZ
  refine lv_iload_n hx hb dX6_has_0 rfl (lv_at hl 1 rfl) ?_
  refine lv_if_lt (tgt := 16) hx hb dX6_has_1 (by decide) (fun c1 => ?_) (fun c1 => ?_)
  · refine lv_iconst (v := 0) hx hb dX6_has_16 (by decide) ?_
    exact zz_zret hC hZ (by decide) (⟨by show _ = _; rw [fn_co_has, if_pos c1], rfl⟩) (Nat.le_of_ble_eq_true rfl) (Nat.le_of_ble_eq_true rfl) dX6_has_17
  · refine lv_iload_n hx hb dX6_has_4 rfl (lv_at hl 1 rfl) ?_
    refine lv_aload_n hx hb dX6_has_5 rfl (lv_at hl 0 rfl) ?_
    refine zz_get hC hZ 0 rfl zf_X6_38 rfl dX6_has_6 ?_
    refine lv_icmp_ge (tgt := 16) hx hb dX6_has_9 (by decide) (fun c2 => ?_) (fun c2 => ?_)
    · refine lv_iconst (v := 0) hx hb dX6_has_16 (by decide) ?_
      exact zz_zret hC hZ (by decide) (⟨by show _ = _; rw [fn_co_has, if_neg c1, if_pos c2], rfl⟩) (Nat.le_of_ble_eq_true rfl) (Nat.le_of_ble_eq_true rfl) dX6_has_17
    · refine lv_iconst (v := 1) hx hb dX6_has_12 (by decide) ?_
      refine lv_goto (tgt := 17) hx hb dX6_has_13 (by decide) ?_
      exact zz_zret hC hZ (by decide) (⟨by show _ = _; rw [fn_co_has, if_neg c1, if_neg c2], rfl⟩) (Nat.le_of_ble_eq_true rfl) (Nat.le_of_ble_eq_true rfl) dX6_has_17
theorem dg_X6_fits_0 : (decode cX6_fits 0 = .ok (.aload_n 0, 1)) ∧ (decode cX6_fits 1 = .ok (.getfield 38, 3)) ∧ (decode cX6_fits 4 = .ok (.i2l, 1)) ∧ (decode cX6_fits 5 = .ok (.lload_n 1, 1)) ∧ (decode cX6_fits 6 = .ok (.ladd, 1)) ∧ (decode cX6_fits 7 = .ok (.ldc2_w 42, 3)) ∧ (decode cX6_fits 10 = .ok (.lcmp, 1)) ∧ (decode cX6_fits 11 = .ok (.ifCond .gt 21, 3)) ∧ (decode cX6_fits 14 = .ok (.aload_n 0, 1)) ∧ (decode cX6_fits 15 = .ok (.getfield 44, 3)) ∧ (decode cX6_fits 18 = .ok (.i2l, 1)) ∧ (decode cX6_fits 19 = .ok (.lload_n 3, 1)) ∧ (decode cX6_fits 20 = .ok (.ladd, 1)) ∧ (decode cX6_fits 21 = .ok (.ldc2_w 47, 3)) ∧ (decode cX6_fits 24 = .ok (.lcmp, 1)) ∧ (decode cX6_fits 25 = .ok (.ifCond .gt 7, 3)) := by decide +kernel
theorem dX6_fits_0 : decode cX6_fits 0 = .ok (.aload_n 0, 1) := dg_X6_fits_0.1
theorem dX6_fits_1 : decode cX6_fits 1 = .ok (.getfield 38, 3) := dg_X6_fits_0.2.1
theorem dX6_fits_4 : decode cX6_fits 4 = .ok (.i2l, 1) := dg_X6_fits_0.2.2.1
theorem dX6_fits_5 : decode cX6_fits 5 = .ok (.lload_n 1, 1) := dg_X6_fits_0.2.2.2.1
theorem dX6_fits_6 : decode cX6_fits 6 = .ok (.ladd, 1) := dg_X6_fits_0.2.2.2.2.1
theorem dX6_fits_7 : decode cX6_fits 7 = .ok (.ldc2_w 42, 3) := dg_X6_fits_0.2.2.2.2.2.1
theorem dX6_fits_10 : decode cX6_fits 10 = .ok (.lcmp, 1) := dg_X6_fits_0.2.2.2.2.2.2.1
theorem dX6_fits_11 : decode cX6_fits 11 = .ok (.ifCond .gt 21, 3) := dg_X6_fits_0.2.2.2.2.2.2.2.1
theorem dX6_fits_14 : decode cX6_fits 14 = .ok (.aload_n 0, 1) := dg_X6_fits_0.2.2.2.2.2.2.2.2.1
theorem dX6_fits_15 : decode cX6_fits 15 = .ok (.getfield 44, 3) := dg_X6_fits_0.2.2.2.2.2.2.2.2.2.1
theorem dX6_fits_18 : decode cX6_fits 18 = .ok (.i2l, 1) := dg_X6_fits_0.2.2.2.2.2.2.2.2.2.2.1
theorem dX6_fits_19 : decode cX6_fits 19 = .ok (.lload_n 3, 1) := dg_X6_fits_0.2.2.2.2.2.2.2.2.2.2.2.1
theorem dX6_fits_20 : decode cX6_fits 20 = .ok (.ladd, 1) := dg_X6_fits_0.2.2.2.2.2.2.2.2.2.2.2.2.1
theorem dX6_fits_21 : decode cX6_fits 21 = .ok (.ldc2_w 47, 3) := dg_X6_fits_0.2.2.2.2.2.2.2.2.2.2.2.2.2.1
theorem dX6_fits_24 : decode cX6_fits 24 = .ok (.lcmp, 1) := dg_X6_fits_0.2.2.2.2.2.2.2.2.2.2.2.2.2.2.1
theorem dX6_fits_25 : decode cX6_fits 25 = .ok (.ifCond .gt 7, 3) := dg_X6_fits_0.2.2.2.2.2.2.2.2.2.2.2.2.2.2.2
theorem dg_X6_fits_28 : (decode cX6_fits 28 = .ok (.iconst 1, 1)) ∧ (decode cX6_fits 29 = .ok (.goto 4, 3)) ∧ (decode cX6_fits 32 = .ok (.iconst 0, 1)) ∧ (decode cX6_fits 33 = .ok (.ireturn, 1)) := by decide +kernel
theorem dX6_fits_28 : decode cX6_fits 28 = .ok (.iconst 1, 1) := dg_X6_fits_28.1
theorem dX6_fits_29 : decode cX6_fits 29 = .ok (.goto 4, 3) := dg_X6_fits_28.2.1
theorem dX6_fits_32 : decode cX6_fits 32 = .ok (.iconst 0, 1) := dg_X6_fits_28.2.2.1
theorem dX6_fits_33 : decode cX6_fits 33 = .ok (.ireturn, 1) := dg_X6_fits_28.2.2.2
theorem zk_244 : Cond.constantLong RX6 42 (60) ∈ zz_w := zz_in (List.mem_append_right _ (List.mem_append_right _ (List.mem_append_left _ (List.mem_of_getElem? (i := 4) (by decide +kernel))))) rfl
theorem zk_29 : Cond.fieldLink RX6 44 RX6 "used" "I" ∈ zz_w := zz_in (List.mem_append_right _ (List.mem_append_left _ (List.mem_of_getElem? (i := 29) (by decide +kernel)))) rfl
theorem zf_X6_44 : zz_f RX6 44 5 1 := ⟨RX6, TX6, 10, rfl, zi_X6, by decide, zk_29⟩
theorem zk_245 : Cond.constantLong RX6 47 (4000) ∈ zz_w := zz_in (List.mem_append_right _ (List.mem_append_right _ (List.mem_append_left _ (List.mem_of_getElem? (i := 5) (by decide +kernel))))) rfl
def fn_co_fits (ar : Int32) (us : Int32) (ma : Int64) (me : Int64) : Int32 := (if 60 < (ar.toInt64 + ma) then 0 else (if 4000 < (us.toInt64 + me) then 0 else 1))
abbrev rm_co_fits : Room := { frames := 0, cells := 0, slots := 0, locals := 0 }
abbrev po_co_fits (g : zz_G) (st : Nat) (kd : Nat) (dp : Nat) (cl : Nat) (sa : Nat) (ln : Nat) (bt : Nat) (pn : Nat) (bf : Nat) (ar : Int32) (us : Int32) (ma : Int64) (me : Int64) : Int32 → va_W → Prop := fun (r : Int32) (u : va_W) => r = fn_co_fits ar us ma me ∧ u = [cw_k5 st ar us kd dp cl sa ln bt pn bf]
set_option maxHeartbeats 4000000 in
set_option maxRecDepth 100000 in
theorem co_fits (g : zz_G) (st : Nat) (kd : Nat) (dp : Nat) (cl : Nat) (sa : Nat) (ln : Nat) (bt : Nat) (pn : Nat) (bf : Nat) (ar : Int32) (us : Int32) (ma : Int64) (me : Int64) : zz_I g yX6_fits (.code yX6_fits cX6_fits 5 (some .boolean)) rm_co_fits [.ref st, .long ma, .long me] [cw_k5 st ar us kd dp cl sa ln bt pn bf] (po_co_fits g st kd dp cl sa ln bt pn bf ar us ma me) := by
  refine zz_I.intro (own := RX6) (cc := cX6_fits) (nL := 5) (by decide) rfl (Nat.le_of_ble_eq_true rfl) ?_
  intro p l e s m args below meth c A H locs ls hC hnm hs hZ hl
  obtain ⟨hx, hb, hml, hown, hts, hr, hlocks, hK⟩ := id hC
  have hl : lv_has ls 5 [(0, .ref st), (1, .long ma), (3, .long me)] := hl
  have hZ : zz_Z g A s.heap [cw_k5 st ar us kd dp cl sa ln bt pn bf] H locs := hZ
  refine lv_aload_n hx hb dX6_fits_0 rfl (lv_at hl 0 rfl) ?_
  refine zz_get hC hZ 0 rfl zf_X6_38 rfl dX6_fits_1 ?_
  refine lv_i2l hx hb dX6_fits_4 rfl ?_
  refine lv_lload_n hx hb dX6_fits_5 rfl (lv_at hl 1 rfl) ?_
  refine lv_ladd hx hb dX6_fits_6 ?_
  refine lv_ldc2 hx hb hown (hts _ zk_244) dX6_fits_7 ?_
  refine zz_lcmp_gt (tgt := 32) hC dX6_fits_10 dX6_fits_11 (by decide) (fun c1 => ?_) (fun c1 => ?_)
  · refine lv_iconst (v := 0) hx hb dX6_fits_32 (by decide) ?_
    exact zz_zret hC hZ (by decide) (⟨by show _ = _; rw [fn_co_fits, if_pos c1], rfl⟩) (Nat.le_of_ble_eq_true rfl) (Nat.le_of_ble_eq_true rfl) dX6_fits_33
  · refine lv_aload_n hx hb dX6_fits_14 rfl (lv_at hl 0 rfl) ?_
    refine zz_get hC hZ 0 rfl zf_X6_44 rfl dX6_fits_15 ?_
    refine lv_i2l hx hb dX6_fits_18 rfl ?_
    refine lv_lload_n hx hb dX6_fits_19 rfl (lv_at hl 2 rfl) ?_
    refine lv_ladd hx hb dX6_fits_20 ?_
    refine lv_ldc2 hx hb hown (hts _ zk_245) dX6_fits_21 ?_
    refine zz_lcmp_gt (tgt := 32) hC dX6_fits_24 dX6_fits_25 (by decide) (fun c2 => ?_) (fun c2 => ?_)
    · refine lv_iconst (v := 0) hx hb dX6_fits_32 (by decide) ?_
      exact zz_zret hC hZ (by decide) (⟨by show _ = _; rw [fn_co_fits, if_neg c1, if_pos c2], rfl⟩) (Nat.le_of_ble_eq_true rfl) (Nat.le_of_ble_eq_true rfl) dX6_fits_33
    · refine lv_iconst (v := 1) hx hb dX6_fits_28 (by decide) ?_
      refine lv_goto (tgt := 33) hx hb dX6_fits_29 (by decide) ?_
      exact zz_zret hC hZ (by decide) (⟨by show _ = _; rw [fn_co_fits, if_neg c1, if_neg c2], rfl⟩) (Nat.le_of_ble_eq_true rfl) (Nat.le_of_ble_eq_true rfl) dX6_fits_33
theorem dg_X6_hasPlace_0 : (decode cX6_hasPlace 0 = .ok (.iload_n 2, 1)) ∧ (decode cX6_hasPlace 1 = .ok (.ifCond .lt 17, 3)) ∧ (decode cX6_hasPlace 4 = .ok (.iload_n 2, 1)) ∧ (decode cX6_hasPlace 5 = .ok (.aload_n 0, 1)) ∧ (decode cX6_hasPlace 6 = .ok (.getfield 24, 3)) ∧ (decode cX6_hasPlace 9 = .ok (.iload_n 1, 1)) ∧ (decode cX6_hasPlace 10 = .ok (.iaload, 1)) ∧ (decode cX6_hasPlace 11 = .ok (.if_icmp .ge 7, 3)) ∧ (decode cX6_hasPlace 14 = .ok (.iconst 1, 1)) ∧ (decode cX6_hasPlace 15 = .ok (.goto 4, 3)) ∧ (decode cX6_hasPlace 18 = .ok (.iconst 0, 1)) ∧ (decode cX6_hasPlace 19 = .ok (.ireturn, 1)) := by decide +kernel
theorem dX6_hasPlace_0 : decode cX6_hasPlace 0 = .ok (.iload_n 2, 1) := dg_X6_hasPlace_0.1
theorem dX6_hasPlace_1 : decode cX6_hasPlace 1 = .ok (.ifCond .lt 17, 3) := dg_X6_hasPlace_0.2.1
theorem dX6_hasPlace_4 : decode cX6_hasPlace 4 = .ok (.iload_n 2, 1) := dg_X6_hasPlace_0.2.2.1
theorem dX6_hasPlace_5 : decode cX6_hasPlace 5 = .ok (.aload_n 0, 1) := dg_X6_hasPlace_0.2.2.2.1
theorem dX6_hasPlace_6 : decode cX6_hasPlace 6 = .ok (.getfield 24, 3) := dg_X6_hasPlace_0.2.2.2.2.1
theorem dX6_hasPlace_9 : decode cX6_hasPlace 9 = .ok (.iload_n 1, 1) := dg_X6_hasPlace_0.2.2.2.2.2.1
theorem dX6_hasPlace_10 : decode cX6_hasPlace 10 = .ok (.iaload, 1) := dg_X6_hasPlace_0.2.2.2.2.2.2.1
theorem dX6_hasPlace_11 : decode cX6_hasPlace 11 = .ok (.if_icmp .ge 7, 3) := dg_X6_hasPlace_0.2.2.2.2.2.2.2.1
theorem dX6_hasPlace_14 : decode cX6_hasPlace 14 = .ok (.iconst 1, 1) := dg_X6_hasPlace_0.2.2.2.2.2.2.2.2.1
theorem dX6_hasPlace_15 : decode cX6_hasPlace 15 = .ok (.goto 4, 3) := dg_X6_hasPlace_0.2.2.2.2.2.2.2.2.2.1
theorem dX6_hasPlace_18 : decode cX6_hasPlace 18 = .ok (.iconst 0, 1) := dg_X6_hasPlace_0.2.2.2.2.2.2.2.2.2.2.1
theorem dX6_hasPlace_19 : decode cX6_hasPlace 19 = .ok (.ireturn, 1) := dg_X6_hasPlace_0.2.2.2.2.2.2.2.2.2.2.2
theorem zk_49 : Cond.fieldLink RX6 24 RX6 "length" "[I" ∈ zz_w := zz_in (List.mem_append_right _ (List.mem_append_left _ (List.mem_of_getElem? (i := 49) (by decide +kernel)))) rfl
theorem zf_X6_24 : zz_f RX6 24 5 6 := ⟨RX6, TX6, 10, rfl, zi_X6, by decide, zk_49⟩
def fn_co_hasPlace (lnf : Nat → Int32) (a : Nat) (k : Int32) : Int32 := (if k < 0 then 0 else (if (lnf a) ≤ k then 0 else 1))
abbrev rm_co_hasPlace : Room := { frames := 0, cells := 0, slots := 0, locals := 0 }
abbrev po_co_hasPlace (g : zz_G) (st : Nat) (kd : Nat) (dp : Nat) (cl : Nat) (sa : Nat) (ln : Nat) (bt : Nat) (pn : Nat) (bf : Nat) (na : Nat) (nu : Nat) (lnf : Nat → Int32) (a : Nat) (k : Int32) (h_60 : a < 60) : Int32 → va_W → Prop := fun (r : Int32) (u : va_W) => r = fn_co_hasPlace lnf a k ∧ u = [cw_k5 st (nI na) (nI nu) kd dp cl sa ln bt pn bf, cw_i g ln 60 lnf]
set_option maxHeartbeats 4000000 in
set_option maxRecDepth 100000 in
theorem co_hasPlace (g : zz_G) (st : Nat) (kd : Nat) (dp : Nat) (cl : Nat) (sa : Nat) (ln : Nat) (bt : Nat) (pn : Nat) (bf : Nat) (na : Nat) (nu : Nat) (lnf : Nat → Int32) (a : Nat) (k : Int32) (h_60 : a < 60) : zz_I g yX6_hasPlace (.code yX6_hasPlace cX6_hasPlace 3 (some .boolean)) rm_co_hasPlace [.ref st, .int (nI a), .int k] [cw_k5 st (nI na) (nI nu) kd dp cl sa ln bt pn bf, cw_i g ln 60 lnf] (po_co_hasPlace g st kd dp cl sa ln bt pn bf na nu lnf a k h_60) := by
  refine zz_I.intro (own := RX6) (cc := cX6_hasPlace) (nL := 3) (by decide) rfl (Nat.le_of_ble_eq_true rfl) ?_
  intro p l e s m args below meth c A H locs ls hC hnm hs hZ hl
  obtain ⟨hx, hb, hml, hown, hts, hr, hlocks, hK⟩ := id hC
  have hl : lv_has ls 3 [(0, .ref st), (1, .int (nI a)), (2, .int k)] := hl
  have hZ : zz_Z g A s.heap [cw_k5 st (nI na) (nI nu) kd dp cl sa ln bt pn bf, cw_i g ln 60 lnf] H locs := hZ
  refine lv_iload_n hx hb dX6_hasPlace_0 rfl (lv_at hl 2 rfl) ?_
  refine lv_if_lt (tgt := 18) hx hb dX6_hasPlace_1 (by decide) (fun c1 => ?_) (fun c1 => ?_)
  · refine lv_iconst (v := 0) hx hb dX6_hasPlace_18 (by decide) ?_
    exact zz_zret hC hZ (by decide) (⟨by show _ = _; rw [fn_co_hasPlace, if_pos c1], rfl⟩) (Nat.le_of_ble_eq_true rfl) (Nat.le_of_ble_eq_true rfl) dX6_hasPlace_19
  · refine lv_iload_n hx hb dX6_hasPlace_4 rfl (lv_at hl 2 rfl) ?_
    refine lv_aload_n hx hb dX6_hasPlace_5 rfl (lv_at hl 0 rfl) ?_
    refine zz_get hC hZ 0 rfl zf_X6_24 rfl dX6_hasPlace_6 ?_
    refine lv_iload_n hx hb dX6_hasPlace_9 rfl (lv_at hl 1 rfl) ?_
    have bd2 : a < 60 := by omega
    refine zz_ialdn hC hZ 1 rfl bd2 (by decide) dX6_hasPlace_10 ?_
    refine lv_icmp_ge (tgt := 18) hx hb dX6_hasPlace_11 (by decide) (fun c3 => ?_) (fun c3 => ?_)
    · refine lv_iconst (v := 0) hx hb dX6_hasPlace_18 (by decide) ?_
      exact zz_zret hC hZ (by decide) (⟨by show _ = _; rw [fn_co_hasPlace, if_neg c1, if_pos c3], rfl⟩) (Nat.le_of_ble_eq_true rfl) (Nat.le_of_ble_eq_true rfl) dX6_hasPlace_19
    · refine lv_iconst (v := 1) hx hb dX6_hasPlace_14 (by decide) ?_
      refine lv_goto (tgt := 19) hx hb dX6_hasPlace_15 (by decide) ?_
      exact zz_zret hC hZ (by decide) (⟨by show _ = _; rw [fn_co_hasPlace, if_neg c1, if_neg c3], rfl⟩) (Nat.le_of_ble_eq_true rfl) (Nat.le_of_ble_eq_true rfl) dX6_hasPlace_19
theorem dg_X6_hasRange_0 : (decode cX6_hasRange 0 = .ok (.iload_n 2, 1)) ∧ (decode cX6_hasRange 1 = .ok (.ifCond .lt 22, 3)) ∧ (decode cX6_hasRange 4 = .ok (.iload_n 2, 1)) ∧ (decode cX6_hasRange 5 = .ok (.iload_n 3, 1)) ∧ (decode cX6_hasRange 6 = .ok (.if_icmp .gt 17, 3)) ∧ (decode cX6_hasRange 9 = .ok (.iload_n 3, 1)) ∧ (decode cX6_hasRange 10 = .ok (.aload_n 0, 1)) ∧ (decode cX6_hasRange 11 = .ok (.getfield 24, 3)) ∧ (decode cX6_hasRange 14 = .ok (.iload_n 1, 1)) ∧ (decode cX6_hasRange 15 = .ok (.iaload, 1)) ∧ (decode cX6_hasRange 16 = .ok (.if_icmp .gt 7, 3)) ∧ (decode cX6_hasRange 19 = .ok (.iconst 1, 1)) ∧ (decode cX6_hasRange 20 = .ok (.goto 4, 3)) ∧ (decode cX6_hasRange 23 = .ok (.iconst 0, 1)) ∧ (decode cX6_hasRange 24 = .ok (.ireturn, 1)) := by decide +kernel
theorem dX6_hasRange_0 : decode cX6_hasRange 0 = .ok (.iload_n 2, 1) := dg_X6_hasRange_0.1
theorem dX6_hasRange_1 : decode cX6_hasRange 1 = .ok (.ifCond .lt 22, 3) := dg_X6_hasRange_0.2.1
theorem dX6_hasRange_4 : decode cX6_hasRange 4 = .ok (.iload_n 2, 1) := dg_X6_hasRange_0.2.2.1
theorem dX6_hasRange_5 : decode cX6_hasRange 5 = .ok (.iload_n 3, 1) := dg_X6_hasRange_0.2.2.2.1
theorem dX6_hasRange_6 : decode cX6_hasRange 6 = .ok (.if_icmp .gt 17, 3) := dg_X6_hasRange_0.2.2.2.2.1
theorem dX6_hasRange_9 : decode cX6_hasRange 9 = .ok (.iload_n 3, 1) := dg_X6_hasRange_0.2.2.2.2.2.1
theorem dX6_hasRange_10 : decode cX6_hasRange 10 = .ok (.aload_n 0, 1) := dg_X6_hasRange_0.2.2.2.2.2.2.1
theorem dX6_hasRange_11 : decode cX6_hasRange 11 = .ok (.getfield 24, 3) := dg_X6_hasRange_0.2.2.2.2.2.2.2.1
theorem dX6_hasRange_14 : decode cX6_hasRange 14 = .ok (.iload_n 1, 1) := dg_X6_hasRange_0.2.2.2.2.2.2.2.2.1
theorem dX6_hasRange_15 : decode cX6_hasRange 15 = .ok (.iaload, 1) := dg_X6_hasRange_0.2.2.2.2.2.2.2.2.2.1
theorem dX6_hasRange_16 : decode cX6_hasRange 16 = .ok (.if_icmp .gt 7, 3) := dg_X6_hasRange_0.2.2.2.2.2.2.2.2.2.2.1
theorem dX6_hasRange_19 : decode cX6_hasRange 19 = .ok (.iconst 1, 1) := dg_X6_hasRange_0.2.2.2.2.2.2.2.2.2.2.2.1
theorem dX6_hasRange_20 : decode cX6_hasRange 20 = .ok (.goto 4, 3) := dg_X6_hasRange_0.2.2.2.2.2.2.2.2.2.2.2.2.1
theorem dX6_hasRange_23 : decode cX6_hasRange 23 = .ok (.iconst 0, 1) := dg_X6_hasRange_0.2.2.2.2.2.2.2.2.2.2.2.2.2.1
theorem dX6_hasRange_24 : decode cX6_hasRange 24 = .ok (.ireturn, 1) := dg_X6_hasRange_0.2.2.2.2.2.2.2.2.2.2.2.2.2.2
def fn_co_hasRange (lnf : Nat → Int32) (a : Nat) (k : Int32) (j : Int32) : Int32 := (if k < 0 then 0 else (if j < k then 0 else (if (lnf a) < j then 0 else 1)))
abbrev rm_co_hasRange : Room := { frames := 0, cells := 0, slots := 0, locals := 0 }
abbrev po_co_hasRange (g : zz_G) (st : Nat) (kd : Nat) (dp : Nat) (cl : Nat) (sa : Nat) (ln : Nat) (bt : Nat) (pn : Nat) (bf : Nat) (na : Nat) (nu : Nat) (lnf : Nat → Int32) (a : Nat) (k : Int32) (j : Int32) (h_60 : a < 60) : Int32 → va_W → Prop := fun (r : Int32) (u : va_W) => r = fn_co_hasRange lnf a k j ∧ u = [cw_k5 st (nI na) (nI nu) kd dp cl sa ln bt pn bf, cw_i g ln 60 lnf]
set_option maxHeartbeats 4000000 in
set_option maxRecDepth 100000 in
theorem co_hasRange (g : zz_G) (st : Nat) (kd : Nat) (dp : Nat) (cl : Nat) (sa : Nat) (ln : Nat) (bt : Nat) (pn : Nat) (bf : Nat) (na : Nat) (nu : Nat) (lnf : Nat → Int32) (a : Nat) (k : Int32) (j : Int32) (h_60 : a < 60) : zz_I g yX6_hasRange (.code yX6_hasRange cX6_hasRange 4 (some .boolean)) rm_co_hasRange [.ref st, .int (nI a), .int k, .int j] [cw_k5 st (nI na) (nI nu) kd dp cl sa ln bt pn bf, cw_i g ln 60 lnf] (po_co_hasRange g st kd dp cl sa ln bt pn bf na nu lnf a k j h_60) := by
  refine zz_I.intro (own := RX6) (cc := cX6_hasRange) (nL := 4) (by decide) rfl (Nat.le_of_ble_eq_true rfl) ?_
  intro p l e s m args below meth c A H locs ls hC hnm hs hZ hl
  obtain ⟨hx, hb, hml, hown, hts, hr, hlocks, hK⟩ := id hC
  have hl : lv_has ls 4 [(0, .ref st), (1, .int (nI a)), (2, .int k), (3, .int j)] := hl
  have hZ : zz_Z g A s.heap [cw_k5 st (nI na) (nI nu) kd dp cl sa ln bt pn bf, cw_i g ln 60 lnf] H locs := hZ
  refine lv_iload_n hx hb dX6_hasRange_0 rfl (lv_at hl 2 rfl) ?_
  refine lv_if_lt (tgt := 23) hx hb dX6_hasRange_1 (by decide) (fun c1 => ?_) (fun c1 => ?_)
  · refine lv_iconst (v := 0) hx hb dX6_hasRange_23 (by decide) ?_
    exact zz_zret hC hZ (by decide) (⟨by show _ = _; rw [fn_co_hasRange, if_pos c1], rfl⟩) (Nat.le_of_ble_eq_true rfl) (Nat.le_of_ble_eq_true rfl) dX6_hasRange_24
  · refine lv_iload_n hx hb dX6_hasRange_4 rfl (lv_at hl 2 rfl) ?_
    refine lv_iload_n hx hb dX6_hasRange_5 rfl (lv_at hl 3 rfl) ?_
    refine lv_icmp_gt (tgt := 23) hx hb dX6_hasRange_6 (by decide) (fun c2 => ?_) (fun c2 => ?_)
    · refine lv_iconst (v := 0) hx hb dX6_hasRange_23 (by decide) ?_
      exact zz_zret hC hZ (by decide) (⟨by show _ = _; rw [fn_co_hasRange, if_neg c1, if_pos c2], rfl⟩) (Nat.le_of_ble_eq_true rfl) (Nat.le_of_ble_eq_true rfl) dX6_hasRange_24
    · refine lv_iload_n hx hb dX6_hasRange_9 rfl (lv_at hl 3 rfl) ?_
      refine lv_aload_n hx hb dX6_hasRange_10 rfl (lv_at hl 0 rfl) ?_
      refine zz_get hC hZ 0 rfl zf_X6_24 rfl dX6_hasRange_11 ?_
      refine lv_iload_n hx hb dX6_hasRange_14 rfl (lv_at hl 1 rfl) ?_
      have bd3 : a < 60 := by omega
      refine zz_ialdn hC hZ 1 rfl bd3 (by decide) dX6_hasRange_15 ?_
      refine lv_icmp_gt (tgt := 23) hx hb dX6_hasRange_16 (by decide) (fun c4 => ?_) (fun c4 => ?_)
      · refine lv_iconst (v := 0) hx hb dX6_hasRange_23 (by decide) ?_
        exact zz_zret hC hZ (by decide) (⟨by show _ = _; rw [fn_co_hasRange, if_neg c1, if_neg c2, if_pos c4], rfl⟩) (Nat.le_of_ble_eq_true rfl) (Nat.le_of_ble_eq_true rfl) dX6_hasRange_24
      · refine lv_iconst (v := 1) hx hb dX6_hasRange_19 (by decide) ?_
        refine lv_goto (tgt := 24) hx hb dX6_hasRange_20 (by decide) ?_
        exact zz_zret hC hZ (by decide) (⟨by show _ = _; rw [fn_co_hasRange, if_neg c1, if_neg c2, if_neg c4], rfl⟩) (Nat.le_of_ble_eq_true rfl) (Nat.le_of_ble_eq_true rfl) dX6_hasRange_24
theorem dg_X6_hasMany_0 : (decode cX6_hasMany 0 = .ok (.iload_n 2, 1)) ∧ (decode cX6_hasMany 1 = .ok (.ifCond .lt 29, 3)) ∧ (decode cX6_hasMany 4 = .ok (.iload_n 2, 1)) ∧ (decode cX6_hasMany 5 = .ok (.aload_n 0, 1)) ∧ (decode cX6_hasMany 6 = .ok (.getfield 24, 3)) ∧ (decode cX6_hasMany 9 = .ok (.iload_n 1, 1)) ∧ (decode cX6_hasMany 10 = .ok (.iaload, 1)) ∧ (decode cX6_hasMany 11 = .ok (.if_icmp .gt 19, 3)) ∧ (decode cX6_hasMany 14 = .ok (.iload_n 3, 1)) ∧ (decode cX6_hasMany 15 = .ok (.aload_n 0, 1)) ∧ (decode cX6_hasMany 16 = .ok (.getfield 24, 3)) ∧ (decode cX6_hasMany 19 = .ok (.iload_n 1, 1)) ∧ (decode cX6_hasMany 20 = .ok (.iaload, 1)) ∧ (decode cX6_hasMany 21 = .ok (.iload_n 2, 1)) ∧ (decode cX6_hasMany 22 = .ok (.isub, 1)) ∧ (decode cX6_hasMany 23 = .ok (.if_icmp .gt 7, 3)) := by decide +kernel
theorem dX6_hasMany_0 : decode cX6_hasMany 0 = .ok (.iload_n 2, 1) := dg_X6_hasMany_0.1
theorem dX6_hasMany_1 : decode cX6_hasMany 1 = .ok (.ifCond .lt 29, 3) := dg_X6_hasMany_0.2.1
theorem dX6_hasMany_4 : decode cX6_hasMany 4 = .ok (.iload_n 2, 1) := dg_X6_hasMany_0.2.2.1
theorem dX6_hasMany_5 : decode cX6_hasMany 5 = .ok (.aload_n 0, 1) := dg_X6_hasMany_0.2.2.2.1
theorem dX6_hasMany_6 : decode cX6_hasMany 6 = .ok (.getfield 24, 3) := dg_X6_hasMany_0.2.2.2.2.1
theorem dX6_hasMany_9 : decode cX6_hasMany 9 = .ok (.iload_n 1, 1) := dg_X6_hasMany_0.2.2.2.2.2.1
theorem dX6_hasMany_10 : decode cX6_hasMany 10 = .ok (.iaload, 1) := dg_X6_hasMany_0.2.2.2.2.2.2.1
theorem dX6_hasMany_11 : decode cX6_hasMany 11 = .ok (.if_icmp .gt 19, 3) := dg_X6_hasMany_0.2.2.2.2.2.2.2.1
theorem dX6_hasMany_14 : decode cX6_hasMany 14 = .ok (.iload_n 3, 1) := dg_X6_hasMany_0.2.2.2.2.2.2.2.2.1
theorem dX6_hasMany_15 : decode cX6_hasMany 15 = .ok (.aload_n 0, 1) := dg_X6_hasMany_0.2.2.2.2.2.2.2.2.2.1
theorem dX6_hasMany_16 : decode cX6_hasMany 16 = .ok (.getfield 24, 3) := dg_X6_hasMany_0.2.2.2.2.2.2.2.2.2.2.1
theorem dX6_hasMany_19 : decode cX6_hasMany 19 = .ok (.iload_n 1, 1) := dg_X6_hasMany_0.2.2.2.2.2.2.2.2.2.2.2.1
theorem dX6_hasMany_20 : decode cX6_hasMany 20 = .ok (.iaload, 1) := dg_X6_hasMany_0.2.2.2.2.2.2.2.2.2.2.2.2.1
theorem dX6_hasMany_21 : decode cX6_hasMany 21 = .ok (.iload_n 2, 1) := dg_X6_hasMany_0.2.2.2.2.2.2.2.2.2.2.2.2.2.1
theorem dX6_hasMany_22 : decode cX6_hasMany 22 = .ok (.isub, 1) := dg_X6_hasMany_0.2.2.2.2.2.2.2.2.2.2.2.2.2.2.1
theorem dX6_hasMany_23 : decode cX6_hasMany 23 = .ok (.if_icmp .gt 7, 3) := dg_X6_hasMany_0.2.2.2.2.2.2.2.2.2.2.2.2.2.2.2
theorem dg_X6_hasMany_26 : (decode cX6_hasMany 26 = .ok (.iconst 1, 1)) ∧ (decode cX6_hasMany 27 = .ok (.goto 4, 3)) ∧ (decode cX6_hasMany 30 = .ok (.iconst 0, 1)) ∧ (decode cX6_hasMany 31 = .ok (.ireturn, 1)) := by decide +kernel
theorem dX6_hasMany_26 : decode cX6_hasMany 26 = .ok (.iconst 1, 1) := dg_X6_hasMany_26.1
theorem dX6_hasMany_27 : decode cX6_hasMany 27 = .ok (.goto 4, 3) := dg_X6_hasMany_26.2.1
theorem dX6_hasMany_30 : decode cX6_hasMany 30 = .ok (.iconst 0, 1) := dg_X6_hasMany_26.2.2.1
theorem dX6_hasMany_31 : decode cX6_hasMany 31 = .ok (.ireturn, 1) := dg_X6_hasMany_26.2.2.2
def fn_co_hasMany (lnf : Nat → Int32) (a : Nat) (k : Int32) (j : Int32) : Int32 := (if k < 0 then 0 else (if (lnf a) < k then 0 else (if ((lnf a) - k) < j then 0 else 1)))
abbrev rm_co_hasMany : Room := { frames := 0, cells := 0, slots := 0, locals := 0 }
abbrev po_co_hasMany (g : zz_G) (st : Nat) (kd : Nat) (dp : Nat) (cl : Nat) (sa : Nat) (ln : Nat) (bt : Nat) (pn : Nat) (bf : Nat) (na : Nat) (nu : Nat) (lnf : Nat → Int32) (a : Nat) (k : Int32) (j : Int32) (h_60 : a < 60) : Int32 → va_W → Prop := fun (r : Int32) (u : va_W) => r = fn_co_hasMany lnf a k j ∧ u = [cw_k5 st (nI na) (nI nu) kd dp cl sa ln bt pn bf, cw_i g ln 60 lnf]
set_option maxHeartbeats 4000000 in
set_option maxRecDepth 100000 in
theorem co_hasMany (g : zz_G) (st : Nat) (kd : Nat) (dp : Nat) (cl : Nat) (sa : Nat) (ln : Nat) (bt : Nat) (pn : Nat) (bf : Nat) (na : Nat) (nu : Nat) (lnf : Nat → Int32) (a : Nat) (k : Int32) (j : Int32) (h_60 : a < 60) : zz_I g yX6_hasMany (.code yX6_hasMany cX6_hasMany 4 (some .boolean)) rm_co_hasMany [.ref st, .int (nI a), .int k, .int j] [cw_k5 st (nI na) (nI nu) kd dp cl sa ln bt pn bf, cw_i g ln 60 lnf] (po_co_hasMany g st kd dp cl sa ln bt pn bf na nu lnf a k j h_60) := by
  refine zz_I.intro (own := RX6) (cc := cX6_hasMany) (nL := 4) (by decide) rfl (Nat.le_of_ble_eq_true rfl) ?_
  intro p l e s m args below meth c A H locs ls hC hnm hs hZ hl
  obtain ⟨hx, hb, hml, hown, hts, hr, hlocks, hK⟩ := id hC
  have hl : lv_has ls 4 [(0, .ref st), (1, .int (nI a)), (2, .int k), (3, .int j)] := hl
  have hZ : zz_Z g A s.heap [cw_k5 st (nI na) (nI nu) kd dp cl sa ln bt pn bf, cw_i g ln 60 lnf] H locs := hZ
  refine lv_iload_n hx hb dX6_hasMany_0 rfl (lv_at hl 2 rfl) ?_
  refine lv_if_lt (tgt := 30) hx hb dX6_hasMany_1 (by decide) (fun c1 => ?_) (fun c1 => ?_)
  · refine lv_iconst (v := 0) hx hb dX6_hasMany_30 (by decide) ?_
    exact zz_zret hC hZ (by decide) (⟨by show _ = _; rw [fn_co_hasMany, if_pos c1], rfl⟩) (Nat.le_of_ble_eq_true rfl) (Nat.le_of_ble_eq_true rfl) dX6_hasMany_31
  · refine lv_iload_n hx hb dX6_hasMany_4 rfl (lv_at hl 2 rfl) ?_
    refine lv_aload_n hx hb dX6_hasMany_5 rfl (lv_at hl 0 rfl) ?_
    refine zz_get hC hZ 0 rfl zf_X6_24 rfl dX6_hasMany_6 ?_
    refine lv_iload_n hx hb dX6_hasMany_9 rfl (lv_at hl 1 rfl) ?_
    have bd2 : a < 60 := by omega
    refine zz_ialdn hC hZ 1 rfl bd2 (by decide) dX6_hasMany_10 ?_
    refine lv_icmp_gt (tgt := 30) hx hb dX6_hasMany_11 (by decide) (fun c3 => ?_) (fun c3 => ?_)
    · refine lv_iconst (v := 0) hx hb dX6_hasMany_30 (by decide) ?_
      exact zz_zret hC hZ (by decide) (⟨by show _ = _; rw [fn_co_hasMany, if_neg c1, if_pos c3], rfl⟩) (Nat.le_of_ble_eq_true rfl) (Nat.le_of_ble_eq_true rfl) dX6_hasMany_31
    · refine lv_iload_n hx hb dX6_hasMany_14 rfl (lv_at hl 3 rfl) ?_
      refine lv_aload_n hx hb dX6_hasMany_15 rfl (lv_at hl 0 rfl) ?_
      refine zz_get hC hZ 0 rfl zf_X6_24 rfl dX6_hasMany_16 ?_
      refine lv_iload_n hx hb dX6_hasMany_19 rfl (lv_at hl 1 rfl) ?_
      refine zz_ialdn hC hZ 1 rfl bd2 (by decide) dX6_hasMany_20 ?_
      refine lv_iload_n hx hb dX6_hasMany_21 rfl (lv_at hl 2 rfl) ?_
      refine lv_isub hx hb dX6_hasMany_22 ?_
      refine lv_icmp_gt (tgt := 30) hx hb dX6_hasMany_23 (by decide) (fun c4 => ?_) (fun c4 => ?_)
      · refine lv_iconst (v := 0) hx hb dX6_hasMany_30 (by decide) ?_
        exact zz_zret hC hZ (by decide) (⟨by show _ = _; rw [fn_co_hasMany, if_neg c1, if_neg c3, if_pos c4], rfl⟩) (Nat.le_of_ble_eq_true rfl) (Nat.le_of_ble_eq_true rfl) dX6_hasMany_31
      · refine lv_iconst (v := 1) hx hb dX6_hasMany_26 (by decide) ?_
        refine lv_goto (tgt := 31) hx hb dX6_hasMany_27 (by decide) ?_
        exact zz_zret hC hZ (by decide) (⟨by show _ = _; rw [fn_co_hasMany, if_neg c1, if_neg c3, if_neg c4], rfl⟩) (Nat.le_of_ble_eq_true rfl) (Nat.le_of_ble_eq_true rfl) dX6_hasMany_31
theorem dg_X6_takes_0 : (decode cX6_takes 0 = .ok (.aload_n 0, 1)) ∧ (decode cX6_takes 1 = .ok (.getfield 18, 3)) ∧ (decode cX6_takes 4 = .ok (.iload_n 1, 1)) ∧ (decode cX6_takes 5 = .ok (.iaload, 1)) ∧ (decode cX6_takes 6 = .ok (.iconst (-1), 1)) ∧ (decode cX6_takes 7 = .ok (.if_icmp .eq 25, 3)) ∧ (decode cX6_takes 10 = .ok (.lload_n 2, 1)) ∧ (decode cX6_takes 11 = .ok (.lconst 0, 1)) ∧ (decode cX6_takes 12 = .ok (.lcmp, 1)) ∧ (decode cX6_takes 13 = .ok (.ifCond .eq 19, 3)) ∧ (decode cX6_takes 16 = .ok (.lload_n 2, 1)) ∧ (decode cX6_takes 17 = .ok (.ldc2_w 59, 3)) ∧ (decode cX6_takes 20 = .ok (.lrem, 1)) ∧ (decode cX6_takes 21 = .ok (.aload_n 0, 1)) ∧ (decode cX6_takes 22 = .ok (.getfield 18, 3)) ∧ (decode cX6_takes 25 = .ok (.iload_n 1, 1)) := by decide +kernel
theorem dX6_takes_0 : decode cX6_takes 0 = .ok (.aload_n 0, 1) := dg_X6_takes_0.1
theorem dX6_takes_1 : decode cX6_takes 1 = .ok (.getfield 18, 3) := dg_X6_takes_0.2.1
theorem dX6_takes_4 : decode cX6_takes 4 = .ok (.iload_n 1, 1) := dg_X6_takes_0.2.2.1
theorem dX6_takes_5 : decode cX6_takes 5 = .ok (.iaload, 1) := dg_X6_takes_0.2.2.2.1
theorem dX6_takes_6 : decode cX6_takes 6 = .ok (.iconst (-1), 1) := dg_X6_takes_0.2.2.2.2.1
theorem dX6_takes_7 : decode cX6_takes 7 = .ok (.if_icmp .eq 25, 3) := dg_X6_takes_0.2.2.2.2.2.1
theorem dX6_takes_10 : decode cX6_takes 10 = .ok (.lload_n 2, 1) := dg_X6_takes_0.2.2.2.2.2.2.1
theorem dX6_takes_11 : decode cX6_takes 11 = .ok (.lconst 0, 1) := dg_X6_takes_0.2.2.2.2.2.2.2.1
theorem dX6_takes_12 : decode cX6_takes 12 = .ok (.lcmp, 1) := dg_X6_takes_0.2.2.2.2.2.2.2.2.1
theorem dX6_takes_13 : decode cX6_takes 13 = .ok (.ifCond .eq 19, 3) := dg_X6_takes_0.2.2.2.2.2.2.2.2.2.1
theorem dX6_takes_16 : decode cX6_takes 16 = .ok (.lload_n 2, 1) := dg_X6_takes_0.2.2.2.2.2.2.2.2.2.2.1
theorem dX6_takes_17 : decode cX6_takes 17 = .ok (.ldc2_w 59, 3) := dg_X6_takes_0.2.2.2.2.2.2.2.2.2.2.2.1
theorem dX6_takes_20 : decode cX6_takes 20 = .ok (.lrem, 1) := dg_X6_takes_0.2.2.2.2.2.2.2.2.2.2.2.2.1
theorem dX6_takes_21 : decode cX6_takes 21 = .ok (.aload_n 0, 1) := dg_X6_takes_0.2.2.2.2.2.2.2.2.2.2.2.2.2.1
theorem dX6_takes_22 : decode cX6_takes 22 = .ok (.getfield 18, 3) := dg_X6_takes_0.2.2.2.2.2.2.2.2.2.2.2.2.2.2.1
theorem dX6_takes_25 : decode cX6_takes 25 = .ok (.iload_n 1, 1) := dg_X6_takes_0.2.2.2.2.2.2.2.2.2.2.2.2.2.2.2
theorem dg_X6_takes_26 : (decode cX6_takes 26 = .ok (.iaload, 1)) ∧ (decode cX6_takes 27 = .ok (.i2l, 1)) ∧ (decode cX6_takes 28 = .ok (.lcmp, 1)) ∧ (decode cX6_takes 29 = .ok (.ifCond .ne 7, 3)) ∧ (decode cX6_takes 32 = .ok (.iconst 1, 1)) ∧ (decode cX6_takes 33 = .ok (.goto 4, 3)) ∧ (decode cX6_takes 36 = .ok (.iconst 0, 1)) ∧ (decode cX6_takes 37 = .ok (.ireturn, 1)) := by decide +kernel
theorem dX6_takes_26 : decode cX6_takes 26 = .ok (.iaload, 1) := dg_X6_takes_26.1
theorem dX6_takes_27 : decode cX6_takes 27 = .ok (.i2l, 1) := dg_X6_takes_26.2.1
theorem dX6_takes_28 : decode cX6_takes 28 = .ok (.lcmp, 1) := dg_X6_takes_26.2.2.1
theorem dX6_takes_29 : decode cX6_takes 29 = .ok (.ifCond .ne 7, 3) := dg_X6_takes_26.2.2.2.1
theorem dX6_takes_32 : decode cX6_takes 32 = .ok (.iconst 1, 1) := dg_X6_takes_26.2.2.2.2.1
theorem dX6_takes_33 : decode cX6_takes 33 = .ok (.goto 4, 3) := dg_X6_takes_26.2.2.2.2.2.1
theorem dX6_takes_36 : decode cX6_takes 36 = .ok (.iconst 0, 1) := dg_X6_takes_26.2.2.2.2.2.2.1
theorem dX6_takes_37 : decode cX6_takes 37 = .ok (.ireturn, 1) := dg_X6_takes_26.2.2.2.2.2.2.2
theorem zk_41 : Cond.fieldLink RX6 18 RX6 "cls" "[I" ∈ zz_w := zz_in (List.mem_append_right _ (List.mem_append_left _ (List.mem_of_getElem? (i := 41) (by decide +kernel)))) rfl
theorem zf_X6_18 : zz_f RX6 18 5 4 := ⟨RX6, TX6, 10, rfl, zi_X6, by decide, zk_41⟩
theorem zk_391 : Cond.constantLong RX6 59 (7) ∈ zz_w := zz_in (List.mem_append_right _ (List.mem_append_right _ (List.mem_append_left _ (List.mem_of_getElem? (i := 151) (by decide +kernel))))) rfl
def fn_co_takes (clf : Nat → Int32) (a : Nat) (x : Int64) : Int32 := (if (clf a) = (-1) then 1 else (if x = 0 then 1 else (if (x - x / 7 * 7) = ((clf a).toInt64) then 1 else 0)))
abbrev rm_co_takes : Room := { frames := 0, cells := 0, slots := 0, locals := 0 }
abbrev po_co_takes (g : zz_G) (st : Nat) (kd : Nat) (dp : Nat) (cl : Nat) (sa : Nat) (ln : Nat) (bt : Nat) (pn : Nat) (bf : Nat) (na : Nat) (nu : Nat) (clf : Nat → Int32) (a : Nat) (x : Int64) (h_60 : a < 60) : Int32 → va_W → Prop := fun (r : Int32) (u : va_W) => r = fn_co_takes clf a x ∧ u = [cw_k5 st (nI na) (nI nu) kd dp cl sa ln bt pn bf, cw_i g cl 60 clf]
set_option maxHeartbeats 4000000 in
set_option maxRecDepth 100000 in
theorem co_takes (g : zz_G) (st : Nat) (kd : Nat) (dp : Nat) (cl : Nat) (sa : Nat) (ln : Nat) (bt : Nat) (pn : Nat) (bf : Nat) (na : Nat) (nu : Nat) (clf : Nat → Int32) (a : Nat) (x : Int64) (h_60 : a < 60) : zz_I g yX6_takes (.code yX6_takes cX6_takes 4 (some .boolean)) rm_co_takes [.ref st, .int (nI a), .long x] [cw_k5 st (nI na) (nI nu) kd dp cl sa ln bt pn bf, cw_i g cl 60 clf] (po_co_takes g st kd dp cl sa ln bt pn bf na nu clf a x h_60) := by
  refine zz_I.intro (own := RX6) (cc := cX6_takes) (nL := 4) (by decide) rfl (Nat.le_of_ble_eq_true rfl) ?_
  intro p l e s m args below meth c A H locs ls hC hnm hs hZ hl
  obtain ⟨hx, hb, hml, hown, hts, hr, hlocks, hK⟩ := id hC
  have hl : lv_has ls 4 [(0, .ref st), (1, .int (nI a)), (2, .long x)] := hl
  have hZ : zz_Z g A s.heap [cw_k5 st (nI na) (nI nu) kd dp cl sa ln bt pn bf, cw_i g cl 60 clf] H locs := hZ
  refine lv_aload_n hx hb dX6_takes_0 rfl (lv_at hl 0 rfl) ?_
  refine zz_get hC hZ 0 rfl zf_X6_18 rfl dX6_takes_1 ?_
  refine lv_iload_n hx hb dX6_takes_4 rfl (lv_at hl 1 rfl) ?_
  have bd1 : a < 60 := by omega
  refine zz_ialdn hC hZ 1 rfl bd1 (by decide) dX6_takes_5 ?_
  refine lv_iconst (v := -1) hx hb dX6_takes_6 (by decide) ?_
  refine lv_icmp_eq (tgt := 32) hx hb dX6_takes_7 (by decide) (fun c2 => ?_) (fun c2 => ?_)
  · refine lv_iconst (v := 1) hx hb dX6_takes_32 (by decide) ?_
    refine lv_goto (tgt := 37) hx hb dX6_takes_33 (by decide) ?_
    exact zz_zret hC hZ (by decide) (⟨by show _ = _; rw [fn_co_takes, if_pos c2], rfl⟩) (Nat.le_of_ble_eq_true rfl) (Nat.le_of_ble_eq_true rfl) dX6_takes_37
  · refine lv_lload_n hx hb dX6_takes_10 rfl (lv_at hl 2 rfl) ?_
    refine lv_lconst (v := 0) hx hb dX6_takes_11 (by decide) ?_
    refine zz_lcmp_eq (tgt := 32) hC dX6_takes_12 dX6_takes_13 (by decide) (fun c3 => ?_) (fun c3 => ?_)
    · refine lv_iconst (v := 1) hx hb dX6_takes_32 (by decide) ?_
      refine lv_goto (tgt := 37) hx hb dX6_takes_33 (by decide) ?_
      exact zz_zret hC hZ (by decide) (⟨by show _ = _; rw [fn_co_takes, if_neg c2, if_pos c3], rfl⟩) (Nat.le_of_ble_eq_true rfl) (Nat.le_of_ble_eq_true rfl) dX6_takes_37
    · refine lv_lload_n hx hb dX6_takes_16 rfl (lv_at hl 2 rfl) ?_
      refine lv_ldc2 hx hb hown (hts _ zk_391) dX6_takes_17 ?_
      refine lv_lrem hx hb dX6_takes_20 (by decide) ?_
      refine lv_aload_n hx hb dX6_takes_21 rfl (lv_at hl 0 rfl) ?_
      refine zz_get hC hZ 0 rfl zf_X6_18 rfl dX6_takes_22 ?_
      refine lv_iload_n hx hb dX6_takes_25 rfl (lv_at hl 1 rfl) ?_
      refine zz_ialdn hC hZ 1 rfl bd1 (by decide) dX6_takes_26 ?_
      refine lv_i2l hx hb dX6_takes_27 rfl ?_
      refine zz_lcmp_ne (tgt := 36) hC dX6_takes_28 dX6_takes_29 (by decide) (fun c4 => ?_) (fun c4 => ?_)
      · refine lv_iconst (v := 0) hx hb dX6_takes_36 (by decide) ?_
        exact zz_zret hC hZ (by decide) (⟨by show _ = _; rw [fn_co_takes, if_neg c2, if_neg c3, if_neg c4], rfl⟩) (Nat.le_of_ble_eq_true rfl) (Nat.le_of_ble_eq_true rfl) dX6_takes_37
      · refine lv_iconst (v := 1) hx hb dX6_takes_32 (by decide) ?_
        refine lv_goto (tgt := 37) hx hb dX6_takes_33 (by decide) ?_
        exact zz_zret hC hZ (by decide) (⟨by show _ = _; rw [fn_co_takes, if_neg c2, if_neg c3, if_pos c4], rfl⟩) (Nat.le_of_ble_eq_true rfl) (Nat.le_of_ble_eq_true rfl) dX6_takes_37
theorem dg_X6_isRowFor_0 : (decode cX6_isRowFor 0 = .ok (.aload_n 0, 1)) ∧ (decode cX6_isRowFor 1 = .ok (.getfield 9, 3)) ∧ (decode cX6_isRowFor 4 = .ok (.iload_n 1, 1)) ∧ (decode cX6_isRowFor 5 = .ok (.iaload, 1)) ∧ (decode cX6_isRowFor 6 = .ok (.aload_n 0, 1)) ∧ (decode cX6_isRowFor 7 = .ok (.getfield 9, 3)) ∧ (decode cX6_isRowFor 10 = .ok (.iload_n 2, 1)) ∧ (decode cX6_isRowFor 11 = .ok (.iaload, 1)) ∧ (decode cX6_isRowFor 12 = .ok (.if_icmp .ne 39, 3)) ∧ (decode cX6_isRowFor 15 = .ok (.aload_n 0, 1)) ∧ (decode cX6_isRowFor 16 = .ok (.getfield 18, 3)) ∧ (decode cX6_isRowFor 19 = .ok (.iload_n 1, 1)) ∧ (decode cX6_isRowFor 20 = .ok (.iaload, 1)) ∧ (decode cX6_isRowFor 21 = .ok (.aload_n 0, 1)) ∧ (decode cX6_isRowFor 22 = .ok (.getfield 18, 3)) ∧ (decode cX6_isRowFor 25 = .ok (.iload_n 2, 1)) := by decide +kernel
theorem dX6_isRowFor_0 : decode cX6_isRowFor 0 = .ok (.aload_n 0, 1) := dg_X6_isRowFor_0.1
theorem dX6_isRowFor_1 : decode cX6_isRowFor 1 = .ok (.getfield 9, 3) := dg_X6_isRowFor_0.2.1
theorem dX6_isRowFor_4 : decode cX6_isRowFor 4 = .ok (.iload_n 1, 1) := dg_X6_isRowFor_0.2.2.1
theorem dX6_isRowFor_5 : decode cX6_isRowFor 5 = .ok (.iaload, 1) := dg_X6_isRowFor_0.2.2.2.1
theorem dX6_isRowFor_6 : decode cX6_isRowFor 6 = .ok (.aload_n 0, 1) := dg_X6_isRowFor_0.2.2.2.2.1
theorem dX6_isRowFor_7 : decode cX6_isRowFor 7 = .ok (.getfield 9, 3) := dg_X6_isRowFor_0.2.2.2.2.2.1
theorem dX6_isRowFor_10 : decode cX6_isRowFor 10 = .ok (.iload_n 2, 1) := dg_X6_isRowFor_0.2.2.2.2.2.2.1
theorem dX6_isRowFor_11 : decode cX6_isRowFor 11 = .ok (.iaload, 1) := dg_X6_isRowFor_0.2.2.2.2.2.2.2.1
theorem dX6_isRowFor_12 : decode cX6_isRowFor 12 = .ok (.if_icmp .ne 39, 3) := dg_X6_isRowFor_0.2.2.2.2.2.2.2.2.1
theorem dX6_isRowFor_15 : decode cX6_isRowFor 15 = .ok (.aload_n 0, 1) := dg_X6_isRowFor_0.2.2.2.2.2.2.2.2.2.1
theorem dX6_isRowFor_16 : decode cX6_isRowFor 16 = .ok (.getfield 18, 3) := dg_X6_isRowFor_0.2.2.2.2.2.2.2.2.2.2.1
theorem dX6_isRowFor_19 : decode cX6_isRowFor 19 = .ok (.iload_n 1, 1) := dg_X6_isRowFor_0.2.2.2.2.2.2.2.2.2.2.2.1
theorem dX6_isRowFor_20 : decode cX6_isRowFor 20 = .ok (.iaload, 1) := dg_X6_isRowFor_0.2.2.2.2.2.2.2.2.2.2.2.2.1
theorem dX6_isRowFor_21 : decode cX6_isRowFor 21 = .ok (.aload_n 0, 1) := dg_X6_isRowFor_0.2.2.2.2.2.2.2.2.2.2.2.2.2.1
theorem dX6_isRowFor_22 : decode cX6_isRowFor 22 = .ok (.getfield 18, 3) := dg_X6_isRowFor_0.2.2.2.2.2.2.2.2.2.2.2.2.2.2.1
theorem dX6_isRowFor_25 : decode cX6_isRowFor 25 = .ok (.iload_n 2, 1) := dg_X6_isRowFor_0.2.2.2.2.2.2.2.2.2.2.2.2.2.2.2
theorem dg_X6_isRowFor_26 : (decode cX6_isRowFor 26 = .ok (.iaload, 1)) ∧ (decode cX6_isRowFor 27 = .ok (.if_icmp .ne 24, 3)) ∧ (decode cX6_isRowFor 30 = .ok (.aload_n 0, 1)) ∧ (decode cX6_isRowFor 31 = .ok (.getfield 15, 3)) ∧ (decode cX6_isRowFor 34 = .ok (.iload_n 1, 1)) ∧ (decode cX6_isRowFor 35 = .ok (.iaload, 1)) ∧ (decode cX6_isRowFor 36 = .ok (.aload_n 0, 1)) ∧ (decode cX6_isRowFor 37 = .ok (.getfield 15, 3)) ∧ (decode cX6_isRowFor 40 = .ok (.iload_n 2, 1)) ∧ (decode cX6_isRowFor 41 = .ok (.iaload, 1)) ∧ (decode cX6_isRowFor 42 = .ok (.iconst 1, 1)) ∧ (decode cX6_isRowFor 43 = .ok (.iadd, 1)) ∧ (decode cX6_isRowFor 44 = .ok (.if_icmp .ne 7, 3)) ∧ (decode cX6_isRowFor 47 = .ok (.iconst 1, 1)) ∧ (decode cX6_isRowFor 48 = .ok (.goto 4, 3)) ∧ (decode cX6_isRowFor 51 = .ok (.iconst 0, 1)) := by decide +kernel
theorem dX6_isRowFor_26 : decode cX6_isRowFor 26 = .ok (.iaload, 1) := dg_X6_isRowFor_26.1
theorem dX6_isRowFor_27 : decode cX6_isRowFor 27 = .ok (.if_icmp .ne 24, 3) := dg_X6_isRowFor_26.2.1
theorem dX6_isRowFor_30 : decode cX6_isRowFor 30 = .ok (.aload_n 0, 1) := dg_X6_isRowFor_26.2.2.1
theorem dX6_isRowFor_31 : decode cX6_isRowFor 31 = .ok (.getfield 15, 3) := dg_X6_isRowFor_26.2.2.2.1
theorem dX6_isRowFor_34 : decode cX6_isRowFor 34 = .ok (.iload_n 1, 1) := dg_X6_isRowFor_26.2.2.2.2.1
theorem dX6_isRowFor_35 : decode cX6_isRowFor 35 = .ok (.iaload, 1) := dg_X6_isRowFor_26.2.2.2.2.2.1
theorem dX6_isRowFor_36 : decode cX6_isRowFor 36 = .ok (.aload_n 0, 1) := dg_X6_isRowFor_26.2.2.2.2.2.2.1
theorem dX6_isRowFor_37 : decode cX6_isRowFor 37 = .ok (.getfield 15, 3) := dg_X6_isRowFor_26.2.2.2.2.2.2.2.1
theorem dX6_isRowFor_40 : decode cX6_isRowFor 40 = .ok (.iload_n 2, 1) := dg_X6_isRowFor_26.2.2.2.2.2.2.2.2.1
theorem dX6_isRowFor_41 : decode cX6_isRowFor 41 = .ok (.iaload, 1) := dg_X6_isRowFor_26.2.2.2.2.2.2.2.2.2.1
theorem dX6_isRowFor_42 : decode cX6_isRowFor 42 = .ok (.iconst 1, 1) := dg_X6_isRowFor_26.2.2.2.2.2.2.2.2.2.2.1
theorem dX6_isRowFor_43 : decode cX6_isRowFor 43 = .ok (.iadd, 1) := dg_X6_isRowFor_26.2.2.2.2.2.2.2.2.2.2.2.1
theorem dX6_isRowFor_44 : decode cX6_isRowFor 44 = .ok (.if_icmp .ne 7, 3) := dg_X6_isRowFor_26.2.2.2.2.2.2.2.2.2.2.2.2.1
theorem dX6_isRowFor_47 : decode cX6_isRowFor 47 = .ok (.iconst 1, 1) := dg_X6_isRowFor_26.2.2.2.2.2.2.2.2.2.2.2.2.2.1
theorem dX6_isRowFor_48 : decode cX6_isRowFor 48 = .ok (.goto 4, 3) := dg_X6_isRowFor_26.2.2.2.2.2.2.2.2.2.2.2.2.2.2.1
theorem dX6_isRowFor_51 : decode cX6_isRowFor 51 = .ok (.iconst 0, 1) := dg_X6_isRowFor_26.2.2.2.2.2.2.2.2.2.2.2.2.2.2.2
theorem dg_X6_isRowFor_52 : (decode cX6_isRowFor 52 = .ok (.ireturn, 1)) := by decide +kernel
theorem dX6_isRowFor_52 : decode cX6_isRowFor 52 = .ok (.ireturn, 1) := dg_X6_isRowFor_52
theorem zk_31 : Cond.fieldLink RX6 9 RX6 "kind" "[I" ∈ zz_w := zz_in (List.mem_append_right _ (List.mem_append_left _ (List.mem_of_getElem? (i := 31) (by decide +kernel)))) rfl
theorem zf_X6_9 : zz_f RX6 9 5 2 := ⟨RX6, TX6, 10, rfl, zi_X6, by decide, zk_31⟩
theorem zk_37 : Cond.fieldLink RX6 15 RX6 "depth" "[I" ∈ zz_w := zz_in (List.mem_append_right _ (List.mem_append_left _ (List.mem_of_getElem? (i := 37) (by decide +kernel)))) rfl
theorem zf_X6_15 : zz_f RX6 15 5 3 := ⟨RX6, TX6, 10, rfl, zi_X6, by decide, zk_37⟩
def fn_co_isRowFor (kdf : Nat → Int32) (dpf : Nat → Int32) (clf : Nat → Int32) (a : Nat) (b : Nat) : Int32 := (if (kdf a) = (kdf b) then (if (clf a) = (clf b) then (if (dpf a) = ((dpf b) + 1) then 1 else 0) else 0) else 0)
abbrev rm_co_isRowFor : Room := { frames := 0, cells := 0, slots := 0, locals := 0 }
abbrev po_co_isRowFor (g : zz_G) (st : Nat) (kd : Nat) (dp : Nat) (cl : Nat) (sa : Nat) (ln : Nat) (bt : Nat) (pn : Nat) (bf : Nat) (na : Nat) (nu : Nat) (kdf : Nat → Int32) (dpf : Nat → Int32) (clf : Nat → Int32) (a : Nat) (b : Nat) (h_60 : a < 60 ∧ b < 60) : Int32 → va_W → Prop := fun (r : Int32) (u : va_W) => r = fn_co_isRowFor kdf dpf clf a b ∧ u = [cw_k5 st (nI na) (nI nu) kd dp cl sa ln bt pn bf, cw_i g kd 60 kdf, cw_i g dp 60 dpf, cw_i g cl 60 clf]
set_option maxHeartbeats 4000000 in
set_option maxRecDepth 100000 in
theorem co_isRowFor (g : zz_G) (st : Nat) (kd : Nat) (dp : Nat) (cl : Nat) (sa : Nat) (ln : Nat) (bt : Nat) (pn : Nat) (bf : Nat) (na : Nat) (nu : Nat) (kdf : Nat → Int32) (dpf : Nat → Int32) (clf : Nat → Int32) (a : Nat) (b : Nat) (h_60 : a < 60 ∧ b < 60) : zz_I g yX6_isRowFor (.code yX6_isRowFor cX6_isRowFor 3 (some .boolean)) rm_co_isRowFor [.ref st, .int (nI a), .int (nI b)] [cw_k5 st (nI na) (nI nu) kd dp cl sa ln bt pn bf, cw_i g kd 60 kdf, cw_i g dp 60 dpf, cw_i g cl 60 clf] (po_co_isRowFor g st kd dp cl sa ln bt pn bf na nu kdf dpf clf a b h_60) := by
  refine zz_I.intro (own := RX6) (cc := cX6_isRowFor) (nL := 3) (by decide) rfl (Nat.le_of_ble_eq_true rfl) ?_
  intro p l e s m args below meth c A H locs ls hC hnm hs hZ hl
  obtain ⟨hx, hb, hml, hown, hts, hr, hlocks, hK⟩ := id hC
  have hl : lv_has ls 3 [(0, .ref st), (1, .int (nI a)), (2, .int (nI b))] := hl
  have hZ : zz_Z g A s.heap [cw_k5 st (nI na) (nI nu) kd dp cl sa ln bt pn bf, cw_i g kd 60 kdf, cw_i g dp 60 dpf, cw_i g cl 60 clf] H locs := hZ
  refine lv_aload_n hx hb dX6_isRowFor_0 rfl (lv_at hl 0 rfl) ?_
  refine zz_get hC hZ 0 rfl zf_X6_9 rfl dX6_isRowFor_1 ?_
  refine lv_iload_n hx hb dX6_isRowFor_4 rfl (lv_at hl 1 rfl) ?_
  have bd1 : a < 60 := by omega
  refine zz_ialdn hC hZ 1 rfl bd1 (by decide) dX6_isRowFor_5 ?_
  refine lv_aload_n hx hb dX6_isRowFor_6 rfl (lv_at hl 0 rfl) ?_
  refine zz_get hC hZ 0 rfl zf_X6_9 rfl dX6_isRowFor_7 ?_
  refine lv_iload_n hx hb dX6_isRowFor_10 rfl (lv_at hl 2 rfl) ?_
  have bd2 : b < 60 := by omega
  refine zz_ialdn hC hZ 1 rfl bd2 (by decide) dX6_isRowFor_11 ?_
  refine lv_icmp_ne (tgt := 51) hx hb dX6_isRowFor_12 (by decide) (fun c3 => ?_) (fun c3 => ?_)
  · refine lv_iconst (v := 0) hx hb dX6_isRowFor_51 (by decide) ?_
    exact zz_zret hC hZ (by decide) (⟨by show _ = _; rw [fn_co_isRowFor, if_neg c3], rfl⟩) (Nat.le_of_ble_eq_true rfl) (Nat.le_of_ble_eq_true rfl) dX6_isRowFor_52
  · refine lv_aload_n hx hb dX6_isRowFor_15 rfl (lv_at hl 0 rfl) ?_
    refine zz_get hC hZ 0 rfl zf_X6_18 rfl dX6_isRowFor_16 ?_
    refine lv_iload_n hx hb dX6_isRowFor_19 rfl (lv_at hl 1 rfl) ?_
    refine zz_ialdn hC hZ 3 rfl bd1 (by decide) dX6_isRowFor_20 ?_
    refine lv_aload_n hx hb dX6_isRowFor_21 rfl (lv_at hl 0 rfl) ?_
    refine zz_get hC hZ 0 rfl zf_X6_18 rfl dX6_isRowFor_22 ?_
    refine lv_iload_n hx hb dX6_isRowFor_25 rfl (lv_at hl 2 rfl) ?_
    refine zz_ialdn hC hZ 3 rfl bd2 (by decide) dX6_isRowFor_26 ?_
    refine lv_icmp_ne (tgt := 51) hx hb dX6_isRowFor_27 (by decide) (fun c4 => ?_) (fun c4 => ?_)
    · refine lv_iconst (v := 0) hx hb dX6_isRowFor_51 (by decide) ?_
      exact zz_zret hC hZ (by decide) (⟨by show _ = _; rw [fn_co_isRowFor, if_pos c3, if_neg c4], rfl⟩) (Nat.le_of_ble_eq_true rfl) (Nat.le_of_ble_eq_true rfl) dX6_isRowFor_52
    · refine lv_aload_n hx hb dX6_isRowFor_30 rfl (lv_at hl 0 rfl) ?_
      refine zz_get hC hZ 0 rfl zf_X6_15 rfl dX6_isRowFor_31 ?_
      refine lv_iload_n hx hb dX6_isRowFor_34 rfl (lv_at hl 1 rfl) ?_
      refine zz_ialdn hC hZ 2 rfl bd1 (by decide) dX6_isRowFor_35 ?_
      refine lv_aload_n hx hb dX6_isRowFor_36 rfl (lv_at hl 0 rfl) ?_
      refine zz_get hC hZ 0 rfl zf_X6_15 rfl dX6_isRowFor_37 ?_
      refine lv_iload_n hx hb dX6_isRowFor_40 rfl (lv_at hl 2 rfl) ?_
      refine zz_ialdn hC hZ 2 rfl bd2 (by decide) dX6_isRowFor_41 ?_
      refine lv_iconst (v := 1) hx hb dX6_isRowFor_42 (by decide) ?_
      refine lv_iadd hx hb dX6_isRowFor_43 ?_
      refine lv_icmp_ne (tgt := 51) hx hb dX6_isRowFor_44 (by decide) (fun c5 => ?_) (fun c5 => ?_)
      · refine lv_iconst (v := 0) hx hb dX6_isRowFor_51 (by decide) ?_
        exact zz_zret hC hZ (by decide) (⟨by show _ = _; rw [fn_co_isRowFor, if_pos c3, if_pos c4, if_neg c5], rfl⟩) (Nat.le_of_ble_eq_true rfl) (Nat.le_of_ble_eq_true rfl) dX6_isRowFor_52
      · refine lv_iconst (v := 1) hx hb dX6_isRowFor_47 (by decide) ?_
        refine lv_goto (tgt := 52) hx hb dX6_isRowFor_48 (by decide) ?_
        exact zz_zret hC hZ (by decide) (⟨by show _ = _; rw [fn_co_isRowFor, if_pos c3, if_pos c4, if_pos c5], rfl⟩) (Nat.le_of_ble_eq_true rfl) (Nat.le_of_ble_eq_true rfl) dX6_isRowFor_52
theorem dg_X6_canMove_0 : (decode cX6_canMove 0 = .ok (.aload_n 0, 1)) ∧ (decode cX6_canMove 1 = .ok (.getfield 9, 3)) ∧ (decode cX6_canMove 4 = .ok (.iload_n 1, 1)) ∧ (decode cX6_canMove 5 = .ok (.iaload, 1)) ∧ (decode cX6_canMove 6 = .ok (.aload_n 0, 1)) ∧ (decode cX6_canMove 7 = .ok (.getfield 9, 3)) ∧ (decode cX6_canMove 10 = .ok (.iload_n 2, 1)) ∧ (decode cX6_canMove 11 = .ok (.iaload, 1)) ∧ (decode cX6_canMove 12 = .ok (.if_icmp .ne 18, 3)) ∧ (decode cX6_canMove 15 = .ok (.aload_n 0, 1)) ∧ (decode cX6_canMove 16 = .ok (.getfield 15, 3)) ∧ (decode cX6_canMove 19 = .ok (.iload_n 1, 1)) ∧ (decode cX6_canMove 20 = .ok (.iaload, 1)) ∧ (decode cX6_canMove 21 = .ok (.aload_n 0, 1)) ∧ (decode cX6_canMove 22 = .ok (.getfield 15, 3)) ∧ (decode cX6_canMove 25 = .ok (.iload_n 2, 1)) := by decide +kernel
theorem dX6_canMove_0 : decode cX6_canMove 0 = .ok (.aload_n 0, 1) := dg_X6_canMove_0.1
theorem dX6_canMove_1 : decode cX6_canMove 1 = .ok (.getfield 9, 3) := dg_X6_canMove_0.2.1
theorem dX6_canMove_4 : decode cX6_canMove 4 = .ok (.iload_n 1, 1) := dg_X6_canMove_0.2.2.1
theorem dX6_canMove_5 : decode cX6_canMove 5 = .ok (.iaload, 1) := dg_X6_canMove_0.2.2.2.1
theorem dX6_canMove_6 : decode cX6_canMove 6 = .ok (.aload_n 0, 1) := dg_X6_canMove_0.2.2.2.2.1
theorem dX6_canMove_7 : decode cX6_canMove 7 = .ok (.getfield 9, 3) := dg_X6_canMove_0.2.2.2.2.2.1
theorem dX6_canMove_10 : decode cX6_canMove 10 = .ok (.iload_n 2, 1) := dg_X6_canMove_0.2.2.2.2.2.2.1
theorem dX6_canMove_11 : decode cX6_canMove 11 = .ok (.iaload, 1) := dg_X6_canMove_0.2.2.2.2.2.2.2.1
theorem dX6_canMove_12 : decode cX6_canMove 12 = .ok (.if_icmp .ne 18, 3) := dg_X6_canMove_0.2.2.2.2.2.2.2.2.1
theorem dX6_canMove_15 : decode cX6_canMove 15 = .ok (.aload_n 0, 1) := dg_X6_canMove_0.2.2.2.2.2.2.2.2.2.1
theorem dX6_canMove_16 : decode cX6_canMove 16 = .ok (.getfield 15, 3) := dg_X6_canMove_0.2.2.2.2.2.2.2.2.2.2.1
theorem dX6_canMove_19 : decode cX6_canMove 19 = .ok (.iload_n 1, 1) := dg_X6_canMove_0.2.2.2.2.2.2.2.2.2.2.2.1
theorem dX6_canMove_20 : decode cX6_canMove 20 = .ok (.iaload, 1) := dg_X6_canMove_0.2.2.2.2.2.2.2.2.2.2.2.2.1
theorem dX6_canMove_21 : decode cX6_canMove 21 = .ok (.aload_n 0, 1) := dg_X6_canMove_0.2.2.2.2.2.2.2.2.2.2.2.2.2.1
theorem dX6_canMove_22 : decode cX6_canMove 22 = .ok (.getfield 15, 3) := dg_X6_canMove_0.2.2.2.2.2.2.2.2.2.2.2.2.2.2.1
theorem dX6_canMove_25 : decode cX6_canMove 25 = .ok (.iload_n 2, 1) := dg_X6_canMove_0.2.2.2.2.2.2.2.2.2.2.2.2.2.2.2
theorem dg_X6_canMove_26 : (decode cX6_canMove 26 = .ok (.iaload, 1)) ∧ (decode cX6_canMove 27 = .ok (.if_icmp .eq 5, 3)) ∧ (decode cX6_canMove 30 = .ok (.iconst 0, 1)) ∧ (decode cX6_canMove 31 = .ok (.ireturn, 1)) ∧ (decode cX6_canMove 32 = .ok (.aload_n 0, 1)) ∧ (decode cX6_canMove 33 = .ok (.getfield 15, 3)) ∧ (decode cX6_canMove 36 = .ok (.iload_n 1, 1)) ∧ (decode cX6_canMove 37 = .ok (.iaload, 1)) ∧ (decode cX6_canMove 38 = .ok (.iconst 1, 1)) ∧ (decode cX6_canMove 39 = .ok (.if_icmp .eq 18, 3)) ∧ (decode cX6_canMove 42 = .ok (.aload_n 0, 1)) ∧ (decode cX6_canMove 43 = .ok (.getfield 18, 3)) ∧ (decode cX6_canMove 46 = .ok (.iload_n 1, 1)) ∧ (decode cX6_canMove 47 = .ok (.iaload, 1)) ∧ (decode cX6_canMove 48 = .ok (.aload_n 0, 1)) ∧ (decode cX6_canMove 49 = .ok (.getfield 18, 3)) := by decide +kernel
theorem dX6_canMove_26 : decode cX6_canMove 26 = .ok (.iaload, 1) := dg_X6_canMove_26.1
theorem dX6_canMove_27 : decode cX6_canMove 27 = .ok (.if_icmp .eq 5, 3) := dg_X6_canMove_26.2.1
theorem dX6_canMove_30 : decode cX6_canMove 30 = .ok (.iconst 0, 1) := dg_X6_canMove_26.2.2.1
theorem dX6_canMove_31 : decode cX6_canMove 31 = .ok (.ireturn, 1) := dg_X6_canMove_26.2.2.2.1
theorem dX6_canMove_32 : decode cX6_canMove 32 = .ok (.aload_n 0, 1) := dg_X6_canMove_26.2.2.2.2.1
theorem dX6_canMove_33 : decode cX6_canMove 33 = .ok (.getfield 15, 3) := dg_X6_canMove_26.2.2.2.2.2.1
theorem dX6_canMove_36 : decode cX6_canMove 36 = .ok (.iload_n 1, 1) := dg_X6_canMove_26.2.2.2.2.2.2.1
theorem dX6_canMove_37 : decode cX6_canMove 37 = .ok (.iaload, 1) := dg_X6_canMove_26.2.2.2.2.2.2.2.1
theorem dX6_canMove_38 : decode cX6_canMove 38 = .ok (.iconst 1, 1) := dg_X6_canMove_26.2.2.2.2.2.2.2.2.1
theorem dX6_canMove_39 : decode cX6_canMove 39 = .ok (.if_icmp .eq 18, 3) := dg_X6_canMove_26.2.2.2.2.2.2.2.2.2.1
theorem dX6_canMove_42 : decode cX6_canMove 42 = .ok (.aload_n 0, 1) := dg_X6_canMove_26.2.2.2.2.2.2.2.2.2.2.1
theorem dX6_canMove_43 : decode cX6_canMove 43 = .ok (.getfield 18, 3) := dg_X6_canMove_26.2.2.2.2.2.2.2.2.2.2.2.1
theorem dX6_canMove_46 : decode cX6_canMove 46 = .ok (.iload_n 1, 1) := dg_X6_canMove_26.2.2.2.2.2.2.2.2.2.2.2.2.1
theorem dX6_canMove_47 : decode cX6_canMove 47 = .ok (.iaload, 1) := dg_X6_canMove_26.2.2.2.2.2.2.2.2.2.2.2.2.2.1
theorem dX6_canMove_48 : decode cX6_canMove 48 = .ok (.aload_n 0, 1) := dg_X6_canMove_26.2.2.2.2.2.2.2.2.2.2.2.2.2.2.1
theorem dX6_canMove_49 : decode cX6_canMove 49 = .ok (.getfield 18, 3) := dg_X6_canMove_26.2.2.2.2.2.2.2.2.2.2.2.2.2.2.2
theorem dg_X6_canMove_52 : (decode cX6_canMove 52 = .ok (.iload_n 2, 1)) ∧ (decode cX6_canMove 53 = .ok (.iaload, 1)) ∧ (decode cX6_canMove 54 = .ok (.if_icmp .ne 7, 3)) ∧ (decode cX6_canMove 57 = .ok (.iconst 1, 1)) ∧ (decode cX6_canMove 58 = .ok (.goto 4, 3)) ∧ (decode cX6_canMove 61 = .ok (.iconst 0, 1)) ∧ (decode cX6_canMove 62 = .ok (.ireturn, 1)) := by decide +kernel
theorem dX6_canMove_52 : decode cX6_canMove 52 = .ok (.iload_n 2, 1) := dg_X6_canMove_52.1
theorem dX6_canMove_53 : decode cX6_canMove 53 = .ok (.iaload, 1) := dg_X6_canMove_52.2.1
theorem dX6_canMove_54 : decode cX6_canMove 54 = .ok (.if_icmp .ne 7, 3) := dg_X6_canMove_52.2.2.1
theorem dX6_canMove_57 : decode cX6_canMove 57 = .ok (.iconst 1, 1) := dg_X6_canMove_52.2.2.2.1
theorem dX6_canMove_58 : decode cX6_canMove 58 = .ok (.goto 4, 3) := dg_X6_canMove_52.2.2.2.2.1
theorem dX6_canMove_61 : decode cX6_canMove 61 = .ok (.iconst 0, 1) := dg_X6_canMove_52.2.2.2.2.2.1
theorem dX6_canMove_62 : decode cX6_canMove 62 = .ok (.ireturn, 1) := dg_X6_canMove_52.2.2.2.2.2.2
def fn_co_canMove (kdf : Nat → Int32) (dpf : Nat → Int32) (clf : Nat → Int32) (a : Nat) (b : Nat) : Int32 := (if (kdf a) = (kdf b) then (if (dpf a) = (dpf b) then (if (dpf a) = 1 then 1 else (if (clf a) = (clf b) then 1 else 0)) else 0) else 0)
abbrev rm_co_canMove : Room := { frames := 0, cells := 0, slots := 0, locals := 0 }
abbrev po_co_canMove (g : zz_G) (st : Nat) (kd : Nat) (dp : Nat) (cl : Nat) (sa : Nat) (ln : Nat) (bt : Nat) (pn : Nat) (bf : Nat) (na : Nat) (nu : Nat) (kdf : Nat → Int32) (dpf : Nat → Int32) (clf : Nat → Int32) (a : Nat) (b : Nat) (h_60 : a < 60 ∧ b < 60) : Int32 → va_W → Prop := fun (r : Int32) (u : va_W) => r = fn_co_canMove kdf dpf clf a b ∧ u = [cw_k5 st (nI na) (nI nu) kd dp cl sa ln bt pn bf, cw_i g kd 60 kdf, cw_i g dp 60 dpf, cw_i g cl 60 clf]
set_option maxHeartbeats 4000000 in
set_option maxRecDepth 100000 in
theorem co_canMove (g : zz_G) (st : Nat) (kd : Nat) (dp : Nat) (cl : Nat) (sa : Nat) (ln : Nat) (bt : Nat) (pn : Nat) (bf : Nat) (na : Nat) (nu : Nat) (kdf : Nat → Int32) (dpf : Nat → Int32) (clf : Nat → Int32) (a : Nat) (b : Nat) (h_60 : a < 60 ∧ b < 60) : zz_I g yX6_canMove (.code yX6_canMove cX6_canMove 3 (some .boolean)) rm_co_canMove [.ref st, .int (nI a), .int (nI b)] [cw_k5 st (nI na) (nI nu) kd dp cl sa ln bt pn bf, cw_i g kd 60 kdf, cw_i g dp 60 dpf, cw_i g cl 60 clf] (po_co_canMove g st kd dp cl sa ln bt pn bf na nu kdf dpf clf a b h_60) := by
  refine zz_I.intro (own := RX6) (cc := cX6_canMove) (nL := 3) (by decide) rfl (Nat.le_of_ble_eq_true rfl) ?_
  intro p l e s m args below meth c A H locs ls hC hnm hs hZ hl
  obtain ⟨hx, hb, hml, hown, hts, hr, hlocks, hK⟩ := id hC
  have hl : lv_has ls 3 [(0, .ref st), (1, .int (nI a)), (2, .int (nI b))] := hl
  have hZ : zz_Z g A s.heap [cw_k5 st (nI na) (nI nu) kd dp cl sa ln bt pn bf, cw_i g kd 60 kdf, cw_i g dp 60 dpf, cw_i g cl 60 clf] H locs := hZ
  refine lv_aload_n hx hb dX6_canMove_0 rfl (lv_at hl 0 rfl) ?_
  refine zz_get hC hZ 0 rfl zf_X6_9 rfl dX6_canMove_1 ?_
  refine lv_iload_n hx hb dX6_canMove_4 rfl (lv_at hl 1 rfl) ?_
  have bd1 : a < 60 := by omega
  refine zz_ialdn hC hZ 1 rfl bd1 (by decide) dX6_canMove_5 ?_
  refine lv_aload_n hx hb dX6_canMove_6 rfl (lv_at hl 0 rfl) ?_
  refine zz_get hC hZ 0 rfl zf_X6_9 rfl dX6_canMove_7 ?_
  refine lv_iload_n hx hb dX6_canMove_10 rfl (lv_at hl 2 rfl) ?_
  have bd2 : b < 60 := by omega
  refine zz_ialdn hC hZ 1 rfl bd2 (by decide) dX6_canMove_11 ?_
  refine lv_icmp_ne (tgt := 30) hx hb dX6_canMove_12 (by decide) (fun c3 => ?_) (fun c3 => ?_)
  · refine lv_iconst (v := 0) hx hb dX6_canMove_30 (by decide) ?_
    exact zz_zret hC hZ (by decide) (⟨by show _ = _; rw [fn_co_canMove, if_neg c3], rfl⟩) (Nat.le_of_ble_eq_true rfl) (Nat.le_of_ble_eq_true rfl) dX6_canMove_31
  · refine lv_aload_n hx hb dX6_canMove_15 rfl (lv_at hl 0 rfl) ?_
    refine zz_get hC hZ 0 rfl zf_X6_15 rfl dX6_canMove_16 ?_
    refine lv_iload_n hx hb dX6_canMove_19 rfl (lv_at hl 1 rfl) ?_
    refine zz_ialdn hC hZ 2 rfl bd1 (by decide) dX6_canMove_20 ?_
    refine lv_aload_n hx hb dX6_canMove_21 rfl (lv_at hl 0 rfl) ?_
    refine zz_get hC hZ 0 rfl zf_X6_15 rfl dX6_canMove_22 ?_
    refine lv_iload_n hx hb dX6_canMove_25 rfl (lv_at hl 2 rfl) ?_
    refine zz_ialdn hC hZ 2 rfl bd2 (by decide) dX6_canMove_26 ?_
    refine lv_icmp_eq (tgt := 32) hx hb dX6_canMove_27 (by decide) (fun c4 => ?_) (fun c4 => ?_)
    · refine lv_aload_n hx hb dX6_canMove_32 rfl (lv_at hl 0 rfl) ?_
      refine zz_get hC hZ 0 rfl zf_X6_15 rfl dX6_canMove_33 ?_
      refine lv_iload_n hx hb dX6_canMove_36 rfl (lv_at hl 1 rfl) ?_
      refine zz_ialdn hC hZ 2 rfl bd1 (by decide) dX6_canMove_37 ?_
      refine lv_iconst (v := 1) hx hb dX6_canMove_38 (by decide) ?_
      refine lv_icmp_eq (tgt := 57) hx hb dX6_canMove_39 (by decide) (fun c5 => ?_) (fun c5 => ?_)
      · refine lv_iconst (v := 1) hx hb dX6_canMove_57 (by decide) ?_
        refine lv_goto (tgt := 62) hx hb dX6_canMove_58 (by decide) ?_
        exact zz_zret hC hZ (by decide) (⟨by show _ = _; rw [fn_co_canMove, if_pos c3, if_pos c4, if_pos c5], rfl⟩) (Nat.le_of_ble_eq_true rfl) (Nat.le_of_ble_eq_true rfl) dX6_canMove_62
      · refine lv_aload_n hx hb dX6_canMove_42 rfl (lv_at hl 0 rfl) ?_
        refine zz_get hC hZ 0 rfl zf_X6_18 rfl dX6_canMove_43 ?_
        refine lv_iload_n hx hb dX6_canMove_46 rfl (lv_at hl 1 rfl) ?_
        refine zz_ialdn hC hZ 3 rfl bd1 (by decide) dX6_canMove_47 ?_
        refine lv_aload_n hx hb dX6_canMove_48 rfl (lv_at hl 0 rfl) ?_
        refine zz_get hC hZ 0 rfl zf_X6_18 rfl dX6_canMove_49 ?_
        refine lv_iload_n hx hb dX6_canMove_52 rfl (lv_at hl 2 rfl) ?_
        refine zz_ialdn hC hZ 3 rfl bd2 (by decide) dX6_canMove_53 ?_
        refine lv_icmp_ne (tgt := 61) hx hb dX6_canMove_54 (by decide) (fun c6 => ?_) (fun c6 => ?_)
        · refine lv_iconst (v := 0) hx hb dX6_canMove_61 (by decide) ?_
          exact zz_zret hC hZ (by decide) (⟨by show _ = _; rw [fn_co_canMove, if_pos c3, if_pos c4, if_neg c5, if_neg c6], rfl⟩) (Nat.le_of_ble_eq_true rfl) (Nat.le_of_ble_eq_true rfl) dX6_canMove_62
        · refine lv_iconst (v := 1) hx hb dX6_canMove_57 (by decide) ?_
          refine lv_goto (tgt := 62) hx hb dX6_canMove_58 (by decide) ?_
          exact zz_zret hC hZ (by decide) (⟨by show _ = _; rw [fn_co_canMove, if_pos c3, if_pos c4, if_neg c5, if_pos c6], rfl⟩) (Nat.le_of_ble_eq_true rfl) (Nat.le_of_ble_eq_true rfl) dX6_canMove_62
    · refine lv_iconst (v := 0) hx hb dX6_canMove_30 (by decide) ?_
      exact zz_zret hC hZ (by decide) (⟨by show _ = _; rw [fn_co_canMove, if_pos c3, if_neg c4], rfl⟩) (Nat.le_of_ble_eq_true rfl) (Nat.le_of_ble_eq_true rfl) dX6_canMove_31
/-- how many are pinned, how many are null, from a slot on -/
def zz_cp (pn : Nat → Int32) (s : Nat) : Nat → Nat
  | 0 => 0
  | n + 1 => zz_cp pn s n + (if pn (s + n) = 0 then 0 else 1)
theorem zl_cp0 {pn : Nat → Int32} {s f i : Nat} (h : f ≤ i) (c : pn (s + i) = 0) : zz_cp pn (s + f) (i + 1 - f) = zz_cp pn (s + f) (i - f) := by
  rw [show i + 1 - f = (i - f) + 1 by omega, zz_cp, show s + f + (i - f) = s + i by omega, if_pos c, Nat.add_zero]
theorem zl_cp1 {pn : Nat → Int32} {s f i : Nat} (h : f ≤ i) (c : ¬ pn (s + i) = 0) : zz_cp pn (s + f) (i + 1 - f) = zz_cp pn (s + f) (i - f) + 1 := by
  rw [show i + 1 - f = (i - f) + 1 by omega, zz_cp, show s + f + (i - f) = s + i by omega, if_neg c]
theorem zl_cpb (pn : Nat → Int32) (s : Nat) : ∀ n, zz_cp pn s n ≤ n
  | 0 => Nat.le_refl _
  | n + 1 => by
    have := zl_cpb pn s n
    rw [zz_cp]
    by_cases q : pn (s + n) = 0
    · rw [if_pos q]; omega
    · rw [if_neg q]; omega
/-- how many are taken ahead of the first that is not -/
def zz_tk (cl : Nat → Int32) (b : Nat) (bt : Nat → Int64) (s : Nat) : Nat → Nat → Nat
  | 0, q => q
  | m + 1, q => if fn_co_takes cl b (bt (s + q)) = 0 then q else zz_tk cl b bt s m (q + 1)
def zz_cz (bt : Nat → Int64) (s : Nat) : Nat → Nat
  | 0 => 0
  | n + 1 => zz_cz bt s n + (if bt (s + n) = -1 then 1 else 0)
theorem dg_X6_pinnedIn_0 : (decode cX6_pinnedIn 0 = .ok (.iconst 0, 1)) ∧ (decode cX6_pinnedIn 1 = .ok (.istore 4, 2)) ∧ (decode cX6_pinnedIn 3 = .ok (.iload_n 2, 1)) ∧ (decode cX6_pinnedIn 4 = .ok (.istore 5, 2)) ∧ (decode cX6_pinnedIn 6 = .ok (.iload 5, 2)) ∧ (decode cX6_pinnedIn 8 = .ok (.iload_n 3, 1)) ∧ (decode cX6_pinnedIn 9 = .ok (.if_icmp .ge 29, 3)) ∧ (decode cX6_pinnedIn 12 = .ok (.aload_n 0, 1)) ∧ (decode cX6_pinnedIn 13 = .ok (.getfield 31, 3)) ∧ (decode cX6_pinnedIn 16 = .ok (.aload_n 0, 1)) ∧ (decode cX6_pinnedIn 17 = .ok (.getfield 21, 3)) ∧ (decode cX6_pinnedIn 20 = .ok (.iload_n 1, 1)) ∧ (decode cX6_pinnedIn 21 = .ok (.iaload, 1)) ∧ (decode cX6_pinnedIn 22 = .ok (.iload 5, 2)) ∧ (decode cX6_pinnedIn 24 = .ok (.iadd, 1)) ∧ (decode cX6_pinnedIn 25 = .ok (.baload, 1)) := by decide +kernel
theorem dX6_pinnedIn_0 : decode cX6_pinnedIn 0 = .ok (.iconst 0, 1) := dg_X6_pinnedIn_0.1
theorem dX6_pinnedIn_1 : decode cX6_pinnedIn 1 = .ok (.istore 4, 2) := dg_X6_pinnedIn_0.2.1
theorem dX6_pinnedIn_3 : decode cX6_pinnedIn 3 = .ok (.iload_n 2, 1) := dg_X6_pinnedIn_0.2.2.1
theorem dX6_pinnedIn_4 : decode cX6_pinnedIn 4 = .ok (.istore 5, 2) := dg_X6_pinnedIn_0.2.2.2.1
theorem dX6_pinnedIn_6 : decode cX6_pinnedIn 6 = .ok (.iload 5, 2) := dg_X6_pinnedIn_0.2.2.2.2.1
theorem dX6_pinnedIn_8 : decode cX6_pinnedIn 8 = .ok (.iload_n 3, 1) := dg_X6_pinnedIn_0.2.2.2.2.2.1
theorem dX6_pinnedIn_9 : decode cX6_pinnedIn 9 = .ok (.if_icmp .ge 29, 3) := dg_X6_pinnedIn_0.2.2.2.2.2.2.1
theorem dX6_pinnedIn_12 : decode cX6_pinnedIn 12 = .ok (.aload_n 0, 1) := dg_X6_pinnedIn_0.2.2.2.2.2.2.2.1
theorem dX6_pinnedIn_13 : decode cX6_pinnedIn 13 = .ok (.getfield 31, 3) := dg_X6_pinnedIn_0.2.2.2.2.2.2.2.2.1
theorem dX6_pinnedIn_16 : decode cX6_pinnedIn 16 = .ok (.aload_n 0, 1) := dg_X6_pinnedIn_0.2.2.2.2.2.2.2.2.2.1
theorem dX6_pinnedIn_17 : decode cX6_pinnedIn 17 = .ok (.getfield 21, 3) := dg_X6_pinnedIn_0.2.2.2.2.2.2.2.2.2.2.1
theorem dX6_pinnedIn_20 : decode cX6_pinnedIn 20 = .ok (.iload_n 1, 1) := dg_X6_pinnedIn_0.2.2.2.2.2.2.2.2.2.2.2.1
theorem dX6_pinnedIn_21 : decode cX6_pinnedIn 21 = .ok (.iaload, 1) := dg_X6_pinnedIn_0.2.2.2.2.2.2.2.2.2.2.2.2.1
theorem dX6_pinnedIn_22 : decode cX6_pinnedIn 22 = .ok (.iload 5, 2) := dg_X6_pinnedIn_0.2.2.2.2.2.2.2.2.2.2.2.2.2.1
theorem dX6_pinnedIn_24 : decode cX6_pinnedIn 24 = .ok (.iadd, 1) := dg_X6_pinnedIn_0.2.2.2.2.2.2.2.2.2.2.2.2.2.2.1
theorem dX6_pinnedIn_25 : decode cX6_pinnedIn 25 = .ok (.baload, 1) := dg_X6_pinnedIn_0.2.2.2.2.2.2.2.2.2.2.2.2.2.2.2
theorem dg_X6_pinnedIn_26 : (decode cX6_pinnedIn 26 = .ok (.ifCond .eq 6, 3)) ∧ (decode cX6_pinnedIn 29 = .ok (.iinc 4 1, 3)) ∧ (decode cX6_pinnedIn 32 = .ok (.iinc 5 1, 3)) ∧ (decode cX6_pinnedIn 35 = .ok (.goto (-29), 3)) ∧ (decode cX6_pinnedIn 38 = .ok (.iload 4, 2)) ∧ (decode cX6_pinnedIn 40 = .ok (.ireturn, 1)) := by decide +kernel
theorem dX6_pinnedIn_26 : decode cX6_pinnedIn 26 = .ok (.ifCond .eq 6, 3) := dg_X6_pinnedIn_26.1
theorem dX6_pinnedIn_29 : decode cX6_pinnedIn 29 = .ok (.iinc 4 1, 3) := dg_X6_pinnedIn_26.2.1
theorem dX6_pinnedIn_32 : decode cX6_pinnedIn 32 = .ok (.iinc 5 1, 3) := dg_X6_pinnedIn_26.2.2.1
theorem dX6_pinnedIn_35 : decode cX6_pinnedIn 35 = .ok (.goto (-29), 3) := dg_X6_pinnedIn_26.2.2.2.1
theorem dX6_pinnedIn_38 : decode cX6_pinnedIn 38 = .ok (.iload 4, 2) := dg_X6_pinnedIn_26.2.2.2.2.1
theorem dX6_pinnedIn_40 : decode cX6_pinnedIn 40 = .ok (.ireturn, 1) := dg_X6_pinnedIn_26.2.2.2.2.2
theorem zk_61 : Cond.fieldLink RX6 31 RX6 "pinned" "[Z" ∈ zz_w := zz_in (List.mem_append_right _ (List.mem_append_left _ (List.mem_of_getElem? (i := 61) (by decide +kernel)))) rfl
theorem zf_X6_31 : zz_f RX6 31 5 8 := ⟨RX6, TX6, 10, rfl, zi_X6, by decide, zk_61⟩
theorem zk_44 : Cond.fieldLink RX6 21 RX6 "start" "[I" ∈ zz_w := zz_in (List.mem_append_right _ (List.mem_append_left _ (List.mem_of_getElem? (i := 44) (by decide +kernel)))) rfl
theorem zf_X6_21 : zz_f RX6 21 5 5 := ⟨RX6, TX6, 10, rfl, zi_X6, by decide, zk_44⟩
abbrev rm_co_pinnedIn : Room := { frames := 0, cells := 0, slots := 0, locals := 0 }
abbrev po_co_pinnedIn (g : zz_G) (st : Nat) (kd : Nat) (dp : Nat) (cl : Nat) (sa : Nat) (ln : Nat) (bt : Nat) (pn : Nat) (bf : Nat) (na : Nat) (nu : Nat) (saf : Nat → Int32) (pnf : Nat → Int32) (a : Nat) (sz : Nat) (lz : Nat) (f : Nat) (t : Nat) (h_60 : a < 60) (e_s : saf a = nI sz) (h_b : sz + lz ≤ 4000 ∧ lz ≤ 200) (h_t : f ≤ t ∧ t ≤ lz) : Int32 → va_W → Prop := fun (r : Int32) (u : va_W) => r = nI (zz_cp pnf (sz + f) (t - f)) ∧ (zz_cp pnf (sz + f) (t - f) ≤ 200) ∧ u = [cw_k5 st (nI na) (nI nu) kd dp cl sa ln bt pn bf, cw_i g sa 60 saf, cw_z g pn 4000 pnf]
set_option maxHeartbeats 4000000 in
set_option maxRecDepth 100000 in
theorem co_pinnedIn (g : zz_G) (st : Nat) (kd : Nat) (dp : Nat) (cl : Nat) (sa : Nat) (ln : Nat) (bt : Nat) (pn : Nat) (bf : Nat) (na : Nat) (nu : Nat) (saf : Nat → Int32) (pnf : Nat → Int32) (a : Nat) (sz : Nat) (lz : Nat) (f : Nat) (t : Nat) (h_60 : a < 60) (e_s : saf a = nI sz) (h_b : sz + lz ≤ 4000 ∧ lz ≤ 200) (h_t : f ≤ t ∧ t ≤ lz) : zz_I g yX6_pinnedIn (.code yX6_pinnedIn cX6_pinnedIn 6 (some .int)) rm_co_pinnedIn [.ref st, .int (nI a), .int (nI f), .int (nI t)] [cw_k5 st (nI na) (nI nu) kd dp cl sa ln bt pn bf, cw_i g sa 60 saf, cw_z g pn 4000 pnf] (po_co_pinnedIn g st kd dp cl sa ln bt pn bf na nu saf pnf a sz lz f t h_60 e_s h_b h_t) := by
  refine zz_I.intro (own := RX6) (cc := cX6_pinnedIn) (nL := 6) (by decide) rfl (Nat.le_of_ble_eq_true rfl) ?_
  intro p l e s m args below meth c A H locs ls hC hnm hs hZ hl
  obtain ⟨hx, hb, hml, hown, hts, hr, hlocks, hK⟩ := id hC
  have hl : lv_has ls 6 [(0, .ref st), (1, .int (nI a)), (2, .int (nI f)), (3, .int (nI t))] := hl
  have hZ : zz_Z g A s.heap [cw_k5 st (nI na) (nI nu) kd dp cl sa ln bt pn bf, cw_i g sa 60 saf, cw_z g pn 4000 pnf] H locs := hZ
  refine lv_iconst (v := 0) hx hb dX6_pinnedIn_0 (by decide) ?_
  refine lv_istore (lv' := [(4, .int 0), (0, .ref st), (1, .int (nI a)), (2, .int (nI f)), (3, .int (nI t))]) hx hb dX6_pinnedIn_1 hl (by decide) rfl (fun ls hl => ?_)
  refine lv_iload_n hx hb dX6_pinnedIn_3 rfl (lv_at hl 3 rfl) ?_
  refine lv_istore (lv' := [(5, .int (nI f)), (4, .int 0), (0, .ref st), (1, .int (nI a)), (2, .int (nI f)), (3, .int (nI t))]) hx hb dX6_pinnedIn_4 hl (by decide) rfl (fun ls hl => ?_)
  have LP1 : ∀ (N : Nat) (i : Nat) (w : Nat) (H : Heap) (locs : List Loc) (ls : Array Slot), (f ≤ i ∧ i ≤ t) → (w = zz_cp pnf (sz + f) (i - f)) → (t - i) < N → zz_Z g A s.heap [cw_k5 st (nI na) (nI nu) kd dp cl sa ln bt pn bf, cw_i g sa 60 saf, cw_z g pn 4000 pnf] H locs → lv_has ls 6 [(5, .int (nI i)), (4, .int (nI w)), (0, .ref st), (1, .int (nI a)), (2, .int (nI f)), (3, .int (nI t))] → W p l e rm_co_pinnedIn s m args below meth c H locs 0 0 (zz_QI below g args s A rm_co_pinnedIn.cells rm_co_pinnedIn.slots (po_co_pinnedIn g st kd dp cl sa ln bt pn bf na nu saf pnf a sz lz f t h_60 e_s h_b h_t)) (F0 m 6 ls []) := by
    intro N
    induction N with
    | zero =>
      intro i w H locs ls hi hw hN
      exact absurd hN (Nat.not_lt_zero _)
    | succ N ih =>
      intro i w H locs ls hi hw hN hZ hl
      refine lv_iload hx hb dX6_pinnedIn_6 (lv_at hl 0 rfl) ?_
      refine lv_iload_n hx hb dX6_pinnedIn_8 rfl (lv_at hl 5 rfl) ?_
      have bd3 : t < 2 ^ 31 := by omega
      have bd4 : i < 2 ^ 31 := by omega
      refine lv_icmp_ge (tgt := 38) hx hb dX6_pinnedIn_9 (by decide) (fun c2 => ?_) (fun c2 => ?_)
      · have nc2 : t ≤ i := (nI_leI bd3 bd4).mp (show nI (t) ≤ nI (i) from c2)
        refine lv_iload hx hb dX6_pinnedIn_38 (lv_at hl 1 rfl) ?_
        exact zz_iret hC hZ (⟨by rw [hw, show i = t by omega], Nat.le_trans (zl_cpb _ _ _) (by omega), rfl⟩) (Nat.le_of_ble_eq_true rfl) (Nat.le_of_ble_eq_true rfl) dX6_pinnedIn_40
      · have nc2 : ¬ t ≤ i := fun zq => c2 (show nI (t) ≤ nI (i) from (nI_leI bd3 bd4).mpr zq)
        refine lv_aload_n hx hb dX6_pinnedIn_12 rfl (lv_at hl 2 rfl) ?_
        refine zz_get hC hZ 0 rfl zf_X6_31 rfl dX6_pinnedIn_13 ?_
        refine lv_aload_n hx hb dX6_pinnedIn_16 rfl (lv_at hl 2 rfl) ?_
        refine zz_get hC hZ 0 rfl zf_X6_21 rfl dX6_pinnedIn_17 ?_
        refine lv_iload_n hx hb dX6_pinnedIn_20 rfl (lv_at hl 3 rfl) ?_
        have bd5 : a < 60 := by omega
        refine zz_ialdn hC hZ 1 rfl bd5 (by decide) dX6_pinnedIn_21 ?_
        refine zz_topi (v := nI sz) (e_s) ?_
        refine lv_iload hx hb dX6_pinnedIn_22 (lv_at hl 0 rfl) ?_
        refine lv_iadd hx hb dX6_pinnedIn_24 ?_
        refine zz_topi (v := nI (sz + i)) (nI_add _ _) ?_
        have bd6 : (sz + i) < 4000 := by omega
        refine zz_zaldn hC hZ 2 rfl bd6 (by decide) dX6_pinnedIn_25 ?_
        refine lv_if_eq (tgt := 32) hx hb dX6_pinnedIn_26 (by decide) (fun c7 => ?_) (fun c7 => ?_)
        · refine lv_iinc (v := nI (i + 1)) (lv' := [(5, .int (nI (i + 1))), (4, .int (nI w)), (0, .ref st), (1, .int (nI a)), (2, .int (nI f)), (3, .int (nI t))]) hx hb dX6_pinnedIn_32 hl (k := 0) rfl (nI_1 _) (by decide) rfl (fun ls hl => ?_)
          refine lv_goto (tgt := 6) hx hb dX6_pinnedIn_35 (by decide) ?_
          exact ih (i + 1) w H locs ls (by omega) (hw.trans (zl_cp0 (by omega) c7).symm) (by omega) hZ (lv_sub hl [0, 1, 2, 3, 4, 5] rfl)
        · refine lv_iinc (v := nI (w + 1)) (lv' := [(4, .int (nI (w + 1))), (5, .int (nI i)), (0, .ref st), (1, .int (nI a)), (2, .int (nI f)), (3, .int (nI t))]) hx hb dX6_pinnedIn_29 hl (k := 1) rfl (nI_1 _) (by decide) rfl (fun ls hl => ?_)
          refine lv_iinc (v := nI (i + 1)) (lv' := [(5, .int (nI (i + 1))), (4, .int (nI (w + 1))), (0, .ref st), (1, .int (nI a)), (2, .int (nI f)), (3, .int (nI t))]) hx hb dX6_pinnedIn_32 hl (k := 1) rfl (nI_1 _) (by decide) rfl (fun ls hl => ?_)
          refine lv_goto (tgt := 6) hx hb dX6_pinnedIn_35 (by decide) ?_
          exact ih (i + 1) (w + 1) H locs ls (by omega) (by rw [zl_cp1 (by omega) c7, ← hw]) (by omega) hZ (lv_sub hl [0, 1, 2, 3, 4, 5] rfl)
  exact LP1 _ f 0 H locs ls (by omega) (by rw [Nat.sub_self]; rfl) (Nat.lt_succ_self _) hZ (lv_sub hl [0, 1, 2, 3, 4, 5] rfl)
theorem dg_X6_nullRows_0 : (decode cX6_nullRows 0 = .ok (.iconst 0, 1)) ∧ (decode cX6_nullRows 1 = .ok (.istore_n 2, 1)) ∧ (decode cX6_nullRows 2 = .ok (.iconst 0, 1)) ∧ (decode cX6_nullRows 3 = .ok (.istore_n 3, 1)) ∧ (decode cX6_nullRows 4 = .ok (.aload_n 0, 1)) ∧ (decode cX6_nullRows 5 = .ok (.getfield 15, 3)) ∧ (decode cX6_nullRows 8 = .ok (.iload_n 1, 1)) ∧ (decode cX6_nullRows 9 = .ok (.iaload, 1)) ∧ (decode cX6_nullRows 10 = .ok (.iconst 1, 1)) ∧ (decode cX6_nullRows 11 = .ok (.if_icmp .le 42, 3)) ∧ (decode cX6_nullRows 14 = .ok (.iload_n 3, 1)) ∧ (decode cX6_nullRows 15 = .ok (.aload_n 0, 1)) ∧ (decode cX6_nullRows 16 = .ok (.getfield 24, 3)) ∧ (decode cX6_nullRows 19 = .ok (.iload_n 1, 1)) ∧ (decode cX6_nullRows 20 = .ok (.iaload, 1)) ∧ (decode cX6_nullRows 21 = .ok (.if_icmp .ge 32, 3)) := by decide +kernel
theorem dX6_nullRows_0 : decode cX6_nullRows 0 = .ok (.iconst 0, 1) := dg_X6_nullRows_0.1
theorem dX6_nullRows_1 : decode cX6_nullRows 1 = .ok (.istore_n 2, 1) := dg_X6_nullRows_0.2.1
theorem dX6_nullRows_2 : decode cX6_nullRows 2 = .ok (.iconst 0, 1) := dg_X6_nullRows_0.2.2.1
theorem dX6_nullRows_3 : decode cX6_nullRows 3 = .ok (.istore_n 3, 1) := dg_X6_nullRows_0.2.2.2.1
theorem dX6_nullRows_4 : decode cX6_nullRows 4 = .ok (.aload_n 0, 1) := dg_X6_nullRows_0.2.2.2.2.1
theorem dX6_nullRows_5 : decode cX6_nullRows 5 = .ok (.getfield 15, 3) := dg_X6_nullRows_0.2.2.2.2.2.1
theorem dX6_nullRows_8 : decode cX6_nullRows 8 = .ok (.iload_n 1, 1) := dg_X6_nullRows_0.2.2.2.2.2.2.1
theorem dX6_nullRows_9 : decode cX6_nullRows 9 = .ok (.iaload, 1) := dg_X6_nullRows_0.2.2.2.2.2.2.2.1
theorem dX6_nullRows_10 : decode cX6_nullRows 10 = .ok (.iconst 1, 1) := dg_X6_nullRows_0.2.2.2.2.2.2.2.2.1
theorem dX6_nullRows_11 : decode cX6_nullRows 11 = .ok (.if_icmp .le 42, 3) := dg_X6_nullRows_0.2.2.2.2.2.2.2.2.2.1
theorem dX6_nullRows_14 : decode cX6_nullRows 14 = .ok (.iload_n 3, 1) := dg_X6_nullRows_0.2.2.2.2.2.2.2.2.2.2.1
theorem dX6_nullRows_15 : decode cX6_nullRows 15 = .ok (.aload_n 0, 1) := dg_X6_nullRows_0.2.2.2.2.2.2.2.2.2.2.2.1
theorem dX6_nullRows_16 : decode cX6_nullRows 16 = .ok (.getfield 24, 3) := dg_X6_nullRows_0.2.2.2.2.2.2.2.2.2.2.2.2.1
theorem dX6_nullRows_19 : decode cX6_nullRows 19 = .ok (.iload_n 1, 1) := dg_X6_nullRows_0.2.2.2.2.2.2.2.2.2.2.2.2.2.1
theorem dX6_nullRows_20 : decode cX6_nullRows 20 = .ok (.iaload, 1) := dg_X6_nullRows_0.2.2.2.2.2.2.2.2.2.2.2.2.2.2.1
theorem dX6_nullRows_21 : decode cX6_nullRows 21 = .ok (.if_icmp .ge 32, 3) := dg_X6_nullRows_0.2.2.2.2.2.2.2.2.2.2.2.2.2.2.2
theorem dg_X6_nullRows_24 : (decode cX6_nullRows 24 = .ok (.aload_n 0, 1)) ∧ (decode cX6_nullRows 25 = .ok (.getfield 27, 3)) ∧ (decode cX6_nullRows 28 = .ok (.aload_n 0, 1)) ∧ (decode cX6_nullRows 29 = .ok (.getfield 21, 3)) ∧ (decode cX6_nullRows 32 = .ok (.iload_n 1, 1)) ∧ (decode cX6_nullRows 33 = .ok (.iaload, 1)) ∧ (decode cX6_nullRows 34 = .ok (.iload_n 3, 1)) ∧ (decode cX6_nullRows 35 = .ok (.iadd, 1)) ∧ (decode cX6_nullRows 36 = .ok (.laload, 1)) ∧ (decode cX6_nullRows 37 = .ok (.ldc2_w 49, 3)) ∧ (decode cX6_nullRows 40 = .ok (.lcmp, 1)) ∧ (decode cX6_nullRows 41 = .ok (.ifCond .ne 6, 3)) ∧ (decode cX6_nullRows 44 = .ok (.iinc 2 1, 3)) ∧ (decode cX6_nullRows 47 = .ok (.iinc 3 1, 3)) ∧ (decode cX6_nullRows 50 = .ok (.goto (-46), 3)) ∧ (decode cX6_nullRows 53 = .ok (.iload_n 2, 1)) := by decide +kernel
theorem dX6_nullRows_24 : decode cX6_nullRows 24 = .ok (.aload_n 0, 1) := dg_X6_nullRows_24.1
theorem dX6_nullRows_25 : decode cX6_nullRows 25 = .ok (.getfield 27, 3) := dg_X6_nullRows_24.2.1
theorem dX6_nullRows_28 : decode cX6_nullRows 28 = .ok (.aload_n 0, 1) := dg_X6_nullRows_24.2.2.1
theorem dX6_nullRows_29 : decode cX6_nullRows 29 = .ok (.getfield 21, 3) := dg_X6_nullRows_24.2.2.2.1
theorem dX6_nullRows_32 : decode cX6_nullRows 32 = .ok (.iload_n 1, 1) := dg_X6_nullRows_24.2.2.2.2.1
theorem dX6_nullRows_33 : decode cX6_nullRows 33 = .ok (.iaload, 1) := dg_X6_nullRows_24.2.2.2.2.2.1
theorem dX6_nullRows_34 : decode cX6_nullRows 34 = .ok (.iload_n 3, 1) := dg_X6_nullRows_24.2.2.2.2.2.2.1
theorem dX6_nullRows_35 : decode cX6_nullRows 35 = .ok (.iadd, 1) := dg_X6_nullRows_24.2.2.2.2.2.2.2.1
theorem dX6_nullRows_36 : decode cX6_nullRows 36 = .ok (.laload, 1) := dg_X6_nullRows_24.2.2.2.2.2.2.2.2.1
theorem dX6_nullRows_37 : decode cX6_nullRows 37 = .ok (.ldc2_w 49, 3) := dg_X6_nullRows_24.2.2.2.2.2.2.2.2.2.1
theorem dX6_nullRows_40 : decode cX6_nullRows 40 = .ok (.lcmp, 1) := dg_X6_nullRows_24.2.2.2.2.2.2.2.2.2.2.1
theorem dX6_nullRows_41 : decode cX6_nullRows 41 = .ok (.ifCond .ne 6, 3) := dg_X6_nullRows_24.2.2.2.2.2.2.2.2.2.2.2.1
theorem dX6_nullRows_44 : decode cX6_nullRows 44 = .ok (.iinc 2 1, 3) := dg_X6_nullRows_24.2.2.2.2.2.2.2.2.2.2.2.2.1
theorem dX6_nullRows_47 : decode cX6_nullRows 47 = .ok (.iinc 3 1, 3) := dg_X6_nullRows_24.2.2.2.2.2.2.2.2.2.2.2.2.2.1
theorem dX6_nullRows_50 : decode cX6_nullRows 50 = .ok (.goto (-46), 3) := dg_X6_nullRows_24.2.2.2.2.2.2.2.2.2.2.2.2.2.2.1
theorem dX6_nullRows_53 : decode cX6_nullRows 53 = .ok (.iload_n 2, 1) := dg_X6_nullRows_24.2.2.2.2.2.2.2.2.2.2.2.2.2.2.2
theorem dg_X6_nullRows_54 : (decode cX6_nullRows 54 = .ok (.ireturn, 1)) := by decide +kernel
theorem dX6_nullRows_54 : decode cX6_nullRows 54 = .ok (.ireturn, 1) := dg_X6_nullRows_54
theorem zk_54 : Cond.fieldLink RX6 27 RX6 "bits" "[J" ∈ zz_w := zz_in (List.mem_append_right _ (List.mem_append_left _ (List.mem_of_getElem? (i := 54) (by decide +kernel)))) rfl
theorem zf_X6_27 : zz_f RX6 27 5 7 := ⟨RX6, TX6, 10, rfl, zi_X6, by decide, zk_54⟩
theorem zk_250 : Cond.constantLong RX6 49 (-1) ∈ zz_w := zz_in (List.mem_append_right _ (List.mem_append_right _ (List.mem_append_left _ (List.mem_of_getElem? (i := 10) (by decide +kernel))))) rfl
abbrev rm_co_nullRows : Room := { frames := 0, cells := 0, slots := 0, locals := 0 }
abbrev po_co_nullRows (g : zz_G) (st : Nat) (kd : Nat) (dp : Nat) (cl : Nat) (sa : Nat) (ln : Nat) (bt : Nat) (pn : Nat) (bf : Nat) (na : Nat) (nu : Nat) (dpf : Nat → Int32) (saf : Nat → Int32) (lnf : Nat → Int32) (btf : Nat → Int64) (a : Nat) (sz : Nat) (lz : Nat) (h_60 : a < 60) (e_s : saf a = nI sz) (e_l : lnf a = nI lz) (h_b : sz + lz ≤ 4000 ∧ lz ≤ 200) : Int32 → va_W → Prop := fun (r : Int32) (u : va_W) => r = nI (if dpf a ≤ 1 then 0 else zz_cz btf sz lz) ∧ u = [cw_k5 st (nI na) (nI nu) kd dp cl sa ln bt pn bf, cw_i g dp 60 dpf, cw_i g sa 60 saf, cw_i g ln 60 lnf, cw_l g bt 4000 btf]
set_option maxHeartbeats 4000000 in
set_option maxRecDepth 100000 in
theorem co_nullRows (g : zz_G) (st : Nat) (kd : Nat) (dp : Nat) (cl : Nat) (sa : Nat) (ln : Nat) (bt : Nat) (pn : Nat) (bf : Nat) (na : Nat) (nu : Nat) (dpf : Nat → Int32) (saf : Nat → Int32) (lnf : Nat → Int32) (btf : Nat → Int64) (a : Nat) (sz : Nat) (lz : Nat) (h_60 : a < 60) (e_s : saf a = nI sz) (e_l : lnf a = nI lz) (h_b : sz + lz ≤ 4000 ∧ lz ≤ 200) : zz_I g yX6_nullRows (.code yX6_nullRows cX6_nullRows 4 (some .int)) rm_co_nullRows [.ref st, .int (nI a)] [cw_k5 st (nI na) (nI nu) kd dp cl sa ln bt pn bf, cw_i g dp 60 dpf, cw_i g sa 60 saf, cw_i g ln 60 lnf, cw_l g bt 4000 btf] (po_co_nullRows g st kd dp cl sa ln bt pn bf na nu dpf saf lnf btf a sz lz h_60 e_s e_l h_b) := by
  refine zz_I.intro (own := RX6) (cc := cX6_nullRows) (nL := 4) (by decide) rfl (Nat.le_of_ble_eq_true rfl) ?_
  intro p l e s m args below meth c A H locs ls hC hnm hs hZ hl
  obtain ⟨hx, hb, hml, hown, hts, hr, hlocks, hK⟩ := id hC
  have hl : lv_has ls 4 [(0, .ref st), (1, .int (nI a))] := hl
  have hZ : zz_Z g A s.heap [cw_k5 st (nI na) (nI nu) kd dp cl sa ln bt pn bf, cw_i g dp 60 dpf, cw_i g sa 60 saf, cw_i g ln 60 lnf, cw_l g bt 4000 btf] H locs := hZ
  refine lv_iconst (v := 0) hx hb dX6_nullRows_0 (by decide) ?_
  refine lv_istore_n (lv' := [(2, .int 0), (0, .ref st), (1, .int (nI a))]) hx hb dX6_nullRows_1 rfl hl (by decide) rfl (fun ls hl => ?_)
  refine lv_iconst (v := 0) hx hb dX6_nullRows_2 (by decide) ?_
  refine lv_istore_n (lv' := [(3, .int 0), (2, .int 0), (0, .ref st), (1, .int (nI a))]) hx hb dX6_nullRows_3 rfl hl (by decide) rfl (fun ls hl => ?_)
  have LP1 : ∀ (N : Nat) (i : Nat) (w : Nat) (H : Heap) (locs : List Loc) (ls : Array Slot), (i ≤ lz) → (w = zz_cz btf sz i) → (dpf a ≤ 1 → i = 0) → (lz - i) < N → zz_Z g A s.heap [cw_k5 st (nI na) (nI nu) kd dp cl sa ln bt pn bf, cw_i g dp 60 dpf, cw_i g sa 60 saf, cw_i g ln 60 lnf, cw_l g bt 4000 btf] H locs → lv_has ls 4 [(3, .int (nI i)), (2, .int (nI w)), (0, .ref st), (1, .int (nI a))] → W p l e rm_co_nullRows s m args below meth c H locs 0 0 (zz_QI below g args s A rm_co_nullRows.cells rm_co_nullRows.slots (po_co_nullRows g st kd dp cl sa ln bt pn bf na nu dpf saf lnf btf a sz lz h_60 e_s e_l h_b)) (F0 m 4 ls []) := by
    intro N
    induction N with
    | zero =>
      intro i w H locs ls hi hw hz hN
      exact absurd hN (Nat.not_lt_zero _)
    | succ N ih =>
      intro i w H locs ls hi hw hz hN hZ hl
      refine lv_aload_n hx hb dX6_nullRows_4 rfl (lv_at hl 2 rfl) ?_
      refine zz_get hC hZ 0 rfl zf_X6_15 rfl dX6_nullRows_5 ?_
      refine lv_iload_n hx hb dX6_nullRows_8 rfl (lv_at hl 3 rfl) ?_
      have bd2 : a < 60 := by omega
      refine zz_ialdn hC hZ 1 rfl bd2 (by decide) dX6_nullRows_9 ?_
      refine lv_iconst (v := 1) hx hb dX6_nullRows_10 (by decide) ?_
      refine lv_icmp_le (tgt := 53) hx hb dX6_nullRows_11 (by decide) (fun c3 => ?_) (fun c3 => ?_)
      · refine lv_iload_n hx hb dX6_nullRows_53 rfl (lv_at hl 1 rfl) ?_
        exact zz_iret hC hZ (⟨by rw [if_pos c3, hw, hz c3]; rfl, rfl⟩) (Nat.le_of_ble_eq_true rfl) (Nat.le_of_ble_eq_true rfl) dX6_nullRows_54
      · refine lv_iload_n hx hb dX6_nullRows_14 rfl (lv_at hl 0 rfl) ?_
        refine lv_aload_n hx hb dX6_nullRows_15 rfl (lv_at hl 2 rfl) ?_
        refine zz_get hC hZ 0 rfl zf_X6_24 rfl dX6_nullRows_16 ?_
        refine lv_iload_n hx hb dX6_nullRows_19 rfl (lv_at hl 3 rfl) ?_
        refine zz_ialdn hC hZ 3 rfl bd2 (by decide) dX6_nullRows_20 ?_
        refine zz_topi (v := nI lz) (e_l) ?_
        have bd5 : lz < 2 ^ 31 := by omega
        have bd6 : i < 2 ^ 31 := by omega
        refine lv_icmp_ge (tgt := 53) hx hb dX6_nullRows_21 (by decide) (fun c4 => ?_) (fun c4 => ?_)
        · have nc4 : lz ≤ i := (nI_leI bd5 bd6).mp (show nI (lz) ≤ nI (i) from c4)
          refine lv_iload_n hx hb dX6_nullRows_53 rfl (lv_at hl 1 rfl) ?_
          exact zz_iret hC hZ (⟨by rw [if_neg c3, hw, show i = lz by omega], rfl⟩) (Nat.le_of_ble_eq_true rfl) (Nat.le_of_ble_eq_true rfl) dX6_nullRows_54
        · have nc4 : ¬ lz ≤ i := fun zq => c4 (show nI (lz) ≤ nI (i) from (nI_leI bd5 bd6).mpr zq)
          refine lv_aload_n hx hb dX6_nullRows_24 rfl (lv_at hl 2 rfl) ?_
          refine zz_get hC hZ 0 rfl zf_X6_27 rfl dX6_nullRows_25 ?_
          refine lv_aload_n hx hb dX6_nullRows_28 rfl (lv_at hl 2 rfl) ?_
          refine zz_get hC hZ 0 rfl zf_X6_21 rfl dX6_nullRows_29 ?_
          refine lv_iload_n hx hb dX6_nullRows_32 rfl (lv_at hl 3 rfl) ?_
          refine zz_ialdn hC hZ 2 rfl bd2 (by decide) dX6_nullRows_33 ?_
          refine zz_topi (v := nI sz) (e_s) ?_
          refine lv_iload_n hx hb dX6_nullRows_34 rfl (lv_at hl 0 rfl) ?_
          refine lv_iadd hx hb dX6_nullRows_35 ?_
          refine zz_topi (v := nI (sz + i)) (nI_add _ _) ?_
          have bd7 : (sz + i) < 4000 := by omega
          refine zz_laldn hC hZ 4 rfl bd7 (by decide) dX6_nullRows_36 ?_
          refine lv_ldc2 hx hb hown (hts _ zk_250) dX6_nullRows_37 ?_
          refine zz_lcmp_ne (tgt := 47) hC dX6_nullRows_40 dX6_nullRows_41 (by decide) (fun c8 => ?_) (fun c8 => ?_)
          · refine lv_iinc (v := nI (i + 1)) (lv' := [(3, .int (nI (i + 1))), (2, .int (nI w)), (0, .ref st), (1, .int (nI a))]) hx hb dX6_nullRows_47 hl (k := 0) rfl (nI_1 _) (by decide) rfl (fun ls hl => ?_)
            refine lv_goto (tgt := 4) hx hb dX6_nullRows_50 (by decide) ?_
            exact ih (i + 1) w H locs ls (by omega) (by rw [zz_cz, if_neg c8, Nat.add_zero, ← hw]) (fun q => absurd q c3) (by omega) hZ (lv_sub hl [0, 1, 2, 3] rfl)
          · refine lv_iinc (v := nI (w + 1)) (lv' := [(2, .int (nI (w + 1))), (3, .int (nI i)), (0, .ref st), (1, .int (nI a))]) hx hb dX6_nullRows_44 hl (k := 1) rfl (nI_1 _) (by decide) rfl (fun ls hl => ?_)
            refine lv_iinc (v := nI (i + 1)) (lv' := [(3, .int (nI (i + 1))), (2, .int (nI (w + 1))), (0, .ref st), (1, .int (nI a))]) hx hb dX6_nullRows_47 hl (k := 1) rfl (nI_1 _) (by decide) rfl (fun ls hl => ?_)
            refine lv_goto (tgt := 4) hx hb dX6_nullRows_50 (by decide) ?_
            exact ih (i + 1) (w + 1) H locs ls (by omega) (by rw [zz_cz, if_pos c8, ← hw]) (fun q => absurd q c3) (by omega) hZ (lv_sub hl [0, 1, 2, 3] rfl)
  exact LP1 _ 0 0 H locs ls (by omega) (rfl) (fun _ => rfl) (Nat.lt_succ_self _) hZ (lv_sub hl [0, 1, 2, 3] rfl)
theorem dg_X6_takenOf_0 : (decode cX6_takenOf 0 = .ok (.aload_n 0, 1)) ∧ (decode cX6_takenOf 1 = .ok (.getfield 15, 3)) ∧ (decode cX6_takenOf 4 = .ok (.iload_n 3, 1)) ∧ (decode cX6_takenOf 5 = .ok (.iaload, 1)) ∧ (decode cX6_takenOf 6 = .ok (.iconst 1, 1)) ∧ (decode cX6_takenOf 7 = .ok (.if_icmp .le 6, 3)) ∧ (decode cX6_takenOf 10 = .ok (.iload 4, 2)) ∧ (decode cX6_takenOf 12 = .ok (.ireturn, 1)) ∧ (decode cX6_takenOf 13 = .ok (.iconst 0, 1)) ∧ (decode cX6_takenOf 14 = .ok (.istore 5, 2)) ∧ (decode cX6_takenOf 16 = .ok (.iload 5, 2)) ∧ (decode cX6_takenOf 18 = .ok (.iload 4, 2)) ∧ (decode cX6_takenOf 20 = .ok (.if_icmp .ge 36, 3)) ∧ (decode cX6_takenOf 23 = .ok (.aload_n 0, 1)) ∧ (decode cX6_takenOf 24 = .ok (.iload_n 3, 1)) ∧ (decode cX6_takenOf 25 = .ok (.aload_n 0, 1)) := by decide +kernel
theorem dX6_takenOf_0 : decode cX6_takenOf 0 = .ok (.aload_n 0, 1) := dg_X6_takenOf_0.1
theorem dX6_takenOf_1 : decode cX6_takenOf 1 = .ok (.getfield 15, 3) := dg_X6_takenOf_0.2.1
theorem dX6_takenOf_4 : decode cX6_takenOf 4 = .ok (.iload_n 3, 1) := dg_X6_takenOf_0.2.2.1
theorem dX6_takenOf_5 : decode cX6_takenOf 5 = .ok (.iaload, 1) := dg_X6_takenOf_0.2.2.2.1
theorem dX6_takenOf_6 : decode cX6_takenOf 6 = .ok (.iconst 1, 1) := dg_X6_takenOf_0.2.2.2.2.1
theorem dX6_takenOf_7 : decode cX6_takenOf 7 = .ok (.if_icmp .le 6, 3) := dg_X6_takenOf_0.2.2.2.2.2.1
theorem dX6_takenOf_10 : decode cX6_takenOf 10 = .ok (.iload 4, 2) := dg_X6_takenOf_0.2.2.2.2.2.2.1
theorem dX6_takenOf_12 : decode cX6_takenOf 12 = .ok (.ireturn, 1) := dg_X6_takenOf_0.2.2.2.2.2.2.2.1
theorem dX6_takenOf_13 : decode cX6_takenOf 13 = .ok (.iconst 0, 1) := dg_X6_takenOf_0.2.2.2.2.2.2.2.2.1
theorem dX6_takenOf_14 : decode cX6_takenOf 14 = .ok (.istore 5, 2) := dg_X6_takenOf_0.2.2.2.2.2.2.2.2.2.1
theorem dX6_takenOf_16 : decode cX6_takenOf 16 = .ok (.iload 5, 2) := dg_X6_takenOf_0.2.2.2.2.2.2.2.2.2.2.1
theorem dX6_takenOf_18 : decode cX6_takenOf 18 = .ok (.iload 4, 2) := dg_X6_takenOf_0.2.2.2.2.2.2.2.2.2.2.2.1
theorem dX6_takenOf_20 : decode cX6_takenOf 20 = .ok (.if_icmp .ge 36, 3) := dg_X6_takenOf_0.2.2.2.2.2.2.2.2.2.2.2.2.1
theorem dX6_takenOf_23 : decode cX6_takenOf 23 = .ok (.aload_n 0, 1) := dg_X6_takenOf_0.2.2.2.2.2.2.2.2.2.2.2.2.2.1
theorem dX6_takenOf_24 : decode cX6_takenOf 24 = .ok (.iload_n 3, 1) := dg_X6_takenOf_0.2.2.2.2.2.2.2.2.2.2.2.2.2.2.1
theorem dX6_takenOf_25 : decode cX6_takenOf 25 = .ok (.aload_n 0, 1) := dg_X6_takenOf_0.2.2.2.2.2.2.2.2.2.2.2.2.2.2.2
theorem dg_X6_takenOf_26 : (decode cX6_takenOf 26 = .ok (.getfield 27, 3)) ∧ (decode cX6_takenOf 29 = .ok (.aload_n 0, 1)) ∧ (decode cX6_takenOf 30 = .ok (.getfield 21, 3)) ∧ (decode cX6_takenOf 33 = .ok (.iload_n 1, 1)) ∧ (decode cX6_takenOf 34 = .ok (.iaload, 1)) ∧ (decode cX6_takenOf 35 = .ok (.iload_n 2, 1)) ∧ (decode cX6_takenOf 36 = .ok (.iadd, 1)) ∧ (decode cX6_takenOf 37 = .ok (.iload 5, 2)) ∧ (decode cX6_takenOf 39 = .ok (.iadd, 1)) ∧ (decode cX6_takenOf 40 = .ok (.laload, 1)) ∧ (decode cX6_takenOf 41 = .ok (.invokevirtual 61, 3)) ∧ (decode cX6_takenOf 44 = .ok (.ifCond .ne 6, 3)) ∧ (decode cX6_takenOf 47 = .ok (.iload 5, 2)) ∧ (decode cX6_takenOf 49 = .ok (.ireturn, 1)) ∧ (decode cX6_takenOf 50 = .ok (.iinc 5 1, 3)) ∧ (decode cX6_takenOf 53 = .ok (.goto (-37), 3)) := by decide +kernel
theorem dX6_takenOf_26 : decode cX6_takenOf 26 = .ok (.getfield 27, 3) := dg_X6_takenOf_26.1
theorem dX6_takenOf_29 : decode cX6_takenOf 29 = .ok (.aload_n 0, 1) := dg_X6_takenOf_26.2.1
theorem dX6_takenOf_30 : decode cX6_takenOf 30 = .ok (.getfield 21, 3) := dg_X6_takenOf_26.2.2.1
theorem dX6_takenOf_33 : decode cX6_takenOf 33 = .ok (.iload_n 1, 1) := dg_X6_takenOf_26.2.2.2.1
theorem dX6_takenOf_34 : decode cX6_takenOf 34 = .ok (.iaload, 1) := dg_X6_takenOf_26.2.2.2.2.1
theorem dX6_takenOf_35 : decode cX6_takenOf 35 = .ok (.iload_n 2, 1) := dg_X6_takenOf_26.2.2.2.2.2.1
theorem dX6_takenOf_36 : decode cX6_takenOf 36 = .ok (.iadd, 1) := dg_X6_takenOf_26.2.2.2.2.2.2.1
theorem dX6_takenOf_37 : decode cX6_takenOf 37 = .ok (.iload 5, 2) := dg_X6_takenOf_26.2.2.2.2.2.2.2.1
theorem dX6_takenOf_39 : decode cX6_takenOf 39 = .ok (.iadd, 1) := dg_X6_takenOf_26.2.2.2.2.2.2.2.2.1
theorem dX6_takenOf_40 : decode cX6_takenOf 40 = .ok (.laload, 1) := dg_X6_takenOf_26.2.2.2.2.2.2.2.2.2.1
theorem dX6_takenOf_41 : decode cX6_takenOf 41 = .ok (.invokevirtual 61, 3) := dg_X6_takenOf_26.2.2.2.2.2.2.2.2.2.2.1
theorem dX6_takenOf_44 : decode cX6_takenOf 44 = .ok (.ifCond .ne 6, 3) := dg_X6_takenOf_26.2.2.2.2.2.2.2.2.2.2.2.1
theorem dX6_takenOf_47 : decode cX6_takenOf 47 = .ok (.iload 5, 2) := dg_X6_takenOf_26.2.2.2.2.2.2.2.2.2.2.2.2.1
theorem dX6_takenOf_49 : decode cX6_takenOf 49 = .ok (.ireturn, 1) := dg_X6_takenOf_26.2.2.2.2.2.2.2.2.2.2.2.2.2.1
theorem dX6_takenOf_50 : decode cX6_takenOf 50 = .ok (.iinc 5 1, 3) := dg_X6_takenOf_26.2.2.2.2.2.2.2.2.2.2.2.2.2.2.1
theorem dX6_takenOf_53 : decode cX6_takenOf 53 = .ok (.goto (-37), 3) := dg_X6_takenOf_26.2.2.2.2.2.2.2.2.2.2.2.2.2.2.2
theorem dg_X6_takenOf_56 : (decode cX6_takenOf 56 = .ok (.iload 4, 2)) ∧ (decode cX6_takenOf 58 = .ok (.ireturn, 1)) := by decide +kernel
theorem dX6_takenOf_56 : decode cX6_takenOf 56 = .ok (.iload 4, 2) := dg_X6_takenOf_56.1
theorem dX6_takenOf_58 : decode cX6_takenOf 58 = .ok (.ireturn, 1) := dg_X6_takenOf_56.2
theorem zk_436 : Cond.methodLink RX6 61 yX6_takes ∈ zz_w := zz_in (List.mem_append_right _ (List.mem_append_right _ (List.mem_append_left _ (List.mem_of_getElem? (i := 196) (by decide +kernel))))) rfl
set_option maxRecDepth 20000 in
theorem zk_390 : Cond.code yX6_takes cX6_takes 4 (some .boolean) ∈ zz_w := zz_in (List.mem_append_right _ (List.mem_append_right _ (List.mem_append_left _ (List.mem_of_getElem? (i := 150) (rfl))))) rfl
theorem zk_2 : Cond.initialized RX6 ∈ zz_w := zz_in (List.mem_append_right _ (List.mem_append_left _ (List.mem_of_getElem? (i := 2) (by decide +kernel)))) rfl
theorem zk_388 : Cond.instanceMethod yX6_takes ∈ zz_w := zz_in (List.mem_append_right _ (List.mem_append_right _ (List.mem_append_left _ (List.mem_of_getElem? (i := 148) (by decide +kernel))))) rfl
theorem zk_389 : Cond.selects RX6 yX6_takes yX6_takes ∈ zz_w := zz_in (List.mem_append_right _ (List.mem_append_right _ (List.mem_append_left _ (List.mem_of_getElem? (i := 149) (by decide +kernel))))) rfl
theorem zc_X6_61 : zz_cV RX6 61 yX6_takes cX6_takes 4 (some .boolean) 2 := ⟨⟨zk_436, zk_390, zk_2, by decide, by decide, by decide +kernel⟩, zk_388, zk_389⟩
abbrev rm_co_takenOf : Room := { frames := 1, cells := 0, slots := 0, locals := 23 }
abbrev po_co_takenOf (g : zz_G) (st : Nat) (kd : Nat) (dp : Nat) (cl : Nat) (sa : Nat) (ln : Nat) (bt : Nat) (pn : Nat) (bf : Nat) (na : Nat) (nu : Nat) (dpf : Nat → Int32) (clf : Nat → Int32) (saf : Nat → Int32) (btf : Nat → Int64) (a : Nat) (sz : Nat) (lz : Nat) (i : Nat) (b : Nat) (n : Nat) (h_60 : a < 60 ∧ b < 60) (e_s : saf a = nI sz) (h_b : sz + lz ≤ 4000 ∧ lz ≤ 200) (h_t : i + n ≤ lz) : Int32 → va_W → Prop := fun (r : Int32) (u : va_W) => ∃ (n2 : Nat), (r = nI n2) ∧ (n2 ≤ n) ∧ (n2 = (if dpf b ≤ 1 then zz_tk clf b btf (sz + i) n 0 else n)) ∧ u = [cw_k5 st (nI na) (nI nu) kd dp cl sa ln bt pn bf, cw_i g dp 60 dpf, cw_i g cl 60 clf, cw_i g sa 60 saf, cw_l g bt 4000 btf]
set_option maxHeartbeats 4000000 in
set_option maxRecDepth 100000 in
theorem co_takenOf (g : zz_G) (st : Nat) (kd : Nat) (dp : Nat) (cl : Nat) (sa : Nat) (ln : Nat) (bt : Nat) (pn : Nat) (bf : Nat) (na : Nat) (nu : Nat) (dpf : Nat → Int32) (clf : Nat → Int32) (saf : Nat → Int32) (btf : Nat → Int64) (a : Nat) (sz : Nat) (lz : Nat) (i : Nat) (b : Nat) (n : Nat) (h_60 : a < 60 ∧ b < 60) (e_s : saf a = nI sz) (h_b : sz + lz ≤ 4000 ∧ lz ≤ 200) (h_t : i + n ≤ lz) : zz_I g yX6_takenOf (.code yX6_takenOf cX6_takenOf 6 (some .int)) rm_co_takenOf [.ref st, .int (nI a), .int (nI i), .int (nI b), .int (nI n)] [cw_k5 st (nI na) (nI nu) kd dp cl sa ln bt pn bf, cw_i g dp 60 dpf, cw_i g cl 60 clf, cw_i g sa 60 saf, cw_l g bt 4000 btf] (po_co_takenOf g st kd dp cl sa ln bt pn bf na nu dpf clf saf btf a sz lz i b n h_60 e_s h_b h_t) := by
  refine zz_I.intro (own := RX6) (cc := cX6_takenOf) (nL := 6) (by decide) rfl (Nat.le_of_ble_eq_true rfl) ?_
  intro p l e s m args below meth c A H locs ls hC hnm hs hZ hl
  obtain ⟨hx, hb, hml, hown, hts, hr, hlocks, hK⟩ := id hC
  have hl : lv_has ls 6 [(0, .ref st), (1, .int (nI a)), (2, .int (nI i)), (3, .int (nI b)), (4, .int (nI n))] := hl
  have hZ : zz_Z g A s.heap [cw_k5 st (nI na) (nI nu) kd dp cl sa ln bt pn bf, cw_i g dp 60 dpf, cw_i g cl 60 clf, cw_i g sa 60 saf, cw_l g bt 4000 btf] H locs := hZ
  refine lv_aload_n hx hb dX6_takenOf_0 rfl (lv_at hl 0 rfl) ?_
  refine zz_get hC hZ 0 rfl zf_X6_15 rfl dX6_takenOf_1 ?_
  refine lv_iload_n hx hb dX6_takenOf_4 rfl (lv_at hl 3 rfl) ?_
  have bd1 : b < 60 := by omega
  refine zz_ialdn hC hZ 1 rfl bd1 (by decide) dX6_takenOf_5 ?_
  refine lv_iconst (v := 1) hx hb dX6_takenOf_6 (by decide) ?_
  refine lv_icmp_le (tgt := 13) hx hb dX6_takenOf_7 (by decide) (fun c2 => ?_) (fun c2 => ?_)
  · refine lv_iconst (v := 0) hx hb dX6_takenOf_13 (by decide) ?_
    refine lv_istore (lv' := [(5, .int 0), (0, .ref st), (1, .int (nI a)), (2, .int (nI i)), (3, .int (nI b)), (4, .int (nI n))]) hx hb dX6_takenOf_14 hl (by decide) rfl (fun ls hl => ?_)
    have LP3 : ∀ (N : Nat) (qn : Nat) (H : Heap) (locs : List Loc) (ls : Array Slot), (qn ≤ n) → (zz_tk clf b btf (sz + i) n 0 = zz_tk clf b btf (sz + i) (n - qn) qn) → (n - qn) < N → zz_Z g A s.heap [cw_k5 st (nI na) (nI nu) kd dp cl sa ln bt pn bf, cw_i g dp 60 dpf, cw_i g cl 60 clf, cw_i g sa 60 saf, cw_l g bt 4000 btf] H locs → lv_has ls 6 [(5, .int (nI qn)), (0, .ref st), (1, .int (nI a)), (2, .int (nI i)), (3, .int (nI b)), (4, .int (nI n))] → W p l e rm_co_takenOf s m args below meth c H locs 0 0 (zz_QI below g args s A rm_co_takenOf.cells rm_co_takenOf.slots (po_co_takenOf g st kd dp cl sa ln bt pn bf na nu dpf clf saf btf a sz lz i b n h_60 e_s h_b h_t)) (F0 m 16 ls []) := by
      intro N
      induction N with
      | zero =>
        intro qn H locs ls hq he hN
        exact absurd hN (Nat.not_lt_zero _)
      | succ N ih =>
        intro qn H locs ls hq he hN hZ hl
        refine lv_iload hx hb dX6_takenOf_16 (lv_at hl 0 rfl) ?_
        refine lv_iload hx hb dX6_takenOf_18 (lv_at hl 5 rfl) ?_
        have bd5 : n < 2 ^ 31 := by omega
        have bd6 : qn < 2 ^ 31 := by omega
        refine lv_icmp_ge (tgt := 56) hx hb dX6_takenOf_20 (by decide) (fun c4 => ?_) (fun c4 => ?_)
        · have nc4 : n ≤ qn := (nI_leI bd5 bd6).mp (show nI (n) ≤ nI (qn) from c4)
          refine lv_iload hx hb dX6_takenOf_56 (lv_at hl 5 rfl) ?_
          exact zz_iret hC hZ (⟨n, rfl, Nat.le_refl _, by rw [if_pos c2, he, show n - qn = 0 by omega, zz_tk]; omega, rfl⟩) (Nat.le_of_ble_eq_true rfl) (Nat.le_of_ble_eq_true rfl) dX6_takenOf_58
        · have nc4 : ¬ n ≤ qn := fun zq => c4 (show nI (n) ≤ nI (qn) from (nI_leI bd5 bd6).mpr zq)
          refine lv_aload_n hx hb dX6_takenOf_23 rfl (lv_at hl 1 rfl) ?_
          refine lv_iload_n hx hb dX6_takenOf_24 rfl (lv_at hl 4 rfl) ?_
          refine lv_aload_n hx hb dX6_takenOf_25 rfl (lv_at hl 1 rfl) ?_
          refine zz_get hC hZ 0 rfl zf_X6_27 rfl dX6_takenOf_26 ?_
          refine lv_aload_n hx hb dX6_takenOf_29 rfl (lv_at hl 1 rfl) ?_
          refine zz_get hC hZ 0 rfl zf_X6_21 rfl dX6_takenOf_30 ?_
          refine lv_iload_n hx hb dX6_takenOf_33 rfl (lv_at hl 2 rfl) ?_
          have bd7 : a < 60 := by omega
          refine zz_ialdn hC hZ 3 rfl bd7 (by decide) dX6_takenOf_34 ?_
          refine zz_topi (v := nI sz) (e_s) ?_
          refine lv_iload_n hx hb dX6_takenOf_35 rfl (lv_at hl 3 rfl) ?_
          refine lv_iadd hx hb dX6_takenOf_36 ?_
          refine zz_topi (v := nI (sz + i)) (nI_add _ _) ?_
          refine lv_iload hx hb dX6_takenOf_37 (lv_at hl 0 rfl) ?_
          refine lv_iadd hx hb dX6_takenOf_39 ?_
          refine zz_topi (v := nI ((sz + i) + qn)) (nI_add _ _) ?_
          have bd8 : ((sz + i) + qn) < 4000 := by omega
          refine zz_laldn hC hZ 4 rfl bd8 (by decide) dX6_takenOf_40 ?_
          refine zz_iV (As := [.int (nI b), .long (btf ((sz + i) + qn))]) (wc := [cw_k5 st (nI na) (nI nu) kd dp cl sa ln bt pn bf, cw_i g cl 60 clf]) (wr := [cw_i g dp 60 dpf, cw_i g sa 60 saf, cw_l g bt 4000 btf]) (rest := []) hC hZ hs hl zc_X6_61 (co_takes g st kd dp cl sa ln bt pn bf na nu clf b (btf ((sz + i) + qn)) (by omega)) [0, 2] [1, 3, 4] rfl rfl (by decide +kernel) (ci := 5) (q0 := 0) rfl rfl rfl rfl (Nat.le_of_ble_eq_true rfl) ⟨⟨Nat.le_of_ble_eq_true rfl, Nat.le_of_ble_eq_true rfl⟩, Nat.le_of_ble_eq_true rfl, Nat.le_of_ble_eq_true rfl⟩ dX6_takenOf_41 (fun r9 u10 H locs hp hZ => ?_)
          obtain ⟨rfl, rfl⟩ := hp
          have hZ : zz_Z g A s.heap [cw_i g dp 60 dpf, cw_i g sa 60 saf, cw_l g bt 4000 btf, cw_k5 st (nI na) (nI nu) kd dp cl sa ln bt pn bf, cw_i g cl 60 clf] H locs := hZ
          refine lv_if_ne (tgt := 50) hx hb dX6_takenOf_44 (by decide) (fun c11 => ?_) (fun c11 => ?_)
          · refine lv_iinc (v := nI (qn + 1)) (lv' := [(5, .int (nI (qn + 1))), (0, .ref st), (1, .int (nI a)), (2, .int (nI i)), (3, .int (nI b)), (4, .int (nI n))]) hx hb dX6_takenOf_50 hl (k := 0) rfl (nI_1 _) (by decide) rfl (fun ls hl => ?_)
            refine lv_goto (tgt := 16) hx hb dX6_takenOf_53 (by decide) ?_
            exact ih (qn + 1) H locs ls (by omega) (by rw [he, show n - qn = (n - (qn + 1)) + 1 by omega, zz_tk, if_neg c11]) (by omega) (hZ.sub [3, 0, 4, 1, 2] (by decide +kernel) rfl) (lv_sub hl [0, 1, 2, 3, 4, 5] rfl)
          · refine lv_iload hx hb dX6_takenOf_47 (lv_at hl 0 rfl) ?_
            have hZ : zz_Z g A s.heap [cw_k5 st (nI na) (nI nu) kd dp cl sa ln bt pn bf, cw_i g dp 60 dpf, cw_i g cl 60 clf, cw_i g sa 60 saf, cw_l g bt 4000 btf] H locs := hZ.sub [3, 0, 4, 1, 2] (by decide +kernel) rfl
            exact zz_iret hC hZ (⟨qn, rfl, by omega, by rw [if_pos c2, he, show n - qn = (n - (qn + 1)) + 1 by omega, zz_tk, if_pos c11], rfl⟩) (Nat.le_of_ble_eq_true rfl) (Nat.le_of_ble_eq_true rfl) dX6_takenOf_49
    exact LP3 _ 0 H locs ls (by omega) (rfl) (Nat.lt_succ_self _) hZ (lv_sub hl [0, 1, 2, 3, 4, 5] rfl)
  · refine lv_iload hx hb dX6_takenOf_10 (lv_at hl 4 rfl) ?_
    exact zz_iret hC hZ (⟨n, rfl, Nat.le_refl _, by rw [if_neg c2], rfl⟩) (Nat.le_of_ble_eq_true rfl) (Nat.le_of_ble_eq_true rfl) dX6_takenOf_12
