theorem dg_X0_has_0 : (decode cX0_has 0 = .ok (.iload_n 1, 1)) ∧ (decode cX0_has 1 = .ok (.ifCond .lt 15, 3)) ∧ (decode cX0_has 4 = .ok (.iload_n 1, 1)) ∧ (decode cX0_has 5 = .ok (.aload_n 0, 1)) ∧ (decode cX0_has 6 = .ok (.getfield 32, 3)) ∧ (decode cX0_has 9 = .ok (.if_icmp .ge 7, 3)) ∧ (decode cX0_has 12 = .ok (.iconst 1, 1)) ∧ (decode cX0_has 13 = .ok (.goto 4, 3)) ∧ (decode cX0_has 16 = .ok (.iconst 0, 1)) ∧ (decode cX0_has 17 = .ok (.ireturn, 1)) := by decide +kernel
theorem dX0_has_0 : decode cX0_has 0 = .ok (.iload_n 1, 1) := dg_X0_has_0.1
theorem dX0_has_1 : decode cX0_has 1 = .ok (.ifCond .lt 15, 3) := dg_X0_has_0.2.1
theorem dX0_has_4 : decode cX0_has 4 = .ok (.iload_n 1, 1) := dg_X0_has_0.2.2.1
theorem dX0_has_5 : decode cX0_has 5 = .ok (.aload_n 0, 1) := dg_X0_has_0.2.2.2.1
theorem dX0_has_6 : decode cX0_has 6 = .ok (.getfield 32, 3) := dg_X0_has_0.2.2.2.2.1
theorem dX0_has_9 : decode cX0_has 9 = .ok (.if_icmp .ge 7, 3) := dg_X0_has_0.2.2.2.2.2.1
theorem dX0_has_12 : decode cX0_has 12 = .ok (.iconst 1, 1) := dg_X0_has_0.2.2.2.2.2.2.1
theorem dX0_has_13 : decode cX0_has 13 = .ok (.goto 4, 3) := dg_X0_has_0.2.2.2.2.2.2.2.1
theorem dX0_has_16 : decode cX0_has 16 = .ok (.iconst 0, 1) := dg_X0_has_0.2.2.2.2.2.2.2.2.1
theorem dX0_has_17 : decode cX0_has 17 = .ok (.ireturn, 1) := dg_X0_has_0.2.2.2.2.2.2.2.2.2
theorem zk_138 : Cond.fieldLink RX0 32 RX0 "made" "I" ∈ zz_w := zz_in (List.mem_append_right _ (List.mem_append_left _ (List.mem_of_getElem? (i := 138) (by decide +kernel)))) rfl
theorem zi_X0_a : ∀ w ∈ u_ws RX0 TX0 7, w ∈ lw_tbl := by decide +kernel
theorem zi_X0_b : ∀ w ∈ u_ws RX0 TX0 7, goodWord w = true := by decide +kernel
theorem zi_X0 : ∀ w ∈ u_ws RX0 TX0 7, w ∈ zz_w := fun w h => zz_in (zi_X0_a w h) (zi_X0_b w h)
theorem zf_X0_32 : zz_f RX0 32 0 1 := ⟨RX0, TX0, 7, rfl, zi_X0, by decide, zk_138⟩
def fn_co_chas (w : Int32) (k : Int32) : Int32 := (if k < 0 then 0 else (if w ≤ k then 0 else 1))
abbrev rm_co_chas : Room := { frames := 0, cells := 0, slots := 0, locals := 0 }
abbrev po_co_chas (g : zz_G) (ch : Nat) (st : Nat) (c_pl : Nat) (c_sl : Nat) (c_co : Nat) (c_ca : Nat) (c_tu : Nat) (w : Int32) (k : Int32) : Int32 → va_W → Prop := fun (r : Int32) (u : va_W) => r = fn_co_chas w k ∧ u = [cw_k0 ch st w c_pl c_sl c_co c_ca c_tu]
set_option maxHeartbeats 4000000 in
set_option maxRecDepth 100000 in
theorem co_chas (g : zz_G) (ch : Nat) (st : Nat) (c_pl : Nat) (c_sl : Nat) (c_co : Nat) (c_ca : Nat) (c_tu : Nat) (w : Int32) (k : Int32) : zz_I g yX0_has (.code yX0_has cX0_has 2 (some .boolean)) rm_co_chas [.ref ch, .int k] [cw_k0 ch st w c_pl c_sl c_co c_ca c_tu] (po_co_chas g ch st c_pl c_sl c_co c_ca c_tu w k) := by
  refine zz_I.intro (own := RX0) (cc := cX0_has) (nL := 2) (by decide) rfl (Nat.le_of_ble_eq_true rfl) ?_
  intro p l e s m args below meth c A H locs ls hC hnm hs hZ hl
  obtain ⟨hx, hb, hml, hown, hts, hr, hlocks, hK⟩ := id hC
  have hl : lv_has ls 2 [(0, .ref ch), (1, .int k)] := hl
  have hZ : zz_Z g A s.heap [cw_k0 ch st w c_pl c_sl c_co c_ca c_tu] H locs := hZ
  refine lv_iload_n hx hb dX0_has_0 rfl (lv_at hl 1 rfl) ?_
  refine lv_if_lt (tgt := 16) hx hb dX0_has_1 (by decide) (fun c1 => ?_) (fun c1 => ?_)
  · refine lv_iconst (v := 0) hx hb dX0_has_16 (by decide) ?_
    exact zz_zret hC hZ (by decide) (⟨by show _ = _; rw [fn_co_chas, if_pos c1], rfl⟩) (Nat.le_of_ble_eq_true rfl) (Nat.le_of_ble_eq_true rfl) dX0_has_17
  · refine lv_iload_n hx hb dX0_has_4 rfl (lv_at hl 1 rfl) ?_
    refine lv_aload_n hx hb dX0_has_5 rfl (lv_at hl 0 rfl) ?_
    refine zz_get hC hZ 0 rfl zf_X0_32 rfl dX0_has_6 ?_
    refine lv_icmp_ge (tgt := 16) hx hb dX0_has_9 (by decide) (fun c2 => ?_) (fun c2 => ?_)
    · refine lv_iconst (v := 0) hx hb dX0_has_16 (by decide) ?_
      exact zz_zret hC hZ (by decide) (⟨by show _ = _; rw [fn_co_chas, if_neg c1, if_pos c2], rfl⟩) (Nat.le_of_ble_eq_true rfl) (Nat.le_of_ble_eq_true rfl) dX0_has_17
    · refine lv_iconst (v := 1) hx hb dX0_has_12 (by decide) ?_
      refine lv_goto (tgt := 17) hx hb dX0_has_13 (by decide) ?_
      exact zz_zret hC hZ (by decide) (⟨by show _ = _; rw [fn_co_chas, if_neg c1, if_neg c2], rfl⟩) (Nat.le_of_ble_eq_true rfl) (Nat.le_of_ble_eq_true rfl) dX0_has_17
theorem dg_X0_arrayOf_0 : (decode cX0_arrayOf 0 = .ok (.aload_n 0, 1)) ∧ (decode cX0_arrayOf 1 = .ok (.getfield 9, 3)) ∧ (decode cX0_arrayOf 4 = .ok (.iload_n 1, 1)) ∧ (decode cX0_arrayOf 5 = .ok (.iaload, 1)) ∧ (decode cX0_arrayOf 6 = .ok (.sipush 1000, 3)) ∧ (decode cX0_arrayOf 9 = .ok (.idiv, 1)) ∧ (decode cX0_arrayOf 10 = .ok (.ireturn, 1)) := by decide +kernel
theorem dX0_arrayOf_0 : decode cX0_arrayOf 0 = .ok (.aload_n 0, 1) := dg_X0_arrayOf_0.1
theorem dX0_arrayOf_1 : decode cX0_arrayOf 1 = .ok (.getfield 9, 3) := dg_X0_arrayOf_0.2.1
theorem dX0_arrayOf_4 : decode cX0_arrayOf 4 = .ok (.iload_n 1, 1) := dg_X0_arrayOf_0.2.2.1
theorem dX0_arrayOf_5 : decode cX0_arrayOf 5 = .ok (.iaload, 1) := dg_X0_arrayOf_0.2.2.2.1
theorem dX0_arrayOf_6 : decode cX0_arrayOf 6 = .ok (.sipush 1000, 3) := dg_X0_arrayOf_0.2.2.2.2.1
theorem dX0_arrayOf_9 : decode cX0_arrayOf 9 = .ok (.idiv, 1) := dg_X0_arrayOf_0.2.2.2.2.2.1
theorem dX0_arrayOf_10 : decode cX0_arrayOf 10 = .ok (.ireturn, 1) := dg_X0_arrayOf_0.2.2.2.2.2.2
theorem zk_140 : Cond.fieldLink RX0 9 RX0 "places" "[I" ∈ zz_w := zz_in (List.mem_append_right _ (List.mem_append_left _ (List.mem_of_getElem? (i := 140) (by decide +kernel)))) rfl
theorem zf_X0_9 : zz_f RX0 9 0 2 := ⟨RX0, TX0, 7, rfl, zi_X0, by decide, zk_140⟩
abbrev rm_co_arrayOf : Room := { frames := 0, cells := 0, slots := 0, locals := 0 }
abbrev po_co_arrayOf (g : zz_G) (ch : Nat) (st : Nat) (c_pl : Nat) (c_sl : Nat) (c_co : Nat) (c_ca : Nat) (c_tu : Nat) (nd : Nat) (plf : Nat → Int32) (d : Nat) (b : Nat) (q : Nat) (h_d : d < 24 ∧ b < 60 ∧ q < 1000) (e_p : plf d = nI (1000 * b + q)) : Int32 → va_W → Prop := fun (r : Int32) (u : va_W) => r = nI b ∧ u = [cw_k0 ch st (nI nd) c_pl c_sl c_co c_ca c_tu, cw_i g c_pl 24 plf]
set_option maxHeartbeats 4000000 in
set_option maxRecDepth 100000 in
theorem co_arrayOf (g : zz_G) (ch : Nat) (st : Nat) (c_pl : Nat) (c_sl : Nat) (c_co : Nat) (c_ca : Nat) (c_tu : Nat) (nd : Nat) (plf : Nat → Int32) (d : Nat) (b : Nat) (q : Nat) (h_d : d < 24 ∧ b < 60 ∧ q < 1000) (e_p : plf d = nI (1000 * b + q)) : zz_I g yX0_arrayOf (.code yX0_arrayOf cX0_arrayOf 2 (some .int)) rm_co_arrayOf [.ref ch, .int (nI d)] [cw_k0 ch st (nI nd) c_pl c_sl c_co c_ca c_tu, cw_i g c_pl 24 plf] (po_co_arrayOf g ch st c_pl c_sl c_co c_ca c_tu nd plf d b q h_d e_p) := by
  refine zz_I.intro (own := RX0) (cc := cX0_arrayOf) (nL := 2) (by decide) rfl (Nat.le_of_ble_eq_true rfl) ?_
  intro p l e s m args below meth c A H locs ls hC hnm hs hZ hl
  obtain ⟨hx, hb, hml, hown, hts, hr, hlocks, hK⟩ := id hC
  have hl : lv_has ls 2 [(0, .ref ch), (1, .int (nI d))] := hl
  have hZ : zz_Z g A s.heap [cw_k0 ch st (nI nd) c_pl c_sl c_co c_ca c_tu, cw_i g c_pl 24 plf] H locs := hZ
  refine lv_aload_n hx hb dX0_arrayOf_0 rfl (lv_at hl 0 rfl) ?_
  refine zz_get hC hZ 0 rfl zf_X0_9 rfl dX0_arrayOf_1 ?_
  refine lv_iload_n hx hb dX0_arrayOf_4 rfl (lv_at hl 1 rfl) ?_
  have bd1 : d < 24 := by omega
  refine zz_ialdn hC hZ 1 rfl bd1 (by decide) dX0_arrayOf_5 ?_
  refine zz_topi (v := nI (1000 * b + q)) (e_p) ?_
  refine lv_sipush (v := 1000) hx hb dX0_arrayOf_6 (by decide) ?_
  refine lv_idiv hx hb dX0_arrayOf_9 (by decide) ?_
  refine zz_topi (v := nI b) (zl_div1000 h_d.2.1 h_d.2.2) ?_
  exact zz_iret hC hZ (⟨rfl, rfl⟩) (Nat.le_of_ble_eq_true rfl) (Nat.le_of_ble_eq_true rfl) dX0_arrayOf_10
theorem dg_X0_candidateAt_0 : (decode cX0_candidateAt 0 = .ok (.aload_n 0, 1)) ∧ (decode cX0_candidateAt 1 = .ok (.getfield 21, 3)) ∧ (decode cX0_candidateAt 4 = .ok (.iload_n 1, 1)) ∧ (decode cX0_candidateAt 5 = .ok (.bipush 16, 2)) ∧ (decode cX0_candidateAt 7 = .ok (.imul, 1)) ∧ (decode cX0_candidateAt 8 = .ok (.iload_n 2, 1)) ∧ (decode cX0_candidateAt 9 = .ok (.iadd, 1)) ∧ (decode cX0_candidateAt 10 = .ok (.laload, 1)) ∧ (decode cX0_candidateAt 11 = .ok (.lreturn, 1)) := by decide +kernel
theorem dX0_candidateAt_0 : decode cX0_candidateAt 0 = .ok (.aload_n 0, 1) := dg_X0_candidateAt_0.1
theorem dX0_candidateAt_1 : decode cX0_candidateAt 1 = .ok (.getfield 21, 3) := dg_X0_candidateAt_0.2.1
theorem dX0_candidateAt_4 : decode cX0_candidateAt 4 = .ok (.iload_n 1, 1) := dg_X0_candidateAt_0.2.2.1
theorem dX0_candidateAt_5 : decode cX0_candidateAt 5 = .ok (.bipush 16, 2) := dg_X0_candidateAt_0.2.2.2.1
theorem dX0_candidateAt_7 : decode cX0_candidateAt 7 = .ok (.imul, 1) := dg_X0_candidateAt_0.2.2.2.2.1
theorem dX0_candidateAt_8 : decode cX0_candidateAt 8 = .ok (.iload_n 2, 1) := dg_X0_candidateAt_0.2.2.2.2.2.1
theorem dX0_candidateAt_9 : decode cX0_candidateAt 9 = .ok (.iadd, 1) := dg_X0_candidateAt_0.2.2.2.2.2.2.1
theorem dX0_candidateAt_10 : decode cX0_candidateAt 10 = .ok (.laload, 1) := dg_X0_candidateAt_0.2.2.2.2.2.2.2.1
theorem dX0_candidateAt_11 : decode cX0_candidateAt 11 = .ok (.lreturn, 1) := dg_X0_candidateAt_0.2.2.2.2.2.2.2.2
theorem zk_146 : Cond.fieldLink RX0 21 RX0 "candidates" "[J" ∈ zz_w := zz_in (List.mem_append_right _ (List.mem_append_left _ (List.mem_of_getElem? (i := 146) (by decide +kernel)))) rfl
theorem zf_X0_21 : zz_f RX0 21 0 5 := ⟨RX0, TX0, 7, rfl, zi_X0, by decide, zk_146⟩
abbrev rm_co_candidateAt : Room := { frames := 0, cells := 0, slots := 0, locals := 0 }
abbrev po_co_candidateAt (g : zz_G) (ch : Nat) (st : Nat) (c_pl : Nat) (c_sl : Nat) (c_co : Nat) (c_ca : Nat) (c_tu : Nat) (nd : Nat) (caf : Nat → Int64) (d : Nat) (n : Nat) (h_d : d < 24 ∧ n < 16) : Int64 → va_W → Prop := fun (r : Int64) (u : va_W) => r = caf (d * 16 + n) ∧ u = [cw_k0 ch st (nI nd) c_pl c_sl c_co c_ca c_tu, cw_l g c_ca 384 caf]
set_option maxHeartbeats 4000000 in
set_option maxRecDepth 100000 in
theorem co_candidateAt (g : zz_G) (ch : Nat) (st : Nat) (c_pl : Nat) (c_sl : Nat) (c_co : Nat) (c_ca : Nat) (c_tu : Nat) (nd : Nat) (caf : Nat → Int64) (d : Nat) (n : Nat) (h_d : d < 24 ∧ n < 16) : zz_L g yX0_candidateAt (.code yX0_candidateAt cX0_candidateAt 3 (some .long)) rm_co_candidateAt [.ref ch, .int (nI d), .int (nI n)] [cw_k0 ch st (nI nd) c_pl c_sl c_co c_ca c_tu, cw_l g c_ca 384 caf] (po_co_candidateAt g ch st c_pl c_sl c_co c_ca c_tu nd caf d n h_d) := by
  refine zz_L.intro (own := RX0) (cc := cX0_candidateAt) (nL := 3) (by decide) rfl (Nat.le_of_ble_eq_true rfl) ?_
  intro p l e s m args below meth c A H locs ls hC hnm hs hZ hl
  obtain ⟨hx, hb, hml, hown, hts, hr, hlocks, hK⟩ := id hC
  have hl : lv_has ls 3 [(0, .ref ch), (1, .int (nI d)), (2, .int (nI n))] := hl
  have hZ : zz_Z g A s.heap [cw_k0 ch st (nI nd) c_pl c_sl c_co c_ca c_tu, cw_l g c_ca 384 caf] H locs := hZ
  refine lv_aload_n hx hb dX0_candidateAt_0 rfl (lv_at hl 0 rfl) ?_
  refine zz_get hC hZ 0 rfl zf_X0_21 rfl dX0_candidateAt_1 ?_
  refine lv_iload_n hx hb dX0_candidateAt_4 rfl (lv_at hl 1 rfl) ?_
  refine lv_bipush (v := 16) hx hb dX0_candidateAt_5 (by decide) ?_
  refine lv_imul hx hb dX0_candidateAt_7 ?_
  refine zz_topi (v := nI (d * 16)) (pk_mul _ 16) ?_
  refine lv_iload_n hx hb dX0_candidateAt_8 rfl (lv_at hl 2 rfl) ?_
  refine lv_iadd hx hb dX0_candidateAt_9 ?_
  refine zz_topi (v := nI ((d * 16) + n)) (nI_add _ _) ?_
  have bd1 : ((d * 16) + n) < 384 := by omega
  refine zz_laldn hC hZ 1 rfl bd1 (by decide) dX0_candidateAt_10 ?_
  exact zz_lret hC hZ (⟨rfl, rfl⟩) (Nat.le_of_ble_eq_true rfl) (Nat.le_of_ble_eq_true rfl) dX0_candidateAt_11
/-- where a candidate stands -/
def sp_ix (ca : Nat → Int64) (x : Int64) (s : Nat) : Nat → Nat → Int32
  | 0, _ => -2
  | n + 1, i => if ca (s + i) = x then nI i else sp_ix ca x s n (i + 1)
theorem dg_X0_indexOf_0 : (decode cX0_indexOf 0 = .ok (.iconst 0, 1)) ∧ (decode cX0_indexOf 1 = .ok (.istore 4, 2)) ∧ (decode cX0_indexOf 3 = .ok (.iload 4, 2)) ∧ (decode cX0_indexOf 5 = .ok (.aload_n 0, 1)) ∧ (decode cX0_indexOf 6 = .ok (.getfield 18, 3)) ∧ (decode cX0_indexOf 9 = .ok (.iload_n 1, 1)) ∧ (decode cX0_indexOf 10 = .ok (.iaload, 1)) ∧ (decode cX0_indexOf 11 = .ok (.if_icmp .ge 24, 3)) ∧ (decode cX0_indexOf 14 = .ok (.aload_n 0, 1)) ∧ (decode cX0_indexOf 15 = .ok (.iload_n 1, 1)) ∧ (decode cX0_indexOf 16 = .ok (.iload 4, 2)) ∧ (decode cX0_indexOf 18 = .ok (.invokevirtual 52, 3)) ∧ (decode cX0_indexOf 21 = .ok (.lload_n 2, 1)) ∧ (decode cX0_indexOf 22 = .ok (.lcmp, 1)) ∧ (decode cX0_indexOf 23 = .ok (.ifCond .ne 6, 3)) ∧ (decode cX0_indexOf 26 = .ok (.iload 4, 2)) := by decide +kernel
theorem dX0_indexOf_0 : decode cX0_indexOf 0 = .ok (.iconst 0, 1) := dg_X0_indexOf_0.1
theorem dX0_indexOf_1 : decode cX0_indexOf 1 = .ok (.istore 4, 2) := dg_X0_indexOf_0.2.1
theorem dX0_indexOf_3 : decode cX0_indexOf 3 = .ok (.iload 4, 2) := dg_X0_indexOf_0.2.2.1
theorem dX0_indexOf_5 : decode cX0_indexOf 5 = .ok (.aload_n 0, 1) := dg_X0_indexOf_0.2.2.2.1
theorem dX0_indexOf_6 : decode cX0_indexOf 6 = .ok (.getfield 18, 3) := dg_X0_indexOf_0.2.2.2.2.1
theorem dX0_indexOf_9 : decode cX0_indexOf 9 = .ok (.iload_n 1, 1) := dg_X0_indexOf_0.2.2.2.2.2.1
theorem dX0_indexOf_10 : decode cX0_indexOf 10 = .ok (.iaload, 1) := dg_X0_indexOf_0.2.2.2.2.2.2.1
theorem dX0_indexOf_11 : decode cX0_indexOf 11 = .ok (.if_icmp .ge 24, 3) := dg_X0_indexOf_0.2.2.2.2.2.2.2.1
theorem dX0_indexOf_14 : decode cX0_indexOf 14 = .ok (.aload_n 0, 1) := dg_X0_indexOf_0.2.2.2.2.2.2.2.2.1
theorem dX0_indexOf_15 : decode cX0_indexOf 15 = .ok (.iload_n 1, 1) := dg_X0_indexOf_0.2.2.2.2.2.2.2.2.2.1
theorem dX0_indexOf_16 : decode cX0_indexOf 16 = .ok (.iload 4, 2) := dg_X0_indexOf_0.2.2.2.2.2.2.2.2.2.2.1
theorem dX0_indexOf_18 : decode cX0_indexOf 18 = .ok (.invokevirtual 52, 3) := dg_X0_indexOf_0.2.2.2.2.2.2.2.2.2.2.2.1
theorem dX0_indexOf_21 : decode cX0_indexOf 21 = .ok (.lload_n 2, 1) := dg_X0_indexOf_0.2.2.2.2.2.2.2.2.2.2.2.2.1
theorem dX0_indexOf_22 : decode cX0_indexOf 22 = .ok (.lcmp, 1) := dg_X0_indexOf_0.2.2.2.2.2.2.2.2.2.2.2.2.2.1
theorem dX0_indexOf_23 : decode cX0_indexOf 23 = .ok (.ifCond .ne 6, 3) := dg_X0_indexOf_0.2.2.2.2.2.2.2.2.2.2.2.2.2.2.1
theorem dX0_indexOf_26 : decode cX0_indexOf 26 = .ok (.iload 4, 2) := dg_X0_indexOf_0.2.2.2.2.2.2.2.2.2.2.2.2.2.2.2
theorem dg_X0_indexOf_28 : (decode cX0_indexOf 28 = .ok (.ireturn, 1)) ∧ (decode cX0_indexOf 29 = .ok (.iinc 4 1, 3)) ∧ (decode cX0_indexOf 32 = .ok (.goto (-29), 3)) ∧ (decode cX0_indexOf 35 = .ok (.bipush (-2), 2)) ∧ (decode cX0_indexOf 37 = .ok (.ireturn, 1)) := by decide +kernel
theorem dX0_indexOf_28 : decode cX0_indexOf 28 = .ok (.ireturn, 1) := dg_X0_indexOf_28.1
theorem dX0_indexOf_29 : decode cX0_indexOf 29 = .ok (.iinc 4 1, 3) := dg_X0_indexOf_28.2.1
theorem dX0_indexOf_32 : decode cX0_indexOf 32 = .ok (.goto (-29), 3) := dg_X0_indexOf_28.2.2.1
theorem dX0_indexOf_35 : decode cX0_indexOf 35 = .ok (.bipush (-2), 2) := dg_X0_indexOf_28.2.2.2.1
theorem dX0_indexOf_37 : decode cX0_indexOf 37 = .ok (.ireturn, 1) := dg_X0_indexOf_28.2.2.2.2
theorem zk_144 : Cond.fieldLink RX0 18 RX0 "counts" "[I" ∈ zz_w := zz_in (List.mem_append_right _ (List.mem_append_left _ (List.mem_of_getElem? (i := 144) (by decide +kernel)))) rfl
theorem zf_X0_18 : zz_f RX0 18 0 4 := ⟨RX0, TX0, 7, rfl, zi_X0, by decide, zk_144⟩
theorem zk_563 : Cond.methodLink RX0 52 yX0_candidateAt ∈ zz_w := zz_in (List.mem_append_right _ (List.mem_append_right _ (List.mem_append_right _ (List.mem_append_left _ (List.mem_of_getElem? (i := 83) (by decide +kernel)))))) rfl
set_option maxRecDepth 20000 in
theorem zk_566 : Cond.code yX0_candidateAt cX0_candidateAt 3 (some .long) ∈ zz_w := zz_in (List.mem_append_right _ (List.mem_append_right _ (List.mem_append_right _ (List.mem_append_left _ (List.mem_of_getElem? (i := 86) (rfl)))))) rfl
theorem zk_5 : Cond.initialized RX0 ∈ zz_w := zz_in (List.mem_append_right _ (List.mem_append_left _ (List.mem_of_getElem? (i := 5) (by decide +kernel)))) rfl
theorem zk_564 : Cond.instanceMethod yX0_candidateAt ∈ zz_w := zz_in (List.mem_append_right _ (List.mem_append_right _ (List.mem_append_right _ (List.mem_append_left _ (List.mem_of_getElem? (i := 84) (by decide +kernel)))))) rfl
theorem zk_565 : Cond.selects RX0 yX0_candidateAt yX0_candidateAt ∈ zz_w := zz_in (List.mem_append_right _ (List.mem_append_right _ (List.mem_append_right _ (List.mem_append_left _ (List.mem_of_getElem? (i := 85) (by decide +kernel)))))) rfl
theorem zc_X0_52 : zz_cV RX0 52 yX0_candidateAt cX0_candidateAt 3 (some .long) 2 := ⟨⟨zk_563, zk_566, zk_5, by decide, by decide, by decide +kernel⟩, zk_564, zk_565⟩
abbrev rm_co_indexOf : Room := { frames := 1, cells := 0, slots := 0, locals := 22 }
abbrev po_co_indexOf (g : zz_G) (ch : Nat) (st : Nat) (c_pl : Nat) (c_sl : Nat) (c_co : Nat) (c_ca : Nat) (c_tu : Nat) (nd : Nat) (cof : Nat → Int32) (caf : Nat → Int64) (d : Nat) (n : Nat) (x : Int64) (h_d : d < 24 ∧ n ≤ 16) (e_c : cof d = nI n) : Int32 → va_W → Prop := fun (r : Int32) (u : va_W) => (r = sp_ix caf x (d * 16) n 0) ∧ u = [cw_k0 ch st (nI nd) c_pl c_sl c_co c_ca c_tu, cw_i g c_co 24 cof, cw_l g c_ca 384 caf]
set_option maxHeartbeats 4000000 in
set_option maxRecDepth 100000 in
theorem co_indexOf (g : zz_G) (ch : Nat) (st : Nat) (c_pl : Nat) (c_sl : Nat) (c_co : Nat) (c_ca : Nat) (c_tu : Nat) (nd : Nat) (cof : Nat → Int32) (caf : Nat → Int64) (d : Nat) (n : Nat) (x : Int64) (h_d : d < 24 ∧ n ≤ 16) (e_c : cof d = nI n) : zz_I g yX0_indexOf (.code yX0_indexOf cX0_indexOf 5 (some .int)) rm_co_indexOf [.ref ch, .int (nI d), .long x] [cw_k0 ch st (nI nd) c_pl c_sl c_co c_ca c_tu, cw_i g c_co 24 cof, cw_l g c_ca 384 caf] (po_co_indexOf g ch st c_pl c_sl c_co c_ca c_tu nd cof caf d n x h_d e_c) := by
  refine zz_I.intro (own := RX0) (cc := cX0_indexOf) (nL := 5) (by decide) rfl (Nat.le_of_ble_eq_true rfl) ?_
  intro p l e s m args below meth c A H locs ls hC hnm hs hZ hl
  obtain ⟨hx, hb, hml, hown, hts, hr, hlocks, hK⟩ := id hC
  have hl : lv_has ls 5 [(0, .ref ch), (1, .int (nI d)), (2, .long x)] := hl
  have hZ : zz_Z g A s.heap [cw_k0 ch st (nI nd) c_pl c_sl c_co c_ca c_tu, cw_i g c_co 24 cof, cw_l g c_ca 384 caf] H locs := hZ
  refine lv_iconst (v := 0) hx hb dX0_indexOf_0 (by decide) ?_
  refine lv_istore (lv' := [(4, .int 0), (0, .ref ch), (1, .int (nI d)), (2, .long x)]) hx hb dX0_indexOf_1 hl (by decide) rfl (fun ls hl => ?_)
  have LP1 : ∀ (N : Nat) (i : Nat) (H : Heap) (locs : List Loc) (ls : Array Slot), (i ≤ n) → (sp_ix caf x (d * 16) n 0 = sp_ix caf x (d * 16) (n - i) i) → (n - i) < N → zz_Z g A s.heap [cw_k0 ch st (nI nd) c_pl c_sl c_co c_ca c_tu, cw_i g c_co 24 cof, cw_l g c_ca 384 caf] H locs → lv_has ls 5 [(4, .int (nI i)), (0, .ref ch), (1, .int (nI d)), (2, .long x)] → W p l e rm_co_indexOf s m args below meth c H locs 0 0 (zz_QI below g args s A rm_co_indexOf.cells rm_co_indexOf.slots (po_co_indexOf g ch st c_pl c_sl c_co c_ca c_tu nd cof caf d n x h_d e_c)) (F0 m 3 ls []) := by
    intro N
    induction N with
    | zero =>
      intro i H locs ls hi he hN
      exact absurd hN (Nat.not_lt_zero _)
    | succ N ih =>
      intro i H locs ls hi he hN hZ hl
      refine lv_iload hx hb dX0_indexOf_3 (lv_at hl 0 rfl) ?_
      refine lv_aload_n hx hb dX0_indexOf_5 rfl (lv_at hl 1 rfl) ?_
      refine zz_get hC hZ 0 rfl zf_X0_18 rfl dX0_indexOf_6 ?_
      refine lv_iload_n hx hb dX0_indexOf_9 rfl (lv_at hl 2 rfl) ?_
      have bd2 : d < 24 := by omega
      refine zz_ialdn hC hZ 1 rfl bd2 (by decide) dX0_indexOf_10 ?_
      refine zz_topi (v := nI n) (e_c) ?_
      have bd4 : n < 2 ^ 31 := by omega
      have bd5 : i < 2 ^ 31 := by omega
      refine lv_icmp_ge (tgt := 35) hx hb dX0_indexOf_11 (by decide) (fun c3 => ?_) (fun c3 => ?_)
      · have nc3 : n ≤ i := (nI_leI bd4 bd5).mp (show nI (n) ≤ nI (i) from c3)
        refine lv_bipush (v := -2) hx hb dX0_indexOf_35 (by decide) ?_
        exact zz_iret hC hZ (⟨by rw [he, show n - i = 0 by omega, sp_ix], rfl⟩) (Nat.le_of_ble_eq_true rfl) (Nat.le_of_ble_eq_true rfl) dX0_indexOf_37
      · have nc3 : ¬ n ≤ i := fun zq => c3 (show nI (n) ≤ nI (i) from (nI_leI bd4 bd5).mpr zq)
        refine lv_aload_n hx hb dX0_indexOf_14 rfl (lv_at hl 1 rfl) ?_
        refine lv_iload_n hx hb dX0_indexOf_15 rfl (lv_at hl 2 rfl) ?_
        refine lv_iload hx hb dX0_indexOf_16 (lv_at hl 0 rfl) ?_
        refine zz_lV (As := [.int (nI d), .int (nI i)]) (wc := [cw_k0 ch st (nI nd) c_pl c_sl c_co c_ca c_tu, cw_l g c_ca 384 caf]) (wr := [cw_i g c_co 24 cof]) (rest := []) hC hZ hs hl zc_X0_52 (co_candidateAt g ch st c_pl c_sl c_co c_ca c_tu nd caf d i (by omega)) [0, 2] [1] rfl rfl (by decide +kernel) (ci := 0) (q0 := 0) rfl rfl rfl rfl (Nat.le_of_ble_eq_true rfl) ⟨⟨Nat.le_of_ble_eq_true rfl, Nat.le_of_ble_eq_true rfl⟩, Nat.le_of_ble_eq_true rfl, Nat.le_of_ble_eq_true rfl⟩ dX0_indexOf_18 (fun r6 u7 H locs hp hZ => ?_)
        obtain ⟨rfl, rfl⟩ := hp
        have hZ : zz_Z g A s.heap [cw_i g c_co 24 cof, cw_k0 ch st (nI nd) c_pl c_sl c_co c_ca c_tu, cw_l g c_ca 384 caf] H locs := hZ
        refine lv_lload_n hx hb dX0_indexOf_21 rfl (lv_at hl 3 rfl) ?_
        refine zz_lcmp_ne (tgt := 29) hC dX0_indexOf_22 dX0_indexOf_23 (by decide) (fun c8 => ?_) (fun c8 => ?_)
        · refine lv_iinc (v := nI (i + 1)) (lv' := [(4, .int (nI (i + 1))), (0, .ref ch), (1, .int (nI d)), (2, .long x)]) hx hb dX0_indexOf_29 hl (k := 0) rfl (nI_1 _) (by decide) rfl (fun ls hl => ?_)
          refine lv_goto (tgt := 3) hx hb dX0_indexOf_32 (by decide) ?_
          exact ih (i + 1) H locs ls (by omega) (by rw [he, show n - i = (n - (i + 1)) + 1 by omega, sp_ix, if_neg c8]) (by omega) (hZ.sub [1, 0, 2] (by decide +kernel) rfl) (lv_sub hl [0, 1, 2, 3] rfl)
        · refine lv_iload hx hb dX0_indexOf_26 (lv_at hl 0 rfl) ?_
          have hZ : zz_Z g A s.heap [cw_k0 ch st (nI nd) c_pl c_sl c_co c_ca c_tu, cw_i g c_co 24 cof, cw_l g c_ca 384 caf] H locs := hZ.sub [1, 0, 2] (by decide +kernel) rfl
          exact zz_iret hC hZ (⟨by rw [he, show n - i = (n - (i + 1)) + 1 by omega, sp_ix, if_pos c8], rfl⟩) (Nat.le_of_ble_eq_true rfl) (Nat.le_of_ble_eq_true rfl) dX0_indexOf_28
  exact LP1 _ 0 H locs ls (by omega) (rfl) (Nat.lt_succ_self _) hZ (lv_sub hl [0, 1, 2, 3] rfl)
theorem dg_X0_append_0 : (decode cX0_append 0 = .ok (.aload_n 0, 1)) ∧ (decode cX0_append 1 = .ok (.getfield 21, 3)) ∧ (decode cX0_append 4 = .ok (.iload_n 1, 1)) ∧ (decode cX0_append 5 = .ok (.bipush 16, 2)) ∧ (decode cX0_append 7 = .ok (.imul, 1)) ∧ (decode cX0_append 8 = .ok (.aload_n 0, 1)) ∧ (decode cX0_append 9 = .ok (.getfield 18, 3)) ∧ (decode cX0_append 12 = .ok (.iload_n 1, 1)) ∧ (decode cX0_append 13 = .ok (.iaload, 1)) ∧ (decode cX0_append 14 = .ok (.iadd, 1)) ∧ (decode cX0_append 15 = .ok (.lload_n 2, 1)) ∧ (decode cX0_append 16 = .ok (.lastore, 1)) ∧ (decode cX0_append 17 = .ok (.aload_n 0, 1)) ∧ (decode cX0_append 18 = .ok (.getfield 18, 3)) ∧ (decode cX0_append 21 = .ok (.iload_n 1, 1)) ∧ (decode cX0_append 22 = .ok (.dup2, 1)) := by decide +kernel
theorem dX0_append_0 : decode cX0_append 0 = .ok (.aload_n 0, 1) := dg_X0_append_0.1
theorem dX0_append_1 : decode cX0_append 1 = .ok (.getfield 21, 3) := dg_X0_append_0.2.1
theorem dX0_append_4 : decode cX0_append 4 = .ok (.iload_n 1, 1) := dg_X0_append_0.2.2.1
theorem dX0_append_5 : decode cX0_append 5 = .ok (.bipush 16, 2) := dg_X0_append_0.2.2.2.1
theorem dX0_append_7 : decode cX0_append 7 = .ok (.imul, 1) := dg_X0_append_0.2.2.2.2.1
theorem dX0_append_8 : decode cX0_append 8 = .ok (.aload_n 0, 1) := dg_X0_append_0.2.2.2.2.2.1
theorem dX0_append_9 : decode cX0_append 9 = .ok (.getfield 18, 3) := dg_X0_append_0.2.2.2.2.2.2.1
theorem dX0_append_12 : decode cX0_append 12 = .ok (.iload_n 1, 1) := dg_X0_append_0.2.2.2.2.2.2.2.1
theorem dX0_append_13 : decode cX0_append 13 = .ok (.iaload, 1) := dg_X0_append_0.2.2.2.2.2.2.2.2.1
theorem dX0_append_14 : decode cX0_append 14 = .ok (.iadd, 1) := dg_X0_append_0.2.2.2.2.2.2.2.2.2.1
theorem dX0_append_15 : decode cX0_append 15 = .ok (.lload_n 2, 1) := dg_X0_append_0.2.2.2.2.2.2.2.2.2.2.1
theorem dX0_append_16 : decode cX0_append 16 = .ok (.lastore, 1) := dg_X0_append_0.2.2.2.2.2.2.2.2.2.2.2.1
theorem dX0_append_17 : decode cX0_append 17 = .ok (.aload_n 0, 1) := dg_X0_append_0.2.2.2.2.2.2.2.2.2.2.2.2.1
theorem dX0_append_18 : decode cX0_append 18 = .ok (.getfield 18, 3) := dg_X0_append_0.2.2.2.2.2.2.2.2.2.2.2.2.2.1
theorem dX0_append_21 : decode cX0_append 21 = .ok (.iload_n 1, 1) := dg_X0_append_0.2.2.2.2.2.2.2.2.2.2.2.2.2.2.1
theorem dX0_append_22 : decode cX0_append 22 = .ok (.dup2, 1) := dg_X0_append_0.2.2.2.2.2.2.2.2.2.2.2.2.2.2.2
theorem dg_X0_append_23 : (decode cX0_append 23 = .ok (.iaload, 1)) ∧ (decode cX0_append 24 = .ok (.iconst 1, 1)) ∧ (decode cX0_append 25 = .ok (.iadd, 1)) ∧ (decode cX0_append 26 = .ok (.iastore, 1)) ∧ (decode cX0_append 27 = .ok (.return_, 1)) := by decide +kernel
theorem dX0_append_23 : decode cX0_append 23 = .ok (.iaload, 1) := dg_X0_append_23.1
theorem dX0_append_24 : decode cX0_append 24 = .ok (.iconst 1, 1) := dg_X0_append_23.2.1
theorem dX0_append_25 : decode cX0_append 25 = .ok (.iadd, 1) := dg_X0_append_23.2.2.1
theorem dX0_append_26 : decode cX0_append 26 = .ok (.iastore, 1) := dg_X0_append_23.2.2.2.1
theorem dX0_append_27 : decode cX0_append 27 = .ok (.return_, 1) := dg_X0_append_23.2.2.2.2
abbrev rm_co_append : Room := { frames := 0, cells := 0, slots := 0, locals := 0 }
abbrev po_co_append (g : zz_G) (ch : Nat) (st : Nat) (c_pl : Nat) (c_sl : Nat) (c_co : Nat) (c_ca : Nat) (c_tu : Nat) (nd : Nat) (cof : Nat → Int32) (caf : Nat → Int64) (d : Nat) (n : Nat) (x : Int64) (h_d : d < 24 ∧ n < 16) (e_c : cof d = nI n) : va_W → Prop := fun (u : va_W) => u = [cw_k0 ch st (nI nd) c_pl c_sl c_co c_ca c_tu, cw_i g c_co 24 (upd cof d (nI (n + 1))), cw_l g c_ca 384 (vp_updL caf (d * 16 + n) x)]
set_option maxHeartbeats 4000000 in
set_option maxRecDepth 100000 in
theorem co_append (g : zz_G) (ch : Nat) (st : Nat) (c_pl : Nat) (c_sl : Nat) (c_co : Nat) (c_ca : Nat) (c_tu : Nat) (nd : Nat) (cof : Nat → Int32) (caf : Nat → Int64) (d : Nat) (n : Nat) (x : Int64) (h_d : d < 24 ∧ n < 16) (e_c : cof d = nI n) : zz_V g yX0_append (.code yX0_append cX0_append 4 none) rm_co_append [.ref ch, .int (nI d), .long x] [cw_k0 ch st (nI nd) c_pl c_sl c_co c_ca c_tu, cw_i g c_co 24 cof, cw_l g c_ca 384 caf] (po_co_append g ch st c_pl c_sl c_co c_ca c_tu nd cof caf d n x h_d e_c) := by
  refine zz_V.intro (own := RX0) (cc := cX0_append) (nL := 4) (by decide) rfl (Nat.le_of_ble_eq_true rfl) ?_
  intro p l e s m args below meth c A H locs ls hC hnm hs hZ hl
  obtain ⟨hx, hb, hml, hown, hts, hr, hlocks, hK⟩ := id hC
  have hl : lv_has ls 4 [(0, .ref ch), (1, .int (nI d)), (2, .long x)] := hl
  have hZ : zz_Z g A s.heap [cw_k0 ch st (nI nd) c_pl c_sl c_co c_ca c_tu, cw_i g c_co 24 cof, cw_l g c_ca 384 caf] H locs := hZ
  refine lv_aload_n hx hb dX0_append_0 rfl (lv_at hl 0 rfl) ?_
  refine zz_get hC hZ 0 rfl zf_X0_21 rfl dX0_append_1 ?_
  refine lv_iload_n hx hb dX0_append_4 rfl (lv_at hl 1 rfl) ?_
  refine lv_bipush (v := 16) hx hb dX0_append_5 (by decide) ?_
  refine lv_imul hx hb dX0_append_7 ?_
  refine zz_topi (v := nI (d * 16)) (pk_mul _ 16) ?_
  refine lv_aload_n hx hb dX0_append_8 rfl (lv_at hl 0 rfl) ?_
  refine zz_get hC hZ 0 rfl zf_X0_18 rfl dX0_append_9 ?_
  refine lv_iload_n hx hb dX0_append_12 rfl (lv_at hl 1 rfl) ?_
  have bd1 : d < 24 := by omega
  refine zz_ialdn hC hZ 1 rfl bd1 (by decide) dX0_append_13 ?_
  refine zz_topi (v := nI n) (e_c) ?_
  refine lv_iadd hx hb dX0_append_14 ?_
  refine zz_topi (v := nI ((d * 16) + n)) (nI_add _ _) ?_
  refine lv_lload_n hx hb dX0_append_15 rfl (lv_at hl 2 rfl) ?_
  have bd2 : ((d * 16) + n) < 384 := by omega
  refine zz_lastn hC hZ 2 rfl bd2 (by decide) dX0_append_16 (fun H locs hZ => ?_)
  have hZ : zz_Z g A s.heap [cw_k0 ch st (nI nd) c_pl c_sl c_co c_ca c_tu, cw_i g c_co 24 cof, cw_l g c_ca 384 (vp_updL caf ((d * 16) + n) x)] H locs := hZ
  refine lv_aload_n hx hb dX0_append_17 rfl (lv_at hl 0 rfl) ?_
  refine zz_get hC hZ 0 rfl zf_X0_18 rfl dX0_append_18 ?_
  refine lv_iload_n hx hb dX0_append_21 rfl (lv_at hl 1 rfl) ?_
  refine lv_dup2_11 hx hb dX0_append_22 rfl rfl ?_
  refine zz_ialdn hC hZ 1 rfl bd1 (by decide) dX0_append_23 ?_
  refine zz_topi (v := nI n) (e_c) ?_
  refine lv_iconst (v := 1) hx hb dX0_append_24 (by decide) ?_
  refine lv_iadd hx hb dX0_append_25 ?_
  refine zz_topi (v := nI (n + 1)) (nI_1 _) ?_
  refine zz_iastn hC hZ 1 rfl bd1 (by decide) dX0_append_26 (fun H locs hZ => ?_)
  have hZ : zz_Z g A s.heap [cw_k0 ch st (nI nd) c_pl c_sl c_co c_ca c_tu, cw_i g c_co 24 (upd cof d (nI (n + 1))), cw_l g c_ca 384 (vp_updL caf ((d * 16) + n) x)] H locs := hZ
  exact zz_vret hC hZ (rfl) (Nat.le_of_ble_eq_true rfl) (Nat.le_of_ble_eq_true rfl) dX0_append_27
