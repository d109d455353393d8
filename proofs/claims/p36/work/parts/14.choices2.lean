theorem dg_X0_isFree_0 : (decode cX0_isFree 0 = .ok (.aload_n 0, 1)) ∧ (decode cX0_isFree 1 = .ok (.getfield 18, 3)) ∧ (decode cX0_isFree 4 = .ok (.iload_n 1, 1)) ∧ (decode cX0_isFree 5 = .ok (.iaload, 1)) ∧ (decode cX0_isFree 6 = .ok (.ifCond .le 24, 3)) ∧ (decode cX0_isFree 9 = .ok (.aload_n 0, 1)) ∧ (decode cX0_isFree 10 = .ok (.getfield 28, 3)) ∧ (decode cX0_isFree 13 = .ok (.getfield 64, 3)) ∧ (decode cX0_isFree 16 = .ok (.aload_n 0, 1)) ∧ (decode cX0_isFree 17 = .ok (.getfield 15, 3)) ∧ (decode cX0_isFree 20 = .ok (.iload_n 1, 1)) ∧ (decode cX0_isFree 21 = .ok (.iaload, 1)) ∧ (decode cX0_isFree 22 = .ok (.baload, 1)) ∧ (decode cX0_isFree 23 = .ok (.ifCond .ne 7, 3)) ∧ (decode cX0_isFree 26 = .ok (.iconst 1, 1)) ∧ (decode cX0_isFree 27 = .ok (.goto 4, 3)) := by decide +kernel
theorem dX0_isFree_0 : decode cX0_isFree 0 = .ok (.aload_n 0, 1) := dg_X0_isFree_0.1
theorem dX0_isFree_1 : decode cX0_isFree 1 = .ok (.getfield 18, 3) := dg_X0_isFree_0.2.1
theorem dX0_isFree_4 : decode cX0_isFree 4 = .ok (.iload_n 1, 1) := dg_X0_isFree_0.2.2.1
theorem dX0_isFree_5 : decode cX0_isFree 5 = .ok (.iaload, 1) := dg_X0_isFree_0.2.2.2.1
theorem dX0_isFree_6 : decode cX0_isFree 6 = .ok (.ifCond .le 24, 3) := dg_X0_isFree_0.2.2.2.2.1
theorem dX0_isFree_9 : decode cX0_isFree 9 = .ok (.aload_n 0, 1) := dg_X0_isFree_0.2.2.2.2.2.1
theorem dX0_isFree_10 : decode cX0_isFree 10 = .ok (.getfield 28, 3) := dg_X0_isFree_0.2.2.2.2.2.2.1
theorem dX0_isFree_13 : decode cX0_isFree 13 = .ok (.getfield 64, 3) := dg_X0_isFree_0.2.2.2.2.2.2.2.1
theorem dX0_isFree_16 : decode cX0_isFree 16 = .ok (.aload_n 0, 1) := dg_X0_isFree_0.2.2.2.2.2.2.2.2.1
theorem dX0_isFree_17 : decode cX0_isFree 17 = .ok (.getfield 15, 3) := dg_X0_isFree_0.2.2.2.2.2.2.2.2.2.1
theorem dX0_isFree_20 : decode cX0_isFree 20 = .ok (.iload_n 1, 1) := dg_X0_isFree_0.2.2.2.2.2.2.2.2.2.2.1
theorem dX0_isFree_21 : decode cX0_isFree 21 = .ok (.iaload, 1) := dg_X0_isFree_0.2.2.2.2.2.2.2.2.2.2.2.1
theorem dX0_isFree_22 : decode cX0_isFree 22 = .ok (.baload, 1) := dg_X0_isFree_0.2.2.2.2.2.2.2.2.2.2.2.2.1
theorem dX0_isFree_23 : decode cX0_isFree 23 = .ok (.ifCond .ne 7, 3) := dg_X0_isFree_0.2.2.2.2.2.2.2.2.2.2.2.2.2.1
theorem dX0_isFree_26 : decode cX0_isFree 26 = .ok (.iconst 1, 1) := dg_X0_isFree_0.2.2.2.2.2.2.2.2.2.2.2.2.2.2.1
theorem dX0_isFree_27 : decode cX0_isFree 27 = .ok (.goto 4, 3) := dg_X0_isFree_0.2.2.2.2.2.2.2.2.2.2.2.2.2.2.2
theorem dg_X0_isFree_30 : (decode cX0_isFree 30 = .ok (.iconst 0, 1)) ∧ (decode cX0_isFree 31 = .ok (.ireturn, 1)) := by decide +kernel
theorem dX0_isFree_30 : decode cX0_isFree 30 = .ok (.iconst 0, 1) := dg_X0_isFree_30.1
theorem dX0_isFree_31 : decode cX0_isFree 31 = .ok (.ireturn, 1) := dg_X0_isFree_30.2
theorem zk_137 : Cond.fieldLink RX0 28 RX0 "store" "LDecisionArrays$Store;" ∈ zz_w := zz_in (List.mem_append_right _ (List.mem_append_left _ (List.mem_of_getElem? (i := 137) (by decide +kernel)))) rfl
theorem zf_X0_28 : zz_f RX0 28 0 0 := ⟨RX0, TX0, 7, rfl, zi_X0, by decide, zk_137⟩
theorem zk_64 : Cond.fieldLink RX0 64 RX6 "pinned" "[Z" ∈ zz_w := zz_in (List.mem_append_right _ (List.mem_append_left _ (List.mem_of_getElem? (i := 64) (by decide +kernel)))) rfl
theorem zf_X0_64 : zz_f RX0 64 5 8 := ⟨RX6, TX6, 10, rfl, zi_X6, by decide, zk_64⟩
theorem zk_142 : Cond.fieldLink RX0 15 RX0 "slots" "[I" ∈ zz_w := zz_in (List.mem_append_right _ (List.mem_append_left _ (List.mem_of_getElem? (i := 142) (by decide +kernel)))) rfl
theorem zf_X0_15 : zz_f RX0 15 0 3 := ⟨RX0, TX0, 7, rfl, zi_X0, by decide, zk_142⟩
def fn_co_isFree (pnf : Nat → Int32) (n : Nat) (z : Nat) : Int32 := (if (nI n) ≤ 0 then 0 else (if (pnf z) = 0 then 1 else 0))
abbrev rm_co_isFree : Room := { frames := 0, cells := 0, slots := 0, locals := 0 }
abbrev po_co_isFree (g : zz_G) (ch : Nat) (st : Nat) (c_pl : Nat) (c_sl : Nat) (c_co : Nat) (c_ca : Nat) (c_tu : Nat) (kd : Nat) (dp : Nat) (cl : Nat) (sa : Nat) (ln : Nat) (bt : Nat) (pn : Nat) (bf : Nat) (nd : Nat) (na : Nat) (nu : Nat) (slf : Nat → Int32) (cof : Nat → Int32) (pnf : Nat → Int32) (d : Nat) (n : Nat) (z : Nat) (h_d : d < 24 ∧ n ≤ 16 ∧ z < 4000) (e_c : cof d = nI n) (e_z : slf d = nI z) : Int32 → va_W → Prop := fun (r : Int32) (u : va_W) => r = fn_co_isFree pnf n z ∧ u = [cw_k0 ch st (nI nd) c_pl c_sl c_co c_ca c_tu, cw_i g c_sl 24 slf, cw_i g c_co 24 cof, cw_k5 st (nI na) (nI nu) kd dp cl sa ln bt pn bf, cw_z g pn 4000 pnf]
set_option maxHeartbeats 4000000 in
set_option maxRecDepth 100000 in
theorem co_isFree (g : zz_G) (ch : Nat) (st : Nat) (c_pl : Nat) (c_sl : Nat) (c_co : Nat) (c_ca : Nat) (c_tu : Nat) (kd : Nat) (dp : Nat) (cl : Nat) (sa : Nat) (ln : Nat) (bt : Nat) (pn : Nat) (bf : Nat) (nd : Nat) (na : Nat) (nu : Nat) (slf : Nat → Int32) (cof : Nat → Int32) (pnf : Nat → Int32) (d : Nat) (n : Nat) (z : Nat) (h_d : d < 24 ∧ n ≤ 16 ∧ z < 4000) (e_c : cof d = nI n) (e_z : slf d = nI z) : zz_I g yX0_isFree (.code yX0_isFree cX0_isFree 2 (some .boolean)) rm_co_isFree [.ref ch, .int (nI d)] [cw_k0 ch st (nI nd) c_pl c_sl c_co c_ca c_tu, cw_i g c_sl 24 slf, cw_i g c_co 24 cof, cw_k5 st (nI na) (nI nu) kd dp cl sa ln bt pn bf, cw_z g pn 4000 pnf] (po_co_isFree g ch st c_pl c_sl c_co c_ca c_tu kd dp cl sa ln bt pn bf nd na nu slf cof pnf d n z h_d e_c e_z) := by
  refine zz_I.intro (own := RX0) (cc := cX0_isFree) (nL := 2) (by decide) rfl (Nat.le_of_ble_eq_true rfl) ?_
  intro p l e s m args below meth c A H locs ls hC hnm hs hZ hl
  obtain ⟨hx, hb, hml, hown, hts, hr, hlocks, hK⟩ := id hC
  have hl : lv_has ls 2 [(0, .ref ch), (1, .int (nI d))] := hl
  have hZ : zz_Z g A s.heap [cw_k0 ch st (nI nd) c_pl c_sl c_co c_ca c_tu, cw_i g c_sl 24 slf, cw_i g c_co 24 cof, cw_k5 st (nI na) (nI nu) kd dp cl sa ln bt pn bf, cw_z g pn 4000 pnf] H locs := hZ
  refine lv_aload_n hx hb dX0_isFree_0 rfl (lv_at hl 0 rfl) ?_
  refine zz_get hC hZ 0 rfl zf_X0_18 rfl dX0_isFree_1 ?_
  refine lv_iload_n hx hb dX0_isFree_4 rfl (lv_at hl 1 rfl) ?_
  have bd1 : d < 24 := by omega
  refine zz_ialdn hC hZ 2 rfl bd1 (by decide) dX0_isFree_5 ?_
  refine zz_topi (v := nI n) (e_c) ?_
  have bd3 : n < 2 ^ 31 := by omega
  refine lv_if_le (tgt := 30) hx hb dX0_isFree_6 (by decide) (fun c2 => ?_) (fun c2 => ?_)
  · have nc2 : n ≤ 0 := (nI_leI bd3 (by decide)).mp (show nI (n) ≤ nI (0) from c2)
    refine lv_iconst (v := 0) hx hb dX0_isFree_30 (by decide) ?_
    exact zz_zret hC hZ (by decide) (⟨by show _ = _; rw [fn_co_isFree, if_pos c2], rfl⟩) (Nat.le_of_ble_eq_true rfl) (Nat.le_of_ble_eq_true rfl) dX0_isFree_31
  · have nc2 : ¬ n ≤ 0 := fun zq => c2 (show nI (n) ≤ nI (0) from (nI_leI bd3 (by decide)).mpr zq)
    refine lv_aload_n hx hb dX0_isFree_9 rfl (lv_at hl 0 rfl) ?_
    refine zz_get hC hZ 0 rfl zf_X0_28 rfl dX0_isFree_10 ?_
    refine zz_get hC hZ 3 rfl zf_X0_64 rfl dX0_isFree_13 ?_
    refine lv_aload_n hx hb dX0_isFree_16 rfl (lv_at hl 0 rfl) ?_
    refine zz_get hC hZ 0 rfl zf_X0_15 rfl dX0_isFree_17 ?_
    refine lv_iload_n hx hb dX0_isFree_20 rfl (lv_at hl 1 rfl) ?_
    refine zz_ialdn hC hZ 1 rfl bd1 (by decide) dX0_isFree_21 ?_
    refine zz_topi (v := nI z) (e_z) ?_
    have bd4 : z < 4000 := by omega
    refine zz_zaldn hC hZ 4 rfl bd4 (by decide) dX0_isFree_22 ?_
    refine lv_if_ne (tgt := 30) hx hb dX0_isFree_23 (by decide) (fun c5 => ?_) (fun c5 => ?_)
    · refine lv_iconst (v := 0) hx hb dX0_isFree_30 (by decide) ?_
      exact zz_zret hC hZ (by decide) (⟨by show _ = _; rw [fn_co_isFree, if_neg c2, if_neg c5], rfl⟩) (Nat.le_of_ble_eq_true rfl) (Nat.le_of_ble_eq_true rfl) dX0_isFree_31
    · refine lv_iconst (v := 1) hx hb dX0_isFree_26 (by decide) ?_
      refine lv_goto (tgt := 31) hx hb dX0_isFree_27 (by decide) ?_
      exact zz_zret hC hZ (by decide) (⟨by show _ = _; rw [fn_co_isFree, if_neg c2, if_pos c5], rfl⟩) (Nat.le_of_ble_eq_true rfl) (Nat.le_of_ble_eq_true rfl) dX0_isFree_31
theorem dg_X0_kindOf_0 : (decode cX0_kindOf 0 = .ok (.aload_n 0, 1)) ∧ (decode cX0_kindOf 1 = .ok (.getfield 28, 3)) ∧ (decode cX0_kindOf 4 = .ok (.getfield 46, 3)) ∧ (decode cX0_kindOf 7 = .ok (.aload_n 0, 1)) ∧ (decode cX0_kindOf 8 = .ok (.iload_n 1, 1)) ∧ (decode cX0_kindOf 9 = .ok (.invokevirtual 49, 3)) ∧ (decode cX0_kindOf 12 = .ok (.iaload, 1)) ∧ (decode cX0_kindOf 13 = .ok (.ireturn, 1)) := by decide +kernel
theorem dX0_kindOf_0 : decode cX0_kindOf 0 = .ok (.aload_n 0, 1) := dg_X0_kindOf_0.1
theorem dX0_kindOf_1 : decode cX0_kindOf 1 = .ok (.getfield 28, 3) := dg_X0_kindOf_0.2.1
theorem dX0_kindOf_4 : decode cX0_kindOf 4 = .ok (.getfield 46, 3) := dg_X0_kindOf_0.2.2.1
theorem dX0_kindOf_7 : decode cX0_kindOf 7 = .ok (.aload_n 0, 1) := dg_X0_kindOf_0.2.2.2.1
theorem dX0_kindOf_8 : decode cX0_kindOf 8 = .ok (.iload_n 1, 1) := dg_X0_kindOf_0.2.2.2.2.1
theorem dX0_kindOf_9 : decode cX0_kindOf 9 = .ok (.invokevirtual 49, 3) := dg_X0_kindOf_0.2.2.2.2.2.1
theorem dX0_kindOf_12 : decode cX0_kindOf 12 = .ok (.iaload, 1) := dg_X0_kindOf_0.2.2.2.2.2.2.1
theorem dX0_kindOf_13 : decode cX0_kindOf 13 = .ok (.ireturn, 1) := dg_X0_kindOf_0.2.2.2.2.2.2.2
theorem zk_34 : Cond.fieldLink RX0 46 RX6 "kind" "[I" ∈ zz_w := zz_in (List.mem_append_right _ (List.mem_append_left _ (List.mem_of_getElem? (i := 34) (by decide +kernel)))) rfl
theorem zf_X0_46 : zz_f RX0 46 5 2 := ⟨RX6, TX6, 10, rfl, zi_X6, by decide, zk_34⟩
theorem zk_554 : Cond.methodLink RX0 49 yX0_arrayOf ∈ zz_w := zz_in (List.mem_append_right _ (List.mem_append_right _ (List.mem_append_right _ (List.mem_append_left _ (List.mem_of_getElem? (i := 74) (by decide +kernel)))))) rfl
set_option maxRecDepth 20000 in
theorem zk_557 : Cond.code yX0_arrayOf cX0_arrayOf 2 (some .int) ∈ zz_w := zz_in (List.mem_append_right _ (List.mem_append_right _ (List.mem_append_right _ (List.mem_append_left _ (List.mem_of_getElem? (i := 77) (rfl)))))) rfl
theorem zk_555 : Cond.instanceMethod yX0_arrayOf ∈ zz_w := zz_in (List.mem_append_right _ (List.mem_append_right _ (List.mem_append_right _ (List.mem_append_left _ (List.mem_of_getElem? (i := 75) (by decide +kernel)))))) rfl
theorem zk_556 : Cond.selects RX0 yX0_arrayOf yX0_arrayOf ∈ zz_w := zz_in (List.mem_append_right _ (List.mem_append_right _ (List.mem_append_right _ (List.mem_append_left _ (List.mem_of_getElem? (i := 76) (by decide +kernel)))))) rfl
theorem zc_X0_49 : zz_cV RX0 49 yX0_arrayOf cX0_arrayOf 2 (some .int) 1 := ⟨⟨zk_554, zk_557, zk_5, by decide, by decide, by decide +kernel⟩, zk_555, zk_556⟩
abbrev rm_co_kindOf : Room := { frames := 1, cells := 0, slots := 0, locals := 21 }
abbrev po_co_kindOf (g : zz_G) (ch : Nat) (st : Nat) (c_pl : Nat) (c_sl : Nat) (c_co : Nat) (c_ca : Nat) (c_tu : Nat) (kd : Nat) (dp : Nat) (cl : Nat) (sa : Nat) (ln : Nat) (bt : Nat) (pn : Nat) (bf : Nat) (nd : Nat) (na : Nat) (nu : Nat) (plf : Nat → Int32) (kdf : Nat → Int32) (d : Nat) (b : Nat) (q : Nat) (h_d : d < 24 ∧ b < 60 ∧ q < 1000) (e_p : plf d = nI (1000 * b + q)) : Int32 → va_W → Prop := fun (r : Int32) (u : va_W) => r = kdf b ∧ u = [cw_k0 ch st (nI nd) c_pl c_sl c_co c_ca c_tu, cw_i g c_pl 24 plf, cw_k5 st (nI na) (nI nu) kd dp cl sa ln bt pn bf, cw_i g kd 60 kdf]
set_option maxHeartbeats 4000000 in
set_option maxRecDepth 100000 in
theorem co_kindOf (g : zz_G) (ch : Nat) (st : Nat) (c_pl : Nat) (c_sl : Nat) (c_co : Nat) (c_ca : Nat) (c_tu : Nat) (kd : Nat) (dp : Nat) (cl : Nat) (sa : Nat) (ln : Nat) (bt : Nat) (pn : Nat) (bf : Nat) (nd : Nat) (na : Nat) (nu : Nat) (plf : Nat → Int32) (kdf : Nat → Int32) (d : Nat) (b : Nat) (q : Nat) (h_d : d < 24 ∧ b < 60 ∧ q < 1000) (e_p : plf d = nI (1000 * b + q)) : zz_I g yX0_kindOf (.code yX0_kindOf cX0_kindOf 2 (some .int)) rm_co_kindOf [.ref ch, .int (nI d)] [cw_k0 ch st (nI nd) c_pl c_sl c_co c_ca c_tu, cw_i g c_pl 24 plf, cw_k5 st (nI na) (nI nu) kd dp cl sa ln bt pn bf, cw_i g kd 60 kdf] (po_co_kindOf g ch st c_pl c_sl c_co c_ca c_tu kd dp cl sa ln bt pn bf nd na nu plf kdf d b q h_d e_p) := by
  refine zz_I.intro (own := RX0) (cc := cX0_kindOf) (nL := 2) (by decide) rfl (Nat.le_of_ble_eq_true rfl) ?_
  intro p l e s m args below meth c A H locs ls hC hnm hs hZ hl
  obtain ⟨hx, hb, hml, hown, hts, hr, hlocks, hK⟩ := id hC
  have hl : lv_has ls 2 [(0, .ref ch), (1, .int (nI d))] := hl
  have hZ : zz_Z g A s.heap [cw_k0 ch st (nI nd) c_pl c_sl c_co c_ca c_tu, cw_i g c_pl 24 plf, cw_k5 st (nI na) (nI nu) kd dp cl sa ln bt pn bf, cw_i g kd 60 kdf] H locs := hZ
  refine lv_aload_n hx hb dX0_kindOf_0 rfl (lv_at hl 0 rfl) ?_
  refine zz_get hC hZ 0 rfl zf_X0_28 rfl dX0_kindOf_1 ?_
  refine zz_get hC hZ 2 rfl zf_X0_46 rfl dX0_kindOf_4 ?_
  refine lv_aload_n hx hb dX0_kindOf_7 rfl (lv_at hl 0 rfl) ?_
  refine lv_iload_n hx hb dX0_kindOf_8 rfl (lv_at hl 1 rfl) ?_
  refine zz_iV (As := [.int (nI d)]) (wc := [cw_k0 ch st (nI nd) c_pl c_sl c_co c_ca c_tu, cw_i g c_pl 24 plf]) (wr := [cw_k5 st (nI na) (nI nu) kd dp cl sa ln bt pn bf, cw_i g kd 60 kdf]) (rest := [.ref kd]) hC hZ hs hl zc_X0_49 (co_arrayOf g ch st c_pl c_sl c_co c_ca c_tu nd plf d b q (by omega) (e_p)) [0, 1] [2, 3] rfl rfl (by decide +kernel) (ci := 0) (q0 := 0) rfl rfl rfl rfl (Nat.le_of_ble_eq_true rfl) ⟨⟨Nat.le_of_ble_eq_true rfl, Nat.le_of_ble_eq_true rfl⟩, Nat.le_of_ble_eq_true rfl, Nat.le_of_ble_eq_true rfl⟩ dX0_kindOf_9 (fun r1 u2 H locs hp hZ => ?_)
  obtain ⟨rfl, rfl⟩ := hp
  have hZ : zz_Z g A s.heap [cw_k5 st (nI na) (nI nu) kd dp cl sa ln bt pn bf, cw_i g kd 60 kdf, cw_k0 ch st (nI nd) c_pl c_sl c_co c_ca c_tu, cw_i g c_pl 24 plf] H locs := hZ
  have bd3 : b < 60 := by omega
  refine zz_ialdn hC hZ 1 rfl bd3 (by decide) dX0_kindOf_12 ?_
  have hZ : zz_Z g A s.heap [cw_k0 ch st (nI nd) c_pl c_sl c_co c_ca c_tu, cw_i g c_pl 24 plf, cw_k5 st (nI na) (nI nu) kd dp cl sa ln bt pn bf, cw_i g kd 60 kdf] H locs := hZ.sub [2, 3, 0, 1] (by decide +kernel) rfl
  exact zz_iret hC hZ (⟨rfl, rfl⟩) (Nat.le_of_ble_eq_true rfl) (Nat.le_of_ble_eq_true rfl) dX0_kindOf_13
def sp_at (pl : Nat → Int32) (k : Int32) : Nat → Nat → Int32
  | 0, _ => -2
  | n + 1, i => if pl i = k then nI i else sp_at pl k n (i + 1)
theorem dg_X0_at_0 : (decode cX0_at 0 = .ok (.iconst 0, 1)) ∧ (decode cX0_at 1 = .ok (.istore_n 2, 1)) ∧ (decode cX0_at 2 = .ok (.iload_n 2, 1)) ∧ (decode cX0_at 3 = .ok (.aload_n 0, 1)) ∧ (decode cX0_at 4 = .ok (.getfield 32, 3)) ∧ (decode cX0_at 7 = .ok (.if_icmp .ge 21, 3)) ∧ (decode cX0_at 10 = .ok (.aload_n 0, 1)) ∧ (decode cX0_at 11 = .ok (.getfield 9, 3)) ∧ (decode cX0_at 14 = .ok (.iload_n 2, 1)) ∧ (decode cX0_at 15 = .ok (.iaload, 1)) ∧ (decode cX0_at 16 = .ok (.iload_n 1, 1)) ∧ (decode cX0_at 17 = .ok (.if_icmp .ne 5, 3)) ∧ (decode cX0_at 20 = .ok (.iload_n 2, 1)) ∧ (decode cX0_at 21 = .ok (.ireturn, 1)) ∧ (decode cX0_at 22 = .ok (.iinc 2 1, 3)) ∧ (decode cX0_at 25 = .ok (.goto (-23), 3)) := by decide +kernel
theorem dX0_at_0 : decode cX0_at 0 = .ok (.iconst 0, 1) := dg_X0_at_0.1
theorem dX0_at_1 : decode cX0_at 1 = .ok (.istore_n 2, 1) := dg_X0_at_0.2.1
theorem dX0_at_2 : decode cX0_at 2 = .ok (.iload_n 2, 1) := dg_X0_at_0.2.2.1
theorem dX0_at_3 : decode cX0_at 3 = .ok (.aload_n 0, 1) := dg_X0_at_0.2.2.2.1
theorem dX0_at_4 : decode cX0_at 4 = .ok (.getfield 32, 3) := dg_X0_at_0.2.2.2.2.1
theorem dX0_at_7 : decode cX0_at 7 = .ok (.if_icmp .ge 21, 3) := dg_X0_at_0.2.2.2.2.2.1
theorem dX0_at_10 : decode cX0_at 10 = .ok (.aload_n 0, 1) := dg_X0_at_0.2.2.2.2.2.2.1
theorem dX0_at_11 : decode cX0_at 11 = .ok (.getfield 9, 3) := dg_X0_at_0.2.2.2.2.2.2.2.1
theorem dX0_at_14 : decode cX0_at 14 = .ok (.iload_n 2, 1) := dg_X0_at_0.2.2.2.2.2.2.2.2.1
theorem dX0_at_15 : decode cX0_at 15 = .ok (.iaload, 1) := dg_X0_at_0.2.2.2.2.2.2.2.2.2.1
theorem dX0_at_16 : decode cX0_at 16 = .ok (.iload_n 1, 1) := dg_X0_at_0.2.2.2.2.2.2.2.2.2.2.1
theorem dX0_at_17 : decode cX0_at 17 = .ok (.if_icmp .ne 5, 3) := dg_X0_at_0.2.2.2.2.2.2.2.2.2.2.2.1
theorem dX0_at_20 : decode cX0_at 20 = .ok (.iload_n 2, 1) := dg_X0_at_0.2.2.2.2.2.2.2.2.2.2.2.2.1
theorem dX0_at_21 : decode cX0_at 21 = .ok (.ireturn, 1) := dg_X0_at_0.2.2.2.2.2.2.2.2.2.2.2.2.2.1
theorem dX0_at_22 : decode cX0_at 22 = .ok (.iinc 2 1, 3) := dg_X0_at_0.2.2.2.2.2.2.2.2.2.2.2.2.2.2.1
theorem dX0_at_25 : decode cX0_at 25 = .ok (.goto (-23), 3) := dg_X0_at_0.2.2.2.2.2.2.2.2.2.2.2.2.2.2.2
theorem dg_X0_at_28 : (decode cX0_at 28 = .ok (.bipush (-2), 2)) ∧ (decode cX0_at 30 = .ok (.ireturn, 1)) := by decide +kernel
theorem dX0_at_28 : decode cX0_at 28 = .ok (.bipush (-2), 2) := dg_X0_at_28.1
theorem dX0_at_30 : decode cX0_at 30 = .ok (.ireturn, 1) := dg_X0_at_28.2
abbrev rm_co_at : Room := { frames := 0, cells := 0, slots := 0, locals := 0 }
abbrev po_co_at (g : zz_G) (ch : Nat) (st : Nat) (c_pl : Nat) (c_sl : Nat) (c_co : Nat) (c_ca : Nat) (c_tu : Nat) (nd : Nat) (plf : Nat → Int32) (k : Int32) (h_d : nd ≤ 24) : Int32 → va_W → Prop := fun (r : Int32) (u : va_W) => (r = -2 ∨ ∃ i, i < nd ∧ r = nI i) ∧ (r = sp_at plf k nd 0) ∧ u = [cw_k0 ch st (nI nd) c_pl c_sl c_co c_ca c_tu, cw_i g c_pl 24 plf]
set_option maxHeartbeats 4000000 in
set_option maxRecDepth 100000 in
theorem co_at (g : zz_G) (ch : Nat) (st : Nat) (c_pl : Nat) (c_sl : Nat) (c_co : Nat) (c_ca : Nat) (c_tu : Nat) (nd : Nat) (plf : Nat → Int32) (k : Int32) (h_d : nd ≤ 24) : zz_I g yX0_at (.code yX0_at cX0_at 3 (some .int)) rm_co_at [.ref ch, .int k] [cw_k0 ch st (nI nd) c_pl c_sl c_co c_ca c_tu, cw_i g c_pl 24 plf] (po_co_at g ch st c_pl c_sl c_co c_ca c_tu nd plf k h_d) := by
  refine zz_I.intro (own := RX0) (cc := cX0_at) (nL := 3) (by decide) rfl (Nat.le_of_ble_eq_true rfl) ?_
  intro p l e s m args below meth c A H locs ls hC hnm hs hZ hl
  obtain ⟨hx, hb, hml, hown, hts, hr, hlocks, hK⟩ := id hC
  have hl : lv_has ls 3 [(0, .ref ch), (1, .int k)] := hl
  have hZ : zz_Z g A s.heap [cw_k0 ch st (nI nd) c_pl c_sl c_co c_ca c_tu, cw_i g c_pl 24 plf] H locs := hZ
  refine lv_iconst (v := 0) hx hb dX0_at_0 (by decide) ?_
  refine lv_istore_n (lv' := [(2, .int 0), (0, .ref ch), (1, .int k)]) hx hb dX0_at_1 rfl hl (by decide) rfl (fun ls hl => ?_)
  have LP1 : ∀ (N : Nat) (i : Nat) (H : Heap) (locs : List Loc) (ls : Array Slot), (i ≤ nd) → (sp_at plf k nd 0 = sp_at plf k (nd - i) i) → (nd - i) < N → zz_Z g A s.heap [cw_k0 ch st (nI nd) c_pl c_sl c_co c_ca c_tu, cw_i g c_pl 24 plf] H locs → lv_has ls 3 [(2, .int (nI i)), (0, .ref ch), (1, .int k)] → W p l e rm_co_at s m args below meth c H locs 0 0 (zz_QI below g args s A rm_co_at.cells rm_co_at.slots (po_co_at g ch st c_pl c_sl c_co c_ca c_tu nd plf k h_d)) (F0 m 2 ls []) := by
    intro N
    induction N with
    | zero =>
      intro i H locs ls hi he hN
      exact absurd hN (Nat.not_lt_zero _)
    | succ N ih =>
      intro i H locs ls hi he hN hZ hl
      refine lv_iload_n hx hb dX0_at_2 rfl (lv_at hl 0 rfl) ?_
      refine lv_aload_n hx hb dX0_at_3 rfl (lv_at hl 1 rfl) ?_
      refine zz_get hC hZ 0 rfl zf_X0_32 rfl dX0_at_4 ?_
      have bd3 : nd < 2 ^ 31 := by omega
      have bd4 : i < 2 ^ 31 := by omega
      refine lv_icmp_ge (tgt := 28) hx hb dX0_at_7 (by decide) (fun c2 => ?_) (fun c2 => ?_)
      · have nc2 : nd ≤ i := (nI_leI bd3 bd4).mp (show nI (nd) ≤ nI (i) from c2)
        refine lv_bipush (v := -2) hx hb dX0_at_28 (by decide) ?_
        exact zz_iret hC hZ (⟨Or.inl rfl, by rw [he, show nd - i = 0 by omega, sp_at], rfl⟩) (Nat.le_of_ble_eq_true rfl) (Nat.le_of_ble_eq_true rfl) dX0_at_30
      · have nc2 : ¬ nd ≤ i := fun zq => c2 (show nI (nd) ≤ nI (i) from (nI_leI bd3 bd4).mpr zq)
        refine lv_aload_n hx hb dX0_at_10 rfl (lv_at hl 1 rfl) ?_
        refine zz_get hC hZ 0 rfl zf_X0_9 rfl dX0_at_11 ?_
        refine lv_iload_n hx hb dX0_at_14 rfl (lv_at hl 0 rfl) ?_
        have bd5 : i < 24 := by omega
        refine zz_ialdn hC hZ 1 rfl bd5 (by decide) dX0_at_15 ?_
        refine lv_iload_n hx hb dX0_at_16 rfl (lv_at hl 2 rfl) ?_
        refine lv_icmp_ne (tgt := 22) hx hb dX0_at_17 (by decide) (fun c6 => ?_) (fun c6 => ?_)
        · refine lv_iinc (v := nI (i + 1)) (lv' := [(2, .int (nI (i + 1))), (0, .ref ch), (1, .int k)]) hx hb dX0_at_22 hl (k := 0) rfl (nI_1 _) (by decide) rfl (fun ls hl => ?_)
          refine lv_goto (tgt := 2) hx hb dX0_at_25 (by decide) ?_
          exact ih (i + 1) H locs ls (by omega) (by rw [he, show nd - i = (nd - (i + 1)) + 1 by omega, sp_at, if_neg c6]) (by omega) hZ (lv_sub hl [0, 1, 2] rfl)
        · refine lv_iload_n hx hb dX0_at_20 rfl (lv_at hl 0 rfl) ?_
          exact zz_iret hC hZ (⟨Or.inr ⟨i, by omega, rfl⟩, by rw [he, show nd - i = (nd - (i + 1)) + 1 by omega, sp_at, if_pos c6], rfl⟩) (Nat.le_of_ble_eq_true rfl) (Nat.le_of_ble_eq_true rfl) dX0_at_21
  exact LP1 _ 0 H locs ls (by omega) (rfl) (Nat.lt_succ_self _) hZ (lv_sub hl [0, 1, 2] rfl)
