theorem dg_X0_add_0 : (decode cX0_add 0 = .ok (.aload_n 0, 1)) ∧ (decode cX0_add 1 = .ok (.getfield 9, 3)) ∧ (decode cX0_add 4 = .ok (.aload_n 0, 1)) ∧ (decode cX0_add 5 = .ok (.getfield 32, 3)) ∧ (decode cX0_add 8 = .ok (.iload_n 1, 1)) ∧ (decode cX0_add 9 = .ok (.iastore, 1)) ∧ (decode cX0_add 10 = .ok (.aload_n 0, 1)) ∧ (decode cX0_add 11 = .ok (.getfield 15, 3)) ∧ (decode cX0_add 14 = .ok (.aload_n 0, 1)) ∧ (decode cX0_add 15 = .ok (.getfield 32, 3)) ∧ (decode cX0_add 18 = .ok (.aload_n 0, 1)) ∧ (decode cX0_add 19 = .ok (.getfield 28, 3)) ∧ (decode cX0_add 22 = .ok (.iload_n 1, 1)) ∧ (decode cX0_add 23 = .ok (.invokevirtual 40, 3)) ∧ (decode cX0_add 26 = .ok (.iastore, 1)) ∧ (decode cX0_add 27 = .ok (.aload_n 0, 1)) := by decide +kernel
theorem dX0_add_0 : decode cX0_add 0 = .ok (.aload_n 0, 1) := dg_X0_add_0.1
theorem dX0_add_1 : decode cX0_add 1 = .ok (.getfield 9, 3) := dg_X0_add_0.2.1
theorem dX0_add_4 : decode cX0_add 4 = .ok (.aload_n 0, 1) := dg_X0_add_0.2.2.1
theorem dX0_add_5 : decode cX0_add 5 = .ok (.getfield 32, 3) := dg_X0_add_0.2.2.2.1
theorem dX0_add_8 : decode cX0_add 8 = .ok (.iload_n 1, 1) := dg_X0_add_0.2.2.2.2.1
theorem dX0_add_9 : decode cX0_add 9 = .ok (.iastore, 1) := dg_X0_add_0.2.2.2.2.2.1
theorem dX0_add_10 : decode cX0_add 10 = .ok (.aload_n 0, 1) := dg_X0_add_0.2.2.2.2.2.2.1
theorem dX0_add_11 : decode cX0_add 11 = .ok (.getfield 15, 3) := dg_X0_add_0.2.2.2.2.2.2.2.1
theorem dX0_add_14 : decode cX0_add 14 = .ok (.aload_n 0, 1) := dg_X0_add_0.2.2.2.2.2.2.2.2.1
theorem dX0_add_15 : decode cX0_add 15 = .ok (.getfield 32, 3) := dg_X0_add_0.2.2.2.2.2.2.2.2.2.1
theorem dX0_add_18 : decode cX0_add 18 = .ok (.aload_n 0, 1) := dg_X0_add_0.2.2.2.2.2.2.2.2.2.2.1
theorem dX0_add_19 : decode cX0_add 19 = .ok (.getfield 28, 3) := dg_X0_add_0.2.2.2.2.2.2.2.2.2.2.2.1
theorem dX0_add_22 : decode cX0_add 22 = .ok (.iload_n 1, 1) := dg_X0_add_0.2.2.2.2.2.2.2.2.2.2.2.2.1
theorem dX0_add_23 : decode cX0_add 23 = .ok (.invokevirtual 40, 3) := dg_X0_add_0.2.2.2.2.2.2.2.2.2.2.2.2.2.1
theorem dX0_add_26 : decode cX0_add 26 = .ok (.iastore, 1) := dg_X0_add_0.2.2.2.2.2.2.2.2.2.2.2.2.2.2.1
theorem dX0_add_27 : decode cX0_add 27 = .ok (.aload_n 0, 1) := dg_X0_add_0.2.2.2.2.2.2.2.2.2.2.2.2.2.2.2
theorem dg_X0_add_28 : (decode cX0_add 28 = .ok (.getfield 18, 3)) ∧ (decode cX0_add 31 = .ok (.aload_n 0, 1)) ∧ (decode cX0_add 32 = .ok (.getfield 32, 3)) ∧ (decode cX0_add 35 = .ok (.iconst 0, 1)) ∧ (decode cX0_add 36 = .ok (.iastore, 1)) ∧ (decode cX0_add 37 = .ok (.aload_n 0, 1)) ∧ (decode cX0_add 38 = .ok (.dup, 1)) ∧ (decode cX0_add 39 = .ok (.getfield 32, 3)) ∧ (decode cX0_add 42 = .ok (.iconst 1, 1)) ∧ (decode cX0_add 43 = .ok (.iadd, 1)) ∧ (decode cX0_add 44 = .ok (.putfield 32, 3)) ∧ (decode cX0_add 47 = .ok (.aload_n 0, 1)) ∧ (decode cX0_add 48 = .ok (.getfield 32, 3)) ∧ (decode cX0_add 51 = .ok (.iconst 1, 1)) ∧ (decode cX0_add 52 = .ok (.isub, 1)) ∧ (decode cX0_add 53 = .ok (.ireturn, 1)) := by decide +kernel
theorem dX0_add_28 : decode cX0_add 28 = .ok (.getfield 18, 3) := dg_X0_add_28.1
theorem dX0_add_31 : decode cX0_add 31 = .ok (.aload_n 0, 1) := dg_X0_add_28.2.1
theorem dX0_add_32 : decode cX0_add 32 = .ok (.getfield 32, 3) := dg_X0_add_28.2.2.1
theorem dX0_add_35 : decode cX0_add 35 = .ok (.iconst 0, 1) := dg_X0_add_28.2.2.2.1
theorem dX0_add_36 : decode cX0_add 36 = .ok (.iastore, 1) := dg_X0_add_28.2.2.2.2.1
theorem dX0_add_37 : decode cX0_add 37 = .ok (.aload_n 0, 1) := dg_X0_add_28.2.2.2.2.2.1
theorem dX0_add_38 : decode cX0_add 38 = .ok (.dup, 1) := dg_X0_add_28.2.2.2.2.2.2.1
theorem dX0_add_39 : decode cX0_add 39 = .ok (.getfield 32, 3) := dg_X0_add_28.2.2.2.2.2.2.2.1
theorem dX0_add_42 : decode cX0_add 42 = .ok (.iconst 1, 1) := dg_X0_add_28.2.2.2.2.2.2.2.2.1
theorem dX0_add_43 : decode cX0_add 43 = .ok (.iadd, 1) := dg_X0_add_28.2.2.2.2.2.2.2.2.2.1
theorem dX0_add_44 : decode cX0_add 44 = .ok (.putfield 32, 3) := dg_X0_add_28.2.2.2.2.2.2.2.2.2.2.1
theorem dX0_add_47 : decode cX0_add 47 = .ok (.aload_n 0, 1) := dg_X0_add_28.2.2.2.2.2.2.2.2.2.2.2.1
theorem dX0_add_48 : decode cX0_add 48 = .ok (.getfield 32, 3) := dg_X0_add_28.2.2.2.2.2.2.2.2.2.2.2.2.1
theorem dX0_add_51 : decode cX0_add 51 = .ok (.iconst 1, 1) := dg_X0_add_28.2.2.2.2.2.2.2.2.2.2.2.2.2.1
theorem dX0_add_52 : decode cX0_add 52 = .ok (.isub, 1) := dg_X0_add_28.2.2.2.2.2.2.2.2.2.2.2.2.2.2.1
theorem dX0_add_53 : decode cX0_add 53 = .ok (.ireturn, 1) := dg_X0_add_28.2.2.2.2.2.2.2.2.2.2.2.2.2.2.2
theorem zk_541 : Cond.methodLink RX0 40 yX6_slotOf ∈ zz_w := zz_in (List.mem_append_right _ (List.mem_append_right _ (List.mem_append_right _ (List.mem_append_left _ (List.mem_of_getElem? (i := 61) (by decide +kernel)))))) rfl
set_option maxRecDepth 20000 in
theorem zk_345 : Cond.code yX6_slotOf cX6_slotOf 2 (some .int) ∈ zz_w := zz_in (List.mem_append_right _ (List.mem_append_right _ (List.mem_append_left _ (List.mem_of_getElem? (i := 105) (rfl))))) rfl
theorem zk_343 : Cond.instanceMethod yX6_slotOf ∈ zz_w := zz_in (List.mem_append_right _ (List.mem_append_right _ (List.mem_append_left _ (List.mem_of_getElem? (i := 103) (by decide +kernel))))) rfl
theorem zk_344 : Cond.selects RX6 yX6_slotOf yX6_slotOf ∈ zz_w := zz_in (List.mem_append_right _ (List.mem_append_right _ (List.mem_append_left _ (List.mem_of_getElem? (i := 104) (by decide +kernel))))) rfl
theorem zc_X0_40 : zz_cV RX0 40 yX6_slotOf cX6_slotOf 2 (some .int) 1 := ⟨⟨zk_541, zk_345, zk_2, by decide, by decide, by decide +kernel⟩, zk_343, zk_344⟩
theorem zu_X0_32 : zz_fw RX0 32 0 1 false .int := ⟨RX0, TX0, 7, tyX0, rfl, zi_X0, by decide, zk_138, tyX0_ok, nmX0, rfl, by decide +kernel, fun h => by cases h⟩
abbrev rm_co_cadd : Room := { frames := 1, cells := 0, slots := 0, locals := 21 }
abbrev po_co_cadd (g : zz_G) (ch : Nat) (st : Nat) (c_pl : Nat) (c_sl : Nat) (c_co : Nat) (c_ca : Nat) (c_tu : Nat) (kd : Nat) (dp : Nat) (cl : Nat) (sa : Nat) (ln : Nat) (bt : Nat) (pn : Nat) (bf : Nat) (nd : Nat) (na : Nat) (nu : Nat) (plf : Nat → Int32) (slf : Nat → Int32) (cof : Nat → Int32) (saf : Nat → Int32) (b : Nat) (q : Nat) (sz : Nat) (h_d : nd < 24) (h_60 : b < 60 ∧ q < 1000) (e_s : saf b = nI sz) : Int32 → va_W → Prop := fun (r : Int32) (u : va_W) => r = nI nd ∧ u = [cw_k0 ch st (nI (nd + 1)) c_pl c_sl c_co c_ca c_tu, cw_i g c_pl 24 (upd plf nd (nI (1000 * b + q))), cw_i g c_sl 24 (upd slf nd (nI (sz + q))), cw_i g c_co 24 (upd cof nd 0), cw_k5 st (nI na) (nI nu) kd dp cl sa ln bt pn bf, cw_i g sa 60 saf]
set_option maxHeartbeats 4000000 in
set_option maxRecDepth 100000 in
theorem co_cadd (g : zz_G) (ch : Nat) (st : Nat) (c_pl : Nat) (c_sl : Nat) (c_co : Nat) (c_ca : Nat) (c_tu : Nat) (kd : Nat) (dp : Nat) (cl : Nat) (sa : Nat) (ln : Nat) (bt : Nat) (pn : Nat) (bf : Nat) (nd : Nat) (na : Nat) (nu : Nat) (plf : Nat → Int32) (slf : Nat → Int32) (cof : Nat → Int32) (saf : Nat → Int32) (b : Nat) (q : Nat) (sz : Nat) (h_d : nd < 24) (h_60 : b < 60 ∧ q < 1000) (e_s : saf b = nI sz) : zz_I g yX0_add (.code yX0_add cX0_add 2 (some .int)) rm_co_cadd [.ref ch, .int (nI (1000 * b + q))] [cw_k0 ch st (nI nd) c_pl c_sl c_co c_ca c_tu, cw_i g c_pl 24 plf, cw_i g c_sl 24 slf, cw_i g c_co 24 cof, cw_k5 st (nI na) (nI nu) kd dp cl sa ln bt pn bf, cw_i g sa 60 saf] (po_co_cadd g ch st c_pl c_sl c_co c_ca c_tu kd dp cl sa ln bt pn bf nd na nu plf slf cof saf b q sz h_d h_60 e_s) := by
  refine zz_I.intro (own := RX0) (cc := cX0_add) (nL := 2) (by decide) rfl (Nat.le_of_ble_eq_true rfl) ?_
  intro p l e s m args below meth c A H locs ls hC hnm hs hZ hl
  obtain ⟨hx, hb, hml, hown, hts, hr, hlocks, hK⟩ := id hC
  have hl : lv_has ls 2 [(0, .ref ch), (1, .int (nI (1000 * b + q)))] := hl
  have hZ : zz_Z g A s.heap [cw_k0 ch st (nI nd) c_pl c_sl c_co c_ca c_tu, cw_i g c_pl 24 plf, cw_i g c_sl 24 slf, cw_i g c_co 24 cof, cw_k5 st (nI na) (nI nu) kd dp cl sa ln bt pn bf, cw_i g sa 60 saf] H locs := hZ
  refine lv_aload_n hx hb dX0_add_0 rfl (lv_at hl 0 rfl) ?_
  refine zz_get hC hZ 0 rfl zf_X0_9 rfl dX0_add_1 ?_
  refine lv_aload_n hx hb dX0_add_4 rfl (lv_at hl 0 rfl) ?_
  refine zz_get hC hZ 0 rfl zf_X0_32 rfl dX0_add_5 ?_
  refine lv_iload_n hx hb dX0_add_8 rfl (lv_at hl 1 rfl) ?_
  have bd1 : nd < 24 := by omega
  refine zz_iastn hC hZ 1 rfl bd1 (by decide) dX0_add_9 (fun H locs hZ => ?_)
  have hZ : zz_Z g A s.heap [cw_k0 ch st (nI nd) c_pl c_sl c_co c_ca c_tu, cw_i g c_pl 24 (upd plf nd (nI (1000 * b + q))), cw_i g c_sl 24 slf, cw_i g c_co 24 cof, cw_k5 st (nI na) (nI nu) kd dp cl sa ln bt pn bf, cw_i g sa 60 saf] H locs := hZ
  refine lv_aload_n hx hb dX0_add_10 rfl (lv_at hl 0 rfl) ?_
  refine zz_get hC hZ 0 rfl zf_X0_15 rfl dX0_add_11 ?_
  refine lv_aload_n hx hb dX0_add_14 rfl (lv_at hl 0 rfl) ?_
  refine zz_get hC hZ 0 rfl zf_X0_32 rfl dX0_add_15 ?_
  refine lv_aload_n hx hb dX0_add_18 rfl (lv_at hl 0 rfl) ?_
  refine zz_get hC hZ 0 rfl zf_X0_28 rfl dX0_add_19 ?_
  refine lv_iload_n hx hb dX0_add_22 rfl (lv_at hl 1 rfl) ?_
  refine zz_iV (As := [.int (nI (1000 * b + q))]) (wc := [cw_k5 st (nI na) (nI nu) kd dp cl sa ln bt pn bf, cw_i g sa 60 saf]) (wr := [cw_k0 ch st (nI nd) c_pl c_sl c_co c_ca c_tu, cw_i g c_pl 24 (upd plf nd (nI (1000 * b + q))), cw_i g c_sl 24 slf, cw_i g c_co 24 cof]) (rest := [.int (nI nd), .ref c_sl]) hC hZ hs hl zc_X0_40 (co_slotOf g st kd dp cl sa ln bt pn bf na nu saf b q sz (by omega) (e_s)) [4, 5] [0, 1, 2, 3] rfl rfl (by decide +kernel) (ci := 5) (q0 := 0) rfl rfl rfl rfl (Nat.le_of_ble_eq_true rfl) ⟨⟨Nat.le_of_ble_eq_true rfl, Nat.le_of_ble_eq_true rfl⟩, Nat.le_of_ble_eq_true rfl, Nat.le_of_ble_eq_true rfl⟩ dX0_add_23 (fun r2 u3 H locs hp hZ => ?_)
  obtain ⟨rfl, rfl⟩ := hp
  have hZ : zz_Z g A s.heap [cw_k0 ch st (nI nd) c_pl c_sl c_co c_ca c_tu, cw_i g c_pl 24 (upd plf nd (nI (1000 * b + q))), cw_i g c_sl 24 slf, cw_i g c_co 24 cof, cw_k5 st (nI na) (nI nu) kd dp cl sa ln bt pn bf, cw_i g sa 60 saf] H locs := hZ
  refine zz_iastn hC hZ 2 rfl bd1 (by decide) dX0_add_26 (fun H locs hZ => ?_)
  have hZ : zz_Z g A s.heap [cw_k0 ch st (nI nd) c_pl c_sl c_co c_ca c_tu, cw_i g c_pl 24 (upd plf nd (nI (1000 * b + q))), cw_i g c_sl 24 (upd slf nd (nI (sz + q))), cw_i g c_co 24 cof, cw_k5 st (nI na) (nI nu) kd dp cl sa ln bt pn bf, cw_i g sa 60 saf] H locs := hZ
  refine lv_aload_n hx hb dX0_add_27 rfl (lv_at hl 0 rfl) ?_
  refine zz_get hC hZ 0 rfl zf_X0_18 rfl dX0_add_28 ?_
  refine lv_aload_n hx hb dX0_add_31 rfl (lv_at hl 0 rfl) ?_
  refine zz_get hC hZ 0 rfl zf_X0_32 rfl dX0_add_32 ?_
  refine lv_iconst (v := 0) hx hb dX0_add_35 (by decide) ?_
  refine zz_iastn hC hZ 3 rfl bd1 (by decide) dX0_add_36 (fun H locs hZ => ?_)
  have hZ : zz_Z g A s.heap [cw_k0 ch st (nI nd) c_pl c_sl c_co c_ca c_tu, cw_i g c_pl 24 (upd plf nd (nI (1000 * b + q))), cw_i g c_sl 24 (upd slf nd (nI (sz + q))), cw_i g c_co 24 (upd cof nd 0), cw_k5 st (nI na) (nI nu) kd dp cl sa ln bt pn bf, cw_i g sa 60 saf] H locs := hZ
  refine lv_aload_n hx hb dX0_add_37 rfl (lv_at hl 0 rfl) ?_
  refine lv_dup hx hb dX0_add_38 rfl ?_
  refine zz_get hC hZ 0 rfl zf_X0_32 rfl dX0_add_39 ?_
  refine lv_iconst (v := 1) hx hb dX0_add_42 (by decide) ?_
  refine lv_iadd hx hb dX0_add_43 ?_
  refine zz_topi (v := nI (nd + 1)) (nI_1 _) ?_
  refine zz_put hC hZ 0 rfl zu_X0_32 (Nat.le_of_ble_eq_true rfl) dX0_add_44 (fun H locs hZ => ?_)
  have hZ : zz_Z g A s.heap [cw_k0 ch st (nI (nd + 1)) c_pl c_sl c_co c_ca c_tu, cw_i g c_pl 24 (upd plf nd (nI (1000 * b + q))), cw_i g c_sl 24 (upd slf nd (nI (sz + q))), cw_i g c_co 24 (upd cof nd 0), cw_k5 st (nI na) (nI nu) kd dp cl sa ln bt pn bf, cw_i g sa 60 saf] H locs := hZ
  refine lv_aload_n hx hb dX0_add_47 rfl (lv_at hl 0 rfl) ?_
  refine zz_get hC hZ 0 rfl zf_X0_32 rfl dX0_add_48 ?_
  refine lv_iconst (v := 1) hx hb dX0_add_51 (by decide) ?_
  refine lv_isub hx hb dX0_add_52 ?_
  refine zz_topi (v := nI nd) (nI_pred _) ?_
  exact zz_iret hC hZ (⟨rfl, rfl⟩) (Nat.le_of_ble_eq_true rfl) (Nat.le_of_ble_eq_true rfl) dX0_add_53
theorem dg_X5_add_0 : (decode cX5_add 0 = .ok (.aload_n 0, 1)) ∧ (decode cX5_add 1 = .ok (.getfield 9, 3)) ∧ (decode cX5_add 4 = .ok (.aload_n 0, 1)) ∧ (decode cX5_add 5 = .ok (.getfield 38, 3)) ∧ (decode cX5_add 8 = .ok (.iload_n 1, 1)) ∧ (decode cX5_add 9 = .ok (.iastore, 1)) ∧ (decode cX5_add 10 = .ok (.aload_n 0, 1)) ∧ (decode cX5_add 11 = .ok (.getfield 15, 3)) ∧ (decode cX5_add 14 = .ok (.aload_n 0, 1)) ∧ (decode cX5_add 15 = .ok (.getfield 38, 3)) ∧ (decode cX5_add 18 = .ok (.iload_n 2, 1)) ∧ (decode cX5_add 19 = .ok (.iastore, 1)) ∧ (decode cX5_add 20 = .ok (.aload_n 0, 1)) ∧ (decode cX5_add 21 = .ok (.getfield 18, 3)) ∧ (decode cX5_add 24 = .ok (.aload_n 0, 1)) ∧ (decode cX5_add 25 = .ok (.getfield 38, 3)) := by decide +kernel
theorem dX5_add_0 : decode cX5_add 0 = .ok (.aload_n 0, 1) := dg_X5_add_0.1
theorem dX5_add_1 : decode cX5_add 1 = .ok (.getfield 9, 3) := dg_X5_add_0.2.1
theorem dX5_add_4 : decode cX5_add 4 = .ok (.aload_n 0, 1) := dg_X5_add_0.2.2.1
theorem dX5_add_5 : decode cX5_add 5 = .ok (.getfield 38, 3) := dg_X5_add_0.2.2.2.1
theorem dX5_add_8 : decode cX5_add 8 = .ok (.iload_n 1, 1) := dg_X5_add_0.2.2.2.2.1
theorem dX5_add_9 : decode cX5_add 9 = .ok (.iastore, 1) := dg_X5_add_0.2.2.2.2.2.1
theorem dX5_add_10 : decode cX5_add 10 = .ok (.aload_n 0, 1) := dg_X5_add_0.2.2.2.2.2.2.1
theorem dX5_add_11 : decode cX5_add 11 = .ok (.getfield 15, 3) := dg_X5_add_0.2.2.2.2.2.2.2.1
theorem dX5_add_14 : decode cX5_add 14 = .ok (.aload_n 0, 1) := dg_X5_add_0.2.2.2.2.2.2.2.2.1
theorem dX5_add_15 : decode cX5_add 15 = .ok (.getfield 38, 3) := dg_X5_add_0.2.2.2.2.2.2.2.2.2.1
theorem dX5_add_18 : decode cX5_add 18 = .ok (.iload_n 2, 1) := dg_X5_add_0.2.2.2.2.2.2.2.2.2.2.1
theorem dX5_add_19 : decode cX5_add 19 = .ok (.iastore, 1) := dg_X5_add_0.2.2.2.2.2.2.2.2.2.2.2.1
theorem dX5_add_20 : decode cX5_add 20 = .ok (.aload_n 0, 1) := dg_X5_add_0.2.2.2.2.2.2.2.2.2.2.2.2.1
theorem dX5_add_21 : decode cX5_add 21 = .ok (.getfield 18, 3) := dg_X5_add_0.2.2.2.2.2.2.2.2.2.2.2.2.2.1
theorem dX5_add_24 : decode cX5_add 24 = .ok (.aload_n 0, 1) := dg_X5_add_0.2.2.2.2.2.2.2.2.2.2.2.2.2.2.1
theorem dX5_add_25 : decode cX5_add 25 = .ok (.getfield 38, 3) := dg_X5_add_0.2.2.2.2.2.2.2.2.2.2.2.2.2.2.2
theorem dg_X5_add_28 : (decode cX5_add 28 = .ok (.iload_n 3, 1)) ∧ (decode cX5_add 29 = .ok (.iastore, 1)) ∧ (decode cX5_add 30 = .ok (.aload_n 0, 1)) ∧ (decode cX5_add 31 = .ok (.getfield 21, 3)) ∧ (decode cX5_add 34 = .ok (.aload_n 0, 1)) ∧ (decode cX5_add 35 = .ok (.getfield 38, 3)) ∧ (decode cX5_add 38 = .ok (.lload 4, 2)) ∧ (decode cX5_add 40 = .ok (.lastore, 1)) ∧ (decode cX5_add 41 = .ok (.aload_n 0, 1)) ∧ (decode cX5_add 42 = .ok (.getfield 25, 3)) ∧ (decode cX5_add 45 = .ok (.aload_n 0, 1)) ∧ (decode cX5_add 46 = .ok (.getfield 38, 3)) ∧ (decode cX5_add 49 = .ok (.lload 6, 2)) ∧ (decode cX5_add 51 = .ok (.lastore, 1)) ∧ (decode cX5_add 52 = .ok (.aload_n 0, 1)) ∧ (decode cX5_add 53 = .ok (.dup, 1)) := by decide +kernel
theorem dX5_add_28 : decode cX5_add 28 = .ok (.iload_n 3, 1) := dg_X5_add_28.1
theorem dX5_add_29 : decode cX5_add 29 = .ok (.iastore, 1) := dg_X5_add_28.2.1
theorem dX5_add_30 : decode cX5_add 30 = .ok (.aload_n 0, 1) := dg_X5_add_28.2.2.1
theorem dX5_add_31 : decode cX5_add 31 = .ok (.getfield 21, 3) := dg_X5_add_28.2.2.2.1
theorem dX5_add_34 : decode cX5_add 34 = .ok (.aload_n 0, 1) := dg_X5_add_28.2.2.2.2.1
theorem dX5_add_35 : decode cX5_add 35 = .ok (.getfield 38, 3) := dg_X5_add_28.2.2.2.2.2.1
theorem dX5_add_38 : decode cX5_add 38 = .ok (.lload 4, 2) := dg_X5_add_28.2.2.2.2.2.2.1
theorem dX5_add_40 : decode cX5_add 40 = .ok (.lastore, 1) := dg_X5_add_28.2.2.2.2.2.2.2.1
theorem dX5_add_41 : decode cX5_add 41 = .ok (.aload_n 0, 1) := dg_X5_add_28.2.2.2.2.2.2.2.2.1
theorem dX5_add_42 : decode cX5_add 42 = .ok (.getfield 25, 3) := dg_X5_add_28.2.2.2.2.2.2.2.2.2.1
theorem dX5_add_45 : decode cX5_add 45 = .ok (.aload_n 0, 1) := dg_X5_add_28.2.2.2.2.2.2.2.2.2.2.1
theorem dX5_add_46 : decode cX5_add 46 = .ok (.getfield 38, 3) := dg_X5_add_28.2.2.2.2.2.2.2.2.2.2.2.1
theorem dX5_add_49 : decode cX5_add 49 = .ok (.lload 6, 2) := dg_X5_add_28.2.2.2.2.2.2.2.2.2.2.2.2.1
theorem dX5_add_51 : decode cX5_add 51 = .ok (.lastore, 1) := dg_X5_add_28.2.2.2.2.2.2.2.2.2.2.2.2.2.1
theorem dX5_add_52 : decode cX5_add 52 = .ok (.aload_n 0, 1) := dg_X5_add_28.2.2.2.2.2.2.2.2.2.2.2.2.2.2.1
theorem dX5_add_53 : decode cX5_add 53 = .ok (.dup, 1) := dg_X5_add_28.2.2.2.2.2.2.2.2.2.2.2.2.2.2.2
theorem dg_X5_add_54 : (decode cX5_add 54 = .ok (.getfield 38, 3)) ∧ (decode cX5_add 57 = .ok (.iconst 1, 1)) ∧ (decode cX5_add 58 = .ok (.iadd, 1)) ∧ (decode cX5_add 59 = .ok (.putfield 38, 3)) ∧ (decode cX5_add 62 = .ok (.aload_n 0, 1)) ∧ (decode cX5_add 63 = .ok (.getfield 38, 3)) ∧ (decode cX5_add 66 = .ok (.iconst 1, 1)) ∧ (decode cX5_add 67 = .ok (.isub, 1)) ∧ (decode cX5_add 68 = .ok (.ireturn, 1)) := by decide +kernel
theorem dX5_add_54 : decode cX5_add 54 = .ok (.getfield 38, 3) := dg_X5_add_54.1
theorem dX5_add_57 : decode cX5_add 57 = .ok (.iconst 1, 1) := dg_X5_add_54.2.1
theorem dX5_add_58 : decode cX5_add 58 = .ok (.iadd, 1) := dg_X5_add_54.2.2.1
theorem dX5_add_59 : decode cX5_add 59 = .ok (.putfield 38, 3) := dg_X5_add_54.2.2.2.1
theorem dX5_add_62 : decode cX5_add 62 = .ok (.aload_n 0, 1) := dg_X5_add_54.2.2.2.2.1
theorem dX5_add_63 : decode cX5_add 63 = .ok (.getfield 38, 3) := dg_X5_add_54.2.2.2.2.2.1
theorem dX5_add_66 : decode cX5_add 66 = .ok (.iconst 1, 1) := dg_X5_add_54.2.2.2.2.2.2.1
theorem dX5_add_67 : decode cX5_add 67 = .ok (.isub, 1) := dg_X5_add_54.2.2.2.2.2.2.2.1
theorem dX5_add_68 : decode cX5_add 68 = .ok (.ireturn, 1) := dg_X5_add_54.2.2.2.2.2.2.2.2
theorem zk_173 : Cond.fieldLink RX5 15 RX5 "judged" "[I" ∈ zz_w := zz_in (List.mem_append_right _ (List.mem_append_left _ (List.mem_of_getElem? (i := 173) (by decide +kernel)))) rfl
theorem zf_X5_15 : zz_f RX5 15 4 3 := ⟨RX5, TX5, 9, rfl, zi_X5, by decide, zk_173⟩
theorem zu_X5_38 : zz_fw RX5 38 4 1 false .int := ⟨RX5, TX5, 9, tyX5, rfl, zi_X5, by decide, zk_170, tyX5_ok, nmX5, rfl, by decide +kernel, fun h => by cases h⟩
abbrev rm_co_radd : Room := { frames := 0, cells := 0, slots := 0, locals := 0 }
abbrev po_co_radd (g : zz_G) (ru : Nat) (st : Nat) (u_so : Nat) (u_ju : Nat) (u_we : Nat) (u_lo : Nat) (u_hi : Nat) (u_ta : Nat) (u_bo : Nat) (nr : Nat) (sof : Nat → Int32) (juf : Nat → Int32) (wef : Nat → Int32) (lof : Nat → Int64) (hif : Nat → Int64) (k : Int32) (j : Int32) (w : Int32) (x : Int64) (y : Int64) (h_r : nr < 12) : Int32 → va_W → Prop := fun (r : Int32) (u : va_W) => r = nI nr ∧ u = [cw_k4 ru st (nI (nr + 1)) u_so u_ju u_we u_lo u_hi u_ta u_bo, cw_i g u_so 12 (upd sof nr k), cw_i g u_ju 12 (upd juf nr j), cw_i g u_we 12 (upd wef nr w), cw_l g u_lo 12 (vp_updL lof nr x), cw_l g u_hi 12 (vp_updL hif nr y)]
set_option maxHeartbeats 4000000 in
set_option maxRecDepth 100000 in
theorem co_radd (g : zz_G) (ru : Nat) (st : Nat) (u_so : Nat) (u_ju : Nat) (u_we : Nat) (u_lo : Nat) (u_hi : Nat) (u_ta : Nat) (u_bo : Nat) (nr : Nat) (sof : Nat → Int32) (juf : Nat → Int32) (wef : Nat → Int32) (lof : Nat → Int64) (hif : Nat → Int64) (k : Int32) (j : Int32) (w : Int32) (x : Int64) (y : Int64) (h_r : nr < 12) : zz_I g yX5_add (.code yX5_add cX5_add 8 (some .int)) rm_co_radd [.ref ru, .int k, .int j, .int w, .long x, .long y] [cw_k4 ru st (nI nr) u_so u_ju u_we u_lo u_hi u_ta u_bo, cw_i g u_so 12 sof, cw_i g u_ju 12 juf, cw_i g u_we 12 wef, cw_l g u_lo 12 lof, cw_l g u_hi 12 hif] (po_co_radd g ru st u_so u_ju u_we u_lo u_hi u_ta u_bo nr sof juf wef lof hif k j w x y h_r) := by
  refine zz_I.intro (own := RX5) (cc := cX5_add) (nL := 8) (by decide) rfl (Nat.le_of_ble_eq_true rfl) ?_
  intro p l e s m args below meth c A H locs ls hC hnm hs hZ hl
  obtain ⟨hx, hb, hml, hown, hts, hr, hlocks, hK⟩ := id hC
  have hl : lv_has ls 8 [(0, .ref ru), (1, .int k), (2, .int j), (3, .int w), (4, .long x), (6, .long y)] := hl
  have hZ : zz_Z g A s.heap [cw_k4 ru st (nI nr) u_so u_ju u_we u_lo u_hi u_ta u_bo, cw_i g u_so 12 sof, cw_i g u_ju 12 juf, cw_i g u_we 12 wef, cw_l g u_lo 12 lof, cw_l g u_hi 12 hif] H locs := hZ
  refine lv_aload_n hx hb dX5_add_0 rfl (lv_at hl 0 rfl) ?_
  refine zz_get hC hZ 0 rfl zf_X5_9 rfl dX5_add_1 ?_
  refine lv_aload_n hx hb dX5_add_4 rfl (lv_at hl 0 rfl) ?_
  refine zz_get hC hZ 0 rfl zf_X5_38 rfl dX5_add_5 ?_
  refine lv_iload_n hx hb dX5_add_8 rfl (lv_at hl 1 rfl) ?_
  have bd1 : nr < 12 := by omega
  refine zz_iastn hC hZ 1 rfl bd1 (by decide) dX5_add_9 (fun H locs hZ => ?_)
  have hZ : zz_Z g A s.heap [cw_k4 ru st (nI nr) u_so u_ju u_we u_lo u_hi u_ta u_bo, cw_i g u_so 12 (upd sof nr k), cw_i g u_ju 12 juf, cw_i g u_we 12 wef, cw_l g u_lo 12 lof, cw_l g u_hi 12 hif] H locs := hZ
  refine lv_aload_n hx hb dX5_add_10 rfl (lv_at hl 0 rfl) ?_
  refine zz_get hC hZ 0 rfl zf_X5_15 rfl dX5_add_11 ?_
  refine lv_aload_n hx hb dX5_add_14 rfl (lv_at hl 0 rfl) ?_
  refine zz_get hC hZ 0 rfl zf_X5_38 rfl dX5_add_15 ?_
  refine lv_iload_n hx hb dX5_add_18 rfl (lv_at hl 2 rfl) ?_
  refine zz_iastn hC hZ 2 rfl bd1 (by decide) dX5_add_19 (fun H locs hZ => ?_)
  have hZ : zz_Z g A s.heap [cw_k4 ru st (nI nr) u_so u_ju u_we u_lo u_hi u_ta u_bo, cw_i g u_so 12 (upd sof nr k), cw_i g u_ju 12 (upd juf nr j), cw_i g u_we 12 wef, cw_l g u_lo 12 lof, cw_l g u_hi 12 hif] H locs := hZ
  refine lv_aload_n hx hb dX5_add_20 rfl (lv_at hl 0 rfl) ?_
  refine zz_get hC hZ 0 rfl zf_X5_18 rfl dX5_add_21 ?_
  refine lv_aload_n hx hb dX5_add_24 rfl (lv_at hl 0 rfl) ?_
  refine zz_get hC hZ 0 rfl zf_X5_38 rfl dX5_add_25 ?_
  refine lv_iload_n hx hb dX5_add_28 rfl (lv_at hl 3 rfl) ?_
  refine zz_iastn hC hZ 3 rfl bd1 (by decide) dX5_add_29 (fun H locs hZ => ?_)
  have hZ : zz_Z g A s.heap [cw_k4 ru st (nI nr) u_so u_ju u_we u_lo u_hi u_ta u_bo, cw_i g u_so 12 (upd sof nr k), cw_i g u_ju 12 (upd juf nr j), cw_i g u_we 12 (upd wef nr w), cw_l g u_lo 12 lof, cw_l g u_hi 12 hif] H locs := hZ
  refine lv_aload_n hx hb dX5_add_30 rfl (lv_at hl 0 rfl) ?_
  refine zz_get hC hZ 0 rfl zf_X5_21 rfl dX5_add_31 ?_
  refine lv_aload_n hx hb dX5_add_34 rfl (lv_at hl 0 rfl) ?_
  refine zz_get hC hZ 0 rfl zf_X5_38 rfl dX5_add_35 ?_
  refine lv_lload hx hb dX5_add_38 (lv_at hl 4 rfl) ?_
  refine zz_lastn hC hZ 4 rfl bd1 (by decide) dX5_add_40 (fun H locs hZ => ?_)
  have hZ : zz_Z g A s.heap [cw_k4 ru st (nI nr) u_so u_ju u_we u_lo u_hi u_ta u_bo, cw_i g u_so 12 (upd sof nr k), cw_i g u_ju 12 (upd juf nr j), cw_i g u_we 12 (upd wef nr w), cw_l g u_lo 12 (vp_updL lof nr x), cw_l g u_hi 12 hif] H locs := hZ
  refine lv_aload_n hx hb dX5_add_41 rfl (lv_at hl 0 rfl) ?_
  refine zz_get hC hZ 0 rfl zf_X5_25 rfl dX5_add_42 ?_
  refine lv_aload_n hx hb dX5_add_45 rfl (lv_at hl 0 rfl) ?_
  refine zz_get hC hZ 0 rfl zf_X5_38 rfl dX5_add_46 ?_
  refine lv_lload hx hb dX5_add_49 (lv_at hl 5 rfl) ?_
  refine zz_lastn hC hZ 5 rfl bd1 (by decide) dX5_add_51 (fun H locs hZ => ?_)
  have hZ : zz_Z g A s.heap [cw_k4 ru st (nI nr) u_so u_ju u_we u_lo u_hi u_ta u_bo, cw_i g u_so 12 (upd sof nr k), cw_i g u_ju 12 (upd juf nr j), cw_i g u_we 12 (upd wef nr w), cw_l g u_lo 12 (vp_updL lof nr x), cw_l g u_hi 12 (vp_updL hif nr y)] H locs := hZ
  refine lv_aload_n hx hb dX5_add_52 rfl (lv_at hl 0 rfl) ?_
  refine lv_dup hx hb dX5_add_53 rfl ?_
  refine zz_get hC hZ 0 rfl zf_X5_38 rfl dX5_add_54 ?_
  refine lv_iconst (v := 1) hx hb dX5_add_57 (by decide) ?_
  refine lv_iadd hx hb dX5_add_58 ?_
  refine zz_topi (v := nI (nr + 1)) (nI_1 _) ?_
  refine zz_put hC hZ 0 rfl zu_X5_38 (Nat.le_of_ble_eq_true rfl) dX5_add_59 (fun H locs hZ => ?_)
  have hZ : zz_Z g A s.heap [cw_k4 ru st (nI (nr + 1)) u_so u_ju u_we u_lo u_hi u_ta u_bo, cw_i g u_so 12 (upd sof nr k), cw_i g u_ju 12 (upd juf nr j), cw_i g u_we 12 (upd wef nr w), cw_l g u_lo 12 (vp_updL lof nr x), cw_l g u_hi 12 (vp_updL hif nr y)] H locs := hZ
  refine lv_aload_n hx hb dX5_add_62 rfl (lv_at hl 0 rfl) ?_
  refine zz_get hC hZ 0 rfl zf_X5_38 rfl dX5_add_63 ?_
  refine lv_iconst (v := 1) hx hb dX5_add_66 (by decide) ?_
  refine lv_isub hx hb dX5_add_67 ?_
  refine zz_topi (v := nI nr) (nI_pred _) ?_
  exact zz_iret hC hZ (⟨rfl, rfl⟩) (Nat.le_of_ble_eq_true rfl) (Nat.le_of_ble_eq_true rfl) dX5_add_68
