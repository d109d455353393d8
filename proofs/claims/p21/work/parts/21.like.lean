theorem dg_X2_sameShape_0 : (decode cX2_sameShape 0 = .ok (.aload_n 0, 1)) ∧ (decode cX2_sameShape 1 = .ok (.getfield 21, 3)) ∧ (decode cX2_sameShape 4 = .ok (.getfield 59, 3)) ∧ (decode cX2_sameShape 7 = .ok (.iload_n 1, 1)) ∧ (decode cX2_sameShape 8 = .ok (.iaload, 1)) ∧ (decode cX2_sameShape 9 = .ok (.aload_n 0, 1)) ∧ (decode cX2_sameShape 10 = .ok (.getfield 21, 3)) ∧ (decode cX2_sameShape 13 = .ok (.getfield 59, 3)) ∧ (decode cX2_sameShape 16 = .ok (.iload_n 2, 1)) ∧ (decode cX2_sameShape 17 = .ok (.iaload, 1)) ∧ (decode cX2_sameShape 18 = .ok (.if_icmp .ne 49, 3)) ∧ (decode cX2_sameShape 21 = .ok (.aload_n 0, 1)) ∧ (decode cX2_sameShape 22 = .ok (.getfield 21, 3)) ∧ (decode cX2_sameShape 25 = .ok (.getfield 37, 3)) ∧ (decode cX2_sameShape 28 = .ok (.iload_n 1, 1)) ∧ (decode cX2_sameShape 29 = .ok (.iaload, 1)) := by decide +kernel
theorem dX2_sameShape_0 : decode cX2_sameShape 0 = .ok (.aload_n 0, 1) := dg_X2_sameShape_0.1
theorem dX2_sameShape_1 : decode cX2_sameShape 1 = .ok (.getfield 21, 3) := dg_X2_sameShape_0.2.1
theorem dX2_sameShape_4 : decode cX2_sameShape 4 = .ok (.getfield 59, 3) := dg_X2_sameShape_0.2.2.1
theorem dX2_sameShape_7 : decode cX2_sameShape 7 = .ok (.iload_n 1, 1) := dg_X2_sameShape_0.2.2.2.1
theorem dX2_sameShape_8 : decode cX2_sameShape 8 = .ok (.iaload, 1) := dg_X2_sameShape_0.2.2.2.2.1
theorem dX2_sameShape_9 : decode cX2_sameShape 9 = .ok (.aload_n 0, 1) := dg_X2_sameShape_0.2.2.2.2.2.1
theorem dX2_sameShape_10 : decode cX2_sameShape 10 = .ok (.getfield 21, 3) := dg_X2_sameShape_0.2.2.2.2.2.2.1
theorem dX2_sameShape_13 : decode cX2_sameShape 13 = .ok (.getfield 59, 3) := dg_X2_sameShape_0.2.2.2.2.2.2.2.1
theorem dX2_sameShape_16 : decode cX2_sameShape 16 = .ok (.iload_n 2, 1) := dg_X2_sameShape_0.2.2.2.2.2.2.2.2.1
theorem dX2_sameShape_17 : decode cX2_sameShape 17 = .ok (.iaload, 1) := dg_X2_sameShape_0.2.2.2.2.2.2.2.2.2.1
theorem dX2_sameShape_18 : decode cX2_sameShape 18 = .ok (.if_icmp .ne 49, 3) := dg_X2_sameShape_0.2.2.2.2.2.2.2.2.2.2.1
theorem dX2_sameShape_21 : decode cX2_sameShape 21 = .ok (.aload_n 0, 1) := dg_X2_sameShape_0.2.2.2.2.2.2.2.2.2.2.2.1
theorem dX2_sameShape_22 : decode cX2_sameShape 22 = .ok (.getfield 21, 3) := dg_X2_sameShape_0.2.2.2.2.2.2.2.2.2.2.2.2.1
theorem dX2_sameShape_25 : decode cX2_sameShape 25 = .ok (.getfield 37, 3) := dg_X2_sameShape_0.2.2.2.2.2.2.2.2.2.2.2.2.2.1
theorem dX2_sameShape_28 : decode cX2_sameShape 28 = .ok (.iload_n 1, 1) := dg_X2_sameShape_0.2.2.2.2.2.2.2.2.2.2.2.2.2.2.1
theorem dX2_sameShape_29 : decode cX2_sameShape 29 = .ok (.iaload, 1) := dg_X2_sameShape_0.2.2.2.2.2.2.2.2.2.2.2.2.2.2.2
theorem dg_X2_sameShape_30 : (decode cX2_sameShape 30 = .ok (.aload_n 0, 1)) ∧ (decode cX2_sameShape 31 = .ok (.getfield 21, 3)) ∧ (decode cX2_sameShape 34 = .ok (.getfield 37, 3)) ∧ (decode cX2_sameShape 37 = .ok (.iload_n 2, 1)) ∧ (decode cX2_sameShape 38 = .ok (.iaload, 1)) ∧ (decode cX2_sameShape 39 = .ok (.if_icmp .ne 28, 3)) ∧ (decode cX2_sameShape 42 = .ok (.aload_n 0, 1)) ∧ (decode cX2_sameShape 43 = .ok (.getfield 21, 3)) ∧ (decode cX2_sameShape 46 = .ok (.getfield 42, 3)) ∧ (decode cX2_sameShape 49 = .ok (.iload_n 1, 1)) ∧ (decode cX2_sameShape 50 = .ok (.iaload, 1)) ∧ (decode cX2_sameShape 51 = .ok (.aload_n 0, 1)) ∧ (decode cX2_sameShape 52 = .ok (.getfield 21, 3)) ∧ (decode cX2_sameShape 55 = .ok (.getfield 42, 3)) ∧ (decode cX2_sameShape 58 = .ok (.iload_n 2, 1)) ∧ (decode cX2_sameShape 59 = .ok (.iaload, 1)) := by decide +kernel
theorem dX2_sameShape_30 : decode cX2_sameShape 30 = .ok (.aload_n 0, 1) := dg_X2_sameShape_30.1
theorem dX2_sameShape_31 : decode cX2_sameShape 31 = .ok (.getfield 21, 3) := dg_X2_sameShape_30.2.1
theorem dX2_sameShape_34 : decode cX2_sameShape 34 = .ok (.getfield 37, 3) := dg_X2_sameShape_30.2.2.1
theorem dX2_sameShape_37 : decode cX2_sameShape 37 = .ok (.iload_n 2, 1) := dg_X2_sameShape_30.2.2.2.1
theorem dX2_sameShape_38 : decode cX2_sameShape 38 = .ok (.iaload, 1) := dg_X2_sameShape_30.2.2.2.2.1
theorem dX2_sameShape_39 : decode cX2_sameShape 39 = .ok (.if_icmp .ne 28, 3) := dg_X2_sameShape_30.2.2.2.2.2.1
theorem dX2_sameShape_42 : decode cX2_sameShape 42 = .ok (.aload_n 0, 1) := dg_X2_sameShape_30.2.2.2.2.2.2.1
theorem dX2_sameShape_43 : decode cX2_sameShape 43 = .ok (.getfield 21, 3) := dg_X2_sameShape_30.2.2.2.2.2.2.2.1
theorem dX2_sameShape_46 : decode cX2_sameShape 46 = .ok (.getfield 42, 3) := dg_X2_sameShape_30.2.2.2.2.2.2.2.2.1
theorem dX2_sameShape_49 : decode cX2_sameShape 49 = .ok (.iload_n 1, 1) := dg_X2_sameShape_30.2.2.2.2.2.2.2.2.2.1
theorem dX2_sameShape_50 : decode cX2_sameShape 50 = .ok (.iaload, 1) := dg_X2_sameShape_30.2.2.2.2.2.2.2.2.2.2.1
theorem dX2_sameShape_51 : decode cX2_sameShape 51 = .ok (.aload_n 0, 1) := dg_X2_sameShape_30.2.2.2.2.2.2.2.2.2.2.2.1
theorem dX2_sameShape_52 : decode cX2_sameShape 52 = .ok (.getfield 21, 3) := dg_X2_sameShape_30.2.2.2.2.2.2.2.2.2.2.2.2.1
theorem dX2_sameShape_55 : decode cX2_sameShape 55 = .ok (.getfield 42, 3) := dg_X2_sameShape_30.2.2.2.2.2.2.2.2.2.2.2.2.2.1
theorem dX2_sameShape_58 : decode cX2_sameShape 58 = .ok (.iload_n 2, 1) := dg_X2_sameShape_30.2.2.2.2.2.2.2.2.2.2.2.2.2.2.1
theorem dX2_sameShape_59 : decode cX2_sameShape 59 = .ok (.iaload, 1) := dg_X2_sameShape_30.2.2.2.2.2.2.2.2.2.2.2.2.2.2.2
theorem dg_X2_sameShape_60 : (decode cX2_sameShape 60 = .ok (.if_icmp .ne 7, 3)) ∧ (decode cX2_sameShape 63 = .ok (.iconst 1, 1)) ∧ (decode cX2_sameShape 64 = .ok (.goto 4, 3)) ∧ (decode cX2_sameShape 67 = .ok (.iconst 0, 1)) ∧ (decode cX2_sameShape 68 = .ok (.ireturn, 1)) := by decide +kernel
theorem dX2_sameShape_60 : decode cX2_sameShape 60 = .ok (.if_icmp .ne 7, 3) := dg_X2_sameShape_60.1
theorem dX2_sameShape_63 : decode cX2_sameShape 63 = .ok (.iconst 1, 1) := dg_X2_sameShape_60.2.1
theorem dX2_sameShape_64 : decode cX2_sameShape 64 = .ok (.goto 4, 3) := dg_X2_sameShape_60.2.2.1
theorem dX2_sameShape_67 : decode cX2_sameShape 67 = .ok (.iconst 0, 1) := dg_X2_sameShape_60.2.2.2.1
theorem dX2_sameShape_68 : decode cX2_sameShape 68 = .ok (.ireturn, 1) := dg_X2_sameShape_60.2.2.2.2
theorem zf_X2_21 : zz_f RX2 21 1 0 := ⟨RX2, TX2, 5, rfl, zi_X2, by decide, zk_115⟩
theorem zk_33 : Cond.fieldLink RX2 59 RX6 "kind" "[I" ∈ zz_w := zz_in (List.mem_append_right _ (List.mem_append_left _ (List.mem_of_getElem? (i := 33) (by decide +kernel)))) rfl
theorem zf_X2_59 : zz_f RX2 59 5 2 := ⟨RX6, TX6, 10, rfl, zi_X6, by decide, zk_33⟩
theorem zk_38 : Cond.fieldLink RX2 37 RX6 "depth" "[I" ∈ zz_w := zz_in (List.mem_append_right _ (List.mem_append_left _ (List.mem_of_getElem? (i := 38) (by decide +kernel)))) rfl
theorem zf_X2_37 : zz_f RX2 37 5 3 := ⟨RX6, TX6, 10, rfl, zi_X6, by decide, zk_38⟩
theorem zk_50 : Cond.fieldLink RX2 42 RX6 "length" "[I" ∈ zz_w := zz_in (List.mem_append_right _ (List.mem_append_left _ (List.mem_of_getElem? (i := 50) (by decide +kernel)))) rfl
theorem zf_X2_42 : zz_f RX2 42 5 6 := ⟨RX6, TX6, 10, rfl, zi_X6, by decide, zk_50⟩
def fn_co_sameShape (kdf : Nat → Int32) (dpf : Nat → Int32) (lnf : Nat → Int32) (a : Nat) (b : Nat) : Int32 := (if (kdf a) = (kdf b) then (if (dpf a) = (dpf b) then (if (lnf a) = (lnf b) then 1 else 0) else 0) else 0)
abbrev rm_co_sameShape : Room := { frames := 0, cells := 0, slots := 0, locals := 0 }
abbrev po_co_sameShape (g : zz_G) (lk : Nat) (l_ag : Nat) (l_dg : Nat) (l_ds : Nat) (st : Nat) (kd : Nat) (dp : Nat) (cl : Nat) (sa : Nat) (ln : Nat) (bt : Nat) (pn : Nat) (bf : Nat) (na : Nat) (nu : Nat) (rd : Int32) (kdf : Nat → Int32) (dpf : Nat → Int32) (lnf : Nat → Int32) (a : Nat) (b : Nat) (h_60 : a < 60 ∧ b < 60) : Int32 → va_W → Prop := fun (r : Int32) (u : va_W) => r = fn_co_sameShape kdf dpf lnf a b ∧ u = [cw_k1 lk st rd l_ag l_dg l_ds, cw_k5 st (nI na) (nI nu) kd dp cl sa ln bt pn bf, cw_i g kd 60 kdf, cw_i g dp 60 dpf, cw_i g ln 60 lnf]
set_option maxHeartbeats 4000000 in
set_option maxRecDepth 100000 in
theorem co_sameShape (g : zz_G) (lk : Nat) (l_ag : Nat) (l_dg : Nat) (l_ds : Nat) (st : Nat) (kd : Nat) (dp : Nat) (cl : Nat) (sa : Nat) (ln : Nat) (bt : Nat) (pn : Nat) (bf : Nat) (na : Nat) (nu : Nat) (rd : Int32) (kdf : Nat → Int32) (dpf : Nat → Int32) (lnf : Nat → Int32) (a : Nat) (b : Nat) (h_60 : a < 60 ∧ b < 60) : zz_I g yX2_sameShape (.code yX2_sameShape cX2_sameShape 3 (some .boolean)) rm_co_sameShape [.ref lk, .int (nI a), .int (nI b)] [cw_k1 lk st rd l_ag l_dg l_ds, cw_k5 st (nI na) (nI nu) kd dp cl sa ln bt pn bf, cw_i g kd 60 kdf, cw_i g dp 60 dpf, cw_i g ln 60 lnf] (po_co_sameShape g lk l_ag l_dg l_ds st kd dp cl sa ln bt pn bf na nu rd kdf dpf lnf a b h_60) := by
  refine zz_I.intro (own := RX2) (cc := cX2_sameShape) (nL := 3) (by decide) rfl (Nat.le_of_ble_eq_true rfl) ?_
  intro p l e s m args below meth c A H locs ls hC hnm hs hZ hl
  obtain ⟨hx, hb, hml, hown, hts, hr, hlocks, hK⟩ := id hC
  have hl : lv_has ls 3 [(0, .ref lk), (1, .int (nI a)), (2, .int (nI b))] := hl
  have hZ : zz_Z g A s.heap [cw_k1 lk st rd l_ag l_dg l_ds, cw_k5 st (nI na) (nI nu) kd dp cl sa ln bt pn bf, cw_i g kd 60 kdf, cw_i g dp 60 dpf, cw_i g ln 60 lnf] H locs := hZ
  refine lv_aload_n hx hb dX2_sameShape_0 rfl (lv_at hl 0 rfl) ?_
  refine zz_get hC hZ 0 rfl zf_X2_21 rfl dX2_sameShape_1 ?_
  refine zz_get hC hZ 1 rfl zf_X2_59 rfl dX2_sameShape_4 ?_
  refine lv_iload_n hx hb dX2_sameShape_7 rfl (lv_at hl 1 rfl) ?_
  refine zz_iald hC hZ 2 rfl (vp_in_nI (by omega) (by decide)) dX2_sameShape_8 ?_
  rw [nI_clamp (n := a) (by omega)]
  refine lv_aload_n hx hb dX2_sameShape_9 rfl (lv_at hl 0 rfl) ?_
  refine zz_get hC hZ 0 rfl zf_X2_21 rfl dX2_sameShape_10 ?_
  refine zz_get hC hZ 1 rfl zf_X2_59 rfl dX2_sameShape_13 ?_
  refine lv_iload_n hx hb dX2_sameShape_16 rfl (lv_at hl 2 rfl) ?_
  refine zz_iald hC hZ 2 rfl (vp_in_nI (by omega) (by decide)) dX2_sameShape_17 ?_
  rw [nI_clamp (n := b) (by omega)]
  refine lv_icmp_ne (tgt := 67) hx hb dX2_sameShape_18 (by decide) (fun c1 => ?_) (fun c1 => ?_)
  · refine lv_iconst (v := 0) hx hb dX2_sameShape_67 (by decide) ?_
    exact zz_zret hC hZ (by decide) (⟨by show _ = _; rw [fn_co_sameShape, if_neg c1], rfl⟩) (Nat.le_of_ble_eq_true rfl) (Nat.le_of_ble_eq_true rfl) dX2_sameShape_68
  · refine lv_aload_n hx hb dX2_sameShape_21 rfl (lv_at hl 0 rfl) ?_
    refine zz_get hC hZ 0 rfl zf_X2_21 rfl dX2_sameShape_22 ?_
    refine zz_get hC hZ 1 rfl zf_X2_37 rfl dX2_sameShape_25 ?_
    refine lv_iload_n hx hb dX2_sameShape_28 rfl (lv_at hl 1 rfl) ?_
    refine zz_iald hC hZ 3 rfl (vp_in_nI (by omega) (by decide)) dX2_sameShape_29 ?_
    rw [nI_clamp (n := a) (by omega)]
    refine lv_aload_n hx hb dX2_sameShape_30 rfl (lv_at hl 0 rfl) ?_
    refine zz_get hC hZ 0 rfl zf_X2_21 rfl dX2_sameShape_31 ?_
    refine zz_get hC hZ 1 rfl zf_X2_37 rfl dX2_sameShape_34 ?_
    refine lv_iload_n hx hb dX2_sameShape_37 rfl (lv_at hl 2 rfl) ?_
    refine zz_iald hC hZ 3 rfl (vp_in_nI (by omega) (by decide)) dX2_sameShape_38 ?_
    rw [nI_clamp (n := b) (by omega)]
    refine lv_icmp_ne (tgt := 67) hx hb dX2_sameShape_39 (by decide) (fun c2 => ?_) (fun c2 => ?_)
    · refine lv_iconst (v := 0) hx hb dX2_sameShape_67 (by decide) ?_
      exact zz_zret hC hZ (by decide) (⟨by show _ = _; rw [fn_co_sameShape, if_pos c1, if_neg c2], rfl⟩) (Nat.le_of_ble_eq_true rfl) (Nat.le_of_ble_eq_true rfl) dX2_sameShape_68
    · refine lv_aload_n hx hb dX2_sameShape_42 rfl (lv_at hl 0 rfl) ?_
      refine zz_get hC hZ 0 rfl zf_X2_21 rfl dX2_sameShape_43 ?_
      refine zz_get hC hZ 1 rfl zf_X2_42 rfl dX2_sameShape_46 ?_
      refine lv_iload_n hx hb dX2_sameShape_49 rfl (lv_at hl 1 rfl) ?_
      refine zz_iald hC hZ 4 rfl (vp_in_nI (by omega) (by decide)) dX2_sameShape_50 ?_
      rw [nI_clamp (n := a) (by omega)]
      refine lv_aload_n hx hb dX2_sameShape_51 rfl (lv_at hl 0 rfl) ?_
      refine zz_get hC hZ 0 rfl zf_X2_21 rfl dX2_sameShape_52 ?_
      refine zz_get hC hZ 1 rfl zf_X2_42 rfl dX2_sameShape_55 ?_
      refine lv_iload_n hx hb dX2_sameShape_58 rfl (lv_at hl 2 rfl) ?_
      refine zz_iald hC hZ 4 rfl (vp_in_nI (by omega) (by decide)) dX2_sameShape_59 ?_
      rw [nI_clamp (n := b) (by omega)]
      refine lv_icmp_ne (tgt := 67) hx hb dX2_sameShape_60 (by decide) (fun c3 => ?_) (fun c3 => ?_)
      · refine lv_iconst (v := 0) hx hb dX2_sameShape_67 (by decide) ?_
        exact zz_zret hC hZ (by decide) (⟨by show _ = _; rw [fn_co_sameShape, if_pos c1, if_pos c2, if_neg c3], rfl⟩) (Nat.le_of_ble_eq_true rfl) (Nat.le_of_ble_eq_true rfl) dX2_sameShape_68
      · refine lv_iconst (v := 1) hx hb dX2_sameShape_63 (by decide) ?_
        refine lv_goto (tgt := 68) hx hb dX2_sameShape_64 (by decide) ?_
        exact zz_zret hC hZ (by decide) (⟨by show _ = _; rw [fn_co_sameShape, if_pos c1, if_pos c2, if_pos c3], rfl⟩) (Nat.le_of_ble_eq_true rfl) (Nat.le_of_ble_eq_true rfl) dX2_sameShape_68
theorem zl_shape {kdf dpf lnf : Nat → Int32} {a b : Nat} (h : ¬ fn_co_sameShape kdf dpf lnf a b = 0) : lnf a = lnf b := by
  unfold fn_co_sameShape at h
  by_cases h1 : kdf a = kdf b
  · by_cases h2 : dpf a = dpf b
    · by_cases h3 : lnf a = lnf b
      · exact h3
      · rw [if_pos h1, if_pos h2, if_neg h3] at h; exact absurd rfl h
    · rw [if_pos h1, if_neg h2] at h; exact absurd rfl h
  · rw [if_neg h1] at h; exact absurd rfl h
theorem dg_X2_agreeAt_0 : (decode cX2_agreeAt 0 = .ok (.iload_n 1, 1)) ∧ (decode cX2_agreeAt 1 = .ok (.iload_n 2, 1)) ∧ (decode cX2_agreeAt 2 = .ok (.if_icmp .eq 21, 3)) ∧ (decode cX2_agreeAt 5 = .ok (.aload_n 0, 1)) ∧ (decode cX2_agreeAt 6 = .ok (.getfield 9, 3)) ∧ (decode cX2_agreeAt 9 = .ok (.iload_n 1, 1)) ∧ (decode cX2_agreeAt 10 = .ok (.bipush 60, 2)) ∧ (decode cX2_agreeAt 12 = .ok (.imul, 1)) ∧ (decode cX2_agreeAt 13 = .ok (.iload_n 2, 1)) ∧ (decode cX2_agreeAt 14 = .ok (.iadd, 1)) ∧ (decode cX2_agreeAt 15 = .ok (.iaload, 1)) ∧ (decode cX2_agreeAt 16 = .ok (.aload_n 0, 1)) ∧ (decode cX2_agreeAt 17 = .ok (.getfield 25, 3)) ∧ (decode cX2_agreeAt 20 = .ok (.if_icmp .ne 5, 3)) ∧ (decode cX2_agreeAt 23 = .ok (.iconst 1, 1)) ∧ (decode cX2_agreeAt 24 = .ok (.ireturn, 1)) := by decide +kernel
theorem dX2_agreeAt_0 : decode cX2_agreeAt 0 = .ok (.iload_n 1, 1) := dg_X2_agreeAt_0.1
theorem dX2_agreeAt_1 : decode cX2_agreeAt 1 = .ok (.iload_n 2, 1) := dg_X2_agreeAt_0.2.1
theorem dX2_agreeAt_2 : decode cX2_agreeAt 2 = .ok (.if_icmp .eq 21, 3) := dg_X2_agreeAt_0.2.2.1
theorem dX2_agreeAt_5 : decode cX2_agreeAt 5 = .ok (.aload_n 0, 1) := dg_X2_agreeAt_0.2.2.2.1
theorem dX2_agreeAt_6 : decode cX2_agreeAt 6 = .ok (.getfield 9, 3) := dg_X2_agreeAt_0.2.2.2.2.1
theorem dX2_agreeAt_9 : decode cX2_agreeAt 9 = .ok (.iload_n 1, 1) := dg_X2_agreeAt_0.2.2.2.2.2.1
theorem dX2_agreeAt_10 : decode cX2_agreeAt 10 = .ok (.bipush 60, 2) := dg_X2_agreeAt_0.2.2.2.2.2.2.1
theorem dX2_agreeAt_12 : decode cX2_agreeAt 12 = .ok (.imul, 1) := dg_X2_agreeAt_0.2.2.2.2.2.2.2.1
theorem dX2_agreeAt_13 : decode cX2_agreeAt 13 = .ok (.iload_n 2, 1) := dg_X2_agreeAt_0.2.2.2.2.2.2.2.2.1
theorem dX2_agreeAt_14 : decode cX2_agreeAt 14 = .ok (.iadd, 1) := dg_X2_agreeAt_0.2.2.2.2.2.2.2.2.2.1
theorem dX2_agreeAt_15 : decode cX2_agreeAt 15 = .ok (.iaload, 1) := dg_X2_agreeAt_0.2.2.2.2.2.2.2.2.2.2.1
theorem dX2_agreeAt_16 : decode cX2_agreeAt 16 = .ok (.aload_n 0, 1) := dg_X2_agreeAt_0.2.2.2.2.2.2.2.2.2.2.2.1
theorem dX2_agreeAt_17 : decode cX2_agreeAt 17 = .ok (.getfield 25, 3) := dg_X2_agreeAt_0.2.2.2.2.2.2.2.2.2.2.2.2.1
theorem dX2_agreeAt_20 : decode cX2_agreeAt 20 = .ok (.if_icmp .ne 5, 3) := dg_X2_agreeAt_0.2.2.2.2.2.2.2.2.2.2.2.2.2.1
theorem dX2_agreeAt_23 : decode cX2_agreeAt 23 = .ok (.iconst 1, 1) := dg_X2_agreeAt_0.2.2.2.2.2.2.2.2.2.2.2.2.2.2.1
theorem dX2_agreeAt_24 : decode cX2_agreeAt 24 = .ok (.ireturn, 1) := dg_X2_agreeAt_0.2.2.2.2.2.2.2.2.2.2.2.2.2.2.2
theorem dg_X2_agreeAt_25 : (decode cX2_agreeAt 25 = .ok (.iload_n 3, 1)) ∧ (decode cX2_agreeAt 26 = .ok (.iconst 4, 1)) ∧ (decode cX2_agreeAt 27 = .ok (.if_icmp .gt 12, 3)) ∧ (decode cX2_agreeAt 30 = .ok (.aload_n 0, 1)) ∧ (decode cX2_agreeAt 31 = .ok (.iload_n 1, 1)) ∧ (decode cX2_agreeAt 32 = .ok (.iload_n 2, 1)) ∧ (decode cX2_agreeAt 33 = .ok (.invokevirtual 33, 3)) ∧ (decode cX2_agreeAt 36 = .ok (.ifCond .ne 5, 3)) ∧ (decode cX2_agreeAt 39 = .ok (.iconst 0, 1)) ∧ (decode cX2_agreeAt 40 = .ok (.ireturn, 1)) ∧ (decode cX2_agreeAt 41 = .ok (.aload_n 0, 1)) ∧ (decode cX2_agreeAt 42 = .ok (.getfield 21, 3)) ∧ (decode cX2_agreeAt 45 = .ok (.getfield 37, 3)) ∧ (decode cX2_agreeAt 48 = .ok (.iload_n 1, 1)) ∧ (decode cX2_agreeAt 49 = .ok (.iaload, 1)) ∧ (decode cX2_agreeAt 50 = .ok (.iconst 1, 1)) := by decide +kernel
theorem dX2_agreeAt_25 : decode cX2_agreeAt 25 = .ok (.iload_n 3, 1) := dg_X2_agreeAt_25.1
theorem dX2_agreeAt_26 : decode cX2_agreeAt 26 = .ok (.iconst 4, 1) := dg_X2_agreeAt_25.2.1
theorem dX2_agreeAt_27 : decode cX2_agreeAt 27 = .ok (.if_icmp .gt 12, 3) := dg_X2_agreeAt_25.2.2.1
theorem dX2_agreeAt_30 : decode cX2_agreeAt 30 = .ok (.aload_n 0, 1) := dg_X2_agreeAt_25.2.2.2.1
theorem dX2_agreeAt_31 : decode cX2_agreeAt 31 = .ok (.iload_n 1, 1) := dg_X2_agreeAt_25.2.2.2.2.1
theorem dX2_agreeAt_32 : decode cX2_agreeAt 32 = .ok (.iload_n 2, 1) := dg_X2_agreeAt_25.2.2.2.2.2.1
theorem dX2_agreeAt_33 : decode cX2_agreeAt 33 = .ok (.invokevirtual 33, 3) := dg_X2_agreeAt_25.2.2.2.2.2.2.1
theorem dX2_agreeAt_36 : decode cX2_agreeAt 36 = .ok (.ifCond .ne 5, 3) := dg_X2_agreeAt_25.2.2.2.2.2.2.2.1
theorem dX2_agreeAt_39 : decode cX2_agreeAt 39 = .ok (.iconst 0, 1) := dg_X2_agreeAt_25.2.2.2.2.2.2.2.2.1
theorem dX2_agreeAt_40 : decode cX2_agreeAt 40 = .ok (.ireturn, 1) := dg_X2_agreeAt_25.2.2.2.2.2.2.2.2.2.1
theorem dX2_agreeAt_41 : decode cX2_agreeAt 41 = .ok (.aload_n 0, 1) := dg_X2_agreeAt_25.2.2.2.2.2.2.2.2.2.2.1
theorem dX2_agreeAt_42 : decode cX2_agreeAt 42 = .ok (.getfield 21, 3) := dg_X2_agreeAt_25.2.2.2.2.2.2.2.2.2.2.2.1
theorem dX2_agreeAt_45 : decode cX2_agreeAt 45 = .ok (.getfield 37, 3) := dg_X2_agreeAt_25.2.2.2.2.2.2.2.2.2.2.2.2.1
theorem dX2_agreeAt_48 : decode cX2_agreeAt 48 = .ok (.iload_n 1, 1) := dg_X2_agreeAt_25.2.2.2.2.2.2.2.2.2.2.2.2.2.1
theorem dX2_agreeAt_49 : decode cX2_agreeAt 49 = .ok (.iaload, 1) := dg_X2_agreeAt_25.2.2.2.2.2.2.2.2.2.2.2.2.2.2.1
theorem dX2_agreeAt_50 : decode cX2_agreeAt 50 = .ok (.iconst 1, 1) := dg_X2_agreeAt_25.2.2.2.2.2.2.2.2.2.2.2.2.2.2.2
theorem dg_X2_agreeAt_51 : (decode cX2_agreeAt 51 = .ok (.if_icmp .ne 7, 3)) ∧ (decode cX2_agreeAt 54 = .ok (.iconst 1, 1)) ∧ (decode cX2_agreeAt 55 = .ok (.goto 4, 3)) ∧ (decode cX2_agreeAt 58 = .ok (.iconst 0, 1)) ∧ (decode cX2_agreeAt 59 = .ok (.istore 4, 2)) ∧ (decode cX2_agreeAt 61 = .ok (.iconst 0, 1)) ∧ (decode cX2_agreeAt 62 = .ok (.istore 5, 2)) ∧ (decode cX2_agreeAt 64 = .ok (.iload 5, 2)) ∧ (decode cX2_agreeAt 66 = .ok (.aload_n 0, 1)) ∧ (decode cX2_agreeAt 67 = .ok (.getfield 21, 3)) ∧ (decode cX2_agreeAt 70 = .ok (.getfield 42, 3)) ∧ (decode cX2_agreeAt 73 = .ok (.iload_n 1, 1)) ∧ (decode cX2_agreeAt 74 = .ok (.iaload, 1)) ∧ (decode cX2_agreeAt 75 = .ok (.if_icmp .ge 82, 3)) ∧ (decode cX2_agreeAt 78 = .ok (.aload_n 0, 1)) ∧ (decode cX2_agreeAt 79 = .ok (.getfield 21, 3)) := by decide +kernel
theorem dX2_agreeAt_51 : decode cX2_agreeAt 51 = .ok (.if_icmp .ne 7, 3) := dg_X2_agreeAt_51.1
theorem dX2_agreeAt_54 : decode cX2_agreeAt 54 = .ok (.iconst 1, 1) := dg_X2_agreeAt_51.2.1
theorem dX2_agreeAt_55 : decode cX2_agreeAt 55 = .ok (.goto 4, 3) := dg_X2_agreeAt_51.2.2.1
theorem dX2_agreeAt_58 : decode cX2_agreeAt 58 = .ok (.iconst 0, 1) := dg_X2_agreeAt_51.2.2.2.1
theorem dX2_agreeAt_59 : decode cX2_agreeAt 59 = .ok (.istore 4, 2) := dg_X2_agreeAt_51.2.2.2.2.1
theorem dX2_agreeAt_61 : decode cX2_agreeAt 61 = .ok (.iconst 0, 1) := dg_X2_agreeAt_51.2.2.2.2.2.1
theorem dX2_agreeAt_62 : decode cX2_agreeAt 62 = .ok (.istore 5, 2) := dg_X2_agreeAt_51.2.2.2.2.2.2.1
theorem dX2_agreeAt_64 : decode cX2_agreeAt 64 = .ok (.iload 5, 2) := dg_X2_agreeAt_51.2.2.2.2.2.2.2.1
theorem dX2_agreeAt_66 : decode cX2_agreeAt 66 = .ok (.aload_n 0, 1) := dg_X2_agreeAt_51.2.2.2.2.2.2.2.2.1
theorem dX2_agreeAt_67 : decode cX2_agreeAt 67 = .ok (.getfield 21, 3) := dg_X2_agreeAt_51.2.2.2.2.2.2.2.2.2.1
theorem dX2_agreeAt_70 : decode cX2_agreeAt 70 = .ok (.getfield 42, 3) := dg_X2_agreeAt_51.2.2.2.2.2.2.2.2.2.2.1
theorem dX2_agreeAt_73 : decode cX2_agreeAt 73 = .ok (.iload_n 1, 1) := dg_X2_agreeAt_51.2.2.2.2.2.2.2.2.2.2.2.1
theorem dX2_agreeAt_74 : decode cX2_agreeAt 74 = .ok (.iaload, 1) := dg_X2_agreeAt_51.2.2.2.2.2.2.2.2.2.2.2.2.1
theorem dX2_agreeAt_75 : decode cX2_agreeAt 75 = .ok (.if_icmp .ge 82, 3) := dg_X2_agreeAt_51.2.2.2.2.2.2.2.2.2.2.2.2.2.1
theorem dX2_agreeAt_78 : decode cX2_agreeAt 78 = .ok (.aload_n 0, 1) := dg_X2_agreeAt_51.2.2.2.2.2.2.2.2.2.2.2.2.2.2.1
theorem dX2_agreeAt_79 : decode cX2_agreeAt 79 = .ok (.getfield 21, 3) := dg_X2_agreeAt_51.2.2.2.2.2.2.2.2.2.2.2.2.2.2.2
theorem dg_X2_agreeAt_82 : (decode cX2_agreeAt 82 = .ok (.getfield 45, 3)) ∧ (decode cX2_agreeAt 85 = .ok (.aload_n 0, 1)) ∧ (decode cX2_agreeAt 86 = .ok (.getfield 21, 3)) ∧ (decode cX2_agreeAt 89 = .ok (.getfield 49, 3)) ∧ (decode cX2_agreeAt 92 = .ok (.iload_n 1, 1)) ∧ (decode cX2_agreeAt 93 = .ok (.iaload, 1)) ∧ (decode cX2_agreeAt 94 = .ok (.iload 5, 2)) ∧ (decode cX2_agreeAt 96 = .ok (.iadd, 1)) ∧ (decode cX2_agreeAt 97 = .ok (.laload, 1)) ∧ (decode cX2_agreeAt 98 = .ok (.lstore 6, 2)) ∧ (decode cX2_agreeAt 100 = .ok (.aload_n 0, 1)) ∧ (decode cX2_agreeAt 101 = .ok (.getfield 21, 3)) ∧ (decode cX2_agreeAt 104 = .ok (.getfield 45, 3)) ∧ (decode cX2_agreeAt 107 = .ok (.aload_n 0, 1)) ∧ (decode cX2_agreeAt 108 = .ok (.getfield 21, 3)) ∧ (decode cX2_agreeAt 111 = .ok (.getfield 49, 3)) := by decide +kernel
theorem dX2_agreeAt_82 : decode cX2_agreeAt 82 = .ok (.getfield 45, 3) := dg_X2_agreeAt_82.1
theorem dX2_agreeAt_85 : decode cX2_agreeAt 85 = .ok (.aload_n 0, 1) := dg_X2_agreeAt_82.2.1
theorem dX2_agreeAt_86 : decode cX2_agreeAt 86 = .ok (.getfield 21, 3) := dg_X2_agreeAt_82.2.2.1
theorem dX2_agreeAt_89 : decode cX2_agreeAt 89 = .ok (.getfield 49, 3) := dg_X2_agreeAt_82.2.2.2.1
theorem dX2_agreeAt_92 : decode cX2_agreeAt 92 = .ok (.iload_n 1, 1) := dg_X2_agreeAt_82.2.2.2.2.1
theorem dX2_agreeAt_93 : decode cX2_agreeAt 93 = .ok (.iaload, 1) := dg_X2_agreeAt_82.2.2.2.2.2.1
theorem dX2_agreeAt_94 : decode cX2_agreeAt 94 = .ok (.iload 5, 2) := dg_X2_agreeAt_82.2.2.2.2.2.2.1
theorem dX2_agreeAt_96 : decode cX2_agreeAt 96 = .ok (.iadd, 1) := dg_X2_agreeAt_82.2.2.2.2.2.2.2.1
theorem dX2_agreeAt_97 : decode cX2_agreeAt 97 = .ok (.laload, 1) := dg_X2_agreeAt_82.2.2.2.2.2.2.2.2.1
theorem dX2_agreeAt_98 : decode cX2_agreeAt 98 = .ok (.lstore 6, 2) := dg_X2_agreeAt_82.2.2.2.2.2.2.2.2.2.1
theorem dX2_agreeAt_100 : decode cX2_agreeAt 100 = .ok (.aload_n 0, 1) := dg_X2_agreeAt_82.2.2.2.2.2.2.2.2.2.2.1
theorem dX2_agreeAt_101 : decode cX2_agreeAt 101 = .ok (.getfield 21, 3) := dg_X2_agreeAt_82.2.2.2.2.2.2.2.2.2.2.2.1
theorem dX2_agreeAt_104 : decode cX2_agreeAt 104 = .ok (.getfield 45, 3) := dg_X2_agreeAt_82.2.2.2.2.2.2.2.2.2.2.2.2.1
theorem dX2_agreeAt_107 : decode cX2_agreeAt 107 = .ok (.aload_n 0, 1) := dg_X2_agreeAt_82.2.2.2.2.2.2.2.2.2.2.2.2.2.1
theorem dX2_agreeAt_108 : decode cX2_agreeAt 108 = .ok (.getfield 21, 3) := dg_X2_agreeAt_82.2.2.2.2.2.2.2.2.2.2.2.2.2.2.1
theorem dX2_agreeAt_111 : decode cX2_agreeAt 111 = .ok (.getfield 49, 3) := dg_X2_agreeAt_82.2.2.2.2.2.2.2.2.2.2.2.2.2.2.2
theorem dg_X2_agreeAt_114 : (decode cX2_agreeAt 114 = .ok (.iload_n 2, 1)) ∧ (decode cX2_agreeAt 115 = .ok (.iaload, 1)) ∧ (decode cX2_agreeAt 116 = .ok (.iload 5, 2)) ∧ (decode cX2_agreeAt 118 = .ok (.iadd, 1)) ∧ (decode cX2_agreeAt 119 = .ok (.laload, 1)) ∧ (decode cX2_agreeAt 120 = .ok (.lstore 8, 2)) ∧ (decode cX2_agreeAt 122 = .ok (.lload 6, 2)) ∧ (decode cX2_agreeAt 124 = .ok (.lload 8, 2)) ∧ (decode cX2_agreeAt 126 = .ok (.lcmp, 1)) ∧ (decode cX2_agreeAt 127 = .ok (.ifCond .eq 24, 3)) ∧ (decode cX2_agreeAt 130 = .ok (.iload 4, 2)) ∧ (decode cX2_agreeAt 132 = .ok (.ifCond .ne 17, 3)) ∧ (decode cX2_agreeAt 135 = .ok (.aload_n 0, 1)) ∧ (decode cX2_agreeAt 136 = .ok (.lload 6, 2)) ∧ (decode cX2_agreeAt 138 = .ok (.l2i, 1)) ∧ (decode cX2_agreeAt 139 = .ok (.lload 8, 2)) := by decide +kernel
theorem dX2_agreeAt_114 : decode cX2_agreeAt 114 = .ok (.iload_n 2, 1) := dg_X2_agreeAt_114.1
theorem dX2_agreeAt_115 : decode cX2_agreeAt 115 = .ok (.iaload, 1) := dg_X2_agreeAt_114.2.1
theorem dX2_agreeAt_116 : decode cX2_agreeAt 116 = .ok (.iload 5, 2) := dg_X2_agreeAt_114.2.2.1
theorem dX2_agreeAt_118 : decode cX2_agreeAt 118 = .ok (.iadd, 1) := dg_X2_agreeAt_114.2.2.2.1
theorem dX2_agreeAt_119 : decode cX2_agreeAt 119 = .ok (.laload, 1) := dg_X2_agreeAt_114.2.2.2.2.1
theorem dX2_agreeAt_120 : decode cX2_agreeAt 120 = .ok (.lstore 8, 2) := dg_X2_agreeAt_114.2.2.2.2.2.1
theorem dX2_agreeAt_122 : decode cX2_agreeAt 122 = .ok (.lload 6, 2) := dg_X2_agreeAt_114.2.2.2.2.2.2.1
theorem dX2_agreeAt_124 : decode cX2_agreeAt 124 = .ok (.lload 8, 2) := dg_X2_agreeAt_114.2.2.2.2.2.2.2.1
theorem dX2_agreeAt_126 : decode cX2_agreeAt 126 = .ok (.lcmp, 1) := dg_X2_agreeAt_114.2.2.2.2.2.2.2.2.1
theorem dX2_agreeAt_127 : decode cX2_agreeAt 127 = .ok (.ifCond .eq 24, 3) := dg_X2_agreeAt_114.2.2.2.2.2.2.2.2.2.1
theorem dX2_agreeAt_130 : decode cX2_agreeAt 130 = .ok (.iload 4, 2) := dg_X2_agreeAt_114.2.2.2.2.2.2.2.2.2.2.1
theorem dX2_agreeAt_132 : decode cX2_agreeAt 132 = .ok (.ifCond .ne 17, 3) := dg_X2_agreeAt_114.2.2.2.2.2.2.2.2.2.2.2.1
theorem dX2_agreeAt_135 : decode cX2_agreeAt 135 = .ok (.aload_n 0, 1) := dg_X2_agreeAt_114.2.2.2.2.2.2.2.2.2.2.2.2.1
theorem dX2_agreeAt_136 : decode cX2_agreeAt 136 = .ok (.lload 6, 2) := dg_X2_agreeAt_114.2.2.2.2.2.2.2.2.2.2.2.2.2.1
theorem dX2_agreeAt_138 : decode cX2_agreeAt 138 = .ok (.l2i, 1) := dg_X2_agreeAt_114.2.2.2.2.2.2.2.2.2.2.2.2.2.2.1
theorem dX2_agreeAt_139 : decode cX2_agreeAt 139 = .ok (.lload 8, 2) := dg_X2_agreeAt_114.2.2.2.2.2.2.2.2.2.2.2.2.2.2.2
theorem dg_X2_agreeAt_141 : (decode cX2_agreeAt 141 = .ok (.l2i, 1)) ∧ (decode cX2_agreeAt 142 = .ok (.iload_n 3, 1)) ∧ (decode cX2_agreeAt 143 = .ok (.invokevirtual 52, 3)) ∧ (decode cX2_agreeAt 146 = .ok (.ifCond .ne 5, 3)) ∧ (decode cX2_agreeAt 149 = .ok (.iconst 0, 1)) ∧ (decode cX2_agreeAt 150 = .ok (.ireturn, 1)) ∧ (decode cX2_agreeAt 151 = .ok (.iinc 5 1, 3)) ∧ (decode cX2_agreeAt 154 = .ok (.goto (-90), 3)) ∧ (decode cX2_agreeAt 157 = .ok (.aload_n 0, 1)) ∧ (decode cX2_agreeAt 158 = .ok (.getfield 9, 3)) ∧ (decode cX2_agreeAt 161 = .ok (.iload_n 1, 1)) ∧ (decode cX2_agreeAt 162 = .ok (.bipush 60, 2)) ∧ (decode cX2_agreeAt 164 = .ok (.imul, 1)) ∧ (decode cX2_agreeAt 165 = .ok (.iload_n 2, 1)) ∧ (decode cX2_agreeAt 166 = .ok (.iadd, 1)) ∧ (decode cX2_agreeAt 167 = .ok (.aload_n 0, 1)) := by decide +kernel
theorem dX2_agreeAt_141 : decode cX2_agreeAt 141 = .ok (.l2i, 1) := dg_X2_agreeAt_141.1
theorem dX2_agreeAt_142 : decode cX2_agreeAt 142 = .ok (.iload_n 3, 1) := dg_X2_agreeAt_141.2.1
theorem dX2_agreeAt_143 : decode cX2_agreeAt 143 = .ok (.invokevirtual 52, 3) := dg_X2_agreeAt_141.2.2.1
theorem dX2_agreeAt_146 : decode cX2_agreeAt 146 = .ok (.ifCond .ne 5, 3) := dg_X2_agreeAt_141.2.2.2.1
theorem dX2_agreeAt_149 : decode cX2_agreeAt 149 = .ok (.iconst 0, 1) := dg_X2_agreeAt_141.2.2.2.2.1
theorem dX2_agreeAt_150 : decode cX2_agreeAt 150 = .ok (.ireturn, 1) := dg_X2_agreeAt_141.2.2.2.2.2.1
theorem dX2_agreeAt_151 : decode cX2_agreeAt 151 = .ok (.iinc 5 1, 3) := dg_X2_agreeAt_141.2.2.2.2.2.2.1
theorem dX2_agreeAt_154 : decode cX2_agreeAt 154 = .ok (.goto (-90), 3) := dg_X2_agreeAt_141.2.2.2.2.2.2.2.1
theorem dX2_agreeAt_157 : decode cX2_agreeAt 157 = .ok (.aload_n 0, 1) := dg_X2_agreeAt_141.2.2.2.2.2.2.2.2.1
theorem dX2_agreeAt_158 : decode cX2_agreeAt 158 = .ok (.getfield 9, 3) := dg_X2_agreeAt_141.2.2.2.2.2.2.2.2.2.1
theorem dX2_agreeAt_161 : decode cX2_agreeAt 161 = .ok (.iload_n 1, 1) := dg_X2_agreeAt_141.2.2.2.2.2.2.2.2.2.2.1
theorem dX2_agreeAt_162 : decode cX2_agreeAt 162 = .ok (.bipush 60, 2) := dg_X2_agreeAt_141.2.2.2.2.2.2.2.2.2.2.2.1
theorem dX2_agreeAt_164 : decode cX2_agreeAt 164 = .ok (.imul, 1) := dg_X2_agreeAt_141.2.2.2.2.2.2.2.2.2.2.2.2.1
theorem dX2_agreeAt_165 : decode cX2_agreeAt 165 = .ok (.iload_n 2, 1) := dg_X2_agreeAt_141.2.2.2.2.2.2.2.2.2.2.2.2.2.1
theorem dX2_agreeAt_166 : decode cX2_agreeAt 166 = .ok (.iadd, 1) := dg_X2_agreeAt_141.2.2.2.2.2.2.2.2.2.2.2.2.2.2.1
theorem dX2_agreeAt_167 : decode cX2_agreeAt 167 = .ok (.aload_n 0, 1) := dg_X2_agreeAt_141.2.2.2.2.2.2.2.2.2.2.2.2.2.2.2
theorem dg_X2_agreeAt_168 : (decode cX2_agreeAt 168 = .ok (.getfield 25, 3)) ∧ (decode cX2_agreeAt 171 = .ok (.iastore, 1)) ∧ (decode cX2_agreeAt 172 = .ok (.iconst 1, 1)) ∧ (decode cX2_agreeAt 173 = .ok (.ireturn, 1)) := by decide +kernel
theorem dX2_agreeAt_168 : decode cX2_agreeAt 168 = .ok (.getfield 25, 3) := dg_X2_agreeAt_168.1
theorem dX2_agreeAt_171 : decode cX2_agreeAt 171 = .ok (.iastore, 1) := dg_X2_agreeAt_168.2.1
theorem dX2_agreeAt_172 : decode cX2_agreeAt 172 = .ok (.iconst 1, 1) := dg_X2_agreeAt_168.2.2.1
theorem dX2_agreeAt_173 : decode cX2_agreeAt 173 = .ok (.ireturn, 1) := dg_X2_agreeAt_168.2.2.2
theorem zf_X2_9 : zz_f RX2 9 1 2 := ⟨RX2, TX2, 5, rfl, zi_X2, by decide, zk_117⟩
theorem zk_116 : Cond.fieldLink RX2 25 RX2 "round" "I" ∈ zz_w := zz_in (List.mem_append_right _ (List.mem_append_left _ (List.mem_of_getElem? (i := 116) (by decide +kernel)))) rfl
theorem zf_X2_25 : zz_f RX2 25 1 1 := ⟨RX2, TX2, 5, rfl, zi_X2, by decide, zk_116⟩
abbrev rm_co_agree5 : Room := { frames := 0, cells := 0, slots := 0, locals := 0 }
abbrev po_co_agree5 (g : zz_G) (lk : Nat) (l_ag : Nat) (l_dg : Nat) (l_ds : Nat) (st : Nat) (kd : Nat) (dp : Nat) (cl : Nat) (sa : Nat) (ln : Nat) (bt : Nat) (pn : Nat) (bf : Nat) (na : Nat) (nu : Nat) (rd : Int32) (kdf : Nat → Int32) (dpf : Nat → Int32) (saf : Nat → Int32) (lnf : Nat → Int32) (btf : Nat → Int64) (agf : Nat → Int32) (a : Nat) (b : Nat) (h_S : zz_SI na nu dpf saf lnf) (h_a : a < na ∧ b < na) : Int32 → va_W → Prop := fun (r : Int32) (u : va_W) => ∃ (ag2 : Nat → Int32), (r = 0 ∨ r = 1) ∧ u = [cw_k1 lk st rd l_ag l_dg l_ds, cw_i g l_ag 3600 ag2, cw_k5 st (nI na) (nI nu) kd dp cl sa ln bt pn bf, cw_i g kd 60 kdf, cw_i g dp 60 dpf, cw_i g sa 60 saf, cw_i g ln 60 lnf, cw_l g bt 4000 btf]
set_option maxHeartbeats 4000000 in
set_option maxRecDepth 100000 in
theorem co_agree5 (g : zz_G) (lk : Nat) (l_ag : Nat) (l_dg : Nat) (l_ds : Nat) (st : Nat) (kd : Nat) (dp : Nat) (cl : Nat) (sa : Nat) (ln : Nat) (bt : Nat) (pn : Nat) (bf : Nat) (na : Nat) (nu : Nat) (rd : Int32) (kdf : Nat → Int32) (dpf : Nat → Int32) (saf : Nat → Int32) (lnf : Nat → Int32) (btf : Nat → Int64) (agf : Nat → Int32) (a : Nat) (b : Nat) (h_S : zz_SI na nu dpf saf lnf) (h_a : a < na ∧ b < na) : zz_I g yX2_agreeAt (.code yX2_agreeAt cX2_agreeAt 10 (some .boolean)) rm_co_agree5 [.ref lk, .int (nI a), .int (nI b), .int 5] [cw_k1 lk st rd l_ag l_dg l_ds, cw_i g l_ag 3600 agf, cw_k5 st (nI na) (nI nu) kd dp cl sa ln bt pn bf, cw_i g kd 60 kdf, cw_i g dp 60 dpf, cw_i g sa 60 saf, cw_i g ln 60 lnf, cw_l g bt 4000 btf] (po_co_agree5 g lk l_ag l_dg l_ds st kd dp cl sa ln bt pn bf na nu rd kdf dpf saf lnf btf agf a b h_S h_a) := by
  refine zz_I.intro (own := RX2) (cc := cX2_agreeAt) (nL := 10) (by decide) rfl (Nat.le_of_ble_eq_true rfl) ?_
  intro p l e s m args below meth c A H locs ls hC hnm hs hZ hl
  obtain ⟨hx, hb, hml, hown, hts, hr, hlocks, hK⟩ := id hC
  have hl : lv_has ls 10 [(0, .ref lk), (1, .int (nI a)), (2, .int (nI b)), (3, .int 5)] := hl
  have hZ : zz_Z g A s.heap [cw_k1 lk st rd l_ag l_dg l_ds, cw_i g l_ag 3600 agf, cw_k5 st (nI na) (nI nu) kd dp cl sa ln bt pn bf, cw_i g kd 60 kdf, cw_i g dp 60 dpf, cw_i g sa 60 saf, cw_i g ln 60 lnf, cw_l g bt 4000 btf] H locs := hZ
  have hna := h_S.1
  have hnu := h_S.2.1
  obtain ⟨sz, lz, dz, es, el, ed, g1, g2, g3, g4⟩ := h_S.2.2 a h_a.1
  obtain ⟨szb, lzb, dzb, esb, elb, edb, g1b, g2b, g3b, g4b⟩ := h_S.2.2 b h_a.2
  refine lv_iload_n hx hb dX2_agreeAt_0 rfl (lv_at hl 1 rfl) ?_
  refine lv_iload_n hx hb dX2_agreeAt_1 rfl (lv_at hl 2 rfl) ?_
  refine lv_icmp_eq (tgt := 23) hx hb dX2_agreeAt_2 (by decide) (fun c1 => ?_) (fun c1 => ?_)
  · have nc1 : a = b := (nI_eq (by omega) (by omega)).mp (show nI (a) = nI (b) from c1)
    refine lv_iconst (v := 1) hx hb dX2_agreeAt_23 (by decide) ?_
    exact zz_zret hC hZ (by decide) (⟨agf, Or.inr rfl, rfl⟩) (Nat.le_of_ble_eq_true rfl) (Nat.le_of_ble_eq_true rfl) dX2_agreeAt_24
  · have nc1 : ¬ a = b := fun zq => c1 (show nI (a) = nI (b) from (nI_eq (by omega) (by omega)).mpr zq)
    refine lv_aload_n hx hb dX2_agreeAt_5 rfl (lv_at hl 0 rfl) ?_
    refine zz_get hC hZ 0 rfl zf_X2_9 rfl dX2_agreeAt_6 ?_
    refine lv_iload_n hx hb dX2_agreeAt_9 rfl (lv_at hl 1 rfl) ?_
    refine lv_bipush (v := 60) hx hb dX2_agreeAt_10 (by decide) ?_
    refine lv_imul hx hb dX2_agreeAt_12 ?_
    refine zz_topi (v := nI (a * 60)) (pk_mul _ 60) ?_
    refine lv_iload_n hx hb dX2_agreeAt_13 rfl (lv_at hl 2 rfl) ?_
    refine lv_iadd hx hb dX2_agreeAt_14 ?_
    refine zz_topi (v := nI ((a * 60) + b)) (nI_add _ _) ?_
    refine zz_iald hC hZ 1 rfl (vp_in_nI (by omega) (by decide)) dX2_agreeAt_15 ?_
    rw [nI_clamp (n := ((a * 60) + b)) (by omega)]
    refine lv_aload_n hx hb dX2_agreeAt_16 rfl (lv_at hl 0 rfl) ?_
    refine zz_get hC hZ 0 rfl zf_X2_25 rfl dX2_agreeAt_17 ?_
    refine lv_icmp_ne (tgt := 25) hx hb dX2_agreeAt_20 (by decide) (fun c2 => ?_) (fun c2 => ?_)
    · refine lv_iload_n hx hb dX2_agreeAt_25 rfl (lv_at hl 3 rfl) ?_
      refine lv_iconst (v := 4) hx hb dX2_agreeAt_26 (by decide) ?_
      refine lv_icmp_gt (tgt := 39) hx hb dX2_agreeAt_27 (by decide) (fun c3 => ?_) (fun c => absurd (by decide) c)
      refine lv_iconst (v := 0) hx hb dX2_agreeAt_39 (by decide) ?_
      exact zz_zret hC hZ (by decide) (⟨agf, Or.inl rfl, rfl⟩) (Nat.le_of_ble_eq_true rfl) (Nat.le_of_ble_eq_true rfl) dX2_agreeAt_40
    · refine lv_iconst (v := 1) hx hb dX2_agreeAt_23 (by decide) ?_
      exact zz_zret hC hZ (by decide) (⟨agf, Or.inr rfl, rfl⟩) (Nat.le_of_ble_eq_true rfl) (Nat.le_of_ble_eq_true rfl) dX2_agreeAt_24
theorem dg_X2_rowsAgree_0 : (decode cX2_rowsAgree 0 = .ok (.aload_n 0, 1)) ∧ (decode cX2_rowsAgree 1 = .ok (.getfield 21, 3)) ∧ (decode cX2_rowsAgree 4 = .ok (.iload_n 1, 1)) ∧ (decode cX2_rowsAgree 5 = .ok (.invokevirtual 55, 3)) ∧ (decode cX2_rowsAgree 8 = .ok (.ifCond .eq 30, 3)) ∧ (decode cX2_rowsAgree 11 = .ok (.aload_n 0, 1)) ∧ (decode cX2_rowsAgree 12 = .ok (.getfield 21, 3)) ∧ (decode cX2_rowsAgree 15 = .ok (.iload_n 2, 1)) ∧ (decode cX2_rowsAgree 16 = .ok (.invokevirtual 55, 3)) ∧ (decode cX2_rowsAgree 19 = .ok (.ifCond .eq 19, 3)) ∧ (decode cX2_rowsAgree 22 = .ok (.aload_n 0, 1)) ∧ (decode cX2_rowsAgree 23 = .ok (.iload_n 1, 1)) ∧ (decode cX2_rowsAgree 24 = .ok (.iload_n 2, 1)) ∧ (decode cX2_rowsAgree 25 = .ok (.iload_n 3, 1)) ∧ (decode cX2_rowsAgree 26 = .ok (.iconst 1, 1)) ∧ (decode cX2_rowsAgree 27 = .ok (.iadd, 1)) := by decide +kernel
theorem dX2_rowsAgree_0 : decode cX2_rowsAgree 0 = .ok (.aload_n 0, 1) := dg_X2_rowsAgree_0.1
theorem dX2_rowsAgree_1 : decode cX2_rowsAgree 1 = .ok (.getfield 21, 3) := dg_X2_rowsAgree_0.2.1
theorem dX2_rowsAgree_4 : decode cX2_rowsAgree 4 = .ok (.iload_n 1, 1) := dg_X2_rowsAgree_0.2.2.1
theorem dX2_rowsAgree_5 : decode cX2_rowsAgree 5 = .ok (.invokevirtual 55, 3) := dg_X2_rowsAgree_0.2.2.2.1
theorem dX2_rowsAgree_8 : decode cX2_rowsAgree 8 = .ok (.ifCond .eq 30, 3) := dg_X2_rowsAgree_0.2.2.2.2.1
theorem dX2_rowsAgree_11 : decode cX2_rowsAgree 11 = .ok (.aload_n 0, 1) := dg_X2_rowsAgree_0.2.2.2.2.2.1
theorem dX2_rowsAgree_12 : decode cX2_rowsAgree 12 = .ok (.getfield 21, 3) := dg_X2_rowsAgree_0.2.2.2.2.2.2.1
theorem dX2_rowsAgree_15 : decode cX2_rowsAgree 15 = .ok (.iload_n 2, 1) := dg_X2_rowsAgree_0.2.2.2.2.2.2.2.1
theorem dX2_rowsAgree_16 : decode cX2_rowsAgree 16 = .ok (.invokevirtual 55, 3) := dg_X2_rowsAgree_0.2.2.2.2.2.2.2.2.1
theorem dX2_rowsAgree_19 : decode cX2_rowsAgree 19 = .ok (.ifCond .eq 19, 3) := dg_X2_rowsAgree_0.2.2.2.2.2.2.2.2.2.1
theorem dX2_rowsAgree_22 : decode cX2_rowsAgree 22 = .ok (.aload_n 0, 1) := dg_X2_rowsAgree_0.2.2.2.2.2.2.2.2.2.2.1
theorem dX2_rowsAgree_23 : decode cX2_rowsAgree 23 = .ok (.iload_n 1, 1) := dg_X2_rowsAgree_0.2.2.2.2.2.2.2.2.2.2.2.1
theorem dX2_rowsAgree_24 : decode cX2_rowsAgree 24 = .ok (.iload_n 2, 1) := dg_X2_rowsAgree_0.2.2.2.2.2.2.2.2.2.2.2.2.1
theorem dX2_rowsAgree_25 : decode cX2_rowsAgree 25 = .ok (.iload_n 3, 1) := dg_X2_rowsAgree_0.2.2.2.2.2.2.2.2.2.2.2.2.2.1
theorem dX2_rowsAgree_26 : decode cX2_rowsAgree 26 = .ok (.iconst 1, 1) := dg_X2_rowsAgree_0.2.2.2.2.2.2.2.2.2.2.2.2.2.2.1
theorem dX2_rowsAgree_27 : decode cX2_rowsAgree 27 = .ok (.iadd, 1) := dg_X2_rowsAgree_0.2.2.2.2.2.2.2.2.2.2.2.2.2.2.2
theorem dg_X2_rowsAgree_28 : (decode cX2_rowsAgree 28 = .ok (.invokevirtual 29, 3)) ∧ (decode cX2_rowsAgree 31 = .ok (.ifCond .eq 7, 3)) ∧ (decode cX2_rowsAgree 34 = .ok (.iconst 1, 1)) ∧ (decode cX2_rowsAgree 35 = .ok (.goto 4, 3)) ∧ (decode cX2_rowsAgree 38 = .ok (.iconst 0, 1)) ∧ (decode cX2_rowsAgree 39 = .ok (.ireturn, 1)) := by decide +kernel
theorem dX2_rowsAgree_28 : decode cX2_rowsAgree 28 = .ok (.invokevirtual 29, 3) := dg_X2_rowsAgree_28.1
theorem dX2_rowsAgree_31 : decode cX2_rowsAgree 31 = .ok (.ifCond .eq 7, 3) := dg_X2_rowsAgree_28.2.1
theorem dX2_rowsAgree_34 : decode cX2_rowsAgree 34 = .ok (.iconst 1, 1) := dg_X2_rowsAgree_28.2.2.1
theorem dX2_rowsAgree_35 : decode cX2_rowsAgree 35 = .ok (.goto 4, 3) := dg_X2_rowsAgree_28.2.2.2.1
theorem dX2_rowsAgree_38 : decode cX2_rowsAgree 38 = .ok (.iconst 0, 1) := dg_X2_rowsAgree_28.2.2.2.2.1
theorem dX2_rowsAgree_39 : decode cX2_rowsAgree 39 = .ok (.ireturn, 1) := dg_X2_rowsAgree_28.2.2.2.2.2
theorem zk_513 : Cond.methodLink RX2 55 yX6_has ∈ zz_w := zz_in (List.mem_append_right _ (List.mem_append_right _ (List.mem_append_right _ (List.mem_append_left _ (List.mem_of_getElem? (i := 33) (by decide +kernel)))))) rfl
theorem zc_X2_55 : zz_cV RX2 55 yX6_has cX6_has 2 (some .boolean) 1 := ⟨⟨zk_513, zk_266, zk_2, by decide, by decide, by decide +kernel⟩, zk_264, zk_265⟩
theorem zk_501 : Cond.methodLink RX2 29 yX2_agreeAt ∈ zz_w := zz_in (List.mem_append_right _ (List.mem_append_right _ (List.mem_append_right _ (List.mem_append_left _ (List.mem_of_getElem? (i := 21) (by decide +kernel)))))) rfl
set_option maxRecDepth 20000 in
theorem zk_504 : Cond.code yX2_agreeAt cX2_agreeAt 10 (some .boolean) ∈ zz_w := zz_in (List.mem_append_right _ (List.mem_append_right _ (List.mem_append_right _ (List.mem_append_left _ (List.mem_of_getElem? (i := 24) (rfl)))))) rfl
theorem zk_503 : Cond.instanceMethod yX2_agreeAt ∈ zz_w := zz_in (List.mem_append_right _ (List.mem_append_right _ (List.mem_append_right _ (List.mem_append_left _ (List.mem_of_getElem? (i := 23) (by decide +kernel)))))) rfl
theorem zs_9 : Cond.selects RX2 yX2_agreeAt yX2_agreeAt ∈ zz_w := zz_in (List.mem_append_left _ (List.mem_of_getElem? (i := 9) (by decide +kernel))) rfl
theorem zc_X2_29 : zz_cV RX2 29 yX2_agreeAt cX2_agreeAt 10 (some .boolean) 3 := ⟨⟨zk_501, zk_504, zk_4, by decide, by decide, by decide +kernel⟩, zk_503, zs_9⟩
abbrev rm_co_rowsAgree4 : Room := { frames := 1, cells := 0, slots := 0, locals := 29 }
abbrev po_co_rowsAgree4 (g : zz_G) (lk : Nat) (l_ag : Nat) (l_dg : Nat) (l_ds : Nat) (st : Nat) (kd : Nat) (dp : Nat) (cl : Nat) (sa : Nat) (ln : Nat) (bt : Nat) (pn : Nat) (bf : Nat) (na : Nat) (nu : Nat) (rd : Int32) (kdf : Nat → Int32) (dpf : Nat → Int32) (saf : Nat → Int32) (lnf : Nat → Int32) (btf : Nat → Int64) (agf : Nat → Int32) (k : Int32) (j : Int32) (h_S : zz_SI na nu dpf saf lnf) : Int32 → va_W → Prop := fun (r : Int32) (u : va_W) => ∃ (ag2 : Nat → Int32), u = [cw_k1 lk st rd l_ag l_dg l_ds, cw_i g l_ag 3600 ag2, cw_k5 st (nI na) (nI nu) kd dp cl sa ln bt pn bf, cw_i g kd 60 kdf, cw_i g dp 60 dpf, cw_i g sa 60 saf, cw_i g ln 60 lnf, cw_l g bt 4000 btf]
set_option maxHeartbeats 4000000 in
set_option maxRecDepth 100000 in
theorem co_rowsAgree4 (g : zz_G) (lk : Nat) (l_ag : Nat) (l_dg : Nat) (l_ds : Nat) (st : Nat) (kd : Nat) (dp : Nat) (cl : Nat) (sa : Nat) (ln : Nat) (bt : Nat) (pn : Nat) (bf : Nat) (na : Nat) (nu : Nat) (rd : Int32) (kdf : Nat → Int32) (dpf : Nat → Int32) (saf : Nat → Int32) (lnf : Nat → Int32) (btf : Nat → Int64) (agf : Nat → Int32) (k : Int32) (j : Int32) (h_S : zz_SI na nu dpf saf lnf) : zz_I g yX2_rowsAgree (.code yX2_rowsAgree cX2_rowsAgree 4 (some .boolean)) rm_co_rowsAgree4 [.ref lk, .int k, .int j, .int 4] [cw_k1 lk st rd l_ag l_dg l_ds, cw_i g l_ag 3600 agf, cw_k5 st (nI na) (nI nu) kd dp cl sa ln bt pn bf, cw_i g kd 60 kdf, cw_i g dp 60 dpf, cw_i g sa 60 saf, cw_i g ln 60 lnf, cw_l g bt 4000 btf] (po_co_rowsAgree4 g lk l_ag l_dg l_ds st kd dp cl sa ln bt pn bf na nu rd kdf dpf saf lnf btf agf k j h_S) := by
  refine zz_I.intro (own := RX2) (cc := cX2_rowsAgree) (nL := 4) (by decide) rfl (Nat.le_of_ble_eq_true rfl) ?_
  intro p l e s m args below meth c A H locs ls hC hnm hs hZ hl
  obtain ⟨hx, hb, hml, hown, hts, hr, hlocks, hK⟩ := id hC
  have hl : lv_has ls 4 [(0, .ref lk), (1, .int k), (2, .int j), (3, .int 4)] := hl
  have hZ : zz_Z g A s.heap [cw_k1 lk st rd l_ag l_dg l_ds, cw_i g l_ag 3600 agf, cw_k5 st (nI na) (nI nu) kd dp cl sa ln bt pn bf, cw_i g kd 60 kdf, cw_i g dp 60 dpf, cw_i g sa 60 saf, cw_i g ln 60 lnf, cw_l g bt 4000 btf] H locs := hZ
  have hna := h_S.1
  have hnu := h_S.2.1
  refine lv_aload_n hx hb dX2_rowsAgree_0 rfl (lv_at hl 0 rfl) ?_
  refine zz_get hC hZ 0 rfl zf_X2_21 rfl dX2_rowsAgree_1 ?_
  refine lv_iload_n hx hb dX2_rowsAgree_4 rfl (lv_at hl 1 rfl) ?_
  refine zz_iV (As := [.int k]) (wc := [cw_k5 st (nI na) (nI nu) kd dp cl sa ln bt pn bf]) (wr := [cw_k1 lk st rd l_ag l_dg l_ds, cw_i g l_ag 3600 agf, cw_i g kd 60 kdf, cw_i g dp 60 dpf, cw_i g sa 60 saf, cw_i g ln 60 lnf, cw_l g bt 4000 btf]) (rest := []) hC hZ hs hl zc_X2_55 (co_has g st kd dp cl sa ln bt pn bf (nI na) (nI nu) k) [2] [0, 1, 3, 4, 5, 6, 7] rfl rfl (by decide +kernel) (ci := 5) (q0 := 0) rfl rfl rfl rfl (Nat.le_of_ble_eq_true rfl) ⟨⟨Nat.le_of_ble_eq_true rfl, Nat.le_of_ble_eq_true rfl⟩, Nat.le_of_ble_eq_true rfl, Nat.le_of_ble_eq_true rfl⟩ dX2_rowsAgree_5 (fun r1 u2 H locs hp hZ => ?_)
  obtain ⟨rfl, rfl⟩ := hp
  have hZ : zz_Z g A s.heap [cw_k1 lk st rd l_ag l_dg l_ds, cw_i g l_ag 3600 agf, cw_i g kd 60 kdf, cw_i g dp 60 dpf, cw_i g sa 60 saf, cw_i g ln 60 lnf, cw_l g bt 4000 btf, cw_k5 st (nI na) (nI nu) kd dp cl sa ln bt pn bf] H locs := hZ
  refine lv_if_eq (tgt := 38) hx hb dX2_rowsAgree_8 (by decide) (fun c3 => ?_) (fun c3 => ?_)
  · refine lv_iconst (v := 0) hx hb dX2_rowsAgree_38 (by decide) ?_
    have hZ : zz_Z g A s.heap [cw_k1 lk st rd l_ag l_dg l_ds, cw_i g l_ag 3600 agf, cw_k5 st (nI na) (nI nu) kd dp cl sa ln bt pn bf, cw_i g kd 60 kdf, cw_i g dp 60 dpf, cw_i g sa 60 saf, cw_i g ln 60 lnf, cw_l g bt 4000 btf] H locs := hZ.sub [0, 1, 7, 2, 3, 4, 5, 6] (by decide +kernel) rfl
    exact zz_zret hC hZ (by decide) (⟨agf, rfl⟩) (Nat.le_of_ble_eq_true rfl) (Nat.le_of_ble_eq_true rfl) dX2_rowsAgree_39
  · obtain ⟨a2, ha2, ea2⟩ := zl_has (by omega) c3
    have hl : lv_has ls 4 [(0, .ref lk), (1, .int (nI a2)), (2, .int j), (3, .int 4)] := by rw [← ea2]; exact hl
    refine lv_aload_n hx hb dX2_rowsAgree_11 rfl (lv_at hl 0 rfl) ?_
    refine zz_get hC hZ 0 rfl zf_X2_21 rfl dX2_rowsAgree_12 ?_
    refine lv_iload_n hx hb dX2_rowsAgree_15 rfl (lv_at hl 2 rfl) ?_
    refine zz_iV (As := [.int j]) (wc := [cw_k5 st (nI na) (nI nu) kd dp cl sa ln bt pn bf]) (wr := [cw_k1 lk st rd l_ag l_dg l_ds, cw_i g l_ag 3600 agf, cw_i g kd 60 kdf, cw_i g dp 60 dpf, cw_i g sa 60 saf, cw_i g ln 60 lnf, cw_l g bt 4000 btf]) (rest := []) hC hZ hs hl zc_X2_55 (co_has g st kd dp cl sa ln bt pn bf (nI na) (nI nu) j) [7] [0, 1, 2, 3, 4, 5, 6] rfl rfl (by decide +kernel) (ci := 5) (q0 := 0) rfl rfl rfl rfl (Nat.le_of_ble_eq_true rfl) ⟨⟨Nat.le_of_ble_eq_true rfl, Nat.le_of_ble_eq_true rfl⟩, Nat.le_of_ble_eq_true rfl, Nat.le_of_ble_eq_true rfl⟩ dX2_rowsAgree_16 (fun r4 u5 H locs hp hZ => ?_)
    obtain ⟨rfl, rfl⟩ := hp
    have hZ : zz_Z g A s.heap [cw_k1 lk st rd l_ag l_dg l_ds, cw_i g l_ag 3600 agf, cw_i g kd 60 kdf, cw_i g dp 60 dpf, cw_i g sa 60 saf, cw_i g ln 60 lnf, cw_l g bt 4000 btf, cw_k5 st (nI na) (nI nu) kd dp cl sa ln bt pn bf] H locs := hZ
    refine lv_if_eq (tgt := 38) hx hb dX2_rowsAgree_19 (by decide) (fun c6 => ?_) (fun c6 => ?_)
    · refine lv_iconst (v := 0) hx hb dX2_rowsAgree_38 (by decide) ?_
      have hZ : zz_Z g A s.heap [cw_k1 lk st rd l_ag l_dg l_ds, cw_i g l_ag 3600 agf, cw_k5 st (nI na) (nI nu) kd dp cl sa ln bt pn bf, cw_i g kd 60 kdf, cw_i g dp 60 dpf, cw_i g sa 60 saf, cw_i g ln 60 lnf, cw_l g bt 4000 btf] H locs := hZ.sub [0, 1, 7, 2, 3, 4, 5, 6] (by decide +kernel) rfl
      exact zz_zret hC hZ (by decide) (⟨agf, rfl⟩) (Nat.le_of_ble_eq_true rfl) (Nat.le_of_ble_eq_true rfl) dX2_rowsAgree_39
    · obtain ⟨b2, hb2, eb2⟩ := zl_has (by omega) c6
      have hl : lv_has ls 4 [(0, .ref lk), (1, .int (nI a2)), (2, .int (nI b2)), (3, .int 4)] := by rw [← eb2]; exact hl
      refine lv_aload_n hx hb dX2_rowsAgree_22 rfl (lv_at hl 0 rfl) ?_
      refine lv_iload_n hx hb dX2_rowsAgree_23 rfl (lv_at hl 1 rfl) ?_
      refine lv_iload_n hx hb dX2_rowsAgree_24 rfl (lv_at hl 2 rfl) ?_
      refine lv_iload_n hx hb dX2_rowsAgree_25 rfl (lv_at hl 3 rfl) ?_
      refine lv_iconst (v := 1) hx hb dX2_rowsAgree_26 (by decide) ?_
      refine lv_iadd hx hb dX2_rowsAgree_27 ?_
      refine zz_topi (v := 5) (by decide) ?_
      refine zz_iV (As := [.int (nI a2), .int (nI b2), .int 5]) (wc := [cw_k1 lk st rd l_ag l_dg l_ds, cw_i g l_ag 3600 agf, cw_k5 st (nI na) (nI nu) kd dp cl sa ln bt pn bf, cw_i g kd 60 kdf, cw_i g dp 60 dpf, cw_i g sa 60 saf, cw_i g ln 60 lnf, cw_l g bt 4000 btf]) (wr := []) (rest := []) hC hZ hs hl zc_X2_29 (co_agree5 g lk l_ag l_dg l_ds st kd dp cl sa ln bt pn bf na nu rd kdf dpf saf lnf btf agf a2 b2 (h_S) (by omega)) [0, 1, 7, 2, 3, 4, 5, 6] [] rfl rfl (by decide +kernel) (ci := 1) (q0 := 0) rfl rfl rfl rfl (Nat.le_of_ble_eq_true rfl) ⟨⟨Nat.le_of_ble_eq_true rfl, Nat.le_of_ble_eq_true rfl⟩, Nat.le_of_ble_eq_true rfl, Nat.le_of_ble_eq_true rfl⟩ dX2_rowsAgree_28 (fun r7 u8 H locs hp hZ => ?_)
      obtain ⟨ag2_9, f10, rfl⟩ := hp
      have hZ : zz_Z g A s.heap [cw_k1 lk st rd l_ag l_dg l_ds, cw_i g l_ag 3600 ag2_9, cw_k5 st (nI na) (nI nu) kd dp cl sa ln bt pn bf, cw_i g kd 60 kdf, cw_i g dp 60 dpf, cw_i g sa 60 saf, cw_i g ln 60 lnf, cw_l g bt 4000 btf] H locs := hZ
      refine lv_if_eq (tgt := 38) hx hb dX2_rowsAgree_31 (by decide) (fun c11 => ?_) (fun c11 => ?_)
      · refine lv_iconst (v := 0) hx hb dX2_rowsAgree_38 (by decide) ?_
        exact zz_zret hC hZ (by decide) (⟨ag2_9, rfl⟩) (Nat.le_of_ble_eq_true rfl) (Nat.le_of_ble_eq_true rfl) dX2_rowsAgree_39
      · refine lv_iconst (v := 1) hx hb dX2_rowsAgree_34 (by decide) ?_
        refine lv_goto (tgt := 39) hx hb dX2_rowsAgree_35 (by decide) ?_
        exact zz_zret hC hZ (by decide) (⟨ag2_9, rfl⟩) (Nat.le_of_ble_eq_true rfl) (Nat.le_of_ble_eq_true rfl) dX2_rowsAgree_39
theorem zk_505 : Cond.methodLink RX2 33 yX2_sameShape ∈ zz_w := zz_in (List.mem_append_right _ (List.mem_append_right _ (List.mem_append_right _ (List.mem_append_left _ (List.mem_of_getElem? (i := 25) (by decide +kernel)))))) rfl
set_option maxRecDepth 20000 in
theorem zk_508 : Cond.code yX2_sameShape cX2_sameShape 3 (some .boolean) ∈ zz_w := zz_in (List.mem_append_right _ (List.mem_append_right _ (List.mem_append_right _ (List.mem_append_left _ (List.mem_of_getElem? (i := 28) (rfl)))))) rfl
theorem zk_507 : Cond.instanceMethod yX2_sameShape ∈ zz_w := zz_in (List.mem_append_right _ (List.mem_append_right _ (List.mem_append_right _ (List.mem_append_left _ (List.mem_of_getElem? (i := 27) (by decide +kernel)))))) rfl
theorem zs_10 : Cond.selects RX2 yX2_sameShape yX2_sameShape ∈ zz_w := zz_in (List.mem_append_left _ (List.mem_of_getElem? (i := 10) (by decide +kernel))) rfl
theorem zc_X2_33 : zz_cV RX2 33 yX2_sameShape cX2_sameShape 3 (some .boolean) 2 := ⟨⟨zk_505, zk_508, zk_4, by decide, by decide, by decide +kernel⟩, zk_507, zs_10⟩
theorem zk_56 : Cond.fieldLink RX2 45 RX6 "bits" "[J" ∈ zz_w := zz_in (List.mem_append_right _ (List.mem_append_left _ (List.mem_of_getElem? (i := 56) (by decide +kernel)))) rfl
theorem zf_X2_45 : zz_f RX2 45 5 7 := ⟨RX6, TX6, 10, rfl, zi_X6, by decide, zk_56⟩
theorem zk_45 : Cond.fieldLink RX2 49 RX6 "start" "[I" ∈ zz_w := zz_in (List.mem_append_right _ (List.mem_append_left _ (List.mem_of_getElem? (i := 45) (by decide +kernel)))) rfl
theorem zf_X2_49 : zz_f RX2 49 5 5 := ⟨RX6, TX6, 10, rfl, zi_X6, by decide, zk_45⟩
theorem zk_509 : Cond.methodLink RX2 52 yX2_rowsAgree ∈ zz_w := zz_in (List.mem_append_right _ (List.mem_append_right _ (List.mem_append_right _ (List.mem_append_left _ (List.mem_of_getElem? (i := 29) (by decide +kernel)))))) rfl
set_option maxRecDepth 20000 in
theorem zk_512 : Cond.code yX2_rowsAgree cX2_rowsAgree 4 (some .boolean) ∈ zz_w := zz_in (List.mem_append_right _ (List.mem_append_right _ (List.mem_append_right _ (List.mem_append_left _ (List.mem_of_getElem? (i := 32) (rfl)))))) rfl
theorem zk_511 : Cond.instanceMethod yX2_rowsAgree ∈ zz_w := zz_in (List.mem_append_right _ (List.mem_append_right _ (List.mem_append_right _ (List.mem_append_left _ (List.mem_of_getElem? (i := 31) (by decide +kernel)))))) rfl
theorem zs_11 : Cond.selects RX2 yX2_rowsAgree yX2_rowsAgree ∈ zz_w := zz_in (List.mem_append_left _ (List.mem_of_getElem? (i := 11) (by decide +kernel))) rfl
theorem zc_X2_52 : zz_cV RX2 52 yX2_rowsAgree cX2_rowsAgree 4 (some .boolean) 3 := ⟨⟨zk_509, zk_512, zk_4, by decide, by decide, by decide +kernel⟩, zk_511, zs_11⟩
abbrev rm_co_agree4 : Room := { frames := 2, cells := 0, slots := 0, locals := 52 }
abbrev po_co_agree4 (g : zz_G) (lk : Nat) (l_ag : Nat) (l_dg : Nat) (l_ds : Nat) (st : Nat) (kd : Nat) (dp : Nat) (cl : Nat) (sa : Nat) (ln : Nat) (bt : Nat) (pn : Nat) (bf : Nat) (na : Nat) (nu : Nat) (rd : Int32) (kdf : Nat → Int32) (dpf : Nat → Int32) (saf : Nat → Int32) (lnf : Nat → Int32) (btf : Nat → Int64) (agf : Nat → Int32) (a : Nat) (b : Nat) (h_S : zz_SI na nu dpf saf lnf) (h_a : a < na ∧ b < na) : Int32 → va_W → Prop := fun (r : Int32) (u : va_W) => ∃ (ag2 : Nat → Int32), (r = 0 ∨ r = 1) ∧ u = [cw_k1 lk st rd l_ag l_dg l_ds, cw_i g l_ag 3600 ag2, cw_k5 st (nI na) (nI nu) kd dp cl sa ln bt pn bf, cw_i g kd 60 kdf, cw_i g dp 60 dpf, cw_i g sa 60 saf, cw_i g ln 60 lnf, cw_l g bt 4000 btf]
set_option maxHeartbeats 4000000 in
set_option maxRecDepth 100000 in
theorem co_agree4 (g : zz_G) (lk : Nat) (l_ag : Nat) (l_dg : Nat) (l_ds : Nat) (st : Nat) (kd : Nat) (dp : Nat) (cl : Nat) (sa : Nat) (ln : Nat) (bt : Nat) (pn : Nat) (bf : Nat) (na : Nat) (nu : Nat) (rd : Int32) (kdf : Nat → Int32) (dpf : Nat → Int32) (saf : Nat → Int32) (lnf : Nat → Int32) (btf : Nat → Int64) (agf : Nat → Int32) (a : Nat) (b : Nat) (h_S : zz_SI na nu dpf saf lnf) (h_a : a < na ∧ b < na) : zz_I g yX2_agreeAt (.code yX2_agreeAt cX2_agreeAt 10 (some .boolean)) rm_co_agree4 [.ref lk, .int (nI a), .int (nI b), .int 4] [cw_k1 lk st rd l_ag l_dg l_ds, cw_i g l_ag 3600 agf, cw_k5 st (nI na) (nI nu) kd dp cl sa ln bt pn bf, cw_i g kd 60 kdf, cw_i g dp 60 dpf, cw_i g sa 60 saf, cw_i g ln 60 lnf, cw_l g bt 4000 btf] (po_co_agree4 g lk l_ag l_dg l_ds st kd dp cl sa ln bt pn bf na nu rd kdf dpf saf lnf btf agf a b h_S h_a) := by
  refine zz_I.intro (own := RX2) (cc := cX2_agreeAt) (nL := 10) (by decide) rfl (Nat.le_of_ble_eq_true rfl) ?_
  intro p l e s m args below meth c A H locs ls hC hnm hs hZ hl
  obtain ⟨hx, hb, hml, hown, hts, hr, hlocks, hK⟩ := id hC
  have hl : lv_has ls 10 [(0, .ref lk), (1, .int (nI a)), (2, .int (nI b)), (3, .int 4)] := hl
  have hZ : zz_Z g A s.heap [cw_k1 lk st rd l_ag l_dg l_ds, cw_i g l_ag 3600 agf, cw_k5 st (nI na) (nI nu) kd dp cl sa ln bt pn bf, cw_i g kd 60 kdf, cw_i g dp 60 dpf, cw_i g sa 60 saf, cw_i g ln 60 lnf, cw_l g bt 4000 btf] H locs := hZ
  have hna := h_S.1
  have hnu := h_S.2.1
  obtain ⟨sz, lz, dz, es, el, ed, g1, g2, g3, g4⟩ := h_S.2.2 a h_a.1
  obtain ⟨szb, lzb, dzb, esb, elb, edb, g1b, g2b, g3b, g4b⟩ := h_S.2.2 b h_a.2
  refine lv_iload_n hx hb dX2_agreeAt_0 rfl (lv_at hl 1 rfl) ?_
  refine lv_iload_n hx hb dX2_agreeAt_1 rfl (lv_at hl 2 rfl) ?_
  refine lv_icmp_eq (tgt := 23) hx hb dX2_agreeAt_2 (by decide) (fun c1 => ?_) (fun c1 => ?_)
  · have nc1 : a = b := (nI_eq (by omega) (by omega)).mp (show nI (a) = nI (b) from c1)
    refine lv_iconst (v := 1) hx hb dX2_agreeAt_23 (by decide) ?_
    exact zz_zret hC hZ (by decide) (⟨agf, Or.inr rfl, rfl⟩) (Nat.le_of_ble_eq_true rfl) (Nat.le_of_ble_eq_true rfl) dX2_agreeAt_24
  · have nc1 : ¬ a = b := fun zq => c1 (show nI (a) = nI (b) from (nI_eq (by omega) (by omega)).mpr zq)
    refine lv_aload_n hx hb dX2_agreeAt_5 rfl (lv_at hl 0 rfl) ?_
    refine zz_get hC hZ 0 rfl zf_X2_9 rfl dX2_agreeAt_6 ?_
    refine lv_iload_n hx hb dX2_agreeAt_9 rfl (lv_at hl 1 rfl) ?_
    refine lv_bipush (v := 60) hx hb dX2_agreeAt_10 (by decide) ?_
    refine lv_imul hx hb dX2_agreeAt_12 ?_
    refine zz_topi (v := nI (a * 60)) (pk_mul _ 60) ?_
    refine lv_iload_n hx hb dX2_agreeAt_13 rfl (lv_at hl 2 rfl) ?_
    refine lv_iadd hx hb dX2_agreeAt_14 ?_
    refine zz_topi (v := nI ((a * 60) + b)) (nI_add _ _) ?_
    refine zz_iald hC hZ 1 rfl (vp_in_nI (by omega) (by decide)) dX2_agreeAt_15 ?_
    rw [nI_clamp (n := ((a * 60) + b)) (by omega)]
    refine lv_aload_n hx hb dX2_agreeAt_16 rfl (lv_at hl 0 rfl) ?_
    refine zz_get hC hZ 0 rfl zf_X2_25 rfl dX2_agreeAt_17 ?_
    refine lv_icmp_ne (tgt := 25) hx hb dX2_agreeAt_20 (by decide) (fun c2 => ?_) (fun c2 => ?_)
    · refine lv_iload_n hx hb dX2_agreeAt_25 rfl (lv_at hl 3 rfl) ?_
      refine lv_iconst (v := 4) hx hb dX2_agreeAt_26 (by decide) ?_
      refine lv_icmp_gt (tgt := 39) hx hb dX2_agreeAt_27 (by decide) (fun c => absurd c (by decide)) (fun c3 => ?_)
      refine lv_aload_n hx hb dX2_agreeAt_30 rfl (lv_at hl 0 rfl) ?_
      refine lv_iload_n hx hb dX2_agreeAt_31 rfl (lv_at hl 1 rfl) ?_
      refine lv_iload_n hx hb dX2_agreeAt_32 rfl (lv_at hl 2 rfl) ?_
      refine zz_iV (As := [.int (nI a), .int (nI b)]) (wc := [cw_k1 lk st rd l_ag l_dg l_ds, cw_k5 st (nI na) (nI nu) kd dp cl sa ln bt pn bf, cw_i g kd 60 kdf, cw_i g dp 60 dpf, cw_i g ln 60 lnf]) (wr := [cw_i g l_ag 3600 agf, cw_i g sa 60 saf, cw_l g bt 4000 btf]) (rest := []) hC hZ hs hl zc_X2_33 (co_sameShape g lk l_ag l_dg l_ds st kd dp cl sa ln bt pn bf na nu rd kdf dpf lnf a b (by omega)) [0, 2, 3, 4, 6] [1, 5, 7] rfl rfl (by decide +kernel) (ci := 1) (q0 := 0) rfl rfl rfl rfl (Nat.le_of_ble_eq_true rfl) ⟨⟨Nat.le_of_ble_eq_true rfl, Nat.le_of_ble_eq_true rfl⟩, Nat.le_of_ble_eq_true rfl, Nat.le_of_ble_eq_true rfl⟩ dX2_agreeAt_33 (fun r4 u5 H locs hp hZ => ?_)
      obtain ⟨rfl, rfl⟩ := hp
      have hZ : zz_Z g A s.heap [cw_i g l_ag 3600 agf, cw_i g sa 60 saf, cw_l g bt 4000 btf, cw_k1 lk st rd l_ag l_dg l_ds, cw_k5 st (nI na) (nI nu) kd dp cl sa ln bt pn bf, cw_i g kd 60 kdf, cw_i g dp 60 dpf, cw_i g ln 60 lnf] H locs := hZ
      refine lv_if_ne (tgt := 41) hx hb dX2_agreeAt_36 (by decide) (fun c6 => ?_) (fun c6 => ?_)
      · have hlz : lz = lzb := (nI_eq (by omega) (by omega)).mp (el.symm.trans ((zl_shape c6).trans elb))
        refine lv_aload_n hx hb dX2_agreeAt_41 rfl (lv_at hl 0 rfl) ?_
        refine zz_get hC hZ 3 rfl zf_X2_21 rfl dX2_agreeAt_42 ?_
        refine zz_get hC hZ 4 rfl zf_X2_37 rfl dX2_agreeAt_45 ?_
        refine lv_iload_n hx hb dX2_agreeAt_48 rfl (lv_at hl 1 rfl) ?_
        refine zz_iald hC hZ 6 rfl (vp_in_nI (by omega) (by decide)) dX2_agreeAt_49 ?_
        rw [nI_clamp (n := a) (by omega)]
        refine zz_topi (v := nI dz) (ed) ?_
        refine lv_iconst (v := 1) hx hb dX2_agreeAt_50 (by decide) ?_
        refine lv_icmp_ne (tgt := 58) hx hb dX2_agreeAt_51 (by decide) (fun c7 => ?_) (fun c7 => ?_)
        · have nc7 : ¬ dz = 1 := fun zq => c7 (show nI (dz) = nI (1) from (nI_eq (by omega) (by omega)).mpr zq)
          refine lv_iconst (v := 0) hx hb dX2_agreeAt_58 (by decide) ?_
          refine lv_istore (lv' := [(4, .int 0), (0, .ref lk), (1, .int (nI a)), (2, .int (nI b)), (3, .int 4)]) hx hb dX2_agreeAt_59 hl (by decide) rfl (fun ls hl => ?_)
          refine lv_iconst (v := 0) hx hb dX2_agreeAt_61 (by decide) ?_
          refine lv_istore (lv' := [(5, .int 0), (4, .int 0), (0, .ref lk), (1, .int (nI a)), (2, .int (nI b)), (3, .int 4)]) hx hb dX2_agreeAt_62 hl (by decide) rfl (fun ls hl => ?_)
          have LP8 : ∀ (N : Nat) (i : Nat) (ag1 : Nat → Int32) (H : Heap) (locs : List Loc) (ls : Array Slot), (i ≤ lz) → (lz - i) < N → zz_Z g A s.heap [cw_i g l_ag 3600 ag1, cw_i g sa 60 saf, cw_l g bt 4000 btf, cw_k1 lk st rd l_ag l_dg l_ds, cw_k5 st (nI na) (nI nu) kd dp cl sa ln bt pn bf, cw_i g kd 60 kdf, cw_i g dp 60 dpf, cw_i g ln 60 lnf] H locs → lv_has ls 10 [(5, .int (nI i)), (4, .int 0), (0, .ref lk), (1, .int (nI a)), (2, .int (nI b)), (3, .int 4)] → W p l e rm_co_agree4 s m args below meth c H locs 0 0 (zz_QI below g args s A rm_co_agree4.cells rm_co_agree4.slots (po_co_agree4 g lk l_ag l_dg l_ds st kd dp cl sa ln bt pn bf na nu rd kdf dpf saf lnf btf agf a b h_S h_a)) (F0 m 64 ls []) := by
            intro N
            induction N with
            | zero =>
              intro i ag1 H locs ls hi hN
              exact absurd hN (Nat.not_lt_zero _)
            | succ N ih =>
              intro i ag1 H locs ls hi hN hZ hl
              refine lv_iload hx hb dX2_agreeAt_64 (lv_at hl 0 rfl) ?_
              refine lv_aload_n hx hb dX2_agreeAt_66 rfl (lv_at hl 2 rfl) ?_
              refine zz_get hC hZ 3 rfl zf_X2_21 rfl dX2_agreeAt_67 ?_
              refine zz_get hC hZ 4 rfl zf_X2_42 rfl dX2_agreeAt_70 ?_
              refine lv_iload_n hx hb dX2_agreeAt_73 rfl (lv_at hl 3 rfl) ?_
              refine zz_iald hC hZ 7 rfl (vp_in_nI (by omega) (by decide)) dX2_agreeAt_74 ?_
              rw [nI_clamp (n := a) (by omega)]
              refine zz_topi (v := nI lz) (el) ?_
              refine lv_icmp_ge (tgt := 157) hx hb dX2_agreeAt_75 (by decide) (fun c9 => ?_) (fun c9 => ?_)
              · have nc9 : lz ≤ i := (nI_leI (by omega) (by omega)).mp (show nI (lz) ≤ nI (i) from c9)
                refine lv_aload_n hx hb dX2_agreeAt_157 rfl (lv_at hl 2 rfl) ?_
                refine zz_get hC hZ 3 rfl zf_X2_9 rfl dX2_agreeAt_158 ?_
                refine lv_iload_n hx hb dX2_agreeAt_161 rfl (lv_at hl 3 rfl) ?_
                refine lv_bipush (v := 60) hx hb dX2_agreeAt_162 (by decide) ?_
                refine lv_imul hx hb dX2_agreeAt_164 ?_
                refine zz_topi (v := nI (a * 60)) (pk_mul _ 60) ?_
                refine lv_iload_n hx hb dX2_agreeAt_165 rfl (lv_at hl 4 rfl) ?_
                refine lv_iadd hx hb dX2_agreeAt_166 ?_
                refine zz_topi (v := nI ((a * 60) + b)) (nI_add _ _) ?_
                refine lv_aload_n hx hb dX2_agreeAt_167 rfl (lv_at hl 2 rfl) ?_
                refine zz_get hC hZ 3 rfl zf_X2_25 rfl dX2_agreeAt_168 ?_
                refine zz_iast hC hZ 0 rfl (vp_in_nI (by omega) (by decide)) dX2_agreeAt_171 (fun H locs hZ => ?_)
                rw [nI_clamp (n := ((a * 60) + b)) (by omega)] at hZ
                have hZ : zz_Z g A s.heap [cw_i g l_ag 3600 (upd ag1 ((a * 60) + b) rd), cw_i g sa 60 saf, cw_l g bt 4000 btf, cw_k1 lk st rd l_ag l_dg l_ds, cw_k5 st (nI na) (nI nu) kd dp cl sa ln bt pn bf, cw_i g kd 60 kdf, cw_i g dp 60 dpf, cw_i g ln 60 lnf] H locs := hZ
                refine lv_iconst (v := 1) hx hb dX2_agreeAt_172 (by decide) ?_
                have hZ : zz_Z g A s.heap [cw_k1 lk st rd l_ag l_dg l_ds, cw_i g l_ag 3600 (upd ag1 ((a * 60) + b) rd), cw_k5 st (nI na) (nI nu) kd dp cl sa ln bt pn bf, cw_i g kd 60 kdf, cw_i g dp 60 dpf, cw_i g sa 60 saf, cw_i g ln 60 lnf, cw_l g bt 4000 btf] H locs := hZ.sub [3, 0, 4, 5, 6, 1, 7, 2] (by decide +kernel) rfl
                exact zz_zret hC hZ (by decide) (⟨(upd ag1 ((a * 60) + b) rd), Or.inr rfl, rfl⟩) (Nat.le_of_ble_eq_true rfl) (Nat.le_of_ble_eq_true rfl) dX2_agreeAt_173
              · have nc9 : ¬ lz ≤ i := fun zq => c9 (show nI (lz) ≤ nI (i) from (nI_leI (by omega) (by omega)).mpr zq)
                refine lv_aload_n hx hb dX2_agreeAt_78 rfl (lv_at hl 2 rfl) ?_
                refine zz_get hC hZ 3 rfl zf_X2_21 rfl dX2_agreeAt_79 ?_
                refine zz_get hC hZ 4 rfl zf_X2_45 rfl dX2_agreeAt_82 ?_
                refine lv_aload_n hx hb dX2_agreeAt_85 rfl (lv_at hl 2 rfl) ?_
                refine zz_get hC hZ 3 rfl zf_X2_21 rfl dX2_agreeAt_86 ?_
                refine zz_get hC hZ 4 rfl zf_X2_49 rfl dX2_agreeAt_89 ?_
                refine lv_iload_n hx hb dX2_agreeAt_92 rfl (lv_at hl 3 rfl) ?_
                refine zz_iald hC hZ 1 rfl (vp_in_nI (by omega) (by decide)) dX2_agreeAt_93 ?_
                rw [nI_clamp (n := a) (by omega)]
                refine zz_topi (v := nI sz) (es) ?_
                refine lv_iload hx hb dX2_agreeAt_94 (lv_at hl 0 rfl) ?_
                refine lv_iadd hx hb dX2_agreeAt_96 ?_
                refine zz_topi (v := nI (sz + i)) (nI_add _ _) ?_
                refine zz_lald hC hZ 2 rfl (vp_in_nI (by omega) (by decide)) dX2_agreeAt_97 ?_
                rw [nI_clamp (n := (sz + i)) (by omega)]
                refine lv_lstore (lv' := [(6, .long (btf (sz + i))), (5, .int (nI i)), (4, .int 0), (0, .ref lk), (1, .int (nI a)), (2, .int (nI b)), (3, .int 4)]) hx hb dX2_agreeAt_98 hl (by decide) rfl (fun ls hl => ?_)
                refine lv_aload_n hx hb dX2_agreeAt_100 rfl (lv_at hl 3 rfl) ?_
                refine zz_get hC hZ 3 rfl zf_X2_21 rfl dX2_agreeAt_101 ?_
                refine zz_get hC hZ 4 rfl zf_X2_45 rfl dX2_agreeAt_104 ?_
                refine lv_aload_n hx hb dX2_agreeAt_107 rfl (lv_at hl 3 rfl) ?_
                refine zz_get hC hZ 3 rfl zf_X2_21 rfl dX2_agreeAt_108 ?_
                refine zz_get hC hZ 4 rfl zf_X2_49 rfl dX2_agreeAt_111 ?_
                refine lv_iload_n hx hb dX2_agreeAt_114 rfl (lv_at hl 5 rfl) ?_
                refine zz_iald hC hZ 1 rfl (vp_in_nI (by omega) (by decide)) dX2_agreeAt_115 ?_
                rw [nI_clamp (n := b) (by omega)]
                refine zz_topi (v := nI szb) (esb) ?_
                refine lv_iload hx hb dX2_agreeAt_116 (lv_at hl 1 rfl) ?_
                refine lv_iadd hx hb dX2_agreeAt_118 ?_
                refine zz_topi (v := nI (szb + i)) (nI_add _ _) ?_
                refine zz_lald hC hZ 2 rfl (vp_in_nI (by omega) (by decide)) dX2_agreeAt_119 ?_
                rw [nI_clamp (n := (szb + i)) (by omega)]
                refine lv_lstore (lv' := [(8, .long (btf (szb + i))), (6, .long (btf (sz + i))), (5, .int (nI i)), (4, .int 0), (0, .ref lk), (1, .int (nI a)), (2, .int (nI b)), (3, .int 4)]) hx hb dX2_agreeAt_120 hl (by decide) rfl (fun ls hl => ?_)
                refine lv_lload hx hb dX2_agreeAt_122 (lv_at hl 1 rfl) ?_
                refine lv_lload hx hb dX2_agreeAt_124 (lv_at hl 0 rfl) ?_
                refine zz_lcmp_eq (tgt := 151) hC dX2_agreeAt_126 dX2_agreeAt_127 (by decide) (fun c10 => ?_) (fun c10 => ?_)
                · refine lv_iinc (v := nI (i + 1)) (lv' := [(5, .int (nI (i + 1))), (8, .long (btf (szb + i))), (6, .long (btf (sz + i))), (4, .int 0), (0, .ref lk), (1, .int (nI a)), (2, .int (nI b)), (3, .int 4)]) hx hb dX2_agreeAt_151 hl (k := 2) rfl (nI_1 _) (by decide) rfl (fun ls hl => ?_)
                  refine lv_goto (tgt := 64) hx hb dX2_agreeAt_154 (by decide) ?_
                  exact ih (i + 1) ag1 H locs ls (by omega) (by omega) hZ (lv_sub hl [0, 3, 4, 5, 6, 7] rfl)
                · refine lv_iload hx hb dX2_agreeAt_130 (lv_at hl 3 rfl) ?_
                  refine lv_if_ne (tgt := 149) hx hb dX2_agreeAt_132 (by decide) (fun c => absurd (by decide) c) (fun c11 => ?_)
                  refine lv_aload_n hx hb dX2_agreeAt_135 rfl (lv_at hl 4 rfl) ?_
                  refine lv_lload hx hb dX2_agreeAt_136 (lv_at hl 1 rfl) ?_
                  refine lv_l2i hx hb dX2_agreeAt_138 rfl ?_
                  refine lv_lload hx hb dX2_agreeAt_139 (lv_at hl 0 rfl) ?_
                  refine lv_l2i hx hb dX2_agreeAt_141 rfl ?_
                  refine lv_iload_n hx hb dX2_agreeAt_142 rfl (lv_at hl 7 rfl) ?_
                  refine zz_iV (As := [.int ((btf (sz + i)).toInt32), .int ((btf (szb + i)).toInt32), .int 4]) (wc := [cw_k1 lk st rd l_ag l_dg l_ds, cw_i g l_ag 3600 ag1, cw_k5 st (nI na) (nI nu) kd dp cl sa ln bt pn bf, cw_i g kd 60 kdf, cw_i g dp 60 dpf, cw_i g sa 60 saf, cw_i g ln 60 lnf, cw_l g bt 4000 btf]) (wr := []) (rest := []) hC hZ hs hl zc_X2_52 (co_rowsAgree4 g lk l_ag l_dg l_ds st kd dp cl sa ln bt pn bf na nu rd kdf dpf saf lnf btf ag1 ((btf (sz + i)).toInt32) ((btf (szb + i)).toInt32) (h_S)) [3, 0, 4, 5, 6, 1, 7, 2] [] rfl rfl (by decide +kernel) (ci := 1) (q0 := 0) rfl rfl rfl rfl (Nat.le_of_ble_eq_true rfl) ⟨⟨Nat.le_of_ble_eq_true rfl, Nat.le_of_ble_eq_true rfl⟩, Nat.le_of_ble_eq_true rfl, Nat.le_of_ble_eq_true rfl⟩ dX2_agreeAt_143 (fun r12 u13 H locs hp hZ => ?_)
                  obtain ⟨ag2_14, rfl⟩ := hp
                  have hZ : zz_Z g A s.heap [cw_k1 lk st rd l_ag l_dg l_ds, cw_i g l_ag 3600 ag2_14, cw_k5 st (nI na) (nI nu) kd dp cl sa ln bt pn bf, cw_i g kd 60 kdf, cw_i g dp 60 dpf, cw_i g sa 60 saf, cw_i g ln 60 lnf, cw_l g bt 4000 btf] H locs := hZ
                  refine lv_if_ne (tgt := 151) hx hb dX2_agreeAt_146 (by decide) (fun c15 => ?_) (fun c15 => ?_)
                  · refine lv_iinc (v := nI (i + 1)) (lv' := [(5, .int (nI (i + 1))), (8, .long (btf (szb + i))), (6, .long (btf (sz + i))), (4, .int 0), (0, .ref lk), (1, .int (nI a)), (2, .int (nI b)), (3, .int 4)]) hx hb dX2_agreeAt_151 hl (k := 2) rfl (nI_1 _) (by decide) rfl (fun ls hl => ?_)
                    refine lv_goto (tgt := 64) hx hb dX2_agreeAt_154 (by decide) ?_
                    exact ih (i + 1) ag2_14 H locs ls (by omega) (by omega) (hZ.sub [1, 5, 7, 0, 2, 3, 4, 6] (by decide +kernel) rfl) (lv_sub hl [0, 3, 4, 5, 6, 7] rfl)
                  · refine lv_iconst (v := 0) hx hb dX2_agreeAt_149 (by decide) ?_
                    exact zz_zret hC hZ (by decide) (⟨ag2_14, Or.inl rfl, rfl⟩) (Nat.le_of_ble_eq_true rfl) (Nat.le_of_ble_eq_true rfl) dX2_agreeAt_150
          exact LP8 _ 0 agf H locs ls (by omega) (Nat.lt_succ_self _) hZ (lv_sub hl [0, 1, 2, 3, 4, 5] rfl)
        · have nc7 : dz = 1 := (nI_eq (by omega) (by omega)).mp (show nI (dz) = nI (1) from c7)
          refine lv_iconst (v := 1) hx hb dX2_agreeAt_54 (by decide) ?_
          refine lv_goto (tgt := 59) hx hb dX2_agreeAt_55 (by decide) ?_
          refine lv_istore (lv' := [(4, .int 1), (0, .ref lk), (1, .int (nI a)), (2, .int (nI b)), (3, .int 4)]) hx hb dX2_agreeAt_59 hl (by decide) rfl (fun ls hl => ?_)
          refine lv_iconst (v := 0) hx hb dX2_agreeAt_61 (by decide) ?_
          refine lv_istore (lv' := [(5, .int 0), (4, .int 1), (0, .ref lk), (1, .int (nI a)), (2, .int (nI b)), (3, .int 4)]) hx hb dX2_agreeAt_62 hl (by decide) rfl (fun ls hl => ?_)
          have LP16 : ∀ (N : Nat) (i : Nat) (ag1 : Nat → Int32) (H : Heap) (locs : List Loc) (ls : Array Slot), (i ≤ lz) → (lz - i) < N → zz_Z g A s.heap [cw_i g l_ag 3600 ag1, cw_i g sa 60 saf, cw_l g bt 4000 btf, cw_k1 lk st rd l_ag l_dg l_ds, cw_k5 st (nI na) (nI nu) kd dp cl sa ln bt pn bf, cw_i g kd 60 kdf, cw_i g dp 60 dpf, cw_i g ln 60 lnf] H locs → lv_has ls 10 [(5, .int (nI i)), (4, .int 1), (0, .ref lk), (1, .int (nI a)), (2, .int (nI b)), (3, .int 4)] → W p l e rm_co_agree4 s m args below meth c H locs 0 0 (zz_QI below g args s A rm_co_agree4.cells rm_co_agree4.slots (po_co_agree4 g lk l_ag l_dg l_ds st kd dp cl sa ln bt pn bf na nu rd kdf dpf saf lnf btf agf a b h_S h_a)) (F0 m 64 ls []) := by
            intro N
            induction N with
            | zero =>
              intro i ag1 H locs ls hi hN
              exact absurd hN (Nat.not_lt_zero _)
            | succ N ih =>
              intro i ag1 H locs ls hi hN hZ hl
              refine lv_iload hx hb dX2_agreeAt_64 (lv_at hl 0 rfl) ?_
              refine lv_aload_n hx hb dX2_agreeAt_66 rfl (lv_at hl 2 rfl) ?_
              refine zz_get hC hZ 3 rfl zf_X2_21 rfl dX2_agreeAt_67 ?_
              refine zz_get hC hZ 4 rfl zf_X2_42 rfl dX2_agreeAt_70 ?_
              refine lv_iload_n hx hb dX2_agreeAt_73 rfl (lv_at hl 3 rfl) ?_
              refine zz_iald hC hZ 7 rfl (vp_in_nI (by omega) (by decide)) dX2_agreeAt_74 ?_
              rw [nI_clamp (n := a) (by omega)]
              refine zz_topi (v := nI lz) (el) ?_
              refine lv_icmp_ge (tgt := 157) hx hb dX2_agreeAt_75 (by decide) (fun c17 => ?_) (fun c17 => ?_)
              · have nc17 : lz ≤ i := (nI_leI (by omega) (by omega)).mp (show nI (lz) ≤ nI (i) from c17)
                refine lv_aload_n hx hb dX2_agreeAt_157 rfl (lv_at hl 2 rfl) ?_
                refine zz_get hC hZ 3 rfl zf_X2_9 rfl dX2_agreeAt_158 ?_
                refine lv_iload_n hx hb dX2_agreeAt_161 rfl (lv_at hl 3 rfl) ?_
                refine lv_bipush (v := 60) hx hb dX2_agreeAt_162 (by decide) ?_
                refine lv_imul hx hb dX2_agreeAt_164 ?_
                refine zz_topi (v := nI (a * 60)) (pk_mul _ 60) ?_
                refine lv_iload_n hx hb dX2_agreeAt_165 rfl (lv_at hl 4 rfl) ?_
                refine lv_iadd hx hb dX2_agreeAt_166 ?_
                refine zz_topi (v := nI ((a * 60) + b)) (nI_add _ _) ?_
                refine lv_aload_n hx hb dX2_agreeAt_167 rfl (lv_at hl 2 rfl) ?_
                refine zz_get hC hZ 3 rfl zf_X2_25 rfl dX2_agreeAt_168 ?_
                refine zz_iast hC hZ 0 rfl (vp_in_nI (by omega) (by decide)) dX2_agreeAt_171 (fun H locs hZ => ?_)
                rw [nI_clamp (n := ((a * 60) + b)) (by omega)] at hZ
                have hZ : zz_Z g A s.heap [cw_i g l_ag 3600 (upd ag1 ((a * 60) + b) rd), cw_i g sa 60 saf, cw_l g bt 4000 btf, cw_k1 lk st rd l_ag l_dg l_ds, cw_k5 st (nI na) (nI nu) kd dp cl sa ln bt pn bf, cw_i g kd 60 kdf, cw_i g dp 60 dpf, cw_i g ln 60 lnf] H locs := hZ
                refine lv_iconst (v := 1) hx hb dX2_agreeAt_172 (by decide) ?_
                have hZ : zz_Z g A s.heap [cw_k1 lk st rd l_ag l_dg l_ds, cw_i g l_ag 3600 (upd ag1 ((a * 60) + b) rd), cw_k5 st (nI na) (nI nu) kd dp cl sa ln bt pn bf, cw_i g kd 60 kdf, cw_i g dp 60 dpf, cw_i g sa 60 saf, cw_i g ln 60 lnf, cw_l g bt 4000 btf] H locs := hZ.sub [3, 0, 4, 5, 6, 1, 7, 2] (by decide +kernel) rfl
                exact zz_zret hC hZ (by decide) (⟨(upd ag1 ((a * 60) + b) rd), Or.inr rfl, rfl⟩) (Nat.le_of_ble_eq_true rfl) (Nat.le_of_ble_eq_true rfl) dX2_agreeAt_173
              · have nc17 : ¬ lz ≤ i := fun zq => c17 (show nI (lz) ≤ nI (i) from (nI_leI (by omega) (by omega)).mpr zq)
                refine lv_aload_n hx hb dX2_agreeAt_78 rfl (lv_at hl 2 rfl) ?_
                refine zz_get hC hZ 3 rfl zf_X2_21 rfl dX2_agreeAt_79 ?_
                refine zz_get hC hZ 4 rfl zf_X2_45 rfl dX2_agreeAt_82 ?_
                refine lv_aload_n hx hb dX2_agreeAt_85 rfl (lv_at hl 2 rfl) ?_
                refine zz_get hC hZ 3 rfl zf_X2_21 rfl dX2_agreeAt_86 ?_
                refine zz_get hC hZ 4 rfl zf_X2_49 rfl dX2_agreeAt_89 ?_
                refine lv_iload_n hx hb dX2_agreeAt_92 rfl (lv_at hl 3 rfl) ?_
                refine zz_iald hC hZ 1 rfl (vp_in_nI (by omega) (by decide)) dX2_agreeAt_93 ?_
                rw [nI_clamp (n := a) (by omega)]
                refine zz_topi (v := nI sz) (es) ?_
                refine lv_iload hx hb dX2_agreeAt_94 (lv_at hl 0 rfl) ?_
                refine lv_iadd hx hb dX2_agreeAt_96 ?_
                refine zz_topi (v := nI (sz + i)) (nI_add _ _) ?_
                refine zz_lald hC hZ 2 rfl (vp_in_nI (by omega) (by decide)) dX2_agreeAt_97 ?_
                rw [nI_clamp (n := (sz + i)) (by omega)]
                refine lv_lstore (lv' := [(6, .long (btf (sz + i))), (5, .int (nI i)), (4, .int 1), (0, .ref lk), (1, .int (nI a)), (2, .int (nI b)), (3, .int 4)]) hx hb dX2_agreeAt_98 hl (by decide) rfl (fun ls hl => ?_)
                refine lv_aload_n hx hb dX2_agreeAt_100 rfl (lv_at hl 3 rfl) ?_
                refine zz_get hC hZ 3 rfl zf_X2_21 rfl dX2_agreeAt_101 ?_
                refine zz_get hC hZ 4 rfl zf_X2_45 rfl dX2_agreeAt_104 ?_
                refine lv_aload_n hx hb dX2_agreeAt_107 rfl (lv_at hl 3 rfl) ?_
                refine zz_get hC hZ 3 rfl zf_X2_21 rfl dX2_agreeAt_108 ?_
                refine zz_get hC hZ 4 rfl zf_X2_49 rfl dX2_agreeAt_111 ?_
                refine lv_iload_n hx hb dX2_agreeAt_114 rfl (lv_at hl 5 rfl) ?_
                refine zz_iald hC hZ 1 rfl (vp_in_nI (by omega) (by decide)) dX2_agreeAt_115 ?_
                rw [nI_clamp (n := b) (by omega)]
                refine zz_topi (v := nI szb) (esb) ?_
                refine lv_iload hx hb dX2_agreeAt_116 (lv_at hl 1 rfl) ?_
                refine lv_iadd hx hb dX2_agreeAt_118 ?_
                refine zz_topi (v := nI (szb + i)) (nI_add _ _) ?_
                refine zz_lald hC hZ 2 rfl (vp_in_nI (by omega) (by decide)) dX2_agreeAt_119 ?_
                rw [nI_clamp (n := (szb + i)) (by omega)]
                refine lv_lstore (lv' := [(8, .long (btf (szb + i))), (6, .long (btf (sz + i))), (5, .int (nI i)), (4, .int 1), (0, .ref lk), (1, .int (nI a)), (2, .int (nI b)), (3, .int 4)]) hx hb dX2_agreeAt_120 hl (by decide) rfl (fun ls hl => ?_)
                refine lv_lload hx hb dX2_agreeAt_122 (lv_at hl 1 rfl) ?_
                refine lv_lload hx hb dX2_agreeAt_124 (lv_at hl 0 rfl) ?_
                refine zz_lcmp_eq (tgt := 151) hC dX2_agreeAt_126 dX2_agreeAt_127 (by decide) (fun c18 => ?_) (fun c18 => ?_)
                · refine lv_iinc (v := nI (i + 1)) (lv' := [(5, .int (nI (i + 1))), (8, .long (btf (szb + i))), (6, .long (btf (sz + i))), (4, .int 1), (0, .ref lk), (1, .int (nI a)), (2, .int (nI b)), (3, .int 4)]) hx hb dX2_agreeAt_151 hl (k := 2) rfl (nI_1 _) (by decide) rfl (fun ls hl => ?_)
                  refine lv_goto (tgt := 64) hx hb dX2_agreeAt_154 (by decide) ?_
                  exact ih (i + 1) ag1 H locs ls (by omega) (by omega) hZ (lv_sub hl [0, 3, 4, 5, 6, 7] rfl)
                · refine lv_iload hx hb dX2_agreeAt_130 (lv_at hl 3 rfl) ?_
                  refine lv_if_ne (tgt := 149) hx hb dX2_agreeAt_132 (by decide) (fun c19 => ?_) (fun c => absurd c (by decide))
                  refine lv_iconst (v := 0) hx hb dX2_agreeAt_149 (by decide) ?_
                  have hZ : zz_Z g A s.heap [cw_k1 lk st rd l_ag l_dg l_ds, cw_i g l_ag 3600 ag1, cw_k5 st (nI na) (nI nu) kd dp cl sa ln bt pn bf, cw_i g kd 60 kdf, cw_i g dp 60 dpf, cw_i g sa 60 saf, cw_i g ln 60 lnf, cw_l g bt 4000 btf] H locs := hZ.sub [3, 0, 4, 5, 6, 1, 7, 2] (by decide +kernel) rfl
                  exact zz_zret hC hZ (by decide) (⟨ag1, Or.inl rfl, rfl⟩) (Nat.le_of_ble_eq_true rfl) (Nat.le_of_ble_eq_true rfl) dX2_agreeAt_150
          exact LP16 _ 0 agf H locs ls (by omega) (Nat.lt_succ_self _) hZ (lv_sub hl [0, 1, 2, 3, 4, 5] rfl)
      · refine lv_iconst (v := 0) hx hb dX2_agreeAt_39 (by decide) ?_
        have hZ : zz_Z g A s.heap [cw_k1 lk st rd l_ag l_dg l_ds, cw_i g l_ag 3600 agf, cw_k5 st (nI na) (nI nu) kd dp cl sa ln bt pn bf, cw_i g kd 60 kdf, cw_i g dp 60 dpf, cw_i g sa 60 saf, cw_i g ln 60 lnf, cw_l g bt 4000 btf] H locs := hZ.sub [3, 0, 4, 5, 6, 1, 7, 2] (by decide +kernel) rfl
        exact zz_zret hC hZ (by decide) (⟨agf, Or.inl rfl, rfl⟩) (Nat.le_of_ble_eq_true rfl) (Nat.le_of_ble_eq_true rfl) dX2_agreeAt_40
    · refine lv_iconst (v := 1) hx hb dX2_agreeAt_23 (by decide) ?_
      exact zz_zret hC hZ (by decide) (⟨agf, Or.inr rfl, rfl⟩) (Nat.le_of_ble_eq_true rfl) (Nat.le_of_ble_eq_true rfl) dX2_agreeAt_24
abbrev rm_co_rowsAgree3 : Room := { frames := 3, cells := 0, slots := 0, locals := 81 }
abbrev po_co_rowsAgree3 (g : zz_G) (lk : Nat) (l_ag : Nat) (l_dg : Nat) (l_ds : Nat) (st : Nat) (kd : Nat) (dp : Nat) (cl : Nat) (sa : Nat) (ln : Nat) (bt : Nat) (pn : Nat) (bf : Nat) (na : Nat) (nu : Nat) (rd : Int32) (kdf : Nat → Int32) (dpf : Nat → Int32) (saf : Nat → Int32) (lnf : Nat → Int32) (btf : Nat → Int64) (agf : Nat → Int32) (k : Int32) (j : Int32) (h_S : zz_SI na nu dpf saf lnf) : Int32 → va_W → Prop := fun (r : Int32) (u : va_W) => ∃ (ag2 : Nat → Int32), u = [cw_k1 lk st rd l_ag l_dg l_ds, cw_i g l_ag 3600 ag2, cw_k5 st (nI na) (nI nu) kd dp cl sa ln bt pn bf, cw_i g kd 60 kdf, cw_i g dp 60 dpf, cw_i g sa 60 saf, cw_i g ln 60 lnf, cw_l g bt 4000 btf]
set_option maxHeartbeats 4000000 in
set_option maxRecDepth 100000 in
theorem co_rowsAgree3 (g : zz_G) (lk : Nat) (l_ag : Nat) (l_dg : Nat) (l_ds : Nat) (st : Nat) (kd : Nat) (dp : Nat) (cl : Nat) (sa : Nat) (ln : Nat) (bt : Nat) (pn : Nat) (bf : Nat) (na : Nat) (nu : Nat) (rd : Int32) (kdf : Nat → Int32) (dpf : Nat → Int32) (saf : Nat → Int32) (lnf : Nat → Int32) (btf : Nat → Int64) (agf : Nat → Int32) (k : Int32) (j : Int32) (h_S : zz_SI na nu dpf saf lnf) : zz_I g yX2_rowsAgree (.code yX2_rowsAgree cX2_rowsAgree 4 (some .boolean)) rm_co_rowsAgree3 [.ref lk, .int k, .int j, .int 3] [cw_k1 lk st rd l_ag l_dg l_ds, cw_i g l_ag 3600 agf, cw_k5 st (nI na) (nI nu) kd dp cl sa ln bt pn bf, cw_i g kd 60 kdf, cw_i g dp 60 dpf, cw_i g sa 60 saf, cw_i g ln 60 lnf, cw_l g bt 4000 btf] (po_co_rowsAgree3 g lk l_ag l_dg l_ds st kd dp cl sa ln bt pn bf na nu rd kdf dpf saf lnf btf agf k j h_S) := by
  refine zz_I.intro (own := RX2) (cc := cX2_rowsAgree) (nL := 4) (by decide) rfl (Nat.le_of_ble_eq_true rfl) ?_
  intro p l e s m args below meth c A H locs ls hC hnm hs hZ hl
  obtain ⟨hx, hb, hml, hown, hts, hr, hlocks, hK⟩ := id hC
  have hl : lv_has ls 4 [(0, .ref lk), (1, .int k), (2, .int j), (3, .int 3)] := hl
  have hZ : zz_Z g A s.heap [cw_k1 lk st rd l_ag l_dg l_ds, cw_i g l_ag 3600 agf, cw_k5 st (nI na) (nI nu) kd dp cl sa ln bt pn bf, cw_i g kd 60 kdf, cw_i g dp 60 dpf, cw_i g sa 60 saf, cw_i g ln 60 lnf, cw_l g bt 4000 btf] H locs := hZ
  have hna := h_S.1
  have hnu := h_S.2.1
  refine lv_aload_n hx hb dX2_rowsAgree_0 rfl (lv_at hl 0 rfl) ?_
  refine zz_get hC hZ 0 rfl zf_X2_21 rfl dX2_rowsAgree_1 ?_
  refine lv_iload_n hx hb dX2_rowsAgree_4 rfl (lv_at hl 1 rfl) ?_
  refine zz_iV (As := [.int k]) (wc := [cw_k5 st (nI na) (nI nu) kd dp cl sa ln bt pn bf]) (wr := [cw_k1 lk st rd l_ag l_dg l_ds, cw_i g l_ag 3600 agf, cw_i g kd 60 kdf, cw_i g dp 60 dpf, cw_i g sa 60 saf, cw_i g ln 60 lnf, cw_l g bt 4000 btf]) (rest := []) hC hZ hs hl zc_X2_55 (co_has g st kd dp cl sa ln bt pn bf (nI na) (nI nu) k) [2] [0, 1, 3, 4, 5, 6, 7] rfl rfl (by decide +kernel) (ci := 5) (q0 := 0) rfl rfl rfl rfl (Nat.le_of_ble_eq_true rfl) ⟨⟨Nat.le_of_ble_eq_true rfl, Nat.le_of_ble_eq_true rfl⟩, Nat.le_of_ble_eq_true rfl, Nat.le_of_ble_eq_true rfl⟩ dX2_rowsAgree_5 (fun r1 u2 H locs hp hZ => ?_)
  obtain ⟨rfl, rfl⟩ := hp
  have hZ : zz_Z g A s.heap [cw_k1 lk st rd l_ag l_dg l_ds, cw_i g l_ag 3600 agf, cw_i g kd 60 kdf, cw_i g dp 60 dpf, cw_i g sa 60 saf, cw_i g ln 60 lnf, cw_l g bt 4000 btf, cw_k5 st (nI na) (nI nu) kd dp cl sa ln bt pn bf] H locs := hZ
  refine lv_if_eq (tgt := 38) hx hb dX2_rowsAgree_8 (by decide) (fun c3 => ?_) (fun c3 => ?_)
  · refine lv_iconst (v := 0) hx hb dX2_rowsAgree_38 (by decide) ?_
    have hZ : zz_Z g A s.heap [cw_k1 lk st rd l_ag l_dg l_ds, cw_i g l_ag 3600 agf, cw_k5 st (nI na) (nI nu) kd dp cl sa ln bt pn bf, cw_i g kd 60 kdf, cw_i g dp 60 dpf, cw_i g sa 60 saf, cw_i g ln 60 lnf, cw_l g bt 4000 btf] H locs := hZ.sub [0, 1, 7, 2, 3, 4, 5, 6] (by decide +kernel) rfl
    exact zz_zret hC hZ (by decide) (⟨agf, rfl⟩) (Nat.le_of_ble_eq_true rfl) (Nat.le_of_ble_eq_true rfl) dX2_rowsAgree_39
  · obtain ⟨a2, ha2, ea2⟩ := zl_has (by omega) c3
    have hl : lv_has ls 4 [(0, .ref lk), (1, .int (nI a2)), (2, .int j), (3, .int 3)] := by rw [← ea2]; exact hl
    refine lv_aload_n hx hb dX2_rowsAgree_11 rfl (lv_at hl 0 rfl) ?_
    refine zz_get hC hZ 0 rfl zf_X2_21 rfl dX2_rowsAgree_12 ?_
    refine lv_iload_n hx hb dX2_rowsAgree_15 rfl (lv_at hl 2 rfl) ?_
    refine zz_iV (As := [.int j]) (wc := [cw_k5 st (nI na) (nI nu) kd dp cl sa ln bt pn bf]) (wr := [cw_k1 lk st rd l_ag l_dg l_ds, cw_i g l_ag 3600 agf, cw_i g kd 60 kdf, cw_i g dp 60 dpf, cw_i g sa 60 saf, cw_i g ln 60 lnf, cw_l g bt 4000 btf]) (rest := []) hC hZ hs hl zc_X2_55 (co_has g st kd dp cl sa ln bt pn bf (nI na) (nI nu) j) [7] [0, 1, 2, 3, 4, 5, 6] rfl rfl (by decide +kernel) (ci := 5) (q0 := 0) rfl rfl rfl rfl (Nat.le_of_ble_eq_true rfl) ⟨⟨Nat.le_of_ble_eq_true rfl, Nat.le_of_ble_eq_true rfl⟩, Nat.le_of_ble_eq_true rfl, Nat.le_of_ble_eq_true rfl⟩ dX2_rowsAgree_16 (fun r4 u5 H locs hp hZ => ?_)
    obtain ⟨rfl, rfl⟩ := hp
    have hZ : zz_Z g A s.heap [cw_k1 lk st rd l_ag l_dg l_ds, cw_i g l_ag 3600 agf, cw_i g kd 60 kdf, cw_i g dp 60 dpf, cw_i g sa 60 saf, cw_i g ln 60 lnf, cw_l g bt 4000 btf, cw_k5 st (nI na) (nI nu) kd dp cl sa ln bt pn bf] H locs := hZ
    refine lv_if_eq (tgt := 38) hx hb dX2_rowsAgree_19 (by decide) (fun c6 => ?_) (fun c6 => ?_)
    · refine lv_iconst (v := 0) hx hb dX2_rowsAgree_38 (by decide) ?_
      have hZ : zz_Z g A s.heap [cw_k1 lk st rd l_ag l_dg l_ds, cw_i g l_ag 3600 agf, cw_k5 st (nI na) (nI nu) kd dp cl sa ln bt pn bf, cw_i g kd 60 kdf, cw_i g dp 60 dpf, cw_i g sa 60 saf, cw_i g ln 60 lnf, cw_l g bt 4000 btf] H locs := hZ.sub [0, 1, 7, 2, 3, 4, 5, 6] (by decide +kernel) rfl
      exact zz_zret hC hZ (by decide) (⟨agf, rfl⟩) (Nat.le_of_ble_eq_true rfl) (Nat.le_of_ble_eq_true rfl) dX2_rowsAgree_39
    · obtain ⟨b2, hb2, eb2⟩ := zl_has (by omega) c6
      have hl : lv_has ls 4 [(0, .ref lk), (1, .int (nI a2)), (2, .int (nI b2)), (3, .int 3)] := by rw [← eb2]; exact hl
      refine lv_aload_n hx hb dX2_rowsAgree_22 rfl (lv_at hl 0 rfl) ?_
      refine lv_iload_n hx hb dX2_rowsAgree_23 rfl (lv_at hl 1 rfl) ?_
      refine lv_iload_n hx hb dX2_rowsAgree_24 rfl (lv_at hl 2 rfl) ?_
      refine lv_iload_n hx hb dX2_rowsAgree_25 rfl (lv_at hl 3 rfl) ?_
      refine lv_iconst (v := 1) hx hb dX2_rowsAgree_26 (by decide) ?_
      refine lv_iadd hx hb dX2_rowsAgree_27 ?_
      refine zz_topi (v := 4) (by decide) ?_
      refine zz_iV (As := [.int (nI a2), .int (nI b2), .int 4]) (wc := [cw_k1 lk st rd l_ag l_dg l_ds, cw_i g l_ag 3600 agf, cw_k5 st (nI na) (nI nu) kd dp cl sa ln bt pn bf, cw_i g kd 60 kdf, cw_i g dp 60 dpf, cw_i g sa 60 saf, cw_i g ln 60 lnf, cw_l g bt 4000 btf]) (wr := []) (rest := []) hC hZ hs hl zc_X2_29 (co_agree4 g lk l_ag l_dg l_ds st kd dp cl sa ln bt pn bf na nu rd kdf dpf saf lnf btf agf a2 b2 (h_S) (by omega)) [0, 1, 7, 2, 3, 4, 5, 6] [] rfl rfl (by decide +kernel) (ci := 1) (q0 := 0) rfl rfl rfl rfl (Nat.le_of_ble_eq_true rfl) ⟨⟨Nat.le_of_ble_eq_true rfl, Nat.le_of_ble_eq_true rfl⟩, Nat.le_of_ble_eq_true rfl, Nat.le_of_ble_eq_true rfl⟩ dX2_rowsAgree_28 (fun r7 u8 H locs hp hZ => ?_)
      obtain ⟨ag2_9, f10, rfl⟩ := hp
      have hZ : zz_Z g A s.heap [cw_k1 lk st rd l_ag l_dg l_ds, cw_i g l_ag 3600 ag2_9, cw_k5 st (nI na) (nI nu) kd dp cl sa ln bt pn bf, cw_i g kd 60 kdf, cw_i g dp 60 dpf, cw_i g sa 60 saf, cw_i g ln 60 lnf, cw_l g bt 4000 btf] H locs := hZ
      refine lv_if_eq (tgt := 38) hx hb dX2_rowsAgree_31 (by decide) (fun c11 => ?_) (fun c11 => ?_)
      · refine lv_iconst (v := 0) hx hb dX2_rowsAgree_38 (by decide) ?_
        exact zz_zret hC hZ (by decide) (⟨ag2_9, rfl⟩) (Nat.le_of_ble_eq_true rfl) (Nat.le_of_ble_eq_true rfl) dX2_rowsAgree_39
      · refine lv_iconst (v := 1) hx hb dX2_rowsAgree_34 (by decide) ?_
        refine lv_goto (tgt := 39) hx hb dX2_rowsAgree_35 (by decide) ?_
        exact zz_zret hC hZ (by decide) (⟨ag2_9, rfl⟩) (Nat.le_of_ble_eq_true rfl) (Nat.le_of_ble_eq_true rfl) dX2_rowsAgree_39
abbrev rm_co_agree3 : Room := { frames := 4, cells := 0, slots := 0, locals := 104 }
abbrev po_co_agree3 (g : zz_G) (lk : Nat) (l_ag : Nat) (l_dg : Nat) (l_ds : Nat) (st : Nat) (kd : Nat) (dp : Nat) (cl : Nat) (sa : Nat) (ln : Nat) (bt : Nat) (pn : Nat) (bf : Nat) (na : Nat) (nu : Nat) (rd : Int32) (kdf : Nat → Int32) (dpf : Nat → Int32) (saf : Nat → Int32) (lnf : Nat → Int32) (btf : Nat → Int64) (agf : Nat → Int32) (a : Nat) (b : Nat) (h_S : zz_SI na nu dpf saf lnf) (h_a : a < na ∧ b < na) : Int32 → va_W → Prop := fun (r : Int32) (u : va_W) => ∃ (ag2 : Nat → Int32), (r = 0 ∨ r = 1) ∧ u = [cw_k1 lk st rd l_ag l_dg l_ds, cw_i g l_ag 3600 ag2, cw_k5 st (nI na) (nI nu) kd dp cl sa ln bt pn bf, cw_i g kd 60 kdf, cw_i g dp 60 dpf, cw_i g sa 60 saf, cw_i g ln 60 lnf, cw_l g bt 4000 btf]
set_option maxHeartbeats 4000000 in
set_option maxRecDepth 100000 in
theorem co_agree3 (g : zz_G) (lk : Nat) (l_ag : Nat) (l_dg : Nat) (l_ds : Nat) (st : Nat) (kd : Nat) (dp : Nat) (cl : Nat) (sa : Nat) (ln : Nat) (bt : Nat) (pn : Nat) (bf : Nat) (na : Nat) (nu : Nat) (rd : Int32) (kdf : Nat → Int32) (dpf : Nat → Int32) (saf : Nat → Int32) (lnf : Nat → Int32) (btf : Nat → Int64) (agf : Nat → Int32) (a : Nat) (b : Nat) (h_S : zz_SI na nu dpf saf lnf) (h_a : a < na ∧ b < na) : zz_I g yX2_agreeAt (.code yX2_agreeAt cX2_agreeAt 10 (some .boolean)) rm_co_agree3 [.ref lk, .int (nI a), .int (nI b), .int 3] [cw_k1 lk st rd l_ag l_dg l_ds, cw_i g l_ag 3600 agf, cw_k5 st (nI na) (nI nu) kd dp cl sa ln bt pn bf, cw_i g kd 60 kdf, cw_i g dp 60 dpf, cw_i g sa 60 saf, cw_i g ln 60 lnf, cw_l g bt 4000 btf] (po_co_agree3 g lk l_ag l_dg l_ds st kd dp cl sa ln bt pn bf na nu rd kdf dpf saf lnf btf agf a b h_S h_a) := by
  refine zz_I.intro (own := RX2) (cc := cX2_agreeAt) (nL := 10) (by decide) rfl (Nat.le_of_ble_eq_true rfl) ?_
  intro p l e s m args below meth c A H locs ls hC hnm hs hZ hl
  obtain ⟨hx, hb, hml, hown, hts, hr, hlocks, hK⟩ := id hC
  have hl : lv_has ls 10 [(0, .ref lk), (1, .int (nI a)), (2, .int (nI b)), (3, .int 3)] := hl
  have hZ : zz_Z g A s.heap [cw_k1 lk st rd l_ag l_dg l_ds, cw_i g l_ag 3600 agf, cw_k5 st (nI na) (nI nu) kd dp cl sa ln bt pn bf, cw_i g kd 60 kdf, cw_i g dp 60 dpf, cw_i g sa 60 saf, cw_i g ln 60 lnf, cw_l g bt 4000 btf] H locs := hZ
  have hna := h_S.1
  have hnu := h_S.2.1
  obtain ⟨sz, lz, dz, es, el, ed, g1, g2, g3, g4⟩ := h_S.2.2 a h_a.1
  obtain ⟨szb, lzb, dzb, esb, elb, edb, g1b, g2b, g3b, g4b⟩ := h_S.2.2 b h_a.2
  refine lv_iload_n hx hb dX2_agreeAt_0 rfl (lv_at hl 1 rfl) ?_
  refine lv_iload_n hx hb dX2_agreeAt_1 rfl (lv_at hl 2 rfl) ?_
  refine lv_icmp_eq (tgt := 23) hx hb dX2_agreeAt_2 (by decide) (fun c1 => ?_) (fun c1 => ?_)
  · have nc1 : a = b := (nI_eq (by omega) (by omega)).mp (show nI (a) = nI (b) from c1)
    refine lv_iconst (v := 1) hx hb dX2_agreeAt_23 (by decide) ?_
    exact zz_zret hC hZ (by decide) (⟨agf, Or.inr rfl, rfl⟩) (Nat.le_of_ble_eq_true rfl) (Nat.le_of_ble_eq_true rfl) dX2_agreeAt_24
  · have nc1 : ¬ a = b := fun zq => c1 (show nI (a) = nI (b) from (nI_eq (by omega) (by omega)).mpr zq)
    refine lv_aload_n hx hb dX2_agreeAt_5 rfl (lv_at hl 0 rfl) ?_
    refine zz_get hC hZ 0 rfl zf_X2_9 rfl dX2_agreeAt_6 ?_
    refine lv_iload_n hx hb dX2_agreeAt_9 rfl (lv_at hl 1 rfl) ?_
    refine lv_bipush (v := 60) hx hb dX2_agreeAt_10 (by decide) ?_
    refine lv_imul hx hb dX2_agreeAt_12 ?_
    refine zz_topi (v := nI (a * 60)) (pk_mul _ 60) ?_
    refine lv_iload_n hx hb dX2_agreeAt_13 rfl (lv_at hl 2 rfl) ?_
    refine lv_iadd hx hb dX2_agreeAt_14 ?_
    refine zz_topi (v := nI ((a * 60) + b)) (nI_add _ _) ?_
    refine zz_iald hC hZ 1 rfl (vp_in_nI (by omega) (by decide)) dX2_agreeAt_15 ?_
    rw [nI_clamp (n := ((a * 60) + b)) (by omega)]
    refine lv_aload_n hx hb dX2_agreeAt_16 rfl (lv_at hl 0 rfl) ?_
    refine zz_get hC hZ 0 rfl zf_X2_25 rfl dX2_agreeAt_17 ?_
    refine lv_icmp_ne (tgt := 25) hx hb dX2_agreeAt_20 (by decide) (fun c2 => ?_) (fun c2 => ?_)
    · refine lv_iload_n hx hb dX2_agreeAt_25 rfl (lv_at hl 3 rfl) ?_
      refine lv_iconst (v := 4) hx hb dX2_agreeAt_26 (by decide) ?_
      refine lv_icmp_gt (tgt := 39) hx hb dX2_agreeAt_27 (by decide) (fun c => absurd c (by decide)) (fun c3 => ?_)
      refine lv_aload_n hx hb dX2_agreeAt_30 rfl (lv_at hl 0 rfl) ?_
      refine lv_iload_n hx hb dX2_agreeAt_31 rfl (lv_at hl 1 rfl) ?_
      refine lv_iload_n hx hb dX2_agreeAt_32 rfl (lv_at hl 2 rfl) ?_
      refine zz_iV (As := [.int (nI a), .int (nI b)]) (wc := [cw_k1 lk st rd l_ag l_dg l_ds, cw_k5 st (nI na) (nI nu) kd dp cl sa ln bt pn bf, cw_i g kd 60 kdf, cw_i g dp 60 dpf, cw_i g ln 60 lnf]) (wr := [cw_i g l_ag 3600 agf, cw_i g sa 60 saf, cw_l g bt 4000 btf]) (rest := []) hC hZ hs hl zc_X2_33 (co_sameShape g lk l_ag l_dg l_ds st kd dp cl sa ln bt pn bf na nu rd kdf dpf lnf a b (by omega)) [0, 2, 3, 4, 6] [1, 5, 7] rfl rfl (by decide +kernel) (ci := 1) (q0 := 0) rfl rfl rfl rfl (Nat.le_of_ble_eq_true rfl) ⟨⟨Nat.le_of_ble_eq_true rfl, Nat.le_of_ble_eq_true rfl⟩, Nat.le_of_ble_eq_true rfl, Nat.le_of_ble_eq_true rfl⟩ dX2_agreeAt_33 (fun r4 u5 H locs hp hZ => ?_)
      obtain ⟨rfl, rfl⟩ := hp
      have hZ : zz_Z g A s.heap [cw_i g l_ag 3600 agf, cw_i g sa 60 saf, cw_l g bt 4000 btf, cw_k1 lk st rd l_ag l_dg l_ds, cw_k5 st (nI na) (nI nu) kd dp cl sa ln bt pn bf, cw_i g kd 60 kdf, cw_i g dp 60 dpf, cw_i g ln 60 lnf] H locs := hZ
      refine lv_if_ne (tgt := 41) hx hb dX2_agreeAt_36 (by decide) (fun c6 => ?_) (fun c6 => ?_)
      · have hlz : lz = lzb := (nI_eq (by omega) (by omega)).mp (el.symm.trans ((zl_shape c6).trans elb))
        refine lv_aload_n hx hb dX2_agreeAt_41 rfl (lv_at hl 0 rfl) ?_
        refine zz_get hC hZ 3 rfl zf_X2_21 rfl dX2_agreeAt_42 ?_
        refine zz_get hC hZ 4 rfl zf_X2_37 rfl dX2_agreeAt_45 ?_
        refine lv_iload_n hx hb dX2_agreeAt_48 rfl (lv_at hl 1 rfl) ?_
        refine zz_iald hC hZ 6 rfl (vp_in_nI (by omega) (by decide)) dX2_agreeAt_49 ?_
        rw [nI_clamp (n := a) (by omega)]
        refine zz_topi (v := nI dz) (ed) ?_
        refine lv_iconst (v := 1) hx hb dX2_agreeAt_50 (by decide) ?_
        refine lv_icmp_ne (tgt := 58) hx hb dX2_agreeAt_51 (by decide) (fun c7 => ?_) (fun c7 => ?_)
        · have nc7 : ¬ dz = 1 := fun zq => c7 (show nI (dz) = nI (1) from (nI_eq (by omega) (by omega)).mpr zq)
          refine lv_iconst (v := 0) hx hb dX2_agreeAt_58 (by decide) ?_
          refine lv_istore (lv' := [(4, .int 0), (0, .ref lk), (1, .int (nI a)), (2, .int (nI b)), (3, .int 3)]) hx hb dX2_agreeAt_59 hl (by decide) rfl (fun ls hl => ?_)
          refine lv_iconst (v := 0) hx hb dX2_agreeAt_61 (by decide) ?_
          refine lv_istore (lv' := [(5, .int 0), (4, .int 0), (0, .ref lk), (1, .int (nI a)), (2, .int (nI b)), (3, .int 3)]) hx hb dX2_agreeAt_62 hl (by decide) rfl (fun ls hl => ?_)
          have LP8 : ∀ (N : Nat) (i : Nat) (ag1 : Nat → Int32) (H : Heap) (locs : List Loc) (ls : Array Slot), (i ≤ lz) → (lz - i) < N → zz_Z g A s.heap [cw_i g l_ag 3600 ag1, cw_i g sa 60 saf, cw_l g bt 4000 btf, cw_k1 lk st rd l_ag l_dg l_ds, cw_k5 st (nI na) (nI nu) kd dp cl sa ln bt pn bf, cw_i g kd 60 kdf, cw_i g dp 60 dpf, cw_i g ln 60 lnf] H locs → lv_has ls 10 [(5, .int (nI i)), (4, .int 0), (0, .ref lk), (1, .int (nI a)), (2, .int (nI b)), (3, .int 3)] → W p l e rm_co_agree3 s m args below meth c H locs 0 0 (zz_QI below g args s A rm_co_agree3.cells rm_co_agree3.slots (po_co_agree3 g lk l_ag l_dg l_ds st kd dp cl sa ln bt pn bf na nu rd kdf dpf saf lnf btf agf a b h_S h_a)) (F0 m 64 ls []) := by
            intro N
            induction N with
            | zero =>
              intro i ag1 H locs ls hi hN
              exact absurd hN (Nat.not_lt_zero _)
            | succ N ih =>
              intro i ag1 H locs ls hi hN hZ hl
              refine lv_iload hx hb dX2_agreeAt_64 (lv_at hl 0 rfl) ?_
              refine lv_aload_n hx hb dX2_agreeAt_66 rfl (lv_at hl 2 rfl) ?_
              refine zz_get hC hZ 3 rfl zf_X2_21 rfl dX2_agreeAt_67 ?_
              refine zz_get hC hZ 4 rfl zf_X2_42 rfl dX2_agreeAt_70 ?_
              refine lv_iload_n hx hb dX2_agreeAt_73 rfl (lv_at hl 3 rfl) ?_
              refine zz_iald hC hZ 7 rfl (vp_in_nI (by omega) (by decide)) dX2_agreeAt_74 ?_
              rw [nI_clamp (n := a) (by omega)]
              refine zz_topi (v := nI lz) (el) ?_
              refine lv_icmp_ge (tgt := 157) hx hb dX2_agreeAt_75 (by decide) (fun c9 => ?_) (fun c9 => ?_)
              · have nc9 : lz ≤ i := (nI_leI (by omega) (by omega)).mp (show nI (lz) ≤ nI (i) from c9)
                refine lv_aload_n hx hb dX2_agreeAt_157 rfl (lv_at hl 2 rfl) ?_
                refine zz_get hC hZ 3 rfl zf_X2_9 rfl dX2_agreeAt_158 ?_
                refine lv_iload_n hx hb dX2_agreeAt_161 rfl (lv_at hl 3 rfl) ?_
                refine lv_bipush (v := 60) hx hb dX2_agreeAt_162 (by decide) ?_
                refine lv_imul hx hb dX2_agreeAt_164 ?_
                refine zz_topi (v := nI (a * 60)) (pk_mul _ 60) ?_
                refine lv_iload_n hx hb dX2_agreeAt_165 rfl (lv_at hl 4 rfl) ?_
                refine lv_iadd hx hb dX2_agreeAt_166 ?_
                refine zz_topi (v := nI ((a * 60) + b)) (nI_add _ _) ?_
                refine lv_aload_n hx hb dX2_agreeAt_167 rfl (lv_at hl 2 rfl) ?_
                refine zz_get hC hZ 3 rfl zf_X2_25 rfl dX2_agreeAt_168 ?_
                refine zz_iast hC hZ 0 rfl (vp_in_nI (by omega) (by decide)) dX2_agreeAt_171 (fun H locs hZ => ?_)
                rw [nI_clamp (n := ((a * 60) + b)) (by omega)] at hZ
                have hZ : zz_Z g A s.heap [cw_i g l_ag 3600 (upd ag1 ((a * 60) + b) rd), cw_i g sa 60 saf, cw_l g bt 4000 btf, cw_k1 lk st rd l_ag l_dg l_ds, cw_k5 st (nI na) (nI nu) kd dp cl sa ln bt pn bf, cw_i g kd 60 kdf, cw_i g dp 60 dpf, cw_i g ln 60 lnf] H locs := hZ
                refine lv_iconst (v := 1) hx hb dX2_agreeAt_172 (by decide) ?_
                have hZ : zz_Z g A s.heap [cw_k1 lk st rd l_ag l_dg l_ds, cw_i g l_ag 3600 (upd ag1 ((a * 60) + b) rd), cw_k5 st (nI na) (nI nu) kd dp cl sa ln bt pn bf, cw_i g kd 60 kdf, cw_i g dp 60 dpf, cw_i g sa 60 saf, cw_i g ln 60 lnf, cw_l g bt 4000 btf] H locs := hZ.sub [3, 0, 4, 5, 6, 1, 7, 2] (by decide +kernel) rfl
                exact zz_zret hC hZ (by decide) (⟨(upd ag1 ((a * 60) + b) rd), Or.inr rfl, rfl⟩) (Nat.le_of_ble_eq_true rfl) (Nat.le_of_ble_eq_true rfl) dX2_agreeAt_173
              · have nc9 : ¬ lz ≤ i := fun zq => c9 (show nI (lz) ≤ nI (i) from (nI_leI (by omega) (by omega)).mpr zq)
                refine lv_aload_n hx hb dX2_agreeAt_78 rfl (lv_at hl 2 rfl) ?_
                refine zz_get hC hZ 3 rfl zf_X2_21 rfl dX2_agreeAt_79 ?_
                refine zz_get hC hZ 4 rfl zf_X2_45 rfl dX2_agreeAt_82 ?_
                refine lv_aload_n hx hb dX2_agreeAt_85 rfl (lv_at hl 2 rfl) ?_
                refine zz_get hC hZ 3 rfl zf_X2_21 rfl dX2_agreeAt_86 ?_
                refine zz_get hC hZ 4 rfl zf_X2_49 rfl dX2_agreeAt_89 ?_
                refine lv_iload_n hx hb dX2_agreeAt_92 rfl (lv_at hl 3 rfl) ?_
                refine zz_iald hC hZ 1 rfl (vp_in_nI (by omega) (by decide)) dX2_agreeAt_93 ?_
                rw [nI_clamp (n := a) (by omega)]
                refine zz_topi (v := nI sz) (es) ?_
                refine lv_iload hx hb dX2_agreeAt_94 (lv_at hl 0 rfl) ?_
                refine lv_iadd hx hb dX2_agreeAt_96 ?_
                refine zz_topi (v := nI (sz + i)) (nI_add _ _) ?_
                refine zz_lald hC hZ 2 rfl (vp_in_nI (by omega) (by decide)) dX2_agreeAt_97 ?_
                rw [nI_clamp (n := (sz + i)) (by omega)]
                refine lv_lstore (lv' := [(6, .long (btf (sz + i))), (5, .int (nI i)), (4, .int 0), (0, .ref lk), (1, .int (nI a)), (2, .int (nI b)), (3, .int 3)]) hx hb dX2_agreeAt_98 hl (by decide) rfl (fun ls hl => ?_)
                refine lv_aload_n hx hb dX2_agreeAt_100 rfl (lv_at hl 3 rfl) ?_
                refine zz_get hC hZ 3 rfl zf_X2_21 rfl dX2_agreeAt_101 ?_
                refine zz_get hC hZ 4 rfl zf_X2_45 rfl dX2_agreeAt_104 ?_
                refine lv_aload_n hx hb dX2_agreeAt_107 rfl (lv_at hl 3 rfl) ?_
                refine zz_get hC hZ 3 rfl zf_X2_21 rfl dX2_agreeAt_108 ?_
                refine zz_get hC hZ 4 rfl zf_X2_49 rfl dX2_agreeAt_111 ?_
                refine lv_iload_n hx hb dX2_agreeAt_114 rfl (lv_at hl 5 rfl) ?_
                refine zz_iald hC hZ 1 rfl (vp_in_nI (by omega) (by decide)) dX2_agreeAt_115 ?_
                rw [nI_clamp (n := b) (by omega)]
                refine zz_topi (v := nI szb) (esb) ?_
                refine lv_iload hx hb dX2_agreeAt_116 (lv_at hl 1 rfl) ?_
                refine lv_iadd hx hb dX2_agreeAt_118 ?_
                refine zz_topi (v := nI (szb + i)) (nI_add _ _) ?_
                refine zz_lald hC hZ 2 rfl (vp_in_nI (by omega) (by decide)) dX2_agreeAt_119 ?_
                rw [nI_clamp (n := (szb + i)) (by omega)]
                refine lv_lstore (lv' := [(8, .long (btf (szb + i))), (6, .long (btf (sz + i))), (5, .int (nI i)), (4, .int 0), (0, .ref lk), (1, .int (nI a)), (2, .int (nI b)), (3, .int 3)]) hx hb dX2_agreeAt_120 hl (by decide) rfl (fun ls hl => ?_)
                refine lv_lload hx hb dX2_agreeAt_122 (lv_at hl 1 rfl) ?_
                refine lv_lload hx hb dX2_agreeAt_124 (lv_at hl 0 rfl) ?_
                refine zz_lcmp_eq (tgt := 151) hC dX2_agreeAt_126 dX2_agreeAt_127 (by decide) (fun c10 => ?_) (fun c10 => ?_)
                · refine lv_iinc (v := nI (i + 1)) (lv' := [(5, .int (nI (i + 1))), (8, .long (btf (szb + i))), (6, .long (btf (sz + i))), (4, .int 0), (0, .ref lk), (1, .int (nI a)), (2, .int (nI b)), (3, .int 3)]) hx hb dX2_agreeAt_151 hl (k := 2) rfl (nI_1 _) (by decide) rfl (fun ls hl => ?_)
                  refine lv_goto (tgt := 64) hx hb dX2_agreeAt_154 (by decide) ?_
                  exact ih (i + 1) ag1 H locs ls (by omega) (by omega) hZ (lv_sub hl [0, 3, 4, 5, 6, 7] rfl)
                · refine lv_iload hx hb dX2_agreeAt_130 (lv_at hl 3 rfl) ?_
                  refine lv_if_ne (tgt := 149) hx hb dX2_agreeAt_132 (by decide) (fun c => absurd (by decide) c) (fun c11 => ?_)
                  refine lv_aload_n hx hb dX2_agreeAt_135 rfl (lv_at hl 4 rfl) ?_
                  refine lv_lload hx hb dX2_agreeAt_136 (lv_at hl 1 rfl) ?_
                  refine lv_l2i hx hb dX2_agreeAt_138 rfl ?_
                  refine lv_lload hx hb dX2_agreeAt_139 (lv_at hl 0 rfl) ?_
                  refine lv_l2i hx hb dX2_agreeAt_141 rfl ?_
                  refine lv_iload_n hx hb dX2_agreeAt_142 rfl (lv_at hl 7 rfl) ?_
                  refine zz_iV (As := [.int ((btf (sz + i)).toInt32), .int ((btf (szb + i)).toInt32), .int 3]) (wc := [cw_k1 lk st rd l_ag l_dg l_ds, cw_i g l_ag 3600 ag1, cw_k5 st (nI na) (nI nu) kd dp cl sa ln bt pn bf, cw_i g kd 60 kdf, cw_i g dp 60 dpf, cw_i g sa 60 saf, cw_i g ln 60 lnf, cw_l g bt 4000 btf]) (wr := []) (rest := []) hC hZ hs hl zc_X2_52 (co_rowsAgree3 g lk l_ag l_dg l_ds st kd dp cl sa ln bt pn bf na nu rd kdf dpf saf lnf btf ag1 ((btf (sz + i)).toInt32) ((btf (szb + i)).toInt32) (h_S)) [3, 0, 4, 5, 6, 1, 7, 2] [] rfl rfl (by decide +kernel) (ci := 1) (q0 := 0) rfl rfl rfl rfl (Nat.le_of_ble_eq_true rfl) ⟨⟨Nat.le_of_ble_eq_true rfl, Nat.le_of_ble_eq_true rfl⟩, Nat.le_of_ble_eq_true rfl, Nat.le_of_ble_eq_true rfl⟩ dX2_agreeAt_143 (fun r12 u13 H locs hp hZ => ?_)
                  obtain ⟨ag2_14, rfl⟩ := hp
                  have hZ : zz_Z g A s.heap [cw_k1 lk st rd l_ag l_dg l_ds, cw_i g l_ag 3600 ag2_14, cw_k5 st (nI na) (nI nu) kd dp cl sa ln bt pn bf, cw_i g kd 60 kdf, cw_i g dp 60 dpf, cw_i g sa 60 saf, cw_i g ln 60 lnf, cw_l g bt 4000 btf] H locs := hZ
                  refine lv_if_ne (tgt := 151) hx hb dX2_agreeAt_146 (by decide) (fun c15 => ?_) (fun c15 => ?_)
                  · refine lv_iinc (v := nI (i + 1)) (lv' := [(5, .int (nI (i + 1))), (8, .long (btf (szb + i))), (6, .long (btf (sz + i))), (4, .int 0), (0, .ref lk), (1, .int (nI a)), (2, .int (nI b)), (3, .int 3)]) hx hb dX2_agreeAt_151 hl (k := 2) rfl (nI_1 _) (by decide) rfl (fun ls hl => ?_)
                    refine lv_goto (tgt := 64) hx hb dX2_agreeAt_154 (by decide) ?_
                    exact ih (i + 1) ag2_14 H locs ls (by omega) (by omega) (hZ.sub [1, 5, 7, 0, 2, 3, 4, 6] (by decide +kernel) rfl) (lv_sub hl [0, 3, 4, 5, 6, 7] rfl)
                  · refine lv_iconst (v := 0) hx hb dX2_agreeAt_149 (by decide) ?_
                    exact zz_zret hC hZ (by decide) (⟨ag2_14, Or.inl rfl, rfl⟩) (Nat.le_of_ble_eq_true rfl) (Nat.le_of_ble_eq_true rfl) dX2_agreeAt_150
          exact LP8 _ 0 agf H locs ls (by omega) (Nat.lt_succ_self _) hZ (lv_sub hl [0, 1, 2, 3, 4, 5] rfl)
        · have nc7 : dz = 1 := (nI_eq (by omega) (by omega)).mp (show nI (dz) = nI (1) from c7)
          refine lv_iconst (v := 1) hx hb dX2_agreeAt_54 (by decide) ?_
          refine lv_goto (tgt := 59) hx hb dX2_agreeAt_55 (by decide) ?_
          refine lv_istore (lv' := [(4, .int 1), (0, .ref lk), (1, .int (nI a)), (2, .int (nI b)), (3, .int 3)]) hx hb dX2_agreeAt_59 hl (by decide) rfl (fun ls hl => ?_)
          refine lv_iconst (v := 0) hx hb dX2_agreeAt_61 (by decide) ?_
          refine lv_istore (lv' := [(5, .int 0), (4, .int 1), (0, .ref lk), (1, .int (nI a)), (2, .int (nI b)), (3, .int 3)]) hx hb dX2_agreeAt_62 hl (by decide) rfl (fun ls hl => ?_)
          have LP16 : ∀ (N : Nat) (i : Nat) (ag1 : Nat → Int32) (H : Heap) (locs : List Loc) (ls : Array Slot), (i ≤ lz) → (lz - i) < N → zz_Z g A s.heap [cw_i g l_ag 3600 ag1, cw_i g sa 60 saf, cw_l g bt 4000 btf, cw_k1 lk st rd l_ag l_dg l_ds, cw_k5 st (nI na) (nI nu) kd dp cl sa ln bt pn bf, cw_i g kd 60 kdf, cw_i g dp 60 dpf, cw_i g ln 60 lnf] H locs → lv_has ls 10 [(5, .int (nI i)), (4, .int 1), (0, .ref lk), (1, .int (nI a)), (2, .int (nI b)), (3, .int 3)] → W p l e rm_co_agree3 s m args below meth c H locs 0 0 (zz_QI below g args s A rm_co_agree3.cells rm_co_agree3.slots (po_co_agree3 g lk l_ag l_dg l_ds st kd dp cl sa ln bt pn bf na nu rd kdf dpf saf lnf btf agf a b h_S h_a)) (F0 m 64 ls []) := by
            intro N
            induction N with
            | zero =>
              intro i ag1 H locs ls hi hN
              exact absurd hN (Nat.not_lt_zero _)
            | succ N ih =>
              intro i ag1 H locs ls hi hN hZ hl
              refine lv_iload hx hb dX2_agreeAt_64 (lv_at hl 0 rfl) ?_
              refine lv_aload_n hx hb dX2_agreeAt_66 rfl (lv_at hl 2 rfl) ?_
              refine zz_get hC hZ 3 rfl zf_X2_21 rfl dX2_agreeAt_67 ?_
              refine zz_get hC hZ 4 rfl zf_X2_42 rfl dX2_agreeAt_70 ?_
              refine lv_iload_n hx hb dX2_agreeAt_73 rfl (lv_at hl 3 rfl) ?_
              refine zz_iald hC hZ 7 rfl (vp_in_nI (by omega) (by decide)) dX2_agreeAt_74 ?_
              rw [nI_clamp (n := a) (by omega)]
              refine zz_topi (v := nI lz) (el) ?_
              refine lv_icmp_ge (tgt := 157) hx hb dX2_agreeAt_75 (by decide) (fun c17 => ?_) (fun c17 => ?_)
              · have nc17 : lz ≤ i := (nI_leI (by omega) (by omega)).mp (show nI (lz) ≤ nI (i) from c17)
                refine lv_aload_n hx hb dX2_agreeAt_157 rfl (lv_at hl 2 rfl) ?_
                refine zz_get hC hZ 3 rfl zf_X2_9 rfl dX2_agreeAt_158 ?_
                refine lv_iload_n hx hb dX2_agreeAt_161 rfl (lv_at hl 3 rfl) ?_
                refine lv_bipush (v := 60) hx hb dX2_agreeAt_162 (by decide) ?_
                refine lv_imul hx hb dX2_agreeAt_164 ?_
                refine zz_topi (v := nI (a * 60)) (pk_mul _ 60) ?_
                refine lv_iload_n hx hb dX2_agreeAt_165 rfl (lv_at hl 4 rfl) ?_
                refine lv_iadd hx hb dX2_agreeAt_166 ?_
                refine zz_topi (v := nI ((a * 60) + b)) (nI_add _ _) ?_
                refine lv_aload_n hx hb dX2_agreeAt_167 rfl (lv_at hl 2 rfl) ?_
                refine zz_get hC hZ 3 rfl zf_X2_25 rfl dX2_agreeAt_168 ?_
                refine zz_iast hC hZ 0 rfl (vp_in_nI (by omega) (by decide)) dX2_agreeAt_171 (fun H locs hZ => ?_)
                rw [nI_clamp (n := ((a * 60) + b)) (by omega)] at hZ
                have hZ : zz_Z g A s.heap [cw_i g l_ag 3600 (upd ag1 ((a * 60) + b) rd), cw_i g sa 60 saf, cw_l g bt 4000 btf, cw_k1 lk st rd l_ag l_dg l_ds, cw_k5 st (nI na) (nI nu) kd dp cl sa ln bt pn bf, cw_i g kd 60 kdf, cw_i g dp 60 dpf, cw_i g ln 60 lnf] H locs := hZ
                refine lv_iconst (v := 1) hx hb dX2_agreeAt_172 (by decide) ?_
                have hZ : zz_Z g A s.heap [cw_k1 lk st rd l_ag l_dg l_ds, cw_i g l_ag 3600 (upd ag1 ((a * 60) + b) rd), cw_k5 st (nI na) (nI nu) kd dp cl sa ln bt pn bf, cw_i g kd 60 kdf, cw_i g dp 60 dpf, cw_i g sa 60 saf, cw_i g ln 60 lnf, cw_l g bt 4000 btf] H locs := hZ.sub [3, 0, 4, 5, 6, 1, 7, 2] (by decide +kernel) rfl
                exact zz_zret hC hZ (by decide) (⟨(upd ag1 ((a * 60) + b) rd), Or.inr rfl, rfl⟩) (Nat.le_of_ble_eq_true rfl) (Nat.le_of_ble_eq_true rfl) dX2_agreeAt_173
              · have nc17 : ¬ lz ≤ i := fun zq => c17 (show nI (lz) ≤ nI (i) from (nI_leI (by omega) (by omega)).mpr zq)
                refine lv_aload_n hx hb dX2_agreeAt_78 rfl (lv_at hl 2 rfl) ?_
                refine zz_get hC hZ 3 rfl zf_X2_21 rfl dX2_agreeAt_79 ?_
                refine zz_get hC hZ 4 rfl zf_X2_45 rfl dX2_agreeAt_82 ?_
                refine lv_aload_n hx hb dX2_agreeAt_85 rfl (lv_at hl 2 rfl) ?_
                refine zz_get hC hZ 3 rfl zf_X2_21 rfl dX2_agreeAt_86 ?_
                refine zz_get hC hZ 4 rfl zf_X2_49 rfl dX2_agreeAt_89 ?_
                refine lv_iload_n hx hb dX2_agreeAt_92 rfl (lv_at hl 3 rfl) ?_
                refine zz_iald hC hZ 1 rfl (vp_in_nI (by omega) (by decide)) dX2_agreeAt_93 ?_
                rw [nI_clamp (n := a) (by omega)]
                refine zz_topi (v := nI sz) (es) ?_
                refine lv_iload hx hb dX2_agreeAt_94 (lv_at hl 0 rfl) ?_
                refine lv_iadd hx hb dX2_agreeAt_96 ?_
                refine zz_topi (v := nI (sz + i)) (nI_add _ _) ?_
                refine zz_lald hC hZ 2 rfl (vp_in_nI (by omega) (by decide)) dX2_agreeAt_97 ?_
                rw [nI_clamp (n := (sz + i)) (by omega)]
                refine lv_lstore (lv' := [(6, .long (btf (sz + i))), (5, .int (nI i)), (4, .int 1), (0, .ref lk), (1, .int (nI a)), (2, .int (nI b)), (3, .int 3)]) hx hb dX2_agreeAt_98 hl (by decide) rfl (fun ls hl => ?_)
                refine lv_aload_n hx hb dX2_agreeAt_100 rfl (lv_at hl 3 rfl) ?_
                refine zz_get hC hZ 3 rfl zf_X2_21 rfl dX2_agreeAt_101 ?_
                refine zz_get hC hZ 4 rfl zf_X2_45 rfl dX2_agreeAt_104 ?_
                refine lv_aload_n hx hb dX2_agreeAt_107 rfl (lv_at hl 3 rfl) ?_
                refine zz_get hC hZ 3 rfl zf_X2_21 rfl dX2_agreeAt_108 ?_
                refine zz_get hC hZ 4 rfl zf_X2_49 rfl dX2_agreeAt_111 ?_
                refine lv_iload_n hx hb dX2_agreeAt_114 rfl (lv_at hl 5 rfl) ?_
                refine zz_iald hC hZ 1 rfl (vp_in_nI (by omega) (by decide)) dX2_agreeAt_115 ?_
                rw [nI_clamp (n := b) (by omega)]
                refine zz_topi (v := nI szb) (esb) ?_
                refine lv_iload hx hb dX2_agreeAt_116 (lv_at hl 1 rfl) ?_
                refine lv_iadd hx hb dX2_agreeAt_118 ?_
                refine zz_topi (v := nI (szb + i)) (nI_add _ _) ?_
                refine zz_lald hC hZ 2 rfl (vp_in_nI (by omega) (by decide)) dX2_agreeAt_119 ?_
                rw [nI_clamp (n := (szb + i)) (by omega)]
                refine lv_lstore (lv' := [(8, .long (btf (szb + i))), (6, .long (btf (sz + i))), (5, .int (nI i)), (4, .int 1), (0, .ref lk), (1, .int (nI a)), (2, .int (nI b)), (3, .int 3)]) hx hb dX2_agreeAt_120 hl (by decide) rfl (fun ls hl => ?_)
                refine lv_lload hx hb dX2_agreeAt_122 (lv_at hl 1 rfl) ?_
                refine lv_lload hx hb dX2_agreeAt_124 (lv_at hl 0 rfl) ?_
                refine zz_lcmp_eq (tgt := 151) hC dX2_agreeAt_126 dX2_agreeAt_127 (by decide) (fun c18 => ?_) (fun c18 => ?_)
                · refine lv_iinc (v := nI (i + 1)) (lv' := [(5, .int (nI (i + 1))), (8, .long (btf (szb + i))), (6, .long (btf (sz + i))), (4, .int 1), (0, .ref lk), (1, .int (nI a)), (2, .int (nI b)), (3, .int 3)]) hx hb dX2_agreeAt_151 hl (k := 2) rfl (nI_1 _) (by decide) rfl (fun ls hl => ?_)
                  refine lv_goto (tgt := 64) hx hb dX2_agreeAt_154 (by decide) ?_
                  exact ih (i + 1) ag1 H locs ls (by omega) (by omega) hZ (lv_sub hl [0, 3, 4, 5, 6, 7] rfl)
                · refine lv_iload hx hb dX2_agreeAt_130 (lv_at hl 3 rfl) ?_
                  refine lv_if_ne (tgt := 149) hx hb dX2_agreeAt_132 (by decide) (fun c19 => ?_) (fun c => absurd c (by decide))
                  refine lv_iconst (v := 0) hx hb dX2_agreeAt_149 (by decide) ?_
                  have hZ : zz_Z g A s.heap [cw_k1 lk st rd l_ag l_dg l_ds, cw_i g l_ag 3600 ag1, cw_k5 st (nI na) (nI nu) kd dp cl sa ln bt pn bf, cw_i g kd 60 kdf, cw_i g dp 60 dpf, cw_i g sa 60 saf, cw_i g ln 60 lnf, cw_l g bt 4000 btf] H locs := hZ.sub [3, 0, 4, 5, 6, 1, 7, 2] (by decide +kernel) rfl
                  exact zz_zret hC hZ (by decide) (⟨ag1, Or.inl rfl, rfl⟩) (Nat.le_of_ble_eq_true rfl) (Nat.le_of_ble_eq_true rfl) dX2_agreeAt_150
          exact LP16 _ 0 agf H locs ls (by omega) (Nat.lt_succ_self _) hZ (lv_sub hl [0, 1, 2, 3, 4, 5] rfl)
      · refine lv_iconst (v := 0) hx hb dX2_agreeAt_39 (by decide) ?_
        have hZ : zz_Z g A s.heap [cw_k1 lk st rd l_ag l_dg l_ds, cw_i g l_ag 3600 agf, cw_k5 st (nI na) (nI nu) kd dp cl sa ln bt pn bf, cw_i g kd 60 kdf, cw_i g dp 60 dpf, cw_i g sa 60 saf, cw_i g ln 60 lnf, cw_l g bt 4000 btf] H locs := hZ.sub [3, 0, 4, 5, 6, 1, 7, 2] (by decide +kernel) rfl
        exact zz_zret hC hZ (by decide) (⟨agf, Or.inl rfl, rfl⟩) (Nat.le_of_ble_eq_true rfl) (Nat.le_of_ble_eq_true rfl) dX2_agreeAt_40
    · refine lv_iconst (v := 1) hx hb dX2_agreeAt_23 (by decide) ?_
      exact zz_zret hC hZ (by decide) (⟨agf, Or.inr rfl, rfl⟩) (Nat.le_of_ble_eq_true rfl) (Nat.le_of_ble_eq_true rfl) dX2_agreeAt_24
abbrev rm_co_rowsAgree2 : Room := { frames := 5, cells := 0, slots := 0, locals := 133 }
abbrev po_co_rowsAgree2 (g : zz_G) (lk : Nat) (l_ag : Nat) (l_dg : Nat) (l_ds : Nat) (st : Nat) (kd : Nat) (dp : Nat) (cl : Nat) (sa : Nat) (ln : Nat) (bt : Nat) (pn : Nat) (bf : Nat) (na : Nat) (nu : Nat) (rd : Int32) (kdf : Nat → Int32) (dpf : Nat → Int32) (saf : Nat → Int32) (lnf : Nat → Int32) (btf : Nat → Int64) (agf : Nat → Int32) (k : Int32) (j : Int32) (h_S : zz_SI na nu dpf saf lnf) : Int32 → va_W → Prop := fun (r : Int32) (u : va_W) => ∃ (ag2 : Nat → Int32), u = [cw_k1 lk st rd l_ag l_dg l_ds, cw_i g l_ag 3600 ag2, cw_k5 st (nI na) (nI nu) kd dp cl sa ln bt pn bf, cw_i g kd 60 kdf, cw_i g dp 60 dpf, cw_i g sa 60 saf, cw_i g ln 60 lnf, cw_l g bt 4000 btf]
set_option maxHeartbeats 4000000 in
set_option maxRecDepth 100000 in
theorem co_rowsAgree2 (g : zz_G) (lk : Nat) (l_ag : Nat) (l_dg : Nat) (l_ds : Nat) (st : Nat) (kd : Nat) (dp : Nat) (cl : Nat) (sa : Nat) (ln : Nat) (bt : Nat) (pn : Nat) (bf : Nat) (na : Nat) (nu : Nat) (rd : Int32) (kdf : Nat → Int32) (dpf : Nat → Int32) (saf : Nat → Int32) (lnf : Nat → Int32) (btf : Nat → Int64) (agf : Nat → Int32) (k : Int32) (j : Int32) (h_S : zz_SI na nu dpf saf lnf) : zz_I g yX2_rowsAgree (.code yX2_rowsAgree cX2_rowsAgree 4 (some .boolean)) rm_co_rowsAgree2 [.ref lk, .int k, .int j, .int 2] [cw_k1 lk st rd l_ag l_dg l_ds, cw_i g l_ag 3600 agf, cw_k5 st (nI na) (nI nu) kd dp cl sa ln bt pn bf, cw_i g kd 60 kdf, cw_i g dp 60 dpf, cw_i g sa 60 saf, cw_i g ln 60 lnf, cw_l g bt 4000 btf] (po_co_rowsAgree2 g lk l_ag l_dg l_ds st kd dp cl sa ln bt pn bf na nu rd kdf dpf saf lnf btf agf k j h_S) := by
  refine zz_I.intro (own := RX2) (cc := cX2_rowsAgree) (nL := 4) (by decide) rfl (Nat.le_of_ble_eq_true rfl) ?_
  intro p l e s m args below meth c A H locs ls hC hnm hs hZ hl
  obtain ⟨hx, hb, hml, hown, hts, hr, hlocks, hK⟩ := id hC
  have hl : lv_has ls 4 [(0, .ref lk), (1, .int k), (2, .int j), (3, .int 2)] := hl
  have hZ : zz_Z g A s.heap [cw_k1 lk st rd l_ag l_dg l_ds, cw_i g l_ag 3600 agf, cw_k5 st (nI na) (nI nu) kd dp cl sa ln bt pn bf, cw_i g kd 60 kdf, cw_i g dp 60 dpf, cw_i g sa 60 saf, cw_i g ln 60 lnf, cw_l g bt 4000 btf] H locs := hZ
  have hna := h_S.1
  have hnu := h_S.2.1
  refine lv_aload_n hx hb dX2_rowsAgree_0 rfl (lv_at hl 0 rfl) ?_
  refine zz_get hC hZ 0 rfl zf_X2_21 rfl dX2_rowsAgree_1 ?_
  refine lv_iload_n hx hb dX2_rowsAgree_4 rfl (lv_at hl 1 rfl) ?_
  refine zz_iV (As := [.int k]) (wc := [cw_k5 st (nI na) (nI nu) kd dp cl sa ln bt pn bf]) (wr := [cw_k1 lk st rd l_ag l_dg l_ds, cw_i g l_ag 3600 agf, cw_i g kd 60 kdf, cw_i g dp 60 dpf, cw_i g sa 60 saf, cw_i g ln 60 lnf, cw_l g bt 4000 btf]) (rest := []) hC hZ hs hl zc_X2_55 (co_has g st kd dp cl sa ln bt pn bf (nI na) (nI nu) k) [2] [0, 1, 3, 4, 5, 6, 7] rfl rfl (by decide +kernel) (ci := 5) (q0 := 0) rfl rfl rfl rfl (Nat.le_of_ble_eq_true rfl) ⟨⟨Nat.le_of_ble_eq_true rfl, Nat.le_of_ble_eq_true rfl⟩, Nat.le_of_ble_eq_true rfl, Nat.le_of_ble_eq_true rfl⟩ dX2_rowsAgree_5 (fun r1 u2 H locs hp hZ => ?_)
  obtain ⟨rfl, rfl⟩ := hp
  have hZ : zz_Z g A s.heap [cw_k1 lk st rd l_ag l_dg l_ds, cw_i g l_ag 3600 agf, cw_i g kd 60 kdf, cw_i g dp 60 dpf, cw_i g sa 60 saf, cw_i g ln 60 lnf, cw_l g bt 4000 btf, cw_k5 st (nI na) (nI nu) kd dp cl sa ln bt pn bf] H locs := hZ
  refine lv_if_eq (tgt := 38) hx hb dX2_rowsAgree_8 (by decide) (fun c3 => ?_) (fun c3 => ?_)
  · refine lv_iconst (v := 0) hx hb dX2_rowsAgree_38 (by decide) ?_
    have hZ : zz_Z g A s.heap [cw_k1 lk st rd l_ag l_dg l_ds, cw_i g l_ag 3600 agf, cw_k5 st (nI na) (nI nu) kd dp cl sa ln bt pn bf, cw_i g kd 60 kdf, cw_i g dp 60 dpf, cw_i g sa 60 saf, cw_i g ln 60 lnf, cw_l g bt 4000 btf] H locs := hZ.sub [0, 1, 7, 2, 3, 4, 5, 6] (by decide +kernel) rfl
    exact zz_zret hC hZ (by decide) (⟨agf, rfl⟩) (Nat.le_of_ble_eq_true rfl) (Nat.le_of_ble_eq_true rfl) dX2_rowsAgree_39
  · obtain ⟨a2, ha2, ea2⟩ := zl_has (by omega) c3
    have hl : lv_has ls 4 [(0, .ref lk), (1, .int (nI a2)), (2, .int j), (3, .int 2)] := by rw [← ea2]; exact hl
    refine lv_aload_n hx hb dX2_rowsAgree_11 rfl (lv_at hl 0 rfl) ?_
    refine zz_get hC hZ 0 rfl zf_X2_21 rfl dX2_rowsAgree_12 ?_
    refine lv_iload_n hx hb dX2_rowsAgree_15 rfl (lv_at hl 2 rfl) ?_
    refine zz_iV (As := [.int j]) (wc := [cw_k5 st (nI na) (nI nu) kd dp cl sa ln bt pn bf]) (wr := [cw_k1 lk st rd l_ag l_dg l_ds, cw_i g l_ag 3600 agf, cw_i g kd 60 kdf, cw_i g dp 60 dpf, cw_i g sa 60 saf, cw_i g ln 60 lnf, cw_l g bt 4000 btf]) (rest := []) hC hZ hs hl zc_X2_55 (co_has g st kd dp cl sa ln bt pn bf (nI na) (nI nu) j) [7] [0, 1, 2, 3, 4, 5, 6] rfl rfl (by decide +kernel) (ci := 5) (q0 := 0) rfl rfl rfl rfl (Nat.le_of_ble_eq_true rfl) ⟨⟨Nat.le_of_ble_eq_true rfl, Nat.le_of_ble_eq_true rfl⟩, Nat.le_of_ble_eq_true rfl, Nat.le_of_ble_eq_true rfl⟩ dX2_rowsAgree_16 (fun r4 u5 H locs hp hZ => ?_)
    obtain ⟨rfl, rfl⟩ := hp
    have hZ : zz_Z g A s.heap [cw_k1 lk st rd l_ag l_dg l_ds, cw_i g l_ag 3600 agf, cw_i g kd 60 kdf, cw_i g dp 60 dpf, cw_i g sa 60 saf, cw_i g ln 60 lnf, cw_l g bt 4000 btf, cw_k5 st (nI na) (nI nu) kd dp cl sa ln bt pn bf] H locs := hZ
    refine lv_if_eq (tgt := 38) hx hb dX2_rowsAgree_19 (by decide) (fun c6 => ?_) (fun c6 => ?_)
    · refine lv_iconst (v := 0) hx hb dX2_rowsAgree_38 (by decide) ?_
      have hZ : zz_Z g A s.heap [cw_k1 lk st rd l_ag l_dg l_ds, cw_i g l_ag 3600 agf, cw_k5 st (nI na) (nI nu) kd dp cl sa ln bt pn bf, cw_i g kd 60 kdf, cw_i g dp 60 dpf, cw_i g sa 60 saf, cw_i g ln 60 lnf, cw_l g bt 4000 btf] H locs := hZ.sub [0, 1, 7, 2, 3, 4, 5, 6] (by decide +kernel) rfl
      exact zz_zret hC hZ (by decide) (⟨agf, rfl⟩) (Nat.le_of_ble_eq_true rfl) (Nat.le_of_ble_eq_true rfl) dX2_rowsAgree_39
    · obtain ⟨b2, hb2, eb2⟩ := zl_has (by omega) c6
      have hl : lv_has ls 4 [(0, .ref lk), (1, .int (nI a2)), (2, .int (nI b2)), (3, .int 2)] := by rw [← eb2]; exact hl
      refine lv_aload_n hx hb dX2_rowsAgree_22 rfl (lv_at hl 0 rfl) ?_
      refine lv_iload_n hx hb dX2_rowsAgree_23 rfl (lv_at hl 1 rfl) ?_
      refine lv_iload_n hx hb dX2_rowsAgree_24 rfl (lv_at hl 2 rfl) ?_
      refine lv_iload_n hx hb dX2_rowsAgree_25 rfl (lv_at hl 3 rfl) ?_
      refine lv_iconst (v := 1) hx hb dX2_rowsAgree_26 (by decide) ?_
      refine lv_iadd hx hb dX2_rowsAgree_27 ?_
      refine zz_topi (v := 3) (by decide) ?_
      refine zz_iV (As := [.int (nI a2), .int (nI b2), .int 3]) (wc := [cw_k1 lk st rd l_ag l_dg l_ds, cw_i g l_ag 3600 agf, cw_k5 st (nI na) (nI nu) kd dp cl sa ln bt pn bf, cw_i g kd 60 kdf, cw_i g dp 60 dpf, cw_i g sa 60 saf, cw_i g ln 60 lnf, cw_l g bt 4000 btf]) (wr := []) (rest := []) hC hZ hs hl zc_X2_29 (co_agree3 g lk l_ag l_dg l_ds st kd dp cl sa ln bt pn bf na nu rd kdf dpf saf lnf btf agf a2 b2 (h_S) (by omega)) [0, 1, 7, 2, 3, 4, 5, 6] [] rfl rfl (by decide +kernel) (ci := 1) (q0 := 0) rfl rfl rfl rfl (Nat.le_of_ble_eq_true rfl) ⟨⟨Nat.le_of_ble_eq_true rfl, Nat.le_of_ble_eq_true rfl⟩, Nat.le_of_ble_eq_true rfl, Nat.le_of_ble_eq_true rfl⟩ dX2_rowsAgree_28 (fun r7 u8 H locs hp hZ => ?_)
      obtain ⟨ag2_9, f10, rfl⟩ := hp
      have hZ : zz_Z g A s.heap [cw_k1 lk st rd l_ag l_dg l_ds, cw_i g l_ag 3600 ag2_9, cw_k5 st (nI na) (nI nu) kd dp cl sa ln bt pn bf, cw_i g kd 60 kdf, cw_i g dp 60 dpf, cw_i g sa 60 saf, cw_i g ln 60 lnf, cw_l g bt 4000 btf] H locs := hZ
      refine lv_if_eq (tgt := 38) hx hb dX2_rowsAgree_31 (by decide) (fun c11 => ?_) (fun c11 => ?_)
      · refine lv_iconst (v := 0) hx hb dX2_rowsAgree_38 (by decide) ?_
        exact zz_zret hC hZ (by decide) (⟨ag2_9, rfl⟩) (Nat.le_of_ble_eq_true rfl) (Nat.le_of_ble_eq_true rfl) dX2_rowsAgree_39
      · refine lv_iconst (v := 1) hx hb dX2_rowsAgree_34 (by decide) ?_
        refine lv_goto (tgt := 39) hx hb dX2_rowsAgree_35 (by decide) ?_
        exact zz_zret hC hZ (by decide) (⟨ag2_9, rfl⟩) (Nat.le_of_ble_eq_true rfl) (Nat.le_of_ble_eq_true rfl) dX2_rowsAgree_39
abbrev rm_co_agree2 : Room := { frames := 6, cells := 0, slots := 0, locals := 156 }
abbrev po_co_agree2 (g : zz_G) (lk : Nat) (l_ag : Nat) (l_dg : Nat) (l_ds : Nat) (st : Nat) (kd : Nat) (dp : Nat) (cl : Nat) (sa : Nat) (ln : Nat) (bt : Nat) (pn : Nat) (bf : Nat) (na : Nat) (nu : Nat) (rd : Int32) (kdf : Nat → Int32) (dpf : Nat → Int32) (saf : Nat → Int32) (lnf : Nat → Int32) (btf : Nat → Int64) (agf : Nat → Int32) (a : Nat) (b : Nat) (h_S : zz_SI na nu dpf saf lnf) (h_a : a < na ∧ b < na) : Int32 → va_W → Prop := fun (r : Int32) (u : va_W) => ∃ (ag2 : Nat → Int32), (r = 0 ∨ r = 1) ∧ u = [cw_k1 lk st rd l_ag l_dg l_ds, cw_i g l_ag 3600 ag2, cw_k5 st (nI na) (nI nu) kd dp cl sa ln bt pn bf, cw_i g kd 60 kdf, cw_i g dp 60 dpf, cw_i g sa 60 saf, cw_i g ln 60 lnf, cw_l g bt 4000 btf]
set_option maxHeartbeats 4000000 in
set_option maxRecDepth 100000 in
theorem co_agree2 (g : zz_G) (lk : Nat) (l_ag : Nat) (l_dg : Nat) (l_ds : Nat) (st : Nat) (kd : Nat) (dp : Nat) (cl : Nat) (sa : Nat) (ln : Nat) (bt : Nat) (pn : Nat) (bf : Nat) (na : Nat) (nu : Nat) (rd : Int32) (kdf : Nat → Int32) (dpf : Nat → Int32) (saf : Nat → Int32) (lnf : Nat → Int32) (btf : Nat → Int64) (agf : Nat → Int32) (a : Nat) (b : Nat) (h_S : zz_SI na nu dpf saf lnf) (h_a : a < na ∧ b < na) : zz_I g yX2_agreeAt (.code yX2_agreeAt cX2_agreeAt 10 (some .boolean)) rm_co_agree2 [.ref lk, .int (nI a), .int (nI b), .int 2] [cw_k1 lk st rd l_ag l_dg l_ds, cw_i g l_ag 3600 agf, cw_k5 st (nI na) (nI nu) kd dp cl sa ln bt pn bf, cw_i g kd 60 kdf, cw_i g dp 60 dpf, cw_i g sa 60 saf, cw_i g ln 60 lnf, cw_l g bt 4000 btf] (po_co_agree2 g lk l_ag l_dg l_ds st kd dp cl sa ln bt pn bf na nu rd kdf dpf saf lnf btf agf a b h_S h_a) := by
  refine zz_I.intro (own := RX2) (cc := cX2_agreeAt) (nL := 10) (by decide) rfl (Nat.le_of_ble_eq_true rfl) ?_
  intro p l e s m args below meth c A H locs ls hC hnm hs hZ hl
  obtain ⟨hx, hb, hml, hown, hts, hr, hlocks, hK⟩ := id hC
  have hl : lv_has ls 10 [(0, .ref lk), (1, .int (nI a)), (2, .int (nI b)), (3, .int 2)] := hl
  have hZ : zz_Z g A s.heap [cw_k1 lk st rd l_ag l_dg l_ds, cw_i g l_ag 3600 agf, cw_k5 st (nI na) (nI nu) kd dp cl sa ln bt pn bf, cw_i g kd 60 kdf, cw_i g dp 60 dpf, cw_i g sa 60 saf, cw_i g ln 60 lnf, cw_l g bt 4000 btf] H locs := hZ
  have hna := h_S.1
  have hnu := h_S.2.1
  obtain ⟨sz, lz, dz, es, el, ed, g1, g2, g3, g4⟩ := h_S.2.2 a h_a.1
  obtain ⟨szb, lzb, dzb, esb, elb, edb, g1b, g2b, g3b, g4b⟩ := h_S.2.2 b h_a.2
  refine lv_iload_n hx hb dX2_agreeAt_0 rfl (lv_at hl 1 rfl) ?_
  refine lv_iload_n hx hb dX2_agreeAt_1 rfl (lv_at hl 2 rfl) ?_
  refine lv_icmp_eq (tgt := 23) hx hb dX2_agreeAt_2 (by decide) (fun c1 => ?_) (fun c1 => ?_)
  · have nc1 : a = b := (nI_eq (by omega) (by omega)).mp (show nI (a) = nI (b) from c1)
    refine lv_iconst (v := 1) hx hb dX2_agreeAt_23 (by decide) ?_
    exact zz_zret hC hZ (by decide) (⟨agf, Or.inr rfl, rfl⟩) (Nat.le_of_ble_eq_true rfl) (Nat.le_of_ble_eq_true rfl) dX2_agreeAt_24
  · have nc1 : ¬ a = b := fun zq => c1 (show nI (a) = nI (b) from (nI_eq (by omega) (by omega)).mpr zq)
    refine lv_aload_n hx hb dX2_agreeAt_5 rfl (lv_at hl 0 rfl) ?_
    refine zz_get hC hZ 0 rfl zf_X2_9 rfl dX2_agreeAt_6 ?_
    refine lv_iload_n hx hb dX2_agreeAt_9 rfl (lv_at hl 1 rfl) ?_
    refine lv_bipush (v := 60) hx hb dX2_agreeAt_10 (by decide) ?_
    refine lv_imul hx hb dX2_agreeAt_12 ?_
    refine zz_topi (v := nI (a * 60)) (pk_mul _ 60) ?_
    refine lv_iload_n hx hb dX2_agreeAt_13 rfl (lv_at hl 2 rfl) ?_
    refine lv_iadd hx hb dX2_agreeAt_14 ?_
    refine zz_topi (v := nI ((a * 60) + b)) (nI_add _ _) ?_
    refine zz_iald hC hZ 1 rfl (vp_in_nI (by omega) (by decide)) dX2_agreeAt_15 ?_
    rw [nI_clamp (n := ((a * 60) + b)) (by omega)]
    refine lv_aload_n hx hb dX2_agreeAt_16 rfl (lv_at hl 0 rfl) ?_
    refine zz_get hC hZ 0 rfl zf_X2_25 rfl dX2_agreeAt_17 ?_
    refine lv_icmp_ne (tgt := 25) hx hb dX2_agreeAt_20 (by decide) (fun c2 => ?_) (fun c2 => ?_)
    · refine lv_iload_n hx hb dX2_agreeAt_25 rfl (lv_at hl 3 rfl) ?_
      refine lv_iconst (v := 4) hx hb dX2_agreeAt_26 (by decide) ?_
      refine lv_icmp_gt (tgt := 39) hx hb dX2_agreeAt_27 (by decide) (fun c => absurd c (by decide)) (fun c3 => ?_)
      refine lv_aload_n hx hb dX2_agreeAt_30 rfl (lv_at hl 0 rfl) ?_
      refine lv_iload_n hx hb dX2_agreeAt_31 rfl (lv_at hl 1 rfl) ?_
      refine lv_iload_n hx hb dX2_agreeAt_32 rfl (lv_at hl 2 rfl) ?_
      refine zz_iV (As := [.int (nI a), .int (nI b)]) (wc := [cw_k1 lk st rd l_ag l_dg l_ds, cw_k5 st (nI na) (nI nu) kd dp cl sa ln bt pn bf, cw_i g kd 60 kdf, cw_i g dp 60 dpf, cw_i g ln 60 lnf]) (wr := [cw_i g l_ag 3600 agf, cw_i g sa 60 saf, cw_l g bt 4000 btf]) (rest := []) hC hZ hs hl zc_X2_33 (co_sameShape g lk l_ag l_dg l_ds st kd dp cl sa ln bt pn bf na nu rd kdf dpf lnf a b (by omega)) [0, 2, 3, 4, 6] [1, 5, 7] rfl rfl (by decide +kernel) (ci := 1) (q0 := 0) rfl rfl rfl rfl (Nat.le_of_ble_eq_true rfl) ⟨⟨Nat.le_of_ble_eq_true rfl, Nat.le_of_ble_eq_true rfl⟩, Nat.le_of_ble_eq_true rfl, Nat.le_of_ble_eq_true rfl⟩ dX2_agreeAt_33 (fun r4 u5 H locs hp hZ => ?_)
      obtain ⟨rfl, rfl⟩ := hp
      have hZ : zz_Z g A s.heap [cw_i g l_ag 3600 agf, cw_i g sa 60 saf, cw_l g bt 4000 btf, cw_k1 lk st rd l_ag l_dg l_ds, cw_k5 st (nI na) (nI nu) kd dp cl sa ln bt pn bf, cw_i g kd 60 kdf, cw_i g dp 60 dpf, cw_i g ln 60 lnf] H locs := hZ
      refine lv_if_ne (tgt := 41) hx hb dX2_agreeAt_36 (by decide) (fun c6 => ?_) (fun c6 => ?_)
      · have hlz : lz = lzb := (nI_eq (by omega) (by omega)).mp (el.symm.trans ((zl_shape c6).trans elb))
        refine lv_aload_n hx hb dX2_agreeAt_41 rfl (lv_at hl 0 rfl) ?_
        refine zz_get hC hZ 3 rfl zf_X2_21 rfl dX2_agreeAt_42 ?_
        refine zz_get hC hZ 4 rfl zf_X2_37 rfl dX2_agreeAt_45 ?_
        refine lv_iload_n hx hb dX2_agreeAt_48 rfl (lv_at hl 1 rfl) ?_
        refine zz_iald hC hZ 6 rfl (vp_in_nI (by omega) (by decide)) dX2_agreeAt_49 ?_
        rw [nI_clamp (n := a) (by omega)]
        refine zz_topi (v := nI dz) (ed) ?_
        refine lv_iconst (v := 1) hx hb dX2_agreeAt_50 (by decide) ?_
        refine lv_icmp_ne (tgt := 58) hx hb dX2_agreeAt_51 (by decide) (fun c7 => ?_) (fun c7 => ?_)
        · have nc7 : ¬ dz = 1 := fun zq => c7 (show nI (dz) = nI (1) from (nI_eq (by omega) (by omega)).mpr zq)
          refine lv_iconst (v := 0) hx hb dX2_agreeAt_58 (by decide) ?_
          refine lv_istore (lv' := [(4, .int 0), (0, .ref lk), (1, .int (nI a)), (2, .int (nI b)), (3, .int 2)]) hx hb dX2_agreeAt_59 hl (by decide) rfl (fun ls hl => ?_)
          refine lv_iconst (v := 0) hx hb dX2_agreeAt_61 (by decide) ?_
          refine lv_istore (lv' := [(5, .int 0), (4, .int 0), (0, .ref lk), (1, .int (nI a)), (2, .int (nI b)), (3, .int 2)]) hx hb dX2_agreeAt_62 hl (by decide) rfl (fun ls hl => ?_)
          have LP8 : ∀ (N : Nat) (i : Nat) (ag1 : Nat → Int32) (H : Heap) (locs : List Loc) (ls : Array Slot), (i ≤ lz) → (lz - i) < N → zz_Z g A s.heap [cw_i g l_ag 3600 ag1, cw_i g sa 60 saf, cw_l g bt 4000 btf, cw_k1 lk st rd l_ag l_dg l_ds, cw_k5 st (nI na) (nI nu) kd dp cl sa ln bt pn bf, cw_i g kd 60 kdf, cw_i g dp 60 dpf, cw_i g ln 60 lnf] H locs → lv_has ls 10 [(5, .int (nI i)), (4, .int 0), (0, .ref lk), (1, .int (nI a)), (2, .int (nI b)), (3, .int 2)] → W p l e rm_co_agree2 s m args below meth c H locs 0 0 (zz_QI below g args s A rm_co_agree2.cells rm_co_agree2.slots (po_co_agree2 g lk l_ag l_dg l_ds st kd dp cl sa ln bt pn bf na nu rd kdf dpf saf lnf btf agf a b h_S h_a)) (F0 m 64 ls []) := by
            intro N
            induction N with
            | zero =>
              intro i ag1 H locs ls hi hN
              exact absurd hN (Nat.not_lt_zero _)
            | succ N ih =>
              intro i ag1 H locs ls hi hN hZ hl
              refine lv_iload hx hb dX2_agreeAt_64 (lv_at hl 0 rfl) ?_
              refine lv_aload_n hx hb dX2_agreeAt_66 rfl (lv_at hl 2 rfl) ?_
              refine zz_get hC hZ 3 rfl zf_X2_21 rfl dX2_agreeAt_67 ?_
              refine zz_get hC hZ 4 rfl zf_X2_42 rfl dX2_agreeAt_70 ?_
              refine lv_iload_n hx hb dX2_agreeAt_73 rfl (lv_at hl 3 rfl) ?_
              refine zz_iald hC hZ 7 rfl (vp_in_nI (by omega) (by decide)) dX2_agreeAt_74 ?_
              rw [nI_clamp (n := a) (by omega)]
              refine zz_topi (v := nI lz) (el) ?_
              refine lv_icmp_ge (tgt := 157) hx hb dX2_agreeAt_75 (by decide) (fun c9 => ?_) (fun c9 => ?_)
              · have nc9 : lz ≤ i := (nI_leI (by omega) (by omega)).mp (show nI (lz) ≤ nI (i) from c9)
                refine lv_aload_n hx hb dX2_agreeAt_157 rfl (lv_at hl 2 rfl) ?_
                refine zz_get hC hZ 3 rfl zf_X2_9 rfl dX2_agreeAt_158 ?_
                refine lv_iload_n hx hb dX2_agreeAt_161 rfl (lv_at hl 3 rfl) ?_
                refine lv_bipush (v := 60) hx hb dX2_agreeAt_162 (by decide) ?_
                refine lv_imul hx hb dX2_agreeAt_164 ?_
                refine zz_topi (v := nI (a * 60)) (pk_mul _ 60) ?_
                refine lv_iload_n hx hb dX2_agreeAt_165 rfl (lv_at hl 4 rfl) ?_
                refine lv_iadd hx hb dX2_agreeAt_166 ?_
                refine zz_topi (v := nI ((a * 60) + b)) (nI_add _ _) ?_
                refine lv_aload_n hx hb dX2_agreeAt_167 rfl (lv_at hl 2 rfl) ?_
                refine zz_get hC hZ 3 rfl zf_X2_25 rfl dX2_agreeAt_168 ?_
                refine zz_iast hC hZ 0 rfl (vp_in_nI (by omega) (by decide)) dX2_agreeAt_171 (fun H locs hZ => ?_)
                rw [nI_clamp (n := ((a * 60) + b)) (by omega)] at hZ
                have hZ : zz_Z g A s.heap [cw_i g l_ag 3600 (upd ag1 ((a * 60) + b) rd), cw_i g sa 60 saf, cw_l g bt 4000 btf, cw_k1 lk st rd l_ag l_dg l_ds, cw_k5 st (nI na) (nI nu) kd dp cl sa ln bt pn bf, cw_i g kd 60 kdf, cw_i g dp 60 dpf, cw_i g ln 60 lnf] H locs := hZ
                refine lv_iconst (v := 1) hx hb dX2_agreeAt_172 (by decide) ?_
                have hZ : zz_Z g A s.heap [cw_k1 lk st rd l_ag l_dg l_ds, cw_i g l_ag 3600 (upd ag1 ((a * 60) + b) rd), cw_k5 st (nI na) (nI nu) kd dp cl sa ln bt pn bf, cw_i g kd 60 kdf, cw_i g dp 60 dpf, cw_i g sa 60 saf, cw_i g ln 60 lnf, cw_l g bt 4000 btf] H locs := hZ.sub [3, 0, 4, 5, 6, 1, 7, 2] (by decide +kernel) rfl
                exact zz_zret hC hZ (by decide) (⟨(upd ag1 ((a * 60) + b) rd), Or.inr rfl, rfl⟩) (Nat.le_of_ble_eq_true rfl) (Nat.le_of_ble_eq_true rfl) dX2_agreeAt_173
              · have nc9 : ¬ lz ≤ i := fun zq => c9 (show nI (lz) ≤ nI (i) from (nI_leI (by omega) (by omega)).mpr zq)
                refine lv_aload_n hx hb dX2_agreeAt_78 rfl (lv_at hl 2 rfl) ?_
                refine zz_get hC hZ 3 rfl zf_X2_21 rfl dX2_agreeAt_79 ?_
                refine zz_get hC hZ 4 rfl zf_X2_45 rfl dX2_agreeAt_82 ?_
                refine lv_aload_n hx hb dX2_agreeAt_85 rfl (lv_at hl 2 rfl) ?_
                refine zz_get hC hZ 3 rfl zf_X2_21 rfl dX2_agreeAt_86 ?_
                refine zz_get hC hZ 4 rfl zf_X2_49 rfl dX2_agreeAt_89 ?_
                refine lv_iload_n hx hb dX2_agreeAt_92 rfl (lv_at hl 3 rfl) ?_
                refine zz_iald hC hZ 1 rfl (vp_in_nI (by omega) (by decide)) dX2_agreeAt_93 ?_
                rw [nI_clamp (n := a) (by omega)]
                refine zz_topi (v := nI sz) (es) ?_
                refine lv_iload hx hb dX2_agreeAt_94 (lv_at hl 0 rfl) ?_
                refine lv_iadd hx hb dX2_agreeAt_96 ?_
                refine zz_topi (v := nI (sz + i)) (nI_add _ _) ?_
                refine zz_lald hC hZ 2 rfl (vp_in_nI (by omega) (by decide)) dX2_agreeAt_97 ?_
                rw [nI_clamp (n := (sz + i)) (by omega)]
                refine lv_lstore (lv' := [(6, .long (btf (sz + i))), (5, .int (nI i)), (4, .int 0), (0, .ref lk), (1, .int (nI a)), (2, .int (nI b)), (3, .int 2)]) hx hb dX2_agreeAt_98 hl (by decide) rfl (fun ls hl => ?_)
                refine lv_aload_n hx hb dX2_agreeAt_100 rfl (lv_at hl 3 rfl) ?_
                refine zz_get hC hZ 3 rfl zf_X2_21 rfl dX2_agreeAt_101 ?_
                refine zz_get hC hZ 4 rfl zf_X2_45 rfl dX2_agreeAt_104 ?_
                refine lv_aload_n hx hb dX2_agreeAt_107 rfl (lv_at hl 3 rfl) ?_
                refine zz_get hC hZ 3 rfl zf_X2_21 rfl dX2_agreeAt_108 ?_
                refine zz_get hC hZ 4 rfl zf_X2_49 rfl dX2_agreeAt_111 ?_
                refine lv_iload_n hx hb dX2_agreeAt_114 rfl (lv_at hl 5 rfl) ?_
                refine zz_iald hC hZ 1 rfl (vp_in_nI (by omega) (by decide)) dX2_agreeAt_115 ?_
                rw [nI_clamp (n := b) (by omega)]
                refine zz_topi (v := nI szb) (esb) ?_
                refine lv_iload hx hb dX2_agreeAt_116 (lv_at hl 1 rfl) ?_
                refine lv_iadd hx hb dX2_agreeAt_118 ?_
                refine zz_topi (v := nI (szb + i)) (nI_add _ _) ?_
                refine zz_lald hC hZ 2 rfl (vp_in_nI (by omega) (by decide)) dX2_agreeAt_119 ?_
                rw [nI_clamp (n := (szb + i)) (by omega)]
                refine lv_lstore (lv' := [(8, .long (btf (szb + i))), (6, .long (btf (sz + i))), (5, .int (nI i)), (4, .int 0), (0, .ref lk), (1, .int (nI a)), (2, .int (nI b)), (3, .int 2)]) hx hb dX2_agreeAt_120 hl (by decide) rfl (fun ls hl => ?_)
                refine lv_lload hx hb dX2_agreeAt_122 (lv_at hl 1 rfl) ?_
                refine lv_lload hx hb dX2_agreeAt_124 (lv_at hl 0 rfl) ?_
                refine zz_lcmp_eq (tgt := 151) hC dX2_agreeAt_126 dX2_agreeAt_127 (by decide) (fun c10 => ?_) (fun c10 => ?_)
                · refine lv_iinc (v := nI (i + 1)) (lv' := [(5, .int (nI (i + 1))), (8, .long (btf (szb + i))), (6, .long (btf (sz + i))), (4, .int 0), (0, .ref lk), (1, .int (nI a)), (2, .int (nI b)), (3, .int 2)]) hx hb dX2_agreeAt_151 hl (k := 2) rfl (nI_1 _) (by decide) rfl (fun ls hl => ?_)
                  refine lv_goto (tgt := 64) hx hb dX2_agreeAt_154 (by decide) ?_
                  exact ih (i + 1) ag1 H locs ls (by omega) (by omega) hZ (lv_sub hl [0, 3, 4, 5, 6, 7] rfl)
                · refine lv_iload hx hb dX2_agreeAt_130 (lv_at hl 3 rfl) ?_
                  refine lv_if_ne (tgt := 149) hx hb dX2_agreeAt_132 (by decide) (fun c => absurd (by decide) c) (fun c11 => ?_)
                  refine lv_aload_n hx hb dX2_agreeAt_135 rfl (lv_at hl 4 rfl) ?_
                  refine lv_lload hx hb dX2_agreeAt_136 (lv_at hl 1 rfl) ?_
                  refine lv_l2i hx hb dX2_agreeAt_138 rfl ?_
                  refine lv_lload hx hb dX2_agreeAt_139 (lv_at hl 0 rfl) ?_
                  refine lv_l2i hx hb dX2_agreeAt_141 rfl ?_
                  refine lv_iload_n hx hb dX2_agreeAt_142 rfl (lv_at hl 7 rfl) ?_
                  refine zz_iV (As := [.int ((btf (sz + i)).toInt32), .int ((btf (szb + i)).toInt32), .int 2]) (wc := [cw_k1 lk st rd l_ag l_dg l_ds, cw_i g l_ag 3600 ag1, cw_k5 st (nI na) (nI nu) kd dp cl sa ln bt pn bf, cw_i g kd 60 kdf, cw_i g dp 60 dpf, cw_i g sa 60 saf, cw_i g ln 60 lnf, cw_l g bt 4000 btf]) (wr := []) (rest := []) hC hZ hs hl zc_X2_52 (co_rowsAgree2 g lk l_ag l_dg l_ds st kd dp cl sa ln bt pn bf na nu rd kdf dpf saf lnf btf ag1 ((btf (sz + i)).toInt32) ((btf (szb + i)).toInt32) (h_S)) [3, 0, 4, 5, 6, 1, 7, 2] [] rfl rfl (by decide +kernel) (ci := 1) (q0 := 0) rfl rfl rfl rfl (Nat.le_of_ble_eq_true rfl) ⟨⟨Nat.le_of_ble_eq_true rfl, Nat.le_of_ble_eq_true rfl⟩, Nat.le_of_ble_eq_true rfl, Nat.le_of_ble_eq_true rfl⟩ dX2_agreeAt_143 (fun r12 u13 H locs hp hZ => ?_)
                  obtain ⟨ag2_14, rfl⟩ := hp
                  have hZ : zz_Z g A s.heap [cw_k1 lk st rd l_ag l_dg l_ds, cw_i g l_ag 3600 ag2_14, cw_k5 st (nI na) (nI nu) kd dp cl sa ln bt pn bf, cw_i g kd 60 kdf, cw_i g dp 60 dpf, cw_i g sa 60 saf, cw_i g ln 60 lnf, cw_l g bt 4000 btf] H locs := hZ
                  refine lv_if_ne (tgt := 151) hx hb dX2_agreeAt_146 (by decide) (fun c15 => ?_) (fun c15 => ?_)
                  · refine lv_iinc (v := nI (i + 1)) (lv' := [(5, .int (nI (i + 1))), (8, .long (btf (szb + i))), (6, .long (btf (sz + i))), (4, .int 0), (0, .ref lk), (1, .int (nI a)), (2, .int (nI b)), (3, .int 2)]) hx hb dX2_agreeAt_151 hl (k := 2) rfl (nI_1 _) (by decide) rfl (fun ls hl => ?_)
                    refine lv_goto (tgt := 64) hx hb dX2_agreeAt_154 (by decide) ?_
                    exact ih (i + 1) ag2_14 H locs ls (by omega) (by omega) (hZ.sub [1, 5, 7, 0, 2, 3, 4, 6] (by decide +kernel) rfl) (lv_sub hl [0, 3, 4, 5, 6, 7] rfl)
                  · refine lv_iconst (v := 0) hx hb dX2_agreeAt_149 (by decide) ?_
                    exact zz_zret hC hZ (by decide) (⟨ag2_14, Or.inl rfl, rfl⟩) (Nat.le_of_ble_eq_true rfl) (Nat.le_of_ble_eq_true rfl) dX2_agreeAt_150
          exact LP8 _ 0 agf H locs ls (by omega) (Nat.lt_succ_self _) hZ (lv_sub hl [0, 1, 2, 3, 4, 5] rfl)
        · have nc7 : dz = 1 := (nI_eq (by omega) (by omega)).mp (show nI (dz) = nI (1) from c7)
          refine lv_iconst (v := 1) hx hb dX2_agreeAt_54 (by decide) ?_
          refine lv_goto (tgt := 59) hx hb dX2_agreeAt_55 (by decide) ?_
          refine lv_istore (lv' := [(4, .int 1), (0, .ref lk), (1, .int (nI a)), (2, .int (nI b)), (3, .int 2)]) hx hb dX2_agreeAt_59 hl (by decide) rfl (fun ls hl => ?_)
          refine lv_iconst (v := 0) hx hb dX2_agreeAt_61 (by decide) ?_
          refine lv_istore (lv' := [(5, .int 0), (4, .int 1), (0, .ref lk), (1, .int (nI a)), (2, .int (nI b)), (3, .int 2)]) hx hb dX2_agreeAt_62 hl (by decide) rfl (fun ls hl => ?_)
          have LP16 : ∀ (N : Nat) (i : Nat) (ag1 : Nat → Int32) (H : Heap) (locs : List Loc) (ls : Array Slot), (i ≤ lz) → (lz - i) < N → zz_Z g A s.heap [cw_i g l_ag 3600 ag1, cw_i g sa 60 saf, cw_l g bt 4000 btf, cw_k1 lk st rd l_ag l_dg l_ds, cw_k5 st (nI na) (nI nu) kd dp cl sa ln bt pn bf, cw_i g kd 60 kdf, cw_i g dp 60 dpf, cw_i g ln 60 lnf] H locs → lv_has ls 10 [(5, .int (nI i)), (4, .int 1), (0, .ref lk), (1, .int (nI a)), (2, .int (nI b)), (3, .int 2)] → W p l e rm_co_agree2 s m args below meth c H locs 0 0 (zz_QI below g args s A rm_co_agree2.cells rm_co_agree2.slots (po_co_agree2 g lk l_ag l_dg l_ds st kd dp cl sa ln bt pn bf na nu rd kdf dpf saf lnf btf agf a b h_S h_a)) (F0 m 64 ls []) := by
            intro N
            induction N with
            | zero =>
              intro i ag1 H locs ls hi hN
              exact absurd hN (Nat.not_lt_zero _)
            | succ N ih =>
              intro i ag1 H locs ls hi hN hZ hl
              refine lv_iload hx hb dX2_agreeAt_64 (lv_at hl 0 rfl) ?_
              refine lv_aload_n hx hb dX2_agreeAt_66 rfl (lv_at hl 2 rfl) ?_
              refine zz_get hC hZ 3 rfl zf_X2_21 rfl dX2_agreeAt_67 ?_
              refine zz_get hC hZ 4 rfl zf_X2_42 rfl dX2_agreeAt_70 ?_
              refine lv_iload_n hx hb dX2_agreeAt_73 rfl (lv_at hl 3 rfl) ?_
              refine zz_iald hC hZ 7 rfl (vp_in_nI (by omega) (by decide)) dX2_agreeAt_74 ?_
              rw [nI_clamp (n := a) (by omega)]
              refine zz_topi (v := nI lz) (el) ?_
              refine lv_icmp_ge (tgt := 157) hx hb dX2_agreeAt_75 (by decide) (fun c17 => ?_) (fun c17 => ?_)
              · have nc17 : lz ≤ i := (nI_leI (by omega) (by omega)).mp (show nI (lz) ≤ nI (i) from c17)
                refine lv_aload_n hx hb dX2_agreeAt_157 rfl (lv_at hl 2 rfl) ?_
                refine zz_get hC hZ 3 rfl zf_X2_9 rfl dX2_agreeAt_158 ?_
                refine lv_iload_n hx hb dX2_agreeAt_161 rfl (lv_at hl 3 rfl) ?_
                refine lv_bipush (v := 60) hx hb dX2_agreeAt_162 (by decide) ?_
                refine lv_imul hx hb dX2_agreeAt_164 ?_
                refine zz_topi (v := nI (a * 60)) (pk_mul _ 60) ?_
                refine lv_iload_n hx hb dX2_agreeAt_165 rfl (lv_at hl 4 rfl) ?_
                refine lv_iadd hx hb dX2_agreeAt_166 ?_
                refine zz_topi (v := nI ((a * 60) + b)) (nI_add _ _) ?_
                refine lv_aload_n hx hb dX2_agreeAt_167 rfl (lv_at hl 2 rfl) ?_
                refine zz_get hC hZ 3 rfl zf_X2_25 rfl dX2_agreeAt_168 ?_
                refine zz_iast hC hZ 0 rfl (vp_in_nI (by omega) (by decide)) dX2_agreeAt_171 (fun H locs hZ => ?_)
                rw [nI_clamp (n := ((a * 60) + b)) (by omega)] at hZ
                have hZ : zz_Z g A s.heap [cw_i g l_ag 3600 (upd ag1 ((a * 60) + b) rd), cw_i g sa 60 saf, cw_l g bt 4000 btf, cw_k1 lk st rd l_ag l_dg l_ds, cw_k5 st (nI na) (nI nu) kd dp cl sa ln bt pn bf, cw_i g kd 60 kdf, cw_i g dp 60 dpf, cw_i g ln 60 lnf] H locs := hZ
                refine lv_iconst (v := 1) hx hb dX2_agreeAt_172 (by decide) ?_
                have hZ : zz_Z g A s.heap [cw_k1 lk st rd l_ag l_dg l_ds, cw_i g l_ag 3600 (upd ag1 ((a * 60) + b) rd), cw_k5 st (nI na) (nI nu) kd dp cl sa ln bt pn bf, cw_i g kd 60 kdf, cw_i g dp 60 dpf, cw_i g sa 60 saf, cw_i g ln 60 lnf, cw_l g bt 4000 btf] H locs := hZ.sub [3, 0, 4, 5, 6, 1, 7, 2] (by decide +kernel) rfl
                exact zz_zret hC hZ (by decide) (⟨(upd ag1 ((a * 60) + b) rd), Or.inr rfl, rfl⟩) (Nat.le_of_ble_eq_true rfl) (Nat.le_of_ble_eq_true rfl) dX2_agreeAt_173
              · have nc17 : ¬ lz ≤ i := fun zq => c17 (show nI (lz) ≤ nI (i) from (nI_leI (by omega) (by omega)).mpr zq)
                refine lv_aload_n hx hb dX2_agreeAt_78 rfl (lv_at hl 2 rfl) ?_
                refine zz_get hC hZ 3 rfl zf_X2_21 rfl dX2_agreeAt_79 ?_
                refine zz_get hC hZ 4 rfl zf_X2_45 rfl dX2_agreeAt_82 ?_
                refine lv_aload_n hx hb dX2_agreeAt_85 rfl (lv_at hl 2 rfl) ?_
                refine zz_get hC hZ 3 rfl zf_X2_21 rfl dX2_agreeAt_86 ?_
                refine zz_get hC hZ 4 rfl zf_X2_49 rfl dX2_agreeAt_89 ?_
                refine lv_iload_n hx hb dX2_agreeAt_92 rfl (lv_at hl 3 rfl) ?_
                refine zz_iald hC hZ 1 rfl (vp_in_nI (by omega) (by decide)) dX2_agreeAt_93 ?_
                rw [nI_clamp (n := a) (by omega)]
                refine zz_topi (v := nI sz) (es) ?_
                refine lv_iload hx hb dX2_agreeAt_94 (lv_at hl 0 rfl) ?_
                refine lv_iadd hx hb dX2_agreeAt_96 ?_
                refine zz_topi (v := nI (sz + i)) (nI_add _ _) ?_
                refine zz_lald hC hZ 2 rfl (vp_in_nI (by omega) (by decide)) dX2_agreeAt_97 ?_
                rw [nI_clamp (n := (sz + i)) (by omega)]
                refine lv_lstore (lv' := [(6, .long (btf (sz + i))), (5, .int (nI i)), (4, .int 1), (0, .ref lk), (1, .int (nI a)), (2, .int (nI b)), (3, .int 2)]) hx hb dX2_agreeAt_98 hl (by decide) rfl (fun ls hl => ?_)
                refine lv_aload_n hx hb dX2_agreeAt_100 rfl (lv_at hl 3 rfl) ?_
                refine zz_get hC hZ 3 rfl zf_X2_21 rfl dX2_agreeAt_101 ?_
                refine zz_get hC hZ 4 rfl zf_X2_45 rfl dX2_agreeAt_104 ?_
                refine lv_aload_n hx hb dX2_agreeAt_107 rfl (lv_at hl 3 rfl) ?_
                refine zz_get hC hZ 3 rfl zf_X2_21 rfl dX2_agreeAt_108 ?_
                refine zz_get hC hZ 4 rfl zf_X2_49 rfl dX2_agreeAt_111 ?_
                refine lv_iload_n hx hb dX2_agreeAt_114 rfl (lv_at hl 5 rfl) ?_
                refine zz_iald hC hZ 1 rfl (vp_in_nI (by omega) (by decide)) dX2_agreeAt_115 ?_
                rw [nI_clamp (n := b) (by omega)]
                refine zz_topi (v := nI szb) (esb) ?_
                refine lv_iload hx hb dX2_agreeAt_116 (lv_at hl 1 rfl) ?_
                refine lv_iadd hx hb dX2_agreeAt_118 ?_
                refine zz_topi (v := nI (szb + i)) (nI_add _ _) ?_
                refine zz_lald hC hZ 2 rfl (vp_in_nI (by omega) (by decide)) dX2_agreeAt_119 ?_
                rw [nI_clamp (n := (szb + i)) (by omega)]
                refine lv_lstore (lv' := [(8, .long (btf (szb + i))), (6, .long (btf (sz + i))), (5, .int (nI i)), (4, .int 1), (0, .ref lk), (1, .int (nI a)), (2, .int (nI b)), (3, .int 2)]) hx hb dX2_agreeAt_120 hl (by decide) rfl (fun ls hl => ?_)
                refine lv_lload hx hb dX2_agreeAt_122 (lv_at hl 1 rfl) ?_
                refine lv_lload hx hb dX2_agreeAt_124 (lv_at hl 0 rfl) ?_
                refine zz_lcmp_eq (tgt := 151) hC dX2_agreeAt_126 dX2_agreeAt_127 (by decide) (fun c18 => ?_) (fun c18 => ?_)
                · refine lv_iinc (v := nI (i + 1)) (lv' := [(5, .int (nI (i + 1))), (8, .long (btf (szb + i))), (6, .long (btf (sz + i))), (4, .int 1), (0, .ref lk), (1, .int (nI a)), (2, .int (nI b)), (3, .int 2)]) hx hb dX2_agreeAt_151 hl (k := 2) rfl (nI_1 _) (by decide) rfl (fun ls hl => ?_)
                  refine lv_goto (tgt := 64) hx hb dX2_agreeAt_154 (by decide) ?_
                  exact ih (i + 1) ag1 H locs ls (by omega) (by omega) hZ (lv_sub hl [0, 3, 4, 5, 6, 7] rfl)
                · refine lv_iload hx hb dX2_agreeAt_130 (lv_at hl 3 rfl) ?_
                  refine lv_if_ne (tgt := 149) hx hb dX2_agreeAt_132 (by decide) (fun c19 => ?_) (fun c => absurd c (by decide))
                  refine lv_iconst (v := 0) hx hb dX2_agreeAt_149 (by decide) ?_
                  have hZ : zz_Z g A s.heap [cw_k1 lk st rd l_ag l_dg l_ds, cw_i g l_ag 3600 ag1, cw_k5 st (nI na) (nI nu) kd dp cl sa ln bt pn bf, cw_i g kd 60 kdf, cw_i g dp 60 dpf, cw_i g sa 60 saf, cw_i g ln 60 lnf, cw_l g bt 4000 btf] H locs := hZ.sub [3, 0, 4, 5, 6, 1, 7, 2] (by decide +kernel) rfl
                  exact zz_zret hC hZ (by decide) (⟨ag1, Or.inl rfl, rfl⟩) (Nat.le_of_ble_eq_true rfl) (Nat.le_of_ble_eq_true rfl) dX2_agreeAt_150
          exact LP16 _ 0 agf H locs ls (by omega) (Nat.lt_succ_self _) hZ (lv_sub hl [0, 1, 2, 3, 4, 5] rfl)
      · refine lv_iconst (v := 0) hx hb dX2_agreeAt_39 (by decide) ?_
        have hZ : zz_Z g A s.heap [cw_k1 lk st rd l_ag l_dg l_ds, cw_i g l_ag 3600 agf, cw_k5 st (nI na) (nI nu) kd dp cl sa ln bt pn bf, cw_i g kd 60 kdf, cw_i g dp 60 dpf, cw_i g sa 60 saf, cw_i g ln 60 lnf, cw_l g bt 4000 btf] H locs := hZ.sub [3, 0, 4, 5, 6, 1, 7, 2] (by decide +kernel) rfl
        exact zz_zret hC hZ (by decide) (⟨agf, Or.inl rfl, rfl⟩) (Nat.le_of_ble_eq_true rfl) (Nat.le_of_ble_eq_true rfl) dX2_agreeAt_40
    · refine lv_iconst (v := 1) hx hb dX2_agreeAt_23 (by decide) ?_
      exact zz_zret hC hZ (by decide) (⟨agf, Or.inr rfl, rfl⟩) (Nat.le_of_ble_eq_true rfl) (Nat.le_of_ble_eq_true rfl) dX2_agreeAt_24
abbrev rm_co_rowsAgree1 : Room := { frames := 7, cells := 0, slots := 0, locals := 185 }
abbrev po_co_rowsAgree1 (g : zz_G) (lk : Nat) (l_ag : Nat) (l_dg : Nat) (l_ds : Nat) (st : Nat) (kd : Nat) (dp : Nat) (cl : Nat) (sa : Nat) (ln : Nat) (bt : Nat) (pn : Nat) (bf : Nat) (na : Nat) (nu : Nat) (rd : Int32) (kdf : Nat → Int32) (dpf : Nat → Int32) (saf : Nat → Int32) (lnf : Nat → Int32) (btf : Nat → Int64) (agf : Nat → Int32) (k : Int32) (j : Int32) (h_S : zz_SI na nu dpf saf lnf) : Int32 → va_W → Prop := fun (r : Int32) (u : va_W) => ∃ (ag2 : Nat → Int32), u = [cw_k1 lk st rd l_ag l_dg l_ds, cw_i g l_ag 3600 ag2, cw_k5 st (nI na) (nI nu) kd dp cl sa ln bt pn bf, cw_i g kd 60 kdf, cw_i g dp 60 dpf, cw_i g sa 60 saf, cw_i g ln 60 lnf, cw_l g bt 4000 btf]
set_option maxHeartbeats 4000000 in
set_option maxRecDepth 100000 in
theorem co_rowsAgree1 (g : zz_G) (lk : Nat) (l_ag : Nat) (l_dg : Nat) (l_ds : Nat) (st : Nat) (kd : Nat) (dp : Nat) (cl : Nat) (sa : Nat) (ln : Nat) (bt : Nat) (pn : Nat) (bf : Nat) (na : Nat) (nu : Nat) (rd : Int32) (kdf : Nat → Int32) (dpf : Nat → Int32) (saf : Nat → Int32) (lnf : Nat → Int32) (btf : Nat → Int64) (agf : Nat → Int32) (k : Int32) (j : Int32) (h_S : zz_SI na nu dpf saf lnf) : zz_I g yX2_rowsAgree (.code yX2_rowsAgree cX2_rowsAgree 4 (some .boolean)) rm_co_rowsAgree1 [.ref lk, .int k, .int j, .int 1] [cw_k1 lk st rd l_ag l_dg l_ds, cw_i g l_ag 3600 agf, cw_k5 st (nI na) (nI nu) kd dp cl sa ln bt pn bf, cw_i g kd 60 kdf, cw_i g dp 60 dpf, cw_i g sa 60 saf, cw_i g ln 60 lnf, cw_l g bt 4000 btf] (po_co_rowsAgree1 g lk l_ag l_dg l_ds st kd dp cl sa ln bt pn bf na nu rd kdf dpf saf lnf btf agf k j h_S) := by
  refine zz_I.intro (own := RX2) (cc := cX2_rowsAgree) (nL := 4) (by decide) rfl (Nat.le_of_ble_eq_true rfl) ?_
  intro p l e s m args below meth c A H locs ls hC hnm hs hZ hl
  obtain ⟨hx, hb, hml, hown, hts, hr, hlocks, hK⟩ := id hC
  have hl : lv_has ls 4 [(0, .ref lk), (1, .int k), (2, .int j), (3, .int 1)] := hl
  have hZ : zz_Z g A s.heap [cw_k1 lk st rd l_ag l_dg l_ds, cw_i g l_ag 3600 agf, cw_k5 st (nI na) (nI nu) kd dp cl sa ln bt pn bf, cw_i g kd 60 kdf, cw_i g dp 60 dpf, cw_i g sa 60 saf, cw_i g ln 60 lnf, cw_l g bt 4000 btf] H locs := hZ
  have hna := h_S.1
  have hnu := h_S.2.1
  refine lv_aload_n hx hb dX2_rowsAgree_0 rfl (lv_at hl 0 rfl) ?_
  refine zz_get hC hZ 0 rfl zf_X2_21 rfl dX2_rowsAgree_1 ?_
  refine lv_iload_n hx hb dX2_rowsAgree_4 rfl (lv_at hl 1 rfl) ?_
  refine zz_iV (As := [.int k]) (wc := [cw_k5 st (nI na) (nI nu) kd dp cl sa ln bt pn bf]) (wr := [cw_k1 lk st rd l_ag l_dg l_ds, cw_i g l_ag 3600 agf, cw_i g kd 60 kdf, cw_i g dp 60 dpf, cw_i g sa 60 saf, cw_i g ln 60 lnf, cw_l g bt 4000 btf]) (rest := []) hC hZ hs hl zc_X2_55 (co_has g st kd dp cl sa ln bt pn bf (nI na) (nI nu) k) [2] [0, 1, 3, 4, 5, 6, 7] rfl rfl (by decide +kernel) (ci := 5) (q0 := 0) rfl rfl rfl rfl (Nat.le_of_ble_eq_true rfl) ⟨⟨Nat.le_of_ble_eq_true rfl, Nat.le_of_ble_eq_true rfl⟩, Nat.le_of_ble_eq_true rfl, Nat.le_of_ble_eq_true rfl⟩ dX2_rowsAgree_5 (fun r1 u2 H locs hp hZ => ?_)
  obtain ⟨rfl, rfl⟩ := hp
  have hZ : zz_Z g A s.heap [cw_k1 lk st rd l_ag l_dg l_ds, cw_i g l_ag 3600 agf, cw_i g kd 60 kdf, cw_i g dp 60 dpf, cw_i g sa 60 saf, cw_i g ln 60 lnf, cw_l g bt 4000 btf, cw_k5 st (nI na) (nI nu) kd dp cl sa ln bt pn bf] H locs := hZ
  refine lv_if_eq (tgt := 38) hx hb dX2_rowsAgree_8 (by decide) (fun c3 => ?_) (fun c3 => ?_)
  · refine lv_iconst (v := 0) hx hb dX2_rowsAgree_38 (by decide) ?_
    have hZ : zz_Z g A s.heap [cw_k1 lk st rd l_ag l_dg l_ds, cw_i g l_ag 3600 agf, cw_k5 st (nI na) (nI nu) kd dp cl sa ln bt pn bf, cw_i g kd 60 kdf, cw_i g dp 60 dpf, cw_i g sa 60 saf, cw_i g ln 60 lnf, cw_l g bt 4000 btf] H locs := hZ.sub [0, 1, 7, 2, 3, 4, 5, 6] (by decide +kernel) rfl
    exact zz_zret hC hZ (by decide) (⟨agf, rfl⟩) (Nat.le_of_ble_eq_true rfl) (Nat.le_of_ble_eq_true rfl) dX2_rowsAgree_39
  · obtain ⟨a2, ha2, ea2⟩ := zl_has (by omega) c3
    have hl : lv_has ls 4 [(0, .ref lk), (1, .int (nI a2)), (2, .int j), (3, .int 1)] := by rw [← ea2]; exact hl
    refine lv_aload_n hx hb dX2_rowsAgree_11 rfl (lv_at hl 0 rfl) ?_
    refine zz_get hC hZ 0 rfl zf_X2_21 rfl dX2_rowsAgree_12 ?_
    refine lv_iload_n hx hb dX2_rowsAgree_15 rfl (lv_at hl 2 rfl) ?_
    refine zz_iV (As := [.int j]) (wc := [cw_k5 st (nI na) (nI nu) kd dp cl sa ln bt pn bf]) (wr := [cw_k1 lk st rd l_ag l_dg l_ds, cw_i g l_ag 3600 agf, cw_i g kd 60 kdf, cw_i g dp 60 dpf, cw_i g sa 60 saf, cw_i g ln 60 lnf, cw_l g bt 4000 btf]) (rest := []) hC hZ hs hl zc_X2_55 (co_has g st kd dp cl sa ln bt pn bf (nI na) (nI nu) j) [7] [0, 1, 2, 3, 4, 5, 6] rfl rfl (by decide +kernel) (ci := 5) (q0 := 0) rfl rfl rfl rfl (Nat.le_of_ble_eq_true rfl) ⟨⟨Nat.le_of_ble_eq_true rfl, Nat.le_of_ble_eq_true rfl⟩, Nat.le_of_ble_eq_true rfl, Nat.le_of_ble_eq_true rfl⟩ dX2_rowsAgree_16 (fun r4 u5 H locs hp hZ => ?_)
    obtain ⟨rfl, rfl⟩ := hp
    have hZ : zz_Z g A s.heap [cw_k1 lk st rd l_ag l_dg l_ds, cw_i g l_ag 3600 agf, cw_i g kd 60 kdf, cw_i g dp 60 dpf, cw_i g sa 60 saf, cw_i g ln 60 lnf, cw_l g bt 4000 btf, cw_k5 st (nI na) (nI nu) kd dp cl sa ln bt pn bf] H locs := hZ
    refine lv_if_eq (tgt := 38) hx hb dX2_rowsAgree_19 (by decide) (fun c6 => ?_) (fun c6 => ?_)
    · refine lv_iconst (v := 0) hx hb dX2_rowsAgree_38 (by decide) ?_
      have hZ : zz_Z g A s.heap [cw_k1 lk st rd l_ag l_dg l_ds, cw_i g l_ag 3600 agf, cw_k5 st (nI na) (nI nu) kd dp cl sa ln bt pn bf, cw_i g kd 60 kdf, cw_i g dp 60 dpf, cw_i g sa 60 saf, cw_i g ln 60 lnf, cw_l g bt 4000 btf] H locs := hZ.sub [0, 1, 7, 2, 3, 4, 5, 6] (by decide +kernel) rfl
      exact zz_zret hC hZ (by decide) (⟨agf, rfl⟩) (Nat.le_of_ble_eq_true rfl) (Nat.le_of_ble_eq_true rfl) dX2_rowsAgree_39
    · obtain ⟨b2, hb2, eb2⟩ := zl_has (by omega) c6
      have hl : lv_has ls 4 [(0, .ref lk), (1, .int (nI a2)), (2, .int (nI b2)), (3, .int 1)] := by rw [← eb2]; exact hl
      refine lv_aload_n hx hb dX2_rowsAgree_22 rfl (lv_at hl 0 rfl) ?_
      refine lv_iload_n hx hb dX2_rowsAgree_23 rfl (lv_at hl 1 rfl) ?_
      refine lv_iload_n hx hb dX2_rowsAgree_24 rfl (lv_at hl 2 rfl) ?_
      refine lv_iload_n hx hb dX2_rowsAgree_25 rfl (lv_at hl 3 rfl) ?_
      refine lv_iconst (v := 1) hx hb dX2_rowsAgree_26 (by decide) ?_
      refine lv_iadd hx hb dX2_rowsAgree_27 ?_
      refine zz_topi (v := 2) (by decide) ?_
      refine zz_iV (As := [.int (nI a2), .int (nI b2), .int 2]) (wc := [cw_k1 lk st rd l_ag l_dg l_ds, cw_i g l_ag 3600 agf, cw_k5 st (nI na) (nI nu) kd dp cl sa ln bt pn bf, cw_i g kd 60 kdf, cw_i g dp 60 dpf, cw_i g sa 60 saf, cw_i g ln 60 lnf, cw_l g bt 4000 btf]) (wr := []) (rest := []) hC hZ hs hl zc_X2_29 (co_agree2 g lk l_ag l_dg l_ds st kd dp cl sa ln bt pn bf na nu rd kdf dpf saf lnf btf agf a2 b2 (h_S) (by omega)) [0, 1, 7, 2, 3, 4, 5, 6] [] rfl rfl (by decide +kernel) (ci := 1) (q0 := 0) rfl rfl rfl rfl (Nat.le_of_ble_eq_true rfl) ⟨⟨Nat.le_of_ble_eq_true rfl, Nat.le_of_ble_eq_true rfl⟩, Nat.le_of_ble_eq_true rfl, Nat.le_of_ble_eq_true rfl⟩ dX2_rowsAgree_28 (fun r7 u8 H locs hp hZ => ?_)
      obtain ⟨ag2_9, f10, rfl⟩ := hp
      have hZ : zz_Z g A s.heap [cw_k1 lk st rd l_ag l_dg l_ds, cw_i g l_ag 3600 ag2_9, cw_k5 st (nI na) (nI nu) kd dp cl sa ln bt pn bf, cw_i g kd 60 kdf, cw_i g dp 60 dpf, cw_i g sa 60 saf, cw_i g ln 60 lnf, cw_l g bt 4000 btf] H locs := hZ
      refine lv_if_eq (tgt := 38) hx hb dX2_rowsAgree_31 (by decide) (fun c11 => ?_) (fun c11 => ?_)
      · refine lv_iconst (v := 0) hx hb dX2_rowsAgree_38 (by decide) ?_
        exact zz_zret hC hZ (by decide) (⟨ag2_9, rfl⟩) (Nat.le_of_ble_eq_true rfl) (Nat.le_of_ble_eq_true rfl) dX2_rowsAgree_39
      · refine lv_iconst (v := 1) hx hb dX2_rowsAgree_34 (by decide) ?_
        refine lv_goto (tgt := 39) hx hb dX2_rowsAgree_35 (by decide) ?_
        exact zz_zret hC hZ (by decide) (⟨ag2_9, rfl⟩) (Nat.le_of_ble_eq_true rfl) (Nat.le_of_ble_eq_true rfl) dX2_rowsAgree_39
abbrev rm_co_agree1 : Room := { frames := 8, cells := 0, slots := 0, locals := 208 }
abbrev po_co_agree1 (g : zz_G) (lk : Nat) (l_ag : Nat) (l_dg : Nat) (l_ds : Nat) (st : Nat) (kd : Nat) (dp : Nat) (cl : Nat) (sa : Nat) (ln : Nat) (bt : Nat) (pn : Nat) (bf : Nat) (na : Nat) (nu : Nat) (rd : Int32) (kdf : Nat → Int32) (dpf : Nat → Int32) (saf : Nat → Int32) (lnf : Nat → Int32) (btf : Nat → Int64) (agf : Nat → Int32) (a : Nat) (b : Nat) (h_S : zz_SI na nu dpf saf lnf) (h_a : a < na ∧ b < na) : Int32 → va_W → Prop := fun (r : Int32) (u : va_W) => ∃ (ag2 : Nat → Int32), (r = 0 ∨ r = 1) ∧ u = [cw_k1 lk st rd l_ag l_dg l_ds, cw_i g l_ag 3600 ag2, cw_k5 st (nI na) (nI nu) kd dp cl sa ln bt pn bf, cw_i g kd 60 kdf, cw_i g dp 60 dpf, cw_i g sa 60 saf, cw_i g ln 60 lnf, cw_l g bt 4000 btf]
set_option maxHeartbeats 4000000 in
set_option maxRecDepth 100000 in
theorem co_agree1 (g : zz_G) (lk : Nat) (l_ag : Nat) (l_dg : Nat) (l_ds : Nat) (st : Nat) (kd : Nat) (dp : Nat) (cl : Nat) (sa : Nat) (ln : Nat) (bt : Nat) (pn : Nat) (bf : Nat) (na : Nat) (nu : Nat) (rd : Int32) (kdf : Nat → Int32) (dpf : Nat → Int32) (saf : Nat → Int32) (lnf : Nat → Int32) (btf : Nat → Int64) (agf : Nat → Int32) (a : Nat) (b : Nat) (h_S : zz_SI na nu dpf saf lnf) (h_a : a < na ∧ b < na) : zz_I g yX2_agreeAt (.code yX2_agreeAt cX2_agreeAt 10 (some .boolean)) rm_co_agree1 [.ref lk, .int (nI a), .int (nI b), .int 1] [cw_k1 lk st rd l_ag l_dg l_ds, cw_i g l_ag 3600 agf, cw_k5 st (nI na) (nI nu) kd dp cl sa ln bt pn bf, cw_i g kd 60 kdf, cw_i g dp 60 dpf, cw_i g sa 60 saf, cw_i g ln 60 lnf, cw_l g bt 4000 btf] (po_co_agree1 g lk l_ag l_dg l_ds st kd dp cl sa ln bt pn bf na nu rd kdf dpf saf lnf btf agf a b h_S h_a) := by
  refine zz_I.intro (own := RX2) (cc := cX2_agreeAt) (nL := 10) (by decide) rfl (Nat.le_of_ble_eq_true rfl) ?_
  intro p l e s m args below meth c A H locs ls hC hnm hs hZ hl
  obtain ⟨hx, hb, hml, hown, hts, hr, hlocks, hK⟩ := id hC
  have hl : lv_has ls 10 [(0, .ref lk), (1, .int (nI a)), (2, .int (nI b)), (3, .int 1)] := hl
  have hZ : zz_Z g A s.heap [cw_k1 lk st rd l_ag l_dg l_ds, cw_i g l_ag 3600 agf, cw_k5 st (nI na) (nI nu) kd dp cl sa ln bt pn bf, cw_i g kd 60 kdf, cw_i g dp 60 dpf, cw_i g sa 60 saf, cw_i g ln 60 lnf, cw_l g bt 4000 btf] H locs := hZ
  have hna := h_S.1
  have hnu := h_S.2.1
  obtain ⟨sz, lz, dz, es, el, ed, g1, g2, g3, g4⟩ := h_S.2.2 a h_a.1
  obtain ⟨szb, lzb, dzb, esb, elb, edb, g1b, g2b, g3b, g4b⟩ := h_S.2.2 b h_a.2
  refine lv_iload_n hx hb dX2_agreeAt_0 rfl (lv_at hl 1 rfl) ?_
  refine lv_iload_n hx hb dX2_agreeAt_1 rfl (lv_at hl 2 rfl) ?_
  refine lv_icmp_eq (tgt := 23) hx hb dX2_agreeAt_2 (by decide) (fun c1 => ?_) (fun c1 => ?_)
  · have nc1 : a = b := (nI_eq (by omega) (by omega)).mp (show nI (a) = nI (b) from c1)
    refine lv_iconst (v := 1) hx hb dX2_agreeAt_23 (by decide) ?_
    exact zz_zret hC hZ (by decide) (⟨agf, Or.inr rfl, rfl⟩) (Nat.le_of_ble_eq_true rfl) (Nat.le_of_ble_eq_true rfl) dX2_agreeAt_24
  · have nc1 : ¬ a = b := fun zq => c1 (show nI (a) = nI (b) from (nI_eq (by omega) (by omega)).mpr zq)
    refine lv_aload_n hx hb dX2_agreeAt_5 rfl (lv_at hl 0 rfl) ?_
    refine zz_get hC hZ 0 rfl zf_X2_9 rfl dX2_agreeAt_6 ?_
    refine lv_iload_n hx hb dX2_agreeAt_9 rfl (lv_at hl 1 rfl) ?_
    refine lv_bipush (v := 60) hx hb dX2_agreeAt_10 (by decide) ?_
    refine lv_imul hx hb dX2_agreeAt_12 ?_
    refine zz_topi (v := nI (a * 60)) (pk_mul _ 60) ?_
    refine lv_iload_n hx hb dX2_agreeAt_13 rfl (lv_at hl 2 rfl) ?_
    refine lv_iadd hx hb dX2_agreeAt_14 ?_
    refine zz_topi (v := nI ((a * 60) + b)) (nI_add _ _) ?_
    refine zz_iald hC hZ 1 rfl (vp_in_nI (by omega) (by decide)) dX2_agreeAt_15 ?_
    rw [nI_clamp (n := ((a * 60) + b)) (by omega)]
    refine lv_aload_n hx hb dX2_agreeAt_16 rfl (lv_at hl 0 rfl) ?_
    refine zz_get hC hZ 0 rfl zf_X2_25 rfl dX2_agreeAt_17 ?_
    refine lv_icmp_ne (tgt := 25) hx hb dX2_agreeAt_20 (by decide) (fun c2 => ?_) (fun c2 => ?_)
    · refine lv_iload_n hx hb dX2_agreeAt_25 rfl (lv_at hl 3 rfl) ?_
      refine lv_iconst (v := 4) hx hb dX2_agreeAt_26 (by decide) ?_
      refine lv_icmp_gt (tgt := 39) hx hb dX2_agreeAt_27 (by decide) (fun c => absurd c (by decide)) (fun c3 => ?_)
      refine lv_aload_n hx hb dX2_agreeAt_30 rfl (lv_at hl 0 rfl) ?_
      refine lv_iload_n hx hb dX2_agreeAt_31 rfl (lv_at hl 1 rfl) ?_
      refine lv_iload_n hx hb dX2_agreeAt_32 rfl (lv_at hl 2 rfl) ?_
      refine zz_iV (As := [.int (nI a), .int (nI b)]) (wc := [cw_k1 lk st rd l_ag l_dg l_ds, cw_k5 st (nI na) (nI nu) kd dp cl sa ln bt pn bf, cw_i g kd 60 kdf, cw_i g dp 60 dpf, cw_i g ln 60 lnf]) (wr := [cw_i g l_ag 3600 agf, cw_i g sa 60 saf, cw_l g bt 4000 btf]) (rest := []) hC hZ hs hl zc_X2_33 (co_sameShape g lk l_ag l_dg l_ds st kd dp cl sa ln bt pn bf na nu rd kdf dpf lnf a b (by omega)) [0, 2, 3, 4, 6] [1, 5, 7] rfl rfl (by decide +kernel) (ci := 1) (q0 := 0) rfl rfl rfl rfl (Nat.le_of_ble_eq_true rfl) ⟨⟨Nat.le_of_ble_eq_true rfl, Nat.le_of_ble_eq_true rfl⟩, Nat.le_of_ble_eq_true rfl, Nat.le_of_ble_eq_true rfl⟩ dX2_agreeAt_33 (fun r4 u5 H locs hp hZ => ?_)
      obtain ⟨rfl, rfl⟩ := hp
      have hZ : zz_Z g A s.heap [cw_i g l_ag 3600 agf, cw_i g sa 60 saf, cw_l g bt 4000 btf, cw_k1 lk st rd l_ag l_dg l_ds, cw_k5 st (nI na) (nI nu) kd dp cl sa ln bt pn bf, cw_i g kd 60 kdf, cw_i g dp 60 dpf, cw_i g ln 60 lnf] H locs := hZ
      refine lv_if_ne (tgt := 41) hx hb dX2_agreeAt_36 (by decide) (fun c6 => ?_) (fun c6 => ?_)
      · have hlz : lz = lzb := (nI_eq (by omega) (by omega)).mp (el.symm.trans ((zl_shape c6).trans elb))
        refine lv_aload_n hx hb dX2_agreeAt_41 rfl (lv_at hl 0 rfl) ?_
        refine zz_get hC hZ 3 rfl zf_X2_21 rfl dX2_agreeAt_42 ?_
        refine zz_get hC hZ 4 rfl zf_X2_37 rfl dX2_agreeAt_45 ?_
        refine lv_iload_n hx hb dX2_agreeAt_48 rfl (lv_at hl 1 rfl) ?_
        refine zz_iald hC hZ 6 rfl (vp_in_nI (by omega) (by decide)) dX2_agreeAt_49 ?_
        rw [nI_clamp (n := a) (by omega)]
        refine zz_topi (v := nI dz) (ed) ?_
        refine lv_iconst (v := 1) hx hb dX2_agreeAt_50 (by decide) ?_
        refine lv_icmp_ne (tgt := 58) hx hb dX2_agreeAt_51 (by decide) (fun c7 => ?_) (fun c7 => ?_)
        · have nc7 : ¬ dz = 1 := fun zq => c7 (show nI (dz) = nI (1) from (nI_eq (by omega) (by omega)).mpr zq)
          refine lv_iconst (v := 0) hx hb dX2_agreeAt_58 (by decide) ?_
          refine lv_istore (lv' := [(4, .int 0), (0, .ref lk), (1, .int (nI a)), (2, .int (nI b)), (3, .int 1)]) hx hb dX2_agreeAt_59 hl (by decide) rfl (fun ls hl => ?_)
          refine lv_iconst (v := 0) hx hb dX2_agreeAt_61 (by decide) ?_
          refine lv_istore (lv' := [(5, .int 0), (4, .int 0), (0, .ref lk), (1, .int (nI a)), (2, .int (nI b)), (3, .int 1)]) hx hb dX2_agreeAt_62 hl (by decide) rfl (fun ls hl => ?_)
          have LP8 : ∀ (N : Nat) (i : Nat) (ag1 : Nat → Int32) (H : Heap) (locs : List Loc) (ls : Array Slot), (i ≤ lz) → (lz - i) < N → zz_Z g A s.heap [cw_i g l_ag 3600 ag1, cw_i g sa 60 saf, cw_l g bt 4000 btf, cw_k1 lk st rd l_ag l_dg l_ds, cw_k5 st (nI na) (nI nu) kd dp cl sa ln bt pn bf, cw_i g kd 60 kdf, cw_i g dp 60 dpf, cw_i g ln 60 lnf] H locs → lv_has ls 10 [(5, .int (nI i)), (4, .int 0), (0, .ref lk), (1, .int (nI a)), (2, .int (nI b)), (3, .int 1)] → W p l e rm_co_agree1 s m args below meth c H locs 0 0 (zz_QI below g args s A rm_co_agree1.cells rm_co_agree1.slots (po_co_agree1 g lk l_ag l_dg l_ds st kd dp cl sa ln bt pn bf na nu rd kdf dpf saf lnf btf agf a b h_S h_a)) (F0 m 64 ls []) := by
            intro N
            induction N with
            | zero =>
              intro i ag1 H locs ls hi hN
              exact absurd hN (Nat.not_lt_zero _)
            | succ N ih =>
              intro i ag1 H locs ls hi hN hZ hl
              refine lv_iload hx hb dX2_agreeAt_64 (lv_at hl 0 rfl) ?_
              refine lv_aload_n hx hb dX2_agreeAt_66 rfl (lv_at hl 2 rfl) ?_
              refine zz_get hC hZ 3 rfl zf_X2_21 rfl dX2_agreeAt_67 ?_
              refine zz_get hC hZ 4 rfl zf_X2_42 rfl dX2_agreeAt_70 ?_
              refine lv_iload_n hx hb dX2_agreeAt_73 rfl (lv_at hl 3 rfl) ?_
              refine zz_iald hC hZ 7 rfl (vp_in_nI (by omega) (by decide)) dX2_agreeAt_74 ?_
              rw [nI_clamp (n := a) (by omega)]
              refine zz_topi (v := nI lz) (el) ?_
              refine lv_icmp_ge (tgt := 157) hx hb dX2_agreeAt_75 (by decide) (fun c9 => ?_) (fun c9 => ?_)
              · have nc9 : lz ≤ i := (nI_leI (by omega) (by omega)).mp (show nI (lz) ≤ nI (i) from c9)
                refine lv_aload_n hx hb dX2_agreeAt_157 rfl (lv_at hl 2 rfl) ?_
                refine zz_get hC hZ 3 rfl zf_X2_9 rfl dX2_agreeAt_158 ?_
                refine lv_iload_n hx hb dX2_agreeAt_161 rfl (lv_at hl 3 rfl) ?_
                refine lv_bipush (v := 60) hx hb dX2_agreeAt_162 (by decide) ?_
                refine lv_imul hx hb dX2_agreeAt_164 ?_
                refine zz_topi (v := nI (a * 60)) (pk_mul _ 60) ?_
                refine lv_iload_n hx hb dX2_agreeAt_165 rfl (lv_at hl 4 rfl) ?_
                refine lv_iadd hx hb dX2_agreeAt_166 ?_
                refine zz_topi (v := nI ((a * 60) + b)) (nI_add _ _) ?_
                refine lv_aload_n hx hb dX2_agreeAt_167 rfl (lv_at hl 2 rfl) ?_
                refine zz_get hC hZ 3 rfl zf_X2_25 rfl dX2_agreeAt_168 ?_
                refine zz_iast hC hZ 0 rfl (vp_in_nI (by omega) (by decide)) dX2_agreeAt_171 (fun H locs hZ => ?_)
                rw [nI_clamp (n := ((a * 60) + b)) (by omega)] at hZ
                have hZ : zz_Z g A s.heap [cw_i g l_ag 3600 (upd ag1 ((a * 60) + b) rd), cw_i g sa 60 saf, cw_l g bt 4000 btf, cw_k1 lk st rd l_ag l_dg l_ds, cw_k5 st (nI na) (nI nu) kd dp cl sa ln bt pn bf, cw_i g kd 60 kdf, cw_i g dp 60 dpf, cw_i g ln 60 lnf] H locs := hZ
                refine lv_iconst (v := 1) hx hb dX2_agreeAt_172 (by decide) ?_
                have hZ : zz_Z g A s.heap [cw_k1 lk st rd l_ag l_dg l_ds, cw_i g l_ag 3600 (upd ag1 ((a * 60) + b) rd), cw_k5 st (nI na) (nI nu) kd dp cl sa ln bt pn bf, cw_i g kd 60 kdf, cw_i g dp 60 dpf, cw_i g sa 60 saf, cw_i g ln 60 lnf, cw_l g bt 4000 btf] H locs := hZ.sub [3, 0, 4, 5, 6, 1, 7, 2] (by decide +kernel) rfl
                exact zz_zret hC hZ (by decide) (⟨(upd ag1 ((a * 60) + b) rd), Or.inr rfl, rfl⟩) (Nat.le_of_ble_eq_true rfl) (Nat.le_of_ble_eq_true rfl) dX2_agreeAt_173
              · have nc9 : ¬ lz ≤ i := fun zq => c9 (show nI (lz) ≤ nI (i) from (nI_leI (by omega) (by omega)).mpr zq)
                refine lv_aload_n hx hb dX2_agreeAt_78 rfl (lv_at hl 2 rfl) ?_
                refine zz_get hC hZ 3 rfl zf_X2_21 rfl dX2_agreeAt_79 ?_
                refine zz_get hC hZ 4 rfl zf_X2_45 rfl dX2_agreeAt_82 ?_
                refine lv_aload_n hx hb dX2_agreeAt_85 rfl (lv_at hl 2 rfl) ?_
                refine zz_get hC hZ 3 rfl zf_X2_21 rfl dX2_agreeAt_86 ?_
                refine zz_get hC hZ 4 rfl zf_X2_49 rfl dX2_agreeAt_89 ?_
                refine lv_iload_n hx hb dX2_agreeAt_92 rfl (lv_at hl 3 rfl) ?_
                refine zz_iald hC hZ 1 rfl (vp_in_nI (by omega) (by decide)) dX2_agreeAt_93 ?_
                rw [nI_clamp (n := a) (by omega)]
                refine zz_topi (v := nI sz) (es) ?_
                refine lv_iload hx hb dX2_agreeAt_94 (lv_at hl 0 rfl) ?_
                refine lv_iadd hx hb dX2_agreeAt_96 ?_
                refine zz_topi (v := nI (sz + i)) (nI_add _ _) ?_
                refine zz_lald hC hZ 2 rfl (vp_in_nI (by omega) (by decide)) dX2_agreeAt_97 ?_
                rw [nI_clamp (n := (sz + i)) (by omega)]
                refine lv_lstore (lv' := [(6, .long (btf (sz + i))), (5, .int (nI i)), (4, .int 0), (0, .ref lk), (1, .int (nI a)), (2, .int (nI b)), (3, .int 1)]) hx hb dX2_agreeAt_98 hl (by decide) rfl (fun ls hl => ?_)
                refine lv_aload_n hx hb dX2_agreeAt_100 rfl (lv_at hl 3 rfl) ?_
                refine zz_get hC hZ 3 rfl zf_X2_21 rfl dX2_agreeAt_101 ?_
                refine zz_get hC hZ 4 rfl zf_X2_45 rfl dX2_agreeAt_104 ?_
                refine lv_aload_n hx hb dX2_agreeAt_107 rfl (lv_at hl 3 rfl) ?_
                refine zz_get hC hZ 3 rfl zf_X2_21 rfl dX2_agreeAt_108 ?_
                refine zz_get hC hZ 4 rfl zf_X2_49 rfl dX2_agreeAt_111 ?_
                refine lv_iload_n hx hb dX2_agreeAt_114 rfl (lv_at hl 5 rfl) ?_
                refine zz_iald hC hZ 1 rfl (vp_in_nI (by omega) (by decide)) dX2_agreeAt_115 ?_
                rw [nI_clamp (n := b) (by omega)]
                refine zz_topi (v := nI szb) (esb) ?_
                refine lv_iload hx hb dX2_agreeAt_116 (lv_at hl 1 rfl) ?_
                refine lv_iadd hx hb dX2_agreeAt_118 ?_
                refine zz_topi (v := nI (szb + i)) (nI_add _ _) ?_
                refine zz_lald hC hZ 2 rfl (vp_in_nI (by omega) (by decide)) dX2_agreeAt_119 ?_
                rw [nI_clamp (n := (szb + i)) (by omega)]
                refine lv_lstore (lv' := [(8, .long (btf (szb + i))), (6, .long (btf (sz + i))), (5, .int (nI i)), (4, .int 0), (0, .ref lk), (1, .int (nI a)), (2, .int (nI b)), (3, .int 1)]) hx hb dX2_agreeAt_120 hl (by decide) rfl (fun ls hl => ?_)
                refine lv_lload hx hb dX2_agreeAt_122 (lv_at hl 1 rfl) ?_
                refine lv_lload hx hb dX2_agreeAt_124 (lv_at hl 0 rfl) ?_
                refine zz_lcmp_eq (tgt := 151) hC dX2_agreeAt_126 dX2_agreeAt_127 (by decide) (fun c10 => ?_) (fun c10 => ?_)
                · refine lv_iinc (v := nI (i + 1)) (lv' := [(5, .int (nI (i + 1))), (8, .long (btf (szb + i))), (6, .long (btf (sz + i))), (4, .int 0), (0, .ref lk), (1, .int (nI a)), (2, .int (nI b)), (3, .int 1)]) hx hb dX2_agreeAt_151 hl (k := 2) rfl (nI_1 _) (by decide) rfl (fun ls hl => ?_)
                  refine lv_goto (tgt := 64) hx hb dX2_agreeAt_154 (by decide) ?_
                  exact ih (i + 1) ag1 H locs ls (by omega) (by omega) hZ (lv_sub hl [0, 3, 4, 5, 6, 7] rfl)
                · refine lv_iload hx hb dX2_agreeAt_130 (lv_at hl 3 rfl) ?_
                  refine lv_if_ne (tgt := 149) hx hb dX2_agreeAt_132 (by decide) (fun c => absurd (by decide) c) (fun c11 => ?_)
                  refine lv_aload_n hx hb dX2_agreeAt_135 rfl (lv_at hl 4 rfl) ?_
                  refine lv_lload hx hb dX2_agreeAt_136 (lv_at hl 1 rfl) ?_
                  refine lv_l2i hx hb dX2_agreeAt_138 rfl ?_
                  refine lv_lload hx hb dX2_agreeAt_139 (lv_at hl 0 rfl) ?_
                  refine lv_l2i hx hb dX2_agreeAt_141 rfl ?_
                  refine lv_iload_n hx hb dX2_agreeAt_142 rfl (lv_at hl 7 rfl) ?_
                  refine zz_iV (As := [.int ((btf (sz + i)).toInt32), .int ((btf (szb + i)).toInt32), .int 1]) (wc := [cw_k1 lk st rd l_ag l_dg l_ds, cw_i g l_ag 3600 ag1, cw_k5 st (nI na) (nI nu) kd dp cl sa ln bt pn bf, cw_i g kd 60 kdf, cw_i g dp 60 dpf, cw_i g sa 60 saf, cw_i g ln 60 lnf, cw_l g bt 4000 btf]) (wr := []) (rest := []) hC hZ hs hl zc_X2_52 (co_rowsAgree1 g lk l_ag l_dg l_ds st kd dp cl sa ln bt pn bf na nu rd kdf dpf saf lnf btf ag1 ((btf (sz + i)).toInt32) ((btf (szb + i)).toInt32) (h_S)) [3, 0, 4, 5, 6, 1, 7, 2] [] rfl rfl (by decide +kernel) (ci := 1) (q0 := 0) rfl rfl rfl rfl (Nat.le_of_ble_eq_true rfl) ⟨⟨Nat.le_of_ble_eq_true rfl, Nat.le_of_ble_eq_true rfl⟩, Nat.le_of_ble_eq_true rfl, Nat.le_of_ble_eq_true rfl⟩ dX2_agreeAt_143 (fun r12 u13 H locs hp hZ => ?_)
                  obtain ⟨ag2_14, rfl⟩ := hp
                  have hZ : zz_Z g A s.heap [cw_k1 lk st rd l_ag l_dg l_ds, cw_i g l_ag 3600 ag2_14, cw_k5 st (nI na) (nI nu) kd dp cl sa ln bt pn bf, cw_i g kd 60 kdf, cw_i g dp 60 dpf, cw_i g sa 60 saf, cw_i g ln 60 lnf, cw_l g bt 4000 btf] H locs := hZ
                  refine lv_if_ne (tgt := 151) hx hb dX2_agreeAt_146 (by decide) (fun c15 => ?_) (fun c15 => ?_)
                  · refine lv_iinc (v := nI (i + 1)) (lv' := [(5, .int (nI (i + 1))), (8, .long (btf (szb + i))), (6, .long (btf (sz + i))), (4, .int 0), (0, .ref lk), (1, .int (nI a)), (2, .int (nI b)), (3, .int 1)]) hx hb dX2_agreeAt_151 hl (k := 2) rfl (nI_1 _) (by decide) rfl (fun ls hl => ?_)
                    refine lv_goto (tgt := 64) hx hb dX2_agreeAt_154 (by decide) ?_
                    exact ih (i + 1) ag2_14 H locs ls (by omega) (by omega) (hZ.sub [1, 5, 7, 0, 2, 3, 4, 6] (by decide +kernel) rfl) (lv_sub hl [0, 3, 4, 5, 6, 7] rfl)
                  · refine lv_iconst (v := 0) hx hb dX2_agreeAt_149 (by decide) ?_
                    exact zz_zret hC hZ (by decide) (⟨ag2_14, Or.inl rfl, rfl⟩) (Nat.le_of_ble_eq_true rfl) (Nat.le_of_ble_eq_true rfl) dX2_agreeAt_150
          exact LP8 _ 0 agf H locs ls (by omega) (Nat.lt_succ_self _) hZ (lv_sub hl [0, 1, 2, 3, 4, 5] rfl)
        · have nc7 : dz = 1 := (nI_eq (by omega) (by omega)).mp (show nI (dz) = nI (1) from c7)
          refine lv_iconst (v := 1) hx hb dX2_agreeAt_54 (by decide) ?_
          refine lv_goto (tgt := 59) hx hb dX2_agreeAt_55 (by decide) ?_
          refine lv_istore (lv' := [(4, .int 1), (0, .ref lk), (1, .int (nI a)), (2, .int (nI b)), (3, .int 1)]) hx hb dX2_agreeAt_59 hl (by decide) rfl (fun ls hl => ?_)
          refine lv_iconst (v := 0) hx hb dX2_agreeAt_61 (by decide) ?_
          refine lv_istore (lv' := [(5, .int 0), (4, .int 1), (0, .ref lk), (1, .int (nI a)), (2, .int (nI b)), (3, .int 1)]) hx hb dX2_agreeAt_62 hl (by decide) rfl (fun ls hl => ?_)
          have LP16 : ∀ (N : Nat) (i : Nat) (ag1 : Nat → Int32) (H : Heap) (locs : List Loc) (ls : Array Slot), (i ≤ lz) → (lz - i) < N → zz_Z g A s.heap [cw_i g l_ag 3600 ag1, cw_i g sa 60 saf, cw_l g bt 4000 btf, cw_k1 lk st rd l_ag l_dg l_ds, cw_k5 st (nI na) (nI nu) kd dp cl sa ln bt pn bf, cw_i g kd 60 kdf, cw_i g dp 60 dpf, cw_i g ln 60 lnf] H locs → lv_has ls 10 [(5, .int (nI i)), (4, .int 1), (0, .ref lk), (1, .int (nI a)), (2, .int (nI b)), (3, .int 1)] → W p l e rm_co_agree1 s m args below meth c H locs 0 0 (zz_QI below g args s A rm_co_agree1.cells rm_co_agree1.slots (po_co_agree1 g lk l_ag l_dg l_ds st kd dp cl sa ln bt pn bf na nu rd kdf dpf saf lnf btf agf a b h_S h_a)) (F0 m 64 ls []) := by
            intro N
            induction N with
            | zero =>
              intro i ag1 H locs ls hi hN
              exact absurd hN (Nat.not_lt_zero _)
            | succ N ih =>
              intro i ag1 H locs ls hi hN hZ hl
              refine lv_iload hx hb dX2_agreeAt_64 (lv_at hl 0 rfl) ?_
              refine lv_aload_n hx hb dX2_agreeAt_66 rfl (lv_at hl 2 rfl) ?_
              refine zz_get hC hZ 3 rfl zf_X2_21 rfl dX2_agreeAt_67 ?_
              refine zz_get hC hZ 4 rfl zf_X2_42 rfl dX2_agreeAt_70 ?_
              refine lv_iload_n hx hb dX2_agreeAt_73 rfl (lv_at hl 3 rfl) ?_
              refine zz_iald hC hZ 7 rfl (vp_in_nI (by omega) (by decide)) dX2_agreeAt_74 ?_
              rw [nI_clamp (n := a) (by omega)]
              refine zz_topi (v := nI lz) (el) ?_
              refine lv_icmp_ge (tgt := 157) hx hb dX2_agreeAt_75 (by decide) (fun c17 => ?_) (fun c17 => ?_)
              · have nc17 : lz ≤ i := (nI_leI (by omega) (by omega)).mp (show nI (lz) ≤ nI (i) from c17)
                refine lv_aload_n hx hb dX2_agreeAt_157 rfl (lv_at hl 2 rfl) ?_
                refine zz_get hC hZ 3 rfl zf_X2_9 rfl dX2_agreeAt_158 ?_
                refine lv_iload_n hx hb dX2_agreeAt_161 rfl (lv_at hl 3 rfl) ?_
                refine lv_bipush (v := 60) hx hb dX2_agreeAt_162 (by decide) ?_
                refine lv_imul hx hb dX2_agreeAt_164 ?_
                refine zz_topi (v := nI (a * 60)) (pk_mul _ 60) ?_
                refine lv_iload_n hx hb dX2_agreeAt_165 rfl (lv_at hl 4 rfl) ?_
                refine lv_iadd hx hb dX2_agreeAt_166 ?_
                refine zz_topi (v := nI ((a * 60) + b)) (nI_add _ _) ?_
                refine lv_aload_n hx hb dX2_agreeAt_167 rfl (lv_at hl 2 rfl) ?_
                refine zz_get hC hZ 3 rfl zf_X2_25 rfl dX2_agreeAt_168 ?_
                refine zz_iast hC hZ 0 rfl (vp_in_nI (by omega) (by decide)) dX2_agreeAt_171 (fun H locs hZ => ?_)
                rw [nI_clamp (n := ((a * 60) + b)) (by omega)] at hZ
                have hZ : zz_Z g A s.heap [cw_i g l_ag 3600 (upd ag1 ((a * 60) + b) rd), cw_i g sa 60 saf, cw_l g bt 4000 btf, cw_k1 lk st rd l_ag l_dg l_ds, cw_k5 st (nI na) (nI nu) kd dp cl sa ln bt pn bf, cw_i g kd 60 kdf, cw_i g dp 60 dpf, cw_i g ln 60 lnf] H locs := hZ
                refine lv_iconst (v := 1) hx hb dX2_agreeAt_172 (by decide) ?_
                have hZ : zz_Z g A s.heap [cw_k1 lk st rd l_ag l_dg l_ds, cw_i g l_ag 3600 (upd ag1 ((a * 60) + b) rd), cw_k5 st (nI na) (nI nu) kd dp cl sa ln bt pn bf, cw_i g kd 60 kdf, cw_i g dp 60 dpf, cw_i g sa 60 saf, cw_i g ln 60 lnf, cw_l g bt 4000 btf] H locs := hZ.sub [3, 0, 4, 5, 6, 1, 7, 2] (by decide +kernel) rfl
                exact zz_zret hC hZ (by decide) (⟨(upd ag1 ((a * 60) + b) rd), Or.inr rfl, rfl⟩) (Nat.le_of_ble_eq_true rfl) (Nat.le_of_ble_eq_true rfl) dX2_agreeAt_173
              · have nc17 : ¬ lz ≤ i := fun zq => c17 (show nI (lz) ≤ nI (i) from (nI_leI (by omega) (by omega)).mpr zq)
                refine lv_aload_n hx hb dX2_agreeAt_78 rfl (lv_at hl 2 rfl) ?_
                refine zz_get hC hZ 3 rfl zf_X2_21 rfl dX2_agreeAt_79 ?_
                refine zz_get hC hZ 4 rfl zf_X2_45 rfl dX2_agreeAt_82 ?_
                refine lv_aload_n hx hb dX2_agreeAt_85 rfl (lv_at hl 2 rfl) ?_
                refine zz_get hC hZ 3 rfl zf_X2_21 rfl dX2_agreeAt_86 ?_
                refine zz_get hC hZ 4 rfl zf_X2_49 rfl dX2_agreeAt_89 ?_
                refine lv_iload_n hx hb dX2_agreeAt_92 rfl (lv_at hl 3 rfl) ?_
                refine zz_iald hC hZ 1 rfl (vp_in_nI (by omega) (by decide)) dX2_agreeAt_93 ?_
                rw [nI_clamp (n := a) (by omega)]
                refine zz_topi (v := nI sz) (es) ?_
                refine lv_iload hx hb dX2_agreeAt_94 (lv_at hl 0 rfl) ?_
                refine lv_iadd hx hb dX2_agreeAt_96 ?_
                refine zz_topi (v := nI (sz + i)) (nI_add _ _) ?_
                refine zz_lald hC hZ 2 rfl (vp_in_nI (by omega) (by decide)) dX2_agreeAt_97 ?_
                rw [nI_clamp (n := (sz + i)) (by omega)]
                refine lv_lstore (lv' := [(6, .long (btf (sz + i))), (5, .int (nI i)), (4, .int 1), (0, .ref lk), (1, .int (nI a)), (2, .int (nI b)), (3, .int 1)]) hx hb dX2_agreeAt_98 hl (by decide) rfl (fun ls hl => ?_)
                refine lv_aload_n hx hb dX2_agreeAt_100 rfl (lv_at hl 3 rfl) ?_
                refine zz_get hC hZ 3 rfl zf_X2_21 rfl dX2_agreeAt_101 ?_
                refine zz_get hC hZ 4 rfl zf_X2_45 rfl dX2_agreeAt_104 ?_
                refine lv_aload_n hx hb dX2_agreeAt_107 rfl (lv_at hl 3 rfl) ?_
                refine zz_get hC hZ 3 rfl zf_X2_21 rfl dX2_agreeAt_108 ?_
                refine zz_get hC hZ 4 rfl zf_X2_49 rfl dX2_agreeAt_111 ?_
                refine lv_iload_n hx hb dX2_agreeAt_114 rfl (lv_at hl 5 rfl) ?_
                refine zz_iald hC hZ 1 rfl (vp_in_nI (by omega) (by decide)) dX2_agreeAt_115 ?_
                rw [nI_clamp (n := b) (by omega)]
                refine zz_topi (v := nI szb) (esb) ?_
                refine lv_iload hx hb dX2_agreeAt_116 (lv_at hl 1 rfl) ?_
                refine lv_iadd hx hb dX2_agreeAt_118 ?_
                refine zz_topi (v := nI (szb + i)) (nI_add _ _) ?_
                refine zz_lald hC hZ 2 rfl (vp_in_nI (by omega) (by decide)) dX2_agreeAt_119 ?_
                rw [nI_clamp (n := (szb + i)) (by omega)]
                refine lv_lstore (lv' := [(8, .long (btf (szb + i))), (6, .long (btf (sz + i))), (5, .int (nI i)), (4, .int 1), (0, .ref lk), (1, .int (nI a)), (2, .int (nI b)), (3, .int 1)]) hx hb dX2_agreeAt_120 hl (by decide) rfl (fun ls hl => ?_)
                refine lv_lload hx hb dX2_agreeAt_122 (lv_at hl 1 rfl) ?_
                refine lv_lload hx hb dX2_agreeAt_124 (lv_at hl 0 rfl) ?_
                refine zz_lcmp_eq (tgt := 151) hC dX2_agreeAt_126 dX2_agreeAt_127 (by decide) (fun c18 => ?_) (fun c18 => ?_)
                · refine lv_iinc (v := nI (i + 1)) (lv' := [(5, .int (nI (i + 1))), (8, .long (btf (szb + i))), (6, .long (btf (sz + i))), (4, .int 1), (0, .ref lk), (1, .int (nI a)), (2, .int (nI b)), (3, .int 1)]) hx hb dX2_agreeAt_151 hl (k := 2) rfl (nI_1 _) (by decide) rfl (fun ls hl => ?_)
                  refine lv_goto (tgt := 64) hx hb dX2_agreeAt_154 (by decide) ?_
                  exact ih (i + 1) ag1 H locs ls (by omega) (by omega) hZ (lv_sub hl [0, 3, 4, 5, 6, 7] rfl)
                · refine lv_iload hx hb dX2_agreeAt_130 (lv_at hl 3 rfl) ?_
                  refine lv_if_ne (tgt := 149) hx hb dX2_agreeAt_132 (by decide) (fun c19 => ?_) (fun c => absurd c (by decide))
                  refine lv_iconst (v := 0) hx hb dX2_agreeAt_149 (by decide) ?_
                  have hZ : zz_Z g A s.heap [cw_k1 lk st rd l_ag l_dg l_ds, cw_i g l_ag 3600 ag1, cw_k5 st (nI na) (nI nu) kd dp cl sa ln bt pn bf, cw_i g kd 60 kdf, cw_i g dp 60 dpf, cw_i g sa 60 saf, cw_i g ln 60 lnf, cw_l g bt 4000 btf] H locs := hZ.sub [3, 0, 4, 5, 6, 1, 7, 2] (by decide +kernel) rfl
                  exact zz_zret hC hZ (by decide) (⟨ag1, Or.inl rfl, rfl⟩) (Nat.le_of_ble_eq_true rfl) (Nat.le_of_ble_eq_true rfl) dX2_agreeAt_150
          exact LP16 _ 0 agf H locs ls (by omega) (Nat.lt_succ_self _) hZ (lv_sub hl [0, 1, 2, 3, 4, 5] rfl)
      · refine lv_iconst (v := 0) hx hb dX2_agreeAt_39 (by decide) ?_
        have hZ : zz_Z g A s.heap [cw_k1 lk st rd l_ag l_dg l_ds, cw_i g l_ag 3600 agf, cw_k5 st (nI na) (nI nu) kd dp cl sa ln bt pn bf, cw_i g kd 60 kdf, cw_i g dp 60 dpf, cw_i g sa 60 saf, cw_i g ln 60 lnf, cw_l g bt 4000 btf] H locs := hZ.sub [3, 0, 4, 5, 6, 1, 7, 2] (by decide +kernel) rfl
        exact zz_zret hC hZ (by decide) (⟨agf, Or.inl rfl, rfl⟩) (Nat.le_of_ble_eq_true rfl) (Nat.le_of_ble_eq_true rfl) dX2_agreeAt_40
    · refine lv_iconst (v := 1) hx hb dX2_agreeAt_23 (by decide) ?_
      exact zz_zret hC hZ (by decide) (⟨agf, Or.inr rfl, rfl⟩) (Nat.le_of_ble_eq_true rfl) (Nat.le_of_ble_eq_true rfl) dX2_agreeAt_24
theorem dg_X2_agree_0 : (decode cX2_agree 0 = .ok (.aload_n 0, 1)) ∧ (decode cX2_agree 1 = .ok (.dup, 1)) ∧ (decode cX2_agree 2 = .ok (.getfield 25, 3)) ∧ (decode cX2_agree 5 = .ok (.iconst 1, 1)) ∧ (decode cX2_agree 6 = .ok (.iadd, 1)) ∧ (decode cX2_agree 7 = .ok (.putfield 25, 3)) ∧ (decode cX2_agree 10 = .ok (.aload_n 0, 1)) ∧ (decode cX2_agree 11 = .ok (.iload_n 1, 1)) ∧ (decode cX2_agree 12 = .ok (.iload_n 2, 1)) ∧ (decode cX2_agree 13 = .ok (.iconst 1, 1)) ∧ (decode cX2_agree 14 = .ok (.invokevirtual 29, 3)) ∧ (decode cX2_agree 17 = .ok (.ireturn, 1)) := by decide +kernel
theorem dX2_agree_0 : decode cX2_agree 0 = .ok (.aload_n 0, 1) := dg_X2_agree_0.1
theorem dX2_agree_1 : decode cX2_agree 1 = .ok (.dup, 1) := dg_X2_agree_0.2.1
theorem dX2_agree_2 : decode cX2_agree 2 = .ok (.getfield 25, 3) := dg_X2_agree_0.2.2.1
theorem dX2_agree_5 : decode cX2_agree 5 = .ok (.iconst 1, 1) := dg_X2_agree_0.2.2.2.1
theorem dX2_agree_6 : decode cX2_agree 6 = .ok (.iadd, 1) := dg_X2_agree_0.2.2.2.2.1
theorem dX2_agree_7 : decode cX2_agree 7 = .ok (.putfield 25, 3) := dg_X2_agree_0.2.2.2.2.2.1
theorem dX2_agree_10 : decode cX2_agree 10 = .ok (.aload_n 0, 1) := dg_X2_agree_0.2.2.2.2.2.2.1
theorem dX2_agree_11 : decode cX2_agree 11 = .ok (.iload_n 1, 1) := dg_X2_agree_0.2.2.2.2.2.2.2.1
theorem dX2_agree_12 : decode cX2_agree 12 = .ok (.iload_n 2, 1) := dg_X2_agree_0.2.2.2.2.2.2.2.2.1
theorem dX2_agree_13 : decode cX2_agree 13 = .ok (.iconst 1, 1) := dg_X2_agree_0.2.2.2.2.2.2.2.2.2.1
theorem dX2_agree_14 : decode cX2_agree 14 = .ok (.invokevirtual 29, 3) := dg_X2_agree_0.2.2.2.2.2.2.2.2.2.2.1
theorem dX2_agree_17 : decode cX2_agree 17 = .ok (.ireturn, 1) := dg_X2_agree_0.2.2.2.2.2.2.2.2.2.2.2
theorem zu_X2_25 : zz_fw RX2 25 1 1 false .int := ⟨RX2, TX2, 5, tyX2, rfl, zi_X2, by decide, zk_116, tyX2_ok, nmX2, rfl, by decide +kernel, fun h => by cases h⟩
abbrev rm_co_agree : Room := { frames := 9, cells := 0, slots := 0, locals := 237 }
abbrev po_co_agree (g : zz_G) (lk : Nat) (l_ag : Nat) (l_dg : Nat) (l_ds : Nat) (st : Nat) (kd : Nat) (dp : Nat) (cl : Nat) (sa : Nat) (ln : Nat) (bt : Nat) (pn : Nat) (bf : Nat) (na : Nat) (nu : Nat) (rd : Int32) (kdf : Nat → Int32) (dpf : Nat → Int32) (saf : Nat → Int32) (lnf : Nat → Int32) (btf : Nat → Int64) (agf : Nat → Int32) (a : Nat) (b : Nat) (h_S : zz_SI na nu dpf saf lnf) (h_a : a < na ∧ b < na) : Int32 → va_W → Prop := fun (r : Int32) (u : va_W) => ∃ (ag2 : Nat → Int32), (r = 0 ∨ r = 1) ∧ u = [cw_k1 lk st (rd + 1) l_ag l_dg l_ds, cw_i g l_ag 3600 ag2, cw_k5 st (nI na) (nI nu) kd dp cl sa ln bt pn bf, cw_i g kd 60 kdf, cw_i g dp 60 dpf, cw_i g sa 60 saf, cw_i g ln 60 lnf, cw_l g bt 4000 btf]
set_option maxHeartbeats 4000000 in
set_option maxRecDepth 100000 in
theorem co_agree (g : zz_G) (lk : Nat) (l_ag : Nat) (l_dg : Nat) (l_ds : Nat) (st : Nat) (kd : Nat) (dp : Nat) (cl : Nat) (sa : Nat) (ln : Nat) (bt : Nat) (pn : Nat) (bf : Nat) (na : Nat) (nu : Nat) (rd : Int32) (kdf : Nat → Int32) (dpf : Nat → Int32) (saf : Nat → Int32) (lnf : Nat → Int32) (btf : Nat → Int64) (agf : Nat → Int32) (a : Nat) (b : Nat) (h_S : zz_SI na nu dpf saf lnf) (h_a : a < na ∧ b < na) : zz_I g yX2_agree (.code yX2_agree cX2_agree 3 (some .boolean)) rm_co_agree [.ref lk, .int (nI a), .int (nI b)] [cw_k1 lk st rd l_ag l_dg l_ds, cw_i g l_ag 3600 agf, cw_k5 st (nI na) (nI nu) kd dp cl sa ln bt pn bf, cw_i g kd 60 kdf, cw_i g dp 60 dpf, cw_i g sa 60 saf, cw_i g ln 60 lnf, cw_l g bt 4000 btf] (po_co_agree g lk l_ag l_dg l_ds st kd dp cl sa ln bt pn bf na nu rd kdf dpf saf lnf btf agf a b h_S h_a) := by
  refine zz_I.intro (own := RX2) (cc := cX2_agree) (nL := 3) (by decide) rfl (Nat.le_of_ble_eq_true rfl) ?_
  intro p l e s m args below meth c A H locs ls hC hnm hs hZ hl
  obtain ⟨hx, hb, hml, hown, hts, hr, hlocks, hK⟩ := id hC
  have hl : lv_has ls 3 [(0, .ref lk), (1, .int (nI a)), (2, .int (nI b))] := hl
  have hZ : zz_Z g A s.heap [cw_k1 lk st rd l_ag l_dg l_ds, cw_i g l_ag 3600 agf, cw_k5 st (nI na) (nI nu) kd dp cl sa ln bt pn bf, cw_i g kd 60 kdf, cw_i g dp 60 dpf, cw_i g sa 60 saf, cw_i g ln 60 lnf, cw_l g bt 4000 btf] H locs := hZ
  refine lv_aload_n hx hb dX2_agree_0 rfl (lv_at hl 0 rfl) ?_
  refine lv_dup hx hb dX2_agree_1 rfl ?_
  refine zz_get hC hZ 0 rfl zf_X2_25 rfl dX2_agree_2 ?_
  refine lv_iconst (v := 1) hx hb dX2_agree_5 (by decide) ?_
  refine lv_iadd hx hb dX2_agree_6 ?_
  refine zz_put hC hZ 0 rfl zu_X2_25 (Nat.le_of_ble_eq_true rfl) dX2_agree_7 (fun H locs hZ => ?_)
  have hZ : zz_Z g A s.heap [cw_k1 lk st (rd + 1) l_ag l_dg l_ds, cw_i g l_ag 3600 agf, cw_k5 st (nI na) (nI nu) kd dp cl sa ln bt pn bf, cw_i g kd 60 kdf, cw_i g dp 60 dpf, cw_i g sa 60 saf, cw_i g ln 60 lnf, cw_l g bt 4000 btf] H locs := hZ
  refine lv_aload_n hx hb dX2_agree_10 rfl (lv_at hl 0 rfl) ?_
  refine lv_iload_n hx hb dX2_agree_11 rfl (lv_at hl 1 rfl) ?_
  refine lv_iload_n hx hb dX2_agree_12 rfl (lv_at hl 2 rfl) ?_
  refine lv_iconst (v := 1) hx hb dX2_agree_13 (by decide) ?_
  refine zz_iV (As := [.int (nI a), .int (nI b), .int 1]) (wc := [cw_k1 lk st (rd + 1) l_ag l_dg l_ds, cw_i g l_ag 3600 agf, cw_k5 st (nI na) (nI nu) kd dp cl sa ln bt pn bf, cw_i g kd 60 kdf, cw_i g dp 60 dpf, cw_i g sa 60 saf, cw_i g ln 60 lnf, cw_l g bt 4000 btf]) (wr := []) (rest := []) hC hZ hs hl zc_X2_29 (co_agree1 g lk l_ag l_dg l_ds st kd dp cl sa ln bt pn bf na nu (rd + 1) kdf dpf saf lnf btf agf a b (h_S) (by omega)) [0, 1, 2, 3, 4, 5, 6, 7] [] rfl rfl (by decide +kernel) (ci := 1) (q0 := 0) rfl rfl rfl rfl (Nat.le_of_ble_eq_true rfl) ⟨⟨Nat.le_of_ble_eq_true rfl, Nat.le_of_ble_eq_true rfl⟩, Nat.le_of_ble_eq_true rfl, Nat.le_of_ble_eq_true rfl⟩ dX2_agree_14 (fun r1 u2 H locs hp hZ => ?_)
  obtain ⟨ag2_3, f4, rfl⟩ := hp
  have hZ : zz_Z g A s.heap [cw_k1 lk st (rd + 1) l_ag l_dg l_ds, cw_i g l_ag 3600 ag2_3, cw_k5 st (nI na) (nI nu) kd dp cl sa ln bt pn bf, cw_i g kd 60 kdf, cw_i g dp 60 dpf, cw_i g sa 60 saf, cw_i g ln 60 lnf, cw_l g bt 4000 btf] H locs := hZ
  exact zz_zret hC hZ (zl_b01 f4) (⟨ag2_3, f4, rfl⟩) (Nat.le_of_ble_eq_true rfl) (Nat.le_of_ble_eq_true rfl) dX2_agree_17
theorem dg_X2_digestAt_0 : (decode cX2_digestAt 0 = .ok (.iload_n 2, 1)) ∧ (decode cX2_digestAt 1 = .ok (.iconst 4, 1)) ∧ (decode cX2_digestAt 2 = .ok (.if_icmp .le 5, 3)) ∧ (decode cX2_digestAt 5 = .ok (.iconst 0, 1)) ∧ (decode cX2_digestAt 6 = .ok (.ireturn, 1)) ∧ (decode cX2_digestAt 7 = .ok (.aload_n 0, 1)) ∧ (decode cX2_digestAt 8 = .ok (.getfield 15, 3)) ∧ (decode cX2_digestAt 11 = .ok (.iload_n 1, 1)) ∧ (decode cX2_digestAt 12 = .ok (.iaload, 1)) ∧ (decode cX2_digestAt 13 = .ok (.aload_n 0, 1)) ∧ (decode cX2_digestAt 14 = .ok (.getfield 25, 3)) ∧ (decode cX2_digestAt 17 = .ok (.if_icmp .ne 10, 3)) ∧ (decode cX2_digestAt 20 = .ok (.aload_n 0, 1)) ∧ (decode cX2_digestAt 21 = .ok (.getfield 18, 3)) ∧ (decode cX2_digestAt 24 = .ok (.iload_n 1, 1)) ∧ (decode cX2_digestAt 25 = .ok (.iaload, 1)) := by decide +kernel
theorem dX2_digestAt_0 : decode cX2_digestAt 0 = .ok (.iload_n 2, 1) := dg_X2_digestAt_0.1
theorem dX2_digestAt_1 : decode cX2_digestAt 1 = .ok (.iconst 4, 1) := dg_X2_digestAt_0.2.1
theorem dX2_digestAt_2 : decode cX2_digestAt 2 = .ok (.if_icmp .le 5, 3) := dg_X2_digestAt_0.2.2.1
theorem dX2_digestAt_5 : decode cX2_digestAt 5 = .ok (.iconst 0, 1) := dg_X2_digestAt_0.2.2.2.1
theorem dX2_digestAt_6 : decode cX2_digestAt 6 = .ok (.ireturn, 1) := dg_X2_digestAt_0.2.2.2.2.1
theorem dX2_digestAt_7 : decode cX2_digestAt 7 = .ok (.aload_n 0, 1) := dg_X2_digestAt_0.2.2.2.2.2.1
theorem dX2_digestAt_8 : decode cX2_digestAt 8 = .ok (.getfield 15, 3) := dg_X2_digestAt_0.2.2.2.2.2.2.1
theorem dX2_digestAt_11 : decode cX2_digestAt 11 = .ok (.iload_n 1, 1) := dg_X2_digestAt_0.2.2.2.2.2.2.2.1
theorem dX2_digestAt_12 : decode cX2_digestAt 12 = .ok (.iaload, 1) := dg_X2_digestAt_0.2.2.2.2.2.2.2.2.1
theorem dX2_digestAt_13 : decode cX2_digestAt 13 = .ok (.aload_n 0, 1) := dg_X2_digestAt_0.2.2.2.2.2.2.2.2.2.1
theorem dX2_digestAt_14 : decode cX2_digestAt 14 = .ok (.getfield 25, 3) := dg_X2_digestAt_0.2.2.2.2.2.2.2.2.2.2.1
theorem dX2_digestAt_17 : decode cX2_digestAt 17 = .ok (.if_icmp .ne 10, 3) := dg_X2_digestAt_0.2.2.2.2.2.2.2.2.2.2.2.1
theorem dX2_digestAt_20 : decode cX2_digestAt 20 = .ok (.aload_n 0, 1) := dg_X2_digestAt_0.2.2.2.2.2.2.2.2.2.2.2.2.1
theorem dX2_digestAt_21 : decode cX2_digestAt 21 = .ok (.getfield 18, 3) := dg_X2_digestAt_0.2.2.2.2.2.2.2.2.2.2.2.2.2.1
theorem dX2_digestAt_24 : decode cX2_digestAt 24 = .ok (.iload_n 1, 1) := dg_X2_digestAt_0.2.2.2.2.2.2.2.2.2.2.2.2.2.2.1
theorem dX2_digestAt_25 : decode cX2_digestAt 25 = .ok (.iaload, 1) := dg_X2_digestAt_0.2.2.2.2.2.2.2.2.2.2.2.2.2.2.2
theorem dg_X2_digestAt_26 : (decode cX2_digestAt 26 = .ok (.ireturn, 1)) ∧ (decode cX2_digestAt 27 = .ok (.aload_n 0, 1)) ∧ (decode cX2_digestAt 28 = .ok (.getfield 21, 3)) ∧ (decode cX2_digestAt 31 = .ok (.getfield 37, 3)) ∧ (decode cX2_digestAt 34 = .ok (.iload_n 1, 1)) ∧ (decode cX2_digestAt 35 = .ok (.iaload, 1)) ∧ (decode cX2_digestAt 36 = .ok (.iconst 1, 1)) ∧ (decode cX2_digestAt 37 = .ok (.if_icmp .ne 7, 3)) ∧ (decode cX2_digestAt 40 = .ok (.iconst 1, 1)) ∧ (decode cX2_digestAt 41 = .ok (.goto 4, 3)) ∧ (decode cX2_digestAt 44 = .ok (.iconst 0, 1)) ∧ (decode cX2_digestAt 45 = .ok (.istore_n 3, 1)) ∧ (decode cX2_digestAt 46 = .ok (.iconst 1, 1)) ∧ (decode cX2_digestAt 47 = .ok (.istore 4, 2)) ∧ (decode cX2_digestAt 49 = .ok (.iconst 0, 1)) ∧ (decode cX2_digestAt 50 = .ok (.istore 5, 2)) := by decide +kernel
theorem dX2_digestAt_26 : decode cX2_digestAt 26 = .ok (.ireturn, 1) := dg_X2_digestAt_26.1
theorem dX2_digestAt_27 : decode cX2_digestAt 27 = .ok (.aload_n 0, 1) := dg_X2_digestAt_26.2.1
theorem dX2_digestAt_28 : decode cX2_digestAt 28 = .ok (.getfield 21, 3) := dg_X2_digestAt_26.2.2.1
theorem dX2_digestAt_31 : decode cX2_digestAt 31 = .ok (.getfield 37, 3) := dg_X2_digestAt_26.2.2.2.1
theorem dX2_digestAt_34 : decode cX2_digestAt 34 = .ok (.iload_n 1, 1) := dg_X2_digestAt_26.2.2.2.2.1
theorem dX2_digestAt_35 : decode cX2_digestAt 35 = .ok (.iaload, 1) := dg_X2_digestAt_26.2.2.2.2.2.1
theorem dX2_digestAt_36 : decode cX2_digestAt 36 = .ok (.iconst 1, 1) := dg_X2_digestAt_26.2.2.2.2.2.2.1
theorem dX2_digestAt_37 : decode cX2_digestAt 37 = .ok (.if_icmp .ne 7, 3) := dg_X2_digestAt_26.2.2.2.2.2.2.2.1
theorem dX2_digestAt_40 : decode cX2_digestAt 40 = .ok (.iconst 1, 1) := dg_X2_digestAt_26.2.2.2.2.2.2.2.2.1
theorem dX2_digestAt_41 : decode cX2_digestAt 41 = .ok (.goto 4, 3) := dg_X2_digestAt_26.2.2.2.2.2.2.2.2.2.1
theorem dX2_digestAt_44 : decode cX2_digestAt 44 = .ok (.iconst 0, 1) := dg_X2_digestAt_26.2.2.2.2.2.2.2.2.2.2.1
theorem dX2_digestAt_45 : decode cX2_digestAt 45 = .ok (.istore_n 3, 1) := dg_X2_digestAt_26.2.2.2.2.2.2.2.2.2.2.2.1
theorem dX2_digestAt_46 : decode cX2_digestAt 46 = .ok (.iconst 1, 1) := dg_X2_digestAt_26.2.2.2.2.2.2.2.2.2.2.2.2.1
theorem dX2_digestAt_47 : decode cX2_digestAt 47 = .ok (.istore 4, 2) := dg_X2_digestAt_26.2.2.2.2.2.2.2.2.2.2.2.2.2.1
theorem dX2_digestAt_49 : decode cX2_digestAt 49 = .ok (.iconst 0, 1) := dg_X2_digestAt_26.2.2.2.2.2.2.2.2.2.2.2.2.2.2.1
theorem dX2_digestAt_50 : decode cX2_digestAt 50 = .ok (.istore 5, 2) := dg_X2_digestAt_26.2.2.2.2.2.2.2.2.2.2.2.2.2.2.2
theorem dg_X2_digestAt_52 : (decode cX2_digestAt 52 = .ok (.iload 5, 2)) ∧ (decode cX2_digestAt 54 = .ok (.aload_n 0, 1)) ∧ (decode cX2_digestAt 55 = .ok (.getfield 21, 3)) ∧ (decode cX2_digestAt 58 = .ok (.getfield 42, 3)) ∧ (decode cX2_digestAt 61 = .ok (.iload_n 1, 1)) ∧ (decode cX2_digestAt 62 = .ok (.iaload, 1)) ∧ (decode cX2_digestAt 63 = .ok (.if_icmp .ge 92, 3)) ∧ (decode cX2_digestAt 66 = .ok (.aload_n 0, 1)) ∧ (decode cX2_digestAt 67 = .ok (.getfield 21, 3)) ∧ (decode cX2_digestAt 70 = .ok (.getfield 45, 3)) ∧ (decode cX2_digestAt 73 = .ok (.aload_n 0, 1)) ∧ (decode cX2_digestAt 74 = .ok (.getfield 21, 3)) ∧ (decode cX2_digestAt 77 = .ok (.getfield 49, 3)) ∧ (decode cX2_digestAt 80 = .ok (.iload_n 1, 1)) ∧ (decode cX2_digestAt 81 = .ok (.iaload, 1)) ∧ (decode cX2_digestAt 82 = .ok (.iload 5, 2)) := by decide +kernel
theorem dX2_digestAt_52 : decode cX2_digestAt 52 = .ok (.iload 5, 2) := dg_X2_digestAt_52.1
theorem dX2_digestAt_54 : decode cX2_digestAt 54 = .ok (.aload_n 0, 1) := dg_X2_digestAt_52.2.1
theorem dX2_digestAt_55 : decode cX2_digestAt 55 = .ok (.getfield 21, 3) := dg_X2_digestAt_52.2.2.1
theorem dX2_digestAt_58 : decode cX2_digestAt 58 = .ok (.getfield 42, 3) := dg_X2_digestAt_52.2.2.2.1
theorem dX2_digestAt_61 : decode cX2_digestAt 61 = .ok (.iload_n 1, 1) := dg_X2_digestAt_52.2.2.2.2.1
theorem dX2_digestAt_62 : decode cX2_digestAt 62 = .ok (.iaload, 1) := dg_X2_digestAt_52.2.2.2.2.2.1
theorem dX2_digestAt_63 : decode cX2_digestAt 63 = .ok (.if_icmp .ge 92, 3) := dg_X2_digestAt_52.2.2.2.2.2.2.1
theorem dX2_digestAt_66 : decode cX2_digestAt 66 = .ok (.aload_n 0, 1) := dg_X2_digestAt_52.2.2.2.2.2.2.2.1
theorem dX2_digestAt_67 : decode cX2_digestAt 67 = .ok (.getfield 21, 3) := dg_X2_digestAt_52.2.2.2.2.2.2.2.2.1
theorem dX2_digestAt_70 : decode cX2_digestAt 70 = .ok (.getfield 45, 3) := dg_X2_digestAt_52.2.2.2.2.2.2.2.2.2.1
theorem dX2_digestAt_73 : decode cX2_digestAt 73 = .ok (.aload_n 0, 1) := dg_X2_digestAt_52.2.2.2.2.2.2.2.2.2.2.1
theorem dX2_digestAt_74 : decode cX2_digestAt 74 = .ok (.getfield 21, 3) := dg_X2_digestAt_52.2.2.2.2.2.2.2.2.2.2.2.1
theorem dX2_digestAt_77 : decode cX2_digestAt 77 = .ok (.getfield 49, 3) := dg_X2_digestAt_52.2.2.2.2.2.2.2.2.2.2.2.2.1
theorem dX2_digestAt_80 : decode cX2_digestAt 80 = .ok (.iload_n 1, 1) := dg_X2_digestAt_52.2.2.2.2.2.2.2.2.2.2.2.2.2.1
theorem dX2_digestAt_81 : decode cX2_digestAt 81 = .ok (.iaload, 1) := dg_X2_digestAt_52.2.2.2.2.2.2.2.2.2.2.2.2.2.2.1
theorem dX2_digestAt_82 : decode cX2_digestAt 82 = .ok (.iload 5, 2) := dg_X2_digestAt_52.2.2.2.2.2.2.2.2.2.2.2.2.2.2.2
theorem dg_X2_digestAt_84 : (decode cX2_digestAt 84 = .ok (.iadd, 1)) ∧ (decode cX2_digestAt 85 = .ok (.laload, 1)) ∧ (decode cX2_digestAt 86 = .ok (.lstore 6, 2)) ∧ (decode cX2_digestAt 88 = .ok (.iconst 0, 1)) ∧ (decode cX2_digestAt 89 = .ok (.istore 8, 2)) ∧ (decode cX2_digestAt 91 = .ok (.iload_n 3, 1)) ∧ (decode cX2_digestAt 92 = .ok (.ifCond .eq 22, 3)) ∧ (decode cX2_digestAt 95 = .ok (.aload_n 0, 1)) ∧ (decode cX2_digestAt 96 = .ok (.getfield 21, 3)) ∧ (decode cX2_digestAt 99 = .ok (.getfield 59, 3)) ∧ (decode cX2_digestAt 102 = .ok (.iload_n 1, 1)) ∧ (decode cX2_digestAt 103 = .ok (.iaload, 1)) ∧ (decode cX2_digestAt 104 = .ok (.lload 6, 2)) ∧ (decode cX2_digestAt 106 = .ok (.invokestatic 66, 3)) ∧ (decode cX2_digestAt 109 = .ok (.istore 8, 2)) ∧ (decode cX2_digestAt 111 = .ok (.goto 28, 3)) := by decide +kernel
theorem dX2_digestAt_84 : decode cX2_digestAt 84 = .ok (.iadd, 1) := dg_X2_digestAt_84.1
theorem dX2_digestAt_85 : decode cX2_digestAt 85 = .ok (.laload, 1) := dg_X2_digestAt_84.2.1
theorem dX2_digestAt_86 : decode cX2_digestAt 86 = .ok (.lstore 6, 2) := dg_X2_digestAt_84.2.2.1
theorem dX2_digestAt_88 : decode cX2_digestAt 88 = .ok (.iconst 0, 1) := dg_X2_digestAt_84.2.2.2.1
theorem dX2_digestAt_89 : decode cX2_digestAt 89 = .ok (.istore 8, 2) := dg_X2_digestAt_84.2.2.2.2.1
theorem dX2_digestAt_91 : decode cX2_digestAt 91 = .ok (.iload_n 3, 1) := dg_X2_digestAt_84.2.2.2.2.2.1
theorem dX2_digestAt_92 : decode cX2_digestAt 92 = .ok (.ifCond .eq 22, 3) := dg_X2_digestAt_84.2.2.2.2.2.2.1
theorem dX2_digestAt_95 : decode cX2_digestAt 95 = .ok (.aload_n 0, 1) := dg_X2_digestAt_84.2.2.2.2.2.2.2.1
theorem dX2_digestAt_96 : decode cX2_digestAt 96 = .ok (.getfield 21, 3) := dg_X2_digestAt_84.2.2.2.2.2.2.2.2.1
theorem dX2_digestAt_99 : decode cX2_digestAt 99 = .ok (.getfield 59, 3) := dg_X2_digestAt_84.2.2.2.2.2.2.2.2.2.1
theorem dX2_digestAt_102 : decode cX2_digestAt 102 = .ok (.iload_n 1, 1) := dg_X2_digestAt_84.2.2.2.2.2.2.2.2.2.2.1
theorem dX2_digestAt_103 : decode cX2_digestAt 103 = .ok (.iaload, 1) := dg_X2_digestAt_84.2.2.2.2.2.2.2.2.2.2.2.1
theorem dX2_digestAt_104 : decode cX2_digestAt 104 = .ok (.lload 6, 2) := dg_X2_digestAt_84.2.2.2.2.2.2.2.2.2.2.2.2.1
theorem dX2_digestAt_106 : decode cX2_digestAt 106 = .ok (.invokestatic 66, 3) := dg_X2_digestAt_84.2.2.2.2.2.2.2.2.2.2.2.2.2.1
theorem dX2_digestAt_109 : decode cX2_digestAt 109 = .ok (.istore 8, 2) := dg_X2_digestAt_84.2.2.2.2.2.2.2.2.2.2.2.2.2.2.1
theorem dX2_digestAt_111 : decode cX2_digestAt 111 = .ok (.goto 28, 3) := dg_X2_digestAt_84.2.2.2.2.2.2.2.2.2.2.2.2.2.2.2
theorem dg_X2_digestAt_114 : (decode cX2_digestAt 114 = .ok (.aload_n 0, 1)) ∧ (decode cX2_digestAt 115 = .ok (.getfield 21, 3)) ∧ (decode cX2_digestAt 118 = .ok (.lload 6, 2)) ∧ (decode cX2_digestAt 120 = .ok (.l2i, 1)) ∧ (decode cX2_digestAt 121 = .ok (.invokevirtual 55, 3)) ∧ (decode cX2_digestAt 124 = .ok (.ifCond .eq 15, 3)) ∧ (decode cX2_digestAt 127 = .ok (.aload_n 0, 1)) ∧ (decode cX2_digestAt 128 = .ok (.lload 6, 2)) ∧ (decode cX2_digestAt 130 = .ok (.l2i, 1)) ∧ (decode cX2_digestAt 131 = .ok (.iload_n 2, 1)) ∧ (decode cX2_digestAt 132 = .ok (.iconst 1, 1)) ∧ (decode cX2_digestAt 133 = .ok (.iadd, 1)) ∧ (decode cX2_digestAt 134 = .ok (.invokevirtual 62, 3)) ∧ (decode cX2_digestAt 137 = .ok (.istore 8, 2)) ∧ (decode cX2_digestAt 139 = .ok (.bipush 31, 2)) ∧ (decode cX2_digestAt 141 = .ok (.iload 4, 2)) := by decide +kernel
theorem dX2_digestAt_114 : decode cX2_digestAt 114 = .ok (.aload_n 0, 1) := dg_X2_digestAt_114.1
theorem dX2_digestAt_115 : decode cX2_digestAt 115 = .ok (.getfield 21, 3) := dg_X2_digestAt_114.2.1
theorem dX2_digestAt_118 : decode cX2_digestAt 118 = .ok (.lload 6, 2) := dg_X2_digestAt_114.2.2.1
theorem dX2_digestAt_120 : decode cX2_digestAt 120 = .ok (.l2i, 1) := dg_X2_digestAt_114.2.2.2.1
theorem dX2_digestAt_121 : decode cX2_digestAt 121 = .ok (.invokevirtual 55, 3) := dg_X2_digestAt_114.2.2.2.2.1
theorem dX2_digestAt_124 : decode cX2_digestAt 124 = .ok (.ifCond .eq 15, 3) := dg_X2_digestAt_114.2.2.2.2.2.1
theorem dX2_digestAt_127 : decode cX2_digestAt 127 = .ok (.aload_n 0, 1) := dg_X2_digestAt_114.2.2.2.2.2.2.1
theorem dX2_digestAt_128 : decode cX2_digestAt 128 = .ok (.lload 6, 2) := dg_X2_digestAt_114.2.2.2.2.2.2.2.1
theorem dX2_digestAt_130 : decode cX2_digestAt 130 = .ok (.l2i, 1) := dg_X2_digestAt_114.2.2.2.2.2.2.2.2.1
theorem dX2_digestAt_131 : decode cX2_digestAt 131 = .ok (.iload_n 2, 1) := dg_X2_digestAt_114.2.2.2.2.2.2.2.2.2.1
theorem dX2_digestAt_132 : decode cX2_digestAt 132 = .ok (.iconst 1, 1) := dg_X2_digestAt_114.2.2.2.2.2.2.2.2.2.2.1
theorem dX2_digestAt_133 : decode cX2_digestAt 133 = .ok (.iadd, 1) := dg_X2_digestAt_114.2.2.2.2.2.2.2.2.2.2.2.1
theorem dX2_digestAt_134 : decode cX2_digestAt 134 = .ok (.invokevirtual 62, 3) := dg_X2_digestAt_114.2.2.2.2.2.2.2.2.2.2.2.2.1
theorem dX2_digestAt_137 : decode cX2_digestAt 137 = .ok (.istore 8, 2) := dg_X2_digestAt_114.2.2.2.2.2.2.2.2.2.2.2.2.2.1
theorem dX2_digestAt_139 : decode cX2_digestAt 139 = .ok (.bipush 31, 2) := dg_X2_digestAt_114.2.2.2.2.2.2.2.2.2.2.2.2.2.2.1
theorem dX2_digestAt_141 : decode cX2_digestAt 141 = .ok (.iload 4, 2) := dg_X2_digestAt_114.2.2.2.2.2.2.2.2.2.2.2.2.2.2.2
theorem dg_X2_digestAt_143 : (decode cX2_digestAt 143 = .ok (.imul, 1)) ∧ (decode cX2_digestAt 144 = .ok (.iload 8, 2)) ∧ (decode cX2_digestAt 146 = .ok (.iadd, 1)) ∧ (decode cX2_digestAt 147 = .ok (.istore 4, 2)) ∧ (decode cX2_digestAt 149 = .ok (.iinc 5 1, 3)) ∧ (decode cX2_digestAt 152 = .ok (.goto (-100), 3)) ∧ (decode cX2_digestAt 155 = .ok (.aload_n 0, 1)) ∧ (decode cX2_digestAt 156 = .ok (.getfield 15, 3)) ∧ (decode cX2_digestAt 159 = .ok (.iload_n 1, 1)) ∧ (decode cX2_digestAt 160 = .ok (.aload_n 0, 1)) ∧ (decode cX2_digestAt 161 = .ok (.getfield 25, 3)) ∧ (decode cX2_digestAt 164 = .ok (.iastore, 1)) ∧ (decode cX2_digestAt 165 = .ok (.aload_n 0, 1)) ∧ (decode cX2_digestAt 166 = .ok (.getfield 18, 3)) ∧ (decode cX2_digestAt 169 = .ok (.iload_n 1, 1)) ∧ (decode cX2_digestAt 170 = .ok (.iload 4, 2)) := by decide +kernel
theorem dX2_digestAt_143 : decode cX2_digestAt 143 = .ok (.imul, 1) := dg_X2_digestAt_143.1
theorem dX2_digestAt_144 : decode cX2_digestAt 144 = .ok (.iload 8, 2) := dg_X2_digestAt_143.2.1
theorem dX2_digestAt_146 : decode cX2_digestAt 146 = .ok (.iadd, 1) := dg_X2_digestAt_143.2.2.1
theorem dX2_digestAt_147 : decode cX2_digestAt 147 = .ok (.istore 4, 2) := dg_X2_digestAt_143.2.2.2.1
theorem dX2_digestAt_149 : decode cX2_digestAt 149 = .ok (.iinc 5 1, 3) := dg_X2_digestAt_143.2.2.2.2.1
theorem dX2_digestAt_152 : decode cX2_digestAt 152 = .ok (.goto (-100), 3) := dg_X2_digestAt_143.2.2.2.2.2.1
theorem dX2_digestAt_155 : decode cX2_digestAt 155 = .ok (.aload_n 0, 1) := dg_X2_digestAt_143.2.2.2.2.2.2.1
theorem dX2_digestAt_156 : decode cX2_digestAt 156 = .ok (.getfield 15, 3) := dg_X2_digestAt_143.2.2.2.2.2.2.2.1
theorem dX2_digestAt_159 : decode cX2_digestAt 159 = .ok (.iload_n 1, 1) := dg_X2_digestAt_143.2.2.2.2.2.2.2.2.1
theorem dX2_digestAt_160 : decode cX2_digestAt 160 = .ok (.aload_n 0, 1) := dg_X2_digestAt_143.2.2.2.2.2.2.2.2.2.1
theorem dX2_digestAt_161 : decode cX2_digestAt 161 = .ok (.getfield 25, 3) := dg_X2_digestAt_143.2.2.2.2.2.2.2.2.2.2.1
theorem dX2_digestAt_164 : decode cX2_digestAt 164 = .ok (.iastore, 1) := dg_X2_digestAt_143.2.2.2.2.2.2.2.2.2.2.2.1
theorem dX2_digestAt_165 : decode cX2_digestAt 165 = .ok (.aload_n 0, 1) := dg_X2_digestAt_143.2.2.2.2.2.2.2.2.2.2.2.2.1
theorem dX2_digestAt_166 : decode cX2_digestAt 166 = .ok (.getfield 18, 3) := dg_X2_digestAt_143.2.2.2.2.2.2.2.2.2.2.2.2.2.1
theorem dX2_digestAt_169 : decode cX2_digestAt 169 = .ok (.iload_n 1, 1) := dg_X2_digestAt_143.2.2.2.2.2.2.2.2.2.2.2.2.2.2.1
theorem dX2_digestAt_170 : decode cX2_digestAt 170 = .ok (.iload 4, 2) := dg_X2_digestAt_143.2.2.2.2.2.2.2.2.2.2.2.2.2.2.2
theorem dg_X2_digestAt_172 : (decode cX2_digestAt 172 = .ok (.iastore, 1)) ∧ (decode cX2_digestAt 173 = .ok (.iload 4, 2)) ∧ (decode cX2_digestAt 175 = .ok (.ireturn, 1)) := by decide +kernel
theorem dX2_digestAt_172 : decode cX2_digestAt 172 = .ok (.iastore, 1) := dg_X2_digestAt_172.1
theorem dX2_digestAt_173 : decode cX2_digestAt 173 = .ok (.iload 4, 2) := dg_X2_digestAt_172.2.1
theorem dX2_digestAt_175 : decode cX2_digestAt 175 = .ok (.ireturn, 1) := dg_X2_digestAt_172.2.2
abbrev rm_co_digest5 : Room := { frames := 0, cells := 0, slots := 0, locals := 0 }
abbrev po_co_digest5 (g : zz_G) (lk : Nat) (l_ag : Nat) (l_dg : Nat) (l_ds : Nat) (st : Nat) (kd : Nat) (dp : Nat) (cl : Nat) (sa : Nat) (ln : Nat) (bt : Nat) (pn : Nat) (bf : Nat) (na : Nat) (nu : Nat) (rd : Int32) (kdf : Nat → Int32) (dpf : Nat → Int32) (saf : Nat → Int32) (lnf : Nat → Int32) (btf : Nat → Int64) (dgf : Nat → Int32) (dsf : Nat → Int32) (a : Nat) (h_S : zz_SI na nu dpf saf lnf) (h_a : a < na) : Int32 → va_W → Prop := fun (r : Int32) (u : va_W) => ∃ (dg2 : Nat → Int32) (ds2 : Nat → Int32), u = [cw_k1 lk st rd l_ag l_dg l_ds, cw_i g l_dg 60 dg2, cw_i g l_ds 60 ds2, cw_k5 st (nI na) (nI nu) kd dp cl sa ln bt pn bf, cw_i g kd 60 kdf, cw_i g dp 60 dpf, cw_i g sa 60 saf, cw_i g ln 60 lnf, cw_l g bt 4000 btf]
set_option maxHeartbeats 4000000 in
set_option maxRecDepth 100000 in
theorem co_digest5 (g : zz_G) (lk : Nat) (l_ag : Nat) (l_dg : Nat) (l_ds : Nat) (st : Nat) (kd : Nat) (dp : Nat) (cl : Nat) (sa : Nat) (ln : Nat) (bt : Nat) (pn : Nat) (bf : Nat) (na : Nat) (nu : Nat) (rd : Int32) (kdf : Nat → Int32) (dpf : Nat → Int32) (saf : Nat → Int32) (lnf : Nat → Int32) (btf : Nat → Int64) (dgf : Nat → Int32) (dsf : Nat → Int32) (a : Nat) (h_S : zz_SI na nu dpf saf lnf) (h_a : a < na) : zz_I g yX2_digestAt (.code yX2_digestAt cX2_digestAt 9 (some .int)) rm_co_digest5 [.ref lk, .int (nI a), .int 5] [cw_k1 lk st rd l_ag l_dg l_ds, cw_i g l_dg 60 dgf, cw_i g l_ds 60 dsf, cw_k5 st (nI na) (nI nu) kd dp cl sa ln bt pn bf, cw_i g kd 60 kdf, cw_i g dp 60 dpf, cw_i g sa 60 saf, cw_i g ln 60 lnf, cw_l g bt 4000 btf] (po_co_digest5 g lk l_ag l_dg l_ds st kd dp cl sa ln bt pn bf na nu rd kdf dpf saf lnf btf dgf dsf a h_S h_a) := by
  refine zz_I.intro (own := RX2) (cc := cX2_digestAt) (nL := 9) (by decide) rfl (Nat.le_of_ble_eq_true rfl) ?_
  intro p l e s m args below meth c A H locs ls hC hnm hs hZ hl
  obtain ⟨hx, hb, hml, hown, hts, hr, hlocks, hK⟩ := id hC
  have hl : lv_has ls 9 [(0, .ref lk), (1, .int (nI a)), (2, .int 5)] := hl
  have hZ : zz_Z g A s.heap [cw_k1 lk st rd l_ag l_dg l_ds, cw_i g l_dg 60 dgf, cw_i g l_ds 60 dsf, cw_k5 st (nI na) (nI nu) kd dp cl sa ln bt pn bf, cw_i g kd 60 kdf, cw_i g dp 60 dpf, cw_i g sa 60 saf, cw_i g ln 60 lnf, cw_l g bt 4000 btf] H locs := hZ
  have hna := h_S.1
  have hnu := h_S.2.1
  obtain ⟨sz, lz, dz, es, el, ed, g1, g2, g3, g4⟩ := h_S.2.2 a h_a
  refine lv_iload_n hx hb dX2_digestAt_0 rfl (lv_at hl 2 rfl) ?_
  refine lv_iconst (v := 4) hx hb dX2_digestAt_1 (by decide) ?_
  refine lv_icmp_le (tgt := 7) hx hb dX2_digestAt_2 (by decide) (fun c => absurd c (by decide)) (fun c1 => ?_)
  refine lv_iconst (v := 0) hx hb dX2_digestAt_5 (by decide) ?_
  exact zz_iret hC hZ (⟨dgf, dsf, rfl⟩) (Nat.le_of_ble_eq_true rfl) (Nat.le_of_ble_eq_true rfl) dX2_digestAt_6
theorem zf_X2_15 : zz_f RX2 15 1 3 := ⟨RX2, TX2, 5, rfl, zi_X2, by decide, zk_118⟩
theorem zf_X2_18 : zz_f RX2 18 1 4 := ⟨RX2, TX2, 5, rfl, zi_X2, by decide, zk_119⟩
theorem zk_522 : Cond.methodLink RX2 62 yX2_digestAt ∈ zz_w := zz_in (List.mem_append_right _ (List.mem_append_right _ (List.mem_append_right _ (List.mem_append_left _ (List.mem_of_getElem? (i := 42) (by decide +kernel)))))) rfl
set_option maxRecDepth 20000 in
theorem zk_525 : Cond.code yX2_digestAt cX2_digestAt 9 (some .int) ∈ zz_w := zz_in (List.mem_append_right _ (List.mem_append_right _ (List.mem_append_right _ (List.mem_append_left _ (List.mem_of_getElem? (i := 45) (rfl)))))) rfl
theorem zk_524 : Cond.instanceMethod yX2_digestAt ∈ zz_w := zz_in (List.mem_append_right _ (List.mem_append_right _ (List.mem_append_right _ (List.mem_append_left _ (List.mem_of_getElem? (i := 44) (by decide +kernel)))))) rfl
theorem zs_12 : Cond.selects RX2 yX2_digestAt yX2_digestAt ∈ zz_w := zz_in (List.mem_append_left _ (List.mem_of_getElem? (i := 12) (by decide +kernel))) rfl
theorem zc_X2_62 : zz_cV RX2 62 yX2_digestAt cX2_digestAt 9 (some .int) 2 := ⟨⟨zk_522, zk_525, zk_4, by decide, by decide, by decide +kernel⟩, zk_524, zs_12⟩
theorem zk_526 : Cond.methodLink RX2 66 yX1_hashOf ∈ zz_w := zz_in (List.mem_append_right _ (List.mem_append_right _ (List.mem_append_right _ (List.mem_append_left _ (List.mem_of_getElem? (i := 46) (by decide +kernel)))))) rfl
set_option maxRecDepth 20000 in
theorem zk_528 : Cond.code yX1_hashOf cX1_hashOf 3 (some .int) ∈ zz_w := zz_in (List.mem_append_right _ (List.mem_append_right _ (List.mem_append_right _ (List.mem_append_left _ (List.mem_of_getElem? (i := 48) (rfl)))))) rfl
theorem zk_527 : Cond.static yX1_hashOf ∈ zz_w := zz_in (List.mem_append_right _ (List.mem_append_right _ (List.mem_append_right _ (List.mem_append_left _ (List.mem_of_getElem? (i := 47) (by decide +kernel)))))) rfl
theorem zc_X2_66 : zz_cS RX2 66 yX1_hashOf cX1_hashOf 3 (some .int) 2 := ⟨⟨zk_526, zk_528, zk_8, by decide, by decide, by decide +kernel⟩, zk_527⟩
abbrev rm_co_digest4 : Room := { frames := 1, cells := 0, slots := 0, locals := 28 }
abbrev po_co_digest4 (g : zz_G) (lk : Nat) (l_ag : Nat) (l_dg : Nat) (l_ds : Nat) (st : Nat) (kd : Nat) (dp : Nat) (cl : Nat) (sa : Nat) (ln : Nat) (bt : Nat) (pn : Nat) (bf : Nat) (na : Nat) (nu : Nat) (rd : Int32) (kdf : Nat → Int32) (dpf : Nat → Int32) (saf : Nat → Int32) (lnf : Nat → Int32) (btf : Nat → Int64) (dgf : Nat → Int32) (dsf : Nat → Int32) (a : Nat) (h_S : zz_SI na nu dpf saf lnf) (h_a : a < na) : Int32 → va_W → Prop := fun (r : Int32) (u : va_W) => ∃ (dg2 : Nat → Int32) (ds2 : Nat → Int32), u = [cw_k1 lk st rd l_ag l_dg l_ds, cw_i g l_dg 60 dg2, cw_i g l_ds 60 ds2, cw_k5 st (nI na) (nI nu) kd dp cl sa ln bt pn bf, cw_i g kd 60 kdf, cw_i g dp 60 dpf, cw_i g sa 60 saf, cw_i g ln 60 lnf, cw_l g bt 4000 btf]
set_option maxHeartbeats 4000000 in
set_option maxRecDepth 100000 in
theorem co_digest4 (g : zz_G) (lk : Nat) (l_ag : Nat) (l_dg : Nat) (l_ds : Nat) (st : Nat) (kd : Nat) (dp : Nat) (cl : Nat) (sa : Nat) (ln : Nat) (bt : Nat) (pn : Nat) (bf : Nat) (na : Nat) (nu : Nat) (rd : Int32) (kdf : Nat → Int32) (dpf : Nat → Int32) (saf : Nat → Int32) (lnf : Nat → Int32) (btf : Nat → Int64) (dgf : Nat → Int32) (dsf : Nat → Int32) (a : Nat) (h_S : zz_SI na nu dpf saf lnf) (h_a : a < na) : zz_I g yX2_digestAt (.code yX2_digestAt cX2_digestAt 9 (some .int)) rm_co_digest4 [.ref lk, .int (nI a), .int 4] [cw_k1 lk st rd l_ag l_dg l_ds, cw_i g l_dg 60 dgf, cw_i g l_ds 60 dsf, cw_k5 st (nI na) (nI nu) kd dp cl sa ln bt pn bf, cw_i g kd 60 kdf, cw_i g dp 60 dpf, cw_i g sa 60 saf, cw_i g ln 60 lnf, cw_l g bt 4000 btf] (po_co_digest4 g lk l_ag l_dg l_ds st kd dp cl sa ln bt pn bf na nu rd kdf dpf saf lnf btf dgf dsf a h_S h_a) := by
  refine zz_I.intro (own := RX2) (cc := cX2_digestAt) (nL := 9) (by decide) rfl (Nat.le_of_ble_eq_true rfl) ?_
  intro p l e s m args below meth c A H locs ls hC hnm hs hZ hl
  obtain ⟨hx, hb, hml, hown, hts, hr, hlocks, hK⟩ := id hC
  have hl : lv_has ls 9 [(0, .ref lk), (1, .int (nI a)), (2, .int 4)] := hl
  have hZ : zz_Z g A s.heap [cw_k1 lk st rd l_ag l_dg l_ds, cw_i g l_dg 60 dgf, cw_i g l_ds 60 dsf, cw_k5 st (nI na) (nI nu) kd dp cl sa ln bt pn bf, cw_i g kd 60 kdf, cw_i g dp 60 dpf, cw_i g sa 60 saf, cw_i g ln 60 lnf, cw_l g bt 4000 btf] H locs := hZ
  have hna := h_S.1
  have hnu := h_S.2.1
  obtain ⟨sz, lz, dz, es, el, ed, g1, g2, g3, g4⟩ := h_S.2.2 a h_a
  refine lv_iload_n hx hb dX2_digestAt_0 rfl (lv_at hl 2 rfl) ?_
  refine lv_iconst (v := 4) hx hb dX2_digestAt_1 (by decide) ?_
  refine lv_icmp_le (tgt := 7) hx hb dX2_digestAt_2 (by decide) (fun c1 => ?_) (fun c => absurd (by decide) c)
  refine lv_aload_n hx hb dX2_digestAt_7 rfl (lv_at hl 0 rfl) ?_
  refine zz_get hC hZ 0 rfl zf_X2_15 rfl dX2_digestAt_8 ?_
  refine lv_iload_n hx hb dX2_digestAt_11 rfl (lv_at hl 1 rfl) ?_
  refine zz_iald hC hZ 1 rfl (vp_in_nI (by omega) (by decide)) dX2_digestAt_12 ?_
  rw [nI_clamp (n := a) (by omega)]
  refine lv_aload_n hx hb dX2_digestAt_13 rfl (lv_at hl 0 rfl) ?_
  refine zz_get hC hZ 0 rfl zf_X2_25 rfl dX2_digestAt_14 ?_
  refine lv_icmp_ne (tgt := 27) hx hb dX2_digestAt_17 (by decide) (fun c2 => ?_) (fun c2 => ?_)
  · refine lv_aload_n hx hb dX2_digestAt_27 rfl (lv_at hl 0 rfl) ?_
    refine zz_get hC hZ 0 rfl zf_X2_21 rfl dX2_digestAt_28 ?_
    refine zz_get hC hZ 3 rfl zf_X2_37 rfl dX2_digestAt_31 ?_
    refine lv_iload_n hx hb dX2_digestAt_34 rfl (lv_at hl 1 rfl) ?_
    refine zz_iald hC hZ 5 rfl (vp_in_nI (by omega) (by decide)) dX2_digestAt_35 ?_
    rw [nI_clamp (n := a) (by omega)]
    refine zz_topi (v := nI dz) (ed) ?_
    refine lv_iconst (v := 1) hx hb dX2_digestAt_36 (by decide) ?_
    refine lv_icmp_ne (tgt := 44) hx hb dX2_digestAt_37 (by decide) (fun c3 => ?_) (fun c3 => ?_)
    · have nc3 : ¬ dz = 1 := fun zq => c3 (show nI (dz) = nI (1) from (nI_eq (by omega) (by omega)).mpr zq)
      refine lv_iconst (v := 0) hx hb dX2_digestAt_44 (by decide) ?_
      refine lv_istore_n (lv' := [(3, .int 0), (0, .ref lk), (1, .int (nI a)), (2, .int 4)]) hx hb dX2_digestAt_45 rfl hl (by decide) rfl (fun ls hl => ?_)
      refine lv_iconst (v := 1) hx hb dX2_digestAt_46 (by decide) ?_
      refine lv_istore (lv' := [(4, .int 1), (3, .int 0), (0, .ref lk), (1, .int (nI a)), (2, .int 4)]) hx hb dX2_digestAt_47 hl (by decide) rfl (fun ls hl => ?_)
      refine lv_iconst (v := 0) hx hb dX2_digestAt_49 (by decide) ?_
      refine lv_istore (lv' := [(5, .int 0), (4, .int 1), (3, .int 0), (0, .ref lk), (1, .int (nI a)), (2, .int 4)]) hx hb dX2_digestAt_50 hl (by decide) rfl (fun ls hl => ?_)
      have LP4 : ∀ (N : Nat) (i : Nat) (w : Int32) (dg1 : Nat → Int32) (ds1 : Nat → Int32) (H : Heap) (locs : List Loc) (ls : Array Slot), (i ≤ lz) → (lz - i) < N → zz_Z g A s.heap [cw_k1 lk st rd l_ag l_dg l_ds, cw_i g l_dg 60 dg1, cw_i g l_ds 60 ds1, cw_k5 st (nI na) (nI nu) kd dp cl sa ln bt pn bf, cw_i g kd 60 kdf, cw_i g dp 60 dpf, cw_i g sa 60 saf, cw_i g ln 60 lnf, cw_l g bt 4000 btf] H locs → lv_has ls 9 [(5, .int (nI i)), (4, .int w), (3, .int 0), (0, .ref lk), (1, .int (nI a)), (2, .int 4)] → W p l e rm_co_digest4 s m args below meth c H locs 0 0 (zz_QI below g args s A rm_co_digest4.cells rm_co_digest4.slots (po_co_digest4 g lk l_ag l_dg l_ds st kd dp cl sa ln bt pn bf na nu rd kdf dpf saf lnf btf dgf dsf a h_S h_a)) (F0 m 52 ls []) := by
        intro N
        induction N with
        | zero =>
          intro i w dg1 ds1 H locs ls hi hN
          exact absurd hN (Nat.not_lt_zero _)
        | succ N ih =>
          intro i w dg1 ds1 H locs ls hi hN hZ hl
          refine lv_iload hx hb dX2_digestAt_52 (lv_at hl 0 rfl) ?_
          refine lv_aload_n hx hb dX2_digestAt_54 rfl (lv_at hl 3 rfl) ?_
          refine zz_get hC hZ 0 rfl zf_X2_21 rfl dX2_digestAt_55 ?_
          refine zz_get hC hZ 3 rfl zf_X2_42 rfl dX2_digestAt_58 ?_
          refine lv_iload_n hx hb dX2_digestAt_61 rfl (lv_at hl 4 rfl) ?_
          refine zz_iald hC hZ 7 rfl (vp_in_nI (by omega) (by decide)) dX2_digestAt_62 ?_
          rw [nI_clamp (n := a) (by omega)]
          refine zz_topi (v := nI lz) (el) ?_
          refine lv_icmp_ge (tgt := 155) hx hb dX2_digestAt_63 (by decide) (fun c5 => ?_) (fun c5 => ?_)
          · have nc5 : lz ≤ i := (nI_leI (by omega) (by omega)).mp (show nI (lz) ≤ nI (i) from c5)
            refine lv_aload_n hx hb dX2_digestAt_155 rfl (lv_at hl 3 rfl) ?_
            refine zz_get hC hZ 0 rfl zf_X2_15 rfl dX2_digestAt_156 ?_
            refine lv_iload_n hx hb dX2_digestAt_159 rfl (lv_at hl 4 rfl) ?_
            refine lv_aload_n hx hb dX2_digestAt_160 rfl (lv_at hl 3 rfl) ?_
            refine zz_get hC hZ 0 rfl zf_X2_25 rfl dX2_digestAt_161 ?_
            refine zz_iast hC hZ 1 rfl (vp_in_nI (by omega) (by decide)) dX2_digestAt_164 (fun H locs hZ => ?_)
            rw [nI_clamp (n := a) (by omega)] at hZ
            have hZ : zz_Z g A s.heap [cw_k1 lk st rd l_ag l_dg l_ds, cw_i g l_dg 60 (upd dg1 a rd), cw_i g l_ds 60 ds1, cw_k5 st (nI na) (nI nu) kd dp cl sa ln bt pn bf, cw_i g kd 60 kdf, cw_i g dp 60 dpf, cw_i g sa 60 saf, cw_i g ln 60 lnf, cw_l g bt 4000 btf] H locs := hZ
            refine lv_aload_n hx hb dX2_digestAt_165 rfl (lv_at hl 3 rfl) ?_
            refine zz_get hC hZ 0 rfl zf_X2_18 rfl dX2_digestAt_166 ?_
            refine lv_iload_n hx hb dX2_digestAt_169 rfl (lv_at hl 4 rfl) ?_
            refine lv_iload hx hb dX2_digestAt_170 (lv_at hl 1 rfl) ?_
            refine zz_iast hC hZ 2 rfl (vp_in_nI (by omega) (by decide)) dX2_digestAt_172 (fun H locs hZ => ?_)
            rw [nI_clamp (n := a) (by omega)] at hZ
            have hZ : zz_Z g A s.heap [cw_k1 lk st rd l_ag l_dg l_ds, cw_i g l_dg 60 (upd dg1 a rd), cw_i g l_ds 60 (upd ds1 a w), cw_k5 st (nI na) (nI nu) kd dp cl sa ln bt pn bf, cw_i g kd 60 kdf, cw_i g dp 60 dpf, cw_i g sa 60 saf, cw_i g ln 60 lnf, cw_l g bt 4000 btf] H locs := hZ
            refine lv_iload hx hb dX2_digestAt_173 (lv_at hl 1 rfl) ?_
            exact zz_iret hC hZ (⟨(upd dg1 a rd), (upd ds1 a w), rfl⟩) (Nat.le_of_ble_eq_true rfl) (Nat.le_of_ble_eq_true rfl) dX2_digestAt_175
          · have nc5 : ¬ lz ≤ i := fun zq => c5 (show nI (lz) ≤ nI (i) from (nI_leI (by omega) (by omega)).mpr zq)
            refine lv_aload_n hx hb dX2_digestAt_66 rfl (lv_at hl 3 rfl) ?_
            refine zz_get hC hZ 0 rfl zf_X2_21 rfl dX2_digestAt_67 ?_
            refine zz_get hC hZ 3 rfl zf_X2_45 rfl dX2_digestAt_70 ?_
            refine lv_aload_n hx hb dX2_digestAt_73 rfl (lv_at hl 3 rfl) ?_
            refine zz_get hC hZ 0 rfl zf_X2_21 rfl dX2_digestAt_74 ?_
            refine zz_get hC hZ 3 rfl zf_X2_49 rfl dX2_digestAt_77 ?_
            refine lv_iload_n hx hb dX2_digestAt_80 rfl (lv_at hl 4 rfl) ?_
            refine zz_iald hC hZ 6 rfl (vp_in_nI (by omega) (by decide)) dX2_digestAt_81 ?_
            rw [nI_clamp (n := a) (by omega)]
            refine zz_topi (v := nI sz) (es) ?_
            refine lv_iload hx hb dX2_digestAt_82 (lv_at hl 0 rfl) ?_
            refine lv_iadd hx hb dX2_digestAt_84 ?_
            refine zz_topi (v := nI (sz + i)) (nI_add _ _) ?_
            refine zz_lald hC hZ 8 rfl (vp_in_nI (by omega) (by decide)) dX2_digestAt_85 ?_
            rw [nI_clamp (n := (sz + i)) (by omega)]
            refine lv_lstore (lv' := [(6, .long (btf (sz + i))), (5, .int (nI i)), (4, .int w), (3, .int 0), (0, .ref lk), (1, .int (nI a)), (2, .int 4)]) hx hb dX2_digestAt_86 hl (by decide) rfl (fun ls hl => ?_)
            refine lv_iconst (v := 0) hx hb dX2_digestAt_88 (by decide) ?_
            refine lv_istore (lv' := [(8, .int 0), (6, .long (btf (sz + i))), (5, .int (nI i)), (4, .int w), (3, .int 0), (0, .ref lk), (1, .int (nI a)), (2, .int 4)]) hx hb dX2_digestAt_89 hl (by decide) rfl (fun ls hl => ?_)
            refine lv_iload_n hx hb dX2_digestAt_91 rfl (lv_at hl 4 rfl) ?_
            refine lv_if_eq (tgt := 114) hx hb dX2_digestAt_92 (by decide) (fun c6 => ?_) (fun c => absurd (by decide) c)
            refine lv_aload_n hx hb dX2_digestAt_114 rfl (lv_at hl 5 rfl) ?_
            refine zz_get hC hZ 0 rfl zf_X2_21 rfl dX2_digestAt_115 ?_
            refine lv_lload hx hb dX2_digestAt_118 (lv_at hl 1 rfl) ?_
            refine lv_l2i hx hb dX2_digestAt_120 rfl ?_
            refine zz_iV (As := [.int ((btf (sz + i)).toInt32)]) (wc := [cw_k5 st (nI na) (nI nu) kd dp cl sa ln bt pn bf]) (wr := [cw_k1 lk st rd l_ag l_dg l_ds, cw_i g l_dg 60 dg1, cw_i g l_ds 60 ds1, cw_i g kd 60 kdf, cw_i g dp 60 dpf, cw_i g sa 60 saf, cw_i g ln 60 lnf, cw_l g bt 4000 btf]) (rest := []) hC hZ hs hl zc_X2_55 (co_has g st kd dp cl sa ln bt pn bf (nI na) (nI nu) ((btf (sz + i)).toInt32)) [3] [0, 1, 2, 4, 5, 6, 7, 8] rfl rfl (by decide +kernel) (ci := 5) (q0 := 0) rfl rfl rfl rfl (Nat.le_of_ble_eq_true rfl) ⟨⟨Nat.le_of_ble_eq_true rfl, Nat.le_of_ble_eq_true rfl⟩, Nat.le_of_ble_eq_true rfl, Nat.le_of_ble_eq_true rfl⟩ dX2_digestAt_121 (fun r7 u8 H locs hp hZ => ?_)
            obtain ⟨rfl, rfl⟩ := hp
            have hZ : zz_Z g A s.heap [cw_k1 lk st rd l_ag l_dg l_ds, cw_i g l_dg 60 dg1, cw_i g l_ds 60 ds1, cw_i g kd 60 kdf, cw_i g dp 60 dpf, cw_i g sa 60 saf, cw_i g ln 60 lnf, cw_l g bt 4000 btf, cw_k5 st (nI na) (nI nu) kd dp cl sa ln bt pn bf] H locs := hZ
            refine lv_if_eq (tgt := 139) hx hb dX2_digestAt_124 (by decide) (fun c9 => ?_) (fun c9 => ?_)
            · refine lv_bipush (v := 31) hx hb dX2_digestAt_139 (by decide) ?_
              refine lv_iload hx hb dX2_digestAt_141 (lv_at hl 3 rfl) ?_
              refine lv_imul hx hb dX2_digestAt_143 ?_
              refine lv_iload hx hb dX2_digestAt_144 (lv_at hl 0 rfl) ?_
              refine lv_iadd hx hb dX2_digestAt_146 ?_
              refine lv_istore (lv' := [(4, .int ((31 * w) + 0)), (8, .int 0), (6, .long (btf (sz + i))), (5, .int (nI i)), (3, .int 0), (0, .ref lk), (1, .int (nI a)), (2, .int 4)]) hx hb dX2_digestAt_147 hl (by decide) rfl (fun ls hl => ?_)
              refine lv_iinc (v := nI (i + 1)) (lv' := [(5, .int (nI (i + 1))), (4, .int ((31 * w) + 0)), (8, .int 0), (6, .long (btf (sz + i))), (3, .int 0), (0, .ref lk), (1, .int (nI a)), (2, .int 4)]) hx hb dX2_digestAt_149 hl (k := 3) rfl (nI_1 _) (by decide) rfl (fun ls hl => ?_)
              refine lv_goto (tgt := 52) hx hb dX2_digestAt_152 (by decide) ?_
              exact ih (i + 1) ((31 * w) + 0) dg1 ds1 H locs ls (by omega) (by omega) (hZ.sub [0, 1, 2, 8, 3, 4, 5, 6, 7] (by decide +kernel) rfl) (lv_sub hl [0, 1, 4, 5, 6, 7] rfl)
            · obtain ⟨b2, hb2, eb2⟩ := zl_has (by omega) c9
              refine lv_aload_n hx hb dX2_digestAt_127 rfl (lv_at hl 5 rfl) ?_
              refine lv_lload hx hb dX2_digestAt_128 (lv_at hl 1 rfl) ?_
              refine lv_l2i hx hb dX2_digestAt_130 rfl ?_
              refine zz_topi (v := nI b2) (eb2) ?_
              refine lv_iload_n hx hb dX2_digestAt_131 rfl (lv_at hl 7 rfl) ?_
              refine lv_iconst (v := 1) hx hb dX2_digestAt_132 (by decide) ?_
              refine lv_iadd hx hb dX2_digestAt_133 ?_
              refine zz_topi (v := 5) (by decide) ?_
              refine zz_iV (As := [.int (nI b2), .int 5]) (wc := [cw_k1 lk st rd l_ag l_dg l_ds, cw_i g l_dg 60 dg1, cw_i g l_ds 60 ds1, cw_k5 st (nI na) (nI nu) kd dp cl sa ln bt pn bf, cw_i g kd 60 kdf, cw_i g dp 60 dpf, cw_i g sa 60 saf, cw_i g ln 60 lnf, cw_l g bt 4000 btf]) (wr := []) (rest := []) hC hZ hs hl zc_X2_62 (co_digest5 g lk l_ag l_dg l_ds st kd dp cl sa ln bt pn bf na nu rd kdf dpf saf lnf btf dg1 ds1 b2 (h_S) (by omega)) [0, 1, 2, 8, 3, 4, 5, 6, 7] [] rfl rfl (by decide +kernel) (ci := 1) (q0 := 0) rfl rfl rfl rfl (Nat.le_of_ble_eq_true rfl) ⟨⟨Nat.le_of_ble_eq_true rfl, Nat.le_of_ble_eq_true rfl⟩, Nat.le_of_ble_eq_true rfl, Nat.le_of_ble_eq_true rfl⟩ dX2_digestAt_134 (fun r10 u11 H locs hp hZ => ?_)
              obtain ⟨dg2_12, ds2_13, rfl⟩ := hp
              have hZ : zz_Z g A s.heap [cw_k1 lk st rd l_ag l_dg l_ds, cw_i g l_dg 60 dg2_12, cw_i g l_ds 60 ds2_13, cw_k5 st (nI na) (nI nu) kd dp cl sa ln bt pn bf, cw_i g kd 60 kdf, cw_i g dp 60 dpf, cw_i g sa 60 saf, cw_i g ln 60 lnf, cw_l g bt 4000 btf] H locs := hZ
              refine lv_istore (lv' := [(8, .int r10), (6, .long (btf (sz + i))), (5, .int (nI i)), (4, .int w), (3, .int 0), (0, .ref lk), (1, .int (nI a)), (2, .int 4)]) hx hb dX2_digestAt_137 hl (by decide) rfl (fun ls hl => ?_)
              refine lv_bipush (v := 31) hx hb dX2_digestAt_139 (by decide) ?_
              refine lv_iload hx hb dX2_digestAt_141 (lv_at hl 3 rfl) ?_
              refine lv_imul hx hb dX2_digestAt_143 ?_
              refine lv_iload hx hb dX2_digestAt_144 (lv_at hl 0 rfl) ?_
              refine lv_iadd hx hb dX2_digestAt_146 ?_
              refine lv_istore (lv' := [(4, .int ((31 * w) + r10)), (8, .int r10), (6, .long (btf (sz + i))), (5, .int (nI i)), (3, .int 0), (0, .ref lk), (1, .int (nI a)), (2, .int 4)]) hx hb dX2_digestAt_147 hl (by decide) rfl (fun ls hl => ?_)
              refine lv_iinc (v := nI (i + 1)) (lv' := [(5, .int (nI (i + 1))), (4, .int ((31 * w) + r10)), (8, .int r10), (6, .long (btf (sz + i))), (3, .int 0), (0, .ref lk), (1, .int (nI a)), (2, .int 4)]) hx hb dX2_digestAt_149 hl (k := 3) rfl (nI_1 _) (by decide) rfl (fun ls hl => ?_)
              refine lv_goto (tgt := 52) hx hb dX2_digestAt_152 (by decide) ?_
              exact ih (i + 1) ((31 * w) + r10) dg2_12 ds2_13 H locs ls (by omega) (by omega) hZ (lv_sub hl [0, 1, 4, 5, 6, 7] rfl)
      exact LP4 _ 0 1 dgf dsf H locs ls (by omega) (Nat.lt_succ_self _) hZ (lv_sub hl [0, 1, 2, 3, 4, 5] rfl)
    · have nc3 : dz = 1 := (nI_eq (by omega) (by omega)).mp (show nI (dz) = nI (1) from c3)
      refine lv_iconst (v := 1) hx hb dX2_digestAt_40 (by decide) ?_
      refine lv_goto (tgt := 45) hx hb dX2_digestAt_41 (by decide) ?_
      refine lv_istore_n (lv' := [(3, .int 1), (0, .ref lk), (1, .int (nI a)), (2, .int 4)]) hx hb dX2_digestAt_45 rfl hl (by decide) rfl (fun ls hl => ?_)
      refine lv_iconst (v := 1) hx hb dX2_digestAt_46 (by decide) ?_
      refine lv_istore (lv' := [(4, .int 1), (3, .int 1), (0, .ref lk), (1, .int (nI a)), (2, .int 4)]) hx hb dX2_digestAt_47 hl (by decide) rfl (fun ls hl => ?_)
      refine lv_iconst (v := 0) hx hb dX2_digestAt_49 (by decide) ?_
      refine lv_istore (lv' := [(5, .int 0), (4, .int 1), (3, .int 1), (0, .ref lk), (1, .int (nI a)), (2, .int 4)]) hx hb dX2_digestAt_50 hl (by decide) rfl (fun ls hl => ?_)
      have LP14 : ∀ (N : Nat) (i : Nat) (w : Int32) (dg1 : Nat → Int32) (ds1 : Nat → Int32) (H : Heap) (locs : List Loc) (ls : Array Slot), (i ≤ lz) → (lz - i) < N → zz_Z g A s.heap [cw_k1 lk st rd l_ag l_dg l_ds, cw_i g l_dg 60 dg1, cw_i g l_ds 60 ds1, cw_k5 st (nI na) (nI nu) kd dp cl sa ln bt pn bf, cw_i g kd 60 kdf, cw_i g dp 60 dpf, cw_i g sa 60 saf, cw_i g ln 60 lnf, cw_l g bt 4000 btf] H locs → lv_has ls 9 [(5, .int (nI i)), (4, .int w), (3, .int 1), (0, .ref lk), (1, .int (nI a)), (2, .int 4)] → W p l e rm_co_digest4 s m args below meth c H locs 0 0 (zz_QI below g args s A rm_co_digest4.cells rm_co_digest4.slots (po_co_digest4 g lk l_ag l_dg l_ds st kd dp cl sa ln bt pn bf na nu rd kdf dpf saf lnf btf dgf dsf a h_S h_a)) (F0 m 52 ls []) := by
        intro N
        induction N with
        | zero =>
          intro i w dg1 ds1 H locs ls hi hN
          exact absurd hN (Nat.not_lt_zero _)
        | succ N ih =>
          intro i w dg1 ds1 H locs ls hi hN hZ hl
          refine lv_iload hx hb dX2_digestAt_52 (lv_at hl 0 rfl) ?_
          refine lv_aload_n hx hb dX2_digestAt_54 rfl (lv_at hl 3 rfl) ?_
          refine zz_get hC hZ 0 rfl zf_X2_21 rfl dX2_digestAt_55 ?_
          refine zz_get hC hZ 3 rfl zf_X2_42 rfl dX2_digestAt_58 ?_
          refine lv_iload_n hx hb dX2_digestAt_61 rfl (lv_at hl 4 rfl) ?_
          refine zz_iald hC hZ 7 rfl (vp_in_nI (by omega) (by decide)) dX2_digestAt_62 ?_
          rw [nI_clamp (n := a) (by omega)]
          refine zz_topi (v := nI lz) (el) ?_
          refine lv_icmp_ge (tgt := 155) hx hb dX2_digestAt_63 (by decide) (fun c15 => ?_) (fun c15 => ?_)
          · have nc15 : lz ≤ i := (nI_leI (by omega) (by omega)).mp (show nI (lz) ≤ nI (i) from c15)
            refine lv_aload_n hx hb dX2_digestAt_155 rfl (lv_at hl 3 rfl) ?_
            refine zz_get hC hZ 0 rfl zf_X2_15 rfl dX2_digestAt_156 ?_
            refine lv_iload_n hx hb dX2_digestAt_159 rfl (lv_at hl 4 rfl) ?_
            refine lv_aload_n hx hb dX2_digestAt_160 rfl (lv_at hl 3 rfl) ?_
            refine zz_get hC hZ 0 rfl zf_X2_25 rfl dX2_digestAt_161 ?_
            refine zz_iast hC hZ 1 rfl (vp_in_nI (by omega) (by decide)) dX2_digestAt_164 (fun H locs hZ => ?_)
            rw [nI_clamp (n := a) (by omega)] at hZ
            have hZ : zz_Z g A s.heap [cw_k1 lk st rd l_ag l_dg l_ds, cw_i g l_dg 60 (upd dg1 a rd), cw_i g l_ds 60 ds1, cw_k5 st (nI na) (nI nu) kd dp cl sa ln bt pn bf, cw_i g kd 60 kdf, cw_i g dp 60 dpf, cw_i g sa 60 saf, cw_i g ln 60 lnf, cw_l g bt 4000 btf] H locs := hZ
            refine lv_aload_n hx hb dX2_digestAt_165 rfl (lv_at hl 3 rfl) ?_
            refine zz_get hC hZ 0 rfl zf_X2_18 rfl dX2_digestAt_166 ?_
            refine lv_iload_n hx hb dX2_digestAt_169 rfl (lv_at hl 4 rfl) ?_
            refine lv_iload hx hb dX2_digestAt_170 (lv_at hl 1 rfl) ?_
            refine zz_iast hC hZ 2 rfl (vp_in_nI (by omega) (by decide)) dX2_digestAt_172 (fun H locs hZ => ?_)
            rw [nI_clamp (n := a) (by omega)] at hZ
            have hZ : zz_Z g A s.heap [cw_k1 lk st rd l_ag l_dg l_ds, cw_i g l_dg 60 (upd dg1 a rd), cw_i g l_ds 60 (upd ds1 a w), cw_k5 st (nI na) (nI nu) kd dp cl sa ln bt pn bf, cw_i g kd 60 kdf, cw_i g dp 60 dpf, cw_i g sa 60 saf, cw_i g ln 60 lnf, cw_l g bt 4000 btf] H locs := hZ
            refine lv_iload hx hb dX2_digestAt_173 (lv_at hl 1 rfl) ?_
            exact zz_iret hC hZ (⟨(upd dg1 a rd), (upd ds1 a w), rfl⟩) (Nat.le_of_ble_eq_true rfl) (Nat.le_of_ble_eq_true rfl) dX2_digestAt_175
          · have nc15 : ¬ lz ≤ i := fun zq => c15 (show nI (lz) ≤ nI (i) from (nI_leI (by omega) (by omega)).mpr zq)
            refine lv_aload_n hx hb dX2_digestAt_66 rfl (lv_at hl 3 rfl) ?_
            refine zz_get hC hZ 0 rfl zf_X2_21 rfl dX2_digestAt_67 ?_
            refine zz_get hC hZ 3 rfl zf_X2_45 rfl dX2_digestAt_70 ?_
            refine lv_aload_n hx hb dX2_digestAt_73 rfl (lv_at hl 3 rfl) ?_
            refine zz_get hC hZ 0 rfl zf_X2_21 rfl dX2_digestAt_74 ?_
            refine zz_get hC hZ 3 rfl zf_X2_49 rfl dX2_digestAt_77 ?_
            refine lv_iload_n hx hb dX2_digestAt_80 rfl (lv_at hl 4 rfl) ?_
            refine zz_iald hC hZ 6 rfl (vp_in_nI (by omega) (by decide)) dX2_digestAt_81 ?_
            rw [nI_clamp (n := a) (by omega)]
            refine zz_topi (v := nI sz) (es) ?_
            refine lv_iload hx hb dX2_digestAt_82 (lv_at hl 0 rfl) ?_
            refine lv_iadd hx hb dX2_digestAt_84 ?_
            refine zz_topi (v := nI (sz + i)) (nI_add _ _) ?_
            refine zz_lald hC hZ 8 rfl (vp_in_nI (by omega) (by decide)) dX2_digestAt_85 ?_
            rw [nI_clamp (n := (sz + i)) (by omega)]
            refine lv_lstore (lv' := [(6, .long (btf (sz + i))), (5, .int (nI i)), (4, .int w), (3, .int 1), (0, .ref lk), (1, .int (nI a)), (2, .int 4)]) hx hb dX2_digestAt_86 hl (by decide) rfl (fun ls hl => ?_)
            refine lv_iconst (v := 0) hx hb dX2_digestAt_88 (by decide) ?_
            refine lv_istore (lv' := [(8, .int 0), (6, .long (btf (sz + i))), (5, .int (nI i)), (4, .int w), (3, .int 1), (0, .ref lk), (1, .int (nI a)), (2, .int 4)]) hx hb dX2_digestAt_89 hl (by decide) rfl (fun ls hl => ?_)
            refine lv_iload_n hx hb dX2_digestAt_91 rfl (lv_at hl 4 rfl) ?_
            refine lv_if_eq (tgt := 114) hx hb dX2_digestAt_92 (by decide) (fun c => absurd c (by decide)) (fun c16 => ?_)
            refine lv_aload_n hx hb dX2_digestAt_95 rfl (lv_at hl 5 rfl) ?_
            refine zz_get hC hZ 0 rfl zf_X2_21 rfl dX2_digestAt_96 ?_
            refine zz_get hC hZ 3 rfl zf_X2_59 rfl dX2_digestAt_99 ?_
            refine lv_iload_n hx hb dX2_digestAt_102 rfl (lv_at hl 6 rfl) ?_
            refine zz_iald hC hZ 4 rfl (vp_in_nI (by omega) (by decide)) dX2_digestAt_103 ?_
            rw [nI_clamp (n := a) (by omega)]
            refine lv_lload hx hb dX2_digestAt_104 (lv_at hl 1 rfl) ?_
            refine zz_iS (As := [.int (kdf a), .long (btf (sz + i))]) (wc := []) (wr := [cw_k1 lk st rd l_ag l_dg l_ds, cw_i g l_dg 60 dg1, cw_i g l_ds 60 ds1, cw_k5 st (nI na) (nI nu) kd dp cl sa ln bt pn bf, cw_i g kd 60 kdf, cw_i g dp 60 dpf, cw_i g sa 60 saf, cw_i g ln 60 lnf, cw_l g bt 4000 btf]) (rest := []) hC hZ hs hl zc_X2_66 (co_hashOf g (kdf a) (btf (sz + i))) [] [0, 1, 2, 3, 4, 5, 6, 7, 8] rfl rfl (by decide +kernel) rfl rfl (Nat.le_of_ble_eq_true rfl) ⟨⟨Nat.le_of_ble_eq_true rfl, Nat.le_of_ble_eq_true rfl⟩, Nat.le_of_ble_eq_true rfl, Nat.le_of_ble_eq_true rfl⟩ dX2_digestAt_106 (fun r17 u18 H locs hp hZ => ?_)
            obtain ⟨rfl, rfl⟩ := hp
            have hZ : zz_Z g A s.heap [cw_k1 lk st rd l_ag l_dg l_ds, cw_i g l_dg 60 dg1, cw_i g l_ds 60 ds1, cw_k5 st (nI na) (nI nu) kd dp cl sa ln bt pn bf, cw_i g kd 60 kdf, cw_i g dp 60 dpf, cw_i g sa 60 saf, cw_i g ln 60 lnf, cw_l g bt 4000 btf] H locs := hZ
            refine lv_istore (lv' := [(8, .int (fn_co_hashOf (kdf a) (btf (sz + i)))), (6, .long (btf (sz + i))), (5, .int (nI i)), (4, .int w), (3, .int 1), (0, .ref lk), (1, .int (nI a)), (2, .int 4)]) hx hb dX2_digestAt_109 hl (by decide) rfl (fun ls hl => ?_)
            refine lv_goto (tgt := 139) hx hb dX2_digestAt_111 (by decide) ?_
            refine lv_bipush (v := 31) hx hb dX2_digestAt_139 (by decide) ?_
            refine lv_iload hx hb dX2_digestAt_141 (lv_at hl 3 rfl) ?_
            refine lv_imul hx hb dX2_digestAt_143 ?_
            refine lv_iload hx hb dX2_digestAt_144 (lv_at hl 0 rfl) ?_
            refine lv_iadd hx hb dX2_digestAt_146 ?_
            refine lv_istore (lv' := [(4, .int ((31 * w) + (fn_co_hashOf (kdf a) (btf (sz + i))))), (8, .int (fn_co_hashOf (kdf a) (btf (sz + i)))), (6, .long (btf (sz + i))), (5, .int (nI i)), (3, .int 1), (0, .ref lk), (1, .int (nI a)), (2, .int 4)]) hx hb dX2_digestAt_147 hl (by decide) rfl (fun ls hl => ?_)
            refine lv_iinc (v := nI (i + 1)) (lv' := [(5, .int (nI (i + 1))), (4, .int ((31 * w) + (fn_co_hashOf (kdf a) (btf (sz + i))))), (8, .int (fn_co_hashOf (kdf a) (btf (sz + i)))), (6, .long (btf (sz + i))), (3, .int 1), (0, .ref lk), (1, .int (nI a)), (2, .int 4)]) hx hb dX2_digestAt_149 hl (k := 3) rfl (nI_1 _) (by decide) rfl (fun ls hl => ?_)
            refine lv_goto (tgt := 52) hx hb dX2_digestAt_152 (by decide) ?_
            exact ih (i + 1) ((31 * w) + (fn_co_hashOf (kdf a) (btf (sz + i)))) dg1 ds1 H locs ls (by omega) (by omega) hZ (lv_sub hl [0, 1, 4, 5, 6, 7] rfl)
      exact LP14 _ 0 1 dgf dsf H locs ls (by omega) (Nat.lt_succ_self _) hZ (lv_sub hl [0, 1, 2, 3, 4, 5] rfl)
  · refine lv_aload_n hx hb dX2_digestAt_20 rfl (lv_at hl 0 rfl) ?_
    refine zz_get hC hZ 0 rfl zf_X2_18 rfl dX2_digestAt_21 ?_
    refine lv_iload_n hx hb dX2_digestAt_24 rfl (lv_at hl 1 rfl) ?_
    refine zz_iald hC hZ 2 rfl (vp_in_nI (by omega) (by decide)) dX2_digestAt_25 ?_
    rw [nI_clamp (n := a) (by omega)]
    exact zz_iret hC hZ (⟨dgf, dsf, rfl⟩) (Nat.le_of_ble_eq_true rfl) (Nat.le_of_ble_eq_true rfl) dX2_digestAt_26
abbrev rm_co_digest3 : Room := { frames := 2, cells := 0, slots := 0, locals := 56 }
abbrev po_co_digest3 (g : zz_G) (lk : Nat) (l_ag : Nat) (l_dg : Nat) (l_ds : Nat) (st : Nat) (kd : Nat) (dp : Nat) (cl : Nat) (sa : Nat) (ln : Nat) (bt : Nat) (pn : Nat) (bf : Nat) (na : Nat) (nu : Nat) (rd : Int32) (kdf : Nat → Int32) (dpf : Nat → Int32) (saf : Nat → Int32) (lnf : Nat → Int32) (btf : Nat → Int64) (dgf : Nat → Int32) (dsf : Nat → Int32) (a : Nat) (h_S : zz_SI na nu dpf saf lnf) (h_a : a < na) : Int32 → va_W → Prop := fun (r : Int32) (u : va_W) => ∃ (dg2 : Nat → Int32) (ds2 : Nat → Int32), u = [cw_k1 lk st rd l_ag l_dg l_ds, cw_i g l_dg 60 dg2, cw_i g l_ds 60 ds2, cw_k5 st (nI na) (nI nu) kd dp cl sa ln bt pn bf, cw_i g kd 60 kdf, cw_i g dp 60 dpf, cw_i g sa 60 saf, cw_i g ln 60 lnf, cw_l g bt 4000 btf]
set_option maxHeartbeats 4000000 in
set_option maxRecDepth 100000 in
theorem co_digest3 (g : zz_G) (lk : Nat) (l_ag : Nat) (l_dg : Nat) (l_ds : Nat) (st : Nat) (kd : Nat) (dp : Nat) (cl : Nat) (sa : Nat) (ln : Nat) (bt : Nat) (pn : Nat) (bf : Nat) (na : Nat) (nu : Nat) (rd : Int32) (kdf : Nat → Int32) (dpf : Nat → Int32) (saf : Nat → Int32) (lnf : Nat → Int32) (btf : Nat → Int64) (dgf : Nat → Int32) (dsf : Nat → Int32) (a : Nat) (h_S : zz_SI na nu dpf saf lnf) (h_a : a < na) : zz_I g yX2_digestAt (.code yX2_digestAt cX2_digestAt 9 (some .int)) rm_co_digest3 [.ref lk, .int (nI a), .int 3] [cw_k1 lk st rd l_ag l_dg l_ds, cw_i g l_dg 60 dgf, cw_i g l_ds 60 dsf, cw_k5 st (nI na) (nI nu) kd dp cl sa ln bt pn bf, cw_i g kd 60 kdf, cw_i g dp 60 dpf, cw_i g sa 60 saf, cw_i g ln 60 lnf, cw_l g bt 4000 btf] (po_co_digest3 g lk l_ag l_dg l_ds st kd dp cl sa ln bt pn bf na nu rd kdf dpf saf lnf btf dgf dsf a h_S h_a) := by
  refine zz_I.intro (own := RX2) (cc := cX2_digestAt) (nL := 9) (by decide) rfl (Nat.le_of_ble_eq_true rfl) ?_
  intro p l e s m args below meth c A H locs ls hC hnm hs hZ hl
  obtain ⟨hx, hb, hml, hown, hts, hr, hlocks, hK⟩ := id hC
  have hl : lv_has ls 9 [(0, .ref lk), (1, .int (nI a)), (2, .int 3)] := hl
  have hZ : zz_Z g A s.heap [cw_k1 lk st rd l_ag l_dg l_ds, cw_i g l_dg 60 dgf, cw_i g l_ds 60 dsf, cw_k5 st (nI na) (nI nu) kd dp cl sa ln bt pn bf, cw_i g kd 60 kdf, cw_i g dp 60 dpf, cw_i g sa 60 saf, cw_i g ln 60 lnf, cw_l g bt 4000 btf] H locs := hZ
  have hna := h_S.1
  have hnu := h_S.2.1
  obtain ⟨sz, lz, dz, es, el, ed, g1, g2, g3, g4⟩ := h_S.2.2 a h_a
  refine lv_iload_n hx hb dX2_digestAt_0 rfl (lv_at hl 2 rfl) ?_
  refine lv_iconst (v := 4) hx hb dX2_digestAt_1 (by decide) ?_
  refine lv_icmp_le (tgt := 7) hx hb dX2_digestAt_2 (by decide) (fun c1 => ?_) (fun c => absurd (by decide) c)
  refine lv_aload_n hx hb dX2_digestAt_7 rfl (lv_at hl 0 rfl) ?_
  refine zz_get hC hZ 0 rfl zf_X2_15 rfl dX2_digestAt_8 ?_
  refine lv_iload_n hx hb dX2_digestAt_11 rfl (lv_at hl 1 rfl) ?_
  refine zz_iald hC hZ 1 rfl (vp_in_nI (by omega) (by decide)) dX2_digestAt_12 ?_
  rw [nI_clamp (n := a) (by omega)]
  refine lv_aload_n hx hb dX2_digestAt_13 rfl (lv_at hl 0 rfl) ?_
  refine zz_get hC hZ 0 rfl zf_X2_25 rfl dX2_digestAt_14 ?_
  refine lv_icmp_ne (tgt := 27) hx hb dX2_digestAt_17 (by decide) (fun c2 => ?_) (fun c2 => ?_)
  · refine lv_aload_n hx hb dX2_digestAt_27 rfl (lv_at hl 0 rfl) ?_
    refine zz_get hC hZ 0 rfl zf_X2_21 rfl dX2_digestAt_28 ?_
    refine zz_get hC hZ 3 rfl zf_X2_37 rfl dX2_digestAt_31 ?_
    refine lv_iload_n hx hb dX2_digestAt_34 rfl (lv_at hl 1 rfl) ?_
    refine zz_iald hC hZ 5 rfl (vp_in_nI (by omega) (by decide)) dX2_digestAt_35 ?_
    rw [nI_clamp (n := a) (by omega)]
    refine zz_topi (v := nI dz) (ed) ?_
    refine lv_iconst (v := 1) hx hb dX2_digestAt_36 (by decide) ?_
    refine lv_icmp_ne (tgt := 44) hx hb dX2_digestAt_37 (by decide) (fun c3 => ?_) (fun c3 => ?_)
    · have nc3 : ¬ dz = 1 := fun zq => c3 (show nI (dz) = nI (1) from (nI_eq (by omega) (by omega)).mpr zq)
      refine lv_iconst (v := 0) hx hb dX2_digestAt_44 (by decide) ?_
      refine lv_istore_n (lv' := [(3, .int 0), (0, .ref lk), (1, .int (nI a)), (2, .int 3)]) hx hb dX2_digestAt_45 rfl hl (by decide) rfl (fun ls hl => ?_)
      refine lv_iconst (v := 1) hx hb dX2_digestAt_46 (by decide) ?_
      refine lv_istore (lv' := [(4, .int 1), (3, .int 0), (0, .ref lk), (1, .int (nI a)), (2, .int 3)]) hx hb dX2_digestAt_47 hl (by decide) rfl (fun ls hl => ?_)
      refine lv_iconst (v := 0) hx hb dX2_digestAt_49 (by decide) ?_
      refine lv_istore (lv' := [(5, .int 0), (4, .int 1), (3, .int 0), (0, .ref lk), (1, .int (nI a)), (2, .int 3)]) hx hb dX2_digestAt_50 hl (by decide) rfl (fun ls hl => ?_)
      have LP4 : ∀ (N : Nat) (i : Nat) (w : Int32) (dg1 : Nat → Int32) (ds1 : Nat → Int32) (H : Heap) (locs : List Loc) (ls : Array Slot), (i ≤ lz) → (lz - i) < N → zz_Z g A s.heap [cw_k1 lk st rd l_ag l_dg l_ds, cw_i g l_dg 60 dg1, cw_i g l_ds 60 ds1, cw_k5 st (nI na) (nI nu) kd dp cl sa ln bt pn bf, cw_i g kd 60 kdf, cw_i g dp 60 dpf, cw_i g sa 60 saf, cw_i g ln 60 lnf, cw_l g bt 4000 btf] H locs → lv_has ls 9 [(5, .int (nI i)), (4, .int w), (3, .int 0), (0, .ref lk), (1, .int (nI a)), (2, .int 3)] → W p l e rm_co_digest3 s m args below meth c H locs 0 0 (zz_QI below g args s A rm_co_digest3.cells rm_co_digest3.slots (po_co_digest3 g lk l_ag l_dg l_ds st kd dp cl sa ln bt pn bf na nu rd kdf dpf saf lnf btf dgf dsf a h_S h_a)) (F0 m 52 ls []) := by
        intro N
        induction N with
        | zero =>
          intro i w dg1 ds1 H locs ls hi hN
          exact absurd hN (Nat.not_lt_zero _)
        | succ N ih =>
          intro i w dg1 ds1 H locs ls hi hN hZ hl
          refine lv_iload hx hb dX2_digestAt_52 (lv_at hl 0 rfl) ?_
          refine lv_aload_n hx hb dX2_digestAt_54 rfl (lv_at hl 3 rfl) ?_
          refine zz_get hC hZ 0 rfl zf_X2_21 rfl dX2_digestAt_55 ?_
          refine zz_get hC hZ 3 rfl zf_X2_42 rfl dX2_digestAt_58 ?_
          refine lv_iload_n hx hb dX2_digestAt_61 rfl (lv_at hl 4 rfl) ?_
          refine zz_iald hC hZ 7 rfl (vp_in_nI (by omega) (by decide)) dX2_digestAt_62 ?_
          rw [nI_clamp (n := a) (by omega)]
          refine zz_topi (v := nI lz) (el) ?_
          refine lv_icmp_ge (tgt := 155) hx hb dX2_digestAt_63 (by decide) (fun c5 => ?_) (fun c5 => ?_)
          · have nc5 : lz ≤ i := (nI_leI (by omega) (by omega)).mp (show nI (lz) ≤ nI (i) from c5)
            refine lv_aload_n hx hb dX2_digestAt_155 rfl (lv_at hl 3 rfl) ?_
            refine zz_get hC hZ 0 rfl zf_X2_15 rfl dX2_digestAt_156 ?_
            refine lv_iload_n hx hb dX2_digestAt_159 rfl (lv_at hl 4 rfl) ?_
            refine lv_aload_n hx hb dX2_digestAt_160 rfl (lv_at hl 3 rfl) ?_
            refine zz_get hC hZ 0 rfl zf_X2_25 rfl dX2_digestAt_161 ?_
            refine zz_iast hC hZ 1 rfl (vp_in_nI (by omega) (by decide)) dX2_digestAt_164 (fun H locs hZ => ?_)
            rw [nI_clamp (n := a) (by omega)] at hZ
            have hZ : zz_Z g A s.heap [cw_k1 lk st rd l_ag l_dg l_ds, cw_i g l_dg 60 (upd dg1 a rd), cw_i g l_ds 60 ds1, cw_k5 st (nI na) (nI nu) kd dp cl sa ln bt pn bf, cw_i g kd 60 kdf, cw_i g dp 60 dpf, cw_i g sa 60 saf, cw_i g ln 60 lnf, cw_l g bt 4000 btf] H locs := hZ
            refine lv_aload_n hx hb dX2_digestAt_165 rfl (lv_at hl 3 rfl) ?_
            refine zz_get hC hZ 0 rfl zf_X2_18 rfl dX2_digestAt_166 ?_
            refine lv_iload_n hx hb dX2_digestAt_169 rfl (lv_at hl 4 rfl) ?_
            refine lv_iload hx hb dX2_digestAt_170 (lv_at hl 1 rfl) ?_
            refine zz_iast hC hZ 2 rfl (vp_in_nI (by omega) (by decide)) dX2_digestAt_172 (fun H locs hZ => ?_)
            rw [nI_clamp (n := a) (by omega)] at hZ
            have hZ : zz_Z g A s.heap [cw_k1 lk st rd l_ag l_dg l_ds, cw_i g l_dg 60 (upd dg1 a rd), cw_i g l_ds 60 (upd ds1 a w), cw_k5 st (nI na) (nI nu) kd dp cl sa ln bt pn bf, cw_i g kd 60 kdf, cw_i g dp 60 dpf, cw_i g sa 60 saf, cw_i g ln 60 lnf, cw_l g bt 4000 btf] H locs := hZ
            refine lv_iload hx hb dX2_digestAt_173 (lv_at hl 1 rfl) ?_
            exact zz_iret hC hZ (⟨(upd dg1 a rd), (upd ds1 a w), rfl⟩) (Nat.le_of_ble_eq_true rfl) (Nat.le_of_ble_eq_true rfl) dX2_digestAt_175
          · have nc5 : ¬ lz ≤ i := fun zq => c5 (show nI (lz) ≤ nI (i) from (nI_leI (by omega) (by omega)).mpr zq)
            refine lv_aload_n hx hb dX2_digestAt_66 rfl (lv_at hl 3 rfl) ?_
            refine zz_get hC hZ 0 rfl zf_X2_21 rfl dX2_digestAt_67 ?_
            refine zz_get hC hZ 3 rfl zf_X2_45 rfl dX2_digestAt_70 ?_
            refine lv_aload_n hx hb dX2_digestAt_73 rfl (lv_at hl 3 rfl) ?_
            refine zz_get hC hZ 0 rfl zf_X2_21 rfl dX2_digestAt_74 ?_
            refine zz_get hC hZ 3 rfl zf_X2_49 rfl dX2_digestAt_77 ?_
            refine lv_iload_n hx hb dX2_digestAt_80 rfl (lv_at hl 4 rfl) ?_
            refine zz_iald hC hZ 6 rfl (vp_in_nI (by omega) (by decide)) dX2_digestAt_81 ?_
            rw [nI_clamp (n := a) (by omega)]
            refine zz_topi (v := nI sz) (es) ?_
            refine lv_iload hx hb dX2_digestAt_82 (lv_at hl 0 rfl) ?_
            refine lv_iadd hx hb dX2_digestAt_84 ?_
            refine zz_topi (v := nI (sz + i)) (nI_add _ _) ?_
            refine zz_lald hC hZ 8 rfl (vp_in_nI (by omega) (by decide)) dX2_digestAt_85 ?_
            rw [nI_clamp (n := (sz + i)) (by omega)]
            refine lv_lstore (lv' := [(6, .long (btf (sz + i))), (5, .int (nI i)), (4, .int w), (3, .int 0), (0, .ref lk), (1, .int (nI a)), (2, .int 3)]) hx hb dX2_digestAt_86 hl (by decide) rfl (fun ls hl => ?_)
            refine lv_iconst (v := 0) hx hb dX2_digestAt_88 (by decide) ?_
            refine lv_istore (lv' := [(8, .int 0), (6, .long (btf (sz + i))), (5, .int (nI i)), (4, .int w), (3, .int 0), (0, .ref lk), (1, .int (nI a)), (2, .int 3)]) hx hb dX2_digestAt_89 hl (by decide) rfl (fun ls hl => ?_)
            refine lv_iload_n hx hb dX2_digestAt_91 rfl (lv_at hl 4 rfl) ?_
            refine lv_if_eq (tgt := 114) hx hb dX2_digestAt_92 (by decide) (fun c6 => ?_) (fun c => absurd (by decide) c)
            refine lv_aload_n hx hb dX2_digestAt_114 rfl (lv_at hl 5 rfl) ?_
            refine zz_get hC hZ 0 rfl zf_X2_21 rfl dX2_digestAt_115 ?_
            refine lv_lload hx hb dX2_digestAt_118 (lv_at hl 1 rfl) ?_
            refine lv_l2i hx hb dX2_digestAt_120 rfl ?_
            refine zz_iV (As := [.int ((btf (sz + i)).toInt32)]) (wc := [cw_k5 st (nI na) (nI nu) kd dp cl sa ln bt pn bf]) (wr := [cw_k1 lk st rd l_ag l_dg l_ds, cw_i g l_dg 60 dg1, cw_i g l_ds 60 ds1, cw_i g kd 60 kdf, cw_i g dp 60 dpf, cw_i g sa 60 saf, cw_i g ln 60 lnf, cw_l g bt 4000 btf]) (rest := []) hC hZ hs hl zc_X2_55 (co_has g st kd dp cl sa ln bt pn bf (nI na) (nI nu) ((btf (sz + i)).toInt32)) [3] [0, 1, 2, 4, 5, 6, 7, 8] rfl rfl (by decide +kernel) (ci := 5) (q0 := 0) rfl rfl rfl rfl (Nat.le_of_ble_eq_true rfl) ⟨⟨Nat.le_of_ble_eq_true rfl, Nat.le_of_ble_eq_true rfl⟩, Nat.le_of_ble_eq_true rfl, Nat.le_of_ble_eq_true rfl⟩ dX2_digestAt_121 (fun r7 u8 H locs hp hZ => ?_)
            obtain ⟨rfl, rfl⟩ := hp
            have hZ : zz_Z g A s.heap [cw_k1 lk st rd l_ag l_dg l_ds, cw_i g l_dg 60 dg1, cw_i g l_ds 60 ds1, cw_i g kd 60 kdf, cw_i g dp 60 dpf, cw_i g sa 60 saf, cw_i g ln 60 lnf, cw_l g bt 4000 btf, cw_k5 st (nI na) (nI nu) kd dp cl sa ln bt pn bf] H locs := hZ
            refine lv_if_eq (tgt := 139) hx hb dX2_digestAt_124 (by decide) (fun c9 => ?_) (fun c9 => ?_)
            · refine lv_bipush (v := 31) hx hb dX2_digestAt_139 (by decide) ?_
              refine lv_iload hx hb dX2_digestAt_141 (lv_at hl 3 rfl) ?_
              refine lv_imul hx hb dX2_digestAt_143 ?_
              refine lv_iload hx hb dX2_digestAt_144 (lv_at hl 0 rfl) ?_
              refine lv_iadd hx hb dX2_digestAt_146 ?_
              refine lv_istore (lv' := [(4, .int ((31 * w) + 0)), (8, .int 0), (6, .long (btf (sz + i))), (5, .int (nI i)), (3, .int 0), (0, .ref lk), (1, .int (nI a)), (2, .int 3)]) hx hb dX2_digestAt_147 hl (by decide) rfl (fun ls hl => ?_)
              refine lv_iinc (v := nI (i + 1)) (lv' := [(5, .int (nI (i + 1))), (4, .int ((31 * w) + 0)), (8, .int 0), (6, .long (btf (sz + i))), (3, .int 0), (0, .ref lk), (1, .int (nI a)), (2, .int 3)]) hx hb dX2_digestAt_149 hl (k := 3) rfl (nI_1 _) (by decide) rfl (fun ls hl => ?_)
              refine lv_goto (tgt := 52) hx hb dX2_digestAt_152 (by decide) ?_
              exact ih (i + 1) ((31 * w) + 0) dg1 ds1 H locs ls (by omega) (by omega) (hZ.sub [0, 1, 2, 8, 3, 4, 5, 6, 7] (by decide +kernel) rfl) (lv_sub hl [0, 1, 4, 5, 6, 7] rfl)
            · obtain ⟨b2, hb2, eb2⟩ := zl_has (by omega) c9
              refine lv_aload_n hx hb dX2_digestAt_127 rfl (lv_at hl 5 rfl) ?_
              refine lv_lload hx hb dX2_digestAt_128 (lv_at hl 1 rfl) ?_
              refine lv_l2i hx hb dX2_digestAt_130 rfl ?_
              refine zz_topi (v := nI b2) (eb2) ?_
              refine lv_iload_n hx hb dX2_digestAt_131 rfl (lv_at hl 7 rfl) ?_
              refine lv_iconst (v := 1) hx hb dX2_digestAt_132 (by decide) ?_
              refine lv_iadd hx hb dX2_digestAt_133 ?_
              refine zz_topi (v := 4) (by decide) ?_
              refine zz_iV (As := [.int (nI b2), .int 4]) (wc := [cw_k1 lk st rd l_ag l_dg l_ds, cw_i g l_dg 60 dg1, cw_i g l_ds 60 ds1, cw_k5 st (nI na) (nI nu) kd dp cl sa ln bt pn bf, cw_i g kd 60 kdf, cw_i g dp 60 dpf, cw_i g sa 60 saf, cw_i g ln 60 lnf, cw_l g bt 4000 btf]) (wr := []) (rest := []) hC hZ hs hl zc_X2_62 (co_digest4 g lk l_ag l_dg l_ds st kd dp cl sa ln bt pn bf na nu rd kdf dpf saf lnf btf dg1 ds1 b2 (h_S) (by omega)) [0, 1, 2, 8, 3, 4, 5, 6, 7] [] rfl rfl (by decide +kernel) (ci := 1) (q0 := 0) rfl rfl rfl rfl (Nat.le_of_ble_eq_true rfl) ⟨⟨Nat.le_of_ble_eq_true rfl, Nat.le_of_ble_eq_true rfl⟩, Nat.le_of_ble_eq_true rfl, Nat.le_of_ble_eq_true rfl⟩ dX2_digestAt_134 (fun r10 u11 H locs hp hZ => ?_)
              obtain ⟨dg2_12, ds2_13, rfl⟩ := hp
              have hZ : zz_Z g A s.heap [cw_k1 lk st rd l_ag l_dg l_ds, cw_i g l_dg 60 dg2_12, cw_i g l_ds 60 ds2_13, cw_k5 st (nI na) (nI nu) kd dp cl sa ln bt pn bf, cw_i g kd 60 kdf, cw_i g dp 60 dpf, cw_i g sa 60 saf, cw_i g ln 60 lnf, cw_l g bt 4000 btf] H locs := hZ
              refine lv_istore (lv' := [(8, .int r10), (6, .long (btf (sz + i))), (5, .int (nI i)), (4, .int w), (3, .int 0), (0, .ref lk), (1, .int (nI a)), (2, .int 3)]) hx hb dX2_digestAt_137 hl (by decide) rfl (fun ls hl => ?_)
              refine lv_bipush (v := 31) hx hb dX2_digestAt_139 (by decide) ?_
              refine lv_iload hx hb dX2_digestAt_141 (lv_at hl 3 rfl) ?_
              refine lv_imul hx hb dX2_digestAt_143 ?_
              refine lv_iload hx hb dX2_digestAt_144 (lv_at hl 0 rfl) ?_
              refine lv_iadd hx hb dX2_digestAt_146 ?_
              refine lv_istore (lv' := [(4, .int ((31 * w) + r10)), (8, .int r10), (6, .long (btf (sz + i))), (5, .int (nI i)), (3, .int 0), (0, .ref lk), (1, .int (nI a)), (2, .int 3)]) hx hb dX2_digestAt_147 hl (by decide) rfl (fun ls hl => ?_)
              refine lv_iinc (v := nI (i + 1)) (lv' := [(5, .int (nI (i + 1))), (4, .int ((31 * w) + r10)), (8, .int r10), (6, .long (btf (sz + i))), (3, .int 0), (0, .ref lk), (1, .int (nI a)), (2, .int 3)]) hx hb dX2_digestAt_149 hl (k := 3) rfl (nI_1 _) (by decide) rfl (fun ls hl => ?_)
              refine lv_goto (tgt := 52) hx hb dX2_digestAt_152 (by decide) ?_
              exact ih (i + 1) ((31 * w) + r10) dg2_12 ds2_13 H locs ls (by omega) (by omega) hZ (lv_sub hl [0, 1, 4, 5, 6, 7] rfl)
      exact LP4 _ 0 1 dgf dsf H locs ls (by omega) (Nat.lt_succ_self _) hZ (lv_sub hl [0, 1, 2, 3, 4, 5] rfl)
    · have nc3 : dz = 1 := (nI_eq (by omega) (by omega)).mp (show nI (dz) = nI (1) from c3)
      refine lv_iconst (v := 1) hx hb dX2_digestAt_40 (by decide) ?_
      refine lv_goto (tgt := 45) hx hb dX2_digestAt_41 (by decide) ?_
      refine lv_istore_n (lv' := [(3, .int 1), (0, .ref lk), (1, .int (nI a)), (2, .int 3)]) hx hb dX2_digestAt_45 rfl hl (by decide) rfl (fun ls hl => ?_)
      refine lv_iconst (v := 1) hx hb dX2_digestAt_46 (by decide) ?_
      refine lv_istore (lv' := [(4, .int 1), (3, .int 1), (0, .ref lk), (1, .int (nI a)), (2, .int 3)]) hx hb dX2_digestAt_47 hl (by decide) rfl (fun ls hl => ?_)
      refine lv_iconst (v := 0) hx hb dX2_digestAt_49 (by decide) ?_
      refine lv_istore (lv' := [(5, .int 0), (4, .int 1), (3, .int 1), (0, .ref lk), (1, .int (nI a)), (2, .int 3)]) hx hb dX2_digestAt_50 hl (by decide) rfl (fun ls hl => ?_)
      have LP14 : ∀ (N : Nat) (i : Nat) (w : Int32) (dg1 : Nat → Int32) (ds1 : Nat → Int32) (H : Heap) (locs : List Loc) (ls : Array Slot), (i ≤ lz) → (lz - i) < N → zz_Z g A s.heap [cw_k1 lk st rd l_ag l_dg l_ds, cw_i g l_dg 60 dg1, cw_i g l_ds 60 ds1, cw_k5 st (nI na) (nI nu) kd dp cl sa ln bt pn bf, cw_i g kd 60 kdf, cw_i g dp 60 dpf, cw_i g sa 60 saf, cw_i g ln 60 lnf, cw_l g bt 4000 btf] H locs → lv_has ls 9 [(5, .int (nI i)), (4, .int w), (3, .int 1), (0, .ref lk), (1, .int (nI a)), (2, .int 3)] → W p l e rm_co_digest3 s m args below meth c H locs 0 0 (zz_QI below g args s A rm_co_digest3.cells rm_co_digest3.slots (po_co_digest3 g lk l_ag l_dg l_ds st kd dp cl sa ln bt pn bf na nu rd kdf dpf saf lnf btf dgf dsf a h_S h_a)) (F0 m 52 ls []) := by
        intro N
        induction N with
        | zero =>
          intro i w dg1 ds1 H locs ls hi hN
          exact absurd hN (Nat.not_lt_zero _)
        | succ N ih =>
          intro i w dg1 ds1 H locs ls hi hN hZ hl
          refine lv_iload hx hb dX2_digestAt_52 (lv_at hl 0 rfl) ?_
          refine lv_aload_n hx hb dX2_digestAt_54 rfl (lv_at hl 3 rfl) ?_
          refine zz_get hC hZ 0 rfl zf_X2_21 rfl dX2_digestAt_55 ?_
          refine zz_get hC hZ 3 rfl zf_X2_42 rfl dX2_digestAt_58 ?_
          refine lv_iload_n hx hb dX2_digestAt_61 rfl (lv_at hl 4 rfl) ?_
          refine zz_iald hC hZ 7 rfl (vp_in_nI (by omega) (by decide)) dX2_digestAt_62 ?_
          rw [nI_clamp (n := a) (by omega)]
          refine zz_topi (v := nI lz) (el) ?_
          refine lv_icmp_ge (tgt := 155) hx hb dX2_digestAt_63 (by decide) (fun c15 => ?_) (fun c15 => ?_)
          · have nc15 : lz ≤ i := (nI_leI (by omega) (by omega)).mp (show nI (lz) ≤ nI (i) from c15)
            refine lv_aload_n hx hb dX2_digestAt_155 rfl (lv_at hl 3 rfl) ?_
            refine zz_get hC hZ 0 rfl zf_X2_15 rfl dX2_digestAt_156 ?_
            refine lv_iload_n hx hb dX2_digestAt_159 rfl (lv_at hl 4 rfl) ?_
            refine lv_aload_n hx hb dX2_digestAt_160 rfl (lv_at hl 3 rfl) ?_
            refine zz_get hC hZ 0 rfl zf_X2_25 rfl dX2_digestAt_161 ?_
            refine zz_iast hC hZ 1 rfl (vp_in_nI (by omega) (by decide)) dX2_digestAt_164 (fun H locs hZ => ?_)
            rw [nI_clamp (n := a) (by omega)] at hZ
            have hZ : zz_Z g A s.heap [cw_k1 lk st rd l_ag l_dg l_ds, cw_i g l_dg 60 (upd dg1 a rd), cw_i g l_ds 60 ds1, cw_k5 st (nI na) (nI nu) kd dp cl sa ln bt pn bf, cw_i g kd 60 kdf, cw_i g dp 60 dpf, cw_i g sa 60 saf, cw_i g ln 60 lnf, cw_l g bt 4000 btf] H locs := hZ
            refine lv_aload_n hx hb dX2_digestAt_165 rfl (lv_at hl 3 rfl) ?_
            refine zz_get hC hZ 0 rfl zf_X2_18 rfl dX2_digestAt_166 ?_
            refine lv_iload_n hx hb dX2_digestAt_169 rfl (lv_at hl 4 rfl) ?_
            refine lv_iload hx hb dX2_digestAt_170 (lv_at hl 1 rfl) ?_
            refine zz_iast hC hZ 2 rfl (vp_in_nI (by omega) (by decide)) dX2_digestAt_172 (fun H locs hZ => ?_)
            rw [nI_clamp (n := a) (by omega)] at hZ
            have hZ : zz_Z g A s.heap [cw_k1 lk st rd l_ag l_dg l_ds, cw_i g l_dg 60 (upd dg1 a rd), cw_i g l_ds 60 (upd ds1 a w), cw_k5 st (nI na) (nI nu) kd dp cl sa ln bt pn bf, cw_i g kd 60 kdf, cw_i g dp 60 dpf, cw_i g sa 60 saf, cw_i g ln 60 lnf, cw_l g bt 4000 btf] H locs := hZ
            refine lv_iload hx hb dX2_digestAt_173 (lv_at hl 1 rfl) ?_
            exact zz_iret hC hZ (⟨(upd dg1 a rd), (upd ds1 a w), rfl⟩) (Nat.le_of_ble_eq_true rfl) (Nat.le_of_ble_eq_true rfl) dX2_digestAt_175
          · have nc15 : ¬ lz ≤ i := fun zq => c15 (show nI (lz) ≤ nI (i) from (nI_leI (by omega) (by omega)).mpr zq)
            refine lv_aload_n hx hb dX2_digestAt_66 rfl (lv_at hl 3 rfl) ?_
            refine zz_get hC hZ 0 rfl zf_X2_21 rfl dX2_digestAt_67 ?_
            refine zz_get hC hZ 3 rfl zf_X2_45 rfl dX2_digestAt_70 ?_
            refine lv_aload_n hx hb dX2_digestAt_73 rfl (lv_at hl 3 rfl) ?_
            refine zz_get hC hZ 0 rfl zf_X2_21 rfl dX2_digestAt_74 ?_
            refine zz_get hC hZ 3 rfl zf_X2_49 rfl dX2_digestAt_77 ?_
            refine lv_iload_n hx hb dX2_digestAt_80 rfl (lv_at hl 4 rfl) ?_
            refine zz_iald hC hZ 6 rfl (vp_in_nI (by omega) (by decide)) dX2_digestAt_81 ?_
            rw [nI_clamp (n := a) (by omega)]
            refine zz_topi (v := nI sz) (es) ?_
            refine lv_iload hx hb dX2_digestAt_82 (lv_at hl 0 rfl) ?_
            refine lv_iadd hx hb dX2_digestAt_84 ?_
            refine zz_topi (v := nI (sz + i)) (nI_add _ _) ?_
            refine zz_lald hC hZ 8 rfl (vp_in_nI (by omega) (by decide)) dX2_digestAt_85 ?_
            rw [nI_clamp (n := (sz + i)) (by omega)]
            refine lv_lstore (lv' := [(6, .long (btf (sz + i))), (5, .int (nI i)), (4, .int w), (3, .int 1), (0, .ref lk), (1, .int (nI a)), (2, .int 3)]) hx hb dX2_digestAt_86 hl (by decide) rfl (fun ls hl => ?_)
            refine lv_iconst (v := 0) hx hb dX2_digestAt_88 (by decide) ?_
            refine lv_istore (lv' := [(8, .int 0), (6, .long (btf (sz + i))), (5, .int (nI i)), (4, .int w), (3, .int 1), (0, .ref lk), (1, .int (nI a)), (2, .int 3)]) hx hb dX2_digestAt_89 hl (by decide) rfl (fun ls hl => ?_)
            refine lv_iload_n hx hb dX2_digestAt_91 rfl (lv_at hl 4 rfl) ?_
            refine lv_if_eq (tgt := 114) hx hb dX2_digestAt_92 (by decide) (fun c => absurd c (by decide)) (fun c16 => ?_)
            refine lv_aload_n hx hb dX2_digestAt_95 rfl (lv_at hl 5 rfl) ?_
            refine zz_get hC hZ 0 rfl zf_X2_21 rfl dX2_digestAt_96 ?_
            refine zz_get hC hZ 3 rfl zf_X2_59 rfl dX2_digestAt_99 ?_
            refine lv_iload_n hx hb dX2_digestAt_102 rfl (lv_at hl 6 rfl) ?_
            refine zz_iald hC hZ 4 rfl (vp_in_nI (by omega) (by decide)) dX2_digestAt_103 ?_
            rw [nI_clamp (n := a) (by omega)]
            refine lv_lload hx hb dX2_digestAt_104 (lv_at hl 1 rfl) ?_
            refine zz_iS (As := [.int (kdf a), .long (btf (sz + i))]) (wc := []) (wr := [cw_k1 lk st rd l_ag l_dg l_ds, cw_i g l_dg 60 dg1, cw_i g l_ds 60 ds1, cw_k5 st (nI na) (nI nu) kd dp cl sa ln bt pn bf, cw_i g kd 60 kdf, cw_i g dp 60 dpf, cw_i g sa 60 saf, cw_i g ln 60 lnf, cw_l g bt 4000 btf]) (rest := []) hC hZ hs hl zc_X2_66 (co_hashOf g (kdf a) (btf (sz + i))) [] [0, 1, 2, 3, 4, 5, 6, 7, 8] rfl rfl (by decide +kernel) rfl rfl (Nat.le_of_ble_eq_true rfl) ⟨⟨Nat.le_of_ble_eq_true rfl, Nat.le_of_ble_eq_true rfl⟩, Nat.le_of_ble_eq_true rfl, Nat.le_of_ble_eq_true rfl⟩ dX2_digestAt_106 (fun r17 u18 H locs hp hZ => ?_)
            obtain ⟨rfl, rfl⟩ := hp
            have hZ : zz_Z g A s.heap [cw_k1 lk st rd l_ag l_dg l_ds, cw_i g l_dg 60 dg1, cw_i g l_ds 60 ds1, cw_k5 st (nI na) (nI nu) kd dp cl sa ln bt pn bf, cw_i g kd 60 kdf, cw_i g dp 60 dpf, cw_i g sa 60 saf, cw_i g ln 60 lnf, cw_l g bt 4000 btf] H locs := hZ
            refine lv_istore (lv' := [(8, .int (fn_co_hashOf (kdf a) (btf (sz + i)))), (6, .long (btf (sz + i))), (5, .int (nI i)), (4, .int w), (3, .int 1), (0, .ref lk), (1, .int (nI a)), (2, .int 3)]) hx hb dX2_digestAt_109 hl (by decide) rfl (fun ls hl => ?_)
            refine lv_goto (tgt := 139) hx hb dX2_digestAt_111 (by decide) ?_
            refine lv_bipush (v := 31) hx hb dX2_digestAt_139 (by decide) ?_
            refine lv_iload hx hb dX2_digestAt_141 (lv_at hl 3 rfl) ?_
            refine lv_imul hx hb dX2_digestAt_143 ?_
            refine lv_iload hx hb dX2_digestAt_144 (lv_at hl 0 rfl) ?_
            refine lv_iadd hx hb dX2_digestAt_146 ?_
            refine lv_istore (lv' := [(4, .int ((31 * w) + (fn_co_hashOf (kdf a) (btf (sz + i))))), (8, .int (fn_co_hashOf (kdf a) (btf (sz + i)))), (6, .long (btf (sz + i))), (5, .int (nI i)), (3, .int 1), (0, .ref lk), (1, .int (nI a)), (2, .int 3)]) hx hb dX2_digestAt_147 hl (by decide) rfl (fun ls hl => ?_)
            refine lv_iinc (v := nI (i + 1)) (lv' := [(5, .int (nI (i + 1))), (4, .int ((31 * w) + (fn_co_hashOf (kdf a) (btf (sz + i))))), (8, .int (fn_co_hashOf (kdf a) (btf (sz + i)))), (6, .long (btf (sz + i))), (3, .int 1), (0, .ref lk), (1, .int (nI a)), (2, .int 3)]) hx hb dX2_digestAt_149 hl (k := 3) rfl (nI_1 _) (by decide) rfl (fun ls hl => ?_)
            refine lv_goto (tgt := 52) hx hb dX2_digestAt_152 (by decide) ?_
            exact ih (i + 1) ((31 * w) + (fn_co_hashOf (kdf a) (btf (sz + i)))) dg1 ds1 H locs ls (by omega) (by omega) hZ (lv_sub hl [0, 1, 4, 5, 6, 7] rfl)
      exact LP14 _ 0 1 dgf dsf H locs ls (by omega) (Nat.lt_succ_self _) hZ (lv_sub hl [0, 1, 2, 3, 4, 5] rfl)
  · refine lv_aload_n hx hb dX2_digestAt_20 rfl (lv_at hl 0 rfl) ?_
    refine zz_get hC hZ 0 rfl zf_X2_18 rfl dX2_digestAt_21 ?_
    refine lv_iload_n hx hb dX2_digestAt_24 rfl (lv_at hl 1 rfl) ?_
    refine zz_iald hC hZ 2 rfl (vp_in_nI (by omega) (by decide)) dX2_digestAt_25 ?_
    rw [nI_clamp (n := a) (by omega)]
    exact zz_iret hC hZ (⟨dgf, dsf, rfl⟩) (Nat.le_of_ble_eq_true rfl) (Nat.le_of_ble_eq_true rfl) dX2_digestAt_26
abbrev rm_co_digest2 : Room := { frames := 3, cells := 0, slots := 0, locals := 84 }
abbrev po_co_digest2 (g : zz_G) (lk : Nat) (l_ag : Nat) (l_dg : Nat) (l_ds : Nat) (st : Nat) (kd : Nat) (dp : Nat) (cl : Nat) (sa : Nat) (ln : Nat) (bt : Nat) (pn : Nat) (bf : Nat) (na : Nat) (nu : Nat) (rd : Int32) (kdf : Nat → Int32) (dpf : Nat → Int32) (saf : Nat → Int32) (lnf : Nat → Int32) (btf : Nat → Int64) (dgf : Nat → Int32) (dsf : Nat → Int32) (a : Nat) (h_S : zz_SI na nu dpf saf lnf) (h_a : a < na) : Int32 → va_W → Prop := fun (r : Int32) (u : va_W) => ∃ (dg2 : Nat → Int32) (ds2 : Nat → Int32), u = [cw_k1 lk st rd l_ag l_dg l_ds, cw_i g l_dg 60 dg2, cw_i g l_ds 60 ds2, cw_k5 st (nI na) (nI nu) kd dp cl sa ln bt pn bf, cw_i g kd 60 kdf, cw_i g dp 60 dpf, cw_i g sa 60 saf, cw_i g ln 60 lnf, cw_l g bt 4000 btf]
set_option maxHeartbeats 4000000 in
set_option maxRecDepth 100000 in
theorem co_digest2 (g : zz_G) (lk : Nat) (l_ag : Nat) (l_dg : Nat) (l_ds : Nat) (st : Nat) (kd : Nat) (dp : Nat) (cl : Nat) (sa : Nat) (ln : Nat) (bt : Nat) (pn : Nat) (bf : Nat) (na : Nat) (nu : Nat) (rd : Int32) (kdf : Nat → Int32) (dpf : Nat → Int32) (saf : Nat → Int32) (lnf : Nat → Int32) (btf : Nat → Int64) (dgf : Nat → Int32) (dsf : Nat → Int32) (a : Nat) (h_S : zz_SI na nu dpf saf lnf) (h_a : a < na) : zz_I g yX2_digestAt (.code yX2_digestAt cX2_digestAt 9 (some .int)) rm_co_digest2 [.ref lk, .int (nI a), .int 2] [cw_k1 lk st rd l_ag l_dg l_ds, cw_i g l_dg 60 dgf, cw_i g l_ds 60 dsf, cw_k5 st (nI na) (nI nu) kd dp cl sa ln bt pn bf, cw_i g kd 60 kdf, cw_i g dp 60 dpf, cw_i g sa 60 saf, cw_i g ln 60 lnf, cw_l g bt 4000 btf] (po_co_digest2 g lk l_ag l_dg l_ds st kd dp cl sa ln bt pn bf na nu rd kdf dpf saf lnf btf dgf dsf a h_S h_a) := by
  refine zz_I.intro (own := RX2) (cc := cX2_digestAt) (nL := 9) (by decide) rfl (Nat.le_of_ble_eq_true rfl) ?_
  intro p l e s m args below meth c A H locs ls hC hnm hs hZ hl
  obtain ⟨hx, hb, hml, hown, hts, hr, hlocks, hK⟩ := id hC
  have hl : lv_has ls 9 [(0, .ref lk), (1, .int (nI a)), (2, .int 2)] := hl
  have hZ : zz_Z g A s.heap [cw_k1 lk st rd l_ag l_dg l_ds, cw_i g l_dg 60 dgf, cw_i g l_ds 60 dsf, cw_k5 st (nI na) (nI nu) kd dp cl sa ln bt pn bf, cw_i g kd 60 kdf, cw_i g dp 60 dpf, cw_i g sa 60 saf, cw_i g ln 60 lnf, cw_l g bt 4000 btf] H locs := hZ
  have hna := h_S.1
  have hnu := h_S.2.1
  obtain ⟨sz, lz, dz, es, el, ed, g1, g2, g3, g4⟩ := h_S.2.2 a h_a
  refine lv_iload_n hx hb dX2_digestAt_0 rfl (lv_at hl 2 rfl) ?_
  refine lv_iconst (v := 4) hx hb dX2_digestAt_1 (by decide) ?_
  refine lv_icmp_le (tgt := 7) hx hb dX2_digestAt_2 (by decide) (fun c1 => ?_) (fun c => absurd (by decide) c)
  refine lv_aload_n hx hb dX2_digestAt_7 rfl (lv_at hl 0 rfl) ?_
  refine zz_get hC hZ 0 rfl zf_X2_15 rfl dX2_digestAt_8 ?_
  refine lv_iload_n hx hb dX2_digestAt_11 rfl (lv_at hl 1 rfl) ?_
  refine zz_iald hC hZ 1 rfl (vp_in_nI (by omega) (by decide)) dX2_digestAt_12 ?_
  rw [nI_clamp (n := a) (by omega)]
  refine lv_aload_n hx hb dX2_digestAt_13 rfl (lv_at hl 0 rfl) ?_
  refine zz_get hC hZ 0 rfl zf_X2_25 rfl dX2_digestAt_14 ?_
  refine lv_icmp_ne (tgt := 27) hx hb dX2_digestAt_17 (by decide) (fun c2 => ?_) (fun c2 => ?_)
  · refine lv_aload_n hx hb dX2_digestAt_27 rfl (lv_at hl 0 rfl) ?_
    refine zz_get hC hZ 0 rfl zf_X2_21 rfl dX2_digestAt_28 ?_
    refine zz_get hC hZ 3 rfl zf_X2_37 rfl dX2_digestAt_31 ?_
    refine lv_iload_n hx hb dX2_digestAt_34 rfl (lv_at hl 1 rfl) ?_
    refine zz_iald hC hZ 5 rfl (vp_in_nI (by omega) (by decide)) dX2_digestAt_35 ?_
    rw [nI_clamp (n := a) (by omega)]
    refine zz_topi (v := nI dz) (ed) ?_
    refine lv_iconst (v := 1) hx hb dX2_digestAt_36 (by decide) ?_
    refine lv_icmp_ne (tgt := 44) hx hb dX2_digestAt_37 (by decide) (fun c3 => ?_) (fun c3 => ?_)
    · have nc3 : ¬ dz = 1 := fun zq => c3 (show nI (dz) = nI (1) from (nI_eq (by omega) (by omega)).mpr zq)
      refine lv_iconst (v := 0) hx hb dX2_digestAt_44 (by decide) ?_
      refine lv_istore_n (lv' := [(3, .int 0), (0, .ref lk), (1, .int (nI a)), (2, .int 2)]) hx hb dX2_digestAt_45 rfl hl (by decide) rfl (fun ls hl => ?_)
      refine lv_iconst (v := 1) hx hb dX2_digestAt_46 (by decide) ?_
      refine lv_istore (lv' := [(4, .int 1), (3, .int 0), (0, .ref lk), (1, .int (nI a)), (2, .int 2)]) hx hb dX2_digestAt_47 hl (by decide) rfl (fun ls hl => ?_)
      refine lv_iconst (v := 0) hx hb dX2_digestAt_49 (by decide) ?_
      refine lv_istore (lv' := [(5, .int 0), (4, .int 1), (3, .int 0), (0, .ref lk), (1, .int (nI a)), (2, .int 2)]) hx hb dX2_digestAt_50 hl (by decide) rfl (fun ls hl => ?_)
      have LP4 : ∀ (N : Nat) (i : Nat) (w : Int32) (dg1 : Nat → Int32) (ds1 : Nat → Int32) (H : Heap) (locs : List Loc) (ls : Array Slot), (i ≤ lz) → (lz - i) < N → zz_Z g A s.heap [cw_k1 lk st rd l_ag l_dg l_ds, cw_i g l_dg 60 dg1, cw_i g l_ds 60 ds1, cw_k5 st (nI na) (nI nu) kd dp cl sa ln bt pn bf, cw_i g kd 60 kdf, cw_i g dp 60 dpf, cw_i g sa 60 saf, cw_i g ln 60 lnf, cw_l g bt 4000 btf] H locs → lv_has ls 9 [(5, .int (nI i)), (4, .int w), (3, .int 0), (0, .ref lk), (1, .int (nI a)), (2, .int 2)] → W p l e rm_co_digest2 s m args below meth c H locs 0 0 (zz_QI below g args s A rm_co_digest2.cells rm_co_digest2.slots (po_co_digest2 g lk l_ag l_dg l_ds st kd dp cl sa ln bt pn bf na nu rd kdf dpf saf lnf btf dgf dsf a h_S h_a)) (F0 m 52 ls []) := by
        intro N
        induction N with
        | zero =>
          intro i w dg1 ds1 H locs ls hi hN
          exact absurd hN (Nat.not_lt_zero _)
        | succ N ih =>
          intro i w dg1 ds1 H locs ls hi hN hZ hl
          refine lv_iload hx hb dX2_digestAt_52 (lv_at hl 0 rfl) ?_
          refine lv_aload_n hx hb dX2_digestAt_54 rfl (lv_at hl 3 rfl) ?_
          refine zz_get hC hZ 0 rfl zf_X2_21 rfl dX2_digestAt_55 ?_
          refine zz_get hC hZ 3 rfl zf_X2_42 rfl dX2_digestAt_58 ?_
          refine lv_iload_n hx hb dX2_digestAt_61 rfl (lv_at hl 4 rfl) ?_
          refine zz_iald hC hZ 7 rfl (vp_in_nI (by omega) (by decide)) dX2_digestAt_62 ?_
          rw [nI_clamp (n := a) (by omega)]
          refine zz_topi (v := nI lz) (el) ?_
          refine lv_icmp_ge (tgt := 155) hx hb dX2_digestAt_63 (by decide) (fun c5 => ?_) (fun c5 => ?_)
          · have nc5 : lz ≤ i := (nI_leI (by omega) (by omega)).mp (show nI (lz) ≤ nI (i) from c5)
            refine lv_aload_n hx hb dX2_digestAt_155 rfl (lv_at hl 3 rfl) ?_
            refine zz_get hC hZ 0 rfl zf_X2_15 rfl dX2_digestAt_156 ?_
            refine lv_iload_n hx hb dX2_digestAt_159 rfl (lv_at hl 4 rfl) ?_
            refine lv_aload_n hx hb dX2_digestAt_160 rfl (lv_at hl 3 rfl) ?_
            refine zz_get hC hZ 0 rfl zf_X2_25 rfl dX2_digestAt_161 ?_
            refine zz_iast hC hZ 1 rfl (vp_in_nI (by omega) (by decide)) dX2_digestAt_164 (fun H locs hZ => ?_)
            rw [nI_clamp (n := a) (by omega)] at hZ
            have hZ : zz_Z g A s.heap [cw_k1 lk st rd l_ag l_dg l_ds, cw_i g l_dg 60 (upd dg1 a rd), cw_i g l_ds 60 ds1, cw_k5 st (nI na) (nI nu) kd dp cl sa ln bt pn bf, cw_i g kd 60 kdf, cw_i g dp 60 dpf, cw_i g sa 60 saf, cw_i g ln 60 lnf, cw_l g bt 4000 btf] H locs := hZ
            refine lv_aload_n hx hb dX2_digestAt_165 rfl (lv_at hl 3 rfl) ?_
            refine zz_get hC hZ 0 rfl zf_X2_18 rfl dX2_digestAt_166 ?_
            refine lv_iload_n hx hb dX2_digestAt_169 rfl (lv_at hl 4 rfl) ?_
            refine lv_iload hx hb dX2_digestAt_170 (lv_at hl 1 rfl) ?_
            refine zz_iast hC hZ 2 rfl (vp_in_nI (by omega) (by decide)) dX2_digestAt_172 (fun H locs hZ => ?_)
            rw [nI_clamp (n := a) (by omega)] at hZ
            have hZ : zz_Z g A s.heap [cw_k1 lk st rd l_ag l_dg l_ds, cw_i g l_dg 60 (upd dg1 a rd), cw_i g l_ds 60 (upd ds1 a w), cw_k5 st (nI na) (nI nu) kd dp cl sa ln bt pn bf, cw_i g kd 60 kdf, cw_i g dp 60 dpf, cw_i g sa 60 saf, cw_i g ln 60 lnf, cw_l g bt 4000 btf] H locs := hZ
            refine lv_iload hx hb dX2_digestAt_173 (lv_at hl 1 rfl) ?_
            exact zz_iret hC hZ (⟨(upd dg1 a rd), (upd ds1 a w), rfl⟩) (Nat.le_of_ble_eq_true rfl) (Nat.le_of_ble_eq_true rfl) dX2_digestAt_175
          · have nc5 : ¬ lz ≤ i := fun zq => c5 (show nI (lz) ≤ nI (i) from (nI_leI (by omega) (by omega)).mpr zq)
            refine lv_aload_n hx hb dX2_digestAt_66 rfl (lv_at hl 3 rfl) ?_
            refine zz_get hC hZ 0 rfl zf_X2_21 rfl dX2_digestAt_67 ?_
            refine zz_get hC hZ 3 rfl zf_X2_45 rfl dX2_digestAt_70 ?_
            refine lv_aload_n hx hb dX2_digestAt_73 rfl (lv_at hl 3 rfl) ?_
            refine zz_get hC hZ 0 rfl zf_X2_21 rfl dX2_digestAt_74 ?_
            refine zz_get hC hZ 3 rfl zf_X2_49 rfl dX2_digestAt_77 ?_
            refine lv_iload_n hx hb dX2_digestAt_80 rfl (lv_at hl 4 rfl) ?_
            refine zz_iald hC hZ 6 rfl (vp_in_nI (by omega) (by decide)) dX2_digestAt_81 ?_
            rw [nI_clamp (n := a) (by omega)]
            refine zz_topi (v := nI sz) (es) ?_
            refine lv_iload hx hb dX2_digestAt_82 (lv_at hl 0 rfl) ?_
            refine lv_iadd hx hb dX2_digestAt_84 ?_
            refine zz_topi (v := nI (sz + i)) (nI_add _ _) ?_
            refine zz_lald hC hZ 8 rfl (vp_in_nI (by omega) (by decide)) dX2_digestAt_85 ?_
            rw [nI_clamp (n := (sz + i)) (by omega)]
            refine lv_lstore (lv' := [(6, .long (btf (sz + i))), (5, .int (nI i)), (4, .int w), (3, .int 0), (0, .ref lk), (1, .int (nI a)), (2, .int 2)]) hx hb dX2_digestAt_86 hl (by decide) rfl (fun ls hl => ?_)
            refine lv_iconst (v := 0) hx hb dX2_digestAt_88 (by decide) ?_
            refine lv_istore (lv' := [(8, .int 0), (6, .long (btf (sz + i))), (5, .int (nI i)), (4, .int w), (3, .int 0), (0, .ref lk), (1, .int (nI a)), (2, .int 2)]) hx hb dX2_digestAt_89 hl (by decide) rfl (fun ls hl => ?_)
            refine lv_iload_n hx hb dX2_digestAt_91 rfl (lv_at hl 4 rfl) ?_
            refine lv_if_eq (tgt := 114) hx hb dX2_digestAt_92 (by decide) (fun c6 => ?_) (fun c => absurd (by decide) c)
            refine lv_aload_n hx hb dX2_digestAt_114 rfl (lv_at hl 5 rfl) ?_
            refine zz_get hC hZ 0 rfl zf_X2_21 rfl dX2_digestAt_115 ?_
            refine lv_lload hx hb dX2_digestAt_118 (lv_at hl 1 rfl) ?_
            refine lv_l2i hx hb dX2_digestAt_120 rfl ?_
            refine zz_iV (As := [.int ((btf (sz + i)).toInt32)]) (wc := [cw_k5 st (nI na) (nI nu) kd dp cl sa ln bt pn bf]) (wr := [cw_k1 lk st rd l_ag l_dg l_ds, cw_i g l_dg 60 dg1, cw_i g l_ds 60 ds1, cw_i g kd 60 kdf, cw_i g dp 60 dpf, cw_i g sa 60 saf, cw_i g ln 60 lnf, cw_l g bt 4000 btf]) (rest := []) hC hZ hs hl zc_X2_55 (co_has g st kd dp cl sa ln bt pn bf (nI na) (nI nu) ((btf (sz + i)).toInt32)) [3] [0, 1, 2, 4, 5, 6, 7, 8] rfl rfl (by decide +kernel) (ci := 5) (q0 := 0) rfl rfl rfl rfl (Nat.le_of_ble_eq_true rfl) ⟨⟨Nat.le_of_ble_eq_true rfl, Nat.le_of_ble_eq_true rfl⟩, Nat.le_of_ble_eq_true rfl, Nat.le_of_ble_eq_true rfl⟩ dX2_digestAt_121 (fun r7 u8 H locs hp hZ => ?_)
            obtain ⟨rfl, rfl⟩ := hp
            have hZ : zz_Z g A s.heap [cw_k1 lk st rd l_ag l_dg l_ds, cw_i g l_dg 60 dg1, cw_i g l_ds 60 ds1, cw_i g kd 60 kdf, cw_i g dp 60 dpf, cw_i g sa 60 saf, cw_i g ln 60 lnf, cw_l g bt 4000 btf, cw_k5 st (nI na) (nI nu) kd dp cl sa ln bt pn bf] H locs := hZ
            refine lv_if_eq (tgt := 139) hx hb dX2_digestAt_124 (by decide) (fun c9 => ?_) (fun c9 => ?_)
            · refine lv_bipush (v := 31) hx hb dX2_digestAt_139 (by decide) ?_
              refine lv_iload hx hb dX2_digestAt_141 (lv_at hl 3 rfl) ?_
              refine lv_imul hx hb dX2_digestAt_143 ?_
              refine lv_iload hx hb dX2_digestAt_144 (lv_at hl 0 rfl) ?_
              refine lv_iadd hx hb dX2_digestAt_146 ?_
              refine lv_istore (lv' := [(4, .int ((31 * w) + 0)), (8, .int 0), (6, .long (btf (sz + i))), (5, .int (nI i)), (3, .int 0), (0, .ref lk), (1, .int (nI a)), (2, .int 2)]) hx hb dX2_digestAt_147 hl (by decide) rfl (fun ls hl => ?_)
              refine lv_iinc (v := nI (i + 1)) (lv' := [(5, .int (nI (i + 1))), (4, .int ((31 * w) + 0)), (8, .int 0), (6, .long (btf (sz + i))), (3, .int 0), (0, .ref lk), (1, .int (nI a)), (2, .int 2)]) hx hb dX2_digestAt_149 hl (k := 3) rfl (nI_1 _) (by decide) rfl (fun ls hl => ?_)
              refine lv_goto (tgt := 52) hx hb dX2_digestAt_152 (by decide) ?_
              exact ih (i + 1) ((31 * w) + 0) dg1 ds1 H locs ls (by omega) (by omega) (hZ.sub [0, 1, 2, 8, 3, 4, 5, 6, 7] (by decide +kernel) rfl) (lv_sub hl [0, 1, 4, 5, 6, 7] rfl)
            · obtain ⟨b2, hb2, eb2⟩ := zl_has (by omega) c9
              refine lv_aload_n hx hb dX2_digestAt_127 rfl (lv_at hl 5 rfl) ?_
              refine lv_lload hx hb dX2_digestAt_128 (lv_at hl 1 rfl) ?_
              refine lv_l2i hx hb dX2_digestAt_130 rfl ?_
              refine zz_topi (v := nI b2) (eb2) ?_
              refine lv_iload_n hx hb dX2_digestAt_131 rfl (lv_at hl 7 rfl) ?_
              refine lv_iconst (v := 1) hx hb dX2_digestAt_132 (by decide) ?_
              refine lv_iadd hx hb dX2_digestAt_133 ?_
              refine zz_topi (v := 3) (by decide) ?_
              refine zz_iV (As := [.int (nI b2), .int 3]) (wc := [cw_k1 lk st rd l_ag l_dg l_ds, cw_i g l_dg 60 dg1, cw_i g l_ds 60 ds1, cw_k5 st (nI na) (nI nu) kd dp cl sa ln bt pn bf, cw_i g kd 60 kdf, cw_i g dp 60 dpf, cw_i g sa 60 saf, cw_i g ln 60 lnf, cw_l g bt 4000 btf]) (wr := []) (rest := []) hC hZ hs hl zc_X2_62 (co_digest3 g lk l_ag l_dg l_ds st kd dp cl sa ln bt pn bf na nu rd kdf dpf saf lnf btf dg1 ds1 b2 (h_S) (by omega)) [0, 1, 2, 8, 3, 4, 5, 6, 7] [] rfl rfl (by decide +kernel) (ci := 1) (q0 := 0) rfl rfl rfl rfl (Nat.le_of_ble_eq_true rfl) ⟨⟨Nat.le_of_ble_eq_true rfl, Nat.le_of_ble_eq_true rfl⟩, Nat.le_of_ble_eq_true rfl, Nat.le_of_ble_eq_true rfl⟩ dX2_digestAt_134 (fun r10 u11 H locs hp hZ => ?_)
              obtain ⟨dg2_12, ds2_13, rfl⟩ := hp
              have hZ : zz_Z g A s.heap [cw_k1 lk st rd l_ag l_dg l_ds, cw_i g l_dg 60 dg2_12, cw_i g l_ds 60 ds2_13, cw_k5 st (nI na) (nI nu) kd dp cl sa ln bt pn bf, cw_i g kd 60 kdf, cw_i g dp 60 dpf, cw_i g sa 60 saf, cw_i g ln 60 lnf, cw_l g bt 4000 btf] H locs := hZ
              refine lv_istore (lv' := [(8, .int r10), (6, .long (btf (sz + i))), (5, .int (nI i)), (4, .int w), (3, .int 0), (0, .ref lk), (1, .int (nI a)), (2, .int 2)]) hx hb dX2_digestAt_137 hl (by decide) rfl (fun ls hl => ?_)
              refine lv_bipush (v := 31) hx hb dX2_digestAt_139 (by decide) ?_
              refine lv_iload hx hb dX2_digestAt_141 (lv_at hl 3 rfl) ?_
              refine lv_imul hx hb dX2_digestAt_143 ?_
              refine lv_iload hx hb dX2_digestAt_144 (lv_at hl 0 rfl) ?_
              refine lv_iadd hx hb dX2_digestAt_146 ?_
              refine lv_istore (lv' := [(4, .int ((31 * w) + r10)), (8, .int r10), (6, .long (btf (sz + i))), (5, .int (nI i)), (3, .int 0), (0, .ref lk), (1, .int (nI a)), (2, .int 2)]) hx hb dX2_digestAt_147 hl (by decide) rfl (fun ls hl => ?_)
              refine lv_iinc (v := nI (i + 1)) (lv' := [(5, .int (nI (i + 1))), (4, .int ((31 * w) + r10)), (8, .int r10), (6, .long (btf (sz + i))), (3, .int 0), (0, .ref lk), (1, .int (nI a)), (2, .int 2)]) hx hb dX2_digestAt_149 hl (k := 3) rfl (nI_1 _) (by decide) rfl (fun ls hl => ?_)
              refine lv_goto (tgt := 52) hx hb dX2_digestAt_152 (by decide) ?_
              exact ih (i + 1) ((31 * w) + r10) dg2_12 ds2_13 H locs ls (by omega) (by omega) hZ (lv_sub hl [0, 1, 4, 5, 6, 7] rfl)
      exact LP4 _ 0 1 dgf dsf H locs ls (by omega) (Nat.lt_succ_self _) hZ (lv_sub hl [0, 1, 2, 3, 4, 5] rfl)
    · have nc3 : dz = 1 := (nI_eq (by omega) (by omega)).mp (show nI (dz) = nI (1) from c3)
      refine lv_iconst (v := 1) hx hb dX2_digestAt_40 (by decide) ?_
      refine lv_goto (tgt := 45) hx hb dX2_digestAt_41 (by decide) ?_
      refine lv_istore_n (lv' := [(3, .int 1), (0, .ref lk), (1, .int (nI a)), (2, .int 2)]) hx hb dX2_digestAt_45 rfl hl (by decide) rfl (fun ls hl => ?_)
      refine lv_iconst (v := 1) hx hb dX2_digestAt_46 (by decide) ?_
      refine lv_istore (lv' := [(4, .int 1), (3, .int 1), (0, .ref lk), (1, .int (nI a)), (2, .int 2)]) hx hb dX2_digestAt_47 hl (by decide) rfl (fun ls hl => ?_)
      refine lv_iconst (v := 0) hx hb dX2_digestAt_49 (by decide) ?_
      refine lv_istore (lv' := [(5, .int 0), (4, .int 1), (3, .int 1), (0, .ref lk), (1, .int (nI a)), (2, .int 2)]) hx hb dX2_digestAt_50 hl (by decide) rfl (fun ls hl => ?_)
      have LP14 : ∀ (N : Nat) (i : Nat) (w : Int32) (dg1 : Nat → Int32) (ds1 : Nat → Int32) (H : Heap) (locs : List Loc) (ls : Array Slot), (i ≤ lz) → (lz - i) < N → zz_Z g A s.heap [cw_k1 lk st rd l_ag l_dg l_ds, cw_i g l_dg 60 dg1, cw_i g l_ds 60 ds1, cw_k5 st (nI na) (nI nu) kd dp cl sa ln bt pn bf, cw_i g kd 60 kdf, cw_i g dp 60 dpf, cw_i g sa 60 saf, cw_i g ln 60 lnf, cw_l g bt 4000 btf] H locs → lv_has ls 9 [(5, .int (nI i)), (4, .int w), (3, .int 1), (0, .ref lk), (1, .int (nI a)), (2, .int 2)] → W p l e rm_co_digest2 s m args below meth c H locs 0 0 (zz_QI below g args s A rm_co_digest2.cells rm_co_digest2.slots (po_co_digest2 g lk l_ag l_dg l_ds st kd dp cl sa ln bt pn bf na nu rd kdf dpf saf lnf btf dgf dsf a h_S h_a)) (F0 m 52 ls []) := by
        intro N
        induction N with
        | zero =>
          intro i w dg1 ds1 H locs ls hi hN
          exact absurd hN (Nat.not_lt_zero _)
        | succ N ih =>
          intro i w dg1 ds1 H locs ls hi hN hZ hl
          refine lv_iload hx hb dX2_digestAt_52 (lv_at hl 0 rfl) ?_
          refine lv_aload_n hx hb dX2_digestAt_54 rfl (lv_at hl 3 rfl) ?_
          refine zz_get hC hZ 0 rfl zf_X2_21 rfl dX2_digestAt_55 ?_
          refine zz_get hC hZ 3 rfl zf_X2_42 rfl dX2_digestAt_58 ?_
          refine lv_iload_n hx hb dX2_digestAt_61 rfl (lv_at hl 4 rfl) ?_
          refine zz_iald hC hZ 7 rfl (vp_in_nI (by omega) (by decide)) dX2_digestAt_62 ?_
          rw [nI_clamp (n := a) (by omega)]
          refine zz_topi (v := nI lz) (el) ?_
          refine lv_icmp_ge (tgt := 155) hx hb dX2_digestAt_63 (by decide) (fun c15 => ?_) (fun c15 => ?_)
          · have nc15 : lz ≤ i := (nI_leI (by omega) (by omega)).mp (show nI (lz) ≤ nI (i) from c15)
            refine lv_aload_n hx hb dX2_digestAt_155 rfl (lv_at hl 3 rfl) ?_
            refine zz_get hC hZ 0 rfl zf_X2_15 rfl dX2_digestAt_156 ?_
            refine lv_iload_n hx hb dX2_digestAt_159 rfl (lv_at hl 4 rfl) ?_
            refine lv_aload_n hx hb dX2_digestAt_160 rfl (lv_at hl 3 rfl) ?_
            refine zz_get hC hZ 0 rfl zf_X2_25 rfl dX2_digestAt_161 ?_
            refine zz_iast hC hZ 1 rfl (vp_in_nI (by omega) (by decide)) dX2_digestAt_164 (fun H locs hZ => ?_)
            rw [nI_clamp (n := a) (by omega)] at hZ
            have hZ : zz_Z g A s.heap [cw_k1 lk st rd l_ag l_dg l_ds, cw_i g l_dg 60 (upd dg1 a rd), cw_i g l_ds 60 ds1, cw_k5 st (nI na) (nI nu) kd dp cl sa ln bt pn bf, cw_i g kd 60 kdf, cw_i g dp 60 dpf, cw_i g sa 60 saf, cw_i g ln 60 lnf, cw_l g bt 4000 btf] H locs := hZ
            refine lv_aload_n hx hb dX2_digestAt_165 rfl (lv_at hl 3 rfl) ?_
            refine zz_get hC hZ 0 rfl zf_X2_18 rfl dX2_digestAt_166 ?_
            refine lv_iload_n hx hb dX2_digestAt_169 rfl (lv_at hl 4 rfl) ?_
            refine lv_iload hx hb dX2_digestAt_170 (lv_at hl 1 rfl) ?_
            refine zz_iast hC hZ 2 rfl (vp_in_nI (by omega) (by decide)) dX2_digestAt_172 (fun H locs hZ => ?_)
            rw [nI_clamp (n := a) (by omega)] at hZ
            have hZ : zz_Z g A s.heap [cw_k1 lk st rd l_ag l_dg l_ds, cw_i g l_dg 60 (upd dg1 a rd), cw_i g l_ds 60 (upd ds1 a w), cw_k5 st (nI na) (nI nu) kd dp cl sa ln bt pn bf, cw_i g kd 60 kdf, cw_i g dp 60 dpf, cw_i g sa 60 saf, cw_i g ln 60 lnf, cw_l g bt 4000 btf] H locs := hZ
            refine lv_iload hx hb dX2_digestAt_173 (lv_at hl 1 rfl) ?_
            exact zz_iret hC hZ (⟨(upd dg1 a rd), (upd ds1 a w), rfl⟩) (Nat.le_of_ble_eq_true rfl) (Nat.le_of_ble_eq_true rfl) dX2_digestAt_175
          · have nc15 : ¬ lz ≤ i := fun zq => c15 (show nI (lz) ≤ nI (i) from (nI_leI (by omega) (by omega)).mpr zq)
            refine lv_aload_n hx hb dX2_digestAt_66 rfl (lv_at hl 3 rfl) ?_
            refine zz_get hC hZ 0 rfl zf_X2_21 rfl dX2_digestAt_67 ?_
            refine zz_get hC hZ 3 rfl zf_X2_45 rfl dX2_digestAt_70 ?_
            refine lv_aload_n hx hb dX2_digestAt_73 rfl (lv_at hl 3 rfl) ?_
            refine zz_get hC hZ 0 rfl zf_X2_21 rfl dX2_digestAt_74 ?_
            refine zz_get hC hZ 3 rfl zf_X2_49 rfl dX2_digestAt_77 ?_
            refine lv_iload_n hx hb dX2_digestAt_80 rfl (lv_at hl 4 rfl) ?_
            refine zz_iald hC hZ 6 rfl (vp_in_nI (by omega) (by decide)) dX2_digestAt_81 ?_
            rw [nI_clamp (n := a) (by omega)]
            refine zz_topi (v := nI sz) (es) ?_
            refine lv_iload hx hb dX2_digestAt_82 (lv_at hl 0 rfl) ?_
            refine lv_iadd hx hb dX2_digestAt_84 ?_
            refine zz_topi (v := nI (sz + i)) (nI_add _ _) ?_
            refine zz_lald hC hZ 8 rfl (vp_in_nI (by omega) (by decide)) dX2_digestAt_85 ?_
            rw [nI_clamp (n := (sz + i)) (by omega)]
            refine lv_lstore (lv' := [(6, .long (btf (sz + i))), (5, .int (nI i)), (4, .int w), (3, .int 1), (0, .ref lk), (1, .int (nI a)), (2, .int 2)]) hx hb dX2_digestAt_86 hl (by decide) rfl (fun ls hl => ?_)
            refine lv_iconst (v := 0) hx hb dX2_digestAt_88 (by decide) ?_
            refine lv_istore (lv' := [(8, .int 0), (6, .long (btf (sz + i))), (5, .int (nI i)), (4, .int w), (3, .int 1), (0, .ref lk), (1, .int (nI a)), (2, .int 2)]) hx hb dX2_digestAt_89 hl (by decide) rfl (fun ls hl => ?_)
            refine lv_iload_n hx hb dX2_digestAt_91 rfl (lv_at hl 4 rfl) ?_
            refine lv_if_eq (tgt := 114) hx hb dX2_digestAt_92 (by decide) (fun c => absurd c (by decide)) (fun c16 => ?_)
            refine lv_aload_n hx hb dX2_digestAt_95 rfl (lv_at hl 5 rfl) ?_
            refine zz_get hC hZ 0 rfl zf_X2_21 rfl dX2_digestAt_96 ?_
            refine zz_get hC hZ 3 rfl zf_X2_59 rfl dX2_digestAt_99 ?_
            refine lv_iload_n hx hb dX2_digestAt_102 rfl (lv_at hl 6 rfl) ?_
            refine zz_iald hC hZ 4 rfl (vp_in_nI (by omega) (by decide)) dX2_digestAt_103 ?_
            rw [nI_clamp (n := a) (by omega)]
            refine lv_lload hx hb dX2_digestAt_104 (lv_at hl 1 rfl) ?_
            refine zz_iS (As := [.int (kdf a), .long (btf (sz + i))]) (wc := []) (wr := [cw_k1 lk st rd l_ag l_dg l_ds, cw_i g l_dg 60 dg1, cw_i g l_ds 60 ds1, cw_k5 st (nI na) (nI nu) kd dp cl sa ln bt pn bf, cw_i g kd 60 kdf, cw_i g dp 60 dpf, cw_i g sa 60 saf, cw_i g ln 60 lnf, cw_l g bt 4000 btf]) (rest := []) hC hZ hs hl zc_X2_66 (co_hashOf g (kdf a) (btf (sz + i))) [] [0, 1, 2, 3, 4, 5, 6, 7, 8] rfl rfl (by decide +kernel) rfl rfl (Nat.le_of_ble_eq_true rfl) ⟨⟨Nat.le_of_ble_eq_true rfl, Nat.le_of_ble_eq_true rfl⟩, Nat.le_of_ble_eq_true rfl, Nat.le_of_ble_eq_true rfl⟩ dX2_digestAt_106 (fun r17 u18 H locs hp hZ => ?_)
            obtain ⟨rfl, rfl⟩ := hp
            have hZ : zz_Z g A s.heap [cw_k1 lk st rd l_ag l_dg l_ds, cw_i g l_dg 60 dg1, cw_i g l_ds 60 ds1, cw_k5 st (nI na) (nI nu) kd dp cl sa ln bt pn bf, cw_i g kd 60 kdf, cw_i g dp 60 dpf, cw_i g sa 60 saf, cw_i g ln 60 lnf, cw_l g bt 4000 btf] H locs := hZ
            refine lv_istore (lv' := [(8, .int (fn_co_hashOf (kdf a) (btf (sz + i)))), (6, .long (btf (sz + i))), (5, .int (nI i)), (4, .int w), (3, .int 1), (0, .ref lk), (1, .int (nI a)), (2, .int 2)]) hx hb dX2_digestAt_109 hl (by decide) rfl (fun ls hl => ?_)
            refine lv_goto (tgt := 139) hx hb dX2_digestAt_111 (by decide) ?_
            refine lv_bipush (v := 31) hx hb dX2_digestAt_139 (by decide) ?_
            refine lv_iload hx hb dX2_digestAt_141 (lv_at hl 3 rfl) ?_
            refine lv_imul hx hb dX2_digestAt_143 ?_
            refine lv_iload hx hb dX2_digestAt_144 (lv_at hl 0 rfl) ?_
            refine lv_iadd hx hb dX2_digestAt_146 ?_
            refine lv_istore (lv' := [(4, .int ((31 * w) + (fn_co_hashOf (kdf a) (btf (sz + i))))), (8, .int (fn_co_hashOf (kdf a) (btf (sz + i)))), (6, .long (btf (sz + i))), (5, .int (nI i)), (3, .int 1), (0, .ref lk), (1, .int (nI a)), (2, .int 2)]) hx hb dX2_digestAt_147 hl (by decide) rfl (fun ls hl => ?_)
            refine lv_iinc (v := nI (i + 1)) (lv' := [(5, .int (nI (i + 1))), (4, .int ((31 * w) + (fn_co_hashOf (kdf a) (btf (sz + i))))), (8, .int (fn_co_hashOf (kdf a) (btf (sz + i)))), (6, .long (btf (sz + i))), (3, .int 1), (0, .ref lk), (1, .int (nI a)), (2, .int 2)]) hx hb dX2_digestAt_149 hl (k := 3) rfl (nI_1 _) (by decide) rfl (fun ls hl => ?_)
            refine lv_goto (tgt := 52) hx hb dX2_digestAt_152 (by decide) ?_
            exact ih (i + 1) ((31 * w) + (fn_co_hashOf (kdf a) (btf (sz + i)))) dg1 ds1 H locs ls (by omega) (by omega) hZ (lv_sub hl [0, 1, 4, 5, 6, 7] rfl)
      exact LP14 _ 0 1 dgf dsf H locs ls (by omega) (Nat.lt_succ_self _) hZ (lv_sub hl [0, 1, 2, 3, 4, 5] rfl)
  · refine lv_aload_n hx hb dX2_digestAt_20 rfl (lv_at hl 0 rfl) ?_
    refine zz_get hC hZ 0 rfl zf_X2_18 rfl dX2_digestAt_21 ?_
    refine lv_iload_n hx hb dX2_digestAt_24 rfl (lv_at hl 1 rfl) ?_
    refine zz_iald hC hZ 2 rfl (vp_in_nI (by omega) (by decide)) dX2_digestAt_25 ?_
    rw [nI_clamp (n := a) (by omega)]
    exact zz_iret hC hZ (⟨dgf, dsf, rfl⟩) (Nat.le_of_ble_eq_true rfl) (Nat.le_of_ble_eq_true rfl) dX2_digestAt_26
abbrev rm_co_digest1 : Room := { frames := 4, cells := 0, slots := 0, locals := 112 }
abbrev po_co_digest1 (g : zz_G) (lk : Nat) (l_ag : Nat) (l_dg : Nat) (l_ds : Nat) (st : Nat) (kd : Nat) (dp : Nat) (cl : Nat) (sa : Nat) (ln : Nat) (bt : Nat) (pn : Nat) (bf : Nat) (na : Nat) (nu : Nat) (rd : Int32) (kdf : Nat → Int32) (dpf : Nat → Int32) (saf : Nat → Int32) (lnf : Nat → Int32) (btf : Nat → Int64) (dgf : Nat → Int32) (dsf : Nat → Int32) (a : Nat) (h_S : zz_SI na nu dpf saf lnf) (h_a : a < na) : Int32 → va_W → Prop := fun (r : Int32) (u : va_W) => ∃ (dg2 : Nat → Int32) (ds2 : Nat → Int32), u = [cw_k1 lk st rd l_ag l_dg l_ds, cw_i g l_dg 60 dg2, cw_i g l_ds 60 ds2, cw_k5 st (nI na) (nI nu) kd dp cl sa ln bt pn bf, cw_i g kd 60 kdf, cw_i g dp 60 dpf, cw_i g sa 60 saf, cw_i g ln 60 lnf, cw_l g bt 4000 btf]
set_option maxHeartbeats 4000000 in
set_option maxRecDepth 100000 in
theorem co_digest1 (g : zz_G) (lk : Nat) (l_ag : Nat) (l_dg : Nat) (l_ds : Nat) (st : Nat) (kd : Nat) (dp : Nat) (cl : Nat) (sa : Nat) (ln : Nat) (bt : Nat) (pn : Nat) (bf : Nat) (na : Nat) (nu : Nat) (rd : Int32) (kdf : Nat → Int32) (dpf : Nat → Int32) (saf : Nat → Int32) (lnf : Nat → Int32) (btf : Nat → Int64) (dgf : Nat → Int32) (dsf : Nat → Int32) (a : Nat) (h_S : zz_SI na nu dpf saf lnf) (h_a : a < na) : zz_I g yX2_digestAt (.code yX2_digestAt cX2_digestAt 9 (some .int)) rm_co_digest1 [.ref lk, .int (nI a), .int 1] [cw_k1 lk st rd l_ag l_dg l_ds, cw_i g l_dg 60 dgf, cw_i g l_ds 60 dsf, cw_k5 st (nI na) (nI nu) kd dp cl sa ln bt pn bf, cw_i g kd 60 kdf, cw_i g dp 60 dpf, cw_i g sa 60 saf, cw_i g ln 60 lnf, cw_l g bt 4000 btf] (po_co_digest1 g lk l_ag l_dg l_ds st kd dp cl sa ln bt pn bf na nu rd kdf dpf saf lnf btf dgf dsf a h_S h_a) := by
  refine zz_I.intro (own := RX2) (cc := cX2_digestAt) (nL := 9) (by decide) rfl (Nat.le_of_ble_eq_true rfl) ?_
  intro p l e s m args below meth c A H locs ls hC hnm hs hZ hl
  obtain ⟨hx, hb, hml, hown, hts, hr, hlocks, hK⟩ := id hC
  have hl : lv_has ls 9 [(0, .ref lk), (1, .int (nI a)), (2, .int 1)] := hl
  have hZ : zz_Z g A s.heap [cw_k1 lk st rd l_ag l_dg l_ds, cw_i g l_dg 60 dgf, cw_i g l_ds 60 dsf, cw_k5 st (nI na) (nI nu) kd dp cl sa ln bt pn bf, cw_i g kd 60 kdf, cw_i g dp 60 dpf, cw_i g sa 60 saf, cw_i g ln 60 lnf, cw_l g bt 4000 btf] H locs := hZ
  have hna := h_S.1
  have hnu := h_S.2.1
  obtain ⟨sz, lz, dz, es, el, ed, g1, g2, g3, g4⟩ := h_S.2.2 a h_a
  refine lv_iload_n hx hb dX2_digestAt_0 rfl (lv_at hl 2 rfl) ?_
  refine lv_iconst (v := 4) hx hb dX2_digestAt_1 (by decide) ?_
  refine lv_icmp_le (tgt := 7) hx hb dX2_digestAt_2 (by decide) (fun c1 => ?_) (fun c => absurd (by decide) c)
  refine lv_aload_n hx hb dX2_digestAt_7 rfl (lv_at hl 0 rfl) ?_
  refine zz_get hC hZ 0 rfl zf_X2_15 rfl dX2_digestAt_8 ?_
  refine lv_iload_n hx hb dX2_digestAt_11 rfl (lv_at hl 1 rfl) ?_
  refine zz_iald hC hZ 1 rfl (vp_in_nI (by omega) (by decide)) dX2_digestAt_12 ?_
  rw [nI_clamp (n := a) (by omega)]
  refine lv_aload_n hx hb dX2_digestAt_13 rfl (lv_at hl 0 rfl) ?_
  refine zz_get hC hZ 0 rfl zf_X2_25 rfl dX2_digestAt_14 ?_
  refine lv_icmp_ne (tgt := 27) hx hb dX2_digestAt_17 (by decide) (fun c2 => ?_) (fun c2 => ?_)
  · refine lv_aload_n hx hb dX2_digestAt_27 rfl (lv_at hl 0 rfl) ?_
    refine zz_get hC hZ 0 rfl zf_X2_21 rfl dX2_digestAt_28 ?_
    refine zz_get hC hZ 3 rfl zf_X2_37 rfl dX2_digestAt_31 ?_
    refine lv_iload_n hx hb dX2_digestAt_34 rfl (lv_at hl 1 rfl) ?_
    refine zz_iald hC hZ 5 rfl (vp_in_nI (by omega) (by decide)) dX2_digestAt_35 ?_
    rw [nI_clamp (n := a) (by omega)]
    refine zz_topi (v := nI dz) (ed) ?_
    refine lv_iconst (v := 1) hx hb dX2_digestAt_36 (by decide) ?_
    refine lv_icmp_ne (tgt := 44) hx hb dX2_digestAt_37 (by decide) (fun c3 => ?_) (fun c3 => ?_)
    · have nc3 : ¬ dz = 1 := fun zq => c3 (show nI (dz) = nI (1) from (nI_eq (by omega) (by omega)).mpr zq)
      refine lv_iconst (v := 0) hx hb dX2_digestAt_44 (by decide) ?_
      refine lv_istore_n (lv' := [(3, .int 0), (0, .ref lk), (1, .int (nI a)), (2, .int 1)]) hx hb dX2_digestAt_45 rfl hl (by decide) rfl (fun ls hl => ?_)
      refine lv_iconst (v := 1) hx hb dX2_digestAt_46 (by decide) ?_
      refine lv_istore (lv' := [(4, .int 1), (3, .int 0), (0, .ref lk), (1, .int (nI a)), (2, .int 1)]) hx hb dX2_digestAt_47 hl (by decide) rfl (fun ls hl => ?_)
      refine lv_iconst (v := 0) hx hb dX2_digestAt_49 (by decide) ?_
      refine lv_istore (lv' := [(5, .int 0), (4, .int 1), (3, .int 0), (0, .ref lk), (1, .int (nI a)), (2, .int 1)]) hx hb dX2_digestAt_50 hl (by decide) rfl (fun ls hl => ?_)
      have LP4 : ∀ (N : Nat) (i : Nat) (w : Int32) (dg1 : Nat → Int32) (ds1 : Nat → Int32) (H : Heap) (locs : List Loc) (ls : Array Slot), (i ≤ lz) → (lz - i) < N → zz_Z g A s.heap [cw_k1 lk st rd l_ag l_dg l_ds, cw_i g l_dg 60 dg1, cw_i g l_ds 60 ds1, cw_k5 st (nI na) (nI nu) kd dp cl sa ln bt pn bf, cw_i g kd 60 kdf, cw_i g dp 60 dpf, cw_i g sa 60 saf, cw_i g ln 60 lnf, cw_l g bt 4000 btf] H locs → lv_has ls 9 [(5, .int (nI i)), (4, .int w), (3, .int 0), (0, .ref lk), (1, .int (nI a)), (2, .int 1)] → W p l e rm_co_digest1 s m args below meth c H locs 0 0 (zz_QI below g args s A rm_co_digest1.cells rm_co_digest1.slots (po_co_digest1 g lk l_ag l_dg l_ds st kd dp cl sa ln bt pn bf na nu rd kdf dpf saf lnf btf dgf dsf a h_S h_a)) (F0 m 52 ls []) := by
        intro N
        induction N with
        | zero =>
          intro i w dg1 ds1 H locs ls hi hN
          exact absurd hN (Nat.not_lt_zero _)
        | succ N ih =>
          intro i w dg1 ds1 H locs ls hi hN hZ hl
          refine lv_iload hx hb dX2_digestAt_52 (lv_at hl 0 rfl) ?_
          refine lv_aload_n hx hb dX2_digestAt_54 rfl (lv_at hl 3 rfl) ?_
          refine zz_get hC hZ 0 rfl zf_X2_21 rfl dX2_digestAt_55 ?_
          refine zz_get hC hZ 3 rfl zf_X2_42 rfl dX2_digestAt_58 ?_
          refine lv_iload_n hx hb dX2_digestAt_61 rfl (lv_at hl 4 rfl) ?_
          refine zz_iald hC hZ 7 rfl (vp_in_nI (by omega) (by decide)) dX2_digestAt_62 ?_
          rw [nI_clamp (n := a) (by omega)]
          refine zz_topi (v := nI lz) (el) ?_
          refine lv_icmp_ge (tgt := 155) hx hb dX2_digestAt_63 (by decide) (fun c5 => ?_) (fun c5 => ?_)
          · have nc5 : lz ≤ i := (nI_leI (by omega) (by omega)).mp (show nI (lz) ≤ nI (i) from c5)
            refine lv_aload_n hx hb dX2_digestAt_155 rfl (lv_at hl 3 rfl) ?_
            refine zz_get hC hZ 0 rfl zf_X2_15 rfl dX2_digestAt_156 ?_
            refine lv_iload_n hx hb dX2_digestAt_159 rfl (lv_at hl 4 rfl) ?_
            refine lv_aload_n hx hb dX2_digestAt_160 rfl (lv_at hl 3 rfl) ?_
            refine zz_get hC hZ 0 rfl zf_X2_25 rfl dX2_digestAt_161 ?_
            refine zz_iast hC hZ 1 rfl (vp_in_nI (by omega) (by decide)) dX2_digestAt_164 (fun H locs hZ => ?_)
            rw [nI_clamp (n := a) (by omega)] at hZ
            have hZ : zz_Z g A s.heap [cw_k1 lk st rd l_ag l_dg l_ds, cw_i g l_dg 60 (upd dg1 a rd), cw_i g l_ds 60 ds1, cw_k5 st (nI na) (nI nu) kd dp cl sa ln bt pn bf, cw_i g kd 60 kdf, cw_i g dp 60 dpf, cw_i g sa 60 saf, cw_i g ln 60 lnf, cw_l g bt 4000 btf] H locs := hZ
            refine lv_aload_n hx hb dX2_digestAt_165 rfl (lv_at hl 3 rfl) ?_
            refine zz_get hC hZ 0 rfl zf_X2_18 rfl dX2_digestAt_166 ?_
            refine lv_iload_n hx hb dX2_digestAt_169 rfl (lv_at hl 4 rfl) ?_
            refine lv_iload hx hb dX2_digestAt_170 (lv_at hl 1 rfl) ?_
            refine zz_iast hC hZ 2 rfl (vp_in_nI (by omega) (by decide)) dX2_digestAt_172 (fun H locs hZ => ?_)
            rw [nI_clamp (n := a) (by omega)] at hZ
            have hZ : zz_Z g A s.heap [cw_k1 lk st rd l_ag l_dg l_ds, cw_i g l_dg 60 (upd dg1 a rd), cw_i g l_ds 60 (upd ds1 a w), cw_k5 st (nI na) (nI nu) kd dp cl sa ln bt pn bf, cw_i g kd 60 kdf, cw_i g dp 60 dpf, cw_i g sa 60 saf, cw_i g ln 60 lnf, cw_l g bt 4000 btf] H locs := hZ
            refine lv_iload hx hb dX2_digestAt_173 (lv_at hl 1 rfl) ?_
            exact zz_iret hC hZ (⟨(upd dg1 a rd), (upd ds1 a w), rfl⟩) (Nat.le_of_ble_eq_true rfl) (Nat.le_of_ble_eq_true rfl) dX2_digestAt_175
          · have nc5 : ¬ lz ≤ i := fun zq => c5 (show nI (lz) ≤ nI (i) from (nI_leI (by omega) (by omega)).mpr zq)
            refine lv_aload_n hx hb dX2_digestAt_66 rfl (lv_at hl 3 rfl) ?_
            refine zz_get hC hZ 0 rfl zf_X2_21 rfl dX2_digestAt_67 ?_
            refine zz_get hC hZ 3 rfl zf_X2_45 rfl dX2_digestAt_70 ?_
            refine lv_aload_n hx hb dX2_digestAt_73 rfl (lv_at hl 3 rfl) ?_
            refine zz_get hC hZ 0 rfl zf_X2_21 rfl dX2_digestAt_74 ?_
            refine zz_get hC hZ 3 rfl zf_X2_49 rfl dX2_digestAt_77 ?_
            refine lv_iload_n hx hb dX2_digestAt_80 rfl (lv_at hl 4 rfl) ?_
            refine zz_iald hC hZ 6 rfl (vp_in_nI (by omega) (by decide)) dX2_digestAt_81 ?_
            rw [nI_clamp (n := a) (by omega)]
            refine zz_topi (v := nI sz) (es) ?_
            refine lv_iload hx hb dX2_digestAt_82 (lv_at hl 0 rfl) ?_
            refine lv_iadd hx hb dX2_digestAt_84 ?_
            refine zz_topi (v := nI (sz + i)) (nI_add _ _) ?_
            refine zz_lald hC hZ 8 rfl (vp_in_nI (by omega) (by decide)) dX2_digestAt_85 ?_
            rw [nI_clamp (n := (sz + i)) (by omega)]
            refine lv_lstore (lv' := [(6, .long (btf (sz + i))), (5, .int (nI i)), (4, .int w), (3, .int 0), (0, .ref lk), (1, .int (nI a)), (2, .int 1)]) hx hb dX2_digestAt_86 hl (by decide) rfl (fun ls hl => ?_)
            refine lv_iconst (v := 0) hx hb dX2_digestAt_88 (by decide) ?_
            refine lv_istore (lv' := [(8, .int 0), (6, .long (btf (sz + i))), (5, .int (nI i)), (4, .int w), (3, .int 0), (0, .ref lk), (1, .int (nI a)), (2, .int 1)]) hx hb dX2_digestAt_89 hl (by decide) rfl (fun ls hl => ?_)
            refine lv_iload_n hx hb dX2_digestAt_91 rfl (lv_at hl 4 rfl) ?_
            refine lv_if_eq (tgt := 114) hx hb dX2_digestAt_92 (by decide) (fun c6 => ?_) (fun c => absurd (by decide) c)
            refine lv_aload_n hx hb dX2_digestAt_114 rfl (lv_at hl 5 rfl) ?_
            refine zz_get hC hZ 0 rfl zf_X2_21 rfl dX2_digestAt_115 ?_
            refine lv_lload hx hb dX2_digestAt_118 (lv_at hl 1 rfl) ?_
            refine lv_l2i hx hb dX2_digestAt_120 rfl ?_
            refine zz_iV (As := [.int ((btf (sz + i)).toInt32)]) (wc := [cw_k5 st (nI na) (nI nu) kd dp cl sa ln bt pn bf]) (wr := [cw_k1 lk st rd l_ag l_dg l_ds, cw_i g l_dg 60 dg1, cw_i g l_ds 60 ds1, cw_i g kd 60 kdf, cw_i g dp 60 dpf, cw_i g sa 60 saf, cw_i g ln 60 lnf, cw_l g bt 4000 btf]) (rest := []) hC hZ hs hl zc_X2_55 (co_has g st kd dp cl sa ln bt pn bf (nI na) (nI nu) ((btf (sz + i)).toInt32)) [3] [0, 1, 2, 4, 5, 6, 7, 8] rfl rfl (by decide +kernel) (ci := 5) (q0 := 0) rfl rfl rfl rfl (Nat.le_of_ble_eq_true rfl) ⟨⟨Nat.le_of_ble_eq_true rfl, Nat.le_of_ble_eq_true rfl⟩, Nat.le_of_ble_eq_true rfl, Nat.le_of_ble_eq_true rfl⟩ dX2_digestAt_121 (fun r7 u8 H locs hp hZ => ?_)
            obtain ⟨rfl, rfl⟩ := hp
            have hZ : zz_Z g A s.heap [cw_k1 lk st rd l_ag l_dg l_ds, cw_i g l_dg 60 dg1, cw_i g l_ds 60 ds1, cw_i g kd 60 kdf, cw_i g dp 60 dpf, cw_i g sa 60 saf, cw_i g ln 60 lnf, cw_l g bt 4000 btf, cw_k5 st (nI na) (nI nu) kd dp cl sa ln bt pn bf] H locs := hZ
            refine lv_if_eq (tgt := 139) hx hb dX2_digestAt_124 (by decide) (fun c9 => ?_) (fun c9 => ?_)
            · refine lv_bipush (v := 31) hx hb dX2_digestAt_139 (by decide) ?_
              refine lv_iload hx hb dX2_digestAt_141 (lv_at hl 3 rfl) ?_
              refine lv_imul hx hb dX2_digestAt_143 ?_
              refine lv_iload hx hb dX2_digestAt_144 (lv_at hl 0 rfl) ?_
              refine lv_iadd hx hb dX2_digestAt_146 ?_
              refine lv_istore (lv' := [(4, .int ((31 * w) + 0)), (8, .int 0), (6, .long (btf (sz + i))), (5, .int (nI i)), (3, .int 0), (0, .ref lk), (1, .int (nI a)), (2, .int 1)]) hx hb dX2_digestAt_147 hl (by decide) rfl (fun ls hl => ?_)
              refine lv_iinc (v := nI (i + 1)) (lv' := [(5, .int (nI (i + 1))), (4, .int ((31 * w) + 0)), (8, .int 0), (6, .long (btf (sz + i))), (3, .int 0), (0, .ref lk), (1, .int (nI a)), (2, .int 1)]) hx hb dX2_digestAt_149 hl (k := 3) rfl (nI_1 _) (by decide) rfl (fun ls hl => ?_)
              refine lv_goto (tgt := 52) hx hb dX2_digestAt_152 (by decide) ?_
              exact ih (i + 1) ((31 * w) + 0) dg1 ds1 H locs ls (by omega) (by omega) (hZ.sub [0, 1, 2, 8, 3, 4, 5, 6, 7] (by decide +kernel) rfl) (lv_sub hl [0, 1, 4, 5, 6, 7] rfl)
            · obtain ⟨b2, hb2, eb2⟩ := zl_has (by omega) c9
              refine lv_aload_n hx hb dX2_digestAt_127 rfl (lv_at hl 5 rfl) ?_
              refine lv_lload hx hb dX2_digestAt_128 (lv_at hl 1 rfl) ?_
              refine lv_l2i hx hb dX2_digestAt_130 rfl ?_
              refine zz_topi (v := nI b2) (eb2) ?_
              refine lv_iload_n hx hb dX2_digestAt_131 rfl (lv_at hl 7 rfl) ?_
              refine lv_iconst (v := 1) hx hb dX2_digestAt_132 (by decide) ?_
              refine lv_iadd hx hb dX2_digestAt_133 ?_
              refine zz_topi (v := 2) (by decide) ?_
              refine zz_iV (As := [.int (nI b2), .int 2]) (wc := [cw_k1 lk st rd l_ag l_dg l_ds, cw_i g l_dg 60 dg1, cw_i g l_ds 60 ds1, cw_k5 st (nI na) (nI nu) kd dp cl sa ln bt pn bf, cw_i g kd 60 kdf, cw_i g dp 60 dpf, cw_i g sa 60 saf, cw_i g ln 60 lnf, cw_l g bt 4000 btf]) (wr := []) (rest := []) hC hZ hs hl zc_X2_62 (co_digest2 g lk l_ag l_dg l_ds st kd dp cl sa ln bt pn bf na nu rd kdf dpf saf lnf btf dg1 ds1 b2 (h_S) (by omega)) [0, 1, 2, 8, 3, 4, 5, 6, 7] [] rfl rfl (by decide +kernel) (ci := 1) (q0 := 0) rfl rfl rfl rfl (Nat.le_of_ble_eq_true rfl) ⟨⟨Nat.le_of_ble_eq_true rfl, Nat.le_of_ble_eq_true rfl⟩, Nat.le_of_ble_eq_true rfl, Nat.le_of_ble_eq_true rfl⟩ dX2_digestAt_134 (fun r10 u11 H locs hp hZ => ?_)
              obtain ⟨dg2_12, ds2_13, rfl⟩ := hp
              have hZ : zz_Z g A s.heap [cw_k1 lk st rd l_ag l_dg l_ds, cw_i g l_dg 60 dg2_12, cw_i g l_ds 60 ds2_13, cw_k5 st (nI na) (nI nu) kd dp cl sa ln bt pn bf, cw_i g kd 60 kdf, cw_i g dp 60 dpf, cw_i g sa 60 saf, cw_i g ln 60 lnf, cw_l g bt 4000 btf] H locs := hZ
              refine lv_istore (lv' := [(8, .int r10), (6, .long (btf (sz + i))), (5, .int (nI i)), (4, .int w), (3, .int 0), (0, .ref lk), (1, .int (nI a)), (2, .int 1)]) hx hb dX2_digestAt_137 hl (by decide) rfl (fun ls hl => ?_)
              refine lv_bipush (v := 31) hx hb dX2_digestAt_139 (by decide) ?_
              refine lv_iload hx hb dX2_digestAt_141 (lv_at hl 3 rfl) ?_
              refine lv_imul hx hb dX2_digestAt_143 ?_
              refine lv_iload hx hb dX2_digestAt_144 (lv_at hl 0 rfl) ?_
              refine lv_iadd hx hb dX2_digestAt_146 ?_
              refine lv_istore (lv' := [(4, .int ((31 * w) + r10)), (8, .int r10), (6, .long (btf (sz + i))), (5, .int (nI i)), (3, .int 0), (0, .ref lk), (1, .int (nI a)), (2, .int 1)]) hx hb dX2_digestAt_147 hl (by decide) rfl (fun ls hl => ?_)
              refine lv_iinc (v := nI (i + 1)) (lv' := [(5, .int (nI (i + 1))), (4, .int ((31 * w) + r10)), (8, .int r10), (6, .long (btf (sz + i))), (3, .int 0), (0, .ref lk), (1, .int (nI a)), (2, .int 1)]) hx hb dX2_digestAt_149 hl (k := 3) rfl (nI_1 _) (by decide) rfl (fun ls hl => ?_)
              refine lv_goto (tgt := 52) hx hb dX2_digestAt_152 (by decide) ?_
              exact ih (i + 1) ((31 * w) + r10) dg2_12 ds2_13 H locs ls (by omega) (by omega) hZ (lv_sub hl [0, 1, 4, 5, 6, 7] rfl)
      exact LP4 _ 0 1 dgf dsf H locs ls (by omega) (Nat.lt_succ_self _) hZ (lv_sub hl [0, 1, 2, 3, 4, 5] rfl)
    · have nc3 : dz = 1 := (nI_eq (by omega) (by omega)).mp (show nI (dz) = nI (1) from c3)
      refine lv_iconst (v := 1) hx hb dX2_digestAt_40 (by decide) ?_
      refine lv_goto (tgt := 45) hx hb dX2_digestAt_41 (by decide) ?_
      refine lv_istore_n (lv' := [(3, .int 1), (0, .ref lk), (1, .int (nI a)), (2, .int 1)]) hx hb dX2_digestAt_45 rfl hl (by decide) rfl (fun ls hl => ?_)
      refine lv_iconst (v := 1) hx hb dX2_digestAt_46 (by decide) ?_
      refine lv_istore (lv' := [(4, .int 1), (3, .int 1), (0, .ref lk), (1, .int (nI a)), (2, .int 1)]) hx hb dX2_digestAt_47 hl (by decide) rfl (fun ls hl => ?_)
      refine lv_iconst (v := 0) hx hb dX2_digestAt_49 (by decide) ?_
      refine lv_istore (lv' := [(5, .int 0), (4, .int 1), (3, .int 1), (0, .ref lk), (1, .int (nI a)), (2, .int 1)]) hx hb dX2_digestAt_50 hl (by decide) rfl (fun ls hl => ?_)
      have LP14 : ∀ (N : Nat) (i : Nat) (w : Int32) (dg1 : Nat → Int32) (ds1 : Nat → Int32) (H : Heap) (locs : List Loc) (ls : Array Slot), (i ≤ lz) → (lz - i) < N → zz_Z g A s.heap [cw_k1 lk st rd l_ag l_dg l_ds, cw_i g l_dg 60 dg1, cw_i g l_ds 60 ds1, cw_k5 st (nI na) (nI nu) kd dp cl sa ln bt pn bf, cw_i g kd 60 kdf, cw_i g dp 60 dpf, cw_i g sa 60 saf, cw_i g ln 60 lnf, cw_l g bt 4000 btf] H locs → lv_has ls 9 [(5, .int (nI i)), (4, .int w), (3, .int 1), (0, .ref lk), (1, .int (nI a)), (2, .int 1)] → W p l e rm_co_digest1 s m args below meth c H locs 0 0 (zz_QI below g args s A rm_co_digest1.cells rm_co_digest1.slots (po_co_digest1 g lk l_ag l_dg l_ds st kd dp cl sa ln bt pn bf na nu rd kdf dpf saf lnf btf dgf dsf a h_S h_a)) (F0 m 52 ls []) := by
        intro N
        induction N with
        | zero =>
          intro i w dg1 ds1 H locs ls hi hN
          exact absurd hN (Nat.not_lt_zero _)
        | succ N ih =>
          intro i w dg1 ds1 H locs ls hi hN hZ hl
          refine lv_iload hx hb dX2_digestAt_52 (lv_at hl 0 rfl) ?_
          refine lv_aload_n hx hb dX2_digestAt_54 rfl (lv_at hl 3 rfl) ?_
          refine zz_get hC hZ 0 rfl zf_X2_21 rfl dX2_digestAt_55 ?_
          refine zz_get hC hZ 3 rfl zf_X2_42 rfl dX2_digestAt_58 ?_
          refine lv_iload_n hx hb dX2_digestAt_61 rfl (lv_at hl 4 rfl) ?_
          refine zz_iald hC hZ 7 rfl (vp_in_nI (by omega) (by decide)) dX2_digestAt_62 ?_
          rw [nI_clamp (n := a) (by omega)]
          refine zz_topi (v := nI lz) (el) ?_
          refine lv_icmp_ge (tgt := 155) hx hb dX2_digestAt_63 (by decide) (fun c15 => ?_) (fun c15 => ?_)
          · have nc15 : lz ≤ i := (nI_leI (by omega) (by omega)).mp (show nI (lz) ≤ nI (i) from c15)
            refine lv_aload_n hx hb dX2_digestAt_155 rfl (lv_at hl 3 rfl) ?_
            refine zz_get hC hZ 0 rfl zf_X2_15 rfl dX2_digestAt_156 ?_
            refine lv_iload_n hx hb dX2_digestAt_159 rfl (lv_at hl 4 rfl) ?_
            refine lv_aload_n hx hb dX2_digestAt_160 rfl (lv_at hl 3 rfl) ?_
            refine zz_get hC hZ 0 rfl zf_X2_25 rfl dX2_digestAt_161 ?_
            refine zz_iast hC hZ 1 rfl (vp_in_nI (by omega) (by decide)) dX2_digestAt_164 (fun H locs hZ => ?_)
            rw [nI_clamp (n := a) (by omega)] at hZ
            have hZ : zz_Z g A s.heap [cw_k1 lk st rd l_ag l_dg l_ds, cw_i g l_dg 60 (upd dg1 a rd), cw_i g l_ds 60 ds1, cw_k5 st (nI na) (nI nu) kd dp cl sa ln bt pn bf, cw_i g kd 60 kdf, cw_i g dp 60 dpf, cw_i g sa 60 saf, cw_i g ln 60 lnf, cw_l g bt 4000 btf] H locs := hZ
            refine lv_aload_n hx hb dX2_digestAt_165 rfl (lv_at hl 3 rfl) ?_
            refine zz_get hC hZ 0 rfl zf_X2_18 rfl dX2_digestAt_166 ?_
            refine lv_iload_n hx hb dX2_digestAt_169 rfl (lv_at hl 4 rfl) ?_
            refine lv_iload hx hb dX2_digestAt_170 (lv_at hl 1 rfl) ?_
            refine zz_iast hC hZ 2 rfl (vp_in_nI (by omega) (by decide)) dX2_digestAt_172 (fun H locs hZ => ?_)
            rw [nI_clamp (n := a) (by omega)] at hZ
            have hZ : zz_Z g A s.heap [cw_k1 lk st rd l_ag l_dg l_ds, cw_i g l_dg 60 (upd dg1 a rd), cw_i g l_ds 60 (upd ds1 a w), cw_k5 st (nI na) (nI nu) kd dp cl sa ln bt pn bf, cw_i g kd 60 kdf, cw_i g dp 60 dpf, cw_i g sa 60 saf, cw_i g ln 60 lnf, cw_l g bt 4000 btf] H locs := hZ
            refine lv_iload hx hb dX2_digestAt_173 (lv_at hl 1 rfl) ?_
            exact zz_iret hC hZ (⟨(upd dg1 a rd), (upd ds1 a w), rfl⟩) (Nat.le_of_ble_eq_true rfl) (Nat.le_of_ble_eq_true rfl) dX2_digestAt_175
          · have nc15 : ¬ lz ≤ i := fun zq => c15 (show nI (lz) ≤ nI (i) from (nI_leI (by omega) (by omega)).mpr zq)
            refine lv_aload_n hx hb dX2_digestAt_66 rfl (lv_at hl 3 rfl) ?_
            refine zz_get hC hZ 0 rfl zf_X2_21 rfl dX2_digestAt_67 ?_
            refine zz_get hC hZ 3 rfl zf_X2_45 rfl dX2_digestAt_70 ?_
            refine lv_aload_n hx hb dX2_digestAt_73 rfl (lv_at hl 3 rfl) ?_
            refine zz_get hC hZ 0 rfl zf_X2_21 rfl dX2_digestAt_74 ?_
            refine zz_get hC hZ 3 rfl zf_X2_49 rfl dX2_digestAt_77 ?_
            refine lv_iload_n hx hb dX2_digestAt_80 rfl (lv_at hl 4 rfl) ?_
            refine zz_iald hC hZ 6 rfl (vp_in_nI (by omega) (by decide)) dX2_digestAt_81 ?_
            rw [nI_clamp (n := a) (by omega)]
            refine zz_topi (v := nI sz) (es) ?_
            refine lv_iload hx hb dX2_digestAt_82 (lv_at hl 0 rfl) ?_
            refine lv_iadd hx hb dX2_digestAt_84 ?_
            refine zz_topi (v := nI (sz + i)) (nI_add _ _) ?_
            refine zz_lald hC hZ 8 rfl (vp_in_nI (by omega) (by decide)) dX2_digestAt_85 ?_
            rw [nI_clamp (n := (sz + i)) (by omega)]
            refine lv_lstore (lv' := [(6, .long (btf (sz + i))), (5, .int (nI i)), (4, .int w), (3, .int 1), (0, .ref lk), (1, .int (nI a)), (2, .int 1)]) hx hb dX2_digestAt_86 hl (by decide) rfl (fun ls hl => ?_)
            refine lv_iconst (v := 0) hx hb dX2_digestAt_88 (by decide) ?_
            refine lv_istore (lv' := [(8, .int 0), (6, .long (btf (sz + i))), (5, .int (nI i)), (4, .int w), (3, .int 1), (0, .ref lk), (1, .int (nI a)), (2, .int 1)]) hx hb dX2_digestAt_89 hl (by decide) rfl (fun ls hl => ?_)
            refine lv_iload_n hx hb dX2_digestAt_91 rfl (lv_at hl 4 rfl) ?_
            refine lv_if_eq (tgt := 114) hx hb dX2_digestAt_92 (by decide) (fun c => absurd c (by decide)) (fun c16 => ?_)
            refine lv_aload_n hx hb dX2_digestAt_95 rfl (lv_at hl 5 rfl) ?_
            refine zz_get hC hZ 0 rfl zf_X2_21 rfl dX2_digestAt_96 ?_
            refine zz_get hC hZ 3 rfl zf_X2_59 rfl dX2_digestAt_99 ?_
            refine lv_iload_n hx hb dX2_digestAt_102 rfl (lv_at hl 6 rfl) ?_
            refine zz_iald hC hZ 4 rfl (vp_in_nI (by omega) (by decide)) dX2_digestAt_103 ?_
            rw [nI_clamp (n := a) (by omega)]
            refine lv_lload hx hb dX2_digestAt_104 (lv_at hl 1 rfl) ?_
            refine zz_iS (As := [.int (kdf a), .long (btf (sz + i))]) (wc := []) (wr := [cw_k1 lk st rd l_ag l_dg l_ds, cw_i g l_dg 60 dg1, cw_i g l_ds 60 ds1, cw_k5 st (nI na) (nI nu) kd dp cl sa ln bt pn bf, cw_i g kd 60 kdf, cw_i g dp 60 dpf, cw_i g sa 60 saf, cw_i g ln 60 lnf, cw_l g bt 4000 btf]) (rest := []) hC hZ hs hl zc_X2_66 (co_hashOf g (kdf a) (btf (sz + i))) [] [0, 1, 2, 3, 4, 5, 6, 7, 8] rfl rfl (by decide +kernel) rfl rfl (Nat.le_of_ble_eq_true rfl) ⟨⟨Nat.le_of_ble_eq_true rfl, Nat.le_of_ble_eq_true rfl⟩, Nat.le_of_ble_eq_true rfl, Nat.le_of_ble_eq_true rfl⟩ dX2_digestAt_106 (fun r17 u18 H locs hp hZ => ?_)
            obtain ⟨rfl, rfl⟩ := hp
            have hZ : zz_Z g A s.heap [cw_k1 lk st rd l_ag l_dg l_ds, cw_i g l_dg 60 dg1, cw_i g l_ds 60 ds1, cw_k5 st (nI na) (nI nu) kd dp cl sa ln bt pn bf, cw_i g kd 60 kdf, cw_i g dp 60 dpf, cw_i g sa 60 saf, cw_i g ln 60 lnf, cw_l g bt 4000 btf] H locs := hZ
            refine lv_istore (lv' := [(8, .int (fn_co_hashOf (kdf a) (btf (sz + i)))), (6, .long (btf (sz + i))), (5, .int (nI i)), (4, .int w), (3, .int 1), (0, .ref lk), (1, .int (nI a)), (2, .int 1)]) hx hb dX2_digestAt_109 hl (by decide) rfl (fun ls hl => ?_)
            refine lv_goto (tgt := 139) hx hb dX2_digestAt_111 (by decide) ?_
            refine lv_bipush (v := 31) hx hb dX2_digestAt_139 (by decide) ?_
            refine lv_iload hx hb dX2_digestAt_141 (lv_at hl 3 rfl) ?_
            refine lv_imul hx hb dX2_digestAt_143 ?_
            refine lv_iload hx hb dX2_digestAt_144 (lv_at hl 0 rfl) ?_
            refine lv_iadd hx hb dX2_digestAt_146 ?_
            refine lv_istore (lv' := [(4, .int ((31 * w) + (fn_co_hashOf (kdf a) (btf (sz + i))))), (8, .int (fn_co_hashOf (kdf a) (btf (sz + i)))), (6, .long (btf (sz + i))), (5, .int (nI i)), (3, .int 1), (0, .ref lk), (1, .int (nI a)), (2, .int 1)]) hx hb dX2_digestAt_147 hl (by decide) rfl (fun ls hl => ?_)
            refine lv_iinc (v := nI (i + 1)) (lv' := [(5, .int (nI (i + 1))), (4, .int ((31 * w) + (fn_co_hashOf (kdf a) (btf (sz + i))))), (8, .int (fn_co_hashOf (kdf a) (btf (sz + i)))), (6, .long (btf (sz + i))), (3, .int 1), (0, .ref lk), (1, .int (nI a)), (2, .int 1)]) hx hb dX2_digestAt_149 hl (k := 3) rfl (nI_1 _) (by decide) rfl (fun ls hl => ?_)
            refine lv_goto (tgt := 52) hx hb dX2_digestAt_152 (by decide) ?_
            exact ih (i + 1) ((31 * w) + (fn_co_hashOf (kdf a) (btf (sz + i)))) dg1 ds1 H locs ls (by omega) (by omega) hZ (lv_sub hl [0, 1, 4, 5, 6, 7] rfl)
      exact LP14 _ 0 1 dgf dsf H locs ls (by omega) (Nat.lt_succ_self _) hZ (lv_sub hl [0, 1, 2, 3, 4, 5] rfl)
  · refine lv_aload_n hx hb dX2_digestAt_20 rfl (lv_at hl 0 rfl) ?_
    refine zz_get hC hZ 0 rfl zf_X2_18 rfl dX2_digestAt_21 ?_
    refine lv_iload_n hx hb dX2_digestAt_24 rfl (lv_at hl 1 rfl) ?_
    refine zz_iald hC hZ 2 rfl (vp_in_nI (by omega) (by decide)) dX2_digestAt_25 ?_
    rw [nI_clamp (n := a) (by omega)]
    exact zz_iret hC hZ (⟨dgf, dsf, rfl⟩) (Nat.le_of_ble_eq_true rfl) (Nat.le_of_ble_eq_true rfl) dX2_digestAt_26
theorem dg_X2_digest_0 : (decode cX2_digest 0 = .ok (.aload_n 0, 1)) ∧ (decode cX2_digest 1 = .ok (.dup, 1)) ∧ (decode cX2_digest 2 = .ok (.getfield 25, 3)) ∧ (decode cX2_digest 5 = .ok (.iconst 1, 1)) ∧ (decode cX2_digest 6 = .ok (.iadd, 1)) ∧ (decode cX2_digest 7 = .ok (.putfield 25, 3)) ∧ (decode cX2_digest 10 = .ok (.aload_n 0, 1)) ∧ (decode cX2_digest 11 = .ok (.iload_n 1, 1)) ∧ (decode cX2_digest 12 = .ok (.iconst 1, 1)) ∧ (decode cX2_digest 13 = .ok (.invokevirtual 62, 3)) ∧ (decode cX2_digest 16 = .ok (.ireturn, 1)) := by decide +kernel
theorem dX2_digest_0 : decode cX2_digest 0 = .ok (.aload_n 0, 1) := dg_X2_digest_0.1
theorem dX2_digest_1 : decode cX2_digest 1 = .ok (.dup, 1) := dg_X2_digest_0.2.1
theorem dX2_digest_2 : decode cX2_digest 2 = .ok (.getfield 25, 3) := dg_X2_digest_0.2.2.1
theorem dX2_digest_5 : decode cX2_digest 5 = .ok (.iconst 1, 1) := dg_X2_digest_0.2.2.2.1
theorem dX2_digest_6 : decode cX2_digest 6 = .ok (.iadd, 1) := dg_X2_digest_0.2.2.2.2.1
theorem dX2_digest_7 : decode cX2_digest 7 = .ok (.putfield 25, 3) := dg_X2_digest_0.2.2.2.2.2.1
theorem dX2_digest_10 : decode cX2_digest 10 = .ok (.aload_n 0, 1) := dg_X2_digest_0.2.2.2.2.2.2.1
theorem dX2_digest_11 : decode cX2_digest 11 = .ok (.iload_n 1, 1) := dg_X2_digest_0.2.2.2.2.2.2.2.1
theorem dX2_digest_12 : decode cX2_digest 12 = .ok (.iconst 1, 1) := dg_X2_digest_0.2.2.2.2.2.2.2.2.1
theorem dX2_digest_13 : decode cX2_digest 13 = .ok (.invokevirtual 62, 3) := dg_X2_digest_0.2.2.2.2.2.2.2.2.2.1
theorem dX2_digest_16 : decode cX2_digest 16 = .ok (.ireturn, 1) := dg_X2_digest_0.2.2.2.2.2.2.2.2.2.2
abbrev rm_co_digest : Room := { frames := 5, cells := 0, slots := 0, locals := 140 }
abbrev po_co_digest (g : zz_G) (lk : Nat) (l_ag : Nat) (l_dg : Nat) (l_ds : Nat) (st : Nat) (kd : Nat) (dp : Nat) (cl : Nat) (sa : Nat) (ln : Nat) (bt : Nat) (pn : Nat) (bf : Nat) (na : Nat) (nu : Nat) (rd : Int32) (kdf : Nat → Int32) (dpf : Nat → Int32) (saf : Nat → Int32) (lnf : Nat → Int32) (btf : Nat → Int64) (dgf : Nat → Int32) (dsf : Nat → Int32) (a : Nat) (h_S : zz_SI na nu dpf saf lnf) (h_a : a < na) : Int32 → va_W → Prop := fun (r : Int32) (u : va_W) => ∃ (dg2 : Nat → Int32) (ds2 : Nat → Int32), u = [cw_k1 lk st (rd + 1) l_ag l_dg l_ds, cw_i g l_dg 60 dg2, cw_i g l_ds 60 ds2, cw_k5 st (nI na) (nI nu) kd dp cl sa ln bt pn bf, cw_i g kd 60 kdf, cw_i g dp 60 dpf, cw_i g sa 60 saf, cw_i g ln 60 lnf, cw_l g bt 4000 btf]
set_option maxHeartbeats 4000000 in
set_option maxRecDepth 100000 in
theorem co_digest (g : zz_G) (lk : Nat) (l_ag : Nat) (l_dg : Nat) (l_ds : Nat) (st : Nat) (kd : Nat) (dp : Nat) (cl : Nat) (sa : Nat) (ln : Nat) (bt : Nat) (pn : Nat) (bf : Nat) (na : Nat) (nu : Nat) (rd : Int32) (kdf : Nat → Int32) (dpf : Nat → Int32) (saf : Nat → Int32) (lnf : Nat → Int32) (btf : Nat → Int64) (dgf : Nat → Int32) (dsf : Nat → Int32) (a : Nat) (h_S : zz_SI na nu dpf saf lnf) (h_a : a < na) : zz_I g yX2_digest (.code yX2_digest cX2_digest 2 (some .int)) rm_co_digest [.ref lk, .int (nI a)] [cw_k1 lk st rd l_ag l_dg l_ds, cw_i g l_dg 60 dgf, cw_i g l_ds 60 dsf, cw_k5 st (nI na) (nI nu) kd dp cl sa ln bt pn bf, cw_i g kd 60 kdf, cw_i g dp 60 dpf, cw_i g sa 60 saf, cw_i g ln 60 lnf, cw_l g bt 4000 btf] (po_co_digest g lk l_ag l_dg l_ds st kd dp cl sa ln bt pn bf na nu rd kdf dpf saf lnf btf dgf dsf a h_S h_a) := by
  refine zz_I.intro (own := RX2) (cc := cX2_digest) (nL := 2) (by decide) rfl (Nat.le_of_ble_eq_true rfl) ?_
  intro p l e s m args below meth c A H locs ls hC hnm hs hZ hl
  obtain ⟨hx, hb, hml, hown, hts, hr, hlocks, hK⟩ := id hC
  have hl : lv_has ls 2 [(0, .ref lk), (1, .int (nI a))] := hl
  have hZ : zz_Z g A s.heap [cw_k1 lk st rd l_ag l_dg l_ds, cw_i g l_dg 60 dgf, cw_i g l_ds 60 dsf, cw_k5 st (nI na) (nI nu) kd dp cl sa ln bt pn bf, cw_i g kd 60 kdf, cw_i g dp 60 dpf, cw_i g sa 60 saf, cw_i g ln 60 lnf, cw_l g bt 4000 btf] H locs := hZ
  refine lv_aload_n hx hb dX2_digest_0 rfl (lv_at hl 0 rfl) ?_
  refine lv_dup hx hb dX2_digest_1 rfl ?_
  refine zz_get hC hZ 0 rfl zf_X2_25 rfl dX2_digest_2 ?_
  refine lv_iconst (v := 1) hx hb dX2_digest_5 (by decide) ?_
  refine lv_iadd hx hb dX2_digest_6 ?_
  refine zz_put hC hZ 0 rfl zu_X2_25 (Nat.le_of_ble_eq_true rfl) dX2_digest_7 (fun H locs hZ => ?_)
  have hZ : zz_Z g A s.heap [cw_k1 lk st (rd + 1) l_ag l_dg l_ds, cw_i g l_dg 60 dgf, cw_i g l_ds 60 dsf, cw_k5 st (nI na) (nI nu) kd dp cl sa ln bt pn bf, cw_i g kd 60 kdf, cw_i g dp 60 dpf, cw_i g sa 60 saf, cw_i g ln 60 lnf, cw_l g bt 4000 btf] H locs := hZ
  refine lv_aload_n hx hb dX2_digest_10 rfl (lv_at hl 0 rfl) ?_
  refine lv_iload_n hx hb dX2_digest_11 rfl (lv_at hl 1 rfl) ?_
  refine lv_iconst (v := 1) hx hb dX2_digest_12 (by decide) ?_
  refine zz_iV (As := [.int (nI a), .int 1]) (wc := [cw_k1 lk st (rd + 1) l_ag l_dg l_ds, cw_i g l_dg 60 dgf, cw_i g l_ds 60 dsf, cw_k5 st (nI na) (nI nu) kd dp cl sa ln bt pn bf, cw_i g kd 60 kdf, cw_i g dp 60 dpf, cw_i g sa 60 saf, cw_i g ln 60 lnf, cw_l g bt 4000 btf]) (wr := []) (rest := []) hC hZ hs hl zc_X2_62 (co_digest1 g lk l_ag l_dg l_ds st kd dp cl sa ln bt pn bf na nu (rd + 1) kdf dpf saf lnf btf dgf dsf a (h_S) (by omega)) [0, 1, 2, 3, 4, 5, 6, 7, 8] [] rfl rfl (by decide +kernel) (ci := 1) (q0 := 0) rfl rfl rfl rfl (Nat.le_of_ble_eq_true rfl) ⟨⟨Nat.le_of_ble_eq_true rfl, Nat.le_of_ble_eq_true rfl⟩, Nat.le_of_ble_eq_true rfl, Nat.le_of_ble_eq_true rfl⟩ dX2_digest_13 (fun r1 u2 H locs hp hZ => ?_)
  obtain ⟨dg2_3, ds2_4, rfl⟩ := hp
  have hZ : zz_Z g A s.heap [cw_k1 lk st (rd + 1) l_ag l_dg l_ds, cw_i g l_dg 60 dg2_3, cw_i g l_ds 60 ds2_4, cw_k5 st (nI na) (nI nu) kd dp cl sa ln bt pn bf, cw_i g kd 60 kdf, cw_i g dp 60 dpf, cw_i g sa 60 saf, cw_i g ln 60 lnf, cw_l g bt 4000 btf] H locs := hZ
  exact zz_iret hC hZ (⟨dg2_3, ds2_4, rfl⟩) (Nat.le_of_ble_eq_true rfl) (Nat.le_of_ble_eq_true rfl) dX2_digest_16
