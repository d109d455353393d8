theorem dg_X2_sameShape_0 : (decode cX2_sameShape 0 = .ok (.aload_n 0, 1)) ∧ (decode cX2_sameShape 1 = .ok (.getfield 21, 3)) ∧ (decode cX2_sameShape 4 = .ok (.getfield 59, 3)) ∧ (decode cX2_sameShape 7 = .ok (.iload_n 1, 1)) ∧ (decode cX2_sameShape 8 = .ok (.iaload, 1)) ∧ (decode cX2_sameShape 9 = .ok (.aload_n 0, 1)) ∧ (decode cX2_sameShape 10 = .ok (.getfield 21, 3)) ∧ (decode cX2_sameShape 13 = .ok (.getfield 59, 3)) ∧ (decode cX2_sameShape 16 = .ok (.iload_n 2, 1)) ∧ (decode cX2_sameShape 17 = .ok (.iaload, 1)) ∧ (decode cX2_sameShape 18 = .ok (.if_icmp .ne 49, 3)) ∧ (decode cX2_sameShape 21 = .ok (.aload_n 0, 1)) ∧ (decode cX2_sameShape 22 = .ok (.getfield 21, 3)) ∧ (decode cX2_sameShape 25 = .ok (.getfield 37, 3)) ∧ (decode cX2_sameShape 28 = .ok (.iload_n 1, 1)) ∧ (decode cX2_sameShape 29 = .ok (.iaload, 1)) := by decide +kernel
theorem dX2_sameShape_0 : decode cX2_sameShape 0 = .ok (.aload_n 0, 1) := dg_X2_sameShape_0.1
theorem dX2_sameShape_1 : decode cX2_sameShape 1 = .ok (.getfield 21, 3) := dg_X2_sameShape_0.2.1
theorem dX2_sameShape_4 : decode cX2_sameShape 4 = .ok (.getfield 59, 3) := dg_X2_sameShape_0.2.2.1
theorem dX2_sameShape_7 : decode cX2_sameShape 7 = .ok (.iload_n 1, 1) := dg_X2_sameShape_0.2.2.2.1
theorem dX2_sameShape_8 : decode cX2_sameShape 8 = .ok (.iaload, 1) := dg_X2_sameShape_0.2.2.2.2.1
theorem dX2_sameShape_9 : decode cX2_sameShape 9 = .ok (.aload_n 0, 1) := dg_X2_sameShape_0.2.2.2.2.2.1
theorem dX2_sameShape_10 : decode cX2_sameShape 10 = .ok (.getfield 21, 3) := dg_X2_sameShape_0.2.2.2.2.2.2.1
theorem dX2_sameShape_13 : decode cX2_sameShape 13 = .ok (.getfield 59, 3) := dg_X2_sameShape_0.2.2.2.2.2.2.2.1
theorem dX2_sameShape_16 : decode cX2_sameShape 16 = .ok (.iload_n 2, 1) := dg_X2_sameShape_0.2.2.2.2.2.2.2.2.1
theorem dX2_sameShape_17 : decode cX2_sameShape 17 = .ok (.iaload, 1) := dg_X2_sameShape_0.2.2.2.2.2.2.2.2.2.1
theorem dX2_sameShape_18 : decode cX2_sameShape 18 = .ok (.if_icmp .ne 49, 3) := dg_X2_sameShape_0.2.2.2.2.2.2.2.2.2.2.1
theorem dX2_sameShape_21 : decode cX2_sameShape 21 = .ok (.aload_n 0, 1) := dg_X2_sameShape_0.2.2.2.2.2.2.2.2.2.2.2.1
theorem dX2_sameShape_22 : decode cX2_sameShape 22 = .ok (.getfield 21, 3) := dg_X2_sameShape_0.2.2.2.2.2.2.2.2.2.2.2.2.1
theorem dX2_sameShape_25 : decode cX2_sameShape 25 = .ok (.getfield 37, 3) := dg_X2_sameShape_0.2.2.2.2.2.2.2.2.2.2.2.2.2.1
theorem dX2_sameShape_28 : decode cX2_sameShape 28 = .ok (.iload_n 1, 1) := dg_X2_sameShape_0.2.2.2.2.2.2.2.2.2.2.2.2.2.2.1
theorem dX2_sameShape_29 : decode cX2_sameShape 29 = .ok (.iaload, 1) := dg_X2_sameShape_0.2.2.2.2.2.2.2.2.2.2.2.2.2.2.2
theorem dg_X2_sameShape_30 : (decode cX2_sameShape 30 = .ok (.aload_n 0, 1)) ∧ (decode cX2_sameShape 31 = .ok (.getfield 21, 3)) ∧ (decode cX2_sameShape 34 = .ok (.getfield 37, 3)) ∧ (decode cX2_sameShape 37 = .ok (.iload_n 2, 1)) ∧ (decode cX2_sameShape 38 = .ok (.iaload, 1)) ∧ (decode cX2_sameShape 39 = .ok (.if_icmp .ne 28, 3)) ∧ (decode cX2_sameShape 42 = .ok (.aload_n 0, 1)) ∧ (decode cX2_sameShape 43 = .ok (.getfield 21, 3)) ∧ (decode cX2_sameShape 46 = .ok (.getfield 42, 3)) ∧ (decode cX2_sameShape 49 = .ok (.iload_n 1, 1)) ∧ (decode cX2_sameShape 50 = .ok (.iaload, 1)) ∧ (decode cX2_sameShape 51 = .ok (.aload_n 0, 1)) ∧ (decode cX2_sameShape 52 = .ok (.getfield 21, 3)) ∧ (decode cX2_sameShape 55 = .ok (.getfield 42, 3)) ∧ (decode cX2_sameShape 58 = .ok (.iload_n 2, 1)) ∧ (decode cX2_sameShape 59 = .ok (.iaload, 1)) := by decide +kernel
theorem dX2_sameShape_30 : decode cX2_sameShape 30 = .ok (.aload_n 0, 1) := dg_X2_sameShape_30.1
theorem dX2_sameShape_31 : decode cX2_sameShape 31 = .ok (.getfield 21, 3) := dg_X2_sameShape_30.2.1
theorem dX2_sameShape_34 : decode cX2_sameShape 34 = .ok (.getfield 37, 3) := dg_X2_sameShape_30.2.2.1
theorem dX2_sameShape_37 : decode cX2_sameShape 37 = .ok (.iload_n 2, 1) := dg_X2_sameShape_30.2.2.2.1
theorem dX2_sameShape_38 : decode cX2_sameShape 38 = .ok (.iaload, 1) := dg_X2_sameShape_30.2.2.2.2.1
theorem dX2_sameShape_39 : decode cX2_sameShape 39 = .ok (.if_icmp .ne 28, 3) := dg_X2_sameShape_30.2.2.2.2.2.1
theorem dX2_sameShape_42 : decode cX2_sameShape 42 = .ok (.aload_n 0, 1) := dg_X2_sameShape_30.2.2.2.2.2.2.1
theorem dX2_sameShape_43 : decode cX2_sameShape 43 = .ok (.getfield 21, 3) := dg_X2_sameShape_30.2.2.2.2.2.2.2.1
theorem dX2_sameShape_46 : decode cX2_sameShape 46 = .ok (.getfield 42, 3) := dg_X2_sameShape_30.2.2.2.2.2.2.2.2.1
theorem dX2_sameShape_49 : decode cX2_sameShape 49 = .ok (.iload_n 1, 1) := dg_X2_sameShape_30.2.2.2.2.2.2.2.2.2.1
theorem dX2_sameShape_50 : decode cX2_sameShape 50 = .ok (.iaload, 1) := dg_X2_sameShape_30.2.2.2.2.2.2.2.2.2.2.1
theorem dX2_sameShape_51 : decode cX2_sameShape 51 = .ok (.aload_n 0, 1) := dg_X2_sameShape_30.2.2.2.2.2.2.2.2.2.2.2.1
theorem dX2_sameShape_52 : decode cX2_sameShape 52 = .ok (.getfield 21, 3) := dg_X2_sameShape_30.2.2.2.2.2.2.2.2.2.2.2.2.1
theorem dX2_sameShape_55 : decode cX2_sameShape 55 = .ok (.getfield 42, 3) := dg_X2_sameShape_30.2.2.2.2.2.2.2.2.2.2.2.2.2.1
theorem dX2_sameShape_58 : decode cX2_sameShape 58 = .ok (.iload_n 2, 1) := dg_X2_sameShape_30.2.2.2.2.2.2.2.2.2.2.2.2.2.2.1
theorem dX2_sameShape_59 : decode cX2_sameShape 59 = .ok (.iaload, 1) := dg_X2_sameShape_30.2.2.2.2.2.2.2.2.2.2.2.2.2.2.2
theorem dg_X2_sameShape_60 : (decode cX2_sameShape 60 = .ok (.if_icmp .ne 7, 3)) ∧ (decode cX2_sameShape 63 = .ok (.iconst 1, 1)) ∧ (decode cX2_sameShape 64 = .ok (.goto 4, 3)) ∧ (decode cX2_sameShape 67 = .ok (.iconst 0, 1)) ∧ (decode cX2_sameShape 68 = .ok (.ireturn, 1)) := by decide +kernel
theorem dX2_sameShape_60 : decode cX2_sameShape 60 = .ok (.if_icmp .ne 7, 3) := dg_X2_sameShape_60.1
theorem dX2_sameShape_63 : decode cX2_sameShape 63 = .ok (.iconst 1, 1) := dg_X2_sameShape_60.2.1
theorem dX2_sameShape_64 : decode cX2_sameShape 64 = .ok (.goto 4, 3) := dg_X2_sameShape_60.2.2.1
theorem dX2_sameShape_67 : decode cX2_sameShape 67 = .ok (.iconst 0, 1) := dg_X2_sameShape_60.2.2.2.1
theorem dX2_sameShape_68 : decode cX2_sameShape 68 = .ok (.ireturn, 1) := dg_X2_sameShape_60.2.2.2.2
theorem zf_X2_21 : zz_f RX2 21 1 0 := ⟨RX2, TX2, 5, rfl, zi_X2, by decide, zk_115⟩
theorem zk_33 : Cond.fieldLink RX2 59 RX6 "kind" "[I" ∈ zz_w := zz_in (List.mem_append_right _ (List.mem_append_left _ (List.mem_of_getElem? (i := 33) (by decide +kernel)))) rfl
theorem zf_X2_59 : zz_f RX2 59 5 2 := ⟨RX6, TX6, 10, rfl, zi_X6, by decide, zk_33⟩
theorem zk_38 : Cond.fieldLink RX2 37 RX6 "depth" "[I" ∈ zz_w := zz_in (List.mem_append_right _ (List.mem_append_left _ (List.mem_of_getElem? (i := 38) (by decide +kernel)))) rfl
theorem zf_X2_37 : zz_f RX2 37 5 3 := ⟨RX6, TX6, 10, rfl, zi_X6, by decide, zk_38⟩
theorem zk_50 : Cond.fieldLink RX2 42 RX6 "length" "[I" ∈ zz_w := zz_in (List.mem_append_right _ (List.mem_append_left _ (List.mem_of_getElem? (i := 50) (by decide +kernel)))) rfl
theorem zf_X2_42 : zz_f RX2 42 5 6 := ⟨RX6, TX6, 10, rfl, zi_X6, by decide, zk_50⟩
def fn_co_sameShape (kdf : Nat → Int32) (dpf : Nat → Int32) (lnf : Nat → Int32) (a : Nat) (b : Nat) : Int32 := (if (kdf a) = (kdf b) then (if (dpf a) = (dpf b) then (if (lnf a) = (lnf b) then 1 else 0) else 0) else 0)
abbrev rm_co_sameShape : Room := { frames := 0, cells := 0, slots := 0, locals := 0 }
abbrev po_co_sameShape (g : zz_G) (lk : Nat) (l_ag : Nat) (l_dg : Nat) (l_ds : Nat) (st : Nat) (kd : Nat) (dp : Nat) (cl : Nat) (sa : Nat) (ln : Nat) (bt : Nat) (pn : Nat) (bf : Nat) (na : Nat) (nu : Nat) (rd : Int32) (kdf : Nat → Int32) (dpf : Nat → Int32) (lnf : Nat → Int32) (a : Nat) (b : Nat) (h_60 : a < 60 ∧ b < 60) : Int32 → va_W → Prop := fun (r : Int32) (u : va_W) => r = fn_co_sameShape kdf dpf lnf a b ∧ u = [cw_k1 lk st rd l_ag l_dg l_ds, cw_k5 st (nI na) (nI nu) kd dp cl sa ln bt pn bf, cw_i g kd 60 kdf, cw_i g dp 60 dpf, cw_i g ln 60 lnf]
set_option maxHeartbeats 4000000 in
set_option maxRecDepth 100000 in
theorem co_sameShape (g : zz_G) (lk : Nat) (l_ag : Nat) (l_dg : Nat) (l_ds : Nat) (st : Nat) (kd : Nat) (dp : Nat) (cl : Nat) (sa : Nat) (ln : Nat) (bt : Nat) (pn : Nat) (bf : Nat) (na : Nat) (nu : Nat) (rd : Int32) (kdf : Nat → Int32) (dpf : Nat → Int32) (lnf : Nat → Int32) (a : Nat) (b : Nat) (h_60 : a < 60 ∧ b < 60) : zz_I g yX2_sameShape (.code yX2_sameShape cX2_sameShape 3 (some .boolean)) rm_co_sameShape [.ref lk, .int (nI a), .int (nI b)] [cw_k1 lk st rd l_ag l_dg l_ds, cw_k5 st (nI na) (nI nu) kd dp cl sa ln bt pn bf, cw_i g kd 60 kdf, cw_i g dp 60 dpf, cw_i g ln 60 lnf] (po_co_sameShape g lk l_ag l_dg l_ds st kd dp cl sa ln bt pn bf na nu rd kdf dpf lnf a b h_60) := by
  refine zz_I.intro (own := RX2) (cc := cX2_sameShape) (nL := 3) (by decide) rfl (Nat.le_of_ble_eq_true rfl) ?_
  intro p l e s m args below meth c A H locs ls hC hnm hs hZ hl
  obtain ⟨hx, hb, hml, hown, hts, hr, hlocks, hK⟩ := id hC
  have hl : lv_has ls 3 [(0, .ref lk), (1, .int (nI a)), (2, .int (nI b))] := hl
  have hZ : zz_Z g A s.heap [cw_k1 lk st rd l_ag l_dg l_ds, cw_k5 st (nI na) (nI nu) kd dp cl sa ln bt pn bf, cw_i g kd 60 kdf, cw_i g dp 60 dpf, cw_i g ln 60 lnf] H locs := hZ
  refine lv_aload_n hx hb dX2_sameShape_0 rfl (lv_at hl 0 rfl) ?_
  refine zz_get hC hZ 0 rfl zf_X2_21 rfl dX2_sameShape_1 ?_
  refine zz_get hC hZ 1 rfl zf_X2_59 rfl dX2_sameShape_4 ?_
  refine lv_iload_n hx hb dX2_sameShape_7 rfl (lv_at hl 1 rfl) ?_
  have bd1 : a < 60 := by omega
  refine zz_ialdn hC hZ 2 rfl bd1 (by decide) dX2_sameShape_8 ?_
  refine lv_aload_n hx hb dX2_sameShape_9 rfl (lv_at hl 0 rfl) ?_
  refine zz_get hC hZ 0 rfl zf_X2_21 rfl dX2_sameShape_10 ?_
  refine zz_get hC hZ 1 rfl zf_X2_59 rfl dX2_sameShape_13 ?_
  refine lv_iload_n hx hb dX2_sameShape_16 rfl (lv_at hl 2 rfl) ?_
  have bd2 : b < 60 := by omega
  refine zz_ialdn hC hZ 2 rfl bd2 (by decide) dX2_sameShape_17 ?_
  refine lv_icmp_ne (tgt := 67) hx hb dX2_sameShape_18 (by decide) (fun c3 => ?_) (fun c3 => ?_)
  · refine lv_iconst (v := 0) hx hb dX2_sameShape_67 (by decide) ?_
    exact zz_zret hC hZ (by decide) (⟨by show _ = _; rw [fn_co_sameShape, if_neg c3], rfl⟩) (Nat.le_of_ble_eq_true rfl) (Nat.le_of_ble_eq_true rfl) dX2_sameShape_68
  · refine lv_aload_n hx hb dX2_sameShape_21 rfl (lv_at hl 0 rfl) ?_
    refine zz_get hC hZ 0 rfl zf_X2_21 rfl dX2_sameShape_22 ?_
    refine zz_get hC hZ 1 rfl zf_X2_37 rfl dX2_sameShape_25 ?_
    refine lv_iload_n hx hb dX2_sameShape_28 rfl (lv_at hl 1 rfl) ?_
    refine zz_ialdn hC hZ 3 rfl bd1 (by decide) dX2_sameShape_29 ?_
    refine lv_aload_n hx hb dX2_sameShape_30 rfl (lv_at hl 0 rfl) ?_
    refine zz_get hC hZ 0 rfl zf_X2_21 rfl dX2_sameShape_31 ?_
    refine zz_get hC hZ 1 rfl zf_X2_37 rfl dX2_sameShape_34 ?_
    refine lv_iload_n hx hb dX2_sameShape_37 rfl (lv_at hl 2 rfl) ?_
    refine zz_ialdn hC hZ 3 rfl bd2 (by decide) dX2_sameShape_38 ?_
    refine lv_icmp_ne (tgt := 67) hx hb dX2_sameShape_39 (by decide) (fun c4 => ?_) (fun c4 => ?_)
    · refine lv_iconst (v := 0) hx hb dX2_sameShape_67 (by decide) ?_
      exact zz_zret hC hZ (by decide) (⟨by show _ = _; rw [fn_co_sameShape, if_pos c3, if_neg c4], rfl⟩) (Nat.le_of_ble_eq_true rfl) (Nat.le_of_ble_eq_true rfl) dX2_sameShape_68
    · refine lv_aload_n hx hb dX2_sameShape_42 rfl (lv_at hl 0 rfl) ?_
      refine zz_get hC hZ 0 rfl zf_X2_21 rfl dX2_sameShape_43 ?_
      refine zz_get hC hZ 1 rfl zf_X2_42 rfl dX2_sameShape_46 ?_
      refine lv_iload_n hx hb dX2_sameShape_49 rfl (lv_at hl 1 rfl) ?_
      refine zz_ialdn hC hZ 4 rfl bd1 (by decide) dX2_sameShape_50 ?_
      refine lv_aload_n hx hb dX2_sameShape_51 rfl (lv_at hl 0 rfl) ?_
      refine zz_get hC hZ 0 rfl zf_X2_21 rfl dX2_sameShape_52 ?_
      refine zz_get hC hZ 1 rfl zf_X2_42 rfl dX2_sameShape_55 ?_
      refine lv_iload_n hx hb dX2_sameShape_58 rfl (lv_at hl 2 rfl) ?_
      refine zz_ialdn hC hZ 4 rfl bd2 (by decide) dX2_sameShape_59 ?_
      refine lv_icmp_ne (tgt := 67) hx hb dX2_sameShape_60 (by decide) (fun c5 => ?_) (fun c5 => ?_)
      · refine lv_iconst (v := 0) hx hb dX2_sameShape_67 (by decide) ?_
        exact zz_zret hC hZ (by decide) (⟨by show _ = _; rw [fn_co_sameShape, if_pos c3, if_pos c4, if_neg c5], rfl⟩) (Nat.le_of_ble_eq_true rfl) (Nat.le_of_ble_eq_true rfl) dX2_sameShape_68
      · refine lv_iconst (v := 1) hx hb dX2_sameShape_63 (by decide) ?_
        refine lv_goto (tgt := 68) hx hb dX2_sameShape_64 (by decide) ?_
        exact zz_zret hC hZ (by decide) (⟨by show _ = _; rw [fn_co_sameShape, if_pos c3, if_pos c4, if_pos c5], rfl⟩) (Nat.le_of_ble_eq_true rfl) (Nat.le_of_ble_eq_true rfl) dX2_sameShape_68
theorem zl_shape {kdf dpf lnf : Nat → Int32} {a b : Nat} (h : ¬ fn_co_sameShape kdf dpf lnf a b = 0) : lnf a = lnf b := by
  unfold fn_co_sameShape at h
  by_cases h1 : kdf a = kdf b
  · by_cases h2 : dpf a = dpf b
    · by_cases h3 : lnf a = lnf b
      · exact h3
      · rw [if_pos h1, if_pos h2, if_neg h3] at h; exact absurd rfl h
    · rw [if_pos h1, if_neg h2] at h; exact absurd rfl h
  · rw [if_neg h1] at h; exact absurd rfl h
