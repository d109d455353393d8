def zz_l4 (n0 n1 n2 n3 : Int32) : Nat → Int32 := upd (upd (upd (upd (fun _ => 0) 0 n0) 1 n1) 2 n2) 3 n3
theorem dX3_tellLengths_0 : decode cX3_tellLengths 0 = .ok (.aload_n 0, 1) := by decide +kernel
theorem dX3_tellLengths_1 : decode cX3_tellLengths 1 = .ok (.getfield 9, 3) := by decide +kernel
theorem zf_X3_9 : zz_f RX3 9 2 1 := ⟨RX3, TX3, 4, rfl, zi_X3, by decide, zk_97⟩
theorem dX3_tellLengths_4 : decode cX3_tellLengths 4 = .ok (.iconst 0, 1) := by decide +kernel
theorem dX3_tellLengths_5 : decode cX3_tellLengths 5 = .ok (.iload_n 1, 1) := by decide +kernel
theorem dX3_tellLengths_6 : decode cX3_tellLengths 6 = .ok (.iastore, 1) := by decide +kernel
theorem dX3_tellLengths_7 : decode cX3_tellLengths 7 = .ok (.aload_n 0, 1) := by decide +kernel
theorem dX3_tellLengths_8 : decode cX3_tellLengths 8 = .ok (.getfield 9, 3) := by decide +kernel
theorem dX3_tellLengths_11 : decode cX3_tellLengths 11 = .ok (.iconst 1, 1) := by decide +kernel
theorem dX3_tellLengths_12 : decode cX3_tellLengths 12 = .ok (.iload_n 2, 1) := by decide +kernel
theorem dX3_tellLengths_13 : decode cX3_tellLengths 13 = .ok (.iastore, 1) := by decide +kernel
theorem dX3_tellLengths_14 : decode cX3_tellLengths 14 = .ok (.aload_n 0, 1) := by decide +kernel
theorem dX3_tellLengths_15 : decode cX3_tellLengths 15 = .ok (.getfield 9, 3) := by decide +kernel
theorem dX3_tellLengths_18 : decode cX3_tellLengths 18 = .ok (.iconst 2, 1) := by decide +kernel
theorem dX3_tellLengths_19 : decode cX3_tellLengths 19 = .ok (.iload_n 3, 1) := by decide +kernel
theorem dX3_tellLengths_20 : decode cX3_tellLengths 20 = .ok (.iastore, 1) := by decide +kernel
theorem dX3_tellLengths_21 : decode cX3_tellLengths 21 = .ok (.aload_n 0, 1) := by decide +kernel
theorem dX3_tellLengths_22 : decode cX3_tellLengths 22 = .ok (.getfield 9, 3) := by decide +kernel
theorem dX3_tellLengths_25 : decode cX3_tellLengths 25 = .ok (.iconst 3, 1) := by decide +kernel
theorem dX3_tellLengths_26 : decode cX3_tellLengths 26 = .ok (.iload 4, 2) := by decide +kernel
theorem dX3_tellLengths_28 : decode cX3_tellLengths 28 = .ok (.iastore, 1) := by decide +kernel
theorem dX3_tellLengths_29 : decode cX3_tellLengths 29 = .ok (.return_, 1) := by decide +kernel
abbrev rm_co_tell : Room := { frames := 0, cells := 0, slots := 0, locals := 0 }
abbrev po_co_tell (g : zz_G) (mk : Nat) (st : Nat) (ml : Nat) (n0 : Int32) (n1 : Int32) (n2 : Int32) (n3 : Int32) : va_W → Prop := fun (u : va_W) => u = [(mk, .inr (2, [.ref st, .ref ml, .int 0, .int 0])), (ml, .inl (g.2.1, 4, .inl (zz_l4 n0 n1 n2 n3)))]
set_option maxHeartbeats 4000000 in
set_option maxRecDepth 100000 in
theorem co_tell (g : zz_G) (mk : Nat) (st : Nat) (ml : Nat) (n0 : Int32) (n1 : Int32) (n2 : Int32) (n3 : Int32) : zz_V g yX3_tellLengths (.code yX3_tellLengths cX3_tellLengths 5 none) rm_co_tell [.ref mk, .int n0, .int n1, .int n2, .int n3] [(mk, .inr (2, [.ref st, .ref ml, .int 0, .int 0])), (ml, .inl (g.2.1, 4, .inl (fun _ => 0)))] (po_co_tell g mk st ml n0 n1 n2 n3) := by
  refine zz_V.intro (own := RX3) (cc := cX3_tellLengths) (nL := 5) (by decide) rfl (Nat.le_of_ble_eq_true rfl) ?_
  intro p l e s m args below meth c A H locs ls hC hnm hZ hl
  obtain ⟨hx, hb, hml, hown, hts, hr, hlocks, hK⟩ := id hC
  have hl : lv_has ls 5 [(0, .ref mk), (1, .int n0), (2, .int n1), (3, .int n2), (4, .int n3)] := hl
  have hZ : zz_Z g A s.heap [(mk, .inr (2, [.ref st, .ref ml, .int 0, .int 0])), (ml, .inl (g.2.1, 4, .inl (fun _ => 0)))] H locs := hZ
  refine lv_aload_n hx hb dX3_tellLengths_0 rfl (lv_at hl 0 rfl) ?_
  refine zz_get hC hZ 0 rfl zf_X3_9 rfl dX3_tellLengths_1 ?_
  refine lv_iconst (v := 0) hx hb dX3_tellLengths_4 (by decide) ?_
  refine lv_iload_n hx hb dX3_tellLengths_5 rfl (lv_at hl 1 rfl) ?_
  refine zz_iast hC hZ 1 rfl (by unfold vp_in; decide) dX3_tellLengths_6 (fun H locs hZ => ?_)
  rw [zl_c0] at hZ
  have hZ : zz_Z g A s.heap [(mk, .inr (2, [.ref st, .ref ml, .int 0, .int 0])), (ml, .inl (g.2.1, 4, .inl (upd (fun _ => 0) 0 n0)))] H locs := hZ
  refine lv_aload_n hx hb dX3_tellLengths_7 rfl (lv_at hl 0 rfl) ?_
  refine zz_get hC hZ 0 rfl zf_X3_9 rfl dX3_tellLengths_8 ?_
  refine lv_iconst (v := 1) hx hb dX3_tellLengths_11 (by decide) ?_
  refine lv_iload_n hx hb dX3_tellLengths_12 rfl (lv_at hl 2 rfl) ?_
  refine zz_iast hC hZ 1 rfl (by unfold vp_in; decide) dX3_tellLengths_13 (fun H locs hZ => ?_)
  rw [zl_c1] at hZ
  have hZ : zz_Z g A s.heap [(mk, .inr (2, [.ref st, .ref ml, .int 0, .int 0])), (ml, .inl (g.2.1, 4, .inl (upd (upd (fun _ => 0) 0 n0) 1 n1)))] H locs := hZ
  refine lv_aload_n hx hb dX3_tellLengths_14 rfl (lv_at hl 0 rfl) ?_
  refine zz_get hC hZ 0 rfl zf_X3_9 rfl dX3_tellLengths_15 ?_
  refine lv_iconst (v := 2) hx hb dX3_tellLengths_18 (by decide) ?_
  refine lv_iload_n hx hb dX3_tellLengths_19 rfl (lv_at hl 3 rfl) ?_
  refine zz_iast hC hZ 1 rfl (by unfold vp_in; decide) dX3_tellLengths_20 (fun H locs hZ => ?_)
  rw [zl_c2] at hZ
  have hZ : zz_Z g A s.heap [(mk, .inr (2, [.ref st, .ref ml, .int 0, .int 0])), (ml, .inl (g.2.1, 4, .inl (upd (upd (upd (fun _ => 0) 0 n0) 1 n1) 2 n2)))] H locs := hZ
  refine lv_aload_n hx hb dX3_tellLengths_21 rfl (lv_at hl 0 rfl) ?_
  refine zz_get hC hZ 0 rfl zf_X3_9 rfl dX3_tellLengths_22 ?_
  refine lv_iconst (v := 3) hx hb dX3_tellLengths_25 (by decide) ?_
  refine lv_iload hx hb dX3_tellLengths_26 (lv_at hl 4 rfl) ?_
  refine zz_iast hC hZ 1 rfl (by unfold vp_in; decide) dX3_tellLengths_28 (fun H locs hZ => ?_)
  rw [zl_c3] at hZ
  have hZ : zz_Z g A s.heap [(mk, .inr (2, [.ref st, .ref ml, .int 0, .int 0])), (ml, .inl (g.2.1, 4, .inl (upd (upd (upd (upd (fun _ => 0) 0 n0) 1 n1) 2 n2) 3 n3)))] H locs := hZ
  exact zz_vret hC hZ (rfl) (Nat.le_of_ble_eq_true rfl) (Nat.le_of_ble_eq_true rfl) dX3_tellLengths_29
theorem dX3_hasLengthBelowZero_0 : decode cX3_hasLengthBelowZero 0 = .ok (.iconst 0, 1) := by decide +kernel
theorem dX3_hasLengthBelowZero_1 : decode cX3_hasLengthBelowZero 1 = .ok (.istore_n 2, 1) := by decide +kernel
theorem dX3_hasLengthBelowZero_2 : decode cX3_hasLengthBelowZero 2 = .ok (.iload_n 2, 1) := by decide +kernel
theorem dX3_hasLengthBelowZero_3 : decode cX3_hasLengthBelowZero 3 = .ok (.iload_n 1, 1) := by decide +kernel
theorem dX3_hasLengthBelowZero_4 : decode cX3_hasLengthBelowZero 4 = .ok (.if_icmp .ge 25, 3) := by decide +kernel
theorem dX3_hasLengthBelowZero_29 : decode cX3_hasLengthBelowZero 29 = .ok (.iconst 0, 1) := by decide +kernel
theorem dX3_hasLengthBelowZero_30 : decode cX3_hasLengthBelowZero 30 = .ok (.ireturn, 1) := by decide +kernel
theorem dX3_hasLengthBelowZero_7 : decode cX3_hasLengthBelowZero 7 = .ok (.iload_n 2, 1) := by decide +kernel
theorem dX3_hasLengthBelowZero_8 : decode cX3_hasLengthBelowZero 8 = .ok (.iconst 4, 1) := by decide +kernel
theorem dX3_hasLengthBelowZero_9 : decode cX3_hasLengthBelowZero 9 = .ok (.if_icmp .ge 20, 3) := by decide +kernel
theorem dX3_hasLengthBelowZero_12 : decode cX3_hasLengthBelowZero 12 = .ok (.aload_n 0, 1) := by decide +kernel
theorem dX3_hasLengthBelowZero_13 : decode cX3_hasLengthBelowZero 13 = .ok (.getfield 9, 3) := by decide +kernel
theorem dX3_hasLengthBelowZero_16 : decode cX3_hasLengthBelowZero 16 = .ok (.iload_n 2, 1) := by decide +kernel
theorem dX3_hasLengthBelowZero_17 : decode cX3_hasLengthBelowZero 17 = .ok (.iaload, 1) := by decide +kernel
theorem dX3_hasLengthBelowZero_18 : decode cX3_hasLengthBelowZero 18 = .ok (.ifCond .ge 5, 3) := by decide +kernel
theorem dX3_hasLengthBelowZero_23 : decode cX3_hasLengthBelowZero 23 = .ok (.iinc 2 1, 3) := by decide +kernel
theorem dX3_hasLengthBelowZero_26 : decode cX3_hasLengthBelowZero 26 = .ok (.goto (-24), 3) := by decide +kernel
theorem dX3_hasLengthBelowZero_21 : decode cX3_hasLengthBelowZero 21 = .ok (.iconst 1, 1) := by decide +kernel
theorem dX3_hasLengthBelowZero_22 : decode cX3_hasLengthBelowZero 22 = .ok (.ireturn, 1) := by decide +kernel
def fn_co_hasNeg (n0 : Int32) (n1 : Int32) (n2 : Int32) (n3 : Int32) (dd : Int32) : Int32 := (if dd ≤ 0 then 0 else (if 0 ≤ n0 then (if dd ≤ 1 then 0 else (if 0 ≤ n1 then (if dd ≤ 2 then 0 else (if 0 ≤ n2 then (if dd ≤ 3 then 0 else (if 0 ≤ n3 then (if dd ≤ 4 then 0 else 0) else 1)) else 1)) else 1)) else 1))
abbrev rm_co_hasNeg : Room := { frames := 0, cells := 0, slots := 0, locals := 0 }
abbrev po_co_hasNeg (g : zz_G) (mk : Nat) (st : Nat) (ml : Nat) (n0 : Int32) (n1 : Int32) (n2 : Int32) (n3 : Int32) (dd : Int32) : Int32 → va_W → Prop := fun (r : Int32) (u : va_W) => r = fn_co_hasNeg n0 n1 n2 n3 dd ∧ u = [(mk, .inr (2, [.ref st, .ref ml, .int 0, .int 0])), (ml, .inl (g.2.1, 4, .inl (zz_l4 n0 n1 n2 n3)))]
set_option maxHeartbeats 4000000 in
set_option maxRecDepth 100000 in
theorem co_hasNeg (g : zz_G) (mk : Nat) (st : Nat) (ml : Nat) (n0 : Int32) (n1 : Int32) (n2 : Int32) (n3 : Int32) (dd : Int32) : zz_I g yX3_hasLengthBelowZero (.code yX3_hasLengthBelowZero cX3_hasLengthBelowZero 3 (some .boolean)) rm_co_hasNeg [.ref mk, .int dd] [(mk, .inr (2, [.ref st, .ref ml, .int 0, .int 0])), (ml, .inl (g.2.1, 4, .inl (zz_l4 n0 n1 n2 n3)))] (po_co_hasNeg g mk st ml n0 n1 n2 n3 dd) := by
  refine zz_I.intro (own := RX3) (cc := cX3_hasLengthBelowZero) (nL := 3) (by decide) rfl (Nat.le_of_ble_eq_true rfl) ?_
  intro p l e s m args below meth c A H locs ls hC hnm hZ hl
  obtain ⟨hx, hb, hml, hown, hts, hr, hlocks, hK⟩ := id hC
  have hl : lv_has ls 3 [(0, .ref mk), (1, .int dd)] := hl
  have hZ : zz_Z g A s.heap [(mk, .inr (2, [.ref st, .ref ml, .int 0, .int 0])), (ml, .inl (g.2.1, 4, .inl (zz_l4 n0 n1 n2 n3)))] H locs := hZ
  refine lv_iconst (v := 0) hx hb dX3_hasLengthBelowZero_0 (by decide) ?_
  refine lv_istore_n (lv' := [(2, .int 0), (0, .ref mk), (1, .int dd)]) hx hb dX3_hasLengthBelowZero_1 rfl hl (by decide) rfl (fun ls hl => ?_)
  refine lv_iload_n hx hb dX3_hasLengthBelowZero_2 rfl (lv_at hl 0 rfl) ?_
  refine lv_iload_n hx hb dX3_hasLengthBelowZero_3 rfl (lv_at hl 2 rfl) ?_
  refine lv_icmp_ge (tgt := 29) hx hb dX3_hasLengthBelowZero_4 (by decide) (fun c1 => ?_) (fun c1 => ?_)
  · refine lv_iconst (v := 0) hx hb dX3_hasLengthBelowZero_29 (by decide) ?_
    exact zz_zret hC hZ (by decide) (⟨by show _ = _; rw [fn_co_hasNeg, if_pos c1], rfl⟩) (Nat.le_of_ble_eq_true rfl) (Nat.le_of_ble_eq_true rfl) dX3_hasLengthBelowZero_30
  · refine lv_iload_n hx hb dX3_hasLengthBelowZero_7 rfl (lv_at hl 0 rfl) ?_
    refine lv_iconst (v := 4) hx hb dX3_hasLengthBelowZero_8 (by decide) ?_
    refine lv_icmp_ge (tgt := 29) hx hb dX3_hasLengthBelowZero_9 (by decide) (fun c => absurd c (by decide)) (fun c2 => ?_)
    refine lv_aload_n hx hb dX3_hasLengthBelowZero_12 rfl (lv_at hl 1 rfl) ?_
    refine zz_get hC hZ 0 rfl zf_X3_9 rfl dX3_hasLengthBelowZero_13 ?_
    refine lv_iload_n hx hb dX3_hasLengthBelowZero_16 rfl (lv_at hl 0 rfl) ?_
    refine zz_iald hC hZ 1 rfl (by unfold vp_in; decide) dX3_hasLengthBelowZero_17 ?_
    refine zz_topi (v := n0) (by rw [zl_c0]; exact rfl) ?_
    refine lv_if_ge (tgt := 23) hx hb dX3_hasLengthBelowZero_18 (by decide) (fun c3 => ?_) (fun c3 => ?_)
    · refine lv_iinc (v := 1) (lv' := [(2, .int 1), (0, .ref mk), (1, .int dd)]) hx hb dX3_hasLengthBelowZero_23 hl (k := 0) rfl (by first | rfl | decide) (by decide) rfl (fun ls hl => ?_)
      refine lv_goto (tgt := 2) hx hb dX3_hasLengthBelowZero_26 (by decide) ?_
      refine lv_iload_n hx hb dX3_hasLengthBelowZero_2 rfl (lv_at hl 0 rfl) ?_
      refine lv_iload_n hx hb dX3_hasLengthBelowZero_3 rfl (lv_at hl 2 rfl) ?_
      refine lv_icmp_ge (tgt := 29) hx hb dX3_hasLengthBelowZero_4 (by decide) (fun c4 => ?_) (fun c4 => ?_)
      · refine lv_iconst (v := 0) hx hb dX3_hasLengthBelowZero_29 (by decide) ?_
        exact zz_zret hC hZ (by decide) (⟨by show _ = _; rw [fn_co_hasNeg, if_neg c1, if_pos c3, if_pos c4], rfl⟩) (Nat.le_of_ble_eq_true rfl) (Nat.le_of_ble_eq_true rfl) dX3_hasLengthBelowZero_30
      · refine lv_iload_n hx hb dX3_hasLengthBelowZero_7 rfl (lv_at hl 0 rfl) ?_
        refine lv_iconst (v := 4) hx hb dX3_hasLengthBelowZero_8 (by decide) ?_
        refine lv_icmp_ge (tgt := 29) hx hb dX3_hasLengthBelowZero_9 (by decide) (fun c => absurd c (by decide)) (fun c5 => ?_)
        refine lv_aload_n hx hb dX3_hasLengthBelowZero_12 rfl (lv_at hl 1 rfl) ?_
        refine zz_get hC hZ 0 rfl zf_X3_9 rfl dX3_hasLengthBelowZero_13 ?_
        refine lv_iload_n hx hb dX3_hasLengthBelowZero_16 rfl (lv_at hl 0 rfl) ?_
        refine zz_iald hC hZ 1 rfl (by unfold vp_in; decide) dX3_hasLengthBelowZero_17 ?_
        refine zz_topi (v := n1) (by rw [zl_c1]; exact rfl) ?_
        refine lv_if_ge (tgt := 23) hx hb dX3_hasLengthBelowZero_18 (by decide) (fun c6 => ?_) (fun c6 => ?_)
        · refine lv_iinc (v := 2) (lv' := [(2, .int 2), (0, .ref mk), (1, .int dd)]) hx hb dX3_hasLengthBelowZero_23 hl (k := 0) rfl (by first | rfl | decide) (by decide) rfl (fun ls hl => ?_)
          refine lv_goto (tgt := 2) hx hb dX3_hasLengthBelowZero_26 (by decide) ?_
          refine lv_iload_n hx hb dX3_hasLengthBelowZero_2 rfl (lv_at hl 0 rfl) ?_
          refine lv_iload_n hx hb dX3_hasLengthBelowZero_3 rfl (lv_at hl 2 rfl) ?_
          refine lv_icmp_ge (tgt := 29) hx hb dX3_hasLengthBelowZero_4 (by decide) (fun c7 => ?_) (fun c7 => ?_)
          · refine lv_iconst (v := 0) hx hb dX3_hasLengthBelowZero_29 (by decide) ?_
            exact zz_zret hC hZ (by decide) (⟨by show _ = _; rw [fn_co_hasNeg, if_neg c1, if_pos c3, if_neg c4, if_pos c6, if_pos c7], rfl⟩) (Nat.le_of_ble_eq_true rfl) (Nat.le_of_ble_eq_true rfl) dX3_hasLengthBelowZero_30
          · refine lv_iload_n hx hb dX3_hasLengthBelowZero_7 rfl (lv_at hl 0 rfl) ?_
            refine lv_iconst (v := 4) hx hb dX3_hasLengthBelowZero_8 (by decide) ?_
            refine lv_icmp_ge (tgt := 29) hx hb dX3_hasLengthBelowZero_9 (by decide) (fun c => absurd c (by decide)) (fun c8 => ?_)
            refine lv_aload_n hx hb dX3_hasLengthBelowZero_12 rfl (lv_at hl 1 rfl) ?_
            refine zz_get hC hZ 0 rfl zf_X3_9 rfl dX3_hasLengthBelowZero_13 ?_
            refine lv_iload_n hx hb dX3_hasLengthBelowZero_16 rfl (lv_at hl 0 rfl) ?_
            refine zz_iald hC hZ 1 rfl (by unfold vp_in; decide) dX3_hasLengthBelowZero_17 ?_
            refine zz_topi (v := n2) (by rw [zl_c2]; exact rfl) ?_
            refine lv_if_ge (tgt := 23) hx hb dX3_hasLengthBelowZero_18 (by decide) (fun c9 => ?_) (fun c9 => ?_)
            · refine lv_iinc (v := 3) (lv' := [(2, .int 3), (0, .ref mk), (1, .int dd)]) hx hb dX3_hasLengthBelowZero_23 hl (k := 0) rfl (by first | rfl | decide) (by decide) rfl (fun ls hl => ?_)
              refine lv_goto (tgt := 2) hx hb dX3_hasLengthBelowZero_26 (by decide) ?_
              refine lv_iload_n hx hb dX3_hasLengthBelowZero_2 rfl (lv_at hl 0 rfl) ?_
              refine lv_iload_n hx hb dX3_hasLengthBelowZero_3 rfl (lv_at hl 2 rfl) ?_
              refine lv_icmp_ge (tgt := 29) hx hb dX3_hasLengthBelowZero_4 (by decide) (fun c10 => ?_) (fun c10 => ?_)
              · refine lv_iconst (v := 0) hx hb dX3_hasLengthBelowZero_29 (by decide) ?_
                exact zz_zret hC hZ (by decide) (⟨by show _ = _; rw [fn_co_hasNeg, if_neg c1, if_pos c3, if_neg c4, if_pos c6, if_neg c7, if_pos c9, if_pos c10], rfl⟩) (Nat.le_of_ble_eq_true rfl) (Nat.le_of_ble_eq_true rfl) dX3_hasLengthBelowZero_30
              · refine lv_iload_n hx hb dX3_hasLengthBelowZero_7 rfl (lv_at hl 0 rfl) ?_
                refine lv_iconst (v := 4) hx hb dX3_hasLengthBelowZero_8 (by decide) ?_
                refine lv_icmp_ge (tgt := 29) hx hb dX3_hasLengthBelowZero_9 (by decide) (fun c => absurd c (by decide)) (fun c11 => ?_)
                refine lv_aload_n hx hb dX3_hasLengthBelowZero_12 rfl (lv_at hl 1 rfl) ?_
                refine zz_get hC hZ 0 rfl zf_X3_9 rfl dX3_hasLengthBelowZero_13 ?_
                refine lv_iload_n hx hb dX3_hasLengthBelowZero_16 rfl (lv_at hl 0 rfl) ?_
                refine zz_iald hC hZ 1 rfl (by unfold vp_in; decide) dX3_hasLengthBelowZero_17 ?_
                refine zz_topi (v := n3) (by rw [zl_c3]; exact rfl) ?_
                refine lv_if_ge (tgt := 23) hx hb dX3_hasLengthBelowZero_18 (by decide) (fun c12 => ?_) (fun c12 => ?_)
                · refine lv_iinc (v := 4) (lv' := [(2, .int 4), (0, .ref mk), (1, .int dd)]) hx hb dX3_hasLengthBelowZero_23 hl (k := 0) rfl (by first | rfl | decide) (by decide) rfl (fun ls hl => ?_)
                  refine lv_goto (tgt := 2) hx hb dX3_hasLengthBelowZero_26 (by decide) ?_
                  refine lv_iload_n hx hb dX3_hasLengthBelowZero_2 rfl (lv_at hl 0 rfl) ?_
                  refine lv_iload_n hx hb dX3_hasLengthBelowZero_3 rfl (lv_at hl 2 rfl) ?_
                  refine lv_icmp_ge (tgt := 29) hx hb dX3_hasLengthBelowZero_4 (by decide) (fun c13 => ?_) (fun c13 => ?_)
                  · refine lv_iconst (v := 0) hx hb dX3_hasLengthBelowZero_29 (by decide) ?_
                    exact zz_zret hC hZ (by decide) (⟨by show _ = _; rw [fn_co_hasNeg, if_neg c1, if_pos c3, if_neg c4, if_pos c6, if_neg c7, if_pos c9, if_neg c10, if_pos c12, if_pos c13], rfl⟩) (Nat.le_of_ble_eq_true rfl) (Nat.le_of_ble_eq_true rfl) dX3_hasLengthBelowZero_30
                  · refine lv_iload_n hx hb dX3_hasLengthBelowZero_7 rfl (lv_at hl 0 rfl) ?_
                    refine lv_iconst (v := 4) hx hb dX3_hasLengthBelowZero_8 (by decide) ?_
                    refine lv_icmp_ge (tgt := 29) hx hb dX3_hasLengthBelowZero_9 (by decide) (fun c14 => ?_) (fun c => absurd (by decide) c)
                    refine lv_iconst (v := 0) hx hb dX3_hasLengthBelowZero_29 (by decide) ?_
                    exact zz_zret hC hZ (by decide) (⟨by show _ = _; rw [fn_co_hasNeg, if_neg c1, if_pos c3, if_neg c4, if_pos c6, if_neg c7, if_pos c9, if_neg c10, if_pos c12, if_neg c13], rfl⟩) (Nat.le_of_ble_eq_true rfl) (Nat.le_of_ble_eq_true rfl) dX3_hasLengthBelowZero_30
                · refine lv_iconst (v := 1) hx hb dX3_hasLengthBelowZero_21 (by decide) ?_
                  exact zz_zret hC hZ (by decide) (⟨by show _ = _; rw [fn_co_hasNeg, if_neg c1, if_pos c3, if_neg c4, if_pos c6, if_neg c7, if_pos c9, if_neg c10, if_neg c12], rfl⟩) (Nat.le_of_ble_eq_true rfl) (Nat.le_of_ble_eq_true rfl) dX3_hasLengthBelowZero_22
            · refine lv_iconst (v := 1) hx hb dX3_hasLengthBelowZero_21 (by decide) ?_
              exact zz_zret hC hZ (by decide) (⟨by show _ = _; rw [fn_co_hasNeg, if_neg c1, if_pos c3, if_neg c4, if_pos c6, if_neg c7, if_neg c9], rfl⟩) (Nat.le_of_ble_eq_true rfl) (Nat.le_of_ble_eq_true rfl) dX3_hasLengthBelowZero_22
        · refine lv_iconst (v := 1) hx hb dX3_hasLengthBelowZero_21 (by decide) ?_
          exact zz_zret hC hZ (by decide) (⟨by show _ = _; rw [fn_co_hasNeg, if_neg c1, if_pos c3, if_neg c4, if_neg c6], rfl⟩) (Nat.le_of_ble_eq_true rfl) (Nat.le_of_ble_eq_true rfl) dX3_hasLengthBelowZero_22
    · refine lv_iconst (v := 1) hx hb dX3_hasLengthBelowZero_21 (by decide) ?_
      exact zz_zret hC hZ (by decide) (⟨by show _ = _; rw [fn_co_hasNeg, if_neg c1, if_neg c3], rfl⟩) (Nat.le_of_ble_eq_true rfl) (Nat.le_of_ble_eq_true rfl) dX3_hasLengthBelowZero_22
theorem zl_fits01 (a b : Int32) (x y : Int64) : fn_co_fits a b x y = 0 ∨ fn_co_fits a b x y = 1 := by
  unfold fn_co_fits; split
  · exact Or.inl rfl
  · split
    · exact Or.inl rfl
    · exact Or.inr rfl
theorem dX3_gridFits_0 : decode cX3_gridFits 0 = .ok (.lconst 0, 1) := by decide +kernel
theorem dX3_gridFits_1 : decode cX3_gridFits 1 = .ok (.lstore_n 2, 1) := by decide +kernel
theorem dX3_gridFits_2 : decode cX3_gridFits 2 = .ok (.lconst 0, 1) := by decide +kernel
theorem dX3_gridFits_3 : decode cX3_gridFits 3 = .ok (.lstore 4, 2) := by decide +kernel
theorem dX3_gridFits_5 : decode cX3_gridFits 5 = .ok (.lconst 1, 1) := by decide +kernel
theorem dX3_gridFits_6 : decode cX3_gridFits 6 = .ok (.lstore 6, 2) := by decide +kernel
theorem dX3_gridFits_8 : decode cX3_gridFits 8 = .ok (.iconst 0, 1) := by decide +kernel
theorem dX3_gridFits_9 : decode cX3_gridFits 9 = .ok (.istore 8, 2) := by decide +kernel
theorem dX3_gridFits_11 : decode cX3_gridFits 11 = .ok (.iload 8, 2) := by decide +kernel
theorem dX3_gridFits_13 : decode cX3_gridFits 13 = .ok (.iload_n 1, 1) := by decide +kernel
theorem dX3_gridFits_14 : decode cX3_gridFits 14 = .ok (.if_icmp .ge 55, 3) := by decide +kernel
theorem dX3_gridFits_69 : decode cX3_gridFits 69 = .ok (.aload_n 0, 1) := by decide +kernel
theorem dX3_gridFits_70 : decode cX3_gridFits 70 = .ok (.getfield 15, 3) := by decide +kernel
theorem zf_X3_15 : zz_f RX3 15 2 0 := ⟨RX3, TX3, 4, rfl, zi_X3, by decide, zk_96⟩
theorem dX3_gridFits_73 : decode cX3_gridFits 73 = .ok (.lload_n 2, 1) := by decide +kernel
theorem dX3_gridFits_74 : decode cX3_gridFits 74 = .ok (.lload 4, 2) := by decide +kernel
theorem dX3_gridFits_76 : decode cX3_gridFits 76 = .ok (.invokevirtual 19, 3) := by decide +kernel
theorem zk_283 : Cond.methodLink RX3 19 yX6_fits ∈ zz_w := zz_in (List.mem_append_right _ (List.mem_append_right _ (List.mem_append_left _ (List.mem_of_getElem? (i := 43) (by decide +kernel))))) rfl
theorem zc_X3_19 : zz_cV RX3 19 yX6_fits cX6_fits 5 (some .boolean) 2 := ⟨⟨zk_283, zk_243, zk_2, by decide, by decide, by decide +kernel⟩, zk_241, zk_242⟩
theorem dX3_gridFits_79 : decode cX3_gridFits 79 = .ok (.ireturn, 1) := by decide +kernel
theorem dX3_gridFits_17 : decode cX3_gridFits 17 = .ok (.iload 8, 2) := by decide +kernel
theorem dX3_gridFits_19 : decode cX3_gridFits 19 = .ok (.iconst 4, 1) := by decide +kernel
theorem dX3_gridFits_20 : decode cX3_gridFits 20 = .ok (.if_icmp .ge 49, 3) := by decide +kernel
theorem dX3_gridFits_23 : decode cX3_gridFits 23 = .ok (.aload_n 0, 1) := by decide +kernel
theorem dX3_gridFits_24 : decode cX3_gridFits 24 = .ok (.getfield 9, 3) := by decide +kernel
theorem dX3_gridFits_27 : decode cX3_gridFits 27 = .ok (.iload 8, 2) := by decide +kernel
theorem dX3_gridFits_29 : decode cX3_gridFits 29 = .ok (.iaload, 1) := by decide +kernel
theorem dX3_gridFits_30 : decode cX3_gridFits 30 = .ok (.sipush 200, 3) := by decide +kernel
theorem dX3_gridFits_33 : decode cX3_gridFits 33 = .ok (.if_icmp .le 5, 3) := by decide +kernel
theorem dX3_gridFits_38 : decode cX3_gridFits 38 = .ok (.lload_n 2, 1) := by decide +kernel
theorem dX3_gridFits_39 : decode cX3_gridFits 39 = .ok (.lload 6, 2) := by decide +kernel
theorem dX3_gridFits_41 : decode cX3_gridFits 41 = .ok (.ladd, 1) := by decide +kernel
theorem dX3_gridFits_42 : decode cX3_gridFits 42 = .ok (.lstore_n 2, 1) := by decide +kernel
theorem dX3_gridFits_43 : decode cX3_gridFits 43 = .ok (.lload 6, 2) := by decide +kernel
theorem dX3_gridFits_45 : decode cX3_gridFits 45 = .ok (.aload_n 0, 1) := by decide +kernel
theorem dX3_gridFits_46 : decode cX3_gridFits 46 = .ok (.getfield 9, 3) := by decide +kernel
theorem dX3_gridFits_49 : decode cX3_gridFits 49 = .ok (.iload 8, 2) := by decide +kernel
theorem dX3_gridFits_51 : decode cX3_gridFits 51 = .ok (.iaload, 1) := by decide +kernel
theorem dX3_gridFits_52 : decode cX3_gridFits 52 = .ok (.i2l, 1) := by decide +kernel
theorem dX3_gridFits_53 : decode cX3_gridFits 53 = .ok (.lmul, 1) := by decide +kernel
theorem dX3_gridFits_54 : decode cX3_gridFits 54 = .ok (.lstore 6, 2) := by decide +kernel
theorem dX3_gridFits_56 : decode cX3_gridFits 56 = .ok (.lload 4, 2) := by decide +kernel
theorem dX3_gridFits_58 : decode cX3_gridFits 58 = .ok (.lload 6, 2) := by decide +kernel
theorem dX3_gridFits_60 : decode cX3_gridFits 60 = .ok (.ladd, 1) := by decide +kernel
theorem dX3_gridFits_61 : decode cX3_gridFits 61 = .ok (.lstore 4, 2) := by decide +kernel
theorem dX3_gridFits_63 : decode cX3_gridFits 63 = .ok (.iinc 8 1, 3) := by decide +kernel
theorem dX3_gridFits_66 : decode cX3_gridFits 66 = .ok (.goto (-55), 3) := by decide +kernel
theorem dX3_gridFits_36 : decode cX3_gridFits 36 = .ok (.iconst 0, 1) := by decide +kernel
theorem dX3_gridFits_37 : decode cX3_gridFits 37 = .ok (.ireturn, 1) := by decide +kernel
def fn_co_gridFits (n0 : Int32) (n1 : Int32) (n2 : Int32) (n3 : Int32) (dd : Int32) : Int32 := (if dd ≤ 0 then (fn_co_fits 0 0 0 0) else (if n0 ≤ 200 then (if dd ≤ 1 then (fn_co_fits 0 0 1 (0 + (1 * n0.toInt64))) else (if n1 ≤ 200 then (if dd ≤ 2 then (fn_co_fits 0 0 (1 + (1 * n0.toInt64)) ((0 + (1 * n0.toInt64)) + ((1 * n0.toInt64) * n1.toInt64))) else (if n2 ≤ 200 then (if dd ≤ 3 then (fn_co_fits 0 0 ((1 + (1 * n0.toInt64)) + ((1 * n0.toInt64) * n1.toInt64)) (((0 + (1 * n0.toInt64)) + ((1 * n0.toInt64) * n1.toInt64)) + (((1 * n0.toInt64) * n1.toInt64) * n2.toInt64))) else (if n3 ≤ 200 then (if dd ≤ 4 then (fn_co_fits 0 0 (((1 + (1 * n0.toInt64)) + ((1 * n0.toInt64) * n1.toInt64)) + (((1 * n0.toInt64) * n1.toInt64) * n2.toInt64)) ((((0 + (1 * n0.toInt64)) + ((1 * n0.toInt64) * n1.toInt64)) + (((1 * n0.toInt64) * n1.toInt64) * n2.toInt64)) + ((((1 * n0.toInt64) * n1.toInt64) * n2.toInt64) * n3.toInt64))) else (fn_co_fits 0 0 (((1 + (1 * n0.toInt64)) + ((1 * n0.toInt64) * n1.toInt64)) + (((1 * n0.toInt64) * n1.toInt64) * n2.toInt64)) ((((0 + (1 * n0.toInt64)) + ((1 * n0.toInt64) * n1.toInt64)) + (((1 * n0.toInt64) * n1.toInt64) * n2.toInt64)) + ((((1 * n0.toInt64) * n1.toInt64) * n2.toInt64) * n3.toInt64)))) else 0)) else 0)) else 0)) else 0))
abbrev rm_co_gridFits : Room := { frames := 1, cells := 0, slots := 0, locals := 24 }
abbrev po_co_gridFits (g : zz_G) (mk : Nat) (st : Nat) (ml : Nat) (kd : Nat) (dp : Nat) (cl : Nat) (sa : Nat) (ln : Nat) (bt : Nat) (pn : Nat) (bf : Nat) (n0 : Int32) (n1 : Int32) (n2 : Int32) (n3 : Int32) (dd : Int32) : Int32 → va_W → Prop := fun (r : Int32) (u : va_W) => r = fn_co_gridFits n0 n1 n2 n3 dd ∧ u = [(mk, .inr (2, [.ref st, .ref ml, .int 0, .int 0])), (ml, .inl (g.2.1, 4, .inl (zz_l4 n0 n1 n2 n3))), (st, .inr (5, [.int 0, .int 0, .ref kd, .ref dp, .ref cl, .ref sa, .ref ln, .ref bt, .ref pn, .ref bf]))]
set_option maxHeartbeats 4000000 in
set_option maxRecDepth 100000 in
theorem co_gridFits (g : zz_G) (mk : Nat) (st : Nat) (ml : Nat) (kd : Nat) (dp : Nat) (cl : Nat) (sa : Nat) (ln : Nat) (bt : Nat) (pn : Nat) (bf : Nat) (n0 : Int32) (n1 : Int32) (n2 : Int32) (n3 : Int32) (dd : Int32) : zz_I g yX3_gridFits (.code yX3_gridFits cX3_gridFits 9 (some .boolean)) rm_co_gridFits [.ref mk, .int dd] [(mk, .inr (2, [.ref st, .ref ml, .int 0, .int 0])), (ml, .inl (g.2.1, 4, .inl (zz_l4 n0 n1 n2 n3))), (st, .inr (5, [.int 0, .int 0, .ref kd, .ref dp, .ref cl, .ref sa, .ref ln, .ref bt, .ref pn, .ref bf]))] (po_co_gridFits g mk st ml kd dp cl sa ln bt pn bf n0 n1 n2 n3 dd) := by
  refine zz_I.intro (own := RX3) (cc := cX3_gridFits) (nL := 9) (by decide) rfl (Nat.le_of_ble_eq_true rfl) ?_
  intro p l e s m args below meth c A H locs ls hC hnm hZ hl
  obtain ⟨hx, hb, hml, hown, hts, hr, hlocks, hK⟩ := id hC
  have hl : lv_has ls 9 [(0, .ref mk), (1, .int dd)] := hl
  have hZ : zz_Z g A s.heap [(mk, .inr (2, [.ref st, .ref ml, .int 0, .int 0])), (ml, .inl (g.2.1, 4, .inl (zz_l4 n0 n1 n2 n3))), (st, .inr (5, [.int 0, .int 0, .ref kd, .ref dp, .ref cl, .ref sa, .ref ln, .ref bt, .ref pn, .ref bf]))] H locs := hZ
  refine lv_lconst (v := 0) hx hb dX3_gridFits_0 (by decide) ?_
  refine lv_lstore_n (lv' := [(2, .long 0), (0, .ref mk), (1, .int dd)]) hx hb dX3_gridFits_1 rfl hl (by decide) rfl (fun ls hl => ?_)
  refine lv_lconst (v := 0) hx hb dX3_gridFits_2 (by decide) ?_
  refine lv_lstore (lv' := [(4, .long 0), (2, .long 0), (0, .ref mk), (1, .int dd)]) hx hb dX3_gridFits_3 hl (by decide) rfl (fun ls hl => ?_)
  refine lv_lconst (v := 1) hx hb dX3_gridFits_5 (by decide) ?_
  refine lv_lstore (lv' := [(6, .long 1), (4, .long 0), (2, .long 0), (0, .ref mk), (1, .int dd)]) hx hb dX3_gridFits_6 hl (by decide) rfl (fun ls hl => ?_)
  refine lv_iconst (v := 0) hx hb dX3_gridFits_8 (by decide) ?_
  refine lv_istore (lv' := [(8, .int 0), (6, .long 1), (4, .long 0), (2, .long 0), (0, .ref mk), (1, .int dd)]) hx hb dX3_gridFits_9 hl (by decide) rfl (fun ls hl => ?_)
  refine lv_iload hx hb dX3_gridFits_11 (lv_at hl 0 rfl) ?_
  refine lv_iload_n hx hb dX3_gridFits_13 rfl (lv_at hl 5 rfl) ?_
  refine lv_icmp_ge (tgt := 69) hx hb dX3_gridFits_14 (by decide) (fun c1 => ?_) (fun c1 => ?_)
  · refine lv_aload_n hx hb dX3_gridFits_69 rfl (lv_at hl 4 rfl) ?_
    refine zz_get hC hZ 0 rfl zf_X3_15 rfl dX3_gridFits_70 ?_
    refine lv_lload_n hx hb dX3_gridFits_73 rfl (lv_at hl 3 rfl) ?_
    refine lv_lload hx hb dX3_gridFits_74 (lv_at hl 2 rfl) ?_
    refine zz_iV (As := [.long 0, .long 0]) (wc := [(st, .inr (5, [.int 0, .int 0, .ref kd, .ref dp, .ref cl, .ref sa, .ref ln, .ref bt, .ref pn, .ref bf]))]) (wr := [(mk, .inr (2, [.ref st, .ref ml, .int 0, .int 0])), (ml, .inl (g.2.1, 4, .inl (zz_l4 n0 n1 n2 n3)))]) (rest := []) hC hZ hl zc_X3_19 (co_fits g st kd dp cl sa ln bt pn bf 0 0 0 0) [2] [0, 1] rfl rfl (by decide) (ci := 5) (q0 := 0) rfl rfl rfl rfl (Nat.le_of_ble_eq_true rfl) ⟨⟨Nat.le_of_ble_eq_true rfl, Nat.le_of_ble_eq_true rfl⟩, Nat.le_of_ble_eq_true rfl, Nat.le_of_ble_eq_true rfl⟩ dX3_gridFits_76 (fun r2 u3 H locs hp hZ => ?_)
    obtain ⟨rfl, rfl⟩ := hp
    have hZ : zz_Z g A s.heap [(mk, .inr (2, [.ref st, .ref ml, .int 0, .int 0])), (ml, .inl (g.2.1, 4, .inl (zz_l4 n0 n1 n2 n3))), (st, .inr (5, [.int 0, .int 0, .ref kd, .ref dp, .ref cl, .ref sa, .ref ln, .ref bt, .ref pn, .ref bf]))] H locs := hZ
    exact zz_zret hC hZ (zl_b01 (zl_fits01 _ _ _ _)) (⟨by show _ = _; rw [fn_co_gridFits, if_pos c1], rfl⟩) (Nat.le_of_ble_eq_true rfl) (Nat.le_of_ble_eq_true rfl) dX3_gridFits_79
  · refine lv_iload hx hb dX3_gridFits_17 (lv_at hl 0 rfl) ?_
    refine lv_iconst (v := 4) hx hb dX3_gridFits_19 (by decide) ?_
    refine lv_icmp_ge (tgt := 69) hx hb dX3_gridFits_20 (by decide) (fun c => absurd c (by decide)) (fun c4 => ?_)
    refine lv_aload_n hx hb dX3_gridFits_23 rfl (lv_at hl 4 rfl) ?_
    refine zz_get hC hZ 0 rfl zf_X3_9 rfl dX3_gridFits_24 ?_
    refine lv_iload hx hb dX3_gridFits_27 (lv_at hl 0 rfl) ?_
    refine zz_iald hC hZ 1 rfl (by unfold vp_in; decide) dX3_gridFits_29 ?_
    refine zz_topi (v := n0) (by rw [zl_c0]; exact rfl) ?_
    refine lv_sipush (v := 200) hx hb dX3_gridFits_30 (by decide) ?_
    refine lv_icmp_le (tgt := 38) hx hb dX3_gridFits_33 (by decide) (fun c5 => ?_) (fun c5 => ?_)
    · refine lv_lload_n hx hb dX3_gridFits_38 rfl (lv_at hl 3 rfl) ?_
      refine lv_lload hx hb dX3_gridFits_39 (lv_at hl 1 rfl) ?_
      refine lv_ladd hx hb dX3_gridFits_41 ?_
      refine zz_topl (v := 1) (by decide) ?_
      refine lv_lstore_n (lv' := [(2, .long 1), (8, .int 0), (6, .long 1), (4, .long 0), (0, .ref mk), (1, .int dd)]) hx hb dX3_gridFits_42 rfl hl (by decide) rfl (fun ls hl => ?_)
      refine lv_lload hx hb dX3_gridFits_43 (lv_at hl 2 rfl) ?_
      refine lv_aload_n hx hb dX3_gridFits_45 rfl (lv_at hl 4 rfl) ?_
      refine zz_get hC hZ 0 rfl zf_X3_9 rfl dX3_gridFits_46 ?_
      refine lv_iload hx hb dX3_gridFits_49 (lv_at hl 1 rfl) ?_
      refine zz_iald hC hZ 1 rfl (by unfold vp_in; decide) dX3_gridFits_51 ?_
      refine zz_topi (v := n0) (by rw [zl_c0]; exact rfl) ?_
      refine lv_i2l hx hb dX3_gridFits_52 rfl ?_
      refine lv_lmul hx hb dX3_gridFits_53 ?_
      refine lv_lstore (lv' := [(6, .long (1 * n0.toInt64)), (2, .long 1), (8, .int 0), (4, .long 0), (0, .ref mk), (1, .int dd)]) hx hb dX3_gridFits_54 hl (by decide) rfl (fun ls hl => ?_)
      refine lv_lload hx hb dX3_gridFits_56 (lv_at hl 3 rfl) ?_
      refine lv_lload hx hb dX3_gridFits_58 (lv_at hl 0 rfl) ?_
      refine lv_ladd hx hb dX3_gridFits_60 ?_
      refine lv_lstore (lv' := [(4, .long (0 + (1 * n0.toInt64))), (6, .long (1 * n0.toInt64)), (2, .long 1), (8, .int 0), (0, .ref mk), (1, .int dd)]) hx hb dX3_gridFits_61 hl (by decide) rfl (fun ls hl => ?_)
      refine lv_iinc (v := 1) (lv' := [(8, .int 1), (4, .long (0 + (1 * n0.toInt64))), (6, .long (1 * n0.toInt64)), (2, .long 1), (0, .ref mk), (1, .int dd)]) hx hb dX3_gridFits_63 hl (k := 3) rfl (by first | rfl | decide) (by decide) rfl (fun ls hl => ?_)
      refine lv_goto (tgt := 11) hx hb dX3_gridFits_66 (by decide) ?_
      refine lv_iload hx hb dX3_gridFits_11 (lv_at hl 0 rfl) ?_
      refine lv_iload_n hx hb dX3_gridFits_13 rfl (lv_at hl 5 rfl) ?_
      refine lv_icmp_ge (tgt := 69) hx hb dX3_gridFits_14 (by decide) (fun c6 => ?_) (fun c6 => ?_)
      · refine lv_aload_n hx hb dX3_gridFits_69 rfl (lv_at hl 4 rfl) ?_
        refine zz_get hC hZ 0 rfl zf_X3_15 rfl dX3_gridFits_70 ?_
        refine lv_lload_n hx hb dX3_gridFits_73 rfl (lv_at hl 3 rfl) ?_
        refine lv_lload hx hb dX3_gridFits_74 (lv_at hl 1 rfl) ?_
        refine zz_iV (As := [.long 1, .long (0 + (1 * n0.toInt64))]) (wc := [(st, .inr (5, [.int 0, .int 0, .ref kd, .ref dp, .ref cl, .ref sa, .ref ln, .ref bt, .ref pn, .ref bf]))]) (wr := [(mk, .inr (2, [.ref st, .ref ml, .int 0, .int 0])), (ml, .inl (g.2.1, 4, .inl (zz_l4 n0 n1 n2 n3)))]) (rest := []) hC hZ hl zc_X3_19 (co_fits g st kd dp cl sa ln bt pn bf 0 0 1 (0 + (1 * n0.toInt64))) [2] [0, 1] rfl rfl (by decide) (ci := 5) (q0 := 0) rfl rfl rfl rfl (Nat.le_of_ble_eq_true rfl) ⟨⟨Nat.le_of_ble_eq_true rfl, Nat.le_of_ble_eq_true rfl⟩, Nat.le_of_ble_eq_true rfl, Nat.le_of_ble_eq_true rfl⟩ dX3_gridFits_76 (fun r7 u8 H locs hp hZ => ?_)
        obtain ⟨rfl, rfl⟩ := hp
        have hZ : zz_Z g A s.heap [(mk, .inr (2, [.ref st, .ref ml, .int 0, .int 0])), (ml, .inl (g.2.1, 4, .inl (zz_l4 n0 n1 n2 n3))), (st, .inr (5, [.int 0, .int 0, .ref kd, .ref dp, .ref cl, .ref sa, .ref ln, .ref bt, .ref pn, .ref bf]))] H locs := hZ
        exact zz_zret hC hZ (zl_b01 (zl_fits01 _ _ _ _)) (⟨by show _ = _; rw [fn_co_gridFits, if_neg c1, if_pos c5, if_pos c6], rfl⟩) (Nat.le_of_ble_eq_true rfl) (Nat.le_of_ble_eq_true rfl) dX3_gridFits_79
      · refine lv_iload hx hb dX3_gridFits_17 (lv_at hl 0 rfl) ?_
        refine lv_iconst (v := 4) hx hb dX3_gridFits_19 (by decide) ?_
        refine lv_icmp_ge (tgt := 69) hx hb dX3_gridFits_20 (by decide) (fun c => absurd c (by decide)) (fun c9 => ?_)
        refine lv_aload_n hx hb dX3_gridFits_23 rfl (lv_at hl 4 rfl) ?_
        refine zz_get hC hZ 0 rfl zf_X3_9 rfl dX3_gridFits_24 ?_
        refine lv_iload hx hb dX3_gridFits_27 (lv_at hl 0 rfl) ?_
        refine zz_iald hC hZ 1 rfl (by unfold vp_in; decide) dX3_gridFits_29 ?_
        refine zz_topi (v := n1) (by rw [zl_c1]; exact rfl) ?_
        refine lv_sipush (v := 200) hx hb dX3_gridFits_30 (by decide) ?_
        refine lv_icmp_le (tgt := 38) hx hb dX3_gridFits_33 (by decide) (fun c10 => ?_) (fun c10 => ?_)
        · refine lv_lload_n hx hb dX3_gridFits_38 rfl (lv_at hl 3 rfl) ?_
          refine lv_lload hx hb dX3_gridFits_39 (lv_at hl 2 rfl) ?_
          refine lv_ladd hx hb dX3_gridFits_41 ?_
          refine lv_lstore_n (lv' := [(2, .long (1 + (1 * n0.toInt64))), (8, .int 1), (4, .long (0 + (1 * n0.toInt64))), (6, .long (1 * n0.toInt64)), (0, .ref mk), (1, .int dd)]) hx hb dX3_gridFits_42 rfl hl (by decide) rfl (fun ls hl => ?_)
          refine lv_lload hx hb dX3_gridFits_43 (lv_at hl 3 rfl) ?_
          refine lv_aload_n hx hb dX3_gridFits_45 rfl (lv_at hl 4 rfl) ?_
          refine zz_get hC hZ 0 rfl zf_X3_9 rfl dX3_gridFits_46 ?_
          refine lv_iload hx hb dX3_gridFits_49 (lv_at hl 1 rfl) ?_
          refine zz_iald hC hZ 1 rfl (by unfold vp_in; decide) dX3_gridFits_51 ?_
          refine zz_topi (v := n1) (by rw [zl_c1]; exact rfl) ?_
          refine lv_i2l hx hb dX3_gridFits_52 rfl ?_
          refine lv_lmul hx hb dX3_gridFits_53 ?_
          refine lv_lstore (lv' := [(6, .long ((1 * n0.toInt64) * n1.toInt64)), (2, .long (1 + (1 * n0.toInt64))), (8, .int 1), (4, .long (0 + (1 * n0.toInt64))), (0, .ref mk), (1, .int dd)]) hx hb dX3_gridFits_54 hl (by decide) rfl (fun ls hl => ?_)
          refine lv_lload hx hb dX3_gridFits_56 (lv_at hl 3 rfl) ?_
          refine lv_lload hx hb dX3_gridFits_58 (lv_at hl 0 rfl) ?_
          refine lv_ladd hx hb dX3_gridFits_60 ?_
          refine lv_lstore (lv' := [(4, .long ((0 + (1 * n0.toInt64)) + ((1 * n0.toInt64) * n1.toInt64))), (6, .long ((1 * n0.toInt64) * n1.toInt64)), (2, .long (1 + (1 * n0.toInt64))), (8, .int 1), (0, .ref mk), (1, .int dd)]) hx hb dX3_gridFits_61 hl (by decide) rfl (fun ls hl => ?_)
          refine lv_iinc (v := 2) (lv' := [(8, .int 2), (4, .long ((0 + (1 * n0.toInt64)) + ((1 * n0.toInt64) * n1.toInt64))), (6, .long ((1 * n0.toInt64) * n1.toInt64)), (2, .long (1 + (1 * n0.toInt64))), (0, .ref mk), (1, .int dd)]) hx hb dX3_gridFits_63 hl (k := 3) rfl (by first | rfl | decide) (by decide) rfl (fun ls hl => ?_)
          refine lv_goto (tgt := 11) hx hb dX3_gridFits_66 (by decide) ?_
          refine lv_iload hx hb dX3_gridFits_11 (lv_at hl 0 rfl) ?_
          refine lv_iload_n hx hb dX3_gridFits_13 rfl (lv_at hl 5 rfl) ?_
          refine lv_icmp_ge (tgt := 69) hx hb dX3_gridFits_14 (by decide) (fun c11 => ?_) (fun c11 => ?_)
          · refine lv_aload_n hx hb dX3_gridFits_69 rfl (lv_at hl 4 rfl) ?_
            refine zz_get hC hZ 0 rfl zf_X3_15 rfl dX3_gridFits_70 ?_
            refine lv_lload_n hx hb dX3_gridFits_73 rfl (lv_at hl 3 rfl) ?_
            refine lv_lload hx hb dX3_gridFits_74 (lv_at hl 1 rfl) ?_
            refine zz_iV (As := [.long (1 + (1 * n0.toInt64)), .long ((0 + (1 * n0.toInt64)) + ((1 * n0.toInt64) * n1.toInt64))]) (wc := [(st, .inr (5, [.int 0, .int 0, .ref kd, .ref dp, .ref cl, .ref sa, .ref ln, .ref bt, .ref pn, .ref bf]))]) (wr := [(mk, .inr (2, [.ref st, .ref ml, .int 0, .int 0])), (ml, .inl (g.2.1, 4, .inl (zz_l4 n0 n1 n2 n3)))]) (rest := []) hC hZ hl zc_X3_19 (co_fits g st kd dp cl sa ln bt pn bf 0 0 (1 + (1 * n0.toInt64)) ((0 + (1 * n0.toInt64)) + ((1 * n0.toInt64) * n1.toInt64))) [2] [0, 1] rfl rfl (by decide) (ci := 5) (q0 := 0) rfl rfl rfl rfl (Nat.le_of_ble_eq_true rfl) ⟨⟨Nat.le_of_ble_eq_true rfl, Nat.le_of_ble_eq_true rfl⟩, Nat.le_of_ble_eq_true rfl, Nat.le_of_ble_eq_true rfl⟩ dX3_gridFits_76 (fun r12 u13 H locs hp hZ => ?_)
            obtain ⟨rfl, rfl⟩ := hp
            have hZ : zz_Z g A s.heap [(mk, .inr (2, [.ref st, .ref ml, .int 0, .int 0])), (ml, .inl (g.2.1, 4, .inl (zz_l4 n0 n1 n2 n3))), (st, .inr (5, [.int 0, .int 0, .ref kd, .ref dp, .ref cl, .ref sa, .ref ln, .ref bt, .ref pn, .ref bf]))] H locs := hZ
            exact zz_zret hC hZ (zl_b01 (zl_fits01 _ _ _ _)) (⟨by show _ = _; rw [fn_co_gridFits, if_neg c1, if_pos c5, if_neg c6, if_pos c10, if_pos c11], rfl⟩) (Nat.le_of_ble_eq_true rfl) (Nat.le_of_ble_eq_true rfl) dX3_gridFits_79
          · refine lv_iload hx hb dX3_gridFits_17 (lv_at hl 0 rfl) ?_
            refine lv_iconst (v := 4) hx hb dX3_gridFits_19 (by decide) ?_
            refine lv_icmp_ge (tgt := 69) hx hb dX3_gridFits_20 (by decide) (fun c => absurd c (by decide)) (fun c14 => ?_)
            refine lv_aload_n hx hb dX3_gridFits_23 rfl (lv_at hl 4 rfl) ?_
            refine zz_get hC hZ 0 rfl zf_X3_9 rfl dX3_gridFits_24 ?_
            refine lv_iload hx hb dX3_gridFits_27 (lv_at hl 0 rfl) ?_
            refine zz_iald hC hZ 1 rfl (by unfold vp_in; decide) dX3_gridFits_29 ?_
            refine zz_topi (v := n2) (by rw [zl_c2]; exact rfl) ?_
            refine lv_sipush (v := 200) hx hb dX3_gridFits_30 (by decide) ?_
            refine lv_icmp_le (tgt := 38) hx hb dX3_gridFits_33 (by decide) (fun c15 => ?_) (fun c15 => ?_)
            · refine lv_lload_n hx hb dX3_gridFits_38 rfl (lv_at hl 3 rfl) ?_
              refine lv_lload hx hb dX3_gridFits_39 (lv_at hl 2 rfl) ?_
              refine lv_ladd hx hb dX3_gridFits_41 ?_
              refine lv_lstore_n (lv' := [(2, .long ((1 + (1 * n0.toInt64)) + ((1 * n0.toInt64) * n1.toInt64))), (8, .int 2), (4, .long ((0 + (1 * n0.toInt64)) + ((1 * n0.toInt64) * n1.toInt64))), (6, .long ((1 * n0.toInt64) * n1.toInt64)), (0, .ref mk), (1, .int dd)]) hx hb dX3_gridFits_42 rfl hl (by decide) rfl (fun ls hl => ?_)
              refine lv_lload hx hb dX3_gridFits_43 (lv_at hl 3 rfl) ?_
              refine lv_aload_n hx hb dX3_gridFits_45 rfl (lv_at hl 4 rfl) ?_
              refine zz_get hC hZ 0 rfl zf_X3_9 rfl dX3_gridFits_46 ?_
              refine lv_iload hx hb dX3_gridFits_49 (lv_at hl 1 rfl) ?_
              refine zz_iald hC hZ 1 rfl (by unfold vp_in; decide) dX3_gridFits_51 ?_
              refine zz_topi (v := n2) (by rw [zl_c2]; exact rfl) ?_
              refine lv_i2l hx hb dX3_gridFits_52 rfl ?_
              refine lv_lmul hx hb dX3_gridFits_53 ?_
              refine lv_lstore (lv' := [(6, .long (((1 * n0.toInt64) * n1.toInt64) * n2.toInt64)), (2, .long ((1 + (1 * n0.toInt64)) + ((1 * n0.toInt64) * n1.toInt64))), (8, .int 2), (4, .long ((0 + (1 * n0.toInt64)) + ((1 * n0.toInt64) * n1.toInt64))), (0, .ref mk), (1, .int dd)]) hx hb dX3_gridFits_54 hl (by decide) rfl (fun ls hl => ?_)
              refine lv_lload hx hb dX3_gridFits_56 (lv_at hl 3 rfl) ?_
              refine lv_lload hx hb dX3_gridFits_58 (lv_at hl 0 rfl) ?_
              refine lv_ladd hx hb dX3_gridFits_60 ?_
              refine lv_lstore (lv' := [(4, .long (((0 + (1 * n0.toInt64)) + ((1 * n0.toInt64) * n1.toInt64)) + (((1 * n0.toInt64) * n1.toInt64) * n2.toInt64))), (6, .long (((1 * n0.toInt64) * n1.toInt64) * n2.toInt64)), (2, .long ((1 + (1 * n0.toInt64)) + ((1 * n0.toInt64) * n1.toInt64))), (8, .int 2), (0, .ref mk), (1, .int dd)]) hx hb dX3_gridFits_61 hl (by decide) rfl (fun ls hl => ?_)
              refine lv_iinc (v := 3) (lv' := [(8, .int 3), (4, .long (((0 + (1 * n0.toInt64)) + ((1 * n0.toInt64) * n1.toInt64)) + (((1 * n0.toInt64) * n1.toInt64) * n2.toInt64))), (6, .long (((1 * n0.toInt64) * n1.toInt64) * n2.toInt64)), (2, .long ((1 + (1 * n0.toInt64)) + ((1 * n0.toInt64) * n1.toInt64))), (0, .ref mk), (1, .int dd)]) hx hb dX3_gridFits_63 hl (k := 3) rfl (by first | rfl | decide) (by decide) rfl (fun ls hl => ?_)
              refine lv_goto (tgt := 11) hx hb dX3_gridFits_66 (by decide) ?_
              refine lv_iload hx hb dX3_gridFits_11 (lv_at hl 0 rfl) ?_
              refine lv_iload_n hx hb dX3_gridFits_13 rfl (lv_at hl 5 rfl) ?_
              refine lv_icmp_ge (tgt := 69) hx hb dX3_gridFits_14 (by decide) (fun c16 => ?_) (fun c16 => ?_)
              · refine lv_aload_n hx hb dX3_gridFits_69 rfl (lv_at hl 4 rfl) ?_
                refine zz_get hC hZ 0 rfl zf_X3_15 rfl dX3_gridFits_70 ?_
                refine lv_lload_n hx hb dX3_gridFits_73 rfl (lv_at hl 3 rfl) ?_
                refine lv_lload hx hb dX3_gridFits_74 (lv_at hl 1 rfl) ?_
                refine zz_iV (As := [.long ((1 + (1 * n0.toInt64)) + ((1 * n0.toInt64) * n1.toInt64)), .long (((0 + (1 * n0.toInt64)) + ((1 * n0.toInt64) * n1.toInt64)) + (((1 * n0.toInt64) * n1.toInt64) * n2.toInt64))]) (wc := [(st, .inr (5, [.int 0, .int 0, .ref kd, .ref dp, .ref cl, .ref sa, .ref ln, .ref bt, .ref pn, .ref bf]))]) (wr := [(mk, .inr (2, [.ref st, .ref ml, .int 0, .int 0])), (ml, .inl (g.2.1, 4, .inl (zz_l4 n0 n1 n2 n3)))]) (rest := []) hC hZ hl zc_X3_19 (co_fits g st kd dp cl sa ln bt pn bf 0 0 ((1 + (1 * n0.toInt64)) + ((1 * n0.toInt64) * n1.toInt64)) (((0 + (1 * n0.toInt64)) + ((1 * n0.toInt64) * n1.toInt64)) + (((1 * n0.toInt64) * n1.toInt64) * n2.toInt64))) [2] [0, 1] rfl rfl (by decide) (ci := 5) (q0 := 0) rfl rfl rfl rfl (Nat.le_of_ble_eq_true rfl) ⟨⟨Nat.le_of_ble_eq_true rfl, Nat.le_of_ble_eq_true rfl⟩, Nat.le_of_ble_eq_true rfl, Nat.le_of_ble_eq_true rfl⟩ dX3_gridFits_76 (fun r17 u18 H locs hp hZ => ?_)
                obtain ⟨rfl, rfl⟩ := hp
                have hZ : zz_Z g A s.heap [(mk, .inr (2, [.ref st, .ref ml, .int 0, .int 0])), (ml, .inl (g.2.1, 4, .inl (zz_l4 n0 n1 n2 n3))), (st, .inr (5, [.int 0, .int 0, .ref kd, .ref dp, .ref cl, .ref sa, .ref ln, .ref bt, .ref pn, .ref bf]))] H locs := hZ
                exact zz_zret hC hZ (zl_b01 (zl_fits01 _ _ _ _)) (⟨by show _ = _; rw [fn_co_gridFits, if_neg c1, if_pos c5, if_neg c6, if_pos c10, if_neg c11, if_pos c15, if_pos c16], rfl⟩) (Nat.le_of_ble_eq_true rfl) (Nat.le_of_ble_eq_true rfl) dX3_gridFits_79
              · refine lv_iload hx hb dX3_gridFits_17 (lv_at hl 0 rfl) ?_
                refine lv_iconst (v := 4) hx hb dX3_gridFits_19 (by decide) ?_
                refine lv_icmp_ge (tgt := 69) hx hb dX3_gridFits_20 (by decide) (fun c => absurd c (by decide)) (fun c19 => ?_)
                refine lv_aload_n hx hb dX3_gridFits_23 rfl (lv_at hl 4 rfl) ?_
                refine zz_get hC hZ 0 rfl zf_X3_9 rfl dX3_gridFits_24 ?_
                refine lv_iload hx hb dX3_gridFits_27 (lv_at hl 0 rfl) ?_
                refine zz_iald hC hZ 1 rfl (by unfold vp_in; decide) dX3_gridFits_29 ?_
                refine zz_topi (v := n3) (by rw [zl_c3]; exact rfl) ?_
                refine lv_sipush (v := 200) hx hb dX3_gridFits_30 (by decide) ?_
                refine lv_icmp_le (tgt := 38) hx hb dX3_gridFits_33 (by decide) (fun c20 => ?_) (fun c20 => ?_)
                · refine lv_lload_n hx hb dX3_gridFits_38 rfl (lv_at hl 3 rfl) ?_
                  refine lv_lload hx hb dX3_gridFits_39 (lv_at hl 2 rfl) ?_
                  refine lv_ladd hx hb dX3_gridFits_41 ?_
                  refine lv_lstore_n (lv' := [(2, .long (((1 + (1 * n0.toInt64)) + ((1 * n0.toInt64) * n1.toInt64)) + (((1 * n0.toInt64) * n1.toInt64) * n2.toInt64))), (8, .int 3), (4, .long (((0 + (1 * n0.toInt64)) + ((1 * n0.toInt64) * n1.toInt64)) + (((1 * n0.toInt64) * n1.toInt64) * n2.toInt64))), (6, .long (((1 * n0.toInt64) * n1.toInt64) * n2.toInt64)), (0, .ref mk), (1, .int dd)]) hx hb dX3_gridFits_42 rfl hl (by decide) rfl (fun ls hl => ?_)
                  refine lv_lload hx hb dX3_gridFits_43 (lv_at hl 3 rfl) ?_
                  refine lv_aload_n hx hb dX3_gridFits_45 rfl (lv_at hl 4 rfl) ?_
                  refine zz_get hC hZ 0 rfl zf_X3_9 rfl dX3_gridFits_46 ?_
                  refine lv_iload hx hb dX3_gridFits_49 (lv_at hl 1 rfl) ?_
                  refine zz_iald hC hZ 1 rfl (by unfold vp_in; decide) dX3_gridFits_51 ?_
                  refine zz_topi (v := n3) (by rw [zl_c3]; exact rfl) ?_
                  refine lv_i2l hx hb dX3_gridFits_52 rfl ?_
                  refine lv_lmul hx hb dX3_gridFits_53 ?_
                  refine lv_lstore (lv' := [(6, .long ((((1 * n0.toInt64) * n1.toInt64) * n2.toInt64) * n3.toInt64)), (2, .long (((1 + (1 * n0.toInt64)) + ((1 * n0.toInt64) * n1.toInt64)) + (((1 * n0.toInt64) * n1.toInt64) * n2.toInt64))), (8, .int 3), (4, .long (((0 + (1 * n0.toInt64)) + ((1 * n0.toInt64) * n1.toInt64)) + (((1 * n0.toInt64) * n1.toInt64) * n2.toInt64))), (0, .ref mk), (1, .int dd)]) hx hb dX3_gridFits_54 hl (by decide) rfl (fun ls hl => ?_)
                  refine lv_lload hx hb dX3_gridFits_56 (lv_at hl 3 rfl) ?_
                  refine lv_lload hx hb dX3_gridFits_58 (lv_at hl 0 rfl) ?_
                  refine lv_ladd hx hb dX3_gridFits_60 ?_
                  refine lv_lstore (lv' := [(4, .long ((((0 + (1 * n0.toInt64)) + ((1 * n0.toInt64) * n1.toInt64)) + (((1 * n0.toInt64) * n1.toInt64) * n2.toInt64)) + ((((1 * n0.toInt64) * n1.toInt64) * n2.toInt64) * n3.toInt64))), (6, .long ((((1 * n0.toInt64) * n1.toInt64) * n2.toInt64) * n3.toInt64)), (2, .long (((1 + (1 * n0.toInt64)) + ((1 * n0.toInt64) * n1.toInt64)) + (((1 * n0.toInt64) * n1.toInt64) * n2.toInt64))), (8, .int 3), (0, .ref mk), (1, .int dd)]) hx hb dX3_gridFits_61 hl (by decide) rfl (fun ls hl => ?_)
                  refine lv_iinc (v := 4) (lv' := [(8, .int 4), (4, .long ((((0 + (1 * n0.toInt64)) + ((1 * n0.toInt64) * n1.toInt64)) + (((1 * n0.toInt64) * n1.toInt64) * n2.toInt64)) + ((((1 * n0.toInt64) * n1.toInt64) * n2.toInt64) * n3.toInt64))), (6, .long ((((1 * n0.toInt64) * n1.toInt64) * n2.toInt64) * n3.toInt64)), (2, .long (((1 + (1 * n0.toInt64)) + ((1 * n0.toInt64) * n1.toInt64)) + (((1 * n0.toInt64) * n1.toInt64) * n2.toInt64))), (0, .ref mk), (1, .int dd)]) hx hb dX3_gridFits_63 hl (k := 3) rfl (by first | rfl | decide) (by decide) rfl (fun ls hl => ?_)
                  refine lv_goto (tgt := 11) hx hb dX3_gridFits_66 (by decide) ?_
                  refine lv_iload hx hb dX3_gridFits_11 (lv_at hl 0 rfl) ?_
                  refine lv_iload_n hx hb dX3_gridFits_13 rfl (lv_at hl 5 rfl) ?_
                  refine lv_icmp_ge (tgt := 69) hx hb dX3_gridFits_14 (by decide) (fun c21 => ?_) (fun c21 => ?_)
                  · refine lv_aload_n hx hb dX3_gridFits_69 rfl (lv_at hl 4 rfl) ?_
                    refine zz_get hC hZ 0 rfl zf_X3_15 rfl dX3_gridFits_70 ?_
                    refine lv_lload_n hx hb dX3_gridFits_73 rfl (lv_at hl 3 rfl) ?_
                    refine lv_lload hx hb dX3_gridFits_74 (lv_at hl 1 rfl) ?_
                    refine zz_iV (As := [.long (((1 + (1 * n0.toInt64)) + ((1 * n0.toInt64) * n1.toInt64)) + (((1 * n0.toInt64) * n1.toInt64) * n2.toInt64)), .long ((((0 + (1 * n0.toInt64)) + ((1 * n0.toInt64) * n1.toInt64)) + (((1 * n0.toInt64) * n1.toInt64) * n2.toInt64)) + ((((1 * n0.toInt64) * n1.toInt64) * n2.toInt64) * n3.toInt64))]) (wc := [(st, .inr (5, [.int 0, .int 0, .ref kd, .ref dp, .ref cl, .ref sa, .ref ln, .ref bt, .ref pn, .ref bf]))]) (wr := [(mk, .inr (2, [.ref st, .ref ml, .int 0, .int 0])), (ml, .inl (g.2.1, 4, .inl (zz_l4 n0 n1 n2 n3)))]) (rest := []) hC hZ hl zc_X3_19 (co_fits g st kd dp cl sa ln bt pn bf 0 0 (((1 + (1 * n0.toInt64)) + ((1 * n0.toInt64) * n1.toInt64)) + (((1 * n0.toInt64) * n1.toInt64) * n2.toInt64)) ((((0 + (1 * n0.toInt64)) + ((1 * n0.toInt64) * n1.toInt64)) + (((1 * n0.toInt64) * n1.toInt64) * n2.toInt64)) + ((((1 * n0.toInt64) * n1.toInt64) * n2.toInt64) * n3.toInt64))) [2] [0, 1] rfl rfl (by decide) (ci := 5) (q0 := 0) rfl rfl rfl rfl (Nat.le_of_ble_eq_true rfl) ⟨⟨Nat.le_of_ble_eq_true rfl, Nat.le_of_ble_eq_true rfl⟩, Nat.le_of_ble_eq_true rfl, Nat.le_of_ble_eq_true rfl⟩ dX3_gridFits_76 (fun r22 u23 H locs hp hZ => ?_)
                    obtain ⟨rfl, rfl⟩ := hp
                    have hZ : zz_Z g A s.heap [(mk, .inr (2, [.ref st, .ref ml, .int 0, .int 0])), (ml, .inl (g.2.1, 4, .inl (zz_l4 n0 n1 n2 n3))), (st, .inr (5, [.int 0, .int 0, .ref kd, .ref dp, .ref cl, .ref sa, .ref ln, .ref bt, .ref pn, .ref bf]))] H locs := hZ
                    exact zz_zret hC hZ (zl_b01 (zl_fits01 _ _ _ _)) (⟨by show _ = _; rw [fn_co_gridFits, if_neg c1, if_pos c5, if_neg c6, if_pos c10, if_neg c11, if_pos c15, if_neg c16, if_pos c20, if_pos c21], rfl⟩) (Nat.le_of_ble_eq_true rfl) (Nat.le_of_ble_eq_true rfl) dX3_gridFits_79
                  · refine lv_iload hx hb dX3_gridFits_17 (lv_at hl 0 rfl) ?_
                    refine lv_iconst (v := 4) hx hb dX3_gridFits_19 (by decide) ?_
                    refine lv_icmp_ge (tgt := 69) hx hb dX3_gridFits_20 (by decide) (fun c24 => ?_) (fun c => absurd (by decide) c)
                    refine lv_aload_n hx hb dX3_gridFits_69 rfl (lv_at hl 4 rfl) ?_
                    refine zz_get hC hZ 0 rfl zf_X3_15 rfl dX3_gridFits_70 ?_
                    refine lv_lload_n hx hb dX3_gridFits_73 rfl (lv_at hl 3 rfl) ?_
                    refine lv_lload hx hb dX3_gridFits_74 (lv_at hl 1 rfl) ?_
                    refine zz_iV (As := [.long (((1 + (1 * n0.toInt64)) + ((1 * n0.toInt64) * n1.toInt64)) + (((1 * n0.toInt64) * n1.toInt64) * n2.toInt64)), .long ((((0 + (1 * n0.toInt64)) + ((1 * n0.toInt64) * n1.toInt64)) + (((1 * n0.toInt64) * n1.toInt64) * n2.toInt64)) + ((((1 * n0.toInt64) * n1.toInt64) * n2.toInt64) * n3.toInt64))]) (wc := [(st, .inr (5, [.int 0, .int 0, .ref kd, .ref dp, .ref cl, .ref sa, .ref ln, .ref bt, .ref pn, .ref bf]))]) (wr := [(mk, .inr (2, [.ref st, .ref ml, .int 0, .int 0])), (ml, .inl (g.2.1, 4, .inl (zz_l4 n0 n1 n2 n3)))]) (rest := []) hC hZ hl zc_X3_19 (co_fits g st kd dp cl sa ln bt pn bf 0 0 (((1 + (1 * n0.toInt64)) + ((1 * n0.toInt64) * n1.toInt64)) + (((1 * n0.toInt64) * n1.toInt64) * n2.toInt64)) ((((0 + (1 * n0.toInt64)) + ((1 * n0.toInt64) * n1.toInt64)) + (((1 * n0.toInt64) * n1.toInt64) * n2.toInt64)) + ((((1 * n0.toInt64) * n1.toInt64) * n2.toInt64) * n3.toInt64))) [2] [0, 1] rfl rfl (by decide) (ci := 5) (q0 := 0) rfl rfl rfl rfl (Nat.le_of_ble_eq_true rfl) ⟨⟨Nat.le_of_ble_eq_true rfl, Nat.le_of_ble_eq_true rfl⟩, Nat.le_of_ble_eq_true rfl, Nat.le_of_ble_eq_true rfl⟩ dX3_gridFits_76 (fun r25 u26 H locs hp hZ => ?_)
                    obtain ⟨rfl, rfl⟩ := hp
                    have hZ : zz_Z g A s.heap [(mk, .inr (2, [.ref st, .ref ml, .int 0, .int 0])), (ml, .inl (g.2.1, 4, .inl (zz_l4 n0 n1 n2 n3))), (st, .inr (5, [.int 0, .int 0, .ref kd, .ref dp, .ref cl, .ref sa, .ref ln, .ref bt, .ref pn, .ref bf]))] H locs := hZ
                    exact zz_zret hC hZ (zl_b01 (zl_fits01 _ _ _ _)) (⟨by show _ = _; rw [fn_co_gridFits, if_neg c1, if_pos c5, if_neg c6, if_pos c10, if_neg c11, if_pos c15, if_neg c16, if_pos c20, if_neg c21], rfl⟩) (Nat.le_of_ble_eq_true rfl) (Nat.le_of_ble_eq_true rfl) dX3_gridFits_79
                · refine lv_iconst (v := 0) hx hb dX3_gridFits_36 (by decide) ?_
                  exact zz_zret hC hZ (by decide) (⟨by show _ = _; rw [fn_co_gridFits, if_neg c1, if_pos c5, if_neg c6, if_pos c10, if_neg c11, if_pos c15, if_neg c16, if_neg c20], rfl⟩) (Nat.le_of_ble_eq_true rfl) (Nat.le_of_ble_eq_true rfl) dX3_gridFits_37
            · refine lv_iconst (v := 0) hx hb dX3_gridFits_36 (by decide) ?_
              exact zz_zret hC hZ (by decide) (⟨by show _ = _; rw [fn_co_gridFits, if_neg c1, if_pos c5, if_neg c6, if_pos c10, if_neg c11, if_neg c15], rfl⟩) (Nat.le_of_ble_eq_true rfl) (Nat.le_of_ble_eq_true rfl) dX3_gridFits_37
        · refine lv_iconst (v := 0) hx hb dX3_gridFits_36 (by decide) ?_
          exact zz_zret hC hZ (by decide) (⟨by show _ = _; rw [fn_co_gridFits, if_neg c1, if_pos c5, if_neg c6, if_neg c10], rfl⟩) (Nat.le_of_ble_eq_true rfl) (Nat.le_of_ble_eq_true rfl) dX3_gridFits_37
    · refine lv_iconst (v := 0) hx hb dX3_gridFits_36 (by decide) ?_
      exact zz_zret hC hZ (by decide) (⟨by show _ = _; rw [fn_co_gridFits, if_neg c1, if_neg c5], rfl⟩) (Nat.le_of_ble_eq_true rfl) (Nat.le_of_ble_eq_true rfl) dX3_gridFits_37
theorem dX6_add_55 : decode cX6_add 55 = .ok (.iconst 0, 1) := by decide +kernel
theorem dX6_add_56 : decode cX6_add 56 = .ok (.istore 6, 2) := by decide +kernel
theorem dX6_add_58 : decode cX6_add 58 = .ok (.iload 6, 2) := by decide +kernel
theorem dX6_add_60 : decode cX6_add 60 = .ok (.iload 4, 2) := by decide +kernel
theorem dX6_add_62 : decode cX6_add 62 = .ok (.if_icmp .ge 24, 3) := by decide +kernel
theorem dX6_add_65 : decode cX6_add 65 = .ok (.aload_n 0, 1) := by decide +kernel
theorem dX6_add_66 : decode cX6_add 66 = .ok (.getfield 27, 3) := by decide +kernel
theorem zf_X6_27 : zz_f RX6 27 5 7 := ⟨RX6, TX6, 10, rfl, zi_X6, by decide, zk_54⟩
theorem dX6_add_69 : decode cX6_add 69 = .ok (.aload_n 0, 1) := by decide +kernel
theorem dX6_add_70 : decode cX6_add 70 = .ok (.getfield 44, 3) := by decide +kernel
theorem dX6_add_73 : decode cX6_add 73 = .ok (.iload 6, 2) := by decide +kernel
theorem dX6_add_75 : decode cX6_add 75 = .ok (.iadd, 1) := by decide +kernel
theorem dX6_add_76 : decode cX6_add 76 = .ok (.ldc2_w 49, 3) := by decide +kernel
theorem zk_250 : Cond.constantLong RX6 49 (-1) ∈ zz_w := zz_in (List.mem_append_right _ (List.mem_append_right _ (List.mem_append_left _ (List.mem_of_getElem? (i := 10) (by decide +kernel))))) rfl
theorem dX6_add_79 : decode cX6_add 79 = .ok (.lastore, 1) := by decide +kernel
theorem dX6_add_80 : decode cX6_add 80 = .ok (.iinc 6 1, 3) := by decide +kernel
theorem dX6_add_83 : decode cX6_add 83 = .ok (.goto (-25), 3) := by decide +kernel
abbrev rm_co_add : Room := { frames := 0, cells := 0, slots := 0, locals := 0 }
abbrev po_co_add (g : zz_G) (st : Nat) (kd : Nat) (dp : Nat) (cl : Nat) (sa : Nat) (ln : Nat) (bt : Nat) (pn : Nat) (bf : Nat) (na : Nat) (nu : Nat) (nn : Nat) (kdf : Nat → Int32) (dpf : Nat → Int32) (clf : Nat → Int32) (saf : Nat → Int32) (lnf : Nat → Int32) (btf : Nat → Int64) (k : Int32) (d : Int32) (kc : Int32) (h_a : na < 60) (h_e : nu + nn ≤ 4000) : Int32 → va_W → Prop := fun (r : Int32) (u : va_W) => ∃ (bt2 : Nat → Int64), r = nI na ∧ u = [(st, .inr (5, [.int (nI (na + 1)), .int (nI (nu + nn)), .ref kd, .ref dp, .ref cl, .ref sa, .ref ln, .ref bt, .ref pn, .ref bf])), (kd, .inl (g.2.1, 60, .inl (upd kdf na k))), (dp, .inl (g.2.1, 60, .inl (upd dpf na d))), (cl, .inl (g.2.1, 60, .inl (upd clf na kc))), (sa, .inl (g.2.1, 60, .inl (upd saf na (nI nu)))), (ln, .inl (g.2.1, 60, .inl (upd lnf na (nI nn)))), (bt, .inl (g.2.2.1, 4000, .inr (.inl bt2)))]
set_option maxHeartbeats 4000000 in
set_option maxRecDepth 100000 in
theorem co_add (g : zz_G) (st : Nat) (kd : Nat) (dp : Nat) (cl : Nat) (sa : Nat) (ln : Nat) (bt : Nat) (pn : Nat) (bf : Nat) (na : Nat) (nu : Nat) (nn : Nat) (kdf : Nat → Int32) (dpf : Nat → Int32) (clf : Nat → Int32) (saf : Nat → Int32) (lnf : Nat → Int32) (btf : Nat → Int64) (k : Int32) (d : Int32) (kc : Int32) (h_a : na < 60) (h_e : nu + nn ≤ 4000) : zz_I g yX6_add (.code yX6_add cX6_add 7 (some .int)) rm_co_add [.ref st, .int k, .int d, .int kc, .int (nI nn)] [(st, .inr (5, [.int (nI na), .int (nI nu), .ref kd, .ref dp, .ref cl, .ref sa, .ref ln, .ref bt, .ref pn, .ref bf])), (kd, .inl (g.2.1, 60, .inl kdf)), (dp, .inl (g.2.1, 60, .inl dpf)), (cl, .inl (g.2.1, 60, .inl clf)), (sa, .inl (g.2.1, 60, .inl saf)), (ln, .inl (g.2.1, 60, .inl lnf)), (bt, .inl (g.2.2.1, 4000, .inr (.inl btf)))] (po_co_add g st kd dp cl sa ln bt pn bf na nu nn kdf dpf clf saf lnf btf k d kc h_a h_e) := by
  refine zz_I.intro (own := RX6) (cc := cX6_add) (nL := 7) (by decide) rfl (Nat.le_of_ble_eq_true rfl) ?_
  intro p l e s m args below meth c A H locs ls hC hnm hZ hl
  obtain ⟨hx, hb, hml, hown, hts, hr, hlocks, hK⟩ := id hC
  have hl : lv_has ls 7 [(0, .ref st), (1, .int k), (2, .int d), (3, .int kc), (4, .int (nI nn))] := hl
  have hZ : zz_Z g A s.heap [(st, .inr (5, [.int (nI na), .int (nI nu), .ref kd, .ref dp, .ref cl, .ref sa, .ref ln, .ref bt, .ref pn, .ref bf])), (kd, .inl (g.2.1, 60, .inl kdf)), (dp, .inl (g.2.1, 60, .inl dpf)), (cl, .inl (g.2.1, 60, .inl clf)), (sa, .inl (g.2.1, 60, .inl saf)), (ln, .inl (g.2.1, 60, .inl lnf)), (bt, .inl (g.2.2.1, 4000, .inr (.inl btf)))] H locs := hZ
  refine lv_aload_n hx hb dX6_add_0 rfl (lv_at hl 0 rfl) ?_
  refine zz_get hC hZ 0 rfl zf_X6_38 rfl dX6_add_1 ?_
  refine lv_istore (lv' := [(5, .int (nI na)), (0, .ref st), (1, .int k), (2, .int d), (3, .int kc), (4, .int (nI nn))]) hx hb dX6_add_4 hl (by decide) rfl (fun ls hl => ?_)
  refine lv_aload_n hx hb dX6_add_6 rfl (lv_at hl 1 rfl) ?_
  refine zz_get hC hZ 0 rfl zf_X6_9 rfl dX6_add_7 ?_
  refine lv_iload hx hb dX6_add_10 (lv_at hl 0 rfl) ?_
  refine lv_iload_n hx hb dX6_add_12 rfl (lv_at hl 2 rfl) ?_
  refine zz_iast hC hZ 1 rfl (vp_in_nI (by omega) (by decide)) dX6_add_13 (fun H locs hZ => ?_)
  rw [nI_clamp (n := na) (by omega)] at hZ
  have hZ : zz_Z g A s.heap [(st, .inr (5, [.int (nI na), .int (nI nu), .ref kd, .ref dp, .ref cl, .ref sa, .ref ln, .ref bt, .ref pn, .ref bf])), (kd, .inl (g.2.1, 60, .inl (upd kdf na k))), (dp, .inl (g.2.1, 60, .inl dpf)), (cl, .inl (g.2.1, 60, .inl clf)), (sa, .inl (g.2.1, 60, .inl saf)), (ln, .inl (g.2.1, 60, .inl lnf)), (bt, .inl (g.2.2.1, 4000, .inr (.inl btf)))] H locs := hZ
  refine lv_aload_n hx hb dX6_add_14 rfl (lv_at hl 1 rfl) ?_
  refine zz_get hC hZ 0 rfl zf_X6_15 rfl dX6_add_15 ?_
  refine lv_iload hx hb dX6_add_18 (lv_at hl 0 rfl) ?_
  refine lv_iload_n hx hb dX6_add_20 rfl (lv_at hl 3 rfl) ?_
  refine zz_iast hC hZ 2 rfl (vp_in_nI (by omega) (by decide)) dX6_add_21 (fun H locs hZ => ?_)
  rw [nI_clamp (n := na) (by omega)] at hZ
  have hZ : zz_Z g A s.heap [(st, .inr (5, [.int (nI na), .int (nI nu), .ref kd, .ref dp, .ref cl, .ref sa, .ref ln, .ref bt, .ref pn, .ref bf])), (kd, .inl (g.2.1, 60, .inl (upd kdf na k))), (dp, .inl (g.2.1, 60, .inl (upd dpf na d))), (cl, .inl (g.2.1, 60, .inl clf)), (sa, .inl (g.2.1, 60, .inl saf)), (ln, .inl (g.2.1, 60, .inl lnf)), (bt, .inl (g.2.2.1, 4000, .inr (.inl btf)))] H locs := hZ
  refine lv_aload_n hx hb dX6_add_22 rfl (lv_at hl 1 rfl) ?_
  refine zz_get hC hZ 0 rfl zf_X6_18 rfl dX6_add_23 ?_
  refine lv_iload hx hb dX6_add_26 (lv_at hl 0 rfl) ?_
  refine lv_iload_n hx hb dX6_add_28 rfl (lv_at hl 4 rfl) ?_
  refine zz_iast hC hZ 3 rfl (vp_in_nI (by omega) (by decide)) dX6_add_29 (fun H locs hZ => ?_)
  rw [nI_clamp (n := na) (by omega)] at hZ
  have hZ : zz_Z g A s.heap [(st, .inr (5, [.int (nI na), .int (nI nu), .ref kd, .ref dp, .ref cl, .ref sa, .ref ln, .ref bt, .ref pn, .ref bf])), (kd, .inl (g.2.1, 60, .inl (upd kdf na k))), (dp, .inl (g.2.1, 60, .inl (upd dpf na d))), (cl, .inl (g.2.1, 60, .inl (upd clf na kc))), (sa, .inl (g.2.1, 60, .inl saf)), (ln, .inl (g.2.1, 60, .inl lnf)), (bt, .inl (g.2.2.1, 4000, .inr (.inl btf)))] H locs := hZ
  refine lv_aload_n hx hb dX6_add_30 rfl (lv_at hl 1 rfl) ?_
  refine zz_get hC hZ 0 rfl zf_X6_21 rfl dX6_add_31 ?_
  refine lv_iload hx hb dX6_add_34 (lv_at hl 0 rfl) ?_
  refine lv_aload_n hx hb dX6_add_36 rfl (lv_at hl 1 rfl) ?_
  refine zz_get hC hZ 0 rfl zf_X6_44 rfl dX6_add_37 ?_
  refine zz_iast hC hZ 4 rfl (vp_in_nI (by omega) (by decide)) dX6_add_40 (fun H locs hZ => ?_)
  rw [nI_clamp (n := na) (by omega)] at hZ
  have hZ : zz_Z g A s.heap [(st, .inr (5, [.int (nI na), .int (nI nu), .ref kd, .ref dp, .ref cl, .ref sa, .ref ln, .ref bt, .ref pn, .ref bf])), (kd, .inl (g.2.1, 60, .inl (upd kdf na k))), (dp, .inl (g.2.1, 60, .inl (upd dpf na d))), (cl, .inl (g.2.1, 60, .inl (upd clf na kc))), (sa, .inl (g.2.1, 60, .inl (upd saf na (nI nu)))), (ln, .inl (g.2.1, 60, .inl lnf)), (bt, .inl (g.2.2.1, 4000, .inr (.inl btf)))] H locs := hZ
  refine lv_aload_n hx hb dX6_add_41 rfl (lv_at hl 1 rfl) ?_
  refine zz_get hC hZ 0 rfl zf_X6_24 rfl dX6_add_42 ?_
  refine lv_iload hx hb dX6_add_45 (lv_at hl 0 rfl) ?_
  refine lv_iload hx hb dX6_add_47 (lv_at hl 5 rfl) ?_
  refine zz_iast hC hZ 5 rfl (vp_in_nI (by omega) (by decide)) dX6_add_49 (fun H locs hZ => ?_)
  rw [nI_clamp (n := na) (by omega)] at hZ
  have hZ : zz_Z g A s.heap [(st, .inr (5, [.int (nI na), .int (nI nu), .ref kd, .ref dp, .ref cl, .ref sa, .ref ln, .ref bt, .ref pn, .ref bf])), (kd, .inl (g.2.1, 60, .inl (upd kdf na k))), (dp, .inl (g.2.1, 60, .inl (upd dpf na d))), (cl, .inl (g.2.1, 60, .inl (upd clf na kc))), (sa, .inl (g.2.1, 60, .inl (upd saf na (nI nu)))), (ln, .inl (g.2.1, 60, .inl (upd lnf na (nI nn)))), (bt, .inl (g.2.2.1, 4000, .inr (.inl btf)))] H locs := hZ
  refine lv_iload_n hx hb dX6_add_50 rfl (lv_at hl 3 rfl) ?_
  refine lv_iconst (v := 1) hx hb dX6_add_51 (by decide) ?_
  refine lv_icmp_le (tgt := 86) hx hb dX6_add_52 (by decide) (fun c1 => ?_) (fun c1 => ?_)
  · refine lv_aload_n hx hb dX6_add_86 rfl (lv_at hl 1 rfl) ?_
    refine lv_dup hx hb dX6_add_87 rfl ?_
    refine zz_get hC hZ 0 rfl zf_X6_38 rfl dX6_add_88 ?_
    refine lv_iconst (v := 1) hx hb dX6_add_91 (by decide) ?_
    refine lv_iadd hx hb dX6_add_92 ?_
    refine zz_topi (v := nI (na + 1)) (nI_1 _) ?_
    refine zz_put hC hZ 0 rfl zu_X6_38 (Nat.le_of_ble_eq_true rfl) dX6_add_93 (fun H locs hZ => ?_)
    have hZ : zz_Z g A s.heap [(st, .inr (5, [.int (nI (na + 1)), .int (nI nu), .ref kd, .ref dp, .ref cl, .ref sa, .ref ln, .ref bt, .ref pn, .ref bf])), (kd, .inl (g.2.1, 60, .inl (upd kdf na k))), (dp, .inl (g.2.1, 60, .inl (upd dpf na d))), (cl, .inl (g.2.1, 60, .inl (upd clf na kc))), (sa, .inl (g.2.1, 60, .inl (upd saf na (nI nu)))), (ln, .inl (g.2.1, 60, .inl (upd lnf na (nI nn)))), (bt, .inl (g.2.2.1, 4000, .inr (.inl btf)))] H locs := hZ
    refine lv_aload_n hx hb dX6_add_96 rfl (lv_at hl 1 rfl) ?_
    refine lv_dup hx hb dX6_add_97 rfl ?_
    refine zz_get hC hZ 0 rfl zf_X6_44 rfl dX6_add_98 ?_
    refine lv_iload hx hb dX6_add_101 (lv_at hl 5 rfl) ?_
    refine lv_iadd hx hb dX6_add_103 ?_
    refine zz_topi (v := nI (nu + nn)) (nI_add _ _) ?_
    refine zz_put hC hZ 0 rfl zu_X6_44 (Nat.le_of_ble_eq_true rfl) dX6_add_104 (fun H locs hZ => ?_)
    have hZ : zz_Z g A s.heap [(st, .inr (5, [.int (nI (na + 1)), .int (nI (nu + nn)), .ref kd, .ref dp, .ref cl, .ref sa, .ref ln, .ref bt, .ref pn, .ref bf])), (kd, .inl (g.2.1, 60, .inl (upd kdf na k))), (dp, .inl (g.2.1, 60, .inl (upd dpf na d))), (cl, .inl (g.2.1, 60, .inl (upd clf na kc))), (sa, .inl (g.2.1, 60, .inl (upd saf na (nI nu)))), (ln, .inl (g.2.1, 60, .inl (upd lnf na (nI nn)))), (bt, .inl (g.2.2.1, 4000, .inr (.inl btf)))] H locs := hZ
    refine lv_iload hx hb dX6_add_107 (lv_at hl 0 rfl) ?_
    exact zz_iret hC hZ (⟨btf, rfl, rfl⟩) (Nat.le_of_ble_eq_true rfl) (Nat.le_of_ble_eq_true rfl) dX6_add_109
  · refine lv_iconst (v := 0) hx hb dX6_add_55 (by decide) ?_
    refine lv_istore (lv' := [(6, .int 0), (5, .int (nI na)), (0, .ref st), (1, .int k), (2, .int d), (3, .int kc), (4, .int (nI nn))]) hx hb dX6_add_56 hl (by decide) rfl (fun ls hl => ?_)
    have LP2 : ∀ (N : Nat) (i : Nat) (bt1 : Nat → Int64) (H : Heap) (locs : List Loc) (ls : Array Slot), (i ≤ nn) → (nn - i) < N → zz_Z g A s.heap [(st, .inr (5, [.int (nI na), .int (nI nu), .ref kd, .ref dp, .ref cl, .ref sa, .ref ln, .ref bt, .ref pn, .ref bf])), (kd, .inl (g.2.1, 60, .inl (upd kdf na k))), (dp, .inl (g.2.1, 60, .inl (upd dpf na d))), (cl, .inl (g.2.1, 60, .inl (upd clf na kc))), (sa, .inl (g.2.1, 60, .inl (upd saf na (nI nu)))), (ln, .inl (g.2.1, 60, .inl (upd lnf na (nI nn)))), (bt, .inl (g.2.2.1, 4000, .inr (.inl bt1)))] H locs → lv_has ls 7 [(6, .int (nI i)), (5, .int (nI na)), (0, .ref st), (1, .int k), (2, .int d), (3, .int kc), (4, .int (nI nn))] → W p l e rm_co_add s m args below meth c H locs 0 0 (zz_QI below g args s A rm_co_add.cells rm_co_add.slots (po_co_add g st kd dp cl sa ln bt pn bf na nu nn kdf dpf clf saf lnf btf k d kc h_a h_e)) (F0 m 58 ls []) := by
      intro N
      induction N with
      | zero =>
        intro i bt1 H locs ls h1 hN
        exact absurd hN (Nat.not_lt_zero _)
      | succ N ih =>
        intro i bt1 H locs ls h1 hN hZ hl
        refine lv_iload hx hb dX6_add_58 (lv_at hl 0 rfl) ?_
        refine lv_iload hx hb dX6_add_60 (lv_at hl 6 rfl) ?_
        refine lv_icmp_ge (tgt := 86) hx hb dX6_add_62 (by decide) (fun c3 => ?_) (fun c3 => ?_)
        · have nc3 : nn ≤ i := (nI_leI (by omega) (by omega)).mp (show nI (nn) ≤ nI (i) from c3)
          refine lv_aload_n hx hb dX6_add_86 rfl (lv_at hl 2 rfl) ?_
          refine lv_dup hx hb dX6_add_87 rfl ?_
          refine zz_get hC hZ 0 rfl zf_X6_38 rfl dX6_add_88 ?_
          refine lv_iconst (v := 1) hx hb dX6_add_91 (by decide) ?_
          refine lv_iadd hx hb dX6_add_92 ?_
          refine zz_topi (v := nI (na + 1)) (nI_1 _) ?_
          refine zz_put hC hZ 0 rfl zu_X6_38 (Nat.le_of_ble_eq_true rfl) dX6_add_93 (fun H locs hZ => ?_)
          have hZ : zz_Z g A s.heap [(st, .inr (5, [.int (nI (na + 1)), .int (nI nu), .ref kd, .ref dp, .ref cl, .ref sa, .ref ln, .ref bt, .ref pn, .ref bf])), (kd, .inl (g.2.1, 60, .inl (upd kdf na k))), (dp, .inl (g.2.1, 60, .inl (upd dpf na d))), (cl, .inl (g.2.1, 60, .inl (upd clf na kc))), (sa, .inl (g.2.1, 60, .inl (upd saf na (nI nu)))), (ln, .inl (g.2.1, 60, .inl (upd lnf na (nI nn)))), (bt, .inl (g.2.2.1, 4000, .inr (.inl bt1)))] H locs := hZ
          refine lv_aload_n hx hb dX6_add_96 rfl (lv_at hl 2 rfl) ?_
          refine lv_dup hx hb dX6_add_97 rfl ?_
          refine zz_get hC hZ 0 rfl zf_X6_44 rfl dX6_add_98 ?_
          refine lv_iload hx hb dX6_add_101 (lv_at hl 6 rfl) ?_
          refine lv_iadd hx hb dX6_add_103 ?_
          refine zz_topi (v := nI (nu + nn)) (nI_add _ _) ?_
          refine zz_put hC hZ 0 rfl zu_X6_44 (Nat.le_of_ble_eq_true rfl) dX6_add_104 (fun H locs hZ => ?_)
          have hZ : zz_Z g A s.heap [(st, .inr (5, [.int (nI (na + 1)), .int (nI (nu + nn)), .ref kd, .ref dp, .ref cl, .ref sa, .ref ln, .ref bt, .ref pn, .ref bf])), (kd, .inl (g.2.1, 60, .inl (upd kdf na k))), (dp, .inl (g.2.1, 60, .inl (upd dpf na d))), (cl, .inl (g.2.1, 60, .inl (upd clf na kc))), (sa, .inl (g.2.1, 60, .inl (upd saf na (nI nu)))), (ln, .inl (g.2.1, 60, .inl (upd lnf na (nI nn)))), (bt, .inl (g.2.2.1, 4000, .inr (.inl bt1)))] H locs := hZ
          refine lv_iload hx hb dX6_add_107 (lv_at hl 1 rfl) ?_
          exact zz_iret hC hZ (⟨bt1, rfl, rfl⟩) (Nat.le_of_ble_eq_true rfl) (Nat.le_of_ble_eq_true rfl) dX6_add_109
        · have nc3 : ¬ nn ≤ i := fun q => c3 (show nI (nn) ≤ nI (i) from (nI_leI (by omega) (by omega)).mpr q)
          refine lv_aload_n hx hb dX6_add_65 rfl (lv_at hl 2 rfl) ?_
          refine zz_get hC hZ 0 rfl zf_X6_27 rfl dX6_add_66 ?_
          refine lv_aload_n hx hb dX6_add_69 rfl (lv_at hl 2 rfl) ?_
          refine zz_get hC hZ 0 rfl zf_X6_44 rfl dX6_add_70 ?_
          refine lv_iload hx hb dX6_add_73 (lv_at hl 0 rfl) ?_
          refine lv_iadd hx hb dX6_add_75 ?_
          refine zz_topi (v := nI (nu + i)) (nI_add _ _) ?_
          refine lv_ldc2 hx hb hown (hts _ zk_250) dX6_add_76 ?_
          refine zz_last hC hZ 6 rfl (vp_in_nI (by omega) (by decide)) dX6_add_79 (fun H locs hZ => ?_)
          rw [nI_clamp (n := (nu + i)) (by omega)] at hZ
          have hZ : zz_Z g A s.heap [(st, .inr (5, [.int (nI na), .int (nI nu), .ref kd, .ref dp, .ref cl, .ref sa, .ref ln, .ref bt, .ref pn, .ref bf])), (kd, .inl (g.2.1, 60, .inl (upd kdf na k))), (dp, .inl (g.2.1, 60, .inl (upd dpf na d))), (cl, .inl (g.2.1, 60, .inl (upd clf na kc))), (sa, .inl (g.2.1, 60, .inl (upd saf na (nI nu)))), (ln, .inl (g.2.1, 60, .inl (upd lnf na (nI nn)))), (bt, .inl (g.2.2.1, 4000, .inr (.inl (vp_updL bt1 (nu + i) (-1)))))] H locs := hZ
          refine lv_iinc (v := nI (i + 1)) (lv' := [(6, .int (nI (i + 1))), (5, .int (nI na)), (0, .ref st), (1, .int k), (2, .int d), (3, .int kc), (4, .int (nI nn))]) hx hb dX6_add_80 hl (k := 0) rfl (nI_1 _) (by decide) rfl (fun ls hl => ?_)
          refine lv_goto (tgt := 58) hx hb dX6_add_83 (by decide) ?_
          exact ih (i + 1) (vp_updL bt1 (nu + i) (-1)) H locs ls (by omega) (by omega) hZ (lv_sub hl [0, 1, 2, 3, 4, 5, 6] rfl)
    exact LP2 _ 0 btf H locs ls (Nat.zero_le _) (Nat.lt_succ_self _) hZ (lv_sub hl [0, 1, 2, 3, 4, 5, 6] rfl)
theorem zl_fit (na nu ll : Nat) (h1 : na ≤ 60) (h2 : nu ≤ 4000) (h3 : ll ≤ 200) : fn_co_fits (nI na) (nI nu) 1 (nI ll).toInt64 = if na + 1 ≤ 60 ∧ nu + ll ≤ 4000 then 1 else 0 := by
  unfold fn_co_fits
  rw [nI_l (show na < 2 ^ 31 by omega), nI_l (show nu < 2 ^ 31 by omega), nI_l (show ll < 2 ^ 31 by omega), lN_1, lN_add]
  have e60 : (60 : Int64) = lN 60 := by decide
  have e4 : (4000 : Int64) = lN 4000 := by decide
  rw [e60, e4]
  by_cases a : na + 1 ≤ 60
  · rw [if_neg (by rw [lN_lt (by decide) (by omega)]; omega)]
    by_cases b : nu + ll ≤ 4000
    · rw [if_neg (by rw [lN_lt (by decide) (by omega)]; omega), if_pos ⟨a, b⟩]
    · rw [if_pos (by rw [lN_lt (by decide) (by omega)]; omega), if_neg (fun q => b q.2)]
  · rw [if_pos (by rw [lN_lt (by decide) (by omega)]; omega), if_neg (fun q => a q.1)]
theorem zl_fitY {na nu ll : Nat} (h1 : na ≤ 60) (h2 : nu ≤ 4000) (h3 : ll ≤ 200) (h : ¬ fn_co_fits (nI na) (nI nu) 1 (nI ll).toInt64 = 0) : na + 1 ≤ 60 ∧ nu + ll ≤ 4000 := by
  rw [zl_fit na nu ll h1 h2 h3] at h
  by_cases a : na + 1 ≤ 60 ∧ nu + ll ≤ 4000
  · exact a
  · rw [if_neg a] at h; exact absurd rfl h
theorem zl_fitN {na nu ll : Nat} (h1 : na ≤ 60) (h2 : nu ≤ 4000) (h3 : ll ≤ 200) (h4 : na < 60) (h5 : nu + ll ≤ 4000) : ¬ fn_co_fits (nI na) (nI nu) 1 (nI ll).toInt64 = 0 := by
  rw [zl_fit na nu ll h1 h2 h3, if_pos ⟨by omega, h5⟩]; decide
theorem dX3_gridAt_0 : decode cX3_gridAt 0 = .ok (.iload_n 3, 1) := by decide +kernel
theorem dX3_gridAt_1 : decode cX3_gridAt 1 = .ok (.iconst 4, 1) := by decide +kernel
theorem dX3_gridAt_2 : decode cX3_gridAt 2 = .ok (.if_icmp .ge 21, 3) := by decide +kernel
theorem dX3_gridAt_5 : decode cX3_gridAt 5 = .ok (.aload_n 0, 1) := by decide +kernel
theorem dX3_gridAt_6 : decode cX3_gridAt 6 = .ok (.getfield 15, 3) := by decide +kernel
theorem dX3_gridAt_9 : decode cX3_gridAt 9 = .ok (.lconst 1, 1) := by decide +kernel
theorem dX3_gridAt_10 : decode cX3_gridAt 10 = .ok (.aload_n 0, 1) := by decide +kernel
theorem dX3_gridAt_11 : decode cX3_gridAt 11 = .ok (.getfield 9, 3) := by decide +kernel
theorem dX3_gridAt_14 : decode cX3_gridAt 14 = .ok (.iload_n 3, 1) := by decide +kernel
theorem dX3_gridAt_15 : decode cX3_gridAt 15 = .ok (.iaload, 1) := by decide +kernel
theorem dX3_gridAt_16 : decode cX3_gridAt 16 = .ok (.i2l, 1) := by decide +kernel
theorem dX3_gridAt_17 : decode cX3_gridAt 17 = .ok (.invokevirtual 19, 3) := by decide +kernel
theorem dX3_gridAt_20 : decode cX3_gridAt 20 = .ok (.ifCond .ne 5, 3) := by decide +kernel
theorem dX3_gridAt_25 : decode cX3_gridAt 25 = .ok (.aload_n 0, 1) := by decide +kernel
theorem dX3_gridAt_26 : decode cX3_gridAt 26 = .ok (.getfield 15, 3) := by decide +kernel
theorem dX3_gridAt_29 : decode cX3_gridAt 29 = .ok (.iload_n 1, 1) := by decide +kernel
theorem dX3_gridAt_30 : decode cX3_gridAt 30 = .ok (.iload_n 2, 1) := by decide +kernel
theorem dX3_gridAt_31 : decode cX3_gridAt 31 = .ok (.iload_n 3, 1) := by decide +kernel
theorem dX3_gridAt_32 : decode cX3_gridAt 32 = .ok (.isub, 1) := by decide +kernel
theorem dX3_gridAt_33 : decode cX3_gridAt 33 = .ok (.iconst (-1), 1) := by decide +kernel
theorem dX3_gridAt_34 : decode cX3_gridAt 34 = .ok (.aload_n 0, 1) := by decide +kernel
theorem dX3_gridAt_35 : decode cX3_gridAt 35 = .ok (.getfield 9, 3) := by decide +kernel
theorem dX3_gridAt_38 : decode cX3_gridAt 38 = .ok (.iload_n 3, 1) := by decide +kernel
theorem dX3_gridAt_39 : decode cX3_gridAt 39 = .ok (.iaload, 1) := by decide +kernel
theorem dX3_gridAt_40 : decode cX3_gridAt 40 = .ok (.invokevirtual 29, 3) := by decide +kernel
theorem zk_292 : Cond.methodLink RX3 29 yX6_add ∈ zz_w := zz_in (List.mem_append_right _ (List.mem_append_right _ (List.mem_append_left _ (List.mem_of_getElem? (i := 52) (by decide +kernel))))) rfl
theorem zc_X3_29 : zz_cV RX3 29 yX6_add cX6_add 7 (some .int) 4 := ⟨⟨zk_292, zk_249, zk_2, by decide, by decide, by decide +kernel⟩, zk_247, zk_248⟩
theorem dX3_gridAt_43 : decode cX3_gridAt 43 = .ok (.istore 4, 2) := by decide +kernel
theorem dX3_gridAt_45 : decode cX3_gridAt 45 = .ok (.iload_n 3, 1) := by decide +kernel
theorem dX3_gridAt_46 : decode cX3_gridAt 46 = .ok (.iconst 1, 1) := by decide +kernel
theorem dX3_gridAt_47 : decode cX3_gridAt 47 = .ok (.iadd, 1) := by decide +kernel
theorem dX3_gridAt_48 : decode cX3_gridAt 48 = .ok (.iload_n 2, 1) := by decide +kernel
theorem dX3_gridAt_49 : decode cX3_gridAt 49 = .ok (.if_icmp .ge 54, 3) := by decide +kernel
theorem dX3_gridAt_103 : decode cX3_gridAt 103 = .ok (.iload 4, 2) := by decide +kernel
theorem dX3_gridAt_105 : decode cX3_gridAt 105 = .ok (.ireturn, 1) := by decide +kernel
theorem dX3_gridAt_23 : decode cX3_gridAt 23 = .ok (.iconst (-1), 1) := by decide +kernel
theorem dX3_gridAt_24 : decode cX3_gridAt 24 = .ok (.ireturn, 1) := by decide +kernel
abbrev rm_co_gridAt1 : Room := { frames := 1, cells := 0, slots := 0, locals := 26 }
abbrev po_co_gridAt1 (g : zz_G) (mk : Nat) (st : Nat) (ml : Nat) (kd : Nat) (dp : Nat) (cl : Nat) (sa : Nat) (ln : Nat) (bt : Nat) (pn : Nat) (bf : Nat) (pa : Int32) (pe : Int32) (lf : Nat → Int32) (ll : Nat → Nat) (na : Nat) (nu : Nat) (t : Nat) (dd : Nat) (kdf : Nat → Int32) (dpf : Nat → Int32) (clf : Nat → Int32) (saf : Nat → Int32) (lnf : Nat → Int32) (btf : Nat → Int64) (k : Int32) (h_t : t + 1 = dd) (h_d : dd ≤ 4) (h_a : na ≤ 60) (h_u : nu ≤ 4000) (h_l : ∀ j, j < dd → lf j = nI (ll j) ∧ ll j ≤ 200) : Int32 → va_W → Prop := fun (r : Int32) (u : va_W) => ∃ (na2 : Nat) (nu2 : Nat) (kdf2 : Nat → Int32) (dpf2 : Nat → Int32) (clf2 : Nat → Int32) (saf2 : Nat → Int32) (lnf2 : Nat → Int32) (btf2 : Nat → Int64), (na ≤ na2 ∧ na2 ≤ 60 ∧ nu2 ≤ 4000) ∧ (∀ j, j < na → saf2 j = saf j) ∧ (na < 60 → nu + ll t ≤ 4000 → r = nI na) ∧ u = [(mk, .inr (2, [.ref st, .ref ml, .int pa, .int pe])), (ml, .inl (g.2.1, 4, .inl lf)), (st, .inr (5, [.int (nI na2), .int (nI nu2), .ref kd, .ref dp, .ref cl, .ref sa, .ref ln, .ref bt, .ref pn, .ref bf])), (kd, .inl (g.2.1, 60, .inl kdf2)), (dp, .inl (g.2.1, 60, .inl dpf2)), (cl, .inl (g.2.1, 60, .inl clf2)), (sa, .inl (g.2.1, 60, .inl saf2)), (ln, .inl (g.2.1, 60, .inl lnf2)), (bt, .inl (g.2.2.1, 4000, .inr (.inl btf2)))]
set_option maxHeartbeats 4000000 in
set_option maxRecDepth 100000 in
theorem co_gridAt1 (g : zz_G) (mk : Nat) (st : Nat) (ml : Nat) (kd : Nat) (dp : Nat) (cl : Nat) (sa : Nat) (ln : Nat) (bt : Nat) (pn : Nat) (bf : Nat) (pa : Int32) (pe : Int32) (lf : Nat → Int32) (ll : Nat → Nat) (na : Nat) (nu : Nat) (t : Nat) (dd : Nat) (kdf : Nat → Int32) (dpf : Nat → Int32) (clf : Nat → Int32) (saf : Nat → Int32) (lnf : Nat → Int32) (btf : Nat → Int64) (k : Int32) (h_t : t + 1 = dd) (h_d : dd ≤ 4) (h_a : na ≤ 60) (h_u : nu ≤ 4000) (h_l : ∀ j, j < dd → lf j = nI (ll j) ∧ ll j ≤ 200) : zz_I g yX3_gridAt (.code yX3_gridAt cX3_gridAt 6 (some .int)) rm_co_gridAt1 [.ref mk, .int k, .int (nI dd), .int (nI t)] [(mk, .inr (2, [.ref st, .ref ml, .int pa, .int pe])), (ml, .inl (g.2.1, 4, .inl lf)), (st, .inr (5, [.int (nI na), .int (nI nu), .ref kd, .ref dp, .ref cl, .ref sa, .ref ln, .ref bt, .ref pn, .ref bf])), (kd, .inl (g.2.1, 60, .inl kdf)), (dp, .inl (g.2.1, 60, .inl dpf)), (cl, .inl (g.2.1, 60, .inl clf)), (sa, .inl (g.2.1, 60, .inl saf)), (ln, .inl (g.2.1, 60, .inl lnf)), (bt, .inl (g.2.2.1, 4000, .inr (.inl btf)))] (po_co_gridAt1 g mk st ml kd dp cl sa ln bt pn bf pa pe lf ll na nu t dd kdf dpf clf saf lnf btf k h_t h_d h_a h_u h_l) := by
  refine zz_I.intro (own := RX3) (cc := cX3_gridAt) (nL := 6) (by decide) rfl (Nat.le_of_ble_eq_true rfl) ?_
  intro p l e s m args below meth c A H locs ls hC hnm hZ hl
  obtain ⟨hx, hb, hml, hown, hts, hr, hlocks, hK⟩ := id hC
  have hl : lv_has ls 6 [(0, .ref mk), (1, .int k), (2, .int (nI dd)), (3, .int (nI t))] := hl
  have hZ : zz_Z g A s.heap [(mk, .inr (2, [.ref st, .ref ml, .int pa, .int pe])), (ml, .inl (g.2.1, 4, .inl lf)), (st, .inr (5, [.int (nI na), .int (nI nu), .ref kd, .ref dp, .ref cl, .ref sa, .ref ln, .ref bt, .ref pn, .ref bf])), (kd, .inl (g.2.1, 60, .inl kdf)), (dp, .inl (g.2.1, 60, .inl dpf)), (cl, .inl (g.2.1, 60, .inl clf)), (sa, .inl (g.2.1, 60, .inl saf)), (ln, .inl (g.2.1, 60, .inl lnf)), (bt, .inl (g.2.2.1, 4000, .inr (.inl btf)))] H locs := hZ
  refine lv_iload_n hx hb dX3_gridAt_0 rfl (lv_at hl 3 rfl) ?_
  refine lv_iconst (v := 4) hx hb dX3_gridAt_1 (by decide) ?_
  refine lv_icmp_ge (tgt := 23) hx hb dX3_gridAt_2 (by decide) (fun c => absurd c ((nI_ge (b := 4) (by omega) (by decide) : ¬ nI 4 ≤ nI t))) (fun c1 => ?_)
  refine lv_aload_n hx hb dX3_gridAt_5 rfl (lv_at hl 0 rfl) ?_
  refine zz_get hC hZ 0 rfl zf_X3_15 rfl dX3_gridAt_6 ?_
  refine lv_lconst (v := 1) hx hb dX3_gridAt_9 (by decide) ?_
  refine lv_aload_n hx hb dX3_gridAt_10 rfl (lv_at hl 0 rfl) ?_
  refine zz_get hC hZ 0 rfl zf_X3_9 rfl dX3_gridAt_11 ?_
  refine lv_iload_n hx hb dX3_gridAt_14 rfl (lv_at hl 3 rfl) ?_
  refine zz_iald hC hZ 1 rfl (vp_in_nI (by omega) (by decide)) dX3_gridAt_15 ?_
  rw [nI_clamp (n := t) (by omega)]
  refine zz_topi (v := nI (ll t)) ((h_l t (by omega)).1) ?_
  refine lv_i2l hx hb dX3_gridAt_16 rfl ?_
  refine zz_iV (As := [.long 1, .long ((nI (ll t)).toInt64)]) (wc := [(st, .inr (5, [.int (nI na), .int (nI nu), .ref kd, .ref dp, .ref cl, .ref sa, .ref ln, .ref bt, .ref pn, .ref bf]))]) (wr := [(mk, .inr (2, [.ref st, .ref ml, .int pa, .int pe])), (ml, .inl (g.2.1, 4, .inl lf)), (kd, .inl (g.2.1, 60, .inl kdf)), (dp, .inl (g.2.1, 60, .inl dpf)), (cl, .inl (g.2.1, 60, .inl clf)), (sa, .inl (g.2.1, 60, .inl saf)), (ln, .inl (g.2.1, 60, .inl lnf)), (bt, .inl (g.2.2.1, 4000, .inr (.inl btf)))]) (rest := []) hC hZ hl zc_X3_19 (co_fits g st kd dp cl sa ln bt pn bf (nI na) (nI nu) 1 ((nI (ll t)).toInt64)) [2] [0, 1, 3, 4, 5, 6, 7, 8] rfl rfl (by decide) (ci := 5) (q0 := 0) rfl rfl rfl rfl (Nat.le_of_ble_eq_true rfl) ⟨⟨Nat.le_of_ble_eq_true rfl, Nat.le_of_ble_eq_true rfl⟩, Nat.le_of_ble_eq_true rfl, Nat.le_of_ble_eq_true rfl⟩ dX3_gridAt_17 (fun r2 u3 H locs hp hZ => ?_)
  obtain ⟨rfl, rfl⟩ := hp
  have hZ : zz_Z g A s.heap [(mk, .inr (2, [.ref st, .ref ml, .int pa, .int pe])), (ml, .inl (g.2.1, 4, .inl lf)), (kd, .inl (g.2.1, 60, .inl kdf)), (dp, .inl (g.2.1, 60, .inl dpf)), (cl, .inl (g.2.1, 60, .inl clf)), (sa, .inl (g.2.1, 60, .inl saf)), (ln, .inl (g.2.1, 60, .inl lnf)), (bt, .inl (g.2.2.1, 4000, .inr (.inl btf))), (st, .inr (5, [.int (nI na), .int (nI nu), .ref kd, .ref dp, .ref cl, .ref sa, .ref ln, .ref bt, .ref pn, .ref bf]))] H locs := hZ
  refine lv_if_ne (tgt := 25) hx hb dX3_gridAt_20 (by decide) (fun c4 => ?_) (fun c4 => ?_)
  · have hfit : na + 1 ≤ 60 ∧ nu + ll t ≤ 4000 := zl_fitY (by omega) (by omega) (h_l t (by omega)).2 c4
    refine lv_aload_n hx hb dX3_gridAt_25 rfl (lv_at hl 0 rfl) ?_
    refine zz_get hC hZ 0 rfl zf_X3_15 rfl dX3_gridAt_26 ?_
    refine lv_iload_n hx hb dX3_gridAt_29 rfl (lv_at hl 1 rfl) ?_
    refine lv_iload_n hx hb dX3_gridAt_30 rfl (lv_at hl 2 rfl) ?_
    refine lv_iload_n hx hb dX3_gridAt_31 rfl (lv_at hl 3 rfl) ?_
    refine lv_isub hx hb dX3_gridAt_32 ?_
    refine lv_iconst (v := -1) hx hb dX3_gridAt_33 (by decide) ?_
    refine lv_aload_n hx hb dX3_gridAt_34 rfl (lv_at hl 0 rfl) ?_
    refine zz_get hC hZ 0 rfl zf_X3_9 rfl dX3_gridAt_35 ?_
    refine lv_iload_n hx hb dX3_gridAt_38 rfl (lv_at hl 3 rfl) ?_
    refine zz_iald hC hZ 1 rfl (vp_in_nI (by omega) (by decide)) dX3_gridAt_39 ?_
    rw [nI_clamp (n := t) (by omega)]
    refine zz_topi (v := nI (ll t)) ((h_l t (by omega)).1) ?_
    refine zz_iV (As := [.int k, .int ((nI dd) - (nI t)), .int (-1), .int (nI (ll t))]) (wc := [(st, .inr (5, [.int (nI na), .int (nI nu), .ref kd, .ref dp, .ref cl, .ref sa, .ref ln, .ref bt, .ref pn, .ref bf])), (kd, .inl (g.2.1, 60, .inl kdf)), (dp, .inl (g.2.1, 60, .inl dpf)), (cl, .inl (g.2.1, 60, .inl clf)), (sa, .inl (g.2.1, 60, .inl saf)), (ln, .inl (g.2.1, 60, .inl lnf)), (bt, .inl (g.2.2.1, 4000, .inr (.inl btf)))]) (wr := [(mk, .inr (2, [.ref st, .ref ml, .int pa, .int pe])), (ml, .inl (g.2.1, 4, .inl lf))]) (rest := []) hC hZ hl zc_X3_29 (co_add g st kd dp cl sa ln bt pn bf na nu (ll t) kdf dpf clf saf lnf btf k ((nI dd) - (nI t)) (-1) (by omega) (by omega)) [8, 2, 3, 4, 5, 6, 7] [0, 1] rfl rfl (by decide) (ci := 5) (q0 := 0) rfl rfl rfl rfl (Nat.le_of_ble_eq_true rfl) ⟨⟨Nat.le_of_ble_eq_true rfl, Nat.le_of_ble_eq_true rfl⟩, Nat.le_of_ble_eq_true rfl, Nat.le_of_ble_eq_true rfl⟩ dX3_gridAt_40 (fun r5 u6 H locs hp hZ => ?_)
    obtain ⟨bt2_7, rfl, rfl⟩ := hp
    have hZ : zz_Z g A s.heap [(mk, .inr (2, [.ref st, .ref ml, .int pa, .int pe])), (ml, .inl (g.2.1, 4, .inl lf)), (st, .inr (5, [.int (nI (na + 1)), .int (nI (nu + (ll t))), .ref kd, .ref dp, .ref cl, .ref sa, .ref ln, .ref bt, .ref pn, .ref bf])), (kd, .inl (g.2.1, 60, .inl (upd kdf na k))), (dp, .inl (g.2.1, 60, .inl (upd dpf na ((nI dd) - (nI t))))), (cl, .inl (g.2.1, 60, .inl (upd clf na (-1)))), (sa, .inl (g.2.1, 60, .inl (upd saf na (nI nu)))), (ln, .inl (g.2.1, 60, .inl (upd lnf na (nI (ll t))))), (bt, .inl (g.2.2.1, 4000, .inr (.inl bt2_7)))] H locs := hZ
    refine lv_istore (lv' := [(4, .int (nI na)), (0, .ref mk), (1, .int k), (2, .int (nI dd)), (3, .int (nI t))]) hx hb dX3_gridAt_43 hl (by decide) rfl (fun ls hl => ?_)
    refine lv_iload_n hx hb dX3_gridAt_45 rfl (lv_at hl 4 rfl) ?_
    refine lv_iconst (v := 1) hx hb dX3_gridAt_46 (by decide) ?_
    refine lv_iadd hx hb dX3_gridAt_47 ?_
    refine zz_topi (v := nI (t + 1)) (nI_1 _) ?_
    refine lv_iload_n hx hb dX3_gridAt_48 rfl (lv_at hl 3 rfl) ?_
    refine lv_icmp_ge (tgt := 103) hx hb dX3_gridAt_49 (by decide) (fun c8 => ?_) (fun c => absurd (nI_le (by omega) (by omega)) c)
    refine lv_iload hx hb dX3_gridAt_103 (lv_at hl 0 rfl) ?_
    exact zz_iret hC hZ (⟨(na + 1), (nu + (ll t)), (upd kdf na k), (upd dpf na ((nI dd) - (nI t))), (upd clf na (-1)), (upd saf na (nI nu)), (upd lnf na (nI (ll t))), bt2_7, ⟨by omega, by omega, by omega⟩, fun j hj => pk_un (by omega), fun _ _ => rfl, rfl⟩) (Nat.le_of_ble_eq_true rfl) (Nat.le_of_ble_eq_true rfl) dX3_gridAt_105
  · refine lv_iconst (v := -1) hx hb dX3_gridAt_23 (by decide) ?_
    have hZ : zz_Z g A s.heap [(mk, .inr (2, [.ref st, .ref ml, .int pa, .int pe])), (ml, .inl (g.2.1, 4, .inl lf)), (st, .inr (5, [.int (nI na), .int (nI nu), .ref kd, .ref dp, .ref cl, .ref sa, .ref ln, .ref bt, .ref pn, .ref bf])), (kd, .inl (g.2.1, 60, .inl kdf)), (dp, .inl (g.2.1, 60, .inl dpf)), (cl, .inl (g.2.1, 60, .inl clf)), (sa, .inl (g.2.1, 60, .inl saf)), (ln, .inl (g.2.1, 60, .inl lnf)), (bt, .inl (g.2.2.1, 4000, .inr (.inl btf)))] H locs := hZ.sub [0, 1, 8, 2, 3, 4, 5, 6, 7] (by decide) rfl
    exact zz_iret hC hZ (⟨na, nu, kdf, dpf, clf, saf, lnf, btf, ⟨by omega, by omega, by omega⟩, fun _ _ => rfl, fun h6 h7 => absurd c4 (zl_fitN (by omega) (by omega) (h_l t (by omega)).2 h6 h7), rfl⟩) (Nat.le_of_ble_eq_true rfl) (Nat.le_of_ble_eq_true rfl) dX3_gridAt_24
theorem dX3_gridAt_52 : decode cX3_gridAt 52 = .ok (.iconst 0, 1) := by decide +kernel
theorem dX3_gridAt_53 : decode cX3_gridAt 53 = .ok (.istore 5, 2) := by decide +kernel
theorem dX3_gridAt_55 : decode cX3_gridAt 55 = .ok (.iload 5, 2) := by decide +kernel
theorem dX3_gridAt_57 : decode cX3_gridAt 57 = .ok (.aload_n 0, 1) := by decide +kernel
theorem dX3_gridAt_58 : decode cX3_gridAt 58 = .ok (.getfield 9, 3) := by decide +kernel
theorem dX3_gridAt_61 : decode cX3_gridAt 61 = .ok (.iload_n 3, 1) := by decide +kernel
theorem dX3_gridAt_62 : decode cX3_gridAt 62 = .ok (.iaload, 1) := by decide +kernel
theorem dX3_gridAt_63 : decode cX3_gridAt 63 = .ok (.if_icmp .ge 40, 3) := by decide +kernel
theorem dX3_gridAt_66 : decode cX3_gridAt 66 = .ok (.aload_n 0, 1) := by decide +kernel
theorem dX3_gridAt_67 : decode cX3_gridAt 67 = .ok (.getfield 15, 3) := by decide +kernel
theorem dX3_gridAt_70 : decode cX3_gridAt 70 = .ok (.getfield 33, 3) := by decide +kernel
theorem zk_57 : Cond.fieldLink RX3 33 RX6 "bits" "[J" ∈ zz_w := zz_in (List.mem_append_right _ (List.mem_append_left _ (List.mem_of_getElem? (i := 57) (by decide +kernel)))) rfl
theorem zf_X3_33 : zz_f RX3 33 5 7 := ⟨RX6, TX6, 10, rfl, zi_X6, by decide, zk_57⟩
theorem dX3_gridAt_73 : decode cX3_gridAt 73 = .ok (.aload_n 0, 1) := by decide +kernel
theorem dX3_gridAt_74 : decode cX3_gridAt 74 = .ok (.getfield 15, 3) := by decide +kernel
theorem dX3_gridAt_77 : decode cX3_gridAt 77 = .ok (.getfield 37, 3) := by decide +kernel
theorem zk_46 : Cond.fieldLink RX3 37 RX6 "start" "[I" ∈ zz_w := zz_in (List.mem_append_right _ (List.mem_append_left _ (List.mem_of_getElem? (i := 46) (by decide +kernel)))) rfl
theorem zf_X3_37 : zz_f RX3 37 5 5 := ⟨RX6, TX6, 10, rfl, zi_X6, by decide, zk_46⟩
theorem dX3_gridAt_80 : decode cX3_gridAt 80 = .ok (.iload 4, 2) := by decide +kernel
theorem dX3_gridAt_82 : decode cX3_gridAt 82 = .ok (.iaload, 1) := by decide +kernel
theorem dX3_gridAt_83 : decode cX3_gridAt 83 = .ok (.iload 5, 2) := by decide +kernel
theorem dX3_gridAt_85 : decode cX3_gridAt 85 = .ok (.iadd, 1) := by decide +kernel
theorem dX3_gridAt_86 : decode cX3_gridAt 86 = .ok (.aload_n 0, 1) := by decide +kernel
theorem dX3_gridAt_87 : decode cX3_gridAt 87 = .ok (.iload_n 1, 1) := by decide +kernel
theorem dX3_gridAt_88 : decode cX3_gridAt 88 = .ok (.iload_n 2, 1) := by decide +kernel
theorem dX3_gridAt_89 : decode cX3_gridAt 89 = .ok (.iload_n 3, 1) := by decide +kernel
theorem dX3_gridAt_90 : decode cX3_gridAt 90 = .ok (.iconst 1, 1) := by decide +kernel
theorem dX3_gridAt_91 : decode cX3_gridAt 91 = .ok (.iadd, 1) := by decide +kernel
theorem dX3_gridAt_92 : decode cX3_gridAt 92 = .ok (.invokevirtual 25, 3) := by decide +kernel
theorem zk_288 : Cond.methodLink RX3 25 yX3_gridAt ∈ zz_w := zz_in (List.mem_append_right _ (List.mem_append_right _ (List.mem_append_left _ (List.mem_of_getElem? (i := 48) (by decide +kernel))))) rfl
set_option maxRecDepth 20000 in
theorem zk_291 : Cond.code yX3_gridAt cX3_gridAt 6 (some .int) ∈ zz_w := zz_in (List.mem_append_right _ (List.mem_append_right _ (List.mem_append_left _ (List.mem_of_getElem? (i := 51) (rfl))))) rfl
theorem zk_290 : Cond.instanceMethod yX3_gridAt ∈ zz_w := zz_in (List.mem_append_right _ (List.mem_append_right _ (List.mem_append_left _ (List.mem_of_getElem? (i := 50) (by decide +kernel))))) rfl
theorem zs_3 : Cond.selects RX3 yX3_gridAt yX3_gridAt ∈ zz_w := zz_in (List.mem_append_left _ (List.mem_of_getElem? (i := 3) (by decide +kernel))) rfl
theorem zc_X3_25 : zz_cV RX3 25 yX3_gridAt cX3_gridAt 6 (some .int) 3 := ⟨⟨zk_288, zk_291, zk_3, by decide, by decide, by decide +kernel⟩, zk_290, zs_3⟩
theorem dX3_gridAt_95 : decode cX3_gridAt 95 = .ok (.i2l, 1) := by decide +kernel
theorem dX3_gridAt_96 : decode cX3_gridAt 96 = .ok (.lastore, 1) := by decide +kernel
theorem dX3_gridAt_97 : decode cX3_gridAt 97 = .ok (.iinc 5 1, 3) := by decide +kernel
theorem dX3_gridAt_100 : decode cX3_gridAt 100 = .ok (.goto (-45), 3) := by decide +kernel
abbrev rm_co_gridAt2 : Room := { frames := 2, cells := 0, slots := 0, locals := 51 }
abbrev po_co_gridAt2 (g : zz_G) (mk : Nat) (st : Nat) (ml : Nat) (kd : Nat) (dp : Nat) (cl : Nat) (sa : Nat) (ln : Nat) (bt : Nat) (pn : Nat) (bf : Nat) (pa : Int32) (pe : Int32) (lf : Nat → Int32) (ll : Nat → Nat) (na : Nat) (nu : Nat) (t : Nat) (dd : Nat) (kdf : Nat → Int32) (dpf : Nat → Int32) (clf : Nat → Int32) (saf : Nat → Int32) (lnf : Nat → Int32) (btf : Nat → Int64) (k : Int32) (h_t : t + 2 = dd) (h_d : dd ≤ 4) (h_a : na ≤ 60) (h_u : nu ≤ 4000) (h_l : ∀ j, j < dd → lf j = nI (ll j) ∧ ll j ≤ 200) : Int32 → va_W → Prop := fun (r : Int32) (u : va_W) => ∃ (na2 : Nat) (nu2 : Nat) (kdf2 : Nat → Int32) (dpf2 : Nat → Int32) (clf2 : Nat → Int32) (saf2 : Nat → Int32) (lnf2 : Nat → Int32) (btf2 : Nat → Int64), (na ≤ na2 ∧ na2 ≤ 60 ∧ nu2 ≤ 4000) ∧ (∀ j, j < na → saf2 j = saf j) ∧ (na < 60 → nu + ll t ≤ 4000 → r = nI na) ∧ u = [(mk, .inr (2, [.ref st, .ref ml, .int pa, .int pe])), (ml, .inl (g.2.1, 4, .inl lf)), (st, .inr (5, [.int (nI na2), .int (nI nu2), .ref kd, .ref dp, .ref cl, .ref sa, .ref ln, .ref bt, .ref pn, .ref bf])), (kd, .inl (g.2.1, 60, .inl kdf2)), (dp, .inl (g.2.1, 60, .inl dpf2)), (cl, .inl (g.2.1, 60, .inl clf2)), (sa, .inl (g.2.1, 60, .inl saf2)), (ln, .inl (g.2.1, 60, .inl lnf2)), (bt, .inl (g.2.2.1, 4000, .inr (.inl btf2)))]
set_option maxHeartbeats 4000000 in
set_option maxRecDepth 100000 in
theorem co_gridAt2 (g : zz_G) (mk : Nat) (st : Nat) (ml : Nat) (kd : Nat) (dp : Nat) (cl : Nat) (sa : Nat) (ln : Nat) (bt : Nat) (pn : Nat) (bf : Nat) (pa : Int32) (pe : Int32) (lf : Nat → Int32) (ll : Nat → Nat) (na : Nat) (nu : Nat) (t : Nat) (dd : Nat) (kdf : Nat → Int32) (dpf : Nat → Int32) (clf : Nat → Int32) (saf : Nat → Int32) (lnf : Nat → Int32) (btf : Nat → Int64) (k : Int32) (h_t : t + 2 = dd) (h_d : dd ≤ 4) (h_a : na ≤ 60) (h_u : nu ≤ 4000) (h_l : ∀ j, j < dd → lf j = nI (ll j) ∧ ll j ≤ 200) : zz_I g yX3_gridAt (.code yX3_gridAt cX3_gridAt 6 (some .int)) rm_co_gridAt2 [.ref mk, .int k, .int (nI dd), .int (nI t)] [(mk, .inr (2, [.ref st, .ref ml, .int pa, .int pe])), (ml, .inl (g.2.1, 4, .inl lf)), (st, .inr (5, [.int (nI na), .int (nI nu), .ref kd, .ref dp, .ref cl, .ref sa, .ref ln, .ref bt, .ref pn, .ref bf])), (kd, .inl (g.2.1, 60, .inl kdf)), (dp, .inl (g.2.1, 60, .inl dpf)), (cl, .inl (g.2.1, 60, .inl clf)), (sa, .inl (g.2.1, 60, .inl saf)), (ln, .inl (g.2.1, 60, .inl lnf)), (bt, .inl (g.2.2.1, 4000, .inr (.inl btf)))] (po_co_gridAt2 g mk st ml kd dp cl sa ln bt pn bf pa pe lf ll na nu t dd kdf dpf clf saf lnf btf k h_t h_d h_a h_u h_l) := by
  refine zz_I.intro (own := RX3) (cc := cX3_gridAt) (nL := 6) (by decide) rfl (Nat.le_of_ble_eq_true rfl) ?_
  intro p l e s m args below meth c A H locs ls hC hnm hZ hl
  obtain ⟨hx, hb, hml, hown, hts, hr, hlocks, hK⟩ := id hC
  have hl : lv_has ls 6 [(0, .ref mk), (1, .int k), (2, .int (nI dd)), (3, .int (nI t))] := hl
  have hZ : zz_Z g A s.heap [(mk, .inr (2, [.ref st, .ref ml, .int pa, .int pe])), (ml, .inl (g.2.1, 4, .inl lf)), (st, .inr (5, [.int (nI na), .int (nI nu), .ref kd, .ref dp, .ref cl, .ref sa, .ref ln, .ref bt, .ref pn, .ref bf])), (kd, .inl (g.2.1, 60, .inl kdf)), (dp, .inl (g.2.1, 60, .inl dpf)), (cl, .inl (g.2.1, 60, .inl clf)), (sa, .inl (g.2.1, 60, .inl saf)), (ln, .inl (g.2.1, 60, .inl lnf)), (bt, .inl (g.2.2.1, 4000, .inr (.inl btf)))] H locs := hZ
  refine lv_iload_n hx hb dX3_gridAt_0 rfl (lv_at hl 3 rfl) ?_
  refine lv_iconst (v := 4) hx hb dX3_gridAt_1 (by decide) ?_
  refine lv_icmp_ge (tgt := 23) hx hb dX3_gridAt_2 (by decide) (fun c => absurd c ((nI_ge (b := 4) (by omega) (by decide) : ¬ nI 4 ≤ nI t))) (fun c1 => ?_)
  refine lv_aload_n hx hb dX3_gridAt_5 rfl (lv_at hl 0 rfl) ?_
  refine zz_get hC hZ 0 rfl zf_X3_15 rfl dX3_gridAt_6 ?_
  refine lv_lconst (v := 1) hx hb dX3_gridAt_9 (by decide) ?_
  refine lv_aload_n hx hb dX3_gridAt_10 rfl (lv_at hl 0 rfl) ?_
  refine zz_get hC hZ 0 rfl zf_X3_9 rfl dX3_gridAt_11 ?_
  refine lv_iload_n hx hb dX3_gridAt_14 rfl (lv_at hl 3 rfl) ?_
  refine zz_iald hC hZ 1 rfl (vp_in_nI (by omega) (by decide)) dX3_gridAt_15 ?_
  rw [nI_clamp (n := t) (by omega)]
  refine zz_topi (v := nI (ll t)) ((h_l t (by omega)).1) ?_
  refine lv_i2l hx hb dX3_gridAt_16 rfl ?_
  refine zz_iV (As := [.long 1, .long ((nI (ll t)).toInt64)]) (wc := [(st, .inr (5, [.int (nI na), .int (nI nu), .ref kd, .ref dp, .ref cl, .ref sa, .ref ln, .ref bt, .ref pn, .ref bf]))]) (wr := [(mk, .inr (2, [.ref st, .ref ml, .int pa, .int pe])), (ml, .inl (g.2.1, 4, .inl lf)), (kd, .inl (g.2.1, 60, .inl kdf)), (dp, .inl (g.2.1, 60, .inl dpf)), (cl, .inl (g.2.1, 60, .inl clf)), (sa, .inl (g.2.1, 60, .inl saf)), (ln, .inl (g.2.1, 60, .inl lnf)), (bt, .inl (g.2.2.1, 4000, .inr (.inl btf)))]) (rest := []) hC hZ hl zc_X3_19 (co_fits g st kd dp cl sa ln bt pn bf (nI na) (nI nu) 1 ((nI (ll t)).toInt64)) [2] [0, 1, 3, 4, 5, 6, 7, 8] rfl rfl (by decide) (ci := 5) (q0 := 0) rfl rfl rfl rfl (Nat.le_of_ble_eq_true rfl) ⟨⟨Nat.le_of_ble_eq_true rfl, Nat.le_of_ble_eq_true rfl⟩, Nat.le_of_ble_eq_true rfl, Nat.le_of_ble_eq_true rfl⟩ dX3_gridAt_17 (fun r2 u3 H locs hp hZ => ?_)
  obtain ⟨rfl, rfl⟩ := hp
  have hZ : zz_Z g A s.heap [(mk, .inr (2, [.ref st, .ref ml, .int pa, .int pe])), (ml, .inl (g.2.1, 4, .inl lf)), (kd, .inl (g.2.1, 60, .inl kdf)), (dp, .inl (g.2.1, 60, .inl dpf)), (cl, .inl (g.2.1, 60, .inl clf)), (sa, .inl (g.2.1, 60, .inl saf)), (ln, .inl (g.2.1, 60, .inl lnf)), (bt, .inl (g.2.2.1, 4000, .inr (.inl btf))), (st, .inr (5, [.int (nI na), .int (nI nu), .ref kd, .ref dp, .ref cl, .ref sa, .ref ln, .ref bt, .ref pn, .ref bf]))] H locs := hZ
  refine lv_if_ne (tgt := 25) hx hb dX3_gridAt_20 (by decide) (fun c4 => ?_) (fun c4 => ?_)
  · have hfit : na + 1 ≤ 60 ∧ nu + ll t ≤ 4000 := zl_fitY (by omega) (by omega) (h_l t (by omega)).2 c4
    refine lv_aload_n hx hb dX3_gridAt_25 rfl (lv_at hl 0 rfl) ?_
    refine zz_get hC hZ 0 rfl zf_X3_15 rfl dX3_gridAt_26 ?_
    refine lv_iload_n hx hb dX3_gridAt_29 rfl (lv_at hl 1 rfl) ?_
    refine lv_iload_n hx hb dX3_gridAt_30 rfl (lv_at hl 2 rfl) ?_
    refine lv_iload_n hx hb dX3_gridAt_31 rfl (lv_at hl 3 rfl) ?_
    refine lv_isub hx hb dX3_gridAt_32 ?_
    refine lv_iconst (v := -1) hx hb dX3_gridAt_33 (by decide) ?_
    refine lv_aload_n hx hb dX3_gridAt_34 rfl (lv_at hl 0 rfl) ?_
    refine zz_get hC hZ 0 rfl zf_X3_9 rfl dX3_gridAt_35 ?_
    refine lv_iload_n hx hb dX3_gridAt_38 rfl (lv_at hl 3 rfl) ?_
    refine zz_iald hC hZ 1 rfl (vp_in_nI (by omega) (by decide)) dX3_gridAt_39 ?_
    rw [nI_clamp (n := t) (by omega)]
    refine zz_topi (v := nI (ll t)) ((h_l t (by omega)).1) ?_
    refine zz_iV (As := [.int k, .int ((nI dd) - (nI t)), .int (-1), .int (nI (ll t))]) (wc := [(st, .inr (5, [.int (nI na), .int (nI nu), .ref kd, .ref dp, .ref cl, .ref sa, .ref ln, .ref bt, .ref pn, .ref bf])), (kd, .inl (g.2.1, 60, .inl kdf)), (dp, .inl (g.2.1, 60, .inl dpf)), (cl, .inl (g.2.1, 60, .inl clf)), (sa, .inl (g.2.1, 60, .inl saf)), (ln, .inl (g.2.1, 60, .inl lnf)), (bt, .inl (g.2.2.1, 4000, .inr (.inl btf)))]) (wr := [(mk, .inr (2, [.ref st, .ref ml, .int pa, .int pe])), (ml, .inl (g.2.1, 4, .inl lf))]) (rest := []) hC hZ hl zc_X3_29 (co_add g st kd dp cl sa ln bt pn bf na nu (ll t) kdf dpf clf saf lnf btf k ((nI dd) - (nI t)) (-1) (by omega) (by omega)) [8, 2, 3, 4, 5, 6, 7] [0, 1] rfl rfl (by decide) (ci := 5) (q0 := 0) rfl rfl rfl rfl (Nat.le_of_ble_eq_true rfl) ⟨⟨Nat.le_of_ble_eq_true rfl, Nat.le_of_ble_eq_true rfl⟩, Nat.le_of_ble_eq_true rfl, Nat.le_of_ble_eq_true rfl⟩ dX3_gridAt_40 (fun r5 u6 H locs hp hZ => ?_)
    obtain ⟨bt2_7, rfl, rfl⟩ := hp
    have hZ : zz_Z g A s.heap [(mk, .inr (2, [.ref st, .ref ml, .int pa, .int pe])), (ml, .inl (g.2.1, 4, .inl lf)), (st, .inr (5, [.int (nI (na + 1)), .int (nI (nu + (ll t))), .ref kd, .ref dp, .ref cl, .ref sa, .ref ln, .ref bt, .ref pn, .ref bf])), (kd, .inl (g.2.1, 60, .inl (upd kdf na k))), (dp, .inl (g.2.1, 60, .inl (upd dpf na ((nI dd) - (nI t))))), (cl, .inl (g.2.1, 60, .inl (upd clf na (-1)))), (sa, .inl (g.2.1, 60, .inl (upd saf na (nI nu)))), (ln, .inl (g.2.1, 60, .inl (upd lnf na (nI (ll t))))), (bt, .inl (g.2.2.1, 4000, .inr (.inl bt2_7)))] H locs := hZ
    refine lv_istore (lv' := [(4, .int (nI na)), (0, .ref mk), (1, .int k), (2, .int (nI dd)), (3, .int (nI t))]) hx hb dX3_gridAt_43 hl (by decide) rfl (fun ls hl => ?_)
    refine lv_iload_n hx hb dX3_gridAt_45 rfl (lv_at hl 4 rfl) ?_
    refine lv_iconst (v := 1) hx hb dX3_gridAt_46 (by decide) ?_
    refine lv_iadd hx hb dX3_gridAt_47 ?_
    refine zz_topi (v := nI (t + 1)) (nI_1 _) ?_
    refine lv_iload_n hx hb dX3_gridAt_48 rfl (lv_at hl 3 rfl) ?_
    refine lv_icmp_ge (tgt := 103) hx hb dX3_gridAt_49 (by decide) (fun c => absurd c (nI_ge (by omega) (by omega))) (fun c8 => ?_)
    refine lv_iconst (v := 0) hx hb dX3_gridAt_52 (by decide) ?_
    refine lv_istore (lv' := [(5, .int 0), (4, .int (nI na)), (0, .ref mk), (1, .int k), (2, .int (nI dd)), (3, .int (nI t))]) hx hb dX3_gridAt_53 hl (by decide) rfl (fun ls hl => ?_)
    have LP9 : ∀ (N : Nat) (i : Nat) (na1 : Nat) (nu1 : Nat) (kd1 : Nat → Int32) (dp1 : Nat → Int32) (cl1 : Nat → Int32) (sa1 : Nat → Int32) (ln1 : Nat → Int32) (bt1 : Nat → Int64) (H : Heap) (locs : List Loc) (ls : Array Slot), (i ≤ ll t) → (na + 1 ≤ na1 ∧ na1 ≤ 60 ∧ nu1 ≤ 4000) → (sa1 na = nI nu) → (∀ j, j < na → sa1 j = saf j) → (ll t - i) < N → zz_Z g A s.heap [(mk, .inr (2, [.ref st, .ref ml, .int pa, .int pe])), (ml, .inl (g.2.1, 4, .inl lf)), (st, .inr (5, [.int (nI na1), .int (nI nu1), .ref kd, .ref dp, .ref cl, .ref sa, .ref ln, .ref bt, .ref pn, .ref bf])), (kd, .inl (g.2.1, 60, .inl kd1)), (dp, .inl (g.2.1, 60, .inl dp1)), (cl, .inl (g.2.1, 60, .inl cl1)), (sa, .inl (g.2.1, 60, .inl sa1)), (ln, .inl (g.2.1, 60, .inl ln1)), (bt, .inl (g.2.2.1, 4000, .inr (.inl bt1)))] H locs → lv_has ls 6 [(5, .int (nI i)), (4, .int (nI na)), (0, .ref mk), (1, .int k), (2, .int (nI dd)), (3, .int (nI t))] → W p l e rm_co_gridAt2 s m args below meth c H locs 0 0 (zz_QI below g args s A rm_co_gridAt2.cells rm_co_gridAt2.slots (po_co_gridAt2 g mk st ml kd dp cl sa ln bt pn bf pa pe lf ll na nu t dd kdf dpf clf saf lnf btf k h_t h_d h_a h_u h_l)) (F0 m 55 ls []) := by
      intro N
      induction N with
      | zero =>
        intro i na1 nu1 kd1 dp1 cl1 sa1 ln1 bt1 H locs ls h1 h2 h4 h5 hN
        exact absurd hN (Nat.not_lt_zero _)
      | succ N ih =>
        intro i na1 nu1 kd1 dp1 cl1 sa1 ln1 bt1 H locs ls h1 h2 h4 h5 hN hZ hl
        refine lv_iload hx hb dX3_gridAt_55 (lv_at hl 0 rfl) ?_
        refine lv_aload_n hx hb dX3_gridAt_57 rfl (lv_at hl 2 rfl) ?_
        refine zz_get hC hZ 0 rfl zf_X3_9 rfl dX3_gridAt_58 ?_
        refine lv_iload_n hx hb dX3_gridAt_61 rfl (lv_at hl 5 rfl) ?_
        refine zz_iald hC hZ 1 rfl (vp_in_nI (by omega) (by decide)) dX3_gridAt_62 ?_
        rw [nI_clamp (n := t) (by omega)]
        refine zz_topi (v := nI (ll t)) ((h_l t (by omega)).1) ?_
        refine lv_icmp_ge (tgt := 103) hx hb dX3_gridAt_63 (by decide) (fun c10 => ?_) (fun c10 => ?_)
        · have nc10 : (ll t) ≤ i := (nI_leI (by omega) (by omega)).mp (show nI ((ll t)) ≤ nI (i) from c10)
          refine lv_iload hx hb dX3_gridAt_103 (lv_at hl 1 rfl) ?_
          exact zz_iret hC hZ (⟨na1, nu1, kd1, dp1, cl1, sa1, ln1, bt1, ⟨by omega, by omega, by omega⟩, h5, fun _ _ => rfl, rfl⟩) (Nat.le_of_ble_eq_true rfl) (Nat.le_of_ble_eq_true rfl) dX3_gridAt_105
        · have nc10 : ¬ (ll t) ≤ i := fun q => c10 (show nI ((ll t)) ≤ nI (i) from (nI_leI (by omega) (by omega)).mpr q)
          refine lv_aload_n hx hb dX3_gridAt_66 rfl (lv_at hl 2 rfl) ?_
          refine zz_get hC hZ 0 rfl zf_X3_15 rfl dX3_gridAt_67 ?_
          refine zz_get hC hZ 2 rfl zf_X3_33 rfl dX3_gridAt_70 ?_
          refine lv_aload_n hx hb dX3_gridAt_73 rfl (lv_at hl 2 rfl) ?_
          refine zz_get hC hZ 0 rfl zf_X3_15 rfl dX3_gridAt_74 ?_
          refine zz_get hC hZ 2 rfl zf_X3_37 rfl dX3_gridAt_77 ?_
          refine lv_iload hx hb dX3_gridAt_80 (lv_at hl 1 rfl) ?_
          refine zz_iald hC hZ 6 rfl (vp_in_nI (by omega) (by decide)) dX3_gridAt_82 ?_
          rw [nI_clamp (n := na) (by omega)]
          refine zz_topi (v := nI nu) (h4) ?_
          refine lv_iload hx hb dX3_gridAt_83 (lv_at hl 0 rfl) ?_
          refine lv_iadd hx hb dX3_gridAt_85 ?_
          refine zz_topi (v := nI (nu + i)) (nI_add _ _) ?_
          refine lv_aload_n hx hb dX3_gridAt_86 rfl (lv_at hl 2 rfl) ?_
          refine lv_iload_n hx hb dX3_gridAt_87 rfl (lv_at hl 3 rfl) ?_
          refine lv_iload_n hx hb dX3_gridAt_88 rfl (lv_at hl 4 rfl) ?_
          refine lv_iload_n hx hb dX3_gridAt_89 rfl (lv_at hl 5 rfl) ?_
          refine lv_iconst (v := 1) hx hb dX3_gridAt_90 (by decide) ?_
          refine lv_iadd hx hb dX3_gridAt_91 ?_
          refine zz_topi (v := nI (t + 1)) (nI_1 _) ?_
          refine zz_iV (As := [.int k, .int (nI dd), .int (nI (t + 1))]) (wc := [(mk, .inr (2, [.ref st, .ref ml, .int pa, .int pe])), (ml, .inl (g.2.1, 4, .inl lf)), (st, .inr (5, [.int (nI na1), .int (nI nu1), .ref kd, .ref dp, .ref cl, .ref sa, .ref ln, .ref bt, .ref pn, .ref bf])), (kd, .inl (g.2.1, 60, .inl kd1)), (dp, .inl (g.2.1, 60, .inl dp1)), (cl, .inl (g.2.1, 60, .inl cl1)), (sa, .inl (g.2.1, 60, .inl sa1)), (ln, .inl (g.2.1, 60, .inl ln1)), (bt, .inl (g.2.2.1, 4000, .inr (.inl bt1)))]) (wr := []) (rest := [.int (nI (nu + i)), .ref bt]) hC hZ hl zc_X3_25 (co_gridAt1 g mk st ml kd dp cl sa ln bt pn bf pa pe lf ll na1 nu1 (t + 1) dd kd1 dp1 cl1 sa1 ln1 bt1 k (by omega) (by omega) (by omega) (by omega) (h_l)) [0, 1, 2, 3, 4, 5, 6, 7, 8] [] rfl rfl (by decide) (ci := 2) (q0 := 0) rfl rfl rfl rfl (Nat.le_of_ble_eq_true rfl) ⟨⟨Nat.le_of_ble_eq_true rfl, Nat.le_of_ble_eq_true rfl⟩, Nat.le_of_ble_eq_true rfl, Nat.le_of_ble_eq_true rfl⟩ dX3_gridAt_92 (fun r11 u12 H locs hp hZ => ?_)
          obtain ⟨na2_13, nu2_14, kdf2_15, dpf2_16, clf2_17, saf2_18, lnf2_19, btf2_20, f21, f22, f23, rfl⟩ := hp
          have hZ : zz_Z g A s.heap [(mk, .inr (2, [.ref st, .ref ml, .int pa, .int pe])), (ml, .inl (g.2.1, 4, .inl lf)), (st, .inr (5, [.int (nI na2_13), .int (nI nu2_14), .ref kd, .ref dp, .ref cl, .ref sa, .ref ln, .ref bt, .ref pn, .ref bf])), (kd, .inl (g.2.1, 60, .inl kdf2_15)), (dp, .inl (g.2.1, 60, .inl dpf2_16)), (cl, .inl (g.2.1, 60, .inl clf2_17)), (sa, .inl (g.2.1, 60, .inl saf2_18)), (ln, .inl (g.2.1, 60, .inl lnf2_19)), (bt, .inl (g.2.2.1, 4000, .inr (.inl btf2_20)))] H locs := hZ
          refine lv_i2l hx hb dX3_gridAt_95 rfl ?_
          refine zz_last hC hZ 8 rfl (vp_in_nI (by omega) (by decide)) dX3_gridAt_96 (fun H locs hZ => ?_)
          rw [nI_clamp (n := (nu + i)) (by omega)] at hZ
          have hZ : zz_Z g A s.heap [(mk, .inr (2, [.ref st, .ref ml, .int pa, .int pe])), (ml, .inl (g.2.1, 4, .inl lf)), (st, .inr (5, [.int (nI na2_13), .int (nI nu2_14), .ref kd, .ref dp, .ref cl, .ref sa, .ref ln, .ref bt, .ref pn, .ref bf])), (kd, .inl (g.2.1, 60, .inl kdf2_15)), (dp, .inl (g.2.1, 60, .inl dpf2_16)), (cl, .inl (g.2.1, 60, .inl clf2_17)), (sa, .inl (g.2.1, 60, .inl saf2_18)), (ln, .inl (g.2.1, 60, .inl lnf2_19)), (bt, .inl (g.2.2.1, 4000, .inr (.inl (vp_updL btf2_20 (nu + i) r11.toInt64))))] H locs := hZ
          refine lv_iinc (v := nI (i + 1)) (lv' := [(5, .int (nI (i + 1))), (4, .int (nI na)), (0, .ref mk), (1, .int k), (2, .int (nI dd)), (3, .int (nI t))]) hx hb dX3_gridAt_97 hl (k := 0) rfl (nI_1 _) (by decide) rfl (fun ls hl => ?_)
          refine lv_goto (tgt := 55) hx hb dX3_gridAt_100 (by decide) ?_
          exact ih (i + 1) na2_13 nu2_14 kdf2_15 dpf2_16 clf2_17 saf2_18 lnf2_19 (vp_updL btf2_20 (nu + i) r11.toInt64) H locs ls (by omega) (by omega) ((f22 na (by omega)).trans h4) (fun j hj => (f22 j (by omega)).trans (h5 j hj)) (by omega) hZ (lv_sub hl [0, 1, 2, 3, 4, 5] rfl)
    exact LP9 _ 0 (na + 1) (nu + (ll t)) (upd kdf na k) (upd dpf na ((nI dd) - (nI t))) (upd clf na (-1)) (upd saf na (nI nu)) (upd lnf na (nI (ll t))) bt2_7 H locs ls (Nat.zero_le _) (⟨by omega, by omega, by omega⟩) (pk_us) (fun j hj => pk_un (by omega)) (Nat.lt_succ_self _) hZ (lv_sub hl [0, 1, 2, 3, 4, 5] rfl)
  · refine lv_iconst (v := -1) hx hb dX3_gridAt_23 (by decide) ?_
    have hZ : zz_Z g A s.heap [(mk, .inr (2, [.ref st, .ref ml, .int pa, .int pe])), (ml, .inl (g.2.1, 4, .inl lf)), (st, .inr (5, [.int (nI na), .int (nI nu), .ref kd, .ref dp, .ref cl, .ref sa, .ref ln, .ref bt, .ref pn, .ref bf])), (kd, .inl (g.2.1, 60, .inl kdf)), (dp, .inl (g.2.1, 60, .inl dpf)), (cl, .inl (g.2.1, 60, .inl clf)), (sa, .inl (g.2.1, 60, .inl saf)), (ln, .inl (g.2.1, 60, .inl lnf)), (bt, .inl (g.2.2.1, 4000, .inr (.inl btf)))] H locs := hZ.sub [0, 1, 8, 2, 3, 4, 5, 6, 7] (by decide) rfl
    exact zz_iret hC hZ (⟨na, nu, kdf, dpf, clf, saf, lnf, btf, ⟨by omega, by omega, by omega⟩, fun _ _ => rfl, fun h6 h7 => absurd c4 (zl_fitN (by omega) (by omega) (h_l t (by omega)).2 h6 h7), rfl⟩) (Nat.le_of_ble_eq_true rfl) (Nat.le_of_ble_eq_true rfl) dX3_gridAt_24
abbrev rm_co_gridAt3 : Room := { frames := 3, cells := 0, slots := 0, locals := 76 }
abbrev po_co_gridAt3 (g : zz_G) (mk : Nat) (st : Nat) (ml : Nat) (kd : Nat) (dp : Nat) (cl : Nat) (sa : Nat) (ln : Nat) (bt : Nat) (pn : Nat) (bf : Nat) (pa : Int32) (pe : Int32) (lf : Nat → Int32) (ll : Nat → Nat) (na : Nat) (nu : Nat) (t : Nat) (dd : Nat) (kdf : Nat → Int32) (dpf : Nat → Int32) (clf : Nat → Int32) (saf : Nat → Int32) (lnf : Nat → Int32) (btf : Nat → Int64) (k : Int32) (h_t : t + 3 = dd) (h_d : dd ≤ 4) (h_a : na ≤ 60) (h_u : nu ≤ 4000) (h_l : ∀ j, j < dd → lf j = nI (ll j) ∧ ll j ≤ 200) : Int32 → va_W → Prop := fun (r : Int32) (u : va_W) => ∃ (na2 : Nat) (nu2 : Nat) (kdf2 : Nat → Int32) (dpf2 : Nat → Int32) (clf2 : Nat → Int32) (saf2 : Nat → Int32) (lnf2 : Nat → Int32) (btf2 : Nat → Int64), (na ≤ na2 ∧ na2 ≤ 60 ∧ nu2 ≤ 4000) ∧ (∀ j, j < na → saf2 j = saf j) ∧ (na < 60 → nu + ll t ≤ 4000 → r = nI na) ∧ u = [(mk, .inr (2, [.ref st, .ref ml, .int pa, .int pe])), (ml, .inl (g.2.1, 4, .inl lf)), (st, .inr (5, [.int (nI na2), .int (nI nu2), .ref kd, .ref dp, .ref cl, .ref sa, .ref ln, .ref bt, .ref pn, .ref bf])), (kd, .inl (g.2.1, 60, .inl kdf2)), (dp, .inl (g.2.1, 60, .inl dpf2)), (cl, .inl (g.2.1, 60, .inl clf2)), (sa, .inl (g.2.1, 60, .inl saf2)), (ln, .inl (g.2.1, 60, .inl lnf2)), (bt, .inl (g.2.2.1, 4000, .inr (.inl btf2)))]
set_option maxHeartbeats 4000000 in
set_option maxRecDepth 100000 in
theorem co_gridAt3 (g : zz_G) (mk : Nat) (st : Nat) (ml : Nat) (kd : Nat) (dp : Nat) (cl : Nat) (sa : Nat) (ln : Nat) (bt : Nat) (pn : Nat) (bf : Nat) (pa : Int32) (pe : Int32) (lf : Nat → Int32) (ll : Nat → Nat) (na : Nat) (nu : Nat) (t : Nat) (dd : Nat) (kdf : Nat → Int32) (dpf : Nat → Int32) (clf : Nat → Int32) (saf : Nat → Int32) (lnf : Nat → Int32) (btf : Nat → Int64) (k : Int32) (h_t : t + 3 = dd) (h_d : dd ≤ 4) (h_a : na ≤ 60) (h_u : nu ≤ 4000) (h_l : ∀ j, j < dd → lf j = nI (ll j) ∧ ll j ≤ 200) : zz_I g yX3_gridAt (.code yX3_gridAt cX3_gridAt 6 (some .int)) rm_co_gridAt3 [.ref mk, .int k, .int (nI dd), .int (nI t)] [(mk, .inr (2, [.ref st, .ref ml, .int pa, .int pe])), (ml, .inl (g.2.1, 4, .inl lf)), (st, .inr (5, [.int (nI na), .int (nI nu), .ref kd, .ref dp, .ref cl, .ref sa, .ref ln, .ref bt, .ref pn, .ref bf])), (kd, .inl (g.2.1, 60, .inl kdf)), (dp, .inl (g.2.1, 60, .inl dpf)), (cl, .inl (g.2.1, 60, .inl clf)), (sa, .inl (g.2.1, 60, .inl saf)), (ln, .inl (g.2.1, 60, .inl lnf)), (bt, .inl (g.2.2.1, 4000, .inr (.inl btf)))] (po_co_gridAt3 g mk st ml kd dp cl sa ln bt pn bf pa pe lf ll na nu t dd kdf dpf clf saf lnf btf k h_t h_d h_a h_u h_l) := by
  refine zz_I.intro (own := RX3) (cc := cX3_gridAt) (nL := 6) (by decide) rfl (Nat.le_of_ble_eq_true rfl) ?_
  intro p l e s m args below meth c A H locs ls hC hnm hZ hl
  obtain ⟨hx, hb, hml, hown, hts, hr, hlocks, hK⟩ := id hC
  have hl : lv_has ls 6 [(0, .ref mk), (1, .int k), (2, .int (nI dd)), (3, .int (nI t))] := hl
  have hZ : zz_Z g A s.heap [(mk, .inr (2, [.ref st, .ref ml, .int pa, .int pe])), (ml, .inl (g.2.1, 4, .inl lf)), (st, .inr (5, [.int (nI na), .int (nI nu), .ref kd, .ref dp, .ref cl, .ref sa, .ref ln, .ref bt, .ref pn, .ref bf])), (kd, .inl (g.2.1, 60, .inl kdf)), (dp, .inl (g.2.1, 60, .inl dpf)), (cl, .inl (g.2.1, 60, .inl clf)), (sa, .inl (g.2.1, 60, .inl saf)), (ln, .inl (g.2.1, 60, .inl lnf)), (bt, .inl (g.2.2.1, 4000, .inr (.inl btf)))] H locs := hZ
  refine lv_iload_n hx hb dX3_gridAt_0 rfl (lv_at hl 3 rfl) ?_
  refine lv_iconst (v := 4) hx hb dX3_gridAt_1 (by decide) ?_
  refine lv_icmp_ge (tgt := 23) hx hb dX3_gridAt_2 (by decide) (fun c => absurd c ((nI_ge (b := 4) (by omega) (by decide) : ¬ nI 4 ≤ nI t))) (fun c1 => ?_)
  refine lv_aload_n hx hb dX3_gridAt_5 rfl (lv_at hl 0 rfl) ?_
  refine zz_get hC hZ 0 rfl zf_X3_15 rfl dX3_gridAt_6 ?_
  refine lv_lconst (v := 1) hx hb dX3_gridAt_9 (by decide) ?_
  refine lv_aload_n hx hb dX3_gridAt_10 rfl (lv_at hl 0 rfl) ?_
  refine zz_get hC hZ 0 rfl zf_X3_9 rfl dX3_gridAt_11 ?_
  refine lv_iload_n hx hb dX3_gridAt_14 rfl (lv_at hl 3 rfl) ?_
  refine zz_iald hC hZ 1 rfl (vp_in_nI (by omega) (by decide)) dX3_gridAt_15 ?_
  rw [nI_clamp (n := t) (by omega)]
  refine zz_topi (v := nI (ll t)) ((h_l t (by omega)).1) ?_
  refine lv_i2l hx hb dX3_gridAt_16 rfl ?_
  refine zz_iV (As := [.long 1, .long ((nI (ll t)).toInt64)]) (wc := [(st, .inr (5, [.int (nI na), .int (nI nu), .ref kd, .ref dp, .ref cl, .ref sa, .ref ln, .ref bt, .ref pn, .ref bf]))]) (wr := [(mk, .inr (2, [.ref st, .ref ml, .int pa, .int pe])), (ml, .inl (g.2.1, 4, .inl lf)), (kd, .inl (g.2.1, 60, .inl kdf)), (dp, .inl (g.2.1, 60, .inl dpf)), (cl, .inl (g.2.1, 60, .inl clf)), (sa, .inl (g.2.1, 60, .inl saf)), (ln, .inl (g.2.1, 60, .inl lnf)), (bt, .inl (g.2.2.1, 4000, .inr (.inl btf)))]) (rest := []) hC hZ hl zc_X3_19 (co_fits g st kd dp cl sa ln bt pn bf (nI na) (nI nu) 1 ((nI (ll t)).toInt64)) [2] [0, 1, 3, 4, 5, 6, 7, 8] rfl rfl (by decide) (ci := 5) (q0 := 0) rfl rfl rfl rfl (Nat.le_of_ble_eq_true rfl) ⟨⟨Nat.le_of_ble_eq_true rfl, Nat.le_of_ble_eq_true rfl⟩, Nat.le_of_ble_eq_true rfl, Nat.le_of_ble_eq_true rfl⟩ dX3_gridAt_17 (fun r2 u3 H locs hp hZ => ?_)
  obtain ⟨rfl, rfl⟩ := hp
  have hZ : zz_Z g A s.heap [(mk, .inr (2, [.ref st, .ref ml, .int pa, .int pe])), (ml, .inl (g.2.1, 4, .inl lf)), (kd, .inl (g.2.1, 60, .inl kdf)), (dp, .inl (g.2.1, 60, .inl dpf)), (cl, .inl (g.2.1, 60, .inl clf)), (sa, .inl (g.2.1, 60, .inl saf)), (ln, .inl (g.2.1, 60, .inl lnf)), (bt, .inl (g.2.2.1, 4000, .inr (.inl btf))), (st, .inr (5, [.int (nI na), .int (nI nu), .ref kd, .ref dp, .ref cl, .ref sa, .ref ln, .ref bt, .ref pn, .ref bf]))] H locs := hZ
  refine lv_if_ne (tgt := 25) hx hb dX3_gridAt_20 (by decide) (fun c4 => ?_) (fun c4 => ?_)
  · have hfit : na + 1 ≤ 60 ∧ nu + ll t ≤ 4000 := zl_fitY (by omega) (by omega) (h_l t (by omega)).2 c4
    refine lv_aload_n hx hb dX3_gridAt_25 rfl (lv_at hl 0 rfl) ?_
    refine zz_get hC hZ 0 rfl zf_X3_15 rfl dX3_gridAt_26 ?_
    refine lv_iload_n hx hb dX3_gridAt_29 rfl (lv_at hl 1 rfl) ?_
    refine lv_iload_n hx hb dX3_gridAt_30 rfl (lv_at hl 2 rfl) ?_
    refine lv_iload_n hx hb dX3_gridAt_31 rfl (lv_at hl 3 rfl) ?_
    refine lv_isub hx hb dX3_gridAt_32 ?_
    refine lv_iconst (v := -1) hx hb dX3_gridAt_33 (by decide) ?_
    refine lv_aload_n hx hb dX3_gridAt_34 rfl (lv_at hl 0 rfl) ?_
    refine zz_get hC hZ 0 rfl zf_X3_9 rfl dX3_gridAt_35 ?_
    refine lv_iload_n hx hb dX3_gridAt_38 rfl (lv_at hl 3 rfl) ?_
    refine zz_iald hC hZ 1 rfl (vp_in_nI (by omega) (by decide)) dX3_gridAt_39 ?_
    rw [nI_clamp (n := t) (by omega)]
    refine zz_topi (v := nI (ll t)) ((h_l t (by omega)).1) ?_
    refine zz_iV (As := [.int k, .int ((nI dd) - (nI t)), .int (-1), .int (nI (ll t))]) (wc := [(st, .inr (5, [.int (nI na), .int (nI nu), .ref kd, .ref dp, .ref cl, .ref sa, .ref ln, .ref bt, .ref pn, .ref bf])), (kd, .inl (g.2.1, 60, .inl kdf)), (dp, .inl (g.2.1, 60, .inl dpf)), (cl, .inl (g.2.1, 60, .inl clf)), (sa, .inl (g.2.1, 60, .inl saf)), (ln, .inl (g.2.1, 60, .inl lnf)), (bt, .inl (g.2.2.1, 4000, .inr (.inl btf)))]) (wr := [(mk, .inr (2, [.ref st, .ref ml, .int pa, .int pe])), (ml, .inl (g.2.1, 4, .inl lf))]) (rest := []) hC hZ hl zc_X3_29 (co_add g st kd dp cl sa ln bt pn bf na nu (ll t) kdf dpf clf saf lnf btf k ((nI dd) - (nI t)) (-1) (by omega) (by omega)) [8, 2, 3, 4, 5, 6, 7] [0, 1] rfl rfl (by decide) (ci := 5) (q0 := 0) rfl rfl rfl rfl (Nat.le_of_ble_eq_true rfl) ⟨⟨Nat.le_of_ble_eq_true rfl, Nat.le_of_ble_eq_true rfl⟩, Nat.le_of_ble_eq_true rfl, Nat.le_of_ble_eq_true rfl⟩ dX3_gridAt_40 (fun r5 u6 H locs hp hZ => ?_)
    obtain ⟨bt2_7, rfl, rfl⟩ := hp
    have hZ : zz_Z g A s.heap [(mk, .inr (2, [.ref st, .ref ml, .int pa, .int pe])), (ml, .inl (g.2.1, 4, .inl lf)), (st, .inr (5, [.int (nI (na + 1)), .int (nI (nu + (ll t))), .ref kd, .ref dp, .ref cl, .ref sa, .ref ln, .ref bt, .ref pn, .ref bf])), (kd, .inl (g.2.1, 60, .inl (upd kdf na k))), (dp, .inl (g.2.1, 60, .inl (upd dpf na ((nI dd) - (nI t))))), (cl, .inl (g.2.1, 60, .inl (upd clf na (-1)))), (sa, .inl (g.2.1, 60, .inl (upd saf na (nI nu)))), (ln, .inl (g.2.1, 60, .inl (upd lnf na (nI (ll t))))), (bt, .inl (g.2.2.1, 4000, .inr (.inl bt2_7)))] H locs := hZ
    refine lv_istore (lv' := [(4, .int (nI na)), (0, .ref mk), (1, .int k), (2, .int (nI dd)), (3, .int (nI t))]) hx hb dX3_gridAt_43 hl (by decide) rfl (fun ls hl => ?_)
    refine lv_iload_n hx hb dX3_gridAt_45 rfl (lv_at hl 4 rfl) ?_
    refine lv_iconst (v := 1) hx hb dX3_gridAt_46 (by decide) ?_
    refine lv_iadd hx hb dX3_gridAt_47 ?_
    refine zz_topi (v := nI (t + 1)) (nI_1 _) ?_
    refine lv_iload_n hx hb dX3_gridAt_48 rfl (lv_at hl 3 rfl) ?_
    refine lv_icmp_ge (tgt := 103) hx hb dX3_gridAt_49 (by decide) (fun c => absurd c (nI_ge (by omega) (by omega))) (fun c8 => ?_)
    refine lv_iconst (v := 0) hx hb dX3_gridAt_52 (by decide) ?_
    refine lv_istore (lv' := [(5, .int 0), (4, .int (nI na)), (0, .ref mk), (1, .int k), (2, .int (nI dd)), (3, .int (nI t))]) hx hb dX3_gridAt_53 hl (by decide) rfl (fun ls hl => ?_)
    have LP9 : ∀ (N : Nat) (i : Nat) (na1 : Nat) (nu1 : Nat) (kd1 : Nat → Int32) (dp1 : Nat → Int32) (cl1 : Nat → Int32) (sa1 : Nat → Int32) (ln1 : Nat → Int32) (bt1 : Nat → Int64) (H : Heap) (locs : List Loc) (ls : Array Slot), (i ≤ ll t) → (na + 1 ≤ na1 ∧ na1 ≤ 60 ∧ nu1 ≤ 4000) → (sa1 na = nI nu) → (∀ j, j < na → sa1 j = saf j) → (ll t - i) < N → zz_Z g A s.heap [(mk, .inr (2, [.ref st, .ref ml, .int pa, .int pe])), (ml, .inl (g.2.1, 4, .inl lf)), (st, .inr (5, [.int (nI na1), .int (nI nu1), .ref kd, .ref dp, .ref cl, .ref sa, .ref ln, .ref bt, .ref pn, .ref bf])), (kd, .inl (g.2.1, 60, .inl kd1)), (dp, .inl (g.2.1, 60, .inl dp1)), (cl, .inl (g.2.1, 60, .inl cl1)), (sa, .inl (g.2.1, 60, .inl sa1)), (ln, .inl (g.2.1, 60, .inl ln1)), (bt, .inl (g.2.2.1, 4000, .inr (.inl bt1)))] H locs → lv_has ls 6 [(5, .int (nI i)), (4, .int (nI na)), (0, .ref mk), (1, .int k), (2, .int (nI dd)), (3, .int (nI t))] → W p l e rm_co_gridAt3 s m args below meth c H locs 0 0 (zz_QI below g args s A rm_co_gridAt3.cells rm_co_gridAt3.slots (po_co_gridAt3 g mk st ml kd dp cl sa ln bt pn bf pa pe lf ll na nu t dd kdf dpf clf saf lnf btf k h_t h_d h_a h_u h_l)) (F0 m 55 ls []) := by
      intro N
      induction N with
      | zero =>
        intro i na1 nu1 kd1 dp1 cl1 sa1 ln1 bt1 H locs ls h1 h2 h4 h5 hN
        exact absurd hN (Nat.not_lt_zero _)
      | succ N ih =>
        intro i na1 nu1 kd1 dp1 cl1 sa1 ln1 bt1 H locs ls h1 h2 h4 h5 hN hZ hl
        refine lv_iload hx hb dX3_gridAt_55 (lv_at hl 0 rfl) ?_
        refine lv_aload_n hx hb dX3_gridAt_57 rfl (lv_at hl 2 rfl) ?_
        refine zz_get hC hZ 0 rfl zf_X3_9 rfl dX3_gridAt_58 ?_
        refine lv_iload_n hx hb dX3_gridAt_61 rfl (lv_at hl 5 rfl) ?_
        refine zz_iald hC hZ 1 rfl (vp_in_nI (by omega) (by decide)) dX3_gridAt_62 ?_
        rw [nI_clamp (n := t) (by omega)]
        refine zz_topi (v := nI (ll t)) ((h_l t (by omega)).1) ?_
        refine lv_icmp_ge (tgt := 103) hx hb dX3_gridAt_63 (by decide) (fun c10 => ?_) (fun c10 => ?_)
        · have nc10 : (ll t) ≤ i := (nI_leI (by omega) (by omega)).mp (show nI ((ll t)) ≤ nI (i) from c10)
          refine lv_iload hx hb dX3_gridAt_103 (lv_at hl 1 rfl) ?_
          exact zz_iret hC hZ (⟨na1, nu1, kd1, dp1, cl1, sa1, ln1, bt1, ⟨by omega, by omega, by omega⟩, h5, fun _ _ => rfl, rfl⟩) (Nat.le_of_ble_eq_true rfl) (Nat.le_of_ble_eq_true rfl) dX3_gridAt_105
        · have nc10 : ¬ (ll t) ≤ i := fun q => c10 (show nI ((ll t)) ≤ nI (i) from (nI_leI (by omega) (by omega)).mpr q)
          refine lv_aload_n hx hb dX3_gridAt_66 rfl (lv_at hl 2 rfl) ?_
          refine zz_get hC hZ 0 rfl zf_X3_15 rfl dX3_gridAt_67 ?_
          refine zz_get hC hZ 2 rfl zf_X3_33 rfl dX3_gridAt_70 ?_
          refine lv_aload_n hx hb dX3_gridAt_73 rfl (lv_at hl 2 rfl) ?_
          refine zz_get hC hZ 0 rfl zf_X3_15 rfl dX3_gridAt_74 ?_
          refine zz_get hC hZ 2 rfl zf_X3_37 rfl dX3_gridAt_77 ?_
          refine lv_iload hx hb dX3_gridAt_80 (lv_at hl 1 rfl) ?_
          refine zz_iald hC hZ 6 rfl (vp_in_nI (by omega) (by decide)) dX3_gridAt_82 ?_
          rw [nI_clamp (n := na) (by omega)]
          refine zz_topi (v := nI nu) (h4) ?_
          refine lv_iload hx hb dX3_gridAt_83 (lv_at hl 0 rfl) ?_
          refine lv_iadd hx hb dX3_gridAt_85 ?_
          refine zz_topi (v := nI (nu + i)) (nI_add _ _) ?_
          refine lv_aload_n hx hb dX3_gridAt_86 rfl (lv_at hl 2 rfl) ?_
          refine lv_iload_n hx hb dX3_gridAt_87 rfl (lv_at hl 3 rfl) ?_
          refine lv_iload_n hx hb dX3_gridAt_88 rfl (lv_at hl 4 rfl) ?_
          refine lv_iload_n hx hb dX3_gridAt_89 rfl (lv_at hl 5 rfl) ?_
          refine lv_iconst (v := 1) hx hb dX3_gridAt_90 (by decide) ?_
          refine lv_iadd hx hb dX3_gridAt_91 ?_
          refine zz_topi (v := nI (t + 1)) (nI_1 _) ?_
          refine zz_iV (As := [.int k, .int (nI dd), .int (nI (t + 1))]) (wc := [(mk, .inr (2, [.ref st, .ref ml, .int pa, .int pe])), (ml, .inl (g.2.1, 4, .inl lf)), (st, .inr (5, [.int (nI na1), .int (nI nu1), .ref kd, .ref dp, .ref cl, .ref sa, .ref ln, .ref bt, .ref pn, .ref bf])), (kd, .inl (g.2.1, 60, .inl kd1)), (dp, .inl (g.2.1, 60, .inl dp1)), (cl, .inl (g.2.1, 60, .inl cl1)), (sa, .inl (g.2.1, 60, .inl sa1)), (ln, .inl (g.2.1, 60, .inl ln1)), (bt, .inl (g.2.2.1, 4000, .inr (.inl bt1)))]) (wr := []) (rest := [.int (nI (nu + i)), .ref bt]) hC hZ hl zc_X3_25 (co_gridAt2 g mk st ml kd dp cl sa ln bt pn bf pa pe lf ll na1 nu1 (t + 1) dd kd1 dp1 cl1 sa1 ln1 bt1 k (by omega) (by omega) (by omega) (by omega) (h_l)) [0, 1, 2, 3, 4, 5, 6, 7, 8] [] rfl rfl (by decide) (ci := 2) (q0 := 0) rfl rfl rfl rfl (Nat.le_of_ble_eq_true rfl) ⟨⟨Nat.le_of_ble_eq_true rfl, Nat.le_of_ble_eq_true rfl⟩, Nat.le_of_ble_eq_true rfl, Nat.le_of_ble_eq_true rfl⟩ dX3_gridAt_92 (fun r11 u12 H locs hp hZ => ?_)
          obtain ⟨na2_13, nu2_14, kdf2_15, dpf2_16, clf2_17, saf2_18, lnf2_19, btf2_20, f21, f22, f23, rfl⟩ := hp
          have hZ : zz_Z g A s.heap [(mk, .inr (2, [.ref st, .ref ml, .int pa, .int pe])), (ml, .inl (g.2.1, 4, .inl lf)), (st, .inr (5, [.int (nI na2_13), .int (nI nu2_14), .ref kd, .ref dp, .ref cl, .ref sa, .ref ln, .ref bt, .ref pn, .ref bf])), (kd, .inl (g.2.1, 60, .inl kdf2_15)), (dp, .inl (g.2.1, 60, .inl dpf2_16)), (cl, .inl (g.2.1, 60, .inl clf2_17)), (sa, .inl (g.2.1, 60, .inl saf2_18)), (ln, .inl (g.2.1, 60, .inl lnf2_19)), (bt, .inl (g.2.2.1, 4000, .inr (.inl btf2_20)))] H locs := hZ
          refine lv_i2l hx hb dX3_gridAt_95 rfl ?_
          refine zz_last hC hZ 8 rfl (vp_in_nI (by omega) (by decide)) dX3_gridAt_96 (fun H locs hZ => ?_)
          rw [nI_clamp (n := (nu + i)) (by omega)] at hZ
          have hZ : zz_Z g A s.heap [(mk, .inr (2, [.ref st, .ref ml, .int pa, .int pe])), (ml, .inl (g.2.1, 4, .inl lf)), (st, .inr (5, [.int (nI na2_13), .int (nI nu2_14), .ref kd, .ref dp, .ref cl, .ref sa, .ref ln, .ref bt, .ref pn, .ref bf])), (kd, .inl (g.2.1, 60, .inl kdf2_15)), (dp, .inl (g.2.1, 60, .inl dpf2_16)), (cl, .inl (g.2.1, 60, .inl clf2_17)), (sa, .inl (g.2.1, 60, .inl saf2_18)), (ln, .inl (g.2.1, 60, .inl lnf2_19)), (bt, .inl (g.2.2.1, 4000, .inr (.inl (vp_updL btf2_20 (nu + i) r11.toInt64))))] H locs := hZ
          refine lv_iinc (v := nI (i + 1)) (lv' := [(5, .int (nI (i + 1))), (4, .int (nI na)), (0, .ref mk), (1, .int k), (2, .int (nI dd)), (3, .int (nI t))]) hx hb dX3_gridAt_97 hl (k := 0) rfl (nI_1 _) (by decide) rfl (fun ls hl => ?_)
          refine lv_goto (tgt := 55) hx hb dX3_gridAt_100 (by decide) ?_
          exact ih (i + 1) na2_13 nu2_14 kdf2_15 dpf2_16 clf2_17 saf2_18 lnf2_19 (vp_updL btf2_20 (nu + i) r11.toInt64) H locs ls (by omega) (by omega) ((f22 na (by omega)).trans h4) (fun j hj => (f22 j (by omega)).trans (h5 j hj)) (by omega) hZ (lv_sub hl [0, 1, 2, 3, 4, 5] rfl)
    exact LP9 _ 0 (na + 1) (nu + (ll t)) (upd kdf na k) (upd dpf na ((nI dd) - (nI t))) (upd clf na (-1)) (upd saf na (nI nu)) (upd lnf na (nI (ll t))) bt2_7 H locs ls (Nat.zero_le _) (⟨by omega, by omega, by omega⟩) (pk_us) (fun j hj => pk_un (by omega)) (Nat.lt_succ_self _) hZ (lv_sub hl [0, 1, 2, 3, 4, 5] rfl)
  · refine lv_iconst (v := -1) hx hb dX3_gridAt_23 (by decide) ?_
    have hZ : zz_Z g A s.heap [(mk, .inr (2, [.ref st, .ref ml, .int pa, .int pe])), (ml, .inl (g.2.1, 4, .inl lf)), (st, .inr (5, [.int (nI na), .int (nI nu), .ref kd, .ref dp, .ref cl, .ref sa, .ref ln, .ref bt, .ref pn, .ref bf])), (kd, .inl (g.2.1, 60, .inl kdf)), (dp, .inl (g.2.1, 60, .inl dpf)), (cl, .inl (g.2.1, 60, .inl clf)), (sa, .inl (g.2.1, 60, .inl saf)), (ln, .inl (g.2.1, 60, .inl lnf)), (bt, .inl (g.2.2.1, 4000, .inr (.inl btf)))] H locs := hZ.sub [0, 1, 8, 2, 3, 4, 5, 6, 7] (by decide) rfl
    exact zz_iret hC hZ (⟨na, nu, kdf, dpf, clf, saf, lnf, btf, ⟨by omega, by omega, by omega⟩, fun _ _ => rfl, fun h6 h7 => absurd c4 (zl_fitN (by omega) (by omega) (h_l t (by omega)).2 h6 h7), rfl⟩) (Nat.le_of_ble_eq_true rfl) (Nat.le_of_ble_eq_true rfl) dX3_gridAt_24
abbrev rm_co_gridAt4 : Room := { frames := 4, cells := 0, slots := 0, locals := 101 }
abbrev po_co_gridAt4 (g : zz_G) (mk : Nat) (st : Nat) (ml : Nat) (kd : Nat) (dp : Nat) (cl : Nat) (sa : Nat) (ln : Nat) (bt : Nat) (pn : Nat) (bf : Nat) (pa : Int32) (pe : Int32) (lf : Nat → Int32) (ll : Nat → Nat) (na : Nat) (nu : Nat) (t : Nat) (dd : Nat) (kdf : Nat → Int32) (dpf : Nat → Int32) (clf : Nat → Int32) (saf : Nat → Int32) (lnf : Nat → Int32) (btf : Nat → Int64) (k : Int32) (h_t : t + 4 = dd) (h_d : dd ≤ 4) (h_a : na ≤ 60) (h_u : nu ≤ 4000) (h_l : ∀ j, j < dd → lf j = nI (ll j) ∧ ll j ≤ 200) : Int32 → va_W → Prop := fun (r : Int32) (u : va_W) => ∃ (na2 : Nat) (nu2 : Nat) (kdf2 : Nat → Int32) (dpf2 : Nat → Int32) (clf2 : Nat → Int32) (saf2 : Nat → Int32) (lnf2 : Nat → Int32) (btf2 : Nat → Int64), (na ≤ na2 ∧ na2 ≤ 60 ∧ nu2 ≤ 4000) ∧ (∀ j, j < na → saf2 j = saf j) ∧ (na < 60 → nu + ll t ≤ 4000 → r = nI na) ∧ u = [(mk, .inr (2, [.ref st, .ref ml, .int pa, .int pe])), (ml, .inl (g.2.1, 4, .inl lf)), (st, .inr (5, [.int (nI na2), .int (nI nu2), .ref kd, .ref dp, .ref cl, .ref sa, .ref ln, .ref bt, .ref pn, .ref bf])), (kd, .inl (g.2.1, 60, .inl kdf2)), (dp, .inl (g.2.1, 60, .inl dpf2)), (cl, .inl (g.2.1, 60, .inl clf2)), (sa, .inl (g.2.1, 60, .inl saf2)), (ln, .inl (g.2.1, 60, .inl lnf2)), (bt, .inl (g.2.2.1, 4000, .inr (.inl btf2)))]
set_option maxHeartbeats 4000000 in
set_option maxRecDepth 100000 in
theorem co_gridAt4 (g : zz_G) (mk : Nat) (st : Nat) (ml : Nat) (kd : Nat) (dp : Nat) (cl : Nat) (sa : Nat) (ln : Nat) (bt : Nat) (pn : Nat) (bf : Nat) (pa : Int32) (pe : Int32) (lf : Nat → Int32) (ll : Nat → Nat) (na : Nat) (nu : Nat) (t : Nat) (dd : Nat) (kdf : Nat → Int32) (dpf : Nat → Int32) (clf : Nat → Int32) (saf : Nat → Int32) (lnf : Nat → Int32) (btf : Nat → Int64) (k : Int32) (h_t : t + 4 = dd) (h_d : dd ≤ 4) (h_a : na ≤ 60) (h_u : nu ≤ 4000) (h_l : ∀ j, j < dd → lf j = nI (ll j) ∧ ll j ≤ 200) : zz_I g yX3_gridAt (.code yX3_gridAt cX3_gridAt 6 (some .int)) rm_co_gridAt4 [.ref mk, .int k, .int (nI dd), .int (nI t)] [(mk, .inr (2, [.ref st, .ref ml, .int pa, .int pe])), (ml, .inl (g.2.1, 4, .inl lf)), (st, .inr (5, [.int (nI na), .int (nI nu), .ref kd, .ref dp, .ref cl, .ref sa, .ref ln, .ref bt, .ref pn, .ref bf])), (kd, .inl (g.2.1, 60, .inl kdf)), (dp, .inl (g.2.1, 60, .inl dpf)), (cl, .inl (g.2.1, 60, .inl clf)), (sa, .inl (g.2.1, 60, .inl saf)), (ln, .inl (g.2.1, 60, .inl lnf)), (bt, .inl (g.2.2.1, 4000, .inr (.inl btf)))] (po_co_gridAt4 g mk st ml kd dp cl sa ln bt pn bf pa pe lf ll na nu t dd kdf dpf clf saf lnf btf k h_t h_d h_a h_u h_l) := by
  refine zz_I.intro (own := RX3) (cc := cX3_gridAt) (nL := 6) (by decide) rfl (Nat.le_of_ble_eq_true rfl) ?_
  intro p l e s m args below meth c A H locs ls hC hnm hZ hl
  obtain ⟨hx, hb, hml, hown, hts, hr, hlocks, hK⟩ := id hC
  have hl : lv_has ls 6 [(0, .ref mk), (1, .int k), (2, .int (nI dd)), (3, .int (nI t))] := hl
  have hZ : zz_Z g A s.heap [(mk, .inr (2, [.ref st, .ref ml, .int pa, .int pe])), (ml, .inl (g.2.1, 4, .inl lf)), (st, .inr (5, [.int (nI na), .int (nI nu), .ref kd, .ref dp, .ref cl, .ref sa, .ref ln, .ref bt, .ref pn, .ref bf])), (kd, .inl (g.2.1, 60, .inl kdf)), (dp, .inl (g.2.1, 60, .inl dpf)), (cl, .inl (g.2.1, 60, .inl clf)), (sa, .inl (g.2.1, 60, .inl saf)), (ln, .inl (g.2.1, 60, .inl lnf)), (bt, .inl (g.2.2.1, 4000, .inr (.inl btf)))] H locs := hZ
  refine lv_iload_n hx hb dX3_gridAt_0 rfl (lv_at hl 3 rfl) ?_
  refine lv_iconst (v := 4) hx hb dX3_gridAt_1 (by decide) ?_
  refine lv_icmp_ge (tgt := 23) hx hb dX3_gridAt_2 (by decide) (fun c => absurd c ((nI_ge (b := 4) (by omega) (by decide) : ¬ nI 4 ≤ nI t))) (fun c1 => ?_)
  refine lv_aload_n hx hb dX3_gridAt_5 rfl (lv_at hl 0 rfl) ?_
  refine zz_get hC hZ 0 rfl zf_X3_15 rfl dX3_gridAt_6 ?_
  refine lv_lconst (v := 1) hx hb dX3_gridAt_9 (by decide) ?_
  refine lv_aload_n hx hb dX3_gridAt_10 rfl (lv_at hl 0 rfl) ?_
  refine zz_get hC hZ 0 rfl zf_X3_9 rfl dX3_gridAt_11 ?_
  refine lv_iload_n hx hb dX3_gridAt_14 rfl (lv_at hl 3 rfl) ?_
  refine zz_iald hC hZ 1 rfl (vp_in_nI (by omega) (by decide)) dX3_gridAt_15 ?_
  rw [nI_clamp (n := t) (by omega)]
  refine zz_topi (v := nI (ll t)) ((h_l t (by omega)).1) ?_
  refine lv_i2l hx hb dX3_gridAt_16 rfl ?_
  refine zz_iV (As := [.long 1, .long ((nI (ll t)).toInt64)]) (wc := [(st, .inr (5, [.int (nI na), .int (nI nu), .ref kd, .ref dp, .ref cl, .ref sa, .ref ln, .ref bt, .ref pn, .ref bf]))]) (wr := [(mk, .inr (2, [.ref st, .ref ml, .int pa, .int pe])), (ml, .inl (g.2.1, 4, .inl lf)), (kd, .inl (g.2.1, 60, .inl kdf)), (dp, .inl (g.2.1, 60, .inl dpf)), (cl, .inl (g.2.1, 60, .inl clf)), (sa, .inl (g.2.1, 60, .inl saf)), (ln, .inl (g.2.1, 60, .inl lnf)), (bt, .inl (g.2.2.1, 4000, .inr (.inl btf)))]) (rest := []) hC hZ hl zc_X3_19 (co_fits g st kd dp cl sa ln bt pn bf (nI na) (nI nu) 1 ((nI (ll t)).toInt64)) [2] [0, 1, 3, 4, 5, 6, 7, 8] rfl rfl (by decide) (ci := 5) (q0 := 0) rfl rfl rfl rfl (Nat.le_of_ble_eq_true rfl) ⟨⟨Nat.le_of_ble_eq_true rfl, Nat.le_of_ble_eq_true rfl⟩, Nat.le_of_ble_eq_true rfl, Nat.le_of_ble_eq_true rfl⟩ dX3_gridAt_17 (fun r2 u3 H locs hp hZ => ?_)
  obtain ⟨rfl, rfl⟩ := hp
  have hZ : zz_Z g A s.heap [(mk, .inr (2, [.ref st, .ref ml, .int pa, .int pe])), (ml, .inl (g.2.1, 4, .inl lf)), (kd, .inl (g.2.1, 60, .inl kdf)), (dp, .inl (g.2.1, 60, .inl dpf)), (cl, .inl (g.2.1, 60, .inl clf)), (sa, .inl (g.2.1, 60, .inl saf)), (ln, .inl (g.2.1, 60, .inl lnf)), (bt, .inl (g.2.2.1, 4000, .inr (.inl btf))), (st, .inr (5, [.int (nI na), .int (nI nu), .ref kd, .ref dp, .ref cl, .ref sa, .ref ln, .ref bt, .ref pn, .ref bf]))] H locs := hZ
  refine lv_if_ne (tgt := 25) hx hb dX3_gridAt_20 (by decide) (fun c4 => ?_) (fun c4 => ?_)
  · have hfit : na + 1 ≤ 60 ∧ nu + ll t ≤ 4000 := zl_fitY (by omega) (by omega) (h_l t (by omega)).2 c4
    refine lv_aload_n hx hb dX3_gridAt_25 rfl (lv_at hl 0 rfl) ?_
    refine zz_get hC hZ 0 rfl zf_X3_15 rfl dX3_gridAt_26 ?_
    refine lv_iload_n hx hb dX3_gridAt_29 rfl (lv_at hl 1 rfl) ?_
    refine lv_iload_n hx hb dX3_gridAt_30 rfl (lv_at hl 2 rfl) ?_
    refine lv_iload_n hx hb dX3_gridAt_31 rfl (lv_at hl 3 rfl) ?_
    refine lv_isub hx hb dX3_gridAt_32 ?_
    refine lv_iconst (v := -1) hx hb dX3_gridAt_33 (by decide) ?_
    refine lv_aload_n hx hb dX3_gridAt_34 rfl (lv_at hl 0 rfl) ?_
    refine zz_get hC hZ 0 rfl zf_X3_9 rfl dX3_gridAt_35 ?_
    refine lv_iload_n hx hb dX3_gridAt_38 rfl (lv_at hl 3 rfl) ?_
    refine zz_iald hC hZ 1 rfl (vp_in_nI (by omega) (by decide)) dX3_gridAt_39 ?_
    rw [nI_clamp (n := t) (by omega)]
    refine zz_topi (v := nI (ll t)) ((h_l t (by omega)).1) ?_
    refine zz_iV (As := [.int k, .int ((nI dd) - (nI t)), .int (-1), .int (nI (ll t))]) (wc := [(st, .inr (5, [.int (nI na), .int (nI nu), .ref kd, .ref dp, .ref cl, .ref sa, .ref ln, .ref bt, .ref pn, .ref bf])), (kd, .inl (g.2.1, 60, .inl kdf)), (dp, .inl (g.2.1, 60, .inl dpf)), (cl, .inl (g.2.1, 60, .inl clf)), (sa, .inl (g.2.1, 60, .inl saf)), (ln, .inl (g.2.1, 60, .inl lnf)), (bt, .inl (g.2.2.1, 4000, .inr (.inl btf)))]) (wr := [(mk, .inr (2, [.ref st, .ref ml, .int pa, .int pe])), (ml, .inl (g.2.1, 4, .inl lf))]) (rest := []) hC hZ hl zc_X3_29 (co_add g st kd dp cl sa ln bt pn bf na nu (ll t) kdf dpf clf saf lnf btf k ((nI dd) - (nI t)) (-1) (by omega) (by omega)) [8, 2, 3, 4, 5, 6, 7] [0, 1] rfl rfl (by decide) (ci := 5) (q0 := 0) rfl rfl rfl rfl (Nat.le_of_ble_eq_true rfl) ⟨⟨Nat.le_of_ble_eq_true rfl, Nat.le_of_ble_eq_true rfl⟩, Nat.le_of_ble_eq_true rfl, Nat.le_of_ble_eq_true rfl⟩ dX3_gridAt_40 (fun r5 u6 H locs hp hZ => ?_)
    obtain ⟨bt2_7, rfl, rfl⟩ := hp
    have hZ : zz_Z g A s.heap [(mk, .inr (2, [.ref st, .ref ml, .int pa, .int pe])), (ml, .inl (g.2.1, 4, .inl lf)), (st, .inr (5, [.int (nI (na + 1)), .int (nI (nu + (ll t))), .ref kd, .ref dp, .ref cl, .ref sa, .ref ln, .ref bt, .ref pn, .ref bf])), (kd, .inl (g.2.1, 60, .inl (upd kdf na k))), (dp, .inl (g.2.1, 60, .inl (upd dpf na ((nI dd) - (nI t))))), (cl, .inl (g.2.1, 60, .inl (upd clf na (-1)))), (sa, .inl (g.2.1, 60, .inl (upd saf na (nI nu)))), (ln, .inl (g.2.1, 60, .inl (upd lnf na (nI (ll t))))), (bt, .inl (g.2.2.1, 4000, .inr (.inl bt2_7)))] H locs := hZ
    refine lv_istore (lv' := [(4, .int (nI na)), (0, .ref mk), (1, .int k), (2, .int (nI dd)), (3, .int (nI t))]) hx hb dX3_gridAt_43 hl (by decide) rfl (fun ls hl => ?_)
    refine lv_iload_n hx hb dX3_gridAt_45 rfl (lv_at hl 4 rfl) ?_
    refine lv_iconst (v := 1) hx hb dX3_gridAt_46 (by decide) ?_
    refine lv_iadd hx hb dX3_gridAt_47 ?_
    refine zz_topi (v := nI (t + 1)) (nI_1 _) ?_
    refine lv_iload_n hx hb dX3_gridAt_48 rfl (lv_at hl 3 rfl) ?_
    refine lv_icmp_ge (tgt := 103) hx hb dX3_gridAt_49 (by decide) (fun c => absurd c (nI_ge (by omega) (by omega))) (fun c8 => ?_)
    refine lv_iconst (v := 0) hx hb dX3_gridAt_52 (by decide) ?_
    refine lv_istore (lv' := [(5, .int 0), (4, .int (nI na)), (0, .ref mk), (1, .int k), (2, .int (nI dd)), (3, .int (nI t))]) hx hb dX3_gridAt_53 hl (by decide) rfl (fun ls hl => ?_)
    have LP9 : ∀ (N : Nat) (i : Nat) (na1 : Nat) (nu1 : Nat) (kd1 : Nat → Int32) (dp1 : Nat → Int32) (cl1 : Nat → Int32) (sa1 : Nat → Int32) (ln1 : Nat → Int32) (bt1 : Nat → Int64) (H : Heap) (locs : List Loc) (ls : Array Slot), (i ≤ ll t) → (na + 1 ≤ na1 ∧ na1 ≤ 60 ∧ nu1 ≤ 4000) → (sa1 na = nI nu) → (∀ j, j < na → sa1 j = saf j) → (ll t - i) < N → zz_Z g A s.heap [(mk, .inr (2, [.ref st, .ref ml, .int pa, .int pe])), (ml, .inl (g.2.1, 4, .inl lf)), (st, .inr (5, [.int (nI na1), .int (nI nu1), .ref kd, .ref dp, .ref cl, .ref sa, .ref ln, .ref bt, .ref pn, .ref bf])), (kd, .inl (g.2.1, 60, .inl kd1)), (dp, .inl (g.2.1, 60, .inl dp1)), (cl, .inl (g.2.1, 60, .inl cl1)), (sa, .inl (g.2.1, 60, .inl sa1)), (ln, .inl (g.2.1, 60, .inl ln1)), (bt, .inl (g.2.2.1, 4000, .inr (.inl bt1)))] H locs → lv_has ls 6 [(5, .int (nI i)), (4, .int (nI na)), (0, .ref mk), (1, .int k), (2, .int (nI dd)), (3, .int (nI t))] → W p l e rm_co_gridAt4 s m args below meth c H locs 0 0 (zz_QI below g args s A rm_co_gridAt4.cells rm_co_gridAt4.slots (po_co_gridAt4 g mk st ml kd dp cl sa ln bt pn bf pa pe lf ll na nu t dd kdf dpf clf saf lnf btf k h_t h_d h_a h_u h_l)) (F0 m 55 ls []) := by
      intro N
      induction N with
      | zero =>
        intro i na1 nu1 kd1 dp1 cl1 sa1 ln1 bt1 H locs ls h1 h2 h4 h5 hN
        exact absurd hN (Nat.not_lt_zero _)
      | succ N ih =>
        intro i na1 nu1 kd1 dp1 cl1 sa1 ln1 bt1 H locs ls h1 h2 h4 h5 hN hZ hl
        refine lv_iload hx hb dX3_gridAt_55 (lv_at hl 0 rfl) ?_
        refine lv_aload_n hx hb dX3_gridAt_57 rfl (lv_at hl 2 rfl) ?_
        refine zz_get hC hZ 0 rfl zf_X3_9 rfl dX3_gridAt_58 ?_
        refine lv_iload_n hx hb dX3_gridAt_61 rfl (lv_at hl 5 rfl) ?_
        refine zz_iald hC hZ 1 rfl (vp_in_nI (by omega) (by decide)) dX3_gridAt_62 ?_
        rw [nI_clamp (n := t) (by omega)]
        refine zz_topi (v := nI (ll t)) ((h_l t (by omega)).1) ?_
        refine lv_icmp_ge (tgt := 103) hx hb dX3_gridAt_63 (by decide) (fun c10 => ?_) (fun c10 => ?_)
        · have nc10 : (ll t) ≤ i := (nI_leI (by omega) (by omega)).mp (show nI ((ll t)) ≤ nI (i) from c10)
          refine lv_iload hx hb dX3_gridAt_103 (lv_at hl 1 rfl) ?_
          exact zz_iret hC hZ (⟨na1, nu1, kd1, dp1, cl1, sa1, ln1, bt1, ⟨by omega, by omega, by omega⟩, h5, fun _ _ => rfl, rfl⟩) (Nat.le_of_ble_eq_true rfl) (Nat.le_of_ble_eq_true rfl) dX3_gridAt_105
        · have nc10 : ¬ (ll t) ≤ i := fun q => c10 (show nI ((ll t)) ≤ nI (i) from (nI_leI (by omega) (by omega)).mpr q)
          refine lv_aload_n hx hb dX3_gridAt_66 rfl (lv_at hl 2 rfl) ?_
          refine zz_get hC hZ 0 rfl zf_X3_15 rfl dX3_gridAt_67 ?_
          refine zz_get hC hZ 2 rfl zf_X3_33 rfl dX3_gridAt_70 ?_
          refine lv_aload_n hx hb dX3_gridAt_73 rfl (lv_at hl 2 rfl) ?_
          refine zz_get hC hZ 0 rfl zf_X3_15 rfl dX3_gridAt_74 ?_
          refine zz_get hC hZ 2 rfl zf_X3_37 rfl dX3_gridAt_77 ?_
          refine lv_iload hx hb dX3_gridAt_80 (lv_at hl 1 rfl) ?_
          refine zz_iald hC hZ 6 rfl (vp_in_nI (by omega) (by decide)) dX3_gridAt_82 ?_
          rw [nI_clamp (n := na) (by omega)]
          refine zz_topi (v := nI nu) (h4) ?_
          refine lv_iload hx hb dX3_gridAt_83 (lv_at hl 0 rfl) ?_
          refine lv_iadd hx hb dX3_gridAt_85 ?_
          refine zz_topi (v := nI (nu + i)) (nI_add _ _) ?_
          refine lv_aload_n hx hb dX3_gridAt_86 rfl (lv_at hl 2 rfl) ?_
          refine lv_iload_n hx hb dX3_gridAt_87 rfl (lv_at hl 3 rfl) ?_
          refine lv_iload_n hx hb dX3_gridAt_88 rfl (lv_at hl 4 rfl) ?_
          refine lv_iload_n hx hb dX3_gridAt_89 rfl (lv_at hl 5 rfl) ?_
          refine lv_iconst (v := 1) hx hb dX3_gridAt_90 (by decide) ?_
          refine lv_iadd hx hb dX3_gridAt_91 ?_
          refine zz_topi (v := nI (t + 1)) (nI_1 _) ?_
          refine zz_iV (As := [.int k, .int (nI dd), .int (nI (t + 1))]) (wc := [(mk, .inr (2, [.ref st, .ref ml, .int pa, .int pe])), (ml, .inl (g.2.1, 4, .inl lf)), (st, .inr (5, [.int (nI na1), .int (nI nu1), .ref kd, .ref dp, .ref cl, .ref sa, .ref ln, .ref bt, .ref pn, .ref bf])), (kd, .inl (g.2.1, 60, .inl kd1)), (dp, .inl (g.2.1, 60, .inl dp1)), (cl, .inl (g.2.1, 60, .inl cl1)), (sa, .inl (g.2.1, 60, .inl sa1)), (ln, .inl (g.2.1, 60, .inl ln1)), (bt, .inl (g.2.2.1, 4000, .inr (.inl bt1)))]) (wr := []) (rest := [.int (nI (nu + i)), .ref bt]) hC hZ hl zc_X3_25 (co_gridAt3 g mk st ml kd dp cl sa ln bt pn bf pa pe lf ll na1 nu1 (t + 1) dd kd1 dp1 cl1 sa1 ln1 bt1 k (by omega) (by omega) (by omega) (by omega) (h_l)) [0, 1, 2, 3, 4, 5, 6, 7, 8] [] rfl rfl (by decide) (ci := 2) (q0 := 0) rfl rfl rfl rfl (Nat.le_of_ble_eq_true rfl) ⟨⟨Nat.le_of_ble_eq_true rfl, Nat.le_of_ble_eq_true rfl⟩, Nat.le_of_ble_eq_true rfl, Nat.le_of_ble_eq_true rfl⟩ dX3_gridAt_92 (fun r11 u12 H locs hp hZ => ?_)
          obtain ⟨na2_13, nu2_14, kdf2_15, dpf2_16, clf2_17, saf2_18, lnf2_19, btf2_20, f21, f22, f23, rfl⟩ := hp
          have hZ : zz_Z g A s.heap [(mk, .inr (2, [.ref st, .ref ml, .int pa, .int pe])), (ml, .inl (g.2.1, 4, .inl lf)), (st, .inr (5, [.int (nI na2_13), .int (nI nu2_14), .ref kd, .ref dp, .ref cl, .ref sa, .ref ln, .ref bt, .ref pn, .ref bf])), (kd, .inl (g.2.1, 60, .inl kdf2_15)), (dp, .inl (g.2.1, 60, .inl dpf2_16)), (cl, .inl (g.2.1, 60, .inl clf2_17)), (sa, .inl (g.2.1, 60, .inl saf2_18)), (ln, .inl (g.2.1, 60, .inl lnf2_19)), (bt, .inl (g.2.2.1, 4000, .inr (.inl btf2_20)))] H locs := hZ
          refine lv_i2l hx hb dX3_gridAt_95 rfl ?_
          refine zz_last hC hZ 8 rfl (vp_in_nI (by omega) (by decide)) dX3_gridAt_96 (fun H locs hZ => ?_)
          rw [nI_clamp (n := (nu + i)) (by omega)] at hZ
          have hZ : zz_Z g A s.heap [(mk, .inr (2, [.ref st, .ref ml, .int pa, .int pe])), (ml, .inl (g.2.1, 4, .inl lf)), (st, .inr (5, [.int (nI na2_13), .int (nI nu2_14), .ref kd, .ref dp, .ref cl, .ref sa, .ref ln, .ref bt, .ref pn, .ref bf])), (kd, .inl (g.2.1, 60, .inl kdf2_15)), (dp, .inl (g.2.1, 60, .inl dpf2_16)), (cl, .inl (g.2.1, 60, .inl clf2_17)), (sa, .inl (g.2.1, 60, .inl saf2_18)), (ln, .inl (g.2.1, 60, .inl lnf2_19)), (bt, .inl (g.2.2.1, 4000, .inr (.inl (vp_updL btf2_20 (nu + i) r11.toInt64))))] H locs := hZ
          refine lv_iinc (v := nI (i + 1)) (lv' := [(5, .int (nI (i + 1))), (4, .int (nI na)), (0, .ref mk), (1, .int k), (2, .int (nI dd)), (3, .int (nI t))]) hx hb dX3_gridAt_97 hl (k := 0) rfl (nI_1 _) (by decide) rfl (fun ls hl => ?_)
          refine lv_goto (tgt := 55) hx hb dX3_gridAt_100 (by decide) ?_
          exact ih (i + 1) na2_13 nu2_14 kdf2_15 dpf2_16 clf2_17 saf2_18 lnf2_19 (vp_updL btf2_20 (nu + i) r11.toInt64) H locs ls (by omega) (by omega) ((f22 na (by omega)).trans h4) (fun j hj => (f22 j (by omega)).trans (h5 j hj)) (by omega) hZ (lv_sub hl [0, 1, 2, 3, 4, 5] rfl)
    exact LP9 _ 0 (na + 1) (nu + (ll t)) (upd kdf na k) (upd dpf na ((nI dd) - (nI t))) (upd clf na (-1)) (upd saf na (nI nu)) (upd lnf na (nI (ll t))) bt2_7 H locs ls (Nat.zero_le _) (⟨by omega, by omega, by omega⟩) (pk_us) (fun j hj => pk_un (by omega)) (Nat.lt_succ_self _) hZ (lv_sub hl [0, 1, 2, 3, 4, 5] rfl)
  · refine lv_iconst (v := -1) hx hb dX3_gridAt_23 (by decide) ?_
    have hZ : zz_Z g A s.heap [(mk, .inr (2, [.ref st, .ref ml, .int pa, .int pe])), (ml, .inl (g.2.1, 4, .inl lf)), (st, .inr (5, [.int (nI na), .int (nI nu), .ref kd, .ref dp, .ref cl, .ref sa, .ref ln, .ref bt, .ref pn, .ref bf])), (kd, .inl (g.2.1, 60, .inl kdf)), (dp, .inl (g.2.1, 60, .inl dpf)), (cl, .inl (g.2.1, 60, .inl clf)), (sa, .inl (g.2.1, 60, .inl saf)), (ln, .inl (g.2.1, 60, .inl lnf)), (bt, .inl (g.2.2.1, 4000, .inr (.inl btf)))] H locs := hZ.sub [0, 1, 8, 2, 3, 4, 5, 6, 7] (by decide) rfl
    exact zz_iret hC hZ (⟨na, nu, kdf, dpf, clf, saf, lnf, btf, ⟨by omega, by omega, by omega⟩, fun _ _ => rfl, fun h6 h7 => absurd c4 (zl_fitN (by omega) (by omega) (h_l t (by omega)).2 h6 h7), rfl⟩) (Nat.le_of_ble_eq_true rfl) (Nat.le_of_ble_eq_true rfl) dX3_gridAt_24
