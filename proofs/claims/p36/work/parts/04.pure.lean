theorem dg_X8_within_0 : (decode cX8_within 0 = .ok (.lload_n 0, 1)) ∧ (decode cX8_within 1 = .ok (.lload_n 2, 1)) ∧ (decode cX8_within 2 = .ok (.lcmp, 1)) ∧ (decode cX8_within 3 = .ok (.ifCond .lt 14, 3)) ∧ (decode cX8_within 6 = .ok (.lload_n 0, 1)) ∧ (decode cX8_within 7 = .ok (.lload 4, 2)) ∧ (decode cX8_within 9 = .ok (.lcmp, 1)) ∧ (decode cX8_within 10 = .ok (.ifCond .gt 7, 3)) ∧ (decode cX8_within 13 = .ok (.iconst 1, 1)) ∧ (decode cX8_within 14 = .ok (.goto 4, 3)) ∧ (decode cX8_within 17 = .ok (.iconst 0, 1)) ∧ (decode cX8_within 18 = .ok (.ireturn, 1)) := by decide +kernel
theorem dX8_within_0 : decode cX8_within 0 = .ok (.lload_n 0, 1) := dg_X8_within_0.1
theorem dX8_within_1 : decode cX8_within 1 = .ok (.lload_n 2, 1) := dg_X8_within_0.2.1
theorem dX8_within_2 : decode cX8_within 2 = .ok (.lcmp, 1) := dg_X8_within_0.2.2.1
theorem dX8_within_3 : decode cX8_within 3 = .ok (.ifCond .lt 14, 3) := dg_X8_within_0.2.2.2.1
theorem dX8_within_6 : decode cX8_within 6 = .ok (.lload_n 0, 1) := dg_X8_within_0.2.2.2.2.1
theorem dX8_within_7 : decode cX8_within 7 = .ok (.lload 4, 2) := dg_X8_within_0.2.2.2.2.2.1
theorem dX8_within_9 : decode cX8_within 9 = .ok (.lcmp, 1) := dg_X8_within_0.2.2.2.2.2.2.1
theorem dX8_within_10 : decode cX8_within 10 = .ok (.ifCond .gt 7, 3) := dg_X8_within_0.2.2.2.2.2.2.2.1
theorem dX8_within_13 : decode cX8_within 13 = .ok (.iconst 1, 1) := dg_X8_within_0.2.2.2.2.2.2.2.2.1
theorem dX8_within_14 : decode cX8_within 14 = .ok (.goto 4, 3) := dg_X8_within_0.2.2.2.2.2.2.2.2.2.1
theorem dX8_within_17 : decode cX8_within 17 = .ok (.iconst 0, 1) := dg_X8_within_0.2.2.2.2.2.2.2.2.2.2.1
theorem dX8_within_18 : decode cX8_within 18 = .ok (.ireturn, 1) := dg_X8_within_0.2.2.2.2.2.2.2.2.2.2.2
def fn_cm_within (v : Int64) (lo : Int64) (hi : Int64) : Int32 := (if v < lo then 0 else (if hi < v then 0 else 1))
abbrev rm_cm_within : Room := { frames := 0, cells := 0, slots := 0, locals := 0 }
abbrev po_cm_within (g : zz_G) (v : Int64) (lo : Int64) (hi : Int64) : Int32 → va_W → Prop := fun (r : Int32) (u : va_W) => r = fn_cm_within v lo hi ∧ u = []
set_option maxHeartbeats 4000000 in
set_option maxRecDepth 100000 in
theorem cm_within (g : zz_G) (v : Int64) (lo : Int64) (hi : Int64) : zz_I g yX8_within (.code yX8_within cX8_within 6 (some .boolean)) rm_cm_within [.long v, .long lo, .long hi] [] (po_cm_within g v lo hi) := by
  refine zz_I.intro (own := RX8) (cc := cX8_within) (nL := 6) (by decide) rfl (Nat.le_of_ble_eq_true rfl) ?_
  intro p l e s m args below meth c A H locs ls hC hnm hs hZ hl
  obtain ⟨hx, hb, hml, hown, hts, hr, hlocks, hK⟩ := id hC
  have hl : lv_has ls 6 [(0, .long v), (2, .long lo), (4, .long hi)] := hl
  have hZ : zz_Z g A s.heap [] H locs := hZ
  refine lv_lload_n hx hb dX8_within_0 rfl (lv_at hl 0 rfl) ?_
  refine lv_lload_n hx hb dX8_within_1 rfl (lv_at hl 1 rfl) ?_
  refine zz_lcmp_lt (tgt := 17) hC dX8_within_2 dX8_within_3 (by decide) (fun c1 => ?_) (fun c1 => ?_)
  · refine lv_iconst (v := 0) hx hb dX8_within_17 (by decide) ?_
    exact zz_zret hC hZ (by decide) (⟨by show _ = _; rw [fn_cm_within, if_pos c1], rfl⟩) (Nat.le_of_ble_eq_true rfl) (Nat.le_of_ble_eq_true rfl) dX8_within_18
  · refine lv_lload_n hx hb dX8_within_6 rfl (lv_at hl 0 rfl) ?_
    refine lv_lload hx hb dX8_within_7 (lv_at hl 2 rfl) ?_
    refine zz_lcmp_gt (tgt := 17) hC dX8_within_9 dX8_within_10 (by decide) (fun c2 => ?_) (fun c2 => ?_)
    · refine lv_iconst (v := 0) hx hb dX8_within_17 (by decide) ?_
      exact zz_zret hC hZ (by decide) (⟨by show _ = _; rw [fn_cm_within, if_neg c1, if_pos c2], rfl⟩) (Nat.le_of_ble_eq_true rfl) (Nat.le_of_ble_eq_true rfl) dX8_within_18
    · refine lv_iconst (v := 1) hx hb dX8_within_13 (by decide) ?_
      refine lv_goto (tgt := 18) hx hb dX8_within_14 (by decide) ?_
      exact zz_zret hC hZ (by decide) (⟨by show _ = _; rw [fn_cm_within, if_neg c1, if_neg c2], rfl⟩) (Nat.le_of_ble_eq_true rfl) (Nat.le_of_ble_eq_true rfl) dX8_within_18
theorem zl_within01 (v lo hi : Int64) : fn_cm_within v lo hi = 0 ∨ fn_cm_within v lo hi = 1 := by
  unfold fn_cm_within; split
  · exact Or.inl rfl
  · split
    · exact Or.inl rfl
    · exact Or.inr rfl
theorem dg_X8_isBits_0 : (decode cX8_isBits 0 = .ok (.iload_n 0, 1)) ∧ (decode cX8_isBits 1 = .ok (.tableswitch 98 0 7 #[47, 54, 63, 74, 85, 96, 85, 96], 47)) ∧ (decode cX8_isBits 48 = .ok (.lload_n 1, 1)) ∧ (decode cX8_isBits 49 = .ok (.lconst 0, 1)) ∧ (decode cX8_isBits 50 = .ok (.lconst 1, 1)) ∧ (decode cX8_isBits 51 = .ok (.invokestatic 106, 3)) ∧ (decode cX8_isBits 54 = .ok (.ireturn, 1)) ∧ (decode cX8_isBits 55 = .ok (.lload_n 1, 1)) ∧ (decode cX8_isBits 56 = .ok (.lconst 0, 1)) ∧ (decode cX8_isBits 57 = .ok (.ldc2_w 110, 3)) ∧ (decode cX8_isBits 60 = .ok (.invokestatic 106, 3)) ∧ (decode cX8_isBits 63 = .ok (.ireturn, 1)) ∧ (decode cX8_isBits 64 = .ok (.lload_n 1, 1)) ∧ (decode cX8_isBits 65 = .ok (.ldc2_w 112, 3)) ∧ (decode cX8_isBits 68 = .ok (.ldc2_w 114, 3)) ∧ (decode cX8_isBits 71 = .ok (.invokestatic 106, 3)) := by decide +kernel
theorem dX8_isBits_0 : decode cX8_isBits 0 = .ok (.iload_n 0, 1) := dg_X8_isBits_0.1
theorem dX8_isBits_1 : decode cX8_isBits 1 = .ok (.tableswitch 98 0 7 #[47, 54, 63, 74, 85, 96, 85, 96], 47) := dg_X8_isBits_0.2.1
theorem dX8_isBits_48 : decode cX8_isBits 48 = .ok (.lload_n 1, 1) := dg_X8_isBits_0.2.2.1
theorem dX8_isBits_49 : decode cX8_isBits 49 = .ok (.lconst 0, 1) := dg_X8_isBits_0.2.2.2.1
theorem dX8_isBits_50 : decode cX8_isBits 50 = .ok (.lconst 1, 1) := dg_X8_isBits_0.2.2.2.2.1
theorem dX8_isBits_51 : decode cX8_isBits 51 = .ok (.invokestatic 106, 3) := dg_X8_isBits_0.2.2.2.2.2.1
theorem dX8_isBits_54 : decode cX8_isBits 54 = .ok (.ireturn, 1) := dg_X8_isBits_0.2.2.2.2.2.2.1
theorem dX8_isBits_55 : decode cX8_isBits 55 = .ok (.lload_n 1, 1) := dg_X8_isBits_0.2.2.2.2.2.2.2.1
theorem dX8_isBits_56 : decode cX8_isBits 56 = .ok (.lconst 0, 1) := dg_X8_isBits_0.2.2.2.2.2.2.2.2.1
theorem dX8_isBits_57 : decode cX8_isBits 57 = .ok (.ldc2_w 110, 3) := dg_X8_isBits_0.2.2.2.2.2.2.2.2.2.1
theorem dX8_isBits_60 : decode cX8_isBits 60 = .ok (.invokestatic 106, 3) := dg_X8_isBits_0.2.2.2.2.2.2.2.2.2.2.1
theorem dX8_isBits_63 : decode cX8_isBits 63 = .ok (.ireturn, 1) := dg_X8_isBits_0.2.2.2.2.2.2.2.2.2.2.2.1
theorem dX8_isBits_64 : decode cX8_isBits 64 = .ok (.lload_n 1, 1) := dg_X8_isBits_0.2.2.2.2.2.2.2.2.2.2.2.2.1
theorem dX8_isBits_65 : decode cX8_isBits 65 = .ok (.ldc2_w 112, 3) := dg_X8_isBits_0.2.2.2.2.2.2.2.2.2.2.2.2.2.1
theorem dX8_isBits_68 : decode cX8_isBits 68 = .ok (.ldc2_w 114, 3) := dg_X8_isBits_0.2.2.2.2.2.2.2.2.2.2.2.2.2.2.1
theorem dX8_isBits_71 : decode cX8_isBits 71 = .ok (.invokestatic 106, 3) := dg_X8_isBits_0.2.2.2.2.2.2.2.2.2.2.2.2.2.2.2
theorem dg_X8_isBits_74 : (decode cX8_isBits 74 = .ok (.ireturn, 1)) ∧ (decode cX8_isBits 75 = .ok (.lload_n 1, 1)) ∧ (decode cX8_isBits 76 = .ok (.ldc2_w 116, 3)) ∧ (decode cX8_isBits 79 = .ok (.ldc2_w 118, 3)) ∧ (decode cX8_isBits 82 = .ok (.invokestatic 106, 3)) ∧ (decode cX8_isBits 85 = .ok (.ireturn, 1)) ∧ (decode cX8_isBits 86 = .ok (.lload_n 1, 1)) ∧ (decode cX8_isBits 87 = .ok (.ldc2_w 120, 3)) ∧ (decode cX8_isBits 90 = .ok (.ldc2_w 122, 3)) ∧ (decode cX8_isBits 93 = .ok (.invokestatic 106, 3)) ∧ (decode cX8_isBits 96 = .ok (.ireturn, 1)) ∧ (decode cX8_isBits 97 = .ok (.iconst 1, 1)) ∧ (decode cX8_isBits 98 = .ok (.ireturn, 1)) ∧ (decode cX8_isBits 99 = .ok (.lload_n 1, 1)) ∧ (decode cX8_isBits 100 = .ok (.lconst 0, 1)) ∧ (decode cX8_isBits 101 = .ok (.ldc2_w 124, 3)) := by decide +kernel
theorem dX8_isBits_74 : decode cX8_isBits 74 = .ok (.ireturn, 1) := dg_X8_isBits_74.1
theorem dX8_isBits_75 : decode cX8_isBits 75 = .ok (.lload_n 1, 1) := dg_X8_isBits_74.2.1
theorem dX8_isBits_76 : decode cX8_isBits 76 = .ok (.ldc2_w 116, 3) := dg_X8_isBits_74.2.2.1
theorem dX8_isBits_79 : decode cX8_isBits 79 = .ok (.ldc2_w 118, 3) := dg_X8_isBits_74.2.2.2.1
theorem dX8_isBits_82 : decode cX8_isBits 82 = .ok (.invokestatic 106, 3) := dg_X8_isBits_74.2.2.2.2.1
theorem dX8_isBits_85 : decode cX8_isBits 85 = .ok (.ireturn, 1) := dg_X8_isBits_74.2.2.2.2.2.1
theorem dX8_isBits_86 : decode cX8_isBits 86 = .ok (.lload_n 1, 1) := dg_X8_isBits_74.2.2.2.2.2.2.1
theorem dX8_isBits_87 : decode cX8_isBits 87 = .ok (.ldc2_w 120, 3) := dg_X8_isBits_74.2.2.2.2.2.2.2.1
theorem dX8_isBits_90 : decode cX8_isBits 90 = .ok (.ldc2_w 122, 3) := dg_X8_isBits_74.2.2.2.2.2.2.2.2.1
theorem dX8_isBits_93 : decode cX8_isBits 93 = .ok (.invokestatic 106, 3) := dg_X8_isBits_74.2.2.2.2.2.2.2.2.2.1
theorem dX8_isBits_96 : decode cX8_isBits 96 = .ok (.ireturn, 1) := dg_X8_isBits_74.2.2.2.2.2.2.2.2.2.2.1
theorem dX8_isBits_97 : decode cX8_isBits 97 = .ok (.iconst 1, 1) := dg_X8_isBits_74.2.2.2.2.2.2.2.2.2.2.2.1
theorem dX8_isBits_98 : decode cX8_isBits 98 = .ok (.ireturn, 1) := dg_X8_isBits_74.2.2.2.2.2.2.2.2.2.2.2.2.1
theorem dX8_isBits_99 : decode cX8_isBits 99 = .ok (.lload_n 1, 1) := dg_X8_isBits_74.2.2.2.2.2.2.2.2.2.2.2.2.2.1
theorem dX8_isBits_100 : decode cX8_isBits 100 = .ok (.lconst 0, 1) := dg_X8_isBits_74.2.2.2.2.2.2.2.2.2.2.2.2.2.2.1
theorem dX8_isBits_101 : decode cX8_isBits 101 = .ok (.ldc2_w 124, 3) := dg_X8_isBits_74.2.2.2.2.2.2.2.2.2.2.2.2.2.2.2
theorem dg_X8_isBits_104 : (decode cX8_isBits 104 = .ok (.invokestatic 106, 3)) ∧ (decode cX8_isBits 107 = .ok (.ireturn, 1)) := by decide +kernel
theorem dX8_isBits_104 : decode cX8_isBits 104 = .ok (.invokestatic 106, 3) := dg_X8_isBits_104.1
theorem dX8_isBits_107 : decode cX8_isBits 107 = .ok (.ireturn, 1) := dg_X8_isBits_104.2
theorem zk_968 : Cond.constantLong RX8 124 (1000) ∈ zz_w := zz_in (List.mem_append_right _ (List.mem_append_right _ (List.mem_append_right _ (List.mem_append_right _ (List.mem_append_right _ (List.mem_of_getElem? (i := 8) (by decide +kernel))))))) rfl
theorem zk_852 : Cond.methodLink RX8 106 yX8_within ∈ zz_w := zz_in (List.mem_append_right _ (List.mem_append_right _ (List.mem_append_right _ (List.mem_append_right _ (List.mem_append_left _ (List.mem_of_getElem? (i := 132) (by decide +kernel))))))) rfl
set_option maxRecDepth 20000 in
theorem zk_854 : Cond.code yX8_within cX8_within 6 (some .boolean) ∈ zz_w := zz_in (List.mem_append_right _ (List.mem_append_right _ (List.mem_append_right _ (List.mem_append_right _ (List.mem_append_left _ (List.mem_of_getElem? (i := 134) (rfl))))))) rfl
theorem zk_7 : Cond.initialized RX8 ∈ zz_w := zz_in (List.mem_append_right _ (List.mem_append_left _ (List.mem_of_getElem? (i := 7) (by decide +kernel)))) rfl
theorem zk_853 : Cond.static yX8_within ∈ zz_w := zz_in (List.mem_append_right _ (List.mem_append_right _ (List.mem_append_right _ (List.mem_append_right _ (List.mem_append_left _ (List.mem_of_getElem? (i := 133) (by decide +kernel))))))) rfl
theorem zc_X8_106 : zz_cS RX8 106 yX8_within cX8_within 6 (some .boolean) 3 := ⟨⟨zk_852, zk_854, zk_7, by decide, by decide, by decide +kernel⟩, zk_853⟩
theorem zk_962 : Cond.constantLong RX8 110 (65535) ∈ zz_w := zz_in (List.mem_append_right _ (List.mem_append_right _ (List.mem_append_right _ (List.mem_append_right _ (List.mem_append_right _ (List.mem_of_getElem? (i := 2) (by decide +kernel))))))) rfl
theorem zk_963 : Cond.constantLong RX8 112 (-128) ∈ zz_w := zz_in (List.mem_append_right _ (List.mem_append_right _ (List.mem_append_right _ (List.mem_append_right _ (List.mem_append_right _ (List.mem_of_getElem? (i := 3) (by decide +kernel))))))) rfl
theorem zk_964 : Cond.constantLong RX8 114 (127) ∈ zz_w := zz_in (List.mem_append_right _ (List.mem_append_right _ (List.mem_append_right _ (List.mem_append_right _ (List.mem_append_right _ (List.mem_of_getElem? (i := 4) (by decide +kernel))))))) rfl
theorem zk_965 : Cond.constantLong RX8 116 (-32768) ∈ zz_w := zz_in (List.mem_append_right _ (List.mem_append_right _ (List.mem_append_right _ (List.mem_append_right _ (List.mem_append_right _ (List.mem_of_getElem? (i := 5) (by decide +kernel))))))) rfl
theorem zk_966 : Cond.constantLong RX8 118 (32767) ∈ zz_w := zz_in (List.mem_append_right _ (List.mem_append_right _ (List.mem_append_right _ (List.mem_append_right _ (List.mem_append_right _ (List.mem_of_getElem? (i := 6) (by decide +kernel))))))) rfl
theorem zk_967 : Cond.constantLong RX8 120 (-2147483648) ∈ zz_w := zz_in (List.mem_append_right _ (List.mem_append_right _ (List.mem_append_right _ (List.mem_append_right _ (List.mem_append_right _ (List.mem_of_getElem? (i := 7) (by decide +kernel))))))) rfl
theorem zk_938 : Cond.constantLong RX8 122 (2147483647) ∈ zz_w := zz_in (List.mem_append_right _ (List.mem_append_right _ (List.mem_append_right _ (List.mem_append_right _ (List.mem_append_left _ (List.mem_of_getElem? (i := 218) (by decide +kernel))))))) rfl
def fn_cm_isBits (k : Int32) (x : Int64) : Int32 := (if k = nI 0 then (fn_cm_within x 0 1) else (if k = nI 1 then (fn_cm_within x 0 65535) else (if k = nI 2 then (fn_cm_within x (-128) 127) else (if k = nI 3 then (fn_cm_within x (-32768) 32767) else (if k = nI 4 then (fn_cm_within x (-2147483648) 2147483647) else (if k = nI 5 then 1 else (if k = nI 6 then (fn_cm_within x (-2147483648) 2147483647) else (if k = nI 7 then 1 else (fn_cm_within x 0 1000)))))))))
abbrev rm_cm_isBits : Room := { frames := 1, cells := 0, slots := 0, locals := 25 }
abbrev po_cm_isBits (g : zz_G) (k : Int32) (x : Int64) : Int32 → va_W → Prop := fun (r : Int32) (u : va_W) => r = fn_cm_isBits k x ∧ u = []
set_option maxHeartbeats 4000000 in
set_option maxRecDepth 100000 in
theorem cm_isBits (g : zz_G) (k : Int32) (x : Int64) : zz_I g yX8_isBits (.code yX8_isBits cX8_isBits 3 (some .boolean)) rm_cm_isBits [.int k, .long x] [] (po_cm_isBits g k x) := by
  refine zz_I.intro (own := RX8) (cc := cX8_isBits) (nL := 3) (by decide) rfl (Nat.le_of_ble_eq_true rfl) ?_
  intro p l e s m args below meth c A H locs ls hC hnm hs hZ hl
  obtain ⟨hx, hb, hml, hown, hts, hr, hlocks, hK⟩ := id hC
  have hl : lv_has ls 3 [(0, .int k), (1, .long x)] := hl
  have hZ : zz_Z g A s.heap [] H locs := hZ
  refine lv_iload_n hx hb dX8_isBits_0 rfl (lv_at hl 0 rfl) ?_
  rcases zz_sw k 8 (by decide) with c1 | ⟨k, hk, c1⟩
  · refine lv_tableOut (tgt := 99) hx hb dX8_isBits_1 (by rcases c1 with q | q; exact Or.inl q; exact Or.inr (by omega)) (by decide) ?_
    refine lv_lload_n hx hb dX8_isBits_99 rfl (lv_at hl 1 rfl) ?_
    refine lv_lconst (v := 0) hx hb dX8_isBits_100 (by decide) ?_
    refine lv_ldc2 hx hb hown (hts _ zk_968) dX8_isBits_101 ?_
    refine zz_iS (As := [.long x, .long 0, .long 1000]) (wc := []) (wr := []) (rest := []) hC hZ hs hl zc_X8_106 (cm_within g x 0 1000) [] [] rfl rfl (by decide +kernel) rfl rfl (Nat.le_of_ble_eq_true rfl) ⟨⟨Nat.le_of_ble_eq_true rfl, Nat.le_of_ble_eq_true rfl⟩, Nat.le_of_ble_eq_true rfl, Nat.le_of_ble_eq_true rfl⟩ dX8_isBits_104 (fun r2 u3 H locs hp hZ => ?_)
    obtain ⟨rfl, rfl⟩ := hp
    have hZ : zz_Z g A s.heap [] H locs := hZ
    exact zz_zret hC hZ (zl_b01 (zl_within01 _ _ _)) (⟨by show _ = _; rw [fn_cm_isBits, if_neg (zl_swo c1 0 (by decide) (by decide)), if_neg (zl_swo c1 1 (by decide) (by decide)), if_neg (zl_swo c1 2 (by decide) (by decide)), if_neg (zl_swo c1 3 (by decide) (by decide)), if_neg (zl_swo c1 4 (by decide) (by decide)), if_neg (zl_swo c1 5 (by decide) (by decide)), if_neg (zl_swo c1 6 (by decide) (by decide)), if_neg (zl_swo c1 7 (by decide) (by decide))], rfl⟩) (Nat.le_of_ble_eq_true rfl) (Nat.le_of_ble_eq_true rfl) dX8_isBits_107
  · subst c1
    rcases (show k = 0 ∨ k = 1 ∨ k = 2 ∨ k = 3 ∨ k = 4 ∨ k = 5 ∨ k = 6 ∨ k = 7 by omega) with rfl | rfl | rfl | rfl | rfl | rfl | rfl | rfl
    · refine lv_tableIn (tgt := 48) (off := 47) hx hb dX8_isBits_1 (by decide) (by decide) (by decide) (by decide) ?_
      refine lv_lload_n hx hb dX8_isBits_48 rfl (lv_at hl 1 rfl) ?_
      refine lv_lconst (v := 0) hx hb dX8_isBits_49 (by decide) ?_
      refine lv_lconst (v := 1) hx hb dX8_isBits_50 (by decide) ?_
      refine zz_iS (As := [.long x, .long 0, .long 1]) (wc := []) (wr := []) (rest := []) hC hZ hs hl zc_X8_106 (cm_within g x 0 1) [] [] rfl rfl (by decide +kernel) rfl rfl (Nat.le_of_ble_eq_true rfl) ⟨⟨Nat.le_of_ble_eq_true rfl, Nat.le_of_ble_eq_true rfl⟩, Nat.le_of_ble_eq_true rfl, Nat.le_of_ble_eq_true rfl⟩ dX8_isBits_51 (fun r4 u5 H locs hp hZ => ?_)
      obtain ⟨rfl, rfl⟩ := hp
      have hZ : zz_Z g A s.heap [] H locs := hZ
      exact zz_zret hC hZ (zl_b01 (zl_within01 _ _ _)) (⟨by show _ = _; rw [fn_cm_isBits, if_pos rfl], rfl⟩) (Nat.le_of_ble_eq_true rfl) (Nat.le_of_ble_eq_true rfl) dX8_isBits_54
    · refine lv_tableIn (tgt := 55) (off := 54) hx hb dX8_isBits_1 (by decide) (by decide) (by decide) (by decide) ?_
      refine lv_lload_n hx hb dX8_isBits_55 rfl (lv_at hl 1 rfl) ?_
      refine lv_lconst (v := 0) hx hb dX8_isBits_56 (by decide) ?_
      refine lv_ldc2 hx hb hown (hts _ zk_962) dX8_isBits_57 ?_
      refine zz_iS (As := [.long x, .long 0, .long 65535]) (wc := []) (wr := []) (rest := []) hC hZ hs hl zc_X8_106 (cm_within g x 0 65535) [] [] rfl rfl (by decide +kernel) rfl rfl (Nat.le_of_ble_eq_true rfl) ⟨⟨Nat.le_of_ble_eq_true rfl, Nat.le_of_ble_eq_true rfl⟩, Nat.le_of_ble_eq_true rfl, Nat.le_of_ble_eq_true rfl⟩ dX8_isBits_60 (fun r6 u7 H locs hp hZ => ?_)
      obtain ⟨rfl, rfl⟩ := hp
      have hZ : zz_Z g A s.heap [] H locs := hZ
      exact zz_zret hC hZ (zl_b01 (zl_within01 _ _ _)) (⟨by show _ = _; rw [fn_cm_isBits, if_neg (show ¬ (nI 1 = nI 0) by decide), if_pos rfl], rfl⟩) (Nat.le_of_ble_eq_true rfl) (Nat.le_of_ble_eq_true rfl) dX8_isBits_63
    · refine lv_tableIn (tgt := 64) (off := 63) hx hb dX8_isBits_1 (by decide) (by decide) (by decide) (by decide) ?_
      refine lv_lload_n hx hb dX8_isBits_64 rfl (lv_at hl 1 rfl) ?_
      refine lv_ldc2 hx hb hown (hts _ zk_963) dX8_isBits_65 ?_
      refine lv_ldc2 hx hb hown (hts _ zk_964) dX8_isBits_68 ?_
      refine zz_iS (As := [.long x, .long (-128), .long 127]) (wc := []) (wr := []) (rest := []) hC hZ hs hl zc_X8_106 (cm_within g x (-128) 127) [] [] rfl rfl (by decide +kernel) rfl rfl (Nat.le_of_ble_eq_true rfl) ⟨⟨Nat.le_of_ble_eq_true rfl, Nat.le_of_ble_eq_true rfl⟩, Nat.le_of_ble_eq_true rfl, Nat.le_of_ble_eq_true rfl⟩ dX8_isBits_71 (fun r8 u9 H locs hp hZ => ?_)
      obtain ⟨rfl, rfl⟩ := hp
      have hZ : zz_Z g A s.heap [] H locs := hZ
      exact zz_zret hC hZ (zl_b01 (zl_within01 _ _ _)) (⟨by show _ = _; rw [fn_cm_isBits, if_neg (show ¬ (nI 2 = nI 0) by decide), if_neg (show ¬ (nI 2 = nI 1) by decide), if_pos rfl], rfl⟩) (Nat.le_of_ble_eq_true rfl) (Nat.le_of_ble_eq_true rfl) dX8_isBits_74
    · refine lv_tableIn (tgt := 75) (off := 74) hx hb dX8_isBits_1 (by decide) (by decide) (by decide) (by decide) ?_
      refine lv_lload_n hx hb dX8_isBits_75 rfl (lv_at hl 1 rfl) ?_
      refine lv_ldc2 hx hb hown (hts _ zk_965) dX8_isBits_76 ?_
      refine lv_ldc2 hx hb hown (hts _ zk_966) dX8_isBits_79 ?_
      refine zz_iS (As := [.long x, .long (-32768), .long 32767]) (wc := []) (wr := []) (rest := []) hC hZ hs hl zc_X8_106 (cm_within g x (-32768) 32767) [] [] rfl rfl (by decide +kernel) rfl rfl (Nat.le_of_ble_eq_true rfl) ⟨⟨Nat.le_of_ble_eq_true rfl, Nat.le_of_ble_eq_true rfl⟩, Nat.le_of_ble_eq_true rfl, Nat.le_of_ble_eq_true rfl⟩ dX8_isBits_82 (fun r10 u11 H locs hp hZ => ?_)
      obtain ⟨rfl, rfl⟩ := hp
      have hZ : zz_Z g A s.heap [] H locs := hZ
      exact zz_zret hC hZ (zl_b01 (zl_within01 _ _ _)) (⟨by show _ = _; rw [fn_cm_isBits, if_neg (show ¬ (nI 3 = nI 0) by decide), if_neg (show ¬ (nI 3 = nI 1) by decide), if_neg (show ¬ (nI 3 = nI 2) by decide), if_pos rfl], rfl⟩) (Nat.le_of_ble_eq_true rfl) (Nat.le_of_ble_eq_true rfl) dX8_isBits_85
    · refine lv_tableIn (tgt := 86) (off := 85) hx hb dX8_isBits_1 (by decide) (by decide) (by decide) (by decide) ?_
      refine lv_lload_n hx hb dX8_isBits_86 rfl (lv_at hl 1 rfl) ?_
      refine lv_ldc2 hx hb hown (hts _ zk_967) dX8_isBits_87 ?_
      refine lv_ldc2 hx hb hown (hts _ zk_938) dX8_isBits_90 ?_
      refine zz_iS (As := [.long x, .long (-2147483648), .long 2147483647]) (wc := []) (wr := []) (rest := []) hC hZ hs hl zc_X8_106 (cm_within g x (-2147483648) 2147483647) [] [] rfl rfl (by decide +kernel) rfl rfl (Nat.le_of_ble_eq_true rfl) ⟨⟨Nat.le_of_ble_eq_true rfl, Nat.le_of_ble_eq_true rfl⟩, Nat.le_of_ble_eq_true rfl, Nat.le_of_ble_eq_true rfl⟩ dX8_isBits_93 (fun r12 u13 H locs hp hZ => ?_)
      obtain ⟨rfl, rfl⟩ := hp
      have hZ : zz_Z g A s.heap [] H locs := hZ
      exact zz_zret hC hZ (zl_b01 (zl_within01 _ _ _)) (⟨by show _ = _; rw [fn_cm_isBits, if_neg (show ¬ (nI 4 = nI 0) by decide), if_neg (show ¬ (nI 4 = nI 1) by decide), if_neg (show ¬ (nI 4 = nI 2) by decide), if_neg (show ¬ (nI 4 = nI 3) by decide), if_pos rfl], rfl⟩) (Nat.le_of_ble_eq_true rfl) (Nat.le_of_ble_eq_true rfl) dX8_isBits_96
    · refine lv_tableIn (tgt := 97) (off := 96) hx hb dX8_isBits_1 (by decide) (by decide) (by decide) (by decide) ?_
      refine lv_iconst (v := 1) hx hb dX8_isBits_97 (by decide) ?_
      exact zz_zret hC hZ (by decide) (⟨by show _ = _; rw [fn_cm_isBits, if_neg (show ¬ (nI 5 = nI 0) by decide), if_neg (show ¬ (nI 5 = nI 1) by decide), if_neg (show ¬ (nI 5 = nI 2) by decide), if_neg (show ¬ (nI 5 = nI 3) by decide), if_neg (show ¬ (nI 5 = nI 4) by decide), if_pos rfl], rfl⟩) (Nat.le_of_ble_eq_true rfl) (Nat.le_of_ble_eq_true rfl) dX8_isBits_98
    · refine lv_tableIn (tgt := 86) (off := 85) hx hb dX8_isBits_1 (by decide) (by decide) (by decide) (by decide) ?_
      refine lv_lload_n hx hb dX8_isBits_86 rfl (lv_at hl 1 rfl) ?_
      refine lv_ldc2 hx hb hown (hts _ zk_967) dX8_isBits_87 ?_
      refine lv_ldc2 hx hb hown (hts _ zk_938) dX8_isBits_90 ?_
      refine zz_iS (As := [.long x, .long (-2147483648), .long 2147483647]) (wc := []) (wr := []) (rest := []) hC hZ hs hl zc_X8_106 (cm_within g x (-2147483648) 2147483647) [] [] rfl rfl (by decide +kernel) rfl rfl (Nat.le_of_ble_eq_true rfl) ⟨⟨Nat.le_of_ble_eq_true rfl, Nat.le_of_ble_eq_true rfl⟩, Nat.le_of_ble_eq_true rfl, Nat.le_of_ble_eq_true rfl⟩ dX8_isBits_93 (fun r14 u15 H locs hp hZ => ?_)
      obtain ⟨rfl, rfl⟩ := hp
      have hZ : zz_Z g A s.heap [] H locs := hZ
      exact zz_zret hC hZ (zl_b01 (zl_within01 _ _ _)) (⟨by show _ = _; rw [fn_cm_isBits, if_neg (show ¬ (nI 6 = nI 0) by decide), if_neg (show ¬ (nI 6 = nI 1) by decide), if_neg (show ¬ (nI 6 = nI 2) by decide), if_neg (show ¬ (nI 6 = nI 3) by decide), if_neg (show ¬ (nI 6 = nI 4) by decide), if_neg (show ¬ (nI 6 = nI 5) by decide), if_pos rfl], rfl⟩) (Nat.le_of_ble_eq_true rfl) (Nat.le_of_ble_eq_true rfl) dX8_isBits_96
    · refine lv_tableIn (tgt := 97) (off := 96) hx hb dX8_isBits_1 (by decide) (by decide) (by decide) (by decide) ?_
      refine lv_iconst (v := 1) hx hb dX8_isBits_97 (by decide) ?_
      exact zz_zret hC hZ (by decide) (⟨by show _ = _; rw [fn_cm_isBits, if_neg (show ¬ (nI 7 = nI 0) by decide), if_neg (show ¬ (nI 7 = nI 1) by decide), if_neg (show ¬ (nI 7 = nI 2) by decide), if_neg (show ¬ (nI 7 = nI 3) by decide), if_neg (show ¬ (nI 7 = nI 4) by decide), if_neg (show ¬ (nI 7 = nI 5) by decide), if_neg (show ¬ (nI 7 = nI 6) by decide), if_pos rfl], rfl⟩) (Nat.le_of_ble_eq_true rfl) (Nat.le_of_ble_eq_true rfl) dX8_isBits_98
theorem dg_X8_isNone_0 : (decode cX8_isNone 0 = .ok (.iload_n 0, 1)) ∧ (decode cX8_isNone 1 = .ok (.bipush 6, 2)) ∧ (decode cX8_isNone 3 = .ok (.if_icmp .ne 23, 3)) ∧ (decode cX8_isNone 6 = .ok (.lload_n 1, 1)) ∧ (decode cX8_isNone 7 = .ok (.ldc2_w 122, 3)) ∧ (decode cX8_isNone 10 = .ok (.land, 1)) ∧ (decode cX8_isNone 11 = .ok (.ldc2_w 126, 3)) ∧ (decode cX8_isNone 14 = .ok (.lcmp, 1)) ∧ (decode cX8_isNone 15 = .ok (.ifCond .le 7, 3)) ∧ (decode cX8_isNone 18 = .ok (.iconst 1, 1)) ∧ (decode cX8_isNone 19 = .ok (.goto 30, 3)) ∧ (decode cX8_isNone 22 = .ok (.iconst 0, 1)) ∧ (decode cX8_isNone 23 = .ok (.goto 26, 3)) ∧ (decode cX8_isNone 26 = .ok (.iload_n 0, 1)) ∧ (decode cX8_isNone 27 = .ok (.bipush 7, 2)) ∧ (decode cX8_isNone 29 = .ok (.if_icmp .ne 19, 3)) := by decide +kernel
theorem dX8_isNone_0 : decode cX8_isNone 0 = .ok (.iload_n 0, 1) := dg_X8_isNone_0.1
theorem dX8_isNone_1 : decode cX8_isNone 1 = .ok (.bipush 6, 2) := dg_X8_isNone_0.2.1
theorem dX8_isNone_3 : decode cX8_isNone 3 = .ok (.if_icmp .ne 23, 3) := dg_X8_isNone_0.2.2.1
theorem dX8_isNone_6 : decode cX8_isNone 6 = .ok (.lload_n 1, 1) := dg_X8_isNone_0.2.2.2.1
theorem dX8_isNone_7 : decode cX8_isNone 7 = .ok (.ldc2_w 122, 3) := dg_X8_isNone_0.2.2.2.2.1
theorem dX8_isNone_10 : decode cX8_isNone 10 = .ok (.land, 1) := dg_X8_isNone_0.2.2.2.2.2.1
theorem dX8_isNone_11 : decode cX8_isNone 11 = .ok (.ldc2_w 126, 3) := dg_X8_isNone_0.2.2.2.2.2.2.1
theorem dX8_isNone_14 : decode cX8_isNone 14 = .ok (.lcmp, 1) := dg_X8_isNone_0.2.2.2.2.2.2.2.1
theorem dX8_isNone_15 : decode cX8_isNone 15 = .ok (.ifCond .le 7, 3) := dg_X8_isNone_0.2.2.2.2.2.2.2.2.1
theorem dX8_isNone_18 : decode cX8_isNone 18 = .ok (.iconst 1, 1) := dg_X8_isNone_0.2.2.2.2.2.2.2.2.2.1
theorem dX8_isNone_19 : decode cX8_isNone 19 = .ok (.goto 30, 3) := dg_X8_isNone_0.2.2.2.2.2.2.2.2.2.2.1
theorem dX8_isNone_22 : decode cX8_isNone 22 = .ok (.iconst 0, 1) := dg_X8_isNone_0.2.2.2.2.2.2.2.2.2.2.2.1
theorem dX8_isNone_23 : decode cX8_isNone 23 = .ok (.goto 26, 3) := dg_X8_isNone_0.2.2.2.2.2.2.2.2.2.2.2.2.1
theorem dX8_isNone_26 : decode cX8_isNone 26 = .ok (.iload_n 0, 1) := dg_X8_isNone_0.2.2.2.2.2.2.2.2.2.2.2.2.2.1
theorem dX8_isNone_27 : decode cX8_isNone 27 = .ok (.bipush 7, 2) := dg_X8_isNone_0.2.2.2.2.2.2.2.2.2.2.2.2.2.2.1
theorem dX8_isNone_29 : decode cX8_isNone 29 = .ok (.if_icmp .ne 19, 3) := dg_X8_isNone_0.2.2.2.2.2.2.2.2.2.2.2.2.2.2.2
theorem dg_X8_isNone_32 : (decode cX8_isNone 32 = .ok (.lload_n 1, 1)) ∧ (decode cX8_isNone 33 = .ok (.ldc2_w 128, 3)) ∧ (decode cX8_isNone 36 = .ok (.land, 1)) ∧ (decode cX8_isNone 37 = .ok (.ldc2_w 130, 3)) ∧ (decode cX8_isNone 40 = .ok (.lcmp, 1)) ∧ (decode cX8_isNone 41 = .ok (.ifCond .le 7, 3)) ∧ (decode cX8_isNone 44 = .ok (.iconst 1, 1)) ∧ (decode cX8_isNone 45 = .ok (.goto 4, 3)) ∧ (decode cX8_isNone 48 = .ok (.iconst 0, 1)) ∧ (decode cX8_isNone 49 = .ok (.ireturn, 1)) := by decide +kernel
theorem dX8_isNone_32 : decode cX8_isNone 32 = .ok (.lload_n 1, 1) := dg_X8_isNone_32.1
theorem dX8_isNone_33 : decode cX8_isNone 33 = .ok (.ldc2_w 128, 3) := dg_X8_isNone_32.2.1
theorem dX8_isNone_36 : decode cX8_isNone 36 = .ok (.land, 1) := dg_X8_isNone_32.2.2.1
theorem dX8_isNone_37 : decode cX8_isNone 37 = .ok (.ldc2_w 130, 3) := dg_X8_isNone_32.2.2.2.1
theorem dX8_isNone_40 : decode cX8_isNone 40 = .ok (.lcmp, 1) := dg_X8_isNone_32.2.2.2.2.1
theorem dX8_isNone_41 : decode cX8_isNone 41 = .ok (.ifCond .le 7, 3) := dg_X8_isNone_32.2.2.2.2.2.1
theorem dX8_isNone_44 : decode cX8_isNone 44 = .ok (.iconst 1, 1) := dg_X8_isNone_32.2.2.2.2.2.2.1
theorem dX8_isNone_45 : decode cX8_isNone 45 = .ok (.goto 4, 3) := dg_X8_isNone_32.2.2.2.2.2.2.2.1
theorem dX8_isNone_48 : decode cX8_isNone 48 = .ok (.iconst 0, 1) := dg_X8_isNone_32.2.2.2.2.2.2.2.2.1
theorem dX8_isNone_49 : decode cX8_isNone 49 = .ok (.ireturn, 1) := dg_X8_isNone_32.2.2.2.2.2.2.2.2.2
theorem zk_940 : Cond.constantLong RX8 128 (9223372036854775807) ∈ zz_w := zz_in (List.mem_append_right _ (List.mem_append_right _ (List.mem_append_right _ (List.mem_append_right _ (List.mem_append_left _ (List.mem_of_getElem? (i := 220) (by decide +kernel))))))) rfl
theorem zk_941 : Cond.constantLong RX8 130 (9218868437227405312) ∈ zz_w := zz_in (List.mem_append_right _ (List.mem_append_right _ (List.mem_append_right _ (List.mem_append_right _ (List.mem_append_left _ (List.mem_of_getElem? (i := 221) (by decide +kernel))))))) rfl
theorem zk_939 : Cond.constantLong RX8 126 (2139095040) ∈ zz_w := zz_in (List.mem_append_right _ (List.mem_append_right _ (List.mem_append_right _ (List.mem_append_right _ (List.mem_append_left _ (List.mem_of_getElem? (i := 219) (by decide +kernel))))))) rfl
def fn_cm_isNone (k : Int32) (x : Int64) : Int32 := (if k = 6 then (if (x &&& 2147483647) ≤ 2139095040 then 0 else 1) else (if k = 7 then (if (x &&& 9223372036854775807) ≤ 9218868437227405312 then 0 else 1) else 0))
abbrev rm_cm_isNone : Room := { frames := 0, cells := 0, slots := 0, locals := 0 }
abbrev po_cm_isNone (g : zz_G) (k : Int32) (x : Int64) : Int32 → va_W → Prop := fun (r : Int32) (u : va_W) => r = fn_cm_isNone k x ∧ u = []
set_option maxHeartbeats 4000000 in
set_option maxRecDepth 100000 in
theorem cm_isNone (g : zz_G) (k : Int32) (x : Int64) : zz_I g yX8_isNone (.code yX8_isNone cX8_isNone 3 (some .boolean)) rm_cm_isNone [.int k, .long x] [] (po_cm_isNone g k x) := by
  refine zz_I.intro (own := RX8) (cc := cX8_isNone) (nL := 3) (by decide) rfl (Nat.le_of_ble_eq_true rfl) ?_
  intro p l e s m args below meth c A H locs ls hC hnm hs hZ hl
  obtain ⟨hx, hb, hml, hown, hts, hr, hlocks, hK⟩ := id hC
  have hl : lv_has ls 3 [(0, .int k), (1, .long x)] := hl
  have hZ : zz_Z g A s.heap [] H locs := hZ
  refine lv_iload_n hx hb dX8_isNone_0 rfl (lv_at hl 0 rfl) ?_
  refine lv_bipush (v := 6) hx hb dX8_isNone_1 (by decide) ?_
  refine lv_icmp_ne (tgt := 26) hx hb dX8_isNone_3 (by decide) (fun c1 => ?_) (fun c1 => ?_)
  · refine lv_iload_n hx hb dX8_isNone_26 rfl (lv_at hl 0 rfl) ?_
    refine lv_bipush (v := 7) hx hb dX8_isNone_27 (by decide) ?_
    refine lv_icmp_ne (tgt := 48) hx hb dX8_isNone_29 (by decide) (fun c2 => ?_) (fun c2 => ?_)
    · refine lv_iconst (v := 0) hx hb dX8_isNone_48 (by decide) ?_
      exact zz_zret hC hZ (by decide) (⟨by show _ = _; rw [fn_cm_isNone, if_neg c1, if_neg c2], rfl⟩) (Nat.le_of_ble_eq_true rfl) (Nat.le_of_ble_eq_true rfl) dX8_isNone_49
    · refine lv_lload_n hx hb dX8_isNone_32 rfl (lv_at hl 1 rfl) ?_
      refine lv_ldc2 hx hb hown (hts _ zk_940) dX8_isNone_33 ?_
      refine lv_land hx hb dX8_isNone_36 ?_
      refine lv_ldc2 hx hb hown (hts _ zk_941) dX8_isNone_37 ?_
      refine zz_lcmp_le (tgt := 48) hC dX8_isNone_40 dX8_isNone_41 (by decide) (fun c3 => ?_) (fun c3 => ?_)
      · refine lv_iconst (v := 0) hx hb dX8_isNone_48 (by decide) ?_
        exact zz_zret hC hZ (by decide) (⟨by show _ = _; rw [fn_cm_isNone, if_neg c1, if_pos c2, if_pos c3], rfl⟩) (Nat.le_of_ble_eq_true rfl) (Nat.le_of_ble_eq_true rfl) dX8_isNone_49
      · refine lv_iconst (v := 1) hx hb dX8_isNone_44 (by decide) ?_
        refine lv_goto (tgt := 49) hx hb dX8_isNone_45 (by decide) ?_
        exact zz_zret hC hZ (by decide) (⟨by show _ = _; rw [fn_cm_isNone, if_neg c1, if_pos c2, if_neg c3], rfl⟩) (Nat.le_of_ble_eq_true rfl) (Nat.le_of_ble_eq_true rfl) dX8_isNone_49
  · refine lv_lload_n hx hb dX8_isNone_6 rfl (lv_at hl 1 rfl) ?_
    refine lv_ldc2 hx hb hown (hts _ zk_938) dX8_isNone_7 ?_
    refine lv_land hx hb dX8_isNone_10 ?_
    refine lv_ldc2 hx hb hown (hts _ zk_939) dX8_isNone_11 ?_
    refine zz_lcmp_le (tgt := 22) hC dX8_isNone_14 dX8_isNone_15 (by decide) (fun c4 => ?_) (fun c4 => ?_)
    · refine lv_iconst (v := 0) hx hb dX8_isNone_22 (by decide) ?_
      refine lv_goto (tgt := 49) hx hb dX8_isNone_23 (by decide) ?_
      exact zz_zret hC hZ (by decide) (⟨by show _ = _; rw [fn_cm_isNone, if_pos c1, if_pos c4], rfl⟩) (Nat.le_of_ble_eq_true rfl) (Nat.le_of_ble_eq_true rfl) dX8_isNone_49
    · refine lv_iconst (v := 1) hx hb dX8_isNone_18 (by decide) ?_
      refine lv_goto (tgt := 49) hx hb dX8_isNone_19 (by decide) ?_
      exact zz_zret hC hZ (by decide) (⟨by show _ = _; rw [fn_cm_isNone, if_pos c1, if_neg c4], rfl⟩) (Nat.le_of_ble_eq_true rfl) (Nat.le_of_ble_eq_true rfl) dX8_isNone_49
theorem dg_X8_plain_0 : (decode cX8_plain 0 = .ok (.iload_n 0, 1)) ∧ (decode cX8_plain 1 = .ok (.lload_n 1, 1)) ∧ (decode cX8_plain 2 = .ok (.invokestatic 132, 3)) ∧ (decode cX8_plain 5 = .ok (.ifCond .ne 7, 3)) ∧ (decode cX8_plain 8 = .ok (.lload_n 1, 1)) ∧ (decode cX8_plain 9 = .ok (.goto 18, 3)) ∧ (decode cX8_plain 12 = .ok (.iload_n 0, 1)) ∧ (decode cX8_plain 13 = .ok (.bipush 6, 2)) ∧ (decode cX8_plain 15 = .ok (.if_icmp .ne 9, 3)) ∧ (decode cX8_plain 18 = .ok (.ldc2_w 136, 3)) ∧ (decode cX8_plain 21 = .ok (.goto 6, 3)) ∧ (decode cX8_plain 24 = .ok (.ldc2_w 138, 3)) ∧ (decode cX8_plain 27 = .ok (.lreturn, 1)) := by decide +kernel
theorem dX8_plain_0 : decode cX8_plain 0 = .ok (.iload_n 0, 1) := dg_X8_plain_0.1
theorem dX8_plain_1 : decode cX8_plain 1 = .ok (.lload_n 1, 1) := dg_X8_plain_0.2.1
theorem dX8_plain_2 : decode cX8_plain 2 = .ok (.invokestatic 132, 3) := dg_X8_plain_0.2.2.1
theorem dX8_plain_5 : decode cX8_plain 5 = .ok (.ifCond .ne 7, 3) := dg_X8_plain_0.2.2.2.1
theorem dX8_plain_8 : decode cX8_plain 8 = .ok (.lload_n 1, 1) := dg_X8_plain_0.2.2.2.2.1
theorem dX8_plain_9 : decode cX8_plain 9 = .ok (.goto 18, 3) := dg_X8_plain_0.2.2.2.2.2.1
theorem dX8_plain_12 : decode cX8_plain 12 = .ok (.iload_n 0, 1) := dg_X8_plain_0.2.2.2.2.2.2.1
theorem dX8_plain_13 : decode cX8_plain 13 = .ok (.bipush 6, 2) := dg_X8_plain_0.2.2.2.2.2.2.2.1
theorem dX8_plain_15 : decode cX8_plain 15 = .ok (.if_icmp .ne 9, 3) := dg_X8_plain_0.2.2.2.2.2.2.2.2.1
theorem dX8_plain_18 : decode cX8_plain 18 = .ok (.ldc2_w 136, 3) := dg_X8_plain_0.2.2.2.2.2.2.2.2.2.1
theorem dX8_plain_21 : decode cX8_plain 21 = .ok (.goto 6, 3) := dg_X8_plain_0.2.2.2.2.2.2.2.2.2.2.1
theorem dX8_plain_24 : decode cX8_plain 24 = .ok (.ldc2_w 138, 3) := dg_X8_plain_0.2.2.2.2.2.2.2.2.2.2.2.1
theorem dX8_plain_27 : decode cX8_plain 27 = .ok (.lreturn, 1) := dg_X8_plain_0.2.2.2.2.2.2.2.2.2.2.2.2
theorem zk_935 : Cond.methodLink RX8 132 yX8_isNone ∈ zz_w := zz_in (List.mem_append_right _ (List.mem_append_right _ (List.mem_append_right _ (List.mem_append_right _ (List.mem_append_left _ (List.mem_of_getElem? (i := 215) (by decide +kernel))))))) rfl
set_option maxRecDepth 20000 in
theorem zk_937 : Cond.code yX8_isNone cX8_isNone 3 (some .boolean) ∈ zz_w := zz_in (List.mem_append_right _ (List.mem_append_right _ (List.mem_append_right _ (List.mem_append_right _ (List.mem_append_left _ (List.mem_of_getElem? (i := 217) (rfl))))))) rfl
theorem zk_936 : Cond.static yX8_isNone ∈ zz_w := zz_in (List.mem_append_right _ (List.mem_append_right _ (List.mem_append_right _ (List.mem_append_right _ (List.mem_append_left _ (List.mem_of_getElem? (i := 216) (by decide +kernel))))))) rfl
theorem zc_X8_132 : zz_cS RX8 132 yX8_isNone cX8_isNone 3 (some .boolean) 2 := ⟨⟨zk_935, zk_937, zk_7, by decide, by decide, by decide +kernel⟩, zk_936⟩
theorem zk_943 : Cond.constantLong RX8 138 (9221120237041090560) ∈ zz_w := zz_in (List.mem_append_right _ (List.mem_append_right _ (List.mem_append_right _ (List.mem_append_right _ (List.mem_append_left _ (List.mem_of_getElem? (i := 223) (by decide +kernel))))))) rfl
theorem zk_942 : Cond.constantLong RX8 136 (2143289344) ∈ zz_w := zz_in (List.mem_append_right _ (List.mem_append_right _ (List.mem_append_right _ (List.mem_append_right _ (List.mem_append_left _ (List.mem_of_getElem? (i := 222) (by decide +kernel))))))) rfl
def fn_cm_plain (k : Int32) (x : Int64) : Int64 := (if (fn_cm_isNone k x) = 0 then x else (if k = 6 then 2143289344 else 9221120237041090560))
abbrev rm_cm_plain : Room := { frames := 1, cells := 0, slots := 0, locals := 22 }
abbrev po_cm_plain (g : zz_G) (k : Int32) (x : Int64) : Int64 → va_W → Prop := fun (r : Int64) (u : va_W) => r = fn_cm_plain k x ∧ u = []
set_option maxHeartbeats 4000000 in
set_option maxRecDepth 100000 in
theorem cm_plain (g : zz_G) (k : Int32) (x : Int64) : zz_L g yX8_plain (.code yX8_plain cX8_plain 3 (some .long)) rm_cm_plain [.int k, .long x] [] (po_cm_plain g k x) := by
  refine zz_L.intro (own := RX8) (cc := cX8_plain) (nL := 3) (by decide) rfl (Nat.le_of_ble_eq_true rfl) ?_
  intro p l e s m args below meth c A H locs ls hC hnm hs hZ hl
  obtain ⟨hx, hb, hml, hown, hts, hr, hlocks, hK⟩ := id hC
  have hl : lv_has ls 3 [(0, .int k), (1, .long x)] := hl
  have hZ : zz_Z g A s.heap [] H locs := hZ
  refine lv_iload_n hx hb dX8_plain_0 rfl (lv_at hl 0 rfl) ?_
  refine lv_lload_n hx hb dX8_plain_1 rfl (lv_at hl 1 rfl) ?_
  refine zz_iS (As := [.int k, .long x]) (wc := []) (wr := []) (rest := []) hC hZ hs hl zc_X8_132 (cm_isNone g k x) [] [] rfl rfl (by decide +kernel) rfl rfl (Nat.le_of_ble_eq_true rfl) ⟨⟨Nat.le_of_ble_eq_true rfl, Nat.le_of_ble_eq_true rfl⟩, Nat.le_of_ble_eq_true rfl, Nat.le_of_ble_eq_true rfl⟩ dX8_plain_2 (fun r1 u2 H locs hp hZ => ?_)
  obtain ⟨rfl, rfl⟩ := hp
  have hZ : zz_Z g A s.heap [] H locs := hZ
  refine lv_if_ne (tgt := 12) hx hb dX8_plain_5 (by decide) (fun c3 => ?_) (fun c3 => ?_)
  · refine lv_iload_n hx hb dX8_plain_12 rfl (lv_at hl 0 rfl) ?_
    refine lv_bipush (v := 6) hx hb dX8_plain_13 (by decide) ?_
    refine lv_icmp_ne (tgt := 24) hx hb dX8_plain_15 (by decide) (fun c4 => ?_) (fun c4 => ?_)
    · refine lv_ldc2 hx hb hown (hts _ zk_943) dX8_plain_24 ?_
      exact zz_lret hC hZ (⟨by show _ = _; rw [fn_cm_plain, if_neg c3, if_neg c4], rfl⟩) (Nat.le_of_ble_eq_true rfl) (Nat.le_of_ble_eq_true rfl) dX8_plain_27
    · refine lv_ldc2 hx hb hown (hts _ zk_942) dX8_plain_18 ?_
      refine lv_goto (tgt := 27) hx hb dX8_plain_21 (by decide) ?_
      exact zz_lret hC hZ (⟨by show _ = _; rw [fn_cm_plain, if_neg c3, if_pos c4], rfl⟩) (Nat.le_of_ble_eq_true rfl) (Nat.le_of_ble_eq_true rfl) dX8_plain_27
  · refine lv_lload_n hx hb dX8_plain_8 rfl (lv_at hl 1 rfl) ?_
    refine lv_goto (tgt := 27) hx hb dX8_plain_9 (by decide) ?_
    exact zz_lret hC hZ (⟨by show _ = _; rw [fn_cm_plain, if_pos c3], rfl⟩) (Nat.le_of_ble_eq_true rfl) (Nat.le_of_ble_eq_true rfl) dX8_plain_27
theorem dg_X8_isWider_0 : (decode cX8_isWider 0 = .ok (.iload_n 0, 1)) ∧ (decode cX8_isWider 1 = .ok (.iload_n 1, 1)) ∧ (decode cX8_isWider 2 = .ok (.if_icmp .eq 96, 3)) ∧ (decode cX8_isWider 5 = .ok (.iload_n 0, 1)) ∧ (decode cX8_isWider 6 = .ok (.iconst 1, 1)) ∧ (decode cX8_isWider 7 = .ok (.if_icmp .ne 14, 3)) ∧ (decode cX8_isWider 10 = .ok (.iload_n 1, 1)) ∧ (decode cX8_isWider 11 = .ok (.iconst 4, 1)) ∧ (decode cX8_isWider 12 = .ok (.if_icmp .lt 9, 3)) ∧ (decode cX8_isWider 15 = .ok (.iload_n 1, 1)) ∧ (decode cX8_isWider 16 = .ok (.bipush 7, 2)) ∧ (decode cX8_isWider 18 = .ok (.if_icmp .le 80, 3)) ∧ (decode cX8_isWider 21 = .ok (.iload_n 0, 1)) ∧ (decode cX8_isWider 22 = .ok (.iconst 2, 1)) ∧ (decode cX8_isWider 23 = .ok (.if_icmp .ne 14, 3)) ∧ (decode cX8_isWider 26 = .ok (.iload_n 1, 1)) := by decide +kernel
theorem dX8_isWider_0 : decode cX8_isWider 0 = .ok (.iload_n 0, 1) := dg_X8_isWider_0.1
theorem dX8_isWider_1 : decode cX8_isWider 1 = .ok (.iload_n 1, 1) := dg_X8_isWider_0.2.1
theorem dX8_isWider_2 : decode cX8_isWider 2 = .ok (.if_icmp .eq 96, 3) := dg_X8_isWider_0.2.2.1
theorem dX8_isWider_5 : decode cX8_isWider 5 = .ok (.iload_n 0, 1) := dg_X8_isWider_0.2.2.2.1
theorem dX8_isWider_6 : decode cX8_isWider 6 = .ok (.iconst 1, 1) := dg_X8_isWider_0.2.2.2.2.1
theorem dX8_isWider_7 : decode cX8_isWider 7 = .ok (.if_icmp .ne 14, 3) := dg_X8_isWider_0.2.2.2.2.2.1
theorem dX8_isWider_10 : decode cX8_isWider 10 = .ok (.iload_n 1, 1) := dg_X8_isWider_0.2.2.2.2.2.2.1
theorem dX8_isWider_11 : decode cX8_isWider 11 = .ok (.iconst 4, 1) := dg_X8_isWider_0.2.2.2.2.2.2.2.1
theorem dX8_isWider_12 : decode cX8_isWider 12 = .ok (.if_icmp .lt 9, 3) := dg_X8_isWider_0.2.2.2.2.2.2.2.2.1
theorem dX8_isWider_15 : decode cX8_isWider 15 = .ok (.iload_n 1, 1) := dg_X8_isWider_0.2.2.2.2.2.2.2.2.2.1
theorem dX8_isWider_16 : decode cX8_isWider 16 = .ok (.bipush 7, 2) := dg_X8_isWider_0.2.2.2.2.2.2.2.2.2.2.1
theorem dX8_isWider_18 : decode cX8_isWider 18 = .ok (.if_icmp .le 80, 3) := dg_X8_isWider_0.2.2.2.2.2.2.2.2.2.2.2.1
theorem dX8_isWider_21 : decode cX8_isWider 21 = .ok (.iload_n 0, 1) := dg_X8_isWider_0.2.2.2.2.2.2.2.2.2.2.2.2.1
theorem dX8_isWider_22 : decode cX8_isWider 22 = .ok (.iconst 2, 1) := dg_X8_isWider_0.2.2.2.2.2.2.2.2.2.2.2.2.2.1
theorem dX8_isWider_23 : decode cX8_isWider 23 = .ok (.if_icmp .ne 14, 3) := dg_X8_isWider_0.2.2.2.2.2.2.2.2.2.2.2.2.2.2.1
theorem dX8_isWider_26 : decode cX8_isWider 26 = .ok (.iload_n 1, 1) := dg_X8_isWider_0.2.2.2.2.2.2.2.2.2.2.2.2.2.2.2
theorem dg_X8_isWider_27 : (decode cX8_isWider 27 = .ok (.iconst 3, 1)) ∧ (decode cX8_isWider 28 = .ok (.if_icmp .lt 9, 3)) ∧ (decode cX8_isWider 31 = .ok (.iload_n 1, 1)) ∧ (decode cX8_isWider 32 = .ok (.bipush 7, 2)) ∧ (decode cX8_isWider 34 = .ok (.if_icmp .le 64, 3)) ∧ (decode cX8_isWider 37 = .ok (.iload_n 0, 1)) ∧ (decode cX8_isWider 38 = .ok (.iconst 3, 1)) ∧ (decode cX8_isWider 39 = .ok (.if_icmp .ne 14, 3)) ∧ (decode cX8_isWider 42 = .ok (.iload_n 1, 1)) ∧ (decode cX8_isWider 43 = .ok (.iconst 4, 1)) ∧ (decode cX8_isWider 44 = .ok (.if_icmp .lt 9, 3)) ∧ (decode cX8_isWider 47 = .ok (.iload_n 1, 1)) ∧ (decode cX8_isWider 48 = .ok (.bipush 7, 2)) ∧ (decode cX8_isWider 50 = .ok (.if_icmp .le 48, 3)) ∧ (decode cX8_isWider 53 = .ok (.iload_n 0, 1)) ∧ (decode cX8_isWider 54 = .ok (.iconst 4, 1)) := by decide +kernel
theorem dX8_isWider_27 : decode cX8_isWider 27 = .ok (.iconst 3, 1) := dg_X8_isWider_27.1
theorem dX8_isWider_28 : decode cX8_isWider 28 = .ok (.if_icmp .lt 9, 3) := dg_X8_isWider_27.2.1
theorem dX8_isWider_31 : decode cX8_isWider 31 = .ok (.iload_n 1, 1) := dg_X8_isWider_27.2.2.1
theorem dX8_isWider_32 : decode cX8_isWider 32 = .ok (.bipush 7, 2) := dg_X8_isWider_27.2.2.2.1
theorem dX8_isWider_34 : decode cX8_isWider 34 = .ok (.if_icmp .le 64, 3) := dg_X8_isWider_27.2.2.2.2.1
theorem dX8_isWider_37 : decode cX8_isWider 37 = .ok (.iload_n 0, 1) := dg_X8_isWider_27.2.2.2.2.2.1
theorem dX8_isWider_38 : decode cX8_isWider 38 = .ok (.iconst 3, 1) := dg_X8_isWider_27.2.2.2.2.2.2.1
theorem dX8_isWider_39 : decode cX8_isWider 39 = .ok (.if_icmp .ne 14, 3) := dg_X8_isWider_27.2.2.2.2.2.2.2.1
theorem dX8_isWider_42 : decode cX8_isWider 42 = .ok (.iload_n 1, 1) := dg_X8_isWider_27.2.2.2.2.2.2.2.2.1
theorem dX8_isWider_43 : decode cX8_isWider 43 = .ok (.iconst 4, 1) := dg_X8_isWider_27.2.2.2.2.2.2.2.2.2.1
theorem dX8_isWider_44 : decode cX8_isWider 44 = .ok (.if_icmp .lt 9, 3) := dg_X8_isWider_27.2.2.2.2.2.2.2.2.2.2.1
theorem dX8_isWider_47 : decode cX8_isWider 47 = .ok (.iload_n 1, 1) := dg_X8_isWider_27.2.2.2.2.2.2.2.2.2.2.2.1
theorem dX8_isWider_48 : decode cX8_isWider 48 = .ok (.bipush 7, 2) := dg_X8_isWider_27.2.2.2.2.2.2.2.2.2.2.2.2.1
theorem dX8_isWider_50 : decode cX8_isWider 50 = .ok (.if_icmp .le 48, 3) := dg_X8_isWider_27.2.2.2.2.2.2.2.2.2.2.2.2.2.1
theorem dX8_isWider_53 : decode cX8_isWider 53 = .ok (.iload_n 0, 1) := dg_X8_isWider_27.2.2.2.2.2.2.2.2.2.2.2.2.2.2.1
theorem dX8_isWider_54 : decode cX8_isWider 54 = .ok (.iconst 4, 1) := dg_X8_isWider_27.2.2.2.2.2.2.2.2.2.2.2.2.2.2.2
theorem dg_X8_isWider_55 : (decode cX8_isWider 55 = .ok (.if_icmp .ne 14, 3)) ∧ (decode cX8_isWider 58 = .ok (.iload_n 1, 1)) ∧ (decode cX8_isWider 59 = .ok (.iconst 5, 1)) ∧ (decode cX8_isWider 60 = .ok (.if_icmp .lt 9, 3)) ∧ (decode cX8_isWider 63 = .ok (.iload_n 1, 1)) ∧ (decode cX8_isWider 64 = .ok (.bipush 7, 2)) ∧ (decode cX8_isWider 66 = .ok (.if_icmp .le 32, 3)) ∧ (decode cX8_isWider 69 = .ok (.iload_n 0, 1)) ∧ (decode cX8_isWider 70 = .ok (.iconst 5, 1)) ∧ (decode cX8_isWider 71 = .ok (.if_icmp .ne 15, 3)) ∧ (decode cX8_isWider 74 = .ok (.iload_n 1, 1)) ∧ (decode cX8_isWider 75 = .ok (.bipush 6, 2)) ∧ (decode cX8_isWider 77 = .ok (.if_icmp .eq 21, 3)) ∧ (decode cX8_isWider 80 = .ok (.iload_n 1, 1)) ∧ (decode cX8_isWider 81 = .ok (.bipush 7, 2)) ∧ (decode cX8_isWider 83 = .ok (.if_icmp .eq 15, 3)) := by decide +kernel
theorem dX8_isWider_55 : decode cX8_isWider 55 = .ok (.if_icmp .ne 14, 3) := dg_X8_isWider_55.1
theorem dX8_isWider_58 : decode cX8_isWider 58 = .ok (.iload_n 1, 1) := dg_X8_isWider_55.2.1
theorem dX8_isWider_59 : decode cX8_isWider 59 = .ok (.iconst 5, 1) := dg_X8_isWider_55.2.2.1
theorem dX8_isWider_60 : decode cX8_isWider 60 = .ok (.if_icmp .lt 9, 3) := dg_X8_isWider_55.2.2.2.1
theorem dX8_isWider_63 : decode cX8_isWider 63 = .ok (.iload_n 1, 1) := dg_X8_isWider_55.2.2.2.2.1
theorem dX8_isWider_64 : decode cX8_isWider 64 = .ok (.bipush 7, 2) := dg_X8_isWider_55.2.2.2.2.2.1
theorem dX8_isWider_66 : decode cX8_isWider 66 = .ok (.if_icmp .le 32, 3) := dg_X8_isWider_55.2.2.2.2.2.2.1
theorem dX8_isWider_69 : decode cX8_isWider 69 = .ok (.iload_n 0, 1) := dg_X8_isWider_55.2.2.2.2.2.2.2.1
theorem dX8_isWider_70 : decode cX8_isWider 70 = .ok (.iconst 5, 1) := dg_X8_isWider_55.2.2.2.2.2.2.2.2.1
theorem dX8_isWider_71 : decode cX8_isWider 71 = .ok (.if_icmp .ne 15, 3) := dg_X8_isWider_55.2.2.2.2.2.2.2.2.2.1
theorem dX8_isWider_74 : decode cX8_isWider 74 = .ok (.iload_n 1, 1) := dg_X8_isWider_55.2.2.2.2.2.2.2.2.2.2.1
theorem dX8_isWider_75 : decode cX8_isWider 75 = .ok (.bipush 6, 2) := dg_X8_isWider_55.2.2.2.2.2.2.2.2.2.2.2.1
theorem dX8_isWider_77 : decode cX8_isWider 77 = .ok (.if_icmp .eq 21, 3) := dg_X8_isWider_55.2.2.2.2.2.2.2.2.2.2.2.2.1
theorem dX8_isWider_80 : decode cX8_isWider 80 = .ok (.iload_n 1, 1) := dg_X8_isWider_55.2.2.2.2.2.2.2.2.2.2.2.2.2.1
theorem dX8_isWider_81 : decode cX8_isWider 81 = .ok (.bipush 7, 2) := dg_X8_isWider_55.2.2.2.2.2.2.2.2.2.2.2.2.2.2.1
theorem dX8_isWider_83 : decode cX8_isWider 83 = .ok (.if_icmp .eq 15, 3) := dg_X8_isWider_55.2.2.2.2.2.2.2.2.2.2.2.2.2.2.2
theorem dg_X8_isWider_86 : (decode cX8_isWider 86 = .ok (.iload_n 0, 1)) ∧ (decode cX8_isWider 87 = .ok (.bipush 6, 2)) ∧ (decode cX8_isWider 89 = .ok (.if_icmp .ne 13, 3)) ∧ (decode cX8_isWider 92 = .ok (.iload_n 1, 1)) ∧ (decode cX8_isWider 93 = .ok (.bipush 7, 2)) ∧ (decode cX8_isWider 95 = .ok (.if_icmp .ne 7, 3)) ∧ (decode cX8_isWider 98 = .ok (.iconst 1, 1)) ∧ (decode cX8_isWider 99 = .ok (.goto 4, 3)) ∧ (decode cX8_isWider 102 = .ok (.iconst 0, 1)) ∧ (decode cX8_isWider 103 = .ok (.ireturn, 1)) := by decide +kernel
theorem dX8_isWider_86 : decode cX8_isWider 86 = .ok (.iload_n 0, 1) := dg_X8_isWider_86.1
theorem dX8_isWider_87 : decode cX8_isWider 87 = .ok (.bipush 6, 2) := dg_X8_isWider_86.2.1
theorem dX8_isWider_89 : decode cX8_isWider 89 = .ok (.if_icmp .ne 13, 3) := dg_X8_isWider_86.2.2.1
theorem dX8_isWider_92 : decode cX8_isWider 92 = .ok (.iload_n 1, 1) := dg_X8_isWider_86.2.2.2.1
theorem dX8_isWider_93 : decode cX8_isWider 93 = .ok (.bipush 7, 2) := dg_X8_isWider_86.2.2.2.2.1
theorem dX8_isWider_95 : decode cX8_isWider 95 = .ok (.if_icmp .ne 7, 3) := dg_X8_isWider_86.2.2.2.2.2.1
theorem dX8_isWider_98 : decode cX8_isWider 98 = .ok (.iconst 1, 1) := dg_X8_isWider_86.2.2.2.2.2.2.1
theorem dX8_isWider_99 : decode cX8_isWider 99 = .ok (.goto 4, 3) := dg_X8_isWider_86.2.2.2.2.2.2.2.1
theorem dX8_isWider_102 : decode cX8_isWider 102 = .ok (.iconst 0, 1) := dg_X8_isWider_86.2.2.2.2.2.2.2.2.1
theorem dX8_isWider_103 : decode cX8_isWider 103 = .ok (.ireturn, 1) := dg_X8_isWider_86.2.2.2.2.2.2.2.2.2
def fn_cm_isWider_86 (k : Int32) (j : Int32) : Int32 := (if k = 6 then (if j = 7 then 1 else 0) else 0)
def fn_cm_isWider_69 (k : Int32) (j : Int32) : Int32 := (if k = 5 then (if j = 6 then 1 else (if j = 7 then 1 else (fn_cm_isWider_86 k j))) else (fn_cm_isWider_86 k j))
def fn_cm_isWider_53 (k : Int32) (j : Int32) : Int32 := (if k = 4 then (if j < 5 then (fn_cm_isWider_69 k j) else (if j ≤ 7 then 1 else (fn_cm_isWider_69 k j))) else (fn_cm_isWider_69 k j))
def fn_cm_isWider_37 (k : Int32) (j : Int32) : Int32 := (if k = 3 then (if j < 4 then (fn_cm_isWider_53 k j) else (if j ≤ 7 then 1 else (fn_cm_isWider_53 k j))) else (fn_cm_isWider_53 k j))
def fn_cm_isWider_21 (k : Int32) (j : Int32) : Int32 := (if k = 2 then (if j < 3 then (fn_cm_isWider_37 k j) else (if j ≤ 7 then 1 else (fn_cm_isWider_37 k j))) else (fn_cm_isWider_37 k j))
def fn_cm_isWider (k : Int32) (j : Int32) : Int32 := (if k = j then 1 else (if k = 1 then (if j < 4 then (fn_cm_isWider_21 k j) else (if j ≤ 7 then 1 else (fn_cm_isWider_21 k j))) else (fn_cm_isWider_21 k j)))
abbrev rm_cm_isWider : Room := { frames := 0, cells := 0, slots := 0, locals := 0 }
abbrev po_cm_isWider (g : zz_G) (k : Int32) (j : Int32) : Int32 → va_W → Prop := fun (r : Int32) (u : va_W) => r = fn_cm_isWider k j ∧ u = []
set_option maxHeartbeats 4000000 in
set_option maxRecDepth 100000 in
theorem cm_isWider (g : zz_G) (k : Int32) (j : Int32) : zz_I g yX8_isWider (.code yX8_isWider cX8_isWider 2 (some .boolean)) rm_cm_isWider [.int k, .int j] [] (po_cm_isWider g k j) := by
  refine zz_I.intro (own := RX8) (cc := cX8_isWider) (nL := 2) (by decide) rfl (Nat.le_of_ble_eq_true rfl) ?_
  intro p l e s m args below meth c A H locs ls hC hnm hs hZ hl
  obtain ⟨hx, hb, hml, hown, hts, hr, hlocks, hK⟩ := id hC
  have hl : lv_has ls 2 [(0, .int k), (1, .int j)] := hl
  have hZ : zz_Z g A s.heap [] H locs := hZ
  have J86 : fn_cm_isWider k j = fn_cm_isWider_86 k j → W p l e rm_cm_isWider s m args below meth c H locs 0 0 (zz_QI below g args s A rm_cm_isWider.cells rm_cm_isWider.slots (po_cm_isWider g k j)) (F0 m 86 ls []) := by
    intro e86
    refine lv_iload_n hx hb dX8_isWider_86 rfl (lv_at hl 0 rfl) ?_
    refine lv_bipush (v := 6) hx hb dX8_isWider_87 (by decide) ?_
    refine lv_icmp_ne (tgt := 102) hx hb dX8_isWider_89 (by decide) (fun c1 => ?_) (fun c1 => ?_)
    · refine lv_iconst (v := 0) hx hb dX8_isWider_102 (by decide) ?_
      exact zz_zret hC hZ (by decide) (⟨by show _ = _; rw [e86, fn_cm_isWider_86, if_neg c1], rfl⟩) (Nat.le_of_ble_eq_true rfl) (Nat.le_of_ble_eq_true rfl) dX8_isWider_103
    · refine lv_iload_n hx hb dX8_isWider_92 rfl (lv_at hl 1 rfl) ?_
      refine lv_bipush (v := 7) hx hb dX8_isWider_93 (by decide) ?_
      refine lv_icmp_ne (tgt := 102) hx hb dX8_isWider_95 (by decide) (fun c2 => ?_) (fun c2 => ?_)
      · refine lv_iconst (v := 0) hx hb dX8_isWider_102 (by decide) ?_
        exact zz_zret hC hZ (by decide) (⟨by show _ = _; rw [e86, fn_cm_isWider_86, if_pos c1, if_neg c2], rfl⟩) (Nat.le_of_ble_eq_true rfl) (Nat.le_of_ble_eq_true rfl) dX8_isWider_103
      · refine lv_iconst (v := 1) hx hb dX8_isWider_98 (by decide) ?_
        refine lv_goto (tgt := 103) hx hb dX8_isWider_99 (by decide) ?_
        exact zz_zret hC hZ (by decide) (⟨by show _ = _; rw [e86, fn_cm_isWider_86, if_pos c1, if_pos c2], rfl⟩) (Nat.le_of_ble_eq_true rfl) (Nat.le_of_ble_eq_true rfl) dX8_isWider_103
  have J69 : fn_cm_isWider k j = fn_cm_isWider_69 k j → W p l e rm_cm_isWider s m args below meth c H locs 0 0 (zz_QI below g args s A rm_cm_isWider.cells rm_cm_isWider.slots (po_cm_isWider g k j)) (F0 m 69 ls []) := by
    intro e69
    refine lv_iload_n hx hb dX8_isWider_69 rfl (lv_at hl 0 rfl) ?_
    refine lv_iconst (v := 5) hx hb dX8_isWider_70 (by decide) ?_
    refine lv_icmp_ne (tgt := 86) hx hb dX8_isWider_71 (by decide) (fun c3 => ?_) (fun c3 => ?_)
    · exact J86 (by rw [e69, fn_cm_isWider_69, if_neg c3])
    · refine lv_iload_n hx hb dX8_isWider_74 rfl (lv_at hl 1 rfl) ?_
      refine lv_bipush (v := 6) hx hb dX8_isWider_75 (by decide) ?_
      refine lv_icmp_eq (tgt := 98) hx hb dX8_isWider_77 (by decide) (fun c4 => ?_) (fun c4 => ?_)
      · refine lv_iconst (v := 1) hx hb dX8_isWider_98 (by decide) ?_
        refine lv_goto (tgt := 103) hx hb dX8_isWider_99 (by decide) ?_
        exact zz_zret hC hZ (by decide) (⟨by show _ = _; rw [e69, fn_cm_isWider_69, if_pos c3, if_pos c4], rfl⟩) (Nat.le_of_ble_eq_true rfl) (Nat.le_of_ble_eq_true rfl) dX8_isWider_103
      · refine lv_iload_n hx hb dX8_isWider_80 rfl (lv_at hl 1 rfl) ?_
        refine lv_bipush (v := 7) hx hb dX8_isWider_81 (by decide) ?_
        refine lv_icmp_eq (tgt := 98) hx hb dX8_isWider_83 (by decide) (fun c5 => ?_) (fun c5 => ?_)
        · refine lv_iconst (v := 1) hx hb dX8_isWider_98 (by decide) ?_
          refine lv_goto (tgt := 103) hx hb dX8_isWider_99 (by decide) ?_
          exact zz_zret hC hZ (by decide) (⟨by show _ = _; rw [e69, fn_cm_isWider_69, if_pos c3, if_neg c4, if_pos c5], rfl⟩) (Nat.le_of_ble_eq_true rfl) (Nat.le_of_ble_eq_true rfl) dX8_isWider_103
        · exact J86 (by rw [e69, fn_cm_isWider_69, if_pos c3, if_neg c4, if_neg c5])
  have J53 : fn_cm_isWider k j = fn_cm_isWider_53 k j → W p l e rm_cm_isWider s m args below meth c H locs 0 0 (zz_QI below g args s A rm_cm_isWider.cells rm_cm_isWider.slots (po_cm_isWider g k j)) (F0 m 53 ls []) := by
    intro e53
    refine lv_iload_n hx hb dX8_isWider_53 rfl (lv_at hl 0 rfl) ?_
    refine lv_iconst (v := 4) hx hb dX8_isWider_54 (by decide) ?_
    refine lv_icmp_ne (tgt := 69) hx hb dX8_isWider_55 (by decide) (fun c6 => ?_) (fun c6 => ?_)
    · exact J69 (by rw [e53, fn_cm_isWider_53, if_neg c6])
    · refine lv_iload_n hx hb dX8_isWider_58 rfl (lv_at hl 1 rfl) ?_
      refine lv_iconst (v := 5) hx hb dX8_isWider_59 (by decide) ?_
      refine lv_icmp_lt (tgt := 69) hx hb dX8_isWider_60 (by decide) (fun c7 => ?_) (fun c7 => ?_)
      · exact J69 (by rw [e53, fn_cm_isWider_53, if_pos c6, if_pos c7])
      · refine lv_iload_n hx hb dX8_isWider_63 rfl (lv_at hl 1 rfl) ?_
        refine lv_bipush (v := 7) hx hb dX8_isWider_64 (by decide) ?_
        refine lv_icmp_le (tgt := 98) hx hb dX8_isWider_66 (by decide) (fun c8 => ?_) (fun c8 => ?_)
        · refine lv_iconst (v := 1) hx hb dX8_isWider_98 (by decide) ?_
          refine lv_goto (tgt := 103) hx hb dX8_isWider_99 (by decide) ?_
          exact zz_zret hC hZ (by decide) (⟨by show _ = _; rw [e53, fn_cm_isWider_53, if_pos c6, if_neg c7, if_pos c8], rfl⟩) (Nat.le_of_ble_eq_true rfl) (Nat.le_of_ble_eq_true rfl) dX8_isWider_103
        · exact J69 (by rw [e53, fn_cm_isWider_53, if_pos c6, if_neg c7, if_neg c8])
  have J37 : fn_cm_isWider k j = fn_cm_isWider_37 k j → W p l e rm_cm_isWider s m args below meth c H locs 0 0 (zz_QI below g args s A rm_cm_isWider.cells rm_cm_isWider.slots (po_cm_isWider g k j)) (F0 m 37 ls []) := by
    intro e37
    refine lv_iload_n hx hb dX8_isWider_37 rfl (lv_at hl 0 rfl) ?_
    refine lv_iconst (v := 3) hx hb dX8_isWider_38 (by decide) ?_
    refine lv_icmp_ne (tgt := 53) hx hb dX8_isWider_39 (by decide) (fun c9 => ?_) (fun c9 => ?_)
    · exact J53 (by rw [e37, fn_cm_isWider_37, if_neg c9])
    · refine lv_iload_n hx hb dX8_isWider_42 rfl (lv_at hl 1 rfl) ?_
      refine lv_iconst (v := 4) hx hb dX8_isWider_43 (by decide) ?_
      refine lv_icmp_lt (tgt := 53) hx hb dX8_isWider_44 (by decide) (fun c10 => ?_) (fun c10 => ?_)
      · exact J53 (by rw [e37, fn_cm_isWider_37, if_pos c9, if_pos c10])
      · refine lv_iload_n hx hb dX8_isWider_47 rfl (lv_at hl 1 rfl) ?_
        refine lv_bipush (v := 7) hx hb dX8_isWider_48 (by decide) ?_
        refine lv_icmp_le (tgt := 98) hx hb dX8_isWider_50 (by decide) (fun c11 => ?_) (fun c11 => ?_)
        · refine lv_iconst (v := 1) hx hb dX8_isWider_98 (by decide) ?_
          refine lv_goto (tgt := 103) hx hb dX8_isWider_99 (by decide) ?_
          exact zz_zret hC hZ (by decide) (⟨by show _ = _; rw [e37, fn_cm_isWider_37, if_pos c9, if_neg c10, if_pos c11], rfl⟩) (Nat.le_of_ble_eq_true rfl) (Nat.le_of_ble_eq_true rfl) dX8_isWider_103
        · exact J53 (by rw [e37, fn_cm_isWider_37, if_pos c9, if_neg c10, if_neg c11])
  have J21 : fn_cm_isWider k j = fn_cm_isWider_21 k j → W p l e rm_cm_isWider s m args below meth c H locs 0 0 (zz_QI below g args s A rm_cm_isWider.cells rm_cm_isWider.slots (po_cm_isWider g k j)) (F0 m 21 ls []) := by
    intro e21
    refine lv_iload_n hx hb dX8_isWider_21 rfl (lv_at hl 0 rfl) ?_
    refine lv_iconst (v := 2) hx hb dX8_isWider_22 (by decide) ?_
    refine lv_icmp_ne (tgt := 37) hx hb dX8_isWider_23 (by decide) (fun c12 => ?_) (fun c12 => ?_)
    · exact J37 (by rw [e21, fn_cm_isWider_21, if_neg c12])
    · refine lv_iload_n hx hb dX8_isWider_26 rfl (lv_at hl 1 rfl) ?_
      refine lv_iconst (v := 3) hx hb dX8_isWider_27 (by decide) ?_
      refine lv_icmp_lt (tgt := 37) hx hb dX8_isWider_28 (by decide) (fun c13 => ?_) (fun c13 => ?_)
      · exact J37 (by rw [e21, fn_cm_isWider_21, if_pos c12, if_pos c13])
      · refine lv_iload_n hx hb dX8_isWider_31 rfl (lv_at hl 1 rfl) ?_
        refine lv_bipush (v := 7) hx hb dX8_isWider_32 (by decide) ?_
        refine lv_icmp_le (tgt := 98) hx hb dX8_isWider_34 (by decide) (fun c14 => ?_) (fun c14 => ?_)
        · refine lv_iconst (v := 1) hx hb dX8_isWider_98 (by decide) ?_
          refine lv_goto (tgt := 103) hx hb dX8_isWider_99 (by decide) ?_
          exact zz_zret hC hZ (by decide) (⟨by show _ = _; rw [e21, fn_cm_isWider_21, if_pos c12, if_neg c13, if_pos c14], rfl⟩) (Nat.le_of_ble_eq_true rfl) (Nat.le_of_ble_eq_true rfl) dX8_isWider_103
        · exact J37 (by rw [e21, fn_cm_isWider_21, if_pos c12, if_neg c13, if_neg c14])
  refine lv_iload_n hx hb dX8_isWider_0 rfl (lv_at hl 0 rfl) ?_
  refine lv_iload_n hx hb dX8_isWider_1 rfl (lv_at hl 1 rfl) ?_
  refine lv_icmp_eq (tgt := 98) hx hb dX8_isWider_2 (by decide) (fun c15 => ?_) (fun c15 => ?_)
  · refine lv_iconst (v := 1) hx hb dX8_isWider_98 (by decide) ?_
    refine lv_goto (tgt := 103) hx hb dX8_isWider_99 (by decide) ?_
    exact zz_zret hC hZ (by decide) (⟨by show _ = _; rw [fn_cm_isWider, if_pos c15], rfl⟩) (Nat.le_of_ble_eq_true rfl) (Nat.le_of_ble_eq_true rfl) dX8_isWider_103
  · refine lv_iload_n hx hb dX8_isWider_5 rfl (lv_at hl 0 rfl) ?_
    refine lv_iconst (v := 1) hx hb dX8_isWider_6 (by decide) ?_
    refine lv_icmp_ne (tgt := 21) hx hb dX8_isWider_7 (by decide) (fun c16 => ?_) (fun c16 => ?_)
    · exact J21 (by rw [fn_cm_isWider, if_neg c15, if_neg c16])
    · refine lv_iload_n hx hb dX8_isWider_10 rfl (lv_at hl 1 rfl) ?_
      refine lv_iconst (v := 4) hx hb dX8_isWider_11 (by decide) ?_
      refine lv_icmp_lt (tgt := 21) hx hb dX8_isWider_12 (by decide) (fun c17 => ?_) (fun c17 => ?_)
      · exact J21 (by rw [fn_cm_isWider, if_neg c15, if_pos c16, if_pos c17])
      · refine lv_iload_n hx hb dX8_isWider_15 rfl (lv_at hl 1 rfl) ?_
        refine lv_bipush (v := 7) hx hb dX8_isWider_16 (by decide) ?_
        refine lv_icmp_le (tgt := 98) hx hb dX8_isWider_18 (by decide) (fun c18 => ?_) (fun c18 => ?_)
        · refine lv_iconst (v := 1) hx hb dX8_isWider_98 (by decide) ?_
          refine lv_goto (tgt := 103) hx hb dX8_isWider_99 (by decide) ?_
          exact zz_zret hC hZ (by decide) (⟨by show _ = _; rw [fn_cm_isWider, if_neg c15, if_pos c16, if_neg c17, if_pos c18], rfl⟩) (Nat.le_of_ble_eq_true rfl) (Nat.le_of_ble_eq_true rfl) dX8_isWider_103
        · exact J21 (by rw [fn_cm_isWider, if_neg c15, if_pos c16, if_neg c17, if_neg c18])
theorem dg_X8_orderNumber_0 : (decode cX8_orderNumber 0 = .ok (.iload_n 0, 1)) ∧ (decode cX8_orderNumber 1 = .ok (.bipush 6, 2)) ∧ (decode cX8_orderNumber 3 = .ok (.if_icmp .ne 23, 3)) ∧ (decode cX8_orderNumber 6 = .ok (.lload_n 1, 1)) ∧ (decode cX8_orderNumber 7 = .ok (.lconst 0, 1)) ∧ (decode cX8_orderNumber 8 = .ok (.lcmp, 1)) ∧ (decode cX8_orderNumber 9 = .ok (.ifCond .ge 15, 3)) ∧ (decode cX8_orderNumber 12 = .ok (.ldc2_w 171, 3)) ∧ (decode cX8_orderNumber 15 = .ok (.lload_n 1, 1)) ∧ (decode cX8_orderNumber 16 = .ok (.ldc2_w 122, 3)) ∧ (decode cX8_orderNumber 19 = .ok (.land, 1)) ∧ (decode cX8_orderNumber 20 = .ok (.lsub, 1)) ∧ (decode cX8_orderNumber 21 = .ok (.goto 4, 3)) ∧ (decode cX8_orderNumber 24 = .ok (.lload_n 1, 1)) ∧ (decode cX8_orderNumber 25 = .ok (.lreturn, 1)) ∧ (decode cX8_orderNumber 26 = .ok (.iload_n 0, 1)) := by decide +kernel
theorem dX8_orderNumber_0 : decode cX8_orderNumber 0 = .ok (.iload_n 0, 1) := dg_X8_orderNumber_0.1
theorem dX8_orderNumber_1 : decode cX8_orderNumber 1 = .ok (.bipush 6, 2) := dg_X8_orderNumber_0.2.1
theorem dX8_orderNumber_3 : decode cX8_orderNumber 3 = .ok (.if_icmp .ne 23, 3) := dg_X8_orderNumber_0.2.2.1
theorem dX8_orderNumber_6 : decode cX8_orderNumber 6 = .ok (.lload_n 1, 1) := dg_X8_orderNumber_0.2.2.2.1
theorem dX8_orderNumber_7 : decode cX8_orderNumber 7 = .ok (.lconst 0, 1) := dg_X8_orderNumber_0.2.2.2.2.1
theorem dX8_orderNumber_8 : decode cX8_orderNumber 8 = .ok (.lcmp, 1) := dg_X8_orderNumber_0.2.2.2.2.2.1
theorem dX8_orderNumber_9 : decode cX8_orderNumber 9 = .ok (.ifCond .ge 15, 3) := dg_X8_orderNumber_0.2.2.2.2.2.2.1
theorem dX8_orderNumber_12 : decode cX8_orderNumber 12 = .ok (.ldc2_w 171, 3) := dg_X8_orderNumber_0.2.2.2.2.2.2.2.1
theorem dX8_orderNumber_15 : decode cX8_orderNumber 15 = .ok (.lload_n 1, 1) := dg_X8_orderNumber_0.2.2.2.2.2.2.2.2.1
theorem dX8_orderNumber_16 : decode cX8_orderNumber 16 = .ok (.ldc2_w 122, 3) := dg_X8_orderNumber_0.2.2.2.2.2.2.2.2.2.1
theorem dX8_orderNumber_19 : decode cX8_orderNumber 19 = .ok (.land, 1) := dg_X8_orderNumber_0.2.2.2.2.2.2.2.2.2.2.1
theorem dX8_orderNumber_20 : decode cX8_orderNumber 20 = .ok (.lsub, 1) := dg_X8_orderNumber_0.2.2.2.2.2.2.2.2.2.2.2.1
theorem dX8_orderNumber_21 : decode cX8_orderNumber 21 = .ok (.goto 4, 3) := dg_X8_orderNumber_0.2.2.2.2.2.2.2.2.2.2.2.2.1
theorem dX8_orderNumber_24 : decode cX8_orderNumber 24 = .ok (.lload_n 1, 1) := dg_X8_orderNumber_0.2.2.2.2.2.2.2.2.2.2.2.2.2.1
theorem dX8_orderNumber_25 : decode cX8_orderNumber 25 = .ok (.lreturn, 1) := dg_X8_orderNumber_0.2.2.2.2.2.2.2.2.2.2.2.2.2.2.1
theorem dX8_orderNumber_26 : decode cX8_orderNumber 26 = .ok (.iload_n 0, 1) := dg_X8_orderNumber_0.2.2.2.2.2.2.2.2.2.2.2.2.2.2.2
theorem dg_X8_orderNumber_27 : (decode cX8_orderNumber 27 = .ok (.bipush 7, 2)) ∧ (decode cX8_orderNumber 29 = .ok (.if_icmp .ne 21, 3)) ∧ (decode cX8_orderNumber 32 = .ok (.lload_n 1, 1)) ∧ (decode cX8_orderNumber 33 = .ok (.lconst 0, 1)) ∧ (decode cX8_orderNumber 34 = .ok (.lcmp, 1)) ∧ (decode cX8_orderNumber 35 = .ok (.ifCond .ge 15, 3)) ∧ (decode cX8_orderNumber 38 = .ok (.ldc2_w 171, 3)) ∧ (decode cX8_orderNumber 41 = .ok (.lload_n 1, 1)) ∧ (decode cX8_orderNumber 42 = .ok (.ldc2_w 128, 3)) ∧ (decode cX8_orderNumber 45 = .ok (.land, 1)) ∧ (decode cX8_orderNumber 46 = .ok (.lsub, 1)) ∧ (decode cX8_orderNumber 47 = .ok (.goto 4, 3)) ∧ (decode cX8_orderNumber 50 = .ok (.lload_n 1, 1)) ∧ (decode cX8_orderNumber 51 = .ok (.lreturn, 1)) := by decide +kernel
theorem dX8_orderNumber_27 : decode cX8_orderNumber 27 = .ok (.bipush 7, 2) := dg_X8_orderNumber_27.1
theorem dX8_orderNumber_29 : decode cX8_orderNumber 29 = .ok (.if_icmp .ne 21, 3) := dg_X8_orderNumber_27.2.1
theorem dX8_orderNumber_32 : decode cX8_orderNumber 32 = .ok (.lload_n 1, 1) := dg_X8_orderNumber_27.2.2.1
theorem dX8_orderNumber_33 : decode cX8_orderNumber 33 = .ok (.lconst 0, 1) := dg_X8_orderNumber_27.2.2.2.1
theorem dX8_orderNumber_34 : decode cX8_orderNumber 34 = .ok (.lcmp, 1) := dg_X8_orderNumber_27.2.2.2.2.1
theorem dX8_orderNumber_35 : decode cX8_orderNumber 35 = .ok (.ifCond .ge 15, 3) := dg_X8_orderNumber_27.2.2.2.2.2.1
theorem dX8_orderNumber_38 : decode cX8_orderNumber 38 = .ok (.ldc2_w 171, 3) := dg_X8_orderNumber_27.2.2.2.2.2.2.1
theorem dX8_orderNumber_41 : decode cX8_orderNumber 41 = .ok (.lload_n 1, 1) := dg_X8_orderNumber_27.2.2.2.2.2.2.2.1
theorem dX8_orderNumber_42 : decode cX8_orderNumber 42 = .ok (.ldc2_w 128, 3) := dg_X8_orderNumber_27.2.2.2.2.2.2.2.2.1
theorem dX8_orderNumber_45 : decode cX8_orderNumber 45 = .ok (.land, 1) := dg_X8_orderNumber_27.2.2.2.2.2.2.2.2.2.1
theorem dX8_orderNumber_46 : decode cX8_orderNumber 46 = .ok (.lsub, 1) := dg_X8_orderNumber_27.2.2.2.2.2.2.2.2.2.2.1
theorem dX8_orderNumber_47 : decode cX8_orderNumber 47 = .ok (.goto 4, 3) := dg_X8_orderNumber_27.2.2.2.2.2.2.2.2.2.2.2.1
theorem dX8_orderNumber_50 : decode cX8_orderNumber 50 = .ok (.lload_n 1, 1) := dg_X8_orderNumber_27.2.2.2.2.2.2.2.2.2.2.2.2.1
theorem dX8_orderNumber_51 : decode cX8_orderNumber 51 = .ok (.lreturn, 1) := dg_X8_orderNumber_27.2.2.2.2.2.2.2.2.2.2.2.2.2
theorem zk_883 : Cond.constantLong RX8 171 (-1) ∈ zz_w := zz_in (List.mem_append_right _ (List.mem_append_right _ (List.mem_append_right _ (List.mem_append_right _ (List.mem_append_left _ (List.mem_of_getElem? (i := 163) (by decide +kernel))))))) rfl
def fn_cm_orderNumber (k : Int32) (x : Int64) : Int64 := (if k = 6 then (if 0 ≤ x then x else (-1) - (x &&& 2147483647)) else (if k = 7 then (if 0 ≤ x then x else (-1) - (x &&& 9223372036854775807)) else x))
abbrev rm_cm_orderNumber : Room := { frames := 0, cells := 0, slots := 0, locals := 0 }
abbrev po_cm_orderNumber (g : zz_G) (k : Int32) (x : Int64) : Int64 → va_W → Prop := fun (r : Int64) (u : va_W) => r = fn_cm_orderNumber k x ∧ u = []
set_option maxHeartbeats 4000000 in
set_option maxRecDepth 100000 in
theorem cm_orderNumber (g : zz_G) (k : Int32) (x : Int64) : zz_L g yX8_orderNumber (.code yX8_orderNumber cX8_orderNumber 3 (some .long)) rm_cm_orderNumber [.int k, .long x] [] (po_cm_orderNumber g k x) := by
  refine zz_L.intro (own := RX8) (cc := cX8_orderNumber) (nL := 3) (by decide) rfl (Nat.le_of_ble_eq_true rfl) ?_
  intro p l e s m args below meth c A H locs ls hC hnm hs hZ hl
  obtain ⟨hx, hb, hml, hown, hts, hr, hlocks, hK⟩ := id hC
  have hl : lv_has ls 3 [(0, .int k), (1, .long x)] := hl
  have hZ : zz_Z g A s.heap [] H locs := hZ
  refine lv_iload_n hx hb dX8_orderNumber_0 rfl (lv_at hl 0 rfl) ?_
  refine lv_bipush (v := 6) hx hb dX8_orderNumber_1 (by decide) ?_
  refine lv_icmp_ne (tgt := 26) hx hb dX8_orderNumber_3 (by decide) (fun c1 => ?_) (fun c1 => ?_)
  · refine lv_iload_n hx hb dX8_orderNumber_26 rfl (lv_at hl 0 rfl) ?_
    refine lv_bipush (v := 7) hx hb dX8_orderNumber_27 (by decide) ?_
    refine lv_icmp_ne (tgt := 50) hx hb dX8_orderNumber_29 (by decide) (fun c2 => ?_) (fun c2 => ?_)
    · refine lv_lload_n hx hb dX8_orderNumber_50 rfl (lv_at hl 1 rfl) ?_
      exact zz_lret hC hZ (⟨by show _ = _; rw [fn_cm_orderNumber, if_neg c1, if_neg c2], rfl⟩) (Nat.le_of_ble_eq_true rfl) (Nat.le_of_ble_eq_true rfl) dX8_orderNumber_51
    · refine lv_lload_n hx hb dX8_orderNumber_32 rfl (lv_at hl 1 rfl) ?_
      refine lv_lconst (v := 0) hx hb dX8_orderNumber_33 (by decide) ?_
      refine zz_lcmp_ge (tgt := 50) hC dX8_orderNumber_34 dX8_orderNumber_35 (by decide) (fun c3 => ?_) (fun c3 => ?_)
      · refine lv_lload_n hx hb dX8_orderNumber_50 rfl (lv_at hl 1 rfl) ?_
        exact zz_lret hC hZ (⟨by show _ = _; rw [fn_cm_orderNumber, if_neg c1, if_pos c2, if_pos c3], rfl⟩) (Nat.le_of_ble_eq_true rfl) (Nat.le_of_ble_eq_true rfl) dX8_orderNumber_51
      · refine lv_ldc2 hx hb hown (hts _ zk_883) dX8_orderNumber_38 ?_
        refine lv_lload_n hx hb dX8_orderNumber_41 rfl (lv_at hl 1 rfl) ?_
        refine lv_ldc2 hx hb hown (hts _ zk_940) dX8_orderNumber_42 ?_
        refine lv_land hx hb dX8_orderNumber_45 ?_
        refine lv_lsub hx hb dX8_orderNumber_46 ?_
        refine lv_goto (tgt := 51) hx hb dX8_orderNumber_47 (by decide) ?_
        exact zz_lret hC hZ (⟨by show _ = _; rw [fn_cm_orderNumber, if_neg c1, if_pos c2, if_neg c3], rfl⟩) (Nat.le_of_ble_eq_true rfl) (Nat.le_of_ble_eq_true rfl) dX8_orderNumber_51
  · refine lv_lload_n hx hb dX8_orderNumber_6 rfl (lv_at hl 1 rfl) ?_
    refine lv_lconst (v := 0) hx hb dX8_orderNumber_7 (by decide) ?_
    refine zz_lcmp_ge (tgt := 24) hC dX8_orderNumber_8 dX8_orderNumber_9 (by decide) (fun c4 => ?_) (fun c4 => ?_)
    · refine lv_lload_n hx hb dX8_orderNumber_24 rfl (lv_at hl 1 rfl) ?_
      exact zz_lret hC hZ (⟨by show _ = _; rw [fn_cm_orderNumber, if_pos c1, if_pos c4], rfl⟩) (Nat.le_of_ble_eq_true rfl) (Nat.le_of_ble_eq_true rfl) dX8_orderNumber_25
    · refine lv_ldc2 hx hb hown (hts _ zk_883) dX8_orderNumber_12 ?_
      refine lv_lload_n hx hb dX8_orderNumber_15 rfl (lv_at hl 1 rfl) ?_
      refine lv_ldc2 hx hb hown (hts _ zk_938) dX8_orderNumber_16 ?_
      refine lv_land hx hb dX8_orderNumber_19 ?_
      refine lv_lsub hx hb dX8_orderNumber_20 ?_
      refine lv_goto (tgt := 25) hx hb dX8_orderNumber_21 (by decide) ?_
      exact zz_lret hC hZ (⟨by show _ = _; rw [fn_cm_orderNumber, if_pos c1, if_neg c4], rfl⟩) (Nat.le_of_ble_eq_true rfl) (Nat.le_of_ble_eq_true rfl) dX8_orderNumber_25
theorem dg_X8_whole_0 : (decode cX8_whole 0 = .ok (.bipush 7, 2)) ∧ (decode cX8_whole 2 = .ok (.lload_n 0, 1)) ∧ (decode cX8_whole 3 = .ok (.invokestatic 132, 3)) ∧ (decode cX8_whole 6 = .ok (.ifCond .eq 5, 3)) ∧ (decode cX8_whole 9 = .ok (.lconst 0, 1)) ∧ (decode cX8_whole 10 = .ok (.lreturn, 1)) ∧ (decode cX8_whole 11 = .ok (.lload_n 0, 1)) ∧ (decode cX8_whole 12 = .ok (.lconst 0, 1)) ∧ (decode cX8_whole 13 = .ok (.lcmp, 1)) ∧ (decode cX8_whole 14 = .ok (.ifCond .ge 7, 3)) ∧ (decode cX8_whole 17 = .ok (.iconst 1, 1)) ∧ (decode cX8_whole 18 = .ok (.goto 4, 3)) ∧ (decode cX8_whole 21 = .ok (.iconst 0, 1)) ∧ (decode cX8_whole 22 = .ok (.istore_n 2, 1)) ∧ (decode cX8_whole 23 = .ok (.lload_n 0, 1)) ∧ (decode cX8_whole 24 = .ok (.bipush 52, 2)) := by decide +kernel
theorem dX8_whole_0 : decode cX8_whole 0 = .ok (.bipush 7, 2) := dg_X8_whole_0.1
theorem dX8_whole_2 : decode cX8_whole 2 = .ok (.lload_n 0, 1) := dg_X8_whole_0.2.1
theorem dX8_whole_3 : decode cX8_whole 3 = .ok (.invokestatic 132, 3) := dg_X8_whole_0.2.2.1
theorem dX8_whole_6 : decode cX8_whole 6 = .ok (.ifCond .eq 5, 3) := dg_X8_whole_0.2.2.2.1
theorem dX8_whole_9 : decode cX8_whole 9 = .ok (.lconst 0, 1) := dg_X8_whole_0.2.2.2.2.1
theorem dX8_whole_10 : decode cX8_whole 10 = .ok (.lreturn, 1) := dg_X8_whole_0.2.2.2.2.2.1
theorem dX8_whole_11 : decode cX8_whole 11 = .ok (.lload_n 0, 1) := dg_X8_whole_0.2.2.2.2.2.2.1
theorem dX8_whole_12 : decode cX8_whole 12 = .ok (.lconst 0, 1) := dg_X8_whole_0.2.2.2.2.2.2.2.1
theorem dX8_whole_13 : decode cX8_whole 13 = .ok (.lcmp, 1) := dg_X8_whole_0.2.2.2.2.2.2.2.2.1
theorem dX8_whole_14 : decode cX8_whole 14 = .ok (.ifCond .ge 7, 3) := dg_X8_whole_0.2.2.2.2.2.2.2.2.2.1
theorem dX8_whole_17 : decode cX8_whole 17 = .ok (.iconst 1, 1) := dg_X8_whole_0.2.2.2.2.2.2.2.2.2.2.1
theorem dX8_whole_18 : decode cX8_whole 18 = .ok (.goto 4, 3) := dg_X8_whole_0.2.2.2.2.2.2.2.2.2.2.2.1
theorem dX8_whole_21 : decode cX8_whole 21 = .ok (.iconst 0, 1) := dg_X8_whole_0.2.2.2.2.2.2.2.2.2.2.2.2.1
theorem dX8_whole_22 : decode cX8_whole 22 = .ok (.istore_n 2, 1) := dg_X8_whole_0.2.2.2.2.2.2.2.2.2.2.2.2.2.1
theorem dX8_whole_23 : decode cX8_whole 23 = .ok (.lload_n 0, 1) := dg_X8_whole_0.2.2.2.2.2.2.2.2.2.2.2.2.2.2.1
theorem dX8_whole_24 : decode cX8_whole 24 = .ok (.bipush 52, 2) := dg_X8_whole_0.2.2.2.2.2.2.2.2.2.2.2.2.2.2.2
theorem dg_X8_whole_26 : (decode cX8_whole 26 = .ok (.lushr, 1)) ∧ (decode cX8_whole 27 = .ok (.ldc2_w 162, 3)) ∧ (decode cX8_whole 30 = .ok (.land, 1)) ∧ (decode cX8_whole 31 = .ok (.l2i, 1)) ∧ (decode cX8_whole 32 = .ok (.sipush 1023, 3)) ∧ (decode cX8_whole 35 = .ok (.isub, 1)) ∧ (decode cX8_whole 36 = .ok (.istore_n 3, 1)) ∧ (decode cX8_whole 37 = .ok (.iload_n 3, 1)) ∧ (decode cX8_whole 38 = .ok (.ifCond .ge 5, 3)) ∧ (decode cX8_whole 41 = .ok (.lconst 0, 1)) ∧ (decode cX8_whole 42 = .ok (.lreturn, 1)) ∧ (decode cX8_whole 43 = .ok (.iload_n 3, 1)) ∧ (decode cX8_whole 44 = .ok (.bipush 63, 2)) ∧ (decode cX8_whole 46 = .ok (.if_icmp .lt 17, 3)) ∧ (decode cX8_whole 49 = .ok (.iload_n 2, 1)) ∧ (decode cX8_whole 50 = .ok (.ifCond .eq 9, 3)) := by decide +kernel
theorem dX8_whole_26 : decode cX8_whole 26 = .ok (.lushr, 1) := dg_X8_whole_26.1
theorem dX8_whole_27 : decode cX8_whole 27 = .ok (.ldc2_w 162, 3) := dg_X8_whole_26.2.1
theorem dX8_whole_30 : decode cX8_whole 30 = .ok (.land, 1) := dg_X8_whole_26.2.2.1
theorem dX8_whole_31 : decode cX8_whole 31 = .ok (.l2i, 1) := dg_X8_whole_26.2.2.2.1
theorem dX8_whole_32 : decode cX8_whole 32 = .ok (.sipush 1023, 3) := dg_X8_whole_26.2.2.2.2.1
theorem dX8_whole_35 : decode cX8_whole 35 = .ok (.isub, 1) := dg_X8_whole_26.2.2.2.2.2.1
theorem dX8_whole_36 : decode cX8_whole 36 = .ok (.istore_n 3, 1) := dg_X8_whole_26.2.2.2.2.2.2.1
theorem dX8_whole_37 : decode cX8_whole 37 = .ok (.iload_n 3, 1) := dg_X8_whole_26.2.2.2.2.2.2.2.1
theorem dX8_whole_38 : decode cX8_whole 38 = .ok (.ifCond .ge 5, 3) := dg_X8_whole_26.2.2.2.2.2.2.2.2.1
theorem dX8_whole_41 : decode cX8_whole 41 = .ok (.lconst 0, 1) := dg_X8_whole_26.2.2.2.2.2.2.2.2.2.1
theorem dX8_whole_42 : decode cX8_whole 42 = .ok (.lreturn, 1) := dg_X8_whole_26.2.2.2.2.2.2.2.2.2.2.1
theorem dX8_whole_43 : decode cX8_whole 43 = .ok (.iload_n 3, 1) := dg_X8_whole_26.2.2.2.2.2.2.2.2.2.2.2.1
theorem dX8_whole_44 : decode cX8_whole 44 = .ok (.bipush 63, 2) := dg_X8_whole_26.2.2.2.2.2.2.2.2.2.2.2.2.1
theorem dX8_whole_46 : decode cX8_whole 46 = .ok (.if_icmp .lt 17, 3) := dg_X8_whole_26.2.2.2.2.2.2.2.2.2.2.2.2.2.1
theorem dX8_whole_49 : decode cX8_whole 49 = .ok (.iload_n 2, 1) := dg_X8_whole_26.2.2.2.2.2.2.2.2.2.2.2.2.2.2.1
theorem dX8_whole_50 : decode cX8_whole 50 = .ok (.ifCond .eq 9, 3) := dg_X8_whole_26.2.2.2.2.2.2.2.2.2.2.2.2.2.2.2
theorem dg_X8_whole_53 : (decode cX8_whole 53 = .ok (.ldc2_w 142, 3)) ∧ (decode cX8_whole 56 = .ok (.goto 6, 3)) ∧ (decode cX8_whole 59 = .ok (.ldc2_w 128, 3)) ∧ (decode cX8_whole 62 = .ok (.lreturn, 1)) ∧ (decode cX8_whole 63 = .ok (.lload_n 0, 1)) ∧ (decode cX8_whole 64 = .ok (.ldc2_w 164, 3)) ∧ (decode cX8_whole 67 = .ok (.land, 1)) ∧ (decode cX8_whole 68 = .ok (.ldc2_w 166, 3)) ∧ (decode cX8_whole 71 = .ok (.lor, 1)) ∧ (decode cX8_whole 72 = .ok (.lstore 4, 2)) ∧ (decode cX8_whole 74 = .ok (.iload_n 3, 1)) ∧ (decode cX8_whole 75 = .ok (.bipush 52, 2)) ∧ (decode cX8_whole 77 = .ok (.if_icmp .lt 13, 3)) ∧ (decode cX8_whole 80 = .ok (.lload 4, 2)) ∧ (decode cX8_whole 82 = .ok (.iload_n 3, 1)) ∧ (decode cX8_whole 83 = .ok (.bipush 52, 2)) := by decide +kernel
theorem dX8_whole_53 : decode cX8_whole 53 = .ok (.ldc2_w 142, 3) := dg_X8_whole_53.1
theorem dX8_whole_56 : decode cX8_whole 56 = .ok (.goto 6, 3) := dg_X8_whole_53.2.1
theorem dX8_whole_59 : decode cX8_whole 59 = .ok (.ldc2_w 128, 3) := dg_X8_whole_53.2.2.1
theorem dX8_whole_62 : decode cX8_whole 62 = .ok (.lreturn, 1) := dg_X8_whole_53.2.2.2.1
theorem dX8_whole_63 : decode cX8_whole 63 = .ok (.lload_n 0, 1) := dg_X8_whole_53.2.2.2.2.1
theorem dX8_whole_64 : decode cX8_whole 64 = .ok (.ldc2_w 164, 3) := dg_X8_whole_53.2.2.2.2.2.1
theorem dX8_whole_67 : decode cX8_whole 67 = .ok (.land, 1) := dg_X8_whole_53.2.2.2.2.2.2.1
theorem dX8_whole_68 : decode cX8_whole 68 = .ok (.ldc2_w 166, 3) := dg_X8_whole_53.2.2.2.2.2.2.2.1
theorem dX8_whole_71 : decode cX8_whole 71 = .ok (.lor, 1) := dg_X8_whole_53.2.2.2.2.2.2.2.2.1
theorem dX8_whole_72 : decode cX8_whole 72 = .ok (.lstore 4, 2) := dg_X8_whole_53.2.2.2.2.2.2.2.2.2.1
theorem dX8_whole_74 : decode cX8_whole 74 = .ok (.iload_n 3, 1) := dg_X8_whole_53.2.2.2.2.2.2.2.2.2.2.1
theorem dX8_whole_75 : decode cX8_whole 75 = .ok (.bipush 52, 2) := dg_X8_whole_53.2.2.2.2.2.2.2.2.2.2.2.1
theorem dX8_whole_77 : decode cX8_whole 77 = .ok (.if_icmp .lt 13, 3) := dg_X8_whole_53.2.2.2.2.2.2.2.2.2.2.2.2.1
theorem dX8_whole_80 : decode cX8_whole 80 = .ok (.lload 4, 2) := dg_X8_whole_53.2.2.2.2.2.2.2.2.2.2.2.2.2.1
theorem dX8_whole_82 : decode cX8_whole 82 = .ok (.iload_n 3, 1) := dg_X8_whole_53.2.2.2.2.2.2.2.2.2.2.2.2.2.2.1
theorem dX8_whole_83 : decode cX8_whole 83 = .ok (.bipush 52, 2) := dg_X8_whole_53.2.2.2.2.2.2.2.2.2.2.2.2.2.2.2
theorem dg_X8_whole_85 : (decode cX8_whole 85 = .ok (.isub, 1)) ∧ (decode cX8_whole 86 = .ok (.lshl, 1)) ∧ (decode cX8_whole 87 = .ok (.goto 10, 3)) ∧ (decode cX8_whole 90 = .ok (.lload 4, 2)) ∧ (decode cX8_whole 92 = .ok (.bipush 52, 2)) ∧ (decode cX8_whole 94 = .ok (.iload_n 3, 1)) ∧ (decode cX8_whole 95 = .ok (.isub, 1)) ∧ (decode cX8_whole 96 = .ok (.lushr, 1)) ∧ (decode cX8_whole 97 = .ok (.lstore 4, 2)) ∧ (decode cX8_whole 99 = .ok (.iload_n 2, 1)) ∧ (decode cX8_whole 100 = .ok (.ifCond .eq 9, 3)) ∧ (decode cX8_whole 103 = .ok (.lload 4, 2)) ∧ (decode cX8_whole 105 = .ok (.lneg, 1)) ∧ (decode cX8_whole 106 = .ok (.goto 5, 3)) ∧ (decode cX8_whole 109 = .ok (.lload 4, 2)) ∧ (decode cX8_whole 111 = .ok (.lreturn, 1)) := by decide +kernel
theorem dX8_whole_85 : decode cX8_whole 85 = .ok (.isub, 1) := dg_X8_whole_85.1
theorem dX8_whole_86 : decode cX8_whole 86 = .ok (.lshl, 1) := dg_X8_whole_85.2.1
theorem dX8_whole_87 : decode cX8_whole 87 = .ok (.goto 10, 3) := dg_X8_whole_85.2.2.1
theorem dX8_whole_90 : decode cX8_whole 90 = .ok (.lload 4, 2) := dg_X8_whole_85.2.2.2.1
theorem dX8_whole_92 : decode cX8_whole 92 = .ok (.bipush 52, 2) := dg_X8_whole_85.2.2.2.2.1
theorem dX8_whole_94 : decode cX8_whole 94 = .ok (.iload_n 3, 1) := dg_X8_whole_85.2.2.2.2.2.1
theorem dX8_whole_95 : decode cX8_whole 95 = .ok (.isub, 1) := dg_X8_whole_85.2.2.2.2.2.2.1
theorem dX8_whole_96 : decode cX8_whole 96 = .ok (.lushr, 1) := dg_X8_whole_85.2.2.2.2.2.2.2.1
theorem dX8_whole_97 : decode cX8_whole 97 = .ok (.lstore 4, 2) := dg_X8_whole_85.2.2.2.2.2.2.2.2.1
theorem dX8_whole_99 : decode cX8_whole 99 = .ok (.iload_n 2, 1) := dg_X8_whole_85.2.2.2.2.2.2.2.2.2.1
theorem dX8_whole_100 : decode cX8_whole 100 = .ok (.ifCond .eq 9, 3) := dg_X8_whole_85.2.2.2.2.2.2.2.2.2.2.1
theorem dX8_whole_103 : decode cX8_whole 103 = .ok (.lload 4, 2) := dg_X8_whole_85.2.2.2.2.2.2.2.2.2.2.2.1
theorem dX8_whole_105 : decode cX8_whole 105 = .ok (.lneg, 1) := dg_X8_whole_85.2.2.2.2.2.2.2.2.2.2.2.2.1
theorem dX8_whole_106 : decode cX8_whole 106 = .ok (.goto 5, 3) := dg_X8_whole_85.2.2.2.2.2.2.2.2.2.2.2.2.2.1
theorem dX8_whole_109 : decode cX8_whole 109 = .ok (.lload 4, 2) := dg_X8_whole_85.2.2.2.2.2.2.2.2.2.2.2.2.2.2.1
theorem dX8_whole_111 : decode cX8_whole 111 = .ok (.lreturn, 1) := dg_X8_whole_85.2.2.2.2.2.2.2.2.2.2.2.2.2.2.2
theorem zk_1088 : Cond.constantLong RX8 162 (2047) ∈ zz_w := zz_in (List.mem_append_right _ (List.mem_append_right _ (List.mem_append_right _ (List.mem_append_right _ (List.mem_append_right _ (List.mem_of_getElem? (i := 128) (by decide +kernel))))))) rfl
theorem zk_1089 : Cond.constantLong RX8 164 (4503599627370495) ∈ zz_w := zz_in (List.mem_append_right _ (List.mem_append_right _ (List.mem_append_right _ (List.mem_append_right _ (List.mem_append_right _ (List.mem_of_getElem? (i := 129) (by decide +kernel))))))) rfl
theorem zk_1090 : Cond.constantLong RX8 166 (4503599627370496) ∈ zz_w := zz_in (List.mem_append_right _ (List.mem_append_right _ (List.mem_append_right _ (List.mem_append_right _ (List.mem_append_right _ (List.mem_of_getElem? (i := 130) (by decide +kernel))))))) rfl
theorem zk_947 : Cond.constantLong RX8 142 (-9223372036854775808) ∈ zz_w := zz_in (List.mem_append_right _ (List.mem_append_right _ (List.mem_append_right _ (List.mem_append_right _ (List.mem_append_left _ (List.mem_of_getElem? (i := 227) (by decide +kernel))))))) rfl
def fn_cm_whole (x : Int64) : Int64 := (if (fn_cm_isNone 7 x) = 0 then (if 0 ≤ x then (if 0 ≤ (((((x.toUInt64 >>> ((52 : Int32).toInt64.toUInt64 &&& Int64.toUInt64 63)).toInt64) &&& 2047).toInt32) - 1023) then (if (((((x.toUInt64 >>> ((52 : Int32).toInt64.toUInt64 &&& Int64.toUInt64 63)).toInt64) &&& 2047).toInt32) - 1023) < 63 then (if (((((x.toUInt64 >>> ((52 : Int32).toInt64.toUInt64 &&& Int64.toUInt64 63)).toInt64) &&& 2047).toInt32) - 1023) < 52 then (((x &&& 4503599627370495) ||| 4503599627370496).toUInt64 >>> ((52 - (((((x.toUInt64 >>> ((52 : Int32).toInt64.toUInt64 &&& Int64.toUInt64 63)).toInt64) &&& 2047).toInt32) - 1023) : Int32).toInt64.toUInt64 &&& Int64.toUInt64 63)).toInt64 else ((x &&& 4503599627370495) ||| 4503599627370496 : Int64) <<< (((((((x.toUInt64 >>> ((52 : Int32).toInt64.toUInt64 &&& Int64.toUInt64 63)).toInt64) &&& 2047).toInt32) - 1023) - 52 : Int32).toInt64 &&& 63)) else 9223372036854775807) else 0) else (if 0 ≤ (((((x.toUInt64 >>> ((52 : Int32).toInt64.toUInt64 &&& Int64.toUInt64 63)).toInt64) &&& 2047).toInt32) - 1023) then (if (((((x.toUInt64 >>> ((52 : Int32).toInt64.toUInt64 &&& Int64.toUInt64 63)).toInt64) &&& 2047).toInt32) - 1023) < 63 then (if (((((x.toUInt64 >>> ((52 : Int32).toInt64.toUInt64 &&& Int64.toUInt64 63)).toInt64) &&& 2047).toInt32) - 1023) < 52 then -((((x &&& 4503599627370495) ||| 4503599627370496).toUInt64 >>> ((52 - (((((x.toUInt64 >>> ((52 : Int32).toInt64.toUInt64 &&& Int64.toUInt64 63)).toInt64) &&& 2047).toInt32) - 1023) : Int32).toInt64.toUInt64 &&& Int64.toUInt64 63)).toInt64) else -(((x &&& 4503599627370495) ||| 4503599627370496 : Int64) <<< (((((((x.toUInt64 >>> ((52 : Int32).toInt64.toUInt64 &&& Int64.toUInt64 63)).toInt64) &&& 2047).toInt32) - 1023) - 52 : Int32).toInt64 &&& 63))) else -9223372036854775808) else 0)) else 0)
abbrev rm_cm_whole : Room := { frames := 1, cells := 0, slots := 0, locals := 22 }
abbrev po_cm_whole (g : zz_G) (x : Int64) : Int64 → va_W → Prop := fun (r : Int64) (u : va_W) => r = fn_cm_whole x ∧ u = []
set_option maxHeartbeats 4000000 in
set_option maxRecDepth 100000 in
theorem cm_whole (g : zz_G) (x : Int64) : zz_L g yX8_whole (.code yX8_whole cX8_whole 6 (some .long)) rm_cm_whole [.long x] [] (po_cm_whole g x) := by
  refine zz_L.intro (own := RX8) (cc := cX8_whole) (nL := 6) (by decide) rfl (Nat.le_of_ble_eq_true rfl) ?_
  intro p l e s m args below meth c A H locs ls hC hnm hs hZ hl
  obtain ⟨hx, hb, hml, hown, hts, hr, hlocks, hK⟩ := id hC
  have hl : lv_has ls 6 [(0, .long x)] := hl
  have hZ : zz_Z g A s.heap [] H locs := hZ
  refine lv_bipush (v := 7) hx hb dX8_whole_0 (by decide) ?_
  refine lv_lload_n hx hb dX8_whole_2 rfl (lv_at hl 0 rfl) ?_
  refine zz_iS (As := [.int 7, .long x]) (wc := []) (wr := []) (rest := []) hC hZ hs hl zc_X8_132 (cm_isNone g 7 x) [] [] rfl rfl (by decide +kernel) rfl rfl (Nat.le_of_ble_eq_true rfl) ⟨⟨Nat.le_of_ble_eq_true rfl, Nat.le_of_ble_eq_true rfl⟩, Nat.le_of_ble_eq_true rfl, Nat.le_of_ble_eq_true rfl⟩ dX8_whole_3 (fun r1 u2 H locs hp hZ => ?_)
  obtain ⟨rfl, rfl⟩ := hp
  have hZ : zz_Z g A s.heap [] H locs := hZ
  refine lv_if_eq (tgt := 11) hx hb dX8_whole_6 (by decide) (fun c3 => ?_) (fun c3 => ?_)
  · refine lv_lload_n hx hb dX8_whole_11 rfl (lv_at hl 0 rfl) ?_
    refine lv_lconst (v := 0) hx hb dX8_whole_12 (by decide) ?_
    refine zz_lcmp_ge (tgt := 21) hC dX8_whole_13 dX8_whole_14 (by decide) (fun c4 => ?_) (fun c4 => ?_)
    · refine lv_iconst (v := 0) hx hb dX8_whole_21 (by decide) ?_
      refine lv_istore_n (lv' := [(2, .int 0), (0, .long x)]) hx hb dX8_whole_22 rfl hl (by decide) rfl (fun ls hl => ?_)
      refine lv_lload_n hx hb dX8_whole_23 rfl (lv_at hl 1 rfl) ?_
      refine lv_bipush (v := 52) hx hb dX8_whole_24 (by decide) ?_
      refine lv_lushr hx hb dX8_whole_26 rfl ?_
      refine lv_ldc2 hx hb hown (hts _ zk_1088) dX8_whole_27 ?_
      refine lv_land hx hb dX8_whole_30 ?_
      refine lv_l2i hx hb dX8_whole_31 rfl ?_
      refine lv_sipush (v := 1023) hx hb dX8_whole_32 (by decide) ?_
      refine lv_isub hx hb dX8_whole_35 ?_
      refine lv_istore_n (lv' := [(3, .int (((((x.toUInt64 >>> ((52 : Int32).toInt64.toUInt64 &&& Int64.toUInt64 63)).toInt64) &&& 2047).toInt32) - 1023)), (2, .int 0), (0, .long x)]) hx hb dX8_whole_36 rfl hl (by decide) rfl (fun ls hl => ?_)
      refine lv_iload_n hx hb dX8_whole_37 rfl (lv_at hl 0 rfl) ?_
      refine lv_if_ge (tgt := 43) hx hb dX8_whole_38 (by decide) (fun c5 => ?_) (fun c5 => ?_)
      · refine lv_iload_n hx hb dX8_whole_43 rfl (lv_at hl 0 rfl) ?_
        refine lv_bipush (v := 63) hx hb dX8_whole_44 (by decide) ?_
        refine lv_icmp_lt (tgt := 63) hx hb dX8_whole_46 (by decide) (fun c6 => ?_) (fun c6 => ?_)
        · refine lv_lload_n hx hb dX8_whole_63 rfl (lv_at hl 2 rfl) ?_
          refine lv_ldc2 hx hb hown (hts _ zk_1089) dX8_whole_64 ?_
          refine lv_land hx hb dX8_whole_67 ?_
          refine lv_ldc2 hx hb hown (hts _ zk_1090) dX8_whole_68 ?_
          refine lv_lor hx hb dX8_whole_71 ?_
          refine lv_lstore (lv' := [(4, .long ((x &&& 4503599627370495) ||| 4503599627370496)), (3, .int (((((x.toUInt64 >>> ((52 : Int32).toInt64.toUInt64 &&& Int64.toUInt64 63)).toInt64) &&& 2047).toInt32) - 1023)), (2, .int 0), (0, .long x)]) hx hb dX8_whole_72 hl (by decide) rfl (fun ls hl => ?_)
          refine lv_iload_n hx hb dX8_whole_74 rfl (lv_at hl 1 rfl) ?_
          refine lv_bipush (v := 52) hx hb dX8_whole_75 (by decide) ?_
          refine lv_icmp_lt (tgt := 90) hx hb dX8_whole_77 (by decide) (fun c7 => ?_) (fun c7 => ?_)
          · refine lv_lload hx hb dX8_whole_90 (lv_at hl 0 rfl) ?_
            refine lv_bipush (v := 52) hx hb dX8_whole_92 (by decide) ?_
            refine lv_iload_n hx hb dX8_whole_94 rfl (lv_at hl 1 rfl) ?_
            refine lv_isub hx hb dX8_whole_95 ?_
            refine lv_lushr hx hb dX8_whole_96 rfl ?_
            refine lv_lstore (lv' := [(4, .long ((((x &&& 4503599627370495) ||| 4503599627370496).toUInt64 >>> ((52 - (((((x.toUInt64 >>> ((52 : Int32).toInt64.toUInt64 &&& Int64.toUInt64 63)).toInt64) &&& 2047).toInt32) - 1023) : Int32).toInt64.toUInt64 &&& Int64.toUInt64 63)).toInt64)), (3, .int (((((x.toUInt64 >>> ((52 : Int32).toInt64.toUInt64 &&& Int64.toUInt64 63)).toInt64) &&& 2047).toInt32) - 1023)), (2, .int 0), (0, .long x)]) hx hb dX8_whole_97 hl (by decide) rfl (fun ls hl => ?_)
            refine lv_iload_n hx hb dX8_whole_99 rfl (lv_at hl 2 rfl) ?_
            refine lv_if_eq (tgt := 109) hx hb dX8_whole_100 (by decide) (fun c8 => ?_) (fun c => absurd (by decide) c)
            refine lv_lload hx hb dX8_whole_109 (lv_at hl 0 rfl) ?_
            exact zz_lret hC hZ (⟨by show _ = _; rw [fn_cm_whole, if_pos c3, if_pos c4, if_pos c5, if_pos c6, if_pos c7], rfl⟩) (Nat.le_of_ble_eq_true rfl) (Nat.le_of_ble_eq_true rfl) dX8_whole_111
          · refine lv_lload hx hb dX8_whole_80 (lv_at hl 0 rfl) ?_
            refine lv_iload_n hx hb dX8_whole_82 rfl (lv_at hl 1 rfl) ?_
            refine lv_bipush (v := 52) hx hb dX8_whole_83 (by decide) ?_
            refine lv_isub hx hb dX8_whole_85 ?_
            refine lv_lshl hx hb dX8_whole_86 rfl ?_
            refine lv_goto (tgt := 97) hx hb dX8_whole_87 (by decide) ?_
            refine lv_lstore (lv' := [(4, .long (((x &&& 4503599627370495) ||| 4503599627370496 : Int64) <<< (((((((x.toUInt64 >>> ((52 : Int32).toInt64.toUInt64 &&& Int64.toUInt64 63)).toInt64) &&& 2047).toInt32) - 1023) - 52 : Int32).toInt64 &&& 63))), (3, .int (((((x.toUInt64 >>> ((52 : Int32).toInt64.toUInt64 &&& Int64.toUInt64 63)).toInt64) &&& 2047).toInt32) - 1023)), (2, .int 0), (0, .long x)]) hx hb dX8_whole_97 hl (by decide) rfl (fun ls hl => ?_)
            refine lv_iload_n hx hb dX8_whole_99 rfl (lv_at hl 2 rfl) ?_
            refine lv_if_eq (tgt := 109) hx hb dX8_whole_100 (by decide) (fun c9 => ?_) (fun c => absurd (by decide) c)
            refine lv_lload hx hb dX8_whole_109 (lv_at hl 0 rfl) ?_
            exact zz_lret hC hZ (⟨by show _ = _; rw [fn_cm_whole, if_pos c3, if_pos c4, if_pos c5, if_pos c6, if_neg c7], rfl⟩) (Nat.le_of_ble_eq_true rfl) (Nat.le_of_ble_eq_true rfl) dX8_whole_111
        · refine lv_iload_n hx hb dX8_whole_49 rfl (lv_at hl 1 rfl) ?_
          refine lv_if_eq (tgt := 59) hx hb dX8_whole_50 (by decide) (fun c10 => ?_) (fun c => absurd (by decide) c)
          refine lv_ldc2 hx hb hown (hts _ zk_940) dX8_whole_59 ?_
          exact zz_lret hC hZ (⟨by show _ = _; rw [fn_cm_whole, if_pos c3, if_pos c4, if_pos c5, if_neg c6], rfl⟩) (Nat.le_of_ble_eq_true rfl) (Nat.le_of_ble_eq_true rfl) dX8_whole_62
      · refine lv_lconst (v := 0) hx hb dX8_whole_41 (by decide) ?_
        exact zz_lret hC hZ (⟨by show _ = _; rw [fn_cm_whole, if_pos c3, if_pos c4, if_neg c5], rfl⟩) (Nat.le_of_ble_eq_true rfl) (Nat.le_of_ble_eq_true rfl) dX8_whole_42
    · refine lv_iconst (v := 1) hx hb dX8_whole_17 (by decide) ?_
      refine lv_goto (tgt := 22) hx hb dX8_whole_18 (by decide) ?_
      refine lv_istore_n (lv' := [(2, .int 1), (0, .long x)]) hx hb dX8_whole_22 rfl hl (by decide) rfl (fun ls hl => ?_)
      refine lv_lload_n hx hb dX8_whole_23 rfl (lv_at hl 1 rfl) ?_
      refine lv_bipush (v := 52) hx hb dX8_whole_24 (by decide) ?_
      refine lv_lushr hx hb dX8_whole_26 rfl ?_
      refine lv_ldc2 hx hb hown (hts _ zk_1088) dX8_whole_27 ?_
      refine lv_land hx hb dX8_whole_30 ?_
      refine lv_l2i hx hb dX8_whole_31 rfl ?_
      refine lv_sipush (v := 1023) hx hb dX8_whole_32 (by decide) ?_
      refine lv_isub hx hb dX8_whole_35 ?_
      refine lv_istore_n (lv' := [(3, .int (((((x.toUInt64 >>> ((52 : Int32).toInt64.toUInt64 &&& Int64.toUInt64 63)).toInt64) &&& 2047).toInt32) - 1023)), (2, .int 1), (0, .long x)]) hx hb dX8_whole_36 rfl hl (by decide) rfl (fun ls hl => ?_)
      refine lv_iload_n hx hb dX8_whole_37 rfl (lv_at hl 0 rfl) ?_
      refine lv_if_ge (tgt := 43) hx hb dX8_whole_38 (by decide) (fun c11 => ?_) (fun c11 => ?_)
      · refine lv_iload_n hx hb dX8_whole_43 rfl (lv_at hl 0 rfl) ?_
        refine lv_bipush (v := 63) hx hb dX8_whole_44 (by decide) ?_
        refine lv_icmp_lt (tgt := 63) hx hb dX8_whole_46 (by decide) (fun c12 => ?_) (fun c12 => ?_)
        · refine lv_lload_n hx hb dX8_whole_63 rfl (lv_at hl 2 rfl) ?_
          refine lv_ldc2 hx hb hown (hts _ zk_1089) dX8_whole_64 ?_
          refine lv_land hx hb dX8_whole_67 ?_
          refine lv_ldc2 hx hb hown (hts _ zk_1090) dX8_whole_68 ?_
          refine lv_lor hx hb dX8_whole_71 ?_
          refine lv_lstore (lv' := [(4, .long ((x &&& 4503599627370495) ||| 4503599627370496)), (3, .int (((((x.toUInt64 >>> ((52 : Int32).toInt64.toUInt64 &&& Int64.toUInt64 63)).toInt64) &&& 2047).toInt32) - 1023)), (2, .int 1), (0, .long x)]) hx hb dX8_whole_72 hl (by decide) rfl (fun ls hl => ?_)
          refine lv_iload_n hx hb dX8_whole_74 rfl (lv_at hl 1 rfl) ?_
          refine lv_bipush (v := 52) hx hb dX8_whole_75 (by decide) ?_
          refine lv_icmp_lt (tgt := 90) hx hb dX8_whole_77 (by decide) (fun c13 => ?_) (fun c13 => ?_)
          · refine lv_lload hx hb dX8_whole_90 (lv_at hl 0 rfl) ?_
            refine lv_bipush (v := 52) hx hb dX8_whole_92 (by decide) ?_
            refine lv_iload_n hx hb dX8_whole_94 rfl (lv_at hl 1 rfl) ?_
            refine lv_isub hx hb dX8_whole_95 ?_
            refine lv_lushr hx hb dX8_whole_96 rfl ?_
            refine lv_lstore (lv' := [(4, .long ((((x &&& 4503599627370495) ||| 4503599627370496).toUInt64 >>> ((52 - (((((x.toUInt64 >>> ((52 : Int32).toInt64.toUInt64 &&& Int64.toUInt64 63)).toInt64) &&& 2047).toInt32) - 1023) : Int32).toInt64.toUInt64 &&& Int64.toUInt64 63)).toInt64)), (3, .int (((((x.toUInt64 >>> ((52 : Int32).toInt64.toUInt64 &&& Int64.toUInt64 63)).toInt64) &&& 2047).toInt32) - 1023)), (2, .int 1), (0, .long x)]) hx hb dX8_whole_97 hl (by decide) rfl (fun ls hl => ?_)
            refine lv_iload_n hx hb dX8_whole_99 rfl (lv_at hl 2 rfl) ?_
            refine lv_if_eq (tgt := 109) hx hb dX8_whole_100 (by decide) (fun c => absurd c (by decide)) (fun c14 => ?_)
            refine lv_lload hx hb dX8_whole_103 (lv_at hl 0 rfl) ?_
            refine lv_lneg hx hb dX8_whole_105 ?_
            refine lv_goto (tgt := 111) hx hb dX8_whole_106 (by decide) ?_
            exact zz_lret hC hZ (⟨by show _ = _; rw [fn_cm_whole, if_pos c3, if_neg c4, if_pos c11, if_pos c12, if_pos c13], rfl⟩) (Nat.le_of_ble_eq_true rfl) (Nat.le_of_ble_eq_true rfl) dX8_whole_111
          · refine lv_lload hx hb dX8_whole_80 (lv_at hl 0 rfl) ?_
            refine lv_iload_n hx hb dX8_whole_82 rfl (lv_at hl 1 rfl) ?_
            refine lv_bipush (v := 52) hx hb dX8_whole_83 (by decide) ?_
            refine lv_isub hx hb dX8_whole_85 ?_
            refine lv_lshl hx hb dX8_whole_86 rfl ?_
            refine lv_goto (tgt := 97) hx hb dX8_whole_87 (by decide) ?_
            refine lv_lstore (lv' := [(4, .long (((x &&& 4503599627370495) ||| 4503599627370496 : Int64) <<< (((((((x.toUInt64 >>> ((52 : Int32).toInt64.toUInt64 &&& Int64.toUInt64 63)).toInt64) &&& 2047).toInt32) - 1023) - 52 : Int32).toInt64 &&& 63))), (3, .int (((((x.toUInt64 >>> ((52 : Int32).toInt64.toUInt64 &&& Int64.toUInt64 63)).toInt64) &&& 2047).toInt32) - 1023)), (2, .int 1), (0, .long x)]) hx hb dX8_whole_97 hl (by decide) rfl (fun ls hl => ?_)
            refine lv_iload_n hx hb dX8_whole_99 rfl (lv_at hl 2 rfl) ?_
            refine lv_if_eq (tgt := 109) hx hb dX8_whole_100 (by decide) (fun c => absurd c (by decide)) (fun c15 => ?_)
            refine lv_lload hx hb dX8_whole_103 (lv_at hl 0 rfl) ?_
            refine lv_lneg hx hb dX8_whole_105 ?_
            refine lv_goto (tgt := 111) hx hb dX8_whole_106 (by decide) ?_
            exact zz_lret hC hZ (⟨by show _ = _; rw [fn_cm_whole, if_pos c3, if_neg c4, if_pos c11, if_pos c12, if_neg c13], rfl⟩) (Nat.le_of_ble_eq_true rfl) (Nat.le_of_ble_eq_true rfl) dX8_whole_111
        · refine lv_iload_n hx hb dX8_whole_49 rfl (lv_at hl 1 rfl) ?_
          refine lv_if_eq (tgt := 59) hx hb dX8_whole_50 (by decide) (fun c => absurd c (by decide)) (fun c16 => ?_)
          refine lv_ldc2 hx hb hown (hts _ zk_947) dX8_whole_53 ?_
          refine lv_goto (tgt := 62) hx hb dX8_whole_56 (by decide) ?_
          exact zz_lret hC hZ (⟨by show _ = _; rw [fn_cm_whole, if_pos c3, if_neg c4, if_pos c11, if_neg c12], rfl⟩) (Nat.le_of_ble_eq_true rfl) (Nat.le_of_ble_eq_true rfl) dX8_whole_62
      · refine lv_lconst (v := 0) hx hb dX8_whole_41 (by decide) ?_
        exact zz_lret hC hZ (⟨by show _ = _; rw [fn_cm_whole, if_pos c3, if_neg c4, if_neg c11], rfl⟩) (Nat.le_of_ble_eq_true rfl) (Nat.le_of_ble_eq_true rfl) dX8_whole_42
  · refine lv_lconst (v := 0) hx hb dX8_whole_9 (by decide) ?_
    exact zz_lret hC hZ (⟨by show _ = _; rw [fn_cm_whole, if_neg c3], rfl⟩) (Nat.le_of_ble_eq_true rfl) (Nat.le_of_ble_eq_true rfl) dX8_whole_10
theorem dg_X8_far_0 : (decode cX8_far 0 = .ok (.lload_n 0, 1)) ∧ (decode cX8_far 1 = .ok (.lload_n 2, 1)) ∧ (decode cX8_far 2 = .ok (.lsub, 1)) ∧ (decode cX8_far 3 = .ok (.lstore 4, 2)) ∧ (decode cX8_far 5 = .ok (.lload 4, 2)) ∧ (decode cX8_far 7 = .ok (.lconst 0, 1)) ∧ (decode cX8_far 8 = .ok (.lcmp, 1)) ∧ (decode cX8_far 9 = .ok (.ifCond .lt 12, 3)) ∧ (decode cX8_far 12 = .ok (.lload 4, 2)) ∧ (decode cX8_far 14 = .ok (.ldc2_w 268, 3)) ∧ (decode cX8_far 17 = .ok (.lcmp, 1)) ∧ (decode cX8_far 18 = .ok (.ifCond .le 9, 3)) ∧ (decode cX8_far 21 = .ok (.ldc2_w 268, 3)) ∧ (decode cX8_far 24 = .ok (.goto 5, 3)) ∧ (decode cX8_far 27 = .ok (.lload 4, 2)) ∧ (decode cX8_far 29 = .ok (.lreturn, 1)) := by decide +kernel
theorem dX8_far_0 : decode cX8_far 0 = .ok (.lload_n 0, 1) := dg_X8_far_0.1
theorem dX8_far_1 : decode cX8_far 1 = .ok (.lload_n 2, 1) := dg_X8_far_0.2.1
theorem dX8_far_2 : decode cX8_far 2 = .ok (.lsub, 1) := dg_X8_far_0.2.2.1
theorem dX8_far_3 : decode cX8_far 3 = .ok (.lstore 4, 2) := dg_X8_far_0.2.2.2.1
theorem dX8_far_5 : decode cX8_far 5 = .ok (.lload 4, 2) := dg_X8_far_0.2.2.2.2.1
theorem dX8_far_7 : decode cX8_far 7 = .ok (.lconst 0, 1) := dg_X8_far_0.2.2.2.2.2.1
theorem dX8_far_8 : decode cX8_far 8 = .ok (.lcmp, 1) := dg_X8_far_0.2.2.2.2.2.2.1
theorem dX8_far_9 : decode cX8_far 9 = .ok (.ifCond .lt 12, 3) := dg_X8_far_0.2.2.2.2.2.2.2.1
theorem dX8_far_12 : decode cX8_far 12 = .ok (.lload 4, 2) := dg_X8_far_0.2.2.2.2.2.2.2.2.1
theorem dX8_far_14 : decode cX8_far 14 = .ok (.ldc2_w 268, 3) := dg_X8_far_0.2.2.2.2.2.2.2.2.2.1
theorem dX8_far_17 : decode cX8_far 17 = .ok (.lcmp, 1) := dg_X8_far_0.2.2.2.2.2.2.2.2.2.2.1
theorem dX8_far_18 : decode cX8_far 18 = .ok (.ifCond .le 9, 3) := dg_X8_far_0.2.2.2.2.2.2.2.2.2.2.2.1
theorem dX8_far_21 : decode cX8_far 21 = .ok (.ldc2_w 268, 3) := dg_X8_far_0.2.2.2.2.2.2.2.2.2.2.2.2.1
theorem dX8_far_24 : decode cX8_far 24 = .ok (.goto 5, 3) := dg_X8_far_0.2.2.2.2.2.2.2.2.2.2.2.2.2.1
theorem dX8_far_27 : decode cX8_far 27 = .ok (.lload 4, 2) := dg_X8_far_0.2.2.2.2.2.2.2.2.2.2.2.2.2.2.1
theorem dX8_far_29 : decode cX8_far 29 = .ok (.lreturn, 1) := dg_X8_far_0.2.2.2.2.2.2.2.2.2.2.2.2.2.2.2
theorem zk_1094 : Cond.constantLong RX8 268 (1000000) ∈ zz_w := zz_in (List.mem_append_right _ (List.mem_append_right _ (List.mem_append_right _ (List.mem_append_right _ (List.mem_append_right _ (List.mem_of_getElem? (i := 134) (by decide +kernel))))))) rfl
def fn_cm_far (x : Int64) (y : Int64) : Int64 := (if (x - y) < 0 then 1000000 else (if (x - y) ≤ 1000000 then x - y else 1000000))
abbrev rm_cm_far : Room := { frames := 0, cells := 0, slots := 0, locals := 0 }
abbrev po_cm_far (g : zz_G) (x : Int64) (y : Int64) : Int64 → va_W → Prop := fun (r : Int64) (u : va_W) => r = fn_cm_far x y ∧ u = []
set_option maxHeartbeats 4000000 in
set_option maxRecDepth 100000 in
theorem cm_far (g : zz_G) (x : Int64) (y : Int64) : zz_L g yX8_far (.code yX8_far cX8_far 6 (some .long)) rm_cm_far [.long x, .long y] [] (po_cm_far g x y) := by
  refine zz_L.intro (own := RX8) (cc := cX8_far) (nL := 6) (by decide) rfl (Nat.le_of_ble_eq_true rfl) ?_
  intro p l e s m args below meth c A H locs ls hC hnm hs hZ hl
  obtain ⟨hx, hb, hml, hown, hts, hr, hlocks, hK⟩ := id hC
  have hl : lv_has ls 6 [(0, .long x), (2, .long y)] := hl
  have hZ : zz_Z g A s.heap [] H locs := hZ
  refine lv_lload_n hx hb dX8_far_0 rfl (lv_at hl 0 rfl) ?_
  refine lv_lload_n hx hb dX8_far_1 rfl (lv_at hl 1 rfl) ?_
  refine lv_lsub hx hb dX8_far_2 ?_
  refine lv_lstore (lv' := [(4, .long (x - y)), (0, .long x), (2, .long y)]) hx hb dX8_far_3 hl (by decide) rfl (fun ls hl => ?_)
  refine lv_lload hx hb dX8_far_5 (lv_at hl 0 rfl) ?_
  refine lv_lconst (v := 0) hx hb dX8_far_7 (by decide) ?_
  refine zz_lcmp_lt (tgt := 21) hC dX8_far_8 dX8_far_9 (by decide) (fun c1 => ?_) (fun c1 => ?_)
  · refine lv_ldc2 hx hb hown (hts _ zk_1094) dX8_far_21 ?_
    refine lv_goto (tgt := 29) hx hb dX8_far_24 (by decide) ?_
    exact zz_lret hC hZ (⟨by show _ = _; rw [fn_cm_far, if_pos c1], rfl⟩) (Nat.le_of_ble_eq_true rfl) (Nat.le_of_ble_eq_true rfl) dX8_far_29
  · refine lv_lload hx hb dX8_far_12 (lv_at hl 0 rfl) ?_
    refine lv_ldc2 hx hb hown (hts _ zk_1094) dX8_far_14 ?_
    refine zz_lcmp_le (tgt := 27) hC dX8_far_17 dX8_far_18 (by decide) (fun c2 => ?_) (fun c2 => ?_)
    · refine lv_lload hx hb dX8_far_27 (lv_at hl 0 rfl) ?_
      exact zz_lret hC hZ (⟨by show _ = _; rw [fn_cm_far, if_neg c1, if_pos c2], rfl⟩) (Nat.le_of_ble_eq_true rfl) (Nat.le_of_ble_eq_true rfl) dX8_far_29
    · refine lv_ldc2 hx hb hown (hts _ zk_1094) dX8_far_21 ?_
      refine lv_goto (tgt := 29) hx hb dX8_far_24 (by decide) ?_
      exact zz_lret hC hZ (⟨by show _ = _; rw [fn_cm_far, if_neg c1, if_neg c2], rfl⟩) (Nat.le_of_ble_eq_true rfl) (Nat.le_of_ble_eq_true rfl) dX8_far_29
theorem dg_X8_isLike_0 : (decode cX8_isLike 0 = .ok (.iload_n 0, 1)) ∧ (decode cX8_isLike 1 = .ok (.bipush 6, 2)) ∧ (decode cX8_isLike 3 = .ok (.if_icmp .ne 31, 3)) ∧ (decode cX8_isLike 6 = .ok (.lload_n 1, 1)) ∧ (decode cX8_isLike 7 = .ok (.ldc2_w 122, 3)) ∧ (decode cX8_isLike 10 = .ok (.land, 1)) ∧ (decode cX8_isLike 11 = .ok (.lconst 0, 1)) ∧ (decode cX8_isLike 12 = .ok (.lcmp, 1)) ∧ (decode cX8_isLike 13 = .ok (.ifCond .ne 17, 3)) ∧ (decode cX8_isLike 16 = .ok (.lload_n 3, 1)) ∧ (decode cX8_isLike 17 = .ok (.ldc2_w 122, 3)) ∧ (decode cX8_isLike 20 = .ok (.land, 1)) ∧ (decode cX8_isLike 21 = .ok (.lconst 0, 1)) ∧ (decode cX8_isLike 22 = .ok (.lcmp, 1)) ∧ (decode cX8_isLike 23 = .ok (.ifCond .ne 7, 3)) ∧ (decode cX8_isLike 26 = .ok (.iconst 1, 1)) := by decide +kernel
theorem dX8_isLike_0 : decode cX8_isLike 0 = .ok (.iload_n 0, 1) := dg_X8_isLike_0.1
theorem dX8_isLike_1 : decode cX8_isLike 1 = .ok (.bipush 6, 2) := dg_X8_isLike_0.2.1
theorem dX8_isLike_3 : decode cX8_isLike 3 = .ok (.if_icmp .ne 31, 3) := dg_X8_isLike_0.2.2.1
theorem dX8_isLike_6 : decode cX8_isLike 6 = .ok (.lload_n 1, 1) := dg_X8_isLike_0.2.2.2.1
theorem dX8_isLike_7 : decode cX8_isLike 7 = .ok (.ldc2_w 122, 3) := dg_X8_isLike_0.2.2.2.2.1
theorem dX8_isLike_10 : decode cX8_isLike 10 = .ok (.land, 1) := dg_X8_isLike_0.2.2.2.2.2.1
theorem dX8_isLike_11 : decode cX8_isLike 11 = .ok (.lconst 0, 1) := dg_X8_isLike_0.2.2.2.2.2.2.1
theorem dX8_isLike_12 : decode cX8_isLike 12 = .ok (.lcmp, 1) := dg_X8_isLike_0.2.2.2.2.2.2.2.1
theorem dX8_isLike_13 : decode cX8_isLike 13 = .ok (.ifCond .ne 17, 3) := dg_X8_isLike_0.2.2.2.2.2.2.2.2.1
theorem dX8_isLike_16 : decode cX8_isLike 16 = .ok (.lload_n 3, 1) := dg_X8_isLike_0.2.2.2.2.2.2.2.2.2.1
theorem dX8_isLike_17 : decode cX8_isLike 17 = .ok (.ldc2_w 122, 3) := dg_X8_isLike_0.2.2.2.2.2.2.2.2.2.2.1
theorem dX8_isLike_20 : decode cX8_isLike 20 = .ok (.land, 1) := dg_X8_isLike_0.2.2.2.2.2.2.2.2.2.2.2.1
theorem dX8_isLike_21 : decode cX8_isLike 21 = .ok (.lconst 0, 1) := dg_X8_isLike_0.2.2.2.2.2.2.2.2.2.2.2.2.1
theorem dX8_isLike_22 : decode cX8_isLike 22 = .ok (.lcmp, 1) := dg_X8_isLike_0.2.2.2.2.2.2.2.2.2.2.2.2.2.1
theorem dX8_isLike_23 : decode cX8_isLike 23 = .ok (.ifCond .ne 7, 3) := dg_X8_isLike_0.2.2.2.2.2.2.2.2.2.2.2.2.2.2.1
theorem dX8_isLike_26 : decode cX8_isLike 26 = .ok (.iconst 1, 1) := dg_X8_isLike_0.2.2.2.2.2.2.2.2.2.2.2.2.2.2.2
theorem dg_X8_isLike_27 : (decode cX8_isLike 27 = .ok (.goto 38, 3)) ∧ (decode cX8_isLike 30 = .ok (.iconst 0, 1)) ∧ (decode cX8_isLike 31 = .ok (.goto 34, 3)) ∧ (decode cX8_isLike 34 = .ok (.iload_n 0, 1)) ∧ (decode cX8_isLike 35 = .ok (.bipush 7, 2)) ∧ (decode cX8_isLike 37 = .ok (.if_icmp .ne 27, 3)) ∧ (decode cX8_isLike 40 = .ok (.lload_n 1, 1)) ∧ (decode cX8_isLike 41 = .ok (.ldc2_w 128, 3)) ∧ (decode cX8_isLike 44 = .ok (.land, 1)) ∧ (decode cX8_isLike 45 = .ok (.lconst 0, 1)) ∧ (decode cX8_isLike 46 = .ok (.lcmp, 1)) ∧ (decode cX8_isLike 47 = .ok (.ifCond .ne 17, 3)) ∧ (decode cX8_isLike 50 = .ok (.lload_n 3, 1)) ∧ (decode cX8_isLike 51 = .ok (.ldc2_w 128, 3)) ∧ (decode cX8_isLike 54 = .ok (.land, 1)) ∧ (decode cX8_isLike 55 = .ok (.lconst 0, 1)) := by decide +kernel
theorem dX8_isLike_27 : decode cX8_isLike 27 = .ok (.goto 38, 3) := dg_X8_isLike_27.1
theorem dX8_isLike_30 : decode cX8_isLike 30 = .ok (.iconst 0, 1) := dg_X8_isLike_27.2.1
theorem dX8_isLike_31 : decode cX8_isLike 31 = .ok (.goto 34, 3) := dg_X8_isLike_27.2.2.1
theorem dX8_isLike_34 : decode cX8_isLike 34 = .ok (.iload_n 0, 1) := dg_X8_isLike_27.2.2.2.1
theorem dX8_isLike_35 : decode cX8_isLike 35 = .ok (.bipush 7, 2) := dg_X8_isLike_27.2.2.2.2.1
theorem dX8_isLike_37 : decode cX8_isLike 37 = .ok (.if_icmp .ne 27, 3) := dg_X8_isLike_27.2.2.2.2.2.1
theorem dX8_isLike_40 : decode cX8_isLike 40 = .ok (.lload_n 1, 1) := dg_X8_isLike_27.2.2.2.2.2.2.1
theorem dX8_isLike_41 : decode cX8_isLike 41 = .ok (.ldc2_w 128, 3) := dg_X8_isLike_27.2.2.2.2.2.2.2.1
theorem dX8_isLike_44 : decode cX8_isLike 44 = .ok (.land, 1) := dg_X8_isLike_27.2.2.2.2.2.2.2.2.1
theorem dX8_isLike_45 : decode cX8_isLike 45 = .ok (.lconst 0, 1) := dg_X8_isLike_27.2.2.2.2.2.2.2.2.2.1
theorem dX8_isLike_46 : decode cX8_isLike 46 = .ok (.lcmp, 1) := dg_X8_isLike_27.2.2.2.2.2.2.2.2.2.2.1
theorem dX8_isLike_47 : decode cX8_isLike 47 = .ok (.ifCond .ne 17, 3) := dg_X8_isLike_27.2.2.2.2.2.2.2.2.2.2.2.1
theorem dX8_isLike_50 : decode cX8_isLike 50 = .ok (.lload_n 3, 1) := dg_X8_isLike_27.2.2.2.2.2.2.2.2.2.2.2.2.1
theorem dX8_isLike_51 : decode cX8_isLike 51 = .ok (.ldc2_w 128, 3) := dg_X8_isLike_27.2.2.2.2.2.2.2.2.2.2.2.2.2.1
theorem dX8_isLike_54 : decode cX8_isLike 54 = .ok (.land, 1) := dg_X8_isLike_27.2.2.2.2.2.2.2.2.2.2.2.2.2.2.1
theorem dX8_isLike_55 : decode cX8_isLike 55 = .ok (.lconst 0, 1) := dg_X8_isLike_27.2.2.2.2.2.2.2.2.2.2.2.2.2.2.2
theorem dg_X8_isLike_56 : (decode cX8_isLike 56 = .ok (.lcmp, 1)) ∧ (decode cX8_isLike 57 = .ok (.ifCond .ne 7, 3)) ∧ (decode cX8_isLike 60 = .ok (.iconst 1, 1)) ∧ (decode cX8_isLike 61 = .ok (.goto 4, 3)) ∧ (decode cX8_isLike 64 = .ok (.iconst 0, 1)) ∧ (decode cX8_isLike 65 = .ok (.istore 5, 2)) ∧ (decode cX8_isLike 67 = .ok (.iload 5, 2)) ∧ (decode cX8_isLike 69 = .ok (.ifCond .ne 17, 3)) ∧ (decode cX8_isLike 72 = .ok (.lload_n 1, 1)) ∧ (decode cX8_isLike 73 = .ok (.lload_n 3, 1)) ∧ (decode cX8_isLike 74 = .ok (.lcmp, 1)) ∧ (decode cX8_isLike 75 = .ok (.ifCond .ne 15, 3)) ∧ (decode cX8_isLike 78 = .ok (.iload_n 0, 1)) ∧ (decode cX8_isLike 79 = .ok (.lload_n 1, 1)) ∧ (decode cX8_isLike 80 = .ok (.invokestatic 132, 3)) ∧ (decode cX8_isLike 83 = .ok (.ifCond .ne 7, 3)) := by decide +kernel
theorem dX8_isLike_56 : decode cX8_isLike 56 = .ok (.lcmp, 1) := dg_X8_isLike_56.1
theorem dX8_isLike_57 : decode cX8_isLike 57 = .ok (.ifCond .ne 7, 3) := dg_X8_isLike_56.2.1
theorem dX8_isLike_60 : decode cX8_isLike 60 = .ok (.iconst 1, 1) := dg_X8_isLike_56.2.2.1
theorem dX8_isLike_61 : decode cX8_isLike 61 = .ok (.goto 4, 3) := dg_X8_isLike_56.2.2.2.1
theorem dX8_isLike_64 : decode cX8_isLike 64 = .ok (.iconst 0, 1) := dg_X8_isLike_56.2.2.2.2.1
theorem dX8_isLike_65 : decode cX8_isLike 65 = .ok (.istore 5, 2) := dg_X8_isLike_56.2.2.2.2.2.1
theorem dX8_isLike_67 : decode cX8_isLike 67 = .ok (.iload 5, 2) := dg_X8_isLike_56.2.2.2.2.2.2.1
theorem dX8_isLike_69 : decode cX8_isLike 69 = .ok (.ifCond .ne 17, 3) := dg_X8_isLike_56.2.2.2.2.2.2.2.1
theorem dX8_isLike_72 : decode cX8_isLike 72 = .ok (.lload_n 1, 1) := dg_X8_isLike_56.2.2.2.2.2.2.2.2.1
theorem dX8_isLike_73 : decode cX8_isLike 73 = .ok (.lload_n 3, 1) := dg_X8_isLike_56.2.2.2.2.2.2.2.2.2.1
theorem dX8_isLike_74 : decode cX8_isLike 74 = .ok (.lcmp, 1) := dg_X8_isLike_56.2.2.2.2.2.2.2.2.2.2.1
theorem dX8_isLike_75 : decode cX8_isLike 75 = .ok (.ifCond .ne 15, 3) := dg_X8_isLike_56.2.2.2.2.2.2.2.2.2.2.2.1
theorem dX8_isLike_78 : decode cX8_isLike 78 = .ok (.iload_n 0, 1) := dg_X8_isLike_56.2.2.2.2.2.2.2.2.2.2.2.2.1
theorem dX8_isLike_79 : decode cX8_isLike 79 = .ok (.lload_n 1, 1) := dg_X8_isLike_56.2.2.2.2.2.2.2.2.2.2.2.2.2.1
theorem dX8_isLike_80 : decode cX8_isLike 80 = .ok (.invokestatic 132, 3) := dg_X8_isLike_56.2.2.2.2.2.2.2.2.2.2.2.2.2.2.1
theorem dX8_isLike_83 : decode cX8_isLike 83 = .ok (.ifCond .ne 7, 3) := dg_X8_isLike_56.2.2.2.2.2.2.2.2.2.2.2.2.2.2.2
theorem dg_X8_isLike_86 : (decode cX8_isLike 86 = .ok (.iconst 1, 1)) ∧ (decode cX8_isLike 87 = .ok (.goto 4, 3)) ∧ (decode cX8_isLike 90 = .ok (.iconst 0, 1)) ∧ (decode cX8_isLike 91 = .ok (.ireturn, 1)) := by decide +kernel
theorem dX8_isLike_86 : decode cX8_isLike 86 = .ok (.iconst 1, 1) := dg_X8_isLike_86.1
theorem dX8_isLike_87 : decode cX8_isLike 87 = .ok (.goto 4, 3) := dg_X8_isLike_86.2.1
theorem dX8_isLike_90 : decode cX8_isLike 90 = .ok (.iconst 0, 1) := dg_X8_isLike_86.2.2.1
theorem dX8_isLike_91 : decode cX8_isLike 91 = .ok (.ireturn, 1) := dg_X8_isLike_86.2.2.2
def fn_cm_isLike (k : Int32) (x : Int64) (y : Int64) : Int32 := (if k = 6 then (if (x &&& 2147483647) = 0 then (if (y &&& 2147483647) = 0 then 1 else (if x = y then (if (fn_cm_isNone k x) = 0 then 1 else 0) else 0)) else (if x = y then (if (fn_cm_isNone k x) = 0 then 1 else 0) else 0)) else (if k = 7 then (if (x &&& 9223372036854775807) = 0 then (if (y &&& 9223372036854775807) = 0 then 1 else (if x = y then (if (fn_cm_isNone k x) = 0 then 1 else 0) else 0)) else (if x = y then (if (fn_cm_isNone k x) = 0 then 1 else 0) else 0)) else (if x = y then (if (fn_cm_isNone k x) = 0 then 1 else 0) else 0)))
abbrev rm_cm_isLike : Room := { frames := 1, cells := 0, slots := 0, locals := 22 }
abbrev po_cm_isLike (g : zz_G) (k : Int32) (x : Int64) (y : Int64) : Int32 → va_W → Prop := fun (r : Int32) (u : va_W) => r = fn_cm_isLike k x y ∧ u = []
set_option maxHeartbeats 4000000 in
set_option maxRecDepth 100000 in
theorem cm_isLike (g : zz_G) (k : Int32) (x : Int64) (y : Int64) : zz_I g yX8_isLike (.code yX8_isLike cX8_isLike 6 (some .boolean)) rm_cm_isLike [.int k, .long x, .long y] [] (po_cm_isLike g k x y) := by
  refine zz_I.intro (own := RX8) (cc := cX8_isLike) (nL := 6) (by decide) rfl (Nat.le_of_ble_eq_true rfl) ?_
  intro p l e s m args below meth c A H locs ls hC hnm hs hZ hl
  obtain ⟨hx, hb, hml, hown, hts, hr, hlocks, hK⟩ := id hC
  have hl : lv_has ls 6 [(0, .int k), (1, .long x), (3, .long y)] := hl
  have hZ : zz_Z g A s.heap [] H locs := hZ
  refine lv_iload_n hx hb dX8_isLike_0 rfl (lv_at hl 0 rfl) ?_
  refine lv_bipush (v := 6) hx hb dX8_isLike_1 (by decide) ?_
  refine lv_icmp_ne (tgt := 34) hx hb dX8_isLike_3 (by decide) (fun c1 => ?_) (fun c1 => ?_)
  · refine lv_iload_n hx hb dX8_isLike_34 rfl (lv_at hl 0 rfl) ?_
    refine lv_bipush (v := 7) hx hb dX8_isLike_35 (by decide) ?_
    refine lv_icmp_ne (tgt := 64) hx hb dX8_isLike_37 (by decide) (fun c2 => ?_) (fun c2 => ?_)
    · refine lv_iconst (v := 0) hx hb dX8_isLike_64 (by decide) ?_
      refine lv_istore (lv' := [(5, .int 0), (0, .int k), (1, .long x), (3, .long y)]) hx hb dX8_isLike_65 hl (by decide) rfl (fun ls hl => ?_)
      refine lv_iload hx hb dX8_isLike_67 (lv_at hl 0 rfl) ?_
      refine lv_if_ne (tgt := 86) hx hb dX8_isLike_69 (by decide) (fun c => absurd (by decide) c) (fun c3 => ?_)
      refine lv_lload_n hx hb dX8_isLike_72 rfl (lv_at hl 2 rfl) ?_
      refine lv_lload_n hx hb dX8_isLike_73 rfl (lv_at hl 3 rfl) ?_
      refine zz_lcmp_ne (tgt := 90) hC dX8_isLike_74 dX8_isLike_75 (by decide) (fun c4 => ?_) (fun c4 => ?_)
      · refine lv_iconst (v := 0) hx hb dX8_isLike_90 (by decide) ?_
        exact zz_zret hC hZ (by decide) (⟨by show _ = _; rw [fn_cm_isLike, if_neg c1, if_neg c2, if_neg c4], rfl⟩) (Nat.le_of_ble_eq_true rfl) (Nat.le_of_ble_eq_true rfl) dX8_isLike_91
      · refine lv_iload_n hx hb dX8_isLike_78 rfl (lv_at hl 1 rfl) ?_
        refine lv_lload_n hx hb dX8_isLike_79 rfl (lv_at hl 2 rfl) ?_
        refine zz_iS (As := [.int k, .long x]) (wc := []) (wr := []) (rest := []) hC hZ hs hl zc_X8_132 (cm_isNone g k x) [] [] rfl rfl (by decide +kernel) rfl rfl (Nat.le_of_ble_eq_true rfl) ⟨⟨Nat.le_of_ble_eq_true rfl, Nat.le_of_ble_eq_true rfl⟩, Nat.le_of_ble_eq_true rfl, Nat.le_of_ble_eq_true rfl⟩ dX8_isLike_80 (fun r5 u6 H locs hp hZ => ?_)
        obtain ⟨rfl, rfl⟩ := hp
        have hZ : zz_Z g A s.heap [] H locs := hZ
        refine lv_if_ne (tgt := 90) hx hb dX8_isLike_83 (by decide) (fun c7 => ?_) (fun c7 => ?_)
        · refine lv_iconst (v := 0) hx hb dX8_isLike_90 (by decide) ?_
          exact zz_zret hC hZ (by decide) (⟨by show _ = _; rw [fn_cm_isLike, if_neg c1, if_neg c2, if_pos c4, if_neg c7], rfl⟩) (Nat.le_of_ble_eq_true rfl) (Nat.le_of_ble_eq_true rfl) dX8_isLike_91
        · refine lv_iconst (v := 1) hx hb dX8_isLike_86 (by decide) ?_
          refine lv_goto (tgt := 91) hx hb dX8_isLike_87 (by decide) ?_
          exact zz_zret hC hZ (by decide) (⟨by show _ = _; rw [fn_cm_isLike, if_neg c1, if_neg c2, if_pos c4, if_pos c7], rfl⟩) (Nat.le_of_ble_eq_true rfl) (Nat.le_of_ble_eq_true rfl) dX8_isLike_91
    · refine lv_lload_n hx hb dX8_isLike_40 rfl (lv_at hl 1 rfl) ?_
      refine lv_ldc2 hx hb hown (hts _ zk_940) dX8_isLike_41 ?_
      refine lv_land hx hb dX8_isLike_44 ?_
      refine lv_lconst (v := 0) hx hb dX8_isLike_45 (by decide) ?_
      refine zz_lcmp_ne (tgt := 64) hC dX8_isLike_46 dX8_isLike_47 (by decide) (fun c8 => ?_) (fun c8 => ?_)
      · refine lv_iconst (v := 0) hx hb dX8_isLike_64 (by decide) ?_
        refine lv_istore (lv' := [(5, .int 0), (0, .int k), (1, .long x), (3, .long y)]) hx hb dX8_isLike_65 hl (by decide) rfl (fun ls hl => ?_)
        refine lv_iload hx hb dX8_isLike_67 (lv_at hl 0 rfl) ?_
        refine lv_if_ne (tgt := 86) hx hb dX8_isLike_69 (by decide) (fun c => absurd (by decide) c) (fun c9 => ?_)
        refine lv_lload_n hx hb dX8_isLike_72 rfl (lv_at hl 2 rfl) ?_
        refine lv_lload_n hx hb dX8_isLike_73 rfl (lv_at hl 3 rfl) ?_
        refine zz_lcmp_ne (tgt := 90) hC dX8_isLike_74 dX8_isLike_75 (by decide) (fun c10 => ?_) (fun c10 => ?_)
        · refine lv_iconst (v := 0) hx hb dX8_isLike_90 (by decide) ?_
          exact zz_zret hC hZ (by decide) (⟨by show _ = _; rw [fn_cm_isLike, if_neg c1, if_pos c2, if_neg c8, if_neg c10], rfl⟩) (Nat.le_of_ble_eq_true rfl) (Nat.le_of_ble_eq_true rfl) dX8_isLike_91
        · refine lv_iload_n hx hb dX8_isLike_78 rfl (lv_at hl 1 rfl) ?_
          refine lv_lload_n hx hb dX8_isLike_79 rfl (lv_at hl 2 rfl) ?_
          refine zz_iS (As := [.int k, .long x]) (wc := []) (wr := []) (rest := []) hC hZ hs hl zc_X8_132 (cm_isNone g k x) [] [] rfl rfl (by decide +kernel) rfl rfl (Nat.le_of_ble_eq_true rfl) ⟨⟨Nat.le_of_ble_eq_true rfl, Nat.le_of_ble_eq_true rfl⟩, Nat.le_of_ble_eq_true rfl, Nat.le_of_ble_eq_true rfl⟩ dX8_isLike_80 (fun r11 u12 H locs hp hZ => ?_)
          obtain ⟨rfl, rfl⟩ := hp
          have hZ : zz_Z g A s.heap [] H locs := hZ
          refine lv_if_ne (tgt := 90) hx hb dX8_isLike_83 (by decide) (fun c13 => ?_) (fun c13 => ?_)
          · refine lv_iconst (v := 0) hx hb dX8_isLike_90 (by decide) ?_
            exact zz_zret hC hZ (by decide) (⟨by show _ = _; rw [fn_cm_isLike, if_neg c1, if_pos c2, if_neg c8, if_pos c10, if_neg c13], rfl⟩) (Nat.le_of_ble_eq_true rfl) (Nat.le_of_ble_eq_true rfl) dX8_isLike_91
          · refine lv_iconst (v := 1) hx hb dX8_isLike_86 (by decide) ?_
            refine lv_goto (tgt := 91) hx hb dX8_isLike_87 (by decide) ?_
            exact zz_zret hC hZ (by decide) (⟨by show _ = _; rw [fn_cm_isLike, if_neg c1, if_pos c2, if_neg c8, if_pos c10, if_pos c13], rfl⟩) (Nat.le_of_ble_eq_true rfl) (Nat.le_of_ble_eq_true rfl) dX8_isLike_91
      · refine lv_lload_n hx hb dX8_isLike_50 rfl (lv_at hl 2 rfl) ?_
        refine lv_ldc2 hx hb hown (hts _ zk_940) dX8_isLike_51 ?_
        refine lv_land hx hb dX8_isLike_54 ?_
        refine lv_lconst (v := 0) hx hb dX8_isLike_55 (by decide) ?_
        refine zz_lcmp_ne (tgt := 64) hC dX8_isLike_56 dX8_isLike_57 (by decide) (fun c14 => ?_) (fun c14 => ?_)
        · refine lv_iconst (v := 0) hx hb dX8_isLike_64 (by decide) ?_
          refine lv_istore (lv' := [(5, .int 0), (0, .int k), (1, .long x), (3, .long y)]) hx hb dX8_isLike_65 hl (by decide) rfl (fun ls hl => ?_)
          refine lv_iload hx hb dX8_isLike_67 (lv_at hl 0 rfl) ?_
          refine lv_if_ne (tgt := 86) hx hb dX8_isLike_69 (by decide) (fun c => absurd (by decide) c) (fun c15 => ?_)
          refine lv_lload_n hx hb dX8_isLike_72 rfl (lv_at hl 2 rfl) ?_
          refine lv_lload_n hx hb dX8_isLike_73 rfl (lv_at hl 3 rfl) ?_
          refine zz_lcmp_ne (tgt := 90) hC dX8_isLike_74 dX8_isLike_75 (by decide) (fun c16 => ?_) (fun c16 => ?_)
          · refine lv_iconst (v := 0) hx hb dX8_isLike_90 (by decide) ?_
            exact zz_zret hC hZ (by decide) (⟨by show _ = _; rw [fn_cm_isLike, if_neg c1, if_pos c2, if_pos c8, if_neg c14, if_neg c16], rfl⟩) (Nat.le_of_ble_eq_true rfl) (Nat.le_of_ble_eq_true rfl) dX8_isLike_91
          · refine lv_iload_n hx hb dX8_isLike_78 rfl (lv_at hl 1 rfl) ?_
            refine lv_lload_n hx hb dX8_isLike_79 rfl (lv_at hl 2 rfl) ?_
            refine zz_iS (As := [.int k, .long x]) (wc := []) (wr := []) (rest := []) hC hZ hs hl zc_X8_132 (cm_isNone g k x) [] [] rfl rfl (by decide +kernel) rfl rfl (Nat.le_of_ble_eq_true rfl) ⟨⟨Nat.le_of_ble_eq_true rfl, Nat.le_of_ble_eq_true rfl⟩, Nat.le_of_ble_eq_true rfl, Nat.le_of_ble_eq_true rfl⟩ dX8_isLike_80 (fun r17 u18 H locs hp hZ => ?_)
            obtain ⟨rfl, rfl⟩ := hp
            have hZ : zz_Z g A s.heap [] H locs := hZ
            refine lv_if_ne (tgt := 90) hx hb dX8_isLike_83 (by decide) (fun c19 => ?_) (fun c19 => ?_)
            · refine lv_iconst (v := 0) hx hb dX8_isLike_90 (by decide) ?_
              exact zz_zret hC hZ (by decide) (⟨by show _ = _; rw [fn_cm_isLike, if_neg c1, if_pos c2, if_pos c8, if_neg c14, if_pos c16, if_neg c19], rfl⟩) (Nat.le_of_ble_eq_true rfl) (Nat.le_of_ble_eq_true rfl) dX8_isLike_91
            · refine lv_iconst (v := 1) hx hb dX8_isLike_86 (by decide) ?_
              refine lv_goto (tgt := 91) hx hb dX8_isLike_87 (by decide) ?_
              exact zz_zret hC hZ (by decide) (⟨by show _ = _; rw [fn_cm_isLike, if_neg c1, if_pos c2, if_pos c8, if_neg c14, if_pos c16, if_pos c19], rfl⟩) (Nat.le_of_ble_eq_true rfl) (Nat.le_of_ble_eq_true rfl) dX8_isLike_91
        · refine lv_iconst (v := 1) hx hb dX8_isLike_60 (by decide) ?_
          refine lv_goto (tgt := 65) hx hb dX8_isLike_61 (by decide) ?_
          refine lv_istore (lv' := [(5, .int 1), (0, .int k), (1, .long x), (3, .long y)]) hx hb dX8_isLike_65 hl (by decide) rfl (fun ls hl => ?_)
          refine lv_iload hx hb dX8_isLike_67 (lv_at hl 0 rfl) ?_
          refine lv_if_ne (tgt := 86) hx hb dX8_isLike_69 (by decide) (fun c20 => ?_) (fun c => absurd c (by decide))
          refine lv_iconst (v := 1) hx hb dX8_isLike_86 (by decide) ?_
          refine lv_goto (tgt := 91) hx hb dX8_isLike_87 (by decide) ?_
          exact zz_zret hC hZ (by decide) (⟨by show _ = _; rw [fn_cm_isLike, if_neg c1, if_pos c2, if_pos c8, if_pos c14], rfl⟩) (Nat.le_of_ble_eq_true rfl) (Nat.le_of_ble_eq_true rfl) dX8_isLike_91
  · refine lv_lload_n hx hb dX8_isLike_6 rfl (lv_at hl 1 rfl) ?_
    refine lv_ldc2 hx hb hown (hts _ zk_938) dX8_isLike_7 ?_
    refine lv_land hx hb dX8_isLike_10 ?_
    refine lv_lconst (v := 0) hx hb dX8_isLike_11 (by decide) ?_
    refine zz_lcmp_ne (tgt := 30) hC dX8_isLike_12 dX8_isLike_13 (by decide) (fun c21 => ?_) (fun c21 => ?_)
    · refine lv_iconst (v := 0) hx hb dX8_isLike_30 (by decide) ?_
      refine lv_goto (tgt := 65) hx hb dX8_isLike_31 (by decide) ?_
      refine lv_istore (lv' := [(5, .int 0), (0, .int k), (1, .long x), (3, .long y)]) hx hb dX8_isLike_65 hl (by decide) rfl (fun ls hl => ?_)
      refine lv_iload hx hb dX8_isLike_67 (lv_at hl 0 rfl) ?_
      refine lv_if_ne (tgt := 86) hx hb dX8_isLike_69 (by decide) (fun c => absurd (by decide) c) (fun c22 => ?_)
      refine lv_lload_n hx hb dX8_isLike_72 rfl (lv_at hl 2 rfl) ?_
      refine lv_lload_n hx hb dX8_isLike_73 rfl (lv_at hl 3 rfl) ?_
      refine zz_lcmp_ne (tgt := 90) hC dX8_isLike_74 dX8_isLike_75 (by decide) (fun c23 => ?_) (fun c23 => ?_)
      · refine lv_iconst (v := 0) hx hb dX8_isLike_90 (by decide) ?_
        exact zz_zret hC hZ (by decide) (⟨by show _ = _; rw [fn_cm_isLike, if_pos c1, if_neg c21, if_neg c23], rfl⟩) (Nat.le_of_ble_eq_true rfl) (Nat.le_of_ble_eq_true rfl) dX8_isLike_91
      · refine lv_iload_n hx hb dX8_isLike_78 rfl (lv_at hl 1 rfl) ?_
        refine lv_lload_n hx hb dX8_isLike_79 rfl (lv_at hl 2 rfl) ?_
        refine zz_iS (As := [.int k, .long x]) (wc := []) (wr := []) (rest := []) hC hZ hs hl zc_X8_132 (cm_isNone g k x) [] [] rfl rfl (by decide +kernel) rfl rfl (Nat.le_of_ble_eq_true rfl) ⟨⟨Nat.le_of_ble_eq_true rfl, Nat.le_of_ble_eq_true rfl⟩, Nat.le_of_ble_eq_true rfl, Nat.le_of_ble_eq_true rfl⟩ dX8_isLike_80 (fun r24 u25 H locs hp hZ => ?_)
        obtain ⟨rfl, rfl⟩ := hp
        have hZ : zz_Z g A s.heap [] H locs := hZ
        refine lv_if_ne (tgt := 90) hx hb dX8_isLike_83 (by decide) (fun c26 => ?_) (fun c26 => ?_)
        · refine lv_iconst (v := 0) hx hb dX8_isLike_90 (by decide) ?_
          exact zz_zret hC hZ (by decide) (⟨by show _ = _; rw [fn_cm_isLike, if_pos c1, if_neg c21, if_pos c23, if_neg c26], rfl⟩) (Nat.le_of_ble_eq_true rfl) (Nat.le_of_ble_eq_true rfl) dX8_isLike_91
        · refine lv_iconst (v := 1) hx hb dX8_isLike_86 (by decide) ?_
          refine lv_goto (tgt := 91) hx hb dX8_isLike_87 (by decide) ?_
          exact zz_zret hC hZ (by decide) (⟨by show _ = _; rw [fn_cm_isLike, if_pos c1, if_neg c21, if_pos c23, if_pos c26], rfl⟩) (Nat.le_of_ble_eq_true rfl) (Nat.le_of_ble_eq_true rfl) dX8_isLike_91
    · refine lv_lload_n hx hb dX8_isLike_16 rfl (lv_at hl 2 rfl) ?_
      refine lv_ldc2 hx hb hown (hts _ zk_938) dX8_isLike_17 ?_
      refine lv_land hx hb dX8_isLike_20 ?_
      refine lv_lconst (v := 0) hx hb dX8_isLike_21 (by decide) ?_
      refine zz_lcmp_ne (tgt := 30) hC dX8_isLike_22 dX8_isLike_23 (by decide) (fun c27 => ?_) (fun c27 => ?_)
      · refine lv_iconst (v := 0) hx hb dX8_isLike_30 (by decide) ?_
        refine lv_goto (tgt := 65) hx hb dX8_isLike_31 (by decide) ?_
        refine lv_istore (lv' := [(5, .int 0), (0, .int k), (1, .long x), (3, .long y)]) hx hb dX8_isLike_65 hl (by decide) rfl (fun ls hl => ?_)
        refine lv_iload hx hb dX8_isLike_67 (lv_at hl 0 rfl) ?_
        refine lv_if_ne (tgt := 86) hx hb dX8_isLike_69 (by decide) (fun c => absurd (by decide) c) (fun c28 => ?_)
        refine lv_lload_n hx hb dX8_isLike_72 rfl (lv_at hl 2 rfl) ?_
        refine lv_lload_n hx hb dX8_isLike_73 rfl (lv_at hl 3 rfl) ?_
        refine zz_lcmp_ne (tgt := 90) hC dX8_isLike_74 dX8_isLike_75 (by decide) (fun c29 => ?_) (fun c29 => ?_)
        · refine lv_iconst (v := 0) hx hb dX8_isLike_90 (by decide) ?_
          exact zz_zret hC hZ (by decide) (⟨by show _ = _; rw [fn_cm_isLike, if_pos c1, if_pos c21, if_neg c27, if_neg c29], rfl⟩) (Nat.le_of_ble_eq_true rfl) (Nat.le_of_ble_eq_true rfl) dX8_isLike_91
        · refine lv_iload_n hx hb dX8_isLike_78 rfl (lv_at hl 1 rfl) ?_
          refine lv_lload_n hx hb dX8_isLike_79 rfl (lv_at hl 2 rfl) ?_
          refine zz_iS (As := [.int k, .long x]) (wc := []) (wr := []) (rest := []) hC hZ hs hl zc_X8_132 (cm_isNone g k x) [] [] rfl rfl (by decide +kernel) rfl rfl (Nat.le_of_ble_eq_true rfl) ⟨⟨Nat.le_of_ble_eq_true rfl, Nat.le_of_ble_eq_true rfl⟩, Nat.le_of_ble_eq_true rfl, Nat.le_of_ble_eq_true rfl⟩ dX8_isLike_80 (fun r30 u31 H locs hp hZ => ?_)
          obtain ⟨rfl, rfl⟩ := hp
          have hZ : zz_Z g A s.heap [] H locs := hZ
          refine lv_if_ne (tgt := 90) hx hb dX8_isLike_83 (by decide) (fun c32 => ?_) (fun c32 => ?_)
          · refine lv_iconst (v := 0) hx hb dX8_isLike_90 (by decide) ?_
            exact zz_zret hC hZ (by decide) (⟨by show _ = _; rw [fn_cm_isLike, if_pos c1, if_pos c21, if_neg c27, if_pos c29, if_neg c32], rfl⟩) (Nat.le_of_ble_eq_true rfl) (Nat.le_of_ble_eq_true rfl) dX8_isLike_91
          · refine lv_iconst (v := 1) hx hb dX8_isLike_86 (by decide) ?_
            refine lv_goto (tgt := 91) hx hb dX8_isLike_87 (by decide) ?_
            exact zz_zret hC hZ (by decide) (⟨by show _ = _; rw [fn_cm_isLike, if_pos c1, if_pos c21, if_neg c27, if_pos c29, if_pos c32], rfl⟩) (Nat.le_of_ble_eq_true rfl) (Nat.le_of_ble_eq_true rfl) dX8_isLike_91
      · refine lv_iconst (v := 1) hx hb dX8_isLike_26 (by decide) ?_
        refine lv_goto (tgt := 65) hx hb dX8_isLike_27 (by decide) ?_
        refine lv_istore (lv' := [(5, .int 1), (0, .int k), (1, .long x), (3, .long y)]) hx hb dX8_isLike_65 hl (by decide) rfl (fun ls hl => ?_)
        refine lv_iload hx hb dX8_isLike_67 (lv_at hl 0 rfl) ?_
        refine lv_if_ne (tgt := 86) hx hb dX8_isLike_69 (by decide) (fun c33 => ?_) (fun c => absurd c (by decide))
        refine lv_iconst (v := 1) hx hb dX8_isLike_86 (by decide) ?_
        refine lv_goto (tgt := 91) hx hb dX8_isLike_87 (by decide) ?_
        exact zz_zret hC hZ (by decide) (⟨by show _ = _; rw [fn_cm_isLike, if_pos c1, if_pos c21, if_pos c27], rfl⟩) (Nat.le_of_ble_eq_true rfl) (Nat.le_of_ble_eq_true rfl) dX8_isLike_91
theorem dg_X8_fails_0 : (decode cX8_fails 0 = .ok (.aload_n 0, 1)) ∧ (decode cX8_fails 1 = .ok (.iload_n 1, 1)) ∧ (decode cX8_fails 2 = .ok (.putfield 99, 3)) ∧ (decode cX8_fails 5 = .ok (.iload_n 1, 1)) ∧ (decode cX8_fails 6 = .ok (.ineg, 1)) ∧ (decode cX8_fails 7 = .ok (.ireturn, 1)) := by decide +kernel
theorem dX8_fails_0 : decode cX8_fails 0 = .ok (.aload_n 0, 1) := dg_X8_fails_0.1
theorem dX8_fails_1 : decode cX8_fails 1 = .ok (.iload_n 1, 1) := dg_X8_fails_0.2.1
theorem dX8_fails_2 : decode cX8_fails 2 = .ok (.putfield 99, 3) := dg_X8_fails_0.2.2.1
theorem dX8_fails_5 : decode cX8_fails 5 = .ok (.iload_n 1, 1) := dg_X8_fails_0.2.2.2.1
theorem dX8_fails_6 : decode cX8_fails 6 = .ok (.ineg, 1) := dg_X8_fails_0.2.2.2.2.1
theorem dX8_fails_7 : decode cX8_fails 7 = .ok (.ireturn, 1) := dg_X8_fails_0.2.2.2.2.2
theorem zk_744 : Cond.fieldLink RX8 99 RX8 "code" "I" ∈ zz_w := zz_in (List.mem_append_right _ (List.mem_append_right _ (List.mem_append_right _ (List.mem_append_right _ (List.mem_append_left _ (List.mem_of_getElem? (i := 24) (by decide +kernel))))))) rfl
theorem zi_X8_a : ∀ w ∈ u_ws RX8 TX8 37, w ∈ lw_tbl := by decide +kernel
theorem zi_X8_b : ∀ w ∈ u_ws RX8 TX8 37, goodWord w = true := by decide +kernel
theorem zi_X8 : ∀ w ∈ u_ws RX8 TX8 37, w ∈ zz_w := fun w h => zz_in (zi_X8_a w h) (zi_X8_b w h)
theorem zu_X8_99 : zz_fw RX8 99 7 9 false .int := ⟨RX8, TX8, 37, tyX8, rfl, zi_X8, by decide, zk_744, tyX8_ok, nmX8, rfl, by decide +kernel, fun h => by cases h⟩
abbrev rm_cm_fails : Room := { frames := 0, cells := 0, slots := 0, locals := 0 }
abbrev po_cm_fails (g : zz_G) (h0 : Nat) (a_kindOf : Nat) (a_depthOf : Nat) (a_lengthOf : Nat) (a_classOf : Nat) (a_baseOf : Nat) (a_bits : Nat) (a_pinned : Nat) (a_lengths : Nat) (a_stackArray : Nat) (a_stackOther : Nat) (a_stackAt : Nat) (a_path : Nat) (a_held : Nat) (a_alike : Nat) (a_hashes : Nat) (a_decisionArray : Nat) (a_decisionPlace : Nat) (a_candidateMany : Nat) (a_candidates : Nat) (a_ruleSort : Nat) (a_ruleArray : Nat) (a_ruleWeight : Nat) (a_ruleLow : Nat) (a_ruleHigh : Nat) (a_chosen : Nat) (a_bestOf : Nat) (a_markElements : Nat) (a_markBits : Nat) (a_markPins : Nat) (i_arrays : Int32) (i_elements : Int32) (i_code : Int32) (i_lastArray : Int32) (i_lastPlace : Int32) (i_decisions : Int32) (i_rules : Int32) (i_marks : Int32) (k : Int32) : Int32 → va_W → Prop := fun (r : Int32) (u : va_W) => r = -k ∧ u = [cw_k7 h0 i_arrays i_elements a_kindOf a_depthOf a_lengthOf a_classOf a_baseOf a_bits a_pinned k a_lengths a_stackArray a_stackOther a_stackAt i_lastArray i_lastPlace a_path a_held a_alike a_hashes i_decisions a_decisionArray a_decisionPlace a_candidateMany a_candidates i_rules a_ruleSort a_ruleArray a_ruleWeight a_ruleLow a_ruleHigh a_chosen a_bestOf i_marks a_markElements a_markBits a_markPins]
set_option maxHeartbeats 4000000 in
set_option maxRecDepth 100000 in
theorem cm_fails (g : zz_G) (h0 : Nat) (a_kindOf : Nat) (a_depthOf : Nat) (a_lengthOf : Nat) (a_classOf : Nat) (a_baseOf : Nat) (a_bits : Nat) (a_pinned : Nat) (a_lengths : Nat) (a_stackArray : Nat) (a_stackOther : Nat) (a_stackAt : Nat) (a_path : Nat) (a_held : Nat) (a_alike : Nat) (a_hashes : Nat) (a_decisionArray : Nat) (a_decisionPlace : Nat) (a_candidateMany : Nat) (a_candidates : Nat) (a_ruleSort : Nat) (a_ruleArray : Nat) (a_ruleWeight : Nat) (a_ruleLow : Nat) (a_ruleHigh : Nat) (a_chosen : Nat) (a_bestOf : Nat) (a_markElements : Nat) (a_markBits : Nat) (a_markPins : Nat) (i_arrays : Int32) (i_elements : Int32) (i_code : Int32) (i_lastArray : Int32) (i_lastPlace : Int32) (i_decisions : Int32) (i_rules : Int32) (i_marks : Int32) (k : Int32) : zz_I g yX8_fails (.code yX8_fails cX8_fails 2 (some .int)) rm_cm_fails [.ref h0, .int k] [cw_k7 h0 i_arrays i_elements a_kindOf a_depthOf a_lengthOf a_classOf a_baseOf a_bits a_pinned i_code a_lengths a_stackArray a_stackOther a_stackAt i_lastArray i_lastPlace a_path a_held a_alike a_hashes i_decisions a_decisionArray a_decisionPlace a_candidateMany a_candidates i_rules a_ruleSort a_ruleArray a_ruleWeight a_ruleLow a_ruleHigh a_chosen a_bestOf i_marks a_markElements a_markBits a_markPins] (po_cm_fails g h0 a_kindOf a_depthOf a_lengthOf a_classOf a_baseOf a_bits a_pinned a_lengths a_stackArray a_stackOther a_stackAt a_path a_held a_alike a_hashes a_decisionArray a_decisionPlace a_candidateMany a_candidates a_ruleSort a_ruleArray a_ruleWeight a_ruleLow a_ruleHigh a_chosen a_bestOf a_markElements a_markBits a_markPins i_arrays i_elements i_code i_lastArray i_lastPlace i_decisions i_rules i_marks k) := by
  refine zz_I.intro (own := RX8) (cc := cX8_fails) (nL := 2) (by decide) rfl (Nat.le_of_ble_eq_true rfl) ?_
  intro p l e s m args below meth c A H locs ls hC hnm hs hZ hl
  obtain ⟨hx, hb, hml, hown, hts, hr, hlocks, hK⟩ := id hC
  have hl : lv_has ls 2 [(0, .ref h0), (1, .int k)] := hl
  have hZ : zz_Z g A s.heap [cw_k7 h0 i_arrays i_elements a_kindOf a_depthOf a_lengthOf a_classOf a_baseOf a_bits a_pinned i_code a_lengths a_stackArray a_stackOther a_stackAt i_lastArray i_lastPlace a_path a_held a_alike a_hashes i_decisions a_decisionArray a_decisionPlace a_candidateMany a_candidates i_rules a_ruleSort a_ruleArray a_ruleWeight a_ruleLow a_ruleHigh a_chosen a_bestOf i_marks a_markElements a_markBits a_markPins] H locs := hZ
  refine lv_aload_n hx hb dX8_fails_0 rfl (lv_at hl 0 rfl) ?_
  refine lv_iload_n hx hb dX8_fails_1 rfl (lv_at hl 1 rfl) ?_
  refine zz_put hC hZ 0 rfl zu_X8_99 (Nat.le_of_ble_eq_true rfl) dX8_fails_2 (fun H locs hZ => ?_)
  have hZ : zz_Z g A s.heap [cw_k7 h0 i_arrays i_elements a_kindOf a_depthOf a_lengthOf a_classOf a_baseOf a_bits a_pinned k a_lengths a_stackArray a_stackOther a_stackAt i_lastArray i_lastPlace a_path a_held a_alike a_hashes i_decisions a_decisionArray a_decisionPlace a_candidateMany a_candidates i_rules a_ruleSort a_ruleArray a_ruleWeight a_ruleLow a_ruleHigh a_chosen a_bestOf i_marks a_markElements a_markBits a_markPins] H locs := hZ
  refine lv_iload_n hx hb dX8_fails_5 rfl (lv_at hl 1 rfl) ?_
  refine lv_ineg hx hb dX8_fails_6 ?_
  exact zz_iret hC hZ (⟨rfl, rfl⟩) (Nat.le_of_ble_eq_true rfl) (Nat.le_of_ble_eq_true rfl) dX8_fails_7
theorem dg_X8_fine_0 : (decode cX8_fine 0 = .ok (.aload_n 0, 1)) ∧ (decode cX8_fine 1 = .ok (.iconst 0, 1)) ∧ (decode cX8_fine 2 = .ok (.putfield 99, 3)) ∧ (decode cX8_fine 5 = .ok (.iload_n 1, 1)) ∧ (decode cX8_fine 6 = .ok (.ireturn, 1)) := by decide +kernel
theorem dX8_fine_0 : decode cX8_fine 0 = .ok (.aload_n 0, 1) := dg_X8_fine_0.1
theorem dX8_fine_1 : decode cX8_fine 1 = .ok (.iconst 0, 1) := dg_X8_fine_0.2.1
theorem dX8_fine_2 : decode cX8_fine 2 = .ok (.putfield 99, 3) := dg_X8_fine_0.2.2.1
theorem dX8_fine_5 : decode cX8_fine 5 = .ok (.iload_n 1, 1) := dg_X8_fine_0.2.2.2.1
theorem dX8_fine_6 : decode cX8_fine 6 = .ok (.ireturn, 1) := dg_X8_fine_0.2.2.2.2
abbrev rm_cm_fine : Room := { frames := 0, cells := 0, slots := 0, locals := 0 }
abbrev po_cm_fine (g : zz_G) (h0 : Nat) (a_kindOf : Nat) (a_depthOf : Nat) (a_lengthOf : Nat) (a_classOf : Nat) (a_baseOf : Nat) (a_bits : Nat) (a_pinned : Nat) (a_lengths : Nat) (a_stackArray : Nat) (a_stackOther : Nat) (a_stackAt : Nat) (a_path : Nat) (a_held : Nat) (a_alike : Nat) (a_hashes : Nat) (a_decisionArray : Nat) (a_decisionPlace : Nat) (a_candidateMany : Nat) (a_candidates : Nat) (a_ruleSort : Nat) (a_ruleArray : Nat) (a_ruleWeight : Nat) (a_ruleLow : Nat) (a_ruleHigh : Nat) (a_chosen : Nat) (a_bestOf : Nat) (a_markElements : Nat) (a_markBits : Nat) (a_markPins : Nat) (i_arrays : Int32) (i_elements : Int32) (i_code : Int32) (i_lastArray : Int32) (i_lastPlace : Int32) (i_decisions : Int32) (i_rules : Int32) (i_marks : Int32) (k : Int32) : Int32 → va_W → Prop := fun (r : Int32) (u : va_W) => r = k ∧ u = [cw_k7 h0 i_arrays i_elements a_kindOf a_depthOf a_lengthOf a_classOf a_baseOf a_bits a_pinned 0 a_lengths a_stackArray a_stackOther a_stackAt i_lastArray i_lastPlace a_path a_held a_alike a_hashes i_decisions a_decisionArray a_decisionPlace a_candidateMany a_candidates i_rules a_ruleSort a_ruleArray a_ruleWeight a_ruleLow a_ruleHigh a_chosen a_bestOf i_marks a_markElements a_markBits a_markPins]
set_option maxHeartbeats 4000000 in
set_option maxRecDepth 100000 in
theorem cm_fine (g : zz_G) (h0 : Nat) (a_kindOf : Nat) (a_depthOf : Nat) (a_lengthOf : Nat) (a_classOf : Nat) (a_baseOf : Nat) (a_bits : Nat) (a_pinned : Nat) (a_lengths : Nat) (a_stackArray : Nat) (a_stackOther : Nat) (a_stackAt : Nat) (a_path : Nat) (a_held : Nat) (a_alike : Nat) (a_hashes : Nat) (a_decisionArray : Nat) (a_decisionPlace : Nat) (a_candidateMany : Nat) (a_candidates : Nat) (a_ruleSort : Nat) (a_ruleArray : Nat) (a_ruleWeight : Nat) (a_ruleLow : Nat) (a_ruleHigh : Nat) (a_chosen : Nat) (a_bestOf : Nat) (a_markElements : Nat) (a_markBits : Nat) (a_markPins : Nat) (i_arrays : Int32) (i_elements : Int32) (i_code : Int32) (i_lastArray : Int32) (i_lastPlace : Int32) (i_decisions : Int32) (i_rules : Int32) (i_marks : Int32) (k : Int32) : zz_I g yX8_fine (.code yX8_fine cX8_fine 2 (some .int)) rm_cm_fine [.ref h0, .int k] [cw_k7 h0 i_arrays i_elements a_kindOf a_depthOf a_lengthOf a_classOf a_baseOf a_bits a_pinned i_code a_lengths a_stackArray a_stackOther a_stackAt i_lastArray i_lastPlace a_path a_held a_alike a_hashes i_decisions a_decisionArray a_decisionPlace a_candidateMany a_candidates i_rules a_ruleSort a_ruleArray a_ruleWeight a_ruleLow a_ruleHigh a_chosen a_bestOf i_marks a_markElements a_markBits a_markPins] (po_cm_fine g h0 a_kindOf a_depthOf a_lengthOf a_classOf a_baseOf a_bits a_pinned a_lengths a_stackArray a_stackOther a_stackAt a_path a_held a_alike a_hashes a_decisionArray a_decisionPlace a_candidateMany a_candidates a_ruleSort a_ruleArray a_ruleWeight a_ruleLow a_ruleHigh a_chosen a_bestOf a_markElements a_markBits a_markPins i_arrays i_elements i_code i_lastArray i_lastPlace i_decisions i_rules i_marks k) := by
  refine zz_I.intro (own := RX8) (cc := cX8_fine) (nL := 2) (by decide) rfl (Nat.le_of_ble_eq_true rfl) ?_
  intro p l e s m args below meth c A H locs ls hC hnm hs hZ hl
  obtain ⟨hx, hb, hml, hown, hts, hr, hlocks, hK⟩ := id hC
  have hl : lv_has ls 2 [(0, .ref h0), (1, .int k)] := hl
  have hZ : zz_Z g A s.heap [cw_k7 h0 i_arrays i_elements a_kindOf a_depthOf a_lengthOf a_classOf a_baseOf a_bits a_pinned i_code a_lengths a_stackArray a_stackOther a_stackAt i_lastArray i_lastPlace a_path a_held a_alike a_hashes i_decisions a_decisionArray a_decisionPlace a_candidateMany a_candidates i_rules a_ruleSort a_ruleArray a_ruleWeight a_ruleLow a_ruleHigh a_chosen a_bestOf i_marks a_markElements a_markBits a_markPins] H locs := hZ
  refine lv_aload_n hx hb dX8_fine_0 rfl (lv_at hl 0 rfl) ?_
  refine lv_iconst (v := 0) hx hb dX8_fine_1 (by decide) ?_
  refine zz_put hC hZ 0 rfl zu_X8_99 (Nat.le_of_ble_eq_true rfl) dX8_fine_2 (fun H locs hZ => ?_)
  have hZ : zz_Z g A s.heap [cw_k7 h0 i_arrays i_elements a_kindOf a_depthOf a_lengthOf a_classOf a_baseOf a_bits a_pinned 0 a_lengths a_stackArray a_stackOther a_stackAt i_lastArray i_lastPlace a_path a_held a_alike a_hashes i_decisions a_decisionArray a_decisionPlace a_candidateMany a_candidates i_rules a_ruleSort a_ruleArray a_ruleWeight a_ruleLow a_ruleHigh a_chosen a_bestOf i_marks a_markElements a_markBits a_markPins] H locs := hZ
  refine lv_iload_n hx hb dX8_fine_5 rfl (lv_at hl 1 rfl) ?_
  exact zz_iret hC hZ (⟨rfl, rfl⟩) (Nat.le_of_ble_eq_true rfl) (Nat.le_of_ble_eq_true rfl) dX8_fine_6
theorem dg_X8_isRoom_0 : (decode cX8_isRoom 0 = .ok (.aload_n 0, 1)) ∧ (decode cX8_isRoom 1 = .ok (.getfield 103, 3)) ∧ (decode cX8_isRoom 4 = .ok (.iload_n 1, 1)) ∧ (decode cX8_isRoom 5 = .ok (.iadd, 1)) ∧ (decode cX8_isRoom 6 = .ok (.bipush 60, 2)) ∧ (decode cX8_isRoom 8 = .ok (.if_icmp .gt 21, 3)) ∧ (decode cX8_isRoom 11 = .ok (.aload_n 0, 1)) ∧ (decode cX8_isRoom 12 = .ok (.getfield 186, 3)) ∧ (decode cX8_isRoom 15 = .ok (.i2l, 1)) ∧ (decode cX8_isRoom 16 = .ok (.lload_n 2, 1)) ∧ (decode cX8_isRoom 17 = .ok (.ladd, 1)) ∧ (decode cX8_isRoom 18 = .ok (.ldc2_w 189, 3)) ∧ (decode cX8_isRoom 21 = .ok (.lcmp, 1)) ∧ (decode cX8_isRoom 22 = .ok (.ifCond .gt 7, 3)) ∧ (decode cX8_isRoom 25 = .ok (.iconst 1, 1)) ∧ (decode cX8_isRoom 26 = .ok (.goto 4, 3)) := by decide +kernel
theorem dX8_isRoom_0 : decode cX8_isRoom 0 = .ok (.aload_n 0, 1) := dg_X8_isRoom_0.1
theorem dX8_isRoom_1 : decode cX8_isRoom 1 = .ok (.getfield 103, 3) := dg_X8_isRoom_0.2.1
theorem dX8_isRoom_4 : decode cX8_isRoom 4 = .ok (.iload_n 1, 1) := dg_X8_isRoom_0.2.2.1
theorem dX8_isRoom_5 : decode cX8_isRoom 5 = .ok (.iadd, 1) := dg_X8_isRoom_0.2.2.2.1
theorem dX8_isRoom_6 : decode cX8_isRoom 6 = .ok (.bipush 60, 2) := dg_X8_isRoom_0.2.2.2.2.1
theorem dX8_isRoom_8 : decode cX8_isRoom 8 = .ok (.if_icmp .gt 21, 3) := dg_X8_isRoom_0.2.2.2.2.2.1
theorem dX8_isRoom_11 : decode cX8_isRoom 11 = .ok (.aload_n 0, 1) := dg_X8_isRoom_0.2.2.2.2.2.2.1
theorem dX8_isRoom_12 : decode cX8_isRoom 12 = .ok (.getfield 186, 3) := dg_X8_isRoom_0.2.2.2.2.2.2.2.1
theorem dX8_isRoom_15 : decode cX8_isRoom 15 = .ok (.i2l, 1) := dg_X8_isRoom_0.2.2.2.2.2.2.2.2.1
theorem dX8_isRoom_16 : decode cX8_isRoom 16 = .ok (.lload_n 2, 1) := dg_X8_isRoom_0.2.2.2.2.2.2.2.2.2.1
theorem dX8_isRoom_17 : decode cX8_isRoom 17 = .ok (.ladd, 1) := dg_X8_isRoom_0.2.2.2.2.2.2.2.2.2.2.1
theorem dX8_isRoom_18 : decode cX8_isRoom 18 = .ok (.ldc2_w 189, 3) := dg_X8_isRoom_0.2.2.2.2.2.2.2.2.2.2.2.1
theorem dX8_isRoom_21 : decode cX8_isRoom 21 = .ok (.lcmp, 1) := dg_X8_isRoom_0.2.2.2.2.2.2.2.2.2.2.2.2.1
theorem dX8_isRoom_22 : decode cX8_isRoom 22 = .ok (.ifCond .gt 7, 3) := dg_X8_isRoom_0.2.2.2.2.2.2.2.2.2.2.2.2.2.1
theorem dX8_isRoom_25 : decode cX8_isRoom 25 = .ok (.iconst 1, 1) := dg_X8_isRoom_0.2.2.2.2.2.2.2.2.2.2.2.2.2.2.1
theorem dX8_isRoom_26 : decode cX8_isRoom 26 = .ok (.goto 4, 3) := dg_X8_isRoom_0.2.2.2.2.2.2.2.2.2.2.2.2.2.2.2
theorem dg_X8_isRoom_29 : (decode cX8_isRoom 29 = .ok (.iconst 0, 1)) ∧ (decode cX8_isRoom 30 = .ok (.ireturn, 1)) := by decide +kernel
theorem dX8_isRoom_29 : decode cX8_isRoom 29 = .ok (.iconst 0, 1) := dg_X8_isRoom_29.1
theorem dX8_isRoom_30 : decode cX8_isRoom 30 = .ok (.ireturn, 1) := dg_X8_isRoom_29.2
theorem zk_735 : Cond.fieldLink RX8 103 RX8 "arrays" "I" ∈ zz_w := zz_in (List.mem_append_right _ (List.mem_append_right _ (List.mem_append_right _ (List.mem_append_right _ (List.mem_append_left _ (List.mem_of_getElem? (i := 15) (by decide +kernel))))))) rfl
theorem zf_X8_103 : zz_f RX8 103 7 0 := ⟨RX8, TX8, 37, rfl, zi_X8, by decide, zk_735⟩
theorem zk_736 : Cond.fieldLink RX8 186 RX8 "elements" "I" ∈ zz_w := zz_in (List.mem_append_right _ (List.mem_append_right _ (List.mem_append_right _ (List.mem_append_right _ (List.mem_append_left _ (List.mem_of_getElem? (i := 16) (by decide +kernel))))))) rfl
theorem zf_X8_186 : zz_f RX8 186 7 1 := ⟨RX8, TX8, 37, rfl, zi_X8, by decide, zk_736⟩
theorem zk_878 : Cond.constantLong RX8 189 (4000) ∈ zz_w := zz_in (List.mem_append_right _ (List.mem_append_right _ (List.mem_append_right _ (List.mem_append_right _ (List.mem_append_left _ (List.mem_of_getElem? (i := 158) (by decide +kernel))))))) rfl
def fn_cm_isRoom (i_arrays : Int32) (i_elements : Int32) (k : Int32) (n : Int64) : Int32 := (if 60 < (i_arrays + k) then 0 else (if 4000 < (i_elements.toInt64 + n) then 0 else 1))
abbrev rm_cm_isRoom : Room := { frames := 0, cells := 0, slots := 0, locals := 0 }
abbrev po_cm_isRoom (g : zz_G) (h0 : Nat) (a_kindOf : Nat) (a_depthOf : Nat) (a_lengthOf : Nat) (a_classOf : Nat) (a_baseOf : Nat) (a_bits : Nat) (a_pinned : Nat) (a_lengths : Nat) (a_stackArray : Nat) (a_stackOther : Nat) (a_stackAt : Nat) (a_path : Nat) (a_held : Nat) (a_alike : Nat) (a_hashes : Nat) (a_decisionArray : Nat) (a_decisionPlace : Nat) (a_candidateMany : Nat) (a_candidates : Nat) (a_ruleSort : Nat) (a_ruleArray : Nat) (a_ruleWeight : Nat) (a_ruleLow : Nat) (a_ruleHigh : Nat) (a_chosen : Nat) (a_bestOf : Nat) (a_markElements : Nat) (a_markBits : Nat) (a_markPins : Nat) (i_arrays : Int32) (i_elements : Int32) (i_code : Int32) (i_lastArray : Int32) (i_lastPlace : Int32) (i_decisions : Int32) (i_rules : Int32) (i_marks : Int32) (k : Int32) (n : Int64) : Int32 → va_W → Prop := fun (r : Int32) (u : va_W) => r = fn_cm_isRoom i_arrays i_elements k n ∧ u = [cw_k7 h0 i_arrays i_elements a_kindOf a_depthOf a_lengthOf a_classOf a_baseOf a_bits a_pinned i_code a_lengths a_stackArray a_stackOther a_stackAt i_lastArray i_lastPlace a_path a_held a_alike a_hashes i_decisions a_decisionArray a_decisionPlace a_candidateMany a_candidates i_rules a_ruleSort a_ruleArray a_ruleWeight a_ruleLow a_ruleHigh a_chosen a_bestOf i_marks a_markElements a_markBits a_markPins]
set_option maxHeartbeats 4000000 in
set_option maxRecDepth 100000 in
theorem cm_isRoom (g : zz_G) (h0 : Nat) (a_kindOf : Nat) (a_depthOf : Nat) (a_lengthOf : Nat) (a_classOf : Nat) (a_baseOf : Nat) (a_bits : Nat) (a_pinned : Nat) (a_lengths : Nat) (a_stackArray : Nat) (a_stackOther : Nat) (a_stackAt : Nat) (a_path : Nat) (a_held : Nat) (a_alike : Nat) (a_hashes : Nat) (a_decisionArray : Nat) (a_decisionPlace : Nat) (a_candidateMany : Nat) (a_candidates : Nat) (a_ruleSort : Nat) (a_ruleArray : Nat) (a_ruleWeight : Nat) (a_ruleLow : Nat) (a_ruleHigh : Nat) (a_chosen : Nat) (a_bestOf : Nat) (a_markElements : Nat) (a_markBits : Nat) (a_markPins : Nat) (i_arrays : Int32) (i_elements : Int32) (i_code : Int32) (i_lastArray : Int32) (i_lastPlace : Int32) (i_decisions : Int32) (i_rules : Int32) (i_marks : Int32) (k : Int32) (n : Int64) : zz_I g yX8_isRoom (.code yX8_isRoom cX8_isRoom 4 (some .boolean)) rm_cm_isRoom [.ref h0, .int k, .long n] [cw_k7 h0 i_arrays i_elements a_kindOf a_depthOf a_lengthOf a_classOf a_baseOf a_bits a_pinned i_code a_lengths a_stackArray a_stackOther a_stackAt i_lastArray i_lastPlace a_path a_held a_alike a_hashes i_decisions a_decisionArray a_decisionPlace a_candidateMany a_candidates i_rules a_ruleSort a_ruleArray a_ruleWeight a_ruleLow a_ruleHigh a_chosen a_bestOf i_marks a_markElements a_markBits a_markPins] (po_cm_isRoom g h0 a_kindOf a_depthOf a_lengthOf a_classOf a_baseOf a_bits a_pinned a_lengths a_stackArray a_stackOther a_stackAt a_path a_held a_alike a_hashes a_decisionArray a_decisionPlace a_candidateMany a_candidates a_ruleSort a_ruleArray a_ruleWeight a_ruleLow a_ruleHigh a_chosen a_bestOf a_markElements a_markBits a_markPins i_arrays i_elements i_code i_lastArray i_lastPlace i_decisions i_rules i_marks k n) := by
  refine zz_I.intro (own := RX8) (cc := cX8_isRoom) (nL := 4) (by decide) rfl (Nat.le_of_ble_eq_true rfl) ?_
  intro p l e s m args below meth c A H locs ls hC hnm hs hZ hl
  obtain ⟨hx, hb, hml, hown, hts, hr, hlocks, hK⟩ := id hC
  have hl : lv_has ls 4 [(0, .ref h0), (1, .int k), (2, .long n)] := hl
  have hZ : zz_Z g A s.heap [cw_k7 h0 i_arrays i_elements a_kindOf a_depthOf a_lengthOf a_classOf a_baseOf a_bits a_pinned i_code a_lengths a_stackArray a_stackOther a_stackAt i_lastArray i_lastPlace a_path a_held a_alike a_hashes i_decisions a_decisionArray a_decisionPlace a_candidateMany a_candidates i_rules a_ruleSort a_ruleArray a_ruleWeight a_ruleLow a_ruleHigh a_chosen a_bestOf i_marks a_markElements a_markBits a_markPins] H locs := hZ
  refine lv_aload_n hx hb dX8_isRoom_0 rfl (lv_at hl 0 rfl) ?_
  refine zz_get hC hZ 0 rfl zf_X8_103 rfl dX8_isRoom_1 ?_
  refine lv_iload_n hx hb dX8_isRoom_4 rfl (lv_at hl 1 rfl) ?_
  refine lv_iadd hx hb dX8_isRoom_5 ?_
  refine lv_bipush (v := 60) hx hb dX8_isRoom_6 (by decide) ?_
  refine lv_icmp_gt (tgt := 29) hx hb dX8_isRoom_8 (by decide) (fun c1 => ?_) (fun c1 => ?_)
  · refine lv_iconst (v := 0) hx hb dX8_isRoom_29 (by decide) ?_
    exact zz_zret hC hZ (by decide) (⟨by show _ = _; rw [fn_cm_isRoom, if_pos c1], rfl⟩) (Nat.le_of_ble_eq_true rfl) (Nat.le_of_ble_eq_true rfl) dX8_isRoom_30
  · refine lv_aload_n hx hb dX8_isRoom_11 rfl (lv_at hl 0 rfl) ?_
    refine zz_get hC hZ 0 rfl zf_X8_186 rfl dX8_isRoom_12 ?_
    refine lv_i2l hx hb dX8_isRoom_15 rfl ?_
    refine lv_lload_n hx hb dX8_isRoom_16 rfl (lv_at hl 2 rfl) ?_
    refine lv_ladd hx hb dX8_isRoom_17 ?_
    refine lv_ldc2 hx hb hown (hts _ zk_878) dX8_isRoom_18 ?_
    refine zz_lcmp_gt (tgt := 29) hC dX8_isRoom_21 dX8_isRoom_22 (by decide) (fun c2 => ?_) (fun c2 => ?_)
    · refine lv_iconst (v := 0) hx hb dX8_isRoom_29 (by decide) ?_
      exact zz_zret hC hZ (by decide) (⟨by show _ = _; rw [fn_cm_isRoom, if_neg c1, if_pos c2], rfl⟩) (Nat.le_of_ble_eq_true rfl) (Nat.le_of_ble_eq_true rfl) dX8_isRoom_30
    · refine lv_iconst (v := 1) hx hb dX8_isRoom_25 (by decide) ?_
      refine lv_goto (tgt := 30) hx hb dX8_isRoom_26 (by decide) ?_
      exact zz_zret hC hZ (by decide) (⟨by show _ = _; rw [fn_cm_isRoom, if_neg c1, if_neg c2], rfl⟩) (Nat.le_of_ble_eq_true rfl) (Nat.le_of_ble_eq_true rfl) dX8_isRoom_30
theorem dg_X8_isArray_0 : (decode cX8_isArray 0 = .ok (.iload_n 1, 1)) ∧ (decode cX8_isArray 1 = .ok (.i2l, 1)) ∧ (decode cX8_isArray 2 = .ok (.lconst 0, 1)) ∧ (decode cX8_isArray 3 = .ok (.aload_n 0, 1)) ∧ (decode cX8_isArray 4 = .ok (.getfield 103, 3)) ∧ (decode cX8_isArray 7 = .ok (.iconst 1, 1)) ∧ (decode cX8_isArray 8 = .ok (.isub, 1)) ∧ (decode cX8_isArray 9 = .ok (.i2l, 1)) ∧ (decode cX8_isArray 10 = .ok (.invokestatic 106, 3)) ∧ (decode cX8_isArray 13 = .ok (.ireturn, 1)) := by decide +kernel
theorem dX8_isArray_0 : decode cX8_isArray 0 = .ok (.iload_n 1, 1) := dg_X8_isArray_0.1
theorem dX8_isArray_1 : decode cX8_isArray 1 = .ok (.i2l, 1) := dg_X8_isArray_0.2.1
theorem dX8_isArray_2 : decode cX8_isArray 2 = .ok (.lconst 0, 1) := dg_X8_isArray_0.2.2.1
theorem dX8_isArray_3 : decode cX8_isArray 3 = .ok (.aload_n 0, 1) := dg_X8_isArray_0.2.2.2.1
theorem dX8_isArray_4 : decode cX8_isArray 4 = .ok (.getfield 103, 3) := dg_X8_isArray_0.2.2.2.2.1
theorem dX8_isArray_7 : decode cX8_isArray 7 = .ok (.iconst 1, 1) := dg_X8_isArray_0.2.2.2.2.2.1
theorem dX8_isArray_8 : decode cX8_isArray 8 = .ok (.isub, 1) := dg_X8_isArray_0.2.2.2.2.2.2.1
theorem dX8_isArray_9 : decode cX8_isArray 9 = .ok (.i2l, 1) := dg_X8_isArray_0.2.2.2.2.2.2.2.1
theorem dX8_isArray_10 : decode cX8_isArray 10 = .ok (.invokestatic 106, 3) := dg_X8_isArray_0.2.2.2.2.2.2.2.2.1
theorem dX8_isArray_13 : decode cX8_isArray 13 = .ok (.ireturn, 1) := dg_X8_isArray_0.2.2.2.2.2.2.2.2.2
def fn_cm_isArray (i_arrays : Int32) (k : Int32) : Int32 := (fn_cm_within k.toInt64 0 ((i_arrays - 1).toInt64))
abbrev rm_cm_isArray : Room := { frames := 1, cells := 0, slots := 0, locals := 25 }
abbrev po_cm_isArray (g : zz_G) (h0 : Nat) (a_kindOf : Nat) (a_depthOf : Nat) (a_lengthOf : Nat) (a_classOf : Nat) (a_baseOf : Nat) (a_bits : Nat) (a_pinned : Nat) (a_lengths : Nat) (a_stackArray : Nat) (a_stackOther : Nat) (a_stackAt : Nat) (a_path : Nat) (a_held : Nat) (a_alike : Nat) (a_hashes : Nat) (a_decisionArray : Nat) (a_decisionPlace : Nat) (a_candidateMany : Nat) (a_candidates : Nat) (a_ruleSort : Nat) (a_ruleArray : Nat) (a_ruleWeight : Nat) (a_ruleLow : Nat) (a_ruleHigh : Nat) (a_chosen : Nat) (a_bestOf : Nat) (a_markElements : Nat) (a_markBits : Nat) (a_markPins : Nat) (i_arrays : Int32) (i_elements : Int32) (i_code : Int32) (i_lastArray : Int32) (i_lastPlace : Int32) (i_decisions : Int32) (i_rules : Int32) (i_marks : Int32) (k : Int32) : Int32 → va_W → Prop := fun (r : Int32) (u : va_W) => r = fn_cm_isArray i_arrays k ∧ u = [cw_k7 h0 i_arrays i_elements a_kindOf a_depthOf a_lengthOf a_classOf a_baseOf a_bits a_pinned i_code a_lengths a_stackArray a_stackOther a_stackAt i_lastArray i_lastPlace a_path a_held a_alike a_hashes i_decisions a_decisionArray a_decisionPlace a_candidateMany a_candidates i_rules a_ruleSort a_ruleArray a_ruleWeight a_ruleLow a_ruleHigh a_chosen a_bestOf i_marks a_markElements a_markBits a_markPins]
set_option maxHeartbeats 4000000 in
set_option maxRecDepth 100000 in
theorem cm_isArray (g : zz_G) (h0 : Nat) (a_kindOf : Nat) (a_depthOf : Nat) (a_lengthOf : Nat) (a_classOf : Nat) (a_baseOf : Nat) (a_bits : Nat) (a_pinned : Nat) (a_lengths : Nat) (a_stackArray : Nat) (a_stackOther : Nat) (a_stackAt : Nat) (a_path : Nat) (a_held : Nat) (a_alike : Nat) (a_hashes : Nat) (a_decisionArray : Nat) (a_decisionPlace : Nat) (a_candidateMany : Nat) (a_candidates : Nat) (a_ruleSort : Nat) (a_ruleArray : Nat) (a_ruleWeight : Nat) (a_ruleLow : Nat) (a_ruleHigh : Nat) (a_chosen : Nat) (a_bestOf : Nat) (a_markElements : Nat) (a_markBits : Nat) (a_markPins : Nat) (i_arrays : Int32) (i_elements : Int32) (i_code : Int32) (i_lastArray : Int32) (i_lastPlace : Int32) (i_decisions : Int32) (i_rules : Int32) (i_marks : Int32) (k : Int32) : zz_I g yX8_isArray (.code yX8_isArray cX8_isArray 2 (some .boolean)) rm_cm_isArray [.ref h0, .int k] [cw_k7 h0 i_arrays i_elements a_kindOf a_depthOf a_lengthOf a_classOf a_baseOf a_bits a_pinned i_code a_lengths a_stackArray a_stackOther a_stackAt i_lastArray i_lastPlace a_path a_held a_alike a_hashes i_decisions a_decisionArray a_decisionPlace a_candidateMany a_candidates i_rules a_ruleSort a_ruleArray a_ruleWeight a_ruleLow a_ruleHigh a_chosen a_bestOf i_marks a_markElements a_markBits a_markPins] (po_cm_isArray g h0 a_kindOf a_depthOf a_lengthOf a_classOf a_baseOf a_bits a_pinned a_lengths a_stackArray a_stackOther a_stackAt a_path a_held a_alike a_hashes a_decisionArray a_decisionPlace a_candidateMany a_candidates a_ruleSort a_ruleArray a_ruleWeight a_ruleLow a_ruleHigh a_chosen a_bestOf a_markElements a_markBits a_markPins i_arrays i_elements i_code i_lastArray i_lastPlace i_decisions i_rules i_marks k) := by
  refine zz_I.intro (own := RX8) (cc := cX8_isArray) (nL := 2) (by decide) rfl (Nat.le_of_ble_eq_true rfl) ?_
  intro p l e s m args below meth c A H locs ls hC hnm hs hZ hl
  obtain ⟨hx, hb, hml, hown, hts, hr, hlocks, hK⟩ := id hC
  have hl : lv_has ls 2 [(0, .ref h0), (1, .int k)] := hl
  have hZ : zz_Z g A s.heap [cw_k7 h0 i_arrays i_elements a_kindOf a_depthOf a_lengthOf a_classOf a_baseOf a_bits a_pinned i_code a_lengths a_stackArray a_stackOther a_stackAt i_lastArray i_lastPlace a_path a_held a_alike a_hashes i_decisions a_decisionArray a_decisionPlace a_candidateMany a_candidates i_rules a_ruleSort a_ruleArray a_ruleWeight a_ruleLow a_ruleHigh a_chosen a_bestOf i_marks a_markElements a_markBits a_markPins] H locs := hZ
  refine lv_iload_n hx hb dX8_isArray_0 rfl (lv_at hl 1 rfl) ?_
  refine lv_i2l hx hb dX8_isArray_1 rfl ?_
  refine lv_lconst (v := 0) hx hb dX8_isArray_2 (by decide) ?_
  refine lv_aload_n hx hb dX8_isArray_3 rfl (lv_at hl 0 rfl) ?_
  refine zz_get hC hZ 0 rfl zf_X8_103 rfl dX8_isArray_4 ?_
  refine lv_iconst (v := 1) hx hb dX8_isArray_7 (by decide) ?_
  refine lv_isub hx hb dX8_isArray_8 ?_
  refine lv_i2l hx hb dX8_isArray_9 rfl ?_
  refine zz_iS (As := [.long k.toInt64, .long 0, .long ((i_arrays - 1).toInt64)]) (wc := []) (wr := [cw_k7 h0 i_arrays i_elements a_kindOf a_depthOf a_lengthOf a_classOf a_baseOf a_bits a_pinned i_code a_lengths a_stackArray a_stackOther a_stackAt i_lastArray i_lastPlace a_path a_held a_alike a_hashes i_decisions a_decisionArray a_decisionPlace a_candidateMany a_candidates i_rules a_ruleSort a_ruleArray a_ruleWeight a_ruleLow a_ruleHigh a_chosen a_bestOf i_marks a_markElements a_markBits a_markPins]) (rest := []) hC hZ hs hl zc_X8_106 (cm_within g k.toInt64 0 ((i_arrays - 1).toInt64)) [] [0] rfl rfl (by decide +kernel) rfl rfl (Nat.le_of_ble_eq_true rfl) ⟨⟨Nat.le_of_ble_eq_true rfl, Nat.le_of_ble_eq_true rfl⟩, Nat.le_of_ble_eq_true rfl, Nat.le_of_ble_eq_true rfl⟩ dX8_isArray_10 (fun r1 u2 H locs hp hZ => ?_)
  obtain ⟨rfl, rfl⟩ := hp
  have hZ : zz_Z g A s.heap [cw_k7 h0 i_arrays i_elements a_kindOf a_depthOf a_lengthOf a_classOf a_baseOf a_bits a_pinned i_code a_lengths a_stackArray a_stackOther a_stackAt i_lastArray i_lastPlace a_path a_held a_alike a_hashes i_decisions a_decisionArray a_decisionPlace a_candidateMany a_candidates i_rules a_ruleSort a_ruleArray a_ruleWeight a_ruleLow a_ruleHigh a_chosen a_bestOf i_marks a_markElements a_markBits a_markPins] H locs := hZ
  exact zz_zret hC hZ (zl_b01 (zl_within01 _ _ _)) (⟨rfl, rfl⟩) (Nat.le_of_ble_eq_true rfl) (Nat.le_of_ble_eq_true rfl) dX8_isArray_13
theorem dg_X8_isDecision_0 : (decode cX8_isDecision 0 = .ok (.iload_n 1, 1)) ∧ (decode cX8_isDecision 1 = .ok (.i2l, 1)) ∧ (decode cX8_isDecision 2 = .ok (.lconst 0, 1)) ∧ (decode cX8_isDecision 3 = .ok (.aload_n 0, 1)) ∧ (decode cX8_isDecision 4 = .ok (.getfield 248, 3)) ∧ (decode cX8_isDecision 7 = .ok (.iconst 1, 1)) ∧ (decode cX8_isDecision 8 = .ok (.isub, 1)) ∧ (decode cX8_isDecision 9 = .ok (.i2l, 1)) ∧ (decode cX8_isDecision 10 = .ok (.invokestatic 106, 3)) ∧ (decode cX8_isDecision 13 = .ok (.ireturn, 1)) := by decide +kernel
theorem dX8_isDecision_0 : decode cX8_isDecision 0 = .ok (.iload_n 1, 1) := dg_X8_isDecision_0.1
theorem dX8_isDecision_1 : decode cX8_isDecision 1 = .ok (.i2l, 1) := dg_X8_isDecision_0.2.1
theorem dX8_isDecision_2 : decode cX8_isDecision 2 = .ok (.lconst 0, 1) := dg_X8_isDecision_0.2.2.1
theorem dX8_isDecision_3 : decode cX8_isDecision 3 = .ok (.aload_n 0, 1) := dg_X8_isDecision_0.2.2.2.1
theorem dX8_isDecision_4 : decode cX8_isDecision 4 = .ok (.getfield 248, 3) := dg_X8_isDecision_0.2.2.2.2.1
theorem dX8_isDecision_7 : decode cX8_isDecision 7 = .ok (.iconst 1, 1) := dg_X8_isDecision_0.2.2.2.2.2.1
theorem dX8_isDecision_8 : decode cX8_isDecision 8 = .ok (.isub, 1) := dg_X8_isDecision_0.2.2.2.2.2.2.1
theorem dX8_isDecision_9 : decode cX8_isDecision 9 = .ok (.i2l, 1) := dg_X8_isDecision_0.2.2.2.2.2.2.2.1
theorem dX8_isDecision_10 : decode cX8_isDecision 10 = .ok (.invokestatic 106, 3) := dg_X8_isDecision_0.2.2.2.2.2.2.2.2.1
theorem dX8_isDecision_13 : decode cX8_isDecision 13 = .ok (.ireturn, 1) := dg_X8_isDecision_0.2.2.2.2.2.2.2.2.2
theorem zk_755 : Cond.fieldLink RX8 248 RX8 "decisions" "I" ∈ zz_w := zz_in (List.mem_append_right _ (List.mem_append_right _ (List.mem_append_right _ (List.mem_append_right _ (List.mem_append_left _ (List.mem_of_getElem? (i := 35) (by decide +kernel))))))) rfl
theorem zf_X8_248 : zz_f RX8 248 7 20 := ⟨RX8, TX8, 37, rfl, zi_X8, by decide, zk_755⟩
def fn_cm_isDecision (i_decisions : Int32) (k : Int32) : Int32 := (fn_cm_within k.toInt64 0 ((i_decisions - 1).toInt64))
abbrev rm_cm_isDecision : Room := { frames := 1, cells := 0, slots := 0, locals := 25 }
abbrev po_cm_isDecision (g : zz_G) (h0 : Nat) (a_kindOf : Nat) (a_depthOf : Nat) (a_lengthOf : Nat) (a_classOf : Nat) (a_baseOf : Nat) (a_bits : Nat) (a_pinned : Nat) (a_lengths : Nat) (a_stackArray : Nat) (a_stackOther : Nat) (a_stackAt : Nat) (a_path : Nat) (a_held : Nat) (a_alike : Nat) (a_hashes : Nat) (a_decisionArray : Nat) (a_decisionPlace : Nat) (a_candidateMany : Nat) (a_candidates : Nat) (a_ruleSort : Nat) (a_ruleArray : Nat) (a_ruleWeight : Nat) (a_ruleLow : Nat) (a_ruleHigh : Nat) (a_chosen : Nat) (a_bestOf : Nat) (a_markElements : Nat) (a_markBits : Nat) (a_markPins : Nat) (i_arrays : Int32) (i_elements : Int32) (i_code : Int32) (i_lastArray : Int32) (i_lastPlace : Int32) (i_decisions : Int32) (i_rules : Int32) (i_marks : Int32) (k : Int32) : Int32 → va_W → Prop := fun (r : Int32) (u : va_W) => r = fn_cm_isDecision i_decisions k ∧ u = [cw_k7 h0 i_arrays i_elements a_kindOf a_depthOf a_lengthOf a_classOf a_baseOf a_bits a_pinned i_code a_lengths a_stackArray a_stackOther a_stackAt i_lastArray i_lastPlace a_path a_held a_alike a_hashes i_decisions a_decisionArray a_decisionPlace a_candidateMany a_candidates i_rules a_ruleSort a_ruleArray a_ruleWeight a_ruleLow a_ruleHigh a_chosen a_bestOf i_marks a_markElements a_markBits a_markPins]
set_option maxHeartbeats 4000000 in
set_option maxRecDepth 100000 in
theorem cm_isDecision (g : zz_G) (h0 : Nat) (a_kindOf : Nat) (a_depthOf : Nat) (a_lengthOf : Nat) (a_classOf : Nat) (a_baseOf : Nat) (a_bits : Nat) (a_pinned : Nat) (a_lengths : Nat) (a_stackArray : Nat) (a_stackOther : Nat) (a_stackAt : Nat) (a_path : Nat) (a_held : Nat) (a_alike : Nat) (a_hashes : Nat) (a_decisionArray : Nat) (a_decisionPlace : Nat) (a_candidateMany : Nat) (a_candidates : Nat) (a_ruleSort : Nat) (a_ruleArray : Nat) (a_ruleWeight : Nat) (a_ruleLow : Nat) (a_ruleHigh : Nat) (a_chosen : Nat) (a_bestOf : Nat) (a_markElements : Nat) (a_markBits : Nat) (a_markPins : Nat) (i_arrays : Int32) (i_elements : Int32) (i_code : Int32) (i_lastArray : Int32) (i_lastPlace : Int32) (i_decisions : Int32) (i_rules : Int32) (i_marks : Int32) (k : Int32) : zz_I g yX8_isDecision (.code yX8_isDecision cX8_isDecision 2 (some .boolean)) rm_cm_isDecision [.ref h0, .int k] [cw_k7 h0 i_arrays i_elements a_kindOf a_depthOf a_lengthOf a_classOf a_baseOf a_bits a_pinned i_code a_lengths a_stackArray a_stackOther a_stackAt i_lastArray i_lastPlace a_path a_held a_alike a_hashes i_decisions a_decisionArray a_decisionPlace a_candidateMany a_candidates i_rules a_ruleSort a_ruleArray a_ruleWeight a_ruleLow a_ruleHigh a_chosen a_bestOf i_marks a_markElements a_markBits a_markPins] (po_cm_isDecision g h0 a_kindOf a_depthOf a_lengthOf a_classOf a_baseOf a_bits a_pinned a_lengths a_stackArray a_stackOther a_stackAt a_path a_held a_alike a_hashes a_decisionArray a_decisionPlace a_candidateMany a_candidates a_ruleSort a_ruleArray a_ruleWeight a_ruleLow a_ruleHigh a_chosen a_bestOf a_markElements a_markBits a_markPins i_arrays i_elements i_code i_lastArray i_lastPlace i_decisions i_rules i_marks k) := by
  refine zz_I.intro (own := RX8) (cc := cX8_isDecision) (nL := 2) (by decide) rfl (Nat.le_of_ble_eq_true rfl) ?_
  intro p l e s m args below meth c A H locs ls hC hnm hs hZ hl
  obtain ⟨hx, hb, hml, hown, hts, hr, hlocks, hK⟩ := id hC
  have hl : lv_has ls 2 [(0, .ref h0), (1, .int k)] := hl
  have hZ : zz_Z g A s.heap [cw_k7 h0 i_arrays i_elements a_kindOf a_depthOf a_lengthOf a_classOf a_baseOf a_bits a_pinned i_code a_lengths a_stackArray a_stackOther a_stackAt i_lastArray i_lastPlace a_path a_held a_alike a_hashes i_decisions a_decisionArray a_decisionPlace a_candidateMany a_candidates i_rules a_ruleSort a_ruleArray a_ruleWeight a_ruleLow a_ruleHigh a_chosen a_bestOf i_marks a_markElements a_markBits a_markPins] H locs := hZ
  refine lv_iload_n hx hb dX8_isDecision_0 rfl (lv_at hl 1 rfl) ?_
  refine lv_i2l hx hb dX8_isDecision_1 rfl ?_
  refine lv_lconst (v := 0) hx hb dX8_isDecision_2 (by decide) ?_
  refine lv_aload_n hx hb dX8_isDecision_3 rfl (lv_at hl 0 rfl) ?_
  refine zz_get hC hZ 0 rfl zf_X8_248 rfl dX8_isDecision_4 ?_
  refine lv_iconst (v := 1) hx hb dX8_isDecision_7 (by decide) ?_
  refine lv_isub hx hb dX8_isDecision_8 ?_
  refine lv_i2l hx hb dX8_isDecision_9 rfl ?_
  refine zz_iS (As := [.long k.toInt64, .long 0, .long ((i_decisions - 1).toInt64)]) (wc := []) (wr := [cw_k7 h0 i_arrays i_elements a_kindOf a_depthOf a_lengthOf a_classOf a_baseOf a_bits a_pinned i_code a_lengths a_stackArray a_stackOther a_stackAt i_lastArray i_lastPlace a_path a_held a_alike a_hashes i_decisions a_decisionArray a_decisionPlace a_candidateMany a_candidates i_rules a_ruleSort a_ruleArray a_ruleWeight a_ruleLow a_ruleHigh a_chosen a_bestOf i_marks a_markElements a_markBits a_markPins]) (rest := []) hC hZ hs hl zc_X8_106 (cm_within g k.toInt64 0 ((i_decisions - 1).toInt64)) [] [0] rfl rfl (by decide +kernel) rfl rfl (Nat.le_of_ble_eq_true rfl) ⟨⟨Nat.le_of_ble_eq_true rfl, Nat.le_of_ble_eq_true rfl⟩, Nat.le_of_ble_eq_true rfl, Nat.le_of_ble_eq_true rfl⟩ dX8_isDecision_10 (fun r1 u2 H locs hp hZ => ?_)
  obtain ⟨rfl, rfl⟩ := hp
  have hZ : zz_Z g A s.heap [cw_k7 h0 i_arrays i_elements a_kindOf a_depthOf a_lengthOf a_classOf a_baseOf a_bits a_pinned i_code a_lengths a_stackArray a_stackOther a_stackAt i_lastArray i_lastPlace a_path a_held a_alike a_hashes i_decisions a_decisionArray a_decisionPlace a_candidateMany a_candidates i_rules a_ruleSort a_ruleArray a_ruleWeight a_ruleLow a_ruleHigh a_chosen a_bestOf i_marks a_markElements a_markBits a_markPins] H locs := hZ
  exact zz_zret hC hZ (zl_b01 (zl_within01 _ _ _)) (⟨rfl, rfl⟩) (Nat.le_of_ble_eq_true rfl) (Nat.le_of_ble_eq_true rfl) dX8_isDecision_13
