theorem zl_ge0 {k : Int32} (h : 0 ≤ k) : ¬ k < 0 := by
  rw [Int32.lt_iff_toInt_lt]; rw [Int32.le_iff_toInt_le] at h; omega
theorem zl_200 {x : Int32} (h : 0 ≤ x) (h2 : ¬ 200 < x) : ∃ j : Nat, j ≤ 200 ∧ x = nI j := by
  refine nI_of2 (M := 200) (by decide) (zl_ge0 h) ?_
  rw [Int32.lt_iff_toInt_lt] at h2; rw [Int32.le_iff_toInt_le]; omega
theorem zl_range {lnf : Nat → Int32} {a lz : Nat} {k j : Int32} (el : lnf a = nI lz) (hz : lz ≤ 200) (h : ¬ fn_co_hasRange lnf a k j = 0) : ∃ f t : Nat, k = nI f ∧ j = nI t ∧ f ≤ t ∧ t ≤ lz := by
  unfold fn_co_hasRange at h
  rw [el] at h
  have h1 : ¬ k < 0 := fun q => h (by rw [if_pos q])
  have h2 : ¬ j < k := fun q => h (by rw [if_neg h1, if_pos q])
  have h3 : ¬ nI lz < j := fun q => h (by rw [if_neg h1, if_neg h2, if_pos q])
  obtain ⟨f, hf, rfl⟩ := nI_of h1
  have h4 : ¬ j < 0 := fun q => h2 (by
    have := nI_toInt hf
    have e0 : (0 : Int32).toInt = 0 := by decide
    rw [Int32.lt_iff_toInt_lt] at q ⊢
    omega)
  obtain ⟨t, ht, rfl⟩ := nI_of h4
  exact ⟨f, t, rfl, rfl, Nat.not_lt.mp fun q => h2 ((nI_ltI ht hf).mpr q), Nat.not_lt.mp fun q => h3 ((nI_ltI (by omega) ht).mpr q)⟩
theorem zl_many2 {lnf : Nat → Int32} {a lz n : Nat} {k : Int32} (el : lnf a = nI lz) (hz : lz ≤ 200) (hn : n ≤ 200) (h : ¬ fn_co_hasMany lnf a k (nI n) = 0) : ∃ i : Nat, k = nI i ∧ i + n ≤ lz := by
  unfold fn_co_hasMany at h
  rw [el] at h
  have h1 : ¬ k < 0 := fun q => h (by rw [if_pos q])
  have h2 : ¬ nI lz < k := fun q => h (by rw [if_neg h1, if_pos q])
  have h3 : ¬ nI lz - k < nI n := fun q => h (by rw [if_neg h1, if_neg h2, if_pos q])
  obtain ⟨i, hi, rfl⟩ := nI_of h1
  have h4 : i ≤ lz := Nat.not_lt.mp fun q => h2 ((nI_ltI (by omega) hi).mpr q)
  rw [pk_sub h4] at h3
  have h5 : n ≤ lz - i := Nat.not_lt.mp fun q => h3 ((nI_ltI (by omega) (by omega)).mpr q)
  exact ⟨i, rfl, by omega⟩
theorem zl_many {lnf : Nat → Int32} {a lz : Nat} {k j : Int32} (el : lnf a = nI lz) (hz : lz ≤ 200) (hj : 0 ≤ j) (h : ¬ fn_co_hasMany lnf a k j = 0) : ∃ i n : Nat, k = nI i ∧ j = nI n ∧ i + n ≤ lz := by
  obtain ⟨n, hn, rfl⟩ := nI_of (zl_ge0 hj)
  have h' := h
  unfold fn_co_hasMany at h
  rw [el] at h
  have h1 : ¬ k < 0 := fun q => h (by rw [if_pos q])
  have h2 : ¬ nI lz < k := fun q => h (by rw [if_neg h1, if_pos q])
  have h3 : ¬ nI lz - k < nI n := fun q => h (by rw [if_neg h1, if_neg h2, if_pos q])
  obtain ⟨i, hi, rfl⟩ := nI_of h1
  have h4 : i ≤ lz := Nat.not_lt.mp fun q => h2 ((nI_ltI (by omega) hi).mpr q)
  rw [pk_sub h4] at h3
  have h5 : n ≤ lz - i := Nat.not_lt.mp fun q => h3 ((nI_ltI (by omega) hn).mpr q)
  exact ⟨i, n, rfl, rfl, by omega⟩
theorem zl_WR {na : Nat} {dpf lnf : Nat → Int32} {r : Int32} (h : zz_WR na dpf lnf r) (hr : ¬ r < 0) : ∃ b q lz : Nat, r = nI (1000 * b + q) ∧ b < na ∧ lnf b = nI lz ∧ q < lz ∧ lz ≤ 200 ∧ dpf b = 1 := by
  rcases h with rfl | rfl | h
  · exact absurd (by decide) hr
  · exact absurd (by decide) hr
  · exact h
theorem zl_rng {x : Int32} {n : Nat} (hn : n ≤ 4000) (h1 : ¬ x < 0) (h2 : ¬ nI n ≤ x) : ∃ q, q < n ∧ x = nI q := by
  rcases pk_ix x (n := n) (by omega) with q | q | q
  · exact absurd q h1
  · exact absurd q h2
  · exact q
theorem zl_min {a b : Nat} (ha : a < 2 ^ 31) (hb : b < 2 ^ 31) : (if nI a < nI b then nI a else nI b) = nI (min a b) := by
  by_cases h : a < b
  · rw [if_pos ((nI_ltI ha hb).mpr h), Nat.min_eq_left (by omega)]
  · rw [if_neg (fun q => h ((nI_ltI ha hb).mp q)), Nat.min_eq_right (by omega)]
theorem dg_X7_fail_0 : (decode cX7_fail 0 = .ok (.aload_n 0, 1)) ∧ (decode cX7_fail 1 = .ok (.iload_n 1, 1)) ∧ (decode cX7_fail 2 = .ok (.putfield 56, 3)) ∧ (decode cX7_fail 5 = .ok (.iload_n 1, 1)) ∧ (decode cX7_fail 6 = .ok (.ineg, 1)) ∧ (decode cX7_fail 7 = .ok (.ireturn, 1)) := by decide +kernel
theorem dX7_fail_0 : decode cX7_fail 0 = .ok (.aload_n 0, 1) := dg_X7_fail_0.1
theorem dX7_fail_1 : decode cX7_fail 1 = .ok (.iload_n 1, 1) := dg_X7_fail_0.2.1
theorem dX7_fail_2 : decode cX7_fail 2 = .ok (.putfield 56, 3) := dg_X7_fail_0.2.2.1
theorem dX7_fail_5 : decode cX7_fail 5 = .ok (.iload_n 1, 1) := dg_X7_fail_0.2.2.2.1
theorem dX7_fail_6 : decode cX7_fail 6 = .ok (.ineg, 1) := dg_X7_fail_0.2.2.2.2.1
theorem dX7_fail_7 : decode cX7_fail 7 = .ok (.ireturn, 1) := dg_X7_fail_0.2.2.2.2.2
abbrev rm_co_fail : Room := { frames := 0, cells := 0, slots := 0, locals := 0 }
abbrev po_co_fail (g : zz_G) (h0 : Nat) (st : Nat) (mk : Nat) (lk : Nat) (ch : Nat) (ru : Nat) (mr : Nat) (md : Int32) (la : Int32) (k : Int32) : Int32 → va_W → Prop := fun (r : Int32) (u : va_W) => r = -k ∧ u = [cw_k6 h0 st mk lk ch ru mr md k]
set_option maxHeartbeats 4000000 in
set_option maxRecDepth 100000 in
theorem co_fail (g : zz_G) (h0 : Nat) (st : Nat) (mk : Nat) (lk : Nat) (ch : Nat) (ru : Nat) (mr : Nat) (md : Int32) (la : Int32) (k : Int32) : zz_I g yX7_fail (.code yX7_fail cX7_fail 2 (some .int)) rm_co_fail [.ref h0, .int k] [cw_k6 h0 st mk lk ch ru mr md la] (po_co_fail g h0 st mk lk ch ru mr md la k) := by
  refine zz_I.intro (own := RX7) (cc := cX7_fail) (nL := 2) (by decide) rfl (Nat.le_of_ble_eq_true rfl) ?_
  intro p l e s m args below meth c A H locs ls hC hnm hs hZ hl
  obtain ⟨hx, hb, hml, hown, hts, hr, hlocks, hK⟩ := id hC
  have hl : lv_has ls 2 [(0, .ref h0), (1, .int k)] := hl
  have hZ : zz_Z g A s.heap [cw_k6 h0 st mk lk ch ru mr md la] H locs := hZ
  refine lv_aload_n hx hb dX7_fail_0 rfl (lv_at hl 0 rfl) ?_
  refine lv_iload_n hx hb dX7_fail_1 rfl (lv_at hl 1 rfl) ?_
  refine zz_put hC hZ 0 rfl zu_X7_56 (Nat.le_of_ble_eq_true rfl) dX7_fail_2 (fun H locs hZ => ?_)
  have hZ : zz_Z g A s.heap [cw_k6 h0 st mk lk ch ru mr md k] H locs := hZ
  refine lv_iload_n hx hb dX7_fail_5 rfl (lv_at hl 1 rfl) ?_
  refine lv_ineg hx hb dX7_fail_6 ?_
  exact zz_iret hC hZ (⟨rfl, rfl⟩) (Nat.le_of_ble_eq_true rfl) (Nat.le_of_ble_eq_true rfl) dX7_fail_7
theorem dg_X7_fine_0 : (decode cX7_fine 0 = .ok (.aload_n 0, 1)) ∧ (decode cX7_fine 1 = .ok (.iconst 0, 1)) ∧ (decode cX7_fine 2 = .ok (.putfield 56, 3)) ∧ (decode cX7_fine 5 = .ok (.iload_n 1, 1)) ∧ (decode cX7_fine 6 = .ok (.ireturn, 1)) := by decide +kernel
theorem dX7_fine_0 : decode cX7_fine 0 = .ok (.aload_n 0, 1) := dg_X7_fine_0.1
theorem dX7_fine_1 : decode cX7_fine 1 = .ok (.iconst 0, 1) := dg_X7_fine_0.2.1
theorem dX7_fine_2 : decode cX7_fine 2 = .ok (.putfield 56, 3) := dg_X7_fine_0.2.2.1
theorem dX7_fine_5 : decode cX7_fine 5 = .ok (.iload_n 1, 1) := dg_X7_fine_0.2.2.2.1
theorem dX7_fine_6 : decode cX7_fine 6 = .ok (.ireturn, 1) := dg_X7_fine_0.2.2.2.2
abbrev rm_co_fine : Room := { frames := 0, cells := 0, slots := 0, locals := 0 }
abbrev po_co_fine (g : zz_G) (h0 : Nat) (st : Nat) (mk : Nat) (lk : Nat) (ch : Nat) (ru : Nat) (mr : Nat) (md : Int32) (la : Int32) (k : Int32) : Int32 → va_W → Prop := fun (r : Int32) (u : va_W) => r = k ∧ u = [cw_k6 h0 st mk lk ch ru mr md 0]
set_option maxHeartbeats 4000000 in
set_option maxRecDepth 100000 in
theorem co_fine (g : zz_G) (h0 : Nat) (st : Nat) (mk : Nat) (lk : Nat) (ch : Nat) (ru : Nat) (mr : Nat) (md : Int32) (la : Int32) (k : Int32) : zz_I g yX7_fine (.code yX7_fine cX7_fine 2 (some .int)) rm_co_fine [.ref h0, .int k] [cw_k6 h0 st mk lk ch ru mr md la] (po_co_fine g h0 st mk lk ch ru mr md la k) := by
  refine zz_I.intro (own := RX7) (cc := cX7_fine) (nL := 2) (by decide) rfl (Nat.le_of_ble_eq_true rfl) ?_
  intro p l e s m args below meth c A H locs ls hC hnm hs hZ hl
  obtain ⟨hx, hb, hml, hown, hts, hr, hlocks, hK⟩ := id hC
  have hl : lv_has ls 2 [(0, .ref h0), (1, .int k)] := hl
  have hZ : zz_Z g A s.heap [cw_k6 h0 st mk lk ch ru mr md la] H locs := hZ
  refine lv_aload_n hx hb dX7_fine_0 rfl (lv_at hl 0 rfl) ?_
  refine lv_iconst (v := 0) hx hb dX7_fine_1 (by decide) ?_
  refine zz_put hC hZ 0 rfl zu_X7_56 (Nat.le_of_ble_eq_true rfl) dX7_fine_2 (fun H locs hZ => ?_)
  have hZ : zz_Z g A s.heap [cw_k6 h0 st mk lk ch ru mr md 0] H locs := hZ
  refine lv_iload_n hx hb dX7_fine_5 rfl (lv_at hl 1 rfl) ?_
  exact zz_iret hC hZ (⟨rfl, rfl⟩) (Nat.le_of_ble_eq_true rfl) (Nat.le_of_ble_eq_true rfl) dX7_fine_6
theorem dg_X7_noBits_0 : (decode cX7_noBits 0 = .ok (.aload_n 0, 1)) ∧ (decode cX7_noBits 1 = .ok (.iload_n 1, 1)) ∧ (decode cX7_noBits 2 = .ok (.putfield 56, 3)) ∧ (decode cX7_noBits 5 = .ok (.lconst 0, 1)) ∧ (decode cX7_noBits 6 = .ok (.lreturn, 1)) := by decide +kernel
theorem dX7_noBits_0 : decode cX7_noBits 0 = .ok (.aload_n 0, 1) := dg_X7_noBits_0.1
theorem dX7_noBits_1 : decode cX7_noBits 1 = .ok (.iload_n 1, 1) := dg_X7_noBits_0.2.1
theorem dX7_noBits_2 : decode cX7_noBits 2 = .ok (.putfield 56, 3) := dg_X7_noBits_0.2.2.1
theorem dX7_noBits_5 : decode cX7_noBits 5 = .ok (.lconst 0, 1) := dg_X7_noBits_0.2.2.2.1
theorem dX7_noBits_6 : decode cX7_noBits 6 = .ok (.lreturn, 1) := dg_X7_noBits_0.2.2.2.2
abbrev rm_co_noBits : Room := { frames := 0, cells := 0, slots := 0, locals := 0 }
abbrev po_co_noBits (g : zz_G) (h0 : Nat) (st : Nat) (mk : Nat) (lk : Nat) (ch : Nat) (ru : Nat) (mr : Nat) (md : Int32) (la : Int32) (k : Int32) : Int64 → va_W → Prop := fun (r : Int64) (u : va_W) => r = 0 ∧ u = [cw_k6 h0 st mk lk ch ru mr md k]
set_option maxHeartbeats 4000000 in
set_option maxRecDepth 100000 in
theorem co_noBits (g : zz_G) (h0 : Nat) (st : Nat) (mk : Nat) (lk : Nat) (ch : Nat) (ru : Nat) (mr : Nat) (md : Int32) (la : Int32) (k : Int32) : zz_L g yX7_noBits (.code yX7_noBits cX7_noBits 2 (some .long)) rm_co_noBits [.ref h0, .int k] [cw_k6 h0 st mk lk ch ru mr md la] (po_co_noBits g h0 st mk lk ch ru mr md la k) := by
  refine zz_L.intro (own := RX7) (cc := cX7_noBits) (nL := 2) (by decide) rfl (Nat.le_of_ble_eq_true rfl) ?_
  intro p l e s m args below meth c A H locs ls hC hnm hs hZ hl
  obtain ⟨hx, hb, hml, hown, hts, hr, hlocks, hK⟩ := id hC
  have hl : lv_has ls 2 [(0, .ref h0), (1, .int k)] := hl
  have hZ : zz_Z g A s.heap [cw_k6 h0 st mk lk ch ru mr md la] H locs := hZ
  refine lv_aload_n hx hb dX7_noBits_0 rfl (lv_at hl 0 rfl) ?_
  refine lv_iload_n hx hb dX7_noBits_1 rfl (lv_at hl 1 rfl) ?_
  refine zz_put hC hZ 0 rfl zu_X7_56 (Nat.le_of_ble_eq_true rfl) dX7_noBits_2 (fun H locs hZ => ?_)
  have hZ : zz_Z g A s.heap [cw_k6 h0 st mk lk ch ru mr md k] H locs := hZ
  refine lv_lconst (v := 0) hx hb dX7_noBits_5 (by decide) ?_
  exact zz_lret hC hZ (⟨rfl, rfl⟩) (Nat.le_of_ble_eq_true rfl) (Nat.le_of_ble_eq_true rfl) dX7_noBits_6
theorem dg_X7_code_0 : (decode cX7_code 0 = .ok (.aload_n 0, 1)) ∧ (decode cX7_code 1 = .ok (.getfield 56, 3)) ∧ (decode cX7_code 4 = .ok (.ireturn, 1)) := by decide +kernel
theorem dX7_code_0 : decode cX7_code 0 = .ok (.aload_n 0, 1) := dg_X7_code_0.1
theorem dX7_code_1 : decode cX7_code 1 = .ok (.getfield 56, 3) := dg_X7_code_0.2.1
theorem dX7_code_4 : decode cX7_code 4 = .ok (.ireturn, 1) := dg_X7_code_0.2.2
theorem zf_X7_56 : zz_f RX7 56 6 7 := ⟨RX7, TX7, 8, rfl, zi_X7, by decide, zk_207⟩
abbrev rm_cx_code : Room := { frames := 0, cells := 0, slots := 0, locals := 0 }
abbrev po_cx_code (g : zz_G) (h0 : Nat) (st : Nat) (mk : Nat) (lk : Nat) (ch : Nat) (ru : Nat) (mr : Nat) (md : Int32) (la : Int32) : Int32 → va_W → Prop := fun (r : Int32) (u : va_W) => r = la ∧ u = [cw_k6 h0 st mk lk ch ru mr md la]
set_option maxHeartbeats 4000000 in
set_option maxRecDepth 100000 in
theorem cx_code (g : zz_G) (h0 : Nat) (st : Nat) (mk : Nat) (lk : Nat) (ch : Nat) (ru : Nat) (mr : Nat) (md : Int32) (la : Int32) : zz_I g yX7_code (.code yX7_code cX7_code 1 (some .int)) rm_cx_code [.ref h0] [cw_k6 h0 st mk lk ch ru mr md la] (po_cx_code g h0 st mk lk ch ru mr md la) := by
  refine zz_I.intro (own := RX7) (cc := cX7_code) (nL := 1) (by decide) rfl (Nat.le_of_ble_eq_true rfl) ?_
  intro p l e s m args below meth c A H locs ls hC hnm hs hZ hl
  obtain ⟨hx, hb, hml, hown, hts, hr, hlocks, hK⟩ := id hC
  have hl : lv_has ls 1 [(0, .ref h0)] := hl
  have hZ : zz_Z g A s.heap [cw_k6 h0 st mk lk ch ru mr md la] H locs := hZ
  refine lv_aload_n hx hb dX7_code_0 rfl (lv_at hl 0 rfl) ?_
  refine zz_get hC hZ 0 rfl zf_X7_56 rfl dX7_code_1 ?_
  exact zz_iret hC hZ (⟨rfl, rfl⟩) (Nat.le_of_ble_eq_true rfl) (Nat.le_of_ble_eq_true rfl) dX7_code_4
theorem dg_X7_widens_0 : (decode cX7_widens 0 = .ok (.iload_n 1, 1)) ∧ (decode cX7_widens 1 = .ok (.invokestatic 59, 3)) ∧ (decode cX7_widens 4 = .ok (.ifCond .eq 10, 3)) ∧ (decode cX7_widens 7 = .ok (.iload_n 2, 1)) ∧ (decode cX7_widens 8 = .ok (.invokestatic 59, 3)) ∧ (decode cX7_widens 11 = .ok (.ifCond .ne 10, 3)) ∧ (decode cX7_widens 14 = .ok (.aload_n 0, 1)) ∧ (decode cX7_widens 15 = .ok (.bipush 9, 2)) ∧ (decode cX7_widens 17 = .ok (.invokevirtual 65, 3)) ∧ (decode cX7_widens 20 = .ok (.ireturn, 1)) ∧ (decode cX7_widens 21 = .ok (.aload_n 0, 1)) ∧ (decode cX7_widens 22 = .ok (.iload_n 1, 1)) ∧ (decode cX7_widens 23 = .ok (.iload_n 2, 1)) ∧ (decode cX7_widens 24 = .ok (.invokestatic 138, 3)) ∧ (decode cX7_widens 27 = .ok (.ifCond .eq 7, 3)) ∧ (decode cX7_widens 30 = .ok (.iconst 1, 1)) := by decide +kernel
theorem dX7_widens_0 : decode cX7_widens 0 = .ok (.iload_n 1, 1) := dg_X7_widens_0.1
theorem dX7_widens_1 : decode cX7_widens 1 = .ok (.invokestatic 59, 3) := dg_X7_widens_0.2.1
theorem dX7_widens_4 : decode cX7_widens 4 = .ok (.ifCond .eq 10, 3) := dg_X7_widens_0.2.2.1
theorem dX7_widens_7 : decode cX7_widens 7 = .ok (.iload_n 2, 1) := dg_X7_widens_0.2.2.2.1
theorem dX7_widens_8 : decode cX7_widens 8 = .ok (.invokestatic 59, 3) := dg_X7_widens_0.2.2.2.2.1
theorem dX7_widens_11 : decode cX7_widens 11 = .ok (.ifCond .ne 10, 3) := dg_X7_widens_0.2.2.2.2.2.1
theorem dX7_widens_14 : decode cX7_widens 14 = .ok (.aload_n 0, 1) := dg_X7_widens_0.2.2.2.2.2.2.1
theorem dX7_widens_15 : decode cX7_widens 15 = .ok (.bipush 9, 2) := dg_X7_widens_0.2.2.2.2.2.2.2.1
theorem dX7_widens_17 : decode cX7_widens 17 = .ok (.invokevirtual 65, 3) := dg_X7_widens_0.2.2.2.2.2.2.2.2.1
theorem dX7_widens_20 : decode cX7_widens 20 = .ok (.ireturn, 1) := dg_X7_widens_0.2.2.2.2.2.2.2.2.2.1
theorem dX7_widens_21 : decode cX7_widens 21 = .ok (.aload_n 0, 1) := dg_X7_widens_0.2.2.2.2.2.2.2.2.2.2.1
theorem dX7_widens_22 : decode cX7_widens 22 = .ok (.iload_n 1, 1) := dg_X7_widens_0.2.2.2.2.2.2.2.2.2.2.2.1
theorem dX7_widens_23 : decode cX7_widens 23 = .ok (.iload_n 2, 1) := dg_X7_widens_0.2.2.2.2.2.2.2.2.2.2.2.2.1
theorem dX7_widens_24 : decode cX7_widens 24 = .ok (.invokestatic 138, 3) := dg_X7_widens_0.2.2.2.2.2.2.2.2.2.2.2.2.2.1
theorem dX7_widens_27 : decode cX7_widens 27 = .ok (.ifCond .eq 7, 3) := dg_X7_widens_0.2.2.2.2.2.2.2.2.2.2.2.2.2.2.1
theorem dX7_widens_30 : decode cX7_widens 30 = .ok (.iconst 1, 1) := dg_X7_widens_0.2.2.2.2.2.2.2.2.2.2.2.2.2.2.2
theorem dg_X7_widens_31 : (decode cX7_widens 31 = .ok (.goto 4, 3)) ∧ (decode cX7_widens 34 = .ok (.iconst 0, 1)) ∧ (decode cX7_widens 35 = .ok (.invokevirtual 100, 3)) ∧ (decode cX7_widens 38 = .ok (.ireturn, 1)) := by decide +kernel
theorem dX7_widens_31 : decode cX7_widens 31 = .ok (.goto 4, 3) := dg_X7_widens_31.1
theorem dX7_widens_34 : decode cX7_widens 34 = .ok (.iconst 0, 1) := dg_X7_widens_31.2.1
theorem dX7_widens_35 : decode cX7_widens 35 = .ok (.invokevirtual 100, 3) := dg_X7_widens_31.2.2.1
theorem dX7_widens_38 : decode cX7_widens 38 = .ok (.ireturn, 1) := dg_X7_widens_31.2.2.2
theorem zk_229 : Cond.methodLink RX7 59 yX1_isKind ∈ zz_w := zz_in (List.mem_append_right _ (List.mem_append_left _ (List.mem_of_getElem? (i := 229) (by decide +kernel)))) rfl
theorem zc_X7_59 : zz_cS RX7 59 yX1_isKind cX1_isKind 1 (some .boolean) 1 := ⟨⟨zk_229, zk_231, zk_8, by decide, by decide, by decide +kernel⟩, zk_230⟩
theorem zk_232 : Cond.methodLink RX7 65 yX7_fail ∈ zz_w := zz_in (List.mem_append_right _ (List.mem_append_left _ (List.mem_of_getElem? (i := 232) (by decide +kernel)))) rfl
set_option maxRecDepth 20000 in
theorem zk_235 : Cond.code yX7_fail cX7_fail 2 (some .int) ∈ zz_w := zz_in (List.mem_append_right _ (List.mem_append_left _ (List.mem_of_getElem? (i := 235) (rfl)))) rfl
theorem zk_1 : Cond.initialized RX7 ∈ zz_w := zz_in (List.mem_append_right _ (List.mem_append_left _ (List.mem_of_getElem? (i := 1) (by decide +kernel)))) rfl
theorem zk_234 : Cond.instanceMethod yX7_fail ∈ zz_w := zz_in (List.mem_append_right _ (List.mem_append_left _ (List.mem_of_getElem? (i := 234) (by decide +kernel)))) rfl
theorem zs_0 : Cond.selects RX7 yX7_fail yX7_fail ∈ zz_w := zz_in (List.mem_append_left _ (List.mem_of_getElem? (i := 0) (by decide +kernel))) rfl
theorem zc_X7_65 : zz_cV RX7 65 yX7_fail cX7_fail 2 (some .int) 1 := ⟨⟨zk_232, zk_235, zk_1, by decide, by decide, by decide +kernel⟩, zk_234, zs_0⟩
theorem zk_339 : Cond.methodLink RX7 138 yX1_reaches ∈ zz_w := zz_in (List.mem_append_right _ (List.mem_append_right _ (List.mem_append_left _ (List.mem_of_getElem? (i := 99) (by decide +kernel))))) rfl
set_option maxRecDepth 20000 in
theorem zk_341 : Cond.code yX1_reaches cX1_reaches 2 (some .boolean) ∈ zz_w := zz_in (List.mem_append_right _ (List.mem_append_right _ (List.mem_append_left _ (List.mem_of_getElem? (i := 101) (rfl))))) rfl
theorem zk_340 : Cond.static yX1_reaches ∈ zz_w := zz_in (List.mem_append_right _ (List.mem_append_right _ (List.mem_append_left _ (List.mem_of_getElem? (i := 100) (by decide +kernel))))) rfl
theorem zc_X7_138 : zz_cS RX7 138 yX1_reaches cX1_reaches 2 (some .boolean) 2 := ⟨⟨zk_339, zk_341, zk_8, by decide, by decide, by decide +kernel⟩, zk_340⟩
theorem zk_251 : Cond.methodLink RX7 100 yX7_fine ∈ zz_w := zz_in (List.mem_append_right _ (List.mem_append_right _ (List.mem_append_left _ (List.mem_of_getElem? (i := 11) (by decide +kernel))))) rfl
set_option maxRecDepth 20000 in
theorem zk_254 : Cond.code yX7_fine cX7_fine 2 (some .int) ∈ zz_w := zz_in (List.mem_append_right _ (List.mem_append_right _ (List.mem_append_left _ (List.mem_of_getElem? (i := 14) (rfl))))) rfl
theorem zk_253 : Cond.instanceMethod yX7_fine ∈ zz_w := zz_in (List.mem_append_right _ (List.mem_append_right _ (List.mem_append_left _ (List.mem_of_getElem? (i := 13) (by decide +kernel))))) rfl
theorem zs_2 : Cond.selects RX7 yX7_fine yX7_fine ∈ zz_w := zz_in (List.mem_append_left _ (List.mem_of_getElem? (i := 2) (by decide +kernel))) rfl
theorem zc_X7_100 : zz_cV RX7 100 yX7_fine cX7_fine 2 (some .int) 1 := ⟨⟨zk_251, zk_254, zk_1, by decide, by decide, by decide +kernel⟩, zk_253, zs_2⟩
def fn_cx_widens (x1 : Int32) (x2 : Int32) : Int32 := (if (fn_co_isKind x1) = 0 then -9 else (if (fn_co_isKind x2) = 0 then -9 else (if (fn_co_reaches x1 x2) = 0 then 0 else 1)))
abbrev rm_cx_widens : Room := { frames := 1, cells := 0, slots := 0, locals := 21 }
abbrev po_cx_widens (g : zz_G) (h0 : Nat) (st : Nat) (mk : Nat) (lk : Nat) (ch : Nat) (ru : Nat) (mr : Nat) (md : Int32) (la : Int32) (x1 : Int32) (x2 : Int32) : Int32 → va_W → Prop := fun (r : Int32) (u : va_W) => ∃ (la2 : Int32), r = fn_cx_widens x1 x2 ∧ u = [cw_k6 h0 st mk lk ch ru mr md la2]
set_option maxHeartbeats 4000000 in
set_option maxRecDepth 100000 in
theorem cx_widens (g : zz_G) (h0 : Nat) (st : Nat) (mk : Nat) (lk : Nat) (ch : Nat) (ru : Nat) (mr : Nat) (md : Int32) (la : Int32) (x1 : Int32) (x2 : Int32) : zz_I g yX7_widens (.code yX7_widens cX7_widens 3 (some .int)) rm_cx_widens [.ref h0, .int x1, .int x2] [cw_k6 h0 st mk lk ch ru mr md la] (po_cx_widens g h0 st mk lk ch ru mr md la x1 x2) := by
  refine zz_I.intro (own := RX7) (cc := cX7_widens) (nL := 3) (by decide) rfl (Nat.le_of_ble_eq_true rfl) ?_
  intro p l e s m args below meth c A H locs ls hC hnm hs hZ hl
  obtain ⟨hx, hb, hml, hown, hts, hr, hlocks, hK⟩ := id hC
  have hl : lv_has ls 3 [(0, .ref h0), (1, .int x1), (2, .int x2)] := hl
  have hZ : zz_Z g A s.heap [cw_k6 h0 st mk lk ch ru mr md la] H locs := hZ
  refine lv_iload_n hx hb dX7_widens_0 rfl (lv_at hl 1 rfl) ?_
  refine zz_iS (As := [.int x1]) (wc := []) (wr := [cw_k6 h0 st mk lk ch ru mr md la]) (rest := []) hC hZ hs hl zc_X7_59 (co_isKind g x1) [] [0] rfl rfl (by decide +kernel) rfl rfl (Nat.le_of_ble_eq_true rfl) ⟨⟨Nat.le_of_ble_eq_true rfl, Nat.le_of_ble_eq_true rfl⟩, Nat.le_of_ble_eq_true rfl, Nat.le_of_ble_eq_true rfl⟩ dX7_widens_1 (fun r1 u2 H locs hp hZ => ?_)
  obtain ⟨rfl, rfl⟩ := hp
  have hZ : zz_Z g A s.heap [cw_k6 h0 st mk lk ch ru mr md la] H locs := hZ
  refine lv_if_eq (tgt := 14) hx hb dX7_widens_4 (by decide) (fun c3 => ?_) (fun c3 => ?_)
  · refine lv_aload_n hx hb dX7_widens_14 rfl (lv_at hl 0 rfl) ?_
    refine lv_bipush (v := 9) hx hb dX7_widens_15 (by decide) ?_
    refine zz_iV (As := [.int 9]) (wc := [cw_k6 h0 st mk lk ch ru mr md la]) (wr := []) (rest := []) hC hZ hs hl zc_X7_65 (co_fail g h0 st mk lk ch ru mr md la 9) [0] [] rfl rfl (by decide +kernel) (ci := 6) (q0 := 0) rfl rfl rfl rfl (Nat.le_of_ble_eq_true rfl) ⟨⟨Nat.le_of_ble_eq_true rfl, Nat.le_of_ble_eq_true rfl⟩, Nat.le_of_ble_eq_true rfl, Nat.le_of_ble_eq_true rfl⟩ dX7_widens_17 (fun r4 u5 H locs hp hZ => ?_)
    obtain ⟨rfl, rfl⟩ := hp
    have hZ : zz_Z g A s.heap [cw_k6 h0 st mk lk ch ru mr md 9] H locs := hZ
    exact zz_iret hC hZ (⟨9, by show _ = _; rw [fn_cx_widens, if_pos c3], rfl⟩) (Nat.le_of_ble_eq_true rfl) (Nat.le_of_ble_eq_true rfl) dX7_widens_20
  · refine lv_iload_n hx hb dX7_widens_7 rfl (lv_at hl 2 rfl) ?_
    refine zz_iS (As := [.int x2]) (wc := []) (wr := [cw_k6 h0 st mk lk ch ru mr md la]) (rest := []) hC hZ hs hl zc_X7_59 (co_isKind g x2) [] [0] rfl rfl (by decide +kernel) rfl rfl (Nat.le_of_ble_eq_true rfl) ⟨⟨Nat.le_of_ble_eq_true rfl, Nat.le_of_ble_eq_true rfl⟩, Nat.le_of_ble_eq_true rfl, Nat.le_of_ble_eq_true rfl⟩ dX7_widens_8 (fun r6 u7 H locs hp hZ => ?_)
    obtain ⟨rfl, rfl⟩ := hp
    have hZ : zz_Z g A s.heap [cw_k6 h0 st mk lk ch ru mr md la] H locs := hZ
    refine lv_if_ne (tgt := 21) hx hb dX7_widens_11 (by decide) (fun c8 => ?_) (fun c8 => ?_)
    · refine lv_aload_n hx hb dX7_widens_21 rfl (lv_at hl 0 rfl) ?_
      refine lv_iload_n hx hb dX7_widens_22 rfl (lv_at hl 1 rfl) ?_
      refine lv_iload_n hx hb dX7_widens_23 rfl (lv_at hl 2 rfl) ?_
      refine zz_iS (As := [.int x1, .int x2]) (wc := []) (wr := [cw_k6 h0 st mk lk ch ru mr md la]) (rest := [.ref h0]) hC hZ hs hl zc_X7_138 (co_reaches g x1 x2) [] [0] rfl rfl (by decide +kernel) rfl rfl (Nat.le_of_ble_eq_true rfl) ⟨⟨Nat.le_of_ble_eq_true rfl, Nat.le_of_ble_eq_true rfl⟩, Nat.le_of_ble_eq_true rfl, Nat.le_of_ble_eq_true rfl⟩ dX7_widens_24 (fun r9 u10 H locs hp hZ => ?_)
      obtain ⟨rfl, rfl⟩ := hp
      have hZ : zz_Z g A s.heap [cw_k6 h0 st mk lk ch ru mr md la] H locs := hZ
      refine lv_if_eq (tgt := 34) hx hb dX7_widens_27 (by decide) (fun c11 => ?_) (fun c11 => ?_)
      · refine lv_iconst (v := 0) hx hb dX7_widens_34 (by decide) ?_
        refine zz_iV (As := [.int 0]) (wc := [cw_k6 h0 st mk lk ch ru mr md la]) (wr := []) (rest := []) hC hZ hs hl zc_X7_100 (co_fine g h0 st mk lk ch ru mr md la 0) [0] [] rfl rfl (by decide +kernel) (ci := 6) (q0 := 0) rfl rfl rfl rfl (Nat.le_of_ble_eq_true rfl) ⟨⟨Nat.le_of_ble_eq_true rfl, Nat.le_of_ble_eq_true rfl⟩, Nat.le_of_ble_eq_true rfl, Nat.le_of_ble_eq_true rfl⟩ dX7_widens_35 (fun r12 u13 H locs hp hZ => ?_)
        obtain ⟨rfl, rfl⟩ := hp
        have hZ : zz_Z g A s.heap [cw_k6 h0 st mk lk ch ru mr md 0] H locs := hZ
        exact zz_iret hC hZ (⟨0, by show _ = _; rw [fn_cx_widens, if_neg c3, if_neg c8, if_pos c11], rfl⟩) (Nat.le_of_ble_eq_true rfl) (Nat.le_of_ble_eq_true rfl) dX7_widens_38
      · refine lv_iconst (v := 1) hx hb dX7_widens_30 (by decide) ?_
        refine lv_goto (tgt := 35) hx hb dX7_widens_31 (by decide) ?_
        refine zz_iV (As := [.int 1]) (wc := [cw_k6 h0 st mk lk ch ru mr md la]) (wr := []) (rest := []) hC hZ hs hl zc_X7_100 (co_fine g h0 st mk lk ch ru mr md la 1) [0] [] rfl rfl (by decide +kernel) (ci := 6) (q0 := 0) rfl rfl rfl rfl (Nat.le_of_ble_eq_true rfl) ⟨⟨Nat.le_of_ble_eq_true rfl, Nat.le_of_ble_eq_true rfl⟩, Nat.le_of_ble_eq_true rfl, Nat.le_of_ble_eq_true rfl⟩ dX7_widens_35 (fun r14 u15 H locs hp hZ => ?_)
        obtain ⟨rfl, rfl⟩ := hp
        have hZ : zz_Z g A s.heap [cw_k6 h0 st mk lk ch ru mr md 0] H locs := hZ
        exact zz_iret hC hZ (⟨0, by show _ = _; rw [fn_cx_widens, if_neg c3, if_neg c8, if_neg c11], rfl⟩) (Nat.le_of_ble_eq_true rfl) (Nat.le_of_ble_eq_true rfl) dX7_widens_38
    · refine lv_aload_n hx hb dX7_widens_14 rfl (lv_at hl 0 rfl) ?_
      refine lv_bipush (v := 9) hx hb dX7_widens_15 (by decide) ?_
      refine zz_iV (As := [.int 9]) (wc := [cw_k6 h0 st mk lk ch ru mr md la]) (wr := []) (rest := []) hC hZ hs hl zc_X7_65 (co_fail g h0 st mk lk ch ru mr md la 9) [0] [] rfl rfl (by decide +kernel) (ci := 6) (q0 := 0) rfl rfl rfl rfl (Nat.le_of_ble_eq_true rfl) ⟨⟨Nat.le_of_ble_eq_true rfl, Nat.le_of_ble_eq_true rfl⟩, Nat.le_of_ble_eq_true rfl, Nat.le_of_ble_eq_true rfl⟩ dX7_widens_17 (fun r16 u17 H locs hp hZ => ?_)
      obtain ⟨rfl, rfl⟩ := hp
      have hZ : zz_Z g A s.heap [cw_k6 h0 st mk lk ch ru mr md 9] H locs := hZ
      exact zz_iret hC hZ (⟨9, by show _ = _; rw [fn_cx_widens, if_neg c3, if_pos c8], rfl⟩) (Nat.le_of_ble_eq_true rfl) (Nat.le_of_ble_eq_true rfl) dX7_widens_20
theorem dg_X7_newArray_0 : (decode cX7_newArray 0 = .ok (.iload 4, 2)) ∧ (decode cX7_newArray 2 = .ok (.ifCond .ge 9, 3)) ∧ (decode cX7_newArray 5 = .ok (.aload_n 0, 1)) ∧ (decode cX7_newArray 6 = .ok (.iconst 4, 1)) ∧ (decode cX7_newArray 7 = .ok (.invokevirtual 65, 3)) ∧ (decode cX7_newArray 10 = .ok (.ireturn, 1)) ∧ (decode cX7_newArray 11 = .ok (.iload 4, 2)) ∧ (decode cX7_newArray 13 = .ok (.sipush 200, 3)) ∧ (decode cX7_newArray 16 = .ok (.if_icmp .gt 17, 3)) ∧ (decode cX7_newArray 19 = .ok (.aload_n 0, 1)) ∧ (decode cX7_newArray 20 = .ok (.getfield 10, 3)) ∧ (decode cX7_newArray 23 = .ok (.lconst 1, 1)) ∧ (decode cX7_newArray 24 = .ok (.iload 4, 2)) ∧ (decode cX7_newArray 26 = .ok (.i2l, 1)) ∧ (decode cX7_newArray 27 = .ok (.invokevirtual 294, 3)) ∧ (decode cX7_newArray 30 = .ok (.ifCond .ne 10, 3)) := by decide +kernel
theorem dX7_newArray_0 : decode cX7_newArray 0 = .ok (.iload 4, 2) := dg_X7_newArray_0.1
theorem dX7_newArray_2 : decode cX7_newArray 2 = .ok (.ifCond .ge 9, 3) := dg_X7_newArray_0.2.1
theorem dX7_newArray_5 : decode cX7_newArray 5 = .ok (.aload_n 0, 1) := dg_X7_newArray_0.2.2.1
theorem dX7_newArray_6 : decode cX7_newArray 6 = .ok (.iconst 4, 1) := dg_X7_newArray_0.2.2.2.1
theorem dX7_newArray_7 : decode cX7_newArray 7 = .ok (.invokevirtual 65, 3) := dg_X7_newArray_0.2.2.2.2.1
theorem dX7_newArray_10 : decode cX7_newArray 10 = .ok (.ireturn, 1) := dg_X7_newArray_0.2.2.2.2.2.1
theorem dX7_newArray_11 : decode cX7_newArray 11 = .ok (.iload 4, 2) := dg_X7_newArray_0.2.2.2.2.2.2.1
theorem dX7_newArray_13 : decode cX7_newArray 13 = .ok (.sipush 200, 3) := dg_X7_newArray_0.2.2.2.2.2.2.2.1
theorem dX7_newArray_16 : decode cX7_newArray 16 = .ok (.if_icmp .gt 17, 3) := dg_X7_newArray_0.2.2.2.2.2.2.2.2.1
theorem dX7_newArray_19 : decode cX7_newArray 19 = .ok (.aload_n 0, 1) := dg_X7_newArray_0.2.2.2.2.2.2.2.2.2.1
theorem dX7_newArray_20 : decode cX7_newArray 20 = .ok (.getfield 10, 3) := dg_X7_newArray_0.2.2.2.2.2.2.2.2.2.2.1
theorem dX7_newArray_23 : decode cX7_newArray 23 = .ok (.lconst 1, 1) := dg_X7_newArray_0.2.2.2.2.2.2.2.2.2.2.2.1
theorem dX7_newArray_24 : decode cX7_newArray 24 = .ok (.iload 4, 2) := dg_X7_newArray_0.2.2.2.2.2.2.2.2.2.2.2.2.1
theorem dX7_newArray_26 : decode cX7_newArray 26 = .ok (.i2l, 1) := dg_X7_newArray_0.2.2.2.2.2.2.2.2.2.2.2.2.2.1
theorem dX7_newArray_27 : decode cX7_newArray 27 = .ok (.invokevirtual 294, 3) := dg_X7_newArray_0.2.2.2.2.2.2.2.2.2.2.2.2.2.2.1
theorem dX7_newArray_30 : decode cX7_newArray 30 = .ok (.ifCond .ne 10, 3) := dg_X7_newArray_0.2.2.2.2.2.2.2.2.2.2.2.2.2.2.2
theorem dg_X7_newArray_33 : (decode cX7_newArray 33 = .ok (.aload_n 0, 1)) ∧ (decode cX7_newArray 34 = .ok (.bipush 8, 2)) ∧ (decode cX7_newArray 36 = .ok (.invokevirtual 65, 3)) ∧ (decode cX7_newArray 39 = .ok (.ireturn, 1)) ∧ (decode cX7_newArray 40 = .ok (.aload_n 0, 1)) ∧ (decode cX7_newArray 41 = .ok (.aload_n 0, 1)) ∧ (decode cX7_newArray 42 = .ok (.getfield 10, 3)) ∧ (decode cX7_newArray 45 = .ok (.iload_n 1, 1)) ∧ (decode cX7_newArray 46 = .ok (.iload_n 2, 1)) ∧ (decode cX7_newArray 47 = .ok (.iload_n 3, 1)) ∧ (decode cX7_newArray 48 = .ok (.iload 4, 2)) ∧ (decode cX7_newArray 50 = .ok (.invokevirtual 298, 3)) ∧ (decode cX7_newArray 53 = .ok (.invokevirtual 100, 3)) ∧ (decode cX7_newArray 56 = .ok (.ireturn, 1)) := by decide +kernel
theorem dX7_newArray_33 : decode cX7_newArray 33 = .ok (.aload_n 0, 1) := dg_X7_newArray_33.1
theorem dX7_newArray_34 : decode cX7_newArray 34 = .ok (.bipush 8, 2) := dg_X7_newArray_33.2.1
theorem dX7_newArray_36 : decode cX7_newArray 36 = .ok (.invokevirtual 65, 3) := dg_X7_newArray_33.2.2.1
theorem dX7_newArray_39 : decode cX7_newArray 39 = .ok (.ireturn, 1) := dg_X7_newArray_33.2.2.2.1
theorem dX7_newArray_40 : decode cX7_newArray 40 = .ok (.aload_n 0, 1) := dg_X7_newArray_33.2.2.2.2.1
theorem dX7_newArray_41 : decode cX7_newArray 41 = .ok (.aload_n 0, 1) := dg_X7_newArray_33.2.2.2.2.2.1
theorem dX7_newArray_42 : decode cX7_newArray 42 = .ok (.getfield 10, 3) := dg_X7_newArray_33.2.2.2.2.2.2.1
theorem dX7_newArray_45 : decode cX7_newArray 45 = .ok (.iload_n 1, 1) := dg_X7_newArray_33.2.2.2.2.2.2.2.1
theorem dX7_newArray_46 : decode cX7_newArray 46 = .ok (.iload_n 2, 1) := dg_X7_newArray_33.2.2.2.2.2.2.2.2.1
theorem dX7_newArray_47 : decode cX7_newArray 47 = .ok (.iload_n 3, 1) := dg_X7_newArray_33.2.2.2.2.2.2.2.2.2.1
theorem dX7_newArray_48 : decode cX7_newArray 48 = .ok (.iload 4, 2) := dg_X7_newArray_33.2.2.2.2.2.2.2.2.2.2.1
theorem dX7_newArray_50 : decode cX7_newArray 50 = .ok (.invokevirtual 298, 3) := dg_X7_newArray_33.2.2.2.2.2.2.2.2.2.2.2.1
theorem dX7_newArray_53 : decode cX7_newArray 53 = .ok (.invokevirtual 100, 3) := dg_X7_newArray_33.2.2.2.2.2.2.2.2.2.2.2.2.1
theorem dX7_newArray_56 : decode cX7_newArray 56 = .ok (.ireturn, 1) := dg_X7_newArray_33.2.2.2.2.2.2.2.2.2.2.2.2.2
theorem zk_240 : Cond.methodLink RX7 294 yX6_fits ∈ zz_w := zz_in (List.mem_append_right _ (List.mem_append_right _ (List.mem_append_left _ (List.mem_of_getElem? (i := 0) (by decide +kernel))))) rfl
theorem zc_X7_294 : zz_cV RX7 294 yX6_fits cX6_fits 5 (some .boolean) 2 := ⟨⟨zk_240, zk_243, zk_2, by decide, by decide, by decide +kernel⟩, zk_241, zk_242⟩
theorem zk_246 : Cond.methodLink RX7 298 yX6_add ∈ zz_w := zz_in (List.mem_append_right _ (List.mem_append_right _ (List.mem_append_left _ (List.mem_of_getElem? (i := 6) (by decide +kernel))))) rfl
theorem zc_X7_298 : zz_cV RX7 298 yX6_add cX6_add 7 (some .int) 4 := ⟨⟨zk_246, zk_249, zk_2, by decide, by decide, by decide +kernel⟩, zk_247, zk_248⟩
def fo_co_newArray (na : Nat) (nu : Nat) (kdf : Nat → Int32) (dpf : Nat → Int32) (clf : Nat → Int32) (saf : Nat → Int32) (lnf : Nat → Int32) (btf : Nat → Int64) (k : Int32) (dq : Nat) (kc : Int32) (x4 : Int32) : (Int32) × (Nat) × (Nat) × (Nat → Int32) × (Nat → Int32) × (Nat → Int32) × (Nat → Int32) × (Nat → Int32) × (Nat → Int64) := (if 0 ≤ x4 then (if 200 < x4 then (-8, na, nu, kdf, dpf, clf, saf, lnf, btf) else (if (fn_co_fits (nI na) (nI nu) 1 ((nI x4.toNatClampNeg).toInt64)) = 0 then (-8, na, nu, kdf, dpf, clf, saf, lnf, btf) else ((nI na), (na + 1), (nu + x4.toNatClampNeg), (upd kdf na k), (upd dpf na (nI dq)), (upd clf na kc), (upd saf na (nI nu)), (upd lnf na (nI x4.toNatClampNeg)), (zz_nb btf (nI dq) nu x4.toNatClampNeg)))) else (-4, na, nu, kdf, dpf, clf, saf, lnf, btf))
abbrev rm_co_newArray : Room := { frames := 1, cells := 0, slots := 0, locals := 26 }
abbrev po_co_newArray (g : zz_G) (h0 : Nat) (st : Nat) (mk : Nat) (lk : Nat) (ch : Nat) (ru : Nat) (mr : Nat) (kd : Nat) (dp : Nat) (cl : Nat) (sa : Nat) (ln : Nat) (bt : Nat) (pn : Nat) (bf : Nat) (md : Int32) (la : Int32) (na : Nat) (nu : Nat) (kdf : Nat → Int32) (dpf : Nat → Int32) (clf : Nat → Int32) (saf : Nat → Int32) (lnf : Nat → Int32) (btf : Nat → Int64) (k : Int32) (dq : Nat) (kc : Int32) (x4 : Int32) (h_S : zz_SI na nu dpf saf lnf) (h_dq : 1 ≤ dq ∧ dq ≤ 4) : Int32 → va_W → Prop := fun (r : Int32) (u : va_W) => ∃ (la2 : Int32) (na2 : Nat) (nu2 : Nat) (kd2 : Nat → Int32) (dp2 : Nat → Int32) (cl2 : Nat → Int32) (sa2 : Nat → Int32) (ln2 : Nat → Int32) (bt2 : Nat → Int64), (r, na2, nu2, kd2, dp2, cl2, sa2, ln2, bt2) = fo_co_newArray na nu kdf dpf clf saf lnf btf k dq kc x4 ∧ (zz_SI na2 nu2 dp2 sa2 ln2) ∧ (na ≤ na2) ∧ (zz_EX na dpf saf lnf dp2 sa2 ln2) ∧ (0 ≤ r → ∃ j : Nat, x4 = nI j ∧ r = nI na ∧ sa2 na = nI nu ∧ na < 60 ∧ nu + j ≤ 4000 ∧ na2 = na + 1) ∧ u = [cw_k6 h0 st mk lk ch ru mr md la2, cw_k5 st (nI na2) (nI nu2) kd dp cl sa ln bt pn bf, cw_i g kd 60 kd2, cw_i g dp 60 dp2, cw_i g cl 60 cl2, cw_i g sa 60 sa2, cw_i g ln 60 ln2, cw_l g bt 4000 bt2]
set_option maxHeartbeats 4000000 in
set_option maxRecDepth 100000 in
theorem co_newArray (g : zz_G) (h0 : Nat) (st : Nat) (mk : Nat) (lk : Nat) (ch : Nat) (ru : Nat) (mr : Nat) (kd : Nat) (dp : Nat) (cl : Nat) (sa : Nat) (ln : Nat) (bt : Nat) (pn : Nat) (bf : Nat) (md : Int32) (la : Int32) (na : Nat) (nu : Nat) (kdf : Nat → Int32) (dpf : Nat → Int32) (clf : Nat → Int32) (saf : Nat → Int32) (lnf : Nat → Int32) (btf : Nat → Int64) (k : Int32) (dq : Nat) (kc : Int32) (x4 : Int32) (h_S : zz_SI na nu dpf saf lnf) (h_dq : 1 ≤ dq ∧ dq ≤ 4) : zz_I g yX7_newArray (.code yX7_newArray cX7_newArray 5 (some .int)) rm_co_newArray [.ref h0, .int k, .int (nI dq), .int kc, .int x4] [cw_k6 h0 st mk lk ch ru mr md la, cw_k5 st (nI na) (nI nu) kd dp cl sa ln bt pn bf, cw_i g kd 60 kdf, cw_i g dp 60 dpf, cw_i g cl 60 clf, cw_i g sa 60 saf, cw_i g ln 60 lnf, cw_l g bt 4000 btf] (po_co_newArray g h0 st mk lk ch ru mr kd dp cl sa ln bt pn bf md la na nu kdf dpf clf saf lnf btf k dq kc x4 h_S h_dq) := by
  refine zz_I.intro (own := RX7) (cc := cX7_newArray) (nL := 5) (by decide) rfl (Nat.le_of_ble_eq_true rfl) ?_
  intro p l e s m args below meth c A H locs ls hC hnm hs hZ hl
  obtain ⟨hx, hb, hml, hown, hts, hr, hlocks, hK⟩ := id hC
  have hl : lv_has ls 5 [(0, .ref h0), (1, .int k), (2, .int (nI dq)), (3, .int kc), (4, .int x4)] := hl
  have hZ : zz_Z g A s.heap [cw_k6 h0 st mk lk ch ru mr md la, cw_k5 st (nI na) (nI nu) kd dp cl sa ln bt pn bf, cw_i g kd 60 kdf, cw_i g dp 60 dpf, cw_i g cl 60 clf, cw_i g sa 60 saf, cw_i g ln 60 lnf, cw_l g bt 4000 btf] H locs := hZ
  have hna := h_S.1
  have hnu := h_S.2.1
  refine lv_iload hx hb dX7_newArray_0 (lv_at hl 4 rfl) ?_
  refine lv_if_ge (tgt := 11) hx hb dX7_newArray_2 (by decide) (fun c1 => ?_) (fun c1 => ?_)
  · refine lv_iload hx hb dX7_newArray_11 (lv_at hl 4 rfl) ?_
    refine lv_sipush (v := 200) hx hb dX7_newArray_13 (by decide) ?_
    refine lv_icmp_gt (tgt := 33) hx hb dX7_newArray_16 (by decide) (fun c2 => ?_) (fun c2 => ?_)
    · refine lv_aload_n hx hb dX7_newArray_33 rfl (lv_at hl 0 rfl) ?_
      refine lv_bipush (v := 8) hx hb dX7_newArray_34 (by decide) ?_
      refine zz_iV (As := [.int 8]) (wc := [cw_k6 h0 st mk lk ch ru mr md la]) (wr := [cw_k5 st (nI na) (nI nu) kd dp cl sa ln bt pn bf, cw_i g kd 60 kdf, cw_i g dp 60 dpf, cw_i g cl 60 clf, cw_i g sa 60 saf, cw_i g ln 60 lnf, cw_l g bt 4000 btf]) (rest := []) hC hZ hs hl zc_X7_65 (co_fail g h0 st mk lk ch ru mr md la 8) [0] [1, 2, 3, 4, 5, 6, 7] rfl rfl (by decide +kernel) (ci := 6) (q0 := 0) rfl rfl rfl rfl (Nat.le_of_ble_eq_true rfl) ⟨⟨Nat.le_of_ble_eq_true rfl, Nat.le_of_ble_eq_true rfl⟩, Nat.le_of_ble_eq_true rfl, Nat.le_of_ble_eq_true rfl⟩ dX7_newArray_36 (fun r3 u4 H locs hp hZ => ?_)
      obtain ⟨rfl, rfl⟩ := hp
      have hZ : zz_Z g A s.heap [cw_k5 st (nI na) (nI nu) kd dp cl sa ln bt pn bf, cw_i g kd 60 kdf, cw_i g dp 60 dpf, cw_i g cl 60 clf, cw_i g sa 60 saf, cw_i g ln 60 lnf, cw_l g bt 4000 btf, cw_k6 h0 st mk lk ch ru mr md 8] H locs := hZ
      have hZ : zz_Z g A s.heap [cw_k6 h0 st mk lk ch ru mr md 8, cw_k5 st (nI na) (nI nu) kd dp cl sa ln bt pn bf, cw_i g kd 60 kdf, cw_i g dp 60 dpf, cw_i g cl 60 clf, cw_i g sa 60 saf, cw_i g ln 60 lnf, cw_l g bt 4000 btf] H locs := hZ.sub [7, 0, 1, 2, 3, 4, 5, 6] (by decide +kernel) rfl
      exact zz_iret hC hZ (⟨8, na, nu, kdf, dpf, clf, saf, lnf, btf, by show _ = _; rw [fo_co_newArray]; rw [if_pos c1, if_pos c2], h_S, Nat.le_refl _, zz_EX.rf, fun zq => absurd zq (by decide), rfl⟩) (Nat.le_of_ble_eq_true rfl) (Nat.le_of_ble_eq_true rfl) dX7_newArray_39
    · obtain ⟨jn, hjn, ejn⟩ := zl_200 c1 c2
      have hl : lv_has ls 5 [(0, .ref h0), (1, .int k), (2, .int (nI dq)), (3, .int kc), (4, .int (nI jn))] := by rw [← ejn]; exact hl
      have bd5 : jn < 2 ^ 31 := by omega
      have d_jn : x4.toNatClampNeg = jn := by rw [ejn]; exact nI_clamp bd5
      refine lv_aload_n hx hb dX7_newArray_19 rfl (lv_at hl 0 rfl) ?_
      refine zz_get hC hZ 0 rfl zf_X7_10 rfl dX7_newArray_20 ?_
      refine lv_lconst (v := 1) hx hb dX7_newArray_23 (by decide) ?_
      refine lv_iload hx hb dX7_newArray_24 (lv_at hl 4 rfl) ?_
      refine lv_i2l hx hb dX7_newArray_26 rfl ?_
      refine zz_iV (As := [.long 1, .long ((nI jn).toInt64)]) (wc := [cw_k5 st (nI na) (nI nu) kd dp cl sa ln bt pn bf]) (wr := [cw_k6 h0 st mk lk ch ru mr md la, cw_i g kd 60 kdf, cw_i g dp 60 dpf, cw_i g cl 60 clf, cw_i g sa 60 saf, cw_i g ln 60 lnf, cw_l g bt 4000 btf]) (rest := []) hC hZ hs hl zc_X7_294 (co_fits g st kd dp cl sa ln bt pn bf (nI na) (nI nu) 1 ((nI jn).toInt64)) [1] [0, 2, 3, 4, 5, 6, 7] rfl rfl (by decide +kernel) (ci := 5) (q0 := 0) rfl rfl rfl rfl (Nat.le_of_ble_eq_true rfl) ⟨⟨Nat.le_of_ble_eq_true rfl, Nat.le_of_ble_eq_true rfl⟩, Nat.le_of_ble_eq_true rfl, Nat.le_of_ble_eq_true rfl⟩ dX7_newArray_27 (fun r6 u7 H locs hp hZ => ?_)
      obtain ⟨rfl, rfl⟩ := hp
      have hZ : zz_Z g A s.heap [cw_k6 h0 st mk lk ch ru mr md la, cw_i g kd 60 kdf, cw_i g dp 60 dpf, cw_i g cl 60 clf, cw_i g sa 60 saf, cw_i g ln 60 lnf, cw_l g bt 4000 btf, cw_k5 st (nI na) (nI nu) kd dp cl sa ln bt pn bf] H locs := hZ
      refine lv_if_ne (tgt := 40) hx hb dX7_newArray_30 (by decide) (fun c8 => ?_) (fun c8 => ?_)
      · have hfit : na + 1 ≤ 60 ∧ nu + jn ≤ 4000 := zl_fitY (by omega) (by omega) (by omega) c8
        refine lv_aload_n hx hb dX7_newArray_40 rfl (lv_at hl 0 rfl) ?_
        refine lv_aload_n hx hb dX7_newArray_41 rfl (lv_at hl 0 rfl) ?_
        refine zz_get hC hZ 0 rfl zf_X7_10 rfl dX7_newArray_42 ?_
        refine lv_iload_n hx hb dX7_newArray_45 rfl (lv_at hl 1 rfl) ?_
        refine lv_iload_n hx hb dX7_newArray_46 rfl (lv_at hl 2 rfl) ?_
        refine lv_iload_n hx hb dX7_newArray_47 rfl (lv_at hl 3 rfl) ?_
        refine lv_iload hx hb dX7_newArray_48 (lv_at hl 4 rfl) ?_
        refine zz_iV (As := [.int k, .int (nI dq), .int kc, .int (nI jn)]) (wc := [cw_k5 st (nI na) (nI nu) kd dp cl sa ln bt pn bf, cw_i g kd 60 kdf, cw_i g dp 60 dpf, cw_i g cl 60 clf, cw_i g sa 60 saf, cw_i g ln 60 lnf, cw_l g bt 4000 btf]) (wr := [cw_k6 h0 st mk lk ch ru mr md la]) (rest := [.ref h0]) hC hZ hs hl zc_X7_298 (co_add g st kd dp cl sa ln bt pn bf na nu jn kdf dpf clf saf lnf btf k (nI dq) kc (by omega) (by omega)) [7, 1, 2, 3, 4, 5, 6] [0] rfl rfl (by decide +kernel) (ci := 5) (q0 := 0) rfl rfl rfl rfl (Nat.le_of_ble_eq_true rfl) ⟨⟨Nat.le_of_ble_eq_true rfl, Nat.le_of_ble_eq_true rfl⟩, Nat.le_of_ble_eq_true rfl, Nat.le_of_ble_eq_true rfl⟩ dX7_newArray_50 (fun r9 u10 H locs hp hZ => ?_)
        obtain ⟨bt2_11, rfl, f12, rfl⟩ := hp
        have hZ : zz_Z g A s.heap [cw_k6 h0 st mk lk ch ru mr md la, cw_k5 st (nI (na + 1)) (nI (nu + jn)) kd dp cl sa ln bt pn bf, cw_i g kd 60 (upd kdf na k), cw_i g dp 60 (upd dpf na (nI dq)), cw_i g cl 60 (upd clf na kc), cw_i g sa 60 (upd saf na (nI nu)), cw_i g ln 60 (upd lnf na (nI jn)), cw_l g bt 4000 bt2_11] H locs := hZ
        have d_bt2_11 : zz_nb btf (nI dq) nu jn = bt2_11 := f12.symm
        refine zz_iV (As := [.int (nI na)]) (wc := [cw_k6 h0 st mk lk ch ru mr md la]) (wr := [cw_k5 st (nI (na + 1)) (nI (nu + jn)) kd dp cl sa ln bt pn bf, cw_i g kd 60 (upd kdf na k), cw_i g dp 60 (upd dpf na (nI dq)), cw_i g cl 60 (upd clf na kc), cw_i g sa 60 (upd saf na (nI nu)), cw_i g ln 60 (upd lnf na (nI jn)), cw_l g bt 4000 bt2_11]) (rest := []) hC hZ hs hl zc_X7_100 (co_fine g h0 st mk lk ch ru mr md la (nI na)) [0] [1, 2, 3, 4, 5, 6, 7] rfl rfl (by decide +kernel) (ci := 6) (q0 := 0) rfl rfl rfl rfl (Nat.le_of_ble_eq_true rfl) ⟨⟨Nat.le_of_ble_eq_true rfl, Nat.le_of_ble_eq_true rfl⟩, Nat.le_of_ble_eq_true rfl, Nat.le_of_ble_eq_true rfl⟩ dX7_newArray_53 (fun r13 u14 H locs hp hZ => ?_)
        obtain ⟨rfl, rfl⟩ := hp
        have hZ : zz_Z g A s.heap [cw_k5 st (nI (na + 1)) (nI (nu + jn)) kd dp cl sa ln bt pn bf, cw_i g kd 60 (upd kdf na k), cw_i g dp 60 (upd dpf na (nI dq)), cw_i g cl 60 (upd clf na kc), cw_i g sa 60 (upd saf na (nI nu)), cw_i g ln 60 (upd lnf na (nI jn)), cw_l g bt 4000 bt2_11, cw_k6 h0 st mk lk ch ru mr md 0] H locs := hZ
        have hZ : zz_Z g A s.heap [cw_k6 h0 st mk lk ch ru mr md 0, cw_k5 st (nI (na + 1)) (nI (nu + jn)) kd dp cl sa ln bt pn bf, cw_i g kd 60 (upd kdf na k), cw_i g dp 60 (upd dpf na (nI dq)), cw_i g cl 60 (upd clf na kc), cw_i g sa 60 (upd saf na (nI nu)), cw_i g ln 60 (upd lnf na (nI jn)), cw_l g bt 4000 bt2_11] H locs := hZ.sub [7, 0, 1, 2, 3, 4, 5, 6] (by decide +kernel) rfl
        exact zz_iret hC hZ (⟨0, (na + 1), (nu + jn), (upd kdf na k), (upd dpf na (nI dq)), (upd clf na kc), (upd saf na (nI nu)), (upd lnf na (nI jn)), bt2_11, by refine Eq.symm ?_; rw [fo_co_newArray]; refine (if_pos (by (try simp only [d_jn, d_bt2_11]); exact c1)).trans ?_; refine (if_neg (by (try simp only [d_jn, d_bt2_11]); exact c2)).trans ?_; refine (if_neg (by (try simp only [d_jn, d_bt2_11]); exact c8)).trans ?_; first | (simp only [d_jn, d_bt2_11]; done) | rfl, zz_SI_add h_S (by omega) (by omega) hjn h_dq, by omega, zz_EX.up, fun _ => ⟨jn, ejn, rfl, pk_us, by omega, by omega, rfl⟩, rfl⟩) (Nat.le_of_ble_eq_true rfl) (Nat.le_of_ble_eq_true rfl) dX7_newArray_56
      · refine lv_aload_n hx hb dX7_newArray_33 rfl (lv_at hl 0 rfl) ?_
        refine lv_bipush (v := 8) hx hb dX7_newArray_34 (by decide) ?_
        refine zz_iV (As := [.int 8]) (wc := [cw_k6 h0 st mk lk ch ru mr md la]) (wr := [cw_i g kd 60 kdf, cw_i g dp 60 dpf, cw_i g cl 60 clf, cw_i g sa 60 saf, cw_i g ln 60 lnf, cw_l g bt 4000 btf, cw_k5 st (nI na) (nI nu) kd dp cl sa ln bt pn bf]) (rest := []) hC hZ hs hl zc_X7_65 (co_fail g h0 st mk lk ch ru mr md la 8) [0] [1, 2, 3, 4, 5, 6, 7] rfl rfl (by decide +kernel) (ci := 6) (q0 := 0) rfl rfl rfl rfl (Nat.le_of_ble_eq_true rfl) ⟨⟨Nat.le_of_ble_eq_true rfl, Nat.le_of_ble_eq_true rfl⟩, Nat.le_of_ble_eq_true rfl, Nat.le_of_ble_eq_true rfl⟩ dX7_newArray_36 (fun r15 u16 H locs hp hZ => ?_)
        obtain ⟨rfl, rfl⟩ := hp
        have hZ : zz_Z g A s.heap [cw_i g kd 60 kdf, cw_i g dp 60 dpf, cw_i g cl 60 clf, cw_i g sa 60 saf, cw_i g ln 60 lnf, cw_l g bt 4000 btf, cw_k5 st (nI na) (nI nu) kd dp cl sa ln bt pn bf, cw_k6 h0 st mk lk ch ru mr md 8] H locs := hZ
        have hZ : zz_Z g A s.heap [cw_k6 h0 st mk lk ch ru mr md 8, cw_k5 st (nI na) (nI nu) kd dp cl sa ln bt pn bf, cw_i g kd 60 kdf, cw_i g dp 60 dpf, cw_i g cl 60 clf, cw_i g sa 60 saf, cw_i g ln 60 lnf, cw_l g bt 4000 btf] H locs := hZ.sub [7, 6, 0, 1, 2, 3, 4, 5] (by decide +kernel) rfl
        exact zz_iret hC hZ (⟨8, na, nu, kdf, dpf, clf, saf, lnf, btf, by refine Eq.symm ?_; rw [fo_co_newArray]; refine (if_pos (by (try simp only [d_jn]); exact c1)).trans ?_; refine (if_neg (by (try simp only [d_jn]); exact c2)).trans ?_; refine (if_pos (by (try simp only [d_jn]); exact c8)).trans ?_; first | (simp only [d_jn]; done) | rfl, h_S, Nat.le_refl _, zz_EX.rf, fun zq => absurd zq (by decide), rfl⟩) (Nat.le_of_ble_eq_true rfl) (Nat.le_of_ble_eq_true rfl) dX7_newArray_39
  · refine lv_aload_n hx hb dX7_newArray_5 rfl (lv_at hl 0 rfl) ?_
    refine lv_iconst (v := 4) hx hb dX7_newArray_6 (by decide) ?_
    refine zz_iV (As := [.int 4]) (wc := [cw_k6 h0 st mk lk ch ru mr md la]) (wr := [cw_k5 st (nI na) (nI nu) kd dp cl sa ln bt pn bf, cw_i g kd 60 kdf, cw_i g dp 60 dpf, cw_i g cl 60 clf, cw_i g sa 60 saf, cw_i g ln 60 lnf, cw_l g bt 4000 btf]) (rest := []) hC hZ hs hl zc_X7_65 (co_fail g h0 st mk lk ch ru mr md la 4) [0] [1, 2, 3, 4, 5, 6, 7] rfl rfl (by decide +kernel) (ci := 6) (q0 := 0) rfl rfl rfl rfl (Nat.le_of_ble_eq_true rfl) ⟨⟨Nat.le_of_ble_eq_true rfl, Nat.le_of_ble_eq_true rfl⟩, Nat.le_of_ble_eq_true rfl, Nat.le_of_ble_eq_true rfl⟩ dX7_newArray_7 (fun r17 u18 H locs hp hZ => ?_)
    obtain ⟨rfl, rfl⟩ := hp
    have hZ : zz_Z g A s.heap [cw_k5 st (nI na) (nI nu) kd dp cl sa ln bt pn bf, cw_i g kd 60 kdf, cw_i g dp 60 dpf, cw_i g cl 60 clf, cw_i g sa 60 saf, cw_i g ln 60 lnf, cw_l g bt 4000 btf, cw_k6 h0 st mk lk ch ru mr md 4] H locs := hZ
    have hZ : zz_Z g A s.heap [cw_k6 h0 st mk lk ch ru mr md 4, cw_k5 st (nI na) (nI nu) kd dp cl sa ln bt pn bf, cw_i g kd 60 kdf, cw_i g dp 60 dpf, cw_i g cl 60 clf, cw_i g sa 60 saf, cw_i g ln 60 lnf, cw_l g bt 4000 btf] H locs := hZ.sub [7, 0, 1, 2, 3, 4, 5, 6] (by decide +kernel) rfl
    exact zz_iret hC hZ (⟨4, na, nu, kdf, dpf, clf, saf, lnf, btf, by show _ = _; rw [fo_co_newArray]; rw [if_neg c1], h_S, Nat.le_refl _, zz_EX.rf, fun zq => absurd zq (by decide), rfl⟩) (Nat.le_of_ble_eq_true rfl) (Nat.le_of_ble_eq_true rfl) dX7_newArray_10
theorem dg_X7_array_0 : (decode cX7_array 0 = .ok (.iload_n 1, 1)) ∧ (decode cX7_array 1 = .ok (.invokestatic 59, 3)) ∧ (decode cX7_array 4 = .ok (.ifCond .ne 10, 3)) ∧ (decode cX7_array 7 = .ok (.aload_n 0, 1)) ∧ (decode cX7_array 8 = .ok (.bipush 9, 2)) ∧ (decode cX7_array 10 = .ok (.invokevirtual 65, 3)) ∧ (decode cX7_array 13 = .ok (.ireturn, 1)) ∧ (decode cX7_array 14 = .ok (.aload_n 0, 1)) ∧ (decode cX7_array 15 = .ok (.iload_n 1, 1)) ∧ (decode cX7_array 16 = .ok (.iconst 1, 1)) ∧ (decode cX7_array 17 = .ok (.iconst (-1), 1)) ∧ (decode cX7_array 18 = .ok (.iload_n 2, 1)) ∧ (decode cX7_array 19 = .ok (.invokevirtual 69, 3)) ∧ (decode cX7_array 22 = .ok (.ireturn, 1)) := by decide +kernel
theorem dX7_array_0 : decode cX7_array 0 = .ok (.iload_n 1, 1) := dg_X7_array_0.1
theorem dX7_array_1 : decode cX7_array 1 = .ok (.invokestatic 59, 3) := dg_X7_array_0.2.1
theorem dX7_array_4 : decode cX7_array 4 = .ok (.ifCond .ne 10, 3) := dg_X7_array_0.2.2.1
theorem dX7_array_7 : decode cX7_array 7 = .ok (.aload_n 0, 1) := dg_X7_array_0.2.2.2.1
theorem dX7_array_8 : decode cX7_array 8 = .ok (.bipush 9, 2) := dg_X7_array_0.2.2.2.2.1
theorem dX7_array_10 : decode cX7_array 10 = .ok (.invokevirtual 65, 3) := dg_X7_array_0.2.2.2.2.2.1
theorem dX7_array_13 : decode cX7_array 13 = .ok (.ireturn, 1) := dg_X7_array_0.2.2.2.2.2.2.1
theorem dX7_array_14 : decode cX7_array 14 = .ok (.aload_n 0, 1) := dg_X7_array_0.2.2.2.2.2.2.2.1
theorem dX7_array_15 : decode cX7_array 15 = .ok (.iload_n 1, 1) := dg_X7_array_0.2.2.2.2.2.2.2.2.1
theorem dX7_array_16 : decode cX7_array 16 = .ok (.iconst 1, 1) := dg_X7_array_0.2.2.2.2.2.2.2.2.2.1
theorem dX7_array_17 : decode cX7_array 17 = .ok (.iconst (-1), 1) := dg_X7_array_0.2.2.2.2.2.2.2.2.2.2.1
theorem dX7_array_18 : decode cX7_array 18 = .ok (.iload_n 2, 1) := dg_X7_array_0.2.2.2.2.2.2.2.2.2.2.2.1
theorem dX7_array_19 : decode cX7_array 19 = .ok (.invokevirtual 69, 3) := dg_X7_array_0.2.2.2.2.2.2.2.2.2.2.2.2.1
theorem dX7_array_22 : decode cX7_array 22 = .ok (.ireturn, 1) := dg_X7_array_0.2.2.2.2.2.2.2.2.2.2.2.2.2
theorem zk_236 : Cond.methodLink RX7 69 yX7_newArray ∈ zz_w := zz_in (List.mem_append_right _ (List.mem_append_left _ (List.mem_of_getElem? (i := 236) (by decide +kernel)))) rfl
set_option maxRecDepth 20000 in
theorem zk_239 : Cond.code yX7_newArray cX7_newArray 5 (some .int) ∈ zz_w := zz_in (List.mem_append_right _ (List.mem_append_left _ (List.mem_of_getElem? (i := 239) (rfl)))) rfl
theorem zk_238 : Cond.instanceMethod yX7_newArray ∈ zz_w := zz_in (List.mem_append_right _ (List.mem_append_left _ (List.mem_of_getElem? (i := 238) (by decide +kernel)))) rfl
theorem zs_1 : Cond.selects RX7 yX7_newArray yX7_newArray ∈ zz_w := zz_in (List.mem_append_left _ (List.mem_of_getElem? (i := 1) (by decide +kernel))) rfl
theorem zc_X7_69 : zz_cV RX7 69 yX7_newArray cX7_newArray 5 (some .int) 4 := ⟨⟨zk_236, zk_239, zk_1, by decide, by decide, by decide +kernel⟩, zk_238, zs_1⟩
def fo_cx_array (na : Nat) (nu : Nat) (kdf : Nat → Int32) (dpf : Nat → Int32) (clf : Nat → Int32) (saf : Nat → Int32) (lnf : Nat → Int32) (btf : Nat → Int64) (x1 : Int32) (x2 : Int32) : (Int32) × (Nat) × (Nat) × (Nat → Int32) × (Nat → Int32) × (Nat → Int32) × (Nat → Int32) × (Nat → Int32) × (Nat → Int64) := (if (fn_co_isKind x1) = 0 then (-9, na, nu, kdf, dpf, clf, saf, lnf, btf) else (((fo_co_newArray na nu kdf dpf clf saf lnf btf x1 1 (-1) x2).1), ((fo_co_newArray na nu kdf dpf clf saf lnf btf x1 1 (-1) x2).2.1), ((fo_co_newArray na nu kdf dpf clf saf lnf btf x1 1 (-1) x2).2.2.1), ((fo_co_newArray na nu kdf dpf clf saf lnf btf x1 1 (-1) x2).2.2.2.1), ((fo_co_newArray na nu kdf dpf clf saf lnf btf x1 1 (-1) x2).2.2.2.2.1), ((fo_co_newArray na nu kdf dpf clf saf lnf btf x1 1 (-1) x2).2.2.2.2.2.1), ((fo_co_newArray na nu kdf dpf clf saf lnf btf x1 1 (-1) x2).2.2.2.2.2.2.1), ((fo_co_newArray na nu kdf dpf clf saf lnf btf x1 1 (-1) x2).2.2.2.2.2.2.2.1), ((fo_co_newArray na nu kdf dpf clf saf lnf btf x1 1 (-1) x2).2.2.2.2.2.2.2.2)))
abbrev rm_cx_array : Room := { frames := 2, cells := 0, slots := 0, locals := 50 }
abbrev po_cx_array (g : zz_G) (h0 : Nat) (st : Nat) (mk : Nat) (lk : Nat) (ch : Nat) (ru : Nat) (mr : Nat) (kd : Nat) (dp : Nat) (cl : Nat) (sa : Nat) (ln : Nat) (bt : Nat) (pn : Nat) (bf : Nat) (md : Int32) (la : Int32) (na : Nat) (nu : Nat) (kdf : Nat → Int32) (dpf : Nat → Int32) (clf : Nat → Int32) (saf : Nat → Int32) (lnf : Nat → Int32) (btf : Nat → Int64) (x1 : Int32) (x2 : Int32) (h_S : zz_SI na nu dpf saf lnf) : Int32 → va_W → Prop := fun (r : Int32) (u : va_W) => ∃ (la2 : Int32) (na2 : Nat) (nu2 : Nat) (kd2 : Nat → Int32) (dp2 : Nat → Int32) (cl2 : Nat → Int32) (sa2 : Nat → Int32) (ln2 : Nat → Int32) (bt2 : Nat → Int64), (r, na2, nu2, kd2, dp2, cl2, sa2, ln2, bt2) = fo_cx_array na nu kdf dpf clf saf lnf btf x1 x2 ∧ (zz_SI na2 nu2 dp2 sa2 ln2) ∧ (na ≤ na2) ∧ (zz_EX na dpf saf lnf dp2 sa2 ln2) ∧ u = [cw_k6 h0 st mk lk ch ru mr md la2, cw_k5 st (nI na2) (nI nu2) kd dp cl sa ln bt pn bf, cw_i g kd 60 kd2, cw_i g dp 60 dp2, cw_i g cl 60 cl2, cw_i g sa 60 sa2, cw_i g ln 60 ln2, cw_l g bt 4000 bt2]
set_option maxHeartbeats 4000000 in
set_option maxRecDepth 100000 in
theorem cx_array (g : zz_G) (h0 : Nat) (st : Nat) (mk : Nat) (lk : Nat) (ch : Nat) (ru : Nat) (mr : Nat) (kd : Nat) (dp : Nat) (cl : Nat) (sa : Nat) (ln : Nat) (bt : Nat) (pn : Nat) (bf : Nat) (md : Int32) (la : Int32) (na : Nat) (nu : Nat) (kdf : Nat → Int32) (dpf : Nat → Int32) (clf : Nat → Int32) (saf : Nat → Int32) (lnf : Nat → Int32) (btf : Nat → Int64) (x1 : Int32) (x2 : Int32) (h_S : zz_SI na nu dpf saf lnf) : zz_I g yX7_array (.code yX7_array cX7_array 3 (some .int)) rm_cx_array [.ref h0, .int x1, .int x2] [cw_k6 h0 st mk lk ch ru mr md la, cw_k5 st (nI na) (nI nu) kd dp cl sa ln bt pn bf, cw_i g kd 60 kdf, cw_i g dp 60 dpf, cw_i g cl 60 clf, cw_i g sa 60 saf, cw_i g ln 60 lnf, cw_l g bt 4000 btf] (po_cx_array g h0 st mk lk ch ru mr kd dp cl sa ln bt pn bf md la na nu kdf dpf clf saf lnf btf x1 x2 h_S) := by
  refine zz_I.intro (own := RX7) (cc := cX7_array) (nL := 3) (by decide) rfl (Nat.le_of_ble_eq_true rfl) ?_
  intro p l e s m args below meth c A H locs ls hC hnm hs hZ hl
  obtain ⟨hx, hb, hml, hown, hts, hr, hlocks, hK⟩ := id hC
  have hl : lv_has ls 3 [(0, .ref h0), (1, .int x1), (2, .int x2)] := hl
  have hZ : zz_Z g A s.heap [cw_k6 h0 st mk lk ch ru mr md la, cw_k5 st (nI na) (nI nu) kd dp cl sa ln bt pn bf, cw_i g kd 60 kdf, cw_i g dp 60 dpf, cw_i g cl 60 clf, cw_i g sa 60 saf, cw_i g ln 60 lnf, cw_l g bt 4000 btf] H locs := hZ
  have hna := h_S.1
  have hnu := h_S.2.1
  refine lv_iload_n hx hb dX7_array_0 rfl (lv_at hl 1 rfl) ?_
  refine zz_iS (As := [.int x1]) (wc := []) (wr := [cw_k6 h0 st mk lk ch ru mr md la, cw_k5 st (nI na) (nI nu) kd dp cl sa ln bt pn bf, cw_i g kd 60 kdf, cw_i g dp 60 dpf, cw_i g cl 60 clf, cw_i g sa 60 saf, cw_i g ln 60 lnf, cw_l g bt 4000 btf]) (rest := []) hC hZ hs hl zc_X7_59 (co_isKind g x1) [] [0, 1, 2, 3, 4, 5, 6, 7] rfl rfl (by decide +kernel) rfl rfl (Nat.le_of_ble_eq_true rfl) ⟨⟨Nat.le_of_ble_eq_true rfl, Nat.le_of_ble_eq_true rfl⟩, Nat.le_of_ble_eq_true rfl, Nat.le_of_ble_eq_true rfl⟩ dX7_array_1 (fun r1 u2 H locs hp hZ => ?_)
  obtain ⟨rfl, rfl⟩ := hp
  have hZ : zz_Z g A s.heap [cw_k6 h0 st mk lk ch ru mr md la, cw_k5 st (nI na) (nI nu) kd dp cl sa ln bt pn bf, cw_i g kd 60 kdf, cw_i g dp 60 dpf, cw_i g cl 60 clf, cw_i g sa 60 saf, cw_i g ln 60 lnf, cw_l g bt 4000 btf] H locs := hZ
  refine lv_if_ne (tgt := 14) hx hb dX7_array_4 (by decide) (fun c3 => ?_) (fun c3 => ?_)
  · refine lv_aload_n hx hb dX7_array_14 rfl (lv_at hl 0 rfl) ?_
    refine lv_iload_n hx hb dX7_array_15 rfl (lv_at hl 1 rfl) ?_
    refine lv_iconst (v := 1) hx hb dX7_array_16 (by decide) ?_
    refine lv_iconst (v := -1) hx hb dX7_array_17 (by decide) ?_
    refine lv_iload_n hx hb dX7_array_18 rfl (lv_at hl 2 rfl) ?_
    refine zz_iV (As := [.int x1, .int 1, .int (-1), .int x2]) (wc := [cw_k6 h0 st mk lk ch ru mr md la, cw_k5 st (nI na) (nI nu) kd dp cl sa ln bt pn bf, cw_i g kd 60 kdf, cw_i g dp 60 dpf, cw_i g cl 60 clf, cw_i g sa 60 saf, cw_i g ln 60 lnf, cw_l g bt 4000 btf]) (wr := []) (rest := []) hC hZ hs hl zc_X7_69 (co_newArray g h0 st mk lk ch ru mr kd dp cl sa ln bt pn bf md la na nu kdf dpf clf saf lnf btf x1 1 (-1) x2 (h_S) (by omega)) [0, 1, 2, 3, 4, 5, 6, 7] [] rfl rfl (by decide +kernel) (ci := 6) (q0 := 0) rfl rfl rfl rfl (Nat.le_of_ble_eq_true rfl) ⟨⟨Nat.le_of_ble_eq_true rfl, Nat.le_of_ble_eq_true rfl⟩, Nat.le_of_ble_eq_true rfl, Nat.le_of_ble_eq_true rfl⟩ dX7_array_19 (fun r4 u5 H locs hp hZ => ?_)
    obtain ⟨la2_6, na2_7, nu2_8, kd2_9, dp2_10, cl2_11, sa2_12, ln2_13, bt2_14, ft15, f16, f17, f18, f19, rfl⟩ := hp
    have hZ : zz_Z g A s.heap [cw_k6 h0 st mk lk ch ru mr md la2_6, cw_k5 st (nI na2_7) (nI nu2_8) kd dp cl sa ln bt pn bf, cw_i g kd 60 kd2_9, cw_i g dp 60 dp2_10, cw_i g cl 60 cl2_11, cw_i g sa 60 sa2_12, cw_i g ln 60 ln2_13, cw_l g bt 4000 bt2_14] H locs := hZ
    have d_r4 : (fo_co_newArray na nu kdf dpf clf saf lnf btf x1 1 (-1) x2).1 = r4 := by rw [← ft15]
    have d_na2_7 : (fo_co_newArray na nu kdf dpf clf saf lnf btf x1 1 (-1) x2).2.1 = na2_7 := by rw [← ft15]
    have d_nu2_8 : (fo_co_newArray na nu kdf dpf clf saf lnf btf x1 1 (-1) x2).2.2.1 = nu2_8 := by rw [← ft15]
    have d_kd2_9 : (fo_co_newArray na nu kdf dpf clf saf lnf btf x1 1 (-1) x2).2.2.2.1 = kd2_9 := by rw [← ft15]
    have d_dp2_10 : (fo_co_newArray na nu kdf dpf clf saf lnf btf x1 1 (-1) x2).2.2.2.2.1 = dp2_10 := by rw [← ft15]
    have d_cl2_11 : (fo_co_newArray na nu kdf dpf clf saf lnf btf x1 1 (-1) x2).2.2.2.2.2.1 = cl2_11 := by rw [← ft15]
    have d_sa2_12 : (fo_co_newArray na nu kdf dpf clf saf lnf btf x1 1 (-1) x2).2.2.2.2.2.2.1 = sa2_12 := by rw [← ft15]
    have d_ln2_13 : (fo_co_newArray na nu kdf dpf clf saf lnf btf x1 1 (-1) x2).2.2.2.2.2.2.2.1 = ln2_13 := by rw [← ft15]
    have d_bt2_14 : (fo_co_newArray na nu kdf dpf clf saf lnf btf x1 1 (-1) x2).2.2.2.2.2.2.2.2 = bt2_14 := by rw [← ft15]
    exact zz_iret hC hZ (⟨la2_6, na2_7, nu2_8, kd2_9, dp2_10, cl2_11, sa2_12, ln2_13, bt2_14, by refine Eq.symm ?_; rw [fo_cx_array]; refine (if_neg (by (try simp only [d_r4, d_na2_7, d_nu2_8, d_kd2_9, d_dp2_10, d_cl2_11, d_sa2_12, d_ln2_13, d_bt2_14]); exact c3)).trans ?_; first | (simp only [d_r4, d_na2_7, d_nu2_8, d_kd2_9, d_dp2_10, d_cl2_11, d_sa2_12, d_ln2_13, d_bt2_14]; done) | rfl, f16, f17, f18, rfl⟩) (Nat.le_of_ble_eq_true rfl) (Nat.le_of_ble_eq_true rfl) dX7_array_22
  · refine lv_aload_n hx hb dX7_array_7 rfl (lv_at hl 0 rfl) ?_
    refine lv_bipush (v := 9) hx hb dX7_array_8 (by decide) ?_
    refine zz_iV (As := [.int 9]) (wc := [cw_k6 h0 st mk lk ch ru mr md la]) (wr := [cw_k5 st (nI na) (nI nu) kd dp cl sa ln bt pn bf, cw_i g kd 60 kdf, cw_i g dp 60 dpf, cw_i g cl 60 clf, cw_i g sa 60 saf, cw_i g ln 60 lnf, cw_l g bt 4000 btf]) (rest := []) hC hZ hs hl zc_X7_65 (co_fail g h0 st mk lk ch ru mr md la 9) [0] [1, 2, 3, 4, 5, 6, 7] rfl rfl (by decide +kernel) (ci := 6) (q0 := 0) rfl rfl rfl rfl (Nat.le_of_ble_eq_true rfl) ⟨⟨Nat.le_of_ble_eq_true rfl, Nat.le_of_ble_eq_true rfl⟩, Nat.le_of_ble_eq_true rfl, Nat.le_of_ble_eq_true rfl⟩ dX7_array_10 (fun r20 u21 H locs hp hZ => ?_)
    obtain ⟨rfl, rfl⟩ := hp
    have hZ : zz_Z g A s.heap [cw_k5 st (nI na) (nI nu) kd dp cl sa ln bt pn bf, cw_i g kd 60 kdf, cw_i g dp 60 dpf, cw_i g cl 60 clf, cw_i g sa 60 saf, cw_i g ln 60 lnf, cw_l g bt 4000 btf, cw_k6 h0 st mk lk ch ru mr md 9] H locs := hZ
    have hZ : zz_Z g A s.heap [cw_k6 h0 st mk lk ch ru mr md 9, cw_k5 st (nI na) (nI nu) kd dp cl sa ln bt pn bf, cw_i g kd 60 kdf, cw_i g dp 60 dpf, cw_i g cl 60 clf, cw_i g sa 60 saf, cw_i g ln 60 lnf, cw_l g bt 4000 btf] H locs := hZ.sub [7, 0, 1, 2, 3, 4, 5, 6] (by decide +kernel) rfl
    exact zz_iret hC hZ (⟨9, na, nu, kdf, dpf, clf, saf, lnf, btf, by show _ = _; rw [fo_cx_array]; rw [if_pos c3], h_S, Nat.le_refl _, zz_EX.rf, rfl⟩) (Nat.le_of_ble_eq_true rfl) (Nat.le_of_ble_eq_true rfl) dX7_array_13
theorem dg_X7_things_0 : (decode cX7_things 0 = .ok (.iload_n 1, 1)) ∧ (decode cX7_things 1 = .ok (.ifCond .lt 9, 3)) ∧ (decode cX7_things 4 = .ok (.iload_n 1, 1)) ∧ (decode cX7_things 5 = .ok (.bipush 7, 2)) ∧ (decode cX7_things 7 = .ok (.if_icmp .lt 10, 3)) ∧ (decode cX7_things 10 = .ok (.aload_n 0, 1)) ∧ (decode cX7_things 11 = .ok (.bipush 9, 2)) ∧ (decode cX7_things 13 = .ok (.invokevirtual 65, 3)) ∧ (decode cX7_things 16 = .ok (.ireturn, 1)) ∧ (decode cX7_things 17 = .ok (.aload_n 0, 1)) ∧ (decode cX7_things 18 = .ok (.bipush 8, 2)) ∧ (decode cX7_things 20 = .ok (.iconst 1, 1)) ∧ (decode cX7_things 21 = .ok (.iload_n 1, 1)) ∧ (decode cX7_things 22 = .ok (.iload_n 2, 1)) ∧ (decode cX7_things 23 = .ok (.invokevirtual 69, 3)) ∧ (decode cX7_things 26 = .ok (.ireturn, 1)) := by decide +kernel
theorem dX7_things_0 : decode cX7_things 0 = .ok (.iload_n 1, 1) := dg_X7_things_0.1
theorem dX7_things_1 : decode cX7_things 1 = .ok (.ifCond .lt 9, 3) := dg_X7_things_0.2.1
theorem dX7_things_4 : decode cX7_things 4 = .ok (.iload_n 1, 1) := dg_X7_things_0.2.2.1
theorem dX7_things_5 : decode cX7_things 5 = .ok (.bipush 7, 2) := dg_X7_things_0.2.2.2.1
theorem dX7_things_7 : decode cX7_things 7 = .ok (.if_icmp .lt 10, 3) := dg_X7_things_0.2.2.2.2.1
theorem dX7_things_10 : decode cX7_things 10 = .ok (.aload_n 0, 1) := dg_X7_things_0.2.2.2.2.2.1
theorem dX7_things_11 : decode cX7_things 11 = .ok (.bipush 9, 2) := dg_X7_things_0.2.2.2.2.2.2.1
theorem dX7_things_13 : decode cX7_things 13 = .ok (.invokevirtual 65, 3) := dg_X7_things_0.2.2.2.2.2.2.2.1
theorem dX7_things_16 : decode cX7_things 16 = .ok (.ireturn, 1) := dg_X7_things_0.2.2.2.2.2.2.2.2.1
theorem dX7_things_17 : decode cX7_things 17 = .ok (.aload_n 0, 1) := dg_X7_things_0.2.2.2.2.2.2.2.2.2.1
theorem dX7_things_18 : decode cX7_things 18 = .ok (.bipush 8, 2) := dg_X7_things_0.2.2.2.2.2.2.2.2.2.2.1
theorem dX7_things_20 : decode cX7_things 20 = .ok (.iconst 1, 1) := dg_X7_things_0.2.2.2.2.2.2.2.2.2.2.2.1
theorem dX7_things_21 : decode cX7_things 21 = .ok (.iload_n 1, 1) := dg_X7_things_0.2.2.2.2.2.2.2.2.2.2.2.2.1
theorem dX7_things_22 : decode cX7_things 22 = .ok (.iload_n 2, 1) := dg_X7_things_0.2.2.2.2.2.2.2.2.2.2.2.2.2.1
theorem dX7_things_23 : decode cX7_things 23 = .ok (.invokevirtual 69, 3) := dg_X7_things_0.2.2.2.2.2.2.2.2.2.2.2.2.2.2.1
theorem dX7_things_26 : decode cX7_things 26 = .ok (.ireturn, 1) := dg_X7_things_0.2.2.2.2.2.2.2.2.2.2.2.2.2.2.2
def fo_cx_things (na : Nat) (nu : Nat) (kdf : Nat → Int32) (dpf : Nat → Int32) (clf : Nat → Int32) (saf : Nat → Int32) (lnf : Nat → Int32) (btf : Nat → Int64) (x1 : Int32) (x2 : Int32) : (Int32) × (Nat) × (Nat) × (Nat → Int32) × (Nat → Int32) × (Nat → Int32) × (Nat → Int32) × (Nat → Int32) × (Nat → Int64) := (if x1 < 0 then (-9, na, nu, kdf, dpf, clf, saf, lnf, btf) else (if x1 < 7 then (((fo_co_newArray na nu kdf dpf clf saf lnf btf 8 1 x1 x2).1), ((fo_co_newArray na nu kdf dpf clf saf lnf btf 8 1 x1 x2).2.1), ((fo_co_newArray na nu kdf dpf clf saf lnf btf 8 1 x1 x2).2.2.1), ((fo_co_newArray na nu kdf dpf clf saf lnf btf 8 1 x1 x2).2.2.2.1), ((fo_co_newArray na nu kdf dpf clf saf lnf btf 8 1 x1 x2).2.2.2.2.1), ((fo_co_newArray na nu kdf dpf clf saf lnf btf 8 1 x1 x2).2.2.2.2.2.1), ((fo_co_newArray na nu kdf dpf clf saf lnf btf 8 1 x1 x2).2.2.2.2.2.2.1), ((fo_co_newArray na nu kdf dpf clf saf lnf btf 8 1 x1 x2).2.2.2.2.2.2.2.1), ((fo_co_newArray na nu kdf dpf clf saf lnf btf 8 1 x1 x2).2.2.2.2.2.2.2.2)) else (-9, na, nu, kdf, dpf, clf, saf, lnf, btf)))
abbrev rm_cx_things : Room := { frames := 2, cells := 0, slots := 0, locals := 50 }
abbrev po_cx_things (g : zz_G) (h0 : Nat) (st : Nat) (mk : Nat) (lk : Nat) (ch : Nat) (ru : Nat) (mr : Nat) (kd : Nat) (dp : Nat) (cl : Nat) (sa : Nat) (ln : Nat) (bt : Nat) (pn : Nat) (bf : Nat) (md : Int32) (la : Int32) (na : Nat) (nu : Nat) (kdf : Nat → Int32) (dpf : Nat → Int32) (clf : Nat → Int32) (saf : Nat → Int32) (lnf : Nat → Int32) (btf : Nat → Int64) (x1 : Int32) (x2 : Int32) (h_S : zz_SI na nu dpf saf lnf) : Int32 → va_W → Prop := fun (r : Int32) (u : va_W) => ∃ (la2 : Int32) (na2 : Nat) (nu2 : Nat) (kd2 : Nat → Int32) (dp2 : Nat → Int32) (cl2 : Nat → Int32) (sa2 : Nat → Int32) (ln2 : Nat → Int32) (bt2 : Nat → Int64), (r, na2, nu2, kd2, dp2, cl2, sa2, ln2, bt2) = fo_cx_things na nu kdf dpf clf saf lnf btf x1 x2 ∧ (zz_SI na2 nu2 dp2 sa2 ln2) ∧ (na ≤ na2) ∧ (zz_EX na dpf saf lnf dp2 sa2 ln2) ∧ u = [cw_k6 h0 st mk lk ch ru mr md la2, cw_k5 st (nI na2) (nI nu2) kd dp cl sa ln bt pn bf, cw_i g kd 60 kd2, cw_i g dp 60 dp2, cw_i g cl 60 cl2, cw_i g sa 60 sa2, cw_i g ln 60 ln2, cw_l g bt 4000 bt2]
set_option maxHeartbeats 4000000 in
set_option maxRecDepth 100000 in
theorem cx_things (g : zz_G) (h0 : Nat) (st : Nat) (mk : Nat) (lk : Nat) (ch : Nat) (ru : Nat) (mr : Nat) (kd : Nat) (dp : Nat) (cl : Nat) (sa : Nat) (ln : Nat) (bt : Nat) (pn : Nat) (bf : Nat) (md : Int32) (la : Int32) (na : Nat) (nu : Nat) (kdf : Nat → Int32) (dpf : Nat → Int32) (clf : Nat → Int32) (saf : Nat → Int32) (lnf : Nat → Int32) (btf : Nat → Int64) (x1 : Int32) (x2 : Int32) (h_S : zz_SI na nu dpf saf lnf) : zz_I g yX7_things (.code yX7_things cX7_things 3 (some .int)) rm_cx_things [.ref h0, .int x1, .int x2] [cw_k6 h0 st mk lk ch ru mr md la, cw_k5 st (nI na) (nI nu) kd dp cl sa ln bt pn bf, cw_i g kd 60 kdf, cw_i g dp 60 dpf, cw_i g cl 60 clf, cw_i g sa 60 saf, cw_i g ln 60 lnf, cw_l g bt 4000 btf] (po_cx_things g h0 st mk lk ch ru mr kd dp cl sa ln bt pn bf md la na nu kdf dpf clf saf lnf btf x1 x2 h_S) := by
  refine zz_I.intro (own := RX7) (cc := cX7_things) (nL := 3) (by decide) rfl (Nat.le_of_ble_eq_true rfl) ?_
  intro p l e s m args below meth c A H locs ls hC hnm hs hZ hl
  obtain ⟨hx, hb, hml, hown, hts, hr, hlocks, hK⟩ := id hC
  have hl : lv_has ls 3 [(0, .ref h0), (1, .int x1), (2, .int x2)] := hl
  have hZ : zz_Z g A s.heap [cw_k6 h0 st mk lk ch ru mr md la, cw_k5 st (nI na) (nI nu) kd dp cl sa ln bt pn bf, cw_i g kd 60 kdf, cw_i g dp 60 dpf, cw_i g cl 60 clf, cw_i g sa 60 saf, cw_i g ln 60 lnf, cw_l g bt 4000 btf] H locs := hZ
  have hna := h_S.1
  have hnu := h_S.2.1
  refine lv_iload_n hx hb dX7_things_0 rfl (lv_at hl 1 rfl) ?_
  refine lv_if_lt (tgt := 10) hx hb dX7_things_1 (by decide) (fun c1 => ?_) (fun c1 => ?_)
  · refine lv_aload_n hx hb dX7_things_10 rfl (lv_at hl 0 rfl) ?_
    refine lv_bipush (v := 9) hx hb dX7_things_11 (by decide) ?_
    refine zz_iV (As := [.int 9]) (wc := [cw_k6 h0 st mk lk ch ru mr md la]) (wr := [cw_k5 st (nI na) (nI nu) kd dp cl sa ln bt pn bf, cw_i g kd 60 kdf, cw_i g dp 60 dpf, cw_i g cl 60 clf, cw_i g sa 60 saf, cw_i g ln 60 lnf, cw_l g bt 4000 btf]) (rest := []) hC hZ hs hl zc_X7_65 (co_fail g h0 st mk lk ch ru mr md la 9) [0] [1, 2, 3, 4, 5, 6, 7] rfl rfl (by decide +kernel) (ci := 6) (q0 := 0) rfl rfl rfl rfl (Nat.le_of_ble_eq_true rfl) ⟨⟨Nat.le_of_ble_eq_true rfl, Nat.le_of_ble_eq_true rfl⟩, Nat.le_of_ble_eq_true rfl, Nat.le_of_ble_eq_true rfl⟩ dX7_things_13 (fun r2 u3 H locs hp hZ => ?_)
    obtain ⟨rfl, rfl⟩ := hp
    have hZ : zz_Z g A s.heap [cw_k5 st (nI na) (nI nu) kd dp cl sa ln bt pn bf, cw_i g kd 60 kdf, cw_i g dp 60 dpf, cw_i g cl 60 clf, cw_i g sa 60 saf, cw_i g ln 60 lnf, cw_l g bt 4000 btf, cw_k6 h0 st mk lk ch ru mr md 9] H locs := hZ
    have hZ : zz_Z g A s.heap [cw_k6 h0 st mk lk ch ru mr md 9, cw_k5 st (nI na) (nI nu) kd dp cl sa ln bt pn bf, cw_i g kd 60 kdf, cw_i g dp 60 dpf, cw_i g cl 60 clf, cw_i g sa 60 saf, cw_i g ln 60 lnf, cw_l g bt 4000 btf] H locs := hZ.sub [7, 0, 1, 2, 3, 4, 5, 6] (by decide +kernel) rfl
    exact zz_iret hC hZ (⟨9, na, nu, kdf, dpf, clf, saf, lnf, btf, by show _ = _; rw [fo_cx_things]; rw [if_pos c1], h_S, Nat.le_refl _, zz_EX.rf, rfl⟩) (Nat.le_of_ble_eq_true rfl) (Nat.le_of_ble_eq_true rfl) dX7_things_16
  · refine lv_iload_n hx hb dX7_things_4 rfl (lv_at hl 1 rfl) ?_
    refine lv_bipush (v := 7) hx hb dX7_things_5 (by decide) ?_
    refine lv_icmp_lt (tgt := 17) hx hb dX7_things_7 (by decide) (fun c4 => ?_) (fun c4 => ?_)
    · refine lv_aload_n hx hb dX7_things_17 rfl (lv_at hl 0 rfl) ?_
      refine lv_bipush (v := 8) hx hb dX7_things_18 (by decide) ?_
      refine lv_iconst (v := 1) hx hb dX7_things_20 (by decide) ?_
      refine lv_iload_n hx hb dX7_things_21 rfl (lv_at hl 1 rfl) ?_
      refine lv_iload_n hx hb dX7_things_22 rfl (lv_at hl 2 rfl) ?_
      refine zz_iV (As := [.int 8, .int 1, .int x1, .int x2]) (wc := [cw_k6 h0 st mk lk ch ru mr md la, cw_k5 st (nI na) (nI nu) kd dp cl sa ln bt pn bf, cw_i g kd 60 kdf, cw_i g dp 60 dpf, cw_i g cl 60 clf, cw_i g sa 60 saf, cw_i g ln 60 lnf, cw_l g bt 4000 btf]) (wr := []) (rest := []) hC hZ hs hl zc_X7_69 (co_newArray g h0 st mk lk ch ru mr kd dp cl sa ln bt pn bf md la na nu kdf dpf clf saf lnf btf 8 1 x1 x2 (h_S) (by omega)) [0, 1, 2, 3, 4, 5, 6, 7] [] rfl rfl (by decide +kernel) (ci := 6) (q0 := 0) rfl rfl rfl rfl (Nat.le_of_ble_eq_true rfl) ⟨⟨Nat.le_of_ble_eq_true rfl, Nat.le_of_ble_eq_true rfl⟩, Nat.le_of_ble_eq_true rfl, Nat.le_of_ble_eq_true rfl⟩ dX7_things_23 (fun r5 u6 H locs hp hZ => ?_)
      obtain ⟨la2_7, na2_8, nu2_9, kd2_10, dp2_11, cl2_12, sa2_13, ln2_14, bt2_15, ft16, f17, f18, f19, f20, rfl⟩ := hp
      have hZ : zz_Z g A s.heap [cw_k6 h0 st mk lk ch ru mr md la2_7, cw_k5 st (nI na2_8) (nI nu2_9) kd dp cl sa ln bt pn bf, cw_i g kd 60 kd2_10, cw_i g dp 60 dp2_11, cw_i g cl 60 cl2_12, cw_i g sa 60 sa2_13, cw_i g ln 60 ln2_14, cw_l g bt 4000 bt2_15] H locs := hZ
      have d_r5 : (fo_co_newArray na nu kdf dpf clf saf lnf btf 8 1 x1 x2).1 = r5 := by rw [← ft16]
      have d_na2_8 : (fo_co_newArray na nu kdf dpf clf saf lnf btf 8 1 x1 x2).2.1 = na2_8 := by rw [← ft16]
      have d_nu2_9 : (fo_co_newArray na nu kdf dpf clf saf lnf btf 8 1 x1 x2).2.2.1 = nu2_9 := by rw [← ft16]
      have d_kd2_10 : (fo_co_newArray na nu kdf dpf clf saf lnf btf 8 1 x1 x2).2.2.2.1 = kd2_10 := by rw [← ft16]
      have d_dp2_11 : (fo_co_newArray na nu kdf dpf clf saf lnf btf 8 1 x1 x2).2.2.2.2.1 = dp2_11 := by rw [← ft16]
      have d_cl2_12 : (fo_co_newArray na nu kdf dpf clf saf lnf btf 8 1 x1 x2).2.2.2.2.2.1 = cl2_12 := by rw [← ft16]
      have d_sa2_13 : (fo_co_newArray na nu kdf dpf clf saf lnf btf 8 1 x1 x2).2.2.2.2.2.2.1 = sa2_13 := by rw [← ft16]
      have d_ln2_14 : (fo_co_newArray na nu kdf dpf clf saf lnf btf 8 1 x1 x2).2.2.2.2.2.2.2.1 = ln2_14 := by rw [← ft16]
      have d_bt2_15 : (fo_co_newArray na nu kdf dpf clf saf lnf btf 8 1 x1 x2).2.2.2.2.2.2.2.2 = bt2_15 := by rw [← ft16]
      exact zz_iret hC hZ (⟨la2_7, na2_8, nu2_9, kd2_10, dp2_11, cl2_12, sa2_13, ln2_14, bt2_15, by refine Eq.symm ?_; rw [fo_cx_things]; refine (if_neg (by (try simp only [d_r5, d_na2_8, d_nu2_9, d_kd2_10, d_dp2_11, d_cl2_12, d_sa2_13, d_ln2_14, d_bt2_15]); exact c1)).trans ?_; refine (if_pos (by (try simp only [d_r5, d_na2_8, d_nu2_9, d_kd2_10, d_dp2_11, d_cl2_12, d_sa2_13, d_ln2_14, d_bt2_15]); exact c4)).trans ?_; first | (simp only [d_r5, d_na2_8, d_nu2_9, d_kd2_10, d_dp2_11, d_cl2_12, d_sa2_13, d_ln2_14, d_bt2_15]; done) | rfl, f17, f18, f19, rfl⟩) (Nat.le_of_ble_eq_true rfl) (Nat.le_of_ble_eq_true rfl) dX7_things_26
    · refine lv_aload_n hx hb dX7_things_10 rfl (lv_at hl 0 rfl) ?_
      refine lv_bipush (v := 9) hx hb dX7_things_11 (by decide) ?_
      refine zz_iV (As := [.int 9]) (wc := [cw_k6 h0 st mk lk ch ru mr md la]) (wr := [cw_k5 st (nI na) (nI nu) kd dp cl sa ln bt pn bf, cw_i g kd 60 kdf, cw_i g dp 60 dpf, cw_i g cl 60 clf, cw_i g sa 60 saf, cw_i g ln 60 lnf, cw_l g bt 4000 btf]) (rest := []) hC hZ hs hl zc_X7_65 (co_fail g h0 st mk lk ch ru mr md la 9) [0] [1, 2, 3, 4, 5, 6, 7] rfl rfl (by decide +kernel) (ci := 6) (q0 := 0) rfl rfl rfl rfl (Nat.le_of_ble_eq_true rfl) ⟨⟨Nat.le_of_ble_eq_true rfl, Nat.le_of_ble_eq_true rfl⟩, Nat.le_of_ble_eq_true rfl, Nat.le_of_ble_eq_true rfl⟩ dX7_things_13 (fun r21 u22 H locs hp hZ => ?_)
      obtain ⟨rfl, rfl⟩ := hp
      have hZ : zz_Z g A s.heap [cw_k5 st (nI na) (nI nu) kd dp cl sa ln bt pn bf, cw_i g kd 60 kdf, cw_i g dp 60 dpf, cw_i g cl 60 clf, cw_i g sa 60 saf, cw_i g ln 60 lnf, cw_l g bt 4000 btf, cw_k6 h0 st mk lk ch ru mr md 9] H locs := hZ
      have hZ : zz_Z g A s.heap [cw_k6 h0 st mk lk ch ru mr md 9, cw_k5 st (nI na) (nI nu) kd dp cl sa ln bt pn bf, cw_i g kd 60 kdf, cw_i g dp 60 dpf, cw_i g cl 60 clf, cw_i g sa 60 saf, cw_i g ln 60 lnf, cw_l g bt 4000 btf] H locs := hZ.sub [7, 0, 1, 2, 3, 4, 5, 6] (by decide +kernel) rfl
      exact zz_iret hC hZ (⟨9, na, nu, kdf, dpf, clf, saf, lnf, btf, by show _ = _; rw [fo_cx_things]; rw [if_neg c1, if_neg c4], h_S, Nat.le_refl _, zz_EX.rf, rfl⟩) (Nat.le_of_ble_eq_true rfl) (Nat.le_of_ble_eq_true rfl) dX7_things_16
theorem dg_X7_rows_0 : (decode cX7_rows 0 = .ok (.aload_n 0, 1)) ∧ (decode cX7_rows 1 = .ok (.getfield 10, 3)) ∧ (decode cX7_rows 4 = .ok (.iload_n 1, 1)) ∧ (decode cX7_rows 5 = .ok (.invokevirtual 73, 3)) ∧ (decode cX7_rows 8 = .ok (.ifCond .ne 9, 3)) ∧ (decode cX7_rows 11 = .ok (.aload_n 0, 1)) ∧ (decode cX7_rows 12 = .ok (.iconst 5, 1)) ∧ (decode cX7_rows 13 = .ok (.invokevirtual 65, 3)) ∧ (decode cX7_rows 16 = .ok (.ireturn, 1)) ∧ (decode cX7_rows 17 = .ok (.aload_n 0, 1)) ∧ (decode cX7_rows 18 = .ok (.getfield 10, 3)) ∧ (decode cX7_rows 21 = .ok (.getfield 76, 3)) ∧ (decode cX7_rows 24 = .ok (.iload_n 1, 1)) ∧ (decode cX7_rows 25 = .ok (.iaload, 1)) ∧ (decode cX7_rows 26 = .ok (.iconst 4, 1)) ∧ (decode cX7_rows 27 = .ok (.if_icmp .lt 10, 3)) := by decide +kernel
theorem dX7_rows_0 : decode cX7_rows 0 = .ok (.aload_n 0, 1) := dg_X7_rows_0.1
theorem dX7_rows_1 : decode cX7_rows 1 = .ok (.getfield 10, 3) := dg_X7_rows_0.2.1
theorem dX7_rows_4 : decode cX7_rows 4 = .ok (.iload_n 1, 1) := dg_X7_rows_0.2.2.1
theorem dX7_rows_5 : decode cX7_rows 5 = .ok (.invokevirtual 73, 3) := dg_X7_rows_0.2.2.2.1
theorem dX7_rows_8 : decode cX7_rows 8 = .ok (.ifCond .ne 9, 3) := dg_X7_rows_0.2.2.2.2.1
theorem dX7_rows_11 : decode cX7_rows 11 = .ok (.aload_n 0, 1) := dg_X7_rows_0.2.2.2.2.2.1
theorem dX7_rows_12 : decode cX7_rows 12 = .ok (.iconst 5, 1) := dg_X7_rows_0.2.2.2.2.2.2.1
theorem dX7_rows_13 : decode cX7_rows 13 = .ok (.invokevirtual 65, 3) := dg_X7_rows_0.2.2.2.2.2.2.2.1
theorem dX7_rows_16 : decode cX7_rows 16 = .ok (.ireturn, 1) := dg_X7_rows_0.2.2.2.2.2.2.2.2.1
theorem dX7_rows_17 : decode cX7_rows 17 = .ok (.aload_n 0, 1) := dg_X7_rows_0.2.2.2.2.2.2.2.2.2.1
theorem dX7_rows_18 : decode cX7_rows 18 = .ok (.getfield 10, 3) := dg_X7_rows_0.2.2.2.2.2.2.2.2.2.2.1
theorem dX7_rows_21 : decode cX7_rows 21 = .ok (.getfield 76, 3) := dg_X7_rows_0.2.2.2.2.2.2.2.2.2.2.2.1
theorem dX7_rows_24 : decode cX7_rows 24 = .ok (.iload_n 1, 1) := dg_X7_rows_0.2.2.2.2.2.2.2.2.2.2.2.2.1
theorem dX7_rows_25 : decode cX7_rows 25 = .ok (.iaload, 1) := dg_X7_rows_0.2.2.2.2.2.2.2.2.2.2.2.2.2.1
theorem dX7_rows_26 : decode cX7_rows 26 = .ok (.iconst 4, 1) := dg_X7_rows_0.2.2.2.2.2.2.2.2.2.2.2.2.2.2.1
theorem dX7_rows_27 : decode cX7_rows 27 = .ok (.if_icmp .lt 10, 3) := dg_X7_rows_0.2.2.2.2.2.2.2.2.2.2.2.2.2.2.2
theorem dg_X7_rows_30 : (decode cX7_rows 30 = .ok (.aload_n 0, 1)) ∧ (decode cX7_rows 31 = .ok (.bipush 9, 2)) ∧ (decode cX7_rows 33 = .ok (.invokevirtual 65, 3)) ∧ (decode cX7_rows 36 = .ok (.ireturn, 1)) ∧ (decode cX7_rows 37 = .ok (.aload_n 0, 1)) ∧ (decode cX7_rows 38 = .ok (.aload_n 0, 1)) ∧ (decode cX7_rows 39 = .ok (.getfield 10, 3)) ∧ (decode cX7_rows 42 = .ok (.getfield 80, 3)) ∧ (decode cX7_rows 45 = .ok (.iload_n 1, 1)) ∧ (decode cX7_rows 46 = .ok (.iaload, 1)) ∧ (decode cX7_rows 47 = .ok (.aload_n 0, 1)) ∧ (decode cX7_rows 48 = .ok (.getfield 10, 3)) ∧ (decode cX7_rows 51 = .ok (.getfield 76, 3)) ∧ (decode cX7_rows 54 = .ok (.iload_n 1, 1)) ∧ (decode cX7_rows 55 = .ok (.iaload, 1)) ∧ (decode cX7_rows 56 = .ok (.iconst 1, 1)) := by decide +kernel
theorem dX7_rows_30 : decode cX7_rows 30 = .ok (.aload_n 0, 1) := dg_X7_rows_30.1
theorem dX7_rows_31 : decode cX7_rows 31 = .ok (.bipush 9, 2) := dg_X7_rows_30.2.1
theorem dX7_rows_33 : decode cX7_rows 33 = .ok (.invokevirtual 65, 3) := dg_X7_rows_30.2.2.1
theorem dX7_rows_36 : decode cX7_rows 36 = .ok (.ireturn, 1) := dg_X7_rows_30.2.2.2.1
theorem dX7_rows_37 : decode cX7_rows 37 = .ok (.aload_n 0, 1) := dg_X7_rows_30.2.2.2.2.1
theorem dX7_rows_38 : decode cX7_rows 38 = .ok (.aload_n 0, 1) := dg_X7_rows_30.2.2.2.2.2.1
theorem dX7_rows_39 : decode cX7_rows 39 = .ok (.getfield 10, 3) := dg_X7_rows_30.2.2.2.2.2.2.1
theorem dX7_rows_42 : decode cX7_rows 42 = .ok (.getfield 80, 3) := dg_X7_rows_30.2.2.2.2.2.2.2.1
theorem dX7_rows_45 : decode cX7_rows 45 = .ok (.iload_n 1, 1) := dg_X7_rows_30.2.2.2.2.2.2.2.2.1
theorem dX7_rows_46 : decode cX7_rows 46 = .ok (.iaload, 1) := dg_X7_rows_30.2.2.2.2.2.2.2.2.2.1
theorem dX7_rows_47 : decode cX7_rows 47 = .ok (.aload_n 0, 1) := dg_X7_rows_30.2.2.2.2.2.2.2.2.2.2.1
theorem dX7_rows_48 : decode cX7_rows 48 = .ok (.getfield 10, 3) := dg_X7_rows_30.2.2.2.2.2.2.2.2.2.2.2.1
theorem dX7_rows_51 : decode cX7_rows 51 = .ok (.getfield 76, 3) := dg_X7_rows_30.2.2.2.2.2.2.2.2.2.2.2.2.1
theorem dX7_rows_54 : decode cX7_rows 54 = .ok (.iload_n 1, 1) := dg_X7_rows_30.2.2.2.2.2.2.2.2.2.2.2.2.2.1
theorem dX7_rows_55 : decode cX7_rows 55 = .ok (.iaload, 1) := dg_X7_rows_30.2.2.2.2.2.2.2.2.2.2.2.2.2.2.1
theorem dX7_rows_56 : decode cX7_rows 56 = .ok (.iconst 1, 1) := dg_X7_rows_30.2.2.2.2.2.2.2.2.2.2.2.2.2.2.2
theorem dg_X7_rows_57 : (decode cX7_rows 57 = .ok (.iadd, 1)) ∧ (decode cX7_rows 58 = .ok (.aload_n 0, 1)) ∧ (decode cX7_rows 59 = .ok (.getfield 10, 3)) ∧ (decode cX7_rows 62 = .ok (.getfield 83, 3)) ∧ (decode cX7_rows 65 = .ok (.iload_n 1, 1)) ∧ (decode cX7_rows 66 = .ok (.iaload, 1)) ∧ (decode cX7_rows 67 = .ok (.iload_n 2, 1)) ∧ (decode cX7_rows 68 = .ok (.invokevirtual 69, 3)) ∧ (decode cX7_rows 71 = .ok (.ireturn, 1)) := by decide +kernel
theorem dX7_rows_57 : decode cX7_rows 57 = .ok (.iadd, 1) := dg_X7_rows_57.1
theorem dX7_rows_58 : decode cX7_rows 58 = .ok (.aload_n 0, 1) := dg_X7_rows_57.2.1
theorem dX7_rows_59 : decode cX7_rows 59 = .ok (.getfield 10, 3) := dg_X7_rows_57.2.2.1
theorem dX7_rows_62 : decode cX7_rows 62 = .ok (.getfield 83, 3) := dg_X7_rows_57.2.2.2.1
theorem dX7_rows_65 : decode cX7_rows 65 = .ok (.iload_n 1, 1) := dg_X7_rows_57.2.2.2.2.1
theorem dX7_rows_66 : decode cX7_rows 66 = .ok (.iaload, 1) := dg_X7_rows_57.2.2.2.2.2.1
theorem dX7_rows_67 : decode cX7_rows 67 = .ok (.iload_n 2, 1) := dg_X7_rows_57.2.2.2.2.2.2.1
theorem dX7_rows_68 : decode cX7_rows 68 = .ok (.invokevirtual 69, 3) := dg_X7_rows_57.2.2.2.2.2.2.2.1
theorem dX7_rows_71 : decode cX7_rows 71 = .ok (.ireturn, 1) := dg_X7_rows_57.2.2.2.2.2.2.2.2
theorem zk_263 : Cond.methodLink RX7 73 yX6_has ∈ zz_w := zz_in (List.mem_append_right _ (List.mem_append_right _ (List.mem_append_left _ (List.mem_of_getElem? (i := 23) (by decide +kernel))))) rfl
theorem zc_X7_73 : zz_cV RX7 73 yX6_has cX6_has 2 (some .boolean) 1 := ⟨⟨zk_263, zk_266, zk_2, by decide, by decide, by decide +kernel⟩, zk_264, zk_265⟩
theorem zk_39 : Cond.fieldLink RX7 76 RX6 "depth" "[I" ∈ zz_w := zz_in (List.mem_append_right _ (List.mem_append_left _ (List.mem_of_getElem? (i := 39) (by decide +kernel)))) rfl
theorem zf_X7_76 : zz_f RX7 76 5 3 := ⟨RX6, TX6, 10, rfl, zi_X6, by decide, zk_39⟩
theorem zk_32 : Cond.fieldLink RX7 80 RX6 "kind" "[I" ∈ zz_w := zz_in (List.mem_append_right _ (List.mem_append_left _ (List.mem_of_getElem? (i := 32) (by decide +kernel)))) rfl
theorem zf_X7_80 : zz_f RX7 80 5 2 := ⟨RX6, TX6, 10, rfl, zi_X6, by decide, zk_32⟩
theorem zk_42 : Cond.fieldLink RX7 83 RX6 "cls" "[I" ∈ zz_w := zz_in (List.mem_append_right _ (List.mem_append_left _ (List.mem_of_getElem? (i := 42) (by decide +kernel)))) rfl
theorem zf_X7_83 : zz_f RX7 83 5 4 := ⟨RX6, TX6, 10, rfl, zi_X6, by decide, zk_42⟩
def fo_cx_rows (na : Nat) (nu : Nat) (kdf : Nat → Int32) (dpf : Nat → Int32) (clf : Nat → Int32) (saf : Nat → Int32) (lnf : Nat → Int32) (btf : Nat → Int64) (x1 : Int32) (x2 : Int32) : (Int32) × (Nat) × (Nat) × (Nat → Int32) × (Nat → Int32) × (Nat → Int32) × (Nat → Int32) × (Nat → Int32) × (Nat → Int64) := (if (fn_co_has (nI na) x1) = 0 then (-5, na, nu, kdf, dpf, clf, saf, lnf, btf) else (if (nI ((dpf x1.toNatClampNeg).toNatClampNeg)) < 4 then (((fo_co_newArray na nu kdf dpf clf saf lnf btf (kdf x1.toNatClampNeg) (((dpf x1.toNatClampNeg).toNatClampNeg) + 1) (clf x1.toNatClampNeg) x2).1), ((fo_co_newArray na nu kdf dpf clf saf lnf btf (kdf x1.toNatClampNeg) (((dpf x1.toNatClampNeg).toNatClampNeg) + 1) (clf x1.toNatClampNeg) x2).2.1), ((fo_co_newArray na nu kdf dpf clf saf lnf btf (kdf x1.toNatClampNeg) (((dpf x1.toNatClampNeg).toNatClampNeg) + 1) (clf x1.toNatClampNeg) x2).2.2.1), ((fo_co_newArray na nu kdf dpf clf saf lnf btf (kdf x1.toNatClampNeg) (((dpf x1.toNatClampNeg).toNatClampNeg) + 1) (clf x1.toNatClampNeg) x2).2.2.2.1), ((fo_co_newArray na nu kdf dpf clf saf lnf btf (kdf x1.toNatClampNeg) (((dpf x1.toNatClampNeg).toNatClampNeg) + 1) (clf x1.toNatClampNeg) x2).2.2.2.2.1), ((fo_co_newArray na nu kdf dpf clf saf lnf btf (kdf x1.toNatClampNeg) (((dpf x1.toNatClampNeg).toNatClampNeg) + 1) (clf x1.toNatClampNeg) x2).2.2.2.2.2.1), ((fo_co_newArray na nu kdf dpf clf saf lnf btf (kdf x1.toNatClampNeg) (((dpf x1.toNatClampNeg).toNatClampNeg) + 1) (clf x1.toNatClampNeg) x2).2.2.2.2.2.2.1), ((fo_co_newArray na nu kdf dpf clf saf lnf btf (kdf x1.toNatClampNeg) (((dpf x1.toNatClampNeg).toNatClampNeg) + 1) (clf x1.toNatClampNeg) x2).2.2.2.2.2.2.2.1), ((fo_co_newArray na nu kdf dpf clf saf lnf btf (kdf x1.toNatClampNeg) (((dpf x1.toNatClampNeg).toNatClampNeg) + 1) (clf x1.toNatClampNeg) x2).2.2.2.2.2.2.2.2)) else (-9, na, nu, kdf, dpf, clf, saf, lnf, btf)))
abbrev rm_cx_rows : Room := { frames := 2, cells := 0, slots := 0, locals := 50 }
abbrev po_cx_rows (g : zz_G) (h0 : Nat) (st : Nat) (mk : Nat) (lk : Nat) (ch : Nat) (ru : Nat) (mr : Nat) (kd : Nat) (dp : Nat) (cl : Nat) (sa : Nat) (ln : Nat) (bt : Nat) (pn : Nat) (bf : Nat) (md : Int32) (la : Int32) (na : Nat) (nu : Nat) (kdf : Nat → Int32) (dpf : Nat → Int32) (clf : Nat → Int32) (saf : Nat → Int32) (lnf : Nat → Int32) (btf : Nat → Int64) (x1 : Int32) (x2 : Int32) (h_S : zz_SI na nu dpf saf lnf) : Int32 → va_W → Prop := fun (r : Int32) (u : va_W) => ∃ (la2 : Int32) (na2 : Nat) (nu2 : Nat) (kd2 : Nat → Int32) (dp2 : Nat → Int32) (cl2 : Nat → Int32) (sa2 : Nat → Int32) (ln2 : Nat → Int32) (bt2 : Nat → Int64), (r, na2, nu2, kd2, dp2, cl2, sa2, ln2, bt2) = fo_cx_rows na nu kdf dpf clf saf lnf btf x1 x2 ∧ (zz_SI na2 nu2 dp2 sa2 ln2) ∧ (na ≤ na2) ∧ (zz_EX na dpf saf lnf dp2 sa2 ln2) ∧ u = [cw_k6 h0 st mk lk ch ru mr md la2, cw_k5 st (nI na2) (nI nu2) kd dp cl sa ln bt pn bf, cw_i g kd 60 kd2, cw_i g dp 60 dp2, cw_i g cl 60 cl2, cw_i g sa 60 sa2, cw_i g ln 60 ln2, cw_l g bt 4000 bt2]
set_option maxHeartbeats 4000000 in
set_option maxRecDepth 100000 in
theorem cx_rows (g : zz_G) (h0 : Nat) (st : Nat) (mk : Nat) (lk : Nat) (ch : Nat) (ru : Nat) (mr : Nat) (kd : Nat) (dp : Nat) (cl : Nat) (sa : Nat) (ln : Nat) (bt : Nat) (pn : Nat) (bf : Nat) (md : Int32) (la : Int32) (na : Nat) (nu : Nat) (kdf : Nat → Int32) (dpf : Nat → Int32) (clf : Nat → Int32) (saf : Nat → Int32) (lnf : Nat → Int32) (btf : Nat → Int64) (x1 : Int32) (x2 : Int32) (h_S : zz_SI na nu dpf saf lnf) : zz_I g yX7_rows (.code yX7_rows cX7_rows 3 (some .int)) rm_cx_rows [.ref h0, .int x1, .int x2] [cw_k6 h0 st mk lk ch ru mr md la, cw_k5 st (nI na) (nI nu) kd dp cl sa ln bt pn bf, cw_i g kd 60 kdf, cw_i g dp 60 dpf, cw_i g cl 60 clf, cw_i g sa 60 saf, cw_i g ln 60 lnf, cw_l g bt 4000 btf] (po_cx_rows g h0 st mk lk ch ru mr kd dp cl sa ln bt pn bf md la na nu kdf dpf clf saf lnf btf x1 x2 h_S) := by
  refine zz_I.intro (own := RX7) (cc := cX7_rows) (nL := 3) (by decide) rfl (Nat.le_of_ble_eq_true rfl) ?_
  intro p l e s m args below meth c A H locs ls hC hnm hs hZ hl
  obtain ⟨hx, hb, hml, hown, hts, hr, hlocks, hK⟩ := id hC
  have hl : lv_has ls 3 [(0, .ref h0), (1, .int x1), (2, .int x2)] := hl
  have hZ : zz_Z g A s.heap [cw_k6 h0 st mk lk ch ru mr md la, cw_k5 st (nI na) (nI nu) kd dp cl sa ln bt pn bf, cw_i g kd 60 kdf, cw_i g dp 60 dpf, cw_i g cl 60 clf, cw_i g sa 60 saf, cw_i g ln 60 lnf, cw_l g bt 4000 btf] H locs := hZ
  have hna := h_S.1
  have hnu := h_S.2.1
  refine lv_aload_n hx hb dX7_rows_0 rfl (lv_at hl 0 rfl) ?_
  refine zz_get hC hZ 0 rfl zf_X7_10 rfl dX7_rows_1 ?_
  refine lv_iload_n hx hb dX7_rows_4 rfl (lv_at hl 1 rfl) ?_
  refine zz_iV (As := [.int x1]) (wc := [cw_k5 st (nI na) (nI nu) kd dp cl sa ln bt pn bf]) (wr := [cw_k6 h0 st mk lk ch ru mr md la, cw_i g kd 60 kdf, cw_i g dp 60 dpf, cw_i g cl 60 clf, cw_i g sa 60 saf, cw_i g ln 60 lnf, cw_l g bt 4000 btf]) (rest := []) hC hZ hs hl zc_X7_73 (co_has g st kd dp cl sa ln bt pn bf (nI na) (nI nu) x1) [1] [0, 2, 3, 4, 5, 6, 7] rfl rfl (by decide +kernel) (ci := 5) (q0 := 0) rfl rfl rfl rfl (Nat.le_of_ble_eq_true rfl) ⟨⟨Nat.le_of_ble_eq_true rfl, Nat.le_of_ble_eq_true rfl⟩, Nat.le_of_ble_eq_true rfl, Nat.le_of_ble_eq_true rfl⟩ dX7_rows_5 (fun r1 u2 H locs hp hZ => ?_)
  obtain ⟨rfl, rfl⟩ := hp
  have hZ : zz_Z g A s.heap [cw_k6 h0 st mk lk ch ru mr md la, cw_i g kd 60 kdf, cw_i g dp 60 dpf, cw_i g cl 60 clf, cw_i g sa 60 saf, cw_i g ln 60 lnf, cw_l g bt 4000 btf, cw_k5 st (nI na) (nI nu) kd dp cl sa ln bt pn bf] H locs := hZ
  refine lv_if_ne (tgt := 17) hx hb dX7_rows_8 (by decide) (fun c3 => ?_) (fun c3 => ?_)
  · obtain ⟨a1, ha1, ea1⟩ := zl_has (by omega) c3
    have hl : lv_has ls 3 [(0, .ref h0), (1, .int (nI a1)), (2, .int x2)] := by rw [← ea1]; exact hl
    have bd4 : a1 < 2 ^ 31 := by omega
    have d_a1 : x1.toNatClampNeg = a1 := by rw [ea1]; exact nI_clamp bd4
    obtain ⟨sz1, lz1, dz1, es1, el1, ed1, g11, g21, g31, g41⟩ := h_S.2.2 a1 ha1
    have bd5 : sz1 < 2 ^ 31 := by omega
    have d_sz1 : (saf a1).toNatClampNeg = sz1 := by rw [es1]; exact nI_clamp bd5
    have bd6 : lz1 < 2 ^ 31 := by omega
    have d_lz1 : (lnf a1).toNatClampNeg = lz1 := by rw [el1]; exact nI_clamp bd6
    have bd7 : dz1 < 2 ^ 31 := by omega
    have d_dz1 : (dpf a1).toNatClampNeg = dz1 := by rw [ed1]; exact nI_clamp bd7
    refine lv_aload_n hx hb dX7_rows_17 rfl (lv_at hl 0 rfl) ?_
    refine zz_get hC hZ 0 rfl zf_X7_10 rfl dX7_rows_18 ?_
    refine zz_get hC hZ 7 rfl zf_X7_76 rfl dX7_rows_21 ?_
    refine lv_iload_n hx hb dX7_rows_24 rfl (lv_at hl 1 rfl) ?_
    have bd8 : a1 < 60 := by omega
    refine zz_ialdn hC hZ 2 rfl bd8 (by decide) dX7_rows_25 ?_
    refine zz_topi (v := nI dz1) (ed1) ?_
    refine lv_iconst (v := 4) hx hb dX7_rows_26 (by decide) ?_
    refine lv_icmp_lt (tgt := 37) hx hb dX7_rows_27 (by decide) (fun c9 => ?_) (fun c9 => ?_)
    · have nc9 : dz1 < 4 := (nI_ltI bd7 (by decide)).mp (show nI (dz1) < nI (4) from c9)
      refine lv_aload_n hx hb dX7_rows_37 rfl (lv_at hl 0 rfl) ?_
      refine lv_aload_n hx hb dX7_rows_38 rfl (lv_at hl 0 rfl) ?_
      refine zz_get hC hZ 0 rfl zf_X7_10 rfl dX7_rows_39 ?_
      refine zz_get hC hZ 7 rfl zf_X7_80 rfl dX7_rows_42 ?_
      refine lv_iload_n hx hb dX7_rows_45 rfl (lv_at hl 1 rfl) ?_
      refine zz_ialdn hC hZ 1 rfl bd8 (by decide) dX7_rows_46 ?_
      refine lv_aload_n hx hb dX7_rows_47 rfl (lv_at hl 0 rfl) ?_
      refine zz_get hC hZ 0 rfl zf_X7_10 rfl dX7_rows_48 ?_
      refine zz_get hC hZ 7 rfl zf_X7_76 rfl dX7_rows_51 ?_
      refine lv_iload_n hx hb dX7_rows_54 rfl (lv_at hl 1 rfl) ?_
      refine zz_ialdn hC hZ 2 rfl bd8 (by decide) dX7_rows_55 ?_
      refine zz_topi (v := nI dz1) (ed1) ?_
      refine lv_iconst (v := 1) hx hb dX7_rows_56 (by decide) ?_
      refine lv_iadd hx hb dX7_rows_57 ?_
      refine zz_topi (v := nI (dz1 + 1)) (nI_1 _) ?_
      refine lv_aload_n hx hb dX7_rows_58 rfl (lv_at hl 0 rfl) ?_
      refine zz_get hC hZ 0 rfl zf_X7_10 rfl dX7_rows_59 ?_
      refine zz_get hC hZ 7 rfl zf_X7_83 rfl dX7_rows_62 ?_
      refine lv_iload_n hx hb dX7_rows_65 rfl (lv_at hl 1 rfl) ?_
      refine zz_ialdn hC hZ 3 rfl bd8 (by decide) dX7_rows_66 ?_
      refine lv_iload_n hx hb dX7_rows_67 rfl (lv_at hl 2 rfl) ?_
      refine zz_iV (As := [.int (kdf a1), .int (nI (dz1 + 1)), .int (clf a1), .int x2]) (wc := [cw_k6 h0 st mk lk ch ru mr md la, cw_k5 st (nI na) (nI nu) kd dp cl sa ln bt pn bf, cw_i g kd 60 kdf, cw_i g dp 60 dpf, cw_i g cl 60 clf, cw_i g sa 60 saf, cw_i g ln 60 lnf, cw_l g bt 4000 btf]) (wr := []) (rest := []) hC hZ hs hl zc_X7_69 (co_newArray g h0 st mk lk ch ru mr kd dp cl sa ln bt pn bf md la na nu kdf dpf clf saf lnf btf (kdf a1) (dz1 + 1) (clf a1) x2 (h_S) (by omega)) [0, 7, 1, 2, 3, 4, 5, 6] [] rfl rfl (by decide +kernel) (ci := 6) (q0 := 0) rfl rfl rfl rfl (Nat.le_of_ble_eq_true rfl) ⟨⟨Nat.le_of_ble_eq_true rfl, Nat.le_of_ble_eq_true rfl⟩, Nat.le_of_ble_eq_true rfl, Nat.le_of_ble_eq_true rfl⟩ dX7_rows_68 (fun r10 u11 H locs hp hZ => ?_)
      obtain ⟨la2_12, na2_13, nu2_14, kd2_15, dp2_16, cl2_17, sa2_18, ln2_19, bt2_20, ft21, f22, f23, f24, f25, rfl⟩ := hp
      have hZ : zz_Z g A s.heap [cw_k6 h0 st mk lk ch ru mr md la2_12, cw_k5 st (nI na2_13) (nI nu2_14) kd dp cl sa ln bt pn bf, cw_i g kd 60 kd2_15, cw_i g dp 60 dp2_16, cw_i g cl 60 cl2_17, cw_i g sa 60 sa2_18, cw_i g ln 60 ln2_19, cw_l g bt 4000 bt2_20] H locs := hZ
      have d_r10 : (fo_co_newArray na nu kdf dpf clf saf lnf btf (kdf a1) (dz1 + 1) (clf a1) x2).1 = r10 := by rw [← ft21]
      have d_na2_13 : (fo_co_newArray na nu kdf dpf clf saf lnf btf (kdf a1) (dz1 + 1) (clf a1) x2).2.1 = na2_13 := by rw [← ft21]
      have d_nu2_14 : (fo_co_newArray na nu kdf dpf clf saf lnf btf (kdf a1) (dz1 + 1) (clf a1) x2).2.2.1 = nu2_14 := by rw [← ft21]
      have d_kd2_15 : (fo_co_newArray na nu kdf dpf clf saf lnf btf (kdf a1) (dz1 + 1) (clf a1) x2).2.2.2.1 = kd2_15 := by rw [← ft21]
      have d_dp2_16 : (fo_co_newArray na nu kdf dpf clf saf lnf btf (kdf a1) (dz1 + 1) (clf a1) x2).2.2.2.2.1 = dp2_16 := by rw [← ft21]
      have d_cl2_17 : (fo_co_newArray na nu kdf dpf clf saf lnf btf (kdf a1) (dz1 + 1) (clf a1) x2).2.2.2.2.2.1 = cl2_17 := by rw [← ft21]
      have d_sa2_18 : (fo_co_newArray na nu kdf dpf clf saf lnf btf (kdf a1) (dz1 + 1) (clf a1) x2).2.2.2.2.2.2.1 = sa2_18 := by rw [← ft21]
      have d_ln2_19 : (fo_co_newArray na nu kdf dpf clf saf lnf btf (kdf a1) (dz1 + 1) (clf a1) x2).2.2.2.2.2.2.2.1 = ln2_19 := by rw [← ft21]
      have d_bt2_20 : (fo_co_newArray na nu kdf dpf clf saf lnf btf (kdf a1) (dz1 + 1) (clf a1) x2).2.2.2.2.2.2.2.2 = bt2_20 := by rw [← ft21]
      exact zz_iret hC hZ (⟨la2_12, na2_13, nu2_14, kd2_15, dp2_16, cl2_17, sa2_18, ln2_19, bt2_20, by refine Eq.symm ?_; rw [fo_cx_rows]; refine (if_neg (by (try simp only [d_a1, d_sz1, d_lz1, d_dz1, d_r10, d_na2_13, d_nu2_14, d_kd2_15, d_dp2_16, d_cl2_17, d_sa2_18, d_ln2_19, d_bt2_20]); exact c3)).trans ?_; refine (if_pos (by (try simp only [d_a1, d_sz1, d_lz1, d_dz1, d_r10, d_na2_13, d_nu2_14, d_kd2_15, d_dp2_16, d_cl2_17, d_sa2_18, d_ln2_19, d_bt2_20]); exact c9)).trans ?_; first | (simp only [d_a1, d_sz1, d_lz1, d_dz1, d_r10, d_na2_13, d_nu2_14, d_kd2_15, d_dp2_16, d_cl2_17, d_sa2_18, d_ln2_19, d_bt2_20]; done) | rfl, f22, f23, f24, rfl⟩) (Nat.le_of_ble_eq_true rfl) (Nat.le_of_ble_eq_true rfl) dX7_rows_71
    · have nc9 : ¬ dz1 < 4 := fun zq => c9 (show nI (dz1) < nI (4) from (nI_ltI bd7 (by decide)).mpr zq)
      refine lv_aload_n hx hb dX7_rows_30 rfl (lv_at hl 0 rfl) ?_
      refine lv_bipush (v := 9) hx hb dX7_rows_31 (by decide) ?_
      refine zz_iV (As := [.int 9]) (wc := [cw_k6 h0 st mk lk ch ru mr md la]) (wr := [cw_i g kd 60 kdf, cw_i g dp 60 dpf, cw_i g cl 60 clf, cw_i g sa 60 saf, cw_i g ln 60 lnf, cw_l g bt 4000 btf, cw_k5 st (nI na) (nI nu) kd dp cl sa ln bt pn bf]) (rest := []) hC hZ hs hl zc_X7_65 (co_fail g h0 st mk lk ch ru mr md la 9) [0] [1, 2, 3, 4, 5, 6, 7] rfl rfl (by decide +kernel) (ci := 6) (q0 := 0) rfl rfl rfl rfl (Nat.le_of_ble_eq_true rfl) ⟨⟨Nat.le_of_ble_eq_true rfl, Nat.le_of_ble_eq_true rfl⟩, Nat.le_of_ble_eq_true rfl, Nat.le_of_ble_eq_true rfl⟩ dX7_rows_33 (fun r26 u27 H locs hp hZ => ?_)
      obtain ⟨rfl, rfl⟩ := hp
      have hZ : zz_Z g A s.heap [cw_i g kd 60 kdf, cw_i g dp 60 dpf, cw_i g cl 60 clf, cw_i g sa 60 saf, cw_i g ln 60 lnf, cw_l g bt 4000 btf, cw_k5 st (nI na) (nI nu) kd dp cl sa ln bt pn bf, cw_k6 h0 st mk lk ch ru mr md 9] H locs := hZ
      have hZ : zz_Z g A s.heap [cw_k6 h0 st mk lk ch ru mr md 9, cw_k5 st (nI na) (nI nu) kd dp cl sa ln bt pn bf, cw_i g kd 60 kdf, cw_i g dp 60 dpf, cw_i g cl 60 clf, cw_i g sa 60 saf, cw_i g ln 60 lnf, cw_l g bt 4000 btf] H locs := hZ.sub [7, 6, 0, 1, 2, 3, 4, 5] (by decide +kernel) rfl
      exact zz_iret hC hZ (⟨9, na, nu, kdf, dpf, clf, saf, lnf, btf, by refine Eq.symm ?_; rw [fo_cx_rows]; refine (if_neg (by (try simp only [d_a1, d_sz1, d_lz1, d_dz1]); exact c3)).trans ?_; refine (if_neg (by (try simp only [d_a1, d_sz1, d_lz1, d_dz1]); exact c9)).trans ?_; first | (simp only [d_a1, d_sz1, d_lz1, d_dz1]; done) | rfl, h_S, Nat.le_refl _, zz_EX.rf, rfl⟩) (Nat.le_of_ble_eq_true rfl) (Nat.le_of_ble_eq_true rfl) dX7_rows_36
  · refine lv_aload_n hx hb dX7_rows_11 rfl (lv_at hl 0 rfl) ?_
    refine lv_iconst (v := 5) hx hb dX7_rows_12 (by decide) ?_
    refine zz_iV (As := [.int 5]) (wc := [cw_k6 h0 st mk lk ch ru mr md la]) (wr := [cw_i g kd 60 kdf, cw_i g dp 60 dpf, cw_i g cl 60 clf, cw_i g sa 60 saf, cw_i g ln 60 lnf, cw_l g bt 4000 btf, cw_k5 st (nI na) (nI nu) kd dp cl sa ln bt pn bf]) (rest := []) hC hZ hs hl zc_X7_65 (co_fail g h0 st mk lk ch ru mr md la 5) [0] [1, 2, 3, 4, 5, 6, 7] rfl rfl (by decide +kernel) (ci := 6) (q0 := 0) rfl rfl rfl rfl (Nat.le_of_ble_eq_true rfl) ⟨⟨Nat.le_of_ble_eq_true rfl, Nat.le_of_ble_eq_true rfl⟩, Nat.le_of_ble_eq_true rfl, Nat.le_of_ble_eq_true rfl⟩ dX7_rows_13 (fun r28 u29 H locs hp hZ => ?_)
    obtain ⟨rfl, rfl⟩ := hp
    have hZ : zz_Z g A s.heap [cw_i g kd 60 kdf, cw_i g dp 60 dpf, cw_i g cl 60 clf, cw_i g sa 60 saf, cw_i g ln 60 lnf, cw_l g bt 4000 btf, cw_k5 st (nI na) (nI nu) kd dp cl sa ln bt pn bf, cw_k6 h0 st mk lk ch ru mr md 5] H locs := hZ
    have hZ : zz_Z g A s.heap [cw_k6 h0 st mk lk ch ru mr md 5, cw_k5 st (nI na) (nI nu) kd dp cl sa ln bt pn bf, cw_i g kd 60 kdf, cw_i g dp 60 dpf, cw_i g cl 60 clf, cw_i g sa 60 saf, cw_i g ln 60 lnf, cw_l g bt 4000 btf] H locs := hZ.sub [7, 6, 0, 1, 2, 3, 4, 5] (by decide +kernel) rfl
    exact zz_iret hC hZ (⟨5, na, nu, kdf, dpf, clf, saf, lnf, btf, by show _ = _; rw [fo_cx_rows]; rw [if_pos c3], h_S, Nat.le_refl _, zz_EX.rf, rfl⟩) (Nat.le_of_ble_eq_true rfl) (Nat.le_of_ble_eq_true rfl) dX7_rows_16
theorem dg_X7_copy_0 : (decode cX7_copy 0 = .ok (.aload_n 0, 1)) ∧ (decode cX7_copy 1 = .ok (.getfield 10, 3)) ∧ (decode cX7_copy 4 = .ok (.iload_n 1, 1)) ∧ (decode cX7_copy 5 = .ok (.invokevirtual 73, 3)) ∧ (decode cX7_copy 8 = .ok (.ifCond .ne 9, 3)) ∧ (decode cX7_copy 11 = .ok (.aload_n 0, 1)) ∧ (decode cX7_copy 12 = .ok (.iconst 5, 1)) ∧ (decode cX7_copy 13 = .ok (.invokevirtual 65, 3)) ∧ (decode cX7_copy 16 = .ok (.ireturn, 1)) ∧ (decode cX7_copy 17 = .ok (.aload_n 0, 1)) ∧ (decode cX7_copy 18 = .ok (.aload_n 0, 1)) ∧ (decode cX7_copy 19 = .ok (.getfield 10, 3)) ∧ (decode cX7_copy 22 = .ok (.getfield 80, 3)) ∧ (decode cX7_copy 25 = .ok (.iload_n 1, 1)) ∧ (decode cX7_copy 26 = .ok (.iaload, 1)) ∧ (decode cX7_copy 27 = .ok (.aload_n 0, 1)) := by decide +kernel
theorem dX7_copy_0 : decode cX7_copy 0 = .ok (.aload_n 0, 1) := dg_X7_copy_0.1
theorem dX7_copy_1 : decode cX7_copy 1 = .ok (.getfield 10, 3) := dg_X7_copy_0.2.1
theorem dX7_copy_4 : decode cX7_copy 4 = .ok (.iload_n 1, 1) := dg_X7_copy_0.2.2.1
theorem dX7_copy_5 : decode cX7_copy 5 = .ok (.invokevirtual 73, 3) := dg_X7_copy_0.2.2.2.1
theorem dX7_copy_8 : decode cX7_copy 8 = .ok (.ifCond .ne 9, 3) := dg_X7_copy_0.2.2.2.2.1
theorem dX7_copy_11 : decode cX7_copy 11 = .ok (.aload_n 0, 1) := dg_X7_copy_0.2.2.2.2.2.1
theorem dX7_copy_12 : decode cX7_copy 12 = .ok (.iconst 5, 1) := dg_X7_copy_0.2.2.2.2.2.2.1
theorem dX7_copy_13 : decode cX7_copy 13 = .ok (.invokevirtual 65, 3) := dg_X7_copy_0.2.2.2.2.2.2.2.1
theorem dX7_copy_16 : decode cX7_copy 16 = .ok (.ireturn, 1) := dg_X7_copy_0.2.2.2.2.2.2.2.2.1
theorem dX7_copy_17 : decode cX7_copy 17 = .ok (.aload_n 0, 1) := dg_X7_copy_0.2.2.2.2.2.2.2.2.2.1
theorem dX7_copy_18 : decode cX7_copy 18 = .ok (.aload_n 0, 1) := dg_X7_copy_0.2.2.2.2.2.2.2.2.2.2.1
theorem dX7_copy_19 : decode cX7_copy 19 = .ok (.getfield 10, 3) := dg_X7_copy_0.2.2.2.2.2.2.2.2.2.2.2.1
theorem dX7_copy_22 : decode cX7_copy 22 = .ok (.getfield 80, 3) := dg_X7_copy_0.2.2.2.2.2.2.2.2.2.2.2.2.1
theorem dX7_copy_25 : decode cX7_copy 25 = .ok (.iload_n 1, 1) := dg_X7_copy_0.2.2.2.2.2.2.2.2.2.2.2.2.2.1
theorem dX7_copy_26 : decode cX7_copy 26 = .ok (.iaload, 1) := dg_X7_copy_0.2.2.2.2.2.2.2.2.2.2.2.2.2.2.1
theorem dX7_copy_27 : decode cX7_copy 27 = .ok (.aload_n 0, 1) := dg_X7_copy_0.2.2.2.2.2.2.2.2.2.2.2.2.2.2.2
theorem dg_X7_copy_28 : (decode cX7_copy 28 = .ok (.getfield 10, 3)) ∧ (decode cX7_copy 31 = .ok (.getfield 76, 3)) ∧ (decode cX7_copy 34 = .ok (.iload_n 1, 1)) ∧ (decode cX7_copy 35 = .ok (.iaload, 1)) ∧ (decode cX7_copy 36 = .ok (.aload_n 0, 1)) ∧ (decode cX7_copy 37 = .ok (.getfield 10, 3)) ∧ (decode cX7_copy 40 = .ok (.getfield 83, 3)) ∧ (decode cX7_copy 43 = .ok (.iload_n 1, 1)) ∧ (decode cX7_copy 44 = .ok (.iaload, 1)) ∧ (decode cX7_copy 45 = .ok (.iload_n 2, 1)) ∧ (decode cX7_copy 46 = .ok (.invokevirtual 69, 3)) ∧ (decode cX7_copy 49 = .ok (.istore_n 3, 1)) ∧ (decode cX7_copy 50 = .ok (.iload_n 3, 1)) ∧ (decode cX7_copy 51 = .ok (.ifCond .lt 55, 3)) ∧ (decode cX7_copy 54 = .ok (.iload_n 2, 1)) ∧ (decode cX7_copy 55 = .ok (.aload_n 0, 1)) := by decide +kernel
theorem dX7_copy_28 : decode cX7_copy 28 = .ok (.getfield 10, 3) := dg_X7_copy_28.1
theorem dX7_copy_31 : decode cX7_copy 31 = .ok (.getfield 76, 3) := dg_X7_copy_28.2.1
theorem dX7_copy_34 : decode cX7_copy 34 = .ok (.iload_n 1, 1) := dg_X7_copy_28.2.2.1
theorem dX7_copy_35 : decode cX7_copy 35 = .ok (.iaload, 1) := dg_X7_copy_28.2.2.2.1
theorem dX7_copy_36 : decode cX7_copy 36 = .ok (.aload_n 0, 1) := dg_X7_copy_28.2.2.2.2.1
theorem dX7_copy_37 : decode cX7_copy 37 = .ok (.getfield 10, 3) := dg_X7_copy_28.2.2.2.2.2.1
theorem dX7_copy_40 : decode cX7_copy 40 = .ok (.getfield 83, 3) := dg_X7_copy_28.2.2.2.2.2.2.1
theorem dX7_copy_43 : decode cX7_copy 43 = .ok (.iload_n 1, 1) := dg_X7_copy_28.2.2.2.2.2.2.2.1
theorem dX7_copy_44 : decode cX7_copy 44 = .ok (.iaload, 1) := dg_X7_copy_28.2.2.2.2.2.2.2.2.1
theorem dX7_copy_45 : decode cX7_copy 45 = .ok (.iload_n 2, 1) := dg_X7_copy_28.2.2.2.2.2.2.2.2.2.1
theorem dX7_copy_46 : decode cX7_copy 46 = .ok (.invokevirtual 69, 3) := dg_X7_copy_28.2.2.2.2.2.2.2.2.2.2.1
theorem dX7_copy_49 : decode cX7_copy 49 = .ok (.istore_n 3, 1) := dg_X7_copy_28.2.2.2.2.2.2.2.2.2.2.2.1
theorem dX7_copy_50 : decode cX7_copy 50 = .ok (.iload_n 3, 1) := dg_X7_copy_28.2.2.2.2.2.2.2.2.2.2.2.2.1
theorem dX7_copy_51 : decode cX7_copy 51 = .ok (.ifCond .lt 55, 3) := dg_X7_copy_28.2.2.2.2.2.2.2.2.2.2.2.2.2.1
theorem dX7_copy_54 : decode cX7_copy 54 = .ok (.iload_n 2, 1) := dg_X7_copy_28.2.2.2.2.2.2.2.2.2.2.2.2.2.2.1
theorem dX7_copy_55 : decode cX7_copy 55 = .ok (.aload_n 0, 1) := dg_X7_copy_28.2.2.2.2.2.2.2.2.2.2.2.2.2.2.2
theorem dg_X7_copy_56 : (decode cX7_copy 56 = .ok (.getfield 10, 3)) ∧ (decode cX7_copy 59 = .ok (.getfield 103, 3)) ∧ (decode cX7_copy 62 = .ok (.iload_n 1, 1)) ∧ (decode cX7_copy 63 = .ok (.iaload, 1)) ∧ (decode cX7_copy 64 = .ok (.invokestatic 185, 3)) ∧ (decode cX7_copy 67 = .ok (.istore 4, 2)) ∧ (decode cX7_copy 69 = .ok (.aload_n 0, 1)) ∧ (decode cX7_copy 70 = .ok (.getfield 10, 3)) ∧ (decode cX7_copy 73 = .ok (.getfield 116, 3)) ∧ (decode cX7_copy 76 = .ok (.aload_n 0, 1)) ∧ (decode cX7_copy 77 = .ok (.getfield 10, 3)) ∧ (decode cX7_copy 80 = .ok (.getfield 120, 3)) ∧ (decode cX7_copy 83 = .ok (.iload_n 1, 1)) ∧ (decode cX7_copy 84 = .ok (.iaload, 1)) ∧ (decode cX7_copy 85 = .ok (.aload_n 0, 1)) ∧ (decode cX7_copy 86 = .ok (.getfield 10, 3)) := by decide +kernel
theorem dX7_copy_56 : decode cX7_copy 56 = .ok (.getfield 10, 3) := dg_X7_copy_56.1
theorem dX7_copy_59 : decode cX7_copy 59 = .ok (.getfield 103, 3) := dg_X7_copy_56.2.1
theorem dX7_copy_62 : decode cX7_copy 62 = .ok (.iload_n 1, 1) := dg_X7_copy_56.2.2.1
theorem dX7_copy_63 : decode cX7_copy 63 = .ok (.iaload, 1) := dg_X7_copy_56.2.2.2.1
theorem dX7_copy_64 : decode cX7_copy 64 = .ok (.invokestatic 185, 3) := dg_X7_copy_56.2.2.2.2.1
theorem dX7_copy_67 : decode cX7_copy 67 = .ok (.istore 4, 2) := dg_X7_copy_56.2.2.2.2.2.1
theorem dX7_copy_69 : decode cX7_copy 69 = .ok (.aload_n 0, 1) := dg_X7_copy_56.2.2.2.2.2.2.1
theorem dX7_copy_70 : decode cX7_copy 70 = .ok (.getfield 10, 3) := dg_X7_copy_56.2.2.2.2.2.2.2.1
theorem dX7_copy_73 : decode cX7_copy 73 = .ok (.getfield 116, 3) := dg_X7_copy_56.2.2.2.2.2.2.2.2.1
theorem dX7_copy_76 : decode cX7_copy 76 = .ok (.aload_n 0, 1) := dg_X7_copy_56.2.2.2.2.2.2.2.2.2.1
theorem dX7_copy_77 : decode cX7_copy 77 = .ok (.getfield 10, 3) := dg_X7_copy_56.2.2.2.2.2.2.2.2.2.2.1
theorem dX7_copy_80 : decode cX7_copy 80 = .ok (.getfield 120, 3) := dg_X7_copy_56.2.2.2.2.2.2.2.2.2.2.2.1
theorem dX7_copy_83 : decode cX7_copy 83 = .ok (.iload_n 1, 1) := dg_X7_copy_56.2.2.2.2.2.2.2.2.2.2.2.2.1
theorem dX7_copy_84 : decode cX7_copy 84 = .ok (.iaload, 1) := dg_X7_copy_56.2.2.2.2.2.2.2.2.2.2.2.2.2.1
theorem dX7_copy_85 : decode cX7_copy 85 = .ok (.aload_n 0, 1) := dg_X7_copy_56.2.2.2.2.2.2.2.2.2.2.2.2.2.2.1
theorem dX7_copy_86 : decode cX7_copy 86 = .ok (.getfield 10, 3) := dg_X7_copy_56.2.2.2.2.2.2.2.2.2.2.2.2.2.2.2
theorem dg_X7_copy_89 : (decode cX7_copy 89 = .ok (.getfield 116, 3)) ∧ (decode cX7_copy 92 = .ok (.aload_n 0, 1)) ∧ (decode cX7_copy 93 = .ok (.getfield 10, 3)) ∧ (decode cX7_copy 96 = .ok (.getfield 120, 3)) ∧ (decode cX7_copy 99 = .ok (.iload_n 3, 1)) ∧ (decode cX7_copy 100 = .ok (.iaload, 1)) ∧ (decode cX7_copy 101 = .ok (.iload 4, 2)) ∧ (decode cX7_copy 103 = .ok (.invokestatic 179, 3)) ∧ (decode cX7_copy 106 = .ok (.iload_n 3, 1)) ∧ (decode cX7_copy 107 = .ok (.ireturn, 1)) := by decide +kernel
theorem dX7_copy_89 : decode cX7_copy 89 = .ok (.getfield 116, 3) := dg_X7_copy_89.1
theorem dX7_copy_92 : decode cX7_copy 92 = .ok (.aload_n 0, 1) := dg_X7_copy_89.2.1
theorem dX7_copy_93 : decode cX7_copy 93 = .ok (.getfield 10, 3) := dg_X7_copy_89.2.2.1
theorem dX7_copy_96 : decode cX7_copy 96 = .ok (.getfield 120, 3) := dg_X7_copy_89.2.2.2.1
theorem dX7_copy_99 : decode cX7_copy 99 = .ok (.iload_n 3, 1) := dg_X7_copy_89.2.2.2.2.1
theorem dX7_copy_100 : decode cX7_copy 100 = .ok (.iaload, 1) := dg_X7_copy_89.2.2.2.2.2.1
theorem dX7_copy_101 : decode cX7_copy 101 = .ok (.iload 4, 2) := dg_X7_copy_89.2.2.2.2.2.2.1
theorem dX7_copy_103 : decode cX7_copy 103 = .ok (.invokestatic 179, 3) := dg_X7_copy_89.2.2.2.2.2.2.2.1
theorem dX7_copy_106 : decode cX7_copy 106 = .ok (.iload_n 3, 1) := dg_X7_copy_89.2.2.2.2.2.2.2.2.1
theorem dX7_copy_107 : decode cX7_copy 107 = .ok (.ireturn, 1) := dg_X7_copy_89.2.2.2.2.2.2.2.2.2
theorem zk_51 : Cond.fieldLink RX7 103 RX6 "length" "[I" ∈ zz_w := zz_in (List.mem_append_right _ (List.mem_append_left _ (List.mem_of_getElem? (i := 51) (by decide +kernel)))) rfl
theorem zf_X7_103 : zz_f RX7 103 5 6 := ⟨RX6, TX6, 10, rfl, zi_X6, by decide, zk_51⟩
theorem zk_444 : Cond.methodLink RX7 185 Lib.Math.min.name ∈ zz_w := zz_in (List.mem_append_right _ (List.mem_append_right _ (List.mem_append_left _ (List.mem_of_getElem? (i := 204) (by decide +kernel))))) rfl
theorem zk_445 : Cond.static Lib.Math.min.name ∈ zz_w := zz_in (List.mem_append_right _ (List.mem_append_right _ (List.mem_append_left _ (List.mem_of_getElem? (i := 205) (by decide +kernel))))) rfl
set_option maxRecDepth 20000 in
theorem zk_446 : Cond.code Lib.Math.min.name Lib.Math.min.code 2 (some .int) ∈ zz_w := zz_in (List.mem_append_right _ (List.mem_append_right _ (List.mem_append_left _ (List.mem_of_getElem? (i := 206) (rfl))))) rfl
theorem zk_58 : Cond.fieldLink RX7 116 RX6 "bits" "[J" ∈ zz_w := zz_in (List.mem_append_right _ (List.mem_append_left _ (List.mem_of_getElem? (i := 58) (by decide +kernel)))) rfl
theorem zf_X7_116 : zz_f RX7 116 5 7 := ⟨RX6, TX6, 10, rfl, zi_X6, by decide, zk_58⟩
theorem zk_47 : Cond.fieldLink RX7 120 RX6 "start" "[I" ∈ zz_w := zz_in (List.mem_append_right _ (List.mem_append_left _ (List.mem_of_getElem? (i := 47) (by decide +kernel)))) rfl
theorem zf_X7_120 : zz_f RX7 120 5 5 := ⟨RX6, TX6, 10, rfl, zi_X6, by decide, zk_47⟩
theorem zk_437 : Cond.methodLink RX7 179 arraycopyName ∈ zz_w := zz_in (List.mem_append_right _ (List.mem_append_right _ (List.mem_append_left _ (List.mem_of_getElem? (i := 197) (by decide +kernel))))) rfl
def fo_cx_copy (na : Nat) (nu : Nat) (kdf : Nat → Int32) (dpf : Nat → Int32) (clf : Nat → Int32) (saf : Nat → Int32) (lnf : Nat → Int32) (btf : Nat → Int64) (x1 : Int32) (x2 : Int32) : (Int32) × (Nat) × (Nat) × (Nat → Int32) × (Nat → Int32) × (Nat → Int32) × (Nat → Int32) × (Nat → Int32) × (Nat → Int64) := (if (fn_co_has (nI na) x1) = 0 then (-5, na, nu, kdf, dpf, clf, saf, lnf, btf) else (if ((fo_co_newArray na nu kdf dpf clf saf lnf btf (kdf x1.toNatClampNeg) ((dpf x1.toNatClampNeg).toNatClampNeg) (clf x1.toNatClampNeg) x2).1) < 0 then (((fo_co_newArray na nu kdf dpf clf saf lnf btf (kdf x1.toNatClampNeg) ((dpf x1.toNatClampNeg).toNatClampNeg) (clf x1.toNatClampNeg) x2).1), ((fo_co_newArray na nu kdf dpf clf saf lnf btf (kdf x1.toNatClampNeg) ((dpf x1.toNatClampNeg).toNatClampNeg) (clf x1.toNatClampNeg) x2).2.1), ((fo_co_newArray na nu kdf dpf clf saf lnf btf (kdf x1.toNatClampNeg) ((dpf x1.toNatClampNeg).toNatClampNeg) (clf x1.toNatClampNeg) x2).2.2.1), ((fo_co_newArray na nu kdf dpf clf saf lnf btf (kdf x1.toNatClampNeg) ((dpf x1.toNatClampNeg).toNatClampNeg) (clf x1.toNatClampNeg) x2).2.2.2.1), ((fo_co_newArray na nu kdf dpf clf saf lnf btf (kdf x1.toNatClampNeg) ((dpf x1.toNatClampNeg).toNatClampNeg) (clf x1.toNatClampNeg) x2).2.2.2.2.1), ((fo_co_newArray na nu kdf dpf clf saf lnf btf (kdf x1.toNatClampNeg) ((dpf x1.toNatClampNeg).toNatClampNeg) (clf x1.toNatClampNeg) x2).2.2.2.2.2.1), ((fo_co_newArray na nu kdf dpf clf saf lnf btf (kdf x1.toNatClampNeg) ((dpf x1.toNatClampNeg).toNatClampNeg) (clf x1.toNatClampNeg) x2).2.2.2.2.2.2.1), ((fo_co_newArray na nu kdf dpf clf saf lnf btf (kdf x1.toNatClampNeg) ((dpf x1.toNatClampNeg).toNatClampNeg) (clf x1.toNatClampNeg) x2).2.2.2.2.2.2.2.1), ((fo_co_newArray na nu kdf dpf clf saf lnf btf (kdf x1.toNatClampNeg) ((dpf x1.toNatClampNeg).toNatClampNeg) (clf x1.toNatClampNeg) x2).2.2.2.2.2.2.2.2)) else (nI na, ((fo_co_newArray na nu kdf dpf clf saf lnf btf (kdf x1.toNatClampNeg) ((dpf x1.toNatClampNeg).toNatClampNeg) (clf x1.toNatClampNeg) x2).2.1), ((fo_co_newArray na nu kdf dpf clf saf lnf btf (kdf x1.toNatClampNeg) ((dpf x1.toNatClampNeg).toNatClampNeg) (clf x1.toNatClampNeg) x2).2.2.1), ((fo_co_newArray na nu kdf dpf clf saf lnf btf (kdf x1.toNatClampNeg) ((dpf x1.toNatClampNeg).toNatClampNeg) (clf x1.toNatClampNeg) x2).2.2.2.1), ((fo_co_newArray na nu kdf dpf clf saf lnf btf (kdf x1.toNatClampNeg) ((dpf x1.toNatClampNeg).toNatClampNeg) (clf x1.toNatClampNeg) x2).2.2.2.2.1), ((fo_co_newArray na nu kdf dpf clf saf lnf btf (kdf x1.toNatClampNeg) ((dpf x1.toNatClampNeg).toNatClampNeg) (clf x1.toNatClampNeg) x2).2.2.2.2.2.1), ((fo_co_newArray na nu kdf dpf clf saf lnf btf (kdf x1.toNatClampNeg) ((dpf x1.toNatClampNeg).toNatClampNeg) (clf x1.toNatClampNeg) x2).2.2.2.2.2.2.1), ((fo_co_newArray na nu kdf dpf clf saf lnf btf (kdf x1.toNatClampNeg) ((dpf x1.toNatClampNeg).toNatClampNeg) (clf x1.toNatClampNeg) x2).2.2.2.2.2.2.2.1), (va_cpy ((fo_co_newArray na nu kdf dpf clf saf lnf btf (kdf x1.toNatClampNeg) ((dpf x1.toNatClampNeg).toNatClampNeg) (clf x1.toNatClampNeg) x2).2.2.2.2.2.2.2.2) ((fo_co_newArray na nu kdf dpf clf saf lnf btf (kdf x1.toNatClampNeg) ((dpf x1.toNatClampNeg).toNatClampNeg) (clf x1.toNatClampNeg) x2).2.2.2.2.2.2.2.2) ((saf x1.toNatClampNeg).toNatClampNeg) nu (min ((lnf x1.toNatClampNeg).toNatClampNeg) x2.toNatClampNeg)))))
abbrev rm_cx_copy : Room := { frames := 2, cells := 0, slots := 0, locals := 60 }
abbrev po_cx_copy (g : zz_G) (h0 : Nat) (st : Nat) (mk : Nat) (lk : Nat) (ch : Nat) (ru : Nat) (mr : Nat) (kd : Nat) (dp : Nat) (cl : Nat) (sa : Nat) (ln : Nat) (bt : Nat) (pn : Nat) (bf : Nat) (md : Int32) (la : Int32) (na : Nat) (nu : Nat) (kdf : Nat → Int32) (dpf : Nat → Int32) (clf : Nat → Int32) (saf : Nat → Int32) (lnf : Nat → Int32) (btf : Nat → Int64) (x1 : Int32) (x2 : Int32) (h_S : zz_SI na nu dpf saf lnf) : Int32 → va_W → Prop := fun (r : Int32) (u : va_W) => ∃ (la2 : Int32) (na2 : Nat) (nu2 : Nat) (kd2 : Nat → Int32) (dp2 : Nat → Int32) (cl2 : Nat → Int32) (sa2 : Nat → Int32) (ln2 : Nat → Int32) (bt2 : Nat → Int64), (r, na2, nu2, kd2, dp2, cl2, sa2, ln2, bt2) = fo_cx_copy na nu kdf dpf clf saf lnf btf x1 x2 ∧ (zz_SI na2 nu2 dp2 sa2 ln2) ∧ (na ≤ na2) ∧ (zz_EX na dpf saf lnf dp2 sa2 ln2) ∧ u = [cw_k6 h0 st mk lk ch ru mr md la2, cw_k5 st (nI na2) (nI nu2) kd dp cl sa ln bt pn bf, cw_i g kd 60 kd2, cw_i g dp 60 dp2, cw_i g cl 60 cl2, cw_i g sa 60 sa2, cw_i g ln 60 ln2, cw_l g bt 4000 bt2]
set_option maxHeartbeats 4000000 in
set_option maxRecDepth 100000 in
theorem cx_copy (g : zz_G) (h0 : Nat) (st : Nat) (mk : Nat) (lk : Nat) (ch : Nat) (ru : Nat) (mr : Nat) (kd : Nat) (dp : Nat) (cl : Nat) (sa : Nat) (ln : Nat) (bt : Nat) (pn : Nat) (bf : Nat) (md : Int32) (la : Int32) (na : Nat) (nu : Nat) (kdf : Nat → Int32) (dpf : Nat → Int32) (clf : Nat → Int32) (saf : Nat → Int32) (lnf : Nat → Int32) (btf : Nat → Int64) (x1 : Int32) (x2 : Int32) (h_S : zz_SI na nu dpf saf lnf) : zz_I g yX7_copy (.code yX7_copy cX7_copy 5 (some .int)) rm_cx_copy [.ref h0, .int x1, .int x2] [cw_k6 h0 st mk lk ch ru mr md la, cw_k5 st (nI na) (nI nu) kd dp cl sa ln bt pn bf, cw_i g kd 60 kdf, cw_i g dp 60 dpf, cw_i g cl 60 clf, cw_i g sa 60 saf, cw_i g ln 60 lnf, cw_l g bt 4000 btf] (po_cx_copy g h0 st mk lk ch ru mr kd dp cl sa ln bt pn bf md la na nu kdf dpf clf saf lnf btf x1 x2 h_S) := by
  refine zz_I.intro (own := RX7) (cc := cX7_copy) (nL := 5) (by decide) rfl (Nat.le_of_ble_eq_true rfl) ?_
  intro p l e s m args below meth c A H locs ls hC hnm hs hZ hl
  obtain ⟨hx, hb, hml, hown, hts, hr, hlocks, hK⟩ := id hC
  have hl : lv_has ls 5 [(0, .ref h0), (1, .int x1), (2, .int x2)] := hl
  have hZ : zz_Z g A s.heap [cw_k6 h0 st mk lk ch ru mr md la, cw_k5 st (nI na) (nI nu) kd dp cl sa ln bt pn bf, cw_i g kd 60 kdf, cw_i g dp 60 dpf, cw_i g cl 60 clf, cw_i g sa 60 saf, cw_i g ln 60 lnf, cw_l g bt 4000 btf] H locs := hZ
  have hna := h_S.1
  have hnu := h_S.2.1
  refine lv_aload_n hx hb dX7_copy_0 rfl (lv_at hl 0 rfl) ?_
  refine zz_get hC hZ 0 rfl zf_X7_10 rfl dX7_copy_1 ?_
  refine lv_iload_n hx hb dX7_copy_4 rfl (lv_at hl 1 rfl) ?_
  refine zz_iV (As := [.int x1]) (wc := [cw_k5 st (nI na) (nI nu) kd dp cl sa ln bt pn bf]) (wr := [cw_k6 h0 st mk lk ch ru mr md la, cw_i g kd 60 kdf, cw_i g dp 60 dpf, cw_i g cl 60 clf, cw_i g sa 60 saf, cw_i g ln 60 lnf, cw_l g bt 4000 btf]) (rest := []) hC hZ hs hl zc_X7_73 (co_has g st kd dp cl sa ln bt pn bf (nI na) (nI nu) x1) [1] [0, 2, 3, 4, 5, 6, 7] rfl rfl (by decide +kernel) (ci := 5) (q0 := 0) rfl rfl rfl rfl (Nat.le_of_ble_eq_true rfl) ⟨⟨Nat.le_of_ble_eq_true rfl, Nat.le_of_ble_eq_true rfl⟩, Nat.le_of_ble_eq_true rfl, Nat.le_of_ble_eq_true rfl⟩ dX7_copy_5 (fun r1 u2 H locs hp hZ => ?_)
  obtain ⟨rfl, rfl⟩ := hp
  have hZ : zz_Z g A s.heap [cw_k6 h0 st mk lk ch ru mr md la, cw_i g kd 60 kdf, cw_i g dp 60 dpf, cw_i g cl 60 clf, cw_i g sa 60 saf, cw_i g ln 60 lnf, cw_l g bt 4000 btf, cw_k5 st (nI na) (nI nu) kd dp cl sa ln bt pn bf] H locs := hZ
  refine lv_if_ne (tgt := 17) hx hb dX7_copy_8 (by decide) (fun c3 => ?_) (fun c3 => ?_)
  · obtain ⟨a1, ha1, ea1⟩ := zl_has (by omega) c3
    have hl : lv_has ls 5 [(0, .ref h0), (1, .int (nI a1)), (2, .int x2)] := by rw [← ea1]; exact hl
    have bd4 : a1 < 2 ^ 31 := by omega
    have d_a1 : x1.toNatClampNeg = a1 := by rw [ea1]; exact nI_clamp bd4
    obtain ⟨sz1, lz1, dz1, es1, el1, ed1, g11, g21, g31, g41⟩ := h_S.2.2 a1 ha1
    have bd5 : sz1 < 2 ^ 31 := by omega
    have d_sz1 : (saf a1).toNatClampNeg = sz1 := by rw [es1]; exact nI_clamp bd5
    have bd6 : lz1 < 2 ^ 31 := by omega
    have d_lz1 : (lnf a1).toNatClampNeg = lz1 := by rw [el1]; exact nI_clamp bd6
    have bd7 : dz1 < 2 ^ 31 := by omega
    have d_dz1 : (dpf a1).toNatClampNeg = dz1 := by rw [ed1]; exact nI_clamp bd7
    refine lv_aload_n hx hb dX7_copy_17 rfl (lv_at hl 0 rfl) ?_
    refine lv_aload_n hx hb dX7_copy_18 rfl (lv_at hl 0 rfl) ?_
    refine zz_get hC hZ 0 rfl zf_X7_10 rfl dX7_copy_19 ?_
    refine zz_get hC hZ 7 rfl zf_X7_80 rfl dX7_copy_22 ?_
    refine lv_iload_n hx hb dX7_copy_25 rfl (lv_at hl 1 rfl) ?_
    have bd8 : a1 < 60 := by omega
    refine zz_ialdn hC hZ 1 rfl bd8 (by decide) dX7_copy_26 ?_
    refine lv_aload_n hx hb dX7_copy_27 rfl (lv_at hl 0 rfl) ?_
    refine zz_get hC hZ 0 rfl zf_X7_10 rfl dX7_copy_28 ?_
    refine zz_get hC hZ 7 rfl zf_X7_76 rfl dX7_copy_31 ?_
    refine lv_iload_n hx hb dX7_copy_34 rfl (lv_at hl 1 rfl) ?_
    refine zz_ialdn hC hZ 2 rfl bd8 (by decide) dX7_copy_35 ?_
    refine zz_topi (v := nI dz1) (ed1) ?_
    refine lv_aload_n hx hb dX7_copy_36 rfl (lv_at hl 0 rfl) ?_
    refine zz_get hC hZ 0 rfl zf_X7_10 rfl dX7_copy_37 ?_
    refine zz_get hC hZ 7 rfl zf_X7_83 rfl dX7_copy_40 ?_
    refine lv_iload_n hx hb dX7_copy_43 rfl (lv_at hl 1 rfl) ?_
    refine zz_ialdn hC hZ 3 rfl bd8 (by decide) dX7_copy_44 ?_
    refine lv_iload_n hx hb dX7_copy_45 rfl (lv_at hl 2 rfl) ?_
    refine zz_iV (As := [.int (kdf a1), .int (nI dz1), .int (clf a1), .int x2]) (wc := [cw_k6 h0 st mk lk ch ru mr md la, cw_k5 st (nI na) (nI nu) kd dp cl sa ln bt pn bf, cw_i g kd 60 kdf, cw_i g dp 60 dpf, cw_i g cl 60 clf, cw_i g sa 60 saf, cw_i g ln 60 lnf, cw_l g bt 4000 btf]) (wr := []) (rest := []) hC hZ hs hl zc_X7_69 (co_newArray g h0 st mk lk ch ru mr kd dp cl sa ln bt pn bf md la na nu kdf dpf clf saf lnf btf (kdf a1) dz1 (clf a1) x2 (h_S) (by omega)) [0, 7, 1, 2, 3, 4, 5, 6] [] rfl rfl (by decide +kernel) (ci := 6) (q0 := 0) rfl rfl rfl rfl (Nat.le_of_ble_eq_true rfl) ⟨⟨Nat.le_of_ble_eq_true rfl, Nat.le_of_ble_eq_true rfl⟩, Nat.le_of_ble_eq_true rfl, Nat.le_of_ble_eq_true rfl⟩ dX7_copy_46 (fun r9 u10 H locs hp hZ => ?_)
    obtain ⟨la2_11, na2_12, nu2_13, kd2_14, dp2_15, cl2_16, sa2_17, ln2_18, bt2_19, ft20, f21, f22, f23, f24, rfl⟩ := hp
    have hZ : zz_Z g A s.heap [cw_k6 h0 st mk lk ch ru mr md la2_11, cw_k5 st (nI na2_12) (nI nu2_13) kd dp cl sa ln bt pn bf, cw_i g kd 60 kd2_14, cw_i g dp 60 dp2_15, cw_i g cl 60 cl2_16, cw_i g sa 60 sa2_17, cw_i g ln 60 ln2_18, cw_l g bt 4000 bt2_19] H locs := hZ
    have d_r9 : (fo_co_newArray na nu kdf dpf clf saf lnf btf (kdf a1) dz1 (clf a1) x2).1 = r9 := by rw [← ft20]
    have d_na2_12 : (fo_co_newArray na nu kdf dpf clf saf lnf btf (kdf a1) dz1 (clf a1) x2).2.1 = na2_12 := by rw [← ft20]
    have d_nu2_13 : (fo_co_newArray na nu kdf dpf clf saf lnf btf (kdf a1) dz1 (clf a1) x2).2.2.1 = nu2_13 := by rw [← ft20]
    have d_kd2_14 : (fo_co_newArray na nu kdf dpf clf saf lnf btf (kdf a1) dz1 (clf a1) x2).2.2.2.1 = kd2_14 := by rw [← ft20]
    have d_dp2_15 : (fo_co_newArray na nu kdf dpf clf saf lnf btf (kdf a1) dz1 (clf a1) x2).2.2.2.2.1 = dp2_15 := by rw [← ft20]
    have d_cl2_16 : (fo_co_newArray na nu kdf dpf clf saf lnf btf (kdf a1) dz1 (clf a1) x2).2.2.2.2.2.1 = cl2_16 := by rw [← ft20]
    have d_sa2_17 : (fo_co_newArray na nu kdf dpf clf saf lnf btf (kdf a1) dz1 (clf a1) x2).2.2.2.2.2.2.1 = sa2_17 := by rw [← ft20]
    have d_ln2_18 : (fo_co_newArray na nu kdf dpf clf saf lnf btf (kdf a1) dz1 (clf a1) x2).2.2.2.2.2.2.2.1 = ln2_18 := by rw [← ft20]
    have d_bt2_19 : (fo_co_newArray na nu kdf dpf clf saf lnf btf (kdf a1) dz1 (clf a1) x2).2.2.2.2.2.2.2.2 = bt2_19 := by rw [← ft20]
    refine lv_istore_n (lv' := [(3, .int r9), (0, .ref h0), (1, .int (nI a1)), (2, .int x2)]) hx hb dX7_copy_49 rfl hl (by decide) rfl (fun ls hl => ?_)
    refine lv_iload_n hx hb dX7_copy_50 rfl (lv_at hl 0 rfl) ?_
    refine lv_if_lt (tgt := 106) hx hb dX7_copy_51 (by decide) (fun c25 => ?_) (fun c25 => ?_)
    · refine lv_iload_n hx hb dX7_copy_106 rfl (lv_at hl 0 rfl) ?_
      exact zz_iret hC hZ (⟨la2_11, na2_12, nu2_13, kd2_14, dp2_15, cl2_16, sa2_17, ln2_18, bt2_19, by refine Eq.symm ?_; rw [fo_cx_copy]; refine (if_neg (by (try simp only [d_a1, d_sz1, d_lz1, d_dz1, d_r9, d_na2_12, d_nu2_13, d_kd2_14, d_dp2_15, d_cl2_16, d_sa2_17, d_ln2_18, d_bt2_19]); exact c3)).trans ?_; refine (if_pos (by (try simp only [d_a1, d_sz1, d_lz1, d_dz1, d_r9, d_na2_12, d_nu2_13, d_kd2_14, d_dp2_15, d_cl2_16, d_sa2_17, d_ln2_18, d_bt2_19]); exact c25)).trans ?_; first | (simp only [d_a1, d_sz1, d_lz1, d_dz1, d_r9, d_na2_12, d_nu2_13, d_kd2_14, d_dp2_15, d_cl2_16, d_sa2_17, d_ln2_18, d_bt2_19]; done) | rfl, f21, f22, f23, rfl⟩) (Nat.le_of_ble_eq_true rfl) (Nat.le_of_ble_eq_true rfl) dX7_copy_107
    · obtain ⟨jn, ejn, er, esn, hn6, hnj, en2⟩ := f24 (zl_nn c25)
      have hl : lv_has ls 5 [(3, .int r9), (0, .ref h0), (1, .int (nI a1)), (2, .int (nI jn))] := by rw [← ejn]; exact hl
      have hl : lv_has ls 5 [(3, .int (nI na)), (0, .ref h0), (1, .int (nI a1)), (2, .int (nI jn))] := by rw [← er]; exact hl
      have bd26 : jn < 2 ^ 31 := by omega
      have d_jn : x2.toNatClampNeg = jn := by rw [ejn]; exact nI_clamp bd26
      refine lv_iload_n hx hb dX7_copy_54 rfl (lv_at hl 3 rfl) ?_
      refine lv_aload_n hx hb dX7_copy_55 rfl (lv_at hl 1 rfl) ?_
      refine zz_get hC hZ 0 rfl zf_X7_10 rfl dX7_copy_56 ?_
      refine zz_get hC hZ 1 rfl zf_X7_103 rfl dX7_copy_59 ?_
      refine lv_iload_n hx hb dX7_copy_62 rfl (lv_at hl 2 rfl) ?_
      refine zz_ialdn hC hZ 6 rfl bd8 (by decide) dX7_copy_63 ?_
      refine zz_topi (v := nI lz1) (((f23 a1 (by omega)).2.1).trans el1) ?_
      refine va_mmin hx hb (hml.trans hl.1.symm) hown (hts _ zk_444) (hts _ zk_445) (hts _ zk_10) (hts _ zk_446) (Nat.le_of_ble_eq_true rfl) (Nat.le_of_ble_eq_true rfl) (Nat.le_of_ble_eq_true rfl) (Nat.le_of_ble_eq_true rfl) dX7_copy_64 ?_
      refine zz_topi (v := nI (min lz1 jn)) (zl_min (by omega) (by omega)) ?_
      refine lv_istore (lv' := [(4, .int (nI (min lz1 jn))), (3, .int (nI na)), (0, .ref h0), (1, .int (nI a1)), (2, .int (nI jn))]) hx hb dX7_copy_67 hl (by decide) rfl (fun ls hl => ?_)
      refine lv_aload_n hx hb dX7_copy_69 rfl (lv_at hl 2 rfl) ?_
      refine zz_get hC hZ 0 rfl zf_X7_10 rfl dX7_copy_70 ?_
      refine zz_get hC hZ 1 rfl zf_X7_116 rfl dX7_copy_73 ?_
      refine lv_aload_n hx hb dX7_copy_76 rfl (lv_at hl 2 rfl) ?_
      refine zz_get hC hZ 0 rfl zf_X7_10 rfl dX7_copy_77 ?_
      refine zz_get hC hZ 1 rfl zf_X7_120 rfl dX7_copy_80 ?_
      refine lv_iload_n hx hb dX7_copy_83 rfl (lv_at hl 3 rfl) ?_
      refine zz_ialdn hC hZ 5 rfl bd8 (by decide) dX7_copy_84 ?_
      refine zz_topi (v := nI sz1) (((f23 a1 (by omega)).1).trans es1) ?_
      refine lv_aload_n hx hb dX7_copy_85 rfl (lv_at hl 2 rfl) ?_
      refine zz_get hC hZ 0 rfl zf_X7_10 rfl dX7_copy_86 ?_
      refine zz_get hC hZ 1 rfl zf_X7_116 rfl dX7_copy_89 ?_
      refine lv_aload_n hx hb dX7_copy_92 rfl (lv_at hl 2 rfl) ?_
      refine zz_get hC hZ 0 rfl zf_X7_10 rfl dX7_copy_93 ?_
      refine zz_get hC hZ 1 rfl zf_X7_120 rfl dX7_copy_96 ?_
      refine lv_iload_n hx hb dX7_copy_99 rfl (lv_at hl 1 rfl) ?_
      have bd27 : na < 60 := by omega
      refine zz_ialdn hC hZ 5 rfl bd27 (by decide) dX7_copy_100 ?_
      refine zz_topi (v := nI nu) (esn) ?_
      refine lv_iload hx hb dX7_copy_101 (lv_at hl 0 rfl) ?_
      refine zz_copyl (x := sz1) (y := nu) (n := (min lz1 jn)) hC hZ hl zk_437 zk_439 zk_438 zk_9 7 7 rfl rfl (by omega) (by omega) (by omega) (Nat.le_of_ble_eq_true rfl) (by decide) dX7_copy_103 (fun H locs hZ => ?_)
      have hZ : zz_Z g A s.heap [cw_k6 h0 st mk lk ch ru mr md la2_11, cw_k5 st (nI na2_12) (nI nu2_13) kd dp cl sa ln bt pn bf, cw_i g kd 60 kd2_14, cw_i g dp 60 dp2_15, cw_i g cl 60 cl2_16, cw_i g sa 60 sa2_17, cw_i g ln 60 ln2_18, cw_l g bt 4000 (va_cpy bt2_19 bt2_19 sz1 nu (min lz1 jn))] H locs := hZ
      refine lv_iload_n hx hb dX7_copy_106 rfl (lv_at hl 1 rfl) ?_
      exact zz_iret hC hZ (⟨la2_11, na2_12, nu2_13, kd2_14, dp2_15, cl2_16, sa2_17, ln2_18, (va_cpy bt2_19 bt2_19 sz1 nu (min lz1 jn)), by refine Eq.symm ?_; rw [fo_cx_copy]; refine (if_neg (by (try simp only [d_a1, d_sz1, d_lz1, d_dz1, d_r9, d_na2_12, d_nu2_13, d_kd2_14, d_dp2_15, d_cl2_16, d_sa2_17, d_ln2_18, d_bt2_19, d_jn]); exact c3)).trans ?_; refine (if_neg (by (try simp only [d_a1, d_sz1, d_lz1, d_dz1, d_r9, d_na2_12, d_nu2_13, d_kd2_14, d_dp2_15, d_cl2_16, d_sa2_17, d_ln2_18, d_bt2_19, d_jn]); exact c25)).trans ?_; first | (simp only [d_a1, d_sz1, d_lz1, d_dz1, d_r9, d_na2_12, d_nu2_13, d_kd2_14, d_dp2_15, d_cl2_16, d_sa2_17, d_ln2_18, d_bt2_19, d_jn]; done) | rfl, f21, f22, f23, rfl⟩) (Nat.le_of_ble_eq_true rfl) (Nat.le_of_ble_eq_true rfl) dX7_copy_107
  · refine lv_aload_n hx hb dX7_copy_11 rfl (lv_at hl 0 rfl) ?_
    refine lv_iconst (v := 5) hx hb dX7_copy_12 (by decide) ?_
    refine zz_iV (As := [.int 5]) (wc := [cw_k6 h0 st mk lk ch ru mr md la]) (wr := [cw_i g kd 60 kdf, cw_i g dp 60 dpf, cw_i g cl 60 clf, cw_i g sa 60 saf, cw_i g ln 60 lnf, cw_l g bt 4000 btf, cw_k5 st (nI na) (nI nu) kd dp cl sa ln bt pn bf]) (rest := []) hC hZ hs hl zc_X7_65 (co_fail g h0 st mk lk ch ru mr md la 5) [0] [1, 2, 3, 4, 5, 6, 7] rfl rfl (by decide +kernel) (ci := 6) (q0 := 0) rfl rfl rfl rfl (Nat.le_of_ble_eq_true rfl) ⟨⟨Nat.le_of_ble_eq_true rfl, Nat.le_of_ble_eq_true rfl⟩, Nat.le_of_ble_eq_true rfl, Nat.le_of_ble_eq_true rfl⟩ dX7_copy_13 (fun r28 u29 H locs hp hZ => ?_)
    obtain ⟨rfl, rfl⟩ := hp
    have hZ : zz_Z g A s.heap [cw_i g kd 60 kdf, cw_i g dp 60 dpf, cw_i g cl 60 clf, cw_i g sa 60 saf, cw_i g ln 60 lnf, cw_l g bt 4000 btf, cw_k5 st (nI na) (nI nu) kd dp cl sa ln bt pn bf, cw_k6 h0 st mk lk ch ru mr md 5] H locs := hZ
    have hZ : zz_Z g A s.heap [cw_k6 h0 st mk lk ch ru mr md 5, cw_k5 st (nI na) (nI nu) kd dp cl sa ln bt pn bf, cw_i g kd 60 kdf, cw_i g dp 60 dpf, cw_i g cl 60 clf, cw_i g sa 60 saf, cw_i g ln 60 lnf, cw_l g bt 4000 btf] H locs := hZ.sub [7, 6, 0, 1, 2, 3, 4, 5] (by decide +kernel) rfl
    exact zz_iret hC hZ (⟨5, na, nu, kdf, dpf, clf, saf, lnf, btf, by show _ = _; rw [fo_cx_copy]; rw [if_pos c3], h_S, Nat.le_refl _, zz_EX.rf, rfl⟩) (Nat.le_of_ble_eq_true rfl) (Nat.le_of_ble_eq_true rfl) dX7_copy_16
