abbrev rm_co_has0 : Room := { frames := 0, cells := 0, slots := 0, locals := 0 }
abbrev po_co_has0 (g : zz_G) (st : Nat) (kd : Nat) (dp : Nat) (cl : Nat) (sa : Nat) (ln : Nat) (bt : Nat) (pn : Nat) (bf : Nat) (k : Int32) : Int32 → va_W → Prop := fun (r : Int32) (u : va_W) => r = 0 ∧ u = [(st, .inr (5, [.int 0, .int 0, .ref kd, .ref dp, .ref cl, .ref sa, .ref ln, .ref bt, .ref pn, .ref bf]))]
set_option maxHeartbeats 4000000 in
set_option maxRecDepth 100000 in
theorem co_has0 (g : zz_G) (st : Nat) (kd : Nat) (dp : Nat) (cl : Nat) (sa : Nat) (ln : Nat) (bt : Nat) (pn : Nat) (bf : Nat) (k : Int32) : zz_I g yX6_has (.code yX6_has cX6_has 2 (some .boolean)) rm_co_has0 [.ref st, .int k] [(st, .inr (5, [.int 0, .int 0, .ref kd, .ref dp, .ref cl, .ref sa, .ref ln, .ref bt, .ref pn, .ref bf]))] (po_co_has0 g st kd dp cl sa ln bt pn bf k) := by
  refine zz_I.intro (own := RX6) (cc := cX6_has) (nL := 2) (by decide) rfl (Nat.le_of_ble_eq_true rfl) ?_
  intro p l e s m args below meth c A H locs ls hC hnm hZ hl
  obtain ⟨hx, hb, hml, hown, hts, hr, hlocks, hK⟩ := id hC
  have hl : lv_has ls 2 [(0, .ref st), (1, .int k)] := hl
  have hZ : zz_Z g A s.heap [(st, .inr (5, [.int 0, .int 0, .ref kd, .ref dp, .ref cl, .ref sa, .ref ln, .ref bt, .ref pn, .ref bf]))] H locs := hZ
  refine lv_iload_n hx hb dX6_has_0 rfl (lv_at hl 1 rfl) ?_
  refine lv_if_lt (tgt := 16) hx hb dX6_has_1 (by decide) (fun c1 => ?_) (fun c1 => ?_)
  · refine lv_iconst (v := 0) hx hb dX6_has_16 (by decide) ?_
    exact zz_zret hC hZ (by decide) (⟨rfl, rfl⟩) (Nat.le_of_ble_eq_true rfl) (Nat.le_of_ble_eq_true rfl) dX6_has_17
  · refine lv_iload_n hx hb dX6_has_4 rfl (lv_at hl 1 rfl) ?_
    refine lv_aload_n hx hb dX6_has_5 rfl (lv_at hl 0 rfl) ?_
    refine zz_get hC hZ 0 rfl zf_X6_38 rfl dX6_has_6 ?_
    refine lv_icmp_ge (tgt := 16) hx hb dX6_has_9 (by decide) (fun c2 => ?_) (fun c => absurd (zl_nn c1) c)
    refine lv_iconst (v := 0) hx hb dX6_has_16 (by decide) ?_
    exact zz_zret hC hZ (by decide) (⟨rfl, rfl⟩) (Nat.le_of_ble_eq_true rfl) (Nat.le_of_ble_eq_true rfl) dX6_has_17
theorem dX0_has_0 : decode cX0_has 0 = .ok (.iload_n 1, 1) := by decide +kernel
theorem dX0_has_1 : decode cX0_has 1 = .ok (.ifCond .lt 15, 3) := by decide +kernel
theorem dX0_has_16 : decode cX0_has 16 = .ok (.iconst 0, 1) := by decide +kernel
theorem dX0_has_17 : decode cX0_has 17 = .ok (.ireturn, 1) := by decide +kernel
theorem dX0_has_4 : decode cX0_has 4 = .ok (.iload_n 1, 1) := by decide +kernel
theorem dX0_has_5 : decode cX0_has 5 = .ok (.aload_n 0, 1) := by decide +kernel
theorem dX0_has_6 : decode cX0_has 6 = .ok (.getfield 32, 3) := by decide +kernel
theorem zk_138 : Cond.fieldLink RX0 32 RX0 "made" "I" ∈ zz_w := zz_in (List.mem_append_right _ (List.mem_append_left _ (List.mem_of_getElem? (i := 138) (by decide +kernel)))) rfl
theorem zf_X0_32 : zz_f RX0 32 0 1 := ⟨RX0, TX0, 7, rfl, zi_X0, by decide, zk_138⟩
theorem dX0_has_9 : decode cX0_has 9 = .ok (.if_icmp .ge 7, 3) := by decide +kernel
abbrev rm_co_chas0 : Room := { frames := 0, cells := 0, slots := 0, locals := 0 }
abbrev po_co_chas0 (g : zz_G) (st : Nat) (ch : Nat) (c_pl : Nat) (c_sl : Nat) (c_co : Nat) (c_ca : Nat) (c_tu : Nat) (k : Int32) : Int32 → va_W → Prop := fun (r : Int32) (u : va_W) => r = 0 ∧ u = [(ch, .inr (0, [.ref st, .int 0, .ref c_pl, .ref c_sl, .ref c_co, .ref c_ca, .ref c_tu]))]
set_option maxHeartbeats 4000000 in
set_option maxRecDepth 100000 in
theorem co_chas0 (g : zz_G) (st : Nat) (ch : Nat) (c_pl : Nat) (c_sl : Nat) (c_co : Nat) (c_ca : Nat) (c_tu : Nat) (k : Int32) : zz_I g yX0_has (.code yX0_has cX0_has 2 (some .boolean)) rm_co_chas0 [.ref ch, .int k] [(ch, .inr (0, [.ref st, .int 0, .ref c_pl, .ref c_sl, .ref c_co, .ref c_ca, .ref c_tu]))] (po_co_chas0 g st ch c_pl c_sl c_co c_ca c_tu k) := by
  refine zz_I.intro (own := RX0) (cc := cX0_has) (nL := 2) (by decide) rfl (Nat.le_of_ble_eq_true rfl) ?_
  intro p l e s m args below meth c A H locs ls hC hnm hZ hl
  obtain ⟨hx, hb, hml, hown, hts, hr, hlocks, hK⟩ := id hC
  have hl : lv_has ls 2 [(0, .ref ch), (1, .int k)] := hl
  have hZ : zz_Z g A s.heap [(ch, .inr (0, [.ref st, .int 0, .ref c_pl, .ref c_sl, .ref c_co, .ref c_ca, .ref c_tu]))] H locs := hZ
  refine lv_iload_n hx hb dX0_has_0 rfl (lv_at hl 1 rfl) ?_
  refine lv_if_lt (tgt := 16) hx hb dX0_has_1 (by decide) (fun c1 => ?_) (fun c1 => ?_)
  · refine lv_iconst (v := 0) hx hb dX0_has_16 (by decide) ?_
    exact zz_zret hC hZ (by decide) (⟨rfl, rfl⟩) (Nat.le_of_ble_eq_true rfl) (Nat.le_of_ble_eq_true rfl) dX0_has_17
  · refine lv_iload_n hx hb dX0_has_4 rfl (lv_at hl 1 rfl) ?_
    refine lv_aload_n hx hb dX0_has_5 rfl (lv_at hl 0 rfl) ?_
    refine zz_get hC hZ 0 rfl zf_X0_32 rfl dX0_has_6 ?_
    refine lv_icmp_ge (tgt := 16) hx hb dX0_has_9 (by decide) (fun c2 => ?_) (fun c => absurd (zl_nn c1) c)
    refine lv_iconst (v := 0) hx hb dX0_has_16 (by decide) ?_
    exact zz_zret hC hZ (by decide) (⟨rfl, rfl⟩) (Nat.le_of_ble_eq_true rfl) (Nat.le_of_ble_eq_true rfl) dX0_has_17
theorem dX0_hasCandidate_0 : decode cX0_hasCandidate 0 = .ok (.aload_n 0, 1) := by decide +kernel
theorem dX0_hasCandidate_1 : decode cX0_hasCandidate 1 = .ok (.iload_n 1, 1) := by decide +kernel
theorem dX0_hasCandidate_2 : decode cX0_hasCandidate 2 = .ok (.invokevirtual 36, 3) := by decide +kernel
theorem zk_590 : Cond.methodLink RX0 36 yX0_has ∈ zz_w := zz_in (List.mem_append_right _ (List.mem_append_right _ (List.mem_append_right _ (List.mem_append_left _ (List.mem_of_getElem? (i := 110) (by decide +kernel)))))) rfl
set_option maxRecDepth 20000 in
theorem zk_549 : Cond.code yX0_has cX0_has 2 (some .boolean) ∈ zz_w := zz_in (List.mem_append_right _ (List.mem_append_right _ (List.mem_append_right _ (List.mem_append_left _ (List.mem_of_getElem? (i := 69) (rfl)))))) rfl
theorem zk_547 : Cond.instanceMethod yX0_has ∈ zz_w := zz_in (List.mem_append_right _ (List.mem_append_right _ (List.mem_append_right _ (List.mem_append_left _ (List.mem_of_getElem? (i := 67) (by decide +kernel)))))) rfl
theorem zk_548 : Cond.selects RX0 yX0_has yX0_has ∈ zz_w := zz_in (List.mem_append_right _ (List.mem_append_right _ (List.mem_append_right _ (List.mem_append_left _ (List.mem_of_getElem? (i := 68) (by decide +kernel)))))) rfl
theorem zc_X0_36 : zz_cV RX0 36 yX0_has cX0_has 2 (some .boolean) 1 := ⟨⟨zk_590, zk_549, zk_5, by decide, by decide, by decide +kernel⟩, zk_547, zk_548⟩
theorem dX0_hasCandidate_5 : decode cX0_hasCandidate 5 = .ok (.ifCond .eq 21, 3) := by decide +kernel
theorem dX0_hasCandidate_26 : decode cX0_hasCandidate 26 = .ok (.iconst 0, 1) := by decide +kernel
theorem dX0_hasCandidate_27 : decode cX0_hasCandidate 27 = .ok (.ireturn, 1) := by decide +kernel
abbrev rm_co_hasCand0 : Room := { frames := 1, cells := 0, slots := 0, locals := 21 }
abbrev po_co_hasCand0 (g : zz_G) (st : Nat) (ch : Nat) (c_pl : Nat) (c_sl : Nat) (c_co : Nat) (c_ca : Nat) (c_tu : Nat) (k : Int32) (j : Int32) : Int32 → va_W → Prop := fun (r : Int32) (u : va_W) => r = 0 ∧ u = [(ch, .inr (0, [.ref st, .int 0, .ref c_pl, .ref c_sl, .ref c_co, .ref c_ca, .ref c_tu]))]
set_option maxHeartbeats 4000000 in
set_option maxRecDepth 100000 in
theorem co_hasCand0 (g : zz_G) (st : Nat) (ch : Nat) (c_pl : Nat) (c_sl : Nat) (c_co : Nat) (c_ca : Nat) (c_tu : Nat) (k : Int32) (j : Int32) : zz_I g yX0_hasCandidate (.code yX0_hasCandidate cX0_hasCandidate 3 (some .boolean)) rm_co_hasCand0 [.ref ch, .int k, .int j] [(ch, .inr (0, [.ref st, .int 0, .ref c_pl, .ref c_sl, .ref c_co, .ref c_ca, .ref c_tu]))] (po_co_hasCand0 g st ch c_pl c_sl c_co c_ca c_tu k j) := by
  refine zz_I.intro (own := RX0) (cc := cX0_hasCandidate) (nL := 3) (by decide) rfl (Nat.le_of_ble_eq_true rfl) ?_
  intro p l e s m args below meth c A H locs ls hC hnm hZ hl
  obtain ⟨hx, hb, hml, hown, hts, hr, hlocks, hK⟩ := id hC
  have hl : lv_has ls 3 [(0, .ref ch), (1, .int k), (2, .int j)] := hl
  have hZ : zz_Z g A s.heap [(ch, .inr (0, [.ref st, .int 0, .ref c_pl, .ref c_sl, .ref c_co, .ref c_ca, .ref c_tu]))] H locs := hZ
  refine lv_aload_n hx hb dX0_hasCandidate_0 rfl (lv_at hl 0 rfl) ?_
  refine lv_iload_n hx hb dX0_hasCandidate_1 rfl (lv_at hl 1 rfl) ?_
  refine zz_iV (As := [.int k]) (wc := [(ch, .inr (0, [.ref st, .int 0, .ref c_pl, .ref c_sl, .ref c_co, .ref c_ca, .ref c_tu]))]) (wr := []) (rest := []) hC hZ hl zc_X0_36 (co_chas0 g st ch c_pl c_sl c_co c_ca c_tu k) [0] [] rfl rfl (by decide) (ci := 0) (q0 := 0) rfl rfl rfl rfl (Nat.le_of_ble_eq_true rfl) ⟨⟨Nat.le_of_ble_eq_true rfl, Nat.le_of_ble_eq_true rfl⟩, Nat.le_of_ble_eq_true rfl, Nat.le_of_ble_eq_true rfl⟩ dX0_hasCandidate_2 (fun r1 u2 H locs hp hZ => ?_)
  obtain ⟨rfl, rfl⟩ := hp
  have hZ : zz_Z g A s.heap [(ch, .inr (0, [.ref st, .int 0, .ref c_pl, .ref c_sl, .ref c_co, .ref c_ca, .ref c_tu]))] H locs := hZ
  refine lv_if_eq (tgt := 26) hx hb dX0_hasCandidate_5 (by decide) (fun c3 => ?_) (fun c => absurd (by decide) c)
  refine lv_iconst (v := 0) hx hb dX0_hasCandidate_26 (by decide) ?_
  exact zz_zret hC hZ (by decide) (⟨rfl, rfl⟩) (Nat.le_of_ble_eq_true rfl) (Nat.le_of_ble_eq_true rfl) dX0_hasCandidate_27
theorem dX0_ways_0 : decode cX0_ways 0 = .ok (.iconst 1, 1) := by decide +kernel
theorem dX0_ways_1 : decode cX0_ways 1 = .ok (.istore_n 1, 1) := by decide +kernel
theorem dX0_ways_2 : decode cX0_ways 2 = .ok (.iconst 0, 1) := by decide +kernel
theorem dX0_ways_3 : decode cX0_ways 3 = .ok (.istore_n 2, 1) := by decide +kernel
theorem dX0_ways_4 : decode cX0_ways 4 = .ok (.iload_n 2, 1) := by decide +kernel
theorem dX0_ways_5 : decode cX0_ways 5 = .ok (.aload_n 0, 1) := by decide +kernel
theorem dX0_ways_6 : decode cX0_ways 6 = .ok (.getfield 32, 3) := by decide +kernel
theorem dX0_ways_9 : decode cX0_ways 9 = .ok (.if_icmp .ge 37, 3) := by decide +kernel
theorem dX0_ways_46 : decode cX0_ways 46 = .ok (.iload_n 1, 1) := by decide +kernel
theorem dX0_ways_47 : decode cX0_ways 47 = .ok (.ireturn, 1) := by decide +kernel
abbrev rm_co_ways0 : Room := { frames := 0, cells := 0, slots := 0, locals := 0 }
abbrev po_co_ways0 (g : zz_G) (st : Nat) (ch : Nat) (c_pl : Nat) (c_sl : Nat) (c_co : Nat) (c_ca : Nat) (c_tu : Nat) : Int32 → va_W → Prop := fun (r : Int32) (u : va_W) => r = 1 ∧ u = [(ch, .inr (0, [.ref st, .int 0, .ref c_pl, .ref c_sl, .ref c_co, .ref c_ca, .ref c_tu]))]
set_option maxHeartbeats 4000000 in
set_option maxRecDepth 100000 in
theorem co_ways0 (g : zz_G) (st : Nat) (ch : Nat) (c_pl : Nat) (c_sl : Nat) (c_co : Nat) (c_ca : Nat) (c_tu : Nat) : zz_I g yX0_ways (.code yX0_ways cX0_ways 3 (some .int)) rm_co_ways0 [.ref ch] [(ch, .inr (0, [.ref st, .int 0, .ref c_pl, .ref c_sl, .ref c_co, .ref c_ca, .ref c_tu]))] (po_co_ways0 g st ch c_pl c_sl c_co c_ca c_tu) := by
  refine zz_I.intro (own := RX0) (cc := cX0_ways) (nL := 3) (by decide) rfl (Nat.le_of_ble_eq_true rfl) ?_
  intro p l e s m args below meth c A H locs ls hC hnm hZ hl
  obtain ⟨hx, hb, hml, hown, hts, hr, hlocks, hK⟩ := id hC
  have hl : lv_has ls 3 [(0, .ref ch)] := hl
  have hZ : zz_Z g A s.heap [(ch, .inr (0, [.ref st, .int 0, .ref c_pl, .ref c_sl, .ref c_co, .ref c_ca, .ref c_tu]))] H locs := hZ
  refine lv_iconst (v := 1) hx hb dX0_ways_0 (by decide) ?_
  refine lv_istore_n (lv' := [(1, .int 1), (0, .ref ch)]) hx hb dX0_ways_1 rfl hl (by decide) rfl (fun ls hl => ?_)
  refine lv_iconst (v := 0) hx hb dX0_ways_2 (by decide) ?_
  refine lv_istore_n (lv' := [(2, .int 0), (1, .int 1), (0, .ref ch)]) hx hb dX0_ways_3 rfl hl (by decide) rfl (fun ls hl => ?_)
  refine lv_iload_n hx hb dX0_ways_4 rfl (lv_at hl 0 rfl) ?_
  refine lv_aload_n hx hb dX0_ways_5 rfl (lv_at hl 2 rfl) ?_
  refine zz_get hC hZ 0 rfl zf_X0_32 rfl dX0_ways_6 ?_
  refine lv_icmp_ge (tgt := 46) hx hb dX0_ways_9 (by decide) (fun c1 => ?_) (fun c => absurd (by decide) c)
  refine lv_iload_n hx hb dX0_ways_46 rfl (lv_at hl 1 rfl) ?_
  exact zz_iret hC hZ (⟨rfl, rfl⟩) (Nat.le_of_ble_eq_true rfl) (Nat.le_of_ble_eq_true rfl) dX0_ways_47
theorem dX0_takeWay_0 : decode cX0_takeWay 0 = .ok (.iload_n 1, 1) := by decide +kernel
theorem dX0_takeWay_1 : decode cX0_takeWay 1 = .ok (.istore_n 2, 1) := by decide +kernel
theorem dX0_takeWay_2 : decode cX0_takeWay 2 = .ok (.aload_n 0, 1) := by decide +kernel
theorem dX0_takeWay_3 : decode cX0_takeWay 3 = .ok (.getfield 32, 3) := by decide +kernel
theorem dX0_takeWay_6 : decode cX0_takeWay 6 = .ok (.iconst 1, 1) := by decide +kernel
theorem dX0_takeWay_7 : decode cX0_takeWay 7 = .ok (.isub, 1) := by decide +kernel
theorem dX0_takeWay_8 : decode cX0_takeWay 8 = .ok (.istore_n 3, 1) := by decide +kernel
theorem dX0_takeWay_9 : decode cX0_takeWay 9 = .ok (.iload_n 3, 1) := by decide +kernel
theorem dX0_takeWay_10 : decode cX0_takeWay 10 = .ok (.ifCond .lt 65, 3) := by decide +kernel
theorem dX0_takeWay_75 : decode cX0_takeWay 75 = .ok (.return_, 1) := by decide +kernel
abbrev rm_co_takeWay0 : Room := { frames := 0, cells := 0, slots := 0, locals := 0 }
abbrev po_co_takeWay0 (g : zz_G) (st : Nat) (ch : Nat) (c_pl : Nat) (c_sl : Nat) (c_co : Nat) (c_ca : Nat) (c_tu : Nat) (k : Int32) : va_W → Prop := fun (u : va_W) => u = [(ch, .inr (0, [.ref st, .int 0, .ref c_pl, .ref c_sl, .ref c_co, .ref c_ca, .ref c_tu]))]
set_option maxHeartbeats 4000000 in
set_option maxRecDepth 100000 in
theorem co_takeWay0 (g : zz_G) (st : Nat) (ch : Nat) (c_pl : Nat) (c_sl : Nat) (c_co : Nat) (c_ca : Nat) (c_tu : Nat) (k : Int32) : zz_V g yX0_takeWay (.code yX0_takeWay cX0_takeWay 4 none) rm_co_takeWay0 [.ref ch, .int k] [(ch, .inr (0, [.ref st, .int 0, .ref c_pl, .ref c_sl, .ref c_co, .ref c_ca, .ref c_tu]))] (po_co_takeWay0 g st ch c_pl c_sl c_co c_ca c_tu k) := by
  refine zz_V.intro (own := RX0) (cc := cX0_takeWay) (nL := 4) (by decide) rfl (Nat.le_of_ble_eq_true rfl) ?_
  intro p l e s m args below meth c A H locs ls hC hnm hZ hl
  obtain ⟨hx, hb, hml, hown, hts, hr, hlocks, hK⟩ := id hC
  have hl : lv_has ls 4 [(0, .ref ch), (1, .int k)] := hl
  have hZ : zz_Z g A s.heap [(ch, .inr (0, [.ref st, .int 0, .ref c_pl, .ref c_sl, .ref c_co, .ref c_ca, .ref c_tu]))] H locs := hZ
  refine lv_iload_n hx hb dX0_takeWay_0 rfl (lv_at hl 1 rfl) ?_
  refine lv_istore_n (lv' := [(2, .int k), (0, .ref ch), (1, .int k)]) hx hb dX0_takeWay_1 rfl hl (by decide) rfl (fun ls hl => ?_)
  refine lv_aload_n hx hb dX0_takeWay_2 rfl (lv_at hl 1 rfl) ?_
  refine zz_get hC hZ 0 rfl zf_X0_32 rfl dX0_takeWay_3 ?_
  refine lv_iconst (v := 1) hx hb dX0_takeWay_6 (by decide) ?_
  refine lv_isub hx hb dX0_takeWay_7 ?_
  refine zz_topi (v := -1) (by decide) ?_
  refine lv_istore_n (lv' := [(3, .int (-1)), (2, .int k), (0, .ref ch), (1, .int k)]) hx hb dX0_takeWay_8 rfl hl (by decide) rfl (fun ls hl => ?_)
  refine lv_iload_n hx hb dX0_takeWay_9 rfl (lv_at hl 0 rfl) ?_
  refine lv_if_lt (tgt := 75) hx hb dX0_takeWay_10 (by decide) (fun c1 => ?_) (fun c => absurd (by decide) c)
  exact zz_vret hC hZ (rfl) (Nat.le_of_ble_eq_true rfl) (Nat.le_of_ble_eq_true rfl) dX0_takeWay_75
theorem dX5_measureAll_0 : decode cX5_measureAll 0 = .ok (.iconst 0, 1) := by decide +kernel
theorem dX5_measureAll_1 : decode cX5_measureAll 1 = .ok (.istore_n 1, 1) := by decide +kernel
theorem dX5_measureAll_2 : decode cX5_measureAll 2 = .ok (.iload_n 1, 1) := by decide +kernel
theorem dX5_measureAll_3 : decode cX5_measureAll 3 = .ok (.aload_n 0, 1) := by decide +kernel
theorem dX5_measureAll_4 : decode cX5_measureAll 4 = .ok (.getfield 38, 3) := by decide +kernel
theorem zk_170 : Cond.fieldLink RX5 38 RX5 "made" "I" ∈ zz_w := zz_in (List.mem_append_right _ (List.mem_append_left _ (List.mem_of_getElem? (i := 170) (by decide +kernel)))) rfl
theorem zf_X5_38 : zz_f RX5 38 4 1 := ⟨RX5, TX5, 9, rfl, zi_X5, by decide, zk_170⟩
theorem dX5_measureAll_7 : decode cX5_measureAll 7 = .ok (.if_icmp .ge 14, 3) := by decide +kernel
theorem dX5_measureAll_21 : decode cX5_measureAll 21 = .ok (.return_, 1) := by decide +kernel
abbrev rm_co_measureAll0 : Room := { frames := 0, cells := 0, slots := 0, locals := 0 }
abbrev po_co_measureAll0 (g : zz_G) (st : Nat) (ru : Nat) (u_so : Nat) (u_ju : Nat) (u_we : Nat) (u_lo : Nat) (u_hi : Nat) (u_ta : Nat) (u_bo : Nat) : va_W → Prop := fun (u : va_W) => u = [(ru, .inr (4, [.ref st, .int 0, .ref u_so, .ref u_ju, .ref u_we, .ref u_lo, .ref u_hi, .ref u_ta, .ref u_bo]))]
set_option maxHeartbeats 4000000 in
set_option maxRecDepth 100000 in
theorem co_measureAll0 (g : zz_G) (st : Nat) (ru : Nat) (u_so : Nat) (u_ju : Nat) (u_we : Nat) (u_lo : Nat) (u_hi : Nat) (u_ta : Nat) (u_bo : Nat) : zz_V g yX5_measureAll (.code yX5_measureAll cX5_measureAll 2 none) rm_co_measureAll0 [.ref ru] [(ru, .inr (4, [.ref st, .int 0, .ref u_so, .ref u_ju, .ref u_we, .ref u_lo, .ref u_hi, .ref u_ta, .ref u_bo]))] (po_co_measureAll0 g st ru u_so u_ju u_we u_lo u_hi u_ta u_bo) := by
  refine zz_V.intro (own := RX5) (cc := cX5_measureAll) (nL := 2) (by decide) rfl (Nat.le_of_ble_eq_true rfl) ?_
  intro p l e s m args below meth c A H locs ls hC hnm hZ hl
  obtain ⟨hx, hb, hml, hown, hts, hr, hlocks, hK⟩ := id hC
  have hl : lv_has ls 2 [(0, .ref ru)] := hl
  have hZ : zz_Z g A s.heap [(ru, .inr (4, [.ref st, .int 0, .ref u_so, .ref u_ju, .ref u_we, .ref u_lo, .ref u_hi, .ref u_ta, .ref u_bo]))] H locs := hZ
  refine lv_iconst (v := 0) hx hb dX5_measureAll_0 (by decide) ?_
  refine lv_istore_n (lv' := [(1, .int 0), (0, .ref ru)]) hx hb dX5_measureAll_1 rfl hl (by decide) rfl (fun ls hl => ?_)
  refine lv_iload_n hx hb dX5_measureAll_2 rfl (lv_at hl 0 rfl) ?_
  refine lv_aload_n hx hb dX5_measureAll_3 rfl (lv_at hl 1 rfl) ?_
  refine zz_get hC hZ 0 rfl zf_X5_38 rfl dX5_measureAll_4 ?_
  refine lv_icmp_ge (tgt := 21) hx hb dX5_measureAll_7 (by decide) (fun c1 => ?_) (fun c => absurd (by decide) c)
  exact zz_vret hC hZ (rfl) (Nat.le_of_ble_eq_true rfl) (Nat.le_of_ble_eq_true rfl) dX5_measureAll_21
theorem dX5_total_0 : decode cX5_total 0 = .ok (.lconst 0, 1) := by decide +kernel
theorem dX5_total_1 : decode cX5_total 1 = .ok (.lstore_n 1, 1) := by decide +kernel
theorem dX5_total_2 : decode cX5_total 2 = .ok (.iconst 0, 1) := by decide +kernel
theorem dX5_total_3 : decode cX5_total 3 = .ok (.istore_n 3, 1) := by decide +kernel
theorem dX5_total_4 : decode cX5_total 4 = .ok (.iload_n 3, 1) := by decide +kernel
theorem dX5_total_5 : decode cX5_total 5 = .ok (.aload_n 0, 1) := by decide +kernel
theorem dX5_total_6 : decode cX5_total 6 = .ok (.getfield 38, 3) := by decide +kernel
theorem dX5_total_9 : decode cX5_total 9 = .ok (.if_icmp .ge 25, 3) := by decide +kernel
theorem dX5_total_34 : decode cX5_total 34 = .ok (.lload_n 1, 1) := by decide +kernel
theorem dX5_total_35 : decode cX5_total 35 = .ok (.lreturn, 1) := by decide +kernel
abbrev rm_co_total0 : Room := { frames := 0, cells := 0, slots := 0, locals := 0 }
abbrev po_co_total0 (g : zz_G) (st : Nat) (ru : Nat) (u_so : Nat) (u_ju : Nat) (u_we : Nat) (u_lo : Nat) (u_hi : Nat) (u_ta : Nat) (u_bo : Nat) : Int64 → va_W → Prop := fun (r : Int64) (u : va_W) => r = 0 ∧ u = [(ru, .inr (4, [.ref st, .int 0, .ref u_so, .ref u_ju, .ref u_we, .ref u_lo, .ref u_hi, .ref u_ta, .ref u_bo]))]
set_option maxHeartbeats 4000000 in
set_option maxRecDepth 100000 in
theorem co_total0 (g : zz_G) (st : Nat) (ru : Nat) (u_so : Nat) (u_ju : Nat) (u_we : Nat) (u_lo : Nat) (u_hi : Nat) (u_ta : Nat) (u_bo : Nat) : zz_L g yX5_total (.code yX5_total cX5_total 4 (some .long)) rm_co_total0 [.ref ru] [(ru, .inr (4, [.ref st, .int 0, .ref u_so, .ref u_ju, .ref u_we, .ref u_lo, .ref u_hi, .ref u_ta, .ref u_bo]))] (po_co_total0 g st ru u_so u_ju u_we u_lo u_hi u_ta u_bo) := by
  refine zz_L.intro (own := RX5) (cc := cX5_total) (nL := 4) (by decide) rfl (Nat.le_of_ble_eq_true rfl) ?_
  intro p l e s m args below meth c A H locs ls hC hnm hZ hl
  obtain ⟨hx, hb, hml, hown, hts, hr, hlocks, hK⟩ := id hC
  have hl : lv_has ls 4 [(0, .ref ru)] := hl
  have hZ : zz_Z g A s.heap [(ru, .inr (4, [.ref st, .int 0, .ref u_so, .ref u_ju, .ref u_we, .ref u_lo, .ref u_hi, .ref u_ta, .ref u_bo]))] H locs := hZ
  refine lv_lconst (v := 0) hx hb dX5_total_0 (by decide) ?_
  refine lv_lstore_n (lv' := [(1, .long 0), (0, .ref ru)]) hx hb dX5_total_1 rfl hl (by decide) rfl (fun ls hl => ?_)
  refine lv_iconst (v := 0) hx hb dX5_total_2 (by decide) ?_
  refine lv_istore_n (lv' := [(3, .int 0), (1, .long 0), (0, .ref ru)]) hx hb dX5_total_3 rfl hl (by decide) rfl (fun ls hl => ?_)
  refine lv_iload_n hx hb dX5_total_4 rfl (lv_at hl 0 rfl) ?_
  refine lv_aload_n hx hb dX5_total_5 rfl (lv_at hl 2 rfl) ?_
  refine zz_get hC hZ 0 rfl zf_X5_38 rfl dX5_total_6 ?_
  refine lv_icmp_ge (tgt := 34) hx hb dX5_total_9 (by decide) (fun c1 => ?_) (fun c => absurd (by decide) c)
  refine lv_lload_n hx hb dX5_total_34 rfl (lv_at hl 1 rfl) ?_
  exact zz_lret hC hZ (⟨rfl, rfl⟩) (Nat.le_of_ble_eq_true rfl) (Nat.le_of_ble_eq_true rfl) dX5_total_35
theorem dX4_keep_0 : decode cX4_keep 0 = .ok (.aload_n 0, 1) := by decide +kernel
theorem dX4_keep_1 : decode cX4_keep 1 = .ok (.aload_n 1, 1) := by decide +kernel
theorem dX4_keep_2 : decode cX4_keep 2 = .ok (.getfield 19, 3) := by decide +kernel
theorem zk_28 : Cond.fieldLink RX4 19 RX6 "used" "I" ∈ zz_w := zz_in (List.mem_append_right _ (List.mem_append_left _ (List.mem_of_getElem? (i := 28) (by decide +kernel)))) rfl
theorem zf_X4_19 : zz_f RX4 19 5 1 := ⟨RX6, TX6, 10, rfl, zi_X6, by decide, zk_28⟩
theorem dX4_keep_5 : decode cX4_keep 5 = .ok (.putfield 25, 3) := by decide +kernel
theorem zk_705 : Cond.fieldLink RX4 25 RX4 "used" "I" ∈ zz_w := zz_in (List.mem_append_right _ (List.mem_append_right _ (List.mem_append_right _ (List.mem_append_left _ (List.mem_of_getElem? (i := 225) (by decide +kernel)))))) rfl
theorem zu_X4_25 : zz_fw RX4 25 3 2 false .int := ⟨RX4, TX4, 3, tyX4, rfl, zi_X4, by decide, zk_705, tyX4_ok, nmX4, rfl, by decide +kernel, fun h => by cases h⟩
theorem dX4_keep_8 : decode cX4_keep 8 = .ok (.iconst 0, 1) := by decide +kernel
theorem dX4_keep_9 : decode cX4_keep 9 = .ok (.istore_n 2, 1) := by decide +kernel
theorem dX4_keep_10 : decode cX4_keep 10 = .ok (.iload_n 2, 1) := by decide +kernel
theorem dX4_keep_11 : decode cX4_keep 11 = .ok (.aload_n 0, 1) := by decide +kernel
theorem dX4_keep_12 : decode cX4_keep 12 = .ok (.getfield 25, 3) := by decide +kernel
theorem zf_X4_25 : zz_f RX4 25 3 2 := ⟨RX4, TX4, 3, rfl, zi_X4, by decide, zk_705⟩
theorem dX4_keep_15 : decode cX4_keep 15 = .ok (.if_icmp .ge 33, 3) := by decide +kernel
theorem dX4_keep_48 : decode cX4_keep 48 = .ok (.return_, 1) := by decide +kernel
abbrev rm_co_keep0 : Room := { frames := 0, cells := 0, slots := 0, locals := 0 }
abbrev po_co_keep0 (g : zz_G) (st : Nat) (kd : Nat) (dp : Nat) (cl : Nat) (sa : Nat) (ln : Nat) (bt : Nat) (pn : Nat) (bf : Nat) (mk : Nat) (m_b : Nat) (m_p : Nat) (us : Int32) : va_W → Prop := fun (u : va_W) => True
set_option maxHeartbeats 4000000 in
set_option maxRecDepth 100000 in
theorem co_keep0 (g : zz_G) (st : Nat) (kd : Nat) (dp : Nat) (cl : Nat) (sa : Nat) (ln : Nat) (bt : Nat) (pn : Nat) (bf : Nat) (mk : Nat) (m_b : Nat) (m_p : Nat) (us : Int32) : zz_V g yX4_keep (.code yX4_keep cX4_keep 3 none) rm_co_keep0 [.ref mk, .ref st] [(mk, .inr (3, [.ref m_b, .ref m_p, .int us])), (st, .inr (5, [.int 0, .int 0, .ref kd, .ref dp, .ref cl, .ref sa, .ref ln, .ref bt, .ref pn, .ref bf]))] (po_co_keep0 g st kd dp cl sa ln bt pn bf mk m_b m_p us) := by
  refine zz_V.intro (own := RX4) (cc := cX4_keep) (nL := 3) (by decide) rfl (Nat.le_of_ble_eq_true rfl) ?_
  intro p l e s m args below meth c A H locs ls hC hnm hZ hl
  obtain ⟨hx, hb, hml, hown, hts, hr, hlocks, hK⟩ := id hC
  have hl : lv_has ls 3 [(0, .ref mk), (1, .ref st)] := hl
  have hZ : zz_Z g A s.heap [(mk, .inr (3, [.ref m_b, .ref m_p, .int us])), (st, .inr (5, [.int 0, .int 0, .ref kd, .ref dp, .ref cl, .ref sa, .ref ln, .ref bt, .ref pn, .ref bf]))] H locs := hZ
  refine lv_aload_n hx hb dX4_keep_0 rfl (lv_at hl 0 rfl) ?_
  refine lv_aload_n hx hb dX4_keep_1 rfl (lv_at hl 1 rfl) ?_
  refine zz_get hC hZ 1 rfl zf_X4_19 rfl dX4_keep_2 ?_
  refine zz_put hC hZ 0 rfl zu_X4_25 (Nat.le_of_ble_eq_true rfl) dX4_keep_5 (fun H locs hZ => ?_)
  have hZ : zz_Z g A s.heap [(mk, .inr (3, [.ref m_b, .ref m_p, .int 0])), (st, .inr (5, [.int 0, .int 0, .ref kd, .ref dp, .ref cl, .ref sa, .ref ln, .ref bt, .ref pn, .ref bf]))] H locs := hZ
  refine lv_iconst (v := 0) hx hb dX4_keep_8 (by decide) ?_
  refine lv_istore_n (lv' := [(2, .int 0), (0, .ref mk), (1, .ref st)]) hx hb dX4_keep_9 rfl hl (by decide) rfl (fun ls hl => ?_)
  refine lv_iload_n hx hb dX4_keep_10 rfl (lv_at hl 0 rfl) ?_
  refine lv_aload_n hx hb dX4_keep_11 rfl (lv_at hl 1 rfl) ?_
  refine zz_get hC hZ 0 rfl zf_X4_25 rfl dX4_keep_12 ?_
  refine lv_icmp_ge (tgt := 48) hx hb dX4_keep_15 (by decide) (fun c1 => ?_) (fun c => absurd (by decide) c)
  exact zz_vret hC hZ (trivial) (Nat.le_of_ble_eq_true rfl) (Nat.le_of_ble_eq_true rfl) dX4_keep_48
theorem dX7_rowCode_0 : decode cX7_rowCode 0 = .ok (.aload_n 0, 1) := by decide +kernel
theorem dX7_rowCode_1 : decode cX7_rowCode 1 = .ok (.getfield 10, 3) := by decide +kernel
theorem dX7_rowCode_4 : decode cX7_rowCode 4 = .ok (.iload_n 1, 1) := by decide +kernel
theorem dX7_rowCode_5 : decode cX7_rowCode 5 = .ok (.invokevirtual 73, 3) := by decide +kernel
theorem zk_263 : Cond.methodLink RX7 73 yX6_has ∈ zz_w := zz_in (List.mem_append_right _ (List.mem_append_right _ (List.mem_append_left _ (List.mem_of_getElem? (i := 23) (by decide +kernel))))) rfl
set_option maxRecDepth 20000 in
theorem zk_266 : Cond.code yX6_has cX6_has 2 (some .boolean) ∈ zz_w := zz_in (List.mem_append_right _ (List.mem_append_right _ (List.mem_append_left _ (List.mem_of_getElem? (i := 26) (rfl))))) rfl
theorem zk_264 : Cond.instanceMethod yX6_has ∈ zz_w := zz_in (List.mem_append_right _ (List.mem_append_right _ (List.mem_append_left _ (List.mem_of_getElem? (i := 24) (by decide +kernel))))) rfl
theorem zk_265 : Cond.selects RX6 yX6_has yX6_has ∈ zz_w := zz_in (List.mem_append_right _ (List.mem_append_right _ (List.mem_append_left _ (List.mem_of_getElem? (i := 25) (by decide +kernel))))) rfl
theorem zc_X7_73 : zz_cV RX7 73 yX6_has cX6_has 2 (some .boolean) 1 := ⟨⟨zk_263, zk_266, zk_2, by decide, by decide, by decide +kernel⟩, zk_264, zk_265⟩
theorem dX7_rowCode_8 : decode cX7_rowCode 8 = .ok (.ifCond .ne 5, 3) := by decide +kernel
theorem dX7_rowCode_11 : decode cX7_rowCode 11 = .ok (.iconst 5, 1) := by decide +kernel
theorem dX7_rowCode_12 : decode cX7_rowCode 12 = .ok (.ireturn, 1) := by decide +kernel
abbrev rm_co_rowCode0 : Room := { frames := 1, cells := 0, slots := 0, locals := 21 }
abbrev po_co_rowCode0 (g : zz_G) (h0 : Nat) (st : Nat) (mk : Nat) (lk : Nat) (ch : Nat) (ru : Nat) (mr : Nat) (kd : Nat) (dp : Nat) (cl : Nat) (sa : Nat) (ln : Nat) (bt : Nat) (pn : Nat) (bf : Nat) (k : Int32) (j : Int32) : Int32 → va_W → Prop := fun (r : Int32) (u : va_W) => r = 5 ∧ u = [(h0, .inr (6, [.ref st, .ref mk, .ref lk, .ref ch, .ref ru, .ref mr, .int 0, .int 0])), (st, .inr (5, [.int 0, .int 0, .ref kd, .ref dp, .ref cl, .ref sa, .ref ln, .ref bt, .ref pn, .ref bf]))]
set_option maxHeartbeats 4000000 in
set_option maxRecDepth 100000 in
theorem co_rowCode0 (g : zz_G) (h0 : Nat) (st : Nat) (mk : Nat) (lk : Nat) (ch : Nat) (ru : Nat) (mr : Nat) (kd : Nat) (dp : Nat) (cl : Nat) (sa : Nat) (ln : Nat) (bt : Nat) (pn : Nat) (bf : Nat) (k : Int32) (j : Int32) : zz_I g yX7_rowCode (.code yX7_rowCode cX7_rowCode 3 (some .int)) rm_co_rowCode0 [.ref h0, .int k, .int j] [(h0, .inr (6, [.ref st, .ref mk, .ref lk, .ref ch, .ref ru, .ref mr, .int 0, .int 0])), (st, .inr (5, [.int 0, .int 0, .ref kd, .ref dp, .ref cl, .ref sa, .ref ln, .ref bt, .ref pn, .ref bf]))] (po_co_rowCode0 g h0 st mk lk ch ru mr kd dp cl sa ln bt pn bf k j) := by
  refine zz_I.intro (own := RX7) (cc := cX7_rowCode) (nL := 3) (by decide) rfl (Nat.le_of_ble_eq_true rfl) ?_
  intro p l e s m args below meth c A H locs ls hC hnm hZ hl
  obtain ⟨hx, hb, hml, hown, hts, hr, hlocks, hK⟩ := id hC
  have hl : lv_has ls 3 [(0, .ref h0), (1, .int k), (2, .int j)] := hl
  have hZ : zz_Z g A s.heap [(h0, .inr (6, [.ref st, .ref mk, .ref lk, .ref ch, .ref ru, .ref mr, .int 0, .int 0])), (st, .inr (5, [.int 0, .int 0, .ref kd, .ref dp, .ref cl, .ref sa, .ref ln, .ref bt, .ref pn, .ref bf]))] H locs := hZ
  refine lv_aload_n hx hb dX7_rowCode_0 rfl (lv_at hl 0 rfl) ?_
  refine zz_get hC hZ 0 rfl zf_X7_10 rfl dX7_rowCode_1 ?_
  refine lv_iload_n hx hb dX7_rowCode_4 rfl (lv_at hl 1 rfl) ?_
  refine zz_iV (As := [.int k]) (wc := [(st, .inr (5, [.int 0, .int 0, .ref kd, .ref dp, .ref cl, .ref sa, .ref ln, .ref bt, .ref pn, .ref bf]))]) (wr := [(h0, .inr (6, [.ref st, .ref mk, .ref lk, .ref ch, .ref ru, .ref mr, .int 0, .int 0]))]) (rest := []) hC hZ hl zc_X7_73 (co_has0 g st kd dp cl sa ln bt pn bf k) [1] [0] rfl rfl (by decide) (ci := 5) (q0 := 0) rfl rfl rfl rfl (Nat.le_of_ble_eq_true rfl) ⟨⟨Nat.le_of_ble_eq_true rfl, Nat.le_of_ble_eq_true rfl⟩, Nat.le_of_ble_eq_true rfl, Nat.le_of_ble_eq_true rfl⟩ dX7_rowCode_5 (fun r1 u2 H locs hp hZ => ?_)
  obtain ⟨rfl, rfl⟩ := hp
  have hZ : zz_Z g A s.heap [(h0, .inr (6, [.ref st, .ref mk, .ref lk, .ref ch, .ref ru, .ref mr, .int 0, .int 0])), (st, .inr (5, [.int 0, .int 0, .ref kd, .ref dp, .ref cl, .ref sa, .ref ln, .ref bt, .ref pn, .ref bf]))] H locs := hZ
  refine lv_if_ne (tgt := 13) hx hb dX7_rowCode_8 (by decide) (fun c => absurd (by decide) c) (fun c3 => ?_)
  refine lv_iconst (v := 5) hx hb dX7_rowCode_11 (by decide) ?_
  exact zz_iret hC hZ (⟨rfl, rfl⟩) (Nat.le_of_ble_eq_true rfl) (Nat.le_of_ble_eq_true rfl) dX7_rowCode_12
theorem dX6_add_0 : decode cX6_add 0 = .ok (.aload_n 0, 1) := by decide +kernel
theorem dX6_add_1 : decode cX6_add 1 = .ok (.getfield 38, 3) := by decide +kernel
theorem dX6_add_4 : decode cX6_add 4 = .ok (.istore 5, 2) := by decide +kernel
theorem dX6_add_6 : decode cX6_add 6 = .ok (.aload_n 0, 1) := by decide +kernel
theorem dX6_add_7 : decode cX6_add 7 = .ok (.getfield 9, 3) := by decide +kernel
theorem zf_X6_9 : zz_f RX6 9 5 2 := ⟨RX6, TX6, 10, rfl, zi_X6, by decide, zk_31⟩
theorem dX6_add_10 : decode cX6_add 10 = .ok (.iload 5, 2) := by decide +kernel
theorem dX6_add_12 : decode cX6_add 12 = .ok (.iload_n 1, 1) := by decide +kernel
theorem dX6_add_13 : decode cX6_add 13 = .ok (.iastore, 1) := by decide +kernel
theorem dX6_add_14 : decode cX6_add 14 = .ok (.aload_n 0, 1) := by decide +kernel
theorem dX6_add_15 : decode cX6_add 15 = .ok (.getfield 15, 3) := by decide +kernel
theorem zf_X6_15 : zz_f RX6 15 5 3 := ⟨RX6, TX6, 10, rfl, zi_X6, by decide, zk_37⟩
theorem dX6_add_18 : decode cX6_add 18 = .ok (.iload 5, 2) := by decide +kernel
theorem dX6_add_20 : decode cX6_add 20 = .ok (.iload_n 2, 1) := by decide +kernel
theorem dX6_add_21 : decode cX6_add 21 = .ok (.iastore, 1) := by decide +kernel
theorem dX6_add_22 : decode cX6_add 22 = .ok (.aload_n 0, 1) := by decide +kernel
theorem dX6_add_23 : decode cX6_add 23 = .ok (.getfield 18, 3) := by decide +kernel
theorem zf_X6_18 : zz_f RX6 18 5 4 := ⟨RX6, TX6, 10, rfl, zi_X6, by decide, zk_41⟩
theorem dX6_add_26 : decode cX6_add 26 = .ok (.iload 5, 2) := by decide +kernel
theorem dX6_add_28 : decode cX6_add 28 = .ok (.iload_n 3, 1) := by decide +kernel
theorem dX6_add_29 : decode cX6_add 29 = .ok (.iastore, 1) := by decide +kernel
theorem dX6_add_30 : decode cX6_add 30 = .ok (.aload_n 0, 1) := by decide +kernel
theorem dX6_add_31 : decode cX6_add 31 = .ok (.getfield 21, 3) := by decide +kernel
theorem zf_X6_21 : zz_f RX6 21 5 5 := ⟨RX6, TX6, 10, rfl, zi_X6, by decide, zk_44⟩
theorem dX6_add_34 : decode cX6_add 34 = .ok (.iload 5, 2) := by decide +kernel
theorem dX6_add_36 : decode cX6_add 36 = .ok (.aload_n 0, 1) := by decide +kernel
theorem dX6_add_37 : decode cX6_add 37 = .ok (.getfield 44, 3) := by decide +kernel
theorem dX6_add_40 : decode cX6_add 40 = .ok (.iastore, 1) := by decide +kernel
theorem dX6_add_41 : decode cX6_add 41 = .ok (.aload_n 0, 1) := by decide +kernel
theorem dX6_add_42 : decode cX6_add 42 = .ok (.getfield 24, 3) := by decide +kernel
theorem zf_X6_24 : zz_f RX6 24 5 6 := ⟨RX6, TX6, 10, rfl, zi_X6, by decide, zk_49⟩
theorem dX6_add_45 : decode cX6_add 45 = .ok (.iload 5, 2) := by decide +kernel
theorem dX6_add_47 : decode cX6_add 47 = .ok (.iload 4, 2) := by decide +kernel
theorem dX6_add_49 : decode cX6_add 49 = .ok (.iastore, 1) := by decide +kernel
theorem dX6_add_50 : decode cX6_add 50 = .ok (.iload_n 2, 1) := by decide +kernel
theorem dX6_add_51 : decode cX6_add 51 = .ok (.iconst 1, 1) := by decide +kernel
theorem dX6_add_52 : decode cX6_add 52 = .ok (.if_icmp .le 34, 3) := by decide +kernel
theorem dX6_add_86 : decode cX6_add 86 = .ok (.aload_n 0, 1) := by decide +kernel
theorem dX6_add_87 : decode cX6_add 87 = .ok (.dup, 1) := by decide +kernel
theorem dX6_add_88 : decode cX6_add 88 = .ok (.getfield 38, 3) := by decide +kernel
theorem dX6_add_91 : decode cX6_add 91 = .ok (.iconst 1, 1) := by decide +kernel
theorem dX6_add_92 : decode cX6_add 92 = .ok (.iadd, 1) := by decide +kernel
theorem dX6_add_93 : decode cX6_add 93 = .ok (.putfield 38, 3) := by decide +kernel
theorem zu_X6_38 : zz_fw RX6 38 5 0 false .int := ⟨RX6, TX6, 10, tyX6, rfl, zi_X6, by decide, zk_26, tyX6_ok, nmX6, rfl, by decide +kernel, fun h => by cases h⟩
theorem dX6_add_96 : decode cX6_add 96 = .ok (.aload_n 0, 1) := by decide +kernel
theorem dX6_add_97 : decode cX6_add 97 = .ok (.dup, 1) := by decide +kernel
theorem dX6_add_98 : decode cX6_add 98 = .ok (.getfield 44, 3) := by decide +kernel
theorem dX6_add_101 : decode cX6_add 101 = .ok (.iload 4, 2) := by decide +kernel
theorem dX6_add_103 : decode cX6_add 103 = .ok (.iadd, 1) := by decide +kernel
theorem dX6_add_104 : decode cX6_add 104 = .ok (.putfield 44, 3) := by decide +kernel
theorem zu_X6_44 : zz_fw RX6 44 5 1 false .int := ⟨RX6, TX6, 10, tyX6, rfl, zi_X6, by decide, zk_29, tyX6_ok, nmX6, rfl, by decide +kernel, fun h => by cases h⟩
theorem dX6_add_107 : decode cX6_add 107 = .ok (.iload 5, 2) := by decide +kernel
theorem dX6_add_109 : decode cX6_add 109 = .ok (.ireturn, 1) := by decide +kernel
abbrev rm_co_add0 : Room := { frames := 0, cells := 0, slots := 0, locals := 0 }
abbrev po_co_add0 (g : zz_G) (st : Nat) (kd : Nat) (dp : Nat) (cl : Nat) (sa : Nat) (ln : Nat) (bt : Nat) (pn : Nat) (bf : Nat) (k : Int32) (kc : Int32) (n : Int32) : Int32 → va_W → Prop := fun (r : Int32) (u : va_W) => r = 0
set_option maxHeartbeats 4000000 in
set_option maxRecDepth 100000 in
theorem co_add0 (g : zz_G) (st : Nat) (kd : Nat) (dp : Nat) (cl : Nat) (sa : Nat) (ln : Nat) (bt : Nat) (pn : Nat) (bf : Nat) (k : Int32) (kc : Int32) (n : Int32) : zz_I g yX6_add (.code yX6_add cX6_add 7 (some .int)) rm_co_add0 [.ref st, .int k, .int 1, .int kc, .int n] [(st, .inr (5, [.int 0, .int 0, .ref kd, .ref dp, .ref cl, .ref sa, .ref ln, .ref bt, .ref pn, .ref bf])), (kd, .inl (g.2.1, 60, .inl (fun _ => 0))), (dp, .inl (g.2.1, 60, .inl (fun _ => 0))), (cl, .inl (g.2.1, 60, .inl (fun _ => 0))), (sa, .inl (g.2.1, 60, .inl (fun _ => 0))), (ln, .inl (g.2.1, 60, .inl (fun _ => 0)))] (po_co_add0 g st kd dp cl sa ln bt pn bf k kc n) := by
  refine zz_I.intro (own := RX6) (cc := cX6_add) (nL := 7) (by decide) rfl (Nat.le_of_ble_eq_true rfl) ?_
  intro p l e s m args below meth c A H locs ls hC hnm hZ hl
  obtain ⟨hx, hb, hml, hown, hts, hr, hlocks, hK⟩ := id hC
  have hl : lv_has ls 7 [(0, .ref st), (1, .int k), (2, .int 1), (3, .int kc), (4, .int n)] := hl
  have hZ : zz_Z g A s.heap [(st, .inr (5, [.int 0, .int 0, .ref kd, .ref dp, .ref cl, .ref sa, .ref ln, .ref bt, .ref pn, .ref bf])), (kd, .inl (g.2.1, 60, .inl (fun _ => 0))), (dp, .inl (g.2.1, 60, .inl (fun _ => 0))), (cl, .inl (g.2.1, 60, .inl (fun _ => 0))), (sa, .inl (g.2.1, 60, .inl (fun _ => 0))), (ln, .inl (g.2.1, 60, .inl (fun _ => 0)))] H locs := hZ
  refine lv_aload_n hx hb dX6_add_0 rfl (lv_at hl 0 rfl) ?_
  refine zz_get hC hZ 0 rfl zf_X6_38 rfl dX6_add_1 ?_
  refine lv_istore (lv' := [(5, .int 0), (0, .ref st), (1, .int k), (2, .int 1), (3, .int kc), (4, .int n)]) hx hb dX6_add_4 hl (by decide) rfl (fun ls hl => ?_)
  refine lv_aload_n hx hb dX6_add_6 rfl (lv_at hl 1 rfl) ?_
  refine zz_get hC hZ 0 rfl zf_X6_9 rfl dX6_add_7 ?_
  refine lv_iload hx hb dX6_add_10 (lv_at hl 0 rfl) ?_
  refine lv_iload_n hx hb dX6_add_12 rfl (lv_at hl 2 rfl) ?_
  refine zz_iast hC hZ 1 rfl (by unfold vp_in; decide) dX6_add_13 (fun H locs hZ => ?_)
  rw [zl_c0] at hZ
  have hZ : zz_Z g A s.heap [(st, .inr (5, [.int 0, .int 0, .ref kd, .ref dp, .ref cl, .ref sa, .ref ln, .ref bt, .ref pn, .ref bf])), (kd, .inl (g.2.1, 60, .inl (upd (fun _ => 0) 0 k))), (dp, .inl (g.2.1, 60, .inl (fun _ => 0))), (cl, .inl (g.2.1, 60, .inl (fun _ => 0))), (sa, .inl (g.2.1, 60, .inl (fun _ => 0))), (ln, .inl (g.2.1, 60, .inl (fun _ => 0)))] H locs := hZ
  refine lv_aload_n hx hb dX6_add_14 rfl (lv_at hl 1 rfl) ?_
  refine zz_get hC hZ 0 rfl zf_X6_15 rfl dX6_add_15 ?_
  refine lv_iload hx hb dX6_add_18 (lv_at hl 0 rfl) ?_
  refine lv_iload_n hx hb dX6_add_20 rfl (lv_at hl 3 rfl) ?_
  refine zz_iast hC hZ 2 rfl (by unfold vp_in; decide) dX6_add_21 (fun H locs hZ => ?_)
  rw [zl_c0] at hZ
  have hZ : zz_Z g A s.heap [(st, .inr (5, [.int 0, .int 0, .ref kd, .ref dp, .ref cl, .ref sa, .ref ln, .ref bt, .ref pn, .ref bf])), (kd, .inl (g.2.1, 60, .inl (upd (fun _ => 0) 0 k))), (dp, .inl (g.2.1, 60, .inl (upd (fun _ => 0) 0 1))), (cl, .inl (g.2.1, 60, .inl (fun _ => 0))), (sa, .inl (g.2.1, 60, .inl (fun _ => 0))), (ln, .inl (g.2.1, 60, .inl (fun _ => 0)))] H locs := hZ
  refine lv_aload_n hx hb dX6_add_22 rfl (lv_at hl 1 rfl) ?_
  refine zz_get hC hZ 0 rfl zf_X6_18 rfl dX6_add_23 ?_
  refine lv_iload hx hb dX6_add_26 (lv_at hl 0 rfl) ?_
  refine lv_iload_n hx hb dX6_add_28 rfl (lv_at hl 4 rfl) ?_
  refine zz_iast hC hZ 3 rfl (by unfold vp_in; decide) dX6_add_29 (fun H locs hZ => ?_)
  rw [zl_c0] at hZ
  have hZ : zz_Z g A s.heap [(st, .inr (5, [.int 0, .int 0, .ref kd, .ref dp, .ref cl, .ref sa, .ref ln, .ref bt, .ref pn, .ref bf])), (kd, .inl (g.2.1, 60, .inl (upd (fun _ => 0) 0 k))), (dp, .inl (g.2.1, 60, .inl (upd (fun _ => 0) 0 1))), (cl, .inl (g.2.1, 60, .inl (upd (fun _ => 0) 0 kc))), (sa, .inl (g.2.1, 60, .inl (fun _ => 0))), (ln, .inl (g.2.1, 60, .inl (fun _ => 0)))] H locs := hZ
  refine lv_aload_n hx hb dX6_add_30 rfl (lv_at hl 1 rfl) ?_
  refine zz_get hC hZ 0 rfl zf_X6_21 rfl dX6_add_31 ?_
  refine lv_iload hx hb dX6_add_34 (lv_at hl 0 rfl) ?_
  refine lv_aload_n hx hb dX6_add_36 rfl (lv_at hl 1 rfl) ?_
  refine zz_get hC hZ 0 rfl zf_X6_44 rfl dX6_add_37 ?_
  refine zz_iast hC hZ 4 rfl (by unfold vp_in; decide) dX6_add_40 (fun H locs hZ => ?_)
  rw [zl_c0] at hZ
  have hZ : zz_Z g A s.heap [(st, .inr (5, [.int 0, .int 0, .ref kd, .ref dp, .ref cl, .ref sa, .ref ln, .ref bt, .ref pn, .ref bf])), (kd, .inl (g.2.1, 60, .inl (upd (fun _ => 0) 0 k))), (dp, .inl (g.2.1, 60, .inl (upd (fun _ => 0) 0 1))), (cl, .inl (g.2.1, 60, .inl (upd (fun _ => 0) 0 kc))), (sa, .inl (g.2.1, 60, .inl (upd (fun _ => 0) 0 0))), (ln, .inl (g.2.1, 60, .inl (fun _ => 0)))] H locs := hZ
  refine lv_aload_n hx hb dX6_add_41 rfl (lv_at hl 1 rfl) ?_
  refine zz_get hC hZ 0 rfl zf_X6_24 rfl dX6_add_42 ?_
  refine lv_iload hx hb dX6_add_45 (lv_at hl 0 rfl) ?_
  refine lv_iload hx hb dX6_add_47 (lv_at hl 5 rfl) ?_
  refine zz_iast hC hZ 5 rfl (by unfold vp_in; decide) dX6_add_49 (fun H locs hZ => ?_)
  rw [zl_c0] at hZ
  have hZ : zz_Z g A s.heap [(st, .inr (5, [.int 0, .int 0, .ref kd, .ref dp, .ref cl, .ref sa, .ref ln, .ref bt, .ref pn, .ref bf])), (kd, .inl (g.2.1, 60, .inl (upd (fun _ => 0) 0 k))), (dp, .inl (g.2.1, 60, .inl (upd (fun _ => 0) 0 1))), (cl, .inl (g.2.1, 60, .inl (upd (fun _ => 0) 0 kc))), (sa, .inl (g.2.1, 60, .inl (upd (fun _ => 0) 0 0))), (ln, .inl (g.2.1, 60, .inl (upd (fun _ => 0) 0 n)))] H locs := hZ
  refine lv_iload_n hx hb dX6_add_50 rfl (lv_at hl 3 rfl) ?_
  refine lv_iconst (v := 1) hx hb dX6_add_51 (by decide) ?_
  refine lv_icmp_le (tgt := 86) hx hb dX6_add_52 (by decide) (fun c1 => ?_) (fun c => absurd (by decide) c)
  refine lv_aload_n hx hb dX6_add_86 rfl (lv_at hl 1 rfl) ?_
  refine lv_dup hx hb dX6_add_87 rfl ?_
  refine zz_get hC hZ 0 rfl zf_X6_38 rfl dX6_add_88 ?_
  refine lv_iconst (v := 1) hx hb dX6_add_91 (by decide) ?_
  refine lv_iadd hx hb dX6_add_92 ?_
  refine zz_topi (v := 1) (by decide) ?_
  refine zz_put hC hZ 0 rfl zu_X6_38 (Nat.le_of_ble_eq_true rfl) dX6_add_93 (fun H locs hZ => ?_)
  have hZ : zz_Z g A s.heap [(st, .inr (5, [.int 1, .int 0, .ref kd, .ref dp, .ref cl, .ref sa, .ref ln, .ref bt, .ref pn, .ref bf])), (kd, .inl (g.2.1, 60, .inl (upd (fun _ => 0) 0 k))), (dp, .inl (g.2.1, 60, .inl (upd (fun _ => 0) 0 1))), (cl, .inl (g.2.1, 60, .inl (upd (fun _ => 0) 0 kc))), (sa, .inl (g.2.1, 60, .inl (upd (fun _ => 0) 0 0))), (ln, .inl (g.2.1, 60, .inl (upd (fun _ => 0) 0 n)))] H locs := hZ
  refine lv_aload_n hx hb dX6_add_96 rfl (lv_at hl 1 rfl) ?_
  refine lv_dup hx hb dX6_add_97 rfl ?_
  refine zz_get hC hZ 0 rfl zf_X6_44 rfl dX6_add_98 ?_
  refine lv_iload hx hb dX6_add_101 (lv_at hl 5 rfl) ?_
  refine lv_iadd hx hb dX6_add_103 ?_
  refine zz_put hC hZ 0 rfl zu_X6_44 (Nat.le_of_ble_eq_true rfl) dX6_add_104 (fun H locs hZ => ?_)
  have hZ : zz_Z g A s.heap [(st, .inr (5, [.int 1, .int (0 + n), .ref kd, .ref dp, .ref cl, .ref sa, .ref ln, .ref bt, .ref pn, .ref bf])), (kd, .inl (g.2.1, 60, .inl (upd (fun _ => 0) 0 k))), (dp, .inl (g.2.1, 60, .inl (upd (fun _ => 0) 0 1))), (cl, .inl (g.2.1, 60, .inl (upd (fun _ => 0) 0 kc))), (sa, .inl (g.2.1, 60, .inl (upd (fun _ => 0) 0 0))), (ln, .inl (g.2.1, 60, .inl (upd (fun _ => 0) 0 n)))] H locs := hZ
  refine lv_iload hx hb dX6_add_107 (lv_at hl 0 rfl) ?_
  exact zz_iret hC hZ (rfl) (Nat.le_of_ble_eq_true rfl) (Nat.le_of_ble_eq_true rfl) dX6_add_109
theorem dX7_newArray_0 : decode cX7_newArray 0 = .ok (.iload 4, 2) := by decide +kernel
theorem dX7_newArray_2 : decode cX7_newArray 2 = .ok (.ifCond .ge 9, 3) := by decide +kernel
theorem dX7_newArray_11 : decode cX7_newArray 11 = .ok (.iload 4, 2) := by decide +kernel
theorem dX7_newArray_13 : decode cX7_newArray 13 = .ok (.sipush 200, 3) := by decide +kernel
theorem dX7_newArray_16 : decode cX7_newArray 16 = .ok (.if_icmp .gt 17, 3) := by decide +kernel
theorem dX7_newArray_33 : decode cX7_newArray 33 = .ok (.aload_n 0, 1) := by decide +kernel
theorem dX7_newArray_34 : decode cX7_newArray 34 = .ok (.bipush 8, 2) := by decide +kernel
theorem dX7_newArray_36 : decode cX7_newArray 36 = .ok (.invokevirtual 65, 3) := by decide +kernel
theorem zk_232 : Cond.methodLink RX7 65 yX7_fail ∈ zz_w := zz_in (List.mem_append_right _ (List.mem_append_left _ (List.mem_of_getElem? (i := 232) (by decide +kernel)))) rfl
set_option maxRecDepth 20000 in
theorem zk_235 : Cond.code yX7_fail cX7_fail 2 (some .int) ∈ zz_w := zz_in (List.mem_append_right _ (List.mem_append_left _ (List.mem_of_getElem? (i := 235) (rfl)))) rfl
theorem zk_1 : Cond.initialized RX7 ∈ zz_w := zz_in (List.mem_append_right _ (List.mem_append_left _ (List.mem_of_getElem? (i := 1) (by decide +kernel)))) rfl
theorem zk_234 : Cond.instanceMethod yX7_fail ∈ zz_w := zz_in (List.mem_append_right _ (List.mem_append_left _ (List.mem_of_getElem? (i := 234) (by decide +kernel)))) rfl
theorem zs_0 : Cond.selects RX7 yX7_fail yX7_fail ∈ zz_w := zz_in (List.mem_append_left _ (List.mem_of_getElem? (i := 0) (by decide +kernel))) rfl
theorem zc_X7_65 : zz_cV RX7 65 yX7_fail cX7_fail 2 (some .int) 1 := ⟨⟨zk_232, zk_235, zk_1, by decide, by decide, by decide +kernel⟩, zk_234, zs_0⟩
theorem dX7_newArray_39 : decode cX7_newArray 39 = .ok (.ireturn, 1) := by decide +kernel
theorem dX7_newArray_19 : decode cX7_newArray 19 = .ok (.aload_n 0, 1) := by decide +kernel
theorem dX7_newArray_20 : decode cX7_newArray 20 = .ok (.getfield 10, 3) := by decide +kernel
theorem dX7_newArray_23 : decode cX7_newArray 23 = .ok (.lconst 1, 1) := by decide +kernel
theorem dX7_newArray_24 : decode cX7_newArray 24 = .ok (.iload 4, 2) := by decide +kernel
theorem dX7_newArray_26 : decode cX7_newArray 26 = .ok (.i2l, 1) := by decide +kernel
theorem dX7_newArray_27 : decode cX7_newArray 27 = .ok (.invokevirtual 294, 3) := by decide +kernel
theorem zk_240 : Cond.methodLink RX7 294 yX6_fits ∈ zz_w := zz_in (List.mem_append_right _ (List.mem_append_right _ (List.mem_append_left _ (List.mem_of_getElem? (i := 0) (by decide +kernel))))) rfl
set_option maxRecDepth 20000 in
theorem zk_243 : Cond.code yX6_fits cX6_fits 5 (some .boolean) ∈ zz_w := zz_in (List.mem_append_right _ (List.mem_append_right _ (List.mem_append_left _ (List.mem_of_getElem? (i := 3) (rfl))))) rfl
theorem zk_241 : Cond.instanceMethod yX6_fits ∈ zz_w := zz_in (List.mem_append_right _ (List.mem_append_right _ (List.mem_append_left _ (List.mem_of_getElem? (i := 1) (by decide +kernel))))) rfl
theorem zk_242 : Cond.selects RX6 yX6_fits yX6_fits ∈ zz_w := zz_in (List.mem_append_right _ (List.mem_append_right _ (List.mem_append_left _ (List.mem_of_getElem? (i := 2) (by decide +kernel))))) rfl
theorem zc_X7_294 : zz_cV RX7 294 yX6_fits cX6_fits 5 (some .boolean) 2 := ⟨⟨zk_240, zk_243, zk_2, by decide, by decide, by decide +kernel⟩, zk_241, zk_242⟩
theorem dX7_newArray_30 : decode cX7_newArray 30 = .ok (.ifCond .ne 10, 3) := by decide +kernel
theorem dX7_newArray_40 : decode cX7_newArray 40 = .ok (.aload_n 0, 1) := by decide +kernel
theorem dX7_newArray_41 : decode cX7_newArray 41 = .ok (.aload_n 0, 1) := by decide +kernel
theorem dX7_newArray_42 : decode cX7_newArray 42 = .ok (.getfield 10, 3) := by decide +kernel
theorem dX7_newArray_45 : decode cX7_newArray 45 = .ok (.iload_n 1, 1) := by decide +kernel
theorem dX7_newArray_46 : decode cX7_newArray 46 = .ok (.iload_n 2, 1) := by decide +kernel
theorem dX7_newArray_47 : decode cX7_newArray 47 = .ok (.iload_n 3, 1) := by decide +kernel
theorem dX7_newArray_48 : decode cX7_newArray 48 = .ok (.iload 4, 2) := by decide +kernel
theorem dX7_newArray_50 : decode cX7_newArray 50 = .ok (.invokevirtual 298, 3) := by decide +kernel
theorem zk_246 : Cond.methodLink RX7 298 yX6_add ∈ zz_w := zz_in (List.mem_append_right _ (List.mem_append_right _ (List.mem_append_left _ (List.mem_of_getElem? (i := 6) (by decide +kernel))))) rfl
set_option maxRecDepth 20000 in
theorem zk_249 : Cond.code yX6_add cX6_add 7 (some .int) ∈ zz_w := zz_in (List.mem_append_right _ (List.mem_append_right _ (List.mem_append_left _ (List.mem_of_getElem? (i := 9) (rfl))))) rfl
theorem zk_247 : Cond.instanceMethod yX6_add ∈ zz_w := zz_in (List.mem_append_right _ (List.mem_append_right _ (List.mem_append_left _ (List.mem_of_getElem? (i := 7) (by decide +kernel))))) rfl
theorem zk_248 : Cond.selects RX6 yX6_add yX6_add ∈ zz_w := zz_in (List.mem_append_right _ (List.mem_append_right _ (List.mem_append_left _ (List.mem_of_getElem? (i := 8) (by decide +kernel))))) rfl
theorem zc_X7_298 : zz_cV RX7 298 yX6_add cX6_add 7 (some .int) 4 := ⟨⟨zk_246, zk_249, zk_2, by decide, by decide, by decide +kernel⟩, zk_247, zk_248⟩
theorem dX7_newArray_53 : decode cX7_newArray 53 = .ok (.invokevirtual 100, 3) := by decide +kernel
theorem zk_251 : Cond.methodLink RX7 100 yX7_fine ∈ zz_w := zz_in (List.mem_append_right _ (List.mem_append_right _ (List.mem_append_left _ (List.mem_of_getElem? (i := 11) (by decide +kernel))))) rfl
set_option maxRecDepth 20000 in
theorem zk_254 : Cond.code yX7_fine cX7_fine 2 (some .int) ∈ zz_w := zz_in (List.mem_append_right _ (List.mem_append_right _ (List.mem_append_left _ (List.mem_of_getElem? (i := 14) (rfl))))) rfl
theorem zk_253 : Cond.instanceMethod yX7_fine ∈ zz_w := zz_in (List.mem_append_right _ (List.mem_append_right _ (List.mem_append_left _ (List.mem_of_getElem? (i := 13) (by decide +kernel))))) rfl
theorem zs_2 : Cond.selects RX7 yX7_fine yX7_fine ∈ zz_w := zz_in (List.mem_append_left _ (List.mem_of_getElem? (i := 2) (by decide +kernel))) rfl
theorem zc_X7_100 : zz_cV RX7 100 yX7_fine cX7_fine 2 (some .int) 1 := ⟨⟨zk_251, zk_254, zk_1, by decide, by decide, by decide +kernel⟩, zk_253, zs_2⟩
theorem dX7_newArray_56 : decode cX7_newArray 56 = .ok (.ireturn, 1) := by decide +kernel
theorem dX7_newArray_5 : decode cX7_newArray 5 = .ok (.aload_n 0, 1) := by decide +kernel
theorem dX7_newArray_6 : decode cX7_newArray 6 = .ok (.iconst 4, 1) := by decide +kernel
theorem dX7_newArray_7 : decode cX7_newArray 7 = .ok (.invokevirtual 65, 3) := by decide +kernel
theorem dX7_newArray_10 : decode cX7_newArray 10 = .ok (.ireturn, 1) := by decide +kernel
def fn_co_newArray0 (n : Int32) : Int32 := (if 0 ≤ n then (if 200 < n then -8 else (if (fn_co_fits 0 0 1 n.toInt64) = 0 then -8 else 0)) else -4)
abbrev rm_co_newArray0 : Room := { frames := 1, cells := 0, slots := 0, locals := 26 }
abbrev po_co_newArray0 (g : zz_G) (h0 : Nat) (st : Nat) (mk : Nat) (lk : Nat) (ch : Nat) (ru : Nat) (mr : Nat) (kd : Nat) (dp : Nat) (cl : Nat) (sa : Nat) (ln : Nat) (bt : Nat) (pn : Nat) (bf : Nat) (k : Int32) (kc : Int32) (n : Int32) : Int32 → va_W → Prop := fun (r : Int32) (u : va_W) => r = fn_co_newArray0 n
set_option maxHeartbeats 4000000 in
set_option maxRecDepth 100000 in
theorem co_newArray0 (g : zz_G) (h0 : Nat) (st : Nat) (mk : Nat) (lk : Nat) (ch : Nat) (ru : Nat) (mr : Nat) (kd : Nat) (dp : Nat) (cl : Nat) (sa : Nat) (ln : Nat) (bt : Nat) (pn : Nat) (bf : Nat) (k : Int32) (kc : Int32) (n : Int32) : zz_I g yX7_newArray (.code yX7_newArray cX7_newArray 5 (some .int)) rm_co_newArray0 [.ref h0, .int k, .int 1, .int kc, .int n] [(h0, .inr (6, [.ref st, .ref mk, .ref lk, .ref ch, .ref ru, .ref mr, .int 0, .int 0])), (st, .inr (5, [.int 0, .int 0, .ref kd, .ref dp, .ref cl, .ref sa, .ref ln, .ref bt, .ref pn, .ref bf])), (kd, .inl (g.2.1, 60, .inl (fun _ => 0))), (dp, .inl (g.2.1, 60, .inl (fun _ => 0))), (cl, .inl (g.2.1, 60, .inl (fun _ => 0))), (sa, .inl (g.2.1, 60, .inl (fun _ => 0))), (ln, .inl (g.2.1, 60, .inl (fun _ => 0)))] (po_co_newArray0 g h0 st mk lk ch ru mr kd dp cl sa ln bt pn bf k kc n) := by
  refine zz_I.intro (own := RX7) (cc := cX7_newArray) (nL := 5) (by decide) rfl (Nat.le_of_ble_eq_true rfl) ?_
  intro p l e s m args below meth c A H locs ls hC hnm hZ hl
  obtain ⟨hx, hb, hml, hown, hts, hr, hlocks, hK⟩ := id hC
  have hl : lv_has ls 5 [(0, .ref h0), (1, .int k), (2, .int 1), (3, .int kc), (4, .int n)] := hl
  have hZ : zz_Z g A s.heap [(h0, .inr (6, [.ref st, .ref mk, .ref lk, .ref ch, .ref ru, .ref mr, .int 0, .int 0])), (st, .inr (5, [.int 0, .int 0, .ref kd, .ref dp, .ref cl, .ref sa, .ref ln, .ref bt, .ref pn, .ref bf])), (kd, .inl (g.2.1, 60, .inl (fun _ => 0))), (dp, .inl (g.2.1, 60, .inl (fun _ => 0))), (cl, .inl (g.2.1, 60, .inl (fun _ => 0))), (sa, .inl (g.2.1, 60, .inl (fun _ => 0))), (ln, .inl (g.2.1, 60, .inl (fun _ => 0)))] H locs := hZ
  refine lv_iload hx hb dX7_newArray_0 (lv_at hl 4 rfl) ?_
  refine lv_if_ge (tgt := 11) hx hb dX7_newArray_2 (by decide) (fun c1 => ?_) (fun c1 => ?_)
  · refine lv_iload hx hb dX7_newArray_11 (lv_at hl 4 rfl) ?_
    refine lv_sipush (v := 200) hx hb dX7_newArray_13 (by decide) ?_
    refine lv_icmp_gt (tgt := 33) hx hb dX7_newArray_16 (by decide) (fun c2 => ?_) (fun c2 => ?_)
    · refine lv_aload_n hx hb dX7_newArray_33 rfl (lv_at hl 0 rfl) ?_
      refine lv_bipush (v := 8) hx hb dX7_newArray_34 (by decide) ?_
      refine zz_iV (As := [.int 8]) (wc := [(h0, .inr (6, [.ref st, .ref mk, .ref lk, .ref ch, .ref ru, .ref mr, .int 0, .int 0]))]) (wr := [(st, .inr (5, [.int 0, .int 0, .ref kd, .ref dp, .ref cl, .ref sa, .ref ln, .ref bt, .ref pn, .ref bf])), (kd, .inl (g.2.1, 60, .inl (fun _ => 0))), (dp, .inl (g.2.1, 60, .inl (fun _ => 0))), (cl, .inl (g.2.1, 60, .inl (fun _ => 0))), (sa, .inl (g.2.1, 60, .inl (fun _ => 0))), (ln, .inl (g.2.1, 60, .inl (fun _ => 0)))]) (rest := []) hC hZ hl zc_X7_65 (co_fail g h0 st mk lk ch ru mr 0 0 8) [0] [1, 2, 3, 4, 5, 6] rfl rfl (by decide) (ci := 6) (q0 := 0) rfl rfl rfl rfl (Nat.le_of_ble_eq_true rfl) ⟨⟨Nat.le_of_ble_eq_true rfl, Nat.le_of_ble_eq_true rfl⟩, Nat.le_of_ble_eq_true rfl, Nat.le_of_ble_eq_true rfl⟩ dX7_newArray_36 (fun r3 u4 H locs hp hZ => ?_)
      obtain ⟨rfl, rfl⟩ := hp
      have hZ : zz_Z g A s.heap [(st, .inr (5, [.int 0, .int 0, .ref kd, .ref dp, .ref cl, .ref sa, .ref ln, .ref bt, .ref pn, .ref bf])), (kd, .inl (g.2.1, 60, .inl (fun _ => 0))), (dp, .inl (g.2.1, 60, .inl (fun _ => 0))), (cl, .inl (g.2.1, 60, .inl (fun _ => 0))), (sa, .inl (g.2.1, 60, .inl (fun _ => 0))), (ln, .inl (g.2.1, 60, .inl (fun _ => 0))), (h0, .inr (6, [.ref st, .ref mk, .ref lk, .ref ch, .ref ru, .ref mr, .int 0, .int 8]))] H locs := hZ
      exact zz_iret hC hZ (by show _ = _; rw [fn_co_newArray0, if_pos c1, if_pos c2]) (Nat.le_of_ble_eq_true rfl) (Nat.le_of_ble_eq_true rfl) dX7_newArray_39
    · refine lv_aload_n hx hb dX7_newArray_19 rfl (lv_at hl 0 rfl) ?_
      refine zz_get hC hZ 0 rfl zf_X7_10 rfl dX7_newArray_20 ?_
      refine lv_lconst (v := 1) hx hb dX7_newArray_23 (by decide) ?_
      refine lv_iload hx hb dX7_newArray_24 (lv_at hl 4 rfl) ?_
      refine lv_i2l hx hb dX7_newArray_26 rfl ?_
      refine zz_iV (As := [.long 1, .long n.toInt64]) (wc := [(st, .inr (5, [.int 0, .int 0, .ref kd, .ref dp, .ref cl, .ref sa, .ref ln, .ref bt, .ref pn, .ref bf]))]) (wr := [(h0, .inr (6, [.ref st, .ref mk, .ref lk, .ref ch, .ref ru, .ref mr, .int 0, .int 0])), (kd, .inl (g.2.1, 60, .inl (fun _ => 0))), (dp, .inl (g.2.1, 60, .inl (fun _ => 0))), (cl, .inl (g.2.1, 60, .inl (fun _ => 0))), (sa, .inl (g.2.1, 60, .inl (fun _ => 0))), (ln, .inl (g.2.1, 60, .inl (fun _ => 0)))]) (rest := []) hC hZ hl zc_X7_294 (co_fits g st kd dp cl sa ln bt pn bf 0 0 1 n.toInt64) [1] [0, 2, 3, 4, 5, 6] rfl rfl (by decide) (ci := 5) (q0 := 0) rfl rfl rfl rfl (Nat.le_of_ble_eq_true rfl) ⟨⟨Nat.le_of_ble_eq_true rfl, Nat.le_of_ble_eq_true rfl⟩, Nat.le_of_ble_eq_true rfl, Nat.le_of_ble_eq_true rfl⟩ dX7_newArray_27 (fun r5 u6 H locs hp hZ => ?_)
      obtain ⟨rfl, rfl⟩ := hp
      have hZ : zz_Z g A s.heap [(h0, .inr (6, [.ref st, .ref mk, .ref lk, .ref ch, .ref ru, .ref mr, .int 0, .int 0])), (kd, .inl (g.2.1, 60, .inl (fun _ => 0))), (dp, .inl (g.2.1, 60, .inl (fun _ => 0))), (cl, .inl (g.2.1, 60, .inl (fun _ => 0))), (sa, .inl (g.2.1, 60, .inl (fun _ => 0))), (ln, .inl (g.2.1, 60, .inl (fun _ => 0))), (st, .inr (5, [.int 0, .int 0, .ref kd, .ref dp, .ref cl, .ref sa, .ref ln, .ref bt, .ref pn, .ref bf]))] H locs := hZ
      refine lv_if_ne (tgt := 40) hx hb dX7_newArray_30 (by decide) (fun c7 => ?_) (fun c7 => ?_)
      · refine lv_aload_n hx hb dX7_newArray_40 rfl (lv_at hl 0 rfl) ?_
        refine lv_aload_n hx hb dX7_newArray_41 rfl (lv_at hl 0 rfl) ?_
        refine zz_get hC hZ 0 rfl zf_X7_10 rfl dX7_newArray_42 ?_
        refine lv_iload_n hx hb dX7_newArray_45 rfl (lv_at hl 1 rfl) ?_
        refine lv_iload_n hx hb dX7_newArray_46 rfl (lv_at hl 2 rfl) ?_
        refine lv_iload_n hx hb dX7_newArray_47 rfl (lv_at hl 3 rfl) ?_
        refine lv_iload hx hb dX7_newArray_48 (lv_at hl 4 rfl) ?_
        refine zz_iV (As := [.int k, .int 1, .int kc, .int n]) (wc := [(st, .inr (5, [.int 0, .int 0, .ref kd, .ref dp, .ref cl, .ref sa, .ref ln, .ref bt, .ref pn, .ref bf])), (kd, .inl (g.2.1, 60, .inl (fun _ => 0))), (dp, .inl (g.2.1, 60, .inl (fun _ => 0))), (cl, .inl (g.2.1, 60, .inl (fun _ => 0))), (sa, .inl (g.2.1, 60, .inl (fun _ => 0))), (ln, .inl (g.2.1, 60, .inl (fun _ => 0)))]) (wr := [(h0, .inr (6, [.ref st, .ref mk, .ref lk, .ref ch, .ref ru, .ref mr, .int 0, .int 0]))]) (rest := [.ref h0]) hC hZ hl zc_X7_298 (co_add0 g st kd dp cl sa ln bt pn bf k kc n) [6, 1, 2, 3, 4, 5] [0] rfl rfl (by decide) (ci := 5) (q0 := 0) rfl rfl rfl rfl (Nat.le_of_ble_eq_true rfl) ⟨⟨Nat.le_of_ble_eq_true rfl, Nat.le_of_ble_eq_true rfl⟩, Nat.le_of_ble_eq_true rfl, Nat.le_of_ble_eq_true rfl⟩ dX7_newArray_50 (fun r8 u9 H locs hp hZ => ?_)
        obtain rfl := hp
        have hZ : zz_Z g A s.heap [(h0, .inr (6, [.ref st, .ref mk, .ref lk, .ref ch, .ref ru, .ref mr, .int 0, .int 0]))] H locs := hZ.left
        refine zz_iV (As := [.int 0]) (wc := [(h0, .inr (6, [.ref st, .ref mk, .ref lk, .ref ch, .ref ru, .ref mr, .int 0, .int 0]))]) (wr := []) (rest := []) hC hZ hl zc_X7_100 (co_fine g h0 st mk lk ch ru mr 0 0 0) [0] [] rfl rfl (by decide) (ci := 6) (q0 := 0) rfl rfl rfl rfl (Nat.le_of_ble_eq_true rfl) ⟨⟨Nat.le_of_ble_eq_true rfl, Nat.le_of_ble_eq_true rfl⟩, Nat.le_of_ble_eq_true rfl, Nat.le_of_ble_eq_true rfl⟩ dX7_newArray_53 (fun r10 u11 H locs hp hZ => ?_)
        obtain ⟨rfl, rfl⟩ := hp
        have hZ : zz_Z g A s.heap [(h0, .inr (6, [.ref st, .ref mk, .ref lk, .ref ch, .ref ru, .ref mr, .int 0, .int 0]))] H locs := hZ
        exact zz_iret hC hZ (by show _ = _; rw [fn_co_newArray0, if_pos c1, if_neg c2, if_neg c7]) (Nat.le_of_ble_eq_true rfl) (Nat.le_of_ble_eq_true rfl) dX7_newArray_56
      · refine lv_aload_n hx hb dX7_newArray_33 rfl (lv_at hl 0 rfl) ?_
        refine lv_bipush (v := 8) hx hb dX7_newArray_34 (by decide) ?_
        refine zz_iV (As := [.int 8]) (wc := [(h0, .inr (6, [.ref st, .ref mk, .ref lk, .ref ch, .ref ru, .ref mr, .int 0, .int 0]))]) (wr := [(kd, .inl (g.2.1, 60, .inl (fun _ => 0))), (dp, .inl (g.2.1, 60, .inl (fun _ => 0))), (cl, .inl (g.2.1, 60, .inl (fun _ => 0))), (sa, .inl (g.2.1, 60, .inl (fun _ => 0))), (ln, .inl (g.2.1, 60, .inl (fun _ => 0))), (st, .inr (5, [.int 0, .int 0, .ref kd, .ref dp, .ref cl, .ref sa, .ref ln, .ref bt, .ref pn, .ref bf]))]) (rest := []) hC hZ hl zc_X7_65 (co_fail g h0 st mk lk ch ru mr 0 0 8) [0] [1, 2, 3, 4, 5, 6] rfl rfl (by decide) (ci := 6) (q0 := 0) rfl rfl rfl rfl (Nat.le_of_ble_eq_true rfl) ⟨⟨Nat.le_of_ble_eq_true rfl, Nat.le_of_ble_eq_true rfl⟩, Nat.le_of_ble_eq_true rfl, Nat.le_of_ble_eq_true rfl⟩ dX7_newArray_36 (fun r12 u13 H locs hp hZ => ?_)
        obtain ⟨rfl, rfl⟩ := hp
        have hZ : zz_Z g A s.heap [(kd, .inl (g.2.1, 60, .inl (fun _ => 0))), (dp, .inl (g.2.1, 60, .inl (fun _ => 0))), (cl, .inl (g.2.1, 60, .inl (fun _ => 0))), (sa, .inl (g.2.1, 60, .inl (fun _ => 0))), (ln, .inl (g.2.1, 60, .inl (fun _ => 0))), (st, .inr (5, [.int 0, .int 0, .ref kd, .ref dp, .ref cl, .ref sa, .ref ln, .ref bt, .ref pn, .ref bf])), (h0, .inr (6, [.ref st, .ref mk, .ref lk, .ref ch, .ref ru, .ref mr, .int 0, .int 8]))] H locs := hZ
        exact zz_iret hC hZ (by show _ = _; rw [fn_co_newArray0, if_pos c1, if_neg c2, if_pos c7]) (Nat.le_of_ble_eq_true rfl) (Nat.le_of_ble_eq_true rfl) dX7_newArray_39
  · refine lv_aload_n hx hb dX7_newArray_5 rfl (lv_at hl 0 rfl) ?_
    refine lv_iconst (v := 4) hx hb dX7_newArray_6 (by decide) ?_
    refine zz_iV (As := [.int 4]) (wc := [(h0, .inr (6, [.ref st, .ref mk, .ref lk, .ref ch, .ref ru, .ref mr, .int 0, .int 0]))]) (wr := [(st, .inr (5, [.int 0, .int 0, .ref kd, .ref dp, .ref cl, .ref sa, .ref ln, .ref bt, .ref pn, .ref bf])), (kd, .inl (g.2.1, 60, .inl (fun _ => 0))), (dp, .inl (g.2.1, 60, .inl (fun _ => 0))), (cl, .inl (g.2.1, 60, .inl (fun _ => 0))), (sa, .inl (g.2.1, 60, .inl (fun _ => 0))), (ln, .inl (g.2.1, 60, .inl (fun _ => 0)))]) (rest := []) hC hZ hl zc_X7_65 (co_fail g h0 st mk lk ch ru mr 0 0 4) [0] [1, 2, 3, 4, 5, 6] rfl rfl (by decide) (ci := 6) (q0 := 0) rfl rfl rfl rfl (Nat.le_of_ble_eq_true rfl) ⟨⟨Nat.le_of_ble_eq_true rfl, Nat.le_of_ble_eq_true rfl⟩, Nat.le_of_ble_eq_true rfl, Nat.le_of_ble_eq_true rfl⟩ dX7_newArray_7 (fun r14 u15 H locs hp hZ => ?_)
    obtain ⟨rfl, rfl⟩ := hp
    have hZ : zz_Z g A s.heap [(st, .inr (5, [.int 0, .int 0, .ref kd, .ref dp, .ref cl, .ref sa, .ref ln, .ref bt, .ref pn, .ref bf])), (kd, .inl (g.2.1, 60, .inl (fun _ => 0))), (dp, .inl (g.2.1, 60, .inl (fun _ => 0))), (cl, .inl (g.2.1, 60, .inl (fun _ => 0))), (sa, .inl (g.2.1, 60, .inl (fun _ => 0))), (ln, .inl (g.2.1, 60, .inl (fun _ => 0))), (h0, .inr (6, [.ref st, .ref mk, .ref lk, .ref ch, .ref ru, .ref mr, .int 0, .int 4]))] H locs := hZ
    exact zz_iret hC hZ (by show _ = _; rw [fn_co_newArray0, if_neg c1]) (Nat.le_of_ble_eq_true rfl) (Nat.le_of_ble_eq_true rfl) dX7_newArray_10
theorem dX7_array_0 : decode cX7_array 0 = .ok (.iload_n 1, 1) := by decide +kernel
theorem dX7_array_1 : decode cX7_array 1 = .ok (.invokestatic 59, 3) := by decide +kernel
theorem zk_229 : Cond.methodLink RX7 59 yX1_isKind ∈ zz_w := zz_in (List.mem_append_right _ (List.mem_append_left _ (List.mem_of_getElem? (i := 229) (by decide +kernel)))) rfl
set_option maxRecDepth 20000 in
theorem zk_231 : Cond.code yX1_isKind cX1_isKind 1 (some .boolean) ∈ zz_w := zz_in (List.mem_append_right _ (List.mem_append_left _ (List.mem_of_getElem? (i := 231) (rfl)))) rfl
theorem zk_8 : Cond.initialized RX1 ∈ zz_w := zz_in (List.mem_append_right _ (List.mem_append_left _ (List.mem_of_getElem? (i := 8) (by decide +kernel)))) rfl
theorem zk_230 : Cond.static yX1_isKind ∈ zz_w := zz_in (List.mem_append_right _ (List.mem_append_left _ (List.mem_of_getElem? (i := 230) (by decide +kernel)))) rfl
theorem zc_X7_59 : zz_cS RX7 59 yX1_isKind cX1_isKind 1 (some .boolean) 1 := ⟨⟨zk_229, zk_231, zk_8, by decide, by decide, by decide +kernel⟩, zk_230⟩
theorem dX7_array_4 : decode cX7_array 4 = .ok (.ifCond .ne 10, 3) := by decide +kernel
theorem dX7_array_14 : decode cX7_array 14 = .ok (.aload_n 0, 1) := by decide +kernel
theorem dX7_array_15 : decode cX7_array 15 = .ok (.iload_n 1, 1) := by decide +kernel
theorem dX7_array_16 : decode cX7_array 16 = .ok (.iconst 1, 1) := by decide +kernel
theorem dX7_array_17 : decode cX7_array 17 = .ok (.iconst (-1), 1) := by decide +kernel
theorem dX7_array_18 : decode cX7_array 18 = .ok (.iload_n 2, 1) := by decide +kernel
theorem dX7_array_19 : decode cX7_array 19 = .ok (.invokevirtual 69, 3) := by decide +kernel
theorem zk_236 : Cond.methodLink RX7 69 yX7_newArray ∈ zz_w := zz_in (List.mem_append_right _ (List.mem_append_left _ (List.mem_of_getElem? (i := 236) (by decide +kernel)))) rfl
set_option maxRecDepth 20000 in
theorem zk_239 : Cond.code yX7_newArray cX7_newArray 5 (some .int) ∈ zz_w := zz_in (List.mem_append_right _ (List.mem_append_left _ (List.mem_of_getElem? (i := 239) (rfl)))) rfl
theorem zk_238 : Cond.instanceMethod yX7_newArray ∈ zz_w := zz_in (List.mem_append_right _ (List.mem_append_left _ (List.mem_of_getElem? (i := 238) (by decide +kernel)))) rfl
theorem zs_1 : Cond.selects RX7 yX7_newArray yX7_newArray ∈ zz_w := zz_in (List.mem_append_left _ (List.mem_of_getElem? (i := 1) (by decide +kernel))) rfl
theorem zc_X7_69 : zz_cV RX7 69 yX7_newArray cX7_newArray 5 (some .int) 4 := ⟨⟨zk_236, zk_239, zk_1, by decide, by decide, by decide +kernel⟩, zk_238, zs_1⟩
theorem dX7_array_22 : decode cX7_array 22 = .ok (.ireturn, 1) := by decide +kernel
theorem dX7_array_7 : decode cX7_array 7 = .ok (.aload_n 0, 1) := by decide +kernel
theorem dX7_array_8 : decode cX7_array 8 = .ok (.bipush 9, 2) := by decide +kernel
theorem dX7_array_10 : decode cX7_array 10 = .ok (.invokevirtual 65, 3) := by decide +kernel
theorem dX7_array_13 : decode cX7_array 13 = .ok (.ireturn, 1) := by decide +kernel
def fn_cx_array (x1 : Int32) (x2 : Int32) : Int32 := (if (fn_co_isKind x1) = 0 then -9 else (fn_co_newArray0 x2))
abbrev rm_cx_array : Room := { frames := 2, cells := 0, slots := 0, locals := 50 }
abbrev po_cx_array (g : zz_G) (h0 : Nat) (st : Nat) (mk : Nat) (lk : Nat) (ch : Nat) (ru : Nat) (mr : Nat) (kd : Nat) (dp : Nat) (cl : Nat) (sa : Nat) (ln : Nat) (bt : Nat) (pn : Nat) (bf : Nat) (x1 : Int32) (x2 : Int32) : Int32 → va_W → Prop := fun (r : Int32) (u : va_W) => r = fn_cx_array x1 x2
set_option maxHeartbeats 4000000 in
set_option maxRecDepth 100000 in
theorem cx_array (g : zz_G) (h0 : Nat) (st : Nat) (mk : Nat) (lk : Nat) (ch : Nat) (ru : Nat) (mr : Nat) (kd : Nat) (dp : Nat) (cl : Nat) (sa : Nat) (ln : Nat) (bt : Nat) (pn : Nat) (bf : Nat) (x1 : Int32) (x2 : Int32) : zz_I g yX7_array (.code yX7_array cX7_array 3 (some .int)) rm_cx_array [.ref h0, .int x1, .int x2] [(h0, .inr (6, [.ref st, .ref mk, .ref lk, .ref ch, .ref ru, .ref mr, .int 0, .int 0])), (st, .inr (5, [.int 0, .int 0, .ref kd, .ref dp, .ref cl, .ref sa, .ref ln, .ref bt, .ref pn, .ref bf])), (kd, .inl (g.2.1, 60, .inl (fun _ => 0))), (dp, .inl (g.2.1, 60, .inl (fun _ => 0))), (cl, .inl (g.2.1, 60, .inl (fun _ => 0))), (sa, .inl (g.2.1, 60, .inl (fun _ => 0))), (ln, .inl (g.2.1, 60, .inl (fun _ => 0)))] (po_cx_array g h0 st mk lk ch ru mr kd dp cl sa ln bt pn bf x1 x2) := by
  refine zz_I.intro (own := RX7) (cc := cX7_array) (nL := 3) (by decide) rfl (Nat.le_of_ble_eq_true rfl) ?_
  intro p l e s m args below meth c A H locs ls hC hnm hZ hl
  obtain ⟨hx, hb, hml, hown, hts, hr, hlocks, hK⟩ := id hC
  have hl : lv_has ls 3 [(0, .ref h0), (1, .int x1), (2, .int x2)] := hl
  have hZ : zz_Z g A s.heap [(h0, .inr (6, [.ref st, .ref mk, .ref lk, .ref ch, .ref ru, .ref mr, .int 0, .int 0])), (st, .inr (5, [.int 0, .int 0, .ref kd, .ref dp, .ref cl, .ref sa, .ref ln, .ref bt, .ref pn, .ref bf])), (kd, .inl (g.2.1, 60, .inl (fun _ => 0))), (dp, .inl (g.2.1, 60, .inl (fun _ => 0))), (cl, .inl (g.2.1, 60, .inl (fun _ => 0))), (sa, .inl (g.2.1, 60, .inl (fun _ => 0))), (ln, .inl (g.2.1, 60, .inl (fun _ => 0)))] H locs := hZ
  refine lv_iload_n hx hb dX7_array_0 rfl (lv_at hl 1 rfl) ?_
  refine zz_iS (As := [.int x1]) (wc := []) (wr := [(h0, .inr (6, [.ref st, .ref mk, .ref lk, .ref ch, .ref ru, .ref mr, .int 0, .int 0])), (st, .inr (5, [.int 0, .int 0, .ref kd, .ref dp, .ref cl, .ref sa, .ref ln, .ref bt, .ref pn, .ref bf])), (kd, .inl (g.2.1, 60, .inl (fun _ => 0))), (dp, .inl (g.2.1, 60, .inl (fun _ => 0))), (cl, .inl (g.2.1, 60, .inl (fun _ => 0))), (sa, .inl (g.2.1, 60, .inl (fun _ => 0))), (ln, .inl (g.2.1, 60, .inl (fun _ => 0)))]) (rest := []) hC hZ hl zc_X7_59 (co_isKind g x1) [] [0, 1, 2, 3, 4, 5, 6] rfl rfl (by decide) rfl rfl (Nat.le_of_ble_eq_true rfl) ⟨⟨Nat.le_of_ble_eq_true rfl, Nat.le_of_ble_eq_true rfl⟩, Nat.le_of_ble_eq_true rfl, Nat.le_of_ble_eq_true rfl⟩ dX7_array_1 (fun r1 u2 H locs hp hZ => ?_)
  obtain ⟨rfl, rfl⟩ := hp
  have hZ : zz_Z g A s.heap [(h0, .inr (6, [.ref st, .ref mk, .ref lk, .ref ch, .ref ru, .ref mr, .int 0, .int 0])), (st, .inr (5, [.int 0, .int 0, .ref kd, .ref dp, .ref cl, .ref sa, .ref ln, .ref bt, .ref pn, .ref bf])), (kd, .inl (g.2.1, 60, .inl (fun _ => 0))), (dp, .inl (g.2.1, 60, .inl (fun _ => 0))), (cl, .inl (g.2.1, 60, .inl (fun _ => 0))), (sa, .inl (g.2.1, 60, .inl (fun _ => 0))), (ln, .inl (g.2.1, 60, .inl (fun _ => 0)))] H locs := hZ
  refine lv_if_ne (tgt := 14) hx hb dX7_array_4 (by decide) (fun c3 => ?_) (fun c3 => ?_)
  · refine lv_aload_n hx hb dX7_array_14 rfl (lv_at hl 0 rfl) ?_
    refine lv_iload_n hx hb dX7_array_15 rfl (lv_at hl 1 rfl) ?_
    refine lv_iconst (v := 1) hx hb dX7_array_16 (by decide) ?_
    refine lv_iconst (v := -1) hx hb dX7_array_17 (by decide) ?_
    refine lv_iload_n hx hb dX7_array_18 rfl (lv_at hl 2 rfl) ?_
    refine zz_iV (As := [.int x1, .int 1, .int (-1), .int x2]) (wc := [(h0, .inr (6, [.ref st, .ref mk, .ref lk, .ref ch, .ref ru, .ref mr, .int 0, .int 0])), (st, .inr (5, [.int 0, .int 0, .ref kd, .ref dp, .ref cl, .ref sa, .ref ln, .ref bt, .ref pn, .ref bf])), (kd, .inl (g.2.1, 60, .inl (fun _ => 0))), (dp, .inl (g.2.1, 60, .inl (fun _ => 0))), (cl, .inl (g.2.1, 60, .inl (fun _ => 0))), (sa, .inl (g.2.1, 60, .inl (fun _ => 0))), (ln, .inl (g.2.1, 60, .inl (fun _ => 0)))]) (wr := []) (rest := []) hC hZ hl zc_X7_69 (co_newArray0 g h0 st mk lk ch ru mr kd dp cl sa ln bt pn bf x1 (-1) x2) [0, 1, 2, 3, 4, 5, 6] [] rfl rfl (by decide) (ci := 6) (q0 := 0) rfl rfl rfl rfl (Nat.le_of_ble_eq_true rfl) ⟨⟨Nat.le_of_ble_eq_true rfl, Nat.le_of_ble_eq_true rfl⟩, Nat.le_of_ble_eq_true rfl, Nat.le_of_ble_eq_true rfl⟩ dX7_array_19 (fun r4 u5 H locs hp hZ => ?_)
    obtain rfl := hp
    have hZ : zz_Z g A s.heap [] H locs := hZ.left
    exact zz_iret hC hZ (by show _ = _; rw [fn_cx_array, if_neg c3]) (Nat.le_of_ble_eq_true rfl) (Nat.le_of_ble_eq_true rfl) dX7_array_22
  · refine lv_aload_n hx hb dX7_array_7 rfl (lv_at hl 0 rfl) ?_
    refine lv_bipush (v := 9) hx hb dX7_array_8 (by decide) ?_
    refine zz_iV (As := [.int 9]) (wc := [(h0, .inr (6, [.ref st, .ref mk, .ref lk, .ref ch, .ref ru, .ref mr, .int 0, .int 0]))]) (wr := [(st, .inr (5, [.int 0, .int 0, .ref kd, .ref dp, .ref cl, .ref sa, .ref ln, .ref bt, .ref pn, .ref bf])), (kd, .inl (g.2.1, 60, .inl (fun _ => 0))), (dp, .inl (g.2.1, 60, .inl (fun _ => 0))), (cl, .inl (g.2.1, 60, .inl (fun _ => 0))), (sa, .inl (g.2.1, 60, .inl (fun _ => 0))), (ln, .inl (g.2.1, 60, .inl (fun _ => 0)))]) (rest := []) hC hZ hl zc_X7_65 (co_fail g h0 st mk lk ch ru mr 0 0 9) [0] [1, 2, 3, 4, 5, 6] rfl rfl (by decide) (ci := 6) (q0 := 0) rfl rfl rfl rfl (Nat.le_of_ble_eq_true rfl) ⟨⟨Nat.le_of_ble_eq_true rfl, Nat.le_of_ble_eq_true rfl⟩, Nat.le_of_ble_eq_true rfl, Nat.le_of_ble_eq_true rfl⟩ dX7_array_10 (fun r6 u7 H locs hp hZ => ?_)
    obtain ⟨rfl, rfl⟩ := hp
    have hZ : zz_Z g A s.heap [(st, .inr (5, [.int 0, .int 0, .ref kd, .ref dp, .ref cl, .ref sa, .ref ln, .ref bt, .ref pn, .ref bf])), (kd, .inl (g.2.1, 60, .inl (fun _ => 0))), (dp, .inl (g.2.1, 60, .inl (fun _ => 0))), (cl, .inl (g.2.1, 60, .inl (fun _ => 0))), (sa, .inl (g.2.1, 60, .inl (fun _ => 0))), (ln, .inl (g.2.1, 60, .inl (fun _ => 0))), (h0, .inr (6, [.ref st, .ref mk, .ref lk, .ref ch, .ref ru, .ref mr, .int 0, .int 9]))] H locs := hZ
    exact zz_iret hC hZ (by show _ = _; rw [fn_cx_array, if_pos c3]) (Nat.le_of_ble_eq_true rfl) (Nat.le_of_ble_eq_true rfl) dX7_array_13
theorem dX7_things_0 : decode cX7_things 0 = .ok (.iload_n 1, 1) := by decide +kernel
theorem dX7_things_1 : decode cX7_things 1 = .ok (.ifCond .lt 9, 3) := by decide +kernel
theorem dX7_things_10 : decode cX7_things 10 = .ok (.aload_n 0, 1) := by decide +kernel
theorem dX7_things_11 : decode cX7_things 11 = .ok (.bipush 9, 2) := by decide +kernel
theorem dX7_things_13 : decode cX7_things 13 = .ok (.invokevirtual 65, 3) := by decide +kernel
theorem dX7_things_16 : decode cX7_things 16 = .ok (.ireturn, 1) := by decide +kernel
theorem dX7_things_4 : decode cX7_things 4 = .ok (.iload_n 1, 1) := by decide +kernel
theorem dX7_things_5 : decode cX7_things 5 = .ok (.bipush 7, 2) := by decide +kernel
theorem dX7_things_7 : decode cX7_things 7 = .ok (.if_icmp .lt 10, 3) := by decide +kernel
theorem dX7_things_17 : decode cX7_things 17 = .ok (.aload_n 0, 1) := by decide +kernel
theorem dX7_things_18 : decode cX7_things 18 = .ok (.bipush 8, 2) := by decide +kernel
theorem dX7_things_20 : decode cX7_things 20 = .ok (.iconst 1, 1) := by decide +kernel
theorem dX7_things_21 : decode cX7_things 21 = .ok (.iload_n 1, 1) := by decide +kernel
theorem dX7_things_22 : decode cX7_things 22 = .ok (.iload_n 2, 1) := by decide +kernel
theorem dX7_things_23 : decode cX7_things 23 = .ok (.invokevirtual 69, 3) := by decide +kernel
theorem dX7_things_26 : decode cX7_things 26 = .ok (.ireturn, 1) := by decide +kernel
def fn_cx_things (x1 : Int32) (x2 : Int32) : Int32 := (if x1 < 0 then -9 else (if x1 < 7 then (fn_co_newArray0 x2) else -9))
abbrev rm_cx_things : Room := { frames := 2, cells := 0, slots := 0, locals := 50 }
abbrev po_cx_things (g : zz_G) (h0 : Nat) (st : Nat) (mk : Nat) (lk : Nat) (ch : Nat) (ru : Nat) (mr : Nat) (kd : Nat) (dp : Nat) (cl : Nat) (sa : Nat) (ln : Nat) (bt : Nat) (pn : Nat) (bf : Nat) (x1 : Int32) (x2 : Int32) : Int32 → va_W → Prop := fun (r : Int32) (u : va_W) => r = fn_cx_things x1 x2
set_option maxHeartbeats 4000000 in
set_option maxRecDepth 100000 in
theorem cx_things (g : zz_G) (h0 : Nat) (st : Nat) (mk : Nat) (lk : Nat) (ch : Nat) (ru : Nat) (mr : Nat) (kd : Nat) (dp : Nat) (cl : Nat) (sa : Nat) (ln : Nat) (bt : Nat) (pn : Nat) (bf : Nat) (x1 : Int32) (x2 : Int32) : zz_I g yX7_things (.code yX7_things cX7_things 3 (some .int)) rm_cx_things [.ref h0, .int x1, .int x2] [(h0, .inr (6, [.ref st, .ref mk, .ref lk, .ref ch, .ref ru, .ref mr, .int 0, .int 0])), (st, .inr (5, [.int 0, .int 0, .ref kd, .ref dp, .ref cl, .ref sa, .ref ln, .ref bt, .ref pn, .ref bf])), (kd, .inl (g.2.1, 60, .inl (fun _ => 0))), (dp, .inl (g.2.1, 60, .inl (fun _ => 0))), (cl, .inl (g.2.1, 60, .inl (fun _ => 0))), (sa, .inl (g.2.1, 60, .inl (fun _ => 0))), (ln, .inl (g.2.1, 60, .inl (fun _ => 0)))] (po_cx_things g h0 st mk lk ch ru mr kd dp cl sa ln bt pn bf x1 x2) := by
  refine zz_I.intro (own := RX7) (cc := cX7_things) (nL := 3) (by decide) rfl (Nat.le_of_ble_eq_true rfl) ?_
  intro p l e s m args below meth c A H locs ls hC hnm hZ hl
  obtain ⟨hx, hb, hml, hown, hts, hr, hlocks, hK⟩ := id hC
  have hl : lv_has ls 3 [(0, .ref h0), (1, .int x1), (2, .int x2)] := hl
  have hZ : zz_Z g A s.heap [(h0, .inr (6, [.ref st, .ref mk, .ref lk, .ref ch, .ref ru, .ref mr, .int 0, .int 0])), (st, .inr (5, [.int 0, .int 0, .ref kd, .ref dp, .ref cl, .ref sa, .ref ln, .ref bt, .ref pn, .ref bf])), (kd, .inl (g.2.1, 60, .inl (fun _ => 0))), (dp, .inl (g.2.1, 60, .inl (fun _ => 0))), (cl, .inl (g.2.1, 60, .inl (fun _ => 0))), (sa, .inl (g.2.1, 60, .inl (fun _ => 0))), (ln, .inl (g.2.1, 60, .inl (fun _ => 0)))] H locs := hZ
  refine lv_iload_n hx hb dX7_things_0 rfl (lv_at hl 1 rfl) ?_
  refine lv_if_lt (tgt := 10) hx hb dX7_things_1 (by decide) (fun c1 => ?_) (fun c1 => ?_)
  · refine lv_aload_n hx hb dX7_things_10 rfl (lv_at hl 0 rfl) ?_
    refine lv_bipush (v := 9) hx hb dX7_things_11 (by decide) ?_
    refine zz_iV (As := [.int 9]) (wc := [(h0, .inr (6, [.ref st, .ref mk, .ref lk, .ref ch, .ref ru, .ref mr, .int 0, .int 0]))]) (wr := [(st, .inr (5, [.int 0, .int 0, .ref kd, .ref dp, .ref cl, .ref sa, .ref ln, .ref bt, .ref pn, .ref bf])), (kd, .inl (g.2.1, 60, .inl (fun _ => 0))), (dp, .inl (g.2.1, 60, .inl (fun _ => 0))), (cl, .inl (g.2.1, 60, .inl (fun _ => 0))), (sa, .inl (g.2.1, 60, .inl (fun _ => 0))), (ln, .inl (g.2.1, 60, .inl (fun _ => 0)))]) (rest := []) hC hZ hl zc_X7_65 (co_fail g h0 st mk lk ch ru mr 0 0 9) [0] [1, 2, 3, 4, 5, 6] rfl rfl (by decide) (ci := 6) (q0 := 0) rfl rfl rfl rfl (Nat.le_of_ble_eq_true rfl) ⟨⟨Nat.le_of_ble_eq_true rfl, Nat.le_of_ble_eq_true rfl⟩, Nat.le_of_ble_eq_true rfl, Nat.le_of_ble_eq_true rfl⟩ dX7_things_13 (fun r2 u3 H locs hp hZ => ?_)
    obtain ⟨rfl, rfl⟩ := hp
    have hZ : zz_Z g A s.heap [(st, .inr (5, [.int 0, .int 0, .ref kd, .ref dp, .ref cl, .ref sa, .ref ln, .ref bt, .ref pn, .ref bf])), (kd, .inl (g.2.1, 60, .inl (fun _ => 0))), (dp, .inl (g.2.1, 60, .inl (fun _ => 0))), (cl, .inl (g.2.1, 60, .inl (fun _ => 0))), (sa, .inl (g.2.1, 60, .inl (fun _ => 0))), (ln, .inl (g.2.1, 60, .inl (fun _ => 0))), (h0, .inr (6, [.ref st, .ref mk, .ref lk, .ref ch, .ref ru, .ref mr, .int 0, .int 9]))] H locs := hZ
    exact zz_iret hC hZ (by show _ = _; rw [fn_cx_things, if_pos c1]) (Nat.le_of_ble_eq_true rfl) (Nat.le_of_ble_eq_true rfl) dX7_things_16
  · refine lv_iload_n hx hb dX7_things_4 rfl (lv_at hl 1 rfl) ?_
    refine lv_bipush (v := 7) hx hb dX7_things_5 (by decide) ?_
    refine lv_icmp_lt (tgt := 17) hx hb dX7_things_7 (by decide) (fun c4 => ?_) (fun c4 => ?_)
    · refine lv_aload_n hx hb dX7_things_17 rfl (lv_at hl 0 rfl) ?_
      refine lv_bipush (v := 8) hx hb dX7_things_18 (by decide) ?_
      refine lv_iconst (v := 1) hx hb dX7_things_20 (by decide) ?_
      refine lv_iload_n hx hb dX7_things_21 rfl (lv_at hl 1 rfl) ?_
      refine lv_iload_n hx hb dX7_things_22 rfl (lv_at hl 2 rfl) ?_
      refine zz_iV (As := [.int 8, .int 1, .int x1, .int x2]) (wc := [(h0, .inr (6, [.ref st, .ref mk, .ref lk, .ref ch, .ref ru, .ref mr, .int 0, .int 0])), (st, .inr (5, [.int 0, .int 0, .ref kd, .ref dp, .ref cl, .ref sa, .ref ln, .ref bt, .ref pn, .ref bf])), (kd, .inl (g.2.1, 60, .inl (fun _ => 0))), (dp, .inl (g.2.1, 60, .inl (fun _ => 0))), (cl, .inl (g.2.1, 60, .inl (fun _ => 0))), (sa, .inl (g.2.1, 60, .inl (fun _ => 0))), (ln, .inl (g.2.1, 60, .inl (fun _ => 0)))]) (wr := []) (rest := []) hC hZ hl zc_X7_69 (co_newArray0 g h0 st mk lk ch ru mr kd dp cl sa ln bt pn bf 8 x1 x2) [0, 1, 2, 3, 4, 5, 6] [] rfl rfl (by decide) (ci := 6) (q0 := 0) rfl rfl rfl rfl (Nat.le_of_ble_eq_true rfl) ⟨⟨Nat.le_of_ble_eq_true rfl, Nat.le_of_ble_eq_true rfl⟩, Nat.le_of_ble_eq_true rfl, Nat.le_of_ble_eq_true rfl⟩ dX7_things_23 (fun r5 u6 H locs hp hZ => ?_)
      obtain rfl := hp
      have hZ : zz_Z g A s.heap [] H locs := hZ.left
      exact zz_iret hC hZ (by show _ = _; rw [fn_cx_things, if_neg c1, if_pos c4]) (Nat.le_of_ble_eq_true rfl) (Nat.le_of_ble_eq_true rfl) dX7_things_26
    · refine lv_aload_n hx hb dX7_things_10 rfl (lv_at hl 0 rfl) ?_
      refine lv_bipush (v := 9) hx hb dX7_things_11 (by decide) ?_
      refine zz_iV (As := [.int 9]) (wc := [(h0, .inr (6, [.ref st, .ref mk, .ref lk, .ref ch, .ref ru, .ref mr, .int 0, .int 0]))]) (wr := [(st, .inr (5, [.int 0, .int 0, .ref kd, .ref dp, .ref cl, .ref sa, .ref ln, .ref bt, .ref pn, .ref bf])), (kd, .inl (g.2.1, 60, .inl (fun _ => 0))), (dp, .inl (g.2.1, 60, .inl (fun _ => 0))), (cl, .inl (g.2.1, 60, .inl (fun _ => 0))), (sa, .inl (g.2.1, 60, .inl (fun _ => 0))), (ln, .inl (g.2.1, 60, .inl (fun _ => 0)))]) (rest := []) hC hZ hl zc_X7_65 (co_fail g h0 st mk lk ch ru mr 0 0 9) [0] [1, 2, 3, 4, 5, 6] rfl rfl (by decide) (ci := 6) (q0 := 0) rfl rfl rfl rfl (Nat.le_of_ble_eq_true rfl) ⟨⟨Nat.le_of_ble_eq_true rfl, Nat.le_of_ble_eq_true rfl⟩, Nat.le_of_ble_eq_true rfl, Nat.le_of_ble_eq_true rfl⟩ dX7_things_13 (fun r7 u8 H locs hp hZ => ?_)
      obtain ⟨rfl, rfl⟩ := hp
      have hZ : zz_Z g A s.heap [(st, .inr (5, [.int 0, .int 0, .ref kd, .ref dp, .ref cl, .ref sa, .ref ln, .ref bt, .ref pn, .ref bf])), (kd, .inl (g.2.1, 60, .inl (fun _ => 0))), (dp, .inl (g.2.1, 60, .inl (fun _ => 0))), (cl, .inl (g.2.1, 60, .inl (fun _ => 0))), (sa, .inl (g.2.1, 60, .inl (fun _ => 0))), (ln, .inl (g.2.1, 60, .inl (fun _ => 0))), (h0, .inr (6, [.ref st, .ref mk, .ref lk, .ref ch, .ref ru, .ref mr, .int 0, .int 9]))] H locs := hZ
      exact zz_iret hC hZ (by show _ = _; rw [fn_cx_things, if_neg c1, if_neg c4]) (Nat.le_of_ble_eq_true rfl) (Nat.le_of_ble_eq_true rfl) dX7_things_16
theorem dX7_rows_0 : decode cX7_rows 0 = .ok (.aload_n 0, 1) := by decide +kernel
theorem dX7_rows_1 : decode cX7_rows 1 = .ok (.getfield 10, 3) := by decide +kernel
theorem dX7_rows_4 : decode cX7_rows 4 = .ok (.iload_n 1, 1) := by decide +kernel
theorem dX7_rows_5 : decode cX7_rows 5 = .ok (.invokevirtual 73, 3) := by decide +kernel
theorem dX7_rows_8 : decode cX7_rows 8 = .ok (.ifCond .ne 9, 3) := by decide +kernel
theorem dX7_rows_11 : decode cX7_rows 11 = .ok (.aload_n 0, 1) := by decide +kernel
theorem dX7_rows_12 : decode cX7_rows 12 = .ok (.iconst 5, 1) := by decide +kernel
theorem dX7_rows_13 : decode cX7_rows 13 = .ok (.invokevirtual 65, 3) := by decide +kernel
theorem dX7_rows_16 : decode cX7_rows 16 = .ok (.ireturn, 1) := by decide +kernel
def fn_cx_rows  : Int32 := -5
abbrev rm_cx_rows : Room := { frames := 1, cells := 0, slots := 0, locals := 21 }
abbrev po_cx_rows (g : zz_G) (h0 : Nat) (st : Nat) (mk : Nat) (lk : Nat) (ch : Nat) (ru : Nat) (mr : Nat) (kd : Nat) (dp : Nat) (cl : Nat) (sa : Nat) (ln : Nat) (bt : Nat) (pn : Nat) (bf : Nat) (x1 : Int32) (x2 : Int32) : Int32 → va_W → Prop := fun (r : Int32) (u : va_W) => r = fn_cx_rows
set_option maxHeartbeats 4000000 in
set_option maxRecDepth 100000 in
theorem cx_rows (g : zz_G) (h0 : Nat) (st : Nat) (mk : Nat) (lk : Nat) (ch : Nat) (ru : Nat) (mr : Nat) (kd : Nat) (dp : Nat) (cl : Nat) (sa : Nat) (ln : Nat) (bt : Nat) (pn : Nat) (bf : Nat) (x1 : Int32) (x2 : Int32) : zz_I g yX7_rows (.code yX7_rows cX7_rows 3 (some .int)) rm_cx_rows [.ref h0, .int x1, .int x2] [(h0, .inr (6, [.ref st, .ref mk, .ref lk, .ref ch, .ref ru, .ref mr, .int 0, .int 0])), (st, .inr (5, [.int 0, .int 0, .ref kd, .ref dp, .ref cl, .ref sa, .ref ln, .ref bt, .ref pn, .ref bf]))] (po_cx_rows g h0 st mk lk ch ru mr kd dp cl sa ln bt pn bf x1 x2) := by
  refine zz_I.intro (own := RX7) (cc := cX7_rows) (nL := 3) (by decide) rfl (Nat.le_of_ble_eq_true rfl) ?_
  intro p l e s m args below meth c A H locs ls hC hnm hZ hl
  obtain ⟨hx, hb, hml, hown, hts, hr, hlocks, hK⟩ := id hC
  have hl : lv_has ls 3 [(0, .ref h0), (1, .int x1), (2, .int x2)] := hl
  have hZ : zz_Z g A s.heap [(h0, .inr (6, [.ref st, .ref mk, .ref lk, .ref ch, .ref ru, .ref mr, .int 0, .int 0])), (st, .inr (5, [.int 0, .int 0, .ref kd, .ref dp, .ref cl, .ref sa, .ref ln, .ref bt, .ref pn, .ref bf]))] H locs := hZ
  refine lv_aload_n hx hb dX7_rows_0 rfl (lv_at hl 0 rfl) ?_
  refine zz_get hC hZ 0 rfl zf_X7_10 rfl dX7_rows_1 ?_
  refine lv_iload_n hx hb dX7_rows_4 rfl (lv_at hl 1 rfl) ?_
  refine zz_iV (As := [.int x1]) (wc := [(st, .inr (5, [.int 0, .int 0, .ref kd, .ref dp, .ref cl, .ref sa, .ref ln, .ref bt, .ref pn, .ref bf]))]) (wr := [(h0, .inr (6, [.ref st, .ref mk, .ref lk, .ref ch, .ref ru, .ref mr, .int 0, .int 0]))]) (rest := []) hC hZ hl zc_X7_73 (co_has0 g st kd dp cl sa ln bt pn bf x1) [1] [0] rfl rfl (by decide) (ci := 5) (q0 := 0) rfl rfl rfl rfl (Nat.le_of_ble_eq_true rfl) ⟨⟨Nat.le_of_ble_eq_true rfl, Nat.le_of_ble_eq_true rfl⟩, Nat.le_of_ble_eq_true rfl, Nat.le_of_ble_eq_true rfl⟩ dX7_rows_5 (fun r1 u2 H locs hp hZ => ?_)
  obtain ⟨rfl, rfl⟩ := hp
  have hZ : zz_Z g A s.heap [(h0, .inr (6, [.ref st, .ref mk, .ref lk, .ref ch, .ref ru, .ref mr, .int 0, .int 0])), (st, .inr (5, [.int 0, .int 0, .ref kd, .ref dp, .ref cl, .ref sa, .ref ln, .ref bt, .ref pn, .ref bf]))] H locs := hZ
  refine lv_if_ne (tgt := 17) hx hb dX7_rows_8 (by decide) (fun c => absurd (by decide) c) (fun c3 => ?_)
  refine lv_aload_n hx hb dX7_rows_11 rfl (lv_at hl 0 rfl) ?_
  refine lv_iconst (v := 5) hx hb dX7_rows_12 (by decide) ?_
  refine zz_iV (As := [.int 5]) (wc := [(h0, .inr (6, [.ref st, .ref mk, .ref lk, .ref ch, .ref ru, .ref mr, .int 0, .int 0]))]) (wr := [(st, .inr (5, [.int 0, .int 0, .ref kd, .ref dp, .ref cl, .ref sa, .ref ln, .ref bt, .ref pn, .ref bf]))]) (rest := []) hC hZ hl zc_X7_65 (co_fail g h0 st mk lk ch ru mr 0 0 5) [0] [1] rfl rfl (by decide) (ci := 6) (q0 := 0) rfl rfl rfl rfl (Nat.le_of_ble_eq_true rfl) ⟨⟨Nat.le_of_ble_eq_true rfl, Nat.le_of_ble_eq_true rfl⟩, Nat.le_of_ble_eq_true rfl, Nat.le_of_ble_eq_true rfl⟩ dX7_rows_13 (fun r4 u5 H locs hp hZ => ?_)
  obtain ⟨rfl, rfl⟩ := hp
  have hZ : zz_Z g A s.heap [(st, .inr (5, [.int 0, .int 0, .ref kd, .ref dp, .ref cl, .ref sa, .ref ln, .ref bt, .ref pn, .ref bf])), (h0, .inr (6, [.ref st, .ref mk, .ref lk, .ref ch, .ref ru, .ref mr, .int 0, .int 5]))] H locs := hZ
  exact zz_iret hC hZ (rfl) (Nat.le_of_ble_eq_true rfl) (Nat.le_of_ble_eq_true rfl) dX7_rows_16
theorem dX7_about_0 : decode cX7_about 0 = .ok (.aload_n 0, 1) := by decide +kernel
theorem dX7_about_1 : decode cX7_about 1 = .ok (.getfield 10, 3) := by decide +kernel
theorem dX7_about_4 : decode cX7_about 4 = .ok (.iload_n 1, 1) := by decide +kernel
theorem dX7_about_5 : decode cX7_about 5 = .ok (.invokevirtual 73, 3) := by decide +kernel
theorem dX7_about_8 : decode cX7_about 8 = .ok (.ifCond .ne 9, 3) := by decide +kernel
theorem dX7_about_11 : decode cX7_about 11 = .ok (.aload_n 0, 1) := by decide +kernel
theorem dX7_about_12 : decode cX7_about 12 = .ok (.iconst 5, 1) := by decide +kernel
theorem dX7_about_13 : decode cX7_about 13 = .ok (.invokevirtual 65, 3) := by decide +kernel
theorem dX7_about_16 : decode cX7_about 16 = .ok (.ireturn, 1) := by decide +kernel
def fn_cx_about  : Int32 := -5
abbrev rm_cx_about : Room := { frames := 1, cells := 0, slots := 0, locals := 21 }
abbrev po_cx_about (g : zz_G) (h0 : Nat) (st : Nat) (mk : Nat) (lk : Nat) (ch : Nat) (ru : Nat) (mr : Nat) (kd : Nat) (dp : Nat) (cl : Nat) (sa : Nat) (ln : Nat) (bt : Nat) (pn : Nat) (bf : Nat) (x1 : Int32) (x2 : Int32) : Int32 → va_W → Prop := fun (r : Int32) (u : va_W) => r = fn_cx_about
set_option maxHeartbeats 4000000 in
set_option maxRecDepth 100000 in
theorem cx_about (g : zz_G) (h0 : Nat) (st : Nat) (mk : Nat) (lk : Nat) (ch : Nat) (ru : Nat) (mr : Nat) (kd : Nat) (dp : Nat) (cl : Nat) (sa : Nat) (ln : Nat) (bt : Nat) (pn : Nat) (bf : Nat) (x1 : Int32) (x2 : Int32) : zz_I g yX7_about (.code yX7_about cX7_about 3 (some .int)) rm_cx_about [.ref h0, .int x1, .int x2] [(h0, .inr (6, [.ref st, .ref mk, .ref lk, .ref ch, .ref ru, .ref mr, .int 0, .int 0])), (st, .inr (5, [.int 0, .int 0, .ref kd, .ref dp, .ref cl, .ref sa, .ref ln, .ref bt, .ref pn, .ref bf]))] (po_cx_about g h0 st mk lk ch ru mr kd dp cl sa ln bt pn bf x1 x2) := by
  refine zz_I.intro (own := RX7) (cc := cX7_about) (nL := 3) (by decide) rfl (Nat.le_of_ble_eq_true rfl) ?_
  intro p l e s m args below meth c A H locs ls hC hnm hZ hl
  obtain ⟨hx, hb, hml, hown, hts, hr, hlocks, hK⟩ := id hC
  have hl : lv_has ls 3 [(0, .ref h0), (1, .int x1), (2, .int x2)] := hl
  have hZ : zz_Z g A s.heap [(h0, .inr (6, [.ref st, .ref mk, .ref lk, .ref ch, .ref ru, .ref mr, .int 0, .int 0])), (st, .inr (5, [.int 0, .int 0, .ref kd, .ref dp, .ref cl, .ref sa, .ref ln, .ref bt, .ref pn, .ref bf]))] H locs := hZ
  refine lv_aload_n hx hb dX7_about_0 rfl (lv_at hl 0 rfl) ?_
  refine zz_get hC hZ 0 rfl zf_X7_10 rfl dX7_about_1 ?_
  refine lv_iload_n hx hb dX7_about_4 rfl (lv_at hl 1 rfl) ?_
  refine zz_iV (As := [.int x1]) (wc := [(st, .inr (5, [.int 0, .int 0, .ref kd, .ref dp, .ref cl, .ref sa, .ref ln, .ref bt, .ref pn, .ref bf]))]) (wr := [(h0, .inr (6, [.ref st, .ref mk, .ref lk, .ref ch, .ref ru, .ref mr, .int 0, .int 0]))]) (rest := []) hC hZ hl zc_X7_73 (co_has0 g st kd dp cl sa ln bt pn bf x1) [1] [0] rfl rfl (by decide) (ci := 5) (q0 := 0) rfl rfl rfl rfl (Nat.le_of_ble_eq_true rfl) ⟨⟨Nat.le_of_ble_eq_true rfl, Nat.le_of_ble_eq_true rfl⟩, Nat.le_of_ble_eq_true rfl, Nat.le_of_ble_eq_true rfl⟩ dX7_about_5 (fun r1 u2 H locs hp hZ => ?_)
  obtain ⟨rfl, rfl⟩ := hp
  have hZ : zz_Z g A s.heap [(h0, .inr (6, [.ref st, .ref mk, .ref lk, .ref ch, .ref ru, .ref mr, .int 0, .int 0])), (st, .inr (5, [.int 0, .int 0, .ref kd, .ref dp, .ref cl, .ref sa, .ref ln, .ref bt, .ref pn, .ref bf]))] H locs := hZ
  refine lv_if_ne (tgt := 17) hx hb dX7_about_8 (by decide) (fun c => absurd (by decide) c) (fun c3 => ?_)
  refine lv_aload_n hx hb dX7_about_11 rfl (lv_at hl 0 rfl) ?_
  refine lv_iconst (v := 5) hx hb dX7_about_12 (by decide) ?_
  refine zz_iV (As := [.int 5]) (wc := [(h0, .inr (6, [.ref st, .ref mk, .ref lk, .ref ch, .ref ru, .ref mr, .int 0, .int 0]))]) (wr := [(st, .inr (5, [.int 0, .int 0, .ref kd, .ref dp, .ref cl, .ref sa, .ref ln, .ref bt, .ref pn, .ref bf]))]) (rest := []) hC hZ hl zc_X7_65 (co_fail g h0 st mk lk ch ru mr 0 0 5) [0] [1] rfl rfl (by decide) (ci := 6) (q0 := 0) rfl rfl rfl rfl (Nat.le_of_ble_eq_true rfl) ⟨⟨Nat.le_of_ble_eq_true rfl, Nat.le_of_ble_eq_true rfl⟩, Nat.le_of_ble_eq_true rfl, Nat.le_of_ble_eq_true rfl⟩ dX7_about_13 (fun r4 u5 H locs hp hZ => ?_)
  obtain ⟨rfl, rfl⟩ := hp
  have hZ : zz_Z g A s.heap [(st, .inr (5, [.int 0, .int 0, .ref kd, .ref dp, .ref cl, .ref sa, .ref ln, .ref bt, .ref pn, .ref bf])), (h0, .inr (6, [.ref st, .ref mk, .ref lk, .ref ch, .ref ru, .ref mr, .int 0, .int 5]))] H locs := hZ
  exact zz_iret hC hZ (rfl) (Nat.le_of_ble_eq_true rfl) (Nat.le_of_ble_eq_true rfl) dX7_about_16
theorem dX7_row_0 : decode cX7_row 0 = .ok (.aload_n 0, 1) := by decide +kernel
theorem dX7_row_1 : decode cX7_row 1 = .ok (.aload_n 0, 1) := by decide +kernel
theorem dX7_row_2 : decode cX7_row 2 = .ok (.iload_n 1, 1) := by decide +kernel
theorem dX7_row_3 : decode cX7_row 3 = .ok (.iload_n 2, 1) := by decide +kernel
theorem dX7_row_4 : decode cX7_row 4 = .ok (.invokevirtual 113, 3) := by decide +kernel
theorem zk_309 : Cond.methodLink RX7 113 yX7_rowCode ∈ zz_w := zz_in (List.mem_append_right _ (List.mem_append_right _ (List.mem_append_left _ (List.mem_of_getElem? (i := 69) (by decide +kernel))))) rfl
set_option maxRecDepth 20000 in
theorem zk_312 : Cond.code yX7_rowCode cX7_rowCode 3 (some .int) ∈ zz_w := zz_in (List.mem_append_right _ (List.mem_append_right _ (List.mem_append_left _ (List.mem_of_getElem? (i := 72) (rfl))))) rfl
theorem zk_311 : Cond.instanceMethod yX7_rowCode ∈ zz_w := zz_in (List.mem_append_right _ (List.mem_append_right _ (List.mem_append_left _ (List.mem_of_getElem? (i := 71) (by decide +kernel))))) rfl
theorem zs_4 : Cond.selects RX7 yX7_rowCode yX7_rowCode ∈ zz_w := zz_in (List.mem_append_left _ (List.mem_of_getElem? (i := 4) (by decide +kernel))) rfl
theorem zc_X7_113 : zz_cV RX7 113 yX7_rowCode cX7_rowCode 3 (some .int) 2 := ⟨⟨zk_309, zk_312, zk_1, by decide, by decide, by decide +kernel⟩, zk_311, zs_4⟩
theorem dX7_row_7 : decode cX7_row 7 = .ok (.putfield 56, 3) := by decide +kernel
theorem dX7_row_10 : decode cX7_row 10 = .ok (.aload_n 0, 1) := by decide +kernel
theorem dX7_row_11 : decode cX7_row 11 = .ok (.getfield 56, 3) := by decide +kernel
theorem zf_X7_56 : zz_f RX7 56 6 7 := ⟨RX7, TX7, 8, rfl, zi_X7, by decide, zk_207⟩
theorem dX7_row_14 : decode cX7_row 14 = .ok (.ifCond .eq 5, 3) := by decide +kernel
theorem dX7_row_17 : decode cX7_row 17 = .ok (.iconst (-1), 1) := by decide +kernel
theorem dX7_row_18 : decode cX7_row 18 = .ok (.ireturn, 1) := by decide +kernel
def fn_cx_row  : Int32 := -1
abbrev rm_cx_row : Room := { frames := 2, cells := 0, slots := 0, locals := 43 }
abbrev po_cx_row (g : zz_G) (h0 : Nat) (st : Nat) (mk : Nat) (lk : Nat) (ch : Nat) (ru : Nat) (mr : Nat) (kd : Nat) (dp : Nat) (cl : Nat) (sa : Nat) (ln : Nat) (bt : Nat) (pn : Nat) (bf : Nat) (x1 : Int32) (x2 : Int32) : Int32 → va_W → Prop := fun (r : Int32) (u : va_W) => r = fn_cx_row
set_option maxHeartbeats 4000000 in
set_option maxRecDepth 100000 in
theorem cx_row (g : zz_G) (h0 : Nat) (st : Nat) (mk : Nat) (lk : Nat) (ch : Nat) (ru : Nat) (mr : Nat) (kd : Nat) (dp : Nat) (cl : Nat) (sa : Nat) (ln : Nat) (bt : Nat) (pn : Nat) (bf : Nat) (x1 : Int32) (x2 : Int32) : zz_I g yX7_row (.code yX7_row cX7_row 3 (some .int)) rm_cx_row [.ref h0, .int x1, .int x2] [(h0, .inr (6, [.ref st, .ref mk, .ref lk, .ref ch, .ref ru, .ref mr, .int 0, .int 0])), (st, .inr (5, [.int 0, .int 0, .ref kd, .ref dp, .ref cl, .ref sa, .ref ln, .ref bt, .ref pn, .ref bf]))] (po_cx_row g h0 st mk lk ch ru mr kd dp cl sa ln bt pn bf x1 x2) := by
  refine zz_I.intro (own := RX7) (cc := cX7_row) (nL := 3) (by decide) rfl (Nat.le_of_ble_eq_true rfl) ?_
  intro p l e s m args below meth c A H locs ls hC hnm hZ hl
  obtain ⟨hx, hb, hml, hown, hts, hr, hlocks, hK⟩ := id hC
  have hl : lv_has ls 3 [(0, .ref h0), (1, .int x1), (2, .int x2)] := hl
  have hZ : zz_Z g A s.heap [(h0, .inr (6, [.ref st, .ref mk, .ref lk, .ref ch, .ref ru, .ref mr, .int 0, .int 0])), (st, .inr (5, [.int 0, .int 0, .ref kd, .ref dp, .ref cl, .ref sa, .ref ln, .ref bt, .ref pn, .ref bf]))] H locs := hZ
  refine lv_aload_n hx hb dX7_row_0 rfl (lv_at hl 0 rfl) ?_
  refine lv_aload_n hx hb dX7_row_1 rfl (lv_at hl 0 rfl) ?_
  refine lv_iload_n hx hb dX7_row_2 rfl (lv_at hl 1 rfl) ?_
  refine lv_iload_n hx hb dX7_row_3 rfl (lv_at hl 2 rfl) ?_
  refine zz_iV (As := [.int x1, .int x2]) (wc := [(h0, .inr (6, [.ref st, .ref mk, .ref lk, .ref ch, .ref ru, .ref mr, .int 0, .int 0])), (st, .inr (5, [.int 0, .int 0, .ref kd, .ref dp, .ref cl, .ref sa, .ref ln, .ref bt, .ref pn, .ref bf]))]) (wr := []) (rest := [.ref h0]) hC hZ hl zc_X7_113 (co_rowCode0 g h0 st mk lk ch ru mr kd dp cl sa ln bt pn bf x1 x2) [0, 1] [] rfl rfl (by decide) (ci := 6) (q0 := 0) rfl rfl rfl rfl (Nat.le_of_ble_eq_true rfl) ⟨⟨Nat.le_of_ble_eq_true rfl, Nat.le_of_ble_eq_true rfl⟩, Nat.le_of_ble_eq_true rfl, Nat.le_of_ble_eq_true rfl⟩ dX7_row_4 (fun r1 u2 H locs hp hZ => ?_)
  obtain ⟨rfl, rfl⟩ := hp
  have hZ : zz_Z g A s.heap [(h0, .inr (6, [.ref st, .ref mk, .ref lk, .ref ch, .ref ru, .ref mr, .int 0, .int 0])), (st, .inr (5, [.int 0, .int 0, .ref kd, .ref dp, .ref cl, .ref sa, .ref ln, .ref bt, .ref pn, .ref bf]))] H locs := hZ
  refine zz_put hC hZ 0 rfl zu_X7_56 (Nat.le_of_ble_eq_true rfl) dX7_row_7 (fun H locs hZ => ?_)
  have hZ : zz_Z g A s.heap [(h0, .inr (6, [.ref st, .ref mk, .ref lk, .ref ch, .ref ru, .ref mr, .int 0, .int 5])), (st, .inr (5, [.int 0, .int 0, .ref kd, .ref dp, .ref cl, .ref sa, .ref ln, .ref bt, .ref pn, .ref bf]))] H locs := hZ
  refine lv_aload_n hx hb dX7_row_10 rfl (lv_at hl 0 rfl) ?_
  refine zz_get hC hZ 0 rfl zf_X7_56 rfl dX7_row_11 ?_
  refine lv_if_eq (tgt := 19) hx hb dX7_row_14 (by decide) (fun c => absurd c (by decide)) (fun c3 => ?_)
  refine lv_iconst (v := -1) hx hb dX7_row_17 (by decide) ?_
  exact zz_iret hC hZ (rfl) (Nat.le_of_ble_eq_true rfl) (Nat.le_of_ble_eq_true rfl) dX7_row_18
theorem dX7_setRow_0 : decode cX7_setRow 0 = .ok (.aload_n 0, 1) := by decide +kernel
theorem dX7_setRow_1 : decode cX7_setRow 1 = .ok (.getfield 10, 3) := by decide +kernel
theorem dX7_setRow_4 : decode cX7_setRow 4 = .ok (.iload_n 1, 1) := by decide +kernel
theorem dX7_setRow_5 : decode cX7_setRow 5 = .ok (.invokevirtual 73, 3) := by decide +kernel
theorem dX7_setRow_8 : decode cX7_setRow 8 = .ok (.ifCond .eq 19, 3) := by decide +kernel
theorem dX7_setRow_27 : decode cX7_setRow 27 = .ok (.aload_n 0, 1) := by decide +kernel
theorem dX7_setRow_28 : decode cX7_setRow 28 = .ok (.iconst 5, 1) := by decide +kernel
theorem dX7_setRow_29 : decode cX7_setRow 29 = .ok (.invokevirtual 65, 3) := by decide +kernel
theorem dX7_setRow_32 : decode cX7_setRow 32 = .ok (.ireturn, 1) := by decide +kernel
def fn_cx_setRow  : Int32 := -5
abbrev rm_cx_setRow : Room := { frames := 1, cells := 0, slots := 0, locals := 21 }
abbrev po_cx_setRow (g : zz_G) (h0 : Nat) (st : Nat) (mk : Nat) (lk : Nat) (ch : Nat) (ru : Nat) (mr : Nat) (kd : Nat) (dp : Nat) (cl : Nat) (sa : Nat) (ln : Nat) (bt : Nat) (pn : Nat) (bf : Nat) (x1 : Int32) (x2 : Int32) (x3 : Int32) : Int32 → va_W → Prop := fun (r : Int32) (u : va_W) => r = fn_cx_setRow
set_option maxHeartbeats 4000000 in
set_option maxRecDepth 100000 in
theorem cx_setRow (g : zz_G) (h0 : Nat) (st : Nat) (mk : Nat) (lk : Nat) (ch : Nat) (ru : Nat) (mr : Nat) (kd : Nat) (dp : Nat) (cl : Nat) (sa : Nat) (ln : Nat) (bt : Nat) (pn : Nat) (bf : Nat) (x1 : Int32) (x2 : Int32) (x3 : Int32) : zz_I g yX7_setRow (.code yX7_setRow cX7_setRow 4 (some .int)) rm_cx_setRow [.ref h0, .int x1, .int x2, .int x3] [(h0, .inr (6, [.ref st, .ref mk, .ref lk, .ref ch, .ref ru, .ref mr, .int 0, .int 0])), (st, .inr (5, [.int 0, .int 0, .ref kd, .ref dp, .ref cl, .ref sa, .ref ln, .ref bt, .ref pn, .ref bf]))] (po_cx_setRow g h0 st mk lk ch ru mr kd dp cl sa ln bt pn bf x1 x2 x3) := by
  refine zz_I.intro (own := RX7) (cc := cX7_setRow) (nL := 4) (by decide) rfl (Nat.le_of_ble_eq_true rfl) ?_
  intro p l e s m args below meth c A H locs ls hC hnm hZ hl
  obtain ⟨hx, hb, hml, hown, hts, hr, hlocks, hK⟩ := id hC
  have hl : lv_has ls 4 [(0, .ref h0), (1, .int x1), (2, .int x2), (3, .int x3)] := hl
  have hZ : zz_Z g A s.heap [(h0, .inr (6, [.ref st, .ref mk, .ref lk, .ref ch, .ref ru, .ref mr, .int 0, .int 0])), (st, .inr (5, [.int 0, .int 0, .ref kd, .ref dp, .ref cl, .ref sa, .ref ln, .ref bt, .ref pn, .ref bf]))] H locs := hZ
  refine lv_aload_n hx hb dX7_setRow_0 rfl (lv_at hl 0 rfl) ?_
  refine zz_get hC hZ 0 rfl zf_X7_10 rfl dX7_setRow_1 ?_
  refine lv_iload_n hx hb dX7_setRow_4 rfl (lv_at hl 1 rfl) ?_
  refine zz_iV (As := [.int x1]) (wc := [(st, .inr (5, [.int 0, .int 0, .ref kd, .ref dp, .ref cl, .ref sa, .ref ln, .ref bt, .ref pn, .ref bf]))]) (wr := [(h0, .inr (6, [.ref st, .ref mk, .ref lk, .ref ch, .ref ru, .ref mr, .int 0, .int 0]))]) (rest := []) hC hZ hl zc_X7_73 (co_has0 g st kd dp cl sa ln bt pn bf x1) [1] [0] rfl rfl (by decide) (ci := 5) (q0 := 0) rfl rfl rfl rfl (Nat.le_of_ble_eq_true rfl) ⟨⟨Nat.le_of_ble_eq_true rfl, Nat.le_of_ble_eq_true rfl⟩, Nat.le_of_ble_eq_true rfl, Nat.le_of_ble_eq_true rfl⟩ dX7_setRow_5 (fun r1 u2 H locs hp hZ => ?_)
  obtain ⟨rfl, rfl⟩ := hp
  have hZ : zz_Z g A s.heap [(h0, .inr (6, [.ref st, .ref mk, .ref lk, .ref ch, .ref ru, .ref mr, .int 0, .int 0])), (st, .inr (5, [.int 0, .int 0, .ref kd, .ref dp, .ref cl, .ref sa, .ref ln, .ref bt, .ref pn, .ref bf]))] H locs := hZ
  refine lv_if_eq (tgt := 27) hx hb dX7_setRow_8 (by decide) (fun c3 => ?_) (fun c => absurd (by decide) c)
  refine lv_aload_n hx hb dX7_setRow_27 rfl (lv_at hl 0 rfl) ?_
  refine lv_iconst (v := 5) hx hb dX7_setRow_28 (by decide) ?_
  refine zz_iV (As := [.int 5]) (wc := [(h0, .inr (6, [.ref st, .ref mk, .ref lk, .ref ch, .ref ru, .ref mr, .int 0, .int 0]))]) (wr := [(st, .inr (5, [.int 0, .int 0, .ref kd, .ref dp, .ref cl, .ref sa, .ref ln, .ref bt, .ref pn, .ref bf]))]) (rest := []) hC hZ hl zc_X7_65 (co_fail g h0 st mk lk ch ru mr 0 0 5) [0] [1] rfl rfl (by decide) (ci := 6) (q0 := 0) rfl rfl rfl rfl (Nat.le_of_ble_eq_true rfl) ⟨⟨Nat.le_of_ble_eq_true rfl, Nat.le_of_ble_eq_true rfl⟩, Nat.le_of_ble_eq_true rfl, Nat.le_of_ble_eq_true rfl⟩ dX7_setRow_29 (fun r4 u5 H locs hp hZ => ?_)
  obtain ⟨rfl, rfl⟩ := hp
  have hZ : zz_Z g A s.heap [(st, .inr (5, [.int 0, .int 0, .ref kd, .ref dp, .ref cl, .ref sa, .ref ln, .ref bt, .ref pn, .ref bf])), (h0, .inr (6, [.ref st, .ref mk, .ref lk, .ref ch, .ref ru, .ref mr, .int 0, .int 5]))] H locs := hZ
  exact zz_iret hC hZ (rfl) (Nat.le_of_ble_eq_true rfl) (Nat.le_of_ble_eq_true rfl) dX7_setRow_32
theorem dX7_read_0 : decode cX7_read 0 = .ok (.aload_n 0, 1) := by decide +kernel
theorem dX7_read_1 : decode cX7_read 1 = .ok (.getfield 10, 3) := by decide +kernel
theorem dX7_read_4 : decode cX7_read 4 = .ok (.iload_n 1, 1) := by decide +kernel
theorem dX7_read_5 : decode cX7_read 5 = .ok (.invokevirtual 73, 3) := by decide +kernel
theorem dX7_read_8 : decode cX7_read 8 = .ok (.ifCond .ne 9, 3) := by decide +kernel
theorem dX7_read_11 : decode cX7_read 11 = .ok (.aload_n 0, 1) := by decide +kernel
theorem dX7_read_12 : decode cX7_read 12 = .ok (.iconst 5, 1) := by decide +kernel
theorem dX7_read_13 : decode cX7_read 13 = .ok (.invokevirtual 130, 3) := by decide +kernel
theorem zk_329 : Cond.methodLink RX7 130 yX7_noBits ∈ zz_w := zz_in (List.mem_append_right _ (List.mem_append_right _ (List.mem_append_left _ (List.mem_of_getElem? (i := 89) (by decide +kernel))))) rfl
set_option maxRecDepth 20000 in
theorem zk_332 : Cond.code yX7_noBits cX7_noBits 2 (some .long) ∈ zz_w := zz_in (List.mem_append_right _ (List.mem_append_right _ (List.mem_append_left _ (List.mem_of_getElem? (i := 92) (rfl))))) rfl
theorem zk_331 : Cond.instanceMethod yX7_noBits ∈ zz_w := zz_in (List.mem_append_right _ (List.mem_append_right _ (List.mem_append_left _ (List.mem_of_getElem? (i := 91) (by decide +kernel))))) rfl
theorem zs_5 : Cond.selects RX7 yX7_noBits yX7_noBits ∈ zz_w := zz_in (List.mem_append_left _ (List.mem_of_getElem? (i := 5) (by decide +kernel))) rfl
theorem zc_X7_130 : zz_cV RX7 130 yX7_noBits cX7_noBits 2 (some .long) 1 := ⟨⟨zk_329, zk_332, zk_1, by decide, by decide, by decide +kernel⟩, zk_331, zs_5⟩
theorem dX7_read_16 : decode cX7_read 16 = .ok (.lreturn, 1) := by decide +kernel
def fn_cx_read  : Int64 := 0
abbrev rm_cx_read : Room := { frames := 1, cells := 0, slots := 0, locals := 21 }
abbrev po_cx_read (g : zz_G) (h0 : Nat) (st : Nat) (mk : Nat) (lk : Nat) (ch : Nat) (ru : Nat) (mr : Nat) (kd : Nat) (dp : Nat) (cl : Nat) (sa : Nat) (ln : Nat) (bt : Nat) (pn : Nat) (bf : Nat) (x1 : Int32) (x2 : Int32) (x3 : Int32) (x4 : Int32) (x5 : Int32) (x6 : Int32) : Int64 → va_W → Prop := fun (r : Int64) (u : va_W) => r = fn_cx_read
set_option maxHeartbeats 4000000 in
set_option maxRecDepth 100000 in
theorem cx_read (g : zz_G) (h0 : Nat) (st : Nat) (mk : Nat) (lk : Nat) (ch : Nat) (ru : Nat) (mr : Nat) (kd : Nat) (dp : Nat) (cl : Nat) (sa : Nat) (ln : Nat) (bt : Nat) (pn : Nat) (bf : Nat) (x1 : Int32) (x2 : Int32) (x3 : Int32) (x4 : Int32) (x5 : Int32) (x6 : Int32) : zz_L g yX7_read (.code yX7_read cX7_read 9 (some .long)) rm_cx_read [.ref h0, .int x1, .int x2, .int x3, .int x4, .int x5, .int x6] [(h0, .inr (6, [.ref st, .ref mk, .ref lk, .ref ch, .ref ru, .ref mr, .int 0, .int 0])), (st, .inr (5, [.int 0, .int 0, .ref kd, .ref dp, .ref cl, .ref sa, .ref ln, .ref bt, .ref pn, .ref bf]))] (po_cx_read g h0 st mk lk ch ru mr kd dp cl sa ln bt pn bf x1 x2 x3 x4 x5 x6) := by
  refine zz_L.intro (own := RX7) (cc := cX7_read) (nL := 9) (by decide) rfl (Nat.le_of_ble_eq_true rfl) ?_
  intro p l e s m args below meth c A H locs ls hC hnm hZ hl
  obtain ⟨hx, hb, hml, hown, hts, hr, hlocks, hK⟩ := id hC
  have hl : lv_has ls 9 [(0, .ref h0), (1, .int x1), (2, .int x2), (3, .int x3), (4, .int x4), (5, .int x5), (6, .int x6)] := hl
  have hZ : zz_Z g A s.heap [(h0, .inr (6, [.ref st, .ref mk, .ref lk, .ref ch, .ref ru, .ref mr, .int 0, .int 0])), (st, .inr (5, [.int 0, .int 0, .ref kd, .ref dp, .ref cl, .ref sa, .ref ln, .ref bt, .ref pn, .ref bf]))] H locs := hZ
  refine lv_aload_n hx hb dX7_read_0 rfl (lv_at hl 0 rfl) ?_
  refine zz_get hC hZ 0 rfl zf_X7_10 rfl dX7_read_1 ?_
  refine lv_iload_n hx hb dX7_read_4 rfl (lv_at hl 1 rfl) ?_
  refine zz_iV (As := [.int x1]) (wc := [(st, .inr (5, [.int 0, .int 0, .ref kd, .ref dp, .ref cl, .ref sa, .ref ln, .ref bt, .ref pn, .ref bf]))]) (wr := [(h0, .inr (6, [.ref st, .ref mk, .ref lk, .ref ch, .ref ru, .ref mr, .int 0, .int 0]))]) (rest := []) hC hZ hl zc_X7_73 (co_has0 g st kd dp cl sa ln bt pn bf x1) [1] [0] rfl rfl (by decide) (ci := 5) (q0 := 0) rfl rfl rfl rfl (Nat.le_of_ble_eq_true rfl) ⟨⟨Nat.le_of_ble_eq_true rfl, Nat.le_of_ble_eq_true rfl⟩, Nat.le_of_ble_eq_true rfl, Nat.le_of_ble_eq_true rfl⟩ dX7_read_5 (fun r1 u2 H locs hp hZ => ?_)
  obtain ⟨rfl, rfl⟩ := hp
  have hZ : zz_Z g A s.heap [(h0, .inr (6, [.ref st, .ref mk, .ref lk, .ref ch, .ref ru, .ref mr, .int 0, .int 0])), (st, .inr (5, [.int 0, .int 0, .ref kd, .ref dp, .ref cl, .ref sa, .ref ln, .ref bt, .ref pn, .ref bf]))] H locs := hZ
  refine lv_if_ne (tgt := 17) hx hb dX7_read_8 (by decide) (fun c => absurd (by decide) c) (fun c3 => ?_)
  refine lv_aload_n hx hb dX7_read_11 rfl (lv_at hl 0 rfl) ?_
  refine lv_iconst (v := 5) hx hb dX7_read_12 (by decide) ?_
  refine zz_lV (As := [.int 5]) (wc := [(h0, .inr (6, [.ref st, .ref mk, .ref lk, .ref ch, .ref ru, .ref mr, .int 0, .int 0]))]) (wr := [(st, .inr (5, [.int 0, .int 0, .ref kd, .ref dp, .ref cl, .ref sa, .ref ln, .ref bt, .ref pn, .ref bf]))]) (rest := []) hC hZ hl zc_X7_130 (co_noBits g h0 st mk lk ch ru mr 0 0 5) [0] [1] rfl rfl (by decide) (ci := 6) (q0 := 0) rfl rfl rfl rfl (Nat.le_of_ble_eq_true rfl) ⟨⟨Nat.le_of_ble_eq_true rfl, Nat.le_of_ble_eq_true rfl⟩, Nat.le_of_ble_eq_true rfl, Nat.le_of_ble_eq_true rfl⟩ dX7_read_13 (fun r4 u5 H locs hp hZ => ?_)
  obtain ⟨rfl, rfl⟩ := hp
  have hZ : zz_Z g A s.heap [(st, .inr (5, [.int 0, .int 0, .ref kd, .ref dp, .ref cl, .ref sa, .ref ln, .ref bt, .ref pn, .ref bf])), (h0, .inr (6, [.ref st, .ref mk, .ref lk, .ref ch, .ref ru, .ref mr, .int 0, .int 5]))] H locs := hZ
  exact zz_lret hC hZ (rfl) (Nat.le_of_ble_eq_true rfl) (Nat.le_of_ble_eq_true rfl) dX7_read_16
theorem dX7_write_0 : decode cX7_write 0 = .ok (.aload_n 0, 1) := by decide +kernel
theorem dX7_write_1 : decode cX7_write 1 = .ok (.getfield 10, 3) := by decide +kernel
theorem dX7_write_4 : decode cX7_write 4 = .ok (.iload_n 1, 1) := by decide +kernel
theorem dX7_write_5 : decode cX7_write 5 = .ok (.invokevirtual 73, 3) := by decide +kernel
theorem dX7_write_8 : decode cX7_write 8 = .ok (.ifCond .ne 9, 3) := by decide +kernel
theorem dX7_write_11 : decode cX7_write 11 = .ok (.aload_n 0, 1) := by decide +kernel
theorem dX7_write_12 : decode cX7_write 12 = .ok (.iconst 5, 1) := by decide +kernel
theorem dX7_write_13 : decode cX7_write 13 = .ok (.invokevirtual 65, 3) := by decide +kernel
theorem dX7_write_16 : decode cX7_write 16 = .ok (.ireturn, 1) := by decide +kernel
def fn_cx_write  : Int32 := -5
abbrev rm_cx_write : Room := { frames := 1, cells := 0, slots := 0, locals := 21 }
abbrev po_cx_write (g : zz_G) (h0 : Nat) (st : Nat) (mk : Nat) (lk : Nat) (ch : Nat) (ru : Nat) (mr : Nat) (kd : Nat) (dp : Nat) (cl : Nat) (sa : Nat) (ln : Nat) (bt : Nat) (pn : Nat) (bf : Nat) (x1 : Int32) (x2 : Int32) (x3 : Int32) (x4 : Int32) (x5 : Int32) (x6 : Int32) (x7 : Int64) : Int32 → va_W → Prop := fun (r : Int32) (u : va_W) => r = fn_cx_write
set_option maxHeartbeats 4000000 in
set_option maxRecDepth 100000 in
theorem cx_write (g : zz_G) (h0 : Nat) (st : Nat) (mk : Nat) (lk : Nat) (ch : Nat) (ru : Nat) (mr : Nat) (kd : Nat) (dp : Nat) (cl : Nat) (sa : Nat) (ln : Nat) (bt : Nat) (pn : Nat) (bf : Nat) (x1 : Int32) (x2 : Int32) (x3 : Int32) (x4 : Int32) (x5 : Int32) (x6 : Int32) (x7 : Int64) : zz_I g yX7_write (.code yX7_write cX7_write 14 (some .int)) rm_cx_write [.ref h0, .int x1, .int x2, .int x3, .int x4, .int x5, .int x6, .long x7] [(h0, .inr (6, [.ref st, .ref mk, .ref lk, .ref ch, .ref ru, .ref mr, .int 0, .int 0])), (st, .inr (5, [.int 0, .int 0, .ref kd, .ref dp, .ref cl, .ref sa, .ref ln, .ref bt, .ref pn, .ref bf]))] (po_cx_write g h0 st mk lk ch ru mr kd dp cl sa ln bt pn bf x1 x2 x3 x4 x5 x6 x7) := by
  refine zz_I.intro (own := RX7) (cc := cX7_write) (nL := 14) (by decide) rfl (Nat.le_of_ble_eq_true rfl) ?_
  intro p l e s m args below meth c A H locs ls hC hnm hZ hl
  obtain ⟨hx, hb, hml, hown, hts, hr, hlocks, hK⟩ := id hC
  have hl : lv_has ls 14 [(0, .ref h0), (1, .int x1), (2, .int x2), (3, .int x3), (4, .int x4), (5, .int x5), (6, .int x6), (7, .long x7)] := hl
  have hZ : zz_Z g A s.heap [(h0, .inr (6, [.ref st, .ref mk, .ref lk, .ref ch, .ref ru, .ref mr, .int 0, .int 0])), (st, .inr (5, [.int 0, .int 0, .ref kd, .ref dp, .ref cl, .ref sa, .ref ln, .ref bt, .ref pn, .ref bf]))] H locs := hZ
  refine lv_aload_n hx hb dX7_write_0 rfl (lv_at hl 0 rfl) ?_
  refine zz_get hC hZ 0 rfl zf_X7_10 rfl dX7_write_1 ?_
  refine lv_iload_n hx hb dX7_write_4 rfl (lv_at hl 1 rfl) ?_
  refine zz_iV (As := [.int x1]) (wc := [(st, .inr (5, [.int 0, .int 0, .ref kd, .ref dp, .ref cl, .ref sa, .ref ln, .ref bt, .ref pn, .ref bf]))]) (wr := [(h0, .inr (6, [.ref st, .ref mk, .ref lk, .ref ch, .ref ru, .ref mr, .int 0, .int 0]))]) (rest := []) hC hZ hl zc_X7_73 (co_has0 g st kd dp cl sa ln bt pn bf x1) [1] [0] rfl rfl (by decide) (ci := 5) (q0 := 0) rfl rfl rfl rfl (Nat.le_of_ble_eq_true rfl) ⟨⟨Nat.le_of_ble_eq_true rfl, Nat.le_of_ble_eq_true rfl⟩, Nat.le_of_ble_eq_true rfl, Nat.le_of_ble_eq_true rfl⟩ dX7_write_5 (fun r1 u2 H locs hp hZ => ?_)
  obtain ⟨rfl, rfl⟩ := hp
  have hZ : zz_Z g A s.heap [(h0, .inr (6, [.ref st, .ref mk, .ref lk, .ref ch, .ref ru, .ref mr, .int 0, .int 0])), (st, .inr (5, [.int 0, .int 0, .ref kd, .ref dp, .ref cl, .ref sa, .ref ln, .ref bt, .ref pn, .ref bf]))] H locs := hZ
  refine lv_if_ne (tgt := 17) hx hb dX7_write_8 (by decide) (fun c => absurd (by decide) c) (fun c3 => ?_)
  refine lv_aload_n hx hb dX7_write_11 rfl (lv_at hl 0 rfl) ?_
  refine lv_iconst (v := 5) hx hb dX7_write_12 (by decide) ?_
  refine zz_iV (As := [.int 5]) (wc := [(h0, .inr (6, [.ref st, .ref mk, .ref lk, .ref ch, .ref ru, .ref mr, .int 0, .int 0]))]) (wr := [(st, .inr (5, [.int 0, .int 0, .ref kd, .ref dp, .ref cl, .ref sa, .ref ln, .ref bt, .ref pn, .ref bf]))]) (rest := []) hC hZ hl zc_X7_65 (co_fail g h0 st mk lk ch ru mr 0 0 5) [0] [1] rfl rfl (by decide) (ci := 6) (q0 := 0) rfl rfl rfl rfl (Nat.le_of_ble_eq_true rfl) ⟨⟨Nat.le_of_ble_eq_true rfl, Nat.le_of_ble_eq_true rfl⟩, Nat.le_of_ble_eq_true rfl, Nat.le_of_ble_eq_true rfl⟩ dX7_write_13 (fun r4 u5 H locs hp hZ => ?_)
  obtain ⟨rfl, rfl⟩ := hp
  have hZ : zz_Z g A s.heap [(st, .inr (5, [.int 0, .int 0, .ref kd, .ref dp, .ref cl, .ref sa, .ref ln, .ref bt, .ref pn, .ref bf])), (h0, .inr (6, [.ref st, .ref mk, .ref lk, .ref ch, .ref ru, .ref mr, .int 0, .int 5]))] H locs := hZ
  exact zz_iret hC hZ (rfl) (Nat.le_of_ble_eq_true rfl) (Nat.le_of_ble_eq_true rfl) dX7_write_16
theorem dX7_place_0 : decode cX7_place 0 = .ok (.aload_n 0, 1) := by decide +kernel
theorem dX7_place_1 : decode cX7_place 1 = .ok (.getfield 10, 3) := by decide +kernel
theorem dX7_place_4 : decode cX7_place 4 = .ok (.iload_n 1, 1) := by decide +kernel
theorem dX7_place_5 : decode cX7_place 5 = .ok (.invokevirtual 73, 3) := by decide +kernel
theorem dX7_place_8 : decode cX7_place 8 = .ok (.ifCond .ne 9, 3) := by decide +kernel
theorem dX7_place_11 : decode cX7_place 11 = .ok (.aload_n 0, 1) := by decide +kernel
theorem dX7_place_12 : decode cX7_place 12 = .ok (.iconst 5, 1) := by decide +kernel
theorem dX7_place_13 : decode cX7_place 13 = .ok (.invokevirtual 65, 3) := by decide +kernel
theorem dX7_place_16 : decode cX7_place 16 = .ok (.ireturn, 1) := by decide +kernel
def fn_cx_place  : Int32 := -5
abbrev rm_cx_place : Room := { frames := 1, cells := 0, slots := 0, locals := 21 }
abbrev po_cx_place (g : zz_G) (h0 : Nat) (st : Nat) (mk : Nat) (lk : Nat) (ch : Nat) (ru : Nat) (mr : Nat) (kd : Nat) (dp : Nat) (cl : Nat) (sa : Nat) (ln : Nat) (bt : Nat) (pn : Nat) (bf : Nat) (x1 : Int32) (x2 : Int32) (x3 : Int32) (x4 : Int32) (x5 : Int32) : Int32 → va_W → Prop := fun (r : Int32) (u : va_W) => r = fn_cx_place
set_option maxHeartbeats 4000000 in
set_option maxRecDepth 100000 in
theorem cx_place (g : zz_G) (h0 : Nat) (st : Nat) (mk : Nat) (lk : Nat) (ch : Nat) (ru : Nat) (mr : Nat) (kd : Nat) (dp : Nat) (cl : Nat) (sa : Nat) (ln : Nat) (bt : Nat) (pn : Nat) (bf : Nat) (x1 : Int32) (x2 : Int32) (x3 : Int32) (x4 : Int32) (x5 : Int32) : zz_I g yX7_place (.code yX7_place cX7_place 7 (some .int)) rm_cx_place [.ref h0, .int x1, .int x2, .int x3, .int x4, .int x5] [(h0, .inr (6, [.ref st, .ref mk, .ref lk, .ref ch, .ref ru, .ref mr, .int 0, .int 0])), (st, .inr (5, [.int 0, .int 0, .ref kd, .ref dp, .ref cl, .ref sa, .ref ln, .ref bt, .ref pn, .ref bf]))] (po_cx_place g h0 st mk lk ch ru mr kd dp cl sa ln bt pn bf x1 x2 x3 x4 x5) := by
  refine zz_I.intro (own := RX7) (cc := cX7_place) (nL := 7) (by decide) rfl (Nat.le_of_ble_eq_true rfl) ?_
  intro p l e s m args below meth c A H locs ls hC hnm hZ hl
  obtain ⟨hx, hb, hml, hown, hts, hr, hlocks, hK⟩ := id hC
  have hl : lv_has ls 7 [(0, .ref h0), (1, .int x1), (2, .int x2), (3, .int x3), (4, .int x4), (5, .int x5)] := hl
  have hZ : zz_Z g A s.heap [(h0, .inr (6, [.ref st, .ref mk, .ref lk, .ref ch, .ref ru, .ref mr, .int 0, .int 0])), (st, .inr (5, [.int 0, .int 0, .ref kd, .ref dp, .ref cl, .ref sa, .ref ln, .ref bt, .ref pn, .ref bf]))] H locs := hZ
  refine lv_aload_n hx hb dX7_place_0 rfl (lv_at hl 0 rfl) ?_
  refine zz_get hC hZ 0 rfl zf_X7_10 rfl dX7_place_1 ?_
  refine lv_iload_n hx hb dX7_place_4 rfl (lv_at hl 1 rfl) ?_
  refine zz_iV (As := [.int x1]) (wc := [(st, .inr (5, [.int 0, .int 0, .ref kd, .ref dp, .ref cl, .ref sa, .ref ln, .ref bt, .ref pn, .ref bf]))]) (wr := [(h0, .inr (6, [.ref st, .ref mk, .ref lk, .ref ch, .ref ru, .ref mr, .int 0, .int 0]))]) (rest := []) hC hZ hl zc_X7_73 (co_has0 g st kd dp cl sa ln bt pn bf x1) [1] [0] rfl rfl (by decide) (ci := 5) (q0 := 0) rfl rfl rfl rfl (Nat.le_of_ble_eq_true rfl) ⟨⟨Nat.le_of_ble_eq_true rfl, Nat.le_of_ble_eq_true rfl⟩, Nat.le_of_ble_eq_true rfl, Nat.le_of_ble_eq_true rfl⟩ dX7_place_5 (fun r1 u2 H locs hp hZ => ?_)
  obtain ⟨rfl, rfl⟩ := hp
  have hZ : zz_Z g A s.heap [(h0, .inr (6, [.ref st, .ref mk, .ref lk, .ref ch, .ref ru, .ref mr, .int 0, .int 0])), (st, .inr (5, [.int 0, .int 0, .ref kd, .ref dp, .ref cl, .ref sa, .ref ln, .ref bt, .ref pn, .ref bf]))] H locs := hZ
  refine lv_if_ne (tgt := 17) hx hb dX7_place_8 (by decide) (fun c => absurd (by decide) c) (fun c3 => ?_)
  refine lv_aload_n hx hb dX7_place_11 rfl (lv_at hl 0 rfl) ?_
  refine lv_iconst (v := 5) hx hb dX7_place_12 (by decide) ?_
  refine zz_iV (As := [.int 5]) (wc := [(h0, .inr (6, [.ref st, .ref mk, .ref lk, .ref ch, .ref ru, .ref mr, .int 0, .int 0]))]) (wr := [(st, .inr (5, [.int 0, .int 0, .ref kd, .ref dp, .ref cl, .ref sa, .ref ln, .ref bt, .ref pn, .ref bf]))]) (rest := []) hC hZ hl zc_X7_65 (co_fail g h0 st mk lk ch ru mr 0 0 5) [0] [1] rfl rfl (by decide) (ci := 6) (q0 := 0) rfl rfl rfl rfl (Nat.le_of_ble_eq_true rfl) ⟨⟨Nat.le_of_ble_eq_true rfl, Nat.le_of_ble_eq_true rfl⟩, Nat.le_of_ble_eq_true rfl, Nat.le_of_ble_eq_true rfl⟩ dX7_place_13 (fun r4 u5 H locs hp hZ => ?_)
  obtain ⟨rfl, rfl⟩ := hp
  have hZ : zz_Z g A s.heap [(st, .inr (5, [.int 0, .int 0, .ref kd, .ref dp, .ref cl, .ref sa, .ref ln, .ref bt, .ref pn, .ref bf])), (h0, .inr (6, [.ref st, .ref mk, .ref lk, .ref ch, .ref ru, .ref mr, .int 0, .int 5]))] H locs := hZ
  exact zz_iret hC hZ (rfl) (Nat.le_of_ble_eq_true rfl) (Nat.le_of_ble_eq_true rfl) dX7_place_16
theorem dX7_pin_0 : decode cX7_pin 0 = .ok (.aload_n 0, 1) := by decide +kernel
theorem dX7_pin_1 : decode cX7_pin 1 = .ok (.getfield 10, 3) := by decide +kernel
theorem dX7_pin_4 : decode cX7_pin 4 = .ok (.iload_n 1, 1) := by decide +kernel
theorem dX7_pin_5 : decode cX7_pin 5 = .ok (.invokevirtual 73, 3) := by decide +kernel
theorem dX7_pin_8 : decode cX7_pin 8 = .ok (.ifCond .ne 9, 3) := by decide +kernel
theorem dX7_pin_11 : decode cX7_pin 11 = .ok (.aload_n 0, 1) := by decide +kernel
theorem dX7_pin_12 : decode cX7_pin 12 = .ok (.iconst 5, 1) := by decide +kernel
theorem dX7_pin_13 : decode cX7_pin 13 = .ok (.invokevirtual 65, 3) := by decide +kernel
theorem dX7_pin_16 : decode cX7_pin 16 = .ok (.ireturn, 1) := by decide +kernel
def fn_cx_pin  : Int32 := -5
abbrev rm_cx_pin : Room := { frames := 1, cells := 0, slots := 0, locals := 21 }
abbrev po_cx_pin (g : zz_G) (h0 : Nat) (st : Nat) (mk : Nat) (lk : Nat) (ch : Nat) (ru : Nat) (mr : Nat) (kd : Nat) (dp : Nat) (cl : Nat) (sa : Nat) (ln : Nat) (bt : Nat) (pn : Nat) (bf : Nat) (x1 : Int32) (x2 : Int32) (x3 : Int32) (x4 : Int32) (x5 : Int32) (x6 : Int32) : Int32 → va_W → Prop := fun (r : Int32) (u : va_W) => r = fn_cx_pin
set_option maxHeartbeats 4000000 in
set_option maxRecDepth 100000 in
theorem cx_pin (g : zz_G) (h0 : Nat) (st : Nat) (mk : Nat) (lk : Nat) (ch : Nat) (ru : Nat) (mr : Nat) (kd : Nat) (dp : Nat) (cl : Nat) (sa : Nat) (ln : Nat) (bt : Nat) (pn : Nat) (bf : Nat) (x1 : Int32) (x2 : Int32) (x3 : Int32) (x4 : Int32) (x5 : Int32) (x6 : Int32) : zz_I g yX7_pin (.code yX7_pin cX7_pin 10 (some .int)) rm_cx_pin [.ref h0, .int x1, .int x2, .int x3, .int x4, .int x5, .int x6] [(h0, .inr (6, [.ref st, .ref mk, .ref lk, .ref ch, .ref ru, .ref mr, .int 0, .int 0])), (st, .inr (5, [.int 0, .int 0, .ref kd, .ref dp, .ref cl, .ref sa, .ref ln, .ref bt, .ref pn, .ref bf]))] (po_cx_pin g h0 st mk lk ch ru mr kd dp cl sa ln bt pn bf x1 x2 x3 x4 x5 x6) := by
  refine zz_I.intro (own := RX7) (cc := cX7_pin) (nL := 10) (by decide) rfl (Nat.le_of_ble_eq_true rfl) ?_
  intro p l e s m args below meth c A H locs ls hC hnm hZ hl
  obtain ⟨hx, hb, hml, hown, hts, hr, hlocks, hK⟩ := id hC
  have hl : lv_has ls 10 [(0, .ref h0), (1, .int x1), (2, .int x2), (3, .int x3), (4, .int x4), (5, .int x5), (6, .int x6)] := hl
  have hZ : zz_Z g A s.heap [(h0, .inr (6, [.ref st, .ref mk, .ref lk, .ref ch, .ref ru, .ref mr, .int 0, .int 0])), (st, .inr (5, [.int 0, .int 0, .ref kd, .ref dp, .ref cl, .ref sa, .ref ln, .ref bt, .ref pn, .ref bf]))] H locs := hZ
  refine lv_aload_n hx hb dX7_pin_0 rfl (lv_at hl 0 rfl) ?_
  refine zz_get hC hZ 0 rfl zf_X7_10 rfl dX7_pin_1 ?_
  refine lv_iload_n hx hb dX7_pin_4 rfl (lv_at hl 1 rfl) ?_
  refine zz_iV (As := [.int x1]) (wc := [(st, .inr (5, [.int 0, .int 0, .ref kd, .ref dp, .ref cl, .ref sa, .ref ln, .ref bt, .ref pn, .ref bf]))]) (wr := [(h0, .inr (6, [.ref st, .ref mk, .ref lk, .ref ch, .ref ru, .ref mr, .int 0, .int 0]))]) (rest := []) hC hZ hl zc_X7_73 (co_has0 g st kd dp cl sa ln bt pn bf x1) [1] [0] rfl rfl (by decide) (ci := 5) (q0 := 0) rfl rfl rfl rfl (Nat.le_of_ble_eq_true rfl) ⟨⟨Nat.le_of_ble_eq_true rfl, Nat.le_of_ble_eq_true rfl⟩, Nat.le_of_ble_eq_true rfl, Nat.le_of_ble_eq_true rfl⟩ dX7_pin_5 (fun r1 u2 H locs hp hZ => ?_)
  obtain ⟨rfl, rfl⟩ := hp
  have hZ : zz_Z g A s.heap [(h0, .inr (6, [.ref st, .ref mk, .ref lk, .ref ch, .ref ru, .ref mr, .int 0, .int 0])), (st, .inr (5, [.int 0, .int 0, .ref kd, .ref dp, .ref cl, .ref sa, .ref ln, .ref bt, .ref pn, .ref bf]))] H locs := hZ
  refine lv_if_ne (tgt := 17) hx hb dX7_pin_8 (by decide) (fun c => absurd (by decide) c) (fun c3 => ?_)
  refine lv_aload_n hx hb dX7_pin_11 rfl (lv_at hl 0 rfl) ?_
  refine lv_iconst (v := 5) hx hb dX7_pin_12 (by decide) ?_
  refine zz_iV (As := [.int 5]) (wc := [(h0, .inr (6, [.ref st, .ref mk, .ref lk, .ref ch, .ref ru, .ref mr, .int 0, .int 0]))]) (wr := [(st, .inr (5, [.int 0, .int 0, .ref kd, .ref dp, .ref cl, .ref sa, .ref ln, .ref bt, .ref pn, .ref bf]))]) (rest := []) hC hZ hl zc_X7_65 (co_fail g h0 st mk lk ch ru mr 0 0 5) [0] [1] rfl rfl (by decide) (ci := 6) (q0 := 0) rfl rfl rfl rfl (Nat.le_of_ble_eq_true rfl) ⟨⟨Nat.le_of_ble_eq_true rfl, Nat.le_of_ble_eq_true rfl⟩, Nat.le_of_ble_eq_true rfl, Nat.le_of_ble_eq_true rfl⟩ dX7_pin_13 (fun r4 u5 H locs hp hZ => ?_)
  obtain ⟨rfl, rfl⟩ := hp
  have hZ : zz_Z g A s.heap [(st, .inr (5, [.int 0, .int 0, .ref kd, .ref dp, .ref cl, .ref sa, .ref ln, .ref bt, .ref pn, .ref bf])), (h0, .inr (6, [.ref st, .ref mk, .ref lk, .ref ch, .ref ru, .ref mr, .int 0, .int 5]))] H locs := hZ
  exact zz_iret hC hZ (rfl) (Nat.le_of_ble_eq_true rfl) (Nat.le_of_ble_eq_true rfl) dX7_pin_16
theorem dX7_column_0 : decode cX7_column 0 = .ok (.iload_n 1, 1) := by decide +kernel
theorem dX7_column_1 : decode cX7_column 1 = .ok (.invokestatic 59, 3) := by decide +kernel
theorem dX7_column_4 : decode cX7_column 4 = .ok (.ifCond .eq 7, 3) := by decide +kernel
theorem dX7_column_11 : decode cX7_column 11 = .ok (.aload_n 0, 1) := by decide +kernel
theorem dX7_column_12 : decode cX7_column 12 = .ok (.bipush 9, 2) := by decide +kernel
theorem dX7_column_14 : decode cX7_column 14 = .ok (.invokevirtual 65, 3) := by decide +kernel
theorem dX7_column_17 : decode cX7_column 17 = .ok (.ireturn, 1) := by decide +kernel
theorem dX7_column_7 : decode cX7_column 7 = .ok (.iload_n 2, 1) := by decide +kernel
theorem dX7_column_8 : decode cX7_column 8 = .ok (.ifCond .ge 10, 3) := by decide +kernel
theorem dX7_column_18 : decode cX7_column 18 = .ok (.iload_n 2, 1) := by decide +kernel
theorem dX7_column_19 : decode cX7_column 19 = .ok (.istore_n 3, 1) := by decide +kernel
theorem dX7_column_20 : decode cX7_column 20 = .ok (.iconst 0, 1) := by decide +kernel
theorem dX7_column_21 : decode cX7_column 21 = .ok (.istore 4, 2) := by decide +kernel
theorem dX7_column_23 : decode cX7_column 23 = .ok (.iload 4, 2) := by decide +kernel
theorem dX7_column_25 : decode cX7_column 25 = .ok (.aload_n 0, 1) := by decide +kernel
theorem dX7_column_26 : decode cX7_column 26 = .ok (.getfield 10, 3) := by decide +kernel
theorem dX7_column_29 : decode cX7_column 29 = .ok (.getfield 163, 3) := by decide +kernel
theorem zk_27 : Cond.fieldLink RX7 163 RX6 "arrays" "I" ∈ zz_w := zz_in (List.mem_append_right _ (List.mem_append_left _ (List.mem_of_getElem? (i := 27) (by decide +kernel)))) rfl
theorem zf_X7_163 : zz_f RX7 163 5 0 := ⟨RX6, TX6, 10, rfl, zi_X6, by decide, zk_27⟩
theorem dX7_column_32 : decode cX7_column 32 = .ok (.if_icmp .ge 77, 3) := by decide +kernel
theorem dX7_column_109 : decode cX7_column 109 = .ok (.aload_n 0, 1) := by decide +kernel
theorem dX7_column_110 : decode cX7_column 110 = .ok (.bipush (-2), 2) := by decide +kernel
theorem dX7_column_112 : decode cX7_column 112 = .ok (.invokevirtual 100, 3) := by decide +kernel
theorem dX7_column_115 : decode cX7_column 115 = .ok (.ireturn, 1) := by decide +kernel
def fn_cx_column (x1 : Int32) (x2 : Int32) : Int32 := (if (fn_co_isKind x1) = 0 then -9 else (if 0 ≤ x2 then -2 else -9))
abbrev rm_cx_column : Room := { frames := 1, cells := 0, slots := 0, locals := 21 }
abbrev po_cx_column (g : zz_G) (h0 : Nat) (st : Nat) (mk : Nat) (lk : Nat) (ch : Nat) (ru : Nat) (mr : Nat) (kd : Nat) (dp : Nat) (cl : Nat) (sa : Nat) (ln : Nat) (bt : Nat) (pn : Nat) (bf : Nat) (x1 : Int32) (x2 : Int32) : Int32 → va_W → Prop := fun (r : Int32) (u : va_W) => r = fn_cx_column x1 x2
set_option maxHeartbeats 4000000 in
set_option maxRecDepth 100000 in
theorem cx_column (g : zz_G) (h0 : Nat) (st : Nat) (mk : Nat) (lk : Nat) (ch : Nat) (ru : Nat) (mr : Nat) (kd : Nat) (dp : Nat) (cl : Nat) (sa : Nat) (ln : Nat) (bt : Nat) (pn : Nat) (bf : Nat) (x1 : Int32) (x2 : Int32) : zz_I g yX7_column (.code yX7_column cX7_column 5 (some .int)) rm_cx_column [.ref h0, .int x1, .int x2] [(h0, .inr (6, [.ref st, .ref mk, .ref lk, .ref ch, .ref ru, .ref mr, .int 0, .int 0])), (st, .inr (5, [.int 0, .int 0, .ref kd, .ref dp, .ref cl, .ref sa, .ref ln, .ref bt, .ref pn, .ref bf]))] (po_cx_column g h0 st mk lk ch ru mr kd dp cl sa ln bt pn bf x1 x2) := by
  refine zz_I.intro (own := RX7) (cc := cX7_column) (nL := 5) (by decide) rfl (Nat.le_of_ble_eq_true rfl) ?_
  intro p l e s m args below meth c A H locs ls hC hnm hZ hl
  obtain ⟨hx, hb, hml, hown, hts, hr, hlocks, hK⟩ := id hC
  have hl : lv_has ls 5 [(0, .ref h0), (1, .int x1), (2, .int x2)] := hl
  have hZ : zz_Z g A s.heap [(h0, .inr (6, [.ref st, .ref mk, .ref lk, .ref ch, .ref ru, .ref mr, .int 0, .int 0])), (st, .inr (5, [.int 0, .int 0, .ref kd, .ref dp, .ref cl, .ref sa, .ref ln, .ref bt, .ref pn, .ref bf]))] H locs := hZ
  refine lv_iload_n hx hb dX7_column_0 rfl (lv_at hl 1 rfl) ?_
  refine zz_iS (As := [.int x1]) (wc := []) (wr := [(h0, .inr (6, [.ref st, .ref mk, .ref lk, .ref ch, .ref ru, .ref mr, .int 0, .int 0])), (st, .inr (5, [.int 0, .int 0, .ref kd, .ref dp, .ref cl, .ref sa, .ref ln, .ref bt, .ref pn, .ref bf]))]) (rest := []) hC hZ hl zc_X7_59 (co_isKind g x1) [] [0, 1] rfl rfl (by decide) rfl rfl (Nat.le_of_ble_eq_true rfl) ⟨⟨Nat.le_of_ble_eq_true rfl, Nat.le_of_ble_eq_true rfl⟩, Nat.le_of_ble_eq_true rfl, Nat.le_of_ble_eq_true rfl⟩ dX7_column_1 (fun r1 u2 H locs hp hZ => ?_)
  obtain ⟨rfl, rfl⟩ := hp
  have hZ : zz_Z g A s.heap [(h0, .inr (6, [.ref st, .ref mk, .ref lk, .ref ch, .ref ru, .ref mr, .int 0, .int 0])), (st, .inr (5, [.int 0, .int 0, .ref kd, .ref dp, .ref cl, .ref sa, .ref ln, .ref bt, .ref pn, .ref bf]))] H locs := hZ
  refine lv_if_eq (tgt := 11) hx hb dX7_column_4 (by decide) (fun c3 => ?_) (fun c3 => ?_)
  · refine lv_aload_n hx hb dX7_column_11 rfl (lv_at hl 0 rfl) ?_
    refine lv_bipush (v := 9) hx hb dX7_column_12 (by decide) ?_
    refine zz_iV (As := [.int 9]) (wc := [(h0, .inr (6, [.ref st, .ref mk, .ref lk, .ref ch, .ref ru, .ref mr, .int 0, .int 0]))]) (wr := [(st, .inr (5, [.int 0, .int 0, .ref kd, .ref dp, .ref cl, .ref sa, .ref ln, .ref bt, .ref pn, .ref bf]))]) (rest := []) hC hZ hl zc_X7_65 (co_fail g h0 st mk lk ch ru mr 0 0 9) [0] [1] rfl rfl (by decide) (ci := 6) (q0 := 0) rfl rfl rfl rfl (Nat.le_of_ble_eq_true rfl) ⟨⟨Nat.le_of_ble_eq_true rfl, Nat.le_of_ble_eq_true rfl⟩, Nat.le_of_ble_eq_true rfl, Nat.le_of_ble_eq_true rfl⟩ dX7_column_14 (fun r4 u5 H locs hp hZ => ?_)
    obtain ⟨rfl, rfl⟩ := hp
    have hZ : zz_Z g A s.heap [(st, .inr (5, [.int 0, .int 0, .ref kd, .ref dp, .ref cl, .ref sa, .ref ln, .ref bt, .ref pn, .ref bf])), (h0, .inr (6, [.ref st, .ref mk, .ref lk, .ref ch, .ref ru, .ref mr, .int 0, .int 9]))] H locs := hZ
    exact zz_iret hC hZ (by show _ = _; rw [fn_cx_column, if_pos c3]) (Nat.le_of_ble_eq_true rfl) (Nat.le_of_ble_eq_true rfl) dX7_column_17
  · refine lv_iload_n hx hb dX7_column_7 rfl (lv_at hl 2 rfl) ?_
    refine lv_if_ge (tgt := 18) hx hb dX7_column_8 (by decide) (fun c6 => ?_) (fun c6 => ?_)
    · refine lv_iload_n hx hb dX7_column_18 rfl (lv_at hl 2 rfl) ?_
      refine lv_istore_n (lv' := [(3, .int x2), (0, .ref h0), (1, .int x1), (2, .int x2)]) hx hb dX7_column_19 rfl hl (by decide) rfl (fun ls hl => ?_)
      refine lv_iconst (v := 0) hx hb dX7_column_20 (by decide) ?_
      refine lv_istore (lv' := [(4, .int 0), (3, .int x2), (0, .ref h0), (1, .int x1), (2, .int x2)]) hx hb dX7_column_21 hl (by decide) rfl (fun ls hl => ?_)
      refine lv_iload hx hb dX7_column_23 (lv_at hl 0 rfl) ?_
      refine lv_aload_n hx hb dX7_column_25 rfl (lv_at hl 2 rfl) ?_
      refine zz_get hC hZ 0 rfl zf_X7_10 rfl dX7_column_26 ?_
      refine zz_get hC hZ 1 rfl zf_X7_163 rfl dX7_column_29 ?_
      refine lv_icmp_ge (tgt := 109) hx hb dX7_column_32 (by decide) (fun c7 => ?_) (fun c => absurd (by decide) c)
      refine lv_aload_n hx hb dX7_column_109 rfl (lv_at hl 2 rfl) ?_
      refine lv_bipush (v := -2) hx hb dX7_column_110 (by decide) ?_
      refine zz_iV (As := [.int (-2)]) (wc := [(h0, .inr (6, [.ref st, .ref mk, .ref lk, .ref ch, .ref ru, .ref mr, .int 0, .int 0]))]) (wr := [(st, .inr (5, [.int 0, .int 0, .ref kd, .ref dp, .ref cl, .ref sa, .ref ln, .ref bt, .ref pn, .ref bf]))]) (rest := []) hC hZ hl zc_X7_100 (co_fine g h0 st mk lk ch ru mr 0 0 (-2)) [0] [1] rfl rfl (by decide) (ci := 6) (q0 := 0) rfl rfl rfl rfl (Nat.le_of_ble_eq_true rfl) ⟨⟨Nat.le_of_ble_eq_true rfl, Nat.le_of_ble_eq_true rfl⟩, Nat.le_of_ble_eq_true rfl, Nat.le_of_ble_eq_true rfl⟩ dX7_column_112 (fun r8 u9 H locs hp hZ => ?_)
      obtain ⟨rfl, rfl⟩ := hp
      have hZ : zz_Z g A s.heap [(st, .inr (5, [.int 0, .int 0, .ref kd, .ref dp, .ref cl, .ref sa, .ref ln, .ref bt, .ref pn, .ref bf])), (h0, .inr (6, [.ref st, .ref mk, .ref lk, .ref ch, .ref ru, .ref mr, .int 0, .int 0]))] H locs := hZ
      exact zz_iret hC hZ (by show _ = _; rw [fn_cx_column, if_neg c3, if_pos c6]) (Nat.le_of_ble_eq_true rfl) (Nat.le_of_ble_eq_true rfl) dX7_column_115
    · refine lv_aload_n hx hb dX7_column_11 rfl (lv_at hl 0 rfl) ?_
      refine lv_bipush (v := 9) hx hb dX7_column_12 (by decide) ?_
      refine zz_iV (As := [.int 9]) (wc := [(h0, .inr (6, [.ref st, .ref mk, .ref lk, .ref ch, .ref ru, .ref mr, .int 0, .int 0]))]) (wr := [(st, .inr (5, [.int 0, .int 0, .ref kd, .ref dp, .ref cl, .ref sa, .ref ln, .ref bt, .ref pn, .ref bf]))]) (rest := []) hC hZ hl zc_X7_65 (co_fail g h0 st mk lk ch ru mr 0 0 9) [0] [1] rfl rfl (by decide) (ci := 6) (q0 := 0) rfl rfl rfl rfl (Nat.le_of_ble_eq_true rfl) ⟨⟨Nat.le_of_ble_eq_true rfl, Nat.le_of_ble_eq_true rfl⟩, Nat.le_of_ble_eq_true rfl, Nat.le_of_ble_eq_true rfl⟩ dX7_column_14 (fun r10 u11 H locs hp hZ => ?_)
      obtain ⟨rfl, rfl⟩ := hp
      have hZ : zz_Z g A s.heap [(st, .inr (5, [.int 0, .int 0, .ref kd, .ref dp, .ref cl, .ref sa, .ref ln, .ref bt, .ref pn, .ref bf])), (h0, .inr (6, [.ref st, .ref mk, .ref lk, .ref ch, .ref ru, .ref mr, .int 0, .int 9]))] H locs := hZ
      exact zz_iret hC hZ (by show _ = _; rw [fn_cx_column, if_neg c3, if_neg c6]) (Nat.le_of_ble_eq_true rfl) (Nat.le_of_ble_eq_true rfl) dX7_column_17
theorem dX7_code_0 : decode cX7_code 0 = .ok (.aload_n 0, 1) := by decide +kernel
theorem dX7_code_1 : decode cX7_code 1 = .ok (.getfield 56, 3) := by decide +kernel
theorem dX7_code_4 : decode cX7_code 4 = .ok (.ireturn, 1) := by decide +kernel
def fn_cx_code  : Int32 := 0
abbrev rm_cx_code : Room := { frames := 0, cells := 0, slots := 0, locals := 0 }
abbrev po_cx_code (g : zz_G) (h0 : Nat) (st : Nat) (mk : Nat) (lk : Nat) (ch : Nat) (ru : Nat) (mr : Nat) : Int32 → va_W → Prop := fun (r : Int32) (u : va_W) => r = fn_cx_code
set_option maxHeartbeats 4000000 in
set_option maxRecDepth 100000 in
theorem cx_code (g : zz_G) (h0 : Nat) (st : Nat) (mk : Nat) (lk : Nat) (ch : Nat) (ru : Nat) (mr : Nat) : zz_I g yX7_code (.code yX7_code cX7_code 1 (some .int)) rm_cx_code [.ref h0] [(h0, .inr (6, [.ref st, .ref mk, .ref lk, .ref ch, .ref ru, .ref mr, .int 0, .int 0]))] (po_cx_code g h0 st mk lk ch ru mr) := by
  refine zz_I.intro (own := RX7) (cc := cX7_code) (nL := 1) (by decide) rfl (Nat.le_of_ble_eq_true rfl) ?_
  intro p l e s m args below meth c A H locs ls hC hnm hZ hl
  obtain ⟨hx, hb, hml, hown, hts, hr, hlocks, hK⟩ := id hC
  have hl : lv_has ls 1 [(0, .ref h0)] := hl
  have hZ : zz_Z g A s.heap [(h0, .inr (6, [.ref st, .ref mk, .ref lk, .ref ch, .ref ru, .ref mr, .int 0, .int 0]))] H locs := hZ
  refine lv_aload_n hx hb dX7_code_0 rfl (lv_at hl 0 rfl) ?_
  refine zz_get hC hZ 0 rfl zf_X7_56 rfl dX7_code_1 ?_
  exact zz_iret hC hZ (rfl) (Nat.le_of_ble_eq_true rfl) (Nat.le_of_ble_eq_true rfl) dX7_code_4
theorem dX7_widens_0 : decode cX7_widens 0 = .ok (.iload_n 1, 1) := by decide +kernel
theorem dX7_widens_1 : decode cX7_widens 1 = .ok (.invokestatic 59, 3) := by decide +kernel
theorem dX7_widens_4 : decode cX7_widens 4 = .ok (.ifCond .eq 10, 3) := by decide +kernel
theorem dX7_widens_14 : decode cX7_widens 14 = .ok (.aload_n 0, 1) := by decide +kernel
theorem dX7_widens_15 : decode cX7_widens 15 = .ok (.bipush 9, 2) := by decide +kernel
theorem dX7_widens_17 : decode cX7_widens 17 = .ok (.invokevirtual 65, 3) := by decide +kernel
theorem dX7_widens_20 : decode cX7_widens 20 = .ok (.ireturn, 1) := by decide +kernel
theorem dX7_widens_7 : decode cX7_widens 7 = .ok (.iload_n 2, 1) := by decide +kernel
theorem dX7_widens_8 : decode cX7_widens 8 = .ok (.invokestatic 59, 3) := by decide +kernel
theorem dX7_widens_11 : decode cX7_widens 11 = .ok (.ifCond .ne 10, 3) := by decide +kernel
theorem dX7_widens_21 : decode cX7_widens 21 = .ok (.aload_n 0, 1) := by decide +kernel
theorem dX7_widens_22 : decode cX7_widens 22 = .ok (.iload_n 1, 1) := by decide +kernel
theorem dX7_widens_23 : decode cX7_widens 23 = .ok (.iload_n 2, 1) := by decide +kernel
theorem dX7_widens_24 : decode cX7_widens 24 = .ok (.invokestatic 138, 3) := by decide +kernel
theorem zk_339 : Cond.methodLink RX7 138 yX1_reaches ∈ zz_w := zz_in (List.mem_append_right _ (List.mem_append_right _ (List.mem_append_left _ (List.mem_of_getElem? (i := 99) (by decide +kernel))))) rfl
set_option maxRecDepth 20000 in
theorem zk_341 : Cond.code yX1_reaches cX1_reaches 2 (some .boolean) ∈ zz_w := zz_in (List.mem_append_right _ (List.mem_append_right _ (List.mem_append_left _ (List.mem_of_getElem? (i := 101) (rfl))))) rfl
theorem zk_340 : Cond.static yX1_reaches ∈ zz_w := zz_in (List.mem_append_right _ (List.mem_append_right _ (List.mem_append_left _ (List.mem_of_getElem? (i := 100) (by decide +kernel))))) rfl
theorem zc_X7_138 : zz_cS RX7 138 yX1_reaches cX1_reaches 2 (some .boolean) 2 := ⟨⟨zk_339, zk_341, zk_8, by decide, by decide, by decide +kernel⟩, zk_340⟩
theorem dX7_widens_27 : decode cX7_widens 27 = .ok (.ifCond .eq 7, 3) := by decide +kernel
theorem dX7_widens_34 : decode cX7_widens 34 = .ok (.iconst 0, 1) := by decide +kernel
theorem dX7_widens_35 : decode cX7_widens 35 = .ok (.invokevirtual 100, 3) := by decide +kernel
theorem dX7_widens_38 : decode cX7_widens 38 = .ok (.ireturn, 1) := by decide +kernel
theorem dX7_widens_30 : decode cX7_widens 30 = .ok (.iconst 1, 1) := by decide +kernel
theorem dX7_widens_31 : decode cX7_widens 31 = .ok (.goto 4, 3) := by decide +kernel
def fn_cx_widens (x1 : Int32) (x2 : Int32) : Int32 := (if (fn_co_isKind x1) = 0 then -9 else (if (fn_co_isKind x2) = 0 then -9 else (if (fn_co_reaches x1 x2) = 0 then 0 else 1)))
abbrev rm_cx_widens : Room := { frames := 1, cells := 0, slots := 0, locals := 21 }
abbrev po_cx_widens (g : zz_G) (h0 : Nat) (st : Nat) (mk : Nat) (lk : Nat) (ch : Nat) (ru : Nat) (mr : Nat) (x1 : Int32) (x2 : Int32) : Int32 → va_W → Prop := fun (r : Int32) (u : va_W) => r = fn_cx_widens x1 x2
set_option maxHeartbeats 4000000 in
set_option maxRecDepth 100000 in
theorem cx_widens (g : zz_G) (h0 : Nat) (st : Nat) (mk : Nat) (lk : Nat) (ch : Nat) (ru : Nat) (mr : Nat) (x1 : Int32) (x2 : Int32) : zz_I g yX7_widens (.code yX7_widens cX7_widens 3 (some .int)) rm_cx_widens [.ref h0, .int x1, .int x2] [(h0, .inr (6, [.ref st, .ref mk, .ref lk, .ref ch, .ref ru, .ref mr, .int 0, .int 0]))] (po_cx_widens g h0 st mk lk ch ru mr x1 x2) := by
  refine zz_I.intro (own := RX7) (cc := cX7_widens) (nL := 3) (by decide) rfl (Nat.le_of_ble_eq_true rfl) ?_
  intro p l e s m args below meth c A H locs ls hC hnm hZ hl
  obtain ⟨hx, hb, hml, hown, hts, hr, hlocks, hK⟩ := id hC
  have hl : lv_has ls 3 [(0, .ref h0), (1, .int x1), (2, .int x2)] := hl
  have hZ : zz_Z g A s.heap [(h0, .inr (6, [.ref st, .ref mk, .ref lk, .ref ch, .ref ru, .ref mr, .int 0, .int 0]))] H locs := hZ
  refine lv_iload_n hx hb dX7_widens_0 rfl (lv_at hl 1 rfl) ?_
  refine zz_iS (As := [.int x1]) (wc := []) (wr := [(h0, .inr (6, [.ref st, .ref mk, .ref lk, .ref ch, .ref ru, .ref mr, .int 0, .int 0]))]) (rest := []) hC hZ hl zc_X7_59 (co_isKind g x1) [] [0] rfl rfl (by decide) rfl rfl (Nat.le_of_ble_eq_true rfl) ⟨⟨Nat.le_of_ble_eq_true rfl, Nat.le_of_ble_eq_true rfl⟩, Nat.le_of_ble_eq_true rfl, Nat.le_of_ble_eq_true rfl⟩ dX7_widens_1 (fun r1 u2 H locs hp hZ => ?_)
  obtain ⟨rfl, rfl⟩ := hp
  have hZ : zz_Z g A s.heap [(h0, .inr (6, [.ref st, .ref mk, .ref lk, .ref ch, .ref ru, .ref mr, .int 0, .int 0]))] H locs := hZ
  refine lv_if_eq (tgt := 14) hx hb dX7_widens_4 (by decide) (fun c3 => ?_) (fun c3 => ?_)
  · refine lv_aload_n hx hb dX7_widens_14 rfl (lv_at hl 0 rfl) ?_
    refine lv_bipush (v := 9) hx hb dX7_widens_15 (by decide) ?_
    refine zz_iV (As := [.int 9]) (wc := [(h0, .inr (6, [.ref st, .ref mk, .ref lk, .ref ch, .ref ru, .ref mr, .int 0, .int 0]))]) (wr := []) (rest := []) hC hZ hl zc_X7_65 (co_fail g h0 st mk lk ch ru mr 0 0 9) [0] [] rfl rfl (by decide) (ci := 6) (q0 := 0) rfl rfl rfl rfl (Nat.le_of_ble_eq_true rfl) ⟨⟨Nat.le_of_ble_eq_true rfl, Nat.le_of_ble_eq_true rfl⟩, Nat.le_of_ble_eq_true rfl, Nat.le_of_ble_eq_true rfl⟩ dX7_widens_17 (fun r4 u5 H locs hp hZ => ?_)
    obtain ⟨rfl, rfl⟩ := hp
    have hZ : zz_Z g A s.heap [(h0, .inr (6, [.ref st, .ref mk, .ref lk, .ref ch, .ref ru, .ref mr, .int 0, .int 9]))] H locs := hZ
    exact zz_iret hC hZ (by show _ = _; rw [fn_cx_widens, if_pos c3]) (Nat.le_of_ble_eq_true rfl) (Nat.le_of_ble_eq_true rfl) dX7_widens_20
  · refine lv_iload_n hx hb dX7_widens_7 rfl (lv_at hl 2 rfl) ?_
    refine zz_iS (As := [.int x2]) (wc := []) (wr := [(h0, .inr (6, [.ref st, .ref mk, .ref lk, .ref ch, .ref ru, .ref mr, .int 0, .int 0]))]) (rest := []) hC hZ hl zc_X7_59 (co_isKind g x2) [] [0] rfl rfl (by decide) rfl rfl (Nat.le_of_ble_eq_true rfl) ⟨⟨Nat.le_of_ble_eq_true rfl, Nat.le_of_ble_eq_true rfl⟩, Nat.le_of_ble_eq_true rfl, Nat.le_of_ble_eq_true rfl⟩ dX7_widens_8 (fun r6 u7 H locs hp hZ => ?_)
    obtain ⟨rfl, rfl⟩ := hp
    have hZ : zz_Z g A s.heap [(h0, .inr (6, [.ref st, .ref mk, .ref lk, .ref ch, .ref ru, .ref mr, .int 0, .int 0]))] H locs := hZ
    refine lv_if_ne (tgt := 21) hx hb dX7_widens_11 (by decide) (fun c8 => ?_) (fun c8 => ?_)
    · refine lv_aload_n hx hb dX7_widens_21 rfl (lv_at hl 0 rfl) ?_
      refine lv_iload_n hx hb dX7_widens_22 rfl (lv_at hl 1 rfl) ?_
      refine lv_iload_n hx hb dX7_widens_23 rfl (lv_at hl 2 rfl) ?_
      refine zz_iS (As := [.int x1, .int x2]) (wc := []) (wr := [(h0, .inr (6, [.ref st, .ref mk, .ref lk, .ref ch, .ref ru, .ref mr, .int 0, .int 0]))]) (rest := [.ref h0]) hC hZ hl zc_X7_138 (co_reaches g x1 x2) [] [0] rfl rfl (by decide) rfl rfl (Nat.le_of_ble_eq_true rfl) ⟨⟨Nat.le_of_ble_eq_true rfl, Nat.le_of_ble_eq_true rfl⟩, Nat.le_of_ble_eq_true rfl, Nat.le_of_ble_eq_true rfl⟩ dX7_widens_24 (fun r9 u10 H locs hp hZ => ?_)
      obtain ⟨rfl, rfl⟩ := hp
      have hZ : zz_Z g A s.heap [(h0, .inr (6, [.ref st, .ref mk, .ref lk, .ref ch, .ref ru, .ref mr, .int 0, .int 0]))] H locs := hZ
      refine lv_if_eq (tgt := 34) hx hb dX7_widens_27 (by decide) (fun c11 => ?_) (fun c11 => ?_)
      · refine lv_iconst (v := 0) hx hb dX7_widens_34 (by decide) ?_
        refine zz_iV (As := [.int 0]) (wc := [(h0, .inr (6, [.ref st, .ref mk, .ref lk, .ref ch, .ref ru, .ref mr, .int 0, .int 0]))]) (wr := []) (rest := []) hC hZ hl zc_X7_100 (co_fine g h0 st mk lk ch ru mr 0 0 0) [0] [] rfl rfl (by decide) (ci := 6) (q0 := 0) rfl rfl rfl rfl (Nat.le_of_ble_eq_true rfl) ⟨⟨Nat.le_of_ble_eq_true rfl, Nat.le_of_ble_eq_true rfl⟩, Nat.le_of_ble_eq_true rfl, Nat.le_of_ble_eq_true rfl⟩ dX7_widens_35 (fun r12 u13 H locs hp hZ => ?_)
        obtain ⟨rfl, rfl⟩ := hp
        have hZ : zz_Z g A s.heap [(h0, .inr (6, [.ref st, .ref mk, .ref lk, .ref ch, .ref ru, .ref mr, .int 0, .int 0]))] H locs := hZ
        exact zz_iret hC hZ (by show _ = _; rw [fn_cx_widens, if_neg c3, if_neg c8, if_pos c11]) (Nat.le_of_ble_eq_true rfl) (Nat.le_of_ble_eq_true rfl) dX7_widens_38
      · refine lv_iconst (v := 1) hx hb dX7_widens_30 (by decide) ?_
        refine lv_goto (tgt := 35) hx hb dX7_widens_31 (by decide) ?_
        refine zz_iV (As := [.int 1]) (wc := [(h0, .inr (6, [.ref st, .ref mk, .ref lk, .ref ch, .ref ru, .ref mr, .int 0, .int 0]))]) (wr := []) (rest := []) hC hZ hl zc_X7_100 (co_fine g h0 st mk lk ch ru mr 0 0 1) [0] [] rfl rfl (by decide) (ci := 6) (q0 := 0) rfl rfl rfl rfl (Nat.le_of_ble_eq_true rfl) ⟨⟨Nat.le_of_ble_eq_true rfl, Nat.le_of_ble_eq_true rfl⟩, Nat.le_of_ble_eq_true rfl, Nat.le_of_ble_eq_true rfl⟩ dX7_widens_35 (fun r14 u15 H locs hp hZ => ?_)
        obtain ⟨rfl, rfl⟩ := hp
        have hZ : zz_Z g A s.heap [(h0, .inr (6, [.ref st, .ref mk, .ref lk, .ref ch, .ref ru, .ref mr, .int 0, .int 0]))] H locs := hZ
        exact zz_iret hC hZ (by show _ = _; rw [fn_cx_widens, if_neg c3, if_neg c8, if_neg c11]) (Nat.le_of_ble_eq_true rfl) (Nat.le_of_ble_eq_true rfl) dX7_widens_38
    · refine lv_aload_n hx hb dX7_widens_14 rfl (lv_at hl 0 rfl) ?_
      refine lv_bipush (v := 9) hx hb dX7_widens_15 (by decide) ?_
      refine zz_iV (As := [.int 9]) (wc := [(h0, .inr (6, [.ref st, .ref mk, .ref lk, .ref ch, .ref ru, .ref mr, .int 0, .int 0]))]) (wr := []) (rest := []) hC hZ hl zc_X7_65 (co_fail g h0 st mk lk ch ru mr 0 0 9) [0] [] rfl rfl (by decide) (ci := 6) (q0 := 0) rfl rfl rfl rfl (Nat.le_of_ble_eq_true rfl) ⟨⟨Nat.le_of_ble_eq_true rfl, Nat.le_of_ble_eq_true rfl⟩, Nat.le_of_ble_eq_true rfl, Nat.le_of_ble_eq_true rfl⟩ dX7_widens_17 (fun r16 u17 H locs hp hZ => ?_)
      obtain ⟨rfl, rfl⟩ := hp
      have hZ : zz_Z g A s.heap [(h0, .inr (6, [.ref st, .ref mk, .ref lk, .ref ch, .ref ru, .ref mr, .int 0, .int 9]))] H locs := hZ
      exact zz_iret hC hZ (by show _ = _; rw [fn_cx_widens, if_neg c3, if_pos c8]) (Nat.le_of_ble_eq_true rfl) (Nat.le_of_ble_eq_true rfl) dX7_widens_20
theorem dX7_fill_0 : decode cX7_fill 0 = .ok (.aload_n 0, 1) := by decide +kernel
theorem dX7_fill_1 : decode cX7_fill 1 = .ok (.getfield 10, 3) := by decide +kernel
theorem dX7_fill_4 : decode cX7_fill 4 = .ok (.iload_n 1, 1) := by decide +kernel
theorem dX7_fill_5 : decode cX7_fill 5 = .ok (.invokevirtual 73, 3) := by decide +kernel
theorem dX7_fill_8 : decode cX7_fill 8 = .ok (.ifCond .ne 9, 3) := by decide +kernel
theorem dX7_fill_11 : decode cX7_fill 11 = .ok (.aload_n 0, 1) := by decide +kernel
theorem dX7_fill_12 : decode cX7_fill 12 = .ok (.iconst 5, 1) := by decide +kernel
theorem dX7_fill_13 : decode cX7_fill 13 = .ok (.invokevirtual 65, 3) := by decide +kernel
theorem dX7_fill_16 : decode cX7_fill 16 = .ok (.ireturn, 1) := by decide +kernel
def fn_cx_fill  : Int32 := -5
abbrev rm_cx_fill : Room := { frames := 1, cells := 0, slots := 0, locals := 21 }
abbrev po_cx_fill (g : zz_G) (h0 : Nat) (st : Nat) (mk : Nat) (lk : Nat) (ch : Nat) (ru : Nat) (mr : Nat) (kd : Nat) (dp : Nat) (cl : Nat) (sa : Nat) (ln : Nat) (bt : Nat) (pn : Nat) (bf : Nat) (x1 : Int32) (x2 : Int32) (x3 : Int32) (x4 : Int32) (x5 : Int64) : Int32 → va_W → Prop := fun (r : Int32) (u : va_W) => r = fn_cx_fill
set_option maxHeartbeats 4000000 in
set_option maxRecDepth 100000 in
theorem cx_fill (g : zz_G) (h0 : Nat) (st : Nat) (mk : Nat) (lk : Nat) (ch : Nat) (ru : Nat) (mr : Nat) (kd : Nat) (dp : Nat) (cl : Nat) (sa : Nat) (ln : Nat) (bt : Nat) (pn : Nat) (bf : Nat) (x1 : Int32) (x2 : Int32) (x3 : Int32) (x4 : Int32) (x5 : Int64) : zz_I g yX7_fill (.code yX7_fill cX7_fill 12 (some .int)) rm_cx_fill [.ref h0, .int x1, .int x2, .int x3, .int x4, .long x5] [(h0, .inr (6, [.ref st, .ref mk, .ref lk, .ref ch, .ref ru, .ref mr, .int 0, .int 0])), (st, .inr (5, [.int 0, .int 0, .ref kd, .ref dp, .ref cl, .ref sa, .ref ln, .ref bt, .ref pn, .ref bf]))] (po_cx_fill g h0 st mk lk ch ru mr kd dp cl sa ln bt pn bf x1 x2 x3 x4 x5) := by
  refine zz_I.intro (own := RX7) (cc := cX7_fill) (nL := 12) (by decide) rfl (Nat.le_of_ble_eq_true rfl) ?_
  intro p l e s m args below meth c A H locs ls hC hnm hZ hl
  obtain ⟨hx, hb, hml, hown, hts, hr, hlocks, hK⟩ := id hC
  have hl : lv_has ls 12 [(0, .ref h0), (1, .int x1), (2, .int x2), (3, .int x3), (4, .int x4), (5, .long x5)] := hl
  have hZ : zz_Z g A s.heap [(h0, .inr (6, [.ref st, .ref mk, .ref lk, .ref ch, .ref ru, .ref mr, .int 0, .int 0])), (st, .inr (5, [.int 0, .int 0, .ref kd, .ref dp, .ref cl, .ref sa, .ref ln, .ref bt, .ref pn, .ref bf]))] H locs := hZ
  refine lv_aload_n hx hb dX7_fill_0 rfl (lv_at hl 0 rfl) ?_
  refine zz_get hC hZ 0 rfl zf_X7_10 rfl dX7_fill_1 ?_
  refine lv_iload_n hx hb dX7_fill_4 rfl (lv_at hl 1 rfl) ?_
  refine zz_iV (As := [.int x1]) (wc := [(st, .inr (5, [.int 0, .int 0, .ref kd, .ref dp, .ref cl, .ref sa, .ref ln, .ref bt, .ref pn, .ref bf]))]) (wr := [(h0, .inr (6, [.ref st, .ref mk, .ref lk, .ref ch, .ref ru, .ref mr, .int 0, .int 0]))]) (rest := []) hC hZ hl zc_X7_73 (co_has0 g st kd dp cl sa ln bt pn bf x1) [1] [0] rfl rfl (by decide) (ci := 5) (q0 := 0) rfl rfl rfl rfl (Nat.le_of_ble_eq_true rfl) ⟨⟨Nat.le_of_ble_eq_true rfl, Nat.le_of_ble_eq_true rfl⟩, Nat.le_of_ble_eq_true rfl, Nat.le_of_ble_eq_true rfl⟩ dX7_fill_5 (fun r1 u2 H locs hp hZ => ?_)
  obtain ⟨rfl, rfl⟩ := hp
  have hZ : zz_Z g A s.heap [(h0, .inr (6, [.ref st, .ref mk, .ref lk, .ref ch, .ref ru, .ref mr, .int 0, .int 0])), (st, .inr (5, [.int 0, .int 0, .ref kd, .ref dp, .ref cl, .ref sa, .ref ln, .ref bt, .ref pn, .ref bf]))] H locs := hZ
  refine lv_if_ne (tgt := 17) hx hb dX7_fill_8 (by decide) (fun c => absurd (by decide) c) (fun c3 => ?_)
  refine lv_aload_n hx hb dX7_fill_11 rfl (lv_at hl 0 rfl) ?_
  refine lv_iconst (v := 5) hx hb dX7_fill_12 (by decide) ?_
  refine zz_iV (As := [.int 5]) (wc := [(h0, .inr (6, [.ref st, .ref mk, .ref lk, .ref ch, .ref ru, .ref mr, .int 0, .int 0]))]) (wr := [(st, .inr (5, [.int 0, .int 0, .ref kd, .ref dp, .ref cl, .ref sa, .ref ln, .ref bt, .ref pn, .ref bf]))]) (rest := []) hC hZ hl zc_X7_65 (co_fail g h0 st mk lk ch ru mr 0 0 5) [0] [1] rfl rfl (by decide) (ci := 6) (q0 := 0) rfl rfl rfl rfl (Nat.le_of_ble_eq_true rfl) ⟨⟨Nat.le_of_ble_eq_true rfl, Nat.le_of_ble_eq_true rfl⟩, Nat.le_of_ble_eq_true rfl, Nat.le_of_ble_eq_true rfl⟩ dX7_fill_13 (fun r4 u5 H locs hp hZ => ?_)
  obtain ⟨rfl, rfl⟩ := hp
  have hZ : zz_Z g A s.heap [(st, .inr (5, [.int 0, .int 0, .ref kd, .ref dp, .ref cl, .ref sa, .ref ln, .ref bt, .ref pn, .ref bf])), (h0, .inr (6, [.ref st, .ref mk, .ref lk, .ref ch, .ref ru, .ref mr, .int 0, .int 5]))] H locs := hZ
  exact zz_iret hC hZ (rfl) (Nat.le_of_ble_eq_true rfl) (Nat.le_of_ble_eq_true rfl) dX7_fill_16
theorem dX7_move_0 : decode cX7_move 0 = .ok (.aload_n 0, 1) := by decide +kernel
theorem dX7_move_1 : decode cX7_move 1 = .ok (.getfield 10, 3) := by decide +kernel
theorem dX7_move_4 : decode cX7_move 4 = .ok (.iload_n 1, 1) := by decide +kernel
theorem dX7_move_5 : decode cX7_move 5 = .ok (.invokevirtual 73, 3) := by decide +kernel
theorem dX7_move_8 : decode cX7_move 8 = .ok (.ifCond .eq 14, 3) := by decide +kernel
theorem dX7_move_22 : decode cX7_move 22 = .ok (.aload_n 0, 1) := by decide +kernel
theorem dX7_move_23 : decode cX7_move 23 = .ok (.iconst 5, 1) := by decide +kernel
theorem dX7_move_24 : decode cX7_move 24 = .ok (.invokevirtual 65, 3) := by decide +kernel
theorem dX7_move_27 : decode cX7_move 27 = .ok (.ireturn, 1) := by decide +kernel
def fn_cx_move  : Int32 := -5
abbrev rm_cx_move : Room := { frames := 1, cells := 0, slots := 0, locals := 21 }
abbrev po_cx_move (g : zz_G) (h0 : Nat) (st : Nat) (mk : Nat) (lk : Nat) (ch : Nat) (ru : Nat) (mr : Nat) (kd : Nat) (dp : Nat) (cl : Nat) (sa : Nat) (ln : Nat) (bt : Nat) (pn : Nat) (bf : Nat) (x1 : Int32) (x2 : Int32) (x3 : Int32) (x4 : Int32) (x5 : Int32) : Int32 → va_W → Prop := fun (r : Int32) (u : va_W) => r = fn_cx_move
set_option maxHeartbeats 4000000 in
set_option maxRecDepth 100000 in
theorem cx_move (g : zz_G) (h0 : Nat) (st : Nat) (mk : Nat) (lk : Nat) (ch : Nat) (ru : Nat) (mr : Nat) (kd : Nat) (dp : Nat) (cl : Nat) (sa : Nat) (ln : Nat) (bt : Nat) (pn : Nat) (bf : Nat) (x1 : Int32) (x2 : Int32) (x3 : Int32) (x4 : Int32) (x5 : Int32) : zz_I g yX7_move (.code yX7_move cX7_move 7 (some .int)) rm_cx_move [.ref h0, .int x1, .int x2, .int x3, .int x4, .int x5] [(h0, .inr (6, [.ref st, .ref mk, .ref lk, .ref ch, .ref ru, .ref mr, .int 0, .int 0])), (st, .inr (5, [.int 0, .int 0, .ref kd, .ref dp, .ref cl, .ref sa, .ref ln, .ref bt, .ref pn, .ref bf]))] (po_cx_move g h0 st mk lk ch ru mr kd dp cl sa ln bt pn bf x1 x2 x3 x4 x5) := by
  refine zz_I.intro (own := RX7) (cc := cX7_move) (nL := 7) (by decide) rfl (Nat.le_of_ble_eq_true rfl) ?_
  intro p l e s m args below meth c A H locs ls hC hnm hZ hl
  obtain ⟨hx, hb, hml, hown, hts, hr, hlocks, hK⟩ := id hC
  have hl : lv_has ls 7 [(0, .ref h0), (1, .int x1), (2, .int x2), (3, .int x3), (4, .int x4), (5, .int x5)] := hl
  have hZ : zz_Z g A s.heap [(h0, .inr (6, [.ref st, .ref mk, .ref lk, .ref ch, .ref ru, .ref mr, .int 0, .int 0])), (st, .inr (5, [.int 0, .int 0, .ref kd, .ref dp, .ref cl, .ref sa, .ref ln, .ref bt, .ref pn, .ref bf]))] H locs := hZ
  refine lv_aload_n hx hb dX7_move_0 rfl (lv_at hl 0 rfl) ?_
  refine zz_get hC hZ 0 rfl zf_X7_10 rfl dX7_move_1 ?_
  refine lv_iload_n hx hb dX7_move_4 rfl (lv_at hl 1 rfl) ?_
  refine zz_iV (As := [.int x1]) (wc := [(st, .inr (5, [.int 0, .int 0, .ref kd, .ref dp, .ref cl, .ref sa, .ref ln, .ref bt, .ref pn, .ref bf]))]) (wr := [(h0, .inr (6, [.ref st, .ref mk, .ref lk, .ref ch, .ref ru, .ref mr, .int 0, .int 0]))]) (rest := []) hC hZ hl zc_X7_73 (co_has0 g st kd dp cl sa ln bt pn bf x1) [1] [0] rfl rfl (by decide) (ci := 5) (q0 := 0) rfl rfl rfl rfl (Nat.le_of_ble_eq_true rfl) ⟨⟨Nat.le_of_ble_eq_true rfl, Nat.le_of_ble_eq_true rfl⟩, Nat.le_of_ble_eq_true rfl, Nat.le_of_ble_eq_true rfl⟩ dX7_move_5 (fun r1 u2 H locs hp hZ => ?_)
  obtain ⟨rfl, rfl⟩ := hp
  have hZ : zz_Z g A s.heap [(h0, .inr (6, [.ref st, .ref mk, .ref lk, .ref ch, .ref ru, .ref mr, .int 0, .int 0])), (st, .inr (5, [.int 0, .int 0, .ref kd, .ref dp, .ref cl, .ref sa, .ref ln, .ref bt, .ref pn, .ref bf]))] H locs := hZ
  refine lv_if_eq (tgt := 22) hx hb dX7_move_8 (by decide) (fun c3 => ?_) (fun c => absurd (by decide) c)
  refine lv_aload_n hx hb dX7_move_22 rfl (lv_at hl 0 rfl) ?_
  refine lv_iconst (v := 5) hx hb dX7_move_23 (by decide) ?_
  refine zz_iV (As := [.int 5]) (wc := [(h0, .inr (6, [.ref st, .ref mk, .ref lk, .ref ch, .ref ru, .ref mr, .int 0, .int 0]))]) (wr := [(st, .inr (5, [.int 0, .int 0, .ref kd, .ref dp, .ref cl, .ref sa, .ref ln, .ref bt, .ref pn, .ref bf]))]) (rest := []) hC hZ hl zc_X7_65 (co_fail g h0 st mk lk ch ru mr 0 0 5) [0] [1] rfl rfl (by decide) (ci := 6) (q0 := 0) rfl rfl rfl rfl (Nat.le_of_ble_eq_true rfl) ⟨⟨Nat.le_of_ble_eq_true rfl, Nat.le_of_ble_eq_true rfl⟩, Nat.le_of_ble_eq_true rfl, Nat.le_of_ble_eq_true rfl⟩ dX7_move_24 (fun r4 u5 H locs hp hZ => ?_)
  obtain ⟨rfl, rfl⟩ := hp
  have hZ : zz_Z g A s.heap [(st, .inr (5, [.int 0, .int 0, .ref kd, .ref dp, .ref cl, .ref sa, .ref ln, .ref bt, .ref pn, .ref bf])), (h0, .inr (6, [.ref st, .ref mk, .ref lk, .ref ch, .ref ru, .ref mr, .int 0, .int 5]))] H locs := hZ
  exact zz_iret hC hZ (rfl) (Nat.le_of_ble_eq_true rfl) (Nat.le_of_ble_eq_true rfl) dX7_move_27
theorem dX7_copy_0 : decode cX7_copy 0 = .ok (.aload_n 0, 1) := by decide +kernel
theorem dX7_copy_1 : decode cX7_copy 1 = .ok (.getfield 10, 3) := by decide +kernel
theorem dX7_copy_4 : decode cX7_copy 4 = .ok (.iload_n 1, 1) := by decide +kernel
theorem dX7_copy_5 : decode cX7_copy 5 = .ok (.invokevirtual 73, 3) := by decide +kernel
theorem dX7_copy_8 : decode cX7_copy 8 = .ok (.ifCond .ne 9, 3) := by decide +kernel
theorem dX7_copy_11 : decode cX7_copy 11 = .ok (.aload_n 0, 1) := by decide +kernel
theorem dX7_copy_12 : decode cX7_copy 12 = .ok (.iconst 5, 1) := by decide +kernel
theorem dX7_copy_13 : decode cX7_copy 13 = .ok (.invokevirtual 65, 3) := by decide +kernel
theorem dX7_copy_16 : decode cX7_copy 16 = .ok (.ireturn, 1) := by decide +kernel
def fn_cx_copy  : Int32 := -5
abbrev rm_cx_copy : Room := { frames := 1, cells := 0, slots := 0, locals := 21 }
abbrev po_cx_copy (g : zz_G) (h0 : Nat) (st : Nat) (mk : Nat) (lk : Nat) (ch : Nat) (ru : Nat) (mr : Nat) (kd : Nat) (dp : Nat) (cl : Nat) (sa : Nat) (ln : Nat) (bt : Nat) (pn : Nat) (bf : Nat) (x1 : Int32) (x2 : Int32) : Int32 → va_W → Prop := fun (r : Int32) (u : va_W) => r = fn_cx_copy
set_option maxHeartbeats 4000000 in
set_option maxRecDepth 100000 in
theorem cx_copy (g : zz_G) (h0 : Nat) (st : Nat) (mk : Nat) (lk : Nat) (ch : Nat) (ru : Nat) (mr : Nat) (kd : Nat) (dp : Nat) (cl : Nat) (sa : Nat) (ln : Nat) (bt : Nat) (pn : Nat) (bf : Nat) (x1 : Int32) (x2 : Int32) : zz_I g yX7_copy (.code yX7_copy cX7_copy 5 (some .int)) rm_cx_copy [.ref h0, .int x1, .int x2] [(h0, .inr (6, [.ref st, .ref mk, .ref lk, .ref ch, .ref ru, .ref mr, .int 0, .int 0])), (st, .inr (5, [.int 0, .int 0, .ref kd, .ref dp, .ref cl, .ref sa, .ref ln, .ref bt, .ref pn, .ref bf]))] (po_cx_copy g h0 st mk lk ch ru mr kd dp cl sa ln bt pn bf x1 x2) := by
  refine zz_I.intro (own := RX7) (cc := cX7_copy) (nL := 5) (by decide) rfl (Nat.le_of_ble_eq_true rfl) ?_
  intro p l e s m args below meth c A H locs ls hC hnm hZ hl
  obtain ⟨hx, hb, hml, hown, hts, hr, hlocks, hK⟩ := id hC
  have hl : lv_has ls 5 [(0, .ref h0), (1, .int x1), (2, .int x2)] := hl
  have hZ : zz_Z g A s.heap [(h0, .inr (6, [.ref st, .ref mk, .ref lk, .ref ch, .ref ru, .ref mr, .int 0, .int 0])), (st, .inr (5, [.int 0, .int 0, .ref kd, .ref dp, .ref cl, .ref sa, .ref ln, .ref bt, .ref pn, .ref bf]))] H locs := hZ
  refine lv_aload_n hx hb dX7_copy_0 rfl (lv_at hl 0 rfl) ?_
  refine zz_get hC hZ 0 rfl zf_X7_10 rfl dX7_copy_1 ?_
  refine lv_iload_n hx hb dX7_copy_4 rfl (lv_at hl 1 rfl) ?_
  refine zz_iV (As := [.int x1]) (wc := [(st, .inr (5, [.int 0, .int 0, .ref kd, .ref dp, .ref cl, .ref sa, .ref ln, .ref bt, .ref pn, .ref bf]))]) (wr := [(h0, .inr (6, [.ref st, .ref mk, .ref lk, .ref ch, .ref ru, .ref mr, .int 0, .int 0]))]) (rest := []) hC hZ hl zc_X7_73 (co_has0 g st kd dp cl sa ln bt pn bf x1) [1] [0] rfl rfl (by decide) (ci := 5) (q0 := 0) rfl rfl rfl rfl (Nat.le_of_ble_eq_true rfl) ⟨⟨Nat.le_of_ble_eq_true rfl, Nat.le_of_ble_eq_true rfl⟩, Nat.le_of_ble_eq_true rfl, Nat.le_of_ble_eq_true rfl⟩ dX7_copy_5 (fun r1 u2 H locs hp hZ => ?_)
  obtain ⟨rfl, rfl⟩ := hp
  have hZ : zz_Z g A s.heap [(h0, .inr (6, [.ref st, .ref mk, .ref lk, .ref ch, .ref ru, .ref mr, .int 0, .int 0])), (st, .inr (5, [.int 0, .int 0, .ref kd, .ref dp, .ref cl, .ref sa, .ref ln, .ref bt, .ref pn, .ref bf]))] H locs := hZ
  refine lv_if_ne (tgt := 17) hx hb dX7_copy_8 (by decide) (fun c => absurd (by decide) c) (fun c3 => ?_)
  refine lv_aload_n hx hb dX7_copy_11 rfl (lv_at hl 0 rfl) ?_
  refine lv_iconst (v := 5) hx hb dX7_copy_12 (by decide) ?_
  refine zz_iV (As := [.int 5]) (wc := [(h0, .inr (6, [.ref st, .ref mk, .ref lk, .ref ch, .ref ru, .ref mr, .int 0, .int 0]))]) (wr := [(st, .inr (5, [.int 0, .int 0, .ref kd, .ref dp, .ref cl, .ref sa, .ref ln, .ref bt, .ref pn, .ref bf]))]) (rest := []) hC hZ hl zc_X7_65 (co_fail g h0 st mk lk ch ru mr 0 0 5) [0] [1] rfl rfl (by decide) (ci := 6) (q0 := 0) rfl rfl rfl rfl (Nat.le_of_ble_eq_true rfl) ⟨⟨Nat.le_of_ble_eq_true rfl, Nat.le_of_ble_eq_true rfl⟩, Nat.le_of_ble_eq_true rfl, Nat.le_of_ble_eq_true rfl⟩ dX7_copy_13 (fun r4 u5 H locs hp hZ => ?_)
  obtain ⟨rfl, rfl⟩ := hp
  have hZ : zz_Z g A s.heap [(st, .inr (5, [.int 0, .int 0, .ref kd, .ref dp, .ref cl, .ref sa, .ref ln, .ref bt, .ref pn, .ref bf])), (h0, .inr (6, [.ref st, .ref mk, .ref lk, .ref ch, .ref ru, .ref mr, .int 0, .int 5]))] H locs := hZ
  exact zz_iret hC hZ (rfl) (Nat.le_of_ble_eq_true rfl) (Nat.le_of_ble_eq_true rfl) dX7_copy_16
theorem dX7_deep_0 : decode cX7_deep 0 = .ok (.aload_n 0, 1) := by decide +kernel
theorem dX7_deep_1 : decode cX7_deep 1 = .ok (.getfield 10, 3) := by decide +kernel
theorem dX7_deep_4 : decode cX7_deep 4 = .ok (.iload_n 1, 1) := by decide +kernel
theorem dX7_deep_5 : decode cX7_deep 5 = .ok (.invokevirtual 73, 3) := by decide +kernel
theorem dX7_deep_8 : decode cX7_deep 8 = .ok (.ifCond .ne 9, 3) := by decide +kernel
theorem dX7_deep_11 : decode cX7_deep 11 = .ok (.aload_n 0, 1) := by decide +kernel
theorem dX7_deep_12 : decode cX7_deep 12 = .ok (.iconst 5, 1) := by decide +kernel
theorem dX7_deep_13 : decode cX7_deep 13 = .ok (.invokevirtual 65, 3) := by decide +kernel
theorem dX7_deep_16 : decode cX7_deep 16 = .ok (.ireturn, 1) := by decide +kernel
def fn_cx_deep  : Int32 := -5
abbrev rm_cx_deep : Room := { frames := 1, cells := 0, slots := 0, locals := 21 }
abbrev po_cx_deep (g : zz_G) (h0 : Nat) (st : Nat) (mk : Nat) (lk : Nat) (ch : Nat) (ru : Nat) (mr : Nat) (kd : Nat) (dp : Nat) (cl : Nat) (sa : Nat) (ln : Nat) (bt : Nat) (pn : Nat) (bf : Nat) (x1 : Int32) : Int32 → va_W → Prop := fun (r : Int32) (u : va_W) => r = fn_cx_deep
set_option maxHeartbeats 4000000 in
set_option maxRecDepth 100000 in
theorem cx_deep (g : zz_G) (h0 : Nat) (st : Nat) (mk : Nat) (lk : Nat) (ch : Nat) (ru : Nat) (mr : Nat) (kd : Nat) (dp : Nat) (cl : Nat) (sa : Nat) (ln : Nat) (bt : Nat) (pn : Nat) (bf : Nat) (x1 : Int32) : zz_I g yX7_deep (.code yX7_deep cX7_deep 2 (some .int)) rm_cx_deep [.ref h0, .int x1] [(h0, .inr (6, [.ref st, .ref mk, .ref lk, .ref ch, .ref ru, .ref mr, .int 0, .int 0])), (st, .inr (5, [.int 0, .int 0, .ref kd, .ref dp, .ref cl, .ref sa, .ref ln, .ref bt, .ref pn, .ref bf]))] (po_cx_deep g h0 st mk lk ch ru mr kd dp cl sa ln bt pn bf x1) := by
  refine zz_I.intro (own := RX7) (cc := cX7_deep) (nL := 2) (by decide) rfl (Nat.le_of_ble_eq_true rfl) ?_
  intro p l e s m args below meth c A H locs ls hC hnm hZ hl
  obtain ⟨hx, hb, hml, hown, hts, hr, hlocks, hK⟩ := id hC
  have hl : lv_has ls 2 [(0, .ref h0), (1, .int x1)] := hl
  have hZ : zz_Z g A s.heap [(h0, .inr (6, [.ref st, .ref mk, .ref lk, .ref ch, .ref ru, .ref mr, .int 0, .int 0])), (st, .inr (5, [.int 0, .int 0, .ref kd, .ref dp, .ref cl, .ref sa, .ref ln, .ref bt, .ref pn, .ref bf]))] H locs := hZ
  refine lv_aload_n hx hb dX7_deep_0 rfl (lv_at hl 0 rfl) ?_
  refine zz_get hC hZ 0 rfl zf_X7_10 rfl dX7_deep_1 ?_
  refine lv_iload_n hx hb dX7_deep_4 rfl (lv_at hl 1 rfl) ?_
  refine zz_iV (As := [.int x1]) (wc := [(st, .inr (5, [.int 0, .int 0, .ref kd, .ref dp, .ref cl, .ref sa, .ref ln, .ref bt, .ref pn, .ref bf]))]) (wr := [(h0, .inr (6, [.ref st, .ref mk, .ref lk, .ref ch, .ref ru, .ref mr, .int 0, .int 0]))]) (rest := []) hC hZ hl zc_X7_73 (co_has0 g st kd dp cl sa ln bt pn bf x1) [1] [0] rfl rfl (by decide) (ci := 5) (q0 := 0) rfl rfl rfl rfl (Nat.le_of_ble_eq_true rfl) ⟨⟨Nat.le_of_ble_eq_true rfl, Nat.le_of_ble_eq_true rfl⟩, Nat.le_of_ble_eq_true rfl, Nat.le_of_ble_eq_true rfl⟩ dX7_deep_5 (fun r1 u2 H locs hp hZ => ?_)
  obtain ⟨rfl, rfl⟩ := hp
  have hZ : zz_Z g A s.heap [(h0, .inr (6, [.ref st, .ref mk, .ref lk, .ref ch, .ref ru, .ref mr, .int 0, .int 0])), (st, .inr (5, [.int 0, .int 0, .ref kd, .ref dp, .ref cl, .ref sa, .ref ln, .ref bt, .ref pn, .ref bf]))] H locs := hZ
  refine lv_if_ne (tgt := 17) hx hb dX7_deep_8 (by decide) (fun c => absurd (by decide) c) (fun c3 => ?_)
  refine lv_aload_n hx hb dX7_deep_11 rfl (lv_at hl 0 rfl) ?_
  refine lv_iconst (v := 5) hx hb dX7_deep_12 (by decide) ?_
  refine zz_iV (As := [.int 5]) (wc := [(h0, .inr (6, [.ref st, .ref mk, .ref lk, .ref ch, .ref ru, .ref mr, .int 0, .int 0]))]) (wr := [(st, .inr (5, [.int 0, .int 0, .ref kd, .ref dp, .ref cl, .ref sa, .ref ln, .ref bt, .ref pn, .ref bf]))]) (rest := []) hC hZ hl zc_X7_65 (co_fail g h0 st mk lk ch ru mr 0 0 5) [0] [1] rfl rfl (by decide) (ci := 6) (q0 := 0) rfl rfl rfl rfl (Nat.le_of_ble_eq_true rfl) ⟨⟨Nat.le_of_ble_eq_true rfl, Nat.le_of_ble_eq_true rfl⟩, Nat.le_of_ble_eq_true rfl, Nat.le_of_ble_eq_true rfl⟩ dX7_deep_13 (fun r4 u5 H locs hp hZ => ?_)
  obtain ⟨rfl, rfl⟩ := hp
  have hZ : zz_Z g A s.heap [(st, .inr (5, [.int 0, .int 0, .ref kd, .ref dp, .ref cl, .ref sa, .ref ln, .ref bt, .ref pn, .ref bf])), (h0, .inr (6, [.ref st, .ref mk, .ref lk, .ref ch, .ref ru, .ref mr, .int 0, .int 5]))] H locs := hZ
  exact zz_iret hC hZ (rfl) (Nat.le_of_ble_eq_true rfl) (Nat.le_of_ble_eq_true rfl) dX7_deep_16
theorem dX7_sort_0 : decode cX7_sort 0 = .ok (.aload_n 0, 1) := by decide +kernel
theorem dX7_sort_1 : decode cX7_sort 1 = .ok (.getfield 10, 3) := by decide +kernel
theorem dX7_sort_4 : decode cX7_sort 4 = .ok (.iload_n 1, 1) := by decide +kernel
theorem dX7_sort_5 : decode cX7_sort 5 = .ok (.invokevirtual 73, 3) := by decide +kernel
theorem dX7_sort_8 : decode cX7_sort 8 = .ok (.ifCond .ne 9, 3) := by decide +kernel
theorem dX7_sort_11 : decode cX7_sort 11 = .ok (.aload_n 0, 1) := by decide +kernel
theorem dX7_sort_12 : decode cX7_sort 12 = .ok (.iconst 5, 1) := by decide +kernel
theorem dX7_sort_13 : decode cX7_sort 13 = .ok (.invokevirtual 65, 3) := by decide +kernel
theorem dX7_sort_16 : decode cX7_sort 16 = .ok (.ireturn, 1) := by decide +kernel
def fn_cx_sort  : Int32 := -5
abbrev rm_cx_sort : Room := { frames := 1, cells := 0, slots := 0, locals := 21 }
abbrev po_cx_sort (g : zz_G) (h0 : Nat) (st : Nat) (mk : Nat) (lk : Nat) (ch : Nat) (ru : Nat) (mr : Nat) (kd : Nat) (dp : Nat) (cl : Nat) (sa : Nat) (ln : Nat) (bt : Nat) (pn : Nat) (bf : Nat) (x1 : Int32) (x2 : Int32) (x3 : Int32) : Int32 → va_W → Prop := fun (r : Int32) (u : va_W) => r = fn_cx_sort
set_option maxHeartbeats 4000000 in
set_option maxRecDepth 100000 in
theorem cx_sort (g : zz_G) (h0 : Nat) (st : Nat) (mk : Nat) (lk : Nat) (ch : Nat) (ru : Nat) (mr : Nat) (kd : Nat) (dp : Nat) (cl : Nat) (sa : Nat) (ln : Nat) (bt : Nat) (pn : Nat) (bf : Nat) (x1 : Int32) (x2 : Int32) (x3 : Int32) : zz_I g yX7_sort (.code yX7_sort cX7_sort 4 (some .int)) rm_cx_sort [.ref h0, .int x1, .int x2, .int x3] [(h0, .inr (6, [.ref st, .ref mk, .ref lk, .ref ch, .ref ru, .ref mr, .int 0, .int 0])), (st, .inr (5, [.int 0, .int 0, .ref kd, .ref dp, .ref cl, .ref sa, .ref ln, .ref bt, .ref pn, .ref bf]))] (po_cx_sort g h0 st mk lk ch ru mr kd dp cl sa ln bt pn bf x1 x2 x3) := by
  refine zz_I.intro (own := RX7) (cc := cX7_sort) (nL := 4) (by decide) rfl (Nat.le_of_ble_eq_true rfl) ?_
  intro p l e s m args below meth c A H locs ls hC hnm hZ hl
  obtain ⟨hx, hb, hml, hown, hts, hr, hlocks, hK⟩ := id hC
  have hl : lv_has ls 4 [(0, .ref h0), (1, .int x1), (2, .int x2), (3, .int x3)] := hl
  have hZ : zz_Z g A s.heap [(h0, .inr (6, [.ref st, .ref mk, .ref lk, .ref ch, .ref ru, .ref mr, .int 0, .int 0])), (st, .inr (5, [.int 0, .int 0, .ref kd, .ref dp, .ref cl, .ref sa, .ref ln, .ref bt, .ref pn, .ref bf]))] H locs := hZ
  refine lv_aload_n hx hb dX7_sort_0 rfl (lv_at hl 0 rfl) ?_
  refine zz_get hC hZ 0 rfl zf_X7_10 rfl dX7_sort_1 ?_
  refine lv_iload_n hx hb dX7_sort_4 rfl (lv_at hl 1 rfl) ?_
  refine zz_iV (As := [.int x1]) (wc := [(st, .inr (5, [.int 0, .int 0, .ref kd, .ref dp, .ref cl, .ref sa, .ref ln, .ref bt, .ref pn, .ref bf]))]) (wr := [(h0, .inr (6, [.ref st, .ref mk, .ref lk, .ref ch, .ref ru, .ref mr, .int 0, .int 0]))]) (rest := []) hC hZ hl zc_X7_73 (co_has0 g st kd dp cl sa ln bt pn bf x1) [1] [0] rfl rfl (by decide) (ci := 5) (q0 := 0) rfl rfl rfl rfl (Nat.le_of_ble_eq_true rfl) ⟨⟨Nat.le_of_ble_eq_true rfl, Nat.le_of_ble_eq_true rfl⟩, Nat.le_of_ble_eq_true rfl, Nat.le_of_ble_eq_true rfl⟩ dX7_sort_5 (fun r1 u2 H locs hp hZ => ?_)
  obtain ⟨rfl, rfl⟩ := hp
  have hZ : zz_Z g A s.heap [(h0, .inr (6, [.ref st, .ref mk, .ref lk, .ref ch, .ref ru, .ref mr, .int 0, .int 0])), (st, .inr (5, [.int 0, .int 0, .ref kd, .ref dp, .ref cl, .ref sa, .ref ln, .ref bt, .ref pn, .ref bf]))] H locs := hZ
  refine lv_if_ne (tgt := 17) hx hb dX7_sort_8 (by decide) (fun c => absurd (by decide) c) (fun c3 => ?_)
  refine lv_aload_n hx hb dX7_sort_11 rfl (lv_at hl 0 rfl) ?_
  refine lv_iconst (v := 5) hx hb dX7_sort_12 (by decide) ?_
  refine zz_iV (As := [.int 5]) (wc := [(h0, .inr (6, [.ref st, .ref mk, .ref lk, .ref ch, .ref ru, .ref mr, .int 0, .int 0]))]) (wr := [(st, .inr (5, [.int 0, .int 0, .ref kd, .ref dp, .ref cl, .ref sa, .ref ln, .ref bt, .ref pn, .ref bf]))]) (rest := []) hC hZ hl zc_X7_65 (co_fail g h0 st mk lk ch ru mr 0 0 5) [0] [1] rfl rfl (by decide) (ci := 6) (q0 := 0) rfl rfl rfl rfl (Nat.le_of_ble_eq_true rfl) ⟨⟨Nat.le_of_ble_eq_true rfl, Nat.le_of_ble_eq_true rfl⟩, Nat.le_of_ble_eq_true rfl, Nat.le_of_ble_eq_true rfl⟩ dX7_sort_13 (fun r4 u5 H locs hp hZ => ?_)
  obtain ⟨rfl, rfl⟩ := hp
  have hZ : zz_Z g A s.heap [(st, .inr (5, [.int 0, .int 0, .ref kd, .ref dp, .ref cl, .ref sa, .ref ln, .ref bt, .ref pn, .ref bf])), (h0, .inr (6, [.ref st, .ref mk, .ref lk, .ref ch, .ref ru, .ref mr, .int 0, .int 5]))] H locs := hZ
  exact zz_iret hC hZ (rfl) (Nat.le_of_ble_eq_true rfl) (Nat.le_of_ble_eq_true rfl) dX7_sort_16
theorem dX7_search_0 : decode cX7_search 0 = .ok (.aload_n 0, 1) := by decide +kernel
theorem dX7_search_1 : decode cX7_search 1 = .ok (.getfield 10, 3) := by decide +kernel
theorem dX7_search_4 : decode cX7_search 4 = .ok (.iload_n 1, 1) := by decide +kernel
theorem dX7_search_5 : decode cX7_search 5 = .ok (.invokevirtual 73, 3) := by decide +kernel
theorem dX7_search_8 : decode cX7_search 8 = .ok (.ifCond .ne 9, 3) := by decide +kernel
theorem dX7_search_11 : decode cX7_search 11 = .ok (.aload_n 0, 1) := by decide +kernel
theorem dX7_search_12 : decode cX7_search 12 = .ok (.iconst 5, 1) := by decide +kernel
theorem dX7_search_13 : decode cX7_search 13 = .ok (.invokevirtual 65, 3) := by decide +kernel
theorem dX7_search_16 : decode cX7_search 16 = .ok (.ireturn, 1) := by decide +kernel
def fn_cx_search  : Int32 := -5
abbrev rm_cx_search : Room := { frames := 1, cells := 0, slots := 0, locals := 21 }
abbrev po_cx_search (g : zz_G) (h0 : Nat) (st : Nat) (mk : Nat) (lk : Nat) (ch : Nat) (ru : Nat) (mr : Nat) (kd : Nat) (dp : Nat) (cl : Nat) (sa : Nat) (ln : Nat) (bt : Nat) (pn : Nat) (bf : Nat) (x1 : Int32) (x2 : Int64) : Int32 → va_W → Prop := fun (r : Int32) (u : va_W) => r = fn_cx_search
set_option maxHeartbeats 4000000 in
set_option maxRecDepth 100000 in
theorem cx_search (g : zz_G) (h0 : Nat) (st : Nat) (mk : Nat) (lk : Nat) (ch : Nat) (ru : Nat) (mr : Nat) (kd : Nat) (dp : Nat) (cl : Nat) (sa : Nat) (ln : Nat) (bt : Nat) (pn : Nat) (bf : Nat) (x1 : Int32) (x2 : Int64) : zz_I g yX7_search (.code yX7_search cX7_search 5 (some .int)) rm_cx_search [.ref h0, .int x1, .long x2] [(h0, .inr (6, [.ref st, .ref mk, .ref lk, .ref ch, .ref ru, .ref mr, .int 0, .int 0])), (st, .inr (5, [.int 0, .int 0, .ref kd, .ref dp, .ref cl, .ref sa, .ref ln, .ref bt, .ref pn, .ref bf]))] (po_cx_search g h0 st mk lk ch ru mr kd dp cl sa ln bt pn bf x1 x2) := by
  refine zz_I.intro (own := RX7) (cc := cX7_search) (nL := 5) (by decide) rfl (Nat.le_of_ble_eq_true rfl) ?_
  intro p l e s m args below meth c A H locs ls hC hnm hZ hl
  obtain ⟨hx, hb, hml, hown, hts, hr, hlocks, hK⟩ := id hC
  have hl : lv_has ls 5 [(0, .ref h0), (1, .int x1), (2, .long x2)] := hl
  have hZ : zz_Z g A s.heap [(h0, .inr (6, [.ref st, .ref mk, .ref lk, .ref ch, .ref ru, .ref mr, .int 0, .int 0])), (st, .inr (5, [.int 0, .int 0, .ref kd, .ref dp, .ref cl, .ref sa, .ref ln, .ref bt, .ref pn, .ref bf]))] H locs := hZ
  refine lv_aload_n hx hb dX7_search_0 rfl (lv_at hl 0 rfl) ?_
  refine zz_get hC hZ 0 rfl zf_X7_10 rfl dX7_search_1 ?_
  refine lv_iload_n hx hb dX7_search_4 rfl (lv_at hl 1 rfl) ?_
  refine zz_iV (As := [.int x1]) (wc := [(st, .inr (5, [.int 0, .int 0, .ref kd, .ref dp, .ref cl, .ref sa, .ref ln, .ref bt, .ref pn, .ref bf]))]) (wr := [(h0, .inr (6, [.ref st, .ref mk, .ref lk, .ref ch, .ref ru, .ref mr, .int 0, .int 0]))]) (rest := []) hC hZ hl zc_X7_73 (co_has0 g st kd dp cl sa ln bt pn bf x1) [1] [0] rfl rfl (by decide) (ci := 5) (q0 := 0) rfl rfl rfl rfl (Nat.le_of_ble_eq_true rfl) ⟨⟨Nat.le_of_ble_eq_true rfl, Nat.le_of_ble_eq_true rfl⟩, Nat.le_of_ble_eq_true rfl, Nat.le_of_ble_eq_true rfl⟩ dX7_search_5 (fun r1 u2 H locs hp hZ => ?_)
  obtain ⟨rfl, rfl⟩ := hp
  have hZ : zz_Z g A s.heap [(h0, .inr (6, [.ref st, .ref mk, .ref lk, .ref ch, .ref ru, .ref mr, .int 0, .int 0])), (st, .inr (5, [.int 0, .int 0, .ref kd, .ref dp, .ref cl, .ref sa, .ref ln, .ref bt, .ref pn, .ref bf]))] H locs := hZ
  refine lv_if_ne (tgt := 17) hx hb dX7_search_8 (by decide) (fun c => absurd (by decide) c) (fun c3 => ?_)
  refine lv_aload_n hx hb dX7_search_11 rfl (lv_at hl 0 rfl) ?_
  refine lv_iconst (v := 5) hx hb dX7_search_12 (by decide) ?_
  refine zz_iV (As := [.int 5]) (wc := [(h0, .inr (6, [.ref st, .ref mk, .ref lk, .ref ch, .ref ru, .ref mr, .int 0, .int 0]))]) (wr := [(st, .inr (5, [.int 0, .int 0, .ref kd, .ref dp, .ref cl, .ref sa, .ref ln, .ref bt, .ref pn, .ref bf]))]) (rest := []) hC hZ hl zc_X7_65 (co_fail g h0 st mk lk ch ru mr 0 0 5) [0] [1] rfl rfl (by decide) (ci := 6) (q0 := 0) rfl rfl rfl rfl (Nat.le_of_ble_eq_true rfl) ⟨⟨Nat.le_of_ble_eq_true rfl, Nat.le_of_ble_eq_true rfl⟩, Nat.le_of_ble_eq_true rfl, Nat.le_of_ble_eq_true rfl⟩ dX7_search_13 (fun r4 u5 H locs hp hZ => ?_)
  obtain ⟨rfl, rfl⟩ := hp
  have hZ : zz_Z g A s.heap [(st, .inr (5, [.int 0, .int 0, .ref kd, .ref dp, .ref cl, .ref sa, .ref ln, .ref bt, .ref pn, .ref bf])), (h0, .inr (6, [.ref st, .ref mk, .ref lk, .ref ch, .ref ru, .ref mr, .int 0, .int 5]))] H locs := hZ
  exact zz_iret hC hZ (rfl) (Nat.le_of_ble_eq_true rfl) (Nat.le_of_ble_eq_true rfl) dX7_search_16
theorem dX7_same_0 : decode cX7_same 0 = .ok (.aload_n 0, 1) := by decide +kernel
theorem dX7_same_1 : decode cX7_same 1 = .ok (.getfield 10, 3) := by decide +kernel
theorem dX7_same_4 : decode cX7_same 4 = .ok (.iload_n 1, 1) := by decide +kernel
theorem dX7_same_5 : decode cX7_same 5 = .ok (.invokevirtual 73, 3) := by decide +kernel
theorem dX7_same_8 : decode cX7_same 8 = .ok (.ifCond .eq 14, 3) := by decide +kernel
theorem dX7_same_22 : decode cX7_same 22 = .ok (.aload_n 0, 1) := by decide +kernel
theorem dX7_same_23 : decode cX7_same 23 = .ok (.iconst 5, 1) := by decide +kernel
theorem dX7_same_24 : decode cX7_same 24 = .ok (.invokevirtual 65, 3) := by decide +kernel
theorem dX7_same_27 : decode cX7_same 27 = .ok (.ireturn, 1) := by decide +kernel
def fn_cx_same  : Int32 := -5
abbrev rm_cx_same : Room := { frames := 1, cells := 0, slots := 0, locals := 21 }
abbrev po_cx_same (g : zz_G) (h0 : Nat) (st : Nat) (mk : Nat) (lk : Nat) (ch : Nat) (ru : Nat) (mr : Nat) (kd : Nat) (dp : Nat) (cl : Nat) (sa : Nat) (ln : Nat) (bt : Nat) (pn : Nat) (bf : Nat) (x1 : Int32) (x2 : Int32) : Int32 → va_W → Prop := fun (r : Int32) (u : va_W) => r = fn_cx_same
set_option maxHeartbeats 4000000 in
set_option maxRecDepth 100000 in
theorem cx_same (g : zz_G) (h0 : Nat) (st : Nat) (mk : Nat) (lk : Nat) (ch : Nat) (ru : Nat) (mr : Nat) (kd : Nat) (dp : Nat) (cl : Nat) (sa : Nat) (ln : Nat) (bt : Nat) (pn : Nat) (bf : Nat) (x1 : Int32) (x2 : Int32) : zz_I g yX7_same (.code yX7_same cX7_same 3 (some .int)) rm_cx_same [.ref h0, .int x1, .int x2] [(h0, .inr (6, [.ref st, .ref mk, .ref lk, .ref ch, .ref ru, .ref mr, .int 0, .int 0])), (st, .inr (5, [.int 0, .int 0, .ref kd, .ref dp, .ref cl, .ref sa, .ref ln, .ref bt, .ref pn, .ref bf]))] (po_cx_same g h0 st mk lk ch ru mr kd dp cl sa ln bt pn bf x1 x2) := by
  refine zz_I.intro (own := RX7) (cc := cX7_same) (nL := 3) (by decide) rfl (Nat.le_of_ble_eq_true rfl) ?_
  intro p l e s m args below meth c A H locs ls hC hnm hZ hl
  obtain ⟨hx, hb, hml, hown, hts, hr, hlocks, hK⟩ := id hC
  have hl : lv_has ls 3 [(0, .ref h0), (1, .int x1), (2, .int x2)] := hl
  have hZ : zz_Z g A s.heap [(h0, .inr (6, [.ref st, .ref mk, .ref lk, .ref ch, .ref ru, .ref mr, .int 0, .int 0])), (st, .inr (5, [.int 0, .int 0, .ref kd, .ref dp, .ref cl, .ref sa, .ref ln, .ref bt, .ref pn, .ref bf]))] H locs := hZ
  refine lv_aload_n hx hb dX7_same_0 rfl (lv_at hl 0 rfl) ?_
  refine zz_get hC hZ 0 rfl zf_X7_10 rfl dX7_same_1 ?_
  refine lv_iload_n hx hb dX7_same_4 rfl (lv_at hl 1 rfl) ?_
  refine zz_iV (As := [.int x1]) (wc := [(st, .inr (5, [.int 0, .int 0, .ref kd, .ref dp, .ref cl, .ref sa, .ref ln, .ref bt, .ref pn, .ref bf]))]) (wr := [(h0, .inr (6, [.ref st, .ref mk, .ref lk, .ref ch, .ref ru, .ref mr, .int 0, .int 0]))]) (rest := []) hC hZ hl zc_X7_73 (co_has0 g st kd dp cl sa ln bt pn bf x1) [1] [0] rfl rfl (by decide) (ci := 5) (q0 := 0) rfl rfl rfl rfl (Nat.le_of_ble_eq_true rfl) ⟨⟨Nat.le_of_ble_eq_true rfl, Nat.le_of_ble_eq_true rfl⟩, Nat.le_of_ble_eq_true rfl, Nat.le_of_ble_eq_true rfl⟩ dX7_same_5 (fun r1 u2 H locs hp hZ => ?_)
  obtain ⟨rfl, rfl⟩ := hp
  have hZ : zz_Z g A s.heap [(h0, .inr (6, [.ref st, .ref mk, .ref lk, .ref ch, .ref ru, .ref mr, .int 0, .int 0])), (st, .inr (5, [.int 0, .int 0, .ref kd, .ref dp, .ref cl, .ref sa, .ref ln, .ref bt, .ref pn, .ref bf]))] H locs := hZ
  refine lv_if_eq (tgt := 22) hx hb dX7_same_8 (by decide) (fun c3 => ?_) (fun c => absurd (by decide) c)
  refine lv_aload_n hx hb dX7_same_22 rfl (lv_at hl 0 rfl) ?_
  refine lv_iconst (v := 5) hx hb dX7_same_23 (by decide) ?_
  refine zz_iV (As := [.int 5]) (wc := [(h0, .inr (6, [.ref st, .ref mk, .ref lk, .ref ch, .ref ru, .ref mr, .int 0, .int 0]))]) (wr := [(st, .inr (5, [.int 0, .int 0, .ref kd, .ref dp, .ref cl, .ref sa, .ref ln, .ref bt, .ref pn, .ref bf]))]) (rest := []) hC hZ hl zc_X7_65 (co_fail g h0 st mk lk ch ru mr 0 0 5) [0] [1] rfl rfl (by decide) (ci := 6) (q0 := 0) rfl rfl rfl rfl (Nat.le_of_ble_eq_true rfl) ⟨⟨Nat.le_of_ble_eq_true rfl, Nat.le_of_ble_eq_true rfl⟩, Nat.le_of_ble_eq_true rfl, Nat.le_of_ble_eq_true rfl⟩ dX7_same_24 (fun r4 u5 H locs hp hZ => ?_)
  obtain ⟨rfl, rfl⟩ := hp
  have hZ : zz_Z g A s.heap [(st, .inr (5, [.int 0, .int 0, .ref kd, .ref dp, .ref cl, .ref sa, .ref ln, .ref bt, .ref pn, .ref bf])), (h0, .inr (6, [.ref st, .ref mk, .ref lk, .ref ch, .ref ru, .ref mr, .int 0, .int 5]))] H locs := hZ
  exact zz_iret hC hZ (rfl) (Nat.le_of_ble_eq_true rfl) (Nat.le_of_ble_eq_true rfl) dX7_same_27
theorem dX7_hash_0 : decode cX7_hash 0 = .ok (.aload_n 0, 1) := by decide +kernel
theorem dX7_hash_1 : decode cX7_hash 1 = .ok (.getfield 10, 3) := by decide +kernel
theorem dX7_hash_4 : decode cX7_hash 4 = .ok (.iload_n 1, 1) := by decide +kernel
theorem dX7_hash_5 : decode cX7_hash 5 = .ok (.invokevirtual 73, 3) := by decide +kernel
theorem dX7_hash_8 : decode cX7_hash 8 = .ok (.ifCond .ne 10, 3) := by decide +kernel
theorem dX7_hash_11 : decode cX7_hash 11 = .ok (.aload_n 0, 1) := by decide +kernel
theorem dX7_hash_12 : decode cX7_hash 12 = .ok (.iconst 5, 1) := by decide +kernel
theorem dX7_hash_13 : decode cX7_hash 13 = .ok (.putfield 56, 3) := by decide +kernel
theorem dX7_hash_16 : decode cX7_hash 16 = .ok (.iconst 0, 1) := by decide +kernel
theorem dX7_hash_17 : decode cX7_hash 17 = .ok (.ireturn, 1) := by decide +kernel
def fn_cx_hash  : Int32 := 0
abbrev rm_cx_hash : Room := { frames := 1, cells := 0, slots := 0, locals := 21 }
abbrev po_cx_hash (g : zz_G) (h0 : Nat) (st : Nat) (mk : Nat) (lk : Nat) (ch : Nat) (ru : Nat) (mr : Nat) (kd : Nat) (dp : Nat) (cl : Nat) (sa : Nat) (ln : Nat) (bt : Nat) (pn : Nat) (bf : Nat) (x1 : Int32) : Int32 → va_W → Prop := fun (r : Int32) (u : va_W) => r = fn_cx_hash
set_option maxHeartbeats 4000000 in
set_option maxRecDepth 100000 in
theorem cx_hash (g : zz_G) (h0 : Nat) (st : Nat) (mk : Nat) (lk : Nat) (ch : Nat) (ru : Nat) (mr : Nat) (kd : Nat) (dp : Nat) (cl : Nat) (sa : Nat) (ln : Nat) (bt : Nat) (pn : Nat) (bf : Nat) (x1 : Int32) : zz_I g yX7_hash (.code yX7_hash cX7_hash 2 (some .int)) rm_cx_hash [.ref h0, .int x1] [(h0, .inr (6, [.ref st, .ref mk, .ref lk, .ref ch, .ref ru, .ref mr, .int 0, .int 0])), (st, .inr (5, [.int 0, .int 0, .ref kd, .ref dp, .ref cl, .ref sa, .ref ln, .ref bt, .ref pn, .ref bf]))] (po_cx_hash g h0 st mk lk ch ru mr kd dp cl sa ln bt pn bf x1) := by
  refine zz_I.intro (own := RX7) (cc := cX7_hash) (nL := 2) (by decide) rfl (Nat.le_of_ble_eq_true rfl) ?_
  intro p l e s m args below meth c A H locs ls hC hnm hZ hl
  obtain ⟨hx, hb, hml, hown, hts, hr, hlocks, hK⟩ := id hC
  have hl : lv_has ls 2 [(0, .ref h0), (1, .int x1)] := hl
  have hZ : zz_Z g A s.heap [(h0, .inr (6, [.ref st, .ref mk, .ref lk, .ref ch, .ref ru, .ref mr, .int 0, .int 0])), (st, .inr (5, [.int 0, .int 0, .ref kd, .ref dp, .ref cl, .ref sa, .ref ln, .ref bt, .ref pn, .ref bf]))] H locs := hZ
  refine lv_aload_n hx hb dX7_hash_0 rfl (lv_at hl 0 rfl) ?_
  refine zz_get hC hZ 0 rfl zf_X7_10 rfl dX7_hash_1 ?_
  refine lv_iload_n hx hb dX7_hash_4 rfl (lv_at hl 1 rfl) ?_
  refine zz_iV (As := [.int x1]) (wc := [(st, .inr (5, [.int 0, .int 0, .ref kd, .ref dp, .ref cl, .ref sa, .ref ln, .ref bt, .ref pn, .ref bf]))]) (wr := [(h0, .inr (6, [.ref st, .ref mk, .ref lk, .ref ch, .ref ru, .ref mr, .int 0, .int 0]))]) (rest := []) hC hZ hl zc_X7_73 (co_has0 g st kd dp cl sa ln bt pn bf x1) [1] [0] rfl rfl (by decide) (ci := 5) (q0 := 0) rfl rfl rfl rfl (Nat.le_of_ble_eq_true rfl) ⟨⟨Nat.le_of_ble_eq_true rfl, Nat.le_of_ble_eq_true rfl⟩, Nat.le_of_ble_eq_true rfl, Nat.le_of_ble_eq_true rfl⟩ dX7_hash_5 (fun r1 u2 H locs hp hZ => ?_)
  obtain ⟨rfl, rfl⟩ := hp
  have hZ : zz_Z g A s.heap [(h0, .inr (6, [.ref st, .ref mk, .ref lk, .ref ch, .ref ru, .ref mr, .int 0, .int 0])), (st, .inr (5, [.int 0, .int 0, .ref kd, .ref dp, .ref cl, .ref sa, .ref ln, .ref bt, .ref pn, .ref bf]))] H locs := hZ
  refine lv_if_ne (tgt := 18) hx hb dX7_hash_8 (by decide) (fun c => absurd (by decide) c) (fun c3 => ?_)
  refine lv_aload_n hx hb dX7_hash_11 rfl (lv_at hl 0 rfl) ?_
  refine lv_iconst (v := 5) hx hb dX7_hash_12 (by decide) ?_
  refine zz_put hC hZ 0 rfl zu_X7_56 (Nat.le_of_ble_eq_true rfl) dX7_hash_13 (fun H locs hZ => ?_)
  have hZ : zz_Z g A s.heap [(h0, .inr (6, [.ref st, .ref mk, .ref lk, .ref ch, .ref ru, .ref mr, .int 0, .int 5])), (st, .inr (5, [.int 0, .int 0, .ref kd, .ref dp, .ref cl, .ref sa, .ref ln, .ref bt, .ref pn, .ref bf]))] H locs := hZ
  refine lv_iconst (v := 0) hx hb dX7_hash_16 (by decide) ?_
  exact zz_iret hC hZ (rfl) (Nat.le_of_ble_eq_true rfl) (Nat.le_of_ble_eq_true rfl) dX7_hash_17
theorem dX7_decide_0 : decode cX7_decide 0 = .ok (.aload_n 0, 1) := by decide +kernel
theorem dX7_decide_1 : decode cX7_decide 1 = .ok (.getfield 10, 3) := by decide +kernel
theorem dX7_decide_4 : decode cX7_decide 4 = .ok (.iload_n 1, 1) := by decide +kernel
theorem dX7_decide_5 : decode cX7_decide 5 = .ok (.invokevirtual 73, 3) := by decide +kernel
theorem dX7_decide_8 : decode cX7_decide 8 = .ok (.ifCond .ne 9, 3) := by decide +kernel
theorem dX7_decide_11 : decode cX7_decide 11 = .ok (.aload_n 0, 1) := by decide +kernel
theorem dX7_decide_12 : decode cX7_decide 12 = .ok (.iconst 5, 1) := by decide +kernel
theorem dX7_decide_13 : decode cX7_decide 13 = .ok (.invokevirtual 65, 3) := by decide +kernel
theorem dX7_decide_16 : decode cX7_decide 16 = .ok (.ireturn, 1) := by decide +kernel
def fn_cx_decide  : Int32 := -5
abbrev rm_cx_decide : Room := { frames := 1, cells := 0, slots := 0, locals := 21 }
abbrev po_cx_decide (g : zz_G) (h0 : Nat) (st : Nat) (mk : Nat) (lk : Nat) (ch : Nat) (ru : Nat) (mr : Nat) (kd : Nat) (dp : Nat) (cl : Nat) (sa : Nat) (ln : Nat) (bt : Nat) (pn : Nat) (bf : Nat) (x1 : Int32) (x2 : Int32) (x3 : Int32) (x4 : Int32) (x5 : Int32) : Int32 → va_W → Prop := fun (r : Int32) (u : va_W) => r = fn_cx_decide
set_option maxHeartbeats 4000000 in
set_option maxRecDepth 100000 in
theorem cx_decide (g : zz_G) (h0 : Nat) (st : Nat) (mk : Nat) (lk : Nat) (ch : Nat) (ru : Nat) (mr : Nat) (kd : Nat) (dp : Nat) (cl : Nat) (sa : Nat) (ln : Nat) (bt : Nat) (pn : Nat) (bf : Nat) (x1 : Int32) (x2 : Int32) (x3 : Int32) (x4 : Int32) (x5 : Int32) : zz_I g yX7_decide (.code yX7_decide cX7_decide 8 (some .int)) rm_cx_decide [.ref h0, .int x1, .int x2, .int x3, .int x4, .int x5] [(h0, .inr (6, [.ref st, .ref mk, .ref lk, .ref ch, .ref ru, .ref mr, .int 0, .int 0])), (st, .inr (5, [.int 0, .int 0, .ref kd, .ref dp, .ref cl, .ref sa, .ref ln, .ref bt, .ref pn, .ref bf]))] (po_cx_decide g h0 st mk lk ch ru mr kd dp cl sa ln bt pn bf x1 x2 x3 x4 x5) := by
  refine zz_I.intro (own := RX7) (cc := cX7_decide) (nL := 8) (by decide) rfl (Nat.le_of_ble_eq_true rfl) ?_
  intro p l e s m args below meth c A H locs ls hC hnm hZ hl
  obtain ⟨hx, hb, hml, hown, hts, hr, hlocks, hK⟩ := id hC
  have hl : lv_has ls 8 [(0, .ref h0), (1, .int x1), (2, .int x2), (3, .int x3), (4, .int x4), (5, .int x5)] := hl
  have hZ : zz_Z g A s.heap [(h0, .inr (6, [.ref st, .ref mk, .ref lk, .ref ch, .ref ru, .ref mr, .int 0, .int 0])), (st, .inr (5, [.int 0, .int 0, .ref kd, .ref dp, .ref cl, .ref sa, .ref ln, .ref bt, .ref pn, .ref bf]))] H locs := hZ
  refine lv_aload_n hx hb dX7_decide_0 rfl (lv_at hl 0 rfl) ?_
  refine zz_get hC hZ 0 rfl zf_X7_10 rfl dX7_decide_1 ?_
  refine lv_iload_n hx hb dX7_decide_4 rfl (lv_at hl 1 rfl) ?_
  refine zz_iV (As := [.int x1]) (wc := [(st, .inr (5, [.int 0, .int 0, .ref kd, .ref dp, .ref cl, .ref sa, .ref ln, .ref bt, .ref pn, .ref bf]))]) (wr := [(h0, .inr (6, [.ref st, .ref mk, .ref lk, .ref ch, .ref ru, .ref mr, .int 0, .int 0]))]) (rest := []) hC hZ hl zc_X7_73 (co_has0 g st kd dp cl sa ln bt pn bf x1) [1] [0] rfl rfl (by decide) (ci := 5) (q0 := 0) rfl rfl rfl rfl (Nat.le_of_ble_eq_true rfl) ⟨⟨Nat.le_of_ble_eq_true rfl, Nat.le_of_ble_eq_true rfl⟩, Nat.le_of_ble_eq_true rfl, Nat.le_of_ble_eq_true rfl⟩ dX7_decide_5 (fun r1 u2 H locs hp hZ => ?_)
  obtain ⟨rfl, rfl⟩ := hp
  have hZ : zz_Z g A s.heap [(h0, .inr (6, [.ref st, .ref mk, .ref lk, .ref ch, .ref ru, .ref mr, .int 0, .int 0])), (st, .inr (5, [.int 0, .int 0, .ref kd, .ref dp, .ref cl, .ref sa, .ref ln, .ref bt, .ref pn, .ref bf]))] H locs := hZ
  refine lv_if_ne (tgt := 17) hx hb dX7_decide_8 (by decide) (fun c => absurd (by decide) c) (fun c3 => ?_)
  refine lv_aload_n hx hb dX7_decide_11 rfl (lv_at hl 0 rfl) ?_
  refine lv_iconst (v := 5) hx hb dX7_decide_12 (by decide) ?_
  refine zz_iV (As := [.int 5]) (wc := [(h0, .inr (6, [.ref st, .ref mk, .ref lk, .ref ch, .ref ru, .ref mr, .int 0, .int 0]))]) (wr := [(st, .inr (5, [.int 0, .int 0, .ref kd, .ref dp, .ref cl, .ref sa, .ref ln, .ref bt, .ref pn, .ref bf]))]) (rest := []) hC hZ hl zc_X7_65 (co_fail g h0 st mk lk ch ru mr 0 0 5) [0] [1] rfl rfl (by decide) (ci := 6) (q0 := 0) rfl rfl rfl rfl (Nat.le_of_ble_eq_true rfl) ⟨⟨Nat.le_of_ble_eq_true rfl, Nat.le_of_ble_eq_true rfl⟩, Nat.le_of_ble_eq_true rfl, Nat.le_of_ble_eq_true rfl⟩ dX7_decide_13 (fun r4 u5 H locs hp hZ => ?_)
  obtain ⟨rfl, rfl⟩ := hp
  have hZ : zz_Z g A s.heap [(st, .inr (5, [.int 0, .int 0, .ref kd, .ref dp, .ref cl, .ref sa, .ref ln, .ref bt, .ref pn, .ref bf])), (h0, .inr (6, [.ref st, .ref mk, .ref lk, .ref ch, .ref ru, .ref mr, .int 0, .int 5]))] H locs := hZ
  exact zz_iret hC hZ (rfl) (Nat.le_of_ble_eq_true rfl) (Nat.le_of_ble_eq_true rfl) dX7_decide_16
theorem dX7_candidate_0 : decode cX7_candidate 0 = .ok (.aload_n 0, 1) := by decide +kernel
theorem dX7_candidate_1 : decode cX7_candidate 1 = .ok (.getfield 35, 3) := by decide +kernel
theorem zf_X7_35 : zz_f RX7 35 6 3 := ⟨RX7, TX7, 8, rfl, zi_X7, by decide, zk_203⟩
theorem dX7_candidate_4 : decode cX7_candidate 4 = .ok (.iload_n 1, 1) := by decide +kernel
theorem dX7_candidate_5 : decode cX7_candidate 5 = .ok (.invokevirtual 218, 3) := by decide +kernel
theorem zk_546 : Cond.methodLink RX7 218 yX0_has ∈ zz_w := zz_in (List.mem_append_right _ (List.mem_append_right _ (List.mem_append_right _ (List.mem_append_left _ (List.mem_of_getElem? (i := 66) (by decide +kernel)))))) rfl
theorem zc_X7_218 : zz_cV RX7 218 yX0_has cX0_has 2 (some .boolean) 1 := ⟨⟨zk_546, zk_549, zk_5, by decide, by decide, by decide +kernel⟩, zk_547, zk_548⟩
theorem dX7_candidate_8 : decode cX7_candidate 8 = .ok (.ifCond .ne 10, 3) := by decide +kernel
theorem dX7_candidate_11 : decode cX7_candidate 11 = .ok (.aload_n 0, 1) := by decide +kernel
theorem dX7_candidate_12 : decode cX7_candidate 12 = .ok (.bipush 9, 2) := by decide +kernel
theorem dX7_candidate_14 : decode cX7_candidate 14 = .ok (.invokevirtual 65, 3) := by decide +kernel
theorem dX7_candidate_17 : decode cX7_candidate 17 = .ok (.ireturn, 1) := by decide +kernel
def fn_cx_candidate  : Int32 := -9
abbrev rm_cx_candidate : Room := { frames := 1, cells := 0, slots := 0, locals := 21 }
abbrev po_cx_candidate (g : zz_G) (h0 : Nat) (st : Nat) (mk : Nat) (lk : Nat) (ch : Nat) (ru : Nat) (mr : Nat) (c_pl : Nat) (c_sl : Nat) (c_co : Nat) (c_ca : Nat) (c_tu : Nat) (x1 : Int32) (x2 : Int64) : Int32 → va_W → Prop := fun (r : Int32) (u : va_W) => r = fn_cx_candidate
set_option maxHeartbeats 4000000 in
set_option maxRecDepth 100000 in
theorem cx_candidate (g : zz_G) (h0 : Nat) (st : Nat) (mk : Nat) (lk : Nat) (ch : Nat) (ru : Nat) (mr : Nat) (c_pl : Nat) (c_sl : Nat) (c_co : Nat) (c_ca : Nat) (c_tu : Nat) (x1 : Int32) (x2 : Int64) : zz_I g yX7_candidate (.code yX7_candidate cX7_candidate 7 (some .int)) rm_cx_candidate [.ref h0, .int x1, .long x2] [(h0, .inr (6, [.ref st, .ref mk, .ref lk, .ref ch, .ref ru, .ref mr, .int 0, .int 0])), (ch, .inr (0, [.ref st, .int 0, .ref c_pl, .ref c_sl, .ref c_co, .ref c_ca, .ref c_tu]))] (po_cx_candidate g h0 st mk lk ch ru mr c_pl c_sl c_co c_ca c_tu x1 x2) := by
  refine zz_I.intro (own := RX7) (cc := cX7_candidate) (nL := 7) (by decide) rfl (Nat.le_of_ble_eq_true rfl) ?_
  intro p l e s m args below meth c A H locs ls hC hnm hZ hl
  obtain ⟨hx, hb, hml, hown, hts, hr, hlocks, hK⟩ := id hC
  have hl : lv_has ls 7 [(0, .ref h0), (1, .int x1), (2, .long x2)] := hl
  have hZ : zz_Z g A s.heap [(h0, .inr (6, [.ref st, .ref mk, .ref lk, .ref ch, .ref ru, .ref mr, .int 0, .int 0])), (ch, .inr (0, [.ref st, .int 0, .ref c_pl, .ref c_sl, .ref c_co, .ref c_ca, .ref c_tu]))] H locs := hZ
  refine lv_aload_n hx hb dX7_candidate_0 rfl (lv_at hl 0 rfl) ?_
  refine zz_get hC hZ 0 rfl zf_X7_35 rfl dX7_candidate_1 ?_
  refine lv_iload_n hx hb dX7_candidate_4 rfl (lv_at hl 1 rfl) ?_
  refine zz_iV (As := [.int x1]) (wc := [(ch, .inr (0, [.ref st, .int 0, .ref c_pl, .ref c_sl, .ref c_co, .ref c_ca, .ref c_tu]))]) (wr := [(h0, .inr (6, [.ref st, .ref mk, .ref lk, .ref ch, .ref ru, .ref mr, .int 0, .int 0]))]) (rest := []) hC hZ hl zc_X7_218 (co_chas0 g st ch c_pl c_sl c_co c_ca c_tu x1) [1] [0] rfl rfl (by decide) (ci := 0) (q0 := 0) rfl rfl rfl rfl (Nat.le_of_ble_eq_true rfl) ⟨⟨Nat.le_of_ble_eq_true rfl, Nat.le_of_ble_eq_true rfl⟩, Nat.le_of_ble_eq_true rfl, Nat.le_of_ble_eq_true rfl⟩ dX7_candidate_5 (fun r1 u2 H locs hp hZ => ?_)
  obtain ⟨rfl, rfl⟩ := hp
  have hZ : zz_Z g A s.heap [(h0, .inr (6, [.ref st, .ref mk, .ref lk, .ref ch, .ref ru, .ref mr, .int 0, .int 0])), (ch, .inr (0, [.ref st, .int 0, .ref c_pl, .ref c_sl, .ref c_co, .ref c_ca, .ref c_tu]))] H locs := hZ
  refine lv_if_ne (tgt := 18) hx hb dX7_candidate_8 (by decide) (fun c => absurd (by decide) c) (fun c3 => ?_)
  refine lv_aload_n hx hb dX7_candidate_11 rfl (lv_at hl 0 rfl) ?_
  refine lv_bipush (v := 9) hx hb dX7_candidate_12 (by decide) ?_
  refine zz_iV (As := [.int 9]) (wc := [(h0, .inr (6, [.ref st, .ref mk, .ref lk, .ref ch, .ref ru, .ref mr, .int 0, .int 0]))]) (wr := [(ch, .inr (0, [.ref st, .int 0, .ref c_pl, .ref c_sl, .ref c_co, .ref c_ca, .ref c_tu]))]) (rest := []) hC hZ hl zc_X7_65 (co_fail g h0 st mk lk ch ru mr 0 0 9) [0] [1] rfl rfl (by decide) (ci := 6) (q0 := 0) rfl rfl rfl rfl (Nat.le_of_ble_eq_true rfl) ⟨⟨Nat.le_of_ble_eq_true rfl, Nat.le_of_ble_eq_true rfl⟩, Nat.le_of_ble_eq_true rfl, Nat.le_of_ble_eq_true rfl⟩ dX7_candidate_14 (fun r4 u5 H locs hp hZ => ?_)
  obtain ⟨rfl, rfl⟩ := hp
  have hZ : zz_Z g A s.heap [(ch, .inr (0, [.ref st, .int 0, .ref c_pl, .ref c_sl, .ref c_co, .ref c_ca, .ref c_tu])), (h0, .inr (6, [.ref st, .ref mk, .ref lk, .ref ch, .ref ru, .ref mr, .int 0, .int 9]))] H locs := hZ
  exact zz_iret hC hZ (rfl) (Nat.le_of_ble_eq_true rfl) (Nat.le_of_ble_eq_true rfl) dX7_candidate_17
theorem dX7_span_0 : decode cX7_span 0 = .ok (.aload_n 0, 1) := by decide +kernel
theorem dX7_span_1 : decode cX7_span 1 = .ok (.getfield 35, 3) := by decide +kernel
theorem dX7_span_4 : decode cX7_span 4 = .ok (.iload_n 1, 1) := by decide +kernel
theorem dX7_span_5 : decode cX7_span 5 = .ok (.invokevirtual 218, 3) := by decide +kernel
theorem dX7_span_8 : decode cX7_span 8 = .ok (.ifCond .eq 10, 3) := by decide +kernel
theorem dX7_span_18 : decode cX7_span 18 = .ok (.aload_n 0, 1) := by decide +kernel
theorem dX7_span_19 : decode cX7_span 19 = .ok (.bipush 9, 2) := by decide +kernel
theorem dX7_span_21 : decode cX7_span 21 = .ok (.invokevirtual 65, 3) := by decide +kernel
theorem dX7_span_24 : decode cX7_span 24 = .ok (.ireturn, 1) := by decide +kernel
def fn_cx_span  : Int32 := -9
abbrev rm_cx_span : Room := { frames := 1, cells := 0, slots := 0, locals := 21 }
abbrev po_cx_span (g : zz_G) (h0 : Nat) (st : Nat) (mk : Nat) (lk : Nat) (ch : Nat) (ru : Nat) (mr : Nat) (c_pl : Nat) (c_sl : Nat) (c_co : Nat) (c_ca : Nat) (c_tu : Nat) (x1 : Int32) (x2 : Int64) (x3 : Int64) (x4 : Int64) : Int32 → va_W → Prop := fun (r : Int32) (u : va_W) => r = fn_cx_span
set_option maxHeartbeats 4000000 in
set_option maxRecDepth 100000 in
theorem cx_span (g : zz_G) (h0 : Nat) (st : Nat) (mk : Nat) (lk : Nat) (ch : Nat) (ru : Nat) (mr : Nat) (c_pl : Nat) (c_sl : Nat) (c_co : Nat) (c_ca : Nat) (c_tu : Nat) (x1 : Int32) (x2 : Int64) (x3 : Int64) (x4 : Int64) : zz_I g yX7_span (.code yX7_span cX7_span 10 (some .int)) rm_cx_span [.ref h0, .int x1, .long x2, .long x3, .long x4] [(h0, .inr (6, [.ref st, .ref mk, .ref lk, .ref ch, .ref ru, .ref mr, .int 0, .int 0])), (ch, .inr (0, [.ref st, .int 0, .ref c_pl, .ref c_sl, .ref c_co, .ref c_ca, .ref c_tu]))] (po_cx_span g h0 st mk lk ch ru mr c_pl c_sl c_co c_ca c_tu x1 x2 x3 x4) := by
  refine zz_I.intro (own := RX7) (cc := cX7_span) (nL := 10) (by decide) rfl (Nat.le_of_ble_eq_true rfl) ?_
  intro p l e s m args below meth c A H locs ls hC hnm hZ hl
  obtain ⟨hx, hb, hml, hown, hts, hr, hlocks, hK⟩ := id hC
  have hl : lv_has ls 10 [(0, .ref h0), (1, .int x1), (2, .long x2), (4, .long x3), (6, .long x4)] := hl
  have hZ : zz_Z g A s.heap [(h0, .inr (6, [.ref st, .ref mk, .ref lk, .ref ch, .ref ru, .ref mr, .int 0, .int 0])), (ch, .inr (0, [.ref st, .int 0, .ref c_pl, .ref c_sl, .ref c_co, .ref c_ca, .ref c_tu]))] H locs := hZ
  refine lv_aload_n hx hb dX7_span_0 rfl (lv_at hl 0 rfl) ?_
  refine zz_get hC hZ 0 rfl zf_X7_35 rfl dX7_span_1 ?_
  refine lv_iload_n hx hb dX7_span_4 rfl (lv_at hl 1 rfl) ?_
  refine zz_iV (As := [.int x1]) (wc := [(ch, .inr (0, [.ref st, .int 0, .ref c_pl, .ref c_sl, .ref c_co, .ref c_ca, .ref c_tu]))]) (wr := [(h0, .inr (6, [.ref st, .ref mk, .ref lk, .ref ch, .ref ru, .ref mr, .int 0, .int 0]))]) (rest := []) hC hZ hl zc_X7_218 (co_chas0 g st ch c_pl c_sl c_co c_ca c_tu x1) [1] [0] rfl rfl (by decide) (ci := 0) (q0 := 0) rfl rfl rfl rfl (Nat.le_of_ble_eq_true rfl) ⟨⟨Nat.le_of_ble_eq_true rfl, Nat.le_of_ble_eq_true rfl⟩, Nat.le_of_ble_eq_true rfl, Nat.le_of_ble_eq_true rfl⟩ dX7_span_5 (fun r1 u2 H locs hp hZ => ?_)
  obtain ⟨rfl, rfl⟩ := hp
  have hZ : zz_Z g A s.heap [(h0, .inr (6, [.ref st, .ref mk, .ref lk, .ref ch, .ref ru, .ref mr, .int 0, .int 0])), (ch, .inr (0, [.ref st, .int 0, .ref c_pl, .ref c_sl, .ref c_co, .ref c_ca, .ref c_tu]))] H locs := hZ
  refine lv_if_eq (tgt := 18) hx hb dX7_span_8 (by decide) (fun c3 => ?_) (fun c => absurd (by decide) c)
  refine lv_aload_n hx hb dX7_span_18 rfl (lv_at hl 0 rfl) ?_
  refine lv_bipush (v := 9) hx hb dX7_span_19 (by decide) ?_
  refine zz_iV (As := [.int 9]) (wc := [(h0, .inr (6, [.ref st, .ref mk, .ref lk, .ref ch, .ref ru, .ref mr, .int 0, .int 0]))]) (wr := [(ch, .inr (0, [.ref st, .int 0, .ref c_pl, .ref c_sl, .ref c_co, .ref c_ca, .ref c_tu]))]) (rest := []) hC hZ hl zc_X7_65 (co_fail g h0 st mk lk ch ru mr 0 0 9) [0] [1] rfl rfl (by decide) (ci := 6) (q0 := 0) rfl rfl rfl rfl (Nat.le_of_ble_eq_true rfl) ⟨⟨Nat.le_of_ble_eq_true rfl, Nat.le_of_ble_eq_true rfl⟩, Nat.le_of_ble_eq_true rfl, Nat.le_of_ble_eq_true rfl⟩ dX7_span_21 (fun r4 u5 H locs hp hZ => ?_)
  obtain ⟨rfl, rfl⟩ := hp
  have hZ : zz_Z g A s.heap [(ch, .inr (0, [.ref st, .int 0, .ref c_pl, .ref c_sl, .ref c_co, .ref c_ca, .ref c_tu])), (h0, .inr (6, [.ref st, .ref mk, .ref lk, .ref ch, .ref ru, .ref mr, .int 0, .int 9]))] H locs := hZ
  exact zz_iret hC hZ (rfl) (Nat.le_of_ble_eq_true rfl) (Nat.le_of_ble_eq_true rfl) dX7_span_24
theorem dX7_choose_0 : decode cX7_choose 0 = .ok (.aload_n 0, 1) := by decide +kernel
theorem dX7_choose_1 : decode cX7_choose 1 = .ok (.getfield 35, 3) := by decide +kernel
theorem dX7_choose_4 : decode cX7_choose 4 = .ok (.iload_n 1, 1) := by decide +kernel
theorem dX7_choose_5 : decode cX7_choose 5 = .ok (.iload_n 2, 1) := by decide +kernel
theorem dX7_choose_6 : decode cX7_choose 6 = .ok (.invokevirtual 242, 3) := by decide +kernel
theorem zk_586 : Cond.methodLink RX7 242 yX0_hasCandidate ∈ zz_w := zz_in (List.mem_append_right _ (List.mem_append_right _ (List.mem_append_right _ (List.mem_append_left _ (List.mem_of_getElem? (i := 106) (by decide +kernel)))))) rfl
set_option maxRecDepth 20000 in
theorem zk_589 : Cond.code yX0_hasCandidate cX0_hasCandidate 3 (some .boolean) ∈ zz_w := zz_in (List.mem_append_right _ (List.mem_append_right _ (List.mem_append_right _ (List.mem_append_left _ (List.mem_of_getElem? (i := 109) (rfl)))))) rfl
theorem zk_587 : Cond.instanceMethod yX0_hasCandidate ∈ zz_w := zz_in (List.mem_append_right _ (List.mem_append_right _ (List.mem_append_right _ (List.mem_append_left _ (List.mem_of_getElem? (i := 107) (by decide +kernel)))))) rfl
theorem zk_588 : Cond.selects RX0 yX0_hasCandidate yX0_hasCandidate ∈ zz_w := zz_in (List.mem_append_right _ (List.mem_append_right _ (List.mem_append_right _ (List.mem_append_left _ (List.mem_of_getElem? (i := 108) (by decide +kernel)))))) rfl
theorem zc_X7_242 : zz_cV RX7 242 yX0_hasCandidate cX0_hasCandidate 3 (some .boolean) 2 := ⟨⟨zk_586, zk_589, zk_5, by decide, by decide, by decide +kernel⟩, zk_587, zk_588⟩
theorem dX7_choose_9 : decode cX7_choose 9 = .ok (.ifCond .ne 10, 3) := by decide +kernel
theorem dX7_choose_12 : decode cX7_choose 12 = .ok (.aload_n 0, 1) := by decide +kernel
theorem dX7_choose_13 : decode cX7_choose 13 = .ok (.bipush 9, 2) := by decide +kernel
theorem dX7_choose_15 : decode cX7_choose 15 = .ok (.invokevirtual 65, 3) := by decide +kernel
theorem dX7_choose_18 : decode cX7_choose 18 = .ok (.ireturn, 1) := by decide +kernel
def fn_cx_choose  : Int32 := -9
abbrev rm_cx_choose : Room := { frames := 2, cells := 0, slots := 0, locals := 43 }
abbrev po_cx_choose (g : zz_G) (h0 : Nat) (st : Nat) (mk : Nat) (lk : Nat) (ch : Nat) (ru : Nat) (mr : Nat) (c_pl : Nat) (c_sl : Nat) (c_co : Nat) (c_ca : Nat) (c_tu : Nat) (x1 : Int32) (x2 : Int32) : Int32 → va_W → Prop := fun (r : Int32) (u : va_W) => r = fn_cx_choose
set_option maxHeartbeats 4000000 in
set_option maxRecDepth 100000 in
theorem cx_choose (g : zz_G) (h0 : Nat) (st : Nat) (mk : Nat) (lk : Nat) (ch : Nat) (ru : Nat) (mr : Nat) (c_pl : Nat) (c_sl : Nat) (c_co : Nat) (c_ca : Nat) (c_tu : Nat) (x1 : Int32) (x2 : Int32) : zz_I g yX7_choose (.code yX7_choose cX7_choose 3 (some .int)) rm_cx_choose [.ref h0, .int x1, .int x2] [(h0, .inr (6, [.ref st, .ref mk, .ref lk, .ref ch, .ref ru, .ref mr, .int 0, .int 0])), (ch, .inr (0, [.ref st, .int 0, .ref c_pl, .ref c_sl, .ref c_co, .ref c_ca, .ref c_tu]))] (po_cx_choose g h0 st mk lk ch ru mr c_pl c_sl c_co c_ca c_tu x1 x2) := by
  refine zz_I.intro (own := RX7) (cc := cX7_choose) (nL := 3) (by decide) rfl (Nat.le_of_ble_eq_true rfl) ?_
  intro p l e s m args below meth c A H locs ls hC hnm hZ hl
  obtain ⟨hx, hb, hml, hown, hts, hr, hlocks, hK⟩ := id hC
  have hl : lv_has ls 3 [(0, .ref h0), (1, .int x1), (2, .int x2)] := hl
  have hZ : zz_Z g A s.heap [(h0, .inr (6, [.ref st, .ref mk, .ref lk, .ref ch, .ref ru, .ref mr, .int 0, .int 0])), (ch, .inr (0, [.ref st, .int 0, .ref c_pl, .ref c_sl, .ref c_co, .ref c_ca, .ref c_tu]))] H locs := hZ
  refine lv_aload_n hx hb dX7_choose_0 rfl (lv_at hl 0 rfl) ?_
  refine zz_get hC hZ 0 rfl zf_X7_35 rfl dX7_choose_1 ?_
  refine lv_iload_n hx hb dX7_choose_4 rfl (lv_at hl 1 rfl) ?_
  refine lv_iload_n hx hb dX7_choose_5 rfl (lv_at hl 2 rfl) ?_
  refine zz_iV (As := [.int x1, .int x2]) (wc := [(ch, .inr (0, [.ref st, .int 0, .ref c_pl, .ref c_sl, .ref c_co, .ref c_ca, .ref c_tu]))]) (wr := [(h0, .inr (6, [.ref st, .ref mk, .ref lk, .ref ch, .ref ru, .ref mr, .int 0, .int 0]))]) (rest := []) hC hZ hl zc_X7_242 (co_hasCand0 g st ch c_pl c_sl c_co c_ca c_tu x1 x2) [1] [0] rfl rfl (by decide) (ci := 0) (q0 := 0) rfl rfl rfl rfl (Nat.le_of_ble_eq_true rfl) ⟨⟨Nat.le_of_ble_eq_true rfl, Nat.le_of_ble_eq_true rfl⟩, Nat.le_of_ble_eq_true rfl, Nat.le_of_ble_eq_true rfl⟩ dX7_choose_6 (fun r1 u2 H locs hp hZ => ?_)
  obtain ⟨rfl, rfl⟩ := hp
  have hZ : zz_Z g A s.heap [(h0, .inr (6, [.ref st, .ref mk, .ref lk, .ref ch, .ref ru, .ref mr, .int 0, .int 0])), (ch, .inr (0, [.ref st, .int 0, .ref c_pl, .ref c_sl, .ref c_co, .ref c_ca, .ref c_tu]))] H locs := hZ
  refine lv_if_ne (tgt := 19) hx hb dX7_choose_9 (by decide) (fun c => absurd (by decide) c) (fun c3 => ?_)
  refine lv_aload_n hx hb dX7_choose_12 rfl (lv_at hl 0 rfl) ?_
  refine lv_bipush (v := 9) hx hb dX7_choose_13 (by decide) ?_
  refine zz_iV (As := [.int 9]) (wc := [(h0, .inr (6, [.ref st, .ref mk, .ref lk, .ref ch, .ref ru, .ref mr, .int 0, .int 0]))]) (wr := [(ch, .inr (0, [.ref st, .int 0, .ref c_pl, .ref c_sl, .ref c_co, .ref c_ca, .ref c_tu]))]) (rest := []) hC hZ hl zc_X7_65 (co_fail g h0 st mk lk ch ru mr 0 0 9) [0] [1] rfl rfl (by decide) (ci := 6) (q0 := 0) rfl rfl rfl rfl (Nat.le_of_ble_eq_true rfl) ⟨⟨Nat.le_of_ble_eq_true rfl, Nat.le_of_ble_eq_true rfl⟩, Nat.le_of_ble_eq_true rfl, Nat.le_of_ble_eq_true rfl⟩ dX7_choose_15 (fun r4 u5 H locs hp hZ => ?_)
  obtain ⟨rfl, rfl⟩ := hp
  have hZ : zz_Z g A s.heap [(ch, .inr (0, [.ref st, .int 0, .ref c_pl, .ref c_sl, .ref c_co, .ref c_ca, .ref c_tu])), (h0, .inr (6, [.ref st, .ref mk, .ref lk, .ref ch, .ref ru, .ref mr, .int 0, .int 9]))] H locs := hZ
  exact zz_iret hC hZ (rfl) (Nat.le_of_ble_eq_true rfl) (Nat.le_of_ble_eq_true rfl) dX7_choose_18
theorem dX7_decision_0 : decode cX7_decision 0 = .ok (.aload_n 0, 1) := by decide +kernel
theorem dX7_decision_1 : decode cX7_decision 1 = .ok (.getfield 35, 3) := by decide +kernel
theorem dX7_decision_4 : decode cX7_decision 4 = .ok (.iload_n 1, 1) := by decide +kernel
theorem dX7_decision_5 : decode cX7_decision 5 = .ok (.invokevirtual 218, 3) := by decide +kernel
theorem dX7_decision_8 : decode cX7_decision 8 = .ok (.ifCond .ne 10, 3) := by decide +kernel
theorem dX7_decision_11 : decode cX7_decision 11 = .ok (.aload_n 0, 1) := by decide +kernel
theorem dX7_decision_12 : decode cX7_decision 12 = .ok (.bipush 9, 2) := by decide +kernel
theorem dX7_decision_14 : decode cX7_decision 14 = .ok (.invokevirtual 65, 3) := by decide +kernel
theorem dX7_decision_17 : decode cX7_decision 17 = .ok (.ireturn, 1) := by decide +kernel
def fn_cx_decision  : Int32 := -9
abbrev rm_cx_decision : Room := { frames := 1, cells := 0, slots := 0, locals := 21 }
abbrev po_cx_decision (g : zz_G) (h0 : Nat) (st : Nat) (mk : Nat) (lk : Nat) (ch : Nat) (ru : Nat) (mr : Nat) (c_pl : Nat) (c_sl : Nat) (c_co : Nat) (c_ca : Nat) (c_tu : Nat) (x1 : Int32) (x2 : Int32) : Int32 → va_W → Prop := fun (r : Int32) (u : va_W) => r = fn_cx_decision
set_option maxHeartbeats 4000000 in
set_option maxRecDepth 100000 in
theorem cx_decision (g : zz_G) (h0 : Nat) (st : Nat) (mk : Nat) (lk : Nat) (ch : Nat) (ru : Nat) (mr : Nat) (c_pl : Nat) (c_sl : Nat) (c_co : Nat) (c_ca : Nat) (c_tu : Nat) (x1 : Int32) (x2 : Int32) : zz_I g yX7_decision (.code yX7_decision cX7_decision 3 (some .int)) rm_cx_decision [.ref h0, .int x1, .int x2] [(h0, .inr (6, [.ref st, .ref mk, .ref lk, .ref ch, .ref ru, .ref mr, .int 0, .int 0])), (ch, .inr (0, [.ref st, .int 0, .ref c_pl, .ref c_sl, .ref c_co, .ref c_ca, .ref c_tu]))] (po_cx_decision g h0 st mk lk ch ru mr c_pl c_sl c_co c_ca c_tu x1 x2) := by
  refine zz_I.intro (own := RX7) (cc := cX7_decision) (nL := 3) (by decide) rfl (Nat.le_of_ble_eq_true rfl) ?_
  intro p l e s m args below meth c A H locs ls hC hnm hZ hl
  obtain ⟨hx, hb, hml, hown, hts, hr, hlocks, hK⟩ := id hC
  have hl : lv_has ls 3 [(0, .ref h0), (1, .int x1), (2, .int x2)] := hl
  have hZ : zz_Z g A s.heap [(h0, .inr (6, [.ref st, .ref mk, .ref lk, .ref ch, .ref ru, .ref mr, .int 0, .int 0])), (ch, .inr (0, [.ref st, .int 0, .ref c_pl, .ref c_sl, .ref c_co, .ref c_ca, .ref c_tu]))] H locs := hZ
  refine lv_aload_n hx hb dX7_decision_0 rfl (lv_at hl 0 rfl) ?_
  refine zz_get hC hZ 0 rfl zf_X7_35 rfl dX7_decision_1 ?_
  refine lv_iload_n hx hb dX7_decision_4 rfl (lv_at hl 1 rfl) ?_
  refine zz_iV (As := [.int x1]) (wc := [(ch, .inr (0, [.ref st, .int 0, .ref c_pl, .ref c_sl, .ref c_co, .ref c_ca, .ref c_tu]))]) (wr := [(h0, .inr (6, [.ref st, .ref mk, .ref lk, .ref ch, .ref ru, .ref mr, .int 0, .int 0]))]) (rest := []) hC hZ hl zc_X7_218 (co_chas0 g st ch c_pl c_sl c_co c_ca c_tu x1) [1] [0] rfl rfl (by decide) (ci := 0) (q0 := 0) rfl rfl rfl rfl (Nat.le_of_ble_eq_true rfl) ⟨⟨Nat.le_of_ble_eq_true rfl, Nat.le_of_ble_eq_true rfl⟩, Nat.le_of_ble_eq_true rfl, Nat.le_of_ble_eq_true rfl⟩ dX7_decision_5 (fun r1 u2 H locs hp hZ => ?_)
  obtain ⟨rfl, rfl⟩ := hp
  have hZ : zz_Z g A s.heap [(h0, .inr (6, [.ref st, .ref mk, .ref lk, .ref ch, .ref ru, .ref mr, .int 0, .int 0])), (ch, .inr (0, [.ref st, .int 0, .ref c_pl, .ref c_sl, .ref c_co, .ref c_ca, .ref c_tu]))] H locs := hZ
  refine lv_if_ne (tgt := 18) hx hb dX7_decision_8 (by decide) (fun c => absurd (by decide) c) (fun c3 => ?_)
  refine lv_aload_n hx hb dX7_decision_11 rfl (lv_at hl 0 rfl) ?_
  refine lv_bipush (v := 9) hx hb dX7_decision_12 (by decide) ?_
  refine zz_iV (As := [.int 9]) (wc := [(h0, .inr (6, [.ref st, .ref mk, .ref lk, .ref ch, .ref ru, .ref mr, .int 0, .int 0]))]) (wr := [(ch, .inr (0, [.ref st, .int 0, .ref c_pl, .ref c_sl, .ref c_co, .ref c_ca, .ref c_tu]))]) (rest := []) hC hZ hl zc_X7_65 (co_fail g h0 st mk lk ch ru mr 0 0 9) [0] [1] rfl rfl (by decide) (ci := 6) (q0 := 0) rfl rfl rfl rfl (Nat.le_of_ble_eq_true rfl) ⟨⟨Nat.le_of_ble_eq_true rfl, Nat.le_of_ble_eq_true rfl⟩, Nat.le_of_ble_eq_true rfl, Nat.le_of_ble_eq_true rfl⟩ dX7_decision_14 (fun r4 u5 H locs hp hZ => ?_)
  obtain ⟨rfl, rfl⟩ := hp
  have hZ : zz_Z g A s.heap [(ch, .inr (0, [.ref st, .int 0, .ref c_pl, .ref c_sl, .ref c_co, .ref c_ca, .ref c_tu])), (h0, .inr (6, [.ref st, .ref mk, .ref lk, .ref ch, .ref ru, .ref mr, .int 0, .int 9]))] H locs := hZ
  exact zz_iret hC hZ (rfl) (Nat.le_of_ble_eq_true rfl) (Nat.le_of_ble_eq_true rfl) dX7_decision_17
theorem dX7_candidateOf_0 : decode cX7_candidateOf 0 = .ok (.aload_n 0, 1) := by decide +kernel
theorem dX7_candidateOf_1 : decode cX7_candidateOf 1 = .ok (.getfield 35, 3) := by decide +kernel
theorem dX7_candidateOf_4 : decode cX7_candidateOf 4 = .ok (.iload_n 1, 1) := by decide +kernel
theorem dX7_candidateOf_5 : decode cX7_candidateOf 5 = .ok (.iload_n 2, 1) := by decide +kernel
theorem dX7_candidateOf_6 : decode cX7_candidateOf 6 = .ok (.invokevirtual 242, 3) := by decide +kernel
theorem dX7_candidateOf_9 : decode cX7_candidateOf 9 = .ok (.ifCond .ne 10, 3) := by decide +kernel
theorem dX7_candidateOf_12 : decode cX7_candidateOf 12 = .ok (.aload_n 0, 1) := by decide +kernel
theorem dX7_candidateOf_13 : decode cX7_candidateOf 13 = .ok (.bipush 9, 2) := by decide +kernel
theorem dX7_candidateOf_15 : decode cX7_candidateOf 15 = .ok (.invokevirtual 130, 3) := by decide +kernel
theorem dX7_candidateOf_18 : decode cX7_candidateOf 18 = .ok (.lreturn, 1) := by decide +kernel
def fn_cx_candidateOf  : Int64 := 0
abbrev rm_cx_candidateOf : Room := { frames := 2, cells := 0, slots := 0, locals := 43 }
abbrev po_cx_candidateOf (g : zz_G) (h0 : Nat) (st : Nat) (mk : Nat) (lk : Nat) (ch : Nat) (ru : Nat) (mr : Nat) (c_pl : Nat) (c_sl : Nat) (c_co : Nat) (c_ca : Nat) (c_tu : Nat) (x1 : Int32) (x2 : Int32) : Int64 → va_W → Prop := fun (r : Int64) (u : va_W) => r = fn_cx_candidateOf
set_option maxHeartbeats 4000000 in
set_option maxRecDepth 100000 in
theorem cx_candidateOf (g : zz_G) (h0 : Nat) (st : Nat) (mk : Nat) (lk : Nat) (ch : Nat) (ru : Nat) (mr : Nat) (c_pl : Nat) (c_sl : Nat) (c_co : Nat) (c_ca : Nat) (c_tu : Nat) (x1 : Int32) (x2 : Int32) : zz_L g yX7_candidateOf (.code yX7_candidateOf cX7_candidateOf 3 (some .long)) rm_cx_candidateOf [.ref h0, .int x1, .int x2] [(h0, .inr (6, [.ref st, .ref mk, .ref lk, .ref ch, .ref ru, .ref mr, .int 0, .int 0])), (ch, .inr (0, [.ref st, .int 0, .ref c_pl, .ref c_sl, .ref c_co, .ref c_ca, .ref c_tu]))] (po_cx_candidateOf g h0 st mk lk ch ru mr c_pl c_sl c_co c_ca c_tu x1 x2) := by
  refine zz_L.intro (own := RX7) (cc := cX7_candidateOf) (nL := 3) (by decide) rfl (Nat.le_of_ble_eq_true rfl) ?_
  intro p l e s m args below meth c A H locs ls hC hnm hZ hl
  obtain ⟨hx, hb, hml, hown, hts, hr, hlocks, hK⟩ := id hC
  have hl : lv_has ls 3 [(0, .ref h0), (1, .int x1), (2, .int x2)] := hl
  have hZ : zz_Z g A s.heap [(h0, .inr (6, [.ref st, .ref mk, .ref lk, .ref ch, .ref ru, .ref mr, .int 0, .int 0])), (ch, .inr (0, [.ref st, .int 0, .ref c_pl, .ref c_sl, .ref c_co, .ref c_ca, .ref c_tu]))] H locs := hZ
  refine lv_aload_n hx hb dX7_candidateOf_0 rfl (lv_at hl 0 rfl) ?_
  refine zz_get hC hZ 0 rfl zf_X7_35 rfl dX7_candidateOf_1 ?_
  refine lv_iload_n hx hb dX7_candidateOf_4 rfl (lv_at hl 1 rfl) ?_
  refine lv_iload_n hx hb dX7_candidateOf_5 rfl (lv_at hl 2 rfl) ?_
  refine zz_iV (As := [.int x1, .int x2]) (wc := [(ch, .inr (0, [.ref st, .int 0, .ref c_pl, .ref c_sl, .ref c_co, .ref c_ca, .ref c_tu]))]) (wr := [(h0, .inr (6, [.ref st, .ref mk, .ref lk, .ref ch, .ref ru, .ref mr, .int 0, .int 0]))]) (rest := []) hC hZ hl zc_X7_242 (co_hasCand0 g st ch c_pl c_sl c_co c_ca c_tu x1 x2) [1] [0] rfl rfl (by decide) (ci := 0) (q0 := 0) rfl rfl rfl rfl (Nat.le_of_ble_eq_true rfl) ⟨⟨Nat.le_of_ble_eq_true rfl, Nat.le_of_ble_eq_true rfl⟩, Nat.le_of_ble_eq_true rfl, Nat.le_of_ble_eq_true rfl⟩ dX7_candidateOf_6 (fun r1 u2 H locs hp hZ => ?_)
  obtain ⟨rfl, rfl⟩ := hp
  have hZ : zz_Z g A s.heap [(h0, .inr (6, [.ref st, .ref mk, .ref lk, .ref ch, .ref ru, .ref mr, .int 0, .int 0])), (ch, .inr (0, [.ref st, .int 0, .ref c_pl, .ref c_sl, .ref c_co, .ref c_ca, .ref c_tu]))] H locs := hZ
  refine lv_if_ne (tgt := 19) hx hb dX7_candidateOf_9 (by decide) (fun c => absurd (by decide) c) (fun c3 => ?_)
  refine lv_aload_n hx hb dX7_candidateOf_12 rfl (lv_at hl 0 rfl) ?_
  refine lv_bipush (v := 9) hx hb dX7_candidateOf_13 (by decide) ?_
  refine zz_lV (As := [.int 9]) (wc := [(h0, .inr (6, [.ref st, .ref mk, .ref lk, .ref ch, .ref ru, .ref mr, .int 0, .int 0]))]) (wr := [(ch, .inr (0, [.ref st, .int 0, .ref c_pl, .ref c_sl, .ref c_co, .ref c_ca, .ref c_tu]))]) (rest := []) hC hZ hl zc_X7_130 (co_noBits g h0 st mk lk ch ru mr 0 0 9) [0] [1] rfl rfl (by decide) (ci := 6) (q0 := 0) rfl rfl rfl rfl (Nat.le_of_ble_eq_true rfl) ⟨⟨Nat.le_of_ble_eq_true rfl, Nat.le_of_ble_eq_true rfl⟩, Nat.le_of_ble_eq_true rfl, Nat.le_of_ble_eq_true rfl⟩ dX7_candidateOf_15 (fun r4 u5 H locs hp hZ => ?_)
  obtain ⟨rfl, rfl⟩ := hp
  have hZ : zz_Z g A s.heap [(ch, .inr (0, [.ref st, .int 0, .ref c_pl, .ref c_sl, .ref c_co, .ref c_ca, .ref c_tu])), (h0, .inr (6, [.ref st, .ref mk, .ref lk, .ref ch, .ref ru, .ref mr, .int 0, .int 9]))] H locs := hZ
  exact zz_lret hC hZ (rfl) (Nat.le_of_ble_eq_true rfl) (Nat.le_of_ble_eq_true rfl) dX7_candidateOf_18
theorem dX7_rule_0 : decode cX7_rule 0 = .ok (.aload_n 0, 1) := by decide +kernel
theorem dX7_rule_1 : decode cX7_rule 1 = .ok (.getfield 10, 3) := by decide +kernel
theorem dX7_rule_4 : decode cX7_rule 4 = .ok (.iload_n 2, 1) := by decide +kernel
theorem dX7_rule_5 : decode cX7_rule 5 = .ok (.invokevirtual 73, 3) := by decide +kernel
theorem dX7_rule_8 : decode cX7_rule 8 = .ok (.ifCond .ne 9, 3) := by decide +kernel
theorem dX7_rule_11 : decode cX7_rule 11 = .ok (.aload_n 0, 1) := by decide +kernel
theorem dX7_rule_12 : decode cX7_rule 12 = .ok (.iconst 5, 1) := by decide +kernel
theorem dX7_rule_13 : decode cX7_rule 13 = .ok (.invokevirtual 65, 3) := by decide +kernel
theorem dX7_rule_16 : decode cX7_rule 16 = .ok (.ireturn, 1) := by decide +kernel
def fn_cx_rule  : Int32 := -5
abbrev rm_cx_rule : Room := { frames := 1, cells := 0, slots := 0, locals := 21 }
abbrev po_cx_rule (g : zz_G) (h0 : Nat) (st : Nat) (mk : Nat) (lk : Nat) (ch : Nat) (ru : Nat) (mr : Nat) (kd : Nat) (dp : Nat) (cl : Nat) (sa : Nat) (ln : Nat) (bt : Nat) (pn : Nat) (bf : Nat) (x1 : Int32) (x2 : Int32) (x3 : Int32) (x4 : Int64) (x5 : Int64) : Int32 → va_W → Prop := fun (r : Int32) (u : va_W) => r = fn_cx_rule
set_option maxHeartbeats 4000000 in
set_option maxRecDepth 100000 in
theorem cx_rule (g : zz_G) (h0 : Nat) (st : Nat) (mk : Nat) (lk : Nat) (ch : Nat) (ru : Nat) (mr : Nat) (kd : Nat) (dp : Nat) (cl : Nat) (sa : Nat) (ln : Nat) (bt : Nat) (pn : Nat) (bf : Nat) (x1 : Int32) (x2 : Int32) (x3 : Int32) (x4 : Int64) (x5 : Int64) : zz_I g yX7_rule (.code yX7_rule cX7_rule 11 (some .int)) rm_cx_rule [.ref h0, .int x1, .int x2, .int x3, .long x4, .long x5] [(h0, .inr (6, [.ref st, .ref mk, .ref lk, .ref ch, .ref ru, .ref mr, .int 0, .int 0])), (st, .inr (5, [.int 0, .int 0, .ref kd, .ref dp, .ref cl, .ref sa, .ref ln, .ref bt, .ref pn, .ref bf]))] (po_cx_rule g h0 st mk lk ch ru mr kd dp cl sa ln bt pn bf x1 x2 x3 x4 x5) := by
  refine zz_I.intro (own := RX7) (cc := cX7_rule) (nL := 11) (by decide) rfl (Nat.le_of_ble_eq_true rfl) ?_
  intro p l e s m args below meth c A H locs ls hC hnm hZ hl
  obtain ⟨hx, hb, hml, hown, hts, hr, hlocks, hK⟩ := id hC
  have hl : lv_has ls 11 [(0, .ref h0), (1, .int x1), (2, .int x2), (3, .int x3), (4, .long x4), (6, .long x5)] := hl
  have hZ : zz_Z g A s.heap [(h0, .inr (6, [.ref st, .ref mk, .ref lk, .ref ch, .ref ru, .ref mr, .int 0, .int 0])), (st, .inr (5, [.int 0, .int 0, .ref kd, .ref dp, .ref cl, .ref sa, .ref ln, .ref bt, .ref pn, .ref bf]))] H locs := hZ
  refine lv_aload_n hx hb dX7_rule_0 rfl (lv_at hl 0 rfl) ?_
  refine zz_get hC hZ 0 rfl zf_X7_10 rfl dX7_rule_1 ?_
  refine lv_iload_n hx hb dX7_rule_4 rfl (lv_at hl 2 rfl) ?_
  refine zz_iV (As := [.int x2]) (wc := [(st, .inr (5, [.int 0, .int 0, .ref kd, .ref dp, .ref cl, .ref sa, .ref ln, .ref bt, .ref pn, .ref bf]))]) (wr := [(h0, .inr (6, [.ref st, .ref mk, .ref lk, .ref ch, .ref ru, .ref mr, .int 0, .int 0]))]) (rest := []) hC hZ hl zc_X7_73 (co_has0 g st kd dp cl sa ln bt pn bf x2) [1] [0] rfl rfl (by decide) (ci := 5) (q0 := 0) rfl rfl rfl rfl (Nat.le_of_ble_eq_true rfl) ⟨⟨Nat.le_of_ble_eq_true rfl, Nat.le_of_ble_eq_true rfl⟩, Nat.le_of_ble_eq_true rfl, Nat.le_of_ble_eq_true rfl⟩ dX7_rule_5 (fun r1 u2 H locs hp hZ => ?_)
  obtain ⟨rfl, rfl⟩ := hp
  have hZ : zz_Z g A s.heap [(h0, .inr (6, [.ref st, .ref mk, .ref lk, .ref ch, .ref ru, .ref mr, .int 0, .int 0])), (st, .inr (5, [.int 0, .int 0, .ref kd, .ref dp, .ref cl, .ref sa, .ref ln, .ref bt, .ref pn, .ref bf]))] H locs := hZ
  refine lv_if_ne (tgt := 17) hx hb dX7_rule_8 (by decide) (fun c => absurd (by decide) c) (fun c3 => ?_)
  refine lv_aload_n hx hb dX7_rule_11 rfl (lv_at hl 0 rfl) ?_
  refine lv_iconst (v := 5) hx hb dX7_rule_12 (by decide) ?_
  refine zz_iV (As := [.int 5]) (wc := [(h0, .inr (6, [.ref st, .ref mk, .ref lk, .ref ch, .ref ru, .ref mr, .int 0, .int 0]))]) (wr := [(st, .inr (5, [.int 0, .int 0, .ref kd, .ref dp, .ref cl, .ref sa, .ref ln, .ref bt, .ref pn, .ref bf]))]) (rest := []) hC hZ hl zc_X7_65 (co_fail g h0 st mk lk ch ru mr 0 0 5) [0] [1] rfl rfl (by decide) (ci := 6) (q0 := 0) rfl rfl rfl rfl (Nat.le_of_ble_eq_true rfl) ⟨⟨Nat.le_of_ble_eq_true rfl, Nat.le_of_ble_eq_true rfl⟩, Nat.le_of_ble_eq_true rfl, Nat.le_of_ble_eq_true rfl⟩ dX7_rule_13 (fun r4 u5 H locs hp hZ => ?_)
  obtain ⟨rfl, rfl⟩ := hp
  have hZ : zz_Z g A s.heap [(st, .inr (5, [.int 0, .int 0, .ref kd, .ref dp, .ref cl, .ref sa, .ref ln, .ref bt, .ref pn, .ref bf])), (h0, .inr (6, [.ref st, .ref mk, .ref lk, .ref ch, .ref ru, .ref mr, .int 0, .int 5]))] H locs := hZ
  exact zz_iret hC hZ (rfl) (Nat.le_of_ble_eq_true rfl) (Nat.le_of_ble_eq_true rfl) dX7_rule_16
theorem dX7_amount_0 : decode cX7_amount 0 = .ok (.iload_n 1, 1) := by decide +kernel
theorem dX7_amount_1 : decode cX7_amount 1 = .ok (.ifCond .lt 14, 3) := by decide +kernel
theorem dX7_amount_15 : decode cX7_amount 15 = .ok (.aload_n 0, 1) := by decide +kernel
theorem dX7_amount_16 : decode cX7_amount 16 = .ok (.bipush 9, 2) := by decide +kernel
theorem dX7_amount_18 : decode cX7_amount 18 = .ok (.invokevirtual 130, 3) := by decide +kernel
theorem dX7_amount_21 : decode cX7_amount 21 = .ok (.lreturn, 1) := by decide +kernel
theorem dX7_amount_4 : decode cX7_amount 4 = .ok (.iload_n 1, 1) := by decide +kernel
theorem dX7_amount_5 : decode cX7_amount 5 = .ok (.aload_n 0, 1) := by decide +kernel
theorem dX7_amount_6 : decode cX7_amount 6 = .ok (.getfield 42, 3) := by decide +kernel
theorem zf_X7_42 : zz_f RX7 42 6 4 := ⟨RX7, TX7, 8, rfl, zi_X7, by decide, zk_204⟩
theorem dX7_amount_9 : decode cX7_amount 9 = .ok (.getfield 255, 3) := by decide +kernel
theorem zk_171 : Cond.fieldLink RX7 255 RX5 "made" "I" ∈ zz_w := zz_in (List.mem_append_right _ (List.mem_append_left _ (List.mem_of_getElem? (i := 171) (by decide +kernel)))) rfl
theorem zf_X7_255 : zz_f RX7 255 4 1 := ⟨RX5, TX5, 9, rfl, zi_X5, by decide, zk_171⟩
theorem dX7_amount_12 : decode cX7_amount 12 = .ok (.if_icmp .lt 10, 3) := by decide +kernel
def fn_cx_amount (x1 : Int32) : Int64 := (if x1 < 0 then 0 else 0)
abbrev rm_cx_amount : Room := { frames := 1, cells := 0, slots := 0, locals := 21 }
abbrev po_cx_amount (g : zz_G) (h0 : Nat) (st : Nat) (mk : Nat) (lk : Nat) (ch : Nat) (ru : Nat) (mr : Nat) (u_so : Nat) (u_ju : Nat) (u_we : Nat) (u_lo : Nat) (u_hi : Nat) (u_ta : Nat) (u_bo : Nat) (x1 : Int32) : Int64 → va_W → Prop := fun (r : Int64) (u : va_W) => r = fn_cx_amount x1
set_option maxHeartbeats 4000000 in
set_option maxRecDepth 100000 in
theorem cx_amount (g : zz_G) (h0 : Nat) (st : Nat) (mk : Nat) (lk : Nat) (ch : Nat) (ru : Nat) (mr : Nat) (u_so : Nat) (u_ju : Nat) (u_we : Nat) (u_lo : Nat) (u_hi : Nat) (u_ta : Nat) (u_bo : Nat) (x1 : Int32) : zz_L g yX7_amount (.code yX7_amount cX7_amount 2 (some .long)) rm_cx_amount [.ref h0, .int x1] [(h0, .inr (6, [.ref st, .ref mk, .ref lk, .ref ch, .ref ru, .ref mr, .int 0, .int 0])), (ru, .inr (4, [.ref st, .int 0, .ref u_so, .ref u_ju, .ref u_we, .ref u_lo, .ref u_hi, .ref u_ta, .ref u_bo]))] (po_cx_amount g h0 st mk lk ch ru mr u_so u_ju u_we u_lo u_hi u_ta u_bo x1) := by
  refine zz_L.intro (own := RX7) (cc := cX7_amount) (nL := 2) (by decide) rfl (Nat.le_of_ble_eq_true rfl) ?_
  intro p l e s m args below meth c A H locs ls hC hnm hZ hl
  obtain ⟨hx, hb, hml, hown, hts, hr, hlocks, hK⟩ := id hC
  have hl : lv_has ls 2 [(0, .ref h0), (1, .int x1)] := hl
  have hZ : zz_Z g A s.heap [(h0, .inr (6, [.ref st, .ref mk, .ref lk, .ref ch, .ref ru, .ref mr, .int 0, .int 0])), (ru, .inr (4, [.ref st, .int 0, .ref u_so, .ref u_ju, .ref u_we, .ref u_lo, .ref u_hi, .ref u_ta, .ref u_bo]))] H locs := hZ
  refine lv_iload_n hx hb dX7_amount_0 rfl (lv_at hl 1 rfl) ?_
  refine lv_if_lt (tgt := 15) hx hb dX7_amount_1 (by decide) (fun c1 => ?_) (fun c1 => ?_)
  · refine lv_aload_n hx hb dX7_amount_15 rfl (lv_at hl 0 rfl) ?_
    refine lv_bipush (v := 9) hx hb dX7_amount_16 (by decide) ?_
    refine zz_lV (As := [.int 9]) (wc := [(h0, .inr (6, [.ref st, .ref mk, .ref lk, .ref ch, .ref ru, .ref mr, .int 0, .int 0]))]) (wr := [(ru, .inr (4, [.ref st, .int 0, .ref u_so, .ref u_ju, .ref u_we, .ref u_lo, .ref u_hi, .ref u_ta, .ref u_bo]))]) (rest := []) hC hZ hl zc_X7_130 (co_noBits g h0 st mk lk ch ru mr 0 0 9) [0] [1] rfl rfl (by decide) (ci := 6) (q0 := 0) rfl rfl rfl rfl (Nat.le_of_ble_eq_true rfl) ⟨⟨Nat.le_of_ble_eq_true rfl, Nat.le_of_ble_eq_true rfl⟩, Nat.le_of_ble_eq_true rfl, Nat.le_of_ble_eq_true rfl⟩ dX7_amount_18 (fun r2 u3 H locs hp hZ => ?_)
    obtain ⟨rfl, rfl⟩ := hp
    have hZ : zz_Z g A s.heap [(ru, .inr (4, [.ref st, .int 0, .ref u_so, .ref u_ju, .ref u_we, .ref u_lo, .ref u_hi, .ref u_ta, .ref u_bo])), (h0, .inr (6, [.ref st, .ref mk, .ref lk, .ref ch, .ref ru, .ref mr, .int 0, .int 9]))] H locs := hZ
    exact zz_lret hC hZ (by show _ = _; rw [fn_cx_amount, if_pos c1]) (Nat.le_of_ble_eq_true rfl) (Nat.le_of_ble_eq_true rfl) dX7_amount_21
  · refine lv_iload_n hx hb dX7_amount_4 rfl (lv_at hl 1 rfl) ?_
    refine lv_aload_n hx hb dX7_amount_5 rfl (lv_at hl 0 rfl) ?_
    refine zz_get hC hZ 0 rfl zf_X7_42 rfl dX7_amount_6 ?_
    refine zz_get hC hZ 1 rfl zf_X7_255 rfl dX7_amount_9 ?_
    refine lv_icmp_lt (tgt := 22) hx hb dX7_amount_12 (by decide) (fun c => absurd c (c1)) (fun c4 => ?_)
    refine lv_aload_n hx hb dX7_amount_15 rfl (lv_at hl 0 rfl) ?_
    refine lv_bipush (v := 9) hx hb dX7_amount_16 (by decide) ?_
    refine zz_lV (As := [.int 9]) (wc := [(h0, .inr (6, [.ref st, .ref mk, .ref lk, .ref ch, .ref ru, .ref mr, .int 0, .int 0]))]) (wr := [(ru, .inr (4, [.ref st, .int 0, .ref u_so, .ref u_ju, .ref u_we, .ref u_lo, .ref u_hi, .ref u_ta, .ref u_bo]))]) (rest := []) hC hZ hl zc_X7_130 (co_noBits g h0 st mk lk ch ru mr 0 0 9) [0] [1] rfl rfl (by decide) (ci := 6) (q0 := 0) rfl rfl rfl rfl (Nat.le_of_ble_eq_true rfl) ⟨⟨Nat.le_of_ble_eq_true rfl, Nat.le_of_ble_eq_true rfl⟩, Nat.le_of_ble_eq_true rfl, Nat.le_of_ble_eq_true rfl⟩ dX7_amount_18 (fun r5 u6 H locs hp hZ => ?_)
    obtain ⟨rfl, rfl⟩ := hp
    have hZ : zz_Z g A s.heap [(ru, .inr (4, [.ref st, .int 0, .ref u_so, .ref u_ju, .ref u_we, .ref u_lo, .ref u_hi, .ref u_ta, .ref u_bo])), (h0, .inr (6, [.ref st, .ref mk, .ref lk, .ref ch, .ref ru, .ref mr, .int 0, .int 9]))] H locs := hZ
    exact zz_lret hC hZ (by show _ = _; rw [fn_cx_amount, if_neg c1]) (Nat.le_of_ble_eq_true rfl) (Nat.le_of_ble_eq_true rfl) dX7_amount_21
theorem dX7_score_0 : decode cX7_score 0 = .ok (.aload_n 0, 1) := by decide +kernel
theorem dX7_score_1 : decode cX7_score 1 = .ok (.getfield 42, 3) := by decide +kernel
theorem dX7_score_4 : decode cX7_score 4 = .ok (.invokevirtual 266, 3) := by decide +kernel
theorem zk_652 : Cond.methodLink RX7 266 yX5_measureAll ∈ zz_w := zz_in (List.mem_append_right _ (List.mem_append_right _ (List.mem_append_right _ (List.mem_append_left _ (List.mem_of_getElem? (i := 172) (by decide +kernel)))))) rfl
set_option maxRecDepth 20000 in
theorem zk_655 : Cond.code yX5_measureAll cX5_measureAll 2 none ∈ zz_w := zz_in (List.mem_append_right _ (List.mem_append_right _ (List.mem_append_right _ (List.mem_append_left _ (List.mem_of_getElem? (i := 175) (rfl)))))) rfl
theorem zk_653 : Cond.instanceMethod yX5_measureAll ∈ zz_w := zz_in (List.mem_append_right _ (List.mem_append_right _ (List.mem_append_right _ (List.mem_append_left _ (List.mem_of_getElem? (i := 173) (by decide +kernel)))))) rfl
theorem zk_654 : Cond.selects RX5 yX5_measureAll yX5_measureAll ∈ zz_w := zz_in (List.mem_append_right _ (List.mem_append_right _ (List.mem_append_right _ (List.mem_append_left _ (List.mem_of_getElem? (i := 174) (by decide +kernel)))))) rfl
theorem zc_X7_266 : zz_cV RX7 266 yX5_measureAll cX5_measureAll 2 none 0 := ⟨⟨zk_652, zk_655, zk_6, by decide, by decide, by decide +kernel⟩, zk_653, zk_654⟩
theorem dX7_score_7 : decode cX7_score 7 = .ok (.aload_n 0, 1) := by decide +kernel
theorem dX7_score_8 : decode cX7_score 8 = .ok (.getfield 42, 3) := by decide +kernel
theorem dX7_score_11 : decode cX7_score 11 = .ok (.invokevirtual 269, 3) := by decide +kernel
theorem zk_657 : Cond.methodLink RX7 269 yX5_total ∈ zz_w := zz_in (List.mem_append_right _ (List.mem_append_right _ (List.mem_append_right _ (List.mem_append_left _ (List.mem_of_getElem? (i := 177) (by decide +kernel)))))) rfl
set_option maxRecDepth 20000 in
theorem zk_660 : Cond.code yX5_total cX5_total 4 (some .long) ∈ zz_w := zz_in (List.mem_append_right _ (List.mem_append_right _ (List.mem_append_right _ (List.mem_append_left _ (List.mem_of_getElem? (i := 180) (rfl)))))) rfl
theorem zk_658 : Cond.instanceMethod yX5_total ∈ zz_w := zz_in (List.mem_append_right _ (List.mem_append_right _ (List.mem_append_right _ (List.mem_append_left _ (List.mem_of_getElem? (i := 178) (by decide +kernel)))))) rfl
theorem zk_659 : Cond.selects RX5 yX5_total yX5_total ∈ zz_w := zz_in (List.mem_append_right _ (List.mem_append_right _ (List.mem_append_right _ (List.mem_append_left _ (List.mem_of_getElem? (i := 179) (by decide +kernel)))))) rfl
theorem zc_X7_269 : zz_cV RX7 269 yX5_total cX5_total 4 (some .long) 0 := ⟨⟨zk_657, zk_660, zk_6, by decide, by decide, by decide +kernel⟩, zk_658, zk_659⟩
theorem dX7_score_14 : decode cX7_score 14 = .ok (.lreturn, 1) := by decide +kernel
def fn_cx_score  : Int64 := 0
abbrev rm_cx_score : Room := { frames := 1, cells := 0, slots := 0, locals := 23 }
abbrev po_cx_score (g : zz_G) (h0 : Nat) (st : Nat) (mk : Nat) (lk : Nat) (ch : Nat) (ru : Nat) (mr : Nat) (u_so : Nat) (u_ju : Nat) (u_we : Nat) (u_lo : Nat) (u_hi : Nat) (u_ta : Nat) (u_bo : Nat) : Int64 → va_W → Prop := fun (r : Int64) (u : va_W) => r = fn_cx_score
set_option maxHeartbeats 4000000 in
set_option maxRecDepth 100000 in
theorem cx_score (g : zz_G) (h0 : Nat) (st : Nat) (mk : Nat) (lk : Nat) (ch : Nat) (ru : Nat) (mr : Nat) (u_so : Nat) (u_ju : Nat) (u_we : Nat) (u_lo : Nat) (u_hi : Nat) (u_ta : Nat) (u_bo : Nat) : zz_L g yX7_score (.code yX7_score cX7_score 1 (some .long)) rm_cx_score [.ref h0] [(h0, .inr (6, [.ref st, .ref mk, .ref lk, .ref ch, .ref ru, .ref mr, .int 0, .int 0])), (ru, .inr (4, [.ref st, .int 0, .ref u_so, .ref u_ju, .ref u_we, .ref u_lo, .ref u_hi, .ref u_ta, .ref u_bo]))] (po_cx_score g h0 st mk lk ch ru mr u_so u_ju u_we u_lo u_hi u_ta u_bo) := by
  refine zz_L.intro (own := RX7) (cc := cX7_score) (nL := 1) (by decide) rfl (Nat.le_of_ble_eq_true rfl) ?_
  intro p l e s m args below meth c A H locs ls hC hnm hZ hl
  obtain ⟨hx, hb, hml, hown, hts, hr, hlocks, hK⟩ := id hC
  have hl : lv_has ls 1 [(0, .ref h0)] := hl
  have hZ : zz_Z g A s.heap [(h0, .inr (6, [.ref st, .ref mk, .ref lk, .ref ch, .ref ru, .ref mr, .int 0, .int 0])), (ru, .inr (4, [.ref st, .int 0, .ref u_so, .ref u_ju, .ref u_we, .ref u_lo, .ref u_hi, .ref u_ta, .ref u_bo]))] H locs := hZ
  refine lv_aload_n hx hb dX7_score_0 rfl (lv_at hl 0 rfl) ?_
  refine zz_get hC hZ 0 rfl zf_X7_42 rfl dX7_score_1 ?_
  refine zz_vV (As := []) (wc := [(ru, .inr (4, [.ref st, .int 0, .ref u_so, .ref u_ju, .ref u_we, .ref u_lo, .ref u_hi, .ref u_ta, .ref u_bo]))]) (wr := [(h0, .inr (6, [.ref st, .ref mk, .ref lk, .ref ch, .ref ru, .ref mr, .int 0, .int 0]))]) (rest := []) hC hZ hl zc_X7_266 (co_measureAll0 g st ru u_so u_ju u_we u_lo u_hi u_ta u_bo) [1] [0] rfl rfl (by decide) (ci := 4) (q0 := 0) rfl rfl rfl rfl (Nat.le_of_ble_eq_true rfl) ⟨⟨Nat.le_of_ble_eq_true rfl, Nat.le_of_ble_eq_true rfl⟩, Nat.le_of_ble_eq_true rfl, Nat.le_of_ble_eq_true rfl⟩ dX7_score_4 (fun u2 H locs hp hZ => ?_)
  obtain rfl := hp
  have hZ : zz_Z g A s.heap [(h0, .inr (6, [.ref st, .ref mk, .ref lk, .ref ch, .ref ru, .ref mr, .int 0, .int 0])), (ru, .inr (4, [.ref st, .int 0, .ref u_so, .ref u_ju, .ref u_we, .ref u_lo, .ref u_hi, .ref u_ta, .ref u_bo]))] H locs := hZ
  refine lv_aload_n hx hb dX7_score_7 rfl (lv_at hl 0 rfl) ?_
  refine zz_get hC hZ 0 rfl zf_X7_42 rfl dX7_score_8 ?_
  refine zz_lV (As := []) (wc := [(ru, .inr (4, [.ref st, .int 0, .ref u_so, .ref u_ju, .ref u_we, .ref u_lo, .ref u_hi, .ref u_ta, .ref u_bo]))]) (wr := [(h0, .inr (6, [.ref st, .ref mk, .ref lk, .ref ch, .ref ru, .ref mr, .int 0, .int 0]))]) (rest := []) hC hZ hl zc_X7_269 (co_total0 g st ru u_so u_ju u_we u_lo u_hi u_ta u_bo) [1] [0] rfl rfl (by decide) (ci := 4) (q0 := 0) rfl rfl rfl rfl (Nat.le_of_ble_eq_true rfl) ⟨⟨Nat.le_of_ble_eq_true rfl, Nat.le_of_ble_eq_true rfl⟩, Nat.le_of_ble_eq_true rfl, Nat.le_of_ble_eq_true rfl⟩ dX7_score_11 (fun r3 u4 H locs hp hZ => ?_)
  obtain ⟨rfl, rfl⟩ := hp
  have hZ : zz_Z g A s.heap [(h0, .inr (6, [.ref st, .ref mk, .ref lk, .ref ch, .ref ru, .ref mr, .int 0, .int 0])), (ru, .inr (4, [.ref st, .int 0, .ref u_so, .ref u_ju, .ref u_we, .ref u_lo, .ref u_hi, .ref u_ta, .ref u_bo]))] H locs := hZ
  exact zz_lret hC hZ (rfl) (Nat.le_of_ble_eq_true rfl) (Nat.le_of_ble_eq_true rfl) dX7_score_14
theorem dX7_best_0 : decode cX7_best 0 = .ok (.aload_n 0, 1) := by decide +kernel
theorem dX7_best_1 : decode cX7_best 1 = .ok (.getfield 35, 3) := by decide +kernel
theorem dX7_best_4 : decode cX7_best 4 = .ok (.invokevirtual 273, 3) := by decide +kernel
theorem zk_666 : Cond.methodLink RX7 273 yX0_ways ∈ zz_w := zz_in (List.mem_append_right _ (List.mem_append_right _ (List.mem_append_right _ (List.mem_append_left _ (List.mem_of_getElem? (i := 186) (by decide +kernel)))))) rfl
set_option maxRecDepth 20000 in
theorem zk_669 : Cond.code yX0_ways cX0_ways 3 (some .int) ∈ zz_w := zz_in (List.mem_append_right _ (List.mem_append_right _ (List.mem_append_right _ (List.mem_append_left _ (List.mem_of_getElem? (i := 189) (rfl)))))) rfl
theorem zk_667 : Cond.instanceMethod yX0_ways ∈ zz_w := zz_in (List.mem_append_right _ (List.mem_append_right _ (List.mem_append_right _ (List.mem_append_left _ (List.mem_of_getElem? (i := 187) (by decide +kernel)))))) rfl
theorem zk_668 : Cond.selects RX0 yX0_ways yX0_ways ∈ zz_w := zz_in (List.mem_append_right _ (List.mem_append_right _ (List.mem_append_right _ (List.mem_append_left _ (List.mem_of_getElem? (i := 188) (by decide +kernel)))))) rfl
theorem zc_X7_273 : zz_cV RX7 273 yX0_ways cX0_ways 3 (some .int) 0 := ⟨⟨zk_666, zk_669, zk_5, by decide, by decide, by decide +kernel⟩, zk_667, zk_668⟩
theorem dX7_best_7 : decode cX7_best 7 = .ok (.istore_n 1, 1) := by decide +kernel
theorem dX7_best_8 : decode cX7_best 8 = .ok (.iload_n 1, 1) := by decide +kernel
theorem dX7_best_9 : decode cX7_best 9 = .ok (.sipush 5000, 3) := by decide +kernel
theorem dX7_best_12 : decode cX7_best 12 = .ok (.if_icmp .le 10, 3) := by decide +kernel
theorem dX7_best_22 : decode cX7_best 22 = .ok (.aload_n 0, 1) := by decide +kernel
theorem dX7_best_23 : decode cX7_best 23 = .ok (.getfield 35, 3) := by decide +kernel
theorem dX7_best_26 : decode cX7_best 26 = .ok (.iconst 0, 1) := by decide +kernel
theorem dX7_best_27 : decode cX7_best 27 = .ok (.invokevirtual 277, 3) := by decide +kernel
theorem zk_674 : Cond.methodLink RX7 277 yX0_takeWay ∈ zz_w := zz_in (List.mem_append_right _ (List.mem_append_right _ (List.mem_append_right _ (List.mem_append_left _ (List.mem_of_getElem? (i := 194) (by decide +kernel)))))) rfl
set_option maxRecDepth 20000 in
theorem zk_677 : Cond.code yX0_takeWay cX0_takeWay 4 none ∈ zz_w := zz_in (List.mem_append_right _ (List.mem_append_right _ (List.mem_append_right _ (List.mem_append_left _ (List.mem_of_getElem? (i := 197) (rfl)))))) rfl
theorem zk_675 : Cond.instanceMethod yX0_takeWay ∈ zz_w := zz_in (List.mem_append_right _ (List.mem_append_right _ (List.mem_append_right _ (List.mem_append_left _ (List.mem_of_getElem? (i := 195) (by decide +kernel)))))) rfl
theorem zk_676 : Cond.selects RX0 yX0_takeWay yX0_takeWay ∈ zz_w := zz_in (List.mem_append_right _ (List.mem_append_right _ (List.mem_append_right _ (List.mem_append_left _ (List.mem_of_getElem? (i := 196) (by decide +kernel)))))) rfl
theorem zc_X7_277 : zz_cV RX7 277 yX0_takeWay cX0_takeWay 4 none 1 := ⟨⟨zk_674, zk_677, zk_5, by decide, by decide, by decide +kernel⟩, zk_675, zk_676⟩
theorem dX7_best_30 : decode cX7_best 30 = .ok (.aload_n 0, 1) := by decide +kernel
theorem dX7_best_31 : decode cX7_best 31 = .ok (.getfield 42, 3) := by decide +kernel
theorem dX7_best_34 : decode cX7_best 34 = .ok (.invokevirtual 266, 3) := by decide +kernel
theorem dX7_best_37 : decode cX7_best 37 = .ok (.aload_n 0, 1) := by decide +kernel
theorem dX7_best_38 : decode cX7_best 38 = .ok (.getfield 42, 3) := by decide +kernel
theorem dX7_best_41 : decode cX7_best 41 = .ok (.invokevirtual 269, 3) := by decide +kernel
theorem dX7_best_44 : decode cX7_best 44 = .ok (.lstore_n 2, 1) := by decide +kernel
theorem dX7_best_45 : decode cX7_best 45 = .ok (.iconst 0, 1) := by decide +kernel
theorem dX7_best_46 : decode cX7_best 46 = .ok (.istore 4, 2) := by decide +kernel
theorem dX7_best_48 : decode cX7_best 48 = .ok (.iconst 1, 1) := by decide +kernel
theorem dX7_best_49 : decode cX7_best 49 = .ok (.istore 5, 2) := by decide +kernel
theorem dX7_best_51 : decode cX7_best 51 = .ok (.iload 5, 2) := by decide +kernel
theorem dX7_best_53 : decode cX7_best 53 = .ok (.iload_n 1, 1) := by decide +kernel
theorem dX7_best_54 : decode cX7_best 54 = .ok (.if_icmp .ge 43, 3) := by decide +kernel
theorem dX7_best_97 : decode cX7_best 97 = .ok (.aload_n 0, 1) := by decide +kernel
theorem dX7_best_98 : decode cX7_best 98 = .ok (.getfield 35, 3) := by decide +kernel
theorem dX7_best_101 : decode cX7_best 101 = .ok (.iload 4, 2) := by decide +kernel
theorem dX7_best_103 : decode cX7_best 103 = .ok (.invokevirtual 277, 3) := by decide +kernel
theorem dX7_best_106 : decode cX7_best 106 = .ok (.aload_n 0, 1) := by decide +kernel
theorem dX7_best_107 : decode cX7_best 107 = .ok (.iload_n 1, 1) := by decide +kernel
theorem dX7_best_108 : decode cX7_best 108 = .ok (.invokevirtual 100, 3) := by decide +kernel
theorem dX7_best_111 : decode cX7_best 111 = .ok (.ireturn, 1) := by decide +kernel
def fn_cx_best  : Int32 := 1
abbrev rm_cx_best : Room := { frames := 1, cells := 0, slots := 0, locals := 23 }
abbrev po_cx_best (g : zz_G) (h0 : Nat) (st : Nat) (mk : Nat) (lk : Nat) (ch : Nat) (ru : Nat) (mr : Nat) (c_pl : Nat) (c_sl : Nat) (c_co : Nat) (c_ca : Nat) (c_tu : Nat) (u_so : Nat) (u_ju : Nat) (u_we : Nat) (u_lo : Nat) (u_hi : Nat) (u_ta : Nat) (u_bo : Nat) : Int32 → va_W → Prop := fun (r : Int32) (u : va_W) => r = fn_cx_best
set_option maxHeartbeats 4000000 in
set_option maxRecDepth 100000 in
theorem cx_best (g : zz_G) (h0 : Nat) (st : Nat) (mk : Nat) (lk : Nat) (ch : Nat) (ru : Nat) (mr : Nat) (c_pl : Nat) (c_sl : Nat) (c_co : Nat) (c_ca : Nat) (c_tu : Nat) (u_so : Nat) (u_ju : Nat) (u_we : Nat) (u_lo : Nat) (u_hi : Nat) (u_ta : Nat) (u_bo : Nat) : zz_I g yX7_best (.code yX7_best cX7_best 8 (some .int)) rm_cx_best [.ref h0] [(h0, .inr (6, [.ref st, .ref mk, .ref lk, .ref ch, .ref ru, .ref mr, .int 0, .int 0])), (ch, .inr (0, [.ref st, .int 0, .ref c_pl, .ref c_sl, .ref c_co, .ref c_ca, .ref c_tu])), (ru, .inr (4, [.ref st, .int 0, .ref u_so, .ref u_ju, .ref u_we, .ref u_lo, .ref u_hi, .ref u_ta, .ref u_bo]))] (po_cx_best g h0 st mk lk ch ru mr c_pl c_sl c_co c_ca c_tu u_so u_ju u_we u_lo u_hi u_ta u_bo) := by
  refine zz_I.intro (own := RX7) (cc := cX7_best) (nL := 8) (by decide) rfl (Nat.le_of_ble_eq_true rfl) ?_
  intro p l e s m args below meth c A H locs ls hC hnm hZ hl
  obtain ⟨hx, hb, hml, hown, hts, hr, hlocks, hK⟩ := id hC
  have hl : lv_has ls 8 [(0, .ref h0)] := hl
  have hZ : zz_Z g A s.heap [(h0, .inr (6, [.ref st, .ref mk, .ref lk, .ref ch, .ref ru, .ref mr, .int 0, .int 0])), (ch, .inr (0, [.ref st, .int 0, .ref c_pl, .ref c_sl, .ref c_co, .ref c_ca, .ref c_tu])), (ru, .inr (4, [.ref st, .int 0, .ref u_so, .ref u_ju, .ref u_we, .ref u_lo, .ref u_hi, .ref u_ta, .ref u_bo]))] H locs := hZ
  refine lv_aload_n hx hb dX7_best_0 rfl (lv_at hl 0 rfl) ?_
  refine zz_get hC hZ 0 rfl zf_X7_35 rfl dX7_best_1 ?_
  refine zz_iV (As := []) (wc := [(ch, .inr (0, [.ref st, .int 0, .ref c_pl, .ref c_sl, .ref c_co, .ref c_ca, .ref c_tu]))]) (wr := [(h0, .inr (6, [.ref st, .ref mk, .ref lk, .ref ch, .ref ru, .ref mr, .int 0, .int 0])), (ru, .inr (4, [.ref st, .int 0, .ref u_so, .ref u_ju, .ref u_we, .ref u_lo, .ref u_hi, .ref u_ta, .ref u_bo]))]) (rest := []) hC hZ hl zc_X7_273 (co_ways0 g st ch c_pl c_sl c_co c_ca c_tu) [1] [0, 2] rfl rfl (by decide) (ci := 0) (q0 := 0) rfl rfl rfl rfl (Nat.le_of_ble_eq_true rfl) ⟨⟨Nat.le_of_ble_eq_true rfl, Nat.le_of_ble_eq_true rfl⟩, Nat.le_of_ble_eq_true rfl, Nat.le_of_ble_eq_true rfl⟩ dX7_best_4 (fun r1 u2 H locs hp hZ => ?_)
  obtain ⟨rfl, rfl⟩ := hp
  have hZ : zz_Z g A s.heap [(h0, .inr (6, [.ref st, .ref mk, .ref lk, .ref ch, .ref ru, .ref mr, .int 0, .int 0])), (ru, .inr (4, [.ref st, .int 0, .ref u_so, .ref u_ju, .ref u_we, .ref u_lo, .ref u_hi, .ref u_ta, .ref u_bo])), (ch, .inr (0, [.ref st, .int 0, .ref c_pl, .ref c_sl, .ref c_co, .ref c_ca, .ref c_tu]))] H locs := hZ
  refine lv_istore_n (lv' := [(1, .int 1), (0, .ref h0)]) hx hb dX7_best_7 rfl hl (by decide) rfl (fun ls hl => ?_)
  refine lv_iload_n hx hb dX7_best_8 rfl (lv_at hl 0 rfl) ?_
  refine lv_sipush (v := 5000) hx hb dX7_best_9 (by decide) ?_
  refine lv_icmp_le (tgt := 22) hx hb dX7_best_12 (by decide) (fun c3 => ?_) (fun c => absurd (by decide) c)
  refine lv_aload_n hx hb dX7_best_22 rfl (lv_at hl 1 rfl) ?_
  refine zz_get hC hZ 0 rfl zf_X7_35 rfl dX7_best_23 ?_
  refine lv_iconst (v := 0) hx hb dX7_best_26 (by decide) ?_
  refine zz_vV (As := [.int 0]) (wc := [(ch, .inr (0, [.ref st, .int 0, .ref c_pl, .ref c_sl, .ref c_co, .ref c_ca, .ref c_tu]))]) (wr := [(h0, .inr (6, [.ref st, .ref mk, .ref lk, .ref ch, .ref ru, .ref mr, .int 0, .int 0])), (ru, .inr (4, [.ref st, .int 0, .ref u_so, .ref u_ju, .ref u_we, .ref u_lo, .ref u_hi, .ref u_ta, .ref u_bo]))]) (rest := []) hC hZ hl zc_X7_277 (co_takeWay0 g st ch c_pl c_sl c_co c_ca c_tu 0) [2] [0, 1] rfl rfl (by decide) (ci := 0) (q0 := 0) rfl rfl rfl rfl (Nat.le_of_ble_eq_true rfl) ⟨⟨Nat.le_of_ble_eq_true rfl, Nat.le_of_ble_eq_true rfl⟩, Nat.le_of_ble_eq_true rfl, Nat.le_of_ble_eq_true rfl⟩ dX7_best_27 (fun u5 H locs hp hZ => ?_)
  obtain rfl := hp
  have hZ : zz_Z g A s.heap [(h0, .inr (6, [.ref st, .ref mk, .ref lk, .ref ch, .ref ru, .ref mr, .int 0, .int 0])), (ru, .inr (4, [.ref st, .int 0, .ref u_so, .ref u_ju, .ref u_we, .ref u_lo, .ref u_hi, .ref u_ta, .ref u_bo])), (ch, .inr (0, [.ref st, .int 0, .ref c_pl, .ref c_sl, .ref c_co, .ref c_ca, .ref c_tu]))] H locs := hZ
  refine lv_aload_n hx hb dX7_best_30 rfl (lv_at hl 1 rfl) ?_
  refine zz_get hC hZ 0 rfl zf_X7_42 rfl dX7_best_31 ?_
  refine zz_vV (As := []) (wc := [(ru, .inr (4, [.ref st, .int 0, .ref u_so, .ref u_ju, .ref u_we, .ref u_lo, .ref u_hi, .ref u_ta, .ref u_bo]))]) (wr := [(h0, .inr (6, [.ref st, .ref mk, .ref lk, .ref ch, .ref ru, .ref mr, .int 0, .int 0])), (ch, .inr (0, [.ref st, .int 0, .ref c_pl, .ref c_sl, .ref c_co, .ref c_ca, .ref c_tu]))]) (rest := []) hC hZ hl zc_X7_266 (co_measureAll0 g st ru u_so u_ju u_we u_lo u_hi u_ta u_bo) [1] [0, 2] rfl rfl (by decide) (ci := 4) (q0 := 0) rfl rfl rfl rfl (Nat.le_of_ble_eq_true rfl) ⟨⟨Nat.le_of_ble_eq_true rfl, Nat.le_of_ble_eq_true rfl⟩, Nat.le_of_ble_eq_true rfl, Nat.le_of_ble_eq_true rfl⟩ dX7_best_34 (fun u7 H locs hp hZ => ?_)
  obtain rfl := hp
  have hZ : zz_Z g A s.heap [(h0, .inr (6, [.ref st, .ref mk, .ref lk, .ref ch, .ref ru, .ref mr, .int 0, .int 0])), (ch, .inr (0, [.ref st, .int 0, .ref c_pl, .ref c_sl, .ref c_co, .ref c_ca, .ref c_tu])), (ru, .inr (4, [.ref st, .int 0, .ref u_so, .ref u_ju, .ref u_we, .ref u_lo, .ref u_hi, .ref u_ta, .ref u_bo]))] H locs := hZ
  refine lv_aload_n hx hb dX7_best_37 rfl (lv_at hl 1 rfl) ?_
  refine zz_get hC hZ 0 rfl zf_X7_42 rfl dX7_best_38 ?_
  refine zz_lV (As := []) (wc := [(ru, .inr (4, [.ref st, .int 0, .ref u_so, .ref u_ju, .ref u_we, .ref u_lo, .ref u_hi, .ref u_ta, .ref u_bo]))]) (wr := [(h0, .inr (6, [.ref st, .ref mk, .ref lk, .ref ch, .ref ru, .ref mr, .int 0, .int 0])), (ch, .inr (0, [.ref st, .int 0, .ref c_pl, .ref c_sl, .ref c_co, .ref c_ca, .ref c_tu]))]) (rest := []) hC hZ hl zc_X7_269 (co_total0 g st ru u_so u_ju u_we u_lo u_hi u_ta u_bo) [2] [0, 1] rfl rfl (by decide) (ci := 4) (q0 := 0) rfl rfl rfl rfl (Nat.le_of_ble_eq_true rfl) ⟨⟨Nat.le_of_ble_eq_true rfl, Nat.le_of_ble_eq_true rfl⟩, Nat.le_of_ble_eq_true rfl, Nat.le_of_ble_eq_true rfl⟩ dX7_best_41 (fun r8 u9 H locs hp hZ => ?_)
  obtain ⟨rfl, rfl⟩ := hp
  have hZ : zz_Z g A s.heap [(h0, .inr (6, [.ref st, .ref mk, .ref lk, .ref ch, .ref ru, .ref mr, .int 0, .int 0])), (ch, .inr (0, [.ref st, .int 0, .ref c_pl, .ref c_sl, .ref c_co, .ref c_ca, .ref c_tu])), (ru, .inr (4, [.ref st, .int 0, .ref u_so, .ref u_ju, .ref u_we, .ref u_lo, .ref u_hi, .ref u_ta, .ref u_bo]))] H locs := hZ
  refine lv_lstore_n (lv' := [(2, .long 0), (1, .int 1), (0, .ref h0)]) hx hb dX7_best_44 rfl hl (by decide) rfl (fun ls hl => ?_)
  refine lv_iconst (v := 0) hx hb dX7_best_45 (by decide) ?_
  refine lv_istore (lv' := [(4, .int 0), (2, .long 0), (1, .int 1), (0, .ref h0)]) hx hb dX7_best_46 hl (by decide) rfl (fun ls hl => ?_)
  refine lv_iconst (v := 1) hx hb dX7_best_48 (by decide) ?_
  refine lv_istore (lv' := [(5, .int 1), (4, .int 0), (2, .long 0), (1, .int 1), (0, .ref h0)]) hx hb dX7_best_49 hl (by decide) rfl (fun ls hl => ?_)
  refine lv_iload hx hb dX7_best_51 (lv_at hl 0 rfl) ?_
  refine lv_iload_n hx hb dX7_best_53 rfl (lv_at hl 3 rfl) ?_
  refine lv_icmp_ge (tgt := 97) hx hb dX7_best_54 (by decide) (fun c10 => ?_) (fun c => absurd (by decide) c)
  refine lv_aload_n hx hb dX7_best_97 rfl (lv_at hl 4 rfl) ?_
  refine zz_get hC hZ 0 rfl zf_X7_35 rfl dX7_best_98 ?_
  refine lv_iload hx hb dX7_best_101 (lv_at hl 1 rfl) ?_
  refine zz_vV (As := [.int 0]) (wc := [(ch, .inr (0, [.ref st, .int 0, .ref c_pl, .ref c_sl, .ref c_co, .ref c_ca, .ref c_tu]))]) (wr := [(h0, .inr (6, [.ref st, .ref mk, .ref lk, .ref ch, .ref ru, .ref mr, .int 0, .int 0])), (ru, .inr (4, [.ref st, .int 0, .ref u_so, .ref u_ju, .ref u_we, .ref u_lo, .ref u_hi, .ref u_ta, .ref u_bo]))]) (rest := []) hC hZ hl zc_X7_277 (co_takeWay0 g st ch c_pl c_sl c_co c_ca c_tu 0) [1] [0, 2] rfl rfl (by decide) (ci := 0) (q0 := 0) rfl rfl rfl rfl (Nat.le_of_ble_eq_true rfl) ⟨⟨Nat.le_of_ble_eq_true rfl, Nat.le_of_ble_eq_true rfl⟩, Nat.le_of_ble_eq_true rfl, Nat.le_of_ble_eq_true rfl⟩ dX7_best_103 (fun u12 H locs hp hZ => ?_)
  obtain rfl := hp
  have hZ : zz_Z g A s.heap [(h0, .inr (6, [.ref st, .ref mk, .ref lk, .ref ch, .ref ru, .ref mr, .int 0, .int 0])), (ru, .inr (4, [.ref st, .int 0, .ref u_so, .ref u_ju, .ref u_we, .ref u_lo, .ref u_hi, .ref u_ta, .ref u_bo])), (ch, .inr (0, [.ref st, .int 0, .ref c_pl, .ref c_sl, .ref c_co, .ref c_ca, .ref c_tu]))] H locs := hZ
  refine lv_aload_n hx hb dX7_best_106 rfl (lv_at hl 4 rfl) ?_
  refine lv_iload_n hx hb dX7_best_107 rfl (lv_at hl 3 rfl) ?_
  refine zz_iV (As := [.int 1]) (wc := [(h0, .inr (6, [.ref st, .ref mk, .ref lk, .ref ch, .ref ru, .ref mr, .int 0, .int 0]))]) (wr := [(ru, .inr (4, [.ref st, .int 0, .ref u_so, .ref u_ju, .ref u_we, .ref u_lo, .ref u_hi, .ref u_ta, .ref u_bo])), (ch, .inr (0, [.ref st, .int 0, .ref c_pl, .ref c_sl, .ref c_co, .ref c_ca, .ref c_tu]))]) (rest := []) hC hZ hl zc_X7_100 (co_fine g h0 st mk lk ch ru mr 0 0 1) [0] [1, 2] rfl rfl (by decide) (ci := 6) (q0 := 0) rfl rfl rfl rfl (Nat.le_of_ble_eq_true rfl) ⟨⟨Nat.le_of_ble_eq_true rfl, Nat.le_of_ble_eq_true rfl⟩, Nat.le_of_ble_eq_true rfl, Nat.le_of_ble_eq_true rfl⟩ dX7_best_108 (fun r13 u14 H locs hp hZ => ?_)
  obtain ⟨rfl, rfl⟩ := hp
  have hZ : zz_Z g A s.heap [(ru, .inr (4, [.ref st, .int 0, .ref u_so, .ref u_ju, .ref u_we, .ref u_lo, .ref u_hi, .ref u_ta, .ref u_bo])), (ch, .inr (0, [.ref st, .int 0, .ref c_pl, .ref c_sl, .ref c_co, .ref c_ca, .ref c_tu])), (h0, .inr (6, [.ref st, .ref mk, .ref lk, .ref ch, .ref ru, .ref mr, .int 0, .int 0]))] H locs := hZ
  exact zz_iret hC hZ (rfl) (Nat.le_of_ble_eq_true rfl) (Nat.le_of_ble_eq_true rfl) dX7_best_111
theorem dX7_mark_0 : decode cX7_mark 0 = .ok (.aload_n 0, 1) := by decide +kernel
theorem dX7_mark_1 : decode cX7_mark 1 = .ok (.getfield 52, 3) := by decide +kernel
theorem zf_X7_52 : zz_f RX7 52 6 6 := ⟨RX7, TX7, 8, rfl, zi_X7, by decide, zk_206⟩
theorem dX7_mark_4 : decode cX7_mark 4 = .ok (.bipush 8, 2) := by decide +kernel
theorem dX7_mark_6 : decode cX7_mark 6 = .ok (.if_icmp .lt 10, 3) := by decide +kernel
theorem dX7_mark_16 : decode cX7_mark 16 = .ok (.aload_n 0, 1) := by decide +kernel
theorem dX7_mark_17 : decode cX7_mark 17 = .ok (.getfield 48, 3) := by decide +kernel
theorem zf_X7_48 : zz_f RX7 48 6 5 := ⟨RX7, TX7, 8, rfl, zi_X7, by decide, zk_205⟩
theorem dX7_mark_20 : decode cX7_mark 20 = .ok (.aload_n 0, 1) := by decide +kernel
theorem dX7_mark_21 : decode cX7_mark 21 = .ok (.getfield 52, 3) := by decide +kernel
theorem dX7_mark_24 : decode cX7_mark 24 = .ok (.aaload, 1) := by decide +kernel
theorem dX7_mark_25 : decode cX7_mark 25 = .ok (.ifnonnull 19, 3) := by decide +kernel
theorem dX7_mark_28 : decode cX7_mark 28 = .ok (.aload_n 0, 1) := by decide +kernel
theorem dX7_mark_29 : decode cX7_mark 29 = .ok (.getfield 48, 3) := by decide +kernel
theorem dX7_mark_32 : decode cX7_mark 32 = .ok (.aload_n 0, 1) := by decide +kernel
theorem dX7_mark_33 : decode cX7_mark 33 = .ok (.getfield 52, 3) := by decide +kernel
theorem dX7_mark_36 : decode cX7_mark 36 = .ok (.new 46, 3) := by decide +kernel
theorem zk_698 : Cond.instantiable RX4 3 ∈ zz_w := zz_in (List.mem_append_right _ (List.mem_append_right _ (List.mem_append_right _ (List.mem_append_left _ (List.mem_of_getElem? (i := 218) (by decide +kernel)))))) rfl
theorem zk_11 : Cond.initialized RX4 ∈ zz_w := zz_in (List.mem_append_right _ (List.mem_append_left _ (List.mem_of_getElem? (i := 11) (by decide +kernel)))) rfl
theorem zn_X7_46 : zz_n RX7 46 3 3 [.null, .null, .int 0] := ⟨RX4, TX4, tyX4, rfl, zi_X4, tyX4_ok, zk_198, zk_698, zk_11, by decide +kernel⟩
theorem dX7_mark_39 : decode cX7_mark 39 = .ok (.dup, 1) := by decide +kernel
theorem dX7_mark_40 : decode cX7_mark 40 = .ok (.invokespecial 284, 3) := by decide +kernel
set_option maxRecDepth 20000 in
theorem zk_701 : Cond.code yX4_init cX4_init 1 none ∈ zz_w := zz_in (List.mem_append_right _ (List.mem_append_right _ (List.mem_append_right _ (List.mem_append_left _ (List.mem_of_getElem? (i := 221) (rfl)))))) rfl
theorem zk_700 : Cond.instanceMethod yX4_init ∈ zz_w := zz_in (List.mem_append_right _ (List.mem_append_right _ (List.mem_append_right _ (List.mem_append_left _ (List.mem_of_getElem? (i := 220) (by decide +kernel)))))) rfl
theorem zc_X7_284 : zz_cN RX7 284 yX4_init "DecisionArrays" cX4_init 1 0 := ⟨by decide, zk_701, zk_11, ⟨by decide, by decide, by decide +kernel⟩, rfl, zk_700⟩
theorem dX7_mark_43 : decode cX7_mark 43 = .ok (.aastore, 1) := by decide +kernel
theorem dX7_mark_44 : decode cX7_mark 44 = .ok (.aload_n 0, 1) := by decide +kernel
theorem dX7_mark_45 : decode cX7_mark 45 = .ok (.getfield 48, 3) := by decide +kernel
theorem dX7_mark_48 : decode cX7_mark 48 = .ok (.aload_n 0, 1) := by decide +kernel
theorem dX7_mark_49 : decode cX7_mark 49 = .ok (.getfield 52, 3) := by decide +kernel
theorem dX7_mark_52 : decode cX7_mark 52 = .ok (.aaload, 1) := by decide +kernel
theorem dX7_mark_53 : decode cX7_mark 53 = .ok (.aload_n 0, 1) := by decide +kernel
theorem dX7_mark_54 : decode cX7_mark 54 = .ok (.getfield 10, 3) := by decide +kernel
theorem dX7_mark_57 : decode cX7_mark 57 = .ok (.invokevirtual 285, 3) := by decide +kernel
theorem zk_713 : Cond.methodLink RX7 285 yX4_keep ∈ zz_w := zz_in (List.mem_append_right _ (List.mem_append_right _ (List.mem_append_right _ (List.mem_append_left _ (List.mem_of_getElem? (i := 233) (by decide +kernel)))))) rfl
set_option maxRecDepth 20000 in
theorem zk_716 : Cond.code yX4_keep cX4_keep 3 none ∈ zz_w := zz_in (List.mem_append_right _ (List.mem_append_right _ (List.mem_append_right _ (List.mem_append_left _ (List.mem_of_getElem? (i := 236) (rfl)))))) rfl
theorem zk_714 : Cond.instanceMethod yX4_keep ∈ zz_w := zz_in (List.mem_append_right _ (List.mem_append_right _ (List.mem_append_right _ (List.mem_append_left _ (List.mem_of_getElem? (i := 234) (by decide +kernel)))))) rfl
theorem zk_715 : Cond.selects RX4 yX4_keep yX4_keep ∈ zz_w := zz_in (List.mem_append_right _ (List.mem_append_right _ (List.mem_append_right _ (List.mem_append_left _ (List.mem_of_getElem? (i := 235) (by decide +kernel)))))) rfl
theorem zc_X7_285 : zz_cV RX7 285 yX4_keep cX4_keep 3 none 1 := ⟨⟨zk_713, zk_716, zk_11, by decide, by decide, by decide +kernel⟩, zk_714, zk_715⟩
theorem dX7_mark_60 : decode cX7_mark 60 = .ok (.aload_n 0, 1) := by decide +kernel
theorem dX7_mark_61 : decode cX7_mark 61 = .ok (.dup, 1) := by decide +kernel
theorem dX7_mark_62 : decode cX7_mark 62 = .ok (.getfield 52, 3) := by decide +kernel
theorem dX7_mark_65 : decode cX7_mark 65 = .ok (.iconst 1, 1) := by decide +kernel
theorem dX7_mark_66 : decode cX7_mark 66 = .ok (.iadd, 1) := by decide +kernel
theorem dX7_mark_67 : decode cX7_mark 67 = .ok (.putfield 52, 3) := by decide +kernel
theorem dX7_mark_70 : decode cX7_mark 70 = .ok (.aload_n 0, 1) := by decide +kernel
theorem dX7_mark_71 : decode cX7_mark 71 = .ok (.aload_n 0, 1) := by decide +kernel
theorem dX7_mark_72 : decode cX7_mark 72 = .ok (.getfield 52, 3) := by decide +kernel
theorem dX7_mark_75 : decode cX7_mark 75 = .ok (.invokevirtual 100, 3) := by decide +kernel
theorem dX7_mark_78 : decode cX7_mark 78 = .ok (.ireturn, 1) := by decide +kernel
def fn_cx_mark  : Int32 := 1
abbrev rm_cx_mark : Room := { frames := 2, cells := 3, slots := 8003, locals := 32 }
abbrev po_cx_mark (g : zz_G) (h0 : Nat) (st : Nat) (mk : Nat) (lk : Nat) (ch : Nat) (ru : Nat) (mr : Nat) (kd : Nat) (dp : Nat) (cl : Nat) (sa : Nat) (ln : Nat) (bt : Nat) (pn : Nat) (bf : Nat) (c_pl : Nat) (c_sl : Nat) (c_co : Nat) (c_ca : Nat) (c_tu : Nat) : Int32 → va_W → Prop := fun (r : Int32) (u : va_W) => r = fn_cx_mark
set_option maxHeartbeats 4000000 in
set_option maxRecDepth 100000 in
theorem cx_mark (g : zz_G) (h0 : Nat) (st : Nat) (mk : Nat) (lk : Nat) (ch : Nat) (ru : Nat) (mr : Nat) (kd : Nat) (dp : Nat) (cl : Nat) (sa : Nat) (ln : Nat) (bt : Nat) (pn : Nat) (bf : Nat) (c_pl : Nat) (c_sl : Nat) (c_co : Nat) (c_ca : Nat) (c_tu : Nat) : zz_I g yX7_mark (.code yX7_mark cX7_mark 1 (some .int)) rm_cx_mark [.ref h0] [(h0, .inr (6, [.ref st, .ref mk, .ref lk, .ref ch, .ref ru, .ref mr, .int 0, .int 0])), (st, .inr (5, [.int 0, .int 0, .ref kd, .ref dp, .ref cl, .ref sa, .ref ln, .ref bt, .ref pn, .ref bf])), (mr, .inl (g.2.2.2.2, 8, .inr (.inr (.inr (.inr (fun _ => none)))))), (ch, .inr (0, [.ref st, .int 0, .ref c_pl, .ref c_sl, .ref c_co, .ref c_ca, .ref c_tu]))] (po_cx_mark g h0 st mk lk ch ru mr kd dp cl sa ln bt pn bf c_pl c_sl c_co c_ca c_tu) := by
  refine zz_I.intro (own := RX7) (cc := cX7_mark) (nL := 1) (by decide) rfl (Nat.le_of_ble_eq_true rfl) ?_
  intro p l e s m args below meth c A H locs ls hC hnm hZ hl
  obtain ⟨hx, hb, hml, hown, hts, hr, hlocks, hK⟩ := id hC
  have hl : lv_has ls 1 [(0, .ref h0)] := hl
  have hZ : zz_Z g A s.heap [(h0, .inr (6, [.ref st, .ref mk, .ref lk, .ref ch, .ref ru, .ref mr, .int 0, .int 0])), (st, .inr (5, [.int 0, .int 0, .ref kd, .ref dp, .ref cl, .ref sa, .ref ln, .ref bt, .ref pn, .ref bf])), (mr, .inl (g.2.2.2.2, 8, .inr (.inr (.inr (.inr (fun _ => none)))))), (ch, .inr (0, [.ref st, .int 0, .ref c_pl, .ref c_sl, .ref c_co, .ref c_ca, .ref c_tu]))] H locs := hZ
  refine lv_aload_n hx hb dX7_mark_0 rfl (lv_at hl 0 rfl) ?_
  refine zz_get hC hZ 0 rfl zf_X7_52 rfl dX7_mark_1 ?_
  refine lv_bipush (v := 8) hx hb dX7_mark_4 (by decide) ?_
  refine lv_icmp_lt (tgt := 16) hx hb dX7_mark_6 (by decide) (fun c1 => ?_) (fun c => absurd (by decide) c)
  refine lv_aload_n hx hb dX7_mark_16 rfl (lv_at hl 0 rfl) ?_
  refine zz_get hC hZ 0 rfl zf_X7_48 rfl dX7_mark_17 ?_
  refine lv_aload_n hx hb dX7_mark_20 rfl (lv_at hl 0 rfl) ?_
  refine zz_get hC hZ 0 rfl zf_X7_52 rfl dX7_mark_21 ?_
  refine zz_aald hC hZ 2 rfl (by unfold vp_in; decide) dX7_mark_24 ?_
  refine zz_topv (v := .null) (by rfl) ?_
  refine lv_ifnonnullN hx hb dX7_mark_25 ?_
  refine lv_aload_n hx hb dX7_mark_28 rfl (lv_at hl 0 rfl) ?_
  refine zz_get hC hZ 0 rfl zf_X7_48 rfl dX7_mark_29 ?_
  refine lv_aload_n hx hb dX7_mark_32 rfl (lv_at hl 0 rfl) ?_
  refine zz_get hC hZ 0 rfl zf_X7_52 rfl dX7_mark_33 ?_
  refine zz_new hC hZ zn_X7_46 (Nat.le_of_ble_eq_true rfl) (Nat.le_of_ble_eq_true rfl) dX7_mark_36 (fun q2 H hZ => ?_)
  have hZ : zz_Z g A s.heap [(h0, .inr (6, [.ref st, .ref mk, .ref lk, .ref ch, .ref ru, .ref mr, .int 0, .int 0])), (st, .inr (5, [.int 0, .int 0, .ref kd, .ref dp, .ref cl, .ref sa, .ref ln, .ref bt, .ref pn, .ref bf])), (mr, .inl (g.2.2.2.2, 8, .inr (.inr (.inr (.inr (fun _ => none)))))), (ch, .inr (0, [.ref st, .int 0, .ref c_pl, .ref c_sl, .ref c_co, .ref c_ca, .ref c_tu])), (q2, .inr (3, [.null, .null, .int 0]))] H locs := hZ
  refine lv_dup hx hb dX7_mark_39 rfl ?_
  refine zz_vN (As := []) (wc := [(q2, .inr (3, [.null, .null, .int 0]))]) (wr := [(h0, .inr (6, [.ref st, .ref mk, .ref lk, .ref ch, .ref ru, .ref mr, .int 0, .int 0])), (st, .inr (5, [.int 0, .int 0, .ref kd, .ref dp, .ref cl, .ref sa, .ref ln, .ref bt, .ref pn, .ref bf])), (mr, .inl (g.2.2.2.2, 8, .inr (.inr (.inr (.inr (fun _ => none)))))), (ch, .inr (0, [.ref st, .int 0, .ref c_pl, .ref c_sl, .ref c_co, .ref c_ca, .ref c_tu]))]) (rest := [.ref q2, .int 0, .ref mr]) hC hZ hl zc_X7_284 (ci_Mark g q2) [4] [0, 1, 2, 3] rfl rfl (by decide) rfl rfl (Nat.le_of_ble_eq_true rfl) ⟨⟨Nat.le_of_ble_eq_true rfl, Nat.le_of_ble_eq_true rfl⟩, Nat.le_of_ble_eq_true rfl, Nat.le_of_ble_eq_true rfl⟩ dX7_mark_40 (fun u4 H locs hp hZ => ?_)
  obtain ⟨e1_5, e2_6, rfl⟩ := hp
  have hZ : zz_Z g A s.heap [(h0, .inr (6, [.ref st, .ref mk, .ref lk, .ref ch, .ref ru, .ref mr, .int 0, .int 0])), (st, .inr (5, [.int 0, .int 0, .ref kd, .ref dp, .ref cl, .ref sa, .ref ln, .ref bt, .ref pn, .ref bf])), (mr, .inl (g.2.2.2.2, 8, .inr (.inr (.inr (.inr (fun _ => none)))))), (ch, .inr (0, [.ref st, .int 0, .ref c_pl, .ref c_sl, .ref c_co, .ref c_ca, .ref c_tu])), (q2, .inr (3, [.ref e1_5, .ref e2_6, .int 0])), (e1_5, .inl (g.2.2.1, 4000, .inr (.inl (fun _ => 0)))), (e2_6, .inl (g.2.2.2.1, 4000, .inl (fun _ => 0)))] H locs := hZ
  refine zz_aast hC hZ 2 4 3 rfl rfl rfl (by unfold vp_in; decide) dX7_mark_43 (fun H locs hZ => ?_)
  have hZ : zz_Z g A s.heap [(h0, .inr (6, [.ref st, .ref mk, .ref lk, .ref ch, .ref ru, .ref mr, .int 0, .int 0])), (st, .inr (5, [.int 0, .int 0, .ref kd, .ref dp, .ref cl, .ref sa, .ref ln, .ref bt, .ref pn, .ref bf])), (mr, .inl (g.2.2.2.2, 8, .inr (.inr (.inr (.inr (va_up (fun _ => none) (0 : Int32).toNatClampNeg (some q2))))))), (ch, .inr (0, [.ref st, .int 0, .ref c_pl, .ref c_sl, .ref c_co, .ref c_ca, .ref c_tu])), (q2, .inr (3, [.ref e1_5, .ref e2_6, .int 0])), (e1_5, .inl (g.2.2.1, 4000, .inr (.inl (fun _ => 0)))), (e2_6, .inl (g.2.2.2.1, 4000, .inl (fun _ => 0)))] H locs := hZ
  refine lv_aload_n hx hb dX7_mark_44 rfl (lv_at hl 0 rfl) ?_
  refine zz_get hC hZ 0 rfl zf_X7_48 rfl dX7_mark_45 ?_
  refine lv_aload_n hx hb dX7_mark_48 rfl (lv_at hl 0 rfl) ?_
  refine zz_get hC hZ 0 rfl zf_X7_52 rfl dX7_mark_49 ?_
  refine zz_aald hC hZ 2 rfl (by unfold vp_in; decide) dX7_mark_52 ?_
  refine zz_topv (v := .ref q2) (by rfl) ?_
  refine lv_aload_n hx hb dX7_mark_53 rfl (lv_at hl 0 rfl) ?_
  refine zz_get hC hZ 0 rfl zf_X7_10 rfl dX7_mark_54 ?_
  refine zz_vV (As := [.ref st]) (wc := [(q2, .inr (3, [.ref e1_5, .ref e2_6, .int 0])), (st, .inr (5, [.int 0, .int 0, .ref kd, .ref dp, .ref cl, .ref sa, .ref ln, .ref bt, .ref pn, .ref bf]))]) (wr := [(h0, .inr (6, [.ref st, .ref mk, .ref lk, .ref ch, .ref ru, .ref mr, .int 0, .int 0])), (mr, .inl (g.2.2.2.2, 8, .inr (.inr (.inr (.inr (va_up (fun _ => none) (0 : Int32).toNatClampNeg (some q2))))))), (ch, .inr (0, [.ref st, .int 0, .ref c_pl, .ref c_sl, .ref c_co, .ref c_ca, .ref c_tu])), (e1_5, .inl (g.2.2.1, 4000, .inr (.inl (fun _ => 0)))), (e2_6, .inl (g.2.2.2.1, 4000, .inl (fun _ => 0)))]) (rest := []) hC hZ hl zc_X7_285 (co_keep0 g st kd dp cl sa ln bt pn bf q2 e1_5 e2_6 0) [4, 1] [0, 2, 3, 5, 6] rfl rfl (by decide) (ci := 3) (q0 := 0) rfl rfl rfl rfl (Nat.le_of_ble_eq_true rfl) ⟨⟨Nat.le_of_ble_eq_true rfl, Nat.le_of_ble_eq_true rfl⟩, Nat.le_of_ble_eq_true rfl, Nat.le_of_ble_eq_true rfl⟩ dX7_mark_57 (fun u8 H locs hp hZ => ?_)
  have hZ : zz_Z g A s.heap [(h0, .inr (6, [.ref st, .ref mk, .ref lk, .ref ch, .ref ru, .ref mr, .int 0, .int 0])), (mr, .inl (g.2.2.2.2, 8, .inr (.inr (.inr (.inr (va_up (fun _ => none) (0 : Int32).toNatClampNeg (some q2))))))), (ch, .inr (0, [.ref st, .int 0, .ref c_pl, .ref c_sl, .ref c_co, .ref c_ca, .ref c_tu])), (e1_5, .inl (g.2.2.1, 4000, .inr (.inl (fun _ => 0)))), (e2_6, .inl (g.2.2.2.1, 4000, .inl (fun _ => 0)))] H locs := hZ.left
  refine lv_aload_n hx hb dX7_mark_60 rfl (lv_at hl 0 rfl) ?_
  refine lv_dup hx hb dX7_mark_61 rfl ?_
  refine zz_get hC hZ 0 rfl zf_X7_52 rfl dX7_mark_62 ?_
  refine lv_iconst (v := 1) hx hb dX7_mark_65 (by decide) ?_
  refine lv_iadd hx hb dX7_mark_66 ?_
  refine zz_topi (v := 1) (by decide) ?_
  refine zz_put hC hZ 0 rfl zu_X7_52 (Nat.le_of_ble_eq_true rfl) dX7_mark_67 (fun H locs hZ => ?_)
  have hZ : zz_Z g A s.heap [(h0, .inr (6, [.ref st, .ref mk, .ref lk, .ref ch, .ref ru, .ref mr, .int 1, .int 0])), (mr, .inl (g.2.2.2.2, 8, .inr (.inr (.inr (.inr (va_up (fun _ => none) (0 : Int32).toNatClampNeg (some q2))))))), (ch, .inr (0, [.ref st, .int 0, .ref c_pl, .ref c_sl, .ref c_co, .ref c_ca, .ref c_tu])), (e1_5, .inl (g.2.2.1, 4000, .inr (.inl (fun _ => 0)))), (e2_6, .inl (g.2.2.2.1, 4000, .inl (fun _ => 0)))] H locs := hZ
  refine lv_aload_n hx hb dX7_mark_70 rfl (lv_at hl 0 rfl) ?_
  refine lv_aload_n hx hb dX7_mark_71 rfl (lv_at hl 0 rfl) ?_
  refine zz_get hC hZ 0 rfl zf_X7_52 rfl dX7_mark_72 ?_
  refine zz_iV (As := [.int 1]) (wc := [(h0, .inr (6, [.ref st, .ref mk, .ref lk, .ref ch, .ref ru, .ref mr, .int 1, .int 0]))]) (wr := [(mr, .inl (g.2.2.2.2, 8, .inr (.inr (.inr (.inr (va_up (fun _ => none) (0 : Int32).toNatClampNeg (some q2))))))), (ch, .inr (0, [.ref st, .int 0, .ref c_pl, .ref c_sl, .ref c_co, .ref c_ca, .ref c_tu])), (e1_5, .inl (g.2.2.1, 4000, .inr (.inl (fun _ => 0)))), (e2_6, .inl (g.2.2.2.1, 4000, .inl (fun _ => 0)))]) (rest := []) hC hZ hl zc_X7_100 (co_fine g h0 st mk lk ch ru mr 1 0 1) [0] [1, 2, 3, 4] rfl rfl (by decide) (ci := 6) (q0 := 0) rfl rfl rfl rfl (Nat.le_of_ble_eq_true rfl) ⟨⟨Nat.le_of_ble_eq_true rfl, Nat.le_of_ble_eq_true rfl⟩, Nat.le_of_ble_eq_true rfl, Nat.le_of_ble_eq_true rfl⟩ dX7_mark_75 (fun r9 u10 H locs hp hZ => ?_)
  obtain ⟨rfl, rfl⟩ := hp
  have hZ : zz_Z g A s.heap [(mr, .inl (g.2.2.2.2, 8, .inr (.inr (.inr (.inr (va_up (fun _ => none) (0 : Int32).toNatClampNeg (some q2))))))), (ch, .inr (0, [.ref st, .int 0, .ref c_pl, .ref c_sl, .ref c_co, .ref c_ca, .ref c_tu])), (e1_5, .inl (g.2.2.1, 4000, .inr (.inl (fun _ => 0)))), (e2_6, .inl (g.2.2.2.1, 4000, .inl (fun _ => 0))), (h0, .inr (6, [.ref st, .ref mk, .ref lk, .ref ch, .ref ru, .ref mr, .int 1, .int 0]))] H locs := hZ
  exact zz_iret hC hZ (rfl) (Nat.le_of_ble_eq_true rfl) (Nat.le_of_ble_eq_true rfl) dX7_mark_78
theorem dX7_back_0 : decode cX7_back 0 = .ok (.aload_n 0, 1) := by decide +kernel
theorem dX7_back_1 : decode cX7_back 1 = .ok (.getfield 52, 3) := by decide +kernel
theorem dX7_back_4 : decode cX7_back 4 = .ok (.iconst 1, 1) := by decide +kernel
theorem dX7_back_5 : decode cX7_back 5 = .ok (.if_icmp .ge 10, 3) := by decide +kernel
theorem dX7_back_8 : decode cX7_back 8 = .ok (.aload_n 0, 1) := by decide +kernel
theorem dX7_back_9 : decode cX7_back 9 = .ok (.bipush 9, 2) := by decide +kernel
theorem dX7_back_11 : decode cX7_back 11 = .ok (.invokevirtual 65, 3) := by decide +kernel
theorem dX7_back_14 : decode cX7_back 14 = .ok (.ireturn, 1) := by decide +kernel
def fn_cx_back  : Int32 := -9
abbrev rm_cx_back : Room := { frames := 1, cells := 0, slots := 0, locals := 21 }
abbrev po_cx_back (g : zz_G) (h0 : Nat) (st : Nat) (mk : Nat) (lk : Nat) (ch : Nat) (ru : Nat) (mr : Nat) : Int32 → va_W → Prop := fun (r : Int32) (u : va_W) => r = fn_cx_back
set_option maxHeartbeats 4000000 in
set_option maxRecDepth 100000 in
theorem cx_back (g : zz_G) (h0 : Nat) (st : Nat) (mk : Nat) (lk : Nat) (ch : Nat) (ru : Nat) (mr : Nat) : zz_I g yX7_back (.code yX7_back cX7_back 1 (some .int)) rm_cx_back [.ref h0] [(h0, .inr (6, [.ref st, .ref mk, .ref lk, .ref ch, .ref ru, .ref mr, .int 0, .int 0]))] (po_cx_back g h0 st mk lk ch ru mr) := by
  refine zz_I.intro (own := RX7) (cc := cX7_back) (nL := 1) (by decide) rfl (Nat.le_of_ble_eq_true rfl) ?_
  intro p l e s m args below meth c A H locs ls hC hnm hZ hl
  obtain ⟨hx, hb, hml, hown, hts, hr, hlocks, hK⟩ := id hC
  have hl : lv_has ls 1 [(0, .ref h0)] := hl
  have hZ : zz_Z g A s.heap [(h0, .inr (6, [.ref st, .ref mk, .ref lk, .ref ch, .ref ru, .ref mr, .int 0, .int 0]))] H locs := hZ
  refine lv_aload_n hx hb dX7_back_0 rfl (lv_at hl 0 rfl) ?_
  refine zz_get hC hZ 0 rfl zf_X7_52 rfl dX7_back_1 ?_
  refine lv_iconst (v := 1) hx hb dX7_back_4 (by decide) ?_
  refine lv_icmp_ge (tgt := 15) hx hb dX7_back_5 (by decide) (fun c => absurd c (by decide)) (fun c1 => ?_)
  refine lv_aload_n hx hb dX7_back_8 rfl (lv_at hl 0 rfl) ?_
  refine lv_bipush (v := 9) hx hb dX7_back_9 (by decide) ?_
  refine zz_iV (As := [.int 9]) (wc := [(h0, .inr (6, [.ref st, .ref mk, .ref lk, .ref ch, .ref ru, .ref mr, .int 0, .int 0]))]) (wr := []) (rest := []) hC hZ hl zc_X7_65 (co_fail g h0 st mk lk ch ru mr 0 0 9) [0] [] rfl rfl (by decide) (ci := 6) (q0 := 0) rfl rfl rfl rfl (Nat.le_of_ble_eq_true rfl) ⟨⟨Nat.le_of_ble_eq_true rfl, Nat.le_of_ble_eq_true rfl⟩, Nat.le_of_ble_eq_true rfl, Nat.le_of_ble_eq_true rfl⟩ dX7_back_11 (fun r2 u3 H locs hp hZ => ?_)
  obtain ⟨rfl, rfl⟩ := hp
  have hZ : zz_Z g A s.heap [(h0, .inr (6, [.ref st, .ref mk, .ref lk, .ref ch, .ref ru, .ref mr, .int 0, .int 9]))] H locs := hZ
  exact zz_iret hC hZ (rfl) (Nat.le_of_ble_eq_true rfl) (Nat.le_of_ble_eq_true rfl) dX7_back_14
