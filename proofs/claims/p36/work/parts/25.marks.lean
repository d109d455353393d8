theorem dg_X7_mark_0 : (decode cX7_mark 0 = .ok (.aload_n 0, 1)) ∧ (decode cX7_mark 1 = .ok (.getfield 52, 3)) ∧ (decode cX7_mark 4 = .ok (.bipush 8, 2)) ∧ (decode cX7_mark 6 = .ok (.if_icmp .lt 10, 3)) ∧ (decode cX7_mark 9 = .ok (.aload_n 0, 1)) ∧ (decode cX7_mark 10 = .ok (.bipush 8, 2)) ∧ (decode cX7_mark 12 = .ok (.invokevirtual 65, 3)) ∧ (decode cX7_mark 15 = .ok (.ireturn, 1)) ∧ (decode cX7_mark 16 = .ok (.aload_n 0, 1)) ∧ (decode cX7_mark 17 = .ok (.getfield 48, 3)) ∧ (decode cX7_mark 20 = .ok (.aload_n 0, 1)) ∧ (decode cX7_mark 21 = .ok (.getfield 52, 3)) ∧ (decode cX7_mark 24 = .ok (.aaload, 1)) ∧ (decode cX7_mark 25 = .ok (.ifnonnull 19, 3)) ∧ (decode cX7_mark 28 = .ok (.aload_n 0, 1)) ∧ (decode cX7_mark 29 = .ok (.getfield 48, 3)) := by decide +kernel
theorem dX7_mark_0 : decode cX7_mark 0 = .ok (.aload_n 0, 1) := dg_X7_mark_0.1
theorem dX7_mark_1 : decode cX7_mark 1 = .ok (.getfield 52, 3) := dg_X7_mark_0.2.1
theorem dX7_mark_4 : decode cX7_mark 4 = .ok (.bipush 8, 2) := dg_X7_mark_0.2.2.1
theorem dX7_mark_6 : decode cX7_mark 6 = .ok (.if_icmp .lt 10, 3) := dg_X7_mark_0.2.2.2.1
theorem dX7_mark_9 : decode cX7_mark 9 = .ok (.aload_n 0, 1) := dg_X7_mark_0.2.2.2.2.1
theorem dX7_mark_10 : decode cX7_mark 10 = .ok (.bipush 8, 2) := dg_X7_mark_0.2.2.2.2.2.1
theorem dX7_mark_12 : decode cX7_mark 12 = .ok (.invokevirtual 65, 3) := dg_X7_mark_0.2.2.2.2.2.2.1
theorem dX7_mark_15 : decode cX7_mark 15 = .ok (.ireturn, 1) := dg_X7_mark_0.2.2.2.2.2.2.2.1
theorem dX7_mark_16 : decode cX7_mark 16 = .ok (.aload_n 0, 1) := dg_X7_mark_0.2.2.2.2.2.2.2.2.1
theorem dX7_mark_17 : decode cX7_mark 17 = .ok (.getfield 48, 3) := dg_X7_mark_0.2.2.2.2.2.2.2.2.2.1
theorem dX7_mark_20 : decode cX7_mark 20 = .ok (.aload_n 0, 1) := dg_X7_mark_0.2.2.2.2.2.2.2.2.2.2.1
theorem dX7_mark_21 : decode cX7_mark 21 = .ok (.getfield 52, 3) := dg_X7_mark_0.2.2.2.2.2.2.2.2.2.2.2.1
theorem dX7_mark_24 : decode cX7_mark 24 = .ok (.aaload, 1) := dg_X7_mark_0.2.2.2.2.2.2.2.2.2.2.2.2.1
theorem dX7_mark_25 : decode cX7_mark 25 = .ok (.ifnonnull 19, 3) := dg_X7_mark_0.2.2.2.2.2.2.2.2.2.2.2.2.2.1
theorem dX7_mark_28 : decode cX7_mark 28 = .ok (.aload_n 0, 1) := dg_X7_mark_0.2.2.2.2.2.2.2.2.2.2.2.2.2.2.1
theorem dX7_mark_29 : decode cX7_mark 29 = .ok (.getfield 48, 3) := dg_X7_mark_0.2.2.2.2.2.2.2.2.2.2.2.2.2.2.2
theorem dg_X7_mark_32 : (decode cX7_mark 32 = .ok (.aload_n 0, 1)) ∧ (decode cX7_mark 33 = .ok (.getfield 52, 3)) ∧ (decode cX7_mark 36 = .ok (.new 46, 3)) ∧ (decode cX7_mark 39 = .ok (.dup, 1)) ∧ (decode cX7_mark 40 = .ok (.invokespecial 284, 3)) ∧ (decode cX7_mark 43 = .ok (.aastore, 1)) ∧ (decode cX7_mark 44 = .ok (.aload_n 0, 1)) ∧ (decode cX7_mark 45 = .ok (.getfield 48, 3)) ∧ (decode cX7_mark 48 = .ok (.aload_n 0, 1)) ∧ (decode cX7_mark 49 = .ok (.getfield 52, 3)) ∧ (decode cX7_mark 52 = .ok (.aaload, 1)) ∧ (decode cX7_mark 53 = .ok (.aload_n 0, 1)) ∧ (decode cX7_mark 54 = .ok (.getfield 10, 3)) ∧ (decode cX7_mark 57 = .ok (.invokevirtual 285, 3)) ∧ (decode cX7_mark 60 = .ok (.aload_n 0, 1)) ∧ (decode cX7_mark 61 = .ok (.dup, 1)) := by decide +kernel
theorem dX7_mark_32 : decode cX7_mark 32 = .ok (.aload_n 0, 1) := dg_X7_mark_32.1
theorem dX7_mark_33 : decode cX7_mark 33 = .ok (.getfield 52, 3) := dg_X7_mark_32.2.1
theorem dX7_mark_36 : decode cX7_mark 36 = .ok (.new 46, 3) := dg_X7_mark_32.2.2.1
theorem dX7_mark_39 : decode cX7_mark 39 = .ok (.dup, 1) := dg_X7_mark_32.2.2.2.1
theorem dX7_mark_40 : decode cX7_mark 40 = .ok (.invokespecial 284, 3) := dg_X7_mark_32.2.2.2.2.1
theorem dX7_mark_43 : decode cX7_mark 43 = .ok (.aastore, 1) := dg_X7_mark_32.2.2.2.2.2.1
theorem dX7_mark_44 : decode cX7_mark 44 = .ok (.aload_n 0, 1) := dg_X7_mark_32.2.2.2.2.2.2.1
theorem dX7_mark_45 : decode cX7_mark 45 = .ok (.getfield 48, 3) := dg_X7_mark_32.2.2.2.2.2.2.2.1
theorem dX7_mark_48 : decode cX7_mark 48 = .ok (.aload_n 0, 1) := dg_X7_mark_32.2.2.2.2.2.2.2.2.1
theorem dX7_mark_49 : decode cX7_mark 49 = .ok (.getfield 52, 3) := dg_X7_mark_32.2.2.2.2.2.2.2.2.2.1
theorem dX7_mark_52 : decode cX7_mark 52 = .ok (.aaload, 1) := dg_X7_mark_32.2.2.2.2.2.2.2.2.2.2.1
theorem dX7_mark_53 : decode cX7_mark 53 = .ok (.aload_n 0, 1) := dg_X7_mark_32.2.2.2.2.2.2.2.2.2.2.2.1
theorem dX7_mark_54 : decode cX7_mark 54 = .ok (.getfield 10, 3) := dg_X7_mark_32.2.2.2.2.2.2.2.2.2.2.2.2.1
theorem dX7_mark_57 : decode cX7_mark 57 = .ok (.invokevirtual 285, 3) := dg_X7_mark_32.2.2.2.2.2.2.2.2.2.2.2.2.2.1
theorem dX7_mark_60 : decode cX7_mark 60 = .ok (.aload_n 0, 1) := dg_X7_mark_32.2.2.2.2.2.2.2.2.2.2.2.2.2.2.1
theorem dX7_mark_61 : decode cX7_mark 61 = .ok (.dup, 1) := dg_X7_mark_32.2.2.2.2.2.2.2.2.2.2.2.2.2.2.2
theorem dg_X7_mark_62 : (decode cX7_mark 62 = .ok (.getfield 52, 3)) ∧ (decode cX7_mark 65 = .ok (.iconst 1, 1)) ∧ (decode cX7_mark 66 = .ok (.iadd, 1)) ∧ (decode cX7_mark 67 = .ok (.putfield 52, 3)) ∧ (decode cX7_mark 70 = .ok (.aload_n 0, 1)) ∧ (decode cX7_mark 71 = .ok (.aload_n 0, 1)) ∧ (decode cX7_mark 72 = .ok (.getfield 52, 3)) ∧ (decode cX7_mark 75 = .ok (.invokevirtual 100, 3)) ∧ (decode cX7_mark 78 = .ok (.ireturn, 1)) := by decide +kernel
theorem dX7_mark_62 : decode cX7_mark 62 = .ok (.getfield 52, 3) := dg_X7_mark_62.1
theorem dX7_mark_65 : decode cX7_mark 65 = .ok (.iconst 1, 1) := dg_X7_mark_62.2.1
theorem dX7_mark_66 : decode cX7_mark 66 = .ok (.iadd, 1) := dg_X7_mark_62.2.2.1
theorem dX7_mark_67 : decode cX7_mark 67 = .ok (.putfield 52, 3) := dg_X7_mark_62.2.2.2.1
theorem dX7_mark_70 : decode cX7_mark 70 = .ok (.aload_n 0, 1) := dg_X7_mark_62.2.2.2.2.1
theorem dX7_mark_71 : decode cX7_mark 71 = .ok (.aload_n 0, 1) := dg_X7_mark_62.2.2.2.2.2.1
theorem dX7_mark_72 : decode cX7_mark 72 = .ok (.getfield 52, 3) := dg_X7_mark_62.2.2.2.2.2.2.1
theorem dX7_mark_75 : decode cX7_mark 75 = .ok (.invokevirtual 100, 3) := dg_X7_mark_62.2.2.2.2.2.2.2.1
theorem dX7_mark_78 : decode cX7_mark 78 = .ok (.ireturn, 1) := dg_X7_mark_62.2.2.2.2.2.2.2.2
abbrev rm_cx_mark8 : Room := { frames := 1, cells := 0, slots := 0, locals := 21 }
abbrev po_cx_mark8 (g : zz_G) (h0 : Nat) (st : Nat) (mk : Nat) (lk : Nat) (ch : Nat) (ru : Nat) (mr : Nat) (la : Int32) : Int32 → va_W → Prop := fun (r : Int32) (u : va_W) => r = -8 ∧ u = [cw_k6 h0 st mk lk ch ru mr (nI 8) 8]
set_option maxHeartbeats 4000000 in
set_option maxRecDepth 100000 in
theorem cx_mark8 (g : zz_G) (h0 : Nat) (st : Nat) (mk : Nat) (lk : Nat) (ch : Nat) (ru : Nat) (mr : Nat) (la : Int32) : zz_I g yX7_mark (.code yX7_mark cX7_mark 1 (some .int)) rm_cx_mark8 [.ref h0] [cw_k6 h0 st mk lk ch ru mr (nI 8) la] (po_cx_mark8 g h0 st mk lk ch ru mr la) := by
  refine zz_I.intro (own := RX7) (cc := cX7_mark) (nL := 1) (by decide) rfl (Nat.le_of_ble_eq_true rfl) ?_
  intro p l e s m args below meth c A H locs ls hC hnm hs hZ hl
  obtain ⟨hx, hb, hml, hown, hts, hr, hlocks, hK⟩ := id hC
  have hl : lv_has ls 1 [(0, .ref h0)] := hl
  have hZ : zz_Z g A s.heap [cw_k6 h0 st mk lk ch ru mr (nI 8) la] H locs := hZ
  refine lv_aload_n hx hb dX7_mark_0 rfl (lv_at hl 0 rfl) ?_
  refine zz_get hC hZ 0 rfl zf_X7_52 rfl dX7_mark_1 ?_
  refine lv_bipush (v := 8) hx hb dX7_mark_4 (by decide) ?_
  refine lv_icmp_lt (tgt := 16) hx hb dX7_mark_6 (by decide) (fun c => absurd c (by decide)) (fun c1 => ?_)
  refine lv_aload_n hx hb dX7_mark_9 rfl (lv_at hl 0 rfl) ?_
  refine lv_bipush (v := 8) hx hb dX7_mark_10 (by decide) ?_
  refine zz_iV (As := [.int 8]) (wc := [cw_k6 h0 st mk lk ch ru mr (nI 8) la]) (wr := []) (rest := []) hC hZ hs hl zc_X7_65 (co_fail g h0 st mk lk ch ru mr (nI 8) la 8) [0] [] rfl rfl (by decide +kernel) (ci := 6) (q0 := 0) rfl rfl rfl rfl (Nat.le_of_ble_eq_true rfl) ⟨⟨Nat.le_of_ble_eq_true rfl, Nat.le_of_ble_eq_true rfl⟩, Nat.le_of_ble_eq_true rfl, Nat.le_of_ble_eq_true rfl⟩ dX7_mark_12 (fun r2 u3 H locs hp hZ => ?_)
  obtain ⟨rfl, rfl⟩ := hp
  have hZ : zz_Z g A s.heap [cw_k6 h0 st mk lk ch ru mr (nI 8) 8] H locs := hZ
  exact zz_iret hC hZ (⟨rfl, rfl⟩) (Nat.le_of_ble_eq_true rfl) (Nat.le_of_ble_eq_true rfl) dX7_mark_15
theorem zf_X7_48 : zz_f RX7 48 6 5 := ⟨RX7, TX7, 8, rfl, zi_X7, by decide, zk_205⟩
theorem zk_698 : Cond.instantiable RX4 3 ∈ zz_w := zz_in (List.mem_append_right _ (List.mem_append_right _ (List.mem_append_right _ (List.mem_append_left _ (List.mem_of_getElem? (i := 218) (by decide +kernel)))))) rfl
theorem zk_11 : Cond.initialized RX4 ∈ zz_w := zz_in (List.mem_append_right _ (List.mem_append_left _ (List.mem_of_getElem? (i := 11) (by decide +kernel)))) rfl
theorem zn_X7_46 : zz_n RX7 46 3 3 [.null, .null, .int 0] := ⟨RX4, TX4, tyX4, rfl, zi_X4, tyX4_ok, zk_198, zk_698, zk_11, by decide +kernel⟩
set_option maxRecDepth 20000 in
theorem zk_701 : Cond.code yX4_init cX4_init 1 none ∈ zz_w := zz_in (List.mem_append_right _ (List.mem_append_right _ (List.mem_append_right _ (List.mem_append_left _ (List.mem_of_getElem? (i := 221) (rfl)))))) rfl
theorem zk_700 : Cond.instanceMethod yX4_init ∈ zz_w := zz_in (List.mem_append_right _ (List.mem_append_right _ (List.mem_append_right _ (List.mem_append_left _ (List.mem_of_getElem? (i := 220) (by decide +kernel)))))) rfl
theorem zc_X7_284 : zz_cN RX7 284 yX4_init "DecisionArrays" cX4_init 1 0 := ⟨by decide, zk_701, zk_11, ⟨by decide, by decide, by decide +kernel⟩, rfl, zk_700⟩
theorem zk_713 : Cond.methodLink RX7 285 yX4_keep ∈ zz_w := zz_in (List.mem_append_right _ (List.mem_append_right _ (List.mem_append_right _ (List.mem_append_left _ (List.mem_of_getElem? (i := 233) (by decide +kernel)))))) rfl
set_option maxRecDepth 20000 in
theorem zk_716 : Cond.code yX4_keep cX4_keep 3 none ∈ zz_w := zz_in (List.mem_append_right _ (List.mem_append_right _ (List.mem_append_right _ (List.mem_append_left _ (List.mem_of_getElem? (i := 236) (rfl)))))) rfl
theorem zk_714 : Cond.instanceMethod yX4_keep ∈ zz_w := zz_in (List.mem_append_right _ (List.mem_append_right _ (List.mem_append_right _ (List.mem_append_left _ (List.mem_of_getElem? (i := 234) (by decide +kernel)))))) rfl
theorem zk_715 : Cond.selects RX4 yX4_keep yX4_keep ∈ zz_w := zz_in (List.mem_append_right _ (List.mem_append_right _ (List.mem_append_right _ (List.mem_append_left _ (List.mem_of_getElem? (i := 235) (by decide +kernel)))))) rfl
theorem zc_X7_285 : zz_cV RX7 285 yX4_keep cX4_keep 3 none 1 := ⟨⟨zk_713, zk_716, zk_11, by decide, by decide, by decide +kernel⟩, zk_714, zk_715⟩
abbrev rm_cx_mark0 : Room := { frames := 2, cells := 3, slots := 8003, locals := 32 }
abbrev po_cx_mark0 (g : zz_G) (h0 : Nat) (st : Nat) (mk : Nat) (lk : Nat) (ch : Nat) (ru : Nat) (mr : Nat) (kd : Nat) (dp : Nat) (cl : Nat) (sa : Nat) (ln : Nat) (bt : Nat) (pn : Nat) (bf : Nat) (nm : Nat) (la : Int32) (na : Nat) (nu : Nat) (mrf : Nat → Option Nat) (btf : Nat → Int64) (pnf : Nat → Int32) (h_8 : nm < 8 ∧ nu ≤ 4000) (h_n : mrf nm = none) : Int32 → va_W → Prop := fun (r : Int32) (u : va_W) => ∃ (mq2 : Nat) (m_b2 : Nat) (m_p2 : Nat) (mb2 : Nat → Int64) (mp2 : Nat → Int32), r = nI (nm + 1) ∧ (∀ j, j < nu → mb2 j = btf j) ∧ (∀ j, j < nu → mp2 j = pnf j &&& 1) ∧ u = [cw_k6 h0 st mk lk ch ru mr (nI (nm + 1)) 0, cw_q g mr 8 (va_up mrf nm (some mq2)), cw_k5 st (nI na) (nI nu) kd dp cl sa ln bt pn bf, cw_l g bt 4000 btf, cw_z g pn 4000 pnf, cw_k3 mq2 m_b2 m_p2 (nI nu), cw_l g m_b2 4000 mb2, cw_z g m_p2 4000 mp2]
set_option maxHeartbeats 4000000 in
set_option maxRecDepth 100000 in
theorem cx_mark0 (g : zz_G) (h0 : Nat) (st : Nat) (mk : Nat) (lk : Nat) (ch : Nat) (ru : Nat) (mr : Nat) (kd : Nat) (dp : Nat) (cl : Nat) (sa : Nat) (ln : Nat) (bt : Nat) (pn : Nat) (bf : Nat) (nm : Nat) (la : Int32) (na : Nat) (nu : Nat) (mrf : Nat → Option Nat) (btf : Nat → Int64) (pnf : Nat → Int32) (h_8 : nm < 8 ∧ nu ≤ 4000) (h_n : mrf nm = none) : zz_I g yX7_mark (.code yX7_mark cX7_mark 1 (some .int)) rm_cx_mark0 [.ref h0] [cw_k6 h0 st mk lk ch ru mr (nI nm) la, cw_q g mr 8 mrf, cw_k5 st (nI na) (nI nu) kd dp cl sa ln bt pn bf, cw_l g bt 4000 btf, cw_z g pn 4000 pnf] (po_cx_mark0 g h0 st mk lk ch ru mr kd dp cl sa ln bt pn bf nm la na nu mrf btf pnf h_8 h_n) := by
  refine zz_I.intro (own := RX7) (cc := cX7_mark) (nL := 1) (by decide) rfl (Nat.le_of_ble_eq_true rfl) ?_
  intro p l e s m args below meth c A H locs ls hC hnm hs hZ hl
  obtain ⟨hx, hb, hml, hown, hts, hr, hlocks, hK⟩ := id hC
  have hl : lv_has ls 1 [(0, .ref h0)] := hl
  have hZ : zz_Z g A s.heap [cw_k6 h0 st mk lk ch ru mr (nI nm) la, cw_q g mr 8 mrf, cw_k5 st (nI na) (nI nu) kd dp cl sa ln bt pn bf, cw_l g bt 4000 btf, cw_z g pn 4000 pnf] H locs := hZ
  obtain ⟨h8, hu⟩ := h_8
  refine lv_aload_n hx hb dX7_mark_0 rfl (lv_at hl 0 rfl) ?_
  refine zz_get hC hZ 0 rfl zf_X7_52 rfl dX7_mark_1 ?_
  refine lv_bipush (v := 8) hx hb dX7_mark_4 (by decide) ?_
  refine lv_icmp_lt (tgt := 16) hx hb dX7_mark_6 (by decide) (fun c1 => ?_) (fun c => absurd (nI_lt (b := 8) h8 (by decide)) c)
  refine lv_aload_n hx hb dX7_mark_16 rfl (lv_at hl 0 rfl) ?_
  refine zz_get hC hZ 0 rfl zf_X7_48 rfl dX7_mark_17 ?_
  refine lv_aload_n hx hb dX7_mark_20 rfl (lv_at hl 0 rfl) ?_
  refine zz_get hC hZ 0 rfl zf_X7_52 rfl dX7_mark_21 ?_
  refine zz_aald hC hZ 1 rfl (vp_in_nI (by omega) (by decide)) dX7_mark_24 ?_
  rw [nI_clamp (n := nm) (by omega)]
  refine zz_topv (v := .null) (by rw [h_n]; rfl) ?_
  refine lv_ifnonnullN hx hb dX7_mark_25 ?_
  refine lv_aload_n hx hb dX7_mark_28 rfl (lv_at hl 0 rfl) ?_
  refine zz_get hC hZ 0 rfl zf_X7_48 rfl dX7_mark_29 ?_
  refine lv_aload_n hx hb dX7_mark_32 rfl (lv_at hl 0 rfl) ?_
  refine zz_get hC hZ 0 rfl zf_X7_52 rfl dX7_mark_33 ?_
  refine zz_new hC hZ zn_X7_46 (Nat.le_of_ble_eq_true rfl) (Nat.le_of_ble_eq_true rfl) dX7_mark_36 (fun q2 H hZ => ?_)
  have hZ : zz_Z g A s.heap [cw_k6 h0 st mk lk ch ru mr (nI nm) la, cw_q g mr 8 mrf, cw_k5 st (nI na) (nI nu) kd dp cl sa ln bt pn bf, cw_l g bt 4000 btf, cw_z g pn 4000 pnf, cw_o q2 3 [.null, .null, .int 0]] H locs := hZ
  refine lv_dup hx hb dX7_mark_39 rfl ?_
  refine zz_vN (As := []) (wc := [cw_o q2 3 [.null, .null, .int 0]]) (wr := [cw_k6 h0 st mk lk ch ru mr (nI nm) la, cw_q g mr 8 mrf, cw_k5 st (nI na) (nI nu) kd dp cl sa ln bt pn bf, cw_l g bt 4000 btf, cw_z g pn 4000 pnf]) (rest := [.ref q2, .int (nI nm), .ref mr]) hC hZ hs hl zc_X7_284 (ci_Mark g q2) [5] [0, 1, 2, 3, 4] rfl rfl (by decide +kernel) rfl rfl (Nat.le_of_ble_eq_true rfl) ⟨⟨Nat.le_of_ble_eq_true rfl, Nat.le_of_ble_eq_true rfl⟩, Nat.le_of_ble_eq_true rfl, Nat.le_of_ble_eq_true rfl⟩ dX7_mark_40 (fun u4 H locs hp hZ => ?_)
  obtain ⟨e1_5, e2_6, rfl⟩ := hp
  have hZ : zz_Z g A s.heap [cw_k6 h0 st mk lk ch ru mr (nI nm) la, cw_q g mr 8 mrf, cw_k5 st (nI na) (nI nu) kd dp cl sa ln bt pn bf, cw_l g bt 4000 btf, cw_z g pn 4000 pnf, cw_k3 q2 e1_5 e2_6 0, cw_l g e1_5 4000 (fun _ => 0), cw_z g e2_6 4000 (fun _ => 0)] H locs := hZ
  refine zz_aast hC hZ 1 5 3 rfl rfl rfl (vp_in_nI (by omega) (by decide)) dX7_mark_43 (fun H locs hZ => ?_)
  rw [nI_clamp (n := nm) (by omega)] at hZ
  have hZ : zz_Z g A s.heap [cw_k6 h0 st mk lk ch ru mr (nI nm) la, cw_q g mr 8 (va_up mrf nm (some q2)), cw_k5 st (nI na) (nI nu) kd dp cl sa ln bt pn bf, cw_l g bt 4000 btf, cw_z g pn 4000 pnf, cw_k3 q2 e1_5 e2_6 0, cw_l g e1_5 4000 (fun _ => 0), cw_z g e2_6 4000 (fun _ => 0)] H locs := hZ
  refine lv_aload_n hx hb dX7_mark_44 rfl (lv_at hl 0 rfl) ?_
  refine zz_get hC hZ 0 rfl zf_X7_48 rfl dX7_mark_45 ?_
  refine lv_aload_n hx hb dX7_mark_48 rfl (lv_at hl 0 rfl) ?_
  refine zz_get hC hZ 0 rfl zf_X7_52 rfl dX7_mark_49 ?_
  refine zz_aald hC hZ 1 rfl (vp_in_nI (by omega) (by decide)) dX7_mark_52 ?_
  rw [nI_clamp (n := nm) (by omega)]
  refine zz_topv (v := .ref q2) (by rw [va_up_self]; rfl) ?_
  refine lv_aload_n hx hb dX7_mark_53 rfl (lv_at hl 0 rfl) ?_
  refine zz_get hC hZ 0 rfl zf_X7_10 rfl dX7_mark_54 ?_
  refine zz_vV (As := [.ref st]) (wc := [cw_k3 q2 e1_5 e2_6 0, cw_l g e1_5 4000 (fun _ => 0), cw_z g e2_6 4000 (fun _ => 0), cw_k5 st (nI na) (nI nu) kd dp cl sa ln bt pn bf, cw_l g bt 4000 btf, cw_z g pn 4000 pnf]) (wr := [cw_k6 h0 st mk lk ch ru mr (nI nm) la, cw_q g mr 8 (va_up mrf nm (some q2))]) (rest := []) hC hZ hs hl zc_X7_285 (co_keep g q2 e1_5 e2_6 st kd dp cl sa ln bt pn bf na nu (fun _ => 0) (fun _ => 0) btf pnf 0 (by omega)) [5, 6, 7, 2, 3, 4] [0, 1] rfl rfl (by decide +kernel) (ci := 3) (q0 := 0) rfl rfl rfl rfl (Nat.le_of_ble_eq_true rfl) ⟨⟨Nat.le_of_ble_eq_true rfl, Nat.le_of_ble_eq_true rfl⟩, Nat.le_of_ble_eq_true rfl, Nat.le_of_ble_eq_true rfl⟩ dX7_mark_57 (fun u8 H locs hp hZ => ?_)
  obtain ⟨mb2_9, mp2_10, f11, f12, rfl⟩ := hp
  have hZ : zz_Z g A s.heap [cw_k6 h0 st mk lk ch ru mr (nI nm) la, cw_q g mr 8 (va_up mrf nm (some q2)), cw_k3 q2 e1_5 e2_6 (nI nu), cw_l g e1_5 4000 mb2_9, cw_z g e2_6 4000 mp2_10, cw_k5 st (nI na) (nI nu) kd dp cl sa ln bt pn bf, cw_l g bt 4000 btf, cw_z g pn 4000 pnf] H locs := hZ
  refine lv_aload_n hx hb dX7_mark_60 rfl (lv_at hl 0 rfl) ?_
  refine lv_dup hx hb dX7_mark_61 rfl ?_
  refine zz_get hC hZ 0 rfl zf_X7_52 rfl dX7_mark_62 ?_
  refine lv_iconst (v := 1) hx hb dX7_mark_65 (by decide) ?_
  refine lv_iadd hx hb dX7_mark_66 ?_
  refine zz_topi (v := nI (nm + 1)) (nI_1 _) ?_
  refine zz_put hC hZ 0 rfl zu_X7_52 (Nat.le_of_ble_eq_true rfl) dX7_mark_67 (fun H locs hZ => ?_)
  have hZ : zz_Z g A s.heap [cw_k6 h0 st mk lk ch ru mr (nI (nm + 1)) la, cw_q g mr 8 (va_up mrf nm (some q2)), cw_k3 q2 e1_5 e2_6 (nI nu), cw_l g e1_5 4000 mb2_9, cw_z g e2_6 4000 mp2_10, cw_k5 st (nI na) (nI nu) kd dp cl sa ln bt pn bf, cw_l g bt 4000 btf, cw_z g pn 4000 pnf] H locs := hZ
  refine lv_aload_n hx hb dX7_mark_70 rfl (lv_at hl 0 rfl) ?_
  refine lv_aload_n hx hb dX7_mark_71 rfl (lv_at hl 0 rfl) ?_
  refine zz_get hC hZ 0 rfl zf_X7_52 rfl dX7_mark_72 ?_
  refine zz_iV (As := [.int (nI (nm + 1))]) (wc := [cw_k6 h0 st mk lk ch ru mr (nI (nm + 1)) la]) (wr := [cw_q g mr 8 (va_up mrf nm (some q2)), cw_k3 q2 e1_5 e2_6 (nI nu), cw_l g e1_5 4000 mb2_9, cw_z g e2_6 4000 mp2_10, cw_k5 st (nI na) (nI nu) kd dp cl sa ln bt pn bf, cw_l g bt 4000 btf, cw_z g pn 4000 pnf]) (rest := []) hC hZ hs hl zc_X7_100 (co_fine g h0 st mk lk ch ru mr (nI (nm + 1)) la (nI (nm + 1))) [0] [1, 2, 3, 4, 5, 6, 7] rfl rfl (by decide +kernel) (ci := 6) (q0 := 0) rfl rfl rfl rfl (Nat.le_of_ble_eq_true rfl) ⟨⟨Nat.le_of_ble_eq_true rfl, Nat.le_of_ble_eq_true rfl⟩, Nat.le_of_ble_eq_true rfl, Nat.le_of_ble_eq_true rfl⟩ dX7_mark_75 (fun r13 u14 H locs hp hZ => ?_)
  obtain ⟨rfl, rfl⟩ := hp
  have hZ : zz_Z g A s.heap [cw_q g mr 8 (va_up mrf nm (some q2)), cw_k3 q2 e1_5 e2_6 (nI nu), cw_l g e1_5 4000 mb2_9, cw_z g e2_6 4000 mp2_10, cw_k5 st (nI na) (nI nu) kd dp cl sa ln bt pn bf, cw_l g bt 4000 btf, cw_z g pn 4000 pnf, cw_k6 h0 st mk lk ch ru mr (nI (nm + 1)) 0] H locs := hZ
  have hZ : zz_Z g A s.heap [cw_k6 h0 st mk lk ch ru mr (nI (nm + 1)) 0, cw_q g mr 8 (va_up mrf nm (some q2)), cw_k5 st (nI na) (nI nu) kd dp cl sa ln bt pn bf, cw_l g bt 4000 btf, cw_z g pn 4000 pnf, cw_k3 q2 e1_5 e2_6 (nI nu), cw_l g e1_5 4000 mb2_9, cw_z g e2_6 4000 mp2_10] H locs := hZ.sub [7, 0, 4, 5, 6, 1, 2, 3] (by decide) rfl
  exact zz_iret hC hZ (⟨q2, e1_5, e2_6, mb2_9, mp2_10, rfl, f11, f12, rfl⟩) (Nat.le_of_ble_eq_true rfl) (Nat.le_of_ble_eq_true rfl) dX7_mark_78
abbrev rm_cx_mark1 : Room := { frames := 1, cells := 0, slots := 0, locals := 22 }
abbrev po_cx_mark1 (g : zz_G) (h0 : Nat) (st : Nat) (mk : Nat) (lk : Nat) (ch : Nat) (ru : Nat) (mr : Nat) (kd : Nat) (dp : Nat) (cl : Nat) (sa : Nat) (ln : Nat) (bt : Nat) (pn : Nat) (bf : Nat) (nm : Nat) (la : Int32) (na : Nat) (nu : Nat) (mrf : Nat → Option Nat) (mq : Nat) (m_b : Nat) (m_p : Nat) (mbf : Nat → Int64) (mpf : Nat → Int32) (w : Int32) (btf : Nat → Int64) (pnf : Nat → Int32) (h_8 : nm < 8 ∧ nu ≤ 4000) (h_n : mrf nm = some mq) : Int32 → va_W → Prop := fun (r : Int32) (u : va_W) => ∃ (mb2 : Nat → Int64) (mp2 : Nat → Int32), r = nI (nm + 1) ∧ (∀ j, j < nu → mb2 j = btf j) ∧ (∀ j, j < nu → mp2 j = pnf j &&& 1) ∧ u = [cw_k6 h0 st mk lk ch ru mr (nI (nm + 1)) 0, cw_q g mr 8 mrf, cw_k5 st (nI na) (nI nu) kd dp cl sa ln bt pn bf, cw_l g bt 4000 btf, cw_z g pn 4000 pnf, cw_k3 mq m_b m_p (nI nu), cw_l g m_b 4000 mb2, cw_z g m_p 4000 mp2]
set_option maxHeartbeats 4000000 in
set_option maxRecDepth 100000 in
theorem cx_mark1 (g : zz_G) (h0 : Nat) (st : Nat) (mk : Nat) (lk : Nat) (ch : Nat) (ru : Nat) (mr : Nat) (kd : Nat) (dp : Nat) (cl : Nat) (sa : Nat) (ln : Nat) (bt : Nat) (pn : Nat) (bf : Nat) (nm : Nat) (la : Int32) (na : Nat) (nu : Nat) (mrf : Nat → Option Nat) (mq : Nat) (m_b : Nat) (m_p : Nat) (mbf : Nat → Int64) (mpf : Nat → Int32) (w : Int32) (btf : Nat → Int64) (pnf : Nat → Int32) (h_8 : nm < 8 ∧ nu ≤ 4000) (h_n : mrf nm = some mq) : zz_I g yX7_mark (.code yX7_mark cX7_mark 1 (some .int)) rm_cx_mark1 [.ref h0] [cw_k6 h0 st mk lk ch ru mr (nI nm) la, cw_q g mr 8 mrf, cw_k5 st (nI na) (nI nu) kd dp cl sa ln bt pn bf, cw_l g bt 4000 btf, cw_z g pn 4000 pnf, cw_k3 mq m_b m_p w, cw_l g m_b 4000 mbf, cw_z g m_p 4000 mpf] (po_cx_mark1 g h0 st mk lk ch ru mr kd dp cl sa ln bt pn bf nm la na nu mrf mq m_b m_p mbf mpf w btf pnf h_8 h_n) := by
  refine zz_I.intro (own := RX7) (cc := cX7_mark) (nL := 1) (by decide) rfl (Nat.le_of_ble_eq_true rfl) ?_
  intro p l e s m args below meth c A H locs ls hC hnm hs hZ hl
  obtain ⟨hx, hb, hml, hown, hts, hr, hlocks, hK⟩ := id hC
  have hl : lv_has ls 1 [(0, .ref h0)] := hl
  have hZ : zz_Z g A s.heap [cw_k6 h0 st mk lk ch ru mr (nI nm) la, cw_q g mr 8 mrf, cw_k5 st (nI na) (nI nu) kd dp cl sa ln bt pn bf, cw_l g bt 4000 btf, cw_z g pn 4000 pnf, cw_k3 mq m_b m_p w, cw_l g m_b 4000 mbf, cw_z g m_p 4000 mpf] H locs := hZ
  obtain ⟨h8, hu⟩ := h_8
  refine lv_aload_n hx hb dX7_mark_0 rfl (lv_at hl 0 rfl) ?_
  refine zz_get hC hZ 0 rfl zf_X7_52 rfl dX7_mark_1 ?_
  refine lv_bipush (v := 8) hx hb dX7_mark_4 (by decide) ?_
  refine lv_icmp_lt (tgt := 16) hx hb dX7_mark_6 (by decide) (fun c1 => ?_) (fun c => absurd (nI_lt (b := 8) h8 (by decide)) c)
  refine lv_aload_n hx hb dX7_mark_16 rfl (lv_at hl 0 rfl) ?_
  refine zz_get hC hZ 0 rfl zf_X7_48 rfl dX7_mark_17 ?_
  refine lv_aload_n hx hb dX7_mark_20 rfl (lv_at hl 0 rfl) ?_
  refine zz_get hC hZ 0 rfl zf_X7_52 rfl dX7_mark_21 ?_
  refine zz_aald hC hZ 1 rfl (vp_in_nI (by omega) (by decide)) dX7_mark_24 ?_
  rw [nI_clamp (n := nm) (by omega)]
  refine zz_topv (v := .ref mq) (by rw [h_n]; rfl) ?_
  refine lv_ifnonnull (tgt := 44) hx hb dX7_mark_25 (by decide) ?_
  refine lv_aload_n hx hb dX7_mark_44 rfl (lv_at hl 0 rfl) ?_
  refine zz_get hC hZ 0 rfl zf_X7_48 rfl dX7_mark_45 ?_
  refine lv_aload_n hx hb dX7_mark_48 rfl (lv_at hl 0 rfl) ?_
  refine zz_get hC hZ 0 rfl zf_X7_52 rfl dX7_mark_49 ?_
  refine zz_aald hC hZ 1 rfl (vp_in_nI (by omega) (by decide)) dX7_mark_52 ?_
  rw [nI_clamp (n := nm) (by omega)]
  refine zz_topv (v := .ref mq) (by rw [h_n]; rfl) ?_
  refine lv_aload_n hx hb dX7_mark_53 rfl (lv_at hl 0 rfl) ?_
  refine zz_get hC hZ 0 rfl zf_X7_10 rfl dX7_mark_54 ?_
  refine zz_vV (As := [.ref st]) (wc := [cw_k3 mq m_b m_p w, cw_l g m_b 4000 mbf, cw_z g m_p 4000 mpf, cw_k5 st (nI na) (nI nu) kd dp cl sa ln bt pn bf, cw_l g bt 4000 btf, cw_z g pn 4000 pnf]) (wr := [cw_k6 h0 st mk lk ch ru mr (nI nm) la, cw_q g mr 8 mrf]) (rest := []) hC hZ hs hl zc_X7_285 (co_keep g mq m_b m_p st kd dp cl sa ln bt pn bf na nu mbf mpf btf pnf w (by omega)) [5, 6, 7, 2, 3, 4] [0, 1] rfl rfl (by decide +kernel) (ci := 3) (q0 := 0) rfl rfl rfl rfl (Nat.le_of_ble_eq_true rfl) ⟨⟨Nat.le_of_ble_eq_true rfl, Nat.le_of_ble_eq_true rfl⟩, Nat.le_of_ble_eq_true rfl, Nat.le_of_ble_eq_true rfl⟩ dX7_mark_57 (fun u3 H locs hp hZ => ?_)
  obtain ⟨mb2_4, mp2_5, f6, f7, rfl⟩ := hp
  have hZ : zz_Z g A s.heap [cw_k6 h0 st mk lk ch ru mr (nI nm) la, cw_q g mr 8 mrf, cw_k3 mq m_b m_p (nI nu), cw_l g m_b 4000 mb2_4, cw_z g m_p 4000 mp2_5, cw_k5 st (nI na) (nI nu) kd dp cl sa ln bt pn bf, cw_l g bt 4000 btf, cw_z g pn 4000 pnf] H locs := hZ
  refine lv_aload_n hx hb dX7_mark_60 rfl (lv_at hl 0 rfl) ?_
  refine lv_dup hx hb dX7_mark_61 rfl ?_
  refine zz_get hC hZ 0 rfl zf_X7_52 rfl dX7_mark_62 ?_
  refine lv_iconst (v := 1) hx hb dX7_mark_65 (by decide) ?_
  refine lv_iadd hx hb dX7_mark_66 ?_
  refine zz_topi (v := nI (nm + 1)) (nI_1 _) ?_
  refine zz_put hC hZ 0 rfl zu_X7_52 (Nat.le_of_ble_eq_true rfl) dX7_mark_67 (fun H locs hZ => ?_)
  have hZ : zz_Z g A s.heap [cw_k6 h0 st mk lk ch ru mr (nI (nm + 1)) la, cw_q g mr 8 mrf, cw_k3 mq m_b m_p (nI nu), cw_l g m_b 4000 mb2_4, cw_z g m_p 4000 mp2_5, cw_k5 st (nI na) (nI nu) kd dp cl sa ln bt pn bf, cw_l g bt 4000 btf, cw_z g pn 4000 pnf] H locs := hZ
  refine lv_aload_n hx hb dX7_mark_70 rfl (lv_at hl 0 rfl) ?_
  refine lv_aload_n hx hb dX7_mark_71 rfl (lv_at hl 0 rfl) ?_
  refine zz_get hC hZ 0 rfl zf_X7_52 rfl dX7_mark_72 ?_
  refine zz_iV (As := [.int (nI (nm + 1))]) (wc := [cw_k6 h0 st mk lk ch ru mr (nI (nm + 1)) la]) (wr := [cw_q g mr 8 mrf, cw_k3 mq m_b m_p (nI nu), cw_l g m_b 4000 mb2_4, cw_z g m_p 4000 mp2_5, cw_k5 st (nI na) (nI nu) kd dp cl sa ln bt pn bf, cw_l g bt 4000 btf, cw_z g pn 4000 pnf]) (rest := []) hC hZ hs hl zc_X7_100 (co_fine g h0 st mk lk ch ru mr (nI (nm + 1)) la (nI (nm + 1))) [0] [1, 2, 3, 4, 5, 6, 7] rfl rfl (by decide +kernel) (ci := 6) (q0 := 0) rfl rfl rfl rfl (Nat.le_of_ble_eq_true rfl) ⟨⟨Nat.le_of_ble_eq_true rfl, Nat.le_of_ble_eq_true rfl⟩, Nat.le_of_ble_eq_true rfl, Nat.le_of_ble_eq_true rfl⟩ dX7_mark_75 (fun r8 u9 H locs hp hZ => ?_)
  obtain ⟨rfl, rfl⟩ := hp
  have hZ : zz_Z g A s.heap [cw_q g mr 8 mrf, cw_k3 mq m_b m_p (nI nu), cw_l g m_b 4000 mb2_4, cw_z g m_p 4000 mp2_5, cw_k5 st (nI na) (nI nu) kd dp cl sa ln bt pn bf, cw_l g bt 4000 btf, cw_z g pn 4000 pnf, cw_k6 h0 st mk lk ch ru mr (nI (nm + 1)) 0] H locs := hZ
  have hZ : zz_Z g A s.heap [cw_k6 h0 st mk lk ch ru mr (nI (nm + 1)) 0, cw_q g mr 8 mrf, cw_k5 st (nI na) (nI nu) kd dp cl sa ln bt pn bf, cw_l g bt 4000 btf, cw_z g pn 4000 pnf, cw_k3 mq m_b m_p (nI nu), cw_l g m_b 4000 mb2_4, cw_z g m_p 4000 mp2_5] H locs := hZ.sub [7, 0, 4, 5, 6, 1, 2, 3] (by decide +kernel) rfl
  exact zz_iret hC hZ (⟨mb2_4, mp2_5, rfl, f6, f7, rfl⟩) (Nat.le_of_ble_eq_true rfl) (Nat.le_of_ble_eq_true rfl) dX7_mark_78
theorem dg_X7_back_0 : (decode cX7_back 0 = .ok (.aload_n 0, 1)) ∧ (decode cX7_back 1 = .ok (.getfield 52, 3)) ∧ (decode cX7_back 4 = .ok (.iconst 1, 1)) ∧ (decode cX7_back 5 = .ok (.if_icmp .ge 10, 3)) ∧ (decode cX7_back 8 = .ok (.aload_n 0, 1)) ∧ (decode cX7_back 9 = .ok (.bipush 9, 2)) ∧ (decode cX7_back 11 = .ok (.invokevirtual 65, 3)) ∧ (decode cX7_back 14 = .ok (.ireturn, 1)) ∧ (decode cX7_back 15 = .ok (.aload_n 0, 1)) ∧ (decode cX7_back 16 = .ok (.dup, 1)) ∧ (decode cX7_back 17 = .ok (.getfield 52, 3)) ∧ (decode cX7_back 20 = .ok (.iconst 1, 1)) ∧ (decode cX7_back 21 = .ok (.isub, 1)) ∧ (decode cX7_back 22 = .ok (.putfield 52, 3)) ∧ (decode cX7_back 25 = .ok (.aload_n 0, 1)) ∧ (decode cX7_back 26 = .ok (.getfield 48, 3)) := by decide +kernel
theorem dX7_back_0 : decode cX7_back 0 = .ok (.aload_n 0, 1) := dg_X7_back_0.1
theorem dX7_back_1 : decode cX7_back 1 = .ok (.getfield 52, 3) := dg_X7_back_0.2.1
theorem dX7_back_4 : decode cX7_back 4 = .ok (.iconst 1, 1) := dg_X7_back_0.2.2.1
theorem dX7_back_5 : decode cX7_back 5 = .ok (.if_icmp .ge 10, 3) := dg_X7_back_0.2.2.2.1
theorem dX7_back_8 : decode cX7_back 8 = .ok (.aload_n 0, 1) := dg_X7_back_0.2.2.2.2.1
theorem dX7_back_9 : decode cX7_back 9 = .ok (.bipush 9, 2) := dg_X7_back_0.2.2.2.2.2.1
theorem dX7_back_11 : decode cX7_back 11 = .ok (.invokevirtual 65, 3) := dg_X7_back_0.2.2.2.2.2.2.1
theorem dX7_back_14 : decode cX7_back 14 = .ok (.ireturn, 1) := dg_X7_back_0.2.2.2.2.2.2.2.1
theorem dX7_back_15 : decode cX7_back 15 = .ok (.aload_n 0, 1) := dg_X7_back_0.2.2.2.2.2.2.2.2.1
theorem dX7_back_16 : decode cX7_back 16 = .ok (.dup, 1) := dg_X7_back_0.2.2.2.2.2.2.2.2.2.1
theorem dX7_back_17 : decode cX7_back 17 = .ok (.getfield 52, 3) := dg_X7_back_0.2.2.2.2.2.2.2.2.2.2.1
theorem dX7_back_20 : decode cX7_back 20 = .ok (.iconst 1, 1) := dg_X7_back_0.2.2.2.2.2.2.2.2.2.2.2.1
theorem dX7_back_21 : decode cX7_back 21 = .ok (.isub, 1) := dg_X7_back_0.2.2.2.2.2.2.2.2.2.2.2.2.1
theorem dX7_back_22 : decode cX7_back 22 = .ok (.putfield 52, 3) := dg_X7_back_0.2.2.2.2.2.2.2.2.2.2.2.2.2.1
theorem dX7_back_25 : decode cX7_back 25 = .ok (.aload_n 0, 1) := dg_X7_back_0.2.2.2.2.2.2.2.2.2.2.2.2.2.2.1
theorem dX7_back_26 : decode cX7_back 26 = .ok (.getfield 48, 3) := dg_X7_back_0.2.2.2.2.2.2.2.2.2.2.2.2.2.2.2
theorem dg_X7_back_29 : (decode cX7_back 29 = .ok (.aload_n 0, 1)) ∧ (decode cX7_back 30 = .ok (.getfield 52, 3)) ∧ (decode cX7_back 33 = .ok (.aaload, 1)) ∧ (decode cX7_back 34 = .ok (.ifnull 19, 3)) ∧ (decode cX7_back 37 = .ok (.aload_n 0, 1)) ∧ (decode cX7_back 38 = .ok (.getfield 48, 3)) ∧ (decode cX7_back 41 = .ok (.aload_n 0, 1)) ∧ (decode cX7_back 42 = .ok (.getfield 52, 3)) ∧ (decode cX7_back 45 = .ok (.aaload, 1)) ∧ (decode cX7_back 46 = .ok (.aload_n 0, 1)) ∧ (decode cX7_back 47 = .ok (.getfield 10, 3)) ∧ (decode cX7_back 50 = .ok (.invokevirtual 288, 3)) ∧ (decode cX7_back 53 = .ok (.aload_n 0, 1)) ∧ (decode cX7_back 54 = .ok (.aload_n 0, 1)) ∧ (decode cX7_back 55 = .ok (.getfield 52, 3)) ∧ (decode cX7_back 58 = .ok (.invokevirtual 100, 3)) := by decide +kernel
theorem dX7_back_29 : decode cX7_back 29 = .ok (.aload_n 0, 1) := dg_X7_back_29.1
theorem dX7_back_30 : decode cX7_back 30 = .ok (.getfield 52, 3) := dg_X7_back_29.2.1
theorem dX7_back_33 : decode cX7_back 33 = .ok (.aaload, 1) := dg_X7_back_29.2.2.1
theorem dX7_back_34 : decode cX7_back 34 = .ok (.ifnull 19, 3) := dg_X7_back_29.2.2.2.1
theorem dX7_back_37 : decode cX7_back 37 = .ok (.aload_n 0, 1) := dg_X7_back_29.2.2.2.2.1
theorem dX7_back_38 : decode cX7_back 38 = .ok (.getfield 48, 3) := dg_X7_back_29.2.2.2.2.2.1
theorem dX7_back_41 : decode cX7_back 41 = .ok (.aload_n 0, 1) := dg_X7_back_29.2.2.2.2.2.2.1
theorem dX7_back_42 : decode cX7_back 42 = .ok (.getfield 52, 3) := dg_X7_back_29.2.2.2.2.2.2.2.1
theorem dX7_back_45 : decode cX7_back 45 = .ok (.aaload, 1) := dg_X7_back_29.2.2.2.2.2.2.2.2.1
theorem dX7_back_46 : decode cX7_back 46 = .ok (.aload_n 0, 1) := dg_X7_back_29.2.2.2.2.2.2.2.2.2.1
theorem dX7_back_47 : decode cX7_back 47 = .ok (.getfield 10, 3) := dg_X7_back_29.2.2.2.2.2.2.2.2.2.2.1
theorem dX7_back_50 : decode cX7_back 50 = .ok (.invokevirtual 288, 3) := dg_X7_back_29.2.2.2.2.2.2.2.2.2.2.2.1
theorem dX7_back_53 : decode cX7_back 53 = .ok (.aload_n 0, 1) := dg_X7_back_29.2.2.2.2.2.2.2.2.2.2.2.2.1
theorem dX7_back_54 : decode cX7_back 54 = .ok (.aload_n 0, 1) := dg_X7_back_29.2.2.2.2.2.2.2.2.2.2.2.2.2.1
theorem dX7_back_55 : decode cX7_back 55 = .ok (.getfield 52, 3) := dg_X7_back_29.2.2.2.2.2.2.2.2.2.2.2.2.2.2.1
theorem dX7_back_58 : decode cX7_back 58 = .ok (.invokevirtual 100, 3) := dg_X7_back_29.2.2.2.2.2.2.2.2.2.2.2.2.2.2.2
theorem dg_X7_back_61 : (decode cX7_back 61 = .ok (.ireturn, 1)) := by decide +kernel
theorem dX7_back_61 : decode cX7_back 61 = .ok (.ireturn, 1) := dg_X7_back_61
abbrev rm_cx_back0 : Room := { frames := 1, cells := 0, slots := 0, locals := 21 }
abbrev po_cx_back0 (g : zz_G) (h0 : Nat) (st : Nat) (mk : Nat) (lk : Nat) (ch : Nat) (ru : Nat) (mr : Nat) (la : Int32) : Int32 → va_W → Prop := fun (r : Int32) (u : va_W) => r = -9 ∧ u = [cw_k6 h0 st mk lk ch ru mr (nI 0) 9]
set_option maxHeartbeats 4000000 in
set_option maxRecDepth 100000 in
theorem cx_back0 (g : zz_G) (h0 : Nat) (st : Nat) (mk : Nat) (lk : Nat) (ch : Nat) (ru : Nat) (mr : Nat) (la : Int32) : zz_I g yX7_back (.code yX7_back cX7_back 1 (some .int)) rm_cx_back0 [.ref h0] [cw_k6 h0 st mk lk ch ru mr (nI 0) la] (po_cx_back0 g h0 st mk lk ch ru mr la) := by
  refine zz_I.intro (own := RX7) (cc := cX7_back) (nL := 1) (by decide) rfl (Nat.le_of_ble_eq_true rfl) ?_
  intro p l e s m args below meth c A H locs ls hC hnm hs hZ hl
  obtain ⟨hx, hb, hml, hown, hts, hr, hlocks, hK⟩ := id hC
  have hl : lv_has ls 1 [(0, .ref h0)] := hl
  have hZ : zz_Z g A s.heap [cw_k6 h0 st mk lk ch ru mr (nI 0) la] H locs := hZ
  refine lv_aload_n hx hb dX7_back_0 rfl (lv_at hl 0 rfl) ?_
  refine zz_get hC hZ 0 rfl zf_X7_52 rfl dX7_back_1 ?_
  refine lv_iconst (v := 1) hx hb dX7_back_4 (by decide) ?_
  refine lv_icmp_ge (tgt := 15) hx hb dX7_back_5 (by decide) (fun c => absurd c (by decide)) (fun c1 => ?_)
  refine lv_aload_n hx hb dX7_back_8 rfl (lv_at hl 0 rfl) ?_
  refine lv_bipush (v := 9) hx hb dX7_back_9 (by decide) ?_
  refine zz_iV (As := [.int 9]) (wc := [cw_k6 h0 st mk lk ch ru mr (nI 0) la]) (wr := []) (rest := []) hC hZ hs hl zc_X7_65 (co_fail g h0 st mk lk ch ru mr (nI 0) la 9) [0] [] rfl rfl (by decide +kernel) (ci := 6) (q0 := 0) rfl rfl rfl rfl (Nat.le_of_ble_eq_true rfl) ⟨⟨Nat.le_of_ble_eq_true rfl, Nat.le_of_ble_eq_true rfl⟩, Nat.le_of_ble_eq_true rfl, Nat.le_of_ble_eq_true rfl⟩ dX7_back_11 (fun r2 u3 H locs hp hZ => ?_)
  obtain ⟨rfl, rfl⟩ := hp
  have hZ : zz_Z g A s.heap [cw_k6 h0 st mk lk ch ru mr (nI 0) 9] H locs := hZ
  exact zz_iret hC hZ (⟨rfl, rfl⟩) (Nat.le_of_ble_eq_true rfl) (Nat.le_of_ble_eq_true rfl) dX7_back_14
theorem zk_721 : Cond.methodLink RX7 288 yX4_bringBack ∈ zz_w := zz_in (List.mem_append_right _ (List.mem_append_right _ (List.mem_append_right _ (List.mem_append_right _ (List.mem_append_left _ (List.mem_of_getElem? (i := 1) (by decide +kernel))))))) rfl
set_option maxRecDepth 20000 in
theorem zk_724 : Cond.code yX4_bringBack cX4_bringBack 3 none ∈ zz_w := zz_in (List.mem_append_right _ (List.mem_append_right _ (List.mem_append_right _ (List.mem_append_right _ (List.mem_append_left _ (List.mem_of_getElem? (i := 4) (rfl))))))) rfl
theorem zk_722 : Cond.instanceMethod yX4_bringBack ∈ zz_w := zz_in (List.mem_append_right _ (List.mem_append_right _ (List.mem_append_right _ (List.mem_append_right _ (List.mem_append_left _ (List.mem_of_getElem? (i := 2) (by decide +kernel))))))) rfl
theorem zk_723 : Cond.selects RX4 yX4_bringBack yX4_bringBack ∈ zz_w := zz_in (List.mem_append_right _ (List.mem_append_right _ (List.mem_append_right _ (List.mem_append_right _ (List.mem_append_left _ (List.mem_of_getElem? (i := 3) (by decide +kernel))))))) rfl
theorem zc_X7_288 : zz_cV RX7 288 yX4_bringBack cX4_bringBack 3 none 1 := ⟨⟨zk_721, zk_724, zk_11, by decide, by decide, by decide +kernel⟩, zk_722, zk_723⟩
abbrev rm_cx_back1 : Room := { frames := 1, cells := 0, slots := 0, locals := 22 }
abbrev po_cx_back1 (g : zz_G) (h0 : Nat) (st : Nat) (mk : Nat) (lk : Nat) (ch : Nat) (ru : Nat) (mr : Nat) (kd : Nat) (dp : Nat) (cl : Nat) (sa : Nat) (ln : Nat) (bt : Nat) (pn : Nat) (bf : Nat) (nm : Nat) (la : Int32) (na : Nat) (nu : Nat) (mrf : Nat → Option Nat) (mq : Nat) (m_b : Nat) (m_p : Nat) (mbf : Nat → Int64) (mpf : Nat → Int32) (mu : Nat) (btf : Nat → Int64) (pnf : Nat → Int32) (h_8 : nm < 8 ∧ mu ≤ 4000) (h_n : mrf nm = some mq) : Int32 → va_W → Prop := fun (r : Int32) (u : va_W) => ∃ (bt2 : Nat → Int64) (pn2 : Nat → Int32), r = nI nm ∧ (∀ j, j < mu → bt2 j = mbf j) ∧ (∀ j, mu ≤ j → bt2 j = btf j) ∧ (∀ j, j < mu → pn2 j = mpf j &&& 1) ∧ (∀ j, mu ≤ j → pn2 j = pnf j) ∧ u = [cw_k6 h0 st mk lk ch ru mr (nI nm) 0, cw_q g mr 8 mrf, cw_k5 st (nI na) (nI nu) kd dp cl sa ln bt pn bf, cw_l g bt 4000 bt2, cw_z g pn 4000 pn2, cw_k3 mq m_b m_p (nI mu), cw_l g m_b 4000 mbf, cw_z g m_p 4000 mpf]
set_option maxHeartbeats 4000000 in
set_option maxRecDepth 100000 in
theorem cx_back1 (g : zz_G) (h0 : Nat) (st : Nat) (mk : Nat) (lk : Nat) (ch : Nat) (ru : Nat) (mr : Nat) (kd : Nat) (dp : Nat) (cl : Nat) (sa : Nat) (ln : Nat) (bt : Nat) (pn : Nat) (bf : Nat) (nm : Nat) (la : Int32) (na : Nat) (nu : Nat) (mrf : Nat → Option Nat) (mq : Nat) (m_b : Nat) (m_p : Nat) (mbf : Nat → Int64) (mpf : Nat → Int32) (mu : Nat) (btf : Nat → Int64) (pnf : Nat → Int32) (h_8 : nm < 8 ∧ mu ≤ 4000) (h_n : mrf nm = some mq) : zz_I g yX7_back (.code yX7_back cX7_back 1 (some .int)) rm_cx_back1 [.ref h0] [cw_k6 h0 st mk lk ch ru mr (nI (nm + 1)) la, cw_q g mr 8 mrf, cw_k5 st (nI na) (nI nu) kd dp cl sa ln bt pn bf, cw_l g bt 4000 btf, cw_z g pn 4000 pnf, cw_k3 mq m_b m_p (nI mu), cw_l g m_b 4000 mbf, cw_z g m_p 4000 mpf] (po_cx_back1 g h0 st mk lk ch ru mr kd dp cl sa ln bt pn bf nm la na nu mrf mq m_b m_p mbf mpf mu btf pnf h_8 h_n) := by
  refine zz_I.intro (own := RX7) (cc := cX7_back) (nL := 1) (by decide) rfl (Nat.le_of_ble_eq_true rfl) ?_
  intro p l e s m args below meth c A H locs ls hC hnm hs hZ hl
  obtain ⟨hx, hb, hml, hown, hts, hr, hlocks, hK⟩ := id hC
  have hl : lv_has ls 1 [(0, .ref h0)] := hl
  have hZ : zz_Z g A s.heap [cw_k6 h0 st mk lk ch ru mr (nI (nm + 1)) la, cw_q g mr 8 mrf, cw_k5 st (nI na) (nI nu) kd dp cl sa ln bt pn bf, cw_l g bt 4000 btf, cw_z g pn 4000 pnf, cw_k3 mq m_b m_p (nI mu), cw_l g m_b 4000 mbf, cw_z g m_p 4000 mpf] H locs := hZ
  obtain ⟨h8, hu⟩ := h_8
  refine lv_aload_n hx hb dX7_back_0 rfl (lv_at hl 0 rfl) ?_
  refine zz_get hC hZ 0 rfl zf_X7_52 rfl dX7_back_1 ?_
  refine lv_iconst (v := 1) hx hb dX7_back_4 (by decide) ?_
  refine lv_icmp_ge (tgt := 15) hx hb dX7_back_5 (by decide) (fun c1 => ?_) (fun c => absurd (nI_le (a := 1) (by omega) (by omega)) c)
  refine lv_aload_n hx hb dX7_back_15 rfl (lv_at hl 0 rfl) ?_
  refine lv_dup hx hb dX7_back_16 rfl ?_
  refine zz_get hC hZ 0 rfl zf_X7_52 rfl dX7_back_17 ?_
  refine lv_iconst (v := 1) hx hb dX7_back_20 (by decide) ?_
  refine lv_isub hx hb dX7_back_21 ?_
  refine zz_topi (v := nI nm) (nI_pred _) ?_
  refine zz_put hC hZ 0 rfl zu_X7_52 (Nat.le_of_ble_eq_true rfl) dX7_back_22 (fun H locs hZ => ?_)
  have hZ : zz_Z g A s.heap [cw_k6 h0 st mk lk ch ru mr (nI nm) la, cw_q g mr 8 mrf, cw_k5 st (nI na) (nI nu) kd dp cl sa ln bt pn bf, cw_l g bt 4000 btf, cw_z g pn 4000 pnf, cw_k3 mq m_b m_p (nI mu), cw_l g m_b 4000 mbf, cw_z g m_p 4000 mpf] H locs := hZ
  refine lv_aload_n hx hb dX7_back_25 rfl (lv_at hl 0 rfl) ?_
  refine zz_get hC hZ 0 rfl zf_X7_48 rfl dX7_back_26 ?_
  refine lv_aload_n hx hb dX7_back_29 rfl (lv_at hl 0 rfl) ?_
  refine zz_get hC hZ 0 rfl zf_X7_52 rfl dX7_back_30 ?_
  refine zz_aald hC hZ 1 rfl (vp_in_nI (by omega) (by decide)) dX7_back_33 ?_
  rw [nI_clamp (n := nm) (by omega)]
  refine zz_topv (v := .ref mq) (by rw [h_n]; rfl) ?_
  refine lv_ifnull hx hb dX7_back_34 ?_
  refine lv_aload_n hx hb dX7_back_37 rfl (lv_at hl 0 rfl) ?_
  refine zz_get hC hZ 0 rfl zf_X7_48 rfl dX7_back_38 ?_
  refine lv_aload_n hx hb dX7_back_41 rfl (lv_at hl 0 rfl) ?_
  refine zz_get hC hZ 0 rfl zf_X7_52 rfl dX7_back_42 ?_
  refine zz_aald hC hZ 1 rfl (vp_in_nI (by omega) (by decide)) dX7_back_45 ?_
  rw [nI_clamp (n := nm) (by omega)]
  refine zz_topv (v := .ref mq) (by rw [h_n]; rfl) ?_
  refine lv_aload_n hx hb dX7_back_46 rfl (lv_at hl 0 rfl) ?_
  refine zz_get hC hZ 0 rfl zf_X7_10 rfl dX7_back_47 ?_
  refine zz_vV (As := [.ref st]) (wc := [cw_k3 mq m_b m_p (nI mu), cw_l g m_b 4000 mbf, cw_z g m_p 4000 mpf, cw_k5 st (nI na) (nI nu) kd dp cl sa ln bt pn bf, cw_l g bt 4000 btf, cw_z g pn 4000 pnf]) (wr := [cw_k6 h0 st mk lk ch ru mr (nI nm) la, cw_q g mr 8 mrf]) (rest := []) hC hZ hs hl zc_X7_288 (co_bringBack g mq m_b m_p st kd dp cl sa ln bt pn bf na nu mbf mpf btf pnf mu (by omega)) [5, 6, 7, 2, 3, 4] [0, 1] rfl rfl (by decide +kernel) (ci := 3) (q0 := 0) rfl rfl rfl rfl (Nat.le_of_ble_eq_true rfl) ⟨⟨Nat.le_of_ble_eq_true rfl, Nat.le_of_ble_eq_true rfl⟩, Nat.le_of_ble_eq_true rfl, Nat.le_of_ble_eq_true rfl⟩ dX7_back_50 (fun u3 H locs hp hZ => ?_)
  obtain ⟨bt2_4, pn2_5, f6, f7, f8, f9, rfl⟩ := hp
  have hZ : zz_Z g A s.heap [cw_k6 h0 st mk lk ch ru mr (nI nm) la, cw_q g mr 8 mrf, cw_k3 mq m_b m_p (nI mu), cw_l g m_b 4000 mbf, cw_z g m_p 4000 mpf, cw_k5 st (nI na) (nI nu) kd dp cl sa ln bt pn bf, cw_l g bt 4000 bt2_4, cw_z g pn 4000 pn2_5] H locs := hZ
  refine lv_aload_n hx hb dX7_back_53 rfl (lv_at hl 0 rfl) ?_
  refine lv_aload_n hx hb dX7_back_54 rfl (lv_at hl 0 rfl) ?_
  refine zz_get hC hZ 0 rfl zf_X7_52 rfl dX7_back_55 ?_
  refine zz_iV (As := [.int (nI nm)]) (wc := [cw_k6 h0 st mk lk ch ru mr (nI nm) la]) (wr := [cw_q g mr 8 mrf, cw_k3 mq m_b m_p (nI mu), cw_l g m_b 4000 mbf, cw_z g m_p 4000 mpf, cw_k5 st (nI na) (nI nu) kd dp cl sa ln bt pn bf, cw_l g bt 4000 bt2_4, cw_z g pn 4000 pn2_5]) (rest := []) hC hZ hs hl zc_X7_100 (co_fine g h0 st mk lk ch ru mr (nI nm) la (nI nm)) [0] [1, 2, 3, 4, 5, 6, 7] rfl rfl (by decide +kernel) (ci := 6) (q0 := 0) rfl rfl rfl rfl (Nat.le_of_ble_eq_true rfl) ⟨⟨Nat.le_of_ble_eq_true rfl, Nat.le_of_ble_eq_true rfl⟩, Nat.le_of_ble_eq_true rfl, Nat.le_of_ble_eq_true rfl⟩ dX7_back_58 (fun r10 u11 H locs hp hZ => ?_)
  obtain ⟨rfl, rfl⟩ := hp
  have hZ : zz_Z g A s.heap [cw_q g mr 8 mrf, cw_k3 mq m_b m_p (nI mu), cw_l g m_b 4000 mbf, cw_z g m_p 4000 mpf, cw_k5 st (nI na) (nI nu) kd dp cl sa ln bt pn bf, cw_l g bt 4000 bt2_4, cw_z g pn 4000 pn2_5, cw_k6 h0 st mk lk ch ru mr (nI nm) 0] H locs := hZ
  have hZ : zz_Z g A s.heap [cw_k6 h0 st mk lk ch ru mr (nI nm) 0, cw_q g mr 8 mrf, cw_k5 st (nI na) (nI nu) kd dp cl sa ln bt pn bf, cw_l g bt 4000 bt2_4, cw_z g pn 4000 pn2_5, cw_k3 mq m_b m_p (nI mu), cw_l g m_b 4000 mbf, cw_z g m_p 4000 mpf] H locs := hZ.sub [7, 0, 4, 5, 6, 1, 2, 3] (by decide +kernel) rfl
  exact zz_iret hC hZ (⟨bt2_4, pn2_5, rfl, f6, f7, f8, f9, rfl⟩) (Nat.le_of_ble_eq_true rfl) (Nat.le_of_ble_eq_true rfl) dX7_back_61
