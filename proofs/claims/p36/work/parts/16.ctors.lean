theorem dg_X6_init_0 : (decode cX6_init 0 = .ok (.aload_n 0, 1)) ∧ (decode cX6_init 1 = .ok (.invokespecial 3, 3)) ∧ (decode cX6_init 4 = .ok (.aload_n 0, 1)) ∧ (decode cX6_init 5 = .ok (.bipush 60, 2)) ∧ (decode cX6_init 7 = .ok (.newarray .int, 2)) ∧ (decode cX6_init 9 = .ok (.putfield 9, 3)) ∧ (decode cX6_init 12 = .ok (.aload_n 0, 1)) ∧ (decode cX6_init 13 = .ok (.bipush 60, 2)) ∧ (decode cX6_init 15 = .ok (.newarray .int, 2)) ∧ (decode cX6_init 17 = .ok (.putfield 15, 3)) ∧ (decode cX6_init 20 = .ok (.aload_n 0, 1)) ∧ (decode cX6_init 21 = .ok (.bipush 60, 2)) ∧ (decode cX6_init 23 = .ok (.newarray .int, 2)) ∧ (decode cX6_init 25 = .ok (.putfield 18, 3)) ∧ (decode cX6_init 28 = .ok (.aload_n 0, 1)) ∧ (decode cX6_init 29 = .ok (.bipush 60, 2)) := by decide +kernel
theorem dX6_init_0 : decode cX6_init 0 = .ok (.aload_n 0, 1) := dg_X6_init_0.1
theorem dX6_init_1 : decode cX6_init 1 = .ok (.invokespecial 3, 3) := dg_X6_init_0.2.1
theorem dX6_init_4 : decode cX6_init 4 = .ok (.aload_n 0, 1) := dg_X6_init_0.2.2.1
theorem dX6_init_5 : decode cX6_init 5 = .ok (.bipush 60, 2) := dg_X6_init_0.2.2.2.1
theorem dX6_init_7 : decode cX6_init 7 = .ok (.newarray .int, 2) := dg_X6_init_0.2.2.2.2.1
theorem dX6_init_9 : decode cX6_init 9 = .ok (.putfield 9, 3) := dg_X6_init_0.2.2.2.2.2.1
theorem dX6_init_12 : decode cX6_init 12 = .ok (.aload_n 0, 1) := dg_X6_init_0.2.2.2.2.2.2.1
theorem dX6_init_13 : decode cX6_init 13 = .ok (.bipush 60, 2) := dg_X6_init_0.2.2.2.2.2.2.2.1
theorem dX6_init_15 : decode cX6_init 15 = .ok (.newarray .int, 2) := dg_X6_init_0.2.2.2.2.2.2.2.2.1
theorem dX6_init_17 : decode cX6_init 17 = .ok (.putfield 15, 3) := dg_X6_init_0.2.2.2.2.2.2.2.2.2.1
theorem dX6_init_20 : decode cX6_init 20 = .ok (.aload_n 0, 1) := dg_X6_init_0.2.2.2.2.2.2.2.2.2.2.1
theorem dX6_init_21 : decode cX6_init 21 = .ok (.bipush 60, 2) := dg_X6_init_0.2.2.2.2.2.2.2.2.2.2.2.1
theorem dX6_init_23 : decode cX6_init 23 = .ok (.newarray .int, 2) := dg_X6_init_0.2.2.2.2.2.2.2.2.2.2.2.2.1
theorem dX6_init_25 : decode cX6_init 25 = .ok (.putfield 18, 3) := dg_X6_init_0.2.2.2.2.2.2.2.2.2.2.2.2.2.1
theorem dX6_init_28 : decode cX6_init 28 = .ok (.aload_n 0, 1) := dg_X6_init_0.2.2.2.2.2.2.2.2.2.2.2.2.2.2.1
theorem dX6_init_29 : decode cX6_init 29 = .ok (.bipush 60, 2) := dg_X6_init_0.2.2.2.2.2.2.2.2.2.2.2.2.2.2.2
theorem dg_X6_init_31 : (decode cX6_init 31 = .ok (.newarray .int, 2)) ∧ (decode cX6_init 33 = .ok (.putfield 21, 3)) ∧ (decode cX6_init 36 = .ok (.aload_n 0, 1)) ∧ (decode cX6_init 37 = .ok (.bipush 60, 2)) ∧ (decode cX6_init 39 = .ok (.newarray .int, 2)) ∧ (decode cX6_init 41 = .ok (.putfield 24, 3)) ∧ (decode cX6_init 44 = .ok (.aload_n 0, 1)) ∧ (decode cX6_init 45 = .ok (.sipush 4000, 3)) ∧ (decode cX6_init 48 = .ok (.newarray .long, 2)) ∧ (decode cX6_init 50 = .ok (.putfield 27, 3)) ∧ (decode cX6_init 53 = .ok (.aload_n 0, 1)) ∧ (decode cX6_init 54 = .ok (.sipush 4000, 3)) ∧ (decode cX6_init 57 = .ok (.newarray .boolean, 2)) ∧ (decode cX6_init 59 = .ok (.putfield 31, 3)) ∧ (decode cX6_init 62 = .ok (.aload_n 0, 1)) ∧ (decode cX6_init 63 = .ok (.sipush 200, 3)) := by decide +kernel
theorem dX6_init_31 : decode cX6_init 31 = .ok (.newarray .int, 2) := dg_X6_init_31.1
theorem dX6_init_33 : decode cX6_init 33 = .ok (.putfield 21, 3) := dg_X6_init_31.2.1
theorem dX6_init_36 : decode cX6_init 36 = .ok (.aload_n 0, 1) := dg_X6_init_31.2.2.1
theorem dX6_init_37 : decode cX6_init 37 = .ok (.bipush 60, 2) := dg_X6_init_31.2.2.2.1
theorem dX6_init_39 : decode cX6_init 39 = .ok (.newarray .int, 2) := dg_X6_init_31.2.2.2.2.1
theorem dX6_init_41 : decode cX6_init 41 = .ok (.putfield 24, 3) := dg_X6_init_31.2.2.2.2.2.1
theorem dX6_init_44 : decode cX6_init 44 = .ok (.aload_n 0, 1) := dg_X6_init_31.2.2.2.2.2.2.1
theorem dX6_init_45 : decode cX6_init 45 = .ok (.sipush 4000, 3) := dg_X6_init_31.2.2.2.2.2.2.2.1
theorem dX6_init_48 : decode cX6_init 48 = .ok (.newarray .long, 2) := dg_X6_init_31.2.2.2.2.2.2.2.2.1
theorem dX6_init_50 : decode cX6_init 50 = .ok (.putfield 27, 3) := dg_X6_init_31.2.2.2.2.2.2.2.2.2.1
theorem dX6_init_53 : decode cX6_init 53 = .ok (.aload_n 0, 1) := dg_X6_init_31.2.2.2.2.2.2.2.2.2.2.1
theorem dX6_init_54 : decode cX6_init 54 = .ok (.sipush 4000, 3) := dg_X6_init_31.2.2.2.2.2.2.2.2.2.2.2.1
theorem dX6_init_57 : decode cX6_init 57 = .ok (.newarray .boolean, 2) := dg_X6_init_31.2.2.2.2.2.2.2.2.2.2.2.2.1
theorem dX6_init_59 : decode cX6_init 59 = .ok (.putfield 31, 3) := dg_X6_init_31.2.2.2.2.2.2.2.2.2.2.2.2.2.1
theorem dX6_init_62 : decode cX6_init 62 = .ok (.aload_n 0, 1) := dg_X6_init_31.2.2.2.2.2.2.2.2.2.2.2.2.2.2.1
theorem dX6_init_63 : decode cX6_init 63 = .ok (.sipush 200, 3) := dg_X6_init_31.2.2.2.2.2.2.2.2.2.2.2.2.2.2.2
theorem dg_X6_init_66 : (decode cX6_init 66 = .ok (.newarray .long, 2)) ∧ (decode cX6_init 68 = .ok (.putfield 35, 3)) ∧ (decode cX6_init 71 = .ok (.return_, 1)) := by decide +kernel
theorem dX6_init_66 : decode cX6_init 66 = .ok (.newarray .long, 2) := dg_X6_init_66.1
theorem dX6_init_68 : decode cX6_init 68 = .ok (.putfield 35, 3) := dg_X6_init_66.2.1
theorem dX6_init_71 : decode cX6_init 71 = .ok (.return_, 1) := dg_X6_init_66.2.2
theorem zk_25 : Cond.methodLink RX6 3 objectInit ∈ zz_w := zz_in (List.mem_append_right _ (List.mem_append_left _ (List.mem_of_getElem? (i := 25) (by decide +kernel)))) rfl
theorem zk_18 : Cond.instanceMethod objectInit ∈ zz_w := zz_in (List.mem_append_right _ (List.mem_append_left _ (List.mem_of_getElem? (i := 18) (by decide +kernel)))) rfl
set_option maxRecDepth 20000 in
theorem zk_19 : Cond.code objectInit ⟨#[0xb1]⟩ 1 none ∈ zz_w := zz_in (List.mem_append_right _ (List.mem_append_left _ (List.mem_of_getElem? (i := 19) (rfl)))) rfl
theorem zk_87 : Cond.arrayClass .int ∈ zz_w := zz_in (List.mem_append_right _ (List.mem_append_left _ (List.mem_of_getElem? (i := 87) (by decide +kernel)))) rfl
theorem zu_X6_9 : zz_fw RX6 9 5 2 true (.array .int) := ⟨RX6, TX6, 10, tyX6, rfl, zi_X6, by decide, zk_31, tyX6_ok, nmX6, rfl, by decide +kernel, fun _ => rfl⟩
theorem zu_X6_15 : zz_fw RX6 15 5 3 true (.array .int) := ⟨RX6, TX6, 10, tyX6, rfl, zi_X6, by decide, zk_37, tyX6_ok, nmX6, rfl, by decide +kernel, fun _ => rfl⟩
theorem zu_X6_18 : zz_fw RX6 18 5 4 true (.array .int) := ⟨RX6, TX6, 10, tyX6, rfl, zi_X6, by decide, zk_41, tyX6_ok, nmX6, rfl, by decide +kernel, fun _ => rfl⟩
theorem zu_X6_21 : zz_fw RX6 21 5 5 true (.array .int) := ⟨RX6, TX6, 10, tyX6, rfl, zi_X6, by decide, zk_44, tyX6_ok, nmX6, rfl, by decide +kernel, fun _ => rfl⟩
theorem zu_X6_24 : zz_fw RX6 24 5 6 true (.array .int) := ⟨RX6, TX6, 10, tyX6, rfl, zi_X6, by decide, zk_49, tyX6_ok, nmX6, rfl, by decide +kernel, fun _ => rfl⟩
theorem zk_88 : Cond.arrayClass .long ∈ zz_w := zz_in (List.mem_append_right _ (List.mem_append_left _ (List.mem_of_getElem? (i := 88) (by decide +kernel)))) rfl
theorem zu_X6_27 : zz_fw RX6 27 5 7 true (.array .long) := ⟨RX6, TX6, 10, tyX6, rfl, zi_X6, by decide, zk_54, tyX6_ok, nmX6, rfl, by decide +kernel, fun _ => rfl⟩
theorem zk_89 : Cond.arrayClass .boolean ∈ zz_w := zz_in (List.mem_append_right _ (List.mem_append_left _ (List.mem_of_getElem? (i := 89) (by decide +kernel)))) rfl
theorem zu_X6_31 : zz_fw RX6 31 5 8 true (.array .boolean) := ⟨RX6, TX6, 10, tyX6, rfl, zi_X6, by decide, zk_61, tyX6_ok, nmX6, rfl, by decide +kernel, fun _ => rfl⟩
theorem zu_X6_35 : zz_fw RX6 35 5 9 true (.array .long) := ⟨RX6, TX6, 10, tyX6, rfl, zi_X6, by decide, zk_65, tyX6_ok, nmX6, rfl, by decide +kernel, fun _ => rfl⟩
abbrev rm_ci_Store : Room := { frames := 1, cells := 8, slots := 8500, locals := 12 }
abbrev po_ci_Store (g : zz_G) (h0 : Nat) : va_W → Prop := fun (u : va_W) => ∃ (e1 : Nat) (e2 : Nat) (e3 : Nat) (e4 : Nat) (e5 : Nat) (e6 : Nat) (e7 : Nat) (e8 : Nat), u = [cw_k5 h0 0 0 e1 e2 e3 e4 e5 e6 e7 e8, cw_i g e1 60 (fun _ => 0), cw_i g e2 60 (fun _ => 0), cw_i g e3 60 (fun _ => 0), cw_i g e4 60 (fun _ => 0), cw_i g e5 60 (fun _ => 0), cw_l g e6 4000 (fun _ => 0), cw_z g e7 4000 (fun _ => 0), cw_l g e8 200 (fun _ => 0)]
set_option maxHeartbeats 4000000 in
set_option maxRecDepth 100000 in
theorem ci_Store (g : zz_G) (h0 : Nat) : zz_V g yX6_init (.code yX6_init cX6_init 1 none) rm_ci_Store [.ref h0] [cw_o h0 5 [.int 0, .int 0, .null, .null, .null, .null, .null, .null, .null, .null]] (po_ci_Store g h0) := by
  refine zz_V.intro (own := RX6) (cc := cX6_init) (nL := 1) (by decide) rfl (Nat.le_of_ble_eq_true rfl) ?_
  intro p l e s m args below meth c A H locs ls hC hnm hs hZ hl
  obtain ⟨hx, hb, hml, hown, hts, hr, hlocks, hK⟩ := id hC
  have hl : lv_has ls 1 [(0, .ref h0)] := hl
  have hZ : zz_Z g A s.heap [cw_o h0 5 [.int 0, .int 0, .null, .null, .null, .null, .null, .null, .null, .null]] H locs := hZ
  refine lv_aload_n hx hb dX6_init_0 rfl (lv_at hl 0 rfl) ?_
  refine zz_obj hC hl zk_25 zk_18 zk_19 (Nat.le_of_ble_eq_true rfl) (Nat.le_of_ble_eq_true rfl) dX6_init_1 ?_
  refine lv_aload_n hx hb dX6_init_4 rfl (lv_at hl 0 rfl) ?_
  refine lv_bipush (v := 60) hx hb dX6_init_5 (by decide) ?_
  refine zz_newi (N' := 60) hC hZ zk_87 (by decide) (by decide) (Nat.le_of_ble_eq_true rfl) (Nat.le_of_ble_eq_true rfl) (Nat.le_of_ble_eq_true rfl) dX6_init_7 (fun q1 H hZ => ?_)
  have hZ : zz_Z g A s.heap [cw_o h0 5 [.int 0, .int 0, .null, .null, .null, .null, .null, .null, .null, .null], cw_i g q1 60 (fun _ => 0)] H locs := hZ
  refine zz_putF hC hnm hZ 0 rfl zu_X6_9 rfl rfl (Nat.le_of_ble_eq_true rfl) dX6_init_9 (fun H locs hZ => ?_)
  have hZ : zz_Z g A s.heap [cw_o h0 5 [.int 0, .int 0, .ref q1, .null, .null, .null, .null, .null, .null, .null], cw_i g q1 60 (fun _ => 0)] H locs := hZ
  refine lv_aload_n hx hb dX6_init_12 rfl (lv_at hl 0 rfl) ?_
  refine lv_bipush (v := 60) hx hb dX6_init_13 (by decide) ?_
  refine zz_newi (N' := 60) hC hZ zk_87 (by decide) (by decide) (Nat.le_of_ble_eq_true rfl) (Nat.le_of_ble_eq_true rfl) (Nat.le_of_ble_eq_true rfl) dX6_init_15 (fun q2 H hZ => ?_)
  have hZ : zz_Z g A s.heap [cw_o h0 5 [.int 0, .int 0, .ref q1, .null, .null, .null, .null, .null, .null, .null], cw_i g q1 60 (fun _ => 0), cw_i g q2 60 (fun _ => 0)] H locs := hZ
  refine zz_putF hC hnm hZ 0 rfl zu_X6_15 rfl rfl (Nat.le_of_ble_eq_true rfl) dX6_init_17 (fun H locs hZ => ?_)
  have hZ : zz_Z g A s.heap [cw_o h0 5 [.int 0, .int 0, .ref q1, .ref q2, .null, .null, .null, .null, .null, .null], cw_i g q1 60 (fun _ => 0), cw_i g q2 60 (fun _ => 0)] H locs := hZ
  refine lv_aload_n hx hb dX6_init_20 rfl (lv_at hl 0 rfl) ?_
  refine lv_bipush (v := 60) hx hb dX6_init_21 (by decide) ?_
  refine zz_newi (N' := 60) hC hZ zk_87 (by decide) (by decide) (Nat.le_of_ble_eq_true rfl) (Nat.le_of_ble_eq_true rfl) (Nat.le_of_ble_eq_true rfl) dX6_init_23 (fun q3 H hZ => ?_)
  have hZ : zz_Z g A s.heap [cw_o h0 5 [.int 0, .int 0, .ref q1, .ref q2, .null, .null, .null, .null, .null, .null], cw_i g q1 60 (fun _ => 0), cw_i g q2 60 (fun _ => 0), cw_i g q3 60 (fun _ => 0)] H locs := hZ
  refine zz_putF hC hnm hZ 0 rfl zu_X6_18 rfl rfl (Nat.le_of_ble_eq_true rfl) dX6_init_25 (fun H locs hZ => ?_)
  have hZ : zz_Z g A s.heap [cw_o h0 5 [.int 0, .int 0, .ref q1, .ref q2, .ref q3, .null, .null, .null, .null, .null], cw_i g q1 60 (fun _ => 0), cw_i g q2 60 (fun _ => 0), cw_i g q3 60 (fun _ => 0)] H locs := hZ
  refine lv_aload_n hx hb dX6_init_28 rfl (lv_at hl 0 rfl) ?_
  refine lv_bipush (v := 60) hx hb dX6_init_29 (by decide) ?_
  refine zz_newi (N' := 60) hC hZ zk_87 (by decide) (by decide) (Nat.le_of_ble_eq_true rfl) (Nat.le_of_ble_eq_true rfl) (Nat.le_of_ble_eq_true rfl) dX6_init_31 (fun q4 H hZ => ?_)
  have hZ : zz_Z g A s.heap [cw_o h0 5 [.int 0, .int 0, .ref q1, .ref q2, .ref q3, .null, .null, .null, .null, .null], cw_i g q1 60 (fun _ => 0), cw_i g q2 60 (fun _ => 0), cw_i g q3 60 (fun _ => 0), cw_i g q4 60 (fun _ => 0)] H locs := hZ
  refine zz_putF hC hnm hZ 0 rfl zu_X6_21 rfl rfl (Nat.le_of_ble_eq_true rfl) dX6_init_33 (fun H locs hZ => ?_)
  have hZ : zz_Z g A s.heap [cw_o h0 5 [.int 0, .int 0, .ref q1, .ref q2, .ref q3, .ref q4, .null, .null, .null, .null], cw_i g q1 60 (fun _ => 0), cw_i g q2 60 (fun _ => 0), cw_i g q3 60 (fun _ => 0), cw_i g q4 60 (fun _ => 0)] H locs := hZ
  refine lv_aload_n hx hb dX6_init_36 rfl (lv_at hl 0 rfl) ?_
  refine lv_bipush (v := 60) hx hb dX6_init_37 (by decide) ?_
  refine zz_newi (N' := 60) hC hZ zk_87 (by decide) (by decide) (Nat.le_of_ble_eq_true rfl) (Nat.le_of_ble_eq_true rfl) (Nat.le_of_ble_eq_true rfl) dX6_init_39 (fun q5 H hZ => ?_)
  have hZ : zz_Z g A s.heap [cw_o h0 5 [.int 0, .int 0, .ref q1, .ref q2, .ref q3, .ref q4, .null, .null, .null, .null], cw_i g q1 60 (fun _ => 0), cw_i g q2 60 (fun _ => 0), cw_i g q3 60 (fun _ => 0), cw_i g q4 60 (fun _ => 0), cw_i g q5 60 (fun _ => 0)] H locs := hZ
  refine zz_putF hC hnm hZ 0 rfl zu_X6_24 rfl rfl (Nat.le_of_ble_eq_true rfl) dX6_init_41 (fun H locs hZ => ?_)
  have hZ : zz_Z g A s.heap [cw_o h0 5 [.int 0, .int 0, .ref q1, .ref q2, .ref q3, .ref q4, .ref q5, .null, .null, .null], cw_i g q1 60 (fun _ => 0), cw_i g q2 60 (fun _ => 0), cw_i g q3 60 (fun _ => 0), cw_i g q4 60 (fun _ => 0), cw_i g q5 60 (fun _ => 0)] H locs := hZ
  refine lv_aload_n hx hb dX6_init_44 rfl (lv_at hl 0 rfl) ?_
  refine lv_sipush (v := 4000) hx hb dX6_init_45 (by decide) ?_
  refine zz_newl (N' := 4000) hC hZ zk_88 (by decide) (by decide) (Nat.le_of_ble_eq_true rfl) (Nat.le_of_ble_eq_true rfl) (Nat.le_of_ble_eq_true rfl) dX6_init_48 (fun q6 H hZ => ?_)
  have hZ : zz_Z g A s.heap [cw_o h0 5 [.int 0, .int 0, .ref q1, .ref q2, .ref q3, .ref q4, .ref q5, .null, .null, .null], cw_i g q1 60 (fun _ => 0), cw_i g q2 60 (fun _ => 0), cw_i g q3 60 (fun _ => 0), cw_i g q4 60 (fun _ => 0), cw_i g q5 60 (fun _ => 0), cw_l g q6 4000 (fun _ => 0)] H locs := hZ
  refine zz_putF hC hnm hZ 0 rfl zu_X6_27 rfl rfl (Nat.le_of_ble_eq_true rfl) dX6_init_50 (fun H locs hZ => ?_)
  have hZ : zz_Z g A s.heap [cw_o h0 5 [.int 0, .int 0, .ref q1, .ref q2, .ref q3, .ref q4, .ref q5, .ref q6, .null, .null], cw_i g q1 60 (fun _ => 0), cw_i g q2 60 (fun _ => 0), cw_i g q3 60 (fun _ => 0), cw_i g q4 60 (fun _ => 0), cw_i g q5 60 (fun _ => 0), cw_l g q6 4000 (fun _ => 0)] H locs := hZ
  refine lv_aload_n hx hb dX6_init_53 rfl (lv_at hl 0 rfl) ?_
  refine lv_sipush (v := 4000) hx hb dX6_init_54 (by decide) ?_
  refine zz_newz (N' := 4000) hC hZ zk_89 (by decide) (by decide) (Nat.le_of_ble_eq_true rfl) (Nat.le_of_ble_eq_true rfl) (Nat.le_of_ble_eq_true rfl) dX6_init_57 (fun q7 H hZ => ?_)
  have hZ : zz_Z g A s.heap [cw_o h0 5 [.int 0, .int 0, .ref q1, .ref q2, .ref q3, .ref q4, .ref q5, .ref q6, .null, .null], cw_i g q1 60 (fun _ => 0), cw_i g q2 60 (fun _ => 0), cw_i g q3 60 (fun _ => 0), cw_i g q4 60 (fun _ => 0), cw_i g q5 60 (fun _ => 0), cw_l g q6 4000 (fun _ => 0), cw_z g q7 4000 (fun _ => 0)] H locs := hZ
  refine zz_putF hC hnm hZ 0 rfl zu_X6_31 rfl rfl (Nat.le_of_ble_eq_true rfl) dX6_init_59 (fun H locs hZ => ?_)
  have hZ : zz_Z g A s.heap [cw_o h0 5 [.int 0, .int 0, .ref q1, .ref q2, .ref q3, .ref q4, .ref q5, .ref q6, .ref q7, .null], cw_i g q1 60 (fun _ => 0), cw_i g q2 60 (fun _ => 0), cw_i g q3 60 (fun _ => 0), cw_i g q4 60 (fun _ => 0), cw_i g q5 60 (fun _ => 0), cw_l g q6 4000 (fun _ => 0), cw_z g q7 4000 (fun _ => 0)] H locs := hZ
  refine lv_aload_n hx hb dX6_init_62 rfl (lv_at hl 0 rfl) ?_
  refine lv_sipush (v := 200) hx hb dX6_init_63 (by decide) ?_
  refine zz_newl (N' := 200) hC hZ zk_88 (by decide) (by decide) (Nat.le_of_ble_eq_true rfl) (Nat.le_of_ble_eq_true rfl) (Nat.le_of_ble_eq_true rfl) dX6_init_66 (fun q8 H hZ => ?_)
  have hZ : zz_Z g A s.heap [cw_o h0 5 [.int 0, .int 0, .ref q1, .ref q2, .ref q3, .ref q4, .ref q5, .ref q6, .ref q7, .null], cw_i g q1 60 (fun _ => 0), cw_i g q2 60 (fun _ => 0), cw_i g q3 60 (fun _ => 0), cw_i g q4 60 (fun _ => 0), cw_i g q5 60 (fun _ => 0), cw_l g q6 4000 (fun _ => 0), cw_z g q7 4000 (fun _ => 0), cw_l g q8 200 (fun _ => 0)] H locs := hZ
  refine zz_putF hC hnm hZ 0 rfl zu_X6_35 rfl rfl (Nat.le_of_ble_eq_true rfl) dX6_init_68 (fun H locs hZ => ?_)
  have hZ : zz_Z g A s.heap [cw_k5 h0 0 0 q1 q2 q3 q4 q5 q6 q7 q8, cw_i g q1 60 (fun _ => 0), cw_i g q2 60 (fun _ => 0), cw_i g q3 60 (fun _ => 0), cw_i g q4 60 (fun _ => 0), cw_i g q5 60 (fun _ => 0), cw_l g q6 4000 (fun _ => 0), cw_z g q7 4000 (fun _ => 0), cw_l g q8 200 (fun _ => 0)] H locs := hZ
  exact zz_vret hC hZ (⟨q1, q2, q3, q4, q5, q6, q7, q8, rfl⟩) (Nat.le_of_ble_eq_true rfl) (Nat.le_of_ble_eq_true rfl) dX6_init_71
theorem dg_X3_init_0 : (decode cX3_init 0 = .ok (.aload_n 0, 1)) ∧ (decode cX3_init 1 = .ok (.invokespecial 3, 3)) ∧ (decode cX3_init 4 = .ok (.aload_n 0, 1)) ∧ (decode cX3_init 5 = .ok (.iconst 4, 1)) ∧ (decode cX3_init 6 = .ok (.newarray .int, 2)) ∧ (decode cX3_init 8 = .ok (.putfield 9, 3)) ∧ (decode cX3_init 11 = .ok (.aload_n 0, 1)) ∧ (decode cX3_init 12 = .ok (.aload_n 1, 1)) ∧ (decode cX3_init 13 = .ok (.putfield 15, 3)) ∧ (decode cX3_init 16 = .ok (.return_, 1)) := by decide +kernel
theorem dX3_init_0 : decode cX3_init 0 = .ok (.aload_n 0, 1) := dg_X3_init_0.1
theorem dX3_init_1 : decode cX3_init 1 = .ok (.invokespecial 3, 3) := dg_X3_init_0.2.1
theorem dX3_init_4 : decode cX3_init 4 = .ok (.aload_n 0, 1) := dg_X3_init_0.2.2.1
theorem dX3_init_5 : decode cX3_init 5 = .ok (.iconst 4, 1) := dg_X3_init_0.2.2.2.1
theorem dX3_init_6 : decode cX3_init 6 = .ok (.newarray .int, 2) := dg_X3_init_0.2.2.2.2.1
theorem dX3_init_8 : decode cX3_init 8 = .ok (.putfield 9, 3) := dg_X3_init_0.2.2.2.2.2.1
theorem dX3_init_11 : decode cX3_init 11 = .ok (.aload_n 0, 1) := dg_X3_init_0.2.2.2.2.2.2.1
theorem dX3_init_12 : decode cX3_init 12 = .ok (.aload_n 1, 1) := dg_X3_init_0.2.2.2.2.2.2.2.1
theorem dX3_init_13 : decode cX3_init 13 = .ok (.putfield 15, 3) := dg_X3_init_0.2.2.2.2.2.2.2.2.1
theorem dX3_init_16 : decode cX3_init 16 = .ok (.return_, 1) := dg_X3_init_0.2.2.2.2.2.2.2.2.2
theorem zk_95 : Cond.methodLink RX3 3 objectInit ∈ zz_w := zz_in (List.mem_append_right _ (List.mem_append_left _ (List.mem_of_getElem? (i := 95) (by decide +kernel)))) rfl
theorem zk_97 : Cond.fieldLink RX3 9 RX3 "lengths" "[I" ∈ zz_w := zz_in (List.mem_append_right _ (List.mem_append_left _ (List.mem_of_getElem? (i := 97) (by decide +kernel)))) rfl
theorem zi_X3_a : ∀ w ∈ u_ws RX3 TX3 4, w ∈ lw_tbl := by decide +kernel
theorem zi_X3_b : ∀ w ∈ u_ws RX3 TX3 4, goodWord w = true := by decide +kernel
theorem zi_X3 : ∀ w ∈ u_ws RX3 TX3 4, w ∈ zz_w := fun w h => zz_in (zi_X3_a w h) (zi_X3_b w h)
theorem zu_X3_9 : zz_fw RX3 9 2 1 true (.array .int) := ⟨RX3, TX3, 4, tyX3, rfl, zi_X3, by decide, zk_97, tyX3_ok, nmX3, rfl, by decide +kernel, fun _ => rfl⟩
theorem zk_96 : Cond.fieldLink RX3 15 RX3 "store" "LDecisionArrays$Store;" ∈ zz_w := zz_in (List.mem_append_right _ (List.mem_append_left _ (List.mem_of_getElem? (i := 96) (by decide +kernel)))) rfl
theorem zu_X3_15 : zz_fw RX3 15 2 0 true (.object "DecisionArrays$Store") := ⟨RX3, TX3, 4, tyX3, rfl, zi_X3, by decide, zk_96, tyX3_ok, nmX3, rfl, by decide +kernel, fun _ => rfl⟩
abbrev rm_ci_Maker : Room := { frames := 1, cells := 1, slots := 4, locals := 12 }
abbrev po_ci_Maker (g : zz_G) (h0 : Nat) (st : Nat) : va_W → Prop := fun (u : va_W) => ∃ (e1 : Nat), u = [cw_k2 h0 st e1 0 0, cw_i g e1 4 (fun _ => 0)]
set_option maxHeartbeats 4000000 in
set_option maxRecDepth 100000 in
theorem ci_Maker (g : zz_G) (h0 : Nat) (st : Nat) : zz_V g yX3_init (.code yX3_init cX3_init 2 none) rm_ci_Maker [.ref h0, .ref st] [cw_o h0 2 [.null, .null, .int 0, .int 0]] (po_ci_Maker g h0 st) := by
  refine zz_V.intro (own := RX3) (cc := cX3_init) (nL := 2) (by decide) rfl (Nat.le_of_ble_eq_true rfl) ?_
  intro p l e s m args below meth c A H locs ls hC hnm hs hZ hl
  obtain ⟨hx, hb, hml, hown, hts, hr, hlocks, hK⟩ := id hC
  have hl : lv_has ls 2 [(0, .ref h0), (1, .ref st)] := hl
  have hZ : zz_Z g A s.heap [cw_o h0 2 [.null, .null, .int 0, .int 0]] H locs := hZ
  refine lv_aload_n hx hb dX3_init_0 rfl (lv_at hl 0 rfl) ?_
  refine zz_obj hC hl zk_95 zk_18 zk_19 (Nat.le_of_ble_eq_true rfl) (Nat.le_of_ble_eq_true rfl) dX3_init_1 ?_
  refine lv_aload_n hx hb dX3_init_4 rfl (lv_at hl 0 rfl) ?_
  refine lv_iconst (v := 4) hx hb dX3_init_5 (by decide) ?_
  refine zz_newi (N' := 4) hC hZ zk_87 (by decide) (by decide) (Nat.le_of_ble_eq_true rfl) (Nat.le_of_ble_eq_true rfl) (Nat.le_of_ble_eq_true rfl) dX3_init_6 (fun q1 H hZ => ?_)
  have hZ : zz_Z g A s.heap [cw_o h0 2 [.null, .null, .int 0, .int 0], cw_i g q1 4 (fun _ => 0)] H locs := hZ
  refine zz_putF hC hnm hZ 0 rfl zu_X3_9 rfl rfl (Nat.le_of_ble_eq_true rfl) dX3_init_8 (fun H locs hZ => ?_)
  have hZ : zz_Z g A s.heap [cw_o h0 2 [.null, .ref q1, .int 0, .int 0], cw_i g q1 4 (fun _ => 0)] H locs := hZ
  refine lv_aload_n hx hb dX3_init_11 rfl (lv_at hl 0 rfl) ?_
  refine lv_aload_n hx hb dX3_init_12 rfl (lv_at hl 1 rfl) ?_
  refine zz_putF hC hnm hZ 0 rfl zu_X3_15 rfl rfl (Nat.le_of_ble_eq_true rfl) dX3_init_13 (fun H locs hZ => ?_)
  have hZ : zz_Z g A s.heap [cw_k2 h0 st q1 0 0, cw_i g q1 4 (fun _ => 0)] H locs := hZ
  exact zz_vret hC hZ (⟨q1, rfl⟩) (Nat.le_of_ble_eq_true rfl) (Nat.le_of_ble_eq_true rfl) dX3_init_16
theorem dg_X2_init_0 : (decode cX2_init 0 = .ok (.aload_n 0, 1)) ∧ (decode cX2_init 1 = .ok (.invokespecial 3, 3)) ∧ (decode cX2_init 4 = .ok (.aload_n 0, 1)) ∧ (decode cX2_init 5 = .ok (.sipush 3600, 3)) ∧ (decode cX2_init 8 = .ok (.newarray .int, 2)) ∧ (decode cX2_init 10 = .ok (.putfield 9, 3)) ∧ (decode cX2_init 13 = .ok (.aload_n 0, 1)) ∧ (decode cX2_init 14 = .ok (.bipush 60, 2)) ∧ (decode cX2_init 16 = .ok (.newarray .int, 2)) ∧ (decode cX2_init 18 = .ok (.putfield 15, 3)) ∧ (decode cX2_init 21 = .ok (.aload_n 0, 1)) ∧ (decode cX2_init 22 = .ok (.bipush 60, 2)) ∧ (decode cX2_init 24 = .ok (.newarray .int, 2)) ∧ (decode cX2_init 26 = .ok (.putfield 18, 3)) ∧ (decode cX2_init 29 = .ok (.aload_n 0, 1)) ∧ (decode cX2_init 30 = .ok (.aload_n 1, 1)) := by decide +kernel
theorem dX2_init_0 : decode cX2_init 0 = .ok (.aload_n 0, 1) := dg_X2_init_0.1
theorem dX2_init_1 : decode cX2_init 1 = .ok (.invokespecial 3, 3) := dg_X2_init_0.2.1
theorem dX2_init_4 : decode cX2_init 4 = .ok (.aload_n 0, 1) := dg_X2_init_0.2.2.1
theorem dX2_init_5 : decode cX2_init 5 = .ok (.sipush 3600, 3) := dg_X2_init_0.2.2.2.1
theorem dX2_init_8 : decode cX2_init 8 = .ok (.newarray .int, 2) := dg_X2_init_0.2.2.2.2.1
theorem dX2_init_10 : decode cX2_init 10 = .ok (.putfield 9, 3) := dg_X2_init_0.2.2.2.2.2.1
theorem dX2_init_13 : decode cX2_init 13 = .ok (.aload_n 0, 1) := dg_X2_init_0.2.2.2.2.2.2.1
theorem dX2_init_14 : decode cX2_init 14 = .ok (.bipush 60, 2) := dg_X2_init_0.2.2.2.2.2.2.2.1
theorem dX2_init_16 : decode cX2_init 16 = .ok (.newarray .int, 2) := dg_X2_init_0.2.2.2.2.2.2.2.2.1
theorem dX2_init_18 : decode cX2_init 18 = .ok (.putfield 15, 3) := dg_X2_init_0.2.2.2.2.2.2.2.2.2.1
theorem dX2_init_21 : decode cX2_init 21 = .ok (.aload_n 0, 1) := dg_X2_init_0.2.2.2.2.2.2.2.2.2.2.1
theorem dX2_init_22 : decode cX2_init 22 = .ok (.bipush 60, 2) := dg_X2_init_0.2.2.2.2.2.2.2.2.2.2.2.1
theorem dX2_init_24 : decode cX2_init 24 = .ok (.newarray .int, 2) := dg_X2_init_0.2.2.2.2.2.2.2.2.2.2.2.2.1
theorem dX2_init_26 : decode cX2_init 26 = .ok (.putfield 18, 3) := dg_X2_init_0.2.2.2.2.2.2.2.2.2.2.2.2.2.1
theorem dX2_init_29 : decode cX2_init 29 = .ok (.aload_n 0, 1) := dg_X2_init_0.2.2.2.2.2.2.2.2.2.2.2.2.2.2.1
theorem dX2_init_30 : decode cX2_init 30 = .ok (.aload_n 1, 1) := dg_X2_init_0.2.2.2.2.2.2.2.2.2.2.2.2.2.2.2
theorem dg_X2_init_31 : (decode cX2_init 31 = .ok (.putfield 21, 3)) ∧ (decode cX2_init 34 = .ok (.return_, 1)) := by decide +kernel
theorem dX2_init_31 : decode cX2_init 31 = .ok (.putfield 21, 3) := dg_X2_init_31.1
theorem dX2_init_34 : decode cX2_init 34 = .ok (.return_, 1) := dg_X2_init_31.2
theorem zk_114 : Cond.methodLink RX2 3 objectInit ∈ zz_w := zz_in (List.mem_append_right _ (List.mem_append_left _ (List.mem_of_getElem? (i := 114) (by decide +kernel)))) rfl
theorem zk_117 : Cond.fieldLink RX2 9 RX2 "agreed" "[I" ∈ zz_w := zz_in (List.mem_append_right _ (List.mem_append_left _ (List.mem_of_getElem? (i := 117) (by decide +kernel)))) rfl
theorem zi_X2_a : ∀ w ∈ u_ws RX2 TX2 5, w ∈ lw_tbl := by decide +kernel
theorem zi_X2_b : ∀ w ∈ u_ws RX2 TX2 5, goodWord w = true := by decide +kernel
theorem zi_X2 : ∀ w ∈ u_ws RX2 TX2 5, w ∈ zz_w := fun w h => zz_in (zi_X2_a w h) (zi_X2_b w h)
theorem zu_X2_9 : zz_fw RX2 9 1 2 true (.array .int) := ⟨RX2, TX2, 5, tyX2, rfl, zi_X2, by decide, zk_117, tyX2_ok, nmX2, rfl, by decide +kernel, fun _ => rfl⟩
theorem zk_118 : Cond.fieldLink RX2 15 RX2 "digested" "[I" ∈ zz_w := zz_in (List.mem_append_right _ (List.mem_append_left _ (List.mem_of_getElem? (i := 118) (by decide +kernel)))) rfl
theorem zu_X2_15 : zz_fw RX2 15 1 3 true (.array .int) := ⟨RX2, TX2, 5, tyX2, rfl, zi_X2, by decide, zk_118, tyX2_ok, nmX2, rfl, by decide +kernel, fun _ => rfl⟩
theorem zk_119 : Cond.fieldLink RX2 18 RX2 "digests" "[I" ∈ zz_w := zz_in (List.mem_append_right _ (List.mem_append_left _ (List.mem_of_getElem? (i := 119) (by decide +kernel)))) rfl
theorem zu_X2_18 : zz_fw RX2 18 1 4 true (.array .int) := ⟨RX2, TX2, 5, tyX2, rfl, zi_X2, by decide, zk_119, tyX2_ok, nmX2, rfl, by decide +kernel, fun _ => rfl⟩
theorem zk_115 : Cond.fieldLink RX2 21 RX2 "store" "LDecisionArrays$Store;" ∈ zz_w := zz_in (List.mem_append_right _ (List.mem_append_left _ (List.mem_of_getElem? (i := 115) (by decide +kernel)))) rfl
theorem zu_X2_21 : zz_fw RX2 21 1 0 true (.object "DecisionArrays$Store") := ⟨RX2, TX2, 5, tyX2, rfl, zi_X2, by decide, zk_115, tyX2_ok, nmX2, rfl, by decide +kernel, fun _ => rfl⟩
abbrev rm_ci_Likeness : Room := { frames := 1, cells := 3, slots := 3720, locals := 12 }
abbrev po_ci_Likeness (g : zz_G) (h0 : Nat) (st : Nat) : va_W → Prop := fun (u : va_W) => ∃ (e1 : Nat) (e2 : Nat) (e3 : Nat), u = [cw_k1 h0 st 0 e1 e2 e3, cw_i g e1 3600 (fun _ => 0), cw_i g e2 60 (fun _ => 0), cw_i g e3 60 (fun _ => 0)]
set_option maxHeartbeats 4000000 in
set_option maxRecDepth 100000 in
theorem ci_Likeness (g : zz_G) (h0 : Nat) (st : Nat) : zz_V g yX2_init (.code yX2_init cX2_init 2 none) rm_ci_Likeness [.ref h0, .ref st] [cw_o h0 1 [.null, .int 0, .null, .null, .null]] (po_ci_Likeness g h0 st) := by
  refine zz_V.intro (own := RX2) (cc := cX2_init) (nL := 2) (by decide) rfl (Nat.le_of_ble_eq_true rfl) ?_
  intro p l e s m args below meth c A H locs ls hC hnm hs hZ hl
  obtain ⟨hx, hb, hml, hown, hts, hr, hlocks, hK⟩ := id hC
  have hl : lv_has ls 2 [(0, .ref h0), (1, .ref st)] := hl
  have hZ : zz_Z g A s.heap [cw_o h0 1 [.null, .int 0, .null, .null, .null]] H locs := hZ
  refine lv_aload_n hx hb dX2_init_0 rfl (lv_at hl 0 rfl) ?_
  refine zz_obj hC hl zk_114 zk_18 zk_19 (Nat.le_of_ble_eq_true rfl) (Nat.le_of_ble_eq_true rfl) dX2_init_1 ?_
  refine lv_aload_n hx hb dX2_init_4 rfl (lv_at hl 0 rfl) ?_
  refine lv_sipush (v := 3600) hx hb dX2_init_5 (by decide) ?_
  refine zz_newi (N' := 3600) hC hZ zk_87 (by decide) (by decide) (Nat.le_of_ble_eq_true rfl) (Nat.le_of_ble_eq_true rfl) (Nat.le_of_ble_eq_true rfl) dX2_init_8 (fun q1 H hZ => ?_)
  have hZ : zz_Z g A s.heap [cw_o h0 1 [.null, .int 0, .null, .null, .null], cw_i g q1 3600 (fun _ => 0)] H locs := hZ
  refine zz_putF hC hnm hZ 0 rfl zu_X2_9 rfl rfl (Nat.le_of_ble_eq_true rfl) dX2_init_10 (fun H locs hZ => ?_)
  have hZ : zz_Z g A s.heap [cw_o h0 1 [.null, .int 0, .ref q1, .null, .null], cw_i g q1 3600 (fun _ => 0)] H locs := hZ
  refine lv_aload_n hx hb dX2_init_13 rfl (lv_at hl 0 rfl) ?_
  refine lv_bipush (v := 60) hx hb dX2_init_14 (by decide) ?_
  refine zz_newi (N' := 60) hC hZ zk_87 (by decide) (by decide) (Nat.le_of_ble_eq_true rfl) (Nat.le_of_ble_eq_true rfl) (Nat.le_of_ble_eq_true rfl) dX2_init_16 (fun q2 H hZ => ?_)
  have hZ : zz_Z g A s.heap [cw_o h0 1 [.null, .int 0, .ref q1, .null, .null], cw_i g q1 3600 (fun _ => 0), cw_i g q2 60 (fun _ => 0)] H locs := hZ
  refine zz_putF hC hnm hZ 0 rfl zu_X2_15 rfl rfl (Nat.le_of_ble_eq_true rfl) dX2_init_18 (fun H locs hZ => ?_)
  have hZ : zz_Z g A s.heap [cw_o h0 1 [.null, .int 0, .ref q1, .ref q2, .null], cw_i g q1 3600 (fun _ => 0), cw_i g q2 60 (fun _ => 0)] H locs := hZ
  refine lv_aload_n hx hb dX2_init_21 rfl (lv_at hl 0 rfl) ?_
  refine lv_bipush (v := 60) hx hb dX2_init_22 (by decide) ?_
  refine zz_newi (N' := 60) hC hZ zk_87 (by decide) (by decide) (Nat.le_of_ble_eq_true rfl) (Nat.le_of_ble_eq_true rfl) (Nat.le_of_ble_eq_true rfl) dX2_init_24 (fun q3 H hZ => ?_)
  have hZ : zz_Z g A s.heap [cw_o h0 1 [.null, .int 0, .ref q1, .ref q2, .null], cw_i g q1 3600 (fun _ => 0), cw_i g q2 60 (fun _ => 0), cw_i g q3 60 (fun _ => 0)] H locs := hZ
  refine zz_putF hC hnm hZ 0 rfl zu_X2_18 rfl rfl (Nat.le_of_ble_eq_true rfl) dX2_init_26 (fun H locs hZ => ?_)
  have hZ : zz_Z g A s.heap [cw_o h0 1 [.null, .int 0, .ref q1, .ref q2, .ref q3], cw_i g q1 3600 (fun _ => 0), cw_i g q2 60 (fun _ => 0), cw_i g q3 60 (fun _ => 0)] H locs := hZ
  refine lv_aload_n hx hb dX2_init_29 rfl (lv_at hl 0 rfl) ?_
  refine lv_aload_n hx hb dX2_init_30 rfl (lv_at hl 1 rfl) ?_
  refine zz_putF hC hnm hZ 0 rfl zu_X2_21 rfl rfl (Nat.le_of_ble_eq_true rfl) dX2_init_31 (fun H locs hZ => ?_)
  have hZ : zz_Z g A s.heap [cw_k1 h0 st 0 q1 q2 q3, cw_i g q1 3600 (fun _ => 0), cw_i g q2 60 (fun _ => 0), cw_i g q3 60 (fun _ => 0)] H locs := hZ
  exact zz_vret hC hZ (⟨q1, q2, q3, rfl⟩) (Nat.le_of_ble_eq_true rfl) (Nat.le_of_ble_eq_true rfl) dX2_init_34
theorem dg_X0_init_0 : (decode cX0_init 0 = .ok (.aload_n 0, 1)) ∧ (decode cX0_init 1 = .ok (.invokespecial 3, 3)) ∧ (decode cX0_init 4 = .ok (.aload_n 0, 1)) ∧ (decode cX0_init 5 = .ok (.bipush 24, 2)) ∧ (decode cX0_init 7 = .ok (.newarray .int, 2)) ∧ (decode cX0_init 9 = .ok (.putfield 9, 3)) ∧ (decode cX0_init 12 = .ok (.aload_n 0, 1)) ∧ (decode cX0_init 13 = .ok (.bipush 24, 2)) ∧ (decode cX0_init 15 = .ok (.newarray .int, 2)) ∧ (decode cX0_init 17 = .ok (.putfield 15, 3)) ∧ (decode cX0_init 20 = .ok (.aload_n 0, 1)) ∧ (decode cX0_init 21 = .ok (.bipush 24, 2)) ∧ (decode cX0_init 23 = .ok (.newarray .int, 2)) ∧ (decode cX0_init 25 = .ok (.putfield 18, 3)) ∧ (decode cX0_init 28 = .ok (.aload_n 0, 1)) ∧ (decode cX0_init 29 = .ok (.sipush 384, 3)) := by decide +kernel
theorem dX0_init_0 : decode cX0_init 0 = .ok (.aload_n 0, 1) := dg_X0_init_0.1
theorem dX0_init_1 : decode cX0_init 1 = .ok (.invokespecial 3, 3) := dg_X0_init_0.2.1
theorem dX0_init_4 : decode cX0_init 4 = .ok (.aload_n 0, 1) := dg_X0_init_0.2.2.1
theorem dX0_init_5 : decode cX0_init 5 = .ok (.bipush 24, 2) := dg_X0_init_0.2.2.2.1
theorem dX0_init_7 : decode cX0_init 7 = .ok (.newarray .int, 2) := dg_X0_init_0.2.2.2.2.1
theorem dX0_init_9 : decode cX0_init 9 = .ok (.putfield 9, 3) := dg_X0_init_0.2.2.2.2.2.1
theorem dX0_init_12 : decode cX0_init 12 = .ok (.aload_n 0, 1) := dg_X0_init_0.2.2.2.2.2.2.1
theorem dX0_init_13 : decode cX0_init 13 = .ok (.bipush 24, 2) := dg_X0_init_0.2.2.2.2.2.2.2.1
theorem dX0_init_15 : decode cX0_init 15 = .ok (.newarray .int, 2) := dg_X0_init_0.2.2.2.2.2.2.2.2.1
theorem dX0_init_17 : decode cX0_init 17 = .ok (.putfield 15, 3) := dg_X0_init_0.2.2.2.2.2.2.2.2.2.1
theorem dX0_init_20 : decode cX0_init 20 = .ok (.aload_n 0, 1) := dg_X0_init_0.2.2.2.2.2.2.2.2.2.2.1
theorem dX0_init_21 : decode cX0_init 21 = .ok (.bipush 24, 2) := dg_X0_init_0.2.2.2.2.2.2.2.2.2.2.2.1
theorem dX0_init_23 : decode cX0_init 23 = .ok (.newarray .int, 2) := dg_X0_init_0.2.2.2.2.2.2.2.2.2.2.2.2.1
theorem dX0_init_25 : decode cX0_init 25 = .ok (.putfield 18, 3) := dg_X0_init_0.2.2.2.2.2.2.2.2.2.2.2.2.2.1
theorem dX0_init_28 : decode cX0_init 28 = .ok (.aload_n 0, 1) := dg_X0_init_0.2.2.2.2.2.2.2.2.2.2.2.2.2.2.1
theorem dX0_init_29 : decode cX0_init 29 = .ok (.sipush 384, 3) := dg_X0_init_0.2.2.2.2.2.2.2.2.2.2.2.2.2.2.2
theorem dg_X0_init_32 : (decode cX0_init 32 = .ok (.newarray .long, 2)) ∧ (decode cX0_init 34 = .ok (.putfield 21, 3)) ∧ (decode cX0_init 37 = .ok (.aload_n 0, 1)) ∧ (decode cX0_init 38 = .ok (.bipush 24, 2)) ∧ (decode cX0_init 40 = .ok (.newarray .int, 2)) ∧ (decode cX0_init 42 = .ok (.putfield 25, 3)) ∧ (decode cX0_init 45 = .ok (.aload_n 0, 1)) ∧ (decode cX0_init 46 = .ok (.aload_n 1, 1)) ∧ (decode cX0_init 47 = .ok (.putfield 28, 3)) ∧ (decode cX0_init 50 = .ok (.return_, 1)) := by decide +kernel
theorem dX0_init_32 : decode cX0_init 32 = .ok (.newarray .long, 2) := dg_X0_init_32.1
theorem dX0_init_34 : decode cX0_init 34 = .ok (.putfield 21, 3) := dg_X0_init_32.2.1
theorem dX0_init_37 : decode cX0_init 37 = .ok (.aload_n 0, 1) := dg_X0_init_32.2.2.1
theorem dX0_init_38 : decode cX0_init 38 = .ok (.bipush 24, 2) := dg_X0_init_32.2.2.2.1
theorem dX0_init_40 : decode cX0_init 40 = .ok (.newarray .int, 2) := dg_X0_init_32.2.2.2.2.1
theorem dX0_init_42 : decode cX0_init 42 = .ok (.putfield 25, 3) := dg_X0_init_32.2.2.2.2.2.1
theorem dX0_init_45 : decode cX0_init 45 = .ok (.aload_n 0, 1) := dg_X0_init_32.2.2.2.2.2.2.1
theorem dX0_init_46 : decode cX0_init 46 = .ok (.aload_n 1, 1) := dg_X0_init_32.2.2.2.2.2.2.2.1
theorem dX0_init_47 : decode cX0_init 47 = .ok (.putfield 28, 3) := dg_X0_init_32.2.2.2.2.2.2.2.2.1
theorem dX0_init_50 : decode cX0_init 50 = .ok (.return_, 1) := dg_X0_init_32.2.2.2.2.2.2.2.2.2
theorem zk_136 : Cond.methodLink RX0 3 objectInit ∈ zz_w := zz_in (List.mem_append_right _ (List.mem_append_left _ (List.mem_of_getElem? (i := 136) (by decide +kernel)))) rfl
theorem zu_X0_9 : zz_fw RX0 9 0 2 true (.array .int) := ⟨RX0, TX0, 7, tyX0, rfl, zi_X0, by decide, zk_140, tyX0_ok, nmX0, rfl, by decide +kernel, fun _ => rfl⟩
theorem zu_X0_15 : zz_fw RX0 15 0 3 true (.array .int) := ⟨RX0, TX0, 7, tyX0, rfl, zi_X0, by decide, zk_142, tyX0_ok, nmX0, rfl, by decide +kernel, fun _ => rfl⟩
theorem zu_X0_18 : zz_fw RX0 18 0 4 true (.array .int) := ⟨RX0, TX0, 7, tyX0, rfl, zi_X0, by decide, zk_144, tyX0_ok, nmX0, rfl, by decide +kernel, fun _ => rfl⟩
theorem zu_X0_21 : zz_fw RX0 21 0 5 true (.array .long) := ⟨RX0, TX0, 7, tyX0, rfl, zi_X0, by decide, zk_146, tyX0_ok, nmX0, rfl, by decide +kernel, fun _ => rfl⟩
theorem zk_147 : Cond.fieldLink RX0 25 RX0 "turns" "[I" ∈ zz_w := zz_in (List.mem_append_right _ (List.mem_append_left _ (List.mem_of_getElem? (i := 147) (by decide +kernel)))) rfl
theorem zu_X0_25 : zz_fw RX0 25 0 6 true (.array .int) := ⟨RX0, TX0, 7, tyX0, rfl, zi_X0, by decide, zk_147, tyX0_ok, nmX0, rfl, by decide +kernel, fun _ => rfl⟩
theorem zu_X0_28 : zz_fw RX0 28 0 0 true (.object "DecisionArrays$Store") := ⟨RX0, TX0, 7, tyX0, rfl, zi_X0, by decide, zk_137, tyX0_ok, nmX0, rfl, by decide +kernel, fun _ => rfl⟩
abbrev rm_ci_Choices : Room := { frames := 1, cells := 5, slots := 480, locals := 12 }
abbrev po_ci_Choices (g : zz_G) (h0 : Nat) (st : Nat) : va_W → Prop := fun (u : va_W) => ∃ (e1 : Nat) (e2 : Nat) (e3 : Nat) (e4 : Nat) (e5 : Nat), u = [cw_k0 h0 st 0 e1 e2 e3 e4 e5, cw_i g e1 24 (fun _ => 0), cw_i g e2 24 (fun _ => 0), cw_i g e3 24 (fun _ => 0), cw_l g e4 384 (fun _ => 0), cw_i g e5 24 (fun _ => 0)]
set_option maxHeartbeats 4000000 in
set_option maxRecDepth 100000 in
theorem ci_Choices (g : zz_G) (h0 : Nat) (st : Nat) : zz_V g yX0_init (.code yX0_init cX0_init 2 none) rm_ci_Choices [.ref h0, .ref st] [cw_o h0 0 [.null, .int 0, .null, .null, .null, .null, .null]] (po_ci_Choices g h0 st) := by
  refine zz_V.intro (own := RX0) (cc := cX0_init) (nL := 2) (by decide) rfl (Nat.le_of_ble_eq_true rfl) ?_
  intro p l e s m args below meth c A H locs ls hC hnm hs hZ hl
  obtain ⟨hx, hb, hml, hown, hts, hr, hlocks, hK⟩ := id hC
  have hl : lv_has ls 2 [(0, .ref h0), (1, .ref st)] := hl
  have hZ : zz_Z g A s.heap [cw_o h0 0 [.null, .int 0, .null, .null, .null, .null, .null]] H locs := hZ
  refine lv_aload_n hx hb dX0_init_0 rfl (lv_at hl 0 rfl) ?_
  refine zz_obj hC hl zk_136 zk_18 zk_19 (Nat.le_of_ble_eq_true rfl) (Nat.le_of_ble_eq_true rfl) dX0_init_1 ?_
  refine lv_aload_n hx hb dX0_init_4 rfl (lv_at hl 0 rfl) ?_
  refine lv_bipush (v := 24) hx hb dX0_init_5 (by decide) ?_
  refine zz_newi (N' := 24) hC hZ zk_87 (by decide) (by decide) (Nat.le_of_ble_eq_true rfl) (Nat.le_of_ble_eq_true rfl) (Nat.le_of_ble_eq_true rfl) dX0_init_7 (fun q1 H hZ => ?_)
  have hZ : zz_Z g A s.heap [cw_o h0 0 [.null, .int 0, .null, .null, .null, .null, .null], cw_i g q1 24 (fun _ => 0)] H locs := hZ
  refine zz_putF hC hnm hZ 0 rfl zu_X0_9 rfl rfl (Nat.le_of_ble_eq_true rfl) dX0_init_9 (fun H locs hZ => ?_)
  have hZ : zz_Z g A s.heap [cw_o h0 0 [.null, .int 0, .ref q1, .null, .null, .null, .null], cw_i g q1 24 (fun _ => 0)] H locs := hZ
  refine lv_aload_n hx hb dX0_init_12 rfl (lv_at hl 0 rfl) ?_
  refine lv_bipush (v := 24) hx hb dX0_init_13 (by decide) ?_
  refine zz_newi (N' := 24) hC hZ zk_87 (by decide) (by decide) (Nat.le_of_ble_eq_true rfl) (Nat.le_of_ble_eq_true rfl) (Nat.le_of_ble_eq_true rfl) dX0_init_15 (fun q2 H hZ => ?_)
  have hZ : zz_Z g A s.heap [cw_o h0 0 [.null, .int 0, .ref q1, .null, .null, .null, .null], cw_i g q1 24 (fun _ => 0), cw_i g q2 24 (fun _ => 0)] H locs := hZ
  refine zz_putF hC hnm hZ 0 rfl zu_X0_15 rfl rfl (Nat.le_of_ble_eq_true rfl) dX0_init_17 (fun H locs hZ => ?_)
  have hZ : zz_Z g A s.heap [cw_o h0 0 [.null, .int 0, .ref q1, .ref q2, .null, .null, .null], cw_i g q1 24 (fun _ => 0), cw_i g q2 24 (fun _ => 0)] H locs := hZ
  refine lv_aload_n hx hb dX0_init_20 rfl (lv_at hl 0 rfl) ?_
  refine lv_bipush (v := 24) hx hb dX0_init_21 (by decide) ?_
  refine zz_newi (N' := 24) hC hZ zk_87 (by decide) (by decide) (Nat.le_of_ble_eq_true rfl) (Nat.le_of_ble_eq_true rfl) (Nat.le_of_ble_eq_true rfl) dX0_init_23 (fun q3 H hZ => ?_)
  have hZ : zz_Z g A s.heap [cw_o h0 0 [.null, .int 0, .ref q1, .ref q2, .null, .null, .null], cw_i g q1 24 (fun _ => 0), cw_i g q2 24 (fun _ => 0), cw_i g q3 24 (fun _ => 0)] H locs := hZ
  refine zz_putF hC hnm hZ 0 rfl zu_X0_18 rfl rfl (Nat.le_of_ble_eq_true rfl) dX0_init_25 (fun H locs hZ => ?_)
  have hZ : zz_Z g A s.heap [cw_o h0 0 [.null, .int 0, .ref q1, .ref q2, .ref q3, .null, .null], cw_i g q1 24 (fun _ => 0), cw_i g q2 24 (fun _ => 0), cw_i g q3 24 (fun _ => 0)] H locs := hZ
  refine lv_aload_n hx hb dX0_init_28 rfl (lv_at hl 0 rfl) ?_
  refine lv_sipush (v := 384) hx hb dX0_init_29 (by decide) ?_
  refine zz_newl (N' := 384) hC hZ zk_88 (by decide) (by decide) (Nat.le_of_ble_eq_true rfl) (Nat.le_of_ble_eq_true rfl) (Nat.le_of_ble_eq_true rfl) dX0_init_32 (fun q4 H hZ => ?_)
  have hZ : zz_Z g A s.heap [cw_o h0 0 [.null, .int 0, .ref q1, .ref q2, .ref q3, .null, .null], cw_i g q1 24 (fun _ => 0), cw_i g q2 24 (fun _ => 0), cw_i g q3 24 (fun _ => 0), cw_l g q4 384 (fun _ => 0)] H locs := hZ
  refine zz_putF hC hnm hZ 0 rfl zu_X0_21 rfl rfl (Nat.le_of_ble_eq_true rfl) dX0_init_34 (fun H locs hZ => ?_)
  have hZ : zz_Z g A s.heap [cw_o h0 0 [.null, .int 0, .ref q1, .ref q2, .ref q3, .ref q4, .null], cw_i g q1 24 (fun _ => 0), cw_i g q2 24 (fun _ => 0), cw_i g q3 24 (fun _ => 0), cw_l g q4 384 (fun _ => 0)] H locs := hZ
  refine lv_aload_n hx hb dX0_init_37 rfl (lv_at hl 0 rfl) ?_
  refine lv_bipush (v := 24) hx hb dX0_init_38 (by decide) ?_
  refine zz_newi (N' := 24) hC hZ zk_87 (by decide) (by decide) (Nat.le_of_ble_eq_true rfl) (Nat.le_of_ble_eq_true rfl) (Nat.le_of_ble_eq_true rfl) dX0_init_40 (fun q5 H hZ => ?_)
  have hZ : zz_Z g A s.heap [cw_o h0 0 [.null, .int 0, .ref q1, .ref q2, .ref q3, .ref q4, .null], cw_i g q1 24 (fun _ => 0), cw_i g q2 24 (fun _ => 0), cw_i g q3 24 (fun _ => 0), cw_l g q4 384 (fun _ => 0), cw_i g q5 24 (fun _ => 0)] H locs := hZ
  refine zz_putF hC hnm hZ 0 rfl zu_X0_25 rfl rfl (Nat.le_of_ble_eq_true rfl) dX0_init_42 (fun H locs hZ => ?_)
  have hZ : zz_Z g A s.heap [cw_o h0 0 [.null, .int 0, .ref q1, .ref q2, .ref q3, .ref q4, .ref q5], cw_i g q1 24 (fun _ => 0), cw_i g q2 24 (fun _ => 0), cw_i g q3 24 (fun _ => 0), cw_l g q4 384 (fun _ => 0), cw_i g q5 24 (fun _ => 0)] H locs := hZ
  refine lv_aload_n hx hb dX0_init_45 rfl (lv_at hl 0 rfl) ?_
  refine lv_aload_n hx hb dX0_init_46 rfl (lv_at hl 1 rfl) ?_
  refine zz_putF hC hnm hZ 0 rfl zu_X0_28 rfl rfl (Nat.le_of_ble_eq_true rfl) dX0_init_47 (fun H locs hZ => ?_)
  have hZ : zz_Z g A s.heap [cw_k0 h0 st 0 q1 q2 q3 q4 q5, cw_i g q1 24 (fun _ => 0), cw_i g q2 24 (fun _ => 0), cw_i g q3 24 (fun _ => 0), cw_l g q4 384 (fun _ => 0), cw_i g q5 24 (fun _ => 0)] H locs := hZ
  exact zz_vret hC hZ (⟨q1, q2, q3, q4, q5, rfl⟩) (Nat.le_of_ble_eq_true rfl) (Nat.le_of_ble_eq_true rfl) dX0_init_50
theorem dg_X5_init_0 : (decode cX5_init 0 = .ok (.aload_n 0, 1)) ∧ (decode cX5_init 1 = .ok (.invokespecial 3, 3)) ∧ (decode cX5_init 4 = .ok (.aload_n 0, 1)) ∧ (decode cX5_init 5 = .ok (.bipush 12, 2)) ∧ (decode cX5_init 7 = .ok (.newarray .int, 2)) ∧ (decode cX5_init 9 = .ok (.putfield 9, 3)) ∧ (decode cX5_init 12 = .ok (.aload_n 0, 1)) ∧ (decode cX5_init 13 = .ok (.bipush 12, 2)) ∧ (decode cX5_init 15 = .ok (.newarray .int, 2)) ∧ (decode cX5_init 17 = .ok (.putfield 15, 3)) ∧ (decode cX5_init 20 = .ok (.aload_n 0, 1)) ∧ (decode cX5_init 21 = .ok (.bipush 12, 2)) ∧ (decode cX5_init 23 = .ok (.newarray .int, 2)) ∧ (decode cX5_init 25 = .ok (.putfield 18, 3)) ∧ (decode cX5_init 28 = .ok (.aload_n 0, 1)) ∧ (decode cX5_init 29 = .ok (.bipush 12, 2)) := by decide +kernel
theorem dX5_init_0 : decode cX5_init 0 = .ok (.aload_n 0, 1) := dg_X5_init_0.1
theorem dX5_init_1 : decode cX5_init 1 = .ok (.invokespecial 3, 3) := dg_X5_init_0.2.1
theorem dX5_init_4 : decode cX5_init 4 = .ok (.aload_n 0, 1) := dg_X5_init_0.2.2.1
theorem dX5_init_5 : decode cX5_init 5 = .ok (.bipush 12, 2) := dg_X5_init_0.2.2.2.1
theorem dX5_init_7 : decode cX5_init 7 = .ok (.newarray .int, 2) := dg_X5_init_0.2.2.2.2.1
theorem dX5_init_9 : decode cX5_init 9 = .ok (.putfield 9, 3) := dg_X5_init_0.2.2.2.2.2.1
theorem dX5_init_12 : decode cX5_init 12 = .ok (.aload_n 0, 1) := dg_X5_init_0.2.2.2.2.2.2.1
theorem dX5_init_13 : decode cX5_init 13 = .ok (.bipush 12, 2) := dg_X5_init_0.2.2.2.2.2.2.2.1
theorem dX5_init_15 : decode cX5_init 15 = .ok (.newarray .int, 2) := dg_X5_init_0.2.2.2.2.2.2.2.2.1
theorem dX5_init_17 : decode cX5_init 17 = .ok (.putfield 15, 3) := dg_X5_init_0.2.2.2.2.2.2.2.2.2.1
theorem dX5_init_20 : decode cX5_init 20 = .ok (.aload_n 0, 1) := dg_X5_init_0.2.2.2.2.2.2.2.2.2.2.1
theorem dX5_init_21 : decode cX5_init 21 = .ok (.bipush 12, 2) := dg_X5_init_0.2.2.2.2.2.2.2.2.2.2.2.1
theorem dX5_init_23 : decode cX5_init 23 = .ok (.newarray .int, 2) := dg_X5_init_0.2.2.2.2.2.2.2.2.2.2.2.2.1
theorem dX5_init_25 : decode cX5_init 25 = .ok (.putfield 18, 3) := dg_X5_init_0.2.2.2.2.2.2.2.2.2.2.2.2.2.1
theorem dX5_init_28 : decode cX5_init 28 = .ok (.aload_n 0, 1) := dg_X5_init_0.2.2.2.2.2.2.2.2.2.2.2.2.2.2.1
theorem dX5_init_29 : decode cX5_init 29 = .ok (.bipush 12, 2) := dg_X5_init_0.2.2.2.2.2.2.2.2.2.2.2.2.2.2.2
theorem dg_X5_init_31 : (decode cX5_init 31 = .ok (.newarray .long, 2)) ∧ (decode cX5_init 33 = .ok (.putfield 21, 3)) ∧ (decode cX5_init 36 = .ok (.aload_n 0, 1)) ∧ (decode cX5_init 37 = .ok (.bipush 12, 2)) ∧ (decode cX5_init 39 = .ok (.newarray .long, 2)) ∧ (decode cX5_init 41 = .ok (.putfield 25, 3)) ∧ (decode cX5_init 44 = .ok (.aload_n 0, 1)) ∧ (decode cX5_init 45 = .ok (.bipush 12, 2)) ∧ (decode cX5_init 47 = .ok (.newarray .long, 2)) ∧ (decode cX5_init 49 = .ok (.putfield 28, 3)) ∧ (decode cX5_init 52 = .ok (.aload_n 0, 1)) ∧ (decode cX5_init 53 = .ok (.bipush 12, 2)) ∧ (decode cX5_init 55 = .ok (.newarray .long, 2)) ∧ (decode cX5_init 57 = .ok (.putfield 31, 3)) ∧ (decode cX5_init 60 = .ok (.aload_n 0, 1)) ∧ (decode cX5_init 61 = .ok (.aload_n 1, 1)) := by decide +kernel
theorem dX5_init_31 : decode cX5_init 31 = .ok (.newarray .long, 2) := dg_X5_init_31.1
theorem dX5_init_33 : decode cX5_init 33 = .ok (.putfield 21, 3) := dg_X5_init_31.2.1
theorem dX5_init_36 : decode cX5_init 36 = .ok (.aload_n 0, 1) := dg_X5_init_31.2.2.1
theorem dX5_init_37 : decode cX5_init 37 = .ok (.bipush 12, 2) := dg_X5_init_31.2.2.2.1
theorem dX5_init_39 : decode cX5_init 39 = .ok (.newarray .long, 2) := dg_X5_init_31.2.2.2.2.1
theorem dX5_init_41 : decode cX5_init 41 = .ok (.putfield 25, 3) := dg_X5_init_31.2.2.2.2.2.1
theorem dX5_init_44 : decode cX5_init 44 = .ok (.aload_n 0, 1) := dg_X5_init_31.2.2.2.2.2.2.1
theorem dX5_init_45 : decode cX5_init 45 = .ok (.bipush 12, 2) := dg_X5_init_31.2.2.2.2.2.2.2.1
theorem dX5_init_47 : decode cX5_init 47 = .ok (.newarray .long, 2) := dg_X5_init_31.2.2.2.2.2.2.2.2.1
theorem dX5_init_49 : decode cX5_init 49 = .ok (.putfield 28, 3) := dg_X5_init_31.2.2.2.2.2.2.2.2.2.1
theorem dX5_init_52 : decode cX5_init 52 = .ok (.aload_n 0, 1) := dg_X5_init_31.2.2.2.2.2.2.2.2.2.2.1
theorem dX5_init_53 : decode cX5_init 53 = .ok (.bipush 12, 2) := dg_X5_init_31.2.2.2.2.2.2.2.2.2.2.2.1
theorem dX5_init_55 : decode cX5_init 55 = .ok (.newarray .long, 2) := dg_X5_init_31.2.2.2.2.2.2.2.2.2.2.2.2.1
theorem dX5_init_57 : decode cX5_init 57 = .ok (.putfield 31, 3) := dg_X5_init_31.2.2.2.2.2.2.2.2.2.2.2.2.2.1
theorem dX5_init_60 : decode cX5_init 60 = .ok (.aload_n 0, 1) := dg_X5_init_31.2.2.2.2.2.2.2.2.2.2.2.2.2.2.1
theorem dX5_init_61 : decode cX5_init 61 = .ok (.aload_n 1, 1) := dg_X5_init_31.2.2.2.2.2.2.2.2.2.2.2.2.2.2.2
theorem dg_X5_init_62 : (decode cX5_init 62 = .ok (.putfield 34, 3)) ∧ (decode cX5_init 65 = .ok (.return_, 1)) := by decide +kernel
theorem dX5_init_62 : decode cX5_init 62 = .ok (.putfield 34, 3) := dg_X5_init_62.1
theorem dX5_init_65 : decode cX5_init 65 = .ok (.return_, 1) := dg_X5_init_62.2
theorem zk_168 : Cond.methodLink RX5 3 objectInit ∈ zz_w := zz_in (List.mem_append_right _ (List.mem_append_left _ (List.mem_of_getElem? (i := 168) (by decide +kernel)))) rfl
theorem zu_X5_9 : zz_fw RX5 9 4 2 true (.array .int) := ⟨RX5, TX5, 9, tyX5, rfl, zi_X5, by decide, zk_172, tyX5_ok, nmX5, rfl, by decide +kernel, fun _ => rfl⟩
theorem zu_X5_15 : zz_fw RX5 15 4 3 true (.array .int) := ⟨RX5, TX5, 9, tyX5, rfl, zi_X5, by decide, zk_173, tyX5_ok, nmX5, rfl, by decide +kernel, fun _ => rfl⟩
theorem zu_X5_18 : zz_fw RX5 18 4 4 true (.array .int) := ⟨RX5, TX5, 9, tyX5, rfl, zi_X5, by decide, zk_174, tyX5_ok, nmX5, rfl, by decide +kernel, fun _ => rfl⟩
theorem zu_X5_21 : zz_fw RX5 21 4 5 true (.array .long) := ⟨RX5, TX5, 9, tyX5, rfl, zi_X5, by decide, zk_175, tyX5_ok, nmX5, rfl, by decide +kernel, fun _ => rfl⟩
theorem zu_X5_25 : zz_fw RX5 25 4 6 true (.array .long) := ⟨RX5, TX5, 9, tyX5, rfl, zi_X5, by decide, zk_176, tyX5_ok, nmX5, rfl, by decide +kernel, fun _ => rfl⟩
theorem zu_X5_28 : zz_fw RX5 28 4 7 true (.array .long) := ⟨RX5, TX5, 9, tyX5, rfl, zi_X5, by decide, zk_177, tyX5_ok, nmX5, rfl, by decide +kernel, fun _ => rfl⟩
theorem zk_178 : Cond.fieldLink RX5 31 RX5 "borne" "[J" ∈ zz_w := zz_in (List.mem_append_right _ (List.mem_append_left _ (List.mem_of_getElem? (i := 178) (by decide +kernel)))) rfl
theorem zu_X5_31 : zz_fw RX5 31 4 8 true (.array .long) := ⟨RX5, TX5, 9, tyX5, rfl, zi_X5, by decide, zk_178, tyX5_ok, nmX5, rfl, by decide +kernel, fun _ => rfl⟩
theorem zu_X5_34 : zz_fw RX5 34 4 0 true (.object "DecisionArrays$Store") := ⟨RX5, TX5, 9, tyX5, rfl, zi_X5, by decide, zk_169, tyX5_ok, nmX5, rfl, by decide +kernel, fun _ => rfl⟩
abbrev rm_ci_Rules : Room := { frames := 1, cells := 7, slots := 84, locals := 12 }
abbrev po_ci_Rules (g : zz_G) (h0 : Nat) (st : Nat) : va_W → Prop := fun (u : va_W) => ∃ (e1 : Nat) (e2 : Nat) (e3 : Nat) (e4 : Nat) (e5 : Nat) (e6 : Nat) (e7 : Nat), u = [cw_k4 h0 st 0 e1 e2 e3 e4 e5 e6 e7, cw_i g e1 12 (fun _ => 0), cw_i g e2 12 (fun _ => 0), cw_i g e3 12 (fun _ => 0), cw_l g e4 12 (fun _ => 0), cw_l g e5 12 (fun _ => 0), cw_l g e6 12 (fun _ => 0), cw_l g e7 12 (fun _ => 0)]
set_option maxHeartbeats 4000000 in
set_option maxRecDepth 100000 in
theorem ci_Rules (g : zz_G) (h0 : Nat) (st : Nat) : zz_V g yX5_init (.code yX5_init cX5_init 2 none) rm_ci_Rules [.ref h0, .ref st] [cw_o h0 4 [.null, .int 0, .null, .null, .null, .null, .null, .null, .null]] (po_ci_Rules g h0 st) := by
  refine zz_V.intro (own := RX5) (cc := cX5_init) (nL := 2) (by decide) rfl (Nat.le_of_ble_eq_true rfl) ?_
  intro p l e s m args below meth c A H locs ls hC hnm hs hZ hl
  obtain ⟨hx, hb, hml, hown, hts, hr, hlocks, hK⟩ := id hC
  have hl : lv_has ls 2 [(0, .ref h0), (1, .ref st)] := hl
  have hZ : zz_Z g A s.heap [cw_o h0 4 [.null, .int 0, .null, .null, .null, .null, .null, .null, .null]] H locs := hZ
  refine lv_aload_n hx hb dX5_init_0 rfl (lv_at hl 0 rfl) ?_
  refine zz_obj hC hl zk_168 zk_18 zk_19 (Nat.le_of_ble_eq_true rfl) (Nat.le_of_ble_eq_true rfl) dX5_init_1 ?_
  refine lv_aload_n hx hb dX5_init_4 rfl (lv_at hl 0 rfl) ?_
  refine lv_bipush (v := 12) hx hb dX5_init_5 (by decide) ?_
  refine zz_newi (N' := 12) hC hZ zk_87 (by decide) (by decide) (Nat.le_of_ble_eq_true rfl) (Nat.le_of_ble_eq_true rfl) (Nat.le_of_ble_eq_true rfl) dX5_init_7 (fun q1 H hZ => ?_)
  have hZ : zz_Z g A s.heap [cw_o h0 4 [.null, .int 0, .null, .null, .null, .null, .null, .null, .null], cw_i g q1 12 (fun _ => 0)] H locs := hZ
  refine zz_putF hC hnm hZ 0 rfl zu_X5_9 rfl rfl (Nat.le_of_ble_eq_true rfl) dX5_init_9 (fun H locs hZ => ?_)
  have hZ : zz_Z g A s.heap [cw_o h0 4 [.null, .int 0, .ref q1, .null, .null, .null, .null, .null, .null], cw_i g q1 12 (fun _ => 0)] H locs := hZ
  refine lv_aload_n hx hb dX5_init_12 rfl (lv_at hl 0 rfl) ?_
  refine lv_bipush (v := 12) hx hb dX5_init_13 (by decide) ?_
  refine zz_newi (N' := 12) hC hZ zk_87 (by decide) (by decide) (Nat.le_of_ble_eq_true rfl) (Nat.le_of_ble_eq_true rfl) (Nat.le_of_ble_eq_true rfl) dX5_init_15 (fun q2 H hZ => ?_)
  have hZ : zz_Z g A s.heap [cw_o h0 4 [.null, .int 0, .ref q1, .null, .null, .null, .null, .null, .null], cw_i g q1 12 (fun _ => 0), cw_i g q2 12 (fun _ => 0)] H locs := hZ
  refine zz_putF hC hnm hZ 0 rfl zu_X5_15 rfl rfl (Nat.le_of_ble_eq_true rfl) dX5_init_17 (fun H locs hZ => ?_)
  have hZ : zz_Z g A s.heap [cw_o h0 4 [.null, .int 0, .ref q1, .ref q2, .null, .null, .null, .null, .null], cw_i g q1 12 (fun _ => 0), cw_i g q2 12 (fun _ => 0)] H locs := hZ
  refine lv_aload_n hx hb dX5_init_20 rfl (lv_at hl 0 rfl) ?_
  refine lv_bipush (v := 12) hx hb dX5_init_21 (by decide) ?_
  refine zz_newi (N' := 12) hC hZ zk_87 (by decide) (by decide) (Nat.le_of_ble_eq_true rfl) (Nat.le_of_ble_eq_true rfl) (Nat.le_of_ble_eq_true rfl) dX5_init_23 (fun q3 H hZ => ?_)
  have hZ : zz_Z g A s.heap [cw_o h0 4 [.null, .int 0, .ref q1, .ref q2, .null, .null, .null, .null, .null], cw_i g q1 12 (fun _ => 0), cw_i g q2 12 (fun _ => 0), cw_i g q3 12 (fun _ => 0)] H locs := hZ
  refine zz_putF hC hnm hZ 0 rfl zu_X5_18 rfl rfl (Nat.le_of_ble_eq_true rfl) dX5_init_25 (fun H locs hZ => ?_)
  have hZ : zz_Z g A s.heap [cw_o h0 4 [.null, .int 0, .ref q1, .ref q2, .ref q3, .null, .null, .null, .null], cw_i g q1 12 (fun _ => 0), cw_i g q2 12 (fun _ => 0), cw_i g q3 12 (fun _ => 0)] H locs := hZ
  refine lv_aload_n hx hb dX5_init_28 rfl (lv_at hl 0 rfl) ?_
  refine lv_bipush (v := 12) hx hb dX5_init_29 (by decide) ?_
  refine zz_newl (N' := 12) hC hZ zk_88 (by decide) (by decide) (Nat.le_of_ble_eq_true rfl) (Nat.le_of_ble_eq_true rfl) (Nat.le_of_ble_eq_true rfl) dX5_init_31 (fun q4 H hZ => ?_)
  have hZ : zz_Z g A s.heap [cw_o h0 4 [.null, .int 0, .ref q1, .ref q2, .ref q3, .null, .null, .null, .null], cw_i g q1 12 (fun _ => 0), cw_i g q2 12 (fun _ => 0), cw_i g q3 12 (fun _ => 0), cw_l g q4 12 (fun _ => 0)] H locs := hZ
  refine zz_putF hC hnm hZ 0 rfl zu_X5_21 rfl rfl (Nat.le_of_ble_eq_true rfl) dX5_init_33 (fun H locs hZ => ?_)
  have hZ : zz_Z g A s.heap [cw_o h0 4 [.null, .int 0, .ref q1, .ref q2, .ref q3, .ref q4, .null, .null, .null], cw_i g q1 12 (fun _ => 0), cw_i g q2 12 (fun _ => 0), cw_i g q3 12 (fun _ => 0), cw_l g q4 12 (fun _ => 0)] H locs := hZ
  refine lv_aload_n hx hb dX5_init_36 rfl (lv_at hl 0 rfl) ?_
  refine lv_bipush (v := 12) hx hb dX5_init_37 (by decide) ?_
  refine zz_newl (N' := 12) hC hZ zk_88 (by decide) (by decide) (Nat.le_of_ble_eq_true rfl) (Nat.le_of_ble_eq_true rfl) (Nat.le_of_ble_eq_true rfl) dX5_init_39 (fun q5 H hZ => ?_)
  have hZ : zz_Z g A s.heap [cw_o h0 4 [.null, .int 0, .ref q1, .ref q2, .ref q3, .ref q4, .null, .null, .null], cw_i g q1 12 (fun _ => 0), cw_i g q2 12 (fun _ => 0), cw_i g q3 12 (fun _ => 0), cw_l g q4 12 (fun _ => 0), cw_l g q5 12 (fun _ => 0)] H locs := hZ
  refine zz_putF hC hnm hZ 0 rfl zu_X5_25 rfl rfl (Nat.le_of_ble_eq_true rfl) dX5_init_41 (fun H locs hZ => ?_)
  have hZ : zz_Z g A s.heap [cw_o h0 4 [.null, .int 0, .ref q1, .ref q2, .ref q3, .ref q4, .ref q5, .null, .null], cw_i g q1 12 (fun _ => 0), cw_i g q2 12 (fun _ => 0), cw_i g q3 12 (fun _ => 0), cw_l g q4 12 (fun _ => 0), cw_l g q5 12 (fun _ => 0)] H locs := hZ
  refine lv_aload_n hx hb dX5_init_44 rfl (lv_at hl 0 rfl) ?_
  refine lv_bipush (v := 12) hx hb dX5_init_45 (by decide) ?_
  refine zz_newl (N' := 12) hC hZ zk_88 (by decide) (by decide) (Nat.le_of_ble_eq_true rfl) (Nat.le_of_ble_eq_true rfl) (Nat.le_of_ble_eq_true rfl) dX5_init_47 (fun q6 H hZ => ?_)
  have hZ : zz_Z g A s.heap [cw_o h0 4 [.null, .int 0, .ref q1, .ref q2, .ref q3, .ref q4, .ref q5, .null, .null], cw_i g q1 12 (fun _ => 0), cw_i g q2 12 (fun _ => 0), cw_i g q3 12 (fun _ => 0), cw_l g q4 12 (fun _ => 0), cw_l g q5 12 (fun _ => 0), cw_l g q6 12 (fun _ => 0)] H locs := hZ
  refine zz_putF hC hnm hZ 0 rfl zu_X5_28 rfl rfl (Nat.le_of_ble_eq_true rfl) dX5_init_49 (fun H locs hZ => ?_)
  have hZ : zz_Z g A s.heap [cw_o h0 4 [.null, .int 0, .ref q1, .ref q2, .ref q3, .ref q4, .ref q5, .ref q6, .null], cw_i g q1 12 (fun _ => 0), cw_i g q2 12 (fun _ => 0), cw_i g q3 12 (fun _ => 0), cw_l g q4 12 (fun _ => 0), cw_l g q5 12 (fun _ => 0), cw_l g q6 12 (fun _ => 0)] H locs := hZ
  refine lv_aload_n hx hb dX5_init_52 rfl (lv_at hl 0 rfl) ?_
  refine lv_bipush (v := 12) hx hb dX5_init_53 (by decide) ?_
  refine zz_newl (N' := 12) hC hZ zk_88 (by decide) (by decide) (Nat.le_of_ble_eq_true rfl) (Nat.le_of_ble_eq_true rfl) (Nat.le_of_ble_eq_true rfl) dX5_init_55 (fun q7 H hZ => ?_)
  have hZ : zz_Z g A s.heap [cw_o h0 4 [.null, .int 0, .ref q1, .ref q2, .ref q3, .ref q4, .ref q5, .ref q6, .null], cw_i g q1 12 (fun _ => 0), cw_i g q2 12 (fun _ => 0), cw_i g q3 12 (fun _ => 0), cw_l g q4 12 (fun _ => 0), cw_l g q5 12 (fun _ => 0), cw_l g q6 12 (fun _ => 0), cw_l g q7 12 (fun _ => 0)] H locs := hZ
  refine zz_putF hC hnm hZ 0 rfl zu_X5_31 rfl rfl (Nat.le_of_ble_eq_true rfl) dX5_init_57 (fun H locs hZ => ?_)
  have hZ : zz_Z g A s.heap [cw_o h0 4 [.null, .int 0, .ref q1, .ref q2, .ref q3, .ref q4, .ref q5, .ref q6, .ref q7], cw_i g q1 12 (fun _ => 0), cw_i g q2 12 (fun _ => 0), cw_i g q3 12 (fun _ => 0), cw_l g q4 12 (fun _ => 0), cw_l g q5 12 (fun _ => 0), cw_l g q6 12 (fun _ => 0), cw_l g q7 12 (fun _ => 0)] H locs := hZ
  refine lv_aload_n hx hb dX5_init_60 rfl (lv_at hl 0 rfl) ?_
  refine lv_aload_n hx hb dX5_init_61 rfl (lv_at hl 1 rfl) ?_
  refine zz_putF hC hnm hZ 0 rfl zu_X5_34 rfl rfl (Nat.le_of_ble_eq_true rfl) dX5_init_62 (fun H locs hZ => ?_)
  have hZ : zz_Z g A s.heap [cw_k4 h0 st 0 q1 q2 q3 q4 q5 q6 q7, cw_i g q1 12 (fun _ => 0), cw_i g q2 12 (fun _ => 0), cw_i g q3 12 (fun _ => 0), cw_l g q4 12 (fun _ => 0), cw_l g q5 12 (fun _ => 0), cw_l g q6 12 (fun _ => 0), cw_l g q7 12 (fun _ => 0)] H locs := hZ
  exact zz_vret hC hZ (⟨q1, q2, q3, q4, q5, q6, q7, rfl⟩) (Nat.le_of_ble_eq_true rfl) (Nat.le_of_ble_eq_true rfl) dX5_init_65
theorem dg_X4_init_0 : (decode cX4_init 0 = .ok (.aload_n 0, 1)) ∧ (decode cX4_init 1 = .ok (.invokespecial 3, 3)) ∧ (decode cX4_init 4 = .ok (.aload_n 0, 1)) ∧ (decode cX4_init 5 = .ok (.sipush 4000, 3)) ∧ (decode cX4_init 8 = .ok (.newarray .long, 2)) ∧ (decode cX4_init 10 = .ok (.putfield 9, 3)) ∧ (decode cX4_init 13 = .ok (.aload_n 0, 1)) ∧ (decode cX4_init 14 = .ok (.sipush 4000, 3)) ∧ (decode cX4_init 17 = .ok (.newarray .boolean, 2)) ∧ (decode cX4_init 19 = .ok (.putfield 15, 3)) ∧ (decode cX4_init 22 = .ok (.return_, 1)) := by decide +kernel
theorem dX4_init_0 : decode cX4_init 0 = .ok (.aload_n 0, 1) := dg_X4_init_0.1
theorem dX4_init_1 : decode cX4_init 1 = .ok (.invokespecial 3, 3) := dg_X4_init_0.2.1
theorem dX4_init_4 : decode cX4_init 4 = .ok (.aload_n 0, 1) := dg_X4_init_0.2.2.1
theorem dX4_init_5 : decode cX4_init 5 = .ok (.sipush 4000, 3) := dg_X4_init_0.2.2.2.1
theorem dX4_init_8 : decode cX4_init 8 = .ok (.newarray .long, 2) := dg_X4_init_0.2.2.2.2.1
theorem dX4_init_10 : decode cX4_init 10 = .ok (.putfield 9, 3) := dg_X4_init_0.2.2.2.2.2.1
theorem dX4_init_13 : decode cX4_init 13 = .ok (.aload_n 0, 1) := dg_X4_init_0.2.2.2.2.2.2.1
theorem dX4_init_14 : decode cX4_init 14 = .ok (.sipush 4000, 3) := dg_X4_init_0.2.2.2.2.2.2.2.1
theorem dX4_init_17 : decode cX4_init 17 = .ok (.newarray .boolean, 2) := dg_X4_init_0.2.2.2.2.2.2.2.2.1
theorem dX4_init_19 : decode cX4_init 19 = .ok (.putfield 15, 3) := dg_X4_init_0.2.2.2.2.2.2.2.2.2.1
theorem dX4_init_22 : decode cX4_init 22 = .ok (.return_, 1) := dg_X4_init_0.2.2.2.2.2.2.2.2.2.2
theorem zk_702 : Cond.methodLink RX4 3 objectInit ∈ zz_w := zz_in (List.mem_append_right _ (List.mem_append_right _ (List.mem_append_right _ (List.mem_append_left _ (List.mem_of_getElem? (i := 222) (by decide +kernel)))))) rfl
theorem zu_X4_9 : zz_fw RX4 9 3 0 true (.array .long) := ⟨RX4, TX4, 3, tyX4, rfl, zi_X4, by decide, zk_703, tyX4_ok, nmX4, rfl, by decide +kernel, fun _ => rfl⟩
theorem zu_X4_15 : zz_fw RX4 15 3 1 true (.array .boolean) := ⟨RX4, TX4, 3, tyX4, rfl, zi_X4, by decide, zk_704, tyX4_ok, nmX4, rfl, by decide +kernel, fun _ => rfl⟩
abbrev rm_ci_Mark : Room := { frames := 1, cells := 2, slots := 8000, locals := 12 }
abbrev po_ci_Mark (g : zz_G) (h0 : Nat) : va_W → Prop := fun (u : va_W) => ∃ (e1 : Nat) (e2 : Nat), u = [cw_k3 h0 e1 e2 0, cw_l g e1 4000 (fun _ => 0), cw_z g e2 4000 (fun _ => 0)]
set_option maxHeartbeats 4000000 in
set_option maxRecDepth 100000 in
theorem ci_Mark (g : zz_G) (h0 : Nat) : zz_V g yX4_init (.code yX4_init cX4_init 1 none) rm_ci_Mark [.ref h0] [cw_o h0 3 [.null, .null, .int 0]] (po_ci_Mark g h0) := by
  refine zz_V.intro (own := RX4) (cc := cX4_init) (nL := 1) (by decide) rfl (Nat.le_of_ble_eq_true rfl) ?_
  intro p l e s m args below meth c A H locs ls hC hnm hs hZ hl
  obtain ⟨hx, hb, hml, hown, hts, hr, hlocks, hK⟩ := id hC
  have hl : lv_has ls 1 [(0, .ref h0)] := hl
  have hZ : zz_Z g A s.heap [cw_o h0 3 [.null, .null, .int 0]] H locs := hZ
  refine lv_aload_n hx hb dX4_init_0 rfl (lv_at hl 0 rfl) ?_
  refine zz_obj hC hl zk_702 zk_18 zk_19 (Nat.le_of_ble_eq_true rfl) (Nat.le_of_ble_eq_true rfl) dX4_init_1 ?_
  refine lv_aload_n hx hb dX4_init_4 rfl (lv_at hl 0 rfl) ?_
  refine lv_sipush (v := 4000) hx hb dX4_init_5 (by decide) ?_
  refine zz_newl (N' := 4000) hC hZ zk_88 (by decide) (by decide) (Nat.le_of_ble_eq_true rfl) (Nat.le_of_ble_eq_true rfl) (Nat.le_of_ble_eq_true rfl) dX4_init_8 (fun q1 H hZ => ?_)
  have hZ : zz_Z g A s.heap [cw_o h0 3 [.null, .null, .int 0], cw_l g q1 4000 (fun _ => 0)] H locs := hZ
  refine zz_putF hC hnm hZ 0 rfl zu_X4_9 rfl rfl (Nat.le_of_ble_eq_true rfl) dX4_init_10 (fun H locs hZ => ?_)
  have hZ : zz_Z g A s.heap [cw_o h0 3 [.ref q1, .null, .int 0], cw_l g q1 4000 (fun _ => 0)] H locs := hZ
  refine lv_aload_n hx hb dX4_init_13 rfl (lv_at hl 0 rfl) ?_
  refine lv_sipush (v := 4000) hx hb dX4_init_14 (by decide) ?_
  refine zz_newz (N' := 4000) hC hZ zk_89 (by decide) (by decide) (Nat.le_of_ble_eq_true rfl) (Nat.le_of_ble_eq_true rfl) (Nat.le_of_ble_eq_true rfl) dX4_init_17 (fun q2 H hZ => ?_)
  have hZ : zz_Z g A s.heap [cw_o h0 3 [.ref q1, .null, .int 0], cw_l g q1 4000 (fun _ => 0), cw_z g q2 4000 (fun _ => 0)] H locs := hZ
  refine zz_putF hC hnm hZ 0 rfl zu_X4_15 rfl rfl (Nat.le_of_ble_eq_true rfl) dX4_init_19 (fun H locs hZ => ?_)
  have hZ : zz_Z g A s.heap [cw_k3 h0 q1 q2 0, cw_l g q1 4000 (fun _ => 0), cw_z g q2 4000 (fun _ => 0)] H locs := hZ
  exact zz_vret hC hZ (⟨q1, q2, rfl⟩) (Nat.le_of_ble_eq_true rfl) (Nat.le_of_ble_eq_true rfl) dX4_init_22
theorem dg_X7_init_0 : (decode cX7_init 0 = .ok (.aload_n 0, 1)) ∧ (decode cX7_init 1 = .ok (.invokespecial 1, 3)) ∧ (decode cX7_init 4 = .ok (.aload_n 0, 1)) ∧ (decode cX7_init 5 = .ok (.new 7, 3)) ∧ (decode cX7_init 8 = .ok (.dup, 1)) ∧ (decode cX7_init 9 = .ok (.invokespecial 9, 3)) ∧ (decode cX7_init 12 = .ok (.putfield 10, 3)) ∧ (decode cX7_init 15 = .ok (.aload_n 0, 1)) ∧ (decode cX7_init 16 = .ok (.new 16, 3)) ∧ (decode cX7_init 19 = .ok (.dup, 1)) ∧ (decode cX7_init 20 = .ok (.aload_n 0, 1)) ∧ (decode cX7_init 21 = .ok (.getfield 10, 3)) ∧ (decode cX7_init 24 = .ok (.invokespecial 18, 3)) ∧ (decode cX7_init 27 = .ok (.putfield 21, 3)) ∧ (decode cX7_init 30 = .ok (.aload_n 0, 1)) ∧ (decode cX7_init 31 = .ok (.new 25, 3)) := by decide +kernel
theorem dX7_init_0 : decode cX7_init 0 = .ok (.aload_n 0, 1) := dg_X7_init_0.1
theorem dX7_init_1 : decode cX7_init 1 = .ok (.invokespecial 1, 3) := dg_X7_init_0.2.1
theorem dX7_init_4 : decode cX7_init 4 = .ok (.aload_n 0, 1) := dg_X7_init_0.2.2.1
theorem dX7_init_5 : decode cX7_init 5 = .ok (.new 7, 3) := dg_X7_init_0.2.2.2.1
theorem dX7_init_8 : decode cX7_init 8 = .ok (.dup, 1) := dg_X7_init_0.2.2.2.2.1
theorem dX7_init_9 : decode cX7_init 9 = .ok (.invokespecial 9, 3) := dg_X7_init_0.2.2.2.2.2.1
theorem dX7_init_12 : decode cX7_init 12 = .ok (.putfield 10, 3) := dg_X7_init_0.2.2.2.2.2.2.1
theorem dX7_init_15 : decode cX7_init 15 = .ok (.aload_n 0, 1) := dg_X7_init_0.2.2.2.2.2.2.2.1
theorem dX7_init_16 : decode cX7_init 16 = .ok (.new 16, 3) := dg_X7_init_0.2.2.2.2.2.2.2.2.1
theorem dX7_init_19 : decode cX7_init 19 = .ok (.dup, 1) := dg_X7_init_0.2.2.2.2.2.2.2.2.2.1
theorem dX7_init_20 : decode cX7_init 20 = .ok (.aload_n 0, 1) := dg_X7_init_0.2.2.2.2.2.2.2.2.2.2.1
theorem dX7_init_21 : decode cX7_init 21 = .ok (.getfield 10, 3) := dg_X7_init_0.2.2.2.2.2.2.2.2.2.2.2.1
theorem dX7_init_24 : decode cX7_init 24 = .ok (.invokespecial 18, 3) := dg_X7_init_0.2.2.2.2.2.2.2.2.2.2.2.2.1
theorem dX7_init_27 : decode cX7_init 27 = .ok (.putfield 21, 3) := dg_X7_init_0.2.2.2.2.2.2.2.2.2.2.2.2.2.1
theorem dX7_init_30 : decode cX7_init 30 = .ok (.aload_n 0, 1) := dg_X7_init_0.2.2.2.2.2.2.2.2.2.2.2.2.2.2.1
theorem dX7_init_31 : decode cX7_init 31 = .ok (.new 25, 3) := dg_X7_init_0.2.2.2.2.2.2.2.2.2.2.2.2.2.2.2
theorem dg_X7_init_34 : (decode cX7_init 34 = .ok (.dup, 1)) ∧ (decode cX7_init 35 = .ok (.aload_n 0, 1)) ∧ (decode cX7_init 36 = .ok (.getfield 10, 3)) ∧ (decode cX7_init 39 = .ok (.invokespecial 27, 3)) ∧ (decode cX7_init 42 = .ok (.putfield 28, 3)) ∧ (decode cX7_init 45 = .ok (.aload_n 0, 1)) ∧ (decode cX7_init 46 = .ok (.new 32, 3)) ∧ (decode cX7_init 49 = .ok (.dup, 1)) ∧ (decode cX7_init 50 = .ok (.aload_n 0, 1)) ∧ (decode cX7_init 51 = .ok (.getfield 10, 3)) ∧ (decode cX7_init 54 = .ok (.invokespecial 34, 3)) ∧ (decode cX7_init 57 = .ok (.putfield 35, 3)) ∧ (decode cX7_init 60 = .ok (.aload_n 0, 1)) ∧ (decode cX7_init 61 = .ok (.new 39, 3)) ∧ (decode cX7_init 64 = .ok (.dup, 1)) ∧ (decode cX7_init 65 = .ok (.aload_n 0, 1)) := by decide +kernel
theorem dX7_init_34 : decode cX7_init 34 = .ok (.dup, 1) := dg_X7_init_34.1
theorem dX7_init_35 : decode cX7_init 35 = .ok (.aload_n 0, 1) := dg_X7_init_34.2.1
theorem dX7_init_36 : decode cX7_init 36 = .ok (.getfield 10, 3) := dg_X7_init_34.2.2.1
theorem dX7_init_39 : decode cX7_init 39 = .ok (.invokespecial 27, 3) := dg_X7_init_34.2.2.2.1
theorem dX7_init_42 : decode cX7_init 42 = .ok (.putfield 28, 3) := dg_X7_init_34.2.2.2.2.1
theorem dX7_init_45 : decode cX7_init 45 = .ok (.aload_n 0, 1) := dg_X7_init_34.2.2.2.2.2.1
theorem dX7_init_46 : decode cX7_init 46 = .ok (.new 32, 3) := dg_X7_init_34.2.2.2.2.2.2.1
theorem dX7_init_49 : decode cX7_init 49 = .ok (.dup, 1) := dg_X7_init_34.2.2.2.2.2.2.2.1
theorem dX7_init_50 : decode cX7_init 50 = .ok (.aload_n 0, 1) := dg_X7_init_34.2.2.2.2.2.2.2.2.1
theorem dX7_init_51 : decode cX7_init 51 = .ok (.getfield 10, 3) := dg_X7_init_34.2.2.2.2.2.2.2.2.2.1
theorem dX7_init_54 : decode cX7_init 54 = .ok (.invokespecial 34, 3) := dg_X7_init_34.2.2.2.2.2.2.2.2.2.2.1
theorem dX7_init_57 : decode cX7_init 57 = .ok (.putfield 35, 3) := dg_X7_init_34.2.2.2.2.2.2.2.2.2.2.2.1
theorem dX7_init_60 : decode cX7_init 60 = .ok (.aload_n 0, 1) := dg_X7_init_34.2.2.2.2.2.2.2.2.2.2.2.2.1
theorem dX7_init_61 : decode cX7_init 61 = .ok (.new 39, 3) := dg_X7_init_34.2.2.2.2.2.2.2.2.2.2.2.2.2.1
theorem dX7_init_64 : decode cX7_init 64 = .ok (.dup, 1) := dg_X7_init_34.2.2.2.2.2.2.2.2.2.2.2.2.2.2.1
theorem dX7_init_65 : decode cX7_init 65 = .ok (.aload_n 0, 1) := dg_X7_init_34.2.2.2.2.2.2.2.2.2.2.2.2.2.2.2
theorem dg_X7_init_66 : (decode cX7_init 66 = .ok (.getfield 10, 3)) ∧ (decode cX7_init 69 = .ok (.invokespecial 41, 3)) ∧ (decode cX7_init 72 = .ok (.putfield 42, 3)) ∧ (decode cX7_init 75 = .ok (.aload_n 0, 1)) ∧ (decode cX7_init 76 = .ok (.bipush 8, 2)) ∧ (decode cX7_init 78 = .ok (.anewarray 46, 3)) ∧ (decode cX7_init 81 = .ok (.putfield 48, 3)) ∧ (decode cX7_init 84 = .ok (.aload_n 0, 1)) ∧ (decode cX7_init 85 = .ok (.iconst 0, 1)) ∧ (decode cX7_init 86 = .ok (.putfield 52, 3)) ∧ (decode cX7_init 89 = .ok (.aload_n 0, 1)) ∧ (decode cX7_init 90 = .ok (.iconst 0, 1)) ∧ (decode cX7_init 91 = .ok (.putfield 56, 3)) ∧ (decode cX7_init 94 = .ok (.return_, 1)) := by decide +kernel
theorem dX7_init_66 : decode cX7_init 66 = .ok (.getfield 10, 3) := dg_X7_init_66.1
theorem dX7_init_69 : decode cX7_init 69 = .ok (.invokespecial 41, 3) := dg_X7_init_66.2.1
theorem dX7_init_72 : decode cX7_init 72 = .ok (.putfield 42, 3) := dg_X7_init_66.2.2.1
theorem dX7_init_75 : decode cX7_init 75 = .ok (.aload_n 0, 1) := dg_X7_init_66.2.2.2.1
theorem dX7_init_76 : decode cX7_init 76 = .ok (.bipush 8, 2) := dg_X7_init_66.2.2.2.2.1
theorem dX7_init_78 : decode cX7_init 78 = .ok (.anewarray 46, 3) := dg_X7_init_66.2.2.2.2.2.1
theorem dX7_init_81 : decode cX7_init 81 = .ok (.putfield 48, 3) := dg_X7_init_66.2.2.2.2.2.2.1
theorem dX7_init_84 : decode cX7_init 84 = .ok (.aload_n 0, 1) := dg_X7_init_66.2.2.2.2.2.2.2.1
theorem dX7_init_85 : decode cX7_init 85 = .ok (.iconst 0, 1) := dg_X7_init_66.2.2.2.2.2.2.2.2.1
theorem dX7_init_86 : decode cX7_init 86 = .ok (.putfield 52, 3) := dg_X7_init_66.2.2.2.2.2.2.2.2.2.1
theorem dX7_init_89 : decode cX7_init 89 = .ok (.aload_n 0, 1) := dg_X7_init_66.2.2.2.2.2.2.2.2.2.2.1
theorem dX7_init_90 : decode cX7_init 90 = .ok (.iconst 0, 1) := dg_X7_init_66.2.2.2.2.2.2.2.2.2.2.2.1
theorem dX7_init_91 : decode cX7_init 91 = .ok (.putfield 56, 3) := dg_X7_init_66.2.2.2.2.2.2.2.2.2.2.2.2.1
theorem dX7_init_94 : decode cX7_init 94 = .ok (.return_, 1) := dg_X7_init_66.2.2.2.2.2.2.2.2.2.2.2.2.2
theorem zk_17 : Cond.methodLink RX7 1 objectInit ∈ zz_w := zz_in (List.mem_append_right _ (List.mem_append_left _ (List.mem_of_getElem? (i := 17) (by decide +kernel)))) rfl
theorem zk_20 : Cond.classLink RX7 7 RX6 ∈ zz_w := zz_in (List.mem_append_right _ (List.mem_append_left _ (List.mem_of_getElem? (i := 20) (by decide +kernel)))) rfl
theorem zk_21 : Cond.instantiable RX6 10 ∈ zz_w := zz_in (List.mem_append_right _ (List.mem_append_left _ (List.mem_of_getElem? (i := 21) (by decide +kernel)))) rfl
theorem zn_X7_7 : zz_n RX7 7 5 10 [.int 0, .int 0, .null, .null, .null, .null, .null, .null, .null, .null] := ⟨RX6, TX6, tyX6, rfl, zi_X6, tyX6_ok, zk_20, zk_21, zk_2, by decide +kernel⟩
set_option maxRecDepth 20000 in
theorem zk_24 : Cond.code yX6_init cX6_init 1 none ∈ zz_w := zz_in (List.mem_append_right _ (List.mem_append_left _ (List.mem_of_getElem? (i := 24) (rfl)))) rfl
theorem zk_23 : Cond.instanceMethod yX6_init ∈ zz_w := zz_in (List.mem_append_right _ (List.mem_append_left _ (List.mem_of_getElem? (i := 23) (by decide +kernel)))) rfl
theorem zc_X7_9 : zz_cN RX7 9 yX6_init "DecisionArrays" cX6_init 1 0 := ⟨by decide, zk_24, zk_2, ⟨by decide, by decide, by decide +kernel⟩, rfl, zk_23⟩
theorem zk_200 : Cond.fieldLink RX7 10 RX7 "store" "LDecisionArrays$Store;" ∈ zz_w := zz_in (List.mem_append_right _ (List.mem_append_left _ (List.mem_of_getElem? (i := 200) (by decide +kernel)))) rfl
theorem zi_X7_a : ∀ w ∈ u_ws RX7 TX7 8, w ∈ lw_tbl := by decide +kernel
theorem zi_X7_b : ∀ w ∈ u_ws RX7 TX7 8, goodWord w = true := by decide +kernel
theorem zi_X7 : ∀ w ∈ u_ws RX7 TX7 8, w ∈ zz_w := fun w h => zz_in (zi_X7_a w h) (zi_X7_b w h)
theorem zu_X7_10 : zz_fw RX7 10 6 0 true (.object "DecisionArrays$Store") := ⟨RX7, TX7, 8, tyX7, rfl, zi_X7, by decide, zk_200, tyX7_ok, nmX7, rfl, by decide +kernel, fun _ => rfl⟩
theorem zk_90 : Cond.classLink RX7 16 RX3 ∈ zz_w := zz_in (List.mem_append_right _ (List.mem_append_left _ (List.mem_of_getElem? (i := 90) (by decide +kernel)))) rfl
theorem zk_91 : Cond.instantiable RX3 4 ∈ zz_w := zz_in (List.mem_append_right _ (List.mem_append_left _ (List.mem_of_getElem? (i := 91) (by decide +kernel)))) rfl
theorem zk_3 : Cond.initialized RX3 ∈ zz_w := zz_in (List.mem_append_right _ (List.mem_append_left _ (List.mem_of_getElem? (i := 3) (by decide +kernel)))) rfl
theorem zn_X7_16 : zz_n RX7 16 2 4 [.null, .null, .int 0, .int 0] := ⟨RX3, TX3, tyX3, rfl, zi_X3, tyX3_ok, zk_90, zk_91, zk_3, by decide +kernel⟩
theorem zf_X7_10 : zz_f RX7 10 6 0 := ⟨RX7, TX7, 8, rfl, zi_X7, by decide, zk_200⟩
theorem zk_92 : Cond.methodLink RX7 18 yX3_init ∈ zz_w := zz_in (List.mem_append_right _ (List.mem_append_left _ (List.mem_of_getElem? (i := 92) (by decide +kernel)))) rfl
set_option maxRecDepth 20000 in
theorem zk_94 : Cond.code yX3_init cX3_init 2 none ∈ zz_w := zz_in (List.mem_append_right _ (List.mem_append_left _ (List.mem_of_getElem? (i := 94) (rfl)))) rfl
theorem zk_93 : Cond.instanceMethod yX3_init ∈ zz_w := zz_in (List.mem_append_right _ (List.mem_append_left _ (List.mem_of_getElem? (i := 93) (by decide +kernel)))) rfl
theorem zc_X7_18 : zz_cI RX7 18 yX3_init cX3_init 2 1 := ⟨⟨zk_92, zk_94, zk_3, by decide, by decide, by decide +kernel⟩, rfl, zk_93⟩
theorem zk_201 : Cond.fieldLink RX7 21 RX7 "maker" "LDecisionArrays$Maker;" ∈ zz_w := zz_in (List.mem_append_right _ (List.mem_append_left _ (List.mem_of_getElem? (i := 201) (by decide +kernel)))) rfl
theorem zu_X7_21 : zz_fw RX7 21 6 1 true (.object "DecisionArrays$Maker") := ⟨RX7, TX7, 8, tyX7, rfl, zi_X7, by decide, zk_201, tyX7_ok, nmX7, rfl, by decide +kernel, fun _ => rfl⟩
theorem zk_109 : Cond.classLink RX7 25 RX2 ∈ zz_w := zz_in (List.mem_append_right _ (List.mem_append_left _ (List.mem_of_getElem? (i := 109) (by decide +kernel)))) rfl
theorem zk_110 : Cond.instantiable RX2 5 ∈ zz_w := zz_in (List.mem_append_right _ (List.mem_append_left _ (List.mem_of_getElem? (i := 110) (by decide +kernel)))) rfl
theorem zk_4 : Cond.initialized RX2 ∈ zz_w := zz_in (List.mem_append_right _ (List.mem_append_left _ (List.mem_of_getElem? (i := 4) (by decide +kernel)))) rfl
theorem zn_X7_25 : zz_n RX7 25 1 5 [.null, .int 0, .null, .null, .null] := ⟨RX2, TX2, tyX2, rfl, zi_X2, tyX2_ok, zk_109, zk_110, zk_4, by decide +kernel⟩
theorem zk_111 : Cond.methodLink RX7 27 yX2_init ∈ zz_w := zz_in (List.mem_append_right _ (List.mem_append_left _ (List.mem_of_getElem? (i := 111) (by decide +kernel)))) rfl
set_option maxRecDepth 20000 in
theorem zk_113 : Cond.code yX2_init cX2_init 2 none ∈ zz_w := zz_in (List.mem_append_right _ (List.mem_append_left _ (List.mem_of_getElem? (i := 113) (rfl)))) rfl
theorem zk_112 : Cond.instanceMethod yX2_init ∈ zz_w := zz_in (List.mem_append_right _ (List.mem_append_left _ (List.mem_of_getElem? (i := 112) (by decide +kernel)))) rfl
theorem zc_X7_27 : zz_cI RX7 27 yX2_init cX2_init 2 1 := ⟨⟨zk_111, zk_113, zk_4, by decide, by decide, by decide +kernel⟩, rfl, zk_112⟩
theorem zk_202 : Cond.fieldLink RX7 28 RX7 "likeness" "LDecisionArrays$Likeness;" ∈ zz_w := zz_in (List.mem_append_right _ (List.mem_append_left _ (List.mem_of_getElem? (i := 202) (by decide +kernel)))) rfl
theorem zu_X7_28 : zz_fw RX7 28 6 2 true (.object "DecisionArrays$Likeness") := ⟨RX7, TX7, 8, tyX7, rfl, zi_X7, by decide, zk_202, tyX7_ok, nmX7, rfl, by decide +kernel, fun _ => rfl⟩
theorem zk_131 : Cond.classLink RX7 32 RX0 ∈ zz_w := zz_in (List.mem_append_right _ (List.mem_append_left _ (List.mem_of_getElem? (i := 131) (by decide +kernel)))) rfl
theorem zk_132 : Cond.instantiable RX0 7 ∈ zz_w := zz_in (List.mem_append_right _ (List.mem_append_left _ (List.mem_of_getElem? (i := 132) (by decide +kernel)))) rfl
theorem zn_X7_32 : zz_n RX7 32 0 7 [.null, .int 0, .null, .null, .null, .null, .null] := ⟨RX0, TX0, tyX0, rfl, zi_X0, tyX0_ok, zk_131, zk_132, zk_5, by decide +kernel⟩
theorem zk_133 : Cond.methodLink RX7 34 yX0_init ∈ zz_w := zz_in (List.mem_append_right _ (List.mem_append_left _ (List.mem_of_getElem? (i := 133) (by decide +kernel)))) rfl
set_option maxRecDepth 20000 in
theorem zk_135 : Cond.code yX0_init cX0_init 2 none ∈ zz_w := zz_in (List.mem_append_right _ (List.mem_append_left _ (List.mem_of_getElem? (i := 135) (rfl)))) rfl
theorem zk_134 : Cond.instanceMethod yX0_init ∈ zz_w := zz_in (List.mem_append_right _ (List.mem_append_left _ (List.mem_of_getElem? (i := 134) (by decide +kernel)))) rfl
theorem zc_X7_34 : zz_cI RX7 34 yX0_init cX0_init 2 1 := ⟨⟨zk_133, zk_135, zk_5, by decide, by decide, by decide +kernel⟩, rfl, zk_134⟩
theorem zk_203 : Cond.fieldLink RX7 35 RX7 "choices" "LDecisionArrays$Choices;" ∈ zz_w := zz_in (List.mem_append_right _ (List.mem_append_left _ (List.mem_of_getElem? (i := 203) (by decide +kernel)))) rfl
theorem zu_X7_35 : zz_fw RX7 35 6 3 true (.object "DecisionArrays$Choices") := ⟨RX7, TX7, 8, tyX7, rfl, zi_X7, by decide, zk_203, tyX7_ok, nmX7, rfl, by decide +kernel, fun _ => rfl⟩
theorem zk_163 : Cond.classLink RX7 39 RX5 ∈ zz_w := zz_in (List.mem_append_right _ (List.mem_append_left _ (List.mem_of_getElem? (i := 163) (by decide +kernel)))) rfl
theorem zk_164 : Cond.instantiable RX5 9 ∈ zz_w := zz_in (List.mem_append_right _ (List.mem_append_left _ (List.mem_of_getElem? (i := 164) (by decide +kernel)))) rfl
theorem zn_X7_39 : zz_n RX7 39 4 9 [.null, .int 0, .null, .null, .null, .null, .null, .null, .null] := ⟨RX5, TX5, tyX5, rfl, zi_X5, tyX5_ok, zk_163, zk_164, zk_6, by decide +kernel⟩
theorem zk_165 : Cond.methodLink RX7 41 yX5_init ∈ zz_w := zz_in (List.mem_append_right _ (List.mem_append_left _ (List.mem_of_getElem? (i := 165) (by decide +kernel)))) rfl
set_option maxRecDepth 20000 in
theorem zk_167 : Cond.code yX5_init cX5_init 2 none ∈ zz_w := zz_in (List.mem_append_right _ (List.mem_append_left _ (List.mem_of_getElem? (i := 167) (rfl)))) rfl
theorem zk_166 : Cond.instanceMethod yX5_init ∈ zz_w := zz_in (List.mem_append_right _ (List.mem_append_left _ (List.mem_of_getElem? (i := 166) (by decide +kernel)))) rfl
theorem zc_X7_41 : zz_cI RX7 41 yX5_init cX5_init 2 1 := ⟨⟨zk_165, zk_167, zk_6, by decide, by decide, by decide +kernel⟩, rfl, zk_166⟩
theorem zk_204 : Cond.fieldLink RX7 42 RX7 "rules" "LDecisionArrays$Rules;" ∈ zz_w := zz_in (List.mem_append_right _ (List.mem_append_left _ (List.mem_of_getElem? (i := 204) (by decide +kernel)))) rfl
theorem zu_X7_42 : zz_fw RX7 42 6 4 true (.object "DecisionArrays$Rules") := ⟨RX7, TX7, 8, tyX7, rfl, zi_X7, by decide, zk_204, tyX7_ok, nmX7, rfl, by decide +kernel, fun _ => rfl⟩
theorem zk_198 : Cond.classLink RX7 46 zz_RM ∈ zz_w := zz_in (List.mem_append_right _ (List.mem_append_left _ (List.mem_of_getElem? (i := 198) (by decide +kernel)))) rfl
theorem zk_205 : Cond.fieldLink RX7 48 RX7 "marks" "[LDecisionArrays$Mark;" ∈ zz_w := zz_in (List.mem_append_right _ (List.mem_append_left _ (List.mem_of_getElem? (i := 205) (by decide +kernel)))) rfl
theorem zu_X7_48 : zz_fw RX7 48 6 5 true (.array (.object "DecisionArrays$Mark")) := ⟨RX7, TX7, 8, tyX7, rfl, zi_X7, by decide, zk_205, tyX7_ok, nmX7, rfl, by decide +kernel, fun _ => rfl⟩
theorem zk_206 : Cond.fieldLink RX7 52 RX7 "marked" "I" ∈ zz_w := zz_in (List.mem_append_right _ (List.mem_append_left _ (List.mem_of_getElem? (i := 206) (by decide +kernel)))) rfl
theorem zu_X7_52 : zz_fw RX7 52 6 6 false .int := ⟨RX7, TX7, 8, tyX7, rfl, zi_X7, by decide, zk_206, tyX7_ok, nmX7, rfl, by decide +kernel, fun h => by cases h⟩
theorem zk_207 : Cond.fieldLink RX7 56 RX7 "latest" "I" ∈ zz_w := zz_in (List.mem_append_right _ (List.mem_append_left _ (List.mem_of_getElem? (i := 207) (by decide +kernel)))) rfl
theorem zu_X7_56 : zz_fw RX7 56 6 7 false .int := ⟨RX7, TX7, 8, tyX7, rfl, zi_X7, by decide, zk_207, tyX7_ok, nmX7, rfl, by decide +kernel, fun h => by cases h⟩
abbrev rm_ci_DA : Room := { frames := 2, cells := 30, slots := 12831, locals := 33 }
abbrev po_ci_DA (g : zz_G) (h0 : Nat) : va_W → Prop := fun (u : va_W) => ∃ (e1 : Nat) (e2 : Nat) (e3 : Nat) (e4 : Nat) (e5 : Nat) (e6 : Nat) (e7 : Nat) (e8 : Nat) (e9 : Nat) (e10 : Nat) (e11 : Nat) (e12 : Nat) (e13 : Nat) (e14 : Nat) (e15 : Nat) (e16 : Nat) (e17 : Nat) (e18 : Nat) (e19 : Nat) (e20 : Nat) (e21 : Nat) (e22 : Nat) (e23 : Nat) (e24 : Nat) (e25 : Nat) (e26 : Nat) (e27 : Nat) (e28 : Nat) (e29 : Nat) (e30 : Nat), u = [cw_k6 h0 e1 e10 e12 e16 e22 e30 0 0, cw_k5 e1 0 0 e2 e3 e4 e5 e6 e7 e8 e9, cw_i g e2 60 (fun _ => 0), cw_i g e3 60 (fun _ => 0), cw_i g e4 60 (fun _ => 0), cw_i g e5 60 (fun _ => 0), cw_i g e6 60 (fun _ => 0), cw_l g e7 4000 (fun _ => 0), cw_z g e8 4000 (fun _ => 0), cw_l g e9 200 (fun _ => 0), cw_k2 e10 e1 e11 0 0, cw_i g e11 4 (fun _ => 0), cw_k1 e12 e1 0 e13 e14 e15, cw_i g e13 3600 (fun _ => 0), cw_i g e14 60 (fun _ => 0), cw_i g e15 60 (fun _ => 0), cw_k0 e16 e1 0 e17 e18 e19 e20 e21, cw_i g e17 24 (fun _ => 0), cw_i g e18 24 (fun _ => 0), cw_i g e19 24 (fun _ => 0), cw_l g e20 384 (fun _ => 0), cw_i g e21 24 (fun _ => 0), cw_k4 e22 e1 0 e23 e24 e25 e26 e27 e28 e29, cw_i g e23 12 (fun _ => 0), cw_i g e24 12 (fun _ => 0), cw_i g e25 12 (fun _ => 0), cw_l g e26 12 (fun _ => 0), cw_l g e27 12 (fun _ => 0), cw_l g e28 12 (fun _ => 0), cw_l g e29 12 (fun _ => 0), cw_q g e30 8 (fun _ => none)]
set_option maxHeartbeats 4000000 in
set_option maxRecDepth 100000 in
theorem ci_DA (g : zz_G) (h0 : Nat) : zz_V g yX7_init (.code yX7_init cX7_init 1 none) rm_ci_DA [.ref h0] [cw_o h0 6 [.null, .null, .null, .null, .null, .null, .int 0, .int 0]] (po_ci_DA g h0) := by
  refine zz_V.intro (own := RX7) (cc := cX7_init) (nL := 1) (by decide) rfl (Nat.le_of_ble_eq_true rfl) ?_
  intro p l e s m args below meth c A H locs ls hC hnm hs hZ hl
  obtain ⟨hx, hb, hml, hown, hts, hr, hlocks, hK⟩ := id hC
  have hl : lv_has ls 1 [(0, .ref h0)] := hl
  have hZ : zz_Z g A s.heap [cw_o h0 6 [.null, .null, .null, .null, .null, .null, .int 0, .int 0]] H locs := hZ
  refine lv_aload_n hx hb dX7_init_0 rfl (lv_at hl 0 rfl) ?_
  refine zz_obj hC hl zk_17 zk_18 zk_19 (Nat.le_of_ble_eq_true rfl) (Nat.le_of_ble_eq_true rfl) dX7_init_1 ?_
  refine lv_aload_n hx hb dX7_init_4 rfl (lv_at hl 0 rfl) ?_
  refine zz_new hC hZ zn_X7_7 (Nat.le_of_ble_eq_true rfl) (Nat.le_of_ble_eq_true rfl) dX7_init_5 (fun q1 H hZ => ?_)
  have hZ : zz_Z g A s.heap [cw_o h0 6 [.null, .null, .null, .null, .null, .null, .int 0, .int 0], cw_o q1 5 [.int 0, .int 0, .null, .null, .null, .null, .null, .null, .null, .null]] H locs := hZ
  refine lv_dup hx hb dX7_init_8 rfl ?_
  refine zz_vN (As := []) (wc := [cw_o q1 5 [.int 0, .int 0, .null, .null, .null, .null, .null, .null, .null, .null]]) (wr := [cw_o h0 6 [.null, .null, .null, .null, .null, .null, .int 0, .int 0]]) (rest := [.ref q1, .ref h0]) hC hZ hs hl zc_X7_9 (ci_Store g q1) [1] [0] rfl rfl (by decide +kernel) rfl rfl (Nat.le_of_ble_eq_true rfl) ⟨⟨Nat.le_of_ble_eq_true rfl, Nat.le_of_ble_eq_true rfl⟩, Nat.le_of_ble_eq_true rfl, Nat.le_of_ble_eq_true rfl⟩ dX7_init_9 (fun u3 H locs hp hZ => ?_)
  obtain ⟨e1_4, e2_5, e3_6, e4_7, e5_8, e6_9, e7_10, e8_11, rfl⟩ := hp
  have hZ : zz_Z g A s.heap [cw_o h0 6 [.null, .null, .null, .null, .null, .null, .int 0, .int 0], cw_k5 q1 0 0 e1_4 e2_5 e3_6 e4_7 e5_8 e6_9 e7_10 e8_11, cw_i g e1_4 60 (fun _ => 0), cw_i g e2_5 60 (fun _ => 0), cw_i g e3_6 60 (fun _ => 0), cw_i g e4_7 60 (fun _ => 0), cw_i g e5_8 60 (fun _ => 0), cw_l g e6_9 4000 (fun _ => 0), cw_z g e7_10 4000 (fun _ => 0), cw_l g e8_11 200 (fun _ => 0)] H locs := hZ
  refine zz_putF hC hnm hZ 0 rfl zu_X7_10 rfl rfl (Nat.le_of_ble_eq_true rfl) dX7_init_12 (fun H locs hZ => ?_)
  have hZ : zz_Z g A s.heap [cw_o h0 6 [.ref q1, .null, .null, .null, .null, .null, .int 0, .int 0], cw_k5 q1 0 0 e1_4 e2_5 e3_6 e4_7 e5_8 e6_9 e7_10 e8_11, cw_i g e1_4 60 (fun _ => 0), cw_i g e2_5 60 (fun _ => 0), cw_i g e3_6 60 (fun _ => 0), cw_i g e4_7 60 (fun _ => 0), cw_i g e5_8 60 (fun _ => 0), cw_l g e6_9 4000 (fun _ => 0), cw_z g e7_10 4000 (fun _ => 0), cw_l g e8_11 200 (fun _ => 0)] H locs := hZ
  refine lv_aload_n hx hb dX7_init_15 rfl (lv_at hl 0 rfl) ?_
  refine zz_new hC hZ zn_X7_16 (Nat.le_of_ble_eq_true rfl) (Nat.le_of_ble_eq_true rfl) dX7_init_16 (fun q12 H hZ => ?_)
  have hZ : zz_Z g A s.heap [cw_o h0 6 [.ref q1, .null, .null, .null, .null, .null, .int 0, .int 0], cw_k5 q1 0 0 e1_4 e2_5 e3_6 e4_7 e5_8 e6_9 e7_10 e8_11, cw_i g e1_4 60 (fun _ => 0), cw_i g e2_5 60 (fun _ => 0), cw_i g e3_6 60 (fun _ => 0), cw_i g e4_7 60 (fun _ => 0), cw_i g e5_8 60 (fun _ => 0), cw_l g e6_9 4000 (fun _ => 0), cw_z g e7_10 4000 (fun _ => 0), cw_l g e8_11 200 (fun _ => 0), cw_o q12 2 [.null, .null, .int 0, .int 0]] H locs := hZ
  refine lv_dup hx hb dX7_init_19 rfl ?_
  refine lv_aload_n hx hb dX7_init_20 rfl (lv_at hl 0 rfl) ?_
  refine zz_get hC hZ 0 rfl zf_X7_10 rfl dX7_init_21 ?_
  refine zz_vI (As := [.ref q1]) (wc := [cw_o q12 2 [.null, .null, .int 0, .int 0]]) (wr := [cw_o h0 6 [.ref q1, .null, .null, .null, .null, .null, .int 0, .int 0], cw_k5 q1 0 0 e1_4 e2_5 e3_6 e4_7 e5_8 e6_9 e7_10 e8_11, cw_i g e1_4 60 (fun _ => 0), cw_i g e2_5 60 (fun _ => 0), cw_i g e3_6 60 (fun _ => 0), cw_i g e4_7 60 (fun _ => 0), cw_i g e5_8 60 (fun _ => 0), cw_l g e6_9 4000 (fun _ => 0), cw_z g e7_10 4000 (fun _ => 0), cw_l g e8_11 200 (fun _ => 0)]) (rest := [.ref q12, .ref h0]) hC hZ hs hl zc_X7_18 (ci_Maker g q12 q1) [10] [0, 1, 2, 3, 4, 5, 6, 7, 8, 9] rfl rfl (by decide +kernel) rfl rfl (Nat.le_of_ble_eq_true rfl) ⟨⟨Nat.le_of_ble_eq_true rfl, Nat.le_of_ble_eq_true rfl⟩, Nat.le_of_ble_eq_true rfl, Nat.le_of_ble_eq_true rfl⟩ dX7_init_24 (fun u14 H locs hp hZ => ?_)
  obtain ⟨e1_15, rfl⟩ := hp
  have hZ : zz_Z g A s.heap [cw_o h0 6 [.ref q1, .null, .null, .null, .null, .null, .int 0, .int 0], cw_k5 q1 0 0 e1_4 e2_5 e3_6 e4_7 e5_8 e6_9 e7_10 e8_11, cw_i g e1_4 60 (fun _ => 0), cw_i g e2_5 60 (fun _ => 0), cw_i g e3_6 60 (fun _ => 0), cw_i g e4_7 60 (fun _ => 0), cw_i g e5_8 60 (fun _ => 0), cw_l g e6_9 4000 (fun _ => 0), cw_z g e7_10 4000 (fun _ => 0), cw_l g e8_11 200 (fun _ => 0), cw_k2 q12 q1 e1_15 0 0, cw_i g e1_15 4 (fun _ => 0)] H locs := hZ
  refine zz_putF hC hnm hZ 0 rfl zu_X7_21 rfl rfl (Nat.le_of_ble_eq_true rfl) dX7_init_27 (fun H locs hZ => ?_)
  have hZ : zz_Z g A s.heap [cw_o h0 6 [.ref q1, .ref q12, .null, .null, .null, .null, .int 0, .int 0], cw_k5 q1 0 0 e1_4 e2_5 e3_6 e4_7 e5_8 e6_9 e7_10 e8_11, cw_i g e1_4 60 (fun _ => 0), cw_i g e2_5 60 (fun _ => 0), cw_i g e3_6 60 (fun _ => 0), cw_i g e4_7 60 (fun _ => 0), cw_i g e5_8 60 (fun _ => 0), cw_l g e6_9 4000 (fun _ => 0), cw_z g e7_10 4000 (fun _ => 0), cw_l g e8_11 200 (fun _ => 0), cw_k2 q12 q1 e1_15 0 0, cw_i g e1_15 4 (fun _ => 0)] H locs := hZ
  refine lv_aload_n hx hb dX7_init_30 rfl (lv_at hl 0 rfl) ?_
  refine zz_new hC hZ zn_X7_25 (Nat.le_of_ble_eq_true rfl) (Nat.le_of_ble_eq_true rfl) dX7_init_31 (fun q16 H hZ => ?_)
  have hZ : zz_Z g A s.heap [cw_o h0 6 [.ref q1, .ref q12, .null, .null, .null, .null, .int 0, .int 0], cw_k5 q1 0 0 e1_4 e2_5 e3_6 e4_7 e5_8 e6_9 e7_10 e8_11, cw_i g e1_4 60 (fun _ => 0), cw_i g e2_5 60 (fun _ => 0), cw_i g e3_6 60 (fun _ => 0), cw_i g e4_7 60 (fun _ => 0), cw_i g e5_8 60 (fun _ => 0), cw_l g e6_9 4000 (fun _ => 0), cw_z g e7_10 4000 (fun _ => 0), cw_l g e8_11 200 (fun _ => 0), cw_k2 q12 q1 e1_15 0 0, cw_i g e1_15 4 (fun _ => 0), cw_o q16 1 [.null, .int 0, .null, .null, .null]] H locs := hZ
  refine lv_dup hx hb dX7_init_34 rfl ?_
  refine lv_aload_n hx hb dX7_init_35 rfl (lv_at hl 0 rfl) ?_
  refine zz_get hC hZ 0 rfl zf_X7_10 rfl dX7_init_36 ?_
  refine zz_vI (As := [.ref q1]) (wc := [cw_o q16 1 [.null, .int 0, .null, .null, .null]]) (wr := [cw_o h0 6 [.ref q1, .ref q12, .null, .null, .null, .null, .int 0, .int 0], cw_k5 q1 0 0 e1_4 e2_5 e3_6 e4_7 e5_8 e6_9 e7_10 e8_11, cw_i g e1_4 60 (fun _ => 0), cw_i g e2_5 60 (fun _ => 0), cw_i g e3_6 60 (fun _ => 0), cw_i g e4_7 60 (fun _ => 0), cw_i g e5_8 60 (fun _ => 0), cw_l g e6_9 4000 (fun _ => 0), cw_z g e7_10 4000 (fun _ => 0), cw_l g e8_11 200 (fun _ => 0), cw_k2 q12 q1 e1_15 0 0, cw_i g e1_15 4 (fun _ => 0)]) (rest := [.ref q16, .ref h0]) hC hZ hs hl zc_X7_27 (ci_Likeness g q16 q1) [12] [0, 1, 2, 3, 4, 5, 6, 7, 8, 9, 10, 11] rfl rfl (by decide +kernel) rfl rfl (Nat.le_of_ble_eq_true rfl) ⟨⟨Nat.le_of_ble_eq_true rfl, Nat.le_of_ble_eq_true rfl⟩, Nat.le_of_ble_eq_true rfl, Nat.le_of_ble_eq_true rfl⟩ dX7_init_39 (fun u18 H locs hp hZ => ?_)
  obtain ⟨e1_19, e2_20, e3_21, rfl⟩ := hp
  have hZ : zz_Z g A s.heap [cw_o h0 6 [.ref q1, .ref q12, .null, .null, .null, .null, .int 0, .int 0], cw_k5 q1 0 0 e1_4 e2_5 e3_6 e4_7 e5_8 e6_9 e7_10 e8_11, cw_i g e1_4 60 (fun _ => 0), cw_i g e2_5 60 (fun _ => 0), cw_i g e3_6 60 (fun _ => 0), cw_i g e4_7 60 (fun _ => 0), cw_i g e5_8 60 (fun _ => 0), cw_l g e6_9 4000 (fun _ => 0), cw_z g e7_10 4000 (fun _ => 0), cw_l g e8_11 200 (fun _ => 0), cw_k2 q12 q1 e1_15 0 0, cw_i g e1_15 4 (fun _ => 0), cw_k1 q16 q1 0 e1_19 e2_20 e3_21, cw_i g e1_19 3600 (fun _ => 0), cw_i g e2_20 60 (fun _ => 0), cw_i g e3_21 60 (fun _ => 0)] H locs := hZ
  refine zz_putF hC hnm hZ 0 rfl zu_X7_28 rfl rfl (Nat.le_of_ble_eq_true rfl) dX7_init_42 (fun H locs hZ => ?_)
  have hZ : zz_Z g A s.heap [cw_o h0 6 [.ref q1, .ref q12, .ref q16, .null, .null, .null, .int 0, .int 0], cw_k5 q1 0 0 e1_4 e2_5 e3_6 e4_7 e5_8 e6_9 e7_10 e8_11, cw_i g e1_4 60 (fun _ => 0), cw_i g e2_5 60 (fun _ => 0), cw_i g e3_6 60 (fun _ => 0), cw_i g e4_7 60 (fun _ => 0), cw_i g e5_8 60 (fun _ => 0), cw_l g e6_9 4000 (fun _ => 0), cw_z g e7_10 4000 (fun _ => 0), cw_l g e8_11 200 (fun _ => 0), cw_k2 q12 q1 e1_15 0 0, cw_i g e1_15 4 (fun _ => 0), cw_k1 q16 q1 0 e1_19 e2_20 e3_21, cw_i g e1_19 3600 (fun _ => 0), cw_i g e2_20 60 (fun _ => 0), cw_i g e3_21 60 (fun _ => 0)] H locs := hZ
  refine lv_aload_n hx hb dX7_init_45 rfl (lv_at hl 0 rfl) ?_
  refine zz_new hC hZ zn_X7_32 (Nat.le_of_ble_eq_true rfl) (Nat.le_of_ble_eq_true rfl) dX7_init_46 (fun q22 H hZ => ?_)
  have hZ : zz_Z g A s.heap [cw_o h0 6 [.ref q1, .ref q12, .ref q16, .null, .null, .null, .int 0, .int 0], cw_k5 q1 0 0 e1_4 e2_5 e3_6 e4_7 e5_8 e6_9 e7_10 e8_11, cw_i g e1_4 60 (fun _ => 0), cw_i g e2_5 60 (fun _ => 0), cw_i g e3_6 60 (fun _ => 0), cw_i g e4_7 60 (fun _ => 0), cw_i g e5_8 60 (fun _ => 0), cw_l g e6_9 4000 (fun _ => 0), cw_z g e7_10 4000 (fun _ => 0), cw_l g e8_11 200 (fun _ => 0), cw_k2 q12 q1 e1_15 0 0, cw_i g e1_15 4 (fun _ => 0), cw_k1 q16 q1 0 e1_19 e2_20 e3_21, cw_i g e1_19 3600 (fun _ => 0), cw_i g e2_20 60 (fun _ => 0), cw_i g e3_21 60 (fun _ => 0), cw_o q22 0 [.null, .int 0, .null, .null, .null, .null, .null]] H locs := hZ
  refine lv_dup hx hb dX7_init_49 rfl ?_
  refine lv_aload_n hx hb dX7_init_50 rfl (lv_at hl 0 rfl) ?_
  refine zz_get hC hZ 0 rfl zf_X7_10 rfl dX7_init_51 ?_
  refine zz_vI (As := [.ref q1]) (wc := [cw_o q22 0 [.null, .int 0, .null, .null, .null, .null, .null]]) (wr := [cw_o h0 6 [.ref q1, .ref q12, .ref q16, .null, .null, .null, .int 0, .int 0], cw_k5 q1 0 0 e1_4 e2_5 e3_6 e4_7 e5_8 e6_9 e7_10 e8_11, cw_i g e1_4 60 (fun _ => 0), cw_i g e2_5 60 (fun _ => 0), cw_i g e3_6 60 (fun _ => 0), cw_i g e4_7 60 (fun _ => 0), cw_i g e5_8 60 (fun _ => 0), cw_l g e6_9 4000 (fun _ => 0), cw_z g e7_10 4000 (fun _ => 0), cw_l g e8_11 200 (fun _ => 0), cw_k2 q12 q1 e1_15 0 0, cw_i g e1_15 4 (fun _ => 0), cw_k1 q16 q1 0 e1_19 e2_20 e3_21, cw_i g e1_19 3600 (fun _ => 0), cw_i g e2_20 60 (fun _ => 0), cw_i g e3_21 60 (fun _ => 0)]) (rest := [.ref q22, .ref h0]) hC hZ hs hl zc_X7_34 (ci_Choices g q22 q1) [16] [0, 1, 2, 3, 4, 5, 6, 7, 8, 9, 10, 11, 12, 13, 14, 15] rfl rfl (by decide +kernel) rfl rfl (Nat.le_of_ble_eq_true rfl) ⟨⟨Nat.le_of_ble_eq_true rfl, Nat.le_of_ble_eq_true rfl⟩, Nat.le_of_ble_eq_true rfl, Nat.le_of_ble_eq_true rfl⟩ dX7_init_54 (fun u24 H locs hp hZ => ?_)
  obtain ⟨e1_25, e2_26, e3_27, e4_28, e5_29, rfl⟩ := hp
  have hZ : zz_Z g A s.heap [cw_o h0 6 [.ref q1, .ref q12, .ref q16, .null, .null, .null, .int 0, .int 0], cw_k5 q1 0 0 e1_4 e2_5 e3_6 e4_7 e5_8 e6_9 e7_10 e8_11, cw_i g e1_4 60 (fun _ => 0), cw_i g e2_5 60 (fun _ => 0), cw_i g e3_6 60 (fun _ => 0), cw_i g e4_7 60 (fun _ => 0), cw_i g e5_8 60 (fun _ => 0), cw_l g e6_9 4000 (fun _ => 0), cw_z g e7_10 4000 (fun _ => 0), cw_l g e8_11 200 (fun _ => 0), cw_k2 q12 q1 e1_15 0 0, cw_i g e1_15 4 (fun _ => 0), cw_k1 q16 q1 0 e1_19 e2_20 e3_21, cw_i g e1_19 3600 (fun _ => 0), cw_i g e2_20 60 (fun _ => 0), cw_i g e3_21 60 (fun _ => 0), cw_k0 q22 q1 0 e1_25 e2_26 e3_27 e4_28 e5_29, cw_i g e1_25 24 (fun _ => 0), cw_i g e2_26 24 (fun _ => 0), cw_i g e3_27 24 (fun _ => 0), cw_l g e4_28 384 (fun _ => 0), cw_i g e5_29 24 (fun _ => 0)] H locs := hZ
  refine zz_putF hC hnm hZ 0 rfl zu_X7_35 rfl rfl (Nat.le_of_ble_eq_true rfl) dX7_init_57 (fun H locs hZ => ?_)
  have hZ : zz_Z g A s.heap [cw_o h0 6 [.ref q1, .ref q12, .ref q16, .ref q22, .null, .null, .int 0, .int 0], cw_k5 q1 0 0 e1_4 e2_5 e3_6 e4_7 e5_8 e6_9 e7_10 e8_11, cw_i g e1_4 60 (fun _ => 0), cw_i g e2_5 60 (fun _ => 0), cw_i g e3_6 60 (fun _ => 0), cw_i g e4_7 60 (fun _ => 0), cw_i g e5_8 60 (fun _ => 0), cw_l g e6_9 4000 (fun _ => 0), cw_z g e7_10 4000 (fun _ => 0), cw_l g e8_11 200 (fun _ => 0), cw_k2 q12 q1 e1_15 0 0, cw_i g e1_15 4 (fun _ => 0), cw_k1 q16 q1 0 e1_19 e2_20 e3_21, cw_i g e1_19 3600 (fun _ => 0), cw_i g e2_20 60 (fun _ => 0), cw_i g e3_21 60 (fun _ => 0), cw_k0 q22 q1 0 e1_25 e2_26 e3_27 e4_28 e5_29, cw_i g e1_25 24 (fun _ => 0), cw_i g e2_26 24 (fun _ => 0), cw_i g e3_27 24 (fun _ => 0), cw_l g e4_28 384 (fun _ => 0), cw_i g e5_29 24 (fun _ => 0)] H locs := hZ
  refine lv_aload_n hx hb dX7_init_60 rfl (lv_at hl 0 rfl) ?_
  refine zz_new hC hZ zn_X7_39 (Nat.le_of_ble_eq_true rfl) (Nat.le_of_ble_eq_true rfl) dX7_init_61 (fun q30 H hZ => ?_)
  have hZ : zz_Z g A s.heap [cw_o h0 6 [.ref q1, .ref q12, .ref q16, .ref q22, .null, .null, .int 0, .int 0], cw_k5 q1 0 0 e1_4 e2_5 e3_6 e4_7 e5_8 e6_9 e7_10 e8_11, cw_i g e1_4 60 (fun _ => 0), cw_i g e2_5 60 (fun _ => 0), cw_i g e3_6 60 (fun _ => 0), cw_i g e4_7 60 (fun _ => 0), cw_i g e5_8 60 (fun _ => 0), cw_l g e6_9 4000 (fun _ => 0), cw_z g e7_10 4000 (fun _ => 0), cw_l g e8_11 200 (fun _ => 0), cw_k2 q12 q1 e1_15 0 0, cw_i g e1_15 4 (fun _ => 0), cw_k1 q16 q1 0 e1_19 e2_20 e3_21, cw_i g e1_19 3600 (fun _ => 0), cw_i g e2_20 60 (fun _ => 0), cw_i g e3_21 60 (fun _ => 0), cw_k0 q22 q1 0 e1_25 e2_26 e3_27 e4_28 e5_29, cw_i g e1_25 24 (fun _ => 0), cw_i g e2_26 24 (fun _ => 0), cw_i g e3_27 24 (fun _ => 0), cw_l g e4_28 384 (fun _ => 0), cw_i g e5_29 24 (fun _ => 0), cw_o q30 4 [.null, .int 0, .null, .null, .null, .null, .null, .null, .null]] H locs := hZ
  refine lv_dup hx hb dX7_init_64 rfl ?_
  refine lv_aload_n hx hb dX7_init_65 rfl (lv_at hl 0 rfl) ?_
  refine zz_get hC hZ 0 rfl zf_X7_10 rfl dX7_init_66 ?_
  refine zz_vI (As := [.ref q1]) (wc := [cw_o q30 4 [.null, .int 0, .null, .null, .null, .null, .null, .null, .null]]) (wr := [cw_o h0 6 [.ref q1, .ref q12, .ref q16, .ref q22, .null, .null, .int 0, .int 0], cw_k5 q1 0 0 e1_4 e2_5 e3_6 e4_7 e5_8 e6_9 e7_10 e8_11, cw_i g e1_4 60 (fun _ => 0), cw_i g e2_5 60 (fun _ => 0), cw_i g e3_6 60 (fun _ => 0), cw_i g e4_7 60 (fun _ => 0), cw_i g e5_8 60 (fun _ => 0), cw_l g e6_9 4000 (fun _ => 0), cw_z g e7_10 4000 (fun _ => 0), cw_l g e8_11 200 (fun _ => 0), cw_k2 q12 q1 e1_15 0 0, cw_i g e1_15 4 (fun _ => 0), cw_k1 q16 q1 0 e1_19 e2_20 e3_21, cw_i g e1_19 3600 (fun _ => 0), cw_i g e2_20 60 (fun _ => 0), cw_i g e3_21 60 (fun _ => 0), cw_k0 q22 q1 0 e1_25 e2_26 e3_27 e4_28 e5_29, cw_i g e1_25 24 (fun _ => 0), cw_i g e2_26 24 (fun _ => 0), cw_i g e3_27 24 (fun _ => 0), cw_l g e4_28 384 (fun _ => 0), cw_i g e5_29 24 (fun _ => 0)]) (rest := [.ref q30, .ref h0]) hC hZ hs hl zc_X7_41 (ci_Rules g q30 q1) [22] [0, 1, 2, 3, 4, 5, 6, 7, 8, 9, 10, 11, 12, 13, 14, 15, 16, 17, 18, 19, 20, 21] rfl rfl (by decide +kernel) rfl rfl (Nat.le_of_ble_eq_true rfl) ⟨⟨Nat.le_of_ble_eq_true rfl, Nat.le_of_ble_eq_true rfl⟩, Nat.le_of_ble_eq_true rfl, Nat.le_of_ble_eq_true rfl⟩ dX7_init_69 (fun u32 H locs hp hZ => ?_)
  obtain ⟨e1_33, e2_34, e3_35, e4_36, e5_37, e6_38, e7_39, rfl⟩ := hp
  have hZ : zz_Z g A s.heap [cw_o h0 6 [.ref q1, .ref q12, .ref q16, .ref q22, .null, .null, .int 0, .int 0], cw_k5 q1 0 0 e1_4 e2_5 e3_6 e4_7 e5_8 e6_9 e7_10 e8_11, cw_i g e1_4 60 (fun _ => 0), cw_i g e2_5 60 (fun _ => 0), cw_i g e3_6 60 (fun _ => 0), cw_i g e4_7 60 (fun _ => 0), cw_i g e5_8 60 (fun _ => 0), cw_l g e6_9 4000 (fun _ => 0), cw_z g e7_10 4000 (fun _ => 0), cw_l g e8_11 200 (fun _ => 0), cw_k2 q12 q1 e1_15 0 0, cw_i g e1_15 4 (fun _ => 0), cw_k1 q16 q1 0 e1_19 e2_20 e3_21, cw_i g e1_19 3600 (fun _ => 0), cw_i g e2_20 60 (fun _ => 0), cw_i g e3_21 60 (fun _ => 0), cw_k0 q22 q1 0 e1_25 e2_26 e3_27 e4_28 e5_29, cw_i g e1_25 24 (fun _ => 0), cw_i g e2_26 24 (fun _ => 0), cw_i g e3_27 24 (fun _ => 0), cw_l g e4_28 384 (fun _ => 0), cw_i g e5_29 24 (fun _ => 0), cw_k4 q30 q1 0 e1_33 e2_34 e3_35 e4_36 e5_37 e6_38 e7_39, cw_i g e1_33 12 (fun _ => 0), cw_i g e2_34 12 (fun _ => 0), cw_i g e3_35 12 (fun _ => 0), cw_l g e4_36 12 (fun _ => 0), cw_l g e5_37 12 (fun _ => 0), cw_l g e6_38 12 (fun _ => 0), cw_l g e7_39 12 (fun _ => 0)] H locs := hZ
  refine zz_putF hC hnm hZ 0 rfl zu_X7_42 rfl rfl (Nat.le_of_ble_eq_true rfl) dX7_init_72 (fun H locs hZ => ?_)
  have hZ : zz_Z g A s.heap [cw_o h0 6 [.ref q1, .ref q12, .ref q16, .ref q22, .ref q30, .null, .int 0, .int 0], cw_k5 q1 0 0 e1_4 e2_5 e3_6 e4_7 e5_8 e6_9 e7_10 e8_11, cw_i g e1_4 60 (fun _ => 0), cw_i g e2_5 60 (fun _ => 0), cw_i g e3_6 60 (fun _ => 0), cw_i g e4_7 60 (fun _ => 0), cw_i g e5_8 60 (fun _ => 0), cw_l g e6_9 4000 (fun _ => 0), cw_z g e7_10 4000 (fun _ => 0), cw_l g e8_11 200 (fun _ => 0), cw_k2 q12 q1 e1_15 0 0, cw_i g e1_15 4 (fun _ => 0), cw_k1 q16 q1 0 e1_19 e2_20 e3_21, cw_i g e1_19 3600 (fun _ => 0), cw_i g e2_20 60 (fun _ => 0), cw_i g e3_21 60 (fun _ => 0), cw_k0 q22 q1 0 e1_25 e2_26 e3_27 e4_28 e5_29, cw_i g e1_25 24 (fun _ => 0), cw_i g e2_26 24 (fun _ => 0), cw_i g e3_27 24 (fun _ => 0), cw_l g e4_28 384 (fun _ => 0), cw_i g e5_29 24 (fun _ => 0), cw_k4 q30 q1 0 e1_33 e2_34 e3_35 e4_36 e5_37 e6_38 e7_39, cw_i g e1_33 12 (fun _ => 0), cw_i g e2_34 12 (fun _ => 0), cw_i g e3_35 12 (fun _ => 0), cw_l g e4_36 12 (fun _ => 0), cw_l g e5_37 12 (fun _ => 0), cw_l g e6_38 12 (fun _ => 0), cw_l g e7_39 12 (fun _ => 0)] H locs := hZ
  refine lv_aload_n hx hb dX7_init_75 rfl (lv_at hl 0 rfl) ?_
  refine lv_bipush (v := 8) hx hb dX7_init_76 (by decide) ?_
  refine zz_newq (N' := 8) hC hZ zk_198 (by decide) (by decide) (Nat.le_of_ble_eq_true rfl) (Nat.le_of_ble_eq_true rfl) (Nat.le_of_ble_eq_true rfl) dX7_init_78 (fun q40 H hZ => ?_)
  have hZ : zz_Z g A s.heap [cw_o h0 6 [.ref q1, .ref q12, .ref q16, .ref q22, .ref q30, .null, .int 0, .int 0], cw_k5 q1 0 0 e1_4 e2_5 e3_6 e4_7 e5_8 e6_9 e7_10 e8_11, cw_i g e1_4 60 (fun _ => 0), cw_i g e2_5 60 (fun _ => 0), cw_i g e3_6 60 (fun _ => 0), cw_i g e4_7 60 (fun _ => 0), cw_i g e5_8 60 (fun _ => 0), cw_l g e6_9 4000 (fun _ => 0), cw_z g e7_10 4000 (fun _ => 0), cw_l g e8_11 200 (fun _ => 0), cw_k2 q12 q1 e1_15 0 0, cw_i g e1_15 4 (fun _ => 0), cw_k1 q16 q1 0 e1_19 e2_20 e3_21, cw_i g e1_19 3600 (fun _ => 0), cw_i g e2_20 60 (fun _ => 0), cw_i g e3_21 60 (fun _ => 0), cw_k0 q22 q1 0 e1_25 e2_26 e3_27 e4_28 e5_29, cw_i g e1_25 24 (fun _ => 0), cw_i g e2_26 24 (fun _ => 0), cw_i g e3_27 24 (fun _ => 0), cw_l g e4_28 384 (fun _ => 0), cw_i g e5_29 24 (fun _ => 0), cw_k4 q30 q1 0 e1_33 e2_34 e3_35 e4_36 e5_37 e6_38 e7_39, cw_i g e1_33 12 (fun _ => 0), cw_i g e2_34 12 (fun _ => 0), cw_i g e3_35 12 (fun _ => 0), cw_l g e4_36 12 (fun _ => 0), cw_l g e5_37 12 (fun _ => 0), cw_l g e6_38 12 (fun _ => 0), cw_l g e7_39 12 (fun _ => 0), cw_q g q40 8 (fun _ => none)] H locs := hZ
  refine zz_putF hC hnm hZ 0 rfl zu_X7_48 rfl rfl (Nat.le_of_ble_eq_true rfl) dX7_init_81 (fun H locs hZ => ?_)
  have hZ : zz_Z g A s.heap [cw_k6 h0 q1 q12 q16 q22 q30 q40 0 0, cw_k5 q1 0 0 e1_4 e2_5 e3_6 e4_7 e5_8 e6_9 e7_10 e8_11, cw_i g e1_4 60 (fun _ => 0), cw_i g e2_5 60 (fun _ => 0), cw_i g e3_6 60 (fun _ => 0), cw_i g e4_7 60 (fun _ => 0), cw_i g e5_8 60 (fun _ => 0), cw_l g e6_9 4000 (fun _ => 0), cw_z g e7_10 4000 (fun _ => 0), cw_l g e8_11 200 (fun _ => 0), cw_k2 q12 q1 e1_15 0 0, cw_i g e1_15 4 (fun _ => 0), cw_k1 q16 q1 0 e1_19 e2_20 e3_21, cw_i g e1_19 3600 (fun _ => 0), cw_i g e2_20 60 (fun _ => 0), cw_i g e3_21 60 (fun _ => 0), cw_k0 q22 q1 0 e1_25 e2_26 e3_27 e4_28 e5_29, cw_i g e1_25 24 (fun _ => 0), cw_i g e2_26 24 (fun _ => 0), cw_i g e3_27 24 (fun _ => 0), cw_l g e4_28 384 (fun _ => 0), cw_i g e5_29 24 (fun _ => 0), cw_k4 q30 q1 0 e1_33 e2_34 e3_35 e4_36 e5_37 e6_38 e7_39, cw_i g e1_33 12 (fun _ => 0), cw_i g e2_34 12 (fun _ => 0), cw_i g e3_35 12 (fun _ => 0), cw_l g e4_36 12 (fun _ => 0), cw_l g e5_37 12 (fun _ => 0), cw_l g e6_38 12 (fun _ => 0), cw_l g e7_39 12 (fun _ => 0), cw_q g q40 8 (fun _ => none)] H locs := hZ
  refine lv_aload_n hx hb dX7_init_84 rfl (lv_at hl 0 rfl) ?_
  refine lv_iconst (v := 0) hx hb dX7_init_85 (by decide) ?_
  refine zz_put hC hZ 0 rfl zu_X7_52 (Nat.le_of_ble_eq_true rfl) dX7_init_86 (fun H locs hZ => ?_)
  have hZ : zz_Z g A s.heap [cw_k6 h0 q1 q12 q16 q22 q30 q40 0 0, cw_k5 q1 0 0 e1_4 e2_5 e3_6 e4_7 e5_8 e6_9 e7_10 e8_11, cw_i g e1_4 60 (fun _ => 0), cw_i g e2_5 60 (fun _ => 0), cw_i g e3_6 60 (fun _ => 0), cw_i g e4_7 60 (fun _ => 0), cw_i g e5_8 60 (fun _ => 0), cw_l g e6_9 4000 (fun _ => 0), cw_z g e7_10 4000 (fun _ => 0), cw_l g e8_11 200 (fun _ => 0), cw_k2 q12 q1 e1_15 0 0, cw_i g e1_15 4 (fun _ => 0), cw_k1 q16 q1 0 e1_19 e2_20 e3_21, cw_i g e1_19 3600 (fun _ => 0), cw_i g e2_20 60 (fun _ => 0), cw_i g e3_21 60 (fun _ => 0), cw_k0 q22 q1 0 e1_25 e2_26 e3_27 e4_28 e5_29, cw_i g e1_25 24 (fun _ => 0), cw_i g e2_26 24 (fun _ => 0), cw_i g e3_27 24 (fun _ => 0), cw_l g e4_28 384 (fun _ => 0), cw_i g e5_29 24 (fun _ => 0), cw_k4 q30 q1 0 e1_33 e2_34 e3_35 e4_36 e5_37 e6_38 e7_39, cw_i g e1_33 12 (fun _ => 0), cw_i g e2_34 12 (fun _ => 0), cw_i g e3_35 12 (fun _ => 0), cw_l g e4_36 12 (fun _ => 0), cw_l g e5_37 12 (fun _ => 0), cw_l g e6_38 12 (fun _ => 0), cw_l g e7_39 12 (fun _ => 0), cw_q g q40 8 (fun _ => none)] H locs := hZ
  refine lv_aload_n hx hb dX7_init_89 rfl (lv_at hl 0 rfl) ?_
  refine lv_iconst (v := 0) hx hb dX7_init_90 (by decide) ?_
  refine zz_put hC hZ 0 rfl zu_X7_56 (Nat.le_of_ble_eq_true rfl) dX7_init_91 (fun H locs hZ => ?_)
  have hZ : zz_Z g A s.heap [cw_k6 h0 q1 q12 q16 q22 q30 q40 0 0, cw_k5 q1 0 0 e1_4 e2_5 e3_6 e4_7 e5_8 e6_9 e7_10 e8_11, cw_i g e1_4 60 (fun _ => 0), cw_i g e2_5 60 (fun _ => 0), cw_i g e3_6 60 (fun _ => 0), cw_i g e4_7 60 (fun _ => 0), cw_i g e5_8 60 (fun _ => 0), cw_l g e6_9 4000 (fun _ => 0), cw_z g e7_10 4000 (fun _ => 0), cw_l g e8_11 200 (fun _ => 0), cw_k2 q12 q1 e1_15 0 0, cw_i g e1_15 4 (fun _ => 0), cw_k1 q16 q1 0 e1_19 e2_20 e3_21, cw_i g e1_19 3600 (fun _ => 0), cw_i g e2_20 60 (fun _ => 0), cw_i g e3_21 60 (fun _ => 0), cw_k0 q22 q1 0 e1_25 e2_26 e3_27 e4_28 e5_29, cw_i g e1_25 24 (fun _ => 0), cw_i g e2_26 24 (fun _ => 0), cw_i g e3_27 24 (fun _ => 0), cw_l g e4_28 384 (fun _ => 0), cw_i g e5_29 24 (fun _ => 0), cw_k4 q30 q1 0 e1_33 e2_34 e3_35 e4_36 e5_37 e6_38 e7_39, cw_i g e1_33 12 (fun _ => 0), cw_i g e2_34 12 (fun _ => 0), cw_i g e3_35 12 (fun _ => 0), cw_l g e4_36 12 (fun _ => 0), cw_l g e5_37 12 (fun _ => 0), cw_l g e6_38 12 (fun _ => 0), cw_l g e7_39 12 (fun _ => 0), cw_q g q40 8 (fun _ => none)] H locs := hZ
  exact zz_vret hC hZ (⟨q1, e1_4, e2_5, e3_6, e4_7, e5_8, e6_9, e7_10, e8_11, q12, e1_15, q16, e1_19, e2_20, e3_21, q22, e1_25, e2_26, e3_27, e4_28, e5_29, q30, e1_33, e2_34, e3_35, e4_36, e5_37, e6_38, e7_39, q40, rfl⟩) (Nat.le_of_ble_eq_true rfl) (Nat.le_of_ble_eq_true rfl) dX7_init_94
