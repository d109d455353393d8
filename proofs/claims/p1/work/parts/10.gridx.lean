theorem dX3_makeGrid_0 : decode cX3_makeGrid 0 = .ok (.aload_n 0, 1) := by decide +kernel
theorem dX3_makeGrid_1 : decode cX3_makeGrid 1 = .ok (.iload_n 1, 1) := by decide +kernel
theorem dX3_makeGrid_2 : decode cX3_makeGrid 2 = .ok (.iload_n 2, 1) := by decide +kernel
theorem dX3_makeGrid_3 : decode cX3_makeGrid 3 = .ok (.iconst 0, 1) := by decide +kernel
theorem dX3_makeGrid_4 : decode cX3_makeGrid 4 = .ok (.invokevirtual 25, 3) := by decide +kernel
theorem dX3_makeGrid_7 : decode cX3_makeGrid 7 = .ok (.ireturn, 1) := by decide +kernel
abbrev rm_co_makeGrid1 : Room := { frames := 2, cells := 0, slots := 0, locals := 51 }
abbrev po_co_makeGrid1 (g : zz_G) (mk : Nat) (st : Nat) (ml : Nat) (kd : Nat) (dp : Nat) (cl : Nat) (sa : Nat) (ln : Nat) (bt : Nat) (pn : Nat) (bf : Nat) (lf : Nat → Int32) (ll : Nat → Nat) (k : Int32) (h_l : ∀ j, j < 1 → lf j = nI (ll j) ∧ ll j ≤ 200) : Int32 → va_W → Prop := fun (r : Int32) (u : va_W) => r = (nI 0)
set_option maxHeartbeats 4000000 in
set_option maxRecDepth 100000 in
theorem co_makeGrid1 (g : zz_G) (mk : Nat) (st : Nat) (ml : Nat) (kd : Nat) (dp : Nat) (cl : Nat) (sa : Nat) (ln : Nat) (bt : Nat) (pn : Nat) (bf : Nat) (lf : Nat → Int32) (ll : Nat → Nat) (k : Int32) (h_l : ∀ j, j < 1 → lf j = nI (ll j) ∧ ll j ≤ 200) : zz_I g yX3_makeGrid (.code yX3_makeGrid cX3_makeGrid 3 (some .int)) rm_co_makeGrid1 [.ref mk, .int k, .int 1] [(mk, .inr (2, [.ref st, .ref ml, .int 0, .int 0])), (ml, .inl (g.2.1, 4, .inl lf)), (st, .inr (5, [.int 0, .int 0, .ref kd, .ref dp, .ref cl, .ref sa, .ref ln, .ref bt, .ref pn, .ref bf])), (kd, .inl (g.2.1, 60, .inl (fun _ => 0))), (dp, .inl (g.2.1, 60, .inl (fun _ => 0))), (cl, .inl (g.2.1, 60, .inl (fun _ => 0))), (sa, .inl (g.2.1, 60, .inl (fun _ => 0))), (ln, .inl (g.2.1, 60, .inl (fun _ => 0))), (bt, .inl (g.2.2.1, 4000, .inr (.inl (fun _ => 0))))] (po_co_makeGrid1 g mk st ml kd dp cl sa ln bt pn bf lf ll k h_l) := by
  refine zz_I.intro (own := RX3) (cc := cX3_makeGrid) (nL := 3) (by decide) rfl (Nat.le_of_ble_eq_true rfl) ?_
  intro p l e s m args below meth c A H locs ls hC hnm hZ hl
  obtain ⟨hx, hb, hml, hown, hts, hr, hlocks, hK⟩ := id hC
  have hl : lv_has ls 3 [(0, .ref mk), (1, .int k), (2, .int 1)] := hl
  have hZ : zz_Z g A s.heap [(mk, .inr (2, [.ref st, .ref ml, .int 0, .int 0])), (ml, .inl (g.2.1, 4, .inl lf)), (st, .inr (5, [.int 0, .int 0, .ref kd, .ref dp, .ref cl, .ref sa, .ref ln, .ref bt, .ref pn, .ref bf])), (kd, .inl (g.2.1, 60, .inl (fun _ => 0))), (dp, .inl (g.2.1, 60, .inl (fun _ => 0))), (cl, .inl (g.2.1, 60, .inl (fun _ => 0))), (sa, .inl (g.2.1, 60, .inl (fun _ => 0))), (ln, .inl (g.2.1, 60, .inl (fun _ => 0))), (bt, .inl (g.2.2.1, 4000, .inr (.inl (fun _ => 0))))] H locs := hZ
  refine lv_aload_n hx hb dX3_makeGrid_0 rfl (lv_at hl 0 rfl) ?_
  refine lv_iload_n hx hb dX3_makeGrid_1 rfl (lv_at hl 1 rfl) ?_
  refine lv_iload_n hx hb dX3_makeGrid_2 rfl (lv_at hl 2 rfl) ?_
  refine lv_iconst (v := 0) hx hb dX3_makeGrid_3 (by decide) ?_
  refine zz_iV (As := [.int k, .int 1, .int 0]) (wc := [(mk, .inr (2, [.ref st, .ref ml, .int 0, .int 0])), (ml, .inl (g.2.1, 4, .inl lf)), (st, .inr (5, [.int 0, .int 0, .ref kd, .ref dp, .ref cl, .ref sa, .ref ln, .ref bt, .ref pn, .ref bf])), (kd, .inl (g.2.1, 60, .inl (fun _ => 0))), (dp, .inl (g.2.1, 60, .inl (fun _ => 0))), (cl, .inl (g.2.1, 60, .inl (fun _ => 0))), (sa, .inl (g.2.1, 60, .inl (fun _ => 0))), (ln, .inl (g.2.1, 60, .inl (fun _ => 0))), (bt, .inl (g.2.2.1, 4000, .inr (.inl (fun _ => 0))))]) (wr := []) (rest := []) hC hZ hl zc_X3_25 (co_gridAt1 g mk st ml kd dp cl sa ln bt pn bf 0 0 lf ll 0 0 0 1 (fun _ => 0) (fun _ => 0) (fun _ => 0) (fun _ => 0) (fun _ => 0) (fun _ => 0) k (by omega) (by omega) (by omega) (by omega) (h_l)) [0, 1, 2, 3, 4, 5, 6, 7, 8] [] rfl rfl (by decide) (ci := 2) (q0 := 0) rfl rfl rfl rfl (Nat.le_of_ble_eq_true rfl) ⟨⟨Nat.le_of_ble_eq_true rfl, Nat.le_of_ble_eq_true rfl⟩, Nat.le_of_ble_eq_true rfl, Nat.le_of_ble_eq_true rfl⟩ dX3_makeGrid_4 (fun r1 u2 H locs hp hZ => ?_)
  obtain ⟨na2_3, nu2_4, kdf2_5, dpf2_6, clf2_7, saf2_8, lnf2_9, btf2_10, f11, f12, f13, rfl⟩ := hp
  have hZ : zz_Z g A s.heap [(mk, .inr (2, [.ref st, .ref ml, .int 0, .int 0])), (ml, .inl (g.2.1, 4, .inl lf)), (st, .inr (5, [.int (nI na2_3), .int (nI nu2_4), .ref kd, .ref dp, .ref cl, .ref sa, .ref ln, .ref bt, .ref pn, .ref bf])), (kd, .inl (g.2.1, 60, .inl kdf2_5)), (dp, .inl (g.2.1, 60, .inl dpf2_6)), (cl, .inl (g.2.1, 60, .inl clf2_7)), (sa, .inl (g.2.1, 60, .inl saf2_8)), (ln, .inl (g.2.1, 60, .inl lnf2_9)), (bt, .inl (g.2.2.1, 4000, .inr (.inl btf2_10)))] H locs := hZ
  exact zz_iret hC hZ (f13 (by omega) (by have := (h_l 0 (by omega)).2; omega)) (Nat.le_of_ble_eq_true rfl) (Nat.le_of_ble_eq_true rfl) dX3_makeGrid_7
abbrev rm_co_makeGrid2 : Room := { frames := 3, cells := 0, slots := 0, locals := 76 }
abbrev po_co_makeGrid2 (g : zz_G) (mk : Nat) (st : Nat) (ml : Nat) (kd : Nat) (dp : Nat) (cl : Nat) (sa : Nat) (ln : Nat) (bt : Nat) (pn : Nat) (bf : Nat) (lf : Nat → Int32) (ll : Nat → Nat) (k : Int32) (h_l : ∀ j, j < 2 → lf j = nI (ll j) ∧ ll j ≤ 200) : Int32 → va_W → Prop := fun (r : Int32) (u : va_W) => r = (nI 0)
set_option maxHeartbeats 4000000 in
set_option maxRecDepth 100000 in
theorem co_makeGrid2 (g : zz_G) (mk : Nat) (st : Nat) (ml : Nat) (kd : Nat) (dp : Nat) (cl : Nat) (sa : Nat) (ln : Nat) (bt : Nat) (pn : Nat) (bf : Nat) (lf : Nat → Int32) (ll : Nat → Nat) (k : Int32) (h_l : ∀ j, j < 2 → lf j = nI (ll j) ∧ ll j ≤ 200) : zz_I g yX3_makeGrid (.code yX3_makeGrid cX3_makeGrid 3 (some .int)) rm_co_makeGrid2 [.ref mk, .int k, .int 2] [(mk, .inr (2, [.ref st, .ref ml, .int 0, .int 0])), (ml, .inl (g.2.1, 4, .inl lf)), (st, .inr (5, [.int 0, .int 0, .ref kd, .ref dp, .ref cl, .ref sa, .ref ln, .ref bt, .ref pn, .ref bf])), (kd, .inl (g.2.1, 60, .inl (fun _ => 0))), (dp, .inl (g.2.1, 60, .inl (fun _ => 0))), (cl, .inl (g.2.1, 60, .inl (fun _ => 0))), (sa, .inl (g.2.1, 60, .inl (fun _ => 0))), (ln, .inl (g.2.1, 60, .inl (fun _ => 0))), (bt, .inl (g.2.2.1, 4000, .inr (.inl (fun _ => 0))))] (po_co_makeGrid2 g mk st ml kd dp cl sa ln bt pn bf lf ll k h_l) := by
  refine zz_I.intro (own := RX3) (cc := cX3_makeGrid) (nL := 3) (by decide) rfl (Nat.le_of_ble_eq_true rfl) ?_
  intro p l e s m args below meth c A H locs ls hC hnm hZ hl
  obtain ⟨hx, hb, hml, hown, hts, hr, hlocks, hK⟩ := id hC
  have hl : lv_has ls 3 [(0, .ref mk), (1, .int k), (2, .int 2)] := hl
  have hZ : zz_Z g A s.heap [(mk, .inr (2, [.ref st, .ref ml, .int 0, .int 0])), (ml, .inl (g.2.1, 4, .inl lf)), (st, .inr (5, [.int 0, .int 0, .ref kd, .ref dp, .ref cl, .ref sa, .ref ln, .ref bt, .ref pn, .ref bf])), (kd, .inl (g.2.1, 60, .inl (fun _ => 0))), (dp, .inl (g.2.1, 60, .inl (fun _ => 0))), (cl, .inl (g.2.1, 60, .inl (fun _ => 0))), (sa, .inl (g.2.1, 60, .inl (fun _ => 0))), (ln, .inl (g.2.1, 60, .inl (fun _ => 0))), (bt, .inl (g.2.2.1, 4000, .inr (.inl (fun _ => 0))))] H locs := hZ
  refine lv_aload_n hx hb dX3_makeGrid_0 rfl (lv_at hl 0 rfl) ?_
  refine lv_iload_n hx hb dX3_makeGrid_1 rfl (lv_at hl 1 rfl) ?_
  refine lv_iload_n hx hb dX3_makeGrid_2 rfl (lv_at hl 2 rfl) ?_
  refine lv_iconst (v := 0) hx hb dX3_makeGrid_3 (by decide) ?_
  refine zz_iV (As := [.int k, .int 2, .int 0]) (wc := [(mk, .inr (2, [.ref st, .ref ml, .int 0, .int 0])), (ml, .inl (g.2.1, 4, .inl lf)), (st, .inr (5, [.int 0, .int 0, .ref kd, .ref dp, .ref cl, .ref sa, .ref ln, .ref bt, .ref pn, .ref bf])), (kd, .inl (g.2.1, 60, .inl (fun _ => 0))), (dp, .inl (g.2.1, 60, .inl (fun _ => 0))), (cl, .inl (g.2.1, 60, .inl (fun _ => 0))), (sa, .inl (g.2.1, 60, .inl (fun _ => 0))), (ln, .inl (g.2.1, 60, .inl (fun _ => 0))), (bt, .inl (g.2.2.1, 4000, .inr (.inl (fun _ => 0))))]) (wr := []) (rest := []) hC hZ hl zc_X3_25 (co_gridAt2 g mk st ml kd dp cl sa ln bt pn bf 0 0 lf ll 0 0 0 2 (fun _ => 0) (fun _ => 0) (fun _ => 0) (fun _ => 0) (fun _ => 0) (fun _ => 0) k (by omega) (by omega) (by omega) (by omega) (h_l)) [0, 1, 2, 3, 4, 5, 6, 7, 8] [] rfl rfl (by decide) (ci := 2) (q0 := 0) rfl rfl rfl rfl (Nat.le_of_ble_eq_true rfl) ⟨⟨Nat.le_of_ble_eq_true rfl, Nat.le_of_ble_eq_true rfl⟩, Nat.le_of_ble_eq_true rfl, Nat.le_of_ble_eq_true rfl⟩ dX3_makeGrid_4 (fun r1 u2 H locs hp hZ => ?_)
  obtain ⟨na2_3, nu2_4, kdf2_5, dpf2_6, clf2_7, saf2_8, lnf2_9, btf2_10, f11, f12, f13, rfl⟩ := hp
  have hZ : zz_Z g A s.heap [(mk, .inr (2, [.ref st, .ref ml, .int 0, .int 0])), (ml, .inl (g.2.1, 4, .inl lf)), (st, .inr (5, [.int (nI na2_3), .int (nI nu2_4), .ref kd, .ref dp, .ref cl, .ref sa, .ref ln, .ref bt, .ref pn, .ref bf])), (kd, .inl (g.2.1, 60, .inl kdf2_5)), (dp, .inl (g.2.1, 60, .inl dpf2_6)), (cl, .inl (g.2.1, 60, .inl clf2_7)), (sa, .inl (g.2.1, 60, .inl saf2_8)), (ln, .inl (g.2.1, 60, .inl lnf2_9)), (bt, .inl (g.2.2.1, 4000, .inr (.inl btf2_10)))] H locs := hZ
  exact zz_iret hC hZ (f13 (by omega) (by have := (h_l 0 (by omega)).2; omega)) (Nat.le_of_ble_eq_true rfl) (Nat.le_of_ble_eq_true rfl) dX3_makeGrid_7
abbrev rm_co_makeGrid3 : Room := { frames := 4, cells := 0, slots := 0, locals := 101 }
abbrev po_co_makeGrid3 (g : zz_G) (mk : Nat) (st : Nat) (ml : Nat) (kd : Nat) (dp : Nat) (cl : Nat) (sa : Nat) (ln : Nat) (bt : Nat) (pn : Nat) (bf : Nat) (lf : Nat → Int32) (ll : Nat → Nat) (k : Int32) (h_l : ∀ j, j < 3 → lf j = nI (ll j) ∧ ll j ≤ 200) : Int32 → va_W → Prop := fun (r : Int32) (u : va_W) => r = (nI 0)
set_option maxHeartbeats 4000000 in
set_option maxRecDepth 100000 in
theorem co_makeGrid3 (g : zz_G) (mk : Nat) (st : Nat) (ml : Nat) (kd : Nat) (dp : Nat) (cl : Nat) (sa : Nat) (ln : Nat) (bt : Nat) (pn : Nat) (bf : Nat) (lf : Nat → Int32) (ll : Nat → Nat) (k : Int32) (h_l : ∀ j, j < 3 → lf j = nI (ll j) ∧ ll j ≤ 200) : zz_I g yX3_makeGrid (.code yX3_makeGrid cX3_makeGrid 3 (some .int)) rm_co_makeGrid3 [.ref mk, .int k, .int 3] [(mk, .inr (2, [.ref st, .ref ml, .int 0, .int 0])), (ml, .inl (g.2.1, 4, .inl lf)), (st, .inr (5, [.int 0, .int 0, .ref kd, .ref dp, .ref cl, .ref sa, .ref ln, .ref bt, .ref pn, .ref bf])), (kd, .inl (g.2.1, 60, .inl (fun _ => 0))), (dp, .inl (g.2.1, 60, .inl (fun _ => 0))), (cl, .inl (g.2.1, 60, .inl (fun _ => 0))), (sa, .inl (g.2.1, 60, .inl (fun _ => 0))), (ln, .inl (g.2.1, 60, .inl (fun _ => 0))), (bt, .inl (g.2.2.1, 4000, .inr (.inl (fun _ => 0))))] (po_co_makeGrid3 g mk st ml kd dp cl sa ln bt pn bf lf ll k h_l) := by
  refine zz_I.intro (own := RX3) (cc := cX3_makeGrid) (nL := 3) (by decide) rfl (Nat.le_of_ble_eq_true rfl) ?_
  intro p l e s m args below meth c A H locs ls hC hnm hZ hl
  obtain ⟨hx, hb, hml, hown, hts, hr, hlocks, hK⟩ := id hC
  have hl : lv_has ls 3 [(0, .ref mk), (1, .int k), (2, .int 3)] := hl
  have hZ : zz_Z g A s.heap [(mk, .inr (2, [.ref st, .ref ml, .int 0, .int 0])), (ml, .inl (g.2.1, 4, .inl lf)), (st, .inr (5, [.int 0, .int 0, .ref kd, .ref dp, .ref cl, .ref sa, .ref ln, .ref bt, .ref pn, .ref bf])), (kd, .inl (g.2.1, 60, .inl (fun _ => 0))), (dp, .inl (g.2.1, 60, .inl (fun _ => 0))), (cl, .inl (g.2.1, 60, .inl (fun _ => 0))), (sa, .inl (g.2.1, 60, .inl (fun _ => 0))), (ln, .inl (g.2.1, 60, .inl (fun _ => 0))), (bt, .inl (g.2.2.1, 4000, .inr (.inl (fun _ => 0))))] H locs := hZ
  refine lv_aload_n hx hb dX3_makeGrid_0 rfl (lv_at hl 0 rfl) ?_
  refine lv_iload_n hx hb dX3_makeGrid_1 rfl (lv_at hl 1 rfl) ?_
  refine lv_iload_n hx hb dX3_makeGrid_2 rfl (lv_at hl 2 rfl) ?_
  refine lv_iconst (v := 0) hx hb dX3_makeGrid_3 (by decide) ?_
  refine zz_iV (As := [.int k, .int 3, .int 0]) (wc := [(mk, .inr (2, [.ref st, .ref ml, .int 0, .int 0])), (ml, .inl (g.2.1, 4, .inl lf)), (st, .inr (5, [.int 0, .int 0, .ref kd, .ref dp, .ref cl, .ref sa, .ref ln, .ref bt, .ref pn, .ref bf])), (kd, .inl (g.2.1, 60, .inl (fun _ => 0))), (dp, .inl (g.2.1, 60, .inl (fun _ => 0))), (cl, .inl (g.2.1, 60, .inl (fun _ => 0))), (sa, .inl (g.2.1, 60, .inl (fun _ => 0))), (ln, .inl (g.2.1, 60, .inl (fun _ => 0))), (bt, .inl (g.2.2.1, 4000, .inr (.inl (fun _ => 0))))]) (wr := []) (rest := []) hC hZ hl zc_X3_25 (co_gridAt3 g mk st ml kd dp cl sa ln bt pn bf 0 0 lf ll 0 0 0 3 (fun _ => 0) (fun _ => 0) (fun _ => 0) (fun _ => 0) (fun _ => 0) (fun _ => 0) k (by omega) (by omega) (by omega) (by omega) (h_l)) [0, 1, 2, 3, 4, 5, 6, 7, 8] [] rfl rfl (by decide) (ci := 2) (q0 := 0) rfl rfl rfl rfl (Nat.le_of_ble_eq_true rfl) ⟨⟨Nat.le_of_ble_eq_true rfl, Nat.le_of_ble_eq_true rfl⟩, Nat.le_of_ble_eq_true rfl, Nat.le_of_ble_eq_true rfl⟩ dX3_makeGrid_4 (fun r1 u2 H locs hp hZ => ?_)
  obtain ⟨na2_3, nu2_4, kdf2_5, dpf2_6, clf2_7, saf2_8, lnf2_9, btf2_10, f11, f12, f13, rfl⟩ := hp
  have hZ : zz_Z g A s.heap [(mk, .inr (2, [.ref st, .ref ml, .int 0, .int 0])), (ml, .inl (g.2.1, 4, .inl lf)), (st, .inr (5, [.int (nI na2_3), .int (nI nu2_4), .ref kd, .ref dp, .ref cl, .ref sa, .ref ln, .ref bt, .ref pn, .ref bf])), (kd, .inl (g.2.1, 60, .inl kdf2_5)), (dp, .inl (g.2.1, 60, .inl dpf2_6)), (cl, .inl (g.2.1, 60, .inl clf2_7)), (sa, .inl (g.2.1, 60, .inl saf2_8)), (ln, .inl (g.2.1, 60, .inl lnf2_9)), (bt, .inl (g.2.2.1, 4000, .inr (.inl btf2_10)))] H locs := hZ
  exact zz_iret hC hZ (f13 (by omega) (by have := (h_l 0 (by omega)).2; omega)) (Nat.le_of_ble_eq_true rfl) (Nat.le_of_ble_eq_true rfl) dX3_makeGrid_7
abbrev rm_co_makeGrid4 : Room := { frames := 5, cells := 0, slots := 0, locals := 126 }
abbrev po_co_makeGrid4 (g : zz_G) (mk : Nat) (st : Nat) (ml : Nat) (kd : Nat) (dp : Nat) (cl : Nat) (sa : Nat) (ln : Nat) (bt : Nat) (pn : Nat) (bf : Nat) (lf : Nat → Int32) (ll : Nat → Nat) (k : Int32) (h_l : ∀ j, j < 4 → lf j = nI (ll j) ∧ ll j ≤ 200) : Int32 → va_W → Prop := fun (r : Int32) (u : va_W) => r = (nI 0)
set_option maxHeartbeats 4000000 in
set_option maxRecDepth 100000 in
theorem co_makeGrid4 (g : zz_G) (mk : Nat) (st : Nat) (ml : Nat) (kd : Nat) (dp : Nat) (cl : Nat) (sa : Nat) (ln : Nat) (bt : Nat) (pn : Nat) (bf : Nat) (lf : Nat → Int32) (ll : Nat → Nat) (k : Int32) (h_l : ∀ j, j < 4 → lf j = nI (ll j) ∧ ll j ≤ 200) : zz_I g yX3_makeGrid (.code yX3_makeGrid cX3_makeGrid 3 (some .int)) rm_co_makeGrid4 [.ref mk, .int k, .int 4] [(mk, .inr (2, [.ref st, .ref ml, .int 0, .int 0])), (ml, .inl (g.2.1, 4, .inl lf)), (st, .inr (5, [.int 0, .int 0, .ref kd, .ref dp, .ref cl, .ref sa, .ref ln, .ref bt, .ref pn, .ref bf])), (kd, .inl (g.2.1, 60, .inl (fun _ => 0))), (dp, .inl (g.2.1, 60, .inl (fun _ => 0))), (cl, .inl (g.2.1, 60, .inl (fun _ => 0))), (sa, .inl (g.2.1, 60, .inl (fun _ => 0))), (ln, .inl (g.2.1, 60, .inl (fun _ => 0))), (bt, .inl (g.2.2.1, 4000, .inr (.inl (fun _ => 0))))] (po_co_makeGrid4 g mk st ml kd dp cl sa ln bt pn bf lf ll k h_l) := by
  refine zz_I.intro (own := RX3) (cc := cX3_makeGrid) (nL := 3) (by decide) rfl (Nat.le_of_ble_eq_true rfl) ?_
  intro p l e s m args below meth c A H locs ls hC hnm hZ hl
  obtain ⟨hx, hb, hml, hown, hts, hr, hlocks, hK⟩ := id hC
  have hl : lv_has ls 3 [(0, .ref mk), (1, .int k), (2, .int 4)] := hl
  have hZ : zz_Z g A s.heap [(mk, .inr (2, [.ref st, .ref ml, .int 0, .int 0])), (ml, .inl (g.2.1, 4, .inl lf)), (st, .inr (5, [.int 0, .int 0, .ref kd, .ref dp, .ref cl, .ref sa, .ref ln, .ref bt, .ref pn, .ref bf])), (kd, .inl (g.2.1, 60, .inl (fun _ => 0))), (dp, .inl (g.2.1, 60, .inl (fun _ => 0))), (cl, .inl (g.2.1, 60, .inl (fun _ => 0))), (sa, .inl (g.2.1, 60, .inl (fun _ => 0))), (ln, .inl (g.2.1, 60, .inl (fun _ => 0))), (bt, .inl (g.2.2.1, 4000, .inr (.inl (fun _ => 0))))] H locs := hZ
  refine lv_aload_n hx hb dX3_makeGrid_0 rfl (lv_at hl 0 rfl) ?_
  refine lv_iload_n hx hb dX3_makeGrid_1 rfl (lv_at hl 1 rfl) ?_
  refine lv_iload_n hx hb dX3_makeGrid_2 rfl (lv_at hl 2 rfl) ?_
  refine lv_iconst (v := 0) hx hb dX3_makeGrid_3 (by decide) ?_
  refine zz_iV (As := [.int k, .int 4, .int 0]) (wc := [(mk, .inr (2, [.ref st, .ref ml, .int 0, .int 0])), (ml, .inl (g.2.1, 4, .inl lf)), (st, .inr (5, [.int 0, .int 0, .ref kd, .ref dp, .ref cl, .ref sa, .ref ln, .ref bt, .ref pn, .ref bf])), (kd, .inl (g.2.1, 60, .inl (fun _ => 0))), (dp, .inl (g.2.1, 60, .inl (fun _ => 0))), (cl, .inl (g.2.1, 60, .inl (fun _ => 0))), (sa, .inl (g.2.1, 60, .inl (fun _ => 0))), (ln, .inl (g.2.1, 60, .inl (fun _ => 0))), (bt, .inl (g.2.2.1, 4000, .inr (.inl (fun _ => 0))))]) (wr := []) (rest := []) hC hZ hl zc_X3_25 (co_gridAt4 g mk st ml kd dp cl sa ln bt pn bf 0 0 lf ll 0 0 0 4 (fun _ => 0) (fun _ => 0) (fun _ => 0) (fun _ => 0) (fun _ => 0) (fun _ => 0) k (by omega) (by omega) (by omega) (by omega) (h_l)) [0, 1, 2, 3, 4, 5, 6, 7, 8] [] rfl rfl (by decide) (ci := 2) (q0 := 0) rfl rfl rfl rfl (Nat.le_of_ble_eq_true rfl) ⟨⟨Nat.le_of_ble_eq_true rfl, Nat.le_of_ble_eq_true rfl⟩, Nat.le_of_ble_eq_true rfl, Nat.le_of_ble_eq_true rfl⟩ dX3_makeGrid_4 (fun r1 u2 H locs hp hZ => ?_)
  obtain ⟨na2_3, nu2_4, kdf2_5, dpf2_6, clf2_7, saf2_8, lnf2_9, btf2_10, f11, f12, f13, rfl⟩ := hp
  have hZ : zz_Z g A s.heap [(mk, .inr (2, [.ref st, .ref ml, .int 0, .int 0])), (ml, .inl (g.2.1, 4, .inl lf)), (st, .inr (5, [.int (nI na2_3), .int (nI nu2_4), .ref kd, .ref dp, .ref cl, .ref sa, .ref ln, .ref bt, .ref pn, .ref bf])), (kd, .inl (g.2.1, 60, .inl kdf2_5)), (dp, .inl (g.2.1, 60, .inl dpf2_6)), (cl, .inl (g.2.1, 60, .inl clf2_7)), (sa, .inl (g.2.1, 60, .inl saf2_8)), (ln, .inl (g.2.1, 60, .inl lnf2_9)), (bt, .inl (g.2.2.1, 4000, .inr (.inl btf2_10)))] H locs := hZ
  exact zz_iret hC hZ (f13 (by omega) (by have := (h_l 0 (by omega)).2; omega)) (Nat.le_of_ble_eq_true rfl) (Nat.le_of_ble_eq_true rfl) dX3_makeGrid_7
theorem zl_14 {x : Int32} (h : ¬ x < 1) (h2 : x ≤ 4) : x = 1 ∨ x = 2 ∨ x = 3 ∨ x = 4 := by
  have h0 : ¬ x < 0 := by
    rw [Int32.lt_iff_toInt_lt] at h ⊢
    have e1 : (1 : Int32).toInt = 1 := by decide
    have e0 : (0 : Int32).toInt = 0 := by decide
    omega
  obtain ⟨j, hj, rfl⟩ := nI_of2 (M := 4) (n := 4) (by decide) h0 h2
  have h3 : ¬ j < 1 := fun q => h ((nI_ltI (a := j) (b := 1) (by omega) (by decide)).mpr q)
  rcases (show j = 1 ∨ j = 2 ∨ j = 3 ∨ j = 4 by omega) with rfl | rfl | rfl | rfl
  · exact Or.inl rfl
  · exact Or.inr (Or.inl rfl)
  · exact Or.inr (Or.inr (Or.inl rfl))
  · exact Or.inr (Or.inr (Or.inr rfl))
theorem zl_200' {x : Int32} (h : 0 ≤ x) (h2 : x ≤ 200) : ∃ j : Nat, j ≤ 200 ∧ x = nI j := by
  refine nI_of2 (M := 200) (by decide) ?_ h2
  rw [Int32.lt_iff_toInt_lt]; rw [Int32.le_iff_toInt_le] at h; omega
theorem zl_len1 {n0 n1 n2 n3 : Int32} (h : fn_co_hasNeg n0 n1 n2 n3 1 = 0) (h2 : ¬ fn_co_gridFits n0 n1 n2 n3 1 = 0) : ∃ ll : Nat → Nat, ∀ j, j < 1 → zz_l4 n0 n1 n2 n3 j = nI (ll j) ∧ ll j ≤ 200 := by
  unfold fn_co_hasNeg at h
  unfold fn_co_gridFits at h2
  rw [if_neg (show ¬ ((1 : Int32) ≤ 0) by decide)] at h h2
  by_cases a0 : 0 ≤ n0
  rotate_left
  · rw [if_neg a0] at h; exact absurd h (by decide)
  by_cases b0 : n0 ≤ 200
  rotate_left
  · rw [if_neg b0] at h2; exact absurd rfl h2
  rw [if_pos a0] at h
  rw [if_pos b0] at h2
  obtain ⟨l0, g0, e0⟩ := zl_200' a0 b0
  refine ⟨fun j => if j = 0 then l0 else 0, ?_⟩
  intro j hj
  rcases (show j = 0 by omega) with rfl
  · exact ⟨e0, g0⟩
theorem zl_len2 {n0 n1 n2 n3 : Int32} (h : fn_co_hasNeg n0 n1 n2 n3 2 = 0) (h2 : ¬ fn_co_gridFits n0 n1 n2 n3 2 = 0) : ∃ ll : Nat → Nat, ∀ j, j < 2 → zz_l4 n0 n1 n2 n3 j = nI (ll j) ∧ ll j ≤ 200 := by
  unfold fn_co_hasNeg at h
  unfold fn_co_gridFits at h2
  rw [if_neg (show ¬ ((2 : Int32) ≤ 0) by decide)] at h h2
  by_cases a0 : 0 ≤ n0
  rotate_left
  · rw [if_neg a0] at h; exact absurd h (by decide)
  by_cases b0 : n0 ≤ 200
  rotate_left
  · rw [if_neg b0] at h2; exact absurd rfl h2
  rw [if_pos a0] at h
  rw [if_pos b0] at h2
  rw [if_neg (show ¬ ((2 : Int32) ≤ 1) by decide)] at h h2
  by_cases a1 : 0 ≤ n1
  rotate_left
  · rw [if_neg a1] at h; exact absurd h (by decide)
  by_cases b1 : n1 ≤ 200
  rotate_left
  · rw [if_neg b1] at h2; exact absurd rfl h2
  rw [if_pos a1] at h
  rw [if_pos b1] at h2
  obtain ⟨l0, g0, e0⟩ := zl_200' a0 b0
  obtain ⟨l1, g1, e1⟩ := zl_200' a1 b1
  refine ⟨fun j => if j = 0 then l0 else if j = 1 then l1 else 0, ?_⟩
  intro j hj
  rcases (show j = 0 ∨ j = 1 by omega) with rfl | rfl
  · exact ⟨e0, g0⟩
  · exact ⟨e1, g1⟩
theorem zl_len3 {n0 n1 n2 n3 : Int32} (h : fn_co_hasNeg n0 n1 n2 n3 3 = 0) (h2 : ¬ fn_co_gridFits n0 n1 n2 n3 3 = 0) : ∃ ll : Nat → Nat, ∀ j, j < 3 → zz_l4 n0 n1 n2 n3 j = nI (ll j) ∧ ll j ≤ 200 := by
  unfold fn_co_hasNeg at h
  unfold fn_co_gridFits at h2
  rw [if_neg (show ¬ ((3 : Int32) ≤ 0) by decide)] at h h2
  by_cases a0 : 0 ≤ n0
  rotate_left
  · rw [if_neg a0] at h; exact absurd h (by decide)
  by_cases b0 : n0 ≤ 200
  rotate_left
  · rw [if_neg b0] at h2; exact absurd rfl h2
  rw [if_pos a0] at h
  rw [if_pos b0] at h2
  rw [if_neg (show ¬ ((3 : Int32) ≤ 1) by decide)] at h h2
  by_cases a1 : 0 ≤ n1
  rotate_left
  · rw [if_neg a1] at h; exact absurd h (by decide)
  by_cases b1 : n1 ≤ 200
  rotate_left
  · rw [if_neg b1] at h2; exact absurd rfl h2
  rw [if_pos a1] at h
  rw [if_pos b1] at h2
  rw [if_neg (show ¬ ((3 : Int32) ≤ 2) by decide)] at h h2
  by_cases a2 : 0 ≤ n2
  rotate_left
  · rw [if_neg a2] at h; exact absurd h (by decide)
  by_cases b2 : n2 ≤ 200
  rotate_left
  · rw [if_neg b2] at h2; exact absurd rfl h2
  rw [if_pos a2] at h
  rw [if_pos b2] at h2
  obtain ⟨l0, g0, e0⟩ := zl_200' a0 b0
  obtain ⟨l1, g1, e1⟩ := zl_200' a1 b1
  obtain ⟨l2, g2, e2⟩ := zl_200' a2 b2
  refine ⟨fun j => if j = 0 then l0 else if j = 1 then l1 else if j = 2 then l2 else 0, ?_⟩
  intro j hj
  rcases (show j = 0 ∨ j = 1 ∨ j = 2 by omega) with rfl | rfl | rfl
  · exact ⟨e0, g0⟩
  · exact ⟨e1, g1⟩
  · exact ⟨e2, g2⟩
theorem zl_len4 {n0 n1 n2 n3 : Int32} (h : fn_co_hasNeg n0 n1 n2 n3 4 = 0) (h2 : ¬ fn_co_gridFits n0 n1 n2 n3 4 = 0) : ∃ ll : Nat → Nat, ∀ j, j < 4 → zz_l4 n0 n1 n2 n3 j = nI (ll j) ∧ ll j ≤ 200 := by
  unfold fn_co_hasNeg at h
  unfold fn_co_gridFits at h2
  rw [if_neg (show ¬ ((4 : Int32) ≤ 0) by decide)] at h h2
  by_cases a0 : 0 ≤ n0
  rotate_left
  · rw [if_neg a0] at h; exact absurd h (by decide)
  by_cases b0 : n0 ≤ 200
  rotate_left
  · rw [if_neg b0] at h2; exact absurd rfl h2
  rw [if_pos a0] at h
  rw [if_pos b0] at h2
  rw [if_neg (show ¬ ((4 : Int32) ≤ 1) by decide)] at h h2
  by_cases a1 : 0 ≤ n1
  rotate_left
  · rw [if_neg a1] at h; exact absurd h (by decide)
  by_cases b1 : n1 ≤ 200
  rotate_left
  · rw [if_neg b1] at h2; exact absurd rfl h2
  rw [if_pos a1] at h
  rw [if_pos b1] at h2
  rw [if_neg (show ¬ ((4 : Int32) ≤ 2) by decide)] at h h2
  by_cases a2 : 0 ≤ n2
  rotate_left
  · rw [if_neg a2] at h; exact absurd h (by decide)
  by_cases b2 : n2 ≤ 200
  rotate_left
  · rw [if_neg b2] at h2; exact absurd rfl h2
  rw [if_pos a2] at h
  rw [if_pos b2] at h2
  rw [if_neg (show ¬ ((4 : Int32) ≤ 3) by decide)] at h h2
  by_cases a3 : 0 ≤ n3
  rotate_left
  · rw [if_neg a3] at h; exact absurd h (by decide)
  by_cases b3 : n3 ≤ 200
  rotate_left
  · rw [if_neg b3] at h2; exact absurd rfl h2
  rw [if_pos a3] at h
  rw [if_pos b3] at h2
  obtain ⟨l0, g0, e0⟩ := zl_200' a0 b0
  obtain ⟨l1, g1, e1⟩ := zl_200' a1 b1
  obtain ⟨l2, g2, e2⟩ := zl_200' a2 b2
  obtain ⟨l3, g3, e3⟩ := zl_200' a3 b3
  refine ⟨fun j => if j = 0 then l0 else if j = 1 then l1 else if j = 2 then l2 else if j = 3 then l3 else 0, ?_⟩
  intro j hj
  rcases (show j = 0 ∨ j = 1 ∨ j = 2 ∨ j = 3 by omega) with rfl | rfl | rfl | rfl
  · exact ⟨e0, g0⟩
  · exact ⟨e1, g1⟩
  · exact ⟨e2, g2⟩
  · exact ⟨e3, g3⟩
theorem dX7_grid_0 : decode cX7_grid 0 = .ok (.iload_n 1, 1) := by decide +kernel
theorem dX7_grid_1 : decode cX7_grid 1 = .ok (.ifCond .lt 19, 3) := by decide +kernel
theorem dX7_grid_20 : decode cX7_grid 20 = .ok (.aload_n 0, 1) := by decide +kernel
theorem dX7_grid_21 : decode cX7_grid 21 = .ok (.bipush 9, 2) := by decide +kernel
theorem dX7_grid_23 : decode cX7_grid 23 = .ok (.invokevirtual 65, 3) := by decide +kernel
theorem dX7_grid_26 : decode cX7_grid 26 = .ok (.ireturn, 1) := by decide +kernel
theorem dX7_grid_4 : decode cX7_grid 4 = .ok (.iload_n 1, 1) := by decide +kernel
theorem dX7_grid_5 : decode cX7_grid 5 = .ok (.bipush 8, 2) := by decide +kernel
theorem dX7_grid_7 : decode cX7_grid 7 = .ok (.if_icmp .ge 13, 3) := by decide +kernel
theorem dX7_grid_10 : decode cX7_grid 10 = .ok (.iload_n 2, 1) := by decide +kernel
theorem dX7_grid_11 : decode cX7_grid 11 = .ok (.iconst 1, 1) := by decide +kernel
theorem dX7_grid_12 : decode cX7_grid 12 = .ok (.if_icmp .lt 8, 3) := by decide +kernel
theorem dX7_grid_15 : decode cX7_grid 15 = .ok (.iload_n 2, 1) := by decide +kernel
theorem dX7_grid_16 : decode cX7_grid 16 = .ok (.iconst 4, 1) := by decide +kernel
theorem dX7_grid_17 : decode cX7_grid 17 = .ok (.if_icmp .le 10, 3) := by decide +kernel
theorem dX7_grid_27 : decode cX7_grid 27 = .ok (.aload_n 0, 1) := by decide +kernel
theorem dX7_grid_28 : decode cX7_grid 28 = .ok (.getfield 21, 3) := by decide +kernel
theorem zf_X7_21 : zz_f RX7 21 6 1 := ⟨RX7, TX7, 8, rfl, zi_X7, by decide, zk_201⟩
theorem dX7_grid_31 : decode cX7_grid 31 = .ok (.iload_n 3, 1) := by decide +kernel
theorem dX7_grid_32 : decode cX7_grid 32 = .ok (.iload 4, 2) := by decide +kernel
theorem dX7_grid_34 : decode cX7_grid 34 = .ok (.iload 5, 2) := by decide +kernel
theorem dX7_grid_36 : decode cX7_grid 36 = .ok (.iload 6, 2) := by decide +kernel
theorem dX7_grid_38 : decode cX7_grid 38 = .ok (.invokevirtual 86, 3) := by decide +kernel
theorem zk_271 : Cond.methodLink RX7 86 yX3_tellLengths ∈ zz_w := zz_in (List.mem_append_right _ (List.mem_append_right _ (List.mem_append_left _ (List.mem_of_getElem? (i := 31) (by decide +kernel))))) rfl
set_option maxRecDepth 20000 in
theorem zk_274 : Cond.code yX3_tellLengths cX3_tellLengths 5 none ∈ zz_w := zz_in (List.mem_append_right _ (List.mem_append_right _ (List.mem_append_left _ (List.mem_of_getElem? (i := 34) (rfl))))) rfl
theorem zk_272 : Cond.instanceMethod yX3_tellLengths ∈ zz_w := zz_in (List.mem_append_right _ (List.mem_append_right _ (List.mem_append_left _ (List.mem_of_getElem? (i := 32) (by decide +kernel))))) rfl
theorem zk_273 : Cond.selects RX3 yX3_tellLengths yX3_tellLengths ∈ zz_w := zz_in (List.mem_append_right _ (List.mem_append_right _ (List.mem_append_left _ (List.mem_of_getElem? (i := 33) (by decide +kernel))))) rfl
theorem zc_X7_86 : zz_cV RX7 86 yX3_tellLengths cX3_tellLengths 5 none 4 := ⟨⟨zk_271, zk_274, zk_3, by decide, by decide, by decide +kernel⟩, zk_272, zk_273⟩
theorem dX7_grid_41 : decode cX7_grid 41 = .ok (.aload_n 0, 1) := by decide +kernel
theorem dX7_grid_42 : decode cX7_grid 42 = .ok (.getfield 21, 3) := by decide +kernel
theorem dX7_grid_45 : decode cX7_grid 45 = .ok (.iload_n 2, 1) := by decide +kernel
theorem dX7_grid_46 : decode cX7_grid 46 = .ok (.invokevirtual 90, 3) := by decide +kernel
theorem zk_275 : Cond.methodLink RX7 90 yX3_hasLengthBelowZero ∈ zz_w := zz_in (List.mem_append_right _ (List.mem_append_right _ (List.mem_append_left _ (List.mem_of_getElem? (i := 35) (by decide +kernel))))) rfl
set_option maxRecDepth 20000 in
theorem zk_278 : Cond.code yX3_hasLengthBelowZero cX3_hasLengthBelowZero 3 (some .boolean) ∈ zz_w := zz_in (List.mem_append_right _ (List.mem_append_right _ (List.mem_append_left _ (List.mem_of_getElem? (i := 38) (rfl))))) rfl
theorem zk_276 : Cond.instanceMethod yX3_hasLengthBelowZero ∈ zz_w := zz_in (List.mem_append_right _ (List.mem_append_right _ (List.mem_append_left _ (List.mem_of_getElem? (i := 36) (by decide +kernel))))) rfl
theorem zk_277 : Cond.selects RX3 yX3_hasLengthBelowZero yX3_hasLengthBelowZero ∈ zz_w := zz_in (List.mem_append_right _ (List.mem_append_right _ (List.mem_append_left _ (List.mem_of_getElem? (i := 37) (by decide +kernel))))) rfl
theorem zc_X7_90 : zz_cV RX7 90 yX3_hasLengthBelowZero cX3_hasLengthBelowZero 3 (some .boolean) 1 := ⟨⟨zk_275, zk_278, zk_3, by decide, by decide, by decide +kernel⟩, zk_276, zk_277⟩
theorem dX7_grid_49 : decode cX7_grid 49 = .ok (.ifCond .eq 9, 3) := by decide +kernel
theorem dX7_grid_58 : decode cX7_grid 58 = .ok (.aload_n 0, 1) := by decide +kernel
theorem dX7_grid_59 : decode cX7_grid 59 = .ok (.getfield 21, 3) := by decide +kernel
theorem dX7_grid_62 : decode cX7_grid 62 = .ok (.iload_n 2, 1) := by decide +kernel
theorem dX7_grid_63 : decode cX7_grid 63 = .ok (.invokevirtual 93, 3) := by decide +kernel
theorem zk_279 : Cond.methodLink RX7 93 yX3_gridFits ∈ zz_w := zz_in (List.mem_append_right _ (List.mem_append_right _ (List.mem_append_left _ (List.mem_of_getElem? (i := 39) (by decide +kernel))))) rfl
set_option maxRecDepth 20000 in
theorem zk_282 : Cond.code yX3_gridFits cX3_gridFits 9 (some .boolean) ∈ zz_w := zz_in (List.mem_append_right _ (List.mem_append_right _ (List.mem_append_left _ (List.mem_of_getElem? (i := 42) (rfl))))) rfl
theorem zk_280 : Cond.instanceMethod yX3_gridFits ∈ zz_w := zz_in (List.mem_append_right _ (List.mem_append_right _ (List.mem_append_left _ (List.mem_of_getElem? (i := 40) (by decide +kernel))))) rfl
theorem zk_281 : Cond.selects RX3 yX3_gridFits yX3_gridFits ∈ zz_w := zz_in (List.mem_append_right _ (List.mem_append_right _ (List.mem_append_left _ (List.mem_of_getElem? (i := 41) (by decide +kernel))))) rfl
theorem zc_X7_93 : zz_cV RX7 93 yX3_gridFits cX3_gridFits 9 (some .boolean) 1 := ⟨⟨zk_279, zk_282, zk_3, by decide, by decide, by decide +kernel⟩, zk_280, zk_281⟩
theorem dX7_grid_66 : decode cX7_grid 66 = .ok (.ifCond .ne 10, 3) := by decide +kernel
theorem dX7_grid_76 : decode cX7_grid 76 = .ok (.aload_n 0, 1) := by decide +kernel
theorem dX7_grid_77 : decode cX7_grid 77 = .ok (.aload_n 0, 1) := by decide +kernel
theorem dX7_grid_78 : decode cX7_grid 78 = .ok (.getfield 21, 3) := by decide +kernel
theorem dX7_grid_81 : decode cX7_grid 81 = .ok (.iload_n 1, 1) := by decide +kernel
theorem dX7_grid_82 : decode cX7_grid 82 = .ok (.iload_n 2, 1) := by decide +kernel
theorem dX7_grid_83 : decode cX7_grid 83 = .ok (.invokevirtual 96, 3) := by decide +kernel
theorem zk_284 : Cond.methodLink RX7 96 yX3_makeGrid ∈ zz_w := zz_in (List.mem_append_right _ (List.mem_append_right _ (List.mem_append_left _ (List.mem_of_getElem? (i := 44) (by decide +kernel))))) rfl
set_option maxRecDepth 20000 in
theorem zk_287 : Cond.code yX3_makeGrid cX3_makeGrid 3 (some .int) ∈ zz_w := zz_in (List.mem_append_right _ (List.mem_append_right _ (List.mem_append_left _ (List.mem_of_getElem? (i := 47) (rfl))))) rfl
theorem zk_285 : Cond.instanceMethod yX3_makeGrid ∈ zz_w := zz_in (List.mem_append_right _ (List.mem_append_right _ (List.mem_append_left _ (List.mem_of_getElem? (i := 45) (by decide +kernel))))) rfl
theorem zk_286 : Cond.selects RX3 yX3_makeGrid yX3_makeGrid ∈ zz_w := zz_in (List.mem_append_right _ (List.mem_append_right _ (List.mem_append_left _ (List.mem_of_getElem? (i := 46) (by decide +kernel))))) rfl
theorem zc_X7_96 : zz_cV RX7 96 yX3_makeGrid cX3_makeGrid 3 (some .int) 2 := ⟨⟨zk_284, zk_287, zk_3, by decide, by decide, by decide +kernel⟩, zk_285, zk_286⟩
theorem dX7_grid_86 : decode cX7_grid 86 = .ok (.invokevirtual 100, 3) := by decide +kernel
theorem dX7_grid_89 : decode cX7_grid 89 = .ok (.ireturn, 1) := by decide +kernel
theorem dX7_grid_69 : decode cX7_grid 69 = .ok (.aload_n 0, 1) := by decide +kernel
theorem dX7_grid_70 : decode cX7_grid 70 = .ok (.bipush 8, 2) := by decide +kernel
theorem dX7_grid_72 : decode cX7_grid 72 = .ok (.invokevirtual 65, 3) := by decide +kernel
theorem dX7_grid_75 : decode cX7_grid 75 = .ok (.ireturn, 1) := by decide +kernel
theorem dX7_grid_52 : decode cX7_grid 52 = .ok (.aload_n 0, 1) := by decide +kernel
theorem dX7_grid_53 : decode cX7_grid 53 = .ok (.iconst 4, 1) := by decide +kernel
theorem dX7_grid_54 : decode cX7_grid 54 = .ok (.invokevirtual 65, 3) := by decide +kernel
theorem dX7_grid_57 : decode cX7_grid 57 = .ok (.ireturn, 1) := by decide +kernel
def fn_cx_grid (x1 : Int32) (x2 : Int32) (x3 : Int32) (x4 : Int32) (x5 : Int32) (x6 : Int32) : Int32 := (if x1 < 0 then -9 else (if 8 ≤ x1 then -9 else (if x2 < 1 then -9 else (if x2 ≤ 4 then (if x2 = 1 then (if (fn_co_hasNeg x3 x4 x5 x6 1) = 0 then (if (fn_co_gridFits x3 x4 x5 x6 1) = 0 then -8 else (nI 0)) else -4) else (if x2 = 2 then (if (fn_co_hasNeg x3 x4 x5 x6 2) = 0 then (if (fn_co_gridFits x3 x4 x5 x6 2) = 0 then -8 else (nI 0)) else -4) else (if x2 = 3 then (if (fn_co_hasNeg x3 x4 x5 x6 3) = 0 then (if (fn_co_gridFits x3 x4 x5 x6 3) = 0 then -8 else (nI 0)) else -4) else (if (fn_co_hasNeg x3 x4 x5 x6 4) = 0 then (if (fn_co_gridFits x3 x4 x5 x6 4) = 0 then -8 else (nI 0)) else -4)))) else -9))))
abbrev rm_cx_grid : Room := { frames := 6, cells := 0, slots := 0, locals := 148 }
abbrev po_cx_grid (g : zz_G) (h0 : Nat) (st : Nat) (mk : Nat) (lk : Nat) (ch : Nat) (ru : Nat) (mr : Nat) (ml : Nat) (kd : Nat) (dp : Nat) (cl : Nat) (sa : Nat) (ln : Nat) (bt : Nat) (pn : Nat) (bf : Nat) (x1 : Int32) (x2 : Int32) (x3 : Int32) (x4 : Int32) (x5 : Int32) (x6 : Int32) : Int32 → va_W → Prop := fun (r : Int32) (u : va_W) => r = fn_cx_grid x1 x2 x3 x4 x5 x6
set_option maxHeartbeats 4000000 in
set_option maxRecDepth 100000 in
theorem cx_grid (g : zz_G) (h0 : Nat) (st : Nat) (mk : Nat) (lk : Nat) (ch : Nat) (ru : Nat) (mr : Nat) (ml : Nat) (kd : Nat) (dp : Nat) (cl : Nat) (sa : Nat) (ln : Nat) (bt : Nat) (pn : Nat) (bf : Nat) (x1 : Int32) (x2 : Int32) (x3 : Int32) (x4 : Int32) (x5 : Int32) (x6 : Int32) : zz_I g yX7_grid (.code yX7_grid cX7_grid 7 (some .int)) rm_cx_grid [.ref h0, .int x1, .int x2, .int x3, .int x4, .int x5, .int x6] [(h0, .inr (6, [.ref st, .ref mk, .ref lk, .ref ch, .ref ru, .ref mr, .int 0, .int 0])), (mk, .inr (2, [.ref st, .ref ml, .int 0, .int 0])), (ml, .inl (g.2.1, 4, .inl (fun _ => 0))), (st, .inr (5, [.int 0, .int 0, .ref kd, .ref dp, .ref cl, .ref sa, .ref ln, .ref bt, .ref pn, .ref bf])), (kd, .inl (g.2.1, 60, .inl (fun _ => 0))), (dp, .inl (g.2.1, 60, .inl (fun _ => 0))), (cl, .inl (g.2.1, 60, .inl (fun _ => 0))), (sa, .inl (g.2.1, 60, .inl (fun _ => 0))), (ln, .inl (g.2.1, 60, .inl (fun _ => 0))), (bt, .inl (g.2.2.1, 4000, .inr (.inl (fun _ => 0))))] (po_cx_grid g h0 st mk lk ch ru mr ml kd dp cl sa ln bt pn bf x1 x2 x3 x4 x5 x6) := by
  refine zz_I.intro (own := RX7) (cc := cX7_grid) (nL := 7) (by decide) rfl (Nat.le_of_ble_eq_true rfl) ?_
  intro p l e s m args below meth c A H locs ls hC hnm hZ hl
  obtain ⟨hx, hb, hml, hown, hts, hr, hlocks, hK⟩ := id hC
  have hl : lv_has ls 7 [(0, .ref h0), (1, .int x1), (2, .int x2), (3, .int x3), (4, .int x4), (5, .int x5), (6, .int x6)] := hl
  have hZ : zz_Z g A s.heap [(h0, .inr (6, [.ref st, .ref mk, .ref lk, .ref ch, .ref ru, .ref mr, .int 0, .int 0])), (mk, .inr (2, [.ref st, .ref ml, .int 0, .int 0])), (ml, .inl (g.2.1, 4, .inl (fun _ => 0))), (st, .inr (5, [.int 0, .int 0, .ref kd, .ref dp, .ref cl, .ref sa, .ref ln, .ref bt, .ref pn, .ref bf])), (kd, .inl (g.2.1, 60, .inl (fun _ => 0))), (dp, .inl (g.2.1, 60, .inl (fun _ => 0))), (cl, .inl (g.2.1, 60, .inl (fun _ => 0))), (sa, .inl (g.2.1, 60, .inl (fun _ => 0))), (ln, .inl (g.2.1, 60, .inl (fun _ => 0))), (bt, .inl (g.2.2.1, 4000, .inr (.inl (fun _ => 0))))] H locs := hZ
  refine lv_iload_n hx hb dX7_grid_0 rfl (lv_at hl 1 rfl) ?_
  refine lv_if_lt (tgt := 20) hx hb dX7_grid_1 (by decide) (fun c1 => ?_) (fun c1 => ?_)
  · refine lv_aload_n hx hb dX7_grid_20 rfl (lv_at hl 0 rfl) ?_
    refine lv_bipush (v := 9) hx hb dX7_grid_21 (by decide) ?_
    refine zz_iV (As := [.int 9]) (wc := [(h0, .inr (6, [.ref st, .ref mk, .ref lk, .ref ch, .ref ru, .ref mr, .int 0, .int 0]))]) (wr := [(mk, .inr (2, [.ref st, .ref ml, .int 0, .int 0])), (ml, .inl (g.2.1, 4, .inl (fun _ => 0))), (st, .inr (5, [.int 0, .int 0, .ref kd, .ref dp, .ref cl, .ref sa, .ref ln, .ref bt, .ref pn, .ref bf])), (kd, .inl (g.2.1, 60, .inl (fun _ => 0))), (dp, .inl (g.2.1, 60, .inl (fun _ => 0))), (cl, .inl (g.2.1, 60, .inl (fun _ => 0))), (sa, .inl (g.2.1, 60, .inl (fun _ => 0))), (ln, .inl (g.2.1, 60, .inl (fun _ => 0))), (bt, .inl (g.2.2.1, 4000, .inr (.inl (fun _ => 0))))]) (rest := []) hC hZ hl zc_X7_65 (co_fail g h0 st mk lk ch ru mr 0 0 9) [0] [1, 2, 3, 4, 5, 6, 7, 8, 9] rfl rfl (by decide) (ci := 6) (q0 := 0) rfl rfl rfl rfl (Nat.le_of_ble_eq_true rfl) ⟨⟨Nat.le_of_ble_eq_true rfl, Nat.le_of_ble_eq_true rfl⟩, Nat.le_of_ble_eq_true rfl, Nat.le_of_ble_eq_true rfl⟩ dX7_grid_23 (fun r2 u3 H locs hp hZ => ?_)
    obtain ⟨rfl, rfl⟩ := hp
    have hZ : zz_Z g A s.heap [(mk, .inr (2, [.ref st, .ref ml, .int 0, .int 0])), (ml, .inl (g.2.1, 4, .inl (fun _ => 0))), (st, .inr (5, [.int 0, .int 0, .ref kd, .ref dp, .ref cl, .ref sa, .ref ln, .ref bt, .ref pn, .ref bf])), (kd, .inl (g.2.1, 60, .inl (fun _ => 0))), (dp, .inl (g.2.1, 60, .inl (fun _ => 0))), (cl, .inl (g.2.1, 60, .inl (fun _ => 0))), (sa, .inl (g.2.1, 60, .inl (fun _ => 0))), (ln, .inl (g.2.1, 60, .inl (fun _ => 0))), (bt, .inl (g.2.2.1, 4000, .inr (.inl (fun _ => 0)))), (h0, .inr (6, [.ref st, .ref mk, .ref lk, .ref ch, .ref ru, .ref mr, .int 0, .int 9]))] H locs := hZ
    exact zz_iret hC hZ (by show _ = _; rw [fn_cx_grid, if_pos c1]) (Nat.le_of_ble_eq_true rfl) (Nat.le_of_ble_eq_true rfl) dX7_grid_26
  · refine lv_iload_n hx hb dX7_grid_4 rfl (lv_at hl 1 rfl) ?_
    refine lv_bipush (v := 8) hx hb dX7_grid_5 (by decide) ?_
    refine lv_icmp_ge (tgt := 20) hx hb dX7_grid_7 (by decide) (fun c4 => ?_) (fun c4 => ?_)
    · refine lv_aload_n hx hb dX7_grid_20 rfl (lv_at hl 0 rfl) ?_
      refine lv_bipush (v := 9) hx hb dX7_grid_21 (by decide) ?_
      refine zz_iV (As := [.int 9]) (wc := [(h0, .inr (6, [.ref st, .ref mk, .ref lk, .ref ch, .ref ru, .ref mr, .int 0, .int 0]))]) (wr := [(mk, .inr (2, [.ref st, .ref ml, .int 0, .int 0])), (ml, .inl (g.2.1, 4, .inl (fun _ => 0))), (st, .inr (5, [.int 0, .int 0, .ref kd, .ref dp, .ref cl, .ref sa, .ref ln, .ref bt, .ref pn, .ref bf])), (kd, .inl (g.2.1, 60, .inl (fun _ => 0))), (dp, .inl (g.2.1, 60, .inl (fun _ => 0))), (cl, .inl (g.2.1, 60, .inl (fun _ => 0))), (sa, .inl (g.2.1, 60, .inl (fun _ => 0))), (ln, .inl (g.2.1, 60, .inl (fun _ => 0))), (bt, .inl (g.2.2.1, 4000, .inr (.inl (fun _ => 0))))]) (rest := []) hC hZ hl zc_X7_65 (co_fail g h0 st mk lk ch ru mr 0 0 9) [0] [1, 2, 3, 4, 5, 6, 7, 8, 9] rfl rfl (by decide) (ci := 6) (q0 := 0) rfl rfl rfl rfl (Nat.le_of_ble_eq_true rfl) ⟨⟨Nat.le_of_ble_eq_true rfl, Nat.le_of_ble_eq_true rfl⟩, Nat.le_of_ble_eq_true rfl, Nat.le_of_ble_eq_true rfl⟩ dX7_grid_23 (fun r5 u6 H locs hp hZ => ?_)
      obtain ⟨rfl, rfl⟩ := hp
      have hZ : zz_Z g A s.heap [(mk, .inr (2, [.ref st, .ref ml, .int 0, .int 0])), (ml, .inl (g.2.1, 4, .inl (fun _ => 0))), (st, .inr (5, [.int 0, .int 0, .ref kd, .ref dp, .ref cl, .ref sa, .ref ln, .ref bt, .ref pn, .ref bf])), (kd, .inl (g.2.1, 60, .inl (fun _ => 0))), (dp, .inl (g.2.1, 60, .inl (fun _ => 0))), (cl, .inl (g.2.1, 60, .inl (fun _ => 0))), (sa, .inl (g.2.1, 60, .inl (fun _ => 0))), (ln, .inl (g.2.1, 60, .inl (fun _ => 0))), (bt, .inl (g.2.2.1, 4000, .inr (.inl (fun _ => 0)))), (h0, .inr (6, [.ref st, .ref mk, .ref lk, .ref ch, .ref ru, .ref mr, .int 0, .int 9]))] H locs := hZ
      exact zz_iret hC hZ (by show _ = _; rw [fn_cx_grid, if_neg c1, if_pos c4]) (Nat.le_of_ble_eq_true rfl) (Nat.le_of_ble_eq_true rfl) dX7_grid_26
    · refine lv_iload_n hx hb dX7_grid_10 rfl (lv_at hl 2 rfl) ?_
      refine lv_iconst (v := 1) hx hb dX7_grid_11 (by decide) ?_
      refine lv_icmp_lt (tgt := 20) hx hb dX7_grid_12 (by decide) (fun c7 => ?_) (fun c7 => ?_)
      · refine lv_aload_n hx hb dX7_grid_20 rfl (lv_at hl 0 rfl) ?_
        refine lv_bipush (v := 9) hx hb dX7_grid_21 (by decide) ?_
        refine zz_iV (As := [.int 9]) (wc := [(h0, .inr (6, [.ref st, .ref mk, .ref lk, .ref ch, .ref ru, .ref mr, .int 0, .int 0]))]) (wr := [(mk, .inr (2, [.ref st, .ref ml, .int 0, .int 0])), (ml, .inl (g.2.1, 4, .inl (fun _ => 0))), (st, .inr (5, [.int 0, .int 0, .ref kd, .ref dp, .ref cl, .ref sa, .ref ln, .ref bt, .ref pn, .ref bf])), (kd, .inl (g.2.1, 60, .inl (fun _ => 0))), (dp, .inl (g.2.1, 60, .inl (fun _ => 0))), (cl, .inl (g.2.1, 60, .inl (fun _ => 0))), (sa, .inl (g.2.1, 60, .inl (fun _ => 0))), (ln, .inl (g.2.1, 60, .inl (fun _ => 0))), (bt, .inl (g.2.2.1, 4000, .inr (.inl (fun _ => 0))))]) (rest := []) hC hZ hl zc_X7_65 (co_fail g h0 st mk lk ch ru mr 0 0 9) [0] [1, 2, 3, 4, 5, 6, 7, 8, 9] rfl rfl (by decide) (ci := 6) (q0 := 0) rfl rfl rfl rfl (Nat.le_of_ble_eq_true rfl) ⟨⟨Nat.le_of_ble_eq_true rfl, Nat.le_of_ble_eq_true rfl⟩, Nat.le_of_ble_eq_true rfl, Nat.le_of_ble_eq_true rfl⟩ dX7_grid_23 (fun r8 u9 H locs hp hZ => ?_)
        obtain ⟨rfl, rfl⟩ := hp
        have hZ : zz_Z g A s.heap [(mk, .inr (2, [.ref st, .ref ml, .int 0, .int 0])), (ml, .inl (g.2.1, 4, .inl (fun _ => 0))), (st, .inr (5, [.int 0, .int 0, .ref kd, .ref dp, .ref cl, .ref sa, .ref ln, .ref bt, .ref pn, .ref bf])), (kd, .inl (g.2.1, 60, .inl (fun _ => 0))), (dp, .inl (g.2.1, 60, .inl (fun _ => 0))), (cl, .inl (g.2.1, 60, .inl (fun _ => 0))), (sa, .inl (g.2.1, 60, .inl (fun _ => 0))), (ln, .inl (g.2.1, 60, .inl (fun _ => 0))), (bt, .inl (g.2.2.1, 4000, .inr (.inl (fun _ => 0)))), (h0, .inr (6, [.ref st, .ref mk, .ref lk, .ref ch, .ref ru, .ref mr, .int 0, .int 9]))] H locs := hZ
        exact zz_iret hC hZ (by show _ = _; rw [fn_cx_grid, if_neg c1, if_neg c4, if_pos c7]) (Nat.le_of_ble_eq_true rfl) (Nat.le_of_ble_eq_true rfl) dX7_grid_26
      · refine lv_iload_n hx hb dX7_grid_15 rfl (lv_at hl 2 rfl) ?_
        refine lv_iconst (v := 4) hx hb dX7_grid_16 (by decide) ?_
        refine lv_icmp_le (tgt := 27) hx hb dX7_grid_17 (by decide) (fun c10 => ?_) (fun c10 => ?_)
        · rcases zl_14 c7 c10 with rfl | rfl | rfl | rfl
          · refine lv_aload_n hx hb dX7_grid_27 rfl (lv_at hl 0 rfl) ?_
            refine zz_get hC hZ 0 rfl zf_X7_21 rfl dX7_grid_28 ?_
            refine lv_iload_n hx hb dX7_grid_31 rfl (lv_at hl 3 rfl) ?_
            refine lv_iload hx hb dX7_grid_32 (lv_at hl 4 rfl) ?_
            refine lv_iload hx hb dX7_grid_34 (lv_at hl 5 rfl) ?_
            refine lv_iload hx hb dX7_grid_36 (lv_at hl 6 rfl) ?_
            refine zz_vV (As := [.int x3, .int x4, .int x5, .int x6]) (wc := [(mk, .inr (2, [.ref st, .ref ml, .int 0, .int 0])), (ml, .inl (g.2.1, 4, .inl (fun _ => 0)))]) (wr := [(h0, .inr (6, [.ref st, .ref mk, .ref lk, .ref ch, .ref ru, .ref mr, .int 0, .int 0])), (st, .inr (5, [.int 0, .int 0, .ref kd, .ref dp, .ref cl, .ref sa, .ref ln, .ref bt, .ref pn, .ref bf])), (kd, .inl (g.2.1, 60, .inl (fun _ => 0))), (dp, .inl (g.2.1, 60, .inl (fun _ => 0))), (cl, .inl (g.2.1, 60, .inl (fun _ => 0))), (sa, .inl (g.2.1, 60, .inl (fun _ => 0))), (ln, .inl (g.2.1, 60, .inl (fun _ => 0))), (bt, .inl (g.2.2.1, 4000, .inr (.inl (fun _ => 0))))]) (rest := []) hC hZ hl zc_X7_86 (co_tell g mk st ml x3 x4 x5 x6) [1, 2] [0, 3, 4, 5, 6, 7, 8, 9] rfl rfl (by decide) (ci := 2) (q0 := 0) rfl rfl rfl rfl (Nat.le_of_ble_eq_true rfl) ⟨⟨Nat.le_of_ble_eq_true rfl, Nat.le_of_ble_eq_true rfl⟩, Nat.le_of_ble_eq_true rfl, Nat.le_of_ble_eq_true rfl⟩ dX7_grid_38 (fun u12 H locs hp hZ => ?_)
            obtain rfl := hp
            have hZ : zz_Z g A s.heap [(h0, .inr (6, [.ref st, .ref mk, .ref lk, .ref ch, .ref ru, .ref mr, .int 0, .int 0])), (st, .inr (5, [.int 0, .int 0, .ref kd, .ref dp, .ref cl, .ref sa, .ref ln, .ref bt, .ref pn, .ref bf])), (kd, .inl (g.2.1, 60, .inl (fun _ => 0))), (dp, .inl (g.2.1, 60, .inl (fun _ => 0))), (cl, .inl (g.2.1, 60, .inl (fun _ => 0))), (sa, .inl (g.2.1, 60, .inl (fun _ => 0))), (ln, .inl (g.2.1, 60, .inl (fun _ => 0))), (bt, .inl (g.2.2.1, 4000, .inr (.inl (fun _ => 0)))), (mk, .inr (2, [.ref st, .ref ml, .int 0, .int 0])), (ml, .inl (g.2.1, 4, .inl (zz_l4 x3 x4 x5 x6)))] H locs := hZ
            refine lv_aload_n hx hb dX7_grid_41 rfl (lv_at hl 0 rfl) ?_
            refine zz_get hC hZ 0 rfl zf_X7_21 rfl dX7_grid_42 ?_
            refine lv_iload_n hx hb dX7_grid_45 rfl (lv_at hl 2 rfl) ?_
            refine zz_iV (As := [.int 1]) (wc := [(mk, .inr (2, [.ref st, .ref ml, .int 0, .int 0])), (ml, .inl (g.2.1, 4, .inl (zz_l4 x3 x4 x5 x6)))]) (wr := [(h0, .inr (6, [.ref st, .ref mk, .ref lk, .ref ch, .ref ru, .ref mr, .int 0, .int 0])), (st, .inr (5, [.int 0, .int 0, .ref kd, .ref dp, .ref cl, .ref sa, .ref ln, .ref bt, .ref pn, .ref bf])), (kd, .inl (g.2.1, 60, .inl (fun _ => 0))), (dp, .inl (g.2.1, 60, .inl (fun _ => 0))), (cl, .inl (g.2.1, 60, .inl (fun _ => 0))), (sa, .inl (g.2.1, 60, .inl (fun _ => 0))), (ln, .inl (g.2.1, 60, .inl (fun _ => 0))), (bt, .inl (g.2.2.1, 4000, .inr (.inl (fun _ => 0))))]) (rest := []) hC hZ hl zc_X7_90 (co_hasNeg g mk st ml x3 x4 x5 x6 1) [8, 9] [0, 1, 2, 3, 4, 5, 6, 7] rfl rfl (by decide) (ci := 2) (q0 := 0) rfl rfl rfl rfl (Nat.le_of_ble_eq_true rfl) ⟨⟨Nat.le_of_ble_eq_true rfl, Nat.le_of_ble_eq_true rfl⟩, Nat.le_of_ble_eq_true rfl, Nat.le_of_ble_eq_true rfl⟩ dX7_grid_46 (fun r13 u14 H locs hp hZ => ?_)
            obtain ⟨rfl, rfl⟩ := hp
            have hZ : zz_Z g A s.heap [(h0, .inr (6, [.ref st, .ref mk, .ref lk, .ref ch, .ref ru, .ref mr, .int 0, .int 0])), (st, .inr (5, [.int 0, .int 0, .ref kd, .ref dp, .ref cl, .ref sa, .ref ln, .ref bt, .ref pn, .ref bf])), (kd, .inl (g.2.1, 60, .inl (fun _ => 0))), (dp, .inl (g.2.1, 60, .inl (fun _ => 0))), (cl, .inl (g.2.1, 60, .inl (fun _ => 0))), (sa, .inl (g.2.1, 60, .inl (fun _ => 0))), (ln, .inl (g.2.1, 60, .inl (fun _ => 0))), (bt, .inl (g.2.2.1, 4000, .inr (.inl (fun _ => 0)))), (mk, .inr (2, [.ref st, .ref ml, .int 0, .int 0])), (ml, .inl (g.2.1, 4, .inl (zz_l4 x3 x4 x5 x6)))] H locs := hZ
            refine lv_if_eq (tgt := 58) hx hb dX7_grid_49 (by decide) (fun c15 => ?_) (fun c15 => ?_)
            · refine lv_aload_n hx hb dX7_grid_58 rfl (lv_at hl 0 rfl) ?_
              refine zz_get hC hZ 0 rfl zf_X7_21 rfl dX7_grid_59 ?_
              refine lv_iload_n hx hb dX7_grid_62 rfl (lv_at hl 2 rfl) ?_
              refine zz_iV (As := [.int 1]) (wc := [(mk, .inr (2, [.ref st, .ref ml, .int 0, .int 0])), (ml, .inl (g.2.1, 4, .inl (zz_l4 x3 x4 x5 x6))), (st, .inr (5, [.int 0, .int 0, .ref kd, .ref dp, .ref cl, .ref sa, .ref ln, .ref bt, .ref pn, .ref bf]))]) (wr := [(h0, .inr (6, [.ref st, .ref mk, .ref lk, .ref ch, .ref ru, .ref mr, .int 0, .int 0])), (kd, .inl (g.2.1, 60, .inl (fun _ => 0))), (dp, .inl (g.2.1, 60, .inl (fun _ => 0))), (cl, .inl (g.2.1, 60, .inl (fun _ => 0))), (sa, .inl (g.2.1, 60, .inl (fun _ => 0))), (ln, .inl (g.2.1, 60, .inl (fun _ => 0))), (bt, .inl (g.2.2.1, 4000, .inr (.inl (fun _ => 0))))]) (rest := []) hC hZ hl zc_X7_93 (co_gridFits g mk st ml kd dp cl sa ln bt pn bf x3 x4 x5 x6 1) [8, 9, 1] [0, 2, 3, 4, 5, 6, 7] rfl rfl (by decide) (ci := 2) (q0 := 0) rfl rfl rfl rfl (Nat.le_of_ble_eq_true rfl) ⟨⟨Nat.le_of_ble_eq_true rfl, Nat.le_of_ble_eq_true rfl⟩, Nat.le_of_ble_eq_true rfl, Nat.le_of_ble_eq_true rfl⟩ dX7_grid_63 (fun r16 u17 H locs hp hZ => ?_)
              obtain ⟨rfl, rfl⟩ := hp
              have hZ : zz_Z g A s.heap [(h0, .inr (6, [.ref st, .ref mk, .ref lk, .ref ch, .ref ru, .ref mr, .int 0, .int 0])), (kd, .inl (g.2.1, 60, .inl (fun _ => 0))), (dp, .inl (g.2.1, 60, .inl (fun _ => 0))), (cl, .inl (g.2.1, 60, .inl (fun _ => 0))), (sa, .inl (g.2.1, 60, .inl (fun _ => 0))), (ln, .inl (g.2.1, 60, .inl (fun _ => 0))), (bt, .inl (g.2.2.1, 4000, .inr (.inl (fun _ => 0)))), (mk, .inr (2, [.ref st, .ref ml, .int 0, .int 0])), (ml, .inl (g.2.1, 4, .inl (zz_l4 x3 x4 x5 x6))), (st, .inr (5, [.int 0, .int 0, .ref kd, .ref dp, .ref cl, .ref sa, .ref ln, .ref bt, .ref pn, .ref bf]))] H locs := hZ
              refine lv_if_ne (tgt := 76) hx hb dX7_grid_66 (by decide) (fun c18 => ?_) (fun c18 => ?_)
              · obtain ⟨ll, h_l⟩ := zl_len1 c15 c18
                refine lv_aload_n hx hb dX7_grid_76 rfl (lv_at hl 0 rfl) ?_
                refine lv_aload_n hx hb dX7_grid_77 rfl (lv_at hl 0 rfl) ?_
                refine zz_get hC hZ 0 rfl zf_X7_21 rfl dX7_grid_78 ?_
                refine lv_iload_n hx hb dX7_grid_81 rfl (lv_at hl 1 rfl) ?_
                refine lv_iload_n hx hb dX7_grid_82 rfl (lv_at hl 2 rfl) ?_
                refine zz_iV (As := [.int x1, .int 1]) (wc := [(mk, .inr (2, [.ref st, .ref ml, .int 0, .int 0])), (ml, .inl (g.2.1, 4, .inl (zz_l4 x3 x4 x5 x6))), (st, .inr (5, [.int 0, .int 0, .ref kd, .ref dp, .ref cl, .ref sa, .ref ln, .ref bt, .ref pn, .ref bf])), (kd, .inl (g.2.1, 60, .inl (fun _ => 0))), (dp, .inl (g.2.1, 60, .inl (fun _ => 0))), (cl, .inl (g.2.1, 60, .inl (fun _ => 0))), (sa, .inl (g.2.1, 60, .inl (fun _ => 0))), (ln, .inl (g.2.1, 60, .inl (fun _ => 0))), (bt, .inl (g.2.2.1, 4000, .inr (.inl (fun _ => 0))))]) (wr := [(h0, .inr (6, [.ref st, .ref mk, .ref lk, .ref ch, .ref ru, .ref mr, .int 0, .int 0]))]) (rest := [.ref h0]) hC hZ hl zc_X7_96 (co_makeGrid1 g mk st ml kd dp cl sa ln bt pn bf (zz_l4 x3 x4 x5 x6) ll x1 (h_l)) [7, 8, 9, 1, 2, 3, 4, 5, 6] [0] rfl rfl (by decide) (ci := 2) (q0 := 0) rfl rfl rfl rfl (Nat.le_of_ble_eq_true rfl) ⟨⟨Nat.le_of_ble_eq_true rfl, Nat.le_of_ble_eq_true rfl⟩, Nat.le_of_ble_eq_true rfl, Nat.le_of_ble_eq_true rfl⟩ dX7_grid_83 (fun r19 u20 H locs hp hZ => ?_)
                obtain rfl := hp
                have hZ : zz_Z g A s.heap [(h0, .inr (6, [.ref st, .ref mk, .ref lk, .ref ch, .ref ru, .ref mr, .int 0, .int 0]))] H locs := hZ.left
                refine zz_iV (As := [.int (nI 0)]) (wc := [(h0, .inr (6, [.ref st, .ref mk, .ref lk, .ref ch, .ref ru, .ref mr, .int 0, .int 0]))]) (wr := []) (rest := []) hC hZ hl zc_X7_100 (co_fine g h0 st mk lk ch ru mr 0 0 (nI 0)) [0] [] rfl rfl (by decide) (ci := 6) (q0 := 0) rfl rfl rfl rfl (Nat.le_of_ble_eq_true rfl) ⟨⟨Nat.le_of_ble_eq_true rfl, Nat.le_of_ble_eq_true rfl⟩, Nat.le_of_ble_eq_true rfl, Nat.le_of_ble_eq_true rfl⟩ dX7_grid_86 (fun r21 u22 H locs hp hZ => ?_)
                obtain ⟨rfl, rfl⟩ := hp
                have hZ : zz_Z g A s.heap [(h0, .inr (6, [.ref st, .ref mk, .ref lk, .ref ch, .ref ru, .ref mr, .int 0, .int 0]))] H locs := hZ
                exact zz_iret hC hZ (by show _ = _; rw [fn_cx_grid, if_neg c1, if_neg c4, if_neg c7, if_pos c10, if_pos (show ((1 : Int32) = 1) from rfl), if_pos c15, if_neg c18]) (Nat.le_of_ble_eq_true rfl) (Nat.le_of_ble_eq_true rfl) dX7_grid_89
              · refine lv_aload_n hx hb dX7_grid_69 rfl (lv_at hl 0 rfl) ?_
                refine lv_bipush (v := 8) hx hb dX7_grid_70 (by decide) ?_
                refine zz_iV (As := [.int 8]) (wc := [(h0, .inr (6, [.ref st, .ref mk, .ref lk, .ref ch, .ref ru, .ref mr, .int 0, .int 0]))]) (wr := [(kd, .inl (g.2.1, 60, .inl (fun _ => 0))), (dp, .inl (g.2.1, 60, .inl (fun _ => 0))), (cl, .inl (g.2.1, 60, .inl (fun _ => 0))), (sa, .inl (g.2.1, 60, .inl (fun _ => 0))), (ln, .inl (g.2.1, 60, .inl (fun _ => 0))), (bt, .inl (g.2.2.1, 4000, .inr (.inl (fun _ => 0)))), (mk, .inr (2, [.ref st, .ref ml, .int 0, .int 0])), (ml, .inl (g.2.1, 4, .inl (zz_l4 x3 x4 x5 x6))), (st, .inr (5, [.int 0, .int 0, .ref kd, .ref dp, .ref cl, .ref sa, .ref ln, .ref bt, .ref pn, .ref bf]))]) (rest := []) hC hZ hl zc_X7_65 (co_fail g h0 st mk lk ch ru mr 0 0 8) [0] [1, 2, 3, 4, 5, 6, 7, 8, 9] rfl rfl (by decide) (ci := 6) (q0 := 0) rfl rfl rfl rfl (Nat.le_of_ble_eq_true rfl) ⟨⟨Nat.le_of_ble_eq_true rfl, Nat.le_of_ble_eq_true rfl⟩, Nat.le_of_ble_eq_true rfl, Nat.le_of_ble_eq_true rfl⟩ dX7_grid_72 (fun r23 u24 H locs hp hZ => ?_)
                obtain ⟨rfl, rfl⟩ := hp
                have hZ : zz_Z g A s.heap [(kd, .inl (g.2.1, 60, .inl (fun _ => 0))), (dp, .inl (g.2.1, 60, .inl (fun _ => 0))), (cl, .inl (g.2.1, 60, .inl (fun _ => 0))), (sa, .inl (g.2.1, 60, .inl (fun _ => 0))), (ln, .inl (g.2.1, 60, .inl (fun _ => 0))), (bt, .inl (g.2.2.1, 4000, .inr (.inl (fun _ => 0)))), (mk, .inr (2, [.ref st, .ref ml, .int 0, .int 0])), (ml, .inl (g.2.1, 4, .inl (zz_l4 x3 x4 x5 x6))), (st, .inr (5, [.int 0, .int 0, .ref kd, .ref dp, .ref cl, .ref sa, .ref ln, .ref bt, .ref pn, .ref bf])), (h0, .inr (6, [.ref st, .ref mk, .ref lk, .ref ch, .ref ru, .ref mr, .int 0, .int 8]))] H locs := hZ
                exact zz_iret hC hZ (by show _ = _; rw [fn_cx_grid, if_neg c1, if_neg c4, if_neg c7, if_pos c10, if_pos (show ((1 : Int32) = 1) from rfl), if_pos c15, if_pos c18]) (Nat.le_of_ble_eq_true rfl) (Nat.le_of_ble_eq_true rfl) dX7_grid_75
            · refine lv_aload_n hx hb dX7_grid_52 rfl (lv_at hl 0 rfl) ?_
              refine lv_iconst (v := 4) hx hb dX7_grid_53 (by decide) ?_
              refine zz_iV (As := [.int 4]) (wc := [(h0, .inr (6, [.ref st, .ref mk, .ref lk, .ref ch, .ref ru, .ref mr, .int 0, .int 0]))]) (wr := [(st, .inr (5, [.int 0, .int 0, .ref kd, .ref dp, .ref cl, .ref sa, .ref ln, .ref bt, .ref pn, .ref bf])), (kd, .inl (g.2.1, 60, .inl (fun _ => 0))), (dp, .inl (g.2.1, 60, .inl (fun _ => 0))), (cl, .inl (g.2.1, 60, .inl (fun _ => 0))), (sa, .inl (g.2.1, 60, .inl (fun _ => 0))), (ln, .inl (g.2.1, 60, .inl (fun _ => 0))), (bt, .inl (g.2.2.1, 4000, .inr (.inl (fun _ => 0)))), (mk, .inr (2, [.ref st, .ref ml, .int 0, .int 0])), (ml, .inl (g.2.1, 4, .inl (zz_l4 x3 x4 x5 x6)))]) (rest := []) hC hZ hl zc_X7_65 (co_fail g h0 st mk lk ch ru mr 0 0 4) [0] [1, 2, 3, 4, 5, 6, 7, 8, 9] rfl rfl (by decide) (ci := 6) (q0 := 0) rfl rfl rfl rfl (Nat.le_of_ble_eq_true rfl) ⟨⟨Nat.le_of_ble_eq_true rfl, Nat.le_of_ble_eq_true rfl⟩, Nat.le_of_ble_eq_true rfl, Nat.le_of_ble_eq_true rfl⟩ dX7_grid_54 (fun r25 u26 H locs hp hZ => ?_)
              obtain ⟨rfl, rfl⟩ := hp
              have hZ : zz_Z g A s.heap [(st, .inr (5, [.int 0, .int 0, .ref kd, .ref dp, .ref cl, .ref sa, .ref ln, .ref bt, .ref pn, .ref bf])), (kd, .inl (g.2.1, 60, .inl (fun _ => 0))), (dp, .inl (g.2.1, 60, .inl (fun _ => 0))), (cl, .inl (g.2.1, 60, .inl (fun _ => 0))), (sa, .inl (g.2.1, 60, .inl (fun _ => 0))), (ln, .inl (g.2.1, 60, .inl (fun _ => 0))), (bt, .inl (g.2.2.1, 4000, .inr (.inl (fun _ => 0)))), (mk, .inr (2, [.ref st, .ref ml, .int 0, .int 0])), (ml, .inl (g.2.1, 4, .inl (zz_l4 x3 x4 x5 x6))), (h0, .inr (6, [.ref st, .ref mk, .ref lk, .ref ch, .ref ru, .ref mr, .int 0, .int 4]))] H locs := hZ
              exact zz_iret hC hZ (by show _ = _; rw [fn_cx_grid, if_neg c1, if_neg c4, if_neg c7, if_pos c10, if_pos (show ((1 : Int32) = 1) from rfl), if_neg c15]) (Nat.le_of_ble_eq_true rfl) (Nat.le_of_ble_eq_true rfl) dX7_grid_57
          · refine lv_aload_n hx hb dX7_grid_27 rfl (lv_at hl 0 rfl) ?_
            refine zz_get hC hZ 0 rfl zf_X7_21 rfl dX7_grid_28 ?_
            refine lv_iload_n hx hb dX7_grid_31 rfl (lv_at hl 3 rfl) ?_
            refine lv_iload hx hb dX7_grid_32 (lv_at hl 4 rfl) ?_
            refine lv_iload hx hb dX7_grid_34 (lv_at hl 5 rfl) ?_
            refine lv_iload hx hb dX7_grid_36 (lv_at hl 6 rfl) ?_
            refine zz_vV (As := [.int x3, .int x4, .int x5, .int x6]) (wc := [(mk, .inr (2, [.ref st, .ref ml, .int 0, .int 0])), (ml, .inl (g.2.1, 4, .inl (fun _ => 0)))]) (wr := [(h0, .inr (6, [.ref st, .ref mk, .ref lk, .ref ch, .ref ru, .ref mr, .int 0, .int 0])), (st, .inr (5, [.int 0, .int 0, .ref kd, .ref dp, .ref cl, .ref sa, .ref ln, .ref bt, .ref pn, .ref bf])), (kd, .inl (g.2.1, 60, .inl (fun _ => 0))), (dp, .inl (g.2.1, 60, .inl (fun _ => 0))), (cl, .inl (g.2.1, 60, .inl (fun _ => 0))), (sa, .inl (g.2.1, 60, .inl (fun _ => 0))), (ln, .inl (g.2.1, 60, .inl (fun _ => 0))), (bt, .inl (g.2.2.1, 4000, .inr (.inl (fun _ => 0))))]) (rest := []) hC hZ hl zc_X7_86 (co_tell g mk st ml x3 x4 x5 x6) [1, 2] [0, 3, 4, 5, 6, 7, 8, 9] rfl rfl (by decide) (ci := 2) (q0 := 0) rfl rfl rfl rfl (Nat.le_of_ble_eq_true rfl) ⟨⟨Nat.le_of_ble_eq_true rfl, Nat.le_of_ble_eq_true rfl⟩, Nat.le_of_ble_eq_true rfl, Nat.le_of_ble_eq_true rfl⟩ dX7_grid_38 (fun u28 H locs hp hZ => ?_)
            obtain rfl := hp
            have hZ : zz_Z g A s.heap [(h0, .inr (6, [.ref st, .ref mk, .ref lk, .ref ch, .ref ru, .ref mr, .int 0, .int 0])), (st, .inr (5, [.int 0, .int 0, .ref kd, .ref dp, .ref cl, .ref sa, .ref ln, .ref bt, .ref pn, .ref bf])), (kd, .inl (g.2.1, 60, .inl (fun _ => 0))), (dp, .inl (g.2.1, 60, .inl (fun _ => 0))), (cl, .inl (g.2.1, 60, .inl (fun _ => 0))), (sa, .inl (g.2.1, 60, .inl (fun _ => 0))), (ln, .inl (g.2.1, 60, .inl (fun _ => 0))), (bt, .inl (g.2.2.1, 4000, .inr (.inl (fun _ => 0)))), (mk, .inr (2, [.ref st, .ref ml, .int 0, .int 0])), (ml, .inl (g.2.1, 4, .inl (zz_l4 x3 x4 x5 x6)))] H locs := hZ
            refine lv_aload_n hx hb dX7_grid_41 rfl (lv_at hl 0 rfl) ?_
            refine zz_get hC hZ 0 rfl zf_X7_21 rfl dX7_grid_42 ?_
            refine lv_iload_n hx hb dX7_grid_45 rfl (lv_at hl 2 rfl) ?_
            refine zz_iV (As := [.int 2]) (wc := [(mk, .inr (2, [.ref st, .ref ml, .int 0, .int 0])), (ml, .inl (g.2.1, 4, .inl (zz_l4 x3 x4 x5 x6)))]) (wr := [(h0, .inr (6, [.ref st, .ref mk, .ref lk, .ref ch, .ref ru, .ref mr, .int 0, .int 0])), (st, .inr (5, [.int 0, .int 0, .ref kd, .ref dp, .ref cl, .ref sa, .ref ln, .ref bt, .ref pn, .ref bf])), (kd, .inl (g.2.1, 60, .inl (fun _ => 0))), (dp, .inl (g.2.1, 60, .inl (fun _ => 0))), (cl, .inl (g.2.1, 60, .inl (fun _ => 0))), (sa, .inl (g.2.1, 60, .inl (fun _ => 0))), (ln, .inl (g.2.1, 60, .inl (fun _ => 0))), (bt, .inl (g.2.2.1, 4000, .inr (.inl (fun _ => 0))))]) (rest := []) hC hZ hl zc_X7_90 (co_hasNeg g mk st ml x3 x4 x5 x6 2) [8, 9] [0, 1, 2, 3, 4, 5, 6, 7] rfl rfl (by decide) (ci := 2) (q0 := 0) rfl rfl rfl rfl (Nat.le_of_ble_eq_true rfl) ⟨⟨Nat.le_of_ble_eq_true rfl, Nat.le_of_ble_eq_true rfl⟩, Nat.le_of_ble_eq_true rfl, Nat.le_of_ble_eq_true rfl⟩ dX7_grid_46 (fun r29 u30 H locs hp hZ => ?_)
            obtain ⟨rfl, rfl⟩ := hp
            have hZ : zz_Z g A s.heap [(h0, .inr (6, [.ref st, .ref mk, .ref lk, .ref ch, .ref ru, .ref mr, .int 0, .int 0])), (st, .inr (5, [.int 0, .int 0, .ref kd, .ref dp, .ref cl, .ref sa, .ref ln, .ref bt, .ref pn, .ref bf])), (kd, .inl (g.2.1, 60, .inl (fun _ => 0))), (dp, .inl (g.2.1, 60, .inl (fun _ => 0))), (cl, .inl (g.2.1, 60, .inl (fun _ => 0))), (sa, .inl (g.2.1, 60, .inl (fun _ => 0))), (ln, .inl (g.2.1, 60, .inl (fun _ => 0))), (bt, .inl (g.2.2.1, 4000, .inr (.inl (fun _ => 0)))), (mk, .inr (2, [.ref st, .ref ml, .int 0, .int 0])), (ml, .inl (g.2.1, 4, .inl (zz_l4 x3 x4 x5 x6)))] H locs := hZ
            refine lv_if_eq (tgt := 58) hx hb dX7_grid_49 (by decide) (fun c31 => ?_) (fun c31 => ?_)
            · refine lv_aload_n hx hb dX7_grid_58 rfl (lv_at hl 0 rfl) ?_
              refine zz_get hC hZ 0 rfl zf_X7_21 rfl dX7_grid_59 ?_
              refine lv_iload_n hx hb dX7_grid_62 rfl (lv_at hl 2 rfl) ?_
              refine zz_iV (As := [.int 2]) (wc := [(mk, .inr (2, [.ref st, .ref ml, .int 0, .int 0])), (ml, .inl (g.2.1, 4, .inl (zz_l4 x3 x4 x5 x6))), (st, .inr (5, [.int 0, .int 0, .ref kd, .ref dp, .ref cl, .ref sa, .ref ln, .ref bt, .ref pn, .ref bf]))]) (wr := [(h0, .inr (6, [.ref st, .ref mk, .ref lk, .ref ch, .ref ru, .ref mr, .int 0, .int 0])), (kd, .inl (g.2.1, 60, .inl (fun _ => 0))), (dp, .inl (g.2.1, 60, .inl (fun _ => 0))), (cl, .inl (g.2.1, 60, .inl (fun _ => 0))), (sa, .inl (g.2.1, 60, .inl (fun _ => 0))), (ln, .inl (g.2.1, 60, .inl (fun _ => 0))), (bt, .inl (g.2.2.1, 4000, .inr (.inl (fun _ => 0))))]) (rest := []) hC hZ hl zc_X7_93 (co_gridFits g mk st ml kd dp cl sa ln bt pn bf x3 x4 x5 x6 2) [8, 9, 1] [0, 2, 3, 4, 5, 6, 7] rfl rfl (by decide) (ci := 2) (q0 := 0) rfl rfl rfl rfl (Nat.le_of_ble_eq_true rfl) ⟨⟨Nat.le_of_ble_eq_true rfl, Nat.le_of_ble_eq_true rfl⟩, Nat.le_of_ble_eq_true rfl, Nat.le_of_ble_eq_true rfl⟩ dX7_grid_63 (fun r32 u33 H locs hp hZ => ?_)
              obtain ⟨rfl, rfl⟩ := hp
              have hZ : zz_Z g A s.heap [(h0, .inr (6, [.ref st, .ref mk, .ref lk, .ref ch, .ref ru, .ref mr, .int 0, .int 0])), (kd, .inl (g.2.1, 60, .inl (fun _ => 0))), (dp, .inl (g.2.1, 60, .inl (fun _ => 0))), (cl, .inl (g.2.1, 60, .inl (fun _ => 0))), (sa, .inl (g.2.1, 60, .inl (fun _ => 0))), (ln, .inl (g.2.1, 60, .inl (fun _ => 0))), (bt, .inl (g.2.2.1, 4000, .inr (.inl (fun _ => 0)))), (mk, .inr (2, [.ref st, .ref ml, .int 0, .int 0])), (ml, .inl (g.2.1, 4, .inl (zz_l4 x3 x4 x5 x6))), (st, .inr (5, [.int 0, .int 0, .ref kd, .ref dp, .ref cl, .ref sa, .ref ln, .ref bt, .ref pn, .ref bf]))] H locs := hZ
              refine lv_if_ne (tgt := 76) hx hb dX7_grid_66 (by decide) (fun c34 => ?_) (fun c34 => ?_)
              · obtain ⟨ll, h_l⟩ := zl_len2 c31 c34
                refine lv_aload_n hx hb dX7_grid_76 rfl (lv_at hl 0 rfl) ?_
                refine lv_aload_n hx hb dX7_grid_77 rfl (lv_at hl 0 rfl) ?_
                refine zz_get hC hZ 0 rfl zf_X7_21 rfl dX7_grid_78 ?_
                refine lv_iload_n hx hb dX7_grid_81 rfl (lv_at hl 1 rfl) ?_
                refine lv_iload_n hx hb dX7_grid_82 rfl (lv_at hl 2 rfl) ?_
                refine zz_iV (As := [.int x1, .int 2]) (wc := [(mk, .inr (2, [.ref st, .ref ml, .int 0, .int 0])), (ml, .inl (g.2.1, 4, .inl (zz_l4 x3 x4 x5 x6))), (st, .inr (5, [.int 0, .int 0, .ref kd, .ref dp, .ref cl, .ref sa, .ref ln, .ref bt, .ref pn, .ref bf])), (kd, .inl (g.2.1, 60, .inl (fun _ => 0))), (dp, .inl (g.2.1, 60, .inl (fun _ => 0))), (cl, .inl (g.2.1, 60, .inl (fun _ => 0))), (sa, .inl (g.2.1, 60, .inl (fun _ => 0))), (ln, .inl (g.2.1, 60, .inl (fun _ => 0))), (bt, .inl (g.2.2.1, 4000, .inr (.inl (fun _ => 0))))]) (wr := [(h0, .inr (6, [.ref st, .ref mk, .ref lk, .ref ch, .ref ru, .ref mr, .int 0, .int 0]))]) (rest := [.ref h0]) hC hZ hl zc_X7_96 (co_makeGrid2 g mk st ml kd dp cl sa ln bt pn bf (zz_l4 x3 x4 x5 x6) ll x1 (h_l)) [7, 8, 9, 1, 2, 3, 4, 5, 6] [0] rfl rfl (by decide) (ci := 2) (q0 := 0) rfl rfl rfl rfl (Nat.le_of_ble_eq_true rfl) ⟨⟨Nat.le_of_ble_eq_true rfl, Nat.le_of_ble_eq_true rfl⟩, Nat.le_of_ble_eq_true rfl, Nat.le_of_ble_eq_true rfl⟩ dX7_grid_83 (fun r35 u36 H locs hp hZ => ?_)
                obtain rfl := hp
                have hZ : zz_Z g A s.heap [(h0, .inr (6, [.ref st, .ref mk, .ref lk, .ref ch, .ref ru, .ref mr, .int 0, .int 0]))] H locs := hZ.left
                refine zz_iV (As := [.int (nI 0)]) (wc := [(h0, .inr (6, [.ref st, .ref mk, .ref lk, .ref ch, .ref ru, .ref mr, .int 0, .int 0]))]) (wr := []) (rest := []) hC hZ hl zc_X7_100 (co_fine g h0 st mk lk ch ru mr 0 0 (nI 0)) [0] [] rfl rfl (by decide) (ci := 6) (q0 := 0) rfl rfl rfl rfl (Nat.le_of_ble_eq_true rfl) ⟨⟨Nat.le_of_ble_eq_true rfl, Nat.le_of_ble_eq_true rfl⟩, Nat.le_of_ble_eq_true rfl, Nat.le_of_ble_eq_true rfl⟩ dX7_grid_86 (fun r37 u38 H locs hp hZ => ?_)
                obtain ⟨rfl, rfl⟩ := hp
                have hZ : zz_Z g A s.heap [(h0, .inr (6, [.ref st, .ref mk, .ref lk, .ref ch, .ref ru, .ref mr, .int 0, .int 0]))] H locs := hZ
                exact zz_iret hC hZ (by show _ = _; rw [fn_cx_grid, if_neg c1, if_neg c4, if_neg c7, if_pos c10, if_neg (show ¬ ((2 : Int32) = 1) by decide), if_pos (show ((2 : Int32) = 2) from rfl), if_pos c31, if_neg c34]) (Nat.le_of_ble_eq_true rfl) (Nat.le_of_ble_eq_true rfl) dX7_grid_89
              · refine lv_aload_n hx hb dX7_grid_69 rfl (lv_at hl 0 rfl) ?_
                refine lv_bipush (v := 8) hx hb dX7_grid_70 (by decide) ?_
                refine zz_iV (As := [.int 8]) (wc := [(h0, .inr (6, [.ref st, .ref mk, .ref lk, .ref ch, .ref ru, .ref mr, .int 0, .int 0]))]) (wr := [(kd, .inl (g.2.1, 60, .inl (fun _ => 0))), (dp, .inl (g.2.1, 60, .inl (fun _ => 0))), (cl, .inl (g.2.1, 60, .inl (fun _ => 0))), (sa, .inl (g.2.1, 60, .inl (fun _ => 0))), (ln, .inl (g.2.1, 60, .inl (fun _ => 0))), (bt, .inl (g.2.2.1, 4000, .inr (.inl (fun _ => 0)))), (mk, .inr (2, [.ref st, .ref ml, .int 0, .int 0])), (ml, .inl (g.2.1, 4, .inl (zz_l4 x3 x4 x5 x6))), (st, .inr (5, [.int 0, .int 0, .ref kd, .ref dp, .ref cl, .ref sa, .ref ln, .ref bt, .ref pn, .ref bf]))]) (rest := []) hC hZ hl zc_X7_65 (co_fail g h0 st mk lk ch ru mr 0 0 8) [0] [1, 2, 3, 4, 5, 6, 7, 8, 9] rfl rfl (by decide) (ci := 6) (q0 := 0) rfl rfl rfl rfl (Nat.le_of_ble_eq_true rfl) ⟨⟨Nat.le_of_ble_eq_true rfl, Nat.le_of_ble_eq_true rfl⟩, Nat.le_of_ble_eq_true rfl, Nat.le_of_ble_eq_true rfl⟩ dX7_grid_72 (fun r39 u40 H locs hp hZ => ?_)
                obtain ⟨rfl, rfl⟩ := hp
                have hZ : zz_Z g A s.heap [(kd, .inl (g.2.1, 60, .inl (fun _ => 0))), (dp, .inl (g.2.1, 60, .inl (fun _ => 0))), (cl, .inl (g.2.1, 60, .inl (fun _ => 0))), (sa, .inl (g.2.1, 60, .inl (fun _ => 0))), (ln, .inl (g.2.1, 60, .inl (fun _ => 0))), (bt, .inl (g.2.2.1, 4000, .inr (.inl (fun _ => 0)))), (mk, .inr (2, [.ref st, .ref ml, .int 0, .int 0])), (ml, .inl (g.2.1, 4, .inl (zz_l4 x3 x4 x5 x6))), (st, .inr (5, [.int 0, .int 0, .ref kd, .ref dp, .ref cl, .ref sa, .ref ln, .ref bt, .ref pn, .ref bf])), (h0, .inr (6, [.ref st, .ref mk, .ref lk, .ref ch, .ref ru, .ref mr, .int 0, .int 8]))] H locs := hZ
                exact zz_iret hC hZ (by show _ = _; rw [fn_cx_grid, if_neg c1, if_neg c4, if_neg c7, if_pos c10, if_neg (show ¬ ((2 : Int32) = 1) by decide), if_pos (show ((2 : Int32) = 2) from rfl), if_pos c31, if_pos c34]) (Nat.le_of_ble_eq_true rfl) (Nat.le_of_ble_eq_true rfl) dX7_grid_75
            · refine lv_aload_n hx hb dX7_grid_52 rfl (lv_at hl 0 rfl) ?_
              refine lv_iconst (v := 4) hx hb dX7_grid_53 (by decide) ?_
              refine zz_iV (As := [.int 4]) (wc := [(h0, .inr (6, [.ref st, .ref mk, .ref lk, .ref ch, .ref ru, .ref mr, .int 0, .int 0]))]) (wr := [(st, .inr (5, [.int 0, .int 0, .ref kd, .ref dp, .ref cl, .ref sa, .ref ln, .ref bt, .ref pn, .ref bf])), (kd, .inl (g.2.1, 60, .inl (fun _ => 0))), (dp, .inl (g.2.1, 60, .inl (fun _ => 0))), (cl, .inl (g.2.1, 60, .inl (fun _ => 0))), (sa, .inl (g.2.1, 60, .inl (fun _ => 0))), (ln, .inl (g.2.1, 60, .inl (fun _ => 0))), (bt, .inl (g.2.2.1, 4000, .inr (.inl (fun _ => 0)))), (mk, .inr (2, [.ref st, .ref ml, .int 0, .int 0])), (ml, .inl (g.2.1, 4, .inl (zz_l4 x3 x4 x5 x6)))]) (rest := []) hC hZ hl zc_X7_65 (co_fail g h0 st mk lk ch ru mr 0 0 4) [0] [1, 2, 3, 4, 5, 6, 7, 8, 9] rfl rfl (by decide) (ci := 6) (q0 := 0) rfl rfl rfl rfl (Nat.le_of_ble_eq_true rfl) ⟨⟨Nat.le_of_ble_eq_true rfl, Nat.le_of_ble_eq_true rfl⟩, Nat.le_of_ble_eq_true rfl, Nat.le_of_ble_eq_true rfl⟩ dX7_grid_54 (fun r41 u42 H locs hp hZ => ?_)
              obtain ⟨rfl, rfl⟩ := hp
              have hZ : zz_Z g A s.heap [(st, .inr (5, [.int 0, .int 0, .ref kd, .ref dp, .ref cl, .ref sa, .ref ln, .ref bt, .ref pn, .ref bf])), (kd, .inl (g.2.1, 60, .inl (fun _ => 0))), (dp, .inl (g.2.1, 60, .inl (fun _ => 0))), (cl, .inl (g.2.1, 60, .inl (fun _ => 0))), (sa, .inl (g.2.1, 60, .inl (fun _ => 0))), (ln, .inl (g.2.1, 60, .inl (fun _ => 0))), (bt, .inl (g.2.2.1, 4000, .inr (.inl (fun _ => 0)))), (mk, .inr (2, [.ref st, .ref ml, .int 0, .int 0])), (ml, .inl (g.2.1, 4, .inl (zz_l4 x3 x4 x5 x6))), (h0, .inr (6, [.ref st, .ref mk, .ref lk, .ref ch, .ref ru, .ref mr, .int 0, .int 4]))] H locs := hZ
              exact zz_iret hC hZ (by show _ = _; rw [fn_cx_grid, if_neg c1, if_neg c4, if_neg c7, if_pos c10, if_neg (show ¬ ((2 : Int32) = 1) by decide), if_pos (show ((2 : Int32) = 2) from rfl), if_neg c31]) (Nat.le_of_ble_eq_true rfl) (Nat.le_of_ble_eq_true rfl) dX7_grid_57
          · refine lv_aload_n hx hb dX7_grid_27 rfl (lv_at hl 0 rfl) ?_
            refine zz_get hC hZ 0 rfl zf_X7_21 rfl dX7_grid_28 ?_
            refine lv_iload_n hx hb dX7_grid_31 rfl (lv_at hl 3 rfl) ?_
            refine lv_iload hx hb dX7_grid_32 (lv_at hl 4 rfl) ?_
            refine lv_iload hx hb dX7_grid_34 (lv_at hl 5 rfl) ?_
            refine lv_iload hx hb dX7_grid_36 (lv_at hl 6 rfl) ?_
            refine zz_vV (As := [.int x3, .int x4, .int x5, .int x6]) (wc := [(mk, .inr (2, [.ref st, .ref ml, .int 0, .int 0])), (ml, .inl (g.2.1, 4, .inl (fun _ => 0)))]) (wr := [(h0, .inr (6, [.ref st, .ref mk, .ref lk, .ref ch, .ref ru, .ref mr, .int 0, .int 0])), (st, .inr (5, [.int 0, .int 0, .ref kd, .ref dp, .ref cl, .ref sa, .ref ln, .ref bt, .ref pn, .ref bf])), (kd, .inl (g.2.1, 60, .inl (fun _ => 0))), (dp, .inl (g.2.1, 60, .inl (fun _ => 0))), (cl, .inl (g.2.1, 60, .inl (fun _ => 0))), (sa, .inl (g.2.1, 60, .inl (fun _ => 0))), (ln, .inl (g.2.1, 60, .inl (fun _ => 0))), (bt, .inl (g.2.2.1, 4000, .inr (.inl (fun _ => 0))))]) (rest := []) hC hZ hl zc_X7_86 (co_tell g mk st ml x3 x4 x5 x6) [1, 2] [0, 3, 4, 5, 6, 7, 8, 9] rfl rfl (by decide) (ci := 2) (q0 := 0) rfl rfl rfl rfl (Nat.le_of_ble_eq_true rfl) ⟨⟨Nat.le_of_ble_eq_true rfl, Nat.le_of_ble_eq_true rfl⟩, Nat.le_of_ble_eq_true rfl, Nat.le_of_ble_eq_true rfl⟩ dX7_grid_38 (fun u44 H locs hp hZ => ?_)
            obtain rfl := hp
            have hZ : zz_Z g A s.heap [(h0, .inr (6, [.ref st, .ref mk, .ref lk, .ref ch, .ref ru, .ref mr, .int 0, .int 0])), (st, .inr (5, [.int 0, .int 0, .ref kd, .ref dp, .ref cl, .ref sa, .ref ln, .ref bt, .ref pn, .ref bf])), (kd, .inl (g.2.1, 60, .inl (fun _ => 0))), (dp, .inl (g.2.1, 60, .inl (fun _ => 0))), (cl, .inl (g.2.1, 60, .inl (fun _ => 0))), (sa, .inl (g.2.1, 60, .inl (fun _ => 0))), (ln, .inl (g.2.1, 60, .inl (fun _ => 0))), (bt, .inl (g.2.2.1, 4000, .inr (.inl (fun _ => 0)))), (mk, .inr (2, [.ref st, .ref ml, .int 0, .int 0])), (ml, .inl (g.2.1, 4, .inl (zz_l4 x3 x4 x5 x6)))] H locs := hZ
            refine lv_aload_n hx hb dX7_grid_41 rfl (lv_at hl 0 rfl) ?_
            refine zz_get hC hZ 0 rfl zf_X7_21 rfl dX7_grid_42 ?_
            refine lv_iload_n hx hb dX7_grid_45 rfl (lv_at hl 2 rfl) ?_
            refine zz_iV (As := [.int 3]) (wc := [(mk, .inr (2, [.ref st, .ref ml, .int 0, .int 0])), (ml, .inl (g.2.1, 4, .inl (zz_l4 x3 x4 x5 x6)))]) (wr := [(h0, .inr (6, [.ref st, .ref mk, .ref lk, .ref ch, .ref ru, .ref mr, .int 0, .int 0])), (st, .inr (5, [.int 0, .int 0, .ref kd, .ref dp, .ref cl, .ref sa, .ref ln, .ref bt, .ref pn, .ref bf])), (kd, .inl (g.2.1, 60, .inl (fun _ => 0))), (dp, .inl (g.2.1, 60, .inl (fun _ => 0))), (cl, .inl (g.2.1, 60, .inl (fun _ => 0))), (sa, .inl (g.2.1, 60, .inl (fun _ => 0))), (ln, .inl (g.2.1, 60, .inl (fun _ => 0))), (bt, .inl (g.2.2.1, 4000, .inr (.inl (fun _ => 0))))]) (rest := []) hC hZ hl zc_X7_90 (co_hasNeg g mk st ml x3 x4 x5 x6 3) [8, 9] [0, 1, 2, 3, 4, 5, 6, 7] rfl rfl (by decide) (ci := 2) (q0 := 0) rfl rfl rfl rfl (Nat.le_of_ble_eq_true rfl) ⟨⟨Nat.le_of_ble_eq_true rfl, Nat.le_of_ble_eq_true rfl⟩, Nat.le_of_ble_eq_true rfl, Nat.le_of_ble_eq_true rfl⟩ dX7_grid_46 (fun r45 u46 H locs hp hZ => ?_)
            obtain ⟨rfl, rfl⟩ := hp
            have hZ : zz_Z g A s.heap [(h0, .inr (6, [.ref st, .ref mk, .ref lk, .ref ch, .ref ru, .ref mr, .int 0, .int 0])), (st, .inr (5, [.int 0, .int 0, .ref kd, .ref dp, .ref cl, .ref sa, .ref ln, .ref bt, .ref pn, .ref bf])), (kd, .inl (g.2.1, 60, .inl (fun _ => 0))), (dp, .inl (g.2.1, 60, .inl (fun _ => 0))), (cl, .inl (g.2.1, 60, .inl (fun _ => 0))), (sa, .inl (g.2.1, 60, .inl (fun _ => 0))), (ln, .inl (g.2.1, 60, .inl (fun _ => 0))), (bt, .inl (g.2.2.1, 4000, .inr (.inl (fun _ => 0)))), (mk, .inr (2, [.ref st, .ref ml, .int 0, .int 0])), (ml, .inl (g.2.1, 4, .inl (zz_l4 x3 x4 x5 x6)))] H locs := hZ
            refine lv_if_eq (tgt := 58) hx hb dX7_grid_49 (by decide) (fun c47 => ?_) (fun c47 => ?_)
            · refine lv_aload_n hx hb dX7_grid_58 rfl (lv_at hl 0 rfl) ?_
              refine zz_get hC hZ 0 rfl zf_X7_21 rfl dX7_grid_59 ?_
              refine lv_iload_n hx hb dX7_grid_62 rfl (lv_at hl 2 rfl) ?_
              refine zz_iV (As := [.int 3]) (wc := [(mk, .inr (2, [.ref st, .ref ml, .int 0, .int 0])), (ml, .inl (g.2.1, 4, .inl (zz_l4 x3 x4 x5 x6))), (st, .inr (5, [.int 0, .int 0, .ref kd, .ref dp, .ref cl, .ref sa, .ref ln, .ref bt, .ref pn, .ref bf]))]) (wr := [(h0, .inr (6, [.ref st, .ref mk, .ref lk, .ref ch, .ref ru, .ref mr, .int 0, .int 0])), (kd, .inl (g.2.1, 60, .inl (fun _ => 0))), (dp, .inl (g.2.1, 60, .inl (fun _ => 0))), (cl, .inl (g.2.1, 60, .inl (fun _ => 0))), (sa, .inl (g.2.1, 60, .inl (fun _ => 0))), (ln, .inl (g.2.1, 60, .inl (fun _ => 0))), (bt, .inl (g.2.2.1, 4000, .inr (.inl (fun _ => 0))))]) (rest := []) hC hZ hl zc_X7_93 (co_gridFits g mk st ml kd dp cl sa ln bt pn bf x3 x4 x5 x6 3) [8, 9, 1] [0, 2, 3, 4, 5, 6, 7] rfl rfl (by decide) (ci := 2) (q0 := 0) rfl rfl rfl rfl (Nat.le_of_ble_eq_true rfl) ⟨⟨Nat.le_of_ble_eq_true rfl, Nat.le_of_ble_eq_true rfl⟩, Nat.le_of_ble_eq_true rfl, Nat.le_of_ble_eq_true rfl⟩ dX7_grid_63 (fun r48 u49 H locs hp hZ => ?_)
              obtain ⟨rfl, rfl⟩ := hp
              have hZ : zz_Z g A s.heap [(h0, .inr (6, [.ref st, .ref mk, .ref lk, .ref ch, .ref ru, .ref mr, .int 0, .int 0])), (kd, .inl (g.2.1, 60, .inl (fun _ => 0))), (dp, .inl (g.2.1, 60, .inl (fun _ => 0))), (cl, .inl (g.2.1, 60, .inl (fun _ => 0))), (sa, .inl (g.2.1, 60, .inl (fun _ => 0))), (ln, .inl (g.2.1, 60, .inl (fun _ => 0))), (bt, .inl (g.2.2.1, 4000, .inr (.inl (fun _ => 0)))), (mk, .inr (2, [.ref st, .ref ml, .int 0, .int 0])), (ml, .inl (g.2.1, 4, .inl (zz_l4 x3 x4 x5 x6))), (st, .inr (5, [.int 0, .int 0, .ref kd, .ref dp, .ref cl, .ref sa, .ref ln, .ref bt, .ref pn, .ref bf]))] H locs := hZ
              refine lv_if_ne (tgt := 76) hx hb dX7_grid_66 (by decide) (fun c50 => ?_) (fun c50 => ?_)
              · obtain ⟨ll, h_l⟩ := zl_len3 c47 c50
                refine lv_aload_n hx hb dX7_grid_76 rfl (lv_at hl 0 rfl) ?_
                refine lv_aload_n hx hb dX7_grid_77 rfl (lv_at hl 0 rfl) ?_
                refine zz_get hC hZ 0 rfl zf_X7_21 rfl dX7_grid_78 ?_
                refine lv_iload_n hx hb dX7_grid_81 rfl (lv_at hl 1 rfl) ?_
                refine lv_iload_n hx hb dX7_grid_82 rfl (lv_at hl 2 rfl) ?_
                refine zz_iV (As := [.int x1, .int 3]) (wc := [(mk, .inr (2, [.ref st, .ref ml, .int 0, .int 0])), (ml, .inl (g.2.1, 4, .inl (zz_l4 x3 x4 x5 x6))), (st, .inr (5, [.int 0, .int 0, .ref kd, .ref dp, .ref cl, .ref sa, .ref ln, .ref bt, .ref pn, .ref bf])), (kd, .inl (g.2.1, 60, .inl (fun _ => 0))), (dp, .inl (g.2.1, 60, .inl (fun _ => 0))), (cl, .inl (g.2.1, 60, .inl (fun _ => 0))), (sa, .inl (g.2.1, 60, .inl (fun _ => 0))), (ln, .inl (g.2.1, 60, .inl (fun _ => 0))), (bt, .inl (g.2.2.1, 4000, .inr (.inl (fun _ => 0))))]) (wr := [(h0, .inr (6, [.ref st, .ref mk, .ref lk, .ref ch, .ref ru, .ref mr, .int 0, .int 0]))]) (rest := [.ref h0]) hC hZ hl zc_X7_96 (co_makeGrid3 g mk st ml kd dp cl sa ln bt pn bf (zz_l4 x3 x4 x5 x6) ll x1 (h_l)) [7, 8, 9, 1, 2, 3, 4, 5, 6] [0] rfl rfl (by decide) (ci := 2) (q0 := 0) rfl rfl rfl rfl (Nat.le_of_ble_eq_true rfl) ⟨⟨Nat.le_of_ble_eq_true rfl, Nat.le_of_ble_eq_true rfl⟩, Nat.le_of_ble_eq_true rfl, Nat.le_of_ble_eq_true rfl⟩ dX7_grid_83 (fun r51 u52 H locs hp hZ => ?_)
                obtain rfl := hp
                have hZ : zz_Z g A s.heap [(h0, .inr (6, [.ref st, .ref mk, .ref lk, .ref ch, .ref ru, .ref mr, .int 0, .int 0]))] H locs := hZ.left
                refine zz_iV (As := [.int (nI 0)]) (wc := [(h0, .inr (6, [.ref st, .ref mk, .ref lk, .ref ch, .ref ru, .ref mr, .int 0, .int 0]))]) (wr := []) (rest := []) hC hZ hl zc_X7_100 (co_fine g h0 st mk lk ch ru mr 0 0 (nI 0)) [0] [] rfl rfl (by decide) (ci := 6) (q0 := 0) rfl rfl rfl rfl (Nat.le_of_ble_eq_true rfl) ⟨⟨Nat.le_of_ble_eq_true rfl, Nat.le_of_ble_eq_true rfl⟩, Nat.le_of_ble_eq_true rfl, Nat.le_of_ble_eq_true rfl⟩ dX7_grid_86 (fun r53 u54 H locs hp hZ => ?_)
                obtain ⟨rfl, rfl⟩ := hp
                have hZ : zz_Z g A s.heap [(h0, .inr (6, [.ref st, .ref mk, .ref lk, .ref ch, .ref ru, .ref mr, .int 0, .int 0]))] H locs := hZ
                exact zz_iret hC hZ (by show _ = _; rw [fn_cx_grid, if_neg c1, if_neg c4, if_neg c7, if_pos c10, if_neg (show ¬ ((3 : Int32) = 1) by decide), if_neg (show ¬ ((3 : Int32) = 2) by decide), if_pos (show ((3 : Int32) = 3) from rfl), if_pos c47, if_neg c50]) (Nat.le_of_ble_eq_true rfl) (Nat.le_of_ble_eq_true rfl) dX7_grid_89
              · refine lv_aload_n hx hb dX7_grid_69 rfl (lv_at hl 0 rfl) ?_
                refine lv_bipush (v := 8) hx hb dX7_grid_70 (by decide) ?_
                refine zz_iV (As := [.int 8]) (wc := [(h0, .inr (6, [.ref st, .ref mk, .ref lk, .ref ch, .ref ru, .ref mr, .int 0, .int 0]))]) (wr := [(kd, .inl (g.2.1, 60, .inl (fun _ => 0))), (dp, .inl (g.2.1, 60, .inl (fun _ => 0))), (cl, .inl (g.2.1, 60, .inl (fun _ => 0))), (sa, .inl (g.2.1, 60, .inl (fun _ => 0))), (ln, .inl (g.2.1, 60, .inl (fun _ => 0))), (bt, .inl (g.2.2.1, 4000, .inr (.inl (fun _ => 0)))), (mk, .inr (2, [.ref st, .ref ml, .int 0, .int 0])), (ml, .inl (g.2.1, 4, .inl (zz_l4 x3 x4 x5 x6))), (st, .inr (5, [.int 0, .int 0, .ref kd, .ref dp, .ref cl, .ref sa, .ref ln, .ref bt, .ref pn, .ref bf]))]) (rest := []) hC hZ hl zc_X7_65 (co_fail g h0 st mk lk ch ru mr 0 0 8) [0] [1, 2, 3, 4, 5, 6, 7, 8, 9] rfl rfl (by decide) (ci := 6) (q0 := 0) rfl rfl rfl rfl (Nat.le_of_ble_eq_true rfl) ⟨⟨Nat.le_of_ble_eq_true rfl, Nat.le_of_ble_eq_true rfl⟩, Nat.le_of_ble_eq_true rfl, Nat.le_of_ble_eq_true rfl⟩ dX7_grid_72 (fun r55 u56 H locs hp hZ => ?_)
                obtain ⟨rfl, rfl⟩ := hp
                have hZ : zz_Z g A s.heap [(kd, .inl (g.2.1, 60, .inl (fun _ => 0))), (dp, .inl (g.2.1, 60, .inl (fun _ => 0))), (cl, .inl (g.2.1, 60, .inl (fun _ => 0))), (sa, .inl (g.2.1, 60, .inl (fun _ => 0))), (ln, .inl (g.2.1, 60, .inl (fun _ => 0))), (bt, .inl (g.2.2.1, 4000, .inr (.inl (fun _ => 0)))), (mk, .inr (2, [.ref st, .ref ml, .int 0, .int 0])), (ml, .inl (g.2.1, 4, .inl (zz_l4 x3 x4 x5 x6))), (st, .inr (5, [.int 0, .int 0, .ref kd, .ref dp, .ref cl, .ref sa, .ref ln, .ref bt, .ref pn, .ref bf])), (h0, .inr (6, [.ref st, .ref mk, .ref lk, .ref ch, .ref ru, .ref mr, .int 0, .int 8]))] H locs := hZ
                exact zz_iret hC hZ (by show _ = _; rw [fn_cx_grid, if_neg c1, if_neg c4, if_neg c7, if_pos c10, if_neg (show ¬ ((3 : Int32) = 1) by decide), if_neg (show ¬ ((3 : Int32) = 2) by decide), if_pos (show ((3 : Int32) = 3) from rfl), if_pos c47, if_pos c50]) (Nat.le_of_ble_eq_true rfl) (Nat.le_of_ble_eq_true rfl) dX7_grid_75
            · refine lv_aload_n hx hb dX7_grid_52 rfl (lv_at hl 0 rfl) ?_
              refine lv_iconst (v := 4) hx hb dX7_grid_53 (by decide) ?_
              refine zz_iV (As := [.int 4]) (wc := [(h0, .inr (6, [.ref st, .ref mk, .ref lk, .ref ch, .ref ru, .ref mr, .int 0, .int 0]))]) (wr := [(st, .inr (5, [.int 0, .int 0, .ref kd, .ref dp, .ref cl, .ref sa, .ref ln, .ref bt, .ref pn, .ref bf])), (kd, .inl (g.2.1, 60, .inl (fun _ => 0))), (dp, .inl (g.2.1, 60, .inl (fun _ => 0))), (cl, .inl (g.2.1, 60, .inl (fun _ => 0))), (sa, .inl (g.2.1, 60, .inl (fun _ => 0))), (ln, .inl (g.2.1, 60, .inl (fun _ => 0))), (bt, .inl (g.2.2.1, 4000, .inr (.inl (fun _ => 0)))), (mk, .inr (2, [.ref st, .ref ml, .int 0, .int 0])), (ml, .inl (g.2.1, 4, .inl (zz_l4 x3 x4 x5 x6)))]) (rest := []) hC hZ hl zc_X7_65 (co_fail g h0 st mk lk ch ru mr 0 0 4) [0] [1, 2, 3, 4, 5, 6, 7, 8, 9] rfl rfl (by decide) (ci := 6) (q0 := 0) rfl rfl rfl rfl (Nat.le_of_ble_eq_true rfl) ⟨⟨Nat.le_of_ble_eq_true rfl, Nat.le_of_ble_eq_true rfl⟩, Nat.le_of_ble_eq_true rfl, Nat.le_of_ble_eq_true rfl⟩ dX7_grid_54 (fun r57 u58 H locs hp hZ => ?_)
              obtain ⟨rfl, rfl⟩ := hp
              have hZ : zz_Z g A s.heap [(st, .inr (5, [.int 0, .int 0, .ref kd, .ref dp, .ref cl, .ref sa, .ref ln, .ref bt, .ref pn, .ref bf])), (kd, .inl (g.2.1, 60, .inl (fun _ => 0))), (dp, .inl (g.2.1, 60, .inl (fun _ => 0))), (cl, .inl (g.2.1, 60, .inl (fun _ => 0))), (sa, .inl (g.2.1, 60, .inl (fun _ => 0))), (ln, .inl (g.2.1, 60, .inl (fun _ => 0))), (bt, .inl (g.2.2.1, 4000, .inr (.inl (fun _ => 0)))), (mk, .inr (2, [.ref st, .ref ml, .int 0, .int 0])), (ml, .inl (g.2.1, 4, .inl (zz_l4 x3 x4 x5 x6))), (h0, .inr (6, [.ref st, .ref mk, .ref lk, .ref ch, .ref ru, .ref mr, .int 0, .int 4]))] H locs := hZ
              exact zz_iret hC hZ (by show _ = _; rw [fn_cx_grid, if_neg c1, if_neg c4, if_neg c7, if_pos c10, if_neg (show ¬ ((3 : Int32) = 1) by decide), if_neg (show ¬ ((3 : Int32) = 2) by decide), if_pos (show ((3 : Int32) = 3) from rfl), if_neg c47]) (Nat.le_of_ble_eq_true rfl) (Nat.le_of_ble_eq_true rfl) dX7_grid_57
          · refine lv_aload_n hx hb dX7_grid_27 rfl (lv_at hl 0 rfl) ?_
            refine zz_get hC hZ 0 rfl zf_X7_21 rfl dX7_grid_28 ?_
            refine lv_iload_n hx hb dX7_grid_31 rfl (lv_at hl 3 rfl) ?_
            refine lv_iload hx hb dX7_grid_32 (lv_at hl 4 rfl) ?_
            refine lv_iload hx hb dX7_grid_34 (lv_at hl 5 rfl) ?_
            refine lv_iload hx hb dX7_grid_36 (lv_at hl 6 rfl) ?_
            refine zz_vV (As := [.int x3, .int x4, .int x5, .int x6]) (wc := [(mk, .inr (2, [.ref st, .ref ml, .int 0, .int 0])), (ml, .inl (g.2.1, 4, .inl (fun _ => 0)))]) (wr := [(h0, .inr (6, [.ref st, .ref mk, .ref lk, .ref ch, .ref ru, .ref mr, .int 0, .int 0])), (st, .inr (5, [.int 0, .int 0, .ref kd, .ref dp, .ref cl, .ref sa, .ref ln, .ref bt, .ref pn, .ref bf])), (kd, .inl (g.2.1, 60, .inl (fun _ => 0))), (dp, .inl (g.2.1, 60, .inl (fun _ => 0))), (cl, .inl (g.2.1, 60, .inl (fun _ => 0))), (sa, .inl (g.2.1, 60, .inl (fun _ => 0))), (ln, .inl (g.2.1, 60, .inl (fun _ => 0))), (bt, .inl (g.2.2.1, 4000, .inr (.inl (fun _ => 0))))]) (rest := []) hC hZ hl zc_X7_86 (co_tell g mk st ml x3 x4 x5 x6) [1, 2] [0, 3, 4, 5, 6, 7, 8, 9] rfl rfl (by decide) (ci := 2) (q0 := 0) rfl rfl rfl rfl (Nat.le_of_ble_eq_true rfl) ⟨⟨Nat.le_of_ble_eq_true rfl, Nat.le_of_ble_eq_true rfl⟩, Nat.le_of_ble_eq_true rfl, Nat.le_of_ble_eq_true rfl⟩ dX7_grid_38 (fun u60 H locs hp hZ => ?_)
            obtain rfl := hp
            have hZ : zz_Z g A s.heap [(h0, .inr (6, [.ref st, .ref mk, .ref lk, .ref ch, .ref ru, .ref mr, .int 0, .int 0])), (st, .inr (5, [.int 0, .int 0, .ref kd, .ref dp, .ref cl, .ref sa, .ref ln, .ref bt, .ref pn, .ref bf])), (kd, .inl (g.2.1, 60, .inl (fun _ => 0))), (dp, .inl (g.2.1, 60, .inl (fun _ => 0))), (cl, .inl (g.2.1, 60, .inl (fun _ => 0))), (sa, .inl (g.2.1, 60, .inl (fun _ => 0))), (ln, .inl (g.2.1, 60, .inl (fun _ => 0))), (bt, .inl (g.2.2.1, 4000, .inr (.inl (fun _ => 0)))), (mk, .inr (2, [.ref st, .ref ml, .int 0, .int 0])), (ml, .inl (g.2.1, 4, .inl (zz_l4 x3 x4 x5 x6)))] H locs := hZ
            refine lv_aload_n hx hb dX7_grid_41 rfl (lv_at hl 0 rfl) ?_
            refine zz_get hC hZ 0 rfl zf_X7_21 rfl dX7_grid_42 ?_
            refine lv_iload_n hx hb dX7_grid_45 rfl (lv_at hl 2 rfl) ?_
            refine zz_iV (As := [.int 4]) (wc := [(mk, .inr (2, [.ref st, .ref ml, .int 0, .int 0])), (ml, .inl (g.2.1, 4, .inl (zz_l4 x3 x4 x5 x6)))]) (wr := [(h0, .inr (6, [.ref st, .ref mk, .ref lk, .ref ch, .ref ru, .ref mr, .int 0, .int 0])), (st, .inr (5, [.int 0, .int 0, .ref kd, .ref dp, .ref cl, .ref sa, .ref ln, .ref bt, .ref pn, .ref bf])), (kd, .inl (g.2.1, 60, .inl (fun _ => 0))), (dp, .inl (g.2.1, 60, .inl (fun _ => 0))), (cl, .inl (g.2.1, 60, .inl (fun _ => 0))), (sa, .inl (g.2.1, 60, .inl (fun _ => 0))), (ln, .inl (g.2.1, 60, .inl (fun _ => 0))), (bt, .inl (g.2.2.1, 4000, .inr (.inl (fun _ => 0))))]) (rest := []) hC hZ hl zc_X7_90 (co_hasNeg g mk st ml x3 x4 x5 x6 4) [8, 9] [0, 1, 2, 3, 4, 5, 6, 7] rfl rfl (by decide) (ci := 2) (q0 := 0) rfl rfl rfl rfl (Nat.le_of_ble_eq_true rfl) ⟨⟨Nat.le_of_ble_eq_true rfl, Nat.le_of_ble_eq_true rfl⟩, Nat.le_of_ble_eq_true rfl, Nat.le_of_ble_eq_true rfl⟩ dX7_grid_46 (fun r61 u62 H locs hp hZ => ?_)
            obtain ⟨rfl, rfl⟩ := hp
            have hZ : zz_Z g A s.heap [(h0, .inr (6, [.ref st, .ref mk, .ref lk, .ref ch, .ref ru, .ref mr, .int 0, .int 0])), (st, .inr (5, [.int 0, .int 0, .ref kd, .ref dp, .ref cl, .ref sa, .ref ln, .ref bt, .ref pn, .ref bf])), (kd, .inl (g.2.1, 60, .inl (fun _ => 0))), (dp, .inl (g.2.1, 60, .inl (fun _ => 0))), (cl, .inl (g.2.1, 60, .inl (fun _ => 0))), (sa, .inl (g.2.1, 60, .inl (fun _ => 0))), (ln, .inl (g.2.1, 60, .inl (fun _ => 0))), (bt, .inl (g.2.2.1, 4000, .inr (.inl (fun _ => 0)))), (mk, .inr (2, [.ref st, .ref ml, .int 0, .int 0])), (ml, .inl (g.2.1, 4, .inl (zz_l4 x3 x4 x5 x6)))] H locs := hZ
            refine lv_if_eq (tgt := 58) hx hb dX7_grid_49 (by decide) (fun c63 => ?_) (fun c63 => ?_)
            · refine lv_aload_n hx hb dX7_grid_58 rfl (lv_at hl 0 rfl) ?_
              refine zz_get hC hZ 0 rfl zf_X7_21 rfl dX7_grid_59 ?_
              refine lv_iload_n hx hb dX7_grid_62 rfl (lv_at hl 2 rfl) ?_
              refine zz_iV (As := [.int 4]) (wc := [(mk, .inr (2, [.ref st, .ref ml, .int 0, .int 0])), (ml, .inl (g.2.1, 4, .inl (zz_l4 x3 x4 x5 x6))), (st, .inr (5, [.int 0, .int 0, .ref kd, .ref dp, .ref cl, .ref sa, .ref ln, .ref bt, .ref pn, .ref bf]))]) (wr := [(h0, .inr (6, [.ref st, .ref mk, .ref lk, .ref ch, .ref ru, .ref mr, .int 0, .int 0])), (kd, .inl (g.2.1, 60, .inl (fun _ => 0))), (dp, .inl (g.2.1, 60, .inl (fun _ => 0))), (cl, .inl (g.2.1, 60, .inl (fun _ => 0))), (sa, .inl (g.2.1, 60, .inl (fun _ => 0))), (ln, .inl (g.2.1, 60, .inl (fun _ => 0))), (bt, .inl (g.2.2.1, 4000, .inr (.inl (fun _ => 0))))]) (rest := []) hC hZ hl zc_X7_93 (co_gridFits g mk st ml kd dp cl sa ln bt pn bf x3 x4 x5 x6 4) [8, 9, 1] [0, 2, 3, 4, 5, 6, 7] rfl rfl (by decide) (ci := 2) (q0 := 0) rfl rfl rfl rfl (Nat.le_of_ble_eq_true rfl) ⟨⟨Nat.le_of_ble_eq_true rfl, Nat.le_of_ble_eq_true rfl⟩, Nat.le_of_ble_eq_true rfl, Nat.le_of_ble_eq_true rfl⟩ dX7_grid_63 (fun r64 u65 H locs hp hZ => ?_)
              obtain ⟨rfl, rfl⟩ := hp
              have hZ : zz_Z g A s.heap [(h0, .inr (6, [.ref st, .ref mk, .ref lk, .ref ch, .ref ru, .ref mr, .int 0, .int 0])), (kd, .inl (g.2.1, 60, .inl (fun _ => 0))), (dp, .inl (g.2.1, 60, .inl (fun _ => 0))), (cl, .inl (g.2.1, 60, .inl (fun _ => 0))), (sa, .inl (g.2.1, 60, .inl (fun _ => 0))), (ln, .inl (g.2.1, 60, .inl (fun _ => 0))), (bt, .inl (g.2.2.1, 4000, .inr (.inl (fun _ => 0)))), (mk, .inr (2, [.ref st, .ref ml, .int 0, .int 0])), (ml, .inl (g.2.1, 4, .inl (zz_l4 x3 x4 x5 x6))), (st, .inr (5, [.int 0, .int 0, .ref kd, .ref dp, .ref cl, .ref sa, .ref ln, .ref bt, .ref pn, .ref bf]))] H locs := hZ
              refine lv_if_ne (tgt := 76) hx hb dX7_grid_66 (by decide) (fun c66 => ?_) (fun c66 => ?_)
              · obtain ⟨ll, h_l⟩ := zl_len4 c63 c66
                refine lv_aload_n hx hb dX7_grid_76 rfl (lv_at hl 0 rfl) ?_
                refine lv_aload_n hx hb dX7_grid_77 rfl (lv_at hl 0 rfl) ?_
                refine zz_get hC hZ 0 rfl zf_X7_21 rfl dX7_grid_78 ?_
                refine lv_iload_n hx hb dX7_grid_81 rfl (lv_at hl 1 rfl) ?_
                refine lv_iload_n hx hb dX7_grid_82 rfl (lv_at hl 2 rfl) ?_
                refine zz_iV (As := [.int x1, .int 4]) (wc := [(mk, .inr (2, [.ref st, .ref ml, .int 0, .int 0])), (ml, .inl (g.2.1, 4, .inl (zz_l4 x3 x4 x5 x6))), (st, .inr (5, [.int 0, .int 0, .ref kd, .ref dp, .ref cl, .ref sa, .ref ln, .ref bt, .ref pn, .ref bf])), (kd, .inl (g.2.1, 60, .inl (fun _ => 0))), (dp, .inl (g.2.1, 60, .inl (fun _ => 0))), (cl, .inl (g.2.1, 60, .inl (fun _ => 0))), (sa, .inl (g.2.1, 60, .inl (fun _ => 0))), (ln, .inl (g.2.1, 60, .inl (fun _ => 0))), (bt, .inl (g.2.2.1, 4000, .inr (.inl (fun _ => 0))))]) (wr := [(h0, .inr (6, [.ref st, .ref mk, .ref lk, .ref ch, .ref ru, .ref mr, .int 0, .int 0]))]) (rest := [.ref h0]) hC hZ hl zc_X7_96 (co_makeGrid4 g mk st ml kd dp cl sa ln bt pn bf (zz_l4 x3 x4 x5 x6) ll x1 (h_l)) [7, 8, 9, 1, 2, 3, 4, 5, 6] [0] rfl rfl (by decide) (ci := 2) (q0 := 0) rfl rfl rfl rfl (Nat.le_of_ble_eq_true rfl) ⟨⟨Nat.le_of_ble_eq_true rfl, Nat.le_of_ble_eq_true rfl⟩, Nat.le_of_ble_eq_true rfl, Nat.le_of_ble_eq_true rfl⟩ dX7_grid_83 (fun r67 u68 H locs hp hZ => ?_)
                obtain rfl := hp
                have hZ : zz_Z g A s.heap [(h0, .inr (6, [.ref st, .ref mk, .ref lk, .ref ch, .ref ru, .ref mr, .int 0, .int 0]))] H locs := hZ.left
                refine zz_iV (As := [.int (nI 0)]) (wc := [(h0, .inr (6, [.ref st, .ref mk, .ref lk, .ref ch, .ref ru, .ref mr, .int 0, .int 0]))]) (wr := []) (rest := []) hC hZ hl zc_X7_100 (co_fine g h0 st mk lk ch ru mr 0 0 (nI 0)) [0] [] rfl rfl (by decide) (ci := 6) (q0 := 0) rfl rfl rfl rfl (Nat.le_of_ble_eq_true rfl) ⟨⟨Nat.le_of_ble_eq_true rfl, Nat.le_of_ble_eq_true rfl⟩, Nat.le_of_ble_eq_true rfl, Nat.le_of_ble_eq_true rfl⟩ dX7_grid_86 (fun r69 u70 H locs hp hZ => ?_)
                obtain ⟨rfl, rfl⟩ := hp
                have hZ : zz_Z g A s.heap [(h0, .inr (6, [.ref st, .ref mk, .ref lk, .ref ch, .ref ru, .ref mr, .int 0, .int 0]))] H locs := hZ
                exact zz_iret hC hZ (by show _ = _; rw [fn_cx_grid, if_neg c1, if_neg c4, if_neg c7, if_pos c10, if_neg (show ¬ ((4 : Int32) = 1) by decide), if_neg (show ¬ ((4 : Int32) = 2) by decide), if_neg (show ¬ ((4 : Int32) = 3) by decide), if_pos c63, if_neg c66]) (Nat.le_of_ble_eq_true rfl) (Nat.le_of_ble_eq_true rfl) dX7_grid_89
              · refine lv_aload_n hx hb dX7_grid_69 rfl (lv_at hl 0 rfl) ?_
                refine lv_bipush (v := 8) hx hb dX7_grid_70 (by decide) ?_
                refine zz_iV (As := [.int 8]) (wc := [(h0, .inr (6, [.ref st, .ref mk, .ref lk, .ref ch, .ref ru, .ref mr, .int 0, .int 0]))]) (wr := [(kd, .inl (g.2.1, 60, .inl (fun _ => 0))), (dp, .inl (g.2.1, 60, .inl (fun _ => 0))), (cl, .inl (g.2.1, 60, .inl (fun _ => 0))), (sa, .inl (g.2.1, 60, .inl (fun _ => 0))), (ln, .inl (g.2.1, 60, .inl (fun _ => 0))), (bt, .inl (g.2.2.1, 4000, .inr (.inl (fun _ => 0)))), (mk, .inr (2, [.ref st, .ref ml, .int 0, .int 0])), (ml, .inl (g.2.1, 4, .inl (zz_l4 x3 x4 x5 x6))), (st, .inr (5, [.int 0, .int 0, .ref kd, .ref dp, .ref cl, .ref sa, .ref ln, .ref bt, .ref pn, .ref bf]))]) (rest := []) hC hZ hl zc_X7_65 (co_fail g h0 st mk lk ch ru mr 0 0 8) [0] [1, 2, 3, 4, 5, 6, 7, 8, 9] rfl rfl (by decide) (ci := 6) (q0 := 0) rfl rfl rfl rfl (Nat.le_of_ble_eq_true rfl) ⟨⟨Nat.le_of_ble_eq_true rfl, Nat.le_of_ble_eq_true rfl⟩, Nat.le_of_ble_eq_true rfl, Nat.le_of_ble_eq_true rfl⟩ dX7_grid_72 (fun r71 u72 H locs hp hZ => ?_)
                obtain ⟨rfl, rfl⟩ := hp
                have hZ : zz_Z g A s.heap [(kd, .inl (g.2.1, 60, .inl (fun _ => 0))), (dp, .inl (g.2.1, 60, .inl (fun _ => 0))), (cl, .inl (g.2.1, 60, .inl (fun _ => 0))), (sa, .inl (g.2.1, 60, .inl (fun _ => 0))), (ln, .inl (g.2.1, 60, .inl (fun _ => 0))), (bt, .inl (g.2.2.1, 4000, .inr (.inl (fun _ => 0)))), (mk, .inr (2, [.ref st, .ref ml, .int 0, .int 0])), (ml, .inl (g.2.1, 4, .inl (zz_l4 x3 x4 x5 x6))), (st, .inr (5, [.int 0, .int 0, .ref kd, .ref dp, .ref cl, .ref sa, .ref ln, .ref bt, .ref pn, .ref bf])), (h0, .inr (6, [.ref st, .ref mk, .ref lk, .ref ch, .ref ru, .ref mr, .int 0, .int 8]))] H locs := hZ
                exact zz_iret hC hZ (by show _ = _; rw [fn_cx_grid, if_neg c1, if_neg c4, if_neg c7, if_pos c10, if_neg (show ¬ ((4 : Int32) = 1) by decide), if_neg (show ¬ ((4 : Int32) = 2) by decide), if_neg (show ¬ ((4 : Int32) = 3) by decide), if_pos c63, if_pos c66]) (Nat.le_of_ble_eq_true rfl) (Nat.le_of_ble_eq_true rfl) dX7_grid_75
            · refine lv_aload_n hx hb dX7_grid_52 rfl (lv_at hl 0 rfl) ?_
              refine lv_iconst (v := 4) hx hb dX7_grid_53 (by decide) ?_
              refine zz_iV (As := [.int 4]) (wc := [(h0, .inr (6, [.ref st, .ref mk, .ref lk, .ref ch, .ref ru, .ref mr, .int 0, .int 0]))]) (wr := [(st, .inr (5, [.int 0, .int 0, .ref kd, .ref dp, .ref cl, .ref sa, .ref ln, .ref bt, .ref pn, .ref bf])), (kd, .inl (g.2.1, 60, .inl (fun _ => 0))), (dp, .inl (g.2.1, 60, .inl (fun _ => 0))), (cl, .inl (g.2.1, 60, .inl (fun _ => 0))), (sa, .inl (g.2.1, 60, .inl (fun _ => 0))), (ln, .inl (g.2.1, 60, .inl (fun _ => 0))), (bt, .inl (g.2.2.1, 4000, .inr (.inl (fun _ => 0)))), (mk, .inr (2, [.ref st, .ref ml, .int 0, .int 0])), (ml, .inl (g.2.1, 4, .inl (zz_l4 x3 x4 x5 x6)))]) (rest := []) hC hZ hl zc_X7_65 (co_fail g h0 st mk lk ch ru mr 0 0 4) [0] [1, 2, 3, 4, 5, 6, 7, 8, 9] rfl rfl (by decide) (ci := 6) (q0 := 0) rfl rfl rfl rfl (Nat.le_of_ble_eq_true rfl) ⟨⟨Nat.le_of_ble_eq_true rfl, Nat.le_of_ble_eq_true rfl⟩, Nat.le_of_ble_eq_true rfl, Nat.le_of_ble_eq_true rfl⟩ dX7_grid_54 (fun r73 u74 H locs hp hZ => ?_)
              obtain ⟨rfl, rfl⟩ := hp
              have hZ : zz_Z g A s.heap [(st, .inr (5, [.int 0, .int 0, .ref kd, .ref dp, .ref cl, .ref sa, .ref ln, .ref bt, .ref pn, .ref bf])), (kd, .inl (g.2.1, 60, .inl (fun _ => 0))), (dp, .inl (g.2.1, 60, .inl (fun _ => 0))), (cl, .inl (g.2.1, 60, .inl (fun _ => 0))), (sa, .inl (g.2.1, 60, .inl (fun _ => 0))), (ln, .inl (g.2.1, 60, .inl (fun _ => 0))), (bt, .inl (g.2.2.1, 4000, .inr (.inl (fun _ => 0)))), (mk, .inr (2, [.ref st, .ref ml, .int 0, .int 0])), (ml, .inl (g.2.1, 4, .inl (zz_l4 x3 x4 x5 x6))), (h0, .inr (6, [.ref st, .ref mk, .ref lk, .ref ch, .ref ru, .ref mr, .int 0, .int 4]))] H locs := hZ
              exact zz_iret hC hZ (by show _ = _; rw [fn_cx_grid, if_neg c1, if_neg c4, if_neg c7, if_pos c10, if_neg (show ¬ ((4 : Int32) = 1) by decide), if_neg (show ¬ ((4 : Int32) = 2) by decide), if_neg (show ¬ ((4 : Int32) = 3) by decide), if_neg c63]) (Nat.le_of_ble_eq_true rfl) (Nat.le_of_ble_eq_true rfl) dX7_grid_57
        · refine lv_aload_n hx hb dX7_grid_20 rfl (lv_at hl 0 rfl) ?_
          refine lv_bipush (v := 9) hx hb dX7_grid_21 (by decide) ?_
          refine zz_iV (As := [.int 9]) (wc := [(h0, .inr (6, [.ref st, .ref mk, .ref lk, .ref ch, .ref ru, .ref mr, .int 0, .int 0]))]) (wr := [(mk, .inr (2, [.ref st, .ref ml, .int 0, .int 0])), (ml, .inl (g.2.1, 4, .inl (fun _ => 0))), (st, .inr (5, [.int 0, .int 0, .ref kd, .ref dp, .ref cl, .ref sa, .ref ln, .ref bt, .ref pn, .ref bf])), (kd, .inl (g.2.1, 60, .inl (fun _ => 0))), (dp, .inl (g.2.1, 60, .inl (fun _ => 0))), (cl, .inl (g.2.1, 60, .inl (fun _ => 0))), (sa, .inl (g.2.1, 60, .inl (fun _ => 0))), (ln, .inl (g.2.1, 60, .inl (fun _ => 0))), (bt, .inl (g.2.2.1, 4000, .inr (.inl (fun _ => 0))))]) (rest := []) hC hZ hl zc_X7_65 (co_fail g h0 st mk lk ch ru mr 0 0 9) [0] [1, 2, 3, 4, 5, 6, 7, 8, 9] rfl rfl (by decide) (ci := 6) (q0 := 0) rfl rfl rfl rfl (Nat.le_of_ble_eq_true rfl) ⟨⟨Nat.le_of_ble_eq_true rfl, Nat.le_of_ble_eq_true rfl⟩, Nat.le_of_ble_eq_true rfl, Nat.le_of_ble_eq_true rfl⟩ dX7_grid_23 (fun r75 u76 H locs hp hZ => ?_)
          obtain ⟨rfl, rfl⟩ := hp
          have hZ : zz_Z g A s.heap [(mk, .inr (2, [.ref st, .ref ml, .int 0, .int 0])), (ml, .inl (g.2.1, 4, .inl (fun _ => 0))), (st, .inr (5, [.int 0, .int 0, .ref kd, .ref dp, .ref cl, .ref sa, .ref ln, .ref bt, .ref pn, .ref bf])), (kd, .inl (g.2.1, 60, .inl (fun _ => 0))), (dp, .inl (g.2.1, 60, .inl (fun _ => 0))), (cl, .inl (g.2.1, 60, .inl (fun _ => 0))), (sa, .inl (g.2.1, 60, .inl (fun _ => 0))), (ln, .inl (g.2.1, 60, .inl (fun _ => 0))), (bt, .inl (g.2.2.1, 4000, .inr (.inl (fun _ => 0)))), (h0, .inr (6, [.ref st, .ref mk, .ref lk, .ref ch, .ref ru, .ref mr, .int 0, .int 9]))] H locs := hZ
          exact zz_iret hC hZ (by show _ = _; rw [fn_cx_grid, if_neg c1, if_neg c4, if_neg c7, if_neg c10]) (Nat.le_of_ble_eq_true rfl) (Nat.le_of_ble_eq_true rfl) dX7_grid_26
