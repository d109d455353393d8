theorem zl_keep {mb1 btf : Nat → Int64} {i : Nat} (h : ∀ j, j < i → mb1 j = btf j) : ∀ j, j < i + 1 → vp_updL mb1 i (btf i) j = btf j := by
  intro j hj
  by_cases e0 : j = i
  · subst e0; exact pk_uLs
  · exact (pk_uLn e0).trans (h j (by omega))
theorem zl_keepP {mp1 pnf : Nat → Int32} {i : Nat} (h : ∀ j, j < i → mp1 j = pnf j &&& 1) : ∀ j, j < i + 1 → upd mp1 i (pnf i &&& 1) j = pnf j &&& 1 := by
  intro j hj
  by_cases e0 : j = i
  · subst e0; exact pk_us
  · exact (pk_un e0).trans (h j (by omega))
theorem dg_X4_keep_0 : (decode cX4_keep 0 = .ok (.aload_n 0, 1)) ∧ (decode cX4_keep 1 = .ok (.aload_n 1, 1)) ∧ (decode cX4_keep 2 = .ok (.getfield 19, 3)) ∧ (decode cX4_keep 5 = .ok (.putfield 25, 3)) ∧ (decode cX4_keep 8 = .ok (.iconst 0, 1)) ∧ (decode cX4_keep 9 = .ok (.istore_n 2, 1)) ∧ (decode cX4_keep 10 = .ok (.iload_n 2, 1)) ∧ (decode cX4_keep 11 = .ok (.aload_n 0, 1)) ∧ (decode cX4_keep 12 = .ok (.getfield 25, 3)) ∧ (decode cX4_keep 15 = .ok (.if_icmp .ge 33, 3)) ∧ (decode cX4_keep 18 = .ok (.aload_n 0, 1)) ∧ (decode cX4_keep 19 = .ok (.getfield 9, 3)) ∧ (decode cX4_keep 22 = .ok (.iload_n 2, 1)) ∧ (decode cX4_keep 23 = .ok (.aload_n 1, 1)) ∧ (decode cX4_keep 24 = .ok (.getfield 26, 3)) ∧ (decode cX4_keep 27 = .ok (.iload_n 2, 1)) := by decide +kernel
theorem dX4_keep_0 : decode cX4_keep 0 = .ok (.aload_n 0, 1) := dg_X4_keep_0.1
theorem dX4_keep_1 : decode cX4_keep 1 = .ok (.aload_n 1, 1) := dg_X4_keep_0.2.1
theorem dX4_keep_2 : decode cX4_keep 2 = .ok (.getfield 19, 3) := dg_X4_keep_0.2.2.1
theorem dX4_keep_5 : decode cX4_keep 5 = .ok (.putfield 25, 3) := dg_X4_keep_0.2.2.2.1
theorem dX4_keep_8 : decode cX4_keep 8 = .ok (.iconst 0, 1) := dg_X4_keep_0.2.2.2.2.1
theorem dX4_keep_9 : decode cX4_keep 9 = .ok (.istore_n 2, 1) := dg_X4_keep_0.2.2.2.2.2.1
theorem dX4_keep_10 : decode cX4_keep 10 = .ok (.iload_n 2, 1) := dg_X4_keep_0.2.2.2.2.2.2.1
theorem dX4_keep_11 : decode cX4_keep 11 = .ok (.aload_n 0, 1) := dg_X4_keep_0.2.2.2.2.2.2.2.1
theorem dX4_keep_12 : decode cX4_keep 12 = .ok (.getfield 25, 3) := dg_X4_keep_0.2.2.2.2.2.2.2.2.1
theorem dX4_keep_15 : decode cX4_keep 15 = .ok (.if_icmp .ge 33, 3) := dg_X4_keep_0.2.2.2.2.2.2.2.2.2.1
theorem dX4_keep_18 : decode cX4_keep 18 = .ok (.aload_n 0, 1) := dg_X4_keep_0.2.2.2.2.2.2.2.2.2.2.1
theorem dX4_keep_19 : decode cX4_keep 19 = .ok (.getfield 9, 3) := dg_X4_keep_0.2.2.2.2.2.2.2.2.2.2.2.1
theorem dX4_keep_22 : decode cX4_keep 22 = .ok (.iload_n 2, 1) := dg_X4_keep_0.2.2.2.2.2.2.2.2.2.2.2.2.1
theorem dX4_keep_23 : decode cX4_keep 23 = .ok (.aload_n 1, 1) := dg_X4_keep_0.2.2.2.2.2.2.2.2.2.2.2.2.2.1
theorem dX4_keep_24 : decode cX4_keep 24 = .ok (.getfield 26, 3) := dg_X4_keep_0.2.2.2.2.2.2.2.2.2.2.2.2.2.2.1
theorem dX4_keep_27 : decode cX4_keep 27 = .ok (.iload_n 2, 1) := dg_X4_keep_0.2.2.2.2.2.2.2.2.2.2.2.2.2.2.2
theorem dg_X4_keep_28 : (decode cX4_keep 28 = .ok (.laload, 1)) ∧ (decode cX4_keep 29 = .ok (.lastore, 1)) ∧ (decode cX4_keep 30 = .ok (.aload_n 0, 1)) ∧ (decode cX4_keep 31 = .ok (.getfield 15, 3)) ∧ (decode cX4_keep 34 = .ok (.iload_n 2, 1)) ∧ (decode cX4_keep 35 = .ok (.aload_n 1, 1)) ∧ (decode cX4_keep 36 = .ok (.getfield 27, 3)) ∧ (decode cX4_keep 39 = .ok (.iload_n 2, 1)) ∧ (decode cX4_keep 40 = .ok (.baload, 1)) ∧ (decode cX4_keep 41 = .ok (.bastore, 1)) ∧ (decode cX4_keep 42 = .ok (.iinc 2 1, 3)) ∧ (decode cX4_keep 45 = .ok (.goto (-35), 3)) ∧ (decode cX4_keep 48 = .ok (.return_, 1)) := by decide +kernel
theorem dX4_keep_28 : decode cX4_keep 28 = .ok (.laload, 1) := dg_X4_keep_28.1
theorem dX4_keep_29 : decode cX4_keep 29 = .ok (.lastore, 1) := dg_X4_keep_28.2.1
theorem dX4_keep_30 : decode cX4_keep 30 = .ok (.aload_n 0, 1) := dg_X4_keep_28.2.2.1
theorem dX4_keep_31 : decode cX4_keep 31 = .ok (.getfield 15, 3) := dg_X4_keep_28.2.2.2.1
theorem dX4_keep_34 : decode cX4_keep 34 = .ok (.iload_n 2, 1) := dg_X4_keep_28.2.2.2.2.1
theorem dX4_keep_35 : decode cX4_keep 35 = .ok (.aload_n 1, 1) := dg_X4_keep_28.2.2.2.2.2.1
theorem dX4_keep_36 : decode cX4_keep 36 = .ok (.getfield 27, 3) := dg_X4_keep_28.2.2.2.2.2.2.1
theorem dX4_keep_39 : decode cX4_keep 39 = .ok (.iload_n 2, 1) := dg_X4_keep_28.2.2.2.2.2.2.2.1
theorem dX4_keep_40 : decode cX4_keep 40 = .ok (.baload, 1) := dg_X4_keep_28.2.2.2.2.2.2.2.2.1
theorem dX4_keep_41 : decode cX4_keep 41 = .ok (.bastore, 1) := dg_X4_keep_28.2.2.2.2.2.2.2.2.2.1
theorem dX4_keep_42 : decode cX4_keep 42 = .ok (.iinc 2 1, 3) := dg_X4_keep_28.2.2.2.2.2.2.2.2.2.2.1
theorem dX4_keep_45 : decode cX4_keep 45 = .ok (.goto (-35), 3) := dg_X4_keep_28.2.2.2.2.2.2.2.2.2.2.2.1
theorem dX4_keep_48 : decode cX4_keep 48 = .ok (.return_, 1) := dg_X4_keep_28.2.2.2.2.2.2.2.2.2.2.2.2
theorem zk_28 : Cond.fieldLink RX4 19 RX6 "used" "I" ∈ zz_w := zz_in (List.mem_append_right _ (List.mem_append_left _ (List.mem_of_getElem? (i := 28) (by decide +kernel)))) rfl
theorem zf_X4_19 : zz_f RX4 19 5 1 := ⟨RX6, TX6, 10, rfl, zi_X6, by decide, zk_28⟩
theorem zk_705 : Cond.fieldLink RX4 25 RX4 "used" "I" ∈ zz_w := zz_in (List.mem_append_right _ (List.mem_append_right _ (List.mem_append_right _ (List.mem_append_left _ (List.mem_of_getElem? (i := 225) (by decide +kernel)))))) rfl
theorem zi_X4_a : ∀ w ∈ u_ws RX4 TX4 3, w ∈ lw_tbl := by decide +kernel
theorem zi_X4_b : ∀ w ∈ u_ws RX4 TX4 3, goodWord w = true := by decide +kernel
theorem zi_X4 : ∀ w ∈ u_ws RX4 TX4 3, w ∈ zz_w := fun w h => zz_in (zi_X4_a w h) (zi_X4_b w h)
theorem zu_X4_25 : zz_fw RX4 25 3 2 false .int := ⟨RX4, TX4, 3, tyX4, rfl, zi_X4, by decide, zk_705, tyX4_ok, nmX4, rfl, by decide +kernel, fun h => by cases h⟩
theorem zf_X4_25 : zz_f RX4 25 3 2 := ⟨RX4, TX4, 3, rfl, zi_X4, by decide, zk_705⟩
theorem zk_703 : Cond.fieldLink RX4 9 RX4 "bits" "[J" ∈ zz_w := zz_in (List.mem_append_right _ (List.mem_append_right _ (List.mem_append_right _ (List.mem_append_left _ (List.mem_of_getElem? (i := 223) (by decide +kernel)))))) rfl
theorem zf_X4_9 : zz_f RX4 9 3 0 := ⟨RX4, TX4, 3, rfl, zi_X4, by decide, zk_703⟩
theorem zk_55 : Cond.fieldLink RX4 26 RX6 "bits" "[J" ∈ zz_w := zz_in (List.mem_append_right _ (List.mem_append_left _ (List.mem_of_getElem? (i := 55) (by decide +kernel)))) rfl
theorem zf_X4_26 : zz_f RX4 26 5 7 := ⟨RX6, TX6, 10, rfl, zi_X6, by decide, zk_55⟩
theorem zk_704 : Cond.fieldLink RX4 15 RX4 "pinned" "[Z" ∈ zz_w := zz_in (List.mem_append_right _ (List.mem_append_right _ (List.mem_append_right _ (List.mem_append_left _ (List.mem_of_getElem? (i := 224) (by decide +kernel)))))) rfl
theorem zf_X4_15 : zz_f RX4 15 3 1 := ⟨RX4, TX4, 3, rfl, zi_X4, by decide, zk_704⟩
theorem zk_62 : Cond.fieldLink RX4 27 RX6 "pinned" "[Z" ∈ zz_w := zz_in (List.mem_append_right _ (List.mem_append_left _ (List.mem_of_getElem? (i := 62) (by decide +kernel)))) rfl
theorem zf_X4_27 : zz_f RX4 27 5 8 := ⟨RX6, TX6, 10, rfl, zi_X6, by decide, zk_62⟩
abbrev rm_co_keep : Room := { frames := 0, cells := 0, slots := 0, locals := 0 }
abbrev po_co_keep (g : zz_G) (mq : Nat) (m_b : Nat) (m_p : Nat) (st : Nat) (kd : Nat) (dp : Nat) (cl : Nat) (sa : Nat) (ln : Nat) (bt : Nat) (pn : Nat) (bf : Nat) (na : Nat) (nu : Nat) (mbf : Nat → Int64) (mpf : Nat → Int32) (btf : Nat → Int64) (pnf : Nat → Int32) (w : Int32) (h_u : nu ≤ 4000) : va_W → Prop := fun (u : va_W) => ∃ (mb2 : Nat → Int64) (mp2 : Nat → Int32), (∀ j, j < nu → mb2 j = btf j) ∧ (∀ j, j < nu → mp2 j = pnf j &&& 1) ∧ u = [cw_k3 mq m_b m_p (nI nu), cw_l g m_b 4000 mb2, cw_z g m_p 4000 mp2, cw_k5 st (nI na) (nI nu) kd dp cl sa ln bt pn bf, cw_l g bt 4000 btf, cw_z g pn 4000 pnf]
set_option maxHeartbeats 4000000 in
set_option maxRecDepth 100000 in
theorem co_keep (g : zz_G) (mq : Nat) (m_b : Nat) (m_p : Nat) (st : Nat) (kd : Nat) (dp : Nat) (cl : Nat) (sa : Nat) (ln : Nat) (bt : Nat) (pn : Nat) (bf : Nat) (na : Nat) (nu : Nat) (mbf : Nat → Int64) (mpf : Nat → Int32) (btf : Nat → Int64) (pnf : Nat → Int32) (w : Int32) (h_u : nu ≤ 4000) : zz_V g yX4_keep (.code yX4_keep cX4_keep 3 none) rm_co_keep [.ref mq, .ref st] [cw_k3 mq m_b m_p w, cw_l g m_b 4000 mbf, cw_z g m_p 4000 mpf, cw_k5 st (nI na) (nI nu) kd dp cl sa ln bt pn bf, cw_l g bt 4000 btf, cw_z g pn 4000 pnf] (po_co_keep g mq m_b m_p st kd dp cl sa ln bt pn bf na nu mbf mpf btf pnf w h_u) := by
  refine zz_V.intro (own := RX4) (cc := cX4_keep) (nL := 3) (by decide) rfl (Nat.le_of_ble_eq_true rfl) ?_
  intro p l e s m args below meth c A H locs ls hC hnm hs hZ hl
  obtain ⟨hx, hb, hml, hown, hts, hr, hlocks, hK⟩ := id hC
  have hl : lv_has ls 3 [(0, .ref mq), (1, .ref st)] := hl
  have hZ : zz_Z g A s.heap [cw_k3 mq m_b m_p w, cw_l g m_b 4000 mbf, cw_z g m_p 4000 mpf, cw_k5 st (nI na) (nI nu) kd dp cl sa ln bt pn bf, cw_l g bt 4000 btf, cw_z g pn 4000 pnf] H locs := hZ
  refine lv_aload_n hx hb dX4_keep_0 rfl (lv_at hl 0 rfl) ?_
  refine lv_aload_n hx hb dX4_keep_1 rfl (lv_at hl 1 rfl) ?_
  refine zz_get hC hZ 3 rfl zf_X4_19 rfl dX4_keep_2 ?_
  refine zz_put hC hZ 0 rfl zu_X4_25 (Nat.le_of_ble_eq_true rfl) dX4_keep_5 (fun H locs hZ => ?_)
  have hZ : zz_Z g A s.heap [cw_k3 mq m_b m_p (nI nu), cw_l g m_b 4000 mbf, cw_z g m_p 4000 mpf, cw_k5 st (nI na) (nI nu) kd dp cl sa ln bt pn bf, cw_l g bt 4000 btf, cw_z g pn 4000 pnf] H locs := hZ
  refine lv_iconst (v := 0) hx hb dX4_keep_8 (by decide) ?_
  refine lv_istore_n (lv' := [(2, .int 0), (0, .ref mq), (1, .ref st)]) hx hb dX4_keep_9 rfl hl (by decide) rfl (fun ls hl => ?_)
  have LP1 : ∀ (N : Nat) (i : Nat) (mb1 : Nat → Int64) (mp1 : Nat → Int32) (H : Heap) (locs : List Loc) (ls : Array Slot), (i ≤ nu) → (∀ j, j < i → mb1 j = btf j) → (∀ j, j < i → mp1 j = pnf j &&& 1) → (nu - i) < N → zz_Z g A s.heap [cw_k3 mq m_b m_p (nI nu), cw_l g m_b 4000 mb1, cw_z g m_p 4000 mp1, cw_k5 st (nI na) (nI nu) kd dp cl sa ln bt pn bf, cw_l g bt 4000 btf, cw_z g pn 4000 pnf] H locs → lv_has ls 3 [(2, .int (nI i)), (0, .ref mq), (1, .ref st)] → W p l e rm_co_keep s m args below meth c H locs 0 0 (zz_QV below g args s A rm_co_keep.cells rm_co_keep.slots (po_co_keep g mq m_b m_p st kd dp cl sa ln bt pn bf na nu mbf mpf btf pnf w h_u)) (F0 m 10 ls []) := by
    intro N
    induction N with
    | zero =>
      intro i mb1 mp1 H locs ls hi hm hp hN
      exact absurd hN (Nat.not_lt_zero _)
    | succ N ih =>
      intro i mb1 mp1 H locs ls hi hm hp hN hZ hl
      refine lv_iload_n hx hb dX4_keep_10 rfl (lv_at hl 0 rfl) ?_
      refine lv_aload_n hx hb dX4_keep_11 rfl (lv_at hl 1 rfl) ?_
      refine zz_get hC hZ 0 rfl zf_X4_25 rfl dX4_keep_12 ?_
      have bd3 : nu < 2 ^ 31 := by omega
      have bd4 : i < 2 ^ 31 := by omega
      refine lv_icmp_ge (tgt := 48) hx hb dX4_keep_15 (by decide) (fun c2 => ?_) (fun c2 => ?_)
      · have nc2 : nu ≤ i := (nI_leI bd3 bd4).mp (show nI (nu) ≤ nI (i) from c2)
        exact zz_vret hC hZ (⟨mb1, mp1, fun j hj => hm j (by omega), fun j hj => hp j (by omega), rfl⟩) (Nat.le_of_ble_eq_true rfl) (Nat.le_of_ble_eq_true rfl) dX4_keep_48
      · have nc2 : ¬ nu ≤ i := fun zq => c2 (show nI (nu) ≤ nI (i) from (nI_leI bd3 bd4).mpr zq)
        refine lv_aload_n hx hb dX4_keep_18 rfl (lv_at hl 1 rfl) ?_
        refine zz_get hC hZ 0 rfl zf_X4_9 rfl dX4_keep_19 ?_
        refine lv_iload_n hx hb dX4_keep_22 rfl (lv_at hl 0 rfl) ?_
        refine lv_aload_n hx hb dX4_keep_23 rfl (lv_at hl 2 rfl) ?_
        refine zz_get hC hZ 3 rfl zf_X4_26 rfl dX4_keep_24 ?_
        refine lv_iload_n hx hb dX4_keep_27 rfl (lv_at hl 0 rfl) ?_
        have bd5 : i < 4000 := by omega
        refine zz_laldn hC hZ 4 rfl bd5 (by decide) dX4_keep_28 ?_
        refine zz_lastn hC hZ 1 rfl bd5 (by decide) dX4_keep_29 (fun H locs hZ => ?_)
        have hZ : zz_Z g A s.heap [cw_k3 mq m_b m_p (nI nu), cw_l g m_b 4000 (vp_updL mb1 i (btf i)), cw_z g m_p 4000 mp1, cw_k5 st (nI na) (nI nu) kd dp cl sa ln bt pn bf, cw_l g bt 4000 btf, cw_z g pn 4000 pnf] H locs := hZ
        refine lv_aload_n hx hb dX4_keep_30 rfl (lv_at hl 1 rfl) ?_
        refine zz_get hC hZ 0 rfl zf_X4_15 rfl dX4_keep_31 ?_
        refine lv_iload_n hx hb dX4_keep_34 rfl (lv_at hl 0 rfl) ?_
        refine lv_aload_n hx hb dX4_keep_35 rfl (lv_at hl 2 rfl) ?_
        refine zz_get hC hZ 3 rfl zf_X4_27 rfl dX4_keep_36 ?_
        refine lv_iload_n hx hb dX4_keep_39 rfl (lv_at hl 0 rfl) ?_
        refine zz_zaldn hC hZ 5 rfl bd5 (by decide) dX4_keep_40 ?_
        refine zz_zastn hC hZ 2 rfl bd5 (by decide) dX4_keep_41 (fun H locs hZ => ?_)
        have hZ : zz_Z g A s.heap [cw_k3 mq m_b m_p (nI nu), cw_l g m_b 4000 (vp_updL mb1 i (btf i)), cw_z g m_p 4000 (upd mp1 i ((pnf i) &&& 1)), cw_k5 st (nI na) (nI nu) kd dp cl sa ln bt pn bf, cw_l g bt 4000 btf, cw_z g pn 4000 pnf] H locs := hZ
        refine lv_iinc (v := nI (i + 1)) (lv' := [(2, .int (nI (i + 1))), (0, .ref mq), (1, .ref st)]) hx hb dX4_keep_42 hl (k := 0) rfl (nI_1 _) (by decide) rfl (fun ls hl => ?_)
        refine lv_goto (tgt := 10) hx hb dX4_keep_45 (by decide) ?_
        exact ih (i + 1) (vp_updL mb1 i (btf i)) (upd mp1 i ((pnf i) &&& 1)) H locs ls (by omega) (zl_keep hm) (zl_keepP hp) (by omega) hZ (lv_sub hl [0, 1, 2] rfl)
  exact LP1 _ 0 mbf mpf H locs ls (by omega) (fun j hj => absurd hj (Nat.not_lt_zero j)) (fun j hj => absurd hj (Nat.not_lt_zero j)) (Nat.lt_succ_self _) hZ (lv_sub hl [0, 1, 2] rfl)
theorem dg_X4_bringBack_0 : (decode cX4_bringBack 0 = .ok (.iconst 0, 1)) ∧ (decode cX4_bringBack 1 = .ok (.istore_n 2, 1)) ∧ (decode cX4_bringBack 2 = .ok (.iload_n 2, 1)) ∧ (decode cX4_bringBack 3 = .ok (.aload_n 0, 1)) ∧ (decode cX4_bringBack 4 = .ok (.getfield 25, 3)) ∧ (decode cX4_bringBack 7 = .ok (.if_icmp .ge 33, 3)) ∧ (decode cX4_bringBack 10 = .ok (.aload_n 1, 1)) ∧ (decode cX4_bringBack 11 = .ok (.getfield 26, 3)) ∧ (decode cX4_bringBack 14 = .ok (.iload_n 2, 1)) ∧ (decode cX4_bringBack 15 = .ok (.aload_n 0, 1)) ∧ (decode cX4_bringBack 16 = .ok (.getfield 9, 3)) ∧ (decode cX4_bringBack 19 = .ok (.iload_n 2, 1)) ∧ (decode cX4_bringBack 20 = .ok (.laload, 1)) ∧ (decode cX4_bringBack 21 = .ok (.lastore, 1)) ∧ (decode cX4_bringBack 22 = .ok (.aload_n 1, 1)) ∧ (decode cX4_bringBack 23 = .ok (.getfield 27, 3)) := by decide +kernel
theorem dX4_bringBack_0 : decode cX4_bringBack 0 = .ok (.iconst 0, 1) := dg_X4_bringBack_0.1
theorem dX4_bringBack_1 : decode cX4_bringBack 1 = .ok (.istore_n 2, 1) := dg_X4_bringBack_0.2.1
theorem dX4_bringBack_2 : decode cX4_bringBack 2 = .ok (.iload_n 2, 1) := dg_X4_bringBack_0.2.2.1
theorem dX4_bringBack_3 : decode cX4_bringBack 3 = .ok (.aload_n 0, 1) := dg_X4_bringBack_0.2.2.2.1
theorem dX4_bringBack_4 : decode cX4_bringBack 4 = .ok (.getfield 25, 3) := dg_X4_bringBack_0.2.2.2.2.1
theorem dX4_bringBack_7 : decode cX4_bringBack 7 = .ok (.if_icmp .ge 33, 3) := dg_X4_bringBack_0.2.2.2.2.2.1
theorem dX4_bringBack_10 : decode cX4_bringBack 10 = .ok (.aload_n 1, 1) := dg_X4_bringBack_0.2.2.2.2.2.2.1
theorem dX4_bringBack_11 : decode cX4_bringBack 11 = .ok (.getfield 26, 3) := dg_X4_bringBack_0.2.2.2.2.2.2.2.1
theorem dX4_bringBack_14 : decode cX4_bringBack 14 = .ok (.iload_n 2, 1) := dg_X4_bringBack_0.2.2.2.2.2.2.2.2.1
theorem dX4_bringBack_15 : decode cX4_bringBack 15 = .ok (.aload_n 0, 1) := dg_X4_bringBack_0.2.2.2.2.2.2.2.2.2.1
theorem dX4_bringBack_16 : decode cX4_bringBack 16 = .ok (.getfield 9, 3) := dg_X4_bringBack_0.2.2.2.2.2.2.2.2.2.2.1
theorem dX4_bringBack_19 : decode cX4_bringBack 19 = .ok (.iload_n 2, 1) := dg_X4_bringBack_0.2.2.2.2.2.2.2.2.2.2.2.1
theorem dX4_bringBack_20 : decode cX4_bringBack 20 = .ok (.laload, 1) := dg_X4_bringBack_0.2.2.2.2.2.2.2.2.2.2.2.2.1
theorem dX4_bringBack_21 : decode cX4_bringBack 21 = .ok (.lastore, 1) := dg_X4_bringBack_0.2.2.2.2.2.2.2.2.2.2.2.2.2.1
theorem dX4_bringBack_22 : decode cX4_bringBack 22 = .ok (.aload_n 1, 1) := dg_X4_bringBack_0.2.2.2.2.2.2.2.2.2.2.2.2.2.2.1
theorem dX4_bringBack_23 : decode cX4_bringBack 23 = .ok (.getfield 27, 3) := dg_X4_bringBack_0.2.2.2.2.2.2.2.2.2.2.2.2.2.2.2
theorem dg_X4_bringBack_26 : (decode cX4_bringBack 26 = .ok (.iload_n 2, 1)) ∧ (decode cX4_bringBack 27 = .ok (.aload_n 0, 1)) ∧ (decode cX4_bringBack 28 = .ok (.getfield 15, 3)) ∧ (decode cX4_bringBack 31 = .ok (.iload_n 2, 1)) ∧ (decode cX4_bringBack 32 = .ok (.baload, 1)) ∧ (decode cX4_bringBack 33 = .ok (.bastore, 1)) ∧ (decode cX4_bringBack 34 = .ok (.iinc 2 1, 3)) ∧ (decode cX4_bringBack 37 = .ok (.goto (-35), 3)) ∧ (decode cX4_bringBack 40 = .ok (.return_, 1)) := by decide +kernel
theorem dX4_bringBack_26 : decode cX4_bringBack 26 = .ok (.iload_n 2, 1) := dg_X4_bringBack_26.1
theorem dX4_bringBack_27 : decode cX4_bringBack 27 = .ok (.aload_n 0, 1) := dg_X4_bringBack_26.2.1
theorem dX4_bringBack_28 : decode cX4_bringBack 28 = .ok (.getfield 15, 3) := dg_X4_bringBack_26.2.2.1
theorem dX4_bringBack_31 : decode cX4_bringBack 31 = .ok (.iload_n 2, 1) := dg_X4_bringBack_26.2.2.2.1
theorem dX4_bringBack_32 : decode cX4_bringBack 32 = .ok (.baload, 1) := dg_X4_bringBack_26.2.2.2.2.1
theorem dX4_bringBack_33 : decode cX4_bringBack 33 = .ok (.bastore, 1) := dg_X4_bringBack_26.2.2.2.2.2.1
theorem dX4_bringBack_34 : decode cX4_bringBack 34 = .ok (.iinc 2 1, 3) := dg_X4_bringBack_26.2.2.2.2.2.2.1
theorem dX4_bringBack_37 : decode cX4_bringBack 37 = .ok (.goto (-35), 3) := dg_X4_bringBack_26.2.2.2.2.2.2.2.1
theorem dX4_bringBack_40 : decode cX4_bringBack 40 = .ok (.return_, 1) := dg_X4_bringBack_26.2.2.2.2.2.2.2.2
abbrev rm_co_bringBack : Room := { frames := 0, cells := 0, slots := 0, locals := 0 }
abbrev po_co_bringBack (g : zz_G) (mq : Nat) (m_b : Nat) (m_p : Nat) (st : Nat) (kd : Nat) (dp : Nat) (cl : Nat) (sa : Nat) (ln : Nat) (bt : Nat) (pn : Nat) (bf : Nat) (na : Nat) (nu : Nat) (mbf : Nat → Int64) (mpf : Nat → Int32) (btf : Nat → Int64) (pnf : Nat → Int32) (mu : Nat) (h_u : mu ≤ 4000) : va_W → Prop := fun (u : va_W) => ∃ (bt2 : Nat → Int64) (pn2 : Nat → Int32), (∀ j, j < mu → bt2 j = mbf j) ∧ (∀ j, mu ≤ j → bt2 j = btf j) ∧ (∀ j, j < mu → pn2 j = mpf j &&& 1) ∧ (∀ j, mu ≤ j → pn2 j = pnf j) ∧ u = [cw_k3 mq m_b m_p (nI mu), cw_l g m_b 4000 mbf, cw_z g m_p 4000 mpf, cw_k5 st (nI na) (nI nu) kd dp cl sa ln bt pn bf, cw_l g bt 4000 bt2, cw_z g pn 4000 pn2]
set_option maxHeartbeats 4000000 in
set_option maxRecDepth 100000 in
theorem co_bringBack (g : zz_G) (mq : Nat) (m_b : Nat) (m_p : Nat) (st : Nat) (kd : Nat) (dp : Nat) (cl : Nat) (sa : Nat) (ln : Nat) (bt : Nat) (pn : Nat) (bf : Nat) (na : Nat) (nu : Nat) (mbf : Nat → Int64) (mpf : Nat → Int32) (btf : Nat → Int64) (pnf : Nat → Int32) (mu : Nat) (h_u : mu ≤ 4000) : zz_V g yX4_bringBack (.code yX4_bringBack cX4_bringBack 3 none) rm_co_bringBack [.ref mq, .ref st] [cw_k3 mq m_b m_p (nI mu), cw_l g m_b 4000 mbf, cw_z g m_p 4000 mpf, cw_k5 st (nI na) (nI nu) kd dp cl sa ln bt pn bf, cw_l g bt 4000 btf, cw_z g pn 4000 pnf] (po_co_bringBack g mq m_b m_p st kd dp cl sa ln bt pn bf na nu mbf mpf btf pnf mu h_u) := by
  refine zz_V.intro (own := RX4) (cc := cX4_bringBack) (nL := 3) (by decide) rfl (Nat.le_of_ble_eq_true rfl) ?_
  intro p l e s m args below meth c A H locs ls hC hnm hs hZ hl
  obtain ⟨hx, hb, hml, hown, hts, hr, hlocks, hK⟩ := id hC
  have hl : lv_has ls 3 [(0, .ref mq), (1, .ref st)] := hl
  have hZ : zz_Z g A s.heap [cw_k3 mq m_b m_p (nI mu), cw_l g m_b 4000 mbf, cw_z g m_p 4000 mpf, cw_k5 st (nI na) (nI nu) kd dp cl sa ln bt pn bf, cw_l g bt 4000 btf, cw_z g pn 4000 pnf] H locs := hZ
  refine lv_iconst (v := 0) hx hb dX4_bringBack_0 (by decide) ?_
  refine lv_istore_n (lv' := [(2, .int 0), (0, .ref mq), (1, .ref st)]) hx hb dX4_bringBack_1 rfl hl (by decide) rfl (fun ls hl => ?_)
  have LP1 : ∀ (N : Nat) (i : Nat) (bt1 : Nat → Int64) (pn1 : Nat → Int32) (H : Heap) (locs : List Loc) (ls : Array Slot), (i ≤ mu) → (∀ j, j < i → bt1 j = mbf j) → (∀ j, mu ≤ j → bt1 j = btf j) → (∀ j, j < i → pn1 j = mpf j &&& 1) → (∀ j, mu ≤ j → pn1 j = pnf j) → (mu - i) < N → zz_Z g A s.heap [cw_k3 mq m_b m_p (nI mu), cw_l g m_b 4000 mbf, cw_z g m_p 4000 mpf, cw_k5 st (nI na) (nI nu) kd dp cl sa ln bt pn bf, cw_l g bt 4000 bt1, cw_z g pn 4000 pn1] H locs → lv_has ls 3 [(2, .int (nI i)), (0, .ref mq), (1, .ref st)] → W p l e rm_co_bringBack s m args below meth c H locs 0 0 (zz_QV below g args s A rm_co_bringBack.cells rm_co_bringBack.slots (po_co_bringBack g mq m_b m_p st kd dp cl sa ln bt pn bf na nu mbf mpf btf pnf mu h_u)) (F0 m 2 ls []) := by
    intro N
    induction N with
    | zero =>
      intro i bt1 pn1 H locs ls hi hm hk hp hpk hN
      exact absurd hN (Nat.not_lt_zero _)
    | succ N ih =>
      intro i bt1 pn1 H locs ls hi hm hk hp hpk hN hZ hl
      refine lv_iload_n hx hb dX4_bringBack_2 rfl (lv_at hl 0 rfl) ?_
      refine lv_aload_n hx hb dX4_bringBack_3 rfl (lv_at hl 1 rfl) ?_
      refine zz_get hC hZ 0 rfl zf_X4_25 rfl dX4_bringBack_4 ?_
      have bd3 : mu < 2 ^ 31 := by omega
      have bd4 : i < 2 ^ 31 := by omega
      refine lv_icmp_ge (tgt := 40) hx hb dX4_bringBack_7 (by decide) (fun c2 => ?_) (fun c2 => ?_)
      · have nc2 : mu ≤ i := (nI_leI bd3 bd4).mp (show nI (mu) ≤ nI (i) from c2)
        exact zz_vret hC hZ (⟨bt1, pn1, fun j hj => hm j (by omega), hk, fun j hj => hp j (by omega), hpk, rfl⟩) (Nat.le_of_ble_eq_true rfl) (Nat.le_of_ble_eq_true rfl) dX4_bringBack_40
      · have nc2 : ¬ mu ≤ i := fun zq => c2 (show nI (mu) ≤ nI (i) from (nI_leI bd3 bd4).mpr zq)
        refine lv_aload_n hx hb dX4_bringBack_10 rfl (lv_at hl 2 rfl) ?_
        refine zz_get hC hZ 3 rfl zf_X4_26 rfl dX4_bringBack_11 ?_
        refine lv_iload_n hx hb dX4_bringBack_14 rfl (lv_at hl 0 rfl) ?_
        refine lv_aload_n hx hb dX4_bringBack_15 rfl (lv_at hl 1 rfl) ?_
        refine zz_get hC hZ 0 rfl zf_X4_9 rfl dX4_bringBack_16 ?_
        refine lv_iload_n hx hb dX4_bringBack_19 rfl (lv_at hl 0 rfl) ?_
        have bd5 : i < 4000 := by omega
        refine zz_laldn hC hZ 1 rfl bd5 (by decide) dX4_bringBack_20 ?_
        refine zz_lastn hC hZ 4 rfl bd5 (by decide) dX4_bringBack_21 (fun H locs hZ => ?_)
        have hZ : zz_Z g A s.heap [cw_k3 mq m_b m_p (nI mu), cw_l g m_b 4000 mbf, cw_z g m_p 4000 mpf, cw_k5 st (nI na) (nI nu) kd dp cl sa ln bt pn bf, cw_l g bt 4000 (vp_updL bt1 i (mbf i)), cw_z g pn 4000 pn1] H locs := hZ
        refine lv_aload_n hx hb dX4_bringBack_22 rfl (lv_at hl 2 rfl) ?_
        refine zz_get hC hZ 3 rfl zf_X4_27 rfl dX4_bringBack_23 ?_
        refine lv_iload_n hx hb dX4_bringBack_26 rfl (lv_at hl 0 rfl) ?_
        refine lv_aload_n hx hb dX4_bringBack_27 rfl (lv_at hl 1 rfl) ?_
        refine zz_get hC hZ 0 rfl zf_X4_15 rfl dX4_bringBack_28 ?_
        refine lv_iload_n hx hb dX4_bringBack_31 rfl (lv_at hl 0 rfl) ?_
        refine zz_zaldn hC hZ 2 rfl bd5 (by decide) dX4_bringBack_32 ?_
        refine zz_zastn hC hZ 5 rfl bd5 (by decide) dX4_bringBack_33 (fun H locs hZ => ?_)
        have hZ : zz_Z g A s.heap [cw_k3 mq m_b m_p (nI mu), cw_l g m_b 4000 mbf, cw_z g m_p 4000 mpf, cw_k5 st (nI na) (nI nu) kd dp cl sa ln bt pn bf, cw_l g bt 4000 (vp_updL bt1 i (mbf i)), cw_z g pn 4000 (upd pn1 i ((mpf i) &&& 1))] H locs := hZ
        refine lv_iinc (v := nI (i + 1)) (lv' := [(2, .int (nI (i + 1))), (0, .ref mq), (1, .ref st)]) hx hb dX4_bringBack_34 hl (k := 0) rfl (nI_1 _) (by decide) rfl (fun ls hl => ?_)
        refine lv_goto (tgt := 2) hx hb dX4_bringBack_37 (by decide) ?_
        exact ih (i + 1) (vp_updL bt1 i (mbf i)) (upd pn1 i ((mpf i) &&& 1)) H locs ls (by omega) (zl_keep hm) (fun j hj => (pk_uLn (by omega)).trans (hk j hj)) (zl_keepP hp) (fun j hj => (pk_un (by omega)).trans (hpk j hj)) (by omega) hZ (lv_sub hl [0, 1, 2] rfl)
  exact LP1 _ 0 btf pnf H locs ls (by omega) (fun j hj => absurd hj (Nat.not_lt_zero j)) (fun _ _ => rfl) (fun j hj => absurd hj (Nat.not_lt_zero j)) (fun _ _ => rfl) (Nat.lt_succ_self _) hZ (lv_sub hl [0, 1, 2] rfl)
