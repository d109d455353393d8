/-- arrays that were stay -/
def zz_EX (na : Nat) (dpf saf lnf dp2 sa2 ln2 : Nat → Int32) : Prop := ∀ j, j < na → sa2 j = saf j ∧ ln2 j = lnf j ∧ dp2 j = dpf j
theorem zz_EX.rf {na : Nat} {dpf saf lnf : Nat → Int32} : zz_EX na dpf saf lnf dpf saf lnf := fun _ _ => ⟨rfl, rfl, rfl⟩
theorem zz_EX.tr {na n1 : Nat} {dpf saf lnf dp1 sa1 ln1 dp2 sa2 ln2 : Nat → Int32} (h : zz_EX na dpf saf lnf dp1 sa1 ln1) (hn : na ≤ n1) (h2 : zz_EX n1 dp1 sa1 ln1 dp2 sa2 ln2) : zz_EX na dpf saf lnf dp2 sa2 ln2 :=
  fun j hj => ⟨(h2 j (by omega)).1.trans (h j hj).1, (h2 j (by omega)).2.1.trans (h j hj).2.1, (h2 j (by omega)).2.2.trans (h j hj).2.2⟩
theorem zz_EX.up {na : Nat} {dpf saf lnf : Nat → Int32} {d x y : Int32} : zz_EX na dpf saf lnf (upd dpf na d) (upd saf na x) (upd lnf na y) :=
  fun j hj => ⟨pk_un (by omega), pk_un (by omega), pk_un (by omega)⟩
theorem zl_fit (na nu ll : Nat) (h1 : na ≤ 60) (h2 : nu ≤ 4000) (h3 : ll ≤ 200) : fn_co_fits (nI na) (nI nu) 1 (nI ll).toInt64 = if na + 1 ≤ 60 ∧ nu + ll ≤ 4000 then 1 else 0 := by
  unfold fn_co_fits
  rw [nI_l (show na < 2 ^ 31 by omega), nI_l (show nu < 2 ^ 31 by omega), nI_l (show ll < 2 ^ 31 by omega), lN_1, lN_add]
  have e60 : (60 : Int64) = lN 60 := by decide
  have e4 : (4000 : Int64) = lN 4000 := by decide
  rw [e60, e4]
  by_cases a : na + 1 ≤ 60
  · rw [if_neg (by rw [lN_lt (by decide) (by omega)]; omega)]
    by_cases b : nu + ll ≤ 4000
    · rw [if_neg (by rw [lN_lt (by decide) (by omega)]; omega), if_pos ⟨a, b⟩]
    · rw [if_pos (by rw [lN_lt (by decide) (by omega)]; omega), if_neg (fun q => b q.2)]
  · rw [if_pos (by rw [lN_lt (by decide) (by omega)]; omega), if_neg (fun q => a q.1)]
theorem zl_fitY {na nu ll : Nat} (h1 : na ≤ 60) (h2 : nu ≤ 4000) (h3 : ll ≤ 200) (h : ¬ fn_co_fits (nI na) (nI nu) 1 (nI ll).toInt64 = 0) : na + 1 ≤ 60 ∧ nu + ll ≤ 4000 := by
  rw [zl_fit na nu ll h1 h2 h3] at h
  by_cases a : na + 1 ≤ 60 ∧ nu + ll ≤ 4000
  · exact a
  · rw [if_neg a] at h; exact absurd rfl h
theorem dg_X3_tellLengths_0 : (decode cX3_tellLengths 0 = .ok (.aload_n 0, 1)) ∧ (decode cX3_tellLengths 1 = .ok (.getfield 9, 3)) ∧ (decode cX3_tellLengths 4 = .ok (.iconst 0, 1)) ∧ (decode cX3_tellLengths 5 = .ok (.iload_n 1, 1)) ∧ (decode cX3_tellLengths 6 = .ok (.iastore, 1)) ∧ (decode cX3_tellLengths 7 = .ok (.aload_n 0, 1)) ∧ (decode cX3_tellLengths 8 = .ok (.getfield 9, 3)) ∧ (decode cX3_tellLengths 11 = .ok (.iconst 1, 1)) ∧ (decode cX3_tellLengths 12 = .ok (.iload_n 2, 1)) ∧ (decode cX3_tellLengths 13 = .ok (.iastore, 1)) ∧ (decode cX3_tellLengths 14 = .ok (.aload_n 0, 1)) ∧ (decode cX3_tellLengths 15 = .ok (.getfield 9, 3)) ∧ (decode cX3_tellLengths 18 = .ok (.iconst 2, 1)) ∧ (decode cX3_tellLengths 19 = .ok (.iload_n 3, 1)) ∧ (decode cX3_tellLengths 20 = .ok (.iastore, 1)) ∧ (decode cX3_tellLengths 21 = .ok (.aload_n 0, 1)) := by decide +kernel
theorem dX3_tellLengths_0 : decode cX3_tellLengths 0 = .ok (.aload_n 0, 1) := dg_X3_tellLengths_0.1
theorem dX3_tellLengths_1 : decode cX3_tellLengths 1 = .ok (.getfield 9, 3) := dg_X3_tellLengths_0.2.1
theorem dX3_tellLengths_4 : decode cX3_tellLengths 4 = .ok (.iconst 0, 1) := dg_X3_tellLengths_0.2.2.1
theorem dX3_tellLengths_5 : decode cX3_tellLengths 5 = .ok (.iload_n 1, 1) := dg_X3_tellLengths_0.2.2.2.1
theorem dX3_tellLengths_6 : decode cX3_tellLengths 6 = .ok (.iastore, 1) := dg_X3_tellLengths_0.2.2.2.2.1
theorem dX3_tellLengths_7 : decode cX3_tellLengths 7 = .ok (.aload_n 0, 1) := dg_X3_tellLengths_0.2.2.2.2.2.1
theorem dX3_tellLengths_8 : decode cX3_tellLengths 8 = .ok (.getfield 9, 3) := dg_X3_tellLengths_0.2.2.2.2.2.2.1
theorem dX3_tellLengths_11 : decode cX3_tellLengths 11 = .ok (.iconst 1, 1) := dg_X3_tellLengths_0.2.2.2.2.2.2.2.1
theorem dX3_tellLengths_12 : decode cX3_tellLengths 12 = .ok (.iload_n 2, 1) := dg_X3_tellLengths_0.2.2.2.2.2.2.2.2.1
theorem dX3_tellLengths_13 : decode cX3_tellLengths 13 = .ok (.iastore, 1) := dg_X3_tellLengths_0.2.2.2.2.2.2.2.2.2.1
theorem dX3_tellLengths_14 : decode cX3_tellLengths 14 = .ok (.aload_n 0, 1) := dg_X3_tellLengths_0.2.2.2.2.2.2.2.2.2.2.1
theorem dX3_tellLengths_15 : decode cX3_tellLengths 15 = .ok (.getfield 9, 3) := dg_X3_tellLengths_0.2.2.2.2.2.2.2.2.2.2.2.1
theorem dX3_tellLengths_18 : decode cX3_tellLengths 18 = .ok (.iconst 2, 1) := dg_X3_tellLengths_0.2.2.2.2.2.2.2.2.2.2.2.2.1
theorem dX3_tellLengths_19 : decode cX3_tellLengths 19 = .ok (.iload_n 3, 1) := dg_X3_tellLengths_0.2.2.2.2.2.2.2.2.2.2.2.2.2.1
theorem dX3_tellLengths_20 : decode cX3_tellLengths 20 = .ok (.iastore, 1) := dg_X3_tellLengths_0.2.2.2.2.2.2.2.2.2.2.2.2.2.2.1
theorem dX3_tellLengths_21 : decode cX3_tellLengths 21 = .ok (.aload_n 0, 1) := dg_X3_tellLengths_0.2.2.2.2.2.2.2.2.2.2.2.2.2.2.2
theorem dg_X3_tellLengths_22 : (decode cX3_tellLengths 22 = .ok (.getfield 9, 3)) ∧ (decode cX3_tellLengths 25 = .ok (.iconst 3, 1)) ∧ (decode cX3_tellLengths 26 = .ok (.iload 4, 2)) ∧ (decode cX3_tellLengths 28 = .ok (.iastore, 1)) ∧ (decode cX3_tellLengths 29 = .ok (.return_, 1)) := by decide +kernel
theorem dX3_tellLengths_22 : decode cX3_tellLengths 22 = .ok (.getfield 9, 3) := dg_X3_tellLengths_22.1
theorem dX3_tellLengths_25 : decode cX3_tellLengths 25 = .ok (.iconst 3, 1) := dg_X3_tellLengths_22.2.1
theorem dX3_tellLengths_26 : decode cX3_tellLengths 26 = .ok (.iload 4, 2) := dg_X3_tellLengths_22.2.2.1
theorem dX3_tellLengths_28 : decode cX3_tellLengths 28 = .ok (.iastore, 1) := dg_X3_tellLengths_22.2.2.2.1
theorem dX3_tellLengths_29 : decode cX3_tellLengths 29 = .ok (.return_, 1) := dg_X3_tellLengths_22.2.2.2.2
theorem zf_X3_9 : zz_f RX3 9 2 1 := ⟨RX3, TX3, 4, rfl, zi_X3, by decide, zk_97⟩
abbrev rm_co_tell : Room := { frames := 0, cells := 0, slots := 0, locals := 0 }
abbrev po_co_tell (g : zz_G) (st : Nat) (mk : Nat) (ml : Nat) (pa : Int32) (pe : Int32) (mlf : Nat → Int32) (n0 : Int32) (n1 : Int32) (n2 : Int32) (n3 : Int32) : va_W → Prop := fun (u : va_W) => u = [cw_k2 mk st ml pa pe, cw_i g ml 4 (upd (upd (upd (upd mlf 0 n0) 1 n1) 2 n2) 3 n3)]
set_option maxHeartbeats 4000000 in
set_option maxRecDepth 100000 in
theorem co_tell (g : zz_G) (st : Nat) (mk : Nat) (ml : Nat) (pa : Int32) (pe : Int32) (mlf : Nat → Int32) (n0 : Int32) (n1 : Int32) (n2 : Int32) (n3 : Int32) : zz_V g yX3_tellLengths (.code yX3_tellLengths cX3_tellLengths 5 none) rm_co_tell [.ref mk, .int n0, .int n1, .int n2, .int n3] [cw_k2 mk st ml pa pe, cw_i g ml 4 mlf] (po_co_tell g st mk ml pa pe mlf n0 n1 n2 n3) := by
  refine zz_V.intro (own := RX3) (cc := cX3_tellLengths) (nL := 5) (by decide) rfl (Nat.le_of_ble_eq_true rfl) ?_
  intro p l e s m args below meth c A H locs ls hC hnm hs hZ hl
  obtain ⟨hx, hb, hml, hown, hts, hr, hlocks, hK⟩ := id hC
  have hl : lv_has ls 5 [(0, .ref mk), (1, .int n0), (2, .int n1), (3, .int n2), (4, .int n3)] := hl
  have hZ : zz_Z g A s.heap [cw_k2 mk st ml pa pe, cw_i g ml 4 mlf] H locs := hZ
  refine lv_aload_n hx hb dX3_tellLengths_0 rfl (lv_at hl 0 rfl) ?_
  refine zz_get hC hZ 0 rfl zf_X3_9 rfl dX3_tellLengths_1 ?_
  refine lv_iconst (v := 0) hx hb dX3_tellLengths_4 (by decide) ?_
  refine lv_iload_n hx hb dX3_tellLengths_5 rfl (lv_at hl 1 rfl) ?_
  refine zz_iast hC hZ 1 rfl (by unfold vp_in; decide) dX3_tellLengths_6 (fun H locs hZ => ?_)
  rw [zl_c0] at hZ
  have hZ : zz_Z g A s.heap [cw_k2 mk st ml pa pe, cw_i g ml 4 (upd mlf 0 n0)] H locs := hZ
  refine lv_aload_n hx hb dX3_tellLengths_7 rfl (lv_at hl 0 rfl) ?_
  refine zz_get hC hZ 0 rfl zf_X3_9 rfl dX3_tellLengths_8 ?_
  refine lv_iconst (v := 1) hx hb dX3_tellLengths_11 (by decide) ?_
  refine lv_iload_n hx hb dX3_tellLengths_12 rfl (lv_at hl 2 rfl) ?_
  refine zz_iast hC hZ 1 rfl (by unfold vp_in; decide) dX3_tellLengths_13 (fun H locs hZ => ?_)
  rw [zl_c1] at hZ
  have hZ : zz_Z g A s.heap [cw_k2 mk st ml pa pe, cw_i g ml 4 (upd (upd mlf 0 n0) 1 n1)] H locs := hZ
  refine lv_aload_n hx hb dX3_tellLengths_14 rfl (lv_at hl 0 rfl) ?_
  refine zz_get hC hZ 0 rfl zf_X3_9 rfl dX3_tellLengths_15 ?_
  refine lv_iconst (v := 2) hx hb dX3_tellLengths_18 (by decide) ?_
  refine lv_iload_n hx hb dX3_tellLengths_19 rfl (lv_at hl 3 rfl) ?_
  refine zz_iast hC hZ 1 rfl (by unfold vp_in; decide) dX3_tellLengths_20 (fun H locs hZ => ?_)
  rw [zl_c2] at hZ
  have hZ : zz_Z g A s.heap [cw_k2 mk st ml pa pe, cw_i g ml 4 (upd (upd (upd mlf 0 n0) 1 n1) 2 n2)] H locs := hZ
  refine lv_aload_n hx hb dX3_tellLengths_21 rfl (lv_at hl 0 rfl) ?_
  refine zz_get hC hZ 0 rfl zf_X3_9 rfl dX3_tellLengths_22 ?_
  refine lv_iconst (v := 3) hx hb dX3_tellLengths_25 (by decide) ?_
  refine lv_iload hx hb dX3_tellLengths_26 (lv_at hl 4 rfl) ?_
  refine zz_iast hC hZ 1 rfl (by unfold vp_in; decide) dX3_tellLengths_28 (fun H locs hZ => ?_)
  rw [zl_c3] at hZ
  have hZ : zz_Z g A s.heap [cw_k2 mk st ml pa pe, cw_i g ml 4 (upd (upd (upd (upd mlf 0 n0) 1 n1) 2 n2) 3 n3)] H locs := hZ
  exact zz_vret hC hZ (rfl) (Nat.le_of_ble_eq_true rfl) (Nat.le_of_ble_eq_true rfl) dX3_tellLengths_29
theorem zl_lnn (r : Nat) (h : r < 2 ^ 31 := by omega) : ¬ lN r = -1 := fun q => by
  have e : (lN r).toInt = (r : Int) := lN_toInt (by omega)
  rw [q] at e
  have : (-1 : Int64).toInt = -1 := by decide
  omega
theorem zl_lnr {r : Nat} (h : r < 2 ^ 31) : (Int64.toInt (lN r)).toNat = r := by
  rw [lN_toInt (by omega)]; rfl
theorem zl_pl1 {pa pe : Nat} {rw : Nat → Nat → Int64} {Lf : Nat → Nat} {f a : Nat} (h : f = 1) : (pa + 1 = pa + zz_ct (fun _ => 1) rw Lf f a ∧ pe + Lf a = pe + zz_ct Lf rw Lf f a) ∨ (60 < pa + 1 ∧ 60 < pa + zz_ct (fun _ => 1) rw Lf f a) := by
  subst h; exact Or.inl ⟨rfl, rfl⟩
theorem zl_plE {pa pe pa1 pe1 i c e : Nat} {rw : Nat → Nat → Int64} {Lf : Nat → Nat} {f a : Nat} (h : (pa1 + zz_rr (fun _ => 1) rw Lf f a i = pa + c ∧ pe1 + zz_rr Lf rw Lf f a i = pe + e) ∨ (60 < pa1 ∧ 60 < pa + c)) (hx : i = Lf a ∨ 60 < pa1) : (pa1 = pa + c ∧ pe1 = pe + e) ∨ (60 < pa1 ∧ 60 < pa + c) := by
  rcases hx with hx | hx
  · have q1 := zz_rr0 (w := fun _ => 1) (rw := rw) (Lf := Lf) (f := f) (x := a) (k := i) (Or.inr hx)
    have q2 := zz_rr0 (w := Lf) (rw := rw) (Lf := Lf) (f := f) (x := a) (k := i) (Or.inr hx)
    omega
  · omega
theorem zl_tw1 {kd0 cl0 : Nat → Int32} {Sf Lf : Nat → Nat} {rw : Nat → Nat → Int64} {f a na nu : Nat} {kdf dpf clf saf lnf : Nat → Int32} {btf : Nat → Int64} {S : zz_S} (h : f = 1) (hAD : S = sp_add (kd0 a) (nI f) (cl0 a) (Lf a) (na, nu, kdf, dpf, clf, saf, lnf, btf)) : sp_cp (Sf a) nu (Lf a) S = sp_tw kd0 cl0 Sf Lf rw f a (na, nu, kdf, dpf, clf, saf, lnf, btf) := by
  subst h; rw [hAD]; rfl
theorem dg_X3_plan_0 : (decode cX3_plan 0 = .ok (.aload_n 0, 1)) ∧ (decode cX3_plan 1 = .ok (.dup, 1)) ∧ (decode cX3_plan 2 = .ok (.getfield 40, 3)) ∧ (decode cX3_plan 5 = .ok (.iconst 1, 1)) ∧ (decode cX3_plan 6 = .ok (.iadd, 1)) ∧ (decode cX3_plan 7 = .ok (.putfield 40, 3)) ∧ (decode cX3_plan 10 = .ok (.aload_n 0, 1)) ∧ (decode cX3_plan 11 = .ok (.dup, 1)) ∧ (decode cX3_plan 12 = .ok (.getfield 44, 3)) ∧ (decode cX3_plan 15 = .ok (.aload_n 0, 1)) ∧ (decode cX3_plan 16 = .ok (.getfield 15, 3)) ∧ (decode cX3_plan 19 = .ok (.getfield 51, 3)) ∧ (decode cX3_plan 22 = .ok (.iload_n 1, 1)) ∧ (decode cX3_plan 23 = .ok (.iaload, 1)) ∧ (decode cX3_plan 24 = .ok (.iadd, 1)) ∧ (decode cX3_plan 25 = .ok (.putfield 44, 3)) := by decide +kernel
theorem dX3_plan_0 : decode cX3_plan 0 = .ok (.aload_n 0, 1) := dg_X3_plan_0.1
theorem dX3_plan_1 : decode cX3_plan 1 = .ok (.dup, 1) := dg_X3_plan_0.2.1
theorem dX3_plan_2 : decode cX3_plan 2 = .ok (.getfield 40, 3) := dg_X3_plan_0.2.2.1
theorem dX3_plan_5 : decode cX3_plan 5 = .ok (.iconst 1, 1) := dg_X3_plan_0.2.2.2.1
theorem dX3_plan_6 : decode cX3_plan 6 = .ok (.iadd, 1) := dg_X3_plan_0.2.2.2.2.1
theorem dX3_plan_7 : decode cX3_plan 7 = .ok (.putfield 40, 3) := dg_X3_plan_0.2.2.2.2.2.1
theorem dX3_plan_10 : decode cX3_plan 10 = .ok (.aload_n 0, 1) := dg_X3_plan_0.2.2.2.2.2.2.1
theorem dX3_plan_11 : decode cX3_plan 11 = .ok (.dup, 1) := dg_X3_plan_0.2.2.2.2.2.2.2.1
theorem dX3_plan_12 : decode cX3_plan 12 = .ok (.getfield 44, 3) := dg_X3_plan_0.2.2.2.2.2.2.2.2.1
theorem dX3_plan_15 : decode cX3_plan 15 = .ok (.aload_n 0, 1) := dg_X3_plan_0.2.2.2.2.2.2.2.2.2.1
theorem dX3_plan_16 : decode cX3_plan 16 = .ok (.getfield 15, 3) := dg_X3_plan_0.2.2.2.2.2.2.2.2.2.2.1
theorem dX3_plan_19 : decode cX3_plan 19 = .ok (.getfield 51, 3) := dg_X3_plan_0.2.2.2.2.2.2.2.2.2.2.2.1
theorem dX3_plan_22 : decode cX3_plan 22 = .ok (.iload_n 1, 1) := dg_X3_plan_0.2.2.2.2.2.2.2.2.2.2.2.2.1
theorem dX3_plan_23 : decode cX3_plan 23 = .ok (.iaload, 1) := dg_X3_plan_0.2.2.2.2.2.2.2.2.2.2.2.2.2.1
theorem dX3_plan_24 : decode cX3_plan 24 = .ok (.iadd, 1) := dg_X3_plan_0.2.2.2.2.2.2.2.2.2.2.2.2.2.2.1
theorem dX3_plan_25 : decode cX3_plan 25 = .ok (.putfield 44, 3) := dg_X3_plan_0.2.2.2.2.2.2.2.2.2.2.2.2.2.2.2
theorem dg_X3_plan_28 : (decode cX3_plan 28 = .ok (.aload_n 0, 1)) ∧ (decode cX3_plan 29 = .ok (.getfield 15, 3)) ∧ (decode cX3_plan 32 = .ok (.getfield 54, 3)) ∧ (decode cX3_plan 35 = .ok (.iload_n 1, 1)) ∧ (decode cX3_plan 36 = .ok (.iaload, 1)) ∧ (decode cX3_plan 37 = .ok (.iconst 1, 1)) ∧ (decode cX3_plan 38 = .ok (.if_icmp .eq 8, 3)) ∧ (decode cX3_plan 41 = .ok (.iload_n 2, 1)) ∧ (decode cX3_plan 42 = .ok (.iconst 4, 1)) ∧ (decode cX3_plan 43 = .ok (.if_icmp .lt 4, 3)) ∧ (decode cX3_plan 46 = .ok (.return_, 1)) ∧ (decode cX3_plan 47 = .ok (.iconst 0, 1)) ∧ (decode cX3_plan 48 = .ok (.istore_n 3, 1)) ∧ (decode cX3_plan 49 = .ok (.iload_n 3, 1)) ∧ (decode cX3_plan 50 = .ok (.aload_n 0, 1)) ∧ (decode cX3_plan 51 = .ok (.getfield 15, 3)) := by decide +kernel
theorem dX3_plan_28 : decode cX3_plan 28 = .ok (.aload_n 0, 1) := dg_X3_plan_28.1
theorem dX3_plan_29 : decode cX3_plan 29 = .ok (.getfield 15, 3) := dg_X3_plan_28.2.1
theorem dX3_plan_32 : decode cX3_plan 32 = .ok (.getfield 54, 3) := dg_X3_plan_28.2.2.1
theorem dX3_plan_35 : decode cX3_plan 35 = .ok (.iload_n 1, 1) := dg_X3_plan_28.2.2.2.1
theorem dX3_plan_36 : decode cX3_plan 36 = .ok (.iaload, 1) := dg_X3_plan_28.2.2.2.2.1
theorem dX3_plan_37 : decode cX3_plan 37 = .ok (.iconst 1, 1) := dg_X3_plan_28.2.2.2.2.2.1
theorem dX3_plan_38 : decode cX3_plan 38 = .ok (.if_icmp .eq 8, 3) := dg_X3_plan_28.2.2.2.2.2.2.1
theorem dX3_plan_41 : decode cX3_plan 41 = .ok (.iload_n 2, 1) := dg_X3_plan_28.2.2.2.2.2.2.2.1
theorem dX3_plan_42 : decode cX3_plan 42 = .ok (.iconst 4, 1) := dg_X3_plan_28.2.2.2.2.2.2.2.2.1
theorem dX3_plan_43 : decode cX3_plan 43 = .ok (.if_icmp .lt 4, 3) := dg_X3_plan_28.2.2.2.2.2.2.2.2.2.1
theorem dX3_plan_46 : decode cX3_plan 46 = .ok (.return_, 1) := dg_X3_plan_28.2.2.2.2.2.2.2.2.2.2.1
theorem dX3_plan_47 : decode cX3_plan 47 = .ok (.iconst 0, 1) := dg_X3_plan_28.2.2.2.2.2.2.2.2.2.2.2.1
theorem dX3_plan_48 : decode cX3_plan 48 = .ok (.istore_n 3, 1) := dg_X3_plan_28.2.2.2.2.2.2.2.2.2.2.2.2.1
theorem dX3_plan_49 : decode cX3_plan 49 = .ok (.iload_n 3, 1) := dg_X3_plan_28.2.2.2.2.2.2.2.2.2.2.2.2.2.1
theorem dX3_plan_50 : decode cX3_plan 50 = .ok (.aload_n 0, 1) := dg_X3_plan_28.2.2.2.2.2.2.2.2.2.2.2.2.2.2.1
theorem dX3_plan_51 : decode cX3_plan 51 = .ok (.getfield 15, 3) := dg_X3_plan_28.2.2.2.2.2.2.2.2.2.2.2.2.2.2.2
theorem dg_X3_plan_54 : (decode cX3_plan 54 = .ok (.getfield 51, 3)) ∧ (decode cX3_plan 57 = .ok (.iload_n 1, 1)) ∧ (decode cX3_plan 58 = .ok (.iaload, 1)) ∧ (decode cX3_plan 59 = .ok (.if_icmp .ge 61, 3)) ∧ (decode cX3_plan 62 = .ok (.aload_n 0, 1)) ∧ (decode cX3_plan 63 = .ok (.getfield 40, 3)) ∧ (decode cX3_plan 66 = .ok (.bipush 60, 2)) ∧ (decode cX3_plan 68 = .ok (.if_icmp .gt 52, 3)) ∧ (decode cX3_plan 71 = .ok (.aload_n 0, 1)) ∧ (decode cX3_plan 72 = .ok (.getfield 15, 3)) ∧ (decode cX3_plan 75 = .ok (.getfield 33, 3)) ∧ (decode cX3_plan 78 = .ok (.aload_n 0, 1)) ∧ (decode cX3_plan 79 = .ok (.getfield 15, 3)) ∧ (decode cX3_plan 82 = .ok (.getfield 37, 3)) ∧ (decode cX3_plan 85 = .ok (.iload_n 1, 1)) ∧ (decode cX3_plan 86 = .ok (.iaload, 1)) := by decide +kernel
theorem dX3_plan_54 : decode cX3_plan 54 = .ok (.getfield 51, 3) := dg_X3_plan_54.1
theorem dX3_plan_57 : decode cX3_plan 57 = .ok (.iload_n 1, 1) := dg_X3_plan_54.2.1
theorem dX3_plan_58 : decode cX3_plan 58 = .ok (.iaload, 1) := dg_X3_plan_54.2.2.1
theorem dX3_plan_59 : decode cX3_plan 59 = .ok (.if_icmp .ge 61, 3) := dg_X3_plan_54.2.2.2.1
theorem dX3_plan_62 : decode cX3_plan 62 = .ok (.aload_n 0, 1) := dg_X3_plan_54.2.2.2.2.1
theorem dX3_plan_63 : decode cX3_plan 63 = .ok (.getfield 40, 3) := dg_X3_plan_54.2.2.2.2.2.1
theorem dX3_plan_66 : decode cX3_plan 66 = .ok (.bipush 60, 2) := dg_X3_plan_54.2.2.2.2.2.2.1
theorem dX3_plan_68 : decode cX3_plan 68 = .ok (.if_icmp .gt 52, 3) := dg_X3_plan_54.2.2.2.2.2.2.2.1
theorem dX3_plan_71 : decode cX3_plan 71 = .ok (.aload_n 0, 1) := dg_X3_plan_54.2.2.2.2.2.2.2.2.1
theorem dX3_plan_72 : decode cX3_plan 72 = .ok (.getfield 15, 3) := dg_X3_plan_54.2.2.2.2.2.2.2.2.2.1
theorem dX3_plan_75 : decode cX3_plan 75 = .ok (.getfield 33, 3) := dg_X3_plan_54.2.2.2.2.2.2.2.2.2.2.1
theorem dX3_plan_78 : decode cX3_plan 78 = .ok (.aload_n 0, 1) := dg_X3_plan_54.2.2.2.2.2.2.2.2.2.2.2.1
theorem dX3_plan_79 : decode cX3_plan 79 = .ok (.getfield 15, 3) := dg_X3_plan_54.2.2.2.2.2.2.2.2.2.2.2.2.1
theorem dX3_plan_82 : decode cX3_plan 82 = .ok (.getfield 37, 3) := dg_X3_plan_54.2.2.2.2.2.2.2.2.2.2.2.2.2.1
theorem dX3_plan_85 : decode cX3_plan 85 = .ok (.iload_n 1, 1) := dg_X3_plan_54.2.2.2.2.2.2.2.2.2.2.2.2.2.2.1
theorem dX3_plan_86 : decode cX3_plan 86 = .ok (.iaload, 1) := dg_X3_plan_54.2.2.2.2.2.2.2.2.2.2.2.2.2.2.2
theorem dg_X3_plan_87 : (decode cX3_plan 87 = .ok (.iload_n 3, 1)) ∧ (decode cX3_plan 88 = .ok (.iadd, 1)) ∧ (decode cX3_plan 89 = .ok (.laload, 1)) ∧ (decode cX3_plan 90 = .ok (.l2i, 1)) ∧ (decode cX3_plan 91 = .ok (.istore 4, 2)) ∧ (decode cX3_plan 93 = .ok (.aload_n 0, 1)) ∧ (decode cX3_plan 94 = .ok (.getfield 15, 3)) ∧ (decode cX3_plan 97 = .ok (.iload 4, 2)) ∧ (decode cX3_plan 99 = .ok (.invokevirtual 57, 3)) ∧ (decode cX3_plan 102 = .ok (.ifCond .eq 12, 3)) ∧ (decode cX3_plan 105 = .ok (.aload_n 0, 1)) ∧ (decode cX3_plan 106 = .ok (.iload 4, 2)) ∧ (decode cX3_plan 108 = .ok (.iload_n 2, 1)) ∧ (decode cX3_plan 109 = .ok (.iconst 1, 1)) ∧ (decode cX3_plan 110 = .ok (.iadd, 1)) ∧ (decode cX3_plan 111 = .ok (.invokevirtual 47, 3)) := by decide +kernel
theorem dX3_plan_87 : decode cX3_plan 87 = .ok (.iload_n 3, 1) := dg_X3_plan_87.1
theorem dX3_plan_88 : decode cX3_plan 88 = .ok (.iadd, 1) := dg_X3_plan_87.2.1
theorem dX3_plan_89 : decode cX3_plan 89 = .ok (.laload, 1) := dg_X3_plan_87.2.2.1
theorem dX3_plan_90 : decode cX3_plan 90 = .ok (.l2i, 1) := dg_X3_plan_87.2.2.2.1
theorem dX3_plan_91 : decode cX3_plan 91 = .ok (.istore 4, 2) := dg_X3_plan_87.2.2.2.2.1
theorem dX3_plan_93 : decode cX3_plan 93 = .ok (.aload_n 0, 1) := dg_X3_plan_87.2.2.2.2.2.1
theorem dX3_plan_94 : decode cX3_plan 94 = .ok (.getfield 15, 3) := dg_X3_plan_87.2.2.2.2.2.2.1
theorem dX3_plan_97 : decode cX3_plan 97 = .ok (.iload 4, 2) := dg_X3_plan_87.2.2.2.2.2.2.2.1
theorem dX3_plan_99 : decode cX3_plan 99 = .ok (.invokevirtual 57, 3) := dg_X3_plan_87.2.2.2.2.2.2.2.2.1
theorem dX3_plan_102 : decode cX3_plan 102 = .ok (.ifCond .eq 12, 3) := dg_X3_plan_87.2.2.2.2.2.2.2.2.2.1
theorem dX3_plan_105 : decode cX3_plan 105 = .ok (.aload_n 0, 1) := dg_X3_plan_87.2.2.2.2.2.2.2.2.2.2.1
theorem dX3_plan_106 : decode cX3_plan 106 = .ok (.iload 4, 2) := dg_X3_plan_87.2.2.2.2.2.2.2.2.2.2.2.1
theorem dX3_plan_108 : decode cX3_plan 108 = .ok (.iload_n 2, 1) := dg_X3_plan_87.2.2.2.2.2.2.2.2.2.2.2.2.1
theorem dX3_plan_109 : decode cX3_plan 109 = .ok (.iconst 1, 1) := dg_X3_plan_87.2.2.2.2.2.2.2.2.2.2.2.2.2.1
theorem dX3_plan_110 : decode cX3_plan 110 = .ok (.iadd, 1) := dg_X3_plan_87.2.2.2.2.2.2.2.2.2.2.2.2.2.2.1
theorem dX3_plan_111 : decode cX3_plan 111 = .ok (.invokevirtual 47, 3) := dg_X3_plan_87.2.2.2.2.2.2.2.2.2.2.2.2.2.2.2
theorem dg_X3_plan_114 : (decode cX3_plan 114 = .ok (.iinc 3 1, 3)) ∧ (decode cX3_plan 117 = .ok (.goto (-68), 3)) ∧ (decode cX3_plan 120 = .ok (.return_, 1)) := by decide +kernel
theorem dX3_plan_114 : decode cX3_plan 114 = .ok (.iinc 3 1, 3) := dg_X3_plan_114.1
theorem dX3_plan_117 : decode cX3_plan 117 = .ok (.goto (-68), 3) := dg_X3_plan_114.2.1
theorem dX3_plan_120 : decode cX3_plan 120 = .ok (.return_, 1) := dg_X3_plan_114.2.2
theorem zk_98 : Cond.fieldLink RX3 40 RX3 "planArrays" "I" ∈ zz_w := zz_in (List.mem_append_right _ (List.mem_append_left _ (List.mem_of_getElem? (i := 98) (by decide +kernel)))) rfl
theorem zf_X3_40 : zz_f RX3 40 2 2 := ⟨RX3, TX3, 4, rfl, zi_X3, by decide, zk_98⟩
theorem zu_X3_40 : zz_fw RX3 40 2 2 false .int := ⟨RX3, TX3, 4, tyX3, rfl, zi_X3, by decide, zk_98, tyX3_ok, nmX3, rfl, by decide +kernel, fun h => by cases h⟩
theorem zk_99 : Cond.fieldLink RX3 44 RX3 "planElements" "I" ∈ zz_w := zz_in (List.mem_append_right _ (List.mem_append_left _ (List.mem_of_getElem? (i := 99) (by decide +kernel)))) rfl
theorem zf_X3_44 : zz_f RX3 44 2 3 := ⟨RX3, TX3, 4, rfl, zi_X3, by decide, zk_99⟩
theorem zf_X3_15 : zz_f RX3 15 2 0 := ⟨RX3, TX3, 4, rfl, zi_X3, by decide, zk_96⟩
theorem zk_53 : Cond.fieldLink RX3 51 RX6 "length" "[I" ∈ zz_w := zz_in (List.mem_append_right _ (List.mem_append_left _ (List.mem_of_getElem? (i := 53) (by decide +kernel)))) rfl
theorem zf_X3_51 : zz_f RX3 51 5 6 := ⟨RX6, TX6, 10, rfl, zi_X6, by decide, zk_53⟩
theorem zu_X3_44 : zz_fw RX3 44 2 3 false .int := ⟨RX3, TX3, 4, tyX3, rfl, zi_X3, by decide, zk_99, tyX3_ok, nmX3, rfl, by decide +kernel, fun h => by cases h⟩
theorem zk_40 : Cond.fieldLink RX3 54 RX6 "depth" "[I" ∈ zz_w := zz_in (List.mem_append_right _ (List.mem_append_left _ (List.mem_of_getElem? (i := 40) (by decide +kernel)))) rfl
theorem zf_X3_54 : zz_f RX3 54 5 3 := ⟨RX6, TX6, 10, rfl, zi_X6, by decide, zk_40⟩
abbrev rm_co_plan4 : Room := { frames := 0, cells := 0, slots := 0, locals := 0 }
abbrev po_co_plan4 (g : zz_G) (mk : Nat) (ml : Nat) (st : Nat) (kd : Nat) (dp : Nat) (cl : Nat) (sa : Nat) (ln : Nat) (bt : Nat) (pn : Nat) (bf : Nat) (na : Nat) (nu : Nat) (pa : Nat) (pe : Nat) (dpf : Nat → Int32) (saf : Nat → Int32) (lnf : Nat → Int32) (btf : Nat → Int64) (Sf : Nat → Nat) (Lf : Nat → Nat) (Df : Nat → Nat) (a : Nat) (h_T : zz_TR na nu Sf Lf Df btf) (h_N : ∀ x, x < na → saf x = nI (Sf x) ∧ lnf x = nI (Lf x) ∧ dpf x = nI (Df x)) (h_a : a < na) (h_d : Df a + 4 ≤ 5) (h_p : pa ≤ 60 ∧ pe ≤ 200 * pa) : va_W → Prop := fun (u : va_W) => ∃ (pa2 : Nat) (pe2 : Nat), ((pa2 = pa + zz_ct (fun _ => 1) (fun x i => btf (Sf x + i)) Lf (Df a) a ∧ pe2 = pe + zz_ct Lf (fun x i => btf (Sf x + i)) Lf (Df a) a) ∨ (60 < pa2 ∧ 60 < pa + zz_ct (fun _ => 1) (fun x i => btf (Sf x + i)) Lf (Df a) a)) ∧ (pa < pa2 ∧ pa2 ≤ 61 ∧ pe2 ≤ pe + 200 * (pa2 - pa)) ∧ u = [cw_k2 mk st ml (nI pa2) (nI pe2), cw_k5 st (nI na) (nI nu) kd dp cl sa ln bt pn bf, cw_i g dp 60 dpf, cw_i g sa 60 saf, cw_i g ln 60 lnf, cw_l g bt 4000 btf]
set_option maxHeartbeats 4000000 in
set_option maxRecDepth 100000 in
theorem co_plan4 (g : zz_G) (mk : Nat) (ml : Nat) (st : Nat) (kd : Nat) (dp : Nat) (cl : Nat) (sa : Nat) (ln : Nat) (bt : Nat) (pn : Nat) (bf : Nat) (na : Nat) (nu : Nat) (pa : Nat) (pe : Nat) (dpf : Nat → Int32) (saf : Nat → Int32) (lnf : Nat → Int32) (btf : Nat → Int64) (Sf : Nat → Nat) (Lf : Nat → Nat) (Df : Nat → Nat) (a : Nat) (h_T : zz_TR na nu Sf Lf Df btf) (h_N : ∀ x, x < na → saf x = nI (Sf x) ∧ lnf x = nI (Lf x) ∧ dpf x = nI (Df x)) (h_a : a < na) (h_d : Df a + 4 ≤ 5) (h_p : pa ≤ 60 ∧ pe ≤ 200 * pa) : zz_V g yX3_plan (.code yX3_plan cX3_plan 5 none) rm_co_plan4 [.ref mk, .int (nI a), .int 4] [cw_k2 mk st ml (nI pa) (nI pe), cw_k5 st (nI na) (nI nu) kd dp cl sa ln bt pn bf, cw_i g dp 60 dpf, cw_i g sa 60 saf, cw_i g ln 60 lnf, cw_l g bt 4000 btf] (po_co_plan4 g mk ml st kd dp cl sa ln bt pn bf na nu pa pe dpf saf lnf btf Sf Lf Df a h_T h_N h_a h_d h_p) := by
  refine zz_V.intro (own := RX3) (cc := cX3_plan) (nL := 5) (by decide) rfl (Nat.le_of_ble_eq_true rfl) ?_
  intro p l e s m args below meth c A H locs ls hC hnm hs hZ hl
  obtain ⟨hx, hb, hml, hown, hts, hr, hlocks, hK⟩ := id hC
  have hl : lv_has ls 5 [(0, .ref mk), (1, .int (nI a)), (2, .int 4)] := hl
  have hZ : zz_Z g A s.heap [cw_k2 mk st ml (nI pa) (nI pe), cw_k5 st (nI na) (nI nu) kd dp cl sa ln bt pn bf, cw_i g dp 60 dpf, cw_i g sa 60 saf, cw_i g ln 60 lnf, cw_l g bt 4000 btf] H locs := hZ
  have hna := h_T.1
  have hnu := h_T.2.1
  obtain ⟨ya1, ya2, ya3⟩ := h_N a h_a
  obtain ⟨g1, g2, g3, g4⟩ := h_T.2.2.1 a h_a
  refine lv_aload_n hx hb dX3_plan_0 rfl (lv_at hl 0 rfl) ?_
  refine lv_dup hx hb dX3_plan_1 rfl ?_
  refine zz_get hC hZ 0 rfl zf_X3_40 rfl dX3_plan_2 ?_
  refine lv_iconst (v := 1) hx hb dX3_plan_5 (by decide) ?_
  refine lv_iadd hx hb dX3_plan_6 ?_
  refine zz_topi (v := nI (pa + 1)) (nI_1 _) ?_
  refine zz_put hC hZ 0 rfl zu_X3_40 (Nat.le_of_ble_eq_true rfl) dX3_plan_7 (fun H locs hZ => ?_)
  have hZ : zz_Z g A s.heap [cw_k2 mk st ml (nI (pa + 1)) (nI pe), cw_k5 st (nI na) (nI nu) kd dp cl sa ln bt pn bf, cw_i g dp 60 dpf, cw_i g sa 60 saf, cw_i g ln 60 lnf, cw_l g bt 4000 btf] H locs := hZ
  refine lv_aload_n hx hb dX3_plan_10 rfl (lv_at hl 0 rfl) ?_
  refine lv_dup hx hb dX3_plan_11 rfl ?_
  refine zz_get hC hZ 0 rfl zf_X3_44 rfl dX3_plan_12 ?_
  refine lv_aload_n hx hb dX3_plan_15 rfl (lv_at hl 0 rfl) ?_
  refine zz_get hC hZ 0 rfl zf_X3_15 rfl dX3_plan_16 ?_
  refine zz_get hC hZ 1 rfl zf_X3_51 rfl dX3_plan_19 ?_
  refine lv_iload_n hx hb dX3_plan_22 rfl (lv_at hl 1 rfl) ?_
  have bd1 : a < 60 := by omega
  refine zz_ialdn hC hZ 4 rfl bd1 (by decide) dX3_plan_23 ?_
  refine zz_topi (v := nI (Lf a)) (ya2) ?_
  refine lv_iadd hx hb dX3_plan_24 ?_
  refine zz_topi (v := nI (pe + (Lf a))) (nI_add _ _) ?_
  refine zz_put hC hZ 0 rfl zu_X3_44 (Nat.le_of_ble_eq_true rfl) dX3_plan_25 (fun H locs hZ => ?_)
  have hZ : zz_Z g A s.heap [cw_k2 mk st ml (nI (pa + 1)) (nI (pe + (Lf a))), cw_k5 st (nI na) (nI nu) kd dp cl sa ln bt pn bf, cw_i g dp 60 dpf, cw_i g sa 60 saf, cw_i g ln 60 lnf, cw_l g bt 4000 btf] H locs := hZ
  refine lv_aload_n hx hb dX3_plan_28 rfl (lv_at hl 0 rfl) ?_
  refine zz_get hC hZ 0 rfl zf_X3_15 rfl dX3_plan_29 ?_
  refine zz_get hC hZ 1 rfl zf_X3_54 rfl dX3_plan_32 ?_
  refine lv_iload_n hx hb dX3_plan_35 rfl (lv_at hl 1 rfl) ?_
  refine zz_ialdn hC hZ 2 rfl bd1 (by decide) dX3_plan_36 ?_
  refine zz_topi (v := nI (Df a)) (ya3) ?_
  refine lv_iconst (v := 1) hx hb dX3_plan_37 (by decide) ?_
  have bd3 : (Df a) < 2 ^ 31 := by omega
  refine lv_icmp_eq (tgt := 46) hx hb dX3_plan_38 (by decide) (fun c2 => ?_) (fun c2 => ?_)
  · have nc2 : (Df a) = 1 := (nI_eq bd3 (by decide)).mp (show nI ((Df a)) = nI (1) from c2)
    exact zz_vret hC hZ (⟨(pa + 1), (pe + (Lf a)), zl_pl1 (by omega), by omega, rfl⟩) (Nat.le_of_ble_eq_true rfl) (Nat.le_of_ble_eq_true rfl) dX3_plan_46
  · have nc2 : ¬ (Df a) = 1 := fun zq => c2 (show nI ((Df a)) = nI (1) from (nI_eq bd3 (by decide)).mpr zq)
    refine lv_iload_n hx hb dX3_plan_41 rfl (lv_at hl 2 rfl) ?_
    refine lv_iconst (v := 4) hx hb dX3_plan_42 (by decide) ?_
    refine lv_icmp_lt (tgt := 47) hx hb dX3_plan_43 (by decide) (fun c => absurd c (by decide)) (fun c4 => ?_)
    exact zz_vret hC hZ (⟨(pa + 1), (pe + (Lf a)), by omega, by omega, rfl⟩) (Nat.le_of_ble_eq_true rfl) (Nat.le_of_ble_eq_true rfl) dX3_plan_46
theorem zk_57 : Cond.fieldLink RX3 33 RX6 "bits" "[J" ∈ zz_w := zz_in (List.mem_append_right _ (List.mem_append_left _ (List.mem_of_getElem? (i := 57) (by decide +kernel)))) rfl
theorem zf_X3_33 : zz_f RX3 33 5 7 := ⟨RX6, TX6, 10, rfl, zi_X6, by decide, zk_57⟩
theorem zk_46 : Cond.fieldLink RX3 37 RX6 "start" "[I" ∈ zz_w := zz_in (List.mem_append_right _ (List.mem_append_left _ (List.mem_of_getElem? (i := 46) (by decide +kernel)))) rfl
theorem zf_X3_37 : zz_f RX3 37 5 5 := ⟨RX6, TX6, 10, rfl, zi_X6, by decide, zk_46⟩
theorem zk_459 : Cond.methodLink RX3 57 yX6_has ∈ zz_w := zz_in (List.mem_append_right _ (List.mem_append_right _ (List.mem_append_left _ (List.mem_of_getElem? (i := 219) (by decide +kernel))))) rfl
theorem zc_X3_57 : zz_cV RX3 57 yX6_has cX6_has 2 (some .boolean) 1 := ⟨⟨zk_459, zk_266, zk_2, by decide, by decide, by decide +kernel⟩, zk_264, zk_265⟩
theorem zk_455 : Cond.methodLink RX3 47 yX3_plan ∈ zz_w := zz_in (List.mem_append_right _ (List.mem_append_right _ (List.mem_append_left _ (List.mem_of_getElem? (i := 215) (by decide +kernel))))) rfl
set_option maxRecDepth 20000 in
theorem zk_458 : Cond.code yX3_plan cX3_plan 5 none ∈ zz_w := zz_in (List.mem_append_right _ (List.mem_append_right _ (List.mem_append_left _ (List.mem_of_getElem? (i := 218) (rfl))))) rfl
theorem zk_457 : Cond.instanceMethod yX3_plan ∈ zz_w := zz_in (List.mem_append_right _ (List.mem_append_right _ (List.mem_append_left _ (List.mem_of_getElem? (i := 217) (by decide +kernel))))) rfl
theorem zs_6 : Cond.selects RX3 yX3_plan yX3_plan ∈ zz_w := zz_in (List.mem_append_left _ (List.mem_of_getElem? (i := 6) (by decide +kernel))) rfl
theorem zc_X3_47 : zz_cV RX3 47 yX3_plan cX3_plan 5 none 2 := ⟨⟨zk_455, zk_458, zk_3, by decide, by decide, by decide +kernel⟩, zk_457, zs_6⟩
abbrev rm_co_plan3 : Room := { frames := 1, cells := 0, slots := 0, locals := 24 }
abbrev po_co_plan3 (g : zz_G) (mk : Nat) (ml : Nat) (st : Nat) (kd : Nat) (dp : Nat) (cl : Nat) (sa : Nat) (ln : Nat) (bt : Nat) (pn : Nat) (bf : Nat) (na : Nat) (nu : Nat) (pa : Nat) (pe : Nat) (dpf : Nat → Int32) (saf : Nat → Int32) (lnf : Nat → Int32) (btf : Nat → Int64) (Sf : Nat → Nat) (Lf : Nat → Nat) (Df : Nat → Nat) (a : Nat) (h_T : zz_TR na nu Sf Lf Df btf) (h_N : ∀ x, x < na → saf x = nI (Sf x) ∧ lnf x = nI (Lf x) ∧ dpf x = nI (Df x)) (h_a : a < na) (h_d : Df a + 3 ≤ 5) (h_p : pa ≤ 60 ∧ pe ≤ 200 * pa) : va_W → Prop := fun (u : va_W) => ∃ (pa2 : Nat) (pe2 : Nat), ((pa2 = pa + zz_ct (fun _ => 1) (fun x i => btf (Sf x + i)) Lf (Df a) a ∧ pe2 = pe + zz_ct Lf (fun x i => btf (Sf x + i)) Lf (Df a) a) ∨ (60 < pa2 ∧ 60 < pa + zz_ct (fun _ => 1) (fun x i => btf (Sf x + i)) Lf (Df a) a)) ∧ (pa < pa2 ∧ pa2 ≤ 61 ∧ pe2 ≤ pe + 200 * (pa2 - pa)) ∧ u = [cw_k2 mk st ml (nI pa2) (nI pe2), cw_k5 st (nI na) (nI nu) kd dp cl sa ln bt pn bf, cw_i g dp 60 dpf, cw_i g sa 60 saf, cw_i g ln 60 lnf, cw_l g bt 4000 btf]
set_option maxHeartbeats 4000000 in
set_option maxRecDepth 100000 in
theorem co_plan3 (g : zz_G) (mk : Nat) (ml : Nat) (st : Nat) (kd : Nat) (dp : Nat) (cl : Nat) (sa : Nat) (ln : Nat) (bt : Nat) (pn : Nat) (bf : Nat) (na : Nat) (nu : Nat) (pa : Nat) (pe : Nat) (dpf : Nat → Int32) (saf : Nat → Int32) (lnf : Nat → Int32) (btf : Nat → Int64) (Sf : Nat → Nat) (Lf : Nat → Nat) (Df : Nat → Nat) (a : Nat) (h_T : zz_TR na nu Sf Lf Df btf) (h_N : ∀ x, x < na → saf x = nI (Sf x) ∧ lnf x = nI (Lf x) ∧ dpf x = nI (Df x)) (h_a : a < na) (h_d : Df a + 3 ≤ 5) (h_p : pa ≤ 60 ∧ pe ≤ 200 * pa) : zz_V g yX3_plan (.code yX3_plan cX3_plan 5 none) rm_co_plan3 [.ref mk, .int (nI a), .int 3] [cw_k2 mk st ml (nI pa) (nI pe), cw_k5 st (nI na) (nI nu) kd dp cl sa ln bt pn bf, cw_i g dp 60 dpf, cw_i g sa 60 saf, cw_i g ln 60 lnf, cw_l g bt 4000 btf] (po_co_plan3 g mk ml st kd dp cl sa ln bt pn bf na nu pa pe dpf saf lnf btf Sf Lf Df a h_T h_N h_a h_d h_p) := by
  refine zz_V.intro (own := RX3) (cc := cX3_plan) (nL := 5) (by decide) rfl (Nat.le_of_ble_eq_true rfl) ?_
  intro p l e s m args below meth c A H locs ls hC hnm hs hZ hl
  obtain ⟨hx, hb, hml, hown, hts, hr, hlocks, hK⟩ := id hC
  have hl : lv_has ls 5 [(0, .ref mk), (1, .int (nI a)), (2, .int 3)] := hl
  have hZ : zz_Z g A s.heap [cw_k2 mk st ml (nI pa) (nI pe), cw_k5 st (nI na) (nI nu) kd dp cl sa ln bt pn bf, cw_i g dp 60 dpf, cw_i g sa 60 saf, cw_i g ln 60 lnf, cw_l g bt 4000 btf] H locs := hZ
  have hna := h_T.1
  have hnu := h_T.2.1
  obtain ⟨ya1, ya2, ya3⟩ := h_N a h_a
  obtain ⟨g1, g2, g3, g4⟩ := h_T.2.2.1 a h_a
  refine lv_aload_n hx hb dX3_plan_0 rfl (lv_at hl 0 rfl) ?_
  refine lv_dup hx hb dX3_plan_1 rfl ?_
  refine zz_get hC hZ 0 rfl zf_X3_40 rfl dX3_plan_2 ?_
  refine lv_iconst (v := 1) hx hb dX3_plan_5 (by decide) ?_
  refine lv_iadd hx hb dX3_plan_6 ?_
  refine zz_topi (v := nI (pa + 1)) (nI_1 _) ?_
  refine zz_put hC hZ 0 rfl zu_X3_40 (Nat.le_of_ble_eq_true rfl) dX3_plan_7 (fun H locs hZ => ?_)
  have hZ : zz_Z g A s.heap [cw_k2 mk st ml (nI (pa + 1)) (nI pe), cw_k5 st (nI na) (nI nu) kd dp cl sa ln bt pn bf, cw_i g dp 60 dpf, cw_i g sa 60 saf, cw_i g ln 60 lnf, cw_l g bt 4000 btf] H locs := hZ
  refine lv_aload_n hx hb dX3_plan_10 rfl (lv_at hl 0 rfl) ?_
  refine lv_dup hx hb dX3_plan_11 rfl ?_
  refine zz_get hC hZ 0 rfl zf_X3_44 rfl dX3_plan_12 ?_
  refine lv_aload_n hx hb dX3_plan_15 rfl (lv_at hl 0 rfl) ?_
  refine zz_get hC hZ 0 rfl zf_X3_15 rfl dX3_plan_16 ?_
  refine zz_get hC hZ 1 rfl zf_X3_51 rfl dX3_plan_19 ?_
  refine lv_iload_n hx hb dX3_plan_22 rfl (lv_at hl 1 rfl) ?_
  have bd1 : a < 60 := by omega
  refine zz_ialdn hC hZ 4 rfl bd1 (by decide) dX3_plan_23 ?_
  refine zz_topi (v := nI (Lf a)) (ya2) ?_
  refine lv_iadd hx hb dX3_plan_24 ?_
  refine zz_topi (v := nI (pe + (Lf a))) (nI_add _ _) ?_
  refine zz_put hC hZ 0 rfl zu_X3_44 (Nat.le_of_ble_eq_true rfl) dX3_plan_25 (fun H locs hZ => ?_)
  have hZ : zz_Z g A s.heap [cw_k2 mk st ml (nI (pa + 1)) (nI (pe + (Lf a))), cw_k5 st (nI na) (nI nu) kd dp cl sa ln bt pn bf, cw_i g dp 60 dpf, cw_i g sa 60 saf, cw_i g ln 60 lnf, cw_l g bt 4000 btf] H locs := hZ
  refine lv_aload_n hx hb dX3_plan_28 rfl (lv_at hl 0 rfl) ?_
  refine zz_get hC hZ 0 rfl zf_X3_15 rfl dX3_plan_29 ?_
  refine zz_get hC hZ 1 rfl zf_X3_54 rfl dX3_plan_32 ?_
  refine lv_iload_n hx hb dX3_plan_35 rfl (lv_at hl 1 rfl) ?_
  refine zz_ialdn hC hZ 2 rfl bd1 (by decide) dX3_plan_36 ?_
  refine zz_topi (v := nI (Df a)) (ya3) ?_
  refine lv_iconst (v := 1) hx hb dX3_plan_37 (by decide) ?_
  have bd3 : (Df a) < 2 ^ 31 := by omega
  refine lv_icmp_eq (tgt := 46) hx hb dX3_plan_38 (by decide) (fun c2 => ?_) (fun c2 => ?_)
  · have nc2 : (Df a) = 1 := (nI_eq bd3 (by decide)).mp (show nI ((Df a)) = nI (1) from c2)
    exact zz_vret hC hZ (⟨(pa + 1), (pe + (Lf a)), zl_pl1 (by omega), by omega, rfl⟩) (Nat.le_of_ble_eq_true rfl) (Nat.le_of_ble_eq_true rfl) dX3_plan_46
  · have nc2 : ¬ (Df a) = 1 := fun zq => c2 (show nI ((Df a)) = nI (1) from (nI_eq bd3 (by decide)).mpr zq)
    refine lv_iload_n hx hb dX3_plan_41 rfl (lv_at hl 2 rfl) ?_
    refine lv_iconst (v := 4) hx hb dX3_plan_42 (by decide) ?_
    refine lv_icmp_lt (tgt := 47) hx hb dX3_plan_43 (by decide) (fun c4 => ?_) (fun c => absurd (by decide) c)
    refine lv_iconst (v := 0) hx hb dX3_plan_47 (by decide) ?_
    refine lv_istore_n (lv' := [(3, .int 0), (0, .ref mk), (1, .int (nI a)), (2, .int 3)]) hx hb dX3_plan_48 rfl hl (by decide) rfl (fun ls hl => ?_)
    have hd2 : 2 ≤ Df a := by omega
    have hc1 : zz_ct (fun _ => 1) (fun x i => btf (Sf x + i)) Lf (Df a) a = 1 + zz_rr (fun _ => 1) (fun x i => btf (Sf x + i)) Lf (Df a) a 0 := zz_ct_rm (w := fun _ => 1) (by omega)
    have hcL : zz_ct Lf (fun x i => btf (Sf x + i)) Lf (Df a) a = Lf a + zz_rr Lf (fun x i => btf (Sf x + i)) Lf (Df a) a 0 := zz_ct_rm (w := Lf) (by omega)
    have LP5 : ∀ (N : Nat) (i : Nat) (pa1 : Nat) (pe1 : Nat) (H : Heap) (locs : List Loc) (ls : Array Slot), (i ≤ Lf a) → (pa < pa1 ∧ pa1 ≤ 61 ∧ pe1 ≤ pe + 200 * (pa1 - pa)) → ((pa1 + zz_rr (fun _ => 1) (fun x i => btf (Sf x + i)) Lf (Df a) a i = pa + zz_ct (fun _ => 1) (fun x i => btf (Sf x + i)) Lf (Df a) a ∧ pe1 + zz_rr Lf (fun x i => btf (Sf x + i)) Lf (Df a) a i = pe + zz_ct Lf (fun x i => btf (Sf x + i)) Lf (Df a) a) ∨ (60 < pa1 ∧ 60 < pa + zz_ct (fun _ => 1) (fun x i => btf (Sf x + i)) Lf (Df a) a)) → (Lf a - i) < N → zz_Z g A s.heap [cw_k2 mk st ml (nI pa1) (nI pe1), cw_k5 st (nI na) (nI nu) kd dp cl sa ln bt pn bf, cw_i g dp 60 dpf, cw_i g sa 60 saf, cw_i g ln 60 lnf, cw_l g bt 4000 btf] H locs → lv_has ls 5 [(3, .int (nI i)), (0, .ref mk), (1, .int (nI a)), (2, .int 3)] → W p l e rm_co_plan3 s m args below meth c H locs 0 0 (zz_QV below g args s A rm_co_plan3.cells rm_co_plan3.slots (po_co_plan3 g mk ml st kd dp cl sa ln bt pn bf na nu pa pe dpf saf lnf btf Sf Lf Df a h_T h_N h_a h_d h_p)) (F0 m 49 ls []) := by
      intro N
      induction N with
      | zero =>
        intro i pa1 pe1 H locs ls hi hbn hC1 hN
        exact absurd hN (Nat.not_lt_zero _)
      | succ N ih =>
        intro i pa1 pe1 H locs ls hi hbn hC1 hN hZ hl
        refine lv_iload_n hx hb dX3_plan_49 rfl (lv_at hl 0 rfl) ?_
        refine lv_aload_n hx hb dX3_plan_50 rfl (lv_at hl 1 rfl) ?_
        refine zz_get hC hZ 0 rfl zf_X3_15 rfl dX3_plan_51 ?_
        refine zz_get hC hZ 1 rfl zf_X3_51 rfl dX3_plan_54 ?_
        refine lv_iload_n hx hb dX3_plan_57 rfl (lv_at hl 2 rfl) ?_
        refine zz_ialdn hC hZ 4 rfl bd1 (by decide) dX3_plan_58 ?_
        refine zz_topi (v := nI (Lf a)) (ya2) ?_
        have bd7 : (Lf a) < 2 ^ 31 := by omega
        have bd8 : i < 2 ^ 31 := by omega
        refine lv_icmp_ge (tgt := 120) hx hb dX3_plan_59 (by decide) (fun c6 => ?_) (fun c6 => ?_)
        · have nc6 : (Lf a) ≤ i := (nI_leI bd7 bd8).mp (show nI ((Lf a)) ≤ nI (i) from c6)
          exact zz_vret hC hZ (⟨pa1, pe1, zl_plE hC1 (by omega), by omega, rfl⟩) (Nat.le_of_ble_eq_true rfl) (Nat.le_of_ble_eq_true rfl) dX3_plan_120
        · have nc6 : ¬ (Lf a) ≤ i := fun zq => c6 (show nI ((Lf a)) ≤ nI (i) from (nI_leI bd7 bd8).mpr zq)
          have hil : i < Lf a := by omega
          refine lv_aload_n hx hb dX3_plan_62 rfl (lv_at hl 1 rfl) ?_
          refine zz_get hC hZ 0 rfl zf_X3_40 rfl dX3_plan_63 ?_
          refine lv_bipush (v := 60) hx hb dX3_plan_66 (by decide) ?_
          have bd10 : pa1 < 2 ^ 31 := by omega
          refine lv_icmp_gt (tgt := 120) hx hb dX3_plan_68 (by decide) (fun c9 => ?_) (fun c9 => ?_)
          · have nc9 : 60 < pa1 := (nI_ltI (by decide) bd10).mp (show nI (60) < nI (pa1) from c9)
            exact zz_vret hC hZ (⟨pa1, pe1, zl_plE hC1 (by omega), by omega, rfl⟩) (Nat.le_of_ble_eq_true rfl) (Nat.le_of_ble_eq_true rfl) dX3_plan_120
          · have nc9 : ¬ 60 < pa1 := fun zq => c9 (show nI (60) < nI (pa1) from (nI_ltI (by decide) bd10).mpr zq)
            refine lv_aload_n hx hb dX3_plan_71 rfl (lv_at hl 1 rfl) ?_
            refine zz_get hC hZ 0 rfl zf_X3_15 rfl dX3_plan_72 ?_
            refine zz_get hC hZ 1 rfl zf_X3_33 rfl dX3_plan_75 ?_
            refine lv_aload_n hx hb dX3_plan_78 rfl (lv_at hl 1 rfl) ?_
            refine zz_get hC hZ 0 rfl zf_X3_15 rfl dX3_plan_79 ?_
            refine zz_get hC hZ 1 rfl zf_X3_37 rfl dX3_plan_82 ?_
            refine lv_iload_n hx hb dX3_plan_85 rfl (lv_at hl 2 rfl) ?_
            refine zz_ialdn hC hZ 3 rfl bd1 (by decide) dX3_plan_86 ?_
            refine zz_topi (v := nI (Sf a)) (ya1) ?_
            refine lv_iload_n hx hb dX3_plan_87 rfl (lv_at hl 0 rfl) ?_
            refine lv_iadd hx hb dX3_plan_88 ?_
            refine zz_topi (v := nI ((Sf a) + i)) (nI_add _ _) ?_
            have bd11 : ((Sf a) + i) < 4000 := by omega
            refine zz_laldn hC hZ 5 rfl bd11 (by decide) dX3_plan_89 ?_
            refine lv_l2i hx hb dX3_plan_90 rfl ?_
            rcases h_T.2.2.2 a h_a (by omega) i hil with hv | ⟨r, hr, hv, hdr⟩
            · refine zz_topi (v := -1) (by rw [hv]; decide) ?_
              refine lv_istore (lv' := [(4, .int (-1)), (3, .int (nI i)), (0, .ref mk), (1, .int (nI a)), (2, .int 3)]) hx hb dX3_plan_91 hl (by decide) rfl (fun ls hl => ?_)
              refine lv_aload_n hx hb dX3_plan_93 rfl (lv_at hl 2 rfl) ?_
              refine zz_get hC hZ 0 rfl zf_X3_15 rfl dX3_plan_94 ?_
              refine lv_iload hx hb dX3_plan_97 (lv_at hl 0 rfl) ?_
              refine zz_iV (As := [.int (-1)]) (wc := [cw_k5 st (nI na) (nI nu) kd dp cl sa ln bt pn bf]) (wr := [cw_k2 mk st ml (nI pa1) (nI pe1), cw_i g dp 60 dpf, cw_i g sa 60 saf, cw_i g ln 60 lnf, cw_l g bt 4000 btf]) (rest := []) hC hZ hs hl zc_X3_57 (co_has g st kd dp cl sa ln bt pn bf (nI na) (nI nu) (-1)) [1] [0, 2, 3, 4, 5] rfl rfl (by decide +kernel) (ci := 5) (q0 := 0) rfl rfl rfl rfl (Nat.le_of_ble_eq_true rfl) ⟨⟨Nat.le_of_ble_eq_true rfl, Nat.le_of_ble_eq_true rfl⟩, Nat.le_of_ble_eq_true rfl, Nat.le_of_ble_eq_true rfl⟩ dX3_plan_99 (fun r12 u13 H locs hp hZ => ?_)
              obtain ⟨rfl, rfl⟩ := hp
              have hZ : zz_Z g A s.heap [cw_k2 mk st ml (nI pa1) (nI pe1), cw_i g dp 60 dpf, cw_i g sa 60 saf, cw_i g ln 60 lnf, cw_l g bt 4000 btf, cw_k5 st (nI na) (nI nu) kd dp cl sa ln bt pn bf] H locs := hZ
              refine lv_if_eq (tgt := 114) hx hb dX3_plan_102 (by decide) (fun c14 => ?_) (fun c => absurd (zl_hasN) c)
              refine lv_iinc (v := nI (i + 1)) (lv' := [(3, .int (nI (i + 1))), (4, .int (-1)), (0, .ref mk), (1, .int (nI a)), (2, .int 3)]) hx hb dX3_plan_114 hl (k := 1) rfl (nI_1 _) (by decide) rfl (fun ls hl => ?_)
              refine lv_goto (tgt := 49) hx hb dX3_plan_117 (by decide) ?_
              have hr1 : zz_rr (fun _ => 1) (fun x i => btf (Sf x + i)) Lf (Df a) a i = zz_rr (fun _ => 1) (fun x i => btf (Sf x + i)) Lf (Df a) a (i + 1) := zz_rr_null (w := fun _ => 1) hd2 hil hv
              have hrL : zz_rr Lf (fun x i => btf (Sf x + i)) Lf (Df a) a i = zz_rr Lf (fun x i => btf (Sf x + i)) Lf (Df a) a (i + 1) := zz_rr_null (w := Lf) hd2 hil hv
              exact ih (i + 1) pa1 pe1 H locs ls (by omega) (by omega) (by omega) (by omega) (hZ.sub [0, 5, 1, 2, 3, 4] (by decide +kernel) rfl) (lv_sub hl [0, 2, 3, 4] rfl)
            · refine zz_topi (v := nI r) (by rw [hv]; exact lN_i r) ?_
              refine lv_istore (lv' := [(4, .int (nI r)), (3, .int (nI i)), (0, .ref mk), (1, .int (nI a)), (2, .int 3)]) hx hb dX3_plan_91 hl (by decide) rfl (fun ls hl => ?_)
              refine lv_aload_n hx hb dX3_plan_93 rfl (lv_at hl 2 rfl) ?_
              refine zz_get hC hZ 0 rfl zf_X3_15 rfl dX3_plan_94 ?_
              refine lv_iload hx hb dX3_plan_97 (lv_at hl 0 rfl) ?_
              refine zz_iV (As := [.int (nI r)]) (wc := [cw_k5 st (nI na) (nI nu) kd dp cl sa ln bt pn bf]) (wr := [cw_k2 mk st ml (nI pa1) (nI pe1), cw_i g dp 60 dpf, cw_i g sa 60 saf, cw_i g ln 60 lnf, cw_l g bt 4000 btf]) (rest := []) hC hZ hs hl zc_X3_57 (co_has g st kd dp cl sa ln bt pn bf (nI na) (nI nu) (nI r)) [1] [0, 2, 3, 4, 5] rfl rfl (by decide +kernel) (ci := 5) (q0 := 0) rfl rfl rfl rfl (Nat.le_of_ble_eq_true rfl) ⟨⟨Nat.le_of_ble_eq_true rfl, Nat.le_of_ble_eq_true rfl⟩, Nat.le_of_ble_eq_true rfl, Nat.le_of_ble_eq_true rfl⟩ dX3_plan_99 (fun r15 u16 H locs hp hZ => ?_)
              obtain ⟨rfl, rfl⟩ := hp
              have hZ : zz_Z g A s.heap [cw_k2 mk st ml (nI pa1) (nI pe1), cw_i g dp 60 dpf, cw_i g sa 60 saf, cw_i g ln 60 lnf, cw_l g bt 4000 btf, cw_k5 st (nI na) (nI nu) kd dp cl sa ln bt pn bf] H locs := hZ
              refine lv_if_eq (tgt := 114) hx hb dX3_plan_102 (by decide) (fun c => absurd c (zl_hasY (by omega) (by omega))) (fun c17 => ?_)
              refine lv_aload_n hx hb dX3_plan_105 rfl (lv_at hl 2 rfl) ?_
              refine lv_iload hx hb dX3_plan_106 (lv_at hl 0 rfl) ?_
              refine lv_iload_n hx hb dX3_plan_108 rfl (lv_at hl 4 rfl) ?_
              refine lv_iconst (v := 1) hx hb dX3_plan_109 (by decide) ?_
              refine lv_iadd hx hb dX3_plan_110 ?_
              refine zz_topi (v := 4) (by decide) ?_
              refine zz_vV (As := [.int (nI r), .int 4]) (wc := [cw_k2 mk st ml (nI pa1) (nI pe1), cw_k5 st (nI na) (nI nu) kd dp cl sa ln bt pn bf, cw_i g dp 60 dpf, cw_i g sa 60 saf, cw_i g ln 60 lnf, cw_l g bt 4000 btf]) (wr := []) (rest := []) hC hZ hs hl zc_X3_47 (co_plan4 g mk ml st kd dp cl sa ln bt pn bf na nu pa1 pe1 dpf saf lnf btf Sf Lf Df r (h_T) (h_N) (by omega) (by omega) (by omega)) [0, 5, 1, 2, 3, 4] [] rfl rfl (by decide +kernel) (ci := 2) (q0 := 0) rfl rfl rfl rfl (Nat.le_of_ble_eq_true rfl) ⟨⟨Nat.le_of_ble_eq_true rfl, Nat.le_of_ble_eq_true rfl⟩, Nat.le_of_ble_eq_true rfl, Nat.le_of_ble_eq_true rfl⟩ dX3_plan_111 (fun u19 H locs hp hZ => ?_)
              obtain ⟨pa2_20, pe2_21, f22, f23, rfl⟩ := hp
              have hZ : zz_Z g A s.heap [cw_k2 mk st ml (nI pa2_20) (nI pe2_21), cw_k5 st (nI na) (nI nu) kd dp cl sa ln bt pn bf, cw_i g dp 60 dpf, cw_i g sa 60 saf, cw_i g ln 60 lnf, cw_l g bt 4000 btf] H locs := hZ
              refine lv_iinc (v := nI (i + 1)) (lv' := [(3, .int (nI (i + 1))), (4, .int (nI r)), (0, .ref mk), (1, .int (nI a)), (2, .int 3)]) hx hb dX3_plan_114 hl (k := 1) rfl (nI_1 _) (by decide) rfl (fun ls hl => ?_)
              refine lv_goto (tgt := 49) hx hb dX3_plan_117 (by decide) ?_
              have hr1 := zz_rr_row (w := fun _ => 1) (rw := (fun x i => btf (Sf x + i))) (Lf := Lf) (f := Df a) (x := a) (k := i) (r := r) hd2 hil hv (by omega)
              have hq1 : zz_ct (fun _ => 1) (fun x i => btf (Sf x + i)) Lf (Df r) r = 1 + zz_rr (fun _ => 1) (fun x i => btf (Sf x + i)) Lf (Df r) r 0 := zz_ct_rm (w := fun _ => 1) (by omega)
              rw [show Df a - 1 = Df r by omega] at hr1
              have hr1 : zz_rr (fun _ => 1) (fun x i => btf (Sf x + i)) Lf (Df a) a i = 1 + zz_rr (fun _ => 1) (fun x i => btf (Sf x + i)) Lf (Df r) r 0 + zz_rr (fun _ => 1) (fun x i => btf (Sf x + i)) Lf (Df a) a (i + 1) := hr1
              have hrL := zz_rr_row (w := Lf) (rw := (fun x i => btf (Sf x + i))) (Lf := Lf) (f := Df a) (x := a) (k := i) (r := r) hd2 hil hv (by omega)
              have hqL : zz_ct Lf (fun x i => btf (Sf x + i)) Lf (Df r) r = Lf r + zz_rr Lf (fun x i => btf (Sf x + i)) Lf (Df r) r 0 := zz_ct_rm (w := Lf) (by omega)
              rw [show Df a - 1 = Df r by omega] at hrL
              have hf1 := f22
              have hf2 := f23
              exact ih (i + 1) pa2_20 pe2_21 H locs ls (by omega) (by omega) (by omega) (by omega) hZ (lv_sub hl [0, 2, 3, 4] rfl)
    exact LP5 _ 0 (pa + 1) (pe + (Lf a)) H locs ls (by omega) (by omega) (by omega) (Nat.lt_succ_self _) hZ (lv_sub hl [0, 1, 2, 3] rfl)
abbrev rm_co_plan2 : Room := { frames := 2, cells := 0, slots := 0, locals := 48 }
abbrev po_co_plan2 (g : zz_G) (mk : Nat) (ml : Nat) (st : Nat) (kd : Nat) (dp : Nat) (cl : Nat) (sa : Nat) (ln : Nat) (bt : Nat) (pn : Nat) (bf : Nat) (na : Nat) (nu : Nat) (pa : Nat) (pe : Nat) (dpf : Nat → Int32) (saf : Nat → Int32) (lnf : Nat → Int32) (btf : Nat → Int64) (Sf : Nat → Nat) (Lf : Nat → Nat) (Df : Nat → Nat) (a : Nat) (h_T : zz_TR na nu Sf Lf Df btf) (h_N : ∀ x, x < na → saf x = nI (Sf x) ∧ lnf x = nI (Lf x) ∧ dpf x = nI (Df x)) (h_a : a < na) (h_d : Df a + 2 ≤ 5) (h_p : pa ≤ 60 ∧ pe ≤ 200 * pa) : va_W → Prop := fun (u : va_W) => ∃ (pa2 : Nat) (pe2 : Nat), ((pa2 = pa + zz_ct (fun _ => 1) (fun x i => btf (Sf x + i)) Lf (Df a) a ∧ pe2 = pe + zz_ct Lf (fun x i => btf (Sf x + i)) Lf (Df a) a) ∨ (60 < pa2 ∧ 60 < pa + zz_ct (fun _ => 1) (fun x i => btf (Sf x + i)) Lf (Df a) a)) ∧ (pa < pa2 ∧ pa2 ≤ 61 ∧ pe2 ≤ pe + 200 * (pa2 - pa)) ∧ u = [cw_k2 mk st ml (nI pa2) (nI pe2), cw_k5 st (nI na) (nI nu) kd dp cl sa ln bt pn bf, cw_i g dp 60 dpf, cw_i g sa 60 saf, cw_i g ln 60 lnf, cw_l g bt 4000 btf]
set_option maxHeartbeats 4000000 in
set_option maxRecDepth 100000 in
theorem co_plan2 (g : zz_G) (mk : Nat) (ml : Nat) (st : Nat) (kd : Nat) (dp : Nat) (cl : Nat) (sa : Nat) (ln : Nat) (bt : Nat) (pn : Nat) (bf : Nat) (na : Nat) (nu : Nat) (pa : Nat) (pe : Nat) (dpf : Nat → Int32) (saf : Nat → Int32) (lnf : Nat → Int32) (btf : Nat → Int64) (Sf : Nat → Nat) (Lf : Nat → Nat) (Df : Nat → Nat) (a : Nat) (h_T : zz_TR na nu Sf Lf Df btf) (h_N : ∀ x, x < na → saf x = nI (Sf x) ∧ lnf x = nI (Lf x) ∧ dpf x = nI (Df x)) (h_a : a < na) (h_d : Df a + 2 ≤ 5) (h_p : pa ≤ 60 ∧ pe ≤ 200 * pa) : zz_V g yX3_plan (.code yX3_plan cX3_plan 5 none) rm_co_plan2 [.ref mk, .int (nI a), .int 2] [cw_k2 mk st ml (nI pa) (nI pe), cw_k5 st (nI na) (nI nu) kd dp cl sa ln bt pn bf, cw_i g dp 60 dpf, cw_i g sa 60 saf, cw_i g ln 60 lnf, cw_l g bt 4000 btf] (po_co_plan2 g mk ml st kd dp cl sa ln bt pn bf na nu pa pe dpf saf lnf btf Sf Lf Df a h_T h_N h_a h_d h_p) := by
  refine zz_V.intro (own := RX3) (cc := cX3_plan) (nL := 5) (by decide) rfl (Nat.le_of_ble_eq_true rfl) ?_
  intro p l e s m args below meth c A H locs ls hC hnm hs hZ hl
  obtain ⟨hx, hb, hml, hown, hts, hr, hlocks, hK⟩ := id hC
  have hl : lv_has ls 5 [(0, .ref mk), (1, .int (nI a)), (2, .int 2)] := hl
  have hZ : zz_Z g A s.heap [cw_k2 mk st ml (nI pa) (nI pe), cw_k5 st (nI na) (nI nu) kd dp cl sa ln bt pn bf, cw_i g dp 60 dpf, cw_i g sa 60 saf, cw_i g ln 60 lnf, cw_l g bt 4000 btf] H locs := hZ
  have hna := h_T.1
  have hnu := h_T.2.1
  obtain ⟨ya1, ya2, ya3⟩ := h_N a h_a
  obtain ⟨g1, g2, g3, g4⟩ := h_T.2.2.1 a h_a
  refine lv_aload_n hx hb dX3_plan_0 rfl (lv_at hl 0 rfl) ?_
  refine lv_dup hx hb dX3_plan_1 rfl ?_
  refine zz_get hC hZ 0 rfl zf_X3_40 rfl dX3_plan_2 ?_
  refine lv_iconst (v := 1) hx hb dX3_plan_5 (by decide) ?_
  refine lv_iadd hx hb dX3_plan_6 ?_
  refine zz_topi (v := nI (pa + 1)) (nI_1 _) ?_
  refine zz_put hC hZ 0 rfl zu_X3_40 (Nat.le_of_ble_eq_true rfl) dX3_plan_7 (fun H locs hZ => ?_)
  have hZ : zz_Z g A s.heap [cw_k2 mk st ml (nI (pa + 1)) (nI pe), cw_k5 st (nI na) (nI nu) kd dp cl sa ln bt pn bf, cw_i g dp 60 dpf, cw_i g sa 60 saf, cw_i g ln 60 lnf, cw_l g bt 4000 btf] H locs := hZ
  refine lv_aload_n hx hb dX3_plan_10 rfl (lv_at hl 0 rfl) ?_
  refine lv_dup hx hb dX3_plan_11 rfl ?_
  refine zz_get hC hZ 0 rfl zf_X3_44 rfl dX3_plan_12 ?_
  refine lv_aload_n hx hb dX3_plan_15 rfl (lv_at hl 0 rfl) ?_
  refine zz_get hC hZ 0 rfl zf_X3_15 rfl dX3_plan_16 ?_
  refine zz_get hC hZ 1 rfl zf_X3_51 rfl dX3_plan_19 ?_
  refine lv_iload_n hx hb dX3_plan_22 rfl (lv_at hl 1 rfl) ?_
  have bd1 : a < 60 := by omega
  refine zz_ialdn hC hZ 4 rfl bd1 (by decide) dX3_plan_23 ?_
  refine zz_topi (v := nI (Lf a)) (ya2) ?_
  refine lv_iadd hx hb dX3_plan_24 ?_
  refine zz_topi (v := nI (pe + (Lf a))) (nI_add _ _) ?_
  refine zz_put hC hZ 0 rfl zu_X3_44 (Nat.le_of_ble_eq_true rfl) dX3_plan_25 (fun H locs hZ => ?_)
  have hZ : zz_Z g A s.heap [cw_k2 mk st ml (nI (pa + 1)) (nI (pe + (Lf a))), cw_k5 st (nI na) (nI nu) kd dp cl sa ln bt pn bf, cw_i g dp 60 dpf, cw_i g sa 60 saf, cw_i g ln 60 lnf, cw_l g bt 4000 btf] H locs := hZ
  refine lv_aload_n hx hb dX3_plan_28 rfl (lv_at hl 0 rfl) ?_
  refine zz_get hC hZ 0 rfl zf_X3_15 rfl dX3_plan_29 ?_
  refine zz_get hC hZ 1 rfl zf_X3_54 rfl dX3_plan_32 ?_
  refine lv_iload_n hx hb dX3_plan_35 rfl (lv_at hl 1 rfl) ?_
  refine zz_ialdn hC hZ 2 rfl bd1 (by decide) dX3_plan_36 ?_
  refine zz_topi (v := nI (Df a)) (ya3) ?_
  refine lv_iconst (v := 1) hx hb dX3_plan_37 (by decide) ?_
  have bd3 : (Df a) < 2 ^ 31 := by omega
  refine lv_icmp_eq (tgt := 46) hx hb dX3_plan_38 (by decide) (fun c2 => ?_) (fun c2 => ?_)
  · have nc2 : (Df a) = 1 := (nI_eq bd3 (by decide)).mp (show nI ((Df a)) = nI (1) from c2)
    exact zz_vret hC hZ (⟨(pa + 1), (pe + (Lf a)), zl_pl1 (by omega), by omega, rfl⟩) (Nat.le_of_ble_eq_true rfl) (Nat.le_of_ble_eq_true rfl) dX3_plan_46
  · have nc2 : ¬ (Df a) = 1 := fun zq => c2 (show nI ((Df a)) = nI (1) from (nI_eq bd3 (by decide)).mpr zq)
    refine lv_iload_n hx hb dX3_plan_41 rfl (lv_at hl 2 rfl) ?_
    refine lv_iconst (v := 4) hx hb dX3_plan_42 (by decide) ?_
    refine lv_icmp_lt (tgt := 47) hx hb dX3_plan_43 (by decide) (fun c4 => ?_) (fun c => absurd (by decide) c)
    refine lv_iconst (v := 0) hx hb dX3_plan_47 (by decide) ?_
    refine lv_istore_n (lv' := [(3, .int 0), (0, .ref mk), (1, .int (nI a)), (2, .int 2)]) hx hb dX3_plan_48 rfl hl (by decide) rfl (fun ls hl => ?_)
    have hd2 : 2 ≤ Df a := by omega
    have hc1 : zz_ct (fun _ => 1) (fun x i => btf (Sf x + i)) Lf (Df a) a = 1 + zz_rr (fun _ => 1) (fun x i => btf (Sf x + i)) Lf (Df a) a 0 := zz_ct_rm (w := fun _ => 1) (by omega)
    have hcL : zz_ct Lf (fun x i => btf (Sf x + i)) Lf (Df a) a = Lf a + zz_rr Lf (fun x i => btf (Sf x + i)) Lf (Df a) a 0 := zz_ct_rm (w := Lf) (by omega)
    have LP5 : ∀ (N : Nat) (i : Nat) (pa1 : Nat) (pe1 : Nat) (H : Heap) (locs : List Loc) (ls : Array Slot), (i ≤ Lf a) → (pa < pa1 ∧ pa1 ≤ 61 ∧ pe1 ≤ pe + 200 * (pa1 - pa)) → ((pa1 + zz_rr (fun _ => 1) (fun x i => btf (Sf x + i)) Lf (Df a) a i = pa + zz_ct (fun _ => 1) (fun x i => btf (Sf x + i)) Lf (Df a) a ∧ pe1 + zz_rr Lf (fun x i => btf (Sf x + i)) Lf (Df a) a i = pe + zz_ct Lf (fun x i => btf (Sf x + i)) Lf (Df a) a) ∨ (60 < pa1 ∧ 60 < pa + zz_ct (fun _ => 1) (fun x i => btf (Sf x + i)) Lf (Df a) a)) → (Lf a - i) < N → zz_Z g A s.heap [cw_k2 mk st ml (nI pa1) (nI pe1), cw_k5 st (nI na) (nI nu) kd dp cl sa ln bt pn bf, cw_i g dp 60 dpf, cw_i g sa 60 saf, cw_i g ln 60 lnf, cw_l g bt 4000 btf] H locs → lv_has ls 5 [(3, .int (nI i)), (0, .ref mk), (1, .int (nI a)), (2, .int 2)] → W p l e rm_co_plan2 s m args below meth c H locs 0 0 (zz_QV below g args s A rm_co_plan2.cells rm_co_plan2.slots (po_co_plan2 g mk ml st kd dp cl sa ln bt pn bf na nu pa pe dpf saf lnf btf Sf Lf Df a h_T h_N h_a h_d h_p)) (F0 m 49 ls []) := by
      intro N
      induction N with
      | zero =>
        intro i pa1 pe1 H locs ls hi hbn hC1 hN
        exact absurd hN (Nat.not_lt_zero _)
      | succ N ih =>
        intro i pa1 pe1 H locs ls hi hbn hC1 hN hZ hl
        refine lv_iload_n hx hb dX3_plan_49 rfl (lv_at hl 0 rfl) ?_
        refine lv_aload_n hx hb dX3_plan_50 rfl (lv_at hl 1 rfl) ?_
        refine zz_get hC hZ 0 rfl zf_X3_15 rfl dX3_plan_51 ?_
        refine zz_get hC hZ 1 rfl zf_X3_51 rfl dX3_plan_54 ?_
        refine lv_iload_n hx hb dX3_plan_57 rfl (lv_at hl 2 rfl) ?_
        refine zz_ialdn hC hZ 4 rfl bd1 (by decide) dX3_plan_58 ?_
        refine zz_topi (v := nI (Lf a)) (ya2) ?_
        have bd7 : (Lf a) < 2 ^ 31 := by omega
        have bd8 : i < 2 ^ 31 := by omega
        refine lv_icmp_ge (tgt := 120) hx hb dX3_plan_59 (by decide) (fun c6 => ?_) (fun c6 => ?_)
        · have nc6 : (Lf a) ≤ i := (nI_leI bd7 bd8).mp (show nI ((Lf a)) ≤ nI (i) from c6)
          exact zz_vret hC hZ (⟨pa1, pe1, zl_plE hC1 (by omega), by omega, rfl⟩) (Nat.le_of_ble_eq_true rfl) (Nat.le_of_ble_eq_true rfl) dX3_plan_120
        · have nc6 : ¬ (Lf a) ≤ i := fun zq => c6 (show nI ((Lf a)) ≤ nI (i) from (nI_leI bd7 bd8).mpr zq)
          have hil : i < Lf a := by omega
          refine lv_aload_n hx hb dX3_plan_62 rfl (lv_at hl 1 rfl) ?_
          refine zz_get hC hZ 0 rfl zf_X3_40 rfl dX3_plan_63 ?_
          refine lv_bipush (v := 60) hx hb dX3_plan_66 (by decide) ?_
          have bd10 : pa1 < 2 ^ 31 := by omega
          refine lv_icmp_gt (tgt := 120) hx hb dX3_plan_68 (by decide) (fun c9 => ?_) (fun c9 => ?_)
          · have nc9 : 60 < pa1 := (nI_ltI (by decide) bd10).mp (show nI (60) < nI (pa1) from c9)
            exact zz_vret hC hZ (⟨pa1, pe1, zl_plE hC1 (by omega), by omega, rfl⟩) (Nat.le_of_ble_eq_true rfl) (Nat.le_of_ble_eq_true rfl) dX3_plan_120
          · have nc9 : ¬ 60 < pa1 := fun zq => c9 (show nI (60) < nI (pa1) from (nI_ltI (by decide) bd10).mpr zq)
            refine lv_aload_n hx hb dX3_plan_71 rfl (lv_at hl 1 rfl) ?_
            refine zz_get hC hZ 0 rfl zf_X3_15 rfl dX3_plan_72 ?_
            refine zz_get hC hZ 1 rfl zf_X3_33 rfl dX3_plan_75 ?_
            refine lv_aload_n hx hb dX3_plan_78 rfl (lv_at hl 1 rfl) ?_
            refine zz_get hC hZ 0 rfl zf_X3_15 rfl dX3_plan_79 ?_
            refine zz_get hC hZ 1 rfl zf_X3_37 rfl dX3_plan_82 ?_
            refine lv_iload_n hx hb dX3_plan_85 rfl (lv_at hl 2 rfl) ?_
            refine zz_ialdn hC hZ 3 rfl bd1 (by decide) dX3_plan_86 ?_
            refine zz_topi (v := nI (Sf a)) (ya1) ?_
            refine lv_iload_n hx hb dX3_plan_87 rfl (lv_at hl 0 rfl) ?_
            refine lv_iadd hx hb dX3_plan_88 ?_
            refine zz_topi (v := nI ((Sf a) + i)) (nI_add _ _) ?_
            have bd11 : ((Sf a) + i) < 4000 := by omega
            refine zz_laldn hC hZ 5 rfl bd11 (by decide) dX3_plan_89 ?_
            refine lv_l2i hx hb dX3_plan_90 rfl ?_
            rcases h_T.2.2.2 a h_a (by omega) i hil with hv | ⟨r, hr, hv, hdr⟩
            · refine zz_topi (v := -1) (by rw [hv]; decide) ?_
              refine lv_istore (lv' := [(4, .int (-1)), (3, .int (nI i)), (0, .ref mk), (1, .int (nI a)), (2, .int 2)]) hx hb dX3_plan_91 hl (by decide) rfl (fun ls hl => ?_)
              refine lv_aload_n hx hb dX3_plan_93 rfl (lv_at hl 2 rfl) ?_
              refine zz_get hC hZ 0 rfl zf_X3_15 rfl dX3_plan_94 ?_
              refine lv_iload hx hb dX3_plan_97 (lv_at hl 0 rfl) ?_
              refine zz_iV (As := [.int (-1)]) (wc := [cw_k5 st (nI na) (nI nu) kd dp cl sa ln bt pn bf]) (wr := [cw_k2 mk st ml (nI pa1) (nI pe1), cw_i g dp 60 dpf, cw_i g sa 60 saf, cw_i g ln 60 lnf, cw_l g bt 4000 btf]) (rest := []) hC hZ hs hl zc_X3_57 (co_has g st kd dp cl sa ln bt pn bf (nI na) (nI nu) (-1)) [1] [0, 2, 3, 4, 5] rfl rfl (by decide +kernel) (ci := 5) (q0 := 0) rfl rfl rfl rfl (Nat.le_of_ble_eq_true rfl) ⟨⟨Nat.le_of_ble_eq_true rfl, Nat.le_of_ble_eq_true rfl⟩, Nat.le_of_ble_eq_true rfl, Nat.le_of_ble_eq_true rfl⟩ dX3_plan_99 (fun r12 u13 H locs hp hZ => ?_)
              obtain ⟨rfl, rfl⟩ := hp
              have hZ : zz_Z g A s.heap [cw_k2 mk st ml (nI pa1) (nI pe1), cw_i g dp 60 dpf, cw_i g sa 60 saf, cw_i g ln 60 lnf, cw_l g bt 4000 btf, cw_k5 st (nI na) (nI nu) kd dp cl sa ln bt pn bf] H locs := hZ
              refine lv_if_eq (tgt := 114) hx hb dX3_plan_102 (by decide) (fun c14 => ?_) (fun c => absurd (zl_hasN) c)
              refine lv_iinc (v := nI (i + 1)) (lv' := [(3, .int (nI (i + 1))), (4, .int (-1)), (0, .ref mk), (1, .int (nI a)), (2, .int 2)]) hx hb dX3_plan_114 hl (k := 1) rfl (nI_1 _) (by decide) rfl (fun ls hl => ?_)
              refine lv_goto (tgt := 49) hx hb dX3_plan_117 (by decide) ?_
              have hr1 : zz_rr (fun _ => 1) (fun x i => btf (Sf x + i)) Lf (Df a) a i = zz_rr (fun _ => 1) (fun x i => btf (Sf x + i)) Lf (Df a) a (i + 1) := zz_rr_null (w := fun _ => 1) hd2 hil hv
              have hrL : zz_rr Lf (fun x i => btf (Sf x + i)) Lf (Df a) a i = zz_rr Lf (fun x i => btf (Sf x + i)) Lf (Df a) a (i + 1) := zz_rr_null (w := Lf) hd2 hil hv
              exact ih (i + 1) pa1 pe1 H locs ls (by omega) (by omega) (by omega) (by omega) (hZ.sub [0, 5, 1, 2, 3, 4] (by decide +kernel) rfl) (lv_sub hl [0, 2, 3, 4] rfl)
            · refine zz_topi (v := nI r) (by rw [hv]; exact lN_i r) ?_
              refine lv_istore (lv' := [(4, .int (nI r)), (3, .int (nI i)), (0, .ref mk), (1, .int (nI a)), (2, .int 2)]) hx hb dX3_plan_91 hl (by decide) rfl (fun ls hl => ?_)
              refine lv_aload_n hx hb dX3_plan_93 rfl (lv_at hl 2 rfl) ?_
              refine zz_get hC hZ 0 rfl zf_X3_15 rfl dX3_plan_94 ?_
              refine lv_iload hx hb dX3_plan_97 (lv_at hl 0 rfl) ?_
              refine zz_iV (As := [.int (nI r)]) (wc := [cw_k5 st (nI na) (nI nu) kd dp cl sa ln bt pn bf]) (wr := [cw_k2 mk st ml (nI pa1) (nI pe1), cw_i g dp 60 dpf, cw_i g sa 60 saf, cw_i g ln 60 lnf, cw_l g bt 4000 btf]) (rest := []) hC hZ hs hl zc_X3_57 (co_has g st kd dp cl sa ln bt pn bf (nI na) (nI nu) (nI r)) [1] [0, 2, 3, 4, 5] rfl rfl (by decide +kernel) (ci := 5) (q0 := 0) rfl rfl rfl rfl (Nat.le_of_ble_eq_true rfl) ⟨⟨Nat.le_of_ble_eq_true rfl, Nat.le_of_ble_eq_true rfl⟩, Nat.le_of_ble_eq_true rfl, Nat.le_of_ble_eq_true rfl⟩ dX3_plan_99 (fun r15 u16 H locs hp hZ => ?_)
              obtain ⟨rfl, rfl⟩ := hp
              have hZ : zz_Z g A s.heap [cw_k2 mk st ml (nI pa1) (nI pe1), cw_i g dp 60 dpf, cw_i g sa 60 saf, cw_i g ln 60 lnf, cw_l g bt 4000 btf, cw_k5 st (nI na) (nI nu) kd dp cl sa ln bt pn bf] H locs := hZ
              refine lv_if_eq (tgt := 114) hx hb dX3_plan_102 (by decide) (fun c => absurd c (zl_hasY (by omega) (by omega))) (fun c17 => ?_)
              refine lv_aload_n hx hb dX3_plan_105 rfl (lv_at hl 2 rfl) ?_
              refine lv_iload hx hb dX3_plan_106 (lv_at hl 0 rfl) ?_
              refine lv_iload_n hx hb dX3_plan_108 rfl (lv_at hl 4 rfl) ?_
              refine lv_iconst (v := 1) hx hb dX3_plan_109 (by decide) ?_
              refine lv_iadd hx hb dX3_plan_110 ?_
              refine zz_topi (v := 3) (by decide) ?_
              refine zz_vV (As := [.int (nI r), .int 3]) (wc := [cw_k2 mk st ml (nI pa1) (nI pe1), cw_k5 st (nI na) (nI nu) kd dp cl sa ln bt pn bf, cw_i g dp 60 dpf, cw_i g sa 60 saf, cw_i g ln 60 lnf, cw_l g bt 4000 btf]) (wr := []) (rest := []) hC hZ hs hl zc_X3_47 (co_plan3 g mk ml st kd dp cl sa ln bt pn bf na nu pa1 pe1 dpf saf lnf btf Sf Lf Df r (h_T) (h_N) (by omega) (by omega) (by omega)) [0, 5, 1, 2, 3, 4] [] rfl rfl (by decide +kernel) (ci := 2) (q0 := 0) rfl rfl rfl rfl (Nat.le_of_ble_eq_true rfl) ⟨⟨Nat.le_of_ble_eq_true rfl, Nat.le_of_ble_eq_true rfl⟩, Nat.le_of_ble_eq_true rfl, Nat.le_of_ble_eq_true rfl⟩ dX3_plan_111 (fun u19 H locs hp hZ => ?_)
              obtain ⟨pa2_20, pe2_21, f22, f23, rfl⟩ := hp
              have hZ : zz_Z g A s.heap [cw_k2 mk st ml (nI pa2_20) (nI pe2_21), cw_k5 st (nI na) (nI nu) kd dp cl sa ln bt pn bf, cw_i g dp 60 dpf, cw_i g sa 60 saf, cw_i g ln 60 lnf, cw_l g bt 4000 btf] H locs := hZ
              refine lv_iinc (v := nI (i + 1)) (lv' := [(3, .int (nI (i + 1))), (4, .int (nI r)), (0, .ref mk), (1, .int (nI a)), (2, .int 2)]) hx hb dX3_plan_114 hl (k := 1) rfl (nI_1 _) (by decide) rfl (fun ls hl => ?_)
              refine lv_goto (tgt := 49) hx hb dX3_plan_117 (by decide) ?_
              have hr1 := zz_rr_row (w := fun _ => 1) (rw := (fun x i => btf (Sf x + i))) (Lf := Lf) (f := Df a) (x := a) (k := i) (r := r) hd2 hil hv (by omega)
              have hq1 : zz_ct (fun _ => 1) (fun x i => btf (Sf x + i)) Lf (Df r) r = 1 + zz_rr (fun _ => 1) (fun x i => btf (Sf x + i)) Lf (Df r) r 0 := zz_ct_rm (w := fun _ => 1) (by omega)
              rw [show Df a - 1 = Df r by omega] at hr1
              have hr1 : zz_rr (fun _ => 1) (fun x i => btf (Sf x + i)) Lf (Df a) a i = 1 + zz_rr (fun _ => 1) (fun x i => btf (Sf x + i)) Lf (Df r) r 0 + zz_rr (fun _ => 1) (fun x i => btf (Sf x + i)) Lf (Df a) a (i + 1) := hr1
              have hrL := zz_rr_row (w := Lf) (rw := (fun x i => btf (Sf x + i))) (Lf := Lf) (f := Df a) (x := a) (k := i) (r := r) hd2 hil hv (by omega)
              have hqL : zz_ct Lf (fun x i => btf (Sf x + i)) Lf (Df r) r = Lf r + zz_rr Lf (fun x i => btf (Sf x + i)) Lf (Df r) r 0 := zz_ct_rm (w := Lf) (by omega)
              rw [show Df a - 1 = Df r by omega] at hrL
              have hf1 := f22
              have hf2 := f23
              exact ih (i + 1) pa2_20 pe2_21 H locs ls (by omega) (by omega) (by omega) (by omega) hZ (lv_sub hl [0, 2, 3, 4] rfl)
    exact LP5 _ 0 (pa + 1) (pe + (Lf a)) H locs ls (by omega) (by omega) (by omega) (Nat.lt_succ_self _) hZ (lv_sub hl [0, 1, 2, 3] rfl)
abbrev rm_co_plan1 : Room := { frames := 3, cells := 0, slots := 0, locals := 72 }
abbrev po_co_plan1 (g : zz_G) (mk : Nat) (ml : Nat) (st : Nat) (kd : Nat) (dp : Nat) (cl : Nat) (sa : Nat) (ln : Nat) (bt : Nat) (pn : Nat) (bf : Nat) (na : Nat) (nu : Nat) (pa : Nat) (pe : Nat) (dpf : Nat → Int32) (saf : Nat → Int32) (lnf : Nat → Int32) (btf : Nat → Int64) (Sf : Nat → Nat) (Lf : Nat → Nat) (Df : Nat → Nat) (a : Nat) (h_T : zz_TR na nu Sf Lf Df btf) (h_N : ∀ x, x < na → saf x = nI (Sf x) ∧ lnf x = nI (Lf x) ∧ dpf x = nI (Df x)) (h_a : a < na) (h_d : Df a + 1 ≤ 5) (h_p : pa ≤ 60 ∧ pe ≤ 200 * pa) : va_W → Prop := fun (u : va_W) => ∃ (pa2 : Nat) (pe2 : Nat), ((pa2 = pa + zz_ct (fun _ => 1) (fun x i => btf (Sf x + i)) Lf (Df a) a ∧ pe2 = pe + zz_ct Lf (fun x i => btf (Sf x + i)) Lf (Df a) a) ∨ (60 < pa2 ∧ 60 < pa + zz_ct (fun _ => 1) (fun x i => btf (Sf x + i)) Lf (Df a) a)) ∧ (pa < pa2 ∧ pa2 ≤ 61 ∧ pe2 ≤ pe + 200 * (pa2 - pa)) ∧ u = [cw_k2 mk st ml (nI pa2) (nI pe2), cw_k5 st (nI na) (nI nu) kd dp cl sa ln bt pn bf, cw_i g dp 60 dpf, cw_i g sa 60 saf, cw_i g ln 60 lnf, cw_l g bt 4000 btf]
set_option maxHeartbeats 4000000 in
set_option maxRecDepth 100000 in
theorem co_plan1 (g : zz_G) (mk : Nat) (ml : Nat) (st : Nat) (kd : Nat) (dp : Nat) (cl : Nat) (sa : Nat) (ln : Nat) (bt : Nat) (pn : Nat) (bf : Nat) (na : Nat) (nu : Nat) (pa : Nat) (pe : Nat) (dpf : Nat → Int32) (saf : Nat → Int32) (lnf : Nat → Int32) (btf : Nat → Int64) (Sf : Nat → Nat) (Lf : Nat → Nat) (Df : Nat → Nat) (a : Nat) (h_T : zz_TR na nu Sf Lf Df btf) (h_N : ∀ x, x < na → saf x = nI (Sf x) ∧ lnf x = nI (Lf x) ∧ dpf x = nI (Df x)) (h_a : a < na) (h_d : Df a + 1 ≤ 5) (h_p : pa ≤ 60 ∧ pe ≤ 200 * pa) : zz_V g yX3_plan (.code yX3_plan cX3_plan 5 none) rm_co_plan1 [.ref mk, .int (nI a), .int 1] [cw_k2 mk st ml (nI pa) (nI pe), cw_k5 st (nI na) (nI nu) kd dp cl sa ln bt pn bf, cw_i g dp 60 dpf, cw_i g sa 60 saf, cw_i g ln 60 lnf, cw_l g bt 4000 btf] (po_co_plan1 g mk ml st kd dp cl sa ln bt pn bf na nu pa pe dpf saf lnf btf Sf Lf Df a h_T h_N h_a h_d h_p) := by
  refine zz_V.intro (own := RX3) (cc := cX3_plan) (nL := 5) (by decide) rfl (Nat.le_of_ble_eq_true rfl) ?_
  intro p l e s m args below meth c A H locs ls hC hnm hs hZ hl
  obtain ⟨hx, hb, hml, hown, hts, hr, hlocks, hK⟩ := id hC
  have hl : lv_has ls 5 [(0, .ref mk), (1, .int (nI a)), (2, .int 1)] := hl
  have hZ : zz_Z g A s.heap [cw_k2 mk st ml (nI pa) (nI pe), cw_k5 st (nI na) (nI nu) kd dp cl sa ln bt pn bf, cw_i g dp 60 dpf, cw_i g sa 60 saf, cw_i g ln 60 lnf, cw_l g bt 4000 btf] H locs := hZ
  have hna := h_T.1
  have hnu := h_T.2.1
  obtain ⟨ya1, ya2, ya3⟩ := h_N a h_a
  obtain ⟨g1, g2, g3, g4⟩ := h_T.2.2.1 a h_a
  refine lv_aload_n hx hb dX3_plan_0 rfl (lv_at hl 0 rfl) ?_
  refine lv_dup hx hb dX3_plan_1 rfl ?_
  refine zz_get hC hZ 0 rfl zf_X3_40 rfl dX3_plan_2 ?_
  refine lv_iconst (v := 1) hx hb dX3_plan_5 (by decide) ?_
  refine lv_iadd hx hb dX3_plan_6 ?_
  refine zz_topi (v := nI (pa + 1)) (nI_1 _) ?_
  refine zz_put hC hZ 0 rfl zu_X3_40 (Nat.le_of_ble_eq_true rfl) dX3_plan_7 (fun H locs hZ => ?_)
  have hZ : zz_Z g A s.heap [cw_k2 mk st ml (nI (pa + 1)) (nI pe), cw_k5 st (nI na) (nI nu) kd dp cl sa ln bt pn bf, cw_i g dp 60 dpf, cw_i g sa 60 saf, cw_i g ln 60 lnf, cw_l g bt 4000 btf] H locs := hZ
  refine lv_aload_n hx hb dX3_plan_10 rfl (lv_at hl 0 rfl) ?_
  refine lv_dup hx hb dX3_plan_11 rfl ?_
  refine zz_get hC hZ 0 rfl zf_X3_44 rfl dX3_plan_12 ?_
  refine lv_aload_n hx hb dX3_plan_15 rfl (lv_at hl 0 rfl) ?_
  refine zz_get hC hZ 0 rfl zf_X3_15 rfl dX3_plan_16 ?_
  refine zz_get hC hZ 1 rfl zf_X3_51 rfl dX3_plan_19 ?_
  refine lv_iload_n hx hb dX3_plan_22 rfl (lv_at hl 1 rfl) ?_
  have bd1 : a < 60 := by omega
  refine zz_ialdn hC hZ 4 rfl bd1 (by decide) dX3_plan_23 ?_
  refine zz_topi (v := nI (Lf a)) (ya2) ?_
  refine lv_iadd hx hb dX3_plan_24 ?_
  refine zz_topi (v := nI (pe + (Lf a))) (nI_add _ _) ?_
  refine zz_put hC hZ 0 rfl zu_X3_44 (Nat.le_of_ble_eq_true rfl) dX3_plan_25 (fun H locs hZ => ?_)
  have hZ : zz_Z g A s.heap [cw_k2 mk st ml (nI (pa + 1)) (nI (pe + (Lf a))), cw_k5 st (nI na) (nI nu) kd dp cl sa ln bt pn bf, cw_i g dp 60 dpf, cw_i g sa 60 saf, cw_i g ln 60 lnf, cw_l g bt 4000 btf] H locs := hZ
  refine lv_aload_n hx hb dX3_plan_28 rfl (lv_at hl 0 rfl) ?_
  refine zz_get hC hZ 0 rfl zf_X3_15 rfl dX3_plan_29 ?_
  refine zz_get hC hZ 1 rfl zf_X3_54 rfl dX3_plan_32 ?_
  refine lv_iload_n hx hb dX3_plan_35 rfl (lv_at hl 1 rfl) ?_
  refine zz_ialdn hC hZ 2 rfl bd1 (by decide) dX3_plan_36 ?_
  refine zz_topi (v := nI (Df a)) (ya3) ?_
  refine lv_iconst (v := 1) hx hb dX3_plan_37 (by decide) ?_
  have bd3 : (Df a) < 2 ^ 31 := by omega
  refine lv_icmp_eq (tgt := 46) hx hb dX3_plan_38 (by decide) (fun c2 => ?_) (fun c2 => ?_)
  · have nc2 : (Df a) = 1 := (nI_eq bd3 (by decide)).mp (show nI ((Df a)) = nI (1) from c2)
    exact zz_vret hC hZ (⟨(pa + 1), (pe + (Lf a)), zl_pl1 (by omega), by omega, rfl⟩) (Nat.le_of_ble_eq_true rfl) (Nat.le_of_ble_eq_true rfl) dX3_plan_46
  · have nc2 : ¬ (Df a) = 1 := fun zq => c2 (show nI ((Df a)) = nI (1) from (nI_eq bd3 (by decide)).mpr zq)
    refine lv_iload_n hx hb dX3_plan_41 rfl (lv_at hl 2 rfl) ?_
    refine lv_iconst (v := 4) hx hb dX3_plan_42 (by decide) ?_
    refine lv_icmp_lt (tgt := 47) hx hb dX3_plan_43 (by decide) (fun c4 => ?_) (fun c => absurd (by decide) c)
    refine lv_iconst (v := 0) hx hb dX3_plan_47 (by decide) ?_
    refine lv_istore_n (lv' := [(3, .int 0), (0, .ref mk), (1, .int (nI a)), (2, .int 1)]) hx hb dX3_plan_48 rfl hl (by decide) rfl (fun ls hl => ?_)
    have hd2 : 2 ≤ Df a := by omega
    have hc1 : zz_ct (fun _ => 1) (fun x i => btf (Sf x + i)) Lf (Df a) a = 1 + zz_rr (fun _ => 1) (fun x i => btf (Sf x + i)) Lf (Df a) a 0 := zz_ct_rm (w := fun _ => 1) (by omega)
    have hcL : zz_ct Lf (fun x i => btf (Sf x + i)) Lf (Df a) a = Lf a + zz_rr Lf (fun x i => btf (Sf x + i)) Lf (Df a) a 0 := zz_ct_rm (w := Lf) (by omega)
    have LP5 : ∀ (N : Nat) (i : Nat) (pa1 : Nat) (pe1 : Nat) (H : Heap) (locs : List Loc) (ls : Array Slot), (i ≤ Lf a) → (pa < pa1 ∧ pa1 ≤ 61 ∧ pe1 ≤ pe + 200 * (pa1 - pa)) → ((pa1 + zz_rr (fun _ => 1) (fun x i => btf (Sf x + i)) Lf (Df a) a i = pa + zz_ct (fun _ => 1) (fun x i => btf (Sf x + i)) Lf (Df a) a ∧ pe1 + zz_rr Lf (fun x i => btf (Sf x + i)) Lf (Df a) a i = pe + zz_ct Lf (fun x i => btf (Sf x + i)) Lf (Df a) a) ∨ (60 < pa1 ∧ 60 < pa + zz_ct (fun _ => 1) (fun x i => btf (Sf x + i)) Lf (Df a) a)) → (Lf a - i) < N → zz_Z g A s.heap [cw_k2 mk st ml (nI pa1) (nI pe1), cw_k5 st (nI na) (nI nu) kd dp cl sa ln bt pn bf, cw_i g dp 60 dpf, cw_i g sa 60 saf, cw_i g ln 60 lnf, cw_l g bt 4000 btf] H locs → lv_has ls 5 [(3, .int (nI i)), (0, .ref mk), (1, .int (nI a)), (2, .int 1)] → W p l e rm_co_plan1 s m args below meth c H locs 0 0 (zz_QV below g args s A rm_co_plan1.cells rm_co_plan1.slots (po_co_plan1 g mk ml st kd dp cl sa ln bt pn bf na nu pa pe dpf saf lnf btf Sf Lf Df a h_T h_N h_a h_d h_p)) (F0 m 49 ls []) := by
      intro N
      induction N with
      | zero =>
        intro i pa1 pe1 H locs ls hi hbn hC1 hN
        exact absurd hN (Nat.not_lt_zero _)
      | succ N ih =>
        intro i pa1 pe1 H locs ls hi hbn hC1 hN hZ hl
        refine lv_iload_n hx hb dX3_plan_49 rfl (lv_at hl 0 rfl) ?_
        refine lv_aload_n hx hb dX3_plan_50 rfl (lv_at hl 1 rfl) ?_
        refine zz_get hC hZ 0 rfl zf_X3_15 rfl dX3_plan_51 ?_
        refine zz_get hC hZ 1 rfl zf_X3_51 rfl dX3_plan_54 ?_
        refine lv_iload_n hx hb dX3_plan_57 rfl (lv_at hl 2 rfl) ?_
        refine zz_ialdn hC hZ 4 rfl bd1 (by decide) dX3_plan_58 ?_
        refine zz_topi (v := nI (Lf a)) (ya2) ?_
        have bd7 : (Lf a) < 2 ^ 31 := by omega
        have bd8 : i < 2 ^ 31 := by omega
        refine lv_icmp_ge (tgt := 120) hx hb dX3_plan_59 (by decide) (fun c6 => ?_) (fun c6 => ?_)
        · have nc6 : (Lf a) ≤ i := (nI_leI bd7 bd8).mp (show nI ((Lf a)) ≤ nI (i) from c6)
          exact zz_vret hC hZ (⟨pa1, pe1, zl_plE hC1 (by omega), by omega, rfl⟩) (Nat.le_of_ble_eq_true rfl) (Nat.le_of_ble_eq_true rfl) dX3_plan_120
        · have nc6 : ¬ (Lf a) ≤ i := fun zq => c6 (show nI ((Lf a)) ≤ nI (i) from (nI_leI bd7 bd8).mpr zq)
          have hil : i < Lf a := by omega
          refine lv_aload_n hx hb dX3_plan_62 rfl (lv_at hl 1 rfl) ?_
          refine zz_get hC hZ 0 rfl zf_X3_40 rfl dX3_plan_63 ?_
          refine lv_bipush (v := 60) hx hb dX3_plan_66 (by decide) ?_
          have bd10 : pa1 < 2 ^ 31 := by omega
          refine lv_icmp_gt (tgt := 120) hx hb dX3_plan_68 (by decide) (fun c9 => ?_) (fun c9 => ?_)
          · have nc9 : 60 < pa1 := (nI_ltI (by decide) bd10).mp (show nI (60) < nI (pa1) from c9)
            exact zz_vret hC hZ (⟨pa1, pe1, zl_plE hC1 (by omega), by omega, rfl⟩) (Nat.le_of_ble_eq_true rfl) (Nat.le_of_ble_eq_true rfl) dX3_plan_120
          · have nc9 : ¬ 60 < pa1 := fun zq => c9 (show nI (60) < nI (pa1) from (nI_ltI (by decide) bd10).mpr zq)
            refine lv_aload_n hx hb dX3_plan_71 rfl (lv_at hl 1 rfl) ?_
            refine zz_get hC hZ 0 rfl zf_X3_15 rfl dX3_plan_72 ?_
            refine zz_get hC hZ 1 rfl zf_X3_33 rfl dX3_plan_75 ?_
            refine lv_aload_n hx hb dX3_plan_78 rfl (lv_at hl 1 rfl) ?_
            refine zz_get hC hZ 0 rfl zf_X3_15 rfl dX3_plan_79 ?_
            refine zz_get hC hZ 1 rfl zf_X3_37 rfl dX3_plan_82 ?_
            refine lv_iload_n hx hb dX3_plan_85 rfl (lv_at hl 2 rfl) ?_
            refine zz_ialdn hC hZ 3 rfl bd1 (by decide) dX3_plan_86 ?_
            refine zz_topi (v := nI (Sf a)) (ya1) ?_
            refine lv_iload_n hx hb dX3_plan_87 rfl (lv_at hl 0 rfl) ?_
            refine lv_iadd hx hb dX3_plan_88 ?_
            refine zz_topi (v := nI ((Sf a) + i)) (nI_add _ _) ?_
            have bd11 : ((Sf a) + i) < 4000 := by omega
            refine zz_laldn hC hZ 5 rfl bd11 (by decide) dX3_plan_89 ?_
            refine lv_l2i hx hb dX3_plan_90 rfl ?_
            rcases h_T.2.2.2 a h_a (by omega) i hil with hv | ⟨r, hr, hv, hdr⟩
            · refine zz_topi (v := -1) (by rw [hv]; decide) ?_
              refine lv_istore (lv' := [(4, .int (-1)), (3, .int (nI i)), (0, .ref mk), (1, .int (nI a)), (2, .int 1)]) hx hb dX3_plan_91 hl (by decide) rfl (fun ls hl => ?_)
              refine lv_aload_n hx hb dX3_plan_93 rfl (lv_at hl 2 rfl) ?_
              refine zz_get hC hZ 0 rfl zf_X3_15 rfl dX3_plan_94 ?_
              refine lv_iload hx hb dX3_plan_97 (lv_at hl 0 rfl) ?_
              refine zz_iV (As := [.int (-1)]) (wc := [cw_k5 st (nI na) (nI nu) kd dp cl sa ln bt pn bf]) (wr := [cw_k2 mk st ml (nI pa1) (nI pe1), cw_i g dp 60 dpf, cw_i g sa 60 saf, cw_i g ln 60 lnf, cw_l g bt 4000 btf]) (rest := []) hC hZ hs hl zc_X3_57 (co_has g st kd dp cl sa ln bt pn bf (nI na) (nI nu) (-1)) [1] [0, 2, 3, 4, 5] rfl rfl (by decide +kernel) (ci := 5) (q0 := 0) rfl rfl rfl rfl (Nat.le_of_ble_eq_true rfl) ⟨⟨Nat.le_of_ble_eq_true rfl, Nat.le_of_ble_eq_true rfl⟩, Nat.le_of_ble_eq_true rfl, Nat.le_of_ble_eq_true rfl⟩ dX3_plan_99 (fun r12 u13 H locs hp hZ => ?_)
              obtain ⟨rfl, rfl⟩ := hp
              have hZ : zz_Z g A s.heap [cw_k2 mk st ml (nI pa1) (nI pe1), cw_i g dp 60 dpf, cw_i g sa 60 saf, cw_i g ln 60 lnf, cw_l g bt 4000 btf, cw_k5 st (nI na) (nI nu) kd dp cl sa ln bt pn bf] H locs := hZ
              refine lv_if_eq (tgt := 114) hx hb dX3_plan_102 (by decide) (fun c14 => ?_) (fun c => absurd (zl_hasN) c)
              refine lv_iinc (v := nI (i + 1)) (lv' := [(3, .int (nI (i + 1))), (4, .int (-1)), (0, .ref mk), (1, .int (nI a)), (2, .int 1)]) hx hb dX3_plan_114 hl (k := 1) rfl (nI_1 _) (by decide) rfl (fun ls hl => ?_)
              refine lv_goto (tgt := 49) hx hb dX3_plan_117 (by decide) ?_
              have hr1 : zz_rr (fun _ => 1) (fun x i => btf (Sf x + i)) Lf (Df a) a i = zz_rr (fun _ => 1) (fun x i => btf (Sf x + i)) Lf (Df a) a (i + 1) := zz_rr_null (w := fun _ => 1) hd2 hil hv
              have hrL : zz_rr Lf (fun x i => btf (Sf x + i)) Lf (Df a) a i = zz_rr Lf (fun x i => btf (Sf x + i)) Lf (Df a) a (i + 1) := zz_rr_null (w := Lf) hd2 hil hv
              exact ih (i + 1) pa1 pe1 H locs ls (by omega) (by omega) (by omega) (by omega) (hZ.sub [0, 5, 1, 2, 3, 4] (by decide +kernel) rfl) (lv_sub hl [0, 2, 3, 4] rfl)
            · refine zz_topi (v := nI r) (by rw [hv]; exact lN_i r) ?_
              refine lv_istore (lv' := [(4, .int (nI r)), (3, .int (nI i)), (0, .ref mk), (1, .int (nI a)), (2, .int 1)]) hx hb dX3_plan_91 hl (by decide) rfl (fun ls hl => ?_)
              refine lv_aload_n hx hb dX3_plan_93 rfl (lv_at hl 2 rfl) ?_
              refine zz_get hC hZ 0 rfl zf_X3_15 rfl dX3_plan_94 ?_
              refine lv_iload hx hb dX3_plan_97 (lv_at hl 0 rfl) ?_
              refine zz_iV (As := [.int (nI r)]) (wc := [cw_k5 st (nI na) (nI nu) kd dp cl sa ln bt pn bf]) (wr := [cw_k2 mk st ml (nI pa1) (nI pe1), cw_i g dp 60 dpf, cw_i g sa 60 saf, cw_i g ln 60 lnf, cw_l g bt 4000 btf]) (rest := []) hC hZ hs hl zc_X3_57 (co_has g st kd dp cl sa ln bt pn bf (nI na) (nI nu) (nI r)) [1] [0, 2, 3, 4, 5] rfl rfl (by decide +kernel) (ci := 5) (q0 := 0) rfl rfl rfl rfl (Nat.le_of_ble_eq_true rfl) ⟨⟨Nat.le_of_ble_eq_true rfl, Nat.le_of_ble_eq_true rfl⟩, Nat.le_of_ble_eq_true rfl, Nat.le_of_ble_eq_true rfl⟩ dX3_plan_99 (fun r15 u16 H locs hp hZ => ?_)
              obtain ⟨rfl, rfl⟩ := hp
              have hZ : zz_Z g A s.heap [cw_k2 mk st ml (nI pa1) (nI pe1), cw_i g dp 60 dpf, cw_i g sa 60 saf, cw_i g ln 60 lnf, cw_l g bt 4000 btf, cw_k5 st (nI na) (nI nu) kd dp cl sa ln bt pn bf] H locs := hZ
              refine lv_if_eq (tgt := 114) hx hb dX3_plan_102 (by decide) (fun c => absurd c (zl_hasY (by omega) (by omega))) (fun c17 => ?_)
              refine lv_aload_n hx hb dX3_plan_105 rfl (lv_at hl 2 rfl) ?_
              refine lv_iload hx hb dX3_plan_106 (lv_at hl 0 rfl) ?_
              refine lv_iload_n hx hb dX3_plan_108 rfl (lv_at hl 4 rfl) ?_
              refine lv_iconst (v := 1) hx hb dX3_plan_109 (by decide) ?_
              refine lv_iadd hx hb dX3_plan_110 ?_
              refine zz_topi (v := 2) (by decide) ?_
              refine zz_vV (As := [.int (nI r), .int 2]) (wc := [cw_k2 mk st ml (nI pa1) (nI pe1), cw_k5 st (nI na) (nI nu) kd dp cl sa ln bt pn bf, cw_i g dp 60 dpf, cw_i g sa 60 saf, cw_i g ln 60 lnf, cw_l g bt 4000 btf]) (wr := []) (rest := []) hC hZ hs hl zc_X3_47 (co_plan2 g mk ml st kd dp cl sa ln bt pn bf na nu pa1 pe1 dpf saf lnf btf Sf Lf Df r (h_T) (h_N) (by omega) (by omega) (by omega)) [0, 5, 1, 2, 3, 4] [] rfl rfl (by decide +kernel) (ci := 2) (q0 := 0) rfl rfl rfl rfl (Nat.le_of_ble_eq_true rfl) ⟨⟨Nat.le_of_ble_eq_true rfl, Nat.le_of_ble_eq_true rfl⟩, Nat.le_of_ble_eq_true rfl, Nat.le_of_ble_eq_true rfl⟩ dX3_plan_111 (fun u19 H locs hp hZ => ?_)
              obtain ⟨pa2_20, pe2_21, f22, f23, rfl⟩ := hp
              have hZ : zz_Z g A s.heap [cw_k2 mk st ml (nI pa2_20) (nI pe2_21), cw_k5 st (nI na) (nI nu) kd dp cl sa ln bt pn bf, cw_i g dp 60 dpf, cw_i g sa 60 saf, cw_i g ln 60 lnf, cw_l g bt 4000 btf] H locs := hZ
              refine lv_iinc (v := nI (i + 1)) (lv' := [(3, .int (nI (i + 1))), (4, .int (nI r)), (0, .ref mk), (1, .int (nI a)), (2, .int 1)]) hx hb dX3_plan_114 hl (k := 1) rfl (nI_1 _) (by decide) rfl (fun ls hl => ?_)
              refine lv_goto (tgt := 49) hx hb dX3_plan_117 (by decide) ?_
              have hr1 := zz_rr_row (w := fun _ => 1) (rw := (fun x i => btf (Sf x + i))) (Lf := Lf) (f := Df a) (x := a) (k := i) (r := r) hd2 hil hv (by omega)
              have hq1 : zz_ct (fun _ => 1) (fun x i => btf (Sf x + i)) Lf (Df r) r = 1 + zz_rr (fun _ => 1) (fun x i => btf (Sf x + i)) Lf (Df r) r 0 := zz_ct_rm (w := fun _ => 1) (by omega)
              rw [show Df a - 1 = Df r by omega] at hr1
              have hr1 : zz_rr (fun _ => 1) (fun x i => btf (Sf x + i)) Lf (Df a) a i = 1 + zz_rr (fun _ => 1) (fun x i => btf (Sf x + i)) Lf (Df r) r 0 + zz_rr (fun _ => 1) (fun x i => btf (Sf x + i)) Lf (Df a) a (i + 1) := hr1
              have hrL := zz_rr_row (w := Lf) (rw := (fun x i => btf (Sf x + i))) (Lf := Lf) (f := Df a) (x := a) (k := i) (r := r) hd2 hil hv (by omega)
              have hqL : zz_ct Lf (fun x i => btf (Sf x + i)) Lf (Df r) r = Lf r + zz_rr Lf (fun x i => btf (Sf x + i)) Lf (Df r) r 0 := zz_ct_rm (w := Lf) (by omega)
              rw [show Df a - 1 = Df r by omega] at hrL
              have hf1 := f22
              have hf2 := f23
              exact ih (i + 1) pa2_20 pe2_21 H locs ls (by omega) (by omega) (by omega) (by omega) hZ (lv_sub hl [0, 2, 3, 4] rfl)
    exact LP5 _ 0 (pa + 1) (pe + (Lf a)) H locs ls (by omega) (by omega) (by omega) (Nat.lt_succ_self _) hZ (lv_sub hl [0, 1, 2, 3] rfl)
theorem zl_fits01 (a b : Int32) (x y : Int64) : fn_co_fits a b x y = 0 ∨ fn_co_fits a b x y = 1 := by
  unfold fn_co_fits; split
  · exact Or.inl rfl
  · split
    · exact Or.inl rfl
    · exact Or.inr rfl
/-- whether a copy with all rows fits -/
def zz_DF (na nu : Nat) (Lf Df : Nat → Nat) (rw : Nat → Nat → Int64) (a : Nat) : Prop := na + zz_ct (fun _ => 1) rw Lf (Df a) a ≤ 60 ∧ nu + zz_ct Lf rw Lf (Df a) a ≤ 4000
theorem zl_DFr {na nu pa2 pe2 c e : Nat} (hna : na ≤ 60) (hnu : nu ≤ 4000) (h : (pa2 = 0 + c ∧ pe2 = 0 + e) ∨ (60 < pa2 ∧ 60 < 0 + c)) (hb : pa2 ≤ 61) (he : pe2 ≤ 20000) : (fn_co_fits (nI na) (nI nu) (nI pa2).toInt64 (nI pe2).toInt64 = 0 ∧ ¬ (na + c ≤ 60 ∧ nu + e ≤ 4000)) ∨ (fn_co_fits (nI na) (nI nu) (nI pa2).toInt64 (nI pe2).toInt64 = 1 ∧ na + c ≤ 60 ∧ nu + e ≤ 4000) := by
  rw [nI_l (show pa2 < 2 ^ 31 by omega), nI_l (show pe2 < 2 ^ 31 by omega)]
  rcases zl_fits2 hna hnu (show pa2 < 2 ^ 40 by omega) (show pe2 < 2 ^ 40 by omega) with ⟨q1, q2⟩ | ⟨q1, q2⟩
  · exact Or.inl ⟨q1, by omega⟩
  · exact Or.inr ⟨q1, by omega⟩
theorem dg_X3_twinFits_0 : (decode cX3_twinFits 0 = .ok (.aload_n 0, 1)) ∧ (decode cX3_twinFits 1 = .ok (.iconst 0, 1)) ∧ (decode cX3_twinFits 2 = .ok (.putfield 40, 3)) ∧ (decode cX3_twinFits 5 = .ok (.aload_n 0, 1)) ∧ (decode cX3_twinFits 6 = .ok (.iconst 0, 1)) ∧ (decode cX3_twinFits 7 = .ok (.putfield 44, 3)) ∧ (decode cX3_twinFits 10 = .ok (.aload_n 0, 1)) ∧ (decode cX3_twinFits 11 = .ok (.iload_n 1, 1)) ∧ (decode cX3_twinFits 12 = .ok (.iconst 1, 1)) ∧ (decode cX3_twinFits 13 = .ok (.invokevirtual 47, 3)) ∧ (decode cX3_twinFits 16 = .ok (.aload_n 0, 1)) ∧ (decode cX3_twinFits 17 = .ok (.getfield 15, 3)) ∧ (decode cX3_twinFits 20 = .ok (.aload_n 0, 1)) ∧ (decode cX3_twinFits 21 = .ok (.getfield 40, 3)) ∧ (decode cX3_twinFits 24 = .ok (.i2l, 1)) ∧ (decode cX3_twinFits 25 = .ok (.aload_n 0, 1)) := by decide +kernel
theorem dX3_twinFits_0 : decode cX3_twinFits 0 = .ok (.aload_n 0, 1) := dg_X3_twinFits_0.1
theorem dX3_twinFits_1 : decode cX3_twinFits 1 = .ok (.iconst 0, 1) := dg_X3_twinFits_0.2.1
theorem dX3_twinFits_2 : decode cX3_twinFits 2 = .ok (.putfield 40, 3) := dg_X3_twinFits_0.2.2.1
theorem dX3_twinFits_5 : decode cX3_twinFits 5 = .ok (.aload_n 0, 1) := dg_X3_twinFits_0.2.2.2.1
theorem dX3_twinFits_6 : decode cX3_twinFits 6 = .ok (.iconst 0, 1) := dg_X3_twinFits_0.2.2.2.2.1
theorem dX3_twinFits_7 : decode cX3_twinFits 7 = .ok (.putfield 44, 3) := dg_X3_twinFits_0.2.2.2.2.2.1
theorem dX3_twinFits_10 : decode cX3_twinFits 10 = .ok (.aload_n 0, 1) := dg_X3_twinFits_0.2.2.2.2.2.2.1
theorem dX3_twinFits_11 : decode cX3_twinFits 11 = .ok (.iload_n 1, 1) := dg_X3_twinFits_0.2.2.2.2.2.2.2.1
theorem dX3_twinFits_12 : decode cX3_twinFits 12 = .ok (.iconst 1, 1) := dg_X3_twinFits_0.2.2.2.2.2.2.2.2.1
theorem dX3_twinFits_13 : decode cX3_twinFits 13 = .ok (.invokevirtual 47, 3) := dg_X3_twinFits_0.2.2.2.2.2.2.2.2.2.1
theorem dX3_twinFits_16 : decode cX3_twinFits 16 = .ok (.aload_n 0, 1) := dg_X3_twinFits_0.2.2.2.2.2.2.2.2.2.2.1
theorem dX3_twinFits_17 : decode cX3_twinFits 17 = .ok (.getfield 15, 3) := dg_X3_twinFits_0.2.2.2.2.2.2.2.2.2.2.2.1
theorem dX3_twinFits_20 : decode cX3_twinFits 20 = .ok (.aload_n 0, 1) := dg_X3_twinFits_0.2.2.2.2.2.2.2.2.2.2.2.2.1
theorem dX3_twinFits_21 : decode cX3_twinFits 21 = .ok (.getfield 40, 3) := dg_X3_twinFits_0.2.2.2.2.2.2.2.2.2.2.2.2.2.1
theorem dX3_twinFits_24 : decode cX3_twinFits 24 = .ok (.i2l, 1) := dg_X3_twinFits_0.2.2.2.2.2.2.2.2.2.2.2.2.2.2.1
theorem dX3_twinFits_25 : decode cX3_twinFits 25 = .ok (.aload_n 0, 1) := dg_X3_twinFits_0.2.2.2.2.2.2.2.2.2.2.2.2.2.2.2
theorem dg_X3_twinFits_26 : (decode cX3_twinFits 26 = .ok (.getfield 44, 3)) ∧ (decode cX3_twinFits 29 = .ok (.i2l, 1)) ∧ (decode cX3_twinFits 30 = .ok (.invokevirtual 19, 3)) ∧ (decode cX3_twinFits 33 = .ok (.ireturn, 1)) := by decide +kernel
theorem dX3_twinFits_26 : decode cX3_twinFits 26 = .ok (.getfield 44, 3) := dg_X3_twinFits_26.1
theorem dX3_twinFits_29 : decode cX3_twinFits 29 = .ok (.i2l, 1) := dg_X3_twinFits_26.2.1
theorem dX3_twinFits_30 : decode cX3_twinFits 30 = .ok (.invokevirtual 19, 3) := dg_X3_twinFits_26.2.2.1
theorem dX3_twinFits_33 : decode cX3_twinFits 33 = .ok (.ireturn, 1) := dg_X3_twinFits_26.2.2.2
theorem zk_283 : Cond.methodLink RX3 19 yX6_fits ∈ zz_w := zz_in (List.mem_append_right _ (List.mem_append_right _ (List.mem_append_left _ (List.mem_of_getElem? (i := 43) (by decide +kernel))))) rfl
set_option maxRecDepth 20000 in
theorem zk_243 : Cond.code yX6_fits cX6_fits 5 (some .boolean) ∈ zz_w := zz_in (List.mem_append_right _ (List.mem_append_right _ (List.mem_append_left _ (List.mem_of_getElem? (i := 3) (rfl))))) rfl
theorem zk_241 : Cond.instanceMethod yX6_fits ∈ zz_w := zz_in (List.mem_append_right _ (List.mem_append_right _ (List.mem_append_left _ (List.mem_of_getElem? (i := 1) (by decide +kernel))))) rfl
theorem zk_242 : Cond.selects RX6 yX6_fits yX6_fits ∈ zz_w := zz_in (List.mem_append_right _ (List.mem_append_right _ (List.mem_append_left _ (List.mem_of_getElem? (i := 2) (by decide +kernel))))) rfl
theorem zc_X3_19 : zz_cV RX3 19 yX6_fits cX6_fits 5 (some .boolean) 2 := ⟨⟨zk_283, zk_243, zk_2, by decide, by decide, by decide +kernel⟩, zk_241, zk_242⟩
abbrev rm_co_twinFits : Room := { frames := 4, cells := 0, slots := 0, locals := 96 }
abbrev po_co_twinFits (g : zz_G) (mk : Nat) (ml : Nat) (st : Nat) (kd : Nat) (dp : Nat) (cl : Nat) (sa : Nat) (ln : Nat) (bt : Nat) (pn : Nat) (bf : Nat) (na : Nat) (nu : Nat) (pa : Int32) (pe : Int32) (dpf : Nat → Int32) (saf : Nat → Int32) (lnf : Nat → Int32) (btf : Nat → Int64) (Sf : Nat → Nat) (Lf : Nat → Nat) (Df : Nat → Nat) (a : Nat) (h_T : zz_TR na nu Sf Lf Df btf) (h_N : ∀ x, x < na → saf x = nI (Sf x) ∧ lnf x = nI (Lf x) ∧ dpf x = nI (Df x)) (h_a : a < na) : Int32 → va_W → Prop := fun (r : Int32) (u : va_W) => ∃ (pa2 : Nat) (pe2 : Nat), ((r = 0 ∧ ¬ zz_DF na nu Lf Df (fun x i => btf (Sf x + i)) a) ∨ (r = 1 ∧ zz_DF na nu Lf Df (fun x i => btf (Sf x + i)) a)) ∧ u = [cw_k2 mk st ml (nI pa2) (nI pe2), cw_k5 st (nI na) (nI nu) kd dp cl sa ln bt pn bf, cw_i g dp 60 dpf, cw_i g sa 60 saf, cw_i g ln 60 lnf, cw_l g bt 4000 btf]
set_option maxHeartbeats 4000000 in
set_option maxRecDepth 100000 in
theorem co_twinFits (g : zz_G) (mk : Nat) (ml : Nat) (st : Nat) (kd : Nat) (dp : Nat) (cl : Nat) (sa : Nat) (ln : Nat) (bt : Nat) (pn : Nat) (bf : Nat) (na : Nat) (nu : Nat) (pa : Int32) (pe : Int32) (dpf : Nat → Int32) (saf : Nat → Int32) (lnf : Nat → Int32) (btf : Nat → Int64) (Sf : Nat → Nat) (Lf : Nat → Nat) (Df : Nat → Nat) (a : Nat) (h_T : zz_TR na nu Sf Lf Df btf) (h_N : ∀ x, x < na → saf x = nI (Sf x) ∧ lnf x = nI (Lf x) ∧ dpf x = nI (Df x)) (h_a : a < na) : zz_I g yX3_twinFits (.code yX3_twinFits cX3_twinFits 2 (some .boolean)) rm_co_twinFits [.ref mk, .int (nI a)] [cw_k2 mk st ml pa pe, cw_k5 st (nI na) (nI nu) kd dp cl sa ln bt pn bf, cw_i g dp 60 dpf, cw_i g sa 60 saf, cw_i g ln 60 lnf, cw_l g bt 4000 btf] (po_co_twinFits g mk ml st kd dp cl sa ln bt pn bf na nu pa pe dpf saf lnf btf Sf Lf Df a h_T h_N h_a) := by
  refine zz_I.intro (own := RX3) (cc := cX3_twinFits) (nL := 2) (by decide) rfl (Nat.le_of_ble_eq_true rfl) ?_
  intro p l e s m args below meth c A H locs ls hC hnm hs hZ hl
  obtain ⟨hx, hb, hml, hown, hts, hr, hlocks, hK⟩ := id hC
  have hl : lv_has ls 2 [(0, .ref mk), (1, .int (nI a))] := hl
  have hZ : zz_Z g A s.heap [cw_k2 mk st ml pa pe, cw_k5 st (nI na) (nI nu) kd dp cl sa ln bt pn bf, cw_i g dp 60 dpf, cw_i g sa 60 saf, cw_i g ln 60 lnf, cw_l g bt 4000 btf] H locs := hZ
  have hna := h_T.1
  have hnu := h_T.2.1
  obtain ⟨g1, g2, g3, g4⟩ := h_T.2.2.1 a h_a
  refine lv_aload_n hx hb dX3_twinFits_0 rfl (lv_at hl 0 rfl) ?_
  refine lv_iconst (v := 0) hx hb dX3_twinFits_1 (by decide) ?_
  refine zz_put hC hZ 0 rfl zu_X3_40 (Nat.le_of_ble_eq_true rfl) dX3_twinFits_2 (fun H locs hZ => ?_)
  have hZ : zz_Z g A s.heap [cw_k2 mk st ml 0 pe, cw_k5 st (nI na) (nI nu) kd dp cl sa ln bt pn bf, cw_i g dp 60 dpf, cw_i g sa 60 saf, cw_i g ln 60 lnf, cw_l g bt 4000 btf] H locs := hZ
  refine lv_aload_n hx hb dX3_twinFits_5 rfl (lv_at hl 0 rfl) ?_
  refine lv_iconst (v := 0) hx hb dX3_twinFits_6 (by decide) ?_
  refine zz_put hC hZ 0 rfl zu_X3_44 (Nat.le_of_ble_eq_true rfl) dX3_twinFits_7 (fun H locs hZ => ?_)
  have hZ : zz_Z g A s.heap [cw_k2 mk st ml 0 0, cw_k5 st (nI na) (nI nu) kd dp cl sa ln bt pn bf, cw_i g dp 60 dpf, cw_i g sa 60 saf, cw_i g ln 60 lnf, cw_l g bt 4000 btf] H locs := hZ
  refine lv_aload_n hx hb dX3_twinFits_10 rfl (lv_at hl 0 rfl) ?_
  refine lv_iload_n hx hb dX3_twinFits_11 rfl (lv_at hl 1 rfl) ?_
  refine lv_iconst (v := 1) hx hb dX3_twinFits_12 (by decide) ?_
  refine zz_vV (As := [.int (nI a), .int 1]) (wc := [cw_k2 mk st ml 0 0, cw_k5 st (nI na) (nI nu) kd dp cl sa ln bt pn bf, cw_i g dp 60 dpf, cw_i g sa 60 saf, cw_i g ln 60 lnf, cw_l g bt 4000 btf]) (wr := []) (rest := []) hC hZ hs hl zc_X3_47 (co_plan1 g mk ml st kd dp cl sa ln bt pn bf na nu 0 0 dpf saf lnf btf Sf Lf Df a (h_T) (h_N) (by omega) (by omega) (by omega)) [0, 1, 2, 3, 4, 5] [] rfl rfl (by decide +kernel) (ci := 2) (q0 := 0) rfl rfl rfl rfl (Nat.le_of_ble_eq_true rfl) ⟨⟨Nat.le_of_ble_eq_true rfl, Nat.le_of_ble_eq_true rfl⟩, Nat.le_of_ble_eq_true rfl, Nat.le_of_ble_eq_true rfl⟩ dX3_twinFits_13 (fun u2 H locs hp hZ => ?_)
  obtain ⟨pa2_3, pe2_4, f5, f6, rfl⟩ := hp
  have hZ : zz_Z g A s.heap [cw_k2 mk st ml (nI pa2_3) (nI pe2_4), cw_k5 st (nI na) (nI nu) kd dp cl sa ln bt pn bf, cw_i g dp 60 dpf, cw_i g sa 60 saf, cw_i g ln 60 lnf, cw_l g bt 4000 btf] H locs := hZ
  refine lv_aload_n hx hb dX3_twinFits_16 rfl (lv_at hl 0 rfl) ?_
  refine zz_get hC hZ 0 rfl zf_X3_15 rfl dX3_twinFits_17 ?_
  refine lv_aload_n hx hb dX3_twinFits_20 rfl (lv_at hl 0 rfl) ?_
  refine zz_get hC hZ 0 rfl zf_X3_40 rfl dX3_twinFits_21 ?_
  refine lv_i2l hx hb dX3_twinFits_24 rfl ?_
  refine lv_aload_n hx hb dX3_twinFits_25 rfl (lv_at hl 0 rfl) ?_
  refine zz_get hC hZ 0 rfl zf_X3_44 rfl dX3_twinFits_26 ?_
  refine lv_i2l hx hb dX3_twinFits_29 rfl ?_
  refine zz_iV (As := [.long ((nI pa2_3).toInt64), .long ((nI pe2_4).toInt64)]) (wc := [cw_k5 st (nI na) (nI nu) kd dp cl sa ln bt pn bf]) (wr := [cw_k2 mk st ml (nI pa2_3) (nI pe2_4), cw_i g dp 60 dpf, cw_i g sa 60 saf, cw_i g ln 60 lnf, cw_l g bt 4000 btf]) (rest := []) hC hZ hs hl zc_X3_19 (co_fits g st kd dp cl sa ln bt pn bf (nI na) (nI nu) ((nI pa2_3).toInt64) ((nI pe2_4).toInt64)) [1] [0, 2, 3, 4, 5] rfl rfl (by decide +kernel) (ci := 5) (q0 := 0) rfl rfl rfl rfl (Nat.le_of_ble_eq_true rfl) ⟨⟨Nat.le_of_ble_eq_true rfl, Nat.le_of_ble_eq_true rfl⟩, Nat.le_of_ble_eq_true rfl, Nat.le_of_ble_eq_true rfl⟩ dX3_twinFits_30 (fun r7 u8 H locs hp hZ => ?_)
  obtain ⟨rfl, rfl⟩ := hp
  have hZ : zz_Z g A s.heap [cw_k2 mk st ml (nI pa2_3) (nI pe2_4), cw_i g dp 60 dpf, cw_i g sa 60 saf, cw_i g ln 60 lnf, cw_l g bt 4000 btf, cw_k5 st (nI na) (nI nu) kd dp cl sa ln bt pn bf] H locs := hZ
  have hZ : zz_Z g A s.heap [cw_k2 mk st ml (nI pa2_3) (nI pe2_4), cw_k5 st (nI na) (nI nu) kd dp cl sa ln bt pn bf, cw_i g dp 60 dpf, cw_i g sa 60 saf, cw_i g ln 60 lnf, cw_l g bt 4000 btf] H locs := hZ.sub [0, 5, 1, 2, 3, 4] (by decide +kernel) rfl
  exact zz_zret hC hZ (zl_b01 (zl_fits01 _ _ _ _)) (⟨pa2_3, pe2_4, zl_DFr (by omega) (by omega) f5 (by omega) (by omega), rfl⟩) (Nat.le_of_ble_eq_true rfl) (Nat.le_of_ble_eq_true rfl) dX3_twinFits_33
theorem zz_OR.kp {n0 u0 na nu na2 nu2 : Nat} {Sf Lf Df : Nat → Nat} {kd0 cl0 : Nat → Int32} {bt0 : Nat → Int64} {kdf dpf clf saf lnf kd2 dp2 cl2 sa2 ln2 : Nat → Int32} {btf bt2 : Nat → Int64} (h : zz_OR n0 u0 na nu Sf Lf Df kd0 cl0 bt0 kdf dpf clf saf lnf btf) (hn : na ≤ na2) (hu : nu ≤ nu2) (he : zz_EX na dpf saf lnf dp2 sa2 ln2) (hk : zz_KP n0 u0 (na, nu, kdf, dpf, clf, saf, lnf, btf) (na2, nu2, kd2, dp2, cl2, sa2, ln2, bt2)) : zz_OR n0 u0 na2 nu2 Sf Lf Df kd0 cl0 bt0 kd2 dp2 cl2 sa2 ln2 bt2 := by
  obtain ⟨h1, h2, h3, h4, h5⟩ := h
  refine ⟨by omega, by omega, fun x hx => ?_, fun x hx => ?_, fun j hj => (hk.2 j hj).trans (h5 j hj)⟩
  · obtain ⟨e1, e2, e3⟩ := he x (by omega)
    obtain ⟨q1, q2, q3⟩ := h3 x hx
    exact ⟨e1.trans q1, e2.trans q2, e3.trans q3⟩
  · exact ⟨(hk.1 x hx).1.trans (h4 x hx).1, (hk.1 x hx).2.trans (h4 x hx).2⟩
theorem dg_X3_twinAt_0 : (decode cX3_twinAt 0 = .ok (.aload_n 0, 1)) ∧ (decode cX3_twinAt 1 = .ok (.getfield 15, 3)) ∧ (decode cX3_twinAt 4 = .ok (.getfield 51, 3)) ∧ (decode cX3_twinAt 7 = .ok (.iload_n 1, 1)) ∧ (decode cX3_twinAt 8 = .ok (.iaload, 1)) ∧ (decode cX3_twinAt 9 = .ok (.istore_n 3, 1)) ∧ (decode cX3_twinAt 10 = .ok (.iload_n 2, 1)) ∧ (decode cX3_twinAt 11 = .ok (.iconst 4, 1)) ∧ (decode cX3_twinAt 12 = .ok (.if_icmp .gt 16, 3)) ∧ (decode cX3_twinAt 15 = .ok (.aload_n 0, 1)) ∧ (decode cX3_twinAt 16 = .ok (.getfield 15, 3)) ∧ (decode cX3_twinAt 19 = .ok (.lconst 1, 1)) ∧ (decode cX3_twinAt 20 = .ok (.iload_n 3, 1)) ∧ (decode cX3_twinAt 21 = .ok (.i2l, 1)) ∧ (decode cX3_twinAt 22 = .ok (.invokevirtual 19, 3)) ∧ (decode cX3_twinAt 25 = .ok (.ifCond .ne 5, 3)) := by decide +kernel
theorem dX3_twinAt_0 : decode cX3_twinAt 0 = .ok (.aload_n 0, 1) := dg_X3_twinAt_0.1
theorem dX3_twinAt_1 : decode cX3_twinAt 1 = .ok (.getfield 15, 3) := dg_X3_twinAt_0.2.1
theorem dX3_twinAt_4 : decode cX3_twinAt 4 = .ok (.getfield 51, 3) := dg_X3_twinAt_0.2.2.1
theorem dX3_twinAt_7 : decode cX3_twinAt 7 = .ok (.iload_n 1, 1) := dg_X3_twinAt_0.2.2.2.1
theorem dX3_twinAt_8 : decode cX3_twinAt 8 = .ok (.iaload, 1) := dg_X3_twinAt_0.2.2.2.2.1
theorem dX3_twinAt_9 : decode cX3_twinAt 9 = .ok (.istore_n 3, 1) := dg_X3_twinAt_0.2.2.2.2.2.1
theorem dX3_twinAt_10 : decode cX3_twinAt 10 = .ok (.iload_n 2, 1) := dg_X3_twinAt_0.2.2.2.2.2.2.1
theorem dX3_twinAt_11 : decode cX3_twinAt 11 = .ok (.iconst 4, 1) := dg_X3_twinAt_0.2.2.2.2.2.2.2.1
theorem dX3_twinAt_12 : decode cX3_twinAt 12 = .ok (.if_icmp .gt 16, 3) := dg_X3_twinAt_0.2.2.2.2.2.2.2.2.1
theorem dX3_twinAt_15 : decode cX3_twinAt 15 = .ok (.aload_n 0, 1) := dg_X3_twinAt_0.2.2.2.2.2.2.2.2.2.1
theorem dX3_twinAt_16 : decode cX3_twinAt 16 = .ok (.getfield 15, 3) := dg_X3_twinAt_0.2.2.2.2.2.2.2.2.2.2.1
theorem dX3_twinAt_19 : decode cX3_twinAt 19 = .ok (.lconst 1, 1) := dg_X3_twinAt_0.2.2.2.2.2.2.2.2.2.2.2.1
theorem dX3_twinAt_20 : decode cX3_twinAt 20 = .ok (.iload_n 3, 1) := dg_X3_twinAt_0.2.2.2.2.2.2.2.2.2.2.2.2.1
theorem dX3_twinAt_21 : decode cX3_twinAt 21 = .ok (.i2l, 1) := dg_X3_twinAt_0.2.2.2.2.2.2.2.2.2.2.2.2.2.1
theorem dX3_twinAt_22 : decode cX3_twinAt 22 = .ok (.invokevirtual 19, 3) := dg_X3_twinAt_0.2.2.2.2.2.2.2.2.2.2.2.2.2.2.1
theorem dX3_twinAt_25 : decode cX3_twinAt 25 = .ok (.ifCond .ne 5, 3) := dg_X3_twinAt_0.2.2.2.2.2.2.2.2.2.2.2.2.2.2.2
theorem dg_X3_twinAt_28 : (decode cX3_twinAt 28 = .ok (.iconst (-1), 1)) ∧ (decode cX3_twinAt 29 = .ok (.ireturn, 1)) ∧ (decode cX3_twinAt 30 = .ok (.aload_n 0, 1)) ∧ (decode cX3_twinAt 31 = .ok (.getfield 15, 3)) ∧ (decode cX3_twinAt 34 = .ok (.aload_n 0, 1)) ∧ (decode cX3_twinAt 35 = .ok (.getfield 15, 3)) ∧ (decode cX3_twinAt 38 = .ok (.getfield 65, 3)) ∧ (decode cX3_twinAt 41 = .ok (.iload_n 1, 1)) ∧ (decode cX3_twinAt 42 = .ok (.iaload, 1)) ∧ (decode cX3_twinAt 43 = .ok (.aload_n 0, 1)) ∧ (decode cX3_twinAt 44 = .ok (.getfield 15, 3)) ∧ (decode cX3_twinAt 47 = .ok (.getfield 54, 3)) ∧ (decode cX3_twinAt 50 = .ok (.iload_n 1, 1)) ∧ (decode cX3_twinAt 51 = .ok (.iaload, 1)) ∧ (decode cX3_twinAt 52 = .ok (.aload_n 0, 1)) ∧ (decode cX3_twinAt 53 = .ok (.getfield 15, 3)) := by decide +kernel
theorem dX3_twinAt_28 : decode cX3_twinAt 28 = .ok (.iconst (-1), 1) := dg_X3_twinAt_28.1
theorem dX3_twinAt_29 : decode cX3_twinAt 29 = .ok (.ireturn, 1) := dg_X3_twinAt_28.2.1
theorem dX3_twinAt_30 : decode cX3_twinAt 30 = .ok (.aload_n 0, 1) := dg_X3_twinAt_28.2.2.1
theorem dX3_twinAt_31 : decode cX3_twinAt 31 = .ok (.getfield 15, 3) := dg_X3_twinAt_28.2.2.2.1
theorem dX3_twinAt_34 : decode cX3_twinAt 34 = .ok (.aload_n 0, 1) := dg_X3_twinAt_28.2.2.2.2.1
theorem dX3_twinAt_35 : decode cX3_twinAt 35 = .ok (.getfield 15, 3) := dg_X3_twinAt_28.2.2.2.2.2.1
theorem dX3_twinAt_38 : decode cX3_twinAt 38 = .ok (.getfield 65, 3) := dg_X3_twinAt_28.2.2.2.2.2.2.1
theorem dX3_twinAt_41 : decode cX3_twinAt 41 = .ok (.iload_n 1, 1) := dg_X3_twinAt_28.2.2.2.2.2.2.2.1
theorem dX3_twinAt_42 : decode cX3_twinAt 42 = .ok (.iaload, 1) := dg_X3_twinAt_28.2.2.2.2.2.2.2.2.1
theorem dX3_twinAt_43 : decode cX3_twinAt 43 = .ok (.aload_n 0, 1) := dg_X3_twinAt_28.2.2.2.2.2.2.2.2.2.1
theorem dX3_twinAt_44 : decode cX3_twinAt 44 = .ok (.getfield 15, 3) := dg_X3_twinAt_28.2.2.2.2.2.2.2.2.2.2.1
theorem dX3_twinAt_47 : decode cX3_twinAt 47 = .ok (.getfield 54, 3) := dg_X3_twinAt_28.2.2.2.2.2.2.2.2.2.2.2.1
theorem dX3_twinAt_50 : decode cX3_twinAt 50 = .ok (.iload_n 1, 1) := dg_X3_twinAt_28.2.2.2.2.2.2.2.2.2.2.2.2.1
theorem dX3_twinAt_51 : decode cX3_twinAt 51 = .ok (.iaload, 1) := dg_X3_twinAt_28.2.2.2.2.2.2.2.2.2.2.2.2.2.1
theorem dX3_twinAt_52 : decode cX3_twinAt 52 = .ok (.aload_n 0, 1) := dg_X3_twinAt_28.2.2.2.2.2.2.2.2.2.2.2.2.2.2.1
theorem dX3_twinAt_53 : decode cX3_twinAt 53 = .ok (.getfield 15, 3) := dg_X3_twinAt_28.2.2.2.2.2.2.2.2.2.2.2.2.2.2.2
theorem dg_X3_twinAt_56 : (decode cX3_twinAt 56 = .ok (.getfield 68, 3)) ∧ (decode cX3_twinAt 59 = .ok (.iload_n 1, 1)) ∧ (decode cX3_twinAt 60 = .ok (.iaload, 1)) ∧ (decode cX3_twinAt 61 = .ok (.iload_n 3, 1)) ∧ (decode cX3_twinAt 62 = .ok (.invokevirtual 29, 3)) ∧ (decode cX3_twinAt 65 = .ok (.istore 4, 2)) ∧ (decode cX3_twinAt 67 = .ok (.aload_n 0, 1)) ∧ (decode cX3_twinAt 68 = .ok (.getfield 15, 3)) ∧ (decode cX3_twinAt 71 = .ok (.getfield 37, 3)) ∧ (decode cX3_twinAt 74 = .ok (.iload_n 1, 1)) ∧ (decode cX3_twinAt 75 = .ok (.iaload, 1)) ∧ (decode cX3_twinAt 76 = .ok (.istore 5, 2)) ∧ (decode cX3_twinAt 78 = .ok (.aload_n 0, 1)) ∧ (decode cX3_twinAt 79 = .ok (.getfield 15, 3)) ∧ (decode cX3_twinAt 82 = .ok (.getfield 37, 3)) ∧ (decode cX3_twinAt 85 = .ok (.iload 4, 2)) := by decide +kernel
theorem dX3_twinAt_56 : decode cX3_twinAt 56 = .ok (.getfield 68, 3) := dg_X3_twinAt_56.1
theorem dX3_twinAt_59 : decode cX3_twinAt 59 = .ok (.iload_n 1, 1) := dg_X3_twinAt_56.2.1
theorem dX3_twinAt_60 : decode cX3_twinAt 60 = .ok (.iaload, 1) := dg_X3_twinAt_56.2.2.1
theorem dX3_twinAt_61 : decode cX3_twinAt 61 = .ok (.iload_n 3, 1) := dg_X3_twinAt_56.2.2.2.1
theorem dX3_twinAt_62 : decode cX3_twinAt 62 = .ok (.invokevirtual 29, 3) := dg_X3_twinAt_56.2.2.2.2.1
theorem dX3_twinAt_65 : decode cX3_twinAt 65 = .ok (.istore 4, 2) := dg_X3_twinAt_56.2.2.2.2.2.1
theorem dX3_twinAt_67 : decode cX3_twinAt 67 = .ok (.aload_n 0, 1) := dg_X3_twinAt_56.2.2.2.2.2.2.1
theorem dX3_twinAt_68 : decode cX3_twinAt 68 = .ok (.getfield 15, 3) := dg_X3_twinAt_56.2.2.2.2.2.2.2.1
theorem dX3_twinAt_71 : decode cX3_twinAt 71 = .ok (.getfield 37, 3) := dg_X3_twinAt_56.2.2.2.2.2.2.2.2.1
theorem dX3_twinAt_74 : decode cX3_twinAt 74 = .ok (.iload_n 1, 1) := dg_X3_twinAt_56.2.2.2.2.2.2.2.2.2.1
theorem dX3_twinAt_75 : decode cX3_twinAt 75 = .ok (.iaload, 1) := dg_X3_twinAt_56.2.2.2.2.2.2.2.2.2.2.1
theorem dX3_twinAt_76 : decode cX3_twinAt 76 = .ok (.istore 5, 2) := dg_X3_twinAt_56.2.2.2.2.2.2.2.2.2.2.2.1
theorem dX3_twinAt_78 : decode cX3_twinAt 78 = .ok (.aload_n 0, 1) := dg_X3_twinAt_56.2.2.2.2.2.2.2.2.2.2.2.2.1
theorem dX3_twinAt_79 : decode cX3_twinAt 79 = .ok (.getfield 15, 3) := dg_X3_twinAt_56.2.2.2.2.2.2.2.2.2.2.2.2.2.1
theorem dX3_twinAt_82 : decode cX3_twinAt 82 = .ok (.getfield 37, 3) := dg_X3_twinAt_56.2.2.2.2.2.2.2.2.2.2.2.2.2.2.1
theorem dX3_twinAt_85 : decode cX3_twinAt 85 = .ok (.iload 4, 2) := dg_X3_twinAt_56.2.2.2.2.2.2.2.2.2.2.2.2.2.2.2
theorem dg_X3_twinAt_87 : (decode cX3_twinAt 87 = .ok (.iaload, 1)) ∧ (decode cX3_twinAt 88 = .ok (.istore 6, 2)) ∧ (decode cX3_twinAt 90 = .ok (.aload_n 0, 1)) ∧ (decode cX3_twinAt 91 = .ok (.getfield 15, 3)) ∧ (decode cX3_twinAt 94 = .ok (.getfield 54, 3)) ∧ (decode cX3_twinAt 97 = .ok (.iload_n 1, 1)) ∧ (decode cX3_twinAt 98 = .ok (.iaload, 1)) ∧ (decode cX3_twinAt 99 = .ok (.iconst 1, 1)) ∧ (decode cX3_twinAt 100 = .ok (.if_icmp .ne 28, 3)) ∧ (decode cX3_twinAt 103 = .ok (.aload_n 0, 1)) ∧ (decode cX3_twinAt 104 = .ok (.getfield 15, 3)) ∧ (decode cX3_twinAt 107 = .ok (.getfield 33, 3)) ∧ (decode cX3_twinAt 110 = .ok (.iload 5, 2)) ∧ (decode cX3_twinAt 112 = .ok (.aload_n 0, 1)) ∧ (decode cX3_twinAt 113 = .ok (.getfield 15, 3)) ∧ (decode cX3_twinAt 116 = .ok (.getfield 33, 3)) := by decide +kernel
theorem dX3_twinAt_87 : decode cX3_twinAt 87 = .ok (.iaload, 1) := dg_X3_twinAt_87.1
theorem dX3_twinAt_88 : decode cX3_twinAt 88 = .ok (.istore 6, 2) := dg_X3_twinAt_87.2.1
theorem dX3_twinAt_90 : decode cX3_twinAt 90 = .ok (.aload_n 0, 1) := dg_X3_twinAt_87.2.2.1
theorem dX3_twinAt_91 : decode cX3_twinAt 91 = .ok (.getfield 15, 3) := dg_X3_twinAt_87.2.2.2.1
theorem dX3_twinAt_94 : decode cX3_twinAt 94 = .ok (.getfield 54, 3) := dg_X3_twinAt_87.2.2.2.2.1
theorem dX3_twinAt_97 : decode cX3_twinAt 97 = .ok (.iload_n 1, 1) := dg_X3_twinAt_87.2.2.2.2.2.1
theorem dX3_twinAt_98 : decode cX3_twinAt 98 = .ok (.iaload, 1) := dg_X3_twinAt_87.2.2.2.2.2.2.1
theorem dX3_twinAt_99 : decode cX3_twinAt 99 = .ok (.iconst 1, 1) := dg_X3_twinAt_87.2.2.2.2.2.2.2.1
theorem dX3_twinAt_100 : decode cX3_twinAt 100 = .ok (.if_icmp .ne 28, 3) := dg_X3_twinAt_87.2.2.2.2.2.2.2.2.1
theorem dX3_twinAt_103 : decode cX3_twinAt 103 = .ok (.aload_n 0, 1) := dg_X3_twinAt_87.2.2.2.2.2.2.2.2.2.1
theorem dX3_twinAt_104 : decode cX3_twinAt 104 = .ok (.getfield 15, 3) := dg_X3_twinAt_87.2.2.2.2.2.2.2.2.2.2.1
theorem dX3_twinAt_107 : decode cX3_twinAt 107 = .ok (.getfield 33, 3) := dg_X3_twinAt_87.2.2.2.2.2.2.2.2.2.2.2.1
theorem dX3_twinAt_110 : decode cX3_twinAt 110 = .ok (.iload 5, 2) := dg_X3_twinAt_87.2.2.2.2.2.2.2.2.2.2.2.2.1
theorem dX3_twinAt_112 : decode cX3_twinAt 112 = .ok (.aload_n 0, 1) := dg_X3_twinAt_87.2.2.2.2.2.2.2.2.2.2.2.2.2.1
theorem dX3_twinAt_113 : decode cX3_twinAt 113 = .ok (.getfield 15, 3) := dg_X3_twinAt_87.2.2.2.2.2.2.2.2.2.2.2.2.2.2.1
theorem dX3_twinAt_116 : decode cX3_twinAt 116 = .ok (.getfield 33, 3) := dg_X3_twinAt_87.2.2.2.2.2.2.2.2.2.2.2.2.2.2.2
theorem dg_X3_twinAt_119 : (decode cX3_twinAt 119 = .ok (.iload 6, 2)) ∧ (decode cX3_twinAt 121 = .ok (.iload_n 3, 1)) ∧ (decode cX3_twinAt 122 = .ok (.invokestatic 71, 3)) ∧ (decode cX3_twinAt 125 = .ok (.iload 4, 2)) ∧ (decode cX3_twinAt 127 = .ok (.ireturn, 1)) ∧ (decode cX3_twinAt 128 = .ok (.iconst 0, 1)) ∧ (decode cX3_twinAt 129 = .ok (.istore 7, 2)) ∧ (decode cX3_twinAt 131 = .ok (.iload 7, 2)) ∧ (decode cX3_twinAt 133 = .ok (.iload_n 3, 1)) ∧ (decode cX3_twinAt 134 = .ok (.if_icmp .ge 60, 3)) ∧ (decode cX3_twinAt 137 = .ok (.aload_n 0, 1)) ∧ (decode cX3_twinAt 138 = .ok (.getfield 15, 3)) ∧ (decode cX3_twinAt 141 = .ok (.getfield 33, 3)) ∧ (decode cX3_twinAt 144 = .ok (.iload 5, 2)) ∧ (decode cX3_twinAt 146 = .ok (.iload 7, 2)) ∧ (decode cX3_twinAt 148 = .ok (.iadd, 1)) := by decide +kernel
theorem dX3_twinAt_119 : decode cX3_twinAt 119 = .ok (.iload 6, 2) := dg_X3_twinAt_119.1
theorem dX3_twinAt_121 : decode cX3_twinAt 121 = .ok (.iload_n 3, 1) := dg_X3_twinAt_119.2.1
theorem dX3_twinAt_122 : decode cX3_twinAt 122 = .ok (.invokestatic 71, 3) := dg_X3_twinAt_119.2.2.1
theorem dX3_twinAt_125 : decode cX3_twinAt 125 = .ok (.iload 4, 2) := dg_X3_twinAt_119.2.2.2.1
theorem dX3_twinAt_127 : decode cX3_twinAt 127 = .ok (.ireturn, 1) := dg_X3_twinAt_119.2.2.2.2.1
theorem dX3_twinAt_128 : decode cX3_twinAt 128 = .ok (.iconst 0, 1) := dg_X3_twinAt_119.2.2.2.2.2.1
theorem dX3_twinAt_129 : decode cX3_twinAt 129 = .ok (.istore 7, 2) := dg_X3_twinAt_119.2.2.2.2.2.2.1
theorem dX3_twinAt_131 : decode cX3_twinAt 131 = .ok (.iload 7, 2) := dg_X3_twinAt_119.2.2.2.2.2.2.2.1
theorem dX3_twinAt_133 : decode cX3_twinAt 133 = .ok (.iload_n 3, 1) := dg_X3_twinAt_119.2.2.2.2.2.2.2.2.1
theorem dX3_twinAt_134 : decode cX3_twinAt 134 = .ok (.if_icmp .ge 60, 3) := dg_X3_twinAt_119.2.2.2.2.2.2.2.2.2.1
theorem dX3_twinAt_137 : decode cX3_twinAt 137 = .ok (.aload_n 0, 1) := dg_X3_twinAt_119.2.2.2.2.2.2.2.2.2.2.1
theorem dX3_twinAt_138 : decode cX3_twinAt 138 = .ok (.getfield 15, 3) := dg_X3_twinAt_119.2.2.2.2.2.2.2.2.2.2.2.1
theorem dX3_twinAt_141 : decode cX3_twinAt 141 = .ok (.getfield 33, 3) := dg_X3_twinAt_119.2.2.2.2.2.2.2.2.2.2.2.2.1
theorem dX3_twinAt_144 : decode cX3_twinAt 144 = .ok (.iload 5, 2) := dg_X3_twinAt_119.2.2.2.2.2.2.2.2.2.2.2.2.2.1
theorem dX3_twinAt_146 : decode cX3_twinAt 146 = .ok (.iload 7, 2) := dg_X3_twinAt_119.2.2.2.2.2.2.2.2.2.2.2.2.2.2.1
theorem dX3_twinAt_148 : decode cX3_twinAt 148 = .ok (.iadd, 1) := dg_X3_twinAt_119.2.2.2.2.2.2.2.2.2.2.2.2.2.2.2
theorem dg_X3_twinAt_149 : (decode cX3_twinAt 149 = .ok (.laload, 1)) ∧ (decode cX3_twinAt 150 = .ok (.l2i, 1)) ∧ (decode cX3_twinAt 151 = .ok (.istore 8, 2)) ∧ (decode cX3_twinAt 153 = .ok (.aload_n 0, 1)) ∧ (decode cX3_twinAt 154 = .ok (.getfield 15, 3)) ∧ (decode cX3_twinAt 157 = .ok (.iload 8, 2)) ∧ (decode cX3_twinAt 159 = .ok (.invokevirtual 57, 3)) ∧ (decode cX3_twinAt 162 = .ok (.ifCond .eq 26, 3)) ∧ (decode cX3_twinAt 165 = .ok (.aload_n 0, 1)) ∧ (decode cX3_twinAt 166 = .ok (.getfield 15, 3)) ∧ (decode cX3_twinAt 169 = .ok (.getfield 33, 3)) ∧ (decode cX3_twinAt 172 = .ok (.iload 6, 2)) ∧ (decode cX3_twinAt 174 = .ok (.iload 7, 2)) ∧ (decode cX3_twinAt 176 = .ok (.iadd, 1)) ∧ (decode cX3_twinAt 177 = .ok (.aload_n 0, 1)) ∧ (decode cX3_twinAt 178 = .ok (.iload 8, 2)) := by decide +kernel
theorem dX3_twinAt_149 : decode cX3_twinAt 149 = .ok (.laload, 1) := dg_X3_twinAt_149.1
theorem dX3_twinAt_150 : decode cX3_twinAt 150 = .ok (.l2i, 1) := dg_X3_twinAt_149.2.1
theorem dX3_twinAt_151 : decode cX3_twinAt 151 = .ok (.istore 8, 2) := dg_X3_twinAt_149.2.2.1
theorem dX3_twinAt_153 : decode cX3_twinAt 153 = .ok (.aload_n 0, 1) := dg_X3_twinAt_149.2.2.2.1
theorem dX3_twinAt_154 : decode cX3_twinAt 154 = .ok (.getfield 15, 3) := dg_X3_twinAt_149.2.2.2.2.1
theorem dX3_twinAt_157 : decode cX3_twinAt 157 = .ok (.iload 8, 2) := dg_X3_twinAt_149.2.2.2.2.2.1
theorem dX3_twinAt_159 : decode cX3_twinAt 159 = .ok (.invokevirtual 57, 3) := dg_X3_twinAt_149.2.2.2.2.2.2.1
theorem dX3_twinAt_162 : decode cX3_twinAt 162 = .ok (.ifCond .eq 26, 3) := dg_X3_twinAt_149.2.2.2.2.2.2.2.1
theorem dX3_twinAt_165 : decode cX3_twinAt 165 = .ok (.aload_n 0, 1) := dg_X3_twinAt_149.2.2.2.2.2.2.2.2.1
theorem dX3_twinAt_166 : decode cX3_twinAt 166 = .ok (.getfield 15, 3) := dg_X3_twinAt_149.2.2.2.2.2.2.2.2.2.1
theorem dX3_twinAt_169 : decode cX3_twinAt 169 = .ok (.getfield 33, 3) := dg_X3_twinAt_149.2.2.2.2.2.2.2.2.2.2.1
theorem dX3_twinAt_172 : decode cX3_twinAt 172 = .ok (.iload 6, 2) := dg_X3_twinAt_149.2.2.2.2.2.2.2.2.2.2.2.1
theorem dX3_twinAt_174 : decode cX3_twinAt 174 = .ok (.iload 7, 2) := dg_X3_twinAt_149.2.2.2.2.2.2.2.2.2.2.2.2.1
theorem dX3_twinAt_176 : decode cX3_twinAt 176 = .ok (.iadd, 1) := dg_X3_twinAt_149.2.2.2.2.2.2.2.2.2.2.2.2.2.1
theorem dX3_twinAt_177 : decode cX3_twinAt 177 = .ok (.aload_n 0, 1) := dg_X3_twinAt_149.2.2.2.2.2.2.2.2.2.2.2.2.2.2.1
theorem dX3_twinAt_178 : decode cX3_twinAt 178 = .ok (.iload 8, 2) := dg_X3_twinAt_149.2.2.2.2.2.2.2.2.2.2.2.2.2.2.2
theorem dg_X3_twinAt_180 : (decode cX3_twinAt 180 = .ok (.iload_n 2, 1)) ∧ (decode cX3_twinAt 181 = .ok (.iconst 1, 1)) ∧ (decode cX3_twinAt 182 = .ok (.iadd, 1)) ∧ (decode cX3_twinAt 183 = .ok (.invokevirtual 61, 3)) ∧ (decode cX3_twinAt 186 = .ok (.i2l, 1)) ∧ (decode cX3_twinAt 187 = .ok (.lastore, 1)) ∧ (decode cX3_twinAt 188 = .ok (.iinc 7 1, 3)) ∧ (decode cX3_twinAt 191 = .ok (.goto (-60), 3)) ∧ (decode cX3_twinAt 194 = .ok (.iload 4, 2)) ∧ (decode cX3_twinAt 196 = .ok (.ireturn, 1)) := by decide +kernel
theorem dX3_twinAt_180 : decode cX3_twinAt 180 = .ok (.iload_n 2, 1) := dg_X3_twinAt_180.1
theorem dX3_twinAt_181 : decode cX3_twinAt 181 = .ok (.iconst 1, 1) := dg_X3_twinAt_180.2.1
theorem dX3_twinAt_182 : decode cX3_twinAt 182 = .ok (.iadd, 1) := dg_X3_twinAt_180.2.2.1
theorem dX3_twinAt_183 : decode cX3_twinAt 183 = .ok (.invokevirtual 61, 3) := dg_X3_twinAt_180.2.2.2.1
theorem dX3_twinAt_186 : decode cX3_twinAt 186 = .ok (.i2l, 1) := dg_X3_twinAt_180.2.2.2.2.1
theorem dX3_twinAt_187 : decode cX3_twinAt 187 = .ok (.lastore, 1) := dg_X3_twinAt_180.2.2.2.2.2.1
theorem dX3_twinAt_188 : decode cX3_twinAt 188 = .ok (.iinc 7 1, 3) := dg_X3_twinAt_180.2.2.2.2.2.2.1
theorem dX3_twinAt_191 : decode cX3_twinAt 191 = .ok (.goto (-60), 3) := dg_X3_twinAt_180.2.2.2.2.2.2.2.1
theorem dX3_twinAt_194 : decode cX3_twinAt 194 = .ok (.iload 4, 2) := dg_X3_twinAt_180.2.2.2.2.2.2.2.2.1
theorem dX3_twinAt_196 : decode cX3_twinAt 196 = .ok (.ireturn, 1) := dg_X3_twinAt_180.2.2.2.2.2.2.2.2.2
theorem zk_36 : Cond.fieldLink RX3 65 RX6 "kind" "[I" ∈ zz_w := zz_in (List.mem_append_right _ (List.mem_append_left _ (List.mem_of_getElem? (i := 36) (by decide +kernel)))) rfl
theorem zf_X3_65 : zz_f RX3 65 5 2 := ⟨RX6, TX6, 10, rfl, zi_X6, by decide, zk_36⟩
theorem zk_43 : Cond.fieldLink RX3 68 RX6 "cls" "[I" ∈ zz_w := zz_in (List.mem_append_right _ (List.mem_append_left _ (List.mem_of_getElem? (i := 43) (by decide +kernel)))) rfl
theorem zf_X3_68 : zz_f RX3 68 5 4 := ⟨RX6, TX6, 10, rfl, zi_X6, by decide, zk_43⟩
theorem zk_292 : Cond.methodLink RX3 29 yX6_add ∈ zz_w := zz_in (List.mem_append_right _ (List.mem_append_right _ (List.mem_append_left _ (List.mem_of_getElem? (i := 52) (by decide +kernel))))) rfl
set_option maxRecDepth 20000 in
theorem zk_249 : Cond.code yX6_add cX6_add 7 (some .int) ∈ zz_w := zz_in (List.mem_append_right _ (List.mem_append_right _ (List.mem_append_left _ (List.mem_of_getElem? (i := 9) (rfl))))) rfl
theorem zk_247 : Cond.instanceMethod yX6_add ∈ zz_w := zz_in (List.mem_append_right _ (List.mem_append_right _ (List.mem_append_left _ (List.mem_of_getElem? (i := 7) (by decide +kernel))))) rfl
theorem zk_248 : Cond.selects RX6 yX6_add yX6_add ∈ zz_w := zz_in (List.mem_append_right _ (List.mem_append_right _ (List.mem_append_left _ (List.mem_of_getElem? (i := 8) (by decide +kernel))))) rfl
theorem zc_X3_29 : zz_cV RX3 29 yX6_add cX6_add 7 (some .int) 4 := ⟨⟨zk_292, zk_249, zk_2, by decide, by decide, by decide +kernel⟩, zk_247, zk_248⟩
theorem zk_468 : Cond.methodLink RX3 71 arraycopyName ∈ zz_w := zz_in (List.mem_append_right _ (List.mem_append_right _ (List.mem_append_left _ (List.mem_of_getElem? (i := 228) (by decide +kernel))))) rfl
abbrev rm_co_twin4 : Room := { frames := 1, cells := 0, slots := 0, locals := 60 }
abbrev po_co_twin4 (g : zz_G) (mk : Nat) (ml : Nat) (st : Nat) (kd : Nat) (dp : Nat) (cl : Nat) (sa : Nat) (ln : Nat) (bt : Nat) (pn : Nat) (bf : Nat) (na : Nat) (nu : Nat) (pa : Int32) (pe : Int32) (mlf : Nat → Int32) (kdf : Nat → Int32) (dpf : Nat → Int32) (clf : Nat → Int32) (saf : Nat → Int32) (lnf : Nat → Int32) (btf : Nat → Int64) (n0 : Nat) (u0 : Nat) (Sf : Nat → Nat) (Lf : Nat → Nat) (Df : Nat → Nat) (kd0 : Nat → Int32) (cl0 : Nat → Int32) (bt0 : Nat → Int64) (a : Nat) (h_T : zz_TR n0 u0 Sf Lf Df bt0) (h_O : zz_OR n0 u0 na nu Sf Lf Df kd0 cl0 bt0 kdf dpf clf saf lnf btf) (h_S : zz_SI na nu dpf saf lnf) (h_a : a < n0) (h_d : Df a + 4 ≤ 5) (h_m : na + zz_ct (fun _ => 1) (fun x i => bt0 (Sf x + i)) Lf (Df a) a ≤ 60 ∧ nu + zz_ct Lf (fun x i => bt0 (Sf x + i)) Lf (Df a) a ≤ 4000) : Int32 → va_W → Prop := fun (r : Int32) (u : va_W) => ∃ (na2 : Nat) (nu2 : Nat) (kd2 : Nat → Int32) (dp2 : Nat → Int32) (cl2 : Nat → Int32) (sa2 : Nat → Int32) (ln2 : Nat → Int32) (bt2 : Nat → Int64), r = nI na ∧ (zz_SI na2 nu2 dp2 sa2 ln2) ∧ (na ≤ na2) ∧ (zz_EX na dpf saf lnf dp2 sa2 ln2) ∧ ((na2, nu2, kd2, dp2, cl2, sa2, ln2, bt2) = sp_tw kd0 cl0 Sf Lf (fun x i => bt0 (Sf x + i)) (Df a) a (na, nu, kdf, dpf, clf, saf, lnf, btf)) ∧ u = [cw_k2 mk st ml pa pe, cw_i g ml 4 mlf, cw_k5 st (nI na2) (nI nu2) kd dp cl sa ln bt pn bf, cw_i g kd 60 kd2, cw_i g dp 60 dp2, cw_i g cl 60 cl2, cw_i g sa 60 sa2, cw_i g ln 60 ln2, cw_l g bt 4000 bt2]
set_option maxHeartbeats 4000000 in
set_option maxRecDepth 100000 in
theorem co_twin4 (g : zz_G) (mk : Nat) (ml : Nat) (st : Nat) (kd : Nat) (dp : Nat) (cl : Nat) (sa : Nat) (ln : Nat) (bt : Nat) (pn : Nat) (bf : Nat) (na : Nat) (nu : Nat) (pa : Int32) (pe : Int32) (mlf : Nat → Int32) (kdf : Nat → Int32) (dpf : Nat → Int32) (clf : Nat → Int32) (saf : Nat → Int32) (lnf : Nat → Int32) (btf : Nat → Int64) (n0 : Nat) (u0 : Nat) (Sf : Nat → Nat) (Lf : Nat → Nat) (Df : Nat → Nat) (kd0 : Nat → Int32) (cl0 : Nat → Int32) (bt0 : Nat → Int64) (a : Nat) (h_T : zz_TR n0 u0 Sf Lf Df bt0) (h_O : zz_OR n0 u0 na nu Sf Lf Df kd0 cl0 bt0 kdf dpf clf saf lnf btf) (h_S : zz_SI na nu dpf saf lnf) (h_a : a < n0) (h_d : Df a + 4 ≤ 5) (h_m : na + zz_ct (fun _ => 1) (fun x i => bt0 (Sf x + i)) Lf (Df a) a ≤ 60 ∧ nu + zz_ct Lf (fun x i => bt0 (Sf x + i)) Lf (Df a) a ≤ 4000) : zz_I g yX3_twinAt (.code yX3_twinAt cX3_twinAt 9 (some .int)) rm_co_twin4 [.ref mk, .int (nI a), .int 4] [cw_k2 mk st ml pa pe, cw_i g ml 4 mlf, cw_k5 st (nI na) (nI nu) kd dp cl sa ln bt pn bf, cw_i g kd 60 kdf, cw_i g dp 60 dpf, cw_i g cl 60 clf, cw_i g sa 60 saf, cw_i g ln 60 lnf, cw_l g bt 4000 btf] (po_co_twin4 g mk ml st kd dp cl sa ln bt pn bf na nu pa pe mlf kdf dpf clf saf lnf btf n0 u0 Sf Lf Df kd0 cl0 bt0 a h_T h_O h_S h_a h_d h_m) := by
  refine zz_I.intro (own := RX3) (cc := cX3_twinAt) (nL := 9) (by decide) rfl (Nat.le_of_ble_eq_true rfl) ?_
  intro p l e s m args below meth c A H locs ls hC hnm hs hZ hl
  obtain ⟨hx, hb, hml, hown, hts, hr, hlocks, hK⟩ := id hC
  have hl : lv_has ls 9 [(0, .ref mk), (1, .int (nI a)), (2, .int 4)] := hl
  have hZ : zz_Z g A s.heap [cw_k2 mk st ml pa pe, cw_i g ml 4 mlf, cw_k5 st (nI na) (nI nu) kd dp cl sa ln bt pn bf, cw_i g kd 60 kdf, cw_i g dp 60 dpf, cw_i g cl 60 clf, cw_i g sa 60 saf, cw_i g ln 60 lnf, cw_l g bt 4000 btf] H locs := hZ
  have hna := h_S.1
  have hnu := h_S.2.1
  have hn0 := h_O.1
  have hu0 := h_O.2.1
  obtain ⟨ya1, ya2, ya3⟩ := h_O.2.2.1 a h_a
  obtain ⟨yk1, yk2⟩ := h_O.2.2.2.1 a h_a
  obtain ⟨g1, g2, g3, g4⟩ := h_T.2.2.1 a h_a
  have hcc1 : zz_ct (fun _ => 1) (fun x i => bt0 (Sf x + i)) Lf (Df a) a = 1 + zz_rr (fun _ => 1) (fun x i => bt0 (Sf x + i)) Lf (Df a) a 0 := zz_ct_rm (w := fun _ => 1) (by omega)
  have hccL : zz_ct Lf (fun x i => bt0 (Sf x + i)) Lf (Df a) a = Lf a + zz_rr Lf (fun x i => bt0 (Sf x + i)) Lf (Df a) a 0 := zz_ct_rm (w := Lf) (by omega)
  refine lv_aload_n hx hb dX3_twinAt_0 rfl (lv_at hl 0 rfl) ?_
  refine zz_get hC hZ 0 rfl zf_X3_15 rfl dX3_twinAt_1 ?_
  refine zz_get hC hZ 2 rfl zf_X3_51 rfl dX3_twinAt_4 ?_
  refine lv_iload_n hx hb dX3_twinAt_7 rfl (lv_at hl 1 rfl) ?_
  have bd1 : a < 60 := by omega
  refine zz_ialdn hC hZ 7 rfl bd1 (by decide) dX3_twinAt_8 ?_
  refine zz_topi (v := nI (Lf a)) (ya2) ?_
  refine lv_istore_n (lv' := [(3, .int (nI (Lf a))), (0, .ref mk), (1, .int (nI a)), (2, .int 4)]) hx hb dX3_twinAt_9 rfl hl (by decide) rfl (fun ls hl => ?_)
  refine lv_iload_n hx hb dX3_twinAt_10 rfl (lv_at hl 3 rfl) ?_
  refine lv_iconst (v := 4) hx hb dX3_twinAt_11 (by decide) ?_
  refine lv_icmp_gt (tgt := 28) hx hb dX3_twinAt_12 (by decide) (fun c => absurd c (by decide)) (fun c2 => ?_)
  refine lv_aload_n hx hb dX3_twinAt_15 rfl (lv_at hl 1 rfl) ?_
  refine zz_get hC hZ 0 rfl zf_X3_15 rfl dX3_twinAt_16 ?_
  refine lv_lconst (v := 1) hx hb dX3_twinAt_19 (by decide) ?_
  refine lv_iload_n hx hb dX3_twinAt_20 rfl (lv_at hl 0 rfl) ?_
  refine lv_i2l hx hb dX3_twinAt_21 rfl ?_
  refine zz_iV (As := [.long 1, .long ((nI (Lf a)).toInt64)]) (wc := [cw_k5 st (nI na) (nI nu) kd dp cl sa ln bt pn bf]) (wr := [cw_k2 mk st ml pa pe, cw_i g ml 4 mlf, cw_i g kd 60 kdf, cw_i g dp 60 dpf, cw_i g cl 60 clf, cw_i g sa 60 saf, cw_i g ln 60 lnf, cw_l g bt 4000 btf]) (rest := []) hC hZ hs hl zc_X3_19 (co_fits g st kd dp cl sa ln bt pn bf (nI na) (nI nu) 1 ((nI (Lf a)).toInt64)) [2] [0, 1, 3, 4, 5, 6, 7, 8] rfl rfl (by decide +kernel) (ci := 5) (q0 := 0) rfl rfl rfl rfl (Nat.le_of_ble_eq_true rfl) ⟨⟨Nat.le_of_ble_eq_true rfl, Nat.le_of_ble_eq_true rfl⟩, Nat.le_of_ble_eq_true rfl, Nat.le_of_ble_eq_true rfl⟩ dX3_twinAt_22 (fun r3 u4 H locs hp hZ => ?_)
  obtain ⟨rfl, rfl⟩ := hp
  have hZ : zz_Z g A s.heap [cw_k2 mk st ml pa pe, cw_i g ml 4 mlf, cw_i g kd 60 kdf, cw_i g dp 60 dpf, cw_i g cl 60 clf, cw_i g sa 60 saf, cw_i g ln 60 lnf, cw_l g bt 4000 btf, cw_k5 st (nI na) (nI nu) kd dp cl sa ln bt pn bf] H locs := hZ
  refine lv_if_ne (tgt := 30) hx hb dX3_twinAt_25 (by decide) (fun c5 => ?_) (fun c => absurd c (zl_fitN (by omega) (by omega)))
  refine lv_aload_n hx hb dX3_twinAt_30 rfl (lv_at hl 1 rfl) ?_
  refine zz_get hC hZ 0 rfl zf_X3_15 rfl dX3_twinAt_31 ?_
  refine lv_aload_n hx hb dX3_twinAt_34 rfl (lv_at hl 1 rfl) ?_
  refine zz_get hC hZ 0 rfl zf_X3_15 rfl dX3_twinAt_35 ?_
  refine zz_get hC hZ 8 rfl zf_X3_65 rfl dX3_twinAt_38 ?_
  refine lv_iload_n hx hb dX3_twinAt_41 rfl (lv_at hl 2 rfl) ?_
  refine zz_ialdn hC hZ 2 rfl bd1 (by decide) dX3_twinAt_42 ?_
  refine lv_aload_n hx hb dX3_twinAt_43 rfl (lv_at hl 1 rfl) ?_
  refine zz_get hC hZ 0 rfl zf_X3_15 rfl dX3_twinAt_44 ?_
  refine zz_get hC hZ 8 rfl zf_X3_54 rfl dX3_twinAt_47 ?_
  refine lv_iload_n hx hb dX3_twinAt_50 rfl (lv_at hl 2 rfl) ?_
  refine zz_ialdn hC hZ 3 rfl bd1 (by decide) dX3_twinAt_51 ?_
  refine zz_topi (v := nI (Df a)) (ya3) ?_
  refine lv_aload_n hx hb dX3_twinAt_52 rfl (lv_at hl 1 rfl) ?_
  refine zz_get hC hZ 0 rfl zf_X3_15 rfl dX3_twinAt_53 ?_
  refine zz_get hC hZ 8 rfl zf_X3_68 rfl dX3_twinAt_56 ?_
  refine lv_iload_n hx hb dX3_twinAt_59 rfl (lv_at hl 2 rfl) ?_
  refine zz_ialdn hC hZ 4 rfl bd1 (by decide) dX3_twinAt_60 ?_
  refine lv_iload_n hx hb dX3_twinAt_61 rfl (lv_at hl 0 rfl) ?_
  refine zz_iV (As := [.int (kdf a), .int (nI (Df a)), .int (clf a), .int (nI (Lf a))]) (wc := [cw_k5 st (nI na) (nI nu) kd dp cl sa ln bt pn bf, cw_i g kd 60 kdf, cw_i g dp 60 dpf, cw_i g cl 60 clf, cw_i g sa 60 saf, cw_i g ln 60 lnf, cw_l g bt 4000 btf]) (wr := [cw_k2 mk st ml pa pe, cw_i g ml 4 mlf]) (rest := []) hC hZ hs hl zc_X3_29 (co_add g st kd dp cl sa ln bt pn bf na nu (Lf a) kdf dpf clf saf lnf btf (kdf a) (nI (Df a)) (clf a) (by omega) (by omega)) [8, 2, 3, 4, 5, 6, 7] [0, 1] rfl rfl (by decide +kernel) (ci := 5) (q0 := 0) rfl rfl rfl rfl (Nat.le_of_ble_eq_true rfl) ⟨⟨Nat.le_of_ble_eq_true rfl, Nat.le_of_ble_eq_true rfl⟩, Nat.le_of_ble_eq_true rfl, Nat.le_of_ble_eq_true rfl⟩ dX3_twinAt_62 (fun r6 u7 H locs hp hZ => ?_)
  obtain ⟨bt2_8, rfl, f9, rfl⟩ := hp
  have hZ : zz_Z g A s.heap [cw_k2 mk st ml pa pe, cw_i g ml 4 mlf, cw_k5 st (nI (na + 1)) (nI (nu + (Lf a))) kd dp cl sa ln bt pn bf, cw_i g kd 60 (upd kdf na (kdf a)), cw_i g dp 60 (upd dpf na (nI (Df a))), cw_i g cl 60 (upd clf na (clf a)), cw_i g sa 60 (upd saf na (nI nu)), cw_i g ln 60 (upd lnf na (nI (Lf a))), cw_l g bt 4000 bt2_8] H locs := hZ
  have hSA := zz_SI_add h_S (by omega) (by omega) g1 ⟨g3, g4⟩
  have hAD : (na + 1, nu + Lf a, upd kdf na (kdf a), upd dpf na (nI (Df a)), upd clf na (clf a), upd saf na (nI nu), upd lnf na (nI (Lf a)), bt2_8) = sp_add (kd0 a) (nI (Df a)) (cl0 a) (Lf a) (na, nu, kdf, dpf, clf, saf, lnf, btf) := by rw [f9, yk1, yk2]; rfl
  have hO1 := h_O.kp (na2 := na + 1) (nu2 := nu + Lf a) (kd2 := upd kdf na (kdf a)) (cl2 := upd clf na (clf a)) (bt2 := bt2_8) (by omega) (by omega) (zz_EX.up (d := nI (Df a)) (x := nI nu) (y := nI (Lf a))) (by rw [hAD]; exact zz_KP.add h_O.1 h_O.2.1)
  refine lv_istore (lv' := [(4, .int (nI na)), (3, .int (nI (Lf a))), (0, .ref mk), (1, .int (nI a)), (2, .int 4)]) hx hb dX3_twinAt_65 hl (by decide) rfl (fun ls hl => ?_)
  refine lv_aload_n hx hb dX3_twinAt_67 rfl (lv_at hl 2 rfl) ?_
  refine zz_get hC hZ 0 rfl zf_X3_15 rfl dX3_twinAt_68 ?_
  refine zz_get hC hZ 2 rfl zf_X3_37 rfl dX3_twinAt_71 ?_
  refine lv_iload_n hx hb dX3_twinAt_74 rfl (lv_at hl 3 rfl) ?_
  refine zz_ialdn hC hZ 6 rfl bd1 (by decide) dX3_twinAt_75 ?_
  refine zz_topi (v := nI (Sf a)) ((pk_un (by omega)).trans ya1) ?_
  refine lv_istore (lv' := [(5, .int (nI (Sf a))), (4, .int (nI na)), (3, .int (nI (Lf a))), (0, .ref mk), (1, .int (nI a)), (2, .int 4)]) hx hb dX3_twinAt_76 hl (by decide) rfl (fun ls hl => ?_)
  refine lv_aload_n hx hb dX3_twinAt_78 rfl (lv_at hl 3 rfl) ?_
  refine zz_get hC hZ 0 rfl zf_X3_15 rfl dX3_twinAt_79 ?_
  refine zz_get hC hZ 2 rfl zf_X3_37 rfl dX3_twinAt_82 ?_
  refine lv_iload hx hb dX3_twinAt_85 (lv_at hl 1 rfl) ?_
  have bd10 : na < 60 := by omega
  refine zz_ialdn hC hZ 6 rfl bd10 (by decide) dX3_twinAt_87 ?_
  refine zz_topi (v := nI nu) (pk_us) ?_
  refine lv_istore (lv' := [(6, .int (nI nu)), (5, .int (nI (Sf a))), (4, .int (nI na)), (3, .int (nI (Lf a))), (0, .ref mk), (1, .int (nI a)), (2, .int 4)]) hx hb dX3_twinAt_88 hl (by decide) rfl (fun ls hl => ?_)
  refine lv_aload_n hx hb dX3_twinAt_90 rfl (lv_at hl 4 rfl) ?_
  refine zz_get hC hZ 0 rfl zf_X3_15 rfl dX3_twinAt_91 ?_
  refine zz_get hC hZ 2 rfl zf_X3_54 rfl dX3_twinAt_94 ?_
  refine lv_iload_n hx hb dX3_twinAt_97 rfl (lv_at hl 5 rfl) ?_
  refine zz_ialdn hC hZ 4 rfl bd1 (by decide) dX3_twinAt_98 ?_
  refine zz_topi (v := nI (Df a)) ((pk_un (by omega)).trans ya3) ?_
  refine lv_iconst (v := 1) hx hb dX3_twinAt_99 (by decide) ?_
  refine lv_icmp_ne (tgt := 128) hx hb dX3_twinAt_100 (by decide) (fun c => absurd (by rw [show Df a = 1 by omega]; rfl) c) (fun c11 => ?_)
  refine lv_aload_n hx hb dX3_twinAt_103 rfl (lv_at hl 4 rfl) ?_
  refine zz_get hC hZ 0 rfl zf_X3_15 rfl dX3_twinAt_104 ?_
  refine zz_get hC hZ 2 rfl zf_X3_33 rfl dX3_twinAt_107 ?_
  refine lv_iload hx hb dX3_twinAt_110 (lv_at hl 1 rfl) ?_
  refine lv_aload_n hx hb dX3_twinAt_112 rfl (lv_at hl 4 rfl) ?_
  refine zz_get hC hZ 0 rfl zf_X3_15 rfl dX3_twinAt_113 ?_
  refine zz_get hC hZ 2 rfl zf_X3_33 rfl dX3_twinAt_116 ?_
  refine lv_iload hx hb dX3_twinAt_119 (lv_at hl 0 rfl) ?_
  refine lv_iload_n hx hb dX3_twinAt_121 rfl (lv_at hl 3 rfl) ?_
  refine zz_copyl (x := (Sf a)) (y := nu) (n := (Lf a)) hC hZ hl zk_468 zk_439 zk_438 zk_9 8 8 rfl rfl (by omega) (by omega) (by omega) (Nat.le_of_ble_eq_true rfl) (by decide) dX3_twinAt_122 (fun H locs hZ => ?_)
  have hZ : zz_Z g A s.heap [cw_k2 mk st ml pa pe, cw_i g ml 4 mlf, cw_k5 st (nI (na + 1)) (nI (nu + (Lf a))) kd dp cl sa ln bt pn bf, cw_i g kd 60 (upd kdf na (kdf a)), cw_i g dp 60 (upd dpf na (nI (Df a))), cw_i g cl 60 (upd clf na (clf a)), cw_i g sa 60 (upd saf na (nI nu)), cw_i g ln 60 (upd lnf na (nI (Lf a))), cw_l g bt 4000 (va_cpy bt2_8 bt2_8 (Sf a) nu (Lf a))] H locs := hZ
  refine lv_iload hx hb dX3_twinAt_125 (lv_at hl 2 rfl) ?_
  exact zz_iret hC hZ (⟨(na + 1), (nu + (Lf a)), (upd kdf na (kdf a)), (upd dpf na (nI (Df a))), (upd clf na (clf a)), (upd saf na (nI nu)), (upd lnf na (nI (Lf a))), (va_cpy bt2_8 bt2_8 (Sf a) nu (Lf a)), rfl, hSA, by omega, zz_EX.up, zl_tw1 (by omega) hAD, rfl⟩) (Nat.le_of_ble_eq_true rfl) (Nat.le_of_ble_eq_true rfl) dX3_twinAt_127
theorem zk_464 : Cond.methodLink RX3 61 yX3_twinAt ∈ zz_w := zz_in (List.mem_append_right _ (List.mem_append_right _ (List.mem_append_left _ (List.mem_of_getElem? (i := 224) (by decide +kernel))))) rfl
set_option maxRecDepth 20000 in
theorem zk_467 : Cond.code yX3_twinAt cX3_twinAt 9 (some .int) ∈ zz_w := zz_in (List.mem_append_right _ (List.mem_append_right _ (List.mem_append_left _ (List.mem_of_getElem? (i := 227) (rfl))))) rfl
theorem zk_466 : Cond.instanceMethod yX3_twinAt ∈ zz_w := zz_in (List.mem_append_right _ (List.mem_append_right _ (List.mem_append_left _ (List.mem_of_getElem? (i := 226) (by decide +kernel))))) rfl
theorem zs_7 : Cond.selects RX3 yX3_twinAt yX3_twinAt ∈ zz_w := zz_in (List.mem_append_left _ (List.mem_of_getElem? (i := 7) (by decide +kernel))) rfl
theorem zc_X3_61 : zz_cV RX3 61 yX3_twinAt cX3_twinAt 9 (some .int) 2 := ⟨⟨zk_464, zk_467, zk_3, by decide, by decide, by decide +kernel⟩, zk_466, zs_7⟩
abbrev rm_co_twin3 : Room := { frames := 2, cells := 0, slots := 0, locals := 88 }
abbrev po_co_twin3 (g : zz_G) (mk : Nat) (ml : Nat) (st : Nat) (kd : Nat) (dp : Nat) (cl : Nat) (sa : Nat) (ln : Nat) (bt : Nat) (pn : Nat) (bf : Nat) (na : Nat) (nu : Nat) (pa : Int32) (pe : Int32) (mlf : Nat → Int32) (kdf : Nat → Int32) (dpf : Nat → Int32) (clf : Nat → Int32) (saf : Nat → Int32) (lnf : Nat → Int32) (btf : Nat → Int64) (n0 : Nat) (u0 : Nat) (Sf : Nat → Nat) (Lf : Nat → Nat) (Df : Nat → Nat) (kd0 : Nat → Int32) (cl0 : Nat → Int32) (bt0 : Nat → Int64) (a : Nat) (h_T : zz_TR n0 u0 Sf Lf Df bt0) (h_O : zz_OR n0 u0 na nu Sf Lf Df kd0 cl0 bt0 kdf dpf clf saf lnf btf) (h_S : zz_SI na nu dpf saf lnf) (h_a : a < n0) (h_d : Df a + 3 ≤ 5) (h_m : na + zz_ct (fun _ => 1) (fun x i => bt0 (Sf x + i)) Lf (Df a) a ≤ 60 ∧ nu + zz_ct Lf (fun x i => bt0 (Sf x + i)) Lf (Df a) a ≤ 4000) : Int32 → va_W → Prop := fun (r : Int32) (u : va_W) => ∃ (na2 : Nat) (nu2 : Nat) (kd2 : Nat → Int32) (dp2 : Nat → Int32) (cl2 : Nat → Int32) (sa2 : Nat → Int32) (ln2 : Nat → Int32) (bt2 : Nat → Int64), r = nI na ∧ (zz_SI na2 nu2 dp2 sa2 ln2) ∧ (na ≤ na2) ∧ (zz_EX na dpf saf lnf dp2 sa2 ln2) ∧ ((na2, nu2, kd2, dp2, cl2, sa2, ln2, bt2) = sp_tw kd0 cl0 Sf Lf (fun x i => bt0 (Sf x + i)) (Df a) a (na, nu, kdf, dpf, clf, saf, lnf, btf)) ∧ u = [cw_k2 mk st ml pa pe, cw_i g ml 4 mlf, cw_k5 st (nI na2) (nI nu2) kd dp cl sa ln bt pn bf, cw_i g kd 60 kd2, cw_i g dp 60 dp2, cw_i g cl 60 cl2, cw_i g sa 60 sa2, cw_i g ln 60 ln2, cw_l g bt 4000 bt2]
set_option maxHeartbeats 4000000 in
set_option maxRecDepth 100000 in
theorem co_twin3 (g : zz_G) (mk : Nat) (ml : Nat) (st : Nat) (kd : Nat) (dp : Nat) (cl : Nat) (sa : Nat) (ln : Nat) (bt : Nat) (pn : Nat) (bf : Nat) (na : Nat) (nu : Nat) (pa : Int32) (pe : Int32) (mlf : Nat → Int32) (kdf : Nat → Int32) (dpf : Nat → Int32) (clf : Nat → Int32) (saf : Nat → Int32) (lnf : Nat → Int32) (btf : Nat → Int64) (n0 : Nat) (u0 : Nat) (Sf : Nat → Nat) (Lf : Nat → Nat) (Df : Nat → Nat) (kd0 : Nat → Int32) (cl0 : Nat → Int32) (bt0 : Nat → Int64) (a : Nat) (h_T : zz_TR n0 u0 Sf Lf Df bt0) (h_O : zz_OR n0 u0 na nu Sf Lf Df kd0 cl0 bt0 kdf dpf clf saf lnf btf) (h_S : zz_SI na nu dpf saf lnf) (h_a : a < n0) (h_d : Df a + 3 ≤ 5) (h_m : na + zz_ct (fun _ => 1) (fun x i => bt0 (Sf x + i)) Lf (Df a) a ≤ 60 ∧ nu + zz_ct Lf (fun x i => bt0 (Sf x + i)) Lf (Df a) a ≤ 4000) : zz_I g yX3_twinAt (.code yX3_twinAt cX3_twinAt 9 (some .int)) rm_co_twin3 [.ref mk, .int (nI a), .int 3] [cw_k2 mk st ml pa pe, cw_i g ml 4 mlf, cw_k5 st (nI na) (nI nu) kd dp cl sa ln bt pn bf, cw_i g kd 60 kdf, cw_i g dp 60 dpf, cw_i g cl 60 clf, cw_i g sa 60 saf, cw_i g ln 60 lnf, cw_l g bt 4000 btf] (po_co_twin3 g mk ml st kd dp cl sa ln bt pn bf na nu pa pe mlf kdf dpf clf saf lnf btf n0 u0 Sf Lf Df kd0 cl0 bt0 a h_T h_O h_S h_a h_d h_m) := by
  refine zz_I.intro (own := RX3) (cc := cX3_twinAt) (nL := 9) (by decide) rfl (Nat.le_of_ble_eq_true rfl) ?_
  intro p l e s m args below meth c A H locs ls hC hnm hs hZ hl
  obtain ⟨hx, hb, hml, hown, hts, hr, hlocks, hK⟩ := id hC
  have hl : lv_has ls 9 [(0, .ref mk), (1, .int (nI a)), (2, .int 3)] := hl
  have hZ : zz_Z g A s.heap [cw_k2 mk st ml pa pe, cw_i g ml 4 mlf, cw_k5 st (nI na) (nI nu) kd dp cl sa ln bt pn bf, cw_i g kd 60 kdf, cw_i g dp 60 dpf, cw_i g cl 60 clf, cw_i g sa 60 saf, cw_i g ln 60 lnf, cw_l g bt 4000 btf] H locs := hZ
  have hna := h_S.1
  have hnu := h_S.2.1
  have hn0 := h_O.1
  have hu0 := h_O.2.1
  obtain ⟨ya1, ya2, ya3⟩ := h_O.2.2.1 a h_a
  obtain ⟨yk1, yk2⟩ := h_O.2.2.2.1 a h_a
  obtain ⟨g1, g2, g3, g4⟩ := h_T.2.2.1 a h_a
  have hcc1 : zz_ct (fun _ => 1) (fun x i => bt0 (Sf x + i)) Lf (Df a) a = 1 + zz_rr (fun _ => 1) (fun x i => bt0 (Sf x + i)) Lf (Df a) a 0 := zz_ct_rm (w := fun _ => 1) (by omega)
  have hccL : zz_ct Lf (fun x i => bt0 (Sf x + i)) Lf (Df a) a = Lf a + zz_rr Lf (fun x i => bt0 (Sf x + i)) Lf (Df a) a 0 := zz_ct_rm (w := Lf) (by omega)
  refine lv_aload_n hx hb dX3_twinAt_0 rfl (lv_at hl 0 rfl) ?_
  refine zz_get hC hZ 0 rfl zf_X3_15 rfl dX3_twinAt_1 ?_
  refine zz_get hC hZ 2 rfl zf_X3_51 rfl dX3_twinAt_4 ?_
  refine lv_iload_n hx hb dX3_twinAt_7 rfl (lv_at hl 1 rfl) ?_
  have bd1 : a < 60 := by omega
  refine zz_ialdn hC hZ 7 rfl bd1 (by decide) dX3_twinAt_8 ?_
  refine zz_topi (v := nI (Lf a)) (ya2) ?_
  refine lv_istore_n (lv' := [(3, .int (nI (Lf a))), (0, .ref mk), (1, .int (nI a)), (2, .int 3)]) hx hb dX3_twinAt_9 rfl hl (by decide) rfl (fun ls hl => ?_)
  refine lv_iload_n hx hb dX3_twinAt_10 rfl (lv_at hl 3 rfl) ?_
  refine lv_iconst (v := 4) hx hb dX3_twinAt_11 (by decide) ?_
  refine lv_icmp_gt (tgt := 28) hx hb dX3_twinAt_12 (by decide) (fun c => absurd c (by decide)) (fun c2 => ?_)
  refine lv_aload_n hx hb dX3_twinAt_15 rfl (lv_at hl 1 rfl) ?_
  refine zz_get hC hZ 0 rfl zf_X3_15 rfl dX3_twinAt_16 ?_
  refine lv_lconst (v := 1) hx hb dX3_twinAt_19 (by decide) ?_
  refine lv_iload_n hx hb dX3_twinAt_20 rfl (lv_at hl 0 rfl) ?_
  refine lv_i2l hx hb dX3_twinAt_21 rfl ?_
  refine zz_iV (As := [.long 1, .long ((nI (Lf a)).toInt64)]) (wc := [cw_k5 st (nI na) (nI nu) kd dp cl sa ln bt pn bf]) (wr := [cw_k2 mk st ml pa pe, cw_i g ml 4 mlf, cw_i g kd 60 kdf, cw_i g dp 60 dpf, cw_i g cl 60 clf, cw_i g sa 60 saf, cw_i g ln 60 lnf, cw_l g bt 4000 btf]) (rest := []) hC hZ hs hl zc_X3_19 (co_fits g st kd dp cl sa ln bt pn bf (nI na) (nI nu) 1 ((nI (Lf a)).toInt64)) [2] [0, 1, 3, 4, 5, 6, 7, 8] rfl rfl (by decide +kernel) (ci := 5) (q0 := 0) rfl rfl rfl rfl (Nat.le_of_ble_eq_true rfl) ⟨⟨Nat.le_of_ble_eq_true rfl, Nat.le_of_ble_eq_true rfl⟩, Nat.le_of_ble_eq_true rfl, Nat.le_of_ble_eq_true rfl⟩ dX3_twinAt_22 (fun r3 u4 H locs hp hZ => ?_)
  obtain ⟨rfl, rfl⟩ := hp
  have hZ : zz_Z g A s.heap [cw_k2 mk st ml pa pe, cw_i g ml 4 mlf, cw_i g kd 60 kdf, cw_i g dp 60 dpf, cw_i g cl 60 clf, cw_i g sa 60 saf, cw_i g ln 60 lnf, cw_l g bt 4000 btf, cw_k5 st (nI na) (nI nu) kd dp cl sa ln bt pn bf] H locs := hZ
  refine lv_if_ne (tgt := 30) hx hb dX3_twinAt_25 (by decide) (fun c5 => ?_) (fun c => absurd c (zl_fitN (by omega) (by omega)))
  refine lv_aload_n hx hb dX3_twinAt_30 rfl (lv_at hl 1 rfl) ?_
  refine zz_get hC hZ 0 rfl zf_X3_15 rfl dX3_twinAt_31 ?_
  refine lv_aload_n hx hb dX3_twinAt_34 rfl (lv_at hl 1 rfl) ?_
  refine zz_get hC hZ 0 rfl zf_X3_15 rfl dX3_twinAt_35 ?_
  refine zz_get hC hZ 8 rfl zf_X3_65 rfl dX3_twinAt_38 ?_
  refine lv_iload_n hx hb dX3_twinAt_41 rfl (lv_at hl 2 rfl) ?_
  refine zz_ialdn hC hZ 2 rfl bd1 (by decide) dX3_twinAt_42 ?_
  refine lv_aload_n hx hb dX3_twinAt_43 rfl (lv_at hl 1 rfl) ?_
  refine zz_get hC hZ 0 rfl zf_X3_15 rfl dX3_twinAt_44 ?_
  refine zz_get hC hZ 8 rfl zf_X3_54 rfl dX3_twinAt_47 ?_
  refine lv_iload_n hx hb dX3_twinAt_50 rfl (lv_at hl 2 rfl) ?_
  refine zz_ialdn hC hZ 3 rfl bd1 (by decide) dX3_twinAt_51 ?_
  refine zz_topi (v := nI (Df a)) (ya3) ?_
  refine lv_aload_n hx hb dX3_twinAt_52 rfl (lv_at hl 1 rfl) ?_
  refine zz_get hC hZ 0 rfl zf_X3_15 rfl dX3_twinAt_53 ?_
  refine zz_get hC hZ 8 rfl zf_X3_68 rfl dX3_twinAt_56 ?_
  refine lv_iload_n hx hb dX3_twinAt_59 rfl (lv_at hl 2 rfl) ?_
  refine zz_ialdn hC hZ 4 rfl bd1 (by decide) dX3_twinAt_60 ?_
  refine lv_iload_n hx hb dX3_twinAt_61 rfl (lv_at hl 0 rfl) ?_
  refine zz_iV (As := [.int (kdf a), .int (nI (Df a)), .int (clf a), .int (nI (Lf a))]) (wc := [cw_k5 st (nI na) (nI nu) kd dp cl sa ln bt pn bf, cw_i g kd 60 kdf, cw_i g dp 60 dpf, cw_i g cl 60 clf, cw_i g sa 60 saf, cw_i g ln 60 lnf, cw_l g bt 4000 btf]) (wr := [cw_k2 mk st ml pa pe, cw_i g ml 4 mlf]) (rest := []) hC hZ hs hl zc_X3_29 (co_add g st kd dp cl sa ln bt pn bf na nu (Lf a) kdf dpf clf saf lnf btf (kdf a) (nI (Df a)) (clf a) (by omega) (by omega)) [8, 2, 3, 4, 5, 6, 7] [0, 1] rfl rfl (by decide +kernel) (ci := 5) (q0 := 0) rfl rfl rfl rfl (Nat.le_of_ble_eq_true rfl) ⟨⟨Nat.le_of_ble_eq_true rfl, Nat.le_of_ble_eq_true rfl⟩, Nat.le_of_ble_eq_true rfl, Nat.le_of_ble_eq_true rfl⟩ dX3_twinAt_62 (fun r6 u7 H locs hp hZ => ?_)
  obtain ⟨bt2_8, rfl, f9, rfl⟩ := hp
  have hZ : zz_Z g A s.heap [cw_k2 mk st ml pa pe, cw_i g ml 4 mlf, cw_k5 st (nI (na + 1)) (nI (nu + (Lf a))) kd dp cl sa ln bt pn bf, cw_i g kd 60 (upd kdf na (kdf a)), cw_i g dp 60 (upd dpf na (nI (Df a))), cw_i g cl 60 (upd clf na (clf a)), cw_i g sa 60 (upd saf na (nI nu)), cw_i g ln 60 (upd lnf na (nI (Lf a))), cw_l g bt 4000 bt2_8] H locs := hZ
  have hSA := zz_SI_add h_S (by omega) (by omega) g1 ⟨g3, g4⟩
  have hAD : (na + 1, nu + Lf a, upd kdf na (kdf a), upd dpf na (nI (Df a)), upd clf na (clf a), upd saf na (nI nu), upd lnf na (nI (Lf a)), bt2_8) = sp_add (kd0 a) (nI (Df a)) (cl0 a) (Lf a) (na, nu, kdf, dpf, clf, saf, lnf, btf) := by rw [f9, yk1, yk2]; rfl
  have hO1 := h_O.kp (na2 := na + 1) (nu2 := nu + Lf a) (kd2 := upd kdf na (kdf a)) (cl2 := upd clf na (clf a)) (bt2 := bt2_8) (by omega) (by omega) (zz_EX.up (d := nI (Df a)) (x := nI nu) (y := nI (Lf a))) (by rw [hAD]; exact zz_KP.add h_O.1 h_O.2.1)
  refine lv_istore (lv' := [(4, .int (nI na)), (3, .int (nI (Lf a))), (0, .ref mk), (1, .int (nI a)), (2, .int 3)]) hx hb dX3_twinAt_65 hl (by decide) rfl (fun ls hl => ?_)
  refine lv_aload_n hx hb dX3_twinAt_67 rfl (lv_at hl 2 rfl) ?_
  refine zz_get hC hZ 0 rfl zf_X3_15 rfl dX3_twinAt_68 ?_
  refine zz_get hC hZ 2 rfl zf_X3_37 rfl dX3_twinAt_71 ?_
  refine lv_iload_n hx hb dX3_twinAt_74 rfl (lv_at hl 3 rfl) ?_
  refine zz_ialdn hC hZ 6 rfl bd1 (by decide) dX3_twinAt_75 ?_
  refine zz_topi (v := nI (Sf a)) ((pk_un (by omega)).trans ya1) ?_
  refine lv_istore (lv' := [(5, .int (nI (Sf a))), (4, .int (nI na)), (3, .int (nI (Lf a))), (0, .ref mk), (1, .int (nI a)), (2, .int 3)]) hx hb dX3_twinAt_76 hl (by decide) rfl (fun ls hl => ?_)
  refine lv_aload_n hx hb dX3_twinAt_78 rfl (lv_at hl 3 rfl) ?_
  refine zz_get hC hZ 0 rfl zf_X3_15 rfl dX3_twinAt_79 ?_
  refine zz_get hC hZ 2 rfl zf_X3_37 rfl dX3_twinAt_82 ?_
  refine lv_iload hx hb dX3_twinAt_85 (lv_at hl 1 rfl) ?_
  have bd10 : na < 60 := by omega
  refine zz_ialdn hC hZ 6 rfl bd10 (by decide) dX3_twinAt_87 ?_
  refine zz_topi (v := nI nu) (pk_us) ?_
  refine lv_istore (lv' := [(6, .int (nI nu)), (5, .int (nI (Sf a))), (4, .int (nI na)), (3, .int (nI (Lf a))), (0, .ref mk), (1, .int (nI a)), (2, .int 3)]) hx hb dX3_twinAt_88 hl (by decide) rfl (fun ls hl => ?_)
  refine lv_aload_n hx hb dX3_twinAt_90 rfl (lv_at hl 4 rfl) ?_
  refine zz_get hC hZ 0 rfl zf_X3_15 rfl dX3_twinAt_91 ?_
  refine zz_get hC hZ 2 rfl zf_X3_54 rfl dX3_twinAt_94 ?_
  refine lv_iload_n hx hb dX3_twinAt_97 rfl (lv_at hl 5 rfl) ?_
  refine zz_ialdn hC hZ 4 rfl bd1 (by decide) dX3_twinAt_98 ?_
  refine zz_topi (v := nI (Df a)) ((pk_un (by omega)).trans ya3) ?_
  refine lv_iconst (v := 1) hx hb dX3_twinAt_99 (by decide) ?_
  have bd12 : (Df a) < 2 ^ 31 := by omega
  refine lv_icmp_ne (tgt := 128) hx hb dX3_twinAt_100 (by decide) (fun c11 => ?_) (fun c11 => ?_)
  · have nc11 : ¬ (Df a) = 1 := fun zq => c11 (show nI ((Df a)) = nI (1) from (nI_eq bd12 (by decide)).mpr zq)
    refine lv_iconst (v := 0) hx hb dX3_twinAt_128 (by decide) ?_
    refine lv_istore (lv' := [(7, .int 0), (6, .int (nI nu)), (5, .int (nI (Sf a))), (4, .int (nI na)), (3, .int (nI (Lf a))), (0, .ref mk), (1, .int (nI a)), (2, .int 3)]) hx hb dX3_twinAt_129 hl (by decide) rfl (fun ls hl => ?_)
    have hd2 : 2 ≤ Df a := by omega
    have hc1 : zz_ct (fun _ => 1) (fun x i => bt0 (Sf x + i)) Lf (Df a) a = 1 + zz_rr (fun _ => 1) (fun x i => bt0 (Sf x + i)) Lf (Df a) a 0 := zz_ct_rm (w := fun _ => 1) (by omega)
    have hcL : zz_ct Lf (fun x i => bt0 (Sf x + i)) Lf (Df a) a = Lf a + zz_rr Lf (fun x i => bt0 (Sf x + i)) Lf (Df a) a 0 := zz_ct_rm (w := Lf) (by omega)
    obtain ⟨f0, ef0⟩ : ∃ f0, Df a = f0 + 2 := ⟨Df a - 2, by omega⟩
    have LP13 : ∀ (N : Nat) (i : Nat) (na1 : Nat) (nu1 : Nat) (kd1 : Nat → Int32) (dp1 : Nat → Int32) (cl1 : Nat → Int32) (sa1 : Nat → Int32) (ln1 : Nat → Int32) (bt1 : Nat → Int64) (H : Heap) (locs : List Loc) (ls : Array Slot), (i ≤ Lf a) → (na < na1 ∧ nu + Lf a ≤ nu1) → (zz_SI na1 nu1 dp1 sa1 ln1) → (zz_EX na dpf saf lnf dp1 sa1 ln1) → (zz_OR n0 u0 na1 nu1 Sf Lf Df kd0 cl0 bt0 kd1 dp1 cl1 sa1 ln1 bt1) → (na1 + zz_rr (fun _ => 1) (fun x i => bt0 (Sf x + i)) Lf (Df a) a i ≤ 60) → (nu1 + zz_rr Lf (fun x i => bt0 (Sf x + i)) Lf (Df a) a i ≤ 4000) → (sp_tw kd0 cl0 Sf Lf (fun x i => bt0 (Sf x + i)) (Df a) a (na, nu, kdf, dpf, clf, saf, lnf, btf) = sp_tl (sp_tw kd0 cl0 Sf Lf (fun x i => bt0 (Sf x + i)) (f0 + 1)) ((fun x i => bt0 (Sf x + i)) a) nu (Lf a - i) i (na1, nu1, kd1, dp1, cl1, sa1, ln1, bt1)) → (Lf a - i) < N → zz_Z g A s.heap [cw_k2 mk st ml pa pe, cw_i g ml 4 mlf, cw_k5 st (nI na1) (nI nu1) kd dp cl sa ln bt pn bf, cw_i g kd 60 kd1, cw_i g dp 60 dp1, cw_i g cl 60 cl1, cw_i g sa 60 sa1, cw_i g ln 60 ln1, cw_l g bt 4000 bt1] H locs → lv_has ls 9 [(7, .int (nI i)), (6, .int (nI nu)), (5, .int (nI (Sf a))), (4, .int (nI na)), (3, .int (nI (Lf a))), (0, .ref mk), (1, .int (nI a)), (2, .int 3)] → W p l e rm_co_twin3 s m args below meth c H locs 0 0 (zz_QI below g args s A rm_co_twin3.cells rm_co_twin3.slots (po_co_twin3 g mk ml st kd dp cl sa ln bt pn bf na nu pa pe mlf kdf dpf clf saf lnf btf n0 u0 Sf Lf Df kd0 cl0 bt0 a h_T h_O h_S h_a h_d h_m)) (F0 m 131 ls []) := by
      intro N
      induction N with
      | zero =>
        intro i na1 nu1 kd1 dp1 cl1 sa1 ln1 bt1 H locs ls hi h1 hS1 hE1 hO2 hm1 hm2 hTL hN
        exact absurd hN (Nat.not_lt_zero _)
      | succ N ih =>
        intro i na1 nu1 kd1 dp1 cl1 sa1 ln1 bt1 H locs ls hi h1 hS1 hE1 hO2 hm1 hm2 hTL hN hZ hl
        refine lv_iload hx hb dX3_twinAt_131 (lv_at hl 0 rfl) ?_
        refine lv_iload_n hx hb dX3_twinAt_133 rfl (lv_at hl 4 rfl) ?_
        have bd15 : (Lf a) < 2 ^ 31 := by omega
        have bd16 : i < 2 ^ 31 := by omega
        refine lv_icmp_ge (tgt := 194) hx hb dX3_twinAt_134 (by decide) (fun c14 => ?_) (fun c14 => ?_)
        · have nc14 : (Lf a) ≤ i := (nI_leI bd15 bd16).mp (show nI ((Lf a)) ≤ nI (i) from c14)
          refine lv_iload hx hb dX3_twinAt_194 (lv_at hl 3 rfl) ?_
          exact zz_iret hC hZ (⟨na1, nu1, kd1, dp1, cl1, sa1, ln1, bt1, rfl, hS1, by omega, hE1, by rw [hTL, show Lf a - i = 0 by omega, sp_tl], rfl⟩) (Nat.le_of_ble_eq_true rfl) (Nat.le_of_ble_eq_true rfl) dX3_twinAt_196
        · have nc14 : ¬ (Lf a) ≤ i := fun zq => c14 (show nI ((Lf a)) ≤ nI (i) from (nI_leI bd15 bd16).mpr zq)
          have hna1 := hS1.1
          have hnu1 := hS1.2.1
          obtain ⟨ho1, ho2, ho3, ho4, ho5⟩ := id hO2
          have hil : i < Lf a := by omega
          refine lv_aload_n hx hb dX3_twinAt_137 rfl (lv_at hl 5 rfl) ?_
          refine zz_get hC hZ 0 rfl zf_X3_15 rfl dX3_twinAt_138 ?_
          refine zz_get hC hZ 2 rfl zf_X3_33 rfl dX3_twinAt_141 ?_
          refine lv_iload hx hb dX3_twinAt_144 (lv_at hl 2 rfl) ?_
          refine lv_iload hx hb dX3_twinAt_146 (lv_at hl 0 rfl) ?_
          refine lv_iadd hx hb dX3_twinAt_148 ?_
          refine zz_topi (v := nI ((Sf a) + i)) (nI_add _ _) ?_
          have bd17 : ((Sf a) + i) < 4000 := by omega
          refine zz_laldn hC hZ 8 rfl bd17 (by decide) dX3_twinAt_149 ?_
          refine lv_l2i hx hb dX3_twinAt_150 rfl ?_
          rcases h_T.2.2.2 a h_a (by omega) i hil with hv | ⟨r, hr, hv, hdr⟩
          · refine zz_topi (v := -1) (by rw [ho5 _ (by omega), hv]; decide) ?_
            refine lv_istore (lv' := [(8, .int (-1)), (7, .int (nI i)), (6, .int (nI nu)), (5, .int (nI (Sf a))), (4, .int (nI na)), (3, .int (nI (Lf a))), (0, .ref mk), (1, .int (nI a)), (2, .int 3)]) hx hb dX3_twinAt_151 hl (by decide) rfl (fun ls hl => ?_)
            refine lv_aload_n hx hb dX3_twinAt_153 rfl (lv_at hl 6 rfl) ?_
            refine zz_get hC hZ 0 rfl zf_X3_15 rfl dX3_twinAt_154 ?_
            refine lv_iload hx hb dX3_twinAt_157 (lv_at hl 0 rfl) ?_
            refine zz_iV (As := [.int (-1)]) (wc := [cw_k5 st (nI na1) (nI nu1) kd dp cl sa ln bt pn bf]) (wr := [cw_k2 mk st ml pa pe, cw_i g ml 4 mlf, cw_i g kd 60 kd1, cw_i g dp 60 dp1, cw_i g cl 60 cl1, cw_i g sa 60 sa1, cw_i g ln 60 ln1, cw_l g bt 4000 bt1]) (rest := []) hC hZ hs hl zc_X3_57 (co_has g st kd dp cl sa ln bt pn bf (nI na1) (nI nu1) (-1)) [2] [0, 1, 3, 4, 5, 6, 7, 8] rfl rfl (by decide +kernel) (ci := 5) (q0 := 0) rfl rfl rfl rfl (Nat.le_of_ble_eq_true rfl) ⟨⟨Nat.le_of_ble_eq_true rfl, Nat.le_of_ble_eq_true rfl⟩, Nat.le_of_ble_eq_true rfl, Nat.le_of_ble_eq_true rfl⟩ dX3_twinAt_159 (fun r18 u19 H locs hp hZ => ?_)
            obtain ⟨rfl, rfl⟩ := hp
            have hZ : zz_Z g A s.heap [cw_k2 mk st ml pa pe, cw_i g ml 4 mlf, cw_i g kd 60 kd1, cw_i g dp 60 dp1, cw_i g cl 60 cl1, cw_i g sa 60 sa1, cw_i g ln 60 ln1, cw_l g bt 4000 bt1, cw_k5 st (nI na1) (nI nu1) kd dp cl sa ln bt pn bf] H locs := hZ
            refine lv_if_eq (tgt := 188) hx hb dX3_twinAt_162 (by decide) (fun c20 => ?_) (fun c => absurd (zl_hasN) c)
            refine lv_iinc (v := nI (i + 1)) (lv' := [(7, .int (nI (i + 1))), (8, .int (-1)), (6, .int (nI nu)), (5, .int (nI (Sf a))), (4, .int (nI na)), (3, .int (nI (Lf a))), (0, .ref mk), (1, .int (nI a)), (2, .int 3)]) hx hb dX3_twinAt_188 hl (k := 1) rfl (nI_1 _) (by decide) rfl (fun ls hl => ?_)
            refine lv_goto (tgt := 131) hx hb dX3_twinAt_191 (by decide) ?_
            have hr1 : zz_rr (fun _ => 1) (fun x i => bt0 (Sf x + i)) Lf (Df a) a i = zz_rr (fun _ => 1) (fun x i => bt0 (Sf x + i)) Lf (Df a) a (i + 1) := zz_rr_null (w := fun _ => 1) (rw := (fun x i => bt0 (Sf x + i))) hd2 hil hv
            have hrL : zz_rr Lf (fun x i => bt0 (Sf x + i)) Lf (Df a) a i = zz_rr Lf (fun x i => bt0 (Sf x + i)) Lf (Df a) a (i + 1) := zz_rr_null (w := Lf) (rw := (fun x i => bt0 (Sf x + i))) hd2 hil hv
            exact ih (i + 1) na1 nu1 kd1 dp1 cl1 sa1 ln1 bt1 H locs ls (by omega) (by omega) (hS1) (hE1) (hO2) (by omega) (by omega) (by rw [hTL, show Lf a - i = (Lf a - (i + 1)) + 1 by omega, sp_tl, if_pos hv]) (by omega) (hZ.sub [0, 1, 8, 2, 3, 4, 5, 6, 7] (by decide +kernel) rfl) (lv_sub hl [0, 2, 3, 4, 5, 6, 7, 8] rfl)
          · refine zz_topi (v := nI r) (by rw [ho5 _ (by omega), hv]; exact lN_i r) ?_
            refine lv_istore (lv' := [(8, .int (nI r)), (7, .int (nI i)), (6, .int (nI nu)), (5, .int (nI (Sf a))), (4, .int (nI na)), (3, .int (nI (Lf a))), (0, .ref mk), (1, .int (nI a)), (2, .int 3)]) hx hb dX3_twinAt_151 hl (by decide) rfl (fun ls hl => ?_)
            refine lv_aload_n hx hb dX3_twinAt_153 rfl (lv_at hl 6 rfl) ?_
            refine zz_get hC hZ 0 rfl zf_X3_15 rfl dX3_twinAt_154 ?_
            refine lv_iload hx hb dX3_twinAt_157 (lv_at hl 0 rfl) ?_
            refine zz_iV (As := [.int (nI r)]) (wc := [cw_k5 st (nI na1) (nI nu1) kd dp cl sa ln bt pn bf]) (wr := [cw_k2 mk st ml pa pe, cw_i g ml 4 mlf, cw_i g kd 60 kd1, cw_i g dp 60 dp1, cw_i g cl 60 cl1, cw_i g sa 60 sa1, cw_i g ln 60 ln1, cw_l g bt 4000 bt1]) (rest := []) hC hZ hs hl zc_X3_57 (co_has g st kd dp cl sa ln bt pn bf (nI na1) (nI nu1) (nI r)) [2] [0, 1, 3, 4, 5, 6, 7, 8] rfl rfl (by decide +kernel) (ci := 5) (q0 := 0) rfl rfl rfl rfl (Nat.le_of_ble_eq_true rfl) ⟨⟨Nat.le_of_ble_eq_true rfl, Nat.le_of_ble_eq_true rfl⟩, Nat.le_of_ble_eq_true rfl, Nat.le_of_ble_eq_true rfl⟩ dX3_twinAt_159 (fun r21 u22 H locs hp hZ => ?_)
            obtain ⟨rfl, rfl⟩ := hp
            have hZ : zz_Z g A s.heap [cw_k2 mk st ml pa pe, cw_i g ml 4 mlf, cw_i g kd 60 kd1, cw_i g dp 60 dp1, cw_i g cl 60 cl1, cw_i g sa 60 sa1, cw_i g ln 60 ln1, cw_l g bt 4000 bt1, cw_k5 st (nI na1) (nI nu1) kd dp cl sa ln bt pn bf] H locs := hZ
            refine lv_if_eq (tgt := 188) hx hb dX3_twinAt_162 (by decide) (fun c => absurd c (zl_hasY (by omega) (by omega))) (fun c23 => ?_)
            refine lv_aload_n hx hb dX3_twinAt_165 rfl (lv_at hl 6 rfl) ?_
            refine zz_get hC hZ 0 rfl zf_X3_15 rfl dX3_twinAt_166 ?_
            refine zz_get hC hZ 8 rfl zf_X3_33 rfl dX3_twinAt_169 ?_
            refine lv_iload hx hb dX3_twinAt_172 (lv_at hl 2 rfl) ?_
            refine lv_iload hx hb dX3_twinAt_174 (lv_at hl 1 rfl) ?_
            refine lv_iadd hx hb dX3_twinAt_176 ?_
            refine zz_topi (v := nI (nu + i)) (nI_add _ _) ?_
            refine lv_aload_n hx hb dX3_twinAt_177 rfl (lv_at hl 6 rfl) ?_
            refine lv_iload hx hb dX3_twinAt_178 (lv_at hl 0 rfl) ?_
            refine lv_iload_n hx hb dX3_twinAt_180 rfl (lv_at hl 8 rfl) ?_
            refine lv_iconst (v := 1) hx hb dX3_twinAt_181 (by decide) ?_
            refine lv_iadd hx hb dX3_twinAt_182 ?_
            refine zz_topi (v := 4) (by decide) ?_
            have hr1 := zz_rr_row (w := fun _ => 1) (rw := (fun x i => bt0 (Sf x + i))) (Lf := Lf) (f := Df a) (x := a) (k := i) (r := r) hd2 hil hv (by omega)
            have hq1 : zz_ct (fun _ => 1) (fun x i => bt0 (Sf x + i)) Lf (Df r) r = 1 + zz_rr (fun _ => 1) (fun x i => bt0 (Sf x + i)) Lf (Df r) r 0 := zz_ct_rm (w := fun _ => 1) (by omega)
            rw [show Df a - 1 = Df r by omega] at hr1
            have hr1 : zz_rr (fun _ => 1) (fun x i => bt0 (Sf x + i)) Lf (Df a) a i = 1 + zz_rr (fun _ => 1) (fun x i => bt0 (Sf x + i)) Lf (Df r) r 0 + zz_rr (fun _ => 1) (fun x i => bt0 (Sf x + i)) Lf (Df a) a (i + 1) := hr1
            have hrL := zz_rr_row (w := Lf) (rw := (fun x i => bt0 (Sf x + i))) (Lf := Lf) (f := Df a) (x := a) (k := i) (r := r) hd2 hil hv (by omega)
            have hqL : zz_ct Lf (fun x i => bt0 (Sf x + i)) Lf (Df r) r = Lf r + zz_rr Lf (fun x i => bt0 (Sf x + i)) Lf (Df r) r 0 := zz_ct_rm (w := Lf) (by omega)
            rw [show Df a - 1 = Df r by omega] at hrL
            refine zz_iV (As := [.int (nI r), .int 4]) (wc := [cw_k2 mk st ml pa pe, cw_i g ml 4 mlf, cw_k5 st (nI na1) (nI nu1) kd dp cl sa ln bt pn bf, cw_i g kd 60 kd1, cw_i g dp 60 dp1, cw_i g cl 60 cl1, cw_i g sa 60 sa1, cw_i g ln 60 ln1, cw_l g bt 4000 bt1]) (wr := []) (rest := [.int (nI (nu + i)), .ref bt]) hC hZ hs hl zc_X3_61 (co_twin4 g mk ml st kd dp cl sa ln bt pn bf na1 nu1 pa pe mlf kd1 dp1 cl1 sa1 ln1 bt1 n0 u0 Sf Lf Df kd0 cl0 bt0 r (h_T) (hO2) (hS1) (by omega) (by omega) (by omega)) [0, 1, 8, 2, 3, 4, 5, 6, 7] [] rfl rfl (by decide +kernel) (ci := 2) (q0 := 0) rfl rfl rfl rfl (Nat.le_of_ble_eq_true rfl) ⟨⟨Nat.le_of_ble_eq_true rfl, Nat.le_of_ble_eq_true rfl⟩, Nat.le_of_ble_eq_true rfl, Nat.le_of_ble_eq_true rfl⟩ dX3_twinAt_183 (fun r24 u25 H locs hp hZ => ?_)
            obtain ⟨na2_26, nu2_27, kd2_28, dp2_29, cl2_30, sa2_31, ln2_32, bt2_33, rfl, f34, f35, f36, f37, rfl⟩ := hp
            have hZ : zz_Z g A s.heap [cw_k2 mk st ml pa pe, cw_i g ml 4 mlf, cw_k5 st (nI na2_26) (nI nu2_27) kd dp cl sa ln bt pn bf, cw_i g kd 60 kd2_28, cw_i g dp 60 dp2_29, cw_i g cl 60 cl2_30, cw_i g sa 60 sa2_31, cw_i g ln 60 ln2_32, cw_l g bt 4000 bt2_33] H locs := hZ
            refine lv_i2l hx hb dX3_twinAt_186 rfl ?_
            have bd38 : (nu + i) < 4000 := by omega
            refine zz_lastn hC hZ 8 rfl bd38 (by decide) dX3_twinAt_187 (fun H locs hZ => ?_)
            have hZ : zz_Z g A s.heap [cw_k2 mk st ml pa pe, cw_i g ml 4 mlf, cw_k5 st (nI na2_26) (nI nu2_27) kd dp cl sa ln bt pn bf, cw_i g kd 60 kd2_28, cw_i g dp 60 dp2_29, cw_i g cl 60 cl2_30, cw_i g sa 60 sa2_31, cw_i g ln 60 ln2_32, cw_l g bt 4000 (vp_updL bt2_33 (nu + i) ((nI na1).toInt64))] H locs := hZ
            refine lv_iinc (v := nI (i + 1)) (lv' := [(7, .int (nI (i + 1))), (8, .int (nI r)), (6, .int (nI nu)), (5, .int (nI (Sf a))), (4, .int (nI na)), (3, .int (nI (Lf a))), (0, .ref mk), (1, .int (nI a)), (2, .int 3)]) hx hb dX3_twinAt_188 hl (k := 1) rfl (nI_1 _) (by decide) rfl (fun ls hl => ?_)
            refine lv_goto (tgt := 131) hx hb dX3_twinAt_191 (by decide) ?_
            have htn := sp_tw_n kd0 cl0 Sf Lf (fun x i => bt0 (Sf x + i)) (Df r) r (na1, nu1, kd1, dp1, cl1, sa1, ln1, bt1)
            have htk := sp_tw_k kd0 cl0 Sf Lf (fun x i => bt0 (Sf x + i)) n0 u0 (Df r) r (na1, nu1, kd1, dp1, cl1, sa1, ln1, bt1) (by show n0 ≤ na1; omega) (by show u0 ≤ nu1; omega)
            rw [← f37] at htn htk
            have htn1 : na2_26 = na1 + zz_ct (fun _ => 1) (fun x i => bt0 (Sf x + i)) Lf (Df r) r := htn.1
            have htn2 : nu2_27 = nu1 + zz_ct Lf (fun x i => bt0 (Sf x + i)) Lf (Df r) r := htn.2
            exact ih (i + 1) na2_26 nu2_27 kd2_28 dp2_29 cl2_30 sa2_31 ln2_32 (vp_updL bt2_33 (nu + i) ((nI na1).toInt64)) H locs ls (by omega) (by omega) (f34) (hE1.tr (by omega) f36) (hO2.kp (by omega) (by omega) f36 (htk.tr (zz_KP.set (by omega)))) (by omega) (by omega) (by rw [hTL, show Lf a - i = (Lf a - (i + 1)) + 1 by omega, sp_tl, if_neg (show ¬ bt0 (Sf a + i) = -1 by rw [hv]; exact zl_lnn r), show f0 + 1 = Df r by omega, show ((fun x i => bt0 (Sf x + i)) a i).toInt.toNat = r from (congrArg (fun z => (Int64.toInt z).toNat) hv).trans (zl_lnr (by omega)), ← f37, nI_l (show na1 < 2 ^ 31 by omega)]; rfl) (by omega) hZ (lv_sub hl [0, 2, 3, 4, 5, 6, 7, 8] rfl)
    exact LP13 _ 0 (na + 1) (nu + (Lf a)) (upd kdf na (kdf a)) (upd dpf na (nI (Df a))) (upd clf na (clf a)) (upd saf na (nI nu)) (upd lnf na (nI (Lf a))) bt2_8 H locs ls (by omega) (by omega) (hSA) (zz_EX.up) (hO1) (by omega) (by omega) (by rw [hAD, ef0, sp_tw]; rfl) (Nat.lt_succ_self _) hZ (lv_sub hl [0, 1, 2, 3, 4, 5, 6, 7] rfl)
  · have nc11 : (Df a) = 1 := (nI_eq bd12 (by decide)).mp (show nI ((Df a)) = nI (1) from c11)
    refine lv_aload_n hx hb dX3_twinAt_103 rfl (lv_at hl 4 rfl) ?_
    refine zz_get hC hZ 0 rfl zf_X3_15 rfl dX3_twinAt_104 ?_
    refine zz_get hC hZ 2 rfl zf_X3_33 rfl dX3_twinAt_107 ?_
    refine lv_iload hx hb dX3_twinAt_110 (lv_at hl 1 rfl) ?_
    refine lv_aload_n hx hb dX3_twinAt_112 rfl (lv_at hl 4 rfl) ?_
    refine zz_get hC hZ 0 rfl zf_X3_15 rfl dX3_twinAt_113 ?_
    refine zz_get hC hZ 2 rfl zf_X3_33 rfl dX3_twinAt_116 ?_
    refine lv_iload hx hb dX3_twinAt_119 (lv_at hl 0 rfl) ?_
    refine lv_iload_n hx hb dX3_twinAt_121 rfl (lv_at hl 3 rfl) ?_
    refine zz_copyl (x := (Sf a)) (y := nu) (n := (Lf a)) hC hZ hl zk_468 zk_439 zk_438 zk_9 8 8 rfl rfl (by omega) (by omega) (by omega) (Nat.le_of_ble_eq_true rfl) (by decide) dX3_twinAt_122 (fun H locs hZ => ?_)
    have hZ : zz_Z g A s.heap [cw_k2 mk st ml pa pe, cw_i g ml 4 mlf, cw_k5 st (nI (na + 1)) (nI (nu + (Lf a))) kd dp cl sa ln bt pn bf, cw_i g kd 60 (upd kdf na (kdf a)), cw_i g dp 60 (upd dpf na (nI (Df a))), cw_i g cl 60 (upd clf na (clf a)), cw_i g sa 60 (upd saf na (nI nu)), cw_i g ln 60 (upd lnf na (nI (Lf a))), cw_l g bt 4000 (va_cpy bt2_8 bt2_8 (Sf a) nu (Lf a))] H locs := hZ
    refine lv_iload hx hb dX3_twinAt_125 (lv_at hl 2 rfl) ?_
    exact zz_iret hC hZ (⟨(na + 1), (nu + (Lf a)), (upd kdf na (kdf a)), (upd dpf na (nI (Df a))), (upd clf na (clf a)), (upd saf na (nI nu)), (upd lnf na (nI (Lf a))), (va_cpy bt2_8 bt2_8 (Sf a) nu (Lf a)), rfl, hSA, by omega, zz_EX.up, zl_tw1 (by omega) hAD, rfl⟩) (Nat.le_of_ble_eq_true rfl) (Nat.le_of_ble_eq_true rfl) dX3_twinAt_127
abbrev rm_co_twin2 : Room := { frames := 3, cells := 0, slots := 0, locals := 116 }
abbrev po_co_twin2 (g : zz_G) (mk : Nat) (ml : Nat) (st : Nat) (kd : Nat) (dp : Nat) (cl : Nat) (sa : Nat) (ln : Nat) (bt : Nat) (pn : Nat) (bf : Nat) (na : Nat) (nu : Nat) (pa : Int32) (pe : Int32) (mlf : Nat → Int32) (kdf : Nat → Int32) (dpf : Nat → Int32) (clf : Nat → Int32) (saf : Nat → Int32) (lnf : Nat → Int32) (btf : Nat → Int64) (n0 : Nat) (u0 : Nat) (Sf : Nat → Nat) (Lf : Nat → Nat) (Df : Nat → Nat) (kd0 : Nat → Int32) (cl0 : Nat → Int32) (bt0 : Nat → Int64) (a : Nat) (h_T : zz_TR n0 u0 Sf Lf Df bt0) (h_O : zz_OR n0 u0 na nu Sf Lf Df kd0 cl0 bt0 kdf dpf clf saf lnf btf) (h_S : zz_SI na nu dpf saf lnf) (h_a : a < n0) (h_d : Df a + 2 ≤ 5) (h_m : na + zz_ct (fun _ => 1) (fun x i => bt0 (Sf x + i)) Lf (Df a) a ≤ 60 ∧ nu + zz_ct Lf (fun x i => bt0 (Sf x + i)) Lf (Df a) a ≤ 4000) : Int32 → va_W → Prop := fun (r : Int32) (u : va_W) => ∃ (na2 : Nat) (nu2 : Nat) (kd2 : Nat → Int32) (dp2 : Nat → Int32) (cl2 : Nat → Int32) (sa2 : Nat → Int32) (ln2 : Nat → Int32) (bt2 : Nat → Int64), r = nI na ∧ (zz_SI na2 nu2 dp2 sa2 ln2) ∧ (na ≤ na2) ∧ (zz_EX na dpf saf lnf dp2 sa2 ln2) ∧ ((na2, nu2, kd2, dp2, cl2, sa2, ln2, bt2) = sp_tw kd0 cl0 Sf Lf (fun x i => bt0 (Sf x + i)) (Df a) a (na, nu, kdf, dpf, clf, saf, lnf, btf)) ∧ u = [cw_k2 mk st ml pa pe, cw_i g ml 4 mlf, cw_k5 st (nI na2) (nI nu2) kd dp cl sa ln bt pn bf, cw_i g kd 60 kd2, cw_i g dp 60 dp2, cw_i g cl 60 cl2, cw_i g sa 60 sa2, cw_i g ln 60 ln2, cw_l g bt 4000 bt2]
set_option maxHeartbeats 4000000 in
set_option maxRecDepth 100000 in
theorem co_twin2 (g : zz_G) (mk : Nat) (ml : Nat) (st : Nat) (kd : Nat) (dp : Nat) (cl : Nat) (sa : Nat) (ln : Nat) (bt : Nat) (pn : Nat) (bf : Nat) (na : Nat) (nu : Nat) (pa : Int32) (pe : Int32) (mlf : Nat → Int32) (kdf : Nat → Int32) (dpf : Nat → Int32) (clf : Nat → Int32) (saf : Nat → Int32) (lnf : Nat → Int32) (btf : Nat → Int64) (n0 : Nat) (u0 : Nat) (Sf : Nat → Nat) (Lf : Nat → Nat) (Df : Nat → Nat) (kd0 : Nat → Int32) (cl0 : Nat → Int32) (bt0 : Nat → Int64) (a : Nat) (h_T : zz_TR n0 u0 Sf Lf Df bt0) (h_O : zz_OR n0 u0 na nu Sf Lf Df kd0 cl0 bt0 kdf dpf clf saf lnf btf) (h_S : zz_SI na nu dpf saf lnf) (h_a : a < n0) (h_d : Df a + 2 ≤ 5) (h_m : na + zz_ct (fun _ => 1) (fun x i => bt0 (Sf x + i)) Lf (Df a) a ≤ 60 ∧ nu + zz_ct Lf (fun x i => bt0 (Sf x + i)) Lf (Df a) a ≤ 4000) : zz_I g yX3_twinAt (.code yX3_twinAt cX3_twinAt 9 (some .int)) rm_co_twin2 [.ref mk, .int (nI a), .int 2] [cw_k2 mk st ml pa pe, cw_i g ml 4 mlf, cw_k5 st (nI na) (nI nu) kd dp cl sa ln bt pn bf, cw_i g kd 60 kdf, cw_i g dp 60 dpf, cw_i g cl 60 clf, cw_i g sa 60 saf, cw_i g ln 60 lnf, cw_l g bt 4000 btf] (po_co_twin2 g mk ml st kd dp cl sa ln bt pn bf na nu pa pe mlf kdf dpf clf saf lnf btf n0 u0 Sf Lf Df kd0 cl0 bt0 a h_T h_O h_S h_a h_d h_m) := by
  refine zz_I.intro (own := RX3) (cc := cX3_twinAt) (nL := 9) (by decide) rfl (Nat.le_of_ble_eq_true rfl) ?_
  intro p l e s m args below meth c A H locs ls hC hnm hs hZ hl
  obtain ⟨hx, hb, hml, hown, hts, hr, hlocks, hK⟩ := id hC
  have hl : lv_has ls 9 [(0, .ref mk), (1, .int (nI a)), (2, .int 2)] := hl
  have hZ : zz_Z g A s.heap [cw_k2 mk st ml pa pe, cw_i g ml 4 mlf, cw_k5 st (nI na) (nI nu) kd dp cl sa ln bt pn bf, cw_i g kd 60 kdf, cw_i g dp 60 dpf, cw_i g cl 60 clf, cw_i g sa 60 saf, cw_i g ln 60 lnf, cw_l g bt 4000 btf] H locs := hZ
  have hna := h_S.1
  have hnu := h_S.2.1
  have hn0 := h_O.1
  have hu0 := h_O.2.1
  obtain ⟨ya1, ya2, ya3⟩ := h_O.2.2.1 a h_a
  obtain ⟨yk1, yk2⟩ := h_O.2.2.2.1 a h_a
  obtain ⟨g1, g2, g3, g4⟩ := h_T.2.2.1 a h_a
  have hcc1 : zz_ct (fun _ => 1) (fun x i => bt0 (Sf x + i)) Lf (Df a) a = 1 + zz_rr (fun _ => 1) (fun x i => bt0 (Sf x + i)) Lf (Df a) a 0 := zz_ct_rm (w := fun _ => 1) (by omega)
  have hccL : zz_ct Lf (fun x i => bt0 (Sf x + i)) Lf (Df a) a = Lf a + zz_rr Lf (fun x i => bt0 (Sf x + i)) Lf (Df a) a 0 := zz_ct_rm (w := Lf) (by omega)
  refine lv_aload_n hx hb dX3_twinAt_0 rfl (lv_at hl 0 rfl) ?_
  refine zz_get hC hZ 0 rfl zf_X3_15 rfl dX3_twinAt_1 ?_
  refine zz_get hC hZ 2 rfl zf_X3_51 rfl dX3_twinAt_4 ?_
  refine lv_iload_n hx hb dX3_twinAt_7 rfl (lv_at hl 1 rfl) ?_
  have bd1 : a < 60 := by omega
  refine zz_ialdn hC hZ 7 rfl bd1 (by decide) dX3_twinAt_8 ?_
  refine zz_topi (v := nI (Lf a)) (ya2) ?_
  refine lv_istore_n (lv' := [(3, .int (nI (Lf a))), (0, .ref mk), (1, .int (nI a)), (2, .int 2)]) hx hb dX3_twinAt_9 rfl hl (by decide) rfl (fun ls hl => ?_)
  refine lv_iload_n hx hb dX3_twinAt_10 rfl (lv_at hl 3 rfl) ?_
  refine lv_iconst (v := 4) hx hb dX3_twinAt_11 (by decide) ?_
  refine lv_icmp_gt (tgt := 28) hx hb dX3_twinAt_12 (by decide) (fun c => absurd c (by decide)) (fun c2 => ?_)
  refine lv_aload_n hx hb dX3_twinAt_15 rfl (lv_at hl 1 rfl) ?_
  refine zz_get hC hZ 0 rfl zf_X3_15 rfl dX3_twinAt_16 ?_
  refine lv_lconst (v := 1) hx hb dX3_twinAt_19 (by decide) ?_
  refine lv_iload_n hx hb dX3_twinAt_20 rfl (lv_at hl 0 rfl) ?_
  refine lv_i2l hx hb dX3_twinAt_21 rfl ?_
  refine zz_iV (As := [.long 1, .long ((nI (Lf a)).toInt64)]) (wc := [cw_k5 st (nI na) (nI nu) kd dp cl sa ln bt pn bf]) (wr := [cw_k2 mk st ml pa pe, cw_i g ml 4 mlf, cw_i g kd 60 kdf, cw_i g dp 60 dpf, cw_i g cl 60 clf, cw_i g sa 60 saf, cw_i g ln 60 lnf, cw_l g bt 4000 btf]) (rest := []) hC hZ hs hl zc_X3_19 (co_fits g st kd dp cl sa ln bt pn bf (nI na) (nI nu) 1 ((nI (Lf a)).toInt64)) [2] [0, 1, 3, 4, 5, 6, 7, 8] rfl rfl (by decide +kernel) (ci := 5) (q0 := 0) rfl rfl rfl rfl (Nat.le_of_ble_eq_true rfl) ⟨⟨Nat.le_of_ble_eq_true rfl, Nat.le_of_ble_eq_true rfl⟩, Nat.le_of_ble_eq_true rfl, Nat.le_of_ble_eq_true rfl⟩ dX3_twinAt_22 (fun r3 u4 H locs hp hZ => ?_)
  obtain ⟨rfl, rfl⟩ := hp
  have hZ : zz_Z g A s.heap [cw_k2 mk st ml pa pe, cw_i g ml 4 mlf, cw_i g kd 60 kdf, cw_i g dp 60 dpf, cw_i g cl 60 clf, cw_i g sa 60 saf, cw_i g ln 60 lnf, cw_l g bt 4000 btf, cw_k5 st (nI na) (nI nu) kd dp cl sa ln bt pn bf] H locs := hZ
  refine lv_if_ne (tgt := 30) hx hb dX3_twinAt_25 (by decide) (fun c5 => ?_) (fun c => absurd c (zl_fitN (by omega) (by omega)))
  refine lv_aload_n hx hb dX3_twinAt_30 rfl (lv_at hl 1 rfl) ?_
  refine zz_get hC hZ 0 rfl zf_X3_15 rfl dX3_twinAt_31 ?_
  refine lv_aload_n hx hb dX3_twinAt_34 rfl (lv_at hl 1 rfl) ?_
  refine zz_get hC hZ 0 rfl zf_X3_15 rfl dX3_twinAt_35 ?_
  refine zz_get hC hZ 8 rfl zf_X3_65 rfl dX3_twinAt_38 ?_
  refine lv_iload_n hx hb dX3_twinAt_41 rfl (lv_at hl 2 rfl) ?_
  refine zz_ialdn hC hZ 2 rfl bd1 (by decide) dX3_twinAt_42 ?_
  refine lv_aload_n hx hb dX3_twinAt_43 rfl (lv_at hl 1 rfl) ?_
  refine zz_get hC hZ 0 rfl zf_X3_15 rfl dX3_twinAt_44 ?_
  refine zz_get hC hZ 8 rfl zf_X3_54 rfl dX3_twinAt_47 ?_
  refine lv_iload_n hx hb dX3_twinAt_50 rfl (lv_at hl 2 rfl) ?_
  refine zz_ialdn hC hZ 3 rfl bd1 (by decide) dX3_twinAt_51 ?_
  refine zz_topi (v := nI (Df a)) (ya3) ?_
  refine lv_aload_n hx hb dX3_twinAt_52 rfl (lv_at hl 1 rfl) ?_
  refine zz_get hC hZ 0 rfl zf_X3_15 rfl dX3_twinAt_53 ?_
  refine zz_get hC hZ 8 rfl zf_X3_68 rfl dX3_twinAt_56 ?_
  refine lv_iload_n hx hb dX3_twinAt_59 rfl (lv_at hl 2 rfl) ?_
  refine zz_ialdn hC hZ 4 rfl bd1 (by decide) dX3_twinAt_60 ?_
  refine lv_iload_n hx hb dX3_twinAt_61 rfl (lv_at hl 0 rfl) ?_
  refine zz_iV (As := [.int (kdf a), .int (nI (Df a)), .int (clf a), .int (nI (Lf a))]) (wc := [cw_k5 st (nI na) (nI nu) kd dp cl sa ln bt pn bf, cw_i g kd 60 kdf, cw_i g dp 60 dpf, cw_i g cl 60 clf, cw_i g sa 60 saf, cw_i g ln 60 lnf, cw_l g bt 4000 btf]) (wr := [cw_k2 mk st ml pa pe, cw_i g ml 4 mlf]) (rest := []) hC hZ hs hl zc_X3_29 (co_add g st kd dp cl sa ln bt pn bf na nu (Lf a) kdf dpf clf saf lnf btf (kdf a) (nI (Df a)) (clf a) (by omega) (by omega)) [8, 2, 3, 4, 5, 6, 7] [0, 1] rfl rfl (by decide +kernel) (ci := 5) (q0 := 0) rfl rfl rfl rfl (Nat.le_of_ble_eq_true rfl) ⟨⟨Nat.le_of_ble_eq_true rfl, Nat.le_of_ble_eq_true rfl⟩, Nat.le_of_ble_eq_true rfl, Nat.le_of_ble_eq_true rfl⟩ dX3_twinAt_62 (fun r6 u7 H locs hp hZ => ?_)
  obtain ⟨bt2_8, rfl, f9, rfl⟩ := hp
  have hZ : zz_Z g A s.heap [cw_k2 mk st ml pa pe, cw_i g ml 4 mlf, cw_k5 st (nI (na + 1)) (nI (nu + (Lf a))) kd dp cl sa ln bt pn bf, cw_i g kd 60 (upd kdf na (kdf a)), cw_i g dp 60 (upd dpf na (nI (Df a))), cw_i g cl 60 (upd clf na (clf a)), cw_i g sa 60 (upd saf na (nI nu)), cw_i g ln 60 (upd lnf na (nI (Lf a))), cw_l g bt 4000 bt2_8] H locs := hZ
  have hSA := zz_SI_add h_S (by omega) (by omega) g1 ⟨g3, g4⟩
  have hAD : (na + 1, nu + Lf a, upd kdf na (kdf a), upd dpf na (nI (Df a)), upd clf na (clf a), upd saf na (nI nu), upd lnf na (nI (Lf a)), bt2_8) = sp_add (kd0 a) (nI (Df a)) (cl0 a) (Lf a) (na, nu, kdf, dpf, clf, saf, lnf, btf) := by rw [f9, yk1, yk2]; rfl
  have hO1 := h_O.kp (na2 := na + 1) (nu2 := nu + Lf a) (kd2 := upd kdf na (kdf a)) (cl2 := upd clf na (clf a)) (bt2 := bt2_8) (by omega) (by omega) (zz_EX.up (d := nI (Df a)) (x := nI nu) (y := nI (Lf a))) (by rw [hAD]; exact zz_KP.add h_O.1 h_O.2.1)
  refine lv_istore (lv' := [(4, .int (nI na)), (3, .int (nI (Lf a))), (0, .ref mk), (1, .int (nI a)), (2, .int 2)]) hx hb dX3_twinAt_65 hl (by decide) rfl (fun ls hl => ?_)
  refine lv_aload_n hx hb dX3_twinAt_67 rfl (lv_at hl 2 rfl) ?_
  refine zz_get hC hZ 0 rfl zf_X3_15 rfl dX3_twinAt_68 ?_
  refine zz_get hC hZ 2 rfl zf_X3_37 rfl dX3_twinAt_71 ?_
  refine lv_iload_n hx hb dX3_twinAt_74 rfl (lv_at hl 3 rfl) ?_
  refine zz_ialdn hC hZ 6 rfl bd1 (by decide) dX3_twinAt_75 ?_
  refine zz_topi (v := nI (Sf a)) ((pk_un (by omega)).trans ya1) ?_
  refine lv_istore (lv' := [(5, .int (nI (Sf a))), (4, .int (nI na)), (3, .int (nI (Lf a))), (0, .ref mk), (1, .int (nI a)), (2, .int 2)]) hx hb dX3_twinAt_76 hl (by decide) rfl (fun ls hl => ?_)
  refine lv_aload_n hx hb dX3_twinAt_78 rfl (lv_at hl 3 rfl) ?_
  refine zz_get hC hZ 0 rfl zf_X3_15 rfl dX3_twinAt_79 ?_
  refine zz_get hC hZ 2 rfl zf_X3_37 rfl dX3_twinAt_82 ?_
  refine lv_iload hx hb dX3_twinAt_85 (lv_at hl 1 rfl) ?_
  have bd10 : na < 60 := by omega
  refine zz_ialdn hC hZ 6 rfl bd10 (by decide) dX3_twinAt_87 ?_
  refine zz_topi (v := nI nu) (pk_us) ?_
  refine lv_istore (lv' := [(6, .int (nI nu)), (5, .int (nI (Sf a))), (4, .int (nI na)), (3, .int (nI (Lf a))), (0, .ref mk), (1, .int (nI a)), (2, .int 2)]) hx hb dX3_twinAt_88 hl (by decide) rfl (fun ls hl => ?_)
  refine lv_aload_n hx hb dX3_twinAt_90 rfl (lv_at hl 4 rfl) ?_
  refine zz_get hC hZ 0 rfl zf_X3_15 rfl dX3_twinAt_91 ?_
  refine zz_get hC hZ 2 rfl zf_X3_54 rfl dX3_twinAt_94 ?_
  refine lv_iload_n hx hb dX3_twinAt_97 rfl (lv_at hl 5 rfl) ?_
  refine zz_ialdn hC hZ 4 rfl bd1 (by decide) dX3_twinAt_98 ?_
  refine zz_topi (v := nI (Df a)) ((pk_un (by omega)).trans ya3) ?_
  refine lv_iconst (v := 1) hx hb dX3_twinAt_99 (by decide) ?_
  have bd12 : (Df a) < 2 ^ 31 := by omega
  refine lv_icmp_ne (tgt := 128) hx hb dX3_twinAt_100 (by decide) (fun c11 => ?_) (fun c11 => ?_)
  · have nc11 : ¬ (Df a) = 1 := fun zq => c11 (show nI ((Df a)) = nI (1) from (nI_eq bd12 (by decide)).mpr zq)
    refine lv_iconst (v := 0) hx hb dX3_twinAt_128 (by decide) ?_
    refine lv_istore (lv' := [(7, .int 0), (6, .int (nI nu)), (5, .int (nI (Sf a))), (4, .int (nI na)), (3, .int (nI (Lf a))), (0, .ref mk), (1, .int (nI a)), (2, .int 2)]) hx hb dX3_twinAt_129 hl (by decide) rfl (fun ls hl => ?_)
    have hd2 : 2 ≤ Df a := by omega
    have hc1 : zz_ct (fun _ => 1) (fun x i => bt0 (Sf x + i)) Lf (Df a) a = 1 + zz_rr (fun _ => 1) (fun x i => bt0 (Sf x + i)) Lf (Df a) a 0 := zz_ct_rm (w := fun _ => 1) (by omega)
    have hcL : zz_ct Lf (fun x i => bt0 (Sf x + i)) Lf (Df a) a = Lf a + zz_rr Lf (fun x i => bt0 (Sf x + i)) Lf (Df a) a 0 := zz_ct_rm (w := Lf) (by omega)
    obtain ⟨f0, ef0⟩ : ∃ f0, Df a = f0 + 2 := ⟨Df a - 2, by omega⟩
    have LP13 : ∀ (N : Nat) (i : Nat) (na1 : Nat) (nu1 : Nat) (kd1 : Nat → Int32) (dp1 : Nat → Int32) (cl1 : Nat → Int32) (sa1 : Nat → Int32) (ln1 : Nat → Int32) (bt1 : Nat → Int64) (H : Heap) (locs : List Loc) (ls : Array Slot), (i ≤ Lf a) → (na < na1 ∧ nu + Lf a ≤ nu1) → (zz_SI na1 nu1 dp1 sa1 ln1) → (zz_EX na dpf saf lnf dp1 sa1 ln1) → (zz_OR n0 u0 na1 nu1 Sf Lf Df kd0 cl0 bt0 kd1 dp1 cl1 sa1 ln1 bt1) → (na1 + zz_rr (fun _ => 1) (fun x i => bt0 (Sf x + i)) Lf (Df a) a i ≤ 60) → (nu1 + zz_rr Lf (fun x i => bt0 (Sf x + i)) Lf (Df a) a i ≤ 4000) → (sp_tw kd0 cl0 Sf Lf (fun x i => bt0 (Sf x + i)) (Df a) a (na, nu, kdf, dpf, clf, saf, lnf, btf) = sp_tl (sp_tw kd0 cl0 Sf Lf (fun x i => bt0 (Sf x + i)) (f0 + 1)) ((fun x i => bt0 (Sf x + i)) a) nu (Lf a - i) i (na1, nu1, kd1, dp1, cl1, sa1, ln1, bt1)) → (Lf a - i) < N → zz_Z g A s.heap [cw_k2 mk st ml pa pe, cw_i g ml 4 mlf, cw_k5 st (nI na1) (nI nu1) kd dp cl sa ln bt pn bf, cw_i g kd 60 kd1, cw_i g dp 60 dp1, cw_i g cl 60 cl1, cw_i g sa 60 sa1, cw_i g ln 60 ln1, cw_l g bt 4000 bt1] H locs → lv_has ls 9 [(7, .int (nI i)), (6, .int (nI nu)), (5, .int (nI (Sf a))), (4, .int (nI na)), (3, .int (nI (Lf a))), (0, .ref mk), (1, .int (nI a)), (2, .int 2)] → W p l e rm_co_twin2 s m args below meth c H locs 0 0 (zz_QI below g args s A rm_co_twin2.cells rm_co_twin2.slots (po_co_twin2 g mk ml st kd dp cl sa ln bt pn bf na nu pa pe mlf kdf dpf clf saf lnf btf n0 u0 Sf Lf Df kd0 cl0 bt0 a h_T h_O h_S h_a h_d h_m)) (F0 m 131 ls []) := by
      intro N
      induction N with
      | zero =>
        intro i na1 nu1 kd1 dp1 cl1 sa1 ln1 bt1 H locs ls hi h1 hS1 hE1 hO2 hm1 hm2 hTL hN
        exact absurd hN (Nat.not_lt_zero _)
      | succ N ih =>
        intro i na1 nu1 kd1 dp1 cl1 sa1 ln1 bt1 H locs ls hi h1 hS1 hE1 hO2 hm1 hm2 hTL hN hZ hl
        refine lv_iload hx hb dX3_twinAt_131 (lv_at hl 0 rfl) ?_
        refine lv_iload_n hx hb dX3_twinAt_133 rfl (lv_at hl 4 rfl) ?_
        have bd15 : (Lf a) < 2 ^ 31 := by omega
        have bd16 : i < 2 ^ 31 := by omega
        refine lv_icmp_ge (tgt := 194) hx hb dX3_twinAt_134 (by decide) (fun c14 => ?_) (fun c14 => ?_)
        · have nc14 : (Lf a) ≤ i := (nI_leI bd15 bd16).mp (show nI ((Lf a)) ≤ nI (i) from c14)
          refine lv_iload hx hb dX3_twinAt_194 (lv_at hl 3 rfl) ?_
          exact zz_iret hC hZ (⟨na1, nu1, kd1, dp1, cl1, sa1, ln1, bt1, rfl, hS1, by omega, hE1, by rw [hTL, show Lf a - i = 0 by omega, sp_tl], rfl⟩) (Nat.le_of_ble_eq_true rfl) (Nat.le_of_ble_eq_true rfl) dX3_twinAt_196
        · have nc14 : ¬ (Lf a) ≤ i := fun zq => c14 (show nI ((Lf a)) ≤ nI (i) from (nI_leI bd15 bd16).mpr zq)
          have hna1 := hS1.1
          have hnu1 := hS1.2.1
          obtain ⟨ho1, ho2, ho3, ho4, ho5⟩ := id hO2
          have hil : i < Lf a := by omega
          refine lv_aload_n hx hb dX3_twinAt_137 rfl (lv_at hl 5 rfl) ?_
          refine zz_get hC hZ 0 rfl zf_X3_15 rfl dX3_twinAt_138 ?_
          refine zz_get hC hZ 2 rfl zf_X3_33 rfl dX3_twinAt_141 ?_
          refine lv_iload hx hb dX3_twinAt_144 (lv_at hl 2 rfl) ?_
          refine lv_iload hx hb dX3_twinAt_146 (lv_at hl 0 rfl) ?_
          refine lv_iadd hx hb dX3_twinAt_148 ?_
          refine zz_topi (v := nI ((Sf a) + i)) (nI_add _ _) ?_
          have bd17 : ((Sf a) + i) < 4000 := by omega
          refine zz_laldn hC hZ 8 rfl bd17 (by decide) dX3_twinAt_149 ?_
          refine lv_l2i hx hb dX3_twinAt_150 rfl ?_
          rcases h_T.2.2.2 a h_a (by omega) i hil with hv | ⟨r, hr, hv, hdr⟩
          · refine zz_topi (v := -1) (by rw [ho5 _ (by omega), hv]; decide) ?_
            refine lv_istore (lv' := [(8, .int (-1)), (7, .int (nI i)), (6, .int (nI nu)), (5, .int (nI (Sf a))), (4, .int (nI na)), (3, .int (nI (Lf a))), (0, .ref mk), (1, .int (nI a)), (2, .int 2)]) hx hb dX3_twinAt_151 hl (by decide) rfl (fun ls hl => ?_)
            refine lv_aload_n hx hb dX3_twinAt_153 rfl (lv_at hl 6 rfl) ?_
            refine zz_get hC hZ 0 rfl zf_X3_15 rfl dX3_twinAt_154 ?_
            refine lv_iload hx hb dX3_twinAt_157 (lv_at hl 0 rfl) ?_
            refine zz_iV (As := [.int (-1)]) (wc := [cw_k5 st (nI na1) (nI nu1) kd dp cl sa ln bt pn bf]) (wr := [cw_k2 mk st ml pa pe, cw_i g ml 4 mlf, cw_i g kd 60 kd1, cw_i g dp 60 dp1, cw_i g cl 60 cl1, cw_i g sa 60 sa1, cw_i g ln 60 ln1, cw_l g bt 4000 bt1]) (rest := []) hC hZ hs hl zc_X3_57 (co_has g st kd dp cl sa ln bt pn bf (nI na1) (nI nu1) (-1)) [2] [0, 1, 3, 4, 5, 6, 7, 8] rfl rfl (by decide +kernel) (ci := 5) (q0 := 0) rfl rfl rfl rfl (Nat.le_of_ble_eq_true rfl) ⟨⟨Nat.le_of_ble_eq_true rfl, Nat.le_of_ble_eq_true rfl⟩, Nat.le_of_ble_eq_true rfl, Nat.le_of_ble_eq_true rfl⟩ dX3_twinAt_159 (fun r18 u19 H locs hp hZ => ?_)
            obtain ⟨rfl, rfl⟩ := hp
            have hZ : zz_Z g A s.heap [cw_k2 mk st ml pa pe, cw_i g ml 4 mlf, cw_i g kd 60 kd1, cw_i g dp 60 dp1, cw_i g cl 60 cl1, cw_i g sa 60 sa1, cw_i g ln 60 ln1, cw_l g bt 4000 bt1, cw_k5 st (nI na1) (nI nu1) kd dp cl sa ln bt pn bf] H locs := hZ
            refine lv_if_eq (tgt := 188) hx hb dX3_twinAt_162 (by decide) (fun c20 => ?_) (fun c => absurd (zl_hasN) c)
            refine lv_iinc (v := nI (i + 1)) (lv' := [(7, .int (nI (i + 1))), (8, .int (-1)), (6, .int (nI nu)), (5, .int (nI (Sf a))), (4, .int (nI na)), (3, .int (nI (Lf a))), (0, .ref mk), (1, .int (nI a)), (2, .int 2)]) hx hb dX3_twinAt_188 hl (k := 1) rfl (nI_1 _) (by decide) rfl (fun ls hl => ?_)
            refine lv_goto (tgt := 131) hx hb dX3_twinAt_191 (by decide) ?_
            have hr1 : zz_rr (fun _ => 1) (fun x i => bt0 (Sf x + i)) Lf (Df a) a i = zz_rr (fun _ => 1) (fun x i => bt0 (Sf x + i)) Lf (Df a) a (i + 1) := zz_rr_null (w := fun _ => 1) (rw := (fun x i => bt0 (Sf x + i))) hd2 hil hv
            have hrL : zz_rr Lf (fun x i => bt0 (Sf x + i)) Lf (Df a) a i = zz_rr Lf (fun x i => bt0 (Sf x + i)) Lf (Df a) a (i + 1) := zz_rr_null (w := Lf) (rw := (fun x i => bt0 (Sf x + i))) hd2 hil hv
            exact ih (i + 1) na1 nu1 kd1 dp1 cl1 sa1 ln1 bt1 H locs ls (by omega) (by omega) (hS1) (hE1) (hO2) (by omega) (by omega) (by rw [hTL, show Lf a - i = (Lf a - (i + 1)) + 1 by omega, sp_tl, if_pos hv]) (by omega) (hZ.sub [0, 1, 8, 2, 3, 4, 5, 6, 7] (by decide +kernel) rfl) (lv_sub hl [0, 2, 3, 4, 5, 6, 7, 8] rfl)
          · refine zz_topi (v := nI r) (by rw [ho5 _ (by omega), hv]; exact lN_i r) ?_
            refine lv_istore (lv' := [(8, .int (nI r)), (7, .int (nI i)), (6, .int (nI nu)), (5, .int (nI (Sf a))), (4, .int (nI na)), (3, .int (nI (Lf a))), (0, .ref mk), (1, .int (nI a)), (2, .int 2)]) hx hb dX3_twinAt_151 hl (by decide) rfl (fun ls hl => ?_)
            refine lv_aload_n hx hb dX3_twinAt_153 rfl (lv_at hl 6 rfl) ?_
            refine zz_get hC hZ 0 rfl zf_X3_15 rfl dX3_twinAt_154 ?_
            refine lv_iload hx hb dX3_twinAt_157 (lv_at hl 0 rfl) ?_
            refine zz_iV (As := [.int (nI r)]) (wc := [cw_k5 st (nI na1) (nI nu1) kd dp cl sa ln bt pn bf]) (wr := [cw_k2 mk st ml pa pe, cw_i g ml 4 mlf, cw_i g kd 60 kd1, cw_i g dp 60 dp1, cw_i g cl 60 cl1, cw_i g sa 60 sa1, cw_i g ln 60 ln1, cw_l g bt 4000 bt1]) (rest := []) hC hZ hs hl zc_X3_57 (co_has g st kd dp cl sa ln bt pn bf (nI na1) (nI nu1) (nI r)) [2] [0, 1, 3, 4, 5, 6, 7, 8] rfl rfl (by decide +kernel) (ci := 5) (q0 := 0) rfl rfl rfl rfl (Nat.le_of_ble_eq_true rfl) ⟨⟨Nat.le_of_ble_eq_true rfl, Nat.le_of_ble_eq_true rfl⟩, Nat.le_of_ble_eq_true rfl, Nat.le_of_ble_eq_true rfl⟩ dX3_twinAt_159 (fun r21 u22 H locs hp hZ => ?_)
            obtain ⟨rfl, rfl⟩ := hp
            have hZ : zz_Z g A s.heap [cw_k2 mk st ml pa pe, cw_i g ml 4 mlf, cw_i g kd 60 kd1, cw_i g dp 60 dp1, cw_i g cl 60 cl1, cw_i g sa 60 sa1, cw_i g ln 60 ln1, cw_l g bt 4000 bt1, cw_k5 st (nI na1) (nI nu1) kd dp cl sa ln bt pn bf] H locs := hZ
            refine lv_if_eq (tgt := 188) hx hb dX3_twinAt_162 (by decide) (fun c => absurd c (zl_hasY (by omega) (by omega))) (fun c23 => ?_)
            refine lv_aload_n hx hb dX3_twinAt_165 rfl (lv_at hl 6 rfl) ?_
            refine zz_get hC hZ 0 rfl zf_X3_15 rfl dX3_twinAt_166 ?_
            refine zz_get hC hZ 8 rfl zf_X3_33 rfl dX3_twinAt_169 ?_
            refine lv_iload hx hb dX3_twinAt_172 (lv_at hl 2 rfl) ?_
            refine lv_iload hx hb dX3_twinAt_174 (lv_at hl 1 rfl) ?_
            refine lv_iadd hx hb dX3_twinAt_176 ?_
            refine zz_topi (v := nI (nu + i)) (nI_add _ _) ?_
            refine lv_aload_n hx hb dX3_twinAt_177 rfl (lv_at hl 6 rfl) ?_
            refine lv_iload hx hb dX3_twinAt_178 (lv_at hl 0 rfl) ?_
            refine lv_iload_n hx hb dX3_twinAt_180 rfl (lv_at hl 8 rfl) ?_
            refine lv_iconst (v := 1) hx hb dX3_twinAt_181 (by decide) ?_
            refine lv_iadd hx hb dX3_twinAt_182 ?_
            refine zz_topi (v := 3) (by decide) ?_
            have hr1 := zz_rr_row (w := fun _ => 1) (rw := (fun x i => bt0 (Sf x + i))) (Lf := Lf) (f := Df a) (x := a) (k := i) (r := r) hd2 hil hv (by omega)
            have hq1 : zz_ct (fun _ => 1) (fun x i => bt0 (Sf x + i)) Lf (Df r) r = 1 + zz_rr (fun _ => 1) (fun x i => bt0 (Sf x + i)) Lf (Df r) r 0 := zz_ct_rm (w := fun _ => 1) (by omega)
            rw [show Df a - 1 = Df r by omega] at hr1
            have hr1 : zz_rr (fun _ => 1) (fun x i => bt0 (Sf x + i)) Lf (Df a) a i = 1 + zz_rr (fun _ => 1) (fun x i => bt0 (Sf x + i)) Lf (Df r) r 0 + zz_rr (fun _ => 1) (fun x i => bt0 (Sf x + i)) Lf (Df a) a (i + 1) := hr1
            have hrL := zz_rr_row (w := Lf) (rw := (fun x i => bt0 (Sf x + i))) (Lf := Lf) (f := Df a) (x := a) (k := i) (r := r) hd2 hil hv (by omega)
            have hqL : zz_ct Lf (fun x i => bt0 (Sf x + i)) Lf (Df r) r = Lf r + zz_rr Lf (fun x i => bt0 (Sf x + i)) Lf (Df r) r 0 := zz_ct_rm (w := Lf) (by omega)
            rw [show Df a - 1 = Df r by omega] at hrL
            refine zz_iV (As := [.int (nI r), .int 3]) (wc := [cw_k2 mk st ml pa pe, cw_i g ml 4 mlf, cw_k5 st (nI na1) (nI nu1) kd dp cl sa ln bt pn bf, cw_i g kd 60 kd1, cw_i g dp 60 dp1, cw_i g cl 60 cl1, cw_i g sa 60 sa1, cw_i g ln 60 ln1, cw_l g bt 4000 bt1]) (wr := []) (rest := [.int (nI (nu + i)), .ref bt]) hC hZ hs hl zc_X3_61 (co_twin3 g mk ml st kd dp cl sa ln bt pn bf na1 nu1 pa pe mlf kd1 dp1 cl1 sa1 ln1 bt1 n0 u0 Sf Lf Df kd0 cl0 bt0 r (h_T) (hO2) (hS1) (by omega) (by omega) (by omega)) [0, 1, 8, 2, 3, 4, 5, 6, 7] [] rfl rfl (by decide +kernel) (ci := 2) (q0 := 0) rfl rfl rfl rfl (Nat.le_of_ble_eq_true rfl) ⟨⟨Nat.le_of_ble_eq_true rfl, Nat.le_of_ble_eq_true rfl⟩, Nat.le_of_ble_eq_true rfl, Nat.le_of_ble_eq_true rfl⟩ dX3_twinAt_183 (fun r24 u25 H locs hp hZ => ?_)
            obtain ⟨na2_26, nu2_27, kd2_28, dp2_29, cl2_30, sa2_31, ln2_32, bt2_33, rfl, f34, f35, f36, f37, rfl⟩ := hp
            have hZ : zz_Z g A s.heap [cw_k2 mk st ml pa pe, cw_i g ml 4 mlf, cw_k5 st (nI na2_26) (nI nu2_27) kd dp cl sa ln bt pn bf, cw_i g kd 60 kd2_28, cw_i g dp 60 dp2_29, cw_i g cl 60 cl2_30, cw_i g sa 60 sa2_31, cw_i g ln 60 ln2_32, cw_l g bt 4000 bt2_33] H locs := hZ
            refine lv_i2l hx hb dX3_twinAt_186 rfl ?_
            have bd38 : (nu + i) < 4000 := by omega
            refine zz_lastn hC hZ 8 rfl bd38 (by decide) dX3_twinAt_187 (fun H locs hZ => ?_)
            have hZ : zz_Z g A s.heap [cw_k2 mk st ml pa pe, cw_i g ml 4 mlf, cw_k5 st (nI na2_26) (nI nu2_27) kd dp cl sa ln bt pn bf, cw_i g kd 60 kd2_28, cw_i g dp 60 dp2_29, cw_i g cl 60 cl2_30, cw_i g sa 60 sa2_31, cw_i g ln 60 ln2_32, cw_l g bt 4000 (vp_updL bt2_33 (nu + i) ((nI na1).toInt64))] H locs := hZ
            refine lv_iinc (v := nI (i + 1)) (lv' := [(7, .int (nI (i + 1))), (8, .int (nI r)), (6, .int (nI nu)), (5, .int (nI (Sf a))), (4, .int (nI na)), (3, .int (nI (Lf a))), (0, .ref mk), (1, .int (nI a)), (2, .int 2)]) hx hb dX3_twinAt_188 hl (k := 1) rfl (nI_1 _) (by decide) rfl (fun ls hl => ?_)
            refine lv_goto (tgt := 131) hx hb dX3_twinAt_191 (by decide) ?_
            have htn := sp_tw_n kd0 cl0 Sf Lf (fun x i => bt0 (Sf x + i)) (Df r) r (na1, nu1, kd1, dp1, cl1, sa1, ln1, bt1)
            have htk := sp_tw_k kd0 cl0 Sf Lf (fun x i => bt0 (Sf x + i)) n0 u0 (Df r) r (na1, nu1, kd1, dp1, cl1, sa1, ln1, bt1) (by show n0 ≤ na1; omega) (by show u0 ≤ nu1; omega)
            rw [← f37] at htn htk
            have htn1 : na2_26 = na1 + zz_ct (fun _ => 1) (fun x i => bt0 (Sf x + i)) Lf (Df r) r := htn.1
            have htn2 : nu2_27 = nu1 + zz_ct Lf (fun x i => bt0 (Sf x + i)) Lf (Df r) r := htn.2
            exact ih (i + 1) na2_26 nu2_27 kd2_28 dp2_29 cl2_30 sa2_31 ln2_32 (vp_updL bt2_33 (nu + i) ((nI na1).toInt64)) H locs ls (by omega) (by omega) (f34) (hE1.tr (by omega) f36) (hO2.kp (by omega) (by omega) f36 (htk.tr (zz_KP.set (by omega)))) (by omega) (by omega) (by rw [hTL, show Lf a - i = (Lf a - (i + 1)) + 1 by omega, sp_tl, if_neg (show ¬ bt0 (Sf a + i) = -1 by rw [hv]; exact zl_lnn r), show f0 + 1 = Df r by omega, show ((fun x i => bt0 (Sf x + i)) a i).toInt.toNat = r from (congrArg (fun z => (Int64.toInt z).toNat) hv).trans (zl_lnr (by omega)), ← f37, nI_l (show na1 < 2 ^ 31 by omega)]; rfl) (by omega) hZ (lv_sub hl [0, 2, 3, 4, 5, 6, 7, 8] rfl)
    exact LP13 _ 0 (na + 1) (nu + (Lf a)) (upd kdf na (kdf a)) (upd dpf na (nI (Df a))) (upd clf na (clf a)) (upd saf na (nI nu)) (upd lnf na (nI (Lf a))) bt2_8 H locs ls (by omega) (by omega) (hSA) (zz_EX.up) (hO1) (by omega) (by omega) (by rw [hAD, ef0, sp_tw]; rfl) (Nat.lt_succ_self _) hZ (lv_sub hl [0, 1, 2, 3, 4, 5, 6, 7] rfl)
  · have nc11 : (Df a) = 1 := (nI_eq bd12 (by decide)).mp (show nI ((Df a)) = nI (1) from c11)
    refine lv_aload_n hx hb dX3_twinAt_103 rfl (lv_at hl 4 rfl) ?_
    refine zz_get hC hZ 0 rfl zf_X3_15 rfl dX3_twinAt_104 ?_
    refine zz_get hC hZ 2 rfl zf_X3_33 rfl dX3_twinAt_107 ?_
    refine lv_iload hx hb dX3_twinAt_110 (lv_at hl 1 rfl) ?_
    refine lv_aload_n hx hb dX3_twinAt_112 rfl (lv_at hl 4 rfl) ?_
    refine zz_get hC hZ 0 rfl zf_X3_15 rfl dX3_twinAt_113 ?_
    refine zz_get hC hZ 2 rfl zf_X3_33 rfl dX3_twinAt_116 ?_
    refine lv_iload hx hb dX3_twinAt_119 (lv_at hl 0 rfl) ?_
    refine lv_iload_n hx hb dX3_twinAt_121 rfl (lv_at hl 3 rfl) ?_
    refine zz_copyl (x := (Sf a)) (y := nu) (n := (Lf a)) hC hZ hl zk_468 zk_439 zk_438 zk_9 8 8 rfl rfl (by omega) (by omega) (by omega) (Nat.le_of_ble_eq_true rfl) (by decide) dX3_twinAt_122 (fun H locs hZ => ?_)
    have hZ : zz_Z g A s.heap [cw_k2 mk st ml pa pe, cw_i g ml 4 mlf, cw_k5 st (nI (na + 1)) (nI (nu + (Lf a))) kd dp cl sa ln bt pn bf, cw_i g kd 60 (upd kdf na (kdf a)), cw_i g dp 60 (upd dpf na (nI (Df a))), cw_i g cl 60 (upd clf na (clf a)), cw_i g sa 60 (upd saf na (nI nu)), cw_i g ln 60 (upd lnf na (nI (Lf a))), cw_l g bt 4000 (va_cpy bt2_8 bt2_8 (Sf a) nu (Lf a))] H locs := hZ
    refine lv_iload hx hb dX3_twinAt_125 (lv_at hl 2 rfl) ?_
    exact zz_iret hC hZ (⟨(na + 1), (nu + (Lf a)), (upd kdf na (kdf a)), (upd dpf na (nI (Df a))), (upd clf na (clf a)), (upd saf na (nI nu)), (upd lnf na (nI (Lf a))), (va_cpy bt2_8 bt2_8 (Sf a) nu (Lf a)), rfl, hSA, by omega, zz_EX.up, zl_tw1 (by omega) hAD, rfl⟩) (Nat.le_of_ble_eq_true rfl) (Nat.le_of_ble_eq_true rfl) dX3_twinAt_127
abbrev rm_co_twin1 : Room := { frames := 4, cells := 0, slots := 0, locals := 144 }
abbrev po_co_twin1 (g : zz_G) (mk : Nat) (ml : Nat) (st : Nat) (kd : Nat) (dp : Nat) (cl : Nat) (sa : Nat) (ln : Nat) (bt : Nat) (pn : Nat) (bf : Nat) (na : Nat) (nu : Nat) (pa : Int32) (pe : Int32) (mlf : Nat → Int32) (kdf : Nat → Int32) (dpf : Nat → Int32) (clf : Nat → Int32) (saf : Nat → Int32) (lnf : Nat → Int32) (btf : Nat → Int64) (n0 : Nat) (u0 : Nat) (Sf : Nat → Nat) (Lf : Nat → Nat) (Df : Nat → Nat) (kd0 : Nat → Int32) (cl0 : Nat → Int32) (bt0 : Nat → Int64) (a : Nat) (h_T : zz_TR n0 u0 Sf Lf Df bt0) (h_O : zz_OR n0 u0 na nu Sf Lf Df kd0 cl0 bt0 kdf dpf clf saf lnf btf) (h_S : zz_SI na nu dpf saf lnf) (h_a : a < n0) (h_d : Df a + 1 ≤ 5) (h_m : na + zz_ct (fun _ => 1) (fun x i => bt0 (Sf x + i)) Lf (Df a) a ≤ 60 ∧ nu + zz_ct Lf (fun x i => bt0 (Sf x + i)) Lf (Df a) a ≤ 4000) : Int32 → va_W → Prop := fun (r : Int32) (u : va_W) => ∃ (na2 : Nat) (nu2 : Nat) (kd2 : Nat → Int32) (dp2 : Nat → Int32) (cl2 : Nat → Int32) (sa2 : Nat → Int32) (ln2 : Nat → Int32) (bt2 : Nat → Int64), r = nI na ∧ (zz_SI na2 nu2 dp2 sa2 ln2) ∧ (na ≤ na2) ∧ (zz_EX na dpf saf lnf dp2 sa2 ln2) ∧ ((na2, nu2, kd2, dp2, cl2, sa2, ln2, bt2) = sp_tw kd0 cl0 Sf Lf (fun x i => bt0 (Sf x + i)) (Df a) a (na, nu, kdf, dpf, clf, saf, lnf, btf)) ∧ u = [cw_k2 mk st ml pa pe, cw_i g ml 4 mlf, cw_k5 st (nI na2) (nI nu2) kd dp cl sa ln bt pn bf, cw_i g kd 60 kd2, cw_i g dp 60 dp2, cw_i g cl 60 cl2, cw_i g sa 60 sa2, cw_i g ln 60 ln2, cw_l g bt 4000 bt2]
set_option maxHeartbeats 4000000 in
set_option maxRecDepth 100000 in
theorem co_twin1 (g : zz_G) (mk : Nat) (ml : Nat) (st : Nat) (kd : Nat) (dp : Nat) (cl : Nat) (sa : Nat) (ln : Nat) (bt : Nat) (pn : Nat) (bf : Nat) (na : Nat) (nu : Nat) (pa : Int32) (pe : Int32) (mlf : Nat → Int32) (kdf : Nat → Int32) (dpf : Nat → Int32) (clf : Nat → Int32) (saf : Nat → Int32) (lnf : Nat → Int32) (btf : Nat → Int64) (n0 : Nat) (u0 : Nat) (Sf : Nat → Nat) (Lf : Nat → Nat) (Df : Nat → Nat) (kd0 : Nat → Int32) (cl0 : Nat → Int32) (bt0 : Nat → Int64) (a : Nat) (h_T : zz_TR n0 u0 Sf Lf Df bt0) (h_O : zz_OR n0 u0 na nu Sf Lf Df kd0 cl0 bt0 kdf dpf clf saf lnf btf) (h_S : zz_SI na nu dpf saf lnf) (h_a : a < n0) (h_d : Df a + 1 ≤ 5) (h_m : na + zz_ct (fun _ => 1) (fun x i => bt0 (Sf x + i)) Lf (Df a) a ≤ 60 ∧ nu + zz_ct Lf (fun x i => bt0 (Sf x + i)) Lf (Df a) a ≤ 4000) : zz_I g yX3_twinAt (.code yX3_twinAt cX3_twinAt 9 (some .int)) rm_co_twin1 [.ref mk, .int (nI a), .int 1] [cw_k2 mk st ml pa pe, cw_i g ml 4 mlf, cw_k5 st (nI na) (nI nu) kd dp cl sa ln bt pn bf, cw_i g kd 60 kdf, cw_i g dp 60 dpf, cw_i g cl 60 clf, cw_i g sa 60 saf, cw_i g ln 60 lnf, cw_l g bt 4000 btf] (po_co_twin1 g mk ml st kd dp cl sa ln bt pn bf na nu pa pe mlf kdf dpf clf saf lnf btf n0 u0 Sf Lf Df kd0 cl0 bt0 a h_T h_O h_S h_a h_d h_m) := by
  refine zz_I.intro (own := RX3) (cc := cX3_twinAt) (nL := 9) (by decide) rfl (Nat.le_of_ble_eq_true rfl) ?_
  intro p l e s m args below meth c A H locs ls hC hnm hs hZ hl
  obtain ⟨hx, hb, hml, hown, hts, hr, hlocks, hK⟩ := id hC
  have hl : lv_has ls 9 [(0, .ref mk), (1, .int (nI a)), (2, .int 1)] := hl
  have hZ : zz_Z g A s.heap [cw_k2 mk st ml pa pe, cw_i g ml 4 mlf, cw_k5 st (nI na) (nI nu) kd dp cl sa ln bt pn bf, cw_i g kd 60 kdf, cw_i g dp 60 dpf, cw_i g cl 60 clf, cw_i g sa 60 saf, cw_i g ln 60 lnf, cw_l g bt 4000 btf] H locs := hZ
  have hna := h_S.1
  have hnu := h_S.2.1
  have hn0 := h_O.1
  have hu0 := h_O.2.1
  obtain ⟨ya1, ya2, ya3⟩ := h_O.2.2.1 a h_a
  obtain ⟨yk1, yk2⟩ := h_O.2.2.2.1 a h_a
  obtain ⟨g1, g2, g3, g4⟩ := h_T.2.2.1 a h_a
  have hcc1 : zz_ct (fun _ => 1) (fun x i => bt0 (Sf x + i)) Lf (Df a) a = 1 + zz_rr (fun _ => 1) (fun x i => bt0 (Sf x + i)) Lf (Df a) a 0 := zz_ct_rm (w := fun _ => 1) (by omega)
  have hccL : zz_ct Lf (fun x i => bt0 (Sf x + i)) Lf (Df a) a = Lf a + zz_rr Lf (fun x i => bt0 (Sf x + i)) Lf (Df a) a 0 := zz_ct_rm (w := Lf) (by omega)
  refine lv_aload_n hx hb dX3_twinAt_0 rfl (lv_at hl 0 rfl) ?_
  refine zz_get hC hZ 0 rfl zf_X3_15 rfl dX3_twinAt_1 ?_
  refine zz_get hC hZ 2 rfl zf_X3_51 rfl dX3_twinAt_4 ?_
  refine lv_iload_n hx hb dX3_twinAt_7 rfl (lv_at hl 1 rfl) ?_
  have bd1 : a < 60 := by omega
  refine zz_ialdn hC hZ 7 rfl bd1 (by decide) dX3_twinAt_8 ?_
  refine zz_topi (v := nI (Lf a)) (ya2) ?_
  refine lv_istore_n (lv' := [(3, .int (nI (Lf a))), (0, .ref mk), (1, .int (nI a)), (2, .int 1)]) hx hb dX3_twinAt_9 rfl hl (by decide) rfl (fun ls hl => ?_)
  refine lv_iload_n hx hb dX3_twinAt_10 rfl (lv_at hl 3 rfl) ?_
  refine lv_iconst (v := 4) hx hb dX3_twinAt_11 (by decide) ?_
  refine lv_icmp_gt (tgt := 28) hx hb dX3_twinAt_12 (by decide) (fun c => absurd c (by decide)) (fun c2 => ?_)
  refine lv_aload_n hx hb dX3_twinAt_15 rfl (lv_at hl 1 rfl) ?_
  refine zz_get hC hZ 0 rfl zf_X3_15 rfl dX3_twinAt_16 ?_
  refine lv_lconst (v := 1) hx hb dX3_twinAt_19 (by decide) ?_
  refine lv_iload_n hx hb dX3_twinAt_20 rfl (lv_at hl 0 rfl) ?_
  refine lv_i2l hx hb dX3_twinAt_21 rfl ?_
  refine zz_iV (As := [.long 1, .long ((nI (Lf a)).toInt64)]) (wc := [cw_k5 st (nI na) (nI nu) kd dp cl sa ln bt pn bf]) (wr := [cw_k2 mk st ml pa pe, cw_i g ml 4 mlf, cw_i g kd 60 kdf, cw_i g dp 60 dpf, cw_i g cl 60 clf, cw_i g sa 60 saf, cw_i g ln 60 lnf, cw_l g bt 4000 btf]) (rest := []) hC hZ hs hl zc_X3_19 (co_fits g st kd dp cl sa ln bt pn bf (nI na) (nI nu) 1 ((nI (Lf a)).toInt64)) [2] [0, 1, 3, 4, 5, 6, 7, 8] rfl rfl (by decide +kernel) (ci := 5) (q0 := 0) rfl rfl rfl rfl (Nat.le_of_ble_eq_true rfl) ⟨⟨Nat.le_of_ble_eq_true rfl, Nat.le_of_ble_eq_true rfl⟩, Nat.le_of_ble_eq_true rfl, Nat.le_of_ble_eq_true rfl⟩ dX3_twinAt_22 (fun r3 u4 H locs hp hZ => ?_)
  obtain ⟨rfl, rfl⟩ := hp
  have hZ : zz_Z g A s.heap [cw_k2 mk st ml pa pe, cw_i g ml 4 mlf, cw_i g kd 60 kdf, cw_i g dp 60 dpf, cw_i g cl 60 clf, cw_i g sa 60 saf, cw_i g ln 60 lnf, cw_l g bt 4000 btf, cw_k5 st (nI na) (nI nu) kd dp cl sa ln bt pn bf] H locs := hZ
  refine lv_if_ne (tgt := 30) hx hb dX3_twinAt_25 (by decide) (fun c5 => ?_) (fun c => absurd c (zl_fitN (by omega) (by omega)))
  refine lv_aload_n hx hb dX3_twinAt_30 rfl (lv_at hl 1 rfl) ?_
  refine zz_get hC hZ 0 rfl zf_X3_15 rfl dX3_twinAt_31 ?_
  refine lv_aload_n hx hb dX3_twinAt_34 rfl (lv_at hl 1 rfl) ?_
  refine zz_get hC hZ 0 rfl zf_X3_15 rfl dX3_twinAt_35 ?_
  refine zz_get hC hZ 8 rfl zf_X3_65 rfl dX3_twinAt_38 ?_
  refine lv_iload_n hx hb dX3_twinAt_41 rfl (lv_at hl 2 rfl) ?_
  refine zz_ialdn hC hZ 2 rfl bd1 (by decide) dX3_twinAt_42 ?_
  refine lv_aload_n hx hb dX3_twinAt_43 rfl (lv_at hl 1 rfl) ?_
  refine zz_get hC hZ 0 rfl zf_X3_15 rfl dX3_twinAt_44 ?_
  refine zz_get hC hZ 8 rfl zf_X3_54 rfl dX3_twinAt_47 ?_
  refine lv_iload_n hx hb dX3_twinAt_50 rfl (lv_at hl 2 rfl) ?_
  refine zz_ialdn hC hZ 3 rfl bd1 (by decide) dX3_twinAt_51 ?_
  refine zz_topi (v := nI (Df a)) (ya3) ?_
  refine lv_aload_n hx hb dX3_twinAt_52 rfl (lv_at hl 1 rfl) ?_
  refine zz_get hC hZ 0 rfl zf_X3_15 rfl dX3_twinAt_53 ?_
  refine zz_get hC hZ 8 rfl zf_X3_68 rfl dX3_twinAt_56 ?_
  refine lv_iload_n hx hb dX3_twinAt_59 rfl (lv_at hl 2 rfl) ?_
  refine zz_ialdn hC hZ 4 rfl bd1 (by decide) dX3_twinAt_60 ?_
  refine lv_iload_n hx hb dX3_twinAt_61 rfl (lv_at hl 0 rfl) ?_
  refine zz_iV (As := [.int (kdf a), .int (nI (Df a)), .int (clf a), .int (nI (Lf a))]) (wc := [cw_k5 st (nI na) (nI nu) kd dp cl sa ln bt pn bf, cw_i g kd 60 kdf, cw_i g dp 60 dpf, cw_i g cl 60 clf, cw_i g sa 60 saf, cw_i g ln 60 lnf, cw_l g bt 4000 btf]) (wr := [cw_k2 mk st ml pa pe, cw_i g ml 4 mlf]) (rest := []) hC hZ hs hl zc_X3_29 (co_add g st kd dp cl sa ln bt pn bf na nu (Lf a) kdf dpf clf saf lnf btf (kdf a) (nI (Df a)) (clf a) (by omega) (by omega)) [8, 2, 3, 4, 5, 6, 7] [0, 1] rfl rfl (by decide +kernel) (ci := 5) (q0 := 0) rfl rfl rfl rfl (Nat.le_of_ble_eq_true rfl) ⟨⟨Nat.le_of_ble_eq_true rfl, Nat.le_of_ble_eq_true rfl⟩, Nat.le_of_ble_eq_true rfl, Nat.le_of_ble_eq_true rfl⟩ dX3_twinAt_62 (fun r6 u7 H locs hp hZ => ?_)
  obtain ⟨bt2_8, rfl, f9, rfl⟩ := hp
  have hZ : zz_Z g A s.heap [cw_k2 mk st ml pa pe, cw_i g ml 4 mlf, cw_k5 st (nI (na + 1)) (nI (nu + (Lf a))) kd dp cl sa ln bt pn bf, cw_i g kd 60 (upd kdf na (kdf a)), cw_i g dp 60 (upd dpf na (nI (Df a))), cw_i g cl 60 (upd clf na (clf a)), cw_i g sa 60 (upd saf na (nI nu)), cw_i g ln 60 (upd lnf na (nI (Lf a))), cw_l g bt 4000 bt2_8] H locs := hZ
  have hSA := zz_SI_add h_S (by omega) (by omega) g1 ⟨g3, g4⟩
  have hAD : (na + 1, nu + Lf a, upd kdf na (kdf a), upd dpf na (nI (Df a)), upd clf na (clf a), upd saf na (nI nu), upd lnf na (nI (Lf a)), bt2_8) = sp_add (kd0 a) (nI (Df a)) (cl0 a) (Lf a) (na, nu, kdf, dpf, clf, saf, lnf, btf) := by rw [f9, yk1, yk2]; rfl
  have hO1 := h_O.kp (na2 := na + 1) (nu2 := nu + Lf a) (kd2 := upd kdf na (kdf a)) (cl2 := upd clf na (clf a)) (bt2 := bt2_8) (by omega) (by omega) (zz_EX.up (d := nI (Df a)) (x := nI nu) (y := nI (Lf a))) (by rw [hAD]; exact zz_KP.add h_O.1 h_O.2.1)
  refine lv_istore (lv' := [(4, .int (nI na)), (3, .int (nI (Lf a))), (0, .ref mk), (1, .int (nI a)), (2, .int 1)]) hx hb dX3_twinAt_65 hl (by decide) rfl (fun ls hl => ?_)
  refine lv_aload_n hx hb dX3_twinAt_67 rfl (lv_at hl 2 rfl) ?_
  refine zz_get hC hZ 0 rfl zf_X3_15 rfl dX3_twinAt_68 ?_
  refine zz_get hC hZ 2 rfl zf_X3_37 rfl dX3_twinAt_71 ?_
  refine lv_iload_n hx hb dX3_twinAt_74 rfl (lv_at hl 3 rfl) ?_
  refine zz_ialdn hC hZ 6 rfl bd1 (by decide) dX3_twinAt_75 ?_
  refine zz_topi (v := nI (Sf a)) ((pk_un (by omega)).trans ya1) ?_
  refine lv_istore (lv' := [(5, .int (nI (Sf a))), (4, .int (nI na)), (3, .int (nI (Lf a))), (0, .ref mk), (1, .int (nI a)), (2, .int 1)]) hx hb dX3_twinAt_76 hl (by decide) rfl (fun ls hl => ?_)
  refine lv_aload_n hx hb dX3_twinAt_78 rfl (lv_at hl 3 rfl) ?_
  refine zz_get hC hZ 0 rfl zf_X3_15 rfl dX3_twinAt_79 ?_
  refine zz_get hC hZ 2 rfl zf_X3_37 rfl dX3_twinAt_82 ?_
  refine lv_iload hx hb dX3_twinAt_85 (lv_at hl 1 rfl) ?_
  have bd10 : na < 60 := by omega
  refine zz_ialdn hC hZ 6 rfl bd10 (by decide) dX3_twinAt_87 ?_
  refine zz_topi (v := nI nu) (pk_us) ?_
  refine lv_istore (lv' := [(6, .int (nI nu)), (5, .int (nI (Sf a))), (4, .int (nI na)), (3, .int (nI (Lf a))), (0, .ref mk), (1, .int (nI a)), (2, .int 1)]) hx hb dX3_twinAt_88 hl (by decide) rfl (fun ls hl => ?_)
  refine lv_aload_n hx hb dX3_twinAt_90 rfl (lv_at hl 4 rfl) ?_
  refine zz_get hC hZ 0 rfl zf_X3_15 rfl dX3_twinAt_91 ?_
  refine zz_get hC hZ 2 rfl zf_X3_54 rfl dX3_twinAt_94 ?_
  refine lv_iload_n hx hb dX3_twinAt_97 rfl (lv_at hl 5 rfl) ?_
  refine zz_ialdn hC hZ 4 rfl bd1 (by decide) dX3_twinAt_98 ?_
  refine zz_topi (v := nI (Df a)) ((pk_un (by omega)).trans ya3) ?_
  refine lv_iconst (v := 1) hx hb dX3_twinAt_99 (by decide) ?_
  have bd12 : (Df a) < 2 ^ 31 := by omega
  refine lv_icmp_ne (tgt := 128) hx hb dX3_twinAt_100 (by decide) (fun c11 => ?_) (fun c11 => ?_)
  · have nc11 : ¬ (Df a) = 1 := fun zq => c11 (show nI ((Df a)) = nI (1) from (nI_eq bd12 (by decide)).mpr zq)
    refine lv_iconst (v := 0) hx hb dX3_twinAt_128 (by decide) ?_
    refine lv_istore (lv' := [(7, .int 0), (6, .int (nI nu)), (5, .int (nI (Sf a))), (4, .int (nI na)), (3, .int (nI (Lf a))), (0, .ref mk), (1, .int (nI a)), (2, .int 1)]) hx hb dX3_twinAt_129 hl (by decide) rfl (fun ls hl => ?_)
    have hd2 : 2 ≤ Df a := by omega
    have hc1 : zz_ct (fun _ => 1) (fun x i => bt0 (Sf x + i)) Lf (Df a) a = 1 + zz_rr (fun _ => 1) (fun x i => bt0 (Sf x + i)) Lf (Df a) a 0 := zz_ct_rm (w := fun _ => 1) (by omega)
    have hcL : zz_ct Lf (fun x i => bt0 (Sf x + i)) Lf (Df a) a = Lf a + zz_rr Lf (fun x i => bt0 (Sf x + i)) Lf (Df a) a 0 := zz_ct_rm (w := Lf) (by omega)
    obtain ⟨f0, ef0⟩ : ∃ f0, Df a = f0 + 2 := ⟨Df a - 2, by omega⟩
    have LP13 : ∀ (N : Nat) (i : Nat) (na1 : Nat) (nu1 : Nat) (kd1 : Nat → Int32) (dp1 : Nat → Int32) (cl1 : Nat → Int32) (sa1 : Nat → Int32) (ln1 : Nat → Int32) (bt1 : Nat → Int64) (H : Heap) (locs : List Loc) (ls : Array Slot), (i ≤ Lf a) → (na < na1 ∧ nu + Lf a ≤ nu1) → (zz_SI na1 nu1 dp1 sa1 ln1) → (zz_EX na dpf saf lnf dp1 sa1 ln1) → (zz_OR n0 u0 na1 nu1 Sf Lf Df kd0 cl0 bt0 kd1 dp1 cl1 sa1 ln1 bt1) → (na1 + zz_rr (fun _ => 1) (fun x i => bt0 (Sf x + i)) Lf (Df a) a i ≤ 60) → (nu1 + zz_rr Lf (fun x i => bt0 (Sf x + i)) Lf (Df a) a i ≤ 4000) → (sp_tw kd0 cl0 Sf Lf (fun x i => bt0 (Sf x + i)) (Df a) a (na, nu, kdf, dpf, clf, saf, lnf, btf) = sp_tl (sp_tw kd0 cl0 Sf Lf (fun x i => bt0 (Sf x + i)) (f0 + 1)) ((fun x i => bt0 (Sf x + i)) a) nu (Lf a - i) i (na1, nu1, kd1, dp1, cl1, sa1, ln1, bt1)) → (Lf a - i) < N → zz_Z g A s.heap [cw_k2 mk st ml pa pe, cw_i g ml 4 mlf, cw_k5 st (nI na1) (nI nu1) kd dp cl sa ln bt pn bf, cw_i g kd 60 kd1, cw_i g dp 60 dp1, cw_i g cl 60 cl1, cw_i g sa 60 sa1, cw_i g ln 60 ln1, cw_l g bt 4000 bt1] H locs → lv_has ls 9 [(7, .int (nI i)), (6, .int (nI nu)), (5, .int (nI (Sf a))), (4, .int (nI na)), (3, .int (nI (Lf a))), (0, .ref mk), (1, .int (nI a)), (2, .int 1)] → W p l e rm_co_twin1 s m args below meth c H locs 0 0 (zz_QI below g args s A rm_co_twin1.cells rm_co_twin1.slots (po_co_twin1 g mk ml st kd dp cl sa ln bt pn bf na nu pa pe mlf kdf dpf clf saf lnf btf n0 u0 Sf Lf Df kd0 cl0 bt0 a h_T h_O h_S h_a h_d h_m)) (F0 m 131 ls []) := by
      intro N
      induction N with
      | zero =>
        intro i na1 nu1 kd1 dp1 cl1 sa1 ln1 bt1 H locs ls hi h1 hS1 hE1 hO2 hm1 hm2 hTL hN
        exact absurd hN (Nat.not_lt_zero _)
      | succ N ih =>
        intro i na1 nu1 kd1 dp1 cl1 sa1 ln1 bt1 H locs ls hi h1 hS1 hE1 hO2 hm1 hm2 hTL hN hZ hl
        refine lv_iload hx hb dX3_twinAt_131 (lv_at hl 0 rfl) ?_
        refine lv_iload_n hx hb dX3_twinAt_133 rfl (lv_at hl 4 rfl) ?_
        have bd15 : (Lf a) < 2 ^ 31 := by omega
        have bd16 : i < 2 ^ 31 := by omega
        refine lv_icmp_ge (tgt := 194) hx hb dX3_twinAt_134 (by decide) (fun c14 => ?_) (fun c14 => ?_)
        · have nc14 : (Lf a) ≤ i := (nI_leI bd15 bd16).mp (show nI ((Lf a)) ≤ nI (i) from c14)
          refine lv_iload hx hb dX3_twinAt_194 (lv_at hl 3 rfl) ?_
          exact zz_iret hC hZ (⟨na1, nu1, kd1, dp1, cl1, sa1, ln1, bt1, rfl, hS1, by omega, hE1, by rw [hTL, show Lf a - i = 0 by omega, sp_tl], rfl⟩) (Nat.le_of_ble_eq_true rfl) (Nat.le_of_ble_eq_true rfl) dX3_twinAt_196
        · have nc14 : ¬ (Lf a) ≤ i := fun zq => c14 (show nI ((Lf a)) ≤ nI (i) from (nI_leI bd15 bd16).mpr zq)
          have hna1 := hS1.1
          have hnu1 := hS1.2.1
          obtain ⟨ho1, ho2, ho3, ho4, ho5⟩ := id hO2
          have hil : i < Lf a := by omega
          refine lv_aload_n hx hb dX3_twinAt_137 rfl (lv_at hl 5 rfl) ?_
          refine zz_get hC hZ 0 rfl zf_X3_15 rfl dX3_twinAt_138 ?_
          refine zz_get hC hZ 2 rfl zf_X3_33 rfl dX3_twinAt_141 ?_
          refine lv_iload hx hb dX3_twinAt_144 (lv_at hl 2 rfl) ?_
          refine lv_iload hx hb dX3_twinAt_146 (lv_at hl 0 rfl) ?_
          refine lv_iadd hx hb dX3_twinAt_148 ?_
          refine zz_topi (v := nI ((Sf a) + i)) (nI_add _ _) ?_
          have bd17 : ((Sf a) + i) < 4000 := by omega
          refine zz_laldn hC hZ 8 rfl bd17 (by decide) dX3_twinAt_149 ?_
          refine lv_l2i hx hb dX3_twinAt_150 rfl ?_
          rcases h_T.2.2.2 a h_a (by omega) i hil with hv | ⟨r, hr, hv, hdr⟩
          · refine zz_topi (v := -1) (by rw [ho5 _ (by omega), hv]; decide) ?_
            refine lv_istore (lv' := [(8, .int (-1)), (7, .int (nI i)), (6, .int (nI nu)), (5, .int (nI (Sf a))), (4, .int (nI na)), (3, .int (nI (Lf a))), (0, .ref mk), (1, .int (nI a)), (2, .int 1)]) hx hb dX3_twinAt_151 hl (by decide) rfl (fun ls hl => ?_)
            refine lv_aload_n hx hb dX3_twinAt_153 rfl (lv_at hl 6 rfl) ?_
            refine zz_get hC hZ 0 rfl zf_X3_15 rfl dX3_twinAt_154 ?_
            refine lv_iload hx hb dX3_twinAt_157 (lv_at hl 0 rfl) ?_
            refine zz_iV (As := [.int (-1)]) (wc := [cw_k5 st (nI na1) (nI nu1) kd dp cl sa ln bt pn bf]) (wr := [cw_k2 mk st ml pa pe, cw_i g ml 4 mlf, cw_i g kd 60 kd1, cw_i g dp 60 dp1, cw_i g cl 60 cl1, cw_i g sa 60 sa1, cw_i g ln 60 ln1, cw_l g bt 4000 bt1]) (rest := []) hC hZ hs hl zc_X3_57 (co_has g st kd dp cl sa ln bt pn bf (nI na1) (nI nu1) (-1)) [2] [0, 1, 3, 4, 5, 6, 7, 8] rfl rfl (by decide +kernel) (ci := 5) (q0 := 0) rfl rfl rfl rfl (Nat.le_of_ble_eq_true rfl) ⟨⟨Nat.le_of_ble_eq_true rfl, Nat.le_of_ble_eq_true rfl⟩, Nat.le_of_ble_eq_true rfl, Nat.le_of_ble_eq_true rfl⟩ dX3_twinAt_159 (fun r18 u19 H locs hp hZ => ?_)
            obtain ⟨rfl, rfl⟩ := hp
            have hZ : zz_Z g A s.heap [cw_k2 mk st ml pa pe, cw_i g ml 4 mlf, cw_i g kd 60 kd1, cw_i g dp 60 dp1, cw_i g cl 60 cl1, cw_i g sa 60 sa1, cw_i g ln 60 ln1, cw_l g bt 4000 bt1, cw_k5 st (nI na1) (nI nu1) kd dp cl sa ln bt pn bf] H locs := hZ
            refine lv_if_eq (tgt := 188) hx hb dX3_twinAt_162 (by decide) (fun c20 => ?_) (fun c => absurd (zl_hasN) c)
            refine lv_iinc (v := nI (i + 1)) (lv' := [(7, .int (nI (i + 1))), (8, .int (-1)), (6, .int (nI nu)), (5, .int (nI (Sf a))), (4, .int (nI na)), (3, .int (nI (Lf a))), (0, .ref mk), (1, .int (nI a)), (2, .int 1)]) hx hb dX3_twinAt_188 hl (k := 1) rfl (nI_1 _) (by decide) rfl (fun ls hl => ?_)
            refine lv_goto (tgt := 131) hx hb dX3_twinAt_191 (by decide) ?_
            have hr1 : zz_rr (fun _ => 1) (fun x i => bt0 (Sf x + i)) Lf (Df a) a i = zz_rr (fun _ => 1) (fun x i => bt0 (Sf x + i)) Lf (Df a) a (i + 1) := zz_rr_null (w := fun _ => 1) (rw := (fun x i => bt0 (Sf x + i))) hd2 hil hv
            have hrL : zz_rr Lf (fun x i => bt0 (Sf x + i)) Lf (Df a) a i = zz_rr Lf (fun x i => bt0 (Sf x + i)) Lf (Df a) a (i + 1) := zz_rr_null (w := Lf) (rw := (fun x i => bt0 (Sf x + i))) hd2 hil hv
            exact ih (i + 1) na1 nu1 kd1 dp1 cl1 sa1 ln1 bt1 H locs ls (by omega) (by omega) (hS1) (hE1) (hO2) (by omega) (by omega) (by rw [hTL, show Lf a - i = (Lf a - (i + 1)) + 1 by omega, sp_tl, if_pos hv]) (by omega) (hZ.sub [0, 1, 8, 2, 3, 4, 5, 6, 7] (by decide +kernel) rfl) (lv_sub hl [0, 2, 3, 4, 5, 6, 7, 8] rfl)
          · refine zz_topi (v := nI r) (by rw [ho5 _ (by omega), hv]; exact lN_i r) ?_
            refine lv_istore (lv' := [(8, .int (nI r)), (7, .int (nI i)), (6, .int (nI nu)), (5, .int (nI (Sf a))), (4, .int (nI na)), (3, .int (nI (Lf a))), (0, .ref mk), (1, .int (nI a)), (2, .int 1)]) hx hb dX3_twinAt_151 hl (by decide) rfl (fun ls hl => ?_)
            refine lv_aload_n hx hb dX3_twinAt_153 rfl (lv_at hl 6 rfl) ?_
            refine zz_get hC hZ 0 rfl zf_X3_15 rfl dX3_twinAt_154 ?_
            refine lv_iload hx hb dX3_twinAt_157 (lv_at hl 0 rfl) ?_
            refine zz_iV (As := [.int (nI r)]) (wc := [cw_k5 st (nI na1) (nI nu1) kd dp cl sa ln bt pn bf]) (wr := [cw_k2 mk st ml pa pe, cw_i g ml 4 mlf, cw_i g kd 60 kd1, cw_i g dp 60 dp1, cw_i g cl 60 cl1, cw_i g sa 60 sa1, cw_i g ln 60 ln1, cw_l g bt 4000 bt1]) (rest := []) hC hZ hs hl zc_X3_57 (co_has g st kd dp cl sa ln bt pn bf (nI na1) (nI nu1) (nI r)) [2] [0, 1, 3, 4, 5, 6, 7, 8] rfl rfl (by decide +kernel) (ci := 5) (q0 := 0) rfl rfl rfl rfl (Nat.le_of_ble_eq_true rfl) ⟨⟨Nat.le_of_ble_eq_true rfl, Nat.le_of_ble_eq_true rfl⟩, Nat.le_of_ble_eq_true rfl, Nat.le_of_ble_eq_true rfl⟩ dX3_twinAt_159 (fun r21 u22 H locs hp hZ => ?_)
            obtain ⟨rfl, rfl⟩ := hp
            have hZ : zz_Z g A s.heap [cw_k2 mk st ml pa pe, cw_i g ml 4 mlf, cw_i g kd 60 kd1, cw_i g dp 60 dp1, cw_i g cl 60 cl1, cw_i g sa 60 sa1, cw_i g ln 60 ln1, cw_l g bt 4000 bt1, cw_k5 st (nI na1) (nI nu1) kd dp cl sa ln bt pn bf] H locs := hZ
            refine lv_if_eq (tgt := 188) hx hb dX3_twinAt_162 (by decide) (fun c => absurd c (zl_hasY (by omega) (by omega))) (fun c23 => ?_)
            refine lv_aload_n hx hb dX3_twinAt_165 rfl (lv_at hl 6 rfl) ?_
            refine zz_get hC hZ 0 rfl zf_X3_15 rfl dX3_twinAt_166 ?_
            refine zz_get hC hZ 8 rfl zf_X3_33 rfl dX3_twinAt_169 ?_
            refine lv_iload hx hb dX3_twinAt_172 (lv_at hl 2 rfl) ?_
            refine lv_iload hx hb dX3_twinAt_174 (lv_at hl 1 rfl) ?_
            refine lv_iadd hx hb dX3_twinAt_176 ?_
            refine zz_topi (v := nI (nu + i)) (nI_add _ _) ?_
            refine lv_aload_n hx hb dX3_twinAt_177 rfl (lv_at hl 6 rfl) ?_
            refine lv_iload hx hb dX3_twinAt_178 (lv_at hl 0 rfl) ?_
            refine lv_iload_n hx hb dX3_twinAt_180 rfl (lv_at hl 8 rfl) ?_
            refine lv_iconst (v := 1) hx hb dX3_twinAt_181 (by decide) ?_
            refine lv_iadd hx hb dX3_twinAt_182 ?_
            refine zz_topi (v := 2) (by decide) ?_
            have hr1 := zz_rr_row (w := fun _ => 1) (rw := (fun x i => bt0 (Sf x + i))) (Lf := Lf) (f := Df a) (x := a) (k := i) (r := r) hd2 hil hv (by omega)
            have hq1 : zz_ct (fun _ => 1) (fun x i => bt0 (Sf x + i)) Lf (Df r) r = 1 + zz_rr (fun _ => 1) (fun x i => bt0 (Sf x + i)) Lf (Df r) r 0 := zz_ct_rm (w := fun _ => 1) (by omega)
            rw [show Df a - 1 = Df r by omega] at hr1
            have hr1 : zz_rr (fun _ => 1) (fun x i => bt0 (Sf x + i)) Lf (Df a) a i = 1 + zz_rr (fun _ => 1) (fun x i => bt0 (Sf x + i)) Lf (Df r) r 0 + zz_rr (fun _ => 1) (fun x i => bt0 (Sf x + i)) Lf (Df a) a (i + 1) := hr1
            have hrL := zz_rr_row (w := Lf) (rw := (fun x i => bt0 (Sf x + i))) (Lf := Lf) (f := Df a) (x := a) (k := i) (r := r) hd2 hil hv (by omega)
            have hqL : zz_ct Lf (fun x i => bt0 (Sf x + i)) Lf (Df r) r = Lf r + zz_rr Lf (fun x i => bt0 (Sf x + i)) Lf (Df r) r 0 := zz_ct_rm (w := Lf) (by omega)
            rw [show Df a - 1 = Df r by omega] at hrL
            refine zz_iV (As := [.int (nI r), .int 2]) (wc := [cw_k2 mk st ml pa pe, cw_i g ml 4 mlf, cw_k5 st (nI na1) (nI nu1) kd dp cl sa ln bt pn bf, cw_i g kd 60 kd1, cw_i g dp 60 dp1, cw_i g cl 60 cl1, cw_i g sa 60 sa1, cw_i g ln 60 ln1, cw_l g bt 4000 bt1]) (wr := []) (rest := [.int (nI (nu + i)), .ref bt]) hC hZ hs hl zc_X3_61 (co_twin2 g mk ml st kd dp cl sa ln bt pn bf na1 nu1 pa pe mlf kd1 dp1 cl1 sa1 ln1 bt1 n0 u0 Sf Lf Df kd0 cl0 bt0 r (h_T) (hO2) (hS1) (by omega) (by omega) (by omega)) [0, 1, 8, 2, 3, 4, 5, 6, 7] [] rfl rfl (by decide +kernel) (ci := 2) (q0 := 0) rfl rfl rfl rfl (Nat.le_of_ble_eq_true rfl) ⟨⟨Nat.le_of_ble_eq_true rfl, Nat.le_of_ble_eq_true rfl⟩, Nat.le_of_ble_eq_true rfl, Nat.le_of_ble_eq_true rfl⟩ dX3_twinAt_183 (fun r24 u25 H locs hp hZ => ?_)
            obtain ⟨na2_26, nu2_27, kd2_28, dp2_29, cl2_30, sa2_31, ln2_32, bt2_33, rfl, f34, f35, f36, f37, rfl⟩ := hp
            have hZ : zz_Z g A s.heap [cw_k2 mk st ml pa pe, cw_i g ml 4 mlf, cw_k5 st (nI na2_26) (nI nu2_27) kd dp cl sa ln bt pn bf, cw_i g kd 60 kd2_28, cw_i g dp 60 dp2_29, cw_i g cl 60 cl2_30, cw_i g sa 60 sa2_31, cw_i g ln 60 ln2_32, cw_l g bt 4000 bt2_33] H locs := hZ
            refine lv_i2l hx hb dX3_twinAt_186 rfl ?_
            have bd38 : (nu + i) < 4000 := by omega
            refine zz_lastn hC hZ 8 rfl bd38 (by decide) dX3_twinAt_187 (fun H locs hZ => ?_)
            have hZ : zz_Z g A s.heap [cw_k2 mk st ml pa pe, cw_i g ml 4 mlf, cw_k5 st (nI na2_26) (nI nu2_27) kd dp cl sa ln bt pn bf, cw_i g kd 60 kd2_28, cw_i g dp 60 dp2_29, cw_i g cl 60 cl2_30, cw_i g sa 60 sa2_31, cw_i g ln 60 ln2_32, cw_l g bt 4000 (vp_updL bt2_33 (nu + i) ((nI na1).toInt64))] H locs := hZ
            refine lv_iinc (v := nI (i + 1)) (lv' := [(7, .int (nI (i + 1))), (8, .int (nI r)), (6, .int (nI nu)), (5, .int (nI (Sf a))), (4, .int (nI na)), (3, .int (nI (Lf a))), (0, .ref mk), (1, .int (nI a)), (2, .int 1)]) hx hb dX3_twinAt_188 hl (k := 1) rfl (nI_1 _) (by decide) rfl (fun ls hl => ?_)
            refine lv_goto (tgt := 131) hx hb dX3_twinAt_191 (by decide) ?_
            have htn := sp_tw_n kd0 cl0 Sf Lf (fun x i => bt0 (Sf x + i)) (Df r) r (na1, nu1, kd1, dp1, cl1, sa1, ln1, bt1)
            have htk := sp_tw_k kd0 cl0 Sf Lf (fun x i => bt0 (Sf x + i)) n0 u0 (Df r) r (na1, nu1, kd1, dp1, cl1, sa1, ln1, bt1) (by show n0 ≤ na1; omega) (by show u0 ≤ nu1; omega)
            rw [← f37] at htn htk
            have htn1 : na2_26 = na1 + zz_ct (fun _ => 1) (fun x i => bt0 (Sf x + i)) Lf (Df r) r := htn.1
            have htn2 : nu2_27 = nu1 + zz_ct Lf (fun x i => bt0 (Sf x + i)) Lf (Df r) r := htn.2
            exact ih (i + 1) na2_26 nu2_27 kd2_28 dp2_29 cl2_30 sa2_31 ln2_32 (vp_updL bt2_33 (nu + i) ((nI na1).toInt64)) H locs ls (by omega) (by omega) (f34) (hE1.tr (by omega) f36) (hO2.kp (by omega) (by omega) f36 (htk.tr (zz_KP.set (by omega)))) (by omega) (by omega) (by rw [hTL, show Lf a - i = (Lf a - (i + 1)) + 1 by omega, sp_tl, if_neg (show ¬ bt0 (Sf a + i) = -1 by rw [hv]; exact zl_lnn r), show f0 + 1 = Df r by omega, show ((fun x i => bt0 (Sf x + i)) a i).toInt.toNat = r from (congrArg (fun z => (Int64.toInt z).toNat) hv).trans (zl_lnr (by omega)), ← f37, nI_l (show na1 < 2 ^ 31 by omega)]; rfl) (by omega) hZ (lv_sub hl [0, 2, 3, 4, 5, 6, 7, 8] rfl)
    exact LP13 _ 0 (na + 1) (nu + (Lf a)) (upd kdf na (kdf a)) (upd dpf na (nI (Df a))) (upd clf na (clf a)) (upd saf na (nI nu)) (upd lnf na (nI (Lf a))) bt2_8 H locs ls (by omega) (by omega) (hSA) (zz_EX.up) (hO1) (by omega) (by omega) (by rw [hAD, ef0, sp_tw]; rfl) (Nat.lt_succ_self _) hZ (lv_sub hl [0, 1, 2, 3, 4, 5, 6, 7] rfl)
  · have nc11 : (Df a) = 1 := (nI_eq bd12 (by decide)).mp (show nI ((Df a)) = nI (1) from c11)
    refine lv_aload_n hx hb dX3_twinAt_103 rfl (lv_at hl 4 rfl) ?_
    refine zz_get hC hZ 0 rfl zf_X3_15 rfl dX3_twinAt_104 ?_
    refine zz_get hC hZ 2 rfl zf_X3_33 rfl dX3_twinAt_107 ?_
    refine lv_iload hx hb dX3_twinAt_110 (lv_at hl 1 rfl) ?_
    refine lv_aload_n hx hb dX3_twinAt_112 rfl (lv_at hl 4 rfl) ?_
    refine zz_get hC hZ 0 rfl zf_X3_15 rfl dX3_twinAt_113 ?_
    refine zz_get hC hZ 2 rfl zf_X3_33 rfl dX3_twinAt_116 ?_
    refine lv_iload hx hb dX3_twinAt_119 (lv_at hl 0 rfl) ?_
    refine lv_iload_n hx hb dX3_twinAt_121 rfl (lv_at hl 3 rfl) ?_
    refine zz_copyl (x := (Sf a)) (y := nu) (n := (Lf a)) hC hZ hl zk_468 zk_439 zk_438 zk_9 8 8 rfl rfl (by omega) (by omega) (by omega) (Nat.le_of_ble_eq_true rfl) (by decide) dX3_twinAt_122 (fun H locs hZ => ?_)
    have hZ : zz_Z g A s.heap [cw_k2 mk st ml pa pe, cw_i g ml 4 mlf, cw_k5 st (nI (na + 1)) (nI (nu + (Lf a))) kd dp cl sa ln bt pn bf, cw_i g kd 60 (upd kdf na (kdf a)), cw_i g dp 60 (upd dpf na (nI (Df a))), cw_i g cl 60 (upd clf na (clf a)), cw_i g sa 60 (upd saf na (nI nu)), cw_i g ln 60 (upd lnf na (nI (Lf a))), cw_l g bt 4000 (va_cpy bt2_8 bt2_8 (Sf a) nu (Lf a))] H locs := hZ
    refine lv_iload hx hb dX3_twinAt_125 (lv_at hl 2 rfl) ?_
    exact zz_iret hC hZ (⟨(na + 1), (nu + (Lf a)), (upd kdf na (kdf a)), (upd dpf na (nI (Df a))), (upd clf na (clf a)), (upd saf na (nI nu)), (upd lnf na (nI (Lf a))), (va_cpy bt2_8 bt2_8 (Sf a) nu (Lf a)), rfl, hSA, by omega, zz_EX.up, zl_tw1 (by omega) hAD, rfl⟩) (Nat.le_of_ble_eq_true rfl) (Nat.le_of_ble_eq_true rfl) dX3_twinAt_127
theorem dg_X3_makeTwin_0 : (decode cX3_makeTwin 0 = .ok (.aload_n 0, 1)) ∧ (decode cX3_makeTwin 1 = .ok (.iload_n 1, 1)) ∧ (decode cX3_makeTwin 2 = .ok (.iconst 1, 1)) ∧ (decode cX3_makeTwin 3 = .ok (.invokevirtual 61, 3)) ∧ (decode cX3_makeTwin 6 = .ok (.ireturn, 1)) := by decide +kernel
theorem dX3_makeTwin_0 : decode cX3_makeTwin 0 = .ok (.aload_n 0, 1) := dg_X3_makeTwin_0.1
theorem dX3_makeTwin_1 : decode cX3_makeTwin 1 = .ok (.iload_n 1, 1) := dg_X3_makeTwin_0.2.1
theorem dX3_makeTwin_2 : decode cX3_makeTwin 2 = .ok (.iconst 1, 1) := dg_X3_makeTwin_0.2.2.1
theorem dX3_makeTwin_3 : decode cX3_makeTwin 3 = .ok (.invokevirtual 61, 3) := dg_X3_makeTwin_0.2.2.2.1
theorem dX3_makeTwin_6 : decode cX3_makeTwin 6 = .ok (.ireturn, 1) := dg_X3_makeTwin_0.2.2.2.2
abbrev rm_co_makeTwin : Room := { frames := 5, cells := 0, slots := 0, locals := 172 }
abbrev po_co_makeTwin (g : zz_G) (mk : Nat) (ml : Nat) (st : Nat) (kd : Nat) (dp : Nat) (cl : Nat) (sa : Nat) (ln : Nat) (bt : Nat) (pn : Nat) (bf : Nat) (na : Nat) (nu : Nat) (pa : Int32) (pe : Int32) (mlf : Nat → Int32) (kdf : Nat → Int32) (dpf : Nat → Int32) (clf : Nat → Int32) (saf : Nat → Int32) (lnf : Nat → Int32) (btf : Nat → Int64) (n0 : Nat) (u0 : Nat) (Sf : Nat → Nat) (Lf : Nat → Nat) (Df : Nat → Nat) (kd0 : Nat → Int32) (cl0 : Nat → Int32) (bt0 : Nat → Int64) (a : Nat) (h_T : zz_TR n0 u0 Sf Lf Df bt0) (h_O : zz_OR n0 u0 na nu Sf Lf Df kd0 cl0 bt0 kdf dpf clf saf lnf btf) (h_S : zz_SI na nu dpf saf lnf) (h_a : a < n0) (h_m : na + zz_ct (fun _ => 1) (fun x i => bt0 (Sf x + i)) Lf (Df a) a ≤ 60 ∧ nu + zz_ct Lf (fun x i => bt0 (Sf x + i)) Lf (Df a) a ≤ 4000) : Int32 → va_W → Prop := fun (r : Int32) (u : va_W) => ∃ (na2 : Nat) (nu2 : Nat) (kd2 : Nat → Int32) (dp2 : Nat → Int32) (cl2 : Nat → Int32) (sa2 : Nat → Int32) (ln2 : Nat → Int32) (bt2 : Nat → Int64), r = nI na ∧ (zz_SI na2 nu2 dp2 sa2 ln2) ∧ (na ≤ na2) ∧ (zz_EX na dpf saf lnf dp2 sa2 ln2) ∧ ((na2, nu2, kd2, dp2, cl2, sa2, ln2, bt2) = sp_tw kd0 cl0 Sf Lf (fun x i => bt0 (Sf x + i)) (Df a) a (na, nu, kdf, dpf, clf, saf, lnf, btf)) ∧ u = [cw_k2 mk st ml pa pe, cw_i g ml 4 mlf, cw_k5 st (nI na2) (nI nu2) kd dp cl sa ln bt pn bf, cw_i g kd 60 kd2, cw_i g dp 60 dp2, cw_i g cl 60 cl2, cw_i g sa 60 sa2, cw_i g ln 60 ln2, cw_l g bt 4000 bt2]
set_option maxHeartbeats 4000000 in
set_option maxRecDepth 100000 in
theorem co_makeTwin (g : zz_G) (mk : Nat) (ml : Nat) (st : Nat) (kd : Nat) (dp : Nat) (cl : Nat) (sa : Nat) (ln : Nat) (bt : Nat) (pn : Nat) (bf : Nat) (na : Nat) (nu : Nat) (pa : Int32) (pe : Int32) (mlf : Nat → Int32) (kdf : Nat → Int32) (dpf : Nat → Int32) (clf : Nat → Int32) (saf : Nat → Int32) (lnf : Nat → Int32) (btf : Nat → Int64) (n0 : Nat) (u0 : Nat) (Sf : Nat → Nat) (Lf : Nat → Nat) (Df : Nat → Nat) (kd0 : Nat → Int32) (cl0 : Nat → Int32) (bt0 : Nat → Int64) (a : Nat) (h_T : zz_TR n0 u0 Sf Lf Df bt0) (h_O : zz_OR n0 u0 na nu Sf Lf Df kd0 cl0 bt0 kdf dpf clf saf lnf btf) (h_S : zz_SI na nu dpf saf lnf) (h_a : a < n0) (h_m : na + zz_ct (fun _ => 1) (fun x i => bt0 (Sf x + i)) Lf (Df a) a ≤ 60 ∧ nu + zz_ct Lf (fun x i => bt0 (Sf x + i)) Lf (Df a) a ≤ 4000) : zz_I g yX3_makeTwin (.code yX3_makeTwin cX3_makeTwin 2 (some .int)) rm_co_makeTwin [.ref mk, .int (nI a)] [cw_k2 mk st ml pa pe, cw_i g ml 4 mlf, cw_k5 st (nI na) (nI nu) kd dp cl sa ln bt pn bf, cw_i g kd 60 kdf, cw_i g dp 60 dpf, cw_i g cl 60 clf, cw_i g sa 60 saf, cw_i g ln 60 lnf, cw_l g bt 4000 btf] (po_co_makeTwin g mk ml st kd dp cl sa ln bt pn bf na nu pa pe mlf kdf dpf clf saf lnf btf n0 u0 Sf Lf Df kd0 cl0 bt0 a h_T h_O h_S h_a h_m) := by
  refine zz_I.intro (own := RX3) (cc := cX3_makeTwin) (nL := 2) (by decide) rfl (Nat.le_of_ble_eq_true rfl) ?_
  intro p l e s m args below meth c A H locs ls hC hnm hs hZ hl
  obtain ⟨hx, hb, hml, hown, hts, hr, hlocks, hK⟩ := id hC
  have hl : lv_has ls 2 [(0, .ref mk), (1, .int (nI a))] := hl
  have hZ : zz_Z g A s.heap [cw_k2 mk st ml pa pe, cw_i g ml 4 mlf, cw_k5 st (nI na) (nI nu) kd dp cl sa ln bt pn bf, cw_i g kd 60 kdf, cw_i g dp 60 dpf, cw_i g cl 60 clf, cw_i g sa 60 saf, cw_i g ln 60 lnf, cw_l g bt 4000 btf] H locs := hZ
  obtain ⟨g1, g2, g3, g4⟩ := h_T.2.2.1 a h_a
  refine lv_aload_n hx hb dX3_makeTwin_0 rfl (lv_at hl 0 rfl) ?_
  refine lv_iload_n hx hb dX3_makeTwin_1 rfl (lv_at hl 1 rfl) ?_
  refine lv_iconst (v := 1) hx hb dX3_makeTwin_2 (by decide) ?_
  refine zz_iV (As := [.int (nI a), .int 1]) (wc := [cw_k2 mk st ml pa pe, cw_i g ml 4 mlf, cw_k5 st (nI na) (nI nu) kd dp cl sa ln bt pn bf, cw_i g kd 60 kdf, cw_i g dp 60 dpf, cw_i g cl 60 clf, cw_i g sa 60 saf, cw_i g ln 60 lnf, cw_l g bt 4000 btf]) (wr := []) (rest := []) hC hZ hs hl zc_X3_61 (co_twin1 g mk ml st kd dp cl sa ln bt pn bf na nu pa pe mlf kdf dpf clf saf lnf btf n0 u0 Sf Lf Df kd0 cl0 bt0 a (h_T) (h_O) (h_S) (by omega) (by omega) (by omega)) [0, 1, 2, 3, 4, 5, 6, 7, 8] [] rfl rfl (by decide +kernel) (ci := 2) (q0 := 0) rfl rfl rfl rfl (Nat.le_of_ble_eq_true rfl) ⟨⟨Nat.le_of_ble_eq_true rfl, Nat.le_of_ble_eq_true rfl⟩, Nat.le_of_ble_eq_true rfl, Nat.le_of_ble_eq_true rfl⟩ dX3_makeTwin_3 (fun r1 u2 H locs hp hZ => ?_)
  obtain ⟨na2_3, nu2_4, kd2_5, dp2_6, cl2_7, sa2_8, ln2_9, bt2_10, rfl, f11, f12, f13, f14, rfl⟩ := hp
  have hZ : zz_Z g A s.heap [cw_k2 mk st ml pa pe, cw_i g ml 4 mlf, cw_k5 st (nI na2_3) (nI nu2_4) kd dp cl sa ln bt pn bf, cw_i g kd 60 kd2_5, cw_i g dp 60 dp2_6, cw_i g cl 60 cl2_7, cw_i g sa 60 sa2_8, cw_i g ln 60 ln2_9, cw_l g bt 4000 bt2_10] H locs := hZ
  exact zz_iret hC hZ (⟨na2_3, nu2_4, kd2_5, dp2_6, cl2_7, sa2_8, ln2_9, bt2_10, rfl, f11, f12, f13, f14, rfl⟩) (Nat.le_of_ble_eq_true rfl) (Nat.le_of_ble_eq_true rfl) dX3_makeTwin_6
