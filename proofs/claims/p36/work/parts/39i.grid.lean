def zz_KS (S : zz_S) : Prop := zz_KC S.1 S.2.2.1 S.2.2.2.2.1
theorem zz_KS.mk {S : zz_S} {k d c : Int32} {n j : Nat} (h : zz_KS S) (e : k = nI j) (hj : j ≤ 8) (hc : j < 8 → c = -1) : zz_KS (sp_mk k d c n S) := zz_KC.add h e hj hc
theorem sp_gl_kc {F : zz_S → zz_S} {base : Nat} (h : ∀ S, zz_KS S → zz_KS (F S)) : ∀ (m i : Nat) (S : zz_S), zz_KS S → zz_KS (sp_gl F base m i S)
  | 0, _, S, hS => hS
  | m + 1, i, S, hS => by rw [sp_gl]; exact sp_gl_kc h m (i + 1) _ (h S hS)
theorem sp_gridM_kc {k : Int32} {j : Nat} {ll : Nat → Nat} (e : k = nI j) (hj : j ≤ 8) : ∀ (r t : Nat) (S : zz_S), zz_KS S → zz_KS (sp_gridM k ll r t S)
  | 0, t, S, h => by rw [sp_gridM]; exact h
  | 1, t, S, h => by
    rw [sp_gridM, if_pos rfl, if_pos rfl, sp_gl]
    exact h.mk e hj (fun _ => rfl)
  | r + 2, t, S, h => by
    rw [sp_gridM, if_neg (by omega), if_neg (by omega)]
    exact sp_gl_kc (fun S q => sp_gridM_kc e hj (r + 1) (t + 1) S q) (ll t) 0 _ (h.mk e hj (fun _ => rfl))
theorem sp_tl_kc {F : Nat → zz_S → zz_S} {row : Nat → Int64} {base n : Nat} {V : Nat → Prop} (hV : ∀ i, i < n → row i = -1 ∨ ∃ r, r < 60 ∧ row i = lN r ∧ V r) (h : ∀ r S, V r → zz_KS S → zz_KS (F r S)) : ∀ (m i : Nat) (S : zz_S), i + m ≤ n → zz_KS S → zz_KS (sp_tl F row base m i S)
  | 0, _, S, _, hS => hS
  | m + 1, i, S, hi, hS => by
    rw [sp_tl]
    rcases hV i (by omega) with q | ⟨r, hr, q, v⟩
    · rw [if_pos q]; exact sp_tl_kc hV h m (i + 1) S (by omega) hS
    · have e : (row i).toInt.toNat = r := by rw [q, lN_toInt (by omega)]; rfl
      have hne : ¬ row i = -1 := fun z => by
        have : (row i).toInt = (r : Int) := by rw [q]; exact lN_toInt (by omega)
        rw [z, show (-1 : Int64).toInt = -1 by decide] at this
        omega
      rw [if_neg hne, e]
      exact sp_tl_kc hV h m (i + 1) _ (by omega) (h r S v hS)
theorem sp_twM_kc {na nu : Nat} {Sf Lf Df : Nat → Nat} {kd0 cl0 : Nat → Int32} {bt0 : Nat → Int64} (hT : zz_TR na nu Sf Lf Df bt0) (hk : zz_KC na kd0 cl0) : ∀ (f a : Nat) (S : zz_S), a < na → Df a = f → zz_KS S → zz_KS (sp_twM kd0 cl0 Sf Lf (fun x i => bt0 (Sf x + i)) f a S)
  | 0, a, S, _, _, h => by rw [sp_twM]; exact h
  | 1, a, S, ha, _, h => by
    rw [sp_twM]
    obtain ⟨j, e, hj, hc⟩ := hk a ha
    exact zz_KC.add h e hj hc
  | f + 2, a, S, ha, hd, h => by
    rw [sp_twM]
    obtain ⟨j, e, hj, hc⟩ := hk a ha
    refine sp_tl_kc (n := Lf a) (V := fun r => r < na ∧ Df r = f + 1) (fun i hi => ?_) (fun r S v q => sp_twM_kc hT hk (f + 1) r S v.1 v.2 q) (Lf a) 0 _ (by omega) (zz_KC.add h e hj hc)
    rcases hT.2.2.2 a ha (by omega) i hi with q | ⟨r, hr, q, v⟩
    · exact Or.inl q
    · exact Or.inr ⟨r, by have := hT.1; omega, q, hr, by omega⟩
theorem zl_mpz {pn : Nat → Int32} {ne n : Nat} (h : ∀ j, ne ≤ j → pn j = 0) : zz_mp pn ne n = pn := by
  funext j
  unfold zz_mp
  by_cases q : ne ≤ j ∧ j < ne + n
  · rw [if_pos q, h j q.1]
  · rw [if_neg q]
theorem zz_RT.of {na ne : Nat} {kd dp cl sa ln pn : Nat → Int32} {btX btM : Nat → Int64} (h : zz_R1 na ne dp sa ln btX btM pn) : zz_RT (na, ne, kd, dp, cl, sa, ln, btX) (na, ne, kd, dp, cl, sa, ln, btM) := ⟨rfl, rfl, rfl, rfl, rfl, rfl, rfl, h.1, fun j hj => ⟨(h.2 j hj).1, rfl⟩⟩
theorem zz_RT.rl {na2 : Nat} {nu2 : Nat} {kd2 : Nat → Int32} {dp2 : Nat → Int32} {cl2 : Nat → Int32} {sa2 : Nat → Int32} {ln2 : Nat → Int32} {bt2 : Nat → Int64} {na3 : Nat} {ne3 : Nat} {kd3 : Nat → Int32} {dp3 : Nat → Int32} {cl3 : Nat → Int32} {sa3 : Nat → Int32} {ln3 : Nat → Int32} {bt3 : Nat → Int64} {pn pn3 : Nat → Int32} (h : zz_RT (na2, nu2, kd2, dp2, cl2, sa2, ln2, bt2) (na3, ne3, kd3, dp3, cl3, sa3, ln3, bt3)) (hk : zz_KS (na3, ne3, kd3, dp3, cl3, sa3, ln3, bt3)) (e : pn3 = pn) (hp : ∀ j, ne3 ≤ j → pn j = 0) : zz_RL na2 nu2 kd2 dp2 cl2 sa2 ln2 bt2 pn na3 ne3 kd3 dp3 cl3 sa3 ln3 bt3 pn3 := by
  obtain ⟨h1, h2, h3, h4, h5, h6, h7, h8⟩ := h
  exact ⟨h1, h2, h3, h4, h5, h6, h7, e.symm, hk, h8.1, fun j hj => ⟨(h8.2 j hj).1, by rw [e]; exact hp j hj⟩⟩
theorem zl_gRn {na nu : Nat} {x1 x2 x3 x4 x5 x6 : Int32} (h : ¬ sp_gR na nu x1 x2 x3 x4 x5 x6 < 0) : (∃ k : Nat, k ≤ 8 ∧ x1 = nI k) ∧ ∃ q : Nat, q ≤ 3 ∧ x2 = nI (q + 1) ∧ x2.toNatClampNeg = q + 1 ∧ zz_GF na nu (zz_gll x3 x4 x5 x6) (q + 1) := by
  have n9 : (-9 : Int32) < 0 := by decide
  have n4 : (-4 : Int32) < 0 := by decide
  have n8 : (-8 : Int32) < 0 := by decide
  unfold sp_gR at h
  by_cases c1 : 0 ≤ x1 ∧ x1 < 8 ∧ 1 ≤ x2 ∧ x2 ≤ 4
  · rw [if_pos c1] at h
    by_cases c2 : ∀ j, j < x2.toNatClampNeg → ¬ zz_pa x3 x4 x5 x6 j < 0
    · rw [if_pos c2] at h
      by_cases c3 : zz_GF na nu (zz_gll x3 x4 x5 x6) x2.toNatClampNeg
      · obtain ⟨a1, a2, a3, a4⟩ := c1
        have e0 : (0 : Int32).toInt = 0 := by decide
        have e1 : (1 : Int32).toInt = 1 := by decide
        have e4 : (4 : Int32).toInt = 4 := by decide
        have e8 : (8 : Int32).toInt = 8 := by decide
        rw [Int32.le_iff_toInt_le] at a1 a3
        rw [Int32.lt_iff_toInt_lt] at a2
        obtain ⟨k, hk, ek⟩ := nI_of2 (x := x1) (M := 8) (n := 8) (by decide) (by rw [Int32.lt_iff_toInt_lt]; omega) (by rw [Int32.le_iff_toInt_le]; omega)
        obtain ⟨q, hq, eq⟩ := nI_of2 (x := x2) (M := 4) (n := 4) (by decide) (by rw [Int32.lt_iff_toInt_lt]; omega) a4
        have hq1 : 1 ≤ q := by
          rw [eq, nI_toInt (by omega)] at a3
          omega
        have ec : x2.toNatClampNeg = q := by rw [eq]; exact nI_clamp (by omega)
        rw [ec] at c3
        refine ⟨⟨k, hk, ek⟩, q - 1, by omega, ?_, by omega, ?_⟩
        · rw [show q - 1 + 1 = q by omega]; exact eq
        · rw [show q - 1 + 1 = q by omega]; exact c3
      · rw [if_neg c3] at h; exact absurd n8 h
    · rw [if_neg c2] at h; exact absurd n4 h
  · rw [if_neg c1] at h; exact absurd n9 h
theorem rl0_grid {na ne : Nat} {kd dp cl sa ln pn : Nat → Int32} {btX btM : Nat → Int64} {x1 x2 x3 x4 x5 x6 r r' : Int32} {na2 : Nat} {nu2 : Nat} {kd2 : Nat → Int32} {dp2 : Nat → Int32} {cl2 : Nat → Int32} {sa2 : Nat → Int32} {ln2 : Nat → Int32} {bt2 : Nat → Int64} {na3 : Nat} {ne3 : Nat} {kd3 : Nat → Int32} {dp3 : Nat → Int32} {cl3 : Nat → Int32} {sa3 : Nat → Int32} {ln3 : Nat → Int32} {bt3 : Nat → Int64} {pn3 : Nat → Int32} (hM : zz_MI na ne dp sa ln btM) (hk : zz_KC na kd cl) (h : zz_R1 na ne dp sa ln btX btM pn) (fr : r = sp_gR na ne x1 x2 x3 x4 x5 x6) (fx : (na2, nu2, kd2, dp2, cl2, sa2, ln2, bt2) = if r < 0 then (na, ne, kd, dp, cl, sa, ln, btX) else sp_grid x1 (zz_gll x3 x4 x5 x6) x2.toNatClampNeg 0 (na, ne, kd, dp, cl, sa, ln, btX)) (fr' : r' = sp_gR na ne x1 x2 x3 x4 x5 x6) (fm : (na3, ne3, kd3, dp3, cl3, sa3, ln3, bt3) = if r' < 0 then (na, ne, kd, dp, cl, sa, ln, btM) else sp_gF x1 (zz_gll x3 x4 x5 x6) (x2.toNatClampNeg - 0 - 1) 0 ne (zz_gll x3 x4 x5 x6 0 - 0) 0 (sp_mk x1 (nI x2.toNatClampNeg) (-1) (zz_gll x3 x4 x5 x6 0) (na, ne, kd, dp, cl, sa, ln, btM))) (fp : pn3 = if r' < 0 then pn else zz_mp pn ne (ne3 - ne)) : r = r' ∧ zz_RL na2 nu2 kd2 dp2 cl2 sa2 ln2 bt2 pn na3 ne3 kd3 dp3 cl3 sa3 ln3 bt3 pn3 := by
  have er : r = r' := fr.trans fr'.symm
  refine ⟨er, ?_⟩
  rw [er] at fx
  by_cases c : r' < 0
  · rw [if_pos c] at fx fm fp
    cases fx; cases fm
    rw [fp]
    exact ⟨rfl, rfl, rfl, rfl, rfl, rfl, rfl, rfl, hk, h⟩
  · rw [if_neg c] at fx fm fp
    rw [fr'] at c
    obtain ⟨⟨k, hk8, ek⟩, q, hq, e2, ec, hG⟩ := zl_gRn c
    obtain ⟨t1, t2⟩ := zl_tot (ll := zz_gll x3 x4 x5 x6) (dd := q + 1) (by omega) (by omega)
    rw [ec] at fx fm
    have hT := sp_grid_rt x1 (zz_gll x3 x4 x5 x6) (q + 1) 0 (na, ne, kd, dp, cl, sa, ln, btX) (na, ne, kd, dp, cl, sa, ln, btM) (by omega) (fun j hj => hG.1 j (by omega)) (zz_RT.of h) (by rw [t2]; exact hG.2.2)
    have fm2 : (na3, ne3, kd3, dp3, cl3, sa3, ln3, bt3) = sp_gridM x1 (zz_gll x3 x4 x5 x6) (q + 1) 0 (na, ne, kd, dp, cl, sa, ln, btM) := by
      rw [fm, ← sp_gF_M]; rfl
    rw [← fx, ← fm2] at hT
    have hn := (sp_gridM_n x1 (zz_gll x3 x4 x5 x6) (q + 1) 0 (na, ne, kd, dp, cl, sa, ln, btM)).2
    rw [← fm2] at hn
    have hn' : ne3 = ne + zz_EE (zz_gll x3 x4 x5 x6) (q + 1) 0 := hn
    have hK := sp_gridM_kc (ll := zz_gll x3 x4 x5 x6) ek hk8 (q + 1) 0 (na, ne, kd, dp, cl, sa, ln, btM) hk
    rw [← fm2] at hK
    exact hT.rl hK (by rw [fp]; exact zl_mpz (fun j hj => (h.2 j hj).2)) (fun j hj => (h.2 j (by omega)).2)
theorem rl_grid {naX : Nat} {nuX : Nat} {kdX : Nat → Int32} {dpX : Nat → Int32} {clX : Nat → Int32} {saX : Nat → Int32} {lnX : Nat → Int32} {btX : Nat → Int64} {pnX : Nat → Int32} {naM : Nat} {neM : Nat} {kdM : Nat → Int32} {dpM : Nat → Int32} {clM : Nat → Int32} {saM : Nat → Int32} {lnM : Nat → Int32} {btM : Nat → Int64} {pnM : Nat → Int32} {x1 x2 x3 x4 x5 x6 r r' : Int32} {na2 : Nat} {nu2 : Nat} {kd2 : Nat → Int32} {dp2 : Nat → Int32} {cl2 : Nat → Int32} {sa2 : Nat → Int32} {ln2 : Nat → Int32} {bt2 : Nat → Int64} {na3 : Nat} {ne3 : Nat} {kd3 : Nat → Int32} {dp3 : Nat → Int32} {cl3 : Nat → Int32} {sa3 : Nat → Int32} {ln3 : Nat → Int32} {bt3 : Nat → Int64} {pn3 : Nat → Int32} (hM : zz_MI naM neM dpM saM lnM btM) (h : zz_RL naX nuX kdX dpX clX saX lnX btX pnX naM neM kdM dpM clM saM lnM btM pnM) (fr : r = sp_gR naX nuX x1 x2 x3 x4 x5 x6) (fx : (na2, nu2, kd2, dp2, cl2, sa2, ln2, bt2) = if r < 0 then (naX, nuX, kdX, dpX, clX, saX, lnX, btX) else sp_grid x1 (zz_gll x3 x4 x5 x6) x2.toNatClampNeg 0 (naX, nuX, kdX, dpX, clX, saX, lnX, btX)) (fr' : r' = sp_gR naM neM x1 x2 x3 x4 x5 x6) (fm : (na3, ne3, kd3, dp3, cl3, sa3, ln3, bt3) = if r' < 0 then (naM, neM, kdM, dpM, clM, saM, lnM, btM) else sp_gF x1 (zz_gll x3 x4 x5 x6) (x2.toNatClampNeg - 0 - 1) 0 neM (zz_gll x3 x4 x5 x6 0 - 0) 0 (sp_mk x1 (nI x2.toNatClampNeg) (-1) (zz_gll x3 x4 x5 x6 0) (naM, neM, kdM, dpM, clM, saM, lnM, btM))) (fp : pn3 = if r' < 0 then pnM else zz_mp pnM neM (ne3 - neM)) : r = r' ∧ zz_RL na2 nu2 kd2 dp2 cl2 sa2 ln2 bt2 pnX na3 ne3 kd3 dp3 cl3 sa3 ln3 bt3 pn3 := by
  obtain ⟨rfl, rfl, rfl, rfl, rfl, rfl, rfl, rfl, hk, h⟩ := h
  exact rl0_grid hM hk h fr fx fr' fm fp
theorem zz_ss_eq {h h' : Nat → Nat} {k n : Nat} : (∀ i, k ≤ i → i < k + n → h i = h' i) → zz_ss h k n = zz_ss h' k n := by
  induction n generalizing k with
  | zero => exact fun _ => rfl
  | succ n ih =>
    intro q
    rw [zz_ss, zz_ss, q k (Nat.le_refl _) (by omega), ih (fun i h1 h2 => q i (by omega) (by omega))]
theorem zz_ct_eq {na nu : Nat} {Sf Lf Df w : Nat → Nat} {bt0 bt1 : Nat → Int64} (hT : zz_TR na nu Sf Lf Df bt0) (hE : ∀ x, x < na → 1 < Df x → ∀ i, i < Lf x → bt1 (Sf x + i) = bt0 (Sf x + i)) : ∀ (f a : Nat), a < na → Df a = f → zz_ct w (fun x i => bt1 (Sf x + i)) Lf f a = zz_ct w (fun x i => bt0 (Sf x + i)) Lf f a
  | 0, a, _, _ => rfl
  | 1, a, _, _ => rfl
  | f + 2, a, ha, hd => by
    rw [zz_ct, zz_ct]
    congr 1
    refine zz_ss_eq (fun i _ hi => ?_)
    have e := hE a ha (by omega) i (by omega)
    show (if bt1 (Sf a + i) = -1 then 0 else zz_ct w (fun x i => bt1 (Sf x + i)) Lf (f + 1) (bt1 (Sf a + i)).toInt.toNat) = (if bt0 (Sf a + i) = -1 then 0 else zz_ct w (fun x i => bt0 (Sf x + i)) Lf (f + 1) (bt0 (Sf a + i)).toInt.toNat)
    rw [e]
    rcases hT.2.2.2 a ha (by omega) i (by omega) with q | ⟨r, hr, q, v⟩
    · rw [if_pos q, if_pos q]
    · have er : (bt0 (Sf a + i)).toInt.toNat = r := by rw [q, lN_toInt (by have := hT.1; omega)]; rfl
      rw [er, zz_ct_eq hT hE (f + 1) r hr (by omega)]
theorem sp_tl_eq {F F' : Nat → zz_S → zz_S} {row row' : Nat → Int64} {base n : Nat} {V : Nat → Prop} (hR : ∀ i, i < n → row' i = row i) (hV : ∀ i, i < n → row i = -1 ∨ ∃ r, r < 60 ∧ row i = lN r ∧ V r) (h : ∀ r S, V r → F' r S = F r S) : ∀ (m i : Nat) (S : zz_S), i + m ≤ n → sp_tl F' row' base m i S = sp_tl F row base m i S
  | 0, _, S, _ => rfl
  | m + 1, i, S, hi => by
    rw [sp_tl, sp_tl, hR i (by omega)]
    rcases hV i (by omega) with q | ⟨r, hr, q, v⟩
    · rw [if_pos q, if_pos q]; exact sp_tl_eq hR hV h m (i + 1) S (by omega)
    · have e : (row i).toInt.toNat = r := by rw [q, lN_toInt (by omega)]; rfl
      rw [e, h r S v]
      exact sp_tl_eq hR hV h m (i + 1) _ (by omega)
theorem sp_tw_eq {na nu : Nat} {Sf Lf Df : Nat → Nat} {kd0 cl0 : Nat → Int32} {bt0 bt1 : Nat → Int64} (hT : zz_TR na nu Sf Lf Df bt0) (hE : ∀ x, x < na → 1 < Df x → ∀ i, i < Lf x → bt1 (Sf x + i) = bt0 (Sf x + i)) : ∀ (f a : Nat) (S : zz_S), a < na → Df a = f → sp_tw kd0 cl0 Sf Lf (fun x i => bt1 (Sf x + i)) f a S = sp_tw kd0 cl0 Sf Lf (fun x i => bt0 (Sf x + i)) f a S
  | 0, a, S, _, _ => by rw [sp_tw, sp_tw]
  | 1, a, S, _, _ => by rw [sp_tw, sp_tw]
  | f + 2, a, S, ha, hd => by
    rw [sp_tw, sp_tw]
    refine sp_tl_eq (n := Lf a) (V := fun r => r < na ∧ Df r = f + 1) (fun i hi => hE a ha (by omega) i hi) (fun i hi => ?_) (fun r S v => sp_tw_eq hT hE (f + 1) r S v.1 v.2) (Lf a) 0 _ (by omega)
    rcases hT.2.2.2 a ha (by omega) i hi with q | ⟨r, hr, q, v⟩
    · exact Or.inl q
    · exact Or.inr ⟨r, by have := hT.1; omega, q, hr, by omega⟩
theorem rl0_deep {na ne : Nat} {kd dp cl sa ln pn : Nat → Int32} {btX btM : Nat → Int64} {x1 r r' : Int32} {na2 : Nat} {nu2 : Nat} {kd2 : Nat → Int32} {dp2 : Nat → Int32} {cl2 : Nat → Int32} {sa2 : Nat → Int32} {ln2 : Nat → Int32} {bt2 : Nat → Int64} {na3 : Nat} {ne3 : Nat} {kd3 : Nat → Int32} {dp3 : Nat → Int32} {cl3 : Nat → Int32} {sa3 : Nat → Int32} {ln3 : Nat → Int32} {bt3 : Nat → Int64} {pn3 : Nat → Int32} (hM : zz_MI na ne dp sa ln btM) (hk : zz_KC na kd cl) (h : zz_R1 na ne dp sa ln btX btM pn) (fr : r = sp_dR na ne dp sa ln btX x1) (fx : (na2, nu2, kd2, dp2, cl2, sa2, ln2, bt2) = if r < 0 then (na, ne, kd, dp, cl, sa, ln, btX) else sp_tw kd cl (zz_nf sa) (zz_nf ln) (zz_rw sa btX) (zz_nf dp x1.toNatClampNeg) x1.toNatClampNeg (na, ne, kd, dp, cl, sa, ln, btX)) (fr' : r' = sp_dR na ne dp sa ln btM x1) (fm : (na3, ne3, kd3, dp3, cl3, sa3, ln3, bt3) = if r' < 0 then (na, ne, kd, dp, cl, sa, ln, btM) else sp_tF kd cl (zz_nf sa) (zz_nf ln) (zz_rw sa btM) (zz_nf dp x1.toNatClampNeg - 0) x1.toNatClampNeg ne (zz_nf ln x1.toNatClampNeg - 0) 0 (sp_co kd cl (zz_nf sa) (zz_nf ln) (zz_nf dp x1.toNatClampNeg) x1.toNatClampNeg (na, ne, kd, dp, cl, sa, ln, btM))) (fp : pn3 = if r' < 0 then pn else zz_mp pn ne (ne3 - ne)) : r = r' ∧ zz_RL na2 nu2 kd2 dp2 cl2 sa2 ln2 bt2 pn na3 ne3 kd3 dp3 cl3 sa3 ln3 bt3 pn3 := by
  obtain ⟨hT, hF⟩ := zl_TRm hM
  have hna := hM.1.1
  have hE : ∀ x, x < na → 1 < zz_nf dp x → ∀ i, i < zz_nf ln x → btX (zz_nf sa x + i) = btM (zz_nf sa x + i) := fun x hx hd i hi => by
    obtain ⟨e1, e2, e3⟩ := hF x hx
    obtain ⟨f1, f2, f3, f4⟩ := hT.2.2.1 x hx
    have := hT.2.1
    exact zl_db hM h.1 hx (by rw [e3]; exact zl_n1 (by omega) f4) e1 e2 (by omega) f1 hi
  by_cases c0 : fn_co_has (nI na) x1 = 0
  · unfold sp_dR at fr fr'
    rw [if_pos c0] at fr fr'
    rw [fr, if_pos (by decide)] at fx
    rw [fr', if_pos (by decide)] at fm fp
    cases fx; cases fm
    rw [fp, fr, fr']
    exact ⟨rfl, rfl, rfl, rfl, rfl, rfl, rfl, rfl, rfl, hk, h⟩
  · obtain ⟨a, ha, ea⟩ := zl_has hna c0
    have eA : x1.toNatClampNeg = a := by rw [ea]; exact nI_clamp (by omega)
    have er : r = r' := by
      rw [fr, fr']
      unfold sp_dR
      rw [if_neg c0, if_neg c0, eA]
      have e1 := zz_ct_eq (w := fun _ => 1) hT hE (zz_nf dp a) a ha rfl
      have e2 := zz_ct_eq (w := zz_nf ln) hT hE (zz_nf dp a) a ha rfl
      have e1' : zz_ct (fun _ => 1) (zz_rw sa btX) (zz_nf ln) (zz_nf dp a) a = zz_ct (fun _ => 1) (zz_rw sa btM) (zz_nf ln) (zz_nf dp a) a := e1
      have e2' : zz_ct (zz_nf ln) (zz_rw sa btX) (zz_nf ln) (zz_nf dp a) a = zz_ct (zz_nf ln) (zz_rw sa btM) (zz_nf ln) (zz_nf dp a) a := e2
      have g1 : zz_DF na ne (zz_nf ln) (zz_nf dp) (zz_rw sa btX) a ↔ zz_DF na ne (zz_nf ln) (zz_nf dp) (zz_rw sa btM) a := by
        unfold zz_DF
        rw [e1', e2']
      by_cases g : zz_DF na ne (zz_nf ln) (zz_nf dp) (zz_rw sa btM) a
      · rw [if_pos (g1.mpr g), if_pos g]
      · rw [if_neg (fun z => g (g1.mp z)), if_neg g]
    refine ⟨er, ?_⟩
    rw [er] at fx
    by_cases c : r' < 0
    · rw [if_pos c] at fx fm fp
      cases fx; cases fm
      rw [fp]
      exact ⟨rfl, rfl, rfl, rfl, rfl, rfl, rfl, rfl, hk, h⟩
    · rw [if_neg c] at fx fm fp
      rw [eA] at fx fm
      have hG : ne + zz_ct (zz_nf ln) (zz_rw sa btM) (zz_nf ln) (zz_nf dp a) a ≤ 4000 := by
        by_cases g : zz_DF na ne (zz_nf ln) (zz_nf dp) (zz_rw sa btM) a
        · exact g.2
        · exfalso
          apply c
          rw [fr']
          unfold sp_dR
          rw [if_neg c0, eA, if_neg g]
          decide
      obtain ⟨f1, f2, f3, f4⟩ := hT.2.2.1 a ha
      have fx2 : (na2, nu2, kd2, dp2, cl2, sa2, ln2, bt2) = sp_tw kd cl (zz_nf sa) (zz_nf ln) (fun x i => btM (zz_nf sa x + i)) (zz_nf dp a) a (na, ne, kd, dp, cl, sa, ln, btX) := by
        rw [fx]; exact sp_tw_eq hT hE (zz_nf dp a) a _ ha rfl
      have fm2 : (na3, ne3, kd3, dp3, cl3, sa3, ln3, bt3) = sp_twM kd cl (zz_nf sa) (zz_nf ln) (fun x i => btM (zz_nf sa x + i)) (zz_nf dp a) a (na, ne, kd, dp, cl, sa, ln, btM) := by
        rw [fm, ← sp_tF_M hT (zz_nf dp a) a _ f3 ha rfl (Nat.le_refl _)]; rfl
      have hn := (sp_tw_n kd cl (zz_nf sa) (zz_nf ln) (fun x i => btM (zz_nf sa x + i)) (zz_nf dp a) a (na, ne, kd, dp, cl, sa, ln, btX)).2
      have hR := sp_tw_rt (kd0 := kd) (cl0 := cl) hT (zz_nf dp a) a (na, ne, kd, dp, cl, sa, ln, btX) (na, ne, kd, dp, cl, sa, ln, btM) ha rfl (zz_RT.of h) (by rw [hn]; exact hG)
      rw [← fx2, ← fm2] at hR
      rw [← fx2] at hn
      have hn' : nu2 = ne + zz_ct (zz_nf ln) (fun x i => btM (zz_nf sa x + i)) (zz_nf ln) (zz_nf dp a) a := hn
      have hn2 : nu2 = ne3 := hR.2.1
      have hK := sp_twM_kc hT hk (zz_nf dp a) a (na, ne, kd, dp, cl, sa, ln, btM) ha rfl hk
      rw [← fm2] at hK
      exact hR.rl hK (by rw [fp]; exact zl_mpz (fun j hj => (h.2 j hj).2)) (fun j hj => (h.2 j (by omega)).2)
theorem rl_deep {naX : Nat} {nuX : Nat} {kdX : Nat → Int32} {dpX : Nat → Int32} {clX : Nat → Int32} {saX : Nat → Int32} {lnX : Nat → Int32} {btX : Nat → Int64} {pnX : Nat → Int32} {naM : Nat} {neM : Nat} {kdM : Nat → Int32} {dpM : Nat → Int32} {clM : Nat → Int32} {saM : Nat → Int32} {lnM : Nat → Int32} {btM : Nat → Int64} {pnM : Nat → Int32} {x1 r r' : Int32} {na2 : Nat} {nu2 : Nat} {kd2 : Nat → Int32} {dp2 : Nat → Int32} {cl2 : Nat → Int32} {sa2 : Nat → Int32} {ln2 : Nat → Int32} {bt2 : Nat → Int64} {na3 : Nat} {ne3 : Nat} {kd3 : Nat → Int32} {dp3 : Nat → Int32} {cl3 : Nat → Int32} {sa3 : Nat → Int32} {ln3 : Nat → Int32} {bt3 : Nat → Int64} {pn3 : Nat → Int32} (hM : zz_MI naM neM dpM saM lnM btM) (h : zz_RL naX nuX kdX dpX clX saX lnX btX pnX naM neM kdM dpM clM saM lnM btM pnM) (fr : r = sp_dR naX nuX dpX saX lnX btX x1) (fx : (na2, nu2, kd2, dp2, cl2, sa2, ln2, bt2) = if r < 0 then (naX, nuX, kdX, dpX, clX, saX, lnX, btX) else sp_tw kdX clX (zz_nf saX) (zz_nf lnX) (zz_rw saX btX) (zz_nf dpX x1.toNatClampNeg) x1.toNatClampNeg (naX, nuX, kdX, dpX, clX, saX, lnX, btX)) (fr' : r' = sp_dR naM neM dpM saM lnM btM x1) (fm : (na3, ne3, kd3, dp3, cl3, sa3, ln3, bt3) = if r' < 0 then (naM, neM, kdM, dpM, clM, saM, lnM, btM) else sp_tF kdM clM (zz_nf saM) (zz_nf lnM) (zz_rw saM btM) (zz_nf dpM x1.toNatClampNeg - 0) x1.toNatClampNeg neM (zz_nf lnM x1.toNatClampNeg - 0) 0 (sp_co kdM clM (zz_nf saM) (zz_nf lnM) (zz_nf dpM x1.toNatClampNeg) x1.toNatClampNeg (naM, neM, kdM, dpM, clM, saM, lnM, btM))) (fp : pn3 = if r' < 0 then pnM else zz_mp pnM neM (ne3 - neM)) : r = r' ∧ zz_RL na2 nu2 kd2 dp2 cl2 sa2 ln2 bt2 pnX na3 ne3 kd3 dp3 cl3 sa3 ln3 bt3 pn3 := by
  obtain ⟨rfl, rfl, rfl, rfl, rfl, rfl, rfl, rfl, hk, h⟩ := h
  exact rl0_deep hM hk h fr fx fr' fm fp
