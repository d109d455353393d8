theorem zl_rangeE {ln : Nat → Int32} {a l : Nat} {k j : Int32} (el : ln a = nI l) (hl : l ≤ 200) : (fn_co_hasRange ln a k j = 0 ∧ (fn_cm_within k.toInt64 0 ((nI l).toInt64) = 0 ∨ (¬ fn_cm_within k.toInt64 0 ((nI l).toInt64) = 0 ∧ fn_cm_within j.toInt64 ((nI k.toNatClampNeg).toInt64) ((nI l).toInt64) = 0))) ∨ (¬ fn_co_hasRange ln a k j = 0 ∧ ¬ fn_cm_within k.toInt64 0 ((nI l).toInt64) = 0 ∧ ¬ fn_cm_within j.toInt64 ((nI k.toNatClampNeg).toInt64) ((nI l).toInt64) = 0 ∧ ∃ f t : Nat, k = nI f ∧ j = nI t ∧ f ≤ t ∧ t ≤ l) := by
  by_cases cr : fn_co_hasRange ln a k j = 0
  · refine Or.inl ⟨cr, ?_⟩
    by_cases c1 : fn_cm_within k.toInt64 0 ((nI l).toInt64) = 0
    · exact Or.inl c1
    · refine Or.inr ⟨c1, ?_⟩
      obtain ⟨f, hf, ef⟩ := zl_wi0 (by omega) c1
      rw [ef, nI_clamp (show f < 2 ^ 31 by omega)]
      rcases Decidable.em (fn_cm_within j.toInt64 ((nI f).toInt64) ((nI l).toInt64) = 0) with c2 | c2
      · exact c2
      · exfalso
        obtain ⟨t, h1, h2, et⟩ := zl_wi1 (by omega) (by omega) c2
        unfold fn_co_hasRange at cr
        rw [ef, et, if_neg (nI_pos (by omega)), if_neg (nI_nlt (by omega) (by omega)), el, if_neg (nI_nlt (by omega) (by omega))] at cr
        exact absurd cr (by decide)
  · obtain ⟨f, t, ef, et, h1, h2⟩ := zl_range el hl cr
    refine Or.inr ⟨cr, ?_, ?_, f, t, ef, et, h1, h2⟩
    · rw [ef, zl_win, zl_i2l, nI_toInt (show f < 2 ^ 31 by omega), nI_toInt (show l < 2 ^ 31 by omega), show (0 : Int64).toInt = 0 by decide]; omega
    · rw [ef, et, nI_clamp (show f < 2 ^ 31 by omega), zl_win, zl_i2l, zl_i2l, nI_toInt (show t < 2 ^ 31 by omega), nI_toInt (show f < 2 ^ 31 by omega), nI_toInt (show l < 2 ^ 31 by omega)]; omega
theorem zl_flO {bt : Nat → Int64} {f t j : Nat} {x : Int64} (h : ¬ (f ≤ j ∧ j < t)) : zz_fl bt f t x j = bt j := if_neg h
theorem zl_flI {bt : Nat → Int64} {f t j : Nat} {x : Int64} (h : f ≤ j ∧ j < t) : zz_fl bt f t x j = x := if_pos h
theorem rl0_fill {na : Nat} {ne : Nat} {kd : Nat → Int32} {dp : Nat → Int32} {cl : Nat → Int32} {sa : Nat → Int32} {ln : Nat → Int32} {pn : Nat → Int32} {btX : Nat → Int64} {btM : Nat → Int64} {x1 x2 x3 x4 r r' : Int32} {x5 : Int64} {bt2 bt3 : Nat → Int64} (hM : zz_MI na ne dp sa ln btM) (hk : zz_KC na kd cl) (h : zz_R1 na ne dp sa ln btX btM pn) (fx : (r, bt2) = fo_cx_fill na ne kd dp cl sa ln btX pn x1 x2 x3 x4 x5) (fm : (r', bt3) = fo_my_fill na ne kd dp ln cl sa btM pn x1 x2 x3 x4 x5) (hQ : zz_Q na kd dp sa ln btX btM) : zz_Q na kd dp sa ln bt2 bt3 := by
  unfold fo_cx_fill at fx
  unfold fo_my_fill at fm
  by_cases c : fn_cm_isArray (nI na) x1 = 0
  · rw [if_pos (zl_isN hM.1.1 c)] at fx
    rw [if_pos c] at fm
    cases fx; cases fm
    exact hQ
  have c' : ¬ fn_co_has (nI na) x1 = 0 := fun q => c (zl_isH hM.1.1 q)
  obtain ⟨a, ha, e⟩ := zl_isA hM.1.1 c
  have hna := hM.1.1
  have hne := hM.1.2.1
  have ea : x1.toNatClampNeg = a := by rw [e]; exact nI_clamp (by omega)
  obtain ⟨s, l, d, es, el, ed, g1, g2, g3, g4⟩ := hM.1.2.2 a ha
  have eD : (dp a).toNatClampNeg = d := by rw [ed]; exact nI_clamp (by omega)
  have eL : (ln a).toNatClampNeg = l := by rw [el]; exact nI_clamp (by omega)
  have eS : (sa a).toNatClampNeg = s := by rw [es]; exact nI_clamp (by omega)
  obtain ⟨k, ek, hk8, hc⟩ := hk a ha
  rw [if_neg c', ea, eD, eS] at fx
  rw [if_neg c, ea, eD, eL, eS] at fm
  by_cases c4 : fn_cm_within x4.toInt64 0 8 = 0
  · rw [if_pos c4] at fm
    have w : fn_co_holds x4 x5 = 0 := by unfold fn_co_holds; exact if_pos ((zl_kind x4).mpr c4)
    rw [if_pos w] at fx
    cases fx; cases fm
    exact hQ
  rw [if_neg c4] at fm
  obtain ⟨j, hj, ej⟩ := zl_08 c4
  have hh := zl_holds hj x5
  rw [← ej] at hh
  rw [hh] at fx
  by_cases cb : fn_cm_isBits x4 x5 = 0
  · rw [if_pos cb] at fx fm
    cases fx; cases fm
    exact hQ
  rw [if_neg cb] at fx fm
  by_cases d1 : d = 1
  rotate_left
  · rw [if_neg (fun z : nI d = 1 => d1 (zl_inj (y := 1) z (by omega) (by omega)))] at fx
    rw [if_pos (show (1 : Int32) < nI d by rw [show (1 : Int32) = nI 1 by decide, nI_ltI (by decide) (by omega)]; omega)] at fm
    cases fx; cases fm
    exact hQ
  rw [if_pos (show nI d = 1 by rw [d1]; rfl)] at fx
  rw [if_neg (show ¬ (1 : Int32) < nI d by rw [d1]; decide)] at fm
  have hw : fn_co_reaches x4 (kd a) = fn_cm_isWider x4 (kd a) := by rw [ej, ek]; exact zl_wide j hj k (by omega)
  rw [hw] at fx
  by_cases cr : fn_cm_isWider x4 (kd a) = 0
  · rw [if_pos cr] at fx fm
    cases fx; cases fm
    exact hQ
  have hr : ¬ fn_co_reaches (nI j) (kd a) = 0 := by rw [← ej, hw]; exact cr
  rw [if_neg cr] at fx fm
  rcases zl_rangeE (k := x2) (j := x3) el g1 with ⟨r1, r2⟩ | ⟨r1, r2, r3, f, t, e2, e3, hft, htl⟩
  · rw [if_pos r1] at fx
    rcases r2 with r2 | ⟨r2, r3⟩
    · rw [if_pos r2] at fm
      cases fx; cases fm
      exact hQ
    · rw [if_neg r2, if_pos r3] at fm
      cases fx; cases fm
      exact hQ
  rw [if_neg r1] at fx
  rw [if_neg r2, if_neg r3] at fm
  have ef : x2.toNatClampNeg = f := by rw [e2]; exact nI_clamp (by omega)
  have et : x3.toNatClampNeg = t := by rw [e3]; exact nI_clamp (by omega)
  rw [ef, et] at fx fm
  have hcp := zz_cp_le pn (s + f) (t - f)
  by_cases cp : zz_cp pn (s + f) (t - f) = 0
  rotate_left
  · rw [if_neg (nI_nle (by omega) (by omega))] at fx
    rw [if_neg cp, if_neg (show ¬ ((6 : Int32) = 0) by decide), if_neg (show ¬ ((6 : Int32) ≤ 0) by decide)] at fm
    cases fx; cases fm
    exact hQ
  rw [if_pos (by rw [cp]; decide)] at fx
  rw [if_pos cp, if_pos (show (0 : Int32) = 0 from rfl), if_pos (show (0 : Int32) ≤ 0 by decide)] at fm
  have ht := zl_takes (x := x5) hk ha ek hk8 hj hr
  rw [← ej] at ht
  by_cases q : t ≤ f
  · rw [if_pos ((nI_leI (by omega) (by omega)).mpr q)] at fm
    have z0 : ∀ (bt : Nat → Int64) (v : Int64), zz_fl bt (s + f) (s + t) v = bt := fun bt v => funext fun i => zl_flO (by omega)
    rw [z0] at fx fm
    by_cases ct : fn_co_takes cl a (fn_co_widened x4 (kd a) (fn_co_cleaned x4 x5)) = 0
    · rw [if_pos ct] at fx
      cases fx; cases fm
      exact hQ
    · rw [if_neg ct] at fx
      cases fx; cases fm
      exact hQ
  · rw [if_neg (fun z => q ((nI_leI (by omega) (by omega)).mp z))] at fm
    by_cases ct : fn_cm_takes kd cl a x5 = 0
    · rw [if_pos (ht.mpr ct)] at fx
      rw [if_pos ct] at fm
      cases fx; cases fm
      exact hQ
    · rw [if_neg (fun z => ct (ht.mp z))] at fx
      rw [if_neg ct] at fm
      cases fx; cases fm
      rw [ek] at hr
      rw [ej] at cb
      rw [ej, ek, zl_wid x5 (by omega) hk8 hr]
      have ok := zl_okW (by omega) hk8 hr cb
      obtain ⟨e', hv⟩ := hQ
      refine ⟨by rw [e'], hv.of hM ha es el (by omega) g1 (fun i hi => zl_flO (by omega)) (fun i hi => ?_)⟩
      by_cases w : f ≤ i ∧ i < t
      · rw [zl_flI (by omega)]; exact zz_vo.d1 (by rw [ed, d1]) ek hk8 ok
      · rw [zl_flO (by omega)]; exact hv a s l ha es el (by omega) g1 i hi
theorem zl_psR {R R' : Int64 → Int64} {bt : Nat → Int64} {f : Nat} {rv : Int64} : ∀ i, (∀ j, f ≤ j → j < i → R (bt j) = R' (bt j)) → zz_ps R bt f rv i = zz_ps R' bt f rv i
  | 0, _ => rfl
  | i + 1, h => by
    rw [zz_ps, zz_ps]
    by_cases c : i + 1 ≤ f
    · rw [if_pos c, if_pos c]
    · rw [if_neg c, if_neg c, h i (by omega) (by omega), zl_psR i (fun j h1 h2 => h j h1 (by omega))]
theorem zl_psB {R : Int64 → Int64} {bt : Nat → Int64} {f : Nat} {rv : Int64} : ∀ i, f ≤ i → f ≤ zz_ps R bt f rv i ∧ zz_ps R bt f rv i ≤ i
  | 0, h => by rw [zz_ps]; exact ⟨h, Nat.le_refl _⟩
  | i + 1, h => by
    rw [zz_ps]
    by_cases c : i + 1 ≤ f
    · rw [if_pos c]; exact ⟨h, Nat.le_refl _⟩
    · rw [if_neg c]
      by_cases d : R (bt i) ≤ rv
      · rw [if_pos d]; exact ⟨h, Nat.le_refl _⟩
      · rw [if_neg d]
        have z := zl_psB (R := R) (bt := bt) (rv := rv) i (show f ≤ i by omega)
        exact ⟨z.1, by omega⟩
theorem zl_insP {P : Int64 → Prop} {bt : Nat → Int64} {f p t n : Nat} (h : ∀ j, f ≤ j → j < n → P (bt j)) (h1 : f ≤ p) (h2 : p ≤ t) (h3 : t < n) : ∀ j, f ≤ j → j < n → P (zz_ins bt p t j) := fun j g1 g2 => by
  unfold zz_ins
  by_cases c : j = p
  · rw [if_pos c]; exact h t (by omega) h3
  · rw [if_neg c]
    by_cases d : p < j ∧ j ≤ t
    · rw [if_pos d]; exact h (j - 1) (by omega) (by omega)
    · rw [if_neg d]; exact h j g1 g2
theorem zl_insO {bt : Nat → Int64} {p t j : Nat} (h : j < p ∨ t < j) (h2 : p ≤ t) : zz_ins bt p t j = bt j := by
  unfold zz_ins
  rw [if_neg (by omega), if_neg (by omega)]
theorem zl_isE {R R' : Int64 → Int64} {f : Nat} : ∀ (m t : Nat) (bt : Nat → Int64), f ≤ t → (∀ j, f ≤ j → j < t + m → R (bt j) = R' (bt j)) → sp_is R f m t bt = sp_is R' f m t bt
  | 0, _, _, _, _ => rfl
  | m + 1, t, bt, ht, h => by
    obtain ⟨b1, b2⟩ := zl_psB (R := R') (bt := bt) (rv := R' (bt t)) t ht
    rw [sp_is, sp_is, h t ht (by omega), zl_psR t (fun j h1 h2 => h j h1 (by omega))]
    exact zl_isE m (t + 1) _ (by omega) (zl_insP (P := fun x => R x = R' x) (n := t + 1 + m) (fun j h1 h2 => h j h1 (by omega)) b1 b2 (by omega))
theorem zl_isP {R : Int64 → Int64} {P : Int64 → Prop} {f : Nat} : ∀ (m t : Nat) (bt : Nat → Int64), f ≤ t → (∀ j, f ≤ j → j < t + m → P (bt j)) → ∀ j, f ≤ j → j < t + m → P (sp_is R f m t bt j)
  | 0, _, _, _, h => h
  | m + 1, t, bt, ht, h => by
    obtain ⟨b1, b2⟩ := zl_psB (R := R) (bt := bt) (rv := R (bt t)) t ht
    rw [sp_is]
    intro j h1 h2
    exact zl_isP m (t + 1) _ (by omega) (zl_insP (n := t + 1 + m) (fun j h1 h2 => h j h1 (by omega)) b1 b2 (by omega)) j h1 (by omega)
theorem zl_isO {R : Int64 → Int64} {f : Nat} : ∀ (m t : Nat) (bt : Nat → Int64), f ≤ t → ∀ j, j < f ∨ t + m ≤ j → sp_is R f m t bt j = bt j
  | 0, _, _, _, _, _ => rfl
  | m + 1, t, bt, ht, j, hj => by
    obtain ⟨b1, b2⟩ := zl_psB (R := R) (bt := bt) (rv := R (bt t)) t ht
    rw [sp_is, zl_isO m (t + 1) _ (by omega) j (by omega)]
    exact zl_insO (by omega) b2
theorem zl_cdce {bt bt0 : Nat → Int64} {s f : Nat} : ∀ (m i : Nat) (w : Int32), sp_cd bt (zz_sft bt0 (s + f)) (s + f) m i w = sp_ce bt bt0 s m (f + i) w
  | 0, _, _ => rfl
  | m + 1, i, w => by
    rw [sp_cd, sp_ce, show s + (f + i) = s + f + i by omega, show zz_sft bt0 (s + f) i = bt0 (s + f + i) from rfl]
    by_cases c : bt (s + f + i) = bt0 (s + f + i)
    · rw [if_pos c, if_pos c.symm, Int32.add_zero, zl_cdce m (i + 1) w]; rfl
    · rw [if_neg c, if_neg (fun z => c z.symm), zl_cdce m (i + 1) (w + 1)]; rfl
theorem rl0_sort {na : Nat} {ne : Nat} {kd : Nat → Int32} {dp : Nat → Int32} {cl : Nat → Int32} {sa : Nat → Int32} {ln : Nat → Int32} {pn : Nat → Int32} {btX : Nat → Int64} {btM : Nat → Int64} {bf : Nat → Int64} {x1 x2 x3 r r' : Int32} {bt2 bt3 : Nat → Int64} (hM : zz_MI na ne dp sa ln btM) (hk : zz_KC na kd cl) (h : zz_R1 na ne dp sa ln btX btM pn) (fx : (r, bt2) = fo_cx_sort na ne kd dp sa ln btX pn bf x1 x2 x3) (fm : (r', bt3) = fo_my_sort na ne kd dp ln sa btM pn x1 x2 x3) (hQ : zz_Q na kd dp sa ln btX btM) : r = r' ∧ zz_Q na kd dp sa ln bt2 bt3 := by
  unfold fo_cx_sort at fx
  unfold fo_my_sort at fm
  by_cases c : fn_cm_isArray (nI na) x1 = 0
  · rw [if_pos (zl_isN hM.1.1 c)] at fx
    rw [if_pos c] at fm
    cases fx; cases fm
    exact ⟨rfl, hQ⟩
  have c' : ¬ fn_co_has (nI na) x1 = 0 := fun q => c (zl_isH hM.1.1 q)
  obtain ⟨a, ha, e⟩ := zl_isA hM.1.1 c
  have hna := hM.1.1
  have hne := hM.1.2.1
  have ea : x1.toNatClampNeg = a := by rw [e]; exact nI_clamp (by omega)
  obtain ⟨s, l, d, es, el, ed, g1, g2, g3, g4⟩ := hM.1.2.2 a ha
  have eD : (dp a).toNatClampNeg = d := by rw [ed]; exact nI_clamp (by omega)
  have eL : (ln a).toNatClampNeg = l := by rw [el]; exact nI_clamp (by omega)
  have eS : (sa a).toNatClampNeg = s := by rw [es]; exact nI_clamp (by omega)
  obtain ⟨k, ek, hk8, hc⟩ := hk a ha
  rw [if_neg c', ea, eD, eS] at fx
  rw [if_neg c, ea, eD, eL, eS] at fm
  by_cases d1 : d = 1
  rotate_left
  · rw [if_neg (fun z : nI d = 1 => d1 (zl_inj (y := 1) z (by omega) (by omega)))] at fx
    rw [if_neg (show ¬ nI d ≤ 1 by rw [show (1 : Int32) = nI 1 by decide, nI_leI (by omega) (by decide)]; omega)] at fm
    cases fx; cases fm
    exact ⟨rfl, hQ⟩
  rw [if_pos (show nI d = 1 by rw [d1]; rfl)] at fx
  rw [if_pos (show nI d ≤ 1 by rw [d1]; decide)] at fm
  rcases zl_rangeE (k := x2) (j := x3) el g1 with ⟨r1, r2⟩ | ⟨r1, r2, r3, f, t, e2, e3, hft, htl⟩
  · rw [if_pos r1] at fx
    rcases r2 with r2 | ⟨r2, r3⟩
    · rw [if_pos r2] at fm
      cases fx; cases fm
      exact ⟨rfl, hQ⟩
    · rw [if_neg r2, if_pos r3] at fm
      cases fx; cases fm
      exact ⟨rfl, hQ⟩
  rw [if_neg r1] at fx
  rw [if_neg r2, if_neg r3] at fm
  have ef : x2.toNatClampNeg = f := by rw [e2]; exact nI_clamp (by omega)
  have et : x3.toNatClampNeg = t := by rw [e3]; exact nI_clamp (by omega)
  rw [ef, et] at fx fm
  have hcp := zz_cp_le pn (s + f) (t - f)
  by_cases cp : zz_cp pn (s + f) (t - f) = 0
  rotate_left
  · rw [if_neg (nI_nle (by omega) (by omega))] at fx
    rw [if_neg cp, if_neg (show ¬ ((6 : Int32) ≤ 0) by decide)] at fm
    cases fx; cases fm
    exact ⟨rfl, hQ⟩
  rw [if_pos (by rw [cp]; decide)] at fx
  rw [if_pos cp, if_pos (show (0 : Int32) ≤ 0 by decide)] at fm
  cases fx; cases fm
  obtain ⟨e', hv⟩ := hQ
  subst e'
  have hV : ∀ j, s + f ≤ j → j < s + t → zz_vo na kd dp a (btX j) := fun j h1 h2 => by
    have z := hv a s l ha es el (by omega) g1 (j - s) (by omega)
    rw [show s + (j - s) = j by omega] at z
    exact z
  have hR : ∀ j, s + f ≤ j → j < s + t → fn_co_rank (kd a) (btX j) = fn_cm_orderNumber (kd a) (btX j) := fun j h1 h2 => by
    have z := (hV j h1 h2).1 (by rw [ed, d1]) k ek hk8
    rw [ek]
    exact zl_rank hk8 z
  have eI : sp_is (fn_co_rank (kd a)) (s + f) (t - f - 1) (s + f + 1) btX = sp_is (fn_cm_orderNumber (kd a)) (s + f) (t - (f + 1)) (s + (f + 1)) btX := by
    rw [show t - f - 1 = t - (f + 1) by omega]
    by_cases z : t ≤ f
    · rw [show t - (f + 1) = 0 by omega]; rfl
    · exact zl_isE (t - (f + 1)) (s + (f + 1)) btX (by omega) (fun j h1 h2 => hR j h1 (by omega))
  refine ⟨?_, eI, ?_⟩
  · rw [eI]; exact zl_cdce (t - f) 0 0
  · by_cases z : t ≤ f
    · rw [show t - (f + 1) = 0 by omega]; exact hv
    · refine hv.of hM ha es el (by omega) g1 (fun j hj => zl_isO _ _ _ (by omega) j (by omega)) (fun i hi => ?_)
      by_cases w : f ≤ i ∧ i < t
      · exact zl_isP (P := fun x => zz_vo na kd dp a x) _ _ _ (by omega) (fun j h1 h2 => hV j h1 (by omega)) (s + i) (by omega) (by omega)
      · rw [zl_isO _ _ _ (by omega) (s + i) (by omega)]; exact hv a s l ha es el (by omega) g1 i hi
theorem rl0_chooseQ {na ne nd : Nat} {kd dp cl sa ln pn pl sl da dq co : Nat → Int32} {ca btX btM : Nat → Int64} {x1 x2 r r' : Int32} {bt2 bt3 : Nat → Int64} (hM : zz_MI na ne dp sa ln btM) (hk : zz_KC na kd cl) (hC : zz_CI na nd sa ln pl sl co) (hP : zz_DP nd pl nd da dq) (hD : zz_MD na nd dp sa ln da dq co) (hN : zz_CV nd kd da co ca) (fx : (r, bt2) = fo_cx_choose na ne nd btX pn sl co ca dp sa ln pl x1 x2) (fm : (r', bt3) = fo_my_choose nd sa btM pn da dq co ca ln x1 x2) (hQ : zz_Q na kd dp sa ln btX btM) : zz_Q na kd dp sa ln bt2 bt3 := by
  have h24 := hC.1
  unfold fo_cx_choose at fx
  unfold fo_my_choose at fm
  by_cases c : fn_cm_isDecision (nI nd) x1 = 0
  · rw [if_pos (zl_hc0 (zl_dN h24 c))] at fx
    rw [if_pos c] at fm
    cases fx; cases fm
    exact hQ
  obtain ⟨d, hd, ed⟩ := zl_isD h24 c
  have ed2 : x1.toNatClampNeg = d := by rw [ed]; exact nI_clamp (by omega)
  obtain ⟨b, q, g1, g2, g3, g4, g5, g6, g7⟩ := zl_dbq hP hd
  obtain ⟨hb, sz, n, es, hs, ez, ec, hn⟩ := zl_dci hC hd g5 g6 g7
  have eC : (co d).toNatClampNeg = n := by rw [ec]; exact nI_clamp (by omega)
  have eda : da d = nI b := by
    obtain ⟨b0, q0, p1, p2, p3, p4, p5⟩ := hP.2 d hd
    rw [p2] at g3 ⊢
    rw [← g3, nI_clamp (by omega)]
  rw [zl_hcE (fun z => c (zl_dH h24 z)) ed2, ed2, g1, g2] at fx
  rw [if_neg c, ed2, eC, g3, g4] at fm
  by_cases z : fn_cm_within x2.toInt64 0 ((nI n - 1).toInt64) = 0
  · rw [if_pos (zl_hpN ec (by omega) z)] at fx
    rw [if_pos z] at fm
    cases fx; cases fm
    exact hQ
  obtain ⟨j, hj, ej⟩ := zl_wi (n := n) (by omega) z
  rw [if_neg (zl_hpY ec (by omega) ej hj)] at fx
  rw [if_neg z] at fm
  by_cases p : pn ((sa b).toNatClampNeg + q) = 0
  rotate_left
  · rw [if_neg p] at fx fm
    cases fx; cases fm
    exact hQ
  rw [if_pos p] at fx fm
  cases fx; cases fm
  obtain ⟨b', q', sz', lz', n', e1, e2, e3, e4, e5, e6, e7, e8, e9, e10, e11, e12⟩ := hD.2 d hd
  have w1 : b' = b := zl_inj (e1.symm.trans eda) (by omega) (by omega)
  have w2 : q' = q := by rw [← g4, e2, nI_clamp (by omega)]
  rw [w1] at e3 e5 e6 e10
  have ejn : x2.toNatClampNeg = j := by rw [ej]; exact nI_clamp (by omega)
  obtain ⟨k, ek, hk8, -⟩ := hk b hb
  rw [e5, nI_clamp (show sz' < 2 ^ 31 by omega), ejn, Nat.mul_comm d 16]
  exact hQ.wr hM hb e5 e6 (by omega) e8 (by omega) (zz_vo.d1 e10 ek hk8 (hN d b n k j hd eda g6 ec hn ek hk8 hj))
theorem zl_tkC {pn sl sl' co : Nat → Int32} {ca : Nat → Int64} : ∀ (K l : Nat) (bt : Nat → Int64), (∀ d, d < K → (sl d).toNatClampNeg = (sl' d).toNatClampNeg) → sp_tkw pn sl co ca K l bt = sp_tkw pn sl' co ca K l bt
  | 0, _, _, _ => rfl
  | K + 1, l, bt, h => by
    rw [sp_tkw, sp_tkw, h K (Nat.lt_succ_self K)]
    by_cases f : fn_co_isFree pn (co K).toNatClampNeg (sl' K).toNatClampNeg = 0
    · rw [if_pos f, if_pos f]; exact zl_tkC K l bt (fun d hd => h d (by omega))
    · rw [if_neg f, if_neg f]; exact zl_tkC K _ _ (fun d hd => h d (by omega))
theorem zl_frp {pn : Nat → Int32} {n z : Nat} (h : ¬ fn_co_isFree pn n z = 0) : 0 < n := by
  rcases Nat.eq_zero_or_pos n with e | e
  · rw [e] at h; exact absurd zl_frn h
  · exact e
theorem zl_tkV {na ne nd : Nat} {kd dp cl sa ln pn sl da dq co : Nat → Int32} {ca bt1 : Nat → Int64} (hM : zz_MI na ne dp sa ln bt1) (hk : zz_KC na kd cl) (hD : zz_MD na nd dp sa ln da dq co) (hN : zz_CV nd kd da co ca) (hs : ∀ d, d < nd → (sl d).toNatClampNeg = (zz_sM sa da dq d).toNatClampNeg) : ∀ (K l : Nat) (bt : Nat → Int64), K ≤ nd → zz_EV na kd dp sa ln bt → zz_EV na kd dp sa ln (sp_tkw pn sl co ca K l bt)
  | 0, _, _, _, h => h
  | K + 1, l, bt, hK, h => by
    rw [sp_tkw]
    by_cases f : fn_co_isFree pn (co K).toNatClampNeg (sl K).toNatClampNeg = 0
    · rw [if_pos f]; exact zl_tkV hM hk hD hN hs K l bt (by omega) h
    · rw [if_neg f]
      refine zl_tkV hM hk hD hN hs K _ _ (by omega) ?_
      obtain ⟨b, q, sz, lz, n, e1, e2, e3, e4, e5, e6, e7, e8, e9, e10, e11, e12⟩ := hD.2 K (by omega)
      have en : (co K).toNatClampNeg = n := by rw [e11]; exact nI_clamp (by omega)
      rw [en] at f
      have hn0 : 0 < n := zl_frp f
      have ez : (sl K).toNatClampNeg = sz + q := by rw [hs K (by omega), zl_sMe e1 e2 e5 e4 (by omega) (by omega)]
      obtain ⟨k, ek, hk8, -⟩ := hk b e3
      have hm := Nat.mod_lt l hn0
      rw [ez, en, Nat.mul_comm K 16]
      have w : zz_Q na kd dp sa ln bt bt := ⟨rfl, h⟩
      exact (w.wr hM e3 e5 e6 (by omega) e8 e9 (zz_vo.d1 e10 ek hk8 (hN K b n k (l % n) (by omega) e1 e4 e11 e12 ek hk8 hm))).2
/-- what is judged -/
theorem zl_jV {na ne nr : Nat} {kd dp cl sa ln ju : Nat → Int32} {bt : Nat → Int64} (hS : zz_SI na ne dp sa ln) (hk : zz_KC na kd cl) (hR : zz_RI na nr ju sa ln) (hJ : zz_RD nr ju dp) (hv : zz_EV na kd dp sa ln bt) : ∀ r, r < nr → ∃ k : Nat, kd (ju r).toNatClampNeg = nI k ∧ k ≤ 8 ∧ ∀ i, i < (ln (ju r).toNatClampNeg).toNatClampNeg → zz_ok k (bt ((sa (ju r).toNatClampNeg).toNatClampNeg + i)) := fun r hr => by
  obtain ⟨a, sz, lz, e1, e2, e3, e4, e5, e6, e7⟩ := hR.2 r hr
  obtain ⟨k, ek, hk8, -⟩ := hk a e2
  rw [e1, nI_clamp (show a < 2 ^ 31 by omega), e4, e5, nI_clamp (show sz < 2 ^ 31 by omega), nI_clamp (show lz < 2 ^ 31 by omega)]
  exact ⟨k, ek, hk8, fun i hi => (hv a sz lz e2 e4 e5 (by omega) e7 i hi).1 (hJ r a hr e1 e3) k ek hk8⟩
theorem zl_scQ {na ne nr : Nat} {kd dp cl sa ln so we ju : Nat → Int32} {lo hi bt : Nat → Int64} (hS : zz_SI na ne dp sa ln) (hk : zz_KC na kd cl) (hR : zz_RI na nr ju sa ln) (hO : zz_SO nr so) (hJ : zz_RD nr ju dp) (hv : zz_EV na kd dp sa ln bt) : zz_sc so we ju lo hi kd sa ln nr bt = sp_ts kd bt so ju we lo hi sa ln nr 0 0 := zl_scT hR hO (zl_jV hS hk hR hJ hv) nr 0 0 (by omega)
theorem rl0_bestQ {na ne nd nr : Nat} {kd dp cl sa ln pn pl sl da dq co so ju we : Nat → Int32} {ca lo hi btX btM bt2 bt3 : Nat → Int64} (hM : zz_MI na ne dp sa ln btM) (hk : zz_KC na kd cl) (hC : zz_CI na nd sa ln pl sl co) (hP : zz_DP nd pl nd da dq) (hD : zz_MD na nd dp sa ln da dq co) (hN : zz_CV nd kd da co ca) (hR : zz_RI na nr ju sa ln) (hO : zz_SO nr so) (hJ : zz_RD nr ju dp) (fx : bt2 = if zz_wy (zz_cX pn sl co) nd 0 1 ≤ 5000 then sp_tkw pn sl co ca nd (zz_ar (fun w => zz_sc so we ju lo hi kd sa ln nr (sp_tkw pn sl co ca nd w btX)) (zz_wy (zz_cX pn sl co) nd 0 1 - 1)).1 btX else btX) (fm : bt3 = if zz_wy (zz_cM pn sa da dq co) nd 0 1 ≤ 5000 then sp_tkw pn (zz_sM sa da dq) co ca nd (zz_ar (fun w => sp_ts kd (sp_tkw pn (zz_sM sa da dq) co ca nd w btM) so ju we lo hi sa ln nr 0 0) (zz_wy (zz_cM pn sa da dq co) nd 0 1 - 1)).1 btM else btM) (hQ : zz_Q na kd dp sa ln btX btM) : zz_Q na kd dp sa ln bt2 bt3 := by
  obtain ⟨e, hv⟩ := hQ
  subst e
  have hs : ∀ d, d < nd → (sl d).toNatClampNeg = (zz_sM sa da dq d).toNatClampNeg := fun d hd => zl_slM hC hP hd
  have eT : ∀ w, sp_tkw pn sl co ca nd w btX = sp_tkw pn (zz_sM sa da dq) co ca nd w btX := fun w => zl_tkC nd w btX hs
  have eS : (fun w => zz_sc so we ju lo hi kd sa ln nr (sp_tkw pn sl co ca nd w btX)) = (fun w => sp_ts kd (sp_tkw pn (zz_sM sa da dq) co ca nd w btX) so ju we lo hi sa ln nr 0 0) := funext fun w => by
    rw [← eT w]
    exact zl_scQ hM.1 hk hR hO hJ (zl_tkV hM hk hD hN hs nd w btX (Nat.le_refl _) hv)
  rw [eS, zl_ways hC hP, eT] at fx
  refine ⟨fx.trans fm.symm, ?_⟩
  rw [fm]
  by_cases c : zz_wy (zz_cM pn sa da dq co) nd 0 1 ≤ 5000
  · rw [if_pos c]; exact zl_tkV hM hk hD hN (fun d hd => rfl) nd _ btX (Nat.le_refl _) hv
  · rw [if_neg c]; exact hv
theorem zl_plS {k : Nat} {x : Int64} (h : zz_ok k x) : fn_co_cleaned (nI k) x = x := h.2
theorem rl0_read {na : Nat} {ne : Nat} {kd : Nat → Int32} {dp : Nat → Int32} {cl : Nat → Int32} {sa : Nat → Int32} {ln : Nat → Int32} {pn : Nat → Int32} {btX : Nat → Int64} {btM : Nat → Int64} {x1 x2 x3 x4 x5 x6 : Int32} (hM : zz_MI na ne dp sa ln btM) (hk : zz_KC na kd cl) (h : zz_R1 na ne dp sa ln btX btM pn) (hQ : zz_Q na kd dp sa ln btX btM) : fn_cx_read na ne kd dp sa ln btX x1 x2 x3 x4 x5 x6 = fn_my_read na ne kd dp ln sa btM x1 x2 x3 x4 x5 x6 := by
  obtain ⟨e', hv⟩ := hQ
  subst e'
  unfold fn_cx_read fn_my_read
  by_cases c : fn_cm_isArray (nI na) x1 = 0
  · rw [if_pos (zl_isN hM.1.1 c), if_pos c]
  have c' : ¬ fn_co_has (nI na) x1 = 0 := fun q => c (zl_isH hM.1.1 q)
  obtain ⟨a, ha, e⟩ := zl_isA hM.1.1 c
  have hna := hM.1.1
  have hne := hM.1.2.1
  have ea : x1.toNatClampNeg = a := by rw [e]; exact nI_clamp (by omega)
  rw [if_neg c', if_neg c, ea]
  by_cases c6 : fn_cm_within x6.toInt64 0 8 = 0
  · rw [if_pos ((zl_kind x6).mpr c6), if_pos c6]
  rw [if_neg (fun q => c6 ((zl_kind x6).mp q)), if_neg c6]
  obtain ⟨j, hj, ej⟩ := zl_08 c6
  obtain ⟨k, ek, hk8, -⟩ := hk a ha
  rcases zl_walkres (bt := btX) hM.1 (zz_pa x2 x3 x4 x5) 4 a 0 ha with q | q | ⟨b, i, sz, lz, q, h1, h2, h3, h4, h5, h6, h7, h8⟩
  · rw [q, if_neg (by decide), if_neg (by decide), if_neg (by decide)]
  · rw [q, if_neg (by decide), if_neg (by decide), if_neg (by decide)]
  · obtain ⟨k1, k2, k3⟩ := zl_wN h2 (show i < 200 by omega)
    have ekb : kd b = nI k := (zl_walkkd hM.1 hv _ 4 a 0 b i ha q h2 (by omega)).trans ek
    have ok := (hv b sz lz h1 h4 h5 (by omega) h7 i h6).1 h3 k ekb hk8
    have eS : (sa b).toNatClampNeg = sz := by rw [h4]; exact nI_clamp (by omega)
    rw [q, if_pos k1, zl_fc0 h2 (show i < 200 by omega), if_pos (show (0 : Int32) = 0 from rfl), if_pos (show (0 : Int32) ≤ 0 by decide), k2, k3, eS]
    have hw : fn_co_reaches (kd a) x6 = fn_cm_isWider (kd a) x6 := by rw [ej, ek]; exact zl_wide k (by omega) j hj
    rw [hw]
    by_cases cr : fn_cm_isWider (kd a) x6 = 0
    · rw [if_pos cr, if_pos cr]
    · rw [if_neg cr, if_neg cr]
      rw [← hw, ek, ej] at cr
      have z := zl_wid (btX (sz + i)) hk8 (by omega) cr
      rw [zl_plS ok] at z
      rw [ek, ej]; exact z
theorem rl0_decision {na ne nd : Nat} {dp sa ln pl sl da dq co : Nat → Int32} {ca btX btM : Nat → Int64} {x1 x2 : Int32} (hC : zz_CI na nd sa ln pl sl co) (hP : zz_DP nd pl nd da dq) (e : btX = btM) : fn_cx_decision na ne nd btX pl sl co ca dp sa ln x1 x2 = fn_my_decision nd sa btM da dq co ca ln x1 x2 := by
  subst e
  have h24 := hC.1
  unfold fn_cx_decision fn_my_decision
  by_cases c : fn_cm_isDecision (nI nd) x1 = 0
  · rw [if_pos (zl_dN h24 c), if_pos c]
  obtain ⟨d, hd, ed⟩ := zl_isD h24 c
  have ed2 : x1.toNatClampNeg = d := by rw [ed]; exact nI_clamp (by omega)
  obtain ⟨b, q, g1, g2, g3, g4, g5, g6, g7⟩ := zl_dbq hP hd
  obtain ⟨hb, sz, n, es, hs, ez, ec, hn⟩ := zl_dci hC hd g5 g6 g7
  have eC : (co d).toNatClampNeg = n := by rw [ec]; exact nI_clamp (by omega)
  have eda : da d = nI b := by
    obtain ⟨b0, q0, p1, p2, p3, p4, p5⟩ := hP.2 d hd
    rw [p2] at g3 ⊢
    rw [← g3, nI_clamp (by omega)]
  rw [if_neg (fun z => c (zl_dH h24 z)), if_neg c, ed2, g1, g2, g3, g4, eC, Nat.mul_comm d 16]
  have w := zl_win x2 0 3
  rw [show (0 : Int64).toInt = 0 by decide, show (3 : Int64).toInt = 3 by decide] at w
  by_cases z : fn_cm_within x2.toInt64 0 3 = 0
  · have w1 := w.mp z
    have n : ∀ k : Nat, k ≤ 3 → ¬ x2 = nI k := fun k hk q => by
      rw [q, nI_toInt (by omega)] at w1
      omega
    rw [if_pos z, if_neg (n 0 (by decide)), if_neg (n 1 (by decide)), if_neg (n 2 (by decide)), if_neg (n 3 (by decide))]
  · rw [if_neg z]
    have w1 : ¬ (x2.toInt < 0 ∨ 3 < x2.toInt) := fun q => z (w.mpr q)
    have e0 : (0 : Int32).toInt = 0 := by decide
    have e3 : (3 : Int32).toInt = 3 := by decide
    obtain ⟨k, hk3, ek⟩ := nI_of2 (x := x2) (M := 3) (n := 3) (by decide) (by rw [Int32.lt_iff_toInt_lt]; omega) (by rw [Int32.le_iff_toInt_le]; omega)
    have em : nI (1000 * b + q) - nI (1000 * b + q) / 1000 * 1000 = nI q := zl_rem1000 (by omega) (by omega)
    rw [em, ek]
    rcases (show k = 0 ∨ k = 1 ∨ k = 2 ∨ k = 3 by omega) with rfl | rfl | rfl | rfl
    · rfl
    · rfl
    · rfl
    · rfl
theorem rl0_amount {na ne nr : Nat} {kd dp cl sa ln so ju : Nat → Int32} {lo hi ta btX btM : Nat → Int64} {x1 : Int32} {r : Int64} {ta2 : Nat → Int64} (hS : zz_SI na ne dp sa ln) (hk : zz_KC na kd cl) (hR : zz_RI na nr ju sa ln) (hO : zz_SO nr so) (hJ : zz_RD nr ju dp) (hQ : zz_Q na kd dp sa ln btX btM) (fx : (r, ta2) = fo_cx_amount na ne nr kd sa ln btX so ju lo hi ta dp x1) : r = fn_my_amount nr kd ln sa btM so ju lo hi x1 := by
  obtain ⟨e', hv⟩ := hQ
  subst e'
  unfold fo_cx_amount at fx
  unfold fn_my_amount
  have hr12 := hR.1
  by_cases z : fn_cm_within x1.toInt64 0 ((nI nr - 1).toInt64) = 0
  · rw [if_pos z]
    by_cases c : x1 < 0
    · rw [if_pos c] at fx; cases fx; rfl
    rw [if_neg c] at fx
    by_cases c2 : x1 < nI nr
    · exfalso
      obtain ⟨d, hd, ed⟩ := zl_rng (by omega) c (zl_rlt c2)
      have w := (zl_win x1 0 ((nI nr - 1).toInt64)).mp z
      have e1 : nI nr - 1 = nI (nr - 1) := pk_sub (b := 1) (by omega)
      rw [ed, e1, zl_i2l, nI_toInt (show d < 2 ^ 31 by omega), nI_toInt (show nr - 1 < 2 ^ 31 by omega), show (0 : Int64).toInt = 0 by decide] at w
      omega
    · rw [if_neg c2] at fx; cases fx; rfl
  · rw [if_neg z]
    obtain ⟨d, hd, ed⟩ := zl_wi (n := nr) (by omega) z
    rw [ed, if_neg (nI_pos (by omega)), if_pos (nI_lt hd (by omega)), nI_clamp (show d < 2 ^ 31 by omega)] at fx
    rw [ed, nI_clamp (show d < 2 ^ 31 by omega)]
    obtain ⟨a, sz, lz, e1, e2, e3, e4, e5, e6, e7⟩ := hR.2 d hd
    obtain ⟨k, ek, hk8, -⟩ := hk a e2
    rw [e1, nI_clamp (show a < 2 ^ 31 by omega), e4, e5, nI_clamp (show sz < 2 ^ 31 by omega), nI_clamp (show lz < 2 ^ 31 by omega)] at fx ⊢
    have er : r = fn_co_amountOf so lo hi (fo_co_measure so lo ta kd btX d a sz lz) d := congrArg Prod.fst fx
    rw [er]
    exact zl_amt (hO d hd) ek hk8 e6 (fun i hi => (hv a sz lz e2 e4 e5 (by omega) e7 i hi).1 (hJ d a hd e1 e3) k ek hk8) (by unfold fo_co_measure; exact pk_uLs)
theorem rl_fill {naX : Nat} {nuX : Nat} {kdX : Nat → Int32} {dpX : Nat → Int32} {clX : Nat → Int32} {saX : Nat → Int32} {lnX : Nat → Int32} {btX : Nat → Int64} {pnX : Nat → Int32} {naM : Nat} {neM : Nat} {kdM : Nat → Int32} {dpM : Nat → Int32} {clM : Nat → Int32} {saM : Nat → Int32} {lnM : Nat → Int32} {btM : Nat → Int64} {pnM : Nat → Int32} {x1 x2 x3 x4 r r' : Int32} {x5 : Int64} {bt2 bt3 : Nat → Int64} (hM : zz_MI naM neM dpM saM lnM btM) (h : zz_RL naX nuX kdX dpX clX saX lnX btX pnX naM neM kdM dpM clM saM lnM btM pnM) (fx : (r, bt2) = fo_cx_fill naX nuX kdX dpX clX saX lnX btX pnX x1 x2 x3 x4 x5) (fm : (r', bt3) = fo_my_fill naM neM kdM dpM lnM clM saM btM pnM x1 x2 x3 x4 x5) (hQ : zz_Q naM kdM dpM saM lnM btX btM) : zz_Q naM kdM dpM saM lnM bt2 bt3 := by
  obtain ⟨rfl, rfl, rfl, rfl, rfl, rfl, rfl, rfl, hk, h⟩ := h
  exact rl0_fill hM hk h fx fm hQ
theorem rl_sort {naX : Nat} {nuX : Nat} {kdX : Nat → Int32} {dpX : Nat → Int32} {clX : Nat → Int32} {saX : Nat → Int32} {lnX : Nat → Int32} {btX : Nat → Int64} {pnX : Nat → Int32} {naM : Nat} {neM : Nat} {kdM : Nat → Int32} {dpM : Nat → Int32} {clM : Nat → Int32} {saM : Nat → Int32} {lnM : Nat → Int32} {btM : Nat → Int64} {pnM : Nat → Int32} {bf : Nat → Int64} {x1 x2 x3 r r' : Int32} {bt2 bt3 : Nat → Int64} (hM : zz_MI naM neM dpM saM lnM btM) (h : zz_RL naX nuX kdX dpX clX saX lnX btX pnX naM neM kdM dpM clM saM lnM btM pnM) (fx : (r, bt2) = fo_cx_sort naX nuX kdX dpX saX lnX btX pnX bf x1 x2 x3) (fm : (r', bt3) = fo_my_sort naM neM kdM dpM lnM saM btM pnM x1 x2 x3) (hQ : zz_Q naM kdM dpM saM lnM btX btM) : r = r' ∧ zz_Q naM kdM dpM saM lnM bt2 bt3 := by
  obtain ⟨rfl, rfl, rfl, rfl, rfl, rfl, rfl, rfl, hk, h⟩ := h
  exact rl0_sort hM hk h fx fm hQ
theorem rl_chooseQ {naX : Nat} {nuX : Nat} {kdX : Nat → Int32} {dpX : Nat → Int32} {clX : Nat → Int32} {saX : Nat → Int32} {lnX : Nat → Int32} {btX : Nat → Int64} {pnX : Nat → Int32} {naM : Nat} {neM : Nat} {kdM : Nat → Int32} {dpM : Nat → Int32} {clM : Nat → Int32} {saM : Nat → Int32} {lnM : Nat → Int32} {btM : Nat → Int64} {pnM : Nat → Int32} {ndX ndM : Nat} {plX slX coX daM dqM coM : Nat → Int32} {caX caM : Nat → Int64} {x1 x2 r r' : Int32} {bt2 bt3 : Nat → Int64} (hM : zz_MI naM neM dpM saM lnM btM) (h : zz_RL naX nuX kdX dpX clX saX lnX btX pnX naM neM kdM dpM clM saM lnM btM pnM) (hC : zz_CI naX ndX saX lnX plX slX coX) (hP : zz_DP ndX plX ndM daM dqM) (hG : zz_CA coX caX coM caM) (hD : zz_MD naM ndM dpM saM lnM daM dqM coM) (hN : zz_CV ndM kdM daM coM caM) (fx : (r, bt2) = fo_cx_choose naX nuX ndX btX pnX slX coX caX dpX saX lnX plX x1 x2) (fm : (r', bt3) = fo_my_choose ndM saM btM pnM daM dqM coM caM lnM x1 x2) (hQ : zz_Q naM kdM dpM saM lnM btX btM) : zz_Q naM kdM dpM saM lnM bt2 bt3 := by
  obtain ⟨rfl, rfl, rfl, rfl, rfl, rfl, rfl, rfl, hk, h⟩ := h
  obtain ⟨rfl, hP⟩ := hP
  obtain ⟨rfl, rfl⟩ := hG
  exact rl0_chooseQ hM hk hC ⟨rfl, hP⟩ hD hN fx fm hQ
theorem rl_bestQ {naX : Nat} {nuX : Nat} {kdX : Nat → Int32} {dpX : Nat → Int32} {clX : Nat → Int32} {saX : Nat → Int32} {lnX : Nat → Int32} {btX : Nat → Int64} {pnX : Nat → Int32} {naM : Nat} {neM : Nat} {kdM : Nat → Int32} {dpM : Nat → Int32} {clM : Nat → Int32} {saM : Nat → Int32} {lnM : Nat → Int32} {btM : Nat → Int64} {pnM : Nat → Int32} {ndX ndM : Nat} {plX slX coX daM dqM coM : Nat → Int32} {caX caM : Nat → Int64} {nrX nrM : Nat} {soX juX weX rsM juM weM : Nat → Int32} {loX hiX loM hiM : Nat → Int64} {bt2 bt3 : Nat → Int64} (hM : zz_MI naM neM dpM saM lnM btM) (h : zz_RL naX nuX kdX dpX clX saX lnX btX pnX naM neM kdM dpM clM saM lnM btM pnM) (hC : zz_CI naX ndX saX lnX plX slX coX) (hP : zz_DP ndX plX ndM daM dqM) (hG : zz_CA coX caX coM caM) (hD : zz_MD naM ndM dpM saM lnM daM dqM coM) (hN : zz_CV ndM kdM daM coM caM) (hE : zz_RU nrX soX juX weX loX hiX nrM rsM juM weM loM hiM) (hR : zz_RI naM nrM juM saM lnM) (hO : zz_SO nrX soX) (hJ : zz_RD nrM juM dpM) (fx : bt2 = if zz_wy (zz_cX pnX slX coX) ndX 0 1 ≤ 5000 then sp_tkw pnX slX coX caX ndX (zz_ar (fun w => zz_sc soX weX juX loX hiX kdX saX lnX nrX (sp_tkw pnX slX coX caX ndX w btX)) (zz_wy (zz_cX pnX slX coX) ndX 0 1 - 1)).1 btX else btX) (fm : bt3 = if zz_wy (zz_cM pnM saM daM dqM coM) ndM 0 1 ≤ 5000 then sp_tkw pnM (zz_sM saM daM dqM) coM caM ndM (zz_ar (fun w => sp_ts kdM (sp_tkw pnM (zz_sM saM daM dqM) coM caM ndM w btM) rsM juM weM loM hiM saM lnM nrM 0 0) (zz_wy (zz_cM pnM saM daM dqM coM) ndM 0 1 - 1)).1 btM else btM) (hQ : zz_Q naM kdM dpM saM lnM btX btM) : zz_Q naM kdM dpM saM lnM bt2 bt3 := by
  obtain ⟨rfl, rfl, rfl, rfl, rfl, rfl, rfl, rfl, hk, h⟩ := h
  obtain ⟨rfl, hP⟩ := hP
  obtain ⟨rfl, rfl⟩ := hG
  obtain ⟨rfl, rfl, rfl, rfl, rfl, rfl⟩ := hE
  exact rl0_bestQ hM hk hC ⟨rfl, hP⟩ hD hN hR hO hJ fx fm hQ
theorem rl_read {naX : Nat} {nuX : Nat} {kdX : Nat → Int32} {dpX : Nat → Int32} {clX : Nat → Int32} {saX : Nat → Int32} {lnX : Nat → Int32} {btX : Nat → Int64} {pnX : Nat → Int32} {naM : Nat} {neM : Nat} {kdM : Nat → Int32} {dpM : Nat → Int32} {clM : Nat → Int32} {saM : Nat → Int32} {lnM : Nat → Int32} {btM : Nat → Int64} {pnM : Nat → Int32} {x1 x2 x3 x4 x5 x6 : Int32} (hM : zz_MI naM neM dpM saM lnM btM) (h : zz_RL naX nuX kdX dpX clX saX lnX btX pnX naM neM kdM dpM clM saM lnM btM pnM) (hQ : zz_Q naM kdM dpM saM lnM btX btM) : fn_cx_read naX nuX kdX dpX saX lnX btX x1 x2 x3 x4 x5 x6 = fn_my_read naM neM kdM dpM lnM saM btM x1 x2 x3 x4 x5 x6 := by
  obtain ⟨rfl, rfl, rfl, rfl, rfl, rfl, rfl, rfl, hk, h⟩ := h
  exact rl0_read hM hk h hQ
theorem rl_decision {naX : Nat} {nuX : Nat} {kdX : Nat → Int32} {dpX : Nat → Int32} {clX : Nat → Int32} {saX : Nat → Int32} {lnX : Nat → Int32} {btX : Nat → Int64} {pnX : Nat → Int32} {naM : Nat} {neM : Nat} {kdM : Nat → Int32} {dpM : Nat → Int32} {clM : Nat → Int32} {saM : Nat → Int32} {lnM : Nat → Int32} {btM : Nat → Int64} {pnM : Nat → Int32} {ndX ndM : Nat} {plX slX coX daM dqM coM : Nat → Int32} {caX caM : Nat → Int64} {x1 x2 : Int32} (hM : zz_MI naM neM dpM saM lnM btM) (h : zz_RL naX nuX kdX dpX clX saX lnX btX pnX naM neM kdM dpM clM saM lnM btM pnM) (hC : zz_CI naX ndX saX lnX plX slX coX) (hP : zz_DP ndX plX ndM daM dqM) (hG : zz_CA coX caX coM caM) (hQ : zz_Q naM kdM dpM saM lnM btX btM) : fn_cx_decision naX nuX ndX btX plX slX coX caX dpX saX lnX x1 x2 = fn_my_decision ndM saM btM daM dqM coM caM lnM x1 x2 := by
  obtain ⟨rfl, rfl, rfl, rfl, rfl, rfl, rfl, rfl, hk, h⟩ := h
  obtain ⟨rfl, hP⟩ := hP
  obtain ⟨rfl, rfl⟩ := hG
  exact rl0_decision hC ⟨rfl, hP⟩ hQ.1
theorem rl_amount {naX : Nat} {nuX : Nat} {kdX : Nat → Int32} {dpX : Nat → Int32} {clX : Nat → Int32} {saX : Nat → Int32} {lnX : Nat → Int32} {btX : Nat → Int64} {pnX : Nat → Int32} {naM : Nat} {neM : Nat} {kdM : Nat → Int32} {dpM : Nat → Int32} {clM : Nat → Int32} {saM : Nat → Int32} {lnM : Nat → Int32} {btM : Nat → Int64} {pnM : Nat → Int32} {nrX nrM : Nat} {soX juX weX rsM juM weM : Nat → Int32} {loX hiX loM hiM : Nat → Int64} {ta : Nat → Int64} {x1 : Int32} {r : Int64} {ta2 : Nat → Int64} (hM : zz_MI naM neM dpM saM lnM btM) (h : zz_RL naX nuX kdX dpX clX saX lnX btX pnX naM neM kdM dpM clM saM lnM btM pnM) (hE : zz_RU nrX soX juX weX loX hiX nrM rsM juM weM loM hiM) (hR : zz_RI naM nrM juM saM lnM) (hO : zz_SO nrX soX) (hJ : zz_RD nrM juM dpM) (hQ : zz_Q naM kdM dpM saM lnM btX btM) (fx : (r, ta2) = fo_cx_amount naX nuX nrX kdX saX lnX btX soX juX loX hiX ta dpX x1) : r = fn_my_amount nrM kdM lnM saM btM rsM juM loM hiM x1 := by
  obtain ⟨rfl, rfl, rfl, rfl, rfl, rfl, rfl, rfl, hk, h⟩ := h
  obtain ⟨rfl, rfl, rfl, rfl, rfl, rfl⟩ := hE
  exact rl0_amount hM.1 hk hR hO hJ hQ fx
theorem rl_score {naX : Nat} {nuX : Nat} {kdX : Nat → Int32} {dpX : Nat → Int32} {clX : Nat → Int32} {saX : Nat → Int32} {lnX : Nat → Int32} {btX : Nat → Int64} {pnX : Nat → Int32} {naM : Nat} {neM : Nat} {kdM : Nat → Int32} {dpM : Nat → Int32} {clM : Nat → Int32} {saM : Nat → Int32} {lnM : Nat → Int32} {btM : Nat → Int64} {pnM : Nat → Int32} {nrX nrM : Nat} {soX juX weX rsM juM weM : Nat → Int32} {loX hiX loM hiM : Nat → Int64} (hM : zz_MI naM neM dpM saM lnM btM) (h : zz_RL naX nuX kdX dpX clX saX lnX btX pnX naM neM kdM dpM clM saM lnM btM pnM) (hE : zz_RU nrX soX juX weX loX hiX nrM rsM juM weM loM hiM) (hR : zz_RI naM nrM juM saM lnM) (hO : zz_SO nrX soX) (hJ : zz_RD nrM juM dpM) (hQ : zz_Q naM kdM dpM saM lnM btX btM) : zz_sc soX weX juX loX hiX kdX saX lnX nrX btX = sp_ts kdM btM rsM juM weM loM hiM saM lnM nrM 0 0 := by
  obtain ⟨rfl, rfl, rfl, rfl, rfl, rfl, rfl, rfl, hk, h⟩ := h
  obtain ⟨rfl, rfl, rfl, rfl, rfl, rfl⟩ := hE
  exact (by obtain ⟨e, hv⟩ := hQ; subst e; exact zl_scQ hM.1 hk hR hO hJ hv)
