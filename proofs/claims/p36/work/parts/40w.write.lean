theorem zl_holds {k : Nat} (hk : k < 9) (x : Int64) : fn_co_holds (nI k) x = fn_cm_isBits (nI k) x := by
  have hlo : ¬ x < (-9223372036854775808 : Int64) := by
    rw [Int64.lt_iff_toInt_lt]
    have := x.le_toInt
    have e : (-9223372036854775808 : Int64).toInt = -9223372036854775808 := by decide
    omega
  have hhi : ¬ (9223372036854775807 : Int64) < x := by
    rw [Int64.lt_iff_toInt_lt]
    have := x.toInt_lt
    have e : (9223372036854775807 : Int64).toInt = 9223372036854775807 := by decide
    omega
  rcases (show k = 0 ∨ k = 1 ∨ k = 2 ∨ k = 3 ∨ k = 4 ∨ k = 5 ∨ k = 6 ∨ k = 7 ∨ k = 8 by omega) with rfl | rfl | rfl | rfl | rfl | rfl | rfl | rfl | rfl
  · rfl
  · rfl
  · rfl
  · rfl
  · rfl
  · show (if x < (-9223372036854775808 : Int64) then (0 : Int32) else (if (9223372036854775807 : Int64) < x then 0 else 1)) = 1
    rw [if_neg hlo, if_neg hhi]
  · rfl
  · show (if x < (-9223372036854775808 : Int64) then (0 : Int32) else (if (9223372036854775807 : Int64) < x then 0 else 1)) = 1
    rw [if_neg hlo, if_neg hhi]
  · rfl
theorem zl_reach8 : ∀ a, a < 9 → ¬ fn_co_reaches (nI a) (nI 8) = 0 → a = 8 := by decide +kernel
theorem zl_takes {na a j k : Nat} {kd cl : Nat → Int32} {x : Int64} (hk : zz_KC na kd cl) (ha : a < na) (ek : kd a = nI k) (hk8 : k ≤ 8) (hj : j < 9) (hr : ¬ fn_co_reaches (nI j) (kd a) = 0) : fn_co_takes cl a (fn_co_widened (nI j) (kd a) (fn_co_cleaned (nI j) x)) = 0 ↔ fn_cm_takes kd cl a x = 0 := by
  obtain ⟨k', e1, h8, hc⟩ := hk a ha
  have e2 : k = k' := zl_inj (ek.symm.trans e1) (by omega) (by omega)
  unfold fn_co_takes fn_cm_takes
  by_cases q : k = 8
  · have e8 : kd a = nI 8 := by rw [ek, q]
    rw [e8] at hr ⊢
    have hj8 := zl_reach8 j hj hr
    rw [hj8]
    have w : fn_co_widened (nI 8) (nI 8) (fn_co_cleaned (nI 8) x) = x := rfl
    rw [w, if_neg (show ¬ (nI 8 < 8) by decide)]
    by_cases c1 : cl a = -1
    · rw [if_pos c1]
      by_cases c2 : x = 0
      · rw [if_pos c2]
      · rw [if_neg c2, if_pos c1]
    · rw [if_neg c1]
      by_cases c2 : x = 0
      · rw [if_pos c2, if_pos c2]
      · rw [if_neg c2, if_neg c2, if_neg c1]
  · have c1 : cl a = -1 := hc (by omega)
    have c2 : kd a < 8 := by rw [ek, show (8 : Int32) = nI 8 by decide, nI_ltI (by omega) (by decide)]; omega
    rw [if_pos c1, if_pos c2]
/-- rows are arrays of the same kind: so is where a path ends -/
theorem zl_walkkd {na ne : Nat} {kd dp sa ln : Nat → Int32} {bt : Nat → Int64} (hS : zz_SI na ne dp sa ln) (hv : zz_EV na kd dp sa ln bt) (p : Nat → Int32) : ∀ (s b n b' q : Nat), b < na → sp_walk na dp sa ln bt s b n p = nI (1000 * b' + q) → b' < 60 → q < 1000 → kd b' = kd b
  | 0, b, n, b', q, _, e, h1, h2 => by
    rw [sp_walk] at e
    have z : ¬ nI (1000 * b' + q) < 0 := nI_pos (by omega)
    rw [← e] at z
    exact absurd (by decide) z
  | s + 1, b, n, b', q, hb, e, h1, h2 => by
    rw [sp_walk] at e
    have z : ¬ nI (1000 * b' + q) < 0 := nI_pos (by omega)
    by_cases c1 : fn_co_hasPlace ln b (p n) = 0
    · rw [if_pos c1] at e
      rw [← e] at z
      exact absurd (by decide) z
    rw [if_neg c1] at e
    have hna := hS.1
    have hne := hS.2.1
    obtain ⟨sz, lz, dz, es, el, ed, g1, g2, g3, g4⟩ := hS.2.2 b hb
    obtain ⟨i, ei, hi⟩ := zl_hpLt el g1 c1
    by_cases c2 : dp b = 1
    · rw [if_pos c2, ei, nI_clamp (show i < 2 ^ 31 by omega)] at e
      have w := (nI_eq (by omega) (by omega)).mp e
      rw [show b' = b by omega]
    · rw [if_neg c2, es, ei, nI_clamp (show sz < 2 ^ 31 by omega), nI_clamp (show i < 2 ^ 31 by omega)] at e
      by_cases c3 : fn_co_has (nI na) (bt (sz + i)).toInt32 = 0
      · rw [if_pos c3] at e
        rw [← e] at z
        exact absurd (by decide) z
      rw [if_neg c3] at e
      obtain ⟨r, hr, er⟩ := zl_has hna c3
      have er2 : (bt (sz + i)).toInt32.toNatClampNeg = r := by rw [er]; exact nI_clamp (by omega)
      rw [er2] at e
      rw [zl_walkkd hS hv p s r (n + 1) b' q hr e h1 h2]
      rcases (hv b sz lz hb es el (by omega) g1 i hi).2 (fun w => c2 (by rw [w]; rfl)) with w | ⟨r', hr', er', ek⟩
      · rw [w] at c3; exact absurd zl_hasN c3
      · rw [er', lN_i] at er
        rw [show r = r' from (zl_inj er (by omega) (by omega)).symm]; exact ek
theorem rl0_write {na : Nat} {ne : Nat} {kd : Nat → Int32} {dp : Nat → Int32} {cl : Nat → Int32} {sa : Nat → Int32} {ln : Nat → Int32} {pn : Nat → Int32} {btX : Nat → Int64} {btM : Nat → Int64} {x1 x2 x3 x4 x5 x6 r r' : Int32} {x7 : Int64} {bt2 bt3 : Nat → Int64} (hM : zz_MI na ne dp sa ln btM) (hk : zz_KC na kd cl) (h : zz_R1 na ne dp sa ln btX btM pn) (fx : (r, bt2) = fo_cx_write na ne kd dp cl sa ln btX pn x1 x2 x3 x4 x5 x6 x7) (fm : (r', bt3) = fo_my_write na ne kd dp ln cl sa btM pn x1 x2 x3 x4 x5 x6 x7) : r = r' ∧ (zz_Q na kd dp sa ln btX btM → zz_Q na kd dp sa ln bt2 bt3) := by
  unfold fo_cx_write at fx
  unfold fo_my_write at fm
  by_cases c : fn_cm_isArray (nI na) x1 = 0
  · rw [if_pos (zl_isN hM.1.1 c)] at fx
    rw [if_pos c] at fm
    cases fx; cases fm
    exact ⟨rfl, id⟩
  have c' : ¬ fn_co_has (nI na) x1 = 0 := fun q => c (zl_isH hM.1.1 q)
  obtain ⟨a, ha, e⟩ := zl_isA hM.1.1 c
  have hna := hM.1.1
  have ea : x1.toNatClampNeg = a := by rw [e]; exact nI_clamp (by omega)
  rw [if_neg c', ea, zl_walkeq hM h.1 _ 4 a 0 ha] at fx
  rw [if_neg c, ea] at fm
  by_cases c6 : fn_cm_within x6.toInt64 0 8 = 0
  · rw [if_pos c6] at fm
    have w : fn_co_holds x6 x7 = 0 := by unfold fn_co_holds; exact if_pos ((zl_kind x6).mpr c6)
    rw [if_pos w] at fx
    cases fx; cases fm
    exact ⟨rfl, id⟩
  rw [if_neg c6] at fm
  obtain ⟨j, hj, ej⟩ := zl_08 c6
  have hh := zl_holds hj x7
  rw [← ej] at hh
  rw [hh] at fx
  by_cases cb : fn_cm_isBits x6 x7 = 0
  · rw [if_pos cb] at fx fm
    cases fx; cases fm
    exact ⟨rfl, id⟩
  rw [if_neg cb] at fx fm
  obtain ⟨k, ek, hk8, hc⟩ := hk a ha
  rcases zl_walkres (bt := btM) hM.1 (zz_pa x2 x3 x4 x5) 4 a 0 ha with q | q | ⟨b, i, sz, lz, q, h1, h2, h3, h4, h5, h6, h7, h8⟩
  · rw [q, if_neg (by decide)] at fx
    rw [q, if_neg (by decide), if_neg (by decide)] at fm
    cases fx; cases fm
    exact ⟨by decide, id⟩
  · rw [q, if_neg (by decide)] at fx
    rw [q, if_neg (by decide), if_neg (by decide)] at fm
    cases fx; cases fm
    exact ⟨by decide, id⟩
  · obtain ⟨k1, k2, k3⟩ := zl_wN h2 (show i < 200 by omega)
    rw [q, if_pos k1, k2, k3] at fx
    rw [q, zl_fc0 h2 (show i < 200 by omega), if_pos (show (0 : Int32) = 0 from rfl), k2, k3] at fm
    have hw : fn_co_reaches x6 (kd a) = fn_cm_isWider x6 (kd a) := by rw [ej, ek]; exact zl_wide j hj k (by omega)
    by_cases cr : fn_cm_isWider x6 (kd a) = 0
    · rw [hw, if_pos cr] at fx
      rw [if_pos cr] at fm
      cases fx; cases fm
      exact ⟨rfl, id⟩
    · have hr : ¬ fn_co_reaches (nI j) (kd a) = 0 := by rw [← ej, hw]; exact cr
      have ht := zl_takes (x := x7) hk ha ek hk8 hj hr
      rw [← ej] at ht
      rw [hw, if_neg cr] at fx
      rw [if_neg cr] at fm
      by_cases cp : pn ((sa b).toNatClampNeg + i) = 0
      · rw [if_pos cp] at fx fm
        by_cases ct : fn_cm_takes kd cl a x7 = 0
        · rw [if_pos (ht.mpr ct)] at fx
          rw [if_pos ct] at fm
          cases fx; cases fm
          exact ⟨rfl, id⟩
        · rw [if_neg (fun z => ct (ht.mp z))] at fx
          rw [if_neg ct, if_pos (show (0 : Int32) ≤ 0 by decide)] at fm
          cases fx; cases fm
          refine ⟨rfl, fun z => ?_⟩
          have hne := hM.1.2.1
          have ekb : kd b = nI k := (zl_walkkd hM.1 z.2 _ 4 a 0 b i ha q h2 (by omega)).trans ek
          rw [ek] at hr
          rw [ej, ek, zl_wid x7 (by omega) hk8 hr, h4, nI_clamp (show sz < 2 ^ 31 by omega)]
          rw [ej] at cb
          exact z.wr hM h1 h4 h5 (by omega) h7 h6 (zz_vo.d1 h3 ekb hk8 (zl_okW (by omega) hk8 hr cb))
      · rw [if_neg cp] at fx fm
        cases fx; cases fm
        exact ⟨rfl, id⟩
theorem rl_write {naX : Nat} {nuX : Nat} {kdX : Nat → Int32} {dpX : Nat → Int32} {clX : Nat → Int32} {saX : Nat → Int32} {lnX : Nat → Int32} {btX : Nat → Int64} {pnX : Nat → Int32} {naM : Nat} {neM : Nat} {kdM : Nat → Int32} {dpM : Nat → Int32} {clM : Nat → Int32} {saM : Nat → Int32} {lnM : Nat → Int32} {btM : Nat → Int64} {pnM : Nat → Int32} {x1 x2 x3 x4 x5 x6 r r' : Int32} {x7 : Int64} {bt2 bt3 : Nat → Int64} (hM : zz_MI naM neM dpM saM lnM btM) (h : zz_RL naX nuX kdX dpX clX saX lnX btX pnX naM neM kdM dpM clM saM lnM btM pnM) (fx : (r, bt2) = fo_cx_write naX nuX kdX dpX clX saX lnX btX pnX x1 x2 x3 x4 x5 x6 x7) (fm : (r', bt3) = fo_my_write naM neM kdM dpM lnM clM saM btM pnM x1 x2 x3 x4 x5 x6 x7) : r = r' ∧ (zz_Q naM kdM dpM saM lnM btX btM → zz_Q naM kdM dpM saM lnM bt2 bt3) := by
  obtain ⟨rfl, rfl, rfl, rfl, rfl, rfl, rfl, rfl, hk, h⟩ := h
  exact rl0_write hM hk h fx fm
