theorem rl0_search {na : Nat} {ne : Nat} {kd : Nat → Int32} {dp : Nat → Int32} {cl : Nat → Int32} {sa : Nat → Int32} {ln : Nat → Int32} {pn : Nat → Int32} {btX : Nat → Int64} {btM : Nat → Int64} {x1 : Int32} {x2 : Int64} (hM : zz_MI na ne dp sa ln btM) (hk : zz_KC na kd cl) (h : zz_R1 na ne dp sa ln btX btM pn) (hQ : zz_Q na kd dp sa ln btX btM) : fn_cx_search2 na ne kd dp sa ln btX x1 x2 = fn_my_search2 na ne kd dp ln sa btM x1 x2 := by
  obtain ⟨e', hv⟩ := hQ
  subst e'
  unfold fn_cx_search2 fn_my_search2
  by_cases c : fn_cm_isArray (nI na) x1 = 0
  · rw [if_pos (zl_isN hM.1.1 c), if_pos c]
  have c' : ¬ fn_co_has (nI na) x1 = 0 := fun q => c (zl_isH hM.1.1 q)
  obtain ⟨a, ha, e⟩ := zl_isA hM.1.1 c
  have hna := hM.1.1
  have hne := hM.1.2.1
  have ea : x1.toNatClampNeg = a := by rw [e]; exact nI_clamp (by omega)
  obtain ⟨s, l, d, es, el, ed, g1, g2, g3, g4⟩ := hM.1.2.2 a ha
  have eD : (dp a).toNatClampNeg = d := by rw [ed]; exact nI_clamp (by omega)
  have eL : (ln a).toNatClampNeg = l := by rw [el]; exact nI_clamp (by omega)
  have eS : (sa a).toNatClampNeg = s := by rw [es]; exact nI_clamp (by omega)
  obtain ⟨k, ek, hk8, -⟩ := hk a ha
  rw [if_neg c', if_neg c, ea, eD, eL, eS, ek, zl_holds (show k < 9 by omega) x2]
  by_cases cb : fn_cm_isBits (nI k) x2 = 0
  · rw [if_pos cb, if_pos cb]
  rw [if_neg cb, if_neg cb]
  by_cases d1 : d = 1
  rotate_left
  · rw [if_neg (fun z : nI d = 1 => d1 (zl_inj (y := 1) z (by omega) (by omega))), if_neg (show ¬ nI d ≤ 1 by rw [show (1 : Int32) = nI 1 by decide, nI_leI (by omega) (by decide)]; omega)]
  rw [if_pos (show nI d = 1 by rw [d1]; rfl), if_pos (show nI d ≤ 1 by rw [d1]; decide)]
  have hV : fn_co_rank (nI k) (fn_co_cleaned (nI k) x2) = fn_cm_orderNumber (nI k) (fn_cm_plain (nI k) x2) := zl_rank hk8 (zl_okP hk8 cb)
  rw [hV]
  exact zl_hqC (n := l) (fun i hi => show fn_co_rank (nI k) (btX (s + i)) = fn_cm_orderNumber (nI k) (btX (s + i)) from zl_rank hk8 ((hv a s l ha es el (by omega) g1 i hi).1 (by rw [ed, d1]) k ek hk8)) l 0 l (Nat.le_refl _)
theorem rl_search {naX : Nat} {nuX : Nat} {kdX : Nat → Int32} {dpX : Nat → Int32} {clX : Nat → Int32} {saX : Nat → Int32} {lnX : Nat → Int32} {btX : Nat → Int64} {pnX : Nat → Int32} {naM : Nat} {neM : Nat} {kdM : Nat → Int32} {dpM : Nat → Int32} {clM : Nat → Int32} {saM : Nat → Int32} {lnM : Nat → Int32} {btM : Nat → Int64} {pnM : Nat → Int32} {x1 : Int32} {x2 : Int64} (hM : zz_MI naM neM dpM saM lnM btM) (h : zz_RL naX nuX kdX dpX clX saX lnX btX pnX naM neM kdM dpM clM saM lnM btM pnM) (hQ : zz_Q naM kdM dpM saM lnM btX btM) : fn_cx_search2 naX nuX kdX dpX saX lnX btX x1 x2 = fn_my_search2 naM neM kdM dpM lnM saM btM x1 x2 := by
  obtain ⟨rfl, rfl, rfl, rfl, rfl, rfl, rfl, rfl, hk, h⟩ := h
  exact rl0_search hM hk h hQ
