theorem zz_RL.pins {naX : Nat} {nuX : Nat} {kdX : Nat → Int32} {dpX : Nat → Int32} {clX : Nat → Int32} {saX : Nat → Int32} {lnX : Nat → Int32} {btX : Nat → Int64} {pnX : Nat → Int32} {naM : Nat} {neM : Nat} {kdM : Nat → Int32} {dpM : Nat → Int32} {clM : Nat → Int32} {saM : Nat → Int32} {lnM : Nat → Int32} {btM : Nat → Int64} {pnM : Nat → Int32} {pn2 pn3 : Nat → Int32} (h : zz_RL naX nuX kdX dpX clX saX lnX btX pnX naM neM kdM dpM clM saM lnM btM pnM) (e : pn2 = pn3) (hp : zz_R1 naM neM dpM saM lnM btX btM pn3) : zz_RL naX nuX kdX dpX clX saX lnX btX pn2 naM neM kdM dpM clM saM lnM btM pn3 := by
  obtain ⟨h1, h2, h3, h4, h5, h6, h7, h8, hk, h⟩ := h
  exact ⟨h1, h2, h3, h4, h5, h6, h7, e, hk, hp⟩
theorem rl_column {naX : Nat} {nuX : Nat} {kdX : Nat → Int32} {dpX : Nat → Int32} {clX : Nat → Int32} {saX : Nat → Int32} {lnX : Nat → Int32} {btX : Nat → Int64} {pnX : Nat → Int32} {naM : Nat} {neM : Nat} {kdM : Nat → Int32} {dpM : Nat → Int32} {clM : Nat → Int32} {saM : Nat → Int32} {lnM : Nat → Int32} {btM : Nat → Int64} {pnM : Nat → Int32} {x1 x2 : Int32} (h : zz_RL naX nuX kdX dpX clX saX lnX btX pnX naM neM kdM dpM clM saM lnM btM pnM) : sp_cR naX kdX dpX lnX x1 x2 = sp_cR naM kdM dpM lnM x1 x2 := by
  obtain ⟨rfl, rfl, rfl, rfl, rfl, rfl, rfl, rfl, hk, h⟩ := h
  rfl
theorem zl_manyF {ln : Nat → Int32} {a l kk jj : Nat} (el : ln a = nI l) (hl : l ≤ 200) (hk : kk < 2 ^ 31) (hj : jj < 2 ^ 31) : fn_co_hasMany ln a (nI kk) (nI jj) = if kk + jj ≤ l then 1 else 0 := by
  unfold fn_co_hasMany
  rw [if_neg (nI_pos hk), el]
  by_cases c : l < kk
  · rw [if_pos (nI_lt c hk), if_neg (by omega)]
  · rw [if_neg (nI_nlt (by omega) (by omega)), pk_sub (by omega)]
    by_cases d : l - kk < jj
    · rw [if_pos (nI_lt d hj), if_neg (by omega)]
    · rw [if_neg (nI_nlt (by omega) (by omega)), if_pos (by omega)]
theorem zl_many0 {ln : Nat → Int32} {a : Nat} {k j : Int32} (h : k < 0) : fn_co_hasMany ln a k j = 0 := if_pos h
theorem zl_i64 {l kk jj : Nat} (hl : l ≤ 200) (hk : kk < 2 ^ 31) (hj : jj < 2 ^ 31) : ((nI l).toInt64 < (nI kk).toInt64 + (nI jj).toInt64 ↔ l < kk + jj) ∧ ((nI kk).toInt64 + (nI jj).toInt64 ≤ (nI l).toInt64 ↔ kk + jj ≤ l) := by
  rw [nI_l (show l < 2 ^ 31 by omega), nI_l hk, nI_l hj, lN_add]
  have h1 := pk_lLT (a := l) (b := kk + jj) (by omega) (by omega)
  refine ⟨h1, ?_⟩
  rw [← Int64.not_lt, h1]
  omega
theorem zz_tk_le {cl : Nat → Int32} {b : Nat} {bt : Nat → Int64} {s : Nat} : ∀ (m q : Nat), zz_tk cl b bt s m q ≤ q + m
  | 0, q => Nat.le_refl _
  | m + 1, q => by
    rw [zz_tk]
    by_cases c : fn_co_takes cl b (bt (s + q)) = 0
    · rw [if_pos c]; omega
    · rw [if_neg c]; have := zz_tk_le (cl := cl) (b := b) (bt := bt) (s := s) m (q + 1); omega
theorem zz_tkM_le {kd cl : Nat → Int32} {b : Nat} {bt : Nat → Int64} {s : Nat} : ∀ (m q : Nat), zz_tkM kd cl b bt s m q ≤ q + m
  | 0, q => Nat.le_refl _
  | m + 1, q => by
    rw [zz_tkM]
    by_cases c : fn_cm_takes kd cl b (bt (s + q)) = 0
    · rw [if_pos c]; omega
    · rw [if_neg c]; have := zz_tkM_le (kd := kd) (cl := cl) (b := b) (bt := bt) (s := s) m (q + 1); omega
theorem zz_cp_le (pn : Nat → Int32) (s : Nat) : ∀ n : Nat, zz_cp pn s n ≤ n
  | 0 => Nat.le_refl _
  | n + 1 => by
    rw [zz_cp]
    have := zz_cp_le pn s n
    by_cases c : pn (s + n) = 0
    · rw [if_pos c]; omega
    · rw [if_neg c]; omega
theorem zl_orI {α : Type} {P Q : Prop} [Decidable P] [Decidable Q] {T E : α} : (if P then T else if Q then T else E) = if P ∨ Q then T else E := by
  by_cases p : P
  · rw [if_pos p, if_pos (Or.inl p)]
  · by_cases q : Q
    · rw [if_neg p, if_pos q, if_pos (Or.inr q)]
    · rw [if_neg p, if_neg q, if_neg (fun z => z.elim p q)]
theorem zl_takesC {na a : Nat} {kd cl : Nat → Int32} {x : Int64} (hk : zz_KC na kd cl) (ha : a < na) : fn_co_takes cl a x = 0 ↔ fn_cm_takes kd cl a x = 0 := by
  obtain ⟨k, ek, hk8, hc⟩ := hk a ha
  unfold fn_co_takes fn_cm_takes
  by_cases q : k = 8
  · rw [if_neg (show ¬ kd a < 8 by rw [ek, q]; decide)]
    by_cases c1 : cl a = -1
    · rw [if_pos c1]
      by_cases c2 : x = 0
      · rw [if_pos c2]
      · rw [if_neg c2, if_pos c1]
    · rw [if_neg c1]
      by_cases c2 : x = 0
      · rw [if_pos c2, if_pos c2]
      · rw [if_neg c2, if_neg c2, if_neg c1]
  · rw [if_pos (hc (by omega)), if_pos (show kd a < 8 by rw [ek, show (8 : Int32) = nI 8 by decide, nI_ltI (by omega) (by decide)]; omega)]
theorem zl_tkE {na b : Nat} {kd cl : Nat → Int32} {bt : Nat → Int64} {s : Nat} (hk : zz_KC na kd cl) (hb : b < na) : ∀ (m q : Nat), zz_tk cl b bt s m q = zz_tkM kd cl b bt s m q
  | 0, q => rfl
  | m + 1, q => by
    rw [zz_tk, zz_tkM, zl_tkE hk hb m (q + 1)]
    by_cases c : fn_cm_takes kd cl b (bt (s + q)) = 0
    · rw [if_pos c, if_pos ((zl_takesC hk hb).mpr c)]
    · rw [if_neg c, if_neg (fun z => c ((zl_takesC hk hb).mp z))]
theorem zz_Q.cp {na ne a b s l s' l' i k n : Nat} {kd dp sa ln : Nat → Int32} {btX btM bt1 : Nat → Int64} (hq : zz_Q na kd dp sa ln btX btM) (hM : zz_MI na ne dp sa ln bt1) (ha : a < na) (es : sa a = nI s) (el : ln a = nI l) (hs : s ≤ 4000) (hl : l ≤ 200) (hb : b < na) (es' : sa b = nI s') (el' : ln b = nI l') (hs' : s' ≤ 4000) (hl' : l' ≤ 200) (ek : kd a = kd b) (ed : dp a = dp b) (h1 : i + n ≤ l) (h2 : k + n ≤ l') : zz_Q na kd dp sa ln (va_cpy btX btX (s + i) (s' + k) n) (va_cpy btM btM (s + i) (s' + k) n) := by
  obtain ⟨e, hv⟩ := hq
  refine ⟨by rw [e], hv.of hM hb es' el' hs' hl' (fun j hj => pk_cpy_out (by omega)) (fun j hj => ?_)⟩
  by_cases q : k ≤ j ∧ j < k + n
  · rw [pk_cpy_in (by omega) (by omega), show s + i + (s' + j - (s' + k)) = s + (i + (j - k)) by omega]
    have z := hv a s l ha es el hs hl (i + (j - k)) (by omega)
    unfold zz_vo at z ⊢
    rw [ed, ek] at z
    exact z
  · rw [pk_cpy_out (by omega)]; exact hv b s' l' hb es' el' hs' hl' j hj
/-- what a move does to the bits: nothing, or a copy of n, at most as many as are asked for -/
theorem rl0_move {na : Nat} {ne : Nat} {kd : Nat → Int32} {dp : Nat → Int32} {cl : Nat → Int32} {sa : Nat → Int32} {ln : Nat → Int32} {pn : Nat → Int32} {btX : Nat → Int64} {btM : Nat → Int64} {x1 x2 x3 x4 x5 r r' : Int32} {bt2 bt3 : Nat → Int64} (hM : zz_MI na ne dp sa ln btM) (hk : zz_KC na kd cl) (h : zz_R1 na ne dp sa ln btX btM pn) (fx : (r, bt2) = fo_cx_move na ne kd dp cl sa ln btX pn x1 x2 x3 x4 x5) (fm : (r', bt3) = fo_my_move na ne kd dp ln cl sa btM pn x1 x2 x3 x4 x5) : zz_R1 na ne dp sa ln bt2 bt3 pn ∧ (zz_Q na kd dp sa ln btX btM → r = r' ∧ zz_Q na kd dp sa ln bt2 bt3) := by
  unfold fo_cx_move at fx
  unfold fo_my_move at fm
  have hna := hM.1.1
  have hne := hM.1.2.1
  by_cases c : fn_cm_isArray (nI na) x1 = 0
  · rw [if_pos (zl_isN hM.1.1 c)] at fx
    rw [if_pos c] at fm
    cases fx; cases fm
    exact ⟨h, fun z => ⟨rfl, z⟩⟩
  rw [if_neg (fun q => c (zl_isH hM.1.1 q))] at fx
  rw [if_neg c] at fm
  by_cases c3 : fn_cm_isArray (nI na) x3 = 0
  · rw [if_pos (zl_isN hM.1.1 c3)] at fx
    rw [if_pos c3] at fm
    cases fx; cases fm
    exact ⟨h, fun z => ⟨rfl, z⟩⟩
  rw [if_neg (fun q => c3 (zl_isH hM.1.1 q))] at fx
  rw [if_neg c3] at fm
  obtain ⟨a, ha, e⟩ := zl_isA hM.1.1 c
  have ea : x1.toNatClampNeg = a := by rw [e]; exact nI_clamp (by omega)
  obtain ⟨b, hb, eb⟩ := zl_isA hM.1.1 c3
  have eb2 : x3.toNatClampNeg = b := by rw [eb]; exact nI_clamp (by omega)
  obtain ⟨s, l, d, es, el, ed, g1, g2, g3, g4⟩ := hM.1.2.2 a ha
  obtain ⟨s', l', d', es', el', ed', f1, f2, f3, f4⟩ := hM.1.2.2 b hb
  have eD : (dp a).toNatClampNeg = d := by rw [ed]; exact nI_clamp (by omega)
  have eD' : (dp b).toNatClampNeg = d' := by rw [ed']; exact nI_clamp (by omega)
  have eL : (ln a).toNatClampNeg = l := by rw [el]; exact nI_clamp (by omega)
  have eL' : (ln b).toNatClampNeg = l' := by rw [el']; exact nI_clamp (by omega)
  have eS : (sa a).toNatClampNeg = s := by rw [es]; exact nI_clamp (by omega)
  have eS' : (sa b).toNatClampNeg = s' := by rw [es']; exact nI_clamp (by omega)
  rw [ea, eb2, eS, eS'] at fx
  rw [ea, eb2, eS, eS', eD, eD', eL, eL'] at fm
  have hcm : fn_co_canMove kd dp cl a b = if kd a = kd b then (if d = d' then (if d = 1 then 1 else (if cl a = cl b then 1 else 0)) else 0) else 0 := by
    unfold fn_co_canMove
    rw [ed, ed']
    by_cases k0 : kd a = kd b
    · rw [if_pos k0, if_pos k0]
      by_cases k1 : d = d'
      · rw [if_pos k1, if_pos (by rw [k1])]
        by_cases k2 : d = 1
        · rw [if_pos k2, if_pos (by rw [k2]; rfl)]
        · rw [if_neg k2, if_neg (fun z : nI d = 1 => k2 (zl_inj (y := 1) z (by omega) (by omega)))]
      · rw [if_neg k1, if_neg (fun z => k1 (zl_inj z (by omega) (by omega)))]
    · rw [if_neg k0, if_neg k0]
  rw [hcm] at fx
  by_cases k0 : kd a = kd b
  rotate_left
  · rw [if_neg k0, if_pos (show (0 : Int32) = 0 from rfl)] at fx
    rw [if_neg k0] at fm
    cases fx; cases fm
    exact ⟨h, fun z => ⟨rfl, z⟩⟩
  rw [if_pos k0] at fx fm
  by_cases k1 : d = d'
  rotate_left
  · rw [if_neg k1, if_pos (show (0 : Int32) = 0 from rfl)] at fx
    rw [if_neg (fun z => k1 (zl_inj z (by omega) (by omega)))] at fm
    cases fx; cases fm
    exact ⟨h, fun z => ⟨rfl, z⟩⟩
  rw [if_pos k1] at fx
  rw [if_pos (show nI d = nI d' by rw [k1])] at fm
  have h1i : (1 : Int32) = nI 1 := by decide
  -- the numbers
  have hX : ∃ (nX : Nat) (G : Prop), (nX = (if dp b ≤ 1 then zz_tk cl b btX (s + x2.toNatClampNeg) x5.toNatClampNeg 0 else x5.toNatClampNeg)) ∧ (d = 1 → nX ≤ x5.toNatClampNeg) ∧ (d ≠ 1 → nX = x5.toNatClampNeg) ∧ (G ↔ ((d = 1 ∨ cl a = cl b) ∧ 0 ≤ x5 ∧ ¬ x2 < 0 ∧ ¬ x4 < 0 ∧ x2.toNatClampNeg + x5.toNatClampNeg ≤ l ∧ x4.toNatClampNeg + x5.toNatClampNeg ≤ l' ∧ zz_cp pn (s' + x4.toNatClampNeg) x5.toNatClampNeg = 0)) ∧ ((G ∧ bt2 = va_cpy btX btX (s + x2.toNatClampNeg) (s' + x4.toNatClampNeg) nX ∧ r = (if nI x5.toNatClampNeg ≤ nI nX then nI x5.toNatClampNeg else -7)) ∨ (¬ G ∧ bt2 = btX ∧ r = (if (d = 1 ∨ cl a = cl b) then (if 0 ≤ x5 then (if (¬ x2 < 0 ∧ ¬ x4 < 0 ∧ x2.toNatClampNeg + x5.toNatClampNeg ≤ l ∧ x4.toNatClampNeg + x5.toNatClampNeg ≤ l') then (-6 : Int32) else -2) else -4) else -1))) := by
    refine ⟨if dp b ≤ 1 then zz_tk cl b btX (s + x2.toNatClampNeg) x5.toNatClampNeg 0 else x5.toNatClampNeg, _, rfl, fun k2 => ?_, fun k2 => ?_, Iff.rfl, ?_⟩
    · by_cases z : dp b ≤ 1
      · rw [if_pos z]; have := zz_tk_le (cl := cl) (b := b) (bt := btX) (s := s + x2.toNatClampNeg) x5.toNatClampNeg 0; omega
      · rw [if_neg z]; exact Nat.le_refl _
    · rw [if_neg (fun z => k2 (by rw [ed', h1i, nI_leI (by omega) (by decide)] at z; omega))]
    by_cases k3 : d = 1 ∨ cl a = cl b
    rotate_left
    · have w : (if d = 1 then (1 : Int32) else (if cl a = cl b then 1 else 0)) = 0 := by
        rw [if_neg (fun z => k3 (Or.inl z)), if_neg (fun z => k3 (Or.inr z))]
      rw [w, if_pos (show (0 : Int32) = 0 from rfl)] at fx
      cases fx
      exact Or.inr ⟨fun z => k3 z.1, rfl, (if_neg k3).symm⟩
    have w : (if d = 1 then (1 : Int32) else (if cl a = cl b then 1 else 0)) = 1 := by
      by_cases z : d = 1
      · rw [if_pos z]
      · rw [if_neg z, if_pos (k3.resolve_left z)]
    rw [w, if_neg (show ¬ ((1 : Int32) = 0) by decide)] at fx
    by_cases k5 : 0 ≤ x5
    rotate_left
    · rw [if_neg k5] at fx
      cases fx
      exact Or.inr ⟨fun z => k5 z.2.1, rfl, by rw [if_pos k3, if_neg k5]⟩
    rw [if_pos k5] at fx
    have k5' : ¬ x5 < 0 := fun z => absurd k5 (Int32.not_le.mpr z)
    obtain ⟨m, hm, em⟩ := nI_of k5'
    have em2 : x5.toNatClampNeg = m := by rw [em]; exact nI_clamp hm
    by_cases k6 : x2 < 0
    · rw [if_pos (zl_many0 k6)] at fx
      cases fx
      exact Or.inr ⟨fun z => z.2.2.1 k6, rfl, by rw [if_pos k3, if_pos k5, if_neg (fun z => z.1 k6)]⟩
    obtain ⟨p, hp, ep⟩ := nI_of k6
    have ep2 : x2.toNatClampNeg = p := by rw [ep]; exact nI_clamp hp
    by_cases k7 : x4 < 0
    · rw [zl_many0 (k := x4) k7, if_pos (show (0 : Int32) = 0 from rfl), ite_self] at fx
      cases fx
      exact Or.inr ⟨fun z => z.2.2.2.1 k7, rfl, by rw [if_pos k3, if_pos k5, if_neg (fun z => z.2.1 k7)]⟩
    obtain ⟨q, hq, eq⟩ := nI_of k7
    have eq2 : x4.toNatClampNeg = q := by rw [eq]; exact nI_clamp hq
    rw [em2, ep2, eq2] at fx
    rw [em2, ep2, eq2]
    have w1 := zl_manyF (kk := p) (jj := m) el g1 hp hm
    have w2 := zl_manyF (kk := q) (jj := m) el' f1 hq hm
    rw [← ep, ← em] at w1
    rw [← eq] at w2
    rw [w1, w2, show q + m - q = m by omega] at fx
    by_cases k8 : p + m ≤ l
    rotate_left
    · rw [if_neg k8, if_pos (show (0 : Int32) = 0 from rfl)] at fx
      cases fx
      exact Or.inr ⟨fun z => k8 z.2.2.2.2.1, rfl, by rw [if_pos k3, if_pos k5, if_neg (fun z => k8 z.2.2.1)]⟩
    by_cases k9 : q + m ≤ l'
    rotate_left
    · rw [if_pos k8, if_neg k9, if_neg (show ¬ ((1 : Int32) = 0) by decide), if_pos (show (0 : Int32) = 0 from rfl)] at fx
      cases fx
      exact Or.inr ⟨fun z => k9 z.2.2.2.2.2.1, rfl, by rw [if_pos k3, if_pos k5, if_neg (fun z => k9 z.2.2.2)]⟩
    rw [if_pos k8, if_pos k9, if_neg (show ¬ ((1 : Int32) = 0) by decide), if_neg (show ¬ ((1 : Int32) = 0) by decide)] at fx
    have hcp := zz_cp_le pn (s' + q) m
    by_cases k10 : zz_cp pn (s' + q) m = 0
    · rw [if_pos (by rw [k10]; decide)] at fx
      refine Or.inl ⟨⟨k3, k5, k6, k7, k8, k9, k10⟩, ?_⟩
      by_cases z : nI m ≤ nI (if dp b ≤ 1 then zz_tk cl b btX (s + p) m 0 else m)
      · rw [if_pos z] at fx; cases fx; exact ⟨rfl, (if_pos z).symm⟩
      · rw [if_neg z] at fx; cases fx; exact ⟨rfl, (if_neg z).symm⟩
    · rw [if_neg (nI_nle (by omega) (by omega))] at fx
      cases fx
      exact Or.inr ⟨fun z => k10 z.2.2.2.2.2.2, rfl, by rw [if_pos k3, if_pos k5, if_pos ⟨k6, k7, k8, k9⟩]⟩
  have hY : ∃ (nM : Nat) (G : Prop), (nM = (if d' = 1 then zz_tkM kd cl b btM (s + x2.toNatClampNeg) x5.toNatClampNeg 0 else x5.toNatClampNeg)) ∧ (d = 1 → nM ≤ x5.toNatClampNeg) ∧ (d ≠ 1 → nM = x5.toNatClampNeg) ∧ (G ↔ ((d = 1 ∨ cl a = cl b) ∧ 0 ≤ x5 ∧ ¬ x2 < 0 ∧ ¬ x4 < 0 ∧ x2.toNatClampNeg + x5.toNatClampNeg ≤ l ∧ x4.toNatClampNeg + x5.toNatClampNeg ≤ l' ∧ zz_cp pn (s' + x4.toNatClampNeg) x5.toNatClampNeg = 0)) ∧ ((G ∧ bt3 = va_cpy btM btM (s + x2.toNatClampNeg) (s' + x4.toNatClampNeg) nM ∧ r' = (if nI x5.toNatClampNeg ≤ nI nM then nI x5.toNatClampNeg else -7)) ∨ (¬ G ∧ bt3 = btM ∧ r' = (if (d = 1 ∨ cl a = cl b) then (if 0 ≤ x5 then (if (¬ x2 < 0 ∧ ¬ x4 < 0 ∧ x2.toNatClampNeg + x5.toNatClampNeg ≤ l ∧ x4.toNatClampNeg + x5.toNatClampNeg ≤ l') then (-6 : Int32) else -2) else -4) else -1))) := by
    refine ⟨if d' = 1 then zz_tkM kd cl b btM (s + x2.toNatClampNeg) x5.toNatClampNeg 0 else x5.toNatClampNeg, _, rfl, fun k2 => ?_, fun k2 => ?_, Iff.rfl, ?_⟩
    · by_cases z : d' = 1
      · rw [if_pos z]; have := zz_tkM_le (kd := kd) (cl := cl) (b := b) (bt := btM) (s := s + x2.toNatClampNeg) x5.toNatClampNeg 0; omega
      · rw [if_neg z]; exact Nat.le_refl _
    · rw [if_neg (by omega)]
    rw [zl_orI] at fm
    have w0 : nI d ≤ 1 ↔ d = 1 := by
      rw [h1i, nI_leI (by omega) (by decide)]; omega
    by_cases k3 : d = 1 ∨ cl a = cl b
    rotate_left
    · rw [if_neg (fun z => k3 (z.imp w0.mp id))] at fm
      cases fm
      exact Or.inr ⟨fun z => k3 z.1, rfl, (if_neg k3).symm⟩
    rw [if_pos (k3.imp w0.mpr id)] at fm
    by_cases k5 : 0 ≤ x5
    rotate_left
    · rw [if_neg k5] at fm
      cases fm
      exact Or.inr ⟨fun z => k5 z.2.1, rfl, by rw [if_pos k3, if_neg k5]⟩
    rw [if_pos k5] at fm
    have k5' : ¬ x5 < 0 := fun z => absurd k5 (Int32.not_le.mpr z)
    obtain ⟨m, hm, em⟩ := nI_of k5'
    have em2 : x5.toNatClampNeg = m := by rw [em]; exact nI_clamp hm
    by_cases k6 : x2 < 0
    · rw [if_pos k6] at fm
      cases fm
      exact Or.inr ⟨fun z => z.2.2.1 k6, rfl, by rw [if_pos k3, if_pos k5, if_neg (fun z => z.1 k6)]⟩
    rw [if_neg k6] at fm
    obtain ⟨p, hp, ep⟩ := nI_of k6
    have ep2 : x2.toNatClampNeg = p := by rw [ep]; exact nI_clamp hp
    by_cases k7 : x4 < 0
    · rw [if_pos k7] at fm
      cases fm
      exact Or.inr ⟨fun z => z.2.2.2.1 k7, rfl, by rw [if_pos k3, if_pos k5, if_neg (fun z => z.2.1 k7)]⟩
    rw [if_neg k7] at fm
    obtain ⟨q, hq, eq⟩ := nI_of k7
    have eq2 : x4.toNatClampNeg = q := by rw [eq]; exact nI_clamp hq
    rw [em2, ep2, eq2] at fm
    rw [em2, ep2, eq2]
    have w1 := (zl_i64 (l := l) (kk := p) (jj := m) g1 hp hm).1
    have w2 := (zl_i64 (l := l') (kk := q) (jj := m) f1 hq hm).2
    rw [← ep, ← em] at w1
    rw [← eq] at w2
    by_cases k8 : p + m ≤ l
    rotate_left
    · rw [if_pos (w1.mpr (by omega))] at fm
      cases fm
      exact Or.inr ⟨fun z => k8 z.2.2.2.2.1, rfl, by rw [if_pos k3, if_pos k5, if_neg (fun z => k8 z.2.2.1)]⟩
    rw [if_neg (fun z => absurd (w1.mp z) (by omega))] at fm
    by_cases k9 : q + m ≤ l'
    rotate_left
    · rw [if_neg (fun z => k9 (w2.mp z))] at fm
      cases fm
      exact Or.inr ⟨fun z => k9 z.2.2.2.2.2.1, rfl, by rw [if_pos k3, if_pos k5, if_neg (fun z => k9 z.2.2.2)]⟩
    rw [if_pos (w2.mpr k9), Nat.add_zero, Nat.sub_zero] at fm
    by_cases k10 : zz_cp pn (s' + q) m = 0
    · rw [if_pos k10, if_pos (show (0 : Int32) ≤ 0 by decide)] at fm
      refine Or.inl ⟨⟨k3, k5, k6, k7, k8, k9, k10⟩, ?_⟩
      by_cases z : nI m ≤ nI (if d' = 1 then zz_tkM kd cl b btM (s + p) m 0 else m)
      · rw [if_pos z] at fm; cases fm; exact ⟨rfl, (if_pos z).symm⟩
      · rw [if_neg z] at fm; cases fm; exact ⟨rfl, (if_neg z).symm⟩
    · rw [if_neg k10, if_neg (show ¬ ((6 : Int32) ≤ 0) by decide)] at fm
      cases fm
      exact Or.inr ⟨fun z => k10 z.2.2.2.2.2.2, rfl, by rw [if_pos k3, if_pos k5, if_pos ⟨k6, k7, k8, k9⟩]⟩
  obtain ⟨nX, G, hnX, hx1, hx2, hG, hx⟩ := hX
  obtain ⟨nM, G', hnM, hm1, hm2, hG', hm⟩ := hY
  rcases hx with ⟨g, e2, er⟩ | ⟨g, e2, er⟩
  · rcases hm with ⟨g', e3, er'⟩ | ⟨g', e3, er'⟩
    rotate_left
    · exact absurd (hG'.mpr (hG.mp g)) g'
    obtain ⟨-, k5, k6, k7, k8, k9, -⟩ := hG.mp g
    refine ⟨?_, fun hq => ?_⟩
    rotate_left
    · have w0 : dp b ≤ 1 ↔ d' = 1 := by rw [ed', h1i, nI_leI (by omega) (by decide)]; omega
      have en : nX = nM := by
        rw [hnX, hnM, hq.1]
        by_cases z : d' = 1
        · rw [if_pos z, if_pos (w0.mpr z), zl_tkE hk hb]
        · rw [if_neg z, if_neg (fun w => z (w0.mp w))]
      have hnx : nX ≤ x5.toNatClampNeg := by
        by_cases z : d = 1
        · exact hx1 z
        · rw [hx2 z]; exact Nat.le_refl _
      rw [er, er', e2, e3, ← en]
      exact ⟨rfl, hq.cp hM ha es el (by omega) g1 hb es' el' (by omega) f1 k0 (by rw [ed, ed', k1]) (by omega) (by omega)⟩
    rw [e2, e3]
    by_cases k2 : d = 1
    · have q1 := hx1 k2
      have q2 := hm1 k2
      have ed1 : dp b = nI 1 := by rw [ed', ← k1, k2]
      exact h.bits hM (zz_D1.of hb ed1 es' el' (by omega) f1 (fun j hj => pk_cpy_out (by omega))) (zz_D1.of hb ed1 es' el' (by omega) f1 (fun j hj => pk_cpy_out (by omega)))
    · rw [hx2 k2, hm2 k2]
      refine ⟨fun j hj => ?_, fun j hj => ⟨?_, (h.2 j hj).2⟩⟩
      · by_cases w : s' + x4.toNatClampNeg ≤ j ∧ j < s' + x4.toNatClampNeg + x5.toNatClampNeg
        · rw [pk_cpy_in w.1 w.2, pk_cpy_in w.1 w.2, Nat.add_assoc]
          exact zl_db hM h.1 ha (by rw [ed]; exact zl_n1 k2 g4) es el (by omega) g1 (by omega)
        · rw [pk_cpy_out (by omega), pk_cpy_out (by omega)]; exact h.1 j hj
      · rw [pk_cpy_out (by omega)]; exact (h.2 j hj).1
  · rcases hm with ⟨g', e3, er'⟩ | ⟨g', e3, er'⟩
    · exact absurd (hG.mpr (hG'.mp g')) g
    · refine ⟨?_, fun hq => ⟨er.trans er'.symm, ?_⟩⟩
      · rw [e2, e3]; exact h
      · rw [e2, e3]; exact hq
theorem rl_move {naX : Nat} {nuX : Nat} {kdX : Nat → Int32} {dpX : Nat → Int32} {clX : Nat → Int32} {saX : Nat → Int32} {lnX : Nat → Int32} {btX : Nat → Int64} {pnX : Nat → Int32} {naM : Nat} {neM : Nat} {kdM : Nat → Int32} {dpM : Nat → Int32} {clM : Nat → Int32} {saM : Nat → Int32} {lnM : Nat → Int32} {btM : Nat → Int64} {pnM : Nat → Int32} {x1 x2 x3 x4 x5 r r' : Int32} {bt2 bt3 : Nat → Int64} (hM : zz_MI naM neM dpM saM lnM btM) (h : zz_RL naX nuX kdX dpX clX saX lnX btX pnX naM neM kdM dpM clM saM lnM btM pnM) (fx : (r, bt2) = fo_cx_move naX nuX kdX dpX clX saX lnX btX pnX x1 x2 x3 x4 x5) (fm : (r', bt3) = fo_my_move naM neM kdM dpM lnM clM saM btM pnM x1 x2 x3 x4 x5) : zz_R1 naM neM dpM saM lnM bt2 bt3 pnM ∧ (zz_Q naM kdM dpM saM lnM btX btM → r = r' ∧ zz_Q naM kdM dpM saM lnM bt2 bt3) := by
  obtain ⟨rfl, rfl, rfl, rfl, rfl, rfl, rfl, rfl, hk, h⟩ := h
  exact rl0_move hM hk h fx fm
