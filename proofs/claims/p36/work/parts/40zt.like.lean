/-- 1 or 0 -/
noncomputable def sp_b (P : Prop) : Int32 := @ite Int32 P (Classical.propDecidable P) 1 0
theorem zl_bT {P : Prop} (h : P) : sp_b P = 1 := @if_pos P (Classical.propDecidable P) h Int32 1 0
theorem zl_bF {P : Prop} (h : ¬ P) : sp_b P = 0 := @if_neg P (Classical.propDecidable P) h Int32 1 0
theorem zl_bP {P : Prop} {r : Int32} (f : r = sp_b P) (c : ¬ r = 0) : P := Classical.byContradiction fun h => c (f.trans (zl_bF h))
theorem zl_bN {P : Prop} {r : Int32} (f : r = sp_b P) (c : r = 0) : ¬ P := fun h => absurd ((f.trans (zl_bT h)).symm.trans c) (by decide)
theorem zl_bI {P : Prop} {r : Int32} (f : r = sp_b P) : r = 0 ∨ r = 1 := by
  rcases Classical.em P with h | h
  · exact Or.inr (f.trans (zl_bT h))
  · exact Or.inl (f.trans (zl_bF h))
/-- likeness of arrays of depth d -/
def sp_sm (na : Nat) (kd dp sa ln : Nat → Int32) (bt : Nat → Int64) : Nat → Nat → Nat → Prop
  | 0, _, _ => False
  | d + 1, a, b => kd a = kd b ∧ dp a = dp b ∧ ln a = ln b ∧ ∀ i, i < (ln a).toNatClampNeg → (bt ((sa a).toNatClampNeg + i) = bt ((sa b).toNatClampNeg + i) ∨ (d ≠ 0 ∧ ∃ x y, x < na ∧ y < na ∧ (bt ((sa a).toNatClampNeg + i)).toInt32 = nI x ∧ (bt ((sa b).toNatClampNeg + i)).toInt32 = nI y ∧ sp_sm na kd dp sa ln bt d x y))
def sp_sS (na : Nat) (kd dp sa ln : Nat → Int32) (bt : Nat → Int64) (a b : Nat) : Prop := sp_sm na kd dp sa ln bt (dp a).toNatClampNeg a b
/-- rows that are alike -/
def sp_sr (na : Nat) (kd dp sa ln : Nat → Int32) (bt : Nat → Int64) (k j : Int32) : Prop := ∃ x y, x < na ∧ y < na ∧ k = nI x ∧ j = nI y ∧ sp_sS na kd dp sa ln bt x y
/-- elements that are alike -/
def sp_se (na : Nat) (kd dp sa ln : Nat → Int32) (bt : Nat → Int64) (a b i : Nat) : Prop := bt ((sa a).toNatClampNeg + i) = bt ((sa b).toNatClampNeg + i) ∨ (¬ dp a = 1 ∧ sp_sr na kd dp sa ln bt (bt ((sa a).toNatClampNeg + i)).toInt32 (bt ((sa b).toNatClampNeg + i)).toInt32)
theorem zl_ssU {na ne a s l d b : Nat} {kd dp sa ln : Nat → Int32} {bt : Nat → Int64} (hM : zz_MI na ne dp sa ln bt) (ha : a < na) (es : sa a = nI s) (el : ln a = nI l) (ed : dp a = nI d) (hs : s ≤ 4000) (hl : l ≤ 200) (h1 : 1 ≤ d) (h4 : d ≤ 4) : sp_sS na kd dp sa ln bt a b ↔ (kd a = kd b ∧ dp a = dp b ∧ ln a = ln b ∧ ∀ i, i < l → sp_se na kd dp sa ln bt a b i) := by
  obtain ⟨d', rfl⟩ : ∃ d', d = d' + 1 := ⟨d - 1, by omega⟩
  have hna := hM.1.1
  have eS : (sa a).toNatClampNeg = s := by rw [es]; exact nI_clamp (by omega)
  have eL : (ln a).toNatClampNeg = l := by rw [el]; exact nI_clamp (by omega)
  have eD : (dp a).toNatClampNeg = d' + 1 := by rw [ed]; exact nI_clamp (by omega)
  have n1 : d' ≠ 0 ↔ ¬ dp a = 1 := by
    constructor
    · intro q z
      have w : nI (d' + 1) = nI 1 := ed.symm.trans z
      have := (nI_eq (by omega) (by omega)).mp w
      omega
    · intro q z
      exact q (by rw [ed, z]; rfl)
  have key : ∀ i x y, i < l → x < na → (bt (s + i)).toInt32 = nI x → d' ≠ 0 → (sp_sm na kd dp sa ln bt d' x y ↔ sp_sS na kd dp sa ln bt x y) := by
    intro i x y hi hx ex hd
    obtain ⟨sr, lr, dr, -, -, edr, -, -, -, k4⟩ := hM.1.2.2 x hx
    have e' := zl_row hM ha es el ed hs hl h4 (by omega) hi hx ex dr edr k4
    unfold sp_sS
    rw [edr, nI_clamp (show dr < 2 ^ 31 by omega), show dr = d' by omega]
  unfold sp_sS
  rw [eD, sp_sm, eL]
  refine ⟨fun h => ⟨h.1, h.2.1, h.2.2.1, fun i hi => ?_⟩, fun h => ⟨h.1, h.2.1, h.2.2.1, fun i hi => ?_⟩⟩
  · have w := h.2.2.2 i hi
    unfold sp_se
    rw [eS] at w ⊢
    rcases w with q | ⟨q0, x, y, hx, hy, ex, ey, q⟩
    · exact Or.inl q
    · exact Or.inr ⟨n1.mp q0, x, y, hx, hy, ex, ey, (key i x y hi hx ex q0).mp q⟩
  · have w := h.2.2.2 i hi
    unfold sp_se at w
    rw [eS] at w ⊢
    rcases w with q | ⟨q0, x, y, hx, hy, ex, ey, q⟩
    · exact Or.inl q
    · exact Or.inr ⟨n1.mpr q0, x, y, hx, hy, ex, ey, (key i x y hi hx ex (n1.mpr q0)).mpr q⟩
theorem zl_ssI {na a l b : Nat} {kd dp sa ln : Nat → Int32} {bt : Nat → Int64} (hU : sp_sS na kd dp sa ln bt a b ↔ (kd a = kd b ∧ dp a = dp b ∧ ln a = ln b ∧ ∀ i, i < l → sp_se na kd dp sa ln bt a b i)) (e : a = b) : sp_sS na kd dp sa ln bt a b := hU.mpr ⟨by rw [e], by rw [e], by rw [e], fun i _ => Or.inl (by rw [e])⟩
theorem zl_seE {na a s i : Nat} {kd dp sa ln : Nat → Int32} {bt : Nat → Int64} {b t : Nat} (es : sa a = nI s) (et : sa b = nI t) (hs : s ≤ 4000) (ht : t ≤ 4000) (h : bt (s + i) = bt (t + i)) : sp_se na kd dp sa ln bt a b i := by
  refine Or.inl ?_
  rw [es, et, nI_clamp (by omega), nI_clamp (by omega)]
  exact h
theorem zl_seR {na a s i : Nat} {kd dp sa ln : Nat → Int32} {bt : Nat → Int64} {b t : Nat} (es : sa a = nI s) (et : sa b = nI t) (hs : s ≤ 4000) (ht : t ≤ 4000) (hd : ¬ dp a = 1) (h : sp_sr na kd dp sa ln bt (bt (s + i)).toInt32 (bt (t + i)).toInt32) : sp_se na kd dp sa ln bt a b i := by
  refine Or.inr ⟨hd, ?_⟩
  rw [es, et, nI_clamp (by omega), nI_clamp (by omega)]
  exact h
theorem zl_seN {na a s i : Nat} {kd dp sa ln : Nat → Int32} {bt : Nat → Int64} {b t : Nat} (es : sa a = nI s) (et : sa b = nI t) (hs : s ≤ 4000) (ht : t ≤ 4000) (c : ¬ bt (s + i) = bt (t + i)) (h : dp a = 1 ∨ ¬ sp_sr na kd dp sa ln bt (bt (s + i)).toInt32 (bt (t + i)).toInt32) : ¬ sp_se na kd dp sa ln bt a b i := by
  intro q
  unfold sp_se at q
  rw [es, et, nI_clamp (by omega), nI_clamp (by omega)] at q
  rcases q with q | ⟨q1, q2⟩
  · exact c q
  · rcases h with h | h
    · exact q1 h
    · exact h q2
theorem zl_srK {na : Nat} {kd dp sa ln : Nat → Int32} {bt : Nat → Int64} {k j : Int32} (hn : na ≤ 60) (c : fn_co_has (nI na) k = 0) : ¬ sp_sr na kd dp sa ln bt k j := fun ⟨x, _, hx, _, e, _⟩ => zl_hasR hn hx (by rw [← e]; exact c)
theorem zl_srJ {na : Nat} {kd dp sa ln : Nat → Int32} {bt : Nat → Int64} {k j : Int32} (hn : na ≤ 60) (c : fn_co_has (nI na) j = 0) : ¬ sp_sr na kd dp sa ln bt k j := fun ⟨_, y, _, hy, _, e, _⟩ => zl_hasR hn hy (by rw [← e]; exact c)
theorem zl_srI {na x y : Nat} {kd dp sa ln : Nat → Int32} {bt : Nat → Int64} {k j : Int32} (ek : k = nI x) (ej : j = nI y) (hn : na ≤ 60) (hx : x < na) (hy : y < na) : sp_sr na kd dp sa ln bt k j ↔ sp_sS na kd dp sa ln bt x y := by
  refine ⟨fun ⟨x', y', hx', hy', e1, e2, h⟩ => ?_, fun h => ⟨x, y, hx, hy, ek, ej, h⟩⟩
  have q1 : x' = x := (nI_eq (by omega) (by omega)).mp (e1.symm.trans ek)
  have q2 : y' = y := (nI_eq (by omega) (by omega)).mp (e2.symm.trans ej)
  rw [← q1, ← q2]
  exact h
theorem zl_upto {P : Nat → Prop} {i : Nat} (h : ∀ j, j < i → P j) (h2 : P i) : ∀ j, j < i + 1 → P j := fun j hj => by
  by_cases q : j = i
  · rw [q]; exact h2
  · exact h j (by omega)
theorem zl_shp {kdf dpf lnf : Nat → Int32} {a b : Nat} (h : ¬ fn_co_sameShape kdf dpf lnf a b = 0) : kdf a = kdf b ∧ dpf a = dpf b ∧ lnf a = lnf b := by
  unfold fn_co_sameShape at h
  by_cases h1 : kdf a = kdf b
  · by_cases h2 : dpf a = dpf b
    · by_cases h3 : lnf a = lnf b
      · exact ⟨h1, h2, h3⟩
      · rw [if_pos h1, if_pos h2, if_neg h3] at h; exact absurd rfl h
    · rw [if_pos h1, if_neg h2] at h; exact absurd rfl h
  · rw [if_neg h1] at h; exact absurd rfl h
theorem zl_shq {kdf dpf lnf : Nat → Int32} {a b : Nat} (h : fn_co_sameShape kdf dpf lnf a b = 0) (q : kdf a = kdf b ∧ dpf a = dpf b ∧ lnf a = lnf b) : False := by
  unfold fn_co_sameShape at h
  rw [if_pos q.1, if_pos q.2.1, if_pos q.2.2] at h
  exact absurd h (by decide)
/-- notes of this round are right -/
def zz_AM (na : Nat) (S : Nat → Nat → Prop) (n : Nat) (ag : Nat → Int32) : Prop := ∀ x y, x < na → y < na → ag (x * 60 + y) = nI n → S x y
theorem zz_AM.new {na n : Nat} {S : Nat → Nat → Prop} {ag : Nat → Int32} (h : zz_RB n ag) (hn : n ≤ 600) : zz_AM na S (n + 1) ag := fun x y _ _ e => by
  obtain ⟨m, h1, h2⟩ := h (x * 60 + y)
  have := (nI_eq (by omega) (by omega)).mp (h2.symm.trans e)
  omega
theorem zz_AM.set {na n a b : Nat} {S : Nat → Nat → Prop} {ag : Nat → Int32} (h : zz_AM na S n ag) (hn : na ≤ 60) (hb : b < na) (e : S a b) : zz_AM na S n (upd ag (a * 60 + b) (nI n)) := fun x y hx hy ej => by
  by_cases q : x * 60 + y = a * 60 + b
  · have q1 : x = a := by omega
    have q2 : y = b := by omega
    rw [q1, q2]; exact e
  · rw [pk_un q] at ej; exact h x y hx hy ej
/-- the reference's table: arrays of smaller depth -/
def zz_ST (na : Nat) (S : Nat → Nat → Prop) (dp : Nat → Int32) (d : Nat) (al : Nat → Int32) : Prop := ∀ x y e : Nat, x < na → y < na → dp x = nI e → e ≤ 4 → e < d → al (60 * x + y) = sp_b (S x y)
theorem zz_ST.one {na ne : Nat} {S : Nat → Nat → Prop} {dp sa ln al : Nat → Int32} (h : zz_SI na ne dp sa ln) : zz_ST na S dp 1 al := fun x y e hx _ ex he h1 => by
  obtain ⟨_, _, d, _, _, ed, _, _, k3, k4⟩ := h.2.2 x hx
  have := (nI_eq (by omega) (by omega)).mp (ex.symm.trans ed)
  omega
theorem zz_ST.mono {na d d2 : Nat} {S : Nat → Nat → Prop} {dp al : Nat → Int32} (h : zz_ST na S dp d al) (hd : d2 ≤ d) : zz_ST na S dp d2 al := fun x y e hx hy ex he h1 => h x y e hx hy ex he (by omega)
theorem zz_ST.up {na d x0 y0 : Nat} {S : Nat → Nat → Prop} {dp al : Nat → Int32} {v : Int32} (h : zz_ST na S dp d al) (hn : na ≤ 60) (hy0 : y0 < na) (hd : d ≤ 4) (ex0 : dp x0 = nI d) : zz_ST na S dp d (upd al (60 * x0 + y0) v) := fun x y e hx hy ex he h1 => by
  by_cases q : 60 * x + y = 60 * x0 + y0
  · exfalso
    have q1 : x = x0 := by omega
    rw [q1] at ex
    have := (nI_eq (by omega) (by omega)).mp (ex.symm.trans ex0)
    omega
  · rw [pk_un q]; exact h x y e hx hy ex he h1
theorem zz_ST.next {na d : Nat} {S : Nat → Nat → Prop} {dp al : Nat → Int32} (h : zz_ST na S dp d al) (h2 : ∀ x, x < na → dp x = nI d → ∀ y, y < na → al (60 * x + y) = sp_b (S x y)) : zz_ST na S dp (d + 1) al := fun x y e hx hy ex he h1 => by
  by_cases q : e = d
  · rw [q] at ex; exact h2 x hx ex y hy
  · exact h x y e hx hy ex he (by omega)
theorem zl_ilP {P : Nat → Prop} {i l : Nat} {w : Int32} (h : (w = 1 ∧ ∀ j, j < i → P j) ∨ (w = 0 ∧ ∃ j, j < l ∧ ¬ P j)) (c : ¬ w = 0) : ∀ j, j < i → P j := (h.resolve_right fun q => c q.1).2
theorem zl_ilE {P : Nat → Prop} {S Q1 Q2 Q3 : Prop} {i l : Nat} {w : Int32} (hU : S ↔ (Q1 ∧ Q2 ∧ Q3 ∧ ∀ j, j < l → P j)) (hq : Q1 ∧ Q2 ∧ Q3) (h : (w = 1 ∧ ∀ j, j < i → P j) ∨ (w = 0 ∧ ∃ j, j < l ∧ ¬ P j)) (hx : l ≤ i ∨ w = 0) : w = sp_b S := by
  rcases h with ⟨e, h⟩ | ⟨e, j, hj, h⟩
  · have hl : l ≤ i := hx.resolve_right fun q => absurd (e.symm.trans q) (by decide)
    rw [e]
    exact (zl_bT (hU.mpr ⟨hq.1, hq.2.1, hq.2.2, fun j hj => h j (by omega)⟩)).symm
  · rw [e]
    exact (zl_bF fun z => h ((hU.mp z).2.2.2 j hj)).symm
theorem dg_X2_agreeAt_0 : (decode cX2_agreeAt 0 = .ok (.iload_n 1, 1)) ∧ (decode cX2_agreeAt 1 = .ok (.iload_n 2, 1)) ∧ (decode cX2_agreeAt 2 = .ok (.if_icmp .eq 21, 3)) ∧ (decode cX2_agreeAt 5 = .ok (.aload_n 0, 1)) ∧ (decode cX2_agreeAt 6 = .ok (.getfield 9, 3)) ∧ (decode cX2_agreeAt 9 = .ok (.iload_n 1, 1)) ∧ (decode cX2_agreeAt 10 = .ok (.bipush 60, 2)) ∧ (decode cX2_agreeAt 12 = .ok (.imul, 1)) ∧ (decode cX2_agreeAt 13 = .ok (.iload_n 2, 1)) ∧ (decode cX2_agreeAt 14 = .ok (.iadd, 1)) ∧ (decode cX2_agreeAt 15 = .ok (.iaload, 1)) ∧ (decode cX2_agreeAt 16 = .ok (.aload_n 0, 1)) ∧ (decode cX2_agreeAt 17 = .ok (.getfield 25, 3)) ∧ (decode cX2_agreeAt 20 = .ok (.if_icmp .ne 5, 3)) ∧ (decode cX2_agreeAt 23 = .ok (.iconst 1, 1)) ∧ (decode cX2_agreeAt 24 = .ok (.ireturn, 1)) := by decide +kernel
theorem dX2_agreeAt_0 : decode cX2_agreeAt 0 = .ok (.iload_n 1, 1) := dg_X2_agreeAt_0.1
theorem dX2_agreeAt_1 : decode cX2_agreeAt 1 = .ok (.iload_n 2, 1) := dg_X2_agreeAt_0.2.1
theorem dX2_agreeAt_2 : decode cX2_agreeAt 2 = .ok (.if_icmp .eq 21, 3) := dg_X2_agreeAt_0.2.2.1
theorem dX2_agreeAt_5 : decode cX2_agreeAt 5 = .ok (.aload_n 0, 1) := dg_X2_agreeAt_0.2.2.2.1
theorem dX2_agreeAt_6 : decode cX2_agreeAt 6 = .ok (.getfield 9, 3) := dg_X2_agreeAt_0.2.2.2.2.1
theorem dX2_agreeAt_9 : decode cX2_agreeAt 9 = .ok (.iload_n 1, 1) := dg_X2_agreeAt_0.2.2.2.2.2.1
theorem dX2_agreeAt_10 : decode cX2_agreeAt 10 = .ok (.bipush 60, 2) := dg_X2_agreeAt_0.2.2.2.2.2.2.1
theorem dX2_agreeAt_12 : decode cX2_agreeAt 12 = .ok (.imul, 1) := dg_X2_agreeAt_0.2.2.2.2.2.2.2.1
theorem dX2_agreeAt_13 : decode cX2_agreeAt 13 = .ok (.iload_n 2, 1) := dg_X2_agreeAt_0.2.2.2.2.2.2.2.2.1
theorem dX2_agreeAt_14 : decode cX2_agreeAt 14 = .ok (.iadd, 1) := dg_X2_agreeAt_0.2.2.2.2.2.2.2.2.2.1
theorem dX2_agreeAt_15 : decode cX2_agreeAt 15 = .ok (.iaload, 1) := dg_X2_agreeAt_0.2.2.2.2.2.2.2.2.2.2.1
theorem dX2_agreeAt_16 : decode cX2_agreeAt 16 = .ok (.aload_n 0, 1) := dg_X2_agreeAt_0.2.2.2.2.2.2.2.2.2.2.2.1
theorem dX2_agreeAt_17 : decode cX2_agreeAt 17 = .ok (.getfield 25, 3) := dg_X2_agreeAt_0.2.2.2.2.2.2.2.2.2.2.2.2.1
theorem dX2_agreeAt_20 : decode cX2_agreeAt 20 = .ok (.if_icmp .ne 5, 3) := dg_X2_agreeAt_0.2.2.2.2.2.2.2.2.2.2.2.2.2.1
theorem dX2_agreeAt_23 : decode cX2_agreeAt 23 = .ok (.iconst 1, 1) := dg_X2_agreeAt_0.2.2.2.2.2.2.2.2.2.2.2.2.2.2.1
theorem dX2_agreeAt_24 : decode cX2_agreeAt 24 = .ok (.ireturn, 1) := dg_X2_agreeAt_0.2.2.2.2.2.2.2.2.2.2.2.2.2.2.2
theorem dg_X2_agreeAt_25 : (decode cX2_agreeAt 25 = .ok (.iload_n 3, 1)) ∧ (decode cX2_agreeAt 26 = .ok (.iconst 4, 1)) ∧ (decode cX2_agreeAt 27 = .ok (.if_icmp .gt 12, 3)) ∧ (decode cX2_agreeAt 30 = .ok (.aload_n 0, 1)) ∧ (decode cX2_agreeAt 31 = .ok (.iload_n 1, 1)) ∧ (decode cX2_agreeAt 32 = .ok (.iload_n 2, 1)) ∧ (decode cX2_agreeAt 33 = .ok (.invokevirtual 33, 3)) ∧ (decode cX2_agreeAt 36 = .ok (.ifCond .ne 5, 3)) ∧ (decode cX2_agreeAt 39 = .ok (.iconst 0, 1)) ∧ (decode cX2_agreeAt 40 = .ok (.ireturn, 1)) ∧ (decode cX2_agreeAt 41 = .ok (.aload_n 0, 1)) ∧ (decode cX2_agreeAt 42 = .ok (.getfield 21, 3)) ∧ (decode cX2_agreeAt 45 = .ok (.getfield 37, 3)) ∧ (decode cX2_agreeAt 48 = .ok (.iload_n 1, 1)) ∧ (decode cX2_agreeAt 49 = .ok (.iaload, 1)) ∧ (decode cX2_agreeAt 50 = .ok (.iconst 1, 1)) := by decide +kernel
theorem dX2_agreeAt_25 : decode cX2_agreeAt 25 = .ok (.iload_n 3, 1) := dg_X2_agreeAt_25.1
theorem dX2_agreeAt_26 : decode cX2_agreeAt 26 = .ok (.iconst 4, 1) := dg_X2_agreeAt_25.2.1
theorem dX2_agreeAt_27 : decode cX2_agreeAt 27 = .ok (.if_icmp .gt 12, 3) := dg_X2_agreeAt_25.2.2.1
theorem dX2_agreeAt_30 : decode cX2_agreeAt 30 = .ok (.aload_n 0, 1) := dg_X2_agreeAt_25.2.2.2.1
theorem dX2_agreeAt_31 : decode cX2_agreeAt 31 = .ok (.iload_n 1, 1) := dg_X2_agreeAt_25.2.2.2.2.1
theorem dX2_agreeAt_32 : decode cX2_agreeAt 32 = .ok (.iload_n 2, 1) := dg_X2_agreeAt_25.2.2.2.2.2.1
theorem dX2_agreeAt_33 : decode cX2_agreeAt 33 = .ok (.invokevirtual 33, 3) := dg_X2_agreeAt_25.2.2.2.2.2.2.1
theorem dX2_agreeAt_36 : decode cX2_agreeAt 36 = .ok (.ifCond .ne 5, 3) := dg_X2_agreeAt_25.2.2.2.2.2.2.2.1
theorem dX2_agreeAt_39 : decode cX2_agreeAt 39 = .ok (.iconst 0, 1) := dg_X2_agreeAt_25.2.2.2.2.2.2.2.2.1
theorem dX2_agreeAt_40 : decode cX2_agreeAt 40 = .ok (.ireturn, 1) := dg_X2_agreeAt_25.2.2.2.2.2.2.2.2.2.1
theorem dX2_agreeAt_41 : decode cX2_agreeAt 41 = .ok (.aload_n 0, 1) := dg_X2_agreeAt_25.2.2.2.2.2.2.2.2.2.2.1
theorem dX2_agreeAt_42 : decode cX2_agreeAt 42 = .ok (.getfield 21, 3) := dg_X2_agreeAt_25.2.2.2.2.2.2.2.2.2.2.2.1
theorem dX2_agreeAt_45 : decode cX2_agreeAt 45 = .ok (.getfield 37, 3) := dg_X2_agreeAt_25.2.2.2.2.2.2.2.2.2.2.2.2.1
theorem dX2_agreeAt_48 : decode cX2_agreeAt 48 = .ok (.iload_n 1, 1) := dg_X2_agreeAt_25.2.2.2.2.2.2.2.2.2.2.2.2.2.1
theorem dX2_agreeAt_49 : decode cX2_agreeAt 49 = .ok (.iaload, 1) := dg_X2_agreeAt_25.2.2.2.2.2.2.2.2.2.2.2.2.2.2.1
theorem dX2_agreeAt_50 : decode cX2_agreeAt 50 = .ok (.iconst 1, 1) := dg_X2_agreeAt_25.2.2.2.2.2.2.2.2.2.2.2.2.2.2.2
theorem dg_X2_agreeAt_51 : (decode cX2_agreeAt 51 = .ok (.if_icmp .ne 7, 3)) ∧ (decode cX2_agreeAt 54 = .ok (.iconst 1, 1)) ∧ (decode cX2_agreeAt 55 = .ok (.goto 4, 3)) ∧ (decode cX2_agreeAt 58 = .ok (.iconst 0, 1)) ∧ (decode cX2_agreeAt 59 = .ok (.istore 4, 2)) ∧ (decode cX2_agreeAt 61 = .ok (.iconst 0, 1)) ∧ (decode cX2_agreeAt 62 = .ok (.istore 5, 2)) ∧ (decode cX2_agreeAt 64 = .ok (.iload 5, 2)) ∧ (decode cX2_agreeAt 66 = .ok (.aload_n 0, 1)) ∧ (decode cX2_agreeAt 67 = .ok (.getfield 21, 3)) ∧ (decode cX2_agreeAt 70 = .ok (.getfield 42, 3)) ∧ (decode cX2_agreeAt 73 = .ok (.iload_n 1, 1)) ∧ (decode cX2_agreeAt 74 = .ok (.iaload, 1)) ∧ (decode cX2_agreeAt 75 = .ok (.if_icmp .ge 82, 3)) ∧ (decode cX2_agreeAt 78 = .ok (.aload_n 0, 1)) ∧ (decode cX2_agreeAt 79 = .ok (.getfield 21, 3)) := by decide +kernel
theorem dX2_agreeAt_51 : decode cX2_agreeAt 51 = .ok (.if_icmp .ne 7, 3) := dg_X2_agreeAt_51.1
theorem dX2_agreeAt_54 : decode cX2_agreeAt 54 = .ok (.iconst 1, 1) := dg_X2_agreeAt_51.2.1
theorem dX2_agreeAt_55 : decode cX2_agreeAt 55 = .ok (.goto 4, 3) := dg_X2_agreeAt_51.2.2.1
theorem dX2_agreeAt_58 : decode cX2_agreeAt 58 = .ok (.iconst 0, 1) := dg_X2_agreeAt_51.2.2.2.1
theorem dX2_agreeAt_59 : decode cX2_agreeAt 59 = .ok (.istore 4, 2) := dg_X2_agreeAt_51.2.2.2.2.1
theorem dX2_agreeAt_61 : decode cX2_agreeAt 61 = .ok (.iconst 0, 1) := dg_X2_agreeAt_51.2.2.2.2.2.1
theorem dX2_agreeAt_62 : decode cX2_agreeAt 62 = .ok (.istore 5, 2) := dg_X2_agreeAt_51.2.2.2.2.2.2.1
theorem dX2_agreeAt_64 : decode cX2_agreeAt 64 = .ok (.iload 5, 2) := dg_X2_agreeAt_51.2.2.2.2.2.2.2.1
theorem dX2_agreeAt_66 : decode cX2_agreeAt 66 = .ok (.aload_n 0, 1) := dg_X2_agreeAt_51.2.2.2.2.2.2.2.2.1
theorem dX2_agreeAt_67 : decode cX2_agreeAt 67 = .ok (.getfield 21, 3) := dg_X2_agreeAt_51.2.2.2.2.2.2.2.2.2.1
theorem dX2_agreeAt_70 : decode cX2_agreeAt 70 = .ok (.getfield 42, 3) := dg_X2_agreeAt_51.2.2.2.2.2.2.2.2.2.2.1
theorem dX2_agreeAt_73 : decode cX2_agreeAt 73 = .ok (.iload_n 1, 1) := dg_X2_agreeAt_51.2.2.2.2.2.2.2.2.2.2.2.1
theorem dX2_agreeAt_74 : decode cX2_agreeAt 74 = .ok (.iaload, 1) := dg_X2_agreeAt_51.2.2.2.2.2.2.2.2.2.2.2.2.1
theorem dX2_agreeAt_75 : decode cX2_agreeAt 75 = .ok (.if_icmp .ge 82, 3) := dg_X2_agreeAt_51.2.2.2.2.2.2.2.2.2.2.2.2.2.1
theorem dX2_agreeAt_78 : decode cX2_agreeAt 78 = .ok (.aload_n 0, 1) := dg_X2_agreeAt_51.2.2.2.2.2.2.2.2.2.2.2.2.2.2.1
theorem dX2_agreeAt_79 : decode cX2_agreeAt 79 = .ok (.getfield 21, 3) := dg_X2_agreeAt_51.2.2.2.2.2.2.2.2.2.2.2.2.2.2.2
theorem dg_X2_agreeAt_82 : (decode cX2_agreeAt 82 = .ok (.getfield 45, 3)) ∧ (decode cX2_agreeAt 85 = .ok (.aload_n 0, 1)) ∧ (decode cX2_agreeAt 86 = .ok (.getfield 21, 3)) ∧ (decode cX2_agreeAt 89 = .ok (.getfield 49, 3)) ∧ (decode cX2_agreeAt 92 = .ok (.iload_n 1, 1)) ∧ (decode cX2_agreeAt 93 = .ok (.iaload, 1)) ∧ (decode cX2_agreeAt 94 = .ok (.iload 5, 2)) ∧ (decode cX2_agreeAt 96 = .ok (.iadd, 1)) ∧ (decode cX2_agreeAt 97 = .ok (.laload, 1)) ∧ (decode cX2_agreeAt 98 = .ok (.lstore 6, 2)) ∧ (decode cX2_agreeAt 100 = .ok (.aload_n 0, 1)) ∧ (decode cX2_agreeAt 101 = .ok (.getfield 21, 3)) ∧ (decode cX2_agreeAt 104 = .ok (.getfield 45, 3)) ∧ (decode cX2_agreeAt 107 = .ok (.aload_n 0, 1)) ∧ (decode cX2_agreeAt 108 = .ok (.getfield 21, 3)) ∧ (decode cX2_agreeAt 111 = .ok (.getfield 49, 3)) := by decide +kernel
theorem dX2_agreeAt_82 : decode cX2_agreeAt 82 = .ok (.getfield 45, 3) := dg_X2_agreeAt_82.1
theorem dX2_agreeAt_85 : decode cX2_agreeAt 85 = .ok (.aload_n 0, 1) := dg_X2_agreeAt_82.2.1
theorem dX2_agreeAt_86 : decode cX2_agreeAt 86 = .ok (.getfield 21, 3) := dg_X2_agreeAt_82.2.2.1
theorem dX2_agreeAt_89 : decode cX2_agreeAt 89 = .ok (.getfield 49, 3) := dg_X2_agreeAt_82.2.2.2.1
theorem dX2_agreeAt_92 : decode cX2_agreeAt 92 = .ok (.iload_n 1, 1) := dg_X2_agreeAt_82.2.2.2.2.1
theorem dX2_agreeAt_93 : decode cX2_agreeAt 93 = .ok (.iaload, 1) := dg_X2_agreeAt_82.2.2.2.2.2.1
theorem dX2_agreeAt_94 : decode cX2_agreeAt 94 = .ok (.iload 5, 2) := dg_X2_agreeAt_82.2.2.2.2.2.2.1
theorem dX2_agreeAt_96 : decode cX2_agreeAt 96 = .ok (.iadd, 1) := dg_X2_agreeAt_82.2.2.2.2.2.2.2.1
theorem dX2_agreeAt_97 : decode cX2_agreeAt 97 = .ok (.laload, 1) := dg_X2_agreeAt_82.2.2.2.2.2.2.2.2.1
theorem dX2_agreeAt_98 : decode cX2_agreeAt 98 = .ok (.lstore 6, 2) := dg_X2_agreeAt_82.2.2.2.2.2.2.2.2.2.1
theorem dX2_agreeAt_100 : decode cX2_agreeAt 100 = .ok (.aload_n 0, 1) := dg_X2_agreeAt_82.2.2.2.2.2.2.2.2.2.2.1
theorem dX2_agreeAt_101 : decode cX2_agreeAt 101 = .ok (.getfield 21, 3) := dg_X2_agreeAt_82.2.2.2.2.2.2.2.2.2.2.2.1
theorem dX2_agreeAt_104 : decode cX2_agreeAt 104 = .ok (.getfield 45, 3) := dg_X2_agreeAt_82.2.2.2.2.2.2.2.2.2.2.2.2.1
theorem dX2_agreeAt_107 : decode cX2_agreeAt 107 = .ok (.aload_n 0, 1) := dg_X2_agreeAt_82.2.2.2.2.2.2.2.2.2.2.2.2.2.1
theorem dX2_agreeAt_108 : decode cX2_agreeAt 108 = .ok (.getfield 21, 3) := dg_X2_agreeAt_82.2.2.2.2.2.2.2.2.2.2.2.2.2.2.1
theorem dX2_agreeAt_111 : decode cX2_agreeAt 111 = .ok (.getfield 49, 3) := dg_X2_agreeAt_82.2.2.2.2.2.2.2.2.2.2.2.2.2.2.2
theorem dg_X2_agreeAt_114 : (decode cX2_agreeAt 114 = .ok (.iload_n 2, 1)) ∧ (decode cX2_agreeAt 115 = .ok (.iaload, 1)) ∧ (decode cX2_agreeAt 116 = .ok (.iload 5, 2)) ∧ (decode cX2_agreeAt 118 = .ok (.iadd, 1)) ∧ (decode cX2_agreeAt 119 = .ok (.laload, 1)) ∧ (decode cX2_agreeAt 120 = .ok (.lstore 8, 2)) ∧ (decode cX2_agreeAt 122 = .ok (.lload 6, 2)) ∧ (decode cX2_agreeAt 124 = .ok (.lload 8, 2)) ∧ (decode cX2_agreeAt 126 = .ok (.lcmp, 1)) ∧ (decode cX2_agreeAt 127 = .ok (.ifCond .eq 24, 3)) ∧ (decode cX2_agreeAt 130 = .ok (.iload 4, 2)) ∧ (decode cX2_agreeAt 132 = .ok (.ifCond .ne 17, 3)) ∧ (decode cX2_agreeAt 135 = .ok (.aload_n 0, 1)) ∧ (decode cX2_agreeAt 136 = .ok (.lload 6, 2)) ∧ (decode cX2_agreeAt 138 = .ok (.l2i, 1)) ∧ (decode cX2_agreeAt 139 = .ok (.lload 8, 2)) := by decide +kernel
theorem dX2_agreeAt_114 : decode cX2_agreeAt 114 = .ok (.iload_n 2, 1) := dg_X2_agreeAt_114.1
theorem dX2_agreeAt_115 : decode cX2_agreeAt 115 = .ok (.iaload, 1) := dg_X2_agreeAt_114.2.1
theorem dX2_agreeAt_116 : decode cX2_agreeAt 116 = .ok (.iload 5, 2) := dg_X2_agreeAt_114.2.2.1
theorem dX2_agreeAt_118 : decode cX2_agreeAt 118 = .ok (.iadd, 1) := dg_X2_agreeAt_114.2.2.2.1
theorem dX2_agreeAt_119 : decode cX2_agreeAt 119 = .ok (.laload, 1) := dg_X2_agreeAt_114.2.2.2.2.1
theorem dX2_agreeAt_120 : decode cX2_agreeAt 120 = .ok (.lstore 8, 2) := dg_X2_agreeAt_114.2.2.2.2.2.1
theorem dX2_agreeAt_122 : decode cX2_agreeAt 122 = .ok (.lload 6, 2) := dg_X2_agreeAt_114.2.2.2.2.2.2.1
theorem dX2_agreeAt_124 : decode cX2_agreeAt 124 = .ok (.lload 8, 2) := dg_X2_agreeAt_114.2.2.2.2.2.2.2.1
theorem dX2_agreeAt_126 : decode cX2_agreeAt 126 = .ok (.lcmp, 1) := dg_X2_agreeAt_114.2.2.2.2.2.2.2.2.1
theorem dX2_agreeAt_127 : decode cX2_agreeAt 127 = .ok (.ifCond .eq 24, 3) := dg_X2_agreeAt_114.2.2.2.2.2.2.2.2.2.1
theorem dX2_agreeAt_130 : decode cX2_agreeAt 130 = .ok (.iload 4, 2) := dg_X2_agreeAt_114.2.2.2.2.2.2.2.2.2.2.1
theorem dX2_agreeAt_132 : decode cX2_agreeAt 132 = .ok (.ifCond .ne 17, 3) := dg_X2_agreeAt_114.2.2.2.2.2.2.2.2.2.2.2.1
theorem dX2_agreeAt_135 : decode cX2_agreeAt 135 = .ok (.aload_n 0, 1) := dg_X2_agreeAt_114.2.2.2.2.2.2.2.2.2.2.2.2.1
theorem dX2_agreeAt_136 : decode cX2_agreeAt 136 = .ok (.lload 6, 2) := dg_X2_agreeAt_114.2.2.2.2.2.2.2.2.2.2.2.2.2.1
theorem dX2_agreeAt_138 : decode cX2_agreeAt 138 = .ok (.l2i, 1) := dg_X2_agreeAt_114.2.2.2.2.2.2.2.2.2.2.2.2.2.2.1
theorem dX2_agreeAt_139 : decode cX2_agreeAt 139 = .ok (.lload 8, 2) := dg_X2_agreeAt_114.2.2.2.2.2.2.2.2.2.2.2.2.2.2.2
theorem dg_X2_agreeAt_141 : (decode cX2_agreeAt 141 = .ok (.l2i, 1)) ∧ (decode cX2_agreeAt 142 = .ok (.iload_n 3, 1)) ∧ (decode cX2_agreeAt 143 = .ok (.invokevirtual 52, 3)) ∧ (decode cX2_agreeAt 146 = .ok (.ifCond .ne 5, 3)) ∧ (decode cX2_agreeAt 149 = .ok (.iconst 0, 1)) ∧ (decode cX2_agreeAt 150 = .ok (.ireturn, 1)) ∧ (decode cX2_agreeAt 151 = .ok (.iinc 5 1, 3)) ∧ (decode cX2_agreeAt 154 = .ok (.goto (-90), 3)) ∧ (decode cX2_agreeAt 157 = .ok (.aload_n 0, 1)) ∧ (decode cX2_agreeAt 158 = .ok (.getfield 9, 3)) ∧ (decode cX2_agreeAt 161 = .ok (.iload_n 1, 1)) ∧ (decode cX2_agreeAt 162 = .ok (.bipush 60, 2)) ∧ (decode cX2_agreeAt 164 = .ok (.imul, 1)) ∧ (decode cX2_agreeAt 165 = .ok (.iload_n 2, 1)) ∧ (decode cX2_agreeAt 166 = .ok (.iadd, 1)) ∧ (decode cX2_agreeAt 167 = .ok (.aload_n 0, 1)) := by decide +kernel
theorem dX2_agreeAt_141 : decode cX2_agreeAt 141 = .ok (.l2i, 1) := dg_X2_agreeAt_141.1
theorem dX2_agreeAt_142 : decode cX2_agreeAt 142 = .ok (.iload_n 3, 1) := dg_X2_agreeAt_141.2.1
theorem dX2_agreeAt_143 : decode cX2_agreeAt 143 = .ok (.invokevirtual 52, 3) := dg_X2_agreeAt_141.2.2.1
theorem dX2_agreeAt_146 : decode cX2_agreeAt 146 = .ok (.ifCond .ne 5, 3) := dg_X2_agreeAt_141.2.2.2.1
theorem dX2_agreeAt_149 : decode cX2_agreeAt 149 = .ok (.iconst 0, 1) := dg_X2_agreeAt_141.2.2.2.2.1
theorem dX2_agreeAt_150 : decode cX2_agreeAt 150 = .ok (.ireturn, 1) := dg_X2_agreeAt_141.2.2.2.2.2.1
theorem dX2_agreeAt_151 : decode cX2_agreeAt 151 = .ok (.iinc 5 1, 3) := dg_X2_agreeAt_141.2.2.2.2.2.2.1
theorem dX2_agreeAt_154 : decode cX2_agreeAt 154 = .ok (.goto (-90), 3) := dg_X2_agreeAt_141.2.2.2.2.2.2.2.1
theorem dX2_agreeAt_157 : decode cX2_agreeAt 157 = .ok (.aload_n 0, 1) := dg_X2_agreeAt_141.2.2.2.2.2.2.2.2.1
theorem dX2_agreeAt_158 : decode cX2_agreeAt 158 = .ok (.getfield 9, 3) := dg_X2_agreeAt_141.2.2.2.2.2.2.2.2.2.1
theorem dX2_agreeAt_161 : decode cX2_agreeAt 161 = .ok (.iload_n 1, 1) := dg_X2_agreeAt_141.2.2.2.2.2.2.2.2.2.2.1
theorem dX2_agreeAt_162 : decode cX2_agreeAt 162 = .ok (.bipush 60, 2) := dg_X2_agreeAt_141.2.2.2.2.2.2.2.2.2.2.2.1
theorem dX2_agreeAt_164 : decode cX2_agreeAt 164 = .ok (.imul, 1) := dg_X2_agreeAt_141.2.2.2.2.2.2.2.2.2.2.2.2.1
theorem dX2_agreeAt_165 : decode cX2_agreeAt 165 = .ok (.iload_n 2, 1) := dg_X2_agreeAt_141.2.2.2.2.2.2.2.2.2.2.2.2.2.1
theorem dX2_agreeAt_166 : decode cX2_agreeAt 166 = .ok (.iadd, 1) := dg_X2_agreeAt_141.2.2.2.2.2.2.2.2.2.2.2.2.2.2.1
theorem dX2_agreeAt_167 : decode cX2_agreeAt 167 = .ok (.aload_n 0, 1) := dg_X2_agreeAt_141.2.2.2.2.2.2.2.2.2.2.2.2.2.2.2
theorem dg_X2_agreeAt_168 : (decode cX2_agreeAt 168 = .ok (.getfield 25, 3)) ∧ (decode cX2_agreeAt 171 = .ok (.iastore, 1)) ∧ (decode cX2_agreeAt 172 = .ok (.iconst 1, 1)) ∧ (decode cX2_agreeAt 173 = .ok (.ireturn, 1)) := by decide +kernel
theorem dX2_agreeAt_168 : decode cX2_agreeAt 168 = .ok (.getfield 25, 3) := dg_X2_agreeAt_168.1
theorem dX2_agreeAt_171 : decode cX2_agreeAt 171 = .ok (.iastore, 1) := dg_X2_agreeAt_168.2.1
theorem dX2_agreeAt_172 : decode cX2_agreeAt 172 = .ok (.iconst 1, 1) := dg_X2_agreeAt_168.2.2.1
theorem dX2_agreeAt_173 : decode cX2_agreeAt 173 = .ok (.ireturn, 1) := dg_X2_agreeAt_168.2.2.2
theorem zf_X2_9 : zz_f RX2 9 1 2 := ⟨RX2, TX2, 5, rfl, zi_X2, by decide, zk_117⟩
abbrev rm_co_agr5 : Room := { frames := 0, cells := 0, slots := 0, locals := 0 }
abbrev po_co_agr5 (g : zz_G) (lk : Nat) (l_ag : Nat) (l_dg : Nat) (l_ds : Nat) (st : Nat) (kd : Nat) (dp : Nat) (cl : Nat) (sa : Nat) (ln : Nat) (bt : Nat) (pn : Nat) (bf : Nat) (na : Nat) (nu : Nat) (n : Nat) (kdf : Nat → Int32) (dpf : Nat → Int32) (saf : Nat → Int32) (lnf : Nat → Int32) (btf : Nat → Int64) (agf : Nat → Int32) (a : Nat) (b : Nat) (h_M : zz_MI na nu dpf saf lnf btf) (h_a : a < na ∧ b < na) (h_v : ∀ dr : Nat, dpf a = nI dr → dr ≤ 4 → dr + 5 ≤ 5) (h_m : zz_AM na (sp_sS na kdf dpf saf lnf btf) n agf) (h_q : zz_RB n agf) : Int32 → va_W → Prop := fun (r : Int32) (u : va_W) => ∃ (ag2 : Nat → Int32), (r = sp_b (sp_sS na kdf dpf saf lnf btf a b)) ∧ (zz_AM na (sp_sS na kdf dpf saf lnf btf) n ag2) ∧ (zz_RB n ag2) ∧ u = [cw_k1 lk st (nI n) l_ag l_dg l_ds, cw_i g l_ag 3600 ag2, cw_k5 st (nI na) (nI nu) kd dp cl sa ln bt pn bf, cw_i g kd 60 kdf, cw_i g dp 60 dpf, cw_i g sa 60 saf, cw_i g ln 60 lnf, cw_l g bt 4000 btf]
set_option maxHeartbeats 4000000 in
set_option maxRecDepth 100000 in
theorem co_agr5 (g : zz_G) (lk : Nat) (l_ag : Nat) (l_dg : Nat) (l_ds : Nat) (st : Nat) (kd : Nat) (dp : Nat) (cl : Nat) (sa : Nat) (ln : Nat) (bt : Nat) (pn : Nat) (bf : Nat) (na : Nat) (nu : Nat) (n : Nat) (kdf : Nat → Int32) (dpf : Nat → Int32) (saf : Nat → Int32) (lnf : Nat → Int32) (btf : Nat → Int64) (agf : Nat → Int32) (a : Nat) (b : Nat) (h_M : zz_MI na nu dpf saf lnf btf) (h_a : a < na ∧ b < na) (h_v : ∀ dr : Nat, dpf a = nI dr → dr ≤ 4 → dr + 5 ≤ 5) (h_m : zz_AM na (sp_sS na kdf dpf saf lnf btf) n agf) (h_q : zz_RB n agf) : zz_I g yX2_agreeAt (.code yX2_agreeAt cX2_agreeAt 10 (some .boolean)) rm_co_agr5 [.ref lk, .int (nI a), .int (nI b), .int 5] [cw_k1 lk st (nI n) l_ag l_dg l_ds, cw_i g l_ag 3600 agf, cw_k5 st (nI na) (nI nu) kd dp cl sa ln bt pn bf, cw_i g kd 60 kdf, cw_i g dp 60 dpf, cw_i g sa 60 saf, cw_i g ln 60 lnf, cw_l g bt 4000 btf] (po_co_agr5 g lk l_ag l_dg l_ds st kd dp cl sa ln bt pn bf na nu n kdf dpf saf lnf btf agf a b h_M h_a h_v h_m h_q) := by
  refine zz_I.intro (own := RX2) (cc := cX2_agreeAt) (nL := 10) (by decide) rfl (Nat.le_of_ble_eq_true rfl) ?_
  intro p l e s m args below meth c A H locs ls hC hnm hs hZ hl
  obtain ⟨hx, hb, hml, hown, hts, hr, hlocks, hK⟩ := id hC
  have hl : lv_has ls 10 [(0, .ref lk), (1, .int (nI a)), (2, .int (nI b)), (3, .int 5)] := hl
  have hZ : zz_Z g A s.heap [cw_k1 lk st (nI n) l_ag l_dg l_ds, cw_i g l_ag 3600 agf, cw_k5 st (nI na) (nI nu) kd dp cl sa ln bt pn bf, cw_i g kd 60 kdf, cw_i g dp 60 dpf, cw_i g sa 60 saf, cw_i g ln 60 lnf, cw_l g bt 4000 btf] H locs := hZ
  have h_S := h_M.1
  have hna := h_S.1
  have hnu := h_S.2.1
  obtain ⟨sz, lz, dz, es, el, ed, g1, g2, g3, g4⟩ := h_S.2.2 a h_a.1
  obtain ⟨szb, lzb, dzb, esb, elb, edb, g1b, g2b, g3b, g4b⟩ := h_S.2.2 b h_a.2
  have hv := h_v dz ed (by omega)
  have hU := zl_ssU (kd := kdf) (b := b) h_M h_a.1 es el ed (by omega) (by omega) (by omega) (by omega)
  refine lv_iload_n hx hb dX2_agreeAt_0 rfl (lv_at hl 1 rfl) ?_
  refine lv_iload_n hx hb dX2_agreeAt_1 rfl (lv_at hl 2 rfl) ?_
  have bd2 : a < 2 ^ 31 := by omega
  have bd3 : b < 2 ^ 31 := by omega
  refine lv_icmp_eq (tgt := 23) hx hb dX2_agreeAt_2 (by decide) (fun c1 => ?_) (fun c1 => ?_)
  · have nc1 : a = b := (nI_eq bd2 bd3).mp (show nI (a) = nI (b) from c1)
    refine lv_iconst (v := 1) hx hb dX2_agreeAt_23 (by decide) ?_
    exact zz_zret hC hZ (by decide) (⟨agf, absurd hv (by omega), h_m, h_q, rfl⟩) (Nat.le_of_ble_eq_true rfl) (Nat.le_of_ble_eq_true rfl) dX2_agreeAt_24
  · have nc1 : ¬ a = b := fun zq => c1 (show nI (a) = nI (b) from (nI_eq bd2 bd3).mpr zq)
    refine lv_aload_n hx hb dX2_agreeAt_5 rfl (lv_at hl 0 rfl) ?_
    refine zz_get hC hZ 0 rfl zf_X2_9 rfl dX2_agreeAt_6 ?_
    refine lv_iload_n hx hb dX2_agreeAt_9 rfl (lv_at hl 1 rfl) ?_
    refine lv_bipush (v := 60) hx hb dX2_agreeAt_10 (by decide) ?_
    refine lv_imul hx hb dX2_agreeAt_12 ?_
    refine zz_topi (v := nI (a * 60)) (pk_mul _ 60) ?_
    refine lv_iload_n hx hb dX2_agreeAt_13 rfl (lv_at hl 2 rfl) ?_
    refine lv_iadd hx hb dX2_agreeAt_14 ?_
    refine zz_topi (v := nI ((a * 60) + b)) (nI_add _ _) ?_
    have bd4 : ((a * 60) + b) < 3600 := by omega
    refine zz_ialdn hC hZ 1 rfl bd4 (by decide) dX2_agreeAt_15 ?_
    refine lv_aload_n hx hb dX2_agreeAt_16 rfl (lv_at hl 0 rfl) ?_
    refine zz_get hC hZ 0 rfl zf_X2_25 rfl dX2_agreeAt_17 ?_
    refine lv_icmp_ne (tgt := 25) hx hb dX2_agreeAt_20 (by decide) (fun c5 => ?_) (fun c5 => ?_)
    · refine lv_iload_n hx hb dX2_agreeAt_25 rfl (lv_at hl 3 rfl) ?_
      refine lv_iconst (v := 4) hx hb dX2_agreeAt_26 (by decide) ?_
      refine lv_icmp_gt (tgt := 39) hx hb dX2_agreeAt_27 (by decide) (fun c6 => ?_) (fun c => absurd (by decide) c)
      refine lv_iconst (v := 0) hx hb dX2_agreeAt_39 (by decide) ?_
      exact zz_zret hC hZ (by decide) (⟨agf, absurd hv (by omega), h_m, h_q, rfl⟩) (Nat.le_of_ble_eq_true rfl) (Nat.le_of_ble_eq_true rfl) dX2_agreeAt_40
    · refine lv_iconst (v := 1) hx hb dX2_agreeAt_23 (by decide) ?_
      exact zz_zret hC hZ (by decide) (⟨agf, absurd hv (by omega), h_m, h_q, rfl⟩) (Nat.le_of_ble_eq_true rfl) (Nat.le_of_ble_eq_true rfl) dX2_agreeAt_24
theorem dg_X2_rowsAgree_0 : (decode cX2_rowsAgree 0 = .ok (.aload_n 0, 1)) ∧ (decode cX2_rowsAgree 1 = .ok (.getfield 21, 3)) ∧ (decode cX2_rowsAgree 4 = .ok (.iload_n 1, 1)) ∧ (decode cX2_rowsAgree 5 = .ok (.invokevirtual 55, 3)) ∧ (decode cX2_rowsAgree 8 = .ok (.ifCond .eq 30, 3)) ∧ (decode cX2_rowsAgree 11 = .ok (.aload_n 0, 1)) ∧ (decode cX2_rowsAgree 12 = .ok (.getfield 21, 3)) ∧ (decode cX2_rowsAgree 15 = .ok (.iload_n 2, 1)) ∧ (decode cX2_rowsAgree 16 = .ok (.invokevirtual 55, 3)) ∧ (decode cX2_rowsAgree 19 = .ok (.ifCond .eq 19, 3)) ∧ (decode cX2_rowsAgree 22 = .ok (.aload_n 0, 1)) ∧ (decode cX2_rowsAgree 23 = .ok (.iload_n 1, 1)) ∧ (decode cX2_rowsAgree 24 = .ok (.iload_n 2, 1)) ∧ (decode cX2_rowsAgree 25 = .ok (.iload_n 3, 1)) ∧ (decode cX2_rowsAgree 26 = .ok (.iconst 1, 1)) ∧ (decode cX2_rowsAgree 27 = .ok (.iadd, 1)) := by decide +kernel
theorem dX2_rowsAgree_0 : decode cX2_rowsAgree 0 = .ok (.aload_n 0, 1) := dg_X2_rowsAgree_0.1
theorem dX2_rowsAgree_1 : decode cX2_rowsAgree 1 = .ok (.getfield 21, 3) := dg_X2_rowsAgree_0.2.1
theorem dX2_rowsAgree_4 : decode cX2_rowsAgree 4 = .ok (.iload_n 1, 1) := dg_X2_rowsAgree_0.2.2.1
theorem dX2_rowsAgree_5 : decode cX2_rowsAgree 5 = .ok (.invokevirtual 55, 3) := dg_X2_rowsAgree_0.2.2.2.1
theorem dX2_rowsAgree_8 : decode cX2_rowsAgree 8 = .ok (.ifCond .eq 30, 3) := dg_X2_rowsAgree_0.2.2.2.2.1
theorem dX2_rowsAgree_11 : decode cX2_rowsAgree 11 = .ok (.aload_n 0, 1) := dg_X2_rowsAgree_0.2.2.2.2.2.1
theorem dX2_rowsAgree_12 : decode cX2_rowsAgree 12 = .ok (.getfield 21, 3) := dg_X2_rowsAgree_0.2.2.2.2.2.2.1
theorem dX2_rowsAgree_15 : decode cX2_rowsAgree 15 = .ok (.iload_n 2, 1) := dg_X2_rowsAgree_0.2.2.2.2.2.2.2.1
theorem dX2_rowsAgree_16 : decode cX2_rowsAgree 16 = .ok (.invokevirtual 55, 3) := dg_X2_rowsAgree_0.2.2.2.2.2.2.2.2.1
theorem dX2_rowsAgree_19 : decode cX2_rowsAgree 19 = .ok (.ifCond .eq 19, 3) := dg_X2_rowsAgree_0.2.2.2.2.2.2.2.2.2.1
theorem dX2_rowsAgree_22 : decode cX2_rowsAgree 22 = .ok (.aload_n 0, 1) := dg_X2_rowsAgree_0.2.2.2.2.2.2.2.2.2.2.1
theorem dX2_rowsAgree_23 : decode cX2_rowsAgree 23 = .ok (.iload_n 1, 1) := dg_X2_rowsAgree_0.2.2.2.2.2.2.2.2.2.2.2.1
theorem dX2_rowsAgree_24 : decode cX2_rowsAgree 24 = .ok (.iload_n 2, 1) := dg_X2_rowsAgree_0.2.2.2.2.2.2.2.2.2.2.2.2.1
theorem dX2_rowsAgree_25 : decode cX2_rowsAgree 25 = .ok (.iload_n 3, 1) := dg_X2_rowsAgree_0.2.2.2.2.2.2.2.2.2.2.2.2.2.1
theorem dX2_rowsAgree_26 : decode cX2_rowsAgree 26 = .ok (.iconst 1, 1) := dg_X2_rowsAgree_0.2.2.2.2.2.2.2.2.2.2.2.2.2.2.1
theorem dX2_rowsAgree_27 : decode cX2_rowsAgree 27 = .ok (.iadd, 1) := dg_X2_rowsAgree_0.2.2.2.2.2.2.2.2.2.2.2.2.2.2.2
theorem dg_X2_rowsAgree_28 : (decode cX2_rowsAgree 28 = .ok (.invokevirtual 29, 3)) ∧ (decode cX2_rowsAgree 31 = .ok (.ifCond .eq 7, 3)) ∧ (decode cX2_rowsAgree 34 = .ok (.iconst 1, 1)) ∧ (decode cX2_rowsAgree 35 = .ok (.goto 4, 3)) ∧ (decode cX2_rowsAgree 38 = .ok (.iconst 0, 1)) ∧ (decode cX2_rowsAgree 39 = .ok (.ireturn, 1)) := by decide +kernel
theorem dX2_rowsAgree_28 : decode cX2_rowsAgree 28 = .ok (.invokevirtual 29, 3) := dg_X2_rowsAgree_28.1
theorem dX2_rowsAgree_31 : decode cX2_rowsAgree 31 = .ok (.ifCond .eq 7, 3) := dg_X2_rowsAgree_28.2.1
theorem dX2_rowsAgree_34 : decode cX2_rowsAgree 34 = .ok (.iconst 1, 1) := dg_X2_rowsAgree_28.2.2.1
theorem dX2_rowsAgree_35 : decode cX2_rowsAgree 35 = .ok (.goto 4, 3) := dg_X2_rowsAgree_28.2.2.2.1
theorem dX2_rowsAgree_38 : decode cX2_rowsAgree 38 = .ok (.iconst 0, 1) := dg_X2_rowsAgree_28.2.2.2.2.1
theorem dX2_rowsAgree_39 : decode cX2_rowsAgree 39 = .ok (.ireturn, 1) := dg_X2_rowsAgree_28.2.2.2.2.2
theorem zk_501 : Cond.methodLink RX2 29 yX2_agreeAt ∈ zz_w := zz_in (List.mem_append_right _ (List.mem_append_right _ (List.mem_append_right _ (List.mem_append_left _ (List.mem_of_getElem? (i := 21) (by decide +kernel)))))) rfl
set_option maxRecDepth 20000 in
theorem zk_504 : Cond.code yX2_agreeAt cX2_agreeAt 10 (some .boolean) ∈ zz_w := zz_in (List.mem_append_right _ (List.mem_append_right _ (List.mem_append_right _ (List.mem_append_left _ (List.mem_of_getElem? (i := 24) (rfl)))))) rfl
theorem zk_503 : Cond.instanceMethod yX2_agreeAt ∈ zz_w := zz_in (List.mem_append_right _ (List.mem_append_right _ (List.mem_append_right _ (List.mem_append_left _ (List.mem_of_getElem? (i := 23) (by decide +kernel)))))) rfl
theorem zs_9 : Cond.selects RX2 yX2_agreeAt yX2_agreeAt ∈ zz_w := zz_in (List.mem_append_left _ (List.mem_of_getElem? (i := 9) (by decide +kernel))) rfl
theorem zc_X2_29 : zz_cV RX2 29 yX2_agreeAt cX2_agreeAt 10 (some .boolean) 3 := ⟨⟨zk_501, zk_504, zk_4, by decide, by decide, by decide +kernel⟩, zk_503, zs_9⟩
abbrev rm_co_rws4 : Room := { frames := 1, cells := 0, slots := 0, locals := 29 }
abbrev po_co_rws4 (g : zz_G) (lk : Nat) (l_ag : Nat) (l_dg : Nat) (l_ds : Nat) (st : Nat) (kd : Nat) (dp : Nat) (cl : Nat) (sa : Nat) (ln : Nat) (bt : Nat) (pn : Nat) (bf : Nat) (na : Nat) (nu : Nat) (n : Nat) (kdf : Nat → Int32) (dpf : Nat → Int32) (saf : Nat → Int32) (lnf : Nat → Int32) (btf : Nat → Int64) (agf : Nat → Int32) (k : Int32) (j : Int32) (h_M : zz_MI na nu dpf saf lnf btf) (h_v : ∀ x dr : Nat, x < na → k = nI x → dpf x = nI dr → dr ≤ 4 → dr + 5 ≤ 5) (h_m : zz_AM na (sp_sS na kdf dpf saf lnf btf) n agf) (h_q : zz_RB n agf) : Int32 → va_W → Prop := fun (r : Int32) (u : va_W) => ∃ (ag2 : Nat → Int32), (r = sp_b (sp_sr na kdf dpf saf lnf btf k j)) ∧ (zz_AM na (sp_sS na kdf dpf saf lnf btf) n ag2) ∧ (zz_RB n ag2) ∧ u = [cw_k1 lk st (nI n) l_ag l_dg l_ds, cw_i g l_ag 3600 ag2, cw_k5 st (nI na) (nI nu) kd dp cl sa ln bt pn bf, cw_i g kd 60 kdf, cw_i g dp 60 dpf, cw_i g sa 60 saf, cw_i g ln 60 lnf, cw_l g bt 4000 btf]
set_option maxHeartbeats 4000000 in
set_option maxRecDepth 100000 in
theorem co_rws4 (g : zz_G) (lk : Nat) (l_ag : Nat) (l_dg : Nat) (l_ds : Nat) (st : Nat) (kd : Nat) (dp : Nat) (cl : Nat) (sa : Nat) (ln : Nat) (bt : Nat) (pn : Nat) (bf : Nat) (na : Nat) (nu : Nat) (n : Nat) (kdf : Nat → Int32) (dpf : Nat → Int32) (saf : Nat → Int32) (lnf : Nat → Int32) (btf : Nat → Int64) (agf : Nat → Int32) (k : Int32) (j : Int32) (h_M : zz_MI na nu dpf saf lnf btf) (h_v : ∀ x dr : Nat, x < na → k = nI x → dpf x = nI dr → dr ≤ 4 → dr + 5 ≤ 5) (h_m : zz_AM na (sp_sS na kdf dpf saf lnf btf) n agf) (h_q : zz_RB n agf) : zz_I g yX2_rowsAgree (.code yX2_rowsAgree cX2_rowsAgree 4 (some .boolean)) rm_co_rws4 [.ref lk, .int k, .int j, .int 4] [cw_k1 lk st (nI n) l_ag l_dg l_ds, cw_i g l_ag 3600 agf, cw_k5 st (nI na) (nI nu) kd dp cl sa ln bt pn bf, cw_i g kd 60 kdf, cw_i g dp 60 dpf, cw_i g sa 60 saf, cw_i g ln 60 lnf, cw_l g bt 4000 btf] (po_co_rws4 g lk l_ag l_dg l_ds st kd dp cl sa ln bt pn bf na nu n kdf dpf saf lnf btf agf k j h_M h_v h_m h_q) := by
  refine zz_I.intro (own := RX2) (cc := cX2_rowsAgree) (nL := 4) (by decide) rfl (Nat.le_of_ble_eq_true rfl) ?_
  intro p l e s m args below meth c A H locs ls hC hnm hs hZ hl
  obtain ⟨hx, hb, hml, hown, hts, hr, hlocks, hK⟩ := id hC
  have hl : lv_has ls 4 [(0, .ref lk), (1, .int k), (2, .int j), (3, .int 4)] := hl
  have hZ : zz_Z g A s.heap [cw_k1 lk st (nI n) l_ag l_dg l_ds, cw_i g l_ag 3600 agf, cw_k5 st (nI na) (nI nu) kd dp cl sa ln bt pn bf, cw_i g kd 60 kdf, cw_i g dp 60 dpf, cw_i g sa 60 saf, cw_i g ln 60 lnf, cw_l g bt 4000 btf] H locs := hZ
  have h_S := h_M.1
  have hna := h_S.1
  have hnu := h_S.2.1
  refine lv_aload_n hx hb dX2_rowsAgree_0 rfl (lv_at hl 0 rfl) ?_
  refine zz_get hC hZ 0 rfl zf_X2_21 rfl dX2_rowsAgree_1 ?_
  refine lv_iload_n hx hb dX2_rowsAgree_4 rfl (lv_at hl 1 rfl) ?_
  refine zz_iV (As := [.int k]) (wc := [cw_k5 st (nI na) (nI nu) kd dp cl sa ln bt pn bf]) (wr := [cw_k1 lk st (nI n) l_ag l_dg l_ds, cw_i g l_ag 3600 agf, cw_i g kd 60 kdf, cw_i g dp 60 dpf, cw_i g sa 60 saf, cw_i g ln 60 lnf, cw_l g bt 4000 btf]) (rest := []) hC hZ hs hl zc_X2_55 (co_has g st kd dp cl sa ln bt pn bf (nI na) (nI nu) k) [2] [0, 1, 3, 4, 5, 6, 7] rfl rfl (by decide +kernel) (ci := 5) (q0 := 0) rfl rfl rfl rfl (Nat.le_of_ble_eq_true rfl) ⟨⟨Nat.le_of_ble_eq_true rfl, Nat.le_of_ble_eq_true rfl⟩, Nat.le_of_ble_eq_true rfl, Nat.le_of_ble_eq_true rfl⟩ dX2_rowsAgree_5 (fun r1 u2 H locs hp hZ => ?_)
  obtain ⟨rfl, rfl⟩ := hp
  have hZ : zz_Z g A s.heap [cw_k1 lk st (nI n) l_ag l_dg l_ds, cw_i g l_ag 3600 agf, cw_i g kd 60 kdf, cw_i g dp 60 dpf, cw_i g sa 60 saf, cw_i g ln 60 lnf, cw_l g bt 4000 btf, cw_k5 st (nI na) (nI nu) kd dp cl sa ln bt pn bf] H locs := hZ
  refine lv_if_eq (tgt := 38) hx hb dX2_rowsAgree_8 (by decide) (fun c3 => ?_) (fun c3 => ?_)
  · refine lv_iconst (v := 0) hx hb dX2_rowsAgree_38 (by decide) ?_
    have hZ : zz_Z g A s.heap [cw_k1 lk st (nI n) l_ag l_dg l_ds, cw_i g l_ag 3600 agf, cw_k5 st (nI na) (nI nu) kd dp cl sa ln bt pn bf, cw_i g kd 60 kdf, cw_i g dp 60 dpf, cw_i g sa 60 saf, cw_i g ln 60 lnf, cw_l g bt 4000 btf] H locs := hZ.sub [0, 1, 7, 2, 3, 4, 5, 6] (by decide +kernel) rfl
    exact zz_zret hC hZ (by decide) (⟨agf, (zl_bF (zl_srK (by omega) c3)).symm, h_m, h_q, rfl⟩) (Nat.le_of_ble_eq_true rfl) (Nat.le_of_ble_eq_true rfl) dX2_rowsAgree_39
  · obtain ⟨a2, ha2, ea2⟩ := zl_has (by omega) c3
    have hl : lv_has ls 4 [(0, .ref lk), (1, .int (nI a2)), (2, .int j), (3, .int 4)] := by rw [← ea2]; exact hl
    have hkv : ∀ dr : Nat, dpf a2 = nI dr → dr ≤ 4 → dr + 5 ≤ 5 := fun dr e1 e2 => h_v a2 dr ha2 ea2 e1 e2
    refine lv_aload_n hx hb dX2_rowsAgree_11 rfl (lv_at hl 0 rfl) ?_
    refine zz_get hC hZ 0 rfl zf_X2_21 rfl dX2_rowsAgree_12 ?_
    refine lv_iload_n hx hb dX2_rowsAgree_15 rfl (lv_at hl 2 rfl) ?_
    refine zz_iV (As := [.int j]) (wc := [cw_k5 st (nI na) (nI nu) kd dp cl sa ln bt pn bf]) (wr := [cw_k1 lk st (nI n) l_ag l_dg l_ds, cw_i g l_ag 3600 agf, cw_i g kd 60 kdf, cw_i g dp 60 dpf, cw_i g sa 60 saf, cw_i g ln 60 lnf, cw_l g bt 4000 btf]) (rest := []) hC hZ hs hl zc_X2_55 (co_has g st kd dp cl sa ln bt pn bf (nI na) (nI nu) j) [7] [0, 1, 2, 3, 4, 5, 6] rfl rfl (by decide +kernel) (ci := 5) (q0 := 0) rfl rfl rfl rfl (Nat.le_of_ble_eq_true rfl) ⟨⟨Nat.le_of_ble_eq_true rfl, Nat.le_of_ble_eq_true rfl⟩, Nat.le_of_ble_eq_true rfl, Nat.le_of_ble_eq_true rfl⟩ dX2_rowsAgree_16 (fun r4 u5 H locs hp hZ => ?_)
    obtain ⟨rfl, rfl⟩ := hp
    have hZ : zz_Z g A s.heap [cw_k1 lk st (nI n) l_ag l_dg l_ds, cw_i g l_ag 3600 agf, cw_i g kd 60 kdf, cw_i g dp 60 dpf, cw_i g sa 60 saf, cw_i g ln 60 lnf, cw_l g bt 4000 btf, cw_k5 st (nI na) (nI nu) kd dp cl sa ln bt pn bf] H locs := hZ
    refine lv_if_eq (tgt := 38) hx hb dX2_rowsAgree_19 (by decide) (fun c6 => ?_) (fun c6 => ?_)
    · refine lv_iconst (v := 0) hx hb dX2_rowsAgree_38 (by decide) ?_
      have hZ : zz_Z g A s.heap [cw_k1 lk st (nI n) l_ag l_dg l_ds, cw_i g l_ag 3600 agf, cw_k5 st (nI na) (nI nu) kd dp cl sa ln bt pn bf, cw_i g kd 60 kdf, cw_i g dp 60 dpf, cw_i g sa 60 saf, cw_i g ln 60 lnf, cw_l g bt 4000 btf] H locs := hZ.sub [0, 1, 7, 2, 3, 4, 5, 6] (by decide +kernel) rfl
      exact zz_zret hC hZ (by decide) (⟨agf, (zl_bF (zl_srJ (by omega) c6)).symm, h_m, h_q, rfl⟩) (Nat.le_of_ble_eq_true rfl) (Nat.le_of_ble_eq_true rfl) dX2_rowsAgree_39
    · obtain ⟨b2, hb2, eb2⟩ := zl_has (by omega) c6
      have hl : lv_has ls 4 [(0, .ref lk), (1, .int (nI a2)), (2, .int (nI b2)), (3, .int 4)] := by rw [← eb2]; exact hl
      refine lv_aload_n hx hb dX2_rowsAgree_22 rfl (lv_at hl 0 rfl) ?_
      refine lv_iload_n hx hb dX2_rowsAgree_23 rfl (lv_at hl 1 rfl) ?_
      refine lv_iload_n hx hb dX2_rowsAgree_24 rfl (lv_at hl 2 rfl) ?_
      refine lv_iload_n hx hb dX2_rowsAgree_25 rfl (lv_at hl 3 rfl) ?_
      refine lv_iconst (v := 1) hx hb dX2_rowsAgree_26 (by decide) ?_
      refine lv_iadd hx hb dX2_rowsAgree_27 ?_
      refine zz_topi (v := 5) (by decide) ?_
      refine zz_iV (As := [.int (nI a2), .int (nI b2), .int 5]) (wc := [cw_k1 lk st (nI n) l_ag l_dg l_ds, cw_i g l_ag 3600 agf, cw_k5 st (nI na) (nI nu) kd dp cl sa ln bt pn bf, cw_i g kd 60 kdf, cw_i g dp 60 dpf, cw_i g sa 60 saf, cw_i g ln 60 lnf, cw_l g bt 4000 btf]) (wr := []) (rest := []) hC hZ hs hl zc_X2_29 (co_agr5 g lk l_ag l_dg l_ds st kd dp cl sa ln bt pn bf na nu n kdf dpf saf lnf btf agf a2 b2 (h_M) (by omega) (hkv) (h_m) (h_q)) [0, 1, 7, 2, 3, 4, 5, 6] [] rfl rfl (by decide +kernel) (ci := 1) (q0 := 0) rfl rfl rfl rfl (Nat.le_of_ble_eq_true rfl) ⟨⟨Nat.le_of_ble_eq_true rfl, Nat.le_of_ble_eq_true rfl⟩, Nat.le_of_ble_eq_true rfl, Nat.le_of_ble_eq_true rfl⟩ dX2_rowsAgree_28 (fun r7 u8 H locs hp hZ => ?_)
      obtain ⟨ag2_9, f10, f11, f12, rfl⟩ := hp
      have hZ : zz_Z g A s.heap [cw_k1 lk st (nI n) l_ag l_dg l_ds, cw_i g l_ag 3600 ag2_9, cw_k5 st (nI na) (nI nu) kd dp cl sa ln bt pn bf, cw_i g kd 60 kdf, cw_i g dp 60 dpf, cw_i g sa 60 saf, cw_i g ln 60 lnf, cw_l g bt 4000 btf] H locs := hZ
      refine lv_if_eq (tgt := 38) hx hb dX2_rowsAgree_31 (by decide) (fun c13 => ?_) (fun c13 => ?_)
      · refine lv_iconst (v := 0) hx hb dX2_rowsAgree_38 (by decide) ?_
        exact zz_zret hC hZ (by decide) (⟨ag2_9, (zl_bF (fun z => zl_bN f10 c13 ((zl_srI ea2 eb2 (by omega) ha2 hb2).mp z))).symm, f11, f12, rfl⟩) (Nat.le_of_ble_eq_true rfl) (Nat.le_of_ble_eq_true rfl) dX2_rowsAgree_39
      · refine lv_iconst (v := 1) hx hb dX2_rowsAgree_34 (by decide) ?_
        refine lv_goto (tgt := 39) hx hb dX2_rowsAgree_35 (by decide) ?_
        exact zz_zret hC hZ (by decide) (⟨ag2_9, (zl_bT ((zl_srI ea2 eb2 (by omega) ha2 hb2).mpr (zl_bP f10 c13))).symm, f11, f12, rfl⟩) (Nat.le_of_ble_eq_true rfl) (Nat.le_of_ble_eq_true rfl) dX2_rowsAgree_39
theorem zk_505 : Cond.methodLink RX2 33 yX2_sameShape ∈ zz_w := zz_in (List.mem_append_right _ (List.mem_append_right _ (List.mem_append_right _ (List.mem_append_left _ (List.mem_of_getElem? (i := 25) (by decide +kernel)))))) rfl
set_option maxRecDepth 20000 in
theorem zk_508 : Cond.code yX2_sameShape cX2_sameShape 3 (some .boolean) ∈ zz_w := zz_in (List.mem_append_right _ (List.mem_append_right _ (List.mem_append_right _ (List.mem_append_left _ (List.mem_of_getElem? (i := 28) (rfl)))))) rfl
theorem zk_507 : Cond.instanceMethod yX2_sameShape ∈ zz_w := zz_in (List.mem_append_right _ (List.mem_append_right _ (List.mem_append_right _ (List.mem_append_left _ (List.mem_of_getElem? (i := 27) (by decide +kernel)))))) rfl
theorem zs_10 : Cond.selects RX2 yX2_sameShape yX2_sameShape ∈ zz_w := zz_in (List.mem_append_left _ (List.mem_of_getElem? (i := 10) (by decide +kernel))) rfl
theorem zc_X2_33 : zz_cV RX2 33 yX2_sameShape cX2_sameShape 3 (some .boolean) 2 := ⟨⟨zk_505, zk_508, zk_4, by decide, by decide, by decide +kernel⟩, zk_507, zs_10⟩
theorem zk_509 : Cond.methodLink RX2 52 yX2_rowsAgree ∈ zz_w := zz_in (List.mem_append_right _ (List.mem_append_right _ (List.mem_append_right _ (List.mem_append_left _ (List.mem_of_getElem? (i := 29) (by decide +kernel)))))) rfl
set_option maxRecDepth 20000 in
theorem zk_512 : Cond.code yX2_rowsAgree cX2_rowsAgree 4 (some .boolean) ∈ zz_w := zz_in (List.mem_append_right _ (List.mem_append_right _ (List.mem_append_right _ (List.mem_append_left _ (List.mem_of_getElem? (i := 32) (rfl)))))) rfl
theorem zk_511 : Cond.instanceMethod yX2_rowsAgree ∈ zz_w := zz_in (List.mem_append_right _ (List.mem_append_right _ (List.mem_append_right _ (List.mem_append_left _ (List.mem_of_getElem? (i := 31) (by decide +kernel)))))) rfl
theorem zs_11 : Cond.selects RX2 yX2_rowsAgree yX2_rowsAgree ∈ zz_w := zz_in (List.mem_append_left _ (List.mem_of_getElem? (i := 11) (by decide +kernel))) rfl
theorem zc_X2_52 : zz_cV RX2 52 yX2_rowsAgree cX2_rowsAgree 4 (some .boolean) 3 := ⟨⟨zk_509, zk_512, zk_4, by decide, by decide, by decide +kernel⟩, zk_511, zs_11⟩
abbrev rm_co_agr4 : Room := { frames := 2, cells := 0, slots := 0, locals := 52 }
abbrev po_co_agr4 (g : zz_G) (lk : Nat) (l_ag : Nat) (l_dg : Nat) (l_ds : Nat) (st : Nat) (kd : Nat) (dp : Nat) (cl : Nat) (sa : Nat) (ln : Nat) (bt : Nat) (pn : Nat) (bf : Nat) (na : Nat) (nu : Nat) (n : Nat) (kdf : Nat → Int32) (dpf : Nat → Int32) (saf : Nat → Int32) (lnf : Nat → Int32) (btf : Nat → Int64) (agf : Nat → Int32) (a : Nat) (b : Nat) (h_M : zz_MI na nu dpf saf lnf btf) (h_a : a < na ∧ b < na) (h_v : ∀ dr : Nat, dpf a = nI dr → dr ≤ 4 → dr + 4 ≤ 5) (h_m : zz_AM na (sp_sS na kdf dpf saf lnf btf) n agf) (h_q : zz_RB n agf) : Int32 → va_W → Prop := fun (r : Int32) (u : va_W) => ∃ (ag2 : Nat → Int32), (r = sp_b (sp_sS na kdf dpf saf lnf btf a b)) ∧ (zz_AM na (sp_sS na kdf dpf saf lnf btf) n ag2) ∧ (zz_RB n ag2) ∧ u = [cw_k1 lk st (nI n) l_ag l_dg l_ds, cw_i g l_ag 3600 ag2, cw_k5 st (nI na) (nI nu) kd dp cl sa ln bt pn bf, cw_i g kd 60 kdf, cw_i g dp 60 dpf, cw_i g sa 60 saf, cw_i g ln 60 lnf, cw_l g bt 4000 btf]
set_option maxHeartbeats 4000000 in
set_option maxRecDepth 100000 in
theorem co_agr4 (g : zz_G) (lk : Nat) (l_ag : Nat) (l_dg : Nat) (l_ds : Nat) (st : Nat) (kd : Nat) (dp : Nat) (cl : Nat) (sa : Nat) (ln : Nat) (bt : Nat) (pn : Nat) (bf : Nat) (na : Nat) (nu : Nat) (n : Nat) (kdf : Nat → Int32) (dpf : Nat → Int32) (saf : Nat → Int32) (lnf : Nat → Int32) (btf : Nat → Int64) (agf : Nat → Int32) (a : Nat) (b : Nat) (h_M : zz_MI na nu dpf saf lnf btf) (h_a : a < na ∧ b < na) (h_v : ∀ dr : Nat, dpf a = nI dr → dr ≤ 4 → dr + 4 ≤ 5) (h_m : zz_AM na (sp_sS na kdf dpf saf lnf btf) n agf) (h_q : zz_RB n agf) : zz_I g yX2_agreeAt (.code yX2_agreeAt cX2_agreeAt 10 (some .boolean)) rm_co_agr4 [.ref lk, .int (nI a), .int (nI b), .int 4] [cw_k1 lk st (nI n) l_ag l_dg l_ds, cw_i g l_ag 3600 agf, cw_k5 st (nI na) (nI nu) kd dp cl sa ln bt pn bf, cw_i g kd 60 kdf, cw_i g dp 60 dpf, cw_i g sa 60 saf, cw_i g ln 60 lnf, cw_l g bt 4000 btf] (po_co_agr4 g lk l_ag l_dg l_ds st kd dp cl sa ln bt pn bf na nu n kdf dpf saf lnf btf agf a b h_M h_a h_v h_m h_q) := by
  refine zz_I.intro (own := RX2) (cc := cX2_agreeAt) (nL := 10) (by decide) rfl (Nat.le_of_ble_eq_true rfl) ?_
  intro p l e s m args below meth c A H locs ls hC hnm hs hZ hl
  obtain ⟨hx, hb, hml, hown, hts, hr, hlocks, hK⟩ := id hC
  have hl : lv_has ls 10 [(0, .ref lk), (1, .int (nI a)), (2, .int (nI b)), (3, .int 4)] := hl
  have hZ : zz_Z g A s.heap [cw_k1 lk st (nI n) l_ag l_dg l_ds, cw_i g l_ag 3600 agf, cw_k5 st (nI na) (nI nu) kd dp cl sa ln bt pn bf, cw_i g kd 60 kdf, cw_i g dp 60 dpf, cw_i g sa 60 saf, cw_i g ln 60 lnf, cw_l g bt 4000 btf] H locs := hZ
  have h_S := h_M.1
  have hna := h_S.1
  have hnu := h_S.2.1
  obtain ⟨sz, lz, dz, es, el, ed, g1, g2, g3, g4⟩ := h_S.2.2 a h_a.1
  obtain ⟨szb, lzb, dzb, esb, elb, edb, g1b, g2b, g3b, g4b⟩ := h_S.2.2 b h_a.2
  have hv := h_v dz ed (by omega)
  have hU := zl_ssU (kd := kdf) (b := b) h_M h_a.1 es el ed (by omega) (by omega) (by omega) (by omega)
  refine lv_iload_n hx hb dX2_agreeAt_0 rfl (lv_at hl 1 rfl) ?_
  refine lv_iload_n hx hb dX2_agreeAt_1 rfl (lv_at hl 2 rfl) ?_
  have bd2 : a < 2 ^ 31 := by omega
  have bd3 : b < 2 ^ 31 := by omega
  refine lv_icmp_eq (tgt := 23) hx hb dX2_agreeAt_2 (by decide) (fun c1 => ?_) (fun c1 => ?_)
  · have nc1 : a = b := (nI_eq bd2 bd3).mp (show nI (a) = nI (b) from c1)
    refine lv_iconst (v := 1) hx hb dX2_agreeAt_23 (by decide) ?_
    exact zz_zret hC hZ (by decide) (⟨agf, (zl_bT (zl_ssI hU nc1)).symm, h_m, h_q, rfl⟩) (Nat.le_of_ble_eq_true rfl) (Nat.le_of_ble_eq_true rfl) dX2_agreeAt_24
  · have nc1 : ¬ a = b := fun zq => c1 (show nI (a) = nI (b) from (nI_eq bd2 bd3).mpr zq)
    refine lv_aload_n hx hb dX2_agreeAt_5 rfl (lv_at hl 0 rfl) ?_
    refine zz_get hC hZ 0 rfl zf_X2_9 rfl dX2_agreeAt_6 ?_
    refine lv_iload_n hx hb dX2_agreeAt_9 rfl (lv_at hl 1 rfl) ?_
    refine lv_bipush (v := 60) hx hb dX2_agreeAt_10 (by decide) ?_
    refine lv_imul hx hb dX2_agreeAt_12 ?_
    refine zz_topi (v := nI (a * 60)) (pk_mul _ 60) ?_
    refine lv_iload_n hx hb dX2_agreeAt_13 rfl (lv_at hl 2 rfl) ?_
    refine lv_iadd hx hb dX2_agreeAt_14 ?_
    refine zz_topi (v := nI ((a * 60) + b)) (nI_add _ _) ?_
    have bd4 : ((a * 60) + b) < 3600 := by omega
    refine zz_ialdn hC hZ 1 rfl bd4 (by decide) dX2_agreeAt_15 ?_
    refine lv_aload_n hx hb dX2_agreeAt_16 rfl (lv_at hl 0 rfl) ?_
    refine zz_get hC hZ 0 rfl zf_X2_25 rfl dX2_agreeAt_17 ?_
    refine lv_icmp_ne (tgt := 25) hx hb dX2_agreeAt_20 (by decide) (fun c5 => ?_) (fun c5 => ?_)
    · refine lv_iload_n hx hb dX2_agreeAt_25 rfl (lv_at hl 3 rfl) ?_
      refine lv_iconst (v := 4) hx hb dX2_agreeAt_26 (by decide) ?_
      refine lv_icmp_gt (tgt := 39) hx hb dX2_agreeAt_27 (by decide) (fun c => absurd c (by decide)) (fun c6 => ?_)
      refine lv_aload_n hx hb dX2_agreeAt_30 rfl (lv_at hl 0 rfl) ?_
      refine lv_iload_n hx hb dX2_agreeAt_31 rfl (lv_at hl 1 rfl) ?_
      refine lv_iload_n hx hb dX2_agreeAt_32 rfl (lv_at hl 2 rfl) ?_
      refine zz_iV (As := [.int (nI a), .int (nI b)]) (wc := [cw_k1 lk st (nI n) l_ag l_dg l_ds, cw_k5 st (nI na) (nI nu) kd dp cl sa ln bt pn bf, cw_i g kd 60 kdf, cw_i g dp 60 dpf, cw_i g ln 60 lnf]) (wr := [cw_i g l_ag 3600 agf, cw_i g sa 60 saf, cw_l g bt 4000 btf]) (rest := []) hC hZ hs hl zc_X2_33 (co_sameShape g lk l_ag l_dg l_ds st kd dp cl sa ln bt pn bf na nu (nI n) kdf dpf lnf a b (by omega)) [0, 2, 3, 4, 6] [1, 5, 7] rfl rfl (by decide +kernel) (ci := 1) (q0 := 0) rfl rfl rfl rfl (Nat.le_of_ble_eq_true rfl) ⟨⟨Nat.le_of_ble_eq_true rfl, Nat.le_of_ble_eq_true rfl⟩, Nat.le_of_ble_eq_true rfl, Nat.le_of_ble_eq_true rfl⟩ dX2_agreeAt_33 (fun r7 u8 H locs hp hZ => ?_)
      obtain ⟨rfl, rfl⟩ := hp
      have hZ : zz_Z g A s.heap [cw_i g l_ag 3600 agf, cw_i g sa 60 saf, cw_l g bt 4000 btf, cw_k1 lk st (nI n) l_ag l_dg l_ds, cw_k5 st (nI na) (nI nu) kd dp cl sa ln bt pn bf, cw_i g kd 60 kdf, cw_i g dp 60 dpf, cw_i g ln 60 lnf] H locs := hZ
      refine lv_if_ne (tgt := 41) hx hb dX2_agreeAt_36 (by decide) (fun c9 => ?_) (fun c9 => ?_)
      · have hsh := zl_shp c9
        have hlz : lz = lzb := (nI_eq (by omega) (by omega)).mp (el.symm.trans (hsh.2.2.trans elb))
        refine lv_aload_n hx hb dX2_agreeAt_41 rfl (lv_at hl 0 rfl) ?_
        refine zz_get hC hZ 3 rfl zf_X2_21 rfl dX2_agreeAt_42 ?_
        refine zz_get hC hZ 4 rfl zf_X2_37 rfl dX2_agreeAt_45 ?_
        refine lv_iload_n hx hb dX2_agreeAt_48 rfl (lv_at hl 1 rfl) ?_
        have bd10 : a < 60 := by omega
        refine zz_ialdn hC hZ 6 rfl bd10 (by decide) dX2_agreeAt_49 ?_
        refine zz_topi (v := nI dz) (ed) ?_
        refine lv_iconst (v := 1) hx hb dX2_agreeAt_50 (by decide) ?_
        have bd12 : dz < 2 ^ 31 := by omega
        refine lv_icmp_ne (tgt := 58) hx hb dX2_agreeAt_51 (by decide) (fun c11 => ?_) (fun c11 => ?_)
        · have nc11 : ¬ dz = 1 := fun zq => c11 (show nI (dz) = nI (1) from (nI_eq bd12 (by decide)).mpr zq)
          refine lv_iconst (v := 0) hx hb dX2_agreeAt_58 (by decide) ?_
          refine lv_istore (lv' := [(4, .int 0), (0, .ref lk), (1, .int (nI a)), (2, .int (nI b)), (3, .int 4)]) hx hb dX2_agreeAt_59 hl (by decide) rfl (fun ls hl => ?_)
          refine lv_iconst (v := 0) hx hb dX2_agreeAt_61 (by decide) ?_
          refine lv_istore (lv' := [(5, .int 0), (4, .int 0), (0, .ref lk), (1, .int (nI a)), (2, .int (nI b)), (3, .int 4)]) hx hb dX2_agreeAt_62 hl (by decide) rfl (fun ls hl => ?_)
          have LP13 : ∀ (N : Nat) (i : Nat) (ag1 : Nat → Int32) (H : Heap) (locs : List Loc) (ls : Array Slot), (i ≤ lz) → (∀ j, j < i → sp_se na kdf dpf saf lnf btf a b j) → (zz_AM na (sp_sS na kdf dpf saf lnf btf) n ag1) → (zz_RB n ag1) → (lz - i) < N → zz_Z g A s.heap [cw_i g l_ag 3600 ag1, cw_i g sa 60 saf, cw_l g bt 4000 btf, cw_k1 lk st (nI n) l_ag l_dg l_ds, cw_k5 st (nI na) (nI nu) kd dp cl sa ln bt pn bf, cw_i g kd 60 kdf, cw_i g dp 60 dpf, cw_i g ln 60 lnf] H locs → lv_has ls 10 [(5, .int (nI i)), (4, .int 0), (0, .ref lk), (1, .int (nI a)), (2, .int (nI b)), (3, .int 4)] → W p l e rm_co_agr4 s m args below meth c H locs 0 0 (zz_QI below g args s A rm_co_agr4.cells rm_co_agr4.slots (po_co_agr4 g lk l_ag l_dg l_ds st kd dp cl sa ln bt pn bf na nu n kdf dpf saf lnf btf agf a b h_M h_a h_v h_m h_q)) (F0 m 64 ls []) := by
            intro N
            induction N with
            | zero =>
              intro i ag1 H locs ls hi he1 hm1 hr1 hN
              exact absurd hN (Nat.not_lt_zero _)
            | succ N ih =>
              intro i ag1 H locs ls hi he1 hm1 hr1 hN hZ hl
              refine lv_iload hx hb dX2_agreeAt_64 (lv_at hl 0 rfl) ?_
              refine lv_aload_n hx hb dX2_agreeAt_66 rfl (lv_at hl 2 rfl) ?_
              refine zz_get hC hZ 3 rfl zf_X2_21 rfl dX2_agreeAt_67 ?_
              refine zz_get hC hZ 4 rfl zf_X2_42 rfl dX2_agreeAt_70 ?_
              refine lv_iload_n hx hb dX2_agreeAt_73 rfl (lv_at hl 3 rfl) ?_
              refine zz_ialdn hC hZ 7 rfl bd10 (by decide) dX2_agreeAt_74 ?_
              refine zz_topi (v := nI lz) (el) ?_
              have bd15 : lz < 2 ^ 31 := by omega
              have bd16 : i < 2 ^ 31 := by omega
              refine lv_icmp_ge (tgt := 157) hx hb dX2_agreeAt_75 (by decide) (fun c14 => ?_) (fun c14 => ?_)
              · have nc14 : lz ≤ i := (nI_leI bd15 bd16).mp (show nI (lz) ≤ nI (i) from c14)
                refine lv_aload_n hx hb dX2_agreeAt_157 rfl (lv_at hl 2 rfl) ?_
                refine zz_get hC hZ 3 rfl zf_X2_9 rfl dX2_agreeAt_158 ?_
                refine lv_iload_n hx hb dX2_agreeAt_161 rfl (lv_at hl 3 rfl) ?_
                refine lv_bipush (v := 60) hx hb dX2_agreeAt_162 (by decide) ?_
                refine lv_imul hx hb dX2_agreeAt_164 ?_
                refine zz_topi (v := nI (a * 60)) (pk_mul _ 60) ?_
                refine lv_iload_n hx hb dX2_agreeAt_165 rfl (lv_at hl 4 rfl) ?_
                refine lv_iadd hx hb dX2_agreeAt_166 ?_
                refine zz_topi (v := nI ((a * 60) + b)) (nI_add _ _) ?_
                refine lv_aload_n hx hb dX2_agreeAt_167 rfl (lv_at hl 2 rfl) ?_
                refine zz_get hC hZ 3 rfl zf_X2_25 rfl dX2_agreeAt_168 ?_
                refine zz_iastn hC hZ 0 rfl bd4 (by decide) dX2_agreeAt_171 (fun H locs hZ => ?_)
                have hZ : zz_Z g A s.heap [cw_i g l_ag 3600 (upd ag1 ((a * 60) + b) (nI n)), cw_i g sa 60 saf, cw_l g bt 4000 btf, cw_k1 lk st (nI n) l_ag l_dg l_ds, cw_k5 st (nI na) (nI nu) kd dp cl sa ln bt pn bf, cw_i g kd 60 kdf, cw_i g dp 60 dpf, cw_i g ln 60 lnf] H locs := hZ
                refine lv_iconst (v := 1) hx hb dX2_agreeAt_172 (by decide) ?_
                have hZ : zz_Z g A s.heap [cw_k1 lk st (nI n) l_ag l_dg l_ds, cw_i g l_ag 3600 (upd ag1 ((a * 60) + b) (nI n)), cw_k5 st (nI na) (nI nu) kd dp cl sa ln bt pn bf, cw_i g kd 60 kdf, cw_i g dp 60 dpf, cw_i g sa 60 saf, cw_i g ln 60 lnf, cw_l g bt 4000 btf] H locs := hZ.sub [3, 0, 4, 5, 6, 1, 7, 2] (by decide +kernel) rfl
                exact zz_zret hC hZ (by decide) (⟨(upd ag1 ((a * 60) + b) (nI n)), (zl_bT (hU.mpr ⟨hsh.1, hsh.2.1, hsh.2.2, fun j hj => he1 j (by omega)⟩)).symm, hm1.set (by omega) h_a.2 (hU.mpr ⟨hsh.1, hsh.2.1, hsh.2.2, fun j hj => he1 j (by omega)⟩), hr1.set, rfl⟩) (Nat.le_of_ble_eq_true rfl) (Nat.le_of_ble_eq_true rfl) dX2_agreeAt_173
              · have nc14 : ¬ lz ≤ i := fun zq => c14 (show nI (lz) ≤ nI (i) from (nI_leI bd15 bd16).mpr zq)
                refine lv_aload_n hx hb dX2_agreeAt_78 rfl (lv_at hl 2 rfl) ?_
                refine zz_get hC hZ 3 rfl zf_X2_21 rfl dX2_agreeAt_79 ?_
                refine zz_get hC hZ 4 rfl zf_X2_45 rfl dX2_agreeAt_82 ?_
                refine lv_aload_n hx hb dX2_agreeAt_85 rfl (lv_at hl 2 rfl) ?_
                refine zz_get hC hZ 3 rfl zf_X2_21 rfl dX2_agreeAt_86 ?_
                refine zz_get hC hZ 4 rfl zf_X2_49 rfl dX2_agreeAt_89 ?_
                refine lv_iload_n hx hb dX2_agreeAt_92 rfl (lv_at hl 3 rfl) ?_
                refine zz_ialdn hC hZ 1 rfl bd10 (by decide) dX2_agreeAt_93 ?_
                refine zz_topi (v := nI sz) (es) ?_
                refine lv_iload hx hb dX2_agreeAt_94 (lv_at hl 0 rfl) ?_
                refine lv_iadd hx hb dX2_agreeAt_96 ?_
                refine zz_topi (v := nI (sz + i)) (nI_add _ _) ?_
                have bd17 : (sz + i) < 4000 := by omega
                refine zz_laldn hC hZ 2 rfl bd17 (by decide) dX2_agreeAt_97 ?_
                refine lv_lstore (lv' := [(6, .long (btf (sz + i))), (5, .int (nI i)), (4, .int 0), (0, .ref lk), (1, .int (nI a)), (2, .int (nI b)), (3, .int 4)]) hx hb dX2_agreeAt_98 hl (by decide) rfl (fun ls hl => ?_)
                refine lv_aload_n hx hb dX2_agreeAt_100 rfl (lv_at hl 3 rfl) ?_
                refine zz_get hC hZ 3 rfl zf_X2_21 rfl dX2_agreeAt_101 ?_
                refine zz_get hC hZ 4 rfl zf_X2_45 rfl dX2_agreeAt_104 ?_
                refine lv_aload_n hx hb dX2_agreeAt_107 rfl (lv_at hl 3 rfl) ?_
                refine zz_get hC hZ 3 rfl zf_X2_21 rfl dX2_agreeAt_108 ?_
                refine zz_get hC hZ 4 rfl zf_X2_49 rfl dX2_agreeAt_111 ?_
                refine lv_iload_n hx hb dX2_agreeAt_114 rfl (lv_at hl 5 rfl) ?_
                have bd18 : b < 60 := by omega
                refine zz_ialdn hC hZ 1 rfl bd18 (by decide) dX2_agreeAt_115 ?_
                refine zz_topi (v := nI szb) (esb) ?_
                refine lv_iload hx hb dX2_agreeAt_116 (lv_at hl 1 rfl) ?_
                refine lv_iadd hx hb dX2_agreeAt_118 ?_
                refine zz_topi (v := nI (szb + i)) (nI_add _ _) ?_
                have bd19 : (szb + i) < 4000 := by omega
                refine zz_laldn hC hZ 2 rfl bd19 (by decide) dX2_agreeAt_119 ?_
                refine lv_lstore (lv' := [(8, .long (btf (szb + i))), (6, .long (btf (sz + i))), (5, .int (nI i)), (4, .int 0), (0, .ref lk), (1, .int (nI a)), (2, .int (nI b)), (3, .int 4)]) hx hb dX2_agreeAt_120 hl (by decide) rfl (fun ls hl => ?_)
                refine lv_lload hx hb dX2_agreeAt_122 (lv_at hl 1 rfl) ?_
                refine lv_lload hx hb dX2_agreeAt_124 (lv_at hl 0 rfl) ?_
                refine zz_lcmp_eq (tgt := 151) hC dX2_agreeAt_126 dX2_agreeAt_127 (by decide) (fun c20 => ?_) (fun c20 => ?_)
                · refine lv_iinc (v := nI (i + 1)) (lv' := [(5, .int (nI (i + 1))), (8, .long (btf (szb + i))), (6, .long (btf (sz + i))), (4, .int 0), (0, .ref lk), (1, .int (nI a)), (2, .int (nI b)), (3, .int 4)]) hx hb dX2_agreeAt_151 hl (k := 2) rfl (nI_1 _) (by decide) rfl (fun ls hl => ?_)
                  refine lv_goto (tgt := 64) hx hb dX2_agreeAt_154 (by decide) ?_
                  exact ih (i + 1) ag1 H locs ls (by omega) (zl_upto he1 (zl_seE es esb (by omega) (by omega) c20)) (hm1) (hr1) (by omega) hZ (lv_sub hl [0, 3, 4, 5, 6, 7] rfl)
                · refine lv_iload hx hb dX2_agreeAt_130 (lv_at hl 3 rfl) ?_
                  refine lv_if_ne (tgt := 149) hx hb dX2_agreeAt_132 (by decide) (fun c => absurd (by decide) c) (fun c21 => ?_)
                  have hkv : ∀ x dr : Nat, x < na → (btf (sz + i)).toInt32 = nI x → dpf x = nI dr → dr ≤ 4 → dr + 5 ≤ 5 := fun x dr hx ex e1 e2 => by have := zl_row h_M h_a.1 es el ed (by omega) (by omega) (by omega) (zl_gt1 g3 c11) (show i < lz by omega) hx ex dr e1 e2; omega
                  refine lv_aload_n hx hb dX2_agreeAt_135 rfl (lv_at hl 4 rfl) ?_
                  refine lv_lload hx hb dX2_agreeAt_136 (lv_at hl 1 rfl) ?_
                  refine lv_l2i hx hb dX2_agreeAt_138 rfl ?_
                  refine lv_lload hx hb dX2_agreeAt_139 (lv_at hl 0 rfl) ?_
                  refine lv_l2i hx hb dX2_agreeAt_141 rfl ?_
                  refine lv_iload_n hx hb dX2_agreeAt_142 rfl (lv_at hl 7 rfl) ?_
                  refine zz_iV (As := [.int ((btf (sz + i)).toInt32), .int ((btf (szb + i)).toInt32), .int 4]) (wc := [cw_k1 lk st (nI n) l_ag l_dg l_ds, cw_i g l_ag 3600 ag1, cw_k5 st (nI na) (nI nu) kd dp cl sa ln bt pn bf, cw_i g kd 60 kdf, cw_i g dp 60 dpf, cw_i g sa 60 saf, cw_i g ln 60 lnf, cw_l g bt 4000 btf]) (wr := []) (rest := []) hC hZ hs hl zc_X2_52 (co_rws4 g lk l_ag l_dg l_ds st kd dp cl sa ln bt pn bf na nu n kdf dpf saf lnf btf ag1 ((btf (sz + i)).toInt32) ((btf (szb + i)).toInt32) (h_M) (hkv) (hm1) (hr1)) [3, 0, 4, 5, 6, 1, 7, 2] [] rfl rfl (by decide +kernel) (ci := 1) (q0 := 0) rfl rfl rfl rfl (Nat.le_of_ble_eq_true rfl) ⟨⟨Nat.le_of_ble_eq_true rfl, Nat.le_of_ble_eq_true rfl⟩, Nat.le_of_ble_eq_true rfl, Nat.le_of_ble_eq_true rfl⟩ dX2_agreeAt_143 (fun r22 u23 H locs hp hZ => ?_)
                  obtain ⟨ag2_24, f25, f26, f27, rfl⟩ := hp
                  have hZ : zz_Z g A s.heap [cw_k1 lk st (nI n) l_ag l_dg l_ds, cw_i g l_ag 3600 ag2_24, cw_k5 st (nI na) (nI nu) kd dp cl sa ln bt pn bf, cw_i g kd 60 kdf, cw_i g dp 60 dpf, cw_i g sa 60 saf, cw_i g ln 60 lnf, cw_l g bt 4000 btf] H locs := hZ
                  refine lv_if_ne (tgt := 151) hx hb dX2_agreeAt_146 (by decide) (fun c28 => ?_) (fun c28 => ?_)
                  · refine lv_iinc (v := nI (i + 1)) (lv' := [(5, .int (nI (i + 1))), (8, .long (btf (szb + i))), (6, .long (btf (sz + i))), (4, .int 0), (0, .ref lk), (1, .int (nI a)), (2, .int (nI b)), (3, .int 4)]) hx hb dX2_agreeAt_151 hl (k := 2) rfl (nI_1 _) (by decide) rfl (fun ls hl => ?_)
                    refine lv_goto (tgt := 64) hx hb dX2_agreeAt_154 (by decide) ?_
                    exact ih (i + 1) ag2_24 H locs ls (by omega) (zl_upto he1 (zl_seR es esb (by omega) (by omega) (zl_d4 ed c11) (zl_bP f25 c28))) (f26) (f27) (by omega) (hZ.sub [1, 5, 7, 0, 2, 3, 4, 6] (by decide +kernel) rfl) (lv_sub hl [0, 3, 4, 5, 6, 7] rfl)
                  · refine lv_iconst (v := 0) hx hb dX2_agreeAt_149 (by decide) ?_
                    exact zz_zret hC hZ (by decide) (⟨ag2_24, (zl_bF (fun z => zl_seN es esb (by omega) (by omega) c20 (Or.inr (zl_bN f25 c28)) ((hU.mp z).2.2.2 i (by omega)))).symm, f26, f27, rfl⟩) (Nat.le_of_ble_eq_true rfl) (Nat.le_of_ble_eq_true rfl) dX2_agreeAt_150
          exact LP13 _ 0 agf H locs ls (by omega) (fun j hj => absurd hj (Nat.not_lt_zero j)) (h_m) (h_q) (Nat.lt_succ_self _) hZ (lv_sub hl [0, 1, 2, 3, 4, 5] rfl)
        · have nc11 : dz = 1 := (nI_eq bd12 (by decide)).mp (show nI (dz) = nI (1) from c11)
          refine lv_iconst (v := 1) hx hb dX2_agreeAt_54 (by decide) ?_
          refine lv_goto (tgt := 59) hx hb dX2_agreeAt_55 (by decide) ?_
          refine lv_istore (lv' := [(4, .int 1), (0, .ref lk), (1, .int (nI a)), (2, .int (nI b)), (3, .int 4)]) hx hb dX2_agreeAt_59 hl (by decide) rfl (fun ls hl => ?_)
          refine lv_iconst (v := 0) hx hb dX2_agreeAt_61 (by decide) ?_
          refine lv_istore (lv' := [(5, .int 0), (4, .int 1), (0, .ref lk), (1, .int (nI a)), (2, .int (nI b)), (3, .int 4)]) hx hb dX2_agreeAt_62 hl (by decide) rfl (fun ls hl => ?_)
          have LP29 : ∀ (N : Nat) (i : Nat) (ag1 : Nat → Int32) (H : Heap) (locs : List Loc) (ls : Array Slot), (i ≤ lz) → (∀ j, j < i → sp_se na kdf dpf saf lnf btf a b j) → (zz_AM na (sp_sS na kdf dpf saf lnf btf) n ag1) → (zz_RB n ag1) → (lz - i) < N → zz_Z g A s.heap [cw_i g l_ag 3600 ag1, cw_i g sa 60 saf, cw_l g bt 4000 btf, cw_k1 lk st (nI n) l_ag l_dg l_ds, cw_k5 st (nI na) (nI nu) kd dp cl sa ln bt pn bf, cw_i g kd 60 kdf, cw_i g dp 60 dpf, cw_i g ln 60 lnf] H locs → lv_has ls 10 [(5, .int (nI i)), (4, .int 1), (0, .ref lk), (1, .int (nI a)), (2, .int (nI b)), (3, .int 4)] → W p l e rm_co_agr4 s m args below meth c H locs 0 0 (zz_QI below g args s A rm_co_agr4.cells rm_co_agr4.slots (po_co_agr4 g lk l_ag l_dg l_ds st kd dp cl sa ln bt pn bf na nu n kdf dpf saf lnf btf agf a b h_M h_a h_v h_m h_q)) (F0 m 64 ls []) := by
            intro N
            induction N with
            | zero =>
              intro i ag1 H locs ls hi he1 hm1 hr1 hN
              exact absurd hN (Nat.not_lt_zero _)
            | succ N ih =>
              intro i ag1 H locs ls hi he1 hm1 hr1 hN hZ hl
              refine lv_iload hx hb dX2_agreeAt_64 (lv_at hl 0 rfl) ?_
              refine lv_aload_n hx hb dX2_agreeAt_66 rfl (lv_at hl 2 rfl) ?_
              refine zz_get hC hZ 3 rfl zf_X2_21 rfl dX2_agreeAt_67 ?_
              refine zz_get hC hZ 4 rfl zf_X2_42 rfl dX2_agreeAt_70 ?_
              refine lv_iload_n hx hb dX2_agreeAt_73 rfl (lv_at hl 3 rfl) ?_
              refine zz_ialdn hC hZ 7 rfl bd10 (by decide) dX2_agreeAt_74 ?_
              refine zz_topi (v := nI lz) (el) ?_
              have bd31 : lz < 2 ^ 31 := by omega
              have bd32 : i < 2 ^ 31 := by omega
              refine lv_icmp_ge (tgt := 157) hx hb dX2_agreeAt_75 (by decide) (fun c30 => ?_) (fun c30 => ?_)
              · have nc30 : lz ≤ i := (nI_leI bd31 bd32).mp (show nI (lz) ≤ nI (i) from c30)
                refine lv_aload_n hx hb dX2_agreeAt_157 rfl (lv_at hl 2 rfl) ?_
                refine zz_get hC hZ 3 rfl zf_X2_9 rfl dX2_agreeAt_158 ?_
                refine lv_iload_n hx hb dX2_agreeAt_161 rfl (lv_at hl 3 rfl) ?_
                refine lv_bipush (v := 60) hx hb dX2_agreeAt_162 (by decide) ?_
                refine lv_imul hx hb dX2_agreeAt_164 ?_
                refine zz_topi (v := nI (a * 60)) (pk_mul _ 60) ?_
                refine lv_iload_n hx hb dX2_agreeAt_165 rfl (lv_at hl 4 rfl) ?_
                refine lv_iadd hx hb dX2_agreeAt_166 ?_
                refine zz_topi (v := nI ((a * 60) + b)) (nI_add _ _) ?_
                refine lv_aload_n hx hb dX2_agreeAt_167 rfl (lv_at hl 2 rfl) ?_
                refine zz_get hC hZ 3 rfl zf_X2_25 rfl dX2_agreeAt_168 ?_
                refine zz_iastn hC hZ 0 rfl bd4 (by decide) dX2_agreeAt_171 (fun H locs hZ => ?_)
                have hZ : zz_Z g A s.heap [cw_i g l_ag 3600 (upd ag1 ((a * 60) + b) (nI n)), cw_i g sa 60 saf, cw_l g bt 4000 btf, cw_k1 lk st (nI n) l_ag l_dg l_ds, cw_k5 st (nI na) (nI nu) kd dp cl sa ln bt pn bf, cw_i g kd 60 kdf, cw_i g dp 60 dpf, cw_i g ln 60 lnf] H locs := hZ
                refine lv_iconst (v := 1) hx hb dX2_agreeAt_172 (by decide) ?_
                have hZ : zz_Z g A s.heap [cw_k1 lk st (nI n) l_ag l_dg l_ds, cw_i g l_ag 3600 (upd ag1 ((a * 60) + b) (nI n)), cw_k5 st (nI na) (nI nu) kd dp cl sa ln bt pn bf, cw_i g kd 60 kdf, cw_i g dp 60 dpf, cw_i g sa 60 saf, cw_i g ln 60 lnf, cw_l g bt 4000 btf] H locs := hZ.sub [3, 0, 4, 5, 6, 1, 7, 2] (by decide +kernel) rfl
                exact zz_zret hC hZ (by decide) (⟨(upd ag1 ((a * 60) + b) (nI n)), (zl_bT (hU.mpr ⟨hsh.1, hsh.2.1, hsh.2.2, fun j hj => he1 j (by omega)⟩)).symm, hm1.set (by omega) h_a.2 (hU.mpr ⟨hsh.1, hsh.2.1, hsh.2.2, fun j hj => he1 j (by omega)⟩), hr1.set, rfl⟩) (Nat.le_of_ble_eq_true rfl) (Nat.le_of_ble_eq_true rfl) dX2_agreeAt_173
              · have nc30 : ¬ lz ≤ i := fun zq => c30 (show nI (lz) ≤ nI (i) from (nI_leI bd31 bd32).mpr zq)
                refine lv_aload_n hx hb dX2_agreeAt_78 rfl (lv_at hl 2 rfl) ?_
                refine zz_get hC hZ 3 rfl zf_X2_21 rfl dX2_agreeAt_79 ?_
                refine zz_get hC hZ 4 rfl zf_X2_45 rfl dX2_agreeAt_82 ?_
                refine lv_aload_n hx hb dX2_agreeAt_85 rfl (lv_at hl 2 rfl) ?_
                refine zz_get hC hZ 3 rfl zf_X2_21 rfl dX2_agreeAt_86 ?_
                refine zz_get hC hZ 4 rfl zf_X2_49 rfl dX2_agreeAt_89 ?_
                refine lv_iload_n hx hb dX2_agreeAt_92 rfl (lv_at hl 3 rfl) ?_
                refine zz_ialdn hC hZ 1 rfl bd10 (by decide) dX2_agreeAt_93 ?_
                refine zz_topi (v := nI sz) (es) ?_
                refine lv_iload hx hb dX2_agreeAt_94 (lv_at hl 0 rfl) ?_
                refine lv_iadd hx hb dX2_agreeAt_96 ?_
                refine zz_topi (v := nI (sz + i)) (nI_add _ _) ?_
                have bd33 : (sz + i) < 4000 := by omega
                refine zz_laldn hC hZ 2 rfl bd33 (by decide) dX2_agreeAt_97 ?_
                refine lv_lstore (lv' := [(6, .long (btf (sz + i))), (5, .int (nI i)), (4, .int 1), (0, .ref lk), (1, .int (nI a)), (2, .int (nI b)), (3, .int 4)]) hx hb dX2_agreeAt_98 hl (by decide) rfl (fun ls hl => ?_)
                refine lv_aload_n hx hb dX2_agreeAt_100 rfl (lv_at hl 3 rfl) ?_
                refine zz_get hC hZ 3 rfl zf_X2_21 rfl dX2_agreeAt_101 ?_
                refine zz_get hC hZ 4 rfl zf_X2_45 rfl dX2_agreeAt_104 ?_
                refine lv_aload_n hx hb dX2_agreeAt_107 rfl (lv_at hl 3 rfl) ?_
                refine zz_get hC hZ 3 rfl zf_X2_21 rfl dX2_agreeAt_108 ?_
                refine zz_get hC hZ 4 rfl zf_X2_49 rfl dX2_agreeAt_111 ?_
                refine lv_iload_n hx hb dX2_agreeAt_114 rfl (lv_at hl 5 rfl) ?_
                have bd34 : b < 60 := by omega
                refine zz_ialdn hC hZ 1 rfl bd34 (by decide) dX2_agreeAt_115 ?_
                refine zz_topi (v := nI szb) (esb) ?_
                refine lv_iload hx hb dX2_agreeAt_116 (lv_at hl 1 rfl) ?_
                refine lv_iadd hx hb dX2_agreeAt_118 ?_
                refine zz_topi (v := nI (szb + i)) (nI_add _ _) ?_
                have bd35 : (szb + i) < 4000 := by omega
                refine zz_laldn hC hZ 2 rfl bd35 (by decide) dX2_agreeAt_119 ?_
                refine lv_lstore (lv' := [(8, .long (btf (szb + i))), (6, .long (btf (sz + i))), (5, .int (nI i)), (4, .int 1), (0, .ref lk), (1, .int (nI a)), (2, .int (nI b)), (3, .int 4)]) hx hb dX2_agreeAt_120 hl (by decide) rfl (fun ls hl => ?_)
                refine lv_lload hx hb dX2_agreeAt_122 (lv_at hl 1 rfl) ?_
                refine lv_lload hx hb dX2_agreeAt_124 (lv_at hl 0 rfl) ?_
                refine zz_lcmp_eq (tgt := 151) hC dX2_agreeAt_126 dX2_agreeAt_127 (by decide) (fun c36 => ?_) (fun c36 => ?_)
                · refine lv_iinc (v := nI (i + 1)) (lv' := [(5, .int (nI (i + 1))), (8, .long (btf (szb + i))), (6, .long (btf (sz + i))), (4, .int 1), (0, .ref lk), (1, .int (nI a)), (2, .int (nI b)), (3, .int 4)]) hx hb dX2_agreeAt_151 hl (k := 2) rfl (nI_1 _) (by decide) rfl (fun ls hl => ?_)
                  refine lv_goto (tgt := 64) hx hb dX2_agreeAt_154 (by decide) ?_
                  exact ih (i + 1) ag1 H locs ls (by omega) (zl_upto he1 (zl_seE es esb (by omega) (by omega) c36)) (hm1) (hr1) (by omega) hZ (lv_sub hl [0, 3, 4, 5, 6, 7] rfl)
                · refine lv_iload hx hb dX2_agreeAt_130 (lv_at hl 3 rfl) ?_
                  refine lv_if_ne (tgt := 149) hx hb dX2_agreeAt_132 (by decide) (fun c37 => ?_) (fun c => absurd c (by decide))
                  refine lv_iconst (v := 0) hx hb dX2_agreeAt_149 (by decide) ?_
                  have hZ : zz_Z g A s.heap [cw_k1 lk st (nI n) l_ag l_dg l_ds, cw_i g l_ag 3600 ag1, cw_k5 st (nI na) (nI nu) kd dp cl sa ln bt pn bf, cw_i g kd 60 kdf, cw_i g dp 60 dpf, cw_i g sa 60 saf, cw_i g ln 60 lnf, cw_l g bt 4000 btf] H locs := hZ.sub [3, 0, 4, 5, 6, 1, 7, 2] (by decide +kernel) rfl
                  exact zz_zret hC hZ (by decide) (⟨ag1, (zl_bF (fun z => zl_seN es esb (by omega) (by omega) c36 (Or.inl (zl_d3 ed c11)) ((hU.mp z).2.2.2 i (by omega)))).symm, hm1, hr1, rfl⟩) (Nat.le_of_ble_eq_true rfl) (Nat.le_of_ble_eq_true rfl) dX2_agreeAt_150
          exact LP29 _ 0 agf H locs ls (by omega) (fun j hj => absurd hj (Nat.not_lt_zero j)) (h_m) (h_q) (Nat.lt_succ_self _) hZ (lv_sub hl [0, 1, 2, 3, 4, 5] rfl)
      · refine lv_iconst (v := 0) hx hb dX2_agreeAt_39 (by decide) ?_
        have hZ : zz_Z g A s.heap [cw_k1 lk st (nI n) l_ag l_dg l_ds, cw_i g l_ag 3600 agf, cw_k5 st (nI na) (nI nu) kd dp cl sa ln bt pn bf, cw_i g kd 60 kdf, cw_i g dp 60 dpf, cw_i g sa 60 saf, cw_i g ln 60 lnf, cw_l g bt 4000 btf] H locs := hZ.sub [3, 0, 4, 5, 6, 1, 7, 2] (by decide +kernel) rfl
        exact zz_zret hC hZ (by decide) (⟨agf, (zl_bF (fun z => zl_shq c9 ⟨(hU.mp z).1, (hU.mp z).2.1, (hU.mp z).2.2.1⟩)).symm, h_m, h_q, rfl⟩) (Nat.le_of_ble_eq_true rfl) (Nat.le_of_ble_eq_true rfl) dX2_agreeAt_40
    · refine lv_iconst (v := 1) hx hb dX2_agreeAt_23 (by decide) ?_
      exact zz_zret hC hZ (by decide) (⟨agf, (zl_bT (h_m a b h_a.1 h_a.2 c5)).symm, h_m, h_q, rfl⟩) (Nat.le_of_ble_eq_true rfl) (Nat.le_of_ble_eq_true rfl) dX2_agreeAt_24
abbrev rm_co_rws3 : Room := { frames := 3, cells := 0, slots := 0, locals := 81 }
abbrev po_co_rws3 (g : zz_G) (lk : Nat) (l_ag : Nat) (l_dg : Nat) (l_ds : Nat) (st : Nat) (kd : Nat) (dp : Nat) (cl : Nat) (sa : Nat) (ln : Nat) (bt : Nat) (pn : Nat) (bf : Nat) (na : Nat) (nu : Nat) (n : Nat) (kdf : Nat → Int32) (dpf : Nat → Int32) (saf : Nat → Int32) (lnf : Nat → Int32) (btf : Nat → Int64) (agf : Nat → Int32) (k : Int32) (j : Int32) (h_M : zz_MI na nu dpf saf lnf btf) (h_v : ∀ x dr : Nat, x < na → k = nI x → dpf x = nI dr → dr ≤ 4 → dr + 4 ≤ 5) (h_m : zz_AM na (sp_sS na kdf dpf saf lnf btf) n agf) (h_q : zz_RB n agf) : Int32 → va_W → Prop := fun (r : Int32) (u : va_W) => ∃ (ag2 : Nat → Int32), (r = sp_b (sp_sr na kdf dpf saf lnf btf k j)) ∧ (zz_AM na (sp_sS na kdf dpf saf lnf btf) n ag2) ∧ (zz_RB n ag2) ∧ u = [cw_k1 lk st (nI n) l_ag l_dg l_ds, cw_i g l_ag 3600 ag2, cw_k5 st (nI na) (nI nu) kd dp cl sa ln bt pn bf, cw_i g kd 60 kdf, cw_i g dp 60 dpf, cw_i g sa 60 saf, cw_i g ln 60 lnf, cw_l g bt 4000 btf]
set_option maxHeartbeats 4000000 in
set_option maxRecDepth 100000 in
theorem co_rws3 (g : zz_G) (lk : Nat) (l_ag : Nat) (l_dg : Nat) (l_ds : Nat) (st : Nat) (kd : Nat) (dp : Nat) (cl : Nat) (sa : Nat) (ln : Nat) (bt : Nat) (pn : Nat) (bf : Nat) (na : Nat) (nu : Nat) (n : Nat) (kdf : Nat → Int32) (dpf : Nat → Int32) (saf : Nat → Int32) (lnf : Nat → Int32) (btf : Nat → Int64) (agf : Nat → Int32) (k : Int32) (j : Int32) (h_M : zz_MI na nu dpf saf lnf btf) (h_v : ∀ x dr : Nat, x < na → k = nI x → dpf x = nI dr → dr ≤ 4 → dr + 4 ≤ 5) (h_m : zz_AM na (sp_sS na kdf dpf saf lnf btf) n agf) (h_q : zz_RB n agf) : zz_I g yX2_rowsAgree (.code yX2_rowsAgree cX2_rowsAgree 4 (some .boolean)) rm_co_rws3 [.ref lk, .int k, .int j, .int 3] [cw_k1 lk st (nI n) l_ag l_dg l_ds, cw_i g l_ag 3600 agf, cw_k5 st (nI na) (nI nu) kd dp cl sa ln bt pn bf, cw_i g kd 60 kdf, cw_i g dp 60 dpf, cw_i g sa 60 saf, cw_i g ln 60 lnf, cw_l g bt 4000 btf] (po_co_rws3 g lk l_ag l_dg l_ds st kd dp cl sa ln bt pn bf na nu n kdf dpf saf lnf btf agf k j h_M h_v h_m h_q) := by
  refine zz_I.intro (own := RX2) (cc := cX2_rowsAgree) (nL := 4) (by decide) rfl (Nat.le_of_ble_eq_true rfl) ?_
  intro p l e s m args below meth c A H locs ls hC hnm hs hZ hl
  obtain ⟨hx, hb, hml, hown, hts, hr, hlocks, hK⟩ := id hC
  have hl : lv_has ls 4 [(0, .ref lk), (1, .int k), (2, .int j), (3, .int 3)] := hl
  have hZ : zz_Z g A s.heap [cw_k1 lk st (nI n) l_ag l_dg l_ds, cw_i g l_ag 3600 agf, cw_k5 st (nI na) (nI nu) kd dp cl sa ln bt pn bf, cw_i g kd 60 kdf, cw_i g dp 60 dpf, cw_i g sa 60 saf, cw_i g ln 60 lnf, cw_l g bt 4000 btf] H locs := hZ
  have h_S := h_M.1
  have hna := h_S.1
  have hnu := h_S.2.1
  refine lv_aload_n hx hb dX2_rowsAgree_0 rfl (lv_at hl 0 rfl) ?_
  refine zz_get hC hZ 0 rfl zf_X2_21 rfl dX2_rowsAgree_1 ?_
  refine lv_iload_n hx hb dX2_rowsAgree_4 rfl (lv_at hl 1 rfl) ?_
  refine zz_iV (As := [.int k]) (wc := [cw_k5 st (nI na) (nI nu) kd dp cl sa ln bt pn bf]) (wr := [cw_k1 lk st (nI n) l_ag l_dg l_ds, cw_i g l_ag 3600 agf, cw_i g kd 60 kdf, cw_i g dp 60 dpf, cw_i g sa 60 saf, cw_i g ln 60 lnf, cw_l g bt 4000 btf]) (rest := []) hC hZ hs hl zc_X2_55 (co_has g st kd dp cl sa ln bt pn bf (nI na) (nI nu) k) [2] [0, 1, 3, 4, 5, 6, 7] rfl rfl (by decide +kernel) (ci := 5) (q0 := 0) rfl rfl rfl rfl (Nat.le_of_ble_eq_true rfl) ⟨⟨Nat.le_of_ble_eq_true rfl, Nat.le_of_ble_eq_true rfl⟩, Nat.le_of_ble_eq_true rfl, Nat.le_of_ble_eq_true rfl⟩ dX2_rowsAgree_5 (fun r1 u2 H locs hp hZ => ?_)
  obtain ⟨rfl, rfl⟩ := hp
  have hZ : zz_Z g A s.heap [cw_k1 lk st (nI n) l_ag l_dg l_ds, cw_i g l_ag 3600 agf, cw_i g kd 60 kdf, cw_i g dp 60 dpf, cw_i g sa 60 saf, cw_i g ln 60 lnf, cw_l g bt 4000 btf, cw_k5 st (nI na) (nI nu) kd dp cl sa ln bt pn bf] H locs := hZ
  refine lv_if_eq (tgt := 38) hx hb dX2_rowsAgree_8 (by decide) (fun c3 => ?_) (fun c3 => ?_)
  · refine lv_iconst (v := 0) hx hb dX2_rowsAgree_38 (by decide) ?_
    have hZ : zz_Z g A s.heap [cw_k1 lk st (nI n) l_ag l_dg l_ds, cw_i g l_ag 3600 agf, cw_k5 st (nI na) (nI nu) kd dp cl sa ln bt pn bf, cw_i g kd 60 kdf, cw_i g dp 60 dpf, cw_i g sa 60 saf, cw_i g ln 60 lnf, cw_l g bt 4000 btf] H locs := hZ.sub [0, 1, 7, 2, 3, 4, 5, 6] (by decide +kernel) rfl
    exact zz_zret hC hZ (by decide) (⟨agf, (zl_bF (zl_srK (by omega) c3)).symm, h_m, h_q, rfl⟩) (Nat.le_of_ble_eq_true rfl) (Nat.le_of_ble_eq_true rfl) dX2_rowsAgree_39
  · obtain ⟨a2, ha2, ea2⟩ := zl_has (by omega) c3
    have hl : lv_has ls 4 [(0, .ref lk), (1, .int (nI a2)), (2, .int j), (3, .int 3)] := by rw [← ea2]; exact hl
    have hkv : ∀ dr : Nat, dpf a2 = nI dr → dr ≤ 4 → dr + 4 ≤ 5 := fun dr e1 e2 => h_v a2 dr ha2 ea2 e1 e2
    refine lv_aload_n hx hb dX2_rowsAgree_11 rfl (lv_at hl 0 rfl) ?_
    refine zz_get hC hZ 0 rfl zf_X2_21 rfl dX2_rowsAgree_12 ?_
    refine lv_iload_n hx hb dX2_rowsAgree_15 rfl (lv_at hl 2 rfl) ?_
    refine zz_iV (As := [.int j]) (wc := [cw_k5 st (nI na) (nI nu) kd dp cl sa ln bt pn bf]) (wr := [cw_k1 lk st (nI n) l_ag l_dg l_ds, cw_i g l_ag 3600 agf, cw_i g kd 60 kdf, cw_i g dp 60 dpf, cw_i g sa 60 saf, cw_i g ln 60 lnf, cw_l g bt 4000 btf]) (rest := []) hC hZ hs hl zc_X2_55 (co_has g st kd dp cl sa ln bt pn bf (nI na) (nI nu) j) [7] [0, 1, 2, 3, 4, 5, 6] rfl rfl (by decide +kernel) (ci := 5) (q0 := 0) rfl rfl rfl rfl (Nat.le_of_ble_eq_true rfl) ⟨⟨Nat.le_of_ble_eq_true rfl, Nat.le_of_ble_eq_true rfl⟩, Nat.le_of_ble_eq_true rfl, Nat.le_of_ble_eq_true rfl⟩ dX2_rowsAgree_16 (fun r4 u5 H locs hp hZ => ?_)
    obtain ⟨rfl, rfl⟩ := hp
    have hZ : zz_Z g A s.heap [cw_k1 lk st (nI n) l_ag l_dg l_ds, cw_i g l_ag 3600 agf, cw_i g kd 60 kdf, cw_i g dp 60 dpf, cw_i g sa 60 saf, cw_i g ln 60 lnf, cw_l g bt 4000 btf, cw_k5 st (nI na) (nI nu) kd dp cl sa ln bt pn bf] H locs := hZ
    refine lv_if_eq (tgt := 38) hx hb dX2_rowsAgree_19 (by decide) (fun c6 => ?_) (fun c6 => ?_)
    · refine lv_iconst (v := 0) hx hb dX2_rowsAgree_38 (by decide) ?_
      have hZ : zz_Z g A s.heap [cw_k1 lk st (nI n) l_ag l_dg l_ds, cw_i g l_ag 3600 agf, cw_k5 st (nI na) (nI nu) kd dp cl sa ln bt pn bf, cw_i g kd 60 kdf, cw_i g dp 60 dpf, cw_i g sa 60 saf, cw_i g ln 60 lnf, cw_l g bt 4000 btf] H locs := hZ.sub [0, 1, 7, 2, 3, 4, 5, 6] (by decide +kernel) rfl
      exact zz_zret hC hZ (by decide) (⟨agf, (zl_bF (zl_srJ (by omega) c6)).symm, h_m, h_q, rfl⟩) (Nat.le_of_ble_eq_true rfl) (Nat.le_of_ble_eq_true rfl) dX2_rowsAgree_39
    · obtain ⟨b2, hb2, eb2⟩ := zl_has (by omega) c6
      have hl : lv_has ls 4 [(0, .ref lk), (1, .int (nI a2)), (2, .int (nI b2)), (3, .int 3)] := by rw [← eb2]; exact hl
      refine lv_aload_n hx hb dX2_rowsAgree_22 rfl (lv_at hl 0 rfl) ?_
      refine lv_iload_n hx hb dX2_rowsAgree_23 rfl (lv_at hl 1 rfl) ?_
      refine lv_iload_n hx hb dX2_rowsAgree_24 rfl (lv_at hl 2 rfl) ?_
      refine lv_iload_n hx hb dX2_rowsAgree_25 rfl (lv_at hl 3 rfl) ?_
      refine lv_iconst (v := 1) hx hb dX2_rowsAgree_26 (by decide) ?_
      refine lv_iadd hx hb dX2_rowsAgree_27 ?_
      refine zz_topi (v := 4) (by decide) ?_
      refine zz_iV (As := [.int (nI a2), .int (nI b2), .int 4]) (wc := [cw_k1 lk st (nI n) l_ag l_dg l_ds, cw_i g l_ag 3600 agf, cw_k5 st (nI na) (nI nu) kd dp cl sa ln bt pn bf, cw_i g kd 60 kdf, cw_i g dp 60 dpf, cw_i g sa 60 saf, cw_i g ln 60 lnf, cw_l g bt 4000 btf]) (wr := []) (rest := []) hC hZ hs hl zc_X2_29 (co_agr4 g lk l_ag l_dg l_ds st kd dp cl sa ln bt pn bf na nu n kdf dpf saf lnf btf agf a2 b2 (h_M) (by omega) (hkv) (h_m) (h_q)) [0, 1, 7, 2, 3, 4, 5, 6] [] rfl rfl (by decide +kernel) (ci := 1) (q0 := 0) rfl rfl rfl rfl (Nat.le_of_ble_eq_true rfl) ⟨⟨Nat.le_of_ble_eq_true rfl, Nat.le_of_ble_eq_true rfl⟩, Nat.le_of_ble_eq_true rfl, Nat.le_of_ble_eq_true rfl⟩ dX2_rowsAgree_28 (fun r7 u8 H locs hp hZ => ?_)
      obtain ⟨ag2_9, f10, f11, f12, rfl⟩ := hp
      have hZ : zz_Z g A s.heap [cw_k1 lk st (nI n) l_ag l_dg l_ds, cw_i g l_ag 3600 ag2_9, cw_k5 st (nI na) (nI nu) kd dp cl sa ln bt pn bf, cw_i g kd 60 kdf, cw_i g dp 60 dpf, cw_i g sa 60 saf, cw_i g ln 60 lnf, cw_l g bt 4000 btf] H locs := hZ
      refine lv_if_eq (tgt := 38) hx hb dX2_rowsAgree_31 (by decide) (fun c13 => ?_) (fun c13 => ?_)
      · refine lv_iconst (v := 0) hx hb dX2_rowsAgree_38 (by decide) ?_
        exact zz_zret hC hZ (by decide) (⟨ag2_9, (zl_bF (fun z => zl_bN f10 c13 ((zl_srI ea2 eb2 (by omega) ha2 hb2).mp z))).symm, f11, f12, rfl⟩) (Nat.le_of_ble_eq_true rfl) (Nat.le_of_ble_eq_true rfl) dX2_rowsAgree_39
      · refine lv_iconst (v := 1) hx hb dX2_rowsAgree_34 (by decide) ?_
        refine lv_goto (tgt := 39) hx hb dX2_rowsAgree_35 (by decide) ?_
        exact zz_zret hC hZ (by decide) (⟨ag2_9, (zl_bT ((zl_srI ea2 eb2 (by omega) ha2 hb2).mpr (zl_bP f10 c13))).symm, f11, f12, rfl⟩) (Nat.le_of_ble_eq_true rfl) (Nat.le_of_ble_eq_true rfl) dX2_rowsAgree_39
abbrev rm_co_agr3 : Room := { frames := 4, cells := 0, slots := 0, locals := 104 }
abbrev po_co_agr3 (g : zz_G) (lk : Nat) (l_ag : Nat) (l_dg : Nat) (l_ds : Nat) (st : Nat) (kd : Nat) (dp : Nat) (cl : Nat) (sa : Nat) (ln : Nat) (bt : Nat) (pn : Nat) (bf : Nat) (na : Nat) (nu : Nat) (n : Nat) (kdf : Nat → Int32) (dpf : Nat → Int32) (saf : Nat → Int32) (lnf : Nat → Int32) (btf : Nat → Int64) (agf : Nat → Int32) (a : Nat) (b : Nat) (h_M : zz_MI na nu dpf saf lnf btf) (h_a : a < na ∧ b < na) (h_v : ∀ dr : Nat, dpf a = nI dr → dr ≤ 4 → dr + 3 ≤ 5) (h_m : zz_AM na (sp_sS na kdf dpf saf lnf btf) n agf) (h_q : zz_RB n agf) : Int32 → va_W → Prop := fun (r : Int32) (u : va_W) => ∃ (ag2 : Nat → Int32), (r = sp_b (sp_sS na kdf dpf saf lnf btf a b)) ∧ (zz_AM na (sp_sS na kdf dpf saf lnf btf) n ag2) ∧ (zz_RB n ag2) ∧ u = [cw_k1 lk st (nI n) l_ag l_dg l_ds, cw_i g l_ag 3600 ag2, cw_k5 st (nI na) (nI nu) kd dp cl sa ln bt pn bf, cw_i g kd 60 kdf, cw_i g dp 60 dpf, cw_i g sa 60 saf, cw_i g ln 60 lnf, cw_l g bt 4000 btf]
set_option maxHeartbeats 4000000 in
set_option maxRecDepth 100000 in
theorem co_agr3 (g : zz_G) (lk : Nat) (l_ag : Nat) (l_dg : Nat) (l_ds : Nat) (st : Nat) (kd : Nat) (dp : Nat) (cl : Nat) (sa : Nat) (ln : Nat) (bt : Nat) (pn : Nat) (bf : Nat) (na : Nat) (nu : Nat) (n : Nat) (kdf : Nat → Int32) (dpf : Nat → Int32) (saf : Nat → Int32) (lnf : Nat → Int32) (btf : Nat → Int64) (agf : Nat → Int32) (a : Nat) (b : Nat) (h_M : zz_MI na nu dpf saf lnf btf) (h_a : a < na ∧ b < na) (h_v : ∀ dr : Nat, dpf a = nI dr → dr ≤ 4 → dr + 3 ≤ 5) (h_m : zz_AM na (sp_sS na kdf dpf saf lnf btf) n agf) (h_q : zz_RB n agf) : zz_I g yX2_agreeAt (.code yX2_agreeAt cX2_agreeAt 10 (some .boolean)) rm_co_agr3 [.ref lk, .int (nI a), .int (nI b), .int 3] [cw_k1 lk st (nI n) l_ag l_dg l_ds, cw_i g l_ag 3600 agf, cw_k5 st (nI na) (nI nu) kd dp cl sa ln bt pn bf, cw_i g kd 60 kdf, cw_i g dp 60 dpf, cw_i g sa 60 saf, cw_i g ln 60 lnf, cw_l g bt 4000 btf] (po_co_agr3 g lk l_ag l_dg l_ds st kd dp cl sa ln bt pn bf na nu n kdf dpf saf lnf btf agf a b h_M h_a h_v h_m h_q) := by
  refine zz_I.intro (own := RX2) (cc := cX2_agreeAt) (nL := 10) (by decide) rfl (Nat.le_of_ble_eq_true rfl) ?_
  intro p l e s m args below meth c A H locs ls hC hnm hs hZ hl
  obtain ⟨hx, hb, hml, hown, hts, hr, hlocks, hK⟩ := id hC
  have hl : lv_has ls 10 [(0, .ref lk), (1, .int (nI a)), (2, .int (nI b)), (3, .int 3)] := hl
  have hZ : zz_Z g A s.heap [cw_k1 lk st (nI n) l_ag l_dg l_ds, cw_i g l_ag 3600 agf, cw_k5 st (nI na) (nI nu) kd dp cl sa ln bt pn bf, cw_i g kd 60 kdf, cw_i g dp 60 dpf, cw_i g sa 60 saf, cw_i g ln 60 lnf, cw_l g bt 4000 btf] H locs := hZ
  have h_S := h_M.1
  have hna := h_S.1
  have hnu := h_S.2.1
  obtain ⟨sz, lz, dz, es, el, ed, g1, g2, g3, g4⟩ := h_S.2.2 a h_a.1
  obtain ⟨szb, lzb, dzb, esb, elb, edb, g1b, g2b, g3b, g4b⟩ := h_S.2.2 b h_a.2
  have hv := h_v dz ed (by omega)
  have hU := zl_ssU (kd := kdf) (b := b) h_M h_a.1 es el ed (by omega) (by omega) (by omega) (by omega)
  refine lv_iload_n hx hb dX2_agreeAt_0 rfl (lv_at hl 1 rfl) ?_
  refine lv_iload_n hx hb dX2_agreeAt_1 rfl (lv_at hl 2 rfl) ?_
  have bd2 : a < 2 ^ 31 := by omega
  have bd3 : b < 2 ^ 31 := by omega
  refine lv_icmp_eq (tgt := 23) hx hb dX2_agreeAt_2 (by decide) (fun c1 => ?_) (fun c1 => ?_)
  · have nc1 : a = b := (nI_eq bd2 bd3).mp (show nI (a) = nI (b) from c1)
    refine lv_iconst (v := 1) hx hb dX2_agreeAt_23 (by decide) ?_
    exact zz_zret hC hZ (by decide) (⟨agf, (zl_bT (zl_ssI hU nc1)).symm, h_m, h_q, rfl⟩) (Nat.le_of_ble_eq_true rfl) (Nat.le_of_ble_eq_true rfl) dX2_agreeAt_24
  · have nc1 : ¬ a = b := fun zq => c1 (show nI (a) = nI (b) from (nI_eq bd2 bd3).mpr zq)
    refine lv_aload_n hx hb dX2_agreeAt_5 rfl (lv_at hl 0 rfl) ?_
    refine zz_get hC hZ 0 rfl zf_X2_9 rfl dX2_agreeAt_6 ?_
    refine lv_iload_n hx hb dX2_agreeAt_9 rfl (lv_at hl 1 rfl) ?_
    refine lv_bipush (v := 60) hx hb dX2_agreeAt_10 (by decide) ?_
    refine lv_imul hx hb dX2_agreeAt_12 ?_
    refine zz_topi (v := nI (a * 60)) (pk_mul _ 60) ?_
    refine lv_iload_n hx hb dX2_agreeAt_13 rfl (lv_at hl 2 rfl) ?_
    refine lv_iadd hx hb dX2_agreeAt_14 ?_
    refine zz_topi (v := nI ((a * 60) + b)) (nI_add _ _) ?_
    have bd4 : ((a * 60) + b) < 3600 := by omega
    refine zz_ialdn hC hZ 1 rfl bd4 (by decide) dX2_agreeAt_15 ?_
    refine lv_aload_n hx hb dX2_agreeAt_16 rfl (lv_at hl 0 rfl) ?_
    refine zz_get hC hZ 0 rfl zf_X2_25 rfl dX2_agreeAt_17 ?_
    refine lv_icmp_ne (tgt := 25) hx hb dX2_agreeAt_20 (by decide) (fun c5 => ?_) (fun c5 => ?_)
    · refine lv_iload_n hx hb dX2_agreeAt_25 rfl (lv_at hl 3 rfl) ?_
      refine lv_iconst (v := 4) hx hb dX2_agreeAt_26 (by decide) ?_
      refine lv_icmp_gt (tgt := 39) hx hb dX2_agreeAt_27 (by decide) (fun c => absurd c (by decide)) (fun c6 => ?_)
      refine lv_aload_n hx hb dX2_agreeAt_30 rfl (lv_at hl 0 rfl) ?_
      refine lv_iload_n hx hb dX2_agreeAt_31 rfl (lv_at hl 1 rfl) ?_
      refine lv_iload_n hx hb dX2_agreeAt_32 rfl (lv_at hl 2 rfl) ?_
      refine zz_iV (As := [.int (nI a), .int (nI b)]) (wc := [cw_k1 lk st (nI n) l_ag l_dg l_ds, cw_k5 st (nI na) (nI nu) kd dp cl sa ln bt pn bf, cw_i g kd 60 kdf, cw_i g dp 60 dpf, cw_i g ln 60 lnf]) (wr := [cw_i g l_ag 3600 agf, cw_i g sa 60 saf, cw_l g bt 4000 btf]) (rest := []) hC hZ hs hl zc_X2_33 (co_sameShape g lk l_ag l_dg l_ds st kd dp cl sa ln bt pn bf na nu (nI n) kdf dpf lnf a b (by omega)) [0, 2, 3, 4, 6] [1, 5, 7] rfl rfl (by decide +kernel) (ci := 1) (q0 := 0) rfl rfl rfl rfl (Nat.le_of_ble_eq_true rfl) ⟨⟨Nat.le_of_ble_eq_true rfl, Nat.le_of_ble_eq_true rfl⟩, Nat.le_of_ble_eq_true rfl, Nat.le_of_ble_eq_true rfl⟩ dX2_agreeAt_33 (fun r7 u8 H locs hp hZ => ?_)
      obtain ⟨rfl, rfl⟩ := hp
      have hZ : zz_Z g A s.heap [cw_i g l_ag 3600 agf, cw_i g sa 60 saf, cw_l g bt 4000 btf, cw_k1 lk st (nI n) l_ag l_dg l_ds, cw_k5 st (nI na) (nI nu) kd dp cl sa ln bt pn bf, cw_i g kd 60 kdf, cw_i g dp 60 dpf, cw_i g ln 60 lnf] H locs := hZ
      refine lv_if_ne (tgt := 41) hx hb dX2_agreeAt_36 (by decide) (fun c9 => ?_) (fun c9 => ?_)
      · have hsh := zl_shp c9
        have hlz : lz = lzb := (nI_eq (by omega) (by omega)).mp (el.symm.trans (hsh.2.2.trans elb))
        refine lv_aload_n hx hb dX2_agreeAt_41 rfl (lv_at hl 0 rfl) ?_
        refine zz_get hC hZ 3 rfl zf_X2_21 rfl dX2_agreeAt_42 ?_
        refine zz_get hC hZ 4 rfl zf_X2_37 rfl dX2_agreeAt_45 ?_
        refine lv_iload_n hx hb dX2_agreeAt_48 rfl (lv_at hl 1 rfl) ?_
        have bd10 : a < 60 := by omega
        refine zz_ialdn hC hZ 6 rfl bd10 (by decide) dX2_agreeAt_49 ?_
        refine zz_topi (v := nI dz) (ed) ?_
        refine lv_iconst (v := 1) hx hb dX2_agreeAt_50 (by decide) ?_
        have bd12 : dz < 2 ^ 31 := by omega
        refine lv_icmp_ne (tgt := 58) hx hb dX2_agreeAt_51 (by decide) (fun c11 => ?_) (fun c11 => ?_)
        · have nc11 : ¬ dz = 1 := fun zq => c11 (show nI (dz) = nI (1) from (nI_eq bd12 (by decide)).mpr zq)
          refine lv_iconst (v := 0) hx hb dX2_agreeAt_58 (by decide) ?_
          refine lv_istore (lv' := [(4, .int 0), (0, .ref lk), (1, .int (nI a)), (2, .int (nI b)), (3, .int 3)]) hx hb dX2_agreeAt_59 hl (by decide) rfl (fun ls hl => ?_)
          refine lv_iconst (v := 0) hx hb dX2_agreeAt_61 (by decide) ?_
          refine lv_istore (lv' := [(5, .int 0), (4, .int 0), (0, .ref lk), (1, .int (nI a)), (2, .int (nI b)), (3, .int 3)]) hx hb dX2_agreeAt_62 hl (by decide) rfl (fun ls hl => ?_)
          have LP13 : ∀ (N : Nat) (i : Nat) (ag1 : Nat → Int32) (H : Heap) (locs : List Loc) (ls : Array Slot), (i ≤ lz) → (∀ j, j < i → sp_se na kdf dpf saf lnf btf a b j) → (zz_AM na (sp_sS na kdf dpf saf lnf btf) n ag1) → (zz_RB n ag1) → (lz - i) < N → zz_Z g A s.heap [cw_i g l_ag 3600 ag1, cw_i g sa 60 saf, cw_l g bt 4000 btf, cw_k1 lk st (nI n) l_ag l_dg l_ds, cw_k5 st (nI na) (nI nu) kd dp cl sa ln bt pn bf, cw_i g kd 60 kdf, cw_i g dp 60 dpf, cw_i g ln 60 lnf] H locs → lv_has ls 10 [(5, .int (nI i)), (4, .int 0), (0, .ref lk), (1, .int (nI a)), (2, .int (nI b)), (3, .int 3)] → W p l e rm_co_agr3 s m args below meth c H locs 0 0 (zz_QI below g args s A rm_co_agr3.cells rm_co_agr3.slots (po_co_agr3 g lk l_ag l_dg l_ds st kd dp cl sa ln bt pn bf na nu n kdf dpf saf lnf btf agf a b h_M h_a h_v h_m h_q)) (F0 m 64 ls []) := by
            intro N
            induction N with
            | zero =>
              intro i ag1 H locs ls hi he1 hm1 hr1 hN
              exact absurd hN (Nat.not_lt_zero _)
            | succ N ih =>
              intro i ag1 H locs ls hi he1 hm1 hr1 hN hZ hl
              refine lv_iload hx hb dX2_agreeAt_64 (lv_at hl 0 rfl) ?_
              refine lv_aload_n hx hb dX2_agreeAt_66 rfl (lv_at hl 2 rfl) ?_
              refine zz_get hC hZ 3 rfl zf_X2_21 rfl dX2_agreeAt_67 ?_
              refine zz_get hC hZ 4 rfl zf_X2_42 rfl dX2_agreeAt_70 ?_
              refine lv_iload_n hx hb dX2_agreeAt_73 rfl (lv_at hl 3 rfl) ?_
              refine zz_ialdn hC hZ 7 rfl bd10 (by decide) dX2_agreeAt_74 ?_
              refine zz_topi (v := nI lz) (el) ?_
              have bd15 : lz < 2 ^ 31 := by omega
              have bd16 : i < 2 ^ 31 := by omega
              refine lv_icmp_ge (tgt := 157) hx hb dX2_agreeAt_75 (by decide) (fun c14 => ?_) (fun c14 => ?_)
              · have nc14 : lz ≤ i := (nI_leI bd15 bd16).mp (show nI (lz) ≤ nI (i) from c14)
                refine lv_aload_n hx hb dX2_agreeAt_157 rfl (lv_at hl 2 rfl) ?_
                refine zz_get hC hZ 3 rfl zf_X2_9 rfl dX2_agreeAt_158 ?_
                refine lv_iload_n hx hb dX2_agreeAt_161 rfl (lv_at hl 3 rfl) ?_
                refine lv_bipush (v := 60) hx hb dX2_agreeAt_162 (by decide) ?_
                refine lv_imul hx hb dX2_agreeAt_164 ?_
                refine zz_topi (v := nI (a * 60)) (pk_mul _ 60) ?_
                refine lv_iload_n hx hb dX2_agreeAt_165 rfl (lv_at hl 4 rfl) ?_
                refine lv_iadd hx hb dX2_agreeAt_166 ?_
                refine zz_topi (v := nI ((a * 60) + b)) (nI_add _ _) ?_
                refine lv_aload_n hx hb dX2_agreeAt_167 rfl (lv_at hl 2 rfl) ?_
                refine zz_get hC hZ 3 rfl zf_X2_25 rfl dX2_agreeAt_168 ?_
                refine zz_iastn hC hZ 0 rfl bd4 (by decide) dX2_agreeAt_171 (fun H locs hZ => ?_)
                have hZ : zz_Z g A s.heap [cw_i g l_ag 3600 (upd ag1 ((a * 60) + b) (nI n)), cw_i g sa 60 saf, cw_l g bt 4000 btf, cw_k1 lk st (nI n) l_ag l_dg l_ds, cw_k5 st (nI na) (nI nu) kd dp cl sa ln bt pn bf, cw_i g kd 60 kdf, cw_i g dp 60 dpf, cw_i g ln 60 lnf] H locs := hZ
                refine lv_iconst (v := 1) hx hb dX2_agreeAt_172 (by decide) ?_
                have hZ : zz_Z g A s.heap [cw_k1 lk st (nI n) l_ag l_dg l_ds, cw_i g l_ag 3600 (upd ag1 ((a * 60) + b) (nI n)), cw_k5 st (nI na) (nI nu) kd dp cl sa ln bt pn bf, cw_i g kd 60 kdf, cw_i g dp 60 dpf, cw_i g sa 60 saf, cw_i g ln 60 lnf, cw_l g bt 4000 btf] H locs := hZ.sub [3, 0, 4, 5, 6, 1, 7, 2] (by decide +kernel) rfl
                exact zz_zret hC hZ (by decide) (⟨(upd ag1 ((a * 60) + b) (nI n)), (zl_bT (hU.mpr ⟨hsh.1, hsh.2.1, hsh.2.2, fun j hj => he1 j (by omega)⟩)).symm, hm1.set (by omega) h_a.2 (hU.mpr ⟨hsh.1, hsh.2.1, hsh.2.2, fun j hj => he1 j (by omega)⟩), hr1.set, rfl⟩) (Nat.le_of_ble_eq_true rfl) (Nat.le_of_ble_eq_true rfl) dX2_agreeAt_173
              · have nc14 : ¬ lz ≤ i := fun zq => c14 (show nI (lz) ≤ nI (i) from (nI_leI bd15 bd16).mpr zq)
                refine lv_aload_n hx hb dX2_agreeAt_78 rfl (lv_at hl 2 rfl) ?_
                refine zz_get hC hZ 3 rfl zf_X2_21 rfl dX2_agreeAt_79 ?_
                refine zz_get hC hZ 4 rfl zf_X2_45 rfl dX2_agreeAt_82 ?_
                refine lv_aload_n hx hb dX2_agreeAt_85 rfl (lv_at hl 2 rfl) ?_
                refine zz_get hC hZ 3 rfl zf_X2_21 rfl dX2_agreeAt_86 ?_
                refine zz_get hC hZ 4 rfl zf_X2_49 rfl dX2_agreeAt_89 ?_
                refine lv_iload_n hx hb dX2_agreeAt_92 rfl (lv_at hl 3 rfl) ?_
                refine zz_ialdn hC hZ 1 rfl bd10 (by decide) dX2_agreeAt_93 ?_
                refine zz_topi (v := nI sz) (es) ?_
                refine lv_iload hx hb dX2_agreeAt_94 (lv_at hl 0 rfl) ?_
                refine lv_iadd hx hb dX2_agreeAt_96 ?_
                refine zz_topi (v := nI (sz + i)) (nI_add _ _) ?_
                have bd17 : (sz + i) < 4000 := by omega
                refine zz_laldn hC hZ 2 rfl bd17 (by decide) dX2_agreeAt_97 ?_
                refine lv_lstore (lv' := [(6, .long (btf (sz + i))), (5, .int (nI i)), (4, .int 0), (0, .ref lk), (1, .int (nI a)), (2, .int (nI b)), (3, .int 3)]) hx hb dX2_agreeAt_98 hl (by decide) rfl (fun ls hl => ?_)
                refine lv_aload_n hx hb dX2_agreeAt_100 rfl (lv_at hl 3 rfl) ?_
                refine zz_get hC hZ 3 rfl zf_X2_21 rfl dX2_agreeAt_101 ?_
                refine zz_get hC hZ 4 rfl zf_X2_45 rfl dX2_agreeAt_104 ?_
                refine lv_aload_n hx hb dX2_agreeAt_107 rfl (lv_at hl 3 rfl) ?_
                refine zz_get hC hZ 3 rfl zf_X2_21 rfl dX2_agreeAt_108 ?_
                refine zz_get hC hZ 4 rfl zf_X2_49 rfl dX2_agreeAt_111 ?_
                refine lv_iload_n hx hb dX2_agreeAt_114 rfl (lv_at hl 5 rfl) ?_
                have bd18 : b < 60 := by omega
                refine zz_ialdn hC hZ 1 rfl bd18 (by decide) dX2_agreeAt_115 ?_
                refine zz_topi (v := nI szb) (esb) ?_
                refine lv_iload hx hb dX2_agreeAt_116 (lv_at hl 1 rfl) ?_
                refine lv_iadd hx hb dX2_agreeAt_118 ?_
                refine zz_topi (v := nI (szb + i)) (nI_add _ _) ?_
                have bd19 : (szb + i) < 4000 := by omega
                refine zz_laldn hC hZ 2 rfl bd19 (by decide) dX2_agreeAt_119 ?_
                refine lv_lstore (lv' := [(8, .long (btf (szb + i))), (6, .long (btf (sz + i))), (5, .int (nI i)), (4, .int 0), (0, .ref lk), (1, .int (nI a)), (2, .int (nI b)), (3, .int 3)]) hx hb dX2_agreeAt_120 hl (by decide) rfl (fun ls hl => ?_)
                refine lv_lload hx hb dX2_agreeAt_122 (lv_at hl 1 rfl) ?_
                refine lv_lload hx hb dX2_agreeAt_124 (lv_at hl 0 rfl) ?_
                refine zz_lcmp_eq (tgt := 151) hC dX2_agreeAt_126 dX2_agreeAt_127 (by decide) (fun c20 => ?_) (fun c20 => ?_)
                · refine lv_iinc (v := nI (i + 1)) (lv' := [(5, .int (nI (i + 1))), (8, .long (btf (szb + i))), (6, .long (btf (sz + i))), (4, .int 0), (0, .ref lk), (1, .int (nI a)), (2, .int (nI b)), (3, .int 3)]) hx hb dX2_agreeAt_151 hl (k := 2) rfl (nI_1 _) (by decide) rfl (fun ls hl => ?_)
                  refine lv_goto (tgt := 64) hx hb dX2_agreeAt_154 (by decide) ?_
                  exact ih (i + 1) ag1 H locs ls (by omega) (zl_upto he1 (zl_seE es esb (by omega) (by omega) c20)) (hm1) (hr1) (by omega) hZ (lv_sub hl [0, 3, 4, 5, 6, 7] rfl)
                · refine lv_iload hx hb dX2_agreeAt_130 (lv_at hl 3 rfl) ?_
                  refine lv_if_ne (tgt := 149) hx hb dX2_agreeAt_132 (by decide) (fun c => absurd (by decide) c) (fun c21 => ?_)
                  have hkv : ∀ x dr : Nat, x < na → (btf (sz + i)).toInt32 = nI x → dpf x = nI dr → dr ≤ 4 → dr + 4 ≤ 5 := fun x dr hx ex e1 e2 => by have := zl_row h_M h_a.1 es el ed (by omega) (by omega) (by omega) (zl_gt1 g3 c11) (show i < lz by omega) hx ex dr e1 e2; omega
                  refine lv_aload_n hx hb dX2_agreeAt_135 rfl (lv_at hl 4 rfl) ?_
                  refine lv_lload hx hb dX2_agreeAt_136 (lv_at hl 1 rfl) ?_
                  refine lv_l2i hx hb dX2_agreeAt_138 rfl ?_
                  refine lv_lload hx hb dX2_agreeAt_139 (lv_at hl 0 rfl) ?_
                  refine lv_l2i hx hb dX2_agreeAt_141 rfl ?_
                  refine lv_iload_n hx hb dX2_agreeAt_142 rfl (lv_at hl 7 rfl) ?_
                  refine zz_iV (As := [.int ((btf (sz + i)).toInt32), .int ((btf (szb + i)).toInt32), .int 3]) (wc := [cw_k1 lk st (nI n) l_ag l_dg l_ds, cw_i g l_ag 3600 ag1, cw_k5 st (nI na) (nI nu) kd dp cl sa ln bt pn bf, cw_i g kd 60 kdf, cw_i g dp 60 dpf, cw_i g sa 60 saf, cw_i g ln 60 lnf, cw_l g bt 4000 btf]) (wr := []) (rest := []) hC hZ hs hl zc_X2_52 (co_rws3 g lk l_ag l_dg l_ds st kd dp cl sa ln bt pn bf na nu n kdf dpf saf lnf btf ag1 ((btf (sz + i)).toInt32) ((btf (szb + i)).toInt32) (h_M) (hkv) (hm1) (hr1)) [3, 0, 4, 5, 6, 1, 7, 2] [] rfl rfl (by decide +kernel) (ci := 1) (q0 := 0) rfl rfl rfl rfl (Nat.le_of_ble_eq_true rfl) ⟨⟨Nat.le_of_ble_eq_true rfl, Nat.le_of_ble_eq_true rfl⟩, Nat.le_of_ble_eq_true rfl, Nat.le_of_ble_eq_true rfl⟩ dX2_agreeAt_143 (fun r22 u23 H locs hp hZ => ?_)
                  obtain ⟨ag2_24, f25, f26, f27, rfl⟩ := hp
                  have hZ : zz_Z g A s.heap [cw_k1 lk st (nI n) l_ag l_dg l_ds, cw_i g l_ag 3600 ag2_24, cw_k5 st (nI na) (nI nu) kd dp cl sa ln bt pn bf, cw_i g kd 60 kdf, cw_i g dp 60 dpf, cw_i g sa 60 saf, cw_i g ln 60 lnf, cw_l g bt 4000 btf] H locs := hZ
                  refine lv_if_ne (tgt := 151) hx hb dX2_agreeAt_146 (by decide) (fun c28 => ?_) (fun c28 => ?_)
                  · refine lv_iinc (v := nI (i + 1)) (lv' := [(5, .int (nI (i + 1))), (8, .long (btf (szb + i))), (6, .long (btf (sz + i))), (4, .int 0), (0, .ref lk), (1, .int (nI a)), (2, .int (nI b)), (3, .int 3)]) hx hb dX2_agreeAt_151 hl (k := 2) rfl (nI_1 _) (by decide) rfl (fun ls hl => ?_)
                    refine lv_goto (tgt := 64) hx hb dX2_agreeAt_154 (by decide) ?_
                    exact ih (i + 1) ag2_24 H locs ls (by omega) (zl_upto he1 (zl_seR es esb (by omega) (by omega) (zl_d4 ed c11) (zl_bP f25 c28))) (f26) (f27) (by omega) (hZ.sub [1, 5, 7, 0, 2, 3, 4, 6] (by decide +kernel) rfl) (lv_sub hl [0, 3, 4, 5, 6, 7] rfl)
                  · refine lv_iconst (v := 0) hx hb dX2_agreeAt_149 (by decide) ?_
                    exact zz_zret hC hZ (by decide) (⟨ag2_24, (zl_bF (fun z => zl_seN es esb (by omega) (by omega) c20 (Or.inr (zl_bN f25 c28)) ((hU.mp z).2.2.2 i (by omega)))).symm, f26, f27, rfl⟩) (Nat.le_of_ble_eq_true rfl) (Nat.le_of_ble_eq_true rfl) dX2_agreeAt_150
          exact LP13 _ 0 agf H locs ls (by omega) (fun j hj => absurd hj (Nat.not_lt_zero j)) (h_m) (h_q) (Nat.lt_succ_self _) hZ (lv_sub hl [0, 1, 2, 3, 4, 5] rfl)
        · have nc11 : dz = 1 := (nI_eq bd12 (by decide)).mp (show nI (dz) = nI (1) from c11)
          refine lv_iconst (v := 1) hx hb dX2_agreeAt_54 (by decide) ?_
          refine lv_goto (tgt := 59) hx hb dX2_agreeAt_55 (by decide) ?_
          refine lv_istore (lv' := [(4, .int 1), (0, .ref lk), (1, .int (nI a)), (2, .int (nI b)), (3, .int 3)]) hx hb dX2_agreeAt_59 hl (by decide) rfl (fun ls hl => ?_)
          refine lv_iconst (v := 0) hx hb dX2_agreeAt_61 (by decide) ?_
          refine lv_istore (lv' := [(5, .int 0), (4, .int 1), (0, .ref lk), (1, .int (nI a)), (2, .int (nI b)), (3, .int 3)]) hx hb dX2_agreeAt_62 hl (by decide) rfl (fun ls hl => ?_)
          have LP29 : ∀ (N : Nat) (i : Nat) (ag1 : Nat → Int32) (H : Heap) (locs : List Loc) (ls : Array Slot), (i ≤ lz) → (∀ j, j < i → sp_se na kdf dpf saf lnf btf a b j) → (zz_AM na (sp_sS na kdf dpf saf lnf btf) n ag1) → (zz_RB n ag1) → (lz - i) < N → zz_Z g A s.heap [cw_i g l_ag 3600 ag1, cw_i g sa 60 saf, cw_l g bt 4000 btf, cw_k1 lk st (nI n) l_ag l_dg l_ds, cw_k5 st (nI na) (nI nu) kd dp cl sa ln bt pn bf, cw_i g kd 60 kdf, cw_i g dp 60 dpf, cw_i g ln 60 lnf] H locs → lv_has ls 10 [(5, .int (nI i)), (4, .int 1), (0, .ref lk), (1, .int (nI a)), (2, .int (nI b)), (3, .int 3)] → W p l e rm_co_agr3 s m args below meth c H locs 0 0 (zz_QI below g args s A rm_co_agr3.cells rm_co_agr3.slots (po_co_agr3 g lk l_ag l_dg l_ds st kd dp cl sa ln bt pn bf na nu n kdf dpf saf lnf btf agf a b h_M h_a h_v h_m h_q)) (F0 m 64 ls []) := by
            intro N
            induction N with
            | zero =>
              intro i ag1 H locs ls hi he1 hm1 hr1 hN
              exact absurd hN (Nat.not_lt_zero _)
            | succ N ih =>
              intro i ag1 H locs ls hi he1 hm1 hr1 hN hZ hl
              refine lv_iload hx hb dX2_agreeAt_64 (lv_at hl 0 rfl) ?_
              refine lv_aload_n hx hb dX2_agreeAt_66 rfl (lv_at hl 2 rfl) ?_
              refine zz_get hC hZ 3 rfl zf_X2_21 rfl dX2_agreeAt_67 ?_
              refine zz_get hC hZ 4 rfl zf_X2_42 rfl dX2_agreeAt_70 ?_
              refine lv_iload_n hx hb dX2_agreeAt_73 rfl (lv_at hl 3 rfl) ?_
              refine zz_ialdn hC hZ 7 rfl bd10 (by decide) dX2_agreeAt_74 ?_
              refine zz_topi (v := nI lz) (el) ?_
              have bd31 : lz < 2 ^ 31 := by omega
              have bd32 : i < 2 ^ 31 := by omega
              refine lv_icmp_ge (tgt := 157) hx hb dX2_agreeAt_75 (by decide) (fun c30 => ?_) (fun c30 => ?_)
              · have nc30 : lz ≤ i := (nI_leI bd31 bd32).mp (show nI (lz) ≤ nI (i) from c30)
                refine lv_aload_n hx hb dX2_agreeAt_157 rfl (lv_at hl 2 rfl) ?_
                refine zz_get hC hZ 3 rfl zf_X2_9 rfl dX2_agreeAt_158 ?_
                refine lv_iload_n hx hb dX2_agreeAt_161 rfl (lv_at hl 3 rfl) ?_
                refine lv_bipush (v := 60) hx hb dX2_agreeAt_162 (by decide) ?_
                refine lv_imul hx hb dX2_agreeAt_164 ?_
                refine zz_topi (v := nI (a * 60)) (pk_mul _ 60) ?_
                refine lv_iload_n hx hb dX2_agreeAt_165 rfl (lv_at hl 4 rfl) ?_
                refine lv_iadd hx hb dX2_agreeAt_166 ?_
                refine zz_topi (v := nI ((a * 60) + b)) (nI_add _ _) ?_
                refine lv_aload_n hx hb dX2_agreeAt_167 rfl (lv_at hl 2 rfl) ?_
                refine zz_get hC hZ 3 rfl zf_X2_25 rfl dX2_agreeAt_168 ?_
                refine zz_iastn hC hZ 0 rfl bd4 (by decide) dX2_agreeAt_171 (fun H locs hZ => ?_)
                have hZ : zz_Z g A s.heap [cw_i g l_ag 3600 (upd ag1 ((a * 60) + b) (nI n)), cw_i g sa 60 saf, cw_l g bt 4000 btf, cw_k1 lk st (nI n) l_ag l_dg l_ds, cw_k5 st (nI na) (nI nu) kd dp cl sa ln bt pn bf, cw_i g kd 60 kdf, cw_i g dp 60 dpf, cw_i g ln 60 lnf] H locs := hZ
                refine lv_iconst (v := 1) hx hb dX2_agreeAt_172 (by decide) ?_
                have hZ : zz_Z g A s.heap [cw_k1 lk st (nI n) l_ag l_dg l_ds, cw_i g l_ag 3600 (upd ag1 ((a * 60) + b) (nI n)), cw_k5 st (nI na) (nI nu) kd dp cl sa ln bt pn bf, cw_i g kd 60 kdf, cw_i g dp 60 dpf, cw_i g sa 60 saf, cw_i g ln 60 lnf, cw_l g bt 4000 btf] H locs := hZ.sub [3, 0, 4, 5, 6, 1, 7, 2] (by decide +kernel) rfl
                exact zz_zret hC hZ (by decide) (⟨(upd ag1 ((a * 60) + b) (nI n)), (zl_bT (hU.mpr ⟨hsh.1, hsh.2.1, hsh.2.2, fun j hj => he1 j (by omega)⟩)).symm, hm1.set (by omega) h_a.2 (hU.mpr ⟨hsh.1, hsh.2.1, hsh.2.2, fun j hj => he1 j (by omega)⟩), hr1.set, rfl⟩) (Nat.le_of_ble_eq_true rfl) (Nat.le_of_ble_eq_true rfl) dX2_agreeAt_173
              · have nc30 : ¬ lz ≤ i := fun zq => c30 (show nI (lz) ≤ nI (i) from (nI_leI bd31 bd32).mpr zq)
                refine lv_aload_n hx hb dX2_agreeAt_78 rfl (lv_at hl 2 rfl) ?_
                refine zz_get hC hZ 3 rfl zf_X2_21 rfl dX2_agreeAt_79 ?_
                refine zz_get hC hZ 4 rfl zf_X2_45 rfl dX2_agreeAt_82 ?_
                refine lv_aload_n hx hb dX2_agreeAt_85 rfl (lv_at hl 2 rfl) ?_
                refine zz_get hC hZ 3 rfl zf_X2_21 rfl dX2_agreeAt_86 ?_
                refine zz_get hC hZ 4 rfl zf_X2_49 rfl dX2_agreeAt_89 ?_
                refine lv_iload_n hx hb dX2_agreeAt_92 rfl (lv_at hl 3 rfl) ?_
                refine zz_ialdn hC hZ 1 rfl bd10 (by decide) dX2_agreeAt_93 ?_
                refine zz_topi (v := nI sz) (es) ?_
                refine lv_iload hx hb dX2_agreeAt_94 (lv_at hl 0 rfl) ?_
                refine lv_iadd hx hb dX2_agreeAt_96 ?_
                refine zz_topi (v := nI (sz + i)) (nI_add _ _) ?_
                have bd33 : (sz + i) < 4000 := by omega
                refine zz_laldn hC hZ 2 rfl bd33 (by decide) dX2_agreeAt_97 ?_
                refine lv_lstore (lv' := [(6, .long (btf (sz + i))), (5, .int (nI i)), (4, .int 1), (0, .ref lk), (1, .int (nI a)), (2, .int (nI b)), (3, .int 3)]) hx hb dX2_agreeAt_98 hl (by decide) rfl (fun ls hl => ?_)
                refine lv_aload_n hx hb dX2_agreeAt_100 rfl (lv_at hl 3 rfl) ?_
                refine zz_get hC hZ 3 rfl zf_X2_21 rfl dX2_agreeAt_101 ?_
                refine zz_get hC hZ 4 rfl zf_X2_45 rfl dX2_agreeAt_104 ?_
                refine lv_aload_n hx hb dX2_agreeAt_107 rfl (lv_at hl 3 rfl) ?_
                refine zz_get hC hZ 3 rfl zf_X2_21 rfl dX2_agreeAt_108 ?_
                refine zz_get hC hZ 4 rfl zf_X2_49 rfl dX2_agreeAt_111 ?_
                refine lv_iload_n hx hb dX2_agreeAt_114 rfl (lv_at hl 5 rfl) ?_
                have bd34 : b < 60 := by omega
                refine zz_ialdn hC hZ 1 rfl bd34 (by decide) dX2_agreeAt_115 ?_
                refine zz_topi (v := nI szb) (esb) ?_
                refine lv_iload hx hb dX2_agreeAt_116 (lv_at hl 1 rfl) ?_
                refine lv_iadd hx hb dX2_agreeAt_118 ?_
                refine zz_topi (v := nI (szb + i)) (nI_add _ _) ?_
                have bd35 : (szb + i) < 4000 := by omega
                refine zz_laldn hC hZ 2 rfl bd35 (by decide) dX2_agreeAt_119 ?_
                refine lv_lstore (lv' := [(8, .long (btf (szb + i))), (6, .long (btf (sz + i))), (5, .int (nI i)), (4, .int 1), (0, .ref lk), (1, .int (nI a)), (2, .int (nI b)), (3, .int 3)]) hx hb dX2_agreeAt_120 hl (by decide) rfl (fun ls hl => ?_)
                refine lv_lload hx hb dX2_agreeAt_122 (lv_at hl 1 rfl) ?_
                refine lv_lload hx hb dX2_agreeAt_124 (lv_at hl 0 rfl) ?_
                refine zz_lcmp_eq (tgt := 151) hC dX2_agreeAt_126 dX2_agreeAt_127 (by decide) (fun c36 => ?_) (fun c36 => ?_)
                · refine lv_iinc (v := nI (i + 1)) (lv' := [(5, .int (nI (i + 1))), (8, .long (btf (szb + i))), (6, .long (btf (sz + i))), (4, .int 1), (0, .ref lk), (1, .int (nI a)), (2, .int (nI b)), (3, .int 3)]) hx hb dX2_agreeAt_151 hl (k := 2) rfl (nI_1 _) (by decide) rfl (fun ls hl => ?_)
                  refine lv_goto (tgt := 64) hx hb dX2_agreeAt_154 (by decide) ?_
                  exact ih (i + 1) ag1 H locs ls (by omega) (zl_upto he1 (zl_seE es esb (by omega) (by omega) c36)) (hm1) (hr1) (by omega) hZ (lv_sub hl [0, 3, 4, 5, 6, 7] rfl)
                · refine lv_iload hx hb dX2_agreeAt_130 (lv_at hl 3 rfl) ?_
                  refine lv_if_ne (tgt := 149) hx hb dX2_agreeAt_132 (by decide) (fun c37 => ?_) (fun c => absurd c (by decide))
                  refine lv_iconst (v := 0) hx hb dX2_agreeAt_149 (by decide) ?_
                  have hZ : zz_Z g A s.heap [cw_k1 lk st (nI n) l_ag l_dg l_ds, cw_i g l_ag 3600 ag1, cw_k5 st (nI na) (nI nu) kd dp cl sa ln bt pn bf, cw_i g kd 60 kdf, cw_i g dp 60 dpf, cw_i g sa 60 saf, cw_i g ln 60 lnf, cw_l g bt 4000 btf] H locs := hZ.sub [3, 0, 4, 5, 6, 1, 7, 2] (by decide +kernel) rfl
                  exact zz_zret hC hZ (by decide) (⟨ag1, (zl_bF (fun z => zl_seN es esb (by omega) (by omega) c36 (Or.inl (zl_d3 ed c11)) ((hU.mp z).2.2.2 i (by omega)))).symm, hm1, hr1, rfl⟩) (Nat.le_of_ble_eq_true rfl) (Nat.le_of_ble_eq_true rfl) dX2_agreeAt_150
          exact LP29 _ 0 agf H locs ls (by omega) (fun j hj => absurd hj (Nat.not_lt_zero j)) (h_m) (h_q) (Nat.lt_succ_self _) hZ (lv_sub hl [0, 1, 2, 3, 4, 5] rfl)
      · refine lv_iconst (v := 0) hx hb dX2_agreeAt_39 (by decide) ?_
        have hZ : zz_Z g A s.heap [cw_k1 lk st (nI n) l_ag l_dg l_ds, cw_i g l_ag 3600 agf, cw_k5 st (nI na) (nI nu) kd dp cl sa ln bt pn bf, cw_i g kd 60 kdf, cw_i g dp 60 dpf, cw_i g sa 60 saf, cw_i g ln 60 lnf, cw_l g bt 4000 btf] H locs := hZ.sub [3, 0, 4, 5, 6, 1, 7, 2] (by decide +kernel) rfl
        exact zz_zret hC hZ (by decide) (⟨agf, (zl_bF (fun z => zl_shq c9 ⟨(hU.mp z).1, (hU.mp z).2.1, (hU.mp z).2.2.1⟩)).symm, h_m, h_q, rfl⟩) (Nat.le_of_ble_eq_true rfl) (Nat.le_of_ble_eq_true rfl) dX2_agreeAt_40
    · refine lv_iconst (v := 1) hx hb dX2_agreeAt_23 (by decide) ?_
      exact zz_zret hC hZ (by decide) (⟨agf, (zl_bT (h_m a b h_a.1 h_a.2 c5)).symm, h_m, h_q, rfl⟩) (Nat.le_of_ble_eq_true rfl) (Nat.le_of_ble_eq_true rfl) dX2_agreeAt_24
abbrev rm_co_rws2 : Room := { frames := 5, cells := 0, slots := 0, locals := 133 }
abbrev po_co_rws2 (g : zz_G) (lk : Nat) (l_ag : Nat) (l_dg : Nat) (l_ds : Nat) (st : Nat) (kd : Nat) (dp : Nat) (cl : Nat) (sa : Nat) (ln : Nat) (bt : Nat) (pn : Nat) (bf : Nat) (na : Nat) (nu : Nat) (n : Nat) (kdf : Nat → Int32) (dpf : Nat → Int32) (saf : Nat → Int32) (lnf : Nat → Int32) (btf : Nat → Int64) (agf : Nat → Int32) (k : Int32) (j : Int32) (h_M : zz_MI na nu dpf saf lnf btf) (h_v : ∀ x dr : Nat, x < na → k = nI x → dpf x = nI dr → dr ≤ 4 → dr + 3 ≤ 5) (h_m : zz_AM na (sp_sS na kdf dpf saf lnf btf) n agf) (h_q : zz_RB n agf) : Int32 → va_W → Prop := fun (r : Int32) (u : va_W) => ∃ (ag2 : Nat → Int32), (r = sp_b (sp_sr na kdf dpf saf lnf btf k j)) ∧ (zz_AM na (sp_sS na kdf dpf saf lnf btf) n ag2) ∧ (zz_RB n ag2) ∧ u = [cw_k1 lk st (nI n) l_ag l_dg l_ds, cw_i g l_ag 3600 ag2, cw_k5 st (nI na) (nI nu) kd dp cl sa ln bt pn bf, cw_i g kd 60 kdf, cw_i g dp 60 dpf, cw_i g sa 60 saf, cw_i g ln 60 lnf, cw_l g bt 4000 btf]
set_option maxHeartbeats 4000000 in
set_option maxRecDepth 100000 in
theorem co_rws2 (g : zz_G) (lk : Nat) (l_ag : Nat) (l_dg : Nat) (l_ds : Nat) (st : Nat) (kd : Nat) (dp : Nat) (cl : Nat) (sa : Nat) (ln : Nat) (bt : Nat) (pn : Nat) (bf : Nat) (na : Nat) (nu : Nat) (n : Nat) (kdf : Nat → Int32) (dpf : Nat → Int32) (saf : Nat → Int32) (lnf : Nat → Int32) (btf : Nat → Int64) (agf : Nat → Int32) (k : Int32) (j : Int32) (h_M : zz_MI na nu dpf saf lnf btf) (h_v : ∀ x dr : Nat, x < na → k = nI x → dpf x = nI dr → dr ≤ 4 → dr + 3 ≤ 5) (h_m : zz_AM na (sp_sS na kdf dpf saf lnf btf) n agf) (h_q : zz_RB n agf) : zz_I g yX2_rowsAgree (.code yX2_rowsAgree cX2_rowsAgree 4 (some .boolean)) rm_co_rws2 [.ref lk, .int k, .int j, .int 2] [cw_k1 lk st (nI n) l_ag l_dg l_ds, cw_i g l_ag 3600 agf, cw_k5 st (nI na) (nI nu) kd dp cl sa ln bt pn bf, cw_i g kd 60 kdf, cw_i g dp 60 dpf, cw_i g sa 60 saf, cw_i g ln 60 lnf, cw_l g bt 4000 btf] (po_co_rws2 g lk l_ag l_dg l_ds st kd dp cl sa ln bt pn bf na nu n kdf dpf saf lnf btf agf k j h_M h_v h_m h_q) := by
  refine zz_I.intro (own := RX2) (cc := cX2_rowsAgree) (nL := 4) (by decide) rfl (Nat.le_of_ble_eq_true rfl) ?_
  intro p l e s m args below meth c A H locs ls hC hnm hs hZ hl
  obtain ⟨hx, hb, hml, hown, hts, hr, hlocks, hK⟩ := id hC
  have hl : lv_has ls 4 [(0, .ref lk), (1, .int k), (2, .int j), (3, .int 2)] := hl
  have hZ : zz_Z g A s.heap [cw_k1 lk st (nI n) l_ag l_dg l_ds, cw_i g l_ag 3600 agf, cw_k5 st (nI na) (nI nu) kd dp cl sa ln bt pn bf, cw_i g kd 60 kdf, cw_i g dp 60 dpf, cw_i g sa 60 saf, cw_i g ln 60 lnf, cw_l g bt 4000 btf] H locs := hZ
  have h_S := h_M.1
  have hna := h_S.1
  have hnu := h_S.2.1
  refine lv_aload_n hx hb dX2_rowsAgree_0 rfl (lv_at hl 0 rfl) ?_
  refine zz_get hC hZ 0 rfl zf_X2_21 rfl dX2_rowsAgree_1 ?_
  refine lv_iload_n hx hb dX2_rowsAgree_4 rfl (lv_at hl 1 rfl) ?_
  refine zz_iV (As := [.int k]) (wc := [cw_k5 st (nI na) (nI nu) kd dp cl sa ln bt pn bf]) (wr := [cw_k1 lk st (nI n) l_ag l_dg l_ds, cw_i g l_ag 3600 agf, cw_i g kd 60 kdf, cw_i g dp 60 dpf, cw_i g sa 60 saf, cw_i g ln 60 lnf, cw_l g bt 4000 btf]) (rest := []) hC hZ hs hl zc_X2_55 (co_has g st kd dp cl sa ln bt pn bf (nI na) (nI nu) k) [2] [0, 1, 3, 4, 5, 6, 7] rfl rfl (by decide +kernel) (ci := 5) (q0 := 0) rfl rfl rfl rfl (Nat.le_of_ble_eq_true rfl) ⟨⟨Nat.le_of_ble_eq_true rfl, Nat.le_of_ble_eq_true rfl⟩, Nat.le_of_ble_eq_true rfl, Nat.le_of_ble_eq_true rfl⟩ dX2_rowsAgree_5 (fun r1 u2 H locs hp hZ => ?_)
  obtain ⟨rfl, rfl⟩ := hp
  have hZ : zz_Z g A s.heap [cw_k1 lk st (nI n) l_ag l_dg l_ds, cw_i g l_ag 3600 agf, cw_i g kd 60 kdf, cw_i g dp 60 dpf, cw_i g sa 60 saf, cw_i g ln 60 lnf, cw_l g bt 4000 btf, cw_k5 st (nI na) (nI nu) kd dp cl sa ln bt pn bf] H locs := hZ
  refine lv_if_eq (tgt := 38) hx hb dX2_rowsAgree_8 (by decide) (fun c3 => ?_) (fun c3 => ?_)
  · refine lv_iconst (v := 0) hx hb dX2_rowsAgree_38 (by decide) ?_
    have hZ : zz_Z g A s.heap [cw_k1 lk st (nI n) l_ag l_dg l_ds, cw_i g l_ag 3600 agf, cw_k5 st (nI na) (nI nu) kd dp cl sa ln bt pn bf, cw_i g kd 60 kdf, cw_i g dp 60 dpf, cw_i g sa 60 saf, cw_i g ln 60 lnf, cw_l g bt 4000 btf] H locs := hZ.sub [0, 1, 7, 2, 3, 4, 5, 6] (by decide +kernel) rfl
    exact zz_zret hC hZ (by decide) (⟨agf, (zl_bF (zl_srK (by omega) c3)).symm, h_m, h_q, rfl⟩) (Nat.le_of_ble_eq_true rfl) (Nat.le_of_ble_eq_true rfl) dX2_rowsAgree_39
  · obtain ⟨a2, ha2, ea2⟩ := zl_has (by omega) c3
    have hl : lv_has ls 4 [(0, .ref lk), (1, .int (nI a2)), (2, .int j), (3, .int 2)] := by rw [← ea2]; exact hl
    have hkv : ∀ dr : Nat, dpf a2 = nI dr → dr ≤ 4 → dr + 3 ≤ 5 := fun dr e1 e2 => h_v a2 dr ha2 ea2 e1 e2
    refine lv_aload_n hx hb dX2_rowsAgree_11 rfl (lv_at hl 0 rfl) ?_
    refine zz_get hC hZ 0 rfl zf_X2_21 rfl dX2_rowsAgree_12 ?_
    refine lv_iload_n hx hb dX2_rowsAgree_15 rfl (lv_at hl 2 rfl) ?_
    refine zz_iV (As := [.int j]) (wc := [cw_k5 st (nI na) (nI nu) kd dp cl sa ln bt pn bf]) (wr := [cw_k1 lk st (nI n) l_ag l_dg l_ds, cw_i g l_ag 3600 agf, cw_i g kd 60 kdf, cw_i g dp 60 dpf, cw_i g sa 60 saf, cw_i g ln 60 lnf, cw_l g bt 4000 btf]) (rest := []) hC hZ hs hl zc_X2_55 (co_has g st kd dp cl sa ln bt pn bf (nI na) (nI nu) j) [7] [0, 1, 2, 3, 4, 5, 6] rfl rfl (by decide +kernel) (ci := 5) (q0 := 0) rfl rfl rfl rfl (Nat.le_of_ble_eq_true rfl) ⟨⟨Nat.le_of_ble_eq_true rfl, Nat.le_of_ble_eq_true rfl⟩, Nat.le_of_ble_eq_true rfl, Nat.le_of_ble_eq_true rfl⟩ dX2_rowsAgree_16 (fun r4 u5 H locs hp hZ => ?_)
    obtain ⟨rfl, rfl⟩ := hp
    have hZ : zz_Z g A s.heap [cw_k1 lk st (nI n) l_ag l_dg l_ds, cw_i g l_ag 3600 agf, cw_i g kd 60 kdf, cw_i g dp 60 dpf, cw_i g sa 60 saf, cw_i g ln 60 lnf, cw_l g bt 4000 btf, cw_k5 st (nI na) (nI nu) kd dp cl sa ln bt pn bf] H locs := hZ
    refine lv_if_eq (tgt := 38) hx hb dX2_rowsAgree_19 (by decide) (fun c6 => ?_) (fun c6 => ?_)
    · refine lv_iconst (v := 0) hx hb dX2_rowsAgree_38 (by decide) ?_
      have hZ : zz_Z g A s.heap [cw_k1 lk st (nI n) l_ag l_dg l_ds, cw_i g l_ag 3600 agf, cw_k5 st (nI na) (nI nu) kd dp cl sa ln bt pn bf, cw_i g kd 60 kdf, cw_i g dp 60 dpf, cw_i g sa 60 saf, cw_i g ln 60 lnf, cw_l g bt 4000 btf] H locs := hZ.sub [0, 1, 7, 2, 3, 4, 5, 6] (by decide +kernel) rfl
      exact zz_zret hC hZ (by decide) (⟨agf, (zl_bF (zl_srJ (by omega) c6)).symm, h_m, h_q, rfl⟩) (Nat.le_of_ble_eq_true rfl) (Nat.le_of_ble_eq_true rfl) dX2_rowsAgree_39
    · obtain ⟨b2, hb2, eb2⟩ := zl_has (by omega) c6
      have hl : lv_has ls 4 [(0, .ref lk), (1, .int (nI a2)), (2, .int (nI b2)), (3, .int 2)] := by rw [← eb2]; exact hl
      refine lv_aload_n hx hb dX2_rowsAgree_22 rfl (lv_at hl 0 rfl) ?_
      refine lv_iload_n hx hb dX2_rowsAgree_23 rfl (lv_at hl 1 rfl) ?_
      refine lv_iload_n hx hb dX2_rowsAgree_24 rfl (lv_at hl 2 rfl) ?_
      refine lv_iload_n hx hb dX2_rowsAgree_25 rfl (lv_at hl 3 rfl) ?_
      refine lv_iconst (v := 1) hx hb dX2_rowsAgree_26 (by decide) ?_
      refine lv_iadd hx hb dX2_rowsAgree_27 ?_
      refine zz_topi (v := 3) (by decide) ?_
      refine zz_iV (As := [.int (nI a2), .int (nI b2), .int 3]) (wc := [cw_k1 lk st (nI n) l_ag l_dg l_ds, cw_i g l_ag 3600 agf, cw_k5 st (nI na) (nI nu) kd dp cl sa ln bt pn bf, cw_i g kd 60 kdf, cw_i g dp 60 dpf, cw_i g sa 60 saf, cw_i g ln 60 lnf, cw_l g bt 4000 btf]) (wr := []) (rest := []) hC hZ hs hl zc_X2_29 (co_agr3 g lk l_ag l_dg l_ds st kd dp cl sa ln bt pn bf na nu n kdf dpf saf lnf btf agf a2 b2 (h_M) (by omega) (hkv) (h_m) (h_q)) [0, 1, 7, 2, 3, 4, 5, 6] [] rfl rfl (by decide +kernel) (ci := 1) (q0 := 0) rfl rfl rfl rfl (Nat.le_of_ble_eq_true rfl) ⟨⟨Nat.le_of_ble_eq_true rfl, Nat.le_of_ble_eq_true rfl⟩, Nat.le_of_ble_eq_true rfl, Nat.le_of_ble_eq_true rfl⟩ dX2_rowsAgree_28 (fun r7 u8 H locs hp hZ => ?_)
      obtain ⟨ag2_9, f10, f11, f12, rfl⟩ := hp
      have hZ : zz_Z g A s.heap [cw_k1 lk st (nI n) l_ag l_dg l_ds, cw_i g l_ag 3600 ag2_9, cw_k5 st (nI na) (nI nu) kd dp cl sa ln bt pn bf, cw_i g kd 60 kdf, cw_i g dp 60 dpf, cw_i g sa 60 saf, cw_i g ln 60 lnf, cw_l g bt 4000 btf] H locs := hZ
      refine lv_if_eq (tgt := 38) hx hb dX2_rowsAgree_31 (by decide) (fun c13 => ?_) (fun c13 => ?_)
      · refine lv_iconst (v := 0) hx hb dX2_rowsAgree_38 (by decide) ?_
        exact zz_zret hC hZ (by decide) (⟨ag2_9, (zl_bF (fun z => zl_bN f10 c13 ((zl_srI ea2 eb2 (by omega) ha2 hb2).mp z))).symm, f11, f12, rfl⟩) (Nat.le_of_ble_eq_true rfl) (Nat.le_of_ble_eq_true rfl) dX2_rowsAgree_39
      · refine lv_iconst (v := 1) hx hb dX2_rowsAgree_34 (by decide) ?_
        refine lv_goto (tgt := 39) hx hb dX2_rowsAgree_35 (by decide) ?_
        exact zz_zret hC hZ (by decide) (⟨ag2_9, (zl_bT ((zl_srI ea2 eb2 (by omega) ha2 hb2).mpr (zl_bP f10 c13))).symm, f11, f12, rfl⟩) (Nat.le_of_ble_eq_true rfl) (Nat.le_of_ble_eq_true rfl) dX2_rowsAgree_39
abbrev rm_co_agr2 : Room := { frames := 6, cells := 0, slots := 0, locals := 156 }
abbrev po_co_agr2 (g : zz_G) (lk : Nat) (l_ag : Nat) (l_dg : Nat) (l_ds : Nat) (st : Nat) (kd : Nat) (dp : Nat) (cl : Nat) (sa : Nat) (ln : Nat) (bt : Nat) (pn : Nat) (bf : Nat) (na : Nat) (nu : Nat) (n : Nat) (kdf : Nat → Int32) (dpf : Nat → Int32) (saf : Nat → Int32) (lnf : Nat → Int32) (btf : Nat → Int64) (agf : Nat → Int32) (a : Nat) (b : Nat) (h_M : zz_MI na nu dpf saf lnf btf) (h_a : a < na ∧ b < na) (h_v : ∀ dr : Nat, dpf a = nI dr → dr ≤ 4 → dr + 2 ≤ 5) (h_m : zz_AM na (sp_sS na kdf dpf saf lnf btf) n agf) (h_q : zz_RB n agf) : Int32 → va_W → Prop := fun (r : Int32) (u : va_W) => ∃ (ag2 : Nat → Int32), (r = sp_b (sp_sS na kdf dpf saf lnf btf a b)) ∧ (zz_AM na (sp_sS na kdf dpf saf lnf btf) n ag2) ∧ (zz_RB n ag2) ∧ u = [cw_k1 lk st (nI n) l_ag l_dg l_ds, cw_i g l_ag 3600 ag2, cw_k5 st (nI na) (nI nu) kd dp cl sa ln bt pn bf, cw_i g kd 60 kdf, cw_i g dp 60 dpf, cw_i g sa 60 saf, cw_i g ln 60 lnf, cw_l g bt 4000 btf]
set_option maxHeartbeats 4000000 in
set_option maxRecDepth 100000 in
theorem co_agr2 (g : zz_G) (lk : Nat) (l_ag : Nat) (l_dg : Nat) (l_ds : Nat) (st : Nat) (kd : Nat) (dp : Nat) (cl : Nat) (sa : Nat) (ln : Nat) (bt : Nat) (pn : Nat) (bf : Nat) (na : Nat) (nu : Nat) (n : Nat) (kdf : Nat → Int32) (dpf : Nat → Int32) (saf : Nat → Int32) (lnf : Nat → Int32) (btf : Nat → Int64) (agf : Nat → Int32) (a : Nat) (b : Nat) (h_M : zz_MI na nu dpf saf lnf btf) (h_a : a < na ∧ b < na) (h_v : ∀ dr : Nat, dpf a = nI dr → dr ≤ 4 → dr + 2 ≤ 5) (h_m : zz_AM na (sp_sS na kdf dpf saf lnf btf) n agf) (h_q : zz_RB n agf) : zz_I g yX2_agreeAt (.code yX2_agreeAt cX2_agreeAt 10 (some .boolean)) rm_co_agr2 [.ref lk, .int (nI a), .int (nI b), .int 2] [cw_k1 lk st (nI n) l_ag l_dg l_ds, cw_i g l_ag 3600 agf, cw_k5 st (nI na) (nI nu) kd dp cl sa ln bt pn bf, cw_i g kd 60 kdf, cw_i g dp 60 dpf, cw_i g sa 60 saf, cw_i g ln 60 lnf, cw_l g bt 4000 btf] (po_co_agr2 g lk l_ag l_dg l_ds st kd dp cl sa ln bt pn bf na nu n kdf dpf saf lnf btf agf a b h_M h_a h_v h_m h_q) := by
  refine zz_I.intro (own := RX2) (cc := cX2_agreeAt) (nL := 10) (by decide) rfl (Nat.le_of_ble_eq_true rfl) ?_
  intro p l e s m args below meth c A H locs ls hC hnm hs hZ hl
  obtain ⟨hx, hb, hml, hown, hts, hr, hlocks, hK⟩ := id hC
  have hl : lv_has ls 10 [(0, .ref lk), (1, .int (nI a)), (2, .int (nI b)), (3, .int 2)] := hl
  have hZ : zz_Z g A s.heap [cw_k1 lk st (nI n) l_ag l_dg l_ds, cw_i g l_ag 3600 agf, cw_k5 st (nI na) (nI nu) kd dp cl sa ln bt pn bf, cw_i g kd 60 kdf, cw_i g dp 60 dpf, cw_i g sa 60 saf, cw_i g ln 60 lnf, cw_l g bt 4000 btf] H locs := hZ
  have h_S := h_M.1
  have hna := h_S.1
  have hnu := h_S.2.1
  obtain ⟨sz, lz, dz, es, el, ed, g1, g2, g3, g4⟩ := h_S.2.2 a h_a.1
  obtain ⟨szb, lzb, dzb, esb, elb, edb, g1b, g2b, g3b, g4b⟩ := h_S.2.2 b h_a.2
  have hv := h_v dz ed (by omega)
  have hU := zl_ssU (kd := kdf) (b := b) h_M h_a.1 es el ed (by omega) (by omega) (by omega) (by omega)
  refine lv_iload_n hx hb dX2_agreeAt_0 rfl (lv_at hl 1 rfl) ?_
  refine lv_iload_n hx hb dX2_agreeAt_1 rfl (lv_at hl 2 rfl) ?_
  have bd2 : a < 2 ^ 31 := by omega
  have bd3 : b < 2 ^ 31 := by omega
  refine lv_icmp_eq (tgt := 23) hx hb dX2_agreeAt_2 (by decide) (fun c1 => ?_) (fun c1 => ?_)
  · have nc1 : a = b := (nI_eq bd2 bd3).mp (show nI (a) = nI (b) from c1)
    refine lv_iconst (v := 1) hx hb dX2_agreeAt_23 (by decide) ?_
    exact zz_zret hC hZ (by decide) (⟨agf, (zl_bT (zl_ssI hU nc1)).symm, h_m, h_q, rfl⟩) (Nat.le_of_ble_eq_true rfl) (Nat.le_of_ble_eq_true rfl) dX2_agreeAt_24
  · have nc1 : ¬ a = b := fun zq => c1 (show nI (a) = nI (b) from (nI_eq bd2 bd3).mpr zq)
    refine lv_aload_n hx hb dX2_agreeAt_5 rfl (lv_at hl 0 rfl) ?_
    refine zz_get hC hZ 0 rfl zf_X2_9 rfl dX2_agreeAt_6 ?_
    refine lv_iload_n hx hb dX2_agreeAt_9 rfl (lv_at hl 1 rfl) ?_
    refine lv_bipush (v := 60) hx hb dX2_agreeAt_10 (by decide) ?_
    refine lv_imul hx hb dX2_agreeAt_12 ?_
    refine zz_topi (v := nI (a * 60)) (pk_mul _ 60) ?_
    refine lv_iload_n hx hb dX2_agreeAt_13 rfl (lv_at hl 2 rfl) ?_
    refine lv_iadd hx hb dX2_agreeAt_14 ?_
    refine zz_topi (v := nI ((a * 60) + b)) (nI_add _ _) ?_
    have bd4 : ((a * 60) + b) < 3600 := by omega
    refine zz_ialdn hC hZ 1 rfl bd4 (by decide) dX2_agreeAt_15 ?_
    refine lv_aload_n hx hb dX2_agreeAt_16 rfl (lv_at hl 0 rfl) ?_
    refine zz_get hC hZ 0 rfl zf_X2_25 rfl dX2_agreeAt_17 ?_
    refine lv_icmp_ne (tgt := 25) hx hb dX2_agreeAt_20 (by decide) (fun c5 => ?_) (fun c5 => ?_)
    · refine lv_iload_n hx hb dX2_agreeAt_25 rfl (lv_at hl 3 rfl) ?_
      refine lv_iconst (v := 4) hx hb dX2_agreeAt_26 (by decide) ?_
      refine lv_icmp_gt (tgt := 39) hx hb dX2_agreeAt_27 (by decide) (fun c => absurd c (by decide)) (fun c6 => ?_)
      refine lv_aload_n hx hb dX2_agreeAt_30 rfl (lv_at hl 0 rfl) ?_
      refine lv_iload_n hx hb dX2_agreeAt_31 rfl (lv_at hl 1 rfl) ?_
      refine lv_iload_n hx hb dX2_agreeAt_32 rfl (lv_at hl 2 rfl) ?_
      refine zz_iV (As := [.int (nI a), .int (nI b)]) (wc := [cw_k1 lk st (nI n) l_ag l_dg l_ds, cw_k5 st (nI na) (nI nu) kd dp cl sa ln bt pn bf, cw_i g kd 60 kdf, cw_i g dp 60 dpf, cw_i g ln 60 lnf]) (wr := [cw_i g l_ag 3600 agf, cw_i g sa 60 saf, cw_l g bt 4000 btf]) (rest := []) hC hZ hs hl zc_X2_33 (co_sameShape g lk l_ag l_dg l_ds st kd dp cl sa ln bt pn bf na nu (nI n) kdf dpf lnf a b (by omega)) [0, 2, 3, 4, 6] [1, 5, 7] rfl rfl (by decide +kernel) (ci := 1) (q0 := 0) rfl rfl rfl rfl (Nat.le_of_ble_eq_true rfl) ⟨⟨Nat.le_of_ble_eq_true rfl, Nat.le_of_ble_eq_true rfl⟩, Nat.le_of_ble_eq_true rfl, Nat.le_of_ble_eq_true rfl⟩ dX2_agreeAt_33 (fun r7 u8 H locs hp hZ => ?_)
      obtain ⟨rfl, rfl⟩ := hp
      have hZ : zz_Z g A s.heap [cw_i g l_ag 3600 agf, cw_i g sa 60 saf, cw_l g bt 4000 btf, cw_k1 lk st (nI n) l_ag l_dg l_ds, cw_k5 st (nI na) (nI nu) kd dp cl sa ln bt pn bf, cw_i g kd 60 kdf, cw_i g dp 60 dpf, cw_i g ln 60 lnf] H locs := hZ
      refine lv_if_ne (tgt := 41) hx hb dX2_agreeAt_36 (by decide) (fun c9 => ?_) (fun c9 => ?_)
      · have hsh := zl_shp c9
        have hlz : lz = lzb := (nI_eq (by omega) (by omega)).mp (el.symm.trans (hsh.2.2.trans elb))
        refine lv_aload_n hx hb dX2_agreeAt_41 rfl (lv_at hl 0 rfl) ?_
        refine zz_get hC hZ 3 rfl zf_X2_21 rfl dX2_agreeAt_42 ?_
        refine zz_get hC hZ 4 rfl zf_X2_37 rfl dX2_agreeAt_45 ?_
        refine lv_iload_n hx hb dX2_agreeAt_48 rfl (lv_at hl 1 rfl) ?_
        have bd10 : a < 60 := by omega
        refine zz_ialdn hC hZ 6 rfl bd10 (by decide) dX2_agreeAt_49 ?_
        refine zz_topi (v := nI dz) (ed) ?_
        refine lv_iconst (v := 1) hx hb dX2_agreeAt_50 (by decide) ?_
        have bd12 : dz < 2 ^ 31 := by omega
        refine lv_icmp_ne (tgt := 58) hx hb dX2_agreeAt_51 (by decide) (fun c11 => ?_) (fun c11 => ?_)
        · have nc11 : ¬ dz = 1 := fun zq => c11 (show nI (dz) = nI (1) from (nI_eq bd12 (by decide)).mpr zq)
          refine lv_iconst (v := 0) hx hb dX2_agreeAt_58 (by decide) ?_
          refine lv_istore (lv' := [(4, .int 0), (0, .ref lk), (1, .int (nI a)), (2, .int (nI b)), (3, .int 2)]) hx hb dX2_agreeAt_59 hl (by decide) rfl (fun ls hl => ?_)
          refine lv_iconst (v := 0) hx hb dX2_agreeAt_61 (by decide) ?_
          refine lv_istore (lv' := [(5, .int 0), (4, .int 0), (0, .ref lk), (1, .int (nI a)), (2, .int (nI b)), (3, .int 2)]) hx hb dX2_agreeAt_62 hl (by decide) rfl (fun ls hl => ?_)
          have LP13 : ∀ (N : Nat) (i : Nat) (ag1 : Nat → Int32) (H : Heap) (locs : List Loc) (ls : Array Slot), (i ≤ lz) → (∀ j, j < i → sp_se na kdf dpf saf lnf btf a b j) → (zz_AM na (sp_sS na kdf dpf saf lnf btf) n ag1) → (zz_RB n ag1) → (lz - i) < N → zz_Z g A s.heap [cw_i g l_ag 3600 ag1, cw_i g sa 60 saf, cw_l g bt 4000 btf, cw_k1 lk st (nI n) l_ag l_dg l_ds, cw_k5 st (nI na) (nI nu) kd dp cl sa ln bt pn bf, cw_i g kd 60 kdf, cw_i g dp 60 dpf, cw_i g ln 60 lnf] H locs → lv_has ls 10 [(5, .int (nI i)), (4, .int 0), (0, .ref lk), (1, .int (nI a)), (2, .int (nI b)), (3, .int 2)] → W p l e rm_co_agr2 s m args below meth c H locs 0 0 (zz_QI below g args s A rm_co_agr2.cells rm_co_agr2.slots (po_co_agr2 g lk l_ag l_dg l_ds st kd dp cl sa ln bt pn bf na nu n kdf dpf saf lnf btf agf a b h_M h_a h_v h_m h_q)) (F0 m 64 ls []) := by
            intro N
            induction N with
            | zero =>
              intro i ag1 H locs ls hi he1 hm1 hr1 hN
              exact absurd hN (Nat.not_lt_zero _)
            | succ N ih =>
              intro i ag1 H locs ls hi he1 hm1 hr1 hN hZ hl
              refine lv_iload hx hb dX2_agreeAt_64 (lv_at hl 0 rfl) ?_
              refine lv_aload_n hx hb dX2_agreeAt_66 rfl (lv_at hl 2 rfl) ?_
              refine zz_get hC hZ 3 rfl zf_X2_21 rfl dX2_agreeAt_67 ?_
              refine zz_get hC hZ 4 rfl zf_X2_42 rfl dX2_agreeAt_70 ?_
              refine lv_iload_n hx hb dX2_agreeAt_73 rfl (lv_at hl 3 rfl) ?_
              refine zz_ialdn hC hZ 7 rfl bd10 (by decide) dX2_agreeAt_74 ?_
              refine zz_topi (v := nI lz) (el) ?_
              have bd15 : lz < 2 ^ 31 := by omega
              have bd16 : i < 2 ^ 31 := by omega
              refine lv_icmp_ge (tgt := 157) hx hb dX2_agreeAt_75 (by decide) (fun c14 => ?_) (fun c14 => ?_)
              · have nc14 : lz ≤ i := (nI_leI bd15 bd16).mp (show nI (lz) ≤ nI (i) from c14)
                refine lv_aload_n hx hb dX2_agreeAt_157 rfl (lv_at hl 2 rfl) ?_
                refine zz_get hC hZ 3 rfl zf_X2_9 rfl dX2_agreeAt_158 ?_
                refine lv_iload_n hx hb dX2_agreeAt_161 rfl (lv_at hl 3 rfl) ?_
                refine lv_bipush (v := 60) hx hb dX2_agreeAt_162 (by decide) ?_
                refine lv_imul hx hb dX2_agreeAt_164 ?_
                refine zz_topi (v := nI (a * 60)) (pk_mul _ 60) ?_
                refine lv_iload_n hx hb dX2_agreeAt_165 rfl (lv_at hl 4 rfl) ?_
                refine lv_iadd hx hb dX2_agreeAt_166 ?_
                refine zz_topi (v := nI ((a * 60) + b)) (nI_add _ _) ?_
                refine lv_aload_n hx hb dX2_agreeAt_167 rfl (lv_at hl 2 rfl) ?_
                refine zz_get hC hZ 3 rfl zf_X2_25 rfl dX2_agreeAt_168 ?_
                refine zz_iastn hC hZ 0 rfl bd4 (by decide) dX2_agreeAt_171 (fun H locs hZ => ?_)
                have hZ : zz_Z g A s.heap [cw_i g l_ag 3600 (upd ag1 ((a * 60) + b) (nI n)), cw_i g sa 60 saf, cw_l g bt 4000 btf, cw_k1 lk st (nI n) l_ag l_dg l_ds, cw_k5 st (nI na) (nI nu) kd dp cl sa ln bt pn bf, cw_i g kd 60 kdf, cw_i g dp 60 dpf, cw_i g ln 60 lnf] H locs := hZ
                refine lv_iconst (v := 1) hx hb dX2_agreeAt_172 (by decide) ?_
                have hZ : zz_Z g A s.heap [cw_k1 lk st (nI n) l_ag l_dg l_ds, cw_i g l_ag 3600 (upd ag1 ((a * 60) + b) (nI n)), cw_k5 st (nI na) (nI nu) kd dp cl sa ln bt pn bf, cw_i g kd 60 kdf, cw_i g dp 60 dpf, cw_i g sa 60 saf, cw_i g ln 60 lnf, cw_l g bt 4000 btf] H locs := hZ.sub [3, 0, 4, 5, 6, 1, 7, 2] (by decide +kernel) rfl
                exact zz_zret hC hZ (by decide) (⟨(upd ag1 ((a * 60) + b) (nI n)), (zl_bT (hU.mpr ⟨hsh.1, hsh.2.1, hsh.2.2, fun j hj => he1 j (by omega)⟩)).symm, hm1.set (by omega) h_a.2 (hU.mpr ⟨hsh.1, hsh.2.1, hsh.2.2, fun j hj => he1 j (by omega)⟩), hr1.set, rfl⟩) (Nat.le_of_ble_eq_true rfl) (Nat.le_of_ble_eq_true rfl) dX2_agreeAt_173
              · have nc14 : ¬ lz ≤ i := fun zq => c14 (show nI (lz) ≤ nI (i) from (nI_leI bd15 bd16).mpr zq)
                refine lv_aload_n hx hb dX2_agreeAt_78 rfl (lv_at hl 2 rfl) ?_
                refine zz_get hC hZ 3 rfl zf_X2_21 rfl dX2_agreeAt_79 ?_
                refine zz_get hC hZ 4 rfl zf_X2_45 rfl dX2_agreeAt_82 ?_
                refine lv_aload_n hx hb dX2_agreeAt_85 rfl (lv_at hl 2 rfl) ?_
                refine zz_get hC hZ 3 rfl zf_X2_21 rfl dX2_agreeAt_86 ?_
                refine zz_get hC hZ 4 rfl zf_X2_49 rfl dX2_agreeAt_89 ?_
                refine lv_iload_n hx hb dX2_agreeAt_92 rfl (lv_at hl 3 rfl) ?_
                refine zz_ialdn hC hZ 1 rfl bd10 (by decide) dX2_agreeAt_93 ?_
                refine zz_topi (v := nI sz) (es) ?_
                refine lv_iload hx hb dX2_agreeAt_94 (lv_at hl 0 rfl) ?_
                refine lv_iadd hx hb dX2_agreeAt_96 ?_
                refine zz_topi (v := nI (sz + i)) (nI_add _ _) ?_
                have bd17 : (sz + i) < 4000 := by omega
                refine zz_laldn hC hZ 2 rfl bd17 (by decide) dX2_agreeAt_97 ?_
                refine lv_lstore (lv' := [(6, .long (btf (sz + i))), (5, .int (nI i)), (4, .int 0), (0, .ref lk), (1, .int (nI a)), (2, .int (nI b)), (3, .int 2)]) hx hb dX2_agreeAt_98 hl (by decide) rfl (fun ls hl => ?_)
                refine lv_aload_n hx hb dX2_agreeAt_100 rfl (lv_at hl 3 rfl) ?_
                refine zz_get hC hZ 3 rfl zf_X2_21 rfl dX2_agreeAt_101 ?_
                refine zz_get hC hZ 4 rfl zf_X2_45 rfl dX2_agreeAt_104 ?_
                refine lv_aload_n hx hb dX2_agreeAt_107 rfl (lv_at hl 3 rfl) ?_
                refine zz_get hC hZ 3 rfl zf_X2_21 rfl dX2_agreeAt_108 ?_
                refine zz_get hC hZ 4 rfl zf_X2_49 rfl dX2_agreeAt_111 ?_
                refine lv_iload_n hx hb dX2_agreeAt_114 rfl (lv_at hl 5 rfl) ?_
                have bd18 : b < 60 := by omega
                refine zz_ialdn hC hZ 1 rfl bd18 (by decide) dX2_agreeAt_115 ?_
                refine zz_topi (v := nI szb) (esb) ?_
                refine lv_iload hx hb dX2_agreeAt_116 (lv_at hl 1 rfl) ?_
                refine lv_iadd hx hb dX2_agreeAt_118 ?_
                refine zz_topi (v := nI (szb + i)) (nI_add _ _) ?_
                have bd19 : (szb + i) < 4000 := by omega
                refine zz_laldn hC hZ 2 rfl bd19 (by decide) dX2_agreeAt_119 ?_
                refine lv_lstore (lv' := [(8, .long (btf (szb + i))), (6, .long (btf (sz + i))), (5, .int (nI i)), (4, .int 0), (0, .ref lk), (1, .int (nI a)), (2, .int (nI b)), (3, .int 2)]) hx hb dX2_agreeAt_120 hl (by decide) rfl (fun ls hl => ?_)
                refine lv_lload hx hb dX2_agreeAt_122 (lv_at hl 1 rfl) ?_
                refine lv_lload hx hb dX2_agreeAt_124 (lv_at hl 0 rfl) ?_
                refine zz_lcmp_eq (tgt := 151) hC dX2_agreeAt_126 dX2_agreeAt_127 (by decide) (fun c20 => ?_) (fun c20 => ?_)
                · refine lv_iinc (v := nI (i + 1)) (lv' := [(5, .int (nI (i + 1))), (8, .long (btf (szb + i))), (6, .long (btf (sz + i))), (4, .int 0), (0, .ref lk), (1, .int (nI a)), (2, .int (nI b)), (3, .int 2)]) hx hb dX2_agreeAt_151 hl (k := 2) rfl (nI_1 _) (by decide) rfl (fun ls hl => ?_)
                  refine lv_goto (tgt := 64) hx hb dX2_agreeAt_154 (by decide) ?_
                  exact ih (i + 1) ag1 H locs ls (by omega) (zl_upto he1 (zl_seE es esb (by omega) (by omega) c20)) (hm1) (hr1) (by omega) hZ (lv_sub hl [0, 3, 4, 5, 6, 7] rfl)
                · refine lv_iload hx hb dX2_agreeAt_130 (lv_at hl 3 rfl) ?_
                  refine lv_if_ne (tgt := 149) hx hb dX2_agreeAt_132 (by decide) (fun c => absurd (by decide) c) (fun c21 => ?_)
                  have hkv : ∀ x dr : Nat, x < na → (btf (sz + i)).toInt32 = nI x → dpf x = nI dr → dr ≤ 4 → dr + 3 ≤ 5 := fun x dr hx ex e1 e2 => by have := zl_row h_M h_a.1 es el ed (by omega) (by omega) (by omega) (zl_gt1 g3 c11) (show i < lz by omega) hx ex dr e1 e2; omega
                  refine lv_aload_n hx hb dX2_agreeAt_135 rfl (lv_at hl 4 rfl) ?_
                  refine lv_lload hx hb dX2_agreeAt_136 (lv_at hl 1 rfl) ?_
                  refine lv_l2i hx hb dX2_agreeAt_138 rfl ?_
                  refine lv_lload hx hb dX2_agreeAt_139 (lv_at hl 0 rfl) ?_
                  refine lv_l2i hx hb dX2_agreeAt_141 rfl ?_
                  refine lv_iload_n hx hb dX2_agreeAt_142 rfl (lv_at hl 7 rfl) ?_
                  refine zz_iV (As := [.int ((btf (sz + i)).toInt32), .int ((btf (szb + i)).toInt32), .int 2]) (wc := [cw_k1 lk st (nI n) l_ag l_dg l_ds, cw_i g l_ag 3600 ag1, cw_k5 st (nI na) (nI nu) kd dp cl sa ln bt pn bf, cw_i g kd 60 kdf, cw_i g dp 60 dpf, cw_i g sa 60 saf, cw_i g ln 60 lnf, cw_l g bt 4000 btf]) (wr := []) (rest := []) hC hZ hs hl zc_X2_52 (co_rws2 g lk l_ag l_dg l_ds st kd dp cl sa ln bt pn bf na nu n kdf dpf saf lnf btf ag1 ((btf (sz + i)).toInt32) ((btf (szb + i)).toInt32) (h_M) (hkv) (hm1) (hr1)) [3, 0, 4, 5, 6, 1, 7, 2] [] rfl rfl (by decide +kernel) (ci := 1) (q0 := 0) rfl rfl rfl rfl (Nat.le_of_ble_eq_true rfl) ⟨⟨Nat.le_of_ble_eq_true rfl, Nat.le_of_ble_eq_true rfl⟩, Nat.le_of_ble_eq_true rfl, Nat.le_of_ble_eq_true rfl⟩ dX2_agreeAt_143 (fun r22 u23 H locs hp hZ => ?_)
                  obtain ⟨ag2_24, f25, f26, f27, rfl⟩ := hp
                  have hZ : zz_Z g A s.heap [cw_k1 lk st (nI n) l_ag l_dg l_ds, cw_i g l_ag 3600 ag2_24, cw_k5 st (nI na) (nI nu) kd dp cl sa ln bt pn bf, cw_i g kd 60 kdf, cw_i g dp 60 dpf, cw_i g sa 60 saf, cw_i g ln 60 lnf, cw_l g bt 4000 btf] H locs := hZ
                  refine lv_if_ne (tgt := 151) hx hb dX2_agreeAt_146 (by decide) (fun c28 => ?_) (fun c28 => ?_)
                  · refine lv_iinc (v := nI (i + 1)) (lv' := [(5, .int (nI (i + 1))), (8, .long (btf (szb + i))), (6, .long (btf (sz + i))), (4, .int 0), (0, .ref lk), (1, .int (nI a)), (2, .int (nI b)), (3, .int 2)]) hx hb dX2_agreeAt_151 hl (k := 2) rfl (nI_1 _) (by decide) rfl (fun ls hl => ?_)
                    refine lv_goto (tgt := 64) hx hb dX2_agreeAt_154 (by decide) ?_
                    exact ih (i + 1) ag2_24 H locs ls (by omega) (zl_upto he1 (zl_seR es esb (by omega) (by omega) (zl_d4 ed c11) (zl_bP f25 c28))) (f26) (f27) (by omega) (hZ.sub [1, 5, 7, 0, 2, 3, 4, 6] (by decide +kernel) rfl) (lv_sub hl [0, 3, 4, 5, 6, 7] rfl)
                  · refine lv_iconst (v := 0) hx hb dX2_agreeAt_149 (by decide) ?_
                    exact zz_zret hC hZ (by decide) (⟨ag2_24, (zl_bF (fun z => zl_seN es esb (by omega) (by omega) c20 (Or.inr (zl_bN f25 c28)) ((hU.mp z).2.2.2 i (by omega)))).symm, f26, f27, rfl⟩) (Nat.le_of_ble_eq_true rfl) (Nat.le_of_ble_eq_true rfl) dX2_agreeAt_150
          exact LP13 _ 0 agf H locs ls (by omega) (fun j hj => absurd hj (Nat.not_lt_zero j)) (h_m) (h_q) (Nat.lt_succ_self _) hZ (lv_sub hl [0, 1, 2, 3, 4, 5] rfl)
        · have nc11 : dz = 1 := (nI_eq bd12 (by decide)).mp (show nI (dz) = nI (1) from c11)
          refine lv_iconst (v := 1) hx hb dX2_agreeAt_54 (by decide) ?_
          refine lv_goto (tgt := 59) hx hb dX2_agreeAt_55 (by decide) ?_
          refine lv_istore (lv' := [(4, .int 1), (0, .ref lk), (1, .int (nI a)), (2, .int (nI b)), (3, .int 2)]) hx hb dX2_agreeAt_59 hl (by decide) rfl (fun ls hl => ?_)
          refine lv_iconst (v := 0) hx hb dX2_agreeAt_61 (by decide) ?_
          refine lv_istore (lv' := [(5, .int 0), (4, .int 1), (0, .ref lk), (1, .int (nI a)), (2, .int (nI b)), (3, .int 2)]) hx hb dX2_agreeAt_62 hl (by decide) rfl (fun ls hl => ?_)
          have LP29 : ∀ (N : Nat) (i : Nat) (ag1 : Nat → Int32) (H : Heap) (locs : List Loc) (ls : Array Slot), (i ≤ lz) → (∀ j, j < i → sp_se na kdf dpf saf lnf btf a b j) → (zz_AM na (sp_sS na kdf dpf saf lnf btf) n ag1) → (zz_RB n ag1) → (lz - i) < N → zz_Z g A s.heap [cw_i g l_ag 3600 ag1, cw_i g sa 60 saf, cw_l g bt 4000 btf, cw_k1 lk st (nI n) l_ag l_dg l_ds, cw_k5 st (nI na) (nI nu) kd dp cl sa ln bt pn bf, cw_i g kd 60 kdf, cw_i g dp 60 dpf, cw_i g ln 60 lnf] H locs → lv_has ls 10 [(5, .int (nI i)), (4, .int 1), (0, .ref lk), (1, .int (nI a)), (2, .int (nI b)), (3, .int 2)] → W p l e rm_co_agr2 s m args below meth c H locs 0 0 (zz_QI below g args s A rm_co_agr2.cells rm_co_agr2.slots (po_co_agr2 g lk l_ag l_dg l_ds st kd dp cl sa ln bt pn bf na nu n kdf dpf saf lnf btf agf a b h_M h_a h_v h_m h_q)) (F0 m 64 ls []) := by
            intro N
            induction N with
            | zero =>
              intro i ag1 H locs ls hi he1 hm1 hr1 hN
              exact absurd hN (Nat.not_lt_zero _)
            | succ N ih =>
              intro i ag1 H locs ls hi he1 hm1 hr1 hN hZ hl
              refine lv_iload hx hb dX2_agreeAt_64 (lv_at hl 0 rfl) ?_
              refine lv_aload_n hx hb dX2_agreeAt_66 rfl (lv_at hl 2 rfl) ?_
              refine zz_get hC hZ 3 rfl zf_X2_21 rfl dX2_agreeAt_67 ?_
              refine zz_get hC hZ 4 rfl zf_X2_42 rfl dX2_agreeAt_70 ?_
              refine lv_iload_n hx hb dX2_agreeAt_73 rfl (lv_at hl 3 rfl) ?_
              refine zz_ialdn hC hZ 7 rfl bd10 (by decide) dX2_agreeAt_74 ?_
              refine zz_topi (v := nI lz) (el) ?_
              have bd31 : lz < 2 ^ 31 := by omega
              have bd32 : i < 2 ^ 31 := by omega
              refine lv_icmp_ge (tgt := 157) hx hb dX2_agreeAt_75 (by decide) (fun c30 => ?_) (fun c30 => ?_)
              · have nc30 : lz ≤ i := (nI_leI bd31 bd32).mp (show nI (lz) ≤ nI (i) from c30)
                refine lv_aload_n hx hb dX2_agreeAt_157 rfl (lv_at hl 2 rfl) ?_
                refine zz_get hC hZ 3 rfl zf_X2_9 rfl dX2_agreeAt_158 ?_
                refine lv_iload_n hx hb dX2_agreeAt_161 rfl (lv_at hl 3 rfl) ?_
                refine lv_bipush (v := 60) hx hb dX2_agreeAt_162 (by decide) ?_
                refine lv_imul hx hb dX2_agreeAt_164 ?_
                refine zz_topi (v := nI (a * 60)) (pk_mul _ 60) ?_
                refine lv_iload_n hx hb dX2_agreeAt_165 rfl (lv_at hl 4 rfl) ?_
                refine lv_iadd hx hb dX2_agreeAt_166 ?_
                refine zz_topi (v := nI ((a * 60) + b)) (nI_add _ _) ?_
                refine lv_aload_n hx hb dX2_agreeAt_167 rfl (lv_at hl 2 rfl) ?_
                refine zz_get hC hZ 3 rfl zf_X2_25 rfl dX2_agreeAt_168 ?_
                refine zz_iastn hC hZ 0 rfl bd4 (by decide) dX2_agreeAt_171 (fun H locs hZ => ?_)
                have hZ : zz_Z g A s.heap [cw_i g l_ag 3600 (upd ag1 ((a * 60) + b) (nI n)), cw_i g sa 60 saf, cw_l g bt 4000 btf, cw_k1 lk st (nI n) l_ag l_dg l_ds, cw_k5 st (nI na) (nI nu) kd dp cl sa ln bt pn bf, cw_i g kd 60 kdf, cw_i g dp 60 dpf, cw_i g ln 60 lnf] H locs := hZ
                refine lv_iconst (v := 1) hx hb dX2_agreeAt_172 (by decide) ?_
                have hZ : zz_Z g A s.heap [cw_k1 lk st (nI n) l_ag l_dg l_ds, cw_i g l_ag 3600 (upd ag1 ((a * 60) + b) (nI n)), cw_k5 st (nI na) (nI nu) kd dp cl sa ln bt pn bf, cw_i g kd 60 kdf, cw_i g dp 60 dpf, cw_i g sa 60 saf, cw_i g ln 60 lnf, cw_l g bt 4000 btf] H locs := hZ.sub [3, 0, 4, 5, 6, 1, 7, 2] (by decide +kernel) rfl
                exact zz_zret hC hZ (by decide) (⟨(upd ag1 ((a * 60) + b) (nI n)), (zl_bT (hU.mpr ⟨hsh.1, hsh.2.1, hsh.2.2, fun j hj => he1 j (by omega)⟩)).symm, hm1.set (by omega) h_a.2 (hU.mpr ⟨hsh.1, hsh.2.1, hsh.2.2, fun j hj => he1 j (by omega)⟩), hr1.set, rfl⟩) (Nat.le_of_ble_eq_true rfl) (Nat.le_of_ble_eq_true rfl) dX2_agreeAt_173
              · have nc30 : ¬ lz ≤ i := fun zq => c30 (show nI (lz) ≤ nI (i) from (nI_leI bd31 bd32).mpr zq)
                refine lv_aload_n hx hb dX2_agreeAt_78 rfl (lv_at hl 2 rfl) ?_
                refine zz_get hC hZ 3 rfl zf_X2_21 rfl dX2_agreeAt_79 ?_
                refine zz_get hC hZ 4 rfl zf_X2_45 rfl dX2_agreeAt_82 ?_
                refine lv_aload_n hx hb dX2_agreeAt_85 rfl (lv_at hl 2 rfl) ?_
                refine zz_get hC hZ 3 rfl zf_X2_21 rfl dX2_agreeAt_86 ?_
                refine zz_get hC hZ 4 rfl zf_X2_49 rfl dX2_agreeAt_89 ?_
                refine lv_iload_n hx hb dX2_agreeAt_92 rfl (lv_at hl 3 rfl) ?_
                refine zz_ialdn hC hZ 1 rfl bd10 (by decide) dX2_agreeAt_93 ?_
                refine zz_topi (v := nI sz) (es) ?_
                refine lv_iload hx hb dX2_agreeAt_94 (lv_at hl 0 rfl) ?_
                refine lv_iadd hx hb dX2_agreeAt_96 ?_
                refine zz_topi (v := nI (sz + i)) (nI_add _ _) ?_
                have bd33 : (sz + i) < 4000 := by omega
                refine zz_laldn hC hZ 2 rfl bd33 (by decide) dX2_agreeAt_97 ?_
                refine lv_lstore (lv' := [(6, .long (btf (sz + i))), (5, .int (nI i)), (4, .int 1), (0, .ref lk), (1, .int (nI a)), (2, .int (nI b)), (3, .int 2)]) hx hb dX2_agreeAt_98 hl (by decide) rfl (fun ls hl => ?_)
                refine lv_aload_n hx hb dX2_agreeAt_100 rfl (lv_at hl 3 rfl) ?_
                refine zz_get hC hZ 3 rfl zf_X2_21 rfl dX2_agreeAt_101 ?_
                refine zz_get hC hZ 4 rfl zf_X2_45 rfl dX2_agreeAt_104 ?_
                refine lv_aload_n hx hb dX2_agreeAt_107 rfl (lv_at hl 3 rfl) ?_
                refine zz_get hC hZ 3 rfl zf_X2_21 rfl dX2_agreeAt_108 ?_
                refine zz_get hC hZ 4 rfl zf_X2_49 rfl dX2_agreeAt_111 ?_
                refine lv_iload_n hx hb dX2_agreeAt_114 rfl (lv_at hl 5 rfl) ?_
                have bd34 : b < 60 := by omega
                refine zz_ialdn hC hZ 1 rfl bd34 (by decide) dX2_agreeAt_115 ?_
                refine zz_topi (v := nI szb) (esb) ?_
                refine lv_iload hx hb dX2_agreeAt_116 (lv_at hl 1 rfl) ?_
                refine lv_iadd hx hb dX2_agreeAt_118 ?_
                refine zz_topi (v := nI (szb + i)) (nI_add _ _) ?_
                have bd35 : (szb + i) < 4000 := by omega
                refine zz_laldn hC hZ 2 rfl bd35 (by decide) dX2_agreeAt_119 ?_
                refine lv_lstore (lv' := [(8, .long (btf (szb + i))), (6, .long (btf (sz + i))), (5, .int (nI i)), (4, .int 1), (0, .ref lk), (1, .int (nI a)), (2, .int (nI b)), (3, .int 2)]) hx hb dX2_agreeAt_120 hl (by decide) rfl (fun ls hl => ?_)
                refine lv_lload hx hb dX2_agreeAt_122 (lv_at hl 1 rfl) ?_
                refine lv_lload hx hb dX2_agreeAt_124 (lv_at hl 0 rfl) ?_
                refine zz_lcmp_eq (tgt := 151) hC dX2_agreeAt_126 dX2_agreeAt_127 (by decide) (fun c36 => ?_) (fun c36 => ?_)
                · refine lv_iinc (v := nI (i + 1)) (lv' := [(5, .int (nI (i + 1))), (8, .long (btf (szb + i))), (6, .long (btf (sz + i))), (4, .int 1), (0, .ref lk), (1, .int (nI a)), (2, .int (nI b)), (3, .int 2)]) hx hb dX2_agreeAt_151 hl (k := 2) rfl (nI_1 _) (by decide) rfl (fun ls hl => ?_)
                  refine lv_goto (tgt := 64) hx hb dX2_agreeAt_154 (by decide) ?_
                  exact ih (i + 1) ag1 H locs ls (by omega) (zl_upto he1 (zl_seE es esb (by omega) (by omega) c36)) (hm1) (hr1) (by omega) hZ (lv_sub hl [0, 3, 4, 5, 6, 7] rfl)
                · refine lv_iload hx hb dX2_agreeAt_130 (lv_at hl 3 rfl) ?_
                  refine lv_if_ne (tgt := 149) hx hb dX2_agreeAt_132 (by decide) (fun c37 => ?_) (fun c => absurd c (by decide))
                  refine lv_iconst (v := 0) hx hb dX2_agreeAt_149 (by decide) ?_
                  have hZ : zz_Z g A s.heap [cw_k1 lk st (nI n) l_ag l_dg l_ds, cw_i g l_ag 3600 ag1, cw_k5 st (nI na) (nI nu) kd dp cl sa ln bt pn bf, cw_i g kd 60 kdf, cw_i g dp 60 dpf, cw_i g sa 60 saf, cw_i g ln 60 lnf, cw_l g bt 4000 btf] H locs := hZ.sub [3, 0, 4, 5, 6, 1, 7, 2] (by decide +kernel) rfl
                  exact zz_zret hC hZ (by decide) (⟨ag1, (zl_bF (fun z => zl_seN es esb (by omega) (by omega) c36 (Or.inl (zl_d3 ed c11)) ((hU.mp z).2.2.2 i (by omega)))).symm, hm1, hr1, rfl⟩) (Nat.le_of_ble_eq_true rfl) (Nat.le_of_ble_eq_true rfl) dX2_agreeAt_150
          exact LP29 _ 0 agf H locs ls (by omega) (fun j hj => absurd hj (Nat.not_lt_zero j)) (h_m) (h_q) (Nat.lt_succ_self _) hZ (lv_sub hl [0, 1, 2, 3, 4, 5] rfl)
      · refine lv_iconst (v := 0) hx hb dX2_agreeAt_39 (by decide) ?_
        have hZ : zz_Z g A s.heap [cw_k1 lk st (nI n) l_ag l_dg l_ds, cw_i g l_ag 3600 agf, cw_k5 st (nI na) (nI nu) kd dp cl sa ln bt pn bf, cw_i g kd 60 kdf, cw_i g dp 60 dpf, cw_i g sa 60 saf, cw_i g ln 60 lnf, cw_l g bt 4000 btf] H locs := hZ.sub [3, 0, 4, 5, 6, 1, 7, 2] (by decide +kernel) rfl
        exact zz_zret hC hZ (by decide) (⟨agf, (zl_bF (fun z => zl_shq c9 ⟨(hU.mp z).1, (hU.mp z).2.1, (hU.mp z).2.2.1⟩)).symm, h_m, h_q, rfl⟩) (Nat.le_of_ble_eq_true rfl) (Nat.le_of_ble_eq_true rfl) dX2_agreeAt_40
    · refine lv_iconst (v := 1) hx hb dX2_agreeAt_23 (by decide) ?_
      exact zz_zret hC hZ (by decide) (⟨agf, (zl_bT (h_m a b h_a.1 h_a.2 c5)).symm, h_m, h_q, rfl⟩) (Nat.le_of_ble_eq_true rfl) (Nat.le_of_ble_eq_true rfl) dX2_agreeAt_24
abbrev rm_co_rws1 : Room := { frames := 7, cells := 0, slots := 0, locals := 185 }
abbrev po_co_rws1 (g : zz_G) (lk : Nat) (l_ag : Nat) (l_dg : Nat) (l_ds : Nat) (st : Nat) (kd : Nat) (dp : Nat) (cl : Nat) (sa : Nat) (ln : Nat) (bt : Nat) (pn : Nat) (bf : Nat) (na : Nat) (nu : Nat) (n : Nat) (kdf : Nat → Int32) (dpf : Nat → Int32) (saf : Nat → Int32) (lnf : Nat → Int32) (btf : Nat → Int64) (agf : Nat → Int32) (k : Int32) (j : Int32) (h_M : zz_MI na nu dpf saf lnf btf) (h_v : ∀ x dr : Nat, x < na → k = nI x → dpf x = nI dr → dr ≤ 4 → dr + 2 ≤ 5) (h_m : zz_AM na (sp_sS na kdf dpf saf lnf btf) n agf) (h_q : zz_RB n agf) : Int32 → va_W → Prop := fun (r : Int32) (u : va_W) => ∃ (ag2 : Nat → Int32), (r = sp_b (sp_sr na kdf dpf saf lnf btf k j)) ∧ (zz_AM na (sp_sS na kdf dpf saf lnf btf) n ag2) ∧ (zz_RB n ag2) ∧ u = [cw_k1 lk st (nI n) l_ag l_dg l_ds, cw_i g l_ag 3600 ag2, cw_k5 st (nI na) (nI nu) kd dp cl sa ln bt pn bf, cw_i g kd 60 kdf, cw_i g dp 60 dpf, cw_i g sa 60 saf, cw_i g ln 60 lnf, cw_l g bt 4000 btf]
set_option maxHeartbeats 4000000 in
set_option maxRecDepth 100000 in
theorem co_rws1 (g : zz_G) (lk : Nat) (l_ag : Nat) (l_dg : Nat) (l_ds : Nat) (st : Nat) (kd : Nat) (dp : Nat) (cl : Nat) (sa : Nat) (ln : Nat) (bt : Nat) (pn : Nat) (bf : Nat) (na : Nat) (nu : Nat) (n : Nat) (kdf : Nat → Int32) (dpf : Nat → Int32) (saf : Nat → Int32) (lnf : Nat → Int32) (btf : Nat → Int64) (agf : Nat → Int32) (k : Int32) (j : Int32) (h_M : zz_MI na nu dpf saf lnf btf) (h_v : ∀ x dr : Nat, x < na → k = nI x → dpf x = nI dr → dr ≤ 4 → dr + 2 ≤ 5) (h_m : zz_AM na (sp_sS na kdf dpf saf lnf btf) n agf) (h_q : zz_RB n agf) : zz_I g yX2_rowsAgree (.code yX2_rowsAgree cX2_rowsAgree 4 (some .boolean)) rm_co_rws1 [.ref lk, .int k, .int j, .int 1] [cw_k1 lk st (nI n) l_ag l_dg l_ds, cw_i g l_ag 3600 agf, cw_k5 st (nI na) (nI nu) kd dp cl sa ln bt pn bf, cw_i g kd 60 kdf, cw_i g dp 60 dpf, cw_i g sa 60 saf, cw_i g ln 60 lnf, cw_l g bt 4000 btf] (po_co_rws1 g lk l_ag l_dg l_ds st kd dp cl sa ln bt pn bf na nu n kdf dpf saf lnf btf agf k j h_M h_v h_m h_q) := by
  refine zz_I.intro (own := RX2) (cc := cX2_rowsAgree) (nL := 4) (by decide) rfl (Nat.le_of_ble_eq_true rfl) ?_
  intro p l e s m args below meth c A H locs ls hC hnm hs hZ hl
  obtain ⟨hx, hb, hml, hown, hts, hr, hlocks, hK⟩ := id hC
  have hl : lv_has ls 4 [(0, .ref lk), (1, .int k), (2, .int j), (3, .int 1)] := hl
  have hZ : zz_Z g A s.heap [cw_k1 lk st (nI n) l_ag l_dg l_ds, cw_i g l_ag 3600 agf, cw_k5 st (nI na) (nI nu) kd dp cl sa ln bt pn bf, cw_i g kd 60 kdf, cw_i g dp 60 dpf, cw_i g sa 60 saf, cw_i g ln 60 lnf, cw_l g bt 4000 btf] H locs := hZ
  have h_S := h_M.1
  have hna := h_S.1
  have hnu := h_S.2.1
  refine lv_aload_n hx hb dX2_rowsAgree_0 rfl (lv_at hl 0 rfl) ?_
  refine zz_get hC hZ 0 rfl zf_X2_21 rfl dX2_rowsAgree_1 ?_
  refine lv_iload_n hx hb dX2_rowsAgree_4 rfl (lv_at hl 1 rfl) ?_
  refine zz_iV (As := [.int k]) (wc := [cw_k5 st (nI na) (nI nu) kd dp cl sa ln bt pn bf]) (wr := [cw_k1 lk st (nI n) l_ag l_dg l_ds, cw_i g l_ag 3600 agf, cw_i g kd 60 kdf, cw_i g dp 60 dpf, cw_i g sa 60 saf, cw_i g ln 60 lnf, cw_l g bt 4000 btf]) (rest := []) hC hZ hs hl zc_X2_55 (co_has g st kd dp cl sa ln bt pn bf (nI na) (nI nu) k) [2] [0, 1, 3, 4, 5, 6, 7] rfl rfl (by decide +kernel) (ci := 5) (q0 := 0) rfl rfl rfl rfl (Nat.le_of_ble_eq_true rfl) ⟨⟨Nat.le_of_ble_eq_true rfl, Nat.le_of_ble_eq_true rfl⟩, Nat.le_of_ble_eq_true rfl, Nat.le_of_ble_eq_true rfl⟩ dX2_rowsAgree_5 (fun r1 u2 H locs hp hZ => ?_)
  obtain ⟨rfl, rfl⟩ := hp
  have hZ : zz_Z g A s.heap [cw_k1 lk st (nI n) l_ag l_dg l_ds, cw_i g l_ag 3600 agf, cw_i g kd 60 kdf, cw_i g dp 60 dpf, cw_i g sa 60 saf, cw_i g ln 60 lnf, cw_l g bt 4000 btf, cw_k5 st (nI na) (nI nu) kd dp cl sa ln bt pn bf] H locs := hZ
  refine lv_if_eq (tgt := 38) hx hb dX2_rowsAgree_8 (by decide) (fun c3 => ?_) (fun c3 => ?_)
  · refine lv_iconst (v := 0) hx hb dX2_rowsAgree_38 (by decide) ?_
    have hZ : zz_Z g A s.heap [cw_k1 lk st (nI n) l_ag l_dg l_ds, cw_i g l_ag 3600 agf, cw_k5 st (nI na) (nI nu) kd dp cl sa ln bt pn bf, cw_i g kd 60 kdf, cw_i g dp 60 dpf, cw_i g sa 60 saf, cw_i g ln 60 lnf, cw_l g bt 4000 btf] H locs := hZ.sub [0, 1, 7, 2, 3, 4, 5, 6] (by decide +kernel) rfl
    exact zz_zret hC hZ (by decide) (⟨agf, (zl_bF (zl_srK (by omega) c3)).symm, h_m, h_q, rfl⟩) (Nat.le_of_ble_eq_true rfl) (Nat.le_of_ble_eq_true rfl) dX2_rowsAgree_39
  · obtain ⟨a2, ha2, ea2⟩ := zl_has (by omega) c3
    have hl : lv_has ls 4 [(0, .ref lk), (1, .int (nI a2)), (2, .int j), (3, .int 1)] := by rw [← ea2]; exact hl
    have hkv : ∀ dr : Nat, dpf a2 = nI dr → dr ≤ 4 → dr + 2 ≤ 5 := fun dr e1 e2 => h_v a2 dr ha2 ea2 e1 e2
    refine lv_aload_n hx hb dX2_rowsAgree_11 rfl (lv_at hl 0 rfl) ?_
    refine zz_get hC hZ 0 rfl zf_X2_21 rfl dX2_rowsAgree_12 ?_
    refine lv_iload_n hx hb dX2_rowsAgree_15 rfl (lv_at hl 2 rfl) ?_
    refine zz_iV (As := [.int j]) (wc := [cw_k5 st (nI na) (nI nu) kd dp cl sa ln bt pn bf]) (wr := [cw_k1 lk st (nI n) l_ag l_dg l_ds, cw_i g l_ag 3600 agf, cw_i g kd 60 kdf, cw_i g dp 60 dpf, cw_i g sa 60 saf, cw_i g ln 60 lnf, cw_l g bt 4000 btf]) (rest := []) hC hZ hs hl zc_X2_55 (co_has g st kd dp cl sa ln bt pn bf (nI na) (nI nu) j) [7] [0, 1, 2, 3, 4, 5, 6] rfl rfl (by decide +kernel) (ci := 5) (q0 := 0) rfl rfl rfl rfl (Nat.le_of_ble_eq_true rfl) ⟨⟨Nat.le_of_ble_eq_true rfl, Nat.le_of_ble_eq_true rfl⟩, Nat.le_of_ble_eq_true rfl, Nat.le_of_ble_eq_true rfl⟩ dX2_rowsAgree_16 (fun r4 u5 H locs hp hZ => ?_)
    obtain ⟨rfl, rfl⟩ := hp
    have hZ : zz_Z g A s.heap [cw_k1 lk st (nI n) l_ag l_dg l_ds, cw_i g l_ag 3600 agf, cw_i g kd 60 kdf, cw_i g dp 60 dpf, cw_i g sa 60 saf, cw_i g ln 60 lnf, cw_l g bt 4000 btf, cw_k5 st (nI na) (nI nu) kd dp cl sa ln bt pn bf] H locs := hZ
    refine lv_if_eq (tgt := 38) hx hb dX2_rowsAgree_19 (by decide) (fun c6 => ?_) (fun c6 => ?_)
    · refine lv_iconst (v := 0) hx hb dX2_rowsAgree_38 (by decide) ?_
      have hZ : zz_Z g A s.heap [cw_k1 lk st (nI n) l_ag l_dg l_ds, cw_i g l_ag 3600 agf, cw_k5 st (nI na) (nI nu) kd dp cl sa ln bt pn bf, cw_i g kd 60 kdf, cw_i g dp 60 dpf, cw_i g sa 60 saf, cw_i g ln 60 lnf, cw_l g bt 4000 btf] H locs := hZ.sub [0, 1, 7, 2, 3, 4, 5, 6] (by decide +kernel) rfl
      exact zz_zret hC hZ (by decide) (⟨agf, (zl_bF (zl_srJ (by omega) c6)).symm, h_m, h_q, rfl⟩) (Nat.le_of_ble_eq_true rfl) (Nat.le_of_ble_eq_true rfl) dX2_rowsAgree_39
    · obtain ⟨b2, hb2, eb2⟩ := zl_has (by omega) c6
      have hl : lv_has ls 4 [(0, .ref lk), (1, .int (nI a2)), (2, .int (nI b2)), (3, .int 1)] := by rw [← eb2]; exact hl
      refine lv_aload_n hx hb dX2_rowsAgree_22 rfl (lv_at hl 0 rfl) ?_
      refine lv_iload_n hx hb dX2_rowsAgree_23 rfl (lv_at hl 1 rfl) ?_
      refine lv_iload_n hx hb dX2_rowsAgree_24 rfl (lv_at hl 2 rfl) ?_
      refine lv_iload_n hx hb dX2_rowsAgree_25 rfl (lv_at hl 3 rfl) ?_
      refine lv_iconst (v := 1) hx hb dX2_rowsAgree_26 (by decide) ?_
      refine lv_iadd hx hb dX2_rowsAgree_27 ?_
      refine zz_topi (v := 2) (by decide) ?_
      refine zz_iV (As := [.int (nI a2), .int (nI b2), .int 2]) (wc := [cw_k1 lk st (nI n) l_ag l_dg l_ds, cw_i g l_ag 3600 agf, cw_k5 st (nI na) (nI nu) kd dp cl sa ln bt pn bf, cw_i g kd 60 kdf, cw_i g dp 60 dpf, cw_i g sa 60 saf, cw_i g ln 60 lnf, cw_l g bt 4000 btf]) (wr := []) (rest := []) hC hZ hs hl zc_X2_29 (co_agr2 g lk l_ag l_dg l_ds st kd dp cl sa ln bt pn bf na nu n kdf dpf saf lnf btf agf a2 b2 (h_M) (by omega) (hkv) (h_m) (h_q)) [0, 1, 7, 2, 3, 4, 5, 6] [] rfl rfl (by decide +kernel) (ci := 1) (q0 := 0) rfl rfl rfl rfl (Nat.le_of_ble_eq_true rfl) ⟨⟨Nat.le_of_ble_eq_true rfl, Nat.le_of_ble_eq_true rfl⟩, Nat.le_of_ble_eq_true rfl, Nat.le_of_ble_eq_true rfl⟩ dX2_rowsAgree_28 (fun r7 u8 H locs hp hZ => ?_)
      obtain ⟨ag2_9, f10, f11, f12, rfl⟩ := hp
      have hZ : zz_Z g A s.heap [cw_k1 lk st (nI n) l_ag l_dg l_ds, cw_i g l_ag 3600 ag2_9, cw_k5 st (nI na) (nI nu) kd dp cl sa ln bt pn bf, cw_i g kd 60 kdf, cw_i g dp 60 dpf, cw_i g sa 60 saf, cw_i g ln 60 lnf, cw_l g bt 4000 btf] H locs := hZ
      refine lv_if_eq (tgt := 38) hx hb dX2_rowsAgree_31 (by decide) (fun c13 => ?_) (fun c13 => ?_)
      · refine lv_iconst (v := 0) hx hb dX2_rowsAgree_38 (by decide) ?_
        exact zz_zret hC hZ (by decide) (⟨ag2_9, (zl_bF (fun z => zl_bN f10 c13 ((zl_srI ea2 eb2 (by omega) ha2 hb2).mp z))).symm, f11, f12, rfl⟩) (Nat.le_of_ble_eq_true rfl) (Nat.le_of_ble_eq_true rfl) dX2_rowsAgree_39
      · refine lv_iconst (v := 1) hx hb dX2_rowsAgree_34 (by decide) ?_
        refine lv_goto (tgt := 39) hx hb dX2_rowsAgree_35 (by decide) ?_
        exact zz_zret hC hZ (by decide) (⟨ag2_9, (zl_bT ((zl_srI ea2 eb2 (by omega) ha2 hb2).mpr (zl_bP f10 c13))).symm, f11, f12, rfl⟩) (Nat.le_of_ble_eq_true rfl) (Nat.le_of_ble_eq_true rfl) dX2_rowsAgree_39
abbrev rm_co_agr1 : Room := { frames := 8, cells := 0, slots := 0, locals := 208 }
abbrev po_co_agr1 (g : zz_G) (lk : Nat) (l_ag : Nat) (l_dg : Nat) (l_ds : Nat) (st : Nat) (kd : Nat) (dp : Nat) (cl : Nat) (sa : Nat) (ln : Nat) (bt : Nat) (pn : Nat) (bf : Nat) (na : Nat) (nu : Nat) (n : Nat) (kdf : Nat → Int32) (dpf : Nat → Int32) (saf : Nat → Int32) (lnf : Nat → Int32) (btf : Nat → Int64) (agf : Nat → Int32) (a : Nat) (b : Nat) (h_M : zz_MI na nu dpf saf lnf btf) (h_a : a < na ∧ b < na) (h_v : ∀ dr : Nat, dpf a = nI dr → dr ≤ 4 → dr + 1 ≤ 5) (h_m : zz_AM na (sp_sS na kdf dpf saf lnf btf) n agf) (h_q : zz_RB n agf) : Int32 → va_W → Prop := fun (r : Int32) (u : va_W) => ∃ (ag2 : Nat → Int32), (r = sp_b (sp_sS na kdf dpf saf lnf btf a b)) ∧ (zz_AM na (sp_sS na kdf dpf saf lnf btf) n ag2) ∧ (zz_RB n ag2) ∧ u = [cw_k1 lk st (nI n) l_ag l_dg l_ds, cw_i g l_ag 3600 ag2, cw_k5 st (nI na) (nI nu) kd dp cl sa ln bt pn bf, cw_i g kd 60 kdf, cw_i g dp 60 dpf, cw_i g sa 60 saf, cw_i g ln 60 lnf, cw_l g bt 4000 btf]
set_option maxHeartbeats 4000000 in
set_option maxRecDepth 100000 in
theorem co_agr1 (g : zz_G) (lk : Nat) (l_ag : Nat) (l_dg : Nat) (l_ds : Nat) (st : Nat) (kd : Nat) (dp : Nat) (cl : Nat) (sa : Nat) (ln : Nat) (bt : Nat) (pn : Nat) (bf : Nat) (na : Nat) (nu : Nat) (n : Nat) (kdf : Nat → Int32) (dpf : Nat → Int32) (saf : Nat → Int32) (lnf : Nat → Int32) (btf : Nat → Int64) (agf : Nat → Int32) (a : Nat) (b : Nat) (h_M : zz_MI na nu dpf saf lnf btf) (h_a : a < na ∧ b < na) (h_v : ∀ dr : Nat, dpf a = nI dr → dr ≤ 4 → dr + 1 ≤ 5) (h_m : zz_AM na (sp_sS na kdf dpf saf lnf btf) n agf) (h_q : zz_RB n agf) : zz_I g yX2_agreeAt (.code yX2_agreeAt cX2_agreeAt 10 (some .boolean)) rm_co_agr1 [.ref lk, .int (nI a), .int (nI b), .int 1] [cw_k1 lk st (nI n) l_ag l_dg l_ds, cw_i g l_ag 3600 agf, cw_k5 st (nI na) (nI nu) kd dp cl sa ln bt pn bf, cw_i g kd 60 kdf, cw_i g dp 60 dpf, cw_i g sa 60 saf, cw_i g ln 60 lnf, cw_l g bt 4000 btf] (po_co_agr1 g lk l_ag l_dg l_ds st kd dp cl sa ln bt pn bf na nu n kdf dpf saf lnf btf agf a b h_M h_a h_v h_m h_q) := by
  refine zz_I.intro (own := RX2) (cc := cX2_agreeAt) (nL := 10) (by decide) rfl (Nat.le_of_ble_eq_true rfl) ?_
  intro p l e s m args below meth c A H locs ls hC hnm hs hZ hl
  obtain ⟨hx, hb, hml, hown, hts, hr, hlocks, hK⟩ := id hC
  have hl : lv_has ls 10 [(0, .ref lk), (1, .int (nI a)), (2, .int (nI b)), (3, .int 1)] := hl
  have hZ : zz_Z g A s.heap [cw_k1 lk st (nI n) l_ag l_dg l_ds, cw_i g l_ag 3600 agf, cw_k5 st (nI na) (nI nu) kd dp cl sa ln bt pn bf, cw_i g kd 60 kdf, cw_i g dp 60 dpf, cw_i g sa 60 saf, cw_i g ln 60 lnf, cw_l g bt 4000 btf] H locs := hZ
  have h_S := h_M.1
  have hna := h_S.1
  have hnu := h_S.2.1
  obtain ⟨sz, lz, dz, es, el, ed, g1, g2, g3, g4⟩ := h_S.2.2 a h_a.1
  obtain ⟨szb, lzb, dzb, esb, elb, edb, g1b, g2b, g3b, g4b⟩ := h_S.2.2 b h_a.2
  have hv := h_v dz ed (by omega)
  have hU := zl_ssU (kd := kdf) (b := b) h_M h_a.1 es el ed (by omega) (by omega) (by omega) (by omega)
  refine lv_iload_n hx hb dX2_agreeAt_0 rfl (lv_at hl 1 rfl) ?_
  refine lv_iload_n hx hb dX2_agreeAt_1 rfl (lv_at hl 2 rfl) ?_
  have bd2 : a < 2 ^ 31 := by omega
  have bd3 : b < 2 ^ 31 := by omega
  refine lv_icmp_eq (tgt := 23) hx hb dX2_agreeAt_2 (by decide) (fun c1 => ?_) (fun c1 => ?_)
  · have nc1 : a = b := (nI_eq bd2 bd3).mp (show nI (a) = nI (b) from c1)
    refine lv_iconst (v := 1) hx hb dX2_agreeAt_23 (by decide) ?_
    exact zz_zret hC hZ (by decide) (⟨agf, (zl_bT (zl_ssI hU nc1)).symm, h_m, h_q, rfl⟩) (Nat.le_of_ble_eq_true rfl) (Nat.le_of_ble_eq_true rfl) dX2_agreeAt_24
  · have nc1 : ¬ a = b := fun zq => c1 (show nI (a) = nI (b) from (nI_eq bd2 bd3).mpr zq)
    refine lv_aload_n hx hb dX2_agreeAt_5 rfl (lv_at hl 0 rfl) ?_
    refine zz_get hC hZ 0 rfl zf_X2_9 rfl dX2_agreeAt_6 ?_
    refine lv_iload_n hx hb dX2_agreeAt_9 rfl (lv_at hl 1 rfl) ?_
    refine lv_bipush (v := 60) hx hb dX2_agreeAt_10 (by decide) ?_
    refine lv_imul hx hb dX2_agreeAt_12 ?_
    refine zz_topi (v := nI (a * 60)) (pk_mul _ 60) ?_
    refine lv_iload_n hx hb dX2_agreeAt_13 rfl (lv_at hl 2 rfl) ?_
    refine lv_iadd hx hb dX2_agreeAt_14 ?_
    refine zz_topi (v := nI ((a * 60) + b)) (nI_add _ _) ?_
    have bd4 : ((a * 60) + b) < 3600 := by omega
    refine zz_ialdn hC hZ 1 rfl bd4 (by decide) dX2_agreeAt_15 ?_
    refine lv_aload_n hx hb dX2_agreeAt_16 rfl (lv_at hl 0 rfl) ?_
    refine zz_get hC hZ 0 rfl zf_X2_25 rfl dX2_agreeAt_17 ?_
    refine lv_icmp_ne (tgt := 25) hx hb dX2_agreeAt_20 (by decide) (fun c5 => ?_) (fun c5 => ?_)
    · refine lv_iload_n hx hb dX2_agreeAt_25 rfl (lv_at hl 3 rfl) ?_
      refine lv_iconst (v := 4) hx hb dX2_agreeAt_26 (by decide) ?_
      refine lv_icmp_gt (tgt := 39) hx hb dX2_agreeAt_27 (by decide) (fun c => absurd c (by decide)) (fun c6 => ?_)
      refine lv_aload_n hx hb dX2_agreeAt_30 rfl (lv_at hl 0 rfl) ?_
      refine lv_iload_n hx hb dX2_agreeAt_31 rfl (lv_at hl 1 rfl) ?_
      refine lv_iload_n hx hb dX2_agreeAt_32 rfl (lv_at hl 2 rfl) ?_
      refine zz_iV (As := [.int (nI a), .int (nI b)]) (wc := [cw_k1 lk st (nI n) l_ag l_dg l_ds, cw_k5 st (nI na) (nI nu) kd dp cl sa ln bt pn bf, cw_i g kd 60 kdf, cw_i g dp 60 dpf, cw_i g ln 60 lnf]) (wr := [cw_i g l_ag 3600 agf, cw_i g sa 60 saf, cw_l g bt 4000 btf]) (rest := []) hC hZ hs hl zc_X2_33 (co_sameShape g lk l_ag l_dg l_ds st kd dp cl sa ln bt pn bf na nu (nI n) kdf dpf lnf a b (by omega)) [0, 2, 3, 4, 6] [1, 5, 7] rfl rfl (by decide +kernel) (ci := 1) (q0 := 0) rfl rfl rfl rfl (Nat.le_of_ble_eq_true rfl) ⟨⟨Nat.le_of_ble_eq_true rfl, Nat.le_of_ble_eq_true rfl⟩, Nat.le_of_ble_eq_true rfl, Nat.le_of_ble_eq_true rfl⟩ dX2_agreeAt_33 (fun r7 u8 H locs hp hZ => ?_)
      obtain ⟨rfl, rfl⟩ := hp
      have hZ : zz_Z g A s.heap [cw_i g l_ag 3600 agf, cw_i g sa 60 saf, cw_l g bt 4000 btf, cw_k1 lk st (nI n) l_ag l_dg l_ds, cw_k5 st (nI na) (nI nu) kd dp cl sa ln bt pn bf, cw_i g kd 60 kdf, cw_i g dp 60 dpf, cw_i g ln 60 lnf] H locs := hZ
      refine lv_if_ne (tgt := 41) hx hb dX2_agreeAt_36 (by decide) (fun c9 => ?_) (fun c9 => ?_)
      · have hsh := zl_shp c9
        have hlz : lz = lzb := (nI_eq (by omega) (by omega)).mp (el.symm.trans (hsh.2.2.trans elb))
        refine lv_aload_n hx hb dX2_agreeAt_41 rfl (lv_at hl 0 rfl) ?_
        refine zz_get hC hZ 3 rfl zf_X2_21 rfl dX2_agreeAt_42 ?_
        refine zz_get hC hZ 4 rfl zf_X2_37 rfl dX2_agreeAt_45 ?_
        refine lv_iload_n hx hb dX2_agreeAt_48 rfl (lv_at hl 1 rfl) ?_
        have bd10 : a < 60 := by omega
        refine zz_ialdn hC hZ 6 rfl bd10 (by decide) dX2_agreeAt_49 ?_
        refine zz_topi (v := nI dz) (ed) ?_
        refine lv_iconst (v := 1) hx hb dX2_agreeAt_50 (by decide) ?_
        have bd12 : dz < 2 ^ 31 := by omega
        refine lv_icmp_ne (tgt := 58) hx hb dX2_agreeAt_51 (by decide) (fun c11 => ?_) (fun c11 => ?_)
        · have nc11 : ¬ dz = 1 := fun zq => c11 (show nI (dz) = nI (1) from (nI_eq bd12 (by decide)).mpr zq)
          refine lv_iconst (v := 0) hx hb dX2_agreeAt_58 (by decide) ?_
          refine lv_istore (lv' := [(4, .int 0), (0, .ref lk), (1, .int (nI a)), (2, .int (nI b)), (3, .int 1)]) hx hb dX2_agreeAt_59 hl (by decide) rfl (fun ls hl => ?_)
          refine lv_iconst (v := 0) hx hb dX2_agreeAt_61 (by decide) ?_
          refine lv_istore (lv' := [(5, .int 0), (4, .int 0), (0, .ref lk), (1, .int (nI a)), (2, .int (nI b)), (3, .int 1)]) hx hb dX2_agreeAt_62 hl (by decide) rfl (fun ls hl => ?_)
          have LP13 : ∀ (N : Nat) (i : Nat) (ag1 : Nat → Int32) (H : Heap) (locs : List Loc) (ls : Array Slot), (i ≤ lz) → (∀ j, j < i → sp_se na kdf dpf saf lnf btf a b j) → (zz_AM na (sp_sS na kdf dpf saf lnf btf) n ag1) → (zz_RB n ag1) → (lz - i) < N → zz_Z g A s.heap [cw_i g l_ag 3600 ag1, cw_i g sa 60 saf, cw_l g bt 4000 btf, cw_k1 lk st (nI n) l_ag l_dg l_ds, cw_k5 st (nI na) (nI nu) kd dp cl sa ln bt pn bf, cw_i g kd 60 kdf, cw_i g dp 60 dpf, cw_i g ln 60 lnf] H locs → lv_has ls 10 [(5, .int (nI i)), (4, .int 0), (0, .ref lk), (1, .int (nI a)), (2, .int (nI b)), (3, .int 1)] → W p l e rm_co_agr1 s m args below meth c H locs 0 0 (zz_QI below g args s A rm_co_agr1.cells rm_co_agr1.slots (po_co_agr1 g lk l_ag l_dg l_ds st kd dp cl sa ln bt pn bf na nu n kdf dpf saf lnf btf agf a b h_M h_a h_v h_m h_q)) (F0 m 64 ls []) := by
            intro N
            induction N with
            | zero =>
              intro i ag1 H locs ls hi he1 hm1 hr1 hN
              exact absurd hN (Nat.not_lt_zero _)
            | succ N ih =>
              intro i ag1 H locs ls hi he1 hm1 hr1 hN hZ hl
              refine lv_iload hx hb dX2_agreeAt_64 (lv_at hl 0 rfl) ?_
              refine lv_aload_n hx hb dX2_agreeAt_66 rfl (lv_at hl 2 rfl) ?_
              refine zz_get hC hZ 3 rfl zf_X2_21 rfl dX2_agreeAt_67 ?_
              refine zz_get hC hZ 4 rfl zf_X2_42 rfl dX2_agreeAt_70 ?_
              refine lv_iload_n hx hb dX2_agreeAt_73 rfl (lv_at hl 3 rfl) ?_
              refine zz_ialdn hC hZ 7 rfl bd10 (by decide) dX2_agreeAt_74 ?_
              refine zz_topi (v := nI lz) (el) ?_
              have bd15 : lz < 2 ^ 31 := by omega
              have bd16 : i < 2 ^ 31 := by omega
              refine lv_icmp_ge (tgt := 157) hx hb dX2_agreeAt_75 (by decide) (fun c14 => ?_) (fun c14 => ?_)
              · have nc14 : lz ≤ i := (nI_leI bd15 bd16).mp (show nI (lz) ≤ nI (i) from c14)
                refine lv_aload_n hx hb dX2_agreeAt_157 rfl (lv_at hl 2 rfl) ?_
                refine zz_get hC hZ 3 rfl zf_X2_9 rfl dX2_agreeAt_158 ?_
                refine lv_iload_n hx hb dX2_agreeAt_161 rfl (lv_at hl 3 rfl) ?_
                refine lv_bipush (v := 60) hx hb dX2_agreeAt_162 (by decide) ?_
                refine lv_imul hx hb dX2_agreeAt_164 ?_
                refine zz_topi (v := nI (a * 60)) (pk_mul _ 60) ?_
                refine lv_iload_n hx hb dX2_agreeAt_165 rfl (lv_at hl 4 rfl) ?_
                refine lv_iadd hx hb dX2_agreeAt_166 ?_
                refine zz_topi (v := nI ((a * 60) + b)) (nI_add _ _) ?_
                refine lv_aload_n hx hb dX2_agreeAt_167 rfl (lv_at hl 2 rfl) ?_
                refine zz_get hC hZ 3 rfl zf_X2_25 rfl dX2_agreeAt_168 ?_
                refine zz_iastn hC hZ 0 rfl bd4 (by decide) dX2_agreeAt_171 (fun H locs hZ => ?_)
                have hZ : zz_Z g A s.heap [cw_i g l_ag 3600 (upd ag1 ((a * 60) + b) (nI n)), cw_i g sa 60 saf, cw_l g bt 4000 btf, cw_k1 lk st (nI n) l_ag l_dg l_ds, cw_k5 st (nI na) (nI nu) kd dp cl sa ln bt pn bf, cw_i g kd 60 kdf, cw_i g dp 60 dpf, cw_i g ln 60 lnf] H locs := hZ
                refine lv_iconst (v := 1) hx hb dX2_agreeAt_172 (by decide) ?_
                have hZ : zz_Z g A s.heap [cw_k1 lk st (nI n) l_ag l_dg l_ds, cw_i g l_ag 3600 (upd ag1 ((a * 60) + b) (nI n)), cw_k5 st (nI na) (nI nu) kd dp cl sa ln bt pn bf, cw_i g kd 60 kdf, cw_i g dp 60 dpf, cw_i g sa 60 saf, cw_i g ln 60 lnf, cw_l g bt 4000 btf] H locs := hZ.sub [3, 0, 4, 5, 6, 1, 7, 2] (by decide +kernel) rfl
                exact zz_zret hC hZ (by decide) (⟨(upd ag1 ((a * 60) + b) (nI n)), (zl_bT (hU.mpr ⟨hsh.1, hsh.2.1, hsh.2.2, fun j hj => he1 j (by omega)⟩)).symm, hm1.set (by omega) h_a.2 (hU.mpr ⟨hsh.1, hsh.2.1, hsh.2.2, fun j hj => he1 j (by omega)⟩), hr1.set, rfl⟩) (Nat.le_of_ble_eq_true rfl) (Nat.le_of_ble_eq_true rfl) dX2_agreeAt_173
              · have nc14 : ¬ lz ≤ i := fun zq => c14 (show nI (lz) ≤ nI (i) from (nI_leI bd15 bd16).mpr zq)
                refine lv_aload_n hx hb dX2_agreeAt_78 rfl (lv_at hl 2 rfl) ?_
                refine zz_get hC hZ 3 rfl zf_X2_21 rfl dX2_agreeAt_79 ?_
                refine zz_get hC hZ 4 rfl zf_X2_45 rfl dX2_agreeAt_82 ?_
                refine lv_aload_n hx hb dX2_agreeAt_85 rfl (lv_at hl 2 rfl) ?_
                refine zz_get hC hZ 3 rfl zf_X2_21 rfl dX2_agreeAt_86 ?_
                refine zz_get hC hZ 4 rfl zf_X2_49 rfl dX2_agreeAt_89 ?_
                refine lv_iload_n hx hb dX2_agreeAt_92 rfl (lv_at hl 3 rfl) ?_
                refine zz_ialdn hC hZ 1 rfl bd10 (by decide) dX2_agreeAt_93 ?_
                refine zz_topi (v := nI sz) (es) ?_
                refine lv_iload hx hb dX2_agreeAt_94 (lv_at hl 0 rfl) ?_
                refine lv_iadd hx hb dX2_agreeAt_96 ?_
                refine zz_topi (v := nI (sz + i)) (nI_add _ _) ?_
                have bd17 : (sz + i) < 4000 := by omega
                refine zz_laldn hC hZ 2 rfl bd17 (by decide) dX2_agreeAt_97 ?_
                refine lv_lstore (lv' := [(6, .long (btf (sz + i))), (5, .int (nI i)), (4, .int 0), (0, .ref lk), (1, .int (nI a)), (2, .int (nI b)), (3, .int 1)]) hx hb dX2_agreeAt_98 hl (by decide) rfl (fun ls hl => ?_)
                refine lv_aload_n hx hb dX2_agreeAt_100 rfl (lv_at hl 3 rfl) ?_
                refine zz_get hC hZ 3 rfl zf_X2_21 rfl dX2_agreeAt_101 ?_
                refine zz_get hC hZ 4 rfl zf_X2_45 rfl dX2_agreeAt_104 ?_
                refine lv_aload_n hx hb dX2_agreeAt_107 rfl (lv_at hl 3 rfl) ?_
                refine zz_get hC hZ 3 rfl zf_X2_21 rfl dX2_agreeAt_108 ?_
                refine zz_get hC hZ 4 rfl zf_X2_49 rfl dX2_agreeAt_111 ?_
                refine lv_iload_n hx hb dX2_agreeAt_114 rfl (lv_at hl 5 rfl) ?_
                have bd18 : b < 60 := by omega
                refine zz_ialdn hC hZ 1 rfl bd18 (by decide) dX2_agreeAt_115 ?_
                refine zz_topi (v := nI szb) (esb) ?_
                refine lv_iload hx hb dX2_agreeAt_116 (lv_at hl 1 rfl) ?_
                refine lv_iadd hx hb dX2_agreeAt_118 ?_
                refine zz_topi (v := nI (szb + i)) (nI_add _ _) ?_
                have bd19 : (szb + i) < 4000 := by omega
                refine zz_laldn hC hZ 2 rfl bd19 (by decide) dX2_agreeAt_119 ?_
                refine lv_lstore (lv' := [(8, .long (btf (szb + i))), (6, .long (btf (sz + i))), (5, .int (nI i)), (4, .int 0), (0, .ref lk), (1, .int (nI a)), (2, .int (nI b)), (3, .int 1)]) hx hb dX2_agreeAt_120 hl (by decide) rfl (fun ls hl => ?_)
                refine lv_lload hx hb dX2_agreeAt_122 (lv_at hl 1 rfl) ?_
                refine lv_lload hx hb dX2_agreeAt_124 (lv_at hl 0 rfl) ?_
                refine zz_lcmp_eq (tgt := 151) hC dX2_agreeAt_126 dX2_agreeAt_127 (by decide) (fun c20 => ?_) (fun c20 => ?_)
                · refine lv_iinc (v := nI (i + 1)) (lv' := [(5, .int (nI (i + 1))), (8, .long (btf (szb + i))), (6, .long (btf (sz + i))), (4, .int 0), (0, .ref lk), (1, .int (nI a)), (2, .int (nI b)), (3, .int 1)]) hx hb dX2_agreeAt_151 hl (k := 2) rfl (nI_1 _) (by decide) rfl (fun ls hl => ?_)
                  refine lv_goto (tgt := 64) hx hb dX2_agreeAt_154 (by decide) ?_
                  exact ih (i + 1) ag1 H locs ls (by omega) (zl_upto he1 (zl_seE es esb (by omega) (by omega) c20)) (hm1) (hr1) (by omega) hZ (lv_sub hl [0, 3, 4, 5, 6, 7] rfl)
                · refine lv_iload hx hb dX2_agreeAt_130 (lv_at hl 3 rfl) ?_
                  refine lv_if_ne (tgt := 149) hx hb dX2_agreeAt_132 (by decide) (fun c => absurd (by decide) c) (fun c21 => ?_)
                  have hkv : ∀ x dr : Nat, x < na → (btf (sz + i)).toInt32 = nI x → dpf x = nI dr → dr ≤ 4 → dr + 2 ≤ 5 := fun x dr hx ex e1 e2 => by have := zl_row h_M h_a.1 es el ed (by omega) (by omega) (by omega) (zl_gt1 g3 c11) (show i < lz by omega) hx ex dr e1 e2; omega
                  refine lv_aload_n hx hb dX2_agreeAt_135 rfl (lv_at hl 4 rfl) ?_
                  refine lv_lload hx hb dX2_agreeAt_136 (lv_at hl 1 rfl) ?_
                  refine lv_l2i hx hb dX2_agreeAt_138 rfl ?_
                  refine lv_lload hx hb dX2_agreeAt_139 (lv_at hl 0 rfl) ?_
                  refine lv_l2i hx hb dX2_agreeAt_141 rfl ?_
                  refine lv_iload_n hx hb dX2_agreeAt_142 rfl (lv_at hl 7 rfl) ?_
                  refine zz_iV (As := [.int ((btf (sz + i)).toInt32), .int ((btf (szb + i)).toInt32), .int 1]) (wc := [cw_k1 lk st (nI n) l_ag l_dg l_ds, cw_i g l_ag 3600 ag1, cw_k5 st (nI na) (nI nu) kd dp cl sa ln bt pn bf, cw_i g kd 60 kdf, cw_i g dp 60 dpf, cw_i g sa 60 saf, cw_i g ln 60 lnf, cw_l g bt 4000 btf]) (wr := []) (rest := []) hC hZ hs hl zc_X2_52 (co_rws1 g lk l_ag l_dg l_ds st kd dp cl sa ln bt pn bf na nu n kdf dpf saf lnf btf ag1 ((btf (sz + i)).toInt32) ((btf (szb + i)).toInt32) (h_M) (hkv) (hm1) (hr1)) [3, 0, 4, 5, 6, 1, 7, 2] [] rfl rfl (by decide +kernel) (ci := 1) (q0 := 0) rfl rfl rfl rfl (Nat.le_of_ble_eq_true rfl) ⟨⟨Nat.le_of_ble_eq_true rfl, Nat.le_of_ble_eq_true rfl⟩, Nat.le_of_ble_eq_true rfl, Nat.le_of_ble_eq_true rfl⟩ dX2_agreeAt_143 (fun r22 u23 H locs hp hZ => ?_)
                  obtain ⟨ag2_24, f25, f26, f27, rfl⟩ := hp
                  have hZ : zz_Z g A s.heap [cw_k1 lk st (nI n) l_ag l_dg l_ds, cw_i g l_ag 3600 ag2_24, cw_k5 st (nI na) (nI nu) kd dp cl sa ln bt pn bf, cw_i g kd 60 kdf, cw_i g dp 60 dpf, cw_i g sa 60 saf, cw_i g ln 60 lnf, cw_l g bt 4000 btf] H locs := hZ
                  refine lv_if_ne (tgt := 151) hx hb dX2_agreeAt_146 (by decide) (fun c28 => ?_) (fun c28 => ?_)
                  · refine lv_iinc (v := nI (i + 1)) (lv' := [(5, .int (nI (i + 1))), (8, .long (btf (szb + i))), (6, .long (btf (sz + i))), (4, .int 0), (0, .ref lk), (1, .int (nI a)), (2, .int (nI b)), (3, .int 1)]) hx hb dX2_agreeAt_151 hl (k := 2) rfl (nI_1 _) (by decide) rfl (fun ls hl => ?_)
                    refine lv_goto (tgt := 64) hx hb dX2_agreeAt_154 (by decide) ?_
                    exact ih (i + 1) ag2_24 H locs ls (by omega) (zl_upto he1 (zl_seR es esb (by omega) (by omega) (zl_d4 ed c11) (zl_bP f25 c28))) (f26) (f27) (by omega) (hZ.sub [1, 5, 7, 0, 2, 3, 4, 6] (by decide +kernel) rfl) (lv_sub hl [0, 3, 4, 5, 6, 7] rfl)
                  · refine lv_iconst (v := 0) hx hb dX2_agreeAt_149 (by decide) ?_
                    exact zz_zret hC hZ (by decide) (⟨ag2_24, (zl_bF (fun z => zl_seN es esb (by omega) (by omega) c20 (Or.inr (zl_bN f25 c28)) ((hU.mp z).2.2.2 i (by omega)))).symm, f26, f27, rfl⟩) (Nat.le_of_ble_eq_true rfl) (Nat.le_of_ble_eq_true rfl) dX2_agreeAt_150
          exact LP13 _ 0 agf H locs ls (by omega) (fun j hj => absurd hj (Nat.not_lt_zero j)) (h_m) (h_q) (Nat.lt_succ_self _) hZ (lv_sub hl [0, 1, 2, 3, 4, 5] rfl)
        · have nc11 : dz = 1 := (nI_eq bd12 (by decide)).mp (show nI (dz) = nI (1) from c11)
          refine lv_iconst (v := 1) hx hb dX2_agreeAt_54 (by decide) ?_
          refine lv_goto (tgt := 59) hx hb dX2_agreeAt_55 (by decide) ?_
          refine lv_istore (lv' := [(4, .int 1), (0, .ref lk), (1, .int (nI a)), (2, .int (nI b)), (3, .int 1)]) hx hb dX2_agreeAt_59 hl (by decide) rfl (fun ls hl => ?_)
          refine lv_iconst (v := 0) hx hb dX2_agreeAt_61 (by decide) ?_
          refine lv_istore (lv' := [(5, .int 0), (4, .int 1), (0, .ref lk), (1, .int (nI a)), (2, .int (nI b)), (3, .int 1)]) hx hb dX2_agreeAt_62 hl (by decide) rfl (fun ls hl => ?_)
          have LP29 : ∀ (N : Nat) (i : Nat) (ag1 : Nat → Int32) (H : Heap) (locs : List Loc) (ls : Array Slot), (i ≤ lz) → (∀ j, j < i → sp_se na kdf dpf saf lnf btf a b j) → (zz_AM na (sp_sS na kdf dpf saf lnf btf) n ag1) → (zz_RB n ag1) → (lz - i) < N → zz_Z g A s.heap [cw_i g l_ag 3600 ag1, cw_i g sa 60 saf, cw_l g bt 4000 btf, cw_k1 lk st (nI n) l_ag l_dg l_ds, cw_k5 st (nI na) (nI nu) kd dp cl sa ln bt pn bf, cw_i g kd 60 kdf, cw_i g dp 60 dpf, cw_i g ln 60 lnf] H locs → lv_has ls 10 [(5, .int (nI i)), (4, .int 1), (0, .ref lk), (1, .int (nI a)), (2, .int (nI b)), (3, .int 1)] → W p l e rm_co_agr1 s m args below meth c H locs 0 0 (zz_QI below g args s A rm_co_agr1.cells rm_co_agr1.slots (po_co_agr1 g lk l_ag l_dg l_ds st kd dp cl sa ln bt pn bf na nu n kdf dpf saf lnf btf agf a b h_M h_a h_v h_m h_q)) (F0 m 64 ls []) := by
            intro N
            induction N with
            | zero =>
              intro i ag1 H locs ls hi he1 hm1 hr1 hN
              exact absurd hN (Nat.not_lt_zero _)
            | succ N ih =>
              intro i ag1 H locs ls hi he1 hm1 hr1 hN hZ hl
              refine lv_iload hx hb dX2_agreeAt_64 (lv_at hl 0 rfl) ?_
              refine lv_aload_n hx hb dX2_agreeAt_66 rfl (lv_at hl 2 rfl) ?_
              refine zz_get hC hZ 3 rfl zf_X2_21 rfl dX2_agreeAt_67 ?_
              refine zz_get hC hZ 4 rfl zf_X2_42 rfl dX2_agreeAt_70 ?_
              refine lv_iload_n hx hb dX2_agreeAt_73 rfl (lv_at hl 3 rfl) ?_
              refine zz_ialdn hC hZ 7 rfl bd10 (by decide) dX2_agreeAt_74 ?_
              refine zz_topi (v := nI lz) (el) ?_
              have bd31 : lz < 2 ^ 31 := by omega
              have bd32 : i < 2 ^ 31 := by omega
              refine lv_icmp_ge (tgt := 157) hx hb dX2_agreeAt_75 (by decide) (fun c30 => ?_) (fun c30 => ?_)
              · have nc30 : lz ≤ i := (nI_leI bd31 bd32).mp (show nI (lz) ≤ nI (i) from c30)
                refine lv_aload_n hx hb dX2_agreeAt_157 rfl (lv_at hl 2 rfl) ?_
                refine zz_get hC hZ 3 rfl zf_X2_9 rfl dX2_agreeAt_158 ?_
                refine lv_iload_n hx hb dX2_agreeAt_161 rfl (lv_at hl 3 rfl) ?_
                refine lv_bipush (v := 60) hx hb dX2_agreeAt_162 (by decide) ?_
                refine lv_imul hx hb dX2_agreeAt_164 ?_
                refine zz_topi (v := nI (a * 60)) (pk_mul _ 60) ?_
                refine lv_iload_n hx hb dX2_agreeAt_165 rfl (lv_at hl 4 rfl) ?_
                refine lv_iadd hx hb dX2_agreeAt_166 ?_
                refine zz_topi (v := nI ((a * 60) + b)) (nI_add _ _) ?_
                refine lv_aload_n hx hb dX2_agreeAt_167 rfl (lv_at hl 2 rfl) ?_
                refine zz_get hC hZ 3 rfl zf_X2_25 rfl dX2_agreeAt_168 ?_
                refine zz_iastn hC hZ 0 rfl bd4 (by decide) dX2_agreeAt_171 (fun H locs hZ => ?_)
                have hZ : zz_Z g A s.heap [cw_i g l_ag 3600 (upd ag1 ((a * 60) + b) (nI n)), cw_i g sa 60 saf, cw_l g bt 4000 btf, cw_k1 lk st (nI n) l_ag l_dg l_ds, cw_k5 st (nI na) (nI nu) kd dp cl sa ln bt pn bf, cw_i g kd 60 kdf, cw_i g dp 60 dpf, cw_i g ln 60 lnf] H locs := hZ
                refine lv_iconst (v := 1) hx hb dX2_agreeAt_172 (by decide) ?_
                have hZ : zz_Z g A s.heap [cw_k1 lk st (nI n) l_ag l_dg l_ds, cw_i g l_ag 3600 (upd ag1 ((a * 60) + b) (nI n)), cw_k5 st (nI na) (nI nu) kd dp cl sa ln bt pn bf, cw_i g kd 60 kdf, cw_i g dp 60 dpf, cw_i g sa 60 saf, cw_i g ln 60 lnf, cw_l g bt 4000 btf] H locs := hZ.sub [3, 0, 4, 5, 6, 1, 7, 2] (by decide +kernel) rfl
                exact zz_zret hC hZ (by decide) (⟨(upd ag1 ((a * 60) + b) (nI n)), (zl_bT (hU.mpr ⟨hsh.1, hsh.2.1, hsh.2.2, fun j hj => he1 j (by omega)⟩)).symm, hm1.set (by omega) h_a.2 (hU.mpr ⟨hsh.1, hsh.2.1, hsh.2.2, fun j hj => he1 j (by omega)⟩), hr1.set, rfl⟩) (Nat.le_of_ble_eq_true rfl) (Nat.le_of_ble_eq_true rfl) dX2_agreeAt_173
              · have nc30 : ¬ lz ≤ i := fun zq => c30 (show nI (lz) ≤ nI (i) from (nI_leI bd31 bd32).mpr zq)
                refine lv_aload_n hx hb dX2_agreeAt_78 rfl (lv_at hl 2 rfl) ?_
                refine zz_get hC hZ 3 rfl zf_X2_21 rfl dX2_agreeAt_79 ?_
                refine zz_get hC hZ 4 rfl zf_X2_45 rfl dX2_agreeAt_82 ?_
                refine lv_aload_n hx hb dX2_agreeAt_85 rfl (lv_at hl 2 rfl) ?_
                refine zz_get hC hZ 3 rfl zf_X2_21 rfl dX2_agreeAt_86 ?_
                refine zz_get hC hZ 4 rfl zf_X2_49 rfl dX2_agreeAt_89 ?_
                refine lv_iload_n hx hb dX2_agreeAt_92 rfl (lv_at hl 3 rfl) ?_
                refine zz_ialdn hC hZ 1 rfl bd10 (by decide) dX2_agreeAt_93 ?_
                refine zz_topi (v := nI sz) (es) ?_
                refine lv_iload hx hb dX2_agreeAt_94 (lv_at hl 0 rfl) ?_
                refine lv_iadd hx hb dX2_agreeAt_96 ?_
                refine zz_topi (v := nI (sz + i)) (nI_add _ _) ?_
                have bd33 : (sz + i) < 4000 := by omega
                refine zz_laldn hC hZ 2 rfl bd33 (by decide) dX2_agreeAt_97 ?_
                refine lv_lstore (lv' := [(6, .long (btf (sz + i))), (5, .int (nI i)), (4, .int 1), (0, .ref lk), (1, .int (nI a)), (2, .int (nI b)), (3, .int 1)]) hx hb dX2_agreeAt_98 hl (by decide) rfl (fun ls hl => ?_)
                refine lv_aload_n hx hb dX2_agreeAt_100 rfl (lv_at hl 3 rfl) ?_
                refine zz_get hC hZ 3 rfl zf_X2_21 rfl dX2_agreeAt_101 ?_
                refine zz_get hC hZ 4 rfl zf_X2_45 rfl dX2_agreeAt_104 ?_
                refine lv_aload_n hx hb dX2_agreeAt_107 rfl (lv_at hl 3 rfl) ?_
                refine zz_get hC hZ 3 rfl zf_X2_21 rfl dX2_agreeAt_108 ?_
                refine zz_get hC hZ 4 rfl zf_X2_49 rfl dX2_agreeAt_111 ?_
                refine lv_iload_n hx hb dX2_agreeAt_114 rfl (lv_at hl 5 rfl) ?_
                have bd34 : b < 60 := by omega
                refine zz_ialdn hC hZ 1 rfl bd34 (by decide) dX2_agreeAt_115 ?_
                refine zz_topi (v := nI szb) (esb) ?_
                refine lv_iload hx hb dX2_agreeAt_116 (lv_at hl 1 rfl) ?_
                refine lv_iadd hx hb dX2_agreeAt_118 ?_
                refine zz_topi (v := nI (szb + i)) (nI_add _ _) ?_
                have bd35 : (szb + i) < 4000 := by omega
                refine zz_laldn hC hZ 2 rfl bd35 (by decide) dX2_agreeAt_119 ?_
                refine lv_lstore (lv' := [(8, .long (btf (szb + i))), (6, .long (btf (sz + i))), (5, .int (nI i)), (4, .int 1), (0, .ref lk), (1, .int (nI a)), (2, .int (nI b)), (3, .int 1)]) hx hb dX2_agreeAt_120 hl (by decide) rfl (fun ls hl => ?_)
                refine lv_lload hx hb dX2_agreeAt_122 (lv_at hl 1 rfl) ?_
                refine lv_lload hx hb dX2_agreeAt_124 (lv_at hl 0 rfl) ?_
                refine zz_lcmp_eq (tgt := 151) hC dX2_agreeAt_126 dX2_agreeAt_127 (by decide) (fun c36 => ?_) (fun c36 => ?_)
                · refine lv_iinc (v := nI (i + 1)) (lv' := [(5, .int (nI (i + 1))), (8, .long (btf (szb + i))), (6, .long (btf (sz + i))), (4, .int 1), (0, .ref lk), (1, .int (nI a)), (2, .int (nI b)), (3, .int 1)]) hx hb dX2_agreeAt_151 hl (k := 2) rfl (nI_1 _) (by decide) rfl (fun ls hl => ?_)
                  refine lv_goto (tgt := 64) hx hb dX2_agreeAt_154 (by decide) ?_
                  exact ih (i + 1) ag1 H locs ls (by omega) (zl_upto he1 (zl_seE es esb (by omega) (by omega) c36)) (hm1) (hr1) (by omega) hZ (lv_sub hl [0, 3, 4, 5, 6, 7] rfl)
                · refine lv_iload hx hb dX2_agreeAt_130 (lv_at hl 3 rfl) ?_
                  refine lv_if_ne (tgt := 149) hx hb dX2_agreeAt_132 (by decide) (fun c37 => ?_) (fun c => absurd c (by decide))
                  refine lv_iconst (v := 0) hx hb dX2_agreeAt_149 (by decide) ?_
                  have hZ : zz_Z g A s.heap [cw_k1 lk st (nI n) l_ag l_dg l_ds, cw_i g l_ag 3600 ag1, cw_k5 st (nI na) (nI nu) kd dp cl sa ln bt pn bf, cw_i g kd 60 kdf, cw_i g dp 60 dpf, cw_i g sa 60 saf, cw_i g ln 60 lnf, cw_l g bt 4000 btf] H locs := hZ.sub [3, 0, 4, 5, 6, 1, 7, 2] (by decide +kernel) rfl
                  exact zz_zret hC hZ (by decide) (⟨ag1, (zl_bF (fun z => zl_seN es esb (by omega) (by omega) c36 (Or.inl (zl_d3 ed c11)) ((hU.mp z).2.2.2 i (by omega)))).symm, hm1, hr1, rfl⟩) (Nat.le_of_ble_eq_true rfl) (Nat.le_of_ble_eq_true rfl) dX2_agreeAt_150
          exact LP29 _ 0 agf H locs ls (by omega) (fun j hj => absurd hj (Nat.not_lt_zero j)) (h_m) (h_q) (Nat.lt_succ_self _) hZ (lv_sub hl [0, 1, 2, 3, 4, 5] rfl)
      · refine lv_iconst (v := 0) hx hb dX2_agreeAt_39 (by decide) ?_
        have hZ : zz_Z g A s.heap [cw_k1 lk st (nI n) l_ag l_dg l_ds, cw_i g l_ag 3600 agf, cw_k5 st (nI na) (nI nu) kd dp cl sa ln bt pn bf, cw_i g kd 60 kdf, cw_i g dp 60 dpf, cw_i g sa 60 saf, cw_i g ln 60 lnf, cw_l g bt 4000 btf] H locs := hZ.sub [3, 0, 4, 5, 6, 1, 7, 2] (by decide +kernel) rfl
        exact zz_zret hC hZ (by decide) (⟨agf, (zl_bF (fun z => zl_shq c9 ⟨(hU.mp z).1, (hU.mp z).2.1, (hU.mp z).2.2.1⟩)).symm, h_m, h_q, rfl⟩) (Nat.le_of_ble_eq_true rfl) (Nat.le_of_ble_eq_true rfl) dX2_agreeAt_40
    · refine lv_iconst (v := 1) hx hb dX2_agreeAt_23 (by decide) ?_
      exact zz_zret hC hZ (by decide) (⟨agf, (zl_bT (h_m a b h_a.1 h_a.2 c5)).symm, h_m, h_q, rfl⟩) (Nat.le_of_ble_eq_true rfl) (Nat.le_of_ble_eq_true rfl) dX2_agreeAt_24
theorem dg_X2_agree_0 : (decode cX2_agree 0 = .ok (.aload_n 0, 1)) ∧ (decode cX2_agree 1 = .ok (.dup, 1)) ∧ (decode cX2_agree 2 = .ok (.getfield 25, 3)) ∧ (decode cX2_agree 5 = .ok (.iconst 1, 1)) ∧ (decode cX2_agree 6 = .ok (.iadd, 1)) ∧ (decode cX2_agree 7 = .ok (.putfield 25, 3)) ∧ (decode cX2_agree 10 = .ok (.aload_n 0, 1)) ∧ (decode cX2_agree 11 = .ok (.iload_n 1, 1)) ∧ (decode cX2_agree 12 = .ok (.iload_n 2, 1)) ∧ (decode cX2_agree 13 = .ok (.iconst 1, 1)) ∧ (decode cX2_agree 14 = .ok (.invokevirtual 29, 3)) ∧ (decode cX2_agree 17 = .ok (.ireturn, 1)) := by decide +kernel
theorem dX2_agree_0 : decode cX2_agree 0 = .ok (.aload_n 0, 1) := dg_X2_agree_0.1
theorem dX2_agree_1 : decode cX2_agree 1 = .ok (.dup, 1) := dg_X2_agree_0.2.1
theorem dX2_agree_2 : decode cX2_agree 2 = .ok (.getfield 25, 3) := dg_X2_agree_0.2.2.1
theorem dX2_agree_5 : decode cX2_agree 5 = .ok (.iconst 1, 1) := dg_X2_agree_0.2.2.2.1
theorem dX2_agree_6 : decode cX2_agree 6 = .ok (.iadd, 1) := dg_X2_agree_0.2.2.2.2.1
theorem dX2_agree_7 : decode cX2_agree 7 = .ok (.putfield 25, 3) := dg_X2_agree_0.2.2.2.2.2.1
theorem dX2_agree_10 : decode cX2_agree 10 = .ok (.aload_n 0, 1) := dg_X2_agree_0.2.2.2.2.2.2.1
theorem dX2_agree_11 : decode cX2_agree 11 = .ok (.iload_n 1, 1) := dg_X2_agree_0.2.2.2.2.2.2.2.1
theorem dX2_agree_12 : decode cX2_agree 12 = .ok (.iload_n 2, 1) := dg_X2_agree_0.2.2.2.2.2.2.2.2.1
theorem dX2_agree_13 : decode cX2_agree 13 = .ok (.iconst 1, 1) := dg_X2_agree_0.2.2.2.2.2.2.2.2.2.1
theorem dX2_agree_14 : decode cX2_agree 14 = .ok (.invokevirtual 29, 3) := dg_X2_agree_0.2.2.2.2.2.2.2.2.2.2.1
theorem dX2_agree_17 : decode cX2_agree 17 = .ok (.ireturn, 1) := dg_X2_agree_0.2.2.2.2.2.2.2.2.2.2.2
abbrev rm_co_agr : Room := { frames := 9, cells := 0, slots := 0, locals := 237 }
abbrev po_co_agr (g : zz_G) (lk : Nat) (l_ag : Nat) (l_dg : Nat) (l_ds : Nat) (st : Nat) (kd : Nat) (dp : Nat) (cl : Nat) (sa : Nat) (ln : Nat) (bt : Nat) (pn : Nat) (bf : Nat) (na : Nat) (nu : Nat) (n : Nat) (kdf : Nat → Int32) (dpf : Nat → Int32) (saf : Nat → Int32) (lnf : Nat → Int32) (btf : Nat → Int64) (agf : Nat → Int32) (a : Nat) (b : Nat) (h_M : zz_MI na nu dpf saf lnf btf) (h_a : a < na ∧ b < na) (h_n : n ≤ 600) (h_q : zz_RB n agf) : Int32 → va_W → Prop := fun (r : Int32) (u : va_W) => ∃ (ag2 : Nat → Int32), (r = sp_b (sp_sS na kdf dpf saf lnf btf a b)) ∧ (zz_RB (n + 1) ag2) ∧ u = [cw_k1 lk st (nI (n + 1)) l_ag l_dg l_ds, cw_i g l_ag 3600 ag2, cw_k5 st (nI na) (nI nu) kd dp cl sa ln bt pn bf, cw_i g kd 60 kdf, cw_i g dp 60 dpf, cw_i g sa 60 saf, cw_i g ln 60 lnf, cw_l g bt 4000 btf]
set_option maxHeartbeats 4000000 in
set_option maxRecDepth 100000 in
theorem co_agr (g : zz_G) (lk : Nat) (l_ag : Nat) (l_dg : Nat) (l_ds : Nat) (st : Nat) (kd : Nat) (dp : Nat) (cl : Nat) (sa : Nat) (ln : Nat) (bt : Nat) (pn : Nat) (bf : Nat) (na : Nat) (nu : Nat) (n : Nat) (kdf : Nat → Int32) (dpf : Nat → Int32) (saf : Nat → Int32) (lnf : Nat → Int32) (btf : Nat → Int64) (agf : Nat → Int32) (a : Nat) (b : Nat) (h_M : zz_MI na nu dpf saf lnf btf) (h_a : a < na ∧ b < na) (h_n : n ≤ 600) (h_q : zz_RB n agf) : zz_I g yX2_agree (.code yX2_agree cX2_agree 3 (some .boolean)) rm_co_agr [.ref lk, .int (nI a), .int (nI b)] [cw_k1 lk st (nI n) l_ag l_dg l_ds, cw_i g l_ag 3600 agf, cw_k5 st (nI na) (nI nu) kd dp cl sa ln bt pn bf, cw_i g kd 60 kdf, cw_i g dp 60 dpf, cw_i g sa 60 saf, cw_i g ln 60 lnf, cw_l g bt 4000 btf] (po_co_agr g lk l_ag l_dg l_ds st kd dp cl sa ln bt pn bf na nu n kdf dpf saf lnf btf agf a b h_M h_a h_n h_q) := by
  refine zz_I.intro (own := RX2) (cc := cX2_agree) (nL := 3) (by decide) rfl (Nat.le_of_ble_eq_true rfl) ?_
  intro p l e s m args below meth c A H locs ls hC hnm hs hZ hl
  obtain ⟨hx, hb, hml, hown, hts, hr, hlocks, hK⟩ := id hC
  have hl : lv_has ls 3 [(0, .ref lk), (1, .int (nI a)), (2, .int (nI b))] := hl
  have hZ : zz_Z g A s.heap [cw_k1 lk st (nI n) l_ag l_dg l_ds, cw_i g l_ag 3600 agf, cw_k5 st (nI na) (nI nu) kd dp cl sa ln bt pn bf, cw_i g kd 60 kdf, cw_i g dp 60 dpf, cw_i g sa 60 saf, cw_i g ln 60 lnf, cw_l g bt 4000 btf] H locs := hZ
  refine lv_aload_n hx hb dX2_agree_0 rfl (lv_at hl 0 rfl) ?_
  refine lv_dup hx hb dX2_agree_1 rfl ?_
  refine zz_get hC hZ 0 rfl zf_X2_25 rfl dX2_agree_2 ?_
  refine lv_iconst (v := 1) hx hb dX2_agree_5 (by decide) ?_
  refine lv_iadd hx hb dX2_agree_6 ?_
  refine zz_topi (v := nI (n + 1)) (nI_1 _) ?_
  refine zz_put hC hZ 0 rfl zu_X2_25 (Nat.le_of_ble_eq_true rfl) dX2_agree_7 (fun H locs hZ => ?_)
  have hZ : zz_Z g A s.heap [cw_k1 lk st (nI (n + 1)) l_ag l_dg l_ds, cw_i g l_ag 3600 agf, cw_k5 st (nI na) (nI nu) kd dp cl sa ln bt pn bf, cw_i g kd 60 kdf, cw_i g dp 60 dpf, cw_i g sa 60 saf, cw_i g ln 60 lnf, cw_l g bt 4000 btf] H locs := hZ
  refine lv_aload_n hx hb dX2_agree_10 rfl (lv_at hl 0 rfl) ?_
  refine lv_iload_n hx hb dX2_agree_11 rfl (lv_at hl 1 rfl) ?_
  refine lv_iload_n hx hb dX2_agree_12 rfl (lv_at hl 2 rfl) ?_
  refine lv_iconst (v := 1) hx hb dX2_agree_13 (by decide) ?_
  refine zz_iV (As := [.int (nI a), .int (nI b), .int 1]) (wc := [cw_k1 lk st (nI (n + 1)) l_ag l_dg l_ds, cw_i g l_ag 3600 agf, cw_k5 st (nI na) (nI nu) kd dp cl sa ln bt pn bf, cw_i g kd 60 kdf, cw_i g dp 60 dpf, cw_i g sa 60 saf, cw_i g ln 60 lnf, cw_l g bt 4000 btf]) (wr := []) (rest := []) hC hZ hs hl zc_X2_29 (co_agr1 g lk l_ag l_dg l_ds st kd dp cl sa ln bt pn bf na nu (n + 1) kdf dpf saf lnf btf agf a b (h_M) (h_a) (fun dr _ h => by omega) (zz_AM.new h_q h_n) (h_q.mono (Nat.le_succ _))) [0, 1, 2, 3, 4, 5, 6, 7] [] rfl rfl (by decide +kernel) (ci := 1) (q0 := 0) rfl rfl rfl rfl (Nat.le_of_ble_eq_true rfl) ⟨⟨Nat.le_of_ble_eq_true rfl, Nat.le_of_ble_eq_true rfl⟩, Nat.le_of_ble_eq_true rfl, Nat.le_of_ble_eq_true rfl⟩ dX2_agree_14 (fun r1 u2 H locs hp hZ => ?_)
  obtain ⟨ag2_3, f4, f5, f6, rfl⟩ := hp
  have hZ : zz_Z g A s.heap [cw_k1 lk st (nI (n + 1)) l_ag l_dg l_ds, cw_i g l_ag 3600 ag2_3, cw_k5 st (nI na) (nI nu) kd dp cl sa ln bt pn bf, cw_i g kd 60 kdf, cw_i g dp 60 dpf, cw_i g sa 60 saf, cw_i g ln 60 lnf, cw_l g bt 4000 btf] H locs := hZ
  exact zz_zret hC hZ (zl_b01 (zl_bI f4)) (⟨ag2_3, f4, f6, rfl⟩) (Nat.le_of_ble_eq_true rfl) (Nat.le_of_ble_eq_true rfl) dX2_agree_17
theorem dg_X7_same_0 : (decode cX7_same 0 = .ok (.aload_n 0, 1)) ∧ (decode cX7_same 1 = .ok (.getfield 10, 3)) ∧ (decode cX7_same 4 = .ok (.iload_n 1, 1)) ∧ (decode cX7_same 5 = .ok (.invokevirtual 73, 3)) ∧ (decode cX7_same 8 = .ok (.ifCond .eq 14, 3)) ∧ (decode cX7_same 11 = .ok (.aload_n 0, 1)) ∧ (decode cX7_same 12 = .ok (.getfield 10, 3)) ∧ (decode cX7_same 15 = .ok (.iload_n 2, 1)) ∧ (decode cX7_same 16 = .ok (.invokevirtual 73, 3)) ∧ (decode cX7_same 19 = .ok (.ifCond .ne 9, 3)) ∧ (decode cX7_same 22 = .ok (.aload_n 0, 1)) ∧ (decode cX7_same 23 = .ok (.iconst 5, 1)) ∧ (decode cX7_same 24 = .ok (.invokevirtual 65, 3)) ∧ (decode cX7_same 27 = .ok (.ireturn, 1)) ∧ (decode cX7_same 28 = .ok (.aload_n 0, 1)) ∧ (decode cX7_same 29 = .ok (.aload_n 0, 1)) := by decide +kernel
theorem dX7_same_0 : decode cX7_same 0 = .ok (.aload_n 0, 1) := dg_X7_same_0.1
theorem dX7_same_1 : decode cX7_same 1 = .ok (.getfield 10, 3) := dg_X7_same_0.2.1
theorem dX7_same_4 : decode cX7_same 4 = .ok (.iload_n 1, 1) := dg_X7_same_0.2.2.1
theorem dX7_same_5 : decode cX7_same 5 = .ok (.invokevirtual 73, 3) := dg_X7_same_0.2.2.2.1
theorem dX7_same_8 : decode cX7_same 8 = .ok (.ifCond .eq 14, 3) := dg_X7_same_0.2.2.2.2.1
theorem dX7_same_11 : decode cX7_same 11 = .ok (.aload_n 0, 1) := dg_X7_same_0.2.2.2.2.2.1
theorem dX7_same_12 : decode cX7_same 12 = .ok (.getfield 10, 3) := dg_X7_same_0.2.2.2.2.2.2.1
theorem dX7_same_15 : decode cX7_same 15 = .ok (.iload_n 2, 1) := dg_X7_same_0.2.2.2.2.2.2.2.1
theorem dX7_same_16 : decode cX7_same 16 = .ok (.invokevirtual 73, 3) := dg_X7_same_0.2.2.2.2.2.2.2.2.1
theorem dX7_same_19 : decode cX7_same 19 = .ok (.ifCond .ne 9, 3) := dg_X7_same_0.2.2.2.2.2.2.2.2.2.1
theorem dX7_same_22 : decode cX7_same 22 = .ok (.aload_n 0, 1) := dg_X7_same_0.2.2.2.2.2.2.2.2.2.2.1
theorem dX7_same_23 : decode cX7_same 23 = .ok (.iconst 5, 1) := dg_X7_same_0.2.2.2.2.2.2.2.2.2.2.2.1
theorem dX7_same_24 : decode cX7_same 24 = .ok (.invokevirtual 65, 3) := dg_X7_same_0.2.2.2.2.2.2.2.2.2.2.2.2.1
theorem dX7_same_27 : decode cX7_same 27 = .ok (.ireturn, 1) := dg_X7_same_0.2.2.2.2.2.2.2.2.2.2.2.2.2.1
theorem dX7_same_28 : decode cX7_same 28 = .ok (.aload_n 0, 1) := dg_X7_same_0.2.2.2.2.2.2.2.2.2.2.2.2.2.2.1
theorem dX7_same_29 : decode cX7_same 29 = .ok (.aload_n 0, 1) := dg_X7_same_0.2.2.2.2.2.2.2.2.2.2.2.2.2.2.2
theorem dg_X7_same_30 : (decode cX7_same 30 = .ok (.getfield 28, 3)) ∧ (decode cX7_same 33 = .ok (.iload_n 1, 1)) ∧ (decode cX7_same 34 = .ok (.iload_n 2, 1)) ∧ (decode cX7_same 35 = .ok (.invokevirtual 203, 3)) ∧ (decode cX7_same 38 = .ok (.ifCond .eq 7, 3)) ∧ (decode cX7_same 41 = .ok (.iconst 1, 1)) ∧ (decode cX7_same 42 = .ok (.goto 4, 3)) ∧ (decode cX7_same 45 = .ok (.iconst 0, 1)) ∧ (decode cX7_same 46 = .ok (.invokevirtual 100, 3)) ∧ (decode cX7_same 49 = .ok (.ireturn, 1)) := by decide +kernel
theorem dX7_same_30 : decode cX7_same 30 = .ok (.getfield 28, 3) := dg_X7_same_30.1
theorem dX7_same_33 : decode cX7_same 33 = .ok (.iload_n 1, 1) := dg_X7_same_30.2.1
theorem dX7_same_34 : decode cX7_same 34 = .ok (.iload_n 2, 1) := dg_X7_same_30.2.2.1
theorem dX7_same_35 : decode cX7_same 35 = .ok (.invokevirtual 203, 3) := dg_X7_same_30.2.2.2.1
theorem dX7_same_38 : decode cX7_same 38 = .ok (.ifCond .eq 7, 3) := dg_X7_same_30.2.2.2.2.1
theorem dX7_same_41 : decode cX7_same 41 = .ok (.iconst 1, 1) := dg_X7_same_30.2.2.2.2.2.1
theorem dX7_same_42 : decode cX7_same 42 = .ok (.goto 4, 3) := dg_X7_same_30.2.2.2.2.2.2.1
theorem dX7_same_45 : decode cX7_same 45 = .ok (.iconst 0, 1) := dg_X7_same_30.2.2.2.2.2.2.2.1
theorem dX7_same_46 : decode cX7_same 46 = .ok (.invokevirtual 100, 3) := dg_X7_same_30.2.2.2.2.2.2.2.2.1
theorem dX7_same_49 : decode cX7_same 49 = .ok (.ireturn, 1) := dg_X7_same_30.2.2.2.2.2.2.2.2.2
theorem zk_497 : Cond.methodLink RX7 203 yX2_agree ∈ zz_w := zz_in (List.mem_append_right _ (List.mem_append_right _ (List.mem_append_right _ (List.mem_append_left _ (List.mem_of_getElem? (i := 17) (by decide +kernel)))))) rfl
set_option maxRecDepth 20000 in
theorem zk_500 : Cond.code yX2_agree cX2_agree 3 (some .boolean) ∈ zz_w := zz_in (List.mem_append_right _ (List.mem_append_right _ (List.mem_append_right _ (List.mem_append_left _ (List.mem_of_getElem? (i := 20) (rfl)))))) rfl
theorem zk_498 : Cond.instanceMethod yX2_agree ∈ zz_w := zz_in (List.mem_append_right _ (List.mem_append_right _ (List.mem_append_right _ (List.mem_append_left _ (List.mem_of_getElem? (i := 18) (by decide +kernel)))))) rfl
theorem zk_499 : Cond.selects RX2 yX2_agree yX2_agree ∈ zz_w := zz_in (List.mem_append_right _ (List.mem_append_right _ (List.mem_append_right _ (List.mem_append_left _ (List.mem_of_getElem? (i := 19) (by decide +kernel)))))) rfl
theorem zc_X7_203 : zz_cV RX7 203 yX2_agree cX2_agree 3 (some .boolean) 2 := ⟨⟨zk_497, zk_500, zk_4, by decide, by decide, by decide +kernel⟩, zk_498, zk_499⟩
noncomputable def fn_cx_same2 (na : Nat) (nu : Nat) (kdf : Nat → Int32) (dpf : Nat → Int32) (saf : Nat → Int32) (lnf : Nat → Int32) (btf : Nat → Int64) (x1 : Int32) (x2 : Int32) : Int32 := (if (fn_co_has (nI na) x1) = 0 then -5 else (if (fn_co_has (nI na) x2) = 0 then -5 else (if (sp_b (sp_sS na kdf dpf saf lnf btf x1.toNatClampNeg x2.toNatClampNeg)) = 0 then 0 else 1)))
abbrev rm_cx_same2 : Room := { frames := 10, cells := 0, slots := 0, locals := 259 }
abbrev po_cx_same2 (g : zz_G) (h0 : Nat) (st : Nat) (mk : Nat) (lk : Nat) (ch : Nat) (ru : Nat) (mr : Nat) (kd : Nat) (dp : Nat) (cl : Nat) (sa : Nat) (ln : Nat) (bt : Nat) (pn : Nat) (bf : Nat) (l_ag : Nat) (l_dg : Nat) (l_ds : Nat) (md : Int32) (la : Int32) (na : Nat) (nu : Nat) (n : Nat) (kdf : Nat → Int32) (dpf : Nat → Int32) (saf : Nat → Int32) (lnf : Nat → Int32) (btf : Nat → Int64) (agf : Nat → Int32) (x1 : Int32) (x2 : Int32) (h_M : zz_MI na nu dpf saf lnf btf) (h_n : n ≤ 600) (h_qa : zz_RB n agf) : Int32 → va_W → Prop := fun (r : Int32) (u : va_W) => ∃ (la2 : Int32) (n2 : Nat) (ag2 : Nat → Int32), r = fn_cx_same2 na nu kdf dpf saf lnf btf x1 x2 ∧ (n ≤ n2 ∧ n2 ≤ n + 1) ∧ (zz_RB n2 ag2) ∧ u = [cw_k6 h0 st mk lk ch ru mr md la2, cw_k5 st (nI na) (nI nu) kd dp cl sa ln bt pn bf, cw_k1 lk st (nI n2) l_ag l_dg l_ds, cw_i g kd 60 kdf, cw_i g dp 60 dpf, cw_i g sa 60 saf, cw_i g ln 60 lnf, cw_l g bt 4000 btf, cw_i g l_ag 3600 ag2]
set_option maxHeartbeats 4000000 in
set_option maxRecDepth 100000 in
theorem cx_same2 (g : zz_G) (h0 : Nat) (st : Nat) (mk : Nat) (lk : Nat) (ch : Nat) (ru : Nat) (mr : Nat) (kd : Nat) (dp : Nat) (cl : Nat) (sa : Nat) (ln : Nat) (bt : Nat) (pn : Nat) (bf : Nat) (l_ag : Nat) (l_dg : Nat) (l_ds : Nat) (md : Int32) (la : Int32) (na : Nat) (nu : Nat) (n : Nat) (kdf : Nat → Int32) (dpf : Nat → Int32) (saf : Nat → Int32) (lnf : Nat → Int32) (btf : Nat → Int64) (agf : Nat → Int32) (x1 : Int32) (x2 : Int32) (h_M : zz_MI na nu dpf saf lnf btf) (h_n : n ≤ 600) (h_qa : zz_RB n agf) : zz_I g yX7_same (.code yX7_same cX7_same 3 (some .int)) rm_cx_same2 [.ref h0, .int x1, .int x2] [cw_k6 h0 st mk lk ch ru mr md la, cw_k5 st (nI na) (nI nu) kd dp cl sa ln bt pn bf, cw_k1 lk st (nI n) l_ag l_dg l_ds, cw_i g kd 60 kdf, cw_i g dp 60 dpf, cw_i g sa 60 saf, cw_i g ln 60 lnf, cw_l g bt 4000 btf, cw_i g l_ag 3600 agf] (po_cx_same2 g h0 st mk lk ch ru mr kd dp cl sa ln bt pn bf l_ag l_dg l_ds md la na nu n kdf dpf saf lnf btf agf x1 x2 h_M h_n h_qa) := by
  refine zz_I.intro (own := RX7) (cc := cX7_same) (nL := 3) (by decide) rfl (Nat.le_of_ble_eq_true rfl) ?_
  intro p l e s m args below meth c A H locs ls hC hnm hs hZ hl
  obtain ⟨hx, hb, hml, hown, hts, hr, hlocks, hK⟩ := id hC
  have hl : lv_has ls 3 [(0, .ref h0), (1, .int x1), (2, .int x2)] := hl
  have hZ : zz_Z g A s.heap [cw_k6 h0 st mk lk ch ru mr md la, cw_k5 st (nI na) (nI nu) kd dp cl sa ln bt pn bf, cw_k1 lk st (nI n) l_ag l_dg l_ds, cw_i g kd 60 kdf, cw_i g dp 60 dpf, cw_i g sa 60 saf, cw_i g ln 60 lnf, cw_l g bt 4000 btf, cw_i g l_ag 3600 agf] H locs := hZ
  have h_S := h_M.1
  have hna := h_S.1
  have hnu := h_S.2.1
  refine lv_aload_n hx hb dX7_same_0 rfl (lv_at hl 0 rfl) ?_
  refine zz_get hC hZ 0 rfl zf_X7_10 rfl dX7_same_1 ?_
  refine lv_iload_n hx hb dX7_same_4 rfl (lv_at hl 1 rfl) ?_
  refine zz_iV (As := [.int x1]) (wc := [cw_k5 st (nI na) (nI nu) kd dp cl sa ln bt pn bf]) (wr := [cw_k6 h0 st mk lk ch ru mr md la, cw_k1 lk st (nI n) l_ag l_dg l_ds, cw_i g kd 60 kdf, cw_i g dp 60 dpf, cw_i g sa 60 saf, cw_i g ln 60 lnf, cw_l g bt 4000 btf, cw_i g l_ag 3600 agf]) (rest := []) hC hZ hs hl zc_X7_73 (co_has g st kd dp cl sa ln bt pn bf (nI na) (nI nu) x1) [1] [0, 2, 3, 4, 5, 6, 7, 8] rfl rfl (by decide +kernel) (ci := 5) (q0 := 0) rfl rfl rfl rfl (Nat.le_of_ble_eq_true rfl) ⟨⟨Nat.le_of_ble_eq_true rfl, Nat.le_of_ble_eq_true rfl⟩, Nat.le_of_ble_eq_true rfl, Nat.le_of_ble_eq_true rfl⟩ dX7_same_5 (fun r1 u2 H locs hp hZ => ?_)
  obtain ⟨rfl, rfl⟩ := hp
  have hZ : zz_Z g A s.heap [cw_k6 h0 st mk lk ch ru mr md la, cw_k1 lk st (nI n) l_ag l_dg l_ds, cw_i g kd 60 kdf, cw_i g dp 60 dpf, cw_i g sa 60 saf, cw_i g ln 60 lnf, cw_l g bt 4000 btf, cw_i g l_ag 3600 agf, cw_k5 st (nI na) (nI nu) kd dp cl sa ln bt pn bf] H locs := hZ
  refine lv_if_eq (tgt := 22) hx hb dX7_same_8 (by decide) (fun c3 => ?_) (fun c3 => ?_)
  · refine lv_aload_n hx hb dX7_same_22 rfl (lv_at hl 0 rfl) ?_
    refine lv_iconst (v := 5) hx hb dX7_same_23 (by decide) ?_
    refine zz_iV (As := [.int 5]) (wc := [cw_k6 h0 st mk lk ch ru mr md la]) (wr := [cw_k1 lk st (nI n) l_ag l_dg l_ds, cw_i g kd 60 kdf, cw_i g dp 60 dpf, cw_i g sa 60 saf, cw_i g ln 60 lnf, cw_l g bt 4000 btf, cw_i g l_ag 3600 agf, cw_k5 st (nI na) (nI nu) kd dp cl sa ln bt pn bf]) (rest := []) hC hZ hs hl zc_X7_65 (co_fail g h0 st mk lk ch ru mr md la 5) [0] [1, 2, 3, 4, 5, 6, 7, 8] rfl rfl (by decide +kernel) (ci := 6) (q0 := 0) rfl rfl rfl rfl (Nat.le_of_ble_eq_true rfl) ⟨⟨Nat.le_of_ble_eq_true rfl, Nat.le_of_ble_eq_true rfl⟩, Nat.le_of_ble_eq_true rfl, Nat.le_of_ble_eq_true rfl⟩ dX7_same_24 (fun r4 u5 H locs hp hZ => ?_)
    obtain ⟨rfl, rfl⟩ := hp
    have hZ : zz_Z g A s.heap [cw_k1 lk st (nI n) l_ag l_dg l_ds, cw_i g kd 60 kdf, cw_i g dp 60 dpf, cw_i g sa 60 saf, cw_i g ln 60 lnf, cw_l g bt 4000 btf, cw_i g l_ag 3600 agf, cw_k5 st (nI na) (nI nu) kd dp cl sa ln bt pn bf, cw_k6 h0 st mk lk ch ru mr md 5] H locs := hZ
    have hZ : zz_Z g A s.heap [cw_k6 h0 st mk lk ch ru mr md 5, cw_k5 st (nI na) (nI nu) kd dp cl sa ln bt pn bf, cw_k1 lk st (nI n) l_ag l_dg l_ds, cw_i g kd 60 kdf, cw_i g dp 60 dpf, cw_i g sa 60 saf, cw_i g ln 60 lnf, cw_l g bt 4000 btf, cw_i g l_ag 3600 agf] H locs := hZ.sub [8, 7, 0, 1, 2, 3, 4, 5, 6] (by decide +kernel) rfl
    exact zz_iret hC hZ (⟨5, n, agf, by show _ = _; rw [fn_cx_same2]; rw [if_pos c3], by omega, h_qa, rfl⟩) (Nat.le_of_ble_eq_true rfl) (Nat.le_of_ble_eq_true rfl) dX7_same_27
  · obtain ⟨a1, ha1, ea1⟩ := zl_has (by omega) c3
    have hl : lv_has ls 3 [(0, .ref h0), (1, .int (nI a1)), (2, .int x2)] := by rw [← ea1]; exact hl
    have bd6 : a1 < 2 ^ 31 := by omega
    have d_a1 : x1.toNatClampNeg = a1 := by rw [ea1]; exact nI_clamp bd6
    obtain ⟨sz1, lz1, dz1, es1, el1, ed1, g11, g21, g31, g41⟩ := h_S.2.2 a1 ha1
    have bd7 : sz1 < 2 ^ 31 := by omega
    have d_sz1 : (saf a1).toNatClampNeg = sz1 := by rw [es1]; exact nI_clamp bd7
    have bd8 : lz1 < 2 ^ 31 := by omega
    have d_lz1 : (lnf a1).toNatClampNeg = lz1 := by rw [el1]; exact nI_clamp bd8
    have bd9 : dz1 < 2 ^ 31 := by omega
    have d_dz1 : (dpf a1).toNatClampNeg = dz1 := by rw [ed1]; exact nI_clamp bd9
    refine lv_aload_n hx hb dX7_same_11 rfl (lv_at hl 0 rfl) ?_
    refine zz_get hC hZ 0 rfl zf_X7_10 rfl dX7_same_12 ?_
    refine lv_iload_n hx hb dX7_same_15 rfl (lv_at hl 2 rfl) ?_
    refine zz_iV (As := [.int x2]) (wc := [cw_k5 st (nI na) (nI nu) kd dp cl sa ln bt pn bf]) (wr := [cw_k6 h0 st mk lk ch ru mr md la, cw_k1 lk st (nI n) l_ag l_dg l_ds, cw_i g kd 60 kdf, cw_i g dp 60 dpf, cw_i g sa 60 saf, cw_i g ln 60 lnf, cw_l g bt 4000 btf, cw_i g l_ag 3600 agf]) (rest := []) hC hZ hs hl zc_X7_73 (co_has g st kd dp cl sa ln bt pn bf (nI na) (nI nu) x2) [8] [0, 1, 2, 3, 4, 5, 6, 7] rfl rfl (by decide +kernel) (ci := 5) (q0 := 0) rfl rfl rfl rfl (Nat.le_of_ble_eq_true rfl) ⟨⟨Nat.le_of_ble_eq_true rfl, Nat.le_of_ble_eq_true rfl⟩, Nat.le_of_ble_eq_true rfl, Nat.le_of_ble_eq_true rfl⟩ dX7_same_16 (fun r10 u11 H locs hp hZ => ?_)
    obtain ⟨rfl, rfl⟩ := hp
    have hZ : zz_Z g A s.heap [cw_k6 h0 st mk lk ch ru mr md la, cw_k1 lk st (nI n) l_ag l_dg l_ds, cw_i g kd 60 kdf, cw_i g dp 60 dpf, cw_i g sa 60 saf, cw_i g ln 60 lnf, cw_l g bt 4000 btf, cw_i g l_ag 3600 agf, cw_k5 st (nI na) (nI nu) kd dp cl sa ln bt pn bf] H locs := hZ
    refine lv_if_ne (tgt := 28) hx hb dX7_same_19 (by decide) (fun c12 => ?_) (fun c12 => ?_)
    · obtain ⟨a2, ha2, ea2⟩ := zl_has (by omega) c12
      have hl : lv_has ls 3 [(0, .ref h0), (1, .int (nI a1)), (2, .int (nI a2))] := by rw [← ea2]; exact hl
      have bd13 : a2 < 2 ^ 31 := by omega
      have d_a2 : x2.toNatClampNeg = a2 := by rw [ea2]; exact nI_clamp bd13
      obtain ⟨sz2, lz2, dz2, es2, el2, ed2, g12, g22, g32, g42⟩ := h_S.2.2 a2 ha2
      have bd14 : sz2 < 2 ^ 31 := by omega
      have d_sz2 : (saf a2).toNatClampNeg = sz2 := by rw [es2]; exact nI_clamp bd14
      have bd15 : lz2 < 2 ^ 31 := by omega
      have d_lz2 : (lnf a2).toNatClampNeg = lz2 := by rw [el2]; exact nI_clamp bd15
      have bd16 : dz2 < 2 ^ 31 := by omega
      have d_dz2 : (dpf a2).toNatClampNeg = dz2 := by rw [ed2]; exact nI_clamp bd16
      refine lv_aload_n hx hb dX7_same_28 rfl (lv_at hl 0 rfl) ?_
      refine lv_aload_n hx hb dX7_same_29 rfl (lv_at hl 0 rfl) ?_
      refine zz_get hC hZ 0 rfl zf_X7_28 rfl dX7_same_30 ?_
      refine lv_iload_n hx hb dX7_same_33 rfl (lv_at hl 1 rfl) ?_
      refine lv_iload_n hx hb dX7_same_34 rfl (lv_at hl 2 rfl) ?_
      refine zz_iV (As := [.int (nI a1), .int (nI a2)]) (wc := [cw_k1 lk st (nI n) l_ag l_dg l_ds, cw_i g l_ag 3600 agf, cw_k5 st (nI na) (nI nu) kd dp cl sa ln bt pn bf, cw_i g kd 60 kdf, cw_i g dp 60 dpf, cw_i g sa 60 saf, cw_i g ln 60 lnf, cw_l g bt 4000 btf]) (wr := [cw_k6 h0 st mk lk ch ru mr md la]) (rest := [.ref h0]) hC hZ hs hl zc_X7_203 (co_agr g lk l_ag l_dg l_ds st kd dp cl sa ln bt pn bf na nu n kdf dpf saf lnf btf agf a1 a2 (h_M) (⟨ha1, ha2⟩) (h_n) (h_qa)) [1, 7, 8, 2, 3, 4, 5, 6] [0] rfl rfl (by decide +kernel) (ci := 1) (q0 := 0) rfl rfl rfl rfl (Nat.le_of_ble_eq_true rfl) ⟨⟨Nat.le_of_ble_eq_true rfl, Nat.le_of_ble_eq_true rfl⟩, Nat.le_of_ble_eq_true rfl, Nat.le_of_ble_eq_true rfl⟩ dX7_same_35 (fun r17 u18 H locs hp hZ => ?_)
      obtain ⟨ag2_19, f20, f21, rfl⟩ := hp
      have hZ : zz_Z g A s.heap [cw_k6 h0 st mk lk ch ru mr md la, cw_k1 lk st (nI (n + 1)) l_ag l_dg l_ds, cw_i g l_ag 3600 ag2_19, cw_k5 st (nI na) (nI nu) kd dp cl sa ln bt pn bf, cw_i g kd 60 kdf, cw_i g dp 60 dpf, cw_i g sa 60 saf, cw_i g ln 60 lnf, cw_l g bt 4000 btf] H locs := hZ
      have d_r17 : sp_b (sp_sS na kdf dpf saf lnf btf a1 a2) = r17 := f20.symm
      refine lv_if_eq (tgt := 45) hx hb dX7_same_38 (by decide) (fun c22 => ?_) (fun c22 => ?_)
      · refine lv_iconst (v := 0) hx hb dX7_same_45 (by decide) ?_
        refine zz_iV (As := [.int 0]) (wc := [cw_k6 h0 st mk lk ch ru mr md la]) (wr := [cw_k1 lk st (nI (n + 1)) l_ag l_dg l_ds, cw_i g l_ag 3600 ag2_19, cw_k5 st (nI na) (nI nu) kd dp cl sa ln bt pn bf, cw_i g kd 60 kdf, cw_i g dp 60 dpf, cw_i g sa 60 saf, cw_i g ln 60 lnf, cw_l g bt 4000 btf]) (rest := []) hC hZ hs hl zc_X7_100 (co_fine g h0 st mk lk ch ru mr md la 0) [0] [1, 2, 3, 4, 5, 6, 7, 8] rfl rfl (by decide +kernel) (ci := 6) (q0 := 0) rfl rfl rfl rfl (Nat.le_of_ble_eq_true rfl) ⟨⟨Nat.le_of_ble_eq_true rfl, Nat.le_of_ble_eq_true rfl⟩, Nat.le_of_ble_eq_true rfl, Nat.le_of_ble_eq_true rfl⟩ dX7_same_46 (fun r23 u24 H locs hp hZ => ?_)
        obtain ⟨rfl, rfl⟩ := hp
        have hZ : zz_Z g A s.heap [cw_k1 lk st (nI (n + 1)) l_ag l_dg l_ds, cw_i g l_ag 3600 ag2_19, cw_k5 st (nI na) (nI nu) kd dp cl sa ln bt pn bf, cw_i g kd 60 kdf, cw_i g dp 60 dpf, cw_i g sa 60 saf, cw_i g ln 60 lnf, cw_l g bt 4000 btf, cw_k6 h0 st mk lk ch ru mr md 0] H locs := hZ
        have hZ : zz_Z g A s.heap [cw_k6 h0 st mk lk ch ru mr md 0, cw_k5 st (nI na) (nI nu) kd dp cl sa ln bt pn bf, cw_k1 lk st (nI (n + 1)) l_ag l_dg l_ds, cw_i g kd 60 kdf, cw_i g dp 60 dpf, cw_i g sa 60 saf, cw_i g ln 60 lnf, cw_l g bt 4000 btf, cw_i g l_ag 3600 ag2_19] H locs := hZ.sub [8, 2, 0, 3, 4, 5, 6, 7, 1] (by decide +kernel) rfl
        exact zz_iret hC hZ (⟨0, (n + 1), ag2_19, by refine Eq.symm ?_; rw [fn_cx_same2]; refine (if_neg (by (try simp only [d_a1, d_sz1, d_lz1, d_dz1, d_a2, d_sz2, d_lz2, d_dz2, d_r17]); exact c3)).trans ?_; refine (if_neg (by (try simp only [d_a1, d_sz1, d_lz1, d_dz1, d_a2, d_sz2, d_lz2, d_dz2, d_r17]); exact c12)).trans ?_; refine (if_pos (by (try simp only [d_a1, d_sz1, d_lz1, d_dz1, d_a2, d_sz2, d_lz2, d_dz2, d_r17]); exact c22)).trans ?_; first | (simp only [d_a1, d_sz1, d_lz1, d_dz1, d_a2, d_sz2, d_lz2, d_dz2, d_r17]; done) | rfl, by omega, f21, rfl⟩) (Nat.le_of_ble_eq_true rfl) (Nat.le_of_ble_eq_true rfl) dX7_same_49
      · refine lv_iconst (v := 1) hx hb dX7_same_41 (by decide) ?_
        refine lv_goto (tgt := 46) hx hb dX7_same_42 (by decide) ?_
        refine zz_iV (As := [.int 1]) (wc := [cw_k6 h0 st mk lk ch ru mr md la]) (wr := [cw_k1 lk st (nI (n + 1)) l_ag l_dg l_ds, cw_i g l_ag 3600 ag2_19, cw_k5 st (nI na) (nI nu) kd dp cl sa ln bt pn bf, cw_i g kd 60 kdf, cw_i g dp 60 dpf, cw_i g sa 60 saf, cw_i g ln 60 lnf, cw_l g bt 4000 btf]) (rest := []) hC hZ hs hl zc_X7_100 (co_fine g h0 st mk lk ch ru mr md la 1) [0] [1, 2, 3, 4, 5, 6, 7, 8] rfl rfl (by decide +kernel) (ci := 6) (q0 := 0) rfl rfl rfl rfl (Nat.le_of_ble_eq_true rfl) ⟨⟨Nat.le_of_ble_eq_true rfl, Nat.le_of_ble_eq_true rfl⟩, Nat.le_of_ble_eq_true rfl, Nat.le_of_ble_eq_true rfl⟩ dX7_same_46 (fun r25 u26 H locs hp hZ => ?_)
        obtain ⟨rfl, rfl⟩ := hp
        have hZ : zz_Z g A s.heap [cw_k1 lk st (nI (n + 1)) l_ag l_dg l_ds, cw_i g l_ag 3600 ag2_19, cw_k5 st (nI na) (nI nu) kd dp cl sa ln bt pn bf, cw_i g kd 60 kdf, cw_i g dp 60 dpf, cw_i g sa 60 saf, cw_i g ln 60 lnf, cw_l g bt 4000 btf, cw_k6 h0 st mk lk ch ru mr md 0] H locs := hZ
        have hZ : zz_Z g A s.heap [cw_k6 h0 st mk lk ch ru mr md 0, cw_k5 st (nI na) (nI nu) kd dp cl sa ln bt pn bf, cw_k1 lk st (nI (n + 1)) l_ag l_dg l_ds, cw_i g kd 60 kdf, cw_i g dp 60 dpf, cw_i g sa 60 saf, cw_i g ln 60 lnf, cw_l g bt 4000 btf, cw_i g l_ag 3600 ag2_19] H locs := hZ.sub [8, 2, 0, 3, 4, 5, 6, 7, 1] (by decide +kernel) rfl
        exact zz_iret hC hZ (⟨0, (n + 1), ag2_19, by refine Eq.symm ?_; rw [fn_cx_same2]; refine (if_neg (by (try simp only [d_a1, d_sz1, d_lz1, d_dz1, d_a2, d_sz2, d_lz2, d_dz2, d_r17]); exact c3)).trans ?_; refine (if_neg (by (try simp only [d_a1, d_sz1, d_lz1, d_dz1, d_a2, d_sz2, d_lz2, d_dz2, d_r17]); exact c12)).trans ?_; refine (if_neg (by (try simp only [d_a1, d_sz1, d_lz1, d_dz1, d_a2, d_sz2, d_lz2, d_dz2, d_r17]); exact c22)).trans ?_; first | (simp only [d_a1, d_sz1, d_lz1, d_dz1, d_a2, d_sz2, d_lz2, d_dz2, d_r17]; done) | rfl, by omega, f21, rfl⟩) (Nat.le_of_ble_eq_true rfl) (Nat.le_of_ble_eq_true rfl) dX7_same_49
    · refine lv_aload_n hx hb dX7_same_22 rfl (lv_at hl 0 rfl) ?_
      refine lv_iconst (v := 5) hx hb dX7_same_23 (by decide) ?_
      refine zz_iV (As := [.int 5]) (wc := [cw_k6 h0 st mk lk ch ru mr md la]) (wr := [cw_k1 lk st (nI n) l_ag l_dg l_ds, cw_i g kd 60 kdf, cw_i g dp 60 dpf, cw_i g sa 60 saf, cw_i g ln 60 lnf, cw_l g bt 4000 btf, cw_i g l_ag 3600 agf, cw_k5 st (nI na) (nI nu) kd dp cl sa ln bt pn bf]) (rest := []) hC hZ hs hl zc_X7_65 (co_fail g h0 st mk lk ch ru mr md la 5) [0] [1, 2, 3, 4, 5, 6, 7, 8] rfl rfl (by decide +kernel) (ci := 6) (q0 := 0) rfl rfl rfl rfl (Nat.le_of_ble_eq_true rfl) ⟨⟨Nat.le_of_ble_eq_true rfl, Nat.le_of_ble_eq_true rfl⟩, Nat.le_of_ble_eq_true rfl, Nat.le_of_ble_eq_true rfl⟩ dX7_same_24 (fun r27 u28 H locs hp hZ => ?_)
      obtain ⟨rfl, rfl⟩ := hp
      have hZ : zz_Z g A s.heap [cw_k1 lk st (nI n) l_ag l_dg l_ds, cw_i g kd 60 kdf, cw_i g dp 60 dpf, cw_i g sa 60 saf, cw_i g ln 60 lnf, cw_l g bt 4000 btf, cw_i g l_ag 3600 agf, cw_k5 st (nI na) (nI nu) kd dp cl sa ln bt pn bf, cw_k6 h0 st mk lk ch ru mr md 5] H locs := hZ
      have hZ : zz_Z g A s.heap [cw_k6 h0 st mk lk ch ru mr md 5, cw_k5 st (nI na) (nI nu) kd dp cl sa ln bt pn bf, cw_k1 lk st (nI n) l_ag l_dg l_ds, cw_i g kd 60 kdf, cw_i g dp 60 dpf, cw_i g sa 60 saf, cw_i g ln 60 lnf, cw_l g bt 4000 btf, cw_i g l_ag 3600 agf] H locs := hZ.sub [8, 7, 0, 1, 2, 3, 4, 5, 6] (by decide +kernel) rfl
      exact zz_iret hC hZ (⟨5, n, agf, by refine Eq.symm ?_; rw [fn_cx_same2]; refine (if_neg (by (try simp only [d_a1, d_sz1, d_lz1, d_dz1]); exact c3)).trans ?_; refine (if_pos (by (try simp only [d_a1, d_sz1, d_lz1, d_dz1]); exact c12)).trans ?_; first | (simp only [d_a1, d_sz1, d_lz1, d_dz1]; done) | rfl, by omega, h_qa, rfl⟩) (Nat.le_of_ble_eq_true rfl) (Nat.le_of_ble_eq_true rfl) dX7_same_27
theorem dg_X8_isSame_0 : (decode cX8_isSame 0 = .ok (.aload_n 0, 1)) ∧ (decode cX8_isSame 1 = .ok (.getfield 7, 3)) ∧ (decode cX8_isSame 4 = .ok (.iload_n 1, 1)) ∧ (decode cX8_isSame 5 = .ok (.iaload, 1)) ∧ (decode cX8_isSame 6 = .ok (.aload_n 0, 1)) ∧ (decode cX8_isSame 7 = .ok (.getfield 7, 3)) ∧ (decode cX8_isSame 10 = .ok (.iload_n 2, 1)) ∧ (decode cX8_isSame 11 = .ok (.iaload, 1)) ∧ (decode cX8_isSame 12 = .ok (.if_icmp .ne 37, 3)) ∧ (decode cX8_isSame 15 = .ok (.aload_n 0, 1)) ∧ (decode cX8_isSame 16 = .ok (.getfield 13, 3)) ∧ (decode cX8_isSame 19 = .ok (.iload_n 1, 1)) ∧ (decode cX8_isSame 20 = .ok (.iaload, 1)) ∧ (decode cX8_isSame 21 = .ok (.aload_n 0, 1)) ∧ (decode cX8_isSame 22 = .ok (.getfield 13, 3)) ∧ (decode cX8_isSame 25 = .ok (.iload_n 2, 1)) := by decide +kernel
theorem dX8_isSame_0 : decode cX8_isSame 0 = .ok (.aload_n 0, 1) := dg_X8_isSame_0.1
theorem dX8_isSame_1 : decode cX8_isSame 1 = .ok (.getfield 7, 3) := dg_X8_isSame_0.2.1
theorem dX8_isSame_4 : decode cX8_isSame 4 = .ok (.iload_n 1, 1) := dg_X8_isSame_0.2.2.1
theorem dX8_isSame_5 : decode cX8_isSame 5 = .ok (.iaload, 1) := dg_X8_isSame_0.2.2.2.1
theorem dX8_isSame_6 : decode cX8_isSame 6 = .ok (.aload_n 0, 1) := dg_X8_isSame_0.2.2.2.2.1
theorem dX8_isSame_7 : decode cX8_isSame 7 = .ok (.getfield 7, 3) := dg_X8_isSame_0.2.2.2.2.2.1
theorem dX8_isSame_10 : decode cX8_isSame 10 = .ok (.iload_n 2, 1) := dg_X8_isSame_0.2.2.2.2.2.2.1
theorem dX8_isSame_11 : decode cX8_isSame 11 = .ok (.iaload, 1) := dg_X8_isSame_0.2.2.2.2.2.2.2.1
theorem dX8_isSame_12 : decode cX8_isSame 12 = .ok (.if_icmp .ne 37, 3) := dg_X8_isSame_0.2.2.2.2.2.2.2.2.1
theorem dX8_isSame_15 : decode cX8_isSame 15 = .ok (.aload_n 0, 1) := dg_X8_isSame_0.2.2.2.2.2.2.2.2.2.1
theorem dX8_isSame_16 : decode cX8_isSame 16 = .ok (.getfield 13, 3) := dg_X8_isSame_0.2.2.2.2.2.2.2.2.2.2.1
theorem dX8_isSame_19 : decode cX8_isSame 19 = .ok (.iload_n 1, 1) := dg_X8_isSame_0.2.2.2.2.2.2.2.2.2.2.2.1
theorem dX8_isSame_20 : decode cX8_isSame 20 = .ok (.iaload, 1) := dg_X8_isSame_0.2.2.2.2.2.2.2.2.2.2.2.2.1
theorem dX8_isSame_21 : decode cX8_isSame 21 = .ok (.aload_n 0, 1) := dg_X8_isSame_0.2.2.2.2.2.2.2.2.2.2.2.2.2.1
theorem dX8_isSame_22 : decode cX8_isSame 22 = .ok (.getfield 13, 3) := dg_X8_isSame_0.2.2.2.2.2.2.2.2.2.2.2.2.2.2.1
theorem dX8_isSame_25 : decode cX8_isSame 25 = .ok (.iload_n 2, 1) := dg_X8_isSame_0.2.2.2.2.2.2.2.2.2.2.2.2.2.2.2
theorem dg_X8_isSame_26 : (decode cX8_isSame 26 = .ok (.iaload, 1)) ∧ (decode cX8_isSame 27 = .ok (.if_icmp .ne 22, 3)) ∧ (decode cX8_isSame 30 = .ok (.aload_n 0, 1)) ∧ (decode cX8_isSame 31 = .ok (.getfield 16, 3)) ∧ (decode cX8_isSame 34 = .ok (.iload_n 1, 1)) ∧ (decode cX8_isSame 35 = .ok (.iaload, 1)) ∧ (decode cX8_isSame 36 = .ok (.aload_n 0, 1)) ∧ (decode cX8_isSame 37 = .ok (.getfield 16, 3)) ∧ (decode cX8_isSame 40 = .ok (.iload_n 2, 1)) ∧ (decode cX8_isSame 41 = .ok (.iaload, 1)) ∧ (decode cX8_isSame 42 = .ok (.if_icmp .ne 7, 3)) ∧ (decode cX8_isSame 45 = .ok (.iconst 1, 1)) ∧ (decode cX8_isSame 46 = .ok (.goto 4, 3)) ∧ (decode cX8_isSame 49 = .ok (.iconst 0, 1)) ∧ (decode cX8_isSame 50 = .ok (.istore_n 3, 1)) ∧ (decode cX8_isSame 51 = .ok (.iconst 0, 1)) := by decide +kernel
theorem dX8_isSame_26 : decode cX8_isSame 26 = .ok (.iaload, 1) := dg_X8_isSame_26.1
theorem dX8_isSame_27 : decode cX8_isSame 27 = .ok (.if_icmp .ne 22, 3) := dg_X8_isSame_26.2.1
theorem dX8_isSame_30 : decode cX8_isSame 30 = .ok (.aload_n 0, 1) := dg_X8_isSame_26.2.2.1
theorem dX8_isSame_31 : decode cX8_isSame 31 = .ok (.getfield 16, 3) := dg_X8_isSame_26.2.2.2.1
theorem dX8_isSame_34 : decode cX8_isSame 34 = .ok (.iload_n 1, 1) := dg_X8_isSame_26.2.2.2.2.1
theorem dX8_isSame_35 : decode cX8_isSame 35 = .ok (.iaload, 1) := dg_X8_isSame_26.2.2.2.2.2.1
theorem dX8_isSame_36 : decode cX8_isSame 36 = .ok (.aload_n 0, 1) := dg_X8_isSame_26.2.2.2.2.2.2.1
theorem dX8_isSame_37 : decode cX8_isSame 37 = .ok (.getfield 16, 3) := dg_X8_isSame_26.2.2.2.2.2.2.2.1
theorem dX8_isSame_40 : decode cX8_isSame 40 = .ok (.iload_n 2, 1) := dg_X8_isSame_26.2.2.2.2.2.2.2.2.1
theorem dX8_isSame_41 : decode cX8_isSame 41 = .ok (.iaload, 1) := dg_X8_isSame_26.2.2.2.2.2.2.2.2.2.1
theorem dX8_isSame_42 : decode cX8_isSame 42 = .ok (.if_icmp .ne 7, 3) := dg_X8_isSame_26.2.2.2.2.2.2.2.2.2.2.1
theorem dX8_isSame_45 : decode cX8_isSame 45 = .ok (.iconst 1, 1) := dg_X8_isSame_26.2.2.2.2.2.2.2.2.2.2.2.1
theorem dX8_isSame_46 : decode cX8_isSame 46 = .ok (.goto 4, 3) := dg_X8_isSame_26.2.2.2.2.2.2.2.2.2.2.2.2.1
theorem dX8_isSame_49 : decode cX8_isSame 49 = .ok (.iconst 0, 1) := dg_X8_isSame_26.2.2.2.2.2.2.2.2.2.2.2.2.2.1
theorem dX8_isSame_50 : decode cX8_isSame 50 = .ok (.istore_n 3, 1) := dg_X8_isSame_26.2.2.2.2.2.2.2.2.2.2.2.2.2.2.1
theorem dX8_isSame_51 : decode cX8_isSame 51 = .ok (.iconst 0, 1) := dg_X8_isSame_26.2.2.2.2.2.2.2.2.2.2.2.2.2.2.2
theorem dg_X8_isSame_52 : (decode cX8_isSame 52 = .ok (.istore 4, 2)) ∧ (decode cX8_isSame 54 = .ok (.iload 4, 2)) ∧ (decode cX8_isSame 56 = .ok (.aload_n 0, 1)) ∧ (decode cX8_isSame 57 = .ok (.getfield 16, 3)) ∧ (decode cX8_isSame 60 = .ok (.iload_n 1, 1)) ∧ (decode cX8_isSame 61 = .ok (.iaload, 1)) ∧ (decode cX8_isSame 62 = .ok (.if_icmp .ge 105, 3)) ∧ (decode cX8_isSame 65 = .ok (.iload_n 3, 1)) ∧ (decode cX8_isSame 66 = .ok (.ifCond .eq 101, 3)) ∧ (decode cX8_isSame 69 = .ok (.aload_n 0, 1)) ∧ (decode cX8_isSame 70 = .ok (.getfield 25, 3)) ∧ (decode cX8_isSame 73 = .ok (.aload_n 0, 1)) ∧ (decode cX8_isSame 74 = .ok (.getfield 22, 3)) ∧ (decode cX8_isSame 77 = .ok (.iload_n 1, 1)) ∧ (decode cX8_isSame 78 = .ok (.iaload, 1)) ∧ (decode cX8_isSame 79 = .ok (.iload 4, 2)) := by decide +kernel
theorem dX8_isSame_52 : decode cX8_isSame 52 = .ok (.istore 4, 2) := dg_X8_isSame_52.1
theorem dX8_isSame_54 : decode cX8_isSame 54 = .ok (.iload 4, 2) := dg_X8_isSame_52.2.1
theorem dX8_isSame_56 : decode cX8_isSame 56 = .ok (.aload_n 0, 1) := dg_X8_isSame_52.2.2.1
theorem dX8_isSame_57 : decode cX8_isSame 57 = .ok (.getfield 16, 3) := dg_X8_isSame_52.2.2.2.1
theorem dX8_isSame_60 : decode cX8_isSame 60 = .ok (.iload_n 1, 1) := dg_X8_isSame_52.2.2.2.2.1
theorem dX8_isSame_61 : decode cX8_isSame 61 = .ok (.iaload, 1) := dg_X8_isSame_52.2.2.2.2.2.1
theorem dX8_isSame_62 : decode cX8_isSame 62 = .ok (.if_icmp .ge 105, 3) := dg_X8_isSame_52.2.2.2.2.2.2.1
theorem dX8_isSame_65 : decode cX8_isSame 65 = .ok (.iload_n 3, 1) := dg_X8_isSame_52.2.2.2.2.2.2.2.1
theorem dX8_isSame_66 : decode cX8_isSame 66 = .ok (.ifCond .eq 101, 3) := dg_X8_isSame_52.2.2.2.2.2.2.2.2.1
theorem dX8_isSame_69 : decode cX8_isSame 69 = .ok (.aload_n 0, 1) := dg_X8_isSame_52.2.2.2.2.2.2.2.2.2.1
theorem dX8_isSame_70 : decode cX8_isSame 70 = .ok (.getfield 25, 3) := dg_X8_isSame_52.2.2.2.2.2.2.2.2.2.2.1
theorem dX8_isSame_73 : decode cX8_isSame 73 = .ok (.aload_n 0, 1) := dg_X8_isSame_52.2.2.2.2.2.2.2.2.2.2.2.1
theorem dX8_isSame_74 : decode cX8_isSame 74 = .ok (.getfield 22, 3) := dg_X8_isSame_52.2.2.2.2.2.2.2.2.2.2.2.2.1
theorem dX8_isSame_77 : decode cX8_isSame 77 = .ok (.iload_n 1, 1) := dg_X8_isSame_52.2.2.2.2.2.2.2.2.2.2.2.2.2.1
theorem dX8_isSame_78 : decode cX8_isSame 78 = .ok (.iaload, 1) := dg_X8_isSame_52.2.2.2.2.2.2.2.2.2.2.2.2.2.2.1
theorem dX8_isSame_79 : decode cX8_isSame 79 = .ok (.iload 4, 2) := dg_X8_isSame_52.2.2.2.2.2.2.2.2.2.2.2.2.2.2.2
theorem dg_X8_isSame_81 : (decode cX8_isSame 81 = .ok (.iadd, 1)) ∧ (decode cX8_isSame 82 = .ok (.laload, 1)) ∧ (decode cX8_isSame 83 = .ok (.lstore 5, 2)) ∧ (decode cX8_isSame 85 = .ok (.aload_n 0, 1)) ∧ (decode cX8_isSame 86 = .ok (.getfield 25, 3)) ∧ (decode cX8_isSame 89 = .ok (.aload_n 0, 1)) ∧ (decode cX8_isSame 90 = .ok (.getfield 22, 3)) ∧ (decode cX8_isSame 93 = .ok (.iload_n 2, 1)) ∧ (decode cX8_isSame 94 = .ok (.iaload, 1)) ∧ (decode cX8_isSame 95 = .ok (.iload 4, 2)) ∧ (decode cX8_isSame 97 = .ok (.iadd, 1)) ∧ (decode cX8_isSame 98 = .ok (.laload, 1)) ∧ (decode cX8_isSame 99 = .ok (.lstore 7, 2)) ∧ (decode cX8_isSame 101 = .ok (.lload 5, 2)) ∧ (decode cX8_isSame 103 = .ok (.lload 7, 2)) ∧ (decode cX8_isSame 105 = .ok (.lcmp, 1)) := by decide +kernel
theorem dX8_isSame_81 : decode cX8_isSame 81 = .ok (.iadd, 1) := dg_X8_isSame_81.1
theorem dX8_isSame_82 : decode cX8_isSame 82 = .ok (.laload, 1) := dg_X8_isSame_81.2.1
theorem dX8_isSame_83 : decode cX8_isSame 83 = .ok (.lstore 5, 2) := dg_X8_isSame_81.2.2.1
theorem dX8_isSame_85 : decode cX8_isSame 85 = .ok (.aload_n 0, 1) := dg_X8_isSame_81.2.2.2.1
theorem dX8_isSame_86 : decode cX8_isSame 86 = .ok (.getfield 25, 3) := dg_X8_isSame_81.2.2.2.2.1
theorem dX8_isSame_89 : decode cX8_isSame 89 = .ok (.aload_n 0, 1) := dg_X8_isSame_81.2.2.2.2.2.1
theorem dX8_isSame_90 : decode cX8_isSame 90 = .ok (.getfield 22, 3) := dg_X8_isSame_81.2.2.2.2.2.2.1
theorem dX8_isSame_93 : decode cX8_isSame 93 = .ok (.iload_n 2, 1) := dg_X8_isSame_81.2.2.2.2.2.2.2.1
theorem dX8_isSame_94 : decode cX8_isSame 94 = .ok (.iaload, 1) := dg_X8_isSame_81.2.2.2.2.2.2.2.2.1
theorem dX8_isSame_95 : decode cX8_isSame 95 = .ok (.iload 4, 2) := dg_X8_isSame_81.2.2.2.2.2.2.2.2.2.1
theorem dX8_isSame_97 : decode cX8_isSame 97 = .ok (.iadd, 1) := dg_X8_isSame_81.2.2.2.2.2.2.2.2.2.2.1
theorem dX8_isSame_98 : decode cX8_isSame 98 = .ok (.laload, 1) := dg_X8_isSame_81.2.2.2.2.2.2.2.2.2.2.2.1
theorem dX8_isSame_99 : decode cX8_isSame 99 = .ok (.lstore 7, 2) := dg_X8_isSame_81.2.2.2.2.2.2.2.2.2.2.2.2.1
theorem dX8_isSame_101 : decode cX8_isSame 101 = .ok (.lload 5, 2) := dg_X8_isSame_81.2.2.2.2.2.2.2.2.2.2.2.2.2.1
theorem dX8_isSame_103 : decode cX8_isSame 103 = .ok (.lload 7, 2) := dg_X8_isSame_81.2.2.2.2.2.2.2.2.2.2.2.2.2.2.1
theorem dX8_isSame_105 : decode cX8_isSame 105 = .ok (.lcmp, 1) := dg_X8_isSame_81.2.2.2.2.2.2.2.2.2.2.2.2.2.2.2
theorem dg_X8_isSame_106 : (decode cX8_isSame 106 = .ok (.ifCond .eq 49, 3)) ∧ (decode cX8_isSame 109 = .ok (.aload_n 0, 1)) ∧ (decode cX8_isSame 110 = .ok (.getfield 13, 3)) ∧ (decode cX8_isSame 113 = .ok (.iload_n 1, 1)) ∧ (decode cX8_isSame 114 = .ok (.iaload, 1)) ∧ (decode cX8_isSame 115 = .ok (.iconst 1, 1)) ∧ (decode cX8_isSame 116 = .ok (.if_icmp .le 43, 3)) ∧ (decode cX8_isSame 119 = .ok (.lload 5, 2)) ∧ (decode cX8_isSame 121 = .ok (.ldc2_w 171, 3)) ∧ (decode cX8_isSame 124 = .ok (.lcmp, 1)) ∧ (decode cX8_isSame 125 = .ok (.ifCond .eq 34, 3)) ∧ (decode cX8_isSame 128 = .ok (.lload 7, 2)) ∧ (decode cX8_isSame 130 = .ok (.ldc2_w 171, 3)) ∧ (decode cX8_isSame 133 = .ok (.lcmp, 1)) ∧ (decode cX8_isSame 134 = .ok (.ifCond .eq 25, 3)) ∧ (decode cX8_isSame 137 = .ok (.aload_n 0, 1)) := by decide +kernel
theorem dX8_isSame_106 : decode cX8_isSame 106 = .ok (.ifCond .eq 49, 3) := dg_X8_isSame_106.1
theorem dX8_isSame_109 : decode cX8_isSame 109 = .ok (.aload_n 0, 1) := dg_X8_isSame_106.2.1
theorem dX8_isSame_110 : decode cX8_isSame 110 = .ok (.getfield 13, 3) := dg_X8_isSame_106.2.2.1
theorem dX8_isSame_113 : decode cX8_isSame 113 = .ok (.iload_n 1, 1) := dg_X8_isSame_106.2.2.2.1
theorem dX8_isSame_114 : decode cX8_isSame 114 = .ok (.iaload, 1) := dg_X8_isSame_106.2.2.2.2.1
theorem dX8_isSame_115 : decode cX8_isSame 115 = .ok (.iconst 1, 1) := dg_X8_isSame_106.2.2.2.2.2.1
theorem dX8_isSame_116 : decode cX8_isSame 116 = .ok (.if_icmp .le 43, 3) := dg_X8_isSame_106.2.2.2.2.2.2.1
theorem dX8_isSame_119 : decode cX8_isSame 119 = .ok (.lload 5, 2) := dg_X8_isSame_106.2.2.2.2.2.2.2.1
theorem dX8_isSame_121 : decode cX8_isSame 121 = .ok (.ldc2_w 171, 3) := dg_X8_isSame_106.2.2.2.2.2.2.2.2.1
theorem dX8_isSame_124 : decode cX8_isSame 124 = .ok (.lcmp, 1) := dg_X8_isSame_106.2.2.2.2.2.2.2.2.2.1
theorem dX8_isSame_125 : decode cX8_isSame 125 = .ok (.ifCond .eq 34, 3) := dg_X8_isSame_106.2.2.2.2.2.2.2.2.2.2.1
theorem dX8_isSame_128 : decode cX8_isSame 128 = .ok (.lload 7, 2) := dg_X8_isSame_106.2.2.2.2.2.2.2.2.2.2.2.1
theorem dX8_isSame_130 : decode cX8_isSame 130 = .ok (.ldc2_w 171, 3) := dg_X8_isSame_106.2.2.2.2.2.2.2.2.2.2.2.2.1
theorem dX8_isSame_133 : decode cX8_isSame 133 = .ok (.lcmp, 1) := dg_X8_isSame_106.2.2.2.2.2.2.2.2.2.2.2.2.2.1
theorem dX8_isSame_134 : decode cX8_isSame 134 = .ok (.ifCond .eq 25, 3) := dg_X8_isSame_106.2.2.2.2.2.2.2.2.2.2.2.2.2.2.1
theorem dX8_isSame_137 : decode cX8_isSame 137 = .ok (.aload_n 0, 1) := dg_X8_isSame_106.2.2.2.2.2.2.2.2.2.2.2.2.2.2.2
theorem dg_X8_isSame_138 : (decode cX8_isSame 138 = .ok (.getfield 51, 3)) ∧ (decode cX8_isSame 141 = .ok (.ldc2_w 208, 3)) ∧ (decode cX8_isSame 144 = .ok (.lload 5, 2)) ∧ (decode cX8_isSame 146 = .ok (.lmul, 1)) ∧ (decode cX8_isSame 147 = .ok (.lload 7, 2)) ∧ (decode cX8_isSame 149 = .ok (.ladd, 1)) ∧ (decode cX8_isSame 150 = .ok (.l2i, 1)) ∧ (decode cX8_isSame 151 = .ok (.baload, 1)) ∧ (decode cX8_isSame 152 = .ok (.ifCond .eq 7, 3)) ∧ (decode cX8_isSame 155 = .ok (.iconst 1, 1)) ∧ (decode cX8_isSame 156 = .ok (.goto 4, 3)) ∧ (decode cX8_isSame 159 = .ok (.iconst 0, 1)) ∧ (decode cX8_isSame 160 = .ok (.istore_n 3, 1)) ∧ (decode cX8_isSame 161 = .ok (.iinc 4 1, 3)) ∧ (decode cX8_isSame 164 = .ok (.goto (-110), 3)) ∧ (decode cX8_isSame 167 = .ok (.iload_n 3, 1)) := by decide +kernel
theorem dX8_isSame_138 : decode cX8_isSame 138 = .ok (.getfield 51, 3) := dg_X8_isSame_138.1
theorem dX8_isSame_141 : decode cX8_isSame 141 = .ok (.ldc2_w 208, 3) := dg_X8_isSame_138.2.1
theorem dX8_isSame_144 : decode cX8_isSame 144 = .ok (.lload 5, 2) := dg_X8_isSame_138.2.2.1
theorem dX8_isSame_146 : decode cX8_isSame 146 = .ok (.lmul, 1) := dg_X8_isSame_138.2.2.2.1
theorem dX8_isSame_147 : decode cX8_isSame 147 = .ok (.lload 7, 2) := dg_X8_isSame_138.2.2.2.2.1
theorem dX8_isSame_149 : decode cX8_isSame 149 = .ok (.ladd, 1) := dg_X8_isSame_138.2.2.2.2.2.1
theorem dX8_isSame_150 : decode cX8_isSame 150 = .ok (.l2i, 1) := dg_X8_isSame_138.2.2.2.2.2.2.1
theorem dX8_isSame_151 : decode cX8_isSame 151 = .ok (.baload, 1) := dg_X8_isSame_138.2.2.2.2.2.2.2.1
theorem dX8_isSame_152 : decode cX8_isSame 152 = .ok (.ifCond .eq 7, 3) := dg_X8_isSame_138.2.2.2.2.2.2.2.2.1
theorem dX8_isSame_155 : decode cX8_isSame 155 = .ok (.iconst 1, 1) := dg_X8_isSame_138.2.2.2.2.2.2.2.2.2.1
theorem dX8_isSame_156 : decode cX8_isSame 156 = .ok (.goto 4, 3) := dg_X8_isSame_138.2.2.2.2.2.2.2.2.2.2.1
theorem dX8_isSame_159 : decode cX8_isSame 159 = .ok (.iconst 0, 1) := dg_X8_isSame_138.2.2.2.2.2.2.2.2.2.2.2.1
theorem dX8_isSame_160 : decode cX8_isSame 160 = .ok (.istore_n 3, 1) := dg_X8_isSame_138.2.2.2.2.2.2.2.2.2.2.2.2.1
theorem dX8_isSame_161 : decode cX8_isSame 161 = .ok (.iinc 4 1, 3) := dg_X8_isSame_138.2.2.2.2.2.2.2.2.2.2.2.2.2.1
theorem dX8_isSame_164 : decode cX8_isSame 164 = .ok (.goto (-110), 3) := dg_X8_isSame_138.2.2.2.2.2.2.2.2.2.2.2.2.2.2.1
theorem dX8_isSame_167 : decode cX8_isSame 167 = .ok (.iload_n 3, 1) := dg_X8_isSame_138.2.2.2.2.2.2.2.2.2.2.2.2.2.2.2
theorem dg_X8_isSame_168 : (decode cX8_isSame 168 = .ok (.ireturn, 1)) := by decide +kernel
theorem dX8_isSame_168 : decode cX8_isSame 168 = .ok (.ireturn, 1) := dg_X8_isSame_168
theorem zf_X8_51 : zz_f RX8 51 7 18 := ⟨RX8, TX8, 37, rfl, zi_X8, by decide, zk_753⟩
abbrev rm_cm_isSame2 : Room := { frames := 0, cells := 0, slots := 0, locals := 0 }
abbrev po_cm_isSame2 (g : zz_G) (h0 : Nat) (a_kindOf : Nat) (a_depthOf : Nat) (a_lengthOf : Nat) (a_classOf : Nat) (a_baseOf : Nat) (a_bits : Nat) (a_pinned : Nat) (a_lengths : Nat) (a_stackArray : Nat) (a_stackOther : Nat) (a_stackAt : Nat) (a_path : Nat) (a_held : Nat) (a_alike : Nat) (a_hashes : Nat) (a_decisionArray : Nat) (a_decisionPlace : Nat) (a_candidateMany : Nat) (a_candidates : Nat) (a_ruleSort : Nat) (a_ruleArray : Nat) (a_ruleWeight : Nat) (a_ruleLow : Nat) (a_ruleHigh : Nat) (a_chosen : Nat) (a_bestOf : Nat) (a_markElements : Nat) (a_markBits : Nat) (a_markPins : Nat) (na : Nat) (ne : Nat) (nd : Nat) (nr : Nat) (nm : Nat) (i_code : Int32) (i_lastArray : Int32) (i_lastPlace : Int32) (kdf : Nat → Int32) (dpf : Nat → Int32) (lnf : Nat → Int32) (saf : Nat → Int32) (btf : Nat → Int64) (alf : Nat → Int32) (a : Nat) (b : Nat) (h_M : zz_MI na ne dpf saf lnf btf) (h_a : a < na ∧ b < na) (h_H : ∀ d : Nat, dpf a = nI d → d ≤ 4 → zz_ST na (sp_sS na kdf dpf saf lnf btf) dpf d alf) : Int32 → va_W → Prop := fun (r : Int32) (u : va_W) => (r = sp_b (sp_sS na kdf dpf saf lnf btf a b)) ∧ u = [cw_k7 h0 (nI na) (nI ne) a_kindOf a_depthOf a_lengthOf a_classOf a_baseOf a_bits a_pinned i_code a_lengths a_stackArray a_stackOther a_stackAt i_lastArray i_lastPlace a_path a_held a_alike a_hashes (nI nd) a_decisionArray a_decisionPlace a_candidateMany a_candidates (nI nr) a_ruleSort a_ruleArray a_ruleWeight a_ruleLow a_ruleHigh a_chosen a_bestOf (nI nm) a_markElements a_markBits a_markPins, cw_i g a_kindOf 60 kdf, cw_i g a_depthOf 60 dpf, cw_i g a_lengthOf 60 lnf, cw_i g a_baseOf 60 saf, cw_l g a_bits 4000 btf, cw_z g a_alike 3600 alf]
set_option maxHeartbeats 4000000 in
set_option maxRecDepth 100000 in
theorem cm_isSame2 (g : zz_G) (h0 : Nat) (a_kindOf : Nat) (a_depthOf : Nat) (a_lengthOf : Nat) (a_classOf : Nat) (a_baseOf : Nat) (a_bits : Nat) (a_pinned : Nat) (a_lengths : Nat) (a_stackArray : Nat) (a_stackOther : Nat) (a_stackAt : Nat) (a_path : Nat) (a_held : Nat) (a_alike : Nat) (a_hashes : Nat) (a_decisionArray : Nat) (a_decisionPlace : Nat) (a_candidateMany : Nat) (a_candidates : Nat) (a_ruleSort : Nat) (a_ruleArray : Nat) (a_ruleWeight : Nat) (a_ruleLow : Nat) (a_ruleHigh : Nat) (a_chosen : Nat) (a_bestOf : Nat) (a_markElements : Nat) (a_markBits : Nat) (a_markPins : Nat) (na : Nat) (ne : Nat) (nd : Nat) (nr : Nat) (nm : Nat) (i_code : Int32) (i_lastArray : Int32) (i_lastPlace : Int32) (kdf : Nat → Int32) (dpf : Nat → Int32) (lnf : Nat → Int32) (saf : Nat → Int32) (btf : Nat → Int64) (alf : Nat → Int32) (a : Nat) (b : Nat) (h_M : zz_MI na ne dpf saf lnf btf) (h_a : a < na ∧ b < na) (h_H : ∀ d : Nat, dpf a = nI d → d ≤ 4 → zz_ST na (sp_sS na kdf dpf saf lnf btf) dpf d alf) : zz_I g yX8_isSame (.code yX8_isSame cX8_isSame 9 (some .boolean)) rm_cm_isSame2 [.ref h0, .int (nI a), .int (nI b)] [cw_k7 h0 (nI na) (nI ne) a_kindOf a_depthOf a_lengthOf a_classOf a_baseOf a_bits a_pinned i_code a_lengths a_stackArray a_stackOther a_stackAt i_lastArray i_lastPlace a_path a_held a_alike a_hashes (nI nd) a_decisionArray a_decisionPlace a_candidateMany a_candidates (nI nr) a_ruleSort a_ruleArray a_ruleWeight a_ruleLow a_ruleHigh a_chosen a_bestOf (nI nm) a_markElements a_markBits a_markPins, cw_i g a_kindOf 60 kdf, cw_i g a_depthOf 60 dpf, cw_i g a_lengthOf 60 lnf, cw_i g a_baseOf 60 saf, cw_l g a_bits 4000 btf, cw_z g a_alike 3600 alf] (po_cm_isSame2 g h0 a_kindOf a_depthOf a_lengthOf a_classOf a_baseOf a_bits a_pinned a_lengths a_stackArray a_stackOther a_stackAt a_path a_held a_alike a_hashes a_decisionArray a_decisionPlace a_candidateMany a_candidates a_ruleSort a_ruleArray a_ruleWeight a_ruleLow a_ruleHigh a_chosen a_bestOf a_markElements a_markBits a_markPins na ne nd nr nm i_code i_lastArray i_lastPlace kdf dpf lnf saf btf alf a b h_M h_a h_H) := by
  refine zz_I.intro (own := RX8) (cc := cX8_isSame) (nL := 9) (by decide) rfl (Nat.le_of_ble_eq_true rfl) ?_
  intro p l e s m args below meth c A H locs ls hC hnm hs hZ hl
  obtain ⟨hx, hb, hml, hown, hts, hr, hlocks, hK⟩ := id hC
  have hl : lv_has ls 9 [(0, .ref h0), (1, .int (nI a)), (2, .int (nI b))] := hl
  have hZ : zz_Z g A s.heap [cw_k7 h0 (nI na) (nI ne) a_kindOf a_depthOf a_lengthOf a_classOf a_baseOf a_bits a_pinned i_code a_lengths a_stackArray a_stackOther a_stackAt i_lastArray i_lastPlace a_path a_held a_alike a_hashes (nI nd) a_decisionArray a_decisionPlace a_candidateMany a_candidates (nI nr) a_ruleSort a_ruleArray a_ruleWeight a_ruleLow a_ruleHigh a_chosen a_bestOf (nI nm) a_markElements a_markBits a_markPins, cw_i g a_kindOf 60 kdf, cw_i g a_depthOf 60 dpf, cw_i g a_lengthOf 60 lnf, cw_i g a_baseOf 60 saf, cw_l g a_bits 4000 btf, cw_z g a_alike 3600 alf] H locs := hZ
  have h_S := h_M.1
  have hna := h_S.1
  have hne := h_S.2.1
  obtain ⟨sz, lz, dz, es, el, ed, g1, g2, g3, g4⟩ := h_S.2.2 a h_a.1
  obtain ⟨szb, lzb, dzb, esb, elb, edb, g1b, g2b, g3b, g4b⟩ := h_S.2.2 b h_a.2
  have hU := zl_ssU (kd := kdf) (b := b) h_M h_a.1 es el ed (by omega) (by omega) (by omega) (by omega)
  refine lv_aload_n hx hb dX8_isSame_0 rfl (lv_at hl 0 rfl) ?_
  refine zz_get hC hZ 0 rfl zf_X8_7 rfl dX8_isSame_1 ?_
  refine lv_iload_n hx hb dX8_isSame_4 rfl (lv_at hl 1 rfl) ?_
  have bd1 : a < 60 := by omega
  refine zz_ialdn hC hZ 1 rfl bd1 (by decide) dX8_isSame_5 ?_
  refine lv_aload_n hx hb dX8_isSame_6 rfl (lv_at hl 0 rfl) ?_
  refine zz_get hC hZ 0 rfl zf_X8_7 rfl dX8_isSame_7 ?_
  refine lv_iload_n hx hb dX8_isSame_10 rfl (lv_at hl 2 rfl) ?_
  have bd2 : b < 60 := by omega
  refine zz_ialdn hC hZ 1 rfl bd2 (by decide) dX8_isSame_11 ?_
  refine lv_icmp_ne (tgt := 49) hx hb dX8_isSame_12 (by decide) (fun c3 => ?_) (fun c3 => ?_)
  · refine lv_iconst (v := 0) hx hb dX8_isSame_49 (by decide) ?_
    refine lv_istore_n (lv' := [(3, .int 0), (0, .ref h0), (1, .int (nI a)), (2, .int (nI b))]) hx hb dX8_isSame_50 rfl hl (by decide) rfl (fun ls hl => ?_)
    refine lv_iconst (v := 0) hx hb dX8_isSame_51 (by decide) ?_
    refine lv_istore (lv' := [(4, .int 0), (3, .int 0), (0, .ref h0), (1, .int (nI a)), (2, .int (nI b))]) hx hb dX8_isSame_52 hl (by decide) rfl (fun ls hl => ?_)
    refine lv_iload hx hb dX8_isSame_54 (lv_at hl 0 rfl) ?_
    refine lv_aload_n hx hb dX8_isSame_56 rfl (lv_at hl 2 rfl) ?_
    refine zz_get hC hZ 0 rfl zf_X8_16 rfl dX8_isSame_57 ?_
    refine lv_iload_n hx hb dX8_isSame_60 rfl (lv_at hl 3 rfl) ?_
    refine zz_ialdn hC hZ 3 rfl bd1 (by decide) dX8_isSame_61 ?_
    refine zz_topi (v := nI lz) (el) ?_
    have bd5 : lz < 2 ^ 31 := by omega
    refine lv_icmp_ge (tgt := 167) hx hb dX8_isSame_62 (by decide) (fun c4 => ?_) (fun c4 => ?_)
    · have nc4 : lz ≤ 0 := (nI_leI bd5 (by decide)).mp (show nI (lz) ≤ nI (0) from c4)
      refine lv_iload_n hx hb dX8_isSame_167 rfl (lv_at hl 1 rfl) ?_
      exact zz_zret hC hZ (by decide) (⟨(zl_bF (fun z => c3 (hU.mp z).1)).symm, rfl⟩) (Nat.le_of_ble_eq_true rfl) (Nat.le_of_ble_eq_true rfl) dX8_isSame_168
    · have nc4 : ¬ lz ≤ 0 := fun zq => c4 (show nI (lz) ≤ nI (0) from (nI_leI bd5 (by decide)).mpr zq)
      refine lv_iload_n hx hb dX8_isSame_65 rfl (lv_at hl 1 rfl) ?_
      refine lv_if_eq (tgt := 167) hx hb dX8_isSame_66 (by decide) (fun c6 => ?_) (fun c => absurd (by decide) c)
      refine lv_iload_n hx hb dX8_isSame_167 rfl (lv_at hl 1 rfl) ?_
      exact zz_zret hC hZ (by decide) (⟨(zl_bF (fun z => c3 (hU.mp z).1)).symm, rfl⟩) (Nat.le_of_ble_eq_true rfl) (Nat.le_of_ble_eq_true rfl) dX8_isSame_168
  · refine lv_aload_n hx hb dX8_isSame_15 rfl (lv_at hl 0 rfl) ?_
    refine zz_get hC hZ 0 rfl zf_X8_13 rfl dX8_isSame_16 ?_
    refine lv_iload_n hx hb dX8_isSame_19 rfl (lv_at hl 1 rfl) ?_
    refine zz_ialdn hC hZ 2 rfl bd1 (by decide) dX8_isSame_20 ?_
    refine zz_topi (v := nI dz) (ed) ?_
    refine lv_aload_n hx hb dX8_isSame_21 rfl (lv_at hl 0 rfl) ?_
    refine zz_get hC hZ 0 rfl zf_X8_13 rfl dX8_isSame_22 ?_
    refine lv_iload_n hx hb dX8_isSame_25 rfl (lv_at hl 2 rfl) ?_
    refine zz_ialdn hC hZ 2 rfl bd2 (by decide) dX8_isSame_26 ?_
    refine zz_topi (v := nI dzb) (edb) ?_
    have bd8 : dz < 2 ^ 31 := by omega
    have bd9 : dzb < 2 ^ 31 := by omega
    refine lv_icmp_ne (tgt := 49) hx hb dX8_isSame_27 (by decide) (fun c7 => ?_) (fun c7 => ?_)
    · have nc7 : ¬ dz = dzb := fun zq => c7 (show nI (dz) = nI (dzb) from (nI_eq bd8 bd9).mpr zq)
      refine lv_iconst (v := 0) hx hb dX8_isSame_49 (by decide) ?_
      refine lv_istore_n (lv' := [(3, .int 0), (0, .ref h0), (1, .int (nI a)), (2, .int (nI b))]) hx hb dX8_isSame_50 rfl hl (by decide) rfl (fun ls hl => ?_)
      refine lv_iconst (v := 0) hx hb dX8_isSame_51 (by decide) ?_
      refine lv_istore (lv' := [(4, .int 0), (3, .int 0), (0, .ref h0), (1, .int (nI a)), (2, .int (nI b))]) hx hb dX8_isSame_52 hl (by decide) rfl (fun ls hl => ?_)
      refine lv_iload hx hb dX8_isSame_54 (lv_at hl 0 rfl) ?_
      refine lv_aload_n hx hb dX8_isSame_56 rfl (lv_at hl 2 rfl) ?_
      refine zz_get hC hZ 0 rfl zf_X8_16 rfl dX8_isSame_57 ?_
      refine lv_iload_n hx hb dX8_isSame_60 rfl (lv_at hl 3 rfl) ?_
      refine zz_ialdn hC hZ 3 rfl bd1 (by decide) dX8_isSame_61 ?_
      refine zz_topi (v := nI lz) (el) ?_
      have bd11 : lz < 2 ^ 31 := by omega
      refine lv_icmp_ge (tgt := 167) hx hb dX8_isSame_62 (by decide) (fun c10 => ?_) (fun c10 => ?_)
      · have nc10 : lz ≤ 0 := (nI_leI bd11 (by decide)).mp (show nI (lz) ≤ nI (0) from c10)
        refine lv_iload_n hx hb dX8_isSame_167 rfl (lv_at hl 1 rfl) ?_
        exact zz_zret hC hZ (by decide) (⟨(zl_bF (fun z => c7 (ed.symm.trans ((hU.mp z).2.1.trans edb)))).symm, rfl⟩) (Nat.le_of_ble_eq_true rfl) (Nat.le_of_ble_eq_true rfl) dX8_isSame_168
      · have nc10 : ¬ lz ≤ 0 := fun zq => c10 (show nI (lz) ≤ nI (0) from (nI_leI bd11 (by decide)).mpr zq)
        refine lv_iload_n hx hb dX8_isSame_65 rfl (lv_at hl 1 rfl) ?_
        refine lv_if_eq (tgt := 167) hx hb dX8_isSame_66 (by decide) (fun c12 => ?_) (fun c => absurd (by decide) c)
        refine lv_iload_n hx hb dX8_isSame_167 rfl (lv_at hl 1 rfl) ?_
        exact zz_zret hC hZ (by decide) (⟨(zl_bF (fun z => c7 (ed.symm.trans ((hU.mp z).2.1.trans edb)))).symm, rfl⟩) (Nat.le_of_ble_eq_true rfl) (Nat.le_of_ble_eq_true rfl) dX8_isSame_168
    · have nc7 : dz = dzb := (nI_eq bd8 bd9).mp (show nI (dz) = nI (dzb) from c7)
      refine lv_aload_n hx hb dX8_isSame_30 rfl (lv_at hl 0 rfl) ?_
      refine zz_get hC hZ 0 rfl zf_X8_16 rfl dX8_isSame_31 ?_
      refine lv_iload_n hx hb dX8_isSame_34 rfl (lv_at hl 1 rfl) ?_
      refine zz_ialdn hC hZ 3 rfl bd1 (by decide) dX8_isSame_35 ?_
      refine zz_topi (v := nI lz) (el) ?_
      refine lv_aload_n hx hb dX8_isSame_36 rfl (lv_at hl 0 rfl) ?_
      refine zz_get hC hZ 0 rfl zf_X8_16 rfl dX8_isSame_37 ?_
      refine lv_iload_n hx hb dX8_isSame_40 rfl (lv_at hl 2 rfl) ?_
      refine zz_ialdn hC hZ 3 rfl bd2 (by decide) dX8_isSame_41 ?_
      refine zz_topi (v := nI lzb) (elb) ?_
      have bd14 : lz < 2 ^ 31 := by omega
      have bd15 : lzb < 2 ^ 31 := by omega
      refine lv_icmp_ne (tgt := 49) hx hb dX8_isSame_42 (by decide) (fun c13 => ?_) (fun c13 => ?_)
      · have nc13 : ¬ lz = lzb := fun zq => c13 (show nI (lz) = nI (lzb) from (nI_eq bd14 bd15).mpr zq)
        refine lv_iconst (v := 0) hx hb dX8_isSame_49 (by decide) ?_
        refine lv_istore_n (lv' := [(3, .int 0), (0, .ref h0), (1, .int (nI a)), (2, .int (nI b))]) hx hb dX8_isSame_50 rfl hl (by decide) rfl (fun ls hl => ?_)
        refine lv_iconst (v := 0) hx hb dX8_isSame_51 (by decide) ?_
        refine lv_istore (lv' := [(4, .int 0), (3, .int 0), (0, .ref h0), (1, .int (nI a)), (2, .int (nI b))]) hx hb dX8_isSame_52 hl (by decide) rfl (fun ls hl => ?_)
        refine lv_iload hx hb dX8_isSame_54 (lv_at hl 0 rfl) ?_
        refine lv_aload_n hx hb dX8_isSame_56 rfl (lv_at hl 2 rfl) ?_
        refine zz_get hC hZ 0 rfl zf_X8_16 rfl dX8_isSame_57 ?_
        refine lv_iload_n hx hb dX8_isSame_60 rfl (lv_at hl 3 rfl) ?_
        refine zz_ialdn hC hZ 3 rfl bd1 (by decide) dX8_isSame_61 ?_
        refine zz_topi (v := nI lz) (el) ?_
        refine lv_icmp_ge (tgt := 167) hx hb dX8_isSame_62 (by decide) (fun c16 => ?_) (fun c16 => ?_)
        · have nc16 : lz ≤ 0 := (nI_leI bd14 (by decide)).mp (show nI (lz) ≤ nI (0) from c16)
          refine lv_iload_n hx hb dX8_isSame_167 rfl (lv_at hl 1 rfl) ?_
          exact zz_zret hC hZ (by decide) (⟨(zl_bF (fun z => c13 (el.symm.trans ((hU.mp z).2.2.1.trans elb)))).symm, rfl⟩) (Nat.le_of_ble_eq_true rfl) (Nat.le_of_ble_eq_true rfl) dX8_isSame_168
        · have nc16 : ¬ lz ≤ 0 := fun zq => c16 (show nI (lz) ≤ nI (0) from (nI_leI bd14 (by decide)).mpr zq)
          refine lv_iload_n hx hb dX8_isSame_65 rfl (lv_at hl 1 rfl) ?_
          refine lv_if_eq (tgt := 167) hx hb dX8_isSame_66 (by decide) (fun c17 => ?_) (fun c => absurd (by decide) c)
          refine lv_iload_n hx hb dX8_isSame_167 rfl (lv_at hl 1 rfl) ?_
          exact zz_zret hC hZ (by decide) (⟨(zl_bF (fun z => c13 (el.symm.trans ((hU.mp z).2.2.1.trans elb)))).symm, rfl⟩) (Nat.le_of_ble_eq_true rfl) (Nat.le_of_ble_eq_true rfl) dX8_isSame_168
      · have nc13 : lz = lzb := (nI_eq bd14 bd15).mp (show nI (lz) = nI (lzb) from c13)
        refine lv_iconst (v := 1) hx hb dX8_isSame_45 (by decide) ?_
        refine lv_goto (tgt := 50) hx hb dX8_isSame_46 (by decide) ?_
        refine lv_istore_n (lv' := [(3, .int 1), (0, .ref h0), (1, .int (nI a)), (2, .int (nI b))]) hx hb dX8_isSame_50 rfl hl (by decide) rfl (fun ls hl => ?_)
        refine lv_iconst (v := 0) hx hb dX8_isSame_51 (by decide) ?_
        refine lv_istore (lv' := [(4, .int 0), (3, .int 1), (0, .ref h0), (1, .int (nI a)), (2, .int (nI b))]) hx hb dX8_isSame_52 hl (by decide) rfl (fun ls hl => ?_)
        have hsh : kdf a = kdf b ∧ dpf a = dpf b ∧ lnf a = lnf b := ⟨c3, ed.trans (c7.trans edb.symm), el.trans (c13.trans elb.symm)⟩
        have LP18 : ∀ (N : Nat) (i : Nat) (w : Int32) (H : Heap) (locs : List Loc) (ls : Array Slot), (i ≤ lz) → ((w = 1 ∧ ∀ j, j < i → sp_se na kdf dpf saf lnf btf a b j) ∨ (w = 0 ∧ ∃ j, j < lz ∧ ¬ sp_se na kdf dpf saf lnf btf a b j)) → (lz - i) < N → zz_Z g A s.heap [cw_k7 h0 (nI na) (nI ne) a_kindOf a_depthOf a_lengthOf a_classOf a_baseOf a_bits a_pinned i_code a_lengths a_stackArray a_stackOther a_stackAt i_lastArray i_lastPlace a_path a_held a_alike a_hashes (nI nd) a_decisionArray a_decisionPlace a_candidateMany a_candidates (nI nr) a_ruleSort a_ruleArray a_ruleWeight a_ruleLow a_ruleHigh a_chosen a_bestOf (nI nm) a_markElements a_markBits a_markPins, cw_i g a_kindOf 60 kdf, cw_i g a_depthOf 60 dpf, cw_i g a_lengthOf 60 lnf, cw_i g a_baseOf 60 saf, cw_l g a_bits 4000 btf, cw_z g a_alike 3600 alf] H locs → lv_has ls 9 [(4, .int (nI i)), (3, .int w), (0, .ref h0), (1, .int (nI a)), (2, .int (nI b))] → W p l e rm_cm_isSame2 s m args below meth c H locs 0 0 (zz_QI below g args s A rm_cm_isSame2.cells rm_cm_isSame2.slots (po_cm_isSame2 g h0 a_kindOf a_depthOf a_lengthOf a_classOf a_baseOf a_bits a_pinned a_lengths a_stackArray a_stackOther a_stackAt a_path a_held a_alike a_hashes a_decisionArray a_decisionPlace a_candidateMany a_candidates a_ruleSort a_ruleArray a_ruleWeight a_ruleLow a_ruleHigh a_chosen a_bestOf a_markElements a_markBits a_markPins na ne nd nr nm i_code i_lastArray i_lastPlace kdf dpf lnf saf btf alf a b h_M h_a h_H)) (F0 m 54 ls []) := by
          intro N
          induction N with
          | zero =>
            intro i w H locs ls hi hw hN
            exact absurd hN (Nat.not_lt_zero _)
          | succ N ih =>
            intro i w H locs ls hi hw hN hZ hl
            refine lv_iload hx hb dX8_isSame_54 (lv_at hl 0 rfl) ?_
            refine lv_aload_n hx hb dX8_isSame_56 rfl (lv_at hl 2 rfl) ?_
            refine zz_get hC hZ 0 rfl zf_X8_16 rfl dX8_isSame_57 ?_
            refine lv_iload_n hx hb dX8_isSame_60 rfl (lv_at hl 3 rfl) ?_
            refine zz_ialdn hC hZ 3 rfl bd1 (by decide) dX8_isSame_61 ?_
            refine zz_topi (v := nI lz) (el) ?_
            have bd20 : i < 2 ^ 31 := by omega
            refine lv_icmp_ge (tgt := 167) hx hb dX8_isSame_62 (by decide) (fun c19 => ?_) (fun c19 => ?_)
            · have nc19 : lz ≤ i := (nI_leI bd14 bd20).mp (show nI (lz) ≤ nI (i) from c19)
              refine lv_iload_n hx hb dX8_isSame_167 rfl (lv_at hl 1 rfl) ?_
              exact zz_zret hC hZ (zl_b01 (hw.elim (fun q => Or.inr q.1) (fun q => Or.inl q.1))) (⟨zl_ilE hU hsh hw (Or.inl (by omega)), rfl⟩) (Nat.le_of_ble_eq_true rfl) (Nat.le_of_ble_eq_true rfl) dX8_isSame_168
            · have nc19 : ¬ lz ≤ i := fun zq => c19 (show nI (lz) ≤ nI (i) from (nI_leI bd14 bd20).mpr zq)
              refine lv_iload_n hx hb dX8_isSame_65 rfl (lv_at hl 1 rfl) ?_
              refine lv_if_eq (tgt := 167) hx hb dX8_isSame_66 (by decide) (fun c21 => ?_) (fun c21 => ?_)
              · refine lv_iload_n hx hb dX8_isSame_167 rfl (lv_at hl 1 rfl) ?_
                exact zz_zret hC hZ (zl_b01 (hw.elim (fun q => Or.inr q.1) (fun q => Or.inl q.1))) (⟨zl_ilE hU hsh hw (Or.inr c21), rfl⟩) (Nat.le_of_ble_eq_true rfl) (Nat.le_of_ble_eq_true rfl) dX8_isSame_168
              · refine lv_aload_n hx hb dX8_isSame_69 rfl (lv_at hl 2 rfl) ?_
                refine zz_get hC hZ 0 rfl zf_X8_25 rfl dX8_isSame_70 ?_
                refine lv_aload_n hx hb dX8_isSame_73 rfl (lv_at hl 2 rfl) ?_
                refine zz_get hC hZ 0 rfl zf_X8_22 rfl dX8_isSame_74 ?_
                refine lv_iload_n hx hb dX8_isSame_77 rfl (lv_at hl 3 rfl) ?_
                refine zz_ialdn hC hZ 4 rfl bd1 (by decide) dX8_isSame_78 ?_
                refine zz_topi (v := nI sz) (es) ?_
                refine lv_iload hx hb dX8_isSame_79 (lv_at hl 0 rfl) ?_
                refine lv_iadd hx hb dX8_isSame_81 ?_
                refine zz_topi (v := nI (sz + i)) (nI_add _ _) ?_
                have bd22 : (sz + i) < 4000 := by omega
                refine zz_laldn hC hZ 5 rfl bd22 (by decide) dX8_isSame_82 ?_
                refine lv_lstore (lv' := [(5, .long (btf (sz + i))), (4, .int (nI i)), (3, .int w), (0, .ref h0), (1, .int (nI a)), (2, .int (nI b))]) hx hb dX8_isSame_83 hl (by decide) rfl (fun ls hl => ?_)
                refine lv_aload_n hx hb dX8_isSame_85 rfl (lv_at hl 3 rfl) ?_
                refine zz_get hC hZ 0 rfl zf_X8_25 rfl dX8_isSame_86 ?_
                refine lv_aload_n hx hb dX8_isSame_89 rfl (lv_at hl 3 rfl) ?_
                refine zz_get hC hZ 0 rfl zf_X8_22 rfl dX8_isSame_90 ?_
                refine lv_iload_n hx hb dX8_isSame_93 rfl (lv_at hl 5 rfl) ?_
                refine zz_ialdn hC hZ 4 rfl bd2 (by decide) dX8_isSame_94 ?_
                refine zz_topi (v := nI szb) (esb) ?_
                refine lv_iload hx hb dX8_isSame_95 (lv_at hl 1 rfl) ?_
                refine lv_iadd hx hb dX8_isSame_97 ?_
                refine zz_topi (v := nI (szb + i)) (nI_add _ _) ?_
                have bd23 : (szb + i) < 4000 := by omega
                refine zz_laldn hC hZ 5 rfl bd23 (by decide) dX8_isSame_98 ?_
                refine lv_lstore (lv' := [(7, .long (btf (szb + i))), (5, .long (btf (sz + i))), (4, .int (nI i)), (3, .int w), (0, .ref h0), (1, .int (nI a)), (2, .int (nI b))]) hx hb dX8_isSame_99 hl (by decide) rfl (fun ls hl => ?_)
                refine lv_lload hx hb dX8_isSame_101 (lv_at hl 1 rfl) ?_
                refine lv_lload hx hb dX8_isSame_103 (lv_at hl 0 rfl) ?_
                refine zz_lcmp_eq (tgt := 155) hC dX8_isSame_105 dX8_isSame_106 (by decide) (fun c24 => ?_) (fun c24 => ?_)
                · refine lv_iconst (v := 1) hx hb dX8_isSame_155 (by decide) ?_
                  refine lv_goto (tgt := 160) hx hb dX8_isSame_156 (by decide) ?_
                  refine lv_istore_n (lv' := [(3, .int 1), (7, .long (btf (szb + i))), (5, .long (btf (sz + i))), (4, .int (nI i)), (0, .ref h0), (1, .int (nI a)), (2, .int (nI b))]) hx hb dX8_isSame_160 rfl hl (by decide) rfl (fun ls hl => ?_)
                  refine lv_iinc (v := nI (i + 1)) (lv' := [(4, .int (nI (i + 1))), (3, .int 1), (7, .long (btf (szb + i))), (5, .long (btf (sz + i))), (0, .ref h0), (1, .int (nI a)), (2, .int (nI b))]) hx hb dX8_isSame_161 hl (k := 3) rfl (nI_1 _) (by decide) rfl (fun ls hl => ?_)
                  refine lv_goto (tgt := 54) hx hb dX8_isSame_164 (by decide) ?_
                  exact ih (i + 1) 1 H locs ls (by omega) (Or.inl ⟨rfl, zl_upto (zl_ilP hw c21) (zl_seE es esb (by omega) (by omega) c24)⟩) (by omega) hZ (lv_sub hl [0, 1, 4, 5, 6] rfl)
                · refine lv_aload_n hx hb dX8_isSame_109 rfl (lv_at hl 4 rfl) ?_
                  refine zz_get hC hZ 0 rfl zf_X8_13 rfl dX8_isSame_110 ?_
                  refine lv_iload_n hx hb dX8_isSame_113 rfl (lv_at hl 5 rfl) ?_
                  refine zz_ialdn hC hZ 2 rfl bd1 (by decide) dX8_isSame_114 ?_
                  refine zz_topi (v := nI dz) (ed) ?_
                  refine lv_iconst (v := 1) hx hb dX8_isSame_115 (by decide) ?_
                  refine lv_icmp_le (tgt := 159) hx hb dX8_isSame_116 (by decide) (fun c25 => ?_) (fun c25 => ?_)
                  · have nc25 : dz ≤ 1 := (nI_leI bd8 (by decide)).mp (show nI (dz) ≤ nI (1) from c25)
                    refine lv_iconst (v := 0) hx hb dX8_isSame_159 (by decide) ?_
                    refine lv_istore_n (lv' := [(3, .int 0), (7, .long (btf (szb + i))), (5, .long (btf (sz + i))), (4, .int (nI i)), (0, .ref h0), (1, .int (nI a)), (2, .int (nI b))]) hx hb dX8_isSame_160 rfl hl (by decide) rfl (fun ls hl => ?_)
                    refine lv_iinc (v := nI (i + 1)) (lv' := [(4, .int (nI (i + 1))), (3, .int 0), (7, .long (btf (szb + i))), (5, .long (btf (sz + i))), (0, .ref h0), (1, .int (nI a)), (2, .int (nI b))]) hx hb dX8_isSame_161 hl (k := 3) rfl (nI_1 _) (by decide) rfl (fun ls hl => ?_)
                    refine lv_goto (tgt := 54) hx hb dX8_isSame_164 (by decide) ?_
                    exact ih (i + 1) 0 H locs ls (by omega) (Or.inr ⟨rfl, i, by omega, zl_seN es esb (by omega) (by omega) c24 (Or.inl (zl_d3 ed ((zl_dle g3 g4).mp c25)))⟩) (by omega) hZ (lv_sub hl [0, 1, 4, 5, 6] rfl)
                  · have nc25 : ¬ dz ≤ 1 := fun zq => c25 (show nI (dz) ≤ nI (1) from (nI_leI bd8 (by decide)).mpr zq)
                    refine lv_lload hx hb dX8_isSame_119 (lv_at hl 1 rfl) ?_
                    refine lv_ldc2 hx hb hown (hts _ zk_883) dX8_isSame_121 ?_
                    refine zz_lcmp_eq (tgt := 159) hC dX8_isSame_124 dX8_isSame_125 (by decide) (fun c26 => ?_) (fun c26 => ?_)
                    · refine lv_iconst (v := 0) hx hb dX8_isSame_159 (by decide) ?_
                      refine lv_istore_n (lv' := [(3, .int 0), (7, .long (btf (szb + i))), (5, .long (btf (sz + i))), (4, .int (nI i)), (0, .ref h0), (1, .int (nI a)), (2, .int (nI b))]) hx hb dX8_isSame_160 rfl hl (by decide) rfl (fun ls hl => ?_)
                      refine lv_iinc (v := nI (i + 1)) (lv' := [(4, .int (nI (i + 1))), (3, .int 0), (7, .long (btf (szb + i))), (5, .long (btf (sz + i))), (0, .ref h0), (1, .int (nI a)), (2, .int (nI b))]) hx hb dX8_isSame_161 hl (k := 3) rfl (nI_1 _) (by decide) rfl (fun ls hl => ?_)
                      refine lv_goto (tgt := 54) hx hb dX8_isSame_164 (by decide) ?_
                      exact ih (i + 1) 0 H locs ls (by omega) (Or.inr ⟨rfl, i, by omega, zl_seN es esb (by omega) (by omega) c24 (Or.inr (zl_srK (by omega) (by rw [c26]; exact zl_m1has (by omega))))⟩) (by omega) hZ (lv_sub hl [0, 1, 4, 5, 6] rfl)
                    · refine lv_lload hx hb dX8_isSame_128 (lv_at hl 0 rfl) ?_
                      refine lv_ldc2 hx hb hown (hts _ zk_883) dX8_isSame_130 ?_
                      refine zz_lcmp_eq (tgt := 159) hC dX8_isSame_133 dX8_isSame_134 (by decide) (fun c27 => ?_) (fun c27 => ?_)
                      · refine lv_iconst (v := 0) hx hb dX8_isSame_159 (by decide) ?_
                        refine lv_istore_n (lv' := [(3, .int 0), (7, .long (btf (szb + i))), (5, .long (btf (sz + i))), (4, .int (nI i)), (0, .ref h0), (1, .int (nI a)), (2, .int (nI b))]) hx hb dX8_isSame_160 rfl hl (by decide) rfl (fun ls hl => ?_)
                        refine lv_iinc (v := nI (i + 1)) (lv' := [(4, .int (nI (i + 1))), (3, .int 0), (7, .long (btf (szb + i))), (5, .long (btf (sz + i))), (0, .ref h0), (1, .int (nI a)), (2, .int (nI b))]) hx hb dX8_isSame_161 hl (k := 3) rfl (nI_1 _) (by decide) rfl (fun ls hl => ?_)
                        refine lv_goto (tgt := 54) hx hb dX8_isSame_164 (by decide) ?_
                        exact ih (i + 1) 0 H locs ls (by omega) (Or.inr ⟨rfl, i, by omega, zl_seN es esb (by omega) (by omega) c24 (Or.inr (zl_srJ (by omega) (by rw [c27]; exact zl_m1has (by omega))))⟩) (by omega) hZ (lv_sub hl [0, 1, 4, 5, 6] rfl)
                      · refine lv_aload_n hx hb dX8_isSame_137 rfl (lv_at hl 4 rfl) ?_
                        refine zz_get hC hZ 0 rfl zf_X8_51 rfl dX8_isSame_138 ?_
                        obtain ⟨r1, d1, hr1, hv1, hd1, hd2⟩ := (h_M.2.2 a sz lz dz h_a.1 es el ed (by omega) (by omega) (by omega) (by omega) i (by omega)).resolve_left c26
                        obtain ⟨r2, d2, hr2, hv2, _, _⟩ := (h_M.2.2 b szb lzb dzb h_a.2 esb elb edb (by omega) (by omega) (by omega) (by omega) i (by omega)).resolve_left c27
                        have hal := h_H dz ed (by omega) r1 r2 d1 hr1 hr2 hd1 (by omega) (by omega)
                        refine lv_ldc2 hx hb hown (hts _ zk_903) dX8_isSame_141 ?_
                        refine lv_lload hx hb dX8_isSame_144 (lv_at hl 1 rfl) ?_
                        refine lv_lmul hx hb dX8_isSame_146 ?_
                        refine lv_lload hx hb dX8_isSame_147 (lv_at hl 0 rfl) ?_
                        refine lv_ladd hx hb dX8_isSame_149 ?_
                        refine lv_l2i hx hb dX8_isSame_150 rfl ?_
                        refine zz_topi (v := nI (60 * r1 + r2)) (by rw [hv1, hv2]; exact zl_60 r1 r2) ?_
                        have bd28 : (60 * r1 + r2) < 3600 := by omega
                        refine zz_zaldn hC hZ 6 rfl bd28 (by decide) dX8_isSame_151 ?_
                        refine lv_if_eq (tgt := 159) hx hb dX8_isSame_152 (by decide) (fun c29 => ?_) (fun c29 => ?_)
                        · refine lv_iconst (v := 0) hx hb dX8_isSame_159 (by decide) ?_
                          refine lv_istore_n (lv' := [(3, .int 0), (7, .long (btf (szb + i))), (5, .long (btf (sz + i))), (4, .int (nI i)), (0, .ref h0), (1, .int (nI a)), (2, .int (nI b))]) hx hb dX8_isSame_160 rfl hl (by decide) rfl (fun ls hl => ?_)
                          refine lv_iinc (v := nI (i + 1)) (lv' := [(4, .int (nI (i + 1))), (3, .int 0), (7, .long (btf (szb + i))), (5, .long (btf (sz + i))), (0, .ref h0), (1, .int (nI a)), (2, .int (nI b))]) hx hb dX8_isSame_161 hl (k := 3) rfl (nI_1 _) (by decide) rfl (fun ls hl => ?_)
                          refine lv_goto (tgt := 54) hx hb dX8_isSame_164 (by decide) ?_
                          exact ih (i + 1) 0 H locs ls (by omega) (Or.inr ⟨rfl, i, by omega, zl_seN es esb (by omega) (by omega) c24 (Or.inr (fun z => zl_bN hal c29 ((zl_srI (by rw [hv1]; exact lN_i r1) (by rw [hv2]; exact lN_i r2) (by omega) hr1 hr2).mp z)))⟩) (by omega) hZ (lv_sub hl [0, 1, 4, 5, 6] rfl)
                        · refine lv_iconst (v := 1) hx hb dX8_isSame_155 (by decide) ?_
                          refine lv_goto (tgt := 160) hx hb dX8_isSame_156 (by decide) ?_
                          refine lv_istore_n (lv' := [(3, .int 1), (7, .long (btf (szb + i))), (5, .long (btf (sz + i))), (4, .int (nI i)), (0, .ref h0), (1, .int (nI a)), (2, .int (nI b))]) hx hb dX8_isSame_160 rfl hl (by decide) rfl (fun ls hl => ?_)
                          refine lv_iinc (v := nI (i + 1)) (lv' := [(4, .int (nI (i + 1))), (3, .int 1), (7, .long (btf (szb + i))), (5, .long (btf (sz + i))), (0, .ref h0), (1, .int (nI a)), (2, .int (nI b))]) hx hb dX8_isSame_161 hl (k := 3) rfl (nI_1 _) (by decide) rfl (fun ls hl => ?_)
                          refine lv_goto (tgt := 54) hx hb dX8_isSame_164 (by decide) ?_
                          exact ih (i + 1) 1 H locs ls (by omega) (Or.inl ⟨rfl, zl_upto (zl_ilP hw c21) (zl_seR es esb (by omega) (by omega) (zl_d4 ed (fun z => c25 ((zl_dle g3 g4).mpr z))) ((zl_srI (by rw [hv1]; exact lN_i r1) (by rw [hv2]; exact lN_i r2) (by omega) hr1 hr2).mpr (zl_bP hal c29)))⟩) (by omega) hZ (lv_sub hl [0, 1, 4, 5, 6] rfl)
        exact LP18 _ 0 1 H locs ls (by omega) (Or.inl ⟨rfl, fun j hj => absurd hj (Nat.not_lt_zero j)⟩) (Nat.lt_succ_self _) hZ (lv_sub hl [0, 1, 2, 3, 4] rfl)
theorem dg_X8_same_0 : (decode cX8_same 0 = .ok (.aload_n 0, 1)) ∧ (decode cX8_same 1 = .ok (.iload_n 1, 1)) ∧ (decode cX8_same 2 = .ok (.invokevirtual 200, 3)) ∧ (decode cX8_same 5 = .ok (.ifCond .eq 11, 3)) ∧ (decode cX8_same 8 = .ok (.aload_n 0, 1)) ∧ (decode cX8_same 9 = .ok (.iload_n 2, 1)) ∧ (decode cX8_same 10 = .ok (.invokevirtual 200, 3)) ∧ (decode cX8_same 13 = .ok (.ifCond .ne 9, 3)) ∧ (decode cX8_same 16 = .ok (.aload_n 0, 1)) ∧ (decode cX8_same 17 = .ok (.iconst 5, 1)) ∧ (decode cX8_same 18 = .ok (.invokevirtual 175, 3)) ∧ (decode cX8_same 21 = .ok (.ireturn, 1)) ∧ (decode cX8_same 22 = .ok (.iconst 1, 1)) ∧ (decode cX8_same 23 = .ok (.istore_n 3, 1)) ∧ (decode cX8_same 24 = .ok (.iload_n 3, 1)) ∧ (decode cX8_same 25 = .ok (.aload_n 0, 1)) := by decide +kernel
theorem dX8_same_0 : decode cX8_same 0 = .ok (.aload_n 0, 1) := dg_X8_same_0.1
theorem dX8_same_1 : decode cX8_same 1 = .ok (.iload_n 1, 1) := dg_X8_same_0.2.1
theorem dX8_same_2 : decode cX8_same 2 = .ok (.invokevirtual 200, 3) := dg_X8_same_0.2.2.1
theorem dX8_same_5 : decode cX8_same 5 = .ok (.ifCond .eq 11, 3) := dg_X8_same_0.2.2.2.1
theorem dX8_same_8 : decode cX8_same 8 = .ok (.aload_n 0, 1) := dg_X8_same_0.2.2.2.2.1
theorem dX8_same_9 : decode cX8_same 9 = .ok (.iload_n 2, 1) := dg_X8_same_0.2.2.2.2.2.1
theorem dX8_same_10 : decode cX8_same 10 = .ok (.invokevirtual 200, 3) := dg_X8_same_0.2.2.2.2.2.2.1
theorem dX8_same_13 : decode cX8_same 13 = .ok (.ifCond .ne 9, 3) := dg_X8_same_0.2.2.2.2.2.2.2.1
theorem dX8_same_16 : decode cX8_same 16 = .ok (.aload_n 0, 1) := dg_X8_same_0.2.2.2.2.2.2.2.2.1
theorem dX8_same_17 : decode cX8_same 17 = .ok (.iconst 5, 1) := dg_X8_same_0.2.2.2.2.2.2.2.2.2.1
theorem dX8_same_18 : decode cX8_same 18 = .ok (.invokevirtual 175, 3) := dg_X8_same_0.2.2.2.2.2.2.2.2.2.2.1
theorem dX8_same_21 : decode cX8_same 21 = .ok (.ireturn, 1) := dg_X8_same_0.2.2.2.2.2.2.2.2.2.2.2.1
theorem dX8_same_22 : decode cX8_same 22 = .ok (.iconst 1, 1) := dg_X8_same_0.2.2.2.2.2.2.2.2.2.2.2.2.1
theorem dX8_same_23 : decode cX8_same 23 = .ok (.istore_n 3, 1) := dg_X8_same_0.2.2.2.2.2.2.2.2.2.2.2.2.2.1
theorem dX8_same_24 : decode cX8_same 24 = .ok (.iload_n 3, 1) := dg_X8_same_0.2.2.2.2.2.2.2.2.2.2.2.2.2.2.1
theorem dX8_same_25 : decode cX8_same 25 = .ok (.aload_n 0, 1) := dg_X8_same_0.2.2.2.2.2.2.2.2.2.2.2.2.2.2.2
theorem dg_X8_same_26 : (decode cX8_same 26 = .ok (.getfield 13, 3)) ∧ (decode cX8_same 29 = .ok (.iload_n 1, 1)) ∧ (decode cX8_same 30 = .ok (.iaload, 1)) ∧ (decode cX8_same 31 = .ok (.if_icmp .ge 96, 3)) ∧ (decode cX8_same 34 = .ok (.iconst 0, 1)) ∧ (decode cX8_same 35 = .ok (.istore 4, 2)) ∧ (decode cX8_same 37 = .ok (.iload 4, 2)) ∧ (decode cX8_same 39 = .ok (.aload_n 0, 1)) ∧ (decode cX8_same 40 = .ok (.getfield 103, 3)) ∧ (decode cX8_same 43 = .ok (.if_icmp .ge 78, 3)) ∧ (decode cX8_same 46 = .ok (.iconst 0, 1)) ∧ (decode cX8_same 47 = .ok (.istore 5, 2)) ∧ (decode cX8_same 49 = .ok (.iload 5, 2)) ∧ (decode cX8_same 51 = .ok (.aload_n 0, 1)) ∧ (decode cX8_same 52 = .ok (.getfield 103, 3)) ∧ (decode cX8_same 55 = .ok (.if_icmp .ge 60, 3)) := by decide +kernel
theorem dX8_same_26 : decode cX8_same 26 = .ok (.getfield 13, 3) := dg_X8_same_26.1
theorem dX8_same_29 : decode cX8_same 29 = .ok (.iload_n 1, 1) := dg_X8_same_26.2.1
theorem dX8_same_30 : decode cX8_same 30 = .ok (.iaload, 1) := dg_X8_same_26.2.2.1
theorem dX8_same_31 : decode cX8_same 31 = .ok (.if_icmp .ge 96, 3) := dg_X8_same_26.2.2.2.1
theorem dX8_same_34 : decode cX8_same 34 = .ok (.iconst 0, 1) := dg_X8_same_26.2.2.2.2.1
theorem dX8_same_35 : decode cX8_same 35 = .ok (.istore 4, 2) := dg_X8_same_26.2.2.2.2.2.1
theorem dX8_same_37 : decode cX8_same 37 = .ok (.iload 4, 2) := dg_X8_same_26.2.2.2.2.2.2.1
theorem dX8_same_39 : decode cX8_same 39 = .ok (.aload_n 0, 1) := dg_X8_same_26.2.2.2.2.2.2.2.1
theorem dX8_same_40 : decode cX8_same 40 = .ok (.getfield 103, 3) := dg_X8_same_26.2.2.2.2.2.2.2.2.1
theorem dX8_same_43 : decode cX8_same 43 = .ok (.if_icmp .ge 78, 3) := dg_X8_same_26.2.2.2.2.2.2.2.2.2.1
theorem dX8_same_46 : decode cX8_same 46 = .ok (.iconst 0, 1) := dg_X8_same_26.2.2.2.2.2.2.2.2.2.2.1
theorem dX8_same_47 : decode cX8_same 47 = .ok (.istore 5, 2) := dg_X8_same_26.2.2.2.2.2.2.2.2.2.2.2.1
theorem dX8_same_49 : decode cX8_same 49 = .ok (.iload 5, 2) := dg_X8_same_26.2.2.2.2.2.2.2.2.2.2.2.2.1
theorem dX8_same_51 : decode cX8_same 51 = .ok (.aload_n 0, 1) := dg_X8_same_26.2.2.2.2.2.2.2.2.2.2.2.2.2.1
theorem dX8_same_52 : decode cX8_same 52 = .ok (.getfield 103, 3) := dg_X8_same_26.2.2.2.2.2.2.2.2.2.2.2.2.2.2.1
theorem dX8_same_55 : decode cX8_same 55 = .ok (.if_icmp .ge 60, 3) := dg_X8_same_26.2.2.2.2.2.2.2.2.2.2.2.2.2.2.2
theorem dg_X8_same_58 : (decode cX8_same 58 = .ok (.aload_n 0, 1)) ∧ (decode cX8_same 59 = .ok (.getfield 13, 3)) ∧ (decode cX8_same 62 = .ok (.iload 4, 2)) ∧ (decode cX8_same 64 = .ok (.iaload, 1)) ∧ (decode cX8_same 65 = .ok (.iload_n 3, 1)) ∧ (decode cX8_same 66 = .ok (.if_icmp .ne 49, 3)) ∧ (decode cX8_same 69 = .ok (.aload_n 0, 1)) ∧ (decode cX8_same 70 = .ok (.getfield 51, 3)) ∧ (decode cX8_same 73 = .ok (.bipush 60, 2)) ∧ (decode cX8_same 75 = .ok (.iload 4, 2)) ∧ (decode cX8_same 77 = .ok (.imul, 1)) ∧ (decode cX8_same 78 = .ok (.iload 5, 2)) ∧ (decode cX8_same 80 = .ok (.iadd, 1)) ∧ (decode cX8_same 81 = .ok (.aload_n 0, 1)) ∧ (decode cX8_same 82 = .ok (.getfield 13, 3)) ∧ (decode cX8_same 85 = .ok (.iload 5, 2)) := by decide +kernel
theorem dX8_same_58 : decode cX8_same 58 = .ok (.aload_n 0, 1) := dg_X8_same_58.1
theorem dX8_same_59 : decode cX8_same 59 = .ok (.getfield 13, 3) := dg_X8_same_58.2.1
theorem dX8_same_62 : decode cX8_same 62 = .ok (.iload 4, 2) := dg_X8_same_58.2.2.1
theorem dX8_same_64 : decode cX8_same 64 = .ok (.iaload, 1) := dg_X8_same_58.2.2.2.1
theorem dX8_same_65 : decode cX8_same 65 = .ok (.iload_n 3, 1) := dg_X8_same_58.2.2.2.2.1
theorem dX8_same_66 : decode cX8_same 66 = .ok (.if_icmp .ne 49, 3) := dg_X8_same_58.2.2.2.2.2.1
theorem dX8_same_69 : decode cX8_same 69 = .ok (.aload_n 0, 1) := dg_X8_same_58.2.2.2.2.2.2.1
theorem dX8_same_70 : decode cX8_same 70 = .ok (.getfield 51, 3) := dg_X8_same_58.2.2.2.2.2.2.2.1
theorem dX8_same_73 : decode cX8_same 73 = .ok (.bipush 60, 2) := dg_X8_same_58.2.2.2.2.2.2.2.2.1
theorem dX8_same_75 : decode cX8_same 75 = .ok (.iload 4, 2) := dg_X8_same_58.2.2.2.2.2.2.2.2.2.1
theorem dX8_same_77 : decode cX8_same 77 = .ok (.imul, 1) := dg_X8_same_58.2.2.2.2.2.2.2.2.2.2.1
theorem dX8_same_78 : decode cX8_same 78 = .ok (.iload 5, 2) := dg_X8_same_58.2.2.2.2.2.2.2.2.2.2.2.1
theorem dX8_same_80 : decode cX8_same 80 = .ok (.iadd, 1) := dg_X8_same_58.2.2.2.2.2.2.2.2.2.2.2.2.1
theorem dX8_same_81 : decode cX8_same 81 = .ok (.aload_n 0, 1) := dg_X8_same_58.2.2.2.2.2.2.2.2.2.2.2.2.2.1
theorem dX8_same_82 : decode cX8_same 82 = .ok (.getfield 13, 3) := dg_X8_same_58.2.2.2.2.2.2.2.2.2.2.2.2.2.2.1
theorem dX8_same_85 : decode cX8_same 85 = .ok (.iload 5, 2) := dg_X8_same_58.2.2.2.2.2.2.2.2.2.2.2.2.2.2.2
theorem dg_X8_same_87 : (decode cX8_same 87 = .ok (.iaload, 1)) ∧ (decode cX8_same 88 = .ok (.iload_n 3, 1)) ∧ (decode cX8_same 89 = .ok (.if_icmp .ne 18, 3)) ∧ (decode cX8_same 92 = .ok (.aload_n 0, 1)) ∧ (decode cX8_same 93 = .ok (.iload 4, 2)) ∧ (decode cX8_same 95 = .ok (.iload 5, 2)) ∧ (decode cX8_same 97 = .ok (.invokevirtual 242, 3)) ∧ (decode cX8_same 100 = .ok (.ifCond .eq 7, 3)) ∧ (decode cX8_same 103 = .ok (.iconst 1, 1)) ∧ (decode cX8_same 104 = .ok (.goto 4, 3)) ∧ (decode cX8_same 107 = .ok (.iconst 0, 1)) ∧ (decode cX8_same 108 = .ok (.bastore, 1)) ∧ (decode cX8_same 109 = .ok (.iinc 5 1, 3)) ∧ (decode cX8_same 112 = .ok (.goto (-63), 3)) ∧ (decode cX8_same 115 = .ok (.iinc 4 1, 3)) ∧ (decode cX8_same 118 = .ok (.goto (-81), 3)) := by decide +kernel
theorem dX8_same_87 : decode cX8_same 87 = .ok (.iaload, 1) := dg_X8_same_87.1
theorem dX8_same_88 : decode cX8_same 88 = .ok (.iload_n 3, 1) := dg_X8_same_87.2.1
theorem dX8_same_89 : decode cX8_same 89 = .ok (.if_icmp .ne 18, 3) := dg_X8_same_87.2.2.1
theorem dX8_same_92 : decode cX8_same 92 = .ok (.aload_n 0, 1) := dg_X8_same_87.2.2.2.1
theorem dX8_same_93 : decode cX8_same 93 = .ok (.iload 4, 2) := dg_X8_same_87.2.2.2.2.1
theorem dX8_same_95 : decode cX8_same 95 = .ok (.iload 5, 2) := dg_X8_same_87.2.2.2.2.2.1
theorem dX8_same_97 : decode cX8_same 97 = .ok (.invokevirtual 242, 3) := dg_X8_same_87.2.2.2.2.2.2.1
theorem dX8_same_100 : decode cX8_same 100 = .ok (.ifCond .eq 7, 3) := dg_X8_same_87.2.2.2.2.2.2.2.1
theorem dX8_same_103 : decode cX8_same 103 = .ok (.iconst 1, 1) := dg_X8_same_87.2.2.2.2.2.2.2.2.1
theorem dX8_same_104 : decode cX8_same 104 = .ok (.goto 4, 3) := dg_X8_same_87.2.2.2.2.2.2.2.2.2.1
theorem dX8_same_107 : decode cX8_same 107 = .ok (.iconst 0, 1) := dg_X8_same_87.2.2.2.2.2.2.2.2.2.2.1
theorem dX8_same_108 : decode cX8_same 108 = .ok (.bastore, 1) := dg_X8_same_87.2.2.2.2.2.2.2.2.2.2.2.1
theorem dX8_same_109 : decode cX8_same 109 = .ok (.iinc 5 1, 3) := dg_X8_same_87.2.2.2.2.2.2.2.2.2.2.2.2.1
theorem dX8_same_112 : decode cX8_same 112 = .ok (.goto (-63), 3) := dg_X8_same_87.2.2.2.2.2.2.2.2.2.2.2.2.2.1
theorem dX8_same_115 : decode cX8_same 115 = .ok (.iinc 4 1, 3) := dg_X8_same_87.2.2.2.2.2.2.2.2.2.2.2.2.2.2.1
theorem dX8_same_118 : decode cX8_same 118 = .ok (.goto (-81), 3) := dg_X8_same_87.2.2.2.2.2.2.2.2.2.2.2.2.2.2.2
theorem dg_X8_same_121 : (decode cX8_same 121 = .ok (.iinc 3 1, 3)) ∧ (decode cX8_same 124 = .ok (.goto (-100), 3)) ∧ (decode cX8_same 127 = .ok (.aload_n 0, 1)) ∧ (decode cX8_same 128 = .ok (.aload_n 0, 1)) ∧ (decode cX8_same 129 = .ok (.iload_n 1, 1)) ∧ (decode cX8_same 130 = .ok (.iload_n 2, 1)) ∧ (decode cX8_same 131 = .ok (.invokevirtual 242, 3)) ∧ (decode cX8_same 134 = .ok (.ifCond .eq 7, 3)) ∧ (decode cX8_same 137 = .ok (.iconst 1, 1)) ∧ (decode cX8_same 138 = .ok (.goto 4, 3)) ∧ (decode cX8_same 141 = .ok (.iconst 0, 1)) ∧ (decode cX8_same 142 = .ok (.invokevirtual 183, 3)) ∧ (decode cX8_same 145 = .ok (.ireturn, 1)) := by decide +kernel
theorem dX8_same_121 : decode cX8_same 121 = .ok (.iinc 3 1, 3) := dg_X8_same_121.1
theorem dX8_same_124 : decode cX8_same 124 = .ok (.goto (-100), 3) := dg_X8_same_121.2.1
theorem dX8_same_127 : decode cX8_same 127 = .ok (.aload_n 0, 1) := dg_X8_same_121.2.2.1
theorem dX8_same_128 : decode cX8_same 128 = .ok (.aload_n 0, 1) := dg_X8_same_121.2.2.2.1
theorem dX8_same_129 : decode cX8_same 129 = .ok (.iload_n 1, 1) := dg_X8_same_121.2.2.2.2.1
theorem dX8_same_130 : decode cX8_same 130 = .ok (.iload_n 2, 1) := dg_X8_same_121.2.2.2.2.2.1
theorem dX8_same_131 : decode cX8_same 131 = .ok (.invokevirtual 242, 3) := dg_X8_same_121.2.2.2.2.2.2.1
theorem dX8_same_134 : decode cX8_same 134 = .ok (.ifCond .eq 7, 3) := dg_X8_same_121.2.2.2.2.2.2.2.1
theorem dX8_same_137 : decode cX8_same 137 = .ok (.iconst 1, 1) := dg_X8_same_121.2.2.2.2.2.2.2.2.1
theorem dX8_same_138 : decode cX8_same 138 = .ok (.goto 4, 3) := dg_X8_same_121.2.2.2.2.2.2.2.2.2.1
theorem dX8_same_141 : decode cX8_same 141 = .ok (.iconst 0, 1) := dg_X8_same_121.2.2.2.2.2.2.2.2.2.2.1
theorem dX8_same_142 : decode cX8_same 142 = .ok (.invokevirtual 183, 3) := dg_X8_same_121.2.2.2.2.2.2.2.2.2.2.2.1
theorem dX8_same_145 : decode cX8_same 145 = .ok (.ireturn, 1) := dg_X8_same_121.2.2.2.2.2.2.2.2.2.2.2.2
theorem zk_1020 : Cond.methodLink RX8 242 yX8_isSame ∈ zz_w := zz_in (List.mem_append_right _ (List.mem_append_right _ (List.mem_append_right _ (List.mem_append_right _ (List.mem_append_right _ (List.mem_of_getElem? (i := 60) (by decide +kernel))))))) rfl
set_option maxRecDepth 20000 in
theorem zk_1023 : Cond.code yX8_isSame cX8_isSame 9 (some .boolean) ∈ zz_w := zz_in (List.mem_append_right _ (List.mem_append_right _ (List.mem_append_right _ (List.mem_append_right _ (List.mem_append_right _ (List.mem_of_getElem? (i := 63) (rfl))))))) rfl
theorem zk_1022 : Cond.instanceMethod yX8_isSame ∈ zz_w := zz_in (List.mem_append_right _ (List.mem_append_right _ (List.mem_append_right _ (List.mem_append_right _ (List.mem_append_right _ (List.mem_of_getElem? (i := 62) (by decide +kernel))))))) rfl
theorem zs_27 : Cond.selects RX8 yX8_isSame yX8_isSame ∈ zz_w := zz_in (List.mem_append_left _ (List.mem_of_getElem? (i := 27) (by decide +kernel))) rfl
theorem zc_X8_242 : zz_cV RX8 242 yX8_isSame cX8_isSame 9 (some .boolean) 2 := ⟨⟨zk_1020, zk_1023, zk_7, by decide, by decide, by decide +kernel⟩, zk_1022, zs_27⟩
noncomputable def fn_my_same2 (na : Nat) (ne : Nat) (kdf : Nat → Int32) (dpf : Nat → Int32) (lnf : Nat → Int32) (saf : Nat → Int32) (btf : Nat → Int64) (x1 : Int32) (x2 : Int32) : Int32 := (if (fn_cm_isArray (nI na) x1) = 0 then -5 else (if (fn_cm_isArray (nI na) x2) = 0 then -5 else (if (sp_b (sp_sS na kdf dpf saf lnf btf x1.toNatClampNeg x2.toNatClampNeg)) = 0 then 0 else 1)))
abbrev rm_my_same2 : Room := { frames := 2, cells := 0, slots := 0, locals := 46 }
abbrev po_my_same2 (g : zz_G) (h0 : Nat) (a_kindOf : Nat) (a_depthOf : Nat) (a_lengthOf : Nat) (a_classOf : Nat) (a_baseOf : Nat) (a_bits : Nat) (a_pinned : Nat) (a_lengths : Nat) (a_stackArray : Nat) (a_stackOther : Nat) (a_stackAt : Nat) (a_path : Nat) (a_held : Nat) (a_alike : Nat) (a_hashes : Nat) (a_decisionArray : Nat) (a_decisionPlace : Nat) (a_candidateMany : Nat) (a_candidates : Nat) (a_ruleSort : Nat) (a_ruleArray : Nat) (a_ruleWeight : Nat) (a_ruleLow : Nat) (a_ruleHigh : Nat) (a_chosen : Nat) (a_bestOf : Nat) (a_markElements : Nat) (a_markBits : Nat) (a_markPins : Nat) (na : Nat) (ne : Nat) (nd : Nat) (nr : Nat) (nm : Nat) (i_code : Int32) (i_lastArray : Int32) (i_lastPlace : Int32) (kdf : Nat → Int32) (dpf : Nat → Int32) (lnf : Nat → Int32) (saf : Nat → Int32) (btf : Nat → Int64) (alf : Nat → Int32) (x1 : Int32) (x2 : Int32) (h_M : zz_MI na ne dpf saf lnf btf) : Int32 → va_W → Prop := fun (r : Int32) (u : va_W) => ∃ (k_c : Int32) (k_a : Int32) (k_p : Int32) (al2 : Nat → Int32), r = fn_my_same2 na ne kdf dpf lnf saf btf x1 x2 ∧ u = [cw_k7 h0 (nI na) (nI ne) a_kindOf a_depthOf a_lengthOf a_classOf a_baseOf a_bits a_pinned k_c a_lengths a_stackArray a_stackOther a_stackAt k_a k_p a_path a_held a_alike a_hashes (nI nd) a_decisionArray a_decisionPlace a_candidateMany a_candidates (nI nr) a_ruleSort a_ruleArray a_ruleWeight a_ruleLow a_ruleHigh a_chosen a_bestOf (nI nm) a_markElements a_markBits a_markPins, cw_i g a_kindOf 60 kdf, cw_i g a_depthOf 60 dpf, cw_i g a_lengthOf 60 lnf, cw_i g a_baseOf 60 saf, cw_l g a_bits 4000 btf, cw_z g a_alike 3600 al2]
set_option maxHeartbeats 4000000 in
set_option maxRecDepth 100000 in
theorem my_same2 (g : zz_G) (h0 : Nat) (a_kindOf : Nat) (a_depthOf : Nat) (a_lengthOf : Nat) (a_classOf : Nat) (a_baseOf : Nat) (a_bits : Nat) (a_pinned : Nat) (a_lengths : Nat) (a_stackArray : Nat) (a_stackOther : Nat) (a_stackAt : Nat) (a_path : Nat) (a_held : Nat) (a_alike : Nat) (a_hashes : Nat) (a_decisionArray : Nat) (a_decisionPlace : Nat) (a_candidateMany : Nat) (a_candidates : Nat) (a_ruleSort : Nat) (a_ruleArray : Nat) (a_ruleWeight : Nat) (a_ruleLow : Nat) (a_ruleHigh : Nat) (a_chosen : Nat) (a_bestOf : Nat) (a_markElements : Nat) (a_markBits : Nat) (a_markPins : Nat) (na : Nat) (ne : Nat) (nd : Nat) (nr : Nat) (nm : Nat) (i_code : Int32) (i_lastArray : Int32) (i_lastPlace : Int32) (kdf : Nat → Int32) (dpf : Nat → Int32) (lnf : Nat → Int32) (saf : Nat → Int32) (btf : Nat → Int64) (alf : Nat → Int32) (x1 : Int32) (x2 : Int32) (h_M : zz_MI na ne dpf saf lnf btf) : zz_I g yX8_same (.code yX8_same cX8_same 6 (some .int)) rm_my_same2 [.ref h0, .int x1, .int x2] [cw_k7 h0 (nI na) (nI ne) a_kindOf a_depthOf a_lengthOf a_classOf a_baseOf a_bits a_pinned i_code a_lengths a_stackArray a_stackOther a_stackAt i_lastArray i_lastPlace a_path a_held a_alike a_hashes (nI nd) a_decisionArray a_decisionPlace a_candidateMany a_candidates (nI nr) a_ruleSort a_ruleArray a_ruleWeight a_ruleLow a_ruleHigh a_chosen a_bestOf (nI nm) a_markElements a_markBits a_markPins, cw_i g a_kindOf 60 kdf, cw_i g a_depthOf 60 dpf, cw_i g a_lengthOf 60 lnf, cw_i g a_baseOf 60 saf, cw_l g a_bits 4000 btf, cw_z g a_alike 3600 alf] (po_my_same2 g h0 a_kindOf a_depthOf a_lengthOf a_classOf a_baseOf a_bits a_pinned a_lengths a_stackArray a_stackOther a_stackAt a_path a_held a_alike a_hashes a_decisionArray a_decisionPlace a_candidateMany a_candidates a_ruleSort a_ruleArray a_ruleWeight a_ruleLow a_ruleHigh a_chosen a_bestOf a_markElements a_markBits a_markPins na ne nd nr nm i_code i_lastArray i_lastPlace kdf dpf lnf saf btf alf x1 x2 h_M) := by
  refine zz_I.intro (own := RX8) (cc := cX8_same) (nL := 6) (by decide) rfl (Nat.le_of_ble_eq_true rfl) ?_
  intro p l e s m args below meth c A H locs ls hC hnm hs hZ hl
  obtain ⟨hx, hb, hml, hown, hts, hr, hlocks, hK⟩ := id hC
  have hl : lv_has ls 6 [(0, .ref h0), (1, .int x1), (2, .int x2)] := hl
  have hZ : zz_Z g A s.heap [cw_k7 h0 (nI na) (nI ne) a_kindOf a_depthOf a_lengthOf a_classOf a_baseOf a_bits a_pinned i_code a_lengths a_stackArray a_stackOther a_stackAt i_lastArray i_lastPlace a_path a_held a_alike a_hashes (nI nd) a_decisionArray a_decisionPlace a_candidateMany a_candidates (nI nr) a_ruleSort a_ruleArray a_ruleWeight a_ruleLow a_ruleHigh a_chosen a_bestOf (nI nm) a_markElements a_markBits a_markPins, cw_i g a_kindOf 60 kdf, cw_i g a_depthOf 60 dpf, cw_i g a_lengthOf 60 lnf, cw_i g a_baseOf 60 saf, cw_l g a_bits 4000 btf, cw_z g a_alike 3600 alf] H locs := hZ
  have h_S := h_M.1
  have hna := h_S.1
  have hne := h_S.2.1
  refine lv_aload_n hx hb dX8_same_0 rfl (lv_at hl 0 rfl) ?_
  refine lv_iload_n hx hb dX8_same_1 rfl (lv_at hl 1 rfl) ?_
  refine zz_iV (As := [.int x1]) (wc := [cw_k7 h0 (nI na) (nI ne) a_kindOf a_depthOf a_lengthOf a_classOf a_baseOf a_bits a_pinned i_code a_lengths a_stackArray a_stackOther a_stackAt i_lastArray i_lastPlace a_path a_held a_alike a_hashes (nI nd) a_decisionArray a_decisionPlace a_candidateMany a_candidates (nI nr) a_ruleSort a_ruleArray a_ruleWeight a_ruleLow a_ruleHigh a_chosen a_bestOf (nI nm) a_markElements a_markBits a_markPins]) (wr := [cw_i g a_kindOf 60 kdf, cw_i g a_depthOf 60 dpf, cw_i g a_lengthOf 60 lnf, cw_i g a_baseOf 60 saf, cw_l g a_bits 4000 btf, cw_z g a_alike 3600 alf]) (rest := []) hC hZ hs hl zc_X8_200 (cm_isArray g h0 a_kindOf a_depthOf a_lengthOf a_classOf a_baseOf a_bits a_pinned a_lengths a_stackArray a_stackOther a_stackAt a_path a_held a_alike a_hashes a_decisionArray a_decisionPlace a_candidateMany a_candidates a_ruleSort a_ruleArray a_ruleWeight a_ruleLow a_ruleHigh a_chosen a_bestOf a_markElements a_markBits a_markPins (nI na) (nI ne) i_code i_lastArray i_lastPlace (nI nd) (nI nr) (nI nm) x1) [0] [1, 2, 3, 4, 5, 6] rfl rfl (by decide +kernel) (ci := 7) (q0 := 0) rfl rfl rfl rfl (Nat.le_of_ble_eq_true rfl) ⟨⟨Nat.le_of_ble_eq_true rfl, Nat.le_of_ble_eq_true rfl⟩, Nat.le_of_ble_eq_true rfl, Nat.le_of_ble_eq_true rfl⟩ dX8_same_2 (fun r1 u2 H locs hp hZ => ?_)
  obtain ⟨rfl, rfl⟩ := hp
  have hZ : zz_Z g A s.heap [cw_i g a_kindOf 60 kdf, cw_i g a_depthOf 60 dpf, cw_i g a_lengthOf 60 lnf, cw_i g a_baseOf 60 saf, cw_l g a_bits 4000 btf, cw_z g a_alike 3600 alf, cw_k7 h0 (nI na) (nI ne) a_kindOf a_depthOf a_lengthOf a_classOf a_baseOf a_bits a_pinned i_code a_lengths a_stackArray a_stackOther a_stackAt i_lastArray i_lastPlace a_path a_held a_alike a_hashes (nI nd) a_decisionArray a_decisionPlace a_candidateMany a_candidates (nI nr) a_ruleSort a_ruleArray a_ruleWeight a_ruleLow a_ruleHigh a_chosen a_bestOf (nI nm) a_markElements a_markBits a_markPins] H locs := hZ
  refine lv_if_eq (tgt := 16) hx hb dX8_same_5 (by decide) (fun c3 => ?_) (fun c3 => ?_)
  · refine lv_aload_n hx hb dX8_same_16 rfl (lv_at hl 0 rfl) ?_
    refine lv_iconst (v := 5) hx hb dX8_same_17 (by decide) ?_
    refine zz_iV (As := [.int 5]) (wc := [cw_k7 h0 (nI na) (nI ne) a_kindOf a_depthOf a_lengthOf a_classOf a_baseOf a_bits a_pinned i_code a_lengths a_stackArray a_stackOther a_stackAt i_lastArray i_lastPlace a_path a_held a_alike a_hashes (nI nd) a_decisionArray a_decisionPlace a_candidateMany a_candidates (nI nr) a_ruleSort a_ruleArray a_ruleWeight a_ruleLow a_ruleHigh a_chosen a_bestOf (nI nm) a_markElements a_markBits a_markPins]) (wr := [cw_i g a_kindOf 60 kdf, cw_i g a_depthOf 60 dpf, cw_i g a_lengthOf 60 lnf, cw_i g a_baseOf 60 saf, cw_l g a_bits 4000 btf, cw_z g a_alike 3600 alf]) (rest := []) hC hZ hs hl zc_X8_175 (cm_fails g h0 a_kindOf a_depthOf a_lengthOf a_classOf a_baseOf a_bits a_pinned a_lengths a_stackArray a_stackOther a_stackAt a_path a_held a_alike a_hashes a_decisionArray a_decisionPlace a_candidateMany a_candidates a_ruleSort a_ruleArray a_ruleWeight a_ruleLow a_ruleHigh a_chosen a_bestOf a_markElements a_markBits a_markPins (nI na) (nI ne) i_code i_lastArray i_lastPlace (nI nd) (nI nr) (nI nm) 5) [6] [0, 1, 2, 3, 4, 5] rfl rfl (by decide +kernel) (ci := 7) (q0 := 0) rfl rfl rfl rfl (Nat.le_of_ble_eq_true rfl) ⟨⟨Nat.le_of_ble_eq_true rfl, Nat.le_of_ble_eq_true rfl⟩, Nat.le_of_ble_eq_true rfl, Nat.le_of_ble_eq_true rfl⟩ dX8_same_18 (fun r4 u5 H locs hp hZ => ?_)
    obtain ⟨rfl, rfl⟩ := hp
    have hZ : zz_Z g A s.heap [cw_i g a_kindOf 60 kdf, cw_i g a_depthOf 60 dpf, cw_i g a_lengthOf 60 lnf, cw_i g a_baseOf 60 saf, cw_l g a_bits 4000 btf, cw_z g a_alike 3600 alf, cw_k7 h0 (nI na) (nI ne) a_kindOf a_depthOf a_lengthOf a_classOf a_baseOf a_bits a_pinned 5 a_lengths a_stackArray a_stackOther a_stackAt i_lastArray i_lastPlace a_path a_held a_alike a_hashes (nI nd) a_decisionArray a_decisionPlace a_candidateMany a_candidates (nI nr) a_ruleSort a_ruleArray a_ruleWeight a_ruleLow a_ruleHigh a_chosen a_bestOf (nI nm) a_markElements a_markBits a_markPins] H locs := hZ
    have hZ : zz_Z g A s.heap [cw_k7 h0 (nI na) (nI ne) a_kindOf a_depthOf a_lengthOf a_classOf a_baseOf a_bits a_pinned 5 a_lengths a_stackArray a_stackOther a_stackAt i_lastArray i_lastPlace a_path a_held a_alike a_hashes (nI nd) a_decisionArray a_decisionPlace a_candidateMany a_candidates (nI nr) a_ruleSort a_ruleArray a_ruleWeight a_ruleLow a_ruleHigh a_chosen a_bestOf (nI nm) a_markElements a_markBits a_markPins, cw_i g a_kindOf 60 kdf, cw_i g a_depthOf 60 dpf, cw_i g a_lengthOf 60 lnf, cw_i g a_baseOf 60 saf, cw_l g a_bits 4000 btf, cw_z g a_alike 3600 alf] H locs := hZ.sub [6, 0, 1, 2, 3, 4, 5] (by decide +kernel) rfl
    exact zz_iret hC hZ (⟨5, i_lastArray, i_lastPlace, alf, by show _ = _; rw [fn_my_same2]; rw [if_pos c3], rfl⟩) (Nat.le_of_ble_eq_true rfl) (Nat.le_of_ble_eq_true rfl) dX8_same_21
  · obtain ⟨a1, ha1, ea1⟩ := zl_isA (by omega) c3
    have hl : lv_has ls 6 [(0, .ref h0), (1, .int (nI a1)), (2, .int x2)] := by rw [← ea1]; exact hl
    have bd6 : a1 < 2 ^ 31 := by omega
    have d_a1 : x1.toNatClampNeg = a1 := by rw [ea1]; exact nI_clamp bd6
    obtain ⟨sz1, lz1, dz1, es1, el1, ed1, g11, g21, g31, g41⟩ := h_S.2.2 a1 ha1
    have bd7 : sz1 < 2 ^ 31 := by omega
    have d_sz1 : (saf a1).toNatClampNeg = sz1 := by rw [es1]; exact nI_clamp bd7
    have bd8 : lz1 < 2 ^ 31 := by omega
    have d_lz1 : (lnf a1).toNatClampNeg = lz1 := by rw [el1]; exact nI_clamp bd8
    have bd9 : dz1 < 2 ^ 31 := by omega
    have d_dz1 : (dpf a1).toNatClampNeg = dz1 := by rw [ed1]; exact nI_clamp bd9
    refine lv_aload_n hx hb dX8_same_8 rfl (lv_at hl 0 rfl) ?_
    refine lv_iload_n hx hb dX8_same_9 rfl (lv_at hl 2 rfl) ?_
    refine zz_iV (As := [.int x2]) (wc := [cw_k7 h0 (nI na) (nI ne) a_kindOf a_depthOf a_lengthOf a_classOf a_baseOf a_bits a_pinned i_code a_lengths a_stackArray a_stackOther a_stackAt i_lastArray i_lastPlace a_path a_held a_alike a_hashes (nI nd) a_decisionArray a_decisionPlace a_candidateMany a_candidates (nI nr) a_ruleSort a_ruleArray a_ruleWeight a_ruleLow a_ruleHigh a_chosen a_bestOf (nI nm) a_markElements a_markBits a_markPins]) (wr := [cw_i g a_kindOf 60 kdf, cw_i g a_depthOf 60 dpf, cw_i g a_lengthOf 60 lnf, cw_i g a_baseOf 60 saf, cw_l g a_bits 4000 btf, cw_z g a_alike 3600 alf]) (rest := []) hC hZ hs hl zc_X8_200 (cm_isArray g h0 a_kindOf a_depthOf a_lengthOf a_classOf a_baseOf a_bits a_pinned a_lengths a_stackArray a_stackOther a_stackAt a_path a_held a_alike a_hashes a_decisionArray a_decisionPlace a_candidateMany a_candidates a_ruleSort a_ruleArray a_ruleWeight a_ruleLow a_ruleHigh a_chosen a_bestOf a_markElements a_markBits a_markPins (nI na) (nI ne) i_code i_lastArray i_lastPlace (nI nd) (nI nr) (nI nm) x2) [6] [0, 1, 2, 3, 4, 5] rfl rfl (by decide +kernel) (ci := 7) (q0 := 0) rfl rfl rfl rfl (Nat.le_of_ble_eq_true rfl) ⟨⟨Nat.le_of_ble_eq_true rfl, Nat.le_of_ble_eq_true rfl⟩, Nat.le_of_ble_eq_true rfl, Nat.le_of_ble_eq_true rfl⟩ dX8_same_10 (fun r10 u11 H locs hp hZ => ?_)
    obtain ⟨rfl, rfl⟩ := hp
    have hZ : zz_Z g A s.heap [cw_i g a_kindOf 60 kdf, cw_i g a_depthOf 60 dpf, cw_i g a_lengthOf 60 lnf, cw_i g a_baseOf 60 saf, cw_l g a_bits 4000 btf, cw_z g a_alike 3600 alf, cw_k7 h0 (nI na) (nI ne) a_kindOf a_depthOf a_lengthOf a_classOf a_baseOf a_bits a_pinned i_code a_lengths a_stackArray a_stackOther a_stackAt i_lastArray i_lastPlace a_path a_held a_alike a_hashes (nI nd) a_decisionArray a_decisionPlace a_candidateMany a_candidates (nI nr) a_ruleSort a_ruleArray a_ruleWeight a_ruleLow a_ruleHigh a_chosen a_bestOf (nI nm) a_markElements a_markBits a_markPins] H locs := hZ
    refine lv_if_ne (tgt := 22) hx hb dX8_same_13 (by decide) (fun c12 => ?_) (fun c12 => ?_)
    · obtain ⟨a2, ha2, ea2⟩ := zl_isA (by omega) c12
      have hl : lv_has ls 6 [(0, .ref h0), (1, .int (nI a1)), (2, .int (nI a2))] := by rw [← ea2]; exact hl
      have bd13 : a2 < 2 ^ 31 := by omega
      have d_a2 : x2.toNatClampNeg = a2 := by rw [ea2]; exact nI_clamp bd13
      obtain ⟨sz2, lz2, dz2, es2, el2, ed2, g12, g22, g32, g42⟩ := h_S.2.2 a2 ha2
      have bd14 : sz2 < 2 ^ 31 := by omega
      have d_sz2 : (saf a2).toNatClampNeg = sz2 := by rw [es2]; exact nI_clamp bd14
      have bd15 : lz2 < 2 ^ 31 := by omega
      have d_lz2 : (lnf a2).toNatClampNeg = lz2 := by rw [el2]; exact nI_clamp bd15
      have bd16 : dz2 < 2 ^ 31 := by omega
      have d_dz2 : (dpf a2).toNatClampNeg = dz2 := by rw [ed2]; exact nI_clamp bd16
      refine lv_iconst (v := 1) hx hb dX8_same_22 (by decide) ?_
      refine lv_istore_n (lv' := [(3, .int 1), (0, .ref h0), (1, .int (nI a1)), (2, .int (nI a2))]) hx hb dX8_same_23 rfl hl (by decide) rfl (fun ls hl => ?_)
      have LP17 : ∀ (N17 : Nat) (i1 : Nat) (al1 : Nat → Int32) (H : Heap) (locs : List Loc) (ls : Array Slot), (1 ≤ i1 ∧ i1 ≤ 4) → (zz_ST na (sp_sS na kdf dpf saf lnf btf) dpf i1 al1) → (4 - i1) < N17 → zz_Z g A s.heap [cw_i g a_kindOf 60 kdf, cw_i g a_depthOf 60 dpf, cw_i g a_lengthOf 60 lnf, cw_i g a_baseOf 60 saf, cw_l g a_bits 4000 btf, cw_z g a_alike 3600 al1, cw_k7 h0 (nI na) (nI ne) a_kindOf a_depthOf a_lengthOf a_classOf a_baseOf a_bits a_pinned i_code a_lengths a_stackArray a_stackOther a_stackAt i_lastArray i_lastPlace a_path a_held a_alike a_hashes (nI nd) a_decisionArray a_decisionPlace a_candidateMany a_candidates (nI nr) a_ruleSort a_ruleArray a_ruleWeight a_ruleLow a_ruleHigh a_chosen a_bestOf (nI nm) a_markElements a_markBits a_markPins] H locs → lv_has ls 6 [(3, .int (nI i1)), (0, .ref h0), (1, .int (nI a1)), (2, .int (nI a2))] → W p l e rm_my_same2 s m args below meth c H locs 0 0 (zz_QI below g args s A rm_my_same2.cells rm_my_same2.slots (po_my_same2 g h0 a_kindOf a_depthOf a_lengthOf a_classOf a_baseOf a_bits a_pinned a_lengths a_stackArray a_stackOther a_stackAt a_path a_held a_alike a_hashes a_decisionArray a_decisionPlace a_candidateMany a_candidates a_ruleSort a_ruleArray a_ruleWeight a_ruleLow a_ruleHigh a_chosen a_bestOf a_markElements a_markBits a_markPins na ne nd nr nm i_code i_lastArray i_lastPlace kdf dpf lnf saf btf alf x1 x2 h_M)) (F0 m 24 ls []) := by
        intro N17
        induction N17 with
        | zero =>
          intro i1 al1 H locs ls h1 ht1 hN17
          exact absurd hN17 (Nat.not_lt_zero _)
        | succ N17 ih17 =>
          intro i1 al1 H locs ls h1 ht1 hN17 hZ hl
          refine lv_iload_n hx hb dX8_same_24 rfl (lv_at hl 0 rfl) ?_
          refine lv_aload_n hx hb dX8_same_25 rfl (lv_at hl 1 rfl) ?_
          refine zz_get hC hZ 6 rfl zf_X8_13 rfl dX8_same_26 ?_
          refine lv_iload_n hx hb dX8_same_29 rfl (lv_at hl 2 rfl) ?_
          have bd18 : a1 < 60 := by omega
          refine zz_ialdn hC hZ 1 rfl bd18 (by decide) dX8_same_30 ?_
          refine zz_topi (v := nI dz1) (ed1) ?_
          have bd20 : i1 < 2 ^ 31 := by omega
          refine lv_icmp_ge (tgt := 127) hx hb dX8_same_31 (by decide) (fun c19 => ?_) (fun c19 => ?_)
          · have nc19 : dz1 ≤ i1 := (nI_leI bd9 bd20).mp (show nI (dz1) ≤ nI (i1) from c19)
            refine lv_aload_n hx hb dX8_same_127 rfl (lv_at hl 1 rfl) ?_
            refine lv_aload_n hx hb dX8_same_128 rfl (lv_at hl 1 rfl) ?_
            refine lv_iload_n hx hb dX8_same_129 rfl (lv_at hl 2 rfl) ?_
            refine lv_iload_n hx hb dX8_same_130 rfl (lv_at hl 3 rfl) ?_
            refine zz_iV (As := [.int (nI a1), .int (nI a2)]) (wc := [cw_k7 h0 (nI na) (nI ne) a_kindOf a_depthOf a_lengthOf a_classOf a_baseOf a_bits a_pinned i_code a_lengths a_stackArray a_stackOther a_stackAt i_lastArray i_lastPlace a_path a_held a_alike a_hashes (nI nd) a_decisionArray a_decisionPlace a_candidateMany a_candidates (nI nr) a_ruleSort a_ruleArray a_ruleWeight a_ruleLow a_ruleHigh a_chosen a_bestOf (nI nm) a_markElements a_markBits a_markPins, cw_i g a_kindOf 60 kdf, cw_i g a_depthOf 60 dpf, cw_i g a_lengthOf 60 lnf, cw_i g a_baseOf 60 saf, cw_l g a_bits 4000 btf, cw_z g a_alike 3600 al1]) (wr := []) (rest := [.ref h0]) hC hZ hs hl zc_X8_242 (cm_isSame2 g h0 a_kindOf a_depthOf a_lengthOf a_classOf a_baseOf a_bits a_pinned a_lengths a_stackArray a_stackOther a_stackAt a_path a_held a_alike a_hashes a_decisionArray a_decisionPlace a_candidateMany a_candidates a_ruleSort a_ruleArray a_ruleWeight a_ruleLow a_ruleHigh a_chosen a_bestOf a_markElements a_markBits a_markPins na ne nd nr nm i_code i_lastArray i_lastPlace kdf dpf lnf saf btf al1 a1 a2 (h_M) (by omega) (fun d ed hd => ht1.mono (by have := (nI_eq (by omega) (by omega)).mp (ed.symm.trans ed1); omega))) [6, 0, 1, 2, 3, 4, 5] [] rfl rfl (by decide +kernel) (ci := 7) (q0 := 0) rfl rfl rfl rfl (Nat.le_of_ble_eq_true rfl) ⟨⟨Nat.le_of_ble_eq_true rfl, Nat.le_of_ble_eq_true rfl⟩, Nat.le_of_ble_eq_true rfl, Nat.le_of_ble_eq_true rfl⟩ dX8_same_131 (fun r21 u22 H locs hp hZ => ?_)
            obtain ⟨f23, rfl⟩ := hp
            have hZ : zz_Z g A s.heap [cw_k7 h0 (nI na) (nI ne) a_kindOf a_depthOf a_lengthOf a_classOf a_baseOf a_bits a_pinned i_code a_lengths a_stackArray a_stackOther a_stackAt i_lastArray i_lastPlace a_path a_held a_alike a_hashes (nI nd) a_decisionArray a_decisionPlace a_candidateMany a_candidates (nI nr) a_ruleSort a_ruleArray a_ruleWeight a_ruleLow a_ruleHigh a_chosen a_bestOf (nI nm) a_markElements a_markBits a_markPins, cw_i g a_kindOf 60 kdf, cw_i g a_depthOf 60 dpf, cw_i g a_lengthOf 60 lnf, cw_i g a_baseOf 60 saf, cw_l g a_bits 4000 btf, cw_z g a_alike 3600 al1] H locs := hZ
            have d_r21 : sp_b (sp_sS na kdf dpf saf lnf btf a1 a2) = r21 := f23.symm
            refine lv_if_eq (tgt := 141) hx hb dX8_same_134 (by decide) (fun c24 => ?_) (fun c24 => ?_)
            · refine lv_iconst (v := 0) hx hb dX8_same_141 (by decide) ?_
              refine zz_iV (As := [.int 0]) (wc := [cw_k7 h0 (nI na) (nI ne) a_kindOf a_depthOf a_lengthOf a_classOf a_baseOf a_bits a_pinned i_code a_lengths a_stackArray a_stackOther a_stackAt i_lastArray i_lastPlace a_path a_held a_alike a_hashes (nI nd) a_decisionArray a_decisionPlace a_candidateMany a_candidates (nI nr) a_ruleSort a_ruleArray a_ruleWeight a_ruleLow a_ruleHigh a_chosen a_bestOf (nI nm) a_markElements a_markBits a_markPins]) (wr := [cw_i g a_kindOf 60 kdf, cw_i g a_depthOf 60 dpf, cw_i g a_lengthOf 60 lnf, cw_i g a_baseOf 60 saf, cw_l g a_bits 4000 btf, cw_z g a_alike 3600 al1]) (rest := []) hC hZ hs hl zc_X8_183 (cm_fine g h0 a_kindOf a_depthOf a_lengthOf a_classOf a_baseOf a_bits a_pinned a_lengths a_stackArray a_stackOther a_stackAt a_path a_held a_alike a_hashes a_decisionArray a_decisionPlace a_candidateMany a_candidates a_ruleSort a_ruleArray a_ruleWeight a_ruleLow a_ruleHigh a_chosen a_bestOf a_markElements a_markBits a_markPins (nI na) (nI ne) i_code i_lastArray i_lastPlace (nI nd) (nI nr) (nI nm) 0) [0] [1, 2, 3, 4, 5, 6] rfl rfl (by decide +kernel) (ci := 7) (q0 := 0) rfl rfl rfl rfl (Nat.le_of_ble_eq_true rfl) ⟨⟨Nat.le_of_ble_eq_true rfl, Nat.le_of_ble_eq_true rfl⟩, Nat.le_of_ble_eq_true rfl, Nat.le_of_ble_eq_true rfl⟩ dX8_same_142 (fun r25 u26 H locs hp hZ => ?_)
              obtain ⟨rfl, rfl⟩ := hp
              have hZ : zz_Z g A s.heap [cw_i g a_kindOf 60 kdf, cw_i g a_depthOf 60 dpf, cw_i g a_lengthOf 60 lnf, cw_i g a_baseOf 60 saf, cw_l g a_bits 4000 btf, cw_z g a_alike 3600 al1, cw_k7 h0 (nI na) (nI ne) a_kindOf a_depthOf a_lengthOf a_classOf a_baseOf a_bits a_pinned 0 a_lengths a_stackArray a_stackOther a_stackAt i_lastArray i_lastPlace a_path a_held a_alike a_hashes (nI nd) a_decisionArray a_decisionPlace a_candidateMany a_candidates (nI nr) a_ruleSort a_ruleArray a_ruleWeight a_ruleLow a_ruleHigh a_chosen a_bestOf (nI nm) a_markElements a_markBits a_markPins] H locs := hZ
              have hZ : zz_Z g A s.heap [cw_k7 h0 (nI na) (nI ne) a_kindOf a_depthOf a_lengthOf a_classOf a_baseOf a_bits a_pinned 0 a_lengths a_stackArray a_stackOther a_stackAt i_lastArray i_lastPlace a_path a_held a_alike a_hashes (nI nd) a_decisionArray a_decisionPlace a_candidateMany a_candidates (nI nr) a_ruleSort a_ruleArray a_ruleWeight a_ruleLow a_ruleHigh a_chosen a_bestOf (nI nm) a_markElements a_markBits a_markPins, cw_i g a_kindOf 60 kdf, cw_i g a_depthOf 60 dpf, cw_i g a_lengthOf 60 lnf, cw_i g a_baseOf 60 saf, cw_l g a_bits 4000 btf, cw_z g a_alike 3600 al1] H locs := hZ.sub [6, 0, 1, 2, 3, 4, 5] (by decide +kernel) rfl
              exact zz_iret hC hZ (⟨0, i_lastArray, i_lastPlace, al1, by refine Eq.symm ?_; rw [fn_my_same2]; refine (if_neg (by (try simp only [d_a1, d_sz1, d_lz1, d_dz1, d_a2, d_sz2, d_lz2, d_dz2, d_r21]); exact c3)).trans ?_; refine (if_neg (by (try simp only [d_a1, d_sz1, d_lz1, d_dz1, d_a2, d_sz2, d_lz2, d_dz2, d_r21]); exact c12)).trans ?_; refine (if_pos (by (try simp only [d_a1, d_sz1, d_lz1, d_dz1, d_a2, d_sz2, d_lz2, d_dz2, d_r21]); exact c24)).trans ?_; first | (simp only [d_a1, d_sz1, d_lz1, d_dz1, d_a2, d_sz2, d_lz2, d_dz2, d_r21]; done) | rfl, rfl⟩) (Nat.le_of_ble_eq_true rfl) (Nat.le_of_ble_eq_true rfl) dX8_same_145
            · refine lv_iconst (v := 1) hx hb dX8_same_137 (by decide) ?_
              refine lv_goto (tgt := 142) hx hb dX8_same_138 (by decide) ?_
              refine zz_iV (As := [.int 1]) (wc := [cw_k7 h0 (nI na) (nI ne) a_kindOf a_depthOf a_lengthOf a_classOf a_baseOf a_bits a_pinned i_code a_lengths a_stackArray a_stackOther a_stackAt i_lastArray i_lastPlace a_path a_held a_alike a_hashes (nI nd) a_decisionArray a_decisionPlace a_candidateMany a_candidates (nI nr) a_ruleSort a_ruleArray a_ruleWeight a_ruleLow a_ruleHigh a_chosen a_bestOf (nI nm) a_markElements a_markBits a_markPins]) (wr := [cw_i g a_kindOf 60 kdf, cw_i g a_depthOf 60 dpf, cw_i g a_lengthOf 60 lnf, cw_i g a_baseOf 60 saf, cw_l g a_bits 4000 btf, cw_z g a_alike 3600 al1]) (rest := []) hC hZ hs hl zc_X8_183 (cm_fine g h0 a_kindOf a_depthOf a_lengthOf a_classOf a_baseOf a_bits a_pinned a_lengths a_stackArray a_stackOther a_stackAt a_path a_held a_alike a_hashes a_decisionArray a_decisionPlace a_candidateMany a_candidates a_ruleSort a_ruleArray a_ruleWeight a_ruleLow a_ruleHigh a_chosen a_bestOf a_markElements a_markBits a_markPins (nI na) (nI ne) i_code i_lastArray i_lastPlace (nI nd) (nI nr) (nI nm) 1) [0] [1, 2, 3, 4, 5, 6] rfl rfl (by decide +kernel) (ci := 7) (q0 := 0) rfl rfl rfl rfl (Nat.le_of_ble_eq_true rfl) ⟨⟨Nat.le_of_ble_eq_true rfl, Nat.le_of_ble_eq_true rfl⟩, Nat.le_of_ble_eq_true rfl, Nat.le_of_ble_eq_true rfl⟩ dX8_same_142 (fun r27 u28 H locs hp hZ => ?_)
              obtain ⟨rfl, rfl⟩ := hp
              have hZ : zz_Z g A s.heap [cw_i g a_kindOf 60 kdf, cw_i g a_depthOf 60 dpf, cw_i g a_lengthOf 60 lnf, cw_i g a_baseOf 60 saf, cw_l g a_bits 4000 btf, cw_z g a_alike 3600 al1, cw_k7 h0 (nI na) (nI ne) a_kindOf a_depthOf a_lengthOf a_classOf a_baseOf a_bits a_pinned 0 a_lengths a_stackArray a_stackOther a_stackAt i_lastArray i_lastPlace a_path a_held a_alike a_hashes (nI nd) a_decisionArray a_decisionPlace a_candidateMany a_candidates (nI nr) a_ruleSort a_ruleArray a_ruleWeight a_ruleLow a_ruleHigh a_chosen a_bestOf (nI nm) a_markElements a_markBits a_markPins] H locs := hZ
              have hZ : zz_Z g A s.heap [cw_k7 h0 (nI na) (nI ne) a_kindOf a_depthOf a_lengthOf a_classOf a_baseOf a_bits a_pinned 0 a_lengths a_stackArray a_stackOther a_stackAt i_lastArray i_lastPlace a_path a_held a_alike a_hashes (nI nd) a_decisionArray a_decisionPlace a_candidateMany a_candidates (nI nr) a_ruleSort a_ruleArray a_ruleWeight a_ruleLow a_ruleHigh a_chosen a_bestOf (nI nm) a_markElements a_markBits a_markPins, cw_i g a_kindOf 60 kdf, cw_i g a_depthOf 60 dpf, cw_i g a_lengthOf 60 lnf, cw_i g a_baseOf 60 saf, cw_l g a_bits 4000 btf, cw_z g a_alike 3600 al1] H locs := hZ.sub [6, 0, 1, 2, 3, 4, 5] (by decide +kernel) rfl
              exact zz_iret hC hZ (⟨0, i_lastArray, i_lastPlace, al1, by refine Eq.symm ?_; rw [fn_my_same2]; refine (if_neg (by (try simp only [d_a1, d_sz1, d_lz1, d_dz1, d_a2, d_sz2, d_lz2, d_dz2, d_r21]); exact c3)).trans ?_; refine (if_neg (by (try simp only [d_a1, d_sz1, d_lz1, d_dz1, d_a2, d_sz2, d_lz2, d_dz2, d_r21]); exact c12)).trans ?_; refine (if_neg (by (try simp only [d_a1, d_sz1, d_lz1, d_dz1, d_a2, d_sz2, d_lz2, d_dz2, d_r21]); exact c24)).trans ?_; first | (simp only [d_a1, d_sz1, d_lz1, d_dz1, d_a2, d_sz2, d_lz2, d_dz2, d_r21]; done) | rfl, rfl⟩) (Nat.le_of_ble_eq_true rfl) (Nat.le_of_ble_eq_true rfl) dX8_same_145
          · have nc19 : ¬ dz1 ≤ i1 := fun zq => c19 (show nI (dz1) ≤ nI (i1) from (nI_leI bd9 bd20).mpr zq)
            refine lv_iconst (v := 0) hx hb dX8_same_34 (by decide) ?_
            refine lv_istore (lv' := [(4, .int 0), (3, .int (nI i1)), (0, .ref h0), (1, .int (nI a1)), (2, .int (nI a2))]) hx hb dX8_same_35 hl (by decide) rfl (fun ls hl => ?_)
            have LP29 : ∀ (N29 : Nat) (i2 : Nat) (al2 : Nat → Int32) (H : Heap) (locs : List Loc) (ls : Array Slot), (i2 ≤ na) → (zz_ST na (sp_sS na kdf dpf saf lnf btf) dpf i1 al2) → (∀ x, x < i2 → dpf x = nI i1 → ∀ y, y < na → al2 (60 * x + y) = sp_b (sp_sS na kdf dpf saf lnf btf x y)) → (na - i2) < N29 → zz_Z g A s.heap [cw_i g a_kindOf 60 kdf, cw_i g a_depthOf 60 dpf, cw_i g a_lengthOf 60 lnf, cw_i g a_baseOf 60 saf, cw_l g a_bits 4000 btf, cw_z g a_alike 3600 al2, cw_k7 h0 (nI na) (nI ne) a_kindOf a_depthOf a_lengthOf a_classOf a_baseOf a_bits a_pinned i_code a_lengths a_stackArray a_stackOther a_stackAt i_lastArray i_lastPlace a_path a_held a_alike a_hashes (nI nd) a_decisionArray a_decisionPlace a_candidateMany a_candidates (nI nr) a_ruleSort a_ruleArray a_ruleWeight a_ruleLow a_ruleHigh a_chosen a_bestOf (nI nm) a_markElements a_markBits a_markPins] H locs → lv_has ls 6 [(4, .int (nI i2)), (3, .int (nI i1)), (0, .ref h0), (1, .int (nI a1)), (2, .int (nI a2))] → W p l e rm_my_same2 s m args below meth c H locs 0 0 (zz_QI below g args s A rm_my_same2.cells rm_my_same2.slots (po_my_same2 g h0 a_kindOf a_depthOf a_lengthOf a_classOf a_baseOf a_bits a_pinned a_lengths a_stackArray a_stackOther a_stackAt a_path a_held a_alike a_hashes a_decisionArray a_decisionPlace a_candidateMany a_candidates a_ruleSort a_ruleArray a_ruleWeight a_ruleLow a_ruleHigh a_chosen a_bestOf a_markElements a_markBits a_markPins na ne nd nr nm i_code i_lastArray i_lastPlace kdf dpf lnf saf btf alf x1 x2 h_M)) (F0 m 37 ls []) := by
              intro N29
              induction N29 with
              | zero =>
                intro i2 al2 H locs ls h2 ht2 ht3 hN29
                exact absurd hN29 (Nat.not_lt_zero _)
              | succ N29 ih29 =>
                intro i2 al2 H locs ls h2 ht2 ht3 hN29 hZ hl
                refine lv_iload hx hb dX8_same_37 (lv_at hl 0 rfl) ?_
                refine lv_aload_n hx hb dX8_same_39 rfl (lv_at hl 2 rfl) ?_
                refine zz_get hC hZ 6 rfl zf_X8_103 rfl dX8_same_40 ?_
                have bd31 : na < 2 ^ 31 := by omega
                have bd32 : i2 < 2 ^ 31 := by omega
                refine lv_icmp_ge (tgt := 121) hx hb dX8_same_43 (by decide) (fun c30 => ?_) (fun c30 => ?_)
                · have nc30 : na ≤ i2 := (nI_leI bd31 bd32).mp (show nI (na) ≤ nI (i2) from c30)
                  refine lv_iinc (v := nI (i1 + 1)) (lv' := [(3, .int (nI (i1 + 1))), (4, .int (nI i2)), (0, .ref h0), (1, .int (nI a1)), (2, .int (nI a2))]) hx hb dX8_same_121 hl (k := 1) rfl (nI_1 _) (by decide) rfl (fun ls hl => ?_)
                  refine lv_goto (tgt := 24) hx hb dX8_same_124 (by decide) ?_
                  exact ih17 (i1 + 1) al2 H locs ls (by omega) (ht2.next (fun x hx ex => ht3 x (by omega) ex)) (by omega) hZ (lv_sub hl [0, 2, 3, 4] rfl)
                · have nc30 : ¬ na ≤ i2 := fun zq => c30 (show nI (na) ≤ nI (i2) from (nI_leI bd31 bd32).mpr zq)
                  refine lv_iconst (v := 0) hx hb dX8_same_46 (by decide) ?_
                  refine lv_istore (lv' := [(5, .int 0), (4, .int (nI i2)), (3, .int (nI i1)), (0, .ref h0), (1, .int (nI a1)), (2, .int (nI a2))]) hx hb dX8_same_47 hl (by decide) rfl (fun ls hl => ?_)
                  have LP33 : ∀ (N33 : Nat) (i3 : Nat) (al3 : Nat → Int32) (H : Heap) (locs : List Loc) (ls : Array Slot), (i3 ≤ na) → (zz_ST na (sp_sS na kdf dpf saf lnf btf) dpf i1 al3) → (∀ x, x < i2 → dpf x = nI i1 → ∀ y, y < na → al3 (60 * x + y) = sp_b (sp_sS na kdf dpf saf lnf btf x y)) → (dpf i2 = nI i1 → ∀ y, y < i3 → al3 (60 * i2 + y) = sp_b (sp_sS na kdf dpf saf lnf btf i2 y)) → (na - i3) < N33 → zz_Z g A s.heap [cw_i g a_kindOf 60 kdf, cw_i g a_depthOf 60 dpf, cw_i g a_lengthOf 60 lnf, cw_i g a_baseOf 60 saf, cw_l g a_bits 4000 btf, cw_z g a_alike 3600 al3, cw_k7 h0 (nI na) (nI ne) a_kindOf a_depthOf a_lengthOf a_classOf a_baseOf a_bits a_pinned i_code a_lengths a_stackArray a_stackOther a_stackAt i_lastArray i_lastPlace a_path a_held a_alike a_hashes (nI nd) a_decisionArray a_decisionPlace a_candidateMany a_candidates (nI nr) a_ruleSort a_ruleArray a_ruleWeight a_ruleLow a_ruleHigh a_chosen a_bestOf (nI nm) a_markElements a_markBits a_markPins] H locs → lv_has ls 6 [(5, .int (nI i3)), (4, .int (nI i2)), (3, .int (nI i1)), (0, .ref h0), (1, .int (nI a1)), (2, .int (nI a2))] → W p l e rm_my_same2 s m args below meth c H locs 0 0 (zz_QI below g args s A rm_my_same2.cells rm_my_same2.slots (po_my_same2 g h0 a_kindOf a_depthOf a_lengthOf a_classOf a_baseOf a_bits a_pinned a_lengths a_stackArray a_stackOther a_stackAt a_path a_held a_alike a_hashes a_decisionArray a_decisionPlace a_candidateMany a_candidates a_ruleSort a_ruleArray a_ruleWeight a_ruleLow a_ruleHigh a_chosen a_bestOf a_markElements a_markBits a_markPins na ne nd nr nm i_code i_lastArray i_lastPlace kdf dpf lnf saf btf alf x1 x2 h_M)) (F0 m 49 ls []) := by
                    intro N33
                    induction N33 with
                    | zero =>
                      intro i3 al3 H locs ls h3 ht4 ht5 ht6 hN33
                      exact absurd hN33 (Nat.not_lt_zero _)
                    | succ N33 ih33 =>
                      intro i3 al3 H locs ls h3 ht4 ht5 ht6 hN33 hZ hl
                      refine lv_iload hx hb dX8_same_49 (lv_at hl 0 rfl) ?_
                      refine lv_aload_n hx hb dX8_same_51 rfl (lv_at hl 3 rfl) ?_
                      refine zz_get hC hZ 6 rfl zf_X8_103 rfl dX8_same_52 ?_
                      have bd35 : i3 < 2 ^ 31 := by omega
                      refine lv_icmp_ge (tgt := 115) hx hb dX8_same_55 (by decide) (fun c34 => ?_) (fun c34 => ?_)
                      · have nc34 : na ≤ i3 := (nI_leI bd31 bd35).mp (show nI (na) ≤ nI (i3) from c34)
                        refine lv_iinc (v := nI (i2 + 1)) (lv' := [(4, .int (nI (i2 + 1))), (5, .int (nI i3)), (3, .int (nI i1)), (0, .ref h0), (1, .int (nI a1)), (2, .int (nI a2))]) hx hb dX8_same_115 hl (k := 1) rfl (nI_1 _) (by decide) rfl (fun ls hl => ?_)
                        refine lv_goto (tgt := 37) hx hb dX8_same_118 (by decide) ?_
                        exact ih29 (i2 + 1) al3 H locs ls (by omega) (ht4) (fun x hx ex y hy => by by_cases q : x = i2; (rw [q] at ex ⊢; exact ht6 ex y (by omega)); exact ht5 x (by omega) ex y hy) (by omega) hZ (lv_sub hl [0, 2, 3, 4, 5] rfl)
                      · have nc34 : ¬ na ≤ i3 := fun zq => c34 (show nI (na) ≤ nI (i3) from (nI_leI bd31 bd35).mpr zq)
                        refine lv_aload_n hx hb dX8_same_58 rfl (lv_at hl 3 rfl) ?_
                        refine zz_get hC hZ 6 rfl zf_X8_13 rfl dX8_same_59 ?_
                        refine lv_iload hx hb dX8_same_62 (lv_at hl 1 rfl) ?_
                        have bd36 : i2 < 60 := by omega
                        refine zz_ialdn hC hZ 1 rfl bd36 (by decide) dX8_same_64 ?_
                        refine lv_iload_n hx hb dX8_same_65 rfl (lv_at hl 2 rfl) ?_
                        refine lv_icmp_ne (tgt := 115) hx hb dX8_same_66 (by decide) (fun c37 => ?_) (fun c37 => ?_)
                        · refine lv_iinc (v := nI (i2 + 1)) (lv' := [(4, .int (nI (i2 + 1))), (5, .int (nI i3)), (3, .int (nI i1)), (0, .ref h0), (1, .int (nI a1)), (2, .int (nI a2))]) hx hb dX8_same_115 hl (k := 1) rfl (nI_1 _) (by decide) rfl (fun ls hl => ?_)
                          refine lv_goto (tgt := 37) hx hb dX8_same_118 (by decide) ?_
                          exact ih29 (i2 + 1) al3 H locs ls (by omega) (ht4) (fun x hx ex y hy => by by_cases q : x = i2; (rw [q] at ex ⊢; exact absurd ex c37); exact ht5 x (by omega) ex y hy) (by omega) hZ (lv_sub hl [0, 2, 3, 4, 5] rfl)
                        · obtain ⟨s2, l2, d2, e2s, e2l, e2d, _, _, _, _⟩ := h_S.2.2 i2 (by omega)
                          refine lv_aload_n hx hb dX8_same_69 rfl (lv_at hl 3 rfl) ?_
                          refine zz_get hC hZ 6 rfl zf_X8_51 rfl dX8_same_70 ?_
                          refine lv_bipush (v := 60) hx hb dX8_same_73 (by decide) ?_
                          refine lv_iload hx hb dX8_same_75 (lv_at hl 1 rfl) ?_
                          refine lv_imul hx hb dX8_same_77 ?_
                          refine zz_topi (v := nI (60 * i2)) (pk_mul 60 _) ?_
                          refine lv_iload hx hb dX8_same_78 (lv_at hl 0 rfl) ?_
                          refine lv_iadd hx hb dX8_same_80 ?_
                          refine zz_topi (v := nI ((60 * i2) + i3)) (nI_add _ _) ?_
                          refine lv_aload_n hx hb dX8_same_81 rfl (lv_at hl 3 rfl) ?_
                          refine zz_get hC hZ 6 rfl zf_X8_13 rfl dX8_same_82 ?_
                          refine lv_iload hx hb dX8_same_85 (lv_at hl 0 rfl) ?_
                          have bd38 : i3 < 60 := by omega
                          refine zz_ialdn hC hZ 1 rfl bd38 (by decide) dX8_same_87 ?_
                          refine lv_iload_n hx hb dX8_same_88 rfl (lv_at hl 2 rfl) ?_
                          refine lv_icmp_ne (tgt := 107) hx hb dX8_same_89 (by decide) (fun c39 => ?_) (fun c39 => ?_)
                          · refine lv_iconst (v := 0) hx hb dX8_same_107 (by decide) ?_
                            have bd40 : ((60 * i2) + i3) < 3600 := by omega
                            refine zz_zastn hC hZ 5 rfl bd40 (by decide) dX8_same_108 (fun H locs hZ => ?_)
                            have hZ : zz_Z g A s.heap [cw_i g a_kindOf 60 kdf, cw_i g a_depthOf 60 dpf, cw_i g a_lengthOf 60 lnf, cw_i g a_baseOf 60 saf, cw_l g a_bits 4000 btf, cw_z g a_alike 3600 (upd al3 ((60 * i2) + i3) (0 &&& 1)), cw_k7 h0 (nI na) (nI ne) a_kindOf a_depthOf a_lengthOf a_classOf a_baseOf a_bits a_pinned i_code a_lengths a_stackArray a_stackOther a_stackAt i_lastArray i_lastPlace a_path a_held a_alike a_hashes (nI nd) a_decisionArray a_decisionPlace a_candidateMany a_candidates (nI nr) a_ruleSort a_ruleArray a_ruleWeight a_ruleLow a_ruleHigh a_chosen a_bestOf (nI nm) a_markElements a_markBits a_markPins] H locs := hZ
                            refine lv_iinc (v := nI (i3 + 1)) (lv' := [(5, .int (nI (i3 + 1))), (4, .int (nI i2)), (3, .int (nI i1)), (0, .ref h0), (1, .int (nI a1)), (2, .int (nI a2))]) hx hb dX8_same_109 hl (k := 0) rfl (nI_1 _) (by decide) rfl (fun ls hl => ?_)
                            refine lv_goto (tgt := 49) hx hb dX8_same_112 (by decide) ?_
                            exact ih33 (i3 + 1) (upd al3 ((60 * i2) + i3) (0 &&& 1)) H locs ls (by omega) (ht4.up (by omega) (by omega) (by omega) c37) (fun x hx ex y hy => (pk_un (by omega)).trans (ht5 x hx ex y hy)) (fun ex y hy => by by_cases q : y = i3; (rw [q, pk_us]; exact (show (0 &&& 1 : Int32) = 0 by decide).trans (zl_bF (fun z => c39 (((zl_ssU (kd := kdf) (b := i3) h_M (show i2 < na by omega) e2s e2l e2d (by omega) (by omega) (by omega) (by omega)).mp z).2.1.symm.trans c37))).symm); exact (pk_un (by omega)).trans (ht6 ex y (by omega))) (by omega) hZ (lv_sub hl [0, 1, 2, 3, 4, 5] rfl)
                          · refine lv_aload_n hx hb dX8_same_92 rfl (lv_at hl 3 rfl) ?_
                            refine lv_iload hx hb dX8_same_93 (lv_at hl 1 rfl) ?_
                            refine lv_iload hx hb dX8_same_95 (lv_at hl 0 rfl) ?_
                            refine zz_iV (As := [.int (nI i2), .int (nI i3)]) (wc := [cw_k7 h0 (nI na) (nI ne) a_kindOf a_depthOf a_lengthOf a_classOf a_baseOf a_bits a_pinned i_code a_lengths a_stackArray a_stackOther a_stackAt i_lastArray i_lastPlace a_path a_held a_alike a_hashes (nI nd) a_decisionArray a_decisionPlace a_candidateMany a_candidates (nI nr) a_ruleSort a_ruleArray a_ruleWeight a_ruleLow a_ruleHigh a_chosen a_bestOf (nI nm) a_markElements a_markBits a_markPins, cw_i g a_kindOf 60 kdf, cw_i g a_depthOf 60 dpf, cw_i g a_lengthOf 60 lnf, cw_i g a_baseOf 60 saf, cw_l g a_bits 4000 btf, cw_z g a_alike 3600 al3]) (wr := []) (rest := [.int (nI ((60 * i2) + i3)), .ref a_alike]) hC hZ hs hl zc_X8_242 (cm_isSame2 g h0 a_kindOf a_depthOf a_lengthOf a_classOf a_baseOf a_bits a_pinned a_lengths a_stackArray a_stackOther a_stackAt a_path a_held a_alike a_hashes a_decisionArray a_decisionPlace a_candidateMany a_candidates a_ruleSort a_ruleArray a_ruleWeight a_ruleLow a_ruleHigh a_chosen a_bestOf a_markElements a_markBits a_markPins na ne nd nr nm i_code i_lastArray i_lastPlace kdf dpf lnf saf btf al3 i2 i3 (h_M) (by omega) (fun d ed hd => ht4.mono (by have := (nI_eq (by omega) (by omega)).mp (ed.symm.trans c37); omega))) [6, 0, 1, 2, 3, 4, 5] [] rfl rfl (by decide +kernel) (ci := 7) (q0 := 0) rfl rfl rfl rfl (Nat.le_of_ble_eq_true rfl) ⟨⟨Nat.le_of_ble_eq_true rfl, Nat.le_of_ble_eq_true rfl⟩, Nat.le_of_ble_eq_true rfl, Nat.le_of_ble_eq_true rfl⟩ dX8_same_97 (fun r41 u42 H locs hp hZ => ?_)
                            obtain ⟨f43, rfl⟩ := hp
                            have hZ : zz_Z g A s.heap [cw_k7 h0 (nI na) (nI ne) a_kindOf a_depthOf a_lengthOf a_classOf a_baseOf a_bits a_pinned i_code a_lengths a_stackArray a_stackOther a_stackAt i_lastArray i_lastPlace a_path a_held a_alike a_hashes (nI nd) a_decisionArray a_decisionPlace a_candidateMany a_candidates (nI nr) a_ruleSort a_ruleArray a_ruleWeight a_ruleLow a_ruleHigh a_chosen a_bestOf (nI nm) a_markElements a_markBits a_markPins, cw_i g a_kindOf 60 kdf, cw_i g a_depthOf 60 dpf, cw_i g a_lengthOf 60 lnf, cw_i g a_baseOf 60 saf, cw_l g a_bits 4000 btf, cw_z g a_alike 3600 al3] H locs := hZ
                            have d_r41 : sp_b (sp_sS na kdf dpf saf lnf btf i2 i3) = r41 := f43.symm
                            refine lv_if_eq (tgt := 107) hx hb dX8_same_100 (by decide) (fun c44 => ?_) (fun c44 => ?_)
                            · refine lv_iconst (v := 0) hx hb dX8_same_107 (by decide) ?_
                              have bd45 : ((60 * i2) + i3) < 3600 := by omega
                              refine zz_zastn hC hZ 6 rfl bd45 (by decide) dX8_same_108 (fun H locs hZ => ?_)
                              have hZ : zz_Z g A s.heap [cw_k7 h0 (nI na) (nI ne) a_kindOf a_depthOf a_lengthOf a_classOf a_baseOf a_bits a_pinned i_code a_lengths a_stackArray a_stackOther a_stackAt i_lastArray i_lastPlace a_path a_held a_alike a_hashes (nI nd) a_decisionArray a_decisionPlace a_candidateMany a_candidates (nI nr) a_ruleSort a_ruleArray a_ruleWeight a_ruleLow a_ruleHigh a_chosen a_bestOf (nI nm) a_markElements a_markBits a_markPins, cw_i g a_kindOf 60 kdf, cw_i g a_depthOf 60 dpf, cw_i g a_lengthOf 60 lnf, cw_i g a_baseOf 60 saf, cw_l g a_bits 4000 btf, cw_z g a_alike 3600 (upd al3 ((60 * i2) + i3) (0 &&& 1))] H locs := hZ
                              refine lv_iinc (v := nI (i3 + 1)) (lv' := [(5, .int (nI (i3 + 1))), (4, .int (nI i2)), (3, .int (nI i1)), (0, .ref h0), (1, .int (nI a1)), (2, .int (nI a2))]) hx hb dX8_same_109 hl (k := 0) rfl (nI_1 _) (by decide) rfl (fun ls hl => ?_)
                              refine lv_goto (tgt := 49) hx hb dX8_same_112 (by decide) ?_
                              exact ih33 (i3 + 1) (upd al3 ((60 * i2) + i3) (0 &&& 1)) H locs ls (by omega) (ht4.up (by omega) (by omega) (by omega) c37) (fun x hx ex y hy => (pk_un (by omega)).trans (ht5 x hx ex y hy)) (fun ex y hy => by by_cases q : y = i3; (rw [q, pk_us]; exact (show (0 &&& 1 : Int32) = 0 by decide).trans (zl_bF (zl_bN f43 c44)).symm); exact (pk_un (by omega)).trans (ht6 ex y (by omega))) (by omega) (hZ.sub [1, 2, 3, 4, 5, 6, 0] (by decide +kernel) rfl) (lv_sub hl [0, 1, 2, 3, 4, 5] rfl)
                            · refine lv_iconst (v := 1) hx hb dX8_same_103 (by decide) ?_
                              refine lv_goto (tgt := 108) hx hb dX8_same_104 (by decide) ?_
                              have bd46 : ((60 * i2) + i3) < 3600 := by omega
                              refine zz_zastn hC hZ 6 rfl bd46 (by decide) dX8_same_108 (fun H locs hZ => ?_)
                              have hZ : zz_Z g A s.heap [cw_k7 h0 (nI na) (nI ne) a_kindOf a_depthOf a_lengthOf a_classOf a_baseOf a_bits a_pinned i_code a_lengths a_stackArray a_stackOther a_stackAt i_lastArray i_lastPlace a_path a_held a_alike a_hashes (nI nd) a_decisionArray a_decisionPlace a_candidateMany a_candidates (nI nr) a_ruleSort a_ruleArray a_ruleWeight a_ruleLow a_ruleHigh a_chosen a_bestOf (nI nm) a_markElements a_markBits a_markPins, cw_i g a_kindOf 60 kdf, cw_i g a_depthOf 60 dpf, cw_i g a_lengthOf 60 lnf, cw_i g a_baseOf 60 saf, cw_l g a_bits 4000 btf, cw_z g a_alike 3600 (upd al3 ((60 * i2) + i3) (1 &&& 1))] H locs := hZ
                              refine lv_iinc (v := nI (i3 + 1)) (lv' := [(5, .int (nI (i3 + 1))), (4, .int (nI i2)), (3, .int (nI i1)), (0, .ref h0), (1, .int (nI a1)), (2, .int (nI a2))]) hx hb dX8_same_109 hl (k := 0) rfl (nI_1 _) (by decide) rfl (fun ls hl => ?_)
                              refine lv_goto (tgt := 49) hx hb dX8_same_112 (by decide) ?_
                              exact ih33 (i3 + 1) (upd al3 ((60 * i2) + i3) (1 &&& 1)) H locs ls (by omega) (ht4.up (by omega) (by omega) (by omega) c37) (fun x hx ex y hy => (pk_un (by omega)).trans (ht5 x hx ex y hy)) (fun ex y hy => by by_cases q : y = i3; (rw [q, pk_us]; exact (show (1 &&& 1 : Int32) = 1 by decide).trans (zl_bT (zl_bP f43 c44)).symm); exact (pk_un (by omega)).trans (ht6 ex y (by omega))) (by omega) (hZ.sub [1, 2, 3, 4, 5, 6, 0] (by decide +kernel) rfl) (lv_sub hl [0, 1, 2, 3, 4, 5] rfl)
                  exact LP33 _ 0 al2 H locs ls (by omega) (ht2) (ht3) (fun _ y hy => absurd hy (Nat.not_lt_zero y)) (Nat.lt_succ_self _) hZ (lv_sub hl [0, 1, 2, 3, 4, 5] rfl)
            exact LP29 _ 0 al1 H locs ls (by omega) (ht1) (fun x hx => absurd hx (Nat.not_lt_zero x)) (Nat.lt_succ_self _) hZ (lv_sub hl [0, 1, 2, 3, 4] rfl)
      exact LP17 _ 1 alf H locs ls (by omega) (zz_ST.one h_S) (Nat.lt_succ_self _) hZ (lv_sub hl [0, 1, 2, 3] rfl)
    · refine lv_aload_n hx hb dX8_same_16 rfl (lv_at hl 0 rfl) ?_
      refine lv_iconst (v := 5) hx hb dX8_same_17 (by decide) ?_
      refine zz_iV (As := [.int 5]) (wc := [cw_k7 h0 (nI na) (nI ne) a_kindOf a_depthOf a_lengthOf a_classOf a_baseOf a_bits a_pinned i_code a_lengths a_stackArray a_stackOther a_stackAt i_lastArray i_lastPlace a_path a_held a_alike a_hashes (nI nd) a_decisionArray a_decisionPlace a_candidateMany a_candidates (nI nr) a_ruleSort a_ruleArray a_ruleWeight a_ruleLow a_ruleHigh a_chosen a_bestOf (nI nm) a_markElements a_markBits a_markPins]) (wr := [cw_i g a_kindOf 60 kdf, cw_i g a_depthOf 60 dpf, cw_i g a_lengthOf 60 lnf, cw_i g a_baseOf 60 saf, cw_l g a_bits 4000 btf, cw_z g a_alike 3600 alf]) (rest := []) hC hZ hs hl zc_X8_175 (cm_fails g h0 a_kindOf a_depthOf a_lengthOf a_classOf a_baseOf a_bits a_pinned a_lengths a_stackArray a_stackOther a_stackAt a_path a_held a_alike a_hashes a_decisionArray a_decisionPlace a_candidateMany a_candidates a_ruleSort a_ruleArray a_ruleWeight a_ruleLow a_ruleHigh a_chosen a_bestOf a_markElements a_markBits a_markPins (nI na) (nI ne) i_code i_lastArray i_lastPlace (nI nd) (nI nr) (nI nm) 5) [6] [0, 1, 2, 3, 4, 5] rfl rfl (by decide +kernel) (ci := 7) (q0 := 0) rfl rfl rfl rfl (Nat.le_of_ble_eq_true rfl) ⟨⟨Nat.le_of_ble_eq_true rfl, Nat.le_of_ble_eq_true rfl⟩, Nat.le_of_ble_eq_true rfl, Nat.le_of_ble_eq_true rfl⟩ dX8_same_18 (fun r47 u48 H locs hp hZ => ?_)
      obtain ⟨rfl, rfl⟩ := hp
      have hZ : zz_Z g A s.heap [cw_i g a_kindOf 60 kdf, cw_i g a_depthOf 60 dpf, cw_i g a_lengthOf 60 lnf, cw_i g a_baseOf 60 saf, cw_l g a_bits 4000 btf, cw_z g a_alike 3600 alf, cw_k7 h0 (nI na) (nI ne) a_kindOf a_depthOf a_lengthOf a_classOf a_baseOf a_bits a_pinned 5 a_lengths a_stackArray a_stackOther a_stackAt i_lastArray i_lastPlace a_path a_held a_alike a_hashes (nI nd) a_decisionArray a_decisionPlace a_candidateMany a_candidates (nI nr) a_ruleSort a_ruleArray a_ruleWeight a_ruleLow a_ruleHigh a_chosen a_bestOf (nI nm) a_markElements a_markBits a_markPins] H locs := hZ
      have hZ : zz_Z g A s.heap [cw_k7 h0 (nI na) (nI ne) a_kindOf a_depthOf a_lengthOf a_classOf a_baseOf a_bits a_pinned 5 a_lengths a_stackArray a_stackOther a_stackAt i_lastArray i_lastPlace a_path a_held a_alike a_hashes (nI nd) a_decisionArray a_decisionPlace a_candidateMany a_candidates (nI nr) a_ruleSort a_ruleArray a_ruleWeight a_ruleLow a_ruleHigh a_chosen a_bestOf (nI nm) a_markElements a_markBits a_markPins, cw_i g a_kindOf 60 kdf, cw_i g a_depthOf 60 dpf, cw_i g a_lengthOf 60 lnf, cw_i g a_baseOf 60 saf, cw_l g a_bits 4000 btf, cw_z g a_alike 3600 alf] H locs := hZ.sub [6, 0, 1, 2, 3, 4, 5] (by decide +kernel) rfl
      exact zz_iret hC hZ (⟨5, i_lastArray, i_lastPlace, alf, by refine Eq.symm ?_; rw [fn_my_same2]; refine (if_neg (by (try simp only [d_a1, d_sz1, d_lz1, d_dz1]); exact c3)).trans ?_; refine (if_pos (by (try simp only [d_a1, d_sz1, d_lz1, d_dz1]); exact c12)).trans ?_; first | (simp only [d_a1, d_sz1, d_lz1, d_dz1]; done) | rfl, rfl⟩) (Nat.le_of_ble_eq_true rfl) (Nat.le_of_ble_eq_true rfl) dX8_same_21
