/-- behind the last element all is 0 -/
def zz_Z0 (S : zz_S) : Prop := ∀ j, S.2.1 ≤ j → S.2.2.2.2.2.2.2 j = 0
/-- values; what was there ahead of u0 stays; arrays end ahead of what is made next -/
def zz_ES (n0 u0 : Nat) (kd1 : Nat → Int32) (kk : Int32) (bt0 : Nat → Int64) (S : zz_S) : Prop := (∀ a, a < n0 → S.2.2.1 a = kd1 a) ∧ n0 ≤ S.1 ∧ u0 ≤ S.2.1 ∧ (∀ j, j < u0 → S.2.2.2.2.2.2.2 j = bt0 j) ∧ (∀ a s l : Nat, a < S.1 → S.2.2.2.2.2.1 a = nI s → S.2.2.2.2.2.2.1 a = nI l → s ≤ 4000 → l ≤ 200 → s + l ≤ S.2.1) ∧ (∀ a s l : Nat, a < n0 → S.2.2.2.2.2.1 a = nI s → S.2.2.2.2.2.2.1 a = nI l → s ≤ 4000 → l ≤ 200 → s + l ≤ u0) ∧ (∀ a, n0 ≤ a → a < S.1 → S.2.2.1 a = kk) ∧ zz_EV S.1 S.2.2.1 S.2.2.2.1 S.2.2.2.2.2.1 S.2.2.2.2.2.2.1 S.2.2.2.2.2.2.2
theorem sp_add_mk {k c : Int32} {n dq : Nat} {S : zz_S} (h1 : 1 ≤ dq) (h4 : dq ≤ 4) (h : zz_Z0 S) : sp_add k (nI dq) c n S = sp_mk k (nI dq) c n S ∧ zz_Z0 (sp_mk k (nI dq) c n S) := by
  have e : zz_nb S.2.2.2.2.2.2.2 (nI dq) S.2.1 n = zz_mb S.2.2.2.2.2.2.2 (nI dq) S.2.1 n := zl_nbmb h1 h4 h
  refine ⟨?_, fun j hj => ?_⟩
  · show (S.1 + 1, S.2.1 + n, upd S.2.2.1 S.1 k, upd S.2.2.2.1 S.1 (nI dq), upd S.2.2.2.2.1 S.1 c, upd S.2.2.2.2.2.1 S.1 (nI S.2.1), upd S.2.2.2.2.2.2.1 S.1 (nI n), zz_nb S.2.2.2.2.2.2.2 (nI dq) S.2.1 n) = (S.1 + 1, S.2.1 + n, upd S.2.2.1 S.1 k, upd S.2.2.2.1 S.1 (nI dq), upd S.2.2.2.2.1 S.1 c, upd S.2.2.2.2.2.1 S.1 (nI S.2.1), upd S.2.2.2.2.2.2.1 S.1 (nI n), zz_mb S.2.2.2.2.2.2.2 (nI dq) S.2.1 n)
    rw [e]
  · have hj' : S.2.1 + n ≤ j := hj
    show zz_mb S.2.2.2.2.2.2.2 (nI dq) S.2.1 n j = 0
    unfold zz_mb
    rw [if_neg (by omega)]; exact h j (by omega)
theorem zz_Z0.set {S : zz_S} {j : Nat} {x : Int64} (h : zz_Z0 S) (hj : j < S.2.1) : zz_Z0 (sp_set j x S) := fun i hi => by
  have hi' : S.2.1 ≤ i := hi
  show vp_updL S.2.2.2.2.2.2.2 j x i = 0
  rw [pk_uLn (by omega)]; exact h i hi'
theorem zz_ES.up {n0 u0 n : Nat} {kd1 : Nat → Int32} {kk : Int32} {bt0 bt2 : Nat → Int64} {S : zz_S} {d c : Int32} (h : zz_ES n0 u0 kd1 kk bt0 S) (hn : n ≤ 200) (hb : S.2.1 + n ≤ 4000) (old : ∀ j, j < S.2.1 → bt2 j = S.2.2.2.2.2.2.2 j) (new : ∀ i, i < n → (d = nI 1 → ∀ k, kk = nI k → k ≤ 8 → zz_ok k (bt2 (S.2.1 + i))) ∧ (¬ d = nI 1 → bt2 (S.2.1 + i) = -1 ∨ ∃ r, r < S.1 ∧ bt2 (S.2.1 + i) = lN r ∧ S.2.2.1 r = kk)) : zz_ES n0 u0 kd1 kk bt0 (S.1 + 1, S.2.1 + n, upd S.2.2.1 S.1 kk, upd S.2.2.2.1 S.1 d, upd S.2.2.2.2.1 S.1 c, upd S.2.2.2.2.2.1 S.1 (nI S.2.1), upd S.2.2.2.2.2.2.1 S.1 (nI n), bt2) := by
  obtain ⟨hk1, h0, h1, h2, h3, h3', h5, h4⟩ := h
  refine ⟨fun a ha => ?_, Nat.le_succ_of_le h0, Nat.le_trans h1 (Nat.le_add_right _ _), fun j hj => ?_, fun a s l ha es el hs hl => ?_, fun a s l ha es el hs hl => ?_, fun a h6 ha => ?_, ?_⟩
  · show upd S.2.2.1 S.1 kk a = kd1 a
    rw [pk_un (by omega)]; exact hk1 a ha
  · show bt2 j = bt0 j
    rw [old j (by omega)]; exact h2 j hj
  · have ha' : a < S.1 + 1 := ha
    have es' : upd S.2.2.2.2.2.1 S.1 (nI S.2.1) a = nI s := es
    have el' : upd S.2.2.2.2.2.2.1 S.1 (nI n) a = nI l := el
    show s + l ≤ S.2.1 + n
    by_cases q : a = S.1
    · rw [q, pk_us] at es' el'
      have e1 : S.2.1 = s := zl_inj es' (by omega) hs
      have e2 : n = l := zl_inj el' (by omega) (by omega)
      omega
    · rw [pk_un q] at es' el'
      have := h3 a s l (by omega) es' el' hs hl
      omega
  · have es' : upd S.2.2.2.2.2.1 S.1 (nI S.2.1) a = nI s := es
    have el' : upd S.2.2.2.2.2.2.1 S.1 (nI n) a = nI l := el
    rw [pk_un (by omega)] at es' el'
    exact h3' a s l ha es' el' hs hl
  · have ha' : a < S.1 + 1 := ha
    show upd S.2.2.1 S.1 kk a = kk
    by_cases q : a = S.1
    · rw [q, pk_us]
    · rw [pk_un q]; exact h5 a h6 (by omega)
  · show zz_EV (S.1 + 1) (upd S.2.2.1 S.1 kk) (upd S.2.2.2.1 S.1 d) (upd S.2.2.2.2.2.1 S.1 (nI S.2.1)) (upd S.2.2.2.2.2.2.1 S.1 (nI n)) bt2
    exact h4.add h3 (by omega) hn old new
theorem zz_ES.mk {n0 u0 n : Nat} {kd1 : Nat → Int32} {kk : Int32} {bt0 : Nat → Int64} {S : zz_S} {d c : Int32} (h : zz_ES n0 u0 kd1 kk bt0 S) (hn : n ≤ 200) (hb : S.2.1 + n ≤ 4000) : zz_ES n0 u0 kd1 kk bt0 (sp_mk kk d c n S) := h.up hn hb (fun j hj => zl_mbO hj) (fun i hi => zl_mbV hi)
theorem zz_ES.set {n0 u0 j r : Nat} {kd1 : Nat → Int32} {kk : Int32} {bt0 : Nat → Int64} {S : zz_S} (h : zz_ES n0 u0 kd1 kk bt0 S) (hj : u0 ≤ j) (h0 : n0 ≤ r) (hr1 : r < S.1) (hr : r ≤ 60) : zz_ES n0 u0 kd1 kk bt0 (sp_set j (lN r) S) := by
  obtain ⟨hk1, g0, h1, h2, h3, h3', h5, h4⟩ := h
  refine ⟨hk1, g0, h1, fun i hi => ?_, h3, h3', h5, fun a s l ha es el hs hl i hi => ?_⟩
  · show vp_updL S.2.2.2.2.2.2.2 j (lN r) i = bt0 i
    rw [pk_uLn (by omega)]; exact h2 i hi
  · show zz_vo S.1 S.2.2.1 S.2.2.2.1 a (vp_updL S.2.2.2.2.2.2.2 j (lN r) (s + i))
    have ha' : a < S.1 := ha
    by_cases q : s + i = j
    · rw [q, pk_uLs]
      refine ⟨fun _ k _ hk => zl_okr hk hr, fun _ => Or.inr ⟨r, hr1, rfl, ?_⟩⟩
      have hn : n0 ≤ a := by
        rcases Nat.lt_or_ge a n0 with w | w
        · have := h3' a s l w es el hs hl; omega
        · exact w
      rw [h5 r h0 hr1, h5 a hn ha']
    · rw [pk_uLn q]; exact h4 a s l ha es el hs hl i hi
theorem sp_gl_z {F F' : zz_S → zz_S} {base E : Nat} (hn : ∀ S, (F' S).2.1 = S.2.1 + E) (h : ∀ S, zz_Z0 S → F S = F' S ∧ zz_Z0 (F' S)) : ∀ (m i : Nat) (S : zz_S), zz_Z0 S → base + i + m ≤ S.2.1 → sp_gl F base m i S = sp_gl F' base m i S ∧ zz_Z0 (sp_gl F' base m i S)
  | 0, _, S, hS, _ => ⟨rfl, hS⟩
  | m + 1, i, S, hS, hb => by
    rw [sp_gl, sp_gl]
    obtain ⟨g1, g2⟩ := h S hS
    have g3 := hn S
    have g4 : (sp_set (base + i) (lN S.1) (F' S)).2.1 = S.2.1 + E := g3
    rw [g1]
    exact sp_gl_z hn h m (i + 1) _ (g2.set (by omega)) (by omega)
theorem sp_grid_z (k : Int32) (ll : Nat → Nat) : ∀ (r t : Nat) (S : zz_S), r ≤ 4 → zz_Z0 S → sp_grid k ll r t S = sp_gridM k ll r t S ∧ zz_Z0 (sp_gridM k ll r t S)
  | 0, t, S, _, h => by rw [sp_grid, sp_gridM]; exact ⟨rfl, h⟩
  | 1, t, S, _, h => by
    rw [sp_grid, sp_gridM, if_pos rfl, if_pos rfl, if_pos rfl, sp_gl, sp_gl]
    exact sp_add_mk (dq := 1) (by decide) (by decide) h
  | r + 2, t, S, h4, h => by
    rw [sp_grid, sp_gridM, if_neg (by omega), if_neg (by omega), if_neg (by omega)]
    obtain ⟨g1, g2⟩ := sp_add_mk (k := k) (c := -1) (n := ll t) (dq := r + 1 + 1) (by omega) (by omega) h
    have e2 : (sp_mk k (nI (r + 1 + 1)) (-1) (ll t) S).2.1 = S.2.1 + ll t := rfl
    rw [g1]
    exact sp_gl_z (fun S => (sp_gridM_n k ll (r + 1) (t + 1) S).2) (fun S q => sp_grid_z k ll (r + 1) (t + 1) S (by omega) q) (ll t) 0 _ g2 (by omega)
theorem sp_gl_es {F : zz_S → zz_S} {base T E n0 u0 : Nat} {kd1 : Nat → Int32} {kk : Int32} {bt0 : Nat → Int64} (hT1 : 1 ≤ T) (hn : ∀ S, (F S).1 = S.1 + T ∧ (F S).2.1 = S.2.1 + E) (h : ∀ S, zz_ES n0 u0 kd1 kk bt0 S → S.1 + T ≤ 60 → S.2.1 + E ≤ 4000 → zz_ES n0 u0 kd1 kk bt0 (F S)) (hb : u0 ≤ base) : ∀ (m i : Nat) (S : zz_S), zz_ES n0 u0 kd1 kk bt0 S → S.1 + m * T ≤ 60 → S.2.1 + m * E ≤ 4000 → zz_ES n0 u0 kd1 kk bt0 (sp_gl F base m i S)
  | 0, _, S, hS, _, _ => hS
  | m + 1, i, S, hS, hT, hE => by
    rw [sp_gl]
    rw [Nat.add_mul, Nat.one_mul] at hT hE
    obtain ⟨g1, g2⟩ := hn S
    have g := (h S hS (by omega) (by omega)).set (j := base + i) (r := S.1) (by omega) hS.2.1 (by omega) (by omega)
    have g3 : (sp_set (base + i) (lN S.1) (F S)).1 = S.1 + T := g1
    have g4 : (sp_set (base + i) (lN S.1) (F S)).2.1 = S.2.1 + E := g2
    exact sp_gl_es hT1 hn h hb m (i + 1) _ g (by rw [g3]; omega) (by rw [g4]; omega)
theorem sp_gridM_es (k : Int32) (ll : Nat → Nat) {n0 u0 : Nat} {kd1 : Nat → Int32} {bt0 : Nat → Int64} : ∀ (r t : Nat) (S : zz_S), (∀ j, j < t + r → ll j ≤ 200) → zz_ES n0 u0 kd1 k bt0 S → S.1 + zz_TT2 ll r t ≤ 60 → S.2.1 + zz_EE ll r t ≤ 4000 → zz_ES n0 u0 kd1 k bt0 (sp_gridM k ll r t S)
  | 0, t, S, _, h, _, _ => by rw [sp_gridM]; exact h
  | 1, t, S, hl, h, _, hE => by
    rw [sp_gridM, if_pos rfl, if_pos rfl, sp_gl]
    rw [zz_EE] at hE
    exact h.mk (hl t (by omega)) (by omega)
  | r + 2, t, S, hl, h, hT, hE => by
    rw [sp_gridM, if_neg (by omega), if_neg (by omega)]
    have hT' : S.1 + (1 + ll t * zz_TT2 ll (r + 1) (t + 1)) ≤ 60 := hT
    have hE' : S.2.1 + (ll t + ll t * zz_EE ll (r + 1) (t + 1)) ≤ 4000 := hE
    have g := h.mk (d := nI (r + 1 + 1)) (c := -1) (hl t (by omega)) (by omega)
    have e1 : (sp_mk k (nI (r + 1 + 1)) (-1) (ll t) S).1 = S.1 + 1 := rfl
    have e2 : (sp_mk k (nI (r + 1 + 1)) (-1) (ll t) S).2.1 = S.2.1 + ll t := rfl
    exact sp_gl_es (by rw [zz_TT2]; omega) (fun S => sp_gridM_n k ll (r + 1) (t + 1) S) (fun S q1 q2 q3 => sp_gridM_es k ll (r + 1) (t + 1) S (fun j hj => hl j (by omega)) q1 q2 q3) h.2.2.1 (ll t) 0 _ g (by rw [e1]; omega) (by rw [e2]; omega)
theorem rl0_gridQ {na ne : Nat} {kd dp cl sa ln pn : Nat → Int32} {btX btM : Nat → Int64} {x1 x2 x3 x4 x5 x6 r r' : Int32} {na2 : Nat} {nu2 : Nat} {kd2 : Nat → Int32} {dp2 : Nat → Int32} {cl2 : Nat → Int32} {sa2 : Nat → Int32} {ln2 : Nat → Int32} {bt2 : Nat → Int64} {na3 : Nat} {ne3 : Nat} {kd3 : Nat → Int32} {dp3 : Nat → Int32} {cl3 : Nat → Int32} {sa3 : Nat → Int32} {ln3 : Nat → Int32} {bt3 : Nat → Int64} (hM : zz_MI na ne dp sa ln btM) (hk : zz_KC na kd cl) (h : zz_R1 na ne dp sa ln btX btM pn) (fr : r = sp_gR na ne x1 x2 x3 x4 x5 x6) (fx : (na2, nu2, kd2, dp2, cl2, sa2, ln2, bt2) = if r < 0 then (na, ne, kd, dp, cl, sa, ln, btX) else sp_grid x1 (zz_gll x3 x4 x5 x6) x2.toNatClampNeg 0 (na, ne, kd, dp, cl, sa, ln, btX)) (fr' : r' = sp_gR na ne x1 x2 x3 x4 x5 x6) (fm : (na3, ne3, kd3, dp3, cl3, sa3, ln3, bt3) = if r' < 0 then (na, ne, kd, dp, cl, sa, ln, btM) else sp_gF x1 (zz_gll x3 x4 x5 x6) (x2.toNatClampNeg - 0 - 1) 0 ne (zz_gll x3 x4 x5 x6 0 - 0) 0 (sp_mk x1 (nI x2.toNatClampNeg) (-1) (zz_gll x3 x4 x5 x6 0) (na, ne, kd, dp, cl, sa, ln, btM))) (hQ : zz_Q na kd dp sa ln btX btM) : zz_Q na3 kd3 dp3 sa3 ln3 bt2 bt3 ∧ ∀ a, a < na → kd3 a = kd a := by
  have er : r = r' := fr.trans fr'.symm
  rw [er] at fx
  by_cases c : r' < 0
  · rw [if_pos c] at fx fm
    cases fx; cases fm
    exact ⟨hQ, fun _ _ => rfl⟩
  · rw [if_neg c] at fx fm
    rw [fr'] at c
    obtain ⟨⟨k, hk8, ek⟩, q, hq, e2, ec, hG⟩ := zl_gRn c
    obtain ⟨t1, t2⟩ := zl_tot (ll := zz_gll x3 x4 x5 x6) (dd := q + 1) (by omega) (by omega)
    rw [ec] at fx fm
    obtain ⟨eb, hv⟩ := hQ
    have fm2 : (na3, ne3, kd3, dp3, cl3, sa3, ln3, bt3) = sp_gridM x1 (zz_gll x3 x4 x5 x6) (q + 1) 0 (na, ne, kd, dp, cl, sa, ln, btM) := by
      rw [fm, ← sp_gF_M]; rfl
    obtain ⟨z1, z2⟩ := sp_grid_z x1 (zz_gll x3 x4 x5 x6) (q + 1) 0 (na, ne, kd, dp, cl, sa, ln, btX) (by omega) (fun j hj => (h.2 j hj).1)
    have eS : (na, ne, kd, dp, cl, sa, ln, btX) = (na, ne, kd, dp, cl, sa, ln, btM) := by rw [eb]
    rw [z1, eS, ← fm2] at fx
    have hE := sp_gridM_es (n0 := na) (u0 := ne) (kd1 := kd) (bt0 := btM) x1 (zz_gll x3 x4 x5 x6) (q + 1) 0 (na, ne, kd, dp, cl, sa, ln, btM) (fun j hj => hG.1 j (by omega)) ⟨fun _ _ => rfl, Nat.le_refl _, Nat.le_refl _, fun j _ => rfl, hM.1.ends, hM.1.ends, fun a h1 h2 => absurd h1 (Nat.not_le.mpr h2), hv⟩ (by rw [t1]; exact hG.2.1) (by rw [t2]; exact hG.2.2)
    rw [← fm2] at hE
    cases fx
    exact ⟨⟨rfl, hE.2.2.2.2.2.2.2⟩, hE.1⟩
theorem sp_tl_le1 {F : Nat → zz_S → zz_S} {row : Nat → Int64} {base : Nat} (h : ∀ r S, S.1 ≤ (F r S).1) : ∀ (m i : Nat) (S : zz_S), S.1 ≤ (sp_tl F row base m i S).1
  | 0, _, S => Nat.le_refl _
  | m + 1, i, S => by
    rw [sp_tl]
    by_cases q : row i = -1
    · rw [if_pos q]; exact sp_tl_le1 h m (i + 1) S
    · rw [if_neg q]
      have h1 := h (row i).toInt.toNat S
      have h2 := sp_tl_le1 (row := row) (base := base) h m (i + 1) (sp_set (base + i) (lN S.1) (F (row i).toInt.toNat S))
      have e : (sp_set (base + i) (lN S.1) (F (row i).toInt.toNat S)).1 = (F (row i).toInt.toNat S).1 := rfl
      omega
theorem zz_ct_1 {rw : Nat → Nat → Int64} {Lf : Nat → Nat} {f x : Nat} (h : 1 ≤ f) : 1 ≤ zz_ct (fun _ => 1) rw Lf f x := by
  rw [zz_ct_rm h]; exact Nat.le_add_right _ _
theorem sp_tw_le1 (kd0 cl0 : Nat → Int32) (Sf Lf : Nat → Nat) (rw : Nat → Nat → Int64) (f a : Nat) (hf : 1 ≤ f) (S : zz_S) : S.1 + 1 ≤ (sp_tw kd0 cl0 Sf Lf rw f a S).1 := by
  rw [(sp_tw_n kd0 cl0 Sf Lf rw f a S).1]; exact Nat.add_le_add_left (zz_ct_1 hf) _
theorem sp_tl_z {F F' : Nat → zz_S → zz_S} {row : Nat → Int64} {base n n0 u0 : Nat} {kd1 : Nat → Int32} {kk : Int32} {bt0 : Nat → Int64} {V : Nat → Prop} (hn1 : ∀ r S, S.1 + 1 ≤ (F r S).1) (hn : ∀ r S, S.2.1 ≤ (F r S).2.1) (hu : u0 ≤ base) (hV : ∀ i, i < n → row i = -1 ∨ ∃ r, r < 60 ∧ row i = lN r ∧ V r) (h : ∀ r S, V r → zz_Z0 S → zz_ES n0 u0 kd1 kk bt0 S → (F r S).1 ≤ 60 → (F r S).2.1 ≤ 4000 → F r S = F' r S ∧ zz_Z0 (F' r S) ∧ zz_ES n0 u0 kd1 kk bt0 (F' r S)) : ∀ (m i : Nat) (S : zz_S), i + m ≤ n → zz_Z0 S → zz_ES n0 u0 kd1 kk bt0 S → base + i + m ≤ S.2.1 → (sp_tl F row base m i S).1 ≤ 60 → (sp_tl F row base m i S).2.1 ≤ 4000 → sp_tl F row base m i S = sp_tl F' row base m i S ∧ zz_Z0 (sp_tl F' row base m i S) ∧ zz_ES n0 u0 kd1 kk bt0 (sp_tl F' row base m i S)
  | 0, _, S, _, hS, hE, _, _, _ => ⟨rfl, hS, hE⟩
  | m + 1, i, S, hi, hS, hE, hb, h60, h40 => by
    rw [sp_tl] at h60 h40
    rw [sp_tl, sp_tl]
    rcases hV i (by omega) with q | ⟨r, hr, q, v⟩
    · rw [if_pos q] at h60 h40
      rw [if_pos q, if_pos q]
      exact sp_tl_z hn1 hn hu hV h m (i + 1) S (by omega) hS hE (by omega) h60 h40
    · have e : (row i).toInt.toNat = r := by rw [q, lN_toInt (by omega)]; rfl
      have hne : ¬ row i = -1 := fun z => by
        have : (row i).toInt = (r : Int) := by rw [q]; exact lN_toInt (by omega)
        rw [z, show (-1 : Int64).toInt = -1 by decide] at this
        omega
      rw [if_neg hne, e] at h60 h40
      rw [if_neg hne, if_neg hne, e]
      have l1 := sp_tl_le1 (row := row) (base := base) (fun r S => Nat.le_trans (Nat.le_succ _) (hn1 r S)) m (i + 1) (sp_set (base + i) (lN S.1) (F r S))
      have l2 := sp_tl_le (row := row) (base := base) hn m (i + 1) (sp_set (base + i) (lN S.1) (F r S))
      have e1 : (sp_set (base + i) (lN S.1) (F r S)).1 = (F r S).1 := rfl
      have e2 : (sp_set (base + i) (lN S.1) (F r S)).2.1 = (F r S).2.1 := rfl
      have n1 := hn1 r S
      have n2 := hn r S
      obtain ⟨g1, g2, g3⟩ := h r S v hS hE (by omega) (by omega)
      have m1 : S.1 ≤ 60 := by omega
      rw [g1] at h60 h40 n1 n2 e2 ⊢
      exact sp_tl_z hn1 hn hu hV h m (i + 1) _ (by omega) (g2.set (by omega)) (g3.set (by omega) hE.2.1 (by omega) m1) (by omega) h60 h40
theorem sp_one_z {n0 u0 s n : Nat} {kd1 : Nat → Int32} {bt0 : Nat → Int64} {k c : Int32} {S : zz_S} (hz : zz_Z0 S) (he : zz_ES n0 u0 kd1 k bt0 S) (hn : n ≤ 200) (hb : S.2.1 + n ≤ 4000) (hs : s + n ≤ u0) (hv : ∀ j, k = nI j → j ≤ 8 → ∀ i, i < n → zz_ok j (bt0 (s + i))) : sp_cp s S.2.1 n (sp_add k (nI 1) c n S) = (S.1 + 1, S.2.1 + n, upd S.2.2.1 S.1 k, upd S.2.2.2.1 S.1 (nI 1), upd S.2.2.2.2.1 S.1 c, upd S.2.2.2.2.2.1 S.1 (nI S.2.1), upd S.2.2.2.2.2.2.1 S.1 (nI n), va_cpy (zz_mb S.2.2.2.2.2.2.2 (nI 1) S.2.1 n) (zz_mb S.2.2.2.2.2.2.2 (nI 1) S.2.1 n) s S.2.1 n) ∧ zz_Z0 (S.1 + 1, S.2.1 + n, upd S.2.2.1 S.1 k, upd S.2.2.2.1 S.1 (nI 1), upd S.2.2.2.2.1 S.1 c, upd S.2.2.2.2.2.1 S.1 (nI S.2.1), upd S.2.2.2.2.2.2.1 S.1 (nI n), va_cpy (zz_mb S.2.2.2.2.2.2.2 (nI 1) S.2.1 n) (zz_mb S.2.2.2.2.2.2.2 (nI 1) S.2.1 n) s S.2.1 n) ∧ zz_ES n0 u0 kd1 k bt0 (S.1 + 1, S.2.1 + n, upd S.2.2.1 S.1 k, upd S.2.2.2.1 S.1 (nI 1), upd S.2.2.2.2.1 S.1 c, upd S.2.2.2.2.2.1 S.1 (nI S.2.1), upd S.2.2.2.2.2.2.1 S.1 (nI n), va_cpy (zz_mb S.2.2.2.2.2.2.2 (nI 1) S.2.1 n) (zz_mb S.2.2.2.2.2.2.2 (nI 1) S.2.1 n) s S.2.1 n) := by
  have e : zz_nb S.2.2.2.2.2.2.2 (nI 1) S.2.1 n = zz_mb S.2.2.2.2.2.2.2 (nI 1) S.2.1 n := zl_nbmb (by decide) (by decide) hz
  refine ⟨?_, fun j hj => ?_, he.up hn hb (fun j hj => ?_) (fun i hi => ⟨fun _ j ej hj => ?_, fun z => absurd rfl z⟩)⟩
  · show (S.1 + 1, S.2.1 + n, upd S.2.2.1 S.1 k, upd S.2.2.2.1 S.1 (nI 1), upd S.2.2.2.2.1 S.1 c, upd S.2.2.2.2.2.1 S.1 (nI S.2.1), upd S.2.2.2.2.2.2.1 S.1 (nI n), va_cpy (zz_nb S.2.2.2.2.2.2.2 (nI 1) S.2.1 n) (zz_nb S.2.2.2.2.2.2.2 (nI 1) S.2.1 n) s S.2.1 n) = (S.1 + 1, S.2.1 + n, upd S.2.2.1 S.1 k, upd S.2.2.2.1 S.1 (nI 1), upd S.2.2.2.2.1 S.1 c, upd S.2.2.2.2.2.1 S.1 (nI S.2.1), upd S.2.2.2.2.2.2.1 S.1 (nI n), va_cpy (zz_mb S.2.2.2.2.2.2.2 (nI 1) S.2.1 n) (zz_mb S.2.2.2.2.2.2.2 (nI 1) S.2.1 n) s S.2.1 n)
    rw [e]
  · have hj' : S.2.1 + n ≤ j := hj
    show va_cpy (zz_mb S.2.2.2.2.2.2.2 (nI 1) S.2.1 n) (zz_mb S.2.2.2.2.2.2.2 (nI 1) S.2.1 n) s S.2.1 n j = 0
    rw [pk_cpy_out (by omega)]
    unfold zz_mb
    rw [if_neg (by omega)]; exact hz j (by omega)
  · rw [pk_cpy_out (by omega), zl_mbO hj]
  · have h1 := he.2.2.1
    rw [pk_cpy_in (by omega) (by omega), show s + (S.2.1 + i - S.2.1) = s + i by omega, zl_mbO (by omega), he.2.2.2.1 _ (by omega)]
    exact hv j ej hj i hi
theorem sp_tw_z {na nu : Nat} {Sf Lf Df : Nat → Nat} {kk : Int32} {kd0 cl0 dp0 sa0 ln0 : Nat → Int32} {bt0 : Nat → Int64} (hT : zz_TR na nu Sf Lf Df bt0) (hF : ∀ x, x < na → sa0 x = nI (Sf x) ∧ ln0 x = nI (Lf x) ∧ dp0 x = nI (Df x)) (hV : zz_EV na kd0 dp0 sa0 ln0 bt0) : ∀ (f a : Nat) (S : zz_S), a < na → Df a = f → kd0 a = kk → zz_Z0 S → zz_ES na nu kd0 kk bt0 S → (sp_tw kd0 cl0 Sf Lf (fun x i => bt0 (Sf x + i)) f a S).1 ≤ 60 → (sp_tw kd0 cl0 Sf Lf (fun x i => bt0 (Sf x + i)) f a S).2.1 ≤ 4000 → sp_tw kd0 cl0 Sf Lf (fun x i => bt0 (Sf x + i)) f a S = sp_twM kd0 cl0 Sf Lf (fun x i => bt0 (Sf x + i)) f a S ∧ zz_Z0 (sp_twM kd0 cl0 Sf Lf (fun x i => bt0 (Sf x + i)) f a S) ∧ zz_ES na nu kd0 kk bt0 (sp_twM kd0 cl0 Sf Lf (fun x i => bt0 (Sf x + i)) f a S)
  | 0, a, S, _, _, _, hz, he, _, _ => by rw [sp_tw, sp_twM]; exact ⟨rfl, hz, he⟩
  | 1, a, S, ha, hd, hkk, hz, he, _, h40 => by
    rw [sp_tw] at h40
    have h40' : S.2.1 + Lf a ≤ 4000 := h40
    obtain ⟨g1, g2, g3, g4⟩ := hT.2.2.1 a ha
    obtain ⟨e1, e2, e3⟩ := hF a ha
    have hnu := hT.2.1
    rw [sp_tw, sp_twM, sp_co_1, hkk]
    exact sp_one_z hz he g1 h40' g2 (fun j ej hj i hi => (hV a (Sf a) (Lf a) ha e1 e2 (by omega) g1 i hi).1 (by rw [e3, hd]) j (by rw [hkk]; exact ej) hj)
  | f + 2, a, S, ha, hd, hkk, hz, he, h60, h40 => by
    have g4 := (hT.2.2.1 a ha).2.2.2
    have gl := (hT.2.2.1 a ha).1
    rw [sp_tw] at h60 h40
    rw [sp_tw, sp_twM, sp_co_mk _ _ _ _ _ _ _ (by omega)]
    have l2 := sp_tl_le (row := fun i => bt0 (Sf a + i)) (base := S.2.1) (fun r S => sp_tw_le kd0 cl0 Sf Lf (fun x i => bt0 (Sf x + i)) (f + 1) r S) (Lf a) 0 (sp_add (kd0 a) (nI (f + 2)) (cl0 a) (Lf a) S)
    have h60' : (sp_tl (sp_tw kd0 cl0 Sf Lf (fun x i => bt0 (Sf x + i)) (f + 1)) (fun i => bt0 (Sf a + i)) S.2.1 (Lf a) 0 (sp_add (kd0 a) (nI (f + 2)) (cl0 a) (Lf a) S)).1 ≤ 60 := h60
    have h40' : (sp_tl (sp_tw kd0 cl0 Sf Lf (fun x i => bt0 (Sf x + i)) (f + 1)) (fun i => bt0 (Sf a + i)) S.2.1 (Lf a) 0 (sp_add (kd0 a) (nI (f + 2)) (cl0 a) (Lf a) S)).2.1 ≤ 4000 := h40
    have hE2 : S.2.1 + Lf a ≤ 4000 := Nat.le_trans l2 h40'
    obtain ⟨a1, a2⟩ := sp_add_mk (k := kd0 a) (c := cl0 a) (n := Lf a) (dq := f + 2) (by omega) (by omega) hz
    have a3 := he.mk (d := nI (f + 2)) (c := cl0 a) (n := Lf a) gl hE2
    rw [← hkk] at a3 he ⊢
    have e3 : (sp_mk (kd0 a) (nI (f + 2)) (cl0 a) (Lf a) S).2.1 = S.2.1 + Lf a := rfl
    rw [a1] at h60' h40' ⊢
    refine sp_tl_z (n := Lf a) (V := fun r => r < na ∧ Df r = f + 1 ∧ kd0 r = kd0 a) (fun r S => sp_tw_le1 kd0 cl0 Sf Lf (fun x i => bt0 (Sf x + i)) (f + 1) r (by omega) S) (fun r S => sp_tw_le kd0 cl0 Sf Lf (fun x i => bt0 (Sf x + i)) (f + 1) r S) he.2.2.1 (fun i hi => ?_) (fun r S v z1 z2 q1 q2 => sp_tw_z hT hF hV (f + 1) r S v.1 v.2.1 v.2.2 z1 z2 q1 q2) (Lf a) 0 _ (by omega) a2 a3 (by omega) h60' h40'
    obtain ⟨e1, e2, e3'⟩ := hF a ha
    have hnu := hT.2.1
    have hna := hT.1
    have g2 := (hT.2.2.1 a ha).2.1
    rcases hT.2.2.2 a ha (by omega) i hi with q | ⟨r, hr, q, v⟩
    · exact Or.inl q
    · refine Or.inr ⟨r, by omega, q, hr, by omega, ?_⟩
      rcases (hV a (Sf a) (Lf a) ha e1 e2 (by omega) gl i hi).2 (by rw [e3', hd]; exact zl_n1 (by omega) (by omega)) with w | ⟨r', hr', w, ek⟩
      · exfalso
        have z : (lN r : Int64).toInt = (r : Int) := lN_toInt (by omega)
        rw [← q, w, show (-1 : Int64).toInt = -1 by decide] at z
        omega
      · have z : lN r = lN r' := q.symm.trans w
        rw [(pk_lEQ (by omega) (by omega)).mp z]; exact ek
theorem rl0_deepQ {na ne : Nat} {kd dp cl sa ln pn : Nat → Int32} {btX btM : Nat → Int64} {x1 r r' : Int32} {na2 : Nat} {nu2 : Nat} {kd2 : Nat → Int32} {dp2 : Nat → Int32} {cl2 : Nat → Int32} {sa2 : Nat → Int32} {ln2 : Nat → Int32} {bt2 : Nat → Int64} {na3 : Nat} {ne3 : Nat} {kd3 : Nat → Int32} {dp3 : Nat → Int32} {cl3 : Nat → Int32} {sa3 : Nat → Int32} {ln3 : Nat → Int32} {bt3 : Nat → Int64} (hM : zz_MI na ne dp sa ln btM) (hk : zz_KC na kd cl) (h : zz_R1 na ne dp sa ln btX btM pn) (fr : r = sp_dR na ne dp sa ln btX x1) (fx : (na2, nu2, kd2, dp2, cl2, sa2, ln2, bt2) = if r < 0 then (na, ne, kd, dp, cl, sa, ln, btX) else sp_tw kd cl (zz_nf sa) (zz_nf ln) (zz_rw sa btX) (zz_nf dp x1.toNatClampNeg) x1.toNatClampNeg (na, ne, kd, dp, cl, sa, ln, btX)) (fr' : r' = sp_dR na ne dp sa ln btM x1) (fm : (na3, ne3, kd3, dp3, cl3, sa3, ln3, bt3) = if r' < 0 then (na, ne, kd, dp, cl, sa, ln, btM) else sp_tF kd cl (zz_nf sa) (zz_nf ln) (zz_rw sa btM) (zz_nf dp x1.toNatClampNeg - 0) x1.toNatClampNeg ne (zz_nf ln x1.toNatClampNeg - 0) 0 (sp_co kd cl (zz_nf sa) (zz_nf ln) (zz_nf dp x1.toNatClampNeg) x1.toNatClampNeg (na, ne, kd, dp, cl, sa, ln, btM))) (hQ : zz_Q na kd dp sa ln btX btM) : zz_Q na3 kd3 dp3 sa3 ln3 bt2 bt3 ∧ ∀ a, a < na → kd3 a = kd a := by
  obtain ⟨eb, hv⟩ := hQ
  subst eb
  obtain ⟨hT, hF⟩ := zl_TRm hM
  have hna := hM.1.1
  have er : r = r' := fr.trans fr'.symm
  rw [er] at fx
  by_cases c : r' < 0
  · rw [if_pos c] at fx fm
    cases fx; cases fm
    exact ⟨⟨rfl, hv⟩, fun _ _ => rfl⟩
  · rw [if_neg c] at fx fm
    have c0 : ¬ fn_co_has (nI na) x1 = 0 := fun z => c (by
      rw [fr']
      unfold sp_dR
      rw [if_pos z]
      decide)
    obtain ⟨a, ha, ea⟩ := zl_has hna c0
    have eA : x1.toNatClampNeg = a := by rw [ea]; exact nI_clamp (by omega)
    have hG : zz_DF na ne (zz_nf ln) (zz_nf dp) (zz_rw sa btX) a := by
      by_cases g : zz_DF na ne (zz_nf ln) (zz_nf dp) (zz_rw sa btX) a
      · exact g
      · exfalso
        apply c
        rw [fr']
        unfold sp_dR
        rw [if_neg c0, eA, if_neg g]
        decide
    rw [eA] at fx fm
    obtain ⟨f1, f2, f3, f4⟩ := hT.2.2.1 a ha
    have fm2 : (na3, ne3, kd3, dp3, cl3, sa3, ln3, bt3) = sp_twM kd cl (zz_nf sa) (zz_nf ln) (fun x i => btX (zz_nf sa x + i)) (zz_nf dp a) a (na, ne, kd, dp, cl, sa, ln, btX) := by
      rw [fm, ← sp_tF_M hT (zz_nf dp a) a _ f3 ha rfl (Nat.le_refl _)]; rfl
    obtain ⟨n1, n2⟩ := sp_tw_n kd cl (zz_nf sa) (zz_nf ln) (fun x i => btX (zz_nf sa x + i)) (zz_nf dp a) a (na, ne, kd, dp, cl, sa, ln, btX)
    obtain ⟨z1, z2, z3⟩ := sp_tw_z (kd0 := kd) (cl0 := cl) hT hF hv (zz_nf dp a) a (na, ne, kd, dp, cl, sa, ln, btX) ha rfl rfl (fun j hj => (h.2 j hj).1) ⟨fun _ _ => rfl, Nat.le_refl _, Nat.le_refl _, fun j _ => rfl, hM.1.ends, hM.1.ends, fun a h1 h2 => absurd h1 (Nat.not_le.mpr h2), hv⟩ (by rw [n1]; exact hG.1) (by rw [n2]; exact hG.2)
    have fx2 : (na2, nu2, kd2, dp2, cl2, sa2, ln2, bt2) = sp_twM kd cl (zz_nf sa) (zz_nf ln) (fun x i => btX (zz_nf sa x + i)) (zz_nf dp a) a (na, ne, kd, dp, cl, sa, ln, btX) := by rw [fx]; exact z1
    rw [← fm2] at z3 fx2
    cases fx2
    exact ⟨⟨rfl, z3.2.2.2.2.2.2.2⟩, z3.1⟩
theorem rl_gridQ {naX : Nat} {nuX : Nat} {kdX : Nat → Int32} {dpX : Nat → Int32} {clX : Nat → Int32} {saX : Nat → Int32} {lnX : Nat → Int32} {btX : Nat → Int64} {pnX : Nat → Int32} {naM : Nat} {neM : Nat} {kdM : Nat → Int32} {dpM : Nat → Int32} {clM : Nat → Int32} {saM : Nat → Int32} {lnM : Nat → Int32} {btM : Nat → Int64} {pnM : Nat → Int32} {x1 x2 x3 x4 x5 x6 r r' : Int32} {na2 : Nat} {nu2 : Nat} {kd2 : Nat → Int32} {dp2 : Nat → Int32} {cl2 : Nat → Int32} {sa2 : Nat → Int32} {ln2 : Nat → Int32} {bt2 : Nat → Int64} {na3 : Nat} {ne3 : Nat} {kd3 : Nat → Int32} {dp3 : Nat → Int32} {cl3 : Nat → Int32} {sa3 : Nat → Int32} {ln3 : Nat → Int32} {bt3 : Nat → Int64} (hM : zz_MI naM neM dpM saM lnM btM) (h : zz_RL naX nuX kdX dpX clX saX lnX btX pnX naM neM kdM dpM clM saM lnM btM pnM) (fr : r = sp_gR naX nuX x1 x2 x3 x4 x5 x6) (fx : (na2, nu2, kd2, dp2, cl2, sa2, ln2, bt2) = if r < 0 then (naX, nuX, kdX, dpX, clX, saX, lnX, btX) else sp_grid x1 (zz_gll x3 x4 x5 x6) x2.toNatClampNeg 0 (naX, nuX, kdX, dpX, clX, saX, lnX, btX)) (fr' : r' = sp_gR naM neM x1 x2 x3 x4 x5 x6) (fm : (na3, ne3, kd3, dp3, cl3, sa3, ln3, bt3) = if r' < 0 then (naM, neM, kdM, dpM, clM, saM, lnM, btM) else sp_gF x1 (zz_gll x3 x4 x5 x6) (x2.toNatClampNeg - 0 - 1) 0 neM (zz_gll x3 x4 x5 x6 0 - 0) 0 (sp_mk x1 (nI x2.toNatClampNeg) (-1) (zz_gll x3 x4 x5 x6 0) (naM, neM, kdM, dpM, clM, saM, lnM, btM))) (hQ : zz_Q naM kdM dpM saM lnM btX btM) : zz_Q na3 kd3 dp3 sa3 ln3 bt2 bt3 ∧ ∀ a, a < naM → kd3 a = kdM a := by
  obtain ⟨rfl, rfl, rfl, rfl, rfl, rfl, rfl, rfl, hk, h⟩ := h
  exact rl0_gridQ hM hk h fr fx fr' fm hQ
theorem rl_deepQ {naX : Nat} {nuX : Nat} {kdX : Nat → Int32} {dpX : Nat → Int32} {clX : Nat → Int32} {saX : Nat → Int32} {lnX : Nat → Int32} {btX : Nat → Int64} {pnX : Nat → Int32} {naM : Nat} {neM : Nat} {kdM : Nat → Int32} {dpM : Nat → Int32} {clM : Nat → Int32} {saM : Nat → Int32} {lnM : Nat → Int32} {btM : Nat → Int64} {pnM : Nat → Int32} {x1 r r' : Int32} {na2 : Nat} {nu2 : Nat} {kd2 : Nat → Int32} {dp2 : Nat → Int32} {cl2 : Nat → Int32} {sa2 : Nat → Int32} {ln2 : Nat → Int32} {bt2 : Nat → Int64} {na3 : Nat} {ne3 : Nat} {kd3 : Nat → Int32} {dp3 : Nat → Int32} {cl3 : Nat → Int32} {sa3 : Nat → Int32} {ln3 : Nat → Int32} {bt3 : Nat → Int64} (hM : zz_MI naM neM dpM saM lnM btM) (h : zz_RL naX nuX kdX dpX clX saX lnX btX pnX naM neM kdM dpM clM saM lnM btM pnM) (fr : r = sp_dR naX nuX dpX saX lnX btX x1) (fx : (na2, nu2, kd2, dp2, cl2, sa2, ln2, bt2) = if r < 0 then (naX, nuX, kdX, dpX, clX, saX, lnX, btX) else sp_tw kdX clX (zz_nf saX) (zz_nf lnX) (zz_rw saX btX) (zz_nf dpX x1.toNatClampNeg) x1.toNatClampNeg (naX, nuX, kdX, dpX, clX, saX, lnX, btX)) (fr' : r' = sp_dR naM neM dpM saM lnM btM x1) (fm : (na3, ne3, kd3, dp3, cl3, sa3, ln3, bt3) = if r' < 0 then (naM, neM, kdM, dpM, clM, saM, lnM, btM) else sp_tF kdM clM (zz_nf saM) (zz_nf lnM) (zz_rw saM btM) (zz_nf dpM x1.toNatClampNeg - 0) x1.toNatClampNeg neM (zz_nf lnM x1.toNatClampNeg - 0) 0 (sp_co kdM clM (zz_nf saM) (zz_nf lnM) (zz_nf dpM x1.toNatClampNeg) x1.toNatClampNeg (naM, neM, kdM, dpM, clM, saM, lnM, btM))) (hQ : zz_Q naM kdM dpM saM lnM btX btM) : zz_Q na3 kd3 dp3 sa3 ln3 bt2 bt3 ∧ ∀ a, a < naM → kd3 a = kdM a := by
  obtain ⟨rfl, rfl, rfl, rfl, rfl, rfl, rfl, rfl, hk, h⟩ := h
  exact rl0_deepQ hM hk h fr fx fr' fm hQ
