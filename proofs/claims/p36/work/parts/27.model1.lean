theorem zz_VR.mono {na n2 : Nat} {dpf dp2 : Nat → Int32} {x : Int64} {dz : Nat} (h : zz_VR na dpf x dz) (hn : na ≤ n2) (he : ∀ j, j < na → dp2 j = dpf j) : zz_VR n2 dp2 x dz := by
  rcases h with h | ⟨r, dr, h1, h2, h3, h4⟩
  · exact Or.inl h
  · exact Or.inr ⟨r, dr, by omega, h2, (he r h1).trans h3, h4⟩
theorem zl_set {na ne a sz lz dz q : Nat} {dpf saf lnf : Nat → Int32} {btf : Nat → Int64} {x : Int64} (h : zz_MI na ne dpf saf lnf btf) (ha : a < na) (es : saf a = nI sz) (el : lnf a = nI lz) (ed : dpf a = nI dz) (h1 : lz ≤ 200) (h2 : sz + lz ≤ 4000) (h3 : dz ≤ 4) (hq : q < lz) (hx : 1 < dz → zz_VR na dpf x dz) : zz_MI na ne dpf saf lnf (vp_updL btf (sz + q) x) := by
  refine ⟨h.1, h.2.1, fun b sb lb db hb e1 e2 e3 g1 g2 g3 g4 i hi => ?_⟩
  by_cases e : sb + i = sz + q
  · have hab : b = a := by
      rcases Nat.lt_trichotomy a b with hab | hab | hab
      · have := h.2.1 a b sz lz sb hab hb es el e1 (by omega) h1 g1; omega
      · exact hab.symm
      · have := h.2.1 b a sb lb sz hab ha e1 e2 es g1 g2 (by omega); omega
    subst hab
    have hd : db = dz := zl_inj (e3.symm.trans ed) (by omega) (by omega)
    subst hd
    rw [e, pk_uLs]; exact hx g4
  · rw [pk_uLn e]; exact h.2.2 b sb lb db hb e1 e2 e3 g1 g2 g3 g4 i hi
theorem zl_make {na ne nn d : Nat} {dpf saf lnf : Nat → Int32} {btf bt2 : Nat → Int64} (h : zz_MI na ne dpf saf lnf btf) (h1 : na < 60) (h2 : ne + nn ≤ 4000) (h3 : nn ≤ 200) (h4 : 1 ≤ d ∧ d ≤ 4) (hb1 : ∀ j, j < ne → bt2 j = btf j) (hb2 : 1 < d → ∀ j, ne ≤ j → j < ne + nn → bt2 j = -1) : zz_MI (na + 1) (ne + nn) (upd dpf na (nI d)) (upd saf na (nI ne)) (upd lnf na (nI nn)) bt2 := by
  have hna := h.1.1
  have hne := h.1.2.1
  refine ⟨zz_SI_add h.1 h1 h2 h3 h4, fun a b sa la sb hab hb e1 e2 e3 g1 g2 g3 => ?_, fun a sz lz dz ha e1 e2 e3 g1 g2 g3 g4 i hi => ?_⟩
  · have e1' := (pk_un (f := saf) (k := na) (x := nI ne) (show a ≠ na by omega)).symm.trans e1
    have e2' := (pk_un (f := lnf) (k := na) (x := nI nn) (show a ≠ na by omega)).symm.trans e2
    by_cases e : b = na
    · subst e
      have hsb : sb = ne := zl_inj (e3.symm.trans pk_us) g3 (by omega)
      obtain ⟨sz, lz, dz, c1, c2, c3, c4, c5, c6, c7⟩ := h.1.2.2 a hab
      have := zl_inj (e1'.symm.trans c1) g1 (by omega)
      have := zl_inj (e2'.symm.trans c2) (by omega) (by omega)
      omega
    · exact h.2.1 a b sa la sb hab (by omega) e1' e2' ((pk_un (f := saf) (k := na) (x := nI ne) e).symm.trans e3) g1 g2 g3
  · by_cases e : a = na
    · subst e
      have hd : dz = d := zl_inj (e3.symm.trans pk_us) (by omega) (by omega)
      have hs : sz = ne := zl_inj (e1.symm.trans pk_us) g1 (by omega)
      have hl : lz = nn := zl_inj (e2.symm.trans pk_us) (by omega) (by omega)
      exact Or.inl (hb2 (by omega) _ (by omega) (by omega))
    · have e1' := (pk_un (f := saf) (k := na) (x := nI ne) e).symm.trans e1
      have e2' := (pk_un (f := lnf) (k := na) (x := nI nn) e).symm.trans e2
      have e3' := (pk_un (f := dpf) (k := na) (x := nI d) e).symm.trans e3
      obtain ⟨sz', lz', dz', c1, c2, c3, c4, c5, c6, c7⟩ := h.1.2.2 a (by omega)
      have := zl_inj (e1'.symm.trans c1) g1 (by omega)
      have := zl_inj (e2'.symm.trans c2) (by omega) (by omega)
      rw [hb1 _ (by omega)]
      exact (h.2.2 a sz lz dz (by omega) e1' e2' e3' g1 g2 g3 g4 i hi).mono (by omega) (fun j hj => pk_un (by omega))
theorem zl_w {x lo hi : Int64} (h : ¬ fn_cm_within x lo hi = 0) : ¬ x < lo ∧ ¬ hi < x := by
  unfold fn_cm_within at h
  refine ⟨fun q => h (if_pos q), fun q => ?_⟩
  by_cases a : x < lo
  · exact h (if_pos a)
  · exact h (by rw [if_neg a, if_pos q])
theorem zl_wi {x : Int32} {n : Nat} (hn : n ≤ 4000) (h : ¬ fn_cm_within x.toInt64 0 (nI n - 1).toInt64 = 0) : ∃ q, q < n ∧ x = nI q := by
  obtain ⟨h1, h2⟩ := zl_w h
  rw [Int64.lt_iff_toInt_lt, zl_i2l] at h1 h2
  rw [zl_i2l, show (1 : Int32) = nI 1 by decide, pk_sub_toInt (by omega) (by decide)] at h2
  have e0 : (0 : Int64).toInt = 0 := by decide
  have f0 : (0 : Int32).toInt = 0 := by decide
  have g1 : ¬ x < 0 := by rw [Int32.lt_iff_toInt_lt]; omega
  obtain ⟨j, hj, rfl⟩ := nI_of g1
  rw [nI_toInt hj] at h2
  exact ⟨j, by omega, rfl⟩
theorem zl_wi1 {x : Int32} {f n : Nat} (hf : f ≤ 4000) (hn : n ≤ 4000) (h : ¬ fn_cm_within x.toInt64 (nI f).toInt64 (nI n).toInt64 = 0) : ∃ t, f ≤ t ∧ t ≤ n ∧ x = nI t := by
  obtain ⟨h1, h2⟩ := zl_w h
  rw [Int64.lt_iff_toInt_lt, zl_i2l, zl_i2l, nI_toInt (by omega)] at h1 h2
  have f0 : (0 : Int32).toInt = 0 := by decide
  have g1 : ¬ x < 0 := by rw [Int32.lt_iff_toInt_lt]; omega
  obtain ⟨j, hj, rfl⟩ := nI_of g1
  rw [nI_toInt hj] at h1 h2
  exact ⟨j, by omega, by omega, rfl⟩
theorem zl_wi0 {x : Int32} {n : Nat} (hn : n ≤ 4000) (h : ¬ fn_cm_within x.toInt64 0 (nI n).toInt64 = 0) : ∃ t, t ≤ n ∧ x = nI t := by
  obtain ⟨t, _, h2, h3⟩ := zl_wi1 (f := 0) (by omega) hn h
  exact ⟨t, h2, h3⟩
theorem zl_isA {na : Nat} {x : Int32} (hn : na ≤ 60) (h : ¬ fn_cm_isArray (nI na) x = 0) : ∃ q, q < na ∧ x = nI q := zl_wi (by omega) h
theorem zl_roomY {na nu ll : Nat} (h1 : na ≤ 60) (h2 : nu ≤ 4000) (h3 : ll ≤ 200) (h : ¬ fn_cm_isRoom (nI na) (nI nu) 1 (nI ll).toInt64 = 0) : na + 1 ≤ 60 ∧ nu + ll ≤ 4000 := by
  unfold fn_cm_isRoom at h
  have g1 : ¬ (60 : Int32) < nI na + 1 := fun q => h (if_pos q)
  have g2 : ¬ (4000 : Int64) < (nI nu).toInt64 + (nI ll).toInt64 := fun q => h (by rw [if_neg g1, if_pos q])
  rw [nI_1, show (60 : Int32) = nI 60 by decide, nI_ltI (by decide) (by omega)] at g1
  rw [nI_l (show nu < 2 ^ 31 by omega), nI_l (show ll < 2 ^ 31 by omega), lN_add, show (4000 : Int64) = lN 4000 by decide, lN_lt (by decide) (by omega)] at g2
  omega
theorem zl_win (x : Int32) (lo hi : Int64) : fn_cm_within x.toInt64 lo hi = 0 ↔ (x.toInt < lo.toInt ∨ hi.toInt < x.toInt) := by
  unfold fn_cm_within
  by_cases a : x.toInt64 < lo
  · rw [if_pos a]
    rw [Int64.lt_iff_toInt_lt, zl_i2l] at a
    exact ⟨fun _ => Or.inl a, fun _ => rfl⟩
  · rw [if_neg a]
    rw [Int64.lt_iff_toInt_lt, zl_i2l] at a
    by_cases b : hi < x.toInt64
    · rw [if_pos b]
      rw [Int64.lt_iff_toInt_lt, zl_i2l] at b
      exact ⟨fun _ => Or.inr b, fun _ => rfl⟩
    · rw [if_neg b]
      rw [Int64.lt_iff_toInt_lt, zl_i2l] at b
      exact ⟨fun q => absurd q (by decide), fun q => absurd q (by omega)⟩
theorem zl_kind (x : Int32) : fn_co_isKind x = 0 ↔ fn_cm_within x.toInt64 0 8 = 0 := by
  rw [zl_win]
  have e0 : (0 : Int64).toInt = 0 := by decide
  have e8 : (8 : Int64).toInt = 8 := by decide
  have f0 : (0 : Int32).toInt = 0 := by decide
  have f8 : (8 : Int32).toInt = 8 := by decide
  unfold fn_co_isKind
  by_cases a : x < 0
  · rw [if_pos a]; rw [Int32.lt_iff_toInt_lt] at a
    exact ⟨fun _ => Or.inl (by omega), fun _ => rfl⟩
  · rw [if_neg a]; rw [Int32.lt_iff_toInt_lt] at a
    by_cases b : 8 < x
    · rw [if_pos b]; rw [Int32.lt_iff_toInt_lt] at b
      exact ⟨fun _ => Or.inr (by omega), fun _ => rfl⟩
    · rw [if_neg b]; rw [Int32.lt_iff_toInt_lt] at b
      exact ⟨fun q => absurd q (by decide), fun q => absurd q (by omega)⟩
/-- the bits and the pins behind a new array of the reference -/
def zz_mb (bt : Nat → Int64) (d : Int32) (ne nn : Nat) : Nat → Int64 := fun j => if ne ≤ j ∧ j < ne + nn then (if d = 1 then 0 else -1) else bt j
def zz_mp (pn : Nat → Int32) (ne nn : Nat) : Nat → Int32 := fun j => if ne ≤ j ∧ j < ne + nn then 0 else pn j
theorem zl_mbS {btf bt : Nat → Int64} {ne i : Nat} {x v : Int64} (h0 : ne ≤ i) (h : ∀ j, bt j = if ne ≤ j ∧ j < i then v else btf j) (hx : x = v) : ∀ j, vp_updL bt i x j = if ne ≤ j ∧ j < i + 1 then v else btf j := fun j => by
  by_cases e : j = i
  · subst e; rw [pk_uLs, if_pos (by omega)]; exact hx
  · rw [pk_uLn e, h j]
    by_cases q : ne ≤ j ∧ j < i
    · rw [if_pos q, if_pos (by omega)]
    · rw [if_neg q, if_neg (by omega)]
theorem zl_mpS {pnf pn : Nat → Int32} {ne i : Nat} {x v : Int32} (h0 : ne ≤ i) (h : ∀ j, pn j = if ne ≤ j ∧ j < i then v else pnf j) (hx : x = v) : ∀ j, upd pn i x j = if ne ≤ j ∧ j < i + 1 then v else pnf j := fun j => by
  by_cases e : j = i
  · subst e; rw [pk_us, if_pos (by omega)]; exact hx
  · rw [pk_un e, h j]
    by_cases q : ne ≤ j ∧ j < i
    · rw [if_pos q, if_pos (by omega)]
    · rw [if_neg q, if_neg (by omega)]
theorem dg_X8_make_0 : (decode cX8_make 0 = .ok (.aload_n 0, 1)) ∧ (decode cX8_make 1 = .ok (.getfield 103, 3)) ∧ (decode cX8_make 4 = .ok (.istore 5, 2)) ∧ (decode cX8_make 6 = .ok (.aload_n 0, 1)) ∧ (decode cX8_make 7 = .ok (.getfield 7, 3)) ∧ (decode cX8_make 10 = .ok (.iload 5, 2)) ∧ (decode cX8_make 12 = .ok (.iload_n 1, 1)) ∧ (decode cX8_make 13 = .ok (.iastore, 1)) ∧ (decode cX8_make 14 = .ok (.aload_n 0, 1)) ∧ (decode cX8_make 15 = .ok (.getfield 13, 3)) ∧ (decode cX8_make 18 = .ok (.iload 5, 2)) ∧ (decode cX8_make 20 = .ok (.iload_n 2, 1)) ∧ (decode cX8_make 21 = .ok (.iastore, 1)) ∧ (decode cX8_make 22 = .ok (.aload_n 0, 1)) ∧ (decode cX8_make 23 = .ok (.getfield 19, 3)) ∧ (decode cX8_make 26 = .ok (.iload 5, 2)) := by decide +kernel
theorem dX8_make_0 : decode cX8_make 0 = .ok (.aload_n 0, 1) := dg_X8_make_0.1
theorem dX8_make_1 : decode cX8_make 1 = .ok (.getfield 103, 3) := dg_X8_make_0.2.1
theorem dX8_make_4 : decode cX8_make 4 = .ok (.istore 5, 2) := dg_X8_make_0.2.2.1
theorem dX8_make_6 : decode cX8_make 6 = .ok (.aload_n 0, 1) := dg_X8_make_0.2.2.2.1
theorem dX8_make_7 : decode cX8_make 7 = .ok (.getfield 7, 3) := dg_X8_make_0.2.2.2.2.1
theorem dX8_make_10 : decode cX8_make 10 = .ok (.iload 5, 2) := dg_X8_make_0.2.2.2.2.2.1
theorem dX8_make_12 : decode cX8_make 12 = .ok (.iload_n 1, 1) := dg_X8_make_0.2.2.2.2.2.2.1
theorem dX8_make_13 : decode cX8_make 13 = .ok (.iastore, 1) := dg_X8_make_0.2.2.2.2.2.2.2.1
theorem dX8_make_14 : decode cX8_make 14 = .ok (.aload_n 0, 1) := dg_X8_make_0.2.2.2.2.2.2.2.2.1
theorem dX8_make_15 : decode cX8_make 15 = .ok (.getfield 13, 3) := dg_X8_make_0.2.2.2.2.2.2.2.2.2.1
theorem dX8_make_18 : decode cX8_make 18 = .ok (.iload 5, 2) := dg_X8_make_0.2.2.2.2.2.2.2.2.2.2.1
theorem dX8_make_20 : decode cX8_make 20 = .ok (.iload_n 2, 1) := dg_X8_make_0.2.2.2.2.2.2.2.2.2.2.2.1
theorem dX8_make_21 : decode cX8_make 21 = .ok (.iastore, 1) := dg_X8_make_0.2.2.2.2.2.2.2.2.2.2.2.2.1
theorem dX8_make_22 : decode cX8_make 22 = .ok (.aload_n 0, 1) := dg_X8_make_0.2.2.2.2.2.2.2.2.2.2.2.2.2.1
theorem dX8_make_23 : decode cX8_make 23 = .ok (.getfield 19, 3) := dg_X8_make_0.2.2.2.2.2.2.2.2.2.2.2.2.2.2.1
theorem dX8_make_26 : decode cX8_make 26 = .ok (.iload 5, 2) := dg_X8_make_0.2.2.2.2.2.2.2.2.2.2.2.2.2.2.2
theorem dg_X8_make_28 : (decode cX8_make 28 = .ok (.iload_n 3, 1)) ∧ (decode cX8_make 29 = .ok (.iastore, 1)) ∧ (decode cX8_make 30 = .ok (.aload_n 0, 1)) ∧ (decode cX8_make 31 = .ok (.getfield 16, 3)) ∧ (decode cX8_make 34 = .ok (.iload 5, 2)) ∧ (decode cX8_make 36 = .ok (.iload 4, 2)) ∧ (decode cX8_make 38 = .ok (.iastore, 1)) ∧ (decode cX8_make 39 = .ok (.aload_n 0, 1)) ∧ (decode cX8_make 40 = .ok (.getfield 22, 3)) ∧ (decode cX8_make 43 = .ok (.iload 5, 2)) ∧ (decode cX8_make 45 = .ok (.aload_n 0, 1)) ∧ (decode cX8_make 46 = .ok (.getfield 186, 3)) ∧ (decode cX8_make 49 = .ok (.iastore, 1)) ∧ (decode cX8_make 50 = .ok (.aload_n 0, 1)) ∧ (decode cX8_make 51 = .ok (.getfield 186, 3)) ∧ (decode cX8_make 54 = .ok (.istore 6, 2)) := by decide +kernel
theorem dX8_make_28 : decode cX8_make 28 = .ok (.iload_n 3, 1) := dg_X8_make_28.1
theorem dX8_make_29 : decode cX8_make 29 = .ok (.iastore, 1) := dg_X8_make_28.2.1
theorem dX8_make_30 : decode cX8_make 30 = .ok (.aload_n 0, 1) := dg_X8_make_28.2.2.1
theorem dX8_make_31 : decode cX8_make 31 = .ok (.getfield 16, 3) := dg_X8_make_28.2.2.2.1
theorem dX8_make_34 : decode cX8_make 34 = .ok (.iload 5, 2) := dg_X8_make_28.2.2.2.2.1
theorem dX8_make_36 : decode cX8_make 36 = .ok (.iload 4, 2) := dg_X8_make_28.2.2.2.2.2.1
theorem dX8_make_38 : decode cX8_make 38 = .ok (.iastore, 1) := dg_X8_make_28.2.2.2.2.2.2.1
theorem dX8_make_39 : decode cX8_make 39 = .ok (.aload_n 0, 1) := dg_X8_make_28.2.2.2.2.2.2.2.1
theorem dX8_make_40 : decode cX8_make 40 = .ok (.getfield 22, 3) := dg_X8_make_28.2.2.2.2.2.2.2.2.1
theorem dX8_make_43 : decode cX8_make 43 = .ok (.iload 5, 2) := dg_X8_make_28.2.2.2.2.2.2.2.2.2.1
theorem dX8_make_45 : decode cX8_make 45 = .ok (.aload_n 0, 1) := dg_X8_make_28.2.2.2.2.2.2.2.2.2.2.1
theorem dX8_make_46 : decode cX8_make 46 = .ok (.getfield 186, 3) := dg_X8_make_28.2.2.2.2.2.2.2.2.2.2.2.1
theorem dX8_make_49 : decode cX8_make 49 = .ok (.iastore, 1) := dg_X8_make_28.2.2.2.2.2.2.2.2.2.2.2.2.1
theorem dX8_make_50 : decode cX8_make 50 = .ok (.aload_n 0, 1) := dg_X8_make_28.2.2.2.2.2.2.2.2.2.2.2.2.2.1
theorem dX8_make_51 : decode cX8_make 51 = .ok (.getfield 186, 3) := dg_X8_make_28.2.2.2.2.2.2.2.2.2.2.2.2.2.2.1
theorem dX8_make_54 : decode cX8_make 54 = .ok (.istore 6, 2) := dg_X8_make_28.2.2.2.2.2.2.2.2.2.2.2.2.2.2.2
theorem dg_X8_make_56 : (decode cX8_make 56 = .ok (.iload 6, 2)) ∧ (decode cX8_make 58 = .ok (.aload_n 0, 1)) ∧ (decode cX8_make 59 = .ok (.getfield 186, 3)) ∧ (decode cX8_make 62 = .ok (.iload 4, 2)) ∧ (decode cX8_make 64 = .ok (.iadd, 1)) ∧ (decode cX8_make 65 = .ok (.if_icmp .ge 36, 3)) ∧ (decode cX8_make 68 = .ok (.aload_n 0, 1)) ∧ (decode cX8_make 69 = .ok (.getfield 25, 3)) ∧ (decode cX8_make 72 = .ok (.iload 6, 2)) ∧ (decode cX8_make 74 = .ok (.iload_n 2, 1)) ∧ (decode cX8_make 75 = .ok (.iconst 1, 1)) ∧ (decode cX8_make 76 = .ok (.if_icmp .ne 7, 3)) ∧ (decode cX8_make 79 = .ok (.lconst 0, 1)) ∧ (decode cX8_make 80 = .ok (.goto 6, 3)) ∧ (decode cX8_make 83 = .ok (.ldc2_w 171, 3)) ∧ (decode cX8_make 86 = .ok (.lastore, 1)) := by decide +kernel
theorem dX8_make_56 : decode cX8_make 56 = .ok (.iload 6, 2) := dg_X8_make_56.1
theorem dX8_make_58 : decode cX8_make 58 = .ok (.aload_n 0, 1) := dg_X8_make_56.2.1
theorem dX8_make_59 : decode cX8_make 59 = .ok (.getfield 186, 3) := dg_X8_make_56.2.2.1
theorem dX8_make_62 : decode cX8_make 62 = .ok (.iload 4, 2) := dg_X8_make_56.2.2.2.1
theorem dX8_make_64 : decode cX8_make 64 = .ok (.iadd, 1) := dg_X8_make_56.2.2.2.2.1
theorem dX8_make_65 : decode cX8_make 65 = .ok (.if_icmp .ge 36, 3) := dg_X8_make_56.2.2.2.2.2.1
theorem dX8_make_68 : decode cX8_make 68 = .ok (.aload_n 0, 1) := dg_X8_make_56.2.2.2.2.2.2.1
theorem dX8_make_69 : decode cX8_make 69 = .ok (.getfield 25, 3) := dg_X8_make_56.2.2.2.2.2.2.2.1
theorem dX8_make_72 : decode cX8_make 72 = .ok (.iload 6, 2) := dg_X8_make_56.2.2.2.2.2.2.2.2.1
theorem dX8_make_74 : decode cX8_make 74 = .ok (.iload_n 2, 1) := dg_X8_make_56.2.2.2.2.2.2.2.2.2.1
theorem dX8_make_75 : decode cX8_make 75 = .ok (.iconst 1, 1) := dg_X8_make_56.2.2.2.2.2.2.2.2.2.2.1
theorem dX8_make_76 : decode cX8_make 76 = .ok (.if_icmp .ne 7, 3) := dg_X8_make_56.2.2.2.2.2.2.2.2.2.2.2.1
theorem dX8_make_79 : decode cX8_make 79 = .ok (.lconst 0, 1) := dg_X8_make_56.2.2.2.2.2.2.2.2.2.2.2.2.1
theorem dX8_make_80 : decode cX8_make 80 = .ok (.goto 6, 3) := dg_X8_make_56.2.2.2.2.2.2.2.2.2.2.2.2.2.1
theorem dX8_make_83 : decode cX8_make 83 = .ok (.ldc2_w 171, 3) := dg_X8_make_56.2.2.2.2.2.2.2.2.2.2.2.2.2.2.1
theorem dX8_make_86 : decode cX8_make 86 = .ok (.lastore, 1) := dg_X8_make_56.2.2.2.2.2.2.2.2.2.2.2.2.2.2.2
theorem dg_X8_make_87 : (decode cX8_make 87 = .ok (.aload_n 0, 1)) ∧ (decode cX8_make 88 = .ok (.getfield 29, 3)) ∧ (decode cX8_make 91 = .ok (.iload 6, 2)) ∧ (decode cX8_make 93 = .ok (.iconst 0, 1)) ∧ (decode cX8_make 94 = .ok (.bastore, 1)) ∧ (decode cX8_make 95 = .ok (.iinc 6 1, 3)) ∧ (decode cX8_make 98 = .ok (.goto (-42), 3)) ∧ (decode cX8_make 101 = .ok (.aload_n 0, 1)) ∧ (decode cX8_make 102 = .ok (.dup, 1)) ∧ (decode cX8_make 103 = .ok (.getfield 186, 3)) ∧ (decode cX8_make 106 = .ok (.iload 4, 2)) ∧ (decode cX8_make 108 = .ok (.iadd, 1)) ∧ (decode cX8_make 109 = .ok (.putfield 186, 3)) ∧ (decode cX8_make 112 = .ok (.aload_n 0, 1)) ∧ (decode cX8_make 113 = .ok (.dup, 1)) ∧ (decode cX8_make 114 = .ok (.getfield 103, 3)) := by decide +kernel
theorem dX8_make_87 : decode cX8_make 87 = .ok (.aload_n 0, 1) := dg_X8_make_87.1
theorem dX8_make_88 : decode cX8_make 88 = .ok (.getfield 29, 3) := dg_X8_make_87.2.1
theorem dX8_make_91 : decode cX8_make 91 = .ok (.iload 6, 2) := dg_X8_make_87.2.2.1
theorem dX8_make_93 : decode cX8_make 93 = .ok (.iconst 0, 1) := dg_X8_make_87.2.2.2.1
theorem dX8_make_94 : decode cX8_make 94 = .ok (.bastore, 1) := dg_X8_make_87.2.2.2.2.1
theorem dX8_make_95 : decode cX8_make 95 = .ok (.iinc 6 1, 3) := dg_X8_make_87.2.2.2.2.2.1
theorem dX8_make_98 : decode cX8_make 98 = .ok (.goto (-42), 3) := dg_X8_make_87.2.2.2.2.2.2.1
theorem dX8_make_101 : decode cX8_make 101 = .ok (.aload_n 0, 1) := dg_X8_make_87.2.2.2.2.2.2.2.1
theorem dX8_make_102 : decode cX8_make 102 = .ok (.dup, 1) := dg_X8_make_87.2.2.2.2.2.2.2.2.1
theorem dX8_make_103 : decode cX8_make 103 = .ok (.getfield 186, 3) := dg_X8_make_87.2.2.2.2.2.2.2.2.2.1
theorem dX8_make_106 : decode cX8_make 106 = .ok (.iload 4, 2) := dg_X8_make_87.2.2.2.2.2.2.2.2.2.2.1
theorem dX8_make_108 : decode cX8_make 108 = .ok (.iadd, 1) := dg_X8_make_87.2.2.2.2.2.2.2.2.2.2.2.1
theorem dX8_make_109 : decode cX8_make 109 = .ok (.putfield 186, 3) := dg_X8_make_87.2.2.2.2.2.2.2.2.2.2.2.2.1
theorem dX8_make_112 : decode cX8_make 112 = .ok (.aload_n 0, 1) := dg_X8_make_87.2.2.2.2.2.2.2.2.2.2.2.2.2.1
theorem dX8_make_113 : decode cX8_make 113 = .ok (.dup, 1) := dg_X8_make_87.2.2.2.2.2.2.2.2.2.2.2.2.2.2.1
theorem dX8_make_114 : decode cX8_make 114 = .ok (.getfield 103, 3) := dg_X8_make_87.2.2.2.2.2.2.2.2.2.2.2.2.2.2.2
theorem dg_X8_make_117 : (decode cX8_make 117 = .ok (.iconst 1, 1)) ∧ (decode cX8_make 118 = .ok (.iadd, 1)) ∧ (decode cX8_make 119 = .ok (.putfield 103, 3)) ∧ (decode cX8_make 122 = .ok (.iload 5, 2)) ∧ (decode cX8_make 124 = .ok (.ireturn, 1)) := by decide +kernel
theorem dX8_make_117 : decode cX8_make 117 = .ok (.iconst 1, 1) := dg_X8_make_117.1
theorem dX8_make_118 : decode cX8_make 118 = .ok (.iadd, 1) := dg_X8_make_117.2.1
theorem dX8_make_119 : decode cX8_make 119 = .ok (.putfield 103, 3) := dg_X8_make_117.2.2.1
theorem dX8_make_122 : decode cX8_make 122 = .ok (.iload 5, 2) := dg_X8_make_117.2.2.2.1
theorem dX8_make_124 : decode cX8_make 124 = .ok (.ireturn, 1) := dg_X8_make_117.2.2.2.2
theorem zf_X8_7 : zz_f RX8 7 7 2 := ⟨RX8, TX8, 37, rfl, zi_X8, by decide, zk_737⟩
theorem zf_X8_13 : zz_f RX8 13 7 3 := ⟨RX8, TX8, 37, rfl, zi_X8, by decide, zk_738⟩
theorem zf_X8_19 : zz_f RX8 19 7 5 := ⟨RX8, TX8, 37, rfl, zi_X8, by decide, zk_740⟩
theorem zf_X8_16 : zz_f RX8 16 7 4 := ⟨RX8, TX8, 37, rfl, zi_X8, by decide, zk_739⟩
theorem zf_X8_22 : zz_f RX8 22 7 6 := ⟨RX8, TX8, 37, rfl, zi_X8, by decide, zk_741⟩
theorem zu_X8_186 : zz_fw RX8 186 7 1 false .int := ⟨RX8, TX8, 37, tyX8, rfl, zi_X8, by decide, zk_736, tyX8_ok, nmX8, rfl, by decide +kernel, fun h => by cases h⟩
theorem zu_X8_103 : zz_fw RX8 103 7 0 false .int := ⟨RX8, TX8, 37, tyX8, rfl, zi_X8, by decide, zk_735, tyX8_ok, nmX8, rfl, by decide +kernel, fun h => by cases h⟩
theorem zf_X8_25 : zz_f RX8 25 7 7 := ⟨RX8, TX8, 37, rfl, zi_X8, by decide, zk_742⟩
theorem zf_X8_29 : zz_f RX8 29 7 8 := ⟨RX8, TX8, 37, rfl, zi_X8, by decide, zk_743⟩
abbrev rm_cm_make : Room := { frames := 0, cells := 0, slots := 0, locals := 0 }
abbrev po_cm_make (g : zz_G) (h0 : Nat) (a_kindOf : Nat) (a_depthOf : Nat) (a_lengthOf : Nat) (a_classOf : Nat) (a_baseOf : Nat) (a_bits : Nat) (a_pinned : Nat) (a_lengths : Nat) (a_stackArray : Nat) (a_stackOther : Nat) (a_stackAt : Nat) (a_path : Nat) (a_held : Nat) (a_alike : Nat) (a_hashes : Nat) (a_decisionArray : Nat) (a_decisionPlace : Nat) (a_candidateMany : Nat) (a_candidates : Nat) (a_ruleSort : Nat) (a_ruleArray : Nat) (a_ruleWeight : Nat) (a_ruleLow : Nat) (a_ruleHigh : Nat) (a_chosen : Nat) (a_bestOf : Nat) (a_markElements : Nat) (a_markBits : Nat) (a_markPins : Nat) (na : Nat) (ne : Nat) (nd : Nat) (nr : Nat) (nm : Nat) (i_code : Int32) (i_lastArray : Int32) (i_lastPlace : Int32) (nn : Nat) (kdf : Nat → Int32) (dpf : Nat → Int32) (lnf : Nat → Int32) (clf : Nat → Int32) (saf : Nat → Int32) (btf : Nat → Int64) (pnf : Nat → Int32) (k : Int32) (d : Int32) (kc : Int32) (h_a : na < 60) (h_e : ne + nn ≤ 4000) : Int32 → va_W → Prop := fun (r : Int32) (u : va_W) => ∃ (bt2 : Nat → Int64) (pn2 : Nat → Int32), r = nI na ∧ (∀ j, j < ne → bt2 j = btf j) ∧ (∀ j, ne ≤ j → j < ne + nn → bt2 j = if d = 1 then 0 else -1) ∧ (bt2 = zz_mb btf d ne nn) ∧ (pn2 = zz_mp pnf ne nn) ∧ u = [cw_k7 h0 (nI (na + 1)) (nI (ne + nn)) a_kindOf a_depthOf a_lengthOf a_classOf a_baseOf a_bits a_pinned i_code a_lengths a_stackArray a_stackOther a_stackAt i_lastArray i_lastPlace a_path a_held a_alike a_hashes (nI nd) a_decisionArray a_decisionPlace a_candidateMany a_candidates (nI nr) a_ruleSort a_ruleArray a_ruleWeight a_ruleLow a_ruleHigh a_chosen a_bestOf (nI nm) a_markElements a_markBits a_markPins, cw_i g a_kindOf 60 (upd kdf na k), cw_i g a_depthOf 60 (upd dpf na d), cw_i g a_lengthOf 60 (upd lnf na (nI nn)), cw_i g a_classOf 60 (upd clf na kc), cw_i g a_baseOf 60 (upd saf na (nI ne)), cw_l g a_bits 4000 bt2, cw_z g a_pinned 4000 pn2]
set_option maxHeartbeats 4000000 in
set_option maxRecDepth 100000 in
theorem cm_make (g : zz_G) (h0 : Nat) (a_kindOf : Nat) (a_depthOf : Nat) (a_lengthOf : Nat) (a_classOf : Nat) (a_baseOf : Nat) (a_bits : Nat) (a_pinned : Nat) (a_lengths : Nat) (a_stackArray : Nat) (a_stackOther : Nat) (a_stackAt : Nat) (a_path : Nat) (a_held : Nat) (a_alike : Nat) (a_hashes : Nat) (a_decisionArray : Nat) (a_decisionPlace : Nat) (a_candidateMany : Nat) (a_candidates : Nat) (a_ruleSort : Nat) (a_ruleArray : Nat) (a_ruleWeight : Nat) (a_ruleLow : Nat) (a_ruleHigh : Nat) (a_chosen : Nat) (a_bestOf : Nat) (a_markElements : Nat) (a_markBits : Nat) (a_markPins : Nat) (na : Nat) (ne : Nat) (nd : Nat) (nr : Nat) (nm : Nat) (i_code : Int32) (i_lastArray : Int32) (i_lastPlace : Int32) (nn : Nat) (kdf : Nat → Int32) (dpf : Nat → Int32) (lnf : Nat → Int32) (clf : Nat → Int32) (saf : Nat → Int32) (btf : Nat → Int64) (pnf : Nat → Int32) (k : Int32) (d : Int32) (kc : Int32) (h_a : na < 60) (h_e : ne + nn ≤ 4000) : zz_I g yX8_make (.code yX8_make cX8_make 7 (some .int)) rm_cm_make [.ref h0, .int k, .int d, .int kc, .int (nI nn)] [cw_k7 h0 (nI na) (nI ne) a_kindOf a_depthOf a_lengthOf a_classOf a_baseOf a_bits a_pinned i_code a_lengths a_stackArray a_stackOther a_stackAt i_lastArray i_lastPlace a_path a_held a_alike a_hashes (nI nd) a_decisionArray a_decisionPlace a_candidateMany a_candidates (nI nr) a_ruleSort a_ruleArray a_ruleWeight a_ruleLow a_ruleHigh a_chosen a_bestOf (nI nm) a_markElements a_markBits a_markPins, cw_i g a_kindOf 60 kdf, cw_i g a_depthOf 60 dpf, cw_i g a_lengthOf 60 lnf, cw_i g a_classOf 60 clf, cw_i g a_baseOf 60 saf, cw_l g a_bits 4000 btf, cw_z g a_pinned 4000 pnf] (po_cm_make g h0 a_kindOf a_depthOf a_lengthOf a_classOf a_baseOf a_bits a_pinned a_lengths a_stackArray a_stackOther a_stackAt a_path a_held a_alike a_hashes a_decisionArray a_decisionPlace a_candidateMany a_candidates a_ruleSort a_ruleArray a_ruleWeight a_ruleLow a_ruleHigh a_chosen a_bestOf a_markElements a_markBits a_markPins na ne nd nr nm i_code i_lastArray i_lastPlace nn kdf dpf lnf clf saf btf pnf k d kc h_a h_e) := by
  refine zz_I.intro (own := RX8) (cc := cX8_make) (nL := 7) (by decide) rfl (Nat.le_of_ble_eq_true rfl) ?_
  intro p l e s m args below meth c A H locs ls hC hnm hs hZ hl
  obtain ⟨hx, hb, hml, hown, hts, hr, hlocks, hK⟩ := id hC
  have hl : lv_has ls 7 [(0, .ref h0), (1, .int k), (2, .int d), (3, .int kc), (4, .int (nI nn))] := hl
  have hZ : zz_Z g A s.heap [cw_k7 h0 (nI na) (nI ne) a_kindOf a_depthOf a_lengthOf a_classOf a_baseOf a_bits a_pinned i_code a_lengths a_stackArray a_stackOther a_stackAt i_lastArray i_lastPlace a_path a_held a_alike a_hashes (nI nd) a_decisionArray a_decisionPlace a_candidateMany a_candidates (nI nr) a_ruleSort a_ruleArray a_ruleWeight a_ruleLow a_ruleHigh a_chosen a_bestOf (nI nm) a_markElements a_markBits a_markPins, cw_i g a_kindOf 60 kdf, cw_i g a_depthOf 60 dpf, cw_i g a_lengthOf 60 lnf, cw_i g a_classOf 60 clf, cw_i g a_baseOf 60 saf, cw_l g a_bits 4000 btf, cw_z g a_pinned 4000 pnf] H locs := hZ
  refine lv_aload_n hx hb dX8_make_0 rfl (lv_at hl 0 rfl) ?_
  refine zz_get hC hZ 0 rfl zf_X8_103 rfl dX8_make_1 ?_
  refine lv_istore (lv' := [(5, .int (nI na)), (0, .ref h0), (1, .int k), (2, .int d), (3, .int kc), (4, .int (nI nn))]) hx hb dX8_make_4 hl (by decide) rfl (fun ls hl => ?_)
  refine lv_aload_n hx hb dX8_make_6 rfl (lv_at hl 1 rfl) ?_
  refine zz_get hC hZ 0 rfl zf_X8_7 rfl dX8_make_7 ?_
  refine lv_iload hx hb dX8_make_10 (lv_at hl 0 rfl) ?_
  refine lv_iload_n hx hb dX8_make_12 rfl (lv_at hl 2 rfl) ?_
  have bd1 : na < 60 := by omega
  refine zz_iastn hC hZ 1 rfl bd1 (by decide) dX8_make_13 (fun H locs hZ => ?_)
  have hZ : zz_Z g A s.heap [cw_k7 h0 (nI na) (nI ne) a_kindOf a_depthOf a_lengthOf a_classOf a_baseOf a_bits a_pinned i_code a_lengths a_stackArray a_stackOther a_stackAt i_lastArray i_lastPlace a_path a_held a_alike a_hashes (nI nd) a_decisionArray a_decisionPlace a_candidateMany a_candidates (nI nr) a_ruleSort a_ruleArray a_ruleWeight a_ruleLow a_ruleHigh a_chosen a_bestOf (nI nm) a_markElements a_markBits a_markPins, cw_i g a_kindOf 60 (upd kdf na k), cw_i g a_depthOf 60 dpf, cw_i g a_lengthOf 60 lnf, cw_i g a_classOf 60 clf, cw_i g a_baseOf 60 saf, cw_l g a_bits 4000 btf, cw_z g a_pinned 4000 pnf] H locs := hZ
  refine lv_aload_n hx hb dX8_make_14 rfl (lv_at hl 1 rfl) ?_
  refine zz_get hC hZ 0 rfl zf_X8_13 rfl dX8_make_15 ?_
  refine lv_iload hx hb dX8_make_18 (lv_at hl 0 rfl) ?_
  refine lv_iload_n hx hb dX8_make_20 rfl (lv_at hl 3 rfl) ?_
  refine zz_iastn hC hZ 2 rfl bd1 (by decide) dX8_make_21 (fun H locs hZ => ?_)
  have hZ : zz_Z g A s.heap [cw_k7 h0 (nI na) (nI ne) a_kindOf a_depthOf a_lengthOf a_classOf a_baseOf a_bits a_pinned i_code a_lengths a_stackArray a_stackOther a_stackAt i_lastArray i_lastPlace a_path a_held a_alike a_hashes (nI nd) a_decisionArray a_decisionPlace a_candidateMany a_candidates (nI nr) a_ruleSort a_ruleArray a_ruleWeight a_ruleLow a_ruleHigh a_chosen a_bestOf (nI nm) a_markElements a_markBits a_markPins, cw_i g a_kindOf 60 (upd kdf na k), cw_i g a_depthOf 60 (upd dpf na d), cw_i g a_lengthOf 60 lnf, cw_i g a_classOf 60 clf, cw_i g a_baseOf 60 saf, cw_l g a_bits 4000 btf, cw_z g a_pinned 4000 pnf] H locs := hZ
  refine lv_aload_n hx hb dX8_make_22 rfl (lv_at hl 1 rfl) ?_
  refine zz_get hC hZ 0 rfl zf_X8_19 rfl dX8_make_23 ?_
  refine lv_iload hx hb dX8_make_26 (lv_at hl 0 rfl) ?_
  refine lv_iload_n hx hb dX8_make_28 rfl (lv_at hl 4 rfl) ?_
  refine zz_iastn hC hZ 4 rfl bd1 (by decide) dX8_make_29 (fun H locs hZ => ?_)
  have hZ : zz_Z g A s.heap [cw_k7 h0 (nI na) (nI ne) a_kindOf a_depthOf a_lengthOf a_classOf a_baseOf a_bits a_pinned i_code a_lengths a_stackArray a_stackOther a_stackAt i_lastArray i_lastPlace a_path a_held a_alike a_hashes (nI nd) a_decisionArray a_decisionPlace a_candidateMany a_candidates (nI nr) a_ruleSort a_ruleArray a_ruleWeight a_ruleLow a_ruleHigh a_chosen a_bestOf (nI nm) a_markElements a_markBits a_markPins, cw_i g a_kindOf 60 (upd kdf na k), cw_i g a_depthOf 60 (upd dpf na d), cw_i g a_lengthOf 60 lnf, cw_i g a_classOf 60 (upd clf na kc), cw_i g a_baseOf 60 saf, cw_l g a_bits 4000 btf, cw_z g a_pinned 4000 pnf] H locs := hZ
  refine lv_aload_n hx hb dX8_make_30 rfl (lv_at hl 1 rfl) ?_
  refine zz_get hC hZ 0 rfl zf_X8_16 rfl dX8_make_31 ?_
  refine lv_iload hx hb dX8_make_34 (lv_at hl 0 rfl) ?_
  refine lv_iload hx hb dX8_make_36 (lv_at hl 5 rfl) ?_
  refine zz_iastn hC hZ 3 rfl bd1 (by decide) dX8_make_38 (fun H locs hZ => ?_)
  have hZ : zz_Z g A s.heap [cw_k7 h0 (nI na) (nI ne) a_kindOf a_depthOf a_lengthOf a_classOf a_baseOf a_bits a_pinned i_code a_lengths a_stackArray a_stackOther a_stackAt i_lastArray i_lastPlace a_path a_held a_alike a_hashes (nI nd) a_decisionArray a_decisionPlace a_candidateMany a_candidates (nI nr) a_ruleSort a_ruleArray a_ruleWeight a_ruleLow a_ruleHigh a_chosen a_bestOf (nI nm) a_markElements a_markBits a_markPins, cw_i g a_kindOf 60 (upd kdf na k), cw_i g a_depthOf 60 (upd dpf na d), cw_i g a_lengthOf 60 (upd lnf na (nI nn)), cw_i g a_classOf 60 (upd clf na kc), cw_i g a_baseOf 60 saf, cw_l g a_bits 4000 btf, cw_z g a_pinned 4000 pnf] H locs := hZ
  refine lv_aload_n hx hb dX8_make_39 rfl (lv_at hl 1 rfl) ?_
  refine zz_get hC hZ 0 rfl zf_X8_22 rfl dX8_make_40 ?_
  refine lv_iload hx hb dX8_make_43 (lv_at hl 0 rfl) ?_
  refine lv_aload_n hx hb dX8_make_45 rfl (lv_at hl 1 rfl) ?_
  refine zz_get hC hZ 0 rfl zf_X8_186 rfl dX8_make_46 ?_
  refine zz_iastn hC hZ 5 rfl bd1 (by decide) dX8_make_49 (fun H locs hZ => ?_)
  have hZ : zz_Z g A s.heap [cw_k7 h0 (nI na) (nI ne) a_kindOf a_depthOf a_lengthOf a_classOf a_baseOf a_bits a_pinned i_code a_lengths a_stackArray a_stackOther a_stackAt i_lastArray i_lastPlace a_path a_held a_alike a_hashes (nI nd) a_decisionArray a_decisionPlace a_candidateMany a_candidates (nI nr) a_ruleSort a_ruleArray a_ruleWeight a_ruleLow a_ruleHigh a_chosen a_bestOf (nI nm) a_markElements a_markBits a_markPins, cw_i g a_kindOf 60 (upd kdf na k), cw_i g a_depthOf 60 (upd dpf na d), cw_i g a_lengthOf 60 (upd lnf na (nI nn)), cw_i g a_classOf 60 (upd clf na kc), cw_i g a_baseOf 60 (upd saf na (nI ne)), cw_l g a_bits 4000 btf, cw_z g a_pinned 4000 pnf] H locs := hZ
  refine lv_aload_n hx hb dX8_make_50 rfl (lv_at hl 1 rfl) ?_
  refine zz_get hC hZ 0 rfl zf_X8_186 rfl dX8_make_51 ?_
  refine lv_istore (lv' := [(6, .int (nI ne)), (5, .int (nI na)), (0, .ref h0), (1, .int k), (2, .int d), (3, .int kc), (4, .int (nI nn))]) hx hb dX8_make_54 hl (by decide) rfl (fun ls hl => ?_)
  have LP2 : ∀ (N : Nat) (i : Nat) (bt : Nat → Int64) (pn : Nat → Int32) (H : Heap) (locs : List Loc) (ls : Array Slot), (ne ≤ i ∧ i ≤ ne + nn) → (∀ j, bt j = if ne ≤ j ∧ j < i then (if d = 1 then (0 : Int64) else -1) else btf j) → (∀ j, pn j = if ne ≤ j ∧ j < i then 0 else pnf j) → (ne + nn - i) < N → zz_Z g A s.heap [cw_k7 h0 (nI na) (nI ne) a_kindOf a_depthOf a_lengthOf a_classOf a_baseOf a_bits a_pinned i_code a_lengths a_stackArray a_stackOther a_stackAt i_lastArray i_lastPlace a_path a_held a_alike a_hashes (nI nd) a_decisionArray a_decisionPlace a_candidateMany a_candidates (nI nr) a_ruleSort a_ruleArray a_ruleWeight a_ruleLow a_ruleHigh a_chosen a_bestOf (nI nm) a_markElements a_markBits a_markPins, cw_i g a_kindOf 60 (upd kdf na k), cw_i g a_depthOf 60 (upd dpf na d), cw_i g a_lengthOf 60 (upd lnf na (nI nn)), cw_i g a_classOf 60 (upd clf na kc), cw_i g a_baseOf 60 (upd saf na (nI ne)), cw_l g a_bits 4000 bt, cw_z g a_pinned 4000 pn] H locs → lv_has ls 7 [(6, .int (nI i)), (5, .int (nI na)), (0, .ref h0), (1, .int k), (2, .int d), (3, .int kc), (4, .int (nI nn))] → W p l e rm_cm_make s m args below meth c H locs 0 0 (zz_QI below g args s A rm_cm_make.cells rm_cm_make.slots (po_cm_make g h0 a_kindOf a_depthOf a_lengthOf a_classOf a_baseOf a_bits a_pinned a_lengths a_stackArray a_stackOther a_stackAt a_path a_held a_alike a_hashes a_decisionArray a_decisionPlace a_candidateMany a_candidates a_ruleSort a_ruleArray a_ruleWeight a_ruleLow a_ruleHigh a_chosen a_bestOf a_markElements a_markBits a_markPins na ne nd nr nm i_code i_lastArray i_lastPlace nn kdf dpf lnf clf saf btf pnf k d kc h_a h_e)) (F0 m 56 ls []) := by
    intro N
    induction N with
    | zero =>
      intro i bt pn H locs ls h1 hbn hpn hN
      exact absurd hN (Nat.not_lt_zero _)
    | succ N ih =>
      intro i bt pn H locs ls h1 hbn hpn hN hZ hl
      refine lv_iload hx hb dX8_make_56 (lv_at hl 0 rfl) ?_
      refine lv_aload_n hx hb dX8_make_58 rfl (lv_at hl 2 rfl) ?_
      refine zz_get hC hZ 0 rfl zf_X8_186 rfl dX8_make_59 ?_
      refine lv_iload hx hb dX8_make_62 (lv_at hl 6 rfl) ?_
      refine lv_iadd hx hb dX8_make_64 ?_
      refine zz_topi (v := nI (ne + nn)) (nI_add _ _) ?_
      have bd4 : (ne + nn) < 2 ^ 31 := by omega
      have bd5 : i < 2 ^ 31 := by omega
      refine lv_icmp_ge (tgt := 101) hx hb dX8_make_65 (by decide) (fun c3 => ?_) (fun c3 => ?_)
      · have nc3 : (ne + nn) ≤ i := (nI_leI bd4 bd5).mp (show nI ((ne + nn)) ≤ nI (i) from c3)
        refine lv_aload_n hx hb dX8_make_101 rfl (lv_at hl 2 rfl) ?_
        refine lv_dup hx hb dX8_make_102 rfl ?_
        refine zz_get hC hZ 0 rfl zf_X8_186 rfl dX8_make_103 ?_
        refine lv_iload hx hb dX8_make_106 (lv_at hl 6 rfl) ?_
        refine lv_iadd hx hb dX8_make_108 ?_
        refine zz_topi (v := nI (ne + nn)) (nI_add _ _) ?_
        refine zz_put hC hZ 0 rfl zu_X8_186 (Nat.le_of_ble_eq_true rfl) dX8_make_109 (fun H locs hZ => ?_)
        have hZ : zz_Z g A s.heap [cw_k7 h0 (nI na) (nI (ne + nn)) a_kindOf a_depthOf a_lengthOf a_classOf a_baseOf a_bits a_pinned i_code a_lengths a_stackArray a_stackOther a_stackAt i_lastArray i_lastPlace a_path a_held a_alike a_hashes (nI nd) a_decisionArray a_decisionPlace a_candidateMany a_candidates (nI nr) a_ruleSort a_ruleArray a_ruleWeight a_ruleLow a_ruleHigh a_chosen a_bestOf (nI nm) a_markElements a_markBits a_markPins, cw_i g a_kindOf 60 (upd kdf na k), cw_i g a_depthOf 60 (upd dpf na d), cw_i g a_lengthOf 60 (upd lnf na (nI nn)), cw_i g a_classOf 60 (upd clf na kc), cw_i g a_baseOf 60 (upd saf na (nI ne)), cw_l g a_bits 4000 bt, cw_z g a_pinned 4000 pn] H locs := hZ
        refine lv_aload_n hx hb dX8_make_112 rfl (lv_at hl 2 rfl) ?_
        refine lv_dup hx hb dX8_make_113 rfl ?_
        refine zz_get hC hZ 0 rfl zf_X8_103 rfl dX8_make_114 ?_
        refine lv_iconst (v := 1) hx hb dX8_make_117 (by decide) ?_
        refine lv_iadd hx hb dX8_make_118 ?_
        refine zz_topi (v := nI (na + 1)) (nI_1 _) ?_
        refine zz_put hC hZ 0 rfl zu_X8_103 (Nat.le_of_ble_eq_true rfl) dX8_make_119 (fun H locs hZ => ?_)
        have hZ : zz_Z g A s.heap [cw_k7 h0 (nI (na + 1)) (nI (ne + nn)) a_kindOf a_depthOf a_lengthOf a_classOf a_baseOf a_bits a_pinned i_code a_lengths a_stackArray a_stackOther a_stackAt i_lastArray i_lastPlace a_path a_held a_alike a_hashes (nI nd) a_decisionArray a_decisionPlace a_candidateMany a_candidates (nI nr) a_ruleSort a_ruleArray a_ruleWeight a_ruleLow a_ruleHigh a_chosen a_bestOf (nI nm) a_markElements a_markBits a_markPins, cw_i g a_kindOf 60 (upd kdf na k), cw_i g a_depthOf 60 (upd dpf na d), cw_i g a_lengthOf 60 (upd lnf na (nI nn)), cw_i g a_classOf 60 (upd clf na kc), cw_i g a_baseOf 60 (upd saf na (nI ne)), cw_l g a_bits 4000 bt, cw_z g a_pinned 4000 pn] H locs := hZ
        refine lv_iload hx hb dX8_make_122 (lv_at hl 1 rfl) ?_
        exact zz_iret hC hZ (⟨bt, pn, rfl, fun j hj => (hbn j).trans (if_neg (by omega)), fun j h1 h2 => (hbn j).trans (if_pos ⟨h1, by omega⟩), funext fun j => by rw [hbn j, show i = ne + nn by omega]; rfl, funext fun j => by rw [hpn j, show i = ne + nn by omega]; rfl, rfl⟩) (Nat.le_of_ble_eq_true rfl) (Nat.le_of_ble_eq_true rfl) dX8_make_124
      · have nc3 : ¬ (ne + nn) ≤ i := fun zq => c3 (show nI ((ne + nn)) ≤ nI (i) from (nI_leI bd4 bd5).mpr zq)
        refine lv_aload_n hx hb dX8_make_68 rfl (lv_at hl 2 rfl) ?_
        refine zz_get hC hZ 0 rfl zf_X8_25 rfl dX8_make_69 ?_
        refine lv_iload hx hb dX8_make_72 (lv_at hl 0 rfl) ?_
        refine lv_iload_n hx hb dX8_make_74 rfl (lv_at hl 4 rfl) ?_
        refine lv_iconst (v := 1) hx hb dX8_make_75 (by decide) ?_
        refine lv_icmp_ne (tgt := 83) hx hb dX8_make_76 (by decide) (fun c6 => ?_) (fun c6 => ?_)
        · refine lv_ldc2 hx hb hown (hts _ zk_883) dX8_make_83 ?_
          have bd7 : i < 4000 := by omega
          refine zz_lastn hC hZ 6 rfl bd7 (by decide) dX8_make_86 (fun H locs hZ => ?_)
          have hZ : zz_Z g A s.heap [cw_k7 h0 (nI na) (nI ne) a_kindOf a_depthOf a_lengthOf a_classOf a_baseOf a_bits a_pinned i_code a_lengths a_stackArray a_stackOther a_stackAt i_lastArray i_lastPlace a_path a_held a_alike a_hashes (nI nd) a_decisionArray a_decisionPlace a_candidateMany a_candidates (nI nr) a_ruleSort a_ruleArray a_ruleWeight a_ruleLow a_ruleHigh a_chosen a_bestOf (nI nm) a_markElements a_markBits a_markPins, cw_i g a_kindOf 60 (upd kdf na k), cw_i g a_depthOf 60 (upd dpf na d), cw_i g a_lengthOf 60 (upd lnf na (nI nn)), cw_i g a_classOf 60 (upd clf na kc), cw_i g a_baseOf 60 (upd saf na (nI ne)), cw_l g a_bits 4000 (vp_updL bt i (-1)), cw_z g a_pinned 4000 pn] H locs := hZ
          refine lv_aload_n hx hb dX8_make_87 rfl (lv_at hl 2 rfl) ?_
          refine zz_get hC hZ 0 rfl zf_X8_29 rfl dX8_make_88 ?_
          refine lv_iload hx hb dX8_make_91 (lv_at hl 0 rfl) ?_
          refine lv_iconst (v := 0) hx hb dX8_make_93 (by decide) ?_
          refine zz_zastn hC hZ 7 rfl bd7 (by decide) dX8_make_94 (fun H locs hZ => ?_)
          have hZ : zz_Z g A s.heap [cw_k7 h0 (nI na) (nI ne) a_kindOf a_depthOf a_lengthOf a_classOf a_baseOf a_bits a_pinned i_code a_lengths a_stackArray a_stackOther a_stackAt i_lastArray i_lastPlace a_path a_held a_alike a_hashes (nI nd) a_decisionArray a_decisionPlace a_candidateMany a_candidates (nI nr) a_ruleSort a_ruleArray a_ruleWeight a_ruleLow a_ruleHigh a_chosen a_bestOf (nI nm) a_markElements a_markBits a_markPins, cw_i g a_kindOf 60 (upd kdf na k), cw_i g a_depthOf 60 (upd dpf na d), cw_i g a_lengthOf 60 (upd lnf na (nI nn)), cw_i g a_classOf 60 (upd clf na kc), cw_i g a_baseOf 60 (upd saf na (nI ne)), cw_l g a_bits 4000 (vp_updL bt i (-1)), cw_z g a_pinned 4000 (upd pn i (0 &&& 1))] H locs := hZ
          refine lv_iinc (v := nI (i + 1)) (lv' := [(6, .int (nI (i + 1))), (5, .int (nI na)), (0, .ref h0), (1, .int k), (2, .int d), (3, .int kc), (4, .int (nI nn))]) hx hb dX8_make_95 hl (k := 0) rfl (nI_1 _) (by decide) rfl (fun ls hl => ?_)
          refine lv_goto (tgt := 56) hx hb dX8_make_98 (by decide) ?_
          exact ih (i + 1) (vp_updL bt i (-1)) (upd pn i (0 &&& 1)) H locs ls (⟨by omega, by omega⟩) (zl_mbS (by omega) hbn (by rw [if_neg c6])) (zl_mpS (by omega) hpn (by decide)) (by omega) hZ (lv_sub hl [0, 1, 2, 3, 4, 5, 6] rfl)
        · refine lv_lconst (v := 0) hx hb dX8_make_79 (by decide) ?_
          refine lv_goto (tgt := 86) hx hb dX8_make_80 (by decide) ?_
          have bd8 : i < 4000 := by omega
          refine zz_lastn hC hZ 6 rfl bd8 (by decide) dX8_make_86 (fun H locs hZ => ?_)
          have hZ : zz_Z g A s.heap [cw_k7 h0 (nI na) (nI ne) a_kindOf a_depthOf a_lengthOf a_classOf a_baseOf a_bits a_pinned i_code a_lengths a_stackArray a_stackOther a_stackAt i_lastArray i_lastPlace a_path a_held a_alike a_hashes (nI nd) a_decisionArray a_decisionPlace a_candidateMany a_candidates (nI nr) a_ruleSort a_ruleArray a_ruleWeight a_ruleLow a_ruleHigh a_chosen a_bestOf (nI nm) a_markElements a_markBits a_markPins, cw_i g a_kindOf 60 (upd kdf na k), cw_i g a_depthOf 60 (upd dpf na d), cw_i g a_lengthOf 60 (upd lnf na (nI nn)), cw_i g a_classOf 60 (upd clf na kc), cw_i g a_baseOf 60 (upd saf na (nI ne)), cw_l g a_bits 4000 (vp_updL bt i 0), cw_z g a_pinned 4000 pn] H locs := hZ
          refine lv_aload_n hx hb dX8_make_87 rfl (lv_at hl 2 rfl) ?_
          refine zz_get hC hZ 0 rfl zf_X8_29 rfl dX8_make_88 ?_
          refine lv_iload hx hb dX8_make_91 (lv_at hl 0 rfl) ?_
          refine lv_iconst (v := 0) hx hb dX8_make_93 (by decide) ?_
          refine zz_zastn hC hZ 7 rfl bd8 (by decide) dX8_make_94 (fun H locs hZ => ?_)
          have hZ : zz_Z g A s.heap [cw_k7 h0 (nI na) (nI ne) a_kindOf a_depthOf a_lengthOf a_classOf a_baseOf a_bits a_pinned i_code a_lengths a_stackArray a_stackOther a_stackAt i_lastArray i_lastPlace a_path a_held a_alike a_hashes (nI nd) a_decisionArray a_decisionPlace a_candidateMany a_candidates (nI nr) a_ruleSort a_ruleArray a_ruleWeight a_ruleLow a_ruleHigh a_chosen a_bestOf (nI nm) a_markElements a_markBits a_markPins, cw_i g a_kindOf 60 (upd kdf na k), cw_i g a_depthOf 60 (upd dpf na d), cw_i g a_lengthOf 60 (upd lnf na (nI nn)), cw_i g a_classOf 60 (upd clf na kc), cw_i g a_baseOf 60 (upd saf na (nI ne)), cw_l g a_bits 4000 (vp_updL bt i 0), cw_z g a_pinned 4000 (upd pn i (0 &&& 1))] H locs := hZ
          refine lv_iinc (v := nI (i + 1)) (lv' := [(6, .int (nI (i + 1))), (5, .int (nI na)), (0, .ref h0), (1, .int k), (2, .int d), (3, .int kc), (4, .int (nI nn))]) hx hb dX8_make_95 hl (k := 0) rfl (nI_1 _) (by decide) rfl (fun ls hl => ?_)
          refine lv_goto (tgt := 56) hx hb dX8_make_98 (by decide) ?_
          exact ih (i + 1) (vp_updL bt i 0) (upd pn i (0 &&& 1)) H locs ls (⟨by omega, by omega⟩) (zl_mbS (by omega) hbn (by rw [if_pos c6])) (zl_mpS (by omega) hpn (by decide)) (by omega) hZ (lv_sub hl [0, 1, 2, 3, 4, 5, 6] rfl)
  exact LP2 _ ne btf pnf H locs ls (⟨Nat.le_refl _, by omega⟩) (fun j => (if_neg (by omega)).symm) (fun j => (if_neg (by omega)).symm) (Nat.lt_succ_self _) hZ (lv_sub hl [0, 1, 2, 3, 4, 5, 6] rfl)
theorem zl_mk1 {bt2 : Nat → Int64} {ne nn d : Nat} (hd : d ≤ 4) (h : ∀ j, ne ≤ j → j < ne + nn → bt2 j = if nI d = 1 then 0 else -1) : 1 < d → ∀ j, ne ≤ j → j < ne + nn → bt2 j = -1 := fun h1 j h2 h3 => by
  rw [h j h2 h3, if_neg]
  intro q
  have := (nI_eq (a := d) (b := 1) (by omega) (by decide)).mp q
  omega
