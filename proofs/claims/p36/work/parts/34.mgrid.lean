def zz_R (F : Nat → Nat) (ll av : Nat → Nat) : Nat → Nat
  | 0 => 0
  | L + 1 => zz_R F ll av L + (ll L - av L) * F (L + 1)
theorem zz_R_eq {F ll av av' : Nat → Nat} : ∀ {L : Nat}, (∀ j, j < L → av' j = av j) → zz_R F ll av' L = zz_R F ll av L
  | 0, _ => rfl
  | L + 1, h => by rw [zz_R, zz_R, zz_R_eq (fun j hj => h j (by omega)), h L (by omega)]
theorem zz_R_push {F ll av : Nat → Nat} {K t : Nat} (h : F (K + 1) = t + ll (K + 1) * F (K + 2)) (hav : av K < ll K) : zz_R F ll (zz_av av K) (K + 2) + t = zz_R F ll av (K + 1) := by
  have q0 : ∀ j, j < K → zz_av av K j = av j := by
    intro j hj
    have q1 : j ≠ K := by omega
    have q2 : j ≠ K + 1 := by omega
    simp [zz_av, q1, q2]
  rw [zz_R, zz_R, zz_R, zz_R_eq q0]
  have e1 : zz_av av K K = av K + 1 := by simp [zz_av]
  have e2 : zz_av av K (K + 1) = 0 := by simp [zz_av]
  rw [e1, e2, Nat.sub_zero, Nat.add_assoc, Nat.add_assoc]
  have e3 : (ll K - av K) = (ll K - (av K + 1)) + 1 := by omega
  have e4 : (ll K - av K) * F (K + 1) = (ll K - (av K + 1)) * F (K + 1) + F (K + 1) := by rw [e3, Nat.add_mul, Nat.one_mul]
  rw [e4]
  have e5 : ll (K + 1) * F (K + 1 + 1) = ll (K + 1) * F (K + 2) := rfl
  omega
def zz_In2 (ll av B : Nat → Nat) (dd na : Nat) (sk at' ln ba dp : Nat → Int32) (L : Nat) : Prop := ∀ j, j < L → ∃ sA : Nat, sk j = nI sA ∧ sA < na ∧ ln sA = nI (ll j) ∧ ba sA = nI (B j) ∧ B j + ll j ≤ 4000 ∧ at' j = nI (av j) ∧ av j ≤ ll j ∧ dp sA = nI (dd - j)
theorem zz_In2_pop {ll av B : Nat → Nat} {dd na : Nat} {sk at' ln ba dp : Nat → Int32} {K : Nat} (h : zz_In2 ll av B dd na sk at' ln ba dp (K + 1)) : zz_In2 ll av B dd na sk at' ln ba dp K := fun j hj => h j (by omega)
theorem zz_In2_init {ll : Nat → Nat} {dd na ne : Nat} {sk at' ln ba dp : Nat → Int32} (h : ne + ll 0 ≤ 4000) : zz_In2 ll (fun _ => 0) (fun _ => ne) dd (na + 1) (upd sk 0 (nI na)) (upd at' 0 0) (upd ln na (nI (ll 0))) (upd ba na (nI ne)) (upd dp na (nI dd)) 1 := by
  intro j hj
  have e : j = 0 := by omega
  subst e
  exact ⟨na, pk_us, by omega, pk_us, pk_us, h, pk_us, Nat.zero_le _, pk_us⟩
theorem zz_In2_push {ll av B : Nat → Nat} {dd na ne : Nat} {sk at' ln ba dp : Nat → Int32} {K : Nat} (h : zz_In2 ll av B dd na sk at' ln ba dp (K + 1)) (hav : av K < ll K) (he : ne + ll (K + 1) ≤ 4000) :
    zz_In2 ll (zz_av av K) (zz_Av B K ne) dd (na + 1) (upd sk (K + 1) (nI na)) (upd (upd at' K (nI (av K + 1))) (K + 1) 0) (upd ln na (nI (ll (K + 1)))) (upd ba na (nI ne)) (upd dp na (nI (dd - K - 1))) (K + 2) := by
  intro j hj
  by_cases h1 : j = K + 1
  · subst h1
    rw [zz_Av_n]
    refine ⟨na, pk_us, by omega, pk_us, pk_us, he, ?_, ?_, pk_us⟩
    · rw [pk_us]; simp [zz_av]; rfl
    · simp [zz_av]
  · obtain ⟨sA, i1, i2, i3, i4, i5, i6, i7, i8⟩ := h j (by omega)
    rw [zz_Av_lt (by omega)]
    refine ⟨sA, (pk_un h1).trans i1, by omega, (pk_un (by omega)).trans i3, (pk_un (by omega)).trans i4, i5, ?_, ?_, (pk_un (by omega)).trans i8⟩
    · rw [pk_un h1]
      by_cases h2 : j = K
      · subst h2; rw [pk_us]; simp [zz_av]
      · rw [pk_un h2, i6]; simp [zz_av, h1, h2]
    · by_cases h2 : j = K
      · subst h2; simp [zz_av]; omega
      · simp [zz_av, h1, h2]; exact i7
/-- a grid of the reference: rows are put into their places ahead of what is below them -/
def sp_mk (k d c : Int32) (n : Nat) (S : zz_S) : zz_S := (S.1 + 1, S.2.1 + n, upd S.2.2.1 S.1 k, upd S.2.2.2.1 S.1 d, upd S.2.2.2.2.1 S.1 c, upd S.2.2.2.2.2.1 S.1 (nI S.2.1), upd S.2.2.2.2.2.2.1 S.1 (nI n), zz_mb S.2.2.2.2.2.2.2 d S.2.1 n)
def sp_gm (F : Nat → zz_S → zz_S) (mk : zz_S → zz_S) (base : Nat) : Nat → Nat → zz_S → zz_S
  | 0, _, S => S
  | m + 1, i, S => sp_gm F mk base m (i + 1) (F S.2.1 (sp_set (base + i) (lN S.1) (mk S)))
def sp_gF (k : Int32) (ll : Nat → Nat) : Nat → Nat → Nat → Nat → Nat → zz_S → zz_S
  | 0, _, _, _, _, S => S
  | r + 1, t, base, m, i, S => sp_gm (fun b S => sp_gF k ll r (t + 1) b (ll (t + 1)) 0 S) (sp_mk k (nI (r + 1)) (-1) (ll (t + 1))) base m i S
def sp_fin (k : Int32) (ll : Nat → Nat) (dd : Nat) (B av : Nat → Nat) : Nat → zz_S → zz_S
  | 0, S => S
  | L + 1, S => sp_fin k ll dd B av L (sp_gF k ll (dd - L - 1) L (B L) (ll L - av L) (av L) S)
theorem sp_fin_eq {k : Int32} {ll : Nat → Nat} {dd : Nat} {B av B' av' : Nat → Nat} : ∀ {L : Nat} {S : zz_S}, (∀ j, j < L → B' j = B j ∧ av' j = av j) → sp_fin k ll dd B' av' L S = sp_fin k ll dd B av L S
  | 0, _, _ => rfl
  | L + 1, S, h => by rw [sp_fin, sp_fin, (h L (by omega)).1, (h L (by omega)).2, sp_fin_eq (fun j hj => h j (by omega))]
theorem sp_fin_pop {k : Int32} {ll : Nat → Nat} {dd K : Nat} {B av : Nat → Nat} {S : zz_S} (h : dd - K = 1 ∨ av K = ll K) : sp_fin k ll dd B av (K + 1) S = sp_fin k ll dd B av K S := by
  rw [sp_fin]
  congr 1
  rcases h with h | h
  · rw [show dd - K - 1 = 0 by omega, sp_gF]
  · rw [h, Nat.sub_self]
    cases dd - K - 1 with
    | zero => rw [sp_gF]
    | succ r => rw [sp_gF, sp_gm]
theorem sp_fin_push {k : Int32} {ll : Nat → Nat} {dd K : Nat} {B av : Nat → Nat} {S : zz_S} (h : 2 ≤ dd - K) (hav : av K < ll K) : sp_fin k ll dd B av (K + 1) S = sp_fin k ll dd (zz_Av B K S.2.1) (zz_av av K) (K + 2) (sp_set (B K + av K) (lN S.1) (sp_mk k (nI (dd - K - 1)) (-1) (ll (K + 1)) S)) := by
  obtain ⟨r, hr⟩ : ∃ r, dd - K - 1 = r + 1 := ⟨dd - K - 2, by omega⟩
  rw [sp_fin, sp_fin, sp_fin, sp_fin_eq (B := B) (av := av) (fun j hj => ⟨zz_Av_lt (by omega), zz_av_lt hj⟩), zz_Av_n, zz_av_n, zz_Av_lt (show K < K + 1 by omega), zz_av_s, show dd - (K + 1) - 1 = r by omega, hr, sp_gF, show ll K - av K = (ll K - (av K + 1)) + 1 by omega, sp_gm, sp_gF, Nat.sub_zero]
def zz_TF (ll : Nat → Nat) (dd : Nat) : Nat → Nat := fun j => zz_TT2 ll (dd - j) j
def zz_EF (ll : Nat → Nat) (dd : Nat) : Nat → Nat := fun j => zz_EE ll (dd - j) j
theorem zz_TF_r {ll : Nat → Nat} {dd j : Nat} (h : j < dd) : zz_TF ll dd j = 1 + ll j * zz_TF ll dd (j + 1) := by
  show zz_TT2 ll (dd - j) j = 1 + ll j * zz_TT2 ll (dd - (j + 1)) (j + 1)
  rw [show dd - j = (dd - (j + 1)) + 1 by omega, zz_TT2]
theorem zz_EF_r {ll : Nat → Nat} {dd j : Nat} (h : j < dd) : zz_EF ll dd j = ll j + ll j * zz_EF ll dd (j + 1) := by
  show zz_EE ll (dd - j) j = ll j + ll j * zz_EE ll (dd - (j + 1)) (j + 1)
  rw [show dd - j = (dd - (j + 1)) + 1 by omega, zz_EE]
theorem zz_R1T {ll : Nat → Nat} {dd : Nat} (h : 1 ≤ dd) : zz_R (zz_TF ll dd) ll (fun _ => 0) 1 + 1 = zz_TT2 ll dd 0 := by
  have : zz_TF ll dd 0 = 1 + ll 0 * zz_TF ll dd 1 := zz_TF_r (ll := ll) (dd := dd) (j := 0) (by omega)
  rw [zz_R, zz_R, Nat.sub_zero]
  show 0 + ll 0 * zz_TF ll dd 1 + 1 = zz_TF ll dd 0
  rw [this]; omega
theorem zz_R1E {ll : Nat → Nat} {dd : Nat} (h : 1 ≤ dd) : zz_R (zz_EF ll dd) ll (fun _ => 0) 1 + ll 0 = zz_EE ll dd 0 := by
  have : zz_EF ll dd 0 = ll 0 + ll 0 * zz_EF ll dd 1 := zz_EF_r (ll := ll) (dd := dd) (j := 0) (by omega)
  rw [zz_R, zz_R, Nat.sub_zero]
  show 0 + ll 0 * zz_EF ll dd 1 + ll 0 = zz_EF ll dd 0
  rw [this]; omega
theorem zl_or {a b : Int32} (h : a ||| b = 0) : a = 0 ∧ b = 0 := by
  have h1 : (a.toBitVec ||| b.toBitVec) = 0#32 := congrArg Int32.toBitVec h
  have h2 := BitVec.or_eq_zero_iff.mp h1
  exact ⟨Int32.toBitVec_inj.mp h2.1, Int32.toBitVec_inj.mp h2.2⟩
theorem zl_w14 {x : Int32} (h : ¬ fn_cm_within x.toInt64 1 4 = 0) : ∃ dd : Nat, 1 ≤ dd ∧ dd ≤ 4 ∧ x = nI dd := by
  obtain ⟨t, h1, h2, h3⟩ := zl_wi1 (f := 1) (n := 4) (by omega) (by omega) h
  exact ⟨t, h1, h2, h3⟩
theorem zl_roomG {ll : Nat → Nat} {dd na ne : Nat} {mn al ti : Int64} (h : zz_AC ll dd mn al ti) (h1 : 1 ≤ dd) (h4 : dd ≤ 4) (hna : na ≤ 60) (hne : ne ≤ 4000) (c1 : mn ≤ 60) (c2 : ¬ fn_cm_isRoom (nI na) (nI ne) mn.toInt32 al = 0) : na + zz_TT2 ll dd 0 ≤ 60 ∧ ne + zz_EE ll dd 0 ≤ 4000 := by
  obtain ⟨a1, a2, a3, a4⟩ := h
  obtain ⟨b1, b2⟩ := zl_Ab h4 a1
  obtain ⟨t1, t2⟩ := zl_tot (ll := ll) h1 h4
  have c1' : ¬ (60 : Int64) < mn := by
    rw [Int64.lt_iff_toInt_lt]; rw [Int64.le_iff_toInt_le] at c1; omega
  rw [a2, show (60 : Int64) = lN 60 by decide, pk_lLT (by decide) (by omega)] at c1'
  unfold fn_cm_isRoom at c2
  have g1 : ¬ (60 : Int32) < nI na + mn.toInt32 := fun q => c2 (if_pos q)
  have g2 : ¬ (4000 : Int64) < (nI ne).toInt64 + al := fun q => c2 (by rw [if_neg g1, if_pos q])
  rw [a2, lN_i, nI_add, show (60 : Int32) = nI 60 by decide, nI_ltI (by decide) (by omega)] at g1
  rw [a3, nI_l (show ne < 2 ^ 31 by omega), lN_add, show (4000 : Int64) = lN 4000 by decide, pk_lLT (by decide) (by omega)] at g2
  omega
theorem zl_mu0 {mu : Int32} {i : Nat} {ll : Nat → Nat} (h : mu = 0 ∨ ∃ j, j < i ∧ 200 < ll j) : mu ||| 0 = 0 ∨ ∃ j, j < i + 1 ∧ 200 < ll j := by
  rcases h with h | ⟨j, h1, h2⟩
  · exact Or.inl (by rw [h]; decide)
  · exact Or.inr ⟨j, by omega, h2⟩
theorem zl_mpA {pnf pn1 pn2 : Nat → Int32} {ne ne1 n : Nat} (h : pn1 = zz_mp pnf ne (ne1 - ne)) (h2 : pn2 = zz_mp pn1 ne1 n) (hn : ne ≤ ne1) : pn2 = zz_mp pnf ne (ne1 + n - ne) := by
  rw [h2, h]
  funext j
  unfold zz_mp
  by_cases q : ne1 ≤ j ∧ j < ne1 + n
  · rw [if_pos q, if_pos (by omega)]
  · rw [if_neg q]
    by_cases q2 : ne ≤ j ∧ j < ne + (ne1 - ne)
    · rw [if_pos q2, if_pos (by omega)]
    · rw [if_neg q2, if_neg (by omega)]
theorem zl_roomN {ll : Nat → Nat} {dd na ne : Nat} {mn al ti : Int64} (h : zz_AC ll dd mn al ti) (h4 : dd ≤ 4) (hna : na ≤ 60) (hne : ne ≤ 4000) (c : 60 < mn ∨ fn_cm_isRoom (nI na) (nI ne) mn.toInt32 al = 0) : ¬ zz_GF na ne ll dd := fun z => by
  obtain ⟨a1, a2, a3, a4⟩ := h
  obtain ⟨b1, b2⟩ := zl_Ab h4 a1
  obtain ⟨z1, z2, z3⟩ := z
  rcases c with c | c
  · rw [a2, show (60 : Int64) = lN 60 by decide, pk_lLT (by decide) (by omega)] at c; omega
  · refine absurd c ?_
    unfold fn_cm_isRoom
    rw [a2, a3, lN_i, nI_add, show (60 : Int32) = nI 60 by decide, nI_l (show ne < 2 ^ 31 by omega), lN_add, show (4000 : Int64) = lN 4000 by decide, if_neg (by rw [nI_ltI (by decide) (by omega)]; omega), if_neg (by rw [pk_lLT (by decide) (by omega)]; omega)]
    decide
theorem zl_roomG2 {ll : Nat → Nat} {dd na ne : Nat} (h1 : 1 ≤ dd) (h4 : dd ≤ 4) (hl : ∀ j, j < dd → ll j ≤ 200) (hT : na + zz_TT2 ll dd 0 ≤ 60) (hE : ne + zz_EE ll dd 0 ≤ 4000) : zz_GF na ne ll dd := by
  rw [(zl_tot h1 h4).1] at hT
  rw [(zl_tot h1 h4).2] at hE
  exact ⟨hl, hT, hE⟩
theorem zl_gV {x1 x2 : Int32} (h1 : ¬ fn_cm_within x1.toInt64 0 7 = 0) (h2 : ¬ fn_cm_within x2.toInt64 1 4 = 0) : 0 ≤ x1 ∧ x1 < 8 ∧ 1 ≤ x2 ∧ x2 ≤ 4 := by
  rw [zl_win] at h1 h2
  have e0 : (0 : Int64).toInt = 0 := by decide
  have e7 : (7 : Int64).toInt = 7 := by decide
  have e1 : (1 : Int64).toInt = 1 := by decide
  have e4 : (4 : Int64).toInt = 4 := by decide
  have f0 : (0 : Int32).toInt = 0 := by decide
  have f8 : (8 : Int32).toInt = 8 := by decide
  have f1 : (1 : Int32).toInt = 1 := by decide
  have f4 : (4 : Int32).toInt = 4 := by decide
  rw [Int32.le_iff_toInt_le, Int32.lt_iff_toInt_lt, Int32.le_iff_toInt_le, Int32.le_iff_toInt_le]
  omega
theorem zl_gW {x1 x2 : Int32} (h : fn_cm_within x1.toInt64 0 7 = 0 ∨ fn_cm_within x2.toInt64 1 4 = 0) : ¬ (0 ≤ x1 ∧ x1 < 8 ∧ 1 ≤ x2 ∧ x2 ≤ 4) := fun z => by
  rw [zl_win, zl_win] at h
  have e0 : (0 : Int64).toInt = 0 := by decide
  have e7 : (7 : Int64).toInt = 7 := by decide
  have e1 : (1 : Int64).toInt = 1 := by decide
  have e4 : (4 : Int64).toInt = 4 := by decide
  have f0 : (0 : Int32).toInt = 0 := by decide
  have f8 : (8 : Int32).toInt = 8 := by decide
  have f1 : (1 : Int32).toInt = 1 := by decide
  have f4 : (4 : Int32).toInt = 4 := by decide
  rw [Int32.le_iff_toInt_le, Int32.lt_iff_toInt_lt, Int32.le_iff_toInt_le, Int32.le_iff_toInt_le] at z
  omega
theorem zl_L0 {lev : Int32} {L : Nat} (h0 : lev = nI L + (-1)) (hL : L ≤ 4) (h : lev < 0) : L = 0 := by
  cases L with
  | zero => rfl
  | succ K =>
    rw [h0, pk_m1] at h
    exact absurd h (nI_pos (by omega))
theorem dg_X8_grid_0 : (decode cX8_grid 0 = .ok (.iload_n 1, 1)) ∧ (decode cX8_grid 1 = .ok (.i2l, 1)) ∧ (decode cX8_grid 2 = .ok (.lconst 0, 1)) ∧ (decode cX8_grid 3 = .ok (.ldc2_w 204, 3)) ∧ (decode cX8_grid 6 = .ok (.invokestatic 106, 3)) ∧ (decode cX8_grid 9 = .ok (.ifCond .eq 15, 3)) ∧ (decode cX8_grid 12 = .ok (.iload_n 2, 1)) ∧ (decode cX8_grid 13 = .ok (.i2l, 1)) ∧ (decode cX8_grid 14 = .ok (.lconst 1, 1)) ∧ (decode cX8_grid 15 = .ok (.ldc2_w 206, 3)) ∧ (decode cX8_grid 18 = .ok (.invokestatic 106, 3)) ∧ (decode cX8_grid 21 = .ok (.ifCond .ne 10, 3)) ∧ (decode cX8_grid 24 = .ok (.aload_n 0, 1)) ∧ (decode cX8_grid 25 = .ok (.bipush 9, 2)) ∧ (decode cX8_grid 27 = .ok (.invokevirtual 175, 3)) ∧ (decode cX8_grid 30 = .ok (.ireturn, 1)) := by decide +kernel
theorem dX8_grid_0 : decode cX8_grid 0 = .ok (.iload_n 1, 1) := dg_X8_grid_0.1
theorem dX8_grid_1 : decode cX8_grid 1 = .ok (.i2l, 1) := dg_X8_grid_0.2.1
theorem dX8_grid_2 : decode cX8_grid 2 = .ok (.lconst 0, 1) := dg_X8_grid_0.2.2.1
theorem dX8_grid_3 : decode cX8_grid 3 = .ok (.ldc2_w 204, 3) := dg_X8_grid_0.2.2.2.1
theorem dX8_grid_6 : decode cX8_grid 6 = .ok (.invokestatic 106, 3) := dg_X8_grid_0.2.2.2.2.1
theorem dX8_grid_9 : decode cX8_grid 9 = .ok (.ifCond .eq 15, 3) := dg_X8_grid_0.2.2.2.2.2.1
theorem dX8_grid_12 : decode cX8_grid 12 = .ok (.iload_n 2, 1) := dg_X8_grid_0.2.2.2.2.2.2.1
theorem dX8_grid_13 : decode cX8_grid 13 = .ok (.i2l, 1) := dg_X8_grid_0.2.2.2.2.2.2.2.1
theorem dX8_grid_14 : decode cX8_grid 14 = .ok (.lconst 1, 1) := dg_X8_grid_0.2.2.2.2.2.2.2.2.1
theorem dX8_grid_15 : decode cX8_grid 15 = .ok (.ldc2_w 206, 3) := dg_X8_grid_0.2.2.2.2.2.2.2.2.2.1
theorem dX8_grid_18 : decode cX8_grid 18 = .ok (.invokestatic 106, 3) := dg_X8_grid_0.2.2.2.2.2.2.2.2.2.2.1
theorem dX8_grid_21 : decode cX8_grid 21 = .ok (.ifCond .ne 10, 3) := dg_X8_grid_0.2.2.2.2.2.2.2.2.2.2.2.1
theorem dX8_grid_24 : decode cX8_grid 24 = .ok (.aload_n 0, 1) := dg_X8_grid_0.2.2.2.2.2.2.2.2.2.2.2.2.1
theorem dX8_grid_25 : decode cX8_grid 25 = .ok (.bipush 9, 2) := dg_X8_grid_0.2.2.2.2.2.2.2.2.2.2.2.2.2.1
theorem dX8_grid_27 : decode cX8_grid 27 = .ok (.invokevirtual 175, 3) := dg_X8_grid_0.2.2.2.2.2.2.2.2.2.2.2.2.2.2.1
theorem dX8_grid_30 : decode cX8_grid 30 = .ok (.ireturn, 1) := dg_X8_grid_0.2.2.2.2.2.2.2.2.2.2.2.2.2.2.2
theorem dg_X8_grid_31 : (decode cX8_grid 31 = .ok (.aload_n 0, 1)) ∧ (decode cX8_grid 32 = .ok (.getfield 33, 3)) ∧ (decode cX8_grid 35 = .ok (.iconst 0, 1)) ∧ (decode cX8_grid 36 = .ok (.iload_n 3, 1)) ∧ (decode cX8_grid 37 = .ok (.iastore, 1)) ∧ (decode cX8_grid 38 = .ok (.aload_n 0, 1)) ∧ (decode cX8_grid 39 = .ok (.getfield 33, 3)) ∧ (decode cX8_grid 42 = .ok (.iconst 1, 1)) ∧ (decode cX8_grid 43 = .ok (.iload 4, 2)) ∧ (decode cX8_grid 45 = .ok (.iastore, 1)) ∧ (decode cX8_grid 46 = .ok (.aload_n 0, 1)) ∧ (decode cX8_grid 47 = .ok (.getfield 33, 3)) ∧ (decode cX8_grid 50 = .ok (.iconst 2, 1)) ∧ (decode cX8_grid 51 = .ok (.iload 5, 2)) ∧ (decode cX8_grid 53 = .ok (.iastore, 1)) ∧ (decode cX8_grid 54 = .ok (.aload_n 0, 1)) := by decide +kernel
theorem dX8_grid_31 : decode cX8_grid 31 = .ok (.aload_n 0, 1) := dg_X8_grid_31.1
theorem dX8_grid_32 : decode cX8_grid 32 = .ok (.getfield 33, 3) := dg_X8_grid_31.2.1
theorem dX8_grid_35 : decode cX8_grid 35 = .ok (.iconst 0, 1) := dg_X8_grid_31.2.2.1
theorem dX8_grid_36 : decode cX8_grid 36 = .ok (.iload_n 3, 1) := dg_X8_grid_31.2.2.2.1
theorem dX8_grid_37 : decode cX8_grid 37 = .ok (.iastore, 1) := dg_X8_grid_31.2.2.2.2.1
theorem dX8_grid_38 : decode cX8_grid 38 = .ok (.aload_n 0, 1) := dg_X8_grid_31.2.2.2.2.2.1
theorem dX8_grid_39 : decode cX8_grid 39 = .ok (.getfield 33, 3) := dg_X8_grid_31.2.2.2.2.2.2.1
theorem dX8_grid_42 : decode cX8_grid 42 = .ok (.iconst 1, 1) := dg_X8_grid_31.2.2.2.2.2.2.2.1
theorem dX8_grid_43 : decode cX8_grid 43 = .ok (.iload 4, 2) := dg_X8_grid_31.2.2.2.2.2.2.2.2.1
theorem dX8_grid_45 : decode cX8_grid 45 = .ok (.iastore, 1) := dg_X8_grid_31.2.2.2.2.2.2.2.2.2.1
theorem dX8_grid_46 : decode cX8_grid 46 = .ok (.aload_n 0, 1) := dg_X8_grid_31.2.2.2.2.2.2.2.2.2.2.1
theorem dX8_grid_47 : decode cX8_grid 47 = .ok (.getfield 33, 3) := dg_X8_grid_31.2.2.2.2.2.2.2.2.2.2.2.1
theorem dX8_grid_50 : decode cX8_grid 50 = .ok (.iconst 2, 1) := dg_X8_grid_31.2.2.2.2.2.2.2.2.2.2.2.2.1
theorem dX8_grid_51 : decode cX8_grid 51 = .ok (.iload 5, 2) := dg_X8_grid_31.2.2.2.2.2.2.2.2.2.2.2.2.2.1
theorem dX8_grid_53 : decode cX8_grid 53 = .ok (.iastore, 1) := dg_X8_grid_31.2.2.2.2.2.2.2.2.2.2.2.2.2.2.1
theorem dX8_grid_54 : decode cX8_grid 54 = .ok (.aload_n 0, 1) := dg_X8_grid_31.2.2.2.2.2.2.2.2.2.2.2.2.2.2.2
theorem dg_X8_grid_55 : (decode cX8_grid 55 = .ok (.getfield 33, 3)) ∧ (decode cX8_grid 58 = .ok (.iconst 3, 1)) ∧ (decode cX8_grid 59 = .ok (.iload 6, 2)) ∧ (decode cX8_grid 61 = .ok (.iastore, 1)) ∧ (decode cX8_grid 62 = .ok (.lconst 0, 1)) ∧ (decode cX8_grid 63 = .ok (.lstore 7, 2)) ∧ (decode cX8_grid 65 = .ok (.lconst 0, 1)) ∧ (decode cX8_grid 66 = .ok (.lstore 9, 2)) ∧ (decode cX8_grid 68 = .ok (.lconst 1, 1)) ∧ (decode cX8_grid 69 = .ok (.lstore 11, 2)) ∧ (decode cX8_grid 71 = .ok (.iconst 0, 1)) ∧ (decode cX8_grid 72 = .ok (.istore 13, 2)) ∧ (decode cX8_grid 74 = .ok (.iconst 0, 1)) ∧ (decode cX8_grid 75 = .ok (.istore 14, 2)) ∧ (decode cX8_grid 77 = .ok (.iload 14, 2)) ∧ (decode cX8_grid 79 = .ok (.iload_n 2, 1)) := by decide +kernel
theorem dX8_grid_55 : decode cX8_grid 55 = .ok (.getfield 33, 3) := dg_X8_grid_55.1
theorem dX8_grid_58 : decode cX8_grid 58 = .ok (.iconst 3, 1) := dg_X8_grid_55.2.1
theorem dX8_grid_59 : decode cX8_grid 59 = .ok (.iload 6, 2) := dg_X8_grid_55.2.2.1
theorem dX8_grid_61 : decode cX8_grid 61 = .ok (.iastore, 1) := dg_X8_grid_55.2.2.2.1
theorem dX8_grid_62 : decode cX8_grid 62 = .ok (.lconst 0, 1) := dg_X8_grid_55.2.2.2.2.1
theorem dX8_grid_63 : decode cX8_grid 63 = .ok (.lstore 7, 2) := dg_X8_grid_55.2.2.2.2.2.1
theorem dX8_grid_65 : decode cX8_grid 65 = .ok (.lconst 0, 1) := dg_X8_grid_55.2.2.2.2.2.2.1
theorem dX8_grid_66 : decode cX8_grid 66 = .ok (.lstore 9, 2) := dg_X8_grid_55.2.2.2.2.2.2.2.1
theorem dX8_grid_68 : decode cX8_grid 68 = .ok (.lconst 1, 1) := dg_X8_grid_55.2.2.2.2.2.2.2.2.1
theorem dX8_grid_69 : decode cX8_grid 69 = .ok (.lstore 11, 2) := dg_X8_grid_55.2.2.2.2.2.2.2.2.2.1
theorem dX8_grid_71 : decode cX8_grid 71 = .ok (.iconst 0, 1) := dg_X8_grid_55.2.2.2.2.2.2.2.2.2.2.1
theorem dX8_grid_72 : decode cX8_grid 72 = .ok (.istore 13, 2) := dg_X8_grid_55.2.2.2.2.2.2.2.2.2.2.2.1
theorem dX8_grid_74 : decode cX8_grid 74 = .ok (.iconst 0, 1) := dg_X8_grid_55.2.2.2.2.2.2.2.2.2.2.2.2.1
theorem dX8_grid_75 : decode cX8_grid 75 = .ok (.istore 14, 2) := dg_X8_grid_55.2.2.2.2.2.2.2.2.2.2.2.2.2.1
theorem dX8_grid_77 : decode cX8_grid 77 = .ok (.iload 14, 2) := dg_X8_grid_55.2.2.2.2.2.2.2.2.2.2.2.2.2.2.1
theorem dX8_grid_79 : decode cX8_grid 79 = .ok (.iload_n 2, 1) := dg_X8_grid_55.2.2.2.2.2.2.2.2.2.2.2.2.2.2.2
theorem dg_X8_grid_80 : (decode cX8_grid 80 = .ok (.if_icmp .ge 25, 3)) ∧ (decode cX8_grid 83 = .ok (.aload_n 0, 1)) ∧ (decode cX8_grid 84 = .ok (.getfield 33, 3)) ∧ (decode cX8_grid 87 = .ok (.iload 14, 2)) ∧ (decode cX8_grid 89 = .ok (.iaload, 1)) ∧ (decode cX8_grid 90 = .ok (.ifCond .ge 9, 3)) ∧ (decode cX8_grid 93 = .ok (.aload_n 0, 1)) ∧ (decode cX8_grid 94 = .ok (.iconst 4, 1)) ∧ (decode cX8_grid 95 = .ok (.invokevirtual 175, 3)) ∧ (decode cX8_grid 98 = .ok (.ireturn, 1)) ∧ (decode cX8_grid 99 = .ok (.iinc 14 1, 3)) ∧ (decode cX8_grid 102 = .ok (.goto (-25), 3)) ∧ (decode cX8_grid 105 = .ok (.iconst 0, 1)) ∧ (decode cX8_grid 106 = .ok (.istore 14, 2)) ∧ (decode cX8_grid 108 = .ok (.iload 14, 2)) ∧ (decode cX8_grid 110 = .ok (.iload_n 2, 1)) := by decide +kernel
theorem dX8_grid_80 : decode cX8_grid 80 = .ok (.if_icmp .ge 25, 3) := dg_X8_grid_80.1
theorem dX8_grid_83 : decode cX8_grid 83 = .ok (.aload_n 0, 1) := dg_X8_grid_80.2.1
theorem dX8_grid_84 : decode cX8_grid 84 = .ok (.getfield 33, 3) := dg_X8_grid_80.2.2.1
theorem dX8_grid_87 : decode cX8_grid 87 = .ok (.iload 14, 2) := dg_X8_grid_80.2.2.2.1
theorem dX8_grid_89 : decode cX8_grid 89 = .ok (.iaload, 1) := dg_X8_grid_80.2.2.2.2.1
theorem dX8_grid_90 : decode cX8_grid 90 = .ok (.ifCond .ge 9, 3) := dg_X8_grid_80.2.2.2.2.2.1
theorem dX8_grid_93 : decode cX8_grid 93 = .ok (.aload_n 0, 1) := dg_X8_grid_80.2.2.2.2.2.2.1
theorem dX8_grid_94 : decode cX8_grid 94 = .ok (.iconst 4, 1) := dg_X8_grid_80.2.2.2.2.2.2.2.1
theorem dX8_grid_95 : decode cX8_grid 95 = .ok (.invokevirtual 175, 3) := dg_X8_grid_80.2.2.2.2.2.2.2.2.1
theorem dX8_grid_98 : decode cX8_grid 98 = .ok (.ireturn, 1) := dg_X8_grid_80.2.2.2.2.2.2.2.2.2.1
theorem dX8_grid_99 : decode cX8_grid 99 = .ok (.iinc 14 1, 3) := dg_X8_grid_80.2.2.2.2.2.2.2.2.2.2.1
theorem dX8_grid_102 : decode cX8_grid 102 = .ok (.goto (-25), 3) := dg_X8_grid_80.2.2.2.2.2.2.2.2.2.2.2.1
theorem dX8_grid_105 : decode cX8_grid 105 = .ok (.iconst 0, 1) := dg_X8_grid_80.2.2.2.2.2.2.2.2.2.2.2.2.1
theorem dX8_grid_106 : decode cX8_grid 106 = .ok (.istore 14, 2) := dg_X8_grid_80.2.2.2.2.2.2.2.2.2.2.2.2.2.1
theorem dX8_grid_108 : decode cX8_grid 108 = .ok (.iload 14, 2) := dg_X8_grid_80.2.2.2.2.2.2.2.2.2.2.2.2.2.2.1
theorem dX8_grid_110 : decode cX8_grid 110 = .ok (.iload_n 2, 1) := dg_X8_grid_80.2.2.2.2.2.2.2.2.2.2.2.2.2.2.2
theorem dg_X8_grid_111 : (decode cX8_grid 111 = .ok (.if_icmp .ge 68, 3)) ∧ (decode cX8_grid 114 = .ok (.iload 13, 2)) ∧ (decode cX8_grid 116 = .ok (.aload_n 0, 1)) ∧ (decode cX8_grid 117 = .ok (.getfield 33, 3)) ∧ (decode cX8_grid 120 = .ok (.iload 14, 2)) ∧ (decode cX8_grid 122 = .ok (.iaload, 1)) ∧ (decode cX8_grid 123 = .ok (.sipush 200, 3)) ∧ (decode cX8_grid 126 = .ok (.if_icmp .le 7, 3)) ∧ (decode cX8_grid 129 = .ok (.iconst 1, 1)) ∧ (decode cX8_grid 130 = .ok (.goto 4, 3)) ∧ (decode cX8_grid 133 = .ok (.iconst 0, 1)) ∧ (decode cX8_grid 134 = .ok (.ior, 1)) ∧ (decode cX8_grid 135 = .ok (.istore 13, 2)) ∧ (decode cX8_grid 137 = .ok (.lload 7, 2)) ∧ (decode cX8_grid 139 = .ok (.lload 11, 2)) ∧ (decode cX8_grid 141 = .ok (.ladd, 1)) := by decide +kernel
theorem dX8_grid_111 : decode cX8_grid 111 = .ok (.if_icmp .ge 68, 3) := dg_X8_grid_111.1
theorem dX8_grid_114 : decode cX8_grid 114 = .ok (.iload 13, 2) := dg_X8_grid_111.2.1
theorem dX8_grid_116 : decode cX8_grid 116 = .ok (.aload_n 0, 1) := dg_X8_grid_111.2.2.1
theorem dX8_grid_117 : decode cX8_grid 117 = .ok (.getfield 33, 3) := dg_X8_grid_111.2.2.2.1
theorem dX8_grid_120 : decode cX8_grid 120 = .ok (.iload 14, 2) := dg_X8_grid_111.2.2.2.2.1
theorem dX8_grid_122 : decode cX8_grid 122 = .ok (.iaload, 1) := dg_X8_grid_111.2.2.2.2.2.1
theorem dX8_grid_123 : decode cX8_grid 123 = .ok (.sipush 200, 3) := dg_X8_grid_111.2.2.2.2.2.2.1
theorem dX8_grid_126 : decode cX8_grid 126 = .ok (.if_icmp .le 7, 3) := dg_X8_grid_111.2.2.2.2.2.2.2.1
theorem dX8_grid_129 : decode cX8_grid 129 = .ok (.iconst 1, 1) := dg_X8_grid_111.2.2.2.2.2.2.2.2.1
theorem dX8_grid_130 : decode cX8_grid 130 = .ok (.goto 4, 3) := dg_X8_grid_111.2.2.2.2.2.2.2.2.2.1
theorem dX8_grid_133 : decode cX8_grid 133 = .ok (.iconst 0, 1) := dg_X8_grid_111.2.2.2.2.2.2.2.2.2.2.1
theorem dX8_grid_134 : decode cX8_grid 134 = .ok (.ior, 1) := dg_X8_grid_111.2.2.2.2.2.2.2.2.2.2.2.1
theorem dX8_grid_135 : decode cX8_grid 135 = .ok (.istore 13, 2) := dg_X8_grid_111.2.2.2.2.2.2.2.2.2.2.2.2.1
theorem dX8_grid_137 : decode cX8_grid 137 = .ok (.lload 7, 2) := dg_X8_grid_111.2.2.2.2.2.2.2.2.2.2.2.2.2.1
theorem dX8_grid_139 : decode cX8_grid 139 = .ok (.lload 11, 2) := dg_X8_grid_111.2.2.2.2.2.2.2.2.2.2.2.2.2.2.1
theorem dX8_grid_141 : decode cX8_grid 141 = .ok (.ladd, 1) := dg_X8_grid_111.2.2.2.2.2.2.2.2.2.2.2.2.2.2.2
theorem dg_X8_grid_142 : (decode cX8_grid 142 = .ok (.lstore 7, 2)) ∧ (decode cX8_grid 144 = .ok (.lload 9, 2)) ∧ (decode cX8_grid 146 = .ok (.lload 11, 2)) ∧ (decode cX8_grid 148 = .ok (.aload_n 0, 1)) ∧ (decode cX8_grid 149 = .ok (.getfield 33, 3)) ∧ (decode cX8_grid 152 = .ok (.iload 14, 2)) ∧ (decode cX8_grid 154 = .ok (.iaload, 1)) ∧ (decode cX8_grid 155 = .ok (.i2l, 1)) ∧ (decode cX8_grid 156 = .ok (.lmul, 1)) ∧ (decode cX8_grid 157 = .ok (.ladd, 1)) ∧ (decode cX8_grid 158 = .ok (.lstore 9, 2)) ∧ (decode cX8_grid 160 = .ok (.lload 11, 2)) ∧ (decode cX8_grid 162 = .ok (.aload_n 0, 1)) ∧ (decode cX8_grid 163 = .ok (.getfield 33, 3)) ∧ (decode cX8_grid 166 = .ok (.iload 14, 2)) ∧ (decode cX8_grid 168 = .ok (.iaload, 1)) := by decide +kernel
theorem dX8_grid_142 : decode cX8_grid 142 = .ok (.lstore 7, 2) := dg_X8_grid_142.1
theorem dX8_grid_144 : decode cX8_grid 144 = .ok (.lload 9, 2) := dg_X8_grid_142.2.1
theorem dX8_grid_146 : decode cX8_grid 146 = .ok (.lload 11, 2) := dg_X8_grid_142.2.2.1
theorem dX8_grid_148 : decode cX8_grid 148 = .ok (.aload_n 0, 1) := dg_X8_grid_142.2.2.2.1
theorem dX8_grid_149 : decode cX8_grid 149 = .ok (.getfield 33, 3) := dg_X8_grid_142.2.2.2.2.1
theorem dX8_grid_152 : decode cX8_grid 152 = .ok (.iload 14, 2) := dg_X8_grid_142.2.2.2.2.2.1
theorem dX8_grid_154 : decode cX8_grid 154 = .ok (.iaload, 1) := dg_X8_grid_142.2.2.2.2.2.2.1
theorem dX8_grid_155 : decode cX8_grid 155 = .ok (.i2l, 1) := dg_X8_grid_142.2.2.2.2.2.2.2.1
theorem dX8_grid_156 : decode cX8_grid 156 = .ok (.lmul, 1) := dg_X8_grid_142.2.2.2.2.2.2.2.2.1
theorem dX8_grid_157 : decode cX8_grid 157 = .ok (.ladd, 1) := dg_X8_grid_142.2.2.2.2.2.2.2.2.2.1
theorem dX8_grid_158 : decode cX8_grid 158 = .ok (.lstore 9, 2) := dg_X8_grid_142.2.2.2.2.2.2.2.2.2.2.1
theorem dX8_grid_160 : decode cX8_grid 160 = .ok (.lload 11, 2) := dg_X8_grid_142.2.2.2.2.2.2.2.2.2.2.2.1
theorem dX8_grid_162 : decode cX8_grid 162 = .ok (.aload_n 0, 1) := dg_X8_grid_142.2.2.2.2.2.2.2.2.2.2.2.2.1
theorem dX8_grid_163 : decode cX8_grid 163 = .ok (.getfield 33, 3) := dg_X8_grid_142.2.2.2.2.2.2.2.2.2.2.2.2.2.1
theorem dX8_grid_166 : decode cX8_grid 166 = .ok (.iload 14, 2) := dg_X8_grid_142.2.2.2.2.2.2.2.2.2.2.2.2.2.2.1
theorem dX8_grid_168 : decode cX8_grid 168 = .ok (.iaload, 1) := dg_X8_grid_142.2.2.2.2.2.2.2.2.2.2.2.2.2.2.2
theorem dg_X8_grid_169 : (decode cX8_grid 169 = .ok (.i2l, 1)) ∧ (decode cX8_grid 170 = .ok (.lmul, 1)) ∧ (decode cX8_grid 171 = .ok (.lstore 11, 2)) ∧ (decode cX8_grid 173 = .ok (.iinc 14 1, 3)) ∧ (decode cX8_grid 176 = .ok (.goto (-68), 3)) ∧ (decode cX8_grid 179 = .ok (.iload 13, 2)) ∧ (decode cX8_grid 181 = .ok (.ifCond .ne 24, 3)) ∧ (decode cX8_grid 184 = .ok (.lload 7, 2)) ∧ (decode cX8_grid 186 = .ok (.ldc2_w 208, 3)) ∧ (decode cX8_grid 189 = .ok (.lcmp, 1)) ∧ (decode cX8_grid 190 = .ok (.ifCond .gt 15, 3)) ∧ (decode cX8_grid 193 = .ok (.aload_n 0, 1)) ∧ (decode cX8_grid 194 = .ok (.lload 7, 2)) ∧ (decode cX8_grid 196 = .ok (.l2i, 1)) ∧ (decode cX8_grid 197 = .ok (.lload 9, 2)) ∧ (decode cX8_grid 199 = .ok (.invokevirtual 191, 3)) := by decide +kernel
theorem dX8_grid_169 : decode cX8_grid 169 = .ok (.i2l, 1) := dg_X8_grid_169.1
theorem dX8_grid_170 : decode cX8_grid 170 = .ok (.lmul, 1) := dg_X8_grid_169.2.1
theorem dX8_grid_171 : decode cX8_grid 171 = .ok (.lstore 11, 2) := dg_X8_grid_169.2.2.1
theorem dX8_grid_173 : decode cX8_grid 173 = .ok (.iinc 14 1, 3) := dg_X8_grid_169.2.2.2.1
theorem dX8_grid_176 : decode cX8_grid 176 = .ok (.goto (-68), 3) := dg_X8_grid_169.2.2.2.2.1
theorem dX8_grid_179 : decode cX8_grid 179 = .ok (.iload 13, 2) := dg_X8_grid_169.2.2.2.2.2.1
theorem dX8_grid_181 : decode cX8_grid 181 = .ok (.ifCond .ne 24, 3) := dg_X8_grid_169.2.2.2.2.2.2.1
theorem dX8_grid_184 : decode cX8_grid 184 = .ok (.lload 7, 2) := dg_X8_grid_169.2.2.2.2.2.2.2.1
theorem dX8_grid_186 : decode cX8_grid 186 = .ok (.ldc2_w 208, 3) := dg_X8_grid_169.2.2.2.2.2.2.2.2.1
theorem dX8_grid_189 : decode cX8_grid 189 = .ok (.lcmp, 1) := dg_X8_grid_169.2.2.2.2.2.2.2.2.2.1
theorem dX8_grid_190 : decode cX8_grid 190 = .ok (.ifCond .gt 15, 3) := dg_X8_grid_169.2.2.2.2.2.2.2.2.2.2.1
theorem dX8_grid_193 : decode cX8_grid 193 = .ok (.aload_n 0, 1) := dg_X8_grid_169.2.2.2.2.2.2.2.2.2.2.2.1
theorem dX8_grid_194 : decode cX8_grid 194 = .ok (.lload 7, 2) := dg_X8_grid_169.2.2.2.2.2.2.2.2.2.2.2.2.1
theorem dX8_grid_196 : decode cX8_grid 196 = .ok (.l2i, 1) := dg_X8_grid_169.2.2.2.2.2.2.2.2.2.2.2.2.2.1
theorem dX8_grid_197 : decode cX8_grid 197 = .ok (.lload 9, 2) := dg_X8_grid_169.2.2.2.2.2.2.2.2.2.2.2.2.2.2.1
theorem dX8_grid_199 : decode cX8_grid 199 = .ok (.invokevirtual 191, 3) := dg_X8_grid_169.2.2.2.2.2.2.2.2.2.2.2.2.2.2.2
theorem dg_X8_grid_202 : (decode cX8_grid 202 = .ok (.ifCond .ne 10, 3)) ∧ (decode cX8_grid 205 = .ok (.aload_n 0, 1)) ∧ (decode cX8_grid 206 = .ok (.bipush 8, 2)) ∧ (decode cX8_grid 208 = .ok (.invokevirtual 175, 3)) ∧ (decode cX8_grid 211 = .ok (.ireturn, 1)) ∧ (decode cX8_grid 212 = .ok (.aload_n 0, 1)) ∧ (decode cX8_grid 213 = .ok (.getfield 103, 3)) ∧ (decode cX8_grid 216 = .ok (.istore 14, 2)) ∧ (decode cX8_grid 218 = .ok (.aload_n 0, 1)) ∧ (decode cX8_grid 219 = .ok (.iload_n 1, 1)) ∧ (decode cX8_grid 220 = .ok (.iload_n 2, 1)) ∧ (decode cX8_grid 221 = .ok (.iconst (-1), 1)) ∧ (decode cX8_grid 222 = .ok (.aload_n 0, 1)) ∧ (decode cX8_grid 223 = .ok (.getfield 33, 3)) ∧ (decode cX8_grid 226 = .ok (.iconst 0, 1)) ∧ (decode cX8_grid 227 = .ok (.iaload, 1)) := by decide +kernel
theorem dX8_grid_202 : decode cX8_grid 202 = .ok (.ifCond .ne 10, 3) := dg_X8_grid_202.1
theorem dX8_grid_205 : decode cX8_grid 205 = .ok (.aload_n 0, 1) := dg_X8_grid_202.2.1
theorem dX8_grid_206 : decode cX8_grid 206 = .ok (.bipush 8, 2) := dg_X8_grid_202.2.2.1
theorem dX8_grid_208 : decode cX8_grid 208 = .ok (.invokevirtual 175, 3) := dg_X8_grid_202.2.2.2.1
theorem dX8_grid_211 : decode cX8_grid 211 = .ok (.ireturn, 1) := dg_X8_grid_202.2.2.2.2.1
theorem dX8_grid_212 : decode cX8_grid 212 = .ok (.aload_n 0, 1) := dg_X8_grid_202.2.2.2.2.2.1
theorem dX8_grid_213 : decode cX8_grid 213 = .ok (.getfield 103, 3) := dg_X8_grid_202.2.2.2.2.2.2.1
theorem dX8_grid_216 : decode cX8_grid 216 = .ok (.istore 14, 2) := dg_X8_grid_202.2.2.2.2.2.2.2.1
theorem dX8_grid_218 : decode cX8_grid 218 = .ok (.aload_n 0, 1) := dg_X8_grid_202.2.2.2.2.2.2.2.2.1
theorem dX8_grid_219 : decode cX8_grid 219 = .ok (.iload_n 1, 1) := dg_X8_grid_202.2.2.2.2.2.2.2.2.2.1
theorem dX8_grid_220 : decode cX8_grid 220 = .ok (.iload_n 2, 1) := dg_X8_grid_202.2.2.2.2.2.2.2.2.2.2.1
theorem dX8_grid_221 : decode cX8_grid 221 = .ok (.iconst (-1), 1) := dg_X8_grid_202.2.2.2.2.2.2.2.2.2.2.2.1
theorem dX8_grid_222 : decode cX8_grid 222 = .ok (.aload_n 0, 1) := dg_X8_grid_202.2.2.2.2.2.2.2.2.2.2.2.2.1
theorem dX8_grid_223 : decode cX8_grid 223 = .ok (.getfield 33, 3) := dg_X8_grid_202.2.2.2.2.2.2.2.2.2.2.2.2.2.1
theorem dX8_grid_226 : decode cX8_grid 226 = .ok (.iconst 0, 1) := dg_X8_grid_202.2.2.2.2.2.2.2.2.2.2.2.2.2.2.1
theorem dX8_grid_227 : decode cX8_grid 227 = .ok (.iaload, 1) := dg_X8_grid_202.2.2.2.2.2.2.2.2.2.2.2.2.2.2.2
theorem dg_X8_grid_228 : (decode cX8_grid 228 = .ok (.invokevirtual 194, 3)) ∧ (decode cX8_grid 231 = .ok (.istore 15, 2)) ∧ (decode cX8_grid 233 = .ok (.iconst 0, 1)) ∧ (decode cX8_grid 234 = .ok (.istore 16, 2)) ∧ (decode cX8_grid 236 = .ok (.aload_n 0, 1)) ∧ (decode cX8_grid 237 = .ok (.getfield 36, 3)) ∧ (decode cX8_grid 240 = .ok (.iconst 0, 1)) ∧ (decode cX8_grid 241 = .ok (.iload 15, 2)) ∧ (decode cX8_grid 243 = .ok (.iastore, 1)) ∧ (decode cX8_grid 244 = .ok (.aload_n 0, 1)) ∧ (decode cX8_grid 245 = .ok (.getfield 42, 3)) ∧ (decode cX8_grid 248 = .ok (.iconst 0, 1)) ∧ (decode cX8_grid 249 = .ok (.iconst 0, 1)) ∧ (decode cX8_grid 250 = .ok (.iastore, 1)) ∧ (decode cX8_grid 251 = .ok (.iload 16, 2)) ∧ (decode cX8_grid 253 = .ok (.ifCond .lt 123, 3)) := by decide +kernel
theorem dX8_grid_228 : decode cX8_grid 228 = .ok (.invokevirtual 194, 3) := dg_X8_grid_228.1
theorem dX8_grid_231 : decode cX8_grid 231 = .ok (.istore 15, 2) := dg_X8_grid_228.2.1
theorem dX8_grid_233 : decode cX8_grid 233 = .ok (.iconst 0, 1) := dg_X8_grid_228.2.2.1
theorem dX8_grid_234 : decode cX8_grid 234 = .ok (.istore 16, 2) := dg_X8_grid_228.2.2.2.1
theorem dX8_grid_236 : decode cX8_grid 236 = .ok (.aload_n 0, 1) := dg_X8_grid_228.2.2.2.2.1
theorem dX8_grid_237 : decode cX8_grid 237 = .ok (.getfield 36, 3) := dg_X8_grid_228.2.2.2.2.2.1
theorem dX8_grid_240 : decode cX8_grid 240 = .ok (.iconst 0, 1) := dg_X8_grid_228.2.2.2.2.2.2.1
theorem dX8_grid_241 : decode cX8_grid 241 = .ok (.iload 15, 2) := dg_X8_grid_228.2.2.2.2.2.2.2.1
theorem dX8_grid_243 : decode cX8_grid 243 = .ok (.iastore, 1) := dg_X8_grid_228.2.2.2.2.2.2.2.2.1
theorem dX8_grid_244 : decode cX8_grid 244 = .ok (.aload_n 0, 1) := dg_X8_grid_228.2.2.2.2.2.2.2.2.2.1
theorem dX8_grid_245 : decode cX8_grid 245 = .ok (.getfield 42, 3) := dg_X8_grid_228.2.2.2.2.2.2.2.2.2.2.1
theorem dX8_grid_248 : decode cX8_grid 248 = .ok (.iconst 0, 1) := dg_X8_grid_228.2.2.2.2.2.2.2.2.2.2.2.1
theorem dX8_grid_249 : decode cX8_grid 249 = .ok (.iconst 0, 1) := dg_X8_grid_228.2.2.2.2.2.2.2.2.2.2.2.2.1
theorem dX8_grid_250 : decode cX8_grid 250 = .ok (.iastore, 1) := dg_X8_grid_228.2.2.2.2.2.2.2.2.2.2.2.2.2.1
theorem dX8_grid_251 : decode cX8_grid 251 = .ok (.iload 16, 2) := dg_X8_grid_228.2.2.2.2.2.2.2.2.2.2.2.2.2.2.1
theorem dX8_grid_253 : decode cX8_grid 253 = .ok (.ifCond .lt 123, 3) := dg_X8_grid_228.2.2.2.2.2.2.2.2.2.2.2.2.2.2.2
theorem dg_X8_grid_256 : (decode cX8_grid 256 = .ok (.aload_n 0, 1)) ∧ (decode cX8_grid 257 = .ok (.getfield 36, 3)) ∧ (decode cX8_grid 260 = .ok (.iload 16, 2)) ∧ (decode cX8_grid 262 = .ok (.iaload, 1)) ∧ (decode cX8_grid 263 = .ok (.istore 17, 2)) ∧ (decode cX8_grid 265 = .ok (.iload 16, 2)) ∧ (decode cX8_grid 267 = .ok (.iload_n 2, 1)) ∧ (decode cX8_grid 268 = .ok (.iconst 1, 1)) ∧ (decode cX8_grid 269 = .ok (.isub, 1)) ∧ (decode cX8_grid 270 = .ok (.if_icmp .eq 20, 3)) ∧ (decode cX8_grid 273 = .ok (.aload_n 0, 1)) ∧ (decode cX8_grid 274 = .ok (.getfield 42, 3)) ∧ (decode cX8_grid 277 = .ok (.iload 16, 2)) ∧ (decode cX8_grid 279 = .ok (.iaload, 1)) ∧ (decode cX8_grid 280 = .ok (.aload_n 0, 1)) ∧ (decode cX8_grid 281 = .ok (.getfield 16, 3)) := by decide +kernel
theorem dX8_grid_256 : decode cX8_grid 256 = .ok (.aload_n 0, 1) := dg_X8_grid_256.1
theorem dX8_grid_257 : decode cX8_grid 257 = .ok (.getfield 36, 3) := dg_X8_grid_256.2.1
theorem dX8_grid_260 : decode cX8_grid 260 = .ok (.iload 16, 2) := dg_X8_grid_256.2.2.1
theorem dX8_grid_262 : decode cX8_grid 262 = .ok (.iaload, 1) := dg_X8_grid_256.2.2.2.1
theorem dX8_grid_263 : decode cX8_grid 263 = .ok (.istore 17, 2) := dg_X8_grid_256.2.2.2.2.1
theorem dX8_grid_265 : decode cX8_grid 265 = .ok (.iload 16, 2) := dg_X8_grid_256.2.2.2.2.2.1
theorem dX8_grid_267 : decode cX8_grid 267 = .ok (.iload_n 2, 1) := dg_X8_grid_256.2.2.2.2.2.2.1
theorem dX8_grid_268 : decode cX8_grid 268 = .ok (.iconst 1, 1) := dg_X8_grid_256.2.2.2.2.2.2.2.1
theorem dX8_grid_269 : decode cX8_grid 269 = .ok (.isub, 1) := dg_X8_grid_256.2.2.2.2.2.2.2.2.1
theorem dX8_grid_270 : decode cX8_grid 270 = .ok (.if_icmp .eq 20, 3) := dg_X8_grid_256.2.2.2.2.2.2.2.2.2.1
theorem dX8_grid_273 : decode cX8_grid 273 = .ok (.aload_n 0, 1) := dg_X8_grid_256.2.2.2.2.2.2.2.2.2.2.1
theorem dX8_grid_274 : decode cX8_grid 274 = .ok (.getfield 42, 3) := dg_X8_grid_256.2.2.2.2.2.2.2.2.2.2.2.1
theorem dX8_grid_277 : decode cX8_grid 277 = .ok (.iload 16, 2) := dg_X8_grid_256.2.2.2.2.2.2.2.2.2.2.2.2.1
theorem dX8_grid_279 : decode cX8_grid 279 = .ok (.iaload, 1) := dg_X8_grid_256.2.2.2.2.2.2.2.2.2.2.2.2.2.1
theorem dX8_grid_280 : decode cX8_grid 280 = .ok (.aload_n 0, 1) := dg_X8_grid_256.2.2.2.2.2.2.2.2.2.2.2.2.2.2.1
theorem dX8_grid_281 : decode cX8_grid 281 = .ok (.getfield 16, 3) := dg_X8_grid_256.2.2.2.2.2.2.2.2.2.2.2.2.2.2.2
theorem dg_X8_grid_284 : (decode cX8_grid 284 = .ok (.iload 17, 2)) ∧ (decode cX8_grid 286 = .ok (.iaload, 1)) ∧ (decode cX8_grid 287 = .ok (.if_icmp .ne 9, 3)) ∧ (decode cX8_grid 290 = .ok (.iinc 16 (-1), 3)) ∧ (decode cX8_grid 293 = .ok (.goto (-42), 3)) ∧ (decode cX8_grid 296 = .ok (.aload_n 0, 1)) ∧ (decode cX8_grid 297 = .ok (.iload_n 1, 1)) ∧ (decode cX8_grid 298 = .ok (.iload_n 2, 1)) ∧ (decode cX8_grid 299 = .ok (.iload 16, 2)) ∧ (decode cX8_grid 301 = .ok (.isub, 1)) ∧ (decode cX8_grid 302 = .ok (.iconst 1, 1)) ∧ (decode cX8_grid 303 = .ok (.isub, 1)) ∧ (decode cX8_grid 304 = .ok (.iconst (-1), 1)) ∧ (decode cX8_grid 305 = .ok (.aload_n 0, 1)) ∧ (decode cX8_grid 306 = .ok (.getfield 33, 3)) ∧ (decode cX8_grid 309 = .ok (.iload 16, 2)) := by decide +kernel
theorem dX8_grid_284 : decode cX8_grid 284 = .ok (.iload 17, 2) := dg_X8_grid_284.1
theorem dX8_grid_286 : decode cX8_grid 286 = .ok (.iaload, 1) := dg_X8_grid_284.2.1
theorem dX8_grid_287 : decode cX8_grid 287 = .ok (.if_icmp .ne 9, 3) := dg_X8_grid_284.2.2.1
theorem dX8_grid_290 : decode cX8_grid 290 = .ok (.iinc 16 (-1), 3) := dg_X8_grid_284.2.2.2.1
theorem dX8_grid_293 : decode cX8_grid 293 = .ok (.goto (-42), 3) := dg_X8_grid_284.2.2.2.2.1
theorem dX8_grid_296 : decode cX8_grid 296 = .ok (.aload_n 0, 1) := dg_X8_grid_284.2.2.2.2.2.1
theorem dX8_grid_297 : decode cX8_grid 297 = .ok (.iload_n 1, 1) := dg_X8_grid_284.2.2.2.2.2.2.1
theorem dX8_grid_298 : decode cX8_grid 298 = .ok (.iload_n 2, 1) := dg_X8_grid_284.2.2.2.2.2.2.2.1
theorem dX8_grid_299 : decode cX8_grid 299 = .ok (.iload 16, 2) := dg_X8_grid_284.2.2.2.2.2.2.2.2.1
theorem dX8_grid_301 : decode cX8_grid 301 = .ok (.isub, 1) := dg_X8_grid_284.2.2.2.2.2.2.2.2.2.1
theorem dX8_grid_302 : decode cX8_grid 302 = .ok (.iconst 1, 1) := dg_X8_grid_284.2.2.2.2.2.2.2.2.2.2.1
theorem dX8_grid_303 : decode cX8_grid 303 = .ok (.isub, 1) := dg_X8_grid_284.2.2.2.2.2.2.2.2.2.2.2.1
theorem dX8_grid_304 : decode cX8_grid 304 = .ok (.iconst (-1), 1) := dg_X8_grid_284.2.2.2.2.2.2.2.2.2.2.2.2.1
theorem dX8_grid_305 : decode cX8_grid 305 = .ok (.aload_n 0, 1) := dg_X8_grid_284.2.2.2.2.2.2.2.2.2.2.2.2.2.1
theorem dX8_grid_306 : decode cX8_grid 306 = .ok (.getfield 33, 3) := dg_X8_grid_284.2.2.2.2.2.2.2.2.2.2.2.2.2.2.1
theorem dX8_grid_309 : decode cX8_grid 309 = .ok (.iload 16, 2) := dg_X8_grid_284.2.2.2.2.2.2.2.2.2.2.2.2.2.2.2
theorem dg_X8_grid_311 : (decode cX8_grid 311 = .ok (.iconst 1, 1)) ∧ (decode cX8_grid 312 = .ok (.iadd, 1)) ∧ (decode cX8_grid 313 = .ok (.iaload, 1)) ∧ (decode cX8_grid 314 = .ok (.invokevirtual 194, 3)) ∧ (decode cX8_grid 317 = .ok (.istore 18, 2)) ∧ (decode cX8_grid 319 = .ok (.aload_n 0, 1)) ∧ (decode cX8_grid 320 = .ok (.getfield 25, 3)) ∧ (decode cX8_grid 323 = .ok (.aload_n 0, 1)) ∧ (decode cX8_grid 324 = .ok (.getfield 22, 3)) ∧ (decode cX8_grid 327 = .ok (.iload 17, 2)) ∧ (decode cX8_grid 329 = .ok (.iaload, 1)) ∧ (decode cX8_grid 330 = .ok (.aload_n 0, 1)) ∧ (decode cX8_grid 331 = .ok (.getfield 42, 3)) ∧ (decode cX8_grid 334 = .ok (.iload 16, 2)) ∧ (decode cX8_grid 336 = .ok (.iaload, 1)) ∧ (decode cX8_grid 337 = .ok (.iadd, 1)) := by decide +kernel
theorem dX8_grid_311 : decode cX8_grid 311 = .ok (.iconst 1, 1) := dg_X8_grid_311.1
theorem dX8_grid_312 : decode cX8_grid 312 = .ok (.iadd, 1) := dg_X8_grid_311.2.1
theorem dX8_grid_313 : decode cX8_grid 313 = .ok (.iaload, 1) := dg_X8_grid_311.2.2.1
theorem dX8_grid_314 : decode cX8_grid 314 = .ok (.invokevirtual 194, 3) := dg_X8_grid_311.2.2.2.1
theorem dX8_grid_317 : decode cX8_grid 317 = .ok (.istore 18, 2) := dg_X8_grid_311.2.2.2.2.1
theorem dX8_grid_319 : decode cX8_grid 319 = .ok (.aload_n 0, 1) := dg_X8_grid_311.2.2.2.2.2.1
theorem dX8_grid_320 : decode cX8_grid 320 = .ok (.getfield 25, 3) := dg_X8_grid_311.2.2.2.2.2.2.1
theorem dX8_grid_323 : decode cX8_grid 323 = .ok (.aload_n 0, 1) := dg_X8_grid_311.2.2.2.2.2.2.2.1
theorem dX8_grid_324 : decode cX8_grid 324 = .ok (.getfield 22, 3) := dg_X8_grid_311.2.2.2.2.2.2.2.2.1
theorem dX8_grid_327 : decode cX8_grid 327 = .ok (.iload 17, 2) := dg_X8_grid_311.2.2.2.2.2.2.2.2.2.1
theorem dX8_grid_329 : decode cX8_grid 329 = .ok (.iaload, 1) := dg_X8_grid_311.2.2.2.2.2.2.2.2.2.2.1
theorem dX8_grid_330 : decode cX8_grid 330 = .ok (.aload_n 0, 1) := dg_X8_grid_311.2.2.2.2.2.2.2.2.2.2.2.1
theorem dX8_grid_331 : decode cX8_grid 331 = .ok (.getfield 42, 3) := dg_X8_grid_311.2.2.2.2.2.2.2.2.2.2.2.2.1
theorem dX8_grid_334 : decode cX8_grid 334 = .ok (.iload 16, 2) := dg_X8_grid_311.2.2.2.2.2.2.2.2.2.2.2.2.2.1
theorem dX8_grid_336 : decode cX8_grid 336 = .ok (.iaload, 1) := dg_X8_grid_311.2.2.2.2.2.2.2.2.2.2.2.2.2.2.1
theorem dX8_grid_337 : decode cX8_grid 337 = .ok (.iadd, 1) := dg_X8_grid_311.2.2.2.2.2.2.2.2.2.2.2.2.2.2.2
theorem dg_X8_grid_338 : (decode cX8_grid 338 = .ok (.iload 18, 2)) ∧ (decode cX8_grid 340 = .ok (.i2l, 1)) ∧ (decode cX8_grid 341 = .ok (.lastore, 1)) ∧ (decode cX8_grid 342 = .ok (.aload_n 0, 1)) ∧ (decode cX8_grid 343 = .ok (.getfield 42, 3)) ∧ (decode cX8_grid 346 = .ok (.iload 16, 2)) ∧ (decode cX8_grid 348 = .ok (.dup2, 1)) ∧ (decode cX8_grid 349 = .ok (.iaload, 1)) ∧ (decode cX8_grid 350 = .ok (.iconst 1, 1)) ∧ (decode cX8_grid 351 = .ok (.iadd, 1)) ∧ (decode cX8_grid 352 = .ok (.iastore, 1)) ∧ (decode cX8_grid 353 = .ok (.iinc 16 1, 3)) ∧ (decode cX8_grid 356 = .ok (.aload_n 0, 1)) ∧ (decode cX8_grid 357 = .ok (.getfield 36, 3)) ∧ (decode cX8_grid 360 = .ok (.iload 16, 2)) ∧ (decode cX8_grid 362 = .ok (.iload 18, 2)) := by decide +kernel
theorem dX8_grid_338 : decode cX8_grid 338 = .ok (.iload 18, 2) := dg_X8_grid_338.1
theorem dX8_grid_340 : decode cX8_grid 340 = .ok (.i2l, 1) := dg_X8_grid_338.2.1
theorem dX8_grid_341 : decode cX8_grid 341 = .ok (.lastore, 1) := dg_X8_grid_338.2.2.1
theorem dX8_grid_342 : decode cX8_grid 342 = .ok (.aload_n 0, 1) := dg_X8_grid_338.2.2.2.1
theorem dX8_grid_343 : decode cX8_grid 343 = .ok (.getfield 42, 3) := dg_X8_grid_338.2.2.2.2.1
theorem dX8_grid_346 : decode cX8_grid 346 = .ok (.iload 16, 2) := dg_X8_grid_338.2.2.2.2.2.1
theorem dX8_grid_348 : decode cX8_grid 348 = .ok (.dup2, 1) := dg_X8_grid_338.2.2.2.2.2.2.1
theorem dX8_grid_349 : decode cX8_grid 349 = .ok (.iaload, 1) := dg_X8_grid_338.2.2.2.2.2.2.2.1
theorem dX8_grid_350 : decode cX8_grid 350 = .ok (.iconst 1, 1) := dg_X8_grid_338.2.2.2.2.2.2.2.2.1
theorem dX8_grid_351 : decode cX8_grid 351 = .ok (.iadd, 1) := dg_X8_grid_338.2.2.2.2.2.2.2.2.2.1
theorem dX8_grid_352 : decode cX8_grid 352 = .ok (.iastore, 1) := dg_X8_grid_338.2.2.2.2.2.2.2.2.2.2.1
theorem dX8_grid_353 : decode cX8_grid 353 = .ok (.iinc 16 1, 3) := dg_X8_grid_338.2.2.2.2.2.2.2.2.2.2.2.1
theorem dX8_grid_356 : decode cX8_grid 356 = .ok (.aload_n 0, 1) := dg_X8_grid_338.2.2.2.2.2.2.2.2.2.2.2.2.1
theorem dX8_grid_357 : decode cX8_grid 357 = .ok (.getfield 36, 3) := dg_X8_grid_338.2.2.2.2.2.2.2.2.2.2.2.2.2.1
theorem dX8_grid_360 : decode cX8_grid 360 = .ok (.iload 16, 2) := dg_X8_grid_338.2.2.2.2.2.2.2.2.2.2.2.2.2.2.1
theorem dX8_grid_362 : decode cX8_grid 362 = .ok (.iload 18, 2) := dg_X8_grid_338.2.2.2.2.2.2.2.2.2.2.2.2.2.2.2
theorem dg_X8_grid_364 : (decode cX8_grid 364 = .ok (.iastore, 1)) ∧ (decode cX8_grid 365 = .ok (.aload_n 0, 1)) ∧ (decode cX8_grid 366 = .ok (.getfield 42, 3)) ∧ (decode cX8_grid 369 = .ok (.iload 16, 2)) ∧ (decode cX8_grid 371 = .ok (.iconst 0, 1)) ∧ (decode cX8_grid 372 = .ok (.iastore, 1)) ∧ (decode cX8_grid 373 = .ok (.goto (-122), 3)) ∧ (decode cX8_grid 376 = .ok (.aload_n 0, 1)) ∧ (decode cX8_grid 377 = .ok (.iload 14, 2)) ∧ (decode cX8_grid 379 = .ok (.invokevirtual 183, 3)) ∧ (decode cX8_grid 382 = .ok (.ireturn, 1)) := by decide +kernel
theorem dX8_grid_364 : decode cX8_grid 364 = .ok (.iastore, 1) := dg_X8_grid_364.1
theorem dX8_grid_365 : decode cX8_grid 365 = .ok (.aload_n 0, 1) := dg_X8_grid_364.2.1
theorem dX8_grid_366 : decode cX8_grid 366 = .ok (.getfield 42, 3) := dg_X8_grid_364.2.2.1
theorem dX8_grid_369 : decode cX8_grid 369 = .ok (.iload 16, 2) := dg_X8_grid_364.2.2.2.1
theorem dX8_grid_371 : decode cX8_grid 371 = .ok (.iconst 0, 1) := dg_X8_grid_364.2.2.2.2.1
theorem dX8_grid_372 : decode cX8_grid 372 = .ok (.iastore, 1) := dg_X8_grid_364.2.2.2.2.2.1
theorem dX8_grid_373 : decode cX8_grid 373 = .ok (.goto (-122), 3) := dg_X8_grid_364.2.2.2.2.2.2.1
theorem dX8_grid_376 : decode cX8_grid 376 = .ok (.aload_n 0, 1) := dg_X8_grid_364.2.2.2.2.2.2.2.1
theorem dX8_grid_377 : decode cX8_grid 377 = .ok (.iload 14, 2) := dg_X8_grid_364.2.2.2.2.2.2.2.2.1
theorem dX8_grid_379 : decode cX8_grid 379 = .ok (.invokevirtual 183, 3) := dg_X8_grid_364.2.2.2.2.2.2.2.2.2.1
theorem dX8_grid_382 : decode cX8_grid 382 = .ok (.ireturn, 1) := dg_X8_grid_364.2.2.2.2.2.2.2.2.2.2
theorem zk_902 : Cond.constantLong RX8 206 (4) ∈ zz_w := zz_in (List.mem_append_right _ (List.mem_append_right _ (List.mem_append_right _ (List.mem_append_right _ (List.mem_append_left _ (List.mem_of_getElem? (i := 182) (by decide +kernel))))))) rfl
theorem zf_X8_33 : zz_f RX8 33 7 10 := ⟨RX8, TX8, 37, rfl, zi_X8, by decide, zk_745⟩
theorem zk_903 : Cond.constantLong RX8 208 (60) ∈ zz_w := zz_in (List.mem_append_right _ (List.mem_append_right _ (List.mem_append_right _ (List.mem_append_right _ (List.mem_append_left _ (List.mem_of_getElem? (i := 183) (by decide +kernel))))))) rfl
theorem zf_X8_36 : zz_f RX8 36 7 11 := ⟨RX8, TX8, 37, rfl, zi_X8, by decide, zk_746⟩
theorem zf_X8_42 : zz_f RX8 42 7 13 := ⟨RX8, TX8, 37, rfl, zi_X8, by decide, zk_748⟩
abbrev rm_my_grid : Room := { frames := 1, cells := 0, slots := 0, locals := 26 }
abbrev po_my_grid (g : zz_G) (h0 : Nat) (a_kindOf : Nat) (a_depthOf : Nat) (a_lengthOf : Nat) (a_classOf : Nat) (a_baseOf : Nat) (a_bits : Nat) (a_pinned : Nat) (a_lengths : Nat) (a_stackArray : Nat) (a_stackOther : Nat) (a_stackAt : Nat) (a_path : Nat) (a_held : Nat) (a_alike : Nat) (a_hashes : Nat) (a_decisionArray : Nat) (a_decisionPlace : Nat) (a_candidateMany : Nat) (a_candidates : Nat) (a_ruleSort : Nat) (a_ruleArray : Nat) (a_ruleWeight : Nat) (a_ruleLow : Nat) (a_ruleHigh : Nat) (a_chosen : Nat) (a_bestOf : Nat) (a_markElements : Nat) (a_markBits : Nat) (a_markPins : Nat) (na : Nat) (ne : Nat) (nd : Nat) (nr : Nat) (nm : Nat) (i_code : Int32) (i_lastArray : Int32) (i_lastPlace : Int32) (kdf : Nat → Int32) (dpf : Nat → Int32) (lnf : Nat → Int32) (clf : Nat → Int32) (saf : Nat → Int32) (btf : Nat → Int64) (pnf : Nat → Int32) (mlf : Nat → Int32) (skf : Nat → Int32) (atf : Nat → Int32) (x1 : Int32) (x2 : Int32) (x3 : Int32) (x4 : Int32) (x5 : Int32) (x6 : Int32) (h_M : zz_MI na ne dpf saf lnf btf) : Int32 → va_W → Prop := fun (r : Int32) (u : va_W) => ∃ (k_c : Int32) (k_a : Int32) (k_p : Int32) (na2 : Nat) (ne2 : Nat) (kd2 : Nat → Int32) (dp2 : Nat → Int32) (ln2 : Nat → Int32) (cl2 : Nat → Int32) (sa2 : Nat → Int32) (bt2 : Nat → Int64) (pn2 : Nat → Int32) (ml2 : Nat → Int32) (sk2 : Nat → Int32) (at2 : Nat → Int32), (zz_MI na2 ne2 dp2 sa2 ln2 bt2) ∧ (zz_GW na ne na2 ne2 dpf saf lnf dp2 sa2 ln2) ∧ (r = sp_gR na ne x1 x2 x3 x4 x5 x6) ∧ ((na2, ne2, kd2, dp2, cl2, sa2, ln2, bt2) = if r < 0 then (na, ne, kdf, dpf, clf, saf, lnf, btf) else sp_gF x1 (zz_gll x3 x4 x5 x6) (x2.toNatClampNeg - 0 - 1) 0 ne (zz_gll x3 x4 x5 x6 0 - 0) 0 (sp_mk x1 (nI x2.toNatClampNeg) (-1) (zz_gll x3 x4 x5 x6 0) (na, ne, kdf, dpf, clf, saf, lnf, btf))) ∧ (pn2 = if r < 0 then pnf else zz_mp pnf ne (ne2 - ne)) ∧ u = [cw_k7 h0 (nI na2) (nI ne2) a_kindOf a_depthOf a_lengthOf a_classOf a_baseOf a_bits a_pinned k_c a_lengths a_stackArray a_stackOther a_stackAt k_a k_p a_path a_held a_alike a_hashes (nI nd) a_decisionArray a_decisionPlace a_candidateMany a_candidates (nI nr) a_ruleSort a_ruleArray a_ruleWeight a_ruleLow a_ruleHigh a_chosen a_bestOf (nI nm) a_markElements a_markBits a_markPins, cw_i g a_kindOf 60 kd2, cw_i g a_depthOf 60 dp2, cw_i g a_lengthOf 60 ln2, cw_i g a_classOf 60 cl2, cw_i g a_baseOf 60 sa2, cw_l g a_bits 4000 bt2, cw_z g a_pinned 4000 pn2, cw_i g a_lengths 4 ml2, cw_i g a_stackArray 5 sk2, cw_i g a_stackAt 5 at2]
set_option maxHeartbeats 4000000 in
set_option maxRecDepth 100000 in
theorem my_grid (g : zz_G) (h0 : Nat) (a_kindOf : Nat) (a_depthOf : Nat) (a_lengthOf : Nat) (a_classOf : Nat) (a_baseOf : Nat) (a_bits : Nat) (a_pinned : Nat) (a_lengths : Nat) (a_stackArray : Nat) (a_stackOther : Nat) (a_stackAt : Nat) (a_path : Nat) (a_held : Nat) (a_alike : Nat) (a_hashes : Nat) (a_decisionArray : Nat) (a_decisionPlace : Nat) (a_candidateMany : Nat) (a_candidates : Nat) (a_ruleSort : Nat) (a_ruleArray : Nat) (a_ruleWeight : Nat) (a_ruleLow : Nat) (a_ruleHigh : Nat) (a_chosen : Nat) (a_bestOf : Nat) (a_markElements : Nat) (a_markBits : Nat) (a_markPins : Nat) (na : Nat) (ne : Nat) (nd : Nat) (nr : Nat) (nm : Nat) (i_code : Int32) (i_lastArray : Int32) (i_lastPlace : Int32) (kdf : Nat → Int32) (dpf : Nat → Int32) (lnf : Nat → Int32) (clf : Nat → Int32) (saf : Nat → Int32) (btf : Nat → Int64) (pnf : Nat → Int32) (mlf : Nat → Int32) (skf : Nat → Int32) (atf : Nat → Int32) (x1 : Int32) (x2 : Int32) (x3 : Int32) (x4 : Int32) (x5 : Int32) (x6 : Int32) (h_M : zz_MI na ne dpf saf lnf btf) : zz_I g yX8_grid (.code yX8_grid cX8_grid 19 (some .int)) rm_my_grid [.ref h0, .int x1, .int x2, .int x3, .int x4, .int x5, .int x6] [cw_k7 h0 (nI na) (nI ne) a_kindOf a_depthOf a_lengthOf a_classOf a_baseOf a_bits a_pinned i_code a_lengths a_stackArray a_stackOther a_stackAt i_lastArray i_lastPlace a_path a_held a_alike a_hashes (nI nd) a_decisionArray a_decisionPlace a_candidateMany a_candidates (nI nr) a_ruleSort a_ruleArray a_ruleWeight a_ruleLow a_ruleHigh a_chosen a_bestOf (nI nm) a_markElements a_markBits a_markPins, cw_i g a_kindOf 60 kdf, cw_i g a_depthOf 60 dpf, cw_i g a_lengthOf 60 lnf, cw_i g a_classOf 60 clf, cw_i g a_baseOf 60 saf, cw_l g a_bits 4000 btf, cw_z g a_pinned 4000 pnf, cw_i g a_lengths 4 mlf, cw_i g a_stackArray 5 skf, cw_i g a_stackAt 5 atf] (po_my_grid g h0 a_kindOf a_depthOf a_lengthOf a_classOf a_baseOf a_bits a_pinned a_lengths a_stackArray a_stackOther a_stackAt a_path a_held a_alike a_hashes a_decisionArray a_decisionPlace a_candidateMany a_candidates a_ruleSort a_ruleArray a_ruleWeight a_ruleLow a_ruleHigh a_chosen a_bestOf a_markElements a_markBits a_markPins na ne nd nr nm i_code i_lastArray i_lastPlace kdf dpf lnf clf saf btf pnf mlf skf atf x1 x2 x3 x4 x5 x6 h_M) := by
  refine zz_I.intro (own := RX8) (cc := cX8_grid) (nL := 19) (by decide) rfl (Nat.le_of_ble_eq_true rfl) ?_
  intro p l e s m args below meth c A H locs ls hC hnm hs hZ hl
  obtain ⟨hx, hb, hml, hown, hts, hr, hlocks, hK⟩ := id hC
  have hl : lv_has ls 19 [(0, .ref h0), (1, .int x1), (2, .int x2), (3, .int x3), (4, .int x4), (5, .int x5), (6, .int x6)] := hl
  have hZ : zz_Z g A s.heap [cw_k7 h0 (nI na) (nI ne) a_kindOf a_depthOf a_lengthOf a_classOf a_baseOf a_bits a_pinned i_code a_lengths a_stackArray a_stackOther a_stackAt i_lastArray i_lastPlace a_path a_held a_alike a_hashes (nI nd) a_decisionArray a_decisionPlace a_candidateMany a_candidates (nI nr) a_ruleSort a_ruleArray a_ruleWeight a_ruleLow a_ruleHigh a_chosen a_bestOf (nI nm) a_markElements a_markBits a_markPins, cw_i g a_kindOf 60 kdf, cw_i g a_depthOf 60 dpf, cw_i g a_lengthOf 60 lnf, cw_i g a_classOf 60 clf, cw_i g a_baseOf 60 saf, cw_l g a_bits 4000 btf, cw_z g a_pinned 4000 pnf, cw_i g a_lengths 4 mlf, cw_i g a_stackArray 5 skf, cw_i g a_stackAt 5 atf] H locs := hZ
  have h_S := h_M.1
  have hna := h_S.1
  have hne := h_S.2.1
  refine lv_iload_n hx hb dX8_grid_0 rfl (lv_at hl 1 rfl) ?_
  refine lv_i2l hx hb dX8_grid_1 rfl ?_
  refine lv_lconst (v := 0) hx hb dX8_grid_2 (by decide) ?_
  refine lv_ldc2 hx hb hown (hts _ zk_901) dX8_grid_3 ?_
  refine zz_iS (As := [.long x1.toInt64, .long 0, .long 7]) (wc := []) (wr := [cw_k7 h0 (nI na) (nI ne) a_kindOf a_depthOf a_lengthOf a_classOf a_baseOf a_bits a_pinned i_code a_lengths a_stackArray a_stackOther a_stackAt i_lastArray i_lastPlace a_path a_held a_alike a_hashes (nI nd) a_decisionArray a_decisionPlace a_candidateMany a_candidates (nI nr) a_ruleSort a_ruleArray a_ruleWeight a_ruleLow a_ruleHigh a_chosen a_bestOf (nI nm) a_markElements a_markBits a_markPins, cw_i g a_kindOf 60 kdf, cw_i g a_depthOf 60 dpf, cw_i g a_lengthOf 60 lnf, cw_i g a_classOf 60 clf, cw_i g a_baseOf 60 saf, cw_l g a_bits 4000 btf, cw_z g a_pinned 4000 pnf, cw_i g a_lengths 4 mlf, cw_i g a_stackArray 5 skf, cw_i g a_stackAt 5 atf]) (rest := []) hC hZ hs hl zc_X8_106 (cm_within g x1.toInt64 0 7) [] [0, 1, 2, 3, 4, 5, 6, 7, 8, 9, 10] rfl rfl (by decide +kernel) rfl rfl (Nat.le_of_ble_eq_true rfl) ⟨⟨Nat.le_of_ble_eq_true rfl, Nat.le_of_ble_eq_true rfl⟩, Nat.le_of_ble_eq_true rfl, Nat.le_of_ble_eq_true rfl⟩ dX8_grid_6 (fun r1 u2 H locs hp hZ => ?_)
  obtain ⟨rfl, rfl⟩ := hp
  have hZ : zz_Z g A s.heap [cw_k7 h0 (nI na) (nI ne) a_kindOf a_depthOf a_lengthOf a_classOf a_baseOf a_bits a_pinned i_code a_lengths a_stackArray a_stackOther a_stackAt i_lastArray i_lastPlace a_path a_held a_alike a_hashes (nI nd) a_decisionArray a_decisionPlace a_candidateMany a_candidates (nI nr) a_ruleSort a_ruleArray a_ruleWeight a_ruleLow a_ruleHigh a_chosen a_bestOf (nI nm) a_markElements a_markBits a_markPins, cw_i g a_kindOf 60 kdf, cw_i g a_depthOf 60 dpf, cw_i g a_lengthOf 60 lnf, cw_i g a_classOf 60 clf, cw_i g a_baseOf 60 saf, cw_l g a_bits 4000 btf, cw_z g a_pinned 4000 pnf, cw_i g a_lengths 4 mlf, cw_i g a_stackArray 5 skf, cw_i g a_stackAt 5 atf] H locs := hZ
  refine lv_if_eq (tgt := 24) hx hb dX8_grid_9 (by decide) (fun c3 => ?_) (fun c3 => ?_)
  · refine lv_aload_n hx hb dX8_grid_24 rfl (lv_at hl 0 rfl) ?_
    refine lv_bipush (v := 9) hx hb dX8_grid_25 (by decide) ?_
    refine zz_iV (As := [.int 9]) (wc := [cw_k7 h0 (nI na) (nI ne) a_kindOf a_depthOf a_lengthOf a_classOf a_baseOf a_bits a_pinned i_code a_lengths a_stackArray a_stackOther a_stackAt i_lastArray i_lastPlace a_path a_held a_alike a_hashes (nI nd) a_decisionArray a_decisionPlace a_candidateMany a_candidates (nI nr) a_ruleSort a_ruleArray a_ruleWeight a_ruleLow a_ruleHigh a_chosen a_bestOf (nI nm) a_markElements a_markBits a_markPins]) (wr := [cw_i g a_kindOf 60 kdf, cw_i g a_depthOf 60 dpf, cw_i g a_lengthOf 60 lnf, cw_i g a_classOf 60 clf, cw_i g a_baseOf 60 saf, cw_l g a_bits 4000 btf, cw_z g a_pinned 4000 pnf, cw_i g a_lengths 4 mlf, cw_i g a_stackArray 5 skf, cw_i g a_stackAt 5 atf]) (rest := []) hC hZ hs hl zc_X8_175 (cm_fails g h0 a_kindOf a_depthOf a_lengthOf a_classOf a_baseOf a_bits a_pinned a_lengths a_stackArray a_stackOther a_stackAt a_path a_held a_alike a_hashes a_decisionArray a_decisionPlace a_candidateMany a_candidates a_ruleSort a_ruleArray a_ruleWeight a_ruleLow a_ruleHigh a_chosen a_bestOf a_markElements a_markBits a_markPins (nI na) (nI ne) i_code i_lastArray i_lastPlace (nI nd) (nI nr) (nI nm) 9) [0] [1, 2, 3, 4, 5, 6, 7, 8, 9, 10] rfl rfl (by decide +kernel) (ci := 7) (q0 := 0) rfl rfl rfl rfl (Nat.le_of_ble_eq_true rfl) ⟨⟨Nat.le_of_ble_eq_true rfl, Nat.le_of_ble_eq_true rfl⟩, Nat.le_of_ble_eq_true rfl, Nat.le_of_ble_eq_true rfl⟩ dX8_grid_27 (fun r4 u5 H locs hp hZ => ?_)
    obtain ⟨rfl, rfl⟩ := hp
    have hZ : zz_Z g A s.heap [cw_i g a_kindOf 60 kdf, cw_i g a_depthOf 60 dpf, cw_i g a_lengthOf 60 lnf, cw_i g a_classOf 60 clf, cw_i g a_baseOf 60 saf, cw_l g a_bits 4000 btf, cw_z g a_pinned 4000 pnf, cw_i g a_lengths 4 mlf, cw_i g a_stackArray 5 skf, cw_i g a_stackAt 5 atf, cw_k7 h0 (nI na) (nI ne) a_kindOf a_depthOf a_lengthOf a_classOf a_baseOf a_bits a_pinned 9 a_lengths a_stackArray a_stackOther a_stackAt i_lastArray i_lastPlace a_path a_held a_alike a_hashes (nI nd) a_decisionArray a_decisionPlace a_candidateMany a_candidates (nI nr) a_ruleSort a_ruleArray a_ruleWeight a_ruleLow a_ruleHigh a_chosen a_bestOf (nI nm) a_markElements a_markBits a_markPins] H locs := hZ
    have hZ : zz_Z g A s.heap [cw_k7 h0 (nI na) (nI ne) a_kindOf a_depthOf a_lengthOf a_classOf a_baseOf a_bits a_pinned 9 a_lengths a_stackArray a_stackOther a_stackAt i_lastArray i_lastPlace a_path a_held a_alike a_hashes (nI nd) a_decisionArray a_decisionPlace a_candidateMany a_candidates (nI nr) a_ruleSort a_ruleArray a_ruleWeight a_ruleLow a_ruleHigh a_chosen a_bestOf (nI nm) a_markElements a_markBits a_markPins, cw_i g a_kindOf 60 kdf, cw_i g a_depthOf 60 dpf, cw_i g a_lengthOf 60 lnf, cw_i g a_classOf 60 clf, cw_i g a_baseOf 60 saf, cw_l g a_bits 4000 btf, cw_z g a_pinned 4000 pnf, cw_i g a_lengths 4 mlf, cw_i g a_stackArray 5 skf, cw_i g a_stackAt 5 atf] H locs := hZ.sub [10, 0, 1, 2, 3, 4, 5, 6, 7, 8, 9] (by decide +kernel) rfl
    exact zz_iret hC hZ (⟨9, i_lastArray, i_lastPlace, na, ne, kdf, dpf, lnf, clf, saf, btf, pnf, mlf, skf, atf, h_M, zz_GW.rf, by rw [sp_gR, if_neg (zl_gW (Or.inl c3))], by rw [if_pos (by decide)], by rw [if_pos (by decide)], rfl⟩) (Nat.le_of_ble_eq_true rfl) (Nat.le_of_ble_eq_true rfl) dX8_grid_30
  · refine lv_iload_n hx hb dX8_grid_12 rfl (lv_at hl 2 rfl) ?_
    refine lv_i2l hx hb dX8_grid_13 rfl ?_
    refine lv_lconst (v := 1) hx hb dX8_grid_14 (by decide) ?_
    refine lv_ldc2 hx hb hown (hts _ zk_902) dX8_grid_15 ?_
    refine zz_iS (As := [.long x2.toInt64, .long 1, .long 4]) (wc := []) (wr := [cw_k7 h0 (nI na) (nI ne) a_kindOf a_depthOf a_lengthOf a_classOf a_baseOf a_bits a_pinned i_code a_lengths a_stackArray a_stackOther a_stackAt i_lastArray i_lastPlace a_path a_held a_alike a_hashes (nI nd) a_decisionArray a_decisionPlace a_candidateMany a_candidates (nI nr) a_ruleSort a_ruleArray a_ruleWeight a_ruleLow a_ruleHigh a_chosen a_bestOf (nI nm) a_markElements a_markBits a_markPins, cw_i g a_kindOf 60 kdf, cw_i g a_depthOf 60 dpf, cw_i g a_lengthOf 60 lnf, cw_i g a_classOf 60 clf, cw_i g a_baseOf 60 saf, cw_l g a_bits 4000 btf, cw_z g a_pinned 4000 pnf, cw_i g a_lengths 4 mlf, cw_i g a_stackArray 5 skf, cw_i g a_stackAt 5 atf]) (rest := []) hC hZ hs hl zc_X8_106 (cm_within g x2.toInt64 1 4) [] [0, 1, 2, 3, 4, 5, 6, 7, 8, 9, 10] rfl rfl (by decide +kernel) rfl rfl (Nat.le_of_ble_eq_true rfl) ⟨⟨Nat.le_of_ble_eq_true rfl, Nat.le_of_ble_eq_true rfl⟩, Nat.le_of_ble_eq_true rfl, Nat.le_of_ble_eq_true rfl⟩ dX8_grid_18 (fun r6 u7 H locs hp hZ => ?_)
    obtain ⟨rfl, rfl⟩ := hp
    have hZ : zz_Z g A s.heap [cw_k7 h0 (nI na) (nI ne) a_kindOf a_depthOf a_lengthOf a_classOf a_baseOf a_bits a_pinned i_code a_lengths a_stackArray a_stackOther a_stackAt i_lastArray i_lastPlace a_path a_held a_alike a_hashes (nI nd) a_decisionArray a_decisionPlace a_candidateMany a_candidates (nI nr) a_ruleSort a_ruleArray a_ruleWeight a_ruleLow a_ruleHigh a_chosen a_bestOf (nI nm) a_markElements a_markBits a_markPins, cw_i g a_kindOf 60 kdf, cw_i g a_depthOf 60 dpf, cw_i g a_lengthOf 60 lnf, cw_i g a_classOf 60 clf, cw_i g a_baseOf 60 saf, cw_l g a_bits 4000 btf, cw_z g a_pinned 4000 pnf, cw_i g a_lengths 4 mlf, cw_i g a_stackArray 5 skf, cw_i g a_stackAt 5 atf] H locs := hZ
    refine lv_if_ne (tgt := 31) hx hb dX8_grid_21 (by decide) (fun c8 => ?_) (fun c8 => ?_)
    · obtain ⟨dd, hd1, hd4, edd⟩ := zl_w14 c8
      have edc : x2.toNatClampNeg = dd := by rw [edd]; exact nI_clamp (by omega)
      have hl : lv_has ls 19 [(0, .ref h0), (1, .int x1), (2, .int (nI dd)), (3, .int x3), (4, .int x4), (5, .int x5), (6, .int x6)] := by rw [← edd]; exact hl
      refine lv_aload_n hx hb dX8_grid_31 rfl (lv_at hl 0 rfl) ?_
      refine zz_get hC hZ 0 rfl zf_X8_33 rfl dX8_grid_32 ?_
      refine lv_iconst (v := 0) hx hb dX8_grid_35 (by decide) ?_
      refine lv_iload_n hx hb dX8_grid_36 rfl (lv_at hl 3 rfl) ?_
      refine zz_iast hC hZ 8 rfl (by unfold vp_in; decide) dX8_grid_37 (fun H locs hZ => ?_)
      rw [zl_c0] at hZ
      have hZ : zz_Z g A s.heap [cw_k7 h0 (nI na) (nI ne) a_kindOf a_depthOf a_lengthOf a_classOf a_baseOf a_bits a_pinned i_code a_lengths a_stackArray a_stackOther a_stackAt i_lastArray i_lastPlace a_path a_held a_alike a_hashes (nI nd) a_decisionArray a_decisionPlace a_candidateMany a_candidates (nI nr) a_ruleSort a_ruleArray a_ruleWeight a_ruleLow a_ruleHigh a_chosen a_bestOf (nI nm) a_markElements a_markBits a_markPins, cw_i g a_kindOf 60 kdf, cw_i g a_depthOf 60 dpf, cw_i g a_lengthOf 60 lnf, cw_i g a_classOf 60 clf, cw_i g a_baseOf 60 saf, cw_l g a_bits 4000 btf, cw_z g a_pinned 4000 pnf, cw_i g a_lengths 4 (upd mlf 0 x3), cw_i g a_stackArray 5 skf, cw_i g a_stackAt 5 atf] H locs := hZ
      refine lv_aload_n hx hb dX8_grid_38 rfl (lv_at hl 0 rfl) ?_
      refine zz_get hC hZ 0 rfl zf_X8_33 rfl dX8_grid_39 ?_
      refine lv_iconst (v := 1) hx hb dX8_grid_42 (by decide) ?_
      refine lv_iload hx hb dX8_grid_43 (lv_at hl 4 rfl) ?_
      refine zz_iast hC hZ 8 rfl (by unfold vp_in; decide) dX8_grid_45 (fun H locs hZ => ?_)
      rw [zl_c1] at hZ
      have hZ : zz_Z g A s.heap [cw_k7 h0 (nI na) (nI ne) a_kindOf a_depthOf a_lengthOf a_classOf a_baseOf a_bits a_pinned i_code a_lengths a_stackArray a_stackOther a_stackAt i_lastArray i_lastPlace a_path a_held a_alike a_hashes (nI nd) a_decisionArray a_decisionPlace a_candidateMany a_candidates (nI nr) a_ruleSort a_ruleArray a_ruleWeight a_ruleLow a_ruleHigh a_chosen a_bestOf (nI nm) a_markElements a_markBits a_markPins, cw_i g a_kindOf 60 kdf, cw_i g a_depthOf 60 dpf, cw_i g a_lengthOf 60 lnf, cw_i g a_classOf 60 clf, cw_i g a_baseOf 60 saf, cw_l g a_bits 4000 btf, cw_z g a_pinned 4000 pnf, cw_i g a_lengths 4 (upd (upd mlf 0 x3) 1 x4), cw_i g a_stackArray 5 skf, cw_i g a_stackAt 5 atf] H locs := hZ
      refine lv_aload_n hx hb dX8_grid_46 rfl (lv_at hl 0 rfl) ?_
      refine zz_get hC hZ 0 rfl zf_X8_33 rfl dX8_grid_47 ?_
      refine lv_iconst (v := 2) hx hb dX8_grid_50 (by decide) ?_
      refine lv_iload hx hb dX8_grid_51 (lv_at hl 5 rfl) ?_
      refine zz_iast hC hZ 8 rfl (by unfold vp_in; decide) dX8_grid_53 (fun H locs hZ => ?_)
      rw [zl_c2] at hZ
      have hZ : zz_Z g A s.heap [cw_k7 h0 (nI na) (nI ne) a_kindOf a_depthOf a_lengthOf a_classOf a_baseOf a_bits a_pinned i_code a_lengths a_stackArray a_stackOther a_stackAt i_lastArray i_lastPlace a_path a_held a_alike a_hashes (nI nd) a_decisionArray a_decisionPlace a_candidateMany a_candidates (nI nr) a_ruleSort a_ruleArray a_ruleWeight a_ruleLow a_ruleHigh a_chosen a_bestOf (nI nm) a_markElements a_markBits a_markPins, cw_i g a_kindOf 60 kdf, cw_i g a_depthOf 60 dpf, cw_i g a_lengthOf 60 lnf, cw_i g a_classOf 60 clf, cw_i g a_baseOf 60 saf, cw_l g a_bits 4000 btf, cw_z g a_pinned 4000 pnf, cw_i g a_lengths 4 (upd (upd (upd mlf 0 x3) 1 x4) 2 x5), cw_i g a_stackArray 5 skf, cw_i g a_stackAt 5 atf] H locs := hZ
      refine lv_aload_n hx hb dX8_grid_54 rfl (lv_at hl 0 rfl) ?_
      refine zz_get hC hZ 0 rfl zf_X8_33 rfl dX8_grid_55 ?_
      refine lv_iconst (v := 3) hx hb dX8_grid_58 (by decide) ?_
      refine lv_iload hx hb dX8_grid_59 (lv_at hl 6 rfl) ?_
      refine zz_iast hC hZ 8 rfl (by unfold vp_in; decide) dX8_grid_61 (fun H locs hZ => ?_)
      rw [zl_c3] at hZ
      have hZ : zz_Z g A s.heap [cw_k7 h0 (nI na) (nI ne) a_kindOf a_depthOf a_lengthOf a_classOf a_baseOf a_bits a_pinned i_code a_lengths a_stackArray a_stackOther a_stackAt i_lastArray i_lastPlace a_path a_held a_alike a_hashes (nI nd) a_decisionArray a_decisionPlace a_candidateMany a_candidates (nI nr) a_ruleSort a_ruleArray a_ruleWeight a_ruleLow a_ruleHigh a_chosen a_bestOf (nI nm) a_markElements a_markBits a_markPins, cw_i g a_kindOf 60 kdf, cw_i g a_depthOf 60 dpf, cw_i g a_lengthOf 60 lnf, cw_i g a_classOf 60 clf, cw_i g a_baseOf 60 saf, cw_l g a_bits 4000 btf, cw_z g a_pinned 4000 pnf, cw_i g a_lengths 4 (upd (upd (upd (upd mlf 0 x3) 1 x4) 2 x5) 3 x6), cw_i g a_stackArray 5 skf, cw_i g a_stackAt 5 atf] H locs := hZ
      refine lv_lconst (v := 0) hx hb dX8_grid_62 (by decide) ?_
      refine lv_lstore (lv' := [(7, .long 0), (0, .ref h0), (1, .int x1), (2, .int (nI dd)), (3, .int x3), (4, .int x4), (5, .int x5), (6, .int x6)]) hx hb dX8_grid_63 hl (by decide) rfl (fun ls hl => ?_)
      refine lv_lconst (v := 0) hx hb dX8_grid_65 (by decide) ?_
      refine lv_lstore (lv' := [(9, .long 0), (7, .long 0), (0, .ref h0), (1, .int x1), (2, .int (nI dd)), (3, .int x3), (4, .int x4), (5, .int x5), (6, .int x6)]) hx hb dX8_grid_66 hl (by decide) rfl (fun ls hl => ?_)
      refine lv_lconst (v := 1) hx hb dX8_grid_68 (by decide) ?_
      refine lv_lstore (lv' := [(11, .long 1), (9, .long 0), (7, .long 0), (0, .ref h0), (1, .int x1), (2, .int (nI dd)), (3, .int x3), (4, .int x4), (5, .int x5), (6, .int x6)]) hx hb dX8_grid_69 hl (by decide) rfl (fun ls hl => ?_)
      refine lv_iconst (v := 0) hx hb dX8_grid_71 (by decide) ?_
      refine lv_istore (lv' := [(13, .int 0), (11, .long 1), (9, .long 0), (7, .long 0), (0, .ref h0), (1, .int x1), (2, .int (nI dd)), (3, .int x3), (4, .int x4), (5, .int x5), (6, .int x6)]) hx hb dX8_grid_72 hl (by decide) rfl (fun ls hl => ?_)
      refine lv_iconst (v := 0) hx hb dX8_grid_74 (by decide) ?_
      refine lv_istore (lv' := [(14, .int 0), (13, .int 0), (11, .long 1), (9, .long 0), (7, .long 0), (0, .ref h0), (1, .int x1), (2, .int (nI dd)), (3, .int x3), (4, .int x4), (5, .int x5), (6, .int x6)]) hx hb dX8_grid_75 hl (by decide) rfl (fun ls hl => ?_)
      have LP9 : ∀ (N9 : Nat) (i : Nat) (lf : Nat → Int32) (H : Heap) (locs : List Loc) (ls : Array Slot), (i ≤ dd) → (∀ j, j < i → ¬ lf j < 0) → (∀ j, j < 4 → lf j = zz_pa x3 x4 x5 x6 j) → (dd - i) < N9 → zz_Z g A s.heap [cw_k7 h0 (nI na) (nI ne) a_kindOf a_depthOf a_lengthOf a_classOf a_baseOf a_bits a_pinned i_code a_lengths a_stackArray a_stackOther a_stackAt i_lastArray i_lastPlace a_path a_held a_alike a_hashes (nI nd) a_decisionArray a_decisionPlace a_candidateMany a_candidates (nI nr) a_ruleSort a_ruleArray a_ruleWeight a_ruleLow a_ruleHigh a_chosen a_bestOf (nI nm) a_markElements a_markBits a_markPins, cw_i g a_kindOf 60 kdf, cw_i g a_depthOf 60 dpf, cw_i g a_lengthOf 60 lnf, cw_i g a_classOf 60 clf, cw_i g a_baseOf 60 saf, cw_l g a_bits 4000 btf, cw_z g a_pinned 4000 pnf, cw_i g a_lengths 4 lf, cw_i g a_stackArray 5 skf, cw_i g a_stackAt 5 atf] H locs → lv_has ls 19 [(14, .int (nI i)), (13, .int 0), (11, .long 1), (9, .long 0), (7, .long 0), (0, .ref h0), (1, .int x1), (2, .int (nI dd)), (3, .int x3), (4, .int x4), (5, .int x5), (6, .int x6)] → W p l e rm_my_grid s m args below meth c H locs 0 0 (zz_QI below g args s A rm_my_grid.cells rm_my_grid.slots (po_my_grid g h0 a_kindOf a_depthOf a_lengthOf a_classOf a_baseOf a_bits a_pinned a_lengths a_stackArray a_stackOther a_stackAt a_path a_held a_alike a_hashes a_decisionArray a_decisionPlace a_candidateMany a_candidates a_ruleSort a_ruleArray a_ruleWeight a_ruleLow a_ruleHigh a_chosen a_bestOf a_markElements a_markBits a_markPins na ne nd nr nm i_code i_lastArray i_lastPlace kdf dpf lnf clf saf btf pnf mlf skf atf x1 x2 x3 x4 x5 x6 h_M)) (F0 m 77 ls []) := by
        intro N9
        induction N9 with
        | zero =>
          intro i lf H locs ls hi hng hlf hN9
          exact absurd hN9 (Nat.not_lt_zero _)
        | succ N9 ih9 =>
          intro i lf H locs ls hi hng hlf hN9 hZ hl
          refine lv_iload hx hb dX8_grid_77 (lv_at hl 0 rfl) ?_
          refine lv_iload_n hx hb dX8_grid_79 rfl (lv_at hl 7 rfl) ?_
          have bd11 : dd < 2 ^ 31 := by omega
          have bd12 : i < 2 ^ 31 := by omega
          refine lv_icmp_ge (tgt := 105) hx hb dX8_grid_80 (by decide) (fun c10 => ?_) (fun c10 => ?_)
          · have nc10 : dd ≤ i := (nI_leI bd11 bd12).mp (show nI (dd) ≤ nI (i) from c10)
            refine lv_iconst (v := 0) hx hb dX8_grid_105 (by decide) ?_
            refine lv_istore (lv' := [(14, .int 0), (13, .int 0), (11, .long 1), (9, .long 0), (7, .long 0), (0, .ref h0), (1, .int x1), (2, .int (nI dd)), (3, .int x3), (4, .int x4), (5, .int x5), (6, .int x6)]) hx hb dX8_grid_106 hl (by decide) rfl (fun ls hl => ?_)
            have hnp : ∀ j, j < dd → ¬ zz_pa x3 x4 x5 x6 j < 0 := fun j hj => by rw [← hlf j (by omega)]; exact hng j (by omega)
            obtain ⟨ll, ell⟩ : ∃ ll : Nat → Nat, zz_gll x3 x4 x5 x6 = ll := ⟨_, rfl⟩
            have hll : ∀ j, j < dd → lf j = nI (ll j) ∧ ll j < 2 ^ 31 := fun j hj => by rw [← ell, hlf j (by omega)]; exact zl_clamp (hnp j hj)
            have LP13 : ∀ (N13 : Nat) (i2 : Nat) (mu : Int32) (mn : Int64) (al : Int64) (ti : Int64) (H : Heap) (locs : List Loc) (ls : Array Slot), (i2 ≤ dd) → (mu = 0 → zz_AC ll i2 mn al ti) → (mu = 0 ∨ ∃ j, j < i2 ∧ 200 < ll j) → (dd - i2) < N13 → zz_Z g A s.heap [cw_k7 h0 (nI na) (nI ne) a_kindOf a_depthOf a_lengthOf a_classOf a_baseOf a_bits a_pinned i_code a_lengths a_stackArray a_stackOther a_stackAt i_lastArray i_lastPlace a_path a_held a_alike a_hashes (nI nd) a_decisionArray a_decisionPlace a_candidateMany a_candidates (nI nr) a_ruleSort a_ruleArray a_ruleWeight a_ruleLow a_ruleHigh a_chosen a_bestOf (nI nm) a_markElements a_markBits a_markPins, cw_i g a_kindOf 60 kdf, cw_i g a_depthOf 60 dpf, cw_i g a_lengthOf 60 lnf, cw_i g a_classOf 60 clf, cw_i g a_baseOf 60 saf, cw_l g a_bits 4000 btf, cw_z g a_pinned 4000 pnf, cw_i g a_lengths 4 lf, cw_i g a_stackArray 5 skf, cw_i g a_stackAt 5 atf] H locs → lv_has ls 19 [(14, .int (nI i2)), (13, .int mu), (11, .long ti), (9, .long al), (7, .long mn), (0, .ref h0), (1, .int x1), (2, .int (nI dd)), (3, .int x3), (4, .int x4), (5, .int x5), (6, .int x6)] → W p l e rm_my_grid s m args below meth c H locs 0 0 (zz_QI below g args s A rm_my_grid.cells rm_my_grid.slots (po_my_grid g h0 a_kindOf a_depthOf a_lengthOf a_classOf a_baseOf a_bits a_pinned a_lengths a_stackArray a_stackOther a_stackAt a_path a_held a_alike a_hashes a_decisionArray a_decisionPlace a_candidateMany a_candidates a_ruleSort a_ruleArray a_ruleWeight a_ruleLow a_ruleHigh a_chosen a_bestOf a_markElements a_markBits a_markPins na ne nd nr nm i_code i_lastArray i_lastPlace kdf dpf lnf clf saf btf pnf mlf skf atf x1 x2 x3 x4 x5 x6 h_M)) (F0 m 108 ls []) := by
              intro N13
              induction N13 with
              | zero =>
                intro i2 mu mn al ti H locs ls hi2 hA hmu hN13
                exact absurd hN13 (Nat.not_lt_zero _)
              | succ N13 ih13 =>
                intro i2 mu mn al ti H locs ls hi2 hA hmu hN13 hZ hl
                refine lv_iload hx hb dX8_grid_108 (lv_at hl 0 rfl) ?_
                refine lv_iload_n hx hb dX8_grid_110 rfl (lv_at hl 7 rfl) ?_
                have bd15 : i2 < 2 ^ 31 := by omega
                refine lv_icmp_ge (tgt := 179) hx hb dX8_grid_111 (by decide) (fun c14 => ?_) (fun c14 => ?_)
                · have nc14 : dd ≤ i2 := (nI_leI bd11 bd15).mp (show nI (dd) ≤ nI (i2) from c14)
                  refine lv_iload hx hb dX8_grid_179 (lv_at hl 1 rfl) ?_
                  refine lv_if_ne (tgt := 205) hx hb dX8_grid_181 (by decide) (fun c16 => ?_) (fun c16 => ?_)
                  · refine lv_aload_n hx hb dX8_grid_205 rfl (lv_at hl 5 rfl) ?_
                    refine lv_bipush (v := 8) hx hb dX8_grid_206 (by decide) ?_
                    refine zz_iV (As := [.int 8]) (wc := [cw_k7 h0 (nI na) (nI ne) a_kindOf a_depthOf a_lengthOf a_classOf a_baseOf a_bits a_pinned i_code a_lengths a_stackArray a_stackOther a_stackAt i_lastArray i_lastPlace a_path a_held a_alike a_hashes (nI nd) a_decisionArray a_decisionPlace a_candidateMany a_candidates (nI nr) a_ruleSort a_ruleArray a_ruleWeight a_ruleLow a_ruleHigh a_chosen a_bestOf (nI nm) a_markElements a_markBits a_markPins]) (wr := [cw_i g a_kindOf 60 kdf, cw_i g a_depthOf 60 dpf, cw_i g a_lengthOf 60 lnf, cw_i g a_classOf 60 clf, cw_i g a_baseOf 60 saf, cw_l g a_bits 4000 btf, cw_z g a_pinned 4000 pnf, cw_i g a_lengths 4 lf, cw_i g a_stackArray 5 skf, cw_i g a_stackAt 5 atf]) (rest := []) hC hZ hs hl zc_X8_175 (cm_fails g h0 a_kindOf a_depthOf a_lengthOf a_classOf a_baseOf a_bits a_pinned a_lengths a_stackArray a_stackOther a_stackAt a_path a_held a_alike a_hashes a_decisionArray a_decisionPlace a_candidateMany a_candidates a_ruleSort a_ruleArray a_ruleWeight a_ruleLow a_ruleHigh a_chosen a_bestOf a_markElements a_markBits a_markPins (nI na) (nI ne) i_code i_lastArray i_lastPlace (nI nd) (nI nr) (nI nm) 8) [0] [1, 2, 3, 4, 5, 6, 7, 8, 9, 10] rfl rfl (by decide +kernel) (ci := 7) (q0 := 0) rfl rfl rfl rfl (Nat.le_of_ble_eq_true rfl) ⟨⟨Nat.le_of_ble_eq_true rfl, Nat.le_of_ble_eq_true rfl⟩, Nat.le_of_ble_eq_true rfl, Nat.le_of_ble_eq_true rfl⟩ dX8_grid_208 (fun r17 u18 H locs hp hZ => ?_)
                    obtain ⟨rfl, rfl⟩ := hp
                    have hZ : zz_Z g A s.heap [cw_i g a_kindOf 60 kdf, cw_i g a_depthOf 60 dpf, cw_i g a_lengthOf 60 lnf, cw_i g a_classOf 60 clf, cw_i g a_baseOf 60 saf, cw_l g a_bits 4000 btf, cw_z g a_pinned 4000 pnf, cw_i g a_lengths 4 lf, cw_i g a_stackArray 5 skf, cw_i g a_stackAt 5 atf, cw_k7 h0 (nI na) (nI ne) a_kindOf a_depthOf a_lengthOf a_classOf a_baseOf a_bits a_pinned 8 a_lengths a_stackArray a_stackOther a_stackAt i_lastArray i_lastPlace a_path a_held a_alike a_hashes (nI nd) a_decisionArray a_decisionPlace a_candidateMany a_candidates (nI nr) a_ruleSort a_ruleArray a_ruleWeight a_ruleLow a_ruleHigh a_chosen a_bestOf (nI nm) a_markElements a_markBits a_markPins] H locs := hZ
                    have hZ : zz_Z g A s.heap [cw_k7 h0 (nI na) (nI ne) a_kindOf a_depthOf a_lengthOf a_classOf a_baseOf a_bits a_pinned 8 a_lengths a_stackArray a_stackOther a_stackAt i_lastArray i_lastPlace a_path a_held a_alike a_hashes (nI nd) a_decisionArray a_decisionPlace a_candidateMany a_candidates (nI nr) a_ruleSort a_ruleArray a_ruleWeight a_ruleLow a_ruleHigh a_chosen a_bestOf (nI nm) a_markElements a_markBits a_markPins, cw_i g a_kindOf 60 kdf, cw_i g a_depthOf 60 dpf, cw_i g a_lengthOf 60 lnf, cw_i g a_classOf 60 clf, cw_i g a_baseOf 60 saf, cw_l g a_bits 4000 btf, cw_z g a_pinned 4000 pnf, cw_i g a_lengths 4 lf, cw_i g a_stackArray 5 skf, cw_i g a_stackAt 5 atf] H locs := hZ.sub [10, 0, 1, 2, 3, 4, 5, 6, 7, 8, 9] (by decide +kernel) rfl
                    exact zz_iret hC hZ (⟨8, i_lastArray, i_lastPlace, na, ne, kdf, dpf, lnf, clf, saf, btf, pnf, lf, skf, atf, h_M, zz_GW.rf, by rw [sp_gR, edc, ell, if_pos (zl_gV c3 c8), if_pos hnp, if_neg (fun z => by rcases hmu with q | ⟨j, q1, q2⟩; (exact c16 q); (exact absurd (z.1 j (by omega)) (by omega)))], by rw [if_pos (by decide)], by rw [if_pos (by decide)], rfl⟩) (Nat.le_of_ble_eq_true rfl) (Nat.le_of_ble_eq_true rfl) dX8_grid_211
                  · refine lv_lload hx hb dX8_grid_184 (lv_at hl 4 rfl) ?_
                    refine lv_ldc2 hx hb hown (hts _ zk_903) dX8_grid_186 ?_
                    refine zz_lcmp_gt (tgt := 205) hC dX8_grid_189 dX8_grid_190 (by decide) (fun c19 => ?_) (fun c19 => ?_)
                    · refine lv_aload_n hx hb dX8_grid_205 rfl (lv_at hl 5 rfl) ?_
                      refine lv_bipush (v := 8) hx hb dX8_grid_206 (by decide) ?_
                      refine zz_iV (As := [.int 8]) (wc := [cw_k7 h0 (nI na) (nI ne) a_kindOf a_depthOf a_lengthOf a_classOf a_baseOf a_bits a_pinned i_code a_lengths a_stackArray a_stackOther a_stackAt i_lastArray i_lastPlace a_path a_held a_alike a_hashes (nI nd) a_decisionArray a_decisionPlace a_candidateMany a_candidates (nI nr) a_ruleSort a_ruleArray a_ruleWeight a_ruleLow a_ruleHigh a_chosen a_bestOf (nI nm) a_markElements a_markBits a_markPins]) (wr := [cw_i g a_kindOf 60 kdf, cw_i g a_depthOf 60 dpf, cw_i g a_lengthOf 60 lnf, cw_i g a_classOf 60 clf, cw_i g a_baseOf 60 saf, cw_l g a_bits 4000 btf, cw_z g a_pinned 4000 pnf, cw_i g a_lengths 4 lf, cw_i g a_stackArray 5 skf, cw_i g a_stackAt 5 atf]) (rest := []) hC hZ hs hl zc_X8_175 (cm_fails g h0 a_kindOf a_depthOf a_lengthOf a_classOf a_baseOf a_bits a_pinned a_lengths a_stackArray a_stackOther a_stackAt a_path a_held a_alike a_hashes a_decisionArray a_decisionPlace a_candidateMany a_candidates a_ruleSort a_ruleArray a_ruleWeight a_ruleLow a_ruleHigh a_chosen a_bestOf a_markElements a_markBits a_markPins (nI na) (nI ne) i_code i_lastArray i_lastPlace (nI nd) (nI nr) (nI nm) 8) [0] [1, 2, 3, 4, 5, 6, 7, 8, 9, 10] rfl rfl (by decide +kernel) (ci := 7) (q0 := 0) rfl rfl rfl rfl (Nat.le_of_ble_eq_true rfl) ⟨⟨Nat.le_of_ble_eq_true rfl, Nat.le_of_ble_eq_true rfl⟩, Nat.le_of_ble_eq_true rfl, Nat.le_of_ble_eq_true rfl⟩ dX8_grid_208 (fun r20 u21 H locs hp hZ => ?_)
                      obtain ⟨rfl, rfl⟩ := hp
                      have hZ : zz_Z g A s.heap [cw_i g a_kindOf 60 kdf, cw_i g a_depthOf 60 dpf, cw_i g a_lengthOf 60 lnf, cw_i g a_classOf 60 clf, cw_i g a_baseOf 60 saf, cw_l g a_bits 4000 btf, cw_z g a_pinned 4000 pnf, cw_i g a_lengths 4 lf, cw_i g a_stackArray 5 skf, cw_i g a_stackAt 5 atf, cw_k7 h0 (nI na) (nI ne) a_kindOf a_depthOf a_lengthOf a_classOf a_baseOf a_bits a_pinned 8 a_lengths a_stackArray a_stackOther a_stackAt i_lastArray i_lastPlace a_path a_held a_alike a_hashes (nI nd) a_decisionArray a_decisionPlace a_candidateMany a_candidates (nI nr) a_ruleSort a_ruleArray a_ruleWeight a_ruleLow a_ruleHigh a_chosen a_bestOf (nI nm) a_markElements a_markBits a_markPins] H locs := hZ
                      have hZ : zz_Z g A s.heap [cw_k7 h0 (nI na) (nI ne) a_kindOf a_depthOf a_lengthOf a_classOf a_baseOf a_bits a_pinned 8 a_lengths a_stackArray a_stackOther a_stackAt i_lastArray i_lastPlace a_path a_held a_alike a_hashes (nI nd) a_decisionArray a_decisionPlace a_candidateMany a_candidates (nI nr) a_ruleSort a_ruleArray a_ruleWeight a_ruleLow a_ruleHigh a_chosen a_bestOf (nI nm) a_markElements a_markBits a_markPins, cw_i g a_kindOf 60 kdf, cw_i g a_depthOf 60 dpf, cw_i g a_lengthOf 60 lnf, cw_i g a_classOf 60 clf, cw_i g a_baseOf 60 saf, cw_l g a_bits 4000 btf, cw_z g a_pinned 4000 pnf, cw_i g a_lengths 4 lf, cw_i g a_stackArray 5 skf, cw_i g a_stackAt 5 atf] H locs := hZ.sub [10, 0, 1, 2, 3, 4, 5, 6, 7, 8, 9] (by decide +kernel) rfl
                      exact zz_iret hC hZ (⟨8, i_lastArray, i_lastPlace, na, ne, kdf, dpf, lnf, clf, saf, btf, pnf, lf, skf, atf, h_M, zz_GW.rf, by rw [sp_gR, edc, ell, if_pos (zl_gV c3 c8), if_pos hnp, if_neg (zl_roomN ((show i2 = dd by omega) ▸ hA c16) hd4 (by omega) (by omega) (Or.inl c19))], by rw [if_pos (by decide)], by rw [if_pos (by decide)], rfl⟩) (Nat.le_of_ble_eq_true rfl) (Nat.le_of_ble_eq_true rfl) dX8_grid_211
                    · refine lv_aload_n hx hb dX8_grid_193 rfl (lv_at hl 5 rfl) ?_
                      refine lv_lload hx hb dX8_grid_194 (lv_at hl 4 rfl) ?_
                      refine lv_l2i hx hb dX8_grid_196 rfl ?_
                      refine lv_lload hx hb dX8_grid_197 (lv_at hl 3 rfl) ?_
                      refine zz_iV (As := [.int mn.toInt32, .long al]) (wc := [cw_k7 h0 (nI na) (nI ne) a_kindOf a_depthOf a_lengthOf a_classOf a_baseOf a_bits a_pinned i_code a_lengths a_stackArray a_stackOther a_stackAt i_lastArray i_lastPlace a_path a_held a_alike a_hashes (nI nd) a_decisionArray a_decisionPlace a_candidateMany a_candidates (nI nr) a_ruleSort a_ruleArray a_ruleWeight a_ruleLow a_ruleHigh a_chosen a_bestOf (nI nm) a_markElements a_markBits a_markPins]) (wr := [cw_i g a_kindOf 60 kdf, cw_i g a_depthOf 60 dpf, cw_i g a_lengthOf 60 lnf, cw_i g a_classOf 60 clf, cw_i g a_baseOf 60 saf, cw_l g a_bits 4000 btf, cw_z g a_pinned 4000 pnf, cw_i g a_lengths 4 lf, cw_i g a_stackArray 5 skf, cw_i g a_stackAt 5 atf]) (rest := []) hC hZ hs hl zc_X8_191 (cm_isRoom g h0 a_kindOf a_depthOf a_lengthOf a_classOf a_baseOf a_bits a_pinned a_lengths a_stackArray a_stackOther a_stackAt a_path a_held a_alike a_hashes a_decisionArray a_decisionPlace a_candidateMany a_candidates a_ruleSort a_ruleArray a_ruleWeight a_ruleLow a_ruleHigh a_chosen a_bestOf a_markElements a_markBits a_markPins (nI na) (nI ne) i_code i_lastArray i_lastPlace (nI nd) (nI nr) (nI nm) mn.toInt32 al) [0] [1, 2, 3, 4, 5, 6, 7, 8, 9, 10] rfl rfl (by decide +kernel) (ci := 7) (q0 := 0) rfl rfl rfl rfl (Nat.le_of_ble_eq_true rfl) ⟨⟨Nat.le_of_ble_eq_true rfl, Nat.le_of_ble_eq_true rfl⟩, Nat.le_of_ble_eq_true rfl, Nat.le_of_ble_eq_true rfl⟩ dX8_grid_199 (fun r22 u23 H locs hp hZ => ?_)
                      obtain ⟨rfl, rfl⟩ := hp
                      have hZ : zz_Z g A s.heap [cw_i g a_kindOf 60 kdf, cw_i g a_depthOf 60 dpf, cw_i g a_lengthOf 60 lnf, cw_i g a_classOf 60 clf, cw_i g a_baseOf 60 saf, cw_l g a_bits 4000 btf, cw_z g a_pinned 4000 pnf, cw_i g a_lengths 4 lf, cw_i g a_stackArray 5 skf, cw_i g a_stackAt 5 atf, cw_k7 h0 (nI na) (nI ne) a_kindOf a_depthOf a_lengthOf a_classOf a_baseOf a_bits a_pinned i_code a_lengths a_stackArray a_stackOther a_stackAt i_lastArray i_lastPlace a_path a_held a_alike a_hashes (nI nd) a_decisionArray a_decisionPlace a_candidateMany a_candidates (nI nr) a_ruleSort a_ruleArray a_ruleWeight a_ruleLow a_ruleHigh a_chosen a_bestOf (nI nm) a_markElements a_markBits a_markPins] H locs := hZ
                      refine lv_if_ne (tgt := 212) hx hb dX8_grid_202 (by decide) (fun c24 => ?_) (fun c24 => ?_)
                      · have hdi : i2 = dd := by omega
                        have hAA : zz_AC ll dd mn al ti := hdi ▸ hA c16
                        obtain ⟨hT0, hE0⟩ := zl_roomG hAA (by omega) (by omega) (by omega) (by omega) (zl_nlt64 c19) c24
                        have hlim := hAA.1
                        obtain ⟨el0, _⟩ := hll 0 (by omega)
                        have hR1 := zz_R1T (ll := ll) (dd := dd) (by omega)
                        have hR2 := zz_R1E (ll := ll) (dd := dd) (by omega)
                        have hl0 := hlim 0 (by omega)
                        refine lv_aload_n hx hb dX8_grid_212 rfl (lv_at hl 5 rfl) ?_
                        refine zz_get hC hZ 10 rfl zf_X8_103 rfl dX8_grid_213 ?_
                        refine lv_istore (lv' := [(14, .int (nI na)), (13, .int mu), (11, .long ti), (9, .long al), (7, .long mn), (0, .ref h0), (1, .int x1), (2, .int (nI dd)), (3, .int x3), (4, .int x4), (5, .int x5), (6, .int x6)]) hx hb dX8_grid_216 hl (by decide) rfl (fun ls hl => ?_)
                        refine lv_aload_n hx hb dX8_grid_218 rfl (lv_at hl 5 rfl) ?_
                        refine lv_iload_n hx hb dX8_grid_219 rfl (lv_at hl 6 rfl) ?_
                        refine lv_iload_n hx hb dX8_grid_220 rfl (lv_at hl 7 rfl) ?_
                        refine lv_iconst (v := -1) hx hb dX8_grid_221 (by decide) ?_
                        refine lv_aload_n hx hb dX8_grid_222 rfl (lv_at hl 5 rfl) ?_
                        refine zz_get hC hZ 10 rfl zf_X8_33 rfl dX8_grid_223 ?_
                        refine lv_iconst (v := 0) hx hb dX8_grid_226 (by decide) ?_
                        refine zz_iald hC hZ 7 rfl (by unfold vp_in; decide) dX8_grid_227 ?_
                        refine zz_topi (v := nI (ll 0)) (by rw [zl_c0]; exact el0) ?_
                        refine zz_iV (As := [.int x1, .int (nI dd), .int (-1), .int (nI (ll 0))]) (wc := [cw_k7 h0 (nI na) (nI ne) a_kindOf a_depthOf a_lengthOf a_classOf a_baseOf a_bits a_pinned i_code a_lengths a_stackArray a_stackOther a_stackAt i_lastArray i_lastPlace a_path a_held a_alike a_hashes (nI nd) a_decisionArray a_decisionPlace a_candidateMany a_candidates (nI nr) a_ruleSort a_ruleArray a_ruleWeight a_ruleLow a_ruleHigh a_chosen a_bestOf (nI nm) a_markElements a_markBits a_markPins, cw_i g a_kindOf 60 kdf, cw_i g a_depthOf 60 dpf, cw_i g a_lengthOf 60 lnf, cw_i g a_classOf 60 clf, cw_i g a_baseOf 60 saf, cw_l g a_bits 4000 btf, cw_z g a_pinned 4000 pnf]) (wr := [cw_i g a_lengths 4 lf, cw_i g a_stackArray 5 skf, cw_i g a_stackAt 5 atf]) (rest := []) hC hZ hs hl zc_X8_194 (cm_make g h0 a_kindOf a_depthOf a_lengthOf a_classOf a_baseOf a_bits a_pinned a_lengths a_stackArray a_stackOther a_stackAt a_path a_held a_alike a_hashes a_decisionArray a_decisionPlace a_candidateMany a_candidates a_ruleSort a_ruleArray a_ruleWeight a_ruleLow a_ruleHigh a_chosen a_bestOf a_markElements a_markBits a_markPins na ne nd nr nm i_code i_lastArray i_lastPlace (ll 0) kdf dpf lnf clf saf btf pnf x1 (nI dd) (-1) (by omega) (by omega)) [10, 0, 1, 2, 3, 4, 5, 6] [7, 8, 9] rfl rfl (by decide +kernel) (ci := 7) (q0 := 0) rfl rfl rfl rfl (Nat.le_of_ble_eq_true rfl) ⟨⟨Nat.le_of_ble_eq_true rfl, Nat.le_of_ble_eq_true rfl⟩, Nat.le_of_ble_eq_true rfl, Nat.le_of_ble_eq_true rfl⟩ dX8_grid_228 (fun r25 u26 H locs hp hZ => ?_)
                        obtain ⟨bt2_27, pn2_28, rfl, f29, f30, f31, f32, rfl⟩ := hp
                        have hZ : zz_Z g A s.heap [cw_i g a_lengths 4 lf, cw_i g a_stackArray 5 skf, cw_i g a_stackAt 5 atf, cw_k7 h0 (nI (na + 1)) (nI (ne + (ll 0))) a_kindOf a_depthOf a_lengthOf a_classOf a_baseOf a_bits a_pinned i_code a_lengths a_stackArray a_stackOther a_stackAt i_lastArray i_lastPlace a_path a_held a_alike a_hashes (nI nd) a_decisionArray a_decisionPlace a_candidateMany a_candidates (nI nr) a_ruleSort a_ruleArray a_ruleWeight a_ruleLow a_ruleHigh a_chosen a_bestOf (nI nm) a_markElements a_markBits a_markPins, cw_i g a_kindOf 60 (upd kdf na x1), cw_i g a_depthOf 60 (upd dpf na (nI dd)), cw_i g a_lengthOf 60 (upd lnf na (nI (ll 0))), cw_i g a_classOf 60 (upd clf na (-1)), cw_i g a_baseOf 60 (upd saf na (nI ne)), cw_l g a_bits 4000 bt2_27, cw_z g a_pinned 4000 pn2_28] H locs := hZ
                        refine lv_istore (lv' := [(15, .int (nI na)), (14, .int (nI na)), (13, .int mu), (11, .long ti), (9, .long al), (7, .long mn), (0, .ref h0), (1, .int x1), (2, .int (nI dd)), (3, .int x3), (4, .int x4), (5, .int x5), (6, .int x6)]) hx hb dX8_grid_231 hl (by decide) rfl (fun ls hl => ?_)
                        refine lv_iconst (v := 0) hx hb dX8_grid_233 (by decide) ?_
                        refine lv_istore (lv' := [(16, .int 0), (15, .int (nI na)), (14, .int (nI na)), (13, .int mu), (11, .long ti), (9, .long al), (7, .long mn), (0, .ref h0), (1, .int x1), (2, .int (nI dd)), (3, .int x3), (4, .int x4), (5, .int x5), (6, .int x6)]) hx hb dX8_grid_234 hl (by decide) rfl (fun ls hl => ?_)
                        refine lv_aload_n hx hb dX8_grid_236 rfl (lv_at hl 7 rfl) ?_
                        refine zz_get hC hZ 3 rfl zf_X8_36 rfl dX8_grid_237 ?_
                        refine lv_iconst (v := 0) hx hb dX8_grid_240 (by decide) ?_
                        refine lv_iload hx hb dX8_grid_241 (lv_at hl 1 rfl) ?_
                        refine zz_iast hC hZ 1 rfl (by unfold vp_in; decide) dX8_grid_243 (fun H locs hZ => ?_)
                        rw [zl_c0] at hZ
                        have hZ : zz_Z g A s.heap [cw_i g a_lengths 4 lf, cw_i g a_stackArray 5 (upd skf 0 (nI na)), cw_i g a_stackAt 5 atf, cw_k7 h0 (nI (na + 1)) (nI (ne + (ll 0))) a_kindOf a_depthOf a_lengthOf a_classOf a_baseOf a_bits a_pinned i_code a_lengths a_stackArray a_stackOther a_stackAt i_lastArray i_lastPlace a_path a_held a_alike a_hashes (nI nd) a_decisionArray a_decisionPlace a_candidateMany a_candidates (nI nr) a_ruleSort a_ruleArray a_ruleWeight a_ruleLow a_ruleHigh a_chosen a_bestOf (nI nm) a_markElements a_markBits a_markPins, cw_i g a_kindOf 60 (upd kdf na x1), cw_i g a_depthOf 60 (upd dpf na (nI dd)), cw_i g a_lengthOf 60 (upd lnf na (nI (ll 0))), cw_i g a_classOf 60 (upd clf na (-1)), cw_i g a_baseOf 60 (upd saf na (nI ne)), cw_l g a_bits 4000 bt2_27, cw_z g a_pinned 4000 pn2_28] H locs := hZ
                        refine lv_aload_n hx hb dX8_grid_244 rfl (lv_at hl 7 rfl) ?_
                        refine zz_get hC hZ 3 rfl zf_X8_42 rfl dX8_grid_245 ?_
                        refine lv_iconst (v := 0) hx hb dX8_grid_248 (by decide) ?_
                        refine lv_iconst (v := 0) hx hb dX8_grid_249 (by decide) ?_
                        refine zz_iast hC hZ 2 rfl (by unfold vp_in; decide) dX8_grid_250 (fun H locs hZ => ?_)
                        rw [zl_c0] at hZ
                        have hZ : zz_Z g A s.heap [cw_i g a_lengths 4 lf, cw_i g a_stackArray 5 (upd skf 0 (nI na)), cw_i g a_stackAt 5 (upd atf 0 0), cw_k7 h0 (nI (na + 1)) (nI (ne + (ll 0))) a_kindOf a_depthOf a_lengthOf a_classOf a_baseOf a_bits a_pinned i_code a_lengths a_stackArray a_stackOther a_stackAt i_lastArray i_lastPlace a_path a_held a_alike a_hashes (nI nd) a_decisionArray a_decisionPlace a_candidateMany a_candidates (nI nr) a_ruleSort a_ruleArray a_ruleWeight a_ruleLow a_ruleHigh a_chosen a_bestOf (nI nm) a_markElements a_markBits a_markPins, cw_i g a_kindOf 60 (upd kdf na x1), cw_i g a_depthOf 60 (upd dpf na (nI dd)), cw_i g a_lengthOf 60 (upd lnf na (nI (ll 0))), cw_i g a_classOf 60 (upd clf na (-1)), cw_i g a_baseOf 60 (upd saf na (nI ne)), cw_l g a_bits 4000 bt2_27, cw_z g a_pinned 4000 pn2_28] H locs := hZ
                        have LP33 : ∀ (N33 : Nat) (lev : Int32) (L : Nat) (na1 : Nat) (ne1 : Nat) (av : Nat → Nat) (B : Nat → Nat) (kd1 : Nat → Int32) (dp1 : Nat → Int32) (ln1 : Nat → Int32) (cl1 : Nat → Int32) (sa1 : Nat → Int32) (bt1 : Nat → Int64) (pn1 : Nat → Int32) (sk1 : Nat → Int32) (at1 : Nat → Int32) (H : Heap) (locs : List Loc) (ls : Array Slot), (lev = nI L + (-1)) → (L ≤ dd) → (zz_In2 ll av B dd na1 sk1 at1 ln1 sa1 dp1 L) → (na1 + zz_R (zz_TF ll dd) ll av L ≤ 60) → (ne1 + zz_R (zz_EF ll dd) ll av L ≤ 4000) → (zz_MI na1 ne1 dp1 sa1 ln1 bt1) → (zz_GW na ne na1 ne1 dpf saf lnf dp1 sa1 ln1) → (sp_gF x1 ll (dd - 0 - 1) 0 ne (ll 0 - 0) 0 (sp_mk x1 (nI dd) (-1) (ll 0) (na, ne, kdf, dpf, clf, saf, lnf, btf)) = sp_fin x1 ll dd B av L (na1, ne1, kd1, dp1, cl1, sa1, ln1, bt1)) → (pn1 = zz_mp pnf ne (ne1 - ne)) → (2 * zz_R (zz_TF ll dd) ll av L + L) < N33 → zz_Z g A s.heap [cw_i g a_lengths 4 lf, cw_i g a_stackArray 5 sk1, cw_i g a_stackAt 5 at1, cw_k7 h0 (nI na1) (nI ne1) a_kindOf a_depthOf a_lengthOf a_classOf a_baseOf a_bits a_pinned i_code a_lengths a_stackArray a_stackOther a_stackAt i_lastArray i_lastPlace a_path a_held a_alike a_hashes (nI nd) a_decisionArray a_decisionPlace a_candidateMany a_candidates (nI nr) a_ruleSort a_ruleArray a_ruleWeight a_ruleLow a_ruleHigh a_chosen a_bestOf (nI nm) a_markElements a_markBits a_markPins, cw_i g a_kindOf 60 kd1, cw_i g a_depthOf 60 dp1, cw_i g a_lengthOf 60 ln1, cw_i g a_classOf 60 cl1, cw_i g a_baseOf 60 sa1, cw_l g a_bits 4000 bt1, cw_z g a_pinned 4000 pn1] H locs → lv_has ls 19 [(16, .int lev), (15, .int (nI na)), (14, .int (nI na)), (13, .int mu), (11, .long ti), (9, .long al), (7, .long mn), (0, .ref h0), (1, .int x1), (2, .int (nI dd)), (3, .int x3), (4, .int x4), (5, .int x5), (6, .int x6)] → W p l e rm_my_grid s m args below meth c H locs 0 0 (zz_QI below g args s A rm_my_grid.cells rm_my_grid.slots (po_my_grid g h0 a_kindOf a_depthOf a_lengthOf a_classOf a_baseOf a_bits a_pinned a_lengths a_stackArray a_stackOther a_stackAt a_path a_held a_alike a_hashes a_decisionArray a_decisionPlace a_candidateMany a_candidates a_ruleSort a_ruleArray a_ruleWeight a_ruleLow a_ruleHigh a_chosen a_bestOf a_markElements a_markBits a_markPins na ne nd nr nm i_code i_lastArray i_lastPlace kdf dpf lnf clf saf btf pnf mlf skf atf x1 x2 x3 x4 x5 x6 h_M)) (F0 m 251 ls []) := by
                          intro N33
                          induction N33 with
                          | zero =>
                            intro lev L na1 ne1 av B kd1 dp1 ln1 cl1 sa1 bt1 pn1 sk1 at1 H locs ls hv0 hv1 hI hv3 hv4 hM1 hG hFI hpn hN33
                            exact absurd hN33 (Nat.not_lt_zero _)
                          | succ N33 ih33 =>
                            intro lev L na1 ne1 av B kd1 dp1 ln1 cl1 sa1 bt1 pn1 sk1 at1 H locs ls hv0 hv1 hI hv3 hv4 hM1 hG hFI hpn hN33 hZ hl
                            refine lv_iload hx hb dX8_grid_251 (lv_at hl 0 rfl) ?_
                            refine lv_if_lt (tgt := 376) hx hb dX8_grid_253 (by decide) (fun c34 => ?_) (fun c34 => ?_)
                            · refine lv_aload_n hx hb dX8_grid_376 rfl (lv_at hl 7 rfl) ?_
                              refine lv_iload hx hb dX8_grid_377 (lv_at hl 2 rfl) ?_
                              refine zz_iV (As := [.int (nI na)]) (wc := [cw_k7 h0 (nI na1) (nI ne1) a_kindOf a_depthOf a_lengthOf a_classOf a_baseOf a_bits a_pinned i_code a_lengths a_stackArray a_stackOther a_stackAt i_lastArray i_lastPlace a_path a_held a_alike a_hashes (nI nd) a_decisionArray a_decisionPlace a_candidateMany a_candidates (nI nr) a_ruleSort a_ruleArray a_ruleWeight a_ruleLow a_ruleHigh a_chosen a_bestOf (nI nm) a_markElements a_markBits a_markPins]) (wr := [cw_i g a_lengths 4 lf, cw_i g a_stackArray 5 sk1, cw_i g a_stackAt 5 at1, cw_i g a_kindOf 60 kd1, cw_i g a_depthOf 60 dp1, cw_i g a_lengthOf 60 ln1, cw_i g a_classOf 60 cl1, cw_i g a_baseOf 60 sa1, cw_l g a_bits 4000 bt1, cw_z g a_pinned 4000 pn1]) (rest := []) hC hZ hs hl zc_X8_183 (cm_fine g h0 a_kindOf a_depthOf a_lengthOf a_classOf a_baseOf a_bits a_pinned a_lengths a_stackArray a_stackOther a_stackAt a_path a_held a_alike a_hashes a_decisionArray a_decisionPlace a_candidateMany a_candidates a_ruleSort a_ruleArray a_ruleWeight a_ruleLow a_ruleHigh a_chosen a_bestOf a_markElements a_markBits a_markPins (nI na1) (nI ne1) i_code i_lastArray i_lastPlace (nI nd) (nI nr) (nI nm) (nI na)) [3] [0, 1, 2, 4, 5, 6, 7, 8, 9, 10] rfl rfl (by decide +kernel) (ci := 7) (q0 := 0) rfl rfl rfl rfl (Nat.le_of_ble_eq_true rfl) ⟨⟨Nat.le_of_ble_eq_true rfl, Nat.le_of_ble_eq_true rfl⟩, Nat.le_of_ble_eq_true rfl, Nat.le_of_ble_eq_true rfl⟩ dX8_grid_379 (fun r35 u36 H locs hp hZ => ?_)
                              obtain ⟨rfl, rfl⟩ := hp
                              have hZ : zz_Z g A s.heap [cw_i g a_lengths 4 lf, cw_i g a_stackArray 5 sk1, cw_i g a_stackAt 5 at1, cw_i g a_kindOf 60 kd1, cw_i g a_depthOf 60 dp1, cw_i g a_lengthOf 60 ln1, cw_i g a_classOf 60 cl1, cw_i g a_baseOf 60 sa1, cw_l g a_bits 4000 bt1, cw_z g a_pinned 4000 pn1, cw_k7 h0 (nI na1) (nI ne1) a_kindOf a_depthOf a_lengthOf a_classOf a_baseOf a_bits a_pinned 0 a_lengths a_stackArray a_stackOther a_stackAt i_lastArray i_lastPlace a_path a_held a_alike a_hashes (nI nd) a_decisionArray a_decisionPlace a_candidateMany a_candidates (nI nr) a_ruleSort a_ruleArray a_ruleWeight a_ruleLow a_ruleHigh a_chosen a_bestOf (nI nm) a_markElements a_markBits a_markPins] H locs := hZ
                              have hZ : zz_Z g A s.heap [cw_k7 h0 (nI na1) (nI ne1) a_kindOf a_depthOf a_lengthOf a_classOf a_baseOf a_bits a_pinned 0 a_lengths a_stackArray a_stackOther a_stackAt i_lastArray i_lastPlace a_path a_held a_alike a_hashes (nI nd) a_decisionArray a_decisionPlace a_candidateMany a_candidates (nI nr) a_ruleSort a_ruleArray a_ruleWeight a_ruleLow a_ruleHigh a_chosen a_bestOf (nI nm) a_markElements a_markBits a_markPins, cw_i g a_kindOf 60 kd1, cw_i g a_depthOf 60 dp1, cw_i g a_lengthOf 60 ln1, cw_i g a_classOf 60 cl1, cw_i g a_baseOf 60 sa1, cw_l g a_bits 4000 bt1, cw_z g a_pinned 4000 pn1, cw_i g a_lengths 4 lf, cw_i g a_stackArray 5 sk1, cw_i g a_stackAt 5 at1] H locs := hZ.sub [10, 3, 4, 5, 6, 7, 8, 9, 0, 1, 2] (by decide +kernel) rfl
                              exact zz_iret hC hZ (⟨0, i_lastArray, i_lastPlace, na1, ne1, kd1, dp1, ln1, cl1, sa1, bt1, pn1, lf, sk1, at1, hM1, hG, by rw [sp_gR, edc, ell, if_pos (zl_gV c3 c8), if_pos hnp, if_pos (zl_roomG2 hd1 hd4 hlim hT0 hE0)], by rw [if_neg (nI_pos (by omega)), edc, ell, hFI, zl_L0 hv0 (by omega) c34, sp_fin], by rw [if_neg (nI_pos (by omega))]; exact hpn, rfl⟩) (Nat.le_of_ble_eq_true rfl) (Nat.le_of_ble_eq_true rfl) dX8_grid_382
                            · obtain ⟨K, eK, elev⟩ := zl_lev hv0 c34
                              subst eK
                              have hl : lv_has ls 19 [(16, .int (nI K)), (15, .int (nI na)), (14, .int (nI na)), (13, .int mu), (11, .long ti), (9, .long al), (7, .long mn), (0, .ref h0), (1, .int x1), (2, .int (nI dd)), (3, .int x3), (4, .int x4), (5, .int x5), (6, .int x6)] := by rw [← elev]; exact hl
                              obtain ⟨sA, i1, i2_, i3, i4, i5, i6, i7, i8⟩ := hI K (by omega)
                              have hlK := hlim K (by omega)
                              have hna1 := hM1.1.1
                              have hne1 := hM1.1.2.1
                              have hz1 : zz_R (zz_TF ll dd) ll av (K + 1) = zz_R (zz_TF ll dd) ll av K + (ll K - av K) * zz_TF ll dd (K + 1) := by rw [zz_R]
                              have hz2 : zz_R (zz_EF ll dd) ll av (K + 1) = zz_R (zz_EF ll dd) ll av K + (ll K - av K) * zz_EF ll dd (K + 1) := by rw [zz_R]
                              refine lv_aload_n hx hb dX8_grid_256 rfl (lv_at hl 7 rfl) ?_
                              refine zz_get hC hZ 3 rfl zf_X8_36 rfl dX8_grid_257 ?_
                              refine lv_iload hx hb dX8_grid_260 (lv_at hl 0 rfl) ?_
                              have bd37 : K < 5 := by omega
                              refine zz_ialdn hC hZ 1 rfl bd37 (by decide) dX8_grid_262 ?_
                              refine zz_topi (v := nI sA) (i1) ?_
                              refine lv_istore (lv' := [(17, .int (nI sA)), (16, .int (nI K)), (15, .int (nI na)), (14, .int (nI na)), (13, .int mu), (11, .long ti), (9, .long al), (7, .long mn), (0, .ref h0), (1, .int x1), (2, .int (nI dd)), (3, .int x3), (4, .int x4), (5, .int x5), (6, .int x6)]) hx hb dX8_grid_263 hl (by decide) rfl (fun ls hl => ?_)
                              refine lv_iload hx hb dX8_grid_265 (lv_at hl 1 rfl) ?_
                              refine lv_iload_n hx hb dX8_grid_267 rfl (lv_at hl 10 rfl) ?_
                              refine lv_iconst (v := 1) hx hb dX8_grid_268 (by decide) ?_
                              refine lv_isub hx hb dX8_grid_269 ?_
                              refine zz_topi (v := nI (dd - 1)) (pk_sub (b := 1) (by omega)) ?_
                              have bd39 : K < 2 ^ 31 := by omega
                              have bd40 : (dd - 1) < 2 ^ 31 := by omega
                              refine lv_icmp_eq (tgt := 290) hx hb dX8_grid_270 (by decide) (fun c38 => ?_) (fun c38 => ?_)
                              · have nc38 : K = (dd - 1) := (nI_eq bd39 bd40).mp (show nI (K) = nI ((dd - 1)) from c38)
                                refine lv_iinc (v := (nI K) + (-1)) (lv' := [(16, .int ((nI K) + (-1))), (17, .int (nI sA)), (15, .int (nI na)), (14, .int (nI na)), (13, .int mu), (11, .long ti), (9, .long al), (7, .long mn), (0, .ref h0), (1, .int x1), (2, .int (nI dd)), (3, .int x3), (4, .int x4), (5, .int x5), (6, .int x6)]) hx hb dX8_grid_290 hl (k := 1) rfl (by first | rfl | decide) (by decide) rfl (fun ls hl => ?_)
                                refine lv_goto (tgt := 251) hx hb dX8_grid_293 (by decide) ?_
                                exact ih33 ((nI K) + (-1)) K na1 ne1 av B kd1 dp1 ln1 cl1 sa1 bt1 pn1 sk1 at1 H locs ls (rfl) (by omega) (zz_In2_pop hI) (by omega) (by omega) (hM1) (hG) (hFI.trans (sp_fin_pop (by omega))) (hpn) (by omega) hZ (lv_sub hl [0, 2, 3, 4, 5, 6, 7, 8, 9, 10, 11, 12, 13, 14] rfl)
                              · have nc38 : ¬ K = (dd - 1) := fun zq => c38 (show nI (K) = nI ((dd - 1)) from (nI_eq bd39 bd40).mpr zq)
                                refine lv_aload_n hx hb dX8_grid_273 rfl (lv_at hl 8 rfl) ?_
                                refine zz_get hC hZ 3 rfl zf_X8_42 rfl dX8_grid_274 ?_
                                refine lv_iload hx hb dX8_grid_277 (lv_at hl 1 rfl) ?_
                                refine zz_ialdn hC hZ 2 rfl bd37 (by decide) dX8_grid_279 ?_
                                refine zz_topi (v := nI (av K)) (i6) ?_
                                refine lv_aload_n hx hb dX8_grid_280 rfl (lv_at hl 8 rfl) ?_
                                refine zz_get hC hZ 3 rfl zf_X8_16 rfl dX8_grid_281 ?_
                                refine lv_iload hx hb dX8_grid_284 (lv_at hl 0 rfl) ?_
                                have bd41 : sA < 60 := by omega
                                refine zz_ialdn hC hZ 6 rfl bd41 (by decide) dX8_grid_286 ?_
                                refine zz_topi (v := nI (ll K)) (i3) ?_
                                have bd43 : (av K) < 2 ^ 31 := by omega
                                have bd44 : (ll K) < 2 ^ 31 := by omega
                                refine lv_icmp_ne (tgt := 296) hx hb dX8_grid_287 (by decide) (fun c42 => ?_) (fun c42 => ?_)
                                · have nc42 : ¬ (av K) = (ll K) := fun zq => c42 (show nI ((av K)) = nI ((ll K)) from (nI_eq bd43 bd44).mpr zq)
                                  have hav : av K < ll K := by omega
                                  have hl1 := hlim (K + 1) (by omega)
                                  obtain ⟨elK, _⟩ := hll (K + 1) (by omega)
                                  have hpT := zz_R_push (av := av) (K := K) (zz_TF_r (ll := ll) (dd := dd) (j := K + 1) (by omega)) hav
                                  have hpE := zz_R_push (av := av) (K := K) (zz_EF_r (ll := ll) (dd := dd) (j := K + 1) (by omega)) hav
                                  refine lv_aload_n hx hb dX8_grid_296 rfl (lv_at hl 8 rfl) ?_
                                  refine lv_iload_n hx hb dX8_grid_297 rfl (lv_at hl 9 rfl) ?_
                                  refine lv_iload_n hx hb dX8_grid_298 rfl (lv_at hl 10 rfl) ?_
                                  refine lv_iload hx hb dX8_grid_299 (lv_at hl 1 rfl) ?_
                                  refine lv_isub hx hb dX8_grid_301 ?_
                                  refine zz_topi (v := nI (dd - K)) (pk_sub (by omega)) ?_
                                  refine lv_iconst (v := 1) hx hb dX8_grid_302 (by decide) ?_
                                  refine lv_isub hx hb dX8_grid_303 ?_
                                  refine zz_topi (v := nI ((dd - K) - 1)) (pk_sub (b := 1) (by omega)) ?_
                                  refine lv_iconst (v := -1) hx hb dX8_grid_304 (by decide) ?_
                                  refine lv_aload_n hx hb dX8_grid_305 rfl (lv_at hl 8 rfl) ?_
                                  refine zz_get hC hZ 3 rfl zf_X8_33 rfl dX8_grid_306 ?_
                                  refine lv_iload hx hb dX8_grid_309 (lv_at hl 1 rfl) ?_
                                  refine lv_iconst (v := 1) hx hb dX8_grid_311 (by decide) ?_
                                  refine lv_iadd hx hb dX8_grid_312 ?_
                                  refine zz_topi (v := nI (K + 1)) (nI_1 _) ?_
                                  have bd45 : (K + 1) < 4 := by omega
                                  refine zz_ialdn hC hZ 0 rfl bd45 (by decide) dX8_grid_313 ?_
                                  refine zz_topi (v := nI (ll (K + 1))) (elK) ?_
                                  refine zz_iV (As := [.int x1, .int (nI ((dd - K) - 1)), .int (-1), .int (nI (ll (K + 1)))]) (wc := [cw_k7 h0 (nI na1) (nI ne1) a_kindOf a_depthOf a_lengthOf a_classOf a_baseOf a_bits a_pinned i_code a_lengths a_stackArray a_stackOther a_stackAt i_lastArray i_lastPlace a_path a_held a_alike a_hashes (nI nd) a_decisionArray a_decisionPlace a_candidateMany a_candidates (nI nr) a_ruleSort a_ruleArray a_ruleWeight a_ruleLow a_ruleHigh a_chosen a_bestOf (nI nm) a_markElements a_markBits a_markPins, cw_i g a_kindOf 60 kd1, cw_i g a_depthOf 60 dp1, cw_i g a_lengthOf 60 ln1, cw_i g a_classOf 60 cl1, cw_i g a_baseOf 60 sa1, cw_l g a_bits 4000 bt1, cw_z g a_pinned 4000 pn1]) (wr := [cw_i g a_lengths 4 lf, cw_i g a_stackArray 5 sk1, cw_i g a_stackAt 5 at1]) (rest := []) hC hZ hs hl zc_X8_194 (cm_make g h0 a_kindOf a_depthOf a_lengthOf a_classOf a_baseOf a_bits a_pinned a_lengths a_stackArray a_stackOther a_stackAt a_path a_held a_alike a_hashes a_decisionArray a_decisionPlace a_candidateMany a_candidates a_ruleSort a_ruleArray a_ruleWeight a_ruleLow a_ruleHigh a_chosen a_bestOf a_markElements a_markBits a_markPins na1 ne1 nd nr nm i_code i_lastArray i_lastPlace (ll (K + 1)) kd1 dp1 ln1 cl1 sa1 bt1 pn1 x1 (nI ((dd - K) - 1)) (-1) (by omega) (by omega)) [3, 4, 5, 6, 7, 8, 9, 10] [0, 1, 2] rfl rfl (by decide +kernel) (ci := 7) (q0 := 0) rfl rfl rfl rfl (Nat.le_of_ble_eq_true rfl) ⟨⟨Nat.le_of_ble_eq_true rfl, Nat.le_of_ble_eq_true rfl⟩, Nat.le_of_ble_eq_true rfl, Nat.le_of_ble_eq_true rfl⟩ dX8_grid_314 (fun r46 u47 H locs hp hZ => ?_)
                                  obtain ⟨bt2_48, pn2_49, rfl, f50, f51, f52, f53, rfl⟩ := hp
                                  have hZ : zz_Z g A s.heap [cw_i g a_lengths 4 lf, cw_i g a_stackArray 5 sk1, cw_i g a_stackAt 5 at1, cw_k7 h0 (nI (na1 + 1)) (nI (ne1 + (ll (K + 1)))) a_kindOf a_depthOf a_lengthOf a_classOf a_baseOf a_bits a_pinned i_code a_lengths a_stackArray a_stackOther a_stackAt i_lastArray i_lastPlace a_path a_held a_alike a_hashes (nI nd) a_decisionArray a_decisionPlace a_candidateMany a_candidates (nI nr) a_ruleSort a_ruleArray a_ruleWeight a_ruleLow a_ruleHigh a_chosen a_bestOf (nI nm) a_markElements a_markBits a_markPins, cw_i g a_kindOf 60 (upd kd1 na1 x1), cw_i g a_depthOf 60 (upd dp1 na1 (nI ((dd - K) - 1))), cw_i g a_lengthOf 60 (upd ln1 na1 (nI (ll (K + 1)))), cw_i g a_classOf 60 (upd cl1 na1 (-1)), cw_i g a_baseOf 60 (upd sa1 na1 (nI ne1)), cw_l g a_bits 4000 bt2_48, cw_z g a_pinned 4000 pn2_49] H locs := hZ
                                  refine lv_istore (lv' := [(18, .int (nI na1)), (17, .int (nI sA)), (16, .int (nI K)), (15, .int (nI na)), (14, .int (nI na)), (13, .int mu), (11, .long ti), (9, .long al), (7, .long mn), (0, .ref h0), (1, .int x1), (2, .int (nI dd)), (3, .int x3), (4, .int x4), (5, .int x5), (6, .int x6)]) hx hb dX8_grid_317 hl (by decide) rfl (fun ls hl => ?_)
                                  refine lv_aload_n hx hb dX8_grid_319 rfl (lv_at hl 9 rfl) ?_
                                  refine zz_get hC hZ 3 rfl zf_X8_25 rfl dX8_grid_320 ?_
                                  refine lv_aload_n hx hb dX8_grid_323 rfl (lv_at hl 9 rfl) ?_
                                  refine zz_get hC hZ 3 rfl zf_X8_22 rfl dX8_grid_324 ?_
                                  refine lv_iload hx hb dX8_grid_327 (lv_at hl 1 rfl) ?_
                                  refine zz_ialdn hC hZ 8 rfl bd41 (by decide) dX8_grid_329 ?_
                                  refine zz_topi (v := nI (B K)) ((pk_un (by omega)).trans i4) ?_
                                  refine lv_aload_n hx hb dX8_grid_330 rfl (lv_at hl 9 rfl) ?_
                                  refine zz_get hC hZ 3 rfl zf_X8_42 rfl dX8_grid_331 ?_
                                  refine lv_iload hx hb dX8_grid_334 (lv_at hl 2 rfl) ?_
                                  refine zz_ialdn hC hZ 2 rfl bd37 (by decide) dX8_grid_336 ?_
                                  refine zz_topi (v := nI (av K)) (i6) ?_
                                  refine lv_iadd hx hb dX8_grid_337 ?_
                                  refine zz_topi (v := nI ((B K) + (av K))) (nI_add _ _) ?_
                                  refine lv_iload hx hb dX8_grid_338 (lv_at hl 0 rfl) ?_
                                  refine lv_i2l hx hb dX8_grid_340 rfl ?_
                                  have bd54 : ((B K) + (av K)) < 4000 := by omega
                                  refine zz_lastn hC hZ 9 rfl bd54 (by decide) dX8_grid_341 (fun H locs hZ => ?_)
                                  have hZ : zz_Z g A s.heap [cw_i g a_lengths 4 lf, cw_i g a_stackArray 5 sk1, cw_i g a_stackAt 5 at1, cw_k7 h0 (nI (na1 + 1)) (nI (ne1 + (ll (K + 1)))) a_kindOf a_depthOf a_lengthOf a_classOf a_baseOf a_bits a_pinned i_code a_lengths a_stackArray a_stackOther a_stackAt i_lastArray i_lastPlace a_path a_held a_alike a_hashes (nI nd) a_decisionArray a_decisionPlace a_candidateMany a_candidates (nI nr) a_ruleSort a_ruleArray a_ruleWeight a_ruleLow a_ruleHigh a_chosen a_bestOf (nI nm) a_markElements a_markBits a_markPins, cw_i g a_kindOf 60 (upd kd1 na1 x1), cw_i g a_depthOf 60 (upd dp1 na1 (nI ((dd - K) - 1))), cw_i g a_lengthOf 60 (upd ln1 na1 (nI (ll (K + 1)))), cw_i g a_classOf 60 (upd cl1 na1 (-1)), cw_i g a_baseOf 60 (upd sa1 na1 (nI ne1)), cw_l g a_bits 4000 (vp_updL bt2_48 ((B K) + (av K)) ((nI na1).toInt64)), cw_z g a_pinned 4000 pn2_49] H locs := hZ
                                  refine lv_aload_n hx hb dX8_grid_342 rfl (lv_at hl 9 rfl) ?_
                                  refine zz_get hC hZ 3 rfl zf_X8_42 rfl dX8_grid_343 ?_
                                  refine lv_iload hx hb dX8_grid_346 (lv_at hl 2 rfl) ?_
                                  refine lv_dup2_11 hx hb dX8_grid_348 rfl rfl ?_
                                  refine zz_ialdn hC hZ 2 rfl bd37 (by decide) dX8_grid_349 ?_
                                  refine zz_topi (v := nI (av K)) (i6) ?_
                                  refine lv_iconst (v := 1) hx hb dX8_grid_350 (by decide) ?_
                                  refine lv_iadd hx hb dX8_grid_351 ?_
                                  refine zz_topi (v := nI ((av K) + 1)) (nI_1 _) ?_
                                  refine zz_iastn hC hZ 2 rfl bd37 (by decide) dX8_grid_352 (fun H locs hZ => ?_)
                                  have hZ : zz_Z g A s.heap [cw_i g a_lengths 4 lf, cw_i g a_stackArray 5 sk1, cw_i g a_stackAt 5 (upd at1 K (nI ((av K) + 1))), cw_k7 h0 (nI (na1 + 1)) (nI (ne1 + (ll (K + 1)))) a_kindOf a_depthOf a_lengthOf a_classOf a_baseOf a_bits a_pinned i_code a_lengths a_stackArray a_stackOther a_stackAt i_lastArray i_lastPlace a_path a_held a_alike a_hashes (nI nd) a_decisionArray a_decisionPlace a_candidateMany a_candidates (nI nr) a_ruleSort a_ruleArray a_ruleWeight a_ruleLow a_ruleHigh a_chosen a_bestOf (nI nm) a_markElements a_markBits a_markPins, cw_i g a_kindOf 60 (upd kd1 na1 x1), cw_i g a_depthOf 60 (upd dp1 na1 (nI ((dd - K) - 1))), cw_i g a_lengthOf 60 (upd ln1 na1 (nI (ll (K + 1)))), cw_i g a_classOf 60 (upd cl1 na1 (-1)), cw_i g a_baseOf 60 (upd sa1 na1 (nI ne1)), cw_l g a_bits 4000 (vp_updL bt2_48 ((B K) + (av K)) ((nI na1).toInt64)), cw_z g a_pinned 4000 pn2_49] H locs := hZ
                                  refine lv_iinc (v := nI (K + 1)) (lv' := [(16, .int (nI (K + 1))), (18, .int (nI na1)), (17, .int (nI sA)), (15, .int (nI na)), (14, .int (nI na)), (13, .int mu), (11, .long ti), (9, .long al), (7, .long mn), (0, .ref h0), (1, .int x1), (2, .int (nI dd)), (3, .int x3), (4, .int x4), (5, .int x5), (6, .int x6)]) hx hb dX8_grid_353 hl (k := 2) rfl (nI_1 _) (by decide) rfl (fun ls hl => ?_)
                                  refine lv_aload_n hx hb dX8_grid_356 rfl (lv_at hl 9 rfl) ?_
                                  refine zz_get hC hZ 3 rfl zf_X8_36 rfl dX8_grid_357 ?_
                                  refine lv_iload hx hb dX8_grid_360 (lv_at hl 0 rfl) ?_
                                  refine lv_iload hx hb dX8_grid_362 (lv_at hl 1 rfl) ?_
                                  have bd55 : (K + 1) < 5 := by omega
                                  refine zz_iastn hC hZ 1 rfl bd55 (by decide) dX8_grid_364 (fun H locs hZ => ?_)
                                  have hZ : zz_Z g A s.heap [cw_i g a_lengths 4 lf, cw_i g a_stackArray 5 (upd sk1 (K + 1) (nI na1)), cw_i g a_stackAt 5 (upd at1 K (nI ((av K) + 1))), cw_k7 h0 (nI (na1 + 1)) (nI (ne1 + (ll (K + 1)))) a_kindOf a_depthOf a_lengthOf a_classOf a_baseOf a_bits a_pinned i_code a_lengths a_stackArray a_stackOther a_stackAt i_lastArray i_lastPlace a_path a_held a_alike a_hashes (nI nd) a_decisionArray a_decisionPlace a_candidateMany a_candidates (nI nr) a_ruleSort a_ruleArray a_ruleWeight a_ruleLow a_ruleHigh a_chosen a_bestOf (nI nm) a_markElements a_markBits a_markPins, cw_i g a_kindOf 60 (upd kd1 na1 x1), cw_i g a_depthOf 60 (upd dp1 na1 (nI ((dd - K) - 1))), cw_i g a_lengthOf 60 (upd ln1 na1 (nI (ll (K + 1)))), cw_i g a_classOf 60 (upd cl1 na1 (-1)), cw_i g a_baseOf 60 (upd sa1 na1 (nI ne1)), cw_l g a_bits 4000 (vp_updL bt2_48 ((B K) + (av K)) ((nI na1).toInt64)), cw_z g a_pinned 4000 pn2_49] H locs := hZ
                                  refine lv_aload_n hx hb dX8_grid_365 rfl (lv_at hl 9 rfl) ?_
                                  refine zz_get hC hZ 3 rfl zf_X8_42 rfl dX8_grid_366 ?_
                                  refine lv_iload hx hb dX8_grid_369 (lv_at hl 0 rfl) ?_
                                  refine lv_iconst (v := 0) hx hb dX8_grid_371 (by decide) ?_
                                  refine zz_iastn hC hZ 2 rfl bd55 (by decide) dX8_grid_372 (fun H locs hZ => ?_)
                                  have hZ : zz_Z g A s.heap [cw_i g a_lengths 4 lf, cw_i g a_stackArray 5 (upd sk1 (K + 1) (nI na1)), cw_i g a_stackAt 5 (upd (upd at1 K (nI ((av K) + 1))) (K + 1) 0), cw_k7 h0 (nI (na1 + 1)) (nI (ne1 + (ll (K + 1)))) a_kindOf a_depthOf a_lengthOf a_classOf a_baseOf a_bits a_pinned i_code a_lengths a_stackArray a_stackOther a_stackAt i_lastArray i_lastPlace a_path a_held a_alike a_hashes (nI nd) a_decisionArray a_decisionPlace a_candidateMany a_candidates (nI nr) a_ruleSort a_ruleArray a_ruleWeight a_ruleLow a_ruleHigh a_chosen a_bestOf (nI nm) a_markElements a_markBits a_markPins, cw_i g a_kindOf 60 (upd kd1 na1 x1), cw_i g a_depthOf 60 (upd dp1 na1 (nI ((dd - K) - 1))), cw_i g a_lengthOf 60 (upd ln1 na1 (nI (ll (K + 1)))), cw_i g a_classOf 60 (upd cl1 na1 (-1)), cw_i g a_baseOf 60 (upd sa1 na1 (nI ne1)), cw_l g a_bits 4000 (vp_updL bt2_48 ((B K) + (av K)) ((nI na1).toInt64)), cw_z g a_pinned 4000 pn2_49] H locs := hZ
                                  refine lv_goto (tgt := 251) hx hb dX8_grid_373 (by decide) ?_
                                  exact ih33 (nI (K + 1)) (K + 2) (na1 + 1) (ne1 + (ll (K + 1))) (zz_av av K) (zz_Av B K ne1) (upd kd1 na1 x1) (upd dp1 na1 (nI ((dd - K) - 1))) (upd ln1 na1 (nI (ll (K + 1)))) (upd cl1 na1 (-1)) (upd sa1 na1 (nI ne1)) (vp_updL bt2_48 ((B K) + (av K)) ((nI na1).toInt64)) pn2_49 (upd sk1 (K + 1) (nI na1)) (upd (upd at1 K (nI ((av K) + 1))) (K + 1) 0) H locs ls ((pk_m1 _).symm) (by omega) (zz_In2_push hI hav (by omega)) (by omega) (by omega) (zl_set (zl_make hM1 (by omega) (by omega) (by omega) ⟨by omega, by omega⟩ f50 (zl_mk1 (by omega) f51)) (show sA < na1 + 1 by omega) ((pk_un (by omega)).trans i4) ((pk_un (by omega)).trans i3) ((pk_un (by omega)).trans i8) (by omega) (by omega) (by omega) hav (fun _ => Or.inr ⟨na1, dd - K - 1, by omega, nI_l (by omega), pk_us, by omega⟩)) (hG.tr (zz_GW.mk (by omega))) (hFI.trans ((sp_fin_push (by omega) hav).trans (by rw [f52, nI_l (show na1 < 2 ^ 31 by omega)]; rfl))) (zl_mpA hpn f53 hG.2.1) (by omega) hZ (lv_sub hl [0, 3, 4, 5, 6, 7, 8, 9, 10, 11, 12, 13, 14, 15] rfl)
                                · have nc42 : (av K) = (ll K) := (nI_eq bd43 bd44).mp (show nI ((av K)) = nI ((ll K)) from c42)
                                  refine lv_iinc (v := (nI K) + (-1)) (lv' := [(16, .int ((nI K) + (-1))), (17, .int (nI sA)), (15, .int (nI na)), (14, .int (nI na)), (13, .int mu), (11, .long ti), (9, .long al), (7, .long mn), (0, .ref h0), (1, .int x1), (2, .int (nI dd)), (3, .int x3), (4, .int x4), (5, .int x5), (6, .int x6)]) hx hb dX8_grid_290 hl (k := 1) rfl (by first | rfl | decide) (by decide) rfl (fun ls hl => ?_)
                                  refine lv_goto (tgt := 251) hx hb dX8_grid_293 (by decide) ?_
                                  exact ih33 ((nI K) + (-1)) K na1 ne1 av B kd1 dp1 ln1 cl1 sa1 bt1 pn1 sk1 at1 H locs ls (rfl) (by omega) (zz_In2_pop hI) (by omega) (by omega) (hM1) (hG) (hFI.trans (sp_fin_pop (by omega))) (hpn) (by omega) hZ (lv_sub hl [0, 2, 3, 4, 5, 6, 7, 8, 9, 10, 11, 12, 13, 14] rfl)
                        exact LP33 _ 0 1 (na + 1) (ne + (ll 0)) (fun _ => 0) (fun _ => ne) (upd kdf na x1) (upd dpf na (nI dd)) (upd lnf na (nI (ll 0))) (upd clf na (-1)) (upd saf na (nI ne)) bt2_27 pn2_28 (upd skf 0 (nI na)) (upd atf 0 0) H locs ls (by decide) (by omega) (zz_In2_init (by omega)) (by omega) (by omega) (zl_make h_M (by omega) (by omega) (by omega) ⟨by omega, by omega⟩ f29 (zl_mk1 (by omega) f30)) (zz_GW.mk (by omega)) (by rw [sp_fin, sp_fin, f31]; rfl) (by rw [f32, Nat.add_sub_cancel_left]) (Nat.lt_succ_self _) hZ (lv_sub hl [0, 1, 2, 3, 4, 5, 6, 7, 8, 9, 10, 11, 12, 13] rfl)
                      · refine lv_aload_n hx hb dX8_grid_205 rfl (lv_at hl 5 rfl) ?_
                        refine lv_bipush (v := 8) hx hb dX8_grid_206 (by decide) ?_
                        refine zz_iV (As := [.int 8]) (wc := [cw_k7 h0 (nI na) (nI ne) a_kindOf a_depthOf a_lengthOf a_classOf a_baseOf a_bits a_pinned i_code a_lengths a_stackArray a_stackOther a_stackAt i_lastArray i_lastPlace a_path a_held a_alike a_hashes (nI nd) a_decisionArray a_decisionPlace a_candidateMany a_candidates (nI nr) a_ruleSort a_ruleArray a_ruleWeight a_ruleLow a_ruleHigh a_chosen a_bestOf (nI nm) a_markElements a_markBits a_markPins]) (wr := [cw_i g a_kindOf 60 kdf, cw_i g a_depthOf 60 dpf, cw_i g a_lengthOf 60 lnf, cw_i g a_classOf 60 clf, cw_i g a_baseOf 60 saf, cw_l g a_bits 4000 btf, cw_z g a_pinned 4000 pnf, cw_i g a_lengths 4 lf, cw_i g a_stackArray 5 skf, cw_i g a_stackAt 5 atf]) (rest := []) hC hZ hs hl zc_X8_175 (cm_fails g h0 a_kindOf a_depthOf a_lengthOf a_classOf a_baseOf a_bits a_pinned a_lengths a_stackArray a_stackOther a_stackAt a_path a_held a_alike a_hashes a_decisionArray a_decisionPlace a_candidateMany a_candidates a_ruleSort a_ruleArray a_ruleWeight a_ruleLow a_ruleHigh a_chosen a_bestOf a_markElements a_markBits a_markPins (nI na) (nI ne) i_code i_lastArray i_lastPlace (nI nd) (nI nr) (nI nm) 8) [10] [0, 1, 2, 3, 4, 5, 6, 7, 8, 9] rfl rfl (by decide +kernel) (ci := 7) (q0 := 0) rfl rfl rfl rfl (Nat.le_of_ble_eq_true rfl) ⟨⟨Nat.le_of_ble_eq_true rfl, Nat.le_of_ble_eq_true rfl⟩, Nat.le_of_ble_eq_true rfl, Nat.le_of_ble_eq_true rfl⟩ dX8_grid_208 (fun r56 u57 H locs hp hZ => ?_)
                        obtain ⟨rfl, rfl⟩ := hp
                        have hZ : zz_Z g A s.heap [cw_i g a_kindOf 60 kdf, cw_i g a_depthOf 60 dpf, cw_i g a_lengthOf 60 lnf, cw_i g a_classOf 60 clf, cw_i g a_baseOf 60 saf, cw_l g a_bits 4000 btf, cw_z g a_pinned 4000 pnf, cw_i g a_lengths 4 lf, cw_i g a_stackArray 5 skf, cw_i g a_stackAt 5 atf, cw_k7 h0 (nI na) (nI ne) a_kindOf a_depthOf a_lengthOf a_classOf a_baseOf a_bits a_pinned 8 a_lengths a_stackArray a_stackOther a_stackAt i_lastArray i_lastPlace a_path a_held a_alike a_hashes (nI nd) a_decisionArray a_decisionPlace a_candidateMany a_candidates (nI nr) a_ruleSort a_ruleArray a_ruleWeight a_ruleLow a_ruleHigh a_chosen a_bestOf (nI nm) a_markElements a_markBits a_markPins] H locs := hZ
                        have hZ : zz_Z g A s.heap [cw_k7 h0 (nI na) (nI ne) a_kindOf a_depthOf a_lengthOf a_classOf a_baseOf a_bits a_pinned 8 a_lengths a_stackArray a_stackOther a_stackAt i_lastArray i_lastPlace a_path a_held a_alike a_hashes (nI nd) a_decisionArray a_decisionPlace a_candidateMany a_candidates (nI nr) a_ruleSort a_ruleArray a_ruleWeight a_ruleLow a_ruleHigh a_chosen a_bestOf (nI nm) a_markElements a_markBits a_markPins, cw_i g a_kindOf 60 kdf, cw_i g a_depthOf 60 dpf, cw_i g a_lengthOf 60 lnf, cw_i g a_classOf 60 clf, cw_i g a_baseOf 60 saf, cw_l g a_bits 4000 btf, cw_z g a_pinned 4000 pnf, cw_i g a_lengths 4 lf, cw_i g a_stackArray 5 skf, cw_i g a_stackAt 5 atf] H locs := hZ.sub [10, 0, 1, 2, 3, 4, 5, 6, 7, 8, 9] (by decide +kernel) rfl
                        exact zz_iret hC hZ (⟨8, i_lastArray, i_lastPlace, na, ne, kdf, dpf, lnf, clf, saf, btf, pnf, lf, skf, atf, h_M, zz_GW.rf, by rw [sp_gR, edc, ell, if_pos (zl_gV c3 c8), if_pos hnp, if_neg (zl_roomN ((show i2 = dd by omega) ▸ hA c16) hd4 (by omega) (by omega) (Or.inr c24))], by rw [if_pos (by decide)], by rw [if_pos (by decide)], rfl⟩) (Nat.le_of_ble_eq_true rfl) (Nat.le_of_ble_eq_true rfl) dX8_grid_211
                · have nc14 : ¬ dd ≤ i2 := fun zq => c14 (show nI (dd) ≤ nI (i2) from (nI_leI bd11 bd15).mpr zq)
                  obtain ⟨el2, hlb⟩ := hll i2 (by omega)
                  refine lv_iload hx hb dX8_grid_114 (lv_at hl 1 rfl) ?_
                  refine lv_aload_n hx hb dX8_grid_116 rfl (lv_at hl 5 rfl) ?_
                  refine zz_get hC hZ 0 rfl zf_X8_33 rfl dX8_grid_117 ?_
                  refine lv_iload hx hb dX8_grid_120 (lv_at hl 0 rfl) ?_
                  have bd58 : i2 < 4 := by omega
                  refine zz_ialdn hC hZ 8 rfl bd58 (by decide) dX8_grid_122 ?_
                  refine zz_topi (v := nI (ll i2)) (el2) ?_
                  refine lv_sipush (v := 200) hx hb dX8_grid_123 (by decide) ?_
                  have bd60 : (ll i2) < 2 ^ 31 := by omega
                  refine lv_icmp_le (tgt := 133) hx hb dX8_grid_126 (by decide) (fun c59 => ?_) (fun c59 => ?_)
                  · have nc59 : (ll i2) ≤ 200 := (nI_leI bd60 (by decide)).mp (show nI ((ll i2)) ≤ nI (200) from c59)
                    refine lv_iconst (v := 0) hx hb dX8_grid_133 (by decide) ?_
                    refine lv_ior hx hb dX8_grid_134 ?_
                    refine lv_istore (lv' := [(13, .int (mu ||| 0)), (14, .int (nI i2)), (11, .long ti), (9, .long al), (7, .long mn), (0, .ref h0), (1, .int x1), (2, .int (nI dd)), (3, .int x3), (4, .int x4), (5, .int x5), (6, .int x6)]) hx hb dX8_grid_135 hl (by decide) rfl (fun ls hl => ?_)
                    refine lv_lload hx hb dX8_grid_137 (lv_at hl 4 rfl) ?_
                    refine lv_lload hx hb dX8_grid_139 (lv_at hl 2 rfl) ?_
                    refine lv_ladd hx hb dX8_grid_141 ?_
                    refine lv_lstore (lv' := [(7, .long (mn + ti)), (13, .int (mu ||| 0)), (14, .int (nI i2)), (11, .long ti), (9, .long al), (0, .ref h0), (1, .int x1), (2, .int (nI dd)), (3, .int x3), (4, .int x4), (5, .int x5), (6, .int x6)]) hx hb dX8_grid_142 hl (by decide) rfl (fun ls hl => ?_)
                    refine lv_lload hx hb dX8_grid_144 (lv_at hl 4 rfl) ?_
                    refine lv_lload hx hb dX8_grid_146 (lv_at hl 3 rfl) ?_
                    refine lv_aload_n hx hb dX8_grid_148 rfl (lv_at hl 5 rfl) ?_
                    refine zz_get hC hZ 0 rfl zf_X8_33 rfl dX8_grid_149 ?_
                    refine lv_iload hx hb dX8_grid_152 (lv_at hl 2 rfl) ?_
                    refine zz_ialdn hC hZ 8 rfl bd58 (by decide) dX8_grid_154 ?_
                    refine zz_topi (v := nI (ll i2)) (el2) ?_
                    refine lv_i2l hx hb dX8_grid_155 rfl ?_
                    refine lv_lmul hx hb dX8_grid_156 ?_
                    refine lv_ladd hx hb dX8_grid_157 ?_
                    refine lv_lstore (lv' := [(9, .long (al + (ti * ((nI (ll i2)).toInt64)))), (7, .long (mn + ti)), (13, .int (mu ||| 0)), (14, .int (nI i2)), (11, .long ti), (0, .ref h0), (1, .int x1), (2, .int (nI dd)), (3, .int x3), (4, .int x4), (5, .int x5), (6, .int x6)]) hx hb dX8_grid_158 hl (by decide) rfl (fun ls hl => ?_)
                    refine lv_lload hx hb dX8_grid_160 (lv_at hl 4 rfl) ?_
                    refine lv_aload_n hx hb dX8_grid_162 rfl (lv_at hl 5 rfl) ?_
                    refine zz_get hC hZ 0 rfl zf_X8_33 rfl dX8_grid_163 ?_
                    refine lv_iload hx hb dX8_grid_166 (lv_at hl 3 rfl) ?_
                    refine zz_ialdn hC hZ 8 rfl bd58 (by decide) dX8_grid_168 ?_
                    refine zz_topi (v := nI (ll i2)) (el2) ?_
                    refine lv_i2l hx hb dX8_grid_169 rfl ?_
                    refine lv_lmul hx hb dX8_grid_170 ?_
                    refine lv_lstore (lv' := [(11, .long (ti * ((nI (ll i2)).toInt64))), (9, .long (al + (ti * ((nI (ll i2)).toInt64)))), (7, .long (mn + ti)), (13, .int (mu ||| 0)), (14, .int (nI i2)), (0, .ref h0), (1, .int x1), (2, .int (nI dd)), (3, .int x3), (4, .int x4), (5, .int x5), (6, .int x6)]) hx hb dX8_grid_171 hl (by decide) rfl (fun ls hl => ?_)
                    refine lv_iinc (v := nI (i2 + 1)) (lv' := [(14, .int (nI (i2 + 1))), (11, .long (ti * ((nI (ll i2)).toInt64))), (9, .long (al + (ti * ((nI (ll i2)).toInt64)))), (7, .long (mn + ti)), (13, .int (mu ||| 0)), (0, .ref h0), (1, .int x1), (2, .int (nI dd)), (3, .int x3), (4, .int x4), (5, .int x5), (6, .int x6)]) hx hb dX8_grid_173 hl (k := 4) rfl (nI_1 _) (by decide) rfl (fun ls hl => ?_)
                    refine lv_goto (tgt := 108) hx hb dX8_grid_176 (by decide) ?_
                    exact ih13 (i2 + 1) (mu ||| 0) (mn + ti) (al + (ti * ((nI (ll i2)).toInt64))) (ti * ((nI (ll i2)).toInt64)) H locs ls (by omega) (fun hz => zl_acc (hA (zl_or hz).1) (by omega)) (zl_mu0 hmu) (by omega) hZ (lv_sub hl [0, 4, 1, 2, 3, 5, 6, 7, 8, 9, 10, 11] rfl)
                  · have nc59 : ¬ (ll i2) ≤ 200 := fun zq => c59 (show nI ((ll i2)) ≤ nI (200) from (nI_leI bd60 (by decide)).mpr zq)
                    refine lv_iconst (v := 1) hx hb dX8_grid_129 (by decide) ?_
                    refine lv_goto (tgt := 134) hx hb dX8_grid_130 (by decide) ?_
                    refine lv_ior hx hb dX8_grid_134 ?_
                    refine lv_istore (lv' := [(13, .int (mu ||| 1)), (14, .int (nI i2)), (11, .long ti), (9, .long al), (7, .long mn), (0, .ref h0), (1, .int x1), (2, .int (nI dd)), (3, .int x3), (4, .int x4), (5, .int x5), (6, .int x6)]) hx hb dX8_grid_135 hl (by decide) rfl (fun ls hl => ?_)
                    refine lv_lload hx hb dX8_grid_137 (lv_at hl 4 rfl) ?_
                    refine lv_lload hx hb dX8_grid_139 (lv_at hl 2 rfl) ?_
                    refine lv_ladd hx hb dX8_grid_141 ?_
                    refine lv_lstore (lv' := [(7, .long (mn + ti)), (13, .int (mu ||| 1)), (14, .int (nI i2)), (11, .long ti), (9, .long al), (0, .ref h0), (1, .int x1), (2, .int (nI dd)), (3, .int x3), (4, .int x4), (5, .int x5), (6, .int x6)]) hx hb dX8_grid_142 hl (by decide) rfl (fun ls hl => ?_)
                    refine lv_lload hx hb dX8_grid_144 (lv_at hl 4 rfl) ?_
                    refine lv_lload hx hb dX8_grid_146 (lv_at hl 3 rfl) ?_
                    refine lv_aload_n hx hb dX8_grid_148 rfl (lv_at hl 5 rfl) ?_
                    refine zz_get hC hZ 0 rfl zf_X8_33 rfl dX8_grid_149 ?_
                    refine lv_iload hx hb dX8_grid_152 (lv_at hl 2 rfl) ?_
                    refine zz_ialdn hC hZ 8 rfl bd58 (by decide) dX8_grid_154 ?_
                    refine zz_topi (v := nI (ll i2)) (el2) ?_
                    refine lv_i2l hx hb dX8_grid_155 rfl ?_
                    refine lv_lmul hx hb dX8_grid_156 ?_
                    refine lv_ladd hx hb dX8_grid_157 ?_
                    refine lv_lstore (lv' := [(9, .long (al + (ti * ((nI (ll i2)).toInt64)))), (7, .long (mn + ti)), (13, .int (mu ||| 1)), (14, .int (nI i2)), (11, .long ti), (0, .ref h0), (1, .int x1), (2, .int (nI dd)), (3, .int x3), (4, .int x4), (5, .int x5), (6, .int x6)]) hx hb dX8_grid_158 hl (by decide) rfl (fun ls hl => ?_)
                    refine lv_lload hx hb dX8_grid_160 (lv_at hl 4 rfl) ?_
                    refine lv_aload_n hx hb dX8_grid_162 rfl (lv_at hl 5 rfl) ?_
                    refine zz_get hC hZ 0 rfl zf_X8_33 rfl dX8_grid_163 ?_
                    refine lv_iload hx hb dX8_grid_166 (lv_at hl 3 rfl) ?_
                    refine zz_ialdn hC hZ 8 rfl bd58 (by decide) dX8_grid_168 ?_
                    refine zz_topi (v := nI (ll i2)) (el2) ?_
                    refine lv_i2l hx hb dX8_grid_169 rfl ?_
                    refine lv_lmul hx hb dX8_grid_170 ?_
                    refine lv_lstore (lv' := [(11, .long (ti * ((nI (ll i2)).toInt64))), (9, .long (al + (ti * ((nI (ll i2)).toInt64)))), (7, .long (mn + ti)), (13, .int (mu ||| 1)), (14, .int (nI i2)), (0, .ref h0), (1, .int x1), (2, .int (nI dd)), (3, .int x3), (4, .int x4), (5, .int x5), (6, .int x6)]) hx hb dX8_grid_171 hl (by decide) rfl (fun ls hl => ?_)
                    refine lv_iinc (v := nI (i2 + 1)) (lv' := [(14, .int (nI (i2 + 1))), (11, .long (ti * ((nI (ll i2)).toInt64))), (9, .long (al + (ti * ((nI (ll i2)).toInt64)))), (7, .long (mn + ti)), (13, .int (mu ||| 1)), (0, .ref h0), (1, .int x1), (2, .int (nI dd)), (3, .int x3), (4, .int x4), (5, .int x5), (6, .int x6)]) hx hb dX8_grid_173 hl (k := 4) rfl (nI_1 _) (by decide) rfl (fun ls hl => ?_)
                    refine lv_goto (tgt := 108) hx hb dX8_grid_176 (by decide) ?_
                    exact ih13 (i2 + 1) (mu ||| 1) (mn + ti) (al + (ti * ((nI (ll i2)).toInt64))) (ti * ((nI (ll i2)).toInt64)) H locs ls (by omega) (fun hz => absurd (zl_or hz).2 (by decide)) (Or.inr ⟨i2, by omega, by omega⟩) (by omega) hZ (lv_sub hl [0, 4, 1, 2, 3, 5, 6, 7, 8, 9, 10, 11] rfl)
            exact LP13 _ 0 0 0 0 1 H locs ls (by omega) (fun _ => ⟨fun j hj => absurd hj (Nat.not_lt_zero j), (by show (0 : Int64) = lN 0; decide), (by show (0 : Int64) = lN 0; decide), (by show (1 : Int64) = lN 1; decide)⟩) (Or.inl rfl) (Nat.lt_succ_self _) hZ (lv_sub hl [0, 1, 2, 3, 4, 5, 6, 7, 8, 9, 10, 11] rfl)
          · have nc10 : ¬ dd ≤ i := fun zq => c10 (show nI (dd) ≤ nI (i) from (nI_leI bd11 bd12).mpr zq)
            refine lv_aload_n hx hb dX8_grid_83 rfl (lv_at hl 5 rfl) ?_
            refine zz_get hC hZ 0 rfl zf_X8_33 rfl dX8_grid_84 ?_
            refine lv_iload hx hb dX8_grid_87 (lv_at hl 0 rfl) ?_
            have bd61 : i < 4 := by omega
            refine zz_ialdn hC hZ 8 rfl bd61 (by decide) dX8_grid_89 ?_
            refine lv_if_ge (tgt := 99) hx hb dX8_grid_90 (by decide) (fun c62 => ?_) (fun c62 => ?_)
            · refine lv_iinc (v := nI (i + 1)) (lv' := [(14, .int (nI (i + 1))), (13, .int 0), (11, .long 1), (9, .long 0), (7, .long 0), (0, .ref h0), (1, .int x1), (2, .int (nI dd)), (3, .int x3), (4, .int x4), (5, .int x5), (6, .int x6)]) hx hb dX8_grid_99 hl (k := 0) rfl (nI_1 _) (by decide) rfl (fun ls hl => ?_)
              refine lv_goto (tgt := 77) hx hb dX8_grid_102 (by decide) ?_
              exact ih9 (i + 1) lf H locs ls (by omega) (zl_step (P := fun j => ¬ lf j < 0) hng (zl_ge0 c62)) (hlf) (by omega) hZ (lv_sub hl [0, 1, 2, 3, 4, 5, 6, 7, 8, 9, 10, 11] rfl)
            · refine lv_aload_n hx hb dX8_grid_93 rfl (lv_at hl 5 rfl) ?_
              refine lv_iconst (v := 4) hx hb dX8_grid_94 (by decide) ?_
              refine zz_iV (As := [.int 4]) (wc := [cw_k7 h0 (nI na) (nI ne) a_kindOf a_depthOf a_lengthOf a_classOf a_baseOf a_bits a_pinned i_code a_lengths a_stackArray a_stackOther a_stackAt i_lastArray i_lastPlace a_path a_held a_alike a_hashes (nI nd) a_decisionArray a_decisionPlace a_candidateMany a_candidates (nI nr) a_ruleSort a_ruleArray a_ruleWeight a_ruleLow a_ruleHigh a_chosen a_bestOf (nI nm) a_markElements a_markBits a_markPins]) (wr := [cw_i g a_kindOf 60 kdf, cw_i g a_depthOf 60 dpf, cw_i g a_lengthOf 60 lnf, cw_i g a_classOf 60 clf, cw_i g a_baseOf 60 saf, cw_l g a_bits 4000 btf, cw_z g a_pinned 4000 pnf, cw_i g a_lengths 4 lf, cw_i g a_stackArray 5 skf, cw_i g a_stackAt 5 atf]) (rest := []) hC hZ hs hl zc_X8_175 (cm_fails g h0 a_kindOf a_depthOf a_lengthOf a_classOf a_baseOf a_bits a_pinned a_lengths a_stackArray a_stackOther a_stackAt a_path a_held a_alike a_hashes a_decisionArray a_decisionPlace a_candidateMany a_candidates a_ruleSort a_ruleArray a_ruleWeight a_ruleLow a_ruleHigh a_chosen a_bestOf a_markElements a_markBits a_markPins (nI na) (nI ne) i_code i_lastArray i_lastPlace (nI nd) (nI nr) (nI nm) 4) [0] [1, 2, 3, 4, 5, 6, 7, 8, 9, 10] rfl rfl (by decide +kernel) (ci := 7) (q0 := 0) rfl rfl rfl rfl (Nat.le_of_ble_eq_true rfl) ⟨⟨Nat.le_of_ble_eq_true rfl, Nat.le_of_ble_eq_true rfl⟩, Nat.le_of_ble_eq_true rfl, Nat.le_of_ble_eq_true rfl⟩ dX8_grid_95 (fun r63 u64 H locs hp hZ => ?_)
              obtain ⟨rfl, rfl⟩ := hp
              have hZ : zz_Z g A s.heap [cw_i g a_kindOf 60 kdf, cw_i g a_depthOf 60 dpf, cw_i g a_lengthOf 60 lnf, cw_i g a_classOf 60 clf, cw_i g a_baseOf 60 saf, cw_l g a_bits 4000 btf, cw_z g a_pinned 4000 pnf, cw_i g a_lengths 4 lf, cw_i g a_stackArray 5 skf, cw_i g a_stackAt 5 atf, cw_k7 h0 (nI na) (nI ne) a_kindOf a_depthOf a_lengthOf a_classOf a_baseOf a_bits a_pinned 4 a_lengths a_stackArray a_stackOther a_stackAt i_lastArray i_lastPlace a_path a_held a_alike a_hashes (nI nd) a_decisionArray a_decisionPlace a_candidateMany a_candidates (nI nr) a_ruleSort a_ruleArray a_ruleWeight a_ruleLow a_ruleHigh a_chosen a_bestOf (nI nm) a_markElements a_markBits a_markPins] H locs := hZ
              have hZ : zz_Z g A s.heap [cw_k7 h0 (nI na) (nI ne) a_kindOf a_depthOf a_lengthOf a_classOf a_baseOf a_bits a_pinned 4 a_lengths a_stackArray a_stackOther a_stackAt i_lastArray i_lastPlace a_path a_held a_alike a_hashes (nI nd) a_decisionArray a_decisionPlace a_candidateMany a_candidates (nI nr) a_ruleSort a_ruleArray a_ruleWeight a_ruleLow a_ruleHigh a_chosen a_bestOf (nI nm) a_markElements a_markBits a_markPins, cw_i g a_kindOf 60 kdf, cw_i g a_depthOf 60 dpf, cw_i g a_lengthOf 60 lnf, cw_i g a_classOf 60 clf, cw_i g a_baseOf 60 saf, cw_l g a_bits 4000 btf, cw_z g a_pinned 4000 pnf, cw_i g a_lengths 4 lf, cw_i g a_stackArray 5 skf, cw_i g a_stackAt 5 atf] H locs := hZ.sub [10, 0, 1, 2, 3, 4, 5, 6, 7, 8, 9] (by decide +kernel) rfl
              exact zz_iret hC hZ (⟨4, i_lastArray, i_lastPlace, na, ne, kdf, dpf, lnf, clf, saf, btf, pnf, lf, skf, atf, h_M, zz_GW.rf, by rw [sp_gR, edc, if_pos (zl_gV c3 c8), if_neg (fun z => z i (by omega) (by rw [← hlf i (by omega)]; exact zl_nge c62))], by rw [if_pos (by decide)], by rw [if_pos (by decide)], rfl⟩) (Nat.le_of_ble_eq_true rfl) (Nat.le_of_ble_eq_true rfl) dX8_grid_98
      exact LP9 _ 0 (upd (upd (upd (upd mlf 0 x3) 1 x4) 2 x5) 3 x6) H locs ls (by omega) (fun j hj => absurd hj (Nat.not_lt_zero j)) (fun j hj => zl_upd4 hj) (Nat.lt_succ_self _) hZ (lv_sub hl [0, 1, 2, 3, 4, 5, 6, 7, 8, 9, 10, 11] rfl)
    · refine lv_aload_n hx hb dX8_grid_24 rfl (lv_at hl 0 rfl) ?_
      refine lv_bipush (v := 9) hx hb dX8_grid_25 (by decide) ?_
      refine zz_iV (As := [.int 9]) (wc := [cw_k7 h0 (nI na) (nI ne) a_kindOf a_depthOf a_lengthOf a_classOf a_baseOf a_bits a_pinned i_code a_lengths a_stackArray a_stackOther a_stackAt i_lastArray i_lastPlace a_path a_held a_alike a_hashes (nI nd) a_decisionArray a_decisionPlace a_candidateMany a_candidates (nI nr) a_ruleSort a_ruleArray a_ruleWeight a_ruleLow a_ruleHigh a_chosen a_bestOf (nI nm) a_markElements a_markBits a_markPins]) (wr := [cw_i g a_kindOf 60 kdf, cw_i g a_depthOf 60 dpf, cw_i g a_lengthOf 60 lnf, cw_i g a_classOf 60 clf, cw_i g a_baseOf 60 saf, cw_l g a_bits 4000 btf, cw_z g a_pinned 4000 pnf, cw_i g a_lengths 4 mlf, cw_i g a_stackArray 5 skf, cw_i g a_stackAt 5 atf]) (rest := []) hC hZ hs hl zc_X8_175 (cm_fails g h0 a_kindOf a_depthOf a_lengthOf a_classOf a_baseOf a_bits a_pinned a_lengths a_stackArray a_stackOther a_stackAt a_path a_held a_alike a_hashes a_decisionArray a_decisionPlace a_candidateMany a_candidates a_ruleSort a_ruleArray a_ruleWeight a_ruleLow a_ruleHigh a_chosen a_bestOf a_markElements a_markBits a_markPins (nI na) (nI ne) i_code i_lastArray i_lastPlace (nI nd) (nI nr) (nI nm) 9) [0] [1, 2, 3, 4, 5, 6, 7, 8, 9, 10] rfl rfl (by decide +kernel) (ci := 7) (q0 := 0) rfl rfl rfl rfl (Nat.le_of_ble_eq_true rfl) ⟨⟨Nat.le_of_ble_eq_true rfl, Nat.le_of_ble_eq_true rfl⟩, Nat.le_of_ble_eq_true rfl, Nat.le_of_ble_eq_true rfl⟩ dX8_grid_27 (fun r65 u66 H locs hp hZ => ?_)
      obtain ⟨rfl, rfl⟩ := hp
      have hZ : zz_Z g A s.heap [cw_i g a_kindOf 60 kdf, cw_i g a_depthOf 60 dpf, cw_i g a_lengthOf 60 lnf, cw_i g a_classOf 60 clf, cw_i g a_baseOf 60 saf, cw_l g a_bits 4000 btf, cw_z g a_pinned 4000 pnf, cw_i g a_lengths 4 mlf, cw_i g a_stackArray 5 skf, cw_i g a_stackAt 5 atf, cw_k7 h0 (nI na) (nI ne) a_kindOf a_depthOf a_lengthOf a_classOf a_baseOf a_bits a_pinned 9 a_lengths a_stackArray a_stackOther a_stackAt i_lastArray i_lastPlace a_path a_held a_alike a_hashes (nI nd) a_decisionArray a_decisionPlace a_candidateMany a_candidates (nI nr) a_ruleSort a_ruleArray a_ruleWeight a_ruleLow a_ruleHigh a_chosen a_bestOf (nI nm) a_markElements a_markBits a_markPins] H locs := hZ
      have hZ : zz_Z g A s.heap [cw_k7 h0 (nI na) (nI ne) a_kindOf a_depthOf a_lengthOf a_classOf a_baseOf a_bits a_pinned 9 a_lengths a_stackArray a_stackOther a_stackAt i_lastArray i_lastPlace a_path a_held a_alike a_hashes (nI nd) a_decisionArray a_decisionPlace a_candidateMany a_candidates (nI nr) a_ruleSort a_ruleArray a_ruleWeight a_ruleLow a_ruleHigh a_chosen a_bestOf (nI nm) a_markElements a_markBits a_markPins, cw_i g a_kindOf 60 kdf, cw_i g a_depthOf 60 dpf, cw_i g a_lengthOf 60 lnf, cw_i g a_classOf 60 clf, cw_i g a_baseOf 60 saf, cw_l g a_bits 4000 btf, cw_z g a_pinned 4000 pnf, cw_i g a_lengths 4 mlf, cw_i g a_stackArray 5 skf, cw_i g a_stackAt 5 atf] H locs := hZ.sub [10, 0, 1, 2, 3, 4, 5, 6, 7, 8, 9] (by decide +kernel) rfl
      exact zz_iret hC hZ (⟨9, i_lastArray, i_lastPlace, na, ne, kdf, dpf, lnf, clf, saf, btf, pnf, mlf, skf, atf, h_M, zz_GW.rf, by rw [sp_gR, if_neg (zl_gW (Or.inr c8))], by rw [if_pos (by decide)], by rw [if_pos (by decide)], rfl⟩) (Nat.le_of_ble_eq_true rfl) (Nat.le_of_ble_eq_true rfl) dX8_grid_30
