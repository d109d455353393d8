def zz_ll (a b c d : Nat) : Nat → Nat := fun j => if j = 0 then a else if j = 1 then b else if j = 2 then c else d
def zz_TT2 (ll : Nat → Nat) : Nat → Nat → Nat
  | 0, _ => 0
  | n + 1, j => 1 + ll j * zz_TT2 ll n (j + 1)
def zz_EE (ll : Nat → Nat) : Nat → Nat → Nat
  | 0, _ => 0
  | n + 1, j => ll j + ll j * zz_EE ll n (j + 1)
def zz_R (F : Nat → Nat) (ll av : Nat → Nat) : Nat → Nat
  | 0 => 0
  | L + 1 => zz_R F ll av L + (ll L - av L) * F (L + 1)
def zz_av (av : Nat → Nat) (K : Nat) : Nat → Nat := fun j => if j = K then av K + 1 else if j = K + 1 then 0 else av j
theorem zz_R_eq {F ll av av' : Nat → Nat} : ∀ {L : Nat}, (∀ j, j < L → av' j = av j) → zz_R F ll av' L = zz_R F ll av L
  | 0, _ => rfl
  | L + 1, h => by rw [zz_R, zz_R, zz_R_eq (fun j hj => h j (by omega)), h L (by omega)]
theorem zz_R_push {F ll av : Nat → Nat} {K t : Nat} (h : F (K + 1) = t + ll (K + 1) * F (K + 2)) (hav : av K < ll K) : zz_R F ll (zz_av av K) (K + 2) + t = zz_R F ll av (K + 1) := by
  have q0 : ∀ j, j < K → zz_av av K j = av j := by
    intro j hj
    have q1 : j ≠ K := by omega
    have q2 : j ≠ K + 1 := by omega
    simp [zz_av, q1, q2]
  rw [zz_R, zz_R, zz_R, zz_R_eq q0]
  have e1 : zz_av av K K = av K + 1 := by simp [zz_av]
  have e2 : zz_av av K (K + 1) = 0 := by simp [zz_av]
  rw [e1, e2, Nat.sub_zero, Nat.add_assoc, Nat.add_assoc]
  have e3 : (ll K - av K) = (ll K - (av K + 1)) + 1 := by omega
  have e4 : (ll K - av K) * F (K + 1) = (ll K - (av K + 1)) * F (K + 1) + F (K + 1) := by rw [e3, Nat.add_mul, Nat.one_mul]
  rw [e4]
  have e5 : ll (K + 1) * F (K + 1 + 1) = ll (K + 1) * F (K + 2) := rfl
  omega
def zz_In (ll av : Nat → Nat) (na : Nat) (sk at' ln ba : Nat → Int32) (L : Nat) : Prop := ∀ j, j < L → ∃ sA bA : Nat, sk j = nI sA ∧ sA < na ∧ ln sA = nI (ll j) ∧ ba sA = nI bA ∧ bA + ll j ≤ 4000 ∧ at' j = nI (av j) ∧ av j ≤ ll j
theorem zz_In_pop {ll av : Nat → Nat} {na : Nat} {sk at' ln ba : Nat → Int32} {K : Nat} (h : zz_In ll av na sk at' ln ba (K + 1)) : zz_In ll av na sk at' ln ba K := fun j hj => h j (by omega)
theorem zz_In_init {ll : Nat → Nat} (h : ll 0 ≤ 200) : zz_In ll (fun _ => 0) (0 + 1) (upd (fun _ => 0) 0 (nI 0)) (upd (fun _ => 0) 0 0) (upd (fun _ => 0) 0 (nI (ll 0))) (upd (fun _ => 0) 0 (nI 0)) 1 := by
  intro j hj
  have e : j = 0 := by omega
  subst e
  exact ⟨0, 0, pk_us, by omega, pk_us, pk_us, by omega, pk_us, Nat.zero_le _⟩
theorem zz_In_push {ll av : Nat → Nat} {na ne : Nat} {sk at' ln ba : Nat → Int32} {K : Nat} (h : zz_In ll av na sk at' ln ba (K + 1)) (hav : av K < ll K) (he : ne + ll (K + 1) ≤ 4000) :
    zz_In ll (zz_av av K) (na + 1) (upd sk (K + 1) (nI na)) (upd (upd at' K (nI (av K + 1))) (K + 1) 0) (upd ln na (nI (ll (K + 1)))) (upd ba na (nI ne)) (K + 2) := by
  intro j hj
  by_cases h1 : j = K + 1
  · subst h1
    refine ⟨na, ne, pk_us, by omega, pk_us, pk_us, he, ?_, ?_⟩
    · rw [pk_us]; simp [zz_av]; rfl
    · simp [zz_av]
  · obtain ⟨sA, bA, i1, i2, i3, i4, i5, i6, i7⟩ := h j (by omega)
    refine ⟨sA, bA, (pk_un h1).trans i1, by omega, (pk_un (by omega)).trans i3, (pk_un (by omega)).trans i4, i5, ?_, ?_⟩
    · rw [pk_un h1]
      by_cases h2 : j = K
      · subst h2; rw [pk_us]; simp [zz_av]
      · rw [pk_un h2, i6]; simp [zz_av, h1, h2]
    · by_cases h2 : j = K
      · subst h2; simp [zz_av]; omega
      · simp [zz_av, h1, h2]; exact i7
def zz_TF (ll : Nat → Nat) (D : Nat) : Nat → Nat := fun j => zz_TT2 ll (D + 1 - j) j
def zz_EF (ll : Nat → Nat) (D : Nat) : Nat → Nat := fun j => zz_EE ll (D + 1 - j) j
theorem zz_TF_r {ll : Nat → Nat} {D j : Nat} (h : j < D + 1) : zz_TF ll D j = 1 + ll j * zz_TF ll D (j + 1) := by
  show zz_TT2 ll (D + 1 - j) j = 1 + ll j * zz_TT2 ll (D + 1 - (j + 1)) (j + 1)
  rw [show D + 1 - j = (D + 1 - (j + 1)) + 1 by omega, zz_TT2]
theorem zz_EF_r {ll : Nat → Nat} {D j : Nat} (h : j < D + 1) : zz_EF ll D j = ll j + ll j * zz_EF ll D (j + 1) := by
  show zz_EE ll (D + 1 - j) j = ll j + ll j * zz_EE ll (D + 1 - (j + 1)) (j + 1)
  rw [show D + 1 - j = (D + 1 - (j + 1)) + 1 by omega, zz_EE]
theorem zz_R1T {ll : Nat → Nat} {D : Nat} : zz_R (zz_TF ll D) ll (fun _ => 0) 1 + 1 = zz_TT2 ll (D + 1) 0 := by
  rw [zz_R, zz_R, Nat.sub_zero, zz_TT2]
  show 0 + ll 0 * zz_TT2 ll (D + 1 - 1) 1 + 1 = 1 + ll 0 * zz_TT2 ll D 1
  rw [show D + 1 - 1 = D by omega]; omega
theorem zz_R1E {ll : Nat → Nat} {D : Nat} : zz_R (zz_EF ll D) ll (fun _ => 0) 1 + ll 0 = zz_EE ll (D + 1) 0 := by
  rw [zz_R, zz_R, Nat.sub_zero, zz_EE]
  show 0 + ll 0 * zz_EE ll (D + 1 - 1) 1 + ll 0 = ll 0 + ll 0 * zz_EE ll D 1
  rw [show D + 1 - 1 = D by omega]; omega
theorem zl_lev {lev : Int32} {L : Nat} (h0 : lev = nI L + (-1)) (h : ¬ lev < 0) : ∃ K, L = K + 1 := by
  cases L with
  | zero => exact absurd (by rw [h0]; decide) h
  | succ K => exact ⟨K, rfl⟩
theorem zl_w {x lo hi : Int64} (h : ¬ fn_cm_within x lo hi = 0) : ¬ x < lo ∧ ¬ hi < x := by
  unfold fn_cm_within at h
  refine ⟨fun q => h (if_pos q), fun q => ?_⟩
  by_cases a : x < lo
  · exact h (if_pos a)
  · exact h (by rw [if_neg a, if_pos q])
theorem zl_i2l (x : Int32) : x.toInt64.toInt = x.toInt := by simp
theorem zl_w14 {x : Int32} (h : ¬ fn_cm_within x.toInt64 1 4 = 0) : x = 1 ∨ x = 2 ∨ x = 3 ∨ x = 4 := by
  obtain ⟨h1, h2⟩ := zl_w h
  rw [Int64.lt_iff_toInt_lt, zl_i2l] at h1 h2
  have e1 : (1 : Int64).toInt = 1 := by decide
  have e4 : (4 : Int64).toInt = 4 := by decide
  have f1 : (1 : Int32).toInt = 1 := by decide
  have f4 : (4 : Int32).toInt = 4 := by decide
  refine zl_14 ?_ ?_
  · rw [Int32.lt_iff_toInt_lt]; omega
  · rw [Int32.le_iff_toInt_le]; omega
theorem zl_or {a b : Int32} (h : a ||| b = 0) : a = 0 ∧ b = 0 := by
  have h1 : (a.toBitVec ||| b.toBitVec) = 0#32 := congrArg Int32.toBitVec h
  have h2 := BitVec.or_eq_zero_iff.mp h1
  exact ⟨Int32.toBitVec_inj.mp h2.1, Int32.toBitVec_inj.mp h2.2⟩
theorem zl_le200 {x : Int32} (h : (if x ≤ 200 then (0 : Int32) else 1) = 0) : x ≤ 200 := by
  by_cases a : x ≤ 200
  · exact a
  · rw [if_neg a] at h; exact absurd h (by decide)
theorem zl_200L {x : Int32} (h : 0 ≤ x) (h2 : x ≤ 200) : ∃ j : Nat, j ≤ 200 ∧ x = nI j := zl_200' h h2
theorem zl_room1 {l0 : Nat} (h0 : l0 ≤ 200) (c2 : ¬ fn_cm_isRoom 0 0 1 (0 + (1 * (nI l0).toInt64)) = 0) : zz_TT2 (zz_ll l0 0 0 0) 1 0 ≤ 60 ∧ zz_EE (zz_ll l0 0 0 0) 1 0 ≤ 4000 := by
  have e1 : (1 : Int64) = lN 1 := by decide
  have e0 : (0 : Int64) = lN 0 := by decide
  have f0 : (nI l0).toInt64 = lN l0 := nI_l (by omega)
  have em : (1 : Int64) = lN 1 := by
    exact e1
  have ea : (0 + (1 * (nI l0).toInt64)) = lN (0 + 1 * l0) := by
    rw [f0]; simp only [e1, e0, lN_mul, lN_add]
  have c3 : ¬ (4000 : Int64) < (0 : Int32).toInt64 + (0 + (1 * (nI l0).toInt64)) := by
    intro q; apply c2; unfold fn_cm_isRoom
    by_cases a : (60 : Int32) < 0 + 1
    · rw [if_pos a]
    · rw [if_neg a, if_pos q]
  rw [ea, show (0 : Int32).toInt64 = lN 0 by decide, lN_add, show (4000 : Int64) = lN 4000 by decide, pk_lLT (by decide) (by simp only [Nat.one_mul, Nat.zero_add] <;> omega)] at c3
  have g0 : (zz_ll l0 0 0 0) 0 = l0 := rfl
  simp only [zz_TT2, zz_EE, g0, Nat.mul_zero, Nat.add_zero, Nat.mul_add, Nat.mul_one, Nat.zero_add, Nat.one_mul, ← Nat.mul_assoc] at c3 ⊢
  constructor <;> omega
theorem zl_room2 {l0 : Nat} {l1 : Nat} (h0 : l0 ≤ 200) (h1 : l1 ≤ 200) (c1 : ¬ 60 < ((1 + (1 * (nI l0).toInt64)) : Int64)) (c2 : ¬ fn_cm_isRoom 0 0 (1 + (1 * (nI l0).toInt64)).toInt32 ((0 + (1 * (nI l0).toInt64)) + ((1 * (nI l0).toInt64) * (nI l1).toInt64)) = 0) : zz_TT2 (zz_ll l0 l1 0 0) 2 0 ≤ 60 ∧ zz_EE (zz_ll l0 l1 0 0) 2 0 ≤ 4000 := by
  have e1 : (1 : Int64) = lN 1 := by decide
  have e0 : (0 : Int64) = lN 0 := by decide
  have f0 : (nI l0).toInt64 = lN l0 := nI_l (by omega)
  have f1 : (nI l1).toInt64 = lN l1 := nI_l (by omega)
  have em : ((1 + (1 * (nI l0).toInt64)) : Int64) = lN (1 + (1 * l0)) := by
    rw [f0]; simp only [e1, lN_mul, lN_add]
  have ea : ((0 + (1 * (nI l0).toInt64)) + ((1 * (nI l0).toInt64) * (nI l1).toInt64)) = lN ((0 + 1 * l0) + (1 * l0) * l1) := by
    rw [f0, f1]; simp only [e1, e0, lN_mul, lN_add]
  have b1 : l0 * l1 ≤ 200 * 200 := Nat.mul_le_mul h0 h1
  have c3 : ¬ (4000 : Int64) < (0 : Int32).toInt64 + ((0 + (1 * (nI l0).toInt64)) + ((1 * (nI l0).toInt64) * (nI l1).toInt64)) := by
    intro q; apply c2; unfold fn_cm_isRoom
    by_cases a : (60 : Int32) < 0 + (1 + (1 * (nI l0).toInt64)).toInt32
    · rw [if_pos a]
    · rw [if_neg a, if_pos q]
  rw [em, show (60 : Int64) = lN 60 by decide, pk_lLT (by decide) (by simp only [Nat.one_mul] <;> omega)] at c1
  rw [ea, show (0 : Int32).toInt64 = lN 0 by decide, lN_add, show (4000 : Int64) = lN 4000 by decide, pk_lLT (by decide) (by simp only [Nat.one_mul, Nat.zero_add] <;> omega)] at c3
  have g0 : (zz_ll l0 l1 0 0) 0 = l0 := rfl
  have g1 : (zz_ll l0 l1 0 0) 1 = l1 := rfl
  simp only [zz_TT2, zz_EE, g0, Nat.zero_add, g1, Nat.mul_zero, Nat.add_zero, Nat.mul_add, Nat.mul_one, Nat.zero_add, Nat.one_mul, ← Nat.mul_assoc] at c1 c3 ⊢
  constructor <;> omega
theorem zl_room3 {l0 : Nat} {l1 : Nat} {l2 : Nat} (h0 : l0 ≤ 200) (h1 : l1 ≤ 200) (h2 : l2 ≤ 200) (c1 : ¬ 60 < (((1 + (1 * (nI l0).toInt64)) + ((1 * (nI l0).toInt64) * (nI l1).toInt64)) : Int64)) (c2 : ¬ fn_cm_isRoom 0 0 ((1 + (1 * (nI l0).toInt64)) + ((1 * (nI l0).toInt64) * (nI l1).toInt64)).toInt32 (((0 + (1 * (nI l0).toInt64)) + ((1 * (nI l0).toInt64) * (nI l1).toInt64)) + (((1 * (nI l0).toInt64) * (nI l1).toInt64) * (nI l2).toInt64)) = 0) : zz_TT2 (zz_ll l0 l1 l2 0) 3 0 ≤ 60 ∧ zz_EE (zz_ll l0 l1 l2 0) 3 0 ≤ 4000 := by
  have e1 : (1 : Int64) = lN 1 := by decide
  have e0 : (0 : Int64) = lN 0 := by decide
  have f0 : (nI l0).toInt64 = lN l0 := nI_l (by omega)
  have f1 : (nI l1).toInt64 = lN l1 := nI_l (by omega)
  have f2 : (nI l2).toInt64 = lN l2 := nI_l (by omega)
  have em : (((1 + (1 * (nI l0).toInt64)) + ((1 * (nI l0).toInt64) * (nI l1).toInt64)) : Int64) = lN ((1 + (1 * l0)) + ((1 * l0) * l1)) := by
    rw [f0, f1]; simp only [e1, lN_mul, lN_add]
  have ea : (((0 + (1 * (nI l0).toInt64)) + ((1 * (nI l0).toInt64) * (nI l1).toInt64)) + (((1 * (nI l0).toInt64) * (nI l1).toInt64) * (nI l2).toInt64)) = lN (((0 + 1 * l0) + (1 * l0) * l1) + ((1 * l0) * l1) * l2) := by
    rw [f0, f1, f2]; simp only [e1, e0, lN_mul, lN_add]
  have b1 : l0 * l1 ≤ 200 * 200 := Nat.mul_le_mul h0 h1
  have b2 : (l0 * l1) * l2 ≤ 40000 * 200 := Nat.mul_le_mul b1 h2
  have c3 : ¬ (4000 : Int64) < (0 : Int32).toInt64 + (((0 + (1 * (nI l0).toInt64)) + ((1 * (nI l0).toInt64) * (nI l1).toInt64)) + (((1 * (nI l0).toInt64) * (nI l1).toInt64) * (nI l2).toInt64)) := by
    intro q; apply c2; unfold fn_cm_isRoom
    by_cases a : (60 : Int32) < 0 + ((1 + (1 * (nI l0).toInt64)) + ((1 * (nI l0).toInt64) * (nI l1).toInt64)).toInt32
    · rw [if_pos a]
    · rw [if_neg a, if_pos q]
  rw [em, show (60 : Int64) = lN 60 by decide, pk_lLT (by decide) (by simp only [Nat.one_mul] <;> omega)] at c1
  rw [ea, show (0 : Int32).toInt64 = lN 0 by decide, lN_add, show (4000 : Int64) = lN 4000 by decide, pk_lLT (by decide) (by simp only [Nat.one_mul, Nat.zero_add] <;> omega)] at c3
  have g0 : (zz_ll l0 l1 l2 0) 0 = l0 := rfl
  have g1 : (zz_ll l0 l1 l2 0) 1 = l1 := rfl
  have g2 : (zz_ll l0 l1 l2 0) 2 = l2 := rfl
  simp only [zz_TT2, zz_EE, g0, Nat.zero_add, g1, Nat.zero_add, g2, Nat.mul_zero, Nat.add_zero, Nat.mul_add, Nat.mul_one, Nat.zero_add, Nat.one_mul, ← Nat.mul_assoc] at c1 c3 ⊢
  constructor <;> omega
theorem zl_room4 {l0 : Nat} {l1 : Nat} {l2 : Nat} {l3 : Nat} (h0 : l0 ≤ 200) (h1 : l1 ≤ 200) (h2 : l2 ≤ 200) (h3 : l3 ≤ 200) (c1 : ¬ 60 < ((((1 + (1 * (nI l0).toInt64)) + ((1 * (nI l0).toInt64) * (nI l1).toInt64)) + (((1 * (nI l0).toInt64) * (nI l1).toInt64) * (nI l2).toInt64)) : Int64)) (c2 : ¬ fn_cm_isRoom 0 0 (((1 + (1 * (nI l0).toInt64)) + ((1 * (nI l0).toInt64) * (nI l1).toInt64)) + (((1 * (nI l0).toInt64) * (nI l1).toInt64) * (nI l2).toInt64)).toInt32 ((((0 + (1 * (nI l0).toInt64)) + ((1 * (nI l0).toInt64) * (nI l1).toInt64)) + (((1 * (nI l0).toInt64) * (nI l1).toInt64) * (nI l2).toInt64)) + ((((1 * (nI l0).toInt64) * (nI l1).toInt64) * (nI l2).toInt64) * (nI l3).toInt64)) = 0) : zz_TT2 (zz_ll l0 l1 l2 l3) 4 0 ≤ 60 ∧ zz_EE (zz_ll l0 l1 l2 l3) 4 0 ≤ 4000 := by
  have e1 : (1 : Int64) = lN 1 := by decide
  have e0 : (0 : Int64) = lN 0 := by decide
  have f0 : (nI l0).toInt64 = lN l0 := nI_l (by omega)
  have f1 : (nI l1).toInt64 = lN l1 := nI_l (by omega)
  have f2 : (nI l2).toInt64 = lN l2 := nI_l (by omega)
  have f3 : (nI l3).toInt64 = lN l3 := nI_l (by omega)
  have em : ((((1 + (1 * (nI l0).toInt64)) + ((1 * (nI l0).toInt64) * (nI l1).toInt64)) + (((1 * (nI l0).toInt64) * (nI l1).toInt64) * (nI l2).toInt64)) : Int64) = lN (((1 + (1 * l0)) + ((1 * l0) * l1)) + (((1 * l0) * l1) * l2)) := by
    rw [f0, f1, f2]; simp only [e1, lN_mul, lN_add]
  have ea : ((((0 + (1 * (nI l0).toInt64)) + ((1 * (nI l0).toInt64) * (nI l1).toInt64)) + (((1 * (nI l0).toInt64) * (nI l1).toInt64) * (nI l2).toInt64)) + ((((1 * (nI l0).toInt64) * (nI l1).toInt64) * (nI l2).toInt64) * (nI l3).toInt64)) = lN ((((0 + 1 * l0) + (1 * l0) * l1) + ((1 * l0) * l1) * l2) + (((1 * l0) * l1) * l2) * l3) := by
    rw [f0, f1, f2, f3]; simp only [e1, e0, lN_mul, lN_add]
  have b1 : l0 * l1 ≤ 200 * 200 := Nat.mul_le_mul h0 h1
  have b2 : (l0 * l1) * l2 ≤ 40000 * 200 := Nat.mul_le_mul b1 h2
  have b3 : ((l0 * l1) * l2) * l3 ≤ 8000000 * 200 := Nat.mul_le_mul b2 h3
  have c3 : ¬ (4000 : Int64) < (0 : Int32).toInt64 + ((((0 + (1 * (nI l0).toInt64)) + ((1 * (nI l0).toInt64) * (nI l1).toInt64)) + (((1 * (nI l0).toInt64) * (nI l1).toInt64) * (nI l2).toInt64)) + ((((1 * (nI l0).toInt64) * (nI l1).toInt64) * (nI l2).toInt64) * (nI l3).toInt64)) := by
    intro q; apply c2; unfold fn_cm_isRoom
    by_cases a : (60 : Int32) < 0 + (((1 + (1 * (nI l0).toInt64)) + ((1 * (nI l0).toInt64) * (nI l1).toInt64)) + (((1 * (nI l0).toInt64) * (nI l1).toInt64) * (nI l2).toInt64)).toInt32
    · rw [if_pos a]
    · rw [if_neg a, if_pos q]
  rw [em, show (60 : Int64) = lN 60 by decide, pk_lLT (by decide) (by simp only [Nat.one_mul] <;> omega)] at c1
  rw [ea, show (0 : Int32).toInt64 = lN 0 by decide, lN_add, show (4000 : Int64) = lN 4000 by decide, pk_lLT (by decide) (by simp only [Nat.one_mul, Nat.zero_add] <;> omega)] at c3
  have g0 : (zz_ll l0 l1 l2 l3) 0 = l0 := rfl
  have g1 : (zz_ll l0 l1 l2 l3) 1 = l1 := rfl
  have g2 : (zz_ll l0 l1 l2 l3) 2 = l2 := rfl
  have g3 : (zz_ll l0 l1 l2 l3) 3 = l3 := rfl
  simp only [zz_TT2, zz_EE, g0, Nat.zero_add, g1, Nat.zero_add, g2, Nat.zero_add, g3, Nat.mul_zero, Nat.add_zero, Nat.mul_add, Nat.mul_one, Nat.zero_add, Nat.one_mul, ← Nat.mul_assoc] at c1 c3 ⊢
  constructor <;> omega
