theorem zl_win (x : Int32) (lo hi : Int64) : fn_cm_within x.toInt64 lo hi = 0 ↔ (x.toInt < lo.toInt ∨ hi.toInt < x.toInt) := by
  unfold fn_cm_within
  by_cases a : x.toInt64 < lo
  · rw [if_pos a]
    rw [Int64.lt_iff_toInt_lt, zl_i2l] at a
    exact ⟨fun _ => Or.inl a, fun _ => rfl⟩
  · rw [if_neg a]
    rw [Int64.lt_iff_toInt_lt, zl_i2l] at a
    by_cases b : hi < x.toInt64
    · rw [if_pos b]
      rw [Int64.lt_iff_toInt_lt, zl_i2l] at b
      exact ⟨fun _ => Or.inr b, fun _ => rfl⟩
    · rw [if_neg b]
      rw [Int64.lt_iff_toInt_lt, zl_i2l] at b
      exact ⟨fun q => absurd q (by decide), fun q => absurd q (by omega)⟩
theorem zl_kind (x : Int32) : fn_co_isKind x = 0 ↔ fn_cm_within x.toInt64 0 8 = 0 := by
  rw [zl_win]
  have e0 : (0 : Int64).toInt = 0 := by decide
  have e8 : (8 : Int64).toInt = 8 := by decide
  have f0 : (0 : Int32).toInt = 0 := by decide
  have f8 : (8 : Int32).toInt = 8 := by decide
  unfold fn_co_isKind
  by_cases a : x < 0
  · rw [if_pos a]; rw [Int32.lt_iff_toInt_lt] at a
    exact ⟨fun _ => Or.inl (by omega), fun _ => rfl⟩
  · rw [if_neg a]; rw [Int32.lt_iff_toInt_lt] at a
    by_cases b : 8 < x
    · rw [if_pos b]; rw [Int32.lt_iff_toInt_lt] at b
      exact ⟨fun _ => Or.inr (by omega), fun _ => rfl⟩
    · rw [if_neg b]; rw [Int32.lt_iff_toInt_lt] at b
      exact ⟨fun q => absurd q (by decide), fun q => absurd q (by omega)⟩
theorem zl_if {α : Type} {P Q : Prop} [Decidable P] [Decidable Q] (h : P ↔ Q) {a b c d : α} (h1 : a = c) (h2 : b = d) : (if P then a else b) = (if Q then c else d) := by
  subst h1; subst h2
  by_cases q : Q
  · rw [if_pos q, if_pos (h.mpr q)]
  · rw [if_neg q, if_neg (fun z => q (h.mp z))]
theorem zl_room0 (n : Int64) : fn_co_fits 0 0 1 n = fn_cm_isRoom 0 0 1 n := by
  unfold fn_co_fits fn_cm_isRoom
  rw [if_neg (show ¬ (60 : Int64) < (0 : Int32).toInt64 + 1 by decide), if_neg (show ¬ (60 : Int32) < 0 + 1 by decide)]
theorem eq_new (x : Int32) : fn_co_newArray0 x = (if 0 ≤ x then (if 200 < x then -8 else (if (fn_cm_isRoom 0 0 1 x.toInt64) = 0 then -8 else (nI 0))) else -4) := by
  unfold fn_co_newArray0
  rw [zl_room0]; rfl
theorem eq_array (x1 x2 : Int32) : fn_cx_array x1 x2 = fn_my_array x1 x2 := by
  unfold fn_cx_array fn_my_array
  exact zl_if (zl_kind x1) rfl (eq_new x2)
theorem eq_things (x1 x2 : Int32) : fn_cx_things x1 x2 = fn_my_things x1 x2 := by
  unfold fn_cx_things fn_my_things
  have e0 : (0 : Int64).toInt = 0 := by decide
  have e6 : (6 : Int64).toInt = 6 := by decide
  have f0 : (0 : Int32).toInt = 0 := by decide
  have f7 : (7 : Int32).toInt = 7 := by decide
  by_cases a : x1 < 0
  · rw [if_pos a, if_pos]
    rw [zl_win]; rw [Int32.lt_iff_toInt_lt] at a; omega
  · rw [if_neg a]
    rw [Int32.lt_iff_toInt_lt] at a
    by_cases b : x1 < 7
    · rw [if_pos b, if_neg]
      · exact eq_new x2
      · rw [zl_win]; rw [Int32.lt_iff_toInt_lt] at b; omega
    · rw [if_neg b, if_pos]
      rw [zl_win]; rw [Int32.lt_iff_toInt_lt] at b; omega
theorem eq_column (x1 x2 : Int32) : fn_cx_column x1 x2 = fn_my_column x1 x2 := by
  unfold fn_cx_column fn_my_column
  exact zl_if (zl_kind x1) rfl rfl
theorem zl_wide : ∀ a, a < 9 → ∀ b, b < 9 → fn_co_reaches (nI a) (nI b) = fn_cm_isWider (nI a) (nI b) := by decide +kernel
theorem zl_08 {x : Int32} (h : ¬ fn_cm_within x.toInt64 0 8 = 0) : ∃ j : Nat, j < 9 ∧ x = nI j := by
  rw [zl_win] at h
  have e0 : (0 : Int64).toInt = 0 := by decide
  have e8 : (8 : Int64).toInt = 8 := by decide
  have f0 : (0 : Int32).toInt = 0 := by decide
  have f8 : (8 : Int32).toInt = 8 := by decide
  obtain ⟨j, hj, e⟩ := nI_of2 (x := x) (M := 8) (n := 8) (by decide) (by rw [Int32.lt_iff_toInt_lt]; omega) (by rw [Int32.le_iff_toInt_le]; omega)
  exact ⟨j, by omega, e⟩
theorem eq_widens (x1 x2 : Int32) : fn_cx_widens x1 x2 = fn_my_widens x1 x2 := by
  unfold fn_cx_widens fn_my_widens
  by_cases a : fn_cm_within x1.toInt64 0 8 = 0
  · rw [if_pos a, if_pos ((zl_kind x1).mpr a)]
  · rw [if_neg a, if_neg (fun q => a ((zl_kind x1).mp q))]
    by_cases b : fn_cm_within x2.toInt64 0 8 = 0
    · rw [if_pos b, if_pos ((zl_kind x2).mpr b)]
    · rw [if_neg b, if_neg (fun q => b ((zl_kind x2).mp q))]
      obtain ⟨i, hi, rfl⟩ := zl_08 a
      obtain ⟨j, hj, rfl⟩ := zl_08 b
      rw [zl_wide i hi j hj]
theorem eq_fill (x2 x3 : Int32) : fn_cx_fill = fn_my_fill x2 x3 := by unfold fn_my_fill; split <;> rfl
theorem eq_move (x5 : Int32) : fn_cx_move = fn_my_move x5 := by unfold fn_my_move; split <;> rfl
theorem eq_sort (x2 x3 : Int32) : fn_cx_sort = fn_my_sort x2 x3 := by unfold fn_my_sort; split <;> rfl
theorem eq_amount (x1 : Int32) : fn_cx_amount x1 = fn_my_amount := by unfold fn_cx_amount; split <;> rfl
theorem zl_sw6 (x : Int32) : (x.toInt < 0 ∨ ((6 : Nat) : Int) ≤ x.toInt) ∨ ∃ k : Nat, k < 6 ∧ x = nI k := zz_sw x 6 (by decide)
theorem zl_cntD : ∀ k, k < 6 → fn_cx_count (nI k) = fn_my_count (nI k) := by decide +kernel
theorem eq_count (x1 : Int32) : fn_cx_count x1 = fn_my_count x1 := by
  rcases zl_sw6 x1 with h | ⟨k, hk, rfl⟩
  · rw [zl_cnt h]
    unfold fn_my_count
    rw [if_pos]
    rw [zl_win]
    have e0 : (0 : Int64).toInt = 0 := by decide
    have e5 : (5 : Int64).toInt = 5 := by decide
    omega
  · exact zl_cntD k hk
theorem zl_fr (M A : Int64) {m : Nat} (hM : M = lN m) (hm : m < 2 ^ 31) : (if fn_co_fits 0 0 M A = 0 then (-8 : Int32) else nI 0) = (if 60 < M then -8 else (if fn_cm_isRoom 0 0 M.toInt32 A = 0 then -8 else 0)) := by
  have z : (0 : Int32).toInt64 = lN 0 := by decide
  have e60 : (60 : Int64) = lN 60 := by decide
  have i60 : (60 : Int32) = nI 60 := by decide
  unfold fn_co_fits fn_cm_isRoom
  rw [show (0 : Int32).toInt64 + M = M by rw [z, hM, lN_add, Nat.zero_add]]
  by_cases a : 60 < M
  · rw [if_pos a, if_pos a, if_pos rfl]
  · rw [if_neg a, if_neg a]
    have hm' : m ≤ 60 := by
      rw [hM, e60, pk_lLT (by decide) (by omega)] at a; omega
    have b : ¬ (60 : Int32) < 0 + M.toInt32 := by
      rw [hM, lN_i, i60, show (0 : Int32) = nI 0 from rfl, nI_add, Nat.zero_add, nI_ltI (by decide) (by omega)]; omega
    rw [if_neg b]; rfl
theorem eq_g1 (x1 x3 x4 x5 x6 : Int32) : (if fn_co_hasNeg x3 x4 x5 x6 1 = 0 then (if fn_co_gridFits x3 x4 x5 x6 1 = 0 then -8 else nI 0) else -4) = fn_my_grid_901 x1 x3 x4 x5 x6 := by
  by_cases a0 : 0 ≤ x3
  rotate_left
  · rw [show fn_co_hasNeg x3 x4 x5 x6 1 = 1 by rw [fn_co_hasNeg, if_neg (show ¬ ((1 : Int32) ≤ 0) by decide), if_neg a0]]
    rw [if_neg (by decide), fn_my_grid_901, if_neg a0]
  rw [show fn_co_hasNeg x3 x4 x5 x6 1 = 0 by rw [fn_co_hasNeg, if_neg (show ¬ ((1 : Int32) ≤ 0) by decide), if_pos a0, if_pos (show (1 : Int32) ≤ 1 by decide)]]
  rw [if_pos rfl, fn_my_grid_901, if_pos a0]
  by_cases b0 : x3 ≤ 200
  rotate_left
  · rw [show fn_co_gridFits x3 x4 x5 x6 1 = 0 by rw [fn_co_gridFits, if_neg (show ¬ ((1 : Int32) ≤ 0) by decide), if_neg b0]]
    rw [if_pos rfl, if_neg (fun q => b0 (zl_le200 (zl_or q).2))]
  rw [show fn_co_gridFits x3 x4 x5 x6 1 = fn_co_fits 0 0 1 (0 + (1 * x3.toInt64)) by rw [fn_co_gridFits, if_neg (show ¬ ((1 : Int32) ≤ 0) by decide), if_pos b0, if_pos (show (1 : Int32) ≤ 1 by decide)]]
  rw [if_pos (show (0 ||| (if x3 ≤ 200 then (0 : Int32) else 1)) = 0 by rw [if_pos b0]; decide)]
  rw [zl_fr 1 (0 + (1 * x3.toInt64)) (m := 1) (by decide) (by decide), if_neg (by decide)]; rfl
theorem eq_g2 (x1 x3 x4 x5 x6 : Int32) : (if fn_co_hasNeg x3 x4 x5 x6 2 = 0 then (if fn_co_gridFits x3 x4 x5 x6 2 = 0 then -8 else nI 0) else -4) = fn_my_grid_902 x1 x3 x4 x5 x6 := by
  by_cases a0 : 0 ≤ x3
  rotate_left
  · rw [show fn_co_hasNeg x3 x4 x5 x6 2 = 1 by rw [fn_co_hasNeg, if_neg (show ¬ ((2 : Int32) ≤ 0) by decide), if_neg a0]]
    rw [if_neg (by decide), fn_my_grid_902, if_neg a0]
  by_cases a1 : 0 ≤ x4
  rotate_left
  · rw [show fn_co_hasNeg x3 x4 x5 x6 2 = 1 by rw [fn_co_hasNeg, if_neg (show ¬ ((2 : Int32) ≤ 0) by decide), if_pos a0, if_neg (show ¬ ((2 : Int32) ≤ 1) by decide), if_neg a1]]
    rw [if_neg (by decide), fn_my_grid_902, if_pos a0, if_neg a1]
  rw [show fn_co_hasNeg x3 x4 x5 x6 2 = 0 by rw [fn_co_hasNeg, if_neg (show ¬ ((2 : Int32) ≤ 0) by decide), if_pos a0, if_neg (show ¬ ((2 : Int32) ≤ 1) by decide), if_pos a1, if_pos (show (2 : Int32) ≤ 2 by decide)]]
  rw [if_pos rfl, fn_my_grid_902, if_pos a0, if_pos a1]
  by_cases b0 : x3 ≤ 200
  rotate_left
  · rw [show fn_co_gridFits x3 x4 x5 x6 2 = 0 by rw [fn_co_gridFits, if_neg (show ¬ ((2 : Int32) ≤ 0) by decide), if_neg b0]]
    rw [if_pos rfl, if_neg (fun q => b0 (zl_le200 (zl_or (zl_or q).1).2))]
  by_cases b1 : x4 ≤ 200
  rotate_left
  · rw [show fn_co_gridFits x3 x4 x5 x6 2 = 0 by rw [fn_co_gridFits, if_neg (show ¬ ((2 : Int32) ≤ 0) by decide), if_pos b0, if_neg (show ¬ ((2 : Int32) ≤ 1) by decide), if_neg b1]]
    rw [if_pos rfl, if_neg (fun q => b1 (zl_le200 (zl_or q).2))]
  rw [show fn_co_gridFits x3 x4 x5 x6 2 = fn_co_fits 0 0 (1 + (1 * x3.toInt64)) ((0 + (1 * x3.toInt64)) + ((1 * x3.toInt64) * x4.toInt64)) by rw [fn_co_gridFits, if_neg (show ¬ ((2 : Int32) ≤ 0) by decide), if_pos b0, if_neg (show ¬ ((2 : Int32) ≤ 1) by decide), if_pos b1, if_pos (show (2 : Int32) ≤ 2 by decide)]]
  rw [if_pos (show ((0 ||| (if x3 ≤ 200 then (0 : Int32) else 1)) ||| (if x4 ≤ 200 then (0 : Int32) else 1)) = 0 by rw [if_pos b0, if_pos b1]; decide)]
  obtain ⟨l0, hl0, w0⟩ := zl_200L a0 b0
  have e1 : (1 : Int64) = lN 1 := by decide
  have em : ((1 + (1 * x3.toInt64)) : Int64) = lN (1 + (1 * l0)) := by rw [w0, nI_l (show l0 < 2 ^ 31 by omega)]; simp only [e1, lN_mul, lN_add]
  exact zl_fr _ _ em (by simp only [Nat.one_mul] <;> omega)
theorem eq_g3 (x1 x3 x4 x5 x6 : Int32) : (if fn_co_hasNeg x3 x4 x5 x6 3 = 0 then (if fn_co_gridFits x3 x4 x5 x6 3 = 0 then -8 else nI 0) else -4) = fn_my_grid_903 x1 x3 x4 x5 x6 := by
  by_cases a0 : 0 ≤ x3
  rotate_left
  · rw [show fn_co_hasNeg x3 x4 x5 x6 3 = 1 by rw [fn_co_hasNeg, if_neg (show ¬ ((3 : Int32) ≤ 0) by decide), if_neg a0]]
    rw [if_neg (by decide), fn_my_grid_903, if_neg a0]
  by_cases a1 : 0 ≤ x4
  rotate_left
  · rw [show fn_co_hasNeg x3 x4 x5 x6 3 = 1 by rw [fn_co_hasNeg, if_neg (show ¬ ((3 : Int32) ≤ 0) by decide), if_pos a0, if_neg (show ¬ ((3 : Int32) ≤ 1) by decide), if_neg a1]]
    rw [if_neg (by decide), fn_my_grid_903, if_pos a0, if_neg a1]
  by_cases a2 : 0 ≤ x5
  rotate_left
  · rw [show fn_co_hasNeg x3 x4 x5 x6 3 = 1 by rw [fn_co_hasNeg, if_neg (show ¬ ((3 : Int32) ≤ 0) by decide), if_pos a0, if_neg (show ¬ ((3 : Int32) ≤ 1) by decide), if_pos a1, if_neg (show ¬ ((3 : Int32) ≤ 2) by decide), if_neg a2]]
    rw [if_neg (by decide), fn_my_grid_903, if_pos a0, if_pos a1, if_neg a2]
  rw [show fn_co_hasNeg x3 x4 x5 x6 3 = 0 by rw [fn_co_hasNeg, if_neg (show ¬ ((3 : Int32) ≤ 0) by decide), if_pos a0, if_neg (show ¬ ((3 : Int32) ≤ 1) by decide), if_pos a1, if_neg (show ¬ ((3 : Int32) ≤ 2) by decide), if_pos a2, if_pos (show (3 : Int32) ≤ 3 by decide)]]
  rw [if_pos rfl, fn_my_grid_903, if_pos a0, if_pos a1, if_pos a2]
  by_cases b0 : x3 ≤ 200
  rotate_left
  · rw [show fn_co_gridFits x3 x4 x5 x6 3 = 0 by rw [fn_co_gridFits, if_neg (show ¬ ((3 : Int32) ≤ 0) by decide), if_neg b0]]
    rw [if_pos rfl, if_neg (fun q => b0 (zl_le200 (zl_or (zl_or (zl_or q).1).1).2))]
  by_cases b1 : x4 ≤ 200
  rotate_left
  · rw [show fn_co_gridFits x3 x4 x5 x6 3 = 0 by rw [fn_co_gridFits, if_neg (show ¬ ((3 : Int32) ≤ 0) by decide), if_pos b0, if_neg (show ¬ ((3 : Int32) ≤ 1) by decide), if_neg b1]]
    rw [if_pos rfl, if_neg (fun q => b1 (zl_le200 (zl_or (zl_or q).1).2))]
  by_cases b2 : x5 ≤ 200
  rotate_left
  · rw [show fn_co_gridFits x3 x4 x5 x6 3 = 0 by rw [fn_co_gridFits, if_neg (show ¬ ((3 : Int32) ≤ 0) by decide), if_pos b0, if_neg (show ¬ ((3 : Int32) ≤ 1) by decide), if_pos b1, if_neg (show ¬ ((3 : Int32) ≤ 2) by decide), if_neg b2]]
    rw [if_pos rfl, if_neg (fun q => b2 (zl_le200 (zl_or q).2))]
  rw [show fn_co_gridFits x3 x4 x5 x6 3 = fn_co_fits 0 0 ((1 + (1 * x3.toInt64)) + ((1 * x3.toInt64) * x4.toInt64)) (((0 + (1 * x3.toInt64)) + ((1 * x3.toInt64) * x4.toInt64)) + (((1 * x3.toInt64) * x4.toInt64) * x5.toInt64)) by rw [fn_co_gridFits, if_neg (show ¬ ((3 : Int32) ≤ 0) by decide), if_pos b0, if_neg (show ¬ ((3 : Int32) ≤ 1) by decide), if_pos b1, if_neg (show ¬ ((3 : Int32) ≤ 2) by decide), if_pos b2, if_pos (show (3 : Int32) ≤ 3 by decide)]]
  rw [if_pos (show (((0 ||| (if x3 ≤ 200 then (0 : Int32) else 1)) ||| (if x4 ≤ 200 then (0 : Int32) else 1)) ||| (if x5 ≤ 200 then (0 : Int32) else 1)) = 0 by rw [if_pos b0, if_pos b1, if_pos b2]; decide)]
  obtain ⟨l0, hl0, w0⟩ := zl_200L a0 b0
  obtain ⟨l1, hl1, w1⟩ := zl_200L a1 b1
  have e1 : (1 : Int64) = lN 1 := by decide
  have em : (((1 + (1 * x3.toInt64)) + ((1 * x3.toInt64) * x4.toInt64)) : Int64) = lN ((1 + (1 * l0)) + ((1 * l0) * l1)) := by rw [w0, w1, nI_l (show l0 < 2 ^ 31 by omega), nI_l (show l1 < 2 ^ 31 by omega)]; simp only [e1, lN_mul, lN_add]
  have c1 : l0 * l1 ≤ 200 * 200 := Nat.mul_le_mul hl0 hl1
  exact zl_fr _ _ em (by simp only [Nat.one_mul] <;> omega)
theorem eq_g4 (x1 x3 x4 x5 x6 : Int32) : (if fn_co_hasNeg x3 x4 x5 x6 4 = 0 then (if fn_co_gridFits x3 x4 x5 x6 4 = 0 then -8 else nI 0) else -4) = fn_my_grid_904 x1 x3 x4 x5 x6 := by
  by_cases a0 : 0 ≤ x3
  rotate_left
  · rw [show fn_co_hasNeg x3 x4 x5 x6 4 = 1 by rw [fn_co_hasNeg, if_neg (show ¬ ((4 : Int32) ≤ 0) by decide), if_neg a0]]
    rw [if_neg (by decide), fn_my_grid_904, if_neg a0]
  by_cases a1 : 0 ≤ x4
  rotate_left
  · rw [show fn_co_hasNeg x3 x4 x5 x6 4 = 1 by rw [fn_co_hasNeg, if_neg (show ¬ ((4 : Int32) ≤ 0) by decide), if_pos a0, if_neg (show ¬ ((4 : Int32) ≤ 1) by decide), if_neg a1]]
    rw [if_neg (by decide), fn_my_grid_904, if_pos a0, if_neg a1]
  by_cases a2 : 0 ≤ x5
  rotate_left
  · rw [show fn_co_hasNeg x3 x4 x5 x6 4 = 1 by rw [fn_co_hasNeg, if_neg (show ¬ ((4 : Int32) ≤ 0) by decide), if_pos a0, if_neg (show ¬ ((4 : Int32) ≤ 1) by decide), if_pos a1, if_neg (show ¬ ((4 : Int32) ≤ 2) by decide), if_neg a2]]
    rw [if_neg (by decide), fn_my_grid_904, if_pos a0, if_pos a1, if_neg a2]
  by_cases a3 : 0 ≤ x6
  rotate_left
  · rw [show fn_co_hasNeg x3 x4 x5 x6 4 = 1 by rw [fn_co_hasNeg, if_neg (show ¬ ((4 : Int32) ≤ 0) by decide), if_pos a0, if_neg (show ¬ ((4 : Int32) ≤ 1) by decide), if_pos a1, if_neg (show ¬ ((4 : Int32) ≤ 2) by decide), if_pos a2, if_neg (show ¬ ((4 : Int32) ≤ 3) by decide), if_neg a3]]
    rw [if_neg (by decide), fn_my_grid_904, if_pos a0, if_pos a1, if_pos a2, if_neg a3]
  rw [show fn_co_hasNeg x3 x4 x5 x6 4 = 0 by rw [fn_co_hasNeg, if_neg (show ¬ ((4 : Int32) ≤ 0) by decide), if_pos a0, if_neg (show ¬ ((4 : Int32) ≤ 1) by decide), if_pos a1, if_neg (show ¬ ((4 : Int32) ≤ 2) by decide), if_pos a2, if_neg (show ¬ ((4 : Int32) ≤ 3) by decide), if_pos a3, if_pos (show (4 : Int32) ≤ 4 by decide)]]
  rw [if_pos rfl, fn_my_grid_904, if_pos a0, if_pos a1, if_pos a2, if_pos a3]
  by_cases b0 : x3 ≤ 200
  rotate_left
  · rw [show fn_co_gridFits x3 x4 x5 x6 4 = 0 by rw [fn_co_gridFits, if_neg (show ¬ ((4 : Int32) ≤ 0) by decide), if_neg b0]]
    rw [if_pos rfl, if_neg (fun q => b0 (zl_le200 (zl_or (zl_or (zl_or (zl_or q).1).1).1).2))]
  by_cases b1 : x4 ≤ 200
  rotate_left
  · rw [show fn_co_gridFits x3 x4 x5 x6 4 = 0 by rw [fn_co_gridFits, if_neg (show ¬ ((4 : Int32) ≤ 0) by decide), if_pos b0, if_neg (show ¬ ((4 : Int32) ≤ 1) by decide), if_neg b1]]
    rw [if_pos rfl, if_neg (fun q => b1 (zl_le200 (zl_or (zl_or (zl_or q).1).1).2))]
  by_cases b2 : x5 ≤ 200
  rotate_left
  · rw [show fn_co_gridFits x3 x4 x5 x6 4 = 0 by rw [fn_co_gridFits, if_neg (show ¬ ((4 : Int32) ≤ 0) by decide), if_pos b0, if_neg (show ¬ ((4 : Int32) ≤ 1) by decide), if_pos b1, if_neg (show ¬ ((4 : Int32) ≤ 2) by decide), if_neg b2]]
    rw [if_pos rfl, if_neg (fun q => b2 (zl_le200 (zl_or (zl_or q).1).2))]
  by_cases b3 : x6 ≤ 200
  rotate_left
  · rw [show fn_co_gridFits x3 x4 x5 x6 4 = 0 by rw [fn_co_gridFits, if_neg (show ¬ ((4 : Int32) ≤ 0) by decide), if_pos b0, if_neg (show ¬ ((4 : Int32) ≤ 1) by decide), if_pos b1, if_neg (show ¬ ((4 : Int32) ≤ 2) by decide), if_pos b2, if_neg (show ¬ ((4 : Int32) ≤ 3) by decide), if_neg b3]]
    rw [if_pos rfl, if_neg (fun q => b3 (zl_le200 (zl_or q).2))]
  rw [show fn_co_gridFits x3 x4 x5 x6 4 = fn_co_fits 0 0 (((1 + (1 * x3.toInt64)) + ((1 * x3.toInt64) * x4.toInt64)) + (((1 * x3.toInt64) * x4.toInt64) * x5.toInt64)) ((((0 + (1 * x3.toInt64)) + ((1 * x3.toInt64) * x4.toInt64)) + (((1 * x3.toInt64) * x4.toInt64) * x5.toInt64)) + ((((1 * x3.toInt64) * x4.toInt64) * x5.toInt64) * x6.toInt64)) by rw [fn_co_gridFits, if_neg (show ¬ ((4 : Int32) ≤ 0) by decide), if_pos b0, if_neg (show ¬ ((4 : Int32) ≤ 1) by decide), if_pos b1, if_neg (show ¬ ((4 : Int32) ≤ 2) by decide), if_pos b2, if_neg (show ¬ ((4 : Int32) ≤ 3) by decide), if_pos b3, if_pos (show (4 : Int32) ≤ 4 by decide)]]
  rw [if_pos (show ((((0 ||| (if x3 ≤ 200 then (0 : Int32) else 1)) ||| (if x4 ≤ 200 then (0 : Int32) else 1)) ||| (if x5 ≤ 200 then (0 : Int32) else 1)) ||| (if x6 ≤ 200 then (0 : Int32) else 1)) = 0 by rw [if_pos b0, if_pos b1, if_pos b2, if_pos b3]; decide)]
  obtain ⟨l0, hl0, w0⟩ := zl_200L a0 b0
  obtain ⟨l1, hl1, w1⟩ := zl_200L a1 b1
  obtain ⟨l2, hl2, w2⟩ := zl_200L a2 b2
  have e1 : (1 : Int64) = lN 1 := by decide
  have em : ((((1 + (1 * x3.toInt64)) + ((1 * x3.toInt64) * x4.toInt64)) + (((1 * x3.toInt64) * x4.toInt64) * x5.toInt64)) : Int64) = lN (((1 + (1 * l0)) + ((1 * l0) * l1)) + (((1 * l0) * l1) * l2)) := by rw [w0, w1, w2, nI_l (show l0 < 2 ^ 31 by omega), nI_l (show l1 < 2 ^ 31 by omega), nI_l (show l2 < 2 ^ 31 by omega)]; simp only [e1, lN_mul, lN_add]
  have c1 : l0 * l1 ≤ 200 * 200 := Nat.mul_le_mul hl0 hl1
  have c2 : (l0 * l1) * l2 ≤ 40000 * 200 := Nat.mul_le_mul c1 hl2
  exact zl_fr _ _ em (by simp only [Nat.one_mul] <;> omega)
theorem eq_grid (x1 x2 x3 x4 x5 x6 : Int32) : fn_cx_grid x1 x2 x3 x4 x5 x6 = fn_my_grid x1 x2 x3 x4 x5 x6 := by
  unfold fn_cx_grid fn_my_grid
  have e0 : (0 : Int64).toInt = 0 := by decide
  have e7 : (7 : Int64).toInt = 7 := by decide
  have e1 : (1 : Int64).toInt = 1 := by decide
  have e4 : (4 : Int64).toInt = 4 := by decide
  have f0 : (0 : Int32).toInt = 0 := by decide
  have f8 : (8 : Int32).toInt = 8 := by decide
  have f1 : (1 : Int32).toInt = 1 := by decide
  have f4 : (4 : Int32).toInt = 4 := by decide
  by_cases a : x1 < 0
  · rw [if_pos a, if_pos]
    rw [zl_win]; rw [Int32.lt_iff_toInt_lt] at a; omega
  rw [if_neg a]
  by_cases b : 8 ≤ x1
  · rw [if_pos b, if_pos]
    rw [zl_win]; rw [Int32.le_iff_toInt_le] at b; omega
  rw [if_neg b, if_neg (show ¬ fn_cm_within x1.toInt64 0 7 = 0 by rw [zl_win]; rw [Int32.lt_iff_toInt_lt] at a; rw [Int32.le_iff_toInt_le] at b; omega)]
  by_cases d : x2 < 1
  · rw [if_pos d, if_pos]
    rw [zl_win]; rw [Int32.lt_iff_toInt_lt] at d; omega
  rw [if_neg d]
  by_cases f : x2 ≤ 4
  · rw [if_pos f, if_neg (show ¬ fn_cm_within x2.toInt64 1 4 = 0 by rw [zl_win]; rw [Int32.lt_iff_toInt_lt] at d; rw [Int32.le_iff_toInt_le] at f; omega)]
    rcases zl_14 d f with rfl | rfl | rfl | rfl
    · rw [if_pos rfl, if_pos rfl]; exact eq_g1 x1 x3 x4 x5 x6
    · rw [if_neg (show ¬ ((2 : Int32) = 1) by decide), if_neg (show ¬ ((2 : Int32) = 1) by decide), if_pos rfl, if_pos rfl]; exact eq_g2 x1 x3 x4 x5 x6
    · rw [if_neg (show ¬ ((3 : Int32) = 1) by decide), if_neg (show ¬ ((3 : Int32) = 1) by decide), if_neg (show ¬ ((3 : Int32) = 2) by decide), if_neg (show ¬ ((3 : Int32) = 2) by decide), if_pos rfl, if_pos rfl]; exact eq_g3 x1 x3 x4 x5 x6
    · rw [if_neg (show ¬ ((4 : Int32) = 1) by decide), if_neg (show ¬ ((4 : Int32) = 1) by decide), if_neg (show ¬ ((4 : Int32) = 2) by decide), if_neg (show ¬ ((4 : Int32) = 2) by decide), if_neg (show ¬ ((4 : Int32) = 3) by decide), if_neg (show ¬ ((4 : Int32) = 3) by decide)]; exact eq_g4 x1 x3 x4 x5 x6
  · rw [if_neg f, if_pos]
    rw [zl_win]; rw [Int32.le_iff_toInt_le] at f; omega
