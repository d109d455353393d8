theorem zl_plI (k : Nat) (hk : k ≤ 8) (x : Int64) : fn_cm_plain (nI k) (fn_cm_plain (nI k) x) = fn_cm_plain (nI k) x := by
  by_cases n : fn_cm_isNone (nI k) x = 0
  · have e : fn_cm_plain (nI k) x = x := if_pos n
    rw [e, e]
  · have e : fn_cm_plain (nI k) x = (if nI k = 6 then 2143289344 else 9221120237041090560) := if_neg n
    rw [e]
    rcases (show k = 0 ∨ k = 1 ∨ k = 2 ∨ k = 3 ∨ k = 4 ∨ k = 5 ∨ k = 6 ∨ k = 7 ∨ k = 8 by omega) with rfl | rfl | rfl | rfl | rfl | rfl | rfl | rfl | rfl
    · exact absurd rfl n
    · exact absurd rfl n
    · exact absurd rfl n
    · exact absurd rfl n
    · exact absurd rfl n
    · exact absurd rfl n
    · decide
    · decide
    · exact absurd rfl n
/-- kinds that are no floats: any value is one -/
theorem zl_okA {k : Nat} (hk : k ≤ 8) (h6 : k ≠ 6) (h7 : k ≠ 7) (x : Int64) : zz_ok k x := by
  refine ⟨fun z => absurd z h6, ?_⟩
  rcases (show k = 0 ∨ k = 1 ∨ k = 2 ∨ k = 3 ∨ k = 4 ∨ k = 5 ∨ k = 8 by omega) with rfl | rfl | rfl | rfl | rfl | rfl | rfl <;> rfl
theorem zl_bit6 {x : Int64} (h : ¬ fn_cm_isBits (nI 6) x = 0) : ¬ x < -2147483648 := fun z => h (by
  show fn_cm_within x (-2147483648) 2147483647 = 0
  exact if_pos z)
/-- bits of a kind, of no-numbers the one -/
theorem zl_okP {k : Nat} {x : Int64} (hk : k ≤ 8) (h : ¬ fn_cm_isBits (nI k) x = 0) : zz_ok k (fn_cm_plain (nI k) x) := by
  refine ⟨fun z => ?_, zl_plI k hk x⟩
  subst z
  by_cases n : fn_cm_isNone (nI 6) x = 0
  · rw [show fn_cm_plain (nI 6) x = x from if_pos n]; exact zl_bit6 h
  · rw [show fn_cm_plain (nI 6) x = 2143289344 from if_neg n]; decide
/-- the number nearest to a whole: how great its bits are -/
theorem zl_nearV {w b : Nat} {x : Int64} (hw : (w = 23 ∧ b = 127) ∨ (w = 52 ∧ b = 1023)) : ∃ R : Nat, R ≤ (64 + b) * 2 ^ w ∧ fn_co_nearest x (nI w) (nI b) = lN R := by
  rw [zl_nearE]
  by_cases c0 : x = 0
  · rw [if_pos c0]; exact ⟨0, Nat.zero_le _, rfl⟩
  rw [if_neg c0]
  have hw2 : w < 62 ∧ b ≤ 1023 := by omega
  have go : ∀ m : Int64, ¬ m = 0 → ∃ R : Nat, R ≤ (64 + b) * 2 ^ w ∧ zz_rnd (zz_fc (fn_topBit m 63) (nI w) (nI b)) (zz_fc (fn_topBit m 63) (nI w) (nI b)) m (fn_topBit m 63) (nI w) = lN R := fun m hm => by
    obtain ⟨N, t, e, h64, ht, et, h1, h2⟩ := zl_top hm
    have h3 : (t + 1 + b) * 2 ^ w + 2 ^ w ≤ 2 ^ 64 := by
      rcases hw with ⟨rfl, rfl⟩ | ⟨rfl, rfl⟩ <;> omega
    rw [et, e]
    obtain ⟨P, p1, p2, p3, p4⟩ := zl_rnd (fun r => r) h64 ht h1 h2 hw2.1 hw2.2 h3
    rw [p3, zl_Fc (by omega) hw2.2 (by omega) p1]
    refine ⟨(t + b) * 2 ^ w + (P - 2 ^ w), ?_, rfl⟩
    have q1 : P - 2 ^ w ≤ 2 ^ w := by
      rw [Nat.pow_succ] at p2
      omega
    have q2 : (t + b) * 2 ^ w + 2 ^ w = (t + b + 1) * 2 ^ w := (Nat.succ_mul _ _).symm
    exact Nat.le_trans (Nat.add_le_add_left q1 _) (q2 ▸ Nat.mul_le_mul_right _ (by omega))
  by_cases cp : 0 ≤ x
  · rw [if_pos cp]; exact go x c0
  · rw [if_neg cp]; exact go (-x) (zl_neg0 c0)
theorem zl_or31 {R : Nat} (h : R < 2 ^ 31) : lN R ||| (-2147483648) = lN (8589934591 * 2 ^ 31 + R) := by
  have z := zl_orS (a := 8589934591) (b := R) (w := 31) h (by omega)
  rw [← z, show (-2147483648 : Int64) = lN (8589934591 * 2 ^ 31) by decide]
  exact Int64.or_comm _ _
theorem zl_no6 {X : Nat} (h : X % 2 ^ 31 ≤ 2139095040) : fn_cm_plain (nI 6) (lN X) = lN X := by
  have e3 : lN X &&& 2147483647 = lN (X % 2 ^ 31) := zl_and _ (w := 31) (by decide)
  have n : fn_cm_isNone (nI 6) (lN X) = 0 := by
    unfold fn_cm_isNone
    rw [if_pos (show nI 6 = 6 from rfl), e3, if_pos]
    rw [show (2139095040 : Int64) = lN 2139095040 by decide, pk_lLE (by omega) (by decide)]
    exact h
  exact if_pos n
theorem zl_no7 {X : Nat} (h : X % 2 ^ 63 ≤ 9218868437227405312) : fn_cm_plain (nI 7) (lN X) = lN X := by
  have e3 : lN X &&& 9223372036854775807 = lN (X % 2 ^ 63) := zl_and _ (w := 63) (by decide)
  have n : fn_cm_isNone (nI 7) (lN X) = 0 := by
    unfold fn_cm_isNone
    rw [if_neg (show ¬ nI 7 = 6 by decide), if_pos (show nI 7 = 7 from rfl), e3, if_pos]
    rw [show (9218868437227405312 : Int64) = lN 9218868437227405312 by decide, pk_lLE (by omega) (by decide)]
    exact h
  exact if_pos n
theorem zl_okR6 (x : Int64) : zz_ok 6 (fn_cm_real x 23 127) := by
  have e := zl_real (w := 23) (b := 127) x (Or.inl ⟨rfl, rfl⟩)
  obtain ⟨R, hR, eR⟩ := zl_nearV (w := 23) (b := 127) (x := x) (Or.inl ⟨rfl, rfl⟩)
  have e' : fn_cm_real x 23 127 = if 0 ≤ x then lN R else lN R ||| (-2147483648) := by
    rw [← eR]
    by_cases cp : 0 ≤ x
    · rw [if_pos cp]; rw [if_pos cp] at e; exact e
    · rw [if_neg cp]; rw [if_neg cp, if_pos rfl] at e; exact e
  rw [e']
  by_cases cp : 0 ≤ x
  · rw [if_pos cp]
    refine ⟨fun _ z => ?_, zl_no6 (by omega)⟩
    rw [Int64.lt_iff_toInt_lt, lN_toInt (by omega), show (-2147483648 : Int64).toInt = -2147483648 by decide] at z
    omega
  · rw [if_neg cp, zl_or31 (by omega)]
    refine ⟨fun _ z => ?_, zl_no6 (by omega)⟩
    have a2 : (lN (8589934591 * 2 ^ 31 + R)).toInt = (R : Int) - 2 ^ 31 := by
      show (BitVec.ofNat 64 (8589934591 * 2 ^ 31 + R)).toInt = _
      rw [BitVec.toInt_eq_toNat_cond, BitVec.toNat_ofNat, Nat.mod_eq_of_lt (by omega), if_neg (by omega)]
      omega
    rw [Int64.lt_iff_toInt_lt, a2, show (-2147483648 : Int64).toInt = -2147483648 by decide] at z
    omega
theorem zl_okR7 (x : Int64) : zz_ok 7 (fn_cm_real x 52 1023) := by
  refine ⟨fun z => absurd z (by decide), ?_⟩
  have e := zl_real (w := 52) (b := 1023) x (Or.inr ⟨rfl, rfl⟩)
  obtain ⟨R, hR, eR⟩ := zl_nearV (w := 52) (b := 1023) (x := x) (Or.inr ⟨rfl, rfl⟩)
  have e' : fn_cm_real x 52 1023 = if 0 ≤ x then lN R else lN R ||| (-9223372036854775808) := by
    rw [← eR]
    by_cases cp : 0 ≤ x
    · rw [if_pos cp]; rw [if_pos cp] at e; exact e
    · rw [if_neg cp]; rw [if_neg cp, if_neg (by decide)] at e; exact e
  rw [e']
  by_cases cp : 0 ≤ x
  · rw [if_pos cp]
    exact zl_no7 (by omega)
  · have e2 : lN R ||| (-9223372036854775808) = lN (1 * 2 ^ 63 + R) := (Int64.or_comm _ _).trans (zl_sgn63 (by omega))
    rw [if_neg cp, e2]
    exact zl_no7 (by omega)
set_option maxHeartbeats 4000000 in
theorem zl_okF (x : Int64) : zz_ok 7 (fn_cm_floatToDouble x) := by
  refine ⟨fun z => absurd z (by decide), ?_⟩
  have h64 : x.toUInt64.toNat < 2 ^ 64 := UInt64.toNat_lt _
  have a1 := zl_shr (a := x.toUInt64.toNat) (w := 23) h64 (by decide)
  rw [← zl_of x] at a1
  have e1 : (((x.toUInt64 >>> ((23 : Int32).toInt64.toUInt64 &&& Int64.toUInt64 63)).toInt64) &&& 255) = lN (x.toUInt64.toNat / 2 ^ 23 % 2 ^ 8) := (congrArg (fun z : Int64 => z &&& 255) a1).trans (zl_and _ (w := 8) (by decide))
  have e2 : (x &&& 8388607) = lN (x.toUInt64.toNat % 2 ^ 23) := (congrArg (fun z : Int64 => z &&& 8388607) (zl_of x)).trans (zl_and _ (w := 23) (by decide))
  rw [zl_fd]
  unfold fn_co_doubleOfFloat
  rw [e1, e2, lN_i]
  clear a1 e1 e2
  generalize x.toUInt64.toNat = X at h64
  have hE : X / 2 ^ 23 % 2 ^ 8 < 256 := by omega
  have hF : X % 2 ^ 23 < 2 ^ 23 := by omega
  generalize X / 2 ^ 23 % 2 ^ 8 = E at hE ⊢
  generalize X % 2 ^ 23 = F at hF ⊢
  have q2 : (nI E = 255) ↔ E = 255 := by
    rw [show (255 : Int32) = nI 255 by decide]; exact nI_eq (by omega) (by decide)
  have q4 : (nI E ≤ 0) ↔ E = 0 := by
    rw [show (0 : Int32) = nI 0 by decide, nI_leI (by omega) (by decide)]; omega
  have q5 : ((lN F : Int64) = 0) ↔ F = 0 := by
    rw [show (0 : Int64) = lN 0 by decide]; exact pk_lEQ (by omega) (by decide)
  have main : ∀ (s : Nat) (S D1 D2 : Int64), s ≤ 1 → (∀ b, b < 2 ^ 63 → S ||| lN b = lN (s * 2 ^ 63 + b)) → fn_cm_plain (nI 7) D1 = D1 → fn_cm_plain (nI 7) D2 = D2 → ∀ V : Int64, V = (if nI E = 255 then (if (lN F : Int64) = 0 then D1 else 9221120237041090560) else (if nI E ≤ 0 then (if (lN F : Int64) = 0 then D2 else (S ||| (((((fn_topBit (lN F) 63) - 149) + 1023).toInt64 : Int64) <<< ((52 : Int32).toInt64 &&& 63))) ||| (((lN F : Int64) <<< ((52 - (fn_topBit (lN F) 63) : Int32).toInt64 &&& 63)) &&& 4503599627370495)) else (S ||| ((((nI E - 127) + 1023).toInt64 : Int64) <<< ((52 : Int32).toInt64 &&& 63))) ||| ((lN F : Int64) <<< ((29 : Int32).toInt64 &&& 63)))) → fn_cm_plain (nI 7) V = V := fun s S D1 D2 hs hS hD1 hD2 V hV => by
    rw [hV]
    by_cases c5 : E = 255
    · rw [if_pos (q2.mpr c5)]
      by_cases f0 : F = 0
      · rw [if_pos (q5.mpr f0)]; exact hD1
      · rw [if_neg (fun z => f0 (q5.mp z))]; decide
    rw [if_neg (fun z => c5 (q2.mp z))]
    by_cases c0 : E = 0
    · rw [if_pos (q4.mpr c0)]
      by_cases f0 : F = 0
      · rw [if_pos (q5.mpr f0)]; exact hD2
      · rw [if_neg (fun z => f0 (q5.mp z))]
        obtain ⟨N, T, m1, m2, m3, m4, m5, m6⟩ := zl_top (m := lN F) (fun z => f0 (q5.mp z))
        have eN : F = N := by
          have z := congrArg (fun y : Int64 => y.toUInt64.toNat) m1
          have z2 : (lN F).toUInt64.toNat = (lN N).toUInt64.toNat := z
          rw [zl_un (show F < 2 ^ 64 by omega), zl_un m2] at z2
          exact z2
        subst eN
        have hT : T < 23 := (Nat.pow_lt_pow_iff_right (a := 2) (by decide)).mp (by omega)
        have g1 : (lN (T + 874) : Int64) <<< ((52 : Int32).toInt64 &&& 63) = lN ((T + 874) * 2 ^ 52) := zl_shl _ (w := 52) (by decide)
        have g2 : (52 - nI T : Int32) = nI (52 - T) := pk_sub (a := 52) (by omega)
        have g3 : lN (F * 2 ^ (52 - T)) &&& 4503599627370495 = lN (F * 2 ^ (52 - T) % 2 ^ 52) := zl_and _ (w := 52) (by decide)
        have g4 := Nat.mod_lt (F * 2 ^ (52 - T)) (show 0 < 2 ^ 52 by decide)
        have g5 := zl_orS (a := s * 2 ^ 11 + (T + 874)) (b := F * 2 ^ (52 - T) % 2 ^ 52) (w := 52) g4 (by omega)
        rw [m4, zl_exs T hT, g1, hS _ (by omega), g2, zl_shl F (show 52 - T < 64 by omega), g3, show s * 2 ^ 63 + (T + 874) * 2 ^ 52 = (s * 2 ^ 11 + (T + 874)) * 2 ^ 52 by omega, g5, show (s * 2 ^ 11 + (T + 874)) * 2 ^ 52 + F * 2 ^ (52 - T) % 2 ^ 52 = s * 2 ^ 63 + (T + 874) * 2 ^ 52 + F * 2 ^ (52 - T) % 2 ^ 52 by omega]
        exact zl_no7 (by omega)
    · have g0 : (lN (E + 896) : Int64) = ((nI E - 127) + 1023 : Int32).toInt64 := (lN_add E 896).symm.trans (zl_fde E (by omega))
      have g1 : (lN (E + 896) : Int64) <<< ((52 : Int32).toInt64 &&& 63) = lN ((E + 896) * 2 ^ 52) := zl_shl _ (w := 52) (by decide)
      have g2 : (lN F : Int64) <<< ((29 : Int32).toInt64 &&& 63) = lN (F * 2 ^ 29) := zl_shl _ (w := 29) (by decide)
      have g5 := zl_orS (a := s * 2 ^ 11 + (E + 896)) (b := F * 2 ^ 29) (w := 52) (by omega) (by omega)
      rw [if_neg (fun z => c0 (q4.mp z)), ← g0, g1, hS _ (by omega), g2, show s * 2 ^ 63 + (E + 896) * 2 ^ 52 = (s * 2 ^ 11 + (E + 896)) * 2 ^ 52 by omega, g5, show (s * 2 ^ 11 + (E + 896)) * 2 ^ 52 + F * 2 ^ 29 = s * 2 ^ 63 + (E + 896) * 2 ^ 52 + F * 2 ^ 29 by omega]
      exact zl_no7 (by omega)
  by_cases cp : 0 ≤ x
  · rw [if_pos cp]
    exact main 0 0 _ _ (by omega) (fun b hb => by rw [zl_zor, Nat.zero_mul, Nat.zero_add]) (by decide) (by decide) _ rfl
  · rw [if_neg cp]
    exact main 1 (-9223372036854775808) _ _ (by omega) (fun b hb => zl_sgn63 hb) (by decide) (by decide) _ rfl
/-- what is written is a value of the kind that is written to -/
theorem zl_okW {j k : Nat} {x : Int64} (hj : j ≤ 8) (hk : k ≤ 8) (hr : ¬ fn_co_reaches (nI j) (nI k) = 0) (hb : ¬ fn_cm_isBits (nI j) x = 0) : zz_ok k (fn_cm_widened (nI j) (nI k) x) := by
  by_cases c1 : j = k
  · subst c1
    rw [show fn_cm_widened (nI j) (nI j) x = fn_cm_plain (nI j) x from if_pos rfl]
    exact zl_okP hk hb
  by_cases k6 : k = 6
  · subst k6
    have h5 : ∀ j, j < 9 → ¬ fn_co_reaches (nI j) (nI 6) = 0 → j ≠ 6 → ¬ nI j = nI 6 ∧ ¬ nI j = 6 := by decide +kernel
    obtain ⟨n1, n2⟩ := h5 j (by omega) hr c1
    have e : fn_cm_widened (nI j) (nI 6) x = fn_cm_real x 23 127 := by
      unfold fn_cm_widened
      rw [if_neg n1, if_pos (show (5 : Int32) < nI 6 by decide), if_neg n2, if_pos (show nI 6 = 6 from rfl)]
    rw [e]; exact zl_okR6 x
  by_cases k7 : k = 7
  · subst k7
    have n1 : ¬ nI j = nI 7 := fun z => c1 (zl_inj z (by omega) (by omega))
    unfold fn_cm_widened
    rw [if_neg n1, if_pos (show (5 : Int32) < nI 7 by decide)]
    by_cases c6 : nI j = 6
    · rw [if_pos c6]; exact zl_okF x
    · rw [if_neg c6, if_neg (show ¬ nI 7 = 6 by decide)]; exact zl_okR7 x
  exact zl_okA hk k6 k7 _
/-- numbers of arrays are values of every kind -/
theorem zl_okr {k r : Nat} (hk : k ≤ 8) (hr : r ≤ 60) : zz_ok k (lN r) := by
  by_cases k6 : k = 6
  · subst k6
    refine ⟨fun _ z => ?_, zl_no6 (by omega)⟩
    rw [Int64.lt_iff_toInt_lt, lN_toInt (by omega), show (-2147483648 : Int64).toInt = -2147483648 by decide] at z
    omega
  by_cases k7 : k = 7
  · subst k7
    exact ⟨fun z => absurd z (by decide), zl_no7 (by omega)⟩
  exact zl_okA hk k6 k7 _
