theorem zl_m0S {K : Int32} {bt : Nat → Int64} : ∀ (m i : Nat) (w : Int64), sp_m0 K bt m i w = w + zz_si (fun j => fn_cm_sumNumber K (bt j)) m i
  | 0, _, w => by rw [sp_m0, zz_si]; grind
  | m + 1, i, w => by rw [sp_m0, zz_si, zl_m0S m (i + 1)]; grind
/-- 1 where two values are like each other, of the reference -/
def zz_l1 (K : Int32) (x y : Int64) : Int64 := if fn_cm_isLike K x y = 0 then 0 else 1
theorem zl_m1iS {K : Int32} {bt : Nat → Int64} {k : Nat} : ∀ (m i : Nat) (w : Int64), sp_m1i K bt k m i w = w + zz_si (fun j => zz_l1 K (bt k) (bt j)) m i
  | 0, _, w => by rw [sp_m1i, zz_si]; grind
  | m + 1, i, w => by
    rw [sp_m1i, zz_si, zl_m1iS m (i + 1)]
    show (if fn_cm_isLike K (bt k) (bt i) = 0 then w + 0 else w + 1) + _ = w + ((if fn_cm_isLike K (bt k) (bt i) = 0 then 0 else 1) + _)
    by_cases c : fn_cm_isLike K (bt k) (bt i) = 0
    · rw [if_pos c, if_pos c]; grind
    · rw [if_neg c, if_neg c]; grind
theorem zl_m1S {K : Int32} {bt : Nat → Int64} {t : Nat} : ∀ (m i : Nat) (w : Int64), sp_m1 K bt t m i w = w + zz_si (fun k => zz_si (fun j => zz_l1 K (bt k) (bt j)) (t - (k + 1)) (k + 1)) m i
  | 0, _, w => by rw [sp_m1, zz_si]; grind
  | m + 1, i, w => by rw [sp_m1, zz_si, zl_m1S m (i + 1), zl_m1iS]; grind
theorem zl_m2S {K : Int32} {bt : Nat → Int64} : ∀ (m i : Nat) (w : Int64), sp_m2 K bt m i w = w + zz_si (fun i => if (fn_cm_orderNumber K (bt (i - 1))) ≤ (fn_cm_orderNumber K (bt i)) then 0 else 1) m i
  | 0, _, w => by rw [sp_m2, zz_si]; grind
  | m + 1, i, w => by
    rw [sp_m2, zz_si, zl_m2S m (i + 1)]
    by_cases c : (fn_cm_orderNumber K (bt (i - 1))) ≤ (fn_cm_orderNumber K (bt i))
    · rw [if_pos c, if_pos c]; grind
    · rw [if_neg c, if_neg c]; grind
theorem zl_m3S {x : Int64} {bt : Nat → Int64} : ∀ (m i : Nat) (w : Int64), sp_m3 x bt m i w = w + zz_si (fun i => if (bt i) = x then 1 else 0) m i
  | 0, _, w => by rw [sp_m3, zz_si]; grind
  | m + 1, i, w => by
    rw [sp_m3, zz_si, zl_m3S m (i + 1)]
    by_cases c : bt i = x
    · rw [if_pos c, if_pos c]; grind
    · rw [if_neg c, if_neg c]; grind
theorem zl_m4S {bt : Nat → Int64} : ∀ (m i : Nat) (w : Int64), sp_m4 bt m i w = w + zz_si (fun i => if (bt i) = (bt (i - 1)) then 0 else 1) m i
  | 0, _, w => by rw [sp_m4, zz_si]; grind
  | m + 1, i, w => by
    rw [sp_m4, zz_si, zl_m4S m (i + 1)]
    by_cases c : bt i = bt (i - 1)
    · rw [if_pos c, if_pos c]; grind
    · rw [if_neg c, if_neg c]; grind
theorem zl_m5S {K : Int32} {bt : Nat → Int64} : ∀ (m i : Nat) (w : Int64), sp_m5 K bt m i w = zz_mi (fun i => fn_co_apart (fn_cm_sumNumber K (bt i)) (fn_cm_sumNumber K (bt (i - 1)))) m i w
  | 0, _, w => rfl
  | m + 1, i, w => by
    have mx : ∀ d : Int64, (if d ≤ w then w else d) = zz_mx w d := fun d => by
      unfold zz_mx
      by_cases c : d ≤ w
      · rw [if_pos c]
        by_cases c2 : d < w
        · rw [if_pos c2]
        · rw [if_neg c2]
          rw [Int64.lt_iff_toInt_lt] at c2
          rw [Int64.le_iff_toInt_le] at c
          exact Int64.toInt_inj.mp (by omega)
      · rw [if_neg c, if_neg (fun z => c (by rw [Int64.lt_iff_toInt_lt] at z; rw [Int64.le_iff_toInt_le]; omega))]
    rw [sp_m5, zz_mi, zl_m5S m (i + 1), mx, mx]
    congr 1
    show _ = zz_mx w (fn_co_apart (fn_cm_sumNumber K (bt i)) (fn_cm_sumNumber K (bt (i - 1))))
    unfold fn_co_apart
    by_cases c : fn_cm_sumNumber K (bt i) ≤ fn_cm_sumNumber K (bt (i - 1))
    · rw [if_pos c, if_pos c]; rfl
    · rw [if_neg c, if_neg c]; rfl
/-- a half of all pairs is the other half -/
theorem zl_tri (A : Nat → Nat → Int64) (hA : ∀ i j, A i j = A j i) : ∀ n, zz_si (fun i => zz_si (fun j => A i j) i 0) n 0 = zz_si (fun k => zz_si (fun i => A k i) (n - (k + 1)) (k + 1)) n 0
  | 0 => rfl
  | n + 1 => by
    have e1 : zz_si (fun i => zz_si (fun j => A i j) i 0) (n + 1) 0 = zz_si (fun i => zz_si (fun j => A i j) i 0) n 0 + zz_si (fun j => A n j) n 0 := by
      rw [zz_si_split _ 1 n 0, zz_si, zz_si, Nat.zero_add]; grind
    have e2 : zz_si (fun k => zz_si (fun i => A k i) (n + 1 - (k + 1)) (k + 1)) (n + 1) 0 = zz_si (fun k => zz_si (fun i => A k i) (n + 1 - (k + 1)) (k + 1)) n 0 := by
      rw [zz_si_split _ 1 n 0, zz_si, zz_si, Nat.zero_add, show n + 1 - (n + 1) = 0 by omega, zz_si]; grind
    have e3 : zz_si (fun k => zz_si (fun i => A k i) (n + 1 - (k + 1)) (k + 1)) n 0 = zz_si (fun k => zz_si (fun i => A k i) (n - (k + 1)) (k + 1) + A k n) n 0 := zz_si_cong (fun k _ hk => by
      rw [show n + 1 - (k + 1) = (n - (k + 1)) + 1 by omega, zz_si_split _ 1 (n - (k + 1)) (k + 1), zz_si, zz_si, show k + 1 + (n - (k + 1)) = n by omega]; grind)
    rw [e1, e2, e3, zz_si_add, zl_tri A hA n, zz_si_cong (f := fun j => A n j) (g := fun k => A k n) (fun j _ _ => hA n j)]
theorem zl_far {x y : Int64} (h : ¬ x ≤ y) : fn_co_apart x y = fn_cm_far x y := by
  unfold fn_co_apart
  rw [if_neg h]
  rfl
theorem zl_far2 {x y : Int64} (h : x ≤ y) : fn_co_apart x y = fn_cm_far y x := by
  unfold fn_co_apart
  rw [if_pos h]
  rfl
theorem zl_apx (x : Int64) : fn_co_apart x x = 0 := by
  unfold fn_co_apart
  rw [if_pos (Int64.le_refl _), Int64.sub_self, if_neg (by decide), if_pos (by decide)]
theorem zl_si1 (f : Nat → Int64) {n i : Nat} (h : f i = 0) : zz_si f n i = zz_si f (n - 1) (i + 1) := by
  cases n with
  | zero => rfl
  | succ m => rw [zz_si, h, Nat.add_sub_cancel]; grind
/-- an amount, of both sides -/
theorem zl_amt {so : Nat → Int32} {lo hi ta bt : Nat → Int64} {kd : Nat → Int32} {d a sz lz k : Nat} (hs : ∃ s : Nat, s ≤ 5 ∧ so d = nI s) (ek : kd a = nI k) (hk : k ≤ 8) (hl : sz + lz ≤ 4000) (hv : ∀ i, i < lz → zz_ok k (bt (sz + i))) (ht : ta d = sp_me so lo kd bt d a sz lz 0 0) : fn_co_amountOf so lo hi ta d = fn_cm_amountOf kd bt so lo hi d a sz lz := by
  obtain ⟨s, hs5, e⟩ := hs
  have eL : sz + lz - sz = lz := by omega
  have eL1 : sz + lz - (sz + 1) = lz - 1 := by omega
  have h0i : ∀ i : Nat, i < 4000 → (nI i ≤ 0 ↔ i = 0) := fun i hi => by
    rw [show (0 : Int32) = nI 0 by decide, nI_leI (by omega) (by decide)]; omega
  unfold fn_co_amountOf fn_cm_amountOf
  rcases (show s = 0 ∨ s = 1 ∨ s = 2 ∨ s = 3 ∨ s = 4 ∨ s = 5 by omega) with rfl | rfl | rfl | rfl | rfl | rfl
  · have n5 : ¬ so d = 5 := by rw [e]; decide
    have et : ta d = sp_m0 (kd a) bt (sz + lz - sz) sz 0 := by
      rw [ht, zl_me0 n5, zl_m0S, eL, zz_si_cong (f := fn_co_shareOf so lo kd bt d a sz) (g := fun j => (fun i => fn_cm_sumNumber (kd a) (bt i)) (sz + j)) (fun j _ hj => by
        show fn_co_shareOf so lo kd bt d a sz j = fn_cm_sumNumber (kd a) (bt (sz + j))
        rw [zl_sr0 e, ek]; exact zl_num hk (hv j (by omega))), zz_si_sh (fun i => fn_cm_sumNumber (kd a) (bt i)) sz]
      exact (Int64.zero_add _).symm
    rw [if_pos (show so d = 0 from e), if_pos e, et]
    by_cases c1 : lo d ≤ sp_m0 (kd a) bt (sz + lz - sz) sz 0
    · rw [if_pos c1, if_pos c1]
      by_cases c2 : sp_m0 (kd a) bt (sz + lz - sz) sz 0 ≤ hi d
      · rw [if_pos c2, if_pos c2]
      · rw [if_neg c2, if_neg c2, zl_far c2]
    · rw [if_neg c1, if_neg c1, zl_far c1]
  · have n5 : ¬ so d = 5 := by rw [e]; decide
    rw [if_neg (show ¬ so d = 0 by rw [e]; decide), if_neg (show ¬ so d = 3 by rw [e]; decide), if_neg (show ¬ so d = nI 0 by rw [e]; decide), if_pos e, ht, zl_me0 n5, zl_m1S, eL]
    have e1 : zz_si (fn_co_shareOf so lo kd bt d a sz) lz 0 = zz_si (fun i => zz_si (fun j => zz_a1 (kd a) (bt (sz + i)) (bt (sz + j))) i 0) lz 0 := zz_si_cong (fun i _ hi => by
      rw [zl_sr1 e]
      exact (zz_si_sh (fun j => zz_a1 (kd a) (bt (sz + i)) (bt j)) sz (m := i) (i := 0)).symm)
    have e2 : zz_si (fun k => zz_si (fun j => zz_l1 (kd a) (bt k) (bt j)) (sz + lz - (k + 1)) (k + 1)) lz sz = zz_si (fun k => zz_si (fun i => zz_a1 (kd a) (bt (sz + k)) (bt (sz + i))) (lz - (k + 1)) (k + 1)) lz 0 := by
      have z := zz_si_sh (fun k => zz_si (fun j => zz_l1 (kd a) (bt k) (bt j)) (sz + lz - (k + 1)) (k + 1)) sz (m := lz) (i := 0)
      rw [Nat.add_zero] at z
      rw [← z]
      refine zz_si_cong (fun k' _ hk' => ?_)
      show zz_si (fun j => zz_l1 (kd a) (bt (sz + k')) (bt j)) (sz + lz - (sz + k' + 1)) (sz + k' + 1) = _
      rw [show sz + lz - (sz + k' + 1) = lz - (k' + 1) by omega, show sz + k' + 1 = sz + (k' + 1) by omega, ← zz_si_sh (fun j => zz_l1 (kd a) (bt (sz + k')) (bt j)) sz]
      refine zz_si_cong (fun j _ hj => ?_)
      show zz_l1 (kd a) (bt (sz + k')) (bt (sz + j)) = zz_a1 (kd a) (bt (sz + k')) (bt (sz + j))
      unfold zz_l1 zz_a1
      rw [ek, zl_like hk (hv k' (by omega))]
    rw [e1, e2, zl_tri (fun i j => zz_a1 (kd a) (bt (sz + i)) (bt (sz + j))) (fun i j => zl_a1C _ _ _) lz]
    grind
  · have n5 : ¬ so d = 5 := by rw [e]; decide
    rw [if_neg (show ¬ so d = 0 by rw [e]; decide), if_neg (show ¬ so d = 3 by rw [e]; decide), if_neg (show ¬ so d = nI 0 by rw [e]; decide), if_neg (show ¬ so d = nI 1 by rw [e]; decide), if_pos e, ht, zl_me0 n5, zl_m2S, eL1, zl_si1 _ (show fn_co_shareOf so lo kd bt d a sz 0 = 0 by rw [zl_sr2 e, if_pos (by decide)])]
    rw [zz_si_cong (f := fn_co_shareOf so lo kd bt d a sz) (g := fun j => (fun i => if (fn_cm_orderNumber (kd a) (bt (i - 1))) ≤ (fn_cm_orderNumber (kd a) (bt i)) then (0 : Int64) else 1) (sz + j)) (fun j h1 hj => by
      show fn_co_shareOf so lo kd bt d a sz j = if (fn_cm_orderNumber (kd a) (bt (sz + j - 1))) ≤ (fn_cm_orderNumber (kd a) (bt (sz + j))) then 0 else 1
      rw [zl_sr2 e, if_neg (fun z => absurd ((h0i j (by omega)).mp z) (by omega)), ek, zl_rank hk (hv j (by omega)), show sz + j - 1 = sz + (j - 1) by omega, zl_rank hk (hv (j - 1) (by omega))]), zz_si_sh (fun i => if (fn_cm_orderNumber (kd a) (bt (i - 1))) ≤ (fn_cm_orderNumber (kd a) (bt i)) then (0 : Int64) else 1) sz]
    exact (Int64.zero_add _).symm
  · have n5 : ¬ so d = 5 := by rw [e]; decide
    have et : ta d = sp_m3 (lo d) bt (sz + lz - sz) sz 0 := by
      rw [ht, zl_me0 n5, zl_m3S, eL, zz_si_cong (f := fn_co_shareOf so lo kd bt d a sz) (g := fun j => (fun i => if (bt i) = lo d then (1 : Int64) else 0) (sz + j)) (fun j _ hj => by
        show fn_co_shareOf so lo kd bt d a sz j = if bt (sz + j) = lo d then 1 else 0
        rw [zl_sr3 e]), zz_si_sh (fun i => if (bt i) = lo d then (1 : Int64) else 0) sz]
      exact (Int64.zero_add _).symm
    rw [if_neg (show ¬ so d = 0 by rw [e]; decide), if_pos (show so d = 3 from e), if_neg (show ¬ so d = nI 0 by rw [e]; decide), if_neg (show ¬ so d = nI 1 by rw [e]; decide), if_neg (show ¬ so d = nI 2 by rw [e]; decide), if_pos e, et]
    by_cases c : sp_m3 (lo d) bt (sz + lz - sz) sz 0 ≤ hi d
    · rw [if_pos c, zl_far2 c]
    · rw [if_neg c, zl_far c]
  · have n5 : ¬ so d = 5 := by rw [e]; decide
    rw [if_neg (show ¬ so d = 0 by rw [e]; decide), if_neg (show ¬ so d = 3 by rw [e]; decide), if_neg (show ¬ so d = nI 0 by rw [e]; decide), if_neg (show ¬ so d = nI 1 by rw [e]; decide), if_neg (show ¬ so d = nI 2 by rw [e]; decide), if_neg (show ¬ so d = nI 3 by rw [e]; decide), if_pos e, ht, zl_me0 n5, zl_m4S, eL1, zl_si1 _ (show fn_co_shareOf so lo kd bt d a sz 0 = 0 by rw [zl_sr4 e, if_pos (by decide)])]
    rw [zz_si_cong (f := fn_co_shareOf so lo kd bt d a sz) (g := fun j => (fun i => if (bt i) = (bt (i - 1)) then (0 : Int64) else 1) (sz + j)) (fun j h1 hj => by
      show fn_co_shareOf so lo kd bt d a sz j = if bt (sz + j) = bt (sz + j - 1) then 0 else 1
      rw [zl_sr4 e, if_neg (fun z => absurd ((h0i j (by omega)).mp z) (by omega))]), zz_si_sh (fun i => if (bt i) = (bt (i - 1)) then (0 : Int64) else 1) sz]
    exact (Int64.zero_add _).symm
  · have e5 : so d = 5 := e
    rw [if_neg (show ¬ so d = 0 by rw [e]; decide), if_neg (show ¬ so d = 3 by rw [e]; decide), if_neg (show ¬ so d = nI 0 by rw [e]; decide), if_neg (show ¬ so d = nI 1 by rw [e]; decide), if_neg (show ¬ so d = nI 2 by rw [e]; decide), if_neg (show ¬ so d = nI 3 by rw [e]; decide), if_neg (show ¬ so d = nI 4 by rw [e]; decide), ht, zl_meF e5, zl_m5S, eL1]
    have f0 : fn_co_shareOf so lo kd bt d a sz 0 = 0 := by
      rw [zl_sr5 e, if_pos (by decide), zl_apx]
    have sh : ∀ (m i : Nat) (w : Int64), 1 ≤ i → i + m ≤ lz → zz_mi (fn_co_shareOf so lo kd bt d a sz) m i w = zz_mi (fun i => fn_co_apart (fn_cm_sumNumber (kd a) (bt i)) (fn_cm_sumNumber (kd a) (bt (i - 1)))) m (sz + i) w := fun m => by
      induction m with
      | zero => intro i w _ _; rfl
      | succ m ih =>
        intro i w h1 h2
        rw [zz_mi, zz_mi, ih (i + 1) _ (by omega) (by omega)]
        congr 1
        rw [zl_sr5 e, if_neg (fun z => absurd ((h0i i (by omega)).mp z) (by omega)), ek, zl_num hk (hv i (by omega)), show sz + i - 1 = sz + (i - 1) by omega, zl_num hk (hv (i - 1) (by omega))]
    cases lz with
    | zero => rfl
    | succ n =>
      rw [zz_mi, f0, sh n (0 + 1) _ (by omega) (by omega), Nat.add_sub_cancel]
      rfl
/-- a score, of both sides -/
theorem zl_scT {na nr : Nat} {so we ju : Nat → Int32} {lo hi bt : Nat → Int64} {kd sa ln : Nat → Int32} (hR : zz_RI na nr ju sa ln) (hO : zz_SO nr so) (hV : ∀ r, r < nr → ∃ k : Nat, kd (ju r).toNatClampNeg = nI k ∧ k ≤ 8 ∧ ∀ i, i < (ln (ju r).toNatClampNeg).toNatClampNeg → zz_ok k (bt ((sa (ju r).toNatClampNeg).toNatClampNeg + i))) : ∀ (m i : Nat) (w : Int64), i + m ≤ nr → sp_tot so we lo hi (fun r => zz_me so lo kd bt ju sa ln r) m i w = sp_ts kd bt so ju we lo hi sa ln m i w
  | 0, _, _, _ => rfl
  | m + 1, i, w, hm => by
    obtain ⟨a, sz, lz, e1, e2, e3, e4, e5, e6, e7⟩ := hR.2 i (by omega)
    obtain ⟨k, k1, k2, k3⟩ := hV i (by omega)
    have ea : (ju i).toNatClampNeg = a := by rw [e1]; exact nI_clamp (by omega)
    have es : (sa a).toNatClampNeg = sz := by rw [e4]; exact nI_clamp (by omega)
    have el : (ln a).toNatClampNeg = lz := by rw [e5]; exact nI_clamp (by omega)
    rw [ea] at k1 k3
    rw [es, el] at k3
    have q := zl_amt (hi := hi) (ta := fun r => zz_me so lo kd bt ju sa ln r) (hO i (by omega)) k1 k2 e6 k3 (zl_meE e1 e4 e5 e3 (by omega) e7).symm
    rw [sp_tot, sp_ts, ea, es, el, q, Int64.mul_comm, zl_scT hR hO hV m (i + 1) _ (by omega)]
