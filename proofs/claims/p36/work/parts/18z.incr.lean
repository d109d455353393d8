/-- a sum from i on -/
def zz_si (f : Nat → Int64) : Nat → Nat → Int64
  | 0, _ => 0
  | m + 1, i => f i + zz_si f m (i + 1)
theorem zz_si_cong {f g : Nat → Int64} : ∀ {m i : Nat}, (∀ j, i ≤ j → j < i + m → f j = g j) → zz_si f m i = zz_si g m i
  | 0, _, _ => rfl
  | m + 1, i, h => by rw [zz_si, zz_si, h i (Nat.le_refl _) (by omega), zz_si_cong (fun j h1 h2 => h j (by omega) (by omega))]
theorem zz_si_split (f : Nat → Int64) (n : Nat) : ∀ (m i : Nat), zz_si f (m + n) i = zz_si f m i + zz_si f n (i + m)
  | 0, i => by rw [Nat.zero_add, zz_si, Nat.add_zero]; grind
  | m + 1, i => by
    rw [show m + 1 + n = (m + n) + 1 by omega, zz_si, zz_si, zz_si_split f n m (i + 1), show i + 1 + m = i + (m + 1) by omega]
    grind
theorem zz_si_at (f : Nat → Int64) {q n i : Nat} (h : q < n) : zz_si f n i = zz_si f q i + (f (i + q) + zz_si f (n - (q + 1)) (i + q + 1)) := by
  rw [show n = q + ((n - (q + 1)) + 1) by omega, zz_si_split, zz_si, show q + (n - (q + 1) + 1) - (q + 1) = n - (q + 1) by omega]
theorem zz_si_add (f g : Nat → Int64) : ∀ (m i : Nat), zz_si (fun j => f j + g j) m i = zz_si f m i + zz_si g m i
  | 0, _ => by rw [zz_si, zz_si, zz_si]; rfl
  | m + 1, i => by
    rw [zz_si, zz_si, zz_si, zz_si_add f g m (i + 1)]
    grind
theorem zz_si_sub (f g : Nat → Int64) : ∀ (m i : Nat), zz_si (fun j => f j - g j) m i = zz_si f m i - zz_si g m i
  | 0, _ => by rw [zz_si, zz_si, zz_si]; rfl
  | m + 1, i => by
    rw [zz_si, zz_si, zz_si, zz_si_sub f g m (i + 1)]
    grind
/-- one term of a sum is another one -/
theorem zz_si_upd {f g : Nat → Int64} {p n i : Nat} (h : ∀ j, j ≠ p → g j = f j) (h1 : i ≤ p) (h2 : p < i + n) : zz_si g n i = zz_si f n i + (g p - f p) := by
  rw [zz_si_at f (q := p - i) (n := n) (i := i) (by omega), zz_si_at g (q := p - i) (n := n) (i := i) (by omega), zz_si_cong (f := g) (g := f) (m := p - i) (i := i) (fun j _ h4 => h j (by omega)), zz_si_cong (f := g) (g := f) (m := n - (p - i + 1)) (i := i + (p - i) + 1) (fun j h3 _ => h j (by omega)), show i + (p - i) = p by omega]
  grind
theorem zl_meS {so : Nat → Int32} {lo : Nat → Int64} {kd : Nat → Int32} {bt : Nat → Int64} {d a sz : Nat} (h : ¬ so d = 5) : ∀ (m i : Nat) (w : Int64), sp_me so lo kd bt d a sz m i w = w + zz_si (fn_co_shareOf so lo kd bt d a sz) m i
  | 0, _, w => by rw [sp_me, zz_si]; grind
  | m + 1, i, w => by
    rw [sp_me, if_neg h, zz_si, zl_meS h m (i + 1)]
    grind
theorem zl_me0 {so : Nat → Int32} {lo : Nat → Int64} {kd : Nat → Int32} {bt : Nat → Int64} {d a sz lz : Nat} (h : ¬ so d = 5) : sp_me so lo kd bt d a sz lz 0 0 = zz_si (fn_co_shareOf so lo kd bt d a sz) lz 0 := by
  rw [zl_meS h]; grind
/-- 1 where two values are alike -/
def zz_a1 (k : Int32) (x y : Int64) : Int64 := if fn_co_alike k x y = 0 then 0 else 1
theorem zl_aliS {k : Int32} {x : Int64} {bt : Nat → Int64} : ∀ (m i : Nat) (w : Int64), sp_ali k x bt m i w = w + zz_si (fun j => zz_a1 k x (bt j)) m i
  | 0, _, w => by rw [sp_ali, zz_si]; grind
  | m + 1, i, w => by
    rw [sp_ali, zz_si, zl_aliS m (i + 1)]
    show (if fn_co_alike k x (bt i) = 0 then w else w + 1) + _ = w + ((if fn_co_alike k x (bt i) = 0 then 0 else 1) + _)
    by_cases c : fn_co_alike k x (bt i) = 0
    · rw [if_pos c, if_pos c]; grind
    · rw [if_neg c, if_neg c]; grind
theorem zl_ali0 {k : Int32} {x : Int64} {bt : Nat → Int64} (m i : Nat) : sp_ali k x bt m i 0 = zz_si (fun j => zz_a1 k x (bt j)) m i := by
  rw [zl_aliS]; grind
theorem zl_alC (k : Int32) (x y : Int64) : fn_co_alike k x y = fn_co_alike k y x := by
  unfold fn_co_alike
  rw [Int64.or_comm y x]
  by_cases c : x = y
  · rw [c]
  · have c' : ¬ y = x := fun z => c z.symm
    rw [if_neg c, if_neg c', if_neg c, if_neg c', if_neg c, if_neg c']
theorem zl_a1C (k : Int32) (x y : Int64) : zz_a1 k x y = zz_a1 k y x := by
  unfold zz_a1
  rw [zl_alC k x y]
theorem zl_sr0 {so : Nat → Int32} {lo : Nat → Int64} {kd : Nat → Int32} {bt : Nat → Int64} {d a sz i : Nat} (e : so d = nI 0) : fn_co_shareOf so lo kd bt d a sz i = fn_co_number (kd a) (bt (sz + i)) := by
  unfold fn_co_shareOf
  rw [if_pos e, if_pos e, ite_self]
theorem zl_sr1 {so : Nat → Int32} {lo : Nat → Int64} {kd : Nat → Int32} {bt : Nat → Int64} {d a sz i : Nat} (e : so d = nI 1) : fn_co_shareOf so lo kd bt d a sz i = zz_si (fun j => zz_a1 (kd a) (bt (sz + i)) (bt j)) i sz := by
  have n0 : ¬ so d = nI 0 := by rw [e]; decide
  unfold fn_co_shareOf
  rw [if_neg n0, if_neg n0, if_pos e, if_pos e, ite_self, zl_ali0, show sz + i - sz = i by omega]
theorem zl_sr2 {so : Nat → Int32} {lo : Nat → Int64} {kd : Nat → Int32} {bt : Nat → Int64} {d a sz i : Nat} (e : so d = nI 2) : fn_co_shareOf so lo kd bt d a sz i = if nI i ≤ 0 then 0 else (if (fn_co_rank (kd a) (bt ((sz + i) - 1))) ≤ (fn_co_rank (kd a) (bt (sz + i))) then 0 else 1) := by
  have n0 : ¬ so d = nI 0 := by rw [e]; decide
  have n1 : ¬ so d = nI 1 := by rw [e]; decide
  unfold fn_co_shareOf
  rw [if_neg n0, if_neg n0, if_neg n1, if_neg n1, if_pos e, if_pos e]
theorem zl_sr3 {so : Nat → Int32} {lo : Nat → Int64} {kd : Nat → Int32} {bt : Nat → Int64} {d a sz i : Nat} (e : so d = nI 3) : fn_co_shareOf so lo kd bt d a sz i = if (bt (sz + i)) = (lo d) then 1 else 0 := by
  have n0 : ¬ so d = nI 0 := by rw [e]; decide
  have n1 : ¬ so d = nI 1 := by rw [e]; decide
  have n2 : ¬ so d = nI 2 := by rw [e]; decide
  unfold fn_co_shareOf
  rw [if_neg n0, if_neg n0, if_neg n1, if_neg n1, if_neg n2, if_neg n2, if_pos e, if_pos e, ite_self]
theorem zl_sr4 {so : Nat → Int32} {lo : Nat → Int64} {kd : Nat → Int32} {bt : Nat → Int64} {d a sz i : Nat} (e : so d = nI 4) : fn_co_shareOf so lo kd bt d a sz i = if nI i ≤ 0 then 0 else (if (bt (sz + i)) = (bt ((sz + i) - 1)) then 0 else 1) := by
  have n0 : ¬ so d = nI 0 := by rw [e]; decide
  have n1 : ¬ so d = nI 1 := by rw [e]; decide
  have n2 : ¬ so d = nI 2 := by rw [e]; decide
  have n3 : ¬ so d = nI 3 := by rw [e]; decide
  unfold fn_co_shareOf
  rw [if_neg n0, if_neg n0, if_neg n1, if_neg n1, if_neg n2, if_neg n2, if_neg n3, if_neg n3, if_pos e, if_pos e]
theorem zl_sr5 {so : Nat → Int32} {lo : Nat → Int64} {kd : Nat → Int32} {bt : Nat → Int64} {d a sz i : Nat} (e : so d = nI 5) : fn_co_shareOf so lo kd bt d a sz i = if nI i ≤ 0 then fn_co_apart (fn_co_number (kd a) (bt (sz + i))) (fn_co_number (kd a) (bt (sz + i))) else fn_co_apart (fn_co_number (kd a) (bt (sz + i))) (fn_co_number (kd a) (bt ((sz + i) - 1))) := by
  have n0 : ¬ so d = nI 0 := by rw [e]; decide
  have n1 : ¬ so d = nI 1 := by rw [e]; decide
  have n2 : ¬ so d = nI 2 := by rw [e]; decide
  have n3 : ¬ so d = nI 3 := by rw [e]; decide
  have n4 : ¬ so d = nI 4 := by rw [e]; decide
  unfold fn_co_shareOf
  rw [if_neg n0, if_neg n0, if_neg n1, if_neg n1, if_neg n2, if_neg n2, if_neg n3, if_neg n3, if_neg n4, if_neg n4]
/-- shares that look at the element ahead as well: only the next one's changes with an element -/
theorem zl_shL {so : Nat → Int32} {lo : Nat → Int64} {kd : Nat → Int32} {bt : Nat → Int64} {d a sz i : Nat} {q : Nat} {x : Int64} (hk : so d = nI 0 ∨ so d = nI 2 ∨ so d = nI 3 ∨ so d = nI 4 ∨ so d = nI 5) (hi : i < 4000) (h1 : i ≠ q) (h2 : i ≠ q + 1) : fn_co_shareOf so lo kd (vp_updL bt (sz + q) x) d a sz i = fn_co_shareOf so lo kd bt d a sz i := by
  have e1 : vp_updL bt (sz + q) x (sz + i) = bt (sz + i) := pk_uLn (by omega)
  have e2 : ¬ nI i ≤ 0 → vp_updL bt (sz + q) x (sz + i - 1) = bt (sz + i - 1) := fun z => by
    have z' : ¬ i ≤ 0 := fun w => z ((nI_leI (b := 0) (by omega) (by decide)).mpr w)
    exact pk_uLn (by omega)
  rcases hk with e | e | e | e | e
  · rw [zl_sr0 e, zl_sr0 e, e1]
  · rw [zl_sr2 e, zl_sr2 e]
    by_cases z : nI i ≤ 0
    · rw [if_pos z, if_pos z]
    · rw [if_neg z, if_neg z, e1, e2 z]
  · rw [zl_sr3 e, zl_sr3 e, e1]
  · rw [zl_sr4 e, zl_sr4 e]
    by_cases z : nI i ≤ 0
    · rw [if_pos z, if_pos z]
    · rw [if_neg z, if_neg z, e1, e2 z]
  · rw [zl_sr5 e, zl_sr5 e]
    by_cases z : nI i ≤ 0
    · rw [if_pos z, if_pos z, e1]
    · rw [if_neg z, if_neg z, e1, e2 z]
/-- those of sums and counts look at none -/
theorem zl_shO {so : Nat → Int32} {lo : Nat → Int64} {kd : Nat → Int32} {bt : Nat → Int64} {d a sz i : Nat} {q : Nat} {x : Int64} (hk : so d = nI 0 ∨ so d = nI 3) (h1 : i ≠ q) : fn_co_shareOf so lo kd (vp_updL bt (sz + q) x) d a sz i = fn_co_shareOf so lo kd bt d a sz i := by
  have e1 : vp_updL bt (sz + q) x (sz + i) = bt (sz + i) := pk_uLn (by omega)
  rcases hk with e | e
  · rw [zl_sr0 e, zl_sr0 e, e1]
  · rw [zl_sr3 e, zl_sr3 e, e1]
theorem zz_si_sh (f : Nat → Int64) (s : Nat) : ∀ {m i : Nat}, zz_si (fun j => f (s + j)) m i = zz_si f m (s + i)
  | 0, _ => rfl
  | m + 1, i => by rw [zz_si, zz_si, zz_si_sh f s, Nat.add_assoc]
/-- sums and counts -/
theorem zl_re0 {so : Nat → Int32} {lo : Nat → Int64} {kd : Nat → Int32} {bt : Nat → Int64} {d a sz lz q : Nat} {x : Int64} (hk : so d = nI 0 ∨ so d = nI 3) (hq : q < lz) : sp_me so lo kd (vp_updL bt (sz + q) x) d a sz lz 0 0 = sp_me so lo kd bt d a sz lz 0 0 + (fn_co_bearingOf so lo kd (vp_updL bt (sz + q) x) d a sz lz q - fn_co_bearingOf so lo kd bt d a sz lz q) := by
  have n5 : ¬ so d = 5 := by rcases hk with e | e <;> rw [e] <;> decide
  have b : ∀ bt : Nat → Int64, fn_co_bearingOf so lo kd bt d a sz lz q = fn_co_shareOf so lo kd bt d a sz q := fun bt => by
    unfold fn_co_bearingOf
    rcases hk with e | e
    · rw [if_pos e]
    · rw [if_neg (show ¬ so d = nI 0 by rw [e]; decide), if_neg (show ¬ so d = nI 1 by rw [e]; decide), if_neg (show ¬ so d = nI 2 by rw [e]; decide), if_pos e]
  rw [zl_me0 n5, zl_me0 n5, b, b]
  exact zz_si_upd (fun j hj => zl_shO hk hj) (by omega) (by omega)
/-- rising, changes -/
theorem zl_re2 {so : Nat → Int32} {lo : Nat → Int64} {kd : Nat → Int32} {bt : Nat → Int64} {d a sz lz q : Nat} {x : Int64} (hk : so d = nI 2 ∨ so d = nI 4) (hq : q < lz) (hl : sz + lz ≤ 4000) : sp_me so lo kd (vp_updL bt (sz + q) x) d a sz lz 0 0 = sp_me so lo kd bt d a sz lz 0 0 + (fn_co_bearingOf so lo kd (vp_updL bt (sz + q) x) d a sz lz q - fn_co_bearingOf so lo kd bt d a sz lz q) := by
  have n5 : ¬ so d = 5 := by rcases hk with e | e <;> rw [e] <;> decide
  have hk5 : so d = nI 0 ∨ so d = nI 2 ∨ so d = nI 3 ∨ so d = nI 4 ∨ so d = nI 5 := by
    rcases hk with e | e
    · exact Or.inr (Or.inl e)
    · exact Or.inr (Or.inr (Or.inr (Or.inl e)))
  have b : ∀ bt : Nat → Int64, fn_co_bearingOf so lo kd bt d a sz lz q = if (nI (sz + lz)) ≤ (nI ((sz + q) + 1)) then (fn_co_shareOf so lo kd bt d a sz q) else (fn_co_shareOf so lo kd bt d a sz q) + (fn_co_shareOf so lo kd bt d a sz (q + 1)) := fun bt => by
    unfold fn_co_bearingOf
    rcases hk with e | e
    · rw [if_neg (show ¬ so d = nI 0 by rw [e]; decide), if_neg (show ¬ so d = nI 1 by rw [e]; decide), if_pos e]
    · rw [if_neg (show ¬ so d = nI 0 by rw [e]; decide), if_neg (show ¬ so d = nI 1 by rw [e]; decide), if_neg (show ¬ so d = nI 2 by rw [e]; decide), if_neg (show ¬ so d = nI 3 by rw [e]; decide), if_pos e]
  have i1 : nI (sz + lz) ≤ nI (sz + q + 1) ↔ lz ≤ q + 1 := by rw [nI_leI (by omega) (by omega)]; omega
  rw [zl_me0 n5, zl_me0 n5, b, b]
  by_cases c : lz ≤ q + 1
  · rw [if_pos (i1.mpr c), if_pos (i1.mpr c), zz_si_at _ hq, zz_si_at (fn_co_shareOf so lo kd bt d a sz) hq, show lz - (q + 1) = 0 by omega, zz_si_cong (f := fn_co_shareOf so lo kd (vp_updL bt (sz + q) x) d a sz) (g := fn_co_shareOf so lo kd bt d a sz) (fun j _ h4 => zl_shL hk5 (by omega) (by omega) (by omega)), Nat.zero_add]
    rw [zz_si, zz_si]
    grind
  · rw [if_neg (fun z => c (i1.mp z)), if_neg (fun z => c (i1.mp z)), zz_si_at _ hq, zz_si_at (fn_co_shareOf so lo kd bt d a sz) hq, show lz - (q + 1) = (lz - (q + 2)) + 1 by omega, zz_si, zz_si, zz_si_cong (f := fn_co_shareOf so lo kd (vp_updL bt (sz + q) x) d a sz) (g := fn_co_shareOf so lo kd bt d a sz) (m := q) (fun j _ h4 => zl_shL hk5 (by omega) (by omega) (by omega)), zz_si_cong (f := fn_co_shareOf so lo kd (vp_updL bt (sz + q) x) d a sz) (g := fn_co_shareOf so lo kd bt d a sz) (m := lz - (q + 2)) (fun j h3 _ => zl_shL hk5 (by omega) (by omega) (by omega)), Nat.zero_add]
    grind
/-- unlike -/
theorem zl_re1 {so : Nat → Int32} {lo : Nat → Int64} {kd : Nat → Int32} {bt : Nat → Int64} {d a sz lz q : Nat} {x : Int64} (e : so d = nI 1) (hq : q < lz) : sp_me so lo kd (vp_updL bt (sz + q) x) d a sz lz 0 0 = sp_me so lo kd bt d a sz lz 0 0 + (fn_co_bearingOf so lo kd (vp_updL bt (sz + q) x) d a sz lz q - fn_co_bearingOf so lo kd bt d a sz lz q) := by
  have n5 : ¬ so d = 5 := by rw [e]; decide
  have b : ∀ bt : Nat → Int64, fn_co_bearingOf so lo kd bt d a sz lz q = fn_co_shareOf so lo kd bt d a sz q + zz_si (fun j => zz_a1 (kd a) (bt (sz + q)) (bt j)) (lz - (q + 1)) (sz + q + 1) := fun bt => by
    unfold fn_co_bearingOf
    rw [if_neg (show ¬ so d = nI 0 by rw [e]; decide), if_pos e, zl_ali0, show sz + lz - (sz + q + 1) = lz - (q + 1) by omega]
  have hlo : zz_si (fn_co_shareOf so lo kd (vp_updL bt (sz + q) x) d a sz) q 0 = zz_si (fn_co_shareOf so lo kd bt d a sz) q 0 := zz_si_cong (fun j _ h4 => by
    rw [zl_sr1 e, zl_sr1 e, pk_uLn (show sz + j ≠ sz + q by omega)]
    exact zz_si_cong (fun i h5 h6 => by rw [pk_uLn (show i ≠ sz + q by omega)]))
  have hhi : zz_si (fn_co_shareOf so lo kd (vp_updL bt (sz + q) x) d a sz) (lz - (q + 1)) (0 + q + 1) = zz_si (fn_co_shareOf so lo kd bt d a sz) (lz - (q + 1)) (0 + q + 1) + (zz_si (fun j => zz_a1 (kd a) x (bt j)) (lz - (q + 1)) (sz + q + 1) - zz_si (fun j => zz_a1 (kd a) (bt (sz + q)) (bt j)) (lz - (q + 1)) (sz + q + 1)) := by
    have h1 : zz_si (fn_co_shareOf so lo kd (vp_updL bt (sz + q) x) d a sz) (lz - (q + 1)) (0 + q + 1) = zz_si (fun i => fn_co_shareOf so lo kd bt d a sz i + (zz_a1 (kd a) x (bt (sz + i)) - zz_a1 (kd a) (bt (sz + q)) (bt (sz + i)))) (lz - (q + 1)) (0 + q + 1) := zz_si_cong (fun i h3 h4 => by
      rw [zl_sr1 e, zl_sr1 e, pk_uLn (show sz + i ≠ sz + q by omega), zz_si_upd (f := fun j => zz_a1 (kd a) (bt (sz + i)) (bt j)) (g := fun j => zz_a1 (kd a) (bt (sz + i)) ((vp_updL bt (sz + q) x) j)) (p := sz + q) (fun j hj => by rw [pk_uLn hj]) (by omega) (by omega), pk_uLs, zl_a1C (kd a) (bt (sz + i)) x, zl_a1C (kd a) (bt (sz + i)) (bt (sz + q))])
    rw [h1, zz_si_add, zz_si_sub, zz_si_sh (fun j => zz_a1 (kd a) x (bt j)) sz, zz_si_sh (fun j => zz_a1 (kd a) (bt (sz + q)) (bt j)) sz, show sz + (0 + q + 1) = sz + q + 1 by omega]
  have hn : zz_si (fun j => zz_a1 (kd a) ((vp_updL bt (sz + q) x) (sz + q)) ((vp_updL bt (sz + q) x) j)) (lz - (q + 1)) (sz + q + 1) = zz_si (fun j => zz_a1 (kd a) x (bt j)) (lz - (q + 1)) (sz + q + 1) := zz_si_cong (fun j h3 _ => by rw [pk_uLs, pk_uLn (show j ≠ sz + q by omega)])
  rw [zl_me0 n5, zl_me0 n5, b, b, hn, zz_si_at _ hq, zz_si_at (fn_co_shareOf so lo kd bt d a sz) hq, hlo, hhi, Nat.zero_add]
  grind
/-- the greatest of some -/
def zz_mx (w s : Int64) : Int64 := if s < w then w else s
def zz_mi (f : Nat → Int64) : Nat → Nat → Int64 → Int64
  | 0, _, w => w
  | m + 1, i, w => zz_mi f m (i + 1) (zz_mx w (f i))
theorem zl_mx1 (w s : Int64) : w ≤ zz_mx w s ∧ s ≤ zz_mx w s ∧ (zz_mx w s = w ∨ zz_mx w s = s) := by
  unfold zz_mx
  by_cases c : s < w
  · rw [if_pos c]
    refine ⟨Int64.le_refl _, ?_, Or.inl rfl⟩
    rw [Int64.lt_iff_toInt_lt] at c
    rw [Int64.le_iff_toInt_le]; omega
  · rw [if_neg c]
    refine ⟨?_, Int64.le_refl _, Or.inr rfl⟩
    rw [Int64.lt_iff_toInt_lt] at c
    rw [Int64.le_iff_toInt_le]; omega
theorem zl_letr {a b c : Int64} (h : a ≤ b) (h2 : b ≤ c) : a ≤ c := by
  rw [Int64.le_iff_toInt_le] at *; omega
theorem zl_leas {a b : Int64} (h : a ≤ b) (h2 : b ≤ a) : a = b := by
  rw [Int64.le_iff_toInt_le] at h h2
  exact Int64.toInt_inj.mp (by omega)
/-- it is above all of them, and one of them or the first -/
theorem zl_mi1 {f : Nat → Int64} : ∀ (m i : Nat) (w : Int64), w ≤ zz_mi f m i w ∧ (∀ j, i ≤ j → j < i + m → f j ≤ zz_mi f m i w) ∧ (zz_mi f m i w = w ∨ ∃ j, i ≤ j ∧ j < i + m ∧ zz_mi f m i w = f j)
  | 0, i, w => ⟨Int64.le_refl _, fun j h1 h2 => absurd h1 (by omega), Or.inl rfl⟩
  | m + 1, i, w => by
    rw [zz_mi]
    obtain ⟨h1, h2, h3⟩ := zl_mi1 m (i + 1) (zz_mx w (f i))
    obtain ⟨g1, g2, g3⟩ := zl_mx1 w (f i)
    refine ⟨zl_letr g1 h1, fun j h4 h5 => ?_, ?_⟩
    · by_cases e : j = i
      · rw [e]; exact zl_letr g2 h1
      · exact h2 j (by omega) (by omega)
    · rcases h3 with q | ⟨j, q1, q2, q3⟩
      · rcases g3 with z | z
        · exact Or.inl (q.trans z)
        · exact Or.inr ⟨i, Nat.le_refl _, by omega, q.trans z⟩
      · exact Or.inr ⟨j, by omega, by omega, q3⟩
theorem zl_miE {f : Nat → Int64} {m i : Nat} {w y : Int64} (h1 : w ≤ y) (h2 : ∀ j, i ≤ j → j < i + m → f j ≤ y) (h3 : y = w ∨ ∃ j, i ≤ j ∧ j < i + m ∧ y = f j) : zz_mi f m i w = y := by
  obtain ⟨g1, g2, g3⟩ := zl_mi1 (f := f) m i w
  refine zl_leas ?_ ?_
  · rcases g3 with q | ⟨j, q1, q2, q3⟩
    · rw [q]; exact h1
    · rw [q3]; exact h2 j q1 q2
  · rcases h3 with q | ⟨j, q1, q2, q3⟩
    · rw [q]; exact g1
    · rw [q3]; exact g2 j q1 q2
theorem zl_meF {so : Nat → Int32} {lo : Nat → Int64} {kd : Nat → Int32} {bt : Nat → Int64} {d a sz : Nat} (h : so d = 5) : ∀ (m i : Nat) (w : Int64), sp_me so lo kd bt d a sz m i w = zz_mi (fn_co_shareOf so lo kd bt d a sz) m i w
  | 0, _, _ => rfl
  | m + 1, i, w => by rw [sp_me, if_pos h, zz_mi, zl_meF h m (i + 1)]; rfl
theorem zl_re5 {so : Nat → Int32} {lo : Nat → Int64} {kd : Nat → Int32} {bt : Nat → Int64} {d a sz lz q : Nat} {x : Int64} {ta : Nat → Int64} (e : so d = nI 5) (hq : q < lz) (hl : sz + lz ≤ 4000) (h : ta d = sp_me so lo kd bt d a sz lz 0 0) : fo_co_adjust so lo ta kd (vp_updL bt (sz + q) x) d a sz lz (fn_co_bearingOf so lo kd bt d a sz lz q) (fn_co_bearingOf so lo kd (vp_updL bt (sz + q) x) d a sz lz q) d = sp_me so lo kd (vp_updL bt (sz + q) x) d a sz lz 0 0 := by
  have e5 : so d = 5 := e
  have hk5 : so d = nI 0 ∨ so d = nI 2 ∨ so d = nI 3 ∨ so d = nI 4 ∨ so d = nI 5 := Or.inr (Or.inr (Or.inr (Or.inr e)))
  have i1 : nI (sz + lz) ≤ nI (sz + q + 1) ↔ lz ≤ q + 1 := by rw [nI_leI (by omega) (by omega)]; omega
  have b : ∀ bt : Nat → Int64, fn_co_bearingOf so lo kd bt d a sz lz q = if (nI (sz + lz)) ≤ (nI ((sz + q) + 1)) then (fn_co_shareOf so lo kd bt d a sz q) else zz_mx (fn_co_shareOf so lo kd bt d a sz q) (fn_co_shareOf so lo kd bt d a sz (q + 1)) := fun bt => by
    unfold fn_co_bearingOf
    rw [if_neg (show ¬ so d = nI 0 by rw [e]; decide), if_neg (show ¬ so d = nI 1 by rw [e]; decide), if_neg (show ¬ so d = nI 2 by rw [e]; decide), if_neg (show ¬ so d = nI 3 by rw [e]; decide), if_neg (show ¬ so d = nI 4 by rw [e]; decide), if_pos e]
    rfl
  -- what it bears on: q and the next one
  have B : ∀ bt : Nat → Int64, (∀ j, (j = q ∨ j = q + 1) → j < lz → fn_co_shareOf so lo kd bt d a sz j ≤ fn_co_bearingOf so lo kd bt d a sz lz q) ∧ ∃ j, (j = q ∨ j = q + 1) ∧ j < lz ∧ fn_co_bearingOf so lo kd bt d a sz lz q = fn_co_shareOf so lo kd bt d a sz j := fun bt => by
    rw [b]
    by_cases c : lz ≤ q + 1
    · rw [if_pos (i1.mpr c)]
      exact ⟨fun j hj h2 => by rw [show j = q by omega]; exact Int64.le_refl _, q, Or.inl rfl, hq, rfl⟩
    · rw [if_neg (fun z => c (i1.mp z))]
      obtain ⟨g1, g2, g3⟩ := zl_mx1 (fn_co_shareOf so lo kd bt d a sz q) (fn_co_shareOf so lo kd bt d a sz (q + 1))
      refine ⟨fun j hj h2 => ?_, ?_⟩
      · rcases hj with z | z
        · rw [z]; exact g1
        · rw [z]; exact g2
      · rcases g3 with z | z
        · exact ⟨q, Or.inl rfl, hq, z⟩
        · exact ⟨q + 1, Or.inr rfl, by omega, z⟩
  have hS : ∀ j, j ≠ q → j ≠ q + 1 → j < lz → fn_co_shareOf so lo kd (vp_updL bt (sz + q) x) d a sz j = fn_co_shareOf so lo kd bt d a sz j := fun j h1 h2 h3 => zl_shL hk5 (by omega) h1 h2
  obtain ⟨o1, o2, o3⟩ := zl_mi1 (f := fn_co_shareOf so lo kd bt d a sz) lz 0 0
  rw [zl_meF e5] at h ⊢
  obtain ⟨bo1, jo, jo1, jo2, jo3⟩ := B bt
  obtain ⟨bn1, jn, jn1, jn2, jn3⟩ := B (vp_updL bt (sz + q) x)
  unfold fo_co_adjust
  rw [if_pos e5]
  by_cases c1 : fn_co_bearingOf so lo kd (vp_updL bt (sz + q) x) d a sz lz q < ta d
  · rw [if_pos c1]
    by_cases c2 : fn_co_bearingOf so lo kd bt d a sz lz q = ta d
    · rw [if_pos c2]
      unfold fo_co_measure
      rw [pk_uLs, zl_meF e5]
    · rw [if_neg c2]
      rw [h] at c1 c2 ⊢
      have c1' := c1
      rw [Int64.lt_iff_toInt_lt] at c1'
      refine (zl_miE o1 (fun j h1 h2 => ?_) ?_).symm
      · by_cases z : j = q ∨ j = q + 1
        · refine zl_letr (bn1 j z (by omega)) ?_
          rw [Int64.le_iff_toInt_le]; omega
        · rw [hS j (fun w => z (Or.inl w)) (fun w => z (Or.inr w)) (by omega)]; exact o2 j h1 h2
      · rcases o3 with w | ⟨j, w1, w2, w3⟩
        · exact Or.inl w
        · by_cases z : j = q ∨ j = q + 1
          · exact absurd (zl_leas (by rw [jo3]; exact o2 jo (by omega) (by omega)) (by rw [w3]; exact bo1 j z (by omega))) c2
          · exact Or.inr ⟨j, w1, w2, by rw [hS j (fun w => z (Or.inl w)) (fun w => z (Or.inr w)) (by omega)]; exact w3⟩
  · rw [if_neg c1, pk_uLs]
    rw [h] at c1
    have c1' : zz_mi (fn_co_shareOf so lo kd bt d a sz) lz 0 0 ≤ fn_co_bearingOf so lo kd (vp_updL bt (sz + q) x) d a sz lz q := by
      rw [Int64.lt_iff_toInt_lt] at c1; rw [Int64.le_iff_toInt_le]; omega
    refine (zl_miE (zl_letr o1 c1') (fun j h1 h2 => ?_) (Or.inr ⟨jn, by omega, by omega, jn3⟩)).symm
    by_cases z : j = q ∨ j = q + 1
    · exact bn1 j z (by omega)
    · rw [hS j (fun w => z (Or.inl w)) (fun w => z (Or.inr w)) (by omega)]; exact zl_letr (o2 j h1 h2) c1'
/-- whichever rule it is -/
theorem zl_repl {so : Nat → Int32} {lo : Nat → Int64} {kd : Nat → Int32} {bt : Nat → Int64} {d a sz lz q : Nat} {x : Int64} {ta : Nat → Int64} (hk : ∃ k : Nat, k ≤ 5 ∧ so d = nI k) (hq : q < lz) (hl : sz + lz ≤ 4000) (h : ta d = sp_me so lo kd bt d a sz lz 0 0) : fo_co_adjust so lo ta kd (vp_updL bt (sz + q) x) d a sz lz (fn_co_bearingOf so lo kd bt d a sz lz q) (fn_co_bearingOf so lo kd (vp_updL bt (sz + q) x) d a sz lz q) d = sp_me so lo kd (vp_updL bt (sz + q) x) d a sz lz 0 0 := by
  obtain ⟨k, hk5, e⟩ := hk
  have go : ¬ so d = 5 → sp_me so lo kd (vp_updL bt (sz + q) x) d a sz lz 0 0 = sp_me so lo kd bt d a sz lz 0 0 + (fn_co_bearingOf so lo kd (vp_updL bt (sz + q) x) d a sz lz q - fn_co_bearingOf so lo kd bt d a sz lz q) → fo_co_adjust so lo ta kd (vp_updL bt (sz + q) x) d a sz lz (fn_co_bearingOf so lo kd bt d a sz lz q) (fn_co_bearingOf so lo kd (vp_updL bt (sz + q) x) d a sz lz q) d = sp_me so lo kd (vp_updL bt (sz + q) x) d a sz lz 0 0 := fun n5 z => by
    unfold fo_co_adjust
    rw [if_neg n5, pk_uLs, h, z]
  rcases (show k = 0 ∨ k = 1 ∨ k = 2 ∨ k = 3 ∨ k = 4 ∨ k = 5 by omega) with rfl | rfl | rfl | rfl | rfl | rfl
  · exact go (by rw [e]; decide) (zl_re0 (Or.inl e) hq)
  · exact go (by rw [e]; decide) (zl_re1 e hq)
  · exact go (by rw [e]; decide) (zl_re2 (Or.inl e) hq hl)
  · exact go (by rw [e]; decide) (zl_re0 (Or.inr e) hq)
  · exact go (by rw [e]; decide) (zl_re2 (Or.inr e) hq hl)
  · exact zl_re5 e hq hl h
