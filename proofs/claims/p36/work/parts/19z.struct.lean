/-- arrays: how many, how many elements, kinds, depths, classes, starts, lengths, bits -/
abbrev zz_S : Type := Nat × Nat × (Nat → Int32) × (Nat → Int32) × (Nat → Int32) × (Nat → Int32) × (Nat → Int32) × (Nat → Int64)
def sp_add (k d c : Int32) (n : Nat) (S : zz_S) : zz_S := (S.1 + 1, S.2.1 + n, upd S.2.2.1 S.1 k, upd S.2.2.2.1 S.1 d, upd S.2.2.2.2.1 S.1 c, upd S.2.2.2.2.2.1 S.1 (nI S.2.1), upd S.2.2.2.2.2.2.1 S.1 (nI n), zz_nb S.2.2.2.2.2.2.2 d S.2.1 n)
def sp_set (j : Nat) (x : Int64) (S : zz_S) : zz_S := (S.1, S.2.1, S.2.2.1, S.2.2.2.1, S.2.2.2.2.1, S.2.2.2.2.2.1, S.2.2.2.2.2.2.1, vp_updL S.2.2.2.2.2.2.2 j x)
/-- rows that are made one behind the other, each put into its place -/
def sp_gl (F : zz_S → zz_S) (base : Nat) : Nat → Nat → zz_S → zz_S
  | 0, _, S => S
  | m + 1, i, S => sp_gl F base m (i + 1) (sp_set (base + i) (lN S.1) (F S))
def sp_grid (k : Int32) (ll : Nat → Nat) : Nat → Nat → zz_S → zz_S
  | 0, _, S => S
  | r + 1, t, S => sp_gl (if r = 0 then id else sp_grid k ll r (t + 1)) S.2.1 (if r = 0 then 0 else ll t) 0 (sp_add k (nI (r + 1)) (-1) (ll t) S)
def zz_TT2 (ll : Nat → Nat) : Nat → Nat → Nat
  | 0, _ => 0
  | n + 1, j => 1 + ll j * zz_TT2 ll n (j + 1)
def zz_EE (ll : Nat → Nat) : Nat → Nat → Nat
  | 0, _ => 0
  | n + 1, j => ll j + ll j * zz_EE ll n (j + 1)
theorem sp_gl_n {F : zz_S → zz_S} {base T E : Nat} (h : ∀ S, (F S).1 = S.1 + T ∧ (F S).2.1 = S.2.1 + E) : ∀ (m i : Nat) (S : zz_S), (sp_gl F base m i S).1 = S.1 + m * T ∧ (sp_gl F base m i S).2.1 = S.2.1 + m * E
  | 0, _, S => by rw [sp_gl, Nat.zero_mul, Nat.zero_mul]; exact ⟨rfl, rfl⟩
  | m + 1, i, S => by
    rw [sp_gl]
    obtain ⟨h1, h2⟩ := sp_gl_n h m (i + 1) (sp_set (base + i) (lN S.1) (F S))
    obtain ⟨h3, h4⟩ := h S
    have e1 : (sp_set (base + i) (lN S.1) (F S)).1 = (F S).1 := rfl
    have e2 : (sp_set (base + i) (lN S.1) (F S)).2.1 = (F S).2.1 := rfl
    rw [h1, h2, e1, e2, h3, h4, Nat.add_mul, Nat.add_mul, Nat.one_mul, Nat.one_mul]
    omega
theorem sp_grid_n (k : Int32) (ll : Nat → Nat) : ∀ (r t : Nat) (S : zz_S), (sp_grid k ll r t S).1 = S.1 + zz_TT2 ll r t ∧ (sp_grid k ll r t S).2.1 = S.2.1 + zz_EE ll r t
  | 0, t, S => by rw [sp_grid, zz_TT2, zz_EE]; exact ⟨rfl, rfl⟩
  | 1, t, S => by
    rw [sp_grid, if_pos rfl, if_pos rfl, sp_gl, zz_TT2, zz_EE, zz_TT2, zz_EE]
    exact ⟨rfl, rfl⟩
  | r + 2, t, S => by
    rw [sp_grid, if_neg (by omega), if_neg (by omega)]
    obtain ⟨h1, h2⟩ := sp_gl_n (base := S.2.1) (fun S => sp_grid_n k ll (r + 1) (t + 1) S) (ll t) 0 (sp_add k (nI (r + 1 + 1)) (-1) (ll t) S)
    rw [h1, h2]
    have e1 : (sp_add k (nI (r + 1 + 1)) (-1) (ll t) S).1 = S.1 + 1 := rfl
    have e2 : (sp_add k (nI (r + 1 + 1)) (-1) (ll t) S).2.1 = S.2.1 + ll t := rfl
    rw [e1, e2]
    show _ = S.1 + (1 + ll t * zz_TT2 ll (r + 1) (t + 1)) ∧ _ = S.2.1 + (ll t + ll t * zz_EE ll (r + 1) (t + 1))
    omega
theorem zl_fitN {na nu ll : Nat} (h1 : na + 1 ≤ 60) (h2 : nu + ll ≤ 4000) : ¬ fn_co_fits (nI na) (nI nu) 1 (nI ll).toInt64 = 0 := by
  unfold fn_co_fits
  rw [nI_l (show na < 2 ^ 31 by omega), nI_l (show nu < 2 ^ 31 by omega), nI_l (show ll < 2 ^ 31 by omega), show (1 : Int64) = lN 1 by decide, lN_add, lN_add, show (60 : Int64) = lN 60 by decide, show (4000 : Int64) = lN 4000 by decide, if_neg (by rw [pk_lLT (by decide) (by omega)]; omega), if_neg (by rw [pk_lLT (by decide) (by omega)]; omega)]
  decide
theorem zl_step {P : Nat → Prop} {i : Nat} (h : ∀ j, j < i → P j) (h1 : P i) : ∀ j, j < i + 1 → P j := fun j hj => by
  by_cases e : j = i
  · exact e ▸ h1
  · exact h j (by omega)
def zz_P (ll : Nat → Nat) : Nat → Nat
  | 0 => 1
  | n + 1 => zz_P ll n * ll n
def zz_Mn (ll : Nat → Nat) : Nat → Nat
  | 0 => 0
  | n + 1 => zz_Mn ll n + zz_P ll n
def zz_Al (ll : Nat → Nat) : Nat → Nat
  | 0 => 0
  | n + 1 => zz_Al ll n + zz_P ll n * ll n
def zz_AC (ll : Nat → Nat) (i : Nat) (mn al ti : Int64) : Prop := (∀ j, j < i → ll j ≤ 200) ∧ mn = lN (zz_Mn ll i) ∧ al = lN (zz_Al ll i) ∧ ti = lN (zz_P ll i)
theorem zl_acc {ll : Nat → Nat} {i : Nat} {mn al ti : Int64} (h : zz_AC ll i mn al ti) (hl : ll i ≤ 200) : zz_AC ll (i + 1) (mn + ti) (al + ti * (nI (ll i)).toInt64) (ti * (nI (ll i)).toInt64) := by
  obtain ⟨h1, h2, h3, h4⟩ := h
  refine ⟨zl_step (P := fun j => ll j ≤ 200) h1 hl, ?_, ?_, ?_⟩
  · rw [h2, h4, lN_add]; rfl
  · rw [h3, h4, nI_l (by omega), lN_mul, lN_add]; rfl
  · rw [h4, nI_l (by omega), lN_mul]; rfl
theorem zl_tot {ll : Nat → Nat} {dd : Nat} (h1 : 1 ≤ dd) (h4 : dd ≤ 4) : zz_TT2 ll dd 0 = zz_Mn ll dd ∧ zz_EE ll dd 0 = zz_Al ll dd := by
  rcases (show dd = 1 ∨ dd = 2 ∨ dd = 3 ∨ dd = 4 by omega) with rfl | rfl | rfl | rfl <;> refine ⟨?_, ?_⟩ <;>
    simp only [zz_TT2, zz_EE, zz_Mn, zz_Al, zz_P, Nat.mul_zero, Nat.add_zero, Nat.zero_add, Nat.mul_add, Nat.mul_one, Nat.one_mul, ← Nat.mul_assoc, Nat.reduceAdd] <;> omega
theorem zl_Pb {ll : Nat → Nat} {n : Nat} (h : ∀ j, j < n → ll j ≤ 200) : zz_P ll n ≤ 200 ^ n := by
  induction n with
  | zero => exact Nat.le_refl _
  | succ n ih => rw [zz_P, Nat.pow_succ]; exact Nat.mul_le_mul (ih (fun j hj => h j (by omega))) (h n (by omega))
theorem zl_Ab {ll : Nat → Nat} {dd : Nat} (h4 : dd ≤ 4) (h : ∀ j, j < dd → ll j ≤ 200) : zz_Al ll dd < 2 ^ 40 ∧ zz_Mn ll dd < 2 ^ 40 := by
  have b : ∀ n, n ≤ 4 → n ≤ dd → zz_P ll n ≤ 1600000000 := fun n hn hd => by
    refine Nat.le_trans (zl_Pb (fun j hj => h j (by omega))) ?_
    rcases (show n = 0 ∨ n = 1 ∨ n = 2 ∨ n = 3 ∨ n = 4 by omega) with rfl | rfl | rfl | rfl | rfl <;> decide
  have ha : ∀ n, n ≤ dd → zz_Al ll n ≤ n * 1600000000 ∧ zz_Mn ll n ≤ n * 1600000000 := fun n => by
    induction n with
    | zero => exact fun _ => ⟨Nat.zero_le _, Nat.zero_le _⟩
    | succ n ih =>
      intro hn
      have i1 := ih (by omega)
      have i2 := b n (by omega) (by omega)
      have i3 := b (n + 1) (by omega) hn
      rw [zz_P] at i3
      rw [zz_Al, zz_Mn]
      omega
  have := ha dd (Nat.le_refl _)
  omega
theorem zl_clamp {x : Int32} (h : ¬ x < 0) : x = nI x.toNatClampNeg ∧ x.toNatClampNeg < 2 ^ 31 := by
  obtain ⟨j, hj, rfl⟩ := nI_of h
  rw [nI_clamp hj]; exact ⟨rfl, hj⟩
/-- grids: what they are asked for, what they answer -/
def zz_GF (na nu : Nat) (ll : Nat → Nat) (dd : Nat) : Prop := (∀ j, j < dd → ll j ≤ 200) ∧ na + zz_Mn ll dd ≤ 60 ∧ nu + zz_Al ll dd ≤ 4000
def zz_gll (x3 x4 x5 x6 : Int32) : Nat → Nat := fun j => (zz_pa x3 x4 x5 x6 j).toNatClampNeg
noncomputable def sp_gR (na nu : Nat) (x1 x2 x3 x4 x5 x6 : Int32) : Int32 := @ite Int32 (0 ≤ x1 ∧ x1 < 8 ∧ 1 ≤ x2 ∧ x2 ≤ 4) (Classical.propDecidable _) (@ite Int32 (∀ j, j < x2.toNatClampNeg → ¬ zz_pa x3 x4 x5 x6 j < 0) (Classical.propDecidable _) (@ite Int32 (zz_GF na nu (zz_gll x3 x4 x5 x6) x2.toNatClampNeg) (Classical.propDecidable _) (nI na) (-8)) (-4)) (-9)
theorem zl_upd4 {f : Nat → Int32} {x3 x4 x5 x6 : Int32} {j : Nat} (h : j < 4) : upd (upd (upd (upd f 0 x3) 1 x4) 2 x5) 3 x6 j = zz_pa x3 x4 x5 x6 j := by
  rcases (show j = 0 ∨ j = 1 ∨ j = 2 ∨ j = 3 by omega) with rfl | rfl | rfl | rfl <;> rfl
theorem zl_fits2 {na nu a b : Nat} (hna : na ≤ 60) (hnu : nu ≤ 4000) (ha : a < 2 ^ 40) (hb : b < 2 ^ 40) : (fn_co_fits (nI na) (nI nu) (lN a) (lN b) = 0 ∧ ¬ (na + a ≤ 60 ∧ nu + b ≤ 4000)) ∨ (fn_co_fits (nI na) (nI nu) (lN a) (lN b) = 1 ∧ na + a ≤ 60 ∧ nu + b ≤ 4000) := by
  unfold fn_co_fits
  rw [nI_l (show na < 2 ^ 31 by omega), nI_l (show nu < 2 ^ 31 by omega), lN_add, lN_add, show (60 : Int64) = lN 60 by decide, show (4000 : Int64) = lN 4000 by decide]
  by_cases c : lN 60 < lN (na + a)
  · rw [if_pos c]; rw [pk_lLT (by decide) (by omega)] at c; exact Or.inl ⟨rfl, by omega⟩
  · rw [if_neg c]; rw [pk_lLT (by decide) (by omega)] at c
    by_cases d : lN 4000 < lN (nu + b)
    · rw [if_pos d]; rw [pk_lLT (by decide) (by omega)] at d; exact Or.inl ⟨rfl, by omega⟩
    · rw [if_neg d]; rw [pk_lLT (by decide) (by omega)] at d; exact Or.inr ⟨rfl, by omega, by omega⟩
theorem zl_GFr {na nu dd : Nat} {ll : Nat → Nat} {mn al ti : Int64} (h : zz_AC ll dd mn al ti) (h4 : dd ≤ 4) (hna : na ≤ 60) (hnu : nu ≤ 4000) : (fn_co_fits (nI na) (nI nu) mn al = 0 ∧ ¬ zz_GF na nu ll dd) ∨ (fn_co_fits (nI na) (nI nu) mn al = 1 ∧ zz_GF na nu ll dd) := by
  obtain ⟨a1, a2, a3, a4⟩ := h
  obtain ⟨b1, b2⟩ := zl_Ab h4 a1
  rw [a2, a3]
  rcases zl_fits2 hna hnu b2 b1 with ⟨q1, q2⟩ | ⟨q1, q2, q3⟩
  · exact Or.inl ⟨q1, fun z => q2 z.2⟩
  · exact Or.inr ⟨q1, a1, q2, q3⟩
/-- the reference's arrays: each behind the other; rows are none or arrays one less deep -/
def zz_VR (na : Nat) (dpf : Nat → Int32) (x : Int64) (dz : Nat) : Prop := x = -1 ∨ ∃ r dr : Nat, r < na ∧ x = lN r ∧ dpf r = nI dr ∧ dr + 1 = dz
def zz_RW (na : Nat) (dpf saf lnf : Nat → Int32) (btf : Nat → Int64) : Prop := ∀ a sz lz dz : Nat, a < na → saf a = nI sz → lnf a = nI lz → dpf a = nI dz → sz ≤ 4000 → lz ≤ 200 → dz ≤ 4 → 1 < dz → ∀ i, i < lz → zz_VR na dpf (btf (sz + i)) dz
def zz_MI (na ne : Nat) (dpf saf lnf : Nat → Int32) (btf : Nat → Int64) : Prop := zz_SI na ne dpf saf lnf ∧ zz_DJ na saf lnf ∧ zz_RW na dpf saf lnf btf
theorem zl_inj {x y : Nat} (h : nI x = nI y) (hx : x ≤ 4000) (hy : y ≤ 4000) : x = y := (nI_eq (by omega) (by omega)).mp h
/-- only elements of arrays of depth 1 have changed -/
def zz_D1 (na : Nat) (dpf saf lnf : Nat → Int32) (bt bt2 : Nat → Int64) : Prop := ∀ j, (∀ b s l : Nat, b < na → dpf b = nI 1 → saf b = nI s → lnf b = nI l → s ≤ 4000 → l ≤ 200 → j < s ∨ s + l ≤ j) → bt2 j = bt j
theorem zz_D1.rf {na : Nat} {dpf saf lnf : Nat → Int32} {bt : Nat → Int64} : zz_D1 na dpf saf lnf bt bt := fun _ _ => rfl
theorem zz_D1.tr {na : Nat} {dpf saf lnf : Nat → Int32} {bt bt1 bt2 : Nat → Int64} (h : zz_D1 na dpf saf lnf bt bt1) (h2 : zz_D1 na dpf saf lnf bt1 bt2) : zz_D1 na dpf saf lnf bt bt2 := fun j hj => (h2 j hj).trans (h j hj)
theorem zz_D1.of {na b s l : Nat} {dpf saf lnf : Nat → Int32} {bt bt2 : Nat → Int64} (hb : b < na) (ed : dpf b = nI 1) (es : saf b = nI s) (el : lnf b = nI l) (hs : s ≤ 4000) (hl : l ≤ 200) (h : ∀ j, j < s ∨ s + l ≤ j → bt2 j = bt j) : zz_D1 na dpf saf lnf bt bt2 := fun j hj => h j (hj b s l hb ed es el hs hl)
theorem zz_D1.set {na b s l q : Nat} {dpf saf lnf : Nat → Int32} {bt : Nat → Int64} {x : Int64} (hb : b < na) (ed : dpf b = nI 1) (es : saf b = nI s) (el : lnf b = nI l) (hs : s ≤ 4000) (hl : l ≤ 200) (hq : q < l) : zz_D1 na dpf saf lnf bt (vp_updL bt (s + q) x) := zz_D1.of hb ed es el hs hl (fun j hj => pk_uLn (by omega))
def zz_av (av : Nat → Nat) (K : Nat) : Nat → Nat := fun j => if j = K then av K + 1 else if j = K + 1 then 0 else av j
/-- how many arrays (w: 1) or elements (w: lengths) a copy with all rows takes -/
def zz_ss (h : Nat → Nat) : Nat → Nat → Nat
  | _, 0 => 0
  | k, n + 1 => h k + zz_ss h (k + 1) n
def zz_ct (w : Nat → Nat) (rw : Nat → Nat → Int64) (Lf : Nat → Nat) : Nat → Nat → Nat
  | 0, _ => 0
  | 1, x => w x
  | f + 2, x => w x + zz_ss (fun i => if rw x i = -1 then 0 else zz_ct w rw Lf (f + 1) (rw x i).toInt.toNat) 0 (Lf x)
def zz_h (w : Nat → Nat) (rw : Nat → Nat → Int64) (Lf : Nat → Nat) (f x : Nat) : Nat → Nat := fun i => if rw x i = -1 then 0 else zz_ct w rw Lf f (rw x i).toInt.toNat
def zz_rr (w : Nat → Nat) (rw : Nat → Nat → Int64) (Lf : Nat → Nat) (f x k : Nat) : Nat := match f with
  | 0 => 0
  | 1 => 0
  | f + 2 => zz_ss (zz_h w rw Lf (f + 1) x) k (Lf x - k)
def zz_RS (w : Nat → Nat) (rw : Nat → Nat → Int64) (Lf : Nat → Nat) (dz : Nat) (Av av : Nat → Nat) : Nat → Nat
  | 0 => 0
  | L + 1 => zz_RS w rw Lf dz Av av L + zz_rr w rw Lf (dz - L) (Av L) (av L)
def zz_SG (Lf Av av : Nat → Nat) : Nat → Nat
  | 0 => 0
  | L + 1 => zz_SG Lf Av av L + (Lf (Av L) - av L)
def zz_Av (Av : Nat → Nat) (K r : Nat) : Nat → Nat := fun j => if j = K + 1 then r else Av j
section zzTree
variable {w : Nat → Nat} {rw : Nat → Nat → Int64} {Lf Av av : Nat → Nat} {dz K r x f k : Nat}
theorem zz_ss_1 {h : Nat → Nat} {k n : Nat} (hk : k < n) : zz_ss h k (n - k) = h k + zz_ss h (k + 1) (n - (k + 1)) := by
  rw [show n - k = (n - (k + 1)) + 1 by omega, zz_ss]
theorem zz_ct_rm (h : 1 ≤ f) : zz_ct w rw Lf f x = w x + zz_rr w rw Lf f x 0 := by
  match f, h with
  | 1, _ => rw [zz_ct, zz_rr]; rfl
  | f + 2, _ => rw [zz_ct, zz_rr, Nat.sub_zero]; rfl
theorem zz_rr_null (h : 2 ≤ f) (hk : k < Lf x) (hr : rw x k = -1) : zz_rr w rw Lf f x k = zz_rr w rw Lf f x (k + 1) := by
  match f, h with
  | f + 2, _ =>
    rw [zz_rr, zz_rr, zz_ss_1 hk]
    have : zz_h w rw Lf (f + 1) x k = 0 := if_pos hr
    omega
theorem zz_rr_row (h : 2 ≤ f) (hk : k < Lf x) (hr : rw x k = lN r) (hr2 : r < 60) : zz_rr w rw Lf f x k = w r + zz_rr w rw Lf (f - 1) r 0 + zz_rr w rw Lf f x (k + 1) := by
  match f, h with
  | f + 2, _ =>
    rw [zz_rr, zz_rr, zz_ss_1 hk]
    have e : (lN r).toInt = (r : Int) := lN_toInt (by omega)
    have hn : ¬ lN r = -1 := fun q => by
      rw [q] at e
      have : (-1 : Int64).toInt = -1 := by decide
      omega
    have : zz_h w rw Lf (f + 1) x k = zz_ct w rw Lf (f + 1) r := by
      show (if rw x k = -1 then 0 else zz_ct w rw Lf (f + 1) (rw x k).toInt.toNat) = _
      rw [hr, if_neg hn, e]; rfl
    rw [this, zz_ct_rm (by omega)]
    rfl
theorem zz_rr0 (h : f = 1 ∨ k = Lf x) : zz_rr w rw Lf f x k = 0 := by
  match f, h with
  | 0, _ => rfl
  | 1, _ => rfl
  | f + 2, h =>
    have e : k = Lf x := h.resolve_left (by omega)
    rw [zz_rr, e, Nat.sub_self]; rfl
theorem zz_RS_eq {Av' av' : Nat → Nat} : ∀ {L : Nat}, (∀ j, j < L → Av' j = Av j ∧ av' j = av j) → zz_RS w rw Lf dz Av' av' L = zz_RS w rw Lf dz Av av L
  | 0, _ => rfl
  | L + 1, h => by rw [zz_RS, zz_RS, zz_RS_eq (fun j hj => h j (by omega)), (h L (by omega)).1, (h L (by omega)).2]
theorem zz_SG_eq {Av' av' : Nat → Nat} : ∀ {L : Nat}, (∀ j, j < L → Av' j = Av j ∧ av' j = av j) → zz_SG Lf Av' av' L = zz_SG Lf Av av L
  | 0, _ => rfl
  | L + 1, h => by rw [zz_SG, zz_SG, zz_SG_eq (fun j hj => h j (by omega)), (h L (by omega)).1, (h L (by omega)).2]
theorem zz_av_lt {j : Nat} (h : j < K) : zz_av av K j = av j := by
  have q1 : j ≠ K := by omega
  have q2 : j ≠ K + 1 := by omega
  simp [zz_av, q1, q2]
theorem zz_Av_lt {j : Nat} (h : j < K + 1) : zz_Av Av K r j = Av j := by
  have q2 : j ≠ K + 1 := by omega
  simp [zz_Av, q2]
theorem zz_av_s : zz_av av K K = av K + 1 := by simp [zz_av]
theorem zz_av_n : zz_av av K (K + 1) = 0 := by simp [zz_av]
theorem zz_Av_n : zz_Av Av K r (K + 1) = r := by simp [zz_Av]
theorem zz_RS_null (h : 2 ≤ dz - K) (hk : av K < Lf (Av K)) (hr : rw (Av K) (av K) = -1) : zz_RS w rw Lf dz Av (zz_av av K) (K + 1) = zz_RS w rw Lf dz Av av (K + 1) := by
  rw [zz_RS, zz_RS, zz_RS_eq (Av := Av) (av := av) (fun j hj => ⟨rfl, zz_av_lt hj⟩), zz_av_s, zz_rr_null h hk hr]
theorem zz_RS_push (h : 2 ≤ dz - K) (hk : av K < Lf (Av K)) (hr : rw (Av K) (av K) = lN r) (hr2 : r < 60) : zz_RS w rw Lf dz (zz_Av Av K r) (zz_av av K) (K + 2) + w r = zz_RS w rw Lf dz Av av (K + 1) := by
  rw [zz_RS, zz_RS, zz_RS, zz_RS_eq (Av := Av) (av := av) (fun j hj => ⟨zz_Av_lt (by omega), zz_av_lt hj⟩), zz_av_s, zz_av_n, zz_Av_n, zz_Av_lt (by omega), zz_rr_row h hk hr hr2, show dz - (K + 1) = dz - K - 1 by omega]
  omega
theorem zz_SG_null (hk : av K < Lf (Av K)) : zz_SG Lf Av (zz_av av K) (K + 1) + 1 = zz_SG Lf Av av (K + 1) := by
  rw [zz_SG, zz_SG, zz_SG_eq (Av := Av) (av := av) (fun j hj => ⟨rfl, zz_av_lt hj⟩), zz_av_s]
  omega
theorem zz_SG_push (hk : av K < Lf (Av K)) : zz_SG Lf (zz_Av Av K r) (zz_av av K) (K + 2) + 1 = zz_SG Lf Av av (K + 1) + Lf r := by
  rw [zz_SG, zz_SG, zz_SG, zz_SG_eq (Av := Av) (av := av) (fun j hj => ⟨zz_Av_lt (by omega), zz_av_lt hj⟩), zz_av_s, zz_av_n, zz_Av_n, zz_Av_lt (by omega)]
  omega
end zzTree
theorem zl_tree {na ne : Nat} {dpf saf lnf : Nat → Int32} {btf : Nat → Int64} (h : zz_MI na ne dpf saf lnf btf) : ∃ Sf Lf Df : Nat → Nat, (∀ x, x < na → saf x = nI (Sf x) ∧ lnf x = nI (Lf x) ∧ dpf x = nI (Df x) ∧ Lf x ≤ 200 ∧ Sf x + Lf x ≤ ne ∧ 1 ≤ Df x ∧ Df x ≤ 4) ∧ ∀ x, x < na → 1 < Df x → ∀ i, i < Lf x → btf (Sf x + i) = -1 ∨ ∃ r, r < na ∧ btf (Sf x + i) = lN r ∧ Df r + 1 = Df x := by
  have hne := h.1.2.1
  have h0 : ∀ x, x < na → saf x = nI (saf x).toNatClampNeg ∧ lnf x = nI (lnf x).toNatClampNeg ∧ dpf x = nI (dpf x).toNatClampNeg ∧ (lnf x).toNatClampNeg ≤ 200 ∧ (saf x).toNatClampNeg + (lnf x).toNatClampNeg ≤ ne ∧ 1 ≤ (dpf x).toNatClampNeg ∧ (dpf x).toNatClampNeg ≤ 4 := fun x hx => by
    obtain ⟨sz, lz, dz, e1, e2, e3, g1, g2, g3, g4⟩ := h.1.2.2 x hx
    rw [e1, e2, e3, nI_clamp (show sz < 2 ^ 31 by omega), nI_clamp (show lz < 2 ^ 31 by omega), nI_clamp (show dz < 2 ^ 31 by omega)]
    exact ⟨rfl, rfl, rfl, g1, g2, g3, g4⟩
  refine ⟨fun x => (saf x).toNatClampNeg, fun x => (lnf x).toNatClampNeg, fun x => (dpf x).toNatClampNeg, h0, fun x hx h1 i hi => ?_⟩
  obtain ⟨e1, e2, e3, g1, g2, g3, g4⟩ := h0 x hx
  rcases h.2.2 x _ _ _ hx e1 e2 e3 (by omega) g1 g4 h1 i hi with q | ⟨r, dr, q1, q2, q3, q4⟩
  · exact Or.inl q
  · refine Or.inr ⟨r, q1, q2, ?_⟩
    show (dpf r).toNatClampNeg + 1 = _
    have : dr ≤ 4 := by omega
    rw [q3, nI_clamp (by omega)]; exact q4
/-- a copy with all rows, as a function: rw: the rows, Sf: starts, Lf: lengths -/
def sp_cp (s b n : Nat) (S : zz_S) : zz_S := (S.1, S.2.1, S.2.2.1, S.2.2.2.1, S.2.2.2.2.1, S.2.2.2.2.2.1, S.2.2.2.2.2.2.1, va_cpy S.2.2.2.2.2.2.2 S.2.2.2.2.2.2.2 s b n)
def sp_tl (F : Nat → zz_S → zz_S) (row : Nat → Int64) (base : Nat) : Nat → Nat → zz_S → zz_S
  | 0, _, S => S
  | m + 1, i, S => sp_tl F row base m (i + 1) (if row i = -1 then S else sp_set (base + i) (lN S.1) (F (row i).toInt.toNat S))
def sp_tw (kd0 cl0 : Nat → Int32) (Sf Lf : Nat → Nat) (rw : Nat → Nat → Int64) : Nat → Nat → zz_S → zz_S
  | 0, _, S => S
  | 1, a, S => sp_cp (Sf a) S.2.1 (Lf a) (sp_add (kd0 a) (nI 1) (cl0 a) (Lf a) S)
  | f + 2, a, S => sp_tl (sp_tw kd0 cl0 Sf Lf rw (f + 1)) (rw a) S.2.1 (Lf a) 0 (sp_add (kd0 a) (nI (f + 2)) (cl0 a) (Lf a) S)
theorem sp_tl_n {F : Nat → zz_S → zz_S} {row : Nat → Int64} {base : Nat} {c e : Nat → Nat} (h : ∀ r S, (F r S).1 = S.1 + c r ∧ (F r S).2.1 = S.2.1 + e r) : ∀ (m i : Nat) (S : zz_S), (sp_tl F row base m i S).1 = S.1 + zz_ss (fun i => if row i = -1 then 0 else c (row i).toInt.toNat) i m ∧ (sp_tl F row base m i S).2.1 = S.2.1 + zz_ss (fun i => if row i = -1 then 0 else e (row i).toInt.toNat) i m
  | 0, _, S => ⟨rfl, rfl⟩
  | m + 1, i, S => by
    rw [sp_tl, zz_ss, zz_ss]
    by_cases q : row i = -1
    · rw [if_pos q]
      obtain ⟨h1, h2⟩ := sp_tl_n h m (i + 1) S
      rw [h1, h2]
      simp only [if_pos q]
      omega
    · rw [if_neg q]
      obtain ⟨h1, h2⟩ := sp_tl_n h m (i + 1) (sp_set (base + i) (lN S.1) (F (row i).toInt.toNat S))
      obtain ⟨h3, h4⟩ := h (row i).toInt.toNat S
      have e1 : (sp_set (base + i) (lN S.1) (F (row i).toInt.toNat S)).1 = (F (row i).toInt.toNat S).1 := rfl
      have e2 : (sp_set (base + i) (lN S.1) (F (row i).toInt.toNat S)).2.1 = (F (row i).toInt.toNat S).2.1 := rfl
      rw [h1, h2, e1, e2, h3, h4]
      simp only [if_neg q]
      omega
theorem sp_tw_n (kd0 cl0 : Nat → Int32) (Sf Lf : Nat → Nat) (rw : Nat → Nat → Int64) : ∀ (f a : Nat) (S : zz_S), (sp_tw kd0 cl0 Sf Lf rw f a S).1 = S.1 + zz_ct (fun _ => 1) rw Lf f a ∧ (sp_tw kd0 cl0 Sf Lf rw f a S).2.1 = S.2.1 + zz_ct Lf rw Lf f a
  | 0, a, S => ⟨rfl, rfl⟩
  | 1, a, S => ⟨rfl, rfl⟩
  | f + 2, a, S => by
    rw [sp_tw, zz_ct, zz_ct]
    obtain ⟨h1, h2⟩ := sp_tl_n (base := S.2.1) (row := rw a) (fun r S => sp_tw_n kd0 cl0 Sf Lf rw (f + 1) r S) (Lf a) 0 (sp_add (kd0 a) (nI (f + 2)) (cl0 a) (Lf a) S)
    rw [h1, h2]
    have e1 : (sp_add (kd0 a) (nI (f + 2)) (cl0 a) (Lf a) S).1 = S.1 + 1 := rfl
    have e2 : (sp_add (kd0 a) (nI (f + 2)) (cl0 a) (Lf a) S).2.1 = S.2.1 + Lf a := rfl
    rw [e1, e2]
    omega
/-- what was there stays: kinds, classes, bits -/
def zz_KP (n u : Nat) (S S' : zz_S) : Prop := (∀ x, x < n → S'.2.2.1 x = S.2.2.1 x ∧ S'.2.2.2.2.1 x = S.2.2.2.2.1 x) ∧ ∀ j, j < u → S'.2.2.2.2.2.2.2 j = S.2.2.2.2.2.2.2 j
theorem zz_KP.rf {n u : Nat} {S : zz_S} : zz_KP n u S S := ⟨fun _ _ => ⟨rfl, rfl⟩, fun _ _ => rfl⟩
theorem zz_KP.tr {n u : Nat} {S S' S'' : zz_S} (h : zz_KP n u S S') (h2 : zz_KP n u S' S'') : zz_KP n u S S'' := ⟨fun x hx => ⟨(h2.1 x hx).1.trans (h.1 x hx).1, (h2.1 x hx).2.trans (h.1 x hx).2⟩, fun j hj => (h2.2 j hj).trans (h.2 j hj)⟩
theorem zz_KP.add {k d c : Int32} {n m u : Nat} {S : zz_S} (h1 : m ≤ S.1) (h2 : u ≤ S.2.1) : zz_KP m u S (sp_add k d c n S) := ⟨fun x hx => ⟨pk_un (by omega), pk_un (by omega)⟩, fun j hj => by
  show zz_nb _ d _ n j = _
  unfold zz_nb
  by_cases q : d ≤ 1
  · rw [if_pos q]
  · rw [if_neg q, if_neg (by omega)]⟩
theorem zz_KP.set {m u b : Nat} {x : Int64} {S : zz_S} (h : u ≤ b) : zz_KP m u S (sp_set b x S) := ⟨fun _ _ => ⟨rfl, rfl⟩, fun j hj => pk_uLn (by omega)⟩
theorem sp_tl_k {F : Nat → zz_S → zz_S} {row : Nat → Int64} {base n u : Nat} (hb : u ≤ base) (h : ∀ r S, n ≤ S.1 → u ≤ S.2.1 → zz_KP n u S (F r S) ∧ S.1 ≤ (F r S).1 ∧ S.2.1 ≤ (F r S).2.1) : ∀ (m i : Nat) (S : zz_S), n ≤ S.1 → u ≤ S.2.1 → zz_KP n u S (sp_tl F row base m i S)
  | 0, _, S, _, _ => zz_KP.rf
  | m + 1, i, S, h1, h2 => by
    rw [sp_tl]
    by_cases q : row i = -1
    · rw [if_pos q]; exact sp_tl_k hb h m (i + 1) S h1 h2
    · rw [if_neg q]
      obtain ⟨g1, g2, g3⟩ := h (row i).toInt.toNat S h1 h2
      exact (g1.tr (zz_KP.set (by omega))).tr (sp_tl_k hb h m (i + 1) _ (Nat.le_trans h1 g2) (Nat.le_trans h2 g3))
theorem sp_tw_k (kd0 cl0 : Nat → Int32) (Sf Lf : Nat → Nat) (rw : Nat → Nat → Int64) (n u : Nat) : ∀ (f a : Nat) (S : zz_S), n ≤ S.1 → u ≤ S.2.1 → zz_KP n u S (sp_tw kd0 cl0 Sf Lf rw f a S)
  | 0, a, S, _, _ => zz_KP.rf
  | 1, a, S, h1, h2 => (zz_KP.add h1 h2).tr ⟨fun _ _ => ⟨rfl, rfl⟩, fun j hj => pk_cpy_out (by show j < S.2.1 ∨ _; omega)⟩
  | f + 2, a, S, h1, h2 => by
    rw [sp_tw]
    refine (zz_KP.add h1 h2).tr (sp_tl_k h2 (fun r S g1 g2 => ⟨sp_tw_k kd0 cl0 Sf Lf rw n u (f + 1) r S g1 g2, ?_, ?_⟩) (Lf a) 0 _ (Nat.le_trans h1 (Nat.le_succ _)) (Nat.le_trans h2 (Nat.le_add_right _ _)))
    · have := (sp_tw_n kd0 cl0 Sf Lf rw (f + 1) r S).1; omega
    · have := (sp_tw_n kd0 cl0 Sf Lf rw (f + 1) r S).2; omega
/-- arrays as trees: starts, lengths, depths as numbers; rows are null, or one less deep -/
def zz_TR (na nu : Nat) (Sf Lf Df : Nat → Nat) (bt0 : Nat → Int64) : Prop := na ≤ 60 ∧ nu ≤ 4000 ∧ (∀ x, x < na → Lf x ≤ 200 ∧ Sf x + Lf x ≤ nu ∧ 1 ≤ Df x ∧ Df x ≤ 4) ∧ ∀ x, x < na → 1 < Df x → ∀ i, i < Lf x → bt0 (Sf x + i) = -1 ∨ ∃ r, r < na ∧ bt0 (Sf x + i) = lN r ∧ Df r + 1 = Df x
def zz_OR (n0 u0 na nu : Nat) (Sf Lf Df : Nat → Nat) (kd0 cl0 : Nat → Int32) (bt0 : Nat → Int64) (kdf dpf clf saf lnf : Nat → Int32) (btf : Nat → Int64) : Prop := n0 ≤ na ∧ u0 ≤ nu ∧ (∀ x, x < n0 → saf x = nI (Sf x) ∧ lnf x = nI (Lf x) ∧ dpf x = nI (Df x)) ∧ (∀ x, x < n0 → kdf x = kd0 x ∧ clf x = cl0 x) ∧ ∀ j, j < u0 → btf j = bt0 j
theorem zl_hasN {na : Nat} : fn_co_has (nI na) (-1) = 0 := if_pos (by decide)
theorem zl_hasY {na r : Nat} (hn : na ≤ 60) (h : r < na) : ¬ fn_co_has (nI na) (nI r) = 0 := by
  unfold fn_co_has
  rw [if_neg (nI_pos (by omega)), if_neg (nI_ge (by omega) (by omega))]
  decide
