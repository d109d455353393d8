/-- what decisions are: places in arrays, their slots, how many candidates -/
def zz_CI (na nd : Nat) (saf lnf plf slf cof : Nat → Int32) : Prop := nd ≤ 24 ∧ ∀ d, d < nd → ∃ b q sz lz n : Nat, plf d = nI (1000 * b + q) ∧ b < na ∧ b < 60 ∧ saf b = nI sz ∧ lnf b = nI lz ∧ sz + lz ≤ 4000 ∧ lz ≤ 200 ∧ q < lz ∧ slf d = nI (sz + q) ∧ cof d = nI n ∧ n ≤ 16
def zz_TI (tuf : Nat → Int32) : Prop := ∀ d, ∃ t : Nat, t < 16 ∧ tuf d = nI t
theorem zl_TIu {tuf : Nat → Int32} {k t : Nat} (h : zz_TI tuf) (ht : t < 16) : zz_TI (upd tuf k (nI t)) := by
  intro d
  by_cases e : d = k
  · subst e; exact ⟨t, ht, pk_us⟩
  · obtain ⟨u, hu, eu⟩ := h d
    exact ⟨u, hu, (pk_un e).trans eu⟩
theorem zl_chas {na : Nat} {k : Int32} (hn : na ≤ 24) (h : ¬ fn_co_chas (nI na) k = 0) : ∃ q, q < na ∧ k = nI q := zl_has (by omega) h
theorem zl_lev {lev : Int32} {L : Nat} (h0 : lev = nI L + (-1)) (h : ¬ lev < 0) : ∃ K, L = K + 1 ∧ lev = nI K := by
  cases L with
  | zero => exact absurd (by rw [h0]; decide) h
  | succ K => exact ⟨K, rfl, h0.trans (pk_m1 K)⟩
theorem zl_free {pnf : Nat → Int32} {n z : Nat} (hn : n ≤ 16) (h : ¬ fn_co_isFree pnf n z = 0) : 0 < n := by
  unfold fn_co_isFree at h
  by_cases e : n = 0
  · subst e; exact absurd (if_pos (by decide)) h
  · omega
theorem zl_dk {btf bt1 : Nat → Int64} {slf : Nat → Int32} {nd D s : Nat} {x : Int64} (h : ∀ j, (∀ d t, d < nd → slf d = nI t → t ≤ 4000 → j ≠ t) → bt1 j = btf j) (hD : D < nd) (e : slf D = nI s) (hs : s ≤ 4000) : ∀ j, (∀ d t, d < nd → slf d = nI t → t ≤ 4000 → j ≠ t) → vp_updL bt1 s x j = btf j := fun j hj => by
  by_cases e0 : j = s
  · exact absurd e0 (hj D s hD e hs)
  · exact (pk_uLn e0).trans (h j hj)
theorem zl_up {cof c1 : Nat → Int32} {d : Nat} {x : Int32} (h : ∀ j, j ≠ d → c1 j = cof j) : ∀ j, j ≠ d → upd c1 d x j = cof j := fun j hj => (pk_un hj).trans (h j hj)
theorem zl_ix {ca : Nat → Int64} {x : Int64} {s : Nat} : ∀ n i : Nat, sp_ix ca x s n i = -2 ∨ ∃ k, i ≤ k ∧ k < i + n ∧ sp_ix ca x s n i = nI k ∧ ca (s + k) = x
  | 0, _ => Or.inl rfl
  | n + 1, i => by
    rw [sp_ix]
    by_cases c : ca (s + i) = x
    · rw [if_pos c]; exact Or.inr ⟨i, Nat.le_refl _, by omega, rfl, c⟩
    · rw [if_neg c]
      rcases zl_ix (ca := ca) (x := x) (s := s) n (i + 1) with h | ⟨k, h1, h2, h3, h4⟩
      · exact Or.inl h
      · exact Or.inr ⟨k, by omega, by omega, h3, h4⟩
theorem zl_ixN {ca : Nat → Int64} {x : Int64} {s n : Nat} {r : Int32} (hn : n ≤ 16) (f : r = sp_ix ca x s n 0) (c : ¬ 0 ≤ r) : sp_ix ca x s n 0 = -2 := by
  rcases zl_ix (ca := ca) (x := x) (s := s) n 0 with h | ⟨k, h1, h2, h3, h4⟩
  · exact h
  · exact absurd (by rw [f, h3]; exact nI_pos' (by omega)) c
theorem zl_ixF {ca : Nat → Int64} {x : Int64} {s n : Nat} {r : Int32} (f : r = sp_ix ca x s n 0) (c : 0 ≤ r) : ¬ sp_ix ca x s n 0 = -2 := fun z => by
  rw [f, z] at c; exact absurd c (by decide)
/-- the values of a span, one behind the other: whether all fit, how many there are then, what they are -/
def sp_spl (hi st : Int64) (s : Nat) : Nat → Int64 → Nat → (Nat → Int64) → Int32 × Nat × (Nat → Int64)
  | 0, _, n, ca => (0, n, ca)
  | f + 1, v, n, ca => if sp_ix ca v s n 0 = -2 then (if n = 16 then (0, n, ca) else (if 0 ≤ hi - v ∧ hi - v < st then (1, n + 1, vp_updL ca (s + n) v) else sp_spl hi st s f (v + st) (n + 1) (vp_updL ca (s + n) v))) else (if 0 ≤ hi - v ∧ hi - v < st then (1, n, ca) else sp_spl hi st s f (v + st) n ca)
def sp_spR (lo hi st : Int64) (s n : Nat) (ca : Nat → Int64) : Int32 × Nat × (Nat → Int64) := if lo ≤ hi then sp_spl hi st s 17 lo n ca else (1, n, ca)
section zzSpl
variable {hi st v : Int64} {s f n : Nat} {ca : Nat → Int64}
theorem sp_splF (h : sp_ix ca v s n 0 = -2) (h2 : n = 16) : sp_spl hi st s (f + 1) v n ca = (0, n, ca) := by rw [sp_spl, if_pos h, if_pos h2]
theorem sp_splA1 (h : sp_ix ca v s n 0 = -2) (h2 : ¬ n = 16) (h3 : 0 ≤ hi - v ∧ hi - v < st) : sp_spl hi st s (f + 1) v n ca = (1, n + 1, vp_updL ca (s + n) v) := by rw [sp_spl, if_pos h, if_neg h2, if_pos h3]
theorem sp_splA (h : sp_ix ca v s n 0 = -2) (h2 : ¬ n = 16) (h3 : ¬ (0 ≤ hi - v ∧ hi - v < st)) : sp_spl hi st s (f + 1) v n ca = sp_spl hi st s f (v + st) (n + 1) (vp_updL ca (s + n) v) := by rw [sp_spl, if_pos h, if_neg h2, if_neg h3]
theorem sp_splB1 (h : ¬ sp_ix ca v s n 0 = -2) (h3 : 0 ≤ hi - v ∧ hi - v < st) : sp_spl hi st s (f + 1) v n ca = (1, n, ca) := by rw [sp_spl, if_neg h, if_pos h3]
theorem sp_splB (h : ¬ sp_ix ca v s n 0 = -2) (h3 : ¬ (0 ≤ hi - v ∧ hi - v < st)) : sp_spl hi st s (f + 1) v n ca = sp_spl hi st s f (v + st) n ca := by rw [sp_spl, if_neg h, if_neg h3]
end zzSpl
theorem zl_st1 {w z : Int64} (c : w < 0) : ¬ (0 ≤ w ∧ w < z) := fun q => by
  have q1 := q.1
  rw [Int64.le_iff_toInt_le] at q1; rw [Int64.lt_iff_toInt_lt] at c; omega
theorem zl_st2 {w z : Int64} (c : z ≤ w) : ¬ (0 ≤ w ∧ w < z) := fun q => by
  have q1 := q.2
  rw [Int64.lt_iff_toInt_lt] at q1; rw [Int64.le_iff_toInt_le] at c; omega
theorem zl_st3 {w z : Int64} (c1 : ¬ w < 0) (c2 : ¬ z ≤ w) : 0 ≤ w ∧ w < z := by
  rw [Int64.lt_iff_toInt_lt] at c1; rw [Int64.le_iff_toInt_le] at c2; rw [Int64.le_iff_toInt_le, Int64.lt_iff_toInt_lt]; omega
theorem zl_upE {f g : Nat → Int32} {d : Nat} {x : Int32} (h : g d = x) (h2 : ∀ j, j ≠ d → g j = f j) : g = upd f d x := by
  funext j
  by_cases e : j = d
  · subst e; rw [pk_us, h]
  · rw [pk_un e, h2 j e]
/-- how many ways there are; 5001: more than 5000 -/
def zz_wy (c : Nat → Nat) : Nat → Nat → Nat → Nat
  | 0, _, w => w
  | m + 1, i, w => if 5000 < w * c i then 5001 else zz_wy c m (i + 1) (w * c i)
/-- how many choices a decision has -/
def zz_ch (pn : Nat → Int32) (n z : Nat) : Nat := if n = 0 then 1 else (if pn z = 0 then n else 1)
def zz_cX (pn sl co : Nat → Int32) : Nat → Nat := fun d => zz_ch pn (co d).toNatClampNeg (sl d).toNatClampNeg
theorem zl_wyS {c : Nat → Nat} {m i w : Nat} (h : ¬ 5000 < w * c i) : zz_wy c (m + 1) i w = zz_wy c m (i + 1) (w * c i) := by rw [zz_wy, if_neg h]
theorem zl_wyB {c : Nat → Nat} {m i w : Nat} (h : 5000 < w * c i) : zz_wy c (m + 1) i w = 5001 := by rw [zz_wy, if_pos h]
theorem zl_cX {pn sl co : Nat → Int32} {i n z : Nat} (ec : co i = nI n) (ez : sl i = nI z) (hn : n ≤ 16) (hz : z < 4000) : zz_cX pn sl co i = zz_ch pn n z := by
  show zz_ch pn (co i).toNatClampNeg (sl i).toNatClampNeg = _
  rw [ec, ez, nI_clamp (show n < 2 ^ 31 by omega), nI_clamp (show z < 2 ^ 31 by omega)]
theorem zl_ch1 {pn : Nat → Int32} {n z : Nat} (hn : n ≤ 16) (h : fn_co_isFree pn n z = 0) : zz_ch pn n z = 1 := by
  unfold fn_co_isFree at h
  unfold zz_ch
  by_cases e : n = 0
  · rw [if_pos e]
  · have e' : ¬ nI n ≤ 0 := fun q => e (by
      have q' := (nI_leI (a := n) (b := 0) (by omega) (by decide)).mp q
      omega)
    rw [if_neg e'] at h
    by_cases p : pn z = 0
    · rw [if_pos p] at h; exact absurd h (by decide)
    · rw [if_neg e, if_neg p]
theorem zl_chN {pn : Nat → Int32} {n z : Nat} (hn : n ≤ 16) (h : ¬ fn_co_isFree pn n z = 0) : zz_ch pn n z = n := by
  unfold fn_co_isFree at h
  unfold zz_ch
  by_cases e : n = 0
  · subst e; exact absurd (if_pos (by decide)) h
  · rw [if_neg e]
    by_cases p : pn z = 0
    · rw [if_pos p]
    · exfalso
      apply h
      rw [if_neg p, ite_self]
/-- the elements behind a way, the last decision is the lowest digit -/
def sp_tkw (pn sl co : Nat → Int32) (ca : Nat → Int64) : Nat → Nat → (Nat → Int64) → (Nat → Int64)
  | 0, _, bt => bt
  | K + 1, l, bt => if fn_co_isFree pn (co K).toNatClampNeg (sl K).toNatClampNeg = 0 then sp_tkw pn sl co ca K l bt else sp_tkw pn sl co ca K (l / (co K).toNatClampNeg) (vp_updL bt (sl K).toNatClampNeg (ca (K * 16 + l % (co K).toNatClampNeg)))
/-- a digit of a way -/
def zz_dg (c : Nat → Nat) : Nat → Nat → Nat → Nat
  | 0, _, _ => 0
  | K + 1, l, d => if d = K then l % c K else zz_dg c K (l / c K) d
/-- a decision is free -/
def zz_fr (pn sl co : Nat → Int32) (d : Nat) : Prop := ¬ fn_co_isFree pn (co d).toNatClampNeg (sl d).toNatClampNeg = 0
/-- no two decisions share a slot -/
def zz_SD (nd : Nat) (sl : Nat → Int32) : Prop := ∀ d e, d < nd → e < nd → (sl d).toNatClampNeg = (sl e).toNatClampNeg → d = e
/-- the elements are those that the turns lay -/
def zz_WB (pn sl co : Nat → Int32) (ca : Nat → Int64) (nd : Nat) (bto : Nat → Int64) (tu : Nat → Int32) (bt : Nat → Int64) : Prop := (∀ d, d < nd → zz_fr pn sl co d → bt (sl d).toNatClampNeg = ca (d * 16 + (tu d).toNatClampNeg)) ∧ ∀ j, (∀ d, d < nd → zz_fr pn sl co d → (sl d).toNatClampNeg ≠ j) → bt j = bto j
theorem zl_dgS {c : Nat → Nat} {K l d : Nat} (h : d < K) : zz_dg c (K + 1) l d = zz_dg c K (l / c K) d := by rw [zz_dg, if_neg (by omega)]
theorem zl_dgK {c : Nat → Nat} {K l : Nat} : zz_dg c (K + 1) l K = l % c K := by rw [zz_dg, if_pos rfl]
theorem zz_WB.set {pn sl co : Nat → Int32} {ca : Nat → Int64} {nd D t : Nat} {bto bt : Nat → Int64} {tu : Nat → Int32} (h : zz_WB pn sl co ca nd bto tu bt) (hI : zz_SD nd sl) (hD : D < nd) (hf : zz_fr pn sl co D) (ht : t < 16) : zz_WB pn sl co ca nd bto (upd tu D (nI t)) (vp_updL bt (sl D).toNatClampNeg (ca (D * 16 + t))) := by
  refine ⟨fun d hd hfd => ?_, fun j hj => ?_⟩
  · by_cases e : d = D
    · subst e; rw [pk_uLs, pk_us, nI_clamp (by omega)]
    · rw [pk_uLn (fun z => e (hI d D hd hD z)), pk_un e]; exact h.1 d hd hfd
  · rw [pk_uLn (fun z => hj D hD hf z.symm)]; exact h.2 j hj
theorem zz_WB.un {pn sl co : Nat → Int32} {ca : Nat → Int64} {nd : Nat} {bto bt bt' : Nat → Int64} {tu tu' : Nat → Int32} (h : zz_WB pn sl co ca nd bto tu bt) (h' : zz_WB pn sl co ca nd bto tu' bt') (he : ∀ d, d < nd → zz_fr pn sl co d → tu d = tu' d) : bt = bt' := by
  funext j
  rcases Classical.em (∃ d, d < nd ∧ zz_fr pn sl co d ∧ (sl d).toNatClampNeg = j) with ⟨d, h1, h2, h3⟩ | q
  · rw [← h3, h.1 d h1 h2, h'.1 d h1 h2, he d h1 h2]
  · have z : ∀ d, d < nd → zz_fr pn sl co d → (sl d).toNatClampNeg ≠ j := fun d h1 h2 h3 => q ⟨d, h1, h2, h3⟩
    rw [h.2 j z, h'.2 j z]
theorem zl_tkw {pn sl co : Nat → Int32} {ca : Nat → Int64} {nd : Nat} (hI : zz_SD nd sl) (hn : ∀ d, d < nd → (co d).toNatClampNeg ≤ 16) : ∀ (K l : Nat) (bt : Nat → Int64), K ≤ nd → (∀ d, d < K → zz_fr pn sl co d → sp_tkw pn sl co ca K l bt (sl d).toNatClampNeg = ca (d * 16 + zz_dg (zz_cX pn sl co) K l d)) ∧ ∀ j, (∀ d, d < K → zz_fr pn sl co d → (sl d).toNatClampNeg ≠ j) → sp_tkw pn sl co ca K l bt j = bt j
  | 0, _, _, _ => ⟨fun d h => absurd h (Nat.not_lt_zero d), fun _ _ => rfl⟩
  | K + 1, l, bt, hK => by
    have hc := hn K (by omega)
    rw [sp_tkw]
    by_cases f : fn_co_isFree pn (co K).toNatClampNeg (sl K).toNatClampNeg = 0
    · rw [if_pos f]
      have c1 : zz_cX pn sl co K = 1 := zl_ch1 hc f
      obtain ⟨g1, g2⟩ := zl_tkw hI hn K l bt (by omega)
      refine ⟨fun d hd hf => ?_, fun j hj => g2 j (fun d hd => hj d (by omega))⟩
      have hne : d ≠ K := fun z => hf (z ▸ f)
      rw [g1 d (by omega) hf, zl_dgS (show d < K by omega), c1, Nat.div_one]
    · rw [if_neg f]
      have c1 : zz_cX pn sl co K = (co K).toNatClampNeg := zl_chN hc f
      obtain ⟨g1, g2⟩ := zl_tkw hI hn K (l / (co K).toNatClampNeg) (vp_updL bt (sl K).toNatClampNeg (ca (K * 16 + l % (co K).toNatClampNeg))) (by omega)
      refine ⟨fun d hd hf => ?_, fun j hj => ?_⟩
      · by_cases e : d = K
        · subst e
          rw [g2 _ (fun e he hfe z => absurd (hI e d (by omega) (by omega) z) (by omega)), pk_uLs, zl_dgK, c1]
        · rw [g1 d (by omega) hf, zl_dgS (show d < K by omega), c1]
      · rw [g2 j (fun d hd => hj d (by omega)), pk_uLn (fun z => hj K (Nat.lt_succ_self K) f z.symm)]
theorem zl_dglt {c : Nat → Nat} : ∀ (K l d : Nat), d < K → (∀ e, e < K → 1 ≤ c e ∧ c e ≤ 16) → zz_dg c K l d < 16
  | 0, _, d, h, _ => absurd h (Nat.not_lt_zero d)
  | K + 1, l, d, h, hc => by
    rw [zz_dg]
    by_cases e : d = K
    · rw [if_pos e]
      have := hc K (Nat.lt_succ_self K)
      have := Nat.mod_lt l (show 0 < c K by omega)
      omega
    · rw [if_neg e]; exact zl_dglt K _ d (by omega) (fun e he => hc e (by omega))
theorem zl_cXb {pn sl co : Nat → Int32} {d : Nat} (h : (co d).toNatClampNeg ≤ 16) : 1 ≤ zz_cX pn sl co d ∧ zz_cX pn sl co d ≤ 16 := by
  show 1 ≤ zz_ch pn (co d).toNatClampNeg (sl d).toNatClampNeg ∧ zz_ch pn (co d).toNatClampNeg (sl d).toNatClampNeg ≤ 16
  unfold zz_ch
  by_cases e : (co d).toNatClampNeg = 0
  · rw [if_pos e]; exact ⟨by omega, by omega⟩
  · rw [if_neg e]
    by_cases z : pn (sl d).toNatClampNeg = 0
    · rw [if_pos z]; exact ⟨by omega, h⟩
    · rw [if_neg z]; exact ⟨by omega, by omega⟩
theorem zl_WBt {pn sl co : Nat → Int32} {ca : Nat → Int64} {nd : Nat} (hI : zz_SD nd sl) (hn : ∀ d, d < nd → (co d).toNatClampNeg ≤ 16) (w : Nat) (bt : Nat → Int64) : zz_WB pn sl co ca nd bt (fun d => nI (zz_dg (zz_cX pn sl co) nd w d)) (sp_tkw pn sl co ca nd w bt) := by
  obtain ⟨g1, g2⟩ := zl_tkw (pn := pn) (ca := ca) hI hn nd w bt (Nat.le_refl _)
  refine ⟨fun d hd hf => ?_, g2⟩
  have hl := zl_dglt (c := zz_cX pn sl co) nd w d hd (fun e he => zl_cXb (hn e he))
  rw [g1 d hd hf]
  show _ = ca (d * 16 + (nI (zz_dg (zz_cX pn sl co) nd w d)).toNatClampNeg)
  rw [nI_clamp (by omega)]
/-- a way laid over another one -/
theorem zl_tkk {pn sl co : Nat → Int32} {ca : Nat → Int64} {nd : Nat} (hI : zz_SD nd sl) (hn : ∀ d, d < nd → (co d).toNatClampNeg ≤ 16) (w v : Nat) (bt : Nat → Int64) : sp_tkw pn sl co ca nd w (sp_tkw pn sl co ca nd v bt) = sp_tkw pn sl co ca nd w bt := by
  have h1 := zl_WBt (pn := pn) (ca := ca) hI hn w (sp_tkw pn sl co ca nd v bt)
  have h2 := zl_WBt (pn := pn) (ca := ca) hI hn w bt
  have h3 := zl_WBt (pn := pn) (ca := ca) hI hn v bt
  exact zz_WB.un ⟨h1.1, fun j hj => (h1.2 j hj).trans (h3.2 j hj)⟩ h2 (fun _ _ _ => rfl)
theorem zl_cXe {sl co : Nat → Int32} {D n z : Nat} (ec : co D = nI n) (ez : sl D = nI z) (hn : n ≤ 16) (hz : z < 4000) : (co D).toNatClampNeg = n ∧ (sl D).toNatClampNeg = z := by
  rw [ec, ez]; exact ⟨nI_clamp (by omega), nI_clamp (by omega)⟩
/-- rules are of the six sorts -/
def zz_SO (nr : Nat) (so : Nat → Int32) : Prop := ∀ r, r < nr → ∃ k : Nat, k ≤ 5 ∧ so r = nI k
/-- arrays lie one behind the other -/
def zz_DJ (na : Nat) (sa ln : Nat → Int32) : Prop := ∀ a b sz lz sz' : Nat, a < b → b < na → sa a = nI sz → ln a = nI lz → sa b = nI sz' → sz ≤ 4000 → lz ≤ 200 → sz' ≤ 4000 → sz + lz ≤ sz'
theorem zl_aliC {k : Int32} {x : Int64} {bt bt' : Nat → Int64} : ∀ (m i : Nat) (w : Int64), (∀ j, i ≤ j → j < i + m → bt j = bt' j) → sp_ali k x bt m i w = sp_ali k x bt' m i w
  | 0, _, _, _ => rfl
  | m + 1, i, w, h => by rw [sp_ali, sp_ali, h i (Nat.le_refl _) (by omega), zl_aliC m (i + 1) _ (fun j h1 h2 => h j (by omega) (by omega))]
theorem zl_shC {so : Nat → Int32} {lo : Nat → Int64} {kd : Nat → Int32} {bt bt' : Nat → Int64} {d a sz i lz : Nat} (hi : i < lz) (hl : lz ≤ 200) (h : ∀ j, sz ≤ j → j < sz + lz → bt j = bt' j) : fn_co_shareOf so lo kd bt d a sz i = fn_co_shareOf so lo kd bt' d a sz i := by
  unfold fn_co_shareOf
  have e1 := h (sz + i) (by omega) (by omega)
  have e3 : sp_ali (kd a) (bt' (sz + i)) bt ((sz + i) - sz) sz 0 = sp_ali (kd a) (bt' (sz + i)) bt' ((sz + i) - sz) sz 0 := zl_aliC _ _ _ (fun j h1 h2 => h j h1 (by omega))
  rw [e1, e3]
  by_cases c : nI i ≤ 0
  · rw [if_pos c, if_pos c]
  · have c' : ¬ i ≤ 0 := fun z => c ((nI_leI (b := 0) (by omega) (by decide)).mpr z)
    rw [if_neg c, if_neg c, h (sz + i - 1) (by omega) (by omega)]
theorem zl_meC {so : Nat → Int32} {lo : Nat → Int64} {kd : Nat → Int32} {bt bt' : Nat → Int64} {d a sz lz : Nat} (hl : lz ≤ 200) (h : ∀ j, sz ≤ j → j < sz + lz → bt j = bt' j) : ∀ (m i : Nat) (w : Int64), i + m ≤ lz → sp_me so lo kd bt d a sz m i w = sp_me so lo kd bt' d a sz m i w
  | 0, _, _, _ => rfl
  | m + 1, i, w, hm => by rw [sp_me, sp_me, zl_shC (show i < lz by omega) hl h, zl_meC hl h m (i + 1) _ (by omega)]
/-- tallies behind a change -/
theorem zl_meR {na nr b q sz lz : Nat} {so ju sa ln : Nat → Int32} {lo : Nat → Int64} {kd : Nat → Int32} {bt ta ta2 : Nat → Int64} {x : Int64} (hR : zz_RI na nr ju sa ln) (hO : zz_SO nr so) (hJ : zz_DJ na sa ln) (hb : b < na) (hb6 : b < 60) (es : sa b = nI sz) (el : ln b = nI lz) (h1 : sz + lz ≤ 4000) (h2 : lz ≤ 200) (hq : q < lz) (h : ∀ r, r < nr → ta r = zz_me so lo kd bt ju sa ln r) (f : ∀ j, ta2 j = if j < nr ∧ ju j = nI b then zz_ad so lo kd bt (vp_updL bt (sz + q) x) ta b sz lz q j else ta j) : ∀ r, r < nr → ta2 r = zz_me so lo kd (vp_updL bt (sz + q) x) ju sa ln r := fun r hr => by
  obtain ⟨a, sz', lz', e1, e2, e3, e4, e5, e6, e7⟩ := hR.2 r hr
  rw [f r]
  have e := h r hr
  rw [← zl_meE e1 e4 e5 e3 (by omega) e7] at e ⊢
  by_cases c : ju r = nI b
  · rw [if_pos ⟨hr, c⟩]
    have ea : a = b := (nI_eq (by omega) (by omega)).mp (e1.symm.trans c)
    subst ea
    have es' : sz' = sz := (nI_eq (by omega) (by omega)).mp (e4.symm.trans es)
    have el' : lz' = lz := (nI_eq (by omega) (by omega)).mp (e5.symm.trans el)
    subst es' el'
    exact zl_repl (hO r hr) hq h1 e
  · rw [if_neg (fun z => c z.2), e]
    have ne : a ≠ b := fun z => c (z ▸ e1)
    refine zl_meC e7 (fun j h3 h4 => (pk_uLn ?_).symm) _ _ _ (by omega)
    rcases Nat.lt_or_ge a b with z | z
    · have := hJ a b sz' lz' sz z hb e4 e5 es (by omega) e7 (by omega)
      omega
    · have := hJ b a sz lz sz' (by omega) e2 es el e4 (by omega) h2 (by omega)
      omega
theorem zl_totC {so we : Nat → Int32} {lo hi ta ta' : Nat → Int64} {nr : Nat} (h : ∀ r, r < nr → ta r = ta' r) : ∀ (m i : Nat) (w : Int64), i + m ≤ nr → sp_tot so we lo hi ta m i w = sp_tot so we lo hi ta' m i w
  | 0, _, _, _ => rfl
  | m + 1, i, w, hm => by
    have e : fn_co_amountOf so lo hi ta i = fn_co_amountOf so lo hi ta' i := by
      unfold fn_co_amountOf
      rw [h i (by omega)]
    rw [sp_tot, sp_tot, e, zl_totC h m (i + 1) _ (by omega)]
/-- the score of a way -/
def zz_sc (so we ju : Nat → Int32) (lo hi : Nat → Int64) (kd sa ln : Nat → Int32) (nr : Nat) (bt : Nat → Int64) : Int64 := sp_tot so we lo hi (fun r => zz_me so lo kd bt ju sa ln r) nr 0 0
/-- the first of the least ones, of 0 .. m -/
def zz_ar (S : Nat → Int64) : Nat → Nat × Int64
  | 0 => (0, S 0)
  | m + 1 => if S (m + 1) < (zz_ar S m).2 then (m + 1, S (m + 1)) else zz_ar S m
theorem zl_K0 {lev : Int32} {L : Nat} (h0 : lev = nI L + (-1)) (hL : L ≤ 100) (h : lev < 0) : L = 0 := by
  cases L with
  | zero => rfl
  | succ K =>
    rw [h0, pk_m1] at h
    exact absurd h (nI_pos (by omega))
/-- the next way's digits: one decision goes on by one, or turns over -/
theorem zl_nx1 {w n : Nat} (hn : 0 < n) (h : w % n + 1 < n) : (w + 1) % n = w % n + 1 ∧ (w + 1) / n = w / n := by
  have e := Nat.div_add_mod w n
  generalize w / n = u at *
  generalize w % n = v at *
  subst e
  rw [Nat.add_assoc, Nat.mul_add_mod, Nat.mod_eq_of_lt h, Nat.mul_add_div hn, Nat.div_eq_of_lt h, Nat.add_zero]
  exact ⟨rfl, rfl⟩
theorem zl_nx2 {w n : Nat} (hn : 0 < n) (h : n ≤ w % n + 1) : (w + 1) % n = 0 ∧ (w + 1) / n = w / n + 1 := by
  have e := Nat.div_add_mod w n
  have hm := Nat.mod_lt w hn
  have e2 : w + 1 = n * (w / n + 1) := by rw [Nat.mul_add, Nat.mul_one]; omega
  rw [e2]
  exact ⟨Nat.mul_mod_right _ _, Nat.mul_div_cancel_left _ hn⟩
theorem zl_c16 {na nd : Nat} {sa ln pl sl co : Nat → Int32} (h : zz_CI na nd sa ln pl sl co) : ∀ d, d < nd → (co d).toNatClampNeg ≤ 16 := fun d hd => by
  obtain ⟨b, q, sz, lz, n, e1, e2, e3, e4, e5, e6, e7, e8, e9, e10, e11⟩ := h.2 d hd
  rw [e10, nI_clamp (by omega)]; exact e11
theorem zl_WBe {pn sl co : Nat → Int32} {ca : Nat → Int64} {nd w : Nat} {bto bt : Nat → Int64} {tu : Nat → Int32} (hI : zz_SD nd sl) (hn : ∀ d, d < nd → (co d).toNatClampNeg ≤ 16) (h : ∀ d, d < nd → zz_fr pn sl co d → tu d = nI (zz_dg (zz_cX pn sl co) nd w d)) (hw : zz_WB pn sl co ca nd bto tu bt) : bt = sp_tkw pn sl co ca nd w bto := zz_WB.un hw (zl_WBt hI hn w bto) h
theorem zl_WBi {pn sl co : Nat → Int32} {ca : Nat → Int64} {nd w : Nat} {bto bt : Nat → Int64} {tu : Nat → Int32} (hI : zz_SD nd sl) (hn : ∀ d, d < nd → (co d).toNatClampNeg ≤ 16) (h : ∀ d, d < nd → zz_fr pn sl co d → tu d = nI (zz_dg (zz_cX pn sl co) nd w d)) (hw : bt = sp_tkw pn sl co ca nd w bto) : zz_WB pn sl co ca nd bto tu bt := by
  have g := zl_WBt (pn := pn) (ca := ca) hI hn w bto
  rw [← hw] at g
  exact ⟨fun d hd hf => by rw [g.1 d hd hf, h d hd hf], g.2⟩
theorem zl_arl (S : Nat → Int64) : ∀ m, (zz_ar S m).1 ≤ m
  | 0 => Nat.le_refl _
  | m + 1 => by
    rw [zz_ar]
    by_cases c : S (m + 1) < (zz_ar S m).2
    · rw [if_pos c]; exact Nat.le_refl _
    · rw [if_neg c]; have := zl_arl S m; omega
def sp_hc (nd : Nat) (co : Nat → Int32) (k j : Int32) : Int32 := if fn_co_chas (nI nd) k = 0 then 0 else if j < 0 then 0 else if co k.toNatClampNeg ≤ j then 0 else 1
theorem dg_X0_hasCandidate_0 : (decode cX0_hasCandidate 0 = .ok (.aload_n 0, 1)) ∧ (decode cX0_hasCandidate 1 = .ok (.iload_n 1, 1)) ∧ (decode cX0_hasCandidate 2 = .ok (.invokevirtual 36, 3)) ∧ (decode cX0_hasCandidate 5 = .ok (.ifCond .eq 21, 3)) ∧ (decode cX0_hasCandidate 8 = .ok (.iload_n 2, 1)) ∧ (decode cX0_hasCandidate 9 = .ok (.ifCond .lt 17, 3)) ∧ (decode cX0_hasCandidate 12 = .ok (.iload_n 2, 1)) ∧ (decode cX0_hasCandidate 13 = .ok (.aload_n 0, 1)) ∧ (decode cX0_hasCandidate 14 = .ok (.getfield 18, 3)) ∧ (decode cX0_hasCandidate 17 = .ok (.iload_n 1, 1)) ∧ (decode cX0_hasCandidate 18 = .ok (.iaload, 1)) ∧ (decode cX0_hasCandidate 19 = .ok (.if_icmp .ge 7, 3)) ∧ (decode cX0_hasCandidate 22 = .ok (.iconst 1, 1)) ∧ (decode cX0_hasCandidate 23 = .ok (.goto 4, 3)) ∧ (decode cX0_hasCandidate 26 = .ok (.iconst 0, 1)) ∧ (decode cX0_hasCandidate 27 = .ok (.ireturn, 1)) := by decide +kernel
theorem dX0_hasCandidate_0 : decode cX0_hasCandidate 0 = .ok (.aload_n 0, 1) := dg_X0_hasCandidate_0.1
theorem dX0_hasCandidate_1 : decode cX0_hasCandidate 1 = .ok (.iload_n 1, 1) := dg_X0_hasCandidate_0.2.1
theorem dX0_hasCandidate_2 : decode cX0_hasCandidate 2 = .ok (.invokevirtual 36, 3) := dg_X0_hasCandidate_0.2.2.1
theorem dX0_hasCandidate_5 : decode cX0_hasCandidate 5 = .ok (.ifCond .eq 21, 3) := dg_X0_hasCandidate_0.2.2.2.1
theorem dX0_hasCandidate_8 : decode cX0_hasCandidate 8 = .ok (.iload_n 2, 1) := dg_X0_hasCandidate_0.2.2.2.2.1
theorem dX0_hasCandidate_9 : decode cX0_hasCandidate 9 = .ok (.ifCond .lt 17, 3) := dg_X0_hasCandidate_0.2.2.2.2.2.1
theorem dX0_hasCandidate_12 : decode cX0_hasCandidate 12 = .ok (.iload_n 2, 1) := dg_X0_hasCandidate_0.2.2.2.2.2.2.1
theorem dX0_hasCandidate_13 : decode cX0_hasCandidate 13 = .ok (.aload_n 0, 1) := dg_X0_hasCandidate_0.2.2.2.2.2.2.2.1
theorem dX0_hasCandidate_14 : decode cX0_hasCandidate 14 = .ok (.getfield 18, 3) := dg_X0_hasCandidate_0.2.2.2.2.2.2.2.2.1
theorem dX0_hasCandidate_17 : decode cX0_hasCandidate 17 = .ok (.iload_n 1, 1) := dg_X0_hasCandidate_0.2.2.2.2.2.2.2.2.2.1
theorem dX0_hasCandidate_18 : decode cX0_hasCandidate 18 = .ok (.iaload, 1) := dg_X0_hasCandidate_0.2.2.2.2.2.2.2.2.2.2.1
theorem dX0_hasCandidate_19 : decode cX0_hasCandidate 19 = .ok (.if_icmp .ge 7, 3) := dg_X0_hasCandidate_0.2.2.2.2.2.2.2.2.2.2.2.1
theorem dX0_hasCandidate_22 : decode cX0_hasCandidate 22 = .ok (.iconst 1, 1) := dg_X0_hasCandidate_0.2.2.2.2.2.2.2.2.2.2.2.2.1
theorem dX0_hasCandidate_23 : decode cX0_hasCandidate 23 = .ok (.goto 4, 3) := dg_X0_hasCandidate_0.2.2.2.2.2.2.2.2.2.2.2.2.2.1
theorem dX0_hasCandidate_26 : decode cX0_hasCandidate 26 = .ok (.iconst 0, 1) := dg_X0_hasCandidate_0.2.2.2.2.2.2.2.2.2.2.2.2.2.2.1
theorem dX0_hasCandidate_27 : decode cX0_hasCandidate 27 = .ok (.ireturn, 1) := dg_X0_hasCandidate_0.2.2.2.2.2.2.2.2.2.2.2.2.2.2.2
theorem zk_590 : Cond.methodLink RX0 36 yX0_has ∈ zz_w := zz_in (List.mem_append_right _ (List.mem_append_right _ (List.mem_append_right _ (List.mem_append_left _ (List.mem_of_getElem? (i := 110) (by decide +kernel)))))) rfl
set_option maxRecDepth 20000 in
theorem zk_549 : Cond.code yX0_has cX0_has 2 (some .boolean) ∈ zz_w := zz_in (List.mem_append_right _ (List.mem_append_right _ (List.mem_append_right _ (List.mem_append_left _ (List.mem_of_getElem? (i := 69) (rfl)))))) rfl
theorem zk_547 : Cond.instanceMethod yX0_has ∈ zz_w := zz_in (List.mem_append_right _ (List.mem_append_right _ (List.mem_append_right _ (List.mem_append_left _ (List.mem_of_getElem? (i := 67) (by decide +kernel)))))) rfl
theorem zk_548 : Cond.selects RX0 yX0_has yX0_has ∈ zz_w := zz_in (List.mem_append_right _ (List.mem_append_right _ (List.mem_append_right _ (List.mem_append_left _ (List.mem_of_getElem? (i := 68) (by decide +kernel)))))) rfl
theorem zc_X0_36 : zz_cV RX0 36 yX0_has cX0_has 2 (some .boolean) 1 := ⟨⟨zk_590, zk_549, zk_5, by decide, by decide, by decide +kernel⟩, zk_547, zk_548⟩
abbrev rm_co_hasCand : Room := { frames := 1, cells := 0, slots := 0, locals := 21 }
abbrev po_co_hasCand (g : zz_G) (ch : Nat) (st : Nat) (c_pl : Nat) (c_sl : Nat) (c_co : Nat) (c_ca : Nat) (c_tu : Nat) (nd : Nat) (na : Nat) (nu : Nat) (plf : Nat → Int32) (slf : Nat → Int32) (cof : Nat → Int32) (saf : Nat → Int32) (lnf : Nat → Int32) (k : Int32) (j : Int32) (h_C : zz_CI na nd saf lnf plf slf cof) : Int32 → va_W → Prop := fun (r : Int32) (u : va_W) => (r = 0 ∨ ∃ d c2 n : Nat, k = nI d ∧ d < nd ∧ cof d = nI n ∧ n ≤ 16 ∧ j = nI c2 ∧ c2 < n) ∧ (r = sp_hc nd cof k j) ∧ u = [cw_k0 ch st (nI nd) c_pl c_sl c_co c_ca c_tu, cw_i g c_co 24 cof]
set_option maxHeartbeats 4000000 in
set_option maxRecDepth 100000 in
theorem co_hasCand (g : zz_G) (ch : Nat) (st : Nat) (c_pl : Nat) (c_sl : Nat) (c_co : Nat) (c_ca : Nat) (c_tu : Nat) (nd : Nat) (na : Nat) (nu : Nat) (plf : Nat → Int32) (slf : Nat → Int32) (cof : Nat → Int32) (saf : Nat → Int32) (lnf : Nat → Int32) (k : Int32) (j : Int32) (h_C : zz_CI na nd saf lnf plf slf cof) : zz_I g yX0_hasCandidate (.code yX0_hasCandidate cX0_hasCandidate 3 (some .boolean)) rm_co_hasCand [.ref ch, .int k, .int j] [cw_k0 ch st (nI nd) c_pl c_sl c_co c_ca c_tu, cw_i g c_co 24 cof] (po_co_hasCand g ch st c_pl c_sl c_co c_ca c_tu nd na nu plf slf cof saf lnf k j h_C) := by
  refine zz_I.intro (own := RX0) (cc := cX0_hasCandidate) (nL := 3) (by decide) rfl (Nat.le_of_ble_eq_true rfl) ?_
  intro p l e s m args below meth c A H locs ls hC hnm hs hZ hl
  obtain ⟨hx, hb, hml, hown, hts, hr, hlocks, hK⟩ := id hC
  have hl : lv_has ls 3 [(0, .ref ch), (1, .int k), (2, .int j)] := hl
  have hZ : zz_Z g A s.heap [cw_k0 ch st (nI nd) c_pl c_sl c_co c_ca c_tu, cw_i g c_co 24 cof] H locs := hZ
  have hd24 := h_C.1
  refine lv_aload_n hx hb dX0_hasCandidate_0 rfl (lv_at hl 0 rfl) ?_
  refine lv_iload_n hx hb dX0_hasCandidate_1 rfl (lv_at hl 1 rfl) ?_
  refine zz_iV (As := [.int k]) (wc := [cw_k0 ch st (nI nd) c_pl c_sl c_co c_ca c_tu]) (wr := [cw_i g c_co 24 cof]) (rest := []) hC hZ hs hl zc_X0_36 (co_chas g ch st c_pl c_sl c_co c_ca c_tu (nI nd) k) [0] [1] rfl rfl (by decide +kernel) (ci := 0) (q0 := 0) rfl rfl rfl rfl (Nat.le_of_ble_eq_true rfl) ⟨⟨Nat.le_of_ble_eq_true rfl, Nat.le_of_ble_eq_true rfl⟩, Nat.le_of_ble_eq_true rfl, Nat.le_of_ble_eq_true rfl⟩ dX0_hasCandidate_2 (fun r1 u2 H locs hp hZ => ?_)
  obtain ⟨rfl, rfl⟩ := hp
  have hZ : zz_Z g A s.heap [cw_i g c_co 24 cof, cw_k0 ch st (nI nd) c_pl c_sl c_co c_ca c_tu] H locs := hZ
  refine lv_if_eq (tgt := 26) hx hb dX0_hasCandidate_5 (by decide) (fun c3 => ?_) (fun c3 => ?_)
  · refine lv_iconst (v := 0) hx hb dX0_hasCandidate_26 (by decide) ?_
    have hZ : zz_Z g A s.heap [cw_k0 ch st (nI nd) c_pl c_sl c_co c_ca c_tu, cw_i g c_co 24 cof] H locs := hZ.sub [1, 0] (by decide +kernel) rfl
    exact zz_zret hC hZ (by decide) (⟨Or.inl rfl, by rw [sp_hc, if_pos c3], rfl⟩) (Nat.le_of_ble_eq_true rfl) (Nat.le_of_ble_eq_true rfl) dX0_hasCandidate_27
  · obtain ⟨d, hd, ed⟩ := zl_chas (by omega) c3
    have hl : lv_has ls 3 [(0, .ref ch), (1, .int (nI d)), (2, .int j)] := by rw [← ed]; exact hl
    obtain ⟨b, q, sz, lz, n, e_p, hbn, hb6, e_s, e_l, hb1, hb2, hq, e_z, e_c, hn⟩ := h_C.2 d hd
    refine lv_iload_n hx hb dX0_hasCandidate_8 rfl (lv_at hl 2 rfl) ?_
    refine lv_if_lt (tgt := 26) hx hb dX0_hasCandidate_9 (by decide) (fun c4 => ?_) (fun c4 => ?_)
    · refine lv_iconst (v := 0) hx hb dX0_hasCandidate_26 (by decide) ?_
      have hZ : zz_Z g A s.heap [cw_k0 ch st (nI nd) c_pl c_sl c_co c_ca c_tu, cw_i g c_co 24 cof] H locs := hZ.sub [1, 0] (by decide +kernel) rfl
      exact zz_zret hC hZ (by decide) (⟨Or.inl rfl, by rw [sp_hc, if_neg c3, if_pos c4], rfl⟩) (Nat.le_of_ble_eq_true rfl) (Nat.le_of_ble_eq_true rfl) dX0_hasCandidate_27
    · refine lv_iload_n hx hb dX0_hasCandidate_12 rfl (lv_at hl 2 rfl) ?_
      refine lv_aload_n hx hb dX0_hasCandidate_13 rfl (lv_at hl 0 rfl) ?_
      refine zz_get hC hZ 1 rfl zf_X0_18 rfl dX0_hasCandidate_14 ?_
      refine lv_iload_n hx hb dX0_hasCandidate_17 rfl (lv_at hl 1 rfl) ?_
      have bd5 : d < 24 := by omega
      refine zz_ialdn hC hZ 0 rfl bd5 (by decide) dX0_hasCandidate_18 ?_
      refine zz_topi (v := nI n) (e_c) ?_
      refine lv_icmp_ge (tgt := 26) hx hb dX0_hasCandidate_19 (by decide) (fun c6 => ?_) (fun c6 => ?_)
      · refine lv_iconst (v := 0) hx hb dX0_hasCandidate_26 (by decide) ?_
        have hZ : zz_Z g A s.heap [cw_k0 ch st (nI nd) c_pl c_sl c_co c_ca c_tu, cw_i g c_co 24 cof] H locs := hZ.sub [1, 0] (by decide +kernel) rfl
        exact zz_zret hC hZ (by decide) (⟨Or.inl rfl, by rw [sp_hc, if_neg c3, if_neg c4, show k.toNatClampNeg = d by rw [ed]; exact nI_clamp (by omega), e_c, if_pos c6], rfl⟩) (Nat.le_of_ble_eq_true rfl) (Nat.le_of_ble_eq_true rfl) dX0_hasCandidate_27
      · have c6o := c6
        obtain ⟨c2, ec2, hc2⟩ : ∃ c2 : Nat, j = nI c2 ∧ c2 < n := by
          obtain ⟨c2, hc2, ec2⟩ := nI_of c4
          refine ⟨c2, ec2, ?_⟩
          rw [ec2] at c6
          exact Nat.not_le.mp fun z => c6 ((nI_leI (by omega) hc2).mpr z)
        refine lv_iconst (v := 1) hx hb dX0_hasCandidate_22 (by decide) ?_
        refine lv_goto (tgt := 27) hx hb dX0_hasCandidate_23 (by decide) ?_
        have hZ : zz_Z g A s.heap [cw_k0 ch st (nI nd) c_pl c_sl c_co c_ca c_tu, cw_i g c_co 24 cof] H locs := hZ.sub [1, 0] (by decide +kernel) rfl
        exact zz_zret hC hZ (by decide) (⟨Or.inr ⟨d, c2, n, ed, hd, e_c, hn, ec2, hc2⟩, by rw [sp_hc, if_neg c3, if_neg c4, show k.toNatClampNeg = d by rw [ed]; exact nI_clamp (by omega), e_c, if_neg c6o], rfl⟩) (Nat.le_of_ble_eq_true rfl) (Nat.le_of_ble_eq_true rfl) dX0_hasCandidate_27
theorem dg_X0_appendSpan_0 : (decode cX0_appendSpan 0 = .ok (.lload_n 2, 1)) ∧ (decode cX0_appendSpan 1 = .ok (.lload 4, 2)) ∧ (decode cX0_appendSpan 3 = .ok (.lcmp, 1)) ∧ (decode cX0_appendSpan 4 = .ok (.ifCond .le 5, 3)) ∧ (decode cX0_appendSpan 7 = .ok (.iconst 1, 1)) ∧ (decode cX0_appendSpan 8 = .ok (.ireturn, 1)) ∧ (decode cX0_appendSpan 9 = .ok (.lload_n 2, 1)) ∧ (decode cX0_appendSpan 10 = .ok (.lstore 8, 2)) ∧ (decode cX0_appendSpan 12 = .ok (.iconst 0, 1)) ∧ (decode cX0_appendSpan 13 = .ok (.istore 10, 2)) ∧ (decode cX0_appendSpan 15 = .ok (.iload 10, 2)) ∧ (decode cX0_appendSpan 17 = .ok (.bipush 16, 2)) ∧ (decode cX0_appendSpan 19 = .ok (.if_icmp .gt 70, 3)) ∧ (decode cX0_appendSpan 22 = .ok (.aload_n 0, 1)) ∧ (decode cX0_appendSpan 23 = .ok (.iload_n 1, 1)) ∧ (decode cX0_appendSpan 24 = .ok (.lload 8, 2)) := by decide +kernel
theorem dX0_appendSpan_0 : decode cX0_appendSpan 0 = .ok (.lload_n 2, 1) := dg_X0_appendSpan_0.1
theorem dX0_appendSpan_1 : decode cX0_appendSpan 1 = .ok (.lload 4, 2) := dg_X0_appendSpan_0.2.1
theorem dX0_appendSpan_3 : decode cX0_appendSpan 3 = .ok (.lcmp, 1) := dg_X0_appendSpan_0.2.2.1
theorem dX0_appendSpan_4 : decode cX0_appendSpan 4 = .ok (.ifCond .le 5, 3) := dg_X0_appendSpan_0.2.2.2.1
theorem dX0_appendSpan_7 : decode cX0_appendSpan 7 = .ok (.iconst 1, 1) := dg_X0_appendSpan_0.2.2.2.2.1
theorem dX0_appendSpan_8 : decode cX0_appendSpan 8 = .ok (.ireturn, 1) := dg_X0_appendSpan_0.2.2.2.2.2.1
theorem dX0_appendSpan_9 : decode cX0_appendSpan 9 = .ok (.lload_n 2, 1) := dg_X0_appendSpan_0.2.2.2.2.2.2.1
theorem dX0_appendSpan_10 : decode cX0_appendSpan 10 = .ok (.lstore 8, 2) := dg_X0_appendSpan_0.2.2.2.2.2.2.2.1
theorem dX0_appendSpan_12 : decode cX0_appendSpan 12 = .ok (.iconst 0, 1) := dg_X0_appendSpan_0.2.2.2.2.2.2.2.2.1
theorem dX0_appendSpan_13 : decode cX0_appendSpan 13 = .ok (.istore 10, 2) := dg_X0_appendSpan_0.2.2.2.2.2.2.2.2.2.1
theorem dX0_appendSpan_15 : decode cX0_appendSpan 15 = .ok (.iload 10, 2) := dg_X0_appendSpan_0.2.2.2.2.2.2.2.2.2.2.1
theorem dX0_appendSpan_17 : decode cX0_appendSpan 17 = .ok (.bipush 16, 2) := dg_X0_appendSpan_0.2.2.2.2.2.2.2.2.2.2.2.1
theorem dX0_appendSpan_19 : decode cX0_appendSpan 19 = .ok (.if_icmp .gt 70, 3) := dg_X0_appendSpan_0.2.2.2.2.2.2.2.2.2.2.2.2.1
theorem dX0_appendSpan_22 : decode cX0_appendSpan 22 = .ok (.aload_n 0, 1) := dg_X0_appendSpan_0.2.2.2.2.2.2.2.2.2.2.2.2.2.1
theorem dX0_appendSpan_23 : decode cX0_appendSpan 23 = .ok (.iload_n 1, 1) := dg_X0_appendSpan_0.2.2.2.2.2.2.2.2.2.2.2.2.2.2.1
theorem dX0_appendSpan_24 : decode cX0_appendSpan 24 = .ok (.lload 8, 2) := dg_X0_appendSpan_0.2.2.2.2.2.2.2.2.2.2.2.2.2.2.2
theorem dg_X0_appendSpan_26 : (decode cX0_appendSpan 26 = .ok (.invokevirtual 56, 3)) ∧ (decode cX0_appendSpan 29 = .ok (.ifCond .ge 23, 3)) ∧ (decode cX0_appendSpan 32 = .ok (.aload_n 0, 1)) ∧ (decode cX0_appendSpan 33 = .ok (.getfield 18, 3)) ∧ (decode cX0_appendSpan 36 = .ok (.iload_n 1, 1)) ∧ (decode cX0_appendSpan 37 = .ok (.iaload, 1)) ∧ (decode cX0_appendSpan 38 = .ok (.bipush 16, 2)) ∧ (decode cX0_appendSpan 40 = .ok (.if_icmp .lt 5, 3)) ∧ (decode cX0_appendSpan 43 = .ok (.iconst 0, 1)) ∧ (decode cX0_appendSpan 44 = .ok (.ireturn, 1)) ∧ (decode cX0_appendSpan 45 = .ok (.aload_n 0, 1)) ∧ (decode cX0_appendSpan 46 = .ok (.iload_n 1, 1)) ∧ (decode cX0_appendSpan 47 = .ok (.lload 8, 2)) ∧ (decode cX0_appendSpan 49 = .ok (.invokevirtual 60, 3)) ∧ (decode cX0_appendSpan 52 = .ok (.lload 4, 2)) ∧ (decode cX0_appendSpan 54 = .ok (.lload 8, 2)) := by decide +kernel
theorem dX0_appendSpan_26 : decode cX0_appendSpan 26 = .ok (.invokevirtual 56, 3) := dg_X0_appendSpan_26.1
theorem dX0_appendSpan_29 : decode cX0_appendSpan 29 = .ok (.ifCond .ge 23, 3) := dg_X0_appendSpan_26.2.1
theorem dX0_appendSpan_32 : decode cX0_appendSpan 32 = .ok (.aload_n 0, 1) := dg_X0_appendSpan_26.2.2.1
theorem dX0_appendSpan_33 : decode cX0_appendSpan 33 = .ok (.getfield 18, 3) := dg_X0_appendSpan_26.2.2.2.1
theorem dX0_appendSpan_36 : decode cX0_appendSpan 36 = .ok (.iload_n 1, 1) := dg_X0_appendSpan_26.2.2.2.2.1
theorem dX0_appendSpan_37 : decode cX0_appendSpan 37 = .ok (.iaload, 1) := dg_X0_appendSpan_26.2.2.2.2.2.1
theorem dX0_appendSpan_38 : decode cX0_appendSpan 38 = .ok (.bipush 16, 2) := dg_X0_appendSpan_26.2.2.2.2.2.2.1
theorem dX0_appendSpan_40 : decode cX0_appendSpan 40 = .ok (.if_icmp .lt 5, 3) := dg_X0_appendSpan_26.2.2.2.2.2.2.2.1
theorem dX0_appendSpan_43 : decode cX0_appendSpan 43 = .ok (.iconst 0, 1) := dg_X0_appendSpan_26.2.2.2.2.2.2.2.2.1
theorem dX0_appendSpan_44 : decode cX0_appendSpan 44 = .ok (.ireturn, 1) := dg_X0_appendSpan_26.2.2.2.2.2.2.2.2.2.1
theorem dX0_appendSpan_45 : decode cX0_appendSpan 45 = .ok (.aload_n 0, 1) := dg_X0_appendSpan_26.2.2.2.2.2.2.2.2.2.2.1
theorem dX0_appendSpan_46 : decode cX0_appendSpan 46 = .ok (.iload_n 1, 1) := dg_X0_appendSpan_26.2.2.2.2.2.2.2.2.2.2.2.1
theorem dX0_appendSpan_47 : decode cX0_appendSpan 47 = .ok (.lload 8, 2) := dg_X0_appendSpan_26.2.2.2.2.2.2.2.2.2.2.2.2.1
theorem dX0_appendSpan_49 : decode cX0_appendSpan 49 = .ok (.invokevirtual 60, 3) := dg_X0_appendSpan_26.2.2.2.2.2.2.2.2.2.2.2.2.2.1
theorem dX0_appendSpan_52 : decode cX0_appendSpan 52 = .ok (.lload 4, 2) := dg_X0_appendSpan_26.2.2.2.2.2.2.2.2.2.2.2.2.2.2.1
theorem dX0_appendSpan_54 : decode cX0_appendSpan 54 = .ok (.lload 8, 2) := dg_X0_appendSpan_26.2.2.2.2.2.2.2.2.2.2.2.2.2.2.2
theorem dg_X0_appendSpan_56 : (decode cX0_appendSpan 56 = .ok (.lsub, 1)) ∧ (decode cX0_appendSpan 57 = .ok (.lstore 11, 2)) ∧ (decode cX0_appendSpan 59 = .ok (.lload 11, 2)) ∧ (decode cX0_appendSpan 61 = .ok (.lconst 0, 1)) ∧ (decode cX0_appendSpan 62 = .ok (.lcmp, 1)) ∧ (decode cX0_appendSpan 63 = .ok (.ifCond .lt 13, 3)) ∧ (decode cX0_appendSpan 66 = .ok (.lload 11, 2)) ∧ (decode cX0_appendSpan 68 = .ok (.lload 6, 2)) ∧ (decode cX0_appendSpan 70 = .ok (.lcmp, 1)) ∧ (decode cX0_appendSpan 71 = .ok (.ifCond .ge 5, 3)) ∧ (decode cX0_appendSpan 74 = .ok (.iconst 1, 1)) ∧ (decode cX0_appendSpan 75 = .ok (.ireturn, 1)) ∧ (decode cX0_appendSpan 76 = .ok (.lload 8, 2)) ∧ (decode cX0_appendSpan 78 = .ok (.lload 6, 2)) ∧ (decode cX0_appendSpan 80 = .ok (.ladd, 1)) ∧ (decode cX0_appendSpan 81 = .ok (.lstore 8, 2)) := by decide +kernel
theorem dX0_appendSpan_56 : decode cX0_appendSpan 56 = .ok (.lsub, 1) := dg_X0_appendSpan_56.1
theorem dX0_appendSpan_57 : decode cX0_appendSpan 57 = .ok (.lstore 11, 2) := dg_X0_appendSpan_56.2.1
theorem dX0_appendSpan_59 : decode cX0_appendSpan 59 = .ok (.lload 11, 2) := dg_X0_appendSpan_56.2.2.1
theorem dX0_appendSpan_61 : decode cX0_appendSpan 61 = .ok (.lconst 0, 1) := dg_X0_appendSpan_56.2.2.2.1
theorem dX0_appendSpan_62 : decode cX0_appendSpan 62 = .ok (.lcmp, 1) := dg_X0_appendSpan_56.2.2.2.2.1
theorem dX0_appendSpan_63 : decode cX0_appendSpan 63 = .ok (.ifCond .lt 13, 3) := dg_X0_appendSpan_56.2.2.2.2.2.1
theorem dX0_appendSpan_66 : decode cX0_appendSpan 66 = .ok (.lload 11, 2) := dg_X0_appendSpan_56.2.2.2.2.2.2.1
theorem dX0_appendSpan_68 : decode cX0_appendSpan 68 = .ok (.lload 6, 2) := dg_X0_appendSpan_56.2.2.2.2.2.2.2.1
theorem dX0_appendSpan_70 : decode cX0_appendSpan 70 = .ok (.lcmp, 1) := dg_X0_appendSpan_56.2.2.2.2.2.2.2.2.1
theorem dX0_appendSpan_71 : decode cX0_appendSpan 71 = .ok (.ifCond .ge 5, 3) := dg_X0_appendSpan_56.2.2.2.2.2.2.2.2.2.1
theorem dX0_appendSpan_74 : decode cX0_appendSpan 74 = .ok (.iconst 1, 1) := dg_X0_appendSpan_56.2.2.2.2.2.2.2.2.2.2.1
theorem dX0_appendSpan_75 : decode cX0_appendSpan 75 = .ok (.ireturn, 1) := dg_X0_appendSpan_56.2.2.2.2.2.2.2.2.2.2.2.1
theorem dX0_appendSpan_76 : decode cX0_appendSpan 76 = .ok (.lload 8, 2) := dg_X0_appendSpan_56.2.2.2.2.2.2.2.2.2.2.2.2.1
theorem dX0_appendSpan_78 : decode cX0_appendSpan 78 = .ok (.lload 6, 2) := dg_X0_appendSpan_56.2.2.2.2.2.2.2.2.2.2.2.2.2.1
theorem dX0_appendSpan_80 : decode cX0_appendSpan 80 = .ok (.ladd, 1) := dg_X0_appendSpan_56.2.2.2.2.2.2.2.2.2.2.2.2.2.2.1
theorem dX0_appendSpan_81 : decode cX0_appendSpan 81 = .ok (.lstore 8, 2) := dg_X0_appendSpan_56.2.2.2.2.2.2.2.2.2.2.2.2.2.2.2
theorem dg_X0_appendSpan_83 : (decode cX0_appendSpan 83 = .ok (.iinc 10 1, 3)) ∧ (decode cX0_appendSpan 86 = .ok (.goto (-71), 3)) ∧ (decode cX0_appendSpan 89 = .ok (.iconst 0, 1)) ∧ (decode cX0_appendSpan 90 = .ok (.ireturn, 1)) := by decide +kernel
theorem dX0_appendSpan_83 : decode cX0_appendSpan 83 = .ok (.iinc 10 1, 3) := dg_X0_appendSpan_83.1
theorem dX0_appendSpan_86 : decode cX0_appendSpan 86 = .ok (.goto (-71), 3) := dg_X0_appendSpan_83.2.1
theorem dX0_appendSpan_89 : decode cX0_appendSpan 89 = .ok (.iconst 0, 1) := dg_X0_appendSpan_83.2.2.1
theorem dX0_appendSpan_90 : decode cX0_appendSpan 90 = .ok (.ireturn, 1) := dg_X0_appendSpan_83.2.2.2
theorem zk_580 : Cond.methodLink RX0 56 yX0_indexOf ∈ zz_w := zz_in (List.mem_append_right _ (List.mem_append_right _ (List.mem_append_right _ (List.mem_append_left _ (List.mem_of_getElem? (i := 100) (by decide +kernel)))))) rfl
set_option maxRecDepth 20000 in
theorem zk_562 : Cond.code yX0_indexOf cX0_indexOf 5 (some .int) ∈ zz_w := zz_in (List.mem_append_right _ (List.mem_append_right _ (List.mem_append_right _ (List.mem_append_left _ (List.mem_of_getElem? (i := 82) (rfl)))))) rfl
theorem zk_560 : Cond.instanceMethod yX0_indexOf ∈ zz_w := zz_in (List.mem_append_right _ (List.mem_append_right _ (List.mem_append_right _ (List.mem_append_left _ (List.mem_of_getElem? (i := 80) (by decide +kernel)))))) rfl
theorem zk_561 : Cond.selects RX0 yX0_indexOf yX0_indexOf ∈ zz_w := zz_in (List.mem_append_right _ (List.mem_append_right _ (List.mem_append_right _ (List.mem_append_left _ (List.mem_of_getElem? (i := 81) (by decide +kernel)))))) rfl
theorem zc_X0_56 : zz_cV RX0 56 yX0_indexOf cX0_indexOf 5 (some .int) 2 := ⟨⟨zk_580, zk_562, zk_5, by decide, by decide, by decide +kernel⟩, zk_560, zk_561⟩
theorem zk_581 : Cond.methodLink RX0 60 yX0_append ∈ zz_w := zz_in (List.mem_append_right _ (List.mem_append_right _ (List.mem_append_right _ (List.mem_append_left _ (List.mem_of_getElem? (i := 101) (by decide +kernel)))))) rfl
set_option maxRecDepth 20000 in
theorem zk_571 : Cond.code yX0_append cX0_append 4 none ∈ zz_w := zz_in (List.mem_append_right _ (List.mem_append_right _ (List.mem_append_right _ (List.mem_append_left _ (List.mem_of_getElem? (i := 91) (rfl)))))) rfl
theorem zk_569 : Cond.instanceMethod yX0_append ∈ zz_w := zz_in (List.mem_append_right _ (List.mem_append_right _ (List.mem_append_right _ (List.mem_append_left _ (List.mem_of_getElem? (i := 89) (by decide +kernel)))))) rfl
theorem zk_570 : Cond.selects RX0 yX0_append yX0_append ∈ zz_w := zz_in (List.mem_append_right _ (List.mem_append_right _ (List.mem_append_right _ (List.mem_append_left _ (List.mem_of_getElem? (i := 90) (by decide +kernel)))))) rfl
theorem zc_X0_60 : zz_cV RX0 60 yX0_append cX0_append 4 none 2 := ⟨⟨zk_581, zk_571, zk_5, by decide, by decide, by decide +kernel⟩, zk_569, zk_570⟩
abbrev rm_co_appendSpan : Room := { frames := 2, cells := 0, slots := 0, locals := 46 }
abbrev po_co_appendSpan (g : zz_G) (ch : Nat) (st : Nat) (c_pl : Nat) (c_sl : Nat) (c_co : Nat) (c_ca : Nat) (c_tu : Nat) (nd : Nat) (cof : Nat → Int32) (caf : Nat → Int64) (d : Nat) (n : Nat) (x : Int64) (y : Int64) (z : Int64) (h_d : d < 24 ∧ n ≤ 16) (e_c : cof d = nI n) : Int32 → va_W → Prop := fun (r : Int32) (u : va_W) => ∃ (co2 : Nat → Int32) (ca2 : Nat → Int64) (n2 : Nat), (co2 d = nI n2) ∧ (n2 ≤ 16) ∧ (∀ j, j ≠ d → co2 j = cof j) ∧ ((r, n2, ca2) = sp_spR x y z (d * 16) n caf) ∧ (co2 = upd cof d (nI n2)) ∧ u = [cw_k0 ch st (nI nd) c_pl c_sl c_co c_ca c_tu, cw_i g c_co 24 co2, cw_l g c_ca 384 ca2]
set_option maxHeartbeats 4000000 in
set_option maxRecDepth 100000 in
theorem co_appendSpan (g : zz_G) (ch : Nat) (st : Nat) (c_pl : Nat) (c_sl : Nat) (c_co : Nat) (c_ca : Nat) (c_tu : Nat) (nd : Nat) (cof : Nat → Int32) (caf : Nat → Int64) (d : Nat) (n : Nat) (x : Int64) (y : Int64) (z : Int64) (h_d : d < 24 ∧ n ≤ 16) (e_c : cof d = nI n) : zz_I g yX0_appendSpan (.code yX0_appendSpan cX0_appendSpan 13 (some .boolean)) rm_co_appendSpan [.ref ch, .int (nI d), .long x, .long y, .long z] [cw_k0 ch st (nI nd) c_pl c_sl c_co c_ca c_tu, cw_i g c_co 24 cof, cw_l g c_ca 384 caf] (po_co_appendSpan g ch st c_pl c_sl c_co c_ca c_tu nd cof caf d n x y z h_d e_c) := by
  refine zz_I.intro (own := RX0) (cc := cX0_appendSpan) (nL := 13) (by decide) rfl (Nat.le_of_ble_eq_true rfl) ?_
  intro p l e s m args below meth c A H locs ls hC hnm hs hZ hl
  obtain ⟨hx, hb, hml, hown, hts, hr, hlocks, hK⟩ := id hC
  have hl : lv_has ls 13 [(0, .ref ch), (1, .int (nI d)), (2, .long x), (4, .long y), (6, .long z)] := hl
  have hZ : zz_Z g A s.heap [cw_k0 ch st (nI nd) c_pl c_sl c_co c_ca c_tu, cw_i g c_co 24 cof, cw_l g c_ca 384 caf] H locs := hZ
  refine lv_lload_n hx hb dX0_appendSpan_0 rfl (lv_at hl 2 rfl) ?_
  refine lv_lload hx hb dX0_appendSpan_1 (lv_at hl 3 rfl) ?_
  refine zz_lcmp_le (tgt := 9) hC dX0_appendSpan_3 dX0_appendSpan_4 (by decide) (fun c1 => ?_) (fun c1 => ?_)
  · refine lv_lload_n hx hb dX0_appendSpan_9 rfl (lv_at hl 2 rfl) ?_
    refine lv_lstore (lv' := [(8, .long x), (0, .ref ch), (1, .int (nI d)), (2, .long x), (4, .long y), (6, .long z)]) hx hb dX0_appendSpan_10 hl (by decide) rfl (fun ls hl => ?_)
    refine lv_iconst (v := 0) hx hb dX0_appendSpan_12 (by decide) ?_
    refine lv_istore (lv' := [(10, .int 0), (8, .long x), (0, .ref ch), (1, .int (nI d)), (2, .long x), (4, .long y), (6, .long z)]) hx hb dX0_appendSpan_13 hl (by decide) rfl (fun ls hl => ?_)
    have LP2 : ∀ (N : Nat) (i : Nat) (v : Int64) (n1 : Nat) (co1 : Nat → Int32) (ca1 : Nat → Int64) (H : Heap) (locs : List Loc) (ls : Array Slot), (i ≤ 17) → (n1 ≤ 16) → (co1 d = nI n1) → (∀ j, j ≠ d → co1 j = cof j) → (sp_spl y z (d * 16) 17 x n caf = sp_spl y z (d * 16) (17 - i) v n1 ca1) → (17 - i) < N → zz_Z g A s.heap [cw_k0 ch st (nI nd) c_pl c_sl c_co c_ca c_tu, cw_i g c_co 24 co1, cw_l g c_ca 384 ca1] H locs → lv_has ls 13 [(10, .int (nI i)), (8, .long v), (0, .ref ch), (1, .int (nI d)), (2, .long x), (4, .long y), (6, .long z)] → W p l e rm_co_appendSpan s m args below meth c H locs 0 0 (zz_QI below g args s A rm_co_appendSpan.cells rm_co_appendSpan.slots (po_co_appendSpan g ch st c_pl c_sl c_co c_ca c_tu nd cof caf d n x y z h_d e_c)) (F0 m 15 ls []) := by
      intro N
      induction N with
      | zero =>
        intro i v n1 co1 ca1 H locs ls hi hn1 e_c1 hco he hN
        exact absurd hN (Nat.not_lt_zero _)
      | succ N ih =>
        intro i v n1 co1 ca1 H locs ls hi hn1 e_c1 hco he hN hZ hl
        refine lv_iload hx hb dX0_appendSpan_15 (lv_at hl 0 rfl) ?_
        refine lv_bipush (v := 16) hx hb dX0_appendSpan_17 (by decide) ?_
        have bd4 : i < 2 ^ 31 := by omega
        refine lv_icmp_gt (tgt := 89) hx hb dX0_appendSpan_19 (by decide) (fun c3 => ?_) (fun c3 => ?_)
        · have nc3 : 16 < i := (nI_ltI (by decide) bd4).mp (show nI (16) < nI (i) from c3)
          refine lv_iconst (v := 0) hx hb dX0_appendSpan_89 (by decide) ?_
          exact zz_zret hC hZ (by decide) (⟨co1, ca1, n1, e_c1, by omega, hco, by rw [sp_spR, if_pos c1, he, show 17 - i = 0 by omega, sp_spl], zl_upE e_c1 hco, rfl⟩) (Nat.le_of_ble_eq_true rfl) (Nat.le_of_ble_eq_true rfl) dX0_appendSpan_90
        · have nc3 : ¬ 16 < i := fun zq => c3 (show nI (16) < nI (i) from (nI_ltI (by decide) bd4).mpr zq)
          refine lv_aload_n hx hb dX0_appendSpan_22 rfl (lv_at hl 2 rfl) ?_
          refine lv_iload_n hx hb dX0_appendSpan_23 rfl (lv_at hl 3 rfl) ?_
          refine lv_lload hx hb dX0_appendSpan_24 (lv_at hl 1 rfl) ?_
          refine zz_iV (As := [.int (nI d), .long v]) (wc := [cw_k0 ch st (nI nd) c_pl c_sl c_co c_ca c_tu, cw_i g c_co 24 co1, cw_l g c_ca 384 ca1]) (wr := []) (rest := []) hC hZ hs hl zc_X0_56 (co_indexOf g ch st c_pl c_sl c_co c_ca c_tu nd co1 ca1 d n1 v (by omega) (e_c1)) [0, 1, 2] [] rfl rfl (by decide +kernel) (ci := 0) (q0 := 0) rfl rfl rfl rfl (Nat.le_of_ble_eq_true rfl) ⟨⟨Nat.le_of_ble_eq_true rfl, Nat.le_of_ble_eq_true rfl⟩, Nat.le_of_ble_eq_true rfl, Nat.le_of_ble_eq_true rfl⟩ dX0_appendSpan_26 (fun r5 u6 H locs hp hZ => ?_)
          obtain ⟨f7, rfl⟩ := hp
          have hZ : zz_Z g A s.heap [cw_k0 ch st (nI nd) c_pl c_sl c_co c_ca c_tu, cw_i g c_co 24 co1, cw_l g c_ca 384 ca1] H locs := hZ
          refine lv_if_ge (tgt := 52) hx hb dX0_appendSpan_29 (by decide) (fun c8 => ?_) (fun c8 => ?_)
          · refine lv_lload hx hb dX0_appendSpan_52 (lv_at hl 5 rfl) ?_
            refine lv_lload hx hb dX0_appendSpan_54 (lv_at hl 1 rfl) ?_
            refine lv_lsub hx hb dX0_appendSpan_56 ?_
            refine lv_lstore (lv' := [(11, .long (y - v)), (10, .int (nI i)), (8, .long v), (0, .ref ch), (1, .int (nI d)), (2, .long x), (4, .long y), (6, .long z)]) hx hb dX0_appendSpan_57 hl (by decide) rfl (fun ls hl => ?_)
            refine lv_lload hx hb dX0_appendSpan_59 (lv_at hl 0 rfl) ?_
            refine lv_lconst (v := 0) hx hb dX0_appendSpan_61 (by decide) ?_
            refine zz_lcmp_lt (tgt := 76) hC dX0_appendSpan_62 dX0_appendSpan_63 (by decide) (fun c9 => ?_) (fun c9 => ?_)
            · refine lv_lload hx hb dX0_appendSpan_76 (lv_at hl 2 rfl) ?_
              refine lv_lload hx hb dX0_appendSpan_78 (lv_at hl 7 rfl) ?_
              refine lv_ladd hx hb dX0_appendSpan_80 ?_
              refine lv_lstore (lv' := [(8, .long (v + z)), (11, .long (y - v)), (10, .int (nI i)), (0, .ref ch), (1, .int (nI d)), (2, .long x), (4, .long y), (6, .long z)]) hx hb dX0_appendSpan_81 hl (by decide) rfl (fun ls hl => ?_)
              refine lv_iinc (v := nI (i + 1)) (lv' := [(10, .int (nI (i + 1))), (8, .long (v + z)), (11, .long (y - v)), (0, .ref ch), (1, .int (nI d)), (2, .long x), (4, .long y), (6, .long z)]) hx hb dX0_appendSpan_83 hl (k := 2) rfl (nI_1 _) (by decide) rfl (fun ls hl => ?_)
              refine lv_goto (tgt := 15) hx hb dX0_appendSpan_86 (by decide) ?_
              exact ih (i + 1) (v + z) n1 co1 ca1 H locs ls (by omega) (by omega) (e_c1) (hco) (by rw [he, show 17 - i = (17 - (i + 1)) + 1 by omega]; exact sp_splB (zl_ixF f7 c8) (zl_st1 c9)) (by omega) hZ (lv_sub hl [0, 1, 3, 4, 5, 6, 7] rfl)
            · refine lv_lload hx hb dX0_appendSpan_66 (lv_at hl 0 rfl) ?_
              refine lv_lload hx hb dX0_appendSpan_68 (lv_at hl 7 rfl) ?_
              refine zz_lcmp_ge (tgt := 76) hC dX0_appendSpan_70 dX0_appendSpan_71 (by decide) (fun c10 => ?_) (fun c10 => ?_)
              · refine lv_lload hx hb dX0_appendSpan_76 (lv_at hl 2 rfl) ?_
                refine lv_lload hx hb dX0_appendSpan_78 (lv_at hl 7 rfl) ?_
                refine lv_ladd hx hb dX0_appendSpan_80 ?_
                refine lv_lstore (lv' := [(8, .long (v + z)), (11, .long (y - v)), (10, .int (nI i)), (0, .ref ch), (1, .int (nI d)), (2, .long x), (4, .long y), (6, .long z)]) hx hb dX0_appendSpan_81 hl (by decide) rfl (fun ls hl => ?_)
                refine lv_iinc (v := nI (i + 1)) (lv' := [(10, .int (nI (i + 1))), (8, .long (v + z)), (11, .long (y - v)), (0, .ref ch), (1, .int (nI d)), (2, .long x), (4, .long y), (6, .long z)]) hx hb dX0_appendSpan_83 hl (k := 2) rfl (nI_1 _) (by decide) rfl (fun ls hl => ?_)
                refine lv_goto (tgt := 15) hx hb dX0_appendSpan_86 (by decide) ?_
                exact ih (i + 1) (v + z) n1 co1 ca1 H locs ls (by omega) (by omega) (e_c1) (hco) (by rw [he, show 17 - i = (17 - (i + 1)) + 1 by omega]; exact sp_splB (zl_ixF f7 c8) (zl_st2 c10)) (by omega) hZ (lv_sub hl [0, 1, 3, 4, 5, 6, 7] rfl)
              · refine lv_iconst (v := 1) hx hb dX0_appendSpan_74 (by decide) ?_
                exact zz_zret hC hZ (by decide) (⟨co1, ca1, n1, e_c1, by omega, hco, by rw [sp_spR, if_pos c1, he, show 17 - i = (17 - (i + 1)) + 1 by omega, sp_splB1 (zl_ixF f7 c8) (zl_st3 c9 c10)], zl_upE e_c1 hco, rfl⟩) (Nat.le_of_ble_eq_true rfl) (Nat.le_of_ble_eq_true rfl) dX0_appendSpan_75
          · refine lv_aload_n hx hb dX0_appendSpan_32 rfl (lv_at hl 2 rfl) ?_
            refine zz_get hC hZ 0 rfl zf_X0_18 rfl dX0_appendSpan_33 ?_
            refine lv_iload_n hx hb dX0_appendSpan_36 rfl (lv_at hl 3 rfl) ?_
            have bd11 : d < 24 := by omega
            refine zz_ialdn hC hZ 1 rfl bd11 (by decide) dX0_appendSpan_37 ?_
            refine zz_topi (v := nI n1) (e_c1) ?_
            refine lv_bipush (v := 16) hx hb dX0_appendSpan_38 (by decide) ?_
            have bd13 : n1 < 2 ^ 31 := by omega
            refine lv_icmp_lt (tgt := 45) hx hb dX0_appendSpan_40 (by decide) (fun c12 => ?_) (fun c12 => ?_)
            · have nc12 : n1 < 16 := (nI_ltI bd13 (by decide)).mp (show nI (n1) < nI (16) from c12)
              refine lv_aload_n hx hb dX0_appendSpan_45 rfl (lv_at hl 2 rfl) ?_
              refine lv_iload_n hx hb dX0_appendSpan_46 rfl (lv_at hl 3 rfl) ?_
              refine lv_lload hx hb dX0_appendSpan_47 (lv_at hl 1 rfl) ?_
              refine zz_vV (As := [.int (nI d), .long v]) (wc := [cw_k0 ch st (nI nd) c_pl c_sl c_co c_ca c_tu, cw_i g c_co 24 co1, cw_l g c_ca 384 ca1]) (wr := []) (rest := []) hC hZ hs hl zc_X0_60 (co_append g ch st c_pl c_sl c_co c_ca c_tu nd co1 ca1 d n1 v (by omega) (e_c1)) [0, 1, 2] [] rfl rfl (by decide +kernel) (ci := 0) (q0 := 0) rfl rfl rfl rfl (Nat.le_of_ble_eq_true rfl) ⟨⟨Nat.le_of_ble_eq_true rfl, Nat.le_of_ble_eq_true rfl⟩, Nat.le_of_ble_eq_true rfl, Nat.le_of_ble_eq_true rfl⟩ dX0_appendSpan_49 (fun u15 H locs hp hZ => ?_)
              obtain rfl := hp
              have hZ : zz_Z g A s.heap [cw_k0 ch st (nI nd) c_pl c_sl c_co c_ca c_tu, cw_i g c_co 24 (upd co1 d (nI (n1 + 1))), cw_l g c_ca 384 (vp_updL ca1 (d * 16 + n1) v)] H locs := hZ
              refine lv_lload hx hb dX0_appendSpan_52 (lv_at hl 5 rfl) ?_
              refine lv_lload hx hb dX0_appendSpan_54 (lv_at hl 1 rfl) ?_
              refine lv_lsub hx hb dX0_appendSpan_56 ?_
              refine lv_lstore (lv' := [(11, .long (y - v)), (10, .int (nI i)), (8, .long v), (0, .ref ch), (1, .int (nI d)), (2, .long x), (4, .long y), (6, .long z)]) hx hb dX0_appendSpan_57 hl (by decide) rfl (fun ls hl => ?_)
              refine lv_lload hx hb dX0_appendSpan_59 (lv_at hl 0 rfl) ?_
              refine lv_lconst (v := 0) hx hb dX0_appendSpan_61 (by decide) ?_
              refine zz_lcmp_lt (tgt := 76) hC dX0_appendSpan_62 dX0_appendSpan_63 (by decide) (fun c16 => ?_) (fun c16 => ?_)
              · refine lv_lload hx hb dX0_appendSpan_76 (lv_at hl 2 rfl) ?_
                refine lv_lload hx hb dX0_appendSpan_78 (lv_at hl 7 rfl) ?_
                refine lv_ladd hx hb dX0_appendSpan_80 ?_
                refine lv_lstore (lv' := [(8, .long (v + z)), (11, .long (y - v)), (10, .int (nI i)), (0, .ref ch), (1, .int (nI d)), (2, .long x), (4, .long y), (6, .long z)]) hx hb dX0_appendSpan_81 hl (by decide) rfl (fun ls hl => ?_)
                refine lv_iinc (v := nI (i + 1)) (lv' := [(10, .int (nI (i + 1))), (8, .long (v + z)), (11, .long (y - v)), (0, .ref ch), (1, .int (nI d)), (2, .long x), (4, .long y), (6, .long z)]) hx hb dX0_appendSpan_83 hl (k := 2) rfl (nI_1 _) (by decide) rfl (fun ls hl => ?_)
                refine lv_goto (tgt := 15) hx hb dX0_appendSpan_86 (by decide) ?_
                exact ih (i + 1) (v + z) (n1 + 1) (upd co1 d (nI (n1 + 1))) (vp_updL ca1 (d * 16 + n1) v) H locs ls (by omega) (by omega) (pk_us) (zl_up hco) (by rw [he, show 17 - i = (17 - (i + 1)) + 1 by omega]; exact sp_splA (zl_ixN (by omega) f7 c8) (by omega) (zl_st1 c16)) (by omega) hZ (lv_sub hl [0, 1, 3, 4, 5, 6, 7] rfl)
              · refine lv_lload hx hb dX0_appendSpan_66 (lv_at hl 0 rfl) ?_
                refine lv_lload hx hb dX0_appendSpan_68 (lv_at hl 7 rfl) ?_
                refine zz_lcmp_ge (tgt := 76) hC dX0_appendSpan_70 dX0_appendSpan_71 (by decide) (fun c17 => ?_) (fun c17 => ?_)
                · refine lv_lload hx hb dX0_appendSpan_76 (lv_at hl 2 rfl) ?_
                  refine lv_lload hx hb dX0_appendSpan_78 (lv_at hl 7 rfl) ?_
                  refine lv_ladd hx hb dX0_appendSpan_80 ?_
                  refine lv_lstore (lv' := [(8, .long (v + z)), (11, .long (y - v)), (10, .int (nI i)), (0, .ref ch), (1, .int (nI d)), (2, .long x), (4, .long y), (6, .long z)]) hx hb dX0_appendSpan_81 hl (by decide) rfl (fun ls hl => ?_)
                  refine lv_iinc (v := nI (i + 1)) (lv' := [(10, .int (nI (i + 1))), (8, .long (v + z)), (11, .long (y - v)), (0, .ref ch), (1, .int (nI d)), (2, .long x), (4, .long y), (6, .long z)]) hx hb dX0_appendSpan_83 hl (k := 2) rfl (nI_1 _) (by decide) rfl (fun ls hl => ?_)
                  refine lv_goto (tgt := 15) hx hb dX0_appendSpan_86 (by decide) ?_
                  exact ih (i + 1) (v + z) (n1 + 1) (upd co1 d (nI (n1 + 1))) (vp_updL ca1 (d * 16 + n1) v) H locs ls (by omega) (by omega) (pk_us) (zl_up hco) (by rw [he, show 17 - i = (17 - (i + 1)) + 1 by omega]; exact sp_splA (zl_ixN (by omega) f7 c8) (by omega) (zl_st2 c17)) (by omega) hZ (lv_sub hl [0, 1, 3, 4, 5, 6, 7] rfl)
                · refine lv_iconst (v := 1) hx hb dX0_appendSpan_74 (by decide) ?_
                  exact zz_zret hC hZ (by decide) (⟨(upd co1 d (nI (n1 + 1))), (vp_updL ca1 (d * 16 + n1) v), (n1 + 1), pk_us, by omega, zl_up hco, by rw [sp_spR, if_pos c1, he, show 17 - i = (17 - (i + 1)) + 1 by omega, sp_splA1 (zl_ixN (by omega) f7 c8) (by omega) (zl_st3 c16 c17)], zl_upE pk_us (zl_up hco), rfl⟩) (Nat.le_of_ble_eq_true rfl) (Nat.le_of_ble_eq_true rfl) dX0_appendSpan_75
            · have nc12 : ¬ n1 < 16 := fun zq => c12 (show nI (n1) < nI (16) from (nI_ltI bd13 (by decide)).mpr zq)
              refine lv_iconst (v := 0) hx hb dX0_appendSpan_43 (by decide) ?_
              exact zz_zret hC hZ (by decide) (⟨co1, ca1, n1, e_c1, by omega, hco, by rw [sp_spR, if_pos c1, he, show 17 - i = (17 - (i + 1)) + 1 by omega, sp_splF (zl_ixN (by omega) f7 c8) (by omega)], zl_upE e_c1 hco, rfl⟩) (Nat.le_of_ble_eq_true rfl) (Nat.le_of_ble_eq_true rfl) dX0_appendSpan_44
    exact LP2 _ 0 x n cof caf H locs ls (by omega) (by omega) (e_c) (fun _ _ => rfl) (rfl) (Nat.lt_succ_self _) hZ (lv_sub hl [0, 1, 2, 3, 4, 5, 6] rfl)
  · refine lv_iconst (v := 1) hx hb dX0_appendSpan_7 (by decide) ?_
    exact zz_zret hC hZ (by decide) (⟨cof, caf, n, e_c, by omega, fun _ _ => rfl, by rw [sp_spR, if_neg c1], zl_upE e_c (fun _ _ => rfl), rfl⟩) (Nat.le_of_ble_eq_true rfl) (Nat.le_of_ble_eq_true rfl) dX0_appendSpan_8
theorem dg_X0_ways_0 : (decode cX0_ways 0 = .ok (.iconst 1, 1)) ∧ (decode cX0_ways 1 = .ok (.istore_n 1, 1)) ∧ (decode cX0_ways 2 = .ok (.iconst 0, 1)) ∧ (decode cX0_ways 3 = .ok (.istore_n 2, 1)) ∧ (decode cX0_ways 4 = .ok (.iload_n 2, 1)) ∧ (decode cX0_ways 5 = .ok (.aload_n 0, 1)) ∧ (decode cX0_ways 6 = .ok (.getfield 32, 3)) ∧ (decode cX0_ways 9 = .ok (.if_icmp .ge 37, 3)) ∧ (decode cX0_ways 12 = .ok (.aload_n 0, 1)) ∧ (decode cX0_ways 13 = .ok (.iload_n 2, 1)) ∧ (decode cX0_ways 14 = .ok (.invokevirtual 68, 3)) ∧ (decode cX0_ways 17 = .ok (.ifCond .eq 12, 3)) ∧ (decode cX0_ways 20 = .ok (.iload_n 1, 1)) ∧ (decode cX0_ways 21 = .ok (.aload_n 0, 1)) ∧ (decode cX0_ways 22 = .ok (.getfield 18, 3)) ∧ (decode cX0_ways 25 = .ok (.iload_n 2, 1)) := by decide +kernel
theorem dX0_ways_0 : decode cX0_ways 0 = .ok (.iconst 1, 1) := dg_X0_ways_0.1
theorem dX0_ways_1 : decode cX0_ways 1 = .ok (.istore_n 1, 1) := dg_X0_ways_0.2.1
theorem dX0_ways_2 : decode cX0_ways 2 = .ok (.iconst 0, 1) := dg_X0_ways_0.2.2.1
theorem dX0_ways_3 : decode cX0_ways 3 = .ok (.istore_n 2, 1) := dg_X0_ways_0.2.2.2.1
theorem dX0_ways_4 : decode cX0_ways 4 = .ok (.iload_n 2, 1) := dg_X0_ways_0.2.2.2.2.1
theorem dX0_ways_5 : decode cX0_ways 5 = .ok (.aload_n 0, 1) := dg_X0_ways_0.2.2.2.2.2.1
theorem dX0_ways_6 : decode cX0_ways 6 = .ok (.getfield 32, 3) := dg_X0_ways_0.2.2.2.2.2.2.1
theorem dX0_ways_9 : decode cX0_ways 9 = .ok (.if_icmp .ge 37, 3) := dg_X0_ways_0.2.2.2.2.2.2.2.1
theorem dX0_ways_12 : decode cX0_ways 12 = .ok (.aload_n 0, 1) := dg_X0_ways_0.2.2.2.2.2.2.2.2.1
theorem dX0_ways_13 : decode cX0_ways 13 = .ok (.iload_n 2, 1) := dg_X0_ways_0.2.2.2.2.2.2.2.2.2.1
theorem dX0_ways_14 : decode cX0_ways 14 = .ok (.invokevirtual 68, 3) := dg_X0_ways_0.2.2.2.2.2.2.2.2.2.2.1
theorem dX0_ways_17 : decode cX0_ways 17 = .ok (.ifCond .eq 12, 3) := dg_X0_ways_0.2.2.2.2.2.2.2.2.2.2.2.1
theorem dX0_ways_20 : decode cX0_ways 20 = .ok (.iload_n 1, 1) := dg_X0_ways_0.2.2.2.2.2.2.2.2.2.2.2.2.1
theorem dX0_ways_21 : decode cX0_ways 21 = .ok (.aload_n 0, 1) := dg_X0_ways_0.2.2.2.2.2.2.2.2.2.2.2.2.2.1
theorem dX0_ways_22 : decode cX0_ways 22 = .ok (.getfield 18, 3) := dg_X0_ways_0.2.2.2.2.2.2.2.2.2.2.2.2.2.2.1
theorem dX0_ways_25 : decode cX0_ways 25 = .ok (.iload_n 2, 1) := dg_X0_ways_0.2.2.2.2.2.2.2.2.2.2.2.2.2.2.2
theorem dg_X0_ways_26 : (decode cX0_ways 26 = .ok (.iaload, 1)) ∧ (decode cX0_ways 27 = .ok (.imul, 1)) ∧ (decode cX0_ways 28 = .ok (.istore_n 1, 1)) ∧ (decode cX0_ways 29 = .ok (.iload_n 1, 1)) ∧ (decode cX0_ways 30 = .ok (.sipush 5000, 3)) ∧ (decode cX0_ways 33 = .ok (.if_icmp .le 7, 3)) ∧ (decode cX0_ways 36 = .ok (.sipush 5001, 3)) ∧ (decode cX0_ways 39 = .ok (.ireturn, 1)) ∧ (decode cX0_ways 40 = .ok (.iinc 2 1, 3)) ∧ (decode cX0_ways 43 = .ok (.goto (-39), 3)) ∧ (decode cX0_ways 46 = .ok (.iload_n 1, 1)) ∧ (decode cX0_ways 47 = .ok (.ireturn, 1)) := by decide +kernel
theorem dX0_ways_26 : decode cX0_ways 26 = .ok (.iaload, 1) := dg_X0_ways_26.1
theorem dX0_ways_27 : decode cX0_ways 27 = .ok (.imul, 1) := dg_X0_ways_26.2.1
theorem dX0_ways_28 : decode cX0_ways 28 = .ok (.istore_n 1, 1) := dg_X0_ways_26.2.2.1
theorem dX0_ways_29 : decode cX0_ways 29 = .ok (.iload_n 1, 1) := dg_X0_ways_26.2.2.2.1
theorem dX0_ways_30 : decode cX0_ways 30 = .ok (.sipush 5000, 3) := dg_X0_ways_26.2.2.2.2.1
theorem dX0_ways_33 : decode cX0_ways 33 = .ok (.if_icmp .le 7, 3) := dg_X0_ways_26.2.2.2.2.2.1
theorem dX0_ways_36 : decode cX0_ways 36 = .ok (.sipush 5001, 3) := dg_X0_ways_26.2.2.2.2.2.2.1
theorem dX0_ways_39 : decode cX0_ways 39 = .ok (.ireturn, 1) := dg_X0_ways_26.2.2.2.2.2.2.2.1
theorem dX0_ways_40 : decode cX0_ways 40 = .ok (.iinc 2 1, 3) := dg_X0_ways_26.2.2.2.2.2.2.2.2.1
theorem dX0_ways_43 : decode cX0_ways 43 = .ok (.goto (-39), 3) := dg_X0_ways_26.2.2.2.2.2.2.2.2.2.1
theorem dX0_ways_46 : decode cX0_ways 46 = .ok (.iload_n 1, 1) := dg_X0_ways_26.2.2.2.2.2.2.2.2.2.2.1
theorem dX0_ways_47 : decode cX0_ways 47 = .ok (.ireturn, 1) := dg_X0_ways_26.2.2.2.2.2.2.2.2.2.2.2
theorem zk_670 : Cond.methodLink RX0 68 yX0_isFree ∈ zz_w := zz_in (List.mem_append_right _ (List.mem_append_right _ (List.mem_append_right _ (List.mem_append_left _ (List.mem_of_getElem? (i := 190) (by decide +kernel)))))) rfl
set_option maxRecDepth 20000 in
theorem zk_673 : Cond.code yX0_isFree cX0_isFree 2 (some .boolean) ∈ zz_w := zz_in (List.mem_append_right _ (List.mem_append_right _ (List.mem_append_right _ (List.mem_append_left _ (List.mem_of_getElem? (i := 193) (rfl)))))) rfl
theorem zk_672 : Cond.instanceMethod yX0_isFree ∈ zz_w := zz_in (List.mem_append_right _ (List.mem_append_right _ (List.mem_append_right _ (List.mem_append_left _ (List.mem_of_getElem? (i := 192) (by decide +kernel)))))) rfl
theorem zs_15 : Cond.selects RX0 yX0_isFree yX0_isFree ∈ zz_w := zz_in (List.mem_append_left _ (List.mem_of_getElem? (i := 15) (by decide +kernel))) rfl
theorem zc_X0_68 : zz_cV RX0 68 yX0_isFree cX0_isFree 2 (some .boolean) 1 := ⟨⟨zk_670, zk_673, zk_5, by decide, by decide, by decide +kernel⟩, zk_672, zs_15⟩
abbrev rm_co_ways : Room := { frames := 1, cells := 0, slots := 0, locals := 21 }
abbrev po_co_ways (g : zz_G) (ch : Nat) (st : Nat) (c_pl : Nat) (c_sl : Nat) (c_co : Nat) (c_ca : Nat) (c_tu : Nat) (kd : Nat) (dp : Nat) (cl : Nat) (sa : Nat) (ln : Nat) (bt : Nat) (pn : Nat) (bf : Nat) (nd : Nat) (na : Nat) (nu : Nat) (plf : Nat → Int32) (slf : Nat → Int32) (cof : Nat → Int32) (saf : Nat → Int32) (lnf : Nat → Int32) (pnf : Nat → Int32) (h_C : zz_CI na nd saf lnf plf slf cof) : Int32 → va_W → Prop := fun (r : Int32) (u : va_W) => (r = nI (zz_wy (zz_cX pnf slf cof) nd 0 1)) ∧ u = [cw_k0 ch st (nI nd) c_pl c_sl c_co c_ca c_tu, cw_i g c_sl 24 slf, cw_i g c_co 24 cof, cw_k5 st (nI na) (nI nu) kd dp cl sa ln bt pn bf, cw_z g pn 4000 pnf]
set_option maxHeartbeats 4000000 in
set_option maxRecDepth 100000 in
theorem co_ways (g : zz_G) (ch : Nat) (st : Nat) (c_pl : Nat) (c_sl : Nat) (c_co : Nat) (c_ca : Nat) (c_tu : Nat) (kd : Nat) (dp : Nat) (cl : Nat) (sa : Nat) (ln : Nat) (bt : Nat) (pn : Nat) (bf : Nat) (nd : Nat) (na : Nat) (nu : Nat) (plf : Nat → Int32) (slf : Nat → Int32) (cof : Nat → Int32) (saf : Nat → Int32) (lnf : Nat → Int32) (pnf : Nat → Int32) (h_C : zz_CI na nd saf lnf plf slf cof) : zz_I g yX0_ways (.code yX0_ways cX0_ways 3 (some .int)) rm_co_ways [.ref ch] [cw_k0 ch st (nI nd) c_pl c_sl c_co c_ca c_tu, cw_i g c_sl 24 slf, cw_i g c_co 24 cof, cw_k5 st (nI na) (nI nu) kd dp cl sa ln bt pn bf, cw_z g pn 4000 pnf] (po_co_ways g ch st c_pl c_sl c_co c_ca c_tu kd dp cl sa ln bt pn bf nd na nu plf slf cof saf lnf pnf h_C) := by
  refine zz_I.intro (own := RX0) (cc := cX0_ways) (nL := 3) (by decide) rfl (Nat.le_of_ble_eq_true rfl) ?_
  intro p l e s m args below meth c A H locs ls hC hnm hs hZ hl
  obtain ⟨hx, hb, hml, hown, hts, hr, hlocks, hK⟩ := id hC
  have hl : lv_has ls 3 [(0, .ref ch)] := hl
  have hZ : zz_Z g A s.heap [cw_k0 ch st (nI nd) c_pl c_sl c_co c_ca c_tu, cw_i g c_sl 24 slf, cw_i g c_co 24 cof, cw_k5 st (nI na) (nI nu) kd dp cl sa ln bt pn bf, cw_z g pn 4000 pnf] H locs := hZ
  have hd24 := h_C.1
  refine lv_iconst (v := 1) hx hb dX0_ways_0 (by decide) ?_
  refine lv_istore_n (lv' := [(1, .int 1), (0, .ref ch)]) hx hb dX0_ways_1 rfl hl (by decide) rfl (fun ls hl => ?_)
  refine lv_iconst (v := 0) hx hb dX0_ways_2 (by decide) ?_
  refine lv_istore_n (lv' := [(2, .int 0), (1, .int 1), (0, .ref ch)]) hx hb dX0_ways_3 rfl hl (by decide) rfl (fun ls hl => ?_)
  have LP1 : ∀ (N : Nat) (i : Nat) (w : Nat) (H : Heap) (locs : List Loc) (ls : Array Slot), (i ≤ nd) → (w ≤ 5000) → (zz_wy (zz_cX pnf slf cof) nd 0 1 = zz_wy (zz_cX pnf slf cof) (nd - i) i w) → (nd - i) < N → zz_Z g A s.heap [cw_k0 ch st (nI nd) c_pl c_sl c_co c_ca c_tu, cw_i g c_sl 24 slf, cw_i g c_co 24 cof, cw_k5 st (nI na) (nI nu) kd dp cl sa ln bt pn bf, cw_z g pn 4000 pnf] H locs → lv_has ls 3 [(2, .int (nI i)), (1, .int (nI w)), (0, .ref ch)] → W p l e rm_co_ways s m args below meth c H locs 0 0 (zz_QI below g args s A rm_co_ways.cells rm_co_ways.slots (po_co_ways g ch st c_pl c_sl c_co c_ca c_tu kd dp cl sa ln bt pn bf nd na nu plf slf cof saf lnf pnf h_C)) (F0 m 4 ls []) := by
    intro N
    induction N with
    | zero =>
      intro i w H locs ls hi hw5 he hN
      exact absurd hN (Nat.not_lt_zero _)
    | succ N ih =>
      intro i w H locs ls hi hw5 he hN hZ hl
      refine lv_iload_n hx hb dX0_ways_4 rfl (lv_at hl 0 rfl) ?_
      refine lv_aload_n hx hb dX0_ways_5 rfl (lv_at hl 2 rfl) ?_
      refine zz_get hC hZ 0 rfl zf_X0_32 rfl dX0_ways_6 ?_
      have bd3 : nd < 2 ^ 31 := by omega
      have bd4 : i < 2 ^ 31 := by omega
      refine lv_icmp_ge (tgt := 46) hx hb dX0_ways_9 (by decide) (fun c2 => ?_) (fun c2 => ?_)
      · have nc2 : nd ≤ i := (nI_leI bd3 bd4).mp (show nI (nd) ≤ nI (i) from c2)
        refine lv_iload_n hx hb dX0_ways_46 rfl (lv_at hl 1 rfl) ?_
        exact zz_iret hC hZ (⟨by rw [he, show nd - i = 0 by omega, zz_wy], rfl⟩) (Nat.le_of_ble_eq_true rfl) (Nat.le_of_ble_eq_true rfl) dX0_ways_47
      · have nc2 : ¬ nd ≤ i := fun zq => c2 (show nI (nd) ≤ nI (i) from (nI_leI bd3 bd4).mpr zq)
        obtain ⟨b, q, sz, lz, n, e_p, hbn, hb6, e_s, e_l, hb1, hb2, hq, e_z, e_c, hn⟩ := h_C.2 i (by omega)
        have hwn : w * n ≤ 5000 * 16 := Nat.mul_le_mul hw5 hn
        refine lv_aload_n hx hb dX0_ways_12 rfl (lv_at hl 2 rfl) ?_
        refine lv_iload_n hx hb dX0_ways_13 rfl (lv_at hl 0 rfl) ?_
        refine zz_iV (As := [.int (nI i)]) (wc := [cw_k0 ch st (nI nd) c_pl c_sl c_co c_ca c_tu, cw_i g c_sl 24 slf, cw_i g c_co 24 cof, cw_k5 st (nI na) (nI nu) kd dp cl sa ln bt pn bf, cw_z g pn 4000 pnf]) (wr := []) (rest := []) hC hZ hs hl zc_X0_68 (co_isFree g ch st c_pl c_sl c_co c_ca c_tu kd dp cl sa ln bt pn bf nd na nu slf cof pnf i n (sz + q) (by omega) (e_c) (e_z)) [0, 1, 2, 3, 4] [] rfl rfl (by decide +kernel) (ci := 0) (q0 := 0) rfl rfl rfl rfl (Nat.le_of_ble_eq_true rfl) ⟨⟨Nat.le_of_ble_eq_true rfl, Nat.le_of_ble_eq_true rfl⟩, Nat.le_of_ble_eq_true rfl, Nat.le_of_ble_eq_true rfl⟩ dX0_ways_14 (fun r5 u6 H locs hp hZ => ?_)
        obtain ⟨rfl, rfl⟩ := hp
        have hZ : zz_Z g A s.heap [cw_k0 ch st (nI nd) c_pl c_sl c_co c_ca c_tu, cw_i g c_sl 24 slf, cw_i g c_co 24 cof, cw_k5 st (nI na) (nI nu) kd dp cl sa ln bt pn bf, cw_z g pn 4000 pnf] H locs := hZ
        refine lv_if_eq (tgt := 29) hx hb dX0_ways_17 (by decide) (fun c7 => ?_) (fun c7 => ?_)
        · refine lv_iload_n hx hb dX0_ways_29 rfl (lv_at hl 1 rfl) ?_
          refine lv_sipush (v := 5000) hx hb dX0_ways_30 (by decide) ?_
          have bd9 : w < 2 ^ 31 := by omega
          refine lv_icmp_le (tgt := 40) hx hb dX0_ways_33 (by decide) (fun c8 => ?_) (fun c8 => ?_)
          · have nc8 : w ≤ 5000 := (nI_leI bd9 (by decide)).mp (show nI (w) ≤ nI (5000) from c8)
            refine lv_iinc (v := nI (i + 1)) (lv' := [(2, .int (nI (i + 1))), (1, .int (nI w)), (0, .ref ch)]) hx hb dX0_ways_40 hl (k := 0) rfl (nI_1 _) (by decide) rfl (fun ls hl => ?_)
            refine lv_goto (tgt := 4) hx hb dX0_ways_43 (by decide) ?_
            exact ih (i + 1) w H locs ls (by omega) (by omega) (by rw [he, show nd - i = (nd - (i + 1)) + 1 by omega, zl_wyS (by rw [show w * zz_cX pnf slf cof i = w by rw [((zl_cX e_c e_z hn (by omega)).trans (zl_ch1 hn c7)), Nat.mul_one]]; omega), show w * zz_cX pnf slf cof i = w by rw [((zl_cX e_c e_z hn (by omega)).trans (zl_ch1 hn c7)), Nat.mul_one]]) (by omega) hZ (lv_sub hl [0, 1, 2] rfl)
          · have nc8 : ¬ w ≤ 5000 := fun zq => c8 (show nI (w) ≤ nI (5000) from (nI_leI bd9 (by decide)).mpr zq)
            refine lv_sipush (v := 5001) hx hb dX0_ways_36 (by decide) ?_
            exact zz_iret hC hZ (⟨by rw [he, show nd - i = (nd - (i + 1)) + 1 by omega, zl_wyB (by rw [show w * zz_cX pnf slf cof i = w by rw [((zl_cX e_c e_z hn (by omega)).trans (zl_ch1 hn c7)), Nat.mul_one]]; omega)]; rfl, rfl⟩) (Nat.le_of_ble_eq_true rfl) (Nat.le_of_ble_eq_true rfl) dX0_ways_39
        · refine lv_iload_n hx hb dX0_ways_20 rfl (lv_at hl 1 rfl) ?_
          refine lv_aload_n hx hb dX0_ways_21 rfl (lv_at hl 2 rfl) ?_
          refine zz_get hC hZ 0 rfl zf_X0_18 rfl dX0_ways_22 ?_
          refine lv_iload_n hx hb dX0_ways_25 rfl (lv_at hl 0 rfl) ?_
          have bd10 : i < 24 := by omega
          refine zz_ialdn hC hZ 2 rfl bd10 (by decide) dX0_ways_26 ?_
          refine zz_topi (v := nI n) (e_c) ?_
          refine lv_imul hx hb dX0_ways_27 ?_
          refine zz_topi (v := nI (w * n)) (pk_mul _ _) ?_
          refine lv_istore_n (lv' := [(1, .int (nI (w * n))), (2, .int (nI i)), (0, .ref ch)]) hx hb dX0_ways_28 rfl hl (by decide) rfl (fun ls hl => ?_)
          refine lv_iload_n hx hb dX0_ways_29 rfl (lv_at hl 0 rfl) ?_
          refine lv_sipush (v := 5000) hx hb dX0_ways_30 (by decide) ?_
          have bd12 : (w * n) < 2 ^ 31 := by omega
          refine lv_icmp_le (tgt := 40) hx hb dX0_ways_33 (by decide) (fun c11 => ?_) (fun c11 => ?_)
          · have nc11 : (w * n) ≤ 5000 := (nI_leI bd12 (by decide)).mp (show nI ((w * n)) ≤ nI (5000) from c11)
            refine lv_iinc (v := nI (i + 1)) (lv' := [(2, .int (nI (i + 1))), (1, .int (nI (w * n))), (0, .ref ch)]) hx hb dX0_ways_40 hl (k := 1) rfl (nI_1 _) (by decide) rfl (fun ls hl => ?_)
            refine lv_goto (tgt := 4) hx hb dX0_ways_43 (by decide) ?_
            exact ih (i + 1) (w * n) H locs ls (by omega) (by omega) (by rw [he, show nd - i = (nd - (i + 1)) + 1 by omega, zl_wyS (by rw [show w * zz_cX pnf slf cof i = (w * n) by rw [((zl_cX e_c e_z hn (by omega)).trans (zl_chN hn c7))]]; omega), show w * zz_cX pnf slf cof i = (w * n) by rw [((zl_cX e_c e_z hn (by omega)).trans (zl_chN hn c7))]]) (by omega) hZ (lv_sub hl [0, 1, 2] rfl)
          · have nc11 : ¬ (w * n) ≤ 5000 := fun zq => c11 (show nI ((w * n)) ≤ nI (5000) from (nI_leI bd12 (by decide)).mpr zq)
            refine lv_sipush (v := 5001) hx hb dX0_ways_36 (by decide) ?_
            exact zz_iret hC hZ (⟨by rw [he, show nd - i = (nd - (i + 1)) + 1 by omega, zl_wyB (by rw [show w * zz_cX pnf slf cof i = w * n by rw [((zl_cX e_c e_z hn (by omega)).trans (zl_chN hn c7))]]; omega)]; rfl, rfl⟩) (Nat.le_of_ble_eq_true rfl) (Nat.le_of_ble_eq_true rfl) dX0_ways_39
  exact LP1 _ 0 1 H locs ls (by omega) (by omega) (rfl) (Nat.lt_succ_self _) hZ (lv_sub hl [0, 1, 2] rfl)
theorem dg_X0_takeWay_0 : (decode cX0_takeWay 0 = .ok (.iload_n 1, 1)) ∧ (decode cX0_takeWay 1 = .ok (.istore_n 2, 1)) ∧ (decode cX0_takeWay 2 = .ok (.aload_n 0, 1)) ∧ (decode cX0_takeWay 3 = .ok (.getfield 32, 3)) ∧ (decode cX0_takeWay 6 = .ok (.iconst 1, 1)) ∧ (decode cX0_takeWay 7 = .ok (.isub, 1)) ∧ (decode cX0_takeWay 8 = .ok (.istore_n 3, 1)) ∧ (decode cX0_takeWay 9 = .ok (.iload_n 3, 1)) ∧ (decode cX0_takeWay 10 = .ok (.ifCond .lt 65, 3)) ∧ (decode cX0_takeWay 13 = .ok (.aload_n 0, 1)) ∧ (decode cX0_takeWay 14 = .ok (.iload_n 3, 1)) ∧ (decode cX0_takeWay 15 = .ok (.invokevirtual 68, 3)) ∧ (decode cX0_takeWay 18 = .ok (.ifCond .eq 51, 3)) ∧ (decode cX0_takeWay 21 = .ok (.aload_n 0, 1)) ∧ (decode cX0_takeWay 22 = .ok (.getfield 25, 3)) ∧ (decode cX0_takeWay 25 = .ok (.iload_n 3, 1)) := by decide +kernel
theorem dX0_takeWay_0 : decode cX0_takeWay 0 = .ok (.iload_n 1, 1) := dg_X0_takeWay_0.1
theorem dX0_takeWay_1 : decode cX0_takeWay 1 = .ok (.istore_n 2, 1) := dg_X0_takeWay_0.2.1
theorem dX0_takeWay_2 : decode cX0_takeWay 2 = .ok (.aload_n 0, 1) := dg_X0_takeWay_0.2.2.1
theorem dX0_takeWay_3 : decode cX0_takeWay 3 = .ok (.getfield 32, 3) := dg_X0_takeWay_0.2.2.2.1
theorem dX0_takeWay_6 : decode cX0_takeWay 6 = .ok (.iconst 1, 1) := dg_X0_takeWay_0.2.2.2.2.1
theorem dX0_takeWay_7 : decode cX0_takeWay 7 = .ok (.isub, 1) := dg_X0_takeWay_0.2.2.2.2.2.1
theorem dX0_takeWay_8 : decode cX0_takeWay 8 = .ok (.istore_n 3, 1) := dg_X0_takeWay_0.2.2.2.2.2.2.1
theorem dX0_takeWay_9 : decode cX0_takeWay 9 = .ok (.iload_n 3, 1) := dg_X0_takeWay_0.2.2.2.2.2.2.2.1
theorem dX0_takeWay_10 : decode cX0_takeWay 10 = .ok (.ifCond .lt 65, 3) := dg_X0_takeWay_0.2.2.2.2.2.2.2.2.1
theorem dX0_takeWay_13 : decode cX0_takeWay 13 = .ok (.aload_n 0, 1) := dg_X0_takeWay_0.2.2.2.2.2.2.2.2.2.1
theorem dX0_takeWay_14 : decode cX0_takeWay 14 = .ok (.iload_n 3, 1) := dg_X0_takeWay_0.2.2.2.2.2.2.2.2.2.2.1
theorem dX0_takeWay_15 : decode cX0_takeWay 15 = .ok (.invokevirtual 68, 3) := dg_X0_takeWay_0.2.2.2.2.2.2.2.2.2.2.2.1
theorem dX0_takeWay_18 : decode cX0_takeWay 18 = .ok (.ifCond .eq 51, 3) := dg_X0_takeWay_0.2.2.2.2.2.2.2.2.2.2.2.2.1
theorem dX0_takeWay_21 : decode cX0_takeWay 21 = .ok (.aload_n 0, 1) := dg_X0_takeWay_0.2.2.2.2.2.2.2.2.2.2.2.2.2.1
theorem dX0_takeWay_22 : decode cX0_takeWay 22 = .ok (.getfield 25, 3) := dg_X0_takeWay_0.2.2.2.2.2.2.2.2.2.2.2.2.2.2.1
theorem dX0_takeWay_25 : decode cX0_takeWay 25 = .ok (.iload_n 3, 1) := dg_X0_takeWay_0.2.2.2.2.2.2.2.2.2.2.2.2.2.2.2
theorem dg_X0_takeWay_26 : (decode cX0_takeWay 26 = .ok (.iload_n 2, 1)) ∧ (decode cX0_takeWay 27 = .ok (.aload_n 0, 1)) ∧ (decode cX0_takeWay 28 = .ok (.getfield 18, 3)) ∧ (decode cX0_takeWay 31 = .ok (.iload_n 3, 1)) ∧ (decode cX0_takeWay 32 = .ok (.iaload, 1)) ∧ (decode cX0_takeWay 33 = .ok (.irem, 1)) ∧ (decode cX0_takeWay 34 = .ok (.iastore, 1)) ∧ (decode cX0_takeWay 35 = .ok (.iload_n 2, 1)) ∧ (decode cX0_takeWay 36 = .ok (.aload_n 0, 1)) ∧ (decode cX0_takeWay 37 = .ok (.getfield 18, 3)) ∧ (decode cX0_takeWay 40 = .ok (.iload_n 3, 1)) ∧ (decode cX0_takeWay 41 = .ok (.iaload, 1)) ∧ (decode cX0_takeWay 42 = .ok (.idiv, 1)) ∧ (decode cX0_takeWay 43 = .ok (.istore_n 2, 1)) ∧ (decode cX0_takeWay 44 = .ok (.aload_n 0, 1)) ∧ (decode cX0_takeWay 45 = .ok (.getfield 28, 3)) := by decide +kernel
theorem dX0_takeWay_26 : decode cX0_takeWay 26 = .ok (.iload_n 2, 1) := dg_X0_takeWay_26.1
theorem dX0_takeWay_27 : decode cX0_takeWay 27 = .ok (.aload_n 0, 1) := dg_X0_takeWay_26.2.1
theorem dX0_takeWay_28 : decode cX0_takeWay 28 = .ok (.getfield 18, 3) := dg_X0_takeWay_26.2.2.1
theorem dX0_takeWay_31 : decode cX0_takeWay 31 = .ok (.iload_n 3, 1) := dg_X0_takeWay_26.2.2.2.1
theorem dX0_takeWay_32 : decode cX0_takeWay 32 = .ok (.iaload, 1) := dg_X0_takeWay_26.2.2.2.2.1
theorem dX0_takeWay_33 : decode cX0_takeWay 33 = .ok (.irem, 1) := dg_X0_takeWay_26.2.2.2.2.2.1
theorem dX0_takeWay_34 : decode cX0_takeWay 34 = .ok (.iastore, 1) := dg_X0_takeWay_26.2.2.2.2.2.2.1
theorem dX0_takeWay_35 : decode cX0_takeWay 35 = .ok (.iload_n 2, 1) := dg_X0_takeWay_26.2.2.2.2.2.2.2.1
theorem dX0_takeWay_36 : decode cX0_takeWay 36 = .ok (.aload_n 0, 1) := dg_X0_takeWay_26.2.2.2.2.2.2.2.2.1
theorem dX0_takeWay_37 : decode cX0_takeWay 37 = .ok (.getfield 18, 3) := dg_X0_takeWay_26.2.2.2.2.2.2.2.2.2.1
theorem dX0_takeWay_40 : decode cX0_takeWay 40 = .ok (.iload_n 3, 1) := dg_X0_takeWay_26.2.2.2.2.2.2.2.2.2.2.1
theorem dX0_takeWay_41 : decode cX0_takeWay 41 = .ok (.iaload, 1) := dg_X0_takeWay_26.2.2.2.2.2.2.2.2.2.2.2.1
theorem dX0_takeWay_42 : decode cX0_takeWay 42 = .ok (.idiv, 1) := dg_X0_takeWay_26.2.2.2.2.2.2.2.2.2.2.2.2.1
theorem dX0_takeWay_43 : decode cX0_takeWay 43 = .ok (.istore_n 2, 1) := dg_X0_takeWay_26.2.2.2.2.2.2.2.2.2.2.2.2.2.1
theorem dX0_takeWay_44 : decode cX0_takeWay 44 = .ok (.aload_n 0, 1) := dg_X0_takeWay_26.2.2.2.2.2.2.2.2.2.2.2.2.2.2.1
theorem dX0_takeWay_45 : decode cX0_takeWay 45 = .ok (.getfield 28, 3) := dg_X0_takeWay_26.2.2.2.2.2.2.2.2.2.2.2.2.2.2.2
theorem dg_X0_takeWay_48 : (decode cX0_takeWay 48 = .ok (.getfield 71, 3)) ∧ (decode cX0_takeWay 51 = .ok (.aload_n 0, 1)) ∧ (decode cX0_takeWay 52 = .ok (.getfield 15, 3)) ∧ (decode cX0_takeWay 55 = .ok (.iload_n 3, 1)) ∧ (decode cX0_takeWay 56 = .ok (.iaload, 1)) ∧ (decode cX0_takeWay 57 = .ok (.aload_n 0, 1)) ∧ (decode cX0_takeWay 58 = .ok (.iload_n 3, 1)) ∧ (decode cX0_takeWay 59 = .ok (.aload_n 0, 1)) ∧ (decode cX0_takeWay 60 = .ok (.getfield 25, 3)) ∧ (decode cX0_takeWay 63 = .ok (.iload_n 3, 1)) ∧ (decode cX0_takeWay 64 = .ok (.iaload, 1)) ∧ (decode cX0_takeWay 65 = .ok (.invokevirtual 52, 3)) ∧ (decode cX0_takeWay 68 = .ok (.lastore, 1)) ∧ (decode cX0_takeWay 69 = .ok (.iinc 3 (-1), 3)) ∧ (decode cX0_takeWay 72 = .ok (.goto (-63), 3)) ∧ (decode cX0_takeWay 75 = .ok (.return_, 1)) := by decide +kernel
theorem dX0_takeWay_48 : decode cX0_takeWay 48 = .ok (.getfield 71, 3) := dg_X0_takeWay_48.1
theorem dX0_takeWay_51 : decode cX0_takeWay 51 = .ok (.aload_n 0, 1) := dg_X0_takeWay_48.2.1
theorem dX0_takeWay_52 : decode cX0_takeWay 52 = .ok (.getfield 15, 3) := dg_X0_takeWay_48.2.2.1
theorem dX0_takeWay_55 : decode cX0_takeWay 55 = .ok (.iload_n 3, 1) := dg_X0_takeWay_48.2.2.2.1
theorem dX0_takeWay_56 : decode cX0_takeWay 56 = .ok (.iaload, 1) := dg_X0_takeWay_48.2.2.2.2.1
theorem dX0_takeWay_57 : decode cX0_takeWay 57 = .ok (.aload_n 0, 1) := dg_X0_takeWay_48.2.2.2.2.2.1
theorem dX0_takeWay_58 : decode cX0_takeWay 58 = .ok (.iload_n 3, 1) := dg_X0_takeWay_48.2.2.2.2.2.2.1
theorem dX0_takeWay_59 : decode cX0_takeWay 59 = .ok (.aload_n 0, 1) := dg_X0_takeWay_48.2.2.2.2.2.2.2.1
theorem dX0_takeWay_60 : decode cX0_takeWay 60 = .ok (.getfield 25, 3) := dg_X0_takeWay_48.2.2.2.2.2.2.2.2.1
theorem dX0_takeWay_63 : decode cX0_takeWay 63 = .ok (.iload_n 3, 1) := dg_X0_takeWay_48.2.2.2.2.2.2.2.2.2.1
theorem dX0_takeWay_64 : decode cX0_takeWay 64 = .ok (.iaload, 1) := dg_X0_takeWay_48.2.2.2.2.2.2.2.2.2.2.1
theorem dX0_takeWay_65 : decode cX0_takeWay 65 = .ok (.invokevirtual 52, 3) := dg_X0_takeWay_48.2.2.2.2.2.2.2.2.2.2.2.1
theorem dX0_takeWay_68 : decode cX0_takeWay 68 = .ok (.lastore, 1) := dg_X0_takeWay_48.2.2.2.2.2.2.2.2.2.2.2.2.1
theorem dX0_takeWay_69 : decode cX0_takeWay 69 = .ok (.iinc 3 (-1), 3) := dg_X0_takeWay_48.2.2.2.2.2.2.2.2.2.2.2.2.2.1
theorem dX0_takeWay_72 : decode cX0_takeWay 72 = .ok (.goto (-63), 3) := dg_X0_takeWay_48.2.2.2.2.2.2.2.2.2.2.2.2.2.2.1
theorem dX0_takeWay_75 : decode cX0_takeWay 75 = .ok (.return_, 1) := dg_X0_takeWay_48.2.2.2.2.2.2.2.2.2.2.2.2.2.2.2
theorem zf_X0_25 : zz_f RX0 25 0 6 := ⟨RX0, TX0, 7, rfl, zi_X0, by decide, zk_147⟩
theorem zk_60 : Cond.fieldLink RX0 71 RX6 "bits" "[J" ∈ zz_w := zz_in (List.mem_append_right _ (List.mem_append_left _ (List.mem_of_getElem? (i := 60) (by decide +kernel)))) rfl
theorem zf_X0_71 : zz_f RX0 71 5 7 := ⟨RX6, TX6, 10, rfl, zi_X6, by decide, zk_60⟩
abbrev rm_co_takeWay : Room := { frames := 1, cells := 0, slots := 0, locals := 22 }
abbrev po_co_takeWay (g : zz_G) (ch : Nat) (st : Nat) (c_pl : Nat) (c_sl : Nat) (c_co : Nat) (c_ca : Nat) (c_tu : Nat) (kd : Nat) (dp : Nat) (cl : Nat) (sa : Nat) (ln : Nat) (bt : Nat) (pn : Nat) (bf : Nat) (nd : Nat) (na : Nat) (nu : Nat) (plf : Nat → Int32) (slf : Nat → Int32) (cof : Nat → Int32) (caf : Nat → Int64) (tuf : Nat → Int32) (saf : Nat → Int32) (lnf : Nat → Int32) (btf : Nat → Int64) (pnf : Nat → Int32) (w0 : Nat) (h_C : zz_CI na nd saf lnf plf slf cof) (h_T : zz_TI tuf) (h_w : w0 ≤ 5000) : va_W → Prop := fun (u : va_W) => ∃ (tu2 : Nat → Int32) (bt2 : Nat → Int64), (zz_TI tu2) ∧ (∀ j, (∀ d t, d < nd → slf d = nI t → t ≤ 4000 → j ≠ t) → bt2 j = btf j) ∧ (bt2 = sp_tkw pnf slf cof caf nd w0 btf) ∧ (∀ d, d < nd → zz_fr pnf slf cof d → tu2 d = nI (zz_dg (zz_cX pnf slf cof) nd w0 d)) ∧ u = [cw_k0 ch st (nI nd) c_pl c_sl c_co c_ca c_tu, cw_i g c_sl 24 slf, cw_i g c_co 24 cof, cw_l g c_ca 384 caf, cw_i g c_tu 24 tu2, cw_k5 st (nI na) (nI nu) kd dp cl sa ln bt pn bf, cw_l g bt 4000 bt2, cw_z g pn 4000 pnf]
set_option maxHeartbeats 4000000 in
set_option maxRecDepth 100000 in
theorem co_takeWay (g : zz_G) (ch : Nat) (st : Nat) (c_pl : Nat) (c_sl : Nat) (c_co : Nat) (c_ca : Nat) (c_tu : Nat) (kd : Nat) (dp : Nat) (cl : Nat) (sa : Nat) (ln : Nat) (bt : Nat) (pn : Nat) (bf : Nat) (nd : Nat) (na : Nat) (nu : Nat) (plf : Nat → Int32) (slf : Nat → Int32) (cof : Nat → Int32) (caf : Nat → Int64) (tuf : Nat → Int32) (saf : Nat → Int32) (lnf : Nat → Int32) (btf : Nat → Int64) (pnf : Nat → Int32) (w0 : Nat) (h_C : zz_CI na nd saf lnf plf slf cof) (h_T : zz_TI tuf) (h_w : w0 ≤ 5000) : zz_V g yX0_takeWay (.code yX0_takeWay cX0_takeWay 4 none) rm_co_takeWay [.ref ch, .int (nI w0)] [cw_k0 ch st (nI nd) c_pl c_sl c_co c_ca c_tu, cw_i g c_sl 24 slf, cw_i g c_co 24 cof, cw_l g c_ca 384 caf, cw_i g c_tu 24 tuf, cw_k5 st (nI na) (nI nu) kd dp cl sa ln bt pn bf, cw_l g bt 4000 btf, cw_z g pn 4000 pnf] (po_co_takeWay g ch st c_pl c_sl c_co c_ca c_tu kd dp cl sa ln bt pn bf nd na nu plf slf cof caf tuf saf lnf btf pnf w0 h_C h_T h_w) := by
  refine zz_V.intro (own := RX0) (cc := cX0_takeWay) (nL := 4) (by decide) rfl (Nat.le_of_ble_eq_true rfl) ?_
  intro p l e s m args below meth c A H locs ls hC hnm hs hZ hl
  obtain ⟨hx, hb, hml, hown, hts, hr, hlocks, hK⟩ := id hC
  have hl : lv_has ls 4 [(0, .ref ch), (1, .int (nI w0))] := hl
  have hZ : zz_Z g A s.heap [cw_k0 ch st (nI nd) c_pl c_sl c_co c_ca c_tu, cw_i g c_sl 24 slf, cw_i g c_co 24 cof, cw_l g c_ca 384 caf, cw_i g c_tu 24 tuf, cw_k5 st (nI na) (nI nu) kd dp cl sa ln bt pn bf, cw_l g bt 4000 btf, cw_z g pn 4000 pnf] H locs := hZ
  have hd24 := h_C.1
  refine lv_iload_n hx hb dX0_takeWay_0 rfl (lv_at hl 1 rfl) ?_
  refine lv_istore_n (lv' := [(2, .int (nI w0)), (0, .ref ch), (1, .int (nI w0))]) hx hb dX0_takeWay_1 rfl hl (by decide) rfl (fun ls hl => ?_)
  refine lv_aload_n hx hb dX0_takeWay_2 rfl (lv_at hl 1 rfl) ?_
  refine zz_get hC hZ 0 rfl zf_X0_32 rfl dX0_takeWay_3 ?_
  refine lv_iconst (v := 1) hx hb dX0_takeWay_6 (by decide) ?_
  refine lv_isub hx hb dX0_takeWay_7 ?_
  refine lv_istore_n (lv' := [(3, .int ((nI nd) - 1)), (2, .int (nI w0)), (0, .ref ch), (1, .int (nI w0))]) hx hb dX0_takeWay_8 rfl hl (by decide) rfl (fun ls hl => ?_)
  have hl : lv_has ls 4 [(3, .int ((nI nd) + (-1))), (2, .int (nI w0)), (0, .ref ch), (1, .int (nI w0))] := by rw [← zl_sub1]; exact hl
  have LP1 : ∀ (N : Nat) (dv : Int32) (K : Nat) (w1 : Nat) (tu1 : Nat → Int32) (bt1 : Nat → Int64) (H : Heap) (locs : List Loc) (ls : Array Slot), (dv = nI K + (-1)) → (K ≤ nd) → (w1 ≤ 5000) → (zz_TI tu1) → (∀ j, (∀ d t, d < nd → slf d = nI t → t ≤ 4000 → j ≠ t) → bt1 j = btf j) → (sp_tkw pnf slf cof caf nd w0 btf = sp_tkw pnf slf cof caf K w1 bt1) → (∀ d, d < K → zz_dg (zz_cX pnf slf cof) nd w0 d = zz_dg (zz_cX pnf slf cof) K w1 d) → (∀ d, K ≤ d → d < nd → zz_fr pnf slf cof d → tu1 d = nI (zz_dg (zz_cX pnf slf cof) nd w0 d)) → K < N → zz_Z g A s.heap [cw_k0 ch st (nI nd) c_pl c_sl c_co c_ca c_tu, cw_i g c_sl 24 slf, cw_i g c_co 24 cof, cw_l g c_ca 384 caf, cw_i g c_tu 24 tu1, cw_k5 st (nI na) (nI nu) kd dp cl sa ln bt pn bf, cw_l g bt 4000 bt1, cw_z g pn 4000 pnf] H locs → lv_has ls 4 [(3, .int dv), (2, .int (nI w1)), (0, .ref ch), (1, .int (nI w0))] → W p l e rm_co_takeWay s m args below meth c H locs 0 0 (zz_QV below g args s A rm_co_takeWay.cells rm_co_takeWay.slots (po_co_takeWay g ch st c_pl c_sl c_co c_ca c_tu kd dp cl sa ln bt pn bf nd na nu plf slf cof caf tuf saf lnf btf pnf w0 h_C h_T h_w)) (F0 m 9 ls []) := by
    intro N
    induction N with
    | zero =>
      intro dv K w1 tu1 bt1 H locs ls hdv hK hw1 hT1 hbk htk hdl hdg hN
      exact absurd hN (Nat.not_lt_zero _)
    | succ N ih =>
      intro dv K w1 tu1 bt1 H locs ls hdv hK hw1 hT1 hbk htk hdl hdg hN hZ hl
      refine lv_iload_n hx hb dX0_takeWay_9 rfl (lv_at hl 0 rfl) ?_
      refine lv_if_lt (tgt := 75) hx hb dX0_takeWay_10 (by decide) (fun c2 => ?_) (fun c2 => ?_)
      · exact zz_vret hC hZ (⟨tu1, bt1, hT1, hbk, by rw [htk, zl_K0 hdv (by omega) c2, sp_tkw], fun d hd hf => hdg d (by have := zl_K0 hdv (by omega) c2; omega) hd hf, rfl⟩) (Nat.le_of_ble_eq_true rfl) (Nat.le_of_ble_eq_true rfl) dX0_takeWay_75
      · obtain ⟨D, eD, ed⟩ := zl_lev hdv c2
        have hl : lv_has ls 4 [(3, .int (nI D)), (2, .int (nI w1)), (0, .ref ch), (1, .int (nI w0))] := by rw [← ed]; exact hl
        obtain ⟨b, q, sz, lz, n, e_p, hbn, hb6, e_s, e_l, hb1, hb2, hq, e_z, e_c, hn⟩ := h_C.2 D (by omega)
        refine lv_aload_n hx hb dX0_takeWay_13 rfl (lv_at hl 2 rfl) ?_
        refine lv_iload_n hx hb dX0_takeWay_14 rfl (lv_at hl 0 rfl) ?_
        refine zz_iV (As := [.int (nI D)]) (wc := [cw_k0 ch st (nI nd) c_pl c_sl c_co c_ca c_tu, cw_i g c_sl 24 slf, cw_i g c_co 24 cof, cw_k5 st (nI na) (nI nu) kd dp cl sa ln bt pn bf, cw_z g pn 4000 pnf]) (wr := [cw_l g c_ca 384 caf, cw_i g c_tu 24 tu1, cw_l g bt 4000 bt1]) (rest := []) hC hZ hs hl zc_X0_68 (co_isFree g ch st c_pl c_sl c_co c_ca c_tu kd dp cl sa ln bt pn bf nd na nu slf cof pnf D n (sz + q) (by omega) (e_c) (e_z)) [0, 1, 2, 5, 7] [3, 4, 6] rfl rfl (by decide +kernel) (ci := 0) (q0 := 0) rfl rfl rfl rfl (Nat.le_of_ble_eq_true rfl) ⟨⟨Nat.le_of_ble_eq_true rfl, Nat.le_of_ble_eq_true rfl⟩, Nat.le_of_ble_eq_true rfl, Nat.le_of_ble_eq_true rfl⟩ dX0_takeWay_15 (fun r3 u4 H locs hp hZ => ?_)
        obtain ⟨rfl, rfl⟩ := hp
        have hZ : zz_Z g A s.heap [cw_l g c_ca 384 caf, cw_i g c_tu 24 tu1, cw_l g bt 4000 bt1, cw_k0 ch st (nI nd) c_pl c_sl c_co c_ca c_tu, cw_i g c_sl 24 slf, cw_i g c_co 24 cof, cw_k5 st (nI na) (nI nu) kd dp cl sa ln bt pn bf, cw_z g pn 4000 pnf] H locs := hZ
        refine lv_if_eq (tgt := 69) hx hb dX0_takeWay_18 (by decide) (fun c5 => ?_) (fun c5 => ?_)
        · refine lv_iinc (v := (nI D) + (-1)) (lv' := [(3, .int ((nI D) + (-1))), (2, .int (nI w1)), (0, .ref ch), (1, .int (nI w0))]) hx hb dX0_takeWay_69 hl (k := 0) rfl (by first | rfl | decide) (by decide) rfl (fun ls hl => ?_)
          refine lv_goto (tgt := 9) hx hb dX0_takeWay_72 (by decide) ?_
          obtain ⟨eco, esl⟩ := zl_cXe (co := cof) (sl := slf) e_c e_z hn (by omega)
          have ecx : zz_cX pnf slf cof D = 1 := (zl_cX e_c e_z hn (by omega)).trans (zl_ch1 hn c5)
          exact ih ((nI D) + (-1)) D w1 tu1 bt1 H locs ls (rfl) (by omega) (by omega) (hT1) (hbk) (by rw [htk, eD, sp_tkw, eco, esl, if_pos c5]) (fun d hd => by rw [hdl d (by omega), eD, zl_dgS hd, ecx, Nat.div_one]) (fun d h1 h2 h3 => by by_cases z : d = D; (exact absurd (by rw [z, eco, esl]; exact c5) h3); exact hdg d (by omega) h2 h3) (by omega) (hZ.sub [3, 4, 5, 0, 1, 6, 2, 7] (by decide +kernel) rfl) (lv_sub hl [0, 1, 2, 3] rfl)
        · have hn0 := zl_free hn c5
          have hmod : w1 % n < n := Nat.mod_lt _ hn0
          refine lv_aload_n hx hb dX0_takeWay_21 rfl (lv_at hl 2 rfl) ?_
          refine zz_get hC hZ 3 rfl zf_X0_25 rfl dX0_takeWay_22 ?_
          refine lv_iload_n hx hb dX0_takeWay_25 rfl (lv_at hl 0 rfl) ?_
          refine lv_iload_n hx hb dX0_takeWay_26 rfl (lv_at hl 1 rfl) ?_
          refine lv_aload_n hx hb dX0_takeWay_27 rfl (lv_at hl 2 rfl) ?_
          refine zz_get hC hZ 3 rfl zf_X0_18 rfl dX0_takeWay_28 ?_
          refine lv_iload_n hx hb dX0_takeWay_31 rfl (lv_at hl 0 rfl) ?_
          have bd6 : D < 24 := by omega
          refine zz_ialdn hC hZ 5 rfl bd6 (by decide) dX0_takeWay_32 ?_
          refine zz_topi (v := nI n) (e_c) ?_
          refine lv_irem hx hb dX0_takeWay_33 (nI_ne0 (by omega) (by omega)) ?_
          refine zz_topi (v := nI (w1 % n)) (pk_rem (by omega) (by omega) (by omega)) ?_
          refine zz_iastn hC hZ 1 rfl bd6 (by decide) dX0_takeWay_34 (fun H locs hZ => ?_)
          have hZ : zz_Z g A s.heap [cw_l g c_ca 384 caf, cw_i g c_tu 24 (upd tu1 D (nI (w1 % n))), cw_l g bt 4000 bt1, cw_k0 ch st (nI nd) c_pl c_sl c_co c_ca c_tu, cw_i g c_sl 24 slf, cw_i g c_co 24 cof, cw_k5 st (nI na) (nI nu) kd dp cl sa ln bt pn bf, cw_z g pn 4000 pnf] H locs := hZ
          refine lv_iload_n hx hb dX0_takeWay_35 rfl (lv_at hl 1 rfl) ?_
          refine lv_aload_n hx hb dX0_takeWay_36 rfl (lv_at hl 2 rfl) ?_
          refine zz_get hC hZ 3 rfl zf_X0_18 rfl dX0_takeWay_37 ?_
          refine lv_iload_n hx hb dX0_takeWay_40 rfl (lv_at hl 0 rfl) ?_
          refine zz_ialdn hC hZ 5 rfl bd6 (by decide) dX0_takeWay_41 ?_
          refine zz_topi (v := nI n) (e_c) ?_
          refine lv_idiv hx hb dX0_takeWay_42 (nI_ne0 (by omega) (by omega)) ?_
          refine zz_topi (v := nI (w1 / n)) (pk_div (by omega) (by omega) (by omega)) ?_
          refine lv_istore_n (lv' := [(2, .int (nI (w1 / n))), (3, .int (nI D)), (0, .ref ch), (1, .int (nI w0))]) hx hb dX0_takeWay_43 rfl hl (by decide) rfl (fun ls hl => ?_)
          refine lv_aload_n hx hb dX0_takeWay_44 rfl (lv_at hl 2 rfl) ?_
          refine zz_get hC hZ 3 rfl zf_X0_28 rfl dX0_takeWay_45 ?_
          refine zz_get hC hZ 6 rfl zf_X0_71 rfl dX0_takeWay_48 ?_
          refine lv_aload_n hx hb dX0_takeWay_51 rfl (lv_at hl 2 rfl) ?_
          refine zz_get hC hZ 3 rfl zf_X0_15 rfl dX0_takeWay_52 ?_
          refine lv_iload_n hx hb dX0_takeWay_55 rfl (lv_at hl 1 rfl) ?_
          refine zz_ialdn hC hZ 4 rfl bd6 (by decide) dX0_takeWay_56 ?_
          refine zz_topi (v := nI (sz + q)) (e_z) ?_
          refine lv_aload_n hx hb dX0_takeWay_57 rfl (lv_at hl 2 rfl) ?_
          refine lv_iload_n hx hb dX0_takeWay_58 rfl (lv_at hl 1 rfl) ?_
          refine lv_aload_n hx hb dX0_takeWay_59 rfl (lv_at hl 2 rfl) ?_
          refine zz_get hC hZ 3 rfl zf_X0_25 rfl dX0_takeWay_60 ?_
          refine lv_iload_n hx hb dX0_takeWay_63 rfl (lv_at hl 1 rfl) ?_
          refine zz_ialdn hC hZ 1 rfl bd6 (by decide) dX0_takeWay_64 ?_
          refine zz_topi (v := nI (w1 % n)) (pk_us) ?_
          refine zz_lV (As := [.int (nI D), .int (nI (w1 % n))]) (wc := [cw_k0 ch st (nI nd) c_pl c_sl c_co c_ca c_tu, cw_l g c_ca 384 caf]) (wr := [cw_i g c_tu 24 (upd tu1 D (nI (w1 % n))), cw_l g bt 4000 bt1, cw_i g c_sl 24 slf, cw_i g c_co 24 cof, cw_k5 st (nI na) (nI nu) kd dp cl sa ln bt pn bf, cw_z g pn 4000 pnf]) (rest := [.int (nI (sz + q)), .ref bt]) hC hZ hs hl zc_X0_52 (co_candidateAt g ch st c_pl c_sl c_co c_ca c_tu nd caf D (w1 % n) (by omega)) [3, 0] [1, 2, 4, 5, 6, 7] rfl rfl (by decide +kernel) (ci := 0) (q0 := 0) rfl rfl rfl rfl (Nat.le_of_ble_eq_true rfl) ⟨⟨Nat.le_of_ble_eq_true rfl, Nat.le_of_ble_eq_true rfl⟩, Nat.le_of_ble_eq_true rfl, Nat.le_of_ble_eq_true rfl⟩ dX0_takeWay_65 (fun r7 u8 H locs hp hZ => ?_)
          obtain ⟨rfl, rfl⟩ := hp
          have hZ : zz_Z g A s.heap [cw_i g c_tu 24 (upd tu1 D (nI (w1 % n))), cw_l g bt 4000 bt1, cw_i g c_sl 24 slf, cw_i g c_co 24 cof, cw_k5 st (nI na) (nI nu) kd dp cl sa ln bt pn bf, cw_z g pn 4000 pnf, cw_k0 ch st (nI nd) c_pl c_sl c_co c_ca c_tu, cw_l g c_ca 384 caf] H locs := hZ
          have bd9 : (sz + q) < 4000 := by omega
          refine zz_lastn hC hZ 1 rfl bd9 (by decide) dX0_takeWay_68 (fun H locs hZ => ?_)
          have hZ : zz_Z g A s.heap [cw_i g c_tu 24 (upd tu1 D (nI (w1 % n))), cw_l g bt 4000 (vp_updL bt1 (sz + q) (caf (D * 16 + (w1 % n)))), cw_i g c_sl 24 slf, cw_i g c_co 24 cof, cw_k5 st (nI na) (nI nu) kd dp cl sa ln bt pn bf, cw_z g pn 4000 pnf, cw_k0 ch st (nI nd) c_pl c_sl c_co c_ca c_tu, cw_l g c_ca 384 caf] H locs := hZ
          refine lv_iinc (v := (nI D) + (-1)) (lv' := [(3, .int ((nI D) + (-1))), (2, .int (nI (w1 / n))), (0, .ref ch), (1, .int (nI w0))]) hx hb dX0_takeWay_69 hl (k := 1) rfl (by first | rfl | decide) (by decide) rfl (fun ls hl => ?_)
          refine lv_goto (tgt := 9) hx hb dX0_takeWay_72 (by decide) ?_
          obtain ⟨eco, esl⟩ := zl_cXe (co := cof) (sl := slf) e_c e_z hn (by omega)
          have ecx : zz_cX pnf slf cof D = n := (zl_cX e_c e_z hn (by omega)).trans (zl_chN hn c5)
          exact ih ((nI D) + (-1)) D (w1 / n) (upd tu1 D (nI (w1 % n))) (vp_updL bt1 (sz + q) (caf (D * 16 + (w1 % n)))) H locs ls (rfl) (by omega) (by have := Nat.div_le_self w1 n; omega) (zl_TIu hT1 (by omega)) (zl_dk hbk (show D < nd by omega) e_z (by omega)) (by rw [htk, eD, sp_tkw, eco, esl, if_neg c5]) (fun d hd => by rw [hdl d (by omega), eD, zl_dgS hd, ecx]) (fun d h1 h2 h3 => by by_cases z : d = D; (rw [z, pk_us, hdl D (by omega), eD, zl_dgK, ecx]); (rw [pk_un z]; exact hdg d (by omega) h2 h3)) (by omega) (hZ.sub [6, 2, 3, 7, 0, 4, 1, 5] (by decide +kernel) rfl) (lv_sub hl [0, 1, 2, 3] rfl)
  exact LP1 _ ((nI nd) + (-1)) nd w0 tuf btf H locs ls (rfl) (by omega) (by omega) (h_T) (fun _ _ => rfl) (rfl) (fun _ _ => rfl) (fun d h1 h2 => absurd h1 (by omega)) (Nat.lt_succ_self _) hZ (lv_sub hl [0, 1, 2, 3] rfl)
theorem dg_X0_takeNext_0 : (decode cX0_takeNext 0 = .ok (.aload_n 0, 1)) ∧ (decode cX0_takeNext 1 = .ok (.getfield 32, 3)) ∧ (decode cX0_takeNext 4 = .ok (.iconst 1, 1)) ∧ (decode cX0_takeNext 5 = .ok (.isub, 1)) ∧ (decode cX0_takeNext 6 = .ok (.istore_n 2, 1)) ∧ (decode cX0_takeNext 7 = .ok (.iload_n 2, 1)) ∧ (decode cX0_takeNext 8 = .ok (.ifCond .lt 93, 3)) ∧ (decode cX0_takeNext 11 = .ok (.aload_n 0, 1)) ∧ (decode cX0_takeNext 12 = .ok (.iload_n 2, 1)) ∧ (decode cX0_takeNext 13 = .ok (.invokevirtual 68, 3)) ∧ (decode cX0_takeNext 16 = .ok (.ifCond .eq 79, 3)) ∧ (decode cX0_takeNext 19 = .ok (.aload_n 0, 1)) ∧ (decode cX0_takeNext 20 = .ok (.getfield 18, 3)) ∧ (decode cX0_takeNext 23 = .ok (.iload_n 2, 1)) ∧ (decode cX0_takeNext 24 = .ok (.iaload, 1)) ∧ (decode cX0_takeNext 25 = .ok (.iconst 1, 1)) := by decide +kernel
theorem dX0_takeNext_0 : decode cX0_takeNext 0 = .ok (.aload_n 0, 1) := dg_X0_takeNext_0.1
theorem dX0_takeNext_1 : decode cX0_takeNext 1 = .ok (.getfield 32, 3) := dg_X0_takeNext_0.2.1
theorem dX0_takeNext_4 : decode cX0_takeNext 4 = .ok (.iconst 1, 1) := dg_X0_takeNext_0.2.2.1
theorem dX0_takeNext_5 : decode cX0_takeNext 5 = .ok (.isub, 1) := dg_X0_takeNext_0.2.2.2.1
theorem dX0_takeNext_6 : decode cX0_takeNext 6 = .ok (.istore_n 2, 1) := dg_X0_takeNext_0.2.2.2.2.1
theorem dX0_takeNext_7 : decode cX0_takeNext 7 = .ok (.iload_n 2, 1) := dg_X0_takeNext_0.2.2.2.2.2.1
theorem dX0_takeNext_8 : decode cX0_takeNext 8 = .ok (.ifCond .lt 93, 3) := dg_X0_takeNext_0.2.2.2.2.2.2.1
theorem dX0_takeNext_11 : decode cX0_takeNext 11 = .ok (.aload_n 0, 1) := dg_X0_takeNext_0.2.2.2.2.2.2.2.1
theorem dX0_takeNext_12 : decode cX0_takeNext 12 = .ok (.iload_n 2, 1) := dg_X0_takeNext_0.2.2.2.2.2.2.2.2.1
theorem dX0_takeNext_13 : decode cX0_takeNext 13 = .ok (.invokevirtual 68, 3) := dg_X0_takeNext_0.2.2.2.2.2.2.2.2.2.1
theorem dX0_takeNext_16 : decode cX0_takeNext 16 = .ok (.ifCond .eq 79, 3) := dg_X0_takeNext_0.2.2.2.2.2.2.2.2.2.2.1
theorem dX0_takeNext_19 : decode cX0_takeNext 19 = .ok (.aload_n 0, 1) := dg_X0_takeNext_0.2.2.2.2.2.2.2.2.2.2.2.1
theorem dX0_takeNext_20 : decode cX0_takeNext 20 = .ok (.getfield 18, 3) := dg_X0_takeNext_0.2.2.2.2.2.2.2.2.2.2.2.2.1
theorem dX0_takeNext_23 : decode cX0_takeNext 23 = .ok (.iload_n 2, 1) := dg_X0_takeNext_0.2.2.2.2.2.2.2.2.2.2.2.2.2.1
theorem dX0_takeNext_24 : decode cX0_takeNext 24 = .ok (.iaload, 1) := dg_X0_takeNext_0.2.2.2.2.2.2.2.2.2.2.2.2.2.2.1
theorem dX0_takeNext_25 : decode cX0_takeNext 25 = .ok (.iconst 1, 1) := dg_X0_takeNext_0.2.2.2.2.2.2.2.2.2.2.2.2.2.2.2
theorem dg_X0_takeNext_26 : (decode cX0_takeNext 26 = .ok (.if_icmp .le 69, 3)) ∧ (decode cX0_takeNext 29 = .ok (.aload_n 0, 1)) ∧ (decode cX0_takeNext 30 = .ok (.getfield 25, 3)) ∧ (decode cX0_takeNext 33 = .ok (.iload_n 2, 1)) ∧ (decode cX0_takeNext 34 = .ok (.aload_n 0, 1)) ∧ (decode cX0_takeNext 35 = .ok (.getfield 25, 3)) ∧ (decode cX0_takeNext 38 = .ok (.iload_n 2, 1)) ∧ (decode cX0_takeNext 39 = .ok (.iaload, 1)) ∧ (decode cX0_takeNext 40 = .ok (.iconst 1, 1)) ∧ (decode cX0_takeNext 41 = .ok (.iadd, 1)) ∧ (decode cX0_takeNext 42 = .ok (.aload_n 0, 1)) ∧ (decode cX0_takeNext 43 = .ok (.getfield 18, 3)) ∧ (decode cX0_takeNext 46 = .ok (.iload_n 2, 1)) ∧ (decode cX0_takeNext 47 = .ok (.iaload, 1)) ∧ (decode cX0_takeNext 48 = .ok (.if_icmp .ge 14, 3)) ∧ (decode cX0_takeNext 51 = .ok (.aload_n 0, 1)) := by decide +kernel
theorem dX0_takeNext_26 : decode cX0_takeNext 26 = .ok (.if_icmp .le 69, 3) := dg_X0_takeNext_26.1
theorem dX0_takeNext_29 : decode cX0_takeNext 29 = .ok (.aload_n 0, 1) := dg_X0_takeNext_26.2.1
theorem dX0_takeNext_30 : decode cX0_takeNext 30 = .ok (.getfield 25, 3) := dg_X0_takeNext_26.2.2.1
theorem dX0_takeNext_33 : decode cX0_takeNext 33 = .ok (.iload_n 2, 1) := dg_X0_takeNext_26.2.2.2.1
theorem dX0_takeNext_34 : decode cX0_takeNext 34 = .ok (.aload_n 0, 1) := dg_X0_takeNext_26.2.2.2.2.1
theorem dX0_takeNext_35 : decode cX0_takeNext 35 = .ok (.getfield 25, 3) := dg_X0_takeNext_26.2.2.2.2.2.1
theorem dX0_takeNext_38 : decode cX0_takeNext 38 = .ok (.iload_n 2, 1) := dg_X0_takeNext_26.2.2.2.2.2.2.1
theorem dX0_takeNext_39 : decode cX0_takeNext 39 = .ok (.iaload, 1) := dg_X0_takeNext_26.2.2.2.2.2.2.2.1
theorem dX0_takeNext_40 : decode cX0_takeNext 40 = .ok (.iconst 1, 1) := dg_X0_takeNext_26.2.2.2.2.2.2.2.2.1
theorem dX0_takeNext_41 : decode cX0_takeNext 41 = .ok (.iadd, 1) := dg_X0_takeNext_26.2.2.2.2.2.2.2.2.2.1
theorem dX0_takeNext_42 : decode cX0_takeNext 42 = .ok (.aload_n 0, 1) := dg_X0_takeNext_26.2.2.2.2.2.2.2.2.2.2.1
theorem dX0_takeNext_43 : decode cX0_takeNext 43 = .ok (.getfield 18, 3) := dg_X0_takeNext_26.2.2.2.2.2.2.2.2.2.2.2.1
theorem dX0_takeNext_46 : decode cX0_takeNext 46 = .ok (.iload_n 2, 1) := dg_X0_takeNext_26.2.2.2.2.2.2.2.2.2.2.2.2.1
theorem dX0_takeNext_47 : decode cX0_takeNext 47 = .ok (.iaload, 1) := dg_X0_takeNext_26.2.2.2.2.2.2.2.2.2.2.2.2.2.1
theorem dX0_takeNext_48 : decode cX0_takeNext 48 = .ok (.if_icmp .ge 14, 3) := dg_X0_takeNext_26.2.2.2.2.2.2.2.2.2.2.2.2.2.2.1
theorem dX0_takeNext_51 : decode cX0_takeNext 51 = .ok (.aload_n 0, 1) := dg_X0_takeNext_26.2.2.2.2.2.2.2.2.2.2.2.2.2.2.2
theorem dg_X0_takeNext_52 : (decode cX0_takeNext 52 = .ok (.getfield 25, 3)) ∧ (decode cX0_takeNext 55 = .ok (.iload_n 2, 1)) ∧ (decode cX0_takeNext 56 = .ok (.iaload, 1)) ∧ (decode cX0_takeNext 57 = .ok (.iconst 1, 1)) ∧ (decode cX0_takeNext 58 = .ok (.iadd, 1)) ∧ (decode cX0_takeNext 59 = .ok (.goto 4, 3)) ∧ (decode cX0_takeNext 62 = .ok (.iconst 0, 1)) ∧ (decode cX0_takeNext 63 = .ok (.iastore, 1)) ∧ (decode cX0_takeNext 64 = .ok (.aload_n 1, 1)) ∧ (decode cX0_takeNext 65 = .ok (.aload_n 0, 1)) ∧ (decode cX0_takeNext 66 = .ok (.getfield 9, 3)) ∧ (decode cX0_takeNext 69 = .ok (.iload_n 2, 1)) ∧ (decode cX0_takeNext 70 = .ok (.iaload, 1)) ∧ (decode cX0_takeNext 71 = .ok (.aload_n 0, 1)) ∧ (decode cX0_takeNext 72 = .ok (.iload_n 2, 1)) ∧ (decode cX0_takeNext 73 = .ok (.aload_n 0, 1)) := by decide +kernel
theorem dX0_takeNext_52 : decode cX0_takeNext 52 = .ok (.getfield 25, 3) := dg_X0_takeNext_52.1
theorem dX0_takeNext_55 : decode cX0_takeNext 55 = .ok (.iload_n 2, 1) := dg_X0_takeNext_52.2.1
theorem dX0_takeNext_56 : decode cX0_takeNext 56 = .ok (.iaload, 1) := dg_X0_takeNext_52.2.2.1
theorem dX0_takeNext_57 : decode cX0_takeNext 57 = .ok (.iconst 1, 1) := dg_X0_takeNext_52.2.2.2.1
theorem dX0_takeNext_58 : decode cX0_takeNext 58 = .ok (.iadd, 1) := dg_X0_takeNext_52.2.2.2.2.1
theorem dX0_takeNext_59 : decode cX0_takeNext 59 = .ok (.goto 4, 3) := dg_X0_takeNext_52.2.2.2.2.2.1
theorem dX0_takeNext_62 : decode cX0_takeNext 62 = .ok (.iconst 0, 1) := dg_X0_takeNext_52.2.2.2.2.2.2.1
theorem dX0_takeNext_63 : decode cX0_takeNext 63 = .ok (.iastore, 1) := dg_X0_takeNext_52.2.2.2.2.2.2.2.1
theorem dX0_takeNext_64 : decode cX0_takeNext 64 = .ok (.aload_n 1, 1) := dg_X0_takeNext_52.2.2.2.2.2.2.2.2.1
theorem dX0_takeNext_65 : decode cX0_takeNext 65 = .ok (.aload_n 0, 1) := dg_X0_takeNext_52.2.2.2.2.2.2.2.2.2.1
theorem dX0_takeNext_66 : decode cX0_takeNext 66 = .ok (.getfield 9, 3) := dg_X0_takeNext_52.2.2.2.2.2.2.2.2.2.2.1
theorem dX0_takeNext_69 : decode cX0_takeNext 69 = .ok (.iload_n 2, 1) := dg_X0_takeNext_52.2.2.2.2.2.2.2.2.2.2.2.1
theorem dX0_takeNext_70 : decode cX0_takeNext 70 = .ok (.iaload, 1) := dg_X0_takeNext_52.2.2.2.2.2.2.2.2.2.2.2.2.1
theorem dX0_takeNext_71 : decode cX0_takeNext 71 = .ok (.aload_n 0, 1) := dg_X0_takeNext_52.2.2.2.2.2.2.2.2.2.2.2.2.2.1
theorem dX0_takeNext_72 : decode cX0_takeNext 72 = .ok (.iload_n 2, 1) := dg_X0_takeNext_52.2.2.2.2.2.2.2.2.2.2.2.2.2.2.1
theorem dX0_takeNext_73 : decode cX0_takeNext 73 = .ok (.aload_n 0, 1) := dg_X0_takeNext_52.2.2.2.2.2.2.2.2.2.2.2.2.2.2.2
theorem dg_X0_takeNext_74 : (decode cX0_takeNext 74 = .ok (.getfield 25, 3)) ∧ (decode cX0_takeNext 77 = .ok (.iload_n 2, 1)) ∧ (decode cX0_takeNext 78 = .ok (.iaload, 1)) ∧ (decode cX0_takeNext 79 = .ok (.invokevirtual 52, 3)) ∧ (decode cX0_takeNext 82 = .ok (.invokevirtual 74, 3)) ∧ (decode cX0_takeNext 85 = .ok (.aload_n 0, 1)) ∧ (decode cX0_takeNext 86 = .ok (.getfield 25, 3)) ∧ (decode cX0_takeNext 89 = .ok (.iload_n 2, 1)) ∧ (decode cX0_takeNext 90 = .ok (.iaload, 1)) ∧ (decode cX0_takeNext 91 = .ok (.ifCond .le 4, 3)) ∧ (decode cX0_takeNext 94 = .ok (.return_, 1)) ∧ (decode cX0_takeNext 95 = .ok (.iinc 2 (-1), 3)) ∧ (decode cX0_takeNext 98 = .ok (.goto (-91), 3)) ∧ (decode cX0_takeNext 101 = .ok (.return_, 1)) := by decide +kernel
theorem dX0_takeNext_74 : decode cX0_takeNext 74 = .ok (.getfield 25, 3) := dg_X0_takeNext_74.1
theorem dX0_takeNext_77 : decode cX0_takeNext 77 = .ok (.iload_n 2, 1) := dg_X0_takeNext_74.2.1
theorem dX0_takeNext_78 : decode cX0_takeNext 78 = .ok (.iaload, 1) := dg_X0_takeNext_74.2.2.1
theorem dX0_takeNext_79 : decode cX0_takeNext 79 = .ok (.invokevirtual 52, 3) := dg_X0_takeNext_74.2.2.2.1
theorem dX0_takeNext_82 : decode cX0_takeNext 82 = .ok (.invokevirtual 74, 3) := dg_X0_takeNext_74.2.2.2.2.1
theorem dX0_takeNext_85 : decode cX0_takeNext 85 = .ok (.aload_n 0, 1) := dg_X0_takeNext_74.2.2.2.2.2.1
theorem dX0_takeNext_86 : decode cX0_takeNext 86 = .ok (.getfield 25, 3) := dg_X0_takeNext_74.2.2.2.2.2.2.1
theorem dX0_takeNext_89 : decode cX0_takeNext 89 = .ok (.iload_n 2, 1) := dg_X0_takeNext_74.2.2.2.2.2.2.2.1
theorem dX0_takeNext_90 : decode cX0_takeNext 90 = .ok (.iaload, 1) := dg_X0_takeNext_74.2.2.2.2.2.2.2.2.1
theorem dX0_takeNext_91 : decode cX0_takeNext 91 = .ok (.ifCond .le 4, 3) := dg_X0_takeNext_74.2.2.2.2.2.2.2.2.2.1
theorem dX0_takeNext_94 : decode cX0_takeNext 94 = .ok (.return_, 1) := dg_X0_takeNext_74.2.2.2.2.2.2.2.2.2.2.1
theorem dX0_takeNext_95 : decode cX0_takeNext 95 = .ok (.iinc 2 (-1), 3) := dg_X0_takeNext_74.2.2.2.2.2.2.2.2.2.2.2.1
theorem dX0_takeNext_98 : decode cX0_takeNext 98 = .ok (.goto (-91), 3) := dg_X0_takeNext_74.2.2.2.2.2.2.2.2.2.2.2.2.1
theorem dX0_takeNext_101 : decode cX0_takeNext 101 = .ok (.return_, 1) := dg_X0_takeNext_74.2.2.2.2.2.2.2.2.2.2.2.2.2
theorem zk_682 : Cond.methodLink RX0 74 yX5_replace ∈ zz_w := zz_in (List.mem_append_right _ (List.mem_append_right _ (List.mem_append_right _ (List.mem_append_left _ (List.mem_of_getElem? (i := 202) (by decide +kernel)))))) rfl
set_option maxRecDepth 20000 in
theorem zk_685 : Cond.code yX5_replace cX5_replace 7 none ∈ zz_w := zz_in (List.mem_append_right _ (List.mem_append_right _ (List.mem_append_right _ (List.mem_append_left _ (List.mem_of_getElem? (i := 205) (rfl)))))) rfl
theorem zk_683 : Cond.instanceMethod yX5_replace ∈ zz_w := zz_in (List.mem_append_right _ (List.mem_append_right _ (List.mem_append_right _ (List.mem_append_left _ (List.mem_of_getElem? (i := 203) (by decide +kernel)))))) rfl
theorem zk_684 : Cond.selects RX5 yX5_replace yX5_replace ∈ zz_w := zz_in (List.mem_append_right _ (List.mem_append_right _ (List.mem_append_right _ (List.mem_append_left _ (List.mem_of_getElem? (i := 204) (by decide +kernel)))))) rfl
theorem zc_X0_74 : zz_cV RX0 74 yX5_replace cX5_replace 7 none 2 := ⟨⟨zk_682, zk_685, zk_6, by decide, by decide, by decide +kernel⟩, zk_683, zk_684⟩
abbrev rm_co_takeNext : Room := { frames := 6, cells := 0, slots := 0, locals := 158 }
abbrev po_co_takeNext (g : zz_G) (ch : Nat) (st : Nat) (c_pl : Nat) (c_sl : Nat) (c_co : Nat) (c_ca : Nat) (c_tu : Nat) (ru : Nat) (u_so : Nat) (u_ju : Nat) (u_we : Nat) (u_lo : Nat) (u_hi : Nat) (u_ta : Nat) (u_bo : Nat) (kd : Nat) (dp : Nat) (cl : Nat) (sa : Nat) (ln : Nat) (bt : Nat) (pn : Nat) (bf : Nat) (nd : Nat) (nr : Nat) (na : Nat) (nu : Nat) (plf : Nat → Int32) (slf : Nat → Int32) (cof : Nat → Int32) (caf : Nat → Int64) (tuf : Nat → Int32) (juf : Nat → Int32) (sof : Nat → Int32) (lof : Nat → Int64) (taf : Nat → Int64) (bof : Nat → Int64) (kdf : Nat → Int32) (saf : Nat → Int32) (lnf : Nat → Int32) (btf : Nat → Int64) (pnf : Nat → Int32) (w0 : Nat) (bto : Nat → Int64) (h_C : zz_CI na nd saf lnf plf slf cof) (h_T : zz_TI tuf) (h_R : zz_RI na nr juf saf lnf) (h_O : zz_SO nr sof) (h_J : zz_DJ na saf lnf) (h_I : zz_SD nd slf) (h_G : ∀ d, d < nd → zz_fr pnf slf cof d → tuf d = nI (zz_dg (zz_cX pnf slf cof) nd w0 d)) (h_W : btf = sp_tkw pnf slf cof caf nd w0 bto) (h_Q : ∀ r, r < nr → taf r = zz_me sof lof kdf btf juf saf lnf r) : va_W → Prop := fun (u : va_W) => ∃ (tu2 : Nat → Int32) (bt2 : Nat → Int64) (ta2 : Nat → Int64) (bo2 : Nat → Int64), (zz_TI tu2) ∧ (∀ j, (∀ d t, d < nd → slf d = nI t → t ≤ 4000 → j ≠ t) → bt2 j = btf j) ∧ (∀ d, d < nd → zz_fr pnf slf cof d → tu2 d = nI (zz_dg (zz_cX pnf slf cof) nd (w0 + 1) d)) ∧ (bt2 = sp_tkw pnf slf cof caf nd (w0 + 1) bto) ∧ (∀ r, r < nr → ta2 r = zz_me sof lof kdf bt2 juf saf lnf r) ∧ u = [cw_k0 ch st (nI nd) c_pl c_sl c_co c_ca c_tu, cw_i g c_pl 24 plf, cw_i g c_sl 24 slf, cw_i g c_co 24 cof, cw_l g c_ca 384 caf, cw_i g c_tu 24 tu2, cw_k4 ru st (nI nr) u_so u_ju u_we u_lo u_hi u_ta u_bo, cw_i g u_ju 12 juf, cw_i g u_so 12 sof, cw_l g u_lo 12 lof, cw_l g u_ta 12 ta2, cw_l g u_bo 12 bo2, cw_k5 st (nI na) (nI nu) kd dp cl sa ln bt pn bf, cw_i g kd 60 kdf, cw_i g sa 60 saf, cw_i g ln 60 lnf, cw_l g bt 4000 bt2, cw_z g pn 4000 pnf]
set_option maxHeartbeats 4000000 in
set_option maxRecDepth 100000 in
theorem co_takeNext (g : zz_G) (ch : Nat) (st : Nat) (c_pl : Nat) (c_sl : Nat) (c_co : Nat) (c_ca : Nat) (c_tu : Nat) (ru : Nat) (u_so : Nat) (u_ju : Nat) (u_we : Nat) (u_lo : Nat) (u_hi : Nat) (u_ta : Nat) (u_bo : Nat) (kd : Nat) (dp : Nat) (cl : Nat) (sa : Nat) (ln : Nat) (bt : Nat) (pn : Nat) (bf : Nat) (nd : Nat) (nr : Nat) (na : Nat) (nu : Nat) (plf : Nat → Int32) (slf : Nat → Int32) (cof : Nat → Int32) (caf : Nat → Int64) (tuf : Nat → Int32) (juf : Nat → Int32) (sof : Nat → Int32) (lof : Nat → Int64) (taf : Nat → Int64) (bof : Nat → Int64) (kdf : Nat → Int32) (saf : Nat → Int32) (lnf : Nat → Int32) (btf : Nat → Int64) (pnf : Nat → Int32) (w0 : Nat) (bto : Nat → Int64) (h_C : zz_CI na nd saf lnf plf slf cof) (h_T : zz_TI tuf) (h_R : zz_RI na nr juf saf lnf) (h_O : zz_SO nr sof) (h_J : zz_DJ na saf lnf) (h_I : zz_SD nd slf) (h_G : ∀ d, d < nd → zz_fr pnf slf cof d → tuf d = nI (zz_dg (zz_cX pnf slf cof) nd w0 d)) (h_W : btf = sp_tkw pnf slf cof caf nd w0 bto) (h_Q : ∀ r, r < nr → taf r = zz_me sof lof kdf btf juf saf lnf r) : zz_V g yX0_takeNext (.code yX0_takeNext cX0_takeNext 3 none) rm_co_takeNext [.ref ch, .ref ru] [cw_k0 ch st (nI nd) c_pl c_sl c_co c_ca c_tu, cw_i g c_pl 24 plf, cw_i g c_sl 24 slf, cw_i g c_co 24 cof, cw_l g c_ca 384 caf, cw_i g c_tu 24 tuf, cw_k4 ru st (nI nr) u_so u_ju u_we u_lo u_hi u_ta u_bo, cw_i g u_ju 12 juf, cw_i g u_so 12 sof, cw_l g u_lo 12 lof, cw_l g u_ta 12 taf, cw_l g u_bo 12 bof, cw_k5 st (nI na) (nI nu) kd dp cl sa ln bt pn bf, cw_i g kd 60 kdf, cw_i g sa 60 saf, cw_i g ln 60 lnf, cw_l g bt 4000 btf, cw_z g pn 4000 pnf] (po_co_takeNext g ch st c_pl c_sl c_co c_ca c_tu ru u_so u_ju u_we u_lo u_hi u_ta u_bo kd dp cl sa ln bt pn bf nd nr na nu plf slf cof caf tuf juf sof lof taf bof kdf saf lnf btf pnf w0 bto h_C h_T h_R h_O h_J h_I h_G h_W h_Q) := by
  refine zz_V.intro (own := RX0) (cc := cX0_takeNext) (nL := 3) (by decide) rfl (Nat.le_of_ble_eq_true rfl) ?_
  intro p l e s m args below meth c A H locs ls hC hnm hs hZ hl
  obtain ⟨hx, hb, hml, hown, hts, hr, hlocks, hK⟩ := id hC
  have hl : lv_has ls 3 [(0, .ref ch), (1, .ref ru)] := hl
  have hZ : zz_Z g A s.heap [cw_k0 ch st (nI nd) c_pl c_sl c_co c_ca c_tu, cw_i g c_pl 24 plf, cw_i g c_sl 24 slf, cw_i g c_co 24 cof, cw_l g c_ca 384 caf, cw_i g c_tu 24 tuf, cw_k4 ru st (nI nr) u_so u_ju u_we u_lo u_hi u_ta u_bo, cw_i g u_ju 12 juf, cw_i g u_so 12 sof, cw_l g u_lo 12 lof, cw_l g u_ta 12 taf, cw_l g u_bo 12 bof, cw_k5 st (nI na) (nI nu) kd dp cl sa ln bt pn bf, cw_i g kd 60 kdf, cw_i g sa 60 saf, cw_i g ln 60 lnf, cw_l g bt 4000 btf, cw_z g pn 4000 pnf] H locs := hZ
  have hd24 := h_C.1
  refine lv_aload_n hx hb dX0_takeNext_0 rfl (lv_at hl 0 rfl) ?_
  refine zz_get hC hZ 0 rfl zf_X0_32 rfl dX0_takeNext_1 ?_
  refine lv_iconst (v := 1) hx hb dX0_takeNext_4 (by decide) ?_
  refine lv_isub hx hb dX0_takeNext_5 ?_
  refine lv_istore_n (lv' := [(2, .int ((nI nd) - 1)), (0, .ref ch), (1, .ref ru)]) hx hb dX0_takeNext_6 rfl hl (by decide) rfl (fun ls hl => ?_)
  have hl : lv_has ls 3 [(2, .int ((nI nd) + (-1))), (0, .ref ch), (1, .ref ru)] := by rw [← zl_sub1]; exact hl
  have LP1 : ∀ (N : Nat) (dv : Int32) (K : Nat) (tu1 : Nat → Int32) (bt1 : Nat → Int64) (ta1 : Nat → Int64) (bo1 : Nat → Int64) (w1 : Nat) (H : Heap) (locs : List Loc) (ls : Array Slot), (dv = nI K + (-1)) → (K ≤ nd) → (zz_TI tu1) → (∀ j, (∀ d t, d < nd → slf d = nI t → t ≤ 4000 → j ≠ t) → bt1 j = btf j) → (∀ d, d < K → tu1 d = tuf d) → (∀ d, d < K → zz_dg (zz_cX pnf slf cof) nd w0 d = zz_dg (zz_cX pnf slf cof) K w1 d) → (∀ d, d < K → zz_dg (zz_cX pnf slf cof) nd (w0 + 1) d = zz_dg (zz_cX pnf slf cof) K (w1 + 1) d) → (∀ d, K ≤ d → d < nd → zz_fr pnf slf cof d → tu1 d = nI (zz_dg (zz_cX pnf slf cof) nd (w0 + 1) d)) → (zz_WB pnf slf cof caf nd bto tu1 bt1) → (∀ r, r < nr → ta1 r = zz_me sof lof kdf bt1 juf saf lnf r) → K < N → zz_Z g A s.heap [cw_k0 ch st (nI nd) c_pl c_sl c_co c_ca c_tu, cw_i g c_pl 24 plf, cw_i g c_sl 24 slf, cw_i g c_co 24 cof, cw_l g c_ca 384 caf, cw_i g c_tu 24 tu1, cw_k4 ru st (nI nr) u_so u_ju u_we u_lo u_hi u_ta u_bo, cw_i g u_ju 12 juf, cw_i g u_so 12 sof, cw_l g u_lo 12 lof, cw_l g u_ta 12 ta1, cw_l g u_bo 12 bo1, cw_k5 st (nI na) (nI nu) kd dp cl sa ln bt pn bf, cw_i g kd 60 kdf, cw_i g sa 60 saf, cw_i g ln 60 lnf, cw_l g bt 4000 bt1, cw_z g pn 4000 pnf] H locs → lv_has ls 3 [(2, .int dv), (0, .ref ch), (1, .ref ru)] → W p l e rm_co_takeNext s m args below meth c H locs 0 0 (zz_QV below g args s A rm_co_takeNext.cells rm_co_takeNext.slots (po_co_takeNext g ch st c_pl c_sl c_co c_ca c_tu ru u_so u_ju u_we u_lo u_hi u_ta u_bo kd dp cl sa ln bt pn bf nd nr na nu plf slf cof caf tuf juf sof lof taf bof kdf saf lnf btf pnf w0 bto h_C h_T h_R h_O h_J h_I h_G h_W h_Q)) (F0 m 7 ls []) := by
    intro N
    induction N with
    | zero =>
      intro dv K tu1 bt1 ta1 bo1 w1 H locs ls hdv hK hT1 hbk hlo hd0 hd1 hhi hwb hme hN
      exact absurd hN (Nat.not_lt_zero _)
    | succ N ih =>
      intro dv K tu1 bt1 ta1 bo1 w1 H locs ls hdv hK hT1 hbk hlo hd0 hd1 hhi hwb hme hN hZ hl
      refine lv_iload_n hx hb dX0_takeNext_7 rfl (lv_at hl 0 rfl) ?_
      refine lv_if_lt (tgt := 101) hx hb dX0_takeNext_8 (by decide) (fun c2 => ?_) (fun c2 => ?_)
      · exact zz_vret hC hZ (⟨tu1, bt1, ta1, bo1, hT1, hbk, (fun d hd hf => hhi d (by have := zl_K0 hdv (by omega) c2; omega) hd hf), zl_WBe h_I (zl_c16 h_C) (fun d hd hf => hhi d (by have := zl_K0 hdv (by omega) c2; omega) hd hf) hwb, hme, rfl⟩) (Nat.le_of_ble_eq_true rfl) (Nat.le_of_ble_eq_true rfl) dX0_takeNext_101
      · obtain ⟨D, eD, ed⟩ := zl_lev hdv c2
        have hl : lv_has ls 3 [(2, .int (nI D)), (0, .ref ch), (1, .ref ru)] := by rw [← ed]; exact hl
        obtain ⟨b, q, sz, lz, n, e_p, hbn, hb6, e_s, e_l, hb1, hb2, hq, e_z, e_c, hn⟩ := h_C.2 D (by omega)
        obtain ⟨t, ht, et⟩ := hT1 D
        refine lv_aload_n hx hb dX0_takeNext_11 rfl (lv_at hl 1 rfl) ?_
        refine lv_iload_n hx hb dX0_takeNext_12 rfl (lv_at hl 0 rfl) ?_
        refine zz_iV (As := [.int (nI D)]) (wc := [cw_k0 ch st (nI nd) c_pl c_sl c_co c_ca c_tu, cw_i g c_sl 24 slf, cw_i g c_co 24 cof, cw_k5 st (nI na) (nI nu) kd dp cl sa ln bt pn bf, cw_z g pn 4000 pnf]) (wr := [cw_i g c_pl 24 plf, cw_l g c_ca 384 caf, cw_i g c_tu 24 tu1, cw_k4 ru st (nI nr) u_so u_ju u_we u_lo u_hi u_ta u_bo, cw_i g u_ju 12 juf, cw_i g u_so 12 sof, cw_l g u_lo 12 lof, cw_l g u_ta 12 ta1, cw_l g u_bo 12 bo1, cw_i g kd 60 kdf, cw_i g sa 60 saf, cw_i g ln 60 lnf, cw_l g bt 4000 bt1]) (rest := []) hC hZ hs hl zc_X0_68 (co_isFree g ch st c_pl c_sl c_co c_ca c_tu kd dp cl sa ln bt pn bf nd na nu slf cof pnf D n (sz + q) (by omega) (e_c) (e_z)) [0, 2, 3, 12, 17] [1, 4, 5, 6, 7, 8, 9, 10, 11, 13, 14, 15, 16] rfl rfl (by decide +kernel) (ci := 0) (q0 := 0) rfl rfl rfl rfl (Nat.le_of_ble_eq_true rfl) ⟨⟨Nat.le_of_ble_eq_true rfl, Nat.le_of_ble_eq_true rfl⟩, Nat.le_of_ble_eq_true rfl, Nat.le_of_ble_eq_true rfl⟩ dX0_takeNext_13 (fun r3 u4 H locs hp hZ => ?_)
        obtain ⟨rfl, rfl⟩ := hp
        have hZ : zz_Z g A s.heap [cw_i g c_pl 24 plf, cw_l g c_ca 384 caf, cw_i g c_tu 24 tu1, cw_k4 ru st (nI nr) u_so u_ju u_we u_lo u_hi u_ta u_bo, cw_i g u_ju 12 juf, cw_i g u_so 12 sof, cw_l g u_lo 12 lof, cw_l g u_ta 12 ta1, cw_l g u_bo 12 bo1, cw_i g kd 60 kdf, cw_i g sa 60 saf, cw_i g ln 60 lnf, cw_l g bt 4000 bt1, cw_k0 ch st (nI nd) c_pl c_sl c_co c_ca c_tu, cw_i g c_sl 24 slf, cw_i g c_co 24 cof, cw_k5 st (nI na) (nI nu) kd dp cl sa ln bt pn bf, cw_z g pn 4000 pnf] H locs := hZ
        refine lv_if_eq (tgt := 95) hx hb dX0_takeNext_16 (by decide) (fun c5 => ?_) (fun c5 => ?_)
        · refine lv_iinc (v := (nI D) + (-1)) (lv' := [(2, .int ((nI D) + (-1))), (0, .ref ch), (1, .ref ru)]) hx hb dX0_takeNext_95 hl (k := 0) rfl (by first | rfl | decide) (by decide) rfl (fun ls hl => ?_)
          refine lv_goto (tgt := 7) hx hb dX0_takeNext_98 (by decide) ?_
          obtain ⟨eco, esl⟩ := zl_cXe (co := cof) (sl := slf) e_c e_z hn (by omega)
          have ecx : zz_cX pnf slf cof D = 1 := (zl_cX e_c e_z hn (by omega)).trans (zl_ch1 hn c5)
          exact ih ((nI D) + (-1)) D tu1 bt1 ta1 bo1 w1 H locs ls (rfl) (by omega) (hT1) (hbk) (fun d hd => hlo d (by omega)) (fun d hd => by rw [hd0 d (by omega), eD, zl_dgS hd, ecx, Nat.div_one]) (fun d hd => by rw [hd1 d (by omega), eD, zl_dgS hd, ecx, Nat.div_one]) (fun d h1 h2 h3 => by by_cases z : d = D; (subst z; rw [hlo d (by omega), h_G d h2 h3, hd0 d (by omega), hd1 d (by omega), eD, zl_dgK, zl_dgK, ecx, Nat.mod_one, Nat.mod_one]); exact hhi d (by omega) h2 h3) (hwb) (hme) (by omega) (hZ.sub [13, 0, 14, 15, 1, 2, 3, 4, 5, 6, 7, 8, 16, 9, 10, 11, 12, 17] (by decide +kernel) rfl) (lv_sub hl [0, 1, 2] rfl)
        · have hn0 := zl_free hn c5
          refine lv_aload_n hx hb dX0_takeNext_19 rfl (lv_at hl 1 rfl) ?_
          refine zz_get hC hZ 13 rfl zf_X0_18 rfl dX0_takeNext_20 ?_
          refine lv_iload_n hx hb dX0_takeNext_23 rfl (lv_at hl 0 rfl) ?_
          have bd6 : D < 24 := by omega
          refine zz_ialdn hC hZ 15 rfl bd6 (by decide) dX0_takeNext_24 ?_
          refine zz_topi (v := nI n) (e_c) ?_
          refine lv_iconst (v := 1) hx hb dX0_takeNext_25 (by decide) ?_
          have bd8 : n < 2 ^ 31 := by omega
          refine lv_icmp_le (tgt := 95) hx hb dX0_takeNext_26 (by decide) (fun c7 => ?_) (fun c7 => ?_)
          · have nc7 : n ≤ 1 := (nI_leI bd8 (by decide)).mp (show nI (n) ≤ nI (1) from c7)
            refine lv_iinc (v := (nI D) + (-1)) (lv' := [(2, .int ((nI D) + (-1))), (0, .ref ch), (1, .ref ru)]) hx hb dX0_takeNext_95 hl (k := 0) rfl (by first | rfl | decide) (by decide) rfl (fun ls hl => ?_)
            refine lv_goto (tgt := 7) hx hb dX0_takeNext_98 (by decide) ?_
            obtain ⟨eco, esl⟩ := zl_cXe (co := cof) (sl := slf) e_c e_z hn (by omega)
            have ecx : zz_cX pnf slf cof D = 1 := (zl_cX e_c e_z hn (by omega)).trans ((zl_chN hn c5).trans (by omega))
            exact ih ((nI D) + (-1)) D tu1 bt1 ta1 bo1 w1 H locs ls (rfl) (by omega) (hT1) (hbk) (fun d hd => hlo d (by omega)) (fun d hd => by rw [hd0 d (by omega), eD, zl_dgS hd, ecx, Nat.div_one]) (fun d hd => by rw [hd1 d (by omega), eD, zl_dgS hd, ecx, Nat.div_one]) (fun d h1 h2 h3 => by by_cases z : d = D; (subst z; rw [hlo d (by omega), h_G d h2 h3, hd0 d (by omega), hd1 d (by omega), eD, zl_dgK, zl_dgK, ecx, Nat.mod_one, Nat.mod_one]); exact hhi d (by omega) h2 h3) (hwb) (hme) (by omega) (hZ.sub [13, 0, 14, 15, 1, 2, 3, 4, 5, 6, 7, 8, 16, 9, 10, 11, 12, 17] (by decide +kernel) rfl) (lv_sub hl [0, 1, 2] rfl)
          · have nc7 : ¬ n ≤ 1 := fun zq => c7 (show nI (n) ≤ nI (1) from (nI_leI bd8 (by decide)).mpr zq)
            refine lv_aload_n hx hb dX0_takeNext_29 rfl (lv_at hl 1 rfl) ?_
            refine zz_get hC hZ 13 rfl zf_X0_25 rfl dX0_takeNext_30 ?_
            refine lv_iload_n hx hb dX0_takeNext_33 rfl (lv_at hl 0 rfl) ?_
            refine lv_aload_n hx hb dX0_takeNext_34 rfl (lv_at hl 1 rfl) ?_
            refine zz_get hC hZ 13 rfl zf_X0_25 rfl dX0_takeNext_35 ?_
            refine lv_iload_n hx hb dX0_takeNext_38 rfl (lv_at hl 0 rfl) ?_
            refine zz_ialdn hC hZ 2 rfl bd6 (by decide) dX0_takeNext_39 ?_
            refine zz_topi (v := nI t) (et) ?_
            refine lv_iconst (v := 1) hx hb dX0_takeNext_40 (by decide) ?_
            refine lv_iadd hx hb dX0_takeNext_41 ?_
            refine zz_topi (v := nI (t + 1)) (nI_1 _) ?_
            refine lv_aload_n hx hb dX0_takeNext_42 rfl (lv_at hl 1 rfl) ?_
            refine zz_get hC hZ 13 rfl zf_X0_18 rfl dX0_takeNext_43 ?_
            refine lv_iload_n hx hb dX0_takeNext_46 rfl (lv_at hl 0 rfl) ?_
            refine zz_ialdn hC hZ 15 rfl bd6 (by decide) dX0_takeNext_47 ?_
            refine zz_topi (v := nI n) (e_c) ?_
            have bd10 : (t + 1) < 2 ^ 31 := by omega
            refine lv_icmp_ge (tgt := 62) hx hb dX0_takeNext_48 (by decide) (fun c9 => ?_) (fun c9 => ?_)
            · have nc9 : n ≤ (t + 1) := (nI_leI bd8 bd10).mp (show nI (n) ≤ nI ((t + 1)) from c9)
              refine lv_iconst (v := 0) hx hb dX0_takeNext_62 (by decide) ?_
              refine zz_topi (v := nI 0) rfl ?_
              refine zz_iastn hC hZ 2 rfl bd6 (by decide) dX0_takeNext_63 (fun H locs hZ => ?_)
              have hZ : zz_Z g A s.heap [cw_i g c_pl 24 plf, cw_l g c_ca 384 caf, cw_i g c_tu 24 (upd tu1 D (nI 0)), cw_k4 ru st (nI nr) u_so u_ju u_we u_lo u_hi u_ta u_bo, cw_i g u_ju 12 juf, cw_i g u_so 12 sof, cw_l g u_lo 12 lof, cw_l g u_ta 12 ta1, cw_l g u_bo 12 bo1, cw_i g kd 60 kdf, cw_i g sa 60 saf, cw_i g ln 60 lnf, cw_l g bt 4000 bt1, cw_k0 ch st (nI nd) c_pl c_sl c_co c_ca c_tu, cw_i g c_sl 24 slf, cw_i g c_co 24 cof, cw_k5 st (nI na) (nI nu) kd dp cl sa ln bt pn bf, cw_z g pn 4000 pnf] H locs := hZ
              refine lv_aload_n hx hb dX0_takeNext_64 rfl (lv_at hl 2 rfl) ?_
              refine lv_aload_n hx hb dX0_takeNext_65 rfl (lv_at hl 1 rfl) ?_
              refine zz_get hC hZ 13 rfl zf_X0_9 rfl dX0_takeNext_66 ?_
              refine lv_iload_n hx hb dX0_takeNext_69 rfl (lv_at hl 0 rfl) ?_
              refine zz_ialdn hC hZ 0 rfl bd6 (by decide) dX0_takeNext_70 ?_
              refine zz_topi (v := nI (1000 * b + q)) (e_p) ?_
              refine lv_aload_n hx hb dX0_takeNext_71 rfl (lv_at hl 1 rfl) ?_
              refine lv_iload_n hx hb dX0_takeNext_72 rfl (lv_at hl 0 rfl) ?_
              refine lv_aload_n hx hb dX0_takeNext_73 rfl (lv_at hl 1 rfl) ?_
              refine zz_get hC hZ 13 rfl zf_X0_25 rfl dX0_takeNext_74 ?_
              refine lv_iload_n hx hb dX0_takeNext_77 rfl (lv_at hl 0 rfl) ?_
              refine zz_ialdn hC hZ 2 rfl bd6 (by decide) dX0_takeNext_78 ?_
              refine zz_topi (v := nI 0) (pk_us) ?_
              refine zz_lV (As := [.int (nI D), .int (nI 0)]) (wc := [cw_k0 ch st (nI nd) c_pl c_sl c_co c_ca c_tu, cw_l g c_ca 384 caf]) (wr := [cw_i g c_pl 24 plf, cw_i g c_tu 24 (upd tu1 D (nI 0)), cw_k4 ru st (nI nr) u_so u_ju u_we u_lo u_hi u_ta u_bo, cw_i g u_ju 12 juf, cw_i g u_so 12 sof, cw_l g u_lo 12 lof, cw_l g u_ta 12 ta1, cw_l g u_bo 12 bo1, cw_i g kd 60 kdf, cw_i g sa 60 saf, cw_i g ln 60 lnf, cw_l g bt 4000 bt1, cw_i g c_sl 24 slf, cw_i g c_co 24 cof, cw_k5 st (nI na) (nI nu) kd dp cl sa ln bt pn bf, cw_z g pn 4000 pnf]) (rest := [.int (nI (1000 * b + q)), .ref ru]) hC hZ hs hl zc_X0_52 (co_candidateAt g ch st c_pl c_sl c_co c_ca c_tu nd caf D 0 (by omega)) [13, 1] [0, 2, 3, 4, 5, 6, 7, 8, 9, 10, 11, 12, 14, 15, 16, 17] rfl rfl (by decide +kernel) (ci := 0) (q0 := 0) rfl rfl rfl rfl (Nat.le_of_ble_eq_true rfl) ⟨⟨Nat.le_of_ble_eq_true rfl, Nat.le_of_ble_eq_true rfl⟩, Nat.le_of_ble_eq_true rfl, Nat.le_of_ble_eq_true rfl⟩ dX0_takeNext_79 (fun r11 u12 H locs hp hZ => ?_)
              obtain ⟨rfl, rfl⟩ := hp
              have hZ : zz_Z g A s.heap [cw_i g c_pl 24 plf, cw_i g c_tu 24 (upd tu1 D (nI 0)), cw_k4 ru st (nI nr) u_so u_ju u_we u_lo u_hi u_ta u_bo, cw_i g u_ju 12 juf, cw_i g u_so 12 sof, cw_l g u_lo 12 lof, cw_l g u_ta 12 ta1, cw_l g u_bo 12 bo1, cw_i g kd 60 kdf, cw_i g sa 60 saf, cw_i g ln 60 lnf, cw_l g bt 4000 bt1, cw_i g c_sl 24 slf, cw_i g c_co 24 cof, cw_k5 st (nI na) (nI nu) kd dp cl sa ln bt pn bf, cw_z g pn 4000 pnf, cw_k0 ch st (nI nd) c_pl c_sl c_co c_ca c_tu, cw_l g c_ca 384 caf] H locs := hZ
              refine zz_vV (As := [.int (nI (1000 * b + q)), .long (caf (D * 16 + 0))]) (wc := [cw_k4 ru st (nI nr) u_so u_ju u_we u_lo u_hi u_ta u_bo, cw_i g u_ju 12 juf, cw_i g u_so 12 sof, cw_l g u_lo 12 lof, cw_l g u_ta 12 ta1, cw_l g u_bo 12 bo1, cw_k5 st (nI na) (nI nu) kd dp cl sa ln bt pn bf, cw_i g kd 60 kdf, cw_i g sa 60 saf, cw_i g ln 60 lnf, cw_l g bt 4000 bt1]) (wr := [cw_i g c_pl 24 plf, cw_i g c_tu 24 (upd tu1 D (nI 0)), cw_i g c_sl 24 slf, cw_i g c_co 24 cof, cw_z g pn 4000 pnf, cw_k0 ch st (nI nd) c_pl c_sl c_co c_ca c_tu, cw_l g c_ca 384 caf]) (rest := []) hC hZ hs hl zc_X0_74 (co_replace g ru st u_so u_ju u_we u_lo u_hi u_ta u_bo kd dp cl sa ln bt pn bf nr na nu juf sof lof ta1 bo1 kdf saf lnf bt1 b q sz lz (caf (D * 16 + 0)) (h_R) (by omega) (e_s) (e_l)) [2, 3, 4, 5, 6, 7, 14, 8, 9, 10, 11] [0, 1, 12, 13, 15, 16, 17] rfl rfl (by decide +kernel) (ci := 4) (q0 := 0) rfl rfl rfl rfl (Nat.le_of_ble_eq_true rfl) ⟨⟨Nat.le_of_ble_eq_true rfl, Nat.le_of_ble_eq_true rfl⟩, Nat.le_of_ble_eq_true rfl, Nat.le_of_ble_eq_true rfl⟩ dX0_takeNext_82 (fun u14 H locs hp hZ => ?_)
              obtain ⟨ta2_15, bo2_16, f17, rfl⟩ := hp
              have hZ : zz_Z g A s.heap [cw_i g c_pl 24 plf, cw_i g c_tu 24 (upd tu1 D (nI 0)), cw_i g c_sl 24 slf, cw_i g c_co 24 cof, cw_z g pn 4000 pnf, cw_k0 ch st (nI nd) c_pl c_sl c_co c_ca c_tu, cw_l g c_ca 384 caf, cw_k4 ru st (nI nr) u_so u_ju u_we u_lo u_hi u_ta u_bo, cw_i g u_ju 12 juf, cw_i g u_so 12 sof, cw_l g u_lo 12 lof, cw_l g u_ta 12 ta2_15, cw_l g u_bo 12 bo2_16, cw_k5 st (nI na) (nI nu) kd dp cl sa ln bt pn bf, cw_i g kd 60 kdf, cw_i g sa 60 saf, cw_i g ln 60 lnf, cw_l g bt 4000 (vp_updL bt1 (sz + q) (caf (D * 16 + 0)))] H locs := hZ
              refine lv_aload_n hx hb dX0_takeNext_85 rfl (lv_at hl 1 rfl) ?_
              refine zz_get hC hZ 5 rfl zf_X0_25 rfl dX0_takeNext_86 ?_
              refine lv_iload_n hx hb dX0_takeNext_89 rfl (lv_at hl 0 rfl) ?_
              refine zz_ialdn hC hZ 1 rfl bd6 (by decide) dX0_takeNext_90 ?_
              refine zz_topi (v := nI 0) (pk_us) ?_
              refine lv_if_le (tgt := 95) hx hb dX0_takeNext_91 (by decide) (fun c18 => ?_) (fun c18 => ?_)
              · have nc18 : 0 ≤ 0 := (nI_leI (by decide) (by decide)).mp (show nI (0) ≤ nI (0) from c18)
                refine lv_iinc (v := (nI D) + (-1)) (lv' := [(2, .int ((nI D) + (-1))), (0, .ref ch), (1, .ref ru)]) hx hb dX0_takeNext_95 hl (k := 0) rfl (by first | rfl | decide) (by decide) rfl (fun ls hl => ?_)
                refine lv_goto (tgt := 7) hx hb dX0_takeNext_98 (by decide) ?_
                obtain ⟨eco, esl⟩ := zl_cXe (co := cof) (sl := slf) e_c e_z hn (by omega)
                have ecx : zz_cX pnf slf cof D = n := (zl_cX e_c e_z hn (by omega)).trans (zl_chN hn c5)
                have hfr : zz_fr pnf slf cof D := by unfold zz_fr; rw [eco, esl]; exact c5
                have hmw : w1 % n < n := Nat.mod_lt w1 (show 0 < n by omega)
                have etw : t = w1 % n := (nI_eq (by omega) (by omega)).mp (et.symm.trans ((hlo D (by omega)).trans ((h_G D (by omega) hfr).trans (by rw [hd0 D (by omega), eD, zl_dgK, ecx]))))
                have fRE := f17
                exact ih ((nI D) + (-1)) D (upd tu1 D (nI 0)) (vp_updL bt1 (sz + q) (caf (D * 16 + 0))) ta2_15 bo2_16 (w1 / n) H locs ls (rfl) (by omega) (zl_TIu hT1 (by omega)) (zl_dk hbk (show D < nd by omega) e_z (by omega)) (fun d hd => by rw [pk_un (show d ≠ D by omega)]; exact hlo d (by omega)) (fun d hd => by rw [hd0 d (by omega), eD, zl_dgS hd, ecx]) (fun d hd => by rw [hd1 d (by omega), eD, zl_dgS hd, ecx, (zl_nx2 hn0 (by omega)).2]) (fun d h1 h2 h3 => by by_cases z : d = D; (subst z; rw [pk_us, hd1 d (by omega), eD, zl_dgK, ecx, (zl_nx2 hn0 (by omega)).1]); (rw [pk_un z]; exact hhi d (by omega) h2 h3)) (by have z := hwb.set (D := D) (t := 0) h_I (by omega) hfr (by omega); rw [esl] at z; exact z) (zl_meR h_R h_O h_J hbn hb6 e_s e_l hb1 hb2 hq hme fRE) (by omega) (hZ.sub [5, 0, 2, 3, 6, 1, 7, 8, 9, 10, 11, 12, 13, 14, 15, 16, 17, 4] (by decide +kernel) rfl) (lv_sub hl [0, 1, 2] rfl)
              · have nc18 : ¬ 0 ≤ 0 := fun zq => c18 (show nI (0) ≤ nI (0) from (nI_leI (by decide) (by decide)).mpr zq)
                have hZ : zz_Z g A s.heap [cw_k0 ch st (nI nd) c_pl c_sl c_co c_ca c_tu, cw_i g c_pl 24 plf, cw_i g c_sl 24 slf, cw_i g c_co 24 cof, cw_l g c_ca 384 caf, cw_i g c_tu 24 (upd tu1 D (nI 0)), cw_k4 ru st (nI nr) u_so u_ju u_we u_lo u_hi u_ta u_bo, cw_i g u_ju 12 juf, cw_i g u_so 12 sof, cw_l g u_lo 12 lof, cw_l g u_ta 12 ta2_15, cw_l g u_bo 12 bo2_16, cw_k5 st (nI na) (nI nu) kd dp cl sa ln bt pn bf, cw_i g kd 60 kdf, cw_i g sa 60 saf, cw_i g ln 60 lnf, cw_l g bt 4000 (vp_updL bt1 (sz + q) (caf (D * 16 + 0))), cw_z g pn 4000 pnf] H locs := hZ.sub [5, 0, 2, 3, 6, 1, 7, 8, 9, 10, 11, 12, 13, 14, 15, 16, 17, 4] (by decide +kernel) rfl
                exact zz_vret hC hZ (⟨(upd tu1 D (nI 0)), (vp_updL bt1 (sz + q) (caf (D * 16 + 0))), ta2_15, bo2_16, zl_TIu hT1 (by omega), zl_dk hbk (show D < nd by omega) e_z (by omega), (show False by omega).elim, (show False by omega).elim, (show False by omega).elim, rfl⟩) (Nat.le_of_ble_eq_true rfl) (Nat.le_of_ble_eq_true rfl) dX0_takeNext_94
            · have nc9 : ¬ n ≤ (t + 1) := fun zq => c9 (show nI (n) ≤ nI ((t + 1)) from (nI_leI bd8 bd10).mpr zq)
              refine lv_aload_n hx hb dX0_takeNext_51 rfl (lv_at hl 1 rfl) ?_
              refine zz_get hC hZ 13 rfl zf_X0_25 rfl dX0_takeNext_52 ?_
              refine lv_iload_n hx hb dX0_takeNext_55 rfl (lv_at hl 0 rfl) ?_
              refine zz_ialdn hC hZ 2 rfl bd6 (by decide) dX0_takeNext_56 ?_
              refine zz_topi (v := nI t) (et) ?_
              refine lv_iconst (v := 1) hx hb dX0_takeNext_57 (by decide) ?_
              refine lv_iadd hx hb dX0_takeNext_58 ?_
              refine zz_topi (v := nI (t + 1)) (nI_1 _) ?_
              refine lv_goto (tgt := 63) hx hb dX0_takeNext_59 (by decide) ?_
              refine zz_iastn hC hZ 2 rfl bd6 (by decide) dX0_takeNext_63 (fun H locs hZ => ?_)
              have hZ : zz_Z g A s.heap [cw_i g c_pl 24 plf, cw_l g c_ca 384 caf, cw_i g c_tu 24 (upd tu1 D (nI (t + 1))), cw_k4 ru st (nI nr) u_so u_ju u_we u_lo u_hi u_ta u_bo, cw_i g u_ju 12 juf, cw_i g u_so 12 sof, cw_l g u_lo 12 lof, cw_l g u_ta 12 ta1, cw_l g u_bo 12 bo1, cw_i g kd 60 kdf, cw_i g sa 60 saf, cw_i g ln 60 lnf, cw_l g bt 4000 bt1, cw_k0 ch st (nI nd) c_pl c_sl c_co c_ca c_tu, cw_i g c_sl 24 slf, cw_i g c_co 24 cof, cw_k5 st (nI na) (nI nu) kd dp cl sa ln bt pn bf, cw_z g pn 4000 pnf] H locs := hZ
              refine lv_aload_n hx hb dX0_takeNext_64 rfl (lv_at hl 2 rfl) ?_
              refine lv_aload_n hx hb dX0_takeNext_65 rfl (lv_at hl 1 rfl) ?_
              refine zz_get hC hZ 13 rfl zf_X0_9 rfl dX0_takeNext_66 ?_
              refine lv_iload_n hx hb dX0_takeNext_69 rfl (lv_at hl 0 rfl) ?_
              refine zz_ialdn hC hZ 0 rfl bd6 (by decide) dX0_takeNext_70 ?_
              refine zz_topi (v := nI (1000 * b + q)) (e_p) ?_
              refine lv_aload_n hx hb dX0_takeNext_71 rfl (lv_at hl 1 rfl) ?_
              refine lv_iload_n hx hb dX0_takeNext_72 rfl (lv_at hl 0 rfl) ?_
              refine lv_aload_n hx hb dX0_takeNext_73 rfl (lv_at hl 1 rfl) ?_
              refine zz_get hC hZ 13 rfl zf_X0_25 rfl dX0_takeNext_74 ?_
              refine lv_iload_n hx hb dX0_takeNext_77 rfl (lv_at hl 0 rfl) ?_
              refine zz_ialdn hC hZ 2 rfl bd6 (by decide) dX0_takeNext_78 ?_
              refine zz_topi (v := nI (t + 1)) (pk_us) ?_
              refine zz_lV (As := [.int (nI D), .int (nI (t + 1))]) (wc := [cw_k0 ch st (nI nd) c_pl c_sl c_co c_ca c_tu, cw_l g c_ca 384 caf]) (wr := [cw_i g c_pl 24 plf, cw_i g c_tu 24 (upd tu1 D (nI (t + 1))), cw_k4 ru st (nI nr) u_so u_ju u_we u_lo u_hi u_ta u_bo, cw_i g u_ju 12 juf, cw_i g u_so 12 sof, cw_l g u_lo 12 lof, cw_l g u_ta 12 ta1, cw_l g u_bo 12 bo1, cw_i g kd 60 kdf, cw_i g sa 60 saf, cw_i g ln 60 lnf, cw_l g bt 4000 bt1, cw_i g c_sl 24 slf, cw_i g c_co 24 cof, cw_k5 st (nI na) (nI nu) kd dp cl sa ln bt pn bf, cw_z g pn 4000 pnf]) (rest := [.int (nI (1000 * b + q)), .ref ru]) hC hZ hs hl zc_X0_52 (co_candidateAt g ch st c_pl c_sl c_co c_ca c_tu nd caf D (t + 1) (by omega)) [13, 1] [0, 2, 3, 4, 5, 6, 7, 8, 9, 10, 11, 12, 14, 15, 16, 17] rfl rfl (by decide +kernel) (ci := 0) (q0 := 0) rfl rfl rfl rfl (Nat.le_of_ble_eq_true rfl) ⟨⟨Nat.le_of_ble_eq_true rfl, Nat.le_of_ble_eq_true rfl⟩, Nat.le_of_ble_eq_true rfl, Nat.le_of_ble_eq_true rfl⟩ dX0_takeNext_79 (fun r19 u20 H locs hp hZ => ?_)
              obtain ⟨rfl, rfl⟩ := hp
              have hZ : zz_Z g A s.heap [cw_i g c_pl 24 plf, cw_i g c_tu 24 (upd tu1 D (nI (t + 1))), cw_k4 ru st (nI nr) u_so u_ju u_we u_lo u_hi u_ta u_bo, cw_i g u_ju 12 juf, cw_i g u_so 12 sof, cw_l g u_lo 12 lof, cw_l g u_ta 12 ta1, cw_l g u_bo 12 bo1, cw_i g kd 60 kdf, cw_i g sa 60 saf, cw_i g ln 60 lnf, cw_l g bt 4000 bt1, cw_i g c_sl 24 slf, cw_i g c_co 24 cof, cw_k5 st (nI na) (nI nu) kd dp cl sa ln bt pn bf, cw_z g pn 4000 pnf, cw_k0 ch st (nI nd) c_pl c_sl c_co c_ca c_tu, cw_l g c_ca 384 caf] H locs := hZ
              refine zz_vV (As := [.int (nI (1000 * b + q)), .long (caf (D * 16 + (t + 1)))]) (wc := [cw_k4 ru st (nI nr) u_so u_ju u_we u_lo u_hi u_ta u_bo, cw_i g u_ju 12 juf, cw_i g u_so 12 sof, cw_l g u_lo 12 lof, cw_l g u_ta 12 ta1, cw_l g u_bo 12 bo1, cw_k5 st (nI na) (nI nu) kd dp cl sa ln bt pn bf, cw_i g kd 60 kdf, cw_i g sa 60 saf, cw_i g ln 60 lnf, cw_l g bt 4000 bt1]) (wr := [cw_i g c_pl 24 plf, cw_i g c_tu 24 (upd tu1 D (nI (t + 1))), cw_i g c_sl 24 slf, cw_i g c_co 24 cof, cw_z g pn 4000 pnf, cw_k0 ch st (nI nd) c_pl c_sl c_co c_ca c_tu, cw_l g c_ca 384 caf]) (rest := []) hC hZ hs hl zc_X0_74 (co_replace g ru st u_so u_ju u_we u_lo u_hi u_ta u_bo kd dp cl sa ln bt pn bf nr na nu juf sof lof ta1 bo1 kdf saf lnf bt1 b q sz lz (caf (D * 16 + (t + 1))) (h_R) (by omega) (e_s) (e_l)) [2, 3, 4, 5, 6, 7, 14, 8, 9, 10, 11] [0, 1, 12, 13, 15, 16, 17] rfl rfl (by decide +kernel) (ci := 4) (q0 := 0) rfl rfl rfl rfl (Nat.le_of_ble_eq_true rfl) ⟨⟨Nat.le_of_ble_eq_true rfl, Nat.le_of_ble_eq_true rfl⟩, Nat.le_of_ble_eq_true rfl, Nat.le_of_ble_eq_true rfl⟩ dX0_takeNext_82 (fun u22 H locs hp hZ => ?_)
              obtain ⟨ta2_23, bo2_24, f25, rfl⟩ := hp
              have hZ : zz_Z g A s.heap [cw_i g c_pl 24 plf, cw_i g c_tu 24 (upd tu1 D (nI (t + 1))), cw_i g c_sl 24 slf, cw_i g c_co 24 cof, cw_z g pn 4000 pnf, cw_k0 ch st (nI nd) c_pl c_sl c_co c_ca c_tu, cw_l g c_ca 384 caf, cw_k4 ru st (nI nr) u_so u_ju u_we u_lo u_hi u_ta u_bo, cw_i g u_ju 12 juf, cw_i g u_so 12 sof, cw_l g u_lo 12 lof, cw_l g u_ta 12 ta2_23, cw_l g u_bo 12 bo2_24, cw_k5 st (nI na) (nI nu) kd dp cl sa ln bt pn bf, cw_i g kd 60 kdf, cw_i g sa 60 saf, cw_i g ln 60 lnf, cw_l g bt 4000 (vp_updL bt1 (sz + q) (caf (D * 16 + (t + 1))))] H locs := hZ
              refine lv_aload_n hx hb dX0_takeNext_85 rfl (lv_at hl 1 rfl) ?_
              refine zz_get hC hZ 5 rfl zf_X0_25 rfl dX0_takeNext_86 ?_
              refine lv_iload_n hx hb dX0_takeNext_89 rfl (lv_at hl 0 rfl) ?_
              refine zz_ialdn hC hZ 1 rfl bd6 (by decide) dX0_takeNext_90 ?_
              refine zz_topi (v := nI (t + 1)) (pk_us) ?_
              refine lv_if_le (tgt := 95) hx hb dX0_takeNext_91 (by decide) (fun c26 => ?_) (fun c26 => ?_)
              · have nc26 : (t + 1) ≤ 0 := (nI_leI bd10 (by decide)).mp (show nI ((t + 1)) ≤ nI (0) from c26)
                refine lv_iinc (v := (nI D) + (-1)) (lv' := [(2, .int ((nI D) + (-1))), (0, .ref ch), (1, .ref ru)]) hx hb dX0_takeNext_95 hl (k := 0) rfl (by first | rfl | decide) (by decide) rfl (fun ls hl => ?_)
                refine lv_goto (tgt := 7) hx hb dX0_takeNext_98 (by decide) ?_
                exact ih ((nI D) + (-1)) D (upd tu1 D (nI (t + 1))) (vp_updL bt1 (sz + q) (caf (D * 16 + (t + 1)))) ta2_23 bo2_24 0 H locs ls (rfl) (by omega) (zl_TIu hT1 (by omega)) (zl_dk hbk (show D < nd by omega) e_z (by omega)) ((show False by omega).elim) ((show False by omega).elim) ((show False by omega).elim) ((show False by omega).elim) ((show False by omega).elim) ((show False by omega).elim) (by omega) (hZ.sub [5, 0, 2, 3, 6, 1, 7, 8, 9, 10, 11, 12, 13, 14, 15, 16, 17, 4] (by decide +kernel) rfl) (lv_sub hl [0, 1, 2] rfl)
              · have nc26 : ¬ (t + 1) ≤ 0 := fun zq => c26 (show nI ((t + 1)) ≤ nI (0) from (nI_leI bd10 (by decide)).mpr zq)
                obtain ⟨eco, esl⟩ := zl_cXe (co := cof) (sl := slf) e_c e_z hn (by omega)
                have ecx : zz_cX pnf slf cof D = n := (zl_cX e_c e_z hn (by omega)).trans (zl_chN hn c5)
                have hfr : zz_fr pnf slf cof D := by unfold zz_fr; rw [eco, esl]; exact c5
                have hmw : w1 % n < n := Nat.mod_lt w1 (show 0 < n by omega)
                have etw : t = w1 % n := (nI_eq (by omega) (by omega)).mp (et.symm.trans ((hlo D (by omega)).trans ((h_G D (by omega) hfr).trans (by rw [hd0 D (by omega), eD, zl_dgK, ecx]))))
                have fRE := f25
                have hTN : ∀ d, d < nd → zz_fr pnf slf cof d → upd tu1 D (nI (t + 1)) d = nI (zz_dg (zz_cX pnf slf cof) nd (w0 + 1) d) := fun d h2 h3 => by
                  by_cases z : d = D
                  · subst z
                    rw [pk_us, hd1 d (by omega), eD, zl_dgK, ecx, (zl_nx1 hn0 (by omega)).1, etw]
                  · rw [pk_un z]
                    rcases Nat.lt_or_ge d D with y | y
                    · rw [hlo d (by omega), h_G d h2 h3, hd0 d (by omega), hd1 d (by omega), eD, zl_dgS y, zl_dgS y, ecx, (zl_nx1 hn0 (by omega)).2]
                    · exact hhi d (by omega) h2 h3
                have hZ : zz_Z g A s.heap [cw_k0 ch st (nI nd) c_pl c_sl c_co c_ca c_tu, cw_i g c_pl 24 plf, cw_i g c_sl 24 slf, cw_i g c_co 24 cof, cw_l g c_ca 384 caf, cw_i g c_tu 24 (upd tu1 D (nI (t + 1))), cw_k4 ru st (nI nr) u_so u_ju u_we u_lo u_hi u_ta u_bo, cw_i g u_ju 12 juf, cw_i g u_so 12 sof, cw_l g u_lo 12 lof, cw_l g u_ta 12 ta2_23, cw_l g u_bo 12 bo2_24, cw_k5 st (nI na) (nI nu) kd dp cl sa ln bt pn bf, cw_i g kd 60 kdf, cw_i g sa 60 saf, cw_i g ln 60 lnf, cw_l g bt 4000 (vp_updL bt1 (sz + q) (caf (D * 16 + (t + 1)))), cw_z g pn 4000 pnf] H locs := hZ.sub [5, 0, 2, 3, 6, 1, 7, 8, 9, 10, 11, 12, 13, 14, 15, 16, 17, 4] (by decide +kernel) rfl
                exact zz_vret hC hZ (⟨(upd tu1 D (nI (t + 1))), (vp_updL bt1 (sz + q) (caf (D * 16 + (t + 1)))), ta2_23, bo2_24, zl_TIu hT1 (by omega), zl_dk hbk (show D < nd by omega) e_z (by omega), hTN, zl_WBe h_I (zl_c16 h_C) hTN (by have z := hwb.set (D := D) (t := (t + 1)) h_I (by omega) hfr (by omega); rw [esl] at z; exact z), zl_meR h_R h_O h_J hbn hb6 e_s e_l hb1 hb2 hq hme fRE, rfl⟩) (Nat.le_of_ble_eq_true rfl) (Nat.le_of_ble_eq_true rfl) dX0_takeNext_94
  exact LP1 _ ((nI nd) + (-1)) nd tuf btf taf bof w0 H locs ls (rfl) (by omega) (h_T) (fun _ _ => rfl) (fun _ _ => rfl) (fun _ _ => rfl) (fun _ _ => rfl) (fun d h1 h2 => absurd h1 (by omega)) (zl_WBi h_I (zl_c16 h_C) h_G h_W) (h_Q) (Nat.lt_succ_self _) hZ (lv_sub hl [0, 1, 2] rfl)
