theorem zl_wide : ∀ a, a < 9 → ∀ b, b < 9 → fn_co_reaches (nI a) (nI b) = fn_cm_isWider (nI a) (nI b) := by decide +kernel
theorem zl_08 {x : Int32} (h : ¬ fn_cm_within x.toInt64 0 8 = 0) : ∃ j : Nat, j < 9 ∧ x = nI j := by
  rw [zl_win] at h
  have e0 : (0 : Int64).toInt = 0 := by decide
  have e8 : (8 : Int64).toInt = 8 := by decide
  have f0 : (0 : Int32).toInt = 0 := by decide
  have f8 : (8 : Int32).toInt = 8 := by decide
  obtain ⟨j, hj, e⟩ := nI_of2 (x := x) (M := 8) (n := 8) (by decide) (by rw [Int32.lt_iff_toInt_lt]; omega) (by rw [Int32.le_iff_toInt_le]; omega)
  exact ⟨j, by omega, e⟩
theorem eq_widens (x1 x2 : Int32) : fn_cx_widens x1 x2 = fn_my_widens x1 x2 := by
  unfold fn_cx_widens fn_my_widens
  by_cases a : fn_cm_within x1.toInt64 0 8 = 0
  · rw [if_pos a, if_pos ((zl_kind x1).mpr a)]
  · rw [if_neg a, if_neg (fun q => a ((zl_kind x1).mp q))]
    by_cases b : fn_cm_within x2.toInt64 0 8 = 0
    · rw [if_pos b, if_pos ((zl_kind x2).mpr b)]
    · rw [if_neg b, if_neg (fun q => b ((zl_kind x2).mp q))]
      obtain ⟨i, hi, rfl⟩ := zl_08 a
      obtain ⟨j, hj, rfl⟩ := zl_08 b
      rw [zl_wide i hi j hj]
/-- what both sides share: bits agree but in arrays of depth 1; behind the last element all is 0 -/
def zz_R1 (na ne : Nat) (dp sa ln : Nat → Int32) (btX btM : Nat → Int64) (pn : Nat → Int32) : Prop := zz_D1 na dp sa ln btM btX ∧ ∀ j, ne ≤ j → btX j = 0 ∧ pn j = 0
/-- kinds are kinds; only arrays of things have a class -/
def zz_KC (na : Nat) (kd cl : Nat → Int32) : Prop := ∀ a, a < na → ∃ k : Nat, kd a = nI k ∧ k ≤ 8 ∧ (k < 8 → cl a = -1)
def zz_RL (naX : Nat) (nuX : Nat) (kdX : Nat → Int32) (dpX : Nat → Int32) (clX : Nat → Int32) (saX : Nat → Int32) (lnX : Nat → Int32) (btX : Nat → Int64) (pnX : Nat → Int32) (naM : Nat) (neM : Nat) (kdM : Nat → Int32) (dpM : Nat → Int32) (clM : Nat → Int32) (saM : Nat → Int32) (lnM : Nat → Int32) (btM : Nat → Int64) (pnM : Nat → Int32) : Prop := naX = naM ∧ nuX = neM ∧ kdX = kdM ∧ dpX = dpM ∧ clX = clM ∧ saX = saM ∧ lnX = lnM ∧ pnX = pnM ∧ zz_KC naM kdM clM ∧ zz_R1 naM neM dpM saM lnM btX btM pnM
theorem zl_out {na ne a s l i : Nat} {dp sa ln : Nat → Int32} {bt : Nat → Int64} (h : zz_MI na ne dp sa ln bt) (ha : a < na) (es : sa a = nI s) (el : ln a = nI l) (hs : s ≤ 4000) (hl : l ≤ 200) (hd : dp a ≠ nI 1) (hi : i < l) : ∀ b s' l' : Nat, b < na → dp b = nI 1 → sa b = nI s' → ln b = nI l' → s' ≤ 4000 → l' ≤ 200 → s + i < s' ∨ s' + l' ≤ s + i := by
  intro b s' l' hb ed es' el' hs' hl'
  have hne : a ≠ b := fun e => hd (by rw [e]; exact ed)
  rcases Nat.lt_or_ge a b with q | q
  · have := h.2.1 a b s l s' q hb es el es' hs hl hs'
    omega
  · have := h.2.1 b a s' l' s (by omega) ha es' el' es hs' hl' hs
    omega
theorem zl_db {na ne a i s l : Nat} {dp sa ln : Nat → Int32} {btX btM : Nat → Int64} (h : zz_MI na ne dp sa ln btM) (hD : zz_D1 na dp sa ln btM btX) (ha : a < na) (hd : dp a ≠ nI 1) (es : sa a = nI s) (el : ln a = nI l) (hs : s ≤ 4000) (hl : l ≤ 200) (hi : i < l) : btX (s + i) = btM (s + i) := hD _ (zl_out h ha es el hs hl hd hi)
theorem zl_n1 {d : Nat} (h : d ≠ 1) (h4 : d ≤ 4) : nI d ≠ nI 1 := fun z => h (zl_inj z (by omega) (by omega))
theorem zl_MIX {na ne : Nat} {dp sa ln : Nat → Int32} {btX btM : Nat → Int64} (h : zz_MI na ne dp sa ln btM) (hD : zz_D1 na dp sa ln btM btX) : zz_MI na ne dp sa ln btX := by
  refine ⟨h.1, h.2.1, fun a sz lz dz ha es el ed hs hl hd h1 i hi => ?_⟩
  have hn : dp a ≠ nI 1 := by rw [ed]; exact zl_n1 (by omega) hd
  rw [zl_db h hD ha hn es el hs hl hi]
  exact h.2.2 a sz lz dz ha es el ed hs hl hd h1 i hi
theorem zz_RL.MI {naX : Nat} {nuX : Nat} {kdX : Nat → Int32} {dpX : Nat → Int32} {clX : Nat → Int32} {saX : Nat → Int32} {lnX : Nat → Int32} {btX : Nat → Int64} {pnX : Nat → Int32} {naM : Nat} {neM : Nat} {kdM : Nat → Int32} {dpM : Nat → Int32} {clM : Nat → Int32} {saM : Nat → Int32} {lnM : Nat → Int32} {btM : Nat → Int64} {pnM : Nat → Int32} (hM : zz_MI naM neM dpM saM lnM btM) (h : zz_RL naX nuX kdX dpX clX saX lnX btX pnX naM neM kdM dpM clM saM lnM btM pnM) : zz_MI naX nuX dpX saX lnX btX := by
  obtain ⟨rfl, rfl, rfl, rfl, rfl, rfl, rfl, rfl, hk, h⟩ := h
  exact zl_MIX hM h.1
theorem zl_hpLt {ln : Nat → Int32} {b l : Nat} {k : Int32} (el : ln b = nI l) (hl : l ≤ 200) (h : ¬ fn_co_hasPlace ln b k = 0) : ∃ q : Nat, k = nI q ∧ q < l := by
  unfold fn_co_hasPlace at h
  by_cases c : k < 0
  · rw [if_pos c] at h; exact absurd rfl h
  · obtain ⟨q, hq, e⟩ := nI_of c
    rw [if_neg c, el] at h
    by_cases d : nI l ≤ k
    · rw [if_pos d] at h; exact absurd rfl h
    · rw [e, nI_leI (by omega) hq] at d
      exact ⟨q, e, by omega⟩
theorem zl_walkeq {na ne : Nat} {dp sa ln : Nat → Int32} {btX btM : Nat → Int64} (h : zz_MI na ne dp sa ln btM) (hD : zz_D1 na dp sa ln btM btX) (p : Nat → Int32) : ∀ (s b n : Nat), b < na → sp_walk na dp sa ln btX s b n p = sp_walk na dp sa ln btM s b n p
  | 0, _, _, _ => rfl
  | s + 1, b, n, hb => by
    rw [sp_walk, sp_walk]
    by_cases c1 : fn_co_hasPlace ln b (p n) = 0
    · rw [if_pos c1, if_pos c1]
    · rw [if_neg c1, if_neg c1]
      by_cases c2 : dp b = 1
      · rw [if_pos c2, if_pos c2]
      · rw [if_neg c2, if_neg c2]
        obtain ⟨sz, lz, dz, es, el, ed, g1, g2, g3, g4⟩ := h.1.2.2 b hb
        have hne := h.1.2.1
        obtain ⟨q, eq, hq⟩ := zl_hpLt el g1 c1
        have e : btX ((sa b).toNatClampNeg + (p n).toNatClampNeg) = btM ((sa b).toNatClampNeg + (p n).toNatClampNeg) := by
          rw [es, eq, nI_clamp (show sz < 2 ^ 31 by omega), nI_clamp (show q < 2 ^ 31 by omega)]
          exact zl_db h hD hb (fun z => c2 (by rw [z]; rfl)) es el (by omega) g1 hq
        rw [e]
        by_cases c3 : fn_co_has (nI na) (btM ((sa b).toNatClampNeg + (p n).toNatClampNeg)).toInt32 = 0
        · rw [if_pos c3, if_pos c3]
        · rw [if_neg c3, if_neg c3]
          obtain ⟨r, hr, er⟩ := zl_has h.1.1 c3
          have er2 : (btM ((sa b).toNatClampNeg + (p n).toNatClampNeg)).toInt32.toNatClampNeg = r := by rw [er]; exact nI_clamp (by have := h.1.1; omega)
          rw [er2]
          exact zl_walkeq h hD p s r (n + 1) hr
theorem zl_rooms (na nu ll : Nat) (h1 : na ≤ 60) (h2 : nu ≤ 4000) (h3 : ll ≤ 200) : fn_cm_isRoom (nI na) (nI nu) 1 (nI ll).toInt64 = if na + 1 ≤ 60 ∧ nu + ll ≤ 4000 then 1 else 0 := by
  unfold fn_cm_isRoom
  rw [nI_l (show nu < 2 ^ 31 by omega), nI_l (show ll < 2 ^ 31 by omega), lN_add, nI_1, show (60 : Int32) = nI 60 by decide, show (4000 : Int64) = lN 4000 by decide]
  by_cases c : nI 60 < nI (na + 1)
  · rw [if_pos c]; rw [nI_ltI (by decide) (by omega)] at c; rw [if_neg (by omega)]
  · rw [if_neg c]; rw [nI_ltI (by decide) (by omega)] at c
    by_cases d : lN 4000 < lN (nu + ll)
    · rw [if_pos d]; rw [pk_lLT (by decide) (by omega)] at d; rw [if_neg (by omega)]
    · rw [if_neg d]; rw [pk_lLT (by decide) (by omega)] at d; rw [if_pos (by omega)]
theorem zz_KC.add {na : Nat} {kd cl : Nat → Int32} {x c : Int32} {k : Nat} (h : zz_KC na kd cl) (e : x = nI k) (hk : k ≤ 8) (hc : k < 8 → c = -1) : zz_KC (na + 1) (upd kd na x) (upd cl na c) := by
  intro a ha
  by_cases q : a = na
  · rw [q, pk_us, pk_us]; exact ⟨k, e, hk, hc⟩
  · rw [pk_un q, pk_un q]; exact h a (by omega)
theorem zz_R1.add {na ne n dq : Nat} {dp sa ln pn : Nat → Int32} {btX btM : Nat → Int64} (h : zz_R1 na ne dp sa ln btX btM pn) (hne : ne + n ≤ 4000) (hn : n ≤ 200) (hq : 1 ≤ dq) (hq4 : dq ≤ 4) : zz_R1 (na + 1) (ne + n) (upd dp na (nI dq)) (upd sa na (nI ne)) (upd ln na (nI n)) (zz_nb btX (nI dq) ne n) (zz_mb btM (nI dq) ne n) (zz_mp pn ne n) ∧ zz_mp pn ne n = pn := by
  obtain ⟨hD, hO⟩ := h
  have ep : zz_mp pn ne n = pn := by
    funext j
    unfold zz_mp
    by_cases q : ne ≤ j ∧ j < ne + n
    · rw [if_pos q, (hO j q.1).2]
    · rw [if_neg q]
  refine ⟨⟨fun j hj => ?_, fun j hj => ⟨?_, ?_⟩⟩, ep⟩
  · by_cases q : ne ≤ j ∧ j < ne + n
    · by_cases q1 : dq = 1
      · exfalso
        have := hj na ne n (Nat.lt_succ_self na) (by rw [pk_us, q1]) pk_us pk_us (by omega) hn
        omega
      · have z1 : ¬ nI dq ≤ 1 := fun z => by
          rw [show (1 : Int32) = nI 1 by decide, nI_leI (by omega) (by decide)] at z
          omega
        have z2 : ¬ nI dq = 1 := fun z => q1 (zl_inj (y := 1) z (by omega) (by omega))
        show zz_nb btX (nI dq) ne n j = zz_mb btM (nI dq) ne n j
        unfold zz_nb zz_mb
        rw [if_neg z1, if_pos q, if_pos q, if_neg z2]
    · have e : btX j = btM j := hD j (fun b s l hb ed es el hs hl => hj b s l (by omega) (by rw [pk_un (by omega)]; exact ed) (by rw [pk_un (by omega)]; exact es) (by rw [pk_un (by omega)]; exact el) hs hl)
      show zz_nb btX (nI dq) ne n j = zz_mb btM (nI dq) ne n j
      unfold zz_nb zz_mb
      by_cases z : nI dq ≤ 1
      · rw [if_pos z, if_neg q]; exact e
      · rw [if_neg z, if_neg q, if_neg q]; exact e
  · show zz_nb btX (nI dq) ne n j = 0
    unfold zz_nb
    by_cases z : nI dq ≤ 1
    · rw [if_pos z]; exact (hO j (by omega)).1
    · rw [if_neg z, if_neg (by omega)]; exact (hO j (by omega)).1
  · rw [ep]; exact (hO j (by omega)).2
theorem zz_R1.cpy {na ne n d a s l : Nat} {dp sa ln pn : Nat → Int32} {btX btM : Nat → Int64} (hM : zz_MI na ne dp sa ln btM) (h : zz_R1 na ne dp sa ln btX btM pn) (hne : ne + n ≤ 4000) (hn : n ≤ 200) (ha : a < na) (es : sa a = nI s) (el : ln a = nI l) (ed : dp a = nI d) (hl : l ≤ 200) (hs : s + l ≤ ne) (hq : 1 ≤ d) (hq4 : d ≤ 4) : zz_R1 (na + 1) (ne + n) (upd dp na (nI d)) (upd sa na (nI ne)) (upd ln na (nI n)) (va_cpy (zz_nb btX (nI d) ne n) (zz_nb btX (nI d) ne n) s ne (min l n)) (va_cpy (zz_mb btM (nI d) ne n) (zz_mb btM (nI d) ne n) s ne (min l n)) (zz_mp pn ne n) ∧ zz_mp pn ne n = pn := by
  obtain ⟨⟨g1, g2⟩, ep⟩ := h.add (n := n) hne hn hq hq4
  refine ⟨⟨fun j hj => ?_, fun j hj => ⟨?_, (g2 j hj).2⟩⟩, ep⟩
  · by_cases q : ne ≤ j ∧ j < ne + min l n
    · rw [pk_cpy_in q.1 q.2, pk_cpy_in q.1 q.2]
      by_cases q1 : d = 1
      · exfalso
        have := hj na ne n (Nat.lt_succ_self na) (by rw [pk_us, q1]) pk_us pk_us (by omega) hn
        omega
      · have e : btX (s + (j - ne)) = btM (s + (j - ne)) := zl_db hM h.1 ha (by rw [ed]; exact zl_n1 q1 hq4) es el (by omega) hl (by omega)
        have e1 : zz_nb btX (nI d) ne n (s + (j - ne)) = btX (s + (j - ne)) := by
          unfold zz_nb
          by_cases z : nI d ≤ 1
          · rw [if_pos z]
          · rw [if_neg z, if_neg (by omega)]
        have e2 : zz_mb btM (nI d) ne n (s + (j - ne)) = btM (s + (j - ne)) := by
          unfold zz_mb
          rw [if_neg (by omega)]
        rw [e1, e2]; exact e
    · rw [pk_cpy_out (by omega), pk_cpy_out (by omega)]
      exact g1 j hj
  · rw [pk_cpy_out (by omega)]
    exact (g2 j hj).1
/-- the reference's maker -/
def zz_mkM (na ne : Nat) (kd dp cl sa ln : Nat → Int32) (bt : Nat → Int64) (pn : Nat → Int32) (k d c x : Int32) : Int32 × Nat × Nat × (Nat → Int32) × (Nat → Int32) × (Nat → Int32) × (Nat → Int32) × (Nat → Int32) × (Nat → Int64) × (Nat → Int32) := if 0 ≤ x then (if 200 < x then (-8, na, ne, kd, dp, cl, sa, ln, bt, pn) else (if (fn_cm_isRoom (nI na) (nI ne) 1 ((nI x.toNatClampNeg).toInt64)) = 0 then (-8, na, ne, kd, dp, cl, sa, ln, bt, pn) else ((nI na), (na + 1), (ne + x.toNatClampNeg), (upd kd na k), (upd dp na d), (upd cl na c), (upd sa na (nI ne)), (upd ln na (nI x.toNatClampNeg)), (zz_mb bt d ne x.toNatClampNeg), (zz_mp pn ne x.toNatClampNeg)))) else (-4, na, ne, kd, dp, cl, sa, ln, bt, pn)
theorem zl_x200 {x : Int32} (h0 : 0 ≤ x) (h : ¬ 200 < x) : ∃ n : Nat, n ≤ 200 ∧ x = nI n := by
  have e0 : (0 : Int32).toInt = 0 := by decide
  have e2 : (200 : Int32).toInt = 200 := by decide
  rw [Int32.le_iff_toInt_le] at h0
  rw [Int32.lt_iff_toInt_lt] at h
  exact nI_of2 (x := x) (M := 200) (n := 200) (by decide) (by rw [Int32.lt_iff_toInt_lt]; omega) (by rw [Int32.le_iff_toInt_le]; omega)
theorem rl_make {na ne dq : Nat} {kd dp cl sa ln pn : Nat → Int32} {btX btM : Nat → Int64} {k c x : Int32} (hS : zz_SI na ne dp sa ln) :
    (fo_co_newArray na ne kd dp cl sa ln btX k dq c x = (-4, na, ne, kd, dp, cl, sa, ln, btX) ∧ zz_mkM na ne kd dp cl sa ln btM pn k (nI dq) c x = (-4, na, ne, kd, dp, cl, sa, ln, btM, pn)) ∨ (fo_co_newArray na ne kd dp cl sa ln btX k dq c x = (-8, na, ne, kd, dp, cl, sa, ln, btX) ∧ zz_mkM na ne kd dp cl sa ln btM pn k (nI dq) c x = (-8, na, ne, kd, dp, cl, sa, ln, btM, pn)) ∨ ∃ n : Nat, x.toNatClampNeg = n ∧ n ≤ 200 ∧ na + 1 ≤ 60 ∧ ne + n ≤ 4000 ∧ fo_co_newArray na ne kd dp cl sa ln btX k dq c x = (nI na, na + 1, ne + n, upd kd na k, upd dp na (nI dq), upd cl na c, upd sa na (nI ne), upd ln na (nI n), zz_nb btX (nI dq) ne n) ∧ zz_mkM na ne kd dp cl sa ln btM pn k (nI dq) c x = (nI na, na + 1, ne + n, upd kd na k, upd dp na (nI dq), upd cl na c, upd sa na (nI ne), upd ln na (nI n), zz_mb btM (nI dq) ne n, zz_mp pn ne n) := by
  unfold fo_co_newArray zz_mkM
  by_cases c0 : 0 ≤ x
  · rw [if_pos c0, if_pos c0]
    by_cases c1 : 200 < x
    · rw [if_pos c1, if_pos c1]; exact Or.inr (Or.inl ⟨rfl, rfl⟩)
    · rw [if_neg c1, if_neg c1]
      obtain ⟨n, hn, e⟩ := zl_x200 c0 c1
      have en : x.toNatClampNeg = n := by rw [e]; exact nI_clamp (by omega)
      rw [en, zl_fit na ne n hS.1 hS.2.1 hn, zl_rooms na ne n hS.1 hS.2.1 hn]
      by_cases c2 : na + 1 ≤ 60 ∧ ne + n ≤ 4000
      · rw [if_pos c2]
        exact Or.inr (Or.inr ⟨n, rfl, hn, c2.1, c2.2, if_neg (by decide), if_neg (by decide)⟩)
      · rw [if_neg c2]; exact Or.inr (Or.inl ⟨if_pos rfl, if_pos rfl⟩)
  · rw [if_neg c0, if_neg c0]; exact Or.inl ⟨rfl, rfl⟩
/-- a value that an element of a kind may have: of no-numbers the one, a float's bits are an int's -/
def zz_ok (k : Nat) (x : Int64) : Prop := (k = 6 → ¬ x < -2147483648) ∧ fn_cm_plain (nI k) x = x
theorem zl_ok0 {k : Nat} (h : k ≤ 8) : zz_ok k 0 := by
  have w : ∀ k, k < 9 → fn_cm_plain (nI k) 0 = 0 := by decide +kernel
  exact ⟨fun _ => by decide, w k (by omega)⟩
/-- what an element of an array may be: in depth 1 a value of its kind, else none or an array of its kind -/
def zz_vo (na : Nat) (kd dp : Nat → Int32) (a : Nat) (x : Int64) : Prop := (dp a = nI 1 → ∀ k, kd a = nI k → k ≤ 8 → zz_ok k x) ∧ (¬ dp a = nI 1 → x = -1 ∨ ∃ r, r < na ∧ x = lN r ∧ kd r = kd a)
def zz_EV (na : Nat) (kd dp sa ln : Nat → Int32) (bt : Nat → Int64) : Prop := ∀ a s l : Nat, a < na → sa a = nI s → ln a = nI l → s ≤ 4000 → l ≤ 200 → ∀ i, i < l → zz_vo na kd dp a (bt (s + i))
/-- all bits are equal, and values -/
def zz_Q (na : Nat) (kd dp sa ln : Nat → Int32) (btX btM : Nat → Int64) : Prop := btX = btM ∧ zz_EV na kd dp sa ln btM
/-- candidates are values of the kind of what they are for -/
def zz_CV (nd : Nat) (kd da co : Nat → Int32) (ca : Nat → Int64) : Prop := ∀ d b n k c : Nat, d < nd → da d = nI b → b < 60 → co d = nI n → n ≤ 16 → kd b = nI k → k ≤ 8 → c < n → zz_ok k (ca (16 * d + c))
theorem zz_CV.dec {nd b : Nat} {kd da co : Nat → Int32} {ca : Nat → Int64} (h : zz_CV nd kd da co ca) : zz_CV (nd + 1) kd (upd da nd (nI b)) (upd co nd 0) ca := by
  intro d b' n k c hd eb hb en hn ek hk hc
  by_cases q : d = nd
  · rw [q, pk_us] at en
    have : 0 = n := zl_inj (x := 0) en (by omega) (by omega)
    omega
  · rw [pk_un q] at eb en
    exact h d b' n k c (by omega) eb hb en hn ek hk hc
theorem zz_CV.grow {na nd : Nat} {kd kd2 dp sa ln da dq co : Nat → Int32} {ca : Nat → Int64} (h : zz_CV nd kd da co ca) (hD : zz_MD na nd dp sa ln da dq co) (hk : ∀ a, a < na → kd2 a = kd a) : zz_CV nd kd2 da co ca := by
  intro d b n k c hd eb hb en hn ek hk8 hc
  obtain ⟨b', q, sz, lz, n', e1, e2, e3, e4, e5⟩ := hD.2 d hd
  have e : b = b' := zl_inj (eb.symm.trans e1) (by omega) (by omega)
  rw [hk b (by omega)] at ek
  exact h d b n k c hd eb hb en hn ek hk8 hc
theorem zz_CV.app {nd d b n k : Nat} {kd da co : Nat → Int32} {ca : Nat → Int64} {x : Int64} (h : zz_CV nd kd da co ca) (eb : da d = nI b) (hb : b < 60) (ec : co d = nI n) (hn : n < 16) (ek : kd b = nI k) (hk : k ≤ 8) (hx : zz_ok k x) : zz_CV nd kd da (upd co d (nI (n + 1))) (vp_updL ca (16 * d + n) x) := by
  intro d' b' n' k' c hd eb' hb' en hn' ek' hk' hc
  by_cases q : d' = d
  · rw [q] at eb' en ⊢
    rw [pk_us] at en
    have e1 : b' = b := zl_inj (eb'.symm.trans eb) (by omega) (by omega)
    have ek2 := ek'
    rw [e1] at ek2
    have e2 : k' = k := zl_inj (ek2.symm.trans ek) (by omega) (by omega)
    have e3 : n + 1 = n' := zl_inj en (by omega) (by omega)
    by_cases w : c = n
    · rw [w, pk_uLs, e2]; exact hx
    · rw [pk_uLn (by omega)]
      exact h d b' n k' c (by omega) eb' hb' ec (by omega) ek' hk' (by omega)
  · rw [pk_un q] at en
    rw [pk_uLn (by omega)]
    exact h d' b' n' k' c hd eb' hb' en hn' ek' hk' hc
/-- rules judge arrays of depth 1 -/
def zz_RD (nr : Nat) (ju dp : Nat → Int32) : Prop := ∀ r a : Nat, r < nr → ju r = nI a → a < 60 → dp a = nI 1
theorem zz_RD.grow {na nr : Nat} {ju dp sa ln dp2 sa2 ln2 : Nat → Int32} (h : zz_RD nr ju dp) (hR : zz_RI na nr ju sa ln) (he : zz_EX na dp sa ln dp2 sa2 ln2) : zz_RD nr ju dp2 := fun r a hr ea ha => by
  obtain ⟨a', sz, lz, e1, e2, e3, e4⟩ := hR.2 r hr
  have e : a = a' := zl_inj (ea.symm.trans e1) (by omega) (by omega)
  rw [(he a (by omega)).2.2]; exact h r a hr ea ha
theorem zz_EV.of {na ne b s l : Nat} {kd dp sa ln : Nat → Int32} {bt bt1 bt2 : Nat → Int64} (hM : zz_MI na ne dp sa ln bt1) (h : zz_EV na kd dp sa ln bt) (hb : b < na) (es : sa b = nI s) (el : ln b = nI l) (hs : s ≤ 4000) (hl : l ≤ 200) (out : ∀ j, j < s ∨ s + l ≤ j → bt2 j = bt j) (inn : ∀ i, i < l → zz_vo na kd dp b (bt2 (s + i))) : zz_EV na kd dp sa ln bt2 := by
  intro a s' l' ha es' el' hs' hl' i hi
  by_cases q : a = b
  · rw [q] at es' el' ⊢
    have e1 : s' = s := zl_inj (es'.symm.trans es) hs' hs
    have e2 : l' = l := zl_inj (el'.symm.trans el) (by omega) (by omega)
    rw [e1]
    exact inn i (by omega)
  · have e : bt2 (s' + i) = bt (s' + i) := out _ (by
      rcases Nat.lt_or_ge a b with w | w
      · have := hM.2.1 a b s' l' s w hb es' el' es hs' hl' hs; omega
      · have := hM.2.1 b a s l s' (by omega) ha es el es' hs hl hs'; omega)
    rw [e]; exact h a s' l' ha es' el' hs' hl' i hi
theorem zz_vo.grow {na a : Nat} {kd dp : Nat → Int32} {x : Int64} {k d : Int32} (h : zz_vo na kd dp a x) (ha : a < na) : zz_vo (na + 1) (upd kd na k) (upd dp na d) a x := by
  have q : a ≠ na := by omega
  refine ⟨fun e => ?_, fun e => ?_⟩
  · rw [pk_un q] at e ⊢; exact h.1 e
  · rw [pk_un q] at e
    rcases h.2 e with z | ⟨r, hr, er, ek⟩
    · exact Or.inl z
    · exact Or.inr ⟨r, by omega, er, by rw [pk_un q, pk_un (by omega)]; exact ek⟩
theorem zz_EV.add {na ne n : Nat} {kd dp sa ln : Nat → Int32} {bt bt2 : Nat → Int64} {x d : Int32} (h : zz_EV na kd dp sa ln bt) (hS : ∀ a s l : Nat, a < na → sa a = nI s → ln a = nI l → s ≤ 4000 → l ≤ 200 → s + l ≤ ne) (hne : ne ≤ 4000) (hn : n ≤ 200) (old : ∀ j, j < ne → bt2 j = bt j) (new : ∀ i, i < n → (d = nI 1 → ∀ k, x = nI k → k ≤ 8 → zz_ok k (bt2 (ne + i))) ∧ (¬ d = nI 1 → bt2 (ne + i) = -1 ∨ ∃ r, r < na ∧ bt2 (ne + i) = lN r ∧ kd r = x)) : zz_EV (na + 1) (upd kd na x) (upd dp na d) (upd sa na (nI ne)) (upd ln na (nI n)) bt2 := by
  intro a s l ha es el hs hl i hi
  by_cases q : a = na
  · rw [q] at es el ⊢
    rw [pk_us] at es el
    have e1 : ne = s := zl_inj es hne hs
    have e2 : n = l := zl_inj el (by omega) (by omega)
    rw [← e1]
    obtain ⟨n1, n2⟩ := new i (by omega)
    refine ⟨fun e => ?_, fun e => ?_⟩
    · rw [pk_us] at e ⊢; exact n1 e
    · rw [pk_us] at e
      rcases n2 e with z | ⟨r, hr, er, ek⟩
      · exact Or.inl z
      · exact Or.inr ⟨r, by omega, er, by rw [pk_us, pk_un (by omega)]; exact ek⟩
  · rw [pk_un q] at es el
    have := hS a s l (by omega) es el hs hl
    rw [old _ (by omega)]
    exact (h a s l (by omega) es el hs hl i hi).grow (by omega)
theorem zz_SI.ends {na ne : Nat} {dp sa ln : Nat → Int32} (h : zz_SI na ne dp sa ln) : ∀ a s l : Nat, a < na → sa a = nI s → ln a = nI l → s ≤ 4000 → l ≤ 200 → s + l ≤ ne := fun a s l ha es el hs hl => by
  obtain ⟨s', l', d', e1, e2, e3, g1, g2, g3, g4⟩ := h.2.2 a ha
  have hne := h.2.1
  have q1 : s = s' := zl_inj (es.symm.trans e1) hs (by omega)
  have q2 : l = l' := zl_inj (el.symm.trans e2) (by omega) (by omega)
  omega
theorem zl_nbmb {bt : Nat → Int64} {ne n dq : Nat} (h1 : 1 ≤ dq) (h4 : dq ≤ 4) (h : ∀ j, ne ≤ j → bt j = 0) : zz_nb bt (nI dq) ne n = zz_mb bt (nI dq) ne n := by
  funext j
  unfold zz_nb zz_mb
  have w : nI dq ≤ 1 ↔ dq = 1 := by rw [show (1 : Int32) = nI 1 by decide, nI_leI (by omega) (by decide)]; omega
  have w2 : nI dq = 1 ↔ dq = 1 := ⟨fun z => zl_inj (y := 1) z (by omega) (by omega), fun z => by rw [z]; rfl⟩
  by_cases q : ne ≤ j ∧ j < ne + n
  · rw [if_pos q, if_pos q]
    by_cases c : dq = 1
    · rw [if_pos (w.mpr c), if_pos (w2.mpr c)]; exact h j q.1
    · rw [if_neg (fun z => c (w.mp z)), if_neg (fun z => c (w2.mp z))]
  · rw [if_neg q, if_neg q, ite_self]
theorem zl_mbO {bt : Nat → Int64} {d : Int32} {ne n j : Nat} (h : j < ne) : zz_mb bt d ne n j = bt j := by
  unfold zz_mb; rw [if_neg (by omega)]
theorem zl_mb1 {bt : Nat → Int64} {d : Int32} {ne n i : Nat} (e : d = nI 1) (h : i < n) : zz_mb bt d ne n (ne + i) = 0 := by
  unfold zz_mb; rw [if_pos (by omega), if_pos (show d = 1 from e)]
theorem zl_mbN {bt : Nat → Int64} {d : Int32} {ne n i : Nat} (e : ¬ d = nI 1) (h : i < n) : zz_mb bt d ne n (ne + i) = -1 := by
  unfold zz_mb; rw [if_pos (by omega), if_neg (show ¬ d = 1 from e)]
theorem zl_mbV {bt : Nat → Int64} {d x : Int32} {na ne n i : Nat} {kd : Nat → Int32} (h : i < n) : (d = nI 1 → ∀ k, x = nI k → k ≤ 8 → zz_ok k (zz_mb bt d ne n (ne + i))) ∧ (¬ d = nI 1 → zz_mb bt d ne n (ne + i) = -1 ∨ ∃ r, r < na ∧ zz_mb bt d ne n (ne + i) = lN r ∧ kd r = x) := ⟨fun e k _ hk => by rw [zl_mb1 e h]; exact zl_ok0 hk, fun e => Or.inl (zl_mbN e h)⟩
theorem zz_Q.mk {na ne n dq : Nat} {kd dp sa ln pn : Nat → Int32} {btX btM : Nat → Int64} {k : Int32} (hq : zz_Q na kd dp sa ln btX btM) (hS : zz_SI na ne dp sa ln) (h : zz_R1 na ne dp sa ln btX btM pn) (hn : n ≤ 200) (h1 : 1 ≤ dq) (h4 : dq ≤ 4) : zz_Q (na + 1) (upd kd na k) (upd dp na (nI dq)) (upd sa na (nI ne)) (upd ln na (nI n)) (zz_nb btX (nI dq) ne n) (zz_mb btM (nI dq) ne n) := by
  obtain ⟨e, hv⟩ := hq
  subst e
  exact ⟨zl_nbmb h1 h4 (fun j hj => (h.2 j hj).1), hv.add hS.ends hS.2.1 hn (fun j hj => zl_mbO hj) (fun i hi => zl_mbV hi)⟩
theorem zz_Q.cpy {na ne n d a s l : Nat} {kd dp sa ln pn : Nat → Int32} {btX btM : Nat → Int64} (hq : zz_Q na kd dp sa ln btX btM) (hS : zz_SI na ne dp sa ln) (h : zz_R1 na ne dp sa ln btX btM pn) (hn : n ≤ 200) (ha : a < na) (es : sa a = nI s) (el : ln a = nI l) (ed : dp a = nI d) (hl : l ≤ 200) (hs : s + l ≤ ne) (h1 : 1 ≤ d) (h4 : d ≤ 4) : zz_Q (na + 1) (upd kd na (kd a)) (upd dp na (nI d)) (upd sa na (nI ne)) (upd ln na (nI n)) (va_cpy (zz_nb btX (nI d) ne n) (zz_nb btX (nI d) ne n) s ne (min l n)) (va_cpy (zz_mb btM (nI d) ne n) (zz_mb btM (nI d) ne n) s ne (min l n)) := by
  obtain ⟨e, hv⟩ := hq
  subst e
  have hne := hS.2.1
  have eb : zz_nb btX (nI d) ne n = zz_mb btX (nI d) ne n := zl_nbmb h1 h4 (fun j hj => (h.2 j hj).1)
  refine ⟨by rw [eb], hv.add hS.ends hne hn (fun j hj => ?_) (fun i hi => ?_)⟩
  · rw [pk_cpy_out (by omega), zl_mbO hj]
  · by_cases q : i < min l n
    · rw [pk_cpy_in (by omega) (by omega), show s + (ne + i - ne) = s + i by omega, zl_mbO (by omega)]
      have z := hv a s l ha es el (by omega) hl i (by omega)
      unfold zz_vo at z
      rw [ed] at z
      exact z
    · rw [pk_cpy_out (by omega)]; exact zl_mbV hi
theorem zz_Q.wr {na ne a s l i : Nat} {kd dp sa ln : Nat → Int32} {btX btM bt1 : Nat → Int64} {x : Int64} (hq : zz_Q na kd dp sa ln btX btM) (hM : zz_MI na ne dp sa ln bt1) (ha : a < na) (es : sa a = nI s) (el : ln a = nI l) (hs : s ≤ 4000) (hl : l ≤ 200) (hi : i < l) (inn : zz_vo na kd dp a x) : zz_Q na kd dp sa ln (vp_updL btX (s + i) x) (vp_updL btM (s + i) x) := by
  obtain ⟨e, hv⟩ := hq
  refine ⟨by rw [e], hv.of hM ha es el hs hl (fun j hj => pk_uLn (by omega)) (fun j hj => ?_)⟩
  by_cases q : j = i
  · rw [q, pk_uLs]; exact inn
  · rw [pk_uLn (by omega)]; exact hv a s l ha es el hs hl j hj
/-- in depth 1 -/
theorem zz_vo.d1 {na a k : Nat} {kd dp : Nat → Int32} {x : Int64} (e : dp a = nI 1) (ek : kd a = nI k) (hk : k ≤ 8) (h : zz_ok k x) : zz_vo na kd dp a x := ⟨fun _ k' ek' hk' => by rw [show k' = k from zl_inj (ek'.symm.trans ek) (by omega) (by omega)]; exact h, fun n => absurd e n⟩

theorem rl_fin {na ne dq kn : Nat} {kd dp cl sa ln pn : Nat → Int32} {btX btM : Nat → Int64} {k c x : Int32} {r : Int32} {na2 : Nat} {nu2 : Nat} {kd2 : Nat → Int32} {dp2 : Nat → Int32} {cl2 : Nat → Int32} {sa2 : Nat → Int32} {ln2 : Nat → Int32} {bt2 : Nat → Int64} {r' : Int32} {na3 : Nat} {ne3 : Nat} {kd3 : Nat → Int32} {dp3 : Nat → Int32} {cl3 : Nat → Int32} {sa3 : Nat → Int32} {ln3 : Nat → Int32} {bt3 : Nat → Int64} {pn3 : Nat → Int32} (hS : zz_SI na ne dp sa ln) (hk : zz_KC na kd cl) (h : zz_R1 na ne dp sa ln btX btM pn) (hq : 1 ≤ dq) (hq4 : dq ≤ 4) (ek : k = nI kn) (hk8 : kn ≤ 8) (hc : kn < 8 → c = -1) (fx : (r, na2, nu2, kd2, dp2, cl2, sa2, ln2, bt2) = fo_co_newArray na ne kd dp cl sa ln btX k dq c x) (fm : (r', na3, ne3, kd3, dp3, cl3, sa3, ln3, bt3, pn3) = zz_mkM na ne kd dp cl sa ln btM pn k (nI dq) c x) : r = r' ∧ zz_RL na2 nu2 kd2 dp2 cl2 sa2 ln2 bt2 pn na3 ne3 kd3 dp3 cl3 sa3 ln3 bt3 pn3 ∧ (zz_Q na kd dp sa ln btX btM → zz_Q na3 kd3 dp3 sa3 ln3 bt2 bt3) ∧ (∀ a, a < na → kd3 a = kd a) := by
  rcases rl_make (kd := kd) (cl := cl) (k := k) (c := c) (x := x) (btX := btX) (btM := btM) (pn := pn) (dq := dq) hS with ⟨e1, e2⟩ | ⟨e1, e2⟩ | ⟨n, en, hn, h1, h2, e1, e2⟩
  · rw [e1] at fx; rw [e2] at fm; cases fx; cases fm
    exact ⟨rfl, ⟨rfl, rfl, rfl, rfl, rfl, rfl, rfl, rfl, hk, h⟩, id, fun _ _ => rfl⟩
  · rw [e1] at fx; rw [e2] at fm; cases fx; cases fm
    exact ⟨rfl, ⟨rfl, rfl, rfl, rfl, rfl, rfl, rfl, rfl, hk, h⟩, id, fun _ _ => rfl⟩
  · rw [e1] at fx; rw [e2] at fm; cases fx; cases fm
    obtain ⟨g, ep⟩ := h.add (n := n) h2 hn hq hq4
    exact ⟨rfl, ⟨rfl, rfl, rfl, rfl, rfl, rfl, rfl, ep.symm, hk.add ek hk8 hc, g⟩, fun z => z.mk hS h hn hq hq4, fun a ha => pk_un (by omega)⟩
theorem rl_cpf {na ne d a s l : Nat} {kd dp cl sa ln pn : Nat → Int32} {btX btM : Nat → Int64} {x : Int32} {r : Int32} {na2 : Nat} {nu2 : Nat} {kd2 : Nat → Int32} {dp2 : Nat → Int32} {cl2 : Nat → Int32} {sa2 : Nat → Int32} {ln2 : Nat → Int32} {bt2 : Nat → Int64} {r' : Int32} {na3 : Nat} {ne3 : Nat} {kd3 : Nat → Int32} {dp3 : Nat → Int32} {cl3 : Nat → Int32} {sa3 : Nat → Int32} {ln3 : Nat → Int32} {bt3 : Nat → Int64} {pn3 : Nat → Int32} (hM : zz_MI na ne dp sa ln btM) (hk : zz_KC na kd cl) (h : zz_R1 na ne dp sa ln btX btM pn) (ha : a < na) (es : sa a = nI s) (el : ln a = nI l) (ed : dp a = nI d) (hl : l ≤ 200) (hs : s + l ≤ ne) (hq : 1 ≤ d) (hq4 : d ≤ 4)
    (fx : (r, na2, nu2, kd2, dp2, cl2, sa2, ln2, bt2) = (if ((fo_co_newArray na ne kd dp cl sa ln btX (kd a) d (cl a) x).1) < 0 then fo_co_newArray na ne kd dp cl sa ln btX (kd a) d (cl a) x else (nI na, (fo_co_newArray na ne kd dp cl sa ln btX (kd a) d (cl a) x).2.1, (fo_co_newArray na ne kd dp cl sa ln btX (kd a) d (cl a) x).2.2.1, (fo_co_newArray na ne kd dp cl sa ln btX (kd a) d (cl a) x).2.2.2.1, (fo_co_newArray na ne kd dp cl sa ln btX (kd a) d (cl a) x).2.2.2.2.1, (fo_co_newArray na ne kd dp cl sa ln btX (kd a) d (cl a) x).2.2.2.2.2.1, (fo_co_newArray na ne kd dp cl sa ln btX (kd a) d (cl a) x).2.2.2.2.2.2.1, (fo_co_newArray na ne kd dp cl sa ln btX (kd a) d (cl a) x).2.2.2.2.2.2.2.1, va_cpy ((fo_co_newArray na ne kd dp cl sa ln btX (kd a) d (cl a) x).2.2.2.2.2.2.2.2) ((fo_co_newArray na ne kd dp cl sa ln btX (kd a) d (cl a) x).2.2.2.2.2.2.2.2) s ne (min l x.toNatClampNeg))))
    (fm : (r', na3, ne3, kd3, dp3, cl3, sa3, ln3, bt3, pn3) = (if (zz_mkM na ne kd dp cl sa ln btM pn (kd a) (nI d) (cl a) x).1 < 0 then zz_mkM na ne kd dp cl sa ln btM pn (kd a) (nI d) (cl a) x else (nI na, (zz_mkM na ne kd dp cl sa ln btM pn (kd a) (nI d) (cl a) x).2.1, (zz_mkM na ne kd dp cl sa ln btM pn (kd a) (nI d) (cl a) x).2.2.1, (zz_mkM na ne kd dp cl sa ln btM pn (kd a) (nI d) (cl a) x).2.2.2.1, (zz_mkM na ne kd dp cl sa ln btM pn (kd a) (nI d) (cl a) x).2.2.2.2.1, (zz_mkM na ne kd dp cl sa ln btM pn (kd a) (nI d) (cl a) x).2.2.2.2.2.1, (zz_mkM na ne kd dp cl sa ln btM pn (kd a) (nI d) (cl a) x).2.2.2.2.2.2.1, (zz_mkM na ne kd dp cl sa ln btM pn (kd a) (nI d) (cl a) x).2.2.2.2.2.2.2.1, va_cpy ((zz_mkM na ne kd dp cl sa ln btM pn (kd a) (nI d) (cl a) x).2.2.2.2.2.2.2.2.1) ((zz_mkM na ne kd dp cl sa ln btM pn (kd a) (nI d) (cl a) x).2.2.2.2.2.2.2.2.1) s ne (min l x.toNatClampNeg), (zz_mkM na ne kd dp cl sa ln btM pn (kd a) (nI d) (cl a) x).2.2.2.2.2.2.2.2.2))) : r = r' ∧ zz_RL na2 nu2 kd2 dp2 cl2 sa2 ln2 bt2 pn na3 ne3 kd3 dp3 cl3 sa3 ln3 bt3 pn3 ∧ (zz_Q na kd dp sa ln btX btM → zz_Q na3 kd3 dp3 sa3 ln3 bt2 bt3) ∧ (∀ a, a < na → kd3 a = kd a) := by
  rcases rl_make (kd := kd) (cl := cl) (k := kd a) (c := cl a) (x := x) (btX := btX) (btM := btM) (pn := pn) (dq := d) hM.1 with ⟨e1, e2⟩ | ⟨e1, e2⟩ | ⟨n, en, hn, h1, h2, e1, e2⟩
  · rw [e1, if_pos (show (-4 : Int32) < 0 by decide)] at fx; rw [e2, if_pos (show (-4 : Int32) < 0 by decide)] at fm; cases fx; cases fm
    exact ⟨rfl, ⟨rfl, rfl, rfl, rfl, rfl, rfl, rfl, rfl, hk, h⟩, id, fun _ _ => rfl⟩
  · rw [e1, if_pos (show (-8 : Int32) < 0 by decide)] at fx; rw [e2, if_pos (show (-8 : Int32) < 0 by decide)] at fm; cases fx; cases fm
    exact ⟨rfl, ⟨rfl, rfl, rfl, rfl, rfl, rfl, rfl, rfl, hk, h⟩, id, fun _ _ => rfl⟩
  · have hn0 : ¬ nI na < 0 := nI_pos (by have := hM.1.1; omega)
    rw [e1, if_neg hn0, en] at fx; rw [e2, if_neg hn0, en] at fm; cases fx; cases fm
    obtain ⟨g, ep⟩ := zz_R1.cpy (n := n) hM h h2 hn ha es el ed hl hs hq hq4
    obtain ⟨k, ek, hk8, hc⟩ := hk a ha
    exact ⟨rfl, ⟨rfl, rfl, rfl, rfl, rfl, rfl, rfl, ep.symm, hk.add ek hk8 hc, g⟩, fun z => z.cpy hM.1 h hn ha es el ed hl hs hq hq4, fun a ha => pk_un (by omega)⟩
theorem zz_R1.wr {na ne a s l i : Nat} {dp sa ln pn : Nat → Int32} {btX btM : Nat → Int64} {x : Int64} (hM : zz_MI na ne dp sa ln btM) (h : zz_R1 na ne dp sa ln btX btM pn) (ha : a < na) (es : sa a = nI s) (hs : s + l ≤ ne) (hi : i < l) : zz_R1 na ne dp sa ln (vp_updL btX (s + i) x) (vp_updL btM (s + i) x) pn := by
  refine ⟨fun j hj => ?_, fun j hj => ⟨?_, (h.2 j hj).2⟩⟩
  · by_cases q : j = s + i
    · rw [q, pk_uLs, pk_uLs]
    · rw [pk_uLn q, pk_uLn q]; exact h.1 j hj
  · rw [pk_uLn (by omega)]; exact (h.2 j hj).1
theorem zz_R1.bits {na ne : Nat} {dp sa ln pn : Nat → Int32} {btX btM bX bM : Nat → Int64} (hM : zz_MI na ne dp sa ln btM) (h : zz_R1 na ne dp sa ln btX btM pn) (hx : zz_D1 na dp sa ln btX bX) (hm : zz_D1 na dp sa ln btM bM) : zz_R1 na ne dp sa ln bX bM pn := by
  refine ⟨fun j hj => ((hx j hj).trans (h.1 j hj)).trans (hm j hj).symm, fun j hj => ⟨?_, (h.2 j hj).2⟩⟩
  rw [hx j (fun b s l hb ed es el hs hl => ?_)]
  · exact (h.2 j hj).1
  · obtain ⟨s', l', d', es', el', ed', g1, g2, g3, g4⟩ := hM.1.2.2 b hb
    have hne := hM.1.2.1
    have q1 : s = s' := zl_inj (es.symm.trans es') hs (by omega)
    have q2 : l = l' := zl_inj (el.symm.trans el') (by omega) (by omega)
    omega
theorem zz_RL.bits {naX : Nat} {nuX : Nat} {kdX : Nat → Int32} {dpX : Nat → Int32} {clX : Nat → Int32} {saX : Nat → Int32} {lnX : Nat → Int32} {btX : Nat → Int64} {pnX : Nat → Int32} {naM : Nat} {neM : Nat} {kdM : Nat → Int32} {dpM : Nat → Int32} {clM : Nat → Int32} {saM : Nat → Int32} {lnM : Nat → Int32} {btM : Nat → Int64} {pnM : Nat → Int32} {bX bM : Nat → Int64} (hM : zz_MI naM neM dpM saM lnM btM) (h : zz_RL naX nuX kdX dpX clX saX lnX btX pnX naM neM kdM dpM clM saM lnM btM pnM) (hx : zz_D1 naX dpX saX lnX btX bX) (hm : zz_D1 naM dpM saM lnM btM bM) : zz_RL naX nuX kdX dpX clX saX lnX bX pnX naM neM kdM dpM clM saM lnM bM pnM := by
  obtain ⟨rfl, rfl, rfl, rfl, rfl, rfl, rfl, rfl, hk, h⟩ := h
  exact ⟨rfl, rfl, rfl, rfl, rfl, rfl, rfl, rfl, hk, h.bits hM hx hm⟩
theorem zz_RL.both {naX : Nat} {nuX : Nat} {kdX : Nat → Int32} {dpX : Nat → Int32} {clX : Nat → Int32} {saX : Nat → Int32} {lnX : Nat → Int32} {btX : Nat → Int64} {pnX : Nat → Int32} {naM : Nat} {neM : Nat} {kdM : Nat → Int32} {dpM : Nat → Int32} {clM : Nat → Int32} {saM : Nat → Int32} {lnM : Nat → Int32} {btM : Nat → Int64} {pnM : Nat → Int32} {bX bM : Nat → Int64} (h : zz_RL naX nuX kdX dpX clX saX lnX btX pnX naM neM kdM dpM clM saM lnM btM pnM) (hb : zz_R1 naM neM dpM saM lnM bX bM pnM) : zz_RL naX nuX kdX dpX clX saX lnX bX pnX naM neM kdM dpM clM saM lnM bM pnM := by
  obtain ⟨h1, h2, h3, h4, h5, h6, h7, h8, hk, h⟩ := h
  exact ⟨h1, h2, h3, h4, h5, h6, h7, h8, hk, hb⟩
theorem zl_walkres {na ne : Nat} {dp sa ln : Nat → Int32} {bt : Nat → Int64} (hS : zz_SI na ne dp sa ln) (p : Nat → Int32) : ∀ (s b n : Nat), b < na → sp_walk na dp sa ln bt s b n p = -2 ∨ sp_walk na dp sa ln bt s b n p = -3 ∨ ∃ b' q sz lz : Nat, sp_walk na dp sa ln bt s b n p = nI (1000 * b' + q) ∧ b' < na ∧ b' < 60 ∧ dp b' = nI 1 ∧ sa b' = nI sz ∧ ln b' = nI lz ∧ q < lz ∧ lz ≤ 200 ∧ sz + lz ≤ ne
  | 0, _, _, _ => Or.inl rfl
  | s + 1, b, n, hb => by
    rw [sp_walk]
    by_cases c1 : fn_co_hasPlace ln b (p n) = 0
    · rw [if_pos c1]; exact Or.inl rfl
    · rw [if_neg c1]
      obtain ⟨sz, lz, dz, es, el, ed, g1, g2, g3, g4⟩ := hS.2.2 b hb
      obtain ⟨q, eq, hq⟩ := zl_hpLt el g1 c1
      by_cases c2 : dp b = 1
      · rw [if_pos c2, eq, nI_clamp (show q < 2 ^ 31 by omega)]
        exact Or.inr (Or.inr ⟨b, q, sz, lz, rfl, hb, by have := hS.1; omega, c2, es, el, hq, g1, g2⟩)
      · rw [if_neg c2]
        by_cases c3 : fn_co_has (nI na) (bt ((sa b).toNatClampNeg + (p n).toNatClampNeg)).toInt32 = 0
        · rw [if_pos c3]; exact Or.inr (Or.inl rfl)
        · rw [if_neg c3]
          obtain ⟨r, hr, er⟩ := zl_has hS.1 c3
          have er2 : (bt ((sa b).toNatClampNeg + (p n).toNatClampNeg)).toInt32.toNatClampNeg = r := by rw [er]; exact nI_clamp (by have := hS.1; omega)
          rw [er2]
          exact zl_walkres hS p s r (n + 1) hr
theorem zl_wN {b q : Nat} (hb : b < 60) (hq : q < 200) : (0 : Int32) ≤ nI (1000 * b + q) ∧ (nI (1000 * b + q)).toNatClampNeg / 1000 = b ∧ (nI (1000 * b + q)).toNatClampNeg % 1000 = q := by
  rw [nI_clamp (by omega)]
  exact ⟨nI_pos' (by omega), by omega, by omega⟩
theorem zl_1000b (b q : Nat) : (1000 : Int32) * nI b + nI q = nI (1000 * b + q) := by
  rw [← zl_1000, Int32.mul_comm]
theorem rl0_array {na : Nat} {ne : Nat} {kd : Nat → Int32} {dp : Nat → Int32} {cl : Nat → Int32} {sa : Nat → Int32} {ln : Nat → Int32} {pn : Nat → Int32} {btX : Nat → Int64} {btM : Nat → Int64} {x1 : Int32} {x2 : Int32} {r : Int32} {na2 : Nat} {nu2 : Nat} {kd2 : Nat → Int32} {dp2 : Nat → Int32} {cl2 : Nat → Int32} {sa2 : Nat → Int32} {ln2 : Nat → Int32} {bt2 : Nat → Int64} {r' : Int32} {na3 : Nat} {ne3 : Nat} {kd3 : Nat → Int32} {dp3 : Nat → Int32} {cl3 : Nat → Int32} {sa3 : Nat → Int32} {ln3 : Nat → Int32} {bt3 : Nat → Int64} {pn3 : Nat → Int32} (hM : zz_MI na ne dp sa ln btM) (hk : zz_KC na kd cl) (h : zz_R1 na ne dp sa ln btX btM pn) (fx : (r, na2, nu2, kd2, dp2, cl2, sa2, ln2, bt2) = fo_cx_array na ne kd dp cl sa ln btX x1 x2) (fm : (r', na3, ne3, kd3, dp3, cl3, sa3, ln3, bt3, pn3) = fo_my_array na ne kd dp ln cl sa btM pn x1 x2) : r = r' ∧ zz_RL na2 nu2 kd2 dp2 cl2 sa2 ln2 bt2 pn na3 ne3 kd3 dp3 cl3 sa3 ln3 bt3 pn3 ∧ (zz_Q na kd dp sa ln btX btM → zz_Q na3 kd3 dp3 sa3 ln3 bt2 bt3) ∧ (∀ a, a < na → kd3 a = kd a) := by
  unfold fo_cx_array at fx
  unfold fo_my_array at fm
  by_cases c : fn_cm_within x1.toInt64 0 8 = 0
  · rw [if_pos ((zl_kind x1).mpr c)] at fx
    rw [if_pos c] at fm
    cases fx; cases fm
    exact ⟨rfl, ⟨rfl, rfl, rfl, rfl, rfl, rfl, rfl, rfl, hk, h⟩, id, fun _ _ => rfl⟩
  · rw [if_neg (fun q => c ((zl_kind x1).mp q))] at fx
    rw [if_neg c] at fm
    obtain ⟨j, hj, ej⟩ := zl_08 c
    exact rl_fin hM.1 hk h (dq := 1) (kn := j) (by decide) (by decide) ej (by omega) (fun _ => rfl) fx fm
theorem rl_array {naX : Nat} {nuX : Nat} {kdX : Nat → Int32} {dpX : Nat → Int32} {clX : Nat → Int32} {saX : Nat → Int32} {lnX : Nat → Int32} {btX : Nat → Int64} {pnX : Nat → Int32} {naM : Nat} {neM : Nat} {kdM : Nat → Int32} {dpM : Nat → Int32} {clM : Nat → Int32} {saM : Nat → Int32} {lnM : Nat → Int32} {btM : Nat → Int64} {pnM : Nat → Int32} {x1 : Int32} {x2 : Int32} {r : Int32} {na2 : Nat} {nu2 : Nat} {kd2 : Nat → Int32} {dp2 : Nat → Int32} {cl2 : Nat → Int32} {sa2 : Nat → Int32} {ln2 : Nat → Int32} {bt2 : Nat → Int64} {r' : Int32} {na3 : Nat} {ne3 : Nat} {kd3 : Nat → Int32} {dp3 : Nat → Int32} {cl3 : Nat → Int32} {sa3 : Nat → Int32} {ln3 : Nat → Int32} {bt3 : Nat → Int64} {pn3 : Nat → Int32} (hM : zz_MI naM neM dpM saM lnM btM) (h : zz_RL naX nuX kdX dpX clX saX lnX btX pnX naM neM kdM dpM clM saM lnM btM pnM) (fx : (r, na2, nu2, kd2, dp2, cl2, sa2, ln2, bt2) = fo_cx_array naX nuX kdX dpX clX saX lnX btX x1 x2) (fm : (r', na3, ne3, kd3, dp3, cl3, sa3, ln3, bt3, pn3) = fo_my_array naM neM kdM dpM lnM clM saM btM pnM x1 x2) : r = r' ∧ zz_RL na2 nu2 kd2 dp2 cl2 sa2 ln2 bt2 pnX na3 ne3 kd3 dp3 cl3 sa3 ln3 bt3 pn3 ∧ (zz_Q naM kdM dpM saM lnM btX btM → zz_Q na3 kd3 dp3 sa3 ln3 bt2 bt3) ∧ (∀ a, a < naM → kd3 a = kdM a) := by
  obtain ⟨rfl, rfl, rfl, rfl, rfl, rfl, rfl, rfl, hk, h⟩ := h
  exact rl0_array hM hk h fx fm
theorem rl0_things {na : Nat} {ne : Nat} {kd : Nat → Int32} {dp : Nat → Int32} {cl : Nat → Int32} {sa : Nat → Int32} {ln : Nat → Int32} {pn : Nat → Int32} {btX : Nat → Int64} {btM : Nat → Int64} {x1 : Int32} {x2 : Int32} {r : Int32} {na2 : Nat} {nu2 : Nat} {kd2 : Nat → Int32} {dp2 : Nat → Int32} {cl2 : Nat → Int32} {sa2 : Nat → Int32} {ln2 : Nat → Int32} {bt2 : Nat → Int64} {r' : Int32} {na3 : Nat} {ne3 : Nat} {kd3 : Nat → Int32} {dp3 : Nat → Int32} {cl3 : Nat → Int32} {sa3 : Nat → Int32} {ln3 : Nat → Int32} {bt3 : Nat → Int64} {pn3 : Nat → Int32} (hM : zz_MI na ne dp sa ln btM) (hk : zz_KC na kd cl) (h : zz_R1 na ne dp sa ln btX btM pn) (fx : (r, na2, nu2, kd2, dp2, cl2, sa2, ln2, bt2) = fo_cx_things na ne kd dp cl sa ln btX x1 x2) (fm : (r', na3, ne3, kd3, dp3, cl3, sa3, ln3, bt3, pn3) = fo_my_things na ne kd dp ln cl sa btM pn x1 x2) : r = r' ∧ zz_RL na2 nu2 kd2 dp2 cl2 sa2 ln2 bt2 pn na3 ne3 kd3 dp3 cl3 sa3 ln3 bt3 pn3 ∧ (zz_Q na kd dp sa ln btX btM → zz_Q na3 kd3 dp3 sa3 ln3 bt2 bt3) ∧ (∀ a, a < na → kd3 a = kd a) := by
  unfold fo_cx_things at fx
  unfold fo_my_things at fm
  have w := zl_win x1 0 6
  rw [show (0 : Int64).toInt = 0 by decide, show (6 : Int64).toInt = 6 by decide] at w
  have e0 : (0 : Int32).toInt = 0 := by decide
  have e7 : (7 : Int32).toInt = 7 := by decide
  by_cases c : fn_cm_within x1.toInt64 0 6 = 0
  · rw [if_pos c] at fm
    have w1 := w.mp c
    by_cases c1 : x1 < 0
    · rw [if_pos c1] at fx
      cases fx; cases fm
      exact ⟨rfl, ⟨rfl, rfl, rfl, rfl, rfl, rfl, rfl, rfl, hk, h⟩, id, fun _ _ => rfl⟩
    · have c2 : ¬ x1 < 7 := fun z => by
        rw [Int32.lt_iff_toInt_lt] at c1 z
        omega
      rw [if_neg c1, if_neg c2] at fx
      cases fx; cases fm
      exact ⟨rfl, ⟨rfl, rfl, rfl, rfl, rfl, rfl, rfl, rfl, hk, h⟩, id, fun _ _ => rfl⟩
  · rw [if_neg c] at fm
    have w1 : ¬ (x1.toInt < 0 ∨ 6 < x1.toInt) := fun z => c (w.mpr z)
    have c1 : ¬ x1 < 0 := fun z => by
      rw [Int32.lt_iff_toInt_lt] at z
      omega
    have c2 : x1 < 7 := by
      rw [Int32.lt_iff_toInt_lt]
      omega
    rw [if_neg c1, if_pos c2] at fx
    exact rl_fin hM.1 hk h (dq := 1) (kn := 8) (by decide) (by decide) (by decide) (Nat.le_refl _) (fun q => absurd q (by decide)) fx fm
theorem rl_things {naX : Nat} {nuX : Nat} {kdX : Nat → Int32} {dpX : Nat → Int32} {clX : Nat → Int32} {saX : Nat → Int32} {lnX : Nat → Int32} {btX : Nat → Int64} {pnX : Nat → Int32} {naM : Nat} {neM : Nat} {kdM : Nat → Int32} {dpM : Nat → Int32} {clM : Nat → Int32} {saM : Nat → Int32} {lnM : Nat → Int32} {btM : Nat → Int64} {pnM : Nat → Int32} {x1 : Int32} {x2 : Int32} {r : Int32} {na2 : Nat} {nu2 : Nat} {kd2 : Nat → Int32} {dp2 : Nat → Int32} {cl2 : Nat → Int32} {sa2 : Nat → Int32} {ln2 : Nat → Int32} {bt2 : Nat → Int64} {r' : Int32} {na3 : Nat} {ne3 : Nat} {kd3 : Nat → Int32} {dp3 : Nat → Int32} {cl3 : Nat → Int32} {sa3 : Nat → Int32} {ln3 : Nat → Int32} {bt3 : Nat → Int64} {pn3 : Nat → Int32} (hM : zz_MI naM neM dpM saM lnM btM) (h : zz_RL naX nuX kdX dpX clX saX lnX btX pnX naM neM kdM dpM clM saM lnM btM pnM) (fx : (r, na2, nu2, kd2, dp2, cl2, sa2, ln2, bt2) = fo_cx_things naX nuX kdX dpX clX saX lnX btX x1 x2) (fm : (r', na3, ne3, kd3, dp3, cl3, sa3, ln3, bt3, pn3) = fo_my_things naM neM kdM dpM lnM clM saM btM pnM x1 x2) : r = r' ∧ zz_RL na2 nu2 kd2 dp2 cl2 sa2 ln2 bt2 pnX na3 ne3 kd3 dp3 cl3 sa3 ln3 bt3 pn3 ∧ (zz_Q naM kdM dpM saM lnM btX btM → zz_Q na3 kd3 dp3 sa3 ln3 bt2 bt3) ∧ (∀ a, a < naM → kd3 a = kdM a) := by
  obtain ⟨rfl, rfl, rfl, rfl, rfl, rfl, rfl, rfl, hk, h⟩ := h
  exact rl0_things hM hk h fx fm
theorem rl0_rows {na : Nat} {ne : Nat} {kd : Nat → Int32} {dp : Nat → Int32} {cl : Nat → Int32} {sa : Nat → Int32} {ln : Nat → Int32} {pn : Nat → Int32} {btX : Nat → Int64} {btM : Nat → Int64} {x1 : Int32} {x2 : Int32} {r : Int32} {na2 : Nat} {nu2 : Nat} {kd2 : Nat → Int32} {dp2 : Nat → Int32} {cl2 : Nat → Int32} {sa2 : Nat → Int32} {ln2 : Nat → Int32} {bt2 : Nat → Int64} {r' : Int32} {na3 : Nat} {ne3 : Nat} {kd3 : Nat → Int32} {dp3 : Nat → Int32} {cl3 : Nat → Int32} {sa3 : Nat → Int32} {ln3 : Nat → Int32} {bt3 : Nat → Int64} {pn3 : Nat → Int32} (hM : zz_MI na ne dp sa ln btM) (hk : zz_KC na kd cl) (h : zz_R1 na ne dp sa ln btX btM pn) (fx : (r, na2, nu2, kd2, dp2, cl2, sa2, ln2, bt2) = fo_cx_rows na ne kd dp cl sa ln btX x1 x2) (fm : (r', na3, ne3, kd3, dp3, cl3, sa3, ln3, bt3, pn3) = fo_my_rows na ne kd dp ln cl sa btM pn x1 x2) : r = r' ∧ zz_RL na2 nu2 kd2 dp2 cl2 sa2 ln2 bt2 pn na3 ne3 kd3 dp3 cl3 sa3 ln3 bt3 pn3 ∧ (zz_Q na kd dp sa ln btX btM → zz_Q na3 kd3 dp3 sa3 ln3 bt2 bt3) ∧ (∀ a, a < na → kd3 a = kd a) := by
  unfold fo_cx_rows at fx
  unfold fo_my_rows at fm
  by_cases c : fn_cm_isArray (nI na) x1 = 0
  · rw [if_pos (zl_isN hM.1.1 c)] at fx
    rw [if_pos c] at fm
    cases fx; cases fm
    exact ⟨rfl, ⟨rfl, rfl, rfl, rfl, rfl, rfl, rfl, rfl, hk, h⟩, id, fun _ _ => rfl⟩
  · have c' : ¬ fn_co_has (nI na) x1 = 0 := fun q => c (zl_isH hM.1.1 q)
    obtain ⟨a, ha, e⟩ := zl_isA hM.1.1 c
    have hna := hM.1.1
    have hne := hM.1.2.1
    have ea : x1.toNatClampNeg = a := by rw [e]; exact nI_clamp (by omega)
    obtain ⟨s, l, d, es, el, ed, g1, g2, g3, g4⟩ := hM.1.2.2 a ha
    have eD : (dp a).toNatClampNeg = d := by rw [ed]; exact nI_clamp (by omega)
    have eL : (ln a).toNatClampNeg = l := by rw [el]; exact nI_clamp (by omega)
    have eS : (sa a).toNatClampNeg = s := by rw [es]; exact nI_clamp (by omega)
    rw [if_neg c'] at fx
    rw [if_neg c] at fm
    rw [ea, eD] at fx fm
    obtain ⟨k, ek, hk8, hc⟩ := hk a ha
    by_cases c4 : d = 4
    · rw [if_neg (by rw [c4]; decide)] at fx
      rw [if_pos (by rw [c4]; rfl)] at fm
      cases fx; cases fm
      exact ⟨rfl, ⟨rfl, rfl, rfl, rfl, rfl, rfl, rfl, rfl, hk, h⟩, id, fun _ _ => rfl⟩
    · rw [if_pos (by rw [show (4 : Int32) = nI 4 by decide, nI_ltI (by omega) (by decide)]; omega)] at fx
      rw [if_neg (fun z : nI d = 4 => c4 (zl_inj (y := 4) z (by omega) (by omega)))] at fm
      exact rl_fin hM.1 hk h (dq := d + 1) (kn := k) (by omega) (by omega) ek hk8 hc fx fm
theorem rl_rows {naX : Nat} {nuX : Nat} {kdX : Nat → Int32} {dpX : Nat → Int32} {clX : Nat → Int32} {saX : Nat → Int32} {lnX : Nat → Int32} {btX : Nat → Int64} {pnX : Nat → Int32} {naM : Nat} {neM : Nat} {kdM : Nat → Int32} {dpM : Nat → Int32} {clM : Nat → Int32} {saM : Nat → Int32} {lnM : Nat → Int32} {btM : Nat → Int64} {pnM : Nat → Int32} {x1 : Int32} {x2 : Int32} {r : Int32} {na2 : Nat} {nu2 : Nat} {kd2 : Nat → Int32} {dp2 : Nat → Int32} {cl2 : Nat → Int32} {sa2 : Nat → Int32} {ln2 : Nat → Int32} {bt2 : Nat → Int64} {r' : Int32} {na3 : Nat} {ne3 : Nat} {kd3 : Nat → Int32} {dp3 : Nat → Int32} {cl3 : Nat → Int32} {sa3 : Nat → Int32} {ln3 : Nat → Int32} {bt3 : Nat → Int64} {pn3 : Nat → Int32} (hM : zz_MI naM neM dpM saM lnM btM) (h : zz_RL naX nuX kdX dpX clX saX lnX btX pnX naM neM kdM dpM clM saM lnM btM pnM) (fx : (r, na2, nu2, kd2, dp2, cl2, sa2, ln2, bt2) = fo_cx_rows naX nuX kdX dpX clX saX lnX btX x1 x2) (fm : (r', na3, ne3, kd3, dp3, cl3, sa3, ln3, bt3, pn3) = fo_my_rows naM neM kdM dpM lnM clM saM btM pnM x1 x2) : r = r' ∧ zz_RL na2 nu2 kd2 dp2 cl2 sa2 ln2 bt2 pnX na3 ne3 kd3 dp3 cl3 sa3 ln3 bt3 pn3 ∧ (zz_Q naM kdM dpM saM lnM btX btM → zz_Q na3 kd3 dp3 sa3 ln3 bt2 bt3) ∧ (∀ a, a < naM → kd3 a = kdM a) := by
  obtain ⟨rfl, rfl, rfl, rfl, rfl, rfl, rfl, rfl, hk, h⟩ := h
  exact rl0_rows hM hk h fx fm
theorem rl0_copy {na : Nat} {ne : Nat} {kd : Nat → Int32} {dp : Nat → Int32} {cl : Nat → Int32} {sa : Nat → Int32} {ln : Nat → Int32} {pn : Nat → Int32} {btX : Nat → Int64} {btM : Nat → Int64} {x1 : Int32} {x2 : Int32} {r : Int32} {na2 : Nat} {nu2 : Nat} {kd2 : Nat → Int32} {dp2 : Nat → Int32} {cl2 : Nat → Int32} {sa2 : Nat → Int32} {ln2 : Nat → Int32} {bt2 : Nat → Int64} {r' : Int32} {na3 : Nat} {ne3 : Nat} {kd3 : Nat → Int32} {dp3 : Nat → Int32} {cl3 : Nat → Int32} {sa3 : Nat → Int32} {ln3 : Nat → Int32} {bt3 : Nat → Int64} {pn3 : Nat → Int32} (hM : zz_MI na ne dp sa ln btM) (hk : zz_KC na kd cl) (h : zz_R1 na ne dp sa ln btX btM pn) (fx : (r, na2, nu2, kd2, dp2, cl2, sa2, ln2, bt2) = fo_cx_copy na ne kd dp cl sa ln btX x1 x2) (fm : (r', na3, ne3, kd3, dp3, cl3, sa3, ln3, bt3, pn3) = fo_my_copy na ne kd dp ln cl sa btM pn x1 x2) : r = r' ∧ zz_RL na2 nu2 kd2 dp2 cl2 sa2 ln2 bt2 pn na3 ne3 kd3 dp3 cl3 sa3 ln3 bt3 pn3 ∧ (zz_Q na kd dp sa ln btX btM → zz_Q na3 kd3 dp3 sa3 ln3 bt2 bt3) ∧ (∀ a, a < na → kd3 a = kd a) := by
  unfold fo_cx_copy at fx
  unfold fo_my_copy at fm
  by_cases c : fn_cm_isArray (nI na) x1 = 0
  · rw [if_pos (zl_isN hM.1.1 c)] at fx
    rw [if_pos c] at fm
    cases fx; cases fm
    exact ⟨rfl, ⟨rfl, rfl, rfl, rfl, rfl, rfl, rfl, rfl, hk, h⟩, id, fun _ _ => rfl⟩
  · have c' : ¬ fn_co_has (nI na) x1 = 0 := fun q => c (zl_isH hM.1.1 q)
    obtain ⟨a, ha, e⟩ := zl_isA hM.1.1 c
    have hna := hM.1.1
    have hne := hM.1.2.1
    have ea : x1.toNatClampNeg = a := by rw [e]; exact nI_clamp (by omega)
    obtain ⟨s, l, d, es, el, ed, g1, g2, g3, g4⟩ := hM.1.2.2 a ha
    have eD : (dp a).toNatClampNeg = d := by rw [ed]; exact nI_clamp (by omega)
    have eL : (ln a).toNatClampNeg = l := by rw [el]; exact nI_clamp (by omega)
    have eS : (sa a).toNatClampNeg = s := by rw [es]; exact nI_clamp (by omega)
    rw [if_neg c'] at fx
    rw [if_neg c] at fm
    rw [ea, eD, eS, eL] at fx fm
    refine rl_cpf hM hk h ha es el ed g1 g2 g3 g4 fx ?_
    rw [fm]
    unfold zz_mkM
    by_cases c0 : 0 ≤ x2
    · rw [if_pos c0, if_pos c0]
      by_cases c1 : 200 < x2
      · rw [if_pos c1, if_pos c1]; exact (if_pos (show (-8 : Int32) < 0 by decide)).symm
      · rw [if_neg c1, if_neg c1]
        by_cases c2 : fn_cm_isRoom (nI na) (nI ne) 1 ((nI x2.toNatClampNeg).toInt64) = 0
        · rw [if_pos c2, if_pos c2]; exact (if_pos (show (-8 : Int32) < 0 by decide)).symm
        · rw [if_neg c2, if_neg c2]; exact (if_neg (nI_pos (show na < 2 ^ 31 by omega))).symm
    · rw [if_neg c0, if_neg c0]; exact (if_pos (show (-4 : Int32) < 0 by decide)).symm
theorem rl_copy {naX : Nat} {nuX : Nat} {kdX : Nat → Int32} {dpX : Nat → Int32} {clX : Nat → Int32} {saX : Nat → Int32} {lnX : Nat → Int32} {btX : Nat → Int64} {pnX : Nat → Int32} {naM : Nat} {neM : Nat} {kdM : Nat → Int32} {dpM : Nat → Int32} {clM : Nat → Int32} {saM : Nat → Int32} {lnM : Nat → Int32} {btM : Nat → Int64} {pnM : Nat → Int32} {x1 : Int32} {x2 : Int32} {r : Int32} {na2 : Nat} {nu2 : Nat} {kd2 : Nat → Int32} {dp2 : Nat → Int32} {cl2 : Nat → Int32} {sa2 : Nat → Int32} {ln2 : Nat → Int32} {bt2 : Nat → Int64} {r' : Int32} {na3 : Nat} {ne3 : Nat} {kd3 : Nat → Int32} {dp3 : Nat → Int32} {cl3 : Nat → Int32} {sa3 : Nat → Int32} {ln3 : Nat → Int32} {bt3 : Nat → Int64} {pn3 : Nat → Int32} (hM : zz_MI naM neM dpM saM lnM btM) (h : zz_RL naX nuX kdX dpX clX saX lnX btX pnX naM neM kdM dpM clM saM lnM btM pnM) (fx : (r, na2, nu2, kd2, dp2, cl2, sa2, ln2, bt2) = fo_cx_copy naX nuX kdX dpX clX saX lnX btX x1 x2) (fm : (r', na3, ne3, kd3, dp3, cl3, sa3, ln3, bt3, pn3) = fo_my_copy naM neM kdM dpM lnM clM saM btM pnM x1 x2) : r = r' ∧ zz_RL na2 nu2 kd2 dp2 cl2 sa2 ln2 bt2 pnX na3 ne3 kd3 dp3 cl3 sa3 ln3 bt3 pn3 ∧ (zz_Q naM kdM dpM saM lnM btX btM → zz_Q na3 kd3 dp3 sa3 ln3 bt2 bt3) ∧ (∀ a, a < naM → kd3 a = kdM a) := by
  obtain ⟨rfl, rfl, rfl, rfl, rfl, rfl, rfl, rfl, hk, h⟩ := h
  exact rl0_copy hM hk h fx fm
theorem rl0_setRow {na : Nat} {ne : Nat} {kd : Nat → Int32} {dp : Nat → Int32} {cl : Nat → Int32} {sa : Nat → Int32} {ln : Nat → Int32} {pn : Nat → Int32} {btX : Nat → Int64} {btM : Nat → Int64} {x1 : Int32} {x2 : Int32} {x3 : Int32} {r : Int32} {bt2 : Nat → Int64} {r' : Int32} {bt3 : Nat → Int64} (hM : zz_MI na ne dp sa ln btM) (hk : zz_KC na kd cl) (h : zz_R1 na ne dp sa ln btX btM pn) (fx : (r, bt2) = fo_cx_setRow na ne kd dp cl sa ln btX x1 x2 x3) (fm : (r', bt3) = fo_my_setRow na ne kd cl dp ln sa btM x1 x2 x3) : r = r' ∧ zz_R1 na ne dp sa ln bt2 bt3 pn ∧ (zz_Q na kd dp sa ln btX btM → zz_Q na kd dp sa ln bt2 bt3) := by
  unfold fo_cx_setRow at fx
  unfold fo_my_setRow at fm
  by_cases c : fn_cm_isArray (nI na) x1 = 0
  · rw [if_pos (zl_isN hM.1.1 c)] at fx
    rw [if_pos c] at fm
    cases fx; cases fm
    exact ⟨rfl, h, id⟩
  · have c' : ¬ fn_co_has (nI na) x1 = 0 := fun q => c (zl_isH hM.1.1 q)
    obtain ⟨a, ha, e⟩ := zl_isA hM.1.1 c
    have hna := hM.1.1
    have hne := hM.1.2.1
    have ea : x1.toNatClampNeg = a := by rw [e]; exact nI_clamp (by omega)
    obtain ⟨s, l, d, es, el, ed, g1, g2, g3, g4⟩ := hM.1.2.2 a ha
    have eD : (dp a).toNatClampNeg = d := by rw [ed]; exact nI_clamp (by omega)
    have eL : (ln a).toNatClampNeg = l := by rw [el]; exact nI_clamp (by omega)
    have eS : (sa a).toNatClampNeg = s := by rw [es]; exact nI_clamp (by omega)
    rw [if_neg c'] at fx
    rw [if_neg c] at fm
    rw [ea, eD, eS] at fx fm
    rw [eL] at fm
    have hP : ∀ x : Int32, fn_cm_within x.toInt64 0 ((nI l - 1).toInt64) = 0 ∨ ∃ q : Nat, x = nI q ∧ q < l := fun x => by
      by_cases z : fn_cm_within x.toInt64 0 ((nI l - 1).toInt64) = 0
      · exact Or.inl z
      · obtain ⟨q, hq, e⟩ := zl_wi (n := l) (by omega) z
        exact Or.inr ⟨q, e, hq⟩
    have hK : ∀ (v : Int64), (v = -1 ∨ ∃ r0, r0 < na ∧ v = lN r0 ∧ kd r0 = kd a) → (r, bt2) = (if (fn_co_hasPlace ln a x2) = 0 then (-2, btX) else (if (nI d) = 1 then (-1, btX) else (0, (vp_updL btX (s + x2.toNatClampNeg) v)))) → (r', bt3) = (if (fn_cm_within x2.toInt64 0 ((nI l - 1).toInt64)) = 0 then (-2, btM) else (if (nI d) = 1 then (-1, btM) else (0, (vp_updL btM (s + x2.toNatClampNeg) v)))) → r = r' ∧ zz_R1 na ne dp sa ln bt2 bt3 pn ∧ (zz_Q na kd dp sa ln btX btM → zz_Q na kd dp sa ln bt2 bt3) := fun v hv0 fx fm => by
      rcases hP x2 with z | ⟨q, eq, hq⟩
      · rw [if_pos (zl_hpN el g1 z)] at fx
        rw [if_pos z] at fm
        cases fx; cases fm
        exact ⟨rfl, h, id⟩
      · have z1 := zl_hpY el g1 eq hq
        have z2 : ¬ fn_cm_within x2.toInt64 0 ((nI l - 1).toInt64) = 0 := fun z => z1 (zl_hpN el g1 z)
        rw [if_neg z1] at fx
        rw [if_neg z2] at fm
        by_cases d1 : nI d = 1
        · rw [if_pos d1] at fx fm
          cases fx; cases fm
          exact ⟨rfl, h, id⟩
        · rw [if_neg d1] at fx fm
          have eq2 : x2.toNatClampNeg = q := by rw [eq]; exact nI_clamp (by omega)
          rw [eq2] at fx fm
          cases fx; cases fm
          exact ⟨rfl, h.wr hM ha es g2 hq, fun z => z.wr hM ha es el (by omega) g1 hq ⟨fun w => absurd (show nI d = 1 from ed.symm.trans w) d1, fun _ => hv0⟩⟩
    have hN : (r, bt2) = (if (fn_co_hasPlace ln a x2) = 0 then (-2, btX) else (if (nI d) = 1 then (-1, btX) else (-1, btX))) → (r', bt3) = (if (fn_cm_within x2.toInt64 0 ((nI l - 1).toInt64)) = 0 then (-2, btM) else (if (nI d) = 1 then (-1, btM) else (-1, btM))) → r = r' ∧ zz_R1 na ne dp sa ln bt2 bt3 pn ∧ (zz_Q na kd dp sa ln btX btM → zz_Q na kd dp sa ln bt2 bt3) := fun fx fm => by
      rw [ite_self] at fx fm
      rcases hP x2 with z | ⟨q, eq, hq⟩
      · rw [if_pos (zl_hpN el g1 z)] at fx
        rw [if_pos z] at fm
        cases fx; cases fm
        exact ⟨rfl, h, id⟩
      · have z1 := zl_hpY el g1 eq hq
        have z2 : ¬ fn_cm_within x2.toInt64 0 ((nI l - 1).toInt64) = 0 := fun z => z1 (zl_hpN el g1 z)
        rw [if_neg z1] at fx
        rw [if_neg z2] at fm
        cases fx; cases fm
        exact ⟨rfl, h, id⟩
    by_cases c3 : x3 = -1
    · rw [if_pos c3] at fx fm
      exact hK _ (Or.inl (by rw [c3]; rfl)) fx fm
    · rw [if_neg c3] at fx fm
      by_cases b0 : fn_cm_isArray (nI na) x3 = 0
      · rw [if_pos (zl_isN hM.1.1 b0)] at fx
        rw [if_pos b0] at fm
        cases fx; cases fm
        exact ⟨rfl, h, id⟩
      · rw [if_neg (fun q => b0 (zl_isH hM.1.1 q))] at fx
        rw [if_neg b0] at fm
        obtain ⟨b, hb, eb⟩ := zl_isA hM.1.1 b0
        have eb2 : x3.toNatClampNeg = b := by rw [eb]; exact nI_clamp (by omega)
        obtain ⟨s', l', d', es', el', ed', f1, f2, f3, f4⟩ := hM.1.2.2 b hb
        have eD' : (dp b).toNatClampNeg = d' := by rw [ed']; exact nI_clamp (by omega)
        have nb : ¬ nI b = -1 := fun z => by
          have z2 : ¬ nI b < 0 := nI_pos (by omega)
          rw [z] at z2
          exact z2 (by decide)
        rw [eb2, if_neg nb] at fx fm
        rw [eD'] at fm
        have hR : fn_co_isRowFor kd dp cl a b = (if kd b = kd a then (if cl b = cl a then (if nI d' = nI (d - 1) then (1 : Int32) else 0) else 0) else 0) := by
          unfold fn_co_isRowFor
          rw [ed, ed', nI_1]
          by_cases k1 : kd a = kd b
          · rw [if_pos k1, if_pos k1.symm]
            by_cases k2 : cl a = cl b
            · rw [if_pos k2, if_pos k2.symm]
              by_cases k3 : d = d' + 1
              · rw [if_pos (by rw [k3]), if_pos (by rw [k3]; rfl)]
              · rw [if_neg (fun z => k3 (zl_inj z (by omega) (by omega))), if_neg (fun z => k3 (by have := zl_inj z (by omega) (by omega); omega))]
            · rw [if_neg k2, if_neg (fun z => k2 z.symm)]
          · rw [if_neg k1, if_neg (fun z => k1 z.symm)]
        rw [hR] at fx
        by_cases k1 : kd b = kd a
        · rw [if_pos k1] at fx fm
          by_cases k2 : cl b = cl a
          · rw [if_pos k2] at fx fm
            by_cases k3 : nI d' = nI (d - 1)
            · rw [if_pos k3] at fx fm
              rw [if_neg (show ¬ ((1 : Int32) = 0) by decide)] at fx
              exact hK _ (Or.inr ⟨b, hb, nI_l (by omega), k1⟩) fx fm
            · rw [if_neg k3] at fx fm
              rw [if_pos (show (0 : Int32) = 0 from rfl)] at fx
              exact hN fx fm
          · rw [if_neg k2] at fx fm
            rw [if_pos (show (0 : Int32) = 0 from rfl)] at fx
            exact hN fx fm
        · rw [if_neg k1] at fx fm
          rw [if_pos (show (0 : Int32) = 0 from rfl)] at fx
          exact hN fx fm
theorem rl_setRow {naX : Nat} {nuX : Nat} {kdX : Nat → Int32} {dpX : Nat → Int32} {clX : Nat → Int32} {saX : Nat → Int32} {lnX : Nat → Int32} {btX : Nat → Int64} {pnX : Nat → Int32} {naM : Nat} {neM : Nat} {kdM : Nat → Int32} {dpM : Nat → Int32} {clM : Nat → Int32} {saM : Nat → Int32} {lnM : Nat → Int32} {btM : Nat → Int64} {pnM : Nat → Int32} {x1 : Int32} {x2 : Int32} {x3 : Int32} {r : Int32} {bt2 : Nat → Int64} {r' : Int32} {bt3 : Nat → Int64} (hM : zz_MI naM neM dpM saM lnM btM) (h : zz_RL naX nuX kdX dpX clX saX lnX btX pnX naM neM kdM dpM clM saM lnM btM pnM) (fx : (r, bt2) = fo_cx_setRow naX nuX kdX dpX clX saX lnX btX x1 x2 x3) (fm : (r', bt3) = fo_my_setRow naM neM kdM clM dpM lnM saM btM x1 x2 x3) : r = r' ∧ zz_R1 naM neM dpM saM lnM bt2 bt3 pnM ∧ (zz_Q naM kdM dpM saM lnM btX btM → zz_Q naM kdM dpM saM lnM bt2 bt3) := by
  obtain ⟨rfl, rfl, rfl, rfl, rfl, rfl, rfl, rfl, hk, h⟩ := h
  exact rl0_setRow hM hk h fx fm
theorem rl0_row {na : Nat} {ne : Nat} {kd : Nat → Int32} {dp : Nat → Int32} {cl : Nat → Int32} {sa : Nat → Int32} {ln : Nat → Int32} {pn : Nat → Int32} {btX : Nat → Int64} {btM : Nat → Int64} {x1 x2 : Int32} (hM : zz_MI na ne dp sa ln btM) (hk : zz_KC na kd cl) (h : zz_R1 na ne dp sa ln btX btM pn) : fn_cx_row na ne dp sa ln btX x1 x2 = fn_my_row na ne dp ln sa btM x1 x2 := by
  unfold fn_cx_row fn_my_row fn_co_rowCode
  by_cases c : fn_cm_isArray (nI na) x1 = 0
  · rw [if_pos (zl_isN hM.1.1 c), if_pos c, if_neg (by decide)]
  · have c' : ¬ fn_co_has (nI na) x1 = 0 := fun q => c (zl_isH hM.1.1 q)
    obtain ⟨a, ha, e⟩ := zl_isA hM.1.1 c
    have hna := hM.1.1
    have hne := hM.1.2.1
    have ea : x1.toNatClampNeg = a := by rw [e]; exact nI_clamp (by omega)
    obtain ⟨s, l, d, es, el, ed, g1, g2, g3, g4⟩ := hM.1.2.2 a ha
    have eD : (dp a).toNatClampNeg = d := by rw [ed]; exact nI_clamp (by omega)
    have eL : (ln a).toNatClampNeg = l := by rw [el]; exact nI_clamp (by omega)
    have eS : (sa a).toNatClampNeg = s := by rw [es]; exact nI_clamp (by omega)
    rw [if_neg c', if_neg c, ea, eD, eL, eS]
    by_cases d1 : nI d = 1
    · rw [if_pos d1, if_pos d1, if_neg (by decide)]
    · rw [if_neg d1, if_neg d1]
      by_cases z : fn_cm_within x2.toInt64 0 ((nI l - 1).toInt64) = 0
      · rw [if_pos (zl_hpN el g1 z), if_pos z, if_neg (by decide)]
      · obtain ⟨q, hq, eq⟩ := zl_wi (n := l) (by omega) z
        rw [if_neg (zl_hpY el g1 eq hq), if_neg z, if_pos rfl]
        have eq2 : x2.toNatClampNeg = q := by rw [eq]; exact nI_clamp (by omega)
        rw [eq2, zl_db hM h.1 ha (by rw [ed]; exact fun w => d1 w) es el (by omega) g1 hq]
theorem rl_row {naX : Nat} {nuX : Nat} {kdX : Nat → Int32} {dpX : Nat → Int32} {clX : Nat → Int32} {saX : Nat → Int32} {lnX : Nat → Int32} {btX : Nat → Int64} {pnX : Nat → Int32} {naM : Nat} {neM : Nat} {kdM : Nat → Int32} {dpM : Nat → Int32} {clM : Nat → Int32} {saM : Nat → Int32} {lnM : Nat → Int32} {btM : Nat → Int64} {pnM : Nat → Int32} {x1 x2 : Int32} (hM : zz_MI naM neM dpM saM lnM btM) (h : zz_RL naX nuX kdX dpX clX saX lnX btX pnX naM neM kdM dpM clM saM lnM btM pnM) : fn_cx_row naX nuX dpX saX lnX btX x1 x2 = fn_my_row naM neM dpM lnM saM btM x1 x2 := by
  obtain ⟨rfl, rfl, rfl, rfl, rfl, rfl, rfl, rfl, hk, h⟩ := h
  exact rl0_row hM hk h
theorem zl_czeq {bt bt2 : Nat → Int64} {s : Nat} : ∀ {n : Nat}, (∀ i, i < n → bt (s + i) = bt2 (s + i)) → zz_cz bt s n = zz_cz bt2 s n
  | 0, _ => rfl
  | n + 1, h => by rw [zz_cz, zz_cz, zl_czeq (fun i hi => h i (by omega)), h n (Nat.lt_succ_self n)]
theorem rl0_about {na : Nat} {ne : Nat} {kd : Nat → Int32} {dp : Nat → Int32} {cl : Nat → Int32} {sa : Nat → Int32} {ln : Nat → Int32} {pn : Nat → Int32} {btX : Nat → Int64} {btM : Nat → Int64} {x1 x2 : Int32} (hM : zz_MI na ne dp sa ln btM) (hk : zz_KC na kd cl) (h : zz_R1 na ne dp sa ln btX btM pn) : fn_cx_about na ne kd dp cl sa ln btX pn x1 x2 = fn_my_about na ne kd dp ln cl sa btM pn x1 x2 := by
  unfold fn_cx_about fn_my_about
  by_cases c : fn_cm_isArray (nI na) x1 = 0
  · rw [if_pos (zl_isN hM.1.1 c), if_pos c]
  · have c' : ¬ fn_co_has (nI na) x1 = 0 := fun q => c (zl_isH hM.1.1 q)
    obtain ⟨a, ha, e⟩ := zl_isA hM.1.1 c
    have hna := hM.1.1
    have hne := hM.1.2.1
    have ea : x1.toNatClampNeg = a := by rw [e]; exact nI_clamp (by omega)
    obtain ⟨s, l, d, es, el, ed, g1, g2, g3, g4⟩ := hM.1.2.2 a ha
    have eD : (dp a).toNatClampNeg = d := by rw [ed]; exact nI_clamp (by omega)
    have eL : (ln a).toNatClampNeg = l := by rw [el]; exact nI_clamp (by omega)
    have eS : (sa a).toNatClampNeg = s := by rw [es]; exact nI_clamp (by omega)
    rw [if_neg c', if_neg c, ea, eD, eL, eS]
    have w := zl_win x2 0 5
    rw [show (0 : Int64).toInt = 0 by decide, show (5 : Int64).toInt = 5 by decide] at w
    by_cases z : fn_cm_within x2.toInt64 0 5 = 0
    · have w1 := w.mp z
      rw [if_pos z]
      have n : ∀ k : Nat, k ≤ 5 → ¬ x2 = nI k := fun k hk q => by
        rw [q, nI_toInt (by omega)] at w1
        omega
      rw [if_neg (n 0 (by decide)), if_neg (n 1 (by decide)), if_neg (n 2 (by decide)), if_neg (n 3 (by decide)), if_neg (n 4 (by decide)), if_neg (n 5 (by decide))]
    · rw [if_neg z]
      have w1 : ¬ (x2.toInt < 0 ∨ 5 < x2.toInt) := fun q => z (w.mpr q)
      have e0 : (0 : Int32).toInt = 0 := by decide
      have e5 : (5 : Int32).toInt = 5 := by decide
      obtain ⟨k, hk5, ek⟩ := nI_of2 (x := x2) (M := 5) (n := 5) (by decide) (by rw [Int32.lt_iff_toInt_lt]; omega) (by rw [Int32.le_iff_toInt_le]; omega)
      have hz : (if dp a ≤ 1 then 0 else zz_cz btX s l) = (if nI d ≤ 1 then 0 else zz_cz btM s l) := by
        rw [ed]
        by_cases q : nI d ≤ 1
        · rw [if_pos q, if_pos q]
        · rw [if_neg q, if_neg q]
          refine zl_czeq (fun i hi => zl_db hM h.1 ha (fun w => q ?_) es el (by omega) g1 hi)
          rw [← ed, w]; decide
      rw [ek]
      rcases (show k = 0 ∨ k = 1 ∨ k = 2 ∨ k = 3 ∨ k = 4 ∨ k = 5 by omega) with rfl | rfl | rfl | rfl | rfl | rfl
      · rfl
      · rfl
      · rfl
      · rfl
      · show nI (if dp a ≤ 1 then 0 else zz_cz btX s l) = nI (if nI d ≤ 1 then 0 else zz_cz btM s l)
        rw [hz]
      · rfl
theorem rl_about {naX : Nat} {nuX : Nat} {kdX : Nat → Int32} {dpX : Nat → Int32} {clX : Nat → Int32} {saX : Nat → Int32} {lnX : Nat → Int32} {btX : Nat → Int64} {pnX : Nat → Int32} {naM : Nat} {neM : Nat} {kdM : Nat → Int32} {dpM : Nat → Int32} {clM : Nat → Int32} {saM : Nat → Int32} {lnM : Nat → Int32} {btM : Nat → Int64} {pnM : Nat → Int32} {x1 x2 : Int32} (hM : zz_MI naM neM dpM saM lnM btM) (h : zz_RL naX nuX kdX dpX clX saX lnX btX pnX naM neM kdM dpM clM saM lnM btM pnM) : fn_cx_about naX nuX kdX dpX clX saX lnX btX pnX x1 x2 = fn_my_about naM neM kdM dpM lnM clM saM btM pnM x1 x2 := by
  obtain ⟨rfl, rfl, rfl, rfl, rfl, rfl, rfl, rfl, hk, h⟩ := h
  exact rl0_about hM hk h
theorem rl0_place {na : Nat} {ne : Nat} {kd : Nat → Int32} {dp : Nat → Int32} {cl : Nat → Int32} {sa : Nat → Int32} {ln : Nat → Int32} {pn : Nat → Int32} {btX : Nat → Int64} {btM : Nat → Int64} {x1 x2 x3 x4 x5 : Int32} (hM : zz_MI na ne dp sa ln btM) (hk : zz_KC na kd cl) (h : zz_R1 na ne dp sa ln btX btM pn) : fn_cx_place na ne dp sa ln btX x1 x2 x3 x4 x5 = fn_my_place na ne dp ln sa btM x1 x2 x3 x4 x5 := by
  unfold fn_cx_place fn_my_place
  by_cases c : fn_cm_isArray (nI na) x1 = 0
  · rw [if_pos (zl_isN hM.1.1 c), if_pos c]
  · have c' : ¬ fn_co_has (nI na) x1 = 0 := fun q => c (zl_isH hM.1.1 q)
    obtain ⟨a, ha, e⟩ := zl_isA hM.1.1 c
    have hna := hM.1.1
    have ea : x1.toNatClampNeg = a := by rw [e]; exact nI_clamp (by omega)
    rw [if_neg c', if_neg c, ea, zl_walkeq hM h.1 _ 4 a 0 ha]
    rcases zl_walkres (bt := btM) hM.1 (zz_pa x2 x3 x4 x5) 4 a 0 ha with q | q | ⟨b, j, sz, lz, q, h1, h2, h3, h4, h5, h6, h7, h8⟩
    · rw [q]; decide
    · rw [q]; decide
    · obtain ⟨k1, k2, k3⟩ := zl_wN h2 (show j < 200 by omega)
      rw [q, if_pos k1, zl_fc0 h2 (show j < 200 by omega), if_pos (by decide), k2, k3, zl_1000b]
theorem rl_place {naX : Nat} {nuX : Nat} {kdX : Nat → Int32} {dpX : Nat → Int32} {clX : Nat → Int32} {saX : Nat → Int32} {lnX : Nat → Int32} {btX : Nat → Int64} {pnX : Nat → Int32} {naM : Nat} {neM : Nat} {kdM : Nat → Int32} {dpM : Nat → Int32} {clM : Nat → Int32} {saM : Nat → Int32} {lnM : Nat → Int32} {btM : Nat → Int64} {pnM : Nat → Int32} {x1 x2 x3 x4 x5 : Int32} (hM : zz_MI naM neM dpM saM lnM btM) (h : zz_RL naX nuX kdX dpX clX saX lnX btX pnX naM neM kdM dpM clM saM lnM btM pnM) : fn_cx_place naX nuX dpX saX lnX btX x1 x2 x3 x4 x5 = fn_my_place naM neM dpM lnM saM btM x1 x2 x3 x4 x5 := by
  obtain ⟨rfl, rfl, rfl, rfl, rfl, rfl, rfl, rfl, hk, h⟩ := h
  exact rl0_place hM hk h
theorem rl0_pin {na : Nat} {ne : Nat} {kd : Nat → Int32} {dp : Nat → Int32} {cl : Nat → Int32} {sa : Nat → Int32} {ln : Nat → Int32} {pn : Nat → Int32} {btX : Nat → Int64} {btM : Nat → Int64} {x1 : Int32} {x2 : Int32} {x3 : Int32} {x4 : Int32} {x5 : Int32} {x6 : Int32} {r : Int32} {pn2 : Nat → Int32} {r' : Int32} {pn3 : Nat → Int32} (hM : zz_MI na ne dp sa ln btM) (hk : zz_KC na kd cl) (h : zz_R1 na ne dp sa ln btX btM pn) (fx : (r, pn2) = fo_cx_pin na ne dp sa ln btX pn x1 x2 x3 x4 x5 x6) (fm : (r', pn3) = fo_my_pin na ne dp ln sa btM pn x1 x2 x3 x4 x5 x6) : r = r' ∧ pn2 = pn3 ∧ zz_R1 na ne dp sa ln btX btM pn3 := by
  unfold fo_cx_pin at fx
  unfold fo_my_pin at fm
  by_cases c : fn_cm_isArray (nI na) x1 = 0
  · rw [if_pos (zl_isN hM.1.1 c)] at fx
    rw [if_pos c] at fm
    cases fx; cases fm
    exact ⟨rfl, rfl, h⟩
  · have c' : ¬ fn_co_has (nI na) x1 = 0 := fun q => c (zl_isH hM.1.1 q)
    obtain ⟨a, ha, e⟩ := zl_isA hM.1.1 c
    have hna := hM.1.1
    have hne := hM.1.2.1
    have ea : x1.toNatClampNeg = a := by rw [e]; exact nI_clamp (by omega)
    rw [if_neg c', ea, zl_walkeq hM h.1 _ 4 a 0 ha] at fx
    rw [if_neg c, ea] at fm
    rcases zl_walkres (bt := btM) hM.1 (zz_pa x2 x3 x4 x5) 4 a 0 ha with q | q | ⟨b, j, sz, lz, q, h1, h2, h3, h4, h5, h6, h7, h8⟩
    · rw [q, if_neg (by decide)] at fx
      rw [q, if_neg (by decide)] at fm
      cases fx; cases fm
      exact ⟨by decide, rfl, h⟩
    · rw [q, if_neg (by decide)] at fx
      rw [q, if_neg (by decide)] at fm
      cases fx; cases fm
      exact ⟨by decide, rfl, h⟩
    · obtain ⟨k1, k2, k3⟩ := zl_wN h2 (show j < 200 by omega)
      have eS : (sa b).toNatClampNeg = sz := by rw [h4]; exact nI_clamp (by omega)
      rw [q, if_pos k1, k2, k3, eS] at fx
      rw [q, zl_fc0 h2 (show j < 200 by omega), if_pos (show (0 : Int32) ≤ 0 by decide), k2, k3, eS] at fm
      have hp : ∀ v : Int32, zz_R1 na ne dp sa ln btX btM (upd pn (sz + j) v) := fun v => ⟨h.1, fun i hi => ⟨(h.2 i hi).1, by rw [pk_un (by omega)]; exact (h.2 i hi).2⟩⟩
      by_cases w : pn (sz + j) = 0
      · rw [if_pos w] at fx fm
        cases fx; cases fm
        exact ⟨rfl, rfl, hp _⟩
      · rw [if_neg w] at fx fm
        cases fx; cases fm
        exact ⟨rfl, rfl, hp _⟩
theorem rl_pin {naX : Nat} {nuX : Nat} {kdX : Nat → Int32} {dpX : Nat → Int32} {clX : Nat → Int32} {saX : Nat → Int32} {lnX : Nat → Int32} {btX : Nat → Int64} {pnX : Nat → Int32} {naM : Nat} {neM : Nat} {kdM : Nat → Int32} {dpM : Nat → Int32} {clM : Nat → Int32} {saM : Nat → Int32} {lnM : Nat → Int32} {btM : Nat → Int64} {pnM : Nat → Int32} {x1 : Int32} {x2 : Int32} {x3 : Int32} {x4 : Int32} {x5 : Int32} {x6 : Int32} {r : Int32} {pn2 : Nat → Int32} {r' : Int32} {pn3 : Nat → Int32} (hM : zz_MI naM neM dpM saM lnM btM) (h : zz_RL naX nuX kdX dpX clX saX lnX btX pnX naM neM kdM dpM clM saM lnM btM pnM) (fx : (r, pn2) = fo_cx_pin naX nuX dpX saX lnX btX pnX x1 x2 x3 x4 x5 x6) (fm : (r', pn3) = fo_my_pin naM neM dpM lnM saM btM pnM x1 x2 x3 x4 x5 x6) : r = r' ∧ pn2 = pn3 ∧ zz_R1 naM neM dpM saM lnM btX btM pn3 := by
  obtain ⟨rfl, rfl, rfl, rfl, rfl, rfl, rfl, rfl, hk, h⟩ := h
  exact rl0_pin hM hk h fx fm
