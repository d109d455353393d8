/-- both sides hold the same candidates -/
def zz_CA (coX : Nat → Int32) (caX : Nat → Int64) (coM : Nat → Int32) (caM : Nat → Int64) : Prop := coX = coM ∧ caX = caM
/-- both sides hold the same rules -/
def zz_RU (nrX : Nat) (soX juX weX : Nat → Int32) (loX hiX : Nat → Int64) (nrM : Nat) (rsM juM weM : Nat → Int32) (loM hiM : Nat → Int64) : Prop := nrX = nrM ∧ soX = rsM ∧ juX = juM ∧ weX = weM ∧ loX = loM ∧ hiX = hiM
theorem zl_dN {nd : Nat} {x : Int32} (hn : nd ≤ 24) (h : fn_cm_isDecision (nI nd) x = 0) : fn_co_chas (nI nd) x = 0 := zl_isN (na := nd) (by omega) h
theorem zl_dH {nd : Nat} {x : Int32} (hn : nd ≤ 24) (h : fn_co_chas (nI nd) x = 0) : fn_cm_isDecision (nI nd) x = 0 := zl_isH (na := nd) (by omega) h
theorem zl_dbq {nd : Nat} {pl da dq : Nat → Int32} (hP : zz_DP nd pl nd da dq) {d : Nat} (hd : d < nd) : ∃ b q : Nat, (pl d).toNatClampNeg / 1000 = b ∧ (pl d).toNatClampNeg % 1000 = q ∧ (da d).toNatClampNeg = b ∧ (dq d).toNatClampNeg = q ∧ pl d = nI (1000 * b + q) ∧ b < 60 ∧ q < 200 := by
  obtain ⟨b, q, e1, e2, e3, h1, h2⟩ := hP.2 d hd
  refine ⟨b, q, ?_, ?_, ?_, ?_, e1, h1, h2⟩
  · rw [e1, nI_clamp (by omega)]; omega
  · rw [e1, nI_clamp (by omega)]; omega
  · rw [e2]; exact nI_clamp (by omega)
  · rw [e3]; exact nI_clamp (by omega)
theorem zl_dci {na nd : Nat} {sa ln pl sl co : Nat → Int32} (hC : zz_CI na nd sa ln pl sl co) {d b q : Nat} (hd : d < nd) (e : pl d = nI (1000 * b + q)) (hb : b < 60) (hq : q < 200) : b < na ∧ ∃ sz n : Nat, sa b = nI sz ∧ sz ≤ 4000 ∧ sl d = nI (sz + q) ∧ co d = nI n ∧ n ≤ 16 := by
  obtain ⟨b', q', sz, lz, n, e1, e2, e3, e4, e5, e6, e7, e8, e9, e10, e11⟩ := hC.2 d hd
  have w : 1000 * b' + q' = 1000 * b + q := (nI_eq (by omega) (by omega)).mp (e1.symm.trans e)
  have wb : b' = b := by omega
  have wq : q' = q := by omega
  subst wb; subst wq
  exact ⟨e2, sz, n, e4, by omega, e9, e10, e11⟩
theorem zl_noN {k : Nat} {x : Int64} (hk : k ≤ 8) (h : ¬ fn_cm_isNone (nI k) x = 0) : ¬ fn_co_isNoNumber (nI k) (fn_co_cleaned (nI k) x) = 0 := by
  have e : fn_co_cleaned (nI k) x = (if nI k = 6 then 2143289344 else 9221120237041090560) := if_neg h
  rw [e]
  rcases (show k = 0 ∨ k = 1 ∨ k = 2 ∨ k = 3 ∨ k = 4 ∨ k = 5 ∨ k = 6 ∨ k = 7 ∨ k = 8 by omega) with rfl | rfl | rfl | rfl | rfl | rfl | rfl | rfl | rfl
  · exact absurd rfl h
  · exact absurd rfl h
  · exact absurd rfl h
  · exact absurd rfl h
  · exact absurd rfl h
  · exact absurd rfl h
  · decide
  · decide
  · exact absurd rfl h
theorem zl_clean (k : Int32) (x : Int64) : fn_co_cleaned k x = fn_cm_plain k x := rfl
theorem zl_uu {f : Nat → Int32} {d : Nat} {x y : Int32} : upd (upd f d x) d y = upd f d y := by
  funext j
  by_cases e : j = d
  · subst e; rw [pk_us, pk_us]
  · rw [pk_un e, pk_un e, pk_un e]
theorem zl_wyeq {c c' : Nat → Nat} {nd : Nat} (h : ∀ d, d < nd → c d = c' d) : ∀ m i w : Nat, i + m ≤ nd → zz_wy c m i w = zz_wy c' m i w
  | 0, _, _, _ => rfl
  | m + 1, i, w, hi => by rw [zz_wy, zz_wy, h i (by omega), zl_wyeq h m (i + 1) _ (by omega)]
theorem zl_ways {na nd : Nat} {pn sa ln pl sl co da dq : Nat → Int32} (hC : zz_CI na nd sa ln pl sl co) (hP : zz_DP nd pl nd da dq) : zz_wy (zz_cX pn sl co) nd 0 1 = zz_wy (zz_cM pn sa da dq co) nd 0 1 := zl_wyeq (fun d hd => by
  obtain ⟨b, q, g1, g2, g3, g4, g5, g6, g7⟩ := zl_dbq hP hd
  obtain ⟨hb, sz, n, es, hs, ez, ec, hn⟩ := zl_dci hC hd g5 g6 g7
  show zz_ch pn (co d).toNatClampNeg (sl d).toNatClampNeg = zz_ch pn (co d).toNatClampNeg ((sa (da d).toNatClampNeg).toNatClampNeg + (dq d).toNatClampNeg)
  rw [g3, g4, es, ez, nI_clamp (show sz < 2 ^ 31 by omega), nI_clamp (show sz + q < 2 ^ 31 by omega)]) nd 0 1 (by omega)
theorem zl_atN {pl : Nat → Int32} {k : Int32} {nd : Nat} (hn : nd ≤ 24) : ∀ (n i : Nat), i + n ≤ nd → sp_at pl k n i < 0 → ∀ d, i ≤ d → d < i + n → pl d ≠ k
  | 0, _, _, _, d, h1, h2 => absurd h1 (by omega)
  | n + 1, i, hi, h, d, h1, h2 => by
    rw [sp_at] at h
    by_cases c : pl i = k
    · rw [if_pos c] at h; exact absurd h (nI_pos (by omega))
    · rw [if_neg c] at h
      by_cases e : d = i
      · rw [e]; exact c
      · exact zl_atN hn n (i + 1) (by omega) h d (by omega) (by omega)
/-- no two decisions share a slot: decide keeps it -/
theorem zl_decI {na ne nd nd2 : Nat} {dp sa ln pl sl co pl2 sl2 co2 : Nat → Int32} {bt : Nat → Int64} {x1 x2 x3 x4 x5 r : Int32} (hM : zz_MI na ne dp sa ln bt) (hC : zz_CI na nd sa ln pl sl co) (hI : zz_SD nd sl) (fx : (r, nd2, pl2, sl2, co2) = fo_cx_decide na ne nd dp sa ln bt pl sl co x1 x2 x3 x4 x5) : zz_SD nd2 sl2 := by
  unfold fo_cx_decide at fx
  by_cases c : fn_co_has (nI na) x1 = 0
  · rw [if_pos c] at fx; cases fx; exact hI
  rw [if_neg c] at fx
  obtain ⟨a, ha, e⟩ := zl_has hM.1.1 c
  have hna := hM.1.1
  have ea : x1.toNatClampNeg = a := by rw [e]; exact nI_clamp (by omega)
  rw [ea] at fx
  rcases zl_walkres (bt := bt) hM.1 (zz_pa x2 x3 x4 x5) 4 a 0 ha with q | q | ⟨b, j, sz, lz, q, h1, h2, h3, h4, h5, h6, h7, h8⟩
  · rw [q, if_neg (by decide)] at fx; cases fx; exact hI
  · rw [q, if_neg (by decide)] at fx; cases fx; exact hI
  have hne := hM.1.2.1
  obtain ⟨k1, k2, k3⟩ := zl_wN h2 (show j < 200 by omega)
  rw [q, if_pos k1, k2, k3] at fx
  by_cases c2 : sp_at pl (nI (1000 * b + j)) nd 0 < 0
  rotate_left
  · rw [if_neg c2] at fx; cases fx; exact hI
  rw [if_pos c2] at fx
  by_cases c3 : nI nd < 24
  rotate_left
  · rw [if_neg c3] at fx; cases fx; exact hI
  rw [if_pos c3] at fx
  cases fx
  have hN := zl_atN hC.1 nd 0 (by omega) c2
  have eS : (sa b).toNatClampNeg = sz := by rw [h4]; exact nI_clamp (by omega)
  have key : ∀ d, d < nd → (sl d).toNatClampNeg ≠ sz + j := fun d hd z => by
    obtain ⟨b', q', sz', lz', n, e1, e2, e3, e4, e5, e6, e7, e8, e9, e10, e11⟩ := hC.2 d hd
    rw [e9, nI_clamp (by omega)] at z
    have hb : b' = b := by
      rcases Nat.lt_trichotomy b' b with y | y | y
      · have := hM.2.1 b' b sz' lz' sz y h1 e4 e5 h4 (by omega) e7 (by omega); omega
      · exact y
      · have := hM.2.1 b b' sz lz sz' y e2 h4 h5 e4 (by omega) h7 (by omega); omega
    subst hb
    have hs : sz' = sz := zl_inj (e4.symm.trans h4) (by omega) (by omega)
    exact hN d (Nat.zero_le _) (by omega) (by rw [e1, show q' = j by omega])
  intro d e' hd he z
  have eN : (nI (sz + j)).toNatClampNeg = sz + j := nI_clamp (by omega)
  rw [eS] at z
  by_cases y1 : d = nd
  · by_cases y2 : e' = nd
    · omega
    · rw [y1, pk_us, pk_un y2, eN] at z
      exact absurd z.symm (key e' (by omega))
  · by_cases y2 : e' = nd
    · rw [y2, pk_us, pk_un y1, eN] at z
      exact absurd z (key d (by omega))
    · rw [pk_un y1, pk_un y2] at z
      exact hI d e' (by omega) (by omega) z
/-- a span changes the candidates of its decision alone -/
theorem zl_splO {hi st : Int64} {s : Nat} : ∀ (f : Nat) (v : Int64) (n : Nat) (ca : Nat → Int64) {j : Nat}, n ≤ 16 → (j < s ∨ s + 16 ≤ j) → (sp_spl hi st s f v n ca).2.2 j = ca j
  | 0, _, _, _, _, _, _ => rfl
  | f + 1, v, n, ca, j, hn, h => by
    rw [sp_spl]
    by_cases c : sp_ix ca v s n 0 = -2
    · rw [if_pos c]
      by_cases d : n = 16
      · rw [if_pos d]
      · rw [if_neg d]
        have e : vp_updL ca (s + n) v j = ca j := pk_uLn (by omega)
        by_cases t : 0 ≤ hi - v ∧ hi - v < st
        · rw [if_pos t]; exact e
        · rw [if_neg t, zl_splO f _ _ _ (by omega) h]; exact e
    · rw [if_neg c]
      by_cases t : 0 ≤ hi - v ∧ hi - v < st
      · rw [if_pos t]
      · rw [if_neg t]; exact zl_splO f _ _ _ hn h
theorem zl_spRO {lo hi st : Int64} {s n j : Nat} {ca : Nat → Int64} (hn : n ≤ 16) (h : j < s ∨ s + 16 ≤ j) : (sp_spR lo hi st s n ca).2.2 j = ca j := by
  unfold sp_spR
  by_cases c : lo ≤ hi
  · rw [if_pos c]; exact zl_splO 17 lo n ca hn h
  · rw [if_neg c]
theorem zz_CV.sp {nd d b k : Nat} {kd da co co2 : Nat → Int32} {ca ca2 : Nat → Int64} (h : zz_CV nd kd da co ca) (eb : da d = nI b) (hb : b < 60) (ek : kd b = nI k) (hk1 : 1 ≤ k) (hk5 : k ≤ 5) (hca : ∀ j, j < 16 * d ∨ 16 * d + 16 ≤ j → ca2 j = ca j) (hco : ∀ e, e ≠ d → co2 e = co e) : zz_CV nd kd da co2 ca2 := by
  intro d' b' n' k' c hd eb' hb' en hn' ek' hk' hc
  by_cases q : d' = d
  · rw [q] at eb'
    have e1 : b' = b := zl_inj (eb'.symm.trans eb) (by omega) (by omega)
    rw [e1] at ek'
    have e2 : k' = k := zl_inj (ek'.symm.trans ek) (by omega) (by omega)
    exact zl_okA hk' (by omega) (by omega) _
  · rw [hco d' q] at en
    rw [hca _ (by omega)]
    exact h d' b' n' k' c hd eb' hb' en hn' ek' hk' hc
/-- rules judge arrays of depth 1: rule keeps it -/
theorem zl_ruleD {na ne nr nr2 : Nat} {kd dp sa ln so ju we so2 ju2 we2 : Nat → Int32} {lo hi lo2 hi2 : Nat → Int64} {x1 x2 x3 r : Int32} {x4 x5 : Int64} (hS : zz_SI na ne dp sa ln) (h : zz_RD nr ju dp) (fx : (r, nr2, so2, ju2, we2, lo2, hi2) = fo_cx_rule na ne nr kd dp sa ln so ju we lo hi x1 x2 x3 x4 x5) : zz_RD nr2 ju2 dp := by
  unfold fo_cx_rule at fx
  by_cases c : fn_co_has (nI na) x2 = 0
  · rw [if_pos c] at fx; cases fx; exact h
  rw [if_neg c] at fx
  obtain ⟨a, ha, e⟩ := zl_has hS.1 c
  have hna := hS.1
  have ea : x2.toNatClampNeg = a := by rw [e]; exact nI_clamp (by omega)
  obtain ⟨sz, lz, dz, es, el, ed, g1, g2, g3, g4⟩ := hS.2.2 a ha
  rw [ea] at fx
  by_cases c1 : x1 < 0
  · rw [if_pos c1] at fx; cases fx; exact h
  rw [if_neg c1] at fx
  by_cases c2 : 5 < x1
  · rw [if_pos c2] at fx; cases fx; exact h
  rw [if_neg c2] at fx
  have fin : ∀ (L : Int64), (r, nr2, so2, ju2, we2, lo2, hi2) = (if (nI ((dp a).toNatClampNeg)) = 1 then (if (nI nr) < 12 then ((nI nr), (nr + 1), (upd so nr x1), (upd ju nr (nI a)), (upd we nr x3), (vp_updL lo nr L), (vp_updL hi nr x5)) else (-8, nr, so, ju, we, lo, hi)) else (-1, nr, so, ju, we, lo, hi)) → zz_RD nr2 ju2 dp := fun L fx => by
    by_cases d1 : (nI ((dp a).toNatClampNeg)) = 1
    · rw [if_pos d1] at fx
      by_cases d2 : nI nr < 12
      · rw [if_pos d2] at fx
        cases fx
        intro q b hq eb hb
        by_cases z : q = nr
        · rw [z, pk_us] at eb
          rw [← zl_inj eb (by omega) (by omega), ed]
          rw [ed, nI_clamp (by omega)] at d1
          exact d1
        · rw [pk_un z] at eb; exact h q b (by omega) eb hb
      · rw [if_neg d2] at fx; cases fx; exact h
    · rw [if_neg d1] at fx; cases fx; exact h
  by_cases c3 : x3 < -1000
  · rw [if_pos c3] at fx; cases fx; exact h
  rw [if_neg c3] at fx
  by_cases c4 : x3 ≤ 1000
  rotate_left
  · rw [if_neg c4] at fx; cases fx; exact h
  rw [if_pos c4] at fx
  by_cases c5 : x1 = 3
  · rw [if_pos c5] at fx
    by_cases c6 : fn_co_holds (kd a) x4 = 0
    · rw [if_pos c6] at fx; cases fx; exact h
    · rw [if_neg c6] at fx; exact fin _ fx
  · rw [if_neg c5] at fx; exact fin _ fx
/-- rules are of the six sorts: rule keeps it -/
theorem zl_ruleO {na ne nr nr2 : Nat} {kd dp sa ln so ju we so2 ju2 we2 : Nat → Int32} {lo hi lo2 hi2 : Nat → Int64} {x1 x2 x3 r : Int32} {x4 x5 : Int64} (h : zz_SO nr so) (fx : (r, nr2, so2, ju2, we2, lo2, hi2) = fo_cx_rule na ne nr kd dp sa ln so ju we lo hi x1 x2 x3 x4 x5) : zz_SO nr2 so2 := by
  have add : ¬ x1 < 0 → ¬ 5 < x1 → zz_SO (nr + 1) (upd so nr x1) := fun c1 c2 q hq => by
    by_cases z : q = nr
    · rw [z, pk_us]
      have e0 : (0 : Int32).toInt = 0 := by decide
      have e5 : (5 : Int32).toInt = 5 := by decide
      rw [Int32.lt_iff_toInt_lt] at c1 c2
      obtain ⟨k, hk, e⟩ := nI_of2 (x := x1) (M := 5) (n := 5) (by decide) (by rw [Int32.lt_iff_toInt_lt]; omega) (by rw [Int32.le_iff_toInt_le]; omega)
      exact ⟨k, hk, e⟩
    · rw [pk_un z]; exact h q (by omega)
  unfold fo_cx_rule at fx
  by_cases c : fn_co_has (nI na) x2 = 0
  · rw [if_pos c] at fx; cases fx; exact h
  rw [if_neg c] at fx
  by_cases c1 : x1 < 0
  · rw [if_pos c1] at fx; cases fx; exact h
  rw [if_neg c1] at fx
  by_cases c2 : 5 < x1
  · rw [if_pos c2] at fx; cases fx; exact h
  rw [if_neg c2] at fx
  have fin : ∀ (L : Int64), (r, nr2, so2, ju2, we2, lo2, hi2) = (if (nI ((dp x2.toNatClampNeg).toNatClampNeg)) = 1 then (if (nI nr) < 12 then ((nI nr), (nr + 1), (upd so nr x1), (upd ju nr (nI x2.toNatClampNeg)), (upd we nr x3), (vp_updL lo nr L), (vp_updL hi nr x5)) else (-8, nr, so, ju, we, lo, hi)) else (-1, nr, so, ju, we, lo, hi)) → zz_SO nr2 so2 := fun L fx => by
    by_cases d1 : (nI ((dp x2.toNatClampNeg).toNatClampNeg)) = 1
    · rw [if_pos d1] at fx
      by_cases d2 : nI nr < 12
      · rw [if_pos d2] at fx; cases fx; exact add c1 c2
      · rw [if_neg d2] at fx; cases fx; exact h
    · rw [if_neg d1] at fx; cases fx; exact h
  by_cases c3 : x3 < -1000
  · rw [if_pos c3] at fx; cases fx; exact h
  rw [if_neg c3] at fx
  by_cases c4 : x3 ≤ 1000
  rotate_left
  · rw [if_neg c4] at fx; cases fx; exact h
  rw [if_pos c4] at fx
  by_cases c5 : x1 = 3
  · rw [if_pos c5] at fx
    by_cases c6 : fn_co_holds (kd x2.toNatClampNeg) x4 = 0
    · rw [if_pos c6] at fx; cases fx; exact h
    · rw [if_neg c6] at fx; exact fin _ fx
  · rw [if_neg c5] at fx; exact fin _ fx
theorem rl0_candidate {na ne nd : Nat} {kd dp cl sa ln pl sl da dq co : Nat → Int32} {ca : Nat → Int64} {x1 : Int32} {x2 : Int64} {r r' : Int32} {co2 co3 : Nat → Int32} {ca2 ca3 : Nat → Int64} (hk : zz_KC na kd cl) (hC : zz_CI na nd sa ln pl sl co) (hP : zz_DP nd pl nd da dq) (fx : (r, co2, ca2) = fo_cx_candidate na ne nd kd cl pl co ca dp sa ln sl x1 x2) (fm : (r', co3, ca3) = fo_my_candidate nd kd cl da co ca x1 x2) : r = r' ∧ co2 = co3 ∧ ca2 = ca3 ∧ (zz_CV nd kd da co ca → zz_CV nd kd da co3 ca3) := by
  have h24 := hC.1
  unfold fo_cx_candidate at fx
  unfold fo_my_candidate at fm
  by_cases c : fn_cm_isDecision (nI nd) x1 = 0
  · rw [if_pos (zl_dN h24 c)] at fx
    rw [if_pos c] at fm
    cases fx; cases fm
    exact ⟨rfl, rfl, rfl, id⟩
  obtain ⟨d, hd, ed⟩ := zl_isD h24 c
  have ed2 : x1.toNatClampNeg = d := by rw [ed]; exact nI_clamp (by omega)
  obtain ⟨b, q, g1, g2, g3, g4, g5, g6, g7⟩ := zl_dbq hP hd
  obtain ⟨hb, sz, n, es, hs, ez, ec, hn⟩ := zl_dci hC hd g5 g6 g7
  have eC : (co d).toNatClampNeg = n := by rw [ec]; exact nI_clamp (by omega)
  have eda : da d = nI b := by
    obtain ⟨b0, q0, p1, p2, p3, p4, p5⟩ := hP.2 d hd
    rw [p2] at g3 ⊢
    rw [← g3, nI_clamp (by omega)]
  obtain ⟨k, ek, hk8, hc⟩ := hk b hb
  have c2 : ¬ fn_cm_isDecision (nI nd) (nI d) = 0 := by rw [← ed]; exact c
  rw [if_neg (fun z => c (zl_dH h24 z)), ed2, g1, eC, ek, zl_holds (by omega) x2, Nat.mul_comm d 16] at fx
  rw [if_neg c, ed2, if_neg c2, g3, eC, ek] at fm
  by_cases cb : fn_cm_isBits (nI k) x2 = 0
  · rw [if_pos cb] at fx fm
    cases fx; cases fm
    exact ⟨rfl, rfl, rfl, id⟩
  rw [if_neg cb] at fx fm
  by_cases cn : fn_cm_isNone (nI k) x2 = 0
  rotate_left
  · rw [if_neg (zl_noN hk8 cn)] at fx
    rw [if_neg cn] at fm
    cases fx; cases fm
    exact ⟨rfl, rfl, rfl, id⟩
  have ecl : fn_co_cleaned (nI k) x2 = x2 := if_pos cn
  have cn' : fn_co_isNoNumber (nI k) x2 = 0 := cn
  rw [ecl, if_pos cn'] at fx
  rw [if_pos cn] at fm
  rcases zl_ix (ca := ca) (x := x2) (s := 16 * d) n 0 with i2 | ⟨j, j1, j2, j3, j4⟩
  · rw [i2, if_pos (show (-2 : Int32) < 0 by decide)] at fx
    rw [i2, if_pos (show (-2 : Int32) = -2 from rfl)] at fm
    have ht := zl_takesC (x := x2) hk hb
    by_cases ct : fn_cm_takes kd cl b x2 = 0
    · rw [if_pos (ht.mpr ct)] at fx
      rw [if_pos ct] at fm
      cases fx; cases fm
      exact ⟨rfl, rfl, rfl, id⟩
    rw [if_neg (fun z => ct (ht.mp z))] at fx
    rw [if_neg ct] at fm
    by_cases w : n = 16
    · rw [if_neg (by rw [w]; decide)] at fx
      rw [if_pos (by rw [w]; rfl)] at fm
      cases fx; cases fm
      exact ⟨rfl, rfl, rfl, id⟩
    · rw [if_pos (by rw [show (16 : Int32) = nI 16 by decide, nI_ltI (by omega) (by decide)]; omega)] at fx
      rw [if_neg (fun z : nI n = 16 => w (zl_inj (y := 16) z (by omega) (by omega)))] at fm
      cases fx; cases fm
      exact ⟨rfl, rfl, rfl, fun z => z.app eda g6 ec (by omega) ek hk8 ⟨fun z6 => by subst z6; exact zl_bit6 cb, if_pos cn⟩⟩
  · rw [j3, if_neg (nI_pos (by omega))] at fx
    rw [j3, if_neg (fun z : nI j = -2 => (show ¬ nI j < 0 from nI_pos (by omega)) (by rw [z]; decide))] at fm
    cases fx; cases fm
    exact ⟨rfl, rfl, rfl, id⟩
theorem rl0_span {na ne nd : Nat} {kd dp cl sa ln pl sl da dq co : Nat → Int32} {ca : Nat → Int64} {x1 : Int32} {x2 x3 x4 : Int64} {r r' : Int32} {co2 co3 : Nat → Int32} {ca2 ca3 : Nat → Int64} (hk : zz_KC na kd cl) (hC : zz_CI na nd sa ln pl sl co) (hP : zz_DP nd pl nd da dq) (fx : (r, co2, ca2) = fo_cx_span na ne nd kd pl co ca dp sa ln sl x1 x2 x3 x4) (fm : (r', co3, ca3) = sp_sM nd kd da co ca x1 x2 x3 x4) : r = r' ∧ co2 = co3 ∧ ca2 = ca3 ∧ (zz_CV nd kd da co ca → zz_CV nd kd da co3 ca3) := by
  have h24 := hC.1
  unfold fo_cx_span at fx
  unfold sp_sM at fm
  by_cases c : fn_cm_isDecision (nI nd) x1 = 0
  · rw [if_pos (zl_dN h24 c)] at fx
    rw [if_pos c] at fm
    cases fx; cases fm
    exact ⟨rfl, rfl, rfl, id⟩
  obtain ⟨d, hd, ed⟩ := zl_isD h24 c
  have ed2 : x1.toNatClampNeg = d := by rw [ed]; exact nI_clamp (by omega)
  obtain ⟨b, q, g1, g2, g3, g4, g5, g6, g7⟩ := zl_dbq hP hd
  obtain ⟨hb, sz, n, es, hs, ez, ec, hn⟩ := zl_dci hC hd g5 g6 g7
  have eC : (co d).toNatClampNeg = n := by rw [ec]; exact nI_clamp (by omega)
  have eda : da d = nI b := by
    obtain ⟨b0, q0, p1, p2, p3, p4, p5⟩ := hP.2 d hd
    rw [p2] at g3 ⊢
    rw [← g3, nI_clamp (by omega)]
  obtain ⟨k, ek, hk8, hc⟩ := hk b hb
  rw [if_neg (fun z => c (zl_dH h24 z)), ed2, g1, eC, ek, zl_holds (by omega) x2, zl_holds (by omega) x3, Nat.mul_comm d 16] at fx
  rw [if_neg c, ed2, g3, eC, ek] at fm
  unfold sp_sN at fm
  by_cases c4 : 1 ≤ x4
  rotate_left
  · rw [if_neg c4] at fx fm
    rw [ite_self, ite_self, ite_self] at fm
    cases fx; cases fm
    exact ⟨rfl, rfl, rfl, id⟩
  rw [if_pos c4] at fx fm
  have w := zl_win (nI k) 1 5
  rw [nI_toInt (show k < 2 ^ 31 by omega), show (1 : Int64).toInt = 1 by decide, show (5 : Int64).toInt = 5 by decide] at w
  have l1 : nI k < 1 ↔ k < 1 := by rw [show (1 : Int32) = nI 1 by decide, nI_ltI (by omega) (by decide)]
  have l5 : 5 < nI k ↔ 5 < k := by rw [show (5 : Int32) = nI 5 by decide, nI_ltI (by decide) (by omega)]
  by_cases ck : fn_cm_within (nI k).toInt64 1 5 = 0
  · rw [if_pos ck] at fm
    have w1 := w.mp ck
    by_cases k0 : k < 1
    · rw [if_pos (l1.mpr k0)] at fx
      cases fx; cases fm
      exact ⟨rfl, rfl, rfl, id⟩
    · rw [if_neg (fun z => k0 (l1.mp z)), if_pos (l5.mpr (by omega))] at fx
      cases fx; cases fm
      exact ⟨rfl, rfl, rfl, id⟩
  have w1 : ¬ ((k : Int) < 1 ∨ 5 < (k : Int)) := fun z => ck (w.mpr z)
  rw [if_neg ck] at fm
  rw [if_neg (fun z => w1 (Or.inl (by have := l1.mp z; omega))), if_neg (fun z => w1 (Or.inr (by have := l5.mp z; omega)))] at fx
  by_cases b2 : fn_cm_isBits (nI k) x2 = 0
  · rw [if_pos b2] at fx fm
    cases fx; cases fm
    exact ⟨rfl, rfl, rfl, id⟩
  rw [if_neg b2] at fx fm
  by_cases b3 : fn_cm_isBits (nI k) x3 = 0
  · rw [if_pos b3] at fx fm
    cases fx; cases fm
    exact ⟨rfl, rfl, rfl, id⟩
  rw [if_neg b3] at fx fm
  unfold sp_sO at fm
  by_cases cr : (sp_spR x2 x3 x4 (16 * d) n ca).1 = 0
  · rw [if_pos cr] at fx fm
    cases fx; cases fm
    exact ⟨rfl, zl_uu, rfl, fun z => z.sp eda g6 ek (by omega) (by omega) (fun j hj => zl_spRO hn hj) (fun e he => pk_un he)⟩
  · rw [if_neg cr] at fx fm
    cases fx; cases fm
    exact ⟨pk_us, rfl, rfl, fun z => z.sp eda g6 ek (by omega) (by omega) (fun j hj => zl_spRO hn hj) (fun e he => pk_un he)⟩
theorem zl_hcE {nd d : Nat} {co : Nat → Int32} {x1 x2 : Int32} (h : ¬ fn_co_chas (nI nd) x1 = 0) (e : x1.toNatClampNeg = d) : sp_hc nd co x1 x2 = fn_co_hasPlace co d x2 := by
  unfold sp_hc
  rw [if_neg h, e]
  rfl
theorem zl_hc0 {nd : Nat} {co : Nat → Int32} {x1 x2 : Int32} (h : fn_co_chas (nI nd) x1 = 0) : sp_hc nd co x1 x2 = 0 := by
  unfold sp_hc
  rw [if_pos h]
theorem rl0_choose {na ne nd : Nat} {dp sa ln pn pl sl da dq co : Nat → Int32} {ca btX btM : Nat → Int64} {x1 x2 r r' : Int32} {bt2 bt3 : Nat → Int64} (hC : zz_CI na nd sa ln pl sl co) (hP : zz_DP nd pl nd da dq) (fx : (r, bt2) = fo_cx_choose na ne nd btX pn sl co ca dp sa ln pl x1 x2) (fm : (r', bt3) = fo_my_choose nd sa btM pn da dq co ca ln x1 x2) : r = r' := by
  have h24 := hC.1
  unfold fo_cx_choose at fx
  unfold fo_my_choose at fm
  by_cases c : fn_cm_isDecision (nI nd) x1 = 0
  · rw [if_pos (zl_hc0 (zl_dN h24 c))] at fx
    rw [if_pos c] at fm
    cases fx; cases fm
    rfl
  obtain ⟨d, hd, ed⟩ := zl_isD h24 c
  have ed2 : x1.toNatClampNeg = d := by rw [ed]; exact nI_clamp (by omega)
  obtain ⟨b, q, g1, g2, g3, g4, g5, g6, g7⟩ := zl_dbq hP hd
  obtain ⟨hb, sz, n, es, hs, ez, ec, hn⟩ := zl_dci hC hd g5 g6 g7
  have eC : (co d).toNatClampNeg = n := by rw [ec]; exact nI_clamp (by omega)
  have eda : da d = nI b := by
    obtain ⟨b0, q0, p1, p2, p3, p4, p5⟩ := hP.2 d hd
    rw [p2] at g3 ⊢
    rw [← g3, nI_clamp (by omega)]
  rw [zl_hcE (fun z => c (zl_dH h24 z)) ed2, ed2, g1, g2] at fx
  rw [if_neg c, ed2, eC, g3, g4] at fm
  by_cases z : fn_cm_within x2.toInt64 0 ((nI n - 1).toInt64) = 0
  · rw [if_pos (zl_hpN ec (by omega) z)] at fx
    rw [if_pos z] at fm
    cases fx; cases fm
    rfl
  · obtain ⟨j, hj, ej⟩ := zl_wi (n := n) (by omega) z
    rw [if_neg (zl_hpY ec (by omega) ej hj)] at fx
    rw [if_neg z] at fm
    by_cases p : pn ((sa b).toNatClampNeg + q) = 0
    · rw [if_pos p] at fx fm
      cases fx; cases fm
      rfl
    · rw [if_neg p] at fx fm
      cases fx; cases fm
      rfl
theorem rl0_candidateOf {na ne nd : Nat} {dp sa ln pl sl da dq co : Nat → Int32} {ca : Nat → Int64} {x1 x2 : Int32} (hC : zz_CI na nd sa ln pl sl co) (hP : zz_DP nd pl nd da dq) : fn_cx_candidateOf na ne nd co ca dp sa ln pl sl x1 x2 = fn_my_candidateOf nd co ca x1 x2 := by
  have h24 := hC.1
  unfold fn_cx_candidateOf fn_my_candidateOf
  by_cases c : fn_cm_isDecision (nI nd) x1 = 0
  · rw [if_pos (zl_hc0 (zl_dN h24 c)), if_pos c]
  obtain ⟨d, hd, ed⟩ := zl_isD h24 c
  have ed2 : x1.toNatClampNeg = d := by rw [ed]; exact nI_clamp (by omega)
  obtain ⟨b, q, g1, g2, g3, g4, g5, g6, g7⟩ := zl_dbq hP hd
  obtain ⟨hb, sz, n, es, hs, ez, ec, hn⟩ := zl_dci hC hd g5 g6 g7
  have eC : (co d).toNatClampNeg = n := by rw [ec]; exact nI_clamp (by omega)
  have eda : da d = nI b := by
    obtain ⟨b0, q0, p1, p2, p3, p4, p5⟩ := hP.2 d hd
    rw [p2] at g3 ⊢
    rw [← g3, nI_clamp (by omega)]
  rw [zl_hcE (fun z => c (zl_dH h24 z)) ed2, if_neg c, ed2, eC]
  by_cases z : fn_cm_within x2.toInt64 0 ((nI n - 1).toInt64) = 0
  · rw [if_pos (zl_hpN ec (by omega) z), if_pos z]
  · obtain ⟨j, hj, ej⟩ := zl_wi (n := n) (by omega) z
    rw [if_neg (zl_hpY ec (by omega) ej hj), if_neg z, Nat.mul_comm d 16]
theorem rl0_rule {na ne nr : Nat} {kd dp cl sa ln so ju we : Nat → Int32} {lo hi btM : Nat → Int64} {x1 x2 x3 : Int32} {x4 x5 : Int64} {r r' : Int32} {nr2 nr3 : Nat} {so2 ju2 we2 so3 ju3 we3 : Nat → Int32} {lo2 hi2 lo3 hi3 : Nat → Int64} (hM : zz_MI na ne dp sa ln btM) (hk : zz_KC na kd cl) (h12 : nr ≤ 12) (fx : (r, nr2, so2, ju2, we2, lo2, hi2) = fo_cx_rule na ne nr kd dp sa ln so ju we lo hi x1 x2 x3 x4 x5) (fm : (r', nr3, so3, ju3, we3, lo3, hi3) = fo_my_rule na nr kd dp ln sa so ju we lo hi x1 x2 x3 x4 x5) : r = r' ∧ zz_RU nr2 so2 ju2 we2 lo2 hi2 nr3 so3 ju3 we3 lo3 hi3 := by
  unfold fo_cx_rule at fx
  unfold fo_my_rule at fm
  by_cases c : fn_cm_isArray (nI na) x2 = 0
  · rw [if_pos (zl_isN hM.1.1 c)] at fx
    rw [if_pos c] at fm
    cases fx; cases fm
    exact ⟨rfl, rfl, rfl, rfl, rfl, rfl, rfl⟩
  have c' : ¬ fn_co_has (nI na) x2 = 0 := fun q => c (zl_isH hM.1.1 q)
  obtain ⟨a, ha, e⟩ := zl_isA hM.1.1 c
  have hna := hM.1.1
  have ea : x2.toNatClampNeg = a := by rw [e]; exact nI_clamp (by omega)
  obtain ⟨s, l, d, es, el, ed, g1, g2, g3, g4⟩ := hM.1.2.2 a ha
  have eD : (dp a).toNatClampNeg = d := by rw [ed]; exact nI_clamp (by omega)
  obtain ⟨k, ek, hk8, hc⟩ := hk a ha
  rw [if_neg c', ea, eD, ek, zl_holds (by omega) x4, zl_clean] at fx
  rw [if_neg c, ea, eD, ek] at fm
  have w := zl_win x1 0 5
  rw [show (0 : Int64).toInt = 0 by decide, show (5 : Int64).toInt = 5 by decide] at w
  have e0 : (0 : Int32).toInt = 0 := by decide
  have e5 : (5 : Int32).toInt = 5 := by decide
  by_cases z1 : fn_cm_within x1.toInt64 0 5 = 0
  · rw [if_pos z1] at fm
    have w1 := w.mp z1
    by_cases n0 : x1 < 0
    · rw [if_pos n0] at fx
      cases fx; cases fm
      exact ⟨rfl, rfl, rfl, rfl, rfl, rfl, rfl⟩
    · rw [if_neg n0, if_pos (show 5 < x1 by rw [Int32.lt_iff_toInt_lt] at n0 ⊢; omega)] at fx
      cases fx; cases fm
      exact ⟨rfl, rfl, rfl, rfl, rfl, rfl, rfl⟩
  have w1 : ¬ (x1.toInt < 0 ∨ 5 < x1.toInt) := fun z => z1 (w.mpr z)
  rw [if_neg z1] at fm
  rw [if_neg (show ¬ x1 < 0 by rw [Int32.lt_iff_toInt_lt]; omega), if_neg (show ¬ 5 < x1 by rw [Int32.lt_iff_toInt_lt]; omega)] at fx
  have v := zl_win x3 (-1000) 1000
  rw [show (-1000 : Int64).toInt = -1000 by decide, show (1000 : Int64).toInt = 1000 by decide] at v
  have e6 : (-1000 : Int32).toInt = -1000 := by decide
  have e7 : (1000 : Int32).toInt = 1000 := by decide
  by_cases z3 : fn_cm_within x3.toInt64 (-1000) 1000 = 0
  · rw [if_pos z3] at fm
    have v1 := v.mp z3
    by_cases n0 : x3 < -1000
    · rw [if_pos n0] at fx
      cases fx; cases fm
      exact ⟨rfl, rfl, rfl, rfl, rfl, rfl, rfl⟩
    · rw [if_neg n0, if_neg (show ¬ x3 ≤ 1000 by rw [Int32.lt_iff_toInt_lt] at n0; rw [Int32.le_iff_toInt_le]; omega)] at fx
      cases fx; cases fm
      exact ⟨rfl, rfl, rfl, rfl, rfl, rfl, rfl⟩
  have v1 : ¬ (x3.toInt < -1000 ∨ 1000 < x3.toInt) := fun z => z3 (v.mpr z)
  rw [if_neg z3] at fm
  rw [if_neg (show ¬ x3 < -1000 by rw [Int32.lt_iff_toInt_lt]; omega), if_pos (show x3 ≤ 1000 by rw [Int32.le_iff_toInt_le]; omega)] at fx
  have hT : ∀ L : Int64, (r, nr2, so2, ju2, we2, lo2, hi2) = (if (nI d) = 1 then (if (nI nr) < 12 then ((nI nr), (nr + 1), (upd so nr x1), (upd ju nr (nI a)), (upd we nr x3), (vp_updL lo nr L), (vp_updL hi nr x5)) else (-8, nr, so, ju, we, lo, hi)) else (-1, nr, so, ju, we, lo, hi)) → (r', nr3, so3, ju3, we3, lo3, hi3) = (if (nI d) ≤ 1 then (if (nI nr) = 12 then (-8, nr, so, ju, we, lo, hi) else ((nI nr), (nr + 1), (upd so nr x1), (upd ju nr (nI a)), (upd we nr x3), (vp_updL lo nr L), (vp_updL hi nr x5))) else (-1, nr, so, ju, we, lo, hi)) → r = r' ∧ zz_RU nr2 so2 ju2 we2 lo2 hi2 nr3 so3 ju3 we3 lo3 hi3 := fun L fx fm => by
    have i1 : nI d ≤ 1 ↔ d = 1 := by
      rw [show (1 : Int32) = nI 1 by decide, nI_leI (by omega) (by decide)]; omega
    have i2 : nI d = 1 ↔ d = 1 := ⟨fun z => zl_inj (y := 1) z (by omega) (by omega), fun z => by rw [z]; rfl⟩
    by_cases q : d = 1
    · rw [if_pos (i2.mpr q)] at fx
      rw [if_pos (i1.mpr q)] at fm
      by_cases w : nr = 12
      · rw [if_neg (by rw [w]; decide)] at fx
        rw [if_pos (by rw [w]; rfl)] at fm
        cases fx; cases fm
        exact ⟨rfl, rfl, rfl, rfl, rfl, rfl, rfl⟩
      · rw [if_pos (by rw [show (12 : Int32) = nI 12 by decide, nI_ltI (by omega) (by decide)]; omega)] at fx
        rw [if_neg (fun z : nI nr = 12 => w (zl_inj (y := 12) z (by omega) (by omega)))] at fm
        cases fx; cases fm
        exact ⟨rfl, rfl, rfl, rfl, rfl, rfl, rfl⟩
    · rw [if_neg (fun z => q (i2.mp z))] at fx
      rw [if_neg (fun z => q (i1.mp z))] at fm
      cases fx; cases fm
      exact ⟨rfl, rfl, rfl, rfl, rfl, rfl, rfl⟩
  by_cases cs : x1 = 3
  · rw [if_pos cs] at fx fm
    by_cases cb : fn_cm_isBits (nI k) x4 = 0
    · rw [if_pos cb] at fx fm
      cases fx; cases fm
      exact ⟨rfl, rfl, rfl, rfl, rfl, rfl, rfl⟩
    · rw [if_neg cb] at fx fm
      exact hT _ fx fm
  · rw [if_neg cs] at fx fm
    exact hT _ fx fm
theorem rl0_count {na ne nd nr nm : Nat} {sa ln pn pl sl da dq co : Nat → Int32} {x1 : Int32} (hC : zz_CI na nd sa ln pl sl co) (hP : zz_DP nd pl nd da dq) : fn_cx_count (nI nm) na ne nd nr sl co pn x1 = fn_my_count na ne nd nr nm sa pn da dq co x1 := by
  unfold fn_cx_count fn_my_count
  have w := zl_win x1 0 5
  rw [show (0 : Int64).toInt = 0 by decide, show (5 : Int64).toInt = 5 by decide] at w
  by_cases z : fn_cm_within x1.toInt64 0 5 = 0
  · have w1 := w.mp z
    rw [if_pos z]
    have n : ∀ k : Nat, k ≤ 5 → ¬ x1 = nI k := fun k hk q => by
      rw [q, nI_toInt (by omega)] at w1
      omega
    rw [if_neg (n 0 (by decide)), if_neg (n 1 (by decide)), if_neg (n 2 (by decide)), if_neg (n 3 (by decide)), if_neg (n 4 (by decide)), if_neg (n 5 (by decide))]
  · rw [if_neg z]
    have w1 : ¬ (x1.toInt < 0 ∨ 5 < x1.toInt) := fun q => z (w.mpr q)
    have e0 : (0 : Int32).toInt = 0 := by decide
    have e5 : (5 : Int32).toInt = 5 := by decide
    obtain ⟨k, hk5, ek⟩ := nI_of2 (x := x1) (M := 5) (n := 5) (by decide) (by rw [Int32.lt_iff_toInt_lt]; omega) (by rw [Int32.le_iff_toInt_le]; omega)
    rw [ek, zl_ways (pn := pn) hC hP]
    rcases (show k = 0 ∨ k = 1 ∨ k = 2 ∨ k = 3 ∨ k = 4 ∨ k = 5 by omega) with rfl | rfl | rfl | rfl | rfl | rfl
    · rfl
    · rfl
    · rfl
    · rfl
    · rfl
    · rfl
theorem rl_candidate {naX : Nat} {nuX : Nat} {kdX : Nat → Int32} {dpX : Nat → Int32} {clX : Nat → Int32} {saX : Nat → Int32} {lnX : Nat → Int32} {btX : Nat → Int64} {pnX : Nat → Int32} {naM : Nat} {neM : Nat} {kdM : Nat → Int32} {dpM : Nat → Int32} {clM : Nat → Int32} {saM : Nat → Int32} {lnM : Nat → Int32} {btM : Nat → Int64} {pnM : Nat → Int32} {ndX ndM : Nat} {plX slX coX daM dqM coM : Nat → Int32} {caX caM : Nat → Int64} {x1 : Int32} {x2 : Int64} {r r' : Int32} {co2 co3 : Nat → Int32} {ca2 ca3 : Nat → Int64} (h : zz_RL naX nuX kdX dpX clX saX lnX btX pnX naM neM kdM dpM clM saM lnM btM pnM) (hC : zz_CI naX ndX saX lnX plX slX coX) (hP : zz_DP ndX plX ndM daM dqM) (hG : zz_CA coX caX coM caM) (fx : (r, co2, ca2) = fo_cx_candidate naX nuX ndX kdX clX plX coX caX dpX saX lnX slX x1 x2) (fm : (r', co3, ca3) = fo_my_candidate ndM kdM clM daM coM caM x1 x2) : r = r' ∧ zz_CA co2 ca2 co3 ca3 ∧ (zz_CV ndM kdM daM coM caM → zz_CV ndM kdM daM co3 ca3) := by
  obtain ⟨rfl, rfl, rfl, rfl, rfl, rfl, rfl, rfl, hk, h⟩ := h
  obtain ⟨rfl, hP⟩ := hP
  obtain ⟨rfl, rfl⟩ := hG
  have z := rl0_candidate hk hC ⟨rfl, hP⟩ fx fm
  exact ⟨z.1, ⟨z.2.1, z.2.2.1⟩, z.2.2.2⟩
theorem rl_span {naX : Nat} {nuX : Nat} {kdX : Nat → Int32} {dpX : Nat → Int32} {clX : Nat → Int32} {saX : Nat → Int32} {lnX : Nat → Int32} {btX : Nat → Int64} {pnX : Nat → Int32} {naM : Nat} {neM : Nat} {kdM : Nat → Int32} {dpM : Nat → Int32} {clM : Nat → Int32} {saM : Nat → Int32} {lnM : Nat → Int32} {btM : Nat → Int64} {pnM : Nat → Int32} {ndX ndM : Nat} {plX slX coX daM dqM coM : Nat → Int32} {caX caM : Nat → Int64} {x1 : Int32} {x2 x3 x4 : Int64} {r r' : Int32} {co2 co3 : Nat → Int32} {ca2 ca3 : Nat → Int64} (h : zz_RL naX nuX kdX dpX clX saX lnX btX pnX naM neM kdM dpM clM saM lnM btM pnM) (hC : zz_CI naX ndX saX lnX plX slX coX) (hP : zz_DP ndX plX ndM daM dqM) (hG : zz_CA coX caX coM caM) (fx : (r, co2, ca2) = fo_cx_span naX nuX ndX kdX plX coX caX dpX saX lnX slX x1 x2 x3 x4) (fm : (r', co3, ca3) = sp_sM ndM kdM daM coM caM x1 x2 x3 x4) : r = r' ∧ zz_CA co2 ca2 co3 ca3 ∧ (zz_CV ndM kdM daM coM caM → zz_CV ndM kdM daM co3 ca3) := by
  obtain ⟨rfl, rfl, rfl, rfl, rfl, rfl, rfl, rfl, hk, h⟩ := h
  obtain ⟨rfl, hP⟩ := hP
  obtain ⟨rfl, rfl⟩ := hG
  have z := rl0_span hk hC ⟨rfl, hP⟩ fx fm
  exact ⟨z.1, ⟨z.2.1, z.2.2.1⟩, z.2.2.2⟩
theorem rl_choose {naX : Nat} {nuX : Nat} {kdX : Nat → Int32} {dpX : Nat → Int32} {clX : Nat → Int32} {saX : Nat → Int32} {lnX : Nat → Int32} {btX : Nat → Int64} {pnX : Nat → Int32} {naM : Nat} {neM : Nat} {kdM : Nat → Int32} {dpM : Nat → Int32} {clM : Nat → Int32} {saM : Nat → Int32} {lnM : Nat → Int32} {btM : Nat → Int64} {pnM : Nat → Int32} {ndX ndM : Nat} {plX slX coX daM dqM coM : Nat → Int32} {caX caM : Nat → Int64} {x1 x2 r r' : Int32} {bt2 bt3 : Nat → Int64} (h : zz_RL naX nuX kdX dpX clX saX lnX btX pnX naM neM kdM dpM clM saM lnM btM pnM) (hC : zz_CI naX ndX saX lnX plX slX coX) (hP : zz_DP ndX plX ndM daM dqM) (hG : zz_CA coX caX coM caM) (fx : (r, bt2) = fo_cx_choose naX nuX ndX btX pnX slX coX caX dpX saX lnX plX x1 x2) (fm : (r', bt3) = fo_my_choose ndM saM btM pnM daM dqM coM caM lnM x1 x2) : r = r' := by
  obtain ⟨rfl, rfl, rfl, rfl, rfl, rfl, rfl, rfl, hk, h⟩ := h
  obtain ⟨rfl, hP⟩ := hP
  obtain ⟨rfl, rfl⟩ := hG
  exact rl0_choose hC ⟨rfl, hP⟩ fx fm
theorem rl_candidateOf {naX : Nat} {nuX : Nat} {kdX : Nat → Int32} {dpX : Nat → Int32} {clX : Nat → Int32} {saX : Nat → Int32} {lnX : Nat → Int32} {btX : Nat → Int64} {pnX : Nat → Int32} {naM : Nat} {neM : Nat} {kdM : Nat → Int32} {dpM : Nat → Int32} {clM : Nat → Int32} {saM : Nat → Int32} {lnM : Nat → Int32} {btM : Nat → Int64} {pnM : Nat → Int32} {ndX ndM : Nat} {plX slX coX daM dqM coM : Nat → Int32} {caX caM : Nat → Int64} {x1 x2 : Int32} (h : zz_RL naX nuX kdX dpX clX saX lnX btX pnX naM neM kdM dpM clM saM lnM btM pnM) (hC : zz_CI naX ndX saX lnX plX slX coX) (hP : zz_DP ndX plX ndM daM dqM) (hG : zz_CA coX caX coM caM) : fn_cx_candidateOf naX nuX ndX coX caX dpX saX lnX plX slX x1 x2 = fn_my_candidateOf ndM coM caM x1 x2 := by
  obtain ⟨rfl, rfl, rfl, rfl, rfl, rfl, rfl, rfl, hk, h⟩ := h
  obtain ⟨rfl, hP⟩ := hP
  obtain ⟨rfl, rfl⟩ := hG
  exact rl0_candidateOf hC ⟨rfl, hP⟩
theorem rl_rule {naX : Nat} {nuX : Nat} {kdX : Nat → Int32} {dpX : Nat → Int32} {clX : Nat → Int32} {saX : Nat → Int32} {lnX : Nat → Int32} {btX : Nat → Int64} {pnX : Nat → Int32} {naM : Nat} {neM : Nat} {kdM : Nat → Int32} {dpM : Nat → Int32} {clM : Nat → Int32} {saM : Nat → Int32} {lnM : Nat → Int32} {btM : Nat → Int64} {pnM : Nat → Int32} {nrX nrM : Nat} {soX juX weX rsM juM weM : Nat → Int32} {loX hiX loM hiM : Nat → Int64} {x1 x2 x3 : Int32} {x4 x5 : Int64} {r r' : Int32} {nr2 nr3 : Nat} {so2 ju2 we2 so3 ju3 we3 : Nat → Int32} {lo2 hi2 lo3 hi3 : Nat → Int64} (hM : zz_MI naM neM dpM saM lnM btM) (h : zz_RL naX nuX kdX dpX clX saX lnX btX pnX naM neM kdM dpM clM saM lnM btM pnM) (h12 : nrM ≤ 12) (hE : zz_RU nrX soX juX weX loX hiX nrM rsM juM weM loM hiM) (fx : (r, nr2, so2, ju2, we2, lo2, hi2) = fo_cx_rule naX nuX nrX kdX dpX saX lnX soX juX weX loX hiX x1 x2 x3 x4 x5) (fm : (r', nr3, so3, ju3, we3, lo3, hi3) = fo_my_rule naM nrM kdM dpM lnM saM rsM juM weM loM hiM x1 x2 x3 x4 x5) : r = r' ∧ zz_RU nr2 so2 ju2 we2 lo2 hi2 nr3 so3 ju3 we3 lo3 hi3 := by
  obtain ⟨rfl, rfl, rfl, rfl, rfl, rfl, rfl, rfl, hk, h⟩ := h
  obtain ⟨rfl, rfl, rfl, rfl, rfl, rfl⟩ := hE
  exact rl0_rule hM hk h12 fx fm
theorem rl_count {naX : Nat} {nuX : Nat} {kdX : Nat → Int32} {dpX : Nat → Int32} {clX : Nat → Int32} {saX : Nat → Int32} {lnX : Nat → Int32} {btX : Nat → Int64} {pnX : Nat → Int32} {naM : Nat} {neM : Nat} {kdM : Nat → Int32} {dpM : Nat → Int32} {clM : Nat → Int32} {saM : Nat → Int32} {lnM : Nat → Int32} {btM : Nat → Int64} {pnM : Nat → Int32} {ndX ndM : Nat} {plX slX coX daM dqM coM : Nat → Int32} {caX caM : Nat → Int64} {nrX nrM nm : Nat} {soX juX weX rsM juM weM : Nat → Int32} {loX hiX loM hiM : Nat → Int64} {x1 : Int32} (h : zz_RL naX nuX kdX dpX clX saX lnX btX pnX naM neM kdM dpM clM saM lnM btM pnM) (hC : zz_CI naX ndX saX lnX plX slX coX) (hP : zz_DP ndX plX ndM daM dqM) (hG : zz_CA coX caX coM caM) (hE : zz_RU nrX soX juX weX loX hiX nrM rsM juM weM loM hiM) : fn_cx_count (nI nm) naX nuX ndX nrX slX coX pnX x1 = fn_my_count naM neM ndM nrM nm saM pnM daM dqM coM x1 := by
  obtain ⟨rfl, rfl, rfl, rfl, rfl, rfl, rfl, rfl, hk, h⟩ := h
  obtain ⟨rfl, hP⟩ := hP
  obtain ⟨rfl, rfl⟩ := hG
  obtain ⟨rfl, -⟩ := hE
  exact rl0_count hC ⟨rfl, hP⟩
theorem zl_slM {na nd : Nat} {sa ln pl sl co da dq : Nat → Int32} (hC : zz_CI na nd sa ln pl sl co) (hP : zz_DP nd pl nd da dq) {d : Nat} (hd : d < nd) : (sl d).toNatClampNeg = (zz_sM sa da dq d).toNatClampNeg := by
  obtain ⟨b, q, g1, g2, g3, g4, g5, g6, g7⟩ := zl_dbq hP hd
  obtain ⟨hb, sz, n, es, hs, ez, ec, hn⟩ := zl_dci hC hd g5 g6 g7
  show _ = (nI ((sa (da d).toNatClampNeg).toNatClampNeg + (dq d).toNatClampNeg)).toNatClampNeg
  rw [g3, g4, es, ez, nI_clamp (show sz < 2 ^ 31 by omega)]
theorem rl_SD {naX : Nat} {nuX : Nat} {kdX : Nat → Int32} {dpX : Nat → Int32} {clX : Nat → Int32} {saX : Nat → Int32} {lnX : Nat → Int32} {btX : Nat → Int64} {pnX : Nat → Int32} {naM : Nat} {neM : Nat} {kdM : Nat → Int32} {dpM : Nat → Int32} {clM : Nat → Int32} {saM : Nat → Int32} {lnM : Nat → Int32} {btM : Nat → Int64} {pnM : Nat → Int32} {ndX ndM : Nat} {plX slX coX daM dqM : Nat → Int32} (h : zz_RL naX nuX kdX dpX clX saX lnX btX pnX naM neM kdM dpM clM saM lnM btM pnM) (hC : zz_CI naX ndX saX lnX plX slX coX) (hP : zz_DP ndX plX ndM daM dqM) (hI : zz_SD ndX slX) : zz_SD ndM (zz_sM saM daM dqM) := by
  obtain ⟨rfl, rfl, rfl, rfl, rfl, rfl, rfl, rfl, hk, h⟩ := h
  obtain ⟨rfl, hP⟩ := hP
  intro d e hd he z
  rw [← zl_slM hC ⟨rfl, hP⟩ hd, ← zl_slM hC ⟨rfl, hP⟩ he] at z
  exact hI d e hd he z
theorem rl_best {naX : Nat} {nuX : Nat} {kdX : Nat → Int32} {dpX : Nat → Int32} {clX : Nat → Int32} {saX : Nat → Int32} {lnX : Nat → Int32} {btX : Nat → Int64} {pnX : Nat → Int32} {naM : Nat} {neM : Nat} {kdM : Nat → Int32} {dpM : Nat → Int32} {clM : Nat → Int32} {saM : Nat → Int32} {lnM : Nat → Int32} {btM : Nat → Int64} {pnM : Nat → Int32} {ndX ndM : Nat} {plX slX coX daM dqM coM : Nat → Int32} {caX caM : Nat → Int64} (h : zz_RL naX nuX kdX dpX clX saX lnX btX pnX naM neM kdM dpM clM saM lnM btM pnM) (hC : zz_CI naX ndX saX lnX plX slX coX) (hP : zz_DP ndX plX ndM daM dqM) (hG : zz_CA coX caX coM caM) : sp_bR (zz_wy (zz_cX pnX slX coX) ndX 0 1) = sp_bR (zz_wy (zz_cM pnM saM daM dqM coM) ndM 0 1) := by
  obtain ⟨rfl, rfl, rfl, rfl, rfl, rfl, rfl, rfl, hk, h⟩ := h
  obtain ⟨rfl, hP⟩ := hP
  obtain ⟨rfl, rfl⟩ := hG
  rw [zl_ways hC ⟨rfl, hP⟩]
