/-- both sides have decisions at the same places -/
def zz_DP (ndX : Nat) (plX : Nat → Int32) (ndM : Nat) (daM dqM : Nat → Int32) : Prop := ndX = ndM ∧ ∀ d, d < ndM → ∃ b q : Nat, plX d = nI (1000 * b + q) ∧ daM d = nI b ∧ dqM d = nI q ∧ b < 60 ∧ q < 200
theorem zl_at {pl da dq : Nat → Int32} {nd b q : Nat} (hb : b < 60) (hq : q < 200) (h : ∀ d, d < nd → ∃ b q : Nat, pl d = nI (1000 * b + q) ∧ da d = nI b ∧ dq d = nI q ∧ b < 60 ∧ q < 200) : ∀ (n i : Nat), i + n ≤ nd → (sp_at pl (nI (1000 * b + q)) n i = -2 ∧ zz_at2 da dq (nI b) (nI q) n i = i + n) ∨ ∃ d, d < i + n ∧ sp_at pl (nI (1000 * b + q)) n i = nI d ∧ zz_at2 da dq (nI b) (nI q) n i = d
  | 0, i, _ => Or.inl ⟨rfl, rfl⟩
  | n + 1, i, hi => by
    rw [sp_at, zz_at2]
    obtain ⟨b', q', e1, e2, e3, h1, h2⟩ := h i (by omega)
    by_cases c : b' = b ∧ q' = q
    · have p1 : pl i = nI (1000 * b + q) := by rw [e1, c.1, c.2]
      have p2 : da i = nI b ∧ dq i = nI q := ⟨by rw [e2, c.1], by rw [e3, c.2]⟩
      rw [if_pos p1, if_pos p2]; exact Or.inr ⟨i, by omega, rfl, rfl⟩
    · have c1 : ¬ pl i = nI (1000 * b + q) := fun z => by
        rw [e1] at z
        have := (nI_eq (by omega) (by omega)).mp z
        exact c ⟨by omega, by omega⟩
      have c2 : ¬ (da i = nI b ∧ dq i = nI q) := fun z => c ⟨zl_inj (e2.symm.trans z.1) (by omega) (by omega), zl_inj (e3.symm.trans z.2) (by omega) (by omega)⟩
      rw [if_neg c1, if_neg c2]
      rcases zl_at hb hq h n (i + 1) (by omega) with ⟨g1, g2⟩ | ⟨d, g0, g1, g2⟩
      · exact Or.inl ⟨g1, by rw [g2]; omega⟩
      · exact Or.inr ⟨d, by omega, g1, g2⟩
theorem zz_DP.add {ndX ndM b q : Nat} {plX daM dqM : Nat → Int32} (h : zz_DP ndX plX ndM daM dqM) (hb : b < 60) (hq : q < 200) : zz_DP (ndX + 1) (upd plX ndX (nI (1000 * b + q))) (ndM + 1) (upd daM ndM (nI b)) (upd dqM ndM (nI q)) := by
  obtain ⟨e, h⟩ := h
  refine ⟨by rw [e], fun d hd => ?_⟩
  rw [e]
  by_cases w : d = ndM
  · rw [w, pk_us, pk_us, pk_us]; exact ⟨b, q, rfl, rfl, rfl, hb, hq⟩
  · rw [pk_un w, pk_un w, pk_un w]; exact h d (by omega)
theorem rl0_decide {na : Nat} {ne : Nat} {kd : Nat → Int32} {dp : Nat → Int32} {cl : Nat → Int32} {sa : Nat → Int32} {ln : Nat → Int32} {pn : Nat → Int32} {btX : Nat → Int64} {btM : Nat → Int64} {nd : Nat} {pl sl co da dq co' : Nat → Int32} {x1 x2 x3 x4 x5 r r' : Int32} {nd2 nd3 : Nat} {pl2 sl2 co2 da3 dq3 co3 : Nat → Int32} (hM : zz_MI na ne dp sa ln btM) (hk : zz_KC na kd cl) (h : zz_R1 na ne dp sa ln btX btM pn) (h24 : nd ≤ 24) (hP : zz_DP nd pl nd da dq) (fx : (r, nd2, pl2, sl2, co2) = fo_cx_decide na ne nd dp sa ln btX pl sl co x1 x2 x3 x4 x5) (fm : (r', nd3, da3, dq3, co3) = fo_my_decide na ne nd dp ln sa btM da dq co' x1 x2 x3 x4 x5) : r = r' ∧ zz_DP nd2 pl2 nd3 da3 dq3 ∧ (co = co' → co2 = co3) ∧ ∀ kd ca, zz_CV nd kd da co' ca → zz_CV nd3 kd da3 co3 ca := by
  unfold fo_cx_decide at fx
  unfold fo_my_decide at fm
  by_cases c : fn_cm_isArray (nI na) x1 = 0
  · rw [if_pos (zl_isN hM.1.1 c)] at fx
    rw [if_pos c] at fm
    cases fx; cases fm
    exact ⟨rfl, hP, id, fun _ _ => id⟩
  · have c' : ¬ fn_co_has (nI na) x1 = 0 := fun q => c (zl_isH hM.1.1 q)
    obtain ⟨a, ha, e⟩ := zl_isA hM.1.1 c
    have hna := hM.1.1
    have ea : x1.toNatClampNeg = a := by rw [e]; exact nI_clamp (by omega)
    rw [if_neg c', ea, zl_walkeq hM h.1 _ 4 a 0 ha] at fx
    rw [if_neg c, ea] at fm
    rcases zl_walkres (bt := btM) hM.1 (zz_pa x2 x3 x4 x5) 4 a 0 ha with q | q | ⟨b, j, sz, lz, q, h1, h2, h3, h4, h5, h6, h7, h8⟩
    · rw [q, if_neg (by decide)] at fx
      rw [q, if_neg (by decide)] at fm
      cases fx; cases fm
      exact ⟨by decide, hP, id, fun _ _ => id⟩
    · rw [q, if_neg (by decide)] at fx
      rw [q, if_neg (by decide)] at fm
      cases fx; cases fm
      exact ⟨by decide, hP, id, fun _ _ => id⟩
    · have hj : j < 200 := by omega
      obtain ⟨k1, k2, k3⟩ := zl_wN h2 hj
      rw [q, if_pos k1, k2, k3] at fx
      rw [q, zl_fc0 h2 hj, if_pos (show (0 : Int32) ≤ 0 by decide), k2, k3] at fm
      rcases zl_at h2 hj hP.2 nd 0 (by omega) with ⟨g1, g2⟩ | ⟨d, g0, g1, g2⟩
      · rw [g1, if_pos (show (-2 : Int32) < 0 by decide)] at fx
        rw [g2, Nat.zero_add, if_pos (Int32.le_refl _)] at fm
        by_cases w : nd = 24
        · rw [if_neg (by rw [w]; decide)] at fx
          rw [if_pos (by rw [w]; rfl)] at fm
          cases fx; cases fm
          exact ⟨rfl, hP, id, fun _ _ => id⟩
        · rw [if_pos (by rw [show (24 : Int32) = nI 24 by decide, nI_ltI (by omega) (by decide)]; omega)] at fx
          rw [if_neg (fun z : nI nd = 24 => w (zl_inj (y := 24) z (by omega) (by omega)))] at fm
          cases fx; cases fm
          exact ⟨rfl, hP.add h2 hj, fun z => by rw [z], fun _ _ z => z.dec⟩
      · rw [g1, if_neg (nI_pos (by omega))] at fx
        rw [g2, if_neg (nI_ge (by omega) (by omega))] at fm
        cases fx; cases fm
        exact ⟨rfl, hP, id, fun _ _ => id⟩
theorem rl_decide {naX : Nat} {nuX : Nat} {kdX : Nat → Int32} {dpX : Nat → Int32} {clX : Nat → Int32} {saX : Nat → Int32} {lnX : Nat → Int32} {btX : Nat → Int64} {pnX : Nat → Int32} {naM : Nat} {neM : Nat} {kdM : Nat → Int32} {dpM : Nat → Int32} {clM : Nat → Int32} {saM : Nat → Int32} {lnM : Nat → Int32} {btM : Nat → Int64} {pnM : Nat → Int32} {ndX ndM : Nat} {plX slX coX daM dqM coM : Nat → Int32} {x1 x2 x3 x4 x5 r r' : Int32} {nd2 nd3 : Nat} {pl2 sl2 co2 da3 dq3 co3 : Nat → Int32} (hM : zz_MI naM neM dpM saM lnM btM) (h : zz_RL naX nuX kdX dpX clX saX lnX btX pnX naM neM kdM dpM clM saM lnM btM pnM) (h24 : ndM ≤ 24) (hP : zz_DP ndX plX ndM daM dqM) (fx : (r, nd2, pl2, sl2, co2) = fo_cx_decide naX nuX ndX dpX saX lnX btX plX slX coX x1 x2 x3 x4 x5) (fm : (r', nd3, da3, dq3, co3) = fo_my_decide naM neM ndM dpM lnM saM btM daM dqM coM x1 x2 x3 x4 x5) : r = r' ∧ zz_DP nd2 pl2 nd3 da3 dq3 ∧ (coX = coM → co2 = co3) ∧ ∀ kd ca, zz_CV ndM kd daM coM ca → zz_CV nd3 kd da3 co3 ca := by
  obtain ⟨rfl, rfl, rfl, rfl, rfl, rfl, rfl, rfl, hk, h⟩ := h
  obtain ⟨rfl, hP⟩ := hP
  exact rl0_decide hM hk h h24 ⟨rfl, hP⟩ fx fm
theorem zl_slD1 {naX : Nat} {nuX : Nat} {kdX : Nat → Int32} {dpX : Nat → Int32} {clX : Nat → Int32} {saX : Nat → Int32} {lnX : Nat → Int32} {btX : Nat → Int64} {pnX : Nat → Int32} {naM : Nat} {neM : Nat} {kdM : Nat → Int32} {dpM : Nat → Int32} {clM : Nat → Int32} {saM : Nat → Int32} {lnM : Nat → Int32} {btM : Nat → Int64} {pnM : Nat → Int32} {ndX ndM : Nat} {plX slX coX daM dqM coM : Nat → Int32} {bt2 : Nat → Int64} (h : zz_RL naX nuX kdX dpX clX saX lnX btX pnX naM neM kdM dpM clM saM lnM btM pnM) (hC : zz_CI naX ndX saX lnX plX slX coX) (hP : zz_DP ndX plX ndM daM dqM) (hD : zz_MD naM ndM dpM saM lnM daM dqM coM) (f : ∀ j, (∀ d t, d < ndX → slX d = nI t → t ≤ 4000 → j ≠ t) → bt2 j = btX j) : zz_D1 naX dpX saX lnX btX bt2 := by
  obtain ⟨rfl, rfl, rfl, rfl, rfl, rfl, rfl, rfl, hk, h⟩ := h
  obtain ⟨rfl, hP⟩ := hP
  refine fun j hj => f j (fun d t hd et ht ej => ?_)
  obtain ⟨b, q, sz, lz, n, e1, e2, e3, e4, e5, e6, e7, e8, e9, e10, e11⟩ := hC.2 d hd
  obtain ⟨b', q', g1, g2, g3, g4, g5⟩ := hP d hd
  obtain ⟨b2, q2, s2, l2, n2, f1, f2, f3, f4, f5, f6, f7, f8, f9, f10, f11, f12⟩ := hD.2 d hd
  have w1 : 1000 * b + q = 1000 * b' + q' := (nI_eq (by omega) (by omega)).mp (e1.symm.trans g1)
  have w2 : b' = b2 := zl_inj (g2.symm.trans f1) (by omega) (by omega)
  have w3 : sz + q = t := zl_inj (e9.symm.trans et) (by omega) ht
  have w4 : b = b2 := by omega
  have := hj b sz lz e2 (by rw [w4]; exact f10) e4 e5 (by omega) e7
  omega
/-- both sides keep the same marks -/
def zz_MR (nm : Nat) (L : List zz_TM) (na : Nat) (dp sa ln me : Nat → Int32) (mb : Nat → Int64) (mp : Nat → Int32) : Prop := ∀ (k : Nat) (x : zz_TM), k < nm → L[k]? = some x → ∃ mu : Nat, x.2.2.2.1 = nI mu ∧ me k = nI mu ∧ mu ≤ 4000 ∧ (∀ j, j < mu → x.2.2.2.2.2 j = mp (4000 * k + j)) ∧ ∀ j, j < mu → (∀ b s l : Nat, b < na → dp b = nI 1 → sa b = nI s → ln b = nI l → s ≤ 4000 → l ≤ 200 → j < s ∨ s + l ≤ j) → x.2.2.2.2.1 j = mb (4000 * k + j)
theorem zz_MR.grow {nm na n2 : Nat} {L : List zz_TM} {dp sa ln me mp dp2 sa2 ln2 : Nat → Int32} {mb : Nat → Int64} (h : zz_MR nm L na dp sa ln me mb mp) (hn : na ≤ n2) (he : zz_EX na dp sa ln dp2 sa2 ln2) : zz_MR nm L n2 dp2 sa2 ln2 me mb mp := fun k x hk hx => by
  obtain ⟨mu, h1, h2, h3, h4, h5⟩ := h k x hk hx
  exact ⟨mu, h1, h2, h3, h4, fun j hj hb => h5 j hj (fun b s l g1 g2 g3 g4 => hb b s l (by omega) ((he b g1).2.2.trans g2) ((he b g1).1.trans g3) ((he b g1).2.1.trans g4))⟩
theorem zz_MR.drop {nm na : Nat} {L : List zz_TM} {dp sa ln me mp : Nat → Int32} {mb : Nat → Int64} (h : zz_MR (nm + 1) L na dp sa ln me mb mp) : zz_MR nm L na dp sa ln me mb mp := fun k x hk hx => h k x (by omega) hx
theorem zz_MR.add {naX : Nat} {nuX : Nat} {kdX : Nat → Int32} {dpX : Nat → Int32} {clX : Nat → Int32} {saX : Nat → Int32} {lnX : Nat → Int32} {btX : Nat → Int64} {pnX : Nat → Int32} {naM : Nat} {neM : Nat} {kdM : Nat → Int32} {dpM : Nat → Int32} {clM : Nat → Int32} {saM : Nat → Int32} {lnM : Nat → Int32} {btM : Nat → Int64} {pnM : Nat → Int32} {nm : Nat} {L L' : List zz_TM} {y : zz_TM} {me mp mp2 : Nat → Int32} {mb mb2 : Nat → Int64} (hR : zz_RL naX nuX kdX dpX clX saX lnX btX pnX naM neM kdM dpM clM saM lnM btM pnM) (h : zz_MR nm L naM dpM saM lnM me mb mp) (hne : neM ≤ 4000) (h1 : ∀ k, k < nm → L'[k]? = L[k]?) (h2 : L'[nm]? = some y) (e1 : y.2.2.2.1 = nI nuX) (f1 : ∀ j, j < nuX → y.2.2.2.2.1 j = btX j) (f2 : ∀ j, j < nuX → y.2.2.2.2.2 j = pnX j &&& 1) (g1 : ∀ j, j < neM → mb2 (4000 * nm + j) = btM j) (g2 : ∀ j, j < 4000 * nm → mb2 j = mb j) (g3 : ∀ j, j < neM → mp2 (4000 * nm + j) = pnM j &&& 1) (g4 : ∀ j, j < 4000 * nm → mp2 j = mp j) : zz_MR (nm + 1) L' naM dpM saM lnM (upd me nm (nI neM)) mb2 mp2 := fun k x hk hx => by
  obtain ⟨rfl, rfl, rfl, rfl, rfl, rfl, rfl, rfl, -, hr⟩ := hR
  by_cases q : k = nm
  · rw [q, h2] at hx
    cases hx
    rw [q, pk_us]
    refine ⟨_, e1, rfl, hne, fun j hj => ?_, fun j hj hb => ?_⟩
    · rw [f2 j hj, g3 j hj]
    · rw [f1 j hj, g1 j hj]; exact hr.1 j hb
  · rw [h1 k (by omega)] at hx
    obtain ⟨mu, a1, a2, a3, a4, a5⟩ := h k x (by omega) hx
    rw [pk_un q]
    exact ⟨mu, a1, a2, a3, fun j hj => by rw [a4 j hj, g4 _ (by omega)], fun j hj hb => by rw [a5 j hj hb, g2 _ (by omega)]⟩
theorem zz_MR.back {naX : Nat} {nuX : Nat} {kdX : Nat → Int32} {dpX : Nat → Int32} {clX : Nat → Int32} {saX : Nat → Int32} {lnX : Nat → Int32} {btX : Nat → Int64} {pnX : Nat → Int32} {naM : Nat} {neM : Nat} {kdM : Nat → Int32} {dpM : Nat → Int32} {clM : Nat → Int32} {saM : Nat → Int32} {lnM : Nat → Int32} {btM : Nat → Int64} {pnM : Nat → Int32} {nm mu um : Nat} {L : List zz_TM} {y : zz_TM} {me mp : Nat → Int32} {mb : Nat → Int64} {bt2 bt3 : Nat → Int64} {pn2 pn3 : Nat → Int32} (hR : zz_RL naX nuX kdX dpX clX saX lnX btX pnX naM neM kdM dpM clM saM lnM btM pnM) (h : zz_MR (nm + 1) L naM dpM saM lnM me mb mp) (hy : L[nm]? = some (y.1, y.2.1, y.2.2.1, nI mu, y.2.2.2.2.1, y.2.2.2.2.2)) (hK : zz_MK naM neM (nm + 1) dpM saM lnM me mb) (hmu : mu ≤ 4000) (hme : me nm = nI um) (hum : um ≤ 4000) (hne : neM ≤ 4000) (f1 : ∀ j, j < mu → bt2 j = y.2.2.2.2.1 j) (f2 : ∀ j, mu ≤ j → bt2 j = btX j) (f3 : ∀ j, j < mu → pn2 j = y.2.2.2.2.2 j &&& 1) (f4 : ∀ j, mu ≤ j → pn2 j = pnX j) (g1 : ∀ j, j < um → bt3 j = mb (4000 * nm + j)) (g2 : ∀ j, um ≤ j → bt3 j = btM j) (g3 : ∀ j, j < um → pn3 j = mp (4000 * nm + j) &&& 1) (g4 : ∀ j, um ≤ j → pn3 j = pnM j) : zz_RL naX nuX kdX dpX clX saX lnX bt2 pn2 naM neM kdM dpM clM saM lnM bt3 pn3 := by
  obtain ⟨rfl, rfl, rfl, rfl, rfl, rfl, rfl, rfl, hk, hr⟩ := hR
  obtain ⟨m2, a1, a2, a3, a4, a5⟩ := h nm _ (by omega) hy
  obtain ⟨m3, c1, c2, -⟩ := hK.2 nm (by omega)
  have e3 : m3 = m2 := zl_inj (c1.symm.trans a2) (by omega) a3
  have a1' : nI mu = nI m2 := a1
  have e1 : mu = m2 := zl_inj a1' hmu a3
  have e2 : um = m2 := zl_inj (hme.symm.trans a2) hum a3
  have hm : m2 ≤ nuX := by omega
  rw [e1] at f1 f2 f3 f4
  rw [e2] at g1 g2 g3 g4
  have a4' : ∀ j, j < m2 → y.2.2.2.2.2 j = mp (4000 * nm + j) := a4
  have ep : pn2 = pn3 := by
    funext j
    by_cases q : j < m2
    · rw [f3 j q, g3 j q, a4' j q]
    · rw [f4 j (by omega), g4 j (by omega)]
  refine ⟨rfl, rfl, rfl, rfl, rfl, rfl, rfl, ep, hk, fun j hj => ?_, fun j hj => ⟨?_, ?_⟩⟩
  · by_cases q : j < m2
    · rw [f1 j q, g1 j q]; exact a5 j q hj
    · rw [f2 j (by omega), g2 j (by omega)]; exact hr.1 j hj
  · rw [f2 j (by omega)]; exact (hr.2 j hj).1
  · rw [g4 j (by omega)]; exact (hr.2 j hj).2
