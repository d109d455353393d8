/-- the bits that marks keep are equal, and values -/
def zz_MQ (nm : Nat) (L : List zz_TM) (na : Nat) (kd dp sa ln me : Nat → Int32) (mb : Nat → Int64) : Prop := ∀ (k : Nat) (x : zz_TM), k < nm → L[k]? = some x → ∃ mu : Nat, me k = nI mu ∧ mu ≤ 4000 ∧ (∀ j, j < mu → x.2.2.2.2.1 j = mb (4000 * k + j)) ∧ ∀ a s l : Nat, a < na → sa a = nI s → ln a = nI l → s ≤ 4000 → l ≤ 200 → s + l ≤ mu → ∀ i, i < l → zz_vo na kd dp a (mb (4000 * k + (s + i)))
theorem zz_vo.mono {na n2 a : Nat} {kd dp kd2 dp2 : Nat → Int32} {x : Int64} (h : zz_vo na kd dp a x) (ha : a < na) (hn : na ≤ n2) (hk : ∀ j, j < na → kd2 j = kd j) (hd : dp2 a = dp a) : zz_vo n2 kd2 dp2 a x := by
  refine ⟨fun e k ek hk8 => ?_, fun e => ?_⟩
  · exact h.1 (hd.symm.trans e) k ((hk a ha).symm.trans ek) hk8
  · rcases h.2 (fun z => e (hd.trans z)) with z | ⟨r, hr, er, ek⟩
    · exact Or.inl z
    · exact Or.inr ⟨r, by omega, er, by rw [hk r hr, hk a ha]; exact ek⟩
theorem zz_MQ.grow {nm na ne na2 ne2 : Nat} {L : List zz_TM} {kd dp sa ln kd2 dp2 sa2 ln2 me : Nat → Int32} {mb : Nat → Int64} (h : zz_MQ nm L na kd dp sa ln me mb) (hne : ne ≤ 4000) (hK : zz_MK na ne nm dp sa ln me mb) (hg : zz_GW na ne na2 ne2 dp sa ln dp2 sa2 ln2) (hk : ∀ a, a < na → kd2 a = kd a) : zz_MQ nm L na2 kd2 dp2 sa2 ln2 me mb := fun k x hkm hx => by
  obtain ⟨mu, h1, h2, h3, h4⟩ := h k x hkm hx
  obtain ⟨mu', c1, c2, -⟩ := hK.2 k hkm
  obtain ⟨q1, q2, q3, q4⟩ := hg
  refine ⟨mu, h1, h2, h3, fun a s l ha es el hs hl hm i hi => ?_⟩
  by_cases e : a < na
  · exact (h4 a s l e ((q3 a e).1.symm.trans es) ((q3 a e).2.1.symm.trans el) hs hl hm i hi).mono e q1 hk (q3 a e).2.2
  · exfalso
    have z := q4 a s (by omega) ha es hs
    have e1 : mu' = mu := zl_inj (c1.symm.trans h1) (by omega) h2
    omega
theorem zz_MQ.drop {nm na : Nat} {L : List zz_TM} {kd dp sa ln me : Nat → Int32} {mb : Nat → Int64} (h : zz_MQ (nm + 1) L na kd dp sa ln me mb) : zz_MQ nm L na kd dp sa ln me mb := fun k x hk hx => h k x (by omega) hx
theorem zz_MQ.add {naX : Nat} {nuX : Nat} {kdX : Nat → Int32} {dpX : Nat → Int32} {clX : Nat → Int32} {saX : Nat → Int32} {lnX : Nat → Int32} {btX : Nat → Int64} {pnX : Nat → Int32} {naM : Nat} {neM : Nat} {kdM : Nat → Int32} {dpM : Nat → Int32} {clM : Nat → Int32} {saM : Nat → Int32} {lnM : Nat → Int32} {btM : Nat → Int64} {pnM : Nat → Int32} {nm : Nat} {L L' : List zz_TM} {y : zz_TM} {me : Nat → Int32} {mb mb2 : Nat → Int64} (hR : zz_RL naX nuX kdX dpX clX saX lnX btX pnX naM neM kdM dpM clM saM lnM btM pnM) (hB : zz_Q naM kdM dpM saM lnM btX btM) (hM : zz_MI naM neM dpM saM lnM btM) (h : zz_MQ nm L naM kdM dpM saM lnM me mb) (h1 : ∀ k, k < nm → L'[k]? = L[k]?) (h2 : L'[nm]? = some y) (f1 : ∀ j, j < nuX → y.2.2.2.2.1 j = btX j) (g1 : ∀ j, j < neM → mb2 (4000 * nm + j) = btM j) (g2 : ∀ j, j < 4000 * nm → mb2 j = mb j) : zz_MQ (nm + 1) L' naM kdM dpM saM lnM (upd me nm (nI neM)) mb2 := fun k x hk hx => by
  have en : nuX = neM := hR.2.1
  obtain ⟨eb, hv⟩ := hB
  have hne := hM.1.2.1
  by_cases q : k = nm
  · rw [q, h2] at hx
    cases hx
    rw [q, pk_us]
    refine ⟨neM, rfl, hne, fun j hj => ?_, fun a s l ha es el hs hl hm i hi => ?_⟩
    · rw [f1 j (by omega), g1 j hj, eb]
    · rw [g1 _ (by omega)]; exact hv a s l ha es el hs hl i hi
  · rw [h1 k (by omega)] at hx
    obtain ⟨mu, a1, a2, a3, a4⟩ := h k x (by omega) hx
    rw [pk_un q]
    refine ⟨mu, a1, a2, fun j hj => by rw [a3 j hj, g2 _ (by omega)], fun a s l ha es el hs hl hm i hi => ?_⟩
    rw [g2 _ (by omega)]; exact a4 a s l ha es el hs hl hm i hi
theorem zz_MQ.back {naX : Nat} {nuX : Nat} {kdX : Nat → Int32} {dpX : Nat → Int32} {clX : Nat → Int32} {saX : Nat → Int32} {lnX : Nat → Int32} {btX : Nat → Int64} {pnX : Nat → Int32} {naM : Nat} {neM : Nat} {kdM : Nat → Int32} {dpM : Nat → Int32} {clM : Nat → Int32} {saM : Nat → Int32} {lnM : Nat → Int32} {btM : Nat → Int64} {pnM : Nat → Int32} {nm mu um : Nat} {L : List zz_TM} {y : zz_TM} {me mp : Nat → Int32} {mb : Nat → Int64} {bt2 bt3 : Nat → Int64} (hB : zz_Q naM kdM dpM saM lnM btX btM) (hM : zz_MI naM neM dpM saM lnM btM) (h : zz_MQ (nm + 1) L naM kdM dpM saM lnM me mb) (hV : zz_MR (nm + 1) L naM dpM saM lnM me mb mp) (hy : L[nm]? = some (y.1, y.2.1, y.2.2.1, nI mu, y.2.2.2.2.1, y.2.2.2.2.2)) (hK : zz_MK naM neM (nm + 1) dpM saM lnM me mb) (hmu : mu ≤ 4000) (hme : me nm = nI um) (hum : um ≤ 4000) (f1 : ∀ j, j < mu → bt2 j = y.2.2.2.2.1 j) (f2 : ∀ j, mu ≤ j → bt2 j = btX j) (g1 : ∀ j, j < um → bt3 j = mb (4000 * nm + j)) (g2 : ∀ j, um ≤ j → bt3 j = btM j) : zz_Q naM kdM dpM saM lnM bt2 bt3 := by
  obtain ⟨eb, hv⟩ := hB
  obtain ⟨m2, a1, a2, a3, -, -⟩ := hV nm _ (by omega) hy
  obtain ⟨m4, d1, d2, d3, d4⟩ := h nm _ (by omega) hy
  obtain ⟨m3, c1, c2, c3⟩ := hK.2 nm (by omega)
  have hne := hM.1.2.1
  have a1' : nI mu = nI m2 := a1
  have e1 : mu = m2 := zl_inj a1' hmu a3
  have e2 : um = m2 := zl_inj (hme.symm.trans a2) hum a3
  have e3 : m3 = m2 := zl_inj (c1.symm.trans a2) (by omega) a3
  have e4 : m4 = m2 := zl_inj (d1.symm.trans a2) d2 a3
  have d3' : ∀ j, j < m4 → y.2.2.2.2.1 j = mb (4000 * nm + j) := d3
  refine ⟨funext fun j => ?_, fun a s l ha es el hs hl i hi => ?_⟩
  · by_cases q : j < m2
    · rw [f1 j (by omega), g1 j (by omega), d3' j (by omega)]
    · rw [f2 j (by omega), g2 j (by omega), eb]
  · obtain ⟨s', l', dz, es', el', ed, p1, p2, p3, p4⟩ := hM.1.2.2 a ha
    rcases c3 a s l dz ha es el ed hs hl p4 with q | ⟨q1, q2⟩
    · rw [g2 _ (by omega)]; exact hv a s l ha es el hs hl i hi
    · rw [g1 _ (by omega)]; exact d4 a s l ha es el hs hl (by omega) i hi
theorem rl_ruleJ {naX : Nat} {nuX : Nat} {kdX : Nat → Int32} {dpX : Nat → Int32} {clX : Nat → Int32} {saX : Nat → Int32} {lnX : Nat → Int32} {btX : Nat → Int64} {pnX : Nat → Int32} {naM : Nat} {neM : Nat} {kdM : Nat → Int32} {dpM : Nat → Int32} {clM : Nat → Int32} {saM : Nat → Int32} {lnM : Nat → Int32} {btM : Nat → Int64} {pnM : Nat → Int32} {nrX nrM nr2 nr3 : Nat} {soX juX weX rsM juM weM so2 ju2 we2 so3 ju3 we3 : Nat → Int32} {loX hiX loM hiM lo2 hi2 lo3 hi3 : Nat → Int64} {x1 x2 x3 r : Int32} {x4 x5 : Int64} (hS : zz_SI naX nuX dpX saX lnX) (hL : zz_RL naX nuX kdX dpX clX saX lnX btX pnX naM neM kdM dpM clM saM lnM btM pnM) (hE : zz_RU nrX soX juX weX loX hiX nrM rsM juM weM loM hiM) (hE2 : zz_RU nr2 so2 ju2 we2 lo2 hi2 nr3 so3 ju3 we3 lo3 hi3) (hJ : zz_RD nrM juM dpM) (fx : (r, nr2, so2, ju2, we2, lo2, hi2) = fo_cx_rule naX nuX nrX kdX dpX saX lnX soX juX weX loX hiX x1 x2 x3 x4 x5) : zz_RD nr3 ju3 dpM := by
  have e4 : dpX = dpM := hL.2.2.2.1
  obtain ⟨f1, -, f3, -⟩ := hE
  obtain ⟨g1, -, g3, -⟩ := hE2
  rw [← g1, ← g3, ← e4]
  rw [← f1, ← f3, ← e4] at hJ
  exact zl_ruleD hS hJ fx
