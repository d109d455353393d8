theorem rl0_hash {na : Nat} {ne : Nat} {kd : Nat → Int32} {dp : Nat → Int32} {cl : Nat → Int32} {sa : Nat → Int32} {ln : Nat → Int32} {pn : Nat → Int32} {btX : Nat → Int64} {btM : Nat → Int64} {x1 : Int32} (hM : zz_MI na ne dp sa ln btM) (hk : zz_KC na kd cl) (h : zz_R1 na ne dp sa ln btX btM pn) (hQ : zz_Q na kd dp sa ln btX btM) : fn_cx_hash2 na ne kd dp sa ln btX x1 = fn_my_hash2 na ne kd dp ln sa btM x1 := by
  obtain ⟨e', hv⟩ := hQ
  subst e'
  unfold fn_cx_hash2 fn_my_hash2
  by_cases c : fn_cm_isArray (nI na) x1 = 0
  · rw [if_pos (zl_isN hM.1.1 c), if_pos c]
  have c' : ¬ fn_co_has (nI na) x1 = 0 := fun q => c (zl_isH hM.1.1 q)
  rw [if_neg c', if_neg c]
theorem rl_hash {naX : Nat} {nuX : Nat} {kdX : Nat → Int32} {dpX : Nat → Int32} {clX : Nat → Int32} {saX : Nat → Int32} {lnX : Nat → Int32} {btX : Nat → Int64} {pnX : Nat → Int32} {naM : Nat} {neM : Nat} {kdM : Nat → Int32} {dpM : Nat → Int32} {clM : Nat → Int32} {saM : Nat → Int32} {lnM : Nat → Int32} {btM : Nat → Int64} {pnM : Nat → Int32} {x1 : Int32} (hM : zz_MI naM neM dpM saM lnM btM) (h : zz_RL naX nuX kdX dpX clX saX lnX btX pnX naM neM kdM dpM clM saM lnM btM pnM) (hQ : zz_Q naM kdM dpM saM lnM btX btM) : fn_cx_hash2 naX nuX kdX dpX saX lnX btX x1 = fn_my_hash2 naM neM kdM dpM lnM saM btM x1 := by
  obtain ⟨rfl, rfl, rfl, rfl, rfl, rfl, rfl, rfl, hk, h⟩ := h
  exact rl0_hash hM hk h hQ
theorem rl0_same {na : Nat} {ne : Nat} {kd : Nat → Int32} {dp : Nat → Int32} {cl : Nat → Int32} {sa : Nat → Int32} {ln : Nat → Int32} {pn : Nat → Int32} {btX : Nat → Int64} {btM : Nat → Int64} {x1 x2 : Int32} (hM : zz_MI na ne dp sa ln btM) (hk : zz_KC na kd cl) (h : zz_R1 na ne dp sa ln btX btM pn) (hQ : zz_Q na kd dp sa ln btX btM) : fn_cx_same2 na ne kd dp sa ln btX x1 x2 = fn_my_same2 na ne kd dp ln sa btM x1 x2 := by
  obtain ⟨e', hv⟩ := hQ
  subst e'
  unfold fn_cx_same2 fn_my_same2
  by_cases c : fn_cm_isArray (nI na) x1 = 0
  · rw [if_pos (zl_isN hM.1.1 c), if_pos c]
  have c' : ¬ fn_co_has (nI na) x1 = 0 := fun q => c (zl_isH hM.1.1 q)
  rw [if_neg c', if_neg c]
  by_cases d : fn_cm_isArray (nI na) x2 = 0
  · rw [if_pos (zl_isN hM.1.1 d), if_pos d]
  have d' : ¬ fn_co_has (nI na) x2 = 0 := fun q => d (zl_isH hM.1.1 q)
  rw [if_neg d', if_neg d]
theorem rl_same {naX : Nat} {nuX : Nat} {kdX : Nat → Int32} {dpX : Nat → Int32} {clX : Nat → Int32} {saX : Nat → Int32} {lnX : Nat → Int32} {btX : Nat → Int64} {pnX : Nat → Int32} {naM : Nat} {neM : Nat} {kdM : Nat → Int32} {dpM : Nat → Int32} {clM : Nat → Int32} {saM : Nat → Int32} {lnM : Nat → Int32} {btM : Nat → Int64} {pnM : Nat → Int32} {x1 x2 : Int32} (hM : zz_MI naM neM dpM saM lnM btM) (h : zz_RL naX nuX kdX dpX clX saX lnX btX pnX naM neM kdM dpM clM saM lnM btM pnM) (hQ : zz_Q naM kdM dpM saM lnM btX btM) : fn_cx_same2 naX nuX kdX dpX saX lnX btX x1 x2 = fn_my_same2 naM neM kdM dpM lnM saM btM x1 x2 := by
  obtain ⟨rfl, rfl, rfl, rfl, rfl, rfl, rfl, rfl, hk, h⟩ := h
  exact rl0_same hM hk h hQ
/-- rounds of likeness and hash: as many as calls at most -/
def zz_RC (i n : Nat) (ag dg : Nat → Int32) : Prop := n ≤ i ∧ zz_RB n ag ∧ zz_RB n dg
theorem zz_RC.up {i n : Nat} {ag dg : Nat → Int32} (h : zz_RC i n ag dg) : zz_RC (i + 9) n ag dg := ⟨by have := h.1; omega, h.2⟩
theorem zz_RC.ag {i n n2 : Nat} {ag dg ag2 : Nat → Int32} (h : zz_RC i n ag dg) (hn : n ≤ n2 ∧ n2 ≤ n + 1) (h2 : zz_RB n2 ag2) : zz_RC (i + 9) n2 ag2 dg := ⟨by have := h.1; omega, h2, h.2.2.mono hn.1⟩
theorem zz_RC.dg {i n n2 : Nat} {ag dg dg2 : Nat → Int32} (h : zz_RC i n ag dg) (hn : n ≤ n2 ∧ n2 ≤ n + 1) (h2 : zz_RB n2 dg2) : zz_RC (i + 9) n2 ag dg2 := ⟨by have := h.1; omega, h.2.1.mono hn.1, h2⟩
