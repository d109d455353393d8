def zz_I3 (na dz : Nat) (Lf Df Av av : Nat → Nat) (sk at' : Nat → Int32) (L : Nat) : Prop := ∀ j, j < L → sk j = nI (Av j) ∧ Av j < na ∧ Df (Av j) + j = dz ∧ at' j = nI (av j) ∧ av j ≤ Lf (Av j)
theorem zz_I3_pop {na dz K : Nat} {Lf Df Av av : Nat → Nat} {sk at' : Nat → Int32} (h : zz_I3 na dz Lf Df Av av sk at' (K + 1)) : zz_I3 na dz Lf Df Av av sk at' K := fun j hj => h j (by omega)
theorem zz_I3_init {na dz a : Nat} {Lf Df : Nat → Nat} {sk at' : Nat → Int32} (ha : a < na) (hd : Df a = dz) : zz_I3 na dz Lf Df (fun _ => a) (fun _ => 0) (upd sk 0 (nI a)) (upd at' 0 0) 1 := fun j hj => by
  have e : j = 0 := by omega
  subst e
  exact ⟨pk_us, ha, by omega, pk_us, Nat.zero_le _⟩
theorem zz_I3_null {na dz K : Nat} {Lf Df Av av : Nat → Nat} {sk at' : Nat → Int32} (h : zz_I3 na dz Lf Df Av av sk at' (K + 1)) (hk : av K < Lf (Av K)) : zz_I3 na dz Lf Df Av (zz_av av K) sk (upd at' K (nI (av K + 1))) (K + 1) := fun j hj => by
  obtain ⟨h1, h2, h3, h4, h5⟩ := h j hj
  by_cases e : j = K
  · subst e; exact ⟨h1, h2, h3, by rw [pk_us, zz_av_s], by rw [zz_av_s]; omega⟩
  · exact ⟨h1, h2, h3, by rw [pk_un e, h4, zz_av_lt (by omega)], by rw [zz_av_lt (by omega)]; exact h5⟩
theorem zz_I3_push {na dz K r : Nat} {Lf Df Av av : Nat → Nat} {sk at' : Nat → Int32} (h : zz_I3 na dz Lf Df Av av sk at' (K + 1)) (hk : av K < Lf (Av K)) (hr : r < na) (hd : Df r + (K + 1) = dz) : zz_I3 na dz Lf Df (zz_Av Av K r) (zz_av av K) (upd sk (K + 1) (nI r)) (upd (upd at' K (nI (av K + 1))) (K + 1) 0) (K + 2) := fun j hj => by
  by_cases e : j = K + 1
  · subst e; exact ⟨by rw [pk_us, zz_Av_n], by rw [zz_Av_n]; exact hr, by rw [zz_Av_n]; exact hd, by rw [pk_us, zz_av_n]; rfl, by rw [zz_av_n]; exact Nat.zero_le _⟩
  · obtain ⟨h1, h2, h3, h4, h5⟩ := zz_I3_null h hk j (by omega)
    rw [zz_Av_lt (by omega)]
    exact ⟨(pk_un e).trans h1, h2, h3, (pk_un e).trans h4, h5⟩
/-- the copies -/
def zz_I4 (na ne na1 ne1 dz : Nat) (Lf Av Cv : Nat → Nat) (so dp1 sa1 ln1 : Nat → Int32) (L : Nat) : Prop := ∀ j, j < L → ∃ B : Nat, so j = nI B ∧ na ≤ B ∧ B < na1 ∧ sa1 B = nI (Cv j) ∧ ln1 B = nI (Lf (Av j)) ∧ dp1 B = nI (dz - j) ∧ ne ≤ Cv j ∧ Cv j + Lf (Av j) ≤ ne1
theorem zz_I4_pop {na ne na1 ne1 dz K : Nat} {Lf Av Cv : Nat → Nat} {so dp1 sa1 ln1 : Nat → Int32} (h : zz_I4 na ne na1 ne1 dz Lf Av Cv so dp1 sa1 ln1 (K + 1)) : zz_I4 na ne na1 ne1 dz Lf Av Cv so dp1 sa1 ln1 K := fun j hj => h j (by omega)
theorem zz_I4_init {na ne dz a : Nat} {Lf : Nat → Nat} {so dp1 sa1 ln1 : Nat → Int32} : zz_I4 na ne (na + 1) (ne + Lf a) dz Lf (fun _ => a) (fun _ => ne) (upd so 0 (nI na)) (upd dp1 na (nI dz)) (upd sa1 na (nI ne)) (upd ln1 na (nI (Lf a))) 1 := fun j hj => by
  have e : j = 0 := by omega
  subst e
  exact ⟨na, pk_us, Nat.le_refl _, by omega, pk_us, pk_us, pk_us, Nat.le_refl _, Nat.le_refl _⟩
theorem zz_I4_push {na ne na1 ne1 dz K r : Nat} {Lf Av Cv : Nat → Nat} {so dp1 sa1 ln1 : Nat → Int32} {d : Nat} (h : zz_I4 na ne na1 ne1 dz Lf Av Cv so dp1 sa1 ln1 (K + 1)) (hna : na ≤ na1) (hne : ne ≤ ne1) (hd : d + (K + 1) = dz) : zz_I4 na ne (na1 + 1) (ne1 + Lf r) dz Lf (zz_Av Av K r) (zz_Av Cv K ne1) (upd so (K + 1) (nI na1)) (upd dp1 na1 (nI d)) (upd sa1 na1 (nI ne1)) (upd ln1 na1 (nI (Lf r))) (K + 2) := fun j hj => by
  by_cases e : j = K + 1
  · subst e
    rw [zz_Av_n, zz_Av_n]
    exact ⟨na1, pk_us, hna, by omega, pk_us, pk_us, by rw [pk_us, show d = dz - (K + 1) by omega], hne, Nat.le_refl _⟩
  · obtain ⟨B, h1, h2, h3, h4, h5, h6, h7, h8⟩ := h j (by omega)
    rw [zz_Av_lt (by omega), zz_Av_lt (by omega)]
    exact ⟨B, (pk_un e).trans h1, h2, by omega, (pk_un (by omega)).trans h4, (pk_un (by omega)).trans h5, (pk_un (by omega)).trans h6, h7, by omega⟩
/-- a copy with all rows of the reference: rows are put into their places ahead of what is below them -/
def sp_co (kd0 cl0 : Nat → Int32) (Sf Lf : Nat → Nat) (f a : Nat) (S : zz_S) : zz_S := (S.1 + 1, S.2.1 + Lf a, upd S.2.2.1 S.1 (kd0 a), upd S.2.2.2.1 S.1 (nI f), upd S.2.2.2.2.1 S.1 (cl0 a), upd S.2.2.2.2.2.1 S.1 (nI S.2.1), upd S.2.2.2.2.2.2.1 S.1 (nI (Lf a)), zz_c1 S.2.2.2.2.2.2.2 f (Sf a) S.2.1 (Lf a))
def sp_tm (F : Nat → Nat → zz_S → zz_S) (cp : Nat → zz_S → zz_S) (row : Nat → Int64) (base : Nat) : Nat → Nat → zz_S → zz_S
  | 0, _, S => S
  | m + 1, i, S => sp_tm F cp row base m (i + 1) (if row i = -1 then S else F (row i).toInt.toNat S.2.1 (sp_set (base + i) (lN S.1) (cp (row i).toInt.toNat S)))
def sp_tF (kd0 cl0 : Nat → Int32) (Sf Lf : Nat → Nat) (rw : Nat → Nat → Int64) : Nat → Nat → Nat → Nat → Nat → zz_S → zz_S
  | 0, _, _, _, _, S => S
  | 1, _, _, _, _, S => S
  | f + 2, a, base, m, i, S => sp_tm (fun r b S => sp_tF kd0 cl0 Sf Lf rw (f + 1) r b (Lf r) 0 S) (sp_co kd0 cl0 Sf Lf (f + 1)) (rw a) base m i S
def sp_tfin (kd0 cl0 : Nat → Int32) (Sf Lf : Nat → Nat) (rw : Nat → Nat → Int64) (dz : Nat) (Av Cv av : Nat → Nat) : Nat → zz_S → zz_S
  | 0, S => S
  | L + 1, S => sp_tfin kd0 cl0 Sf Lf rw dz Av Cv av L (sp_tF kd0 cl0 Sf Lf rw (dz - L) (Av L) (Cv L) (Lf (Av L) - av L) (av L) S)
section zzTfin
variable {kd0 cl0 : Nat → Int32} {Sf Lf Av Cv av : Nat → Nat} {rw : Nat → Nat → Int64} {dz K r : Nat}
theorem sp_tfin_eq {Av' Cv' av' : Nat → Nat} : ∀ {L : Nat} {S : zz_S}, (∀ j, j < L → Av' j = Av j ∧ Cv' j = Cv j ∧ av' j = av j) → sp_tfin kd0 cl0 Sf Lf rw dz Av' Cv' av' L S = sp_tfin kd0 cl0 Sf Lf rw dz Av Cv av L S
  | 0, _, _ => rfl
  | L + 1, S, h => by rw [sp_tfin, sp_tfin, (h L (by omega)).1, (h L (by omega)).2.1, (h L (by omega)).2.2, sp_tfin_eq (fun j hj => h j (by omega))]
theorem sp_tfin_pop {S : zz_S} (h : dz - K = 1 ∨ av K = Lf (Av K)) : sp_tfin kd0 cl0 Sf Lf rw dz Av Cv av (K + 1) S = sp_tfin kd0 cl0 Sf Lf rw dz Av Cv av K S := by
  rw [sp_tfin]
  congr 1
  rcases h with h | h
  · rw [h, sp_tF]
  · rw [h, Nat.sub_self]
    match dz - K with
    | 0 => rw [sp_tF]
    | 1 => rw [sp_tF]
    | f + 2 => rw [sp_tF, sp_tm]
theorem sp_tfin_null {S : zz_S} (h : 2 ≤ dz - K) (hav : av K < Lf (Av K)) (hv : rw (Av K) (av K) = -1) : sp_tfin kd0 cl0 Sf Lf rw dz Av Cv av (K + 1) S = sp_tfin kd0 cl0 Sf Lf rw dz Av Cv (zz_av av K) (K + 1) S := by
  obtain ⟨f, hf⟩ : ∃ f, dz - K = f + 2 := ⟨dz - K - 2, by omega⟩
  rw [sp_tfin, sp_tfin, sp_tfin_eq (Av := Av) (Cv := Cv) (av := av) (Av' := Av) (Cv' := Cv) (av' := zz_av av K) (fun j hj => ⟨rfl, rfl, zz_av_lt hj⟩), zz_av_s, hf, sp_tF, sp_tF, show Lf (Av K) - av K = (Lf (Av K) - (av K + 1)) + 1 by omega, sp_tm, if_pos hv]
theorem sp_tfin_push {S : zz_S} (h : 2 ≤ dz - K) (hav : av K < Lf (Av K)) (hv : rw (Av K) (av K) = lN r) (hr : r < 60) : sp_tfin kd0 cl0 Sf Lf rw dz Av Cv av (K + 1) S = sp_tfin kd0 cl0 Sf Lf rw dz (zz_Av Av K r) (zz_Av Cv K S.2.1) (zz_av av K) (K + 2) (sp_set (Cv K + av K) (lN S.1) (sp_co kd0 cl0 Sf Lf (dz - (K + 1)) r S)) := by
  obtain ⟨f, hf⟩ : ∃ f, dz - K = f + 2 := ⟨dz - K - 2, by omega⟩
  have e : (rw (Av K) (av K)).toInt.toNat = r := by rw [hv]; exact zl_lnr (by omega)
  rw [sp_tfin, sp_tfin, sp_tfin, sp_tfin_eq (Av := Av) (Cv := Cv) (av := av) (Av' := zz_Av Av K r) (Cv' := zz_Av Cv K S.2.1) (av' := zz_av av K) (fun j hj => ⟨zz_Av_lt (by omega), zz_Av_lt (by omega), zz_av_lt hj⟩), zz_Av_n, zz_Av_n, zz_av_n, zz_Av_lt (show K < K + 1 by omega), zz_Av_lt (show K < K + 1 by omega), zz_av_s, show dz - (K + 1) = f + 1 by omega, hf, sp_tF, show Lf (Av K) - av K = (Lf (Av K) - (av K + 1)) + 1 by omega, sp_tm, if_neg (by rw [hv]; exact zl_lnn r), e, Nat.sub_zero, sp_tF]
end zzTfin
theorem zl_lle {x : Nat} (hx : x < 2 ^ 40) (h : lN x ≤ 4000) : x ≤ 4000 := by
  have h' : ¬ (4000 : Int64) < lN x := by
    rw [Int64.lt_iff_toInt_lt]; rw [Int64.le_iff_toInt_le] at h; omega
  rw [show (4000 : Int64) = lN 4000 by decide, pk_lLT (by decide) (by omega)] at h'
  omega
theorem zl_roomD {na ne mn el : Nat} (hna : na ≤ 60) (hne : ne ≤ 4000) (hm : mn ≤ 60) (he : el ≤ 4000) (c2 : ¬ fn_cm_isRoom (nI na) (nI ne) (nI mn) (lN el) = 0) : na + mn ≤ 60 ∧ ne + el ≤ 4000 := by
  unfold fn_cm_isRoom at c2
  have g1 : ¬ (60 : Int32) < nI na + nI mn := fun q => c2 (if_pos q)
  have g2 : ¬ (4000 : Int64) < (nI ne).toInt64 + lN el := fun q => c2 (by rw [if_neg g1, if_pos q])
  rw [nI_add, show (60 : Int32) = nI 60 by decide, nI_ltI (by decide) (by omega)] at g1
  rw [nI_l (show ne < 2 ^ 31 by omega), lN_add, show (4000 : Int64) = lN 4000 by decide, pk_lLT (by decide) (by omega)] at g2
  omega
theorem zl_rn1 {r : Nat} (h : r < 60) : ¬ nI r = -1 := fun q => by
  have e := nI_toInt (n := r) (by omega)
  rw [q, show (-1 : Int32).toInt = -1 by decide] at e
  omega
theorem zl_lev0 {lev : Int32} {L : Nat} (h0 : lev = nI L + (-1)) (hL : L ≤ 4) (h : lev < 0) : L = 0 := by
  cases L with
  | zero => rfl
  | succ K =>
    rw [h0, pk_m1] at h
    exact absurd h (nI_pos (by omega))
theorem zl_isN {na : Nat} {x : Int32} (hn : na ≤ 60) (h : fn_cm_isArray (nI na) x = 0) : fn_co_has (nI na) x = 0 := by
  rcases Decidable.em (fn_co_has (nI na) x = 0) with q | q
  · exact q
  · exfalso
    obtain ⟨j, hj, rfl⟩ := zl_has hn q
    refine absurd h ?_
    unfold fn_cm_isArray fn_cm_within
    rw [if_neg (by rw [Int64.lt_iff_toInt_lt, zl_i2l, nI_toInt (by omega), show (0 : Int64).toInt = 0 by decide]; omega), if_neg (by rw [Int64.lt_iff_toInt_lt, zl_i2l, zl_i2l, show (1 : Int32) = nI 1 by decide, pk_sub_toInt (by omega) (by decide), nI_toInt (by omega)]; omega)]
    decide
theorem zl_isH {na : Nat} {x : Int32} (hn : na ≤ 60) (h : fn_co_has (nI na) x = 0) : fn_cm_isArray (nI na) x = 0 := by
  rcases Decidable.em (fn_cm_isArray (nI na) x = 0) with q | q
  · exact q
  · exfalso
    obtain ⟨j, hj, rfl⟩ := zl_isA hn q
    exact zl_hasY hn hj h
theorem zl_bigL {x : Nat} (hx : x < 2 ^ 40) (h : ¬ lN x ≤ 4000) : 4000 < x := by
  have h' : (4000 : Int64) < lN x := by
    rw [Int64.le_iff_toInt_le] at h; rw [Int64.lt_iff_toInt_lt]; omega
  rw [show (4000 : Int64) = lN 4000 by decide, pk_lLT (by decide) (by omega)] at h'
  exact h'
theorem zl_dN1 {na ne mn el L a1 dz1 : Nat} {Lf Df Av av : Nat → Nat} {rw : Nat → Nat → Int64} (hna : na ≤ 60) (hne : ne ≤ 4000) (hdz : Df a1 = dz1) (hmn : mn ≤ 60) (hel : el ≤ 4000) (hv3 : mn + zz_RS (fun _ => 1) rw Lf dz1 Av av L ≤ zz_ct (fun _ => 1) rw Lf dz1 a1 ∧ zz_ct (fun _ => 1) rw Lf dz1 a1 ≤ mn + zz_RS (fun _ => 1) rw Lf dz1 Av av L) (hv4 : el + zz_RS Lf rw Lf dz1 Av av L ≤ zz_ct Lf rw Lf dz1 a1 ∧ zz_ct Lf rw Lf dz1 a1 ≤ el + zz_RS Lf rw Lf dz1 Av av L) (hL : L = 0) (c : fn_cm_isRoom (nI na) (nI ne) (nI mn) (lN el) = 0) : ¬ zz_DF na ne Lf Df rw a1 := fun z => by
  obtain ⟨z1, z2⟩ := z
  rw [hdz] at z1 z2
  subst hL
  have e1 : zz_RS (fun _ => 1) rw Lf dz1 Av av 0 = 0 := rfl
  have e2 : zz_RS Lf rw Lf dz1 Av av 0 = 0 := rfl
  refine absurd c ?_
  unfold fn_cm_isRoom
  rw [nI_add, show (60 : Int32) = nI 60 by decide, nI_l (show ne < 2 ^ 31 by omega), lN_add, show (4000 : Int64) = lN 4000 by decide, if_neg (by rw [nI_ltI (by decide) (by omega)]; omega), if_neg (by rw [pk_lLT (by decide) (by omega)]; omega)]
  decide
theorem dg_X8_deep_0 : (decode cX8_deep 0 = .ok (.aload_n 0, 1)) ∧ (decode cX8_deep 1 = .ok (.iload_n 1, 1)) ∧ (decode cX8_deep 2 = .ok (.invokevirtual 200, 3)) ∧ (decode cX8_deep 5 = .ok (.ifCond .ne 9, 3)) ∧ (decode cX8_deep 8 = .ok (.aload_n 0, 1)) ∧ (decode cX8_deep 9 = .ok (.iconst 5, 1)) ∧ (decode cX8_deep 10 = .ok (.invokevirtual 175, 3)) ∧ (decode cX8_deep 13 = .ok (.ireturn, 1)) ∧ (decode cX8_deep 14 = .ok (.aload_n 0, 1)) ∧ (decode cX8_deep 15 = .ok (.getfield 103, 3)) ∧ (decode cX8_deep 18 = .ok (.istore_n 2, 1)) ∧ (decode cX8_deep 19 = .ok (.iconst 0, 1)) ∧ (decode cX8_deep 20 = .ok (.istore_n 3, 1)) ∧ (decode cX8_deep 21 = .ok (.lconst 0, 1)) ∧ (decode cX8_deep 22 = .ok (.lstore 4, 2)) ∧ (decode cX8_deep 24 = .ok (.iconst 0, 1)) := by decide +kernel
theorem dX8_deep_0 : decode cX8_deep 0 = .ok (.aload_n 0, 1) := dg_X8_deep_0.1
theorem dX8_deep_1 : decode cX8_deep 1 = .ok (.iload_n 1, 1) := dg_X8_deep_0.2.1
theorem dX8_deep_2 : decode cX8_deep 2 = .ok (.invokevirtual 200, 3) := dg_X8_deep_0.2.2.1
theorem dX8_deep_5 : decode cX8_deep 5 = .ok (.ifCond .ne 9, 3) := dg_X8_deep_0.2.2.2.1
theorem dX8_deep_8 : decode cX8_deep 8 = .ok (.aload_n 0, 1) := dg_X8_deep_0.2.2.2.2.1
theorem dX8_deep_9 : decode cX8_deep 9 = .ok (.iconst 5, 1) := dg_X8_deep_0.2.2.2.2.2.1
theorem dX8_deep_10 : decode cX8_deep 10 = .ok (.invokevirtual 175, 3) := dg_X8_deep_0.2.2.2.2.2.2.1
theorem dX8_deep_13 : decode cX8_deep 13 = .ok (.ireturn, 1) := dg_X8_deep_0.2.2.2.2.2.2.2.1
theorem dX8_deep_14 : decode cX8_deep 14 = .ok (.aload_n 0, 1) := dg_X8_deep_0.2.2.2.2.2.2.2.2.1
theorem dX8_deep_15 : decode cX8_deep 15 = .ok (.getfield 103, 3) := dg_X8_deep_0.2.2.2.2.2.2.2.2.2.1
theorem dX8_deep_18 : decode cX8_deep 18 = .ok (.istore_n 2, 1) := dg_X8_deep_0.2.2.2.2.2.2.2.2.2.2.1
theorem dX8_deep_19 : decode cX8_deep 19 = .ok (.iconst 0, 1) := dg_X8_deep_0.2.2.2.2.2.2.2.2.2.2.2.1
theorem dX8_deep_20 : decode cX8_deep 20 = .ok (.istore_n 3, 1) := dg_X8_deep_0.2.2.2.2.2.2.2.2.2.2.2.2.1
theorem dX8_deep_21 : decode cX8_deep 21 = .ok (.lconst 0, 1) := dg_X8_deep_0.2.2.2.2.2.2.2.2.2.2.2.2.2.1
theorem dX8_deep_22 : decode cX8_deep 22 = .ok (.lstore 4, 2) := dg_X8_deep_0.2.2.2.2.2.2.2.2.2.2.2.2.2.2.1
theorem dX8_deep_24 : decode cX8_deep 24 = .ok (.iconst 0, 1) := dg_X8_deep_0.2.2.2.2.2.2.2.2.2.2.2.2.2.2.2
theorem dg_X8_deep_25 : (decode cX8_deep 25 = .ok (.istore 6, 2)) ∧ (decode cX8_deep 27 = .ok (.iload 6, 2)) ∧ (decode cX8_deep 29 = .ok (.iconst 2, 1)) ∧ (decode cX8_deep 30 = .ok (.if_icmp .ge 289, 3)) ∧ (decode cX8_deep 33 = .ok (.iconst 0, 1)) ∧ (decode cX8_deep 34 = .ok (.istore 7, 2)) ∧ (decode cX8_deep 36 = .ok (.aload_n 0, 1)) ∧ (decode cX8_deep 37 = .ok (.getfield 36, 3)) ∧ (decode cX8_deep 40 = .ok (.iconst 0, 1)) ∧ (decode cX8_deep 41 = .ok (.iload_n 1, 1)) ∧ (decode cX8_deep 42 = .ok (.iastore, 1)) ∧ (decode cX8_deep 43 = .ok (.aload_n 0, 1)) ∧ (decode cX8_deep 44 = .ok (.getfield 42, 3)) ∧ (decode cX8_deep 47 = .ok (.iconst 0, 1)) ∧ (decode cX8_deep 48 = .ok (.iconst 0, 1)) ∧ (decode cX8_deep 49 = .ok (.iastore, 1)) := by decide +kernel
theorem dX8_deep_25 : decode cX8_deep 25 = .ok (.istore 6, 2) := dg_X8_deep_25.1
theorem dX8_deep_27 : decode cX8_deep 27 = .ok (.iload 6, 2) := dg_X8_deep_25.2.1
theorem dX8_deep_29 : decode cX8_deep 29 = .ok (.iconst 2, 1) := dg_X8_deep_25.2.2.1
theorem dX8_deep_30 : decode cX8_deep 30 = .ok (.if_icmp .ge 289, 3) := dg_X8_deep_25.2.2.2.1
theorem dX8_deep_33 : decode cX8_deep 33 = .ok (.iconst 0, 1) := dg_X8_deep_25.2.2.2.2.1
theorem dX8_deep_34 : decode cX8_deep 34 = .ok (.istore 7, 2) := dg_X8_deep_25.2.2.2.2.2.1
theorem dX8_deep_36 : decode cX8_deep 36 = .ok (.aload_n 0, 1) := dg_X8_deep_25.2.2.2.2.2.2.1
theorem dX8_deep_37 : decode cX8_deep 37 = .ok (.getfield 36, 3) := dg_X8_deep_25.2.2.2.2.2.2.2.1
theorem dX8_deep_40 : decode cX8_deep 40 = .ok (.iconst 0, 1) := dg_X8_deep_25.2.2.2.2.2.2.2.2.1
theorem dX8_deep_41 : decode cX8_deep 41 = .ok (.iload_n 1, 1) := dg_X8_deep_25.2.2.2.2.2.2.2.2.2.1
theorem dX8_deep_42 : decode cX8_deep 42 = .ok (.iastore, 1) := dg_X8_deep_25.2.2.2.2.2.2.2.2.2.2.1
theorem dX8_deep_43 : decode cX8_deep 43 = .ok (.aload_n 0, 1) := dg_X8_deep_25.2.2.2.2.2.2.2.2.2.2.2.1
theorem dX8_deep_44 : decode cX8_deep 44 = .ok (.getfield 42, 3) := dg_X8_deep_25.2.2.2.2.2.2.2.2.2.2.2.2.1
theorem dX8_deep_47 : decode cX8_deep 47 = .ok (.iconst 0, 1) := dg_X8_deep_25.2.2.2.2.2.2.2.2.2.2.2.2.2.1
theorem dX8_deep_48 : decode cX8_deep 48 = .ok (.iconst 0, 1) := dg_X8_deep_25.2.2.2.2.2.2.2.2.2.2.2.2.2.2.1
theorem dX8_deep_49 : decode cX8_deep 49 = .ok (.iastore, 1) := dg_X8_deep_25.2.2.2.2.2.2.2.2.2.2.2.2.2.2.2
theorem dg_X8_deep_50 : (decode cX8_deep 50 = .ok (.iinc 3 1, 3)) ∧ (decode cX8_deep 53 = .ok (.lload 4, 2)) ∧ (decode cX8_deep 55 = .ok (.aload_n 0, 1)) ∧ (decode cX8_deep 56 = .ok (.getfield 16, 3)) ∧ (decode cX8_deep 59 = .ok (.iload_n 1, 1)) ∧ (decode cX8_deep 60 = .ok (.iaload, 1)) ∧ (decode cX8_deep 61 = .ok (.i2l, 1)) ∧ (decode cX8_deep 62 = .ok (.ladd, 1)) ∧ (decode cX8_deep 63 = .ok (.lstore 4, 2)) ∧ (decode cX8_deep 65 = .ok (.iload 6, 2)) ∧ (decode cX8_deep 67 = .ok (.iconst 1, 1)) ∧ (decode cX8_deep 68 = .ok (.if_icmp .ne 14, 3)) ∧ (decode cX8_deep 71 = .ok (.aload_n 0, 1)) ∧ (decode cX8_deep 72 = .ok (.getfield 39, 3)) ∧ (decode cX8_deep 75 = .ok (.iconst 0, 1)) ∧ (decode cX8_deep 76 = .ok (.aload_n 0, 1)) := by decide +kernel
theorem dX8_deep_50 : decode cX8_deep 50 = .ok (.iinc 3 1, 3) := dg_X8_deep_50.1
theorem dX8_deep_53 : decode cX8_deep 53 = .ok (.lload 4, 2) := dg_X8_deep_50.2.1
theorem dX8_deep_55 : decode cX8_deep 55 = .ok (.aload_n 0, 1) := dg_X8_deep_50.2.2.1
theorem dX8_deep_56 : decode cX8_deep 56 = .ok (.getfield 16, 3) := dg_X8_deep_50.2.2.2.1
theorem dX8_deep_59 : decode cX8_deep 59 = .ok (.iload_n 1, 1) := dg_X8_deep_50.2.2.2.2.1
theorem dX8_deep_60 : decode cX8_deep 60 = .ok (.iaload, 1) := dg_X8_deep_50.2.2.2.2.2.1
theorem dX8_deep_61 : decode cX8_deep 61 = .ok (.i2l, 1) := dg_X8_deep_50.2.2.2.2.2.2.1
theorem dX8_deep_62 : decode cX8_deep 62 = .ok (.ladd, 1) := dg_X8_deep_50.2.2.2.2.2.2.2.1
theorem dX8_deep_63 : decode cX8_deep 63 = .ok (.lstore 4, 2) := dg_X8_deep_50.2.2.2.2.2.2.2.2.1
theorem dX8_deep_65 : decode cX8_deep 65 = .ok (.iload 6, 2) := dg_X8_deep_50.2.2.2.2.2.2.2.2.2.1
theorem dX8_deep_67 : decode cX8_deep 67 = .ok (.iconst 1, 1) := dg_X8_deep_50.2.2.2.2.2.2.2.2.2.2.1
theorem dX8_deep_68 : decode cX8_deep 68 = .ok (.if_icmp .ne 14, 3) := dg_X8_deep_50.2.2.2.2.2.2.2.2.2.2.2.1
theorem dX8_deep_71 : decode cX8_deep 71 = .ok (.aload_n 0, 1) := dg_X8_deep_50.2.2.2.2.2.2.2.2.2.2.2.2.1
theorem dX8_deep_72 : decode cX8_deep 72 = .ok (.getfield 39, 3) := dg_X8_deep_50.2.2.2.2.2.2.2.2.2.2.2.2.2.1
theorem dX8_deep_75 : decode cX8_deep 75 = .ok (.iconst 0, 1) := dg_X8_deep_50.2.2.2.2.2.2.2.2.2.2.2.2.2.2.1
theorem dX8_deep_76 : decode cX8_deep 76 = .ok (.aload_n 0, 1) := dg_X8_deep_50.2.2.2.2.2.2.2.2.2.2.2.2.2.2.2
theorem dg_X8_deep_77 : (decode cX8_deep 77 = .ok (.iload_n 1, 1)) ∧ (decode cX8_deep 78 = .ok (.invokevirtual 236, 3)) ∧ (decode cX8_deep 81 = .ok (.iastore, 1)) ∧ (decode cX8_deep 82 = .ok (.iload 7, 2)) ∧ (decode cX8_deep 84 = .ok (.ifCond .lt 207, 3)) ∧ (decode cX8_deep 87 = .ok (.aload_n 0, 1)) ∧ (decode cX8_deep 88 = .ok (.getfield 36, 3)) ∧ (decode cX8_deep 91 = .ok (.iload 7, 2)) ∧ (decode cX8_deep 93 = .ok (.iaload, 1)) ∧ (decode cX8_deep 94 = .ok (.istore 8, 2)) ∧ (decode cX8_deep 96 = .ok (.aload_n 0, 1)) ∧ (decode cX8_deep 97 = .ok (.getfield 13, 3)) ∧ (decode cX8_deep 100 = .ok (.iload 8, 2)) ∧ (decode cX8_deep 102 = .ok (.iaload, 1)) ∧ (decode cX8_deep 103 = .ok (.iconst 1, 1)) ∧ (decode cX8_deep 104 = .ok (.if_icmp .eq 20, 3)) := by decide +kernel
theorem dX8_deep_77 : decode cX8_deep 77 = .ok (.iload_n 1, 1) := dg_X8_deep_77.1
theorem dX8_deep_78 : decode cX8_deep 78 = .ok (.invokevirtual 236, 3) := dg_X8_deep_77.2.1
theorem dX8_deep_81 : decode cX8_deep 81 = .ok (.iastore, 1) := dg_X8_deep_77.2.2.1
theorem dX8_deep_82 : decode cX8_deep 82 = .ok (.iload 7, 2) := dg_X8_deep_77.2.2.2.1
theorem dX8_deep_84 : decode cX8_deep 84 = .ok (.ifCond .lt 207, 3) := dg_X8_deep_77.2.2.2.2.1
theorem dX8_deep_87 : decode cX8_deep 87 = .ok (.aload_n 0, 1) := dg_X8_deep_77.2.2.2.2.2.1
theorem dX8_deep_88 : decode cX8_deep 88 = .ok (.getfield 36, 3) := dg_X8_deep_77.2.2.2.2.2.2.1
theorem dX8_deep_91 : decode cX8_deep 91 = .ok (.iload 7, 2) := dg_X8_deep_77.2.2.2.2.2.2.2.1
theorem dX8_deep_93 : decode cX8_deep 93 = .ok (.iaload, 1) := dg_X8_deep_77.2.2.2.2.2.2.2.2.1
theorem dX8_deep_94 : decode cX8_deep 94 = .ok (.istore 8, 2) := dg_X8_deep_77.2.2.2.2.2.2.2.2.2.1
theorem dX8_deep_96 : decode cX8_deep 96 = .ok (.aload_n 0, 1) := dg_X8_deep_77.2.2.2.2.2.2.2.2.2.2.1
theorem dX8_deep_97 : decode cX8_deep 97 = .ok (.getfield 13, 3) := dg_X8_deep_77.2.2.2.2.2.2.2.2.2.2.2.1
theorem dX8_deep_100 : decode cX8_deep 100 = .ok (.iload 8, 2) := dg_X8_deep_77.2.2.2.2.2.2.2.2.2.2.2.2.1
theorem dX8_deep_102 : decode cX8_deep 102 = .ok (.iaload, 1) := dg_X8_deep_77.2.2.2.2.2.2.2.2.2.2.2.2.2.1
theorem dX8_deep_103 : decode cX8_deep 103 = .ok (.iconst 1, 1) := dg_X8_deep_77.2.2.2.2.2.2.2.2.2.2.2.2.2.2.1
theorem dX8_deep_104 : decode cX8_deep 104 = .ok (.if_icmp .eq 20, 3) := dg_X8_deep_77.2.2.2.2.2.2.2.2.2.2.2.2.2.2.2
theorem dg_X8_deep_107 : (decode cX8_deep 107 = .ok (.aload_n 0, 1)) ∧ (decode cX8_deep 108 = .ok (.getfield 42, 3)) ∧ (decode cX8_deep 111 = .ok (.iload 7, 2)) ∧ (decode cX8_deep 113 = .ok (.iaload, 1)) ∧ (decode cX8_deep 114 = .ok (.aload_n 0, 1)) ∧ (decode cX8_deep 115 = .ok (.getfield 16, 3)) ∧ (decode cX8_deep 118 = .ok (.iload 8, 2)) ∧ (decode cX8_deep 120 = .ok (.iaload, 1)) ∧ (decode cX8_deep 121 = .ok (.if_icmp .ne 9, 3)) ∧ (decode cX8_deep 124 = .ok (.iinc 7 (-1), 3)) ∧ (decode cX8_deep 127 = .ok (.goto (-45), 3)) ∧ (decode cX8_deep 130 = .ok (.aload_n 0, 1)) ∧ (decode cX8_deep 131 = .ok (.getfield 42, 3)) ∧ (decode cX8_deep 134 = .ok (.iload 7, 2)) ∧ (decode cX8_deep 136 = .ok (.iaload, 1)) ∧ (decode cX8_deep 137 = .ok (.istore 9, 2)) := by decide +kernel
theorem dX8_deep_107 : decode cX8_deep 107 = .ok (.aload_n 0, 1) := dg_X8_deep_107.1
theorem dX8_deep_108 : decode cX8_deep 108 = .ok (.getfield 42, 3) := dg_X8_deep_107.2.1
theorem dX8_deep_111 : decode cX8_deep 111 = .ok (.iload 7, 2) := dg_X8_deep_107.2.2.1
theorem dX8_deep_113 : decode cX8_deep 113 = .ok (.iaload, 1) := dg_X8_deep_107.2.2.2.1
theorem dX8_deep_114 : decode cX8_deep 114 = .ok (.aload_n 0, 1) := dg_X8_deep_107.2.2.2.2.1
theorem dX8_deep_115 : decode cX8_deep 115 = .ok (.getfield 16, 3) := dg_X8_deep_107.2.2.2.2.2.1
theorem dX8_deep_118 : decode cX8_deep 118 = .ok (.iload 8, 2) := dg_X8_deep_107.2.2.2.2.2.2.1
theorem dX8_deep_120 : decode cX8_deep 120 = .ok (.iaload, 1) := dg_X8_deep_107.2.2.2.2.2.2.2.1
theorem dX8_deep_121 : decode cX8_deep 121 = .ok (.if_icmp .ne 9, 3) := dg_X8_deep_107.2.2.2.2.2.2.2.2.1
theorem dX8_deep_124 : decode cX8_deep 124 = .ok (.iinc 7 (-1), 3) := dg_X8_deep_107.2.2.2.2.2.2.2.2.2.1
theorem dX8_deep_127 : decode cX8_deep 127 = .ok (.goto (-45), 3) := dg_X8_deep_107.2.2.2.2.2.2.2.2.2.2.1
theorem dX8_deep_130 : decode cX8_deep 130 = .ok (.aload_n 0, 1) := dg_X8_deep_107.2.2.2.2.2.2.2.2.2.2.2.1
theorem dX8_deep_131 : decode cX8_deep 131 = .ok (.getfield 42, 3) := dg_X8_deep_107.2.2.2.2.2.2.2.2.2.2.2.2.1
theorem dX8_deep_134 : decode cX8_deep 134 = .ok (.iload 7, 2) := dg_X8_deep_107.2.2.2.2.2.2.2.2.2.2.2.2.2.1
theorem dX8_deep_136 : decode cX8_deep 136 = .ok (.iaload, 1) := dg_X8_deep_107.2.2.2.2.2.2.2.2.2.2.2.2.2.2.1
theorem dX8_deep_137 : decode cX8_deep 137 = .ok (.istore 9, 2) := dg_X8_deep_107.2.2.2.2.2.2.2.2.2.2.2.2.2.2.2
theorem dg_X8_deep_139 : (decode cX8_deep 139 = .ok (.aload_n 0, 1)) ∧ (decode cX8_deep 140 = .ok (.getfield 25, 3)) ∧ (decode cX8_deep 143 = .ok (.aload_n 0, 1)) ∧ (decode cX8_deep 144 = .ok (.getfield 22, 3)) ∧ (decode cX8_deep 147 = .ok (.iload 8, 2)) ∧ (decode cX8_deep 149 = .ok (.iaload, 1)) ∧ (decode cX8_deep 150 = .ok (.iload 9, 2)) ∧ (decode cX8_deep 152 = .ok (.iadd, 1)) ∧ (decode cX8_deep 153 = .ok (.laload, 1)) ∧ (decode cX8_deep 154 = .ok (.l2i, 1)) ∧ (decode cX8_deep 155 = .ok (.istore 10, 2)) ∧ (decode cX8_deep 157 = .ok (.aload_n 0, 1)) ∧ (decode cX8_deep 158 = .ok (.getfield 42, 3)) ∧ (decode cX8_deep 161 = .ok (.iload 7, 2)) ∧ (decode cX8_deep 163 = .ok (.dup2, 1)) ∧ (decode cX8_deep 164 = .ok (.iaload, 1)) := by decide +kernel
theorem dX8_deep_139 : decode cX8_deep 139 = .ok (.aload_n 0, 1) := dg_X8_deep_139.1
theorem dX8_deep_140 : decode cX8_deep 140 = .ok (.getfield 25, 3) := dg_X8_deep_139.2.1
theorem dX8_deep_143 : decode cX8_deep 143 = .ok (.aload_n 0, 1) := dg_X8_deep_139.2.2.1
theorem dX8_deep_144 : decode cX8_deep 144 = .ok (.getfield 22, 3) := dg_X8_deep_139.2.2.2.1
theorem dX8_deep_147 : decode cX8_deep 147 = .ok (.iload 8, 2) := dg_X8_deep_139.2.2.2.2.1
theorem dX8_deep_149 : decode cX8_deep 149 = .ok (.iaload, 1) := dg_X8_deep_139.2.2.2.2.2.1
theorem dX8_deep_150 : decode cX8_deep 150 = .ok (.iload 9, 2) := dg_X8_deep_139.2.2.2.2.2.2.1
theorem dX8_deep_152 : decode cX8_deep 152 = .ok (.iadd, 1) := dg_X8_deep_139.2.2.2.2.2.2.2.1
theorem dX8_deep_153 : decode cX8_deep 153 = .ok (.laload, 1) := dg_X8_deep_139.2.2.2.2.2.2.2.2.1
theorem dX8_deep_154 : decode cX8_deep 154 = .ok (.l2i, 1) := dg_X8_deep_139.2.2.2.2.2.2.2.2.2.1
theorem dX8_deep_155 : decode cX8_deep 155 = .ok (.istore 10, 2) := dg_X8_deep_139.2.2.2.2.2.2.2.2.2.2.1
theorem dX8_deep_157 : decode cX8_deep 157 = .ok (.aload_n 0, 1) := dg_X8_deep_139.2.2.2.2.2.2.2.2.2.2.2.1
theorem dX8_deep_158 : decode cX8_deep 158 = .ok (.getfield 42, 3) := dg_X8_deep_139.2.2.2.2.2.2.2.2.2.2.2.2.1
theorem dX8_deep_161 : decode cX8_deep 161 = .ok (.iload 7, 2) := dg_X8_deep_139.2.2.2.2.2.2.2.2.2.2.2.2.2.1
theorem dX8_deep_163 : decode cX8_deep 163 = .ok (.dup2, 1) := dg_X8_deep_139.2.2.2.2.2.2.2.2.2.2.2.2.2.2.1
theorem dX8_deep_164 : decode cX8_deep 164 = .ok (.iaload, 1) := dg_X8_deep_139.2.2.2.2.2.2.2.2.2.2.2.2.2.2.2
theorem dg_X8_deep_165 : (decode cX8_deep 165 = .ok (.iconst 1, 1)) ∧ (decode cX8_deep 166 = .ok (.iadd, 1)) ∧ (decode cX8_deep 167 = .ok (.iastore, 1)) ∧ (decode cX8_deep 168 = .ok (.iload 10, 2)) ∧ (decode cX8_deep 170 = .ok (.iconst (-1), 1)) ∧ (decode cX8_deep 171 = .ok (.if_icmp .ne 6, 3)) ∧ (decode cX8_deep 174 = .ok (.goto (-92), 3)) ∧ (decode cX8_deep 177 = .ok (.iinc 3 1, 3)) ∧ (decode cX8_deep 180 = .ok (.lload 4, 2)) ∧ (decode cX8_deep 182 = .ok (.aload_n 0, 1)) ∧ (decode cX8_deep 183 = .ok (.getfield 16, 3)) ∧ (decode cX8_deep 186 = .ok (.iload 10, 2)) ∧ (decode cX8_deep 188 = .ok (.iaload, 1)) ∧ (decode cX8_deep 189 = .ok (.i2l, 1)) ∧ (decode cX8_deep 190 = .ok (.ladd, 1)) ∧ (decode cX8_deep 191 = .ok (.lstore 4, 2)) := by decide +kernel
theorem dX8_deep_165 : decode cX8_deep 165 = .ok (.iconst 1, 1) := dg_X8_deep_165.1
theorem dX8_deep_166 : decode cX8_deep 166 = .ok (.iadd, 1) := dg_X8_deep_165.2.1
theorem dX8_deep_167 : decode cX8_deep 167 = .ok (.iastore, 1) := dg_X8_deep_165.2.2.1
theorem dX8_deep_168 : decode cX8_deep 168 = .ok (.iload 10, 2) := dg_X8_deep_165.2.2.2.1
theorem dX8_deep_170 : decode cX8_deep 170 = .ok (.iconst (-1), 1) := dg_X8_deep_165.2.2.2.2.1
theorem dX8_deep_171 : decode cX8_deep 171 = .ok (.if_icmp .ne 6, 3) := dg_X8_deep_165.2.2.2.2.2.1
theorem dX8_deep_174 : decode cX8_deep 174 = .ok (.goto (-92), 3) := dg_X8_deep_165.2.2.2.2.2.2.1
theorem dX8_deep_177 : decode cX8_deep 177 = .ok (.iinc 3 1, 3) := dg_X8_deep_165.2.2.2.2.2.2.2.1
theorem dX8_deep_180 : decode cX8_deep 180 = .ok (.lload 4, 2) := dg_X8_deep_165.2.2.2.2.2.2.2.2.1
theorem dX8_deep_182 : decode cX8_deep 182 = .ok (.aload_n 0, 1) := dg_X8_deep_165.2.2.2.2.2.2.2.2.2.1
theorem dX8_deep_183 : decode cX8_deep 183 = .ok (.getfield 16, 3) := dg_X8_deep_165.2.2.2.2.2.2.2.2.2.2.1
theorem dX8_deep_186 : decode cX8_deep 186 = .ok (.iload 10, 2) := dg_X8_deep_165.2.2.2.2.2.2.2.2.2.2.2.1
theorem dX8_deep_188 : decode cX8_deep 188 = .ok (.iaload, 1) := dg_X8_deep_165.2.2.2.2.2.2.2.2.2.2.2.2.1
theorem dX8_deep_189 : decode cX8_deep 189 = .ok (.i2l, 1) := dg_X8_deep_165.2.2.2.2.2.2.2.2.2.2.2.2.2.1
theorem dX8_deep_190 : decode cX8_deep 190 = .ok (.ladd, 1) := dg_X8_deep_165.2.2.2.2.2.2.2.2.2.2.2.2.2.2.1
theorem dX8_deep_191 : decode cX8_deep 191 = .ok (.lstore 4, 2) := dg_X8_deep_165.2.2.2.2.2.2.2.2.2.2.2.2.2.2.2
theorem dg_X8_deep_193 : (decode cX8_deep 193 = .ok (.iload 6, 2)) ∧ (decode cX8_deep 195 = .ok (.ifCond .ne 25, 3)) ∧ (decode cX8_deep 198 = .ok (.iload_n 3, 1)) ∧ (decode cX8_deep 199 = .ok (.bipush 60, 2)) ∧ (decode cX8_deep 201 = .ok (.if_icmp .gt 12, 3)) ∧ (decode cX8_deep 204 = .ok (.lload 4, 2)) ∧ (decode cX8_deep 206 = .ok (.ldc2_w 189, 3)) ∧ (decode cX8_deep 209 = .ok (.lcmp, 1)) ∧ (decode cX8_deep 210 = .ok (.ifCond .le 10, 3)) ∧ (decode cX8_deep 213 = .ok (.aload_n 0, 1)) ∧ (decode cX8_deep 214 = .ok (.bipush 8, 2)) ∧ (decode cX8_deep 216 = .ok (.invokevirtual 175, 3)) ∧ (decode cX8_deep 219 = .ok (.ireturn, 1)) ∧ (decode cX8_deep 220 = .ok (.iload 6, 2)) ∧ (decode cX8_deep 222 = .ok (.iconst 1, 1)) ∧ (decode cX8_deep 223 = .ok (.if_icmp .ne 45, 3)) := by decide +kernel
theorem dX8_deep_193 : decode cX8_deep 193 = .ok (.iload 6, 2) := dg_X8_deep_193.1
theorem dX8_deep_195 : decode cX8_deep 195 = .ok (.ifCond .ne 25, 3) := dg_X8_deep_193.2.1
theorem dX8_deep_198 : decode cX8_deep 198 = .ok (.iload_n 3, 1) := dg_X8_deep_193.2.2.1
theorem dX8_deep_199 : decode cX8_deep 199 = .ok (.bipush 60, 2) := dg_X8_deep_193.2.2.2.1
theorem dX8_deep_201 : decode cX8_deep 201 = .ok (.if_icmp .gt 12, 3) := dg_X8_deep_193.2.2.2.2.1
theorem dX8_deep_204 : decode cX8_deep 204 = .ok (.lload 4, 2) := dg_X8_deep_193.2.2.2.2.2.1
theorem dX8_deep_206 : decode cX8_deep 206 = .ok (.ldc2_w 189, 3) := dg_X8_deep_193.2.2.2.2.2.2.1
theorem dX8_deep_209 : decode cX8_deep 209 = .ok (.lcmp, 1) := dg_X8_deep_193.2.2.2.2.2.2.2.1
theorem dX8_deep_210 : decode cX8_deep 210 = .ok (.ifCond .le 10, 3) := dg_X8_deep_193.2.2.2.2.2.2.2.2.1
theorem dX8_deep_213 : decode cX8_deep 213 = .ok (.aload_n 0, 1) := dg_X8_deep_193.2.2.2.2.2.2.2.2.2.1
theorem dX8_deep_214 : decode cX8_deep 214 = .ok (.bipush 8, 2) := dg_X8_deep_193.2.2.2.2.2.2.2.2.2.2.1
theorem dX8_deep_216 : decode cX8_deep 216 = .ok (.invokevirtual 175, 3) := dg_X8_deep_193.2.2.2.2.2.2.2.2.2.2.2.1
theorem dX8_deep_219 : decode cX8_deep 219 = .ok (.ireturn, 1) := dg_X8_deep_193.2.2.2.2.2.2.2.2.2.2.2.2.1
theorem dX8_deep_220 : decode cX8_deep 220 = .ok (.iload 6, 2) := dg_X8_deep_193.2.2.2.2.2.2.2.2.2.2.2.2.2.1
theorem dX8_deep_222 : decode cX8_deep 222 = .ok (.iconst 1, 1) := dg_X8_deep_193.2.2.2.2.2.2.2.2.2.2.2.2.2.2.1
theorem dX8_deep_223 : decode cX8_deep 223 = .ok (.if_icmp .ne 45, 3) := dg_X8_deep_193.2.2.2.2.2.2.2.2.2.2.2.2.2.2.2
theorem dg_X8_deep_226 : (decode cX8_deep 226 = .ok (.aload_n 0, 1)) ∧ (decode cX8_deep 227 = .ok (.iload 10, 2)) ∧ (decode cX8_deep 229 = .ok (.invokevirtual 236, 3)) ∧ (decode cX8_deep 232 = .ok (.istore 11, 2)) ∧ (decode cX8_deep 234 = .ok (.aload_n 0, 1)) ∧ (decode cX8_deep 235 = .ok (.getfield 25, 3)) ∧ (decode cX8_deep 238 = .ok (.aload_n 0, 1)) ∧ (decode cX8_deep 239 = .ok (.getfield 22, 3)) ∧ (decode cX8_deep 242 = .ok (.aload_n 0, 1)) ∧ (decode cX8_deep 243 = .ok (.getfield 39, 3)) ∧ (decode cX8_deep 246 = .ok (.iload 7, 2)) ∧ (decode cX8_deep 248 = .ok (.iaload, 1)) ∧ (decode cX8_deep 249 = .ok (.iaload, 1)) ∧ (decode cX8_deep 250 = .ok (.iload 9, 2)) ∧ (decode cX8_deep 252 = .ok (.iadd, 1)) ∧ (decode cX8_deep 253 = .ok (.iload 11, 2)) := by decide +kernel
theorem dX8_deep_226 : decode cX8_deep 226 = .ok (.aload_n 0, 1) := dg_X8_deep_226.1
theorem dX8_deep_227 : decode cX8_deep 227 = .ok (.iload 10, 2) := dg_X8_deep_226.2.1
theorem dX8_deep_229 : decode cX8_deep 229 = .ok (.invokevirtual 236, 3) := dg_X8_deep_226.2.2.1
theorem dX8_deep_232 : decode cX8_deep 232 = .ok (.istore 11, 2) := dg_X8_deep_226.2.2.2.1
theorem dX8_deep_234 : decode cX8_deep 234 = .ok (.aload_n 0, 1) := dg_X8_deep_226.2.2.2.2.1
theorem dX8_deep_235 : decode cX8_deep 235 = .ok (.getfield 25, 3) := dg_X8_deep_226.2.2.2.2.2.1
theorem dX8_deep_238 : decode cX8_deep 238 = .ok (.aload_n 0, 1) := dg_X8_deep_226.2.2.2.2.2.2.1
theorem dX8_deep_239 : decode cX8_deep 239 = .ok (.getfield 22, 3) := dg_X8_deep_226.2.2.2.2.2.2.2.1
theorem dX8_deep_242 : decode cX8_deep 242 = .ok (.aload_n 0, 1) := dg_X8_deep_226.2.2.2.2.2.2.2.2.1
theorem dX8_deep_243 : decode cX8_deep 243 = .ok (.getfield 39, 3) := dg_X8_deep_226.2.2.2.2.2.2.2.2.2.1
theorem dX8_deep_246 : decode cX8_deep 246 = .ok (.iload 7, 2) := dg_X8_deep_226.2.2.2.2.2.2.2.2.2.2.1
theorem dX8_deep_248 : decode cX8_deep 248 = .ok (.iaload, 1) := dg_X8_deep_226.2.2.2.2.2.2.2.2.2.2.2.1
theorem dX8_deep_249 : decode cX8_deep 249 = .ok (.iaload, 1) := dg_X8_deep_226.2.2.2.2.2.2.2.2.2.2.2.2.1
theorem dX8_deep_250 : decode cX8_deep 250 = .ok (.iload 9, 2) := dg_X8_deep_226.2.2.2.2.2.2.2.2.2.2.2.2.2.1
theorem dX8_deep_252 : decode cX8_deep 252 = .ok (.iadd, 1) := dg_X8_deep_226.2.2.2.2.2.2.2.2.2.2.2.2.2.2.1
theorem dX8_deep_253 : decode cX8_deep 253 = .ok (.iload 11, 2) := dg_X8_deep_226.2.2.2.2.2.2.2.2.2.2.2.2.2.2.2
theorem dg_X8_deep_255 : (decode cX8_deep 255 = .ok (.i2l, 1)) ∧ (decode cX8_deep 256 = .ok (.lastore, 1)) ∧ (decode cX8_deep 257 = .ok (.aload_n 0, 1)) ∧ (decode cX8_deep 258 = .ok (.getfield 39, 3)) ∧ (decode cX8_deep 261 = .ok (.iload 7, 2)) ∧ (decode cX8_deep 263 = .ok (.iconst 1, 1)) ∧ (decode cX8_deep 264 = .ok (.iadd, 1)) ∧ (decode cX8_deep 265 = .ok (.iload 11, 2)) ∧ (decode cX8_deep 267 = .ok (.iastore, 1)) ∧ (decode cX8_deep 268 = .ok (.iinc 7 1, 3)) ∧ (decode cX8_deep 271 = .ok (.aload_n 0, 1)) ∧ (decode cX8_deep 272 = .ok (.getfield 36, 3)) ∧ (decode cX8_deep 275 = .ok (.iload 7, 2)) ∧ (decode cX8_deep 277 = .ok (.iload 10, 2)) ∧ (decode cX8_deep 279 = .ok (.iastore, 1)) ∧ (decode cX8_deep 280 = .ok (.aload_n 0, 1)) := by decide +kernel
theorem dX8_deep_255 : decode cX8_deep 255 = .ok (.i2l, 1) := dg_X8_deep_255.1
theorem dX8_deep_256 : decode cX8_deep 256 = .ok (.lastore, 1) := dg_X8_deep_255.2.1
theorem dX8_deep_257 : decode cX8_deep 257 = .ok (.aload_n 0, 1) := dg_X8_deep_255.2.2.1
theorem dX8_deep_258 : decode cX8_deep 258 = .ok (.getfield 39, 3) := dg_X8_deep_255.2.2.2.1
theorem dX8_deep_261 : decode cX8_deep 261 = .ok (.iload 7, 2) := dg_X8_deep_255.2.2.2.2.1
theorem dX8_deep_263 : decode cX8_deep 263 = .ok (.iconst 1, 1) := dg_X8_deep_255.2.2.2.2.2.1
theorem dX8_deep_264 : decode cX8_deep 264 = .ok (.iadd, 1) := dg_X8_deep_255.2.2.2.2.2.2.1
theorem dX8_deep_265 : decode cX8_deep 265 = .ok (.iload 11, 2) := dg_X8_deep_255.2.2.2.2.2.2.2.1
theorem dX8_deep_267 : decode cX8_deep 267 = .ok (.iastore, 1) := dg_X8_deep_255.2.2.2.2.2.2.2.2.1
theorem dX8_deep_268 : decode cX8_deep 268 = .ok (.iinc 7 1, 3) := dg_X8_deep_255.2.2.2.2.2.2.2.2.2.1
theorem dX8_deep_271 : decode cX8_deep 271 = .ok (.aload_n 0, 1) := dg_X8_deep_255.2.2.2.2.2.2.2.2.2.2.1
theorem dX8_deep_272 : decode cX8_deep 272 = .ok (.getfield 36, 3) := dg_X8_deep_255.2.2.2.2.2.2.2.2.2.2.2.1
theorem dX8_deep_275 : decode cX8_deep 275 = .ok (.iload 7, 2) := dg_X8_deep_255.2.2.2.2.2.2.2.2.2.2.2.2.1
theorem dX8_deep_277 : decode cX8_deep 277 = .ok (.iload 10, 2) := dg_X8_deep_255.2.2.2.2.2.2.2.2.2.2.2.2.2.1
theorem dX8_deep_279 : decode cX8_deep 279 = .ok (.iastore, 1) := dg_X8_deep_255.2.2.2.2.2.2.2.2.2.2.2.2.2.2.1
theorem dX8_deep_280 : decode cX8_deep 280 = .ok (.aload_n 0, 1) := dg_X8_deep_255.2.2.2.2.2.2.2.2.2.2.2.2.2.2.2
theorem dg_X8_deep_281 : (decode cX8_deep 281 = .ok (.getfield 42, 3)) ∧ (decode cX8_deep 284 = .ok (.iload 7, 2)) ∧ (decode cX8_deep 286 = .ok (.iconst 0, 1)) ∧ (decode cX8_deep 287 = .ok (.iastore, 1)) ∧ (decode cX8_deep 288 = .ok (.goto (-206), 3)) ∧ (decode cX8_deep 291 = .ok (.iload 6, 2)) ∧ (decode cX8_deep 293 = .ok (.ifCond .ne 20, 3)) ∧ (decode cX8_deep 296 = .ok (.aload_n 0, 1)) ∧ (decode cX8_deep 297 = .ok (.iload_n 3, 1)) ∧ (decode cX8_deep 298 = .ok (.lload 4, 2)) ∧ (decode cX8_deep 300 = .ok (.invokevirtual 191, 3)) ∧ (decode cX8_deep 303 = .ok (.ifCond .ne 10, 3)) ∧ (decode cX8_deep 306 = .ok (.aload_n 0, 1)) ∧ (decode cX8_deep 307 = .ok (.bipush 8, 2)) ∧ (decode cX8_deep 309 = .ok (.invokevirtual 175, 3)) ∧ (decode cX8_deep 312 = .ok (.ireturn, 1)) := by decide +kernel
theorem dX8_deep_281 : decode cX8_deep 281 = .ok (.getfield 42, 3) := dg_X8_deep_281.1
theorem dX8_deep_284 : decode cX8_deep 284 = .ok (.iload 7, 2) := dg_X8_deep_281.2.1
theorem dX8_deep_286 : decode cX8_deep 286 = .ok (.iconst 0, 1) := dg_X8_deep_281.2.2.1
theorem dX8_deep_287 : decode cX8_deep 287 = .ok (.iastore, 1) := dg_X8_deep_281.2.2.2.1
theorem dX8_deep_288 : decode cX8_deep 288 = .ok (.goto (-206), 3) := dg_X8_deep_281.2.2.2.2.1
theorem dX8_deep_291 : decode cX8_deep 291 = .ok (.iload 6, 2) := dg_X8_deep_281.2.2.2.2.2.1
theorem dX8_deep_293 : decode cX8_deep 293 = .ok (.ifCond .ne 20, 3) := dg_X8_deep_281.2.2.2.2.2.2.1
theorem dX8_deep_296 : decode cX8_deep 296 = .ok (.aload_n 0, 1) := dg_X8_deep_281.2.2.2.2.2.2.2.1
theorem dX8_deep_297 : decode cX8_deep 297 = .ok (.iload_n 3, 1) := dg_X8_deep_281.2.2.2.2.2.2.2.2.1
theorem dX8_deep_298 : decode cX8_deep 298 = .ok (.lload 4, 2) := dg_X8_deep_281.2.2.2.2.2.2.2.2.2.1
theorem dX8_deep_300 : decode cX8_deep 300 = .ok (.invokevirtual 191, 3) := dg_X8_deep_281.2.2.2.2.2.2.2.2.2.2.1
theorem dX8_deep_303 : decode cX8_deep 303 = .ok (.ifCond .ne 10, 3) := dg_X8_deep_281.2.2.2.2.2.2.2.2.2.2.2.1
theorem dX8_deep_306 : decode cX8_deep 306 = .ok (.aload_n 0, 1) := dg_X8_deep_281.2.2.2.2.2.2.2.2.2.2.2.2.1
theorem dX8_deep_307 : decode cX8_deep 307 = .ok (.bipush 8, 2) := dg_X8_deep_281.2.2.2.2.2.2.2.2.2.2.2.2.2.1
theorem dX8_deep_309 : decode cX8_deep 309 = .ok (.invokevirtual 175, 3) := dg_X8_deep_281.2.2.2.2.2.2.2.2.2.2.2.2.2.2.1
theorem dX8_deep_312 : decode cX8_deep 312 = .ok (.ireturn, 1) := dg_X8_deep_281.2.2.2.2.2.2.2.2.2.2.2.2.2.2.2
theorem dg_X8_deep_313 : (decode cX8_deep 313 = .ok (.iinc 6 1, 3)) ∧ (decode cX8_deep 316 = .ok (.goto (-289), 3)) ∧ (decode cX8_deep 319 = .ok (.aload_n 0, 1)) ∧ (decode cX8_deep 320 = .ok (.iload_n 2, 1)) ∧ (decode cX8_deep 321 = .ok (.invokevirtual 183, 3)) ∧ (decode cX8_deep 324 = .ok (.ireturn, 1)) := by decide +kernel
theorem dX8_deep_313 : decode cX8_deep 313 = .ok (.iinc 6 1, 3) := dg_X8_deep_313.1
theorem dX8_deep_316 : decode cX8_deep 316 = .ok (.goto (-289), 3) := dg_X8_deep_313.2.1
theorem dX8_deep_319 : decode cX8_deep 319 = .ok (.aload_n 0, 1) := dg_X8_deep_313.2.2.1
theorem dX8_deep_320 : decode cX8_deep 320 = .ok (.iload_n 2, 1) := dg_X8_deep_313.2.2.2.1
theorem dX8_deep_321 : decode cX8_deep 321 = .ok (.invokevirtual 183, 3) := dg_X8_deep_313.2.2.2.2.1
theorem dX8_deep_324 : decode cX8_deep 324 = .ok (.ireturn, 1) := dg_X8_deep_313.2.2.2.2.2
theorem zf_X8_39 : zz_f RX8 39 7 12 := ⟨RX8, TX8, 37, rfl, zi_X8, by decide, zk_747⟩
theorem zk_1001 : Cond.methodLink RX8 236 yX8_copyOne ∈ zz_w := zz_in (List.mem_append_right _ (List.mem_append_right _ (List.mem_append_right _ (List.mem_append_right _ (List.mem_append_right _ (List.mem_of_getElem? (i := 41) (by decide +kernel))))))) rfl
set_option maxRecDepth 20000 in
theorem zk_1004 : Cond.code yX8_copyOne cX8_copyOne 4 (some .int) ∈ zz_w := zz_in (List.mem_append_right _ (List.mem_append_right _ (List.mem_append_right _ (List.mem_append_right _ (List.mem_append_right _ (List.mem_of_getElem? (i := 44) (rfl))))))) rfl
theorem zk_1003 : Cond.instanceMethod yX8_copyOne ∈ zz_w := zz_in (List.mem_append_right _ (List.mem_append_right _ (List.mem_append_right _ (List.mem_append_right _ (List.mem_append_right _ (List.mem_of_getElem? (i := 43) (by decide +kernel))))))) rfl
theorem zs_26 : Cond.selects RX8 yX8_copyOne yX8_copyOne ∈ zz_w := zz_in (List.mem_append_left _ (List.mem_of_getElem? (i := 26) (by decide +kernel))) rfl
theorem zc_X8_236 : zz_cV RX8 236 yX8_copyOne cX8_copyOne 4 (some .int) 1 := ⟨⟨zk_1001, zk_1004, zk_7, by decide, by decide, by decide +kernel⟩, zk_1003, zs_26⟩
abbrev rm_my_deep : Room := { frames := 2, cells := 0, slots := 0, locals := 49 }
abbrev po_my_deep (g : zz_G) (h0 : Nat) (a_kindOf : Nat) (a_depthOf : Nat) (a_lengthOf : Nat) (a_classOf : Nat) (a_baseOf : Nat) (a_bits : Nat) (a_pinned : Nat) (a_lengths : Nat) (a_stackArray : Nat) (a_stackOther : Nat) (a_stackAt : Nat) (a_path : Nat) (a_held : Nat) (a_alike : Nat) (a_hashes : Nat) (a_decisionArray : Nat) (a_decisionPlace : Nat) (a_candidateMany : Nat) (a_candidates : Nat) (a_ruleSort : Nat) (a_ruleArray : Nat) (a_ruleWeight : Nat) (a_ruleLow : Nat) (a_ruleHigh : Nat) (a_chosen : Nat) (a_bestOf : Nat) (a_markElements : Nat) (a_markBits : Nat) (a_markPins : Nat) (na : Nat) (ne : Nat) (nd : Nat) (nr : Nat) (nm : Nat) (i_code : Int32) (i_lastArray : Int32) (i_lastPlace : Int32) (kdf : Nat → Int32) (dpf : Nat → Int32) (lnf : Nat → Int32) (clf : Nat → Int32) (saf : Nat → Int32) (btf : Nat → Int64) (pnf : Nat → Int32) (skf : Nat → Int32) (sof : Nat → Int32) (atf : Nat → Int32) (x1 : Int32) (h_M : zz_MI na ne dpf saf lnf btf) : Int32 → va_W → Prop := fun (r : Int32) (u : va_W) => ∃ (k_c : Int32) (k_a : Int32) (k_p : Int32) (na2 : Nat) (ne2 : Nat) (kd2 : Nat → Int32) (dp2 : Nat → Int32) (ln2 : Nat → Int32) (cl2 : Nat → Int32) (sa2 : Nat → Int32) (bt2 : Nat → Int64) (pn2 : Nat → Int32) (sk2 : Nat → Int32) (so2 : Nat → Int32) (at2 : Nat → Int32), (zz_MI na2 ne2 dp2 sa2 ln2 bt2) ∧ (zz_GW na ne na2 ne2 dpf saf lnf dp2 sa2 ln2) ∧ (r = sp_dR na ne dpf saf lnf btf x1) ∧ ((na2, ne2, kd2, dp2, cl2, sa2, ln2, bt2) = if r < 0 then (na, ne, kdf, dpf, clf, saf, lnf, btf) else sp_tF kdf clf (zz_nf saf) (zz_nf lnf) (zz_rw saf btf) (zz_nf dpf x1.toNatClampNeg - 0) x1.toNatClampNeg ne (zz_nf lnf x1.toNatClampNeg - 0) 0 (sp_co kdf clf (zz_nf saf) (zz_nf lnf) (zz_nf dpf x1.toNatClampNeg) x1.toNatClampNeg (na, ne, kdf, dpf, clf, saf, lnf, btf))) ∧ (pn2 = if r < 0 then pnf else zz_mp pnf ne (ne2 - ne)) ∧ u = [cw_k7 h0 (nI na2) (nI ne2) a_kindOf a_depthOf a_lengthOf a_classOf a_baseOf a_bits a_pinned k_c a_lengths a_stackArray a_stackOther a_stackAt k_a k_p a_path a_held a_alike a_hashes (nI nd) a_decisionArray a_decisionPlace a_candidateMany a_candidates (nI nr) a_ruleSort a_ruleArray a_ruleWeight a_ruleLow a_ruleHigh a_chosen a_bestOf (nI nm) a_markElements a_markBits a_markPins, cw_i g a_kindOf 60 kd2, cw_i g a_depthOf 60 dp2, cw_i g a_lengthOf 60 ln2, cw_i g a_classOf 60 cl2, cw_i g a_baseOf 60 sa2, cw_l g a_bits 4000 bt2, cw_z g a_pinned 4000 pn2, cw_i g a_stackArray 5 sk2, cw_i g a_stackOther 5 so2, cw_i g a_stackAt 5 at2]
set_option maxHeartbeats 4000000 in
set_option maxRecDepth 100000 in
theorem my_deep (g : zz_G) (h0 : Nat) (a_kindOf : Nat) (a_depthOf : Nat) (a_lengthOf : Nat) (a_classOf : Nat) (a_baseOf : Nat) (a_bits : Nat) (a_pinned : Nat) (a_lengths : Nat) (a_stackArray : Nat) (a_stackOther : Nat) (a_stackAt : Nat) (a_path : Nat) (a_held : Nat) (a_alike : Nat) (a_hashes : Nat) (a_decisionArray : Nat) (a_decisionPlace : Nat) (a_candidateMany : Nat) (a_candidates : Nat) (a_ruleSort : Nat) (a_ruleArray : Nat) (a_ruleWeight : Nat) (a_ruleLow : Nat) (a_ruleHigh : Nat) (a_chosen : Nat) (a_bestOf : Nat) (a_markElements : Nat) (a_markBits : Nat) (a_markPins : Nat) (na : Nat) (ne : Nat) (nd : Nat) (nr : Nat) (nm : Nat) (i_code : Int32) (i_lastArray : Int32) (i_lastPlace : Int32) (kdf : Nat → Int32) (dpf : Nat → Int32) (lnf : Nat → Int32) (clf : Nat → Int32) (saf : Nat → Int32) (btf : Nat → Int64) (pnf : Nat → Int32) (skf : Nat → Int32) (sof : Nat → Int32) (atf : Nat → Int32) (x1 : Int32) (h_M : zz_MI na ne dpf saf lnf btf) : zz_I g yX8_deep (.code yX8_deep cX8_deep 12 (some .int)) rm_my_deep [.ref h0, .int x1] [cw_k7 h0 (nI na) (nI ne) a_kindOf a_depthOf a_lengthOf a_classOf a_baseOf a_bits a_pinned i_code a_lengths a_stackArray a_stackOther a_stackAt i_lastArray i_lastPlace a_path a_held a_alike a_hashes (nI nd) a_decisionArray a_decisionPlace a_candidateMany a_candidates (nI nr) a_ruleSort a_ruleArray a_ruleWeight a_ruleLow a_ruleHigh a_chosen a_bestOf (nI nm) a_markElements a_markBits a_markPins, cw_i g a_kindOf 60 kdf, cw_i g a_depthOf 60 dpf, cw_i g a_lengthOf 60 lnf, cw_i g a_classOf 60 clf, cw_i g a_baseOf 60 saf, cw_l g a_bits 4000 btf, cw_z g a_pinned 4000 pnf, cw_i g a_stackArray 5 skf, cw_i g a_stackOther 5 sof, cw_i g a_stackAt 5 atf] (po_my_deep g h0 a_kindOf a_depthOf a_lengthOf a_classOf a_baseOf a_bits a_pinned a_lengths a_stackArray a_stackOther a_stackAt a_path a_held a_alike a_hashes a_decisionArray a_decisionPlace a_candidateMany a_candidates a_ruleSort a_ruleArray a_ruleWeight a_ruleLow a_ruleHigh a_chosen a_bestOf a_markElements a_markBits a_markPins na ne nd nr nm i_code i_lastArray i_lastPlace kdf dpf lnf clf saf btf pnf skf sof atf x1 h_M) := by
  refine zz_I.intro (own := RX8) (cc := cX8_deep) (nL := 12) (by decide) rfl (Nat.le_of_ble_eq_true rfl) ?_
  intro p l e s m args below meth c A H locs ls hC hnm hs hZ hl
  obtain ⟨hx, hb, hml, hown, hts, hr, hlocks, hK⟩ := id hC
  have hl : lv_has ls 12 [(0, .ref h0), (1, .int x1)] := hl
  have hZ : zz_Z g A s.heap [cw_k7 h0 (nI na) (nI ne) a_kindOf a_depthOf a_lengthOf a_classOf a_baseOf a_bits a_pinned i_code a_lengths a_stackArray a_stackOther a_stackAt i_lastArray i_lastPlace a_path a_held a_alike a_hashes (nI nd) a_decisionArray a_decisionPlace a_candidateMany a_candidates (nI nr) a_ruleSort a_ruleArray a_ruleWeight a_ruleLow a_ruleHigh a_chosen a_bestOf (nI nm) a_markElements a_markBits a_markPins, cw_i g a_kindOf 60 kdf, cw_i g a_depthOf 60 dpf, cw_i g a_lengthOf 60 lnf, cw_i g a_classOf 60 clf, cw_i g a_baseOf 60 saf, cw_l g a_bits 4000 btf, cw_z g a_pinned 4000 pnf, cw_i g a_stackArray 5 skf, cw_i g a_stackOther 5 sof, cw_i g a_stackAt 5 atf] H locs := hZ
  have h_S := h_M.1
  have hna := h_S.1
  have hne := h_S.2.1
  refine lv_aload_n hx hb dX8_deep_0 rfl (lv_at hl 0 rfl) ?_
  refine lv_iload_n hx hb dX8_deep_1 rfl (lv_at hl 1 rfl) ?_
  refine zz_iV (As := [.int x1]) (wc := [cw_k7 h0 (nI na) (nI ne) a_kindOf a_depthOf a_lengthOf a_classOf a_baseOf a_bits a_pinned i_code a_lengths a_stackArray a_stackOther a_stackAt i_lastArray i_lastPlace a_path a_held a_alike a_hashes (nI nd) a_decisionArray a_decisionPlace a_candidateMany a_candidates (nI nr) a_ruleSort a_ruleArray a_ruleWeight a_ruleLow a_ruleHigh a_chosen a_bestOf (nI nm) a_markElements a_markBits a_markPins]) (wr := [cw_i g a_kindOf 60 kdf, cw_i g a_depthOf 60 dpf, cw_i g a_lengthOf 60 lnf, cw_i g a_classOf 60 clf, cw_i g a_baseOf 60 saf, cw_l g a_bits 4000 btf, cw_z g a_pinned 4000 pnf, cw_i g a_stackArray 5 skf, cw_i g a_stackOther 5 sof, cw_i g a_stackAt 5 atf]) (rest := []) hC hZ hs hl zc_X8_200 (cm_isArray g h0 a_kindOf a_depthOf a_lengthOf a_classOf a_baseOf a_bits a_pinned a_lengths a_stackArray a_stackOther a_stackAt a_path a_held a_alike a_hashes a_decisionArray a_decisionPlace a_candidateMany a_candidates a_ruleSort a_ruleArray a_ruleWeight a_ruleLow a_ruleHigh a_chosen a_bestOf a_markElements a_markBits a_markPins (nI na) (nI ne) i_code i_lastArray i_lastPlace (nI nd) (nI nr) (nI nm) x1) [0] [1, 2, 3, 4, 5, 6, 7, 8, 9, 10] rfl rfl (by decide +kernel) (ci := 7) (q0 := 0) rfl rfl rfl rfl (Nat.le_of_ble_eq_true rfl) ⟨⟨Nat.le_of_ble_eq_true rfl, Nat.le_of_ble_eq_true rfl⟩, Nat.le_of_ble_eq_true rfl, Nat.le_of_ble_eq_true rfl⟩ dX8_deep_2 (fun r1 u2 H locs hp hZ => ?_)
  obtain ⟨rfl, rfl⟩ := hp
  have hZ : zz_Z g A s.heap [cw_i g a_kindOf 60 kdf, cw_i g a_depthOf 60 dpf, cw_i g a_lengthOf 60 lnf, cw_i g a_classOf 60 clf, cw_i g a_baseOf 60 saf, cw_l g a_bits 4000 btf, cw_z g a_pinned 4000 pnf, cw_i g a_stackArray 5 skf, cw_i g a_stackOther 5 sof, cw_i g a_stackAt 5 atf, cw_k7 h0 (nI na) (nI ne) a_kindOf a_depthOf a_lengthOf a_classOf a_baseOf a_bits a_pinned i_code a_lengths a_stackArray a_stackOther a_stackAt i_lastArray i_lastPlace a_path a_held a_alike a_hashes (nI nd) a_decisionArray a_decisionPlace a_candidateMany a_candidates (nI nr) a_ruleSort a_ruleArray a_ruleWeight a_ruleLow a_ruleHigh a_chosen a_bestOf (nI nm) a_markElements a_markBits a_markPins] H locs := hZ
  refine lv_if_ne (tgt := 14) hx hb dX8_deep_5 (by decide) (fun c3 => ?_) (fun c3 => ?_)
  · obtain ⟨a1, ha1, ea1⟩ := zl_isA (by omega) c3
    have hl : lv_has ls 12 [(0, .ref h0), (1, .int (nI a1))] := by rw [← ea1]; exact hl
    obtain ⟨sz1, lz1, dz1, es1, el1, ed1, g11, g21, g31, g41⟩ := h_S.2.2 a1 ha1
    refine lv_aload_n hx hb dX8_deep_14 rfl (lv_at hl 0 rfl) ?_
    refine zz_get hC hZ 10 rfl zf_X8_103 rfl dX8_deep_15 ?_
    refine lv_istore_n (lv' := [(2, .int (nI na)), (0, .ref h0), (1, .int (nI a1))]) hx hb dX8_deep_18 rfl hl (by decide) rfl (fun ls hl => ?_)
    have hTR := zl_TRm h_M
    obtain ⟨Sf, eSf⟩ : ∃ f, zz_nf saf = f := ⟨_, rfl⟩
    obtain ⟨Lf, eLf⟩ : ∃ f, zz_nf lnf = f := ⟨_, rfl⟩
    obtain ⟨Df, eDf⟩ : ∃ f, zz_nf dpf = f := ⟨_, rfl⟩
    rw [eSf, eLf, eDf] at hTR
    have hSL : ∀ x, x < na → saf x = nI (Sf x) ∧ lnf x = nI (Lf x) ∧ dpf x = nI (Df x) ∧ Lf x ≤ 200 ∧ Sf x + Lf x ≤ ne ∧ 1 ≤ Df x ∧ Df x ≤ 4 := fun x hx => ⟨(hTR.2 x hx).1, (hTR.2 x hx).2.1, (hTR.2 x hx).2.2, hTR.1.2.2.1 x hx⟩
    have hVR := hTR.1.2.2.2
    have eRW : zz_rw saf btf = (fun x i => btf (Sf x + i)) := by rw [← eSf]; rfl
    have d1c : x1.toNatClampNeg = a1 := by rw [ea1]; exact nI_clamp (by omega)
    obtain ⟨ya1, ya2, ya3, ya4, ya5, ya6, ya7⟩ := hSL a1 ha1
    have hdz : Df a1 = dz1 := zl_inj (ya3.symm.trans ed1) (by omega) (by omega)
    have hlz : Lf a1 = lz1 := zl_inj (ya2.symm.trans el1) (by omega) (by omega)
    have hsz : Sf a1 = sz1 := zl_inj (ya1.symm.trans es1) (by omega) (by omega)
    have hT := zz_ct_rm (w := fun _ => 1) (rw := (fun x i => btf (Sf x + i))) (Lf := Lf) (f := dz1) (x := a1) (by omega)
    have hE := zz_ct_rm (w := Lf) (rw := (fun x i => btf (Sf x + i))) (Lf := Lf) (f := dz1) (x := a1) (by omega)
    have hR1 : zz_RS (fun _ => 1) (fun x i => btf (Sf x + i)) Lf dz1 (fun _ => a1) (fun _ => 0) 1 = zz_rr (fun _ => 1) (fun x i => btf (Sf x + i)) Lf dz1 a1 0 := Nat.zero_add _
    have hR2 : zz_RS Lf (fun x i => btf (Sf x + i)) Lf dz1 (fun _ => a1) (fun _ => 0) 1 = zz_rr Lf (fun x i => btf (Sf x + i)) Lf dz1 a1 0 := Nat.zero_add _
    have hR3 : zz_SG Lf (fun _ => a1) (fun _ => 0) 1 = Lf a1 := Nat.zero_add _
    have hT : zz_ct (fun _ => 1) (fun x i => btf (Sf x + i)) Lf dz1 a1 = 1 + zz_rr (fun _ => 1) (fun x i => btf (Sf x + i)) Lf dz1 a1 0 := hT
    refine lv_iconst (v := 0) hx hb dX8_deep_19 (by decide) ?_
    refine lv_istore_n (lv' := [(3, .int 0), (2, .int (nI na)), (0, .ref h0), (1, .int (nI a1))]) hx hb dX8_deep_20 rfl hl (by decide) rfl (fun ls hl => ?_)
    refine lv_lconst (v := 0) hx hb dX8_deep_21 (by decide) ?_
    refine lv_lstore (lv' := [(4, .long 0), (3, .int 0), (2, .int (nI na)), (0, .ref h0), (1, .int (nI a1))]) hx hb dX8_deep_22 hl (by decide) rfl (fun ls hl => ?_)
    refine lv_iconst (v := 0) hx hb dX8_deep_24 (by decide) ?_
    refine lv_istore (lv' := [(6, .int 0), (4, .long 0), (3, .int 0), (2, .int (nI na)), (0, .ref h0), (1, .int (nI a1))]) hx hb dX8_deep_25 hl (by decide) rfl (fun ls hl => ?_)
    refine lv_iload hx hb dX8_deep_27 (lv_at hl 0 rfl) ?_
    refine lv_iconst (v := 2) hx hb dX8_deep_29 (by decide) ?_
    refine lv_icmp_ge (tgt := 319) hx hb dX8_deep_30 (by decide) (fun c => absurd c (by decide)) (fun c4 => ?_)
    refine lv_iconst (v := 0) hx hb dX8_deep_33 (by decide) ?_
    refine lv_istore (lv' := [(7, .int 0), (6, .int 0), (4, .long 0), (3, .int 0), (2, .int (nI na)), (0, .ref h0), (1, .int (nI a1))]) hx hb dX8_deep_34 hl (by decide) rfl (fun ls hl => ?_)
    refine lv_aload_n hx hb dX8_deep_36 rfl (lv_at hl 5 rfl) ?_
    refine zz_get hC hZ 10 rfl zf_X8_36 rfl dX8_deep_37 ?_
    refine lv_iconst (v := 0) hx hb dX8_deep_40 (by decide) ?_
    refine lv_iload_n hx hb dX8_deep_41 rfl (lv_at hl 6 rfl) ?_
    refine zz_iast hC hZ 7 rfl (by unfold vp_in; decide) dX8_deep_42 (fun H locs hZ => ?_)
    rw [zl_c0] at hZ
    have hZ : zz_Z g A s.heap [cw_i g a_kindOf 60 kdf, cw_i g a_depthOf 60 dpf, cw_i g a_lengthOf 60 lnf, cw_i g a_classOf 60 clf, cw_i g a_baseOf 60 saf, cw_l g a_bits 4000 btf, cw_z g a_pinned 4000 pnf, cw_i g a_stackArray 5 (upd skf 0 (nI a1)), cw_i g a_stackOther 5 sof, cw_i g a_stackAt 5 atf, cw_k7 h0 (nI na) (nI ne) a_kindOf a_depthOf a_lengthOf a_classOf a_baseOf a_bits a_pinned i_code a_lengths a_stackArray a_stackOther a_stackAt i_lastArray i_lastPlace a_path a_held a_alike a_hashes (nI nd) a_decisionArray a_decisionPlace a_candidateMany a_candidates (nI nr) a_ruleSort a_ruleArray a_ruleWeight a_ruleLow a_ruleHigh a_chosen a_bestOf (nI nm) a_markElements a_markBits a_markPins] H locs := hZ
    refine lv_aload_n hx hb dX8_deep_43 rfl (lv_at hl 5 rfl) ?_
    refine zz_get hC hZ 10 rfl zf_X8_42 rfl dX8_deep_44 ?_
    refine lv_iconst (v := 0) hx hb dX8_deep_47 (by decide) ?_
    refine lv_iconst (v := 0) hx hb dX8_deep_48 (by decide) ?_
    refine zz_iast hC hZ 9 rfl (by unfold vp_in; decide) dX8_deep_49 (fun H locs hZ => ?_)
    rw [zl_c0] at hZ
    have hZ : zz_Z g A s.heap [cw_i g a_kindOf 60 kdf, cw_i g a_depthOf 60 dpf, cw_i g a_lengthOf 60 lnf, cw_i g a_classOf 60 clf, cw_i g a_baseOf 60 saf, cw_l g a_bits 4000 btf, cw_z g a_pinned 4000 pnf, cw_i g a_stackArray 5 (upd skf 0 (nI a1)), cw_i g a_stackOther 5 sof, cw_i g a_stackAt 5 (upd atf 0 0), cw_k7 h0 (nI na) (nI ne) a_kindOf a_depthOf a_lengthOf a_classOf a_baseOf a_bits a_pinned i_code a_lengths a_stackArray a_stackOther a_stackAt i_lastArray i_lastPlace a_path a_held a_alike a_hashes (nI nd) a_decisionArray a_decisionPlace a_candidateMany a_candidates (nI nr) a_ruleSort a_ruleArray a_ruleWeight a_ruleLow a_ruleHigh a_chosen a_bestOf (nI nm) a_markElements a_markBits a_markPins] H locs := hZ
    refine lv_iinc (v := 1) (lv' := [(3, .int 1), (7, .int 0), (6, .int 0), (4, .long 0), (2, .int (nI na)), (0, .ref h0), (1, .int (nI a1))]) hx hb dX8_deep_50 hl (k := 3) rfl (by first | rfl | decide) (by decide) rfl (fun ls hl => ?_)
    refine lv_lload hx hb dX8_deep_53 (lv_at hl 3 rfl) ?_
    refine lv_aload_n hx hb dX8_deep_55 rfl (lv_at hl 5 rfl) ?_
    refine zz_get hC hZ 10 rfl zf_X8_16 rfl dX8_deep_56 ?_
    refine lv_iload_n hx hb dX8_deep_59 rfl (lv_at hl 6 rfl) ?_
    have bd5 : a1 < 60 := by omega
    refine zz_ialdn hC hZ 2 rfl bd5 (by decide) dX8_deep_60 ?_
    refine zz_topi (v := nI lz1) (el1) ?_
    refine lv_i2l hx hb dX8_deep_61 rfl ?_
    refine lv_ladd hx hb dX8_deep_62 ?_
    refine zz_topl (v := lN lz1) (by rw [nI_l (show lz1 < 2 ^ 31 by omega), show (0 : Int64) = lN 0 by decide, lN_add]; exact congrArg lN (Nat.zero_add _)) ?_
    refine lv_lstore (lv' := [(4, .long (lN lz1)), (3, .int 1), (7, .int 0), (6, .int 0), (2, .int (nI na)), (0, .ref h0), (1, .int (nI a1))]) hx hb dX8_deep_63 hl (by decide) rfl (fun ls hl => ?_)
    refine lv_iload hx hb dX8_deep_65 (lv_at hl 3 rfl) ?_
    refine lv_iconst (v := 1) hx hb dX8_deep_67 (by decide) ?_
    refine lv_icmp_ne (tgt := 82) hx hb dX8_deep_68 (by decide) (fun c6 => ?_) (fun c => absurd c (by decide))
    have LP7 : ∀ (N7 : Nat) (lev : Int32) (L : Nat) (mn : Nat) (el : Nat) (Av : Nat → Nat) (av : Nat → Nat) (sk1 : Nat → Int32) (at1 : Nat → Int32) (H : Heap) (locs : List Loc) (ls : Array Slot), (lev = nI L + (-1)) → (L ≤ dz1) → (zz_I3 na dz1 Lf Df Av av sk1 at1 L) → (mn ≤ 60) → (el ≤ 4000) → (mn + zz_RS (fun _ => 1) (fun x i => btf (Sf x + i)) Lf dz1 Av av L ≤ zz_ct (fun _ => 1) (fun x i => btf (Sf x + i)) Lf dz1 a1 ∧ zz_ct (fun _ => 1) (fun x i => btf (Sf x + i)) Lf dz1 a1 ≤ mn + zz_RS (fun _ => 1) (fun x i => btf (Sf x + i)) Lf dz1 Av av L) → (el + zz_RS Lf (fun x i => btf (Sf x + i)) Lf dz1 Av av L ≤ zz_ct Lf (fun x i => btf (Sf x + i)) Lf dz1 a1 ∧ zz_ct Lf (fun x i => btf (Sf x + i)) Lf dz1 a1 ≤ el + zz_RS Lf (fun x i => btf (Sf x + i)) Lf dz1 Av av L) → (1000 * zz_RS (fun _ => 1) (fun x i => btf (Sf x + i)) Lf dz1 Av av L + zz_SG Lf Av av L + L) < N7 → zz_Z g A s.heap [cw_i g a_kindOf 60 kdf, cw_i g a_depthOf 60 dpf, cw_i g a_lengthOf 60 lnf, cw_i g a_classOf 60 clf, cw_i g a_baseOf 60 saf, cw_l g a_bits 4000 btf, cw_z g a_pinned 4000 pnf, cw_i g a_stackArray 5 sk1, cw_i g a_stackOther 5 sof, cw_i g a_stackAt 5 at1, cw_k7 h0 (nI na) (nI ne) a_kindOf a_depthOf a_lengthOf a_classOf a_baseOf a_bits a_pinned i_code a_lengths a_stackArray a_stackOther a_stackAt i_lastArray i_lastPlace a_path a_held a_alike a_hashes (nI nd) a_decisionArray a_decisionPlace a_candidateMany a_candidates (nI nr) a_ruleSort a_ruleArray a_ruleWeight a_ruleLow a_ruleHigh a_chosen a_bestOf (nI nm) a_markElements a_markBits a_markPins] H locs → lv_has ls 12 [(4, .long (lN el)), (3, .int (nI mn)), (7, .int lev), (6, .int 0), (2, .int (nI na)), (0, .ref h0), (1, .int (nI a1))] → W p l e rm_my_deep s m args below meth c H locs 0 0 (zz_QI below g args s A rm_my_deep.cells rm_my_deep.slots (po_my_deep g h0 a_kindOf a_depthOf a_lengthOf a_classOf a_baseOf a_bits a_pinned a_lengths a_stackArray a_stackOther a_stackAt a_path a_held a_alike a_hashes a_decisionArray a_decisionPlace a_candidateMany a_candidates a_ruleSort a_ruleArray a_ruleWeight a_ruleLow a_ruleHigh a_chosen a_bestOf a_markElements a_markBits a_markPins na ne nd nr nm i_code i_lastArray i_lastPlace kdf dpf lnf clf saf btf pnf skf sof atf x1 h_M)) (F0 m 82 ls []) := by
      intro N7
      induction N7 with
      | zero =>
        intro lev L mn el Av av sk1 at1 H locs ls hv0 hv1 hI hmn hel hv3 hv4 hN7
        exact absurd hN7 (Nat.not_lt_zero _)
      | succ N7 ih7 =>
        intro lev L mn el Av av sk1 at1 H locs ls hv0 hv1 hI hmn hel hv3 hv4 hN7 hZ hl
        refine lv_iload hx hb dX8_deep_82 (lv_at hl 2 rfl) ?_
        refine lv_if_lt (tgt := 291) hx hb dX8_deep_84 (by decide) (fun c8 => ?_) (fun c8 => ?_)
        · refine lv_iload hx hb dX8_deep_291 (lv_at hl 3 rfl) ?_
          refine lv_if_ne (tgt := 313) hx hb dX8_deep_293 (by decide) (fun c => absurd (by decide) c) (fun c9 => ?_)
          refine lv_aload_n hx hb dX8_deep_296 rfl (lv_at hl 5 rfl) ?_
          refine lv_iload_n hx hb dX8_deep_297 rfl (lv_at hl 1 rfl) ?_
          refine lv_lload hx hb dX8_deep_298 (lv_at hl 0 rfl) ?_
          refine zz_iV (As := [.int (nI mn), .long (lN el)]) (wc := [cw_k7 h0 (nI na) (nI ne) a_kindOf a_depthOf a_lengthOf a_classOf a_baseOf a_bits a_pinned i_code a_lengths a_stackArray a_stackOther a_stackAt i_lastArray i_lastPlace a_path a_held a_alike a_hashes (nI nd) a_decisionArray a_decisionPlace a_candidateMany a_candidates (nI nr) a_ruleSort a_ruleArray a_ruleWeight a_ruleLow a_ruleHigh a_chosen a_bestOf (nI nm) a_markElements a_markBits a_markPins]) (wr := [cw_i g a_kindOf 60 kdf, cw_i g a_depthOf 60 dpf, cw_i g a_lengthOf 60 lnf, cw_i g a_classOf 60 clf, cw_i g a_baseOf 60 saf, cw_l g a_bits 4000 btf, cw_z g a_pinned 4000 pnf, cw_i g a_stackArray 5 sk1, cw_i g a_stackOther 5 sof, cw_i g a_stackAt 5 at1]) (rest := []) hC hZ hs hl zc_X8_191 (cm_isRoom g h0 a_kindOf a_depthOf a_lengthOf a_classOf a_baseOf a_bits a_pinned a_lengths a_stackArray a_stackOther a_stackAt a_path a_held a_alike a_hashes a_decisionArray a_decisionPlace a_candidateMany a_candidates a_ruleSort a_ruleArray a_ruleWeight a_ruleLow a_ruleHigh a_chosen a_bestOf a_markElements a_markBits a_markPins (nI na) (nI ne) i_code i_lastArray i_lastPlace (nI nd) (nI nr) (nI nm) (nI mn) (lN el)) [10] [0, 1, 2, 3, 4, 5, 6, 7, 8, 9] rfl rfl (by decide +kernel) (ci := 7) (q0 := 0) rfl rfl rfl rfl (Nat.le_of_ble_eq_true rfl) ⟨⟨Nat.le_of_ble_eq_true rfl, Nat.le_of_ble_eq_true rfl⟩, Nat.le_of_ble_eq_true rfl, Nat.le_of_ble_eq_true rfl⟩ dX8_deep_300 (fun r10 u11 H locs hp hZ => ?_)
          obtain ⟨rfl, rfl⟩ := hp
          have hZ : zz_Z g A s.heap [cw_i g a_kindOf 60 kdf, cw_i g a_depthOf 60 dpf, cw_i g a_lengthOf 60 lnf, cw_i g a_classOf 60 clf, cw_i g a_baseOf 60 saf, cw_l g a_bits 4000 btf, cw_z g a_pinned 4000 pnf, cw_i g a_stackArray 5 sk1, cw_i g a_stackOther 5 sof, cw_i g a_stackAt 5 at1, cw_k7 h0 (nI na) (nI ne) a_kindOf a_depthOf a_lengthOf a_classOf a_baseOf a_bits a_pinned i_code a_lengths a_stackArray a_stackOther a_stackAt i_lastArray i_lastPlace a_path a_held a_alike a_hashes (nI nd) a_decisionArray a_decisionPlace a_candidateMany a_candidates (nI nr) a_ruleSort a_ruleArray a_ruleWeight a_ruleLow a_ruleHigh a_chosen a_bestOf (nI nm) a_markElements a_markBits a_markPins] H locs := hZ
          refine lv_if_ne (tgt := 313) hx hb dX8_deep_303 (by decide) (fun c12 => ?_) (fun c12 => ?_)
          · obtain ⟨hro1, hro2⟩ := zl_roomD (by omega) (by omega) hmn hel c12
            obtain ⟨hv3a, hv3b⟩ := hv3
            obtain ⟨hv4a, hv4b⟩ := hv4
            have hL0 : L = 0 := zl_lev0 hv0 (by omega) c8
            subst hL0
            have hs1 : zz_RS (fun _ => 1) (fun x i => btf (Sf x + i)) Lf dz1 Av av 0 = 0 := rfl
            have hs2 : zz_RS Lf (fun x i => btf (Sf x + i)) Lf dz1 Av av 0 = 0 := rfl
            have hDF : zz_DF na ne Lf Df (fun x i => btf (Sf x + i)) a1 := by unfold zz_DF; rw [hdz]; exact ⟨by omega, by omega⟩
            refine lv_iinc (v := 1) (lv' := [(6, .int 1), (4, .long (lN el)), (3, .int (nI mn)), (7, .int lev), (2, .int (nI na)), (0, .ref h0), (1, .int (nI a1))]) hx hb dX8_deep_313 hl (k := 3) rfl (by first | rfl | decide) (by decide) rfl (fun ls hl => ?_)
            refine lv_goto (tgt := 27) hx hb dX8_deep_316 (by decide) ?_
            refine lv_iload hx hb dX8_deep_27 (lv_at hl 0 rfl) ?_
            refine lv_iconst (v := 2) hx hb dX8_deep_29 (by decide) ?_
            refine lv_icmp_ge (tgt := 319) hx hb dX8_deep_30 (by decide) (fun c => absurd c (by decide)) (fun c13 => ?_)
            refine lv_iconst (v := 0) hx hb dX8_deep_33 (by decide) ?_
            refine lv_istore (lv' := [(7, .int 0), (6, .int 1), (4, .long (lN el)), (3, .int (nI mn)), (2, .int (nI na)), (0, .ref h0), (1, .int (nI a1))]) hx hb dX8_deep_34 hl (by decide) rfl (fun ls hl => ?_)
            refine lv_aload_n hx hb dX8_deep_36 rfl (lv_at hl 5 rfl) ?_
            refine zz_get hC hZ 10 rfl zf_X8_36 rfl dX8_deep_37 ?_
            refine lv_iconst (v := 0) hx hb dX8_deep_40 (by decide) ?_
            refine lv_iload_n hx hb dX8_deep_41 rfl (lv_at hl 6 rfl) ?_
            refine zz_iast hC hZ 7 rfl (by unfold vp_in; decide) dX8_deep_42 (fun H locs hZ => ?_)
            rw [zl_c0] at hZ
            have hZ : zz_Z g A s.heap [cw_i g a_kindOf 60 kdf, cw_i g a_depthOf 60 dpf, cw_i g a_lengthOf 60 lnf, cw_i g a_classOf 60 clf, cw_i g a_baseOf 60 saf, cw_l g a_bits 4000 btf, cw_z g a_pinned 4000 pnf, cw_i g a_stackArray 5 (upd sk1 0 (nI a1)), cw_i g a_stackOther 5 sof, cw_i g a_stackAt 5 at1, cw_k7 h0 (nI na) (nI ne) a_kindOf a_depthOf a_lengthOf a_classOf a_baseOf a_bits a_pinned i_code a_lengths a_stackArray a_stackOther a_stackAt i_lastArray i_lastPlace a_path a_held a_alike a_hashes (nI nd) a_decisionArray a_decisionPlace a_candidateMany a_candidates (nI nr) a_ruleSort a_ruleArray a_ruleWeight a_ruleLow a_ruleHigh a_chosen a_bestOf (nI nm) a_markElements a_markBits a_markPins] H locs := hZ
            refine lv_aload_n hx hb dX8_deep_43 rfl (lv_at hl 5 rfl) ?_
            refine zz_get hC hZ 10 rfl zf_X8_42 rfl dX8_deep_44 ?_
            refine lv_iconst (v := 0) hx hb dX8_deep_47 (by decide) ?_
            refine lv_iconst (v := 0) hx hb dX8_deep_48 (by decide) ?_
            refine zz_iast hC hZ 9 rfl (by unfold vp_in; decide) dX8_deep_49 (fun H locs hZ => ?_)
            rw [zl_c0] at hZ
            have hZ : zz_Z g A s.heap [cw_i g a_kindOf 60 kdf, cw_i g a_depthOf 60 dpf, cw_i g a_lengthOf 60 lnf, cw_i g a_classOf 60 clf, cw_i g a_baseOf 60 saf, cw_l g a_bits 4000 btf, cw_z g a_pinned 4000 pnf, cw_i g a_stackArray 5 (upd sk1 0 (nI a1)), cw_i g a_stackOther 5 sof, cw_i g a_stackAt 5 (upd at1 0 0), cw_k7 h0 (nI na) (nI ne) a_kindOf a_depthOf a_lengthOf a_classOf a_baseOf a_bits a_pinned i_code a_lengths a_stackArray a_stackOther a_stackAt i_lastArray i_lastPlace a_path a_held a_alike a_hashes (nI nd) a_decisionArray a_decisionPlace a_candidateMany a_candidates (nI nr) a_ruleSort a_ruleArray a_ruleWeight a_ruleLow a_ruleHigh a_chosen a_bestOf (nI nm) a_markElements a_markBits a_markPins] H locs := hZ
            refine lv_iinc (v := nI (mn + 1)) (lv' := [(3, .int (nI (mn + 1))), (7, .int 0), (6, .int 1), (4, .long (lN el)), (2, .int (nI na)), (0, .ref h0), (1, .int (nI a1))]) hx hb dX8_deep_50 hl (k := 3) rfl (nI_1 _) (by decide) rfl (fun ls hl => ?_)
            refine lv_lload hx hb dX8_deep_53 (lv_at hl 3 rfl) ?_
            refine lv_aload_n hx hb dX8_deep_55 rfl (lv_at hl 5 rfl) ?_
            refine zz_get hC hZ 10 rfl zf_X8_16 rfl dX8_deep_56 ?_
            refine lv_iload_n hx hb dX8_deep_59 rfl (lv_at hl 6 rfl) ?_
            refine zz_ialdn hC hZ 2 rfl bd5 (by decide) dX8_deep_60 ?_
            refine zz_topi (v := nI lz1) (el1) ?_
            refine lv_i2l hx hb dX8_deep_61 rfl ?_
            refine lv_ladd hx hb dX8_deep_62 ?_
            refine lv_lstore (lv' := [(4, .long ((lN el) + ((nI lz1).toInt64))), (3, .int (nI (mn + 1))), (7, .int 0), (6, .int 1), (2, .int (nI na)), (0, .ref h0), (1, .int (nI a1))]) hx hb dX8_deep_63 hl (by decide) rfl (fun ls hl => ?_)
            refine lv_iload hx hb dX8_deep_65 (lv_at hl 3 rfl) ?_
            refine lv_iconst (v := 1) hx hb dX8_deep_67 (by decide) ?_
            refine lv_icmp_ne (tgt := 82) hx hb dX8_deep_68 (by decide) (fun c => absurd (by decide) c) (fun c14 => ?_)
            refine lv_aload_n hx hb dX8_deep_71 rfl (lv_at hl 5 rfl) ?_
            refine zz_get hC hZ 10 rfl zf_X8_39 rfl dX8_deep_72 ?_
            refine lv_iconst (v := 0) hx hb dX8_deep_75 (by decide) ?_
            refine lv_aload_n hx hb dX8_deep_76 rfl (lv_at hl 5 rfl) ?_
            refine lv_iload_n hx hb dX8_deep_77 rfl (lv_at hl 6 rfl) ?_
            refine zz_iV (As := [.int (nI a1)]) (wc := [cw_k7 h0 (nI na) (nI ne) a_kindOf a_depthOf a_lengthOf a_classOf a_baseOf a_bits a_pinned i_code a_lengths a_stackArray a_stackOther a_stackAt i_lastArray i_lastPlace a_path a_held a_alike a_hashes (nI nd) a_decisionArray a_decisionPlace a_candidateMany a_candidates (nI nr) a_ruleSort a_ruleArray a_ruleWeight a_ruleLow a_ruleHigh a_chosen a_bestOf (nI nm) a_markElements a_markBits a_markPins, cw_i g a_kindOf 60 kdf, cw_i g a_depthOf 60 dpf, cw_i g a_lengthOf 60 lnf, cw_i g a_classOf 60 clf, cw_i g a_baseOf 60 saf, cw_l g a_bits 4000 btf, cw_z g a_pinned 4000 pnf]) (wr := [cw_i g a_stackArray 5 (upd sk1 0 (nI a1)), cw_i g a_stackOther 5 sof, cw_i g a_stackAt 5 (upd at1 0 0)]) (rest := [.int 0, .ref a_stackOther]) hC hZ hs hl zc_X8_236 (cm_copyOne g h0 a_kindOf a_depthOf a_lengthOf a_classOf a_baseOf a_bits a_pinned a_lengths a_stackArray a_stackOther a_stackAt a_path a_held a_alike a_hashes a_decisionArray a_decisionPlace a_candidateMany a_candidates a_ruleSort a_ruleArray a_ruleWeight a_ruleLow a_ruleHigh a_chosen a_bestOf a_markElements a_markBits a_markPins na ne nd nr nm i_code i_lastArray i_lastPlace kdf dpf lnf clf saf btf pnf a1 (Sf a1) (Lf a1) dz1 (by omega) (ya1) (ya2) (ed1) (h_M)) [10, 0, 1, 2, 3, 4, 5, 6] [7, 8, 9] rfl rfl (by decide +kernel) (ci := 7) (q0 := 0) rfl rfl rfl rfl (Nat.le_of_ble_eq_true rfl) ⟨⟨Nat.le_of_ble_eq_true rfl, Nat.le_of_ble_eq_true rfl⟩, Nat.le_of_ble_eq_true rfl, Nat.le_of_ble_eq_true rfl⟩ dX8_deep_78 (fun r15 u16 H locs hp hZ => ?_)
            obtain ⟨bt2_17, pn2_18, rfl, f19, f20, f21, f22, rfl⟩ := hp
            have hZ : zz_Z g A s.heap [cw_i g a_stackArray 5 (upd sk1 0 (nI a1)), cw_i g a_stackOther 5 sof, cw_i g a_stackAt 5 (upd at1 0 0), cw_k7 h0 (nI (na + 1)) (nI (ne + (Lf a1))) a_kindOf a_depthOf a_lengthOf a_classOf a_baseOf a_bits a_pinned i_code a_lengths a_stackArray a_stackOther a_stackAt i_lastArray i_lastPlace a_path a_held a_alike a_hashes (nI nd) a_decisionArray a_decisionPlace a_candidateMany a_candidates (nI nr) a_ruleSort a_ruleArray a_ruleWeight a_ruleLow a_ruleHigh a_chosen a_bestOf (nI nm) a_markElements a_markBits a_markPins, cw_i g a_kindOf 60 (upd kdf na (kdf a1)), cw_i g a_depthOf 60 (upd dpf na (nI dz1)), cw_i g a_lengthOf 60 (upd lnf na (nI (Lf a1))), cw_i g a_classOf 60 (upd clf na (clf a1)), cw_i g a_baseOf 60 (upd saf na (nI ne)), cw_l g a_bits 4000 bt2_17, cw_z g a_pinned 4000 pn2_18] H locs := hZ
            refine zz_iast hC hZ 1 rfl (by unfold vp_in; decide) dX8_deep_81 (fun H locs hZ => ?_)
            rw [zl_c0] at hZ
            have hZ : zz_Z g A s.heap [cw_i g a_stackArray 5 (upd sk1 0 (nI a1)), cw_i g a_stackOther 5 (upd sof 0 (nI na)), cw_i g a_stackAt 5 (upd at1 0 0), cw_k7 h0 (nI (na + 1)) (nI (ne + (Lf a1))) a_kindOf a_depthOf a_lengthOf a_classOf a_baseOf a_bits a_pinned i_code a_lengths a_stackArray a_stackOther a_stackAt i_lastArray i_lastPlace a_path a_held a_alike a_hashes (nI nd) a_decisionArray a_decisionPlace a_candidateMany a_candidates (nI nr) a_ruleSort a_ruleArray a_ruleWeight a_ruleLow a_ruleHigh a_chosen a_bestOf (nI nm) a_markElements a_markBits a_markPins, cw_i g a_kindOf 60 (upd kdf na (kdf a1)), cw_i g a_depthOf 60 (upd dpf na (nI dz1)), cw_i g a_lengthOf 60 (upd lnf na (nI (Lf a1))), cw_i g a_classOf 60 (upd clf na (clf a1)), cw_i g a_baseOf 60 (upd saf na (nI ne)), cw_l g a_bits 4000 bt2_17, cw_z g a_pinned 4000 pn2_18] H locs := hZ
            have LP23 : ∀ (N23 : Nat) (lev : Int32) (L : Nat) (mv : Int32) (ev : Int64) (Av : Nat → Nat) (av : Nat → Nat) (Cv : Nat → Nat) (na1 : Nat) (ne1 : Nat) (kd1 : Nat → Int32) (dp1 : Nat → Int32) (ln1 : Nat → Int32) (cl1 : Nat → Int32) (sa1 : Nat → Int32) (bt1 : Nat → Int64) (pn1 : Nat → Int32) (sk1 : Nat → Int32) (so1 : Nat → Int32) (at1 : Nat → Int32) (H : Heap) (locs : List Loc) (ls : Array Slot), (lev = nI L + (-1)) → (L ≤ dz1) → (zz_I3 na dz1 Lf Df Av av sk1 at1 L) → (zz_I4 na ne na1 ne1 dz1 Lf Av Cv so1 dp1 sa1 ln1 L) → (na1 + zz_RS (fun _ => 1) (fun x i => btf (Sf x + i)) Lf dz1 Av av L ≤ 60) → (ne1 + zz_RS Lf (fun x i => btf (Sf x + i)) Lf dz1 Av av L ≤ 4000) → (zz_MI na1 ne1 dp1 sa1 ln1 bt1) → (zz_GW na ne na1 ne1 dpf saf lnf dp1 sa1 ln1) → (∀ j, j < ne → bt1 j = btf j) → (sp_tF kdf clf Sf Lf (fun x i => btf (Sf x + i)) (dz1 - 0) a1 ne (Lf a1 - 0) 0 (sp_co kdf clf Sf Lf dz1 a1 (na, ne, kdf, dpf, clf, saf, lnf, btf)) = sp_tfin kdf clf Sf Lf (fun x i => btf (Sf x + i)) dz1 Av Cv av L (na1, ne1, kd1, dp1, cl1, sa1, ln1, bt1)) → (pn1 = zz_mp pnf ne (ne1 - ne)) → (∀ x, x < na → kd1 x = kdf x ∧ cl1 x = clf x) → (1000 * zz_RS (fun _ => 1) (fun x i => btf (Sf x + i)) Lf dz1 Av av L + zz_SG Lf Av av L + L) < N23 → zz_Z g A s.heap [cw_i g a_stackArray 5 sk1, cw_i g a_stackOther 5 so1, cw_i g a_stackAt 5 at1, cw_k7 h0 (nI na1) (nI ne1) a_kindOf a_depthOf a_lengthOf a_classOf a_baseOf a_bits a_pinned i_code a_lengths a_stackArray a_stackOther a_stackAt i_lastArray i_lastPlace a_path a_held a_alike a_hashes (nI nd) a_decisionArray a_decisionPlace a_candidateMany a_candidates (nI nr) a_ruleSort a_ruleArray a_ruleWeight a_ruleLow a_ruleHigh a_chosen a_bestOf (nI nm) a_markElements a_markBits a_markPins, cw_i g a_kindOf 60 kd1, cw_i g a_depthOf 60 dp1, cw_i g a_lengthOf 60 ln1, cw_i g a_classOf 60 cl1, cw_i g a_baseOf 60 sa1, cw_l g a_bits 4000 bt1, cw_z g a_pinned 4000 pn1] H locs → lv_has ls 12 [(4, .long ev), (3, .int mv), (7, .int lev), (6, .int 1), (2, .int (nI na)), (0, .ref h0), (1, .int (nI a1))] → W p l e rm_my_deep s m args below meth c H locs 0 0 (zz_QI below g args s A rm_my_deep.cells rm_my_deep.slots (po_my_deep g h0 a_kindOf a_depthOf a_lengthOf a_classOf a_baseOf a_bits a_pinned a_lengths a_stackArray a_stackOther a_stackAt a_path a_held a_alike a_hashes a_decisionArray a_decisionPlace a_candidateMany a_candidates a_ruleSort a_ruleArray a_ruleWeight a_ruleLow a_ruleHigh a_chosen a_bestOf a_markElements a_markBits a_markPins na ne nd nr nm i_code i_lastArray i_lastPlace kdf dpf lnf clf saf btf pnf skf sof atf x1 h_M)) (F0 m 82 ls []) := by
              intro N23
              induction N23 with
              | zero =>
                intro lev L mv ev Av av Cv na1 ne1 kd1 dp1 ln1 cl1 sa1 bt1 pn1 sk1 so1 at1 H locs ls hv0 hv1 hI hJ hv3 hv4 hM1 hG hbt hFI hpn hkc hN23
                exact absurd hN23 (Nat.not_lt_zero _)
              | succ N23 ih23 =>
                intro lev L mv ev Av av Cv na1 ne1 kd1 dp1 ln1 cl1 sa1 bt1 pn1 sk1 so1 at1 H locs ls hv0 hv1 hI hJ hv3 hv4 hM1 hG hbt hFI hpn hkc hN23 hZ hl
                refine lv_iload hx hb dX8_deep_82 (lv_at hl 2 rfl) ?_
                refine lv_if_lt (tgt := 291) hx hb dX8_deep_84 (by decide) (fun c24 => ?_) (fun c24 => ?_)
                · refine lv_iload hx hb dX8_deep_291 (lv_at hl 3 rfl) ?_
                  refine lv_if_ne (tgt := 313) hx hb dX8_deep_293 (by decide) (fun c25 => ?_) (fun c => absurd c (by decide))
                  refine lv_iinc (v := 2) (lv' := [(6, .int 2), (4, .long ev), (3, .int mv), (7, .int lev), (2, .int (nI na)), (0, .ref h0), (1, .int (nI a1))]) hx hb dX8_deep_313 hl (k := 3) rfl (by first | rfl | decide) (by decide) rfl (fun ls hl => ?_)
                  refine lv_goto (tgt := 27) hx hb dX8_deep_316 (by decide) ?_
                  refine lv_iload hx hb dX8_deep_27 (lv_at hl 0 rfl) ?_
                  refine lv_iconst (v := 2) hx hb dX8_deep_29 (by decide) ?_
                  refine lv_icmp_ge (tgt := 319) hx hb dX8_deep_30 (by decide) (fun c26 => ?_) (fun c => absurd (by decide) c)
                  refine lv_aload_n hx hb dX8_deep_319 rfl (lv_at hl 5 rfl) ?_
                  refine lv_iload_n hx hb dX8_deep_320 rfl (lv_at hl 4 rfl) ?_
                  refine zz_iV (As := [.int (nI na)]) (wc := [cw_k7 h0 (nI na1) (nI ne1) a_kindOf a_depthOf a_lengthOf a_classOf a_baseOf a_bits a_pinned i_code a_lengths a_stackArray a_stackOther a_stackAt i_lastArray i_lastPlace a_path a_held a_alike a_hashes (nI nd) a_decisionArray a_decisionPlace a_candidateMany a_candidates (nI nr) a_ruleSort a_ruleArray a_ruleWeight a_ruleLow a_ruleHigh a_chosen a_bestOf (nI nm) a_markElements a_markBits a_markPins]) (wr := [cw_i g a_stackArray 5 sk1, cw_i g a_stackOther 5 so1, cw_i g a_stackAt 5 at1, cw_i g a_kindOf 60 kd1, cw_i g a_depthOf 60 dp1, cw_i g a_lengthOf 60 ln1, cw_i g a_classOf 60 cl1, cw_i g a_baseOf 60 sa1, cw_l g a_bits 4000 bt1, cw_z g a_pinned 4000 pn1]) (rest := []) hC hZ hs hl zc_X8_183 (cm_fine g h0 a_kindOf a_depthOf a_lengthOf a_classOf a_baseOf a_bits a_pinned a_lengths a_stackArray a_stackOther a_stackAt a_path a_held a_alike a_hashes a_decisionArray a_decisionPlace a_candidateMany a_candidates a_ruleSort a_ruleArray a_ruleWeight a_ruleLow a_ruleHigh a_chosen a_bestOf a_markElements a_markBits a_markPins (nI na1) (nI ne1) i_code i_lastArray i_lastPlace (nI nd) (nI nr) (nI nm) (nI na)) [3] [0, 1, 2, 4, 5, 6, 7, 8, 9, 10] rfl rfl (by decide +kernel) (ci := 7) (q0 := 0) rfl rfl rfl rfl (Nat.le_of_ble_eq_true rfl) ⟨⟨Nat.le_of_ble_eq_true rfl, Nat.le_of_ble_eq_true rfl⟩, Nat.le_of_ble_eq_true rfl, Nat.le_of_ble_eq_true rfl⟩ dX8_deep_321 (fun r27 u28 H locs hp hZ => ?_)
                  obtain ⟨rfl, rfl⟩ := hp
                  have hZ : zz_Z g A s.heap [cw_i g a_stackArray 5 sk1, cw_i g a_stackOther 5 so1, cw_i g a_stackAt 5 at1, cw_i g a_kindOf 60 kd1, cw_i g a_depthOf 60 dp1, cw_i g a_lengthOf 60 ln1, cw_i g a_classOf 60 cl1, cw_i g a_baseOf 60 sa1, cw_l g a_bits 4000 bt1, cw_z g a_pinned 4000 pn1, cw_k7 h0 (nI na1) (nI ne1) a_kindOf a_depthOf a_lengthOf a_classOf a_baseOf a_bits a_pinned 0 a_lengths a_stackArray a_stackOther a_stackAt i_lastArray i_lastPlace a_path a_held a_alike a_hashes (nI nd) a_decisionArray a_decisionPlace a_candidateMany a_candidates (nI nr) a_ruleSort a_ruleArray a_ruleWeight a_ruleLow a_ruleHigh a_chosen a_bestOf (nI nm) a_markElements a_markBits a_markPins] H locs := hZ
                  have hZ : zz_Z g A s.heap [cw_k7 h0 (nI na1) (nI ne1) a_kindOf a_depthOf a_lengthOf a_classOf a_baseOf a_bits a_pinned 0 a_lengths a_stackArray a_stackOther a_stackAt i_lastArray i_lastPlace a_path a_held a_alike a_hashes (nI nd) a_decisionArray a_decisionPlace a_candidateMany a_candidates (nI nr) a_ruleSort a_ruleArray a_ruleWeight a_ruleLow a_ruleHigh a_chosen a_bestOf (nI nm) a_markElements a_markBits a_markPins, cw_i g a_kindOf 60 kd1, cw_i g a_depthOf 60 dp1, cw_i g a_lengthOf 60 ln1, cw_i g a_classOf 60 cl1, cw_i g a_baseOf 60 sa1, cw_l g a_bits 4000 bt1, cw_z g a_pinned 4000 pn1, cw_i g a_stackArray 5 sk1, cw_i g a_stackOther 5 so1, cw_i g a_stackAt 5 at1] H locs := hZ.sub [10, 3, 4, 5, 6, 7, 8, 9, 0, 1, 2] (by decide +kernel) rfl
                  exact zz_iret hC hZ (⟨0, i_lastArray, i_lastPlace, na1, ne1, kd1, dp1, ln1, cl1, sa1, bt1, pn1, sk1, so1, at1, hM1, hG, by rw [sp_dR, if_neg (fun z => c3 (zl_isH (by omega) z)), d1c, eLf, eDf, eRW, if_pos hDF], by rw [if_neg (nI_pos (by omega)), d1c, eSf, eLf, eDf, eRW, hdz, hFI, zl_lev0 hv0 (by omega) c24, sp_tfin], by rw [if_neg (nI_pos (by omega))]; exact hpn, rfl⟩) (Nat.le_of_ble_eq_true rfl) (Nat.le_of_ble_eq_true rfl) dX8_deep_324
                · obtain ⟨K, eK, elev⟩ := zl_lev hv0 c24
                  subst eK
                  have hl : lv_has ls 12 [(4, .long ev), (3, .int mv), (7, .int (nI K)), (6, .int 1), (2, .int (nI na)), (0, .ref h0), (1, .int (nI a1))] := by rw [← elev]; exact hl
                  obtain ⟨i1, i2_, i3, i4, i5⟩ := hI K (by omega)
                  obtain ⟨y1, y2, y3, y4, y5, y6, y7⟩ := hSL (Av K) i2_
                  have hz1 : zz_RS (fun _ => 1) (fun x i => btf (Sf x + i)) Lf dz1 Av av (K + 1) = zz_RS (fun _ => 1) (fun x i => btf (Sf x + i)) Lf dz1 Av av K + zz_rr (fun _ => 1) (fun x i => btf (Sf x + i)) Lf (dz1 - K) (Av K) (av K) := by rw [zz_RS]
                  have hzL : zz_RS Lf (fun x i => btf (Sf x + i)) Lf dz1 Av av (K + 1) = zz_RS Lf (fun x i => btf (Sf x + i)) Lf dz1 Av av K + zz_rr Lf (fun x i => btf (Sf x + i)) Lf (dz1 - K) (Av K) (av K) := by rw [zz_RS]
                  have hzG : zz_SG Lf Av av (K + 1) = zz_SG Lf Av av K + (Lf (Av K) - av K) := by rw [zz_SG]
                  obtain ⟨hg1, hg2, hg3, hg4⟩ := id hG
                  have hna1 := hM1.1.1
                  have hne1 := hM1.1.2.1
                  refine lv_aload_n hx hb dX8_deep_87 rfl (lv_at hl 5 rfl) ?_
                  refine zz_get hC hZ 3 rfl zf_X8_36 rfl dX8_deep_88 ?_
                  refine lv_iload hx hb dX8_deep_91 (lv_at hl 2 rfl) ?_
                  have bd29 : K < 5 := by omega
                  refine zz_ialdn hC hZ 0 rfl bd29 (by decide) dX8_deep_93 ?_
                  refine zz_topi (v := nI (Av K)) (i1) ?_
                  refine lv_istore (lv' := [(8, .int (nI (Av K))), (4, .long ev), (3, .int mv), (7, .int (nI K)), (6, .int 1), (2, .int (nI na)), (0, .ref h0), (1, .int (nI a1))]) hx hb dX8_deep_94 hl (by decide) rfl (fun ls hl => ?_)
                  refine lv_aload_n hx hb dX8_deep_96 rfl (lv_at hl 6 rfl) ?_
                  refine zz_get hC hZ 3 rfl zf_X8_13 rfl dX8_deep_97 ?_
                  refine lv_iload hx hb dX8_deep_100 (lv_at hl 0 rfl) ?_
                  have bd30 : (Av K) < 60 := by omega
                  refine zz_ialdn hC hZ 5 rfl bd30 (by decide) dX8_deep_102 ?_
                  refine zz_topi (v := nI (Df (Av K))) (((hg3 (Av K) i2_).2.2).trans y3) ?_
                  refine lv_iconst (v := 1) hx hb dX8_deep_103 (by decide) ?_
                  have bd32 : (Df (Av K)) < 2 ^ 31 := by omega
                  refine lv_icmp_eq (tgt := 124) hx hb dX8_deep_104 (by decide) (fun c31 => ?_) (fun c31 => ?_)
                  · have nc31 : (Df (Av K)) = 1 := (nI_eq bd32 (by decide)).mp (show nI ((Df (Av K))) = nI (1) from c31)
                    refine lv_iinc (v := (nI K) + (-1)) (lv' := [(7, .int ((nI K) + (-1))), (8, .int (nI (Av K))), (4, .long ev), (3, .int mv), (6, .int 1), (2, .int (nI na)), (0, .ref h0), (1, .int (nI a1))]) hx hb dX8_deep_124 hl (k := 3) rfl (by first | rfl | decide) (by decide) rfl (fun ls hl => ?_)
                    refine lv_goto (tgt := 82) hx hb dX8_deep_127 (by decide) ?_
                    exact ih23 ((nI K) + (-1)) K mv ev Av av Cv na1 ne1 kd1 dp1 ln1 cl1 sa1 bt1 pn1 sk1 so1 at1 H locs ls (rfl) (by omega) (zz_I3_pop hI) (zz_I4_pop hJ) (by omega) (by omega) (hM1) (hG) (hbt) (hFI.trans (sp_tfin_pop (by omega))) (hpn) (hkc) (by omega) hZ (lv_sub hl [2, 3, 0, 4, 5, 6, 7] rfl)
                  · have nc31 : ¬ (Df (Av K)) = 1 := fun zq => c31 (show nI ((Df (Av K))) = nI (1) from (nI_eq bd32 (by decide)).mpr zq)
                    refine lv_aload_n hx hb dX8_deep_107 rfl (lv_at hl 6 rfl) ?_
                    refine zz_get hC hZ 3 rfl zf_X8_42 rfl dX8_deep_108 ?_
                    refine lv_iload hx hb dX8_deep_111 (lv_at hl 3 rfl) ?_
                    refine zz_ialdn hC hZ 2 rfl bd29 (by decide) dX8_deep_113 ?_
                    refine zz_topi (v := nI (av K)) (i4) ?_
                    refine lv_aload_n hx hb dX8_deep_114 rfl (lv_at hl 6 rfl) ?_
                    refine zz_get hC hZ 3 rfl zf_X8_16 rfl dX8_deep_115 ?_
                    refine lv_iload hx hb dX8_deep_118 (lv_at hl 0 rfl) ?_
                    refine zz_ialdn hC hZ 6 rfl bd30 (by decide) dX8_deep_120 ?_
                    refine zz_topi (v := nI (Lf (Av K))) (((hg3 (Av K) i2_).2.1).trans y2) ?_
                    have bd34 : (av K) < 2 ^ 31 := by omega
                    have bd35 : (Lf (Av K)) < 2 ^ 31 := by omega
                    refine lv_icmp_ne (tgt := 130) hx hb dX8_deep_121 (by decide) (fun c33 => ?_) (fun c33 => ?_)
                    · have nc33 : ¬ (av K) = (Lf (Av K)) := fun zq => c33 (show nI ((av K)) = nI ((Lf (Av K))) from (nI_eq bd34 bd35).mpr zq)
                      have hav : av K < Lf (Av K) := by omega
                      have hd2 : 1 < Df (Av K) := by omega
                      refine lv_aload_n hx hb dX8_deep_130 rfl (lv_at hl 6 rfl) ?_
                      refine zz_get hC hZ 3 rfl zf_X8_42 rfl dX8_deep_131 ?_
                      refine lv_iload hx hb dX8_deep_134 (lv_at hl 3 rfl) ?_
                      refine zz_ialdn hC hZ 2 rfl bd29 (by decide) dX8_deep_136 ?_
                      refine zz_topi (v := nI (av K)) (i4) ?_
                      refine lv_istore (lv' := [(9, .int (nI (av K))), (8, .int (nI (Av K))), (4, .long ev), (3, .int mv), (7, .int (nI K)), (6, .int 1), (2, .int (nI na)), (0, .ref h0), (1, .int (nI a1))]) hx hb dX8_deep_137 hl (by decide) rfl (fun ls hl => ?_)
                      refine lv_aload_n hx hb dX8_deep_139 rfl (lv_at hl 7 rfl) ?_
                      refine zz_get hC hZ 3 rfl zf_X8_25 rfl dX8_deep_140 ?_
                      refine lv_aload_n hx hb dX8_deep_143 rfl (lv_at hl 7 rfl) ?_
                      refine zz_get hC hZ 3 rfl zf_X8_22 rfl dX8_deep_144 ?_
                      refine lv_iload hx hb dX8_deep_147 (lv_at hl 1 rfl) ?_
                      refine zz_ialdn hC hZ 8 rfl bd30 (by decide) dX8_deep_149 ?_
                      refine zz_topi (v := nI (Sf (Av K))) (((hg3 (Av K) i2_).1).trans y1) ?_
                      refine lv_iload hx hb dX8_deep_150 (lv_at hl 0 rfl) ?_
                      refine lv_iadd hx hb dX8_deep_152 ?_
                      refine zz_topi (v := nI ((Sf (Av K)) + (av K))) (nI_add _ _) ?_
                      have bd36 : ((Sf (Av K)) + (av K)) < 4000 := by omega
                      refine zz_laldn hC hZ 9 rfl bd36 (by decide) dX8_deep_153 ?_
                      refine lv_l2i hx hb dX8_deep_154 rfl ?_
                      rcases hVR (Av K) i2_ hd2 (av K) hav with hv | ⟨r, hr, hv, hdr⟩
                      · have hq1 := zz_RS_null (w := fun _ => 1) (rw := (fun x i => btf (Sf x + i))) (Lf := Lf) (dz := dz1) (Av := Av) (av := av) (K := K) (by omega) hav hv
                        have hq2 := zz_RS_null (w := Lf) (rw := (fun x i => btf (Sf x + i))) (Lf := Lf) (dz := dz1) (Av := Av) (av := av) (K := K) (by omega) hav hv
                        have hq3 := zz_SG_null (Lf := Lf) (Av := Av) (av := av) (K := K) hav
                        refine zz_topi (v := -1) (by rw [hbt _ (by omega), hv]; decide) ?_
                        refine lv_istore (lv' := [(10, .int (-1)), (9, .int (nI (av K))), (8, .int (nI (Av K))), (4, .long ev), (3, .int mv), (7, .int (nI K)), (6, .int 1), (2, .int (nI na)), (0, .ref h0), (1, .int (nI a1))]) hx hb dX8_deep_155 hl (by decide) rfl (fun ls hl => ?_)
                        refine lv_aload_n hx hb dX8_deep_157 rfl (lv_at hl 8 rfl) ?_
                        refine zz_get hC hZ 3 rfl zf_X8_42 rfl dX8_deep_158 ?_
                        refine lv_iload hx hb dX8_deep_161 (lv_at hl 5 rfl) ?_
                        refine lv_dup2_11 hx hb dX8_deep_163 rfl rfl ?_
                        refine zz_ialdn hC hZ 2 rfl bd29 (by decide) dX8_deep_164 ?_
                        refine zz_topi (v := nI (av K)) (i4) ?_
                        refine lv_iconst (v := 1) hx hb dX8_deep_165 (by decide) ?_
                        refine lv_iadd hx hb dX8_deep_166 ?_
                        refine zz_topi (v := nI ((av K) + 1)) (nI_1 _) ?_
                        refine zz_iastn hC hZ 2 rfl bd29 (by decide) dX8_deep_167 (fun H locs hZ => ?_)
                        have hZ : zz_Z g A s.heap [cw_i g a_stackArray 5 sk1, cw_i g a_stackOther 5 so1, cw_i g a_stackAt 5 (upd at1 K (nI ((av K) + 1))), cw_k7 h0 (nI na1) (nI ne1) a_kindOf a_depthOf a_lengthOf a_classOf a_baseOf a_bits a_pinned i_code a_lengths a_stackArray a_stackOther a_stackAt i_lastArray i_lastPlace a_path a_held a_alike a_hashes (nI nd) a_decisionArray a_decisionPlace a_candidateMany a_candidates (nI nr) a_ruleSort a_ruleArray a_ruleWeight a_ruleLow a_ruleHigh a_chosen a_bestOf (nI nm) a_markElements a_markBits a_markPins, cw_i g a_kindOf 60 kd1, cw_i g a_depthOf 60 dp1, cw_i g a_lengthOf 60 ln1, cw_i g a_classOf 60 cl1, cw_i g a_baseOf 60 sa1, cw_l g a_bits 4000 bt1, cw_z g a_pinned 4000 pn1] H locs := hZ
                        refine lv_iload hx hb dX8_deep_168 (lv_at hl 0 rfl) ?_
                        refine lv_iconst (v := -1) hx hb dX8_deep_170 (by decide) ?_
                        refine lv_icmp_ne (tgt := 177) hx hb dX8_deep_171 (by decide) (fun c => absurd (by decide) c) (fun c37 => ?_)
                        refine lv_goto (tgt := 82) hx hb dX8_deep_174 (by decide) ?_
                        exact ih23 (nI K) (K + 1) mv ev Av (zz_av av K) Cv na1 ne1 kd1 dp1 ln1 cl1 sa1 bt1 pn1 sk1 so1 (upd at1 K (nI ((av K) + 1))) H locs ls ((pk_m1 K).symm) (by omega) (zz_I3_null hI hav) (hJ) (by omega) (by omega) (hM1) (hG) (hbt) (hFI.trans (sp_tfin_null (by omega) hav hv)) (hpn) (hkc) (by omega) hZ (lv_sub hl [3, 4, 5, 6, 7, 8, 9] rfl)
                      · have hq1 := zz_RS_push (w := fun _ => 1) (rw := (fun x i => btf (Sf x + i))) (Lf := Lf) (dz := dz1) (Av := Av) (av := av) (K := K) (by omega) hav hv (by omega)
                        have hq2 := zz_RS_push (w := Lf) (rw := (fun x i => btf (Sf x + i))) (Lf := Lf) (dz := dz1) (Av := Av) (av := av) (K := K) (by omega) hav hv (by omega)
                        have hq3 := zz_SG_push (Lf := Lf) (Av := Av) (av := av) (K := K) (r := r) hav
                        obtain ⟨w1, w2, w3, w4, w5, w6, w7⟩ := hSL r hr
                        refine zz_topi (v := nI r) (by rw [hbt _ (by omega), hv]; exact lN_i r) ?_
                        obtain ⟨B, j1, j2, j3, j4, j5, j6, j7, j8⟩ := hJ K (by omega)
                        refine lv_istore (lv' := [(10, .int (nI r)), (9, .int (nI (av K))), (8, .int (nI (Av K))), (4, .long ev), (3, .int mv), (7, .int (nI K)), (6, .int 1), (2, .int (nI na)), (0, .ref h0), (1, .int (nI a1))]) hx hb dX8_deep_155 hl (by decide) rfl (fun ls hl => ?_)
                        refine lv_aload_n hx hb dX8_deep_157 rfl (lv_at hl 8 rfl) ?_
                        refine zz_get hC hZ 3 rfl zf_X8_42 rfl dX8_deep_158 ?_
                        refine lv_iload hx hb dX8_deep_161 (lv_at hl 5 rfl) ?_
                        refine lv_dup2_11 hx hb dX8_deep_163 rfl rfl ?_
                        refine zz_ialdn hC hZ 2 rfl bd29 (by decide) dX8_deep_164 ?_
                        refine zz_topi (v := nI (av K)) (i4) ?_
                        refine lv_iconst (v := 1) hx hb dX8_deep_165 (by decide) ?_
                        refine lv_iadd hx hb dX8_deep_166 ?_
                        refine zz_topi (v := nI ((av K) + 1)) (nI_1 _) ?_
                        refine zz_iastn hC hZ 2 rfl bd29 (by decide) dX8_deep_167 (fun H locs hZ => ?_)
                        have hZ : zz_Z g A s.heap [cw_i g a_stackArray 5 sk1, cw_i g a_stackOther 5 so1, cw_i g a_stackAt 5 (upd at1 K (nI ((av K) + 1))), cw_k7 h0 (nI na1) (nI ne1) a_kindOf a_depthOf a_lengthOf a_classOf a_baseOf a_bits a_pinned i_code a_lengths a_stackArray a_stackOther a_stackAt i_lastArray i_lastPlace a_path a_held a_alike a_hashes (nI nd) a_decisionArray a_decisionPlace a_candidateMany a_candidates (nI nr) a_ruleSort a_ruleArray a_ruleWeight a_ruleLow a_ruleHigh a_chosen a_bestOf (nI nm) a_markElements a_markBits a_markPins, cw_i g a_kindOf 60 kd1, cw_i g a_depthOf 60 dp1, cw_i g a_lengthOf 60 ln1, cw_i g a_classOf 60 cl1, cw_i g a_baseOf 60 sa1, cw_l g a_bits 4000 bt1, cw_z g a_pinned 4000 pn1] H locs := hZ
                        refine lv_iload hx hb dX8_deep_168 (lv_at hl 0 rfl) ?_
                        refine lv_iconst (v := -1) hx hb dX8_deep_170 (by decide) ?_
                        refine lv_icmp_ne (tgt := 177) hx hb dX8_deep_171 (by decide) (fun c38 => ?_) (fun c => absurd c (zl_rn1 (by omega)))
                        refine lv_iinc (v := mv + 1) (lv' := [(3, .int (mv + 1)), (10, .int (nI r)), (9, .int (nI (av K))), (8, .int (nI (Av K))), (4, .long ev), (7, .int (nI K)), (6, .int 1), (2, .int (nI na)), (0, .ref h0), (1, .int (nI a1))]) hx hb dX8_deep_177 hl (k := 4) rfl (by first | rfl | decide) (by decide) rfl (fun ls hl => ?_)
                        refine lv_lload hx hb dX8_deep_180 (lv_at hl 4 rfl) ?_
                        refine lv_aload_n hx hb dX8_deep_182 rfl (lv_at hl 8 rfl) ?_
                        refine zz_get hC hZ 3 rfl zf_X8_16 rfl dX8_deep_183 ?_
                        refine lv_iload hx hb dX8_deep_186 (lv_at hl 1 rfl) ?_
                        have bd39 : r < 60 := by omega
                        refine zz_ialdn hC hZ 6 rfl bd39 (by decide) dX8_deep_188 ?_
                        refine zz_topi (v := nI (Lf r)) (((hg3 r hr).2.1).trans w2) ?_
                        refine lv_i2l hx hb dX8_deep_189 rfl ?_
                        refine lv_ladd hx hb dX8_deep_190 ?_
                        refine lv_lstore (lv' := [(4, .long (ev + ((nI (Lf r)).toInt64))), (3, .int (mv + 1)), (10, .int (nI r)), (9, .int (nI (av K))), (8, .int (nI (Av K))), (7, .int (nI K)), (6, .int 1), (2, .int (nI na)), (0, .ref h0), (1, .int (nI a1))]) hx hb dX8_deep_191 hl (by decide) rfl (fun ls hl => ?_)
                        refine lv_iload hx hb dX8_deep_193 (lv_at hl 6 rfl) ?_
                        refine lv_if_ne (tgt := 220) hx hb dX8_deep_195 (by decide) (fun c40 => ?_) (fun c => absurd c (by decide))
                        refine lv_iload hx hb dX8_deep_220 (lv_at hl 6 rfl) ?_
                        refine lv_iconst (v := 1) hx hb dX8_deep_222 (by decide) ?_
                        refine lv_icmp_ne (tgt := 268) hx hb dX8_deep_223 (by decide) (fun c => absurd (by decide) c) (fun c41 => ?_)
                        refine lv_aload_n hx hb dX8_deep_226 rfl (lv_at hl 8 rfl) ?_
                        refine lv_iload hx hb dX8_deep_227 (lv_at hl 2 rfl) ?_
                        refine zz_iV (As := [.int (nI r)]) (wc := [cw_k7 h0 (nI na1) (nI ne1) a_kindOf a_depthOf a_lengthOf a_classOf a_baseOf a_bits a_pinned i_code a_lengths a_stackArray a_stackOther a_stackAt i_lastArray i_lastPlace a_path a_held a_alike a_hashes (nI nd) a_decisionArray a_decisionPlace a_candidateMany a_candidates (nI nr) a_ruleSort a_ruleArray a_ruleWeight a_ruleLow a_ruleHigh a_chosen a_bestOf (nI nm) a_markElements a_markBits a_markPins, cw_i g a_kindOf 60 kd1, cw_i g a_depthOf 60 dp1, cw_i g a_lengthOf 60 ln1, cw_i g a_classOf 60 cl1, cw_i g a_baseOf 60 sa1, cw_l g a_bits 4000 bt1, cw_z g a_pinned 4000 pn1]) (wr := [cw_i g a_stackArray 5 sk1, cw_i g a_stackOther 5 so1, cw_i g a_stackAt 5 (upd at1 K (nI ((av K) + 1)))]) (rest := []) hC hZ hs hl zc_X8_236 (cm_copyOne g h0 a_kindOf a_depthOf a_lengthOf a_classOf a_baseOf a_bits a_pinned a_lengths a_stackArray a_stackOther a_stackAt a_path a_held a_alike a_hashes a_decisionArray a_decisionPlace a_candidateMany a_candidates a_ruleSort a_ruleArray a_ruleWeight a_ruleLow a_ruleHigh a_chosen a_bestOf a_markElements a_markBits a_markPins na1 ne1 nd nr nm i_code i_lastArray i_lastPlace kd1 dp1 ln1 cl1 sa1 bt1 pn1 r (Sf r) (Lf r) (Df r) (by omega) (((hg3 r hr).1).trans w1) (((hg3 r hr).2.1).trans w2) (((hg3 r hr).2.2).trans w3) (hM1)) [3, 4, 5, 6, 7, 8, 9, 10] [0, 1, 2] rfl rfl (by decide +kernel) (ci := 7) (q0 := 0) rfl rfl rfl rfl (Nat.le_of_ble_eq_true rfl) ⟨⟨Nat.le_of_ble_eq_true rfl, Nat.le_of_ble_eq_true rfl⟩, Nat.le_of_ble_eq_true rfl, Nat.le_of_ble_eq_true rfl⟩ dX8_deep_229 (fun r42 u43 H locs hp hZ => ?_)
                        obtain ⟨bt2_44, pn2_45, rfl, f46, f47, f48, f49, rfl⟩ := hp
                        have hZ : zz_Z g A s.heap [cw_i g a_stackArray 5 sk1, cw_i g a_stackOther 5 so1, cw_i g a_stackAt 5 (upd at1 K (nI ((av K) + 1))), cw_k7 h0 (nI (na1 + 1)) (nI (ne1 + (Lf r))) a_kindOf a_depthOf a_lengthOf a_classOf a_baseOf a_bits a_pinned i_code a_lengths a_stackArray a_stackOther a_stackAt i_lastArray i_lastPlace a_path a_held a_alike a_hashes (nI nd) a_decisionArray a_decisionPlace a_candidateMany a_candidates (nI nr) a_ruleSort a_ruleArray a_ruleWeight a_ruleLow a_ruleHigh a_chosen a_bestOf (nI nm) a_markElements a_markBits a_markPins, cw_i g a_kindOf 60 (upd kd1 na1 (kd1 r)), cw_i g a_depthOf 60 (upd dp1 na1 (nI (Df r))), cw_i g a_lengthOf 60 (upd ln1 na1 (nI (Lf r))), cw_i g a_classOf 60 (upd cl1 na1 (cl1 r)), cw_i g a_baseOf 60 (upd sa1 na1 (nI ne1)), cw_l g a_bits 4000 bt2_44, cw_z g a_pinned 4000 pn2_45] H locs := hZ
                        refine lv_istore (lv' := [(11, .int (nI na1)), (4, .long (ev + ((nI (Lf r)).toInt64))), (3, .int (mv + 1)), (10, .int (nI r)), (9, .int (nI (av K))), (8, .int (nI (Av K))), (7, .int (nI K)), (6, .int 1), (2, .int (nI na)), (0, .ref h0), (1, .int (nI a1))]) hx hb dX8_deep_232 hl (by decide) rfl (fun ls hl => ?_)
                        refine lv_aload_n hx hb dX8_deep_234 rfl (lv_at hl 9 rfl) ?_
                        refine zz_get hC hZ 3 rfl zf_X8_25 rfl dX8_deep_235 ?_
                        refine lv_aload_n hx hb dX8_deep_238 rfl (lv_at hl 9 rfl) ?_
                        refine zz_get hC hZ 3 rfl zf_X8_22 rfl dX8_deep_239 ?_
                        refine lv_aload_n hx hb dX8_deep_242 rfl (lv_at hl 9 rfl) ?_
                        refine zz_get hC hZ 3 rfl zf_X8_39 rfl dX8_deep_243 ?_
                        refine lv_iload hx hb dX8_deep_246 (lv_at hl 6 rfl) ?_
                        refine zz_ialdn hC hZ 1 rfl bd29 (by decide) dX8_deep_248 ?_
                        refine zz_topi (v := nI B) (j1) ?_
                        have bd50 : B < 60 := by omega
                        refine zz_ialdn hC hZ 8 rfl bd50 (by decide) dX8_deep_249 ?_
                        refine zz_topi (v := nI (Cv K)) ((pk_un (by omega)).trans j4) ?_
                        refine lv_iload hx hb dX8_deep_250 (lv_at hl 4 rfl) ?_
                        refine lv_iadd hx hb dX8_deep_252 ?_
                        refine zz_topi (v := nI ((Cv K) + (av K))) (nI_add _ _) ?_
                        refine lv_iload hx hb dX8_deep_253 (lv_at hl 0 rfl) ?_
                        refine lv_i2l hx hb dX8_deep_255 rfl ?_
                        have bd51 : ((Cv K) + (av K)) < 4000 := by omega
                        refine zz_lastn hC hZ 9 rfl bd51 (by decide) dX8_deep_256 (fun H locs hZ => ?_)
                        have hZ : zz_Z g A s.heap [cw_i g a_stackArray 5 sk1, cw_i g a_stackOther 5 so1, cw_i g a_stackAt 5 (upd at1 K (nI ((av K) + 1))), cw_k7 h0 (nI (na1 + 1)) (nI (ne1 + (Lf r))) a_kindOf a_depthOf a_lengthOf a_classOf a_baseOf a_bits a_pinned i_code a_lengths a_stackArray a_stackOther a_stackAt i_lastArray i_lastPlace a_path a_held a_alike a_hashes (nI nd) a_decisionArray a_decisionPlace a_candidateMany a_candidates (nI nr) a_ruleSort a_ruleArray a_ruleWeight a_ruleLow a_ruleHigh a_chosen a_bestOf (nI nm) a_markElements a_markBits a_markPins, cw_i g a_kindOf 60 (upd kd1 na1 (kd1 r)), cw_i g a_depthOf 60 (upd dp1 na1 (nI (Df r))), cw_i g a_lengthOf 60 (upd ln1 na1 (nI (Lf r))), cw_i g a_classOf 60 (upd cl1 na1 (cl1 r)), cw_i g a_baseOf 60 (upd sa1 na1 (nI ne1)), cw_l g a_bits 4000 (vp_updL bt2_44 ((Cv K) + (av K)) ((nI na1).toInt64)), cw_z g a_pinned 4000 pn2_45] H locs := hZ
                        refine lv_aload_n hx hb dX8_deep_257 rfl (lv_at hl 9 rfl) ?_
                        refine zz_get hC hZ 3 rfl zf_X8_39 rfl dX8_deep_258 ?_
                        refine lv_iload hx hb dX8_deep_261 (lv_at hl 6 rfl) ?_
                        refine lv_iconst (v := 1) hx hb dX8_deep_263 (by decide) ?_
                        refine lv_iadd hx hb dX8_deep_264 ?_
                        refine zz_topi (v := nI (K + 1)) (nI_1 _) ?_
                        refine lv_iload hx hb dX8_deep_265 (lv_at hl 0 rfl) ?_
                        have bd52 : (K + 1) < 5 := by omega
                        refine zz_iastn hC hZ 1 rfl bd52 (by decide) dX8_deep_267 (fun H locs hZ => ?_)
                        have hZ : zz_Z g A s.heap [cw_i g a_stackArray 5 sk1, cw_i g a_stackOther 5 (upd so1 (K + 1) (nI na1)), cw_i g a_stackAt 5 (upd at1 K (nI ((av K) + 1))), cw_k7 h0 (nI (na1 + 1)) (nI (ne1 + (Lf r))) a_kindOf a_depthOf a_lengthOf a_classOf a_baseOf a_bits a_pinned i_code a_lengths a_stackArray a_stackOther a_stackAt i_lastArray i_lastPlace a_path a_held a_alike a_hashes (nI nd) a_decisionArray a_decisionPlace a_candidateMany a_candidates (nI nr) a_ruleSort a_ruleArray a_ruleWeight a_ruleLow a_ruleHigh a_chosen a_bestOf (nI nm) a_markElements a_markBits a_markPins, cw_i g a_kindOf 60 (upd kd1 na1 (kd1 r)), cw_i g a_depthOf 60 (upd dp1 na1 (nI (Df r))), cw_i g a_lengthOf 60 (upd ln1 na1 (nI (Lf r))), cw_i g a_classOf 60 (upd cl1 na1 (cl1 r)), cw_i g a_baseOf 60 (upd sa1 na1 (nI ne1)), cw_l g a_bits 4000 (vp_updL bt2_44 ((Cv K) + (av K)) ((nI na1).toInt64)), cw_z g a_pinned 4000 pn2_45] H locs := hZ
                        refine lv_iinc (v := nI (K + 1)) (lv' := [(7, .int (nI (K + 1))), (11, .int (nI na1)), (4, .long (ev + ((nI (Lf r)).toInt64))), (3, .int (mv + 1)), (10, .int (nI r)), (9, .int (nI (av K))), (8, .int (nI (Av K))), (6, .int 1), (2, .int (nI na)), (0, .ref h0), (1, .int (nI a1))]) hx hb dX8_deep_268 hl (k := 6) rfl (nI_1 _) (by decide) rfl (fun ls hl => ?_)
                        refine lv_aload_n hx hb dX8_deep_271 rfl (lv_at hl 9 rfl) ?_
                        refine zz_get hC hZ 3 rfl zf_X8_36 rfl dX8_deep_272 ?_
                        refine lv_iload hx hb dX8_deep_275 (lv_at hl 0 rfl) ?_
                        refine lv_iload hx hb dX8_deep_277 (lv_at hl 4 rfl) ?_
                        refine zz_iastn hC hZ 0 rfl bd52 (by decide) dX8_deep_279 (fun H locs hZ => ?_)
                        have hZ : zz_Z g A s.heap [cw_i g a_stackArray 5 (upd sk1 (K + 1) (nI r)), cw_i g a_stackOther 5 (upd so1 (K + 1) (nI na1)), cw_i g a_stackAt 5 (upd at1 K (nI ((av K) + 1))), cw_k7 h0 (nI (na1 + 1)) (nI (ne1 + (Lf r))) a_kindOf a_depthOf a_lengthOf a_classOf a_baseOf a_bits a_pinned i_code a_lengths a_stackArray a_stackOther a_stackAt i_lastArray i_lastPlace a_path a_held a_alike a_hashes (nI nd) a_decisionArray a_decisionPlace a_candidateMany a_candidates (nI nr) a_ruleSort a_ruleArray a_ruleWeight a_ruleLow a_ruleHigh a_chosen a_bestOf (nI nm) a_markElements a_markBits a_markPins, cw_i g a_kindOf 60 (upd kd1 na1 (kd1 r)), cw_i g a_depthOf 60 (upd dp1 na1 (nI (Df r))), cw_i g a_lengthOf 60 (upd ln1 na1 (nI (Lf r))), cw_i g a_classOf 60 (upd cl1 na1 (cl1 r)), cw_i g a_baseOf 60 (upd sa1 na1 (nI ne1)), cw_l g a_bits 4000 (vp_updL bt2_44 ((Cv K) + (av K)) ((nI na1).toInt64)), cw_z g a_pinned 4000 pn2_45] H locs := hZ
                        refine lv_aload_n hx hb dX8_deep_280 rfl (lv_at hl 9 rfl) ?_
                        refine zz_get hC hZ 3 rfl zf_X8_42 rfl dX8_deep_281 ?_
                        refine lv_iload hx hb dX8_deep_284 (lv_at hl 0 rfl) ?_
                        refine lv_iconst (v := 0) hx hb dX8_deep_286 (by decide) ?_
                        refine zz_iastn hC hZ 2 rfl bd52 (by decide) dX8_deep_287 (fun H locs hZ => ?_)
                        have hZ : zz_Z g A s.heap [cw_i g a_stackArray 5 (upd sk1 (K + 1) (nI r)), cw_i g a_stackOther 5 (upd so1 (K + 1) (nI na1)), cw_i g a_stackAt 5 (upd (upd at1 K (nI ((av K) + 1))) (K + 1) 0), cw_k7 h0 (nI (na1 + 1)) (nI (ne1 + (Lf r))) a_kindOf a_depthOf a_lengthOf a_classOf a_baseOf a_bits a_pinned i_code a_lengths a_stackArray a_stackOther a_stackAt i_lastArray i_lastPlace a_path a_held a_alike a_hashes (nI nd) a_decisionArray a_decisionPlace a_candidateMany a_candidates (nI nr) a_ruleSort a_ruleArray a_ruleWeight a_ruleLow a_ruleHigh a_chosen a_bestOf (nI nm) a_markElements a_markBits a_markPins, cw_i g a_kindOf 60 (upd kd1 na1 (kd1 r)), cw_i g a_depthOf 60 (upd dp1 na1 (nI (Df r))), cw_i g a_lengthOf 60 (upd ln1 na1 (nI (Lf r))), cw_i g a_classOf 60 (upd cl1 na1 (cl1 r)), cw_i g a_baseOf 60 (upd sa1 na1 (nI ne1)), cw_l g a_bits 4000 (vp_updL bt2_44 ((Cv K) + (av K)) ((nI na1).toInt64)), cw_z g a_pinned 4000 pn2_45] H locs := hZ
                        refine lv_goto (tgt := 82) hx hb dX8_deep_288 (by decide) ?_
                        exact ih23 (nI (K + 1)) (K + 2) (mv + 1) (ev + ((nI (Lf r)).toInt64)) (zz_Av Av K r) (zz_av av K) (zz_Av Cv K ne1) (na1 + 1) (ne1 + (Lf r)) (upd kd1 na1 (kd1 r)) (upd dp1 na1 (nI (Df r))) (upd ln1 na1 (nI (Lf r))) (upd cl1 na1 (cl1 r)) (upd sa1 na1 (nI ne1)) (vp_updL bt2_44 ((Cv K) + (av K)) ((nI na1).toInt64)) pn2_45 (upd sk1 (K + 1) (nI r)) (upd so1 (K + 1) (nI na1)) (upd (upd at1 K (nI ((av K) + 1))) (K + 1) 0) H locs ls ((pk_m1 _).symm) (by omega) (zz_I3_push hI hav hr (by omega)) (zz_I4_push hJ (by omega) (by omega) (by omega)) (by omega) (by omega) (zl_set f46 (show B < na1 + 1 by omega) ((pk_un (by omega)).trans j4) ((pk_un (by omega)).trans j5) ((pk_un (by omega)).trans j6) (by omega) (by omega) (by omega) hav (fun _ => Or.inr ⟨na1, Df r, by omega, nI_l (by omega), pk_us, by omega⟩)) (hG.tr (zz_GW.mk (by omega))) (fun j hj => (pk_uLn (by omega)).trans ((f47 j (by omega)).trans (hbt j hj))) (hFI.trans ((sp_tfin_push (by omega) hav hv (by omega)).trans (by rw [f48, show dz1 - (K + 1) = Df r by omega, nI_l (show na1 < 2 ^ 31 by omega), sp_co, (hkc r hr).1, (hkc r hr).2]; rfl))) (zl_mpA hpn f49 (by omega)) (fun x hx => ⟨(pk_un (by omega)).trans (hkc x hx).1, (pk_un (by omega)).trans (hkc x hx).2⟩) (by omega) hZ (lv_sub hl [2, 3, 0, 7, 8, 9, 10] rfl)
                    · have nc33 : (av K) = (Lf (Av K)) := (nI_eq bd34 bd35).mp (show nI ((av K)) = nI ((Lf (Av K))) from c33)
                      refine lv_iinc (v := (nI K) + (-1)) (lv' := [(7, .int ((nI K) + (-1))), (8, .int (nI (Av K))), (4, .long ev), (3, .int mv), (6, .int 1), (2, .int (nI na)), (0, .ref h0), (1, .int (nI a1))]) hx hb dX8_deep_124 hl (k := 3) rfl (by first | rfl | decide) (by decide) rfl (fun ls hl => ?_)
                      refine lv_goto (tgt := 82) hx hb dX8_deep_127 (by decide) ?_
                      exact ih23 ((nI K) + (-1)) K mv ev Av av Cv na1 ne1 kd1 dp1 ln1 cl1 sa1 bt1 pn1 sk1 so1 at1 H locs ls (rfl) (by omega) (zz_I3_pop hI) (zz_I4_pop hJ) (by omega) (by omega) (hM1) (hG) (hbt) (hFI.trans (sp_tfin_pop (by omega))) (hpn) (hkc) (by omega) hZ (lv_sub hl [2, 3, 0, 4, 5, 6, 7] rfl)
            exact LP23 _ 0 1 (nI (mn + 1)) ((lN el) + ((nI lz1).toInt64)) (fun _ => a1) (fun _ => 0) (fun _ => ne) (na + 1) (ne + (Lf a1)) (upd kdf na (kdf a1)) (upd dpf na (nI dz1)) (upd lnf na (nI (Lf a1))) (upd clf na (clf a1)) (upd saf na (nI ne)) bt2_17 pn2_18 (upd sk1 0 (nI a1)) (upd sof 0 (nI na)) (upd at1 0 0) H locs ls (by decide) (by omega) (zz_I3_init ha1 hdz) (zz_I4_init) (by omega) (by omega) (f19) (zz_GW.mk (by omega)) (f20) (by rw [sp_tfin, sp_tfin, sp_co, f21]) (by rw [f22, Nat.add_sub_cancel_left]) (fun x hx => ⟨pk_un (by omega), pk_un (by omega)⟩) (Nat.lt_succ_self _) hZ (lv_sub hl [0, 1, 2, 3, 4, 5, 6] rfl)
          · refine lv_aload_n hx hb dX8_deep_306 rfl (lv_at hl 5 rfl) ?_
            refine lv_bipush (v := 8) hx hb dX8_deep_307 (by decide) ?_
            refine zz_iV (As := [.int 8]) (wc := [cw_k7 h0 (nI na) (nI ne) a_kindOf a_depthOf a_lengthOf a_classOf a_baseOf a_bits a_pinned i_code a_lengths a_stackArray a_stackOther a_stackAt i_lastArray i_lastPlace a_path a_held a_alike a_hashes (nI nd) a_decisionArray a_decisionPlace a_candidateMany a_candidates (nI nr) a_ruleSort a_ruleArray a_ruleWeight a_ruleLow a_ruleHigh a_chosen a_bestOf (nI nm) a_markElements a_markBits a_markPins]) (wr := [cw_i g a_kindOf 60 kdf, cw_i g a_depthOf 60 dpf, cw_i g a_lengthOf 60 lnf, cw_i g a_classOf 60 clf, cw_i g a_baseOf 60 saf, cw_l g a_bits 4000 btf, cw_z g a_pinned 4000 pnf, cw_i g a_stackArray 5 sk1, cw_i g a_stackOther 5 sof, cw_i g a_stackAt 5 at1]) (rest := []) hC hZ hs hl zc_X8_175 (cm_fails g h0 a_kindOf a_depthOf a_lengthOf a_classOf a_baseOf a_bits a_pinned a_lengths a_stackArray a_stackOther a_stackAt a_path a_held a_alike a_hashes a_decisionArray a_decisionPlace a_candidateMany a_candidates a_ruleSort a_ruleArray a_ruleWeight a_ruleLow a_ruleHigh a_chosen a_bestOf a_markElements a_markBits a_markPins (nI na) (nI ne) i_code i_lastArray i_lastPlace (nI nd) (nI nr) (nI nm) 8) [10] [0, 1, 2, 3, 4, 5, 6, 7, 8, 9] rfl rfl (by decide +kernel) (ci := 7) (q0 := 0) rfl rfl rfl rfl (Nat.le_of_ble_eq_true rfl) ⟨⟨Nat.le_of_ble_eq_true rfl, Nat.le_of_ble_eq_true rfl⟩, Nat.le_of_ble_eq_true rfl, Nat.le_of_ble_eq_true rfl⟩ dX8_deep_309 (fun r53 u54 H locs hp hZ => ?_)
            obtain ⟨rfl, rfl⟩ := hp
            have hZ : zz_Z g A s.heap [cw_i g a_kindOf 60 kdf, cw_i g a_depthOf 60 dpf, cw_i g a_lengthOf 60 lnf, cw_i g a_classOf 60 clf, cw_i g a_baseOf 60 saf, cw_l g a_bits 4000 btf, cw_z g a_pinned 4000 pnf, cw_i g a_stackArray 5 sk1, cw_i g a_stackOther 5 sof, cw_i g a_stackAt 5 at1, cw_k7 h0 (nI na) (nI ne) a_kindOf a_depthOf a_lengthOf a_classOf a_baseOf a_bits a_pinned 8 a_lengths a_stackArray a_stackOther a_stackAt i_lastArray i_lastPlace a_path a_held a_alike a_hashes (nI nd) a_decisionArray a_decisionPlace a_candidateMany a_candidates (nI nr) a_ruleSort a_ruleArray a_ruleWeight a_ruleLow a_ruleHigh a_chosen a_bestOf (nI nm) a_markElements a_markBits a_markPins] H locs := hZ
            have hZ : zz_Z g A s.heap [cw_k7 h0 (nI na) (nI ne) a_kindOf a_depthOf a_lengthOf a_classOf a_baseOf a_bits a_pinned 8 a_lengths a_stackArray a_stackOther a_stackAt i_lastArray i_lastPlace a_path a_held a_alike a_hashes (nI nd) a_decisionArray a_decisionPlace a_candidateMany a_candidates (nI nr) a_ruleSort a_ruleArray a_ruleWeight a_ruleLow a_ruleHigh a_chosen a_bestOf (nI nm) a_markElements a_markBits a_markPins, cw_i g a_kindOf 60 kdf, cw_i g a_depthOf 60 dpf, cw_i g a_lengthOf 60 lnf, cw_i g a_classOf 60 clf, cw_i g a_baseOf 60 saf, cw_l g a_bits 4000 btf, cw_z g a_pinned 4000 pnf, cw_i g a_stackArray 5 sk1, cw_i g a_stackOther 5 sof, cw_i g a_stackAt 5 at1] H locs := hZ.sub [10, 0, 1, 2, 3, 4, 5, 6, 7, 8, 9] (by decide +kernel) rfl
            exact zz_iret hC hZ (⟨8, i_lastArray, i_lastPlace, na, ne, kdf, dpf, lnf, clf, saf, btf, pnf, sk1, sof, at1, h_M, zz_GW.rf, by rw [sp_dR, if_neg (fun z => c3 (zl_isH (by omega) z)), d1c, eLf, eDf, eRW, if_neg (zl_dN1 hna hne hdz hmn hel hv3 hv4 (zl_lev0 hv0 (by omega) c8) c12)], by rw [if_pos (by decide)], by rw [if_pos (by decide)], rfl⟩) (Nat.le_of_ble_eq_true rfl) (Nat.le_of_ble_eq_true rfl) dX8_deep_312
        · obtain ⟨K, eK, elev⟩ := zl_lev hv0 c8
          subst eK
          have hl : lv_has ls 12 [(4, .long (lN el)), (3, .int (nI mn)), (7, .int (nI K)), (6, .int 0), (2, .int (nI na)), (0, .ref h0), (1, .int (nI a1))] := by rw [← elev]; exact hl
          obtain ⟨i1, i2_, i3, i4, i5⟩ := hI K (by omega)
          obtain ⟨y1, y2, y3, y4, y5, y6, y7⟩ := hSL (Av K) i2_
          have hz1 : zz_RS (fun _ => 1) (fun x i => btf (Sf x + i)) Lf dz1 Av av (K + 1) = zz_RS (fun _ => 1) (fun x i => btf (Sf x + i)) Lf dz1 Av av K + zz_rr (fun _ => 1) (fun x i => btf (Sf x + i)) Lf (dz1 - K) (Av K) (av K) := by rw [zz_RS]
          have hzL : zz_RS Lf (fun x i => btf (Sf x + i)) Lf dz1 Av av (K + 1) = zz_RS Lf (fun x i => btf (Sf x + i)) Lf dz1 Av av K + zz_rr Lf (fun x i => btf (Sf x + i)) Lf (dz1 - K) (Av K) (av K) := by rw [zz_RS]
          have hzG : zz_SG Lf Av av (K + 1) = zz_SG Lf Av av K + (Lf (Av K) - av K) := by rw [zz_SG]
          refine lv_aload_n hx hb dX8_deep_87 rfl (lv_at hl 5 rfl) ?_
          refine zz_get hC hZ 10 rfl zf_X8_36 rfl dX8_deep_88 ?_
          refine lv_iload hx hb dX8_deep_91 (lv_at hl 2 rfl) ?_
          have bd55 : K < 5 := by omega
          refine zz_ialdn hC hZ 7 rfl bd55 (by decide) dX8_deep_93 ?_
          refine zz_topi (v := nI (Av K)) (i1) ?_
          refine lv_istore (lv' := [(8, .int (nI (Av K))), (4, .long (lN el)), (3, .int (nI mn)), (7, .int (nI K)), (6, .int 0), (2, .int (nI na)), (0, .ref h0), (1, .int (nI a1))]) hx hb dX8_deep_94 hl (by decide) rfl (fun ls hl => ?_)
          refine lv_aload_n hx hb dX8_deep_96 rfl (lv_at hl 6 rfl) ?_
          refine zz_get hC hZ 10 rfl zf_X8_13 rfl dX8_deep_97 ?_
          refine lv_iload hx hb dX8_deep_100 (lv_at hl 0 rfl) ?_
          have bd56 : (Av K) < 60 := by omega
          refine zz_ialdn hC hZ 1 rfl bd56 (by decide) dX8_deep_102 ?_
          refine zz_topi (v := nI (Df (Av K))) (y3) ?_
          refine lv_iconst (v := 1) hx hb dX8_deep_103 (by decide) ?_
          have bd58 : (Df (Av K)) < 2 ^ 31 := by omega
          refine lv_icmp_eq (tgt := 124) hx hb dX8_deep_104 (by decide) (fun c57 => ?_) (fun c57 => ?_)
          · have nc57 : (Df (Av K)) = 1 := (nI_eq bd58 (by decide)).mp (show nI ((Df (Av K))) = nI (1) from c57)
            refine lv_iinc (v := (nI K) + (-1)) (lv' := [(7, .int ((nI K) + (-1))), (8, .int (nI (Av K))), (4, .long (lN el)), (3, .int (nI mn)), (6, .int 0), (2, .int (nI na)), (0, .ref h0), (1, .int (nI a1))]) hx hb dX8_deep_124 hl (k := 3) rfl (by first | rfl | decide) (by decide) rfl (fun ls hl => ?_)
            refine lv_goto (tgt := 82) hx hb dX8_deep_127 (by decide) ?_
            have hr10 := zz_rr0 (w := fun _ => 1) (rw := (fun x i => btf (Sf x + i))) (Lf := Lf) (f := dz1 - K) (x := Av K) (k := av K) (by omega)
            have hr2 := zz_rr0 (w := Lf) (rw := (fun x i => btf (Sf x + i))) (Lf := Lf) (f := dz1 - K) (x := Av K) (k := av K) (by omega)
            exact ih7 ((nI K) + (-1)) K mn el Av av sk1 at1 H locs ls (rfl) (by omega) (zz_I3_pop hI) (by omega) (by omega) (by omega) (by omega) (by omega) hZ (lv_sub hl [2, 3, 0, 4, 5, 6, 7] rfl)
          · have nc57 : ¬ (Df (Av K)) = 1 := fun zq => c57 (show nI ((Df (Av K))) = nI (1) from (nI_eq bd58 (by decide)).mpr zq)
            refine lv_aload_n hx hb dX8_deep_107 rfl (lv_at hl 6 rfl) ?_
            refine zz_get hC hZ 10 rfl zf_X8_42 rfl dX8_deep_108 ?_
            refine lv_iload hx hb dX8_deep_111 (lv_at hl 3 rfl) ?_
            refine zz_ialdn hC hZ 9 rfl bd55 (by decide) dX8_deep_113 ?_
            refine zz_topi (v := nI (av K)) (i4) ?_
            refine lv_aload_n hx hb dX8_deep_114 rfl (lv_at hl 6 rfl) ?_
            refine zz_get hC hZ 10 rfl zf_X8_16 rfl dX8_deep_115 ?_
            refine lv_iload hx hb dX8_deep_118 (lv_at hl 0 rfl) ?_
            refine zz_ialdn hC hZ 2 rfl bd56 (by decide) dX8_deep_120 ?_
            refine zz_topi (v := nI (Lf (Av K))) (y2) ?_
            have bd60 : (av K) < 2 ^ 31 := by omega
            have bd61 : (Lf (Av K)) < 2 ^ 31 := by omega
            refine lv_icmp_ne (tgt := 130) hx hb dX8_deep_121 (by decide) (fun c59 => ?_) (fun c59 => ?_)
            · have nc59 : ¬ (av K) = (Lf (Av K)) := fun zq => c59 (show nI ((av K)) = nI ((Lf (Av K))) from (nI_eq bd60 bd61).mpr zq)
              have hav : av K < Lf (Av K) := by omega
              have hd2 : 1 < Df (Av K) := by omega
              refine lv_aload_n hx hb dX8_deep_130 rfl (lv_at hl 6 rfl) ?_
              refine zz_get hC hZ 10 rfl zf_X8_42 rfl dX8_deep_131 ?_
              refine lv_iload hx hb dX8_deep_134 (lv_at hl 3 rfl) ?_
              refine zz_ialdn hC hZ 9 rfl bd55 (by decide) dX8_deep_136 ?_
              refine zz_topi (v := nI (av K)) (i4) ?_
              refine lv_istore (lv' := [(9, .int (nI (av K))), (8, .int (nI (Av K))), (4, .long (lN el)), (3, .int (nI mn)), (7, .int (nI K)), (6, .int 0), (2, .int (nI na)), (0, .ref h0), (1, .int (nI a1))]) hx hb dX8_deep_137 hl (by decide) rfl (fun ls hl => ?_)
              refine lv_aload_n hx hb dX8_deep_139 rfl (lv_at hl 7 rfl) ?_
              refine zz_get hC hZ 10 rfl zf_X8_25 rfl dX8_deep_140 ?_
              refine lv_aload_n hx hb dX8_deep_143 rfl (lv_at hl 7 rfl) ?_
              refine zz_get hC hZ 10 rfl zf_X8_22 rfl dX8_deep_144 ?_
              refine lv_iload hx hb dX8_deep_147 (lv_at hl 1 rfl) ?_
              refine zz_ialdn hC hZ 4 rfl bd56 (by decide) dX8_deep_149 ?_
              refine zz_topi (v := nI (Sf (Av K))) (y1) ?_
              refine lv_iload hx hb dX8_deep_150 (lv_at hl 0 rfl) ?_
              refine lv_iadd hx hb dX8_deep_152 ?_
              refine zz_topi (v := nI ((Sf (Av K)) + (av K))) (nI_add _ _) ?_
              have bd62 : ((Sf (Av K)) + (av K)) < 4000 := by omega
              refine zz_laldn hC hZ 5 rfl bd62 (by decide) dX8_deep_153 ?_
              refine lv_l2i hx hb dX8_deep_154 rfl ?_
              rcases hVR (Av K) i2_ hd2 (av K) hav with hv | ⟨r, hr, hv, hdr⟩
              · have hq1 := zz_RS_null (w := fun _ => 1) (rw := (fun x i => btf (Sf x + i))) (Lf := Lf) (dz := dz1) (Av := Av) (av := av) (K := K) (by omega) hav hv
                have hq2 := zz_RS_null (w := Lf) (rw := (fun x i => btf (Sf x + i))) (Lf := Lf) (dz := dz1) (Av := Av) (av := av) (K := K) (by omega) hav hv
                have hq3 := zz_SG_null (Lf := Lf) (Av := Av) (av := av) (K := K) hav
                refine zz_topi (v := -1) (by rw [hv]; decide) ?_
                refine lv_istore (lv' := [(10, .int (-1)), (9, .int (nI (av K))), (8, .int (nI (Av K))), (4, .long (lN el)), (3, .int (nI mn)), (7, .int (nI K)), (6, .int 0), (2, .int (nI na)), (0, .ref h0), (1, .int (nI a1))]) hx hb dX8_deep_155 hl (by decide) rfl (fun ls hl => ?_)
                refine lv_aload_n hx hb dX8_deep_157 rfl (lv_at hl 8 rfl) ?_
                refine zz_get hC hZ 10 rfl zf_X8_42 rfl dX8_deep_158 ?_
                refine lv_iload hx hb dX8_deep_161 (lv_at hl 5 rfl) ?_
                refine lv_dup2_11 hx hb dX8_deep_163 rfl rfl ?_
                refine zz_ialdn hC hZ 9 rfl bd55 (by decide) dX8_deep_164 ?_
                refine zz_topi (v := nI (av K)) (i4) ?_
                refine lv_iconst (v := 1) hx hb dX8_deep_165 (by decide) ?_
                refine lv_iadd hx hb dX8_deep_166 ?_
                refine zz_topi (v := nI ((av K) + 1)) (nI_1 _) ?_
                refine zz_iastn hC hZ 9 rfl bd55 (by decide) dX8_deep_167 (fun H locs hZ => ?_)
                have hZ : zz_Z g A s.heap [cw_i g a_kindOf 60 kdf, cw_i g a_depthOf 60 dpf, cw_i g a_lengthOf 60 lnf, cw_i g a_classOf 60 clf, cw_i g a_baseOf 60 saf, cw_l g a_bits 4000 btf, cw_z g a_pinned 4000 pnf, cw_i g a_stackArray 5 sk1, cw_i g a_stackOther 5 sof, cw_i g a_stackAt 5 (upd at1 K (nI ((av K) + 1))), cw_k7 h0 (nI na) (nI ne) a_kindOf a_depthOf a_lengthOf a_classOf a_baseOf a_bits a_pinned i_code a_lengths a_stackArray a_stackOther a_stackAt i_lastArray i_lastPlace a_path a_held a_alike a_hashes (nI nd) a_decisionArray a_decisionPlace a_candidateMany a_candidates (nI nr) a_ruleSort a_ruleArray a_ruleWeight a_ruleLow a_ruleHigh a_chosen a_bestOf (nI nm) a_markElements a_markBits a_markPins] H locs := hZ
                refine lv_iload hx hb dX8_deep_168 (lv_at hl 0 rfl) ?_
                refine lv_iconst (v := -1) hx hb dX8_deep_170 (by decide) ?_
                refine lv_icmp_ne (tgt := 177) hx hb dX8_deep_171 (by decide) (fun c => absurd (by decide) c) (fun c63 => ?_)
                refine lv_goto (tgt := 82) hx hb dX8_deep_174 (by decide) ?_
                exact ih7 (nI K) (K + 1) mn el Av (zz_av av K) sk1 (upd at1 K (nI ((av K) + 1))) H locs ls ((pk_m1 K).symm) (by omega) (zz_I3_null hI hav) (by omega) (by omega) (by omega) (by omega) (by omega) hZ (lv_sub hl [3, 4, 5, 6, 7, 8, 9] rfl)
              · have hq1 := zz_RS_push (w := fun _ => 1) (rw := (fun x i => btf (Sf x + i))) (Lf := Lf) (dz := dz1) (Av := Av) (av := av) (K := K) (by omega) hav hv (by omega)
                have hq2 := zz_RS_push (w := Lf) (rw := (fun x i => btf (Sf x + i))) (Lf := Lf) (dz := dz1) (Av := Av) (av := av) (K := K) (by omega) hav hv (by omega)
                have hq3 := zz_SG_push (Lf := Lf) (Av := Av) (av := av) (K := K) (r := r) hav
                obtain ⟨w1, w2, w3, w4, w5, w6, w7⟩ := hSL r hr
                refine zz_topi (v := nI r) (by rw [hv]; exact lN_i r) ?_
                refine lv_istore (lv' := [(10, .int (nI r)), (9, .int (nI (av K))), (8, .int (nI (Av K))), (4, .long (lN el)), (3, .int (nI mn)), (7, .int (nI K)), (6, .int 0), (2, .int (nI na)), (0, .ref h0), (1, .int (nI a1))]) hx hb dX8_deep_155 hl (by decide) rfl (fun ls hl => ?_)
                refine lv_aload_n hx hb dX8_deep_157 rfl (lv_at hl 8 rfl) ?_
                refine zz_get hC hZ 10 rfl zf_X8_42 rfl dX8_deep_158 ?_
                refine lv_iload hx hb dX8_deep_161 (lv_at hl 5 rfl) ?_
                refine lv_dup2_11 hx hb dX8_deep_163 rfl rfl ?_
                refine zz_ialdn hC hZ 9 rfl bd55 (by decide) dX8_deep_164 ?_
                refine zz_topi (v := nI (av K)) (i4) ?_
                refine lv_iconst (v := 1) hx hb dX8_deep_165 (by decide) ?_
                refine lv_iadd hx hb dX8_deep_166 ?_
                refine zz_topi (v := nI ((av K) + 1)) (nI_1 _) ?_
                refine zz_iastn hC hZ 9 rfl bd55 (by decide) dX8_deep_167 (fun H locs hZ => ?_)
                have hZ : zz_Z g A s.heap [cw_i g a_kindOf 60 kdf, cw_i g a_depthOf 60 dpf, cw_i g a_lengthOf 60 lnf, cw_i g a_classOf 60 clf, cw_i g a_baseOf 60 saf, cw_l g a_bits 4000 btf, cw_z g a_pinned 4000 pnf, cw_i g a_stackArray 5 sk1, cw_i g a_stackOther 5 sof, cw_i g a_stackAt 5 (upd at1 K (nI ((av K) + 1))), cw_k7 h0 (nI na) (nI ne) a_kindOf a_depthOf a_lengthOf a_classOf a_baseOf a_bits a_pinned i_code a_lengths a_stackArray a_stackOther a_stackAt i_lastArray i_lastPlace a_path a_held a_alike a_hashes (nI nd) a_decisionArray a_decisionPlace a_candidateMany a_candidates (nI nr) a_ruleSort a_ruleArray a_ruleWeight a_ruleLow a_ruleHigh a_chosen a_bestOf (nI nm) a_markElements a_markBits a_markPins] H locs := hZ
                refine lv_iload hx hb dX8_deep_168 (lv_at hl 0 rfl) ?_
                refine lv_iconst (v := -1) hx hb dX8_deep_170 (by decide) ?_
                refine lv_icmp_ne (tgt := 177) hx hb dX8_deep_171 (by decide) (fun c64 => ?_) (fun c => absurd c (zl_rn1 (by omega)))
                refine lv_iinc (v := nI (mn + 1)) (lv' := [(3, .int (nI (mn + 1))), (10, .int (nI r)), (9, .int (nI (av K))), (8, .int (nI (Av K))), (4, .long (lN el)), (7, .int (nI K)), (6, .int 0), (2, .int (nI na)), (0, .ref h0), (1, .int (nI a1))]) hx hb dX8_deep_177 hl (k := 4) rfl (nI_1 _) (by decide) rfl (fun ls hl => ?_)
                refine lv_lload hx hb dX8_deep_180 (lv_at hl 4 rfl) ?_
                refine lv_aload_n hx hb dX8_deep_182 rfl (lv_at hl 8 rfl) ?_
                refine zz_get hC hZ 10 rfl zf_X8_16 rfl dX8_deep_183 ?_
                refine lv_iload hx hb dX8_deep_186 (lv_at hl 1 rfl) ?_
                have bd65 : r < 60 := by omega
                refine zz_ialdn hC hZ 2 rfl bd65 (by decide) dX8_deep_188 ?_
                refine zz_topi (v := nI (Lf r)) (w2) ?_
                refine lv_i2l hx hb dX8_deep_189 rfl ?_
                refine lv_ladd hx hb dX8_deep_190 ?_
                refine zz_topl (v := lN (el + Lf r)) (by rw [nI_l (show Lf r < 2 ^ 31 by omega), lN_add]) ?_
                refine lv_lstore (lv' := [(4, .long (lN (el + Lf r))), (3, .int (nI (mn + 1))), (10, .int (nI r)), (9, .int (nI (av K))), (8, .int (nI (Av K))), (7, .int (nI K)), (6, .int 0), (2, .int (nI na)), (0, .ref h0), (1, .int (nI a1))]) hx hb dX8_deep_191 hl (by decide) rfl (fun ls hl => ?_)
                refine lv_iload hx hb dX8_deep_193 (lv_at hl 6 rfl) ?_
                refine lv_if_ne (tgt := 220) hx hb dX8_deep_195 (by decide) (fun c => absurd (by decide) c) (fun c66 => ?_)
                refine lv_iload_n hx hb dX8_deep_198 rfl (lv_at hl 1 rfl) ?_
                refine lv_bipush (v := 60) hx hb dX8_deep_199 (by decide) ?_
                have bd68 : (mn + 1) < 2 ^ 31 := by omega
                refine lv_icmp_gt (tgt := 213) hx hb dX8_deep_201 (by decide) (fun c67 => ?_) (fun c67 => ?_)
                · have nc67 : 60 < (mn + 1) := (nI_ltI (by decide) bd68).mp (show nI (60) < nI ((mn + 1)) from c67)
                  refine lv_aload_n hx hb dX8_deep_213 rfl (lv_at hl 8 rfl) ?_
                  refine lv_bipush (v := 8) hx hb dX8_deep_214 (by decide) ?_
                  refine zz_iV (As := [.int 8]) (wc := [cw_k7 h0 (nI na) (nI ne) a_kindOf a_depthOf a_lengthOf a_classOf a_baseOf a_bits a_pinned i_code a_lengths a_stackArray a_stackOther a_stackAt i_lastArray i_lastPlace a_path a_held a_alike a_hashes (nI nd) a_decisionArray a_decisionPlace a_candidateMany a_candidates (nI nr) a_ruleSort a_ruleArray a_ruleWeight a_ruleLow a_ruleHigh a_chosen a_bestOf (nI nm) a_markElements a_markBits a_markPins]) (wr := [cw_i g a_kindOf 60 kdf, cw_i g a_depthOf 60 dpf, cw_i g a_lengthOf 60 lnf, cw_i g a_classOf 60 clf, cw_i g a_baseOf 60 saf, cw_l g a_bits 4000 btf, cw_z g a_pinned 4000 pnf, cw_i g a_stackArray 5 sk1, cw_i g a_stackOther 5 sof, cw_i g a_stackAt 5 (upd at1 K (nI ((av K) + 1)))]) (rest := []) hC hZ hs hl zc_X8_175 (cm_fails g h0 a_kindOf a_depthOf a_lengthOf a_classOf a_baseOf a_bits a_pinned a_lengths a_stackArray a_stackOther a_stackAt a_path a_held a_alike a_hashes a_decisionArray a_decisionPlace a_candidateMany a_candidates a_ruleSort a_ruleArray a_ruleWeight a_ruleLow a_ruleHigh a_chosen a_bestOf a_markElements a_markBits a_markPins (nI na) (nI ne) i_code i_lastArray i_lastPlace (nI nd) (nI nr) (nI nm) 8) [10] [0, 1, 2, 3, 4, 5, 6, 7, 8, 9] rfl rfl (by decide +kernel) (ci := 7) (q0 := 0) rfl rfl rfl rfl (Nat.le_of_ble_eq_true rfl) ⟨⟨Nat.le_of_ble_eq_true rfl, Nat.le_of_ble_eq_true rfl⟩, Nat.le_of_ble_eq_true rfl, Nat.le_of_ble_eq_true rfl⟩ dX8_deep_216 (fun r69 u70 H locs hp hZ => ?_)
                  obtain ⟨rfl, rfl⟩ := hp
                  have hZ : zz_Z g A s.heap [cw_i g a_kindOf 60 kdf, cw_i g a_depthOf 60 dpf, cw_i g a_lengthOf 60 lnf, cw_i g a_classOf 60 clf, cw_i g a_baseOf 60 saf, cw_l g a_bits 4000 btf, cw_z g a_pinned 4000 pnf, cw_i g a_stackArray 5 sk1, cw_i g a_stackOther 5 sof, cw_i g a_stackAt 5 (upd at1 K (nI ((av K) + 1))), cw_k7 h0 (nI na) (nI ne) a_kindOf a_depthOf a_lengthOf a_classOf a_baseOf a_bits a_pinned 8 a_lengths a_stackArray a_stackOther a_stackAt i_lastArray i_lastPlace a_path a_held a_alike a_hashes (nI nd) a_decisionArray a_decisionPlace a_candidateMany a_candidates (nI nr) a_ruleSort a_ruleArray a_ruleWeight a_ruleLow a_ruleHigh a_chosen a_bestOf (nI nm) a_markElements a_markBits a_markPins] H locs := hZ
                  have hZ : zz_Z g A s.heap [cw_k7 h0 (nI na) (nI ne) a_kindOf a_depthOf a_lengthOf a_classOf a_baseOf a_bits a_pinned 8 a_lengths a_stackArray a_stackOther a_stackAt i_lastArray i_lastPlace a_path a_held a_alike a_hashes (nI nd) a_decisionArray a_decisionPlace a_candidateMany a_candidates (nI nr) a_ruleSort a_ruleArray a_ruleWeight a_ruleLow a_ruleHigh a_chosen a_bestOf (nI nm) a_markElements a_markBits a_markPins, cw_i g a_kindOf 60 kdf, cw_i g a_depthOf 60 dpf, cw_i g a_lengthOf 60 lnf, cw_i g a_classOf 60 clf, cw_i g a_baseOf 60 saf, cw_l g a_bits 4000 btf, cw_z g a_pinned 4000 pnf, cw_i g a_stackArray 5 sk1, cw_i g a_stackOther 5 sof, cw_i g a_stackAt 5 (upd at1 K (nI ((av K) + 1)))] H locs := hZ.sub [10, 0, 1, 2, 3, 4, 5, 6, 7, 8, 9] (by decide +kernel) rfl
                  exact zz_iret hC hZ (⟨8, i_lastArray, i_lastPlace, na, ne, kdf, dpf, lnf, clf, saf, btf, pnf, sk1, sof, (upd at1 K (nI ((av K) + 1))), h_M, zz_GW.rf, by rw [sp_dR, if_neg (fun z => c3 (zl_isH (by omega) z)), d1c, eLf, eDf, eRW, if_neg (fun z => by have z1 := z.1; have z2 := z.2; rw [hdz] at z1 z2; have hbg := nc67; omega)], by rw [if_pos (by decide)], by rw [if_pos (by decide)], rfl⟩) (Nat.le_of_ble_eq_true rfl) (Nat.le_of_ble_eq_true rfl) dX8_deep_219
                · have nc67 : ¬ 60 < (mn + 1) := fun zq => c67 (show nI (60) < nI ((mn + 1)) from (nI_ltI (by decide) bd68).mpr zq)
                  refine lv_lload hx hb dX8_deep_204 (lv_at hl 0 rfl) ?_
                  refine lv_ldc2 hx hb hown (hts _ zk_878) dX8_deep_206 ?_
                  refine zz_lcmp_le (tgt := 220) hC dX8_deep_209 dX8_deep_210 (by decide) (fun c71 => ?_) (fun c71 => ?_)
                  · have hel2 : el + Lf r ≤ 4000 := zl_lle (by omega) c71
                    refine lv_iload hx hb dX8_deep_220 (lv_at hl 6 rfl) ?_
                    refine lv_iconst (v := 1) hx hb dX8_deep_222 (by decide) ?_
                    refine lv_icmp_ne (tgt := 268) hx hb dX8_deep_223 (by decide) (fun c72 => ?_) (fun c => absurd c (by decide))
                    refine lv_iinc (v := nI (K + 1)) (lv' := [(7, .int (nI (K + 1))), (4, .long (lN (el + Lf r))), (3, .int (nI (mn + 1))), (10, .int (nI r)), (9, .int (nI (av K))), (8, .int (nI (Av K))), (6, .int 0), (2, .int (nI na)), (0, .ref h0), (1, .int (nI a1))]) hx hb dX8_deep_268 hl (k := 5) rfl (nI_1 _) (by decide) rfl (fun ls hl => ?_)
                    refine lv_aload_n hx hb dX8_deep_271 rfl (lv_at hl 8 rfl) ?_
                    refine zz_get hC hZ 10 rfl zf_X8_36 rfl dX8_deep_272 ?_
                    refine lv_iload hx hb dX8_deep_275 (lv_at hl 0 rfl) ?_
                    refine lv_iload hx hb dX8_deep_277 (lv_at hl 3 rfl) ?_
                    have bd73 : (K + 1) < 5 := by omega
                    refine zz_iastn hC hZ 7 rfl bd73 (by decide) dX8_deep_279 (fun H locs hZ => ?_)
                    have hZ : zz_Z g A s.heap [cw_i g a_kindOf 60 kdf, cw_i g a_depthOf 60 dpf, cw_i g a_lengthOf 60 lnf, cw_i g a_classOf 60 clf, cw_i g a_baseOf 60 saf, cw_l g a_bits 4000 btf, cw_z g a_pinned 4000 pnf, cw_i g a_stackArray 5 (upd sk1 (K + 1) (nI r)), cw_i g a_stackOther 5 sof, cw_i g a_stackAt 5 (upd at1 K (nI ((av K) + 1))), cw_k7 h0 (nI na) (nI ne) a_kindOf a_depthOf a_lengthOf a_classOf a_baseOf a_bits a_pinned i_code a_lengths a_stackArray a_stackOther a_stackAt i_lastArray i_lastPlace a_path a_held a_alike a_hashes (nI nd) a_decisionArray a_decisionPlace a_candidateMany a_candidates (nI nr) a_ruleSort a_ruleArray a_ruleWeight a_ruleLow a_ruleHigh a_chosen a_bestOf (nI nm) a_markElements a_markBits a_markPins] H locs := hZ
                    refine lv_aload_n hx hb dX8_deep_280 rfl (lv_at hl 8 rfl) ?_
                    refine zz_get hC hZ 10 rfl zf_X8_42 rfl dX8_deep_281 ?_
                    refine lv_iload hx hb dX8_deep_284 (lv_at hl 0 rfl) ?_
                    refine lv_iconst (v := 0) hx hb dX8_deep_286 (by decide) ?_
                    refine zz_iastn hC hZ 9 rfl bd73 (by decide) dX8_deep_287 (fun H locs hZ => ?_)
                    have hZ : zz_Z g A s.heap [cw_i g a_kindOf 60 kdf, cw_i g a_depthOf 60 dpf, cw_i g a_lengthOf 60 lnf, cw_i g a_classOf 60 clf, cw_i g a_baseOf 60 saf, cw_l g a_bits 4000 btf, cw_z g a_pinned 4000 pnf, cw_i g a_stackArray 5 (upd sk1 (K + 1) (nI r)), cw_i g a_stackOther 5 sof, cw_i g a_stackAt 5 (upd (upd at1 K (nI ((av K) + 1))) (K + 1) 0), cw_k7 h0 (nI na) (nI ne) a_kindOf a_depthOf a_lengthOf a_classOf a_baseOf a_bits a_pinned i_code a_lengths a_stackArray a_stackOther a_stackAt i_lastArray i_lastPlace a_path a_held a_alike a_hashes (nI nd) a_decisionArray a_decisionPlace a_candidateMany a_candidates (nI nr) a_ruleSort a_ruleArray a_ruleWeight a_ruleLow a_ruleHigh a_chosen a_bestOf (nI nm) a_markElements a_markBits a_markPins] H locs := hZ
                    refine lv_goto (tgt := 82) hx hb dX8_deep_288 (by decide) ?_
                    exact ih7 (nI (K + 1)) (K + 2) (mn + 1) (el + Lf r) (zz_Av Av K r) (zz_av av K) (upd sk1 (K + 1) (nI r)) (upd (upd at1 K (nI ((av K) + 1))) (K + 1) 0) H locs ls ((pk_m1 _).symm) (by omega) (zz_I3_push hI hav hr (by omega)) (by omega) (by omega) (by omega) (by omega) (by omega) hZ (lv_sub hl [1, 2, 0, 6, 7, 8, 9] rfl)
                  · refine lv_aload_n hx hb dX8_deep_213 rfl (lv_at hl 8 rfl) ?_
                    refine lv_bipush (v := 8) hx hb dX8_deep_214 (by decide) ?_
                    refine zz_iV (As := [.int 8]) (wc := [cw_k7 h0 (nI na) (nI ne) a_kindOf a_depthOf a_lengthOf a_classOf a_baseOf a_bits a_pinned i_code a_lengths a_stackArray a_stackOther a_stackAt i_lastArray i_lastPlace a_path a_held a_alike a_hashes (nI nd) a_decisionArray a_decisionPlace a_candidateMany a_candidates (nI nr) a_ruleSort a_ruleArray a_ruleWeight a_ruleLow a_ruleHigh a_chosen a_bestOf (nI nm) a_markElements a_markBits a_markPins]) (wr := [cw_i g a_kindOf 60 kdf, cw_i g a_depthOf 60 dpf, cw_i g a_lengthOf 60 lnf, cw_i g a_classOf 60 clf, cw_i g a_baseOf 60 saf, cw_l g a_bits 4000 btf, cw_z g a_pinned 4000 pnf, cw_i g a_stackArray 5 sk1, cw_i g a_stackOther 5 sof, cw_i g a_stackAt 5 (upd at1 K (nI ((av K) + 1)))]) (rest := []) hC hZ hs hl zc_X8_175 (cm_fails g h0 a_kindOf a_depthOf a_lengthOf a_classOf a_baseOf a_bits a_pinned a_lengths a_stackArray a_stackOther a_stackAt a_path a_held a_alike a_hashes a_decisionArray a_decisionPlace a_candidateMany a_candidates a_ruleSort a_ruleArray a_ruleWeight a_ruleLow a_ruleHigh a_chosen a_bestOf a_markElements a_markBits a_markPins (nI na) (nI ne) i_code i_lastArray i_lastPlace (nI nd) (nI nr) (nI nm) 8) [10] [0, 1, 2, 3, 4, 5, 6, 7, 8, 9] rfl rfl (by decide +kernel) (ci := 7) (q0 := 0) rfl rfl rfl rfl (Nat.le_of_ble_eq_true rfl) ⟨⟨Nat.le_of_ble_eq_true rfl, Nat.le_of_ble_eq_true rfl⟩, Nat.le_of_ble_eq_true rfl, Nat.le_of_ble_eq_true rfl⟩ dX8_deep_216 (fun r74 u75 H locs hp hZ => ?_)
                    obtain ⟨rfl, rfl⟩ := hp
                    have hZ : zz_Z g A s.heap [cw_i g a_kindOf 60 kdf, cw_i g a_depthOf 60 dpf, cw_i g a_lengthOf 60 lnf, cw_i g a_classOf 60 clf, cw_i g a_baseOf 60 saf, cw_l g a_bits 4000 btf, cw_z g a_pinned 4000 pnf, cw_i g a_stackArray 5 sk1, cw_i g a_stackOther 5 sof, cw_i g a_stackAt 5 (upd at1 K (nI ((av K) + 1))), cw_k7 h0 (nI na) (nI ne) a_kindOf a_depthOf a_lengthOf a_classOf a_baseOf a_bits a_pinned 8 a_lengths a_stackArray a_stackOther a_stackAt i_lastArray i_lastPlace a_path a_held a_alike a_hashes (nI nd) a_decisionArray a_decisionPlace a_candidateMany a_candidates (nI nr) a_ruleSort a_ruleArray a_ruleWeight a_ruleLow a_ruleHigh a_chosen a_bestOf (nI nm) a_markElements a_markBits a_markPins] H locs := hZ
                    have hZ : zz_Z g A s.heap [cw_k7 h0 (nI na) (nI ne) a_kindOf a_depthOf a_lengthOf a_classOf a_baseOf a_bits a_pinned 8 a_lengths a_stackArray a_stackOther a_stackAt i_lastArray i_lastPlace a_path a_held a_alike a_hashes (nI nd) a_decisionArray a_decisionPlace a_candidateMany a_candidates (nI nr) a_ruleSort a_ruleArray a_ruleWeight a_ruleLow a_ruleHigh a_chosen a_bestOf (nI nm) a_markElements a_markBits a_markPins, cw_i g a_kindOf 60 kdf, cw_i g a_depthOf 60 dpf, cw_i g a_lengthOf 60 lnf, cw_i g a_classOf 60 clf, cw_i g a_baseOf 60 saf, cw_l g a_bits 4000 btf, cw_z g a_pinned 4000 pnf, cw_i g a_stackArray 5 sk1, cw_i g a_stackOther 5 sof, cw_i g a_stackAt 5 (upd at1 K (nI ((av K) + 1)))] H locs := hZ.sub [10, 0, 1, 2, 3, 4, 5, 6, 7, 8, 9] (by decide +kernel) rfl
                    exact zz_iret hC hZ (⟨8, i_lastArray, i_lastPlace, na, ne, kdf, dpf, lnf, clf, saf, btf, pnf, sk1, sof, (upd at1 K (nI ((av K) + 1))), h_M, zz_GW.rf, by rw [sp_dR, if_neg (fun z => c3 (zl_isH (by omega) z)), d1c, eLf, eDf, eRW, if_neg (fun z => by have z1 := z.1; have z2 := z.2; rw [hdz] at z1 z2; have hbg := zl_bigL (by omega) c71; omega)], by rw [if_pos (by decide)], by rw [if_pos (by decide)], rfl⟩) (Nat.le_of_ble_eq_true rfl) (Nat.le_of_ble_eq_true rfl) dX8_deep_219
            · have nc59 : (av K) = (Lf (Av K)) := (nI_eq bd60 bd61).mp (show nI ((av K)) = nI ((Lf (Av K))) from c59)
              refine lv_iinc (v := (nI K) + (-1)) (lv' := [(7, .int ((nI K) + (-1))), (8, .int (nI (Av K))), (4, .long (lN el)), (3, .int (nI mn)), (6, .int 0), (2, .int (nI na)), (0, .ref h0), (1, .int (nI a1))]) hx hb dX8_deep_124 hl (k := 3) rfl (by first | rfl | decide) (by decide) rfl (fun ls hl => ?_)
              refine lv_goto (tgt := 82) hx hb dX8_deep_127 (by decide) ?_
              have hr10 := zz_rr0 (w := fun _ => 1) (rw := (fun x i => btf (Sf x + i))) (Lf := Lf) (f := dz1 - K) (x := Av K) (k := av K) (by omega)
              have hr2 := zz_rr0 (w := Lf) (rw := (fun x i => btf (Sf x + i))) (Lf := Lf) (f := dz1 - K) (x := Av K) (k := av K) (by omega)
              exact ih7 ((nI K) + (-1)) K mn el Av av sk1 at1 H locs ls (rfl) (by omega) (zz_I3_pop hI) (by omega) (by omega) (by omega) (by omega) (by omega) hZ (lv_sub hl [2, 3, 0, 4, 5, 6, 7] rfl)
    exact LP7 _ 0 1 1 lz1 (fun _ => a1) (fun _ => 0) (upd skf 0 (nI a1)) (upd atf 0 0) H locs ls (by decide) (by omega) (zz_I3_init ha1 hdz) (by omega) (by omega) (by omega) (by omega) (Nat.lt_succ_self _) hZ (lv_sub hl [0, 1, 2, 3, 4, 5, 6] rfl)
  · refine lv_aload_n hx hb dX8_deep_8 rfl (lv_at hl 0 rfl) ?_
    refine lv_iconst (v := 5) hx hb dX8_deep_9 (by decide) ?_
    refine zz_iV (As := [.int 5]) (wc := [cw_k7 h0 (nI na) (nI ne) a_kindOf a_depthOf a_lengthOf a_classOf a_baseOf a_bits a_pinned i_code a_lengths a_stackArray a_stackOther a_stackAt i_lastArray i_lastPlace a_path a_held a_alike a_hashes (nI nd) a_decisionArray a_decisionPlace a_candidateMany a_candidates (nI nr) a_ruleSort a_ruleArray a_ruleWeight a_ruleLow a_ruleHigh a_chosen a_bestOf (nI nm) a_markElements a_markBits a_markPins]) (wr := [cw_i g a_kindOf 60 kdf, cw_i g a_depthOf 60 dpf, cw_i g a_lengthOf 60 lnf, cw_i g a_classOf 60 clf, cw_i g a_baseOf 60 saf, cw_l g a_bits 4000 btf, cw_z g a_pinned 4000 pnf, cw_i g a_stackArray 5 skf, cw_i g a_stackOther 5 sof, cw_i g a_stackAt 5 atf]) (rest := []) hC hZ hs hl zc_X8_175 (cm_fails g h0 a_kindOf a_depthOf a_lengthOf a_classOf a_baseOf a_bits a_pinned a_lengths a_stackArray a_stackOther a_stackAt a_path a_held a_alike a_hashes a_decisionArray a_decisionPlace a_candidateMany a_candidates a_ruleSort a_ruleArray a_ruleWeight a_ruleLow a_ruleHigh a_chosen a_bestOf a_markElements a_markBits a_markPins (nI na) (nI ne) i_code i_lastArray i_lastPlace (nI nd) (nI nr) (nI nm) 5) [10] [0, 1, 2, 3, 4, 5, 6, 7, 8, 9] rfl rfl (by decide +kernel) (ci := 7) (q0 := 0) rfl rfl rfl rfl (Nat.le_of_ble_eq_true rfl) ⟨⟨Nat.le_of_ble_eq_true rfl, Nat.le_of_ble_eq_true rfl⟩, Nat.le_of_ble_eq_true rfl, Nat.le_of_ble_eq_true rfl⟩ dX8_deep_10 (fun r76 u77 H locs hp hZ => ?_)
    obtain ⟨rfl, rfl⟩ := hp
    have hZ : zz_Z g A s.heap [cw_i g a_kindOf 60 kdf, cw_i g a_depthOf 60 dpf, cw_i g a_lengthOf 60 lnf, cw_i g a_classOf 60 clf, cw_i g a_baseOf 60 saf, cw_l g a_bits 4000 btf, cw_z g a_pinned 4000 pnf, cw_i g a_stackArray 5 skf, cw_i g a_stackOther 5 sof, cw_i g a_stackAt 5 atf, cw_k7 h0 (nI na) (nI ne) a_kindOf a_depthOf a_lengthOf a_classOf a_baseOf a_bits a_pinned 5 a_lengths a_stackArray a_stackOther a_stackAt i_lastArray i_lastPlace a_path a_held a_alike a_hashes (nI nd) a_decisionArray a_decisionPlace a_candidateMany a_candidates (nI nr) a_ruleSort a_ruleArray a_ruleWeight a_ruleLow a_ruleHigh a_chosen a_bestOf (nI nm) a_markElements a_markBits a_markPins] H locs := hZ
    have hZ : zz_Z g A s.heap [cw_k7 h0 (nI na) (nI ne) a_kindOf a_depthOf a_lengthOf a_classOf a_baseOf a_bits a_pinned 5 a_lengths a_stackArray a_stackOther a_stackAt i_lastArray i_lastPlace a_path a_held a_alike a_hashes (nI nd) a_decisionArray a_decisionPlace a_candidateMany a_candidates (nI nr) a_ruleSort a_ruleArray a_ruleWeight a_ruleLow a_ruleHigh a_chosen a_bestOf (nI nm) a_markElements a_markBits a_markPins, cw_i g a_kindOf 60 kdf, cw_i g a_depthOf 60 dpf, cw_i g a_lengthOf 60 lnf, cw_i g a_classOf 60 clf, cw_i g a_baseOf 60 saf, cw_l g a_bits 4000 btf, cw_z g a_pinned 4000 pnf, cw_i g a_stackArray 5 skf, cw_i g a_stackOther 5 sof, cw_i g a_stackAt 5 atf] H locs := hZ.sub [10, 0, 1, 2, 3, 4, 5, 6, 7, 8, 9] (by decide +kernel) rfl
    exact zz_iret hC hZ (⟨5, i_lastArray, i_lastPlace, na, ne, kdf, dpf, lnf, clf, saf, btf, pnf, skf, sof, atf, h_M, zz_GW.rf, by rw [sp_dR, if_pos (zl_isN (by omega) c3)], by rw [if_pos (by decide)], by rw [if_pos (by decide)], rfl⟩) (Nat.le_of_ble_eq_true rfl) (Nat.le_of_ble_eq_true rfl) dX8_deep_13
