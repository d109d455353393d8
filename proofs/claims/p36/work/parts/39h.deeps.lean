theorem zz_RT.one {S S' : zz_S} {k c : Int32} {n s s' : Nat} (h : zz_RT S S') (hb : S.2.1 + n ≤ 4000) (hn : n ≤ 200) : zz_RT (sp_cp s S.2.1 n (sp_add k (nI 1) c n S)) ((S'.1 + 1, S'.2.1 + n, upd S'.2.2.1 S'.1 k, upd S'.2.2.2.1 S'.1 (nI 1), upd S'.2.2.2.2.1 S'.1 c, upd S'.2.2.2.2.2.1 S'.1 (nI S'.2.1), upd S'.2.2.2.2.2.2.1 S'.1 (nI n), va_cpy (zz_mb S'.2.2.2.2.2.2.2 (nI 1) S'.2.1 n) (zz_mb S'.2.2.2.2.2.2.2 (nI 1) S'.2.1 n) s' S'.2.1 n) : zz_S) := by
  have g := h.add (k := k) (c := c) (n := n) (dq := 1) hb hn (by decide) (by decide)
  obtain ⟨h1, h2, h3, h4, h5, h6, h7, h8⟩ := g
  refine ⟨h1, h2, h3, h4, h5, h6, h7, fun j hj => ?_, fun j hj => ⟨?_, rfl⟩⟩
  · have hr : j < S'.2.1 ∨ S'.2.1 + n ≤ j := hj S'.1 S'.2.1 n (Nat.lt_succ_self _) pk_us pk_us pk_us (by have := h.2.1; omega) hn
    have e := h8.1 j hj
    show va_cpy (zz_nb S.2.2.2.2.2.2.2 (nI 1) S.2.1 n) (zz_nb S.2.2.2.2.2.2.2 (nI 1) S.2.1 n) s S.2.1 n j = va_cpy (zz_mb S'.2.2.2.2.2.2.2 (nI 1) S'.2.1 n) (zz_mb S'.2.2.2.2.2.2.2 (nI 1) S'.2.1 n) s' S'.2.1 n j
    rw [pk_cpy_out (by have := h.2.1; omega), pk_cpy_out hr]
    exact e
  · have hj' : S'.2.1 + n ≤ j := hj
    show va_cpy (zz_nb S.2.2.2.2.2.2.2 (nI 1) S.2.1 n) (zz_nb S.2.2.2.2.2.2.2 (nI 1) S.2.1 n) s S.2.1 n j = 0
    rw [pk_cpy_out (by have := h.2.1; omega)]
    exact (h8.2 j hj).1
section zzTwM
variable (kd0 cl0 : Nat → Int32) (Sf Lf Df : Nat → Nat) (rw : Nat → Nat → Int64)
/-- the reference's copy in the class's order -/
def sp_twM : Nat → Nat → zz_S → zz_S
  | 0, _, S => S
  | 1, a, S => sp_co kd0 cl0 Sf Lf 1 a S
  | f + 2, a, S => sp_tl (sp_twM (f + 1)) (rw a) S.2.1 (Lf a) 0 (sp_co kd0 cl0 Sf Lf (f + 2) a S)
theorem sp_co_mk (f a : Nat) (S : zz_S) (h : f ≠ 1) : sp_co kd0 cl0 Sf Lf f a S = sp_mk (kd0 a) (nI f) (cl0 a) (Lf a) S := by
  have e : zz_c1 S.2.2.2.2.2.2.2 f (Sf a) S.2.1 (Lf a) = zz_mb S.2.2.2.2.2.2.2 (nI f) S.2.1 (Lf a) := if_neg h
  show (S.1 + 1, S.2.1 + Lf a, upd S.2.2.1 S.1 (kd0 a), upd S.2.2.2.1 S.1 (nI f), upd S.2.2.2.2.1 S.1 (cl0 a), upd S.2.2.2.2.2.1 S.1 (nI S.2.1), upd S.2.2.2.2.2.2.1 S.1 (nI (Lf a)), zz_c1 S.2.2.2.2.2.2.2 f (Sf a) S.2.1 (Lf a)) = (S.1 + 1, S.2.1 + Lf a, upd S.2.2.1 S.1 (kd0 a), upd S.2.2.2.1 S.1 (nI f), upd S.2.2.2.2.1 S.1 (cl0 a), upd S.2.2.2.2.2.1 S.1 (nI S.2.1), upd S.2.2.2.2.2.2.1 S.1 (nI (Lf a)), zz_mb S.2.2.2.2.2.2.2 (nI f) S.2.1 (Lf a))
  rw [e]
theorem sp_co_1 (a : Nat) (S : zz_S) : sp_co kd0 cl0 Sf Lf 1 a S = (S.1 + 1, S.2.1 + Lf a, upd S.2.2.1 S.1 (kd0 a), upd S.2.2.2.1 S.1 (nI 1), upd S.2.2.2.2.1 S.1 (cl0 a), upd S.2.2.2.2.2.1 S.1 (nI S.2.1), upd S.2.2.2.2.2.2.1 S.1 (nI (Lf a)), va_cpy (zz_mb S.2.2.2.2.2.2.2 (nI 1) S.2.1 (Lf a)) (zz_mb S.2.2.2.2.2.2.2 (nI 1) S.2.1 (Lf a)) (Sf a) S.2.1 (Lf a)) := rfl
theorem sp_co_le (f a : Nat) (S : zz_S) : S.2.1 ≤ (sp_co kd0 cl0 Sf Lf f a S).2.1 := Nat.le_add_right _ _
theorem sp_tw_le (f a : Nat) (S : zz_S) : S.2.1 ≤ (sp_tw kd0 cl0 Sf Lf rw f a S).2.1 := by rw [(sp_tw_n kd0 cl0 Sf Lf rw f a S).2]; exact Nat.le_add_right _ _
end zzTwM
theorem sp_tl_le {F : Nat → zz_S → zz_S} {row : Nat → Int64} {base : Nat} (h : ∀ r S, S.2.1 ≤ (F r S).2.1) : ∀ (m i : Nat) (S : zz_S), S.2.1 ≤ (sp_tl F row base m i S).2.1
  | 0, _, S => Nat.le_refl _
  | m + 1, i, S => by
    rw [sp_tl]
    by_cases q : row i = -1
    · rw [if_pos q]; exact sp_tl_le h m (i + 1) S
    · rw [if_neg q]
      have h1 := h (row i).toInt.toNat S
      have h2 := sp_tl_le (row := row) (base := base) h m (i + 1) (sp_set (base + i) (lN S.1) (F (row i).toInt.toNat S))
      have e : (sp_set (base + i) (lN S.1) (F (row i).toInt.toNat S)).2.1 = (F (row i).toInt.toNat S).2.1 := rfl
      omega
theorem sp_tl_rt {F F' : Nat → zz_S → zz_S} {row : Nat → Int64} {base n : Nat} {V : Nat → Prop} (hn : ∀ r S, S.2.1 ≤ (F r S).2.1) (hV : ∀ i, i < n → row i = -1 ∨ ∃ r, r < 60 ∧ row i = lN r ∧ V r) (h : ∀ r S S', V r → zz_RT S S' → (F r S).2.1 ≤ 4000 → zz_RT (F r S) (F' r S')) : ∀ (m i : Nat) (S S' : zz_S), i + m ≤ n → zz_RT S S' → base + i + m ≤ S.2.1 → (sp_tl F row base m i S).2.1 ≤ 4000 → zz_RT (sp_tl F row base m i S) (sp_tl F' row base m i S')
  | 0, _, S, S', _, hS, _, _ => hS
  | m + 1, i, S, S', hi, hS, hb, hE => by
    rw [sp_tl] at hE ⊢
    rw [sp_tl]
    rcases hV i (by omega) with q | ⟨r, hr, q, v⟩
    · rw [if_pos q] at hE ⊢
      rw [if_pos q]
      exact sp_tl_rt hn hV h m (i + 1) S S' (by omega) hS (by omega) hE
    · have e : (row i).toInt.toNat = r := by rw [q, lN_toInt (by omega)]; rfl
      have hne : ¬ row i = -1 := fun z => by
        have : (row i).toInt = (r : Int) := by rw [q]; exact lN_toInt (by omega)
        rw [z, show (-1 : Int64).toInt = -1 by decide] at this
        omega
      rw [if_neg hne, e] at hE ⊢
      rw [if_neg hne]
      have g2 := hn r S
      have g3 : (sp_set (base + i) (lN S.1) (F r S)).2.1 = (F r S).2.1 := rfl
      have g4 := sp_tl_le (row := row) (base := base) hn m (i + 1) (sp_set (base + i) (lN S.1) (F r S))
      have g := h r S S' v hS (by omega)
      rw [← hS.1]
      exact sp_tl_rt hn hV h m (i + 1) _ _ (by omega) (g.set (by omega)) (by omega) hE
theorem sp_tw_rt {na nu : Nat} {Sf Lf Df : Nat → Nat} {kd0 cl0 : Nat → Int32} {bt0 : Nat → Int64} (hT : zz_TR na nu Sf Lf Df bt0) : ∀ (f a : Nat) (S S' : zz_S), a < na → Df a = f → zz_RT S S' → (sp_tw kd0 cl0 Sf Lf (fun x i => bt0 (Sf x + i)) f a S).2.1 ≤ 4000 → zz_RT (sp_tw kd0 cl0 Sf Lf (fun x i => bt0 (Sf x + i)) f a S) (sp_twM kd0 cl0 Sf Lf (fun x i => bt0 (Sf x + i)) f a S')
  | 0, a, S, S', _, _, h, _ => by rw [sp_tw, sp_twM]; exact h
  | 1, a, S, S', ha, _, h, hE => by
    rw [sp_tw] at hE ⊢
    rw [sp_twM, sp_co_1]
    have hE' : S.2.1 + Lf a ≤ 4000 := hE
    exact h.one hE' (hT.2.2.1 a ha).1
  | f + 2, a, S, S', ha, hd, h, hE => by
    have g4 := (hT.2.2.1 a ha).2.2.2
    rw [sp_tw] at hE ⊢
    rw [sp_twM, sp_co_mk _ _ _ _ _ _ _ (by omega), ← h.2.1]
    have hle := sp_tl_le (row := fun i => bt0 (Sf a + i)) (base := S.2.1) (fun r S => sp_tw_le kd0 cl0 Sf Lf (fun x i => bt0 (Sf x + i)) (f + 1) r S) (Lf a) 0 (sp_add (kd0 a) (nI (f + 2)) (cl0 a) (Lf a) S)
    have e2 : (sp_add (kd0 a) (nI (f + 2)) (cl0 a) (Lf a) S).2.1 = S.2.1 + Lf a := rfl
    have hE' : (sp_tl (sp_tw kd0 cl0 Sf Lf (fun x i => bt0 (Sf x + i)) (f + 1)) (fun i => bt0 (Sf a + i)) S.2.1 (Lf a) 0 (sp_add (kd0 a) (nI (f + 2)) (cl0 a) (Lf a) S)).2.1 ≤ 4000 := hE
    have hE2 : S.2.1 + Lf a ≤ 4000 := Nat.le_trans hle hE
    refine sp_tl_rt (n := Lf a) (V := fun r => r < na ∧ Df r = f + 1) (fun r S => sp_tw_le kd0 cl0 Sf Lf (fun x i => bt0 (Sf x + i)) (f + 1) r S) (fun i hi => ?_) (fun r S S' v q1 q2 => sp_tw_rt hT (f + 1) r S S' v.1 v.2 q1 q2) (Lf a) 0 _ _ (by omega) (h.add (by omega) (hT.2.2.1 a ha).1 (by omega) (by omega)) (by omega) hE'
    rcases hT.2.2.2 a ha (by omega) i hi with q | ⟨r, hr, q, v⟩
    · exact Or.inl q
    · exact Or.inr ⟨r, by have := hT.1; omega, q, hr, by omega⟩
theorem sp_set_co {kd0 cl0 : Nat → Int32} {Sf Lf : Nat → Nat} {f a j : Nat} {x : Int64} {S : zz_S} (h : j < S.2.1) (hs : Sf a + Lf a ≤ j ∨ j < Sf a) : sp_co kd0 cl0 Sf Lf f a (sp_set j x S) = sp_set j x (sp_co kd0 cl0 Sf Lf f a S) := by
  by_cases q : f = 1
  · rw [q, sp_co_1, sp_co_1]
    have e : va_cpy (zz_mb (vp_updL S.2.2.2.2.2.2.2 j x) (nI 1) S.2.1 (Lf a)) (zz_mb (vp_updL S.2.2.2.2.2.2.2 j x) (nI 1) S.2.1 (Lf a)) (Sf a) S.2.1 (Lf a) = vp_updL (va_cpy (zz_mb S.2.2.2.2.2.2.2 (nI 1) S.2.1 (Lf a)) (zz_mb S.2.2.2.2.2.2.2 (nI 1) S.2.1 (Lf a)) (Sf a) S.2.1 (Lf a)) j x := by
      have e0 : ∀ i, i ≠ j → zz_mb (vp_updL S.2.2.2.2.2.2.2 j x) (nI 1) S.2.1 (Lf a) i = zz_mb S.2.2.2.2.2.2.2 (nI 1) S.2.1 (Lf a) i := fun i hi => by
        unfold zz_mb
        rw [pk_uLn hi]
      funext i
      by_cases w : i = j
      · rw [w, pk_uLs, pk_cpy_out (Or.inl h)]
        unfold zz_mb
        rw [if_neg (by omega), pk_uLs]
      · rw [pk_uLn w]
        by_cases v : S.2.1 ≤ i ∧ i < S.2.1 + Lf a
        · rw [pk_cpy_in v.1 v.2, pk_cpy_in v.1 v.2]; exact e0 _ (by omega)
        · rw [pk_cpy_out (by omega), pk_cpy_out (by omega)]; exact e0 _ w
    show (S.1 + 1, S.2.1 + Lf a, upd S.2.2.1 S.1 (kd0 a), upd S.2.2.2.1 S.1 (nI 1), upd S.2.2.2.2.1 S.1 (cl0 a), upd S.2.2.2.2.2.1 S.1 (nI S.2.1), upd S.2.2.2.2.2.2.1 S.1 (nI (Lf a)), va_cpy (zz_mb (vp_updL S.2.2.2.2.2.2.2 j x) (nI 1) S.2.1 (Lf a)) (zz_mb (vp_updL S.2.2.2.2.2.2.2 j x) (nI 1) S.2.1 (Lf a)) (Sf a) S.2.1 (Lf a)) = (S.1 + 1, S.2.1 + Lf a, upd S.2.2.1 S.1 (kd0 a), upd S.2.2.2.1 S.1 (nI 1), upd S.2.2.2.2.1 S.1 (cl0 a), upd S.2.2.2.2.2.1 S.1 (nI S.2.1), upd S.2.2.2.2.2.2.1 S.1 (nI (Lf a)), vp_updL (va_cpy (zz_mb S.2.2.2.2.2.2.2 (nI 1) S.2.1 (Lf a)) (zz_mb S.2.2.2.2.2.2.2 (nI 1) S.2.1 (Lf a)) (Sf a) S.2.1 (Lf a)) j x)
    rw [e]
  · rw [sp_co_mk _ _ _ _ _ _ _ q, sp_co_mk _ _ _ _ _ _ _ q]
    exact sp_set_mk h
theorem sp_tm_le {F : Nat → Nat → zz_S → zz_S} {cp : Nat → zz_S → zz_S} {row : Nat → Int64} {base : Nat} (hc : ∀ r S, S.2.1 ≤ (cp r S).2.1) (hF : ∀ r b S, S.2.1 ≤ (F r b S).2.1) : ∀ (m i : Nat) (S : zz_S), S.2.1 ≤ (sp_tm F cp row base m i S).2.1
  | 0, _, S => Nat.le_refl _
  | m + 1, i, S => by
    rw [sp_tm]
    by_cases q : row i = -1
    · rw [if_pos q]; exact sp_tm_le hc hF m (i + 1) S
    · rw [if_neg q]
      have h1 := hc (row i).toInt.toNat S
      have h2 := hF (row i).toInt.toNat S.2.1 (sp_set (base + i) (lN S.1) (cp (row i).toInt.toNat S))
      have e : (sp_set (base + i) (lN S.1) (cp (row i).toInt.toNat S)).2.1 = (cp (row i).toInt.toNat S).2.1 := rfl
      have h3 := sp_tm_le (row := row) (base := base) hc hF m (i + 1) (F (row i).toInt.toNat S.2.1 (sp_set (base + i) (lN S.1) (cp (row i).toInt.toNat S)))
      omega
theorem sp_tF_le (kd0 cl0 : Nat → Int32) (Sf Lf : Nat → Nat) (rw : Nat → Nat → Int64) : ∀ (f a b m i : Nat) (S : zz_S), S.2.1 ≤ (sp_tF kd0 cl0 Sf Lf rw f a b m i S).2.1
  | 0, _, _, _, _, S => Nat.le_refl _
  | 1, _, _, _, _, S => Nat.le_refl _
  | f + 2, a, b, m, i, S => by
    rw [sp_tF]
    exact sp_tm_le (fun r S => sp_co_le kd0 cl0 Sf Lf (f + 1) r S) (fun r b S => sp_tF_le kd0 cl0 Sf Lf rw (f + 1) r b (Lf r) 0 S) m i S
/-- u: where the elements of what is copied end -/
theorem sp_tm_set {F : Nat → Nat → zz_S → zz_S} {cp : Nat → zz_S → zz_S} {row : Nat → Int64} {base j n : Nat} {x : Int64} {V : Nat → Prop} (hj : j < base) (hV : ∀ i, i < n → row i = -1 ∨ ∃ r, r < 60 ∧ row i = lN r ∧ V r) (hc1 : ∀ r S, S.2.1 ≤ (cp r S).2.1) (hc : ∀ r S, V r → j < S.2.1 → cp r (sp_set j x S) = sp_set j x (cp r S)) (hF1 : ∀ r b S, S.2.1 ≤ (F r b S).2.1) (hF : ∀ r b S, V r → j < b → j < S.2.1 → F r b (sp_set j x S) = sp_set j x (F r b S)) : ∀ (m i : Nat) (S : zz_S), i + m ≤ n → j < S.2.1 → sp_tm F cp row base m i (sp_set j x S) = sp_set j x (sp_tm F cp row base m i S)
  | 0, _, S, _, _ => rfl
  | m + 1, i, S, hi, h => by
    rw [sp_tm, sp_tm]
    rcases hV i (by omega) with q | ⟨r, hr, q, v⟩
    · rw [if_pos q, if_pos q]
      exact sp_tm_set hj hV hc1 hc hF1 hF m (i + 1) S (by omega) h
    · have e : (row i).toInt.toNat = r := by rw [q, lN_toInt (by omega)]; rfl
      have hne : ¬ row i = -1 := fun z => by
        have : (row i).toInt = (r : Int) := by rw [q]; exact lN_toInt (by omega)
        rw [z, show (-1 : Int64).toInt = -1 by decide] at this
        omega
      rw [if_neg hne, if_neg hne, e]
      have h1 := hc1 r S
      have h2 := hF1 r S.2.1 (sp_set (base + i) (lN S.1) (cp r S))
      have e3 : (sp_set (base + i) (lN S.1) (cp r S)).2.1 = (cp r S).2.1 := rfl
      have e1 : (sp_set j x S).2.1 = S.2.1 := rfl
      have e2 : (sp_set j x S).1 = S.1 := rfl
      rw [e1, e2, hc r S v h, sp_set_set (i := base + i) (j := j) (by omega), hF _ _ _ v h (by omega)]
      exact sp_tm_set hj hV hc1 hc hF1 hF m (i + 1) _ (by omega) (by omega)
theorem sp_tF_set {na nu : Nat} {Sf Lf Df : Nat → Nat} {kd0 cl0 : Nat → Int32} {bt0 : Nat → Int64} (hT : zz_TR na nu Sf Lf Df bt0) {j : Nat} {x : Int64} (hj : nu ≤ j) : ∀ (f a b m i : Nat) (S : zz_S), a < na → Df a = f → i + m ≤ Lf a → j < b → j < S.2.1 → sp_tF kd0 cl0 Sf Lf (fun x i => bt0 (Sf x + i)) f a b m i (sp_set j x S) = sp_set j x (sp_tF kd0 cl0 Sf Lf (fun x i => bt0 (Sf x + i)) f a b m i S)
  | 0, _, _, _, _, S, _, _, _, _, _ => rfl
  | 1, _, _, _, _, S, _, _, _, _, _ => rfl
  | f + 2, a, b, m, i, S, ha, hd, hi, hb, h => by
    rw [sp_tF, sp_tF]
    refine sp_tm_set (n := Lf a) (V := fun r => r < na ∧ Df r = f + 1) hb (fun i hi => ?_) (fun r S => sp_co_le kd0 cl0 Sf Lf (f + 1) r S) (fun r S v q => sp_set_co q (Or.inl (by have := (hT.2.2.1 r v.1).2.1; omega))) (fun r b S => sp_tF_le kd0 cl0 Sf Lf _ (f + 1) r b (Lf r) 0 S) (fun r b S v q1 q2 => sp_tF_set hT hj (f + 1) r b (Lf r) 0 S v.1 v.2 (by omega) q1 q2) m i S hi h
    rcases hT.2.2.2 a ha (by omega) i hi with q | ⟨r, hr, q, v⟩
    · exact Or.inl q
    · exact Or.inr ⟨r, by have := hT.1; omega, q, hr, by omega⟩
theorem sp_tm_tl {F : Nat → Nat → zz_S → zz_S} {cp F2 : Nat → zz_S → zz_S} {row : Nat → Int64} {base n u : Nat} {V : Nat → Prop} (hu : u ≤ base) (hV : ∀ i, i < n → row i = -1 ∨ ∃ r, r < 60 ∧ row i = lN r ∧ V r) (h2 : ∀ r S, V r → u ≤ S.2.1 → F2 r S = F r S.2.1 (cp r S)) (hc1 : ∀ r S, S.2.1 ≤ (cp r S).2.1) (hF1 : ∀ r b S, S.2.1 ≤ (F r b S).2.1) (hF : ∀ j x r b S, u ≤ j → V r → j < b → j < S.2.1 → F r b (sp_set j x S) = sp_set j x (F r b S)) : ∀ (m i : Nat) (S : zz_S), i + m ≤ n → base + i + m ≤ S.2.1 → sp_tm F cp row base m i S = sp_tl F2 row base m i S
  | 0, _, S, _, _ => rfl
  | m + 1, i, S, hi, hb => by
    rw [sp_tm, sp_tl]
    rcases hV i (by omega) with q | ⟨r, hr, q, v⟩
    · rw [if_pos q, if_pos q]
      exact sp_tm_tl hu hV h2 hc1 hF1 hF m (i + 1) S (by omega) (by omega)
    · have e : (row i).toInt.toNat = r := by rw [q, lN_toInt (by omega)]; rfl
      have hne : ¬ row i = -1 := fun z => by
        have : (row i).toInt = (r : Int) := by rw [q]; exact lN_toInt (by omega)
        rw [z, show (-1 : Int64).toInt = -1 by decide] at this
        omega
      rw [if_neg hne, if_neg hne, e]
      have h1 := hc1 r S
      have h3 := hF1 r S.2.1 (cp r S)
      rw [h2 r S v (by omega), hF (base + i) (lN S.1) r S.2.1 (cp r S) (by omega) v (by omega) (by omega)]
      have e3 : (sp_set (base + i) (lN S.1) (F r S.2.1 (cp r S))).2.1 = (F r S.2.1 (cp r S)).2.1 := rfl
      exact sp_tm_tl hu hV h2 hc1 hF1 hF m (i + 1) _ (by omega) (by omega)
theorem sp_tF_M {na nu : Nat} {Sf Lf Df : Nat → Nat} {kd0 cl0 : Nat → Int32} {bt0 : Nat → Int64} (hT : zz_TR na nu Sf Lf Df bt0) : ∀ (f a : Nat) (S : zz_S), 1 ≤ f → a < na → Df a = f → nu ≤ S.2.1 → sp_tF kd0 cl0 Sf Lf (fun x i => bt0 (Sf x + i)) f a S.2.1 (Lf a) 0 (sp_co kd0 cl0 Sf Lf f a S) = sp_twM kd0 cl0 Sf Lf (fun x i => bt0 (Sf x + i)) f a S
  | 0, a, S, h, _, _, _ => absurd h (by decide)
  | 1, a, S, _, _, _, _ => by rw [sp_tF, sp_twM]
  | f + 2, a, S, _, ha, hd, hu => by
    rw [sp_tF, sp_twM]
    have e2 : (sp_co kd0 cl0 Sf Lf (f + 2) a S).2.1 = S.2.1 + Lf a := rfl
    refine sp_tm_tl (n := Lf a) (u := nu) (V := fun r => r < na ∧ Df r = f + 1) hu (fun i hi => ?_) (fun r S v q => (sp_tF_M hT (f + 1) r S (by omega) v.1 v.2 q).symm) (fun r S => sp_co_le kd0 cl0 Sf Lf (f + 1) r S) (fun r b S => sp_tF_le kd0 cl0 Sf Lf _ (f + 1) r b (Lf r) 0 S) (fun j x r b S hj v q1 q2 => sp_tF_set hT hj (f + 1) r b (Lf r) 0 S v.1 v.2 (by omega) q1 q2) (Lf a) 0 _ (by omega) (by omega)
    rcases hT.2.2.2 a ha (by omega) i hi with q | ⟨r, hr, q, v⟩
    · exact Or.inl q
    · exact Or.inr ⟨r, by have := hT.1; omega, q, hr, by omega⟩
