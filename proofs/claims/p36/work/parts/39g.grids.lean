/-- two states of arrays that agree but for elements of arrays of depth 1 -/
def zz_RT (S S' : zz_S) : Prop := S.1 = S'.1 ∧ S.2.1 = S'.2.1 ∧ S.2.2.1 = S'.2.2.1 ∧ S.2.2.2.1 = S'.2.2.2.1 ∧ S.2.2.2.2.1 = S'.2.2.2.2.1 ∧ S.2.2.2.2.2.1 = S'.2.2.2.2.2.1 ∧ S.2.2.2.2.2.2.1 = S'.2.2.2.2.2.2.1 ∧ zz_R1 S'.1 S'.2.1 S'.2.2.2.1 S'.2.2.2.2.2.1 S'.2.2.2.2.2.2.1 S.2.2.2.2.2.2.2 S'.2.2.2.2.2.2.2 (fun _ => 0)
theorem zz_RT.add {S S' : zz_S} {k c : Int32} {n dq : Nat} (h : zz_RT S S') (hb : S.2.1 + n ≤ 4000) (hn : n ≤ 200) (hq : 1 ≤ dq) (hq4 : dq ≤ 4) : zz_RT (sp_add k (nI dq) c n S) (sp_mk k (nI dq) c n S') := by
  obtain ⟨h1, h2, h3, h4, h5, h6, h7, h8⟩ := h
  obtain ⟨g, -⟩ := h8.add (n := n) (by rw [← h2]; exact hb) hn hq hq4
  refine ⟨?_, ?_, ?_, ?_, ?_, ?_, ?_, ?_⟩
  · show S.1 + 1 = S'.1 + 1; rw [h1]
  · show S.2.1 + n = S'.2.1 + n; rw [h2]
  · show upd S.2.2.1 S.1 k = upd S'.2.2.1 S'.1 k; rw [h3, h1]
  · show upd S.2.2.2.1 S.1 (nI dq) = upd S'.2.2.2.1 S'.1 (nI dq); rw [h4, h1]
  · show upd S.2.2.2.2.1 S.1 c = upd S'.2.2.2.2.1 S'.1 c; rw [h5, h1]
  · show upd S.2.2.2.2.2.1 S.1 (nI S.2.1) = upd S'.2.2.2.2.2.1 S'.1 (nI S'.2.1); rw [h6, h1, h2]
  · show upd S.2.2.2.2.2.2.1 S.1 (nI n) = upd S'.2.2.2.2.2.2.1 S'.1 (nI n); rw [h7, h1]
  · have e : (zz_mp (fun _ => 0) S'.2.1 n) = fun _ => 0 := by
      funext j
      unfold zz_mp
      by_cases q : S'.2.1 ≤ j ∧ j < S'.2.1 + n
      · rw [if_pos q]
      · rw [if_neg q]
    rw [e] at g
    show zz_R1 (S'.1 + 1) (S'.2.1 + n) (upd S'.2.2.2.1 S'.1 (nI dq)) (upd S'.2.2.2.2.2.1 S'.1 (nI S'.2.1)) (upd S'.2.2.2.2.2.2.1 S'.1 (nI n)) (zz_nb S.2.2.2.2.2.2.2 (nI dq) S.2.1 n) (zz_mb S'.2.2.2.2.2.2.2 (nI dq) S'.2.1 n) (fun _ => 0)
    rw [h2]; exact g
theorem zz_RT.set {S S' : zz_S} {j : Nat} {x : Int64} (h : zz_RT S S') (hj : j < S.2.1) : zz_RT (sp_set j x S) (sp_set j x S') := by
  obtain ⟨h1, h2, h3, h4, h5, h6, h7, h8⟩ := h
  refine ⟨h1, h2, h3, h4, h5, h6, h7, fun i hi => ?_, fun i hi => ⟨?_, rfl⟩⟩
  · show vp_updL S.2.2.2.2.2.2.2 j x i = vp_updL S'.2.2.2.2.2.2.2 j x i
    by_cases q : i = j
    · rw [q, pk_uLs, pk_uLs]
    · rw [pk_uLn q, pk_uLn q]; exact h8.1 i hi
  · show vp_updL S.2.2.2.2.2.2.2 j x i = 0
    have hi' : S'.2.1 ≤ i := hi
    rw [pk_uLn (by omega)]; exact (h8.2 i hi').1
/-- the reference's grid in the class's order -/
def sp_gridM (k : Int32) (ll : Nat → Nat) : Nat → Nat → zz_S → zz_S
  | 0, _, S => S
  | r + 1, t, S => sp_gl (if r = 0 then id else sp_gridM k ll r (t + 1)) S.2.1 (if r = 0 then 0 else ll t) 0 (sp_mk k (nI (r + 1)) (-1) (ll t) S)
theorem sp_gridM_n (k : Int32) (ll : Nat → Nat) : ∀ (r t : Nat) (S : zz_S), (sp_gridM k ll r t S).1 = S.1 + zz_TT2 ll r t ∧ (sp_gridM k ll r t S).2.1 = S.2.1 + zz_EE ll r t
  | 0, t, S => by rw [sp_gridM, zz_TT2, zz_EE]; exact ⟨rfl, rfl⟩
  | 1, t, S => by
    rw [sp_gridM, if_pos rfl, if_pos rfl, sp_gl, zz_TT2, zz_EE, zz_TT2, zz_EE]
    exact ⟨rfl, rfl⟩
  | r + 2, t, S => by
    rw [sp_gridM, if_neg (by omega), if_neg (by omega)]
    obtain ⟨h1, h2⟩ := sp_gl_n (base := S.2.1) (fun S => sp_gridM_n k ll (r + 1) (t + 1) S) (ll t) 0 (sp_mk k (nI (r + 1 + 1)) (-1) (ll t) S)
    rw [h1, h2]
    have e1 : (sp_mk k (nI (r + 1 + 1)) (-1) (ll t) S).1 = S.1 + 1 := rfl
    have e2 : (sp_mk k (nI (r + 1 + 1)) (-1) (ll t) S).2.1 = S.2.1 + ll t := rfl
    rw [e1, e2]
    show _ = S.1 + (1 + ll t * zz_TT2 ll (r + 1) (t + 1)) ∧ _ = S.2.1 + (ll t + ll t * zz_EE ll (r + 1) (t + 1))
    omega
theorem sp_gl_rt {F F' : zz_S → zz_S} {base E : Nat} (hn : ∀ S, (F S).2.1 = S.2.1 + E) (h : ∀ S S', zz_RT S S' → S.2.1 + E ≤ 4000 → zz_RT (F S) (F' S')) : ∀ (m i : Nat) (S S' : zz_S), zz_RT S S' → base + i + m ≤ S.2.1 → S.2.1 + m * E ≤ 4000 → zz_RT (sp_gl F base m i S) (sp_gl F' base m i S')
  | 0, _, S, S', hS, _, _ => hS
  | m + 1, i, S, S', hS, hb, hE => by
    rw [sp_gl, sp_gl]
    rw [Nat.add_mul, Nat.one_mul] at hE
    have g := h S S' hS (by omega)
    have g2 := hn S
    have g3 : (sp_set (base + i) (lN S.1) (F S)).2.1 = S.2.1 + E := g2
    rw [← hS.1]
    exact sp_gl_rt hn h m (i + 1) _ _ (g.set (by omega)) (by omega) (by omega)
theorem sp_grid_rt (k : Int32) (ll : Nat → Nat) : ∀ (r t : Nat) (S S' : zz_S), r ≤ 4 → (∀ j, j < t + r → ll j ≤ 200) → zz_RT S S' → S.2.1 + zz_EE ll r t ≤ 4000 → zz_RT (sp_grid k ll r t S) (sp_gridM k ll r t S')
  | 0, t, S, S', _, _, h, _ => by rw [sp_grid, sp_gridM]; exact h
  | 1, t, S, S', _, hl, h, hE => by
    rw [sp_grid, sp_gridM, if_pos rfl, if_pos rfl, if_pos rfl, sp_gl, sp_gl]
    rw [zz_EE] at hE
    exact h.add (dq := 1) (by omega) (hl t (by omega)) (by decide) (by decide)
  | r + 2, t, S, S', h4, hl, h, hE => by
    rw [sp_grid, sp_gridM, if_neg (by omega), if_neg (by omega), if_neg (by omega)]
    have hE' : S.2.1 + (ll t + ll t * zz_EE ll (r + 1) (t + 1)) ≤ 4000 := hE
    have g := h.add (k := k) (c := -1) (n := ll t) (dq := r + 1 + 1) (by omega) (hl t (by omega)) (by omega) (by omega)
    have e2 : (sp_add k (nI (r + 1 + 1)) (-1) (ll t) S).2.1 = S.2.1 + ll t := rfl
    rw [← h.2.1]
    exact sp_gl_rt (fun S => (sp_grid_n k ll (r + 1) (t + 1) S).2) (fun S S' q1 q2 => sp_grid_rt k ll (r + 1) (t + 1) S S' (by omega) (fun j hj => hl j (by omega)) q1 q2) (ll t) 0 _ _ g (by omega) (by omega)
/-- an element ahead of all that is made: set before or behind -/
theorem sp_set_mk {k d c : Int32} {n j : Nat} {x : Int64} {S : zz_S} (h : j < S.2.1) : sp_mk k d c n (sp_set j x S) = sp_set j x (sp_mk k d c n S) := by
  have e : zz_mb (vp_updL S.2.2.2.2.2.2.2 j x) d S.2.1 n = vp_updL (zz_mb S.2.2.2.2.2.2.2 d S.2.1 n) j x := by
    funext i
    unfold zz_mb
    by_cases q : i = j
    · rw [q, pk_uLs, pk_uLs, if_neg (by omega)]
    · rw [pk_uLn q, pk_uLn q]
  show (S.1 + 1, S.2.1 + n, upd S.2.2.1 S.1 k, upd S.2.2.2.1 S.1 d, upd S.2.2.2.2.1 S.1 c, upd S.2.2.2.2.2.1 S.1 (nI S.2.1), upd S.2.2.2.2.2.2.1 S.1 (nI n), zz_mb (vp_updL S.2.2.2.2.2.2.2 j x) d S.2.1 n) = (S.1 + 1, S.2.1 + n, upd S.2.2.1 S.1 k, upd S.2.2.2.1 S.1 d, upd S.2.2.2.2.1 S.1 c, upd S.2.2.2.2.2.1 S.1 (nI S.2.1), upd S.2.2.2.2.2.2.1 S.1 (nI n), vp_updL (zz_mb S.2.2.2.2.2.2.2 d S.2.1 n) j x)
  rw [e]
theorem sp_set_set {i j : Nat} {x y : Int64} {S : zz_S} (h : i ≠ j) : sp_set i x (sp_set j y S) = sp_set j y (sp_set i x S) := by
  have e : vp_updL (vp_updL S.2.2.2.2.2.2.2 j y) i x = vp_updL (vp_updL S.2.2.2.2.2.2.2 i x) j y := by
    funext q
    by_cases q1 : q = i
    · rw [q1, pk_uLs, pk_uLn h, pk_uLs]
    · by_cases q2 : q = j
      · rw [q2, pk_uLs, pk_uLn (fun z => h z.symm), pk_uLs]
      · rw [pk_uLn q1, pk_uLn q2, pk_uLn q2, pk_uLn q1]
  show (S.1, S.2.1, S.2.2.1, S.2.2.2.1, S.2.2.2.2.1, S.2.2.2.2.2.1, S.2.2.2.2.2.2.1, vp_updL (vp_updL S.2.2.2.2.2.2.2 j y) i x) = (S.1, S.2.1, S.2.2.1, S.2.2.2.1, S.2.2.2.2.1, S.2.2.2.2.2.1, S.2.2.2.2.2.2.1, vp_updL (vp_updL S.2.2.2.2.2.2.2 i x) j y)
  rw [e]
theorem sp_gm_set {F : Nat → zz_S → zz_S} {mk : zz_S → zz_S} {base j : Nat} {x : Int64} (hj : j < base) (hm : ∀ S, S.2.1 ≤ (mk S).2.1) (hmk : ∀ S, j < S.2.1 → mk (sp_set j x S) = sp_set j x (mk S)) (hF1 : ∀ b S, S.2.1 ≤ (F b S).2.1) (hF : ∀ b S, j < b → j < S.2.1 → F b (sp_set j x S) = sp_set j x (F b S)) : ∀ (m i : Nat) (S : zz_S), j < S.2.1 → sp_gm F mk base m i (sp_set j x S) = sp_set j x (sp_gm F mk base m i S)
  | 0, _, S, _ => rfl
  | m + 1, i, S, h => by
    have h1 := hm S
    have h2 := hF1 S.2.1 (sp_set (base + i) (lN S.1) (mk S))
    have e3 : (sp_set (base + i) (lN S.1) (mk S)).2.1 = (mk S).2.1 := rfl
    rw [sp_gm, sp_gm]
    have e1 : (sp_set j x S).2.1 = S.2.1 := rfl
    have e2 : (sp_set j x S).1 = S.1 := rfl
    rw [e1, e2, hmk S h, sp_set_set (i := base + i) (j := j) (by omega), hF _ _ h (by omega)]
    exact sp_gm_set hj hm hmk hF1 hF m (i + 1) _ (by omega)
theorem sp_gm_le {F : Nat → zz_S → zz_S} {mk : zz_S → zz_S} {base : Nat} (hm : ∀ S, S.2.1 ≤ (mk S).2.1) (hF1 : ∀ b S, S.2.1 ≤ (F b S).2.1) : ∀ (m i : Nat) (S : zz_S), S.2.1 ≤ (sp_gm F mk base m i S).2.1
  | 0, _, S => Nat.le_refl _
  | m + 1, i, S => by
    rw [sp_gm]
    have h1 := hm S
    have h2 := hF1 S.2.1 (sp_set (base + i) (lN S.1) (mk S))
    have e3 : (sp_set (base + i) (lN S.1) (mk S)).2.1 = (mk S).2.1 := rfl
    have h3 := sp_gm_le (base := base) hm hF1 m (i + 1) (F S.2.1 (sp_set (base + i) (lN S.1) (mk S)))
    omega
theorem sp_mk_le {k d c : Int32} {n : Nat} (S : zz_S) : S.2.1 ≤ (sp_mk k d c n S).2.1 := Nat.le_add_right _ _
theorem sp_gF_le (k : Int32) (ll : Nat → Nat) : ∀ (r t b m i : Nat) (S : zz_S), S.2.1 ≤ (sp_gF k ll r t b m i S).2.1
  | 0, _, _, _, _, S => Nat.le_refl _
  | r + 1, t, b, m, i, S => by
    rw [sp_gF]
    exact sp_gm_le (fun S => sp_mk_le S) (fun b S => sp_gF_le k ll r (t + 1) b (ll (t + 1)) 0 S) m i S
theorem sp_gF_set (k : Int32) (ll : Nat → Nat) {j : Nat} {x : Int64} : ∀ (r t b m i : Nat) (S : zz_S), j < b → j < S.2.1 → sp_gF k ll r t b m i (sp_set j x S) = sp_set j x (sp_gF k ll r t b m i S)
  | 0, _, _, _, _, S, _, _ => rfl
  | r + 1, t, b, m, i, S, hb, h => by
    rw [sp_gF, sp_gF]
    exact sp_gm_set hb (fun S => sp_mk_le S) (fun S q => sp_set_mk q) (fun b S => sp_gF_le k ll r (t + 1) b (ll (t + 1)) 0 S) (fun b S q1 q2 => sp_gF_set k ll r (t + 1) b (ll (t + 1)) 0 S q1 q2) m i S h
theorem sp_gm_gl {F : Nat → zz_S → zz_S} {mk : zz_S → zz_S} {F2 : zz_S → zz_S} {base : Nat} (h2 : ∀ S, F2 S = F S.2.1 (mk S)) (hm : ∀ S, S.2.1 ≤ (mk S).2.1) (hF1 : ∀ b S, S.2.1 ≤ (F b S).2.1) (hF : ∀ j x b S, j < b → j < S.2.1 → F b (sp_set j x S) = sp_set j x (F b S)) : ∀ (m i : Nat) (S : zz_S), base + i + m ≤ S.2.1 → sp_gm F mk base m i S = sp_gl F2 base m i S
  | 0, _, S, _ => rfl
  | m + 1, i, S, hb => by
    have h1 := hm S
    have h3 := hF1 S.2.1 (mk S)
    rw [sp_gm, sp_gl, h2, hF (base + i) (lN S.1) S.2.1 (mk S) (by omega) (by omega)]
    have e3 : (sp_set (base + i) (lN S.1) (F S.2.1 (mk S))).2.1 = (F S.2.1 (mk S)).2.1 := rfl
    exact sp_gm_gl h2 hm hF1 hF m (i + 1) _ (by omega)
theorem sp_gF_M (k : Int32) (ll : Nat → Nat) : ∀ (r t : Nat) (S : zz_S), sp_gF k ll r t S.2.1 (ll t) 0 (sp_mk k (nI (r + 1)) (-1) (ll t) S) = sp_gridM k ll (r + 1) t S
  | 0, t, S => by rw [sp_gF, sp_gridM, if_pos rfl, if_pos rfl, sp_gl]
  | r + 1, t, S => by
    rw [sp_gF, sp_gridM, if_neg (by omega), if_neg (by omega)]
    have e2 : (sp_mk k (nI (r + 1 + 1)) (-1) (ll t) S).2.1 = S.2.1 + ll t := rfl
    exact sp_gm_gl (fun S => (sp_gF_M k ll r (t + 1) S).symm) (fun S => sp_mk_le S) (fun b S => sp_gF_le k ll r (t + 1) b (ll (t + 1)) 0 S) (fun j x b S q1 q2 => sp_gF_set k ll r (t + 1) b (ll (t + 1)) 0 S q1 q2) (ll t) 0 _ (by omega)
