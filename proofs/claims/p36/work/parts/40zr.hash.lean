/-- how a hash goes on -/
def sp_hl (P : Nat → Int32) : Nat → Nat → Int32 → Int32
  | 0, _, w => w
  | m + 1, i, w => sp_hl P m (i + 1) (31 * w + P i)
/-- the hash of an array of depth d -/
def sp_hs (na : Nat) (kd sa ln : Nat → Int32) (bt : Nat → Int64) : Nat → Nat → Int32
  | 0, _ => 0
  | d + 1, a => sp_hl (fun i => if d = 0 then fn_co_hashOf (kd a) (bt ((sa a).toNatClampNeg + i)) else (if fn_co_has (nI na) (bt ((sa a).toNatClampNeg + i)).toInt32 = 0 then 0 else sp_hs na kd sa ln bt d (bt ((sa a).toNatClampNeg + i)).toInt32.toNatClampNeg)) (ln a).toNatClampNeg 0 1
def sp_hS (na : Nat) (kd dp sa ln : Nat → Int32) (bt : Nat → Int64) (a : Nat) : Int32 := sp_hs na kd sa ln bt (dp a).toNatClampNeg a
/-- an element's part in it -/
def sp_hp (na : Nat) (kd dp sa ln : Nat → Int32) (bt : Nat → Int64) (a i : Nat) : Int32 := if dp a = 1 then fn_co_hashOf (kd a) (bt ((sa a).toNatClampNeg + i)) else (if fn_co_has (nI na) (bt ((sa a).toNatClampNeg + i)).toInt32 = 0 then 0 else sp_hS na kd dp sa ln bt (bt ((sa a).toNatClampNeg + i)).toInt32.toNatClampNeg)
theorem zl_hlC {P Q : Nat → Int32} : ∀ (m i : Nat) (w : Int32), (∀ j, i ≤ j → j < i + m → P j = Q j) → sp_hl P m i w = sp_hl Q m i w
  | 0, _, _, _ => rfl
  | m + 1, i, w, h => by
    rw [sp_hl, sp_hl, h i (Nat.le_refl _) (by omega)]
    exact zl_hlC m (i + 1) _ (fun j h1 h2 => h j (by omega) (by omega))
theorem zl_hlS {P : Nat → Int32} {m m' i : Nat} {w x : Int32} (e : m = m' + 1) (h : P i = x) : sp_hl P m i w = sp_hl P m' (i + 1) (31 * w + x) := by
  rw [e, sp_hl, h]
theorem zl_m1has {na : Nat} (hn : na ≤ 60) : fn_co_has (nI na) (-1 : Int64).toInt32 = 0 := by
  unfold fn_co_has
  rw [show (-1 : Int64).toInt32 = -1 by decide, if_pos (by decide)]
theorem zl_hasR {na r : Nat} (hn : na ≤ 60) (h : r < na) : ¬ fn_co_has (nI na) (nI r) = 0 := by
  unfold fn_co_has
  rw [if_neg (nI_pos (by omega)), if_neg (fun q => absurd ((nI_leI (by omega) (by omega)).mp q) (by omega))]
  decide
theorem zl_row {na ne a s l d i : Nat} {dp sa ln : Nat → Int32} {bt : Nat → Int64} {r : Nat} (hM : zz_MI na ne dp sa ln bt) (ha : a < na) (es : sa a = nI s) (el : ln a = nI l) (ed : dp a = nI d) (hs : s ≤ 4000) (hl : l ≤ 200) (h4 : d ≤ 4) (h1 : 1 < d) (hi : i < l) (hr : r < na) (e : (bt (s + i)).toInt32 = nI r) : ∀ dr : Nat, dp r = nI dr → dr ≤ 4 → dr + 1 = d := by
  intro dr ed' hd
  have hna := hM.1.1
  rcases hM.2.2 a s l d ha es el ed hs hl h4 h1 i hi with z | ⟨r', d', hr', er, edr, e'⟩
  · exfalso
    have q := zl_m1has hna
    rw [← z, e] at q
    exact zl_hasR hna hr q
  · rw [er, lN_i] at e
    have q : r' = r := (nI_eq (by omega) (by omega)).mp e
    rw [q] at edr
    have q2 : d' = dr := (nI_eq (by omega) (by omega)).mp (edr.symm.trans ed')
    omega
theorem zl_hsU {na ne a s l d : Nat} {kd dp sa ln : Nat → Int32} {bt : Nat → Int64} (hM : zz_MI na ne dp sa ln bt) (ha : a < na) (es : sa a = nI s) (el : ln a = nI l) (ed : dp a = nI d) (hs : s ≤ 4000) (hl : l ≤ 200) (h1 : 1 ≤ d) (h4 : d ≤ 4) : sp_hS na kd dp sa ln bt a = sp_hl (sp_hp na kd dp sa ln bt a) l 0 1 := by
  obtain ⟨d', rfl⟩ : ∃ d', d = d' + 1 := ⟨d - 1, by omega⟩
  have hna := hM.1.1
  have eS : (sa a).toNatClampNeg = s := by rw [es]; exact nI_clamp (by omega)
  unfold sp_hS
  rw [ed, nI_clamp (show d' + 1 < 2 ^ 31 by omega), sp_hs, el, nI_clamp (show l < 2 ^ 31 by omega)]
  refine zl_hlC l 0 1 (fun i _ hi => ?_)
  unfold sp_hp
  rw [eS]
  by_cases q : d' = 0
  · rw [if_pos q, if_pos (show dp a = 1 by rw [ed, q]; rfl)]
  · have n1 : ¬ dp a = 1 := fun z => q (by
      have w : nI (d' + 1) = nI 1 := ed.symm.trans z
      have := (nI_eq (by omega) (by omega)).mp w
      omega)
    rw [if_neg q, if_neg n1]
    by_cases c : fn_co_has (nI na) (bt (s + i)).toInt32 = 0
    · rw [if_pos c, if_pos c]
    · rw [if_neg c, if_neg c]
      obtain ⟨r, hr, er⟩ := zl_has hna c
      obtain ⟨sr, lr, dr, -, -, edr, -, -, -, k4⟩ := hM.1.2.2 r hr
      have e' := zl_row hM ha es el ed hs hl h4 (by omega) (by omega) hr er dr edr k4
      rw [er, nI_clamp (show r < 2 ^ 31 by omega)]
      unfold sp_hS
      rw [edr, nI_clamp (show dr < 2 ^ 31 by omega), show dr = d' by omega]
theorem zl_hp1 {na a s i : Nat} {kd dp sa ln : Nat → Int32} {bt : Nat → Int64} (h : dp a = 1) (es : sa a = nI s) (hs : s ≤ 4000) : sp_hp na kd dp sa ln bt a i = fn_co_hashOf (kd a) (bt (s + i)) := by
  unfold sp_hp
  rw [if_pos h, es, nI_clamp (by omega)]
theorem zl_hp0 {na a s i : Nat} {kd dp sa ln : Nat → Int32} {bt : Nat → Int64} (h : ¬ dp a = 1) (es : sa a = nI s) (hs : s ≤ 4000) (c : fn_co_has (nI na) (bt (s + i)).toInt32 = 0) : sp_hp na kd dp sa ln bt a i = 0 := by
  unfold sp_hp
  rw [if_neg h, es, nI_clamp (by omega), if_pos c]
theorem zl_hp2 {na a s i : Nat} {kd dp sa ln : Nat → Int32} {bt : Nat → Int64} {r : Nat} {x : Int32} (h : ¬ dp a = 1) (es : sa a = nI s) (hs : s ≤ 4000) (hn : na ≤ 60) (hr : r < na) (e : (bt (s + i)).toInt32 = nI r) (f : x = sp_hS na kd dp sa ln bt r) : sp_hp na kd dp sa ln bt a i = x := by
  unfold sp_hp
  rw [if_neg h, es, nI_clamp (by omega), e, if_neg (zl_hasR hn hr), nI_clamp (by omega)]
  exact f.symm
theorem zl_d3 {dp : Nat → Int32} {a d : Nat} (ed : dp a = nI d) (c : nI d = 1) : dp a = 1 := ed.trans c
theorem zl_d4 {dp : Nat → Int32} {a d : Nat} (ed : dp a = nI d) (c : ¬ nI d = 1) : ¬ dp a = 1 := fun z => c (ed.symm.trans z)
theorem zl_dle {d : Nat} (h1 : 1 ≤ d) (h4 : d ≤ 4) : nI d ≤ 1 ↔ nI d = 1 := by
  rw [show (1 : Int32) = nI 1 by decide, nI_leI (by omega) (by decide), nI_eq (by omega) (by decide)]
  omega
/-- notes of this round are right -/
def zz_DM (na : Nat) (F : Nat → Int32) (n : Nat) (dg ds : Nat → Int32) : Prop := ∀ j, j < na → dg j = nI n → ds j = F j
/-- rounds up to n -/
def zz_RB (n : Nat) (f : Nat → Int32) : Prop := ∀ j, ∃ m, m ≤ n ∧ f j = nI m
theorem zz_RB.mono {n n2 : Nat} {f : Nat → Int32} (h : zz_RB n f) (hn : n ≤ n2) : zz_RB n2 f := fun j => by
  obtain ⟨m, h1, h2⟩ := h j
  exact ⟨m, by omega, h2⟩
theorem zz_RB.set {n a : Nat} {f : Nat → Int32} (h : zz_RB n f) : zz_RB n (upd f a (nI n)) := fun j => by
  by_cases q : j = a
  · rw [q, pk_us]; exact ⟨n, Nat.le_refl _, rfl⟩
  · rw [pk_un q]; exact h j
theorem zz_DM.new {na n : Nat} {F dg ds : Nat → Int32} (h : zz_RB n dg) (hn : n ≤ 600) : zz_DM na F (n + 1) dg ds := fun j _ e => by
  obtain ⟨m, h1, h2⟩ := h j
  have := (nI_eq (by omega) (by omega)).mp (h2.symm.trans e)
  omega
theorem zz_DM.set {na n a : Nat} {F dg ds : Nat → Int32} {w : Int32} (h : zz_DM na F n dg ds) (e : w = F a) : zz_DM na F n (upd dg a (nI n)) (upd ds a w) := fun j hj ej => by
  by_cases q : j = a
  · rw [q, pk_us]; exact e
  · rw [pk_un q] at ej ⊢; exact h j hj ej
/-- the reference's table: arrays of smaller depth -/
def zz_HT (na : Nat) (F dp : Nat → Int32) (d : Nat) (ha : Nat → Int32) : Prop := ∀ x e : Nat, x < na → dp x = nI e → e ≤ 4 → e < d → ha x = F x
theorem zz_HT.one {na ne : Nat} {F dp sa ln ha : Nat → Int32} (h : zz_SI na ne dp sa ln) : zz_HT na F dp 1 ha := fun x e hx ex he h1 => by
  obtain ⟨_, _, d, _, _, ed, _, _, k3, k4⟩ := h.2.2 x hx
  have := (nI_eq (by omega) (by omega)).mp (ex.symm.trans ed)
  omega
theorem zz_HT.mono {na d d2 : Nat} {F dp ha : Nat → Int32} (h : zz_HT na F dp d ha) (hd : d2 ≤ d) : zz_HT na F dp d2 ha := fun x e hx ex he h1 => h x e hx ex he (by omega)
theorem zz_HT.up {na d x : Nat} {F dp ha : Nat → Int32} {v : Int32} (h : zz_HT na F dp d ha) (hd : d ≤ 4) (ex : dp x = nI d) : zz_HT na F dp d (upd ha x v) := fun y e hy ey he h1 => by
  by_cases q : y = x
  · exfalso
    rw [q] at ey
    have := (nI_eq (by omega) (by omega)).mp (ey.symm.trans ex)
    omega
  · rw [pk_un q]; exact h y e hy ey he h1
theorem zl_updI (f : Nat → Int32) (x : Nat) : upd f x (f x) = f := funext fun j => by
  by_cases q : j = x
  · rw [q, pk_us]
  · rw [pk_un q]
theorem zz_HT.next {na d : Nat} {F dp ha : Nat → Int32} (h : zz_HT na F dp d ha) (hd : d ≤ 4) (h2 : ∀ x, x < na → dp x = nI d → ha x = F x) : zz_HT na F dp (d + 1) ha := fun x e hx ex he h1 => by
  by_cases q : e = d
  · rw [q] at ex; exact h2 x hx ex
  · exact h x e hx ex he (by omega)
theorem zl_gt1 {d : Nat} (h1 : 1 ≤ d) (c : ¬ nI d = 1) : 1 < d := by
  rcases Nat.lt_or_eq_of_le h1 with q | q
  · exact q
  · exact absurd (by rw [← q]; rfl) c
theorem dg_X2_digestAt_0 : (decode cX2_digestAt 0 = .ok (.iload_n 2, 1)) ∧ (decode cX2_digestAt 1 = .ok (.iconst 4, 1)) ∧ (decode cX2_digestAt 2 = .ok (.if_icmp .le 5, 3)) ∧ (decode cX2_digestAt 5 = .ok (.iconst 0, 1)) ∧ (decode cX2_digestAt 6 = .ok (.ireturn, 1)) ∧ (decode cX2_digestAt 7 = .ok (.aload_n 0, 1)) ∧ (decode cX2_digestAt 8 = .ok (.getfield 15, 3)) ∧ (decode cX2_digestAt 11 = .ok (.iload_n 1, 1)) ∧ (decode cX2_digestAt 12 = .ok (.iaload, 1)) ∧ (decode cX2_digestAt 13 = .ok (.aload_n 0, 1)) ∧ (decode cX2_digestAt 14 = .ok (.getfield 25, 3)) ∧ (decode cX2_digestAt 17 = .ok (.if_icmp .ne 10, 3)) ∧ (decode cX2_digestAt 20 = .ok (.aload_n 0, 1)) ∧ (decode cX2_digestAt 21 = .ok (.getfield 18, 3)) ∧ (decode cX2_digestAt 24 = .ok (.iload_n 1, 1)) ∧ (decode cX2_digestAt 25 = .ok (.iaload, 1)) := by decide +kernel
theorem dX2_digestAt_0 : decode cX2_digestAt 0 = .ok (.iload_n 2, 1) := dg_X2_digestAt_0.1
theorem dX2_digestAt_1 : decode cX2_digestAt 1 = .ok (.iconst 4, 1) := dg_X2_digestAt_0.2.1
theorem dX2_digestAt_2 : decode cX2_digestAt 2 = .ok (.if_icmp .le 5, 3) := dg_X2_digestAt_0.2.2.1
theorem dX2_digestAt_5 : decode cX2_digestAt 5 = .ok (.iconst 0, 1) := dg_X2_digestAt_0.2.2.2.1
theorem dX2_digestAt_6 : decode cX2_digestAt 6 = .ok (.ireturn, 1) := dg_X2_digestAt_0.2.2.2.2.1
theorem dX2_digestAt_7 : decode cX2_digestAt 7 = .ok (.aload_n 0, 1) := dg_X2_digestAt_0.2.2.2.2.2.1
theorem dX2_digestAt_8 : decode cX2_digestAt 8 = .ok (.getfield 15, 3) := dg_X2_digestAt_0.2.2.2.2.2.2.1
theorem dX2_digestAt_11 : decode cX2_digestAt 11 = .ok (.iload_n 1, 1) := dg_X2_digestAt_0.2.2.2.2.2.2.2.1
theorem dX2_digestAt_12 : decode cX2_digestAt 12 = .ok (.iaload, 1) := dg_X2_digestAt_0.2.2.2.2.2.2.2.2.1
theorem dX2_digestAt_13 : decode cX2_digestAt 13 = .ok (.aload_n 0, 1) := dg_X2_digestAt_0.2.2.2.2.2.2.2.2.2.1
theorem dX2_digestAt_14 : decode cX2_digestAt 14 = .ok (.getfield 25, 3) := dg_X2_digestAt_0.2.2.2.2.2.2.2.2.2.2.1
theorem dX2_digestAt_17 : decode cX2_digestAt 17 = .ok (.if_icmp .ne 10, 3) := dg_X2_digestAt_0.2.2.2.2.2.2.2.2.2.2.2.1
theorem dX2_digestAt_20 : decode cX2_digestAt 20 = .ok (.aload_n 0, 1) := dg_X2_digestAt_0.2.2.2.2.2.2.2.2.2.2.2.2.1
theorem dX2_digestAt_21 : decode cX2_digestAt 21 = .ok (.getfield 18, 3) := dg_X2_digestAt_0.2.2.2.2.2.2.2.2.2.2.2.2.2.1
theorem dX2_digestAt_24 : decode cX2_digestAt 24 = .ok (.iload_n 1, 1) := dg_X2_digestAt_0.2.2.2.2.2.2.2.2.2.2.2.2.2.2.1
theorem dX2_digestAt_25 : decode cX2_digestAt 25 = .ok (.iaload, 1) := dg_X2_digestAt_0.2.2.2.2.2.2.2.2.2.2.2.2.2.2.2
theorem dg_X2_digestAt_26 : (decode cX2_digestAt 26 = .ok (.ireturn, 1)) ∧ (decode cX2_digestAt 27 = .ok (.aload_n 0, 1)) ∧ (decode cX2_digestAt 28 = .ok (.getfield 21, 3)) ∧ (decode cX2_digestAt 31 = .ok (.getfield 37, 3)) ∧ (decode cX2_digestAt 34 = .ok (.iload_n 1, 1)) ∧ (decode cX2_digestAt 35 = .ok (.iaload, 1)) ∧ (decode cX2_digestAt 36 = .ok (.iconst 1, 1)) ∧ (decode cX2_digestAt 37 = .ok (.if_icmp .ne 7, 3)) ∧ (decode cX2_digestAt 40 = .ok (.iconst 1, 1)) ∧ (decode cX2_digestAt 41 = .ok (.goto 4, 3)) ∧ (decode cX2_digestAt 44 = .ok (.iconst 0, 1)) ∧ (decode cX2_digestAt 45 = .ok (.istore_n 3, 1)) ∧ (decode cX2_digestAt 46 = .ok (.iconst 1, 1)) ∧ (decode cX2_digestAt 47 = .ok (.istore 4, 2)) ∧ (decode cX2_digestAt 49 = .ok (.iconst 0, 1)) ∧ (decode cX2_digestAt 50 = .ok (.istore 5, 2)) := by decide +kernel
theorem dX2_digestAt_26 : decode cX2_digestAt 26 = .ok (.ireturn, 1) := dg_X2_digestAt_26.1
theorem dX2_digestAt_27 : decode cX2_digestAt 27 = .ok (.aload_n 0, 1) := dg_X2_digestAt_26.2.1
theorem dX2_digestAt_28 : decode cX2_digestAt 28 = .ok (.getfield 21, 3) := dg_X2_digestAt_26.2.2.1
theorem dX2_digestAt_31 : decode cX2_digestAt 31 = .ok (.getfield 37, 3) := dg_X2_digestAt_26.2.2.2.1
theorem dX2_digestAt_34 : decode cX2_digestAt 34 = .ok (.iload_n 1, 1) := dg_X2_digestAt_26.2.2.2.2.1
theorem dX2_digestAt_35 : decode cX2_digestAt 35 = .ok (.iaload, 1) := dg_X2_digestAt_26.2.2.2.2.2.1
theorem dX2_digestAt_36 : decode cX2_digestAt 36 = .ok (.iconst 1, 1) := dg_X2_digestAt_26.2.2.2.2.2.2.1
theorem dX2_digestAt_37 : decode cX2_digestAt 37 = .ok (.if_icmp .ne 7, 3) := dg_X2_digestAt_26.2.2.2.2.2.2.2.1
theorem dX2_digestAt_40 : decode cX2_digestAt 40 = .ok (.iconst 1, 1) := dg_X2_digestAt_26.2.2.2.2.2.2.2.2.1
theorem dX2_digestAt_41 : decode cX2_digestAt 41 = .ok (.goto 4, 3) := dg_X2_digestAt_26.2.2.2.2.2.2.2.2.2.1
theorem dX2_digestAt_44 : decode cX2_digestAt 44 = .ok (.iconst 0, 1) := dg_X2_digestAt_26.2.2.2.2.2.2.2.2.2.2.1
theorem dX2_digestAt_45 : decode cX2_digestAt 45 = .ok (.istore_n 3, 1) := dg_X2_digestAt_26.2.2.2.2.2.2.2.2.2.2.2.1
theorem dX2_digestAt_46 : decode cX2_digestAt 46 = .ok (.iconst 1, 1) := dg_X2_digestAt_26.2.2.2.2.2.2.2.2.2.2.2.2.1
theorem dX2_digestAt_47 : decode cX2_digestAt 47 = .ok (.istore 4, 2) := dg_X2_digestAt_26.2.2.2.2.2.2.2.2.2.2.2.2.2.1
theorem dX2_digestAt_49 : decode cX2_digestAt 49 = .ok (.iconst 0, 1) := dg_X2_digestAt_26.2.2.2.2.2.2.2.2.2.2.2.2.2.2.1
theorem dX2_digestAt_50 : decode cX2_digestAt 50 = .ok (.istore 5, 2) := dg_X2_digestAt_26.2.2.2.2.2.2.2.2.2.2.2.2.2.2.2
theorem dg_X2_digestAt_52 : (decode cX2_digestAt 52 = .ok (.iload 5, 2)) ∧ (decode cX2_digestAt 54 = .ok (.aload_n 0, 1)) ∧ (decode cX2_digestAt 55 = .ok (.getfield 21, 3)) ∧ (decode cX2_digestAt 58 = .ok (.getfield 42, 3)) ∧ (decode cX2_digestAt 61 = .ok (.iload_n 1, 1)) ∧ (decode cX2_digestAt 62 = .ok (.iaload, 1)) ∧ (decode cX2_digestAt 63 = .ok (.if_icmp .ge 92, 3)) ∧ (decode cX2_digestAt 66 = .ok (.aload_n 0, 1)) ∧ (decode cX2_digestAt 67 = .ok (.getfield 21, 3)) ∧ (decode cX2_digestAt 70 = .ok (.getfield 45, 3)) ∧ (decode cX2_digestAt 73 = .ok (.aload_n 0, 1)) ∧ (decode cX2_digestAt 74 = .ok (.getfield 21, 3)) ∧ (decode cX2_digestAt 77 = .ok (.getfield 49, 3)) ∧ (decode cX2_digestAt 80 = .ok (.iload_n 1, 1)) ∧ (decode cX2_digestAt 81 = .ok (.iaload, 1)) ∧ (decode cX2_digestAt 82 = .ok (.iload 5, 2)) := by decide +kernel
theorem dX2_digestAt_52 : decode cX2_digestAt 52 = .ok (.iload 5, 2) := dg_X2_digestAt_52.1
theorem dX2_digestAt_54 : decode cX2_digestAt 54 = .ok (.aload_n 0, 1) := dg_X2_digestAt_52.2.1
theorem dX2_digestAt_55 : decode cX2_digestAt 55 = .ok (.getfield 21, 3) := dg_X2_digestAt_52.2.2.1
theorem dX2_digestAt_58 : decode cX2_digestAt 58 = .ok (.getfield 42, 3) := dg_X2_digestAt_52.2.2.2.1
theorem dX2_digestAt_61 : decode cX2_digestAt 61 = .ok (.iload_n 1, 1) := dg_X2_digestAt_52.2.2.2.2.1
theorem dX2_digestAt_62 : decode cX2_digestAt 62 = .ok (.iaload, 1) := dg_X2_digestAt_52.2.2.2.2.2.1
theorem dX2_digestAt_63 : decode cX2_digestAt 63 = .ok (.if_icmp .ge 92, 3) := dg_X2_digestAt_52.2.2.2.2.2.2.1
theorem dX2_digestAt_66 : decode cX2_digestAt 66 = .ok (.aload_n 0, 1) := dg_X2_digestAt_52.2.2.2.2.2.2.2.1
theorem dX2_digestAt_67 : decode cX2_digestAt 67 = .ok (.getfield 21, 3) := dg_X2_digestAt_52.2.2.2.2.2.2.2.2.1
theorem dX2_digestAt_70 : decode cX2_digestAt 70 = .ok (.getfield 45, 3) := dg_X2_digestAt_52.2.2.2.2.2.2.2.2.2.1
theorem dX2_digestAt_73 : decode cX2_digestAt 73 = .ok (.aload_n 0, 1) := dg_X2_digestAt_52.2.2.2.2.2.2.2.2.2.2.1
theorem dX2_digestAt_74 : decode cX2_digestAt 74 = .ok (.getfield 21, 3) := dg_X2_digestAt_52.2.2.2.2.2.2.2.2.2.2.2.1
theorem dX2_digestAt_77 : decode cX2_digestAt 77 = .ok (.getfield 49, 3) := dg_X2_digestAt_52.2.2.2.2.2.2.2.2.2.2.2.2.1
theorem dX2_digestAt_80 : decode cX2_digestAt 80 = .ok (.iload_n 1, 1) := dg_X2_digestAt_52.2.2.2.2.2.2.2.2.2.2.2.2.2.1
theorem dX2_digestAt_81 : decode cX2_digestAt 81 = .ok (.iaload, 1) := dg_X2_digestAt_52.2.2.2.2.2.2.2.2.2.2.2.2.2.2.1
theorem dX2_digestAt_82 : decode cX2_digestAt 82 = .ok (.iload 5, 2) := dg_X2_digestAt_52.2.2.2.2.2.2.2.2.2.2.2.2.2.2.2
theorem dg_X2_digestAt_84 : (decode cX2_digestAt 84 = .ok (.iadd, 1)) ∧ (decode cX2_digestAt 85 = .ok (.laload, 1)) ∧ (decode cX2_digestAt 86 = .ok (.lstore 6, 2)) ∧ (decode cX2_digestAt 88 = .ok (.iconst 0, 1)) ∧ (decode cX2_digestAt 89 = .ok (.istore 8, 2)) ∧ (decode cX2_digestAt 91 = .ok (.iload_n 3, 1)) ∧ (decode cX2_digestAt 92 = .ok (.ifCond .eq 22, 3)) ∧ (decode cX2_digestAt 95 = .ok (.aload_n 0, 1)) ∧ (decode cX2_digestAt 96 = .ok (.getfield 21, 3)) ∧ (decode cX2_digestAt 99 = .ok (.getfield 59, 3)) ∧ (decode cX2_digestAt 102 = .ok (.iload_n 1, 1)) ∧ (decode cX2_digestAt 103 = .ok (.iaload, 1)) ∧ (decode cX2_digestAt 104 = .ok (.lload 6, 2)) ∧ (decode cX2_digestAt 106 = .ok (.invokestatic 66, 3)) ∧ (decode cX2_digestAt 109 = .ok (.istore 8, 2)) ∧ (decode cX2_digestAt 111 = .ok (.goto 28, 3)) := by decide +kernel
theorem dX2_digestAt_84 : decode cX2_digestAt 84 = .ok (.iadd, 1) := dg_X2_digestAt_84.1
theorem dX2_digestAt_85 : decode cX2_digestAt 85 = .ok (.laload, 1) := dg_X2_digestAt_84.2.1
theorem dX2_digestAt_86 : decode cX2_digestAt 86 = .ok (.lstore 6, 2) := dg_X2_digestAt_84.2.2.1
theorem dX2_digestAt_88 : decode cX2_digestAt 88 = .ok (.iconst 0, 1) := dg_X2_digestAt_84.2.2.2.1
theorem dX2_digestAt_89 : decode cX2_digestAt 89 = .ok (.istore 8, 2) := dg_X2_digestAt_84.2.2.2.2.1
theorem dX2_digestAt_91 : decode cX2_digestAt 91 = .ok (.iload_n 3, 1) := dg_X2_digestAt_84.2.2.2.2.2.1
theorem dX2_digestAt_92 : decode cX2_digestAt 92 = .ok (.ifCond .eq 22, 3) := dg_X2_digestAt_84.2.2.2.2.2.2.1
theorem dX2_digestAt_95 : decode cX2_digestAt 95 = .ok (.aload_n 0, 1) := dg_X2_digestAt_84.2.2.2.2.2.2.2.1
theorem dX2_digestAt_96 : decode cX2_digestAt 96 = .ok (.getfield 21, 3) := dg_X2_digestAt_84.2.2.2.2.2.2.2.2.1
theorem dX2_digestAt_99 : decode cX2_digestAt 99 = .ok (.getfield 59, 3) := dg_X2_digestAt_84.2.2.2.2.2.2.2.2.2.1
theorem dX2_digestAt_102 : decode cX2_digestAt 102 = .ok (.iload_n 1, 1) := dg_X2_digestAt_84.2.2.2.2.2.2.2.2.2.2.1
theorem dX2_digestAt_103 : decode cX2_digestAt 103 = .ok (.iaload, 1) := dg_X2_digestAt_84.2.2.2.2.2.2.2.2.2.2.2.1
theorem dX2_digestAt_104 : decode cX2_digestAt 104 = .ok (.lload 6, 2) := dg_X2_digestAt_84.2.2.2.2.2.2.2.2.2.2.2.2.1
theorem dX2_digestAt_106 : decode cX2_digestAt 106 = .ok (.invokestatic 66, 3) := dg_X2_digestAt_84.2.2.2.2.2.2.2.2.2.2.2.2.2.1
theorem dX2_digestAt_109 : decode cX2_digestAt 109 = .ok (.istore 8, 2) := dg_X2_digestAt_84.2.2.2.2.2.2.2.2.2.2.2.2.2.2.1
theorem dX2_digestAt_111 : decode cX2_digestAt 111 = .ok (.goto 28, 3) := dg_X2_digestAt_84.2.2.2.2.2.2.2.2.2.2.2.2.2.2.2
theorem dg_X2_digestAt_114 : (decode cX2_digestAt 114 = .ok (.aload_n 0, 1)) ∧ (decode cX2_digestAt 115 = .ok (.getfield 21, 3)) ∧ (decode cX2_digestAt 118 = .ok (.lload 6, 2)) ∧ (decode cX2_digestAt 120 = .ok (.l2i, 1)) ∧ (decode cX2_digestAt 121 = .ok (.invokevirtual 55, 3)) ∧ (decode cX2_digestAt 124 = .ok (.ifCond .eq 15, 3)) ∧ (decode cX2_digestAt 127 = .ok (.aload_n 0, 1)) ∧ (decode cX2_digestAt 128 = .ok (.lload 6, 2)) ∧ (decode cX2_digestAt 130 = .ok (.l2i, 1)) ∧ (decode cX2_digestAt 131 = .ok (.iload_n 2, 1)) ∧ (decode cX2_digestAt 132 = .ok (.iconst 1, 1)) ∧ (decode cX2_digestAt 133 = .ok (.iadd, 1)) ∧ (decode cX2_digestAt 134 = .ok (.invokevirtual 62, 3)) ∧ (decode cX2_digestAt 137 = .ok (.istore 8, 2)) ∧ (decode cX2_digestAt 139 = .ok (.bipush 31, 2)) ∧ (decode cX2_digestAt 141 = .ok (.iload 4, 2)) := by decide +kernel
theorem dX2_digestAt_114 : decode cX2_digestAt 114 = .ok (.aload_n 0, 1) := dg_X2_digestAt_114.1
theorem dX2_digestAt_115 : decode cX2_digestAt 115 = .ok (.getfield 21, 3) := dg_X2_digestAt_114.2.1
theorem dX2_digestAt_118 : decode cX2_digestAt 118 = .ok (.lload 6, 2) := dg_X2_digestAt_114.2.2.1
theorem dX2_digestAt_120 : decode cX2_digestAt 120 = .ok (.l2i, 1) := dg_X2_digestAt_114.2.2.2.1
theorem dX2_digestAt_121 : decode cX2_digestAt 121 = .ok (.invokevirtual 55, 3) := dg_X2_digestAt_114.2.2.2.2.1
theorem dX2_digestAt_124 : decode cX2_digestAt 124 = .ok (.ifCond .eq 15, 3) := dg_X2_digestAt_114.2.2.2.2.2.1
theorem dX2_digestAt_127 : decode cX2_digestAt 127 = .ok (.aload_n 0, 1) := dg_X2_digestAt_114.2.2.2.2.2.2.1
theorem dX2_digestAt_128 : decode cX2_digestAt 128 = .ok (.lload 6, 2) := dg_X2_digestAt_114.2.2.2.2.2.2.2.1
theorem dX2_digestAt_130 : decode cX2_digestAt 130 = .ok (.l2i, 1) := dg_X2_digestAt_114.2.2.2.2.2.2.2.2.1
theorem dX2_digestAt_131 : decode cX2_digestAt 131 = .ok (.iload_n 2, 1) := dg_X2_digestAt_114.2.2.2.2.2.2.2.2.2.1
theorem dX2_digestAt_132 : decode cX2_digestAt 132 = .ok (.iconst 1, 1) := dg_X2_digestAt_114.2.2.2.2.2.2.2.2.2.2.1
theorem dX2_digestAt_133 : decode cX2_digestAt 133 = .ok (.iadd, 1) := dg_X2_digestAt_114.2.2.2.2.2.2.2.2.2.2.2.1
theorem dX2_digestAt_134 : decode cX2_digestAt 134 = .ok (.invokevirtual 62, 3) := dg_X2_digestAt_114.2.2.2.2.2.2.2.2.2.2.2.2.1
theorem dX2_digestAt_137 : decode cX2_digestAt 137 = .ok (.istore 8, 2) := dg_X2_digestAt_114.2.2.2.2.2.2.2.2.2.2.2.2.2.1
theorem dX2_digestAt_139 : decode cX2_digestAt 139 = .ok (.bipush 31, 2) := dg_X2_digestAt_114.2.2.2.2.2.2.2.2.2.2.2.2.2.2.1
theorem dX2_digestAt_141 : decode cX2_digestAt 141 = .ok (.iload 4, 2) := dg_X2_digestAt_114.2.2.2.2.2.2.2.2.2.2.2.2.2.2.2
theorem dg_X2_digestAt_143 : (decode cX2_digestAt 143 = .ok (.imul, 1)) ∧ (decode cX2_digestAt 144 = .ok (.iload 8, 2)) ∧ (decode cX2_digestAt 146 = .ok (.iadd, 1)) ∧ (decode cX2_digestAt 147 = .ok (.istore 4, 2)) ∧ (decode cX2_digestAt 149 = .ok (.iinc 5 1, 3)) ∧ (decode cX2_digestAt 152 = .ok (.goto (-100), 3)) ∧ (decode cX2_digestAt 155 = .ok (.aload_n 0, 1)) ∧ (decode cX2_digestAt 156 = .ok (.getfield 15, 3)) ∧ (decode cX2_digestAt 159 = .ok (.iload_n 1, 1)) ∧ (decode cX2_digestAt 160 = .ok (.aload_n 0, 1)) ∧ (decode cX2_digestAt 161 = .ok (.getfield 25, 3)) ∧ (decode cX2_digestAt 164 = .ok (.iastore, 1)) ∧ (decode cX2_digestAt 165 = .ok (.aload_n 0, 1)) ∧ (decode cX2_digestAt 166 = .ok (.getfield 18, 3)) ∧ (decode cX2_digestAt 169 = .ok (.iload_n 1, 1)) ∧ (decode cX2_digestAt 170 = .ok (.iload 4, 2)) := by decide +kernel
theorem dX2_digestAt_143 : decode cX2_digestAt 143 = .ok (.imul, 1) := dg_X2_digestAt_143.1
theorem dX2_digestAt_144 : decode cX2_digestAt 144 = .ok (.iload 8, 2) := dg_X2_digestAt_143.2.1
theorem dX2_digestAt_146 : decode cX2_digestAt 146 = .ok (.iadd, 1) := dg_X2_digestAt_143.2.2.1
theorem dX2_digestAt_147 : decode cX2_digestAt 147 = .ok (.istore 4, 2) := dg_X2_digestAt_143.2.2.2.1
theorem dX2_digestAt_149 : decode cX2_digestAt 149 = .ok (.iinc 5 1, 3) := dg_X2_digestAt_143.2.2.2.2.1
theorem dX2_digestAt_152 : decode cX2_digestAt 152 = .ok (.goto (-100), 3) := dg_X2_digestAt_143.2.2.2.2.2.1
theorem dX2_digestAt_155 : decode cX2_digestAt 155 = .ok (.aload_n 0, 1) := dg_X2_digestAt_143.2.2.2.2.2.2.1
theorem dX2_digestAt_156 : decode cX2_digestAt 156 = .ok (.getfield 15, 3) := dg_X2_digestAt_143.2.2.2.2.2.2.2.1
theorem dX2_digestAt_159 : decode cX2_digestAt 159 = .ok (.iload_n 1, 1) := dg_X2_digestAt_143.2.2.2.2.2.2.2.2.1
theorem dX2_digestAt_160 : decode cX2_digestAt 160 = .ok (.aload_n 0, 1) := dg_X2_digestAt_143.2.2.2.2.2.2.2.2.2.1
theorem dX2_digestAt_161 : decode cX2_digestAt 161 = .ok (.getfield 25, 3) := dg_X2_digestAt_143.2.2.2.2.2.2.2.2.2.2.1
theorem dX2_digestAt_164 : decode cX2_digestAt 164 = .ok (.iastore, 1) := dg_X2_digestAt_143.2.2.2.2.2.2.2.2.2.2.2.1
theorem dX2_digestAt_165 : decode cX2_digestAt 165 = .ok (.aload_n 0, 1) := dg_X2_digestAt_143.2.2.2.2.2.2.2.2.2.2.2.2.1
theorem dX2_digestAt_166 : decode cX2_digestAt 166 = .ok (.getfield 18, 3) := dg_X2_digestAt_143.2.2.2.2.2.2.2.2.2.2.2.2.2.1
theorem dX2_digestAt_169 : decode cX2_digestAt 169 = .ok (.iload_n 1, 1) := dg_X2_digestAt_143.2.2.2.2.2.2.2.2.2.2.2.2.2.2.1
theorem dX2_digestAt_170 : decode cX2_digestAt 170 = .ok (.iload 4, 2) := dg_X2_digestAt_143.2.2.2.2.2.2.2.2.2.2.2.2.2.2.2
theorem dg_X2_digestAt_172 : (decode cX2_digestAt 172 = .ok (.iastore, 1)) ∧ (decode cX2_digestAt 173 = .ok (.iload 4, 2)) ∧ (decode cX2_digestAt 175 = .ok (.ireturn, 1)) := by decide +kernel
theorem dX2_digestAt_172 : decode cX2_digestAt 172 = .ok (.iastore, 1) := dg_X2_digestAt_172.1
theorem dX2_digestAt_173 : decode cX2_digestAt 173 = .ok (.iload 4, 2) := dg_X2_digestAt_172.2.1
theorem dX2_digestAt_175 : decode cX2_digestAt 175 = .ok (.ireturn, 1) := dg_X2_digestAt_172.2.2
abbrev rm_co_dig5 : Room := { frames := 0, cells := 0, slots := 0, locals := 0 }
abbrev po_co_dig5 (g : zz_G) (lk : Nat) (l_ag : Nat) (l_dg : Nat) (l_ds : Nat) (st : Nat) (kd : Nat) (dp : Nat) (cl : Nat) (sa : Nat) (ln : Nat) (bt : Nat) (pn : Nat) (bf : Nat) (na : Nat) (nu : Nat) (n : Nat) (kdf : Nat → Int32) (dpf : Nat → Int32) (saf : Nat → Int32) (lnf : Nat → Int32) (btf : Nat → Int64) (dgf : Nat → Int32) (dsf : Nat → Int32) (a : Nat) (h_M : zz_MI na nu dpf saf lnf btf) (h_a : a < na) (h_v : ∀ dr : Nat, dpf a = nI dr → dr ≤ 4 → dr + 5 ≤ 5) (h_m : zz_DM na (sp_hS na kdf dpf saf lnf btf) n dgf dsf) (h_q : zz_RB n dgf) : Int32 → va_W → Prop := fun (r : Int32) (u : va_W) => ∃ (dg2 : Nat → Int32) (ds2 : Nat → Int32), (r = sp_hS na kdf dpf saf lnf btf a) ∧ (zz_DM na (sp_hS na kdf dpf saf lnf btf) n dg2 ds2) ∧ (zz_RB n dg2) ∧ u = [cw_k1 lk st (nI n) l_ag l_dg l_ds, cw_i g l_dg 60 dg2, cw_i g l_ds 60 ds2, cw_k5 st (nI na) (nI nu) kd dp cl sa ln bt pn bf, cw_i g kd 60 kdf, cw_i g dp 60 dpf, cw_i g sa 60 saf, cw_i g ln 60 lnf, cw_l g bt 4000 btf]
set_option maxHeartbeats 4000000 in
set_option maxRecDepth 100000 in
theorem co_dig5 (g : zz_G) (lk : Nat) (l_ag : Nat) (l_dg : Nat) (l_ds : Nat) (st : Nat) (kd : Nat) (dp : Nat) (cl : Nat) (sa : Nat) (ln : Nat) (bt : Nat) (pn : Nat) (bf : Nat) (na : Nat) (nu : Nat) (n : Nat) (kdf : Nat → Int32) (dpf : Nat → Int32) (saf : Nat → Int32) (lnf : Nat → Int32) (btf : Nat → Int64) (dgf : Nat → Int32) (dsf : Nat → Int32) (a : Nat) (h_M : zz_MI na nu dpf saf lnf btf) (h_a : a < na) (h_v : ∀ dr : Nat, dpf a = nI dr → dr ≤ 4 → dr + 5 ≤ 5) (h_m : zz_DM na (sp_hS na kdf dpf saf lnf btf) n dgf dsf) (h_q : zz_RB n dgf) : zz_I g yX2_digestAt (.code yX2_digestAt cX2_digestAt 9 (some .int)) rm_co_dig5 [.ref lk, .int (nI a), .int 5] [cw_k1 lk st (nI n) l_ag l_dg l_ds, cw_i g l_dg 60 dgf, cw_i g l_ds 60 dsf, cw_k5 st (nI na) (nI nu) kd dp cl sa ln bt pn bf, cw_i g kd 60 kdf, cw_i g dp 60 dpf, cw_i g sa 60 saf, cw_i g ln 60 lnf, cw_l g bt 4000 btf] (po_co_dig5 g lk l_ag l_dg l_ds st kd dp cl sa ln bt pn bf na nu n kdf dpf saf lnf btf dgf dsf a h_M h_a h_v h_m h_q) := by
  refine zz_I.intro (own := RX2) (cc := cX2_digestAt) (nL := 9) (by decide) rfl (Nat.le_of_ble_eq_true rfl) ?_
  intro p l e s m args below meth c A H locs ls hC hnm hs hZ hl
  obtain ⟨hx, hb, hml, hown, hts, hr, hlocks, hK⟩ := id hC
  have hl : lv_has ls 9 [(0, .ref lk), (1, .int (nI a)), (2, .int 5)] := hl
  have hZ : zz_Z g A s.heap [cw_k1 lk st (nI n) l_ag l_dg l_ds, cw_i g l_dg 60 dgf, cw_i g l_ds 60 dsf, cw_k5 st (nI na) (nI nu) kd dp cl sa ln bt pn bf, cw_i g kd 60 kdf, cw_i g dp 60 dpf, cw_i g sa 60 saf, cw_i g ln 60 lnf, cw_l g bt 4000 btf] H locs := hZ
  have h_S := h_M.1
  have hna := h_S.1
  have hnu := h_S.2.1
  obtain ⟨sz, lz, dz, es, el, ed, g1, g2, g3, g4⟩ := h_S.2.2 a h_a
  have hv := h_v dz ed (by omega)
  have hU := zl_hsU (kd := kdf) h_M h_a es el ed (by omega) (by omega) (by omega) (by omega)
  refine lv_iload_n hx hb dX2_digestAt_0 rfl (lv_at hl 2 rfl) ?_
  refine lv_iconst (v := 4) hx hb dX2_digestAt_1 (by decide) ?_
  refine lv_icmp_le (tgt := 7) hx hb dX2_digestAt_2 (by decide) (fun c => absurd c (by decide)) (fun c1 => ?_)
  refine lv_iconst (v := 0) hx hb dX2_digestAt_5 (by decide) ?_
  exact zz_iret hC hZ (⟨dgf, dsf, absurd hv (by omega), h_m, h_q, rfl⟩) (Nat.le_of_ble_eq_true rfl) (Nat.le_of_ble_eq_true rfl) dX2_digestAt_6
theorem zf_X2_15 : zz_f RX2 15 1 3 := ⟨RX2, TX2, 5, rfl, zi_X2, by decide, zk_118⟩
theorem zk_116 : Cond.fieldLink RX2 25 RX2 "round" "I" ∈ zz_w := zz_in (List.mem_append_right _ (List.mem_append_left _ (List.mem_of_getElem? (i := 116) (by decide +kernel)))) rfl
theorem zf_X2_25 : zz_f RX2 25 1 1 := ⟨RX2, TX2, 5, rfl, zi_X2, by decide, zk_116⟩
theorem zf_X2_18 : zz_f RX2 18 1 4 := ⟨RX2, TX2, 5, rfl, zi_X2, by decide, zk_119⟩
theorem zk_56 : Cond.fieldLink RX2 45 RX6 "bits" "[J" ∈ zz_w := zz_in (List.mem_append_right _ (List.mem_append_left _ (List.mem_of_getElem? (i := 56) (by decide +kernel)))) rfl
theorem zf_X2_45 : zz_f RX2 45 5 7 := ⟨RX6, TX6, 10, rfl, zi_X6, by decide, zk_56⟩
theorem zk_45 : Cond.fieldLink RX2 49 RX6 "start" "[I" ∈ zz_w := zz_in (List.mem_append_right _ (List.mem_append_left _ (List.mem_of_getElem? (i := 45) (by decide +kernel)))) rfl
theorem zf_X2_49 : zz_f RX2 49 5 5 := ⟨RX6, TX6, 10, rfl, zi_X6, by decide, zk_45⟩
theorem zk_513 : Cond.methodLink RX2 55 yX6_has ∈ zz_w := zz_in (List.mem_append_right _ (List.mem_append_right _ (List.mem_append_right _ (List.mem_append_left _ (List.mem_of_getElem? (i := 33) (by decide +kernel)))))) rfl
theorem zc_X2_55 : zz_cV RX2 55 yX6_has cX6_has 2 (some .boolean) 1 := ⟨⟨zk_513, zk_266, zk_2, by decide, by decide, by decide +kernel⟩, zk_264, zk_265⟩
theorem zk_522 : Cond.methodLink RX2 62 yX2_digestAt ∈ zz_w := zz_in (List.mem_append_right _ (List.mem_append_right _ (List.mem_append_right _ (List.mem_append_left _ (List.mem_of_getElem? (i := 42) (by decide +kernel)))))) rfl
set_option maxRecDepth 20000 in
theorem zk_525 : Cond.code yX2_digestAt cX2_digestAt 9 (some .int) ∈ zz_w := zz_in (List.mem_append_right _ (List.mem_append_right _ (List.mem_append_right _ (List.mem_append_left _ (List.mem_of_getElem? (i := 45) (rfl)))))) rfl
theorem zk_524 : Cond.instanceMethod yX2_digestAt ∈ zz_w := zz_in (List.mem_append_right _ (List.mem_append_right _ (List.mem_append_right _ (List.mem_append_left _ (List.mem_of_getElem? (i := 44) (by decide +kernel)))))) rfl
theorem zs_12 : Cond.selects RX2 yX2_digestAt yX2_digestAt ∈ zz_w := zz_in (List.mem_append_left _ (List.mem_of_getElem? (i := 12) (by decide +kernel))) rfl
theorem zc_X2_62 : zz_cV RX2 62 yX2_digestAt cX2_digestAt 9 (some .int) 2 := ⟨⟨zk_522, zk_525, zk_4, by decide, by decide, by decide +kernel⟩, zk_524, zs_12⟩
theorem zk_526 : Cond.methodLink RX2 66 yX1_hashOf ∈ zz_w := zz_in (List.mem_append_right _ (List.mem_append_right _ (List.mem_append_right _ (List.mem_append_left _ (List.mem_of_getElem? (i := 46) (by decide +kernel)))))) rfl
set_option maxRecDepth 20000 in
theorem zk_528 : Cond.code yX1_hashOf cX1_hashOf 3 (some .int) ∈ zz_w := zz_in (List.mem_append_right _ (List.mem_append_right _ (List.mem_append_right _ (List.mem_append_left _ (List.mem_of_getElem? (i := 48) (rfl)))))) rfl
theorem zk_527 : Cond.static yX1_hashOf ∈ zz_w := zz_in (List.mem_append_right _ (List.mem_append_right _ (List.mem_append_right _ (List.mem_append_left _ (List.mem_of_getElem? (i := 47) (by decide +kernel)))))) rfl
theorem zc_X2_66 : zz_cS RX2 66 yX1_hashOf cX1_hashOf 3 (some .int) 2 := ⟨⟨zk_526, zk_528, zk_8, by decide, by decide, by decide +kernel⟩, zk_527⟩
abbrev rm_co_dig4 : Room := { frames := 1, cells := 0, slots := 0, locals := 28 }
abbrev po_co_dig4 (g : zz_G) (lk : Nat) (l_ag : Nat) (l_dg : Nat) (l_ds : Nat) (st : Nat) (kd : Nat) (dp : Nat) (cl : Nat) (sa : Nat) (ln : Nat) (bt : Nat) (pn : Nat) (bf : Nat) (na : Nat) (nu : Nat) (n : Nat) (kdf : Nat → Int32) (dpf : Nat → Int32) (saf : Nat → Int32) (lnf : Nat → Int32) (btf : Nat → Int64) (dgf : Nat → Int32) (dsf : Nat → Int32) (a : Nat) (h_M : zz_MI na nu dpf saf lnf btf) (h_a : a < na) (h_v : ∀ dr : Nat, dpf a = nI dr → dr ≤ 4 → dr + 4 ≤ 5) (h_m : zz_DM na (sp_hS na kdf dpf saf lnf btf) n dgf dsf) (h_q : zz_RB n dgf) : Int32 → va_W → Prop := fun (r : Int32) (u : va_W) => ∃ (dg2 : Nat → Int32) (ds2 : Nat → Int32), (r = sp_hS na kdf dpf saf lnf btf a) ∧ (zz_DM na (sp_hS na kdf dpf saf lnf btf) n dg2 ds2) ∧ (zz_RB n dg2) ∧ u = [cw_k1 lk st (nI n) l_ag l_dg l_ds, cw_i g l_dg 60 dg2, cw_i g l_ds 60 ds2, cw_k5 st (nI na) (nI nu) kd dp cl sa ln bt pn bf, cw_i g kd 60 kdf, cw_i g dp 60 dpf, cw_i g sa 60 saf, cw_i g ln 60 lnf, cw_l g bt 4000 btf]
set_option maxHeartbeats 4000000 in
set_option maxRecDepth 100000 in
theorem co_dig4 (g : zz_G) (lk : Nat) (l_ag : Nat) (l_dg : Nat) (l_ds : Nat) (st : Nat) (kd : Nat) (dp : Nat) (cl : Nat) (sa : Nat) (ln : Nat) (bt : Nat) (pn : Nat) (bf : Nat) (na : Nat) (nu : Nat) (n : Nat) (kdf : Nat → Int32) (dpf : Nat → Int32) (saf : Nat → Int32) (lnf : Nat → Int32) (btf : Nat → Int64) (dgf : Nat → Int32) (dsf : Nat → Int32) (a : Nat) (h_M : zz_MI na nu dpf saf lnf btf) (h_a : a < na) (h_v : ∀ dr : Nat, dpf a = nI dr → dr ≤ 4 → dr + 4 ≤ 5) (h_m : zz_DM na (sp_hS na kdf dpf saf lnf btf) n dgf dsf) (h_q : zz_RB n dgf) : zz_I g yX2_digestAt (.code yX2_digestAt cX2_digestAt 9 (some .int)) rm_co_dig4 [.ref lk, .int (nI a), .int 4] [cw_k1 lk st (nI n) l_ag l_dg l_ds, cw_i g l_dg 60 dgf, cw_i g l_ds 60 dsf, cw_k5 st (nI na) (nI nu) kd dp cl sa ln bt pn bf, cw_i g kd 60 kdf, cw_i g dp 60 dpf, cw_i g sa 60 saf, cw_i g ln 60 lnf, cw_l g bt 4000 btf] (po_co_dig4 g lk l_ag l_dg l_ds st kd dp cl sa ln bt pn bf na nu n kdf dpf saf lnf btf dgf dsf a h_M h_a h_v h_m h_q) := by
  refine zz_I.intro (own := RX2) (cc := cX2_digestAt) (nL := 9) (by decide) rfl (Nat.le_of_ble_eq_true rfl) ?_
  intro p l e s m args below meth c A H locs ls hC hnm hs hZ hl
  obtain ⟨hx, hb, hml, hown, hts, hr, hlocks, hK⟩ := id hC
  have hl : lv_has ls 9 [(0, .ref lk), (1, .int (nI a)), (2, .int 4)] := hl
  have hZ : zz_Z g A s.heap [cw_k1 lk st (nI n) l_ag l_dg l_ds, cw_i g l_dg 60 dgf, cw_i g l_ds 60 dsf, cw_k5 st (nI na) (nI nu) kd dp cl sa ln bt pn bf, cw_i g kd 60 kdf, cw_i g dp 60 dpf, cw_i g sa 60 saf, cw_i g ln 60 lnf, cw_l g bt 4000 btf] H locs := hZ
  have h_S := h_M.1
  have hna := h_S.1
  have hnu := h_S.2.1
  obtain ⟨sz, lz, dz, es, el, ed, g1, g2, g3, g4⟩ := h_S.2.2 a h_a
  have hv := h_v dz ed (by omega)
  have hU := zl_hsU (kd := kdf) h_M h_a es el ed (by omega) (by omega) (by omega) (by omega)
  refine lv_iload_n hx hb dX2_digestAt_0 rfl (lv_at hl 2 rfl) ?_
  refine lv_iconst (v := 4) hx hb dX2_digestAt_1 (by decide) ?_
  refine lv_icmp_le (tgt := 7) hx hb dX2_digestAt_2 (by decide) (fun c1 => ?_) (fun c => absurd (by decide) c)
  refine lv_aload_n hx hb dX2_digestAt_7 rfl (lv_at hl 0 rfl) ?_
  refine zz_get hC hZ 0 rfl zf_X2_15 rfl dX2_digestAt_8 ?_
  refine lv_iload_n hx hb dX2_digestAt_11 rfl (lv_at hl 1 rfl) ?_
  have bd2 : a < 60 := by omega
  refine zz_ialdn hC hZ 1 rfl bd2 (by decide) dX2_digestAt_12 ?_
  refine lv_aload_n hx hb dX2_digestAt_13 rfl (lv_at hl 0 rfl) ?_
  refine zz_get hC hZ 0 rfl zf_X2_25 rfl dX2_digestAt_14 ?_
  refine lv_icmp_ne (tgt := 27) hx hb dX2_digestAt_17 (by decide) (fun c3 => ?_) (fun c3 => ?_)
  · refine lv_aload_n hx hb dX2_digestAt_27 rfl (lv_at hl 0 rfl) ?_
    refine zz_get hC hZ 0 rfl zf_X2_21 rfl dX2_digestAt_28 ?_
    refine zz_get hC hZ 3 rfl zf_X2_37 rfl dX2_digestAt_31 ?_
    refine lv_iload_n hx hb dX2_digestAt_34 rfl (lv_at hl 1 rfl) ?_
    refine zz_ialdn hC hZ 5 rfl bd2 (by decide) dX2_digestAt_35 ?_
    refine zz_topi (v := nI dz) (ed) ?_
    refine lv_iconst (v := 1) hx hb dX2_digestAt_36 (by decide) ?_
    have bd5 : dz < 2 ^ 31 := by omega
    refine lv_icmp_ne (tgt := 44) hx hb dX2_digestAt_37 (by decide) (fun c4 => ?_) (fun c4 => ?_)
    · have nc4 : ¬ dz = 1 := fun zq => c4 (show nI (dz) = nI (1) from (nI_eq bd5 (by decide)).mpr zq)
      refine lv_iconst (v := 0) hx hb dX2_digestAt_44 (by decide) ?_
      refine lv_istore_n (lv' := [(3, .int 0), (0, .ref lk), (1, .int (nI a)), (2, .int 4)]) hx hb dX2_digestAt_45 rfl hl (by decide) rfl (fun ls hl => ?_)
      refine lv_iconst (v := 1) hx hb dX2_digestAt_46 (by decide) ?_
      refine lv_istore (lv' := [(4, .int 1), (3, .int 0), (0, .ref lk), (1, .int (nI a)), (2, .int 4)]) hx hb dX2_digestAt_47 hl (by decide) rfl (fun ls hl => ?_)
      refine lv_iconst (v := 0) hx hb dX2_digestAt_49 (by decide) ?_
      refine lv_istore (lv' := [(5, .int 0), (4, .int 1), (3, .int 0), (0, .ref lk), (1, .int (nI a)), (2, .int 4)]) hx hb dX2_digestAt_50 hl (by decide) rfl (fun ls hl => ?_)
      have LP6 : ∀ (N : Nat) (i : Nat) (w : Int32) (dg1 : Nat → Int32) (ds1 : Nat → Int32) (H : Heap) (locs : List Loc) (ls : Array Slot), (i ≤ lz) → (sp_hS na kdf dpf saf lnf btf a = sp_hl (sp_hp na kdf dpf saf lnf btf a) (lz - i) i w) → (zz_DM na (sp_hS na kdf dpf saf lnf btf) n dg1 ds1) → (zz_RB n dg1) → (lz - i) < N → zz_Z g A s.heap [cw_k1 lk st (nI n) l_ag l_dg l_ds, cw_i g l_dg 60 dg1, cw_i g l_ds 60 ds1, cw_k5 st (nI na) (nI nu) kd dp cl sa ln bt pn bf, cw_i g kd 60 kdf, cw_i g dp 60 dpf, cw_i g sa 60 saf, cw_i g ln 60 lnf, cw_l g bt 4000 btf] H locs → lv_has ls 9 [(5, .int (nI i)), (4, .int w), (3, .int 0), (0, .ref lk), (1, .int (nI a)), (2, .int 4)] → W p l e rm_co_dig4 s m args below meth c H locs 0 0 (zz_QI below g args s A rm_co_dig4.cells rm_co_dig4.slots (po_co_dig4 g lk l_ag l_dg l_ds st kd dp cl sa ln bt pn bf na nu n kdf dpf saf lnf btf dgf dsf a h_M h_a h_v h_m h_q)) (F0 m 52 ls []) := by
        intro N
        induction N with
        | zero =>
          intro i w dg1 ds1 H locs ls hi hh hm1 hr1 hN
          exact absurd hN (Nat.not_lt_zero _)
        | succ N ih =>
          intro i w dg1 ds1 H locs ls hi hh hm1 hr1 hN hZ hl
          refine lv_iload hx hb dX2_digestAt_52 (lv_at hl 0 rfl) ?_
          refine lv_aload_n hx hb dX2_digestAt_54 rfl (lv_at hl 3 rfl) ?_
          refine zz_get hC hZ 0 rfl zf_X2_21 rfl dX2_digestAt_55 ?_
          refine zz_get hC hZ 3 rfl zf_X2_42 rfl dX2_digestAt_58 ?_
          refine lv_iload_n hx hb dX2_digestAt_61 rfl (lv_at hl 4 rfl) ?_
          refine zz_ialdn hC hZ 7 rfl bd2 (by decide) dX2_digestAt_62 ?_
          refine zz_topi (v := nI lz) (el) ?_
          have bd8 : lz < 2 ^ 31 := by omega
          have bd9 : i < 2 ^ 31 := by omega
          refine lv_icmp_ge (tgt := 155) hx hb dX2_digestAt_63 (by decide) (fun c7 => ?_) (fun c7 => ?_)
          · have nc7 : lz ≤ i := (nI_leI bd8 bd9).mp (show nI (lz) ≤ nI (i) from c7)
            refine lv_aload_n hx hb dX2_digestAt_155 rfl (lv_at hl 3 rfl) ?_
            refine zz_get hC hZ 0 rfl zf_X2_15 rfl dX2_digestAt_156 ?_
            refine lv_iload_n hx hb dX2_digestAt_159 rfl (lv_at hl 4 rfl) ?_
            refine lv_aload_n hx hb dX2_digestAt_160 rfl (lv_at hl 3 rfl) ?_
            refine zz_get hC hZ 0 rfl zf_X2_25 rfl dX2_digestAt_161 ?_
            refine zz_iastn hC hZ 1 rfl bd2 (by decide) dX2_digestAt_164 (fun H locs hZ => ?_)
            have hZ : zz_Z g A s.heap [cw_k1 lk st (nI n) l_ag l_dg l_ds, cw_i g l_dg 60 (upd dg1 a (nI n)), cw_i g l_ds 60 ds1, cw_k5 st (nI na) (nI nu) kd dp cl sa ln bt pn bf, cw_i g kd 60 kdf, cw_i g dp 60 dpf, cw_i g sa 60 saf, cw_i g ln 60 lnf, cw_l g bt 4000 btf] H locs := hZ
            refine lv_aload_n hx hb dX2_digestAt_165 rfl (lv_at hl 3 rfl) ?_
            refine zz_get hC hZ 0 rfl zf_X2_18 rfl dX2_digestAt_166 ?_
            refine lv_iload_n hx hb dX2_digestAt_169 rfl (lv_at hl 4 rfl) ?_
            refine lv_iload hx hb dX2_digestAt_170 (lv_at hl 1 rfl) ?_
            refine zz_iastn hC hZ 2 rfl bd2 (by decide) dX2_digestAt_172 (fun H locs hZ => ?_)
            have hZ : zz_Z g A s.heap [cw_k1 lk st (nI n) l_ag l_dg l_ds, cw_i g l_dg 60 (upd dg1 a (nI n)), cw_i g l_ds 60 (upd ds1 a w), cw_k5 st (nI na) (nI nu) kd dp cl sa ln bt pn bf, cw_i g kd 60 kdf, cw_i g dp 60 dpf, cw_i g sa 60 saf, cw_i g ln 60 lnf, cw_l g bt 4000 btf] H locs := hZ
            refine lv_iload hx hb dX2_digestAt_173 (lv_at hl 1 rfl) ?_
            exact zz_iret hC hZ (⟨(upd dg1 a (nI n)), (upd ds1 a w), (hh.trans (by rw [show lz - i = 0 by omega, sp_hl])).symm, hm1.set ((hh.trans (by rw [show lz - i = 0 by omega, sp_hl])).symm), hr1.set, rfl⟩) (Nat.le_of_ble_eq_true rfl) (Nat.le_of_ble_eq_true rfl) dX2_digestAt_175
          · have nc7 : ¬ lz ≤ i := fun zq => c7 (show nI (lz) ≤ nI (i) from (nI_leI bd8 bd9).mpr zq)
            refine lv_aload_n hx hb dX2_digestAt_66 rfl (lv_at hl 3 rfl) ?_
            refine zz_get hC hZ 0 rfl zf_X2_21 rfl dX2_digestAt_67 ?_
            refine zz_get hC hZ 3 rfl zf_X2_45 rfl dX2_digestAt_70 ?_
            refine lv_aload_n hx hb dX2_digestAt_73 rfl (lv_at hl 3 rfl) ?_
            refine zz_get hC hZ 0 rfl zf_X2_21 rfl dX2_digestAt_74 ?_
            refine zz_get hC hZ 3 rfl zf_X2_49 rfl dX2_digestAt_77 ?_
            refine lv_iload_n hx hb dX2_digestAt_80 rfl (lv_at hl 4 rfl) ?_
            refine zz_ialdn hC hZ 6 rfl bd2 (by decide) dX2_digestAt_81 ?_
            refine zz_topi (v := nI sz) (es) ?_
            refine lv_iload hx hb dX2_digestAt_82 (lv_at hl 0 rfl) ?_
            refine lv_iadd hx hb dX2_digestAt_84 ?_
            refine zz_topi (v := nI (sz + i)) (nI_add _ _) ?_
            have bd10 : (sz + i) < 4000 := by omega
            refine zz_laldn hC hZ 8 rfl bd10 (by decide) dX2_digestAt_85 ?_
            refine lv_lstore (lv' := [(6, .long (btf (sz + i))), (5, .int (nI i)), (4, .int w), (3, .int 0), (0, .ref lk), (1, .int (nI a)), (2, .int 4)]) hx hb dX2_digestAt_86 hl (by decide) rfl (fun ls hl => ?_)
            refine lv_iconst (v := 0) hx hb dX2_digestAt_88 (by decide) ?_
            refine lv_istore (lv' := [(8, .int 0), (6, .long (btf (sz + i))), (5, .int (nI i)), (4, .int w), (3, .int 0), (0, .ref lk), (1, .int (nI a)), (2, .int 4)]) hx hb dX2_digestAt_89 hl (by decide) rfl (fun ls hl => ?_)
            refine lv_iload_n hx hb dX2_digestAt_91 rfl (lv_at hl 4 rfl) ?_
            refine lv_if_eq (tgt := 114) hx hb dX2_digestAt_92 (by decide) (fun c11 => ?_) (fun c => absurd (by decide) c)
            refine lv_aload_n hx hb dX2_digestAt_114 rfl (lv_at hl 5 rfl) ?_
            refine zz_get hC hZ 0 rfl zf_X2_21 rfl dX2_digestAt_115 ?_
            refine lv_lload hx hb dX2_digestAt_118 (lv_at hl 1 rfl) ?_
            refine lv_l2i hx hb dX2_digestAt_120 rfl ?_
            refine zz_iV (As := [.int ((btf (sz + i)).toInt32)]) (wc := [cw_k5 st (nI na) (nI nu) kd dp cl sa ln bt pn bf]) (wr := [cw_k1 lk st (nI n) l_ag l_dg l_ds, cw_i g l_dg 60 dg1, cw_i g l_ds 60 ds1, cw_i g kd 60 kdf, cw_i g dp 60 dpf, cw_i g sa 60 saf, cw_i g ln 60 lnf, cw_l g bt 4000 btf]) (rest := []) hC hZ hs hl zc_X2_55 (co_has g st kd dp cl sa ln bt pn bf (nI na) (nI nu) ((btf (sz + i)).toInt32)) [3] [0, 1, 2, 4, 5, 6, 7, 8] rfl rfl (by decide +kernel) (ci := 5) (q0 := 0) rfl rfl rfl rfl (Nat.le_of_ble_eq_true rfl) ⟨⟨Nat.le_of_ble_eq_true rfl, Nat.le_of_ble_eq_true rfl⟩, Nat.le_of_ble_eq_true rfl, Nat.le_of_ble_eq_true rfl⟩ dX2_digestAt_121 (fun r12 u13 H locs hp hZ => ?_)
            obtain ⟨rfl, rfl⟩ := hp
            have hZ : zz_Z g A s.heap [cw_k1 lk st (nI n) l_ag l_dg l_ds, cw_i g l_dg 60 dg1, cw_i g l_ds 60 ds1, cw_i g kd 60 kdf, cw_i g dp 60 dpf, cw_i g sa 60 saf, cw_i g ln 60 lnf, cw_l g bt 4000 btf, cw_k5 st (nI na) (nI nu) kd dp cl sa ln bt pn bf] H locs := hZ
            refine lv_if_eq (tgt := 139) hx hb dX2_digestAt_124 (by decide) (fun c14 => ?_) (fun c14 => ?_)
            · refine lv_bipush (v := 31) hx hb dX2_digestAt_139 (by decide) ?_
              refine lv_iload hx hb dX2_digestAt_141 (lv_at hl 3 rfl) ?_
              refine lv_imul hx hb dX2_digestAt_143 ?_
              refine lv_iload hx hb dX2_digestAt_144 (lv_at hl 0 rfl) ?_
              refine lv_iadd hx hb dX2_digestAt_146 ?_
              refine lv_istore (lv' := [(4, .int ((31 * w) + 0)), (8, .int 0), (6, .long (btf (sz + i))), (5, .int (nI i)), (3, .int 0), (0, .ref lk), (1, .int (nI a)), (2, .int 4)]) hx hb dX2_digestAt_147 hl (by decide) rfl (fun ls hl => ?_)
              refine lv_iinc (v := nI (i + 1)) (lv' := [(5, .int (nI (i + 1))), (4, .int ((31 * w) + 0)), (8, .int 0), (6, .long (btf (sz + i))), (3, .int 0), (0, .ref lk), (1, .int (nI a)), (2, .int 4)]) hx hb dX2_digestAt_149 hl (k := 3) rfl (nI_1 _) (by decide) rfl (fun ls hl => ?_)
              refine lv_goto (tgt := 52) hx hb dX2_digestAt_152 (by decide) ?_
              exact ih (i + 1) ((31 * w) + 0) dg1 ds1 H locs ls (by omega) (hh.trans (zl_hlS (show lz - i = lz - (i + 1) + 1 by omega) (zl_hp0 (zl_d4 ed c4) es (by omega) c14))) (hm1) (hr1) (by omega) (hZ.sub [0, 1, 2, 8, 3, 4, 5, 6, 7] (by decide +kernel) rfl) (lv_sub hl [0, 1, 4, 5, 6, 7] rfl)
            · obtain ⟨b2, hb2, eb2⟩ := zl_has (by omega) c14
              have hb2v : ∀ dr : Nat, dpf b2 = nI dr → dr ≤ 4 → dr + 5 ≤ 5 := fun dr e1 e2 => by have := zl_row h_M h_a es el ed (by omega) (by omega) (by omega) (zl_gt1 g3 c4) (show i < lz by omega) hb2 eb2 dr e1 e2; omega
              refine lv_aload_n hx hb dX2_digestAt_127 rfl (lv_at hl 5 rfl) ?_
              refine lv_lload hx hb dX2_digestAt_128 (lv_at hl 1 rfl) ?_
              refine lv_l2i hx hb dX2_digestAt_130 rfl ?_
              refine zz_topi (v := nI b2) (eb2) ?_
              refine lv_iload_n hx hb dX2_digestAt_131 rfl (lv_at hl 7 rfl) ?_
              refine lv_iconst (v := 1) hx hb dX2_digestAt_132 (by decide) ?_
              refine lv_iadd hx hb dX2_digestAt_133 ?_
              refine zz_topi (v := 5) (by decide) ?_
              refine zz_iV (As := [.int (nI b2), .int 5]) (wc := [cw_k1 lk st (nI n) l_ag l_dg l_ds, cw_i g l_dg 60 dg1, cw_i g l_ds 60 ds1, cw_k5 st (nI na) (nI nu) kd dp cl sa ln bt pn bf, cw_i g kd 60 kdf, cw_i g dp 60 dpf, cw_i g sa 60 saf, cw_i g ln 60 lnf, cw_l g bt 4000 btf]) (wr := []) (rest := []) hC hZ hs hl zc_X2_62 (co_dig5 g lk l_ag l_dg l_ds st kd dp cl sa ln bt pn bf na nu n kdf dpf saf lnf btf dg1 ds1 b2 (h_M) (by omega) (hb2v) (hm1) (hr1)) [0, 1, 2, 8, 3, 4, 5, 6, 7] [] rfl rfl (by decide +kernel) (ci := 1) (q0 := 0) rfl rfl rfl rfl (Nat.le_of_ble_eq_true rfl) ⟨⟨Nat.le_of_ble_eq_true rfl, Nat.le_of_ble_eq_true rfl⟩, Nat.le_of_ble_eq_true rfl, Nat.le_of_ble_eq_true rfl⟩ dX2_digestAt_134 (fun r15 u16 H locs hp hZ => ?_)
              obtain ⟨dg2_17, ds2_18, f19, f20, f21, rfl⟩ := hp
              have hZ : zz_Z g A s.heap [cw_k1 lk st (nI n) l_ag l_dg l_ds, cw_i g l_dg 60 dg2_17, cw_i g l_ds 60 ds2_18, cw_k5 st (nI na) (nI nu) kd dp cl sa ln bt pn bf, cw_i g kd 60 kdf, cw_i g dp 60 dpf, cw_i g sa 60 saf, cw_i g ln 60 lnf, cw_l g bt 4000 btf] H locs := hZ
              refine lv_istore (lv' := [(8, .int r15), (6, .long (btf (sz + i))), (5, .int (nI i)), (4, .int w), (3, .int 0), (0, .ref lk), (1, .int (nI a)), (2, .int 4)]) hx hb dX2_digestAt_137 hl (by decide) rfl (fun ls hl => ?_)
              refine lv_bipush (v := 31) hx hb dX2_digestAt_139 (by decide) ?_
              refine lv_iload hx hb dX2_digestAt_141 (lv_at hl 3 rfl) ?_
              refine lv_imul hx hb dX2_digestAt_143 ?_
              refine lv_iload hx hb dX2_digestAt_144 (lv_at hl 0 rfl) ?_
              refine lv_iadd hx hb dX2_digestAt_146 ?_
              refine lv_istore (lv' := [(4, .int ((31 * w) + r15)), (8, .int r15), (6, .long (btf (sz + i))), (5, .int (nI i)), (3, .int 0), (0, .ref lk), (1, .int (nI a)), (2, .int 4)]) hx hb dX2_digestAt_147 hl (by decide) rfl (fun ls hl => ?_)
              refine lv_iinc (v := nI (i + 1)) (lv' := [(5, .int (nI (i + 1))), (4, .int ((31 * w) + r15)), (8, .int r15), (6, .long (btf (sz + i))), (3, .int 0), (0, .ref lk), (1, .int (nI a)), (2, .int 4)]) hx hb dX2_digestAt_149 hl (k := 3) rfl (nI_1 _) (by decide) rfl (fun ls hl => ?_)
              refine lv_goto (tgt := 52) hx hb dX2_digestAt_152 (by decide) ?_
              exact ih (i + 1) ((31 * w) + r15) dg2_17 ds2_18 H locs ls (by omega) (hh.trans (zl_hlS (show lz - i = lz - (i + 1) + 1 by omega) (zl_hp2 (zl_d4 ed c4) es (by omega) (by omega) hb2 eb2 f19))) (f20) (f21) (by omega) hZ (lv_sub hl [0, 1, 4, 5, 6, 7] rfl)
      exact LP6 _ 0 1 dgf dsf H locs ls (by omega) (hU) (h_m) (h_q) (Nat.lt_succ_self _) hZ (lv_sub hl [0, 1, 2, 3, 4, 5] rfl)
    · have nc4 : dz = 1 := (nI_eq bd5 (by decide)).mp (show nI (dz) = nI (1) from c4)
      refine lv_iconst (v := 1) hx hb dX2_digestAt_40 (by decide) ?_
      refine lv_goto (tgt := 45) hx hb dX2_digestAt_41 (by decide) ?_
      refine lv_istore_n (lv' := [(3, .int 1), (0, .ref lk), (1, .int (nI a)), (2, .int 4)]) hx hb dX2_digestAt_45 rfl hl (by decide) rfl (fun ls hl => ?_)
      refine lv_iconst (v := 1) hx hb dX2_digestAt_46 (by decide) ?_
      refine lv_istore (lv' := [(4, .int 1), (3, .int 1), (0, .ref lk), (1, .int (nI a)), (2, .int 4)]) hx hb dX2_digestAt_47 hl (by decide) rfl (fun ls hl => ?_)
      refine lv_iconst (v := 0) hx hb dX2_digestAt_49 (by decide) ?_
      refine lv_istore (lv' := [(5, .int 0), (4, .int 1), (3, .int 1), (0, .ref lk), (1, .int (nI a)), (2, .int 4)]) hx hb dX2_digestAt_50 hl (by decide) rfl (fun ls hl => ?_)
      have LP22 : ∀ (N : Nat) (i : Nat) (w : Int32) (dg1 : Nat → Int32) (ds1 : Nat → Int32) (H : Heap) (locs : List Loc) (ls : Array Slot), (i ≤ lz) → (sp_hS na kdf dpf saf lnf btf a = sp_hl (sp_hp na kdf dpf saf lnf btf a) (lz - i) i w) → (zz_DM na (sp_hS na kdf dpf saf lnf btf) n dg1 ds1) → (zz_RB n dg1) → (lz - i) < N → zz_Z g A s.heap [cw_k1 lk st (nI n) l_ag l_dg l_ds, cw_i g l_dg 60 dg1, cw_i g l_ds 60 ds1, cw_k5 st (nI na) (nI nu) kd dp cl sa ln bt pn bf, cw_i g kd 60 kdf, cw_i g dp 60 dpf, cw_i g sa 60 saf, cw_i g ln 60 lnf, cw_l g bt 4000 btf] H locs → lv_has ls 9 [(5, .int (nI i)), (4, .int w), (3, .int 1), (0, .ref lk), (1, .int (nI a)), (2, .int 4)] → W p l e rm_co_dig4 s m args below meth c H locs 0 0 (zz_QI below g args s A rm_co_dig4.cells rm_co_dig4.slots (po_co_dig4 g lk l_ag l_dg l_ds st kd dp cl sa ln bt pn bf na nu n kdf dpf saf lnf btf dgf dsf a h_M h_a h_v h_m h_q)) (F0 m 52 ls []) := by
        intro N
        induction N with
        | zero =>
          intro i w dg1 ds1 H locs ls hi hh hm1 hr1 hN
          exact absurd hN (Nat.not_lt_zero _)
        | succ N ih =>
          intro i w dg1 ds1 H locs ls hi hh hm1 hr1 hN hZ hl
          refine lv_iload hx hb dX2_digestAt_52 (lv_at hl 0 rfl) ?_
          refine lv_aload_n hx hb dX2_digestAt_54 rfl (lv_at hl 3 rfl) ?_
          refine zz_get hC hZ 0 rfl zf_X2_21 rfl dX2_digestAt_55 ?_
          refine zz_get hC hZ 3 rfl zf_X2_42 rfl dX2_digestAt_58 ?_
          refine lv_iload_n hx hb dX2_digestAt_61 rfl (lv_at hl 4 rfl) ?_
          refine zz_ialdn hC hZ 7 rfl bd2 (by decide) dX2_digestAt_62 ?_
          refine zz_topi (v := nI lz) (el) ?_
          have bd24 : lz < 2 ^ 31 := by omega
          have bd25 : i < 2 ^ 31 := by omega
          refine lv_icmp_ge (tgt := 155) hx hb dX2_digestAt_63 (by decide) (fun c23 => ?_) (fun c23 => ?_)
          · have nc23 : lz ≤ i := (nI_leI bd24 bd25).mp (show nI (lz) ≤ nI (i) from c23)
            refine lv_aload_n hx hb dX2_digestAt_155 rfl (lv_at hl 3 rfl) ?_
            refine zz_get hC hZ 0 rfl zf_X2_15 rfl dX2_digestAt_156 ?_
            refine lv_iload_n hx hb dX2_digestAt_159 rfl (lv_at hl 4 rfl) ?_
            refine lv_aload_n hx hb dX2_digestAt_160 rfl (lv_at hl 3 rfl) ?_
            refine zz_get hC hZ 0 rfl zf_X2_25 rfl dX2_digestAt_161 ?_
            refine zz_iastn hC hZ 1 rfl bd2 (by decide) dX2_digestAt_164 (fun H locs hZ => ?_)
            have hZ : zz_Z g A s.heap [cw_k1 lk st (nI n) l_ag l_dg l_ds, cw_i g l_dg 60 (upd dg1 a (nI n)), cw_i g l_ds 60 ds1, cw_k5 st (nI na) (nI nu) kd dp cl sa ln bt pn bf, cw_i g kd 60 kdf, cw_i g dp 60 dpf, cw_i g sa 60 saf, cw_i g ln 60 lnf, cw_l g bt 4000 btf] H locs := hZ
            refine lv_aload_n hx hb dX2_digestAt_165 rfl (lv_at hl 3 rfl) ?_
            refine zz_get hC hZ 0 rfl zf_X2_18 rfl dX2_digestAt_166 ?_
            refine lv_iload_n hx hb dX2_digestAt_169 rfl (lv_at hl 4 rfl) ?_
            refine lv_iload hx hb dX2_digestAt_170 (lv_at hl 1 rfl) ?_
            refine zz_iastn hC hZ 2 rfl bd2 (by decide) dX2_digestAt_172 (fun H locs hZ => ?_)
            have hZ : zz_Z g A s.heap [cw_k1 lk st (nI n) l_ag l_dg l_ds, cw_i g l_dg 60 (upd dg1 a (nI n)), cw_i g l_ds 60 (upd ds1 a w), cw_k5 st (nI na) (nI nu) kd dp cl sa ln bt pn bf, cw_i g kd 60 kdf, cw_i g dp 60 dpf, cw_i g sa 60 saf, cw_i g ln 60 lnf, cw_l g bt 4000 btf] H locs := hZ
            refine lv_iload hx hb dX2_digestAt_173 (lv_at hl 1 rfl) ?_
            exact zz_iret hC hZ (⟨(upd dg1 a (nI n)), (upd ds1 a w), (hh.trans (by rw [show lz - i = 0 by omega, sp_hl])).symm, hm1.set ((hh.trans (by rw [show lz - i = 0 by omega, sp_hl])).symm), hr1.set, rfl⟩) (Nat.le_of_ble_eq_true rfl) (Nat.le_of_ble_eq_true rfl) dX2_digestAt_175
          · have nc23 : ¬ lz ≤ i := fun zq => c23 (show nI (lz) ≤ nI (i) from (nI_leI bd24 bd25).mpr zq)
            refine lv_aload_n hx hb dX2_digestAt_66 rfl (lv_at hl 3 rfl) ?_
            refine zz_get hC hZ 0 rfl zf_X2_21 rfl dX2_digestAt_67 ?_
            refine zz_get hC hZ 3 rfl zf_X2_45 rfl dX2_digestAt_70 ?_
            refine lv_aload_n hx hb dX2_digestAt_73 rfl (lv_at hl 3 rfl) ?_
            refine zz_get hC hZ 0 rfl zf_X2_21 rfl dX2_digestAt_74 ?_
            refine zz_get hC hZ 3 rfl zf_X2_49 rfl dX2_digestAt_77 ?_
            refine lv_iload_n hx hb dX2_digestAt_80 rfl (lv_at hl 4 rfl) ?_
            refine zz_ialdn hC hZ 6 rfl bd2 (by decide) dX2_digestAt_81 ?_
            refine zz_topi (v := nI sz) (es) ?_
            refine lv_iload hx hb dX2_digestAt_82 (lv_at hl 0 rfl) ?_
            refine lv_iadd hx hb dX2_digestAt_84 ?_
            refine zz_topi (v := nI (sz + i)) (nI_add _ _) ?_
            have bd26 : (sz + i) < 4000 := by omega
            refine zz_laldn hC hZ 8 rfl bd26 (by decide) dX2_digestAt_85 ?_
            refine lv_lstore (lv' := [(6, .long (btf (sz + i))), (5, .int (nI i)), (4, .int w), (3, .int 1), (0, .ref lk), (1, .int (nI a)), (2, .int 4)]) hx hb dX2_digestAt_86 hl (by decide) rfl (fun ls hl => ?_)
            refine lv_iconst (v := 0) hx hb dX2_digestAt_88 (by decide) ?_
            refine lv_istore (lv' := [(8, .int 0), (6, .long (btf (sz + i))), (5, .int (nI i)), (4, .int w), (3, .int 1), (0, .ref lk), (1, .int (nI a)), (2, .int 4)]) hx hb dX2_digestAt_89 hl (by decide) rfl (fun ls hl => ?_)
            refine lv_iload_n hx hb dX2_digestAt_91 rfl (lv_at hl 4 rfl) ?_
            refine lv_if_eq (tgt := 114) hx hb dX2_digestAt_92 (by decide) (fun c => absurd c (by decide)) (fun c27 => ?_)
            refine lv_aload_n hx hb dX2_digestAt_95 rfl (lv_at hl 5 rfl) ?_
            refine zz_get hC hZ 0 rfl zf_X2_21 rfl dX2_digestAt_96 ?_
            refine zz_get hC hZ 3 rfl zf_X2_59 rfl dX2_digestAt_99 ?_
            refine lv_iload_n hx hb dX2_digestAt_102 rfl (lv_at hl 6 rfl) ?_
            refine zz_ialdn hC hZ 4 rfl bd2 (by decide) dX2_digestAt_103 ?_
            refine lv_lload hx hb dX2_digestAt_104 (lv_at hl 1 rfl) ?_
            refine zz_iS (As := [.int (kdf a), .long (btf (sz + i))]) (wc := []) (wr := [cw_k1 lk st (nI n) l_ag l_dg l_ds, cw_i g l_dg 60 dg1, cw_i g l_ds 60 ds1, cw_k5 st (nI na) (nI nu) kd dp cl sa ln bt pn bf, cw_i g kd 60 kdf, cw_i g dp 60 dpf, cw_i g sa 60 saf, cw_i g ln 60 lnf, cw_l g bt 4000 btf]) (rest := []) hC hZ hs hl zc_X2_66 (co_hashOf g (kdf a) (btf (sz + i))) [] [0, 1, 2, 3, 4, 5, 6, 7, 8] rfl rfl (by decide +kernel) rfl rfl (Nat.le_of_ble_eq_true rfl) ⟨⟨Nat.le_of_ble_eq_true rfl, Nat.le_of_ble_eq_true rfl⟩, Nat.le_of_ble_eq_true rfl, Nat.le_of_ble_eq_true rfl⟩ dX2_digestAt_106 (fun r28 u29 H locs hp hZ => ?_)
            obtain ⟨rfl, rfl⟩ := hp
            have hZ : zz_Z g A s.heap [cw_k1 lk st (nI n) l_ag l_dg l_ds, cw_i g l_dg 60 dg1, cw_i g l_ds 60 ds1, cw_k5 st (nI na) (nI nu) kd dp cl sa ln bt pn bf, cw_i g kd 60 kdf, cw_i g dp 60 dpf, cw_i g sa 60 saf, cw_i g ln 60 lnf, cw_l g bt 4000 btf] H locs := hZ
            refine lv_istore (lv' := [(8, .int (fn_co_hashOf (kdf a) (btf (sz + i)))), (6, .long (btf (sz + i))), (5, .int (nI i)), (4, .int w), (3, .int 1), (0, .ref lk), (1, .int (nI a)), (2, .int 4)]) hx hb dX2_digestAt_109 hl (by decide) rfl (fun ls hl => ?_)
            refine lv_goto (tgt := 139) hx hb dX2_digestAt_111 (by decide) ?_
            refine lv_bipush (v := 31) hx hb dX2_digestAt_139 (by decide) ?_
            refine lv_iload hx hb dX2_digestAt_141 (lv_at hl 3 rfl) ?_
            refine lv_imul hx hb dX2_digestAt_143 ?_
            refine lv_iload hx hb dX2_digestAt_144 (lv_at hl 0 rfl) ?_
            refine lv_iadd hx hb dX2_digestAt_146 ?_
            refine lv_istore (lv' := [(4, .int ((31 * w) + (fn_co_hashOf (kdf a) (btf (sz + i))))), (8, .int (fn_co_hashOf (kdf a) (btf (sz + i)))), (6, .long (btf (sz + i))), (5, .int (nI i)), (3, .int 1), (0, .ref lk), (1, .int (nI a)), (2, .int 4)]) hx hb dX2_digestAt_147 hl (by decide) rfl (fun ls hl => ?_)
            refine lv_iinc (v := nI (i + 1)) (lv' := [(5, .int (nI (i + 1))), (4, .int ((31 * w) + (fn_co_hashOf (kdf a) (btf (sz + i))))), (8, .int (fn_co_hashOf (kdf a) (btf (sz + i)))), (6, .long (btf (sz + i))), (3, .int 1), (0, .ref lk), (1, .int (nI a)), (2, .int 4)]) hx hb dX2_digestAt_149 hl (k := 3) rfl (nI_1 _) (by decide) rfl (fun ls hl => ?_)
            refine lv_goto (tgt := 52) hx hb dX2_digestAt_152 (by decide) ?_
            exact ih (i + 1) ((31 * w) + (fn_co_hashOf (kdf a) (btf (sz + i)))) dg1 ds1 H locs ls (by omega) (hh.trans (zl_hlS (show lz - i = lz - (i + 1) + 1 by omega) (zl_hp1 (zl_d3 ed c4) es (by omega)))) (hm1) (hr1) (by omega) hZ (lv_sub hl [0, 1, 4, 5, 6, 7] rfl)
      exact LP22 _ 0 1 dgf dsf H locs ls (by omega) (hU) (h_m) (h_q) (Nat.lt_succ_self _) hZ (lv_sub hl [0, 1, 2, 3, 4, 5] rfl)
  · refine lv_aload_n hx hb dX2_digestAt_20 rfl (lv_at hl 0 rfl) ?_
    refine zz_get hC hZ 0 rfl zf_X2_18 rfl dX2_digestAt_21 ?_
    refine lv_iload_n hx hb dX2_digestAt_24 rfl (lv_at hl 1 rfl) ?_
    refine zz_ialdn hC hZ 2 rfl bd2 (by decide) dX2_digestAt_25 ?_
    exact zz_iret hC hZ (⟨dgf, dsf, h_m a h_a c3, h_m, h_q, rfl⟩) (Nat.le_of_ble_eq_true rfl) (Nat.le_of_ble_eq_true rfl) dX2_digestAt_26
abbrev rm_co_dig3 : Room := { frames := 2, cells := 0, slots := 0, locals := 56 }
abbrev po_co_dig3 (g : zz_G) (lk : Nat) (l_ag : Nat) (l_dg : Nat) (l_ds : Nat) (st : Nat) (kd : Nat) (dp : Nat) (cl : Nat) (sa : Nat) (ln : Nat) (bt : Nat) (pn : Nat) (bf : Nat) (na : Nat) (nu : Nat) (n : Nat) (kdf : Nat → Int32) (dpf : Nat → Int32) (saf : Nat → Int32) (lnf : Nat → Int32) (btf : Nat → Int64) (dgf : Nat → Int32) (dsf : Nat → Int32) (a : Nat) (h_M : zz_MI na nu dpf saf lnf btf) (h_a : a < na) (h_v : ∀ dr : Nat, dpf a = nI dr → dr ≤ 4 → dr + 3 ≤ 5) (h_m : zz_DM na (sp_hS na kdf dpf saf lnf btf) n dgf dsf) (h_q : zz_RB n dgf) : Int32 → va_W → Prop := fun (r : Int32) (u : va_W) => ∃ (dg2 : Nat → Int32) (ds2 : Nat → Int32), (r = sp_hS na kdf dpf saf lnf btf a) ∧ (zz_DM na (sp_hS na kdf dpf saf lnf btf) n dg2 ds2) ∧ (zz_RB n dg2) ∧ u = [cw_k1 lk st (nI n) l_ag l_dg l_ds, cw_i g l_dg 60 dg2, cw_i g l_ds 60 ds2, cw_k5 st (nI na) (nI nu) kd dp cl sa ln bt pn bf, cw_i g kd 60 kdf, cw_i g dp 60 dpf, cw_i g sa 60 saf, cw_i g ln 60 lnf, cw_l g bt 4000 btf]
set_option maxHeartbeats 4000000 in
set_option maxRecDepth 100000 in
theorem co_dig3 (g : zz_G) (lk : Nat) (l_ag : Nat) (l_dg : Nat) (l_ds : Nat) (st : Nat) (kd : Nat) (dp : Nat) (cl : Nat) (sa : Nat) (ln : Nat) (bt : Nat) (pn : Nat) (bf : Nat) (na : Nat) (nu : Nat) (n : Nat) (kdf : Nat → Int32) (dpf : Nat → Int32) (saf : Nat → Int32) (lnf : Nat → Int32) (btf : Nat → Int64) (dgf : Nat → Int32) (dsf : Nat → Int32) (a : Nat) (h_M : zz_MI na nu dpf saf lnf btf) (h_a : a < na) (h_v : ∀ dr : Nat, dpf a = nI dr → dr ≤ 4 → dr + 3 ≤ 5) (h_m : zz_DM na (sp_hS na kdf dpf saf lnf btf) n dgf dsf) (h_q : zz_RB n dgf) : zz_I g yX2_digestAt (.code yX2_digestAt cX2_digestAt 9 (some .int)) rm_co_dig3 [.ref lk, .int (nI a), .int 3] [cw_k1 lk st (nI n) l_ag l_dg l_ds, cw_i g l_dg 60 dgf, cw_i g l_ds 60 dsf, cw_k5 st (nI na) (nI nu) kd dp cl sa ln bt pn bf, cw_i g kd 60 kdf, cw_i g dp 60 dpf, cw_i g sa 60 saf, cw_i g ln 60 lnf, cw_l g bt 4000 btf] (po_co_dig3 g lk l_ag l_dg l_ds st kd dp cl sa ln bt pn bf na nu n kdf dpf saf lnf btf dgf dsf a h_M h_a h_v h_m h_q) := by
  refine zz_I.intro (own := RX2) (cc := cX2_digestAt) (nL := 9) (by decide) rfl (Nat.le_of_ble_eq_true rfl) ?_
  intro p l e s m args below meth c A H locs ls hC hnm hs hZ hl
  obtain ⟨hx, hb, hml, hown, hts, hr, hlocks, hK⟩ := id hC
  have hl : lv_has ls 9 [(0, .ref lk), (1, .int (nI a)), (2, .int 3)] := hl
  have hZ : zz_Z g A s.heap [cw_k1 lk st (nI n) l_ag l_dg l_ds, cw_i g l_dg 60 dgf, cw_i g l_ds 60 dsf, cw_k5 st (nI na) (nI nu) kd dp cl sa ln bt pn bf, cw_i g kd 60 kdf, cw_i g dp 60 dpf, cw_i g sa 60 saf, cw_i g ln 60 lnf, cw_l g bt 4000 btf] H locs := hZ
  have h_S := h_M.1
  have hna := h_S.1
  have hnu := h_S.2.1
  obtain ⟨sz, lz, dz, es, el, ed, g1, g2, g3, g4⟩ := h_S.2.2 a h_a
  have hv := h_v dz ed (by omega)
  have hU := zl_hsU (kd := kdf) h_M h_a es el ed (by omega) (by omega) (by omega) (by omega)
  refine lv_iload_n hx hb dX2_digestAt_0 rfl (lv_at hl 2 rfl) ?_
  refine lv_iconst (v := 4) hx hb dX2_digestAt_1 (by decide) ?_
  refine lv_icmp_le (tgt := 7) hx hb dX2_digestAt_2 (by decide) (fun c1 => ?_) (fun c => absurd (by decide) c)
  refine lv_aload_n hx hb dX2_digestAt_7 rfl (lv_at hl 0 rfl) ?_
  refine zz_get hC hZ 0 rfl zf_X2_15 rfl dX2_digestAt_8 ?_
  refine lv_iload_n hx hb dX2_digestAt_11 rfl (lv_at hl 1 rfl) ?_
  have bd2 : a < 60 := by omega
  refine zz_ialdn hC hZ 1 rfl bd2 (by decide) dX2_digestAt_12 ?_
  refine lv_aload_n hx hb dX2_digestAt_13 rfl (lv_at hl 0 rfl) ?_
  refine zz_get hC hZ 0 rfl zf_X2_25 rfl dX2_digestAt_14 ?_
  refine lv_icmp_ne (tgt := 27) hx hb dX2_digestAt_17 (by decide) (fun c3 => ?_) (fun c3 => ?_)
  · refine lv_aload_n hx hb dX2_digestAt_27 rfl (lv_at hl 0 rfl) ?_
    refine zz_get hC hZ 0 rfl zf_X2_21 rfl dX2_digestAt_28 ?_
    refine zz_get hC hZ 3 rfl zf_X2_37 rfl dX2_digestAt_31 ?_
    refine lv_iload_n hx hb dX2_digestAt_34 rfl (lv_at hl 1 rfl) ?_
    refine zz_ialdn hC hZ 5 rfl bd2 (by decide) dX2_digestAt_35 ?_
    refine zz_topi (v := nI dz) (ed) ?_
    refine lv_iconst (v := 1) hx hb dX2_digestAt_36 (by decide) ?_
    have bd5 : dz < 2 ^ 31 := by omega
    refine lv_icmp_ne (tgt := 44) hx hb dX2_digestAt_37 (by decide) (fun c4 => ?_) (fun c4 => ?_)
    · have nc4 : ¬ dz = 1 := fun zq => c4 (show nI (dz) = nI (1) from (nI_eq bd5 (by decide)).mpr zq)
      refine lv_iconst (v := 0) hx hb dX2_digestAt_44 (by decide) ?_
      refine lv_istore_n (lv' := [(3, .int 0), (0, .ref lk), (1, .int (nI a)), (2, .int 3)]) hx hb dX2_digestAt_45 rfl hl (by decide) rfl (fun ls hl => ?_)
      refine lv_iconst (v := 1) hx hb dX2_digestAt_46 (by decide) ?_
      refine lv_istore (lv' := [(4, .int 1), (3, .int 0), (0, .ref lk), (1, .int (nI a)), (2, .int 3)]) hx hb dX2_digestAt_47 hl (by decide) rfl (fun ls hl => ?_)
      refine lv_iconst (v := 0) hx hb dX2_digestAt_49 (by decide) ?_
      refine lv_istore (lv' := [(5, .int 0), (4, .int 1), (3, .int 0), (0, .ref lk), (1, .int (nI a)), (2, .int 3)]) hx hb dX2_digestAt_50 hl (by decide) rfl (fun ls hl => ?_)
      have LP6 : ∀ (N : Nat) (i : Nat) (w : Int32) (dg1 : Nat → Int32) (ds1 : Nat → Int32) (H : Heap) (locs : List Loc) (ls : Array Slot), (i ≤ lz) → (sp_hS na kdf dpf saf lnf btf a = sp_hl (sp_hp na kdf dpf saf lnf btf a) (lz - i) i w) → (zz_DM na (sp_hS na kdf dpf saf lnf btf) n dg1 ds1) → (zz_RB n dg1) → (lz - i) < N → zz_Z g A s.heap [cw_k1 lk st (nI n) l_ag l_dg l_ds, cw_i g l_dg 60 dg1, cw_i g l_ds 60 ds1, cw_k5 st (nI na) (nI nu) kd dp cl sa ln bt pn bf, cw_i g kd 60 kdf, cw_i g dp 60 dpf, cw_i g sa 60 saf, cw_i g ln 60 lnf, cw_l g bt 4000 btf] H locs → lv_has ls 9 [(5, .int (nI i)), (4, .int w), (3, .int 0), (0, .ref lk), (1, .int (nI a)), (2, .int 3)] → W p l e rm_co_dig3 s m args below meth c H locs 0 0 (zz_QI below g args s A rm_co_dig3.cells rm_co_dig3.slots (po_co_dig3 g lk l_ag l_dg l_ds st kd dp cl sa ln bt pn bf na nu n kdf dpf saf lnf btf dgf dsf a h_M h_a h_v h_m h_q)) (F0 m 52 ls []) := by
        intro N
        induction N with
        | zero =>
          intro i w dg1 ds1 H locs ls hi hh hm1 hr1 hN
          exact absurd hN (Nat.not_lt_zero _)
        | succ N ih =>
          intro i w dg1 ds1 H locs ls hi hh hm1 hr1 hN hZ hl
          refine lv_iload hx hb dX2_digestAt_52 (lv_at hl 0 rfl) ?_
          refine lv_aload_n hx hb dX2_digestAt_54 rfl (lv_at hl 3 rfl) ?_
          refine zz_get hC hZ 0 rfl zf_X2_21 rfl dX2_digestAt_55 ?_
          refine zz_get hC hZ 3 rfl zf_X2_42 rfl dX2_digestAt_58 ?_
          refine lv_iload_n hx hb dX2_digestAt_61 rfl (lv_at hl 4 rfl) ?_
          refine zz_ialdn hC hZ 7 rfl bd2 (by decide) dX2_digestAt_62 ?_
          refine zz_topi (v := nI lz) (el) ?_
          have bd8 : lz < 2 ^ 31 := by omega
          have bd9 : i < 2 ^ 31 := by omega
          refine lv_icmp_ge (tgt := 155) hx hb dX2_digestAt_63 (by decide) (fun c7 => ?_) (fun c7 => ?_)
          · have nc7 : lz ≤ i := (nI_leI bd8 bd9).mp (show nI (lz) ≤ nI (i) from c7)
            refine lv_aload_n hx hb dX2_digestAt_155 rfl (lv_at hl 3 rfl) ?_
            refine zz_get hC hZ 0 rfl zf_X2_15 rfl dX2_digestAt_156 ?_
            refine lv_iload_n hx hb dX2_digestAt_159 rfl (lv_at hl 4 rfl) ?_
            refine lv_aload_n hx hb dX2_digestAt_160 rfl (lv_at hl 3 rfl) ?_
            refine zz_get hC hZ 0 rfl zf_X2_25 rfl dX2_digestAt_161 ?_
            refine zz_iastn hC hZ 1 rfl bd2 (by decide) dX2_digestAt_164 (fun H locs hZ => ?_)
            have hZ : zz_Z g A s.heap [cw_k1 lk st (nI n) l_ag l_dg l_ds, cw_i g l_dg 60 (upd dg1 a (nI n)), cw_i g l_ds 60 ds1, cw_k5 st (nI na) (nI nu) kd dp cl sa ln bt pn bf, cw_i g kd 60 kdf, cw_i g dp 60 dpf, cw_i g sa 60 saf, cw_i g ln 60 lnf, cw_l g bt 4000 btf] H locs := hZ
            refine lv_aload_n hx hb dX2_digestAt_165 rfl (lv_at hl 3 rfl) ?_
            refine zz_get hC hZ 0 rfl zf_X2_18 rfl dX2_digestAt_166 ?_
            refine lv_iload_n hx hb dX2_digestAt_169 rfl (lv_at hl 4 rfl) ?_
            refine lv_iload hx hb dX2_digestAt_170 (lv_at hl 1 rfl) ?_
            refine zz_iastn hC hZ 2 rfl bd2 (by decide) dX2_digestAt_172 (fun H locs hZ => ?_)
            have hZ : zz_Z g A s.heap [cw_k1 lk st (nI n) l_ag l_dg l_ds, cw_i g l_dg 60 (upd dg1 a (nI n)), cw_i g l_ds 60 (upd ds1 a w), cw_k5 st (nI na) (nI nu) kd dp cl sa ln bt pn bf, cw_i g kd 60 kdf, cw_i g dp 60 dpf, cw_i g sa 60 saf, cw_i g ln 60 lnf, cw_l g bt 4000 btf] H locs := hZ
            refine lv_iload hx hb dX2_digestAt_173 (lv_at hl 1 rfl) ?_
            exact zz_iret hC hZ (⟨(upd dg1 a (nI n)), (upd ds1 a w), (hh.trans (by rw [show lz - i = 0 by omega, sp_hl])).symm, hm1.set ((hh.trans (by rw [show lz - i = 0 by omega, sp_hl])).symm), hr1.set, rfl⟩) (Nat.le_of_ble_eq_true rfl) (Nat.le_of_ble_eq_true rfl) dX2_digestAt_175
          · have nc7 : ¬ lz ≤ i := fun zq => c7 (show nI (lz) ≤ nI (i) from (nI_leI bd8 bd9).mpr zq)
            refine lv_aload_n hx hb dX2_digestAt_66 rfl (lv_at hl 3 rfl) ?_
            refine zz_get hC hZ 0 rfl zf_X2_21 rfl dX2_digestAt_67 ?_
            refine zz_get hC hZ 3 rfl zf_X2_45 rfl dX2_digestAt_70 ?_
            refine lv_aload_n hx hb dX2_digestAt_73 rfl (lv_at hl 3 rfl) ?_
            refine zz_get hC hZ 0 rfl zf_X2_21 rfl dX2_digestAt_74 ?_
            refine zz_get hC hZ 3 rfl zf_X2_49 rfl dX2_digestAt_77 ?_
            refine lv_iload_n hx hb dX2_digestAt_80 rfl (lv_at hl 4 rfl) ?_
            refine zz_ialdn hC hZ 6 rfl bd2 (by decide) dX2_digestAt_81 ?_
            refine zz_topi (v := nI sz) (es) ?_
            refine lv_iload hx hb dX2_digestAt_82 (lv_at hl 0 rfl) ?_
            refine lv_iadd hx hb dX2_digestAt_84 ?_
            refine zz_topi (v := nI (sz + i)) (nI_add _ _) ?_
            have bd10 : (sz + i) < 4000 := by omega
            refine zz_laldn hC hZ 8 rfl bd10 (by decide) dX2_digestAt_85 ?_
            refine lv_lstore (lv' := [(6, .long (btf (sz + i))), (5, .int (nI i)), (4, .int w), (3, .int 0), (0, .ref lk), (1, .int (nI a)), (2, .int 3)]) hx hb dX2_digestAt_86 hl (by decide) rfl (fun ls hl => ?_)
            refine lv_iconst (v := 0) hx hb dX2_digestAt_88 (by decide) ?_
            refine lv_istore (lv' := [(8, .int 0), (6, .long (btf (sz + i))), (5, .int (nI i)), (4, .int w), (3, .int 0), (0, .ref lk), (1, .int (nI a)), (2, .int 3)]) hx hb dX2_digestAt_89 hl (by decide) rfl (fun ls hl => ?_)
            refine lv_iload_n hx hb dX2_digestAt_91 rfl (lv_at hl 4 rfl) ?_
            refine lv_if_eq (tgt := 114) hx hb dX2_digestAt_92 (by decide) (fun c11 => ?_) (fun c => absurd (by decide) c)
            refine lv_aload_n hx hb dX2_digestAt_114 rfl (lv_at hl 5 rfl) ?_
            refine zz_get hC hZ 0 rfl zf_X2_21 rfl dX2_digestAt_115 ?_
            refine lv_lload hx hb dX2_digestAt_118 (lv_at hl 1 rfl) ?_
            refine lv_l2i hx hb dX2_digestAt_120 rfl ?_
            refine zz_iV (As := [.int ((btf (sz + i)).toInt32)]) (wc := [cw_k5 st (nI na) (nI nu) kd dp cl sa ln bt pn bf]) (wr := [cw_k1 lk st (nI n) l_ag l_dg l_ds, cw_i g l_dg 60 dg1, cw_i g l_ds 60 ds1, cw_i g kd 60 kdf, cw_i g dp 60 dpf, cw_i g sa 60 saf, cw_i g ln 60 lnf, cw_l g bt 4000 btf]) (rest := []) hC hZ hs hl zc_X2_55 (co_has g st kd dp cl sa ln bt pn bf (nI na) (nI nu) ((btf (sz + i)).toInt32)) [3] [0, 1, 2, 4, 5, 6, 7, 8] rfl rfl (by decide +kernel) (ci := 5) (q0 := 0) rfl rfl rfl rfl (Nat.le_of_ble_eq_true rfl) ⟨⟨Nat.le_of_ble_eq_true rfl, Nat.le_of_ble_eq_true rfl⟩, Nat.le_of_ble_eq_true rfl, Nat.le_of_ble_eq_true rfl⟩ dX2_digestAt_121 (fun r12 u13 H locs hp hZ => ?_)
            obtain ⟨rfl, rfl⟩ := hp
            have hZ : zz_Z g A s.heap [cw_k1 lk st (nI n) l_ag l_dg l_ds, cw_i g l_dg 60 dg1, cw_i g l_ds 60 ds1, cw_i g kd 60 kdf, cw_i g dp 60 dpf, cw_i g sa 60 saf, cw_i g ln 60 lnf, cw_l g bt 4000 btf, cw_k5 st (nI na) (nI nu) kd dp cl sa ln bt pn bf] H locs := hZ
            refine lv_if_eq (tgt := 139) hx hb dX2_digestAt_124 (by decide) (fun c14 => ?_) (fun c14 => ?_)
            · refine lv_bipush (v := 31) hx hb dX2_digestAt_139 (by decide) ?_
              refine lv_iload hx hb dX2_digestAt_141 (lv_at hl 3 rfl) ?_
              refine lv_imul hx hb dX2_digestAt_143 ?_
              refine lv_iload hx hb dX2_digestAt_144 (lv_at hl 0 rfl) ?_
              refine lv_iadd hx hb dX2_digestAt_146 ?_
              refine lv_istore (lv' := [(4, .int ((31 * w) + 0)), (8, .int 0), (6, .long (btf (sz + i))), (5, .int (nI i)), (3, .int 0), (0, .ref lk), (1, .int (nI a)), (2, .int 3)]) hx hb dX2_digestAt_147 hl (by decide) rfl (fun ls hl => ?_)
              refine lv_iinc (v := nI (i + 1)) (lv' := [(5, .int (nI (i + 1))), (4, .int ((31 * w) + 0)), (8, .int 0), (6, .long (btf (sz + i))), (3, .int 0), (0, .ref lk), (1, .int (nI a)), (2, .int 3)]) hx hb dX2_digestAt_149 hl (k := 3) rfl (nI_1 _) (by decide) rfl (fun ls hl => ?_)
              refine lv_goto (tgt := 52) hx hb dX2_digestAt_152 (by decide) ?_
              exact ih (i + 1) ((31 * w) + 0) dg1 ds1 H locs ls (by omega) (hh.trans (zl_hlS (show lz - i = lz - (i + 1) + 1 by omega) (zl_hp0 (zl_d4 ed c4) es (by omega) c14))) (hm1) (hr1) (by omega) (hZ.sub [0, 1, 2, 8, 3, 4, 5, 6, 7] (by decide +kernel) rfl) (lv_sub hl [0, 1, 4, 5, 6, 7] rfl)
            · obtain ⟨b2, hb2, eb2⟩ := zl_has (by omega) c14
              have hb2v : ∀ dr : Nat, dpf b2 = nI dr → dr ≤ 4 → dr + 4 ≤ 5 := fun dr e1 e2 => by have := zl_row h_M h_a es el ed (by omega) (by omega) (by omega) (zl_gt1 g3 c4) (show i < lz by omega) hb2 eb2 dr e1 e2; omega
              refine lv_aload_n hx hb dX2_digestAt_127 rfl (lv_at hl 5 rfl) ?_
              refine lv_lload hx hb dX2_digestAt_128 (lv_at hl 1 rfl) ?_
              refine lv_l2i hx hb dX2_digestAt_130 rfl ?_
              refine zz_topi (v := nI b2) (eb2) ?_
              refine lv_iload_n hx hb dX2_digestAt_131 rfl (lv_at hl 7 rfl) ?_
              refine lv_iconst (v := 1) hx hb dX2_digestAt_132 (by decide) ?_
              refine lv_iadd hx hb dX2_digestAt_133 ?_
              refine zz_topi (v := 4) (by decide) ?_
              refine zz_iV (As := [.int (nI b2), .int 4]) (wc := [cw_k1 lk st (nI n) l_ag l_dg l_ds, cw_i g l_dg 60 dg1, cw_i g l_ds 60 ds1, cw_k5 st (nI na) (nI nu) kd dp cl sa ln bt pn bf, cw_i g kd 60 kdf, cw_i g dp 60 dpf, cw_i g sa 60 saf, cw_i g ln 60 lnf, cw_l g bt 4000 btf]) (wr := []) (rest := []) hC hZ hs hl zc_X2_62 (co_dig4 g lk l_ag l_dg l_ds st kd dp cl sa ln bt pn bf na nu n kdf dpf saf lnf btf dg1 ds1 b2 (h_M) (by omega) (hb2v) (hm1) (hr1)) [0, 1, 2, 8, 3, 4, 5, 6, 7] [] rfl rfl (by decide +kernel) (ci := 1) (q0 := 0) rfl rfl rfl rfl (Nat.le_of_ble_eq_true rfl) ⟨⟨Nat.le_of_ble_eq_true rfl, Nat.le_of_ble_eq_true rfl⟩, Nat.le_of_ble_eq_true rfl, Nat.le_of_ble_eq_true rfl⟩ dX2_digestAt_134 (fun r15 u16 H locs hp hZ => ?_)
              obtain ⟨dg2_17, ds2_18, f19, f20, f21, rfl⟩ := hp
              have hZ : zz_Z g A s.heap [cw_k1 lk st (nI n) l_ag l_dg l_ds, cw_i g l_dg 60 dg2_17, cw_i g l_ds 60 ds2_18, cw_k5 st (nI na) (nI nu) kd dp cl sa ln bt pn bf, cw_i g kd 60 kdf, cw_i g dp 60 dpf, cw_i g sa 60 saf, cw_i g ln 60 lnf, cw_l g bt 4000 btf] H locs := hZ
              refine lv_istore (lv' := [(8, .int r15), (6, .long (btf (sz + i))), (5, .int (nI i)), (4, .int w), (3, .int 0), (0, .ref lk), (1, .int (nI a)), (2, .int 3)]) hx hb dX2_digestAt_137 hl (by decide) rfl (fun ls hl => ?_)
              refine lv_bipush (v := 31) hx hb dX2_digestAt_139 (by decide) ?_
              refine lv_iload hx hb dX2_digestAt_141 (lv_at hl 3 rfl) ?_
              refine lv_imul hx hb dX2_digestAt_143 ?_
              refine lv_iload hx hb dX2_digestAt_144 (lv_at hl 0 rfl) ?_
              refine lv_iadd hx hb dX2_digestAt_146 ?_
              refine lv_istore (lv' := [(4, .int ((31 * w) + r15)), (8, .int r15), (6, .long (btf (sz + i))), (5, .int (nI i)), (3, .int 0), (0, .ref lk), (1, .int (nI a)), (2, .int 3)]) hx hb dX2_digestAt_147 hl (by decide) rfl (fun ls hl => ?_)
              refine lv_iinc (v := nI (i + 1)) (lv' := [(5, .int (nI (i + 1))), (4, .int ((31 * w) + r15)), (8, .int r15), (6, .long (btf (sz + i))), (3, .int 0), (0, .ref lk), (1, .int (nI a)), (2, .int 3)]) hx hb dX2_digestAt_149 hl (k := 3) rfl (nI_1 _) (by decide) rfl (fun ls hl => ?_)
              refine lv_goto (tgt := 52) hx hb dX2_digestAt_152 (by decide) ?_
              exact ih (i + 1) ((31 * w) + r15) dg2_17 ds2_18 H locs ls (by omega) (hh.trans (zl_hlS (show lz - i = lz - (i + 1) + 1 by omega) (zl_hp2 (zl_d4 ed c4) es (by omega) (by omega) hb2 eb2 f19))) (f20) (f21) (by omega) hZ (lv_sub hl [0, 1, 4, 5, 6, 7] rfl)
      exact LP6 _ 0 1 dgf dsf H locs ls (by omega) (hU) (h_m) (h_q) (Nat.lt_succ_self _) hZ (lv_sub hl [0, 1, 2, 3, 4, 5] rfl)
    · have nc4 : dz = 1 := (nI_eq bd5 (by decide)).mp (show nI (dz) = nI (1) from c4)
      refine lv_iconst (v := 1) hx hb dX2_digestAt_40 (by decide) ?_
      refine lv_goto (tgt := 45) hx hb dX2_digestAt_41 (by decide) ?_
      refine lv_istore_n (lv' := [(3, .int 1), (0, .ref lk), (1, .int (nI a)), (2, .int 3)]) hx hb dX2_digestAt_45 rfl hl (by decide) rfl (fun ls hl => ?_)
      refine lv_iconst (v := 1) hx hb dX2_digestAt_46 (by decide) ?_
      refine lv_istore (lv' := [(4, .int 1), (3, .int 1), (0, .ref lk), (1, .int (nI a)), (2, .int 3)]) hx hb dX2_digestAt_47 hl (by decide) rfl (fun ls hl => ?_)
      refine lv_iconst (v := 0) hx hb dX2_digestAt_49 (by decide) ?_
      refine lv_istore (lv' := [(5, .int 0), (4, .int 1), (3, .int 1), (0, .ref lk), (1, .int (nI a)), (2, .int 3)]) hx hb dX2_digestAt_50 hl (by decide) rfl (fun ls hl => ?_)
      have LP22 : ∀ (N : Nat) (i : Nat) (w : Int32) (dg1 : Nat → Int32) (ds1 : Nat → Int32) (H : Heap) (locs : List Loc) (ls : Array Slot), (i ≤ lz) → (sp_hS na kdf dpf saf lnf btf a = sp_hl (sp_hp na kdf dpf saf lnf btf a) (lz - i) i w) → (zz_DM na (sp_hS na kdf dpf saf lnf btf) n dg1 ds1) → (zz_RB n dg1) → (lz - i) < N → zz_Z g A s.heap [cw_k1 lk st (nI n) l_ag l_dg l_ds, cw_i g l_dg 60 dg1, cw_i g l_ds 60 ds1, cw_k5 st (nI na) (nI nu) kd dp cl sa ln bt pn bf, cw_i g kd 60 kdf, cw_i g dp 60 dpf, cw_i g sa 60 saf, cw_i g ln 60 lnf, cw_l g bt 4000 btf] H locs → lv_has ls 9 [(5, .int (nI i)), (4, .int w), (3, .int 1), (0, .ref lk), (1, .int (nI a)), (2, .int 3)] → W p l e rm_co_dig3 s m args below meth c H locs 0 0 (zz_QI below g args s A rm_co_dig3.cells rm_co_dig3.slots (po_co_dig3 g lk l_ag l_dg l_ds st kd dp cl sa ln bt pn bf na nu n kdf dpf saf lnf btf dgf dsf a h_M h_a h_v h_m h_q)) (F0 m 52 ls []) := by
        intro N
        induction N with
        | zero =>
          intro i w dg1 ds1 H locs ls hi hh hm1 hr1 hN
          exact absurd hN (Nat.not_lt_zero _)
        | succ N ih =>
          intro i w dg1 ds1 H locs ls hi hh hm1 hr1 hN hZ hl
          refine lv_iload hx hb dX2_digestAt_52 (lv_at hl 0 rfl) ?_
          refine lv_aload_n hx hb dX2_digestAt_54 rfl (lv_at hl 3 rfl) ?_
          refine zz_get hC hZ 0 rfl zf_X2_21 rfl dX2_digestAt_55 ?_
          refine zz_get hC hZ 3 rfl zf_X2_42 rfl dX2_digestAt_58 ?_
          refine lv_iload_n hx hb dX2_digestAt_61 rfl (lv_at hl 4 rfl) ?_
          refine zz_ialdn hC hZ 7 rfl bd2 (by decide) dX2_digestAt_62 ?_
          refine zz_topi (v := nI lz) (el) ?_
          have bd24 : lz < 2 ^ 31 := by omega
          have bd25 : i < 2 ^ 31 := by omega
          refine lv_icmp_ge (tgt := 155) hx hb dX2_digestAt_63 (by decide) (fun c23 => ?_) (fun c23 => ?_)
          · have nc23 : lz ≤ i := (nI_leI bd24 bd25).mp (show nI (lz) ≤ nI (i) from c23)
            refine lv_aload_n hx hb dX2_digestAt_155 rfl (lv_at hl 3 rfl) ?_
            refine zz_get hC hZ 0 rfl zf_X2_15 rfl dX2_digestAt_156 ?_
            refine lv_iload_n hx hb dX2_digestAt_159 rfl (lv_at hl 4 rfl) ?_
            refine lv_aload_n hx hb dX2_digestAt_160 rfl (lv_at hl 3 rfl) ?_
            refine zz_get hC hZ 0 rfl zf_X2_25 rfl dX2_digestAt_161 ?_
            refine zz_iastn hC hZ 1 rfl bd2 (by decide) dX2_digestAt_164 (fun H locs hZ => ?_)
            have hZ : zz_Z g A s.heap [cw_k1 lk st (nI n) l_ag l_dg l_ds, cw_i g l_dg 60 (upd dg1 a (nI n)), cw_i g l_ds 60 ds1, cw_k5 st (nI na) (nI nu) kd dp cl sa ln bt pn bf, cw_i g kd 60 kdf, cw_i g dp 60 dpf, cw_i g sa 60 saf, cw_i g ln 60 lnf, cw_l g bt 4000 btf] H locs := hZ
            refine lv_aload_n hx hb dX2_digestAt_165 rfl (lv_at hl 3 rfl) ?_
            refine zz_get hC hZ 0 rfl zf_X2_18 rfl dX2_digestAt_166 ?_
            refine lv_iload_n hx hb dX2_digestAt_169 rfl (lv_at hl 4 rfl) ?_
            refine lv_iload hx hb dX2_digestAt_170 (lv_at hl 1 rfl) ?_
            refine zz_iastn hC hZ 2 rfl bd2 (by decide) dX2_digestAt_172 (fun H locs hZ => ?_)
            have hZ : zz_Z g A s.heap [cw_k1 lk st (nI n) l_ag l_dg l_ds, cw_i g l_dg 60 (upd dg1 a (nI n)), cw_i g l_ds 60 (upd ds1 a w), cw_k5 st (nI na) (nI nu) kd dp cl sa ln bt pn bf, cw_i g kd 60 kdf, cw_i g dp 60 dpf, cw_i g sa 60 saf, cw_i g ln 60 lnf, cw_l g bt 4000 btf] H locs := hZ
            refine lv_iload hx hb dX2_digestAt_173 (lv_at hl 1 rfl) ?_
            exact zz_iret hC hZ (⟨(upd dg1 a (nI n)), (upd ds1 a w), (hh.trans (by rw [show lz - i = 0 by omega, sp_hl])).symm, hm1.set ((hh.trans (by rw [show lz - i = 0 by omega, sp_hl])).symm), hr1.set, rfl⟩) (Nat.le_of_ble_eq_true rfl) (Nat.le_of_ble_eq_true rfl) dX2_digestAt_175
          · have nc23 : ¬ lz ≤ i := fun zq => c23 (show nI (lz) ≤ nI (i) from (nI_leI bd24 bd25).mpr zq)
            refine lv_aload_n hx hb dX2_digestAt_66 rfl (lv_at hl 3 rfl) ?_
            refine zz_get hC hZ 0 rfl zf_X2_21 rfl dX2_digestAt_67 ?_
            refine zz_get hC hZ 3 rfl zf_X2_45 rfl dX2_digestAt_70 ?_
            refine lv_aload_n hx hb dX2_digestAt_73 rfl (lv_at hl 3 rfl) ?_
            refine zz_get hC hZ 0 rfl zf_X2_21 rfl dX2_digestAt_74 ?_
            refine zz_get hC hZ 3 rfl zf_X2_49 rfl dX2_digestAt_77 ?_
            refine lv_iload_n hx hb dX2_digestAt_80 rfl (lv_at hl 4 rfl) ?_
            refine zz_ialdn hC hZ 6 rfl bd2 (by decide) dX2_digestAt_81 ?_
            refine zz_topi (v := nI sz) (es) ?_
            refine lv_iload hx hb dX2_digestAt_82 (lv_at hl 0 rfl) ?_
            refine lv_iadd hx hb dX2_digestAt_84 ?_
            refine zz_topi (v := nI (sz + i)) (nI_add _ _) ?_
            have bd26 : (sz + i) < 4000 := by omega
            refine zz_laldn hC hZ 8 rfl bd26 (by decide) dX2_digestAt_85 ?_
            refine lv_lstore (lv' := [(6, .long (btf (sz + i))), (5, .int (nI i)), (4, .int w), (3, .int 1), (0, .ref lk), (1, .int (nI a)), (2, .int 3)]) hx hb dX2_digestAt_86 hl (by decide) rfl (fun ls hl => ?_)
            refine lv_iconst (v := 0) hx hb dX2_digestAt_88 (by decide) ?_
            refine lv_istore (lv' := [(8, .int 0), (6, .long (btf (sz + i))), (5, .int (nI i)), (4, .int w), (3, .int 1), (0, .ref lk), (1, .int (nI a)), (2, .int 3)]) hx hb dX2_digestAt_89 hl (by decide) rfl (fun ls hl => ?_)
            refine lv_iload_n hx hb dX2_digestAt_91 rfl (lv_at hl 4 rfl) ?_
            refine lv_if_eq (tgt := 114) hx hb dX2_digestAt_92 (by decide) (fun c => absurd c (by decide)) (fun c27 => ?_)
            refine lv_aload_n hx hb dX2_digestAt_95 rfl (lv_at hl 5 rfl) ?_
            refine zz_get hC hZ 0 rfl zf_X2_21 rfl dX2_digestAt_96 ?_
            refine zz_get hC hZ 3 rfl zf_X2_59 rfl dX2_digestAt_99 ?_
            refine lv_iload_n hx hb dX2_digestAt_102 rfl (lv_at hl 6 rfl) ?_
            refine zz_ialdn hC hZ 4 rfl bd2 (by decide) dX2_digestAt_103 ?_
            refine lv_lload hx hb dX2_digestAt_104 (lv_at hl 1 rfl) ?_
            refine zz_iS (As := [.int (kdf a), .long (btf (sz + i))]) (wc := []) (wr := [cw_k1 lk st (nI n) l_ag l_dg l_ds, cw_i g l_dg 60 dg1, cw_i g l_ds 60 ds1, cw_k5 st (nI na) (nI nu) kd dp cl sa ln bt pn bf, cw_i g kd 60 kdf, cw_i g dp 60 dpf, cw_i g sa 60 saf, cw_i g ln 60 lnf, cw_l g bt 4000 btf]) (rest := []) hC hZ hs hl zc_X2_66 (co_hashOf g (kdf a) (btf (sz + i))) [] [0, 1, 2, 3, 4, 5, 6, 7, 8] rfl rfl (by decide +kernel) rfl rfl (Nat.le_of_ble_eq_true rfl) ⟨⟨Nat.le_of_ble_eq_true rfl, Nat.le_of_ble_eq_true rfl⟩, Nat.le_of_ble_eq_true rfl, Nat.le_of_ble_eq_true rfl⟩ dX2_digestAt_106 (fun r28 u29 H locs hp hZ => ?_)
            obtain ⟨rfl, rfl⟩ := hp
            have hZ : zz_Z g A s.heap [cw_k1 lk st (nI n) l_ag l_dg l_ds, cw_i g l_dg 60 dg1, cw_i g l_ds 60 ds1, cw_k5 st (nI na) (nI nu) kd dp cl sa ln bt pn bf, cw_i g kd 60 kdf, cw_i g dp 60 dpf, cw_i g sa 60 saf, cw_i g ln 60 lnf, cw_l g bt 4000 btf] H locs := hZ
            refine lv_istore (lv' := [(8, .int (fn_co_hashOf (kdf a) (btf (sz + i)))), (6, .long (btf (sz + i))), (5, .int (nI i)), (4, .int w), (3, .int 1), (0, .ref lk), (1, .int (nI a)), (2, .int 3)]) hx hb dX2_digestAt_109 hl (by decide) rfl (fun ls hl => ?_)
            refine lv_goto (tgt := 139) hx hb dX2_digestAt_111 (by decide) ?_
            refine lv_bipush (v := 31) hx hb dX2_digestAt_139 (by decide) ?_
            refine lv_iload hx hb dX2_digestAt_141 (lv_at hl 3 rfl) ?_
            refine lv_imul hx hb dX2_digestAt_143 ?_
            refine lv_iload hx hb dX2_digestAt_144 (lv_at hl 0 rfl) ?_
            refine lv_iadd hx hb dX2_digestAt_146 ?_
            refine lv_istore (lv' := [(4, .int ((31 * w) + (fn_co_hashOf (kdf a) (btf (sz + i))))), (8, .int (fn_co_hashOf (kdf a) (btf (sz + i)))), (6, .long (btf (sz + i))), (5, .int (nI i)), (3, .int 1), (0, .ref lk), (1, .int (nI a)), (2, .int 3)]) hx hb dX2_digestAt_147 hl (by decide) rfl (fun ls hl => ?_)
            refine lv_iinc (v := nI (i + 1)) (lv' := [(5, .int (nI (i + 1))), (4, .int ((31 * w) + (fn_co_hashOf (kdf a) (btf (sz + i))))), (8, .int (fn_co_hashOf (kdf a) (btf (sz + i)))), (6, .long (btf (sz + i))), (3, .int 1), (0, .ref lk), (1, .int (nI a)), (2, .int 3)]) hx hb dX2_digestAt_149 hl (k := 3) rfl (nI_1 _) (by decide) rfl (fun ls hl => ?_)
            refine lv_goto (tgt := 52) hx hb dX2_digestAt_152 (by decide) ?_
            exact ih (i + 1) ((31 * w) + (fn_co_hashOf (kdf a) (btf (sz + i)))) dg1 ds1 H locs ls (by omega) (hh.trans (zl_hlS (show lz - i = lz - (i + 1) + 1 by omega) (zl_hp1 (zl_d3 ed c4) es (by omega)))) (hm1) (hr1) (by omega) hZ (lv_sub hl [0, 1, 4, 5, 6, 7] rfl)
      exact LP22 _ 0 1 dgf dsf H locs ls (by omega) (hU) (h_m) (h_q) (Nat.lt_succ_self _) hZ (lv_sub hl [0, 1, 2, 3, 4, 5] rfl)
  · refine lv_aload_n hx hb dX2_digestAt_20 rfl (lv_at hl 0 rfl) ?_
    refine zz_get hC hZ 0 rfl zf_X2_18 rfl dX2_digestAt_21 ?_
    refine lv_iload_n hx hb dX2_digestAt_24 rfl (lv_at hl 1 rfl) ?_
    refine zz_ialdn hC hZ 2 rfl bd2 (by decide) dX2_digestAt_25 ?_
    exact zz_iret hC hZ (⟨dgf, dsf, h_m a h_a c3, h_m, h_q, rfl⟩) (Nat.le_of_ble_eq_true rfl) (Nat.le_of_ble_eq_true rfl) dX2_digestAt_26
abbrev rm_co_dig2 : Room := { frames := 3, cells := 0, slots := 0, locals := 84 }
abbrev po_co_dig2 (g : zz_G) (lk : Nat) (l_ag : Nat) (l_dg : Nat) (l_ds : Nat) (st : Nat) (kd : Nat) (dp : Nat) (cl : Nat) (sa : Nat) (ln : Nat) (bt : Nat) (pn : Nat) (bf : Nat) (na : Nat) (nu : Nat) (n : Nat) (kdf : Nat → Int32) (dpf : Nat → Int32) (saf : Nat → Int32) (lnf : Nat → Int32) (btf : Nat → Int64) (dgf : Nat → Int32) (dsf : Nat → Int32) (a : Nat) (h_M : zz_MI na nu dpf saf lnf btf) (h_a : a < na) (h_v : ∀ dr : Nat, dpf a = nI dr → dr ≤ 4 → dr + 2 ≤ 5) (h_m : zz_DM na (sp_hS na kdf dpf saf lnf btf) n dgf dsf) (h_q : zz_RB n dgf) : Int32 → va_W → Prop := fun (r : Int32) (u : va_W) => ∃ (dg2 : Nat → Int32) (ds2 : Nat → Int32), (r = sp_hS na kdf dpf saf lnf btf a) ∧ (zz_DM na (sp_hS na kdf dpf saf lnf btf) n dg2 ds2) ∧ (zz_RB n dg2) ∧ u = [cw_k1 lk st (nI n) l_ag l_dg l_ds, cw_i g l_dg 60 dg2, cw_i g l_ds 60 ds2, cw_k5 st (nI na) (nI nu) kd dp cl sa ln bt pn bf, cw_i g kd 60 kdf, cw_i g dp 60 dpf, cw_i g sa 60 saf, cw_i g ln 60 lnf, cw_l g bt 4000 btf]
set_option maxHeartbeats 4000000 in
set_option maxRecDepth 100000 in
theorem co_dig2 (g : zz_G) (lk : Nat) (l_ag : Nat) (l_dg : Nat) (l_ds : Nat) (st : Nat) (kd : Nat) (dp : Nat) (cl : Nat) (sa : Nat) (ln : Nat) (bt : Nat) (pn : Nat) (bf : Nat) (na : Nat) (nu : Nat) (n : Nat) (kdf : Nat → Int32) (dpf : Nat → Int32) (saf : Nat → Int32) (lnf : Nat → Int32) (btf : Nat → Int64) (dgf : Nat → Int32) (dsf : Nat → Int32) (a : Nat) (h_M : zz_MI na nu dpf saf lnf btf) (h_a : a < na) (h_v : ∀ dr : Nat, dpf a = nI dr → dr ≤ 4 → dr + 2 ≤ 5) (h_m : zz_DM na (sp_hS na kdf dpf saf lnf btf) n dgf dsf) (h_q : zz_RB n dgf) : zz_I g yX2_digestAt (.code yX2_digestAt cX2_digestAt 9 (some .int)) rm_co_dig2 [.ref lk, .int (nI a), .int 2] [cw_k1 lk st (nI n) l_ag l_dg l_ds, cw_i g l_dg 60 dgf, cw_i g l_ds 60 dsf, cw_k5 st (nI na) (nI nu) kd dp cl sa ln bt pn bf, cw_i g kd 60 kdf, cw_i g dp 60 dpf, cw_i g sa 60 saf, cw_i g ln 60 lnf, cw_l g bt 4000 btf] (po_co_dig2 g lk l_ag l_dg l_ds st kd dp cl sa ln bt pn bf na nu n kdf dpf saf lnf btf dgf dsf a h_M h_a h_v h_m h_q) := by
  refine zz_I.intro (own := RX2) (cc := cX2_digestAt) (nL := 9) (by decide) rfl (Nat.le_of_ble_eq_true rfl) ?_
  intro p l e s m args below meth c A H locs ls hC hnm hs hZ hl
  obtain ⟨hx, hb, hml, hown, hts, hr, hlocks, hK⟩ := id hC
  have hl : lv_has ls 9 [(0, .ref lk), (1, .int (nI a)), (2, .int 2)] := hl
  have hZ : zz_Z g A s.heap [cw_k1 lk st (nI n) l_ag l_dg l_ds, cw_i g l_dg 60 dgf, cw_i g l_ds 60 dsf, cw_k5 st (nI na) (nI nu) kd dp cl sa ln bt pn bf, cw_i g kd 60 kdf, cw_i g dp 60 dpf, cw_i g sa 60 saf, cw_i g ln 60 lnf, cw_l g bt 4000 btf] H locs := hZ
  have h_S := h_M.1
  have hna := h_S.1
  have hnu := h_S.2.1
  obtain ⟨sz, lz, dz, es, el, ed, g1, g2, g3, g4⟩ := h_S.2.2 a h_a
  have hv := h_v dz ed (by omega)
  have hU := zl_hsU (kd := kdf) h_M h_a es el ed (by omega) (by omega) (by omega) (by omega)
  refine lv_iload_n hx hb dX2_digestAt_0 rfl (lv_at hl 2 rfl) ?_
  refine lv_iconst (v := 4) hx hb dX2_digestAt_1 (by decide) ?_
  refine lv_icmp_le (tgt := 7) hx hb dX2_digestAt_2 (by decide) (fun c1 => ?_) (fun c => absurd (by decide) c)
  refine lv_aload_n hx hb dX2_digestAt_7 rfl (lv_at hl 0 rfl) ?_
  refine zz_get hC hZ 0 rfl zf_X2_15 rfl dX2_digestAt_8 ?_
  refine lv_iload_n hx hb dX2_digestAt_11 rfl (lv_at hl 1 rfl) ?_
  have bd2 : a < 60 := by omega
  refine zz_ialdn hC hZ 1 rfl bd2 (by decide) dX2_digestAt_12 ?_
  refine lv_aload_n hx hb dX2_digestAt_13 rfl (lv_at hl 0 rfl) ?_
  refine zz_get hC hZ 0 rfl zf_X2_25 rfl dX2_digestAt_14 ?_
  refine lv_icmp_ne (tgt := 27) hx hb dX2_digestAt_17 (by decide) (fun c3 => ?_) (fun c3 => ?_)
  · refine lv_aload_n hx hb dX2_digestAt_27 rfl (lv_at hl 0 rfl) ?_
    refine zz_get hC hZ 0 rfl zf_X2_21 rfl dX2_digestAt_28 ?_
    refine zz_get hC hZ 3 rfl zf_X2_37 rfl dX2_digestAt_31 ?_
    refine lv_iload_n hx hb dX2_digestAt_34 rfl (lv_at hl 1 rfl) ?_
    refine zz_ialdn hC hZ 5 rfl bd2 (by decide) dX2_digestAt_35 ?_
    refine zz_topi (v := nI dz) (ed) ?_
    refine lv_iconst (v := 1) hx hb dX2_digestAt_36 (by decide) ?_
    have bd5 : dz < 2 ^ 31 := by omega
    refine lv_icmp_ne (tgt := 44) hx hb dX2_digestAt_37 (by decide) (fun c4 => ?_) (fun c4 => ?_)
    · have nc4 : ¬ dz = 1 := fun zq => c4 (show nI (dz) = nI (1) from (nI_eq bd5 (by decide)).mpr zq)
      refine lv_iconst (v := 0) hx hb dX2_digestAt_44 (by decide) ?_
      refine lv_istore_n (lv' := [(3, .int 0), (0, .ref lk), (1, .int (nI a)), (2, .int 2)]) hx hb dX2_digestAt_45 rfl hl (by decide) rfl (fun ls hl => ?_)
      refine lv_iconst (v := 1) hx hb dX2_digestAt_46 (by decide) ?_
      refine lv_istore (lv' := [(4, .int 1), (3, .int 0), (0, .ref lk), (1, .int (nI a)), (2, .int 2)]) hx hb dX2_digestAt_47 hl (by decide) rfl (fun ls hl => ?_)
      refine lv_iconst (v := 0) hx hb dX2_digestAt_49 (by decide) ?_
      refine lv_istore (lv' := [(5, .int 0), (4, .int 1), (3, .int 0), (0, .ref lk), (1, .int (nI a)), (2, .int 2)]) hx hb dX2_digestAt_50 hl (by decide) rfl (fun ls hl => ?_)
      have LP6 : ∀ (N : Nat) (i : Nat) (w : Int32) (dg1 : Nat → Int32) (ds1 : Nat → Int32) (H : Heap) (locs : List Loc) (ls : Array Slot), (i ≤ lz) → (sp_hS na kdf dpf saf lnf btf a = sp_hl (sp_hp na kdf dpf saf lnf btf a) (lz - i) i w) → (zz_DM na (sp_hS na kdf dpf saf lnf btf) n dg1 ds1) → (zz_RB n dg1) → (lz - i) < N → zz_Z g A s.heap [cw_k1 lk st (nI n) l_ag l_dg l_ds, cw_i g l_dg 60 dg1, cw_i g l_ds 60 ds1, cw_k5 st (nI na) (nI nu) kd dp cl sa ln bt pn bf, cw_i g kd 60 kdf, cw_i g dp 60 dpf, cw_i g sa 60 saf, cw_i g ln 60 lnf, cw_l g bt 4000 btf] H locs → lv_has ls 9 [(5, .int (nI i)), (4, .int w), (3, .int 0), (0, .ref lk), (1, .int (nI a)), (2, .int 2)] → W p l e rm_co_dig2 s m args below meth c H locs 0 0 (zz_QI below g args s A rm_co_dig2.cells rm_co_dig2.slots (po_co_dig2 g lk l_ag l_dg l_ds st kd dp cl sa ln bt pn bf na nu n kdf dpf saf lnf btf dgf dsf a h_M h_a h_v h_m h_q)) (F0 m 52 ls []) := by
        intro N
        induction N with
        | zero =>
          intro i w dg1 ds1 H locs ls hi hh hm1 hr1 hN
          exact absurd hN (Nat.not_lt_zero _)
        | succ N ih =>
          intro i w dg1 ds1 H locs ls hi hh hm1 hr1 hN hZ hl
          refine lv_iload hx hb dX2_digestAt_52 (lv_at hl 0 rfl) ?_
          refine lv_aload_n hx hb dX2_digestAt_54 rfl (lv_at hl 3 rfl) ?_
          refine zz_get hC hZ 0 rfl zf_X2_21 rfl dX2_digestAt_55 ?_
          refine zz_get hC hZ 3 rfl zf_X2_42 rfl dX2_digestAt_58 ?_
          refine lv_iload_n hx hb dX2_digestAt_61 rfl (lv_at hl 4 rfl) ?_
          refine zz_ialdn hC hZ 7 rfl bd2 (by decide) dX2_digestAt_62 ?_
          refine zz_topi (v := nI lz) (el) ?_
          have bd8 : lz < 2 ^ 31 := by omega
          have bd9 : i < 2 ^ 31 := by omega
          refine lv_icmp_ge (tgt := 155) hx hb dX2_digestAt_63 (by decide) (fun c7 => ?_) (fun c7 => ?_)
          · have nc7 : lz ≤ i := (nI_leI bd8 bd9).mp (show nI (lz) ≤ nI (i) from c7)
            refine lv_aload_n hx hb dX2_digestAt_155 rfl (lv_at hl 3 rfl) ?_
            refine zz_get hC hZ 0 rfl zf_X2_15 rfl dX2_digestAt_156 ?_
            refine lv_iload_n hx hb dX2_digestAt_159 rfl (lv_at hl 4 rfl) ?_
            refine lv_aload_n hx hb dX2_digestAt_160 rfl (lv_at hl 3 rfl) ?_
            refine zz_get hC hZ 0 rfl zf_X2_25 rfl dX2_digestAt_161 ?_
            refine zz_iastn hC hZ 1 rfl bd2 (by decide) dX2_digestAt_164 (fun H locs hZ => ?_)
            have hZ : zz_Z g A s.heap [cw_k1 lk st (nI n) l_ag l_dg l_ds, cw_i g l_dg 60 (upd dg1 a (nI n)), cw_i g l_ds 60 ds1, cw_k5 st (nI na) (nI nu) kd dp cl sa ln bt pn bf, cw_i g kd 60 kdf, cw_i g dp 60 dpf, cw_i g sa 60 saf, cw_i g ln 60 lnf, cw_l g bt 4000 btf] H locs := hZ
            refine lv_aload_n hx hb dX2_digestAt_165 rfl (lv_at hl 3 rfl) ?_
            refine zz_get hC hZ 0 rfl zf_X2_18 rfl dX2_digestAt_166 ?_
            refine lv_iload_n hx hb dX2_digestAt_169 rfl (lv_at hl 4 rfl) ?_
            refine lv_iload hx hb dX2_digestAt_170 (lv_at hl 1 rfl) ?_
            refine zz_iastn hC hZ 2 rfl bd2 (by decide) dX2_digestAt_172 (fun H locs hZ => ?_)
            have hZ : zz_Z g A s.heap [cw_k1 lk st (nI n) l_ag l_dg l_ds, cw_i g l_dg 60 (upd dg1 a (nI n)), cw_i g l_ds 60 (upd ds1 a w), cw_k5 st (nI na) (nI nu) kd dp cl sa ln bt pn bf, cw_i g kd 60 kdf, cw_i g dp 60 dpf, cw_i g sa 60 saf, cw_i g ln 60 lnf, cw_l g bt 4000 btf] H locs := hZ
            refine lv_iload hx hb dX2_digestAt_173 (lv_at hl 1 rfl) ?_
            exact zz_iret hC hZ (⟨(upd dg1 a (nI n)), (upd ds1 a w), (hh.trans (by rw [show lz - i = 0 by omega, sp_hl])).symm, hm1.set ((hh.trans (by rw [show lz - i = 0 by omega, sp_hl])).symm), hr1.set, rfl⟩) (Nat.le_of_ble_eq_true rfl) (Nat.le_of_ble_eq_true rfl) dX2_digestAt_175
          · have nc7 : ¬ lz ≤ i := fun zq => c7 (show nI (lz) ≤ nI (i) from (nI_leI bd8 bd9).mpr zq)
            refine lv_aload_n hx hb dX2_digestAt_66 rfl (lv_at hl 3 rfl) ?_
            refine zz_get hC hZ 0 rfl zf_X2_21 rfl dX2_digestAt_67 ?_
            refine zz_get hC hZ 3 rfl zf_X2_45 rfl dX2_digestAt_70 ?_
            refine lv_aload_n hx hb dX2_digestAt_73 rfl (lv_at hl 3 rfl) ?_
            refine zz_get hC hZ 0 rfl zf_X2_21 rfl dX2_digestAt_74 ?_
            refine zz_get hC hZ 3 rfl zf_X2_49 rfl dX2_digestAt_77 ?_
            refine lv_iload_n hx hb dX2_digestAt_80 rfl (lv_at hl 4 rfl) ?_
            refine zz_ialdn hC hZ 6 rfl bd2 (by decide) dX2_digestAt_81 ?_
            refine zz_topi (v := nI sz) (es) ?_
            refine lv_iload hx hb dX2_digestAt_82 (lv_at hl 0 rfl) ?_
            refine lv_iadd hx hb dX2_digestAt_84 ?_
            refine zz_topi (v := nI (sz + i)) (nI_add _ _) ?_
            have bd10 : (sz + i) < 4000 := by omega
            refine zz_laldn hC hZ 8 rfl bd10 (by decide) dX2_digestAt_85 ?_
            refine lv_lstore (lv' := [(6, .long (btf (sz + i))), (5, .int (nI i)), (4, .int w), (3, .int 0), (0, .ref lk), (1, .int (nI a)), (2, .int 2)]) hx hb dX2_digestAt_86 hl (by decide) rfl (fun ls hl => ?_)
            refine lv_iconst (v := 0) hx hb dX2_digestAt_88 (by decide) ?_
            refine lv_istore (lv' := [(8, .int 0), (6, .long (btf (sz + i))), (5, .int (nI i)), (4, .int w), (3, .int 0), (0, .ref lk), (1, .int (nI a)), (2, .int 2)]) hx hb dX2_digestAt_89 hl (by decide) rfl (fun ls hl => ?_)
            refine lv_iload_n hx hb dX2_digestAt_91 rfl (lv_at hl 4 rfl) ?_
            refine lv_if_eq (tgt := 114) hx hb dX2_digestAt_92 (by decide) (fun c11 => ?_) (fun c => absurd (by decide) c)
            refine lv_aload_n hx hb dX2_digestAt_114 rfl (lv_at hl 5 rfl) ?_
            refine zz_get hC hZ 0 rfl zf_X2_21 rfl dX2_digestAt_115 ?_
            refine lv_lload hx hb dX2_digestAt_118 (lv_at hl 1 rfl) ?_
            refine lv_l2i hx hb dX2_digestAt_120 rfl ?_
            refine zz_iV (As := [.int ((btf (sz + i)).toInt32)]) (wc := [cw_k5 st (nI na) (nI nu) kd dp cl sa ln bt pn bf]) (wr := [cw_k1 lk st (nI n) l_ag l_dg l_ds, cw_i g l_dg 60 dg1, cw_i g l_ds 60 ds1, cw_i g kd 60 kdf, cw_i g dp 60 dpf, cw_i g sa 60 saf, cw_i g ln 60 lnf, cw_l g bt 4000 btf]) (rest := []) hC hZ hs hl zc_X2_55 (co_has g st kd dp cl sa ln bt pn bf (nI na) (nI nu) ((btf (sz + i)).toInt32)) [3] [0, 1, 2, 4, 5, 6, 7, 8] rfl rfl (by decide +kernel) (ci := 5) (q0 := 0) rfl rfl rfl rfl (Nat.le_of_ble_eq_true rfl) ⟨⟨Nat.le_of_ble_eq_true rfl, Nat.le_of_ble_eq_true rfl⟩, Nat.le_of_ble_eq_true rfl, Nat.le_of_ble_eq_true rfl⟩ dX2_digestAt_121 (fun r12 u13 H locs hp hZ => ?_)
            obtain ⟨rfl, rfl⟩ := hp
            have hZ : zz_Z g A s.heap [cw_k1 lk st (nI n) l_ag l_dg l_ds, cw_i g l_dg 60 dg1, cw_i g l_ds 60 ds1, cw_i g kd 60 kdf, cw_i g dp 60 dpf, cw_i g sa 60 saf, cw_i g ln 60 lnf, cw_l g bt 4000 btf, cw_k5 st (nI na) (nI nu) kd dp cl sa ln bt pn bf] H locs := hZ
            refine lv_if_eq (tgt := 139) hx hb dX2_digestAt_124 (by decide) (fun c14 => ?_) (fun c14 => ?_)
            · refine lv_bipush (v := 31) hx hb dX2_digestAt_139 (by decide) ?_
              refine lv_iload hx hb dX2_digestAt_141 (lv_at hl 3 rfl) ?_
              refine lv_imul hx hb dX2_digestAt_143 ?_
              refine lv_iload hx hb dX2_digestAt_144 (lv_at hl 0 rfl) ?_
              refine lv_iadd hx hb dX2_digestAt_146 ?_
              refine lv_istore (lv' := [(4, .int ((31 * w) + 0)), (8, .int 0), (6, .long (btf (sz + i))), (5, .int (nI i)), (3, .int 0), (0, .ref lk), (1, .int (nI a)), (2, .int 2)]) hx hb dX2_digestAt_147 hl (by decide) rfl (fun ls hl => ?_)
              refine lv_iinc (v := nI (i + 1)) (lv' := [(5, .int (nI (i + 1))), (4, .int ((31 * w) + 0)), (8, .int 0), (6, .long (btf (sz + i))), (3, .int 0), (0, .ref lk), (1, .int (nI a)), (2, .int 2)]) hx hb dX2_digestAt_149 hl (k := 3) rfl (nI_1 _) (by decide) rfl (fun ls hl => ?_)
              refine lv_goto (tgt := 52) hx hb dX2_digestAt_152 (by decide) ?_
              exact ih (i + 1) ((31 * w) + 0) dg1 ds1 H locs ls (by omega) (hh.trans (zl_hlS (show lz - i = lz - (i + 1) + 1 by omega) (zl_hp0 (zl_d4 ed c4) es (by omega) c14))) (hm1) (hr1) (by omega) (hZ.sub [0, 1, 2, 8, 3, 4, 5, 6, 7] (by decide +kernel) rfl) (lv_sub hl [0, 1, 4, 5, 6, 7] rfl)
            · obtain ⟨b2, hb2, eb2⟩ := zl_has (by omega) c14
              have hb2v : ∀ dr : Nat, dpf b2 = nI dr → dr ≤ 4 → dr + 3 ≤ 5 := fun dr e1 e2 => by have := zl_row h_M h_a es el ed (by omega) (by omega) (by omega) (zl_gt1 g3 c4) (show i < lz by omega) hb2 eb2 dr e1 e2; omega
              refine lv_aload_n hx hb dX2_digestAt_127 rfl (lv_at hl 5 rfl) ?_
              refine lv_lload hx hb dX2_digestAt_128 (lv_at hl 1 rfl) ?_
              refine lv_l2i hx hb dX2_digestAt_130 rfl ?_
              refine zz_topi (v := nI b2) (eb2) ?_
              refine lv_iload_n hx hb dX2_digestAt_131 rfl (lv_at hl 7 rfl) ?_
              refine lv_iconst (v := 1) hx hb dX2_digestAt_132 (by decide) ?_
              refine lv_iadd hx hb dX2_digestAt_133 ?_
              refine zz_topi (v := 3) (by decide) ?_
              refine zz_iV (As := [.int (nI b2), .int 3]) (wc := [cw_k1 lk st (nI n) l_ag l_dg l_ds, cw_i g l_dg 60 dg1, cw_i g l_ds 60 ds1, cw_k5 st (nI na) (nI nu) kd dp cl sa ln bt pn bf, cw_i g kd 60 kdf, cw_i g dp 60 dpf, cw_i g sa 60 saf, cw_i g ln 60 lnf, cw_l g bt 4000 btf]) (wr := []) (rest := []) hC hZ hs hl zc_X2_62 (co_dig3 g lk l_ag l_dg l_ds st kd dp cl sa ln bt pn bf na nu n kdf dpf saf lnf btf dg1 ds1 b2 (h_M) (by omega) (hb2v) (hm1) (hr1)) [0, 1, 2, 8, 3, 4, 5, 6, 7] [] rfl rfl (by decide +kernel) (ci := 1) (q0 := 0) rfl rfl rfl rfl (Nat.le_of_ble_eq_true rfl) ⟨⟨Nat.le_of_ble_eq_true rfl, Nat.le_of_ble_eq_true rfl⟩, Nat.le_of_ble_eq_true rfl, Nat.le_of_ble_eq_true rfl⟩ dX2_digestAt_134 (fun r15 u16 H locs hp hZ => ?_)
              obtain ⟨dg2_17, ds2_18, f19, f20, f21, rfl⟩ := hp
              have hZ : zz_Z g A s.heap [cw_k1 lk st (nI n) l_ag l_dg l_ds, cw_i g l_dg 60 dg2_17, cw_i g l_ds 60 ds2_18, cw_k5 st (nI na) (nI nu) kd dp cl sa ln bt pn bf, cw_i g kd 60 kdf, cw_i g dp 60 dpf, cw_i g sa 60 saf, cw_i g ln 60 lnf, cw_l g bt 4000 btf] H locs := hZ
              refine lv_istore (lv' := [(8, .int r15), (6, .long (btf (sz + i))), (5, .int (nI i)), (4, .int w), (3, .int 0), (0, .ref lk), (1, .int (nI a)), (2, .int 2)]) hx hb dX2_digestAt_137 hl (by decide) rfl (fun ls hl => ?_)
              refine lv_bipush (v := 31) hx hb dX2_digestAt_139 (by decide) ?_
              refine lv_iload hx hb dX2_digestAt_141 (lv_at hl 3 rfl) ?_
              refine lv_imul hx hb dX2_digestAt_143 ?_
              refine lv_iload hx hb dX2_digestAt_144 (lv_at hl 0 rfl) ?_
              refine lv_iadd hx hb dX2_digestAt_146 ?_
              refine lv_istore (lv' := [(4, .int ((31 * w) + r15)), (8, .int r15), (6, .long (btf (sz + i))), (5, .int (nI i)), (3, .int 0), (0, .ref lk), (1, .int (nI a)), (2, .int 2)]) hx hb dX2_digestAt_147 hl (by decide) rfl (fun ls hl => ?_)
              refine lv_iinc (v := nI (i + 1)) (lv' := [(5, .int (nI (i + 1))), (4, .int ((31 * w) + r15)), (8, .int r15), (6, .long (btf (sz + i))), (3, .int 0), (0, .ref lk), (1, .int (nI a)), (2, .int 2)]) hx hb dX2_digestAt_149 hl (k := 3) rfl (nI_1 _) (by decide) rfl (fun ls hl => ?_)
              refine lv_goto (tgt := 52) hx hb dX2_digestAt_152 (by decide) ?_
              exact ih (i + 1) ((31 * w) + r15) dg2_17 ds2_18 H locs ls (by omega) (hh.trans (zl_hlS (show lz - i = lz - (i + 1) + 1 by omega) (zl_hp2 (zl_d4 ed c4) es (by omega) (by omega) hb2 eb2 f19))) (f20) (f21) (by omega) hZ (lv_sub hl [0, 1, 4, 5, 6, 7] rfl)
      exact LP6 _ 0 1 dgf dsf H locs ls (by omega) (hU) (h_m) (h_q) (Nat.lt_succ_self _) hZ (lv_sub hl [0, 1, 2, 3, 4, 5] rfl)
    · have nc4 : dz = 1 := (nI_eq bd5 (by decide)).mp (show nI (dz) = nI (1) from c4)
      refine lv_iconst (v := 1) hx hb dX2_digestAt_40 (by decide) ?_
      refine lv_goto (tgt := 45) hx hb dX2_digestAt_41 (by decide) ?_
      refine lv_istore_n (lv' := [(3, .int 1), (0, .ref lk), (1, .int (nI a)), (2, .int 2)]) hx hb dX2_digestAt_45 rfl hl (by decide) rfl (fun ls hl => ?_)
      refine lv_iconst (v := 1) hx hb dX2_digestAt_46 (by decide) ?_
      refine lv_istore (lv' := [(4, .int 1), (3, .int 1), (0, .ref lk), (1, .int (nI a)), (2, .int 2)]) hx hb dX2_digestAt_47 hl (by decide) rfl (fun ls hl => ?_)
      refine lv_iconst (v := 0) hx hb dX2_digestAt_49 (by decide) ?_
      refine lv_istore (lv' := [(5, .int 0), (4, .int 1), (3, .int 1), (0, .ref lk), (1, .int (nI a)), (2, .int 2)]) hx hb dX2_digestAt_50 hl (by decide) rfl (fun ls hl => ?_)
      have LP22 : ∀ (N : Nat) (i : Nat) (w : Int32) (dg1 : Nat → Int32) (ds1 : Nat → Int32) (H : Heap) (locs : List Loc) (ls : Array Slot), (i ≤ lz) → (sp_hS na kdf dpf saf lnf btf a = sp_hl (sp_hp na kdf dpf saf lnf btf a) (lz - i) i w) → (zz_DM na (sp_hS na kdf dpf saf lnf btf) n dg1 ds1) → (zz_RB n dg1) → (lz - i) < N → zz_Z g A s.heap [cw_k1 lk st (nI n) l_ag l_dg l_ds, cw_i g l_dg 60 dg1, cw_i g l_ds 60 ds1, cw_k5 st (nI na) (nI nu) kd dp cl sa ln bt pn bf, cw_i g kd 60 kdf, cw_i g dp 60 dpf, cw_i g sa 60 saf, cw_i g ln 60 lnf, cw_l g bt 4000 btf] H locs → lv_has ls 9 [(5, .int (nI i)), (4, .int w), (3, .int 1), (0, .ref lk), (1, .int (nI a)), (2, .int 2)] → W p l e rm_co_dig2 s m args below meth c H locs 0 0 (zz_QI below g args s A rm_co_dig2.cells rm_co_dig2.slots (po_co_dig2 g lk l_ag l_dg l_ds st kd dp cl sa ln bt pn bf na nu n kdf dpf saf lnf btf dgf dsf a h_M h_a h_v h_m h_q)) (F0 m 52 ls []) := by
        intro N
        induction N with
        | zero =>
          intro i w dg1 ds1 H locs ls hi hh hm1 hr1 hN
          exact absurd hN (Nat.not_lt_zero _)
        | succ N ih =>
          intro i w dg1 ds1 H locs ls hi hh hm1 hr1 hN hZ hl
          refine lv_iload hx hb dX2_digestAt_52 (lv_at hl 0 rfl) ?_
          refine lv_aload_n hx hb dX2_digestAt_54 rfl (lv_at hl 3 rfl) ?_
          refine zz_get hC hZ 0 rfl zf_X2_21 rfl dX2_digestAt_55 ?_
          refine zz_get hC hZ 3 rfl zf_X2_42 rfl dX2_digestAt_58 ?_
          refine lv_iload_n hx hb dX2_digestAt_61 rfl (lv_at hl 4 rfl) ?_
          refine zz_ialdn hC hZ 7 rfl bd2 (by decide) dX2_digestAt_62 ?_
          refine zz_topi (v := nI lz) (el) ?_
          have bd24 : lz < 2 ^ 31 := by omega
          have bd25 : i < 2 ^ 31 := by omega
          refine lv_icmp_ge (tgt := 155) hx hb dX2_digestAt_63 (by decide) (fun c23 => ?_) (fun c23 => ?_)
          · have nc23 : lz ≤ i := (nI_leI bd24 bd25).mp (show nI (lz) ≤ nI (i) from c23)
            refine lv_aload_n hx hb dX2_digestAt_155 rfl (lv_at hl 3 rfl) ?_
            refine zz_get hC hZ 0 rfl zf_X2_15 rfl dX2_digestAt_156 ?_
            refine lv_iload_n hx hb dX2_digestAt_159 rfl (lv_at hl 4 rfl) ?_
            refine lv_aload_n hx hb dX2_digestAt_160 rfl (lv_at hl 3 rfl) ?_
            refine zz_get hC hZ 0 rfl zf_X2_25 rfl dX2_digestAt_161 ?_
            refine zz_iastn hC hZ 1 rfl bd2 (by decide) dX2_digestAt_164 (fun H locs hZ => ?_)
            have hZ : zz_Z g A s.heap [cw_k1 lk st (nI n) l_ag l_dg l_ds, cw_i g l_dg 60 (upd dg1 a (nI n)), cw_i g l_ds 60 ds1, cw_k5 st (nI na) (nI nu) kd dp cl sa ln bt pn bf, cw_i g kd 60 kdf, cw_i g dp 60 dpf, cw_i g sa 60 saf, cw_i g ln 60 lnf, cw_l g bt 4000 btf] H locs := hZ
            refine lv_aload_n hx hb dX2_digestAt_165 rfl (lv_at hl 3 rfl) ?_
            refine zz_get hC hZ 0 rfl zf_X2_18 rfl dX2_digestAt_166 ?_
            refine lv_iload_n hx hb dX2_digestAt_169 rfl (lv_at hl 4 rfl) ?_
            refine lv_iload hx hb dX2_digestAt_170 (lv_at hl 1 rfl) ?_
            refine zz_iastn hC hZ 2 rfl bd2 (by decide) dX2_digestAt_172 (fun H locs hZ => ?_)
            have hZ : zz_Z g A s.heap [cw_k1 lk st (nI n) l_ag l_dg l_ds, cw_i g l_dg 60 (upd dg1 a (nI n)), cw_i g l_ds 60 (upd ds1 a w), cw_k5 st (nI na) (nI nu) kd dp cl sa ln bt pn bf, cw_i g kd 60 kdf, cw_i g dp 60 dpf, cw_i g sa 60 saf, cw_i g ln 60 lnf, cw_l g bt 4000 btf] H locs := hZ
            refine lv_iload hx hb dX2_digestAt_173 (lv_at hl 1 rfl) ?_
            exact zz_iret hC hZ (⟨(upd dg1 a (nI n)), (upd ds1 a w), (hh.trans (by rw [show lz - i = 0 by omega, sp_hl])).symm, hm1.set ((hh.trans (by rw [show lz - i = 0 by omega, sp_hl])).symm), hr1.set, rfl⟩) (Nat.le_of_ble_eq_true rfl) (Nat.le_of_ble_eq_true rfl) dX2_digestAt_175
          · have nc23 : ¬ lz ≤ i := fun zq => c23 (show nI (lz) ≤ nI (i) from (nI_leI bd24 bd25).mpr zq)
            refine lv_aload_n hx hb dX2_digestAt_66 rfl (lv_at hl 3 rfl) ?_
            refine zz_get hC hZ 0 rfl zf_X2_21 rfl dX2_digestAt_67 ?_
            refine zz_get hC hZ 3 rfl zf_X2_45 rfl dX2_digestAt_70 ?_
            refine lv_aload_n hx hb dX2_digestAt_73 rfl (lv_at hl 3 rfl) ?_
            refine zz_get hC hZ 0 rfl zf_X2_21 rfl dX2_digestAt_74 ?_
            refine zz_get hC hZ 3 rfl zf_X2_49 rfl dX2_digestAt_77 ?_
            refine lv_iload_n hx hb dX2_digestAt_80 rfl (lv_at hl 4 rfl) ?_
            refine zz_ialdn hC hZ 6 rfl bd2 (by decide) dX2_digestAt_81 ?_
            refine zz_topi (v := nI sz) (es) ?_
            refine lv_iload hx hb dX2_digestAt_82 (lv_at hl 0 rfl) ?_
            refine lv_iadd hx hb dX2_digestAt_84 ?_
            refine zz_topi (v := nI (sz + i)) (nI_add _ _) ?_
            have bd26 : (sz + i) < 4000 := by omega
            refine zz_laldn hC hZ 8 rfl bd26 (by decide) dX2_digestAt_85 ?_
            refine lv_lstore (lv' := [(6, .long (btf (sz + i))), (5, .int (nI i)), (4, .int w), (3, .int 1), (0, .ref lk), (1, .int (nI a)), (2, .int 2)]) hx hb dX2_digestAt_86 hl (by decide) rfl (fun ls hl => ?_)
            refine lv_iconst (v := 0) hx hb dX2_digestAt_88 (by decide) ?_
            refine lv_istore (lv' := [(8, .int 0), (6, .long (btf (sz + i))), (5, .int (nI i)), (4, .int w), (3, .int 1), (0, .ref lk), (1, .int (nI a)), (2, .int 2)]) hx hb dX2_digestAt_89 hl (by decide) rfl (fun ls hl => ?_)
            refine lv_iload_n hx hb dX2_digestAt_91 rfl (lv_at hl 4 rfl) ?_
            refine lv_if_eq (tgt := 114) hx hb dX2_digestAt_92 (by decide) (fun c => absurd c (by decide)) (fun c27 => ?_)
            refine lv_aload_n hx hb dX2_digestAt_95 rfl (lv_at hl 5 rfl) ?_
            refine zz_get hC hZ 0 rfl zf_X2_21 rfl dX2_digestAt_96 ?_
            refine zz_get hC hZ 3 rfl zf_X2_59 rfl dX2_digestAt_99 ?_
            refine lv_iload_n hx hb dX2_digestAt_102 rfl (lv_at hl 6 rfl) ?_
            refine zz_ialdn hC hZ 4 rfl bd2 (by decide) dX2_digestAt_103 ?_
            refine lv_lload hx hb dX2_digestAt_104 (lv_at hl 1 rfl) ?_
            refine zz_iS (As := [.int (kdf a), .long (btf (sz + i))]) (wc := []) (wr := [cw_k1 lk st (nI n) l_ag l_dg l_ds, cw_i g l_dg 60 dg1, cw_i g l_ds 60 ds1, cw_k5 st (nI na) (nI nu) kd dp cl sa ln bt pn bf, cw_i g kd 60 kdf, cw_i g dp 60 dpf, cw_i g sa 60 saf, cw_i g ln 60 lnf, cw_l g bt 4000 btf]) (rest := []) hC hZ hs hl zc_X2_66 (co_hashOf g (kdf a) (btf (sz + i))) [] [0, 1, 2, 3, 4, 5, 6, 7, 8] rfl rfl (by decide +kernel) rfl rfl (Nat.le_of_ble_eq_true rfl) ⟨⟨Nat.le_of_ble_eq_true rfl, Nat.le_of_ble_eq_true rfl⟩, Nat.le_of_ble_eq_true rfl, Nat.le_of_ble_eq_true rfl⟩ dX2_digestAt_106 (fun r28 u29 H locs hp hZ => ?_)
            obtain ⟨rfl, rfl⟩ := hp
            have hZ : zz_Z g A s.heap [cw_k1 lk st (nI n) l_ag l_dg l_ds, cw_i g l_dg 60 dg1, cw_i g l_ds 60 ds1, cw_k5 st (nI na) (nI nu) kd dp cl sa ln bt pn bf, cw_i g kd 60 kdf, cw_i g dp 60 dpf, cw_i g sa 60 saf, cw_i g ln 60 lnf, cw_l g bt 4000 btf] H locs := hZ
            refine lv_istore (lv' := [(8, .int (fn_co_hashOf (kdf a) (btf (sz + i)))), (6, .long (btf (sz + i))), (5, .int (nI i)), (4, .int w), (3, .int 1), (0, .ref lk), (1, .int (nI a)), (2, .int 2)]) hx hb dX2_digestAt_109 hl (by decide) rfl (fun ls hl => ?_)
            refine lv_goto (tgt := 139) hx hb dX2_digestAt_111 (by decide) ?_
            refine lv_bipush (v := 31) hx hb dX2_digestAt_139 (by decide) ?_
            refine lv_iload hx hb dX2_digestAt_141 (lv_at hl 3 rfl) ?_
            refine lv_imul hx hb dX2_digestAt_143 ?_
            refine lv_iload hx hb dX2_digestAt_144 (lv_at hl 0 rfl) ?_
            refine lv_iadd hx hb dX2_digestAt_146 ?_
            refine lv_istore (lv' := [(4, .int ((31 * w) + (fn_co_hashOf (kdf a) (btf (sz + i))))), (8, .int (fn_co_hashOf (kdf a) (btf (sz + i)))), (6, .long (btf (sz + i))), (5, .int (nI i)), (3, .int 1), (0, .ref lk), (1, .int (nI a)), (2, .int 2)]) hx hb dX2_digestAt_147 hl (by decide) rfl (fun ls hl => ?_)
            refine lv_iinc (v := nI (i + 1)) (lv' := [(5, .int (nI (i + 1))), (4, .int ((31 * w) + (fn_co_hashOf (kdf a) (btf (sz + i))))), (8, .int (fn_co_hashOf (kdf a) (btf (sz + i)))), (6, .long (btf (sz + i))), (3, .int 1), (0, .ref lk), (1, .int (nI a)), (2, .int 2)]) hx hb dX2_digestAt_149 hl (k := 3) rfl (nI_1 _) (by decide) rfl (fun ls hl => ?_)
            refine lv_goto (tgt := 52) hx hb dX2_digestAt_152 (by decide) ?_
            exact ih (i + 1) ((31 * w) + (fn_co_hashOf (kdf a) (btf (sz + i)))) dg1 ds1 H locs ls (by omega) (hh.trans (zl_hlS (show lz - i = lz - (i + 1) + 1 by omega) (zl_hp1 (zl_d3 ed c4) es (by omega)))) (hm1) (hr1) (by omega) hZ (lv_sub hl [0, 1, 4, 5, 6, 7] rfl)
      exact LP22 _ 0 1 dgf dsf H locs ls (by omega) (hU) (h_m) (h_q) (Nat.lt_succ_self _) hZ (lv_sub hl [0, 1, 2, 3, 4, 5] rfl)
  · refine lv_aload_n hx hb dX2_digestAt_20 rfl (lv_at hl 0 rfl) ?_
    refine zz_get hC hZ 0 rfl zf_X2_18 rfl dX2_digestAt_21 ?_
    refine lv_iload_n hx hb dX2_digestAt_24 rfl (lv_at hl 1 rfl) ?_
    refine zz_ialdn hC hZ 2 rfl bd2 (by decide) dX2_digestAt_25 ?_
    exact zz_iret hC hZ (⟨dgf, dsf, h_m a h_a c3, h_m, h_q, rfl⟩) (Nat.le_of_ble_eq_true rfl) (Nat.le_of_ble_eq_true rfl) dX2_digestAt_26
abbrev rm_co_dig1 : Room := { frames := 4, cells := 0, slots := 0, locals := 112 }
abbrev po_co_dig1 (g : zz_G) (lk : Nat) (l_ag : Nat) (l_dg : Nat) (l_ds : Nat) (st : Nat) (kd : Nat) (dp : Nat) (cl : Nat) (sa : Nat) (ln : Nat) (bt : Nat) (pn : Nat) (bf : Nat) (na : Nat) (nu : Nat) (n : Nat) (kdf : Nat → Int32) (dpf : Nat → Int32) (saf : Nat → Int32) (lnf : Nat → Int32) (btf : Nat → Int64) (dgf : Nat → Int32) (dsf : Nat → Int32) (a : Nat) (h_M : zz_MI na nu dpf saf lnf btf) (h_a : a < na) (h_v : ∀ dr : Nat, dpf a = nI dr → dr ≤ 4 → dr + 1 ≤ 5) (h_m : zz_DM na (sp_hS na kdf dpf saf lnf btf) n dgf dsf) (h_q : zz_RB n dgf) : Int32 → va_W → Prop := fun (r : Int32) (u : va_W) => ∃ (dg2 : Nat → Int32) (ds2 : Nat → Int32), (r = sp_hS na kdf dpf saf lnf btf a) ∧ (zz_DM na (sp_hS na kdf dpf saf lnf btf) n dg2 ds2) ∧ (zz_RB n dg2) ∧ u = [cw_k1 lk st (nI n) l_ag l_dg l_ds, cw_i g l_dg 60 dg2, cw_i g l_ds 60 ds2, cw_k5 st (nI na) (nI nu) kd dp cl sa ln bt pn bf, cw_i g kd 60 kdf, cw_i g dp 60 dpf, cw_i g sa 60 saf, cw_i g ln 60 lnf, cw_l g bt 4000 btf]
set_option maxHeartbeats 4000000 in
set_option maxRecDepth 100000 in
theorem co_dig1 (g : zz_G) (lk : Nat) (l_ag : Nat) (l_dg : Nat) (l_ds : Nat) (st : Nat) (kd : Nat) (dp : Nat) (cl : Nat) (sa : Nat) (ln : Nat) (bt : Nat) (pn : Nat) (bf : Nat) (na : Nat) (nu : Nat) (n : Nat) (kdf : Nat → Int32) (dpf : Nat → Int32) (saf : Nat → Int32) (lnf : Nat → Int32) (btf : Nat → Int64) (dgf : Nat → Int32) (dsf : Nat → Int32) (a : Nat) (h_M : zz_MI na nu dpf saf lnf btf) (h_a : a < na) (h_v : ∀ dr : Nat, dpf a = nI dr → dr ≤ 4 → dr + 1 ≤ 5) (h_m : zz_DM na (sp_hS na kdf dpf saf lnf btf) n dgf dsf) (h_q : zz_RB n dgf) : zz_I g yX2_digestAt (.code yX2_digestAt cX2_digestAt 9 (some .int)) rm_co_dig1 [.ref lk, .int (nI a), .int 1] [cw_k1 lk st (nI n) l_ag l_dg l_ds, cw_i g l_dg 60 dgf, cw_i g l_ds 60 dsf, cw_k5 st (nI na) (nI nu) kd dp cl sa ln bt pn bf, cw_i g kd 60 kdf, cw_i g dp 60 dpf, cw_i g sa 60 saf, cw_i g ln 60 lnf, cw_l g bt 4000 btf] (po_co_dig1 g lk l_ag l_dg l_ds st kd dp cl sa ln bt pn bf na nu n kdf dpf saf lnf btf dgf dsf a h_M h_a h_v h_m h_q) := by
  refine zz_I.intro (own := RX2) (cc := cX2_digestAt) (nL := 9) (by decide) rfl (Nat.le_of_ble_eq_true rfl) ?_
  intro p l e s m args below meth c A H locs ls hC hnm hs hZ hl
  obtain ⟨hx, hb, hml, hown, hts, hr, hlocks, hK⟩ := id hC
  have hl : lv_has ls 9 [(0, .ref lk), (1, .int (nI a)), (2, .int 1)] := hl
  have hZ : zz_Z g A s.heap [cw_k1 lk st (nI n) l_ag l_dg l_ds, cw_i g l_dg 60 dgf, cw_i g l_ds 60 dsf, cw_k5 st (nI na) (nI nu) kd dp cl sa ln bt pn bf, cw_i g kd 60 kdf, cw_i g dp 60 dpf, cw_i g sa 60 saf, cw_i g ln 60 lnf, cw_l g bt 4000 btf] H locs := hZ
  have h_S := h_M.1
  have hna := h_S.1
  have hnu := h_S.2.1
  obtain ⟨sz, lz, dz, es, el, ed, g1, g2, g3, g4⟩ := h_S.2.2 a h_a
  have hv := h_v dz ed (by omega)
  have hU := zl_hsU (kd := kdf) h_M h_a es el ed (by omega) (by omega) (by omega) (by omega)
  refine lv_iload_n hx hb dX2_digestAt_0 rfl (lv_at hl 2 rfl) ?_
  refine lv_iconst (v := 4) hx hb dX2_digestAt_1 (by decide) ?_
  refine lv_icmp_le (tgt := 7) hx hb dX2_digestAt_2 (by decide) (fun c1 => ?_) (fun c => absurd (by decide) c)
  refine lv_aload_n hx hb dX2_digestAt_7 rfl (lv_at hl 0 rfl) ?_
  refine zz_get hC hZ 0 rfl zf_X2_15 rfl dX2_digestAt_8 ?_
  refine lv_iload_n hx hb dX2_digestAt_11 rfl (lv_at hl 1 rfl) ?_
  have bd2 : a < 60 := by omega
  refine zz_ialdn hC hZ 1 rfl bd2 (by decide) dX2_digestAt_12 ?_
  refine lv_aload_n hx hb dX2_digestAt_13 rfl (lv_at hl 0 rfl) ?_
  refine zz_get hC hZ 0 rfl zf_X2_25 rfl dX2_digestAt_14 ?_
  refine lv_icmp_ne (tgt := 27) hx hb dX2_digestAt_17 (by decide) (fun c3 => ?_) (fun c3 => ?_)
  · refine lv_aload_n hx hb dX2_digestAt_27 rfl (lv_at hl 0 rfl) ?_
    refine zz_get hC hZ 0 rfl zf_X2_21 rfl dX2_digestAt_28 ?_
    refine zz_get hC hZ 3 rfl zf_X2_37 rfl dX2_digestAt_31 ?_
    refine lv_iload_n hx hb dX2_digestAt_34 rfl (lv_at hl 1 rfl) ?_
    refine zz_ialdn hC hZ 5 rfl bd2 (by decide) dX2_digestAt_35 ?_
    refine zz_topi (v := nI dz) (ed) ?_
    refine lv_iconst (v := 1) hx hb dX2_digestAt_36 (by decide) ?_
    have bd5 : dz < 2 ^ 31 := by omega
    refine lv_icmp_ne (tgt := 44) hx hb dX2_digestAt_37 (by decide) (fun c4 => ?_) (fun c4 => ?_)
    · have nc4 : ¬ dz = 1 := fun zq => c4 (show nI (dz) = nI (1) from (nI_eq bd5 (by decide)).mpr zq)
      refine lv_iconst (v := 0) hx hb dX2_digestAt_44 (by decide) ?_
      refine lv_istore_n (lv' := [(3, .int 0), (0, .ref lk), (1, .int (nI a)), (2, .int 1)]) hx hb dX2_digestAt_45 rfl hl (by decide) rfl (fun ls hl => ?_)
      refine lv_iconst (v := 1) hx hb dX2_digestAt_46 (by decide) ?_
      refine lv_istore (lv' := [(4, .int 1), (3, .int 0), (0, .ref lk), (1, .int (nI a)), (2, .int 1)]) hx hb dX2_digestAt_47 hl (by decide) rfl (fun ls hl => ?_)
      refine lv_iconst (v := 0) hx hb dX2_digestAt_49 (by decide) ?_
      refine lv_istore (lv' := [(5, .int 0), (4, .int 1), (3, .int 0), (0, .ref lk), (1, .int (nI a)), (2, .int 1)]) hx hb dX2_digestAt_50 hl (by decide) rfl (fun ls hl => ?_)
      have LP6 : ∀ (N : Nat) (i : Nat) (w : Int32) (dg1 : Nat → Int32) (ds1 : Nat → Int32) (H : Heap) (locs : List Loc) (ls : Array Slot), (i ≤ lz) → (sp_hS na kdf dpf saf lnf btf a = sp_hl (sp_hp na kdf dpf saf lnf btf a) (lz - i) i w) → (zz_DM na (sp_hS na kdf dpf saf lnf btf) n dg1 ds1) → (zz_RB n dg1) → (lz - i) < N → zz_Z g A s.heap [cw_k1 lk st (nI n) l_ag l_dg l_ds, cw_i g l_dg 60 dg1, cw_i g l_ds 60 ds1, cw_k5 st (nI na) (nI nu) kd dp cl sa ln bt pn bf, cw_i g kd 60 kdf, cw_i g dp 60 dpf, cw_i g sa 60 saf, cw_i g ln 60 lnf, cw_l g bt 4000 btf] H locs → lv_has ls 9 [(5, .int (nI i)), (4, .int w), (3, .int 0), (0, .ref lk), (1, .int (nI a)), (2, .int 1)] → W p l e rm_co_dig1 s m args below meth c H locs 0 0 (zz_QI below g args s A rm_co_dig1.cells rm_co_dig1.slots (po_co_dig1 g lk l_ag l_dg l_ds st kd dp cl sa ln bt pn bf na nu n kdf dpf saf lnf btf dgf dsf a h_M h_a h_v h_m h_q)) (F0 m 52 ls []) := by
        intro N
        induction N with
        | zero =>
          intro i w dg1 ds1 H locs ls hi hh hm1 hr1 hN
          exact absurd hN (Nat.not_lt_zero _)
        | succ N ih =>
          intro i w dg1 ds1 H locs ls hi hh hm1 hr1 hN hZ hl
          refine lv_iload hx hb dX2_digestAt_52 (lv_at hl 0 rfl) ?_
          refine lv_aload_n hx hb dX2_digestAt_54 rfl (lv_at hl 3 rfl) ?_
          refine zz_get hC hZ 0 rfl zf_X2_21 rfl dX2_digestAt_55 ?_
          refine zz_get hC hZ 3 rfl zf_X2_42 rfl dX2_digestAt_58 ?_
          refine lv_iload_n hx hb dX2_digestAt_61 rfl (lv_at hl 4 rfl) ?_
          refine zz_ialdn hC hZ 7 rfl bd2 (by decide) dX2_digestAt_62 ?_
          refine zz_topi (v := nI lz) (el) ?_
          have bd8 : lz < 2 ^ 31 := by omega
          have bd9 : i < 2 ^ 31 := by omega
          refine lv_icmp_ge (tgt := 155) hx hb dX2_digestAt_63 (by decide) (fun c7 => ?_) (fun c7 => ?_)
          · have nc7 : lz ≤ i := (nI_leI bd8 bd9).mp (show nI (lz) ≤ nI (i) from c7)
            refine lv_aload_n hx hb dX2_digestAt_155 rfl (lv_at hl 3 rfl) ?_
            refine zz_get hC hZ 0 rfl zf_X2_15 rfl dX2_digestAt_156 ?_
            refine lv_iload_n hx hb dX2_digestAt_159 rfl (lv_at hl 4 rfl) ?_
            refine lv_aload_n hx hb dX2_digestAt_160 rfl (lv_at hl 3 rfl) ?_
            refine zz_get hC hZ 0 rfl zf_X2_25 rfl dX2_digestAt_161 ?_
            refine zz_iastn hC hZ 1 rfl bd2 (by decide) dX2_digestAt_164 (fun H locs hZ => ?_)
            have hZ : zz_Z g A s.heap [cw_k1 lk st (nI n) l_ag l_dg l_ds, cw_i g l_dg 60 (upd dg1 a (nI n)), cw_i g l_ds 60 ds1, cw_k5 st (nI na) (nI nu) kd dp cl sa ln bt pn bf, cw_i g kd 60 kdf, cw_i g dp 60 dpf, cw_i g sa 60 saf, cw_i g ln 60 lnf, cw_l g bt 4000 btf] H locs := hZ
            refine lv_aload_n hx hb dX2_digestAt_165 rfl (lv_at hl 3 rfl) ?_
            refine zz_get hC hZ 0 rfl zf_X2_18 rfl dX2_digestAt_166 ?_
            refine lv_iload_n hx hb dX2_digestAt_169 rfl (lv_at hl 4 rfl) ?_
            refine lv_iload hx hb dX2_digestAt_170 (lv_at hl 1 rfl) ?_
            refine zz_iastn hC hZ 2 rfl bd2 (by decide) dX2_digestAt_172 (fun H locs hZ => ?_)
            have hZ : zz_Z g A s.heap [cw_k1 lk st (nI n) l_ag l_dg l_ds, cw_i g l_dg 60 (upd dg1 a (nI n)), cw_i g l_ds 60 (upd ds1 a w), cw_k5 st (nI na) (nI nu) kd dp cl sa ln bt pn bf, cw_i g kd 60 kdf, cw_i g dp 60 dpf, cw_i g sa 60 saf, cw_i g ln 60 lnf, cw_l g bt 4000 btf] H locs := hZ
            refine lv_iload hx hb dX2_digestAt_173 (lv_at hl 1 rfl) ?_
            exact zz_iret hC hZ (⟨(upd dg1 a (nI n)), (upd ds1 a w), (hh.trans (by rw [show lz - i = 0 by omega, sp_hl])).symm, hm1.set ((hh.trans (by rw [show lz - i = 0 by omega, sp_hl])).symm), hr1.set, rfl⟩) (Nat.le_of_ble_eq_true rfl) (Nat.le_of_ble_eq_true rfl) dX2_digestAt_175
          · have nc7 : ¬ lz ≤ i := fun zq => c7 (show nI (lz) ≤ nI (i) from (nI_leI bd8 bd9).mpr zq)
            refine lv_aload_n hx hb dX2_digestAt_66 rfl (lv_at hl 3 rfl) ?_
            refine zz_get hC hZ 0 rfl zf_X2_21 rfl dX2_digestAt_67 ?_
            refine zz_get hC hZ 3 rfl zf_X2_45 rfl dX2_digestAt_70 ?_
            refine lv_aload_n hx hb dX2_digestAt_73 rfl (lv_at hl 3 rfl) ?_
            refine zz_get hC hZ 0 rfl zf_X2_21 rfl dX2_digestAt_74 ?_
            refine zz_get hC hZ 3 rfl zf_X2_49 rfl dX2_digestAt_77 ?_
            refine lv_iload_n hx hb dX2_digestAt_80 rfl (lv_at hl 4 rfl) ?_
            refine zz_ialdn hC hZ 6 rfl bd2 (by decide) dX2_digestAt_81 ?_
            refine zz_topi (v := nI sz) (es) ?_
            refine lv_iload hx hb dX2_digestAt_82 (lv_at hl 0 rfl) ?_
            refine lv_iadd hx hb dX2_digestAt_84 ?_
            refine zz_topi (v := nI (sz + i)) (nI_add _ _) ?_
            have bd10 : (sz + i) < 4000 := by omega
            refine zz_laldn hC hZ 8 rfl bd10 (by decide) dX2_digestAt_85 ?_
            refine lv_lstore (lv' := [(6, .long (btf (sz + i))), (5, .int (nI i)), (4, .int w), (3, .int 0), (0, .ref lk), (1, .int (nI a)), (2, .int 1)]) hx hb dX2_digestAt_86 hl (by decide) rfl (fun ls hl => ?_)
            refine lv_iconst (v := 0) hx hb dX2_digestAt_88 (by decide) ?_
            refine lv_istore (lv' := [(8, .int 0), (6, .long (btf (sz + i))), (5, .int (nI i)), (4, .int w), (3, .int 0), (0, .ref lk), (1, .int (nI a)), (2, .int 1)]) hx hb dX2_digestAt_89 hl (by decide) rfl (fun ls hl => ?_)
            refine lv_iload_n hx hb dX2_digestAt_91 rfl (lv_at hl 4 rfl) ?_
            refine lv_if_eq (tgt := 114) hx hb dX2_digestAt_92 (by decide) (fun c11 => ?_) (fun c => absurd (by decide) c)
            refine lv_aload_n hx hb dX2_digestAt_114 rfl (lv_at hl 5 rfl) ?_
            refine zz_get hC hZ 0 rfl zf_X2_21 rfl dX2_digestAt_115 ?_
            refine lv_lload hx hb dX2_digestAt_118 (lv_at hl 1 rfl) ?_
            refine lv_l2i hx hb dX2_digestAt_120 rfl ?_
            refine zz_iV (As := [.int ((btf (sz + i)).toInt32)]) (wc := [cw_k5 st (nI na) (nI nu) kd dp cl sa ln bt pn bf]) (wr := [cw_k1 lk st (nI n) l_ag l_dg l_ds, cw_i g l_dg 60 dg1, cw_i g l_ds 60 ds1, cw_i g kd 60 kdf, cw_i g dp 60 dpf, cw_i g sa 60 saf, cw_i g ln 60 lnf, cw_l g bt 4000 btf]) (rest := []) hC hZ hs hl zc_X2_55 (co_has g st kd dp cl sa ln bt pn bf (nI na) (nI nu) ((btf (sz + i)).toInt32)) [3] [0, 1, 2, 4, 5, 6, 7, 8] rfl rfl (by decide +kernel) (ci := 5) (q0 := 0) rfl rfl rfl rfl (Nat.le_of_ble_eq_true rfl) ⟨⟨Nat.le_of_ble_eq_true rfl, Nat.le_of_ble_eq_true rfl⟩, Nat.le_of_ble_eq_true rfl, Nat.le_of_ble_eq_true rfl⟩ dX2_digestAt_121 (fun r12 u13 H locs hp hZ => ?_)
            obtain ⟨rfl, rfl⟩ := hp
            have hZ : zz_Z g A s.heap [cw_k1 lk st (nI n) l_ag l_dg l_ds, cw_i g l_dg 60 dg1, cw_i g l_ds 60 ds1, cw_i g kd 60 kdf, cw_i g dp 60 dpf, cw_i g sa 60 saf, cw_i g ln 60 lnf, cw_l g bt 4000 btf, cw_k5 st (nI na) (nI nu) kd dp cl sa ln bt pn bf] H locs := hZ
            refine lv_if_eq (tgt := 139) hx hb dX2_digestAt_124 (by decide) (fun c14 => ?_) (fun c14 => ?_)
            · refine lv_bipush (v := 31) hx hb dX2_digestAt_139 (by decide) ?_
              refine lv_iload hx hb dX2_digestAt_141 (lv_at hl 3 rfl) ?_
              refine lv_imul hx hb dX2_digestAt_143 ?_
              refine lv_iload hx hb dX2_digestAt_144 (lv_at hl 0 rfl) ?_
              refine lv_iadd hx hb dX2_digestAt_146 ?_
              refine lv_istore (lv' := [(4, .int ((31 * w) + 0)), (8, .int 0), (6, .long (btf (sz + i))), (5, .int (nI i)), (3, .int 0), (0, .ref lk), (1, .int (nI a)), (2, .int 1)]) hx hb dX2_digestAt_147 hl (by decide) rfl (fun ls hl => ?_)
              refine lv_iinc (v := nI (i + 1)) (lv' := [(5, .int (nI (i + 1))), (4, .int ((31 * w) + 0)), (8, .int 0), (6, .long (btf (sz + i))), (3, .int 0), (0, .ref lk), (1, .int (nI a)), (2, .int 1)]) hx hb dX2_digestAt_149 hl (k := 3) rfl (nI_1 _) (by decide) rfl (fun ls hl => ?_)
              refine lv_goto (tgt := 52) hx hb dX2_digestAt_152 (by decide) ?_
              exact ih (i + 1) ((31 * w) + 0) dg1 ds1 H locs ls (by omega) (hh.trans (zl_hlS (show lz - i = lz - (i + 1) + 1 by omega) (zl_hp0 (zl_d4 ed c4) es (by omega) c14))) (hm1) (hr1) (by omega) (hZ.sub [0, 1, 2, 8, 3, 4, 5, 6, 7] (by decide +kernel) rfl) (lv_sub hl [0, 1, 4, 5, 6, 7] rfl)
            · obtain ⟨b2, hb2, eb2⟩ := zl_has (by omega) c14
              have hb2v : ∀ dr : Nat, dpf b2 = nI dr → dr ≤ 4 → dr + 2 ≤ 5 := fun dr e1 e2 => by have := zl_row h_M h_a es el ed (by omega) (by omega) (by omega) (zl_gt1 g3 c4) (show i < lz by omega) hb2 eb2 dr e1 e2; omega
              refine lv_aload_n hx hb dX2_digestAt_127 rfl (lv_at hl 5 rfl) ?_
              refine lv_lload hx hb dX2_digestAt_128 (lv_at hl 1 rfl) ?_
              refine lv_l2i hx hb dX2_digestAt_130 rfl ?_
              refine zz_topi (v := nI b2) (eb2) ?_
              refine lv_iload_n hx hb dX2_digestAt_131 rfl (lv_at hl 7 rfl) ?_
              refine lv_iconst (v := 1) hx hb dX2_digestAt_132 (by decide) ?_
              refine lv_iadd hx hb dX2_digestAt_133 ?_
              refine zz_topi (v := 2) (by decide) ?_
              refine zz_iV (As := [.int (nI b2), .int 2]) (wc := [cw_k1 lk st (nI n) l_ag l_dg l_ds, cw_i g l_dg 60 dg1, cw_i g l_ds 60 ds1, cw_k5 st (nI na) (nI nu) kd dp cl sa ln bt pn bf, cw_i g kd 60 kdf, cw_i g dp 60 dpf, cw_i g sa 60 saf, cw_i g ln 60 lnf, cw_l g bt 4000 btf]) (wr := []) (rest := []) hC hZ hs hl zc_X2_62 (co_dig2 g lk l_ag l_dg l_ds st kd dp cl sa ln bt pn bf na nu n kdf dpf saf lnf btf dg1 ds1 b2 (h_M) (by omega) (hb2v) (hm1) (hr1)) [0, 1, 2, 8, 3, 4, 5, 6, 7] [] rfl rfl (by decide +kernel) (ci := 1) (q0 := 0) rfl rfl rfl rfl (Nat.le_of_ble_eq_true rfl) ⟨⟨Nat.le_of_ble_eq_true rfl, Nat.le_of_ble_eq_true rfl⟩, Nat.le_of_ble_eq_true rfl, Nat.le_of_ble_eq_true rfl⟩ dX2_digestAt_134 (fun r15 u16 H locs hp hZ => ?_)
              obtain ⟨dg2_17, ds2_18, f19, f20, f21, rfl⟩ := hp
              have hZ : zz_Z g A s.heap [cw_k1 lk st (nI n) l_ag l_dg l_ds, cw_i g l_dg 60 dg2_17, cw_i g l_ds 60 ds2_18, cw_k5 st (nI na) (nI nu) kd dp cl sa ln bt pn bf, cw_i g kd 60 kdf, cw_i g dp 60 dpf, cw_i g sa 60 saf, cw_i g ln 60 lnf, cw_l g bt 4000 btf] H locs := hZ
              refine lv_istore (lv' := [(8, .int r15), (6, .long (btf (sz + i))), (5, .int (nI i)), (4, .int w), (3, .int 0), (0, .ref lk), (1, .int (nI a)), (2, .int 1)]) hx hb dX2_digestAt_137 hl (by decide) rfl (fun ls hl => ?_)
              refine lv_bipush (v := 31) hx hb dX2_digestAt_139 (by decide) ?_
              refine lv_iload hx hb dX2_digestAt_141 (lv_at hl 3 rfl) ?_
              refine lv_imul hx hb dX2_digestAt_143 ?_
              refine lv_iload hx hb dX2_digestAt_144 (lv_at hl 0 rfl) ?_
              refine lv_iadd hx hb dX2_digestAt_146 ?_
              refine lv_istore (lv' := [(4, .int ((31 * w) + r15)), (8, .int r15), (6, .long (btf (sz + i))), (5, .int (nI i)), (3, .int 0), (0, .ref lk), (1, .int (nI a)), (2, .int 1)]) hx hb dX2_digestAt_147 hl (by decide) rfl (fun ls hl => ?_)
              refine lv_iinc (v := nI (i + 1)) (lv' := [(5, .int (nI (i + 1))), (4, .int ((31 * w) + r15)), (8, .int r15), (6, .long (btf (sz + i))), (3, .int 0), (0, .ref lk), (1, .int (nI a)), (2, .int 1)]) hx hb dX2_digestAt_149 hl (k := 3) rfl (nI_1 _) (by decide) rfl (fun ls hl => ?_)
              refine lv_goto (tgt := 52) hx hb dX2_digestAt_152 (by decide) ?_
              exact ih (i + 1) ((31 * w) + r15) dg2_17 ds2_18 H locs ls (by omega) (hh.trans (zl_hlS (show lz - i = lz - (i + 1) + 1 by omega) (zl_hp2 (zl_d4 ed c4) es (by omega) (by omega) hb2 eb2 f19))) (f20) (f21) (by omega) hZ (lv_sub hl [0, 1, 4, 5, 6, 7] rfl)
      exact LP6 _ 0 1 dgf dsf H locs ls (by omega) (hU) (h_m) (h_q) (Nat.lt_succ_self _) hZ (lv_sub hl [0, 1, 2, 3, 4, 5] rfl)
    · have nc4 : dz = 1 := (nI_eq bd5 (by decide)).mp (show nI (dz) = nI (1) from c4)
      refine lv_iconst (v := 1) hx hb dX2_digestAt_40 (by decide) ?_
      refine lv_goto (tgt := 45) hx hb dX2_digestAt_41 (by decide) ?_
      refine lv_istore_n (lv' := [(3, .int 1), (0, .ref lk), (1, .int (nI a)), (2, .int 1)]) hx hb dX2_digestAt_45 rfl hl (by decide) rfl (fun ls hl => ?_)
      refine lv_iconst (v := 1) hx hb dX2_digestAt_46 (by decide) ?_
      refine lv_istore (lv' := [(4, .int 1), (3, .int 1), (0, .ref lk), (1, .int (nI a)), (2, .int 1)]) hx hb dX2_digestAt_47 hl (by decide) rfl (fun ls hl => ?_)
      refine lv_iconst (v := 0) hx hb dX2_digestAt_49 (by decide) ?_
      refine lv_istore (lv' := [(5, .int 0), (4, .int 1), (3, .int 1), (0, .ref lk), (1, .int (nI a)), (2, .int 1)]) hx hb dX2_digestAt_50 hl (by decide) rfl (fun ls hl => ?_)
      have LP22 : ∀ (N : Nat) (i : Nat) (w : Int32) (dg1 : Nat → Int32) (ds1 : Nat → Int32) (H : Heap) (locs : List Loc) (ls : Array Slot), (i ≤ lz) → (sp_hS na kdf dpf saf lnf btf a = sp_hl (sp_hp na kdf dpf saf lnf btf a) (lz - i) i w) → (zz_DM na (sp_hS na kdf dpf saf lnf btf) n dg1 ds1) → (zz_RB n dg1) → (lz - i) < N → zz_Z g A s.heap [cw_k1 lk st (nI n) l_ag l_dg l_ds, cw_i g l_dg 60 dg1, cw_i g l_ds 60 ds1, cw_k5 st (nI na) (nI nu) kd dp cl sa ln bt pn bf, cw_i g kd 60 kdf, cw_i g dp 60 dpf, cw_i g sa 60 saf, cw_i g ln 60 lnf, cw_l g bt 4000 btf] H locs → lv_has ls 9 [(5, .int (nI i)), (4, .int w), (3, .int 1), (0, .ref lk), (1, .int (nI a)), (2, .int 1)] → W p l e rm_co_dig1 s m args below meth c H locs 0 0 (zz_QI below g args s A rm_co_dig1.cells rm_co_dig1.slots (po_co_dig1 g lk l_ag l_dg l_ds st kd dp cl sa ln bt pn bf na nu n kdf dpf saf lnf btf dgf dsf a h_M h_a h_v h_m h_q)) (F0 m 52 ls []) := by
        intro N
        induction N with
        | zero =>
          intro i w dg1 ds1 H locs ls hi hh hm1 hr1 hN
          exact absurd hN (Nat.not_lt_zero _)
        | succ N ih =>
          intro i w dg1 ds1 H locs ls hi hh hm1 hr1 hN hZ hl
          refine lv_iload hx hb dX2_digestAt_52 (lv_at hl 0 rfl) ?_
          refine lv_aload_n hx hb dX2_digestAt_54 rfl (lv_at hl 3 rfl) ?_
          refine zz_get hC hZ 0 rfl zf_X2_21 rfl dX2_digestAt_55 ?_
          refine zz_get hC hZ 3 rfl zf_X2_42 rfl dX2_digestAt_58 ?_
          refine lv_iload_n hx hb dX2_digestAt_61 rfl (lv_at hl 4 rfl) ?_
          refine zz_ialdn hC hZ 7 rfl bd2 (by decide) dX2_digestAt_62 ?_
          refine zz_topi (v := nI lz) (el) ?_
          have bd24 : lz < 2 ^ 31 := by omega
          have bd25 : i < 2 ^ 31 := by omega
          refine lv_icmp_ge (tgt := 155) hx hb dX2_digestAt_63 (by decide) (fun c23 => ?_) (fun c23 => ?_)
          · have nc23 : lz ≤ i := (nI_leI bd24 bd25).mp (show nI (lz) ≤ nI (i) from c23)
            refine lv_aload_n hx hb dX2_digestAt_155 rfl (lv_at hl 3 rfl) ?_
            refine zz_get hC hZ 0 rfl zf_X2_15 rfl dX2_digestAt_156 ?_
            refine lv_iload_n hx hb dX2_digestAt_159 rfl (lv_at hl 4 rfl) ?_
            refine lv_aload_n hx hb dX2_digestAt_160 rfl (lv_at hl 3 rfl) ?_
            refine zz_get hC hZ 0 rfl zf_X2_25 rfl dX2_digestAt_161 ?_
            refine zz_iastn hC hZ 1 rfl bd2 (by decide) dX2_digestAt_164 (fun H locs hZ => ?_)
            have hZ : zz_Z g A s.heap [cw_k1 lk st (nI n) l_ag l_dg l_ds, cw_i g l_dg 60 (upd dg1 a (nI n)), cw_i g l_ds 60 ds1, cw_k5 st (nI na) (nI nu) kd dp cl sa ln bt pn bf, cw_i g kd 60 kdf, cw_i g dp 60 dpf, cw_i g sa 60 saf, cw_i g ln 60 lnf, cw_l g bt 4000 btf] H locs := hZ
            refine lv_aload_n hx hb dX2_digestAt_165 rfl (lv_at hl 3 rfl) ?_
            refine zz_get hC hZ 0 rfl zf_X2_18 rfl dX2_digestAt_166 ?_
            refine lv_iload_n hx hb dX2_digestAt_169 rfl (lv_at hl 4 rfl) ?_
            refine lv_iload hx hb dX2_digestAt_170 (lv_at hl 1 rfl) ?_
            refine zz_iastn hC hZ 2 rfl bd2 (by decide) dX2_digestAt_172 (fun H locs hZ => ?_)
            have hZ : zz_Z g A s.heap [cw_k1 lk st (nI n) l_ag l_dg l_ds, cw_i g l_dg 60 (upd dg1 a (nI n)), cw_i g l_ds 60 (upd ds1 a w), cw_k5 st (nI na) (nI nu) kd dp cl sa ln bt pn bf, cw_i g kd 60 kdf, cw_i g dp 60 dpf, cw_i g sa 60 saf, cw_i g ln 60 lnf, cw_l g bt 4000 btf] H locs := hZ
            refine lv_iload hx hb dX2_digestAt_173 (lv_at hl 1 rfl) ?_
            exact zz_iret hC hZ (⟨(upd dg1 a (nI n)), (upd ds1 a w), (hh.trans (by rw [show lz - i = 0 by omega, sp_hl])).symm, hm1.set ((hh.trans (by rw [show lz - i = 0 by omega, sp_hl])).symm), hr1.set, rfl⟩) (Nat.le_of_ble_eq_true rfl) (Nat.le_of_ble_eq_true rfl) dX2_digestAt_175
          · have nc23 : ¬ lz ≤ i := fun zq => c23 (show nI (lz) ≤ nI (i) from (nI_leI bd24 bd25).mpr zq)
            refine lv_aload_n hx hb dX2_digestAt_66 rfl (lv_at hl 3 rfl) ?_
            refine zz_get hC hZ 0 rfl zf_X2_21 rfl dX2_digestAt_67 ?_
            refine zz_get hC hZ 3 rfl zf_X2_45 rfl dX2_digestAt_70 ?_
            refine lv_aload_n hx hb dX2_digestAt_73 rfl (lv_at hl 3 rfl) ?_
            refine zz_get hC hZ 0 rfl zf_X2_21 rfl dX2_digestAt_74 ?_
            refine zz_get hC hZ 3 rfl zf_X2_49 rfl dX2_digestAt_77 ?_
            refine lv_iload_n hx hb dX2_digestAt_80 rfl (lv_at hl 4 rfl) ?_
            refine zz_ialdn hC hZ 6 rfl bd2 (by decide) dX2_digestAt_81 ?_
            refine zz_topi (v := nI sz) (es) ?_
            refine lv_iload hx hb dX2_digestAt_82 (lv_at hl 0 rfl) ?_
            refine lv_iadd hx hb dX2_digestAt_84 ?_
            refine zz_topi (v := nI (sz + i)) (nI_add _ _) ?_
            have bd26 : (sz + i) < 4000 := by omega
            refine zz_laldn hC hZ 8 rfl bd26 (by decide) dX2_digestAt_85 ?_
            refine lv_lstore (lv' := [(6, .long (btf (sz + i))), (5, .int (nI i)), (4, .int w), (3, .int 1), (0, .ref lk), (1, .int (nI a)), (2, .int 1)]) hx hb dX2_digestAt_86 hl (by decide) rfl (fun ls hl => ?_)
            refine lv_iconst (v := 0) hx hb dX2_digestAt_88 (by decide) ?_
            refine lv_istore (lv' := [(8, .int 0), (6, .long (btf (sz + i))), (5, .int (nI i)), (4, .int w), (3, .int 1), (0, .ref lk), (1, .int (nI a)), (2, .int 1)]) hx hb dX2_digestAt_89 hl (by decide) rfl (fun ls hl => ?_)
            refine lv_iload_n hx hb dX2_digestAt_91 rfl (lv_at hl 4 rfl) ?_
            refine lv_if_eq (tgt := 114) hx hb dX2_digestAt_92 (by decide) (fun c => absurd c (by decide)) (fun c27 => ?_)
            refine lv_aload_n hx hb dX2_digestAt_95 rfl (lv_at hl 5 rfl) ?_
            refine zz_get hC hZ 0 rfl zf_X2_21 rfl dX2_digestAt_96 ?_
            refine zz_get hC hZ 3 rfl zf_X2_59 rfl dX2_digestAt_99 ?_
            refine lv_iload_n hx hb dX2_digestAt_102 rfl (lv_at hl 6 rfl) ?_
            refine zz_ialdn hC hZ 4 rfl bd2 (by decide) dX2_digestAt_103 ?_
            refine lv_lload hx hb dX2_digestAt_104 (lv_at hl 1 rfl) ?_
            refine zz_iS (As := [.int (kdf a), .long (btf (sz + i))]) (wc := []) (wr := [cw_k1 lk st (nI n) l_ag l_dg l_ds, cw_i g l_dg 60 dg1, cw_i g l_ds 60 ds1, cw_k5 st (nI na) (nI nu) kd dp cl sa ln bt pn bf, cw_i g kd 60 kdf, cw_i g dp 60 dpf, cw_i g sa 60 saf, cw_i g ln 60 lnf, cw_l g bt 4000 btf]) (rest := []) hC hZ hs hl zc_X2_66 (co_hashOf g (kdf a) (btf (sz + i))) [] [0, 1, 2, 3, 4, 5, 6, 7, 8] rfl rfl (by decide +kernel) rfl rfl (Nat.le_of_ble_eq_true rfl) ⟨⟨Nat.le_of_ble_eq_true rfl, Nat.le_of_ble_eq_true rfl⟩, Nat.le_of_ble_eq_true rfl, Nat.le_of_ble_eq_true rfl⟩ dX2_digestAt_106 (fun r28 u29 H locs hp hZ => ?_)
            obtain ⟨rfl, rfl⟩ := hp
            have hZ : zz_Z g A s.heap [cw_k1 lk st (nI n) l_ag l_dg l_ds, cw_i g l_dg 60 dg1, cw_i g l_ds 60 ds1, cw_k5 st (nI na) (nI nu) kd dp cl sa ln bt pn bf, cw_i g kd 60 kdf, cw_i g dp 60 dpf, cw_i g sa 60 saf, cw_i g ln 60 lnf, cw_l g bt 4000 btf] H locs := hZ
            refine lv_istore (lv' := [(8, .int (fn_co_hashOf (kdf a) (btf (sz + i)))), (6, .long (btf (sz + i))), (5, .int (nI i)), (4, .int w), (3, .int 1), (0, .ref lk), (1, .int (nI a)), (2, .int 1)]) hx hb dX2_digestAt_109 hl (by decide) rfl (fun ls hl => ?_)
            refine lv_goto (tgt := 139) hx hb dX2_digestAt_111 (by decide) ?_
            refine lv_bipush (v := 31) hx hb dX2_digestAt_139 (by decide) ?_
            refine lv_iload hx hb dX2_digestAt_141 (lv_at hl 3 rfl) ?_
            refine lv_imul hx hb dX2_digestAt_143 ?_
            refine lv_iload hx hb dX2_digestAt_144 (lv_at hl 0 rfl) ?_
            refine lv_iadd hx hb dX2_digestAt_146 ?_
            refine lv_istore (lv' := [(4, .int ((31 * w) + (fn_co_hashOf (kdf a) (btf (sz + i))))), (8, .int (fn_co_hashOf (kdf a) (btf (sz + i)))), (6, .long (btf (sz + i))), (5, .int (nI i)), (3, .int 1), (0, .ref lk), (1, .int (nI a)), (2, .int 1)]) hx hb dX2_digestAt_147 hl (by decide) rfl (fun ls hl => ?_)
            refine lv_iinc (v := nI (i + 1)) (lv' := [(5, .int (nI (i + 1))), (4, .int ((31 * w) + (fn_co_hashOf (kdf a) (btf (sz + i))))), (8, .int (fn_co_hashOf (kdf a) (btf (sz + i)))), (6, .long (btf (sz + i))), (3, .int 1), (0, .ref lk), (1, .int (nI a)), (2, .int 1)]) hx hb dX2_digestAt_149 hl (k := 3) rfl (nI_1 _) (by decide) rfl (fun ls hl => ?_)
            refine lv_goto (tgt := 52) hx hb dX2_digestAt_152 (by decide) ?_
            exact ih (i + 1) ((31 * w) + (fn_co_hashOf (kdf a) (btf (sz + i)))) dg1 ds1 H locs ls (by omega) (hh.trans (zl_hlS (show lz - i = lz - (i + 1) + 1 by omega) (zl_hp1 (zl_d3 ed c4) es (by omega)))) (hm1) (hr1) (by omega) hZ (lv_sub hl [0, 1, 4, 5, 6, 7] rfl)
      exact LP22 _ 0 1 dgf dsf H locs ls (by omega) (hU) (h_m) (h_q) (Nat.lt_succ_self _) hZ (lv_sub hl [0, 1, 2, 3, 4, 5] rfl)
  · refine lv_aload_n hx hb dX2_digestAt_20 rfl (lv_at hl 0 rfl) ?_
    refine zz_get hC hZ 0 rfl zf_X2_18 rfl dX2_digestAt_21 ?_
    refine lv_iload_n hx hb dX2_digestAt_24 rfl (lv_at hl 1 rfl) ?_
    refine zz_ialdn hC hZ 2 rfl bd2 (by decide) dX2_digestAt_25 ?_
    exact zz_iret hC hZ (⟨dgf, dsf, h_m a h_a c3, h_m, h_q, rfl⟩) (Nat.le_of_ble_eq_true rfl) (Nat.le_of_ble_eq_true rfl) dX2_digestAt_26
theorem dg_X2_digest_0 : (decode cX2_digest 0 = .ok (.aload_n 0, 1)) ∧ (decode cX2_digest 1 = .ok (.dup, 1)) ∧ (decode cX2_digest 2 = .ok (.getfield 25, 3)) ∧ (decode cX2_digest 5 = .ok (.iconst 1, 1)) ∧ (decode cX2_digest 6 = .ok (.iadd, 1)) ∧ (decode cX2_digest 7 = .ok (.putfield 25, 3)) ∧ (decode cX2_digest 10 = .ok (.aload_n 0, 1)) ∧ (decode cX2_digest 11 = .ok (.iload_n 1, 1)) ∧ (decode cX2_digest 12 = .ok (.iconst 1, 1)) ∧ (decode cX2_digest 13 = .ok (.invokevirtual 62, 3)) ∧ (decode cX2_digest 16 = .ok (.ireturn, 1)) := by decide +kernel
theorem dX2_digest_0 : decode cX2_digest 0 = .ok (.aload_n 0, 1) := dg_X2_digest_0.1
theorem dX2_digest_1 : decode cX2_digest 1 = .ok (.dup, 1) := dg_X2_digest_0.2.1
theorem dX2_digest_2 : decode cX2_digest 2 = .ok (.getfield 25, 3) := dg_X2_digest_0.2.2.1
theorem dX2_digest_5 : decode cX2_digest 5 = .ok (.iconst 1, 1) := dg_X2_digest_0.2.2.2.1
theorem dX2_digest_6 : decode cX2_digest 6 = .ok (.iadd, 1) := dg_X2_digest_0.2.2.2.2.1
theorem dX2_digest_7 : decode cX2_digest 7 = .ok (.putfield 25, 3) := dg_X2_digest_0.2.2.2.2.2.1
theorem dX2_digest_10 : decode cX2_digest 10 = .ok (.aload_n 0, 1) := dg_X2_digest_0.2.2.2.2.2.2.1
theorem dX2_digest_11 : decode cX2_digest 11 = .ok (.iload_n 1, 1) := dg_X2_digest_0.2.2.2.2.2.2.2.1
theorem dX2_digest_12 : decode cX2_digest 12 = .ok (.iconst 1, 1) := dg_X2_digest_0.2.2.2.2.2.2.2.2.1
theorem dX2_digest_13 : decode cX2_digest 13 = .ok (.invokevirtual 62, 3) := dg_X2_digest_0.2.2.2.2.2.2.2.2.2.1
theorem dX2_digest_16 : decode cX2_digest 16 = .ok (.ireturn, 1) := dg_X2_digest_0.2.2.2.2.2.2.2.2.2.2
theorem zu_X2_25 : zz_fw RX2 25 1 1 false .int := ⟨RX2, TX2, 5, tyX2, rfl, zi_X2, by decide, zk_116, tyX2_ok, nmX2, rfl, by decide +kernel, fun h => by cases h⟩
abbrev rm_co_dig : Room := { frames := 5, cells := 0, slots := 0, locals := 140 }
abbrev po_co_dig (g : zz_G) (lk : Nat) (l_ag : Nat) (l_dg : Nat) (l_ds : Nat) (st : Nat) (kd : Nat) (dp : Nat) (cl : Nat) (sa : Nat) (ln : Nat) (bt : Nat) (pn : Nat) (bf : Nat) (na : Nat) (nu : Nat) (n : Nat) (kdf : Nat → Int32) (dpf : Nat → Int32) (saf : Nat → Int32) (lnf : Nat → Int32) (btf : Nat → Int64) (dgf : Nat → Int32) (dsf : Nat → Int32) (a : Nat) (h_M : zz_MI na nu dpf saf lnf btf) (h_a : a < na) (h_n : n ≤ 600) (h_q : zz_RB n dgf) : Int32 → va_W → Prop := fun (r : Int32) (u : va_W) => ∃ (dg2 : Nat → Int32) (ds2 : Nat → Int32), (r = sp_hS na kdf dpf saf lnf btf a) ∧ (zz_RB (n + 1) dg2) ∧ u = [cw_k1 lk st (nI (n + 1)) l_ag l_dg l_ds, cw_i g l_dg 60 dg2, cw_i g l_ds 60 ds2, cw_k5 st (nI na) (nI nu) kd dp cl sa ln bt pn bf, cw_i g kd 60 kdf, cw_i g dp 60 dpf, cw_i g sa 60 saf, cw_i g ln 60 lnf, cw_l g bt 4000 btf]
set_option maxHeartbeats 4000000 in
set_option maxRecDepth 100000 in
theorem co_dig (g : zz_G) (lk : Nat) (l_ag : Nat) (l_dg : Nat) (l_ds : Nat) (st : Nat) (kd : Nat) (dp : Nat) (cl : Nat) (sa : Nat) (ln : Nat) (bt : Nat) (pn : Nat) (bf : Nat) (na : Nat) (nu : Nat) (n : Nat) (kdf : Nat → Int32) (dpf : Nat → Int32) (saf : Nat → Int32) (lnf : Nat → Int32) (btf : Nat → Int64) (dgf : Nat → Int32) (dsf : Nat → Int32) (a : Nat) (h_M : zz_MI na nu dpf saf lnf btf) (h_a : a < na) (h_n : n ≤ 600) (h_q : zz_RB n dgf) : zz_I g yX2_digest (.code yX2_digest cX2_digest 2 (some .int)) rm_co_dig [.ref lk, .int (nI a)] [cw_k1 lk st (nI n) l_ag l_dg l_ds, cw_i g l_dg 60 dgf, cw_i g l_ds 60 dsf, cw_k5 st (nI na) (nI nu) kd dp cl sa ln bt pn bf, cw_i g kd 60 kdf, cw_i g dp 60 dpf, cw_i g sa 60 saf, cw_i g ln 60 lnf, cw_l g bt 4000 btf] (po_co_dig g lk l_ag l_dg l_ds st kd dp cl sa ln bt pn bf na nu n kdf dpf saf lnf btf dgf dsf a h_M h_a h_n h_q) := by
  refine zz_I.intro (own := RX2) (cc := cX2_digest) (nL := 2) (by decide) rfl (Nat.le_of_ble_eq_true rfl) ?_
  intro p l e s m args below meth c A H locs ls hC hnm hs hZ hl
  obtain ⟨hx, hb, hml, hown, hts, hr, hlocks, hK⟩ := id hC
  have hl : lv_has ls 2 [(0, .ref lk), (1, .int (nI a))] := hl
  have hZ : zz_Z g A s.heap [cw_k1 lk st (nI n) l_ag l_dg l_ds, cw_i g l_dg 60 dgf, cw_i g l_ds 60 dsf, cw_k5 st (nI na) (nI nu) kd dp cl sa ln bt pn bf, cw_i g kd 60 kdf, cw_i g dp 60 dpf, cw_i g sa 60 saf, cw_i g ln 60 lnf, cw_l g bt 4000 btf] H locs := hZ
  refine lv_aload_n hx hb dX2_digest_0 rfl (lv_at hl 0 rfl) ?_
  refine lv_dup hx hb dX2_digest_1 rfl ?_
  refine zz_get hC hZ 0 rfl zf_X2_25 rfl dX2_digest_2 ?_
  refine lv_iconst (v := 1) hx hb dX2_digest_5 (by decide) ?_
  refine lv_iadd hx hb dX2_digest_6 ?_
  refine zz_topi (v := nI (n + 1)) (nI_1 _) ?_
  refine zz_put hC hZ 0 rfl zu_X2_25 (Nat.le_of_ble_eq_true rfl) dX2_digest_7 (fun H locs hZ => ?_)
  have hZ : zz_Z g A s.heap [cw_k1 lk st (nI (n + 1)) l_ag l_dg l_ds, cw_i g l_dg 60 dgf, cw_i g l_ds 60 dsf, cw_k5 st (nI na) (nI nu) kd dp cl sa ln bt pn bf, cw_i g kd 60 kdf, cw_i g dp 60 dpf, cw_i g sa 60 saf, cw_i g ln 60 lnf, cw_l g bt 4000 btf] H locs := hZ
  refine lv_aload_n hx hb dX2_digest_10 rfl (lv_at hl 0 rfl) ?_
  refine lv_iload_n hx hb dX2_digest_11 rfl (lv_at hl 1 rfl) ?_
  refine lv_iconst (v := 1) hx hb dX2_digest_12 (by decide) ?_
  refine zz_iV (As := [.int (nI a), .int 1]) (wc := [cw_k1 lk st (nI (n + 1)) l_ag l_dg l_ds, cw_i g l_dg 60 dgf, cw_i g l_ds 60 dsf, cw_k5 st (nI na) (nI nu) kd dp cl sa ln bt pn bf, cw_i g kd 60 kdf, cw_i g dp 60 dpf, cw_i g sa 60 saf, cw_i g ln 60 lnf, cw_l g bt 4000 btf]) (wr := []) (rest := []) hC hZ hs hl zc_X2_62 (co_dig1 g lk l_ag l_dg l_ds st kd dp cl sa ln bt pn bf na nu (n + 1) kdf dpf saf lnf btf dgf dsf a (h_M) (by omega) (fun dr _ h => by omega) (zz_DM.new h_q h_n) (h_q.mono (Nat.le_succ _))) [0, 1, 2, 3, 4, 5, 6, 7, 8] [] rfl rfl (by decide +kernel) (ci := 1) (q0 := 0) rfl rfl rfl rfl (Nat.le_of_ble_eq_true rfl) ⟨⟨Nat.le_of_ble_eq_true rfl, Nat.le_of_ble_eq_true rfl⟩, Nat.le_of_ble_eq_true rfl, Nat.le_of_ble_eq_true rfl⟩ dX2_digest_13 (fun r1 u2 H locs hp hZ => ?_)
  obtain ⟨dg2_3, ds2_4, f5, f6, f7, rfl⟩ := hp
  have hZ : zz_Z g A s.heap [cw_k1 lk st (nI (n + 1)) l_ag l_dg l_ds, cw_i g l_dg 60 dg2_3, cw_i g l_ds 60 ds2_4, cw_k5 st (nI na) (nI nu) kd dp cl sa ln bt pn bf, cw_i g kd 60 kdf, cw_i g dp 60 dpf, cw_i g sa 60 saf, cw_i g ln 60 lnf, cw_l g bt 4000 btf] H locs := hZ
  exact zz_iret hC hZ (⟨dg2_3, ds2_4, f5, f7, rfl⟩) (Nat.le_of_ble_eq_true rfl) (Nat.le_of_ble_eq_true rfl) dX2_digest_16
theorem dg_X7_hash_0 : (decode cX7_hash 0 = .ok (.aload_n 0, 1)) ∧ (decode cX7_hash 1 = .ok (.getfield 10, 3)) ∧ (decode cX7_hash 4 = .ok (.iload_n 1, 1)) ∧ (decode cX7_hash 5 = .ok (.invokevirtual 73, 3)) ∧ (decode cX7_hash 8 = .ok (.ifCond .ne 10, 3)) ∧ (decode cX7_hash 11 = .ok (.aload_n 0, 1)) ∧ (decode cX7_hash 12 = .ok (.iconst 5, 1)) ∧ (decode cX7_hash 13 = .ok (.putfield 56, 3)) ∧ (decode cX7_hash 16 = .ok (.iconst 0, 1)) ∧ (decode cX7_hash 17 = .ok (.ireturn, 1)) ∧ (decode cX7_hash 18 = .ok (.aload_n 0, 1)) ∧ (decode cX7_hash 19 = .ok (.iconst 0, 1)) ∧ (decode cX7_hash 20 = .ok (.putfield 56, 3)) ∧ (decode cX7_hash 23 = .ok (.aload_n 0, 1)) ∧ (decode cX7_hash 24 = .ok (.getfield 28, 3)) ∧ (decode cX7_hash 27 = .ok (.iload_n 1, 1)) := by decide +kernel
theorem dX7_hash_0 : decode cX7_hash 0 = .ok (.aload_n 0, 1) := dg_X7_hash_0.1
theorem dX7_hash_1 : decode cX7_hash 1 = .ok (.getfield 10, 3) := dg_X7_hash_0.2.1
theorem dX7_hash_4 : decode cX7_hash 4 = .ok (.iload_n 1, 1) := dg_X7_hash_0.2.2.1
theorem dX7_hash_5 : decode cX7_hash 5 = .ok (.invokevirtual 73, 3) := dg_X7_hash_0.2.2.2.1
theorem dX7_hash_8 : decode cX7_hash 8 = .ok (.ifCond .ne 10, 3) := dg_X7_hash_0.2.2.2.2.1
theorem dX7_hash_11 : decode cX7_hash 11 = .ok (.aload_n 0, 1) := dg_X7_hash_0.2.2.2.2.2.1
theorem dX7_hash_12 : decode cX7_hash 12 = .ok (.iconst 5, 1) := dg_X7_hash_0.2.2.2.2.2.2.1
theorem dX7_hash_13 : decode cX7_hash 13 = .ok (.putfield 56, 3) := dg_X7_hash_0.2.2.2.2.2.2.2.1
theorem dX7_hash_16 : decode cX7_hash 16 = .ok (.iconst 0, 1) := dg_X7_hash_0.2.2.2.2.2.2.2.2.1
theorem dX7_hash_17 : decode cX7_hash 17 = .ok (.ireturn, 1) := dg_X7_hash_0.2.2.2.2.2.2.2.2.2.1
theorem dX7_hash_18 : decode cX7_hash 18 = .ok (.aload_n 0, 1) := dg_X7_hash_0.2.2.2.2.2.2.2.2.2.2.1
theorem dX7_hash_19 : decode cX7_hash 19 = .ok (.iconst 0, 1) := dg_X7_hash_0.2.2.2.2.2.2.2.2.2.2.2.1
theorem dX7_hash_20 : decode cX7_hash 20 = .ok (.putfield 56, 3) := dg_X7_hash_0.2.2.2.2.2.2.2.2.2.2.2.2.1
theorem dX7_hash_23 : decode cX7_hash 23 = .ok (.aload_n 0, 1) := dg_X7_hash_0.2.2.2.2.2.2.2.2.2.2.2.2.2.1
theorem dX7_hash_24 : decode cX7_hash 24 = .ok (.getfield 28, 3) := dg_X7_hash_0.2.2.2.2.2.2.2.2.2.2.2.2.2.2.1
theorem dX7_hash_27 : decode cX7_hash 27 = .ok (.iload_n 1, 1) := dg_X7_hash_0.2.2.2.2.2.2.2.2.2.2.2.2.2.2.2
theorem dg_X7_hash_28 : (decode cX7_hash 28 = .ok (.invokevirtual 206, 3)) ∧ (decode cX7_hash 31 = .ok (.ireturn, 1)) := by decide +kernel
theorem dX7_hash_28 : decode cX7_hash 28 = .ok (.invokevirtual 206, 3) := dg_X7_hash_28.1
theorem dX7_hash_31 : decode cX7_hash 31 = .ok (.ireturn, 1) := dg_X7_hash_28.2
theorem zf_X7_28 : zz_f RX7 28 6 2 := ⟨RX7, TX7, 8, rfl, zi_X7, by decide, zk_202⟩
theorem zk_518 : Cond.methodLink RX7 206 yX2_digest ∈ zz_w := zz_in (List.mem_append_right _ (List.mem_append_right _ (List.mem_append_right _ (List.mem_append_left _ (List.mem_of_getElem? (i := 38) (by decide +kernel)))))) rfl
set_option maxRecDepth 20000 in
theorem zk_521 : Cond.code yX2_digest cX2_digest 2 (some .int) ∈ zz_w := zz_in (List.mem_append_right _ (List.mem_append_right _ (List.mem_append_right _ (List.mem_append_left _ (List.mem_of_getElem? (i := 41) (rfl)))))) rfl
theorem zk_519 : Cond.instanceMethod yX2_digest ∈ zz_w := zz_in (List.mem_append_right _ (List.mem_append_right _ (List.mem_append_right _ (List.mem_append_left _ (List.mem_of_getElem? (i := 39) (by decide +kernel)))))) rfl
theorem zk_520 : Cond.selects RX2 yX2_digest yX2_digest ∈ zz_w := zz_in (List.mem_append_right _ (List.mem_append_right _ (List.mem_append_right _ (List.mem_append_left _ (List.mem_of_getElem? (i := 40) (by decide +kernel)))))) rfl
theorem zc_X7_206 : zz_cV RX7 206 yX2_digest cX2_digest 2 (some .int) 1 := ⟨⟨zk_518, zk_521, zk_4, by decide, by decide, by decide +kernel⟩, zk_519, zk_520⟩
def fn_cx_hash2 (na : Nat) (nu : Nat) (kdf : Nat → Int32) (dpf : Nat → Int32) (saf : Nat → Int32) (lnf : Nat → Int32) (btf : Nat → Int64) (x1 : Int32) : Int32 := (if (fn_co_has (nI na) x1) = 0 then 0 else (sp_hS na kdf dpf saf lnf btf x1.toNatClampNeg))
abbrev rm_cx_hash2 : Room := { frames := 6, cells := 0, slots := 0, locals := 161 }
abbrev po_cx_hash2 (g : zz_G) (h0 : Nat) (st : Nat) (mk : Nat) (lk : Nat) (ch : Nat) (ru : Nat) (mr : Nat) (kd : Nat) (dp : Nat) (cl : Nat) (sa : Nat) (ln : Nat) (bt : Nat) (pn : Nat) (bf : Nat) (l_ag : Nat) (l_dg : Nat) (l_ds : Nat) (md : Int32) (la : Int32) (na : Nat) (nu : Nat) (n : Nat) (kdf : Nat → Int32) (dpf : Nat → Int32) (saf : Nat → Int32) (lnf : Nat → Int32) (btf : Nat → Int64) (dgf : Nat → Int32) (dsf : Nat → Int32) (x1 : Int32) (h_M : zz_MI na nu dpf saf lnf btf) (h_n : n ≤ 600) (h_qd : zz_RB n dgf) : Int32 → va_W → Prop := fun (r : Int32) (u : va_W) => ∃ (la2 : Int32) (n2 : Nat) (dg2 : Nat → Int32) (ds2 : Nat → Int32), r = fn_cx_hash2 na nu kdf dpf saf lnf btf x1 ∧ (n ≤ n2 ∧ n2 ≤ n + 1) ∧ (zz_RB n2 dg2) ∧ u = [cw_k6 h0 st mk lk ch ru mr md la2, cw_k5 st (nI na) (nI nu) kd dp cl sa ln bt pn bf, cw_k1 lk st (nI n2) l_ag l_dg l_ds, cw_i g kd 60 kdf, cw_i g dp 60 dpf, cw_i g sa 60 saf, cw_i g ln 60 lnf, cw_l g bt 4000 btf, cw_i g l_dg 60 dg2, cw_i g l_ds 60 ds2]
set_option maxHeartbeats 4000000 in
set_option maxRecDepth 100000 in
theorem cx_hash2 (g : zz_G) (h0 : Nat) (st : Nat) (mk : Nat) (lk : Nat) (ch : Nat) (ru : Nat) (mr : Nat) (kd : Nat) (dp : Nat) (cl : Nat) (sa : Nat) (ln : Nat) (bt : Nat) (pn : Nat) (bf : Nat) (l_ag : Nat) (l_dg : Nat) (l_ds : Nat) (md : Int32) (la : Int32) (na : Nat) (nu : Nat) (n : Nat) (kdf : Nat → Int32) (dpf : Nat → Int32) (saf : Nat → Int32) (lnf : Nat → Int32) (btf : Nat → Int64) (dgf : Nat → Int32) (dsf : Nat → Int32) (x1 : Int32) (h_M : zz_MI na nu dpf saf lnf btf) (h_n : n ≤ 600) (h_qd : zz_RB n dgf) : zz_I g yX7_hash (.code yX7_hash cX7_hash 2 (some .int)) rm_cx_hash2 [.ref h0, .int x1] [cw_k6 h0 st mk lk ch ru mr md la, cw_k5 st (nI na) (nI nu) kd dp cl sa ln bt pn bf, cw_k1 lk st (nI n) l_ag l_dg l_ds, cw_i g kd 60 kdf, cw_i g dp 60 dpf, cw_i g sa 60 saf, cw_i g ln 60 lnf, cw_l g bt 4000 btf, cw_i g l_dg 60 dgf, cw_i g l_ds 60 dsf] (po_cx_hash2 g h0 st mk lk ch ru mr kd dp cl sa ln bt pn bf l_ag l_dg l_ds md la na nu n kdf dpf saf lnf btf dgf dsf x1 h_M h_n h_qd) := by
  refine zz_I.intro (own := RX7) (cc := cX7_hash) (nL := 2) (by decide) rfl (Nat.le_of_ble_eq_true rfl) ?_
  intro p l e s m args below meth c A H locs ls hC hnm hs hZ hl
  obtain ⟨hx, hb, hml, hown, hts, hr, hlocks, hK⟩ := id hC
  have hl : lv_has ls 2 [(0, .ref h0), (1, .int x1)] := hl
  have hZ : zz_Z g A s.heap [cw_k6 h0 st mk lk ch ru mr md la, cw_k5 st (nI na) (nI nu) kd dp cl sa ln bt pn bf, cw_k1 lk st (nI n) l_ag l_dg l_ds, cw_i g kd 60 kdf, cw_i g dp 60 dpf, cw_i g sa 60 saf, cw_i g ln 60 lnf, cw_l g bt 4000 btf, cw_i g l_dg 60 dgf, cw_i g l_ds 60 dsf] H locs := hZ
  have h_S := h_M.1
  have hna := h_S.1
  have hnu := h_S.2.1
  refine lv_aload_n hx hb dX7_hash_0 rfl (lv_at hl 0 rfl) ?_
  refine zz_get hC hZ 0 rfl zf_X7_10 rfl dX7_hash_1 ?_
  refine lv_iload_n hx hb dX7_hash_4 rfl (lv_at hl 1 rfl) ?_
  refine zz_iV (As := [.int x1]) (wc := [cw_k5 st (nI na) (nI nu) kd dp cl sa ln bt pn bf]) (wr := [cw_k6 h0 st mk lk ch ru mr md la, cw_k1 lk st (nI n) l_ag l_dg l_ds, cw_i g kd 60 kdf, cw_i g dp 60 dpf, cw_i g sa 60 saf, cw_i g ln 60 lnf, cw_l g bt 4000 btf, cw_i g l_dg 60 dgf, cw_i g l_ds 60 dsf]) (rest := []) hC hZ hs hl zc_X7_73 (co_has g st kd dp cl sa ln bt pn bf (nI na) (nI nu) x1) [1] [0, 2, 3, 4, 5, 6, 7, 8, 9] rfl rfl (by decide +kernel) (ci := 5) (q0 := 0) rfl rfl rfl rfl (Nat.le_of_ble_eq_true rfl) ⟨⟨Nat.le_of_ble_eq_true rfl, Nat.le_of_ble_eq_true rfl⟩, Nat.le_of_ble_eq_true rfl, Nat.le_of_ble_eq_true rfl⟩ dX7_hash_5 (fun r1 u2 H locs hp hZ => ?_)
  obtain ⟨rfl, rfl⟩ := hp
  have hZ : zz_Z g A s.heap [cw_k6 h0 st mk lk ch ru mr md la, cw_k1 lk st (nI n) l_ag l_dg l_ds, cw_i g kd 60 kdf, cw_i g dp 60 dpf, cw_i g sa 60 saf, cw_i g ln 60 lnf, cw_l g bt 4000 btf, cw_i g l_dg 60 dgf, cw_i g l_ds 60 dsf, cw_k5 st (nI na) (nI nu) kd dp cl sa ln bt pn bf] H locs := hZ
  refine lv_if_ne (tgt := 18) hx hb dX7_hash_8 (by decide) (fun c3 => ?_) (fun c3 => ?_)
  · obtain ⟨a1, ha1, ea1⟩ := zl_has (by omega) c3
    have hl : lv_has ls 2 [(0, .ref h0), (1, .int (nI a1))] := by rw [← ea1]; exact hl
    have bd4 : a1 < 2 ^ 31 := by omega
    have d_a1 : x1.toNatClampNeg = a1 := by rw [ea1]; exact nI_clamp bd4
    obtain ⟨sz1, lz1, dz1, es1, el1, ed1, g11, g21, g31, g41⟩ := h_S.2.2 a1 ha1
    have bd5 : sz1 < 2 ^ 31 := by omega
    have d_sz1 : (saf a1).toNatClampNeg = sz1 := by rw [es1]; exact nI_clamp bd5
    have bd6 : lz1 < 2 ^ 31 := by omega
    have d_lz1 : (lnf a1).toNatClampNeg = lz1 := by rw [el1]; exact nI_clamp bd6
    have bd7 : dz1 < 2 ^ 31 := by omega
    have d_dz1 : (dpf a1).toNatClampNeg = dz1 := by rw [ed1]; exact nI_clamp bd7
    refine lv_aload_n hx hb dX7_hash_18 rfl (lv_at hl 0 rfl) ?_
    refine lv_iconst (v := 0) hx hb dX7_hash_19 (by decide) ?_
    refine zz_put hC hZ 0 rfl zu_X7_56 (Nat.le_of_ble_eq_true rfl) dX7_hash_20 (fun H locs hZ => ?_)
    have hZ : zz_Z g A s.heap [cw_k6 h0 st mk lk ch ru mr md 0, cw_k1 lk st (nI n) l_ag l_dg l_ds, cw_i g kd 60 kdf, cw_i g dp 60 dpf, cw_i g sa 60 saf, cw_i g ln 60 lnf, cw_l g bt 4000 btf, cw_i g l_dg 60 dgf, cw_i g l_ds 60 dsf, cw_k5 st (nI na) (nI nu) kd dp cl sa ln bt pn bf] H locs := hZ
    refine lv_aload_n hx hb dX7_hash_23 rfl (lv_at hl 0 rfl) ?_
    refine zz_get hC hZ 0 rfl zf_X7_28 rfl dX7_hash_24 ?_
    refine lv_iload_n hx hb dX7_hash_27 rfl (lv_at hl 1 rfl) ?_
    refine zz_iV (As := [.int (nI a1)]) (wc := [cw_k1 lk st (nI n) l_ag l_dg l_ds, cw_i g l_dg 60 dgf, cw_i g l_ds 60 dsf, cw_k5 st (nI na) (nI nu) kd dp cl sa ln bt pn bf, cw_i g kd 60 kdf, cw_i g dp 60 dpf, cw_i g sa 60 saf, cw_i g ln 60 lnf, cw_l g bt 4000 btf]) (wr := [cw_k6 h0 st mk lk ch ru mr md 0]) (rest := []) hC hZ hs hl zc_X7_206 (co_dig g lk l_ag l_dg l_ds st kd dp cl sa ln bt pn bf na nu n kdf dpf saf lnf btf dgf dsf a1 (h_M) (by omega) (h_n) (h_qd)) [1, 7, 8, 9, 2, 3, 4, 5, 6] [0] rfl rfl (by decide +kernel) (ci := 1) (q0 := 0) rfl rfl rfl rfl (Nat.le_of_ble_eq_true rfl) ⟨⟨Nat.le_of_ble_eq_true rfl, Nat.le_of_ble_eq_true rfl⟩, Nat.le_of_ble_eq_true rfl, Nat.le_of_ble_eq_true rfl⟩ dX7_hash_28 (fun r8 u9 H locs hp hZ => ?_)
    obtain ⟨dg2_10, ds2_11, f12, f13, rfl⟩ := hp
    have hZ : zz_Z g A s.heap [cw_k6 h0 st mk lk ch ru mr md 0, cw_k1 lk st (nI (n + 1)) l_ag l_dg l_ds, cw_i g l_dg 60 dg2_10, cw_i g l_ds 60 ds2_11, cw_k5 st (nI na) (nI nu) kd dp cl sa ln bt pn bf, cw_i g kd 60 kdf, cw_i g dp 60 dpf, cw_i g sa 60 saf, cw_i g ln 60 lnf, cw_l g bt 4000 btf] H locs := hZ
    have d_r8 : sp_hS na kdf dpf saf lnf btf a1 = r8 := f12.symm
    have hZ : zz_Z g A s.heap [cw_k6 h0 st mk lk ch ru mr md 0, cw_k5 st (nI na) (nI nu) kd dp cl sa ln bt pn bf, cw_k1 lk st (nI (n + 1)) l_ag l_dg l_ds, cw_i g kd 60 kdf, cw_i g dp 60 dpf, cw_i g sa 60 saf, cw_i g ln 60 lnf, cw_l g bt 4000 btf, cw_i g l_dg 60 dg2_10, cw_i g l_ds 60 ds2_11] H locs := hZ.sub [0, 4, 1, 5, 6, 7, 8, 9, 2, 3] (by decide +kernel) rfl
    exact zz_iret hC hZ (⟨0, (n + 1), dg2_10, ds2_11, by refine Eq.symm ?_; rw [fn_cx_hash2]; refine (if_neg (by (try simp only [d_a1, d_sz1, d_lz1, d_dz1, d_r8]); exact c3)).trans ?_; first | (simp only [d_a1, d_sz1, d_lz1, d_dz1, d_r8]; done) | rfl, by omega, f13, rfl⟩) (Nat.le_of_ble_eq_true rfl) (Nat.le_of_ble_eq_true rfl) dX7_hash_31
  · refine lv_aload_n hx hb dX7_hash_11 rfl (lv_at hl 0 rfl) ?_
    refine lv_iconst (v := 5) hx hb dX7_hash_12 (by decide) ?_
    refine zz_put hC hZ 0 rfl zu_X7_56 (Nat.le_of_ble_eq_true rfl) dX7_hash_13 (fun H locs hZ => ?_)
    have hZ : zz_Z g A s.heap [cw_k6 h0 st mk lk ch ru mr md 5, cw_k1 lk st (nI n) l_ag l_dg l_ds, cw_i g kd 60 kdf, cw_i g dp 60 dpf, cw_i g sa 60 saf, cw_i g ln 60 lnf, cw_l g bt 4000 btf, cw_i g l_dg 60 dgf, cw_i g l_ds 60 dsf, cw_k5 st (nI na) (nI nu) kd dp cl sa ln bt pn bf] H locs := hZ
    refine lv_iconst (v := 0) hx hb dX7_hash_16 (by decide) ?_
    have hZ : zz_Z g A s.heap [cw_k6 h0 st mk lk ch ru mr md 5, cw_k5 st (nI na) (nI nu) kd dp cl sa ln bt pn bf, cw_k1 lk st (nI n) l_ag l_dg l_ds, cw_i g kd 60 kdf, cw_i g dp 60 dpf, cw_i g sa 60 saf, cw_i g ln 60 lnf, cw_l g bt 4000 btf, cw_i g l_dg 60 dgf, cw_i g l_ds 60 dsf] H locs := hZ.sub [0, 9, 1, 2, 3, 4, 5, 6, 7, 8] (by decide +kernel) rfl
    exact zz_iret hC hZ (⟨5, n, dgf, dsf, by show _ = _; rw [fn_cx_hash2]; rw [if_pos c3], by omega, h_qd, rfl⟩) (Nat.le_of_ble_eq_true rfl) (Nat.le_of_ble_eq_true rfl) dX7_hash_17
theorem dg_X8_hashOf_0 : (decode cX8_hashOf 0 = .ok (.iconst 1, 1)) ∧ (decode cX8_hashOf 1 = .ok (.istore_n 2, 1)) ∧ (decode cX8_hashOf 2 = .ok (.iconst 0, 1)) ∧ (decode cX8_hashOf 3 = .ok (.istore_n 3, 1)) ∧ (decode cX8_hashOf 4 = .ok (.iload_n 3, 1)) ∧ (decode cX8_hashOf 5 = .ok (.aload_n 0, 1)) ∧ (decode cX8_hashOf 6 = .ok (.getfield 16, 3)) ∧ (decode cX8_hashOf 9 = .ok (.iload_n 1, 1)) ∧ (decode cX8_hashOf 10 = .ok (.iaload, 1)) ∧ (decode cX8_hashOf 11 = .ok (.if_icmp .ge 130, 3)) ∧ (decode cX8_hashOf 14 = .ok (.aload_n 0, 1)) ∧ (decode cX8_hashOf 15 = .ok (.getfield 25, 3)) ∧ (decode cX8_hashOf 18 = .ok (.aload_n 0, 1)) ∧ (decode cX8_hashOf 19 = .ok (.getfield 22, 3)) ∧ (decode cX8_hashOf 22 = .ok (.iload_n 1, 1)) ∧ (decode cX8_hashOf 23 = .ok (.iaload, 1)) := by decide +kernel
theorem dX8_hashOf_0 : decode cX8_hashOf 0 = .ok (.iconst 1, 1) := dg_X8_hashOf_0.1
theorem dX8_hashOf_1 : decode cX8_hashOf 1 = .ok (.istore_n 2, 1) := dg_X8_hashOf_0.2.1
theorem dX8_hashOf_2 : decode cX8_hashOf 2 = .ok (.iconst 0, 1) := dg_X8_hashOf_0.2.2.1
theorem dX8_hashOf_3 : decode cX8_hashOf 3 = .ok (.istore_n 3, 1) := dg_X8_hashOf_0.2.2.2.1
theorem dX8_hashOf_4 : decode cX8_hashOf 4 = .ok (.iload_n 3, 1) := dg_X8_hashOf_0.2.2.2.2.1
theorem dX8_hashOf_5 : decode cX8_hashOf 5 = .ok (.aload_n 0, 1) := dg_X8_hashOf_0.2.2.2.2.2.1
theorem dX8_hashOf_6 : decode cX8_hashOf 6 = .ok (.getfield 16, 3) := dg_X8_hashOf_0.2.2.2.2.2.2.1
theorem dX8_hashOf_9 : decode cX8_hashOf 9 = .ok (.iload_n 1, 1) := dg_X8_hashOf_0.2.2.2.2.2.2.2.1
theorem dX8_hashOf_10 : decode cX8_hashOf 10 = .ok (.iaload, 1) := dg_X8_hashOf_0.2.2.2.2.2.2.2.2.1
theorem dX8_hashOf_11 : decode cX8_hashOf 11 = .ok (.if_icmp .ge 130, 3) := dg_X8_hashOf_0.2.2.2.2.2.2.2.2.2.1
theorem dX8_hashOf_14 : decode cX8_hashOf 14 = .ok (.aload_n 0, 1) := dg_X8_hashOf_0.2.2.2.2.2.2.2.2.2.2.1
theorem dX8_hashOf_15 : decode cX8_hashOf 15 = .ok (.getfield 25, 3) := dg_X8_hashOf_0.2.2.2.2.2.2.2.2.2.2.2.1
theorem dX8_hashOf_18 : decode cX8_hashOf 18 = .ok (.aload_n 0, 1) := dg_X8_hashOf_0.2.2.2.2.2.2.2.2.2.2.2.2.1
theorem dX8_hashOf_19 : decode cX8_hashOf 19 = .ok (.getfield 22, 3) := dg_X8_hashOf_0.2.2.2.2.2.2.2.2.2.2.2.2.2.1
theorem dX8_hashOf_22 : decode cX8_hashOf 22 = .ok (.iload_n 1, 1) := dg_X8_hashOf_0.2.2.2.2.2.2.2.2.2.2.2.2.2.2.1
theorem dX8_hashOf_23 : decode cX8_hashOf 23 = .ok (.iaload, 1) := dg_X8_hashOf_0.2.2.2.2.2.2.2.2.2.2.2.2.2.2.2
theorem dg_X8_hashOf_24 : (decode cX8_hashOf 24 = .ok (.iload_n 3, 1)) ∧ (decode cX8_hashOf 25 = .ok (.iadd, 1)) ∧ (decode cX8_hashOf 26 = .ok (.laload, 1)) ∧ (decode cX8_hashOf 27 = .ok (.lstore 4, 2)) ∧ (decode cX8_hashOf 29 = .ok (.aload_n 0, 1)) ∧ (decode cX8_hashOf 30 = .ok (.getfield 7, 3)) ∧ (decode cX8_hashOf 33 = .ok (.iload_n 1, 1)) ∧ (decode cX8_hashOf 34 = .ok (.iaload, 1)) ∧ (decode cX8_hashOf 35 = .ok (.istore 6, 2)) ∧ (decode cX8_hashOf 37 = .ok (.aload_n 0, 1)) ∧ (decode cX8_hashOf 38 = .ok (.getfield 13, 3)) ∧ (decode cX8_hashOf 41 = .ok (.iload_n 1, 1)) ∧ (decode cX8_hashOf 42 = .ok (.iaload, 1)) ∧ (decode cX8_hashOf 43 = .ok (.iconst 1, 1)) ∧ (decode cX8_hashOf 44 = .ok (.if_icmp .le 33, 3)) ∧ (decode cX8_hashOf 47 = .ok (.bipush 31, 2)) := by decide +kernel
theorem dX8_hashOf_24 : decode cX8_hashOf 24 = .ok (.iload_n 3, 1) := dg_X8_hashOf_24.1
theorem dX8_hashOf_25 : decode cX8_hashOf 25 = .ok (.iadd, 1) := dg_X8_hashOf_24.2.1
theorem dX8_hashOf_26 : decode cX8_hashOf 26 = .ok (.laload, 1) := dg_X8_hashOf_24.2.2.1
theorem dX8_hashOf_27 : decode cX8_hashOf 27 = .ok (.lstore 4, 2) := dg_X8_hashOf_24.2.2.2.1
theorem dX8_hashOf_29 : decode cX8_hashOf 29 = .ok (.aload_n 0, 1) := dg_X8_hashOf_24.2.2.2.2.1
theorem dX8_hashOf_30 : decode cX8_hashOf 30 = .ok (.getfield 7, 3) := dg_X8_hashOf_24.2.2.2.2.2.1
theorem dX8_hashOf_33 : decode cX8_hashOf 33 = .ok (.iload_n 1, 1) := dg_X8_hashOf_24.2.2.2.2.2.2.1
theorem dX8_hashOf_34 : decode cX8_hashOf 34 = .ok (.iaload, 1) := dg_X8_hashOf_24.2.2.2.2.2.2.2.1
theorem dX8_hashOf_35 : decode cX8_hashOf 35 = .ok (.istore 6, 2) := dg_X8_hashOf_24.2.2.2.2.2.2.2.2.1
theorem dX8_hashOf_37 : decode cX8_hashOf 37 = .ok (.aload_n 0, 1) := dg_X8_hashOf_24.2.2.2.2.2.2.2.2.2.1
theorem dX8_hashOf_38 : decode cX8_hashOf 38 = .ok (.getfield 13, 3) := dg_X8_hashOf_24.2.2.2.2.2.2.2.2.2.2.1
theorem dX8_hashOf_41 : decode cX8_hashOf 41 = .ok (.iload_n 1, 1) := dg_X8_hashOf_24.2.2.2.2.2.2.2.2.2.2.2.1
theorem dX8_hashOf_42 : decode cX8_hashOf 42 = .ok (.iaload, 1) := dg_X8_hashOf_24.2.2.2.2.2.2.2.2.2.2.2.2.1
theorem dX8_hashOf_43 : decode cX8_hashOf 43 = .ok (.iconst 1, 1) := dg_X8_hashOf_24.2.2.2.2.2.2.2.2.2.2.2.2.2.1
theorem dX8_hashOf_44 : decode cX8_hashOf 44 = .ok (.if_icmp .le 33, 3) := dg_X8_hashOf_24.2.2.2.2.2.2.2.2.2.2.2.2.2.2.1
theorem dX8_hashOf_47 : decode cX8_hashOf 47 = .ok (.bipush 31, 2) := dg_X8_hashOf_24.2.2.2.2.2.2.2.2.2.2.2.2.2.2.2
theorem dg_X8_hashOf_49 : (decode cX8_hashOf 49 = .ok (.iload_n 2, 1)) ∧ (decode cX8_hashOf 50 = .ok (.imul, 1)) ∧ (decode cX8_hashOf 51 = .ok (.lload 4, 2)) ∧ (decode cX8_hashOf 53 = .ok (.ldc2_w 171, 3)) ∧ (decode cX8_hashOf 56 = .ok (.lcmp, 1)) ∧ (decode cX8_hashOf 57 = .ok (.ifCond .ne 7, 3)) ∧ (decode cX8_hashOf 60 = .ok (.iconst 0, 1)) ∧ (decode cX8_hashOf 61 = .ok (.goto 11, 3)) ∧ (decode cX8_hashOf 64 = .ok (.aload_n 0, 1)) ∧ (decode cX8_hashOf 65 = .ok (.getfield 54, 3)) ∧ (decode cX8_hashOf 68 = .ok (.lload 4, 2)) ∧ (decode cX8_hashOf 70 = .ok (.l2i, 1)) ∧ (decode cX8_hashOf 71 = .ok (.iaload, 1)) ∧ (decode cX8_hashOf 72 = .ok (.iadd, 1)) ∧ (decode cX8_hashOf 73 = .ok (.istore_n 2, 1)) ∧ (decode cX8_hashOf 74 = .ok (.goto 61, 3)) := by decide +kernel
theorem dX8_hashOf_49 : decode cX8_hashOf 49 = .ok (.iload_n 2, 1) := dg_X8_hashOf_49.1
theorem dX8_hashOf_50 : decode cX8_hashOf 50 = .ok (.imul, 1) := dg_X8_hashOf_49.2.1
theorem dX8_hashOf_51 : decode cX8_hashOf 51 = .ok (.lload 4, 2) := dg_X8_hashOf_49.2.2.1
theorem dX8_hashOf_53 : decode cX8_hashOf 53 = .ok (.ldc2_w 171, 3) := dg_X8_hashOf_49.2.2.2.1
theorem dX8_hashOf_56 : decode cX8_hashOf 56 = .ok (.lcmp, 1) := dg_X8_hashOf_49.2.2.2.2.1
theorem dX8_hashOf_57 : decode cX8_hashOf 57 = .ok (.ifCond .ne 7, 3) := dg_X8_hashOf_49.2.2.2.2.2.1
theorem dX8_hashOf_60 : decode cX8_hashOf 60 = .ok (.iconst 0, 1) := dg_X8_hashOf_49.2.2.2.2.2.2.1
theorem dX8_hashOf_61 : decode cX8_hashOf 61 = .ok (.goto 11, 3) := dg_X8_hashOf_49.2.2.2.2.2.2.2.1
theorem dX8_hashOf_64 : decode cX8_hashOf 64 = .ok (.aload_n 0, 1) := dg_X8_hashOf_49.2.2.2.2.2.2.2.2.1
theorem dX8_hashOf_65 : decode cX8_hashOf 65 = .ok (.getfield 54, 3) := dg_X8_hashOf_49.2.2.2.2.2.2.2.2.2.1
theorem dX8_hashOf_68 : decode cX8_hashOf 68 = .ok (.lload 4, 2) := dg_X8_hashOf_49.2.2.2.2.2.2.2.2.2.2.1
theorem dX8_hashOf_70 : decode cX8_hashOf 70 = .ok (.l2i, 1) := dg_X8_hashOf_49.2.2.2.2.2.2.2.2.2.2.2.1
theorem dX8_hashOf_71 : decode cX8_hashOf 71 = .ok (.iaload, 1) := dg_X8_hashOf_49.2.2.2.2.2.2.2.2.2.2.2.2.1
theorem dX8_hashOf_72 : decode cX8_hashOf 72 = .ok (.iadd, 1) := dg_X8_hashOf_49.2.2.2.2.2.2.2.2.2.2.2.2.2.1
theorem dX8_hashOf_73 : decode cX8_hashOf 73 = .ok (.istore_n 2, 1) := dg_X8_hashOf_49.2.2.2.2.2.2.2.2.2.2.2.2.2.2.1
theorem dX8_hashOf_74 : decode cX8_hashOf 74 = .ok (.goto 61, 3) := dg_X8_hashOf_49.2.2.2.2.2.2.2.2.2.2.2.2.2.2.2
theorem dg_X8_hashOf_77 : (decode cX8_hashOf 77 = .ok (.bipush 31, 2)) ∧ (decode cX8_hashOf 79 = .ok (.iload_n 2, 1)) ∧ (decode cX8_hashOf 80 = .ok (.imul, 1)) ∧ (decode cX8_hashOf 81 = .ok (.iload 6, 2)) ∧ (decode cX8_hashOf 83 = .ok (.ifCond .ne 22, 3)) ∧ (decode cX8_hashOf 86 = .ok (.lload 4, 2)) ∧ (decode cX8_hashOf 88 = .ok (.lconst 1, 1)) ∧ (decode cX8_hashOf 89 = .ok (.lcmp, 1)) ∧ (decode cX8_hashOf 90 = .ok (.ifCond .ne 9, 3)) ∧ (decode cX8_hashOf 93 = .ok (.sipush 1231, 3)) ∧ (decode cX8_hashOf 96 = .ok (.goto 37, 3)) ∧ (decode cX8_hashOf 99 = .ok (.sipush 1237, 3)) ∧ (decode cX8_hashOf 102 = .ok (.goto 31, 3)) ∧ (decode cX8_hashOf 105 = .ok (.iload 6, 2)) ∧ (decode cX8_hashOf 107 = .ok (.iconst 5, 1)) ∧ (decode cX8_hashOf 108 = .ok (.if_icmp .eq 10, 3)) := by decide +kernel
theorem dX8_hashOf_77 : decode cX8_hashOf 77 = .ok (.bipush 31, 2) := dg_X8_hashOf_77.1
theorem dX8_hashOf_79 : decode cX8_hashOf 79 = .ok (.iload_n 2, 1) := dg_X8_hashOf_77.2.1
theorem dX8_hashOf_80 : decode cX8_hashOf 80 = .ok (.imul, 1) := dg_X8_hashOf_77.2.2.1
theorem dX8_hashOf_81 : decode cX8_hashOf 81 = .ok (.iload 6, 2) := dg_X8_hashOf_77.2.2.2.1
theorem dX8_hashOf_83 : decode cX8_hashOf 83 = .ok (.ifCond .ne 22, 3) := dg_X8_hashOf_77.2.2.2.2.1
theorem dX8_hashOf_86 : decode cX8_hashOf 86 = .ok (.lload 4, 2) := dg_X8_hashOf_77.2.2.2.2.2.1
theorem dX8_hashOf_88 : decode cX8_hashOf 88 = .ok (.lconst 1, 1) := dg_X8_hashOf_77.2.2.2.2.2.2.1
theorem dX8_hashOf_89 : decode cX8_hashOf 89 = .ok (.lcmp, 1) := dg_X8_hashOf_77.2.2.2.2.2.2.2.1
theorem dX8_hashOf_90 : decode cX8_hashOf 90 = .ok (.ifCond .ne 9, 3) := dg_X8_hashOf_77.2.2.2.2.2.2.2.2.1
theorem dX8_hashOf_93 : decode cX8_hashOf 93 = .ok (.sipush 1231, 3) := dg_X8_hashOf_77.2.2.2.2.2.2.2.2.2.1
theorem dX8_hashOf_96 : decode cX8_hashOf 96 = .ok (.goto 37, 3) := dg_X8_hashOf_77.2.2.2.2.2.2.2.2.2.2.1
theorem dX8_hashOf_99 : decode cX8_hashOf 99 = .ok (.sipush 1237, 3) := dg_X8_hashOf_77.2.2.2.2.2.2.2.2.2.2.2.1
theorem dX8_hashOf_102 : decode cX8_hashOf 102 = .ok (.goto 31, 3) := dg_X8_hashOf_77.2.2.2.2.2.2.2.2.2.2.2.2.1
theorem dX8_hashOf_105 : decode cX8_hashOf 105 = .ok (.iload 6, 2) := dg_X8_hashOf_77.2.2.2.2.2.2.2.2.2.2.2.2.2.1
theorem dX8_hashOf_107 : decode cX8_hashOf 107 = .ok (.iconst 5, 1) := dg_X8_hashOf_77.2.2.2.2.2.2.2.2.2.2.2.2.2.2.1
theorem dX8_hashOf_108 : decode cX8_hashOf 108 = .ok (.if_icmp .eq 10, 3) := dg_X8_hashOf_77.2.2.2.2.2.2.2.2.2.2.2.2.2.2.2
theorem dg_X8_hashOf_111 : (decode cX8_hashOf 111 = .ok (.iload 6, 2)) ∧ (decode cX8_hashOf 113 = .ok (.bipush 7, 2)) ∧ (decode cX8_hashOf 115 = .ok (.if_icmp .ne 15, 3)) ∧ (decode cX8_hashOf 118 = .ok (.lload 4, 2)) ∧ (decode cX8_hashOf 120 = .ok (.lload 4, 2)) ∧ (decode cX8_hashOf 122 = .ok (.bipush 32, 2)) ∧ (decode cX8_hashOf 124 = .ok (.lushr, 1)) ∧ (decode cX8_hashOf 125 = .ok (.lxor, 1)) ∧ (decode cX8_hashOf 126 = .ok (.l2i, 1)) ∧ (decode cX8_hashOf 127 = .ok (.goto 6, 3)) ∧ (decode cX8_hashOf 130 = .ok (.lload 4, 2)) ∧ (decode cX8_hashOf 132 = .ok (.l2i, 1)) ∧ (decode cX8_hashOf 133 = .ok (.iadd, 1)) ∧ (decode cX8_hashOf 134 = .ok (.istore_n 2, 1)) ∧ (decode cX8_hashOf 135 = .ok (.iinc 3 1, 3)) ∧ (decode cX8_hashOf 138 = .ok (.goto (-134), 3)) := by decide +kernel
theorem dX8_hashOf_111 : decode cX8_hashOf 111 = .ok (.iload 6, 2) := dg_X8_hashOf_111.1
theorem dX8_hashOf_113 : decode cX8_hashOf 113 = .ok (.bipush 7, 2) := dg_X8_hashOf_111.2.1
theorem dX8_hashOf_115 : decode cX8_hashOf 115 = .ok (.if_icmp .ne 15, 3) := dg_X8_hashOf_111.2.2.1
theorem dX8_hashOf_118 : decode cX8_hashOf 118 = .ok (.lload 4, 2) := dg_X8_hashOf_111.2.2.2.1
theorem dX8_hashOf_120 : decode cX8_hashOf 120 = .ok (.lload 4, 2) := dg_X8_hashOf_111.2.2.2.2.1
theorem dX8_hashOf_122 : decode cX8_hashOf 122 = .ok (.bipush 32, 2) := dg_X8_hashOf_111.2.2.2.2.2.1
theorem dX8_hashOf_124 : decode cX8_hashOf 124 = .ok (.lushr, 1) := dg_X8_hashOf_111.2.2.2.2.2.2.1
theorem dX8_hashOf_125 : decode cX8_hashOf 125 = .ok (.lxor, 1) := dg_X8_hashOf_111.2.2.2.2.2.2.2.1
theorem dX8_hashOf_126 : decode cX8_hashOf 126 = .ok (.l2i, 1) := dg_X8_hashOf_111.2.2.2.2.2.2.2.2.1
theorem dX8_hashOf_127 : decode cX8_hashOf 127 = .ok (.goto 6, 3) := dg_X8_hashOf_111.2.2.2.2.2.2.2.2.2.1
theorem dX8_hashOf_130 : decode cX8_hashOf 130 = .ok (.lload 4, 2) := dg_X8_hashOf_111.2.2.2.2.2.2.2.2.2.2.1
theorem dX8_hashOf_132 : decode cX8_hashOf 132 = .ok (.l2i, 1) := dg_X8_hashOf_111.2.2.2.2.2.2.2.2.2.2.2.1
theorem dX8_hashOf_133 : decode cX8_hashOf 133 = .ok (.iadd, 1) := dg_X8_hashOf_111.2.2.2.2.2.2.2.2.2.2.2.2.1
theorem dX8_hashOf_134 : decode cX8_hashOf 134 = .ok (.istore_n 2, 1) := dg_X8_hashOf_111.2.2.2.2.2.2.2.2.2.2.2.2.2.1
theorem dX8_hashOf_135 : decode cX8_hashOf 135 = .ok (.iinc 3 1, 3) := dg_X8_hashOf_111.2.2.2.2.2.2.2.2.2.2.2.2.2.2.1
theorem dX8_hashOf_138 : decode cX8_hashOf 138 = .ok (.goto (-134), 3) := dg_X8_hashOf_111.2.2.2.2.2.2.2.2.2.2.2.2.2.2.2
theorem dg_X8_hashOf_141 : (decode cX8_hashOf 141 = .ok (.iload_n 2, 1)) ∧ (decode cX8_hashOf 142 = .ok (.ireturn, 1)) := by decide +kernel
theorem dX8_hashOf_141 : decode cX8_hashOf 141 = .ok (.iload_n 2, 1) := dg_X8_hashOf_141.1
theorem dX8_hashOf_142 : decode cX8_hashOf 142 = .ok (.ireturn, 1) := dg_X8_hashOf_141.2
theorem zf_X8_54 : zz_f RX8 54 7 19 := ⟨RX8, TX8, 37, rfl, zi_X8, by decide, zk_754⟩
abbrev rm_cm_hashOf2 : Room := { frames := 0, cells := 0, slots := 0, locals := 0 }
abbrev po_cm_hashOf2 (g : zz_G) (h0 : Nat) (a_kindOf : Nat) (a_depthOf : Nat) (a_lengthOf : Nat) (a_classOf : Nat) (a_baseOf : Nat) (a_bits : Nat) (a_pinned : Nat) (a_lengths : Nat) (a_stackArray : Nat) (a_stackOther : Nat) (a_stackAt : Nat) (a_path : Nat) (a_held : Nat) (a_alike : Nat) (a_hashes : Nat) (a_decisionArray : Nat) (a_decisionPlace : Nat) (a_candidateMany : Nat) (a_candidates : Nat) (a_ruleSort : Nat) (a_ruleArray : Nat) (a_ruleWeight : Nat) (a_ruleLow : Nat) (a_ruleHigh : Nat) (a_chosen : Nat) (a_bestOf : Nat) (a_markElements : Nat) (a_markBits : Nat) (a_markPins : Nat) (na : Nat) (ne : Nat) (nd : Nat) (nr : Nat) (nm : Nat) (i_code : Int32) (i_lastArray : Int32) (i_lastPlace : Int32) (kdf : Nat → Int32) (dpf : Nat → Int32) (lnf : Nat → Int32) (saf : Nat → Int32) (btf : Nat → Int64) (haf : Nat → Int32) (a : Nat) (h_M : zz_MI na ne dpf saf lnf btf) (h_a : a < na) (h_H : ∀ d : Nat, dpf a = nI d → d ≤ 4 → zz_HT na (sp_hS na kdf dpf saf lnf btf) dpf d haf) : Int32 → va_W → Prop := fun (r : Int32) (u : va_W) => (r = sp_hS na kdf dpf saf lnf btf a) ∧ u = [cw_k7 h0 (nI na) (nI ne) a_kindOf a_depthOf a_lengthOf a_classOf a_baseOf a_bits a_pinned i_code a_lengths a_stackArray a_stackOther a_stackAt i_lastArray i_lastPlace a_path a_held a_alike a_hashes (nI nd) a_decisionArray a_decisionPlace a_candidateMany a_candidates (nI nr) a_ruleSort a_ruleArray a_ruleWeight a_ruleLow a_ruleHigh a_chosen a_bestOf (nI nm) a_markElements a_markBits a_markPins, cw_i g a_kindOf 60 kdf, cw_i g a_depthOf 60 dpf, cw_i g a_lengthOf 60 lnf, cw_i g a_baseOf 60 saf, cw_l g a_bits 4000 btf, cw_i g a_hashes 60 haf]
set_option maxHeartbeats 4000000 in
set_option maxRecDepth 100000 in
theorem cm_hashOf2 (g : zz_G) (h0 : Nat) (a_kindOf : Nat) (a_depthOf : Nat) (a_lengthOf : Nat) (a_classOf : Nat) (a_baseOf : Nat) (a_bits : Nat) (a_pinned : Nat) (a_lengths : Nat) (a_stackArray : Nat) (a_stackOther : Nat) (a_stackAt : Nat) (a_path : Nat) (a_held : Nat) (a_alike : Nat) (a_hashes : Nat) (a_decisionArray : Nat) (a_decisionPlace : Nat) (a_candidateMany : Nat) (a_candidates : Nat) (a_ruleSort : Nat) (a_ruleArray : Nat) (a_ruleWeight : Nat) (a_ruleLow : Nat) (a_ruleHigh : Nat) (a_chosen : Nat) (a_bestOf : Nat) (a_markElements : Nat) (a_markBits : Nat) (a_markPins : Nat) (na : Nat) (ne : Nat) (nd : Nat) (nr : Nat) (nm : Nat) (i_code : Int32) (i_lastArray : Int32) (i_lastPlace : Int32) (kdf : Nat → Int32) (dpf : Nat → Int32) (lnf : Nat → Int32) (saf : Nat → Int32) (btf : Nat → Int64) (haf : Nat → Int32) (a : Nat) (h_M : zz_MI na ne dpf saf lnf btf) (h_a : a < na) (h_H : ∀ d : Nat, dpf a = nI d → d ≤ 4 → zz_HT na (sp_hS na kdf dpf saf lnf btf) dpf d haf) : zz_I g yX8_hashOf (.code yX8_hashOf cX8_hashOf 7 (some .int)) rm_cm_hashOf2 [.ref h0, .int (nI a)] [cw_k7 h0 (nI na) (nI ne) a_kindOf a_depthOf a_lengthOf a_classOf a_baseOf a_bits a_pinned i_code a_lengths a_stackArray a_stackOther a_stackAt i_lastArray i_lastPlace a_path a_held a_alike a_hashes (nI nd) a_decisionArray a_decisionPlace a_candidateMany a_candidates (nI nr) a_ruleSort a_ruleArray a_ruleWeight a_ruleLow a_ruleHigh a_chosen a_bestOf (nI nm) a_markElements a_markBits a_markPins, cw_i g a_kindOf 60 kdf, cw_i g a_depthOf 60 dpf, cw_i g a_lengthOf 60 lnf, cw_i g a_baseOf 60 saf, cw_l g a_bits 4000 btf, cw_i g a_hashes 60 haf] (po_cm_hashOf2 g h0 a_kindOf a_depthOf a_lengthOf a_classOf a_baseOf a_bits a_pinned a_lengths a_stackArray a_stackOther a_stackAt a_path a_held a_alike a_hashes a_decisionArray a_decisionPlace a_candidateMany a_candidates a_ruleSort a_ruleArray a_ruleWeight a_ruleLow a_ruleHigh a_chosen a_bestOf a_markElements a_markBits a_markPins na ne nd nr nm i_code i_lastArray i_lastPlace kdf dpf lnf saf btf haf a h_M h_a h_H) := by
  refine zz_I.intro (own := RX8) (cc := cX8_hashOf) (nL := 7) (by decide) rfl (Nat.le_of_ble_eq_true rfl) ?_
  intro p l e s m args below meth c A H locs ls hC hnm hs hZ hl
  obtain ⟨hx, hb, hml, hown, hts, hr, hlocks, hK⟩ := id hC
  have hl : lv_has ls 7 [(0, .ref h0), (1, .int (nI a))] := hl
  have hZ : zz_Z g A s.heap [cw_k7 h0 (nI na) (nI ne) a_kindOf a_depthOf a_lengthOf a_classOf a_baseOf a_bits a_pinned i_code a_lengths a_stackArray a_stackOther a_stackAt i_lastArray i_lastPlace a_path a_held a_alike a_hashes (nI nd) a_decisionArray a_decisionPlace a_candidateMany a_candidates (nI nr) a_ruleSort a_ruleArray a_ruleWeight a_ruleLow a_ruleHigh a_chosen a_bestOf (nI nm) a_markElements a_markBits a_markPins, cw_i g a_kindOf 60 kdf, cw_i g a_depthOf 60 dpf, cw_i g a_lengthOf 60 lnf, cw_i g a_baseOf 60 saf, cw_l g a_bits 4000 btf, cw_i g a_hashes 60 haf] H locs := hZ
  have h_S := h_M.1
  have hna := h_S.1
  have hne := h_S.2.1
  obtain ⟨sz, lz, dz, es, el, ed, g1, g2, g3, g4⟩ := h_S.2.2 a h_a
  have hU := zl_hsU (kd := kdf) h_M h_a es el ed (by omega) (by omega) (by omega) (by omega)
  refine lv_iconst (v := 1) hx hb dX8_hashOf_0 (by decide) ?_
  refine lv_istore_n (lv' := [(2, .int 1), (0, .ref h0), (1, .int (nI a))]) hx hb dX8_hashOf_1 rfl hl (by decide) rfl (fun ls hl => ?_)
  refine lv_iconst (v := 0) hx hb dX8_hashOf_2 (by decide) ?_
  refine lv_istore_n (lv' := [(3, .int 0), (2, .int 1), (0, .ref h0), (1, .int (nI a))]) hx hb dX8_hashOf_3 rfl hl (by decide) rfl (fun ls hl => ?_)
  have LP1 : ∀ (N : Nat) (i : Nat) (w : Int32) (H : Heap) (locs : List Loc) (ls : Array Slot), (i ≤ lz) → (sp_hS na kdf dpf saf lnf btf a = sp_hl (sp_hp na kdf dpf saf lnf btf a) (lz - i) i w) → (lz - i) < N → zz_Z g A s.heap [cw_k7 h0 (nI na) (nI ne) a_kindOf a_depthOf a_lengthOf a_classOf a_baseOf a_bits a_pinned i_code a_lengths a_stackArray a_stackOther a_stackAt i_lastArray i_lastPlace a_path a_held a_alike a_hashes (nI nd) a_decisionArray a_decisionPlace a_candidateMany a_candidates (nI nr) a_ruleSort a_ruleArray a_ruleWeight a_ruleLow a_ruleHigh a_chosen a_bestOf (nI nm) a_markElements a_markBits a_markPins, cw_i g a_kindOf 60 kdf, cw_i g a_depthOf 60 dpf, cw_i g a_lengthOf 60 lnf, cw_i g a_baseOf 60 saf, cw_l g a_bits 4000 btf, cw_i g a_hashes 60 haf] H locs → lv_has ls 7 [(3, .int (nI i)), (2, .int w), (0, .ref h0), (1, .int (nI a))] → W p l e rm_cm_hashOf2 s m args below meth c H locs 0 0 (zz_QI below g args s A rm_cm_hashOf2.cells rm_cm_hashOf2.slots (po_cm_hashOf2 g h0 a_kindOf a_depthOf a_lengthOf a_classOf a_baseOf a_bits a_pinned a_lengths a_stackArray a_stackOther a_stackAt a_path a_held a_alike a_hashes a_decisionArray a_decisionPlace a_candidateMany a_candidates a_ruleSort a_ruleArray a_ruleWeight a_ruleLow a_ruleHigh a_chosen a_bestOf a_markElements a_markBits a_markPins na ne nd nr nm i_code i_lastArray i_lastPlace kdf dpf lnf saf btf haf a h_M h_a h_H)) (F0 m 4 ls []) := by
    intro N
    induction N with
    | zero =>
      intro i w H locs ls hi hh hN
      exact absurd hN (Nat.not_lt_zero _)
    | succ N ih =>
      intro i w H locs ls hi hh hN hZ hl
      refine lv_iload_n hx hb dX8_hashOf_4 rfl (lv_at hl 0 rfl) ?_
      refine lv_aload_n hx hb dX8_hashOf_5 rfl (lv_at hl 2 rfl) ?_
      refine zz_get hC hZ 0 rfl zf_X8_16 rfl dX8_hashOf_6 ?_
      refine lv_iload_n hx hb dX8_hashOf_9 rfl (lv_at hl 3 rfl) ?_
      have bd2 : a < 60 := by omega
      refine zz_ialdn hC hZ 3 rfl bd2 (by decide) dX8_hashOf_10 ?_
      refine zz_topi (v := nI lz) (el) ?_
      have bd4 : lz < 2 ^ 31 := by omega
      have bd5 : i < 2 ^ 31 := by omega
      refine lv_icmp_ge (tgt := 141) hx hb dX8_hashOf_11 (by decide) (fun c3 => ?_) (fun c3 => ?_)
      · have nc3 : lz ≤ i := (nI_leI bd4 bd5).mp (show nI (lz) ≤ nI (i) from c3)
        refine lv_iload_n hx hb dX8_hashOf_141 rfl (lv_at hl 1 rfl) ?_
        exact zz_iret hC hZ (⟨(hh.trans (by rw [show lz - i = 0 by omega, sp_hl])).symm, rfl⟩) (Nat.le_of_ble_eq_true rfl) (Nat.le_of_ble_eq_true rfl) dX8_hashOf_142
      · have nc3 : ¬ lz ≤ i := fun zq => c3 (show nI (lz) ≤ nI (i) from (nI_leI bd4 bd5).mpr zq)
        refine lv_aload_n hx hb dX8_hashOf_14 rfl (lv_at hl 2 rfl) ?_
        refine zz_get hC hZ 0 rfl zf_X8_25 rfl dX8_hashOf_15 ?_
        refine lv_aload_n hx hb dX8_hashOf_18 rfl (lv_at hl 2 rfl) ?_
        refine zz_get hC hZ 0 rfl zf_X8_22 rfl dX8_hashOf_19 ?_
        refine lv_iload_n hx hb dX8_hashOf_22 rfl (lv_at hl 3 rfl) ?_
        refine zz_ialdn hC hZ 4 rfl bd2 (by decide) dX8_hashOf_23 ?_
        refine zz_topi (v := nI sz) (es) ?_
        refine lv_iload_n hx hb dX8_hashOf_24 rfl (lv_at hl 0 rfl) ?_
        refine lv_iadd hx hb dX8_hashOf_25 ?_
        refine zz_topi (v := nI (sz + i)) (nI_add _ _) ?_
        have bd6 : (sz + i) < 4000 := by omega
        refine zz_laldn hC hZ 5 rfl bd6 (by decide) dX8_hashOf_26 ?_
        refine lv_lstore (lv' := [(4, .long (btf (sz + i))), (3, .int (nI i)), (2, .int w), (0, .ref h0), (1, .int (nI a))]) hx hb dX8_hashOf_27 hl (by decide) rfl (fun ls hl => ?_)
        refine lv_aload_n hx hb dX8_hashOf_29 rfl (lv_at hl 3 rfl) ?_
        refine zz_get hC hZ 0 rfl zf_X8_7 rfl dX8_hashOf_30 ?_
        refine lv_iload_n hx hb dX8_hashOf_33 rfl (lv_at hl 4 rfl) ?_
        refine zz_ialdn hC hZ 1 rfl bd2 (by decide) dX8_hashOf_34 ?_
        refine lv_istore (lv' := [(6, .int (kdf a)), (4, .long (btf (sz + i))), (3, .int (nI i)), (2, .int w), (0, .ref h0), (1, .int (nI a))]) hx hb dX8_hashOf_35 hl (by decide) rfl (fun ls hl => ?_)
        refine lv_aload_n hx hb dX8_hashOf_37 rfl (lv_at hl 4 rfl) ?_
        refine zz_get hC hZ 0 rfl zf_X8_13 rfl dX8_hashOf_38 ?_
        refine lv_iload_n hx hb dX8_hashOf_41 rfl (lv_at hl 5 rfl) ?_
        refine zz_ialdn hC hZ 2 rfl bd2 (by decide) dX8_hashOf_42 ?_
        refine zz_topi (v := nI dz) (ed) ?_
        refine lv_iconst (v := 1) hx hb dX8_hashOf_43 (by decide) ?_
        have bd8 : dz < 2 ^ 31 := by omega
        refine lv_icmp_le (tgt := 77) hx hb dX8_hashOf_44 (by decide) (fun c7 => ?_) (fun c7 => ?_)
        · have nc7 : dz ≤ 1 := (nI_leI bd8 (by decide)).mp (show nI (dz) ≤ nI (1) from c7)
          refine lv_bipush (v := 31) hx hb dX8_hashOf_77 (by decide) ?_
          refine lv_iload_n hx hb dX8_hashOf_79 rfl (lv_at hl 3 rfl) ?_
          refine lv_imul hx hb dX8_hashOf_80 ?_
          refine lv_iload hx hb dX8_hashOf_81 (lv_at hl 0 rfl) ?_
          refine lv_if_ne (tgt := 105) hx hb dX8_hashOf_83 (by decide) (fun c9 => ?_) (fun c9 => ?_)
          · refine lv_iload hx hb dX8_hashOf_105 (lv_at hl 0 rfl) ?_
            refine lv_iconst (v := 5) hx hb dX8_hashOf_107 (by decide) ?_
            refine lv_icmp_eq (tgt := 118) hx hb dX8_hashOf_108 (by decide) (fun c10 => ?_) (fun c10 => ?_)
            · refine lv_lload hx hb dX8_hashOf_118 (lv_at hl 1 rfl) ?_
              refine lv_lload hx hb dX8_hashOf_120 (lv_at hl 1 rfl) ?_
              refine lv_bipush (v := 32) hx hb dX8_hashOf_122 (by decide) ?_
              refine lv_lushr hx hb dX8_hashOf_124 rfl ?_
              refine lv_lxor hx hb dX8_hashOf_125 ?_
              refine lv_l2i hx hb dX8_hashOf_126 rfl ?_
              refine lv_goto (tgt := 133) hx hb dX8_hashOf_127 (by decide) ?_
              refine lv_iadd hx hb dX8_hashOf_133 ?_
              refine lv_istore_n (lv' := [(2, .int ((31 * w) + (((btf (sz + i)) ^^^ (((btf (sz + i)).toUInt64 >>> ((32 : Int32).toInt64.toUInt64 &&& Int64.toUInt64 63)).toInt64)).toInt32))), (6, .int (kdf a)), (4, .long (btf (sz + i))), (3, .int (nI i)), (0, .ref h0), (1, .int (nI a))]) hx hb dX8_hashOf_134 rfl hl (by decide) rfl (fun ls hl => ?_)
              refine lv_iinc (v := nI (i + 1)) (lv' := [(3, .int (nI (i + 1))), (2, .int ((31 * w) + (((btf (sz + i)) ^^^ (((btf (sz + i)).toUInt64 >>> ((32 : Int32).toInt64.toUInt64 &&& Int64.toUInt64 63)).toInt64)).toInt32))), (6, .int (kdf a)), (4, .long (btf (sz + i))), (0, .ref h0), (1, .int (nI a))]) hx hb dX8_hashOf_135 hl (k := 3) rfl (nI_1 _) (by decide) rfl (fun ls hl => ?_)
              refine lv_goto (tgt := 4) hx hb dX8_hashOf_138 (by decide) ?_
              exact ih (i + 1) ((31 * w) + (((btf (sz + i)) ^^^ (((btf (sz + i)).toUInt64 >>> ((32 : Int32).toInt64.toUInt64 &&& Int64.toUInt64 63)).toInt64)).toInt32)) H locs ls (by omega) (hh.trans (zl_hlS (show lz - i = lz - (i + 1) + 1 by omega) ((zl_hp1 (zl_d3 ed ((zl_dle g3 g4).mp c7)) es (by omega)).trans (by unfold fn_co_hashOf; rw [if_neg c9, if_pos c10])))) (by omega) hZ (lv_sub hl [0, 1, 4, 5] rfl)
            · refine lv_iload hx hb dX8_hashOf_111 (lv_at hl 0 rfl) ?_
              refine lv_bipush (v := 7) hx hb dX8_hashOf_113 (by decide) ?_
              refine lv_icmp_ne (tgt := 130) hx hb dX8_hashOf_115 (by decide) (fun c11 => ?_) (fun c11 => ?_)
              · refine lv_lload hx hb dX8_hashOf_130 (lv_at hl 1 rfl) ?_
                refine lv_l2i hx hb dX8_hashOf_132 rfl ?_
                refine lv_iadd hx hb dX8_hashOf_133 ?_
                refine lv_istore_n (lv' := [(2, .int ((31 * w) + ((btf (sz + i)).toInt32))), (6, .int (kdf a)), (4, .long (btf (sz + i))), (3, .int (nI i)), (0, .ref h0), (1, .int (nI a))]) hx hb dX8_hashOf_134 rfl hl (by decide) rfl (fun ls hl => ?_)
                refine lv_iinc (v := nI (i + 1)) (lv' := [(3, .int (nI (i + 1))), (2, .int ((31 * w) + ((btf (sz + i)).toInt32))), (6, .int (kdf a)), (4, .long (btf (sz + i))), (0, .ref h0), (1, .int (nI a))]) hx hb dX8_hashOf_135 hl (k := 3) rfl (nI_1 _) (by decide) rfl (fun ls hl => ?_)
                refine lv_goto (tgt := 4) hx hb dX8_hashOf_138 (by decide) ?_
                exact ih (i + 1) ((31 * w) + ((btf (sz + i)).toInt32)) H locs ls (by omega) (hh.trans (zl_hlS (show lz - i = lz - (i + 1) + 1 by omega) ((zl_hp1 (zl_d3 ed ((zl_dle g3 g4).mp c7)) es (by omega)).trans (by unfold fn_co_hashOf; rw [if_neg c9, if_neg c10, if_neg c11])))) (by omega) hZ (lv_sub hl [0, 1, 4, 5] rfl)
              · refine lv_lload hx hb dX8_hashOf_118 (lv_at hl 1 rfl) ?_
                refine lv_lload hx hb dX8_hashOf_120 (lv_at hl 1 rfl) ?_
                refine lv_bipush (v := 32) hx hb dX8_hashOf_122 (by decide) ?_
                refine lv_lushr hx hb dX8_hashOf_124 rfl ?_
                refine lv_lxor hx hb dX8_hashOf_125 ?_
                refine lv_l2i hx hb dX8_hashOf_126 rfl ?_
                refine lv_goto (tgt := 133) hx hb dX8_hashOf_127 (by decide) ?_
                refine lv_iadd hx hb dX8_hashOf_133 ?_
                refine lv_istore_n (lv' := [(2, .int ((31 * w) + (((btf (sz + i)) ^^^ (((btf (sz + i)).toUInt64 >>> ((32 : Int32).toInt64.toUInt64 &&& Int64.toUInt64 63)).toInt64)).toInt32))), (6, .int (kdf a)), (4, .long (btf (sz + i))), (3, .int (nI i)), (0, .ref h0), (1, .int (nI a))]) hx hb dX8_hashOf_134 rfl hl (by decide) rfl (fun ls hl => ?_)
                refine lv_iinc (v := nI (i + 1)) (lv' := [(3, .int (nI (i + 1))), (2, .int ((31 * w) + (((btf (sz + i)) ^^^ (((btf (sz + i)).toUInt64 >>> ((32 : Int32).toInt64.toUInt64 &&& Int64.toUInt64 63)).toInt64)).toInt32))), (6, .int (kdf a)), (4, .long (btf (sz + i))), (0, .ref h0), (1, .int (nI a))]) hx hb dX8_hashOf_135 hl (k := 3) rfl (nI_1 _) (by decide) rfl (fun ls hl => ?_)
                refine lv_goto (tgt := 4) hx hb dX8_hashOf_138 (by decide) ?_
                exact ih (i + 1) ((31 * w) + (((btf (sz + i)) ^^^ (((btf (sz + i)).toUInt64 >>> ((32 : Int32).toInt64.toUInt64 &&& Int64.toUInt64 63)).toInt64)).toInt32)) H locs ls (by omega) (hh.trans (zl_hlS (show lz - i = lz - (i + 1) + 1 by omega) ((zl_hp1 (zl_d3 ed ((zl_dle g3 g4).mp c7)) es (by omega)).trans (by unfold fn_co_hashOf; rw [if_neg c9, if_neg c10, if_pos c11])))) (by omega) hZ (lv_sub hl [0, 1, 4, 5] rfl)
          · refine lv_lload hx hb dX8_hashOf_86 (lv_at hl 1 rfl) ?_
            refine lv_lconst (v := 1) hx hb dX8_hashOf_88 (by decide) ?_
            refine zz_lcmp_ne (tgt := 99) hC dX8_hashOf_89 dX8_hashOf_90 (by decide) (fun c12 => ?_) (fun c12 => ?_)
            · refine lv_sipush (v := 1237) hx hb dX8_hashOf_99 (by decide) ?_
              refine lv_goto (tgt := 133) hx hb dX8_hashOf_102 (by decide) ?_
              refine lv_iadd hx hb dX8_hashOf_133 ?_
              refine lv_istore_n (lv' := [(2, .int ((31 * w) + 1237)), (6, .int (kdf a)), (4, .long (btf (sz + i))), (3, .int (nI i)), (0, .ref h0), (1, .int (nI a))]) hx hb dX8_hashOf_134 rfl hl (by decide) rfl (fun ls hl => ?_)
              refine lv_iinc (v := nI (i + 1)) (lv' := [(3, .int (nI (i + 1))), (2, .int ((31 * w) + 1237)), (6, .int (kdf a)), (4, .long (btf (sz + i))), (0, .ref h0), (1, .int (nI a))]) hx hb dX8_hashOf_135 hl (k := 3) rfl (nI_1 _) (by decide) rfl (fun ls hl => ?_)
              refine lv_goto (tgt := 4) hx hb dX8_hashOf_138 (by decide) ?_
              exact ih (i + 1) ((31 * w) + 1237) H locs ls (by omega) (hh.trans (zl_hlS (show lz - i = lz - (i + 1) + 1 by omega) ((zl_hp1 (zl_d3 ed ((zl_dle g3 g4).mp c7)) es (by omega)).trans (by unfold fn_co_hashOf; rw [if_pos c9, if_neg c12])))) (by omega) hZ (lv_sub hl [0, 1, 4, 5] rfl)
            · refine lv_sipush (v := 1231) hx hb dX8_hashOf_93 (by decide) ?_
              refine lv_goto (tgt := 133) hx hb dX8_hashOf_96 (by decide) ?_
              refine lv_iadd hx hb dX8_hashOf_133 ?_
              refine lv_istore_n (lv' := [(2, .int ((31 * w) + 1231)), (6, .int (kdf a)), (4, .long (btf (sz + i))), (3, .int (nI i)), (0, .ref h0), (1, .int (nI a))]) hx hb dX8_hashOf_134 rfl hl (by decide) rfl (fun ls hl => ?_)
              refine lv_iinc (v := nI (i + 1)) (lv' := [(3, .int (nI (i + 1))), (2, .int ((31 * w) + 1231)), (6, .int (kdf a)), (4, .long (btf (sz + i))), (0, .ref h0), (1, .int (nI a))]) hx hb dX8_hashOf_135 hl (k := 3) rfl (nI_1 _) (by decide) rfl (fun ls hl => ?_)
              refine lv_goto (tgt := 4) hx hb dX8_hashOf_138 (by decide) ?_
              exact ih (i + 1) ((31 * w) + 1231) H locs ls (by omega) (hh.trans (zl_hlS (show lz - i = lz - (i + 1) + 1 by omega) ((zl_hp1 (zl_d3 ed ((zl_dle g3 g4).mp c7)) es (by omega)).trans (by unfold fn_co_hashOf; rw [if_pos c9, if_pos c12])))) (by omega) hZ (lv_sub hl [0, 1, 4, 5] rfl)
        · have nc7 : ¬ dz ≤ 1 := fun zq => c7 (show nI (dz) ≤ nI (1) from (nI_leI bd8 (by decide)).mpr zq)
          refine lv_bipush (v := 31) hx hb dX8_hashOf_47 (by decide) ?_
          refine lv_iload_n hx hb dX8_hashOf_49 rfl (lv_at hl 3 rfl) ?_
          refine lv_imul hx hb dX8_hashOf_50 ?_
          refine lv_lload hx hb dX8_hashOf_51 (lv_at hl 1 rfl) ?_
          refine lv_ldc2 hx hb hown (hts _ zk_883) dX8_hashOf_53 ?_
          refine zz_lcmp_ne (tgt := 64) hC dX8_hashOf_56 dX8_hashOf_57 (by decide) (fun c13 => ?_) (fun c13 => ?_)
          · refine lv_aload_n hx hb dX8_hashOf_64 rfl (lv_at hl 4 rfl) ?_
            refine zz_get hC hZ 0 rfl zf_X8_54 rfl dX8_hashOf_65 ?_
            refine lv_lload hx hb dX8_hashOf_68 (lv_at hl 1 rfl) ?_
            refine lv_l2i hx hb dX8_hashOf_70 rfl ?_
            obtain ⟨r1, d1, hr1, hv1, hd1, hd2⟩ := (h_M.2.2 a sz lz dz h_a es el ed (by omega) (by omega) (by omega) (by omega) i (by omega)).resolve_left c13
            refine zz_topi (v := nI r1) (by rw [hv1]; exact lN_i r1) ?_
            have bd14 : r1 < 60 := by omega
            refine zz_ialdn hC hZ 6 rfl bd14 (by decide) dX8_hashOf_71 ?_
            refine lv_iadd hx hb dX8_hashOf_72 ?_
            refine lv_istore_n (lv' := [(2, .int ((31 * w) + (haf r1))), (6, .int (kdf a)), (4, .long (btf (sz + i))), (3, .int (nI i)), (0, .ref h0), (1, .int (nI a))]) hx hb dX8_hashOf_73 rfl hl (by decide) rfl (fun ls hl => ?_)
            refine lv_goto (tgt := 135) hx hb dX8_hashOf_74 (by decide) ?_
            refine lv_iinc (v := nI (i + 1)) (lv' := [(3, .int (nI (i + 1))), (2, .int ((31 * w) + (haf r1))), (6, .int (kdf a)), (4, .long (btf (sz + i))), (0, .ref h0), (1, .int (nI a))]) hx hb dX8_hashOf_135 hl (k := 3) rfl (nI_1 _) (by decide) rfl (fun ls hl => ?_)
            refine lv_goto (tgt := 4) hx hb dX8_hashOf_138 (by decide) ?_
            exact ih (i + 1) ((31 * w) + (haf r1)) H locs ls (by omega) (hh.trans (zl_hlS (show lz - i = lz - (i + 1) + 1 by omega) (zl_hp2 (zl_d4 ed (fun z => c7 ((zl_dle g3 g4).mpr z))) es (by omega) (by omega) hr1 (by rw [hv1]; exact lN_i r1) (h_H dz ed (by omega) r1 d1 hr1 hd1 (by omega) (by omega))))) (by omega) hZ (lv_sub hl [0, 1, 4, 5] rfl)
          · refine lv_iconst (v := 0) hx hb dX8_hashOf_60 (by decide) ?_
            refine lv_goto (tgt := 72) hx hb dX8_hashOf_61 (by decide) ?_
            refine lv_iadd hx hb dX8_hashOf_72 ?_
            refine lv_istore_n (lv' := [(2, .int ((31 * w) + 0)), (6, .int (kdf a)), (4, .long (btf (sz + i))), (3, .int (nI i)), (0, .ref h0), (1, .int (nI a))]) hx hb dX8_hashOf_73 rfl hl (by decide) rfl (fun ls hl => ?_)
            refine lv_goto (tgt := 135) hx hb dX8_hashOf_74 (by decide) ?_
            refine lv_iinc (v := nI (i + 1)) (lv' := [(3, .int (nI (i + 1))), (2, .int ((31 * w) + 0)), (6, .int (kdf a)), (4, .long (btf (sz + i))), (0, .ref h0), (1, .int (nI a))]) hx hb dX8_hashOf_135 hl (k := 3) rfl (nI_1 _) (by decide) rfl (fun ls hl => ?_)
            refine lv_goto (tgt := 4) hx hb dX8_hashOf_138 (by decide) ?_
            exact ih (i + 1) ((31 * w) + 0) H locs ls (by omega) (hh.trans (zl_hlS (show lz - i = lz - (i + 1) + 1 by omega) (zl_hp0 (zl_d4 ed (fun z => c7 ((zl_dle g3 g4).mpr z))) es (by omega) (by rw [c13]; exact zl_m1has (by omega))))) (by omega) hZ (lv_sub hl [0, 1, 4, 5] rfl)
  exact LP1 _ 0 1 H locs ls (by omega) (hU) (Nat.lt_succ_self _) hZ (lv_sub hl [0, 1, 2, 3] rfl)
theorem dg_X8_hash_0 : (decode cX8_hash 0 = .ok (.aload_n 0, 1)) ∧ (decode cX8_hash 1 = .ok (.iload_n 1, 1)) ∧ (decode cX8_hash 2 = .ok (.invokevirtual 200, 3)) ∧ (decode cX8_hash 5 = .ok (.ifCond .ne 10, 3)) ∧ (decode cX8_hash 8 = .ok (.aload_n 0, 1)) ∧ (decode cX8_hash 9 = .ok (.iconst 5, 1)) ∧ (decode cX8_hash 10 = .ok (.putfield 99, 3)) ∧ (decode cX8_hash 13 = .ok (.iconst 0, 1)) ∧ (decode cX8_hash 14 = .ok (.ireturn, 1)) ∧ (decode cX8_hash 15 = .ok (.aload_n 0, 1)) ∧ (decode cX8_hash 16 = .ok (.iconst 0, 1)) ∧ (decode cX8_hash 17 = .ok (.putfield 99, 3)) ∧ (decode cX8_hash 20 = .ok (.iconst 1, 1)) ∧ (decode cX8_hash 21 = .ok (.istore_n 2, 1)) ∧ (decode cX8_hash 22 = .ok (.iload_n 2, 1)) ∧ (decode cX8_hash 23 = .ok (.aload_n 0, 1)) := by decide +kernel
theorem dX8_hash_0 : decode cX8_hash 0 = .ok (.aload_n 0, 1) := dg_X8_hash_0.1
theorem dX8_hash_1 : decode cX8_hash 1 = .ok (.iload_n 1, 1) := dg_X8_hash_0.2.1
theorem dX8_hash_2 : decode cX8_hash 2 = .ok (.invokevirtual 200, 3) := dg_X8_hash_0.2.2.1
theorem dX8_hash_5 : decode cX8_hash 5 = .ok (.ifCond .ne 10, 3) := dg_X8_hash_0.2.2.2.1
theorem dX8_hash_8 : decode cX8_hash 8 = .ok (.aload_n 0, 1) := dg_X8_hash_0.2.2.2.2.1
theorem dX8_hash_9 : decode cX8_hash 9 = .ok (.iconst 5, 1) := dg_X8_hash_0.2.2.2.2.2.1
theorem dX8_hash_10 : decode cX8_hash 10 = .ok (.putfield 99, 3) := dg_X8_hash_0.2.2.2.2.2.2.1
theorem dX8_hash_13 : decode cX8_hash 13 = .ok (.iconst 0, 1) := dg_X8_hash_0.2.2.2.2.2.2.2.1
theorem dX8_hash_14 : decode cX8_hash 14 = .ok (.ireturn, 1) := dg_X8_hash_0.2.2.2.2.2.2.2.2.1
theorem dX8_hash_15 : decode cX8_hash 15 = .ok (.aload_n 0, 1) := dg_X8_hash_0.2.2.2.2.2.2.2.2.2.1
theorem dX8_hash_16 : decode cX8_hash 16 = .ok (.iconst 0, 1) := dg_X8_hash_0.2.2.2.2.2.2.2.2.2.2.1
theorem dX8_hash_17 : decode cX8_hash 17 = .ok (.putfield 99, 3) := dg_X8_hash_0.2.2.2.2.2.2.2.2.2.2.2.1
theorem dX8_hash_20 : decode cX8_hash 20 = .ok (.iconst 1, 1) := dg_X8_hash_0.2.2.2.2.2.2.2.2.2.2.2.2.1
theorem dX8_hash_21 : decode cX8_hash 21 = .ok (.istore_n 2, 1) := dg_X8_hash_0.2.2.2.2.2.2.2.2.2.2.2.2.2.1
theorem dX8_hash_22 : decode cX8_hash 22 = .ok (.iload_n 2, 1) := dg_X8_hash_0.2.2.2.2.2.2.2.2.2.2.2.2.2.2.1
theorem dX8_hash_23 : decode cX8_hash 23 = .ok (.aload_n 0, 1) := dg_X8_hash_0.2.2.2.2.2.2.2.2.2.2.2.2.2.2.2
theorem dg_X8_hash_24 : (decode cX8_hash 24 = .ok (.getfield 13, 3)) ∧ (decode cX8_hash 27 = .ok (.iload_n 1, 1)) ∧ (decode cX8_hash 28 = .ok (.iaload, 1)) ∧ (decode cX8_hash 29 = .ok (.if_icmp .ge 55, 3)) ∧ (decode cX8_hash 32 = .ok (.iconst 0, 1)) ∧ (decode cX8_hash 33 = .ok (.istore_n 3, 1)) ∧ (decode cX8_hash 34 = .ok (.iload_n 3, 1)) ∧ (decode cX8_hash 35 = .ok (.aload_n 0, 1)) ∧ (decode cX8_hash 36 = .ok (.getfield 103, 3)) ∧ (decode cX8_hash 39 = .ok (.if_icmp .ge 39, 3)) ∧ (decode cX8_hash 42 = .ok (.aload_n 0, 1)) ∧ (decode cX8_hash 43 = .ok (.getfield 54, 3)) ∧ (decode cX8_hash 46 = .ok (.iload_n 3, 1)) ∧ (decode cX8_hash 47 = .ok (.aload_n 0, 1)) ∧ (decode cX8_hash 48 = .ok (.getfield 13, 3)) ∧ (decode cX8_hash 51 = .ok (.iload_n 3, 1)) := by decide +kernel
theorem dX8_hash_24 : decode cX8_hash 24 = .ok (.getfield 13, 3) := dg_X8_hash_24.1
theorem dX8_hash_27 : decode cX8_hash 27 = .ok (.iload_n 1, 1) := dg_X8_hash_24.2.1
theorem dX8_hash_28 : decode cX8_hash 28 = .ok (.iaload, 1) := dg_X8_hash_24.2.2.1
theorem dX8_hash_29 : decode cX8_hash 29 = .ok (.if_icmp .ge 55, 3) := dg_X8_hash_24.2.2.2.1
theorem dX8_hash_32 : decode cX8_hash 32 = .ok (.iconst 0, 1) := dg_X8_hash_24.2.2.2.2.1
theorem dX8_hash_33 : decode cX8_hash 33 = .ok (.istore_n 3, 1) := dg_X8_hash_24.2.2.2.2.2.1
theorem dX8_hash_34 : decode cX8_hash 34 = .ok (.iload_n 3, 1) := dg_X8_hash_24.2.2.2.2.2.2.1
theorem dX8_hash_35 : decode cX8_hash 35 = .ok (.aload_n 0, 1) := dg_X8_hash_24.2.2.2.2.2.2.2.1
theorem dX8_hash_36 : decode cX8_hash 36 = .ok (.getfield 103, 3) := dg_X8_hash_24.2.2.2.2.2.2.2.2.1
theorem dX8_hash_39 : decode cX8_hash 39 = .ok (.if_icmp .ge 39, 3) := dg_X8_hash_24.2.2.2.2.2.2.2.2.2.1
theorem dX8_hash_42 : decode cX8_hash 42 = .ok (.aload_n 0, 1) := dg_X8_hash_24.2.2.2.2.2.2.2.2.2.2.1
theorem dX8_hash_43 : decode cX8_hash 43 = .ok (.getfield 54, 3) := dg_X8_hash_24.2.2.2.2.2.2.2.2.2.2.2.1
theorem dX8_hash_46 : decode cX8_hash 46 = .ok (.iload_n 3, 1) := dg_X8_hash_24.2.2.2.2.2.2.2.2.2.2.2.2.1
theorem dX8_hash_47 : decode cX8_hash 47 = .ok (.aload_n 0, 1) := dg_X8_hash_24.2.2.2.2.2.2.2.2.2.2.2.2.2.1
theorem dX8_hash_48 : decode cX8_hash 48 = .ok (.getfield 13, 3) := dg_X8_hash_24.2.2.2.2.2.2.2.2.2.2.2.2.2.2.1
theorem dX8_hash_51 : decode cX8_hash 51 = .ok (.iload_n 3, 1) := dg_X8_hash_24.2.2.2.2.2.2.2.2.2.2.2.2.2.2.2
theorem dg_X8_hash_52 : (decode cX8_hash 52 = .ok (.iaload, 1)) ∧ (decode cX8_hash 53 = .ok (.iload_n 2, 1)) ∧ (decode cX8_hash 54 = .ok (.if_icmp .ne 11, 3)) ∧ (decode cX8_hash 57 = .ok (.aload_n 0, 1)) ∧ (decode cX8_hash 58 = .ok (.iload_n 3, 1)) ∧ (decode cX8_hash 59 = .ok (.invokevirtual 245, 3)) ∧ (decode cX8_hash 62 = .ok (.goto 9, 3)) ∧ (decode cX8_hash 65 = .ok (.aload_n 0, 1)) ∧ (decode cX8_hash 66 = .ok (.getfield 54, 3)) ∧ (decode cX8_hash 69 = .ok (.iload_n 3, 1)) ∧ (decode cX8_hash 70 = .ok (.iaload, 1)) ∧ (decode cX8_hash 71 = .ok (.iastore, 1)) ∧ (decode cX8_hash 72 = .ok (.iinc 3 1, 3)) ∧ (decode cX8_hash 75 = .ok (.goto (-41), 3)) ∧ (decode cX8_hash 78 = .ok (.iinc 2 1, 3)) ∧ (decode cX8_hash 81 = .ok (.goto (-59), 3)) := by decide +kernel
theorem dX8_hash_52 : decode cX8_hash 52 = .ok (.iaload, 1) := dg_X8_hash_52.1
theorem dX8_hash_53 : decode cX8_hash 53 = .ok (.iload_n 2, 1) := dg_X8_hash_52.2.1
theorem dX8_hash_54 : decode cX8_hash 54 = .ok (.if_icmp .ne 11, 3) := dg_X8_hash_52.2.2.1
theorem dX8_hash_57 : decode cX8_hash 57 = .ok (.aload_n 0, 1) := dg_X8_hash_52.2.2.2.1
theorem dX8_hash_58 : decode cX8_hash 58 = .ok (.iload_n 3, 1) := dg_X8_hash_52.2.2.2.2.1
theorem dX8_hash_59 : decode cX8_hash 59 = .ok (.invokevirtual 245, 3) := dg_X8_hash_52.2.2.2.2.2.1
theorem dX8_hash_62 : decode cX8_hash 62 = .ok (.goto 9, 3) := dg_X8_hash_52.2.2.2.2.2.2.1
theorem dX8_hash_65 : decode cX8_hash 65 = .ok (.aload_n 0, 1) := dg_X8_hash_52.2.2.2.2.2.2.2.1
theorem dX8_hash_66 : decode cX8_hash 66 = .ok (.getfield 54, 3) := dg_X8_hash_52.2.2.2.2.2.2.2.2.1
theorem dX8_hash_69 : decode cX8_hash 69 = .ok (.iload_n 3, 1) := dg_X8_hash_52.2.2.2.2.2.2.2.2.2.1
theorem dX8_hash_70 : decode cX8_hash 70 = .ok (.iaload, 1) := dg_X8_hash_52.2.2.2.2.2.2.2.2.2.2.1
theorem dX8_hash_71 : decode cX8_hash 71 = .ok (.iastore, 1) := dg_X8_hash_52.2.2.2.2.2.2.2.2.2.2.2.1
theorem dX8_hash_72 : decode cX8_hash 72 = .ok (.iinc 3 1, 3) := dg_X8_hash_52.2.2.2.2.2.2.2.2.2.2.2.2.1
theorem dX8_hash_75 : decode cX8_hash 75 = .ok (.goto (-41), 3) := dg_X8_hash_52.2.2.2.2.2.2.2.2.2.2.2.2.2.1
theorem dX8_hash_78 : decode cX8_hash 78 = .ok (.iinc 2 1, 3) := dg_X8_hash_52.2.2.2.2.2.2.2.2.2.2.2.2.2.2.1
theorem dX8_hash_81 : decode cX8_hash 81 = .ok (.goto (-59), 3) := dg_X8_hash_52.2.2.2.2.2.2.2.2.2.2.2.2.2.2.2
theorem dg_X8_hash_84 : (decode cX8_hash 84 = .ok (.aload_n 0, 1)) ∧ (decode cX8_hash 85 = .ok (.iload_n 1, 1)) ∧ (decode cX8_hash 86 = .ok (.invokevirtual 245, 3)) ∧ (decode cX8_hash 89 = .ok (.ireturn, 1)) := by decide +kernel
theorem dX8_hash_84 : decode cX8_hash 84 = .ok (.aload_n 0, 1) := dg_X8_hash_84.1
theorem dX8_hash_85 : decode cX8_hash 85 = .ok (.iload_n 1, 1) := dg_X8_hash_84.2.1
theorem dX8_hash_86 : decode cX8_hash 86 = .ok (.invokevirtual 245, 3) := dg_X8_hash_84.2.2.1
theorem dX8_hash_89 : decode cX8_hash 89 = .ok (.ireturn, 1) := dg_X8_hash_84.2.2.2
theorem zk_1028 : Cond.methodLink RX8 245 yX8_hashOf ∈ zz_w := zz_in (List.mem_append_right _ (List.mem_append_right _ (List.mem_append_right _ (List.mem_append_right _ (List.mem_append_right _ (List.mem_of_getElem? (i := 68) (by decide +kernel))))))) rfl
set_option maxRecDepth 20000 in
theorem zk_1031 : Cond.code yX8_hashOf cX8_hashOf 7 (some .int) ∈ zz_w := zz_in (List.mem_append_right _ (List.mem_append_right _ (List.mem_append_right _ (List.mem_append_right _ (List.mem_append_right _ (List.mem_of_getElem? (i := 71) (rfl))))))) rfl
theorem zk_1030 : Cond.instanceMethod yX8_hashOf ∈ zz_w := zz_in (List.mem_append_right _ (List.mem_append_right _ (List.mem_append_right _ (List.mem_append_right _ (List.mem_append_right _ (List.mem_of_getElem? (i := 70) (by decide +kernel))))))) rfl
theorem zs_28 : Cond.selects RX8 yX8_hashOf yX8_hashOf ∈ zz_w := zz_in (List.mem_append_left _ (List.mem_of_getElem? (i := 28) (by decide +kernel))) rfl
theorem zc_X8_245 : zz_cV RX8 245 yX8_hashOf cX8_hashOf 7 (some .int) 1 := ⟨⟨zk_1028, zk_1031, zk_7, by decide, by decide, by decide +kernel⟩, zk_1030, zs_28⟩
def fn_my_hash2 (na : Nat) (ne : Nat) (kdf : Nat → Int32) (dpf : Nat → Int32) (lnf : Nat → Int32) (saf : Nat → Int32) (btf : Nat → Int64) (x1 : Int32) : Int32 := (if (fn_cm_isArray (nI na) x1) = 0 then 0 else (sp_hS na kdf dpf saf lnf btf x1.toNatClampNeg))
abbrev rm_my_hash2 : Room := { frames := 2, cells := 0, slots := 0, locals := 46 }
abbrev po_my_hash2 (g : zz_G) (h0 : Nat) (a_kindOf : Nat) (a_depthOf : Nat) (a_lengthOf : Nat) (a_classOf : Nat) (a_baseOf : Nat) (a_bits : Nat) (a_pinned : Nat) (a_lengths : Nat) (a_stackArray : Nat) (a_stackOther : Nat) (a_stackAt : Nat) (a_path : Nat) (a_held : Nat) (a_alike : Nat) (a_hashes : Nat) (a_decisionArray : Nat) (a_decisionPlace : Nat) (a_candidateMany : Nat) (a_candidates : Nat) (a_ruleSort : Nat) (a_ruleArray : Nat) (a_ruleWeight : Nat) (a_ruleLow : Nat) (a_ruleHigh : Nat) (a_chosen : Nat) (a_bestOf : Nat) (a_markElements : Nat) (a_markBits : Nat) (a_markPins : Nat) (na : Nat) (ne : Nat) (nd : Nat) (nr : Nat) (nm : Nat) (i_code : Int32) (i_lastArray : Int32) (i_lastPlace : Int32) (kdf : Nat → Int32) (dpf : Nat → Int32) (lnf : Nat → Int32) (saf : Nat → Int32) (btf : Nat → Int64) (haf : Nat → Int32) (x1 : Int32) (h_M : zz_MI na ne dpf saf lnf btf) : Int32 → va_W → Prop := fun (r : Int32) (u : va_W) => ∃ (k_c : Int32) (k_a : Int32) (k_p : Int32) (ha2 : Nat → Int32), r = fn_my_hash2 na ne kdf dpf lnf saf btf x1 ∧ u = [cw_k7 h0 (nI na) (nI ne) a_kindOf a_depthOf a_lengthOf a_classOf a_baseOf a_bits a_pinned k_c a_lengths a_stackArray a_stackOther a_stackAt k_a k_p a_path a_held a_alike a_hashes (nI nd) a_decisionArray a_decisionPlace a_candidateMany a_candidates (nI nr) a_ruleSort a_ruleArray a_ruleWeight a_ruleLow a_ruleHigh a_chosen a_bestOf (nI nm) a_markElements a_markBits a_markPins, cw_i g a_kindOf 60 kdf, cw_i g a_depthOf 60 dpf, cw_i g a_lengthOf 60 lnf, cw_i g a_baseOf 60 saf, cw_l g a_bits 4000 btf, cw_i g a_hashes 60 ha2]
set_option maxHeartbeats 4000000 in
set_option maxRecDepth 100000 in
theorem my_hash2 (g : zz_G) (h0 : Nat) (a_kindOf : Nat) (a_depthOf : Nat) (a_lengthOf : Nat) (a_classOf : Nat) (a_baseOf : Nat) (a_bits : Nat) (a_pinned : Nat) (a_lengths : Nat) (a_stackArray : Nat) (a_stackOther : Nat) (a_stackAt : Nat) (a_path : Nat) (a_held : Nat) (a_alike : Nat) (a_hashes : Nat) (a_decisionArray : Nat) (a_decisionPlace : Nat) (a_candidateMany : Nat) (a_candidates : Nat) (a_ruleSort : Nat) (a_ruleArray : Nat) (a_ruleWeight : Nat) (a_ruleLow : Nat) (a_ruleHigh : Nat) (a_chosen : Nat) (a_bestOf : Nat) (a_markElements : Nat) (a_markBits : Nat) (a_markPins : Nat) (na : Nat) (ne : Nat) (nd : Nat) (nr : Nat) (nm : Nat) (i_code : Int32) (i_lastArray : Int32) (i_lastPlace : Int32) (kdf : Nat → Int32) (dpf : Nat → Int32) (lnf : Nat → Int32) (saf : Nat → Int32) (btf : Nat → Int64) (haf : Nat → Int32) (x1 : Int32) (h_M : zz_MI na ne dpf saf lnf btf) : zz_I g yX8_hash (.code yX8_hash cX8_hash 4 (some .int)) rm_my_hash2 [.ref h0, .int x1] [cw_k7 h0 (nI na) (nI ne) a_kindOf a_depthOf a_lengthOf a_classOf a_baseOf a_bits a_pinned i_code a_lengths a_stackArray a_stackOther a_stackAt i_lastArray i_lastPlace a_path a_held a_alike a_hashes (nI nd) a_decisionArray a_decisionPlace a_candidateMany a_candidates (nI nr) a_ruleSort a_ruleArray a_ruleWeight a_ruleLow a_ruleHigh a_chosen a_bestOf (nI nm) a_markElements a_markBits a_markPins, cw_i g a_kindOf 60 kdf, cw_i g a_depthOf 60 dpf, cw_i g a_lengthOf 60 lnf, cw_i g a_baseOf 60 saf, cw_l g a_bits 4000 btf, cw_i g a_hashes 60 haf] (po_my_hash2 g h0 a_kindOf a_depthOf a_lengthOf a_classOf a_baseOf a_bits a_pinned a_lengths a_stackArray a_stackOther a_stackAt a_path a_held a_alike a_hashes a_decisionArray a_decisionPlace a_candidateMany a_candidates a_ruleSort a_ruleArray a_ruleWeight a_ruleLow a_ruleHigh a_chosen a_bestOf a_markElements a_markBits a_markPins na ne nd nr nm i_code i_lastArray i_lastPlace kdf dpf lnf saf btf haf x1 h_M) := by
  refine zz_I.intro (own := RX8) (cc := cX8_hash) (nL := 4) (by decide) rfl (Nat.le_of_ble_eq_true rfl) ?_
  intro p l e s m args below meth c A H locs ls hC hnm hs hZ hl
  obtain ⟨hx, hb, hml, hown, hts, hr, hlocks, hK⟩ := id hC
  have hl : lv_has ls 4 [(0, .ref h0), (1, .int x1)] := hl
  have hZ : zz_Z g A s.heap [cw_k7 h0 (nI na) (nI ne) a_kindOf a_depthOf a_lengthOf a_classOf a_baseOf a_bits a_pinned i_code a_lengths a_stackArray a_stackOther a_stackAt i_lastArray i_lastPlace a_path a_held a_alike a_hashes (nI nd) a_decisionArray a_decisionPlace a_candidateMany a_candidates (nI nr) a_ruleSort a_ruleArray a_ruleWeight a_ruleLow a_ruleHigh a_chosen a_bestOf (nI nm) a_markElements a_markBits a_markPins, cw_i g a_kindOf 60 kdf, cw_i g a_depthOf 60 dpf, cw_i g a_lengthOf 60 lnf, cw_i g a_baseOf 60 saf, cw_l g a_bits 4000 btf, cw_i g a_hashes 60 haf] H locs := hZ
  have h_S := h_M.1
  have hna := h_S.1
  have hne := h_S.2.1
  refine lv_aload_n hx hb dX8_hash_0 rfl (lv_at hl 0 rfl) ?_
  refine lv_iload_n hx hb dX8_hash_1 rfl (lv_at hl 1 rfl) ?_
  refine zz_iV (As := [.int x1]) (wc := [cw_k7 h0 (nI na) (nI ne) a_kindOf a_depthOf a_lengthOf a_classOf a_baseOf a_bits a_pinned i_code a_lengths a_stackArray a_stackOther a_stackAt i_lastArray i_lastPlace a_path a_held a_alike a_hashes (nI nd) a_decisionArray a_decisionPlace a_candidateMany a_candidates (nI nr) a_ruleSort a_ruleArray a_ruleWeight a_ruleLow a_ruleHigh a_chosen a_bestOf (nI nm) a_markElements a_markBits a_markPins]) (wr := [cw_i g a_kindOf 60 kdf, cw_i g a_depthOf 60 dpf, cw_i g a_lengthOf 60 lnf, cw_i g a_baseOf 60 saf, cw_l g a_bits 4000 btf, cw_i g a_hashes 60 haf]) (rest := []) hC hZ hs hl zc_X8_200 (cm_isArray g h0 a_kindOf a_depthOf a_lengthOf a_classOf a_baseOf a_bits a_pinned a_lengths a_stackArray a_stackOther a_stackAt a_path a_held a_alike a_hashes a_decisionArray a_decisionPlace a_candidateMany a_candidates a_ruleSort a_ruleArray a_ruleWeight a_ruleLow a_ruleHigh a_chosen a_bestOf a_markElements a_markBits a_markPins (nI na) (nI ne) i_code i_lastArray i_lastPlace (nI nd) (nI nr) (nI nm) x1) [0] [1, 2, 3, 4, 5, 6] rfl rfl (by decide +kernel) (ci := 7) (q0 := 0) rfl rfl rfl rfl (Nat.le_of_ble_eq_true rfl) ⟨⟨Nat.le_of_ble_eq_true rfl, Nat.le_of_ble_eq_true rfl⟩, Nat.le_of_ble_eq_true rfl, Nat.le_of_ble_eq_true rfl⟩ dX8_hash_2 (fun r1 u2 H locs hp hZ => ?_)
  obtain ⟨rfl, rfl⟩ := hp
  have hZ : zz_Z g A s.heap [cw_i g a_kindOf 60 kdf, cw_i g a_depthOf 60 dpf, cw_i g a_lengthOf 60 lnf, cw_i g a_baseOf 60 saf, cw_l g a_bits 4000 btf, cw_i g a_hashes 60 haf, cw_k7 h0 (nI na) (nI ne) a_kindOf a_depthOf a_lengthOf a_classOf a_baseOf a_bits a_pinned i_code a_lengths a_stackArray a_stackOther a_stackAt i_lastArray i_lastPlace a_path a_held a_alike a_hashes (nI nd) a_decisionArray a_decisionPlace a_candidateMany a_candidates (nI nr) a_ruleSort a_ruleArray a_ruleWeight a_ruleLow a_ruleHigh a_chosen a_bestOf (nI nm) a_markElements a_markBits a_markPins] H locs := hZ
  refine lv_if_ne (tgt := 15) hx hb dX8_hash_5 (by decide) (fun c3 => ?_) (fun c3 => ?_)
  · obtain ⟨a1, ha1, ea1⟩ := zl_isA (by omega) c3
    have hl : lv_has ls 4 [(0, .ref h0), (1, .int (nI a1))] := by rw [← ea1]; exact hl
    have bd4 : a1 < 2 ^ 31 := by omega
    have d_a1 : x1.toNatClampNeg = a1 := by rw [ea1]; exact nI_clamp bd4
    obtain ⟨sz1, lz1, dz1, es1, el1, ed1, g11, g21, g31, g41⟩ := h_S.2.2 a1 ha1
    have bd5 : sz1 < 2 ^ 31 := by omega
    have d_sz1 : (saf a1).toNatClampNeg = sz1 := by rw [es1]; exact nI_clamp bd5
    have bd6 : lz1 < 2 ^ 31 := by omega
    have d_lz1 : (lnf a1).toNatClampNeg = lz1 := by rw [el1]; exact nI_clamp bd6
    have bd7 : dz1 < 2 ^ 31 := by omega
    have d_dz1 : (dpf a1).toNatClampNeg = dz1 := by rw [ed1]; exact nI_clamp bd7
    refine lv_aload_n hx hb dX8_hash_15 rfl (lv_at hl 0 rfl) ?_
    refine lv_iconst (v := 0) hx hb dX8_hash_16 (by decide) ?_
    refine zz_put hC hZ 6 rfl zu_X8_99 (Nat.le_of_ble_eq_true rfl) dX8_hash_17 (fun H locs hZ => ?_)
    have hZ : zz_Z g A s.heap [cw_i g a_kindOf 60 kdf, cw_i g a_depthOf 60 dpf, cw_i g a_lengthOf 60 lnf, cw_i g a_baseOf 60 saf, cw_l g a_bits 4000 btf, cw_i g a_hashes 60 haf, cw_k7 h0 (nI na) (nI ne) a_kindOf a_depthOf a_lengthOf a_classOf a_baseOf a_bits a_pinned 0 a_lengths a_stackArray a_stackOther a_stackAt i_lastArray i_lastPlace a_path a_held a_alike a_hashes (nI nd) a_decisionArray a_decisionPlace a_candidateMany a_candidates (nI nr) a_ruleSort a_ruleArray a_ruleWeight a_ruleLow a_ruleHigh a_chosen a_bestOf (nI nm) a_markElements a_markBits a_markPins] H locs := hZ
    refine lv_iconst (v := 1) hx hb dX8_hash_20 (by decide) ?_
    refine lv_istore_n (lv' := [(2, .int 1), (0, .ref h0), (1, .int (nI a1))]) hx hb dX8_hash_21 rfl hl (by decide) rfl (fun ls hl => ?_)
    have LP8 : ∀ (N8 : Nat) (i1 : Nat) (ha1 : Nat → Int32) (H : Heap) (locs : List Loc) (ls : Array Slot), (1 ≤ i1 ∧ i1 ≤ 4) → (zz_HT na (sp_hS na kdf dpf saf lnf btf) dpf i1 ha1) → (4 - i1) < N8 → zz_Z g A s.heap [cw_i g a_kindOf 60 kdf, cw_i g a_depthOf 60 dpf, cw_i g a_lengthOf 60 lnf, cw_i g a_baseOf 60 saf, cw_l g a_bits 4000 btf, cw_i g a_hashes 60 ha1, cw_k7 h0 (nI na) (nI ne) a_kindOf a_depthOf a_lengthOf a_classOf a_baseOf a_bits a_pinned 0 a_lengths a_stackArray a_stackOther a_stackAt i_lastArray i_lastPlace a_path a_held a_alike a_hashes (nI nd) a_decisionArray a_decisionPlace a_candidateMany a_candidates (nI nr) a_ruleSort a_ruleArray a_ruleWeight a_ruleLow a_ruleHigh a_chosen a_bestOf (nI nm) a_markElements a_markBits a_markPins] H locs → lv_has ls 4 [(2, .int (nI i1)), (0, .ref h0), (1, .int (nI a1))] → W p l e rm_my_hash2 s m args below meth c H locs 0 0 (zz_QI below g args s A rm_my_hash2.cells rm_my_hash2.slots (po_my_hash2 g h0 a_kindOf a_depthOf a_lengthOf a_classOf a_baseOf a_bits a_pinned a_lengths a_stackArray a_stackOther a_stackAt a_path a_held a_alike a_hashes a_decisionArray a_decisionPlace a_candidateMany a_candidates a_ruleSort a_ruleArray a_ruleWeight a_ruleLow a_ruleHigh a_chosen a_bestOf a_markElements a_markBits a_markPins na ne nd nr nm i_code i_lastArray i_lastPlace kdf dpf lnf saf btf haf x1 h_M)) (F0 m 22 ls []) := by
      intro N8
      induction N8 with
      | zero =>
        intro i1 ha1 H locs ls h1 ht1 hN8
        exact absurd hN8 (Nat.not_lt_zero _)
      | succ N8 ih8 =>
        intro i1 ha1 H locs ls h1 ht1 hN8 hZ hl
        refine lv_iload_n hx hb dX8_hash_22 rfl (lv_at hl 0 rfl) ?_
        refine lv_aload_n hx hb dX8_hash_23 rfl (lv_at hl 1 rfl) ?_
        refine zz_get hC hZ 6 rfl zf_X8_13 rfl dX8_hash_24 ?_
        refine lv_iload_n hx hb dX8_hash_27 rfl (lv_at hl 2 rfl) ?_
        have bd9 : a1 < 60 := by omega
        refine zz_ialdn hC hZ 1 rfl bd9 (by decide) dX8_hash_28 ?_
        refine zz_topi (v := nI dz1) (ed1) ?_
        have bd11 : i1 < 2 ^ 31 := by omega
        refine lv_icmp_ge (tgt := 84) hx hb dX8_hash_29 (by decide) (fun c10 => ?_) (fun c10 => ?_)
        · have nc10 : dz1 ≤ i1 := (nI_leI bd7 bd11).mp (show nI (dz1) ≤ nI (i1) from c10)
          refine lv_aload_n hx hb dX8_hash_84 rfl (lv_at hl 1 rfl) ?_
          refine lv_iload_n hx hb dX8_hash_85 rfl (lv_at hl 2 rfl) ?_
          refine zz_iV (As := [.int (nI a1)]) (wc := [cw_k7 h0 (nI na) (nI ne) a_kindOf a_depthOf a_lengthOf a_classOf a_baseOf a_bits a_pinned 0 a_lengths a_stackArray a_stackOther a_stackAt i_lastArray i_lastPlace a_path a_held a_alike a_hashes (nI nd) a_decisionArray a_decisionPlace a_candidateMany a_candidates (nI nr) a_ruleSort a_ruleArray a_ruleWeight a_ruleLow a_ruleHigh a_chosen a_bestOf (nI nm) a_markElements a_markBits a_markPins, cw_i g a_kindOf 60 kdf, cw_i g a_depthOf 60 dpf, cw_i g a_lengthOf 60 lnf, cw_i g a_baseOf 60 saf, cw_l g a_bits 4000 btf, cw_i g a_hashes 60 ha1]) (wr := []) (rest := []) hC hZ hs hl zc_X8_245 (cm_hashOf2 g h0 a_kindOf a_depthOf a_lengthOf a_classOf a_baseOf a_bits a_pinned a_lengths a_stackArray a_stackOther a_stackAt a_path a_held a_alike a_hashes a_decisionArray a_decisionPlace a_candidateMany a_candidates a_ruleSort a_ruleArray a_ruleWeight a_ruleLow a_ruleHigh a_chosen a_bestOf a_markElements a_markBits a_markPins na ne nd nr nm 0 i_lastArray i_lastPlace kdf dpf lnf saf btf ha1 a1 (h_M) (by omega) (fun d ed hd => ht1.mono (by have := (nI_eq (by omega) (by omega)).mp (ed.symm.trans ed1); omega))) [6, 0, 1, 2, 3, 4, 5] [] rfl rfl (by decide +kernel) (ci := 7) (q0 := 0) rfl rfl rfl rfl (Nat.le_of_ble_eq_true rfl) ⟨⟨Nat.le_of_ble_eq_true rfl, Nat.le_of_ble_eq_true rfl⟩, Nat.le_of_ble_eq_true rfl, Nat.le_of_ble_eq_true rfl⟩ dX8_hash_86 (fun r12 u13 H locs hp hZ => ?_)
          obtain ⟨f14, rfl⟩ := hp
          have hZ : zz_Z g A s.heap [cw_k7 h0 (nI na) (nI ne) a_kindOf a_depthOf a_lengthOf a_classOf a_baseOf a_bits a_pinned 0 a_lengths a_stackArray a_stackOther a_stackAt i_lastArray i_lastPlace a_path a_held a_alike a_hashes (nI nd) a_decisionArray a_decisionPlace a_candidateMany a_candidates (nI nr) a_ruleSort a_ruleArray a_ruleWeight a_ruleLow a_ruleHigh a_chosen a_bestOf (nI nm) a_markElements a_markBits a_markPins, cw_i g a_kindOf 60 kdf, cw_i g a_depthOf 60 dpf, cw_i g a_lengthOf 60 lnf, cw_i g a_baseOf 60 saf, cw_l g a_bits 4000 btf, cw_i g a_hashes 60 ha1] H locs := hZ
          have d_r12 : sp_hS na kdf dpf saf lnf btf a1 = r12 := f14.symm
          exact zz_iret hC hZ (⟨0, i_lastArray, i_lastPlace, ha1, by refine Eq.symm ?_; rw [fn_my_hash2]; refine (if_neg (by (try simp only [d_a1, d_sz1, d_lz1, d_dz1, d_r12]); exact c3)).trans ?_; first | (simp only [d_a1, d_sz1, d_lz1, d_dz1, d_r12]; done) | rfl, rfl⟩) (Nat.le_of_ble_eq_true rfl) (Nat.le_of_ble_eq_true rfl) dX8_hash_89
        · have nc10 : ¬ dz1 ≤ i1 := fun zq => c10 (show nI (dz1) ≤ nI (i1) from (nI_leI bd7 bd11).mpr zq)
          refine lv_iconst (v := 0) hx hb dX8_hash_32 (by decide) ?_
          refine lv_istore_n (lv' := [(3, .int 0), (2, .int (nI i1)), (0, .ref h0), (1, .int (nI a1))]) hx hb dX8_hash_33 rfl hl (by decide) rfl (fun ls hl => ?_)
          have LP15 : ∀ (N15 : Nat) (i2 : Nat) (ha2 : Nat → Int32) (H : Heap) (locs : List Loc) (ls : Array Slot), (i2 ≤ na) → (zz_HT na (sp_hS na kdf dpf saf lnf btf) dpf i1 ha2) → (∀ x, x < i2 → dpf x = nI i1 → ha2 x = sp_hS na kdf dpf saf lnf btf x) → (na - i2) < N15 → zz_Z g A s.heap [cw_i g a_kindOf 60 kdf, cw_i g a_depthOf 60 dpf, cw_i g a_lengthOf 60 lnf, cw_i g a_baseOf 60 saf, cw_l g a_bits 4000 btf, cw_i g a_hashes 60 ha2, cw_k7 h0 (nI na) (nI ne) a_kindOf a_depthOf a_lengthOf a_classOf a_baseOf a_bits a_pinned 0 a_lengths a_stackArray a_stackOther a_stackAt i_lastArray i_lastPlace a_path a_held a_alike a_hashes (nI nd) a_decisionArray a_decisionPlace a_candidateMany a_candidates (nI nr) a_ruleSort a_ruleArray a_ruleWeight a_ruleLow a_ruleHigh a_chosen a_bestOf (nI nm) a_markElements a_markBits a_markPins] H locs → lv_has ls 4 [(3, .int (nI i2)), (2, .int (nI i1)), (0, .ref h0), (1, .int (nI a1))] → W p l e rm_my_hash2 s m args below meth c H locs 0 0 (zz_QI below g args s A rm_my_hash2.cells rm_my_hash2.slots (po_my_hash2 g h0 a_kindOf a_depthOf a_lengthOf a_classOf a_baseOf a_bits a_pinned a_lengths a_stackArray a_stackOther a_stackAt a_path a_held a_alike a_hashes a_decisionArray a_decisionPlace a_candidateMany a_candidates a_ruleSort a_ruleArray a_ruleWeight a_ruleLow a_ruleHigh a_chosen a_bestOf a_markElements a_markBits a_markPins na ne nd nr nm i_code i_lastArray i_lastPlace kdf dpf lnf saf btf haf x1 h_M)) (F0 m 34 ls []) := by
            intro N15
            induction N15 with
            | zero =>
              intro i2 ha2 H locs ls h2 ht2 ht3 hN15
              exact absurd hN15 (Nat.not_lt_zero _)
            | succ N15 ih15 =>
              intro i2 ha2 H locs ls h2 ht2 ht3 hN15 hZ hl
              refine lv_iload_n hx hb dX8_hash_34 rfl (lv_at hl 0 rfl) ?_
              refine lv_aload_n hx hb dX8_hash_35 rfl (lv_at hl 2 rfl) ?_
              refine zz_get hC hZ 6 rfl zf_X8_103 rfl dX8_hash_36 ?_
              have bd17 : na < 2 ^ 31 := by omega
              have bd18 : i2 < 2 ^ 31 := by omega
              refine lv_icmp_ge (tgt := 78) hx hb dX8_hash_39 (by decide) (fun c16 => ?_) (fun c16 => ?_)
              · have nc16 : na ≤ i2 := (nI_leI bd17 bd18).mp (show nI (na) ≤ nI (i2) from c16)
                refine lv_iinc (v := nI (i1 + 1)) (lv' := [(2, .int (nI (i1 + 1))), (3, .int (nI i2)), (0, .ref h0), (1, .int (nI a1))]) hx hb dX8_hash_78 hl (k := 1) rfl (nI_1 _) (by decide) rfl (fun ls hl => ?_)
                refine lv_goto (tgt := 22) hx hb dX8_hash_81 (by decide) ?_
                exact ih8 (i1 + 1) ha2 H locs ls (by omega) (ht2.next (by omega) (fun x hx ex => ht3 x (by omega) ex)) (by omega) hZ (lv_sub hl [0, 2, 3] rfl)
              · have nc16 : ¬ na ≤ i2 := fun zq => c16 (show nI (na) ≤ nI (i2) from (nI_leI bd17 bd18).mpr zq)
                refine lv_aload_n hx hb dX8_hash_42 rfl (lv_at hl 2 rfl) ?_
                refine zz_get hC hZ 6 rfl zf_X8_54 rfl dX8_hash_43 ?_
                refine lv_iload_n hx hb dX8_hash_46 rfl (lv_at hl 0 rfl) ?_
                refine lv_aload_n hx hb dX8_hash_47 rfl (lv_at hl 2 rfl) ?_
                refine zz_get hC hZ 6 rfl zf_X8_13 rfl dX8_hash_48 ?_
                refine lv_iload_n hx hb dX8_hash_51 rfl (lv_at hl 0 rfl) ?_
                have bd19 : i2 < 60 := by omega
                refine zz_ialdn hC hZ 1 rfl bd19 (by decide) dX8_hash_52 ?_
                refine lv_iload_n hx hb dX8_hash_53 rfl (lv_at hl 1 rfl) ?_
                refine lv_icmp_ne (tgt := 65) hx hb dX8_hash_54 (by decide) (fun c20 => ?_) (fun c20 => ?_)
                · refine lv_aload_n hx hb dX8_hash_65 rfl (lv_at hl 2 rfl) ?_
                  refine zz_get hC hZ 6 rfl zf_X8_54 rfl dX8_hash_66 ?_
                  refine lv_iload_n hx hb dX8_hash_69 rfl (lv_at hl 0 rfl) ?_
                  refine zz_ialdn hC hZ 5 rfl bd19 (by decide) dX8_hash_70 ?_
                  refine zz_iastn hC hZ 5 rfl bd19 (by decide) dX8_hash_71 (fun H locs hZ => ?_)
                  have hZ : zz_Z g A s.heap [cw_i g a_kindOf 60 kdf, cw_i g a_depthOf 60 dpf, cw_i g a_lengthOf 60 lnf, cw_i g a_baseOf 60 saf, cw_l g a_bits 4000 btf, cw_i g a_hashes 60 (upd ha2 i2 (ha2 i2)), cw_k7 h0 (nI na) (nI ne) a_kindOf a_depthOf a_lengthOf a_classOf a_baseOf a_bits a_pinned 0 a_lengths a_stackArray a_stackOther a_stackAt i_lastArray i_lastPlace a_path a_held a_alike a_hashes (nI nd) a_decisionArray a_decisionPlace a_candidateMany a_candidates (nI nr) a_ruleSort a_ruleArray a_ruleWeight a_ruleLow a_ruleHigh a_chosen a_bestOf (nI nm) a_markElements a_markBits a_markPins] H locs := hZ
                  refine lv_iinc (v := nI (i2 + 1)) (lv' := [(3, .int (nI (i2 + 1))), (2, .int (nI i1)), (0, .ref h0), (1, .int (nI a1))]) hx hb dX8_hash_72 hl (k := 0) rfl (nI_1 _) (by decide) rfl (fun ls hl => ?_)
                  refine lv_goto (tgt := 34) hx hb dX8_hash_75 (by decide) ?_
                  exact ih15 (i2 + 1) (upd ha2 i2 (ha2 i2)) H locs ls (by omega) (by rw [zl_updI]; exact ht2) (fun x hx ex => by by_cases q : x = i2; (rw [q] at ex; exact absurd ex c20); (rw [pk_un q]; exact ht3 x (by omega) ex)) (by omega) hZ (lv_sub hl [0, 1, 2, 3] rfl)
                · refine lv_aload_n hx hb dX8_hash_57 rfl (lv_at hl 2 rfl) ?_
                  refine lv_iload_n hx hb dX8_hash_58 rfl (lv_at hl 0 rfl) ?_
                  refine zz_iV (As := [.int (nI i2)]) (wc := [cw_k7 h0 (nI na) (nI ne) a_kindOf a_depthOf a_lengthOf a_classOf a_baseOf a_bits a_pinned 0 a_lengths a_stackArray a_stackOther a_stackAt i_lastArray i_lastPlace a_path a_held a_alike a_hashes (nI nd) a_decisionArray a_decisionPlace a_candidateMany a_candidates (nI nr) a_ruleSort a_ruleArray a_ruleWeight a_ruleLow a_ruleHigh a_chosen a_bestOf (nI nm) a_markElements a_markBits a_markPins, cw_i g a_kindOf 60 kdf, cw_i g a_depthOf 60 dpf, cw_i g a_lengthOf 60 lnf, cw_i g a_baseOf 60 saf, cw_l g a_bits 4000 btf, cw_i g a_hashes 60 ha2]) (wr := []) (rest := [.int (nI i2), .ref a_hashes]) hC hZ hs hl zc_X8_245 (cm_hashOf2 g h0 a_kindOf a_depthOf a_lengthOf a_classOf a_baseOf a_bits a_pinned a_lengths a_stackArray a_stackOther a_stackAt a_path a_held a_alike a_hashes a_decisionArray a_decisionPlace a_candidateMany a_candidates a_ruleSort a_ruleArray a_ruleWeight a_ruleLow a_ruleHigh a_chosen a_bestOf a_markElements a_markBits a_markPins na ne nd nr nm 0 i_lastArray i_lastPlace kdf dpf lnf saf btf ha2 i2 (h_M) (by omega) (fun d ed hd => ht2.mono (by have := (nI_eq (by omega) (by omega)).mp (ed.symm.trans c20); omega))) [6, 0, 1, 2, 3, 4, 5] [] rfl rfl (by decide +kernel) (ci := 7) (q0 := 0) rfl rfl rfl rfl (Nat.le_of_ble_eq_true rfl) ⟨⟨Nat.le_of_ble_eq_true rfl, Nat.le_of_ble_eq_true rfl⟩, Nat.le_of_ble_eq_true rfl, Nat.le_of_ble_eq_true rfl⟩ dX8_hash_59 (fun r21 u22 H locs hp hZ => ?_)
                  obtain ⟨f23, rfl⟩ := hp
                  have hZ : zz_Z g A s.heap [cw_k7 h0 (nI na) (nI ne) a_kindOf a_depthOf a_lengthOf a_classOf a_baseOf a_bits a_pinned 0 a_lengths a_stackArray a_stackOther a_stackAt i_lastArray i_lastPlace a_path a_held a_alike a_hashes (nI nd) a_decisionArray a_decisionPlace a_candidateMany a_candidates (nI nr) a_ruleSort a_ruleArray a_ruleWeight a_ruleLow a_ruleHigh a_chosen a_bestOf (nI nm) a_markElements a_markBits a_markPins, cw_i g a_kindOf 60 kdf, cw_i g a_depthOf 60 dpf, cw_i g a_lengthOf 60 lnf, cw_i g a_baseOf 60 saf, cw_l g a_bits 4000 btf, cw_i g a_hashes 60 ha2] H locs := hZ
                  have d_r21 : sp_hS na kdf dpf saf lnf btf i2 = r21 := f23.symm
                  refine lv_goto (tgt := 71) hx hb dX8_hash_62 (by decide) ?_
                  refine zz_iastn hC hZ 6 rfl bd19 (by decide) dX8_hash_71 (fun H locs hZ => ?_)
                  have hZ : zz_Z g A s.heap [cw_k7 h0 (nI na) (nI ne) a_kindOf a_depthOf a_lengthOf a_classOf a_baseOf a_bits a_pinned 0 a_lengths a_stackArray a_stackOther a_stackAt i_lastArray i_lastPlace a_path a_held a_alike a_hashes (nI nd) a_decisionArray a_decisionPlace a_candidateMany a_candidates (nI nr) a_ruleSort a_ruleArray a_ruleWeight a_ruleLow a_ruleHigh a_chosen a_bestOf (nI nm) a_markElements a_markBits a_markPins, cw_i g a_kindOf 60 kdf, cw_i g a_depthOf 60 dpf, cw_i g a_lengthOf 60 lnf, cw_i g a_baseOf 60 saf, cw_l g a_bits 4000 btf, cw_i g a_hashes 60 (upd ha2 i2 r21)] H locs := hZ
                  refine lv_iinc (v := nI (i2 + 1)) (lv' := [(3, .int (nI (i2 + 1))), (2, .int (nI i1)), (0, .ref h0), (1, .int (nI a1))]) hx hb dX8_hash_72 hl (k := 0) rfl (nI_1 _) (by decide) rfl (fun ls hl => ?_)
                  refine lv_goto (tgt := 34) hx hb dX8_hash_75 (by decide) ?_
                  exact ih15 (i2 + 1) (upd ha2 i2 r21) H locs ls (by omega) (ht2.up (by omega) c20) (fun x hx ex => by by_cases q : x = i2; (rw [q, pk_us]; exact f23); (rw [pk_un q]; exact ht3 x (by omega) ex)) (by omega) (hZ.sub [1, 2, 3, 4, 5, 6, 0] (by decide +kernel) rfl) (lv_sub hl [0, 1, 2, 3] rfl)
          exact LP15 _ 0 ha1 H locs ls (by omega) (ht1) (fun x hx => absurd hx (Nat.not_lt_zero x)) (Nat.lt_succ_self _) hZ (lv_sub hl [0, 1, 2, 3] rfl)
    exact LP8 _ 1 haf H locs ls (by omega) (zz_HT.one h_S) (Nat.lt_succ_self _) hZ (lv_sub hl [0, 1, 2] rfl)
  · refine lv_aload_n hx hb dX8_hash_8 rfl (lv_at hl 0 rfl) ?_
    refine lv_iconst (v := 5) hx hb dX8_hash_9 (by decide) ?_
    refine zz_put hC hZ 6 rfl zu_X8_99 (Nat.le_of_ble_eq_true rfl) dX8_hash_10 (fun H locs hZ => ?_)
    have hZ : zz_Z g A s.heap [cw_i g a_kindOf 60 kdf, cw_i g a_depthOf 60 dpf, cw_i g a_lengthOf 60 lnf, cw_i g a_baseOf 60 saf, cw_l g a_bits 4000 btf, cw_i g a_hashes 60 haf, cw_k7 h0 (nI na) (nI ne) a_kindOf a_depthOf a_lengthOf a_classOf a_baseOf a_bits a_pinned 5 a_lengths a_stackArray a_stackOther a_stackAt i_lastArray i_lastPlace a_path a_held a_alike a_hashes (nI nd) a_decisionArray a_decisionPlace a_candidateMany a_candidates (nI nr) a_ruleSort a_ruleArray a_ruleWeight a_ruleLow a_ruleHigh a_chosen a_bestOf (nI nm) a_markElements a_markBits a_markPins] H locs := hZ
    refine lv_iconst (v := 0) hx hb dX8_hash_13 (by decide) ?_
    have hZ : zz_Z g A s.heap [cw_k7 h0 (nI na) (nI ne) a_kindOf a_depthOf a_lengthOf a_classOf a_baseOf a_bits a_pinned 5 a_lengths a_stackArray a_stackOther a_stackAt i_lastArray i_lastPlace a_path a_held a_alike a_hashes (nI nd) a_decisionArray a_decisionPlace a_candidateMany a_candidates (nI nr) a_ruleSort a_ruleArray a_ruleWeight a_ruleLow a_ruleHigh a_chosen a_bestOf (nI nm) a_markElements a_markBits a_markPins, cw_i g a_kindOf 60 kdf, cw_i g a_depthOf 60 dpf, cw_i g a_lengthOf 60 lnf, cw_i g a_baseOf 60 saf, cw_l g a_bits 4000 btf, cw_i g a_hashes 60 haf] H locs := hZ.sub [6, 0, 1, 2, 3, 4, 5] (by decide +kernel) rfl
    exact zz_iret hC hZ (⟨5, i_lastArray, i_lastPlace, haf, by show _ = _; rw [fn_my_hash2]; rw [if_pos c3], rfl⟩) (Nat.le_of_ble_eq_true rfl) (Nat.le_of_ble_eq_true rfl) dX8_hash_14
