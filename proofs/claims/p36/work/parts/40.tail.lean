theorem zz_pw {A : Nat → Prop} {ws : va_W} (h : va_D A ws) : ws.Pairwise (fun p q => p.1 ≠ q.1) := by
  rw [List.pairwise_iff_getElem]
  intro i j hi hj hij e
  have := h.1 i j ws[i] ws[j] (List.getElem?_eq_getElem hi) (List.getElem?_eq_getElem hj) e
  omega
theorem zz_Z.perm {g : zz_G} {A : Nat → Prop} {H0 : Heap} {ws ws' : va_W} {H : Heap} {locs : List Loc} (hZ : zz_Z g A H0 ws H locs) (h : ws.Perm ws') : zz_Z g A H0 ws' H locs := by
  obtain ⟨hP, hD, hS, hA⟩ := hZ
  have hpw := (zz_pw hD).perm h (fun h e => h e.symm)
  rw [List.pairwise_iff_getElem] at hpw
  have hm : ∀ (k : Nat) (q : Nat × va_E), ws'[k]? = some q → ∃ i : Nat, ws[i]? = some q := fun k q hq => List.getElem?_of_mem (h.mem_iff.mpr (List.mem_of_getElem? hq))
  refine ⟨fun k q hq => ?_, ⟨fun i j x y hx hy e => ?_, fun k q hq => ?_⟩, hS, hA⟩
  · obtain ⟨i, hi⟩ := hm k q hq
    exact hP i q hi
  · obtain ⟨hi, ei⟩ := List.getElem?_eq_some_iff.mp hx
    obtain ⟨hj, ej⟩ := List.getElem?_eq_some_iff.mp hy
    rcases Nat.lt_trichotomy i j with hij | hij | hij
    · exact absurd (by rw [ei, ej]; exact e) (hpw i j hi hj hij)
    · exact hij
    · exact absurd (by rw [ei, ej]; exact e.symm) (hpw j i hj hi hij)
  · obtain ⟨i, hi⟩ := hm k q hq
    exact hD.2 i q hi
theorem zz_ndn : ∀ (l : List Nat), va_nd l = true → l.Nodup
  | [], _ => List.nodup_nil
  | a :: l, h => by
    simp only [va_nd, Bool.and_eq_true, decide_eq_true_eq] at h
    exact List.nodup_cons.mpr ⟨h.1, zz_ndn l h.2⟩
theorem zz_ndo : ∀ (l : List Nat), l.Nodup → va_nd l = true
  | [], _ => rfl
  | a :: l, h => by
    obtain ⟨h1, h2⟩ := List.nodup_cons.mp h
    simp only [va_nd, Bool.and_eq_true, decide_eq_true_eq]
    exact ⟨h1, zz_ndo l h2⟩
theorem zz_mlt {w1 : va_W} : ∀ {is : List Nat} {wc : va_W}, is.map (fun i => w1[i]?) = wc.map some → ∀ i ∈ is, i < w1.length
  | [], _, _, i, hi => absurd hi List.not_mem_nil
  | a :: is, [], h, _, _ => by simp at h
  | a :: is, c :: wc, h, i, hi => by
    simp only [List.map_cons, List.cons.injEq] at h
    rcases List.mem_cons.mp hi with e | e
    · rw [e]; exact (List.getElem?_eq_some_iff.mp h.1).1
    · exact zz_mlt h.2 i e
theorem zz_mapA {w1 T wc : va_W} {is : List Nat} (h : is.map (fun i => w1[i]?) = wc.map some) : is.map (fun i => (w1 ++ T)[i]?) = wc.map some := by
  rw [← h]
  refine List.map_congr_left (fun i hi => ?_)
  exact List.getElem?_append_left (zz_mlt h i hi)
theorem zz_mapT (w1 T : va_W) : (List.range' w1.length T.length).map (fun i => (w1 ++ T)[i]?) = T.map some := by
  refine List.ext_getElem? (fun k => ?_)
  rw [List.getElem?_map, List.getElem?_map]
  by_cases hk : k < T.length
  · rw [List.getElem?_range' hk, List.getElem?_eq_getElem hk]
    show some ((w1 ++ T)[w1.length + 1 * k]?) = some (some T[k])
    rw [Nat.one_mul, List.getElem?_append_right (Nat.le_add_right _ _), Nat.add_sub_cancel_left, List.getElem?_eq_getElem hk]
  · rw [List.getElem?_eq_none (by rw [List.length_range']; omega), List.getElem?_eq_none (by omega)]
    rfl
theorem zz_mapR {w1 T wr : va_W} {is : List Nat} (h : is.map (fun i => w1[i]?) = wr.map some) : (is ++ List.range' w1.length T.length).map (fun i => (w1 ++ T)[i]?) = (wr ++ T).map some := by
  rw [List.map_append, List.map_append, zz_mapA h, zz_mapT]
theorem zz_ndR {w1 T wr : va_W} {is : List Nat} (h : is.map (fun i => w1[i]?) = wr.map some) (hn : va_nd is = true) : va_nd (is ++ List.range' w1.length T.length) = true := by
  refine zz_ndo _ (List.nodup_append.mpr ⟨zz_ndn _ hn, List.nodup_range', fun a ha b hb e => ?_⟩)
  have h1 := zz_mlt h a ha
  have h2 := (List.mem_range'_1.mp hb).1
  omega
theorem zz_diR {w1 T wc : va_W} {isC is : List Nat} (h : isC.map (fun i => w1[i]?) = wc.map some) (hd : ∀ i ∈ is, i ∉ isC) : ∀ i ∈ is ++ List.range' w1.length T.length, i ∉ isC := by
  intro i hi hc
  rcases List.mem_append.mp hi with e | e
  · exact hd i e hc
  · have h1 := zz_mlt h i hc
    have h2 := (List.mem_range'_1.mp e).1
    omega
theorem zz_pT (a b c : va_W) : ((a ++ b) ++ c).Perm ((a ++ c) ++ b) := by
  rw [List.append_assoc, List.append_assoc]
  exact List.Perm.append_left a List.perm_append_comm
theorem zz_Z.subT {g : zz_G} {A : Nat → Prop} {H0 : Heap} {w1 w2 T : va_W} {H : Heap} {locs : List Loc} (hZ : zz_Z g A H0 (w1 ++ T) H locs) (is : List Nat) (hn : va_nd is = true) (hs : is.map (fun i => w1[i]?) = w2.map some) : zz_Z g A H0 (w2 ++ T) H locs :=
  hZ.sub (is ++ List.range' w1.length T.length) (zz_ndR hs hn) (zz_mapR hs)
section zzTail
variable {p : Program} {l : Launch} {e : Env} {R : Room} {s : State} {m : MethodId} {args : Array Value} {below : List Frame} {meth : Method} {c : Code} {H : Heap} {locs : List Loc} {cells slots : Nat} {Q : State → Prop}
variable {cc cc' : ByteArray} {pc : Nat} {ls : Array Slot} {rest st0 : List Value} {g : zz_G} {A : Nat → Prop} {ws wc wr T : va_W} {own : String} {nL nL' np index : Nat} {ret ret' : Option FieldType} {y : MethodName} {rm : Room} {lv : List (Nat × Value)}
theorem zz_iVT {As : List Value} {b ci q0 : Nat} {fs : List Value} {U : u_T} {N : Nat} {Post : Int32 → va_W → Prop} (hC : zz_C p s m args meth c g own cc nL ret) (hZ : zz_Z g A s.heap (ws ++ T) H locs) (hs : zz_hs g A s s.heap) (hl : lv_has ls nL lv) (cw : zz_cV own index y cc' nL' ret' np) (hM : zz_I g y (.code y cc' nL' ret') rm (.ref b :: As) wc Post)
    (isC isR : List Nat) (hCs : isC.map (fun i => ws[i]?) = wc.map some) (hRs : isR.map (fun i => ws[i]?) = wr.map some) (hk : va_nd isC = true ∧ va_nd isR = true ∧ ∀ i ∈ isR, i ∉ isC) (hc : classes[ci]? = some (y.cls, U, N)) (he : wc[q0]? = some (cw_o b ci fs)) (hn : As.length = np) (hst : st0 = As.reverse ++ .ref b :: rest) (hW : (rest.map fun v => v.category).sum ≤ 8) (hR : zz_rm R rm nL' cells slots) (hdg : decode cc pc = .ok (.invokevirtual index, 3))
    (kk : ∀ (r : Int32) (u : va_W) (H1 : Heap) (locs1 : List Loc), Post r u → zz_Z g A s.heap ((wr ++ u) ++ T) H1 locs1 → W p l e R s m args below meth c H1 locs1 (cells + rm.cells) (slots + rm.slots) Q (F0 m (pc + 3) ls (.int r :: rest))) : W p l e R s m args below meth c H locs cells slots Q (F0 m pc ls st0) :=
  zz_iV hC hZ hs hl cw hM isC (isR ++ List.range' ws.length T.length) (zz_mapA hCs) (zz_mapR hRs) ⟨hk.1, zz_ndR hRs hk.2.1, zz_diR hCs hk.2.2⟩ hc he hn hst hW hR hdg (fun r u H1 locs1 hp hZ1 => kk r u H1 locs1 hp (hZ1.perm (zz_pT wr T u)))
theorem zz_lVT {As : List Value} {b ci q0 : Nat} {fs : List Value} {U : u_T} {N : Nat} {Post : Int64 → va_W → Prop} (hC : zz_C p s m args meth c g own cc nL ret) (hZ : zz_Z g A s.heap (ws ++ T) H locs) (hs : zz_hs g A s s.heap) (hl : lv_has ls nL lv) (cw : zz_cV own index y cc' nL' ret' np) (hM : zz_L g y (.code y cc' nL' ret') rm (.ref b :: As) wc Post)
    (isC isR : List Nat) (hCs : isC.map (fun i => ws[i]?) = wc.map some) (hRs : isR.map (fun i => ws[i]?) = wr.map some) (hk : va_nd isC = true ∧ va_nd isR = true ∧ ∀ i ∈ isR, i ∉ isC) (hc : classes[ci]? = some (y.cls, U, N)) (he : wc[q0]? = some (cw_o b ci fs)) (hn : As.length = np) (hst : st0 = As.reverse ++ .ref b :: rest) (hW : (rest.map fun v => v.category).sum ≤ 8) (hR : zz_rm R rm nL' cells slots) (hdg : decode cc pc = .ok (.invokevirtual index, 3))
    (kk : ∀ (r : Int64) (u : va_W) (H1 : Heap) (locs1 : List Loc), Post r u → zz_Z g A s.heap ((wr ++ u) ++ T) H1 locs1 → W p l e R s m args below meth c H1 locs1 (cells + rm.cells) (slots + rm.slots) Q (F0 m (pc + 3) ls (.long r :: rest))) : W p l e R s m args below meth c H locs cells slots Q (F0 m pc ls st0) :=
  zz_lV hC hZ hs hl cw hM isC (isR ++ List.range' ws.length T.length) (zz_mapA hCs) (zz_mapR hRs) ⟨hk.1, zz_ndR hRs hk.2.1, zz_diR hCs hk.2.2⟩ hc he hn hst hW hR hdg (fun r u H1 locs1 hp hZ1 => kk r u H1 locs1 hp (hZ1.perm (zz_pT wr T u)))
end zzTail
/-- the marks that were made: their cells -/
abbrev zz_TM : Type := Nat × Nat × Nat × Int32 × (Nat → Int64) × (Nat → Int32)
def zz_m3 (g : zz_G) (x : zz_TM) : va_W := [(cw_o x.1 (3) [.ref x.2.1, .ref x.2.2.1, .int x.2.2.2.1]), (cw_l g x.2.1 4000 x.2.2.2.2.1), (cw_z g x.2.2.1 4000 x.2.2.2.2.2)]
def zz_T (g : zz_G) : List zz_TM → va_W
  | [] => []
  | x :: r => zz_m3 g x ++ zz_T g r
theorem zz_T_app (g : zz_G) : ∀ (L1 L2 : List zz_TM), zz_T g (L1 ++ L2) = zz_T g L1 ++ zz_T g L2
  | [], _ => rfl
  | x :: r, L2 => by rw [List.cons_append, zz_T, zz_T_app g r L2, zz_T, List.append_assoc]
theorem zz_T_out (g : zz_G) (w : va_W) (L1 : List zz_TM) (x : zz_TM) (L2 : List zz_TM) : (w ++ zz_T g (L1 ++ x :: L2)).Perm ((w ++ zz_m3 g x) ++ zz_T g (L1 ++ L2)) := by
  rw [zz_T_app, zz_T_app, List.append_assoc]
  refine List.Perm.append_left w ?_
  show (zz_T g L1 ++ (zz_m3 g x ++ zz_T g L2)).Perm _
  exact List.perm_append_comm_assoc _ _ _
theorem zz_T_end (g : zz_G) (w : va_W) (L : List zz_TM) (x : zz_TM) : ((w ++ zz_m3 g x) ++ zz_T g L).Perm (w ++ zz_T g (L ++ [x])) := by
  have := (zz_T_out g w L x []).symm
  rw [List.append_nil] at this
  exact this
/-- the marks of the class: those that were made, and how far they reach -/
def zz_ML (nm : Nat) (mrf : Nat → Option Nat) (L : List zz_TM) : Prop := nm ≤ L.length ∧ L.length ≤ 8 ∧ (∀ j, j < 8 → mrf j = (L[j]?).map (fun x => x.1)) ∧ ∀ j x, j < nm → L[j]? = some x → ∃ mu : Nat, x.2.2.2.1 = nI mu ∧ mu ≤ 4000
theorem zz_ML.cut {nm k : Nat} {mrf : Nat → Option Nat} {L : List zz_TM} (h : zz_ML nm mrf L) (hk : k < L.length) : ∃ (L1 : List zz_TM) (x : zz_TM) (L2 : List zz_TM), L = L1 ++ x :: L2 ∧ L1.length = k ∧ mrf k = some x.1 ∧ L[k]? = some x := by
  have e : L[k]? = some L[k] := List.getElem?_eq_getElem hk
  refine ⟨L.take k, L[k], L.drop (k + 1), ?_, by rw [List.length_take]; omega, ?_, e⟩
  · rw [List.getElem_cons_drop, List.take_append_drop]
  · rw [h.2.2.1 k (by have := h.2.1; omega), e]; rfl
theorem zz_ML.set {nm : Nat} {mrf : Nat → Option Nat} {L1 L2 : List zz_TM} {x y : zz_TM} {mu : Nat} (h : zz_ML nm mrf (L1 ++ x :: L2)) (h1 : L1.length = nm) (hx : y.1 = x.1) (hy : y.2.2.2.1 = nI mu) (hmu : mu ≤ 4000) : zz_ML (nm + 1) mrf (L1 ++ y :: L2) := by
  obtain ⟨g1, g2, g3, g4⟩ := h
  rw [List.length_append, List.length_cons] at g1 g2
  refine ⟨by rw [List.length_append, List.length_cons]; omega, by rw [List.length_append, List.length_cons]; omega, fun j hj => ?_, fun j z hj hz => ?_⟩
  · rw [g3 j hj]
    by_cases e : j < L1.length
    · rw [List.getElem?_append_left e, List.getElem?_append_left e]
    · rw [List.getElem?_append_right (by omega), List.getElem?_append_right (by omega)]
      cases hq : j - L1.length with
      | zero => rw [List.getElem?_cons_zero, List.getElem?_cons_zero]; show some x.1 = some y.1; rw [hx]
      | succ q => rw [List.getElem?_cons_succ, List.getElem?_cons_succ]
  · by_cases e : j < L1.length
    · refine g4 j z (by omega) ?_
      rw [List.getElem?_append_left e] at hz ⊢; exact hz
    · have : j = L1.length := by omega
      subst this
      rw [List.getElem?_append_right (Nat.le_refl _), Nat.sub_self, List.getElem?_cons_zero] at hz
      cases hz
      exact ⟨mu, hy, hmu⟩
theorem zz_ML.app {nm : Nat} {mrf : Nat → Option Nat} {L : List zz_TM} {y : zz_TM} {mu : Nat} (h : zz_ML nm mrf L) (h1 : nm = L.length) (h8 : nm < 8) (hy : y.2.2.2.1 = nI mu) (hmu : mu ≤ 4000) : zz_ML (nm + 1) (va_up mrf nm (some y.1)) (L ++ [y]) := by
  obtain ⟨g1, g2, g3, g4⟩ := h
  subst h1
  refine ⟨by rw [List.length_append]; exact Nat.le_refl _, by rw [List.length_append]; exact h8, fun j hj => ?_, fun j z hj hz => ?_⟩
  · by_cases e : j < L.length
    · rw [List.getElem?_append_left e, va_up_ne _ _ (by omega), g3 j hj]
    · by_cases e2 : j = L.length
      · subst e2
        rw [va_up_self, List.getElem?_append_right (Nat.le_refl _), Nat.sub_self]; rfl
      · rw [va_up_ne _ _ e2, g3 j hj, List.getElem?_eq_none (by omega), List.getElem?_eq_none (by rw [List.length_append]; show L.length + 1 ≤ j; omega)]
  · by_cases e : j < L.length
    · rw [List.getElem?_append_left e] at hz; exact g4 j z e hz
    · have : j = L.length := by omega
      subst this
      rw [List.getElem?_append_right (Nat.le_refl _), Nat.sub_self] at hz
      cases hz
      exact ⟨mu, hy, hmu⟩
theorem zz_ML.drop {nm : Nat} {mrf : Nat → Option Nat} {L : List zz_TM} (h : zz_ML (nm + 1) mrf L) : zz_ML nm mrf L := ⟨by have := h.1; omega, h.2.1, h.2.2.1, fun j x hj => h.2.2.2 j x (by omega)⟩
theorem zz_CI.ex {na n2 nd : Nat} {dpf saf lnf plf slf cof dp2 sa2 ln2 : Nat → Int32} (h : zz_CI na nd saf lnf plf slf cof) (hn : na ≤ n2) (he : zz_EX na dpf saf lnf dp2 sa2 ln2) : zz_CI n2 nd sa2 ln2 plf slf cof := by
  refine ⟨h.1, fun d hd => ?_⟩
  obtain ⟨b, q, sz, lz, n, g1, g2, g3, g4, g5, g6⟩ := h.2 d hd
  exact ⟨b, q, sz, lz, n, g1, by omega, g3, (he b g2).1.trans g4, (he b g2).2.1.trans g5, g6⟩
theorem zz_RI.ex {na n2 nr : Nat} {dpf saf lnf juf dp2 sa2 ln2 : Nat → Int32} (h : zz_RI na nr juf saf lnf) (hn : na ≤ n2) (he : zz_EX na dpf saf lnf dp2 sa2 ln2) : zz_RI n2 nr juf sa2 ln2 := by
  refine ⟨h.1, fun r hr => ?_⟩
  obtain ⟨a, sz, lz, g1, g2, g3, g4, g5, g6⟩ := h.2 r hr
  exact ⟨a, sz, lz, g1, by omega, g3, (he a g2).1.trans g4, (he a g2).2.1.trans g5, g6⟩
theorem zz_MD.ex {na n2 nd : Nat} {dpf saf lnf daf dqf cof dp2 sa2 ln2 : Nat → Int32} (h : zz_MD na nd dpf saf lnf daf dqf cof) (hn : na ≤ n2) (he : zz_EX na dpf saf lnf dp2 sa2 ln2) : zz_MD n2 nd dp2 sa2 ln2 daf dqf cof := by
  refine ⟨h.1, fun d hd => ?_⟩
  obtain ⟨b, q, sz, lz, n, g1, g2, g3, g4, g5, g6, g7, g8, g9, g10, g11⟩ := h.2 d hd
  exact ⟨b, q, sz, lz, n, g1, g2, by omega, g4, (he b g3).1.trans g5, (he b g3).2.1.trans g6, g7, g8, g9, (he b g3).2.2.trans g10, g11⟩
