section zzCopy
variable {p : Program} {l : Launch} {e : Env} {R : Room} {s : State} {m : MethodId} {args : Array Value} {below : List Frame} {meth : Method} {c : Code} {H : Heap} {locs : List Loc} {cells slots : Nat} {Q : State → Prop}
variable {cc : ByteArray} {pc : Nat} {ls : Array Slot} {rest : List Value} {g : zz_G} {A : Nat → Prop} {a a0 : Nat} {ws : va_W} {own : String} {nL index : Nat} {ret : Option FieldType}
/-- System.arraycopy of longs, the one array or two -/
theorem zz_copyl {x y n : Nat} (hC : zz_C p s m args meth c g own cc nL ret) (hZ : zz_Z g A s.heap ws H locs) {lv : List (Nat × Value)} (hl : lv_has ls nL lv) (w1 : Cond.methodLink own index arraycopyName ∈ zz_w) (w2 : Cond.native arraycopyName ∈ zz_w) (w3 : Cond.static arraycopyName ∈ zz_w) (w4 : Cond.initialized "java/lang/System" ∈ zz_w)
    (q0 q1 : Nat) {n0 n1 : Nat} {f h : Nat → Int64} (ha0 : ws[q0]? = some (cw_l g a0 n0 f)) (ha1 : ws[q1]? = some (cw_l g a n1 h)) (h4 : x + n ≤ n0) (h5 : y + n ≤ n1) (h6 : n0 < 2 ^ 31 ∧ n1 < 2 ^ 31)
    (hframes : 1 ≤ R.frames) (hlocals : (rest.map fun v => v.category).sum + (nativeFrameWords "java/lang/System" "arraycopy" 5 + 11) ≤ R.locals) (hdg : decode cc pc = .ok (.invokestatic index, 3))
    (kk : ∀ (H1 : Heap) (locs1 : List Loc), zz_Z g A s.heap (ws.set q1 (cw_l g a n1 (va_cpy f h x y n))) H1 locs1 → W p l e R s m args below meth c H1 locs1 cells slots Q (F0 m (pc + 3) ls rest)) : W p l e R s m args below meth c H locs cells slots Q (F0 m pc ls (.int (nI n) :: .int (nI y) :: .ref a :: .int (nI x) :: .ref a0 :: rest)) := by
  have ex : (nI x).toNatClampNeg = x := nI_clamp (by omega)
  have ey : (nI y).toNatClampNeg = y := nI_clamp (by omega)
  have en : (nI n).toNatClampNeg = n := nI_clamp (by omega)
  obtain ⟨hP, hD, hS, hA⟩ := hZ
  refine va_copyl (ty := .long) hC.1 hC.2.1 (by rw [hC.2.2.1]; exact hl.1.symm) hC.2.2.2.1 (hC.2.2.2.2.1 _ w1) (hC.2.2.2.2.1 _ w2) (hC.2.2.2.2.1 _ w3) (hC.2.2.2.2.1 _ w4) hC.2.2.2.2.2.2.2.1 hP hD hS q0 q1 1 1 ha0 ha1 rfl rfl rfl (nI_pos (by omega)) (nI_pos (by omega)) (nI_pos (by omega)) (by rw [ex, en]; exact h4) (by rw [ey, en]; exact h5) (fun _ _ => rfl) hframes hlocals hdg (fun H1 locs1 b1 b2 b3 => ?_)
  rw [ex, ey, en] at b1 b2
  exact kk H1 locs1 ⟨b1, b2, b3, hA⟩
end zzCopy
theorem zl_hv {hv : Int32} {hh lo : Nat} (e : hv = nI hh + (-1)) (h1 : hh ≤ 200) (h2 : lo ≤ 200) (h : ¬ hv < nI lo) : ∃ K, hh = K + 1 ∧ lo ≤ K := by
  cases hh with
  | zero =>
    refine absurd ?_ h
    rw [e, Int32.lt_iff_toInt_lt, nI_toInt (by omega)]
    have : (nI 0 + (-1) : Int32).toInt = -1 := by decide
    omega
  | succ K =>
    rw [e, pk_m1] at h
    exact ⟨K, rfl, by rw [nI_ltI (by omega) (by omega)] at h; omega⟩
theorem zl_div2 {n : Nat} (h : n < 2 ^ 31) : nI n / 2 = nI (n / 2) := by
  rw [show (2 : Int32) = nI 2 by decide, pk_div h (by decide) (by decide)]
theorem zl_sub1 (n : Nat) : nI n - 1 = nI n + (-1) := by rw [Int32.sub_eq_add_neg]
