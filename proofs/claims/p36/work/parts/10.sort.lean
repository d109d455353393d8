/-- the element at t comes to p, those between go on by one -/
def zz_ins (bt : Nat → Int64) (p t : Nat) : Nat → Int64 := fun j => if j = p then bt t else (if p < j ∧ j ≤ t then bt (j - 1) else bt j)
/-- in order from f up to t -/
def zz_so (R : Int64 → Int64) (bt : Nat → Int64) (f t : Nat) : Prop := ∀ i j, f ≤ i → i ≤ j → j < t → R (bt i) ≤ R (bt j)
/-- where an element belongs, from behind -/
def zz_ps (R : Int64 → Int64) (bt : Nat → Int64) (f : Nat) (rv : Int64) : Nat → Nat
  | 0 => 0
  | i + 1 => if i + 1 ≤ f then i + 1 else (if R (bt i) ≤ rv then i + 1 else zz_ps R bt f rv i)
def sp_is (R : Int64 → Int64) (f : Nat) : Nat → Nat → (Nat → Int64) → (Nat → Int64)
  | 0, _, bt => bt
  | m + 1, t, bt => sp_is R f m (t + 1) (zz_ins bt (zz_ps R bt f (R (bt t)) t) t)
def zz_sft (bt : Nat → Int64) (s : Nat) : Nat → Int64 := fun i => bt (s + i)
/-- how many differ -/
def sp_cd (bt bf : Nat → Int64) (s : Nat) : Nat → Nat → Int32 → Int32
  | 0, _, w => w
  | m + 1, i, w => sp_cd bt bf s m (i + 1) (if bt (s + i) = bf i then w else w + 1)
theorem zl_ltr {a b c : Int64} (h : a ≤ b) (h2 : b ≤ c) : a ≤ c := by
  rw [Int64.le_iff_toInt_le] at *; omega
theorem zl_ltn {a b c : Int64} (h : ¬ a ≤ b) (h2 : a ≤ c) : ¬ c ≤ b := fun z => h (zl_ltr h2 z)
theorem zl_lto {a b : Int64} (h : ¬ a ≤ b) : b ≤ a := by
  rw [Int64.le_iff_toInt_le] at *; omega
theorem zl_inE {bt : Nat → Int64} {p t : Nat} (h : p ≤ t) : vp_updL (va_cpy bt bt p (p + 1) (t - p)) p (bt t) = zz_ins bt p t := by
  funext j
  unfold zz_ins
  by_cases e : j = p
  · subst e; rw [pk_uLs, if_pos rfl]
  · rw [pk_uLn e, if_neg e]
    by_cases c : p < j ∧ j ≤ t
    · rw [if_pos c, pk_cpy_in (by omega) (by omega), show p + (j - (p + 1)) = j - 1 by omega]
    · rw [if_neg c, pk_cpy_out (by omega)]
theorem zl_psU {R : Int64 → Int64} {bt : Nat → Int64} {f p : Nat} {rv : Int64} (hf : f ≤ p) (h1 : ∀ j, f ≤ j → j < p → R (bt j) ≤ rv) : ∀ t, p ≤ t → (∀ j, p ≤ j → j < t → ¬ R (bt j) ≤ rv) → zz_ps R bt f rv t = p
  | 0, hp, _ => by rw [zz_ps]; omega
  | t + 1, hp, h2 => by
    rw [zz_ps]
    by_cases c : t + 1 ≤ f
    · rw [if_pos c]; omega
    · rw [if_neg c]
      by_cases e : p = t + 1
      · rw [if_pos (h1 t (by omega) (by omega)), e]
      · rw [if_neg (h2 t (by omega) (by omega))]
        exact zl_psU hf h1 t (by omega) (fun j h3 h4 => h2 j h3 (by omega))
theorem zl_inS {R : Int64 → Int64} {bt : Nat → Int64} {f p t : Nat} (hs : zz_so R bt f t) (hf : f ≤ p) (hp : p ≤ t) (h1 : ∀ j, f ≤ j → j < p → R (bt j) ≤ R (bt t)) (h2 : ∀ j, p ≤ j → j < t → ¬ R (bt j) ≤ R (bt t)) : zz_so R (zz_ins bt p t) f (t + 1) := fun i j hi hij hj => by
  have lo : ∀ i, f ≤ i → i < p → zz_ins bt p t i = bt i := fun i _ h => by unfold zz_ins; rw [if_neg (by omega), if_neg (by omega)]
  have at' : zz_ins bt p t p = bt t := by unfold zz_ins; rw [if_pos rfl]
  have up : ∀ i, p < i → i ≤ t → zz_ins bt p t i = bt (i - 1) := fun i h3 h4 => by unfold zz_ins; rw [if_neg (by omega), if_pos ⟨h3, h4⟩]
  rcases Nat.lt_trichotomy i p with a | a | a
  · rw [lo i hi a]
    rcases Nat.lt_trichotomy j p with b | b | b
    · rw [lo j (by omega) b]; exact hs i j hi hij (by omega)
    · rw [b, at']; exact h1 i hi a
    · rw [up j b (by omega)]
      exact zl_ltr (h1 i hi a) (zl_lto (h2 (j - 1) (by omega) (by omega)))
  · rw [a, at']
    by_cases b : j = p
    · rw [b, at']; exact Int64.le_refl _
    · rw [up j (by omega) (by omega)]; exact zl_lto (h2 (j - 1) (by omega) (by omega))
  · rw [up i a (by omega), up j (by omega) (by omega)]; exact hs (i - 1) (j - 1) (by omega) (by omega) (by omega)
theorem zl_lto2 {a b : Int64} (h : ¬ a < b) : b ≤ a := by
  rw [Int64.le_iff_toInt_le]; rw [Int64.lt_iff_toInt_lt] at h; omega
theorem zl_lto3 {a b : Int64} (h : a < b) : ¬ b ≤ a := by
  rw [Int64.le_iff_toInt_le]; rw [Int64.lt_iff_toInt_lt] at h; omega
theorem dg_X6_insert_0 : (decode cX6_insert 0 = .ok (.aload_n 0, 1)) ∧ (decode cX6_insert 1 = .ok (.getfield 27, 3)) ∧ (decode cX6_insert 4 = .ok (.iload_n 3, 1)) ∧ (decode cX6_insert 5 = .ok (.laload, 1)) ∧ (decode cX6_insert 6 = .ok (.lstore 4, 2)) ∧ (decode cX6_insert 8 = .ok (.iload_n 1, 1)) ∧ (decode cX6_insert 9 = .ok (.lload 4, 2)) ∧ (decode cX6_insert 11 = .ok (.invokestatic 75, 3)) ∧ (decode cX6_insert 14 = .ok (.lstore 6, 2)) ∧ (decode cX6_insert 16 = .ok (.iload_n 2, 1)) ∧ (decode cX6_insert 17 = .ok (.istore 8, 2)) ∧ (decode cX6_insert 19 = .ok (.iload_n 3, 1)) ∧ (decode cX6_insert 20 = .ok (.istore 9, 2)) ∧ (decode cX6_insert 22 = .ok (.iload 8, 2)) ∧ (decode cX6_insert 24 = .ok (.iload 9, 2)) ∧ (decode cX6_insert 26 = .ok (.if_icmp .ge 45, 3)) := by decide +kernel
theorem dX6_insert_0 : decode cX6_insert 0 = .ok (.aload_n 0, 1) := dg_X6_insert_0.1
theorem dX6_insert_1 : decode cX6_insert 1 = .ok (.getfield 27, 3) := dg_X6_insert_0.2.1
theorem dX6_insert_4 : decode cX6_insert 4 = .ok (.iload_n 3, 1) := dg_X6_insert_0.2.2.1
theorem dX6_insert_5 : decode cX6_insert 5 = .ok (.laload, 1) := dg_X6_insert_0.2.2.2.1
theorem dX6_insert_6 : decode cX6_insert 6 = .ok (.lstore 4, 2) := dg_X6_insert_0.2.2.2.2.1
theorem dX6_insert_8 : decode cX6_insert 8 = .ok (.iload_n 1, 1) := dg_X6_insert_0.2.2.2.2.2.1
theorem dX6_insert_9 : decode cX6_insert 9 = .ok (.lload 4, 2) := dg_X6_insert_0.2.2.2.2.2.2.1
theorem dX6_insert_11 : decode cX6_insert 11 = .ok (.invokestatic 75, 3) := dg_X6_insert_0.2.2.2.2.2.2.2.1
theorem dX6_insert_14 : decode cX6_insert 14 = .ok (.lstore 6, 2) := dg_X6_insert_0.2.2.2.2.2.2.2.2.1
theorem dX6_insert_16 : decode cX6_insert 16 = .ok (.iload_n 2, 1) := dg_X6_insert_0.2.2.2.2.2.2.2.2.2.1
theorem dX6_insert_17 : decode cX6_insert 17 = .ok (.istore 8, 2) := dg_X6_insert_0.2.2.2.2.2.2.2.2.2.2.1
theorem dX6_insert_19 : decode cX6_insert 19 = .ok (.iload_n 3, 1) := dg_X6_insert_0.2.2.2.2.2.2.2.2.2.2.2.1
theorem dX6_insert_20 : decode cX6_insert 20 = .ok (.istore 9, 2) := dg_X6_insert_0.2.2.2.2.2.2.2.2.2.2.2.2.1
theorem dX6_insert_22 : decode cX6_insert 22 = .ok (.iload 8, 2) := dg_X6_insert_0.2.2.2.2.2.2.2.2.2.2.2.2.2.1
theorem dX6_insert_24 : decode cX6_insert 24 = .ok (.iload 9, 2) := dg_X6_insert_0.2.2.2.2.2.2.2.2.2.2.2.2.2.2.1
theorem dX6_insert_26 : decode cX6_insert 26 = .ok (.if_icmp .ge 45, 3) := dg_X6_insert_0.2.2.2.2.2.2.2.2.2.2.2.2.2.2.2
theorem dg_X6_insert_29 : (decode cX6_insert 29 = .ok (.iload 8, 2)) ∧ (decode cX6_insert 31 = .ok (.iload 9, 2)) ∧ (decode cX6_insert 33 = .ok (.iadd, 1)) ∧ (decode cX6_insert 34 = .ok (.iconst 2, 1)) ∧ (decode cX6_insert 35 = .ok (.idiv, 1)) ∧ (decode cX6_insert 36 = .ok (.istore 10, 2)) ∧ (decode cX6_insert 38 = .ok (.iload_n 1, 1)) ∧ (decode cX6_insert 39 = .ok (.aload_n 0, 1)) ∧ (decode cX6_insert 40 = .ok (.getfield 27, 3)) ∧ (decode cX6_insert 43 = .ok (.iload 10, 2)) ∧ (decode cX6_insert 45 = .ok (.laload, 1)) ∧ (decode cX6_insert 46 = .ok (.invokestatic 75, 3)) ∧ (decode cX6_insert 49 = .ok (.lload 6, 2)) ∧ (decode cX6_insert 51 = .ok (.lcmp, 1)) ∧ (decode cX6_insert 52 = .ok (.ifCond .gt 12, 3)) ∧ (decode cX6_insert 55 = .ok (.iload 10, 2)) := by decide +kernel
theorem dX6_insert_29 : decode cX6_insert 29 = .ok (.iload 8, 2) := dg_X6_insert_29.1
theorem dX6_insert_31 : decode cX6_insert 31 = .ok (.iload 9, 2) := dg_X6_insert_29.2.1
theorem dX6_insert_33 : decode cX6_insert 33 = .ok (.iadd, 1) := dg_X6_insert_29.2.2.1
theorem dX6_insert_34 : decode cX6_insert 34 = .ok (.iconst 2, 1) := dg_X6_insert_29.2.2.2.1
theorem dX6_insert_35 : decode cX6_insert 35 = .ok (.idiv, 1) := dg_X6_insert_29.2.2.2.2.1
theorem dX6_insert_36 : decode cX6_insert 36 = .ok (.istore 10, 2) := dg_X6_insert_29.2.2.2.2.2.1
theorem dX6_insert_38 : decode cX6_insert 38 = .ok (.iload_n 1, 1) := dg_X6_insert_29.2.2.2.2.2.2.1
theorem dX6_insert_39 : decode cX6_insert 39 = .ok (.aload_n 0, 1) := dg_X6_insert_29.2.2.2.2.2.2.2.1
theorem dX6_insert_40 : decode cX6_insert 40 = .ok (.getfield 27, 3) := dg_X6_insert_29.2.2.2.2.2.2.2.2.1
theorem dX6_insert_43 : decode cX6_insert 43 = .ok (.iload 10, 2) := dg_X6_insert_29.2.2.2.2.2.2.2.2.2.1
theorem dX6_insert_45 : decode cX6_insert 45 = .ok (.laload, 1) := dg_X6_insert_29.2.2.2.2.2.2.2.2.2.2.1
theorem dX6_insert_46 : decode cX6_insert 46 = .ok (.invokestatic 75, 3) := dg_X6_insert_29.2.2.2.2.2.2.2.2.2.2.2.1
theorem dX6_insert_49 : decode cX6_insert 49 = .ok (.lload 6, 2) := dg_X6_insert_29.2.2.2.2.2.2.2.2.2.2.2.2.1
theorem dX6_insert_51 : decode cX6_insert 51 = .ok (.lcmp, 1) := dg_X6_insert_29.2.2.2.2.2.2.2.2.2.2.2.2.2.1
theorem dX6_insert_52 : decode cX6_insert 52 = .ok (.ifCond .gt 12, 3) := dg_X6_insert_29.2.2.2.2.2.2.2.2.2.2.2.2.2.2.1
theorem dX6_insert_55 : decode cX6_insert 55 = .ok (.iload 10, 2) := dg_X6_insert_29.2.2.2.2.2.2.2.2.2.2.2.2.2.2.2
theorem dg_X6_insert_57 : (decode cX6_insert 57 = .ok (.iconst 1, 1)) ∧ (decode cX6_insert 58 = .ok (.iadd, 1)) ∧ (decode cX6_insert 59 = .ok (.istore 8, 2)) ∧ (decode cX6_insert 61 = .ok (.goto 7, 3)) ∧ (decode cX6_insert 64 = .ok (.iload 10, 2)) ∧ (decode cX6_insert 66 = .ok (.istore 9, 2)) ∧ (decode cX6_insert 68 = .ok (.goto (-46), 3)) ∧ (decode cX6_insert 71 = .ok (.aload_n 0, 1)) ∧ (decode cX6_insert 72 = .ok (.getfield 27, 3)) ∧ (decode cX6_insert 75 = .ok (.iload 8, 2)) ∧ (decode cX6_insert 77 = .ok (.aload_n 0, 1)) ∧ (decode cX6_insert 78 = .ok (.getfield 27, 3)) ∧ (decode cX6_insert 81 = .ok (.iload 8, 2)) ∧ (decode cX6_insert 83 = .ok (.iconst 1, 1)) ∧ (decode cX6_insert 84 = .ok (.iadd, 1)) ∧ (decode cX6_insert 85 = .ok (.iload_n 3, 1)) := by decide +kernel
theorem dX6_insert_57 : decode cX6_insert 57 = .ok (.iconst 1, 1) := dg_X6_insert_57.1
theorem dX6_insert_58 : decode cX6_insert 58 = .ok (.iadd, 1) := dg_X6_insert_57.2.1
theorem dX6_insert_59 : decode cX6_insert 59 = .ok (.istore 8, 2) := dg_X6_insert_57.2.2.1
theorem dX6_insert_61 : decode cX6_insert 61 = .ok (.goto 7, 3) := dg_X6_insert_57.2.2.2.1
theorem dX6_insert_64 : decode cX6_insert 64 = .ok (.iload 10, 2) := dg_X6_insert_57.2.2.2.2.1
theorem dX6_insert_66 : decode cX6_insert 66 = .ok (.istore 9, 2) := dg_X6_insert_57.2.2.2.2.2.1
theorem dX6_insert_68 : decode cX6_insert 68 = .ok (.goto (-46), 3) := dg_X6_insert_57.2.2.2.2.2.2.1
theorem dX6_insert_71 : decode cX6_insert 71 = .ok (.aload_n 0, 1) := dg_X6_insert_57.2.2.2.2.2.2.2.1
theorem dX6_insert_72 : decode cX6_insert 72 = .ok (.getfield 27, 3) := dg_X6_insert_57.2.2.2.2.2.2.2.2.1
theorem dX6_insert_75 : decode cX6_insert 75 = .ok (.iload 8, 2) := dg_X6_insert_57.2.2.2.2.2.2.2.2.2.1
theorem dX6_insert_77 : decode cX6_insert 77 = .ok (.aload_n 0, 1) := dg_X6_insert_57.2.2.2.2.2.2.2.2.2.2.1
theorem dX6_insert_78 : decode cX6_insert 78 = .ok (.getfield 27, 3) := dg_X6_insert_57.2.2.2.2.2.2.2.2.2.2.2.1
theorem dX6_insert_81 : decode cX6_insert 81 = .ok (.iload 8, 2) := dg_X6_insert_57.2.2.2.2.2.2.2.2.2.2.2.2.1
theorem dX6_insert_83 : decode cX6_insert 83 = .ok (.iconst 1, 1) := dg_X6_insert_57.2.2.2.2.2.2.2.2.2.2.2.2.2.1
theorem dX6_insert_84 : decode cX6_insert 84 = .ok (.iadd, 1) := dg_X6_insert_57.2.2.2.2.2.2.2.2.2.2.2.2.2.2.1
theorem dX6_insert_85 : decode cX6_insert 85 = .ok (.iload_n 3, 1) := dg_X6_insert_57.2.2.2.2.2.2.2.2.2.2.2.2.2.2.2
theorem dg_X6_insert_86 : (decode cX6_insert 86 = .ok (.iload 8, 2)) ∧ (decode cX6_insert 88 = .ok (.isub, 1)) ∧ (decode cX6_insert 89 = .ok (.invokestatic 65, 3)) ∧ (decode cX6_insert 92 = .ok (.aload_n 0, 1)) ∧ (decode cX6_insert 93 = .ok (.getfield 27, 3)) ∧ (decode cX6_insert 96 = .ok (.iload 8, 2)) ∧ (decode cX6_insert 98 = .ok (.lload 4, 2)) ∧ (decode cX6_insert 100 = .ok (.lastore, 1)) ∧ (decode cX6_insert 101 = .ok (.return_, 1)) := by decide +kernel
theorem dX6_insert_86 : decode cX6_insert 86 = .ok (.iload 8, 2) := dg_X6_insert_86.1
theorem dX6_insert_88 : decode cX6_insert 88 = .ok (.isub, 1) := dg_X6_insert_86.2.1
theorem dX6_insert_89 : decode cX6_insert 89 = .ok (.invokestatic 65, 3) := dg_X6_insert_86.2.2.1
theorem dX6_insert_92 : decode cX6_insert 92 = .ok (.aload_n 0, 1) := dg_X6_insert_86.2.2.2.1
theorem dX6_insert_93 : decode cX6_insert 93 = .ok (.getfield 27, 3) := dg_X6_insert_86.2.2.2.2.1
theorem dX6_insert_96 : decode cX6_insert 96 = .ok (.iload 8, 2) := dg_X6_insert_86.2.2.2.2.2.1
theorem dX6_insert_98 : decode cX6_insert 98 = .ok (.lload 4, 2) := dg_X6_insert_86.2.2.2.2.2.2.1
theorem dX6_insert_100 : decode cX6_insert 100 = .ok (.lastore, 1) := dg_X6_insert_86.2.2.2.2.2.2.2.1
theorem dX6_insert_101 : decode cX6_insert 101 = .ok (.return_, 1) := dg_X6_insert_86.2.2.2.2.2.2.2.2
theorem zk_482 : Cond.methodLink RX6 75 yX1_rank ∈ zz_w := zz_in (List.mem_append_right _ (List.mem_append_right _ (List.mem_append_right _ (List.mem_append_left _ (List.mem_of_getElem? (i := 2) (by decide +kernel)))))) rfl
set_option maxRecDepth 20000 in
theorem zk_484 : Cond.code yX1_rank cX1_rank 3 (some .long) ∈ zz_w := zz_in (List.mem_append_right _ (List.mem_append_right _ (List.mem_append_right _ (List.mem_append_left _ (List.mem_of_getElem? (i := 4) (rfl)))))) rfl
theorem zk_483 : Cond.static yX1_rank ∈ zz_w := zz_in (List.mem_append_right _ (List.mem_append_right _ (List.mem_append_right _ (List.mem_append_left _ (List.mem_of_getElem? (i := 3) (by decide +kernel)))))) rfl
theorem zc_X6_75 : zz_cS RX6 75 yX1_rank cX1_rank 3 (some .long) 2 := ⟨⟨zk_482, zk_484, zk_8, by decide, by decide, by decide +kernel⟩, zk_483⟩
theorem zk_477 : Cond.methodLink RX6 65 arraycopyName ∈ zz_w := zz_in (List.mem_append_right _ (List.mem_append_right _ (List.mem_append_left _ (List.mem_of_getElem? (i := 237) (by decide +kernel))))) rfl
theorem zk_439 : Cond.native arraycopyName ∈ zz_w := zz_in (List.mem_append_right _ (List.mem_append_right _ (List.mem_append_left _ (List.mem_of_getElem? (i := 199) (by decide +kernel))))) rfl
theorem zk_438 : Cond.static arraycopyName ∈ zz_w := zz_in (List.mem_append_right _ (List.mem_append_right _ (List.mem_append_left _ (List.mem_of_getElem? (i := 198) (by decide +kernel))))) rfl
theorem zk_9 : Cond.initialized "java/lang/System" ∈ zz_w := zz_in (List.mem_append_right _ (List.mem_append_left _ (List.mem_of_getElem? (i := 9) (by decide +kernel)))) rfl
abbrev rm_co_insert : Room := { frames := 1, cells := 0, slots := 0, locals := 60 }
abbrev po_co_insert (g : zz_G) (st : Nat) (kd : Nat) (dp : Nat) (cl : Nat) (sa : Nat) (ln : Nat) (bt : Nat) (pn : Nat) (bf : Nat) (na : Nat) (nu : Nat) (btf : Nat → Int64) (k : Int32) (f : Nat) (t : Nat) (h_t : f ≤ t ∧ t + 1 ≤ 4000) : va_W → Prop := fun (u : va_W) => ∃ (bt2 : Nat → Int64) (pp : Nat), (∀ j, j < f ∨ t < j → bt2 j = btf j) ∧ (f ≤ pp ∧ pp ≤ t) ∧ (bt2 = zz_ins btf pp t) ∧ (zz_so (fn_co_rank k) btf f t → (∀ j, f ≤ j → j < pp → fn_co_rank k (btf j) ≤ fn_co_rank k (btf t)) ∧ ∀ j, pp ≤ j → j < t → ¬ fn_co_rank k (btf j) ≤ fn_co_rank k (btf t)) ∧ u = [cw_k5 st (nI na) (nI nu) kd dp cl sa ln bt pn bf, cw_l g bt 4000 bt2]
set_option maxHeartbeats 4000000 in
set_option maxRecDepth 100000 in
theorem co_insert (g : zz_G) (st : Nat) (kd : Nat) (dp : Nat) (cl : Nat) (sa : Nat) (ln : Nat) (bt : Nat) (pn : Nat) (bf : Nat) (na : Nat) (nu : Nat) (btf : Nat → Int64) (k : Int32) (f : Nat) (t : Nat) (h_t : f ≤ t ∧ t + 1 ≤ 4000) : zz_V g yX6_insert (.code yX6_insert cX6_insert 11 none) rm_co_insert [.ref st, .int k, .int (nI f), .int (nI t)] [cw_k5 st (nI na) (nI nu) kd dp cl sa ln bt pn bf, cw_l g bt 4000 btf] (po_co_insert g st kd dp cl sa ln bt pn bf na nu btf k f t h_t) := by
  refine zz_V.intro (own := RX6) (cc := cX6_insert) (nL := 11) (by decide) rfl (Nat.le_of_ble_eq_true rfl) ?_
  intro p l e s m args below meth c A H locs ls hC hnm hs hZ hl
  obtain ⟨hx, hb, hml, hown, hts, hr, hlocks, hK⟩ := id hC
  have hl : lv_has ls 11 [(0, .ref st), (1, .int k), (2, .int (nI f)), (3, .int (nI t))] := hl
  have hZ : zz_Z g A s.heap [cw_k5 st (nI na) (nI nu) kd dp cl sa ln bt pn bf, cw_l g bt 4000 btf] H locs := hZ
  refine lv_aload_n hx hb dX6_insert_0 rfl (lv_at hl 0 rfl) ?_
  refine zz_get hC hZ 0 rfl zf_X6_27 rfl dX6_insert_1 ?_
  refine lv_iload_n hx hb dX6_insert_4 rfl (lv_at hl 3 rfl) ?_
  have bd1 : t < 4000 := by omega
  refine zz_laldn hC hZ 1 rfl bd1 (by decide) dX6_insert_5 ?_
  refine lv_lstore (lv' := [(4, .long (btf t)), (0, .ref st), (1, .int k), (2, .int (nI f)), (3, .int (nI t))]) hx hb dX6_insert_6 hl (by decide) rfl (fun ls hl => ?_)
  refine lv_iload_n hx hb dX6_insert_8 rfl (lv_at hl 2 rfl) ?_
  refine lv_lload hx hb dX6_insert_9 (lv_at hl 0 rfl) ?_
  refine zz_lS (As := [.int k, .long (btf t)]) (wc := []) (wr := [cw_k5 st (nI na) (nI nu) kd dp cl sa ln bt pn bf, cw_l g bt 4000 btf]) (rest := []) hC hZ hs hl zc_X6_75 (co_rank g k (btf t)) [] [0, 1] rfl rfl (by decide +kernel) rfl rfl (Nat.le_of_ble_eq_true rfl) ⟨⟨Nat.le_of_ble_eq_true rfl, Nat.le_of_ble_eq_true rfl⟩, Nat.le_of_ble_eq_true rfl, Nat.le_of_ble_eq_true rfl⟩ dX6_insert_11 (fun r2 u3 H locs hp hZ => ?_)
  obtain ⟨rfl, rfl⟩ := hp
  have hZ : zz_Z g A s.heap [cw_k5 st (nI na) (nI nu) kd dp cl sa ln bt pn bf, cw_l g bt 4000 btf] H locs := hZ
  refine lv_lstore (lv' := [(6, .long (fn_co_rank k (btf t))), (4, .long (btf t)), (0, .ref st), (1, .int k), (2, .int (nI f)), (3, .int (nI t))]) hx hb dX6_insert_14 hl (by decide) rfl (fun ls hl => ?_)
  refine lv_iload_n hx hb dX6_insert_16 rfl (lv_at hl 4 rfl) ?_
  refine lv_istore (lv' := [(8, .int (nI f)), (6, .long (fn_co_rank k (btf t))), (4, .long (btf t)), (0, .ref st), (1, .int k), (2, .int (nI f)), (3, .int (nI t))]) hx hb dX6_insert_17 hl (by decide) rfl (fun ls hl => ?_)
  refine lv_iload_n hx hb dX6_insert_19 rfl (lv_at hl 6 rfl) ?_
  refine lv_istore (lv' := [(9, .int (nI t)), (8, .int (nI f)), (6, .long (fn_co_rank k (btf t))), (4, .long (btf t)), (0, .ref st), (1, .int k), (2, .int (nI f)), (3, .int (nI t))]) hx hb dX6_insert_20 hl (by decide) rfl (fun ls hl => ?_)
  have LP4 : ∀ (N : Nat) (lo : Nat) (hi : Nat) (H : Heap) (locs : List Loc) (ls : Array Slot), (f ≤ lo ∧ lo ≤ hi ∧ hi ≤ t) → (zz_so (fn_co_rank k) btf f t → (∀ j, f ≤ j → j < lo → fn_co_rank k (btf j) ≤ fn_co_rank k (btf t)) ∧ ∀ j, hi ≤ j → j < t → ¬ fn_co_rank k (btf j) ≤ fn_co_rank k (btf t)) → (hi - lo) < N → zz_Z g A s.heap [cw_k5 st (nI na) (nI nu) kd dp cl sa ln bt pn bf, cw_l g bt 4000 btf] H locs → lv_has ls 11 [(9, .int (nI hi)), (8, .int (nI lo)), (6, .long (fn_co_rank k (btf t))), (4, .long (btf t)), (0, .ref st), (1, .int k), (2, .int (nI f)), (3, .int (nI t))] → W p l e rm_co_insert s m args below meth c H locs 0 0 (zz_QV below g args s A rm_co_insert.cells rm_co_insert.slots (po_co_insert g st kd dp cl sa ln bt pn bf na nu btf k f t h_t)) (F0 m 22 ls []) := by
    intro N
    induction N with
    | zero =>
      intro lo hi H locs ls hin hlh hN
      exact absurd hN (Nat.not_lt_zero _)
    | succ N ih =>
      intro lo hi H locs ls hin hlh hN hZ hl
      refine lv_iload hx hb dX6_insert_22 (lv_at hl 1 rfl) ?_
      refine lv_iload hx hb dX6_insert_24 (lv_at hl 0 rfl) ?_
      have bd6 : hi < 2 ^ 31 := by omega
      have bd7 : lo < 2 ^ 31 := by omega
      refine lv_icmp_ge (tgt := 71) hx hb dX6_insert_26 (by decide) (fun c5 => ?_) (fun c5 => ?_)
      · have nc5 : hi ≤ lo := (nI_leI bd6 bd7).mp (show nI (hi) ≤ nI (lo) from c5)
        refine lv_aload_n hx hb dX6_insert_71 rfl (lv_at hl 4 rfl) ?_
        refine zz_get hC hZ 0 rfl zf_X6_27 rfl dX6_insert_72 ?_
        refine lv_iload hx hb dX6_insert_75 (lv_at hl 1 rfl) ?_
        refine lv_aload_n hx hb dX6_insert_77 rfl (lv_at hl 4 rfl) ?_
        refine zz_get hC hZ 0 rfl zf_X6_27 rfl dX6_insert_78 ?_
        refine lv_iload hx hb dX6_insert_81 (lv_at hl 1 rfl) ?_
        refine lv_iconst (v := 1) hx hb dX6_insert_83 (by decide) ?_
        refine lv_iadd hx hb dX6_insert_84 ?_
        refine zz_topi (v := nI (lo + 1)) (nI_1 _) ?_
        refine lv_iload_n hx hb dX6_insert_85 rfl (lv_at hl 7 rfl) ?_
        refine lv_iload hx hb dX6_insert_86 (lv_at hl 1 rfl) ?_
        refine lv_isub hx hb dX6_insert_88 ?_
        refine zz_topi (v := nI (t - lo)) (pk_sub (by omega)) ?_
        refine zz_copyl (x := lo) (y := (lo + 1)) (n := (t - lo)) hC hZ hl zk_477 zk_439 zk_438 zk_9 1 1 rfl rfl (by omega) (by omega) (by omega) (Nat.le_of_ble_eq_true rfl) (by decide) dX6_insert_89 (fun H locs hZ => ?_)
        have hZ : zz_Z g A s.heap [cw_k5 st (nI na) (nI nu) kd dp cl sa ln bt pn bf, cw_l g bt 4000 (va_cpy btf btf lo (lo + 1) (t - lo))] H locs := hZ
        refine lv_aload_n hx hb dX6_insert_92 rfl (lv_at hl 4 rfl) ?_
        refine zz_get hC hZ 0 rfl zf_X6_27 rfl dX6_insert_93 ?_
        refine lv_iload hx hb dX6_insert_96 (lv_at hl 1 rfl) ?_
        refine lv_lload hx hb dX6_insert_98 (lv_at hl 3 rfl) ?_
        have bd8 : lo < 4000 := by omega
        refine zz_lastn hC hZ 1 rfl bd8 (by decide) dX6_insert_100 (fun H locs hZ => ?_)
        have hZ : zz_Z g A s.heap [cw_k5 st (nI na) (nI nu) kd dp cl sa ln bt pn bf, cw_l g bt 4000 (vp_updL (va_cpy btf btf lo (lo + 1) (t - lo)) lo (btf t))] H locs := hZ
        exact zz_vret hC hZ (⟨(vp_updL (va_cpy btf btf lo (lo + 1) (t - lo)) lo (btf t)), lo, fun j hj => (pk_uLn (by omega)).trans (pk_cpy_out (by omega)), by omega, zl_inE (by omega), fun hs => ⟨(hlh hs).1, fun j h1 h2 => (hlh hs).2 j (by omega) h2⟩, rfl⟩) (Nat.le_of_ble_eq_true rfl) (Nat.le_of_ble_eq_true rfl) dX6_insert_101
      · have nc5 : ¬ hi ≤ lo := fun zq => c5 (show nI (hi) ≤ nI (lo) from (nI_leI bd6 bd7).mpr zq)
        refine lv_iload hx hb dX6_insert_29 (lv_at hl 1 rfl) ?_
        refine lv_iload hx hb dX6_insert_31 (lv_at hl 0 rfl) ?_
        refine lv_iadd hx hb dX6_insert_33 ?_
        refine zz_topi (v := nI (lo + hi)) (nI_add _ _) ?_
        refine lv_iconst (v := 2) hx hb dX6_insert_34 (by decide) ?_
        refine lv_idiv hx hb dX6_insert_35 (by decide) ?_
        refine zz_topi (v := nI ((lo + hi) / 2)) (zl_div2 (by omega)) ?_
        refine lv_istore (lv' := [(10, .int (nI ((lo + hi) / 2))), (9, .int (nI hi)), (8, .int (nI lo)), (6, .long (fn_co_rank k (btf t))), (4, .long (btf t)), (0, .ref st), (1, .int k), (2, .int (nI f)), (3, .int (nI t))]) hx hb dX6_insert_36 hl (by decide) rfl (fun ls hl => ?_)
        refine lv_iload_n hx hb dX6_insert_38 rfl (lv_at hl 6 rfl) ?_
        refine lv_aload_n hx hb dX6_insert_39 rfl (lv_at hl 5 rfl) ?_
        refine zz_get hC hZ 0 rfl zf_X6_27 rfl dX6_insert_40 ?_
        refine lv_iload hx hb dX6_insert_43 (lv_at hl 0 rfl) ?_
        have bd9 : ((lo + hi) / 2) < 4000 := by omega
        refine zz_laldn hC hZ 1 rfl bd9 (by decide) dX6_insert_45 ?_
        refine zz_lS (As := [.int k, .long (btf ((lo + hi) / 2))]) (wc := []) (wr := [cw_k5 st (nI na) (nI nu) kd dp cl sa ln bt pn bf, cw_l g bt 4000 btf]) (rest := []) hC hZ hs hl zc_X6_75 (co_rank g k (btf ((lo + hi) / 2))) [] [0, 1] rfl rfl (by decide +kernel) rfl rfl (Nat.le_of_ble_eq_true rfl) ⟨⟨Nat.le_of_ble_eq_true rfl, Nat.le_of_ble_eq_true rfl⟩, Nat.le_of_ble_eq_true rfl, Nat.le_of_ble_eq_true rfl⟩ dX6_insert_46 (fun r10 u11 H locs hp hZ => ?_)
        obtain ⟨rfl, rfl⟩ := hp
        have hZ : zz_Z g A s.heap [cw_k5 st (nI na) (nI nu) kd dp cl sa ln bt pn bf, cw_l g bt 4000 btf] H locs := hZ
        refine lv_lload hx hb dX6_insert_49 (lv_at hl 3 rfl) ?_
        refine zz_lcmp_gt (tgt := 64) hC dX6_insert_51 dX6_insert_52 (by decide) (fun c12 => ?_) (fun c12 => ?_)
        · refine lv_iload hx hb dX6_insert_64 (lv_at hl 0 rfl) ?_
          refine lv_istore (lv' := [(9, .int (nI ((lo + hi) / 2))), (10, .int (nI ((lo + hi) / 2))), (8, .int (nI lo)), (6, .long (fn_co_rank k (btf t))), (4, .long (btf t)), (0, .ref st), (1, .int k), (2, .int (nI f)), (3, .int (nI t))]) hx hb dX6_insert_66 hl (by decide) rfl (fun ls hl => ?_)
          refine lv_goto (tgt := 22) hx hb dX6_insert_68 (by decide) ?_
          exact ih lo ((lo + hi) / 2) H locs ls (by omega) (fun hs => ⟨(hlh hs).1, fun j h1 h2 => zl_ltn (zl_lto3 c12) (hs ((lo + hi) / 2) j (by omega) h1 h2)⟩) (by omega) hZ (lv_sub hl [0, 2, 3, 4, 5, 6, 7, 8] rfl)
        · refine lv_iload hx hb dX6_insert_55 (lv_at hl 0 rfl) ?_
          refine lv_iconst (v := 1) hx hb dX6_insert_57 (by decide) ?_
          refine lv_iadd hx hb dX6_insert_58 ?_
          refine zz_topi (v := nI (((lo + hi) / 2) + 1)) (nI_1 _) ?_
          refine lv_istore (lv' := [(8, .int (nI (((lo + hi) / 2) + 1))), (10, .int (nI ((lo + hi) / 2))), (9, .int (nI hi)), (6, .long (fn_co_rank k (btf t))), (4, .long (btf t)), (0, .ref st), (1, .int k), (2, .int (nI f)), (3, .int (nI t))]) hx hb dX6_insert_59 hl (by decide) rfl (fun ls hl => ?_)
          refine lv_goto (tgt := 68) hx hb dX6_insert_61 (by decide) ?_
          refine lv_goto (tgt := 22) hx hb dX6_insert_68 (by decide) ?_
          exact ih (((lo + hi) / 2) + 1) hi H locs ls (by omega) (fun hs => ⟨fun j h1 h2 => zl_ltr (hs j ((lo + hi) / 2) h1 (by omega) (by omega)) (zl_lto2 c12), (hlh hs).2⟩) (by omega) hZ (lv_sub hl [2, 0, 3, 4, 5, 6, 7, 8] rfl)
  exact LP4 _ f t H locs ls (by omega) (fun _ => ⟨fun j h1 h2 => absurd h1 (by omega), fun j h1 h2 => absurd h1 (by omega)⟩) (Nat.lt_succ_self _) hZ (lv_sub hl [0, 1, 2, 3, 4, 5, 6, 7] rfl)
theorem pk_bf0 {bt bf : Nat → Int64} {s n j : Nat} (h : j < n) : va_cpy bt bf s 0 n j = bt (s + j) := by
  have z := pk_cpy_in (f := bt) (g := bf) (sp := s) (dp := 0) (n := n) (j := j) (Nat.zero_le _) (by omega)
  rw [Nat.sub_zero] at z
  exact z
theorem dg_X6_putInOrder_0 : (decode cX6_putInOrder 0 = .ok (.aload_n 0, 1)) ∧ (decode cX6_putInOrder 1 = .ok (.getfield 21, 3)) ∧ (decode cX6_putInOrder 4 = .ok (.iload_n 1, 1)) ∧ (decode cX6_putInOrder 5 = .ok (.iaload, 1)) ∧ (decode cX6_putInOrder 6 = .ok (.iload_n 2, 1)) ∧ (decode cX6_putInOrder 7 = .ok (.iadd, 1)) ∧ (decode cX6_putInOrder 8 = .ok (.istore 4, 2)) ∧ (decode cX6_putInOrder 10 = .ok (.iload_n 3, 1)) ∧ (decode cX6_putInOrder 11 = .ok (.iload_n 2, 1)) ∧ (decode cX6_putInOrder 12 = .ok (.isub, 1)) ∧ (decode cX6_putInOrder 13 = .ok (.istore 5, 2)) ∧ (decode cX6_putInOrder 15 = .ok (.aload_n 0, 1)) ∧ (decode cX6_putInOrder 16 = .ok (.getfield 27, 3)) ∧ (decode cX6_putInOrder 19 = .ok (.iload 4, 2)) ∧ (decode cX6_putInOrder 21 = .ok (.aload_n 0, 1)) ∧ (decode cX6_putInOrder 22 = .ok (.getfield 35, 3)) := by decide +kernel
theorem dX6_putInOrder_0 : decode cX6_putInOrder 0 = .ok (.aload_n 0, 1) := dg_X6_putInOrder_0.1
theorem dX6_putInOrder_1 : decode cX6_putInOrder 1 = .ok (.getfield 21, 3) := dg_X6_putInOrder_0.2.1
theorem dX6_putInOrder_4 : decode cX6_putInOrder 4 = .ok (.iload_n 1, 1) := dg_X6_putInOrder_0.2.2.1
theorem dX6_putInOrder_5 : decode cX6_putInOrder 5 = .ok (.iaload, 1) := dg_X6_putInOrder_0.2.2.2.1
theorem dX6_putInOrder_6 : decode cX6_putInOrder 6 = .ok (.iload_n 2, 1) := dg_X6_putInOrder_0.2.2.2.2.1
theorem dX6_putInOrder_7 : decode cX6_putInOrder 7 = .ok (.iadd, 1) := dg_X6_putInOrder_0.2.2.2.2.2.1
theorem dX6_putInOrder_8 : decode cX6_putInOrder 8 = .ok (.istore 4, 2) := dg_X6_putInOrder_0.2.2.2.2.2.2.1
theorem dX6_putInOrder_10 : decode cX6_putInOrder 10 = .ok (.iload_n 3, 1) := dg_X6_putInOrder_0.2.2.2.2.2.2.2.1
theorem dX6_putInOrder_11 : decode cX6_putInOrder 11 = .ok (.iload_n 2, 1) := dg_X6_putInOrder_0.2.2.2.2.2.2.2.2.1
theorem dX6_putInOrder_12 : decode cX6_putInOrder 12 = .ok (.isub, 1) := dg_X6_putInOrder_0.2.2.2.2.2.2.2.2.2.1
theorem dX6_putInOrder_13 : decode cX6_putInOrder 13 = .ok (.istore 5, 2) := dg_X6_putInOrder_0.2.2.2.2.2.2.2.2.2.2.1
theorem dX6_putInOrder_15 : decode cX6_putInOrder 15 = .ok (.aload_n 0, 1) := dg_X6_putInOrder_0.2.2.2.2.2.2.2.2.2.2.2.1
theorem dX6_putInOrder_16 : decode cX6_putInOrder 16 = .ok (.getfield 27, 3) := dg_X6_putInOrder_0.2.2.2.2.2.2.2.2.2.2.2.2.1
theorem dX6_putInOrder_19 : decode cX6_putInOrder 19 = .ok (.iload 4, 2) := dg_X6_putInOrder_0.2.2.2.2.2.2.2.2.2.2.2.2.2.1
theorem dX6_putInOrder_21 : decode cX6_putInOrder 21 = .ok (.aload_n 0, 1) := dg_X6_putInOrder_0.2.2.2.2.2.2.2.2.2.2.2.2.2.2.1
theorem dX6_putInOrder_22 : decode cX6_putInOrder 22 = .ok (.getfield 35, 3) := dg_X6_putInOrder_0.2.2.2.2.2.2.2.2.2.2.2.2.2.2.2
theorem dg_X6_putInOrder_25 : (decode cX6_putInOrder 25 = .ok (.iconst 0, 1)) ∧ (decode cX6_putInOrder 26 = .ok (.iload 5, 2)) ∧ (decode cX6_putInOrder 28 = .ok (.invokestatic 65, 3)) ∧ (decode cX6_putInOrder 31 = .ok (.iconst 1, 1)) ∧ (decode cX6_putInOrder 32 = .ok (.istore 6, 2)) ∧ (decode cX6_putInOrder 34 = .ok (.iload 6, 2)) ∧ (decode cX6_putInOrder 36 = .ok (.iload 5, 2)) ∧ (decode cX6_putInOrder 38 = .ok (.if_icmp .ge 26, 3)) ∧ (decode cX6_putInOrder 41 = .ok (.aload_n 0, 1)) ∧ (decode cX6_putInOrder 42 = .ok (.aload_n 0, 1)) ∧ (decode cX6_putInOrder 43 = .ok (.getfield 9, 3)) ∧ (decode cX6_putInOrder 46 = .ok (.iload_n 1, 1)) ∧ (decode cX6_putInOrder 47 = .ok (.iaload, 1)) ∧ (decode cX6_putInOrder 48 = .ok (.iload 4, 2)) ∧ (decode cX6_putInOrder 50 = .ok (.iload 4, 2)) ∧ (decode cX6_putInOrder 52 = .ok (.iload 6, 2)) := by decide +kernel
theorem dX6_putInOrder_25 : decode cX6_putInOrder 25 = .ok (.iconst 0, 1) := dg_X6_putInOrder_25.1
theorem dX6_putInOrder_26 : decode cX6_putInOrder 26 = .ok (.iload 5, 2) := dg_X6_putInOrder_25.2.1
theorem dX6_putInOrder_28 : decode cX6_putInOrder 28 = .ok (.invokestatic 65, 3) := dg_X6_putInOrder_25.2.2.1
theorem dX6_putInOrder_31 : decode cX6_putInOrder 31 = .ok (.iconst 1, 1) := dg_X6_putInOrder_25.2.2.2.1
theorem dX6_putInOrder_32 : decode cX6_putInOrder 32 = .ok (.istore 6, 2) := dg_X6_putInOrder_25.2.2.2.2.1
theorem dX6_putInOrder_34 : decode cX6_putInOrder 34 = .ok (.iload 6, 2) := dg_X6_putInOrder_25.2.2.2.2.2.1
theorem dX6_putInOrder_36 : decode cX6_putInOrder 36 = .ok (.iload 5, 2) := dg_X6_putInOrder_25.2.2.2.2.2.2.1
theorem dX6_putInOrder_38 : decode cX6_putInOrder 38 = .ok (.if_icmp .ge 26, 3) := dg_X6_putInOrder_25.2.2.2.2.2.2.2.1
theorem dX6_putInOrder_41 : decode cX6_putInOrder 41 = .ok (.aload_n 0, 1) := dg_X6_putInOrder_25.2.2.2.2.2.2.2.2.1
theorem dX6_putInOrder_42 : decode cX6_putInOrder 42 = .ok (.aload_n 0, 1) := dg_X6_putInOrder_25.2.2.2.2.2.2.2.2.2.1
theorem dX6_putInOrder_43 : decode cX6_putInOrder 43 = .ok (.getfield 9, 3) := dg_X6_putInOrder_25.2.2.2.2.2.2.2.2.2.2.1
theorem dX6_putInOrder_46 : decode cX6_putInOrder 46 = .ok (.iload_n 1, 1) := dg_X6_putInOrder_25.2.2.2.2.2.2.2.2.2.2.2.1
theorem dX6_putInOrder_47 : decode cX6_putInOrder 47 = .ok (.iaload, 1) := dg_X6_putInOrder_25.2.2.2.2.2.2.2.2.2.2.2.2.1
theorem dX6_putInOrder_48 : decode cX6_putInOrder 48 = .ok (.iload 4, 2) := dg_X6_putInOrder_25.2.2.2.2.2.2.2.2.2.2.2.2.2.1
theorem dX6_putInOrder_50 : decode cX6_putInOrder 50 = .ok (.iload 4, 2) := dg_X6_putInOrder_25.2.2.2.2.2.2.2.2.2.2.2.2.2.2.1
theorem dX6_putInOrder_52 : decode cX6_putInOrder 52 = .ok (.iload 6, 2) := dg_X6_putInOrder_25.2.2.2.2.2.2.2.2.2.2.2.2.2.2.2
theorem dg_X6_putInOrder_54 : (decode cX6_putInOrder 54 = .ok (.iadd, 1)) ∧ (decode cX6_putInOrder 55 = .ok (.invokevirtual 71, 3)) ∧ (decode cX6_putInOrder 58 = .ok (.iinc 6 1, 3)) ∧ (decode cX6_putInOrder 61 = .ok (.goto (-27), 3)) ∧ (decode cX6_putInOrder 64 = .ok (.iconst 0, 1)) ∧ (decode cX6_putInOrder 65 = .ok (.istore 6, 2)) ∧ (decode cX6_putInOrder 67 = .ok (.iconst 0, 1)) ∧ (decode cX6_putInOrder 68 = .ok (.istore 7, 2)) ∧ (decode cX6_putInOrder 70 = .ok (.iload 7, 2)) ∧ (decode cX6_putInOrder 72 = .ok (.iload 5, 2)) ∧ (decode cX6_putInOrder 74 = .ok (.if_icmp .ge 33, 3)) ∧ (decode cX6_putInOrder 77 = .ok (.aload_n 0, 1)) ∧ (decode cX6_putInOrder 78 = .ok (.getfield 27, 3)) ∧ (decode cX6_putInOrder 81 = .ok (.iload 4, 2)) ∧ (decode cX6_putInOrder 83 = .ok (.iload 7, 2)) ∧ (decode cX6_putInOrder 85 = .ok (.iadd, 1)) := by decide +kernel
theorem dX6_putInOrder_54 : decode cX6_putInOrder 54 = .ok (.iadd, 1) := dg_X6_putInOrder_54.1
theorem dX6_putInOrder_55 : decode cX6_putInOrder 55 = .ok (.invokevirtual 71, 3) := dg_X6_putInOrder_54.2.1
theorem dX6_putInOrder_58 : decode cX6_putInOrder 58 = .ok (.iinc 6 1, 3) := dg_X6_putInOrder_54.2.2.1
theorem dX6_putInOrder_61 : decode cX6_putInOrder 61 = .ok (.goto (-27), 3) := dg_X6_putInOrder_54.2.2.2.1
theorem dX6_putInOrder_64 : decode cX6_putInOrder 64 = .ok (.iconst 0, 1) := dg_X6_putInOrder_54.2.2.2.2.1
theorem dX6_putInOrder_65 : decode cX6_putInOrder 65 = .ok (.istore 6, 2) := dg_X6_putInOrder_54.2.2.2.2.2.1
theorem dX6_putInOrder_67 : decode cX6_putInOrder 67 = .ok (.iconst 0, 1) := dg_X6_putInOrder_54.2.2.2.2.2.2.1
theorem dX6_putInOrder_68 : decode cX6_putInOrder 68 = .ok (.istore 7, 2) := dg_X6_putInOrder_54.2.2.2.2.2.2.2.1
theorem dX6_putInOrder_70 : decode cX6_putInOrder 70 = .ok (.iload 7, 2) := dg_X6_putInOrder_54.2.2.2.2.2.2.2.2.1
theorem dX6_putInOrder_72 : decode cX6_putInOrder 72 = .ok (.iload 5, 2) := dg_X6_putInOrder_54.2.2.2.2.2.2.2.2.2.1
theorem dX6_putInOrder_74 : decode cX6_putInOrder 74 = .ok (.if_icmp .ge 33, 3) := dg_X6_putInOrder_54.2.2.2.2.2.2.2.2.2.2.1
theorem dX6_putInOrder_77 : decode cX6_putInOrder 77 = .ok (.aload_n 0, 1) := dg_X6_putInOrder_54.2.2.2.2.2.2.2.2.2.2.2.1
theorem dX6_putInOrder_78 : decode cX6_putInOrder 78 = .ok (.getfield 27, 3) := dg_X6_putInOrder_54.2.2.2.2.2.2.2.2.2.2.2.2.1
theorem dX6_putInOrder_81 : decode cX6_putInOrder 81 = .ok (.iload 4, 2) := dg_X6_putInOrder_54.2.2.2.2.2.2.2.2.2.2.2.2.2.1
theorem dX6_putInOrder_83 : decode cX6_putInOrder 83 = .ok (.iload 7, 2) := dg_X6_putInOrder_54.2.2.2.2.2.2.2.2.2.2.2.2.2.2.1
theorem dX6_putInOrder_85 : decode cX6_putInOrder 85 = .ok (.iadd, 1) := dg_X6_putInOrder_54.2.2.2.2.2.2.2.2.2.2.2.2.2.2.2
theorem dg_X6_putInOrder_86 : (decode cX6_putInOrder 86 = .ok (.laload, 1)) ∧ (decode cX6_putInOrder 87 = .ok (.aload_n 0, 1)) ∧ (decode cX6_putInOrder 88 = .ok (.getfield 35, 3)) ∧ (decode cX6_putInOrder 91 = .ok (.iload 7, 2)) ∧ (decode cX6_putInOrder 93 = .ok (.laload, 1)) ∧ (decode cX6_putInOrder 94 = .ok (.lcmp, 1)) ∧ (decode cX6_putInOrder 95 = .ok (.ifCond .eq 6, 3)) ∧ (decode cX6_putInOrder 98 = .ok (.iinc 6 1, 3)) ∧ (decode cX6_putInOrder 101 = .ok (.iinc 7 1, 3)) ∧ (decode cX6_putInOrder 104 = .ok (.goto (-34), 3)) ∧ (decode cX6_putInOrder 107 = .ok (.iload 6, 2)) ∧ (decode cX6_putInOrder 109 = .ok (.ireturn, 1)) := by decide +kernel
theorem dX6_putInOrder_86 : decode cX6_putInOrder 86 = .ok (.laload, 1) := dg_X6_putInOrder_86.1
theorem dX6_putInOrder_87 : decode cX6_putInOrder 87 = .ok (.aload_n 0, 1) := dg_X6_putInOrder_86.2.1
theorem dX6_putInOrder_88 : decode cX6_putInOrder 88 = .ok (.getfield 35, 3) := dg_X6_putInOrder_86.2.2.1
theorem dX6_putInOrder_91 : decode cX6_putInOrder 91 = .ok (.iload 7, 2) := dg_X6_putInOrder_86.2.2.2.1
theorem dX6_putInOrder_93 : decode cX6_putInOrder 93 = .ok (.laload, 1) := dg_X6_putInOrder_86.2.2.2.2.1
theorem dX6_putInOrder_94 : decode cX6_putInOrder 94 = .ok (.lcmp, 1) := dg_X6_putInOrder_86.2.2.2.2.2.1
theorem dX6_putInOrder_95 : decode cX6_putInOrder 95 = .ok (.ifCond .eq 6, 3) := dg_X6_putInOrder_86.2.2.2.2.2.2.1
theorem dX6_putInOrder_98 : decode cX6_putInOrder 98 = .ok (.iinc 6 1, 3) := dg_X6_putInOrder_86.2.2.2.2.2.2.2.1
theorem dX6_putInOrder_101 : decode cX6_putInOrder 101 = .ok (.iinc 7 1, 3) := dg_X6_putInOrder_86.2.2.2.2.2.2.2.2.1
theorem dX6_putInOrder_104 : decode cX6_putInOrder 104 = .ok (.goto (-34), 3) := dg_X6_putInOrder_86.2.2.2.2.2.2.2.2.2.1
theorem dX6_putInOrder_107 : decode cX6_putInOrder 107 = .ok (.iload 6, 2) := dg_X6_putInOrder_86.2.2.2.2.2.2.2.2.2.2.1
theorem dX6_putInOrder_109 : decode cX6_putInOrder 109 = .ok (.ireturn, 1) := dg_X6_putInOrder_86.2.2.2.2.2.2.2.2.2.2.2
theorem zk_65 : Cond.fieldLink RX6 35 RX6 "before" "[J" ∈ zz_w := zz_in (List.mem_append_right _ (List.mem_append_left _ (List.mem_of_getElem? (i := 65) (by decide +kernel)))) rfl
theorem zf_X6_35 : zz_f RX6 35 5 9 := ⟨RX6, TX6, 10, rfl, zi_X6, by decide, zk_65⟩
theorem zk_478 : Cond.methodLink RX6 71 yX6_insert ∈ zz_w := zz_in (List.mem_append_right _ (List.mem_append_right _ (List.mem_append_left _ (List.mem_of_getElem? (i := 238) (by decide +kernel))))) rfl
set_option maxRecDepth 20000 in
theorem zk_481 : Cond.code yX6_insert cX6_insert 11 none ∈ zz_w := zz_in (List.mem_append_right _ (List.mem_append_right _ (List.mem_append_right _ (List.mem_append_left _ (List.mem_of_getElem? (i := 1) (rfl)))))) rfl
theorem zk_480 : Cond.instanceMethod yX6_insert ∈ zz_w := zz_in (List.mem_append_right _ (List.mem_append_right _ (List.mem_append_right _ (List.mem_append_left _ (List.mem_of_getElem? (i := 0) (by decide +kernel)))))) rfl
theorem zs_8 : Cond.selects RX6 yX6_insert yX6_insert ∈ zz_w := zz_in (List.mem_append_left _ (List.mem_of_getElem? (i := 8) (by decide +kernel))) rfl
theorem zc_X6_71 : zz_cV RX6 71 yX6_insert cX6_insert 11 none 3 := ⟨⟨zk_478, zk_481, zk_2, by decide, by decide, by decide +kernel⟩, zk_480, zs_8⟩
abbrev rm_co_putInOrder : Room := { frames := 2, cells := 0, slots := 0, locals := 90 }
abbrev po_co_putInOrder (g : zz_G) (st : Nat) (kd : Nat) (dp : Nat) (cl : Nat) (sa : Nat) (ln : Nat) (bt : Nat) (pn : Nat) (bf : Nat) (na : Nat) (nu : Nat) (kdf : Nat → Int32) (saf : Nat → Int32) (btf : Nat → Int64) (bff : Nat → Int64) (a : Nat) (sz : Nat) (lz : Nat) (f : Nat) (t : Nat) (h_60 : a < 60) (e_s : saf a = nI sz) (h_b : sz + lz ≤ 4000 ∧ lz ≤ 200) (h_t : f ≤ t ∧ t ≤ lz) : Int32 → va_W → Prop := fun (r : Int32) (u : va_W) => ∃ (bt2 : Nat → Int64) (bf2 : Nat → Int64), (∀ j, j < sz + f ∨ sz + t ≤ j → bt2 j = btf j) ∧ (bt2 = sp_is (fn_co_rank (kdf a)) (sz + f) (t - f - 1) (sz + f + 1) btf) ∧ (r = sp_cd bt2 (zz_sft btf (sz + f)) (sz + f) (t - f) 0 0) ∧ u = [cw_k5 st (nI na) (nI nu) kd dp cl sa ln bt pn bf, cw_i g kd 60 kdf, cw_i g sa 60 saf, cw_l g bt 4000 bt2, cw_l g bf 200 bf2]
set_option maxHeartbeats 4000000 in
set_option maxRecDepth 100000 in
theorem co_putInOrder (g : zz_G) (st : Nat) (kd : Nat) (dp : Nat) (cl : Nat) (sa : Nat) (ln : Nat) (bt : Nat) (pn : Nat) (bf : Nat) (na : Nat) (nu : Nat) (kdf : Nat → Int32) (saf : Nat → Int32) (btf : Nat → Int64) (bff : Nat → Int64) (a : Nat) (sz : Nat) (lz : Nat) (f : Nat) (t : Nat) (h_60 : a < 60) (e_s : saf a = nI sz) (h_b : sz + lz ≤ 4000 ∧ lz ≤ 200) (h_t : f ≤ t ∧ t ≤ lz) : zz_I g yX6_putInOrder (.code yX6_putInOrder cX6_putInOrder 8 (some .int)) rm_co_putInOrder [.ref st, .int (nI a), .int (nI f), .int (nI t)] [cw_k5 st (nI na) (nI nu) kd dp cl sa ln bt pn bf, cw_i g kd 60 kdf, cw_i g sa 60 saf, cw_l g bt 4000 btf, cw_l g bf 200 bff] (po_co_putInOrder g st kd dp cl sa ln bt pn bf na nu kdf saf btf bff a sz lz f t h_60 e_s h_b h_t) := by
  refine zz_I.intro (own := RX6) (cc := cX6_putInOrder) (nL := 8) (by decide) rfl (Nat.le_of_ble_eq_true rfl) ?_
  intro p l e s m args below meth c A H locs ls hC hnm hs hZ hl
  obtain ⟨hx, hb, hml, hown, hts, hr, hlocks, hK⟩ := id hC
  have hl : lv_has ls 8 [(0, .ref st), (1, .int (nI a)), (2, .int (nI f)), (3, .int (nI t))] := hl
  have hZ : zz_Z g A s.heap [cw_k5 st (nI na) (nI nu) kd dp cl sa ln bt pn bf, cw_i g kd 60 kdf, cw_i g sa 60 saf, cw_l g bt 4000 btf, cw_l g bf 200 bff] H locs := hZ
  refine lv_aload_n hx hb dX6_putInOrder_0 rfl (lv_at hl 0 rfl) ?_
  refine zz_get hC hZ 0 rfl zf_X6_21 rfl dX6_putInOrder_1 ?_
  refine lv_iload_n hx hb dX6_putInOrder_4 rfl (lv_at hl 1 rfl) ?_
  have bd1 : a < 60 := by omega
  refine zz_ialdn hC hZ 2 rfl bd1 (by decide) dX6_putInOrder_5 ?_
  refine zz_topi (v := nI sz) (e_s) ?_
  refine lv_iload_n hx hb dX6_putInOrder_6 rfl (lv_at hl 2 rfl) ?_
  refine lv_iadd hx hb dX6_putInOrder_7 ?_
  refine zz_topi (v := nI (sz + f)) (nI_add _ _) ?_
  refine lv_istore (lv' := [(4, .int (nI (sz + f))), (0, .ref st), (1, .int (nI a)), (2, .int (nI f)), (3, .int (nI t))]) hx hb dX6_putInOrder_8 hl (by decide) rfl (fun ls hl => ?_)
  refine lv_iload_n hx hb dX6_putInOrder_10 rfl (lv_at hl 4 rfl) ?_
  refine lv_iload_n hx hb dX6_putInOrder_11 rfl (lv_at hl 3 rfl) ?_
  refine lv_isub hx hb dX6_putInOrder_12 ?_
  refine zz_topi (v := nI (t - f)) (pk_sub (by omega)) ?_
  refine lv_istore (lv' := [(5, .int (nI (t - f))), (4, .int (nI (sz + f))), (0, .ref st), (1, .int (nI a)), (2, .int (nI f)), (3, .int (nI t))]) hx hb dX6_putInOrder_13 hl (by decide) rfl (fun ls hl => ?_)
  refine lv_aload_n hx hb dX6_putInOrder_15 rfl (lv_at hl 2 rfl) ?_
  refine zz_get hC hZ 0 rfl zf_X6_27 rfl dX6_putInOrder_16 ?_
  refine lv_iload hx hb dX6_putInOrder_19 (lv_at hl 1 rfl) ?_
  refine lv_aload_n hx hb dX6_putInOrder_21 rfl (lv_at hl 2 rfl) ?_
  refine zz_get hC hZ 0 rfl zf_X6_35 rfl dX6_putInOrder_22 ?_
  refine lv_iconst (v := 0) hx hb dX6_putInOrder_25 (by decide) ?_
  refine lv_iload hx hb dX6_putInOrder_26 (lv_at hl 0 rfl) ?_
  refine zz_copyl (x := (sz + f)) (y := 0) (n := (t - f)) hC hZ hl zk_477 zk_439 zk_438 zk_9 3 4 rfl rfl (by omega) (by omega) (by omega) (Nat.le_of_ble_eq_true rfl) (by decide) dX6_putInOrder_28 (fun H locs hZ => ?_)
  have hZ : zz_Z g A s.heap [cw_k5 st (nI na) (nI nu) kd dp cl sa ln bt pn bf, cw_i g kd 60 kdf, cw_i g sa 60 saf, cw_l g bt 4000 btf, cw_l g bf 200 (va_cpy btf bff (sz + f) 0 (t - f))] H locs := hZ
  refine lv_iconst (v := 1) hx hb dX6_putInOrder_31 (by decide) ?_
  refine lv_istore (lv' := [(6, .int 1), (5, .int (nI (t - f))), (4, .int (nI (sz + f))), (0, .ref st), (1, .int (nI a)), (2, .int (nI f)), (3, .int (nI t))]) hx hb dX6_putInOrder_32 hl (by decide) rfl (fun ls hl => ?_)
  have LP2 : ∀ (N : Nat) (qn : Nat) (bt1 : Nat → Int64) (H : Heap) (locs : List Loc) (ls : Array Slot), (1 ≤ qn ∧ qn ≤ t + 1) → (∀ j, j < sz + f ∨ sz + t ≤ j → bt1 j = btf j) → (zz_so (fn_co_rank (kdf a)) bt1 (sz + f) (sz + f + qn)) → (sp_is (fn_co_rank (kdf a)) (sz + f) (t - f - 1) (sz + f + 1) btf = sp_is (fn_co_rank (kdf a)) (sz + f) (t - f - qn) (sz + f + qn) bt1) → (t + 1 - qn) < N → zz_Z g A s.heap [cw_k5 st (nI na) (nI nu) kd dp cl sa ln bt pn bf, cw_i g kd 60 kdf, cw_i g sa 60 saf, cw_l g bt 4000 bt1, cw_l g bf 200 (va_cpy btf bff (sz + f) 0 (t - f))] H locs → lv_has ls 8 [(6, .int (nI qn)), (5, .int (nI (t - f))), (4, .int (nI (sz + f))), (0, .ref st), (1, .int (nI a)), (2, .int (nI f)), (3, .int (nI t))] → W p l e rm_co_putInOrder s m args below meth c H locs 0 0 (zz_QI below g args s A rm_co_putInOrder.cells rm_co_putInOrder.slots (po_co_putInOrder g st kd dp cl sa ln bt pn bf na nu kdf saf btf bff a sz lz f t h_60 e_s h_b h_t)) (F0 m 34 ls []) := by
    intro N
    induction N with
    | zero =>
      intro qn bt1 H locs ls hq hbt hso his hN
      exact absurd hN (Nat.not_lt_zero _)
    | succ N ih =>
      intro qn bt1 H locs ls hq hbt hso his hN hZ hl
      refine lv_iload hx hb dX6_putInOrder_34 (lv_at hl 0 rfl) ?_
      refine lv_iload hx hb dX6_putInOrder_36 (lv_at hl 1 rfl) ?_
      have bd4 : (t - f) < 2 ^ 31 := by omega
      have bd5 : qn < 2 ^ 31 := by omega
      refine lv_icmp_ge (tgt := 64) hx hb dX6_putInOrder_38 (by decide) (fun c3 => ?_) (fun c3 => ?_)
      · have nc3 : (t - f) ≤ qn := (nI_leI bd4 bd5).mp (show nI ((t - f)) ≤ nI (qn) from c3)
        refine lv_iconst (v := 0) hx hb dX6_putInOrder_64 (by decide) ?_
        refine lv_istore (lv' := [(6, .int 0), (5, .int (nI (t - f))), (4, .int (nI (sz + f))), (0, .ref st), (1, .int (nI a)), (2, .int (nI f)), (3, .int (nI t))]) hx hb dX6_putInOrder_65 hl (by decide) rfl (fun ls hl => ?_)
        refine lv_iconst (v := 0) hx hb dX6_putInOrder_67 (by decide) ?_
        refine lv_istore (lv' := [(7, .int 0), (6, .int 0), (5, .int (nI (t - f))), (4, .int (nI (sz + f))), (0, .ref st), (1, .int (nI a)), (2, .int (nI f)), (3, .int (nI t))]) hx hb dX6_putInOrder_68 hl (by decide) rfl (fun ls hl => ?_)
        have hE : bt1 = sp_is (fn_co_rank (kdf a)) (sz + f) (t - f - 1) (sz + f + 1) btf := by rw [his, show t - f - qn = 0 by omega, sp_is]
        have LP6 : ∀ (N : Nat) (cn : Nat) (w : Int32) (H : Heap) (locs : List Loc) (ls : Array Slot), (cn ≤ t + 1) → (sp_cd bt1 (zz_sft btf (sz + f)) (sz + f) (t - f) 0 0 = sp_cd bt1 (zz_sft btf (sz + f)) (sz + f) (t - f - cn) cn w) → (t + 1 - cn) < N → zz_Z g A s.heap [cw_k5 st (nI na) (nI nu) kd dp cl sa ln bt pn bf, cw_i g kd 60 kdf, cw_i g sa 60 saf, cw_l g bt 4000 bt1, cw_l g bf 200 (va_cpy btf bff (sz + f) 0 (t - f))] H locs → lv_has ls 8 [(7, .int (nI cn)), (6, .int w), (5, .int (nI (t - f))), (4, .int (nI (sz + f))), (0, .ref st), (1, .int (nI a)), (2, .int (nI f)), (3, .int (nI t))] → W p l e rm_co_putInOrder s m args below meth c H locs 0 0 (zz_QI below g args s A rm_co_putInOrder.cells rm_co_putInOrder.slots (po_co_putInOrder g st kd dp cl sa ln bt pn bf na nu kdf saf btf bff a sz lz f t h_60 e_s h_b h_t)) (F0 m 70 ls []) := by
          intro N
          induction N with
          | zero =>
            intro cn w H locs ls hc hcd hN
            exact absurd hN (Nat.not_lt_zero _)
          | succ N ih =>
            intro cn w H locs ls hc hcd hN hZ hl
            refine lv_iload hx hb dX6_putInOrder_70 (lv_at hl 0 rfl) ?_
            refine lv_iload hx hb dX6_putInOrder_72 (lv_at hl 2 rfl) ?_
            have bd8 : cn < 2 ^ 31 := by omega
            refine lv_icmp_ge (tgt := 107) hx hb dX6_putInOrder_74 (by decide) (fun c7 => ?_) (fun c7 => ?_)
            · have nc7 : (t - f) ≤ cn := (nI_leI bd4 bd8).mp (show nI ((t - f)) ≤ nI (cn) from c7)
              refine lv_iload hx hb dX6_putInOrder_107 (lv_at hl 1 rfl) ?_
              exact zz_iret hC hZ (⟨bt1, (va_cpy btf bff (sz + f) 0 (t - f)), hbt, hE, by rw [hcd, show t - f - cn = 0 by omega, sp_cd], rfl⟩) (Nat.le_of_ble_eq_true rfl) (Nat.le_of_ble_eq_true rfl) dX6_putInOrder_109
            · have nc7 : ¬ (t - f) ≤ cn := fun zq => c7 (show nI ((t - f)) ≤ nI (cn) from (nI_leI bd4 bd8).mpr zq)
              refine lv_aload_n hx hb dX6_putInOrder_77 rfl (lv_at hl 4 rfl) ?_
              refine zz_get hC hZ 0 rfl zf_X6_27 rfl dX6_putInOrder_78 ?_
              refine lv_iload hx hb dX6_putInOrder_81 (lv_at hl 3 rfl) ?_
              refine lv_iload hx hb dX6_putInOrder_83 (lv_at hl 0 rfl) ?_
              refine lv_iadd hx hb dX6_putInOrder_85 ?_
              refine zz_topi (v := nI ((sz + f) + cn)) (nI_add _ _) ?_
              have bd9 : ((sz + f) + cn) < 4000 := by omega
              refine zz_laldn hC hZ 3 rfl bd9 (by decide) dX6_putInOrder_86 ?_
              refine lv_aload_n hx hb dX6_putInOrder_87 rfl (lv_at hl 4 rfl) ?_
              refine zz_get hC hZ 0 rfl zf_X6_35 rfl dX6_putInOrder_88 ?_
              refine lv_iload hx hb dX6_putInOrder_91 (lv_at hl 0 rfl) ?_
              have bd10 : cn < 200 := by omega
              refine zz_laldn hC hZ 4 rfl bd10 (by decide) dX6_putInOrder_93 ?_
              refine zz_lcmp_eq (tgt := 101) hC dX6_putInOrder_94 dX6_putInOrder_95 (by decide) (fun c11 => ?_) (fun c11 => ?_)
              · refine lv_iinc (v := nI (cn + 1)) (lv' := [(7, .int (nI (cn + 1))), (6, .int w), (5, .int (nI (t - f))), (4, .int (nI (sz + f))), (0, .ref st), (1, .int (nI a)), (2, .int (nI f)), (3, .int (nI t))]) hx hb dX6_putInOrder_101 hl (k := 0) rfl (nI_1 _) (by decide) rfl (fun ls hl => ?_)
                refine lv_goto (tgt := 70) hx hb dX6_putInOrder_104 (by decide) ?_
                exact ih (cn + 1) w H locs ls (by omega) (by rw [hcd, show t - f - cn = (t - f - (cn + 1)) + 1 by omega, sp_cd, if_pos (show bt1 (sz + f + cn) = zz_sft btf (sz + f) cn from (c11).trans (pk_bf0 (by omega)))]) (by omega) hZ (lv_sub hl [0, 1, 2, 3, 4, 5, 6, 7] rfl)
              · refine lv_iinc (v := w + 1) (lv' := [(6, .int (w + 1)), (7, .int (nI cn)), (5, .int (nI (t - f))), (4, .int (nI (sz + f))), (0, .ref st), (1, .int (nI a)), (2, .int (nI f)), (3, .int (nI t))]) hx hb dX6_putInOrder_98 hl (k := 1) rfl (by first | rfl | decide) (by decide) rfl (fun ls hl => ?_)
                refine lv_iinc (v := nI (cn + 1)) (lv' := [(7, .int (nI (cn + 1))), (6, .int (w + 1)), (5, .int (nI (t - f))), (4, .int (nI (sz + f))), (0, .ref st), (1, .int (nI a)), (2, .int (nI f)), (3, .int (nI t))]) hx hb dX6_putInOrder_101 hl (k := 1) rfl (nI_1 _) (by decide) rfl (fun ls hl => ?_)
                refine lv_goto (tgt := 70) hx hb dX6_putInOrder_104 (by decide) ?_
                exact ih (cn + 1) (w + 1) H locs ls (by omega) (by rw [hcd, show t - f - cn = (t - f - (cn + 1)) + 1 by omega, sp_cd, if_neg (fun z => c11 (z.trans (pk_bf0 (by omega)).symm))]) (by omega) hZ (lv_sub hl [0, 1, 2, 3, 4, 5, 6, 7] rfl)
        exact LP6 _ 0 0 H locs ls (by omega) (rfl) (Nat.lt_succ_self _) hZ (lv_sub hl [0, 1, 2, 3, 4, 5, 6, 7] rfl)
      · have nc3 : ¬ (t - f) ≤ qn := fun zq => c3 (show nI ((t - f)) ≤ nI (qn) from (nI_leI bd4 bd5).mpr zq)
        refine lv_aload_n hx hb dX6_putInOrder_41 rfl (lv_at hl 3 rfl) ?_
        refine lv_aload_n hx hb dX6_putInOrder_42 rfl (lv_at hl 3 rfl) ?_
        refine zz_get hC hZ 0 rfl zf_X6_9 rfl dX6_putInOrder_43 ?_
        refine lv_iload_n hx hb dX6_putInOrder_46 rfl (lv_at hl 4 rfl) ?_
        refine zz_ialdn hC hZ 1 rfl bd1 (by decide) dX6_putInOrder_47 ?_
        refine lv_iload hx hb dX6_putInOrder_48 (lv_at hl 2 rfl) ?_
        refine lv_iload hx hb dX6_putInOrder_50 (lv_at hl 2 rfl) ?_
        refine lv_iload hx hb dX6_putInOrder_52 (lv_at hl 0 rfl) ?_
        refine lv_iadd hx hb dX6_putInOrder_54 ?_
        refine zz_topi (v := nI ((sz + f) + qn)) (nI_add _ _) ?_
        refine zz_vV (As := [.int (kdf a), .int (nI (sz + f)), .int (nI ((sz + f) + qn))]) (wc := [cw_k5 st (nI na) (nI nu) kd dp cl sa ln bt pn bf, cw_l g bt 4000 bt1]) (wr := [cw_i g kd 60 kdf, cw_i g sa 60 saf, cw_l g bf 200 (va_cpy btf bff (sz + f) 0 (t - f))]) (rest := []) hC hZ hs hl zc_X6_71 (co_insert g st kd dp cl sa ln bt pn bf na nu bt1 (kdf a) (sz + f) ((sz + f) + qn) (by omega)) [0, 3] [1, 2, 4] rfl rfl (by decide +kernel) (ci := 5) (q0 := 0) rfl rfl rfl rfl (Nat.le_of_ble_eq_true rfl) ⟨⟨Nat.le_of_ble_eq_true rfl, Nat.le_of_ble_eq_true rfl⟩, Nat.le_of_ble_eq_true rfl, Nat.le_of_ble_eq_true rfl⟩ dX6_putInOrder_55 (fun u13 H locs hp hZ => ?_)
        obtain ⟨bt2_14, pp_15, f16, f17, f18, f19, rfl⟩ := hp
        have hZ : zz_Z g A s.heap [cw_i g kd 60 kdf, cw_i g sa 60 saf, cw_l g bf 200 (va_cpy btf bff (sz + f) 0 (t - f)), cw_k5 st (nI na) (nI nu) kd dp cl sa ln bt pn bf, cw_l g bt 4000 bt2_14] H locs := hZ
        refine lv_iinc (v := nI (qn + 1)) (lv' := [(6, .int (nI (qn + 1))), (5, .int (nI (t - f))), (4, .int (nI (sz + f))), (0, .ref st), (1, .int (nI a)), (2, .int (nI f)), (3, .int (nI t))]) hx hb dX6_putInOrder_58 hl (k := 0) rfl (nI_1 _) (by decide) rfl (fun ls hl => ?_)
        refine lv_goto (tgt := 34) hx hb dX6_putInOrder_61 (by decide) ?_
        obtain ⟨hz1, hz2⟩ := f19 hso
        have hpp := zl_psU (R := fn_co_rank (kdf a)) (f17).1 hz1 (sz + f + qn) (f17).2 hz2
        exact ih (qn + 1) bt2_14 H locs ls (by omega) (fun j hj => (f16 j (by omega)).trans (hbt j hj)) (by rw [f18]; exact zl_inS hso (f17).1 (f17).2 hz1 hz2) (by rw [his, show t - f - qn = (t - f - (qn + 1)) + 1 by omega, sp_is, hpp, ← f18] <;> rfl) (by omega) (hZ.sub [3, 0, 1, 4, 2] (by decide +kernel) rfl) (lv_sub hl [0, 1, 2, 3, 4, 5, 6] rfl)
  exact LP2 _ 1 btf H locs ls (by omega) (fun _ _ => rfl) (fun i j h1 h2 h3 => by rw [show j = i by omega]; exact Int64.le_refl _) (rfl) (Nat.lt_succ_self _) hZ (lv_sub hl [0, 1, 2, 3, 4, 5, 6] rfl)
