/-- the n-th element of a kind -/
def sp_col (kd dp ln : Nat → Int32) (k : Int32) : Nat → Nat → Int32 → Int32
  | 0, _, _ => -2
  | n + 1, i, w => if dp i = 1 then (if kd i = k then (if ln i ≤ w then sp_col kd dp ln k n (i + 1) (w - ln i) else nI i * 1000 + w) else sp_col kd dp ln k n (i + 1) w) else sp_col kd dp ln k n (i + 1) w
def sp_cR (na : Nat) (kd dp ln : Nat → Int32) (x1 x2 : Int32) : Int32 := if fn_co_isKind x1 = 0 then -9 else if 0 ≤ x2 then sp_col kd dp ln x1 na 0 x2 else -9
/-- elements from f on, up to t, become x -/
def zz_fl (bt : Nat → Int64) (f t : Nat) (x : Int64) : Nat → Int64 := fun j => if f ≤ j ∧ j < t then x else bt j
theorem zl_flS {bt bt1 : Nat → Int64} {s f i : Nat} {x : Int64} (hf : f ≤ i) (hb : ∀ j, bt1 j = if s + f ≤ j ∧ j < s + i then x else bt j) : ∀ j, vp_updL bt1 (s + i) x j = if s + f ≤ j ∧ j < s + (i + 1) then x else bt j := fun j => by
  by_cases e : j = s + i
  · subst e; rw [pk_uLs, if_pos (by omega)]
  · rw [pk_uLn e, hb j]
    by_cases q : s + f ≤ j ∧ j < s + i
    · rw [if_pos q, if_pos (by omega)]
    · rw [if_neg q, if_neg (by omega)]
theorem zl_flE {bt bt1 : Nat → Int64} {s f i t : Nat} {x : Int64} (hi : i = t) (hb : ∀ j, bt1 j = if s + f ≤ j ∧ j < s + i then x else bt j) : zz_fl bt (s + f) (s + t) x = bt1 := by
  subst hi; exact funext fun j => (hb j).symm
theorem dg_X7_about_0 : (decode cX7_about 0 = .ok (.aload_n 0, 1)) ∧ (decode cX7_about 1 = .ok (.getfield 10, 3)) ∧ (decode cX7_about 4 = .ok (.iload_n 1, 1)) ∧ (decode cX7_about 5 = .ok (.invokevirtual 73, 3)) ∧ (decode cX7_about 8 = .ok (.ifCond .ne 9, 3)) ∧ (decode cX7_about 11 = .ok (.aload_n 0, 1)) ∧ (decode cX7_about 12 = .ok (.iconst 5, 1)) ∧ (decode cX7_about 13 = .ok (.invokevirtual 65, 3)) ∧ (decode cX7_about 16 = .ok (.ireturn, 1)) ∧ (decode cX7_about 17 = .ok (.iload_n 2, 1)) ∧ (decode cX7_about 18 = .ok (.tableswitch 130 0 5 #[38, 52, 66, 80, 94, 107], 38)) ∧ (decode cX7_about 56 = .ok (.aload_n 0, 1)) ∧ (decode cX7_about 57 = .ok (.aload_n 0, 1)) ∧ (decode cX7_about 58 = .ok (.getfield 10, 3)) ∧ (decode cX7_about 61 = .ok (.getfield 80, 3)) ∧ (decode cX7_about 64 = .ok (.iload_n 1, 1)) := by decide +kernel
theorem dX7_about_0 : decode cX7_about 0 = .ok (.aload_n 0, 1) := dg_X7_about_0.1
theorem dX7_about_1 : decode cX7_about 1 = .ok (.getfield 10, 3) := dg_X7_about_0.2.1
theorem dX7_about_4 : decode cX7_about 4 = .ok (.iload_n 1, 1) := dg_X7_about_0.2.2.1
theorem dX7_about_5 : decode cX7_about 5 = .ok (.invokevirtual 73, 3) := dg_X7_about_0.2.2.2.1
theorem dX7_about_8 : decode cX7_about 8 = .ok (.ifCond .ne 9, 3) := dg_X7_about_0.2.2.2.2.1
theorem dX7_about_11 : decode cX7_about 11 = .ok (.aload_n 0, 1) := dg_X7_about_0.2.2.2.2.2.1
theorem dX7_about_12 : decode cX7_about 12 = .ok (.iconst 5, 1) := dg_X7_about_0.2.2.2.2.2.2.1
theorem dX7_about_13 : decode cX7_about 13 = .ok (.invokevirtual 65, 3) := dg_X7_about_0.2.2.2.2.2.2.2.1
theorem dX7_about_16 : decode cX7_about 16 = .ok (.ireturn, 1) := dg_X7_about_0.2.2.2.2.2.2.2.2.1
theorem dX7_about_17 : decode cX7_about 17 = .ok (.iload_n 2, 1) := dg_X7_about_0.2.2.2.2.2.2.2.2.2.1
theorem dX7_about_18 : decode cX7_about 18 = .ok (.tableswitch 130 0 5 #[38, 52, 66, 80, 94, 107], 38) := dg_X7_about_0.2.2.2.2.2.2.2.2.2.2.1
theorem dX7_about_56 : decode cX7_about 56 = .ok (.aload_n 0, 1) := dg_X7_about_0.2.2.2.2.2.2.2.2.2.2.2.1
theorem dX7_about_57 : decode cX7_about 57 = .ok (.aload_n 0, 1) := dg_X7_about_0.2.2.2.2.2.2.2.2.2.2.2.2.1
theorem dX7_about_58 : decode cX7_about 58 = .ok (.getfield 10, 3) := dg_X7_about_0.2.2.2.2.2.2.2.2.2.2.2.2.2.1
theorem dX7_about_61 : decode cX7_about 61 = .ok (.getfield 80, 3) := dg_X7_about_0.2.2.2.2.2.2.2.2.2.2.2.2.2.2.1
theorem dX7_about_64 : decode cX7_about 64 = .ok (.iload_n 1, 1) := dg_X7_about_0.2.2.2.2.2.2.2.2.2.2.2.2.2.2.2
theorem dg_X7_about_65 : (decode cX7_about 65 = .ok (.iaload, 1)) ∧ (decode cX7_about 66 = .ok (.invokevirtual 100, 3)) ∧ (decode cX7_about 69 = .ok (.ireturn, 1)) ∧ (decode cX7_about 70 = .ok (.aload_n 0, 1)) ∧ (decode cX7_about 71 = .ok (.aload_n 0, 1)) ∧ (decode cX7_about 72 = .ok (.getfield 10, 3)) ∧ (decode cX7_about 75 = .ok (.getfield 76, 3)) ∧ (decode cX7_about 78 = .ok (.iload_n 1, 1)) ∧ (decode cX7_about 79 = .ok (.iaload, 1)) ∧ (decode cX7_about 80 = .ok (.invokevirtual 100, 3)) ∧ (decode cX7_about 83 = .ok (.ireturn, 1)) ∧ (decode cX7_about 84 = .ok (.aload_n 0, 1)) ∧ (decode cX7_about 85 = .ok (.aload_n 0, 1)) ∧ (decode cX7_about 86 = .ok (.getfield 10, 3)) ∧ (decode cX7_about 89 = .ok (.getfield 103, 3)) ∧ (decode cX7_about 92 = .ok (.iload_n 1, 1)) := by decide +kernel
theorem dX7_about_65 : decode cX7_about 65 = .ok (.iaload, 1) := dg_X7_about_65.1
theorem dX7_about_66 : decode cX7_about 66 = .ok (.invokevirtual 100, 3) := dg_X7_about_65.2.1
theorem dX7_about_69 : decode cX7_about 69 = .ok (.ireturn, 1) := dg_X7_about_65.2.2.1
theorem dX7_about_70 : decode cX7_about 70 = .ok (.aload_n 0, 1) := dg_X7_about_65.2.2.2.1
theorem dX7_about_71 : decode cX7_about 71 = .ok (.aload_n 0, 1) := dg_X7_about_65.2.2.2.2.1
theorem dX7_about_72 : decode cX7_about 72 = .ok (.getfield 10, 3) := dg_X7_about_65.2.2.2.2.2.1
theorem dX7_about_75 : decode cX7_about 75 = .ok (.getfield 76, 3) := dg_X7_about_65.2.2.2.2.2.2.1
theorem dX7_about_78 : decode cX7_about 78 = .ok (.iload_n 1, 1) := dg_X7_about_65.2.2.2.2.2.2.2.1
theorem dX7_about_79 : decode cX7_about 79 = .ok (.iaload, 1) := dg_X7_about_65.2.2.2.2.2.2.2.2.1
theorem dX7_about_80 : decode cX7_about 80 = .ok (.invokevirtual 100, 3) := dg_X7_about_65.2.2.2.2.2.2.2.2.2.1
theorem dX7_about_83 : decode cX7_about 83 = .ok (.ireturn, 1) := dg_X7_about_65.2.2.2.2.2.2.2.2.2.2.1
theorem dX7_about_84 : decode cX7_about 84 = .ok (.aload_n 0, 1) := dg_X7_about_65.2.2.2.2.2.2.2.2.2.2.2.1
theorem dX7_about_85 : decode cX7_about 85 = .ok (.aload_n 0, 1) := dg_X7_about_65.2.2.2.2.2.2.2.2.2.2.2.2.1
theorem dX7_about_86 : decode cX7_about 86 = .ok (.getfield 10, 3) := dg_X7_about_65.2.2.2.2.2.2.2.2.2.2.2.2.2.1
theorem dX7_about_89 : decode cX7_about 89 = .ok (.getfield 103, 3) := dg_X7_about_65.2.2.2.2.2.2.2.2.2.2.2.2.2.2.1
theorem dX7_about_92 : decode cX7_about 92 = .ok (.iload_n 1, 1) := dg_X7_about_65.2.2.2.2.2.2.2.2.2.2.2.2.2.2.2
theorem dg_X7_about_93 : (decode cX7_about 93 = .ok (.iaload, 1)) ∧ (decode cX7_about 94 = .ok (.invokevirtual 100, 3)) ∧ (decode cX7_about 97 = .ok (.ireturn, 1)) ∧ (decode cX7_about 98 = .ok (.aload_n 0, 1)) ∧ (decode cX7_about 99 = .ok (.aload_n 0, 1)) ∧ (decode cX7_about 100 = .ok (.getfield 10, 3)) ∧ (decode cX7_about 103 = .ok (.getfield 83, 3)) ∧ (decode cX7_about 106 = .ok (.iload_n 1, 1)) ∧ (decode cX7_about 107 = .ok (.iaload, 1)) ∧ (decode cX7_about 108 = .ok (.invokevirtual 100, 3)) ∧ (decode cX7_about 111 = .ok (.ireturn, 1)) ∧ (decode cX7_about 112 = .ok (.aload_n 0, 1)) ∧ (decode cX7_about 113 = .ok (.aload_n 0, 1)) ∧ (decode cX7_about 114 = .ok (.getfield 10, 3)) ∧ (decode cX7_about 117 = .ok (.iload_n 1, 1)) ∧ (decode cX7_about 118 = .ok (.invokevirtual 106, 3)) := by decide +kernel
theorem dX7_about_93 : decode cX7_about 93 = .ok (.iaload, 1) := dg_X7_about_93.1
theorem dX7_about_94 : decode cX7_about 94 = .ok (.invokevirtual 100, 3) := dg_X7_about_93.2.1
theorem dX7_about_97 : decode cX7_about 97 = .ok (.ireturn, 1) := dg_X7_about_93.2.2.1
theorem dX7_about_98 : decode cX7_about 98 = .ok (.aload_n 0, 1) := dg_X7_about_93.2.2.2.1
theorem dX7_about_99 : decode cX7_about 99 = .ok (.aload_n 0, 1) := dg_X7_about_93.2.2.2.2.1
theorem dX7_about_100 : decode cX7_about 100 = .ok (.getfield 10, 3) := dg_X7_about_93.2.2.2.2.2.1
theorem dX7_about_103 : decode cX7_about 103 = .ok (.getfield 83, 3) := dg_X7_about_93.2.2.2.2.2.2.1
theorem dX7_about_106 : decode cX7_about 106 = .ok (.iload_n 1, 1) := dg_X7_about_93.2.2.2.2.2.2.2.1
theorem dX7_about_107 : decode cX7_about 107 = .ok (.iaload, 1) := dg_X7_about_93.2.2.2.2.2.2.2.2.1
theorem dX7_about_108 : decode cX7_about 108 = .ok (.invokevirtual 100, 3) := dg_X7_about_93.2.2.2.2.2.2.2.2.2.1
theorem dX7_about_111 : decode cX7_about 111 = .ok (.ireturn, 1) := dg_X7_about_93.2.2.2.2.2.2.2.2.2.2.1
theorem dX7_about_112 : decode cX7_about 112 = .ok (.aload_n 0, 1) := dg_X7_about_93.2.2.2.2.2.2.2.2.2.2.2.1
theorem dX7_about_113 : decode cX7_about 113 = .ok (.aload_n 0, 1) := dg_X7_about_93.2.2.2.2.2.2.2.2.2.2.2.2.1
theorem dX7_about_114 : decode cX7_about 114 = .ok (.getfield 10, 3) := dg_X7_about_93.2.2.2.2.2.2.2.2.2.2.2.2.2.1
theorem dX7_about_117 : decode cX7_about 117 = .ok (.iload_n 1, 1) := dg_X7_about_93.2.2.2.2.2.2.2.2.2.2.2.2.2.2.1
theorem dX7_about_118 : decode cX7_about 118 = .ok (.invokevirtual 106, 3) := dg_X7_about_93.2.2.2.2.2.2.2.2.2.2.2.2.2.2.2
theorem dg_X7_about_121 : (decode cX7_about 121 = .ok (.invokevirtual 100, 3)) ∧ (decode cX7_about 124 = .ok (.ireturn, 1)) ∧ (decode cX7_about 125 = .ok (.aload_n 0, 1)) ∧ (decode cX7_about 126 = .ok (.aload_n 0, 1)) ∧ (decode cX7_about 127 = .ok (.getfield 10, 3)) ∧ (decode cX7_about 130 = .ok (.iload_n 1, 1)) ∧ (decode cX7_about 131 = .ok (.iconst 0, 1)) ∧ (decode cX7_about 132 = .ok (.aload_n 0, 1)) ∧ (decode cX7_about 133 = .ok (.getfield 10, 3)) ∧ (decode cX7_about 136 = .ok (.getfield 103, 3)) ∧ (decode cX7_about 139 = .ok (.iload_n 1, 1)) ∧ (decode cX7_about 140 = .ok (.iaload, 1)) ∧ (decode cX7_about 141 = .ok (.invokevirtual 109, 3)) ∧ (decode cX7_about 144 = .ok (.invokevirtual 100, 3)) ∧ (decode cX7_about 147 = .ok (.ireturn, 1)) ∧ (decode cX7_about 148 = .ok (.aload_n 0, 1)) := by decide +kernel
theorem dX7_about_121 : decode cX7_about 121 = .ok (.invokevirtual 100, 3) := dg_X7_about_121.1
theorem dX7_about_124 : decode cX7_about 124 = .ok (.ireturn, 1) := dg_X7_about_121.2.1
theorem dX7_about_125 : decode cX7_about 125 = .ok (.aload_n 0, 1) := dg_X7_about_121.2.2.1
theorem dX7_about_126 : decode cX7_about 126 = .ok (.aload_n 0, 1) := dg_X7_about_121.2.2.2.1
theorem dX7_about_127 : decode cX7_about 127 = .ok (.getfield 10, 3) := dg_X7_about_121.2.2.2.2.1
theorem dX7_about_130 : decode cX7_about 130 = .ok (.iload_n 1, 1) := dg_X7_about_121.2.2.2.2.2.1
theorem dX7_about_131 : decode cX7_about 131 = .ok (.iconst 0, 1) := dg_X7_about_121.2.2.2.2.2.2.1
theorem dX7_about_132 : decode cX7_about 132 = .ok (.aload_n 0, 1) := dg_X7_about_121.2.2.2.2.2.2.2.1
theorem dX7_about_133 : decode cX7_about 133 = .ok (.getfield 10, 3) := dg_X7_about_121.2.2.2.2.2.2.2.2.1
theorem dX7_about_136 : decode cX7_about 136 = .ok (.getfield 103, 3) := dg_X7_about_121.2.2.2.2.2.2.2.2.2.1
theorem dX7_about_139 : decode cX7_about 139 = .ok (.iload_n 1, 1) := dg_X7_about_121.2.2.2.2.2.2.2.2.2.2.1
theorem dX7_about_140 : decode cX7_about 140 = .ok (.iaload, 1) := dg_X7_about_121.2.2.2.2.2.2.2.2.2.2.2.1
theorem dX7_about_141 : decode cX7_about 141 = .ok (.invokevirtual 109, 3) := dg_X7_about_121.2.2.2.2.2.2.2.2.2.2.2.2.1
theorem dX7_about_144 : decode cX7_about 144 = .ok (.invokevirtual 100, 3) := dg_X7_about_121.2.2.2.2.2.2.2.2.2.2.2.2.2.1
theorem dX7_about_147 : decode cX7_about 147 = .ok (.ireturn, 1) := dg_X7_about_121.2.2.2.2.2.2.2.2.2.2.2.2.2.2.1
theorem dX7_about_148 : decode cX7_about 148 = .ok (.aload_n 0, 1) := dg_X7_about_121.2.2.2.2.2.2.2.2.2.2.2.2.2.2.2
theorem dg_X7_about_149 : (decode cX7_about 149 = .ok (.bipush 9, 2)) ∧ (decode cX7_about 151 = .ok (.invokevirtual 65, 3)) ∧ (decode cX7_about 154 = .ok (.ireturn, 1)) := by decide +kernel
theorem dX7_about_149 : decode cX7_about 149 = .ok (.bipush 9, 2) := dg_X7_about_149.1
theorem dX7_about_151 : decode cX7_about 151 = .ok (.invokevirtual 65, 3) := dg_X7_about_149.2.1
theorem dX7_about_154 : decode cX7_about 154 = .ok (.ireturn, 1) := dg_X7_about_149.2.2
theorem zk_297 : Cond.methodLink RX7 106 yX6_nullRows ∈ zz_w := zz_in (List.mem_append_right _ (List.mem_append_right _ (List.mem_append_left _ (List.mem_of_getElem? (i := 57) (by decide +kernel))))) rfl
set_option maxRecDepth 20000 in
theorem zk_300 : Cond.code yX6_nullRows cX6_nullRows 4 (some .int) ∈ zz_w := zz_in (List.mem_append_right _ (List.mem_append_right _ (List.mem_append_left _ (List.mem_of_getElem? (i := 60) (rfl))))) rfl
theorem zk_298 : Cond.instanceMethod yX6_nullRows ∈ zz_w := zz_in (List.mem_append_right _ (List.mem_append_right _ (List.mem_append_left _ (List.mem_of_getElem? (i := 58) (by decide +kernel))))) rfl
theorem zk_299 : Cond.selects RX6 yX6_nullRows yX6_nullRows ∈ zz_w := zz_in (List.mem_append_right _ (List.mem_append_right _ (List.mem_append_left _ (List.mem_of_getElem? (i := 59) (by decide +kernel))))) rfl
theorem zc_X7_106 : zz_cV RX7 106 yX6_nullRows cX6_nullRows 4 (some .int) 1 := ⟨⟨zk_297, zk_300, zk_2, by decide, by decide, by decide +kernel⟩, zk_298, zk_299⟩
theorem zk_301 : Cond.methodLink RX7 109 yX6_pinnedIn ∈ zz_w := zz_in (List.mem_append_right _ (List.mem_append_right _ (List.mem_append_left _ (List.mem_of_getElem? (i := 61) (by decide +kernel))))) rfl
set_option maxRecDepth 20000 in
theorem zk_304 : Cond.code yX6_pinnedIn cX6_pinnedIn 6 (some .int) ∈ zz_w := zz_in (List.mem_append_right _ (List.mem_append_right _ (List.mem_append_left _ (List.mem_of_getElem? (i := 64) (rfl))))) rfl
theorem zk_302 : Cond.instanceMethod yX6_pinnedIn ∈ zz_w := zz_in (List.mem_append_right _ (List.mem_append_right _ (List.mem_append_left _ (List.mem_of_getElem? (i := 62) (by decide +kernel))))) rfl
theorem zk_303 : Cond.selects RX6 yX6_pinnedIn yX6_pinnedIn ∈ zz_w := zz_in (List.mem_append_right _ (List.mem_append_right _ (List.mem_append_left _ (List.mem_of_getElem? (i := 63) (by decide +kernel))))) rfl
theorem zc_X7_109 : zz_cV RX7 109 yX6_pinnedIn cX6_pinnedIn 6 (some .int) 3 := ⟨⟨zk_301, zk_304, zk_2, by decide, by decide, by decide +kernel⟩, zk_302, zk_303⟩
def fn_cx_about (na : Nat) (nu : Nat) (kdf : Nat → Int32) (dpf : Nat → Int32) (clf : Nat → Int32) (saf : Nat → Int32) (lnf : Nat → Int32) (btf : Nat → Int64) (pnf : Nat → Int32) (x1 : Int32) (x2 : Int32) : Int32 := (if (fn_co_has (nI na) x1) = 0 then -5 else (if x2 = nI 0 then (kdf x1.toNatClampNeg) else (if x2 = nI 1 then (nI ((dpf x1.toNatClampNeg).toNatClampNeg)) else (if x2 = nI 2 then (nI ((lnf x1.toNatClampNeg).toNatClampNeg)) else (if x2 = nI 3 then (clf x1.toNatClampNeg) else (if x2 = nI 4 then (nI (if dpf x1.toNatClampNeg ≤ 1 then 0 else zz_cz btf ((saf x1.toNatClampNeg).toNatClampNeg) ((lnf x1.toNatClampNeg).toNatClampNeg))) else (if x2 = nI 5 then (nI (zz_cp pnf (((saf x1.toNatClampNeg).toNatClampNeg) + 0) (((lnf x1.toNatClampNeg).toNatClampNeg) - 0))) else -9)))))))
abbrev rm_cx_about : Room := { frames := 1, cells := 0, slots := 0, locals := 25 }
abbrev po_cx_about (g : zz_G) (h0 : Nat) (st : Nat) (mk : Nat) (lk : Nat) (ch : Nat) (ru : Nat) (mr : Nat) (kd : Nat) (dp : Nat) (cl : Nat) (sa : Nat) (ln : Nat) (bt : Nat) (pn : Nat) (bf : Nat) (md : Int32) (la : Int32) (na : Nat) (nu : Nat) (kdf : Nat → Int32) (dpf : Nat → Int32) (clf : Nat → Int32) (saf : Nat → Int32) (lnf : Nat → Int32) (btf : Nat → Int64) (pnf : Nat → Int32) (x1 : Int32) (x2 : Int32) (h_S : zz_SI na nu dpf saf lnf) : Int32 → va_W → Prop := fun (r : Int32) (u : va_W) => ∃ (la2 : Int32), r = fn_cx_about na nu kdf dpf clf saf lnf btf pnf x1 x2 ∧ u = [cw_k6 h0 st mk lk ch ru mr md la2, cw_k5 st (nI na) (nI nu) kd dp cl sa ln bt pn bf, cw_i g kd 60 kdf, cw_i g dp 60 dpf, cw_i g cl 60 clf, cw_i g sa 60 saf, cw_i g ln 60 lnf, cw_l g bt 4000 btf, cw_z g pn 4000 pnf]
set_option maxHeartbeats 4000000 in
set_option maxRecDepth 100000 in
theorem cx_about (g : zz_G) (h0 : Nat) (st : Nat) (mk : Nat) (lk : Nat) (ch : Nat) (ru : Nat) (mr : Nat) (kd : Nat) (dp : Nat) (cl : Nat) (sa : Nat) (ln : Nat) (bt : Nat) (pn : Nat) (bf : Nat) (md : Int32) (la : Int32) (na : Nat) (nu : Nat) (kdf : Nat → Int32) (dpf : Nat → Int32) (clf : Nat → Int32) (saf : Nat → Int32) (lnf : Nat → Int32) (btf : Nat → Int64) (pnf : Nat → Int32) (x1 : Int32) (x2 : Int32) (h_S : zz_SI na nu dpf saf lnf) : zz_I g yX7_about (.code yX7_about cX7_about 3 (some .int)) rm_cx_about [.ref h0, .int x1, .int x2] [cw_k6 h0 st mk lk ch ru mr md la, cw_k5 st (nI na) (nI nu) kd dp cl sa ln bt pn bf, cw_i g kd 60 kdf, cw_i g dp 60 dpf, cw_i g cl 60 clf, cw_i g sa 60 saf, cw_i g ln 60 lnf, cw_l g bt 4000 btf, cw_z g pn 4000 pnf] (po_cx_about g h0 st mk lk ch ru mr kd dp cl sa ln bt pn bf md la na nu kdf dpf clf saf lnf btf pnf x1 x2 h_S) := by
  refine zz_I.intro (own := RX7) (cc := cX7_about) (nL := 3) (by decide) rfl (Nat.le_of_ble_eq_true rfl) ?_
  intro p l e s m args below meth c A H locs ls hC hnm hs hZ hl
  obtain ⟨hx, hb, hml, hown, hts, hr, hlocks, hK⟩ := id hC
  have hl : lv_has ls 3 [(0, .ref h0), (1, .int x1), (2, .int x2)] := hl
  have hZ : zz_Z g A s.heap [cw_k6 h0 st mk lk ch ru mr md la, cw_k5 st (nI na) (nI nu) kd dp cl sa ln bt pn bf, cw_i g kd 60 kdf, cw_i g dp 60 dpf, cw_i g cl 60 clf, cw_i g sa 60 saf, cw_i g ln 60 lnf, cw_l g bt 4000 btf, cw_z g pn 4000 pnf] H locs := hZ
  have hna := h_S.1
  have hnu := h_S.2.1
  refine lv_aload_n hx hb dX7_about_0 rfl (lv_at hl 0 rfl) ?_
  refine zz_get hC hZ 0 rfl zf_X7_10 rfl dX7_about_1 ?_
  refine lv_iload_n hx hb dX7_about_4 rfl (lv_at hl 1 rfl) ?_
  refine zz_iV (As := [.int x1]) (wc := [cw_k5 st (nI na) (nI nu) kd dp cl sa ln bt pn bf]) (wr := [cw_k6 h0 st mk lk ch ru mr md la, cw_i g kd 60 kdf, cw_i g dp 60 dpf, cw_i g cl 60 clf, cw_i g sa 60 saf, cw_i g ln 60 lnf, cw_l g bt 4000 btf, cw_z g pn 4000 pnf]) (rest := []) hC hZ hs hl zc_X7_73 (co_has g st kd dp cl sa ln bt pn bf (nI na) (nI nu) x1) [1] [0, 2, 3, 4, 5, 6, 7, 8] rfl rfl (by decide +kernel) (ci := 5) (q0 := 0) rfl rfl rfl rfl (Nat.le_of_ble_eq_true rfl) ⟨⟨Nat.le_of_ble_eq_true rfl, Nat.le_of_ble_eq_true rfl⟩, Nat.le_of_ble_eq_true rfl, Nat.le_of_ble_eq_true rfl⟩ dX7_about_5 (fun r1 u2 H locs hp hZ => ?_)
  obtain ⟨rfl, rfl⟩ := hp
  have hZ : zz_Z g A s.heap [cw_k6 h0 st mk lk ch ru mr md la, cw_i g kd 60 kdf, cw_i g dp 60 dpf, cw_i g cl 60 clf, cw_i g sa 60 saf, cw_i g ln 60 lnf, cw_l g bt 4000 btf, cw_z g pn 4000 pnf, cw_k5 st (nI na) (nI nu) kd dp cl sa ln bt pn bf] H locs := hZ
  refine lv_if_ne (tgt := 17) hx hb dX7_about_8 (by decide) (fun c3 => ?_) (fun c3 => ?_)
  · obtain ⟨a1, ha1, ea1⟩ := zl_has (by omega) c3
    have hl : lv_has ls 3 [(0, .ref h0), (1, .int (nI a1)), (2, .int x2)] := by rw [← ea1]; exact hl
    have bd4 : a1 < 2 ^ 31 := by omega
    have d_a1 : x1.toNatClampNeg = a1 := by rw [ea1]; exact nI_clamp bd4
    obtain ⟨sz1, lz1, dz1, es1, el1, ed1, g11, g21, g31, g41⟩ := h_S.2.2 a1 ha1
    have bd5 : sz1 < 2 ^ 31 := by omega
    have d_sz1 : (saf a1).toNatClampNeg = sz1 := by rw [es1]; exact nI_clamp bd5
    have bd6 : lz1 < 2 ^ 31 := by omega
    have d_lz1 : (lnf a1).toNatClampNeg = lz1 := by rw [el1]; exact nI_clamp bd6
    have bd7 : dz1 < 2 ^ 31 := by omega
    have d_dz1 : (dpf a1).toNatClampNeg = dz1 := by rw [ed1]; exact nI_clamp bd7
    refine lv_iload_n hx hb dX7_about_17 rfl (lv_at hl 2 rfl) ?_
    rcases zz_sw x2 6 (by decide) with c8 | ⟨k_, hk_, c8⟩
    · refine lv_tableOut (tgt := 148) hx hb dX7_about_18 (by rcases c8 with q | q; exact Or.inl (by omega); exact Or.inr (by omega)) (by decide) ?_
      refine lv_aload_n hx hb dX7_about_148 rfl (lv_at hl 0 rfl) ?_
      refine lv_bipush (v := 9) hx hb dX7_about_149 (by decide) ?_
      refine zz_iV (As := [.int 9]) (wc := [cw_k6 h0 st mk lk ch ru mr md la]) (wr := [cw_i g kd 60 kdf, cw_i g dp 60 dpf, cw_i g cl 60 clf, cw_i g sa 60 saf, cw_i g ln 60 lnf, cw_l g bt 4000 btf, cw_z g pn 4000 pnf, cw_k5 st (nI na) (nI nu) kd dp cl sa ln bt pn bf]) (rest := []) hC hZ hs hl zc_X7_65 (co_fail g h0 st mk lk ch ru mr md la 9) [0] [1, 2, 3, 4, 5, 6, 7, 8] rfl rfl (by decide +kernel) (ci := 6) (q0 := 0) rfl rfl rfl rfl (Nat.le_of_ble_eq_true rfl) ⟨⟨Nat.le_of_ble_eq_true rfl, Nat.le_of_ble_eq_true rfl⟩, Nat.le_of_ble_eq_true rfl, Nat.le_of_ble_eq_true rfl⟩ dX7_about_151 (fun r9 u10 H locs hp hZ => ?_)
      obtain ⟨rfl, rfl⟩ := hp
      have hZ : zz_Z g A s.heap [cw_i g kd 60 kdf, cw_i g dp 60 dpf, cw_i g cl 60 clf, cw_i g sa 60 saf, cw_i g ln 60 lnf, cw_l g bt 4000 btf, cw_z g pn 4000 pnf, cw_k5 st (nI na) (nI nu) kd dp cl sa ln bt pn bf, cw_k6 h0 st mk lk ch ru mr md 9] H locs := hZ
      have hZ : zz_Z g A s.heap [cw_k6 h0 st mk lk ch ru mr md 9, cw_k5 st (nI na) (nI nu) kd dp cl sa ln bt pn bf, cw_i g kd 60 kdf, cw_i g dp 60 dpf, cw_i g cl 60 clf, cw_i g sa 60 saf, cw_i g ln 60 lnf, cw_l g bt 4000 btf, cw_z g pn 4000 pnf] H locs := hZ.sub [8, 7, 0, 1, 2, 3, 4, 5, 6] (by decide +kernel) rfl
      exact zz_iret hC hZ (⟨9, by refine Eq.symm ?_; rw [fn_cx_about]; refine (if_neg (by (try simp only [d_a1, d_sz1, d_lz1, d_dz1]); exact c3)).trans ?_; refine (if_neg (by (try simp only [d_a1, d_sz1, d_lz1, d_dz1]); exact ((zl_swo c8 0 (by decide) (by decide))))).trans ?_; refine (if_neg (by (try simp only [d_a1, d_sz1, d_lz1, d_dz1]); exact ((zl_swo c8 1 (by decide) (by decide))))).trans ?_; refine (if_neg (by (try simp only [d_a1, d_sz1, d_lz1, d_dz1]); exact ((zl_swo c8 2 (by decide) (by decide))))).trans ?_; refine (if_neg (by (try simp only [d_a1, d_sz1, d_lz1, d_dz1]); exact ((zl_swo c8 3 (by decide) (by decide))))).trans ?_; refine (if_neg (by (try simp only [d_a1, d_sz1, d_lz1, d_dz1]); exact ((zl_swo c8 4 (by decide) (by decide))))).trans ?_; refine (if_neg (by (try simp only [d_a1, d_sz1, d_lz1, d_dz1]); exact ((zl_swo c8 5 (by decide) (by decide))))).trans ?_; first | (simp only [d_a1, d_sz1, d_lz1, d_dz1]; done) | rfl, rfl⟩) (Nat.le_of_ble_eq_true rfl) (Nat.le_of_ble_eq_true rfl) dX7_about_154
    · refine zz_topi c8 ?_
      rcases (show k_ = 0 ∨ k_ = 1 ∨ k_ = 2 ∨ k_ = 3 ∨ k_ = 4 ∨ k_ = 5 by omega) with rfl | rfl | rfl | rfl | rfl | rfl
      · refine lv_tableIn (tgt := 56) (off := 38) hx hb dX7_about_18 (by decide) (by decide) (by decide) (by decide) ?_
        refine lv_aload_n hx hb dX7_about_56 rfl (lv_at hl 0 rfl) ?_
        refine lv_aload_n hx hb dX7_about_57 rfl (lv_at hl 0 rfl) ?_
        refine zz_get hC hZ 0 rfl zf_X7_10 rfl dX7_about_58 ?_
        refine zz_get hC hZ 8 rfl zf_X7_80 rfl dX7_about_61 ?_
        refine lv_iload_n hx hb dX7_about_64 rfl (lv_at hl 1 rfl) ?_
        have bd11 : a1 < 60 := by omega
        refine zz_ialdn hC hZ 1 rfl bd11 (by decide) dX7_about_65 ?_
        refine zz_iV (As := [.int (kdf a1)]) (wc := [cw_k6 h0 st mk lk ch ru mr md la]) (wr := [cw_i g kd 60 kdf, cw_i g dp 60 dpf, cw_i g cl 60 clf, cw_i g sa 60 saf, cw_i g ln 60 lnf, cw_l g bt 4000 btf, cw_z g pn 4000 pnf, cw_k5 st (nI na) (nI nu) kd dp cl sa ln bt pn bf]) (rest := []) hC hZ hs hl zc_X7_100 (co_fine g h0 st mk lk ch ru mr md la (kdf a1)) [0] [1, 2, 3, 4, 5, 6, 7, 8] rfl rfl (by decide +kernel) (ci := 6) (q0 := 0) rfl rfl rfl rfl (Nat.le_of_ble_eq_true rfl) ⟨⟨Nat.le_of_ble_eq_true rfl, Nat.le_of_ble_eq_true rfl⟩, Nat.le_of_ble_eq_true rfl, Nat.le_of_ble_eq_true rfl⟩ dX7_about_66 (fun r12 u13 H locs hp hZ => ?_)
        obtain ⟨rfl, rfl⟩ := hp
        have hZ : zz_Z g A s.heap [cw_i g kd 60 kdf, cw_i g dp 60 dpf, cw_i g cl 60 clf, cw_i g sa 60 saf, cw_i g ln 60 lnf, cw_l g bt 4000 btf, cw_z g pn 4000 pnf, cw_k5 st (nI na) (nI nu) kd dp cl sa ln bt pn bf, cw_k6 h0 st mk lk ch ru mr md 0] H locs := hZ
        have hZ : zz_Z g A s.heap [cw_k6 h0 st mk lk ch ru mr md 0, cw_k5 st (nI na) (nI nu) kd dp cl sa ln bt pn bf, cw_i g kd 60 kdf, cw_i g dp 60 dpf, cw_i g cl 60 clf, cw_i g sa 60 saf, cw_i g ln 60 lnf, cw_l g bt 4000 btf, cw_z g pn 4000 pnf] H locs := hZ.sub [8, 7, 0, 1, 2, 3, 4, 5, 6] (by decide +kernel) rfl
        exact zz_iret hC hZ (⟨0, by refine Eq.symm ?_; rw [fn_cx_about]; refine (if_neg (by (try simp only [d_a1, d_sz1, d_lz1, d_dz1]); exact c3)).trans ?_; refine (if_pos (by (try simp only [d_a1, d_sz1, d_lz1, d_dz1]); exact c8)).trans ?_; first | (simp only [d_a1, d_sz1, d_lz1, d_dz1]; done) | rfl, rfl⟩) (Nat.le_of_ble_eq_true rfl) (Nat.le_of_ble_eq_true rfl) dX7_about_69
      · refine lv_tableIn (tgt := 70) (off := 52) hx hb dX7_about_18 (by decide) (by decide) (by decide) (by decide) ?_
        refine lv_aload_n hx hb dX7_about_70 rfl (lv_at hl 0 rfl) ?_
        refine lv_aload_n hx hb dX7_about_71 rfl (lv_at hl 0 rfl) ?_
        refine zz_get hC hZ 0 rfl zf_X7_10 rfl dX7_about_72 ?_
        refine zz_get hC hZ 8 rfl zf_X7_76 rfl dX7_about_75 ?_
        refine lv_iload_n hx hb dX7_about_78 rfl (lv_at hl 1 rfl) ?_
        have bd14 : a1 < 60 := by omega
        refine zz_ialdn hC hZ 2 rfl bd14 (by decide) dX7_about_79 ?_
        refine zz_topi (v := nI dz1) (ed1) ?_
        refine zz_iV (As := [.int (nI dz1)]) (wc := [cw_k6 h0 st mk lk ch ru mr md la]) (wr := [cw_i g kd 60 kdf, cw_i g dp 60 dpf, cw_i g cl 60 clf, cw_i g sa 60 saf, cw_i g ln 60 lnf, cw_l g bt 4000 btf, cw_z g pn 4000 pnf, cw_k5 st (nI na) (nI nu) kd dp cl sa ln bt pn bf]) (rest := []) hC hZ hs hl zc_X7_100 (co_fine g h0 st mk lk ch ru mr md la (nI dz1)) [0] [1, 2, 3, 4, 5, 6, 7, 8] rfl rfl (by decide +kernel) (ci := 6) (q0 := 0) rfl rfl rfl rfl (Nat.le_of_ble_eq_true rfl) ⟨⟨Nat.le_of_ble_eq_true rfl, Nat.le_of_ble_eq_true rfl⟩, Nat.le_of_ble_eq_true rfl, Nat.le_of_ble_eq_true rfl⟩ dX7_about_80 (fun r15 u16 H locs hp hZ => ?_)
        obtain ⟨rfl, rfl⟩ := hp
        have hZ : zz_Z g A s.heap [cw_i g kd 60 kdf, cw_i g dp 60 dpf, cw_i g cl 60 clf, cw_i g sa 60 saf, cw_i g ln 60 lnf, cw_l g bt 4000 btf, cw_z g pn 4000 pnf, cw_k5 st (nI na) (nI nu) kd dp cl sa ln bt pn bf, cw_k6 h0 st mk lk ch ru mr md 0] H locs := hZ
        have hZ : zz_Z g A s.heap [cw_k6 h0 st mk lk ch ru mr md 0, cw_k5 st (nI na) (nI nu) kd dp cl sa ln bt pn bf, cw_i g kd 60 kdf, cw_i g dp 60 dpf, cw_i g cl 60 clf, cw_i g sa 60 saf, cw_i g ln 60 lnf, cw_l g bt 4000 btf, cw_z g pn 4000 pnf] H locs := hZ.sub [8, 7, 0, 1, 2, 3, 4, 5, 6] (by decide +kernel) rfl
        exact zz_iret hC hZ (⟨0, by refine Eq.symm ?_; rw [fn_cx_about]; refine (if_neg (by (try simp only [d_a1, d_sz1, d_lz1, d_dz1]); exact c3)).trans ?_; refine (if_neg (by (try simp only [d_a1, d_sz1, d_lz1, d_dz1]); exact ((show ¬ (x2 = nI 0) by rw [c8]; decide)))).trans ?_; refine (if_pos (by (try simp only [d_a1, d_sz1, d_lz1, d_dz1]); exact c8)).trans ?_; first | (simp only [d_a1, d_sz1, d_lz1, d_dz1]; done) | rfl, rfl⟩) (Nat.le_of_ble_eq_true rfl) (Nat.le_of_ble_eq_true rfl) dX7_about_83
      · refine lv_tableIn (tgt := 84) (off := 66) hx hb dX7_about_18 (by decide) (by decide) (by decide) (by decide) ?_
        refine lv_aload_n hx hb dX7_about_84 rfl (lv_at hl 0 rfl) ?_
        refine lv_aload_n hx hb dX7_about_85 rfl (lv_at hl 0 rfl) ?_
        refine zz_get hC hZ 0 rfl zf_X7_10 rfl dX7_about_86 ?_
        refine zz_get hC hZ 8 rfl zf_X7_103 rfl dX7_about_89 ?_
        refine lv_iload_n hx hb dX7_about_92 rfl (lv_at hl 1 rfl) ?_
        have bd17 : a1 < 60 := by omega
        refine zz_ialdn hC hZ 5 rfl bd17 (by decide) dX7_about_93 ?_
        refine zz_topi (v := nI lz1) (el1) ?_
        refine zz_iV (As := [.int (nI lz1)]) (wc := [cw_k6 h0 st mk lk ch ru mr md la]) (wr := [cw_i g kd 60 kdf, cw_i g dp 60 dpf, cw_i g cl 60 clf, cw_i g sa 60 saf, cw_i g ln 60 lnf, cw_l g bt 4000 btf, cw_z g pn 4000 pnf, cw_k5 st (nI na) (nI nu) kd dp cl sa ln bt pn bf]) (rest := []) hC hZ hs hl zc_X7_100 (co_fine g h0 st mk lk ch ru mr md la (nI lz1)) [0] [1, 2, 3, 4, 5, 6, 7, 8] rfl rfl (by decide +kernel) (ci := 6) (q0 := 0) rfl rfl rfl rfl (Nat.le_of_ble_eq_true rfl) ⟨⟨Nat.le_of_ble_eq_true rfl, Nat.le_of_ble_eq_true rfl⟩, Nat.le_of_ble_eq_true rfl, Nat.le_of_ble_eq_true rfl⟩ dX7_about_94 (fun r18 u19 H locs hp hZ => ?_)
        obtain ⟨rfl, rfl⟩ := hp
        have hZ : zz_Z g A s.heap [cw_i g kd 60 kdf, cw_i g dp 60 dpf, cw_i g cl 60 clf, cw_i g sa 60 saf, cw_i g ln 60 lnf, cw_l g bt 4000 btf, cw_z g pn 4000 pnf, cw_k5 st (nI na) (nI nu) kd dp cl sa ln bt pn bf, cw_k6 h0 st mk lk ch ru mr md 0] H locs := hZ
        have hZ : zz_Z g A s.heap [cw_k6 h0 st mk lk ch ru mr md 0, cw_k5 st (nI na) (nI nu) kd dp cl sa ln bt pn bf, cw_i g kd 60 kdf, cw_i g dp 60 dpf, cw_i g cl 60 clf, cw_i g sa 60 saf, cw_i g ln 60 lnf, cw_l g bt 4000 btf, cw_z g pn 4000 pnf] H locs := hZ.sub [8, 7, 0, 1, 2, 3, 4, 5, 6] (by decide +kernel) rfl
        exact zz_iret hC hZ (⟨0, by refine Eq.symm ?_; rw [fn_cx_about]; refine (if_neg (by (try simp only [d_a1, d_sz1, d_lz1, d_dz1]); exact c3)).trans ?_; refine (if_neg (by (try simp only [d_a1, d_sz1, d_lz1, d_dz1]); exact ((show ¬ (x2 = nI 0) by rw [c8]; decide)))).trans ?_; refine (if_neg (by (try simp only [d_a1, d_sz1, d_lz1, d_dz1]); exact ((show ¬ (x2 = nI 1) by rw [c8]; decide)))).trans ?_; refine (if_pos (by (try simp only [d_a1, d_sz1, d_lz1, d_dz1]); exact c8)).trans ?_; first | (simp only [d_a1, d_sz1, d_lz1, d_dz1]; done) | rfl, rfl⟩) (Nat.le_of_ble_eq_true rfl) (Nat.le_of_ble_eq_true rfl) dX7_about_97
      · refine lv_tableIn (tgt := 98) (off := 80) hx hb dX7_about_18 (by decide) (by decide) (by decide) (by decide) ?_
        refine lv_aload_n hx hb dX7_about_98 rfl (lv_at hl 0 rfl) ?_
        refine lv_aload_n hx hb dX7_about_99 rfl (lv_at hl 0 rfl) ?_
        refine zz_get hC hZ 0 rfl zf_X7_10 rfl dX7_about_100 ?_
        refine zz_get hC hZ 8 rfl zf_X7_83 rfl dX7_about_103 ?_
        refine lv_iload_n hx hb dX7_about_106 rfl (lv_at hl 1 rfl) ?_
        have bd20 : a1 < 60 := by omega
        refine zz_ialdn hC hZ 3 rfl bd20 (by decide) dX7_about_107 ?_
        refine zz_iV (As := [.int (clf a1)]) (wc := [cw_k6 h0 st mk lk ch ru mr md la]) (wr := [cw_i g kd 60 kdf, cw_i g dp 60 dpf, cw_i g cl 60 clf, cw_i g sa 60 saf, cw_i g ln 60 lnf, cw_l g bt 4000 btf, cw_z g pn 4000 pnf, cw_k5 st (nI na) (nI nu) kd dp cl sa ln bt pn bf]) (rest := []) hC hZ hs hl zc_X7_100 (co_fine g h0 st mk lk ch ru mr md la (clf a1)) [0] [1, 2, 3, 4, 5, 6, 7, 8] rfl rfl (by decide +kernel) (ci := 6) (q0 := 0) rfl rfl rfl rfl (Nat.le_of_ble_eq_true rfl) ⟨⟨Nat.le_of_ble_eq_true rfl, Nat.le_of_ble_eq_true rfl⟩, Nat.le_of_ble_eq_true rfl, Nat.le_of_ble_eq_true rfl⟩ dX7_about_108 (fun r21 u22 H locs hp hZ => ?_)
        obtain ⟨rfl, rfl⟩ := hp
        have hZ : zz_Z g A s.heap [cw_i g kd 60 kdf, cw_i g dp 60 dpf, cw_i g cl 60 clf, cw_i g sa 60 saf, cw_i g ln 60 lnf, cw_l g bt 4000 btf, cw_z g pn 4000 pnf, cw_k5 st (nI na) (nI nu) kd dp cl sa ln bt pn bf, cw_k6 h0 st mk lk ch ru mr md 0] H locs := hZ
        have hZ : zz_Z g A s.heap [cw_k6 h0 st mk lk ch ru mr md 0, cw_k5 st (nI na) (nI nu) kd dp cl sa ln bt pn bf, cw_i g kd 60 kdf, cw_i g dp 60 dpf, cw_i g cl 60 clf, cw_i g sa 60 saf, cw_i g ln 60 lnf, cw_l g bt 4000 btf, cw_z g pn 4000 pnf] H locs := hZ.sub [8, 7, 0, 1, 2, 3, 4, 5, 6] (by decide +kernel) rfl
        exact zz_iret hC hZ (⟨0, by refine Eq.symm ?_; rw [fn_cx_about]; refine (if_neg (by (try simp only [d_a1, d_sz1, d_lz1, d_dz1]); exact c3)).trans ?_; refine (if_neg (by (try simp only [d_a1, d_sz1, d_lz1, d_dz1]); exact ((show ¬ (x2 = nI 0) by rw [c8]; decide)))).trans ?_; refine (if_neg (by (try simp only [d_a1, d_sz1, d_lz1, d_dz1]); exact ((show ¬ (x2 = nI 1) by rw [c8]; decide)))).trans ?_; refine (if_neg (by (try simp only [d_a1, d_sz1, d_lz1, d_dz1]); exact ((show ¬ (x2 = nI 2) by rw [c8]; decide)))).trans ?_; refine (if_pos (by (try simp only [d_a1, d_sz1, d_lz1, d_dz1]); exact c8)).trans ?_; first | (simp only [d_a1, d_sz1, d_lz1, d_dz1]; done) | rfl, rfl⟩) (Nat.le_of_ble_eq_true rfl) (Nat.le_of_ble_eq_true rfl) dX7_about_111
      · refine lv_tableIn (tgt := 112) (off := 94) hx hb dX7_about_18 (by decide) (by decide) (by decide) (by decide) ?_
        refine lv_aload_n hx hb dX7_about_112 rfl (lv_at hl 0 rfl) ?_
        refine lv_aload_n hx hb dX7_about_113 rfl (lv_at hl 0 rfl) ?_
        refine zz_get hC hZ 0 rfl zf_X7_10 rfl dX7_about_114 ?_
        refine lv_iload_n hx hb dX7_about_117 rfl (lv_at hl 1 rfl) ?_
        refine zz_iV (As := [.int (nI a1)]) (wc := [cw_k5 st (nI na) (nI nu) kd dp cl sa ln bt pn bf, cw_i g dp 60 dpf, cw_i g sa 60 saf, cw_i g ln 60 lnf, cw_l g bt 4000 btf]) (wr := [cw_k6 h0 st mk lk ch ru mr md la, cw_i g kd 60 kdf, cw_i g cl 60 clf, cw_z g pn 4000 pnf]) (rest := [.ref h0]) hC hZ hs hl zc_X7_106 (co_nullRows g st kd dp cl sa ln bt pn bf na nu dpf saf lnf btf a1 sz1 lz1 (by omega) (es1) (el1) (by omega)) [8, 2, 4, 5, 6] [0, 1, 3, 7] rfl rfl (by decide +kernel) (ci := 5) (q0 := 0) rfl rfl rfl rfl (Nat.le_of_ble_eq_true rfl) ⟨⟨Nat.le_of_ble_eq_true rfl, Nat.le_of_ble_eq_true rfl⟩, Nat.le_of_ble_eq_true rfl, Nat.le_of_ble_eq_true rfl⟩ dX7_about_118 (fun r23 u24 H locs hp hZ => ?_)
        obtain ⟨rfl, rfl⟩ := hp
        have hZ : zz_Z g A s.heap [cw_k6 h0 st mk lk ch ru mr md la, cw_i g kd 60 kdf, cw_i g cl 60 clf, cw_z g pn 4000 pnf, cw_k5 st (nI na) (nI nu) kd dp cl sa ln bt pn bf, cw_i g dp 60 dpf, cw_i g sa 60 saf, cw_i g ln 60 lnf, cw_l g bt 4000 btf] H locs := hZ
        refine zz_iV (As := [.int (nI (if dpf a1 ≤ 1 then 0 else zz_cz btf sz1 lz1))]) (wc := [cw_k6 h0 st mk lk ch ru mr md la]) (wr := [cw_i g kd 60 kdf, cw_i g cl 60 clf, cw_z g pn 4000 pnf, cw_k5 st (nI na) (nI nu) kd dp cl sa ln bt pn bf, cw_i g dp 60 dpf, cw_i g sa 60 saf, cw_i g ln 60 lnf, cw_l g bt 4000 btf]) (rest := []) hC hZ hs hl zc_X7_100 (co_fine g h0 st mk lk ch ru mr md la (nI (if dpf a1 ≤ 1 then 0 else zz_cz btf sz1 lz1))) [0] [1, 2, 3, 4, 5, 6, 7, 8] rfl rfl (by decide +kernel) (ci := 6) (q0 := 0) rfl rfl rfl rfl (Nat.le_of_ble_eq_true rfl) ⟨⟨Nat.le_of_ble_eq_true rfl, Nat.le_of_ble_eq_true rfl⟩, Nat.le_of_ble_eq_true rfl, Nat.le_of_ble_eq_true rfl⟩ dX7_about_121 (fun r25 u26 H locs hp hZ => ?_)
        obtain ⟨rfl, rfl⟩ := hp
        have hZ : zz_Z g A s.heap [cw_i g kd 60 kdf, cw_i g cl 60 clf, cw_z g pn 4000 pnf, cw_k5 st (nI na) (nI nu) kd dp cl sa ln bt pn bf, cw_i g dp 60 dpf, cw_i g sa 60 saf, cw_i g ln 60 lnf, cw_l g bt 4000 btf, cw_k6 h0 st mk lk ch ru mr md 0] H locs := hZ
        have hZ : zz_Z g A s.heap [cw_k6 h0 st mk lk ch ru mr md 0, cw_k5 st (nI na) (nI nu) kd dp cl sa ln bt pn bf, cw_i g kd 60 kdf, cw_i g dp 60 dpf, cw_i g cl 60 clf, cw_i g sa 60 saf, cw_i g ln 60 lnf, cw_l g bt 4000 btf, cw_z g pn 4000 pnf] H locs := hZ.sub [8, 3, 0, 4, 1, 5, 6, 7, 2] (by decide +kernel) rfl
        exact zz_iret hC hZ (⟨0, by refine Eq.symm ?_; rw [fn_cx_about]; refine (if_neg (by (try simp only [d_a1, d_sz1, d_lz1, d_dz1]); exact c3)).trans ?_; refine (if_neg (by (try simp only [d_a1, d_sz1, d_lz1, d_dz1]); exact ((show ¬ (x2 = nI 0) by rw [c8]; decide)))).trans ?_; refine (if_neg (by (try simp only [d_a1, d_sz1, d_lz1, d_dz1]); exact ((show ¬ (x2 = nI 1) by rw [c8]; decide)))).trans ?_; refine (if_neg (by (try simp only [d_a1, d_sz1, d_lz1, d_dz1]); exact ((show ¬ (x2 = nI 2) by rw [c8]; decide)))).trans ?_; refine (if_neg (by (try simp only [d_a1, d_sz1, d_lz1, d_dz1]); exact ((show ¬ (x2 = nI 3) by rw [c8]; decide)))).trans ?_; refine (if_pos (by (try simp only [d_a1, d_sz1, d_lz1, d_dz1]); exact c8)).trans ?_; first | (simp only [d_a1, d_sz1, d_lz1, d_dz1]; done) | rfl, rfl⟩) (Nat.le_of_ble_eq_true rfl) (Nat.le_of_ble_eq_true rfl) dX7_about_124
      · refine lv_tableIn (tgt := 125) (off := 107) hx hb dX7_about_18 (by decide) (by decide) (by decide) (by decide) ?_
        refine lv_aload_n hx hb dX7_about_125 rfl (lv_at hl 0 rfl) ?_
        refine lv_aload_n hx hb dX7_about_126 rfl (lv_at hl 0 rfl) ?_
        refine zz_get hC hZ 0 rfl zf_X7_10 rfl dX7_about_127 ?_
        refine lv_iload_n hx hb dX7_about_130 rfl (lv_at hl 1 rfl) ?_
        refine lv_iconst (v := 0) hx hb dX7_about_131 (by decide) ?_
        refine lv_aload_n hx hb dX7_about_132 rfl (lv_at hl 0 rfl) ?_
        refine zz_get hC hZ 0 rfl zf_X7_10 rfl dX7_about_133 ?_
        refine zz_get hC hZ 8 rfl zf_X7_103 rfl dX7_about_136 ?_
        refine lv_iload_n hx hb dX7_about_139 rfl (lv_at hl 1 rfl) ?_
        have bd27 : a1 < 60 := by omega
        refine zz_ialdn hC hZ 5 rfl bd27 (by decide) dX7_about_140 ?_
        refine zz_topi (v := nI lz1) (el1) ?_
        refine zz_iV (As := [.int (nI a1), .int 0, .int (nI lz1)]) (wc := [cw_k5 st (nI na) (nI nu) kd dp cl sa ln bt pn bf, cw_i g sa 60 saf, cw_z g pn 4000 pnf]) (wr := [cw_k6 h0 st mk lk ch ru mr md la, cw_i g kd 60 kdf, cw_i g dp 60 dpf, cw_i g cl 60 clf, cw_i g ln 60 lnf, cw_l g bt 4000 btf]) (rest := [.ref h0]) hC hZ hs hl zc_X7_109 (co_pinnedIn g st kd dp cl sa ln bt pn bf na nu saf pnf a1 sz1 lz1 0 lz1 (by omega) (es1) (by omega) (by omega)) [8, 4, 7] [0, 1, 2, 3, 5, 6] rfl rfl (by decide +kernel) (ci := 5) (q0 := 0) rfl rfl rfl rfl (Nat.le_of_ble_eq_true rfl) ⟨⟨Nat.le_of_ble_eq_true rfl, Nat.le_of_ble_eq_true rfl⟩, Nat.le_of_ble_eq_true rfl, Nat.le_of_ble_eq_true rfl⟩ dX7_about_141 (fun r28 u29 H locs hp hZ => ?_)
        obtain ⟨rfl, f30, rfl⟩ := hp
        have hZ : zz_Z g A s.heap [cw_k6 h0 st mk lk ch ru mr md la, cw_i g kd 60 kdf, cw_i g dp 60 dpf, cw_i g cl 60 clf, cw_i g ln 60 lnf, cw_l g bt 4000 btf, cw_k5 st (nI na) (nI nu) kd dp cl sa ln bt pn bf, cw_i g sa 60 saf, cw_z g pn 4000 pnf] H locs := hZ
        refine zz_iV (As := [.int (nI (zz_cp pnf (sz1 + 0) (lz1 - 0)))]) (wc := [cw_k6 h0 st mk lk ch ru mr md la]) (wr := [cw_i g kd 60 kdf, cw_i g dp 60 dpf, cw_i g cl 60 clf, cw_i g ln 60 lnf, cw_l g bt 4000 btf, cw_k5 st (nI na) (nI nu) kd dp cl sa ln bt pn bf, cw_i g sa 60 saf, cw_z g pn 4000 pnf]) (rest := []) hC hZ hs hl zc_X7_100 (co_fine g h0 st mk lk ch ru mr md la (nI (zz_cp pnf (sz1 + 0) (lz1 - 0)))) [0] [1, 2, 3, 4, 5, 6, 7, 8] rfl rfl (by decide +kernel) (ci := 6) (q0 := 0) rfl rfl rfl rfl (Nat.le_of_ble_eq_true rfl) ⟨⟨Nat.le_of_ble_eq_true rfl, Nat.le_of_ble_eq_true rfl⟩, Nat.le_of_ble_eq_true rfl, Nat.le_of_ble_eq_true rfl⟩ dX7_about_144 (fun r31 u32 H locs hp hZ => ?_)
        obtain ⟨rfl, rfl⟩ := hp
        have hZ : zz_Z g A s.heap [cw_i g kd 60 kdf, cw_i g dp 60 dpf, cw_i g cl 60 clf, cw_i g ln 60 lnf, cw_l g bt 4000 btf, cw_k5 st (nI na) (nI nu) kd dp cl sa ln bt pn bf, cw_i g sa 60 saf, cw_z g pn 4000 pnf, cw_k6 h0 st mk lk ch ru mr md 0] H locs := hZ
        have hZ : zz_Z g A s.heap [cw_k6 h0 st mk lk ch ru mr md 0, cw_k5 st (nI na) (nI nu) kd dp cl sa ln bt pn bf, cw_i g kd 60 kdf, cw_i g dp 60 dpf, cw_i g cl 60 clf, cw_i g sa 60 saf, cw_i g ln 60 lnf, cw_l g bt 4000 btf, cw_z g pn 4000 pnf] H locs := hZ.sub [8, 5, 0, 1, 2, 6, 3, 4, 7] (by decide +kernel) rfl
        exact zz_iret hC hZ (⟨0, by refine Eq.symm ?_; rw [fn_cx_about]; refine (if_neg (by (try simp only [d_a1, d_sz1, d_lz1, d_dz1]); exact c3)).trans ?_; refine (if_neg (by (try simp only [d_a1, d_sz1, d_lz1, d_dz1]); exact ((show ¬ (x2 = nI 0) by rw [c8]; decide)))).trans ?_; refine (if_neg (by (try simp only [d_a1, d_sz1, d_lz1, d_dz1]); exact ((show ¬ (x2 = nI 1) by rw [c8]; decide)))).trans ?_; refine (if_neg (by (try simp only [d_a1, d_sz1, d_lz1, d_dz1]); exact ((show ¬ (x2 = nI 2) by rw [c8]; decide)))).trans ?_; refine (if_neg (by (try simp only [d_a1, d_sz1, d_lz1, d_dz1]); exact ((show ¬ (x2 = nI 3) by rw [c8]; decide)))).trans ?_; refine (if_neg (by (try simp only [d_a1, d_sz1, d_lz1, d_dz1]); exact ((show ¬ (x2 = nI 4) by rw [c8]; decide)))).trans ?_; refine (if_pos (by (try simp only [d_a1, d_sz1, d_lz1, d_dz1]); exact c8)).trans ?_; first | (simp only [d_a1, d_sz1, d_lz1, d_dz1]; done) | rfl, rfl⟩) (Nat.le_of_ble_eq_true rfl) (Nat.le_of_ble_eq_true rfl) dX7_about_147
  · refine lv_aload_n hx hb dX7_about_11 rfl (lv_at hl 0 rfl) ?_
    refine lv_iconst (v := 5) hx hb dX7_about_12 (by decide) ?_
    refine zz_iV (As := [.int 5]) (wc := [cw_k6 h0 st mk lk ch ru mr md la]) (wr := [cw_i g kd 60 kdf, cw_i g dp 60 dpf, cw_i g cl 60 clf, cw_i g sa 60 saf, cw_i g ln 60 lnf, cw_l g bt 4000 btf, cw_z g pn 4000 pnf, cw_k5 st (nI na) (nI nu) kd dp cl sa ln bt pn bf]) (rest := []) hC hZ hs hl zc_X7_65 (co_fail g h0 st mk lk ch ru mr md la 5) [0] [1, 2, 3, 4, 5, 6, 7, 8] rfl rfl (by decide +kernel) (ci := 6) (q0 := 0) rfl rfl rfl rfl (Nat.le_of_ble_eq_true rfl) ⟨⟨Nat.le_of_ble_eq_true rfl, Nat.le_of_ble_eq_true rfl⟩, Nat.le_of_ble_eq_true rfl, Nat.le_of_ble_eq_true rfl⟩ dX7_about_13 (fun r33 u34 H locs hp hZ => ?_)
    obtain ⟨rfl, rfl⟩ := hp
    have hZ : zz_Z g A s.heap [cw_i g kd 60 kdf, cw_i g dp 60 dpf, cw_i g cl 60 clf, cw_i g sa 60 saf, cw_i g ln 60 lnf, cw_l g bt 4000 btf, cw_z g pn 4000 pnf, cw_k5 st (nI na) (nI nu) kd dp cl sa ln bt pn bf, cw_k6 h0 st mk lk ch ru mr md 5] H locs := hZ
    have hZ : zz_Z g A s.heap [cw_k6 h0 st mk lk ch ru mr md 5, cw_k5 st (nI na) (nI nu) kd dp cl sa ln bt pn bf, cw_i g kd 60 kdf, cw_i g dp 60 dpf, cw_i g cl 60 clf, cw_i g sa 60 saf, cw_i g ln 60 lnf, cw_l g bt 4000 btf, cw_z g pn 4000 pnf] H locs := hZ.sub [8, 7, 0, 1, 2, 3, 4, 5, 6] (by decide +kernel) rfl
    exact zz_iret hC hZ (⟨5, by show _ = _; rw [fn_cx_about]; rw [if_pos c3], rfl⟩) (Nat.le_of_ble_eq_true rfl) (Nat.le_of_ble_eq_true rfl) dX7_about_16
theorem dg_X7_rowCode_0 : (decode cX7_rowCode 0 = .ok (.aload_n 0, 1)) ∧ (decode cX7_rowCode 1 = .ok (.getfield 10, 3)) ∧ (decode cX7_rowCode 4 = .ok (.iload_n 1, 1)) ∧ (decode cX7_rowCode 5 = .ok (.invokevirtual 73, 3)) ∧ (decode cX7_rowCode 8 = .ok (.ifCond .ne 5, 3)) ∧ (decode cX7_rowCode 11 = .ok (.iconst 5, 1)) ∧ (decode cX7_rowCode 12 = .ok (.ireturn, 1)) ∧ (decode cX7_rowCode 13 = .ok (.aload_n 0, 1)) ∧ (decode cX7_rowCode 14 = .ok (.getfield 10, 3)) ∧ (decode cX7_rowCode 17 = .ok (.getfield 76, 3)) ∧ (decode cX7_rowCode 20 = .ok (.iload_n 1, 1)) ∧ (decode cX7_rowCode 21 = .ok (.iaload, 1)) ∧ (decode cX7_rowCode 22 = .ok (.iconst 1, 1)) ∧ (decode cX7_rowCode 23 = .ok (.if_icmp .ne 5, 3)) ∧ (decode cX7_rowCode 26 = .ok (.iconst 1, 1)) ∧ (decode cX7_rowCode 27 = .ok (.ireturn, 1)) := by decide +kernel
theorem dX7_rowCode_0 : decode cX7_rowCode 0 = .ok (.aload_n 0, 1) := dg_X7_rowCode_0.1
theorem dX7_rowCode_1 : decode cX7_rowCode 1 = .ok (.getfield 10, 3) := dg_X7_rowCode_0.2.1
theorem dX7_rowCode_4 : decode cX7_rowCode 4 = .ok (.iload_n 1, 1) := dg_X7_rowCode_0.2.2.1
theorem dX7_rowCode_5 : decode cX7_rowCode 5 = .ok (.invokevirtual 73, 3) := dg_X7_rowCode_0.2.2.2.1
theorem dX7_rowCode_8 : decode cX7_rowCode 8 = .ok (.ifCond .ne 5, 3) := dg_X7_rowCode_0.2.2.2.2.1
theorem dX7_rowCode_11 : decode cX7_rowCode 11 = .ok (.iconst 5, 1) := dg_X7_rowCode_0.2.2.2.2.2.1
theorem dX7_rowCode_12 : decode cX7_rowCode 12 = .ok (.ireturn, 1) := dg_X7_rowCode_0.2.2.2.2.2.2.1
theorem dX7_rowCode_13 : decode cX7_rowCode 13 = .ok (.aload_n 0, 1) := dg_X7_rowCode_0.2.2.2.2.2.2.2.1
theorem dX7_rowCode_14 : decode cX7_rowCode 14 = .ok (.getfield 10, 3) := dg_X7_rowCode_0.2.2.2.2.2.2.2.2.1
theorem dX7_rowCode_17 : decode cX7_rowCode 17 = .ok (.getfield 76, 3) := dg_X7_rowCode_0.2.2.2.2.2.2.2.2.2.1
theorem dX7_rowCode_20 : decode cX7_rowCode 20 = .ok (.iload_n 1, 1) := dg_X7_rowCode_0.2.2.2.2.2.2.2.2.2.2.1
theorem dX7_rowCode_21 : decode cX7_rowCode 21 = .ok (.iaload, 1) := dg_X7_rowCode_0.2.2.2.2.2.2.2.2.2.2.2.1
theorem dX7_rowCode_22 : decode cX7_rowCode 22 = .ok (.iconst 1, 1) := dg_X7_rowCode_0.2.2.2.2.2.2.2.2.2.2.2.2.1
theorem dX7_rowCode_23 : decode cX7_rowCode 23 = .ok (.if_icmp .ne 5, 3) := dg_X7_rowCode_0.2.2.2.2.2.2.2.2.2.2.2.2.2.1
theorem dX7_rowCode_26 : decode cX7_rowCode 26 = .ok (.iconst 1, 1) := dg_X7_rowCode_0.2.2.2.2.2.2.2.2.2.2.2.2.2.2.1
theorem dX7_rowCode_27 : decode cX7_rowCode 27 = .ok (.ireturn, 1) := dg_X7_rowCode_0.2.2.2.2.2.2.2.2.2.2.2.2.2.2.2
theorem dg_X7_rowCode_28 : (decode cX7_rowCode 28 = .ok (.aload_n 0, 1)) ∧ (decode cX7_rowCode 29 = .ok (.getfield 10, 3)) ∧ (decode cX7_rowCode 32 = .ok (.iload_n 1, 1)) ∧ (decode cX7_rowCode 33 = .ok (.iload_n 2, 1)) ∧ (decode cX7_rowCode 34 = .ok (.invokevirtual 123, 3)) ∧ (decode cX7_rowCode 37 = .ok (.ifCond .eq 7, 3)) ∧ (decode cX7_rowCode 40 = .ok (.iconst 0, 1)) ∧ (decode cX7_rowCode 41 = .ok (.goto 4, 3)) ∧ (decode cX7_rowCode 44 = .ok (.iconst 2, 1)) ∧ (decode cX7_rowCode 45 = .ok (.ireturn, 1)) := by decide +kernel
theorem dX7_rowCode_28 : decode cX7_rowCode 28 = .ok (.aload_n 0, 1) := dg_X7_rowCode_28.1
theorem dX7_rowCode_29 : decode cX7_rowCode 29 = .ok (.getfield 10, 3) := dg_X7_rowCode_28.2.1
theorem dX7_rowCode_32 : decode cX7_rowCode 32 = .ok (.iload_n 1, 1) := dg_X7_rowCode_28.2.2.1
theorem dX7_rowCode_33 : decode cX7_rowCode 33 = .ok (.iload_n 2, 1) := dg_X7_rowCode_28.2.2.2.1
theorem dX7_rowCode_34 : decode cX7_rowCode 34 = .ok (.invokevirtual 123, 3) := dg_X7_rowCode_28.2.2.2.2.1
theorem dX7_rowCode_37 : decode cX7_rowCode 37 = .ok (.ifCond .eq 7, 3) := dg_X7_rowCode_28.2.2.2.2.2.1
theorem dX7_rowCode_40 : decode cX7_rowCode 40 = .ok (.iconst 0, 1) := dg_X7_rowCode_28.2.2.2.2.2.2.1
theorem dX7_rowCode_41 : decode cX7_rowCode 41 = .ok (.goto 4, 3) := dg_X7_rowCode_28.2.2.2.2.2.2.2.1
theorem dX7_rowCode_44 : decode cX7_rowCode 44 = .ok (.iconst 2, 1) := dg_X7_rowCode_28.2.2.2.2.2.2.2.2.1
theorem dX7_rowCode_45 : decode cX7_rowCode 45 = .ok (.ireturn, 1) := dg_X7_rowCode_28.2.2.2.2.2.2.2.2.2
theorem zk_313 : Cond.methodLink RX7 123 yX6_hasPlace ∈ zz_w := zz_in (List.mem_append_right _ (List.mem_append_right _ (List.mem_append_left _ (List.mem_of_getElem? (i := 73) (by decide +kernel))))) rfl
theorem zc_X7_123 : zz_cV RX7 123 yX6_hasPlace cX6_hasPlace 3 (some .boolean) 2 := ⟨⟨zk_313, zk_316, zk_2, by decide, by decide, by decide +kernel⟩, zk_314, zk_315⟩
def fn_co_rowCode (na : Nat) (dpf : Nat → Int32) (lnf : Nat → Int32) (x1 : Int32) (x2 : Int32) : Int32 := (if (fn_co_has (nI na) x1) = 0 then 5 else (if (nI ((dpf x1.toNatClampNeg).toNatClampNeg)) = 1 then 1 else (if (fn_co_hasPlace lnf x1.toNatClampNeg x2) = 0 then 2 else 0)))
abbrev rm_co_rowCode : Room := { frames := 1, cells := 0, slots := 0, locals := 22 }
abbrev po_co_rowCode (g : zz_G) (h0 : Nat) (st : Nat) (mk : Nat) (lk : Nat) (ch : Nat) (ru : Nat) (mr : Nat) (kd : Nat) (dp : Nat) (cl : Nat) (sa : Nat) (ln : Nat) (bt : Nat) (pn : Nat) (bf : Nat) (md : Int32) (la : Int32) (na : Nat) (nu : Nat) (dpf : Nat → Int32) (saf : Nat → Int32) (lnf : Nat → Int32) (x1 : Int32) (x2 : Int32) (h_S : zz_SI na nu dpf saf lnf) : Int32 → va_W → Prop := fun (r : Int32) (u : va_W) => r = fn_co_rowCode na dpf lnf x1 x2 ∧ (fn_co_rowCode na dpf lnf x1 x2 = 0 → ∃ a sz lz q : Nat, x1 = nI a ∧ a < na ∧ saf a = nI sz ∧ lnf a = nI lz ∧ sz + lz ≤ 4000 ∧ x2 = nI q ∧ q < lz) ∧ u = [cw_k6 h0 st mk lk ch ru mr md la, cw_k5 st (nI na) (nI nu) kd dp cl sa ln bt pn bf, cw_i g dp 60 dpf, cw_i g ln 60 lnf]
set_option maxHeartbeats 4000000 in
set_option maxRecDepth 100000 in
theorem co_rowCode (g : zz_G) (h0 : Nat) (st : Nat) (mk : Nat) (lk : Nat) (ch : Nat) (ru : Nat) (mr : Nat) (kd : Nat) (dp : Nat) (cl : Nat) (sa : Nat) (ln : Nat) (bt : Nat) (pn : Nat) (bf : Nat) (md : Int32) (la : Int32) (na : Nat) (nu : Nat) (dpf : Nat → Int32) (saf : Nat → Int32) (lnf : Nat → Int32) (x1 : Int32) (x2 : Int32) (h_S : zz_SI na nu dpf saf lnf) : zz_I g yX7_rowCode (.code yX7_rowCode cX7_rowCode 3 (some .int)) rm_co_rowCode [.ref h0, .int x1, .int x2] [cw_k6 h0 st mk lk ch ru mr md la, cw_k5 st (nI na) (nI nu) kd dp cl sa ln bt pn bf, cw_i g dp 60 dpf, cw_i g ln 60 lnf] (po_co_rowCode g h0 st mk lk ch ru mr kd dp cl sa ln bt pn bf md la na nu dpf saf lnf x1 x2 h_S) := by
  refine zz_I.intro (own := RX7) (cc := cX7_rowCode) (nL := 3) (by decide) rfl (Nat.le_of_ble_eq_true rfl) ?_
  intro p l e s m args below meth c A H locs ls hC hnm hs hZ hl
  obtain ⟨hx, hb, hml, hown, hts, hr, hlocks, hK⟩ := id hC
  have hl : lv_has ls 3 [(0, .ref h0), (1, .int x1), (2, .int x2)] := hl
  have hZ : zz_Z g A s.heap [cw_k6 h0 st mk lk ch ru mr md la, cw_k5 st (nI na) (nI nu) kd dp cl sa ln bt pn bf, cw_i g dp 60 dpf, cw_i g ln 60 lnf] H locs := hZ
  have hna := h_S.1
  have hnu := h_S.2.1
  refine lv_aload_n hx hb dX7_rowCode_0 rfl (lv_at hl 0 rfl) ?_
  refine zz_get hC hZ 0 rfl zf_X7_10 rfl dX7_rowCode_1 ?_
  refine lv_iload_n hx hb dX7_rowCode_4 rfl (lv_at hl 1 rfl) ?_
  refine zz_iV (As := [.int x1]) (wc := [cw_k5 st (nI na) (nI nu) kd dp cl sa ln bt pn bf]) (wr := [cw_k6 h0 st mk lk ch ru mr md la, cw_i g dp 60 dpf, cw_i g ln 60 lnf]) (rest := []) hC hZ hs hl zc_X7_73 (co_has g st kd dp cl sa ln bt pn bf (nI na) (nI nu) x1) [1] [0, 2, 3] rfl rfl (by decide +kernel) (ci := 5) (q0 := 0) rfl rfl rfl rfl (Nat.le_of_ble_eq_true rfl) ⟨⟨Nat.le_of_ble_eq_true rfl, Nat.le_of_ble_eq_true rfl⟩, Nat.le_of_ble_eq_true rfl, Nat.le_of_ble_eq_true rfl⟩ dX7_rowCode_5 (fun r1 u2 H locs hp hZ => ?_)
  obtain ⟨rfl, rfl⟩ := hp
  have hZ : zz_Z g A s.heap [cw_k6 h0 st mk lk ch ru mr md la, cw_i g dp 60 dpf, cw_i g ln 60 lnf, cw_k5 st (nI na) (nI nu) kd dp cl sa ln bt pn bf] H locs := hZ
  refine lv_if_ne (tgt := 13) hx hb dX7_rowCode_8 (by decide) (fun c3 => ?_) (fun c3 => ?_)
  · obtain ⟨a1, ha1, ea1⟩ := zl_has (by omega) c3
    have hl : lv_has ls 3 [(0, .ref h0), (1, .int (nI a1)), (2, .int x2)] := by rw [← ea1]; exact hl
    have bd4 : a1 < 2 ^ 31 := by omega
    have d_a1 : x1.toNatClampNeg = a1 := by rw [ea1]; exact nI_clamp bd4
    obtain ⟨sz1, lz1, dz1, es1, el1, ed1, g11, g21, g31, g41⟩ := h_S.2.2 a1 ha1
    have bd5 : sz1 < 2 ^ 31 := by omega
    have d_sz1 : (saf a1).toNatClampNeg = sz1 := by rw [es1]; exact nI_clamp bd5
    have bd6 : lz1 < 2 ^ 31 := by omega
    have d_lz1 : (lnf a1).toNatClampNeg = lz1 := by rw [el1]; exact nI_clamp bd6
    have bd7 : dz1 < 2 ^ 31 := by omega
    have d_dz1 : (dpf a1).toNatClampNeg = dz1 := by rw [ed1]; exact nI_clamp bd7
    refine lv_aload_n hx hb dX7_rowCode_13 rfl (lv_at hl 0 rfl) ?_
    refine zz_get hC hZ 0 rfl zf_X7_10 rfl dX7_rowCode_14 ?_
    refine zz_get hC hZ 3 rfl zf_X7_76 rfl dX7_rowCode_17 ?_
    refine lv_iload_n hx hb dX7_rowCode_20 rfl (lv_at hl 1 rfl) ?_
    have bd8 : a1 < 60 := by omega
    refine zz_ialdn hC hZ 1 rfl bd8 (by decide) dX7_rowCode_21 ?_
    refine zz_topi (v := nI dz1) (ed1) ?_
    refine lv_iconst (v := 1) hx hb dX7_rowCode_22 (by decide) ?_
    refine lv_icmp_ne (tgt := 28) hx hb dX7_rowCode_23 (by decide) (fun c9 => ?_) (fun c9 => ?_)
    · have nc9 : ¬ dz1 = 1 := fun zq => c9 (show nI (dz1) = nI (1) from (nI_eq bd7 (by decide)).mpr zq)
      refine lv_aload_n hx hb dX7_rowCode_28 rfl (lv_at hl 0 rfl) ?_
      refine zz_get hC hZ 0 rfl zf_X7_10 rfl dX7_rowCode_29 ?_
      refine lv_iload_n hx hb dX7_rowCode_32 rfl (lv_at hl 1 rfl) ?_
      refine lv_iload_n hx hb dX7_rowCode_33 rfl (lv_at hl 2 rfl) ?_
      refine zz_iV (As := [.int (nI a1), .int x2]) (wc := [cw_k5 st (nI na) (nI nu) kd dp cl sa ln bt pn bf, cw_i g ln 60 lnf]) (wr := [cw_k6 h0 st mk lk ch ru mr md la, cw_i g dp 60 dpf]) (rest := []) hC hZ hs hl zc_X7_123 (co_hasPlace g st kd dp cl sa ln bt pn bf na nu lnf a1 x2 (by omega)) [3, 2] [0, 1] rfl rfl (by decide +kernel) (ci := 5) (q0 := 0) rfl rfl rfl rfl (Nat.le_of_ble_eq_true rfl) ⟨⟨Nat.le_of_ble_eq_true rfl, Nat.le_of_ble_eq_true rfl⟩, Nat.le_of_ble_eq_true rfl, Nat.le_of_ble_eq_true rfl⟩ dX7_rowCode_34 (fun r10 u11 H locs hp hZ => ?_)
      obtain ⟨rfl, rfl⟩ := hp
      have hZ : zz_Z g A s.heap [cw_k6 h0 st mk lk ch ru mr md la, cw_i g dp 60 dpf, cw_k5 st (nI na) (nI nu) kd dp cl sa ln bt pn bf, cw_i g ln 60 lnf] H locs := hZ
      refine lv_if_eq (tgt := 44) hx hb dX7_rowCode_37 (by decide) (fun c12 => ?_) (fun c12 => ?_)
      · refine lv_iconst (v := 2) hx hb dX7_rowCode_44 (by decide) ?_
        have hZ : zz_Z g A s.heap [cw_k6 h0 st mk lk ch ru mr md la, cw_k5 st (nI na) (nI nu) kd dp cl sa ln bt pn bf, cw_i g dp 60 dpf, cw_i g ln 60 lnf] H locs := hZ.sub [0, 2, 1, 3] (by decide +kernel) rfl
        exact zz_iret hC hZ (⟨by refine Eq.symm ?_; rw [fn_co_rowCode]; refine (if_neg (by (try simp only [d_a1, d_sz1, d_lz1, d_dz1]); exact c3)).trans ?_; refine (if_neg (by (try simp only [d_a1, d_sz1, d_lz1, d_dz1]); exact c9)).trans ?_; refine (if_pos (by (try simp only [d_a1, d_sz1, d_lz1, d_dz1]); exact c12)).trans ?_; first | (simp only [d_a1, d_sz1, d_lz1, d_dz1]; done) | rfl, fun zq => absurd ((by refine Eq.symm ?_; rw [fn_co_rowCode]; refine (if_neg (by (try simp only [d_a1, d_sz1, d_lz1, d_dz1]); exact c3)).trans ?_; refine (if_neg (by (try simp only [d_a1, d_sz1, d_lz1, d_dz1]); exact c9)).trans ?_; refine (if_pos (by (try simp only [d_a1, d_sz1, d_lz1, d_dz1]); exact c12)).trans ?_; first | (simp only [d_a1, d_sz1, d_lz1, d_dz1]; done) | rfl : 2 = fn_co_rowCode na dpf lnf x1 x2).trans zq) (by decide), rfl⟩) (Nat.le_of_ble_eq_true rfl) (Nat.le_of_ble_eq_true rfl) dX7_rowCode_45
      · obtain ⟨q2, hq2, eq2⟩ := zl_place el1 g11 c12
        have hl : lv_has ls 3 [(0, .ref h0), (1, .int (nI a1)), (2, .int (nI q2))] := by rw [← eq2]; exact hl
        have bd13 : q2 < 2 ^ 31 := by omega
        have d_q2 : x2.toNatClampNeg = q2 := by rw [eq2]; exact nI_clamp bd13
        refine lv_iconst (v := 0) hx hb dX7_rowCode_40 (by decide) ?_
        refine lv_goto (tgt := 45) hx hb dX7_rowCode_41 (by decide) ?_
        have hZ : zz_Z g A s.heap [cw_k6 h0 st mk lk ch ru mr md la, cw_k5 st (nI na) (nI nu) kd dp cl sa ln bt pn bf, cw_i g dp 60 dpf, cw_i g ln 60 lnf] H locs := hZ.sub [0, 2, 1, 3] (by decide +kernel) rfl
        exact zz_iret hC hZ (⟨by refine Eq.symm ?_; rw [fn_co_rowCode]; refine (if_neg (by (try simp only [d_a1, d_sz1, d_lz1, d_dz1, d_q2]); exact c3)).trans ?_; refine (if_neg (by (try simp only [d_a1, d_sz1, d_lz1, d_dz1, d_q2]); exact c9)).trans ?_; refine (if_neg (by (try simp only [d_a1, d_sz1, d_lz1, d_dz1, d_q2]); exact c12)).trans ?_; first | (simp only [d_a1, d_sz1, d_lz1, d_dz1, d_q2]; done) | rfl, fun _ => ⟨a1, sz1, lz1, q2, ea1, ha1, es1, el1, by omega, eq2, hq2⟩, rfl⟩) (Nat.le_of_ble_eq_true rfl) (Nat.le_of_ble_eq_true rfl) dX7_rowCode_45
    · have nc9 : dz1 = 1 := (nI_eq bd7 (by decide)).mp (show nI (dz1) = nI (1) from c9)
      refine lv_iconst (v := 1) hx hb dX7_rowCode_26 (by decide) ?_
      have hZ : zz_Z g A s.heap [cw_k6 h0 st mk lk ch ru mr md la, cw_k5 st (nI na) (nI nu) kd dp cl sa ln bt pn bf, cw_i g dp 60 dpf, cw_i g ln 60 lnf] H locs := hZ.sub [0, 3, 1, 2] (by decide +kernel) rfl
      exact zz_iret hC hZ (⟨by refine Eq.symm ?_; rw [fn_co_rowCode]; refine (if_neg (by (try simp only [d_a1, d_sz1, d_lz1, d_dz1]); exact c3)).trans ?_; refine (if_pos (by (try simp only [d_a1, d_sz1, d_lz1, d_dz1]); exact c9)).trans ?_; first | (simp only [d_a1, d_sz1, d_lz1, d_dz1]; done) | rfl, fun zq => absurd ((by refine Eq.symm ?_; rw [fn_co_rowCode]; refine (if_neg (by (try simp only [d_a1, d_sz1, d_lz1, d_dz1]); exact c3)).trans ?_; refine (if_pos (by (try simp only [d_a1, d_sz1, d_lz1, d_dz1]); exact c9)).trans ?_; first | (simp only [d_a1, d_sz1, d_lz1, d_dz1]; done) | rfl : 1 = fn_co_rowCode na dpf lnf x1 x2).trans zq) (by decide), rfl⟩) (Nat.le_of_ble_eq_true rfl) (Nat.le_of_ble_eq_true rfl) dX7_rowCode_27
  · refine lv_iconst (v := 5) hx hb dX7_rowCode_11 (by decide) ?_
    have hZ : zz_Z g A s.heap [cw_k6 h0 st mk lk ch ru mr md la, cw_k5 st (nI na) (nI nu) kd dp cl sa ln bt pn bf, cw_i g dp 60 dpf, cw_i g ln 60 lnf] H locs := hZ.sub [0, 3, 1, 2] (by decide +kernel) rfl
    exact zz_iret hC hZ (⟨by show _ = _; rw [fn_co_rowCode]; rw [if_pos c3], fun zq => absurd ((by show _ = _; rw [fn_co_rowCode]; rw [if_pos c3] : 5 = fn_co_rowCode na dpf lnf x1 x2).trans zq) (by decide), rfl⟩) (Nat.le_of_ble_eq_true rfl) (Nat.le_of_ble_eq_true rfl) dX7_rowCode_12
theorem dg_X7_row_0 : (decode cX7_row 0 = .ok (.aload_n 0, 1)) ∧ (decode cX7_row 1 = .ok (.aload_n 0, 1)) ∧ (decode cX7_row 2 = .ok (.iload_n 1, 1)) ∧ (decode cX7_row 3 = .ok (.iload_n 2, 1)) ∧ (decode cX7_row 4 = .ok (.invokevirtual 113, 3)) ∧ (decode cX7_row 7 = .ok (.putfield 56, 3)) ∧ (decode cX7_row 10 = .ok (.aload_n 0, 1)) ∧ (decode cX7_row 11 = .ok (.getfield 56, 3)) ∧ (decode cX7_row 14 = .ok (.ifCond .eq 5, 3)) ∧ (decode cX7_row 17 = .ok (.iconst (-1), 1)) ∧ (decode cX7_row 18 = .ok (.ireturn, 1)) ∧ (decode cX7_row 19 = .ok (.aload_n 0, 1)) ∧ (decode cX7_row 20 = .ok (.getfield 10, 3)) ∧ (decode cX7_row 23 = .ok (.getfield 116, 3)) ∧ (decode cX7_row 26 = .ok (.aload_n 0, 1)) ∧ (decode cX7_row 27 = .ok (.getfield 10, 3)) := by decide +kernel
theorem dX7_row_0 : decode cX7_row 0 = .ok (.aload_n 0, 1) := dg_X7_row_0.1
theorem dX7_row_1 : decode cX7_row 1 = .ok (.aload_n 0, 1) := dg_X7_row_0.2.1
theorem dX7_row_2 : decode cX7_row 2 = .ok (.iload_n 1, 1) := dg_X7_row_0.2.2.1
theorem dX7_row_3 : decode cX7_row 3 = .ok (.iload_n 2, 1) := dg_X7_row_0.2.2.2.1
theorem dX7_row_4 : decode cX7_row 4 = .ok (.invokevirtual 113, 3) := dg_X7_row_0.2.2.2.2.1
theorem dX7_row_7 : decode cX7_row 7 = .ok (.putfield 56, 3) := dg_X7_row_0.2.2.2.2.2.1
theorem dX7_row_10 : decode cX7_row 10 = .ok (.aload_n 0, 1) := dg_X7_row_0.2.2.2.2.2.2.1
theorem dX7_row_11 : decode cX7_row 11 = .ok (.getfield 56, 3) := dg_X7_row_0.2.2.2.2.2.2.2.1
theorem dX7_row_14 : decode cX7_row 14 = .ok (.ifCond .eq 5, 3) := dg_X7_row_0.2.2.2.2.2.2.2.2.1
theorem dX7_row_17 : decode cX7_row 17 = .ok (.iconst (-1), 1) := dg_X7_row_0.2.2.2.2.2.2.2.2.2.1
theorem dX7_row_18 : decode cX7_row 18 = .ok (.ireturn, 1) := dg_X7_row_0.2.2.2.2.2.2.2.2.2.2.1
theorem dX7_row_19 : decode cX7_row 19 = .ok (.aload_n 0, 1) := dg_X7_row_0.2.2.2.2.2.2.2.2.2.2.2.1
theorem dX7_row_20 : decode cX7_row 20 = .ok (.getfield 10, 3) := dg_X7_row_0.2.2.2.2.2.2.2.2.2.2.2.2.1
theorem dX7_row_23 : decode cX7_row 23 = .ok (.getfield 116, 3) := dg_X7_row_0.2.2.2.2.2.2.2.2.2.2.2.2.2.1
theorem dX7_row_26 : decode cX7_row 26 = .ok (.aload_n 0, 1) := dg_X7_row_0.2.2.2.2.2.2.2.2.2.2.2.2.2.2.1
theorem dX7_row_27 : decode cX7_row 27 = .ok (.getfield 10, 3) := dg_X7_row_0.2.2.2.2.2.2.2.2.2.2.2.2.2.2.2
theorem dg_X7_row_30 : (decode cX7_row 30 = .ok (.getfield 120, 3)) ∧ (decode cX7_row 33 = .ok (.iload_n 1, 1)) ∧ (decode cX7_row 34 = .ok (.iaload, 1)) ∧ (decode cX7_row 35 = .ok (.iload_n 2, 1)) ∧ (decode cX7_row 36 = .ok (.iadd, 1)) ∧ (decode cX7_row 37 = .ok (.laload, 1)) ∧ (decode cX7_row 38 = .ok (.l2i, 1)) ∧ (decode cX7_row 39 = .ok (.ireturn, 1)) := by decide +kernel
theorem dX7_row_30 : decode cX7_row 30 = .ok (.getfield 120, 3) := dg_X7_row_30.1
theorem dX7_row_33 : decode cX7_row 33 = .ok (.iload_n 1, 1) := dg_X7_row_30.2.1
theorem dX7_row_34 : decode cX7_row 34 = .ok (.iaload, 1) := dg_X7_row_30.2.2.1
theorem dX7_row_35 : decode cX7_row 35 = .ok (.iload_n 2, 1) := dg_X7_row_30.2.2.2.1
theorem dX7_row_36 : decode cX7_row 36 = .ok (.iadd, 1) := dg_X7_row_30.2.2.2.2.1
theorem dX7_row_37 : decode cX7_row 37 = .ok (.laload, 1) := dg_X7_row_30.2.2.2.2.2.1
theorem dX7_row_38 : decode cX7_row 38 = .ok (.l2i, 1) := dg_X7_row_30.2.2.2.2.2.2.1
theorem dX7_row_39 : decode cX7_row 39 = .ok (.ireturn, 1) := dg_X7_row_30.2.2.2.2.2.2.2
theorem zk_309 : Cond.methodLink RX7 113 yX7_rowCode ∈ zz_w := zz_in (List.mem_append_right _ (List.mem_append_right _ (List.mem_append_left _ (List.mem_of_getElem? (i := 69) (by decide +kernel))))) rfl
set_option maxRecDepth 20000 in
theorem zk_312 : Cond.code yX7_rowCode cX7_rowCode 3 (some .int) ∈ zz_w := zz_in (List.mem_append_right _ (List.mem_append_right _ (List.mem_append_left _ (List.mem_of_getElem? (i := 72) (rfl))))) rfl
theorem zk_311 : Cond.instanceMethod yX7_rowCode ∈ zz_w := zz_in (List.mem_append_right _ (List.mem_append_right _ (List.mem_append_left _ (List.mem_of_getElem? (i := 71) (by decide +kernel))))) rfl
theorem zs_4 : Cond.selects RX7 yX7_rowCode yX7_rowCode ∈ zz_w := zz_in (List.mem_append_left _ (List.mem_of_getElem? (i := 4) (by decide +kernel))) rfl
theorem zc_X7_113 : zz_cV RX7 113 yX7_rowCode cX7_rowCode 3 (some .int) 2 := ⟨⟨zk_309, zk_312, zk_1, by decide, by decide, by decide +kernel⟩, zk_311, zs_4⟩
def fn_cx_row (na : Nat) (nu : Nat) (dpf : Nat → Int32) (saf : Nat → Int32) (lnf : Nat → Int32) (btf : Nat → Int64) (x1 : Int32) (x2 : Int32) : Int32 := (if (fn_co_rowCode na dpf lnf x1 x2) = 0 then (btf (((saf x1.toNatClampNeg).toNatClampNeg) + x2.toNatClampNeg)).toInt32 else -1)
abbrev rm_cx_row : Room := { frames := 2, cells := 0, slots := 0, locals := 44 }
abbrev po_cx_row (g : zz_G) (h0 : Nat) (st : Nat) (mk : Nat) (lk : Nat) (ch : Nat) (ru : Nat) (mr : Nat) (kd : Nat) (dp : Nat) (cl : Nat) (sa : Nat) (ln : Nat) (bt : Nat) (pn : Nat) (bf : Nat) (md : Int32) (la : Int32) (na : Nat) (nu : Nat) (dpf : Nat → Int32) (saf : Nat → Int32) (lnf : Nat → Int32) (btf : Nat → Int64) (x1 : Int32) (x2 : Int32) (h_S : zz_SI na nu dpf saf lnf) : Int32 → va_W → Prop := fun (r : Int32) (u : va_W) => ∃ (la2 : Int32), r = fn_cx_row na nu dpf saf lnf btf x1 x2 ∧ u = [cw_k6 h0 st mk lk ch ru mr md la2, cw_k5 st (nI na) (nI nu) kd dp cl sa ln bt pn bf, cw_i g dp 60 dpf, cw_i g sa 60 saf, cw_i g ln 60 lnf, cw_l g bt 4000 btf]
set_option maxHeartbeats 4000000 in
set_option maxRecDepth 100000 in
theorem cx_row (g : zz_G) (h0 : Nat) (st : Nat) (mk : Nat) (lk : Nat) (ch : Nat) (ru : Nat) (mr : Nat) (kd : Nat) (dp : Nat) (cl : Nat) (sa : Nat) (ln : Nat) (bt : Nat) (pn : Nat) (bf : Nat) (md : Int32) (la : Int32) (na : Nat) (nu : Nat) (dpf : Nat → Int32) (saf : Nat → Int32) (lnf : Nat → Int32) (btf : Nat → Int64) (x1 : Int32) (x2 : Int32) (h_S : zz_SI na nu dpf saf lnf) : zz_I g yX7_row (.code yX7_row cX7_row 3 (some .int)) rm_cx_row [.ref h0, .int x1, .int x2] [cw_k6 h0 st mk lk ch ru mr md la, cw_k5 st (nI na) (nI nu) kd dp cl sa ln bt pn bf, cw_i g dp 60 dpf, cw_i g sa 60 saf, cw_i g ln 60 lnf, cw_l g bt 4000 btf] (po_cx_row g h0 st mk lk ch ru mr kd dp cl sa ln bt pn bf md la na nu dpf saf lnf btf x1 x2 h_S) := by
  refine zz_I.intro (own := RX7) (cc := cX7_row) (nL := 3) (by decide) rfl (Nat.le_of_ble_eq_true rfl) ?_
  intro p l e s m args below meth c A H locs ls hC hnm hs hZ hl
  obtain ⟨hx, hb, hml, hown, hts, hr, hlocks, hK⟩ := id hC
  have hl : lv_has ls 3 [(0, .ref h0), (1, .int x1), (2, .int x2)] := hl
  have hZ : zz_Z g A s.heap [cw_k6 h0 st mk lk ch ru mr md la, cw_k5 st (nI na) (nI nu) kd dp cl sa ln bt pn bf, cw_i g dp 60 dpf, cw_i g sa 60 saf, cw_i g ln 60 lnf, cw_l g bt 4000 btf] H locs := hZ
  have hna := h_S.1
  have hnu := h_S.2.1
  refine lv_aload_n hx hb dX7_row_0 rfl (lv_at hl 0 rfl) ?_
  refine lv_aload_n hx hb dX7_row_1 rfl (lv_at hl 0 rfl) ?_
  refine lv_iload_n hx hb dX7_row_2 rfl (lv_at hl 1 rfl) ?_
  refine lv_iload_n hx hb dX7_row_3 rfl (lv_at hl 2 rfl) ?_
  refine zz_iV (As := [.int x1, .int x2]) (wc := [cw_k6 h0 st mk lk ch ru mr md la, cw_k5 st (nI na) (nI nu) kd dp cl sa ln bt pn bf, cw_i g dp 60 dpf, cw_i g ln 60 lnf]) (wr := [cw_i g sa 60 saf, cw_l g bt 4000 btf]) (rest := [.ref h0]) hC hZ hs hl zc_X7_113 (co_rowCode g h0 st mk lk ch ru mr kd dp cl sa ln bt pn bf md la na nu dpf saf lnf x1 x2 (h_S)) [0, 1, 2, 4] [3, 5] rfl rfl (by decide +kernel) (ci := 6) (q0 := 0) rfl rfl rfl rfl (Nat.le_of_ble_eq_true rfl) ⟨⟨Nat.le_of_ble_eq_true rfl, Nat.le_of_ble_eq_true rfl⟩, Nat.le_of_ble_eq_true rfl, Nat.le_of_ble_eq_true rfl⟩ dX7_row_4 (fun r1 u2 H locs hp hZ => ?_)
  obtain ⟨rfl, f3, rfl⟩ := hp
  have hZ : zz_Z g A s.heap [cw_i g sa 60 saf, cw_l g bt 4000 btf, cw_k6 h0 st mk lk ch ru mr md la, cw_k5 st (nI na) (nI nu) kd dp cl sa ln bt pn bf, cw_i g dp 60 dpf, cw_i g ln 60 lnf] H locs := hZ
  refine zz_put hC hZ 2 rfl zu_X7_56 (Nat.le_of_ble_eq_true rfl) dX7_row_7 (fun H locs hZ => ?_)
  have hZ : zz_Z g A s.heap [cw_i g sa 60 saf, cw_l g bt 4000 btf, cw_k6 h0 st mk lk ch ru mr md (fn_co_rowCode na dpf lnf x1 x2), cw_k5 st (nI na) (nI nu) kd dp cl sa ln bt pn bf, cw_i g dp 60 dpf, cw_i g ln 60 lnf] H locs := hZ
  refine lv_aload_n hx hb dX7_row_10 rfl (lv_at hl 0 rfl) ?_
  refine zz_get hC hZ 2 rfl zf_X7_56 rfl dX7_row_11 ?_
  refine lv_if_eq (tgt := 19) hx hb dX7_row_14 (by decide) (fun c4 => ?_) (fun c4 => ?_)
  · obtain ⟨a1, sz1, lz1, q2, ea1, ha1, es1, el1, hb1, eq2, hq2⟩ := f3 c4
    have hl : lv_has ls 3 [(0, .ref h0), (1, .int (nI a1)), (2, .int x2)] := by rw [← ea1]; exact hl
    have hl : lv_has ls 3 [(0, .ref h0), (1, .int (nI a1)), (2, .int (nI q2))] := by rw [← eq2]; exact hl
    have bd5 : a1 < 2 ^ 31 := by omega
    have d_a1 : x1.toNatClampNeg = a1 := by rw [ea1]; exact nI_clamp bd5
    have bd6 : q2 < 2 ^ 31 := by omega
    have d_q2 : x2.toNatClampNeg = q2 := by rw [eq2]; exact nI_clamp bd6
    have d_sz1 : (saf a1).toNatClampNeg = sz1 := by rw [es1]; exact nI_clamp (by omega)
    refine lv_aload_n hx hb dX7_row_19 rfl (lv_at hl 0 rfl) ?_
    refine zz_get hC hZ 2 rfl zf_X7_10 rfl dX7_row_20 ?_
    refine zz_get hC hZ 3 rfl zf_X7_116 rfl dX7_row_23 ?_
    refine lv_aload_n hx hb dX7_row_26 rfl (lv_at hl 0 rfl) ?_
    refine zz_get hC hZ 2 rfl zf_X7_10 rfl dX7_row_27 ?_
    refine zz_get hC hZ 3 rfl zf_X7_120 rfl dX7_row_30 ?_
    refine lv_iload_n hx hb dX7_row_33 rfl (lv_at hl 1 rfl) ?_
    have bd7 : a1 < 60 := by omega
    refine zz_ialdn hC hZ 0 rfl bd7 (by decide) dX7_row_34 ?_
    refine zz_topi (v := nI sz1) (es1) ?_
    refine lv_iload_n hx hb dX7_row_35 rfl (lv_at hl 2 rfl) ?_
    refine lv_iadd hx hb dX7_row_36 ?_
    refine zz_topi (v := nI (sz1 + q2)) (nI_add _ _) ?_
    have bd8 : (sz1 + q2) < 4000 := by omega
    refine zz_laldn hC hZ 1 rfl bd8 (by decide) dX7_row_37 ?_
    refine lv_l2i hx hb dX7_row_38 rfl ?_
    have hZ : zz_Z g A s.heap [cw_k6 h0 st mk lk ch ru mr md (fn_co_rowCode na dpf lnf x1 x2), cw_k5 st (nI na) (nI nu) kd dp cl sa ln bt pn bf, cw_i g dp 60 dpf, cw_i g sa 60 saf, cw_i g ln 60 lnf, cw_l g bt 4000 btf] H locs := hZ.sub [2, 3, 4, 0, 5, 1] (by decide +kernel) rfl
    exact zz_iret hC hZ (⟨(fn_co_rowCode na dpf lnf x1 x2), by refine Eq.symm ?_; rw [fn_cx_row]; refine (if_pos (by (try simp only [d_a1, d_q2, d_sz1]); exact c4)).trans ?_; first | (simp only [d_a1, d_q2, d_sz1]; done) | rfl, rfl⟩) (Nat.le_of_ble_eq_true rfl) (Nat.le_of_ble_eq_true rfl) dX7_row_39
  · refine lv_iconst (v := -1) hx hb dX7_row_17 (by decide) ?_
    have hZ : zz_Z g A s.heap [cw_k6 h0 st mk lk ch ru mr md (fn_co_rowCode na dpf lnf x1 x2), cw_k5 st (nI na) (nI nu) kd dp cl sa ln bt pn bf, cw_i g dp 60 dpf, cw_i g sa 60 saf, cw_i g ln 60 lnf, cw_l g bt 4000 btf] H locs := hZ.sub [2, 3, 4, 0, 5, 1] (by decide +kernel) rfl
    exact zz_iret hC hZ (⟨(fn_co_rowCode na dpf lnf x1 x2), by show _ = _; rw [fn_cx_row]; rw [if_neg c4], rfl⟩) (Nat.le_of_ble_eq_true rfl) (Nat.le_of_ble_eq_true rfl) dX7_row_18
theorem dg_X7_setRow_0 : (decode cX7_setRow 0 = .ok (.aload_n 0, 1)) ∧ (decode cX7_setRow 1 = .ok (.getfield 10, 3)) ∧ (decode cX7_setRow 4 = .ok (.iload_n 1, 1)) ∧ (decode cX7_setRow 5 = .ok (.invokevirtual 73, 3)) ∧ (decode cX7_setRow 8 = .ok (.ifCond .eq 19, 3)) ∧ (decode cX7_setRow 11 = .ok (.iload_n 3, 1)) ∧ (decode cX7_setRow 12 = .ok (.iconst (-1), 1)) ∧ (decode cX7_setRow 13 = .ok (.if_icmp .eq 20, 3)) ∧ (decode cX7_setRow 16 = .ok (.aload_n 0, 1)) ∧ (decode cX7_setRow 17 = .ok (.getfield 10, 3)) ∧ (decode cX7_setRow 20 = .ok (.iload_n 3, 1)) ∧ (decode cX7_setRow 21 = .ok (.invokevirtual 73, 3)) ∧ (decode cX7_setRow 24 = .ok (.ifCond .ne 9, 3)) ∧ (decode cX7_setRow 27 = .ok (.aload_n 0, 1)) ∧ (decode cX7_setRow 28 = .ok (.iconst 5, 1)) ∧ (decode cX7_setRow 29 = .ok (.invokevirtual 65, 3)) := by decide +kernel
theorem dX7_setRow_0 : decode cX7_setRow 0 = .ok (.aload_n 0, 1) := dg_X7_setRow_0.1
theorem dX7_setRow_1 : decode cX7_setRow 1 = .ok (.getfield 10, 3) := dg_X7_setRow_0.2.1
theorem dX7_setRow_4 : decode cX7_setRow 4 = .ok (.iload_n 1, 1) := dg_X7_setRow_0.2.2.1
theorem dX7_setRow_5 : decode cX7_setRow 5 = .ok (.invokevirtual 73, 3) := dg_X7_setRow_0.2.2.2.1
theorem dX7_setRow_8 : decode cX7_setRow 8 = .ok (.ifCond .eq 19, 3) := dg_X7_setRow_0.2.2.2.2.1
theorem dX7_setRow_11 : decode cX7_setRow 11 = .ok (.iload_n 3, 1) := dg_X7_setRow_0.2.2.2.2.2.1
theorem dX7_setRow_12 : decode cX7_setRow 12 = .ok (.iconst (-1), 1) := dg_X7_setRow_0.2.2.2.2.2.2.1
theorem dX7_setRow_13 : decode cX7_setRow 13 = .ok (.if_icmp .eq 20, 3) := dg_X7_setRow_0.2.2.2.2.2.2.2.1
theorem dX7_setRow_16 : decode cX7_setRow 16 = .ok (.aload_n 0, 1) := dg_X7_setRow_0.2.2.2.2.2.2.2.2.1
theorem dX7_setRow_17 : decode cX7_setRow 17 = .ok (.getfield 10, 3) := dg_X7_setRow_0.2.2.2.2.2.2.2.2.2.1
theorem dX7_setRow_20 : decode cX7_setRow 20 = .ok (.iload_n 3, 1) := dg_X7_setRow_0.2.2.2.2.2.2.2.2.2.2.1
theorem dX7_setRow_21 : decode cX7_setRow 21 = .ok (.invokevirtual 73, 3) := dg_X7_setRow_0.2.2.2.2.2.2.2.2.2.2.2.1
theorem dX7_setRow_24 : decode cX7_setRow 24 = .ok (.ifCond .ne 9, 3) := dg_X7_setRow_0.2.2.2.2.2.2.2.2.2.2.2.2.1
theorem dX7_setRow_27 : decode cX7_setRow 27 = .ok (.aload_n 0, 1) := dg_X7_setRow_0.2.2.2.2.2.2.2.2.2.2.2.2.2.1
theorem dX7_setRow_28 : decode cX7_setRow 28 = .ok (.iconst 5, 1) := dg_X7_setRow_0.2.2.2.2.2.2.2.2.2.2.2.2.2.2.1
theorem dX7_setRow_29 : decode cX7_setRow 29 = .ok (.invokevirtual 65, 3) := dg_X7_setRow_0.2.2.2.2.2.2.2.2.2.2.2.2.2.2.2
theorem dg_X7_setRow_32 : (decode cX7_setRow 32 = .ok (.ireturn, 1)) ∧ (decode cX7_setRow 33 = .ok (.aload_n 0, 1)) ∧ (decode cX7_setRow 34 = .ok (.getfield 10, 3)) ∧ (decode cX7_setRow 37 = .ok (.iload_n 1, 1)) ∧ (decode cX7_setRow 38 = .ok (.iload_n 2, 1)) ∧ (decode cX7_setRow 39 = .ok (.invokevirtual 123, 3)) ∧ (decode cX7_setRow 42 = .ok (.ifCond .ne 9, 3)) ∧ (decode cX7_setRow 45 = .ok (.aload_n 0, 1)) ∧ (decode cX7_setRow 46 = .ok (.iconst 2, 1)) ∧ (decode cX7_setRow 47 = .ok (.invokevirtual 65, 3)) ∧ (decode cX7_setRow 50 = .ok (.ireturn, 1)) ∧ (decode cX7_setRow 51 = .ok (.aload_n 0, 1)) ∧ (decode cX7_setRow 52 = .ok (.getfield 10, 3)) ∧ (decode cX7_setRow 55 = .ok (.getfield 76, 3)) ∧ (decode cX7_setRow 58 = .ok (.iload_n 1, 1)) ∧ (decode cX7_setRow 59 = .ok (.iaload, 1)) := by decide +kernel
theorem dX7_setRow_32 : decode cX7_setRow 32 = .ok (.ireturn, 1) := dg_X7_setRow_32.1
theorem dX7_setRow_33 : decode cX7_setRow 33 = .ok (.aload_n 0, 1) := dg_X7_setRow_32.2.1
theorem dX7_setRow_34 : decode cX7_setRow 34 = .ok (.getfield 10, 3) := dg_X7_setRow_32.2.2.1
theorem dX7_setRow_37 : decode cX7_setRow 37 = .ok (.iload_n 1, 1) := dg_X7_setRow_32.2.2.2.1
theorem dX7_setRow_38 : decode cX7_setRow 38 = .ok (.iload_n 2, 1) := dg_X7_setRow_32.2.2.2.2.1
theorem dX7_setRow_39 : decode cX7_setRow 39 = .ok (.invokevirtual 123, 3) := dg_X7_setRow_32.2.2.2.2.2.1
theorem dX7_setRow_42 : decode cX7_setRow 42 = .ok (.ifCond .ne 9, 3) := dg_X7_setRow_32.2.2.2.2.2.2.1
theorem dX7_setRow_45 : decode cX7_setRow 45 = .ok (.aload_n 0, 1) := dg_X7_setRow_32.2.2.2.2.2.2.2.1
theorem dX7_setRow_46 : decode cX7_setRow 46 = .ok (.iconst 2, 1) := dg_X7_setRow_32.2.2.2.2.2.2.2.2.1
theorem dX7_setRow_47 : decode cX7_setRow 47 = .ok (.invokevirtual 65, 3) := dg_X7_setRow_32.2.2.2.2.2.2.2.2.2.1
theorem dX7_setRow_50 : decode cX7_setRow 50 = .ok (.ireturn, 1) := dg_X7_setRow_32.2.2.2.2.2.2.2.2.2.2.1
theorem dX7_setRow_51 : decode cX7_setRow 51 = .ok (.aload_n 0, 1) := dg_X7_setRow_32.2.2.2.2.2.2.2.2.2.2.2.1
theorem dX7_setRow_52 : decode cX7_setRow 52 = .ok (.getfield 10, 3) := dg_X7_setRow_32.2.2.2.2.2.2.2.2.2.2.2.2.1
theorem dX7_setRow_55 : decode cX7_setRow 55 = .ok (.getfield 76, 3) := dg_X7_setRow_32.2.2.2.2.2.2.2.2.2.2.2.2.2.1
theorem dX7_setRow_58 : decode cX7_setRow 58 = .ok (.iload_n 1, 1) := dg_X7_setRow_32.2.2.2.2.2.2.2.2.2.2.2.2.2.2.1
theorem dX7_setRow_59 : decode cX7_setRow 59 = .ok (.iaload, 1) := dg_X7_setRow_32.2.2.2.2.2.2.2.2.2.2.2.2.2.2.2
theorem dg_X7_setRow_60 : (decode cX7_setRow 60 = .ok (.iconst 1, 1)) ∧ (decode cX7_setRow 61 = .ok (.if_icmp .eq 20, 3)) ∧ (decode cX7_setRow 64 = .ok (.iload_n 3, 1)) ∧ (decode cX7_setRow 65 = .ok (.iconst (-1), 1)) ∧ (decode cX7_setRow 66 = .ok (.if_icmp .eq 21, 3)) ∧ (decode cX7_setRow 69 = .ok (.aload_n 0, 1)) ∧ (decode cX7_setRow 70 = .ok (.getfield 10, 3)) ∧ (decode cX7_setRow 73 = .ok (.iload_n 1, 1)) ∧ (decode cX7_setRow 74 = .ok (.iload_n 3, 1)) ∧ (decode cX7_setRow 75 = .ok (.invokevirtual 127, 3)) ∧ (decode cX7_setRow 78 = .ok (.ifCond .ne 9, 3)) ∧ (decode cX7_setRow 81 = .ok (.aload_n 0, 1)) ∧ (decode cX7_setRow 82 = .ok (.iconst 1, 1)) ∧ (decode cX7_setRow 83 = .ok (.invokevirtual 65, 3)) ∧ (decode cX7_setRow 86 = .ok (.ireturn, 1)) ∧ (decode cX7_setRow 87 = .ok (.aload_n 0, 1)) := by decide +kernel
theorem dX7_setRow_60 : decode cX7_setRow 60 = .ok (.iconst 1, 1) := dg_X7_setRow_60.1
theorem dX7_setRow_61 : decode cX7_setRow 61 = .ok (.if_icmp .eq 20, 3) := dg_X7_setRow_60.2.1
theorem dX7_setRow_64 : decode cX7_setRow 64 = .ok (.iload_n 3, 1) := dg_X7_setRow_60.2.2.1
theorem dX7_setRow_65 : decode cX7_setRow 65 = .ok (.iconst (-1), 1) := dg_X7_setRow_60.2.2.2.1
theorem dX7_setRow_66 : decode cX7_setRow 66 = .ok (.if_icmp .eq 21, 3) := dg_X7_setRow_60.2.2.2.2.1
theorem dX7_setRow_69 : decode cX7_setRow 69 = .ok (.aload_n 0, 1) := dg_X7_setRow_60.2.2.2.2.2.1
theorem dX7_setRow_70 : decode cX7_setRow 70 = .ok (.getfield 10, 3) := dg_X7_setRow_60.2.2.2.2.2.2.1
theorem dX7_setRow_73 : decode cX7_setRow 73 = .ok (.iload_n 1, 1) := dg_X7_setRow_60.2.2.2.2.2.2.2.1
theorem dX7_setRow_74 : decode cX7_setRow 74 = .ok (.iload_n 3, 1) := dg_X7_setRow_60.2.2.2.2.2.2.2.2.1
theorem dX7_setRow_75 : decode cX7_setRow 75 = .ok (.invokevirtual 127, 3) := dg_X7_setRow_60.2.2.2.2.2.2.2.2.2.1
theorem dX7_setRow_78 : decode cX7_setRow 78 = .ok (.ifCond .ne 9, 3) := dg_X7_setRow_60.2.2.2.2.2.2.2.2.2.2.1
theorem dX7_setRow_81 : decode cX7_setRow 81 = .ok (.aload_n 0, 1) := dg_X7_setRow_60.2.2.2.2.2.2.2.2.2.2.2.1
theorem dX7_setRow_82 : decode cX7_setRow 82 = .ok (.iconst 1, 1) := dg_X7_setRow_60.2.2.2.2.2.2.2.2.2.2.2.2.1
theorem dX7_setRow_83 : decode cX7_setRow 83 = .ok (.invokevirtual 65, 3) := dg_X7_setRow_60.2.2.2.2.2.2.2.2.2.2.2.2.2.1
theorem dX7_setRow_86 : decode cX7_setRow 86 = .ok (.ireturn, 1) := dg_X7_setRow_60.2.2.2.2.2.2.2.2.2.2.2.2.2.2.1
theorem dX7_setRow_87 : decode cX7_setRow 87 = .ok (.aload_n 0, 1) := dg_X7_setRow_60.2.2.2.2.2.2.2.2.2.2.2.2.2.2.2
theorem dg_X7_setRow_88 : (decode cX7_setRow 88 = .ok (.getfield 10, 3)) ∧ (decode cX7_setRow 91 = .ok (.getfield 116, 3)) ∧ (decode cX7_setRow 94 = .ok (.aload_n 0, 1)) ∧ (decode cX7_setRow 95 = .ok (.getfield 10, 3)) ∧ (decode cX7_setRow 98 = .ok (.getfield 120, 3)) ∧ (decode cX7_setRow 101 = .ok (.iload_n 1, 1)) ∧ (decode cX7_setRow 102 = .ok (.iaload, 1)) ∧ (decode cX7_setRow 103 = .ok (.iload_n 2, 1)) ∧ (decode cX7_setRow 104 = .ok (.iadd, 1)) ∧ (decode cX7_setRow 105 = .ok (.iload_n 3, 1)) ∧ (decode cX7_setRow 106 = .ok (.i2l, 1)) ∧ (decode cX7_setRow 107 = .ok (.lastore, 1)) ∧ (decode cX7_setRow 108 = .ok (.aload_n 0, 1)) ∧ (decode cX7_setRow 109 = .ok (.iconst 0, 1)) ∧ (decode cX7_setRow 110 = .ok (.invokevirtual 100, 3)) ∧ (decode cX7_setRow 113 = .ok (.ireturn, 1)) := by decide +kernel
theorem dX7_setRow_88 : decode cX7_setRow 88 = .ok (.getfield 10, 3) := dg_X7_setRow_88.1
theorem dX7_setRow_91 : decode cX7_setRow 91 = .ok (.getfield 116, 3) := dg_X7_setRow_88.2.1
theorem dX7_setRow_94 : decode cX7_setRow 94 = .ok (.aload_n 0, 1) := dg_X7_setRow_88.2.2.1
theorem dX7_setRow_95 : decode cX7_setRow 95 = .ok (.getfield 10, 3) := dg_X7_setRow_88.2.2.2.1
theorem dX7_setRow_98 : decode cX7_setRow 98 = .ok (.getfield 120, 3) := dg_X7_setRow_88.2.2.2.2.1
theorem dX7_setRow_101 : decode cX7_setRow 101 = .ok (.iload_n 1, 1) := dg_X7_setRow_88.2.2.2.2.2.1
theorem dX7_setRow_102 : decode cX7_setRow 102 = .ok (.iaload, 1) := dg_X7_setRow_88.2.2.2.2.2.2.1
theorem dX7_setRow_103 : decode cX7_setRow 103 = .ok (.iload_n 2, 1) := dg_X7_setRow_88.2.2.2.2.2.2.2.1
theorem dX7_setRow_104 : decode cX7_setRow 104 = .ok (.iadd, 1) := dg_X7_setRow_88.2.2.2.2.2.2.2.2.1
theorem dX7_setRow_105 : decode cX7_setRow 105 = .ok (.iload_n 3, 1) := dg_X7_setRow_88.2.2.2.2.2.2.2.2.2.1
theorem dX7_setRow_106 : decode cX7_setRow 106 = .ok (.i2l, 1) := dg_X7_setRow_88.2.2.2.2.2.2.2.2.2.2.1
theorem dX7_setRow_107 : decode cX7_setRow 107 = .ok (.lastore, 1) := dg_X7_setRow_88.2.2.2.2.2.2.2.2.2.2.2.1
theorem dX7_setRow_108 : decode cX7_setRow 108 = .ok (.aload_n 0, 1) := dg_X7_setRow_88.2.2.2.2.2.2.2.2.2.2.2.2.1
theorem dX7_setRow_109 : decode cX7_setRow 109 = .ok (.iconst 0, 1) := dg_X7_setRow_88.2.2.2.2.2.2.2.2.2.2.2.2.2.1
theorem dX7_setRow_110 : decode cX7_setRow 110 = .ok (.invokevirtual 100, 3) := dg_X7_setRow_88.2.2.2.2.2.2.2.2.2.2.2.2.2.2.1
theorem dX7_setRow_113 : decode cX7_setRow 113 = .ok (.ireturn, 1) := dg_X7_setRow_88.2.2.2.2.2.2.2.2.2.2.2.2.2.2.2
theorem zk_321 : Cond.methodLink RX7 127 yX6_isRowFor ∈ zz_w := zz_in (List.mem_append_right _ (List.mem_append_right _ (List.mem_append_left _ (List.mem_of_getElem? (i := 81) (by decide +kernel))))) rfl
set_option maxRecDepth 20000 in
theorem zk_324 : Cond.code yX6_isRowFor cX6_isRowFor 3 (some .boolean) ∈ zz_w := zz_in (List.mem_append_right _ (List.mem_append_right _ (List.mem_append_left _ (List.mem_of_getElem? (i := 84) (rfl))))) rfl
theorem zk_322 : Cond.instanceMethod yX6_isRowFor ∈ zz_w := zz_in (List.mem_append_right _ (List.mem_append_right _ (List.mem_append_left _ (List.mem_of_getElem? (i := 82) (by decide +kernel))))) rfl
theorem zk_323 : Cond.selects RX6 yX6_isRowFor yX6_isRowFor ∈ zz_w := zz_in (List.mem_append_right _ (List.mem_append_right _ (List.mem_append_left _ (List.mem_of_getElem? (i := 83) (by decide +kernel))))) rfl
theorem zc_X7_127 : zz_cV RX7 127 yX6_isRowFor cX6_isRowFor 3 (some .boolean) 2 := ⟨⟨zk_321, zk_324, zk_2, by decide, by decide, by decide +kernel⟩, zk_322, zk_323⟩
def fo_cx_setRow (na : Nat) (nu : Nat) (kdf : Nat → Int32) (dpf : Nat → Int32) (clf : Nat → Int32) (saf : Nat → Int32) (lnf : Nat → Int32) (btf : Nat → Int64) (x1 : Int32) (x2 : Int32) (x3 : Int32) : (Int32) × (Nat → Int64) := (if (fn_co_has (nI na) x1) = 0 then (-5, btf) else (if x3 = (-1) then (if (fn_co_hasPlace lnf x1.toNatClampNeg x2) = 0 then (-2, btf) else (if (nI ((dpf x1.toNatClampNeg).toNatClampNeg)) = 1 then (-1, btf) else (0, (vp_updL btf (((saf x1.toNatClampNeg).toNatClampNeg) + x2.toNatClampNeg) x3.toInt64)))) else (if (fn_co_has (nI na) x3) = 0 then (-5, btf) else (if (fn_co_hasPlace lnf x1.toNatClampNeg x2) = 0 then (-2, btf) else (if (nI ((dpf x1.toNatClampNeg).toNatClampNeg)) = 1 then (-1, btf) else (if (nI x3.toNatClampNeg) = (-1) then (0, (vp_updL btf (((saf x1.toNatClampNeg).toNatClampNeg) + x2.toNatClampNeg) ((nI x3.toNatClampNeg).toInt64))) else (if (fn_co_isRowFor kdf dpf clf x1.toNatClampNeg x3.toNatClampNeg) = 0 then (-1, btf) else (0, (vp_updL btf (((saf x1.toNatClampNeg).toNatClampNeg) + x2.toNatClampNeg) ((nI x3.toNatClampNeg).toInt64))))))))))
abbrev rm_cx_setRow : Room := { frames := 1, cells := 0, slots := 0, locals := 22 }
abbrev po_cx_setRow (g : zz_G) (h0 : Nat) (st : Nat) (mk : Nat) (lk : Nat) (ch : Nat) (ru : Nat) (mr : Nat) (kd : Nat) (dp : Nat) (cl : Nat) (sa : Nat) (ln : Nat) (bt : Nat) (pn : Nat) (bf : Nat) (md : Int32) (la : Int32) (na : Nat) (nu : Nat) (kdf : Nat → Int32) (dpf : Nat → Int32) (clf : Nat → Int32) (saf : Nat → Int32) (lnf : Nat → Int32) (btf : Nat → Int64) (x1 : Int32) (x2 : Int32) (x3 : Int32) (h_S : zz_SI na nu dpf saf lnf) : Int32 → va_W → Prop := fun (r : Int32) (u : va_W) => ∃ (la2 : Int32) (bt2 : Nat → Int64), (r, bt2) = fo_cx_setRow na nu kdf dpf clf saf lnf btf x1 x2 x3 ∧ u = [cw_k6 h0 st mk lk ch ru mr md la2, cw_k5 st (nI na) (nI nu) kd dp cl sa ln bt pn bf, cw_i g kd 60 kdf, cw_i g dp 60 dpf, cw_i g cl 60 clf, cw_i g sa 60 saf, cw_i g ln 60 lnf, cw_l g bt 4000 bt2]
set_option maxHeartbeats 4000000 in
set_option maxRecDepth 100000 in
theorem cx_setRow (g : zz_G) (h0 : Nat) (st : Nat) (mk : Nat) (lk : Nat) (ch : Nat) (ru : Nat) (mr : Nat) (kd : Nat) (dp : Nat) (cl : Nat) (sa : Nat) (ln : Nat) (bt : Nat) (pn : Nat) (bf : Nat) (md : Int32) (la : Int32) (na : Nat) (nu : Nat) (kdf : Nat → Int32) (dpf : Nat → Int32) (clf : Nat → Int32) (saf : Nat → Int32) (lnf : Nat → Int32) (btf : Nat → Int64) (x1 : Int32) (x2 : Int32) (x3 : Int32) (h_S : zz_SI na nu dpf saf lnf) : zz_I g yX7_setRow (.code yX7_setRow cX7_setRow 4 (some .int)) rm_cx_setRow [.ref h0, .int x1, .int x2, .int x3] [cw_k6 h0 st mk lk ch ru mr md la, cw_k5 st (nI na) (nI nu) kd dp cl sa ln bt pn bf, cw_i g kd 60 kdf, cw_i g dp 60 dpf, cw_i g cl 60 clf, cw_i g sa 60 saf, cw_i g ln 60 lnf, cw_l g bt 4000 btf] (po_cx_setRow g h0 st mk lk ch ru mr kd dp cl sa ln bt pn bf md la na nu kdf dpf clf saf lnf btf x1 x2 x3 h_S) := by
  refine zz_I.intro (own := RX7) (cc := cX7_setRow) (nL := 4) (by decide) rfl (Nat.le_of_ble_eq_true rfl) ?_
  intro p l e s m args below meth c A H locs ls hC hnm hs hZ hl
  obtain ⟨hx, hb, hml, hown, hts, hr, hlocks, hK⟩ := id hC
  have hl : lv_has ls 4 [(0, .ref h0), (1, .int x1), (2, .int x2), (3, .int x3)] := hl
  have hZ : zz_Z g A s.heap [cw_k6 h0 st mk lk ch ru mr md la, cw_k5 st (nI na) (nI nu) kd dp cl sa ln bt pn bf, cw_i g kd 60 kdf, cw_i g dp 60 dpf, cw_i g cl 60 clf, cw_i g sa 60 saf, cw_i g ln 60 lnf, cw_l g bt 4000 btf] H locs := hZ
  have hna := h_S.1
  have hnu := h_S.2.1
  refine lv_aload_n hx hb dX7_setRow_0 rfl (lv_at hl 0 rfl) ?_
  refine zz_get hC hZ 0 rfl zf_X7_10 rfl dX7_setRow_1 ?_
  refine lv_iload_n hx hb dX7_setRow_4 rfl (lv_at hl 1 rfl) ?_
  refine zz_iV (As := [.int x1]) (wc := [cw_k5 st (nI na) (nI nu) kd dp cl sa ln bt pn bf]) (wr := [cw_k6 h0 st mk lk ch ru mr md la, cw_i g kd 60 kdf, cw_i g dp 60 dpf, cw_i g cl 60 clf, cw_i g sa 60 saf, cw_i g ln 60 lnf, cw_l g bt 4000 btf]) (rest := []) hC hZ hs hl zc_X7_73 (co_has g st kd dp cl sa ln bt pn bf (nI na) (nI nu) x1) [1] [0, 2, 3, 4, 5, 6, 7] rfl rfl (by decide +kernel) (ci := 5) (q0 := 0) rfl rfl rfl rfl (Nat.le_of_ble_eq_true rfl) ⟨⟨Nat.le_of_ble_eq_true rfl, Nat.le_of_ble_eq_true rfl⟩, Nat.le_of_ble_eq_true rfl, Nat.le_of_ble_eq_true rfl⟩ dX7_setRow_5 (fun r1 u2 H locs hp hZ => ?_)
  obtain ⟨rfl, rfl⟩ := hp
  have hZ : zz_Z g A s.heap [cw_k6 h0 st mk lk ch ru mr md la, cw_i g kd 60 kdf, cw_i g dp 60 dpf, cw_i g cl 60 clf, cw_i g sa 60 saf, cw_i g ln 60 lnf, cw_l g bt 4000 btf, cw_k5 st (nI na) (nI nu) kd dp cl sa ln bt pn bf] H locs := hZ
  refine lv_if_eq (tgt := 27) hx hb dX7_setRow_8 (by decide) (fun c3 => ?_) (fun c3 => ?_)
  · refine lv_aload_n hx hb dX7_setRow_27 rfl (lv_at hl 0 rfl) ?_
    refine lv_iconst (v := 5) hx hb dX7_setRow_28 (by decide) ?_
    refine zz_iV (As := [.int 5]) (wc := [cw_k6 h0 st mk lk ch ru mr md la]) (wr := [cw_i g kd 60 kdf, cw_i g dp 60 dpf, cw_i g cl 60 clf, cw_i g sa 60 saf, cw_i g ln 60 lnf, cw_l g bt 4000 btf, cw_k5 st (nI na) (nI nu) kd dp cl sa ln bt pn bf]) (rest := []) hC hZ hs hl zc_X7_65 (co_fail g h0 st mk lk ch ru mr md la 5) [0] [1, 2, 3, 4, 5, 6, 7] rfl rfl (by decide +kernel) (ci := 6) (q0 := 0) rfl rfl rfl rfl (Nat.le_of_ble_eq_true rfl) ⟨⟨Nat.le_of_ble_eq_true rfl, Nat.le_of_ble_eq_true rfl⟩, Nat.le_of_ble_eq_true rfl, Nat.le_of_ble_eq_true rfl⟩ dX7_setRow_29 (fun r4 u5 H locs hp hZ => ?_)
    obtain ⟨rfl, rfl⟩ := hp
    have hZ : zz_Z g A s.heap [cw_i g kd 60 kdf, cw_i g dp 60 dpf, cw_i g cl 60 clf, cw_i g sa 60 saf, cw_i g ln 60 lnf, cw_l g bt 4000 btf, cw_k5 st (nI na) (nI nu) kd dp cl sa ln bt pn bf, cw_k6 h0 st mk lk ch ru mr md 5] H locs := hZ
    have hZ : zz_Z g A s.heap [cw_k6 h0 st mk lk ch ru mr md 5, cw_k5 st (nI na) (nI nu) kd dp cl sa ln bt pn bf, cw_i g kd 60 kdf, cw_i g dp 60 dpf, cw_i g cl 60 clf, cw_i g sa 60 saf, cw_i g ln 60 lnf, cw_l g bt 4000 btf] H locs := hZ.sub [7, 6, 0, 1, 2, 3, 4, 5] (by decide +kernel) rfl
    exact zz_iret hC hZ (⟨5, btf, by show _ = _; rw [fo_cx_setRow]; rw [if_pos c3], rfl⟩) (Nat.le_of_ble_eq_true rfl) (Nat.le_of_ble_eq_true rfl) dX7_setRow_32
  · obtain ⟨a1, ha1, ea1⟩ := zl_has (by omega) c3
    have hl : lv_has ls 4 [(0, .ref h0), (1, .int (nI a1)), (2, .int x2), (3, .int x3)] := by rw [← ea1]; exact hl
    have bd6 : a1 < 2 ^ 31 := by omega
    have d_a1 : x1.toNatClampNeg = a1 := by rw [ea1]; exact nI_clamp bd6
    obtain ⟨sz1, lz1, dz1, es1, el1, ed1, g11, g21, g31, g41⟩ := h_S.2.2 a1 ha1
    have bd7 : sz1 < 2 ^ 31 := by omega
    have d_sz1 : (saf a1).toNatClampNeg = sz1 := by rw [es1]; exact nI_clamp bd7
    have bd8 : lz1 < 2 ^ 31 := by omega
    have d_lz1 : (lnf a1).toNatClampNeg = lz1 := by rw [el1]; exact nI_clamp bd8
    have bd9 : dz1 < 2 ^ 31 := by omega
    have d_dz1 : (dpf a1).toNatClampNeg = dz1 := by rw [ed1]; exact nI_clamp bd9
    refine lv_iload_n hx hb dX7_setRow_11 rfl (lv_at hl 3 rfl) ?_
    refine lv_iconst (v := -1) hx hb dX7_setRow_12 (by decide) ?_
    refine lv_icmp_eq (tgt := 33) hx hb dX7_setRow_13 (by decide) (fun c10 => ?_) (fun c10 => ?_)
    · refine lv_aload_n hx hb dX7_setRow_33 rfl (lv_at hl 0 rfl) ?_
      refine zz_get hC hZ 0 rfl zf_X7_10 rfl dX7_setRow_34 ?_
      refine lv_iload_n hx hb dX7_setRow_37 rfl (lv_at hl 1 rfl) ?_
      refine lv_iload_n hx hb dX7_setRow_38 rfl (lv_at hl 2 rfl) ?_
      refine zz_iV (As := [.int (nI a1), .int x2]) (wc := [cw_k5 st (nI na) (nI nu) kd dp cl sa ln bt pn bf, cw_i g ln 60 lnf]) (wr := [cw_k6 h0 st mk lk ch ru mr md la, cw_i g kd 60 kdf, cw_i g dp 60 dpf, cw_i g cl 60 clf, cw_i g sa 60 saf, cw_l g bt 4000 btf]) (rest := []) hC hZ hs hl zc_X7_123 (co_hasPlace g st kd dp cl sa ln bt pn bf na nu lnf a1 x2 (by omega)) [7, 5] [0, 1, 2, 3, 4, 6] rfl rfl (by decide +kernel) (ci := 5) (q0 := 0) rfl rfl rfl rfl (Nat.le_of_ble_eq_true rfl) ⟨⟨Nat.le_of_ble_eq_true rfl, Nat.le_of_ble_eq_true rfl⟩, Nat.le_of_ble_eq_true rfl, Nat.le_of_ble_eq_true rfl⟩ dX7_setRow_39 (fun r11 u12 H locs hp hZ => ?_)
      obtain ⟨rfl, rfl⟩ := hp
      have hZ : zz_Z g A s.heap [cw_k6 h0 st mk lk ch ru mr md la, cw_i g kd 60 kdf, cw_i g dp 60 dpf, cw_i g cl 60 clf, cw_i g sa 60 saf, cw_l g bt 4000 btf, cw_k5 st (nI na) (nI nu) kd dp cl sa ln bt pn bf, cw_i g ln 60 lnf] H locs := hZ
      refine lv_if_ne (tgt := 51) hx hb dX7_setRow_42 (by decide) (fun c13 => ?_) (fun c13 => ?_)
      · obtain ⟨q2, hq2, eq2⟩ := zl_place el1 g11 c13
        have hl : lv_has ls 4 [(0, .ref h0), (1, .int (nI a1)), (2, .int (nI q2)), (3, .int x3)] := by rw [← eq2]; exact hl
        have bd14 : q2 < 2 ^ 31 := by omega
        have d_q2 : x2.toNatClampNeg = q2 := by rw [eq2]; exact nI_clamp bd14
        refine lv_aload_n hx hb dX7_setRow_51 rfl (lv_at hl 0 rfl) ?_
        refine zz_get hC hZ 0 rfl zf_X7_10 rfl dX7_setRow_52 ?_
        refine zz_get hC hZ 6 rfl zf_X7_76 rfl dX7_setRow_55 ?_
        refine lv_iload_n hx hb dX7_setRow_58 rfl (lv_at hl 1 rfl) ?_
        have bd15 : a1 < 60 := by omega
        refine zz_ialdn hC hZ 2 rfl bd15 (by decide) dX7_setRow_59 ?_
        refine zz_topi (v := nI dz1) (ed1) ?_
        refine lv_iconst (v := 1) hx hb dX7_setRow_60 (by decide) ?_
        refine lv_icmp_eq (tgt := 81) hx hb dX7_setRow_61 (by decide) (fun c16 => ?_) (fun c16 => ?_)
        · have nc16 : dz1 = 1 := (nI_eq bd9 (by decide)).mp (show nI (dz1) = nI (1) from c16)
          refine lv_aload_n hx hb dX7_setRow_81 rfl (lv_at hl 0 rfl) ?_
          refine lv_iconst (v := 1) hx hb dX7_setRow_82 (by decide) ?_
          refine zz_iV (As := [.int 1]) (wc := [cw_k6 h0 st mk lk ch ru mr md la]) (wr := [cw_i g kd 60 kdf, cw_i g dp 60 dpf, cw_i g cl 60 clf, cw_i g sa 60 saf, cw_l g bt 4000 btf, cw_k5 st (nI na) (nI nu) kd dp cl sa ln bt pn bf, cw_i g ln 60 lnf]) (rest := []) hC hZ hs hl zc_X7_65 (co_fail g h0 st mk lk ch ru mr md la 1) [0] [1, 2, 3, 4, 5, 6, 7] rfl rfl (by decide +kernel) (ci := 6) (q0 := 0) rfl rfl rfl rfl (Nat.le_of_ble_eq_true rfl) ⟨⟨Nat.le_of_ble_eq_true rfl, Nat.le_of_ble_eq_true rfl⟩, Nat.le_of_ble_eq_true rfl, Nat.le_of_ble_eq_true rfl⟩ dX7_setRow_83 (fun r17 u18 H locs hp hZ => ?_)
          obtain ⟨rfl, rfl⟩ := hp
          have hZ : zz_Z g A s.heap [cw_i g kd 60 kdf, cw_i g dp 60 dpf, cw_i g cl 60 clf, cw_i g sa 60 saf, cw_l g bt 4000 btf, cw_k5 st (nI na) (nI nu) kd dp cl sa ln bt pn bf, cw_i g ln 60 lnf, cw_k6 h0 st mk lk ch ru mr md 1] H locs := hZ
          have hZ : zz_Z g A s.heap [cw_k6 h0 st mk lk ch ru mr md 1, cw_k5 st (nI na) (nI nu) kd dp cl sa ln bt pn bf, cw_i g kd 60 kdf, cw_i g dp 60 dpf, cw_i g cl 60 clf, cw_i g sa 60 saf, cw_i g ln 60 lnf, cw_l g bt 4000 btf] H locs := hZ.sub [7, 5, 0, 1, 2, 3, 6, 4] (by decide +kernel) rfl
          exact zz_iret hC hZ (⟨1, btf, by refine Eq.symm ?_; rw [fo_cx_setRow]; refine (if_neg (by (try simp only [d_a1, d_sz1, d_lz1, d_dz1, d_q2]); exact c3)).trans ?_; refine (if_pos (by (try simp only [d_a1, d_sz1, d_lz1, d_dz1, d_q2]); exact c10)).trans ?_; refine (if_neg (by (try simp only [d_a1, d_sz1, d_lz1, d_dz1, d_q2]); exact c13)).trans ?_; refine (if_pos (by (try simp only [d_a1, d_sz1, d_lz1, d_dz1, d_q2]); exact c16)).trans ?_; first | (simp only [d_a1, d_sz1, d_lz1, d_dz1, d_q2]; done) | rfl, rfl⟩) (Nat.le_of_ble_eq_true rfl) (Nat.le_of_ble_eq_true rfl) dX7_setRow_86
        · have nc16 : ¬ dz1 = 1 := fun zq => c16 (show nI (dz1) = nI (1) from (nI_eq bd9 (by decide)).mpr zq)
          refine lv_iload_n hx hb dX7_setRow_64 rfl (lv_at hl 3 rfl) ?_
          refine lv_iconst (v := -1) hx hb dX7_setRow_65 (by decide) ?_
          refine lv_icmp_eq (tgt := 87) hx hb dX7_setRow_66 (by decide) (fun c19 => ?_) (fun c => absurd (c10) c)
          refine lv_aload_n hx hb dX7_setRow_87 rfl (lv_at hl 0 rfl) ?_
          refine zz_get hC hZ 0 rfl zf_X7_10 rfl dX7_setRow_88 ?_
          refine zz_get hC hZ 6 rfl zf_X7_116 rfl dX7_setRow_91 ?_
          refine lv_aload_n hx hb dX7_setRow_94 rfl (lv_at hl 0 rfl) ?_
          refine zz_get hC hZ 0 rfl zf_X7_10 rfl dX7_setRow_95 ?_
          refine zz_get hC hZ 6 rfl zf_X7_120 rfl dX7_setRow_98 ?_
          refine lv_iload_n hx hb dX7_setRow_101 rfl (lv_at hl 1 rfl) ?_
          refine zz_ialdn hC hZ 4 rfl bd15 (by decide) dX7_setRow_102 ?_
          refine zz_topi (v := nI sz1) (es1) ?_
          refine lv_iload_n hx hb dX7_setRow_103 rfl (lv_at hl 2 rfl) ?_
          refine lv_iadd hx hb dX7_setRow_104 ?_
          refine zz_topi (v := nI (sz1 + q2)) (nI_add _ _) ?_
          refine lv_iload_n hx hb dX7_setRow_105 rfl (lv_at hl 3 rfl) ?_
          refine lv_i2l hx hb dX7_setRow_106 rfl ?_
          have bd20 : (sz1 + q2) < 4000 := by omega
          refine zz_lastn hC hZ 5 rfl bd20 (by decide) dX7_setRow_107 (fun H locs hZ => ?_)
          have hZ : zz_Z g A s.heap [cw_k6 h0 st mk lk ch ru mr md la, cw_i g kd 60 kdf, cw_i g dp 60 dpf, cw_i g cl 60 clf, cw_i g sa 60 saf, cw_l g bt 4000 (vp_updL btf (sz1 + q2) x3.toInt64), cw_k5 st (nI na) (nI nu) kd dp cl sa ln bt pn bf, cw_i g ln 60 lnf] H locs := hZ
          refine lv_aload_n hx hb dX7_setRow_108 rfl (lv_at hl 0 rfl) ?_
          refine lv_iconst (v := 0) hx hb dX7_setRow_109 (by decide) ?_
          refine zz_iV (As := [.int 0]) (wc := [cw_k6 h0 st mk lk ch ru mr md la]) (wr := [cw_i g kd 60 kdf, cw_i g dp 60 dpf, cw_i g cl 60 clf, cw_i g sa 60 saf, cw_l g bt 4000 (vp_updL btf (sz1 + q2) x3.toInt64), cw_k5 st (nI na) (nI nu) kd dp cl sa ln bt pn bf, cw_i g ln 60 lnf]) (rest := []) hC hZ hs hl zc_X7_100 (co_fine g h0 st mk lk ch ru mr md la 0) [0] [1, 2, 3, 4, 5, 6, 7] rfl rfl (by decide +kernel) (ci := 6) (q0 := 0) rfl rfl rfl rfl (Nat.le_of_ble_eq_true rfl) ⟨⟨Nat.le_of_ble_eq_true rfl, Nat.le_of_ble_eq_true rfl⟩, Nat.le_of_ble_eq_true rfl, Nat.le_of_ble_eq_true rfl⟩ dX7_setRow_110 (fun r21 u22 H locs hp hZ => ?_)
          obtain ⟨rfl, rfl⟩ := hp
          have hZ : zz_Z g A s.heap [cw_i g kd 60 kdf, cw_i g dp 60 dpf, cw_i g cl 60 clf, cw_i g sa 60 saf, cw_l g bt 4000 (vp_updL btf (sz1 + q2) x3.toInt64), cw_k5 st (nI na) (nI nu) kd dp cl sa ln bt pn bf, cw_i g ln 60 lnf, cw_k6 h0 st mk lk ch ru mr md 0] H locs := hZ
          have hZ : zz_Z g A s.heap [cw_k6 h0 st mk lk ch ru mr md 0, cw_k5 st (nI na) (nI nu) kd dp cl sa ln bt pn bf, cw_i g kd 60 kdf, cw_i g dp 60 dpf, cw_i g cl 60 clf, cw_i g sa 60 saf, cw_i g ln 60 lnf, cw_l g bt 4000 (vp_updL btf (sz1 + q2) x3.toInt64)] H locs := hZ.sub [7, 5, 0, 1, 2, 3, 6, 4] (by decide +kernel) rfl
          exact zz_iret hC hZ (⟨0, (vp_updL btf (sz1 + q2) x3.toInt64), by refine Eq.symm ?_; rw [fo_cx_setRow]; refine (if_neg (by (try simp only [d_a1, d_sz1, d_lz1, d_dz1, d_q2]); exact c3)).trans ?_; refine (if_pos (by (try simp only [d_a1, d_sz1, d_lz1, d_dz1, d_q2]); exact c10)).trans ?_; refine (if_neg (by (try simp only [d_a1, d_sz1, d_lz1, d_dz1, d_q2]); exact c13)).trans ?_; refine (if_neg (by (try simp only [d_a1, d_sz1, d_lz1, d_dz1, d_q2]); exact c16)).trans ?_; first | (simp only [d_a1, d_sz1, d_lz1, d_dz1, d_q2]; done) | rfl, rfl⟩) (Nat.le_of_ble_eq_true rfl) (Nat.le_of_ble_eq_true rfl) dX7_setRow_113
      · refine lv_aload_n hx hb dX7_setRow_45 rfl (lv_at hl 0 rfl) ?_
        refine lv_iconst (v := 2) hx hb dX7_setRow_46 (by decide) ?_
        refine zz_iV (As := [.int 2]) (wc := [cw_k6 h0 st mk lk ch ru mr md la]) (wr := [cw_i g kd 60 kdf, cw_i g dp 60 dpf, cw_i g cl 60 clf, cw_i g sa 60 saf, cw_l g bt 4000 btf, cw_k5 st (nI na) (nI nu) kd dp cl sa ln bt pn bf, cw_i g ln 60 lnf]) (rest := []) hC hZ hs hl zc_X7_65 (co_fail g h0 st mk lk ch ru mr md la 2) [0] [1, 2, 3, 4, 5, 6, 7] rfl rfl (by decide +kernel) (ci := 6) (q0 := 0) rfl rfl rfl rfl (Nat.le_of_ble_eq_true rfl) ⟨⟨Nat.le_of_ble_eq_true rfl, Nat.le_of_ble_eq_true rfl⟩, Nat.le_of_ble_eq_true rfl, Nat.le_of_ble_eq_true rfl⟩ dX7_setRow_47 (fun r23 u24 H locs hp hZ => ?_)
        obtain ⟨rfl, rfl⟩ := hp
        have hZ : zz_Z g A s.heap [cw_i g kd 60 kdf, cw_i g dp 60 dpf, cw_i g cl 60 clf, cw_i g sa 60 saf, cw_l g bt 4000 btf, cw_k5 st (nI na) (nI nu) kd dp cl sa ln bt pn bf, cw_i g ln 60 lnf, cw_k6 h0 st mk lk ch ru mr md 2] H locs := hZ
        have hZ : zz_Z g A s.heap [cw_k6 h0 st mk lk ch ru mr md 2, cw_k5 st (nI na) (nI nu) kd dp cl sa ln bt pn bf, cw_i g kd 60 kdf, cw_i g dp 60 dpf, cw_i g cl 60 clf, cw_i g sa 60 saf, cw_i g ln 60 lnf, cw_l g bt 4000 btf] H locs := hZ.sub [7, 5, 0, 1, 2, 3, 6, 4] (by decide +kernel) rfl
        exact zz_iret hC hZ (⟨2, btf, by refine Eq.symm ?_; rw [fo_cx_setRow]; refine (if_neg (by (try simp only [d_a1, d_sz1, d_lz1, d_dz1]); exact c3)).trans ?_; refine (if_pos (by (try simp only [d_a1, d_sz1, d_lz1, d_dz1]); exact c10)).trans ?_; refine (if_pos (by (try simp only [d_a1, d_sz1, d_lz1, d_dz1]); exact c13)).trans ?_; first | (simp only [d_a1, d_sz1, d_lz1, d_dz1]; done) | rfl, rfl⟩) (Nat.le_of_ble_eq_true rfl) (Nat.le_of_ble_eq_true rfl) dX7_setRow_50
    · refine lv_aload_n hx hb dX7_setRow_16 rfl (lv_at hl 0 rfl) ?_
      refine zz_get hC hZ 0 rfl zf_X7_10 rfl dX7_setRow_17 ?_
      refine lv_iload_n hx hb dX7_setRow_20 rfl (lv_at hl 3 rfl) ?_
      refine zz_iV (As := [.int x3]) (wc := [cw_k5 st (nI na) (nI nu) kd dp cl sa ln bt pn bf]) (wr := [cw_k6 h0 st mk lk ch ru mr md la, cw_i g kd 60 kdf, cw_i g dp 60 dpf, cw_i g cl 60 clf, cw_i g sa 60 saf, cw_i g ln 60 lnf, cw_l g bt 4000 btf]) (rest := []) hC hZ hs hl zc_X7_73 (co_has g st kd dp cl sa ln bt pn bf (nI na) (nI nu) x3) [7] [0, 1, 2, 3, 4, 5, 6] rfl rfl (by decide +kernel) (ci := 5) (q0 := 0) rfl rfl rfl rfl (Nat.le_of_ble_eq_true rfl) ⟨⟨Nat.le_of_ble_eq_true rfl, Nat.le_of_ble_eq_true rfl⟩, Nat.le_of_ble_eq_true rfl, Nat.le_of_ble_eq_true rfl⟩ dX7_setRow_21 (fun r25 u26 H locs hp hZ => ?_)
      obtain ⟨rfl, rfl⟩ := hp
      have hZ : zz_Z g A s.heap [cw_k6 h0 st mk lk ch ru mr md la, cw_i g kd 60 kdf, cw_i g dp 60 dpf, cw_i g cl 60 clf, cw_i g sa 60 saf, cw_i g ln 60 lnf, cw_l g bt 4000 btf, cw_k5 st (nI na) (nI nu) kd dp cl sa ln bt pn bf] H locs := hZ
      refine lv_if_ne (tgt := 33) hx hb dX7_setRow_24 (by decide) (fun c27 => ?_) (fun c27 => ?_)
      · obtain ⟨a3, ha3, ea3⟩ := zl_has (by omega) c27
        have hl : lv_has ls 4 [(0, .ref h0), (1, .int (nI a1)), (2, .int x2), (3, .int (nI a3))] := by rw [← ea3]; exact hl
        have bd28 : a3 < 2 ^ 31 := by omega
        have d_a3 : x3.toNatClampNeg = a3 := by rw [ea3]; exact nI_clamp bd28
        obtain ⟨sz3, lz3, dz3, es3, el3, ed3, g13, g23, g33, g43⟩ := h_S.2.2 a3 ha3
        have bd29 : sz3 < 2 ^ 31 := by omega
        have d_sz3 : (saf a3).toNatClampNeg = sz3 := by rw [es3]; exact nI_clamp bd29
        have bd30 : lz3 < 2 ^ 31 := by omega
        have d_lz3 : (lnf a3).toNatClampNeg = lz3 := by rw [el3]; exact nI_clamp bd30
        have bd31 : dz3 < 2 ^ 31 := by omega
        have d_dz3 : (dpf a3).toNatClampNeg = dz3 := by rw [ed3]; exact nI_clamp bd31
        refine lv_aload_n hx hb dX7_setRow_33 rfl (lv_at hl 0 rfl) ?_
        refine zz_get hC hZ 0 rfl zf_X7_10 rfl dX7_setRow_34 ?_
        refine lv_iload_n hx hb dX7_setRow_37 rfl (lv_at hl 1 rfl) ?_
        refine lv_iload_n hx hb dX7_setRow_38 rfl (lv_at hl 2 rfl) ?_
        refine zz_iV (As := [.int (nI a1), .int x2]) (wc := [cw_k5 st (nI na) (nI nu) kd dp cl sa ln bt pn bf, cw_i g ln 60 lnf]) (wr := [cw_k6 h0 st mk lk ch ru mr md la, cw_i g kd 60 kdf, cw_i g dp 60 dpf, cw_i g cl 60 clf, cw_i g sa 60 saf, cw_l g bt 4000 btf]) (rest := []) hC hZ hs hl zc_X7_123 (co_hasPlace g st kd dp cl sa ln bt pn bf na nu lnf a1 x2 (by omega)) [7, 5] [0, 1, 2, 3, 4, 6] rfl rfl (by decide +kernel) (ci := 5) (q0 := 0) rfl rfl rfl rfl (Nat.le_of_ble_eq_true rfl) ⟨⟨Nat.le_of_ble_eq_true rfl, Nat.le_of_ble_eq_true rfl⟩, Nat.le_of_ble_eq_true rfl, Nat.le_of_ble_eq_true rfl⟩ dX7_setRow_39 (fun r32 u33 H locs hp hZ => ?_)
        obtain ⟨rfl, rfl⟩ := hp
        have hZ : zz_Z g A s.heap [cw_k6 h0 st mk lk ch ru mr md la, cw_i g kd 60 kdf, cw_i g dp 60 dpf, cw_i g cl 60 clf, cw_i g sa 60 saf, cw_l g bt 4000 btf, cw_k5 st (nI na) (nI nu) kd dp cl sa ln bt pn bf, cw_i g ln 60 lnf] H locs := hZ
        refine lv_if_ne (tgt := 51) hx hb dX7_setRow_42 (by decide) (fun c34 => ?_) (fun c34 => ?_)
        · obtain ⟨q2, hq2, eq2⟩ := zl_place el1 g11 c34
          have hl : lv_has ls 4 [(0, .ref h0), (1, .int (nI a1)), (2, .int (nI q2)), (3, .int (nI a3))] := by rw [← eq2]; exact hl
          have bd35 : q2 < 2 ^ 31 := by omega
          have d_q2 : x2.toNatClampNeg = q2 := by rw [eq2]; exact nI_clamp bd35
          refine lv_aload_n hx hb dX7_setRow_51 rfl (lv_at hl 0 rfl) ?_
          refine zz_get hC hZ 0 rfl zf_X7_10 rfl dX7_setRow_52 ?_
          refine zz_get hC hZ 6 rfl zf_X7_76 rfl dX7_setRow_55 ?_
          refine lv_iload_n hx hb dX7_setRow_58 rfl (lv_at hl 1 rfl) ?_
          have bd36 : a1 < 60 := by omega
          refine zz_ialdn hC hZ 2 rfl bd36 (by decide) dX7_setRow_59 ?_
          refine zz_topi (v := nI dz1) (ed1) ?_
          refine lv_iconst (v := 1) hx hb dX7_setRow_60 (by decide) ?_
          refine lv_icmp_eq (tgt := 81) hx hb dX7_setRow_61 (by decide) (fun c37 => ?_) (fun c37 => ?_)
          · have nc37 : dz1 = 1 := (nI_eq bd9 (by decide)).mp (show nI (dz1) = nI (1) from c37)
            refine lv_aload_n hx hb dX7_setRow_81 rfl (lv_at hl 0 rfl) ?_
            refine lv_iconst (v := 1) hx hb dX7_setRow_82 (by decide) ?_
            refine zz_iV (As := [.int 1]) (wc := [cw_k6 h0 st mk lk ch ru mr md la]) (wr := [cw_i g kd 60 kdf, cw_i g dp 60 dpf, cw_i g cl 60 clf, cw_i g sa 60 saf, cw_l g bt 4000 btf, cw_k5 st (nI na) (nI nu) kd dp cl sa ln bt pn bf, cw_i g ln 60 lnf]) (rest := []) hC hZ hs hl zc_X7_65 (co_fail g h0 st mk lk ch ru mr md la 1) [0] [1, 2, 3, 4, 5, 6, 7] rfl rfl (by decide +kernel) (ci := 6) (q0 := 0) rfl rfl rfl rfl (Nat.le_of_ble_eq_true rfl) ⟨⟨Nat.le_of_ble_eq_true rfl, Nat.le_of_ble_eq_true rfl⟩, Nat.le_of_ble_eq_true rfl, Nat.le_of_ble_eq_true rfl⟩ dX7_setRow_83 (fun r38 u39 H locs hp hZ => ?_)
            obtain ⟨rfl, rfl⟩ := hp
            have hZ : zz_Z g A s.heap [cw_i g kd 60 kdf, cw_i g dp 60 dpf, cw_i g cl 60 clf, cw_i g sa 60 saf, cw_l g bt 4000 btf, cw_k5 st (nI na) (nI nu) kd dp cl sa ln bt pn bf, cw_i g ln 60 lnf, cw_k6 h0 st mk lk ch ru mr md 1] H locs := hZ
            have hZ : zz_Z g A s.heap [cw_k6 h0 st mk lk ch ru mr md 1, cw_k5 st (nI na) (nI nu) kd dp cl sa ln bt pn bf, cw_i g kd 60 kdf, cw_i g dp 60 dpf, cw_i g cl 60 clf, cw_i g sa 60 saf, cw_i g ln 60 lnf, cw_l g bt 4000 btf] H locs := hZ.sub [7, 5, 0, 1, 2, 3, 6, 4] (by decide +kernel) rfl
            exact zz_iret hC hZ (⟨1, btf, by refine Eq.symm ?_; rw [fo_cx_setRow]; refine (if_neg (by (try simp only [d_a1, d_sz1, d_lz1, d_dz1, d_a3, d_sz3, d_lz3, d_dz3, d_q2]); exact c3)).trans ?_; refine (if_neg (by (try simp only [d_a1, d_sz1, d_lz1, d_dz1, d_a3, d_sz3, d_lz3, d_dz3, d_q2]); exact c10)).trans ?_; refine (if_neg (by (try simp only [d_a1, d_sz1, d_lz1, d_dz1, d_a3, d_sz3, d_lz3, d_dz3, d_q2]); exact c27)).trans ?_; refine (if_neg (by (try simp only [d_a1, d_sz1, d_lz1, d_dz1, d_a3, d_sz3, d_lz3, d_dz3, d_q2]); exact c34)).trans ?_; refine (if_pos (by (try simp only [d_a1, d_sz1, d_lz1, d_dz1, d_a3, d_sz3, d_lz3, d_dz3, d_q2]); exact c37)).trans ?_; first | (simp only [d_a1, d_sz1, d_lz1, d_dz1, d_a3, d_sz3, d_lz3, d_dz3, d_q2]; done) | rfl, rfl⟩) (Nat.le_of_ble_eq_true rfl) (Nat.le_of_ble_eq_true rfl) dX7_setRow_86
          · have nc37 : ¬ dz1 = 1 := fun zq => c37 (show nI (dz1) = nI (1) from (nI_eq bd9 (by decide)).mpr zq)
            refine lv_iload_n hx hb dX7_setRow_64 rfl (lv_at hl 3 rfl) ?_
            refine lv_iconst (v := -1) hx hb dX7_setRow_65 (by decide) ?_
            refine lv_icmp_eq (tgt := 87) hx hb dX7_setRow_66 (by decide) (fun c40 => ?_) (fun c40 => ?_)
            · refine lv_aload_n hx hb dX7_setRow_87 rfl (lv_at hl 0 rfl) ?_
              refine zz_get hC hZ 0 rfl zf_X7_10 rfl dX7_setRow_88 ?_
              refine zz_get hC hZ 6 rfl zf_X7_116 rfl dX7_setRow_91 ?_
              refine lv_aload_n hx hb dX7_setRow_94 rfl (lv_at hl 0 rfl) ?_
              refine zz_get hC hZ 0 rfl zf_X7_10 rfl dX7_setRow_95 ?_
              refine zz_get hC hZ 6 rfl zf_X7_120 rfl dX7_setRow_98 ?_
              refine lv_iload_n hx hb dX7_setRow_101 rfl (lv_at hl 1 rfl) ?_
              refine zz_ialdn hC hZ 4 rfl bd36 (by decide) dX7_setRow_102 ?_
              refine zz_topi (v := nI sz1) (es1) ?_
              refine lv_iload_n hx hb dX7_setRow_103 rfl (lv_at hl 2 rfl) ?_
              refine lv_iadd hx hb dX7_setRow_104 ?_
              refine zz_topi (v := nI (sz1 + q2)) (nI_add _ _) ?_
              refine lv_iload_n hx hb dX7_setRow_105 rfl (lv_at hl 3 rfl) ?_
              refine lv_i2l hx hb dX7_setRow_106 rfl ?_
              have bd41 : (sz1 + q2) < 4000 := by omega
              refine zz_lastn hC hZ 5 rfl bd41 (by decide) dX7_setRow_107 (fun H locs hZ => ?_)
              have hZ : zz_Z g A s.heap [cw_k6 h0 st mk lk ch ru mr md la, cw_i g kd 60 kdf, cw_i g dp 60 dpf, cw_i g cl 60 clf, cw_i g sa 60 saf, cw_l g bt 4000 (vp_updL btf (sz1 + q2) ((nI a3).toInt64)), cw_k5 st (nI na) (nI nu) kd dp cl sa ln bt pn bf, cw_i g ln 60 lnf] H locs := hZ
              refine lv_aload_n hx hb dX7_setRow_108 rfl (lv_at hl 0 rfl) ?_
              refine lv_iconst (v := 0) hx hb dX7_setRow_109 (by decide) ?_
              refine zz_iV (As := [.int 0]) (wc := [cw_k6 h0 st mk lk ch ru mr md la]) (wr := [cw_i g kd 60 kdf, cw_i g dp 60 dpf, cw_i g cl 60 clf, cw_i g sa 60 saf, cw_l g bt 4000 (vp_updL btf (sz1 + q2) ((nI a3).toInt64)), cw_k5 st (nI na) (nI nu) kd dp cl sa ln bt pn bf, cw_i g ln 60 lnf]) (rest := []) hC hZ hs hl zc_X7_100 (co_fine g h0 st mk lk ch ru mr md la 0) [0] [1, 2, 3, 4, 5, 6, 7] rfl rfl (by decide +kernel) (ci := 6) (q0 := 0) rfl rfl rfl rfl (Nat.le_of_ble_eq_true rfl) ⟨⟨Nat.le_of_ble_eq_true rfl, Nat.le_of_ble_eq_true rfl⟩, Nat.le_of_ble_eq_true rfl, Nat.le_of_ble_eq_true rfl⟩ dX7_setRow_110 (fun r42 u43 H locs hp hZ => ?_)
              obtain ⟨rfl, rfl⟩ := hp
              have hZ : zz_Z g A s.heap [cw_i g kd 60 kdf, cw_i g dp 60 dpf, cw_i g cl 60 clf, cw_i g sa 60 saf, cw_l g bt 4000 (vp_updL btf (sz1 + q2) ((nI a3).toInt64)), cw_k5 st (nI na) (nI nu) kd dp cl sa ln bt pn bf, cw_i g ln 60 lnf, cw_k6 h0 st mk lk ch ru mr md 0] H locs := hZ
              have hZ : zz_Z g A s.heap [cw_k6 h0 st mk lk ch ru mr md 0, cw_k5 st (nI na) (nI nu) kd dp cl sa ln bt pn bf, cw_i g kd 60 kdf, cw_i g dp 60 dpf, cw_i g cl 60 clf, cw_i g sa 60 saf, cw_i g ln 60 lnf, cw_l g bt 4000 (vp_updL btf (sz1 + q2) ((nI a3).toInt64))] H locs := hZ.sub [7, 5, 0, 1, 2, 3, 6, 4] (by decide +kernel) rfl
              exact zz_iret hC hZ (⟨0, (vp_updL btf (sz1 + q2) ((nI a3).toInt64)), by refine Eq.symm ?_; rw [fo_cx_setRow]; refine (if_neg (by (try simp only [d_a1, d_sz1, d_lz1, d_dz1, d_a3, d_sz3, d_lz3, d_dz3, d_q2]); exact c3)).trans ?_; refine (if_neg (by (try simp only [d_a1, d_sz1, d_lz1, d_dz1, d_a3, d_sz3, d_lz3, d_dz3, d_q2]); exact c10)).trans ?_; refine (if_neg (by (try simp only [d_a1, d_sz1, d_lz1, d_dz1, d_a3, d_sz3, d_lz3, d_dz3, d_q2]); exact c27)).trans ?_; refine (if_neg (by (try simp only [d_a1, d_sz1, d_lz1, d_dz1, d_a3, d_sz3, d_lz3, d_dz3, d_q2]); exact c34)).trans ?_; refine (if_neg (by (try simp only [d_a1, d_sz1, d_lz1, d_dz1, d_a3, d_sz3, d_lz3, d_dz3, d_q2]); exact c37)).trans ?_; refine (if_pos (by (try simp only [d_a1, d_sz1, d_lz1, d_dz1, d_a3, d_sz3, d_lz3, d_dz3, d_q2]); exact c40)).trans ?_; first | (simp only [d_a1, d_sz1, d_lz1, d_dz1, d_a3, d_sz3, d_lz3, d_dz3, d_q2]; done) | rfl, rfl⟩) (Nat.le_of_ble_eq_true rfl) (Nat.le_of_ble_eq_true rfl) dX7_setRow_113
            · refine lv_aload_n hx hb dX7_setRow_69 rfl (lv_at hl 0 rfl) ?_
              refine zz_get hC hZ 0 rfl zf_X7_10 rfl dX7_setRow_70 ?_
              refine lv_iload_n hx hb dX7_setRow_73 rfl (lv_at hl 1 rfl) ?_
              refine lv_iload_n hx hb dX7_setRow_74 rfl (lv_at hl 3 rfl) ?_
              refine zz_iV (As := [.int (nI a1), .int (nI a3)]) (wc := [cw_k5 st (nI na) (nI nu) kd dp cl sa ln bt pn bf, cw_i g kd 60 kdf, cw_i g dp 60 dpf, cw_i g cl 60 clf]) (wr := [cw_k6 h0 st mk lk ch ru mr md la, cw_i g sa 60 saf, cw_l g bt 4000 btf, cw_i g ln 60 lnf]) (rest := []) hC hZ hs hl zc_X7_127 (co_isRowFor g st kd dp cl sa ln bt pn bf na nu kdf dpf clf a1 a3 (by omega)) [6, 1, 2, 3] [0, 4, 5, 7] rfl rfl (by decide +kernel) (ci := 5) (q0 := 0) rfl rfl rfl rfl (Nat.le_of_ble_eq_true rfl) ⟨⟨Nat.le_of_ble_eq_true rfl, Nat.le_of_ble_eq_true rfl⟩, Nat.le_of_ble_eq_true rfl, Nat.le_of_ble_eq_true rfl⟩ dX7_setRow_75 (fun r44 u45 H locs hp hZ => ?_)
              obtain ⟨rfl, rfl⟩ := hp
              have hZ : zz_Z g A s.heap [cw_k6 h0 st mk lk ch ru mr md la, cw_i g sa 60 saf, cw_l g bt 4000 btf, cw_i g ln 60 lnf, cw_k5 st (nI na) (nI nu) kd dp cl sa ln bt pn bf, cw_i g kd 60 kdf, cw_i g dp 60 dpf, cw_i g cl 60 clf] H locs := hZ
              refine lv_if_ne (tgt := 87) hx hb dX7_setRow_78 (by decide) (fun c46 => ?_) (fun c46 => ?_)
              · refine lv_aload_n hx hb dX7_setRow_87 rfl (lv_at hl 0 rfl) ?_
                refine zz_get hC hZ 0 rfl zf_X7_10 rfl dX7_setRow_88 ?_
                refine zz_get hC hZ 4 rfl zf_X7_116 rfl dX7_setRow_91 ?_
                refine lv_aload_n hx hb dX7_setRow_94 rfl (lv_at hl 0 rfl) ?_
                refine zz_get hC hZ 0 rfl zf_X7_10 rfl dX7_setRow_95 ?_
                refine zz_get hC hZ 4 rfl zf_X7_120 rfl dX7_setRow_98 ?_
                refine lv_iload_n hx hb dX7_setRow_101 rfl (lv_at hl 1 rfl) ?_
                refine zz_ialdn hC hZ 1 rfl bd36 (by decide) dX7_setRow_102 ?_
                refine zz_topi (v := nI sz1) (es1) ?_
                refine lv_iload_n hx hb dX7_setRow_103 rfl (lv_at hl 2 rfl) ?_
                refine lv_iadd hx hb dX7_setRow_104 ?_
                refine zz_topi (v := nI (sz1 + q2)) (nI_add _ _) ?_
                refine lv_iload_n hx hb dX7_setRow_105 rfl (lv_at hl 3 rfl) ?_
                refine lv_i2l hx hb dX7_setRow_106 rfl ?_
                have bd47 : (sz1 + q2) < 4000 := by omega
                refine zz_lastn hC hZ 2 rfl bd47 (by decide) dX7_setRow_107 (fun H locs hZ => ?_)
                have hZ : zz_Z g A s.heap [cw_k6 h0 st mk lk ch ru mr md la, cw_i g sa 60 saf, cw_l g bt 4000 (vp_updL btf (sz1 + q2) ((nI a3).toInt64)), cw_i g ln 60 lnf, cw_k5 st (nI na) (nI nu) kd dp cl sa ln bt pn bf, cw_i g kd 60 kdf, cw_i g dp 60 dpf, cw_i g cl 60 clf] H locs := hZ
                refine lv_aload_n hx hb dX7_setRow_108 rfl (lv_at hl 0 rfl) ?_
                refine lv_iconst (v := 0) hx hb dX7_setRow_109 (by decide) ?_
                refine zz_iV (As := [.int 0]) (wc := [cw_k6 h0 st mk lk ch ru mr md la]) (wr := [cw_i g sa 60 saf, cw_l g bt 4000 (vp_updL btf (sz1 + q2) ((nI a3).toInt64)), cw_i g ln 60 lnf, cw_k5 st (nI na) (nI nu) kd dp cl sa ln bt pn bf, cw_i g kd 60 kdf, cw_i g dp 60 dpf, cw_i g cl 60 clf]) (rest := []) hC hZ hs hl zc_X7_100 (co_fine g h0 st mk lk ch ru mr md la 0) [0] [1, 2, 3, 4, 5, 6, 7] rfl rfl (by decide +kernel) (ci := 6) (q0 := 0) rfl rfl rfl rfl (Nat.le_of_ble_eq_true rfl) ⟨⟨Nat.le_of_ble_eq_true rfl, Nat.le_of_ble_eq_true rfl⟩, Nat.le_of_ble_eq_true rfl, Nat.le_of_ble_eq_true rfl⟩ dX7_setRow_110 (fun r48 u49 H locs hp hZ => ?_)
                obtain ⟨rfl, rfl⟩ := hp
                have hZ : zz_Z g A s.heap [cw_i g sa 60 saf, cw_l g bt 4000 (vp_updL btf (sz1 + q2) ((nI a3).toInt64)), cw_i g ln 60 lnf, cw_k5 st (nI na) (nI nu) kd dp cl sa ln bt pn bf, cw_i g kd 60 kdf, cw_i g dp 60 dpf, cw_i g cl 60 clf, cw_k6 h0 st mk lk ch ru mr md 0] H locs := hZ
                have hZ : zz_Z g A s.heap [cw_k6 h0 st mk lk ch ru mr md 0, cw_k5 st (nI na) (nI nu) kd dp cl sa ln bt pn bf, cw_i g kd 60 kdf, cw_i g dp 60 dpf, cw_i g cl 60 clf, cw_i g sa 60 saf, cw_i g ln 60 lnf, cw_l g bt 4000 (vp_updL btf (sz1 + q2) ((nI a3).toInt64))] H locs := hZ.sub [7, 3, 4, 5, 6, 0, 2, 1] (by decide +kernel) rfl
                exact zz_iret hC hZ (⟨0, (vp_updL btf (sz1 + q2) ((nI a3).toInt64)), by refine Eq.symm ?_; rw [fo_cx_setRow]; refine (if_neg (by (try simp only [d_a1, d_sz1, d_lz1, d_dz1, d_a3, d_sz3, d_lz3, d_dz3, d_q2]); exact c3)).trans ?_; refine (if_neg (by (try simp only [d_a1, d_sz1, d_lz1, d_dz1, d_a3, d_sz3, d_lz3, d_dz3, d_q2]); exact c10)).trans ?_; refine (if_neg (by (try simp only [d_a1, d_sz1, d_lz1, d_dz1, d_a3, d_sz3, d_lz3, d_dz3, d_q2]); exact c27)).trans ?_; refine (if_neg (by (try simp only [d_a1, d_sz1, d_lz1, d_dz1, d_a3, d_sz3, d_lz3, d_dz3, d_q2]); exact c34)).trans ?_; refine (if_neg (by (try simp only [d_a1, d_sz1, d_lz1, d_dz1, d_a3, d_sz3, d_lz3, d_dz3, d_q2]); exact c37)).trans ?_; refine (if_neg (by (try simp only [d_a1, d_sz1, d_lz1, d_dz1, d_a3, d_sz3, d_lz3, d_dz3, d_q2]); exact c40)).trans ?_; refine (if_neg (by (try simp only [d_a1, d_sz1, d_lz1, d_dz1, d_a3, d_sz3, d_lz3, d_dz3, d_q2]); exact c46)).trans ?_; first | (simp only [d_a1, d_sz1, d_lz1, d_dz1, d_a3, d_sz3, d_lz3, d_dz3, d_q2]; done) | rfl, rfl⟩) (Nat.le_of_ble_eq_true rfl) (Nat.le_of_ble_eq_true rfl) dX7_setRow_113
              · refine lv_aload_n hx hb dX7_setRow_81 rfl (lv_at hl 0 rfl) ?_
                refine lv_iconst (v := 1) hx hb dX7_setRow_82 (by decide) ?_
                refine zz_iV (As := [.int 1]) (wc := [cw_k6 h0 st mk lk ch ru mr md la]) (wr := [cw_i g sa 60 saf, cw_l g bt 4000 btf, cw_i g ln 60 lnf, cw_k5 st (nI na) (nI nu) kd dp cl sa ln bt pn bf, cw_i g kd 60 kdf, cw_i g dp 60 dpf, cw_i g cl 60 clf]) (rest := []) hC hZ hs hl zc_X7_65 (co_fail g h0 st mk lk ch ru mr md la 1) [0] [1, 2, 3, 4, 5, 6, 7] rfl rfl (by decide +kernel) (ci := 6) (q0 := 0) rfl rfl rfl rfl (Nat.le_of_ble_eq_true rfl) ⟨⟨Nat.le_of_ble_eq_true rfl, Nat.le_of_ble_eq_true rfl⟩, Nat.le_of_ble_eq_true rfl, Nat.le_of_ble_eq_true rfl⟩ dX7_setRow_83 (fun r50 u51 H locs hp hZ => ?_)
                obtain ⟨rfl, rfl⟩ := hp
                have hZ : zz_Z g A s.heap [cw_i g sa 60 saf, cw_l g bt 4000 btf, cw_i g ln 60 lnf, cw_k5 st (nI na) (nI nu) kd dp cl sa ln bt pn bf, cw_i g kd 60 kdf, cw_i g dp 60 dpf, cw_i g cl 60 clf, cw_k6 h0 st mk lk ch ru mr md 1] H locs := hZ
                have hZ : zz_Z g A s.heap [cw_k6 h0 st mk lk ch ru mr md 1, cw_k5 st (nI na) (nI nu) kd dp cl sa ln bt pn bf, cw_i g kd 60 kdf, cw_i g dp 60 dpf, cw_i g cl 60 clf, cw_i g sa 60 saf, cw_i g ln 60 lnf, cw_l g bt 4000 btf] H locs := hZ.sub [7, 3, 4, 5, 6, 0, 2, 1] (by decide +kernel) rfl
                exact zz_iret hC hZ (⟨1, btf, by refine Eq.symm ?_; rw [fo_cx_setRow]; refine (if_neg (by (try simp only [d_a1, d_sz1, d_lz1, d_dz1, d_a3, d_sz3, d_lz3, d_dz3, d_q2]); exact c3)).trans ?_; refine (if_neg (by (try simp only [d_a1, d_sz1, d_lz1, d_dz1, d_a3, d_sz3, d_lz3, d_dz3, d_q2]); exact c10)).trans ?_; refine (if_neg (by (try simp only [d_a1, d_sz1, d_lz1, d_dz1, d_a3, d_sz3, d_lz3, d_dz3, d_q2]); exact c27)).trans ?_; refine (if_neg (by (try simp only [d_a1, d_sz1, d_lz1, d_dz1, d_a3, d_sz3, d_lz3, d_dz3, d_q2]); exact c34)).trans ?_; refine (if_neg (by (try simp only [d_a1, d_sz1, d_lz1, d_dz1, d_a3, d_sz3, d_lz3, d_dz3, d_q2]); exact c37)).trans ?_; refine (if_neg (by (try simp only [d_a1, d_sz1, d_lz1, d_dz1, d_a3, d_sz3, d_lz3, d_dz3, d_q2]); exact c40)).trans ?_; refine (if_pos (by (try simp only [d_a1, d_sz1, d_lz1, d_dz1, d_a3, d_sz3, d_lz3, d_dz3, d_q2]); exact c46)).trans ?_; first | (simp only [d_a1, d_sz1, d_lz1, d_dz1, d_a3, d_sz3, d_lz3, d_dz3, d_q2]; done) | rfl, rfl⟩) (Nat.le_of_ble_eq_true rfl) (Nat.le_of_ble_eq_true rfl) dX7_setRow_86
        · refine lv_aload_n hx hb dX7_setRow_45 rfl (lv_at hl 0 rfl) ?_
          refine lv_iconst (v := 2) hx hb dX7_setRow_46 (by decide) ?_
          refine zz_iV (As := [.int 2]) (wc := [cw_k6 h0 st mk lk ch ru mr md la]) (wr := [cw_i g kd 60 kdf, cw_i g dp 60 dpf, cw_i g cl 60 clf, cw_i g sa 60 saf, cw_l g bt 4000 btf, cw_k5 st (nI na) (nI nu) kd dp cl sa ln bt pn bf, cw_i g ln 60 lnf]) (rest := []) hC hZ hs hl zc_X7_65 (co_fail g h0 st mk lk ch ru mr md la 2) [0] [1, 2, 3, 4, 5, 6, 7] rfl rfl (by decide +kernel) (ci := 6) (q0 := 0) rfl rfl rfl rfl (Nat.le_of_ble_eq_true rfl) ⟨⟨Nat.le_of_ble_eq_true rfl, Nat.le_of_ble_eq_true rfl⟩, Nat.le_of_ble_eq_true rfl, Nat.le_of_ble_eq_true rfl⟩ dX7_setRow_47 (fun r52 u53 H locs hp hZ => ?_)
          obtain ⟨rfl, rfl⟩ := hp
          have hZ : zz_Z g A s.heap [cw_i g kd 60 kdf, cw_i g dp 60 dpf, cw_i g cl 60 clf, cw_i g sa 60 saf, cw_l g bt 4000 btf, cw_k5 st (nI na) (nI nu) kd dp cl sa ln bt pn bf, cw_i g ln 60 lnf, cw_k6 h0 st mk lk ch ru mr md 2] H locs := hZ
          have hZ : zz_Z g A s.heap [cw_k6 h0 st mk lk ch ru mr md 2, cw_k5 st (nI na) (nI nu) kd dp cl sa ln bt pn bf, cw_i g kd 60 kdf, cw_i g dp 60 dpf, cw_i g cl 60 clf, cw_i g sa 60 saf, cw_i g ln 60 lnf, cw_l g bt 4000 btf] H locs := hZ.sub [7, 5, 0, 1, 2, 3, 6, 4] (by decide +kernel) rfl
          exact zz_iret hC hZ (⟨2, btf, by refine Eq.symm ?_; rw [fo_cx_setRow]; refine (if_neg (by (try simp only [d_a1, d_sz1, d_lz1, d_dz1, d_a3, d_sz3, d_lz3, d_dz3]); exact c3)).trans ?_; refine (if_neg (by (try simp only [d_a1, d_sz1, d_lz1, d_dz1, d_a3, d_sz3, d_lz3, d_dz3]); exact c10)).trans ?_; refine (if_neg (by (try simp only [d_a1, d_sz1, d_lz1, d_dz1, d_a3, d_sz3, d_lz3, d_dz3]); exact c27)).trans ?_; refine (if_pos (by (try simp only [d_a1, d_sz1, d_lz1, d_dz1, d_a3, d_sz3, d_lz3, d_dz3]); exact c34)).trans ?_; first | (simp only [d_a1, d_sz1, d_lz1, d_dz1, d_a3, d_sz3, d_lz3, d_dz3]; done) | rfl, rfl⟩) (Nat.le_of_ble_eq_true rfl) (Nat.le_of_ble_eq_true rfl) dX7_setRow_50
      · refine lv_aload_n hx hb dX7_setRow_27 rfl (lv_at hl 0 rfl) ?_
        refine lv_iconst (v := 5) hx hb dX7_setRow_28 (by decide) ?_
        refine zz_iV (As := [.int 5]) (wc := [cw_k6 h0 st mk lk ch ru mr md la]) (wr := [cw_i g kd 60 kdf, cw_i g dp 60 dpf, cw_i g cl 60 clf, cw_i g sa 60 saf, cw_i g ln 60 lnf, cw_l g bt 4000 btf, cw_k5 st (nI na) (nI nu) kd dp cl sa ln bt pn bf]) (rest := []) hC hZ hs hl zc_X7_65 (co_fail g h0 st mk lk ch ru mr md la 5) [0] [1, 2, 3, 4, 5, 6, 7] rfl rfl (by decide +kernel) (ci := 6) (q0 := 0) rfl rfl rfl rfl (Nat.le_of_ble_eq_true rfl) ⟨⟨Nat.le_of_ble_eq_true rfl, Nat.le_of_ble_eq_true rfl⟩, Nat.le_of_ble_eq_true rfl, Nat.le_of_ble_eq_true rfl⟩ dX7_setRow_29 (fun r54 u55 H locs hp hZ => ?_)
        obtain ⟨rfl, rfl⟩ := hp
        have hZ : zz_Z g A s.heap [cw_i g kd 60 kdf, cw_i g dp 60 dpf, cw_i g cl 60 clf, cw_i g sa 60 saf, cw_i g ln 60 lnf, cw_l g bt 4000 btf, cw_k5 st (nI na) (nI nu) kd dp cl sa ln bt pn bf, cw_k6 h0 st mk lk ch ru mr md 5] H locs := hZ
        have hZ : zz_Z g A s.heap [cw_k6 h0 st mk lk ch ru mr md 5, cw_k5 st (nI na) (nI nu) kd dp cl sa ln bt pn bf, cw_i g kd 60 kdf, cw_i g dp 60 dpf, cw_i g cl 60 clf, cw_i g sa 60 saf, cw_i g ln 60 lnf, cw_l g bt 4000 btf] H locs := hZ.sub [7, 6, 0, 1, 2, 3, 4, 5] (by decide +kernel) rfl
        exact zz_iret hC hZ (⟨5, btf, by refine Eq.symm ?_; rw [fo_cx_setRow]; refine (if_neg (by (try simp only [d_a1, d_sz1, d_lz1, d_dz1]); exact c3)).trans ?_; refine (if_neg (by (try simp only [d_a1, d_sz1, d_lz1, d_dz1]); exact c10)).trans ?_; refine (if_pos (by (try simp only [d_a1, d_sz1, d_lz1, d_dz1]); exact c27)).trans ?_; first | (simp only [d_a1, d_sz1, d_lz1, d_dz1]; done) | rfl, rfl⟩) (Nat.le_of_ble_eq_true rfl) (Nat.le_of_ble_eq_true rfl) dX7_setRow_32
theorem dg_X7_read_0 : (decode cX7_read 0 = .ok (.aload_n 0, 1)) ∧ (decode cX7_read 1 = .ok (.getfield 10, 3)) ∧ (decode cX7_read 4 = .ok (.iload_n 1, 1)) ∧ (decode cX7_read 5 = .ok (.invokevirtual 73, 3)) ∧ (decode cX7_read 8 = .ok (.ifCond .ne 9, 3)) ∧ (decode cX7_read 11 = .ok (.aload_n 0, 1)) ∧ (decode cX7_read 12 = .ok (.iconst 5, 1)) ∧ (decode cX7_read 13 = .ok (.invokevirtual 130, 3)) ∧ (decode cX7_read 16 = .ok (.lreturn, 1)) ∧ (decode cX7_read 17 = .ok (.iload 6, 2)) ∧ (decode cX7_read 19 = .ok (.invokestatic 59, 3)) ∧ (decode cX7_read 22 = .ok (.ifCond .ne 10, 3)) ∧ (decode cX7_read 25 = .ok (.aload_n 0, 1)) ∧ (decode cX7_read 26 = .ok (.bipush 9, 2)) ∧ (decode cX7_read 28 = .ok (.invokevirtual 130, 3)) ∧ (decode cX7_read 31 = .ok (.lreturn, 1)) := by decide +kernel
theorem dX7_read_0 : decode cX7_read 0 = .ok (.aload_n 0, 1) := dg_X7_read_0.1
theorem dX7_read_1 : decode cX7_read 1 = .ok (.getfield 10, 3) := dg_X7_read_0.2.1
theorem dX7_read_4 : decode cX7_read 4 = .ok (.iload_n 1, 1) := dg_X7_read_0.2.2.1
theorem dX7_read_5 : decode cX7_read 5 = .ok (.invokevirtual 73, 3) := dg_X7_read_0.2.2.2.1
theorem dX7_read_8 : decode cX7_read 8 = .ok (.ifCond .ne 9, 3) := dg_X7_read_0.2.2.2.2.1
theorem dX7_read_11 : decode cX7_read 11 = .ok (.aload_n 0, 1) := dg_X7_read_0.2.2.2.2.2.1
theorem dX7_read_12 : decode cX7_read 12 = .ok (.iconst 5, 1) := dg_X7_read_0.2.2.2.2.2.2.1
theorem dX7_read_13 : decode cX7_read 13 = .ok (.invokevirtual 130, 3) := dg_X7_read_0.2.2.2.2.2.2.2.1
theorem dX7_read_16 : decode cX7_read 16 = .ok (.lreturn, 1) := dg_X7_read_0.2.2.2.2.2.2.2.2.1
theorem dX7_read_17 : decode cX7_read 17 = .ok (.iload 6, 2) := dg_X7_read_0.2.2.2.2.2.2.2.2.2.1
theorem dX7_read_19 : decode cX7_read 19 = .ok (.invokestatic 59, 3) := dg_X7_read_0.2.2.2.2.2.2.2.2.2.2.1
theorem dX7_read_22 : decode cX7_read 22 = .ok (.ifCond .ne 10, 3) := dg_X7_read_0.2.2.2.2.2.2.2.2.2.2.2.1
theorem dX7_read_25 : decode cX7_read 25 = .ok (.aload_n 0, 1) := dg_X7_read_0.2.2.2.2.2.2.2.2.2.2.2.2.1
theorem dX7_read_26 : decode cX7_read 26 = .ok (.bipush 9, 2) := dg_X7_read_0.2.2.2.2.2.2.2.2.2.2.2.2.2.1
theorem dX7_read_28 : decode cX7_read 28 = .ok (.invokevirtual 130, 3) := dg_X7_read_0.2.2.2.2.2.2.2.2.2.2.2.2.2.2.1
theorem dX7_read_31 : decode cX7_read 31 = .ok (.lreturn, 1) := dg_X7_read_0.2.2.2.2.2.2.2.2.2.2.2.2.2.2.2
theorem dg_X7_read_32 : (decode cX7_read 32 = .ok (.aload_n 0, 1)) ∧ (decode cX7_read 33 = .ok (.getfield 10, 3)) ∧ (decode cX7_read 36 = .ok (.iload_n 1, 1)) ∧ (decode cX7_read 37 = .ok (.iload_n 2, 1)) ∧ (decode cX7_read 38 = .ok (.iload_n 3, 1)) ∧ (decode cX7_read 39 = .ok (.iload 4, 2)) ∧ (decode cX7_read 41 = .ok (.iload 5, 2)) ∧ (decode cX7_read 43 = .ok (.invokevirtual 134, 3)) ∧ (decode cX7_read 46 = .ok (.istore 7, 2)) ∧ (decode cX7_read 48 = .ok (.iload 7, 2)) ∧ (decode cX7_read 50 = .ok (.ifCond .ge 11, 3)) ∧ (decode cX7_read 53 = .ok (.aload_n 0, 1)) ∧ (decode cX7_read 54 = .ok (.iload 7, 2)) ∧ (decode cX7_read 56 = .ok (.ineg, 1)) ∧ (decode cX7_read 57 = .ok (.invokevirtual 130, 3)) ∧ (decode cX7_read 60 = .ok (.lreturn, 1)) := by decide +kernel
theorem dX7_read_32 : decode cX7_read 32 = .ok (.aload_n 0, 1) := dg_X7_read_32.1
theorem dX7_read_33 : decode cX7_read 33 = .ok (.getfield 10, 3) := dg_X7_read_32.2.1
theorem dX7_read_36 : decode cX7_read 36 = .ok (.iload_n 1, 1) := dg_X7_read_32.2.2.1
theorem dX7_read_37 : decode cX7_read 37 = .ok (.iload_n 2, 1) := dg_X7_read_32.2.2.2.1
theorem dX7_read_38 : decode cX7_read 38 = .ok (.iload_n 3, 1) := dg_X7_read_32.2.2.2.2.1
theorem dX7_read_39 : decode cX7_read 39 = .ok (.iload 4, 2) := dg_X7_read_32.2.2.2.2.2.1
theorem dX7_read_41 : decode cX7_read 41 = .ok (.iload 5, 2) := dg_X7_read_32.2.2.2.2.2.2.1
theorem dX7_read_43 : decode cX7_read 43 = .ok (.invokevirtual 134, 3) := dg_X7_read_32.2.2.2.2.2.2.2.1
theorem dX7_read_46 : decode cX7_read 46 = .ok (.istore 7, 2) := dg_X7_read_32.2.2.2.2.2.2.2.2.1
theorem dX7_read_48 : decode cX7_read 48 = .ok (.iload 7, 2) := dg_X7_read_32.2.2.2.2.2.2.2.2.2.1
theorem dX7_read_50 : decode cX7_read 50 = .ok (.ifCond .ge 11, 3) := dg_X7_read_32.2.2.2.2.2.2.2.2.2.2.1
theorem dX7_read_53 : decode cX7_read 53 = .ok (.aload_n 0, 1) := dg_X7_read_32.2.2.2.2.2.2.2.2.2.2.2.1
theorem dX7_read_54 : decode cX7_read 54 = .ok (.iload 7, 2) := dg_X7_read_32.2.2.2.2.2.2.2.2.2.2.2.2.1
theorem dX7_read_56 : decode cX7_read 56 = .ok (.ineg, 1) := dg_X7_read_32.2.2.2.2.2.2.2.2.2.2.2.2.2.1
theorem dX7_read_57 : decode cX7_read 57 = .ok (.invokevirtual 130, 3) := dg_X7_read_32.2.2.2.2.2.2.2.2.2.2.2.2.2.2.1
theorem dX7_read_60 : decode cX7_read 60 = .ok (.lreturn, 1) := dg_X7_read_32.2.2.2.2.2.2.2.2.2.2.2.2.2.2.2
theorem dg_X7_read_61 : (decode cX7_read 61 = .ok (.aload_n 0, 1)) ∧ (decode cX7_read 62 = .ok (.getfield 10, 3)) ∧ (decode cX7_read 65 = .ok (.getfield 80, 3)) ∧ (decode cX7_read 68 = .ok (.iload_n 1, 1)) ∧ (decode cX7_read 69 = .ok (.iaload, 1)) ∧ (decode cX7_read 70 = .ok (.istore 8, 2)) ∧ (decode cX7_read 72 = .ok (.iload 8, 2)) ∧ (decode cX7_read 74 = .ok (.iload 6, 2)) ∧ (decode cX7_read 76 = .ok (.invokestatic 138, 3)) ∧ (decode cX7_read 79 = .ok (.ifCond .ne 9, 3)) ∧ (decode cX7_read 82 = .ok (.aload_n 0, 1)) ∧ (decode cX7_read 83 = .ok (.iconst 1, 1)) ∧ (decode cX7_read 84 = .ok (.invokevirtual 130, 3)) ∧ (decode cX7_read 87 = .ok (.lreturn, 1)) ∧ (decode cX7_read 88 = .ok (.aload_n 0, 1)) ∧ (decode cX7_read 89 = .ok (.iconst 0, 1)) := by decide +kernel
theorem dX7_read_61 : decode cX7_read 61 = .ok (.aload_n 0, 1) := dg_X7_read_61.1
theorem dX7_read_62 : decode cX7_read 62 = .ok (.getfield 10, 3) := dg_X7_read_61.2.1
theorem dX7_read_65 : decode cX7_read 65 = .ok (.getfield 80, 3) := dg_X7_read_61.2.2.1
theorem dX7_read_68 : decode cX7_read 68 = .ok (.iload_n 1, 1) := dg_X7_read_61.2.2.2.1
theorem dX7_read_69 : decode cX7_read 69 = .ok (.iaload, 1) := dg_X7_read_61.2.2.2.2.1
theorem dX7_read_70 : decode cX7_read 70 = .ok (.istore 8, 2) := dg_X7_read_61.2.2.2.2.2.1
theorem dX7_read_72 : decode cX7_read 72 = .ok (.iload 8, 2) := dg_X7_read_61.2.2.2.2.2.2.1
theorem dX7_read_74 : decode cX7_read 74 = .ok (.iload 6, 2) := dg_X7_read_61.2.2.2.2.2.2.2.1
theorem dX7_read_76 : decode cX7_read 76 = .ok (.invokestatic 138, 3) := dg_X7_read_61.2.2.2.2.2.2.2.2.1
theorem dX7_read_79 : decode cX7_read 79 = .ok (.ifCond .ne 9, 3) := dg_X7_read_61.2.2.2.2.2.2.2.2.2.1
theorem dX7_read_82 : decode cX7_read 82 = .ok (.aload_n 0, 1) := dg_X7_read_61.2.2.2.2.2.2.2.2.2.2.1
theorem dX7_read_83 : decode cX7_read 83 = .ok (.iconst 1, 1) := dg_X7_read_61.2.2.2.2.2.2.2.2.2.2.2.1
theorem dX7_read_84 : decode cX7_read 84 = .ok (.invokevirtual 130, 3) := dg_X7_read_61.2.2.2.2.2.2.2.2.2.2.2.2.1
theorem dX7_read_87 : decode cX7_read 87 = .ok (.lreturn, 1) := dg_X7_read_61.2.2.2.2.2.2.2.2.2.2.2.2.2.1
theorem dX7_read_88 : decode cX7_read 88 = .ok (.aload_n 0, 1) := dg_X7_read_61.2.2.2.2.2.2.2.2.2.2.2.2.2.2.1
theorem dX7_read_89 : decode cX7_read 89 = .ok (.iconst 0, 1) := dg_X7_read_61.2.2.2.2.2.2.2.2.2.2.2.2.2.2.2
theorem dg_X7_read_90 : (decode cX7_read 90 = .ok (.putfield 56, 3)) ∧ (decode cX7_read 93 = .ok (.iload 8, 2)) ∧ (decode cX7_read 95 = .ok (.iload 6, 2)) ∧ (decode cX7_read 97 = .ok (.aload_n 0, 1)) ∧ (decode cX7_read 98 = .ok (.getfield 10, 3)) ∧ (decode cX7_read 101 = .ok (.getfield 116, 3)) ∧ (decode cX7_read 104 = .ok (.aload_n 0, 1)) ∧ (decode cX7_read 105 = .ok (.getfield 10, 3)) ∧ (decode cX7_read 108 = .ok (.iload 7, 2)) ∧ (decode cX7_read 110 = .ok (.invokevirtual 141, 3)) ∧ (decode cX7_read 113 = .ok (.laload, 1)) ∧ (decode cX7_read 114 = .ok (.invokestatic 144, 3)) ∧ (decode cX7_read 117 = .ok (.lreturn, 1)) := by decide +kernel
theorem dX7_read_90 : decode cX7_read 90 = .ok (.putfield 56, 3) := dg_X7_read_90.1
theorem dX7_read_93 : decode cX7_read 93 = .ok (.iload 8, 2) := dg_X7_read_90.2.1
theorem dX7_read_95 : decode cX7_read 95 = .ok (.iload 6, 2) := dg_X7_read_90.2.2.1
theorem dX7_read_97 : decode cX7_read 97 = .ok (.aload_n 0, 1) := dg_X7_read_90.2.2.2.1
theorem dX7_read_98 : decode cX7_read 98 = .ok (.getfield 10, 3) := dg_X7_read_90.2.2.2.2.1
theorem dX7_read_101 : decode cX7_read 101 = .ok (.getfield 116, 3) := dg_X7_read_90.2.2.2.2.2.1
theorem dX7_read_104 : decode cX7_read 104 = .ok (.aload_n 0, 1) := dg_X7_read_90.2.2.2.2.2.2.1
theorem dX7_read_105 : decode cX7_read 105 = .ok (.getfield 10, 3) := dg_X7_read_90.2.2.2.2.2.2.2.1
theorem dX7_read_108 : decode cX7_read 108 = .ok (.iload 7, 2) := dg_X7_read_90.2.2.2.2.2.2.2.2.1
theorem dX7_read_110 : decode cX7_read 110 = .ok (.invokevirtual 141, 3) := dg_X7_read_90.2.2.2.2.2.2.2.2.2.1
theorem dX7_read_113 : decode cX7_read 113 = .ok (.laload, 1) := dg_X7_read_90.2.2.2.2.2.2.2.2.2.2.1
theorem dX7_read_114 : decode cX7_read 114 = .ok (.invokestatic 144, 3) := dg_X7_read_90.2.2.2.2.2.2.2.2.2.2.2.1
theorem dX7_read_117 : decode cX7_read 117 = .ok (.lreturn, 1) := dg_X7_read_90.2.2.2.2.2.2.2.2.2.2.2.2
theorem zk_333 : Cond.methodLink RX7 134 yX6_walk ∈ zz_w := zz_in (List.mem_append_right _ (List.mem_append_right _ (List.mem_append_left _ (List.mem_of_getElem? (i := 93) (by decide +kernel))))) rfl
set_option maxRecDepth 20000 in
theorem zk_336 : Cond.code yX6_walk cX6_walk 10 (some .int) ∈ zz_w := zz_in (List.mem_append_right _ (List.mem_append_right _ (List.mem_append_left _ (List.mem_of_getElem? (i := 96) (rfl))))) rfl
theorem zk_334 : Cond.instanceMethod yX6_walk ∈ zz_w := zz_in (List.mem_append_right _ (List.mem_append_right _ (List.mem_append_left _ (List.mem_of_getElem? (i := 94) (by decide +kernel))))) rfl
theorem zk_335 : Cond.selects RX6 yX6_walk yX6_walk ∈ zz_w := zz_in (List.mem_append_right _ (List.mem_append_right _ (List.mem_append_left _ (List.mem_of_getElem? (i := 95) (by decide +kernel))))) rfl
theorem zc_X7_134 : zz_cV RX7 134 yX6_walk cX6_walk 10 (some .int) 5 := ⟨⟨zk_333, zk_336, zk_2, by decide, by decide, by decide +kernel⟩, zk_334, zk_335⟩
theorem zk_342 : Cond.methodLink RX7 141 yX6_slotOf ∈ zz_w := zz_in (List.mem_append_right _ (List.mem_append_right _ (List.mem_append_left _ (List.mem_of_getElem? (i := 102) (by decide +kernel))))) rfl
theorem zc_X7_141 : zz_cV RX7 141 yX6_slotOf cX6_slotOf 2 (some .int) 1 := ⟨⟨zk_342, zk_345, zk_2, by decide, by decide, by decide +kernel⟩, zk_343, zk_344⟩
theorem zk_346 : Cond.methodLink RX7 144 yX1_widened ∈ zz_w := zz_in (List.mem_append_right _ (List.mem_append_right _ (List.mem_append_left _ (List.mem_of_getElem? (i := 106) (by decide +kernel))))) rfl
set_option maxRecDepth 20000 in
theorem zk_348 : Cond.code yX1_widened cX1_widened 6 (some .long) ∈ zz_w := zz_in (List.mem_append_right _ (List.mem_append_right _ (List.mem_append_left _ (List.mem_of_getElem? (i := 108) (rfl))))) rfl
theorem zk_347 : Cond.static yX1_widened ∈ zz_w := zz_in (List.mem_append_right _ (List.mem_append_right _ (List.mem_append_left _ (List.mem_of_getElem? (i := 107) (by decide +kernel))))) rfl
theorem zc_X7_144 : zz_cS RX7 144 yX1_widened cX1_widened 6 (some .long) 3 := ⟨⟨zk_346, zk_348, zk_8, by decide, by decide, by decide +kernel⟩, zk_347⟩
theorem zk_329 : Cond.methodLink RX7 130 yX7_noBits ∈ zz_w := zz_in (List.mem_append_right _ (List.mem_append_right _ (List.mem_append_left _ (List.mem_of_getElem? (i := 89) (by decide +kernel))))) rfl
set_option maxRecDepth 20000 in
theorem zk_332 : Cond.code yX7_noBits cX7_noBits 2 (some .long) ∈ zz_w := zz_in (List.mem_append_right _ (List.mem_append_right _ (List.mem_append_left _ (List.mem_of_getElem? (i := 92) (rfl))))) rfl
theorem zk_331 : Cond.instanceMethod yX7_noBits ∈ zz_w := zz_in (List.mem_append_right _ (List.mem_append_right _ (List.mem_append_left _ (List.mem_of_getElem? (i := 91) (by decide +kernel))))) rfl
theorem zs_5 : Cond.selects RX7 yX7_noBits yX7_noBits ∈ zz_w := zz_in (List.mem_append_left _ (List.mem_of_getElem? (i := 5) (by decide +kernel))) rfl
theorem zc_X7_130 : zz_cV RX7 130 yX7_noBits cX7_noBits 2 (some .long) 1 := ⟨⟨zk_329, zk_332, zk_1, by decide, by decide, by decide +kernel⟩, zk_331, zs_5⟩
def fn_cx_read (na : Nat) (nu : Nat) (kdf : Nat → Int32) (dpf : Nat → Int32) (saf : Nat → Int32) (lnf : Nat → Int32) (btf : Nat → Int64) (x1 : Int32) (x2 : Int32) (x3 : Int32) (x4 : Int32) (x5 : Int32) (x6 : Int32) : Int64 := (if (fn_co_has (nI na) x1) = 0 then 0 else (if (fn_co_isKind x6) = 0 then 0 else (if 0 ≤ (sp_walk na dpf saf lnf btf 4 x1.toNatClampNeg 0 (zz_pa x2 x3 x4 x5)) then (if (fn_co_reaches (kdf x1.toNatClampNeg) x6) = 0 then 0 else (fn_co_widened (kdf x1.toNatClampNeg) x6 (btf (((saf ((sp_walk na dpf saf lnf btf 4 x1.toNatClampNeg 0 (zz_pa x2 x3 x4 x5)).toNatClampNeg / 1000)).toNatClampNeg) + ((sp_walk na dpf saf lnf btf 4 x1.toNatClampNeg 0 (zz_pa x2 x3 x4 x5)).toNatClampNeg % 1000))))) else 0)))
abbrev rm_cx_read : Room := { frames := 3, cells := 0, slots := 0, locals := 80 }
abbrev po_cx_read (g : zz_G) (h0 : Nat) (st : Nat) (mk : Nat) (lk : Nat) (ch : Nat) (ru : Nat) (mr : Nat) (kd : Nat) (dp : Nat) (cl : Nat) (sa : Nat) (ln : Nat) (bt : Nat) (pn : Nat) (bf : Nat) (md : Int32) (la : Int32) (na : Nat) (nu : Nat) (kdf : Nat → Int32) (dpf : Nat → Int32) (saf : Nat → Int32) (lnf : Nat → Int32) (btf : Nat → Int64) (x1 : Int32) (x2 : Int32) (x3 : Int32) (x4 : Int32) (x5 : Int32) (x6 : Int32) (h_S : zz_SI na nu dpf saf lnf) : Int64 → va_W → Prop := fun (r : Int64) (u : va_W) => ∃ (la2 : Int32), r = fn_cx_read na nu kdf dpf saf lnf btf x1 x2 x3 x4 x5 x6 ∧ u = [cw_k6 h0 st mk lk ch ru mr md la2, cw_k5 st (nI na) (nI nu) kd dp cl sa ln bt pn bf, cw_i g kd 60 kdf, cw_i g dp 60 dpf, cw_i g sa 60 saf, cw_i g ln 60 lnf, cw_l g bt 4000 btf]
set_option maxHeartbeats 4000000 in
set_option maxRecDepth 100000 in
theorem cx_read (g : zz_G) (h0 : Nat) (st : Nat) (mk : Nat) (lk : Nat) (ch : Nat) (ru : Nat) (mr : Nat) (kd : Nat) (dp : Nat) (cl : Nat) (sa : Nat) (ln : Nat) (bt : Nat) (pn : Nat) (bf : Nat) (md : Int32) (la : Int32) (na : Nat) (nu : Nat) (kdf : Nat → Int32) (dpf : Nat → Int32) (saf : Nat → Int32) (lnf : Nat → Int32) (btf : Nat → Int64) (x1 : Int32) (x2 : Int32) (x3 : Int32) (x4 : Int32) (x5 : Int32) (x6 : Int32) (h_S : zz_SI na nu dpf saf lnf) : zz_L g yX7_read (.code yX7_read cX7_read 9 (some .long)) rm_cx_read [.ref h0, .int x1, .int x2, .int x3, .int x4, .int x5, .int x6] [cw_k6 h0 st mk lk ch ru mr md la, cw_k5 st (nI na) (nI nu) kd dp cl sa ln bt pn bf, cw_i g kd 60 kdf, cw_i g dp 60 dpf, cw_i g sa 60 saf, cw_i g ln 60 lnf, cw_l g bt 4000 btf] (po_cx_read g h0 st mk lk ch ru mr kd dp cl sa ln bt pn bf md la na nu kdf dpf saf lnf btf x1 x2 x3 x4 x5 x6 h_S) := by
  refine zz_L.intro (own := RX7) (cc := cX7_read) (nL := 9) (by decide) rfl (Nat.le_of_ble_eq_true rfl) ?_
  intro p l e s m args below meth c A H locs ls hC hnm hs hZ hl
  obtain ⟨hx, hb, hml, hown, hts, hr, hlocks, hK⟩ := id hC
  have hl : lv_has ls 9 [(0, .ref h0), (1, .int x1), (2, .int x2), (3, .int x3), (4, .int x4), (5, .int x5), (6, .int x6)] := hl
  have hZ : zz_Z g A s.heap [cw_k6 h0 st mk lk ch ru mr md la, cw_k5 st (nI na) (nI nu) kd dp cl sa ln bt pn bf, cw_i g kd 60 kdf, cw_i g dp 60 dpf, cw_i g sa 60 saf, cw_i g ln 60 lnf, cw_l g bt 4000 btf] H locs := hZ
  have hna := h_S.1
  have hnu := h_S.2.1
  refine lv_aload_n hx hb dX7_read_0 rfl (lv_at hl 0 rfl) ?_
  refine zz_get hC hZ 0 rfl zf_X7_10 rfl dX7_read_1 ?_
  refine lv_iload_n hx hb dX7_read_4 rfl (lv_at hl 1 rfl) ?_
  refine zz_iV (As := [.int x1]) (wc := [cw_k5 st (nI na) (nI nu) kd dp cl sa ln bt pn bf]) (wr := [cw_k6 h0 st mk lk ch ru mr md la, cw_i g kd 60 kdf, cw_i g dp 60 dpf, cw_i g sa 60 saf, cw_i g ln 60 lnf, cw_l g bt 4000 btf]) (rest := []) hC hZ hs hl zc_X7_73 (co_has g st kd dp cl sa ln bt pn bf (nI na) (nI nu) x1) [1] [0, 2, 3, 4, 5, 6] rfl rfl (by decide +kernel) (ci := 5) (q0 := 0) rfl rfl rfl rfl (Nat.le_of_ble_eq_true rfl) ⟨⟨Nat.le_of_ble_eq_true rfl, Nat.le_of_ble_eq_true rfl⟩, Nat.le_of_ble_eq_true rfl, Nat.le_of_ble_eq_true rfl⟩ dX7_read_5 (fun r1 u2 H locs hp hZ => ?_)
  obtain ⟨rfl, rfl⟩ := hp
  have hZ : zz_Z g A s.heap [cw_k6 h0 st mk lk ch ru mr md la, cw_i g kd 60 kdf, cw_i g dp 60 dpf, cw_i g sa 60 saf, cw_i g ln 60 lnf, cw_l g bt 4000 btf, cw_k5 st (nI na) (nI nu) kd dp cl sa ln bt pn bf] H locs := hZ
  refine lv_if_ne (tgt := 17) hx hb dX7_read_8 (by decide) (fun c3 => ?_) (fun c3 => ?_)
  · obtain ⟨a1, ha1, ea1⟩ := zl_has (by omega) c3
    have hl : lv_has ls 9 [(0, .ref h0), (1, .int (nI a1)), (2, .int x2), (3, .int x3), (4, .int x4), (5, .int x5), (6, .int x6)] := by rw [← ea1]; exact hl
    have bd4 : a1 < 2 ^ 31 := by omega
    have d_a1 : x1.toNatClampNeg = a1 := by rw [ea1]; exact nI_clamp bd4
    obtain ⟨sz1, lz1, dz1, es1, el1, ed1, g11, g21, g31, g41⟩ := h_S.2.2 a1 ha1
    have bd5 : sz1 < 2 ^ 31 := by omega
    have d_sz1 : (saf a1).toNatClampNeg = sz1 := by rw [es1]; exact nI_clamp bd5
    have bd6 : lz1 < 2 ^ 31 := by omega
    have d_lz1 : (lnf a1).toNatClampNeg = lz1 := by rw [el1]; exact nI_clamp bd6
    have bd7 : dz1 < 2 ^ 31 := by omega
    have d_dz1 : (dpf a1).toNatClampNeg = dz1 := by rw [ed1]; exact nI_clamp bd7
    refine lv_iload hx hb dX7_read_17 (lv_at hl 6 rfl) ?_
    refine zz_iS (As := [.int x6]) (wc := []) (wr := [cw_k6 h0 st mk lk ch ru mr md la, cw_i g kd 60 kdf, cw_i g dp 60 dpf, cw_i g sa 60 saf, cw_i g ln 60 lnf, cw_l g bt 4000 btf, cw_k5 st (nI na) (nI nu) kd dp cl sa ln bt pn bf]) (rest := []) hC hZ hs hl zc_X7_59 (co_isKind g x6) [] [0, 1, 2, 3, 4, 5, 6] rfl rfl (by decide +kernel) rfl rfl (Nat.le_of_ble_eq_true rfl) ⟨⟨Nat.le_of_ble_eq_true rfl, Nat.le_of_ble_eq_true rfl⟩, Nat.le_of_ble_eq_true rfl, Nat.le_of_ble_eq_true rfl⟩ dX7_read_19 (fun r8 u9 H locs hp hZ => ?_)
    obtain ⟨rfl, rfl⟩ := hp
    have hZ : zz_Z g A s.heap [cw_k6 h0 st mk lk ch ru mr md la, cw_i g kd 60 kdf, cw_i g dp 60 dpf, cw_i g sa 60 saf, cw_i g ln 60 lnf, cw_l g bt 4000 btf, cw_k5 st (nI na) (nI nu) kd dp cl sa ln bt pn bf] H locs := hZ
    refine lv_if_ne (tgt := 32) hx hb dX7_read_22 (by decide) (fun c10 => ?_) (fun c10 => ?_)
    · refine lv_aload_n hx hb dX7_read_32 rfl (lv_at hl 0 rfl) ?_
      refine zz_get hC hZ 0 rfl zf_X7_10 rfl dX7_read_33 ?_
      refine lv_iload_n hx hb dX7_read_36 rfl (lv_at hl 1 rfl) ?_
      refine lv_iload_n hx hb dX7_read_37 rfl (lv_at hl 2 rfl) ?_
      refine lv_iload_n hx hb dX7_read_38 rfl (lv_at hl 3 rfl) ?_
      refine lv_iload hx hb dX7_read_39 (lv_at hl 4 rfl) ?_
      refine lv_iload hx hb dX7_read_41 (lv_at hl 5 rfl) ?_
      refine zz_iV (As := [.int (nI a1), .int x2, .int x3, .int x4, .int x5]) (wc := [cw_k5 st (nI na) (nI nu) kd dp cl sa ln bt pn bf, cw_i g dp 60 dpf, cw_i g sa 60 saf, cw_i g ln 60 lnf, cw_l g bt 4000 btf]) (wr := [cw_k6 h0 st mk lk ch ru mr md la, cw_i g kd 60 kdf]) (rest := []) hC hZ hs hl zc_X7_134 (co_walk g st kd dp cl sa ln bt pn bf na nu dpf saf lnf btf a1 x2 x3 x4 x5 (h_S) (by omega)) [6, 2, 3, 4, 5] [0, 1] rfl rfl (by decide +kernel) (ci := 5) (q0 := 0) rfl rfl rfl rfl (Nat.le_of_ble_eq_true rfl) ⟨⟨Nat.le_of_ble_eq_true rfl, Nat.le_of_ble_eq_true rfl⟩, Nat.le_of_ble_eq_true rfl, Nat.le_of_ble_eq_true rfl⟩ dX7_read_43 (fun r11 u12 H locs hp hZ => ?_)
      obtain ⟨f13, f14, rfl⟩ := hp
      have hZ : zz_Z g A s.heap [cw_k6 h0 st mk lk ch ru mr md la, cw_i g kd 60 kdf, cw_k5 st (nI na) (nI nu) kd dp cl sa ln bt pn bf, cw_i g dp 60 dpf, cw_i g sa 60 saf, cw_i g ln 60 lnf, cw_l g bt 4000 btf] H locs := hZ
      have d_r11 : sp_walk na dpf saf lnf btf 4 a1 0 (zz_pa x2 x3 x4 x5) = r11 := f14.symm
      refine lv_istore (lv' := [(7, .int r11), (0, .ref h0), (1, .int (nI a1)), (2, .int x2), (3, .int x3), (4, .int x4), (5, .int x5), (6, .int x6)]) hx hb dX7_read_46 hl (by decide) rfl (fun ls hl => ?_)
      refine lv_iload hx hb dX7_read_48 (lv_at hl 0 rfl) ?_
      refine lv_if_ge (tgt := 61) hx hb dX7_read_50 (by decide) (fun c15 => ?_) (fun c15 => ?_)
      · obtain ⟨bw, qw, lzw0, ew, hbw, elw0, hqw0, hlw0, edw0⟩ := zl_WR f13 (zl_ge0 c15)
        have hl : lv_has ls 9 [(7, .int (nI (1000 * bw + qw))), (0, .ref h0), (1, .int (nI a1)), (2, .int x2), (3, .int x3), (4, .int x4), (5, .int x5), (6, .int x6)] := by rw [← ew]; exact hl
        obtain ⟨szw, lzw, dzw, esw, elw, edw, g1w, g2w, g3w, g4w⟩ := h_S.2.2 bw hbw
        have hqw : qw < lzw := by have := zl_lz rfl elw0 elw (by omega) (by omega); omega
        have d_bw : r11.toNatClampNeg / 1000 = bw := by rw [ew, nI_clamp (by omega)]; omega
        have d_qw : r11.toNatClampNeg % 1000 = qw := by rw [ew, nI_clamp (by omega)]; omega
        have bd16 : szw < 2 ^ 31 := by omega
        have d_szw : (saf bw).toNatClampNeg = szw := by rw [esw]; exact nI_clamp bd16
        have bd17 : lzw < 2 ^ 31 := by omega
        have d_lzw : (lnf bw).toNatClampNeg = lzw := by rw [elw]; exact nI_clamp bd17
        have bd18 : dzw < 2 ^ 31 := by omega
        have d_dzw : (dpf bw).toNatClampNeg = dzw := by rw [edw]; exact nI_clamp bd18
        refine lv_aload_n hx hb dX7_read_61 rfl (lv_at hl 1 rfl) ?_
        refine zz_get hC hZ 0 rfl zf_X7_10 rfl dX7_read_62 ?_
        refine zz_get hC hZ 2 rfl zf_X7_80 rfl dX7_read_65 ?_
        refine lv_iload_n hx hb dX7_read_68 rfl (lv_at hl 2 rfl) ?_
        have bd19 : a1 < 60 := by omega
        refine zz_ialdn hC hZ 1 rfl bd19 (by decide) dX7_read_69 ?_
        refine lv_istore (lv' := [(8, .int (kdf a1)), (7, .int (nI (1000 * bw + qw))), (0, .ref h0), (1, .int (nI a1)), (2, .int x2), (3, .int x3), (4, .int x4), (5, .int x5), (6, .int x6)]) hx hb dX7_read_70 hl (by decide) rfl (fun ls hl => ?_)
        refine lv_iload hx hb dX7_read_72 (lv_at hl 0 rfl) ?_
        refine lv_iload hx hb dX7_read_74 (lv_at hl 8 rfl) ?_
        refine zz_iS (As := [.int (kdf a1), .int x6]) (wc := []) (wr := [cw_k6 h0 st mk lk ch ru mr md la, cw_i g kd 60 kdf, cw_k5 st (nI na) (nI nu) kd dp cl sa ln bt pn bf, cw_i g dp 60 dpf, cw_i g sa 60 saf, cw_i g ln 60 lnf, cw_l g bt 4000 btf]) (rest := []) hC hZ hs hl zc_X7_138 (co_reaches g (kdf a1) x6) [] [0, 1, 2, 3, 4, 5, 6] rfl rfl (by decide +kernel) rfl rfl (Nat.le_of_ble_eq_true rfl) ⟨⟨Nat.le_of_ble_eq_true rfl, Nat.le_of_ble_eq_true rfl⟩, Nat.le_of_ble_eq_true rfl, Nat.le_of_ble_eq_true rfl⟩ dX7_read_76 (fun r20 u21 H locs hp hZ => ?_)
        obtain ⟨rfl, rfl⟩ := hp
        have hZ : zz_Z g A s.heap [cw_k6 h0 st mk lk ch ru mr md la, cw_i g kd 60 kdf, cw_k5 st (nI na) (nI nu) kd dp cl sa ln bt pn bf, cw_i g dp 60 dpf, cw_i g sa 60 saf, cw_i g ln 60 lnf, cw_l g bt 4000 btf] H locs := hZ
        refine lv_if_ne (tgt := 88) hx hb dX7_read_79 (by decide) (fun c22 => ?_) (fun c22 => ?_)
        · refine lv_aload_n hx hb dX7_read_88 rfl (lv_at hl 2 rfl) ?_
          refine lv_iconst (v := 0) hx hb dX7_read_89 (by decide) ?_
          refine zz_put hC hZ 0 rfl zu_X7_56 (Nat.le_of_ble_eq_true rfl) dX7_read_90 (fun H locs hZ => ?_)
          have hZ : zz_Z g A s.heap [cw_k6 h0 st mk lk ch ru mr md 0, cw_i g kd 60 kdf, cw_k5 st (nI na) (nI nu) kd dp cl sa ln bt pn bf, cw_i g dp 60 dpf, cw_i g sa 60 saf, cw_i g ln 60 lnf, cw_l g bt 4000 btf] H locs := hZ
          refine lv_iload hx hb dX7_read_93 (lv_at hl 0 rfl) ?_
          refine lv_iload hx hb dX7_read_95 (lv_at hl 8 rfl) ?_
          refine lv_aload_n hx hb dX7_read_97 rfl (lv_at hl 2 rfl) ?_
          refine zz_get hC hZ 0 rfl zf_X7_10 rfl dX7_read_98 ?_
          refine zz_get hC hZ 2 rfl zf_X7_116 rfl dX7_read_101 ?_
          refine lv_aload_n hx hb dX7_read_104 rfl (lv_at hl 2 rfl) ?_
          refine zz_get hC hZ 0 rfl zf_X7_10 rfl dX7_read_105 ?_
          refine lv_iload hx hb dX7_read_108 (lv_at hl 1 rfl) ?_
          refine zz_iV (As := [.int (nI (1000 * bw + qw))]) (wc := [cw_k5 st (nI na) (nI nu) kd dp cl sa ln bt pn bf, cw_i g sa 60 saf]) (wr := [cw_k6 h0 st mk lk ch ru mr md 0, cw_i g kd 60 kdf, cw_i g dp 60 dpf, cw_i g ln 60 lnf, cw_l g bt 4000 btf]) (rest := [.ref bt, .int x6, .int (kdf a1)]) hC hZ hs hl zc_X7_141 (co_slotOf g st kd dp cl sa ln bt pn bf na nu saf bw qw szw (by omega) (esw)) [2, 4] [0, 1, 3, 5, 6] rfl rfl (by decide +kernel) (ci := 5) (q0 := 0) rfl rfl rfl rfl (Nat.le_of_ble_eq_true rfl) ⟨⟨Nat.le_of_ble_eq_true rfl, Nat.le_of_ble_eq_true rfl⟩, Nat.le_of_ble_eq_true rfl, Nat.le_of_ble_eq_true rfl⟩ dX7_read_110 (fun r23 u24 H locs hp hZ => ?_)
          obtain ⟨rfl, rfl⟩ := hp
          have hZ : zz_Z g A s.heap [cw_k6 h0 st mk lk ch ru mr md 0, cw_i g kd 60 kdf, cw_i g dp 60 dpf, cw_i g ln 60 lnf, cw_l g bt 4000 btf, cw_k5 st (nI na) (nI nu) kd dp cl sa ln bt pn bf, cw_i g sa 60 saf] H locs := hZ
          have bd25 : (szw + qw) < 4000 := by omega
          refine zz_laldn hC hZ 4 rfl bd25 (by decide) dX7_read_113 ?_
          refine zz_lS (As := [.int (kdf a1), .int x6, .long (btf (szw + qw))]) (wc := []) (wr := [cw_k6 h0 st mk lk ch ru mr md 0, cw_i g kd 60 kdf, cw_i g dp 60 dpf, cw_i g ln 60 lnf, cw_l g bt 4000 btf, cw_k5 st (nI na) (nI nu) kd dp cl sa ln bt pn bf, cw_i g sa 60 saf]) (rest := []) hC hZ hs hl zc_X7_144 (co_widened g (kdf a1) x6 (btf (szw + qw))) [] [0, 1, 2, 3, 4, 5, 6] rfl rfl (by decide +kernel) rfl rfl (Nat.le_of_ble_eq_true rfl) ⟨⟨Nat.le_of_ble_eq_true rfl, Nat.le_of_ble_eq_true rfl⟩, Nat.le_of_ble_eq_true rfl, Nat.le_of_ble_eq_true rfl⟩ dX7_read_114 (fun r26 u27 H locs hp hZ => ?_)
          obtain ⟨rfl, rfl⟩ := hp
          have hZ : zz_Z g A s.heap [cw_k6 h0 st mk lk ch ru mr md 0, cw_i g kd 60 kdf, cw_i g dp 60 dpf, cw_i g ln 60 lnf, cw_l g bt 4000 btf, cw_k5 st (nI na) (nI nu) kd dp cl sa ln bt pn bf, cw_i g sa 60 saf] H locs := hZ
          have hZ : zz_Z g A s.heap [cw_k6 h0 st mk lk ch ru mr md 0, cw_k5 st (nI na) (nI nu) kd dp cl sa ln bt pn bf, cw_i g kd 60 kdf, cw_i g dp 60 dpf, cw_i g sa 60 saf, cw_i g ln 60 lnf, cw_l g bt 4000 btf] H locs := hZ.sub [0, 5, 1, 2, 6, 3, 4] (by decide +kernel) rfl
          exact zz_lret hC hZ (⟨0, by refine Eq.symm ?_; rw [fn_cx_read]; refine (if_neg (by (try simp only [d_a1, d_sz1, d_lz1, d_dz1, d_r11, d_bw, d_qw, d_szw, d_lzw, d_dzw]); exact c3)).trans ?_; refine (if_neg (by (try simp only [d_a1, d_sz1, d_lz1, d_dz1, d_r11, d_bw, d_qw, d_szw, d_lzw, d_dzw]); exact c10)).trans ?_; refine (if_pos (by (try simp only [d_a1, d_sz1, d_lz1, d_dz1, d_r11, d_bw, d_qw, d_szw, d_lzw, d_dzw]); exact c15)).trans ?_; refine (if_neg (by (try simp only [d_a1, d_sz1, d_lz1, d_dz1, d_r11, d_bw, d_qw, d_szw, d_lzw, d_dzw]); exact c22)).trans ?_; first | (simp only [d_a1, d_sz1, d_lz1, d_dz1, d_r11, d_bw, d_qw, d_szw, d_lzw, d_dzw]; done) | rfl, rfl⟩) (Nat.le_of_ble_eq_true rfl) (Nat.le_of_ble_eq_true rfl) dX7_read_117
        · refine lv_aload_n hx hb dX7_read_82 rfl (lv_at hl 2 rfl) ?_
          refine lv_iconst (v := 1) hx hb dX7_read_83 (by decide) ?_
          refine zz_lV (As := [.int 1]) (wc := [cw_k6 h0 st mk lk ch ru mr md la]) (wr := [cw_i g kd 60 kdf, cw_k5 st (nI na) (nI nu) kd dp cl sa ln bt pn bf, cw_i g dp 60 dpf, cw_i g sa 60 saf, cw_i g ln 60 lnf, cw_l g bt 4000 btf]) (rest := []) hC hZ hs hl zc_X7_130 (co_noBits g h0 st mk lk ch ru mr md la 1) [0] [1, 2, 3, 4, 5, 6] rfl rfl (by decide +kernel) (ci := 6) (q0 := 0) rfl rfl rfl rfl (Nat.le_of_ble_eq_true rfl) ⟨⟨Nat.le_of_ble_eq_true rfl, Nat.le_of_ble_eq_true rfl⟩, Nat.le_of_ble_eq_true rfl, Nat.le_of_ble_eq_true rfl⟩ dX7_read_84 (fun r28 u29 H locs hp hZ => ?_)
          obtain ⟨rfl, rfl⟩ := hp
          have hZ : zz_Z g A s.heap [cw_i g kd 60 kdf, cw_k5 st (nI na) (nI nu) kd dp cl sa ln bt pn bf, cw_i g dp 60 dpf, cw_i g sa 60 saf, cw_i g ln 60 lnf, cw_l g bt 4000 btf, cw_k6 h0 st mk lk ch ru mr md 1] H locs := hZ
          have hZ : zz_Z g A s.heap [cw_k6 h0 st mk lk ch ru mr md 1, cw_k5 st (nI na) (nI nu) kd dp cl sa ln bt pn bf, cw_i g kd 60 kdf, cw_i g dp 60 dpf, cw_i g sa 60 saf, cw_i g ln 60 lnf, cw_l g bt 4000 btf] H locs := hZ.sub [6, 1, 0, 2, 3, 4, 5] (by decide +kernel) rfl
          exact zz_lret hC hZ (⟨1, by refine Eq.symm ?_; rw [fn_cx_read]; refine (if_neg (by (try simp only [d_a1, d_sz1, d_lz1, d_dz1, d_r11, d_bw, d_qw, d_szw, d_lzw, d_dzw]); exact c3)).trans ?_; refine (if_neg (by (try simp only [d_a1, d_sz1, d_lz1, d_dz1, d_r11, d_bw, d_qw, d_szw, d_lzw, d_dzw]); exact c10)).trans ?_; refine (if_pos (by (try simp only [d_a1, d_sz1, d_lz1, d_dz1, d_r11, d_bw, d_qw, d_szw, d_lzw, d_dzw]); exact c15)).trans ?_; refine (if_pos (by (try simp only [d_a1, d_sz1, d_lz1, d_dz1, d_r11, d_bw, d_qw, d_szw, d_lzw, d_dzw]); exact c22)).trans ?_; first | (simp only [d_a1, d_sz1, d_lz1, d_dz1, d_r11, d_bw, d_qw, d_szw, d_lzw, d_dzw]; done) | rfl, rfl⟩) (Nat.le_of_ble_eq_true rfl) (Nat.le_of_ble_eq_true rfl) dX7_read_87
      · refine lv_aload_n hx hb dX7_read_53 rfl (lv_at hl 1 rfl) ?_
        refine lv_iload hx hb dX7_read_54 (lv_at hl 0 rfl) ?_
        refine lv_ineg hx hb dX7_read_56 ?_
        refine zz_lV (As := [.int (-r11)]) (wc := [cw_k6 h0 st mk lk ch ru mr md la]) (wr := [cw_i g kd 60 kdf, cw_k5 st (nI na) (nI nu) kd dp cl sa ln bt pn bf, cw_i g dp 60 dpf, cw_i g sa 60 saf, cw_i g ln 60 lnf, cw_l g bt 4000 btf]) (rest := []) hC hZ hs hl zc_X7_130 (co_noBits g h0 st mk lk ch ru mr md la (-r11)) [0] [1, 2, 3, 4, 5, 6] rfl rfl (by decide +kernel) (ci := 6) (q0 := 0) rfl rfl rfl rfl (Nat.le_of_ble_eq_true rfl) ⟨⟨Nat.le_of_ble_eq_true rfl, Nat.le_of_ble_eq_true rfl⟩, Nat.le_of_ble_eq_true rfl, Nat.le_of_ble_eq_true rfl⟩ dX7_read_57 (fun r30 u31 H locs hp hZ => ?_)
        obtain ⟨rfl, rfl⟩ := hp
        have hZ : zz_Z g A s.heap [cw_i g kd 60 kdf, cw_k5 st (nI na) (nI nu) kd dp cl sa ln bt pn bf, cw_i g dp 60 dpf, cw_i g sa 60 saf, cw_i g ln 60 lnf, cw_l g bt 4000 btf, cw_k6 h0 st mk lk ch ru mr md (-r11)] H locs := hZ
        have hZ : zz_Z g A s.heap [cw_k6 h0 st mk lk ch ru mr md (-r11), cw_k5 st (nI na) (nI nu) kd dp cl sa ln bt pn bf, cw_i g kd 60 kdf, cw_i g dp 60 dpf, cw_i g sa 60 saf, cw_i g ln 60 lnf, cw_l g bt 4000 btf] H locs := hZ.sub [6, 1, 0, 2, 3, 4, 5] (by decide +kernel) rfl
        exact zz_lret hC hZ (⟨(-r11), by refine Eq.symm ?_; rw [fn_cx_read]; refine (if_neg (by (try simp only [d_a1, d_sz1, d_lz1, d_dz1, d_r11]); exact c3)).trans ?_; refine (if_neg (by (try simp only [d_a1, d_sz1, d_lz1, d_dz1, d_r11]); exact c10)).trans ?_; refine (if_neg (by (try simp only [d_a1, d_sz1, d_lz1, d_dz1, d_r11]); exact c15)).trans ?_; first | (simp only [d_a1, d_sz1, d_lz1, d_dz1, d_r11]; done) | rfl, rfl⟩) (Nat.le_of_ble_eq_true rfl) (Nat.le_of_ble_eq_true rfl) dX7_read_60
    · refine lv_aload_n hx hb dX7_read_25 rfl (lv_at hl 0 rfl) ?_
      refine lv_bipush (v := 9) hx hb dX7_read_26 (by decide) ?_
      refine zz_lV (As := [.int 9]) (wc := [cw_k6 h0 st mk lk ch ru mr md la]) (wr := [cw_i g kd 60 kdf, cw_i g dp 60 dpf, cw_i g sa 60 saf, cw_i g ln 60 lnf, cw_l g bt 4000 btf, cw_k5 st (nI na) (nI nu) kd dp cl sa ln bt pn bf]) (rest := []) hC hZ hs hl zc_X7_130 (co_noBits g h0 st mk lk ch ru mr md la 9) [0] [1, 2, 3, 4, 5, 6] rfl rfl (by decide +kernel) (ci := 6) (q0 := 0) rfl rfl rfl rfl (Nat.le_of_ble_eq_true rfl) ⟨⟨Nat.le_of_ble_eq_true rfl, Nat.le_of_ble_eq_true rfl⟩, Nat.le_of_ble_eq_true rfl, Nat.le_of_ble_eq_true rfl⟩ dX7_read_28 (fun r32 u33 H locs hp hZ => ?_)
      obtain ⟨rfl, rfl⟩ := hp
      have hZ : zz_Z g A s.heap [cw_i g kd 60 kdf, cw_i g dp 60 dpf, cw_i g sa 60 saf, cw_i g ln 60 lnf, cw_l g bt 4000 btf, cw_k5 st (nI na) (nI nu) kd dp cl sa ln bt pn bf, cw_k6 h0 st mk lk ch ru mr md 9] H locs := hZ
      have hZ : zz_Z g A s.heap [cw_k6 h0 st mk lk ch ru mr md 9, cw_k5 st (nI na) (nI nu) kd dp cl sa ln bt pn bf, cw_i g kd 60 kdf, cw_i g dp 60 dpf, cw_i g sa 60 saf, cw_i g ln 60 lnf, cw_l g bt 4000 btf] H locs := hZ.sub [6, 5, 0, 1, 2, 3, 4] (by decide +kernel) rfl
      exact zz_lret hC hZ (⟨9, by refine Eq.symm ?_; rw [fn_cx_read]; refine (if_neg (by (try simp only [d_a1, d_sz1, d_lz1, d_dz1]); exact c3)).trans ?_; refine (if_pos (by (try simp only [d_a1, d_sz1, d_lz1, d_dz1]); exact c10)).trans ?_; first | (simp only [d_a1, d_sz1, d_lz1, d_dz1]; done) | rfl, rfl⟩) (Nat.le_of_ble_eq_true rfl) (Nat.le_of_ble_eq_true rfl) dX7_read_31
  · refine lv_aload_n hx hb dX7_read_11 rfl (lv_at hl 0 rfl) ?_
    refine lv_iconst (v := 5) hx hb dX7_read_12 (by decide) ?_
    refine zz_lV (As := [.int 5]) (wc := [cw_k6 h0 st mk lk ch ru mr md la]) (wr := [cw_i g kd 60 kdf, cw_i g dp 60 dpf, cw_i g sa 60 saf, cw_i g ln 60 lnf, cw_l g bt 4000 btf, cw_k5 st (nI na) (nI nu) kd dp cl sa ln bt pn bf]) (rest := []) hC hZ hs hl zc_X7_130 (co_noBits g h0 st mk lk ch ru mr md la 5) [0] [1, 2, 3, 4, 5, 6] rfl rfl (by decide +kernel) (ci := 6) (q0 := 0) rfl rfl rfl rfl (Nat.le_of_ble_eq_true rfl) ⟨⟨Nat.le_of_ble_eq_true rfl, Nat.le_of_ble_eq_true rfl⟩, Nat.le_of_ble_eq_true rfl, Nat.le_of_ble_eq_true rfl⟩ dX7_read_13 (fun r34 u35 H locs hp hZ => ?_)
    obtain ⟨rfl, rfl⟩ := hp
    have hZ : zz_Z g A s.heap [cw_i g kd 60 kdf, cw_i g dp 60 dpf, cw_i g sa 60 saf, cw_i g ln 60 lnf, cw_l g bt 4000 btf, cw_k5 st (nI na) (nI nu) kd dp cl sa ln bt pn bf, cw_k6 h0 st mk lk ch ru mr md 5] H locs := hZ
    have hZ : zz_Z g A s.heap [cw_k6 h0 st mk lk ch ru mr md 5, cw_k5 st (nI na) (nI nu) kd dp cl sa ln bt pn bf, cw_i g kd 60 kdf, cw_i g dp 60 dpf, cw_i g sa 60 saf, cw_i g ln 60 lnf, cw_l g bt 4000 btf] H locs := hZ.sub [6, 5, 0, 1, 2, 3, 4] (by decide +kernel) rfl
    exact zz_lret hC hZ (⟨5, by show _ = _; rw [fn_cx_read]; rw [if_pos c3], rfl⟩) (Nat.le_of_ble_eq_true rfl) (Nat.le_of_ble_eq_true rfl) dX7_read_16
theorem dg_X7_write_0 : (decode cX7_write 0 = .ok (.aload_n 0, 1)) ∧ (decode cX7_write 1 = .ok (.getfield 10, 3)) ∧ (decode cX7_write 4 = .ok (.iload_n 1, 1)) ∧ (decode cX7_write 5 = .ok (.invokevirtual 73, 3)) ∧ (decode cX7_write 8 = .ok (.ifCond .ne 9, 3)) ∧ (decode cX7_write 11 = .ok (.aload_n 0, 1)) ∧ (decode cX7_write 12 = .ok (.iconst 5, 1)) ∧ (decode cX7_write 13 = .ok (.invokevirtual 65, 3)) ∧ (decode cX7_write 16 = .ok (.ireturn, 1)) ∧ (decode cX7_write 17 = .ok (.iload 6, 2)) ∧ (decode cX7_write 19 = .ok (.lload 7, 2)) ∧ (decode cX7_write 21 = .ok (.invokestatic 148, 3)) ∧ (decode cX7_write 24 = .ok (.ifCond .ne 10, 3)) ∧ (decode cX7_write 27 = .ok (.aload_n 0, 1)) ∧ (decode cX7_write 28 = .ok (.bipush 9, 2)) ∧ (decode cX7_write 30 = .ok (.invokevirtual 65, 3)) := by decide +kernel
theorem dX7_write_0 : decode cX7_write 0 = .ok (.aload_n 0, 1) := dg_X7_write_0.1
theorem dX7_write_1 : decode cX7_write 1 = .ok (.getfield 10, 3) := dg_X7_write_0.2.1
theorem dX7_write_4 : decode cX7_write 4 = .ok (.iload_n 1, 1) := dg_X7_write_0.2.2.1
theorem dX7_write_5 : decode cX7_write 5 = .ok (.invokevirtual 73, 3) := dg_X7_write_0.2.2.2.1
theorem dX7_write_8 : decode cX7_write 8 = .ok (.ifCond .ne 9, 3) := dg_X7_write_0.2.2.2.2.1
theorem dX7_write_11 : decode cX7_write 11 = .ok (.aload_n 0, 1) := dg_X7_write_0.2.2.2.2.2.1
theorem dX7_write_12 : decode cX7_write 12 = .ok (.iconst 5, 1) := dg_X7_write_0.2.2.2.2.2.2.1
theorem dX7_write_13 : decode cX7_write 13 = .ok (.invokevirtual 65, 3) := dg_X7_write_0.2.2.2.2.2.2.2.1
theorem dX7_write_16 : decode cX7_write 16 = .ok (.ireturn, 1) := dg_X7_write_0.2.2.2.2.2.2.2.2.1
theorem dX7_write_17 : decode cX7_write 17 = .ok (.iload 6, 2) := dg_X7_write_0.2.2.2.2.2.2.2.2.2.1
theorem dX7_write_19 : decode cX7_write 19 = .ok (.lload 7, 2) := dg_X7_write_0.2.2.2.2.2.2.2.2.2.2.1
theorem dX7_write_21 : decode cX7_write 21 = .ok (.invokestatic 148, 3) := dg_X7_write_0.2.2.2.2.2.2.2.2.2.2.2.1
theorem dX7_write_24 : decode cX7_write 24 = .ok (.ifCond .ne 10, 3) := dg_X7_write_0.2.2.2.2.2.2.2.2.2.2.2.2.1
theorem dX7_write_27 : decode cX7_write 27 = .ok (.aload_n 0, 1) := dg_X7_write_0.2.2.2.2.2.2.2.2.2.2.2.2.2.1
theorem dX7_write_28 : decode cX7_write 28 = .ok (.bipush 9, 2) := dg_X7_write_0.2.2.2.2.2.2.2.2.2.2.2.2.2.2.1
theorem dX7_write_30 : decode cX7_write 30 = .ok (.invokevirtual 65, 3) := dg_X7_write_0.2.2.2.2.2.2.2.2.2.2.2.2.2.2.2
theorem dg_X7_write_33 : (decode cX7_write 33 = .ok (.ireturn, 1)) ∧ (decode cX7_write 34 = .ok (.aload_n 0, 1)) ∧ (decode cX7_write 35 = .ok (.getfield 10, 3)) ∧ (decode cX7_write 38 = .ok (.iload_n 1, 1)) ∧ (decode cX7_write 39 = .ok (.iload_n 2, 1)) ∧ (decode cX7_write 40 = .ok (.iload_n 3, 1)) ∧ (decode cX7_write 41 = .ok (.iload 4, 2)) ∧ (decode cX7_write 43 = .ok (.iload 5, 2)) ∧ (decode cX7_write 45 = .ok (.invokevirtual 134, 3)) ∧ (decode cX7_write 48 = .ok (.istore 9, 2)) ∧ (decode cX7_write 50 = .ok (.iload 9, 2)) ∧ (decode cX7_write 52 = .ok (.ifCond .ge 11, 3)) ∧ (decode cX7_write 55 = .ok (.aload_n 0, 1)) ∧ (decode cX7_write 56 = .ok (.iload 9, 2)) ∧ (decode cX7_write 58 = .ok (.ineg, 1)) ∧ (decode cX7_write 59 = .ok (.invokevirtual 65, 3)) := by decide +kernel
theorem dX7_write_33 : decode cX7_write 33 = .ok (.ireturn, 1) := dg_X7_write_33.1
theorem dX7_write_34 : decode cX7_write 34 = .ok (.aload_n 0, 1) := dg_X7_write_33.2.1
theorem dX7_write_35 : decode cX7_write 35 = .ok (.getfield 10, 3) := dg_X7_write_33.2.2.1
theorem dX7_write_38 : decode cX7_write 38 = .ok (.iload_n 1, 1) := dg_X7_write_33.2.2.2.1
theorem dX7_write_39 : decode cX7_write 39 = .ok (.iload_n 2, 1) := dg_X7_write_33.2.2.2.2.1
theorem dX7_write_40 : decode cX7_write 40 = .ok (.iload_n 3, 1) := dg_X7_write_33.2.2.2.2.2.1
theorem dX7_write_41 : decode cX7_write 41 = .ok (.iload 4, 2) := dg_X7_write_33.2.2.2.2.2.2.1
theorem dX7_write_43 : decode cX7_write 43 = .ok (.iload 5, 2) := dg_X7_write_33.2.2.2.2.2.2.2.1
theorem dX7_write_45 : decode cX7_write 45 = .ok (.invokevirtual 134, 3) := dg_X7_write_33.2.2.2.2.2.2.2.2.1
theorem dX7_write_48 : decode cX7_write 48 = .ok (.istore 9, 2) := dg_X7_write_33.2.2.2.2.2.2.2.2.2.1
theorem dX7_write_50 : decode cX7_write 50 = .ok (.iload 9, 2) := dg_X7_write_33.2.2.2.2.2.2.2.2.2.2.1
theorem dX7_write_52 : decode cX7_write 52 = .ok (.ifCond .ge 11, 3) := dg_X7_write_33.2.2.2.2.2.2.2.2.2.2.2.1
theorem dX7_write_55 : decode cX7_write 55 = .ok (.aload_n 0, 1) := dg_X7_write_33.2.2.2.2.2.2.2.2.2.2.2.2.1
theorem dX7_write_56 : decode cX7_write 56 = .ok (.iload 9, 2) := dg_X7_write_33.2.2.2.2.2.2.2.2.2.2.2.2.2.1
theorem dX7_write_58 : decode cX7_write 58 = .ok (.ineg, 1) := dg_X7_write_33.2.2.2.2.2.2.2.2.2.2.2.2.2.2.1
theorem dX7_write_59 : decode cX7_write 59 = .ok (.invokevirtual 65, 3) := dg_X7_write_33.2.2.2.2.2.2.2.2.2.2.2.2.2.2.2
theorem dg_X7_write_62 : (decode cX7_write 62 = .ok (.ireturn, 1)) ∧ (decode cX7_write 63 = .ok (.aload_n 0, 1)) ∧ (decode cX7_write 64 = .ok (.getfield 10, 3)) ∧ (decode cX7_write 67 = .ok (.getfield 80, 3)) ∧ (decode cX7_write 70 = .ok (.iload_n 1, 1)) ∧ (decode cX7_write 71 = .ok (.iaload, 1)) ∧ (decode cX7_write 72 = .ok (.istore 10, 2)) ∧ (decode cX7_write 74 = .ok (.iload 6, 2)) ∧ (decode cX7_write 76 = .ok (.iload 10, 2)) ∧ (decode cX7_write 78 = .ok (.invokestatic 138, 3)) ∧ (decode cX7_write 81 = .ok (.ifCond .ne 9, 3)) ∧ (decode cX7_write 84 = .ok (.aload_n 0, 1)) ∧ (decode cX7_write 85 = .ok (.iconst 1, 1)) ∧ (decode cX7_write 86 = .ok (.invokevirtual 65, 3)) ∧ (decode cX7_write 89 = .ok (.ireturn, 1)) ∧ (decode cX7_write 90 = .ok (.aload_n 0, 1)) := by decide +kernel
theorem dX7_write_62 : decode cX7_write 62 = .ok (.ireturn, 1) := dg_X7_write_62.1
theorem dX7_write_63 : decode cX7_write 63 = .ok (.aload_n 0, 1) := dg_X7_write_62.2.1
theorem dX7_write_64 : decode cX7_write 64 = .ok (.getfield 10, 3) := dg_X7_write_62.2.2.1
theorem dX7_write_67 : decode cX7_write 67 = .ok (.getfield 80, 3) := dg_X7_write_62.2.2.2.1
theorem dX7_write_70 : decode cX7_write 70 = .ok (.iload_n 1, 1) := dg_X7_write_62.2.2.2.2.1
theorem dX7_write_71 : decode cX7_write 71 = .ok (.iaload, 1) := dg_X7_write_62.2.2.2.2.2.1
theorem dX7_write_72 : decode cX7_write 72 = .ok (.istore 10, 2) := dg_X7_write_62.2.2.2.2.2.2.1
theorem dX7_write_74 : decode cX7_write 74 = .ok (.iload 6, 2) := dg_X7_write_62.2.2.2.2.2.2.2.1
theorem dX7_write_76 : decode cX7_write 76 = .ok (.iload 10, 2) := dg_X7_write_62.2.2.2.2.2.2.2.2.1
theorem dX7_write_78 : decode cX7_write 78 = .ok (.invokestatic 138, 3) := dg_X7_write_62.2.2.2.2.2.2.2.2.2.1
theorem dX7_write_81 : decode cX7_write 81 = .ok (.ifCond .ne 9, 3) := dg_X7_write_62.2.2.2.2.2.2.2.2.2.2.1
theorem dX7_write_84 : decode cX7_write 84 = .ok (.aload_n 0, 1) := dg_X7_write_62.2.2.2.2.2.2.2.2.2.2.2.1
theorem dX7_write_85 : decode cX7_write 85 = .ok (.iconst 1, 1) := dg_X7_write_62.2.2.2.2.2.2.2.2.2.2.2.2.1
theorem dX7_write_86 : decode cX7_write 86 = .ok (.invokevirtual 65, 3) := dg_X7_write_62.2.2.2.2.2.2.2.2.2.2.2.2.2.1
theorem dX7_write_89 : decode cX7_write 89 = .ok (.ireturn, 1) := dg_X7_write_62.2.2.2.2.2.2.2.2.2.2.2.2.2.2.1
theorem dX7_write_90 : decode cX7_write 90 = .ok (.aload_n 0, 1) := dg_X7_write_62.2.2.2.2.2.2.2.2.2.2.2.2.2.2.2
theorem dg_X7_write_91 : (decode cX7_write 91 = .ok (.getfield 10, 3)) ∧ (decode cX7_write 94 = .ok (.iload 9, 2)) ∧ (decode cX7_write 96 = .ok (.invokevirtual 141, 3)) ∧ (decode cX7_write 99 = .ok (.istore 11, 2)) ∧ (decode cX7_write 101 = .ok (.aload_n 0, 1)) ∧ (decode cX7_write 102 = .ok (.getfield 10, 3)) ∧ (decode cX7_write 105 = .ok (.getfield 152, 3)) ∧ (decode cX7_write 108 = .ok (.iload 11, 2)) ∧ (decode cX7_write 110 = .ok (.baload, 1)) ∧ (decode cX7_write 111 = .ok (.ifCond .eq 10, 3)) ∧ (decode cX7_write 114 = .ok (.aload_n 0, 1)) ∧ (decode cX7_write 115 = .ok (.bipush 6, 2)) ∧ (decode cX7_write 117 = .ok (.invokevirtual 65, 3)) ∧ (decode cX7_write 120 = .ok (.ireturn, 1)) ∧ (decode cX7_write 121 = .ok (.iload 6, 2)) ∧ (decode cX7_write 123 = .ok (.iload 10, 2)) := by decide +kernel
theorem dX7_write_91 : decode cX7_write 91 = .ok (.getfield 10, 3) := dg_X7_write_91.1
theorem dX7_write_94 : decode cX7_write 94 = .ok (.iload 9, 2) := dg_X7_write_91.2.1
theorem dX7_write_96 : decode cX7_write 96 = .ok (.invokevirtual 141, 3) := dg_X7_write_91.2.2.1
theorem dX7_write_99 : decode cX7_write 99 = .ok (.istore 11, 2) := dg_X7_write_91.2.2.2.1
theorem dX7_write_101 : decode cX7_write 101 = .ok (.aload_n 0, 1) := dg_X7_write_91.2.2.2.2.1
theorem dX7_write_102 : decode cX7_write 102 = .ok (.getfield 10, 3) := dg_X7_write_91.2.2.2.2.2.1
theorem dX7_write_105 : decode cX7_write 105 = .ok (.getfield 152, 3) := dg_X7_write_91.2.2.2.2.2.2.1
theorem dX7_write_108 : decode cX7_write 108 = .ok (.iload 11, 2) := dg_X7_write_91.2.2.2.2.2.2.2.1
theorem dX7_write_110 : decode cX7_write 110 = .ok (.baload, 1) := dg_X7_write_91.2.2.2.2.2.2.2.2.1
theorem dX7_write_111 : decode cX7_write 111 = .ok (.ifCond .eq 10, 3) := dg_X7_write_91.2.2.2.2.2.2.2.2.2.1
theorem dX7_write_114 : decode cX7_write 114 = .ok (.aload_n 0, 1) := dg_X7_write_91.2.2.2.2.2.2.2.2.2.2.1
theorem dX7_write_115 : decode cX7_write 115 = .ok (.bipush 6, 2) := dg_X7_write_91.2.2.2.2.2.2.2.2.2.2.2.1
theorem dX7_write_117 : decode cX7_write 117 = .ok (.invokevirtual 65, 3) := dg_X7_write_91.2.2.2.2.2.2.2.2.2.2.2.2.1
theorem dX7_write_120 : decode cX7_write 120 = .ok (.ireturn, 1) := dg_X7_write_91.2.2.2.2.2.2.2.2.2.2.2.2.2.1
theorem dX7_write_121 : decode cX7_write 121 = .ok (.iload 6, 2) := dg_X7_write_91.2.2.2.2.2.2.2.2.2.2.2.2.2.2.1
theorem dX7_write_123 : decode cX7_write 123 = .ok (.iload 10, 2) := dg_X7_write_91.2.2.2.2.2.2.2.2.2.2.2.2.2.2.2
theorem dg_X7_write_125 : (decode cX7_write 125 = .ok (.iload 6, 2)) ∧ (decode cX7_write 127 = .ok (.lload 7, 2)) ∧ (decode cX7_write 129 = .ok (.invokestatic 156, 3)) ∧ (decode cX7_write 132 = .ok (.invokestatic 144, 3)) ∧ (decode cX7_write 135 = .ok (.lstore 12, 2)) ∧ (decode cX7_write 137 = .ok (.aload_n 0, 1)) ∧ (decode cX7_write 138 = .ok (.getfield 10, 3)) ∧ (decode cX7_write 141 = .ok (.iload_n 1, 1)) ∧ (decode cX7_write 142 = .ok (.lload 12, 2)) ∧ (decode cX7_write 144 = .ok (.invokevirtual 160, 3)) ∧ (decode cX7_write 147 = .ok (.ifCond .ne 10, 3)) ∧ (decode cX7_write 150 = .ok (.aload_n 0, 1)) ∧ (decode cX7_write 151 = .ok (.bipush 7, 2)) ∧ (decode cX7_write 153 = .ok (.invokevirtual 65, 3)) ∧ (decode cX7_write 156 = .ok (.ireturn, 1)) ∧ (decode cX7_write 157 = .ok (.aload_n 0, 1)) := by decide +kernel
theorem dX7_write_125 : decode cX7_write 125 = .ok (.iload 6, 2) := dg_X7_write_125.1
theorem dX7_write_127 : decode cX7_write 127 = .ok (.lload 7, 2) := dg_X7_write_125.2.1
theorem dX7_write_129 : decode cX7_write 129 = .ok (.invokestatic 156, 3) := dg_X7_write_125.2.2.1
theorem dX7_write_132 : decode cX7_write 132 = .ok (.invokestatic 144, 3) := dg_X7_write_125.2.2.2.1
theorem dX7_write_135 : decode cX7_write 135 = .ok (.lstore 12, 2) := dg_X7_write_125.2.2.2.2.1
theorem dX7_write_137 : decode cX7_write 137 = .ok (.aload_n 0, 1) := dg_X7_write_125.2.2.2.2.2.1
theorem dX7_write_138 : decode cX7_write 138 = .ok (.getfield 10, 3) := dg_X7_write_125.2.2.2.2.2.2.1
theorem dX7_write_141 : decode cX7_write 141 = .ok (.iload_n 1, 1) := dg_X7_write_125.2.2.2.2.2.2.2.1
theorem dX7_write_142 : decode cX7_write 142 = .ok (.lload 12, 2) := dg_X7_write_125.2.2.2.2.2.2.2.2.1
theorem dX7_write_144 : decode cX7_write 144 = .ok (.invokevirtual 160, 3) := dg_X7_write_125.2.2.2.2.2.2.2.2.2.1
theorem dX7_write_147 : decode cX7_write 147 = .ok (.ifCond .ne 10, 3) := dg_X7_write_125.2.2.2.2.2.2.2.2.2.2.1
theorem dX7_write_150 : decode cX7_write 150 = .ok (.aload_n 0, 1) := dg_X7_write_125.2.2.2.2.2.2.2.2.2.2.2.1
theorem dX7_write_151 : decode cX7_write 151 = .ok (.bipush 7, 2) := dg_X7_write_125.2.2.2.2.2.2.2.2.2.2.2.2.1
theorem dX7_write_153 : decode cX7_write 153 = .ok (.invokevirtual 65, 3) := dg_X7_write_125.2.2.2.2.2.2.2.2.2.2.2.2.2.1
theorem dX7_write_156 : decode cX7_write 156 = .ok (.ireturn, 1) := dg_X7_write_125.2.2.2.2.2.2.2.2.2.2.2.2.2.2.1
theorem dX7_write_157 : decode cX7_write 157 = .ok (.aload_n 0, 1) := dg_X7_write_125.2.2.2.2.2.2.2.2.2.2.2.2.2.2.2
theorem dg_X7_write_158 : (decode cX7_write 158 = .ok (.getfield 10, 3)) ∧ (decode cX7_write 161 = .ok (.getfield 116, 3)) ∧ (decode cX7_write 164 = .ok (.iload 11, 2)) ∧ (decode cX7_write 166 = .ok (.lload 12, 2)) ∧ (decode cX7_write 168 = .ok (.lastore, 1)) ∧ (decode cX7_write 169 = .ok (.aload_n 0, 1)) ∧ (decode cX7_write 170 = .ok (.iconst 0, 1)) ∧ (decode cX7_write 171 = .ok (.invokevirtual 100, 3)) ∧ (decode cX7_write 174 = .ok (.ireturn, 1)) := by decide +kernel
theorem dX7_write_158 : decode cX7_write 158 = .ok (.getfield 10, 3) := dg_X7_write_158.1
theorem dX7_write_161 : decode cX7_write 161 = .ok (.getfield 116, 3) := dg_X7_write_158.2.1
theorem dX7_write_164 : decode cX7_write 164 = .ok (.iload 11, 2) := dg_X7_write_158.2.2.1
theorem dX7_write_166 : decode cX7_write 166 = .ok (.lload 12, 2) := dg_X7_write_158.2.2.2.1
theorem dX7_write_168 : decode cX7_write 168 = .ok (.lastore, 1) := dg_X7_write_158.2.2.2.2.1
theorem dX7_write_169 : decode cX7_write 169 = .ok (.aload_n 0, 1) := dg_X7_write_158.2.2.2.2.2.1
theorem dX7_write_170 : decode cX7_write 170 = .ok (.iconst 0, 1) := dg_X7_write_158.2.2.2.2.2.2.1
theorem dX7_write_171 : decode cX7_write 171 = .ok (.invokevirtual 100, 3) := dg_X7_write_158.2.2.2.2.2.2.2.1
theorem dX7_write_174 : decode cX7_write 174 = .ok (.ireturn, 1) := dg_X7_write_158.2.2.2.2.2.2.2.2
theorem zk_369 : Cond.methodLink RX7 148 yX1_holds ∈ zz_w := zz_in (List.mem_append_right _ (List.mem_append_right _ (List.mem_append_left _ (List.mem_of_getElem? (i := 129) (by decide +kernel))))) rfl
set_option maxRecDepth 20000 in
theorem zk_371 : Cond.code yX1_holds cX1_holds 3 (some .boolean) ∈ zz_w := zz_in (List.mem_append_right _ (List.mem_append_right _ (List.mem_append_left _ (List.mem_of_getElem? (i := 131) (rfl))))) rfl
theorem zk_370 : Cond.static yX1_holds ∈ zz_w := zz_in (List.mem_append_right _ (List.mem_append_right _ (List.mem_append_left _ (List.mem_of_getElem? (i := 130) (by decide +kernel))))) rfl
theorem zc_X7_148 : zz_cS RX7 148 yX1_holds cX1_holds 3 (some .boolean) 2 := ⟨⟨zk_369, zk_371, zk_8, by decide, by decide, by decide +kernel⟩, zk_370⟩
theorem zk_63 : Cond.fieldLink RX7 152 RX6 "pinned" "[Z" ∈ zz_w := zz_in (List.mem_append_right _ (List.mem_append_left _ (List.mem_of_getElem? (i := 63) (by decide +kernel)))) rfl
theorem zf_X7_152 : zz_f RX7 152 5 8 := ⟨RX6, TX6, 10, rfl, zi_X6, by decide, zk_63⟩
theorem zk_377 : Cond.methodLink RX7 156 yX1_cleaned ∈ zz_w := zz_in (List.mem_append_right _ (List.mem_append_right _ (List.mem_append_left _ (List.mem_of_getElem? (i := 137) (by decide +kernel))))) rfl
set_option maxRecDepth 20000 in
theorem zk_379 : Cond.code yX1_cleaned cX1_cleaned 3 (some .long) ∈ zz_w := zz_in (List.mem_append_right _ (List.mem_append_right _ (List.mem_append_left _ (List.mem_of_getElem? (i := 139) (rfl))))) rfl
theorem zk_378 : Cond.static yX1_cleaned ∈ zz_w := zz_in (List.mem_append_right _ (List.mem_append_right _ (List.mem_append_left _ (List.mem_of_getElem? (i := 138) (by decide +kernel))))) rfl
theorem zc_X7_156 : zz_cS RX7 156 yX1_cleaned cX1_cleaned 3 (some .long) 2 := ⟨⟨zk_377, zk_379, zk_8, by decide, by decide, by decide +kernel⟩, zk_378⟩
theorem zk_387 : Cond.methodLink RX7 160 yX6_takes ∈ zz_w := zz_in (List.mem_append_right _ (List.mem_append_right _ (List.mem_append_left _ (List.mem_of_getElem? (i := 147) (by decide +kernel))))) rfl
theorem zc_X7_160 : zz_cV RX7 160 yX6_takes cX6_takes 4 (some .boolean) 2 := ⟨⟨zk_387, zk_390, zk_2, by decide, by decide, by decide +kernel⟩, zk_388, zk_389⟩
def fo_cx_write (na : Nat) (nu : Nat) (kdf : Nat → Int32) (dpf : Nat → Int32) (clf : Nat → Int32) (saf : Nat → Int32) (lnf : Nat → Int32) (btf : Nat → Int64) (pnf : Nat → Int32) (x1 : Int32) (x2 : Int32) (x3 : Int32) (x4 : Int32) (x5 : Int32) (x6 : Int32) (x7 : Int64) : (Int32) × (Nat → Int64) := (if (fn_co_has (nI na) x1) = 0 then (-5, btf) else (if (fn_co_holds x6 x7) = 0 then (-9, btf) else (if 0 ≤ (sp_walk na dpf saf lnf btf 4 x1.toNatClampNeg 0 (zz_pa x2 x3 x4 x5)) then (if (fn_co_reaches x6 (kdf x1.toNatClampNeg)) = 0 then (-1, btf) else (if (pnf (((saf ((sp_walk na dpf saf lnf btf 4 x1.toNatClampNeg 0 (zz_pa x2 x3 x4 x5)).toNatClampNeg / 1000)).toNatClampNeg) + ((sp_walk na dpf saf lnf btf 4 x1.toNatClampNeg 0 (zz_pa x2 x3 x4 x5)).toNatClampNeg % 1000))) = 0 then (if (fn_co_takes clf x1.toNatClampNeg (fn_co_widened x6 (kdf x1.toNatClampNeg) (fn_co_cleaned x6 x7))) = 0 then (-7, btf) else (0, (vp_updL btf (((saf ((sp_walk na dpf saf lnf btf 4 x1.toNatClampNeg 0 (zz_pa x2 x3 x4 x5)).toNatClampNeg / 1000)).toNatClampNeg) + ((sp_walk na dpf saf lnf btf 4 x1.toNatClampNeg 0 (zz_pa x2 x3 x4 x5)).toNatClampNeg % 1000)) (fn_co_widened x6 (kdf x1.toNatClampNeg) (fn_co_cleaned x6 x7))))) else (-6, btf))) else ((-(-(sp_walk na dpf saf lnf btf 4 x1.toNatClampNeg 0 (zz_pa x2 x3 x4 x5)))), btf))))
abbrev rm_cx_write : Room := { frames := 3, cells := 0, slots := 0, locals := 80 }
abbrev po_cx_write (g : zz_G) (h0 : Nat) (st : Nat) (mk : Nat) (lk : Nat) (ch : Nat) (ru : Nat) (mr : Nat) (kd : Nat) (dp : Nat) (cl : Nat) (sa : Nat) (ln : Nat) (bt : Nat) (pn : Nat) (bf : Nat) (md : Int32) (la : Int32) (na : Nat) (nu : Nat) (kdf : Nat → Int32) (dpf : Nat → Int32) (clf : Nat → Int32) (saf : Nat → Int32) (lnf : Nat → Int32) (btf : Nat → Int64) (pnf : Nat → Int32) (x1 : Int32) (x2 : Int32) (x3 : Int32) (x4 : Int32) (x5 : Int32) (x6 : Int32) (x7 : Int64) (h_S : zz_SI na nu dpf saf lnf) : Int32 → va_W → Prop := fun (r : Int32) (u : va_W) => ∃ (la2 : Int32) (bt2 : Nat → Int64), (r, bt2) = fo_cx_write na nu kdf dpf clf saf lnf btf pnf x1 x2 x3 x4 x5 x6 x7 ∧ (zz_D1 na dpf saf lnf btf bt2) ∧ u = [cw_k6 h0 st mk lk ch ru mr md la2, cw_k5 st (nI na) (nI nu) kd dp cl sa ln bt pn bf, cw_i g kd 60 kdf, cw_i g dp 60 dpf, cw_i g cl 60 clf, cw_i g sa 60 saf, cw_i g ln 60 lnf, cw_l g bt 4000 bt2, cw_z g pn 4000 pnf]
set_option maxHeartbeats 4000000 in
set_option maxRecDepth 100000 in
theorem cx_write (g : zz_G) (h0 : Nat) (st : Nat) (mk : Nat) (lk : Nat) (ch : Nat) (ru : Nat) (mr : Nat) (kd : Nat) (dp : Nat) (cl : Nat) (sa : Nat) (ln : Nat) (bt : Nat) (pn : Nat) (bf : Nat) (md : Int32) (la : Int32) (na : Nat) (nu : Nat) (kdf : Nat → Int32) (dpf : Nat → Int32) (clf : Nat → Int32) (saf : Nat → Int32) (lnf : Nat → Int32) (btf : Nat → Int64) (pnf : Nat → Int32) (x1 : Int32) (x2 : Int32) (x3 : Int32) (x4 : Int32) (x5 : Int32) (x6 : Int32) (x7 : Int64) (h_S : zz_SI na nu dpf saf lnf) : zz_I g yX7_write (.code yX7_write cX7_write 14 (some .int)) rm_cx_write [.ref h0, .int x1, .int x2, .int x3, .int x4, .int x5, .int x6, .long x7] [cw_k6 h0 st mk lk ch ru mr md la, cw_k5 st (nI na) (nI nu) kd dp cl sa ln bt pn bf, cw_i g kd 60 kdf, cw_i g dp 60 dpf, cw_i g cl 60 clf, cw_i g sa 60 saf, cw_i g ln 60 lnf, cw_l g bt 4000 btf, cw_z g pn 4000 pnf] (po_cx_write g h0 st mk lk ch ru mr kd dp cl sa ln bt pn bf md la na nu kdf dpf clf saf lnf btf pnf x1 x2 x3 x4 x5 x6 x7 h_S) := by
  refine zz_I.intro (own := RX7) (cc := cX7_write) (nL := 14) (by decide) rfl (Nat.le_of_ble_eq_true rfl) ?_
  intro p l e s m args below meth c A H locs ls hC hnm hs hZ hl
  obtain ⟨hx, hb, hml, hown, hts, hr, hlocks, hK⟩ := id hC
  have hl : lv_has ls 14 [(0, .ref h0), (1, .int x1), (2, .int x2), (3, .int x3), (4, .int x4), (5, .int x5), (6, .int x6), (7, .long x7)] := hl
  have hZ : zz_Z g A s.heap [cw_k6 h0 st mk lk ch ru mr md la, cw_k5 st (nI na) (nI nu) kd dp cl sa ln bt pn bf, cw_i g kd 60 kdf, cw_i g dp 60 dpf, cw_i g cl 60 clf, cw_i g sa 60 saf, cw_i g ln 60 lnf, cw_l g bt 4000 btf, cw_z g pn 4000 pnf] H locs := hZ
  have hna := h_S.1
  have hnu := h_S.2.1
  refine lv_aload_n hx hb dX7_write_0 rfl (lv_at hl 0 rfl) ?_
  refine zz_get hC hZ 0 rfl zf_X7_10 rfl dX7_write_1 ?_
  refine lv_iload_n hx hb dX7_write_4 rfl (lv_at hl 1 rfl) ?_
  refine zz_iV (As := [.int x1]) (wc := [cw_k5 st (nI na) (nI nu) kd dp cl sa ln bt pn bf]) (wr := [cw_k6 h0 st mk lk ch ru mr md la, cw_i g kd 60 kdf, cw_i g dp 60 dpf, cw_i g cl 60 clf, cw_i g sa 60 saf, cw_i g ln 60 lnf, cw_l g bt 4000 btf, cw_z g pn 4000 pnf]) (rest := []) hC hZ hs hl zc_X7_73 (co_has g st kd dp cl sa ln bt pn bf (nI na) (nI nu) x1) [1] [0, 2, 3, 4, 5, 6, 7, 8] rfl rfl (by decide +kernel) (ci := 5) (q0 := 0) rfl rfl rfl rfl (Nat.le_of_ble_eq_true rfl) ⟨⟨Nat.le_of_ble_eq_true rfl, Nat.le_of_ble_eq_true rfl⟩, Nat.le_of_ble_eq_true rfl, Nat.le_of_ble_eq_true rfl⟩ dX7_write_5 (fun r1 u2 H locs hp hZ => ?_)
  obtain ⟨rfl, rfl⟩ := hp
  have hZ : zz_Z g A s.heap [cw_k6 h0 st mk lk ch ru mr md la, cw_i g kd 60 kdf, cw_i g dp 60 dpf, cw_i g cl 60 clf, cw_i g sa 60 saf, cw_i g ln 60 lnf, cw_l g bt 4000 btf, cw_z g pn 4000 pnf, cw_k5 st (nI na) (nI nu) kd dp cl sa ln bt pn bf] H locs := hZ
  refine lv_if_ne (tgt := 17) hx hb dX7_write_8 (by decide) (fun c3 => ?_) (fun c3 => ?_)
  · obtain ⟨a1, ha1, ea1⟩ := zl_has (by omega) c3
    have hl : lv_has ls 14 [(0, .ref h0), (1, .int (nI a1)), (2, .int x2), (3, .int x3), (4, .int x4), (5, .int x5), (6, .int x6), (7, .long x7)] := by rw [← ea1]; exact hl
    have bd4 : a1 < 2 ^ 31 := by omega
    have d_a1 : x1.toNatClampNeg = a1 := by rw [ea1]; exact nI_clamp bd4
    obtain ⟨sz1, lz1, dz1, es1, el1, ed1, g11, g21, g31, g41⟩ := h_S.2.2 a1 ha1
    have bd5 : sz1 < 2 ^ 31 := by omega
    have d_sz1 : (saf a1).toNatClampNeg = sz1 := by rw [es1]; exact nI_clamp bd5
    have bd6 : lz1 < 2 ^ 31 := by omega
    have d_lz1 : (lnf a1).toNatClampNeg = lz1 := by rw [el1]; exact nI_clamp bd6
    have bd7 : dz1 < 2 ^ 31 := by omega
    have d_dz1 : (dpf a1).toNatClampNeg = dz1 := by rw [ed1]; exact nI_clamp bd7
    refine lv_iload hx hb dX7_write_17 (lv_at hl 6 rfl) ?_
    refine lv_lload hx hb dX7_write_19 (lv_at hl 7 rfl) ?_
    refine zz_iS (As := [.int x6, .long x7]) (wc := []) (wr := [cw_k6 h0 st mk lk ch ru mr md la, cw_i g kd 60 kdf, cw_i g dp 60 dpf, cw_i g cl 60 clf, cw_i g sa 60 saf, cw_i g ln 60 lnf, cw_l g bt 4000 btf, cw_z g pn 4000 pnf, cw_k5 st (nI na) (nI nu) kd dp cl sa ln bt pn bf]) (rest := []) hC hZ hs hl zc_X7_148 (co_holds g x6 x7) [] [0, 1, 2, 3, 4, 5, 6, 7, 8] rfl rfl (by decide +kernel) rfl rfl (Nat.le_of_ble_eq_true rfl) ⟨⟨Nat.le_of_ble_eq_true rfl, Nat.le_of_ble_eq_true rfl⟩, Nat.le_of_ble_eq_true rfl, Nat.le_of_ble_eq_true rfl⟩ dX7_write_21 (fun r8 u9 H locs hp hZ => ?_)
    obtain ⟨rfl, rfl⟩ := hp
    have hZ : zz_Z g A s.heap [cw_k6 h0 st mk lk ch ru mr md la, cw_i g kd 60 kdf, cw_i g dp 60 dpf, cw_i g cl 60 clf, cw_i g sa 60 saf, cw_i g ln 60 lnf, cw_l g bt 4000 btf, cw_z g pn 4000 pnf, cw_k5 st (nI na) (nI nu) kd dp cl sa ln bt pn bf] H locs := hZ
    refine lv_if_ne (tgt := 34) hx hb dX7_write_24 (by decide) (fun c10 => ?_) (fun c10 => ?_)
    · refine lv_aload_n hx hb dX7_write_34 rfl (lv_at hl 0 rfl) ?_
      refine zz_get hC hZ 0 rfl zf_X7_10 rfl dX7_write_35 ?_
      refine lv_iload_n hx hb dX7_write_38 rfl (lv_at hl 1 rfl) ?_
      refine lv_iload_n hx hb dX7_write_39 rfl (lv_at hl 2 rfl) ?_
      refine lv_iload_n hx hb dX7_write_40 rfl (lv_at hl 3 rfl) ?_
      refine lv_iload hx hb dX7_write_41 (lv_at hl 4 rfl) ?_
      refine lv_iload hx hb dX7_write_43 (lv_at hl 5 rfl) ?_
      refine zz_iV (As := [.int (nI a1), .int x2, .int x3, .int x4, .int x5]) (wc := [cw_k5 st (nI na) (nI nu) kd dp cl sa ln bt pn bf, cw_i g dp 60 dpf, cw_i g sa 60 saf, cw_i g ln 60 lnf, cw_l g bt 4000 btf]) (wr := [cw_k6 h0 st mk lk ch ru mr md la, cw_i g kd 60 kdf, cw_i g cl 60 clf, cw_z g pn 4000 pnf]) (rest := []) hC hZ hs hl zc_X7_134 (co_walk g st kd dp cl sa ln bt pn bf na nu dpf saf lnf btf a1 x2 x3 x4 x5 (h_S) (by omega)) [8, 2, 4, 5, 6] [0, 1, 3, 7] rfl rfl (by decide +kernel) (ci := 5) (q0 := 0) rfl rfl rfl rfl (Nat.le_of_ble_eq_true rfl) ⟨⟨Nat.le_of_ble_eq_true rfl, Nat.le_of_ble_eq_true rfl⟩, Nat.le_of_ble_eq_true rfl, Nat.le_of_ble_eq_true rfl⟩ dX7_write_45 (fun r11 u12 H locs hp hZ => ?_)
      obtain ⟨f13, f14, rfl⟩ := hp
      have hZ : zz_Z g A s.heap [cw_k6 h0 st mk lk ch ru mr md la, cw_i g kd 60 kdf, cw_i g cl 60 clf, cw_z g pn 4000 pnf, cw_k5 st (nI na) (nI nu) kd dp cl sa ln bt pn bf, cw_i g dp 60 dpf, cw_i g sa 60 saf, cw_i g ln 60 lnf, cw_l g bt 4000 btf] H locs := hZ
      have d_r11 : sp_walk na dpf saf lnf btf 4 a1 0 (zz_pa x2 x3 x4 x5) = r11 := f14.symm
      refine lv_istore (lv' := [(9, .int r11), (0, .ref h0), (1, .int (nI a1)), (2, .int x2), (3, .int x3), (4, .int x4), (5, .int x5), (6, .int x6), (7, .long x7)]) hx hb dX7_write_48 hl (by decide) rfl (fun ls hl => ?_)
      refine lv_iload hx hb dX7_write_50 (lv_at hl 0 rfl) ?_
      refine lv_if_ge (tgt := 63) hx hb dX7_write_52 (by decide) (fun c15 => ?_) (fun c15 => ?_)
      · obtain ⟨bw, qw, lzw0, ew, hbw, elw0, hqw0, hlw0, edw0⟩ := zl_WR f13 (zl_ge0 c15)
        have hl : lv_has ls 14 [(9, .int (nI (1000 * bw + qw))), (0, .ref h0), (1, .int (nI a1)), (2, .int x2), (3, .int x3), (4, .int x4), (5, .int x5), (6, .int x6), (7, .long x7)] := by rw [← ew]; exact hl
        obtain ⟨szw, lzw, dzw, esw, elw, edw, g1w, g2w, g3w, g4w⟩ := h_S.2.2 bw hbw
        have hqw : qw < lzw := by have := zl_lz rfl elw0 elw (by omega) (by omega); omega
        have d_bw : r11.toNatClampNeg / 1000 = bw := by rw [ew, nI_clamp (by omega)]; omega
        have d_qw : r11.toNatClampNeg % 1000 = qw := by rw [ew, nI_clamp (by omega)]; omega
        have bd16 : szw < 2 ^ 31 := by omega
        have d_szw : (saf bw).toNatClampNeg = szw := by rw [esw]; exact nI_clamp bd16
        have bd17 : lzw < 2 ^ 31 := by omega
        have d_lzw : (lnf bw).toNatClampNeg = lzw := by rw [elw]; exact nI_clamp bd17
        have bd18 : dzw < 2 ^ 31 := by omega
        have d_dzw : (dpf bw).toNatClampNeg = dzw := by rw [edw]; exact nI_clamp bd18
        refine lv_aload_n hx hb dX7_write_63 rfl (lv_at hl 1 rfl) ?_
        refine zz_get hC hZ 0 rfl zf_X7_10 rfl dX7_write_64 ?_
        refine zz_get hC hZ 4 rfl zf_X7_80 rfl dX7_write_67 ?_
        refine lv_iload_n hx hb dX7_write_70 rfl (lv_at hl 2 rfl) ?_
        have bd19 : a1 < 60 := by omega
        refine zz_ialdn hC hZ 1 rfl bd19 (by decide) dX7_write_71 ?_
        refine lv_istore (lv' := [(10, .int (kdf a1)), (9, .int (nI (1000 * bw + qw))), (0, .ref h0), (1, .int (nI a1)), (2, .int x2), (3, .int x3), (4, .int x4), (5, .int x5), (6, .int x6), (7, .long x7)]) hx hb dX7_write_72 hl (by decide) rfl (fun ls hl => ?_)
        refine lv_iload hx hb dX7_write_74 (lv_at hl 8 rfl) ?_
        refine lv_iload hx hb dX7_write_76 (lv_at hl 0 rfl) ?_
        refine zz_iS (As := [.int x6, .int (kdf a1)]) (wc := []) (wr := [cw_k6 h0 st mk lk ch ru mr md la, cw_i g kd 60 kdf, cw_i g cl 60 clf, cw_z g pn 4000 pnf, cw_k5 st (nI na) (nI nu) kd dp cl sa ln bt pn bf, cw_i g dp 60 dpf, cw_i g sa 60 saf, cw_i g ln 60 lnf, cw_l g bt 4000 btf]) (rest := []) hC hZ hs hl zc_X7_138 (co_reaches g x6 (kdf a1)) [] [0, 1, 2, 3, 4, 5, 6, 7, 8] rfl rfl (by decide +kernel) rfl rfl (Nat.le_of_ble_eq_true rfl) ⟨⟨Nat.le_of_ble_eq_true rfl, Nat.le_of_ble_eq_true rfl⟩, Nat.le_of_ble_eq_true rfl, Nat.le_of_ble_eq_true rfl⟩ dX7_write_78 (fun r20 u21 H locs hp hZ => ?_)
        obtain ⟨rfl, rfl⟩ := hp
        have hZ : zz_Z g A s.heap [cw_k6 h0 st mk lk ch ru mr md la, cw_i g kd 60 kdf, cw_i g cl 60 clf, cw_z g pn 4000 pnf, cw_k5 st (nI na) (nI nu) kd dp cl sa ln bt pn bf, cw_i g dp 60 dpf, cw_i g sa 60 saf, cw_i g ln 60 lnf, cw_l g bt 4000 btf] H locs := hZ
        refine lv_if_ne (tgt := 90) hx hb dX7_write_81 (by decide) (fun c22 => ?_) (fun c22 => ?_)
        · refine lv_aload_n hx hb dX7_write_90 rfl (lv_at hl 2 rfl) ?_
          refine zz_get hC hZ 0 rfl zf_X7_10 rfl dX7_write_91 ?_
          refine lv_iload hx hb dX7_write_94 (lv_at hl 1 rfl) ?_
          refine zz_iV (As := [.int (nI (1000 * bw + qw))]) (wc := [cw_k5 st (nI na) (nI nu) kd dp cl sa ln bt pn bf, cw_i g sa 60 saf]) (wr := [cw_k6 h0 st mk lk ch ru mr md la, cw_i g kd 60 kdf, cw_i g cl 60 clf, cw_z g pn 4000 pnf, cw_i g dp 60 dpf, cw_i g ln 60 lnf, cw_l g bt 4000 btf]) (rest := []) hC hZ hs hl zc_X7_141 (co_slotOf g st kd dp cl sa ln bt pn bf na nu saf bw qw szw (by omega) (esw)) [4, 6] [0, 1, 2, 3, 5, 7, 8] rfl rfl (by decide +kernel) (ci := 5) (q0 := 0) rfl rfl rfl rfl (Nat.le_of_ble_eq_true rfl) ⟨⟨Nat.le_of_ble_eq_true rfl, Nat.le_of_ble_eq_true rfl⟩, Nat.le_of_ble_eq_true rfl, Nat.le_of_ble_eq_true rfl⟩ dX7_write_96 (fun r23 u24 H locs hp hZ => ?_)
          obtain ⟨rfl, rfl⟩ := hp
          have hZ : zz_Z g A s.heap [cw_k6 h0 st mk lk ch ru mr md la, cw_i g kd 60 kdf, cw_i g cl 60 clf, cw_z g pn 4000 pnf, cw_i g dp 60 dpf, cw_i g ln 60 lnf, cw_l g bt 4000 btf, cw_k5 st (nI na) (nI nu) kd dp cl sa ln bt pn bf, cw_i g sa 60 saf] H locs := hZ
          refine lv_istore (lv' := [(11, .int (nI (szw + qw))), (10, .int (kdf a1)), (9, .int (nI (1000 * bw + qw))), (0, .ref h0), (1, .int (nI a1)), (2, .int x2), (3, .int x3), (4, .int x4), (5, .int x5), (6, .int x6), (7, .long x7)]) hx hb dX7_write_99 hl (by decide) rfl (fun ls hl => ?_)
          refine lv_aload_n hx hb dX7_write_101 rfl (lv_at hl 3 rfl) ?_
          refine zz_get hC hZ 0 rfl zf_X7_10 rfl dX7_write_102 ?_
          refine zz_get hC hZ 7 rfl zf_X7_152 rfl dX7_write_105 ?_
          refine lv_iload hx hb dX7_write_108 (lv_at hl 0 rfl) ?_
          have bd25 : (szw + qw) < 4000 := by omega
          refine zz_zaldn hC hZ 3 rfl bd25 (by decide) dX7_write_110 ?_
          refine lv_if_eq (tgt := 121) hx hb dX7_write_111 (by decide) (fun c26 => ?_) (fun c26 => ?_)
          · refine lv_iload hx hb dX7_write_121 (lv_at hl 9 rfl) ?_
            refine lv_iload hx hb dX7_write_123 (lv_at hl 1 rfl) ?_
            refine lv_iload hx hb dX7_write_125 (lv_at hl 9 rfl) ?_
            refine lv_lload hx hb dX7_write_127 (lv_at hl 10 rfl) ?_
            refine zz_lS (As := [.int x6, .long x7]) (wc := []) (wr := [cw_k6 h0 st mk lk ch ru mr md la, cw_i g kd 60 kdf, cw_i g cl 60 clf, cw_z g pn 4000 pnf, cw_i g dp 60 dpf, cw_i g ln 60 lnf, cw_l g bt 4000 btf, cw_k5 st (nI na) (nI nu) kd dp cl sa ln bt pn bf, cw_i g sa 60 saf]) (rest := [.int (kdf a1), .int x6]) hC hZ hs hl zc_X7_156 (co_cleaned g x6 x7) [] [0, 1, 2, 3, 4, 5, 6, 7, 8] rfl rfl (by decide +kernel) rfl rfl (Nat.le_of_ble_eq_true rfl) ⟨⟨Nat.le_of_ble_eq_true rfl, Nat.le_of_ble_eq_true rfl⟩, Nat.le_of_ble_eq_true rfl, Nat.le_of_ble_eq_true rfl⟩ dX7_write_129 (fun r27 u28 H locs hp hZ => ?_)
            obtain ⟨rfl, rfl⟩ := hp
            have hZ : zz_Z g A s.heap [cw_k6 h0 st mk lk ch ru mr md la, cw_i g kd 60 kdf, cw_i g cl 60 clf, cw_z g pn 4000 pnf, cw_i g dp 60 dpf, cw_i g ln 60 lnf, cw_l g bt 4000 btf, cw_k5 st (nI na) (nI nu) kd dp cl sa ln bt pn bf, cw_i g sa 60 saf] H locs := hZ
            refine zz_lS (As := [.int x6, .int (kdf a1), .long (fn_co_cleaned x6 x7)]) (wc := []) (wr := [cw_k6 h0 st mk lk ch ru mr md la, cw_i g kd 60 kdf, cw_i g cl 60 clf, cw_z g pn 4000 pnf, cw_i g dp 60 dpf, cw_i g ln 60 lnf, cw_l g bt 4000 btf, cw_k5 st (nI na) (nI nu) kd dp cl sa ln bt pn bf, cw_i g sa 60 saf]) (rest := []) hC hZ hs hl zc_X7_144 (co_widened g x6 (kdf a1) (fn_co_cleaned x6 x7)) [] [0, 1, 2, 3, 4, 5, 6, 7, 8] rfl rfl (by decide +kernel) rfl rfl (Nat.le_of_ble_eq_true rfl) ⟨⟨Nat.le_of_ble_eq_true rfl, Nat.le_of_ble_eq_true rfl⟩, Nat.le_of_ble_eq_true rfl, Nat.le_of_ble_eq_true rfl⟩ dX7_write_132 (fun r29 u30 H locs hp hZ => ?_)
            obtain ⟨rfl, rfl⟩ := hp
            have hZ : zz_Z g A s.heap [cw_k6 h0 st mk lk ch ru mr md la, cw_i g kd 60 kdf, cw_i g cl 60 clf, cw_z g pn 4000 pnf, cw_i g dp 60 dpf, cw_i g ln 60 lnf, cw_l g bt 4000 btf, cw_k5 st (nI na) (nI nu) kd dp cl sa ln bt pn bf, cw_i g sa 60 saf] H locs := hZ
            refine lv_lstore (lv' := [(12, .long (fn_co_widened x6 (kdf a1) (fn_co_cleaned x6 x7))), (11, .int (nI (szw + qw))), (10, .int (kdf a1)), (9, .int (nI (1000 * bw + qw))), (0, .ref h0), (1, .int (nI a1)), (2, .int x2), (3, .int x3), (4, .int x4), (5, .int x5), (6, .int x6), (7, .long x7)]) hx hb dX7_write_135 hl (by decide) rfl (fun ls hl => ?_)
            refine lv_aload_n hx hb dX7_write_137 rfl (lv_at hl 4 rfl) ?_
            refine zz_get hC hZ 0 rfl zf_X7_10 rfl dX7_write_138 ?_
            refine lv_iload_n hx hb dX7_write_141 rfl (lv_at hl 5 rfl) ?_
            refine lv_lload hx hb dX7_write_142 (lv_at hl 0 rfl) ?_
            refine zz_iV (As := [.int (nI a1), .long (fn_co_widened x6 (kdf a1) (fn_co_cleaned x6 x7))]) (wc := [cw_k5 st (nI na) (nI nu) kd dp cl sa ln bt pn bf, cw_i g cl 60 clf]) (wr := [cw_k6 h0 st mk lk ch ru mr md la, cw_i g kd 60 kdf, cw_z g pn 4000 pnf, cw_i g dp 60 dpf, cw_i g ln 60 lnf, cw_l g bt 4000 btf, cw_i g sa 60 saf]) (rest := []) hC hZ hs hl zc_X7_160 (co_takes g st kd dp cl sa ln bt pn bf na nu clf a1 (fn_co_widened x6 (kdf a1) (fn_co_cleaned x6 x7)) (by omega)) [7, 2] [0, 1, 3, 4, 5, 6, 8] rfl rfl (by decide +kernel) (ci := 5) (q0 := 0) rfl rfl rfl rfl (Nat.le_of_ble_eq_true rfl) ⟨⟨Nat.le_of_ble_eq_true rfl, Nat.le_of_ble_eq_true rfl⟩, Nat.le_of_ble_eq_true rfl, Nat.le_of_ble_eq_true rfl⟩ dX7_write_144 (fun r31 u32 H locs hp hZ => ?_)
            obtain ⟨rfl, rfl⟩ := hp
            have hZ : zz_Z g A s.heap [cw_k6 h0 st mk lk ch ru mr md la, cw_i g kd 60 kdf, cw_z g pn 4000 pnf, cw_i g dp 60 dpf, cw_i g ln 60 lnf, cw_l g bt 4000 btf, cw_i g sa 60 saf, cw_k5 st (nI na) (nI nu) kd dp cl sa ln bt pn bf, cw_i g cl 60 clf] H locs := hZ
            refine lv_if_ne (tgt := 157) hx hb dX7_write_147 (by decide) (fun c33 => ?_) (fun c33 => ?_)
            · refine lv_aload_n hx hb dX7_write_157 rfl (lv_at hl 4 rfl) ?_
              refine zz_get hC hZ 0 rfl zf_X7_10 rfl dX7_write_158 ?_
              refine zz_get hC hZ 7 rfl zf_X7_116 rfl dX7_write_161 ?_
              refine lv_iload hx hb dX7_write_164 (lv_at hl 1 rfl) ?_
              refine lv_lload hx hb dX7_write_166 (lv_at hl 0 rfl) ?_
              refine zz_lastn hC hZ 5 rfl bd25 (by decide) dX7_write_168 (fun H locs hZ => ?_)
              have hZ : zz_Z g A s.heap [cw_k6 h0 st mk lk ch ru mr md la, cw_i g kd 60 kdf, cw_z g pn 4000 pnf, cw_i g dp 60 dpf, cw_i g ln 60 lnf, cw_l g bt 4000 (vp_updL btf (szw + qw) (fn_co_widened x6 (kdf a1) (fn_co_cleaned x6 x7))), cw_i g sa 60 saf, cw_k5 st (nI na) (nI nu) kd dp cl sa ln bt pn bf, cw_i g cl 60 clf] H locs := hZ
              refine lv_aload_n hx hb dX7_write_169 rfl (lv_at hl 4 rfl) ?_
              refine lv_iconst (v := 0) hx hb dX7_write_170 (by decide) ?_
              refine zz_iV (As := [.int 0]) (wc := [cw_k6 h0 st mk lk ch ru mr md la]) (wr := [cw_i g kd 60 kdf, cw_z g pn 4000 pnf, cw_i g dp 60 dpf, cw_i g ln 60 lnf, cw_l g bt 4000 (vp_updL btf (szw + qw) (fn_co_widened x6 (kdf a1) (fn_co_cleaned x6 x7))), cw_i g sa 60 saf, cw_k5 st (nI na) (nI nu) kd dp cl sa ln bt pn bf, cw_i g cl 60 clf]) (rest := []) hC hZ hs hl zc_X7_100 (co_fine g h0 st mk lk ch ru mr md la 0) [0] [1, 2, 3, 4, 5, 6, 7, 8] rfl rfl (by decide +kernel) (ci := 6) (q0 := 0) rfl rfl rfl rfl (Nat.le_of_ble_eq_true rfl) ⟨⟨Nat.le_of_ble_eq_true rfl, Nat.le_of_ble_eq_true rfl⟩, Nat.le_of_ble_eq_true rfl, Nat.le_of_ble_eq_true rfl⟩ dX7_write_171 (fun r34 u35 H locs hp hZ => ?_)
              obtain ⟨rfl, rfl⟩ := hp
              have hZ : zz_Z g A s.heap [cw_i g kd 60 kdf, cw_z g pn 4000 pnf, cw_i g dp 60 dpf, cw_i g ln 60 lnf, cw_l g bt 4000 (vp_updL btf (szw + qw) (fn_co_widened x6 (kdf a1) (fn_co_cleaned x6 x7))), cw_i g sa 60 saf, cw_k5 st (nI na) (nI nu) kd dp cl sa ln bt pn bf, cw_i g cl 60 clf, cw_k6 h0 st mk lk ch ru mr md 0] H locs := hZ
              have hZ : zz_Z g A s.heap [cw_k6 h0 st mk lk ch ru mr md 0, cw_k5 st (nI na) (nI nu) kd dp cl sa ln bt pn bf, cw_i g kd 60 kdf, cw_i g dp 60 dpf, cw_i g cl 60 clf, cw_i g sa 60 saf, cw_i g ln 60 lnf, cw_l g bt 4000 (vp_updL btf (szw + qw) (fn_co_widened x6 (kdf a1) (fn_co_cleaned x6 x7))), cw_z g pn 4000 pnf] H locs := hZ.sub [8, 6, 0, 2, 7, 5, 3, 4, 1] (by decide +kernel) rfl
              exact zz_iret hC hZ (⟨0, (vp_updL btf (szw + qw) (fn_co_widened x6 (kdf a1) (fn_co_cleaned x6 x7))), by refine Eq.symm ?_; rw [fo_cx_write]; refine (if_neg (by (try simp only [d_a1, d_sz1, d_lz1, d_dz1, d_r11, d_bw, d_qw, d_szw, d_lzw, d_dzw]); exact c3)).trans ?_; refine (if_neg (by (try simp only [d_a1, d_sz1, d_lz1, d_dz1, d_r11, d_bw, d_qw, d_szw, d_lzw, d_dzw]); exact c10)).trans ?_; refine (if_pos (by (try simp only [d_a1, d_sz1, d_lz1, d_dz1, d_r11, d_bw, d_qw, d_szw, d_lzw, d_dzw]); exact c15)).trans ?_; refine (if_neg (by (try simp only [d_a1, d_sz1, d_lz1, d_dz1, d_r11, d_bw, d_qw, d_szw, d_lzw, d_dzw]); exact c22)).trans ?_; refine (if_pos (by (try simp only [d_a1, d_sz1, d_lz1, d_dz1, d_r11, d_bw, d_qw, d_szw, d_lzw, d_dzw]); exact c26)).trans ?_; refine (if_neg (by (try simp only [d_a1, d_sz1, d_lz1, d_dz1, d_r11, d_bw, d_qw, d_szw, d_lzw, d_dzw]); exact c33)).trans ?_; first | (simp only [d_a1, d_sz1, d_lz1, d_dz1, d_r11, d_bw, d_qw, d_szw, d_lzw, d_dzw]; done) | rfl, zz_D1.set hbw (edw0.trans (by decide)) esw elw (by omega) (by omega) hqw, rfl⟩) (Nat.le_of_ble_eq_true rfl) (Nat.le_of_ble_eq_true rfl) dX7_write_174
            · refine lv_aload_n hx hb dX7_write_150 rfl (lv_at hl 4 rfl) ?_
              refine lv_bipush (v := 7) hx hb dX7_write_151 (by decide) ?_
              refine zz_iV (As := [.int 7]) (wc := [cw_k6 h0 st mk lk ch ru mr md la]) (wr := [cw_i g kd 60 kdf, cw_z g pn 4000 pnf, cw_i g dp 60 dpf, cw_i g ln 60 lnf, cw_l g bt 4000 btf, cw_i g sa 60 saf, cw_k5 st (nI na) (nI nu) kd dp cl sa ln bt pn bf, cw_i g cl 60 clf]) (rest := []) hC hZ hs hl zc_X7_65 (co_fail g h0 st mk lk ch ru mr md la 7) [0] [1, 2, 3, 4, 5, 6, 7, 8] rfl rfl (by decide +kernel) (ci := 6) (q0 := 0) rfl rfl rfl rfl (Nat.le_of_ble_eq_true rfl) ⟨⟨Nat.le_of_ble_eq_true rfl, Nat.le_of_ble_eq_true rfl⟩, Nat.le_of_ble_eq_true rfl, Nat.le_of_ble_eq_true rfl⟩ dX7_write_153 (fun r36 u37 H locs hp hZ => ?_)
              obtain ⟨rfl, rfl⟩ := hp
              have hZ : zz_Z g A s.heap [cw_i g kd 60 kdf, cw_z g pn 4000 pnf, cw_i g dp 60 dpf, cw_i g ln 60 lnf, cw_l g bt 4000 btf, cw_i g sa 60 saf, cw_k5 st (nI na) (nI nu) kd dp cl sa ln bt pn bf, cw_i g cl 60 clf, cw_k6 h0 st mk lk ch ru mr md 7] H locs := hZ
              have hZ : zz_Z g A s.heap [cw_k6 h0 st mk lk ch ru mr md 7, cw_k5 st (nI na) (nI nu) kd dp cl sa ln bt pn bf, cw_i g kd 60 kdf, cw_i g dp 60 dpf, cw_i g cl 60 clf, cw_i g sa 60 saf, cw_i g ln 60 lnf, cw_l g bt 4000 btf, cw_z g pn 4000 pnf] H locs := hZ.sub [8, 6, 0, 2, 7, 5, 3, 4, 1] (by decide +kernel) rfl
              exact zz_iret hC hZ (⟨7, btf, by refine Eq.symm ?_; rw [fo_cx_write]; refine (if_neg (by (try simp only [d_a1, d_sz1, d_lz1, d_dz1, d_r11, d_bw, d_qw, d_szw, d_lzw, d_dzw]); exact c3)).trans ?_; refine (if_neg (by (try simp only [d_a1, d_sz1, d_lz1, d_dz1, d_r11, d_bw, d_qw, d_szw, d_lzw, d_dzw]); exact c10)).trans ?_; refine (if_pos (by (try simp only [d_a1, d_sz1, d_lz1, d_dz1, d_r11, d_bw, d_qw, d_szw, d_lzw, d_dzw]); exact c15)).trans ?_; refine (if_neg (by (try simp only [d_a1, d_sz1, d_lz1, d_dz1, d_r11, d_bw, d_qw, d_szw, d_lzw, d_dzw]); exact c22)).trans ?_; refine (if_pos (by (try simp only [d_a1, d_sz1, d_lz1, d_dz1, d_r11, d_bw, d_qw, d_szw, d_lzw, d_dzw]); exact c26)).trans ?_; refine (if_pos (by (try simp only [d_a1, d_sz1, d_lz1, d_dz1, d_r11, d_bw, d_qw, d_szw, d_lzw, d_dzw]); exact c33)).trans ?_; first | (simp only [d_a1, d_sz1, d_lz1, d_dz1, d_r11, d_bw, d_qw, d_szw, d_lzw, d_dzw]; done) | rfl, zz_D1.rf, rfl⟩) (Nat.le_of_ble_eq_true rfl) (Nat.le_of_ble_eq_true rfl) dX7_write_156
          · refine lv_aload_n hx hb dX7_write_114 rfl (lv_at hl 3 rfl) ?_
            refine lv_bipush (v := 6) hx hb dX7_write_115 (by decide) ?_
            refine zz_iV (As := [.int 6]) (wc := [cw_k6 h0 st mk lk ch ru mr md la]) (wr := [cw_i g kd 60 kdf, cw_i g cl 60 clf, cw_z g pn 4000 pnf, cw_i g dp 60 dpf, cw_i g ln 60 lnf, cw_l g bt 4000 btf, cw_k5 st (nI na) (nI nu) kd dp cl sa ln bt pn bf, cw_i g sa 60 saf]) (rest := []) hC hZ hs hl zc_X7_65 (co_fail g h0 st mk lk ch ru mr md la 6) [0] [1, 2, 3, 4, 5, 6, 7, 8] rfl rfl (by decide +kernel) (ci := 6) (q0 := 0) rfl rfl rfl rfl (Nat.le_of_ble_eq_true rfl) ⟨⟨Nat.le_of_ble_eq_true rfl, Nat.le_of_ble_eq_true rfl⟩, Nat.le_of_ble_eq_true rfl, Nat.le_of_ble_eq_true rfl⟩ dX7_write_117 (fun r38 u39 H locs hp hZ => ?_)
            obtain ⟨rfl, rfl⟩ := hp
            have hZ : zz_Z g A s.heap [cw_i g kd 60 kdf, cw_i g cl 60 clf, cw_z g pn 4000 pnf, cw_i g dp 60 dpf, cw_i g ln 60 lnf, cw_l g bt 4000 btf, cw_k5 st (nI na) (nI nu) kd dp cl sa ln bt pn bf, cw_i g sa 60 saf, cw_k6 h0 st mk lk ch ru mr md 6] H locs := hZ
            have hZ : zz_Z g A s.heap [cw_k6 h0 st mk lk ch ru mr md 6, cw_k5 st (nI na) (nI nu) kd dp cl sa ln bt pn bf, cw_i g kd 60 kdf, cw_i g dp 60 dpf, cw_i g cl 60 clf, cw_i g sa 60 saf, cw_i g ln 60 lnf, cw_l g bt 4000 btf, cw_z g pn 4000 pnf] H locs := hZ.sub [8, 6, 0, 3, 1, 7, 4, 5, 2] (by decide +kernel) rfl
            exact zz_iret hC hZ (⟨6, btf, by refine Eq.symm ?_; rw [fo_cx_write]; refine (if_neg (by (try simp only [d_a1, d_sz1, d_lz1, d_dz1, d_r11, d_bw, d_qw, d_szw, d_lzw, d_dzw]); exact c3)).trans ?_; refine (if_neg (by (try simp only [d_a1, d_sz1, d_lz1, d_dz1, d_r11, d_bw, d_qw, d_szw, d_lzw, d_dzw]); exact c10)).trans ?_; refine (if_pos (by (try simp only [d_a1, d_sz1, d_lz1, d_dz1, d_r11, d_bw, d_qw, d_szw, d_lzw, d_dzw]); exact c15)).trans ?_; refine (if_neg (by (try simp only [d_a1, d_sz1, d_lz1, d_dz1, d_r11, d_bw, d_qw, d_szw, d_lzw, d_dzw]); exact c22)).trans ?_; refine (if_neg (by (try simp only [d_a1, d_sz1, d_lz1, d_dz1, d_r11, d_bw, d_qw, d_szw, d_lzw, d_dzw]); exact c26)).trans ?_; first | (simp only [d_a1, d_sz1, d_lz1, d_dz1, d_r11, d_bw, d_qw, d_szw, d_lzw, d_dzw]; done) | rfl, zz_D1.rf, rfl⟩) (Nat.le_of_ble_eq_true rfl) (Nat.le_of_ble_eq_true rfl) dX7_write_120
        · refine lv_aload_n hx hb dX7_write_84 rfl (lv_at hl 2 rfl) ?_
          refine lv_iconst (v := 1) hx hb dX7_write_85 (by decide) ?_
          refine zz_iV (As := [.int 1]) (wc := [cw_k6 h0 st mk lk ch ru mr md la]) (wr := [cw_i g kd 60 kdf, cw_i g cl 60 clf, cw_z g pn 4000 pnf, cw_k5 st (nI na) (nI nu) kd dp cl sa ln bt pn bf, cw_i g dp 60 dpf, cw_i g sa 60 saf, cw_i g ln 60 lnf, cw_l g bt 4000 btf]) (rest := []) hC hZ hs hl zc_X7_65 (co_fail g h0 st mk lk ch ru mr md la 1) [0] [1, 2, 3, 4, 5, 6, 7, 8] rfl rfl (by decide +kernel) (ci := 6) (q0 := 0) rfl rfl rfl rfl (Nat.le_of_ble_eq_true rfl) ⟨⟨Nat.le_of_ble_eq_true rfl, Nat.le_of_ble_eq_true rfl⟩, Nat.le_of_ble_eq_true rfl, Nat.le_of_ble_eq_true rfl⟩ dX7_write_86 (fun r40 u41 H locs hp hZ => ?_)
          obtain ⟨rfl, rfl⟩ := hp
          have hZ : zz_Z g A s.heap [cw_i g kd 60 kdf, cw_i g cl 60 clf, cw_z g pn 4000 pnf, cw_k5 st (nI na) (nI nu) kd dp cl sa ln bt pn bf, cw_i g dp 60 dpf, cw_i g sa 60 saf, cw_i g ln 60 lnf, cw_l g bt 4000 btf, cw_k6 h0 st mk lk ch ru mr md 1] H locs := hZ
          have hZ : zz_Z g A s.heap [cw_k6 h0 st mk lk ch ru mr md 1, cw_k5 st (nI na) (nI nu) kd dp cl sa ln bt pn bf, cw_i g kd 60 kdf, cw_i g dp 60 dpf, cw_i g cl 60 clf, cw_i g sa 60 saf, cw_i g ln 60 lnf, cw_l g bt 4000 btf, cw_z g pn 4000 pnf] H locs := hZ.sub [8, 3, 0, 4, 1, 5, 6, 7, 2] (by decide +kernel) rfl
          exact zz_iret hC hZ (⟨1, btf, by refine Eq.symm ?_; rw [fo_cx_write]; refine (if_neg (by (try simp only [d_a1, d_sz1, d_lz1, d_dz1, d_r11, d_bw, d_qw, d_szw, d_lzw, d_dzw]); exact c3)).trans ?_; refine (if_neg (by (try simp only [d_a1, d_sz1, d_lz1, d_dz1, d_r11, d_bw, d_qw, d_szw, d_lzw, d_dzw]); exact c10)).trans ?_; refine (if_pos (by (try simp only [d_a1, d_sz1, d_lz1, d_dz1, d_r11, d_bw, d_qw, d_szw, d_lzw, d_dzw]); exact c15)).trans ?_; refine (if_pos (by (try simp only [d_a1, d_sz1, d_lz1, d_dz1, d_r11, d_bw, d_qw, d_szw, d_lzw, d_dzw]); exact c22)).trans ?_; first | (simp only [d_a1, d_sz1, d_lz1, d_dz1, d_r11, d_bw, d_qw, d_szw, d_lzw, d_dzw]; done) | rfl, zz_D1.rf, rfl⟩) (Nat.le_of_ble_eq_true rfl) (Nat.le_of_ble_eq_true rfl) dX7_write_89
      · refine lv_aload_n hx hb dX7_write_55 rfl (lv_at hl 1 rfl) ?_
        refine lv_iload hx hb dX7_write_56 (lv_at hl 0 rfl) ?_
        refine lv_ineg hx hb dX7_write_58 ?_
        refine zz_iV (As := [.int (-r11)]) (wc := [cw_k6 h0 st mk lk ch ru mr md la]) (wr := [cw_i g kd 60 kdf, cw_i g cl 60 clf, cw_z g pn 4000 pnf, cw_k5 st (nI na) (nI nu) kd dp cl sa ln bt pn bf, cw_i g dp 60 dpf, cw_i g sa 60 saf, cw_i g ln 60 lnf, cw_l g bt 4000 btf]) (rest := []) hC hZ hs hl zc_X7_65 (co_fail g h0 st mk lk ch ru mr md la (-r11)) [0] [1, 2, 3, 4, 5, 6, 7, 8] rfl rfl (by decide +kernel) (ci := 6) (q0 := 0) rfl rfl rfl rfl (Nat.le_of_ble_eq_true rfl) ⟨⟨Nat.le_of_ble_eq_true rfl, Nat.le_of_ble_eq_true rfl⟩, Nat.le_of_ble_eq_true rfl, Nat.le_of_ble_eq_true rfl⟩ dX7_write_59 (fun r42 u43 H locs hp hZ => ?_)
        obtain ⟨rfl, rfl⟩ := hp
        have hZ : zz_Z g A s.heap [cw_i g kd 60 kdf, cw_i g cl 60 clf, cw_z g pn 4000 pnf, cw_k5 st (nI na) (nI nu) kd dp cl sa ln bt pn bf, cw_i g dp 60 dpf, cw_i g sa 60 saf, cw_i g ln 60 lnf, cw_l g bt 4000 btf, cw_k6 h0 st mk lk ch ru mr md (-r11)] H locs := hZ
        have hZ : zz_Z g A s.heap [cw_k6 h0 st mk lk ch ru mr md (-r11), cw_k5 st (nI na) (nI nu) kd dp cl sa ln bt pn bf, cw_i g kd 60 kdf, cw_i g dp 60 dpf, cw_i g cl 60 clf, cw_i g sa 60 saf, cw_i g ln 60 lnf, cw_l g bt 4000 btf, cw_z g pn 4000 pnf] H locs := hZ.sub [8, 3, 0, 4, 1, 5, 6, 7, 2] (by decide +kernel) rfl
        exact zz_iret hC hZ (⟨(-r11), btf, by refine Eq.symm ?_; rw [fo_cx_write]; refine (if_neg (by (try simp only [d_a1, d_sz1, d_lz1, d_dz1, d_r11]); exact c3)).trans ?_; refine (if_neg (by (try simp only [d_a1, d_sz1, d_lz1, d_dz1, d_r11]); exact c10)).trans ?_; refine (if_neg (by (try simp only [d_a1, d_sz1, d_lz1, d_dz1, d_r11]); exact c15)).trans ?_; first | (simp only [d_a1, d_sz1, d_lz1, d_dz1, d_r11]; done) | rfl, zz_D1.rf, rfl⟩) (Nat.le_of_ble_eq_true rfl) (Nat.le_of_ble_eq_true rfl) dX7_write_62
    · refine lv_aload_n hx hb dX7_write_27 rfl (lv_at hl 0 rfl) ?_
      refine lv_bipush (v := 9) hx hb dX7_write_28 (by decide) ?_
      refine zz_iV (As := [.int 9]) (wc := [cw_k6 h0 st mk lk ch ru mr md la]) (wr := [cw_i g kd 60 kdf, cw_i g dp 60 dpf, cw_i g cl 60 clf, cw_i g sa 60 saf, cw_i g ln 60 lnf, cw_l g bt 4000 btf, cw_z g pn 4000 pnf, cw_k5 st (nI na) (nI nu) kd dp cl sa ln bt pn bf]) (rest := []) hC hZ hs hl zc_X7_65 (co_fail g h0 st mk lk ch ru mr md la 9) [0] [1, 2, 3, 4, 5, 6, 7, 8] rfl rfl (by decide +kernel) (ci := 6) (q0 := 0) rfl rfl rfl rfl (Nat.le_of_ble_eq_true rfl) ⟨⟨Nat.le_of_ble_eq_true rfl, Nat.le_of_ble_eq_true rfl⟩, Nat.le_of_ble_eq_true rfl, Nat.le_of_ble_eq_true rfl⟩ dX7_write_30 (fun r44 u45 H locs hp hZ => ?_)
      obtain ⟨rfl, rfl⟩ := hp
      have hZ : zz_Z g A s.heap [cw_i g kd 60 kdf, cw_i g dp 60 dpf, cw_i g cl 60 clf, cw_i g sa 60 saf, cw_i g ln 60 lnf, cw_l g bt 4000 btf, cw_z g pn 4000 pnf, cw_k5 st (nI na) (nI nu) kd dp cl sa ln bt pn bf, cw_k6 h0 st mk lk ch ru mr md 9] H locs := hZ
      have hZ : zz_Z g A s.heap [cw_k6 h0 st mk lk ch ru mr md 9, cw_k5 st (nI na) (nI nu) kd dp cl sa ln bt pn bf, cw_i g kd 60 kdf, cw_i g dp 60 dpf, cw_i g cl 60 clf, cw_i g sa 60 saf, cw_i g ln 60 lnf, cw_l g bt 4000 btf, cw_z g pn 4000 pnf] H locs := hZ.sub [8, 7, 0, 1, 2, 3, 4, 5, 6] (by decide +kernel) rfl
      exact zz_iret hC hZ (⟨9, btf, by refine Eq.symm ?_; rw [fo_cx_write]; refine (if_neg (by (try simp only [d_a1, d_sz1, d_lz1, d_dz1]); exact c3)).trans ?_; refine (if_pos (by (try simp only [d_a1, d_sz1, d_lz1, d_dz1]); exact c10)).trans ?_; first | (simp only [d_a1, d_sz1, d_lz1, d_dz1]; done) | rfl, zz_D1.rf, rfl⟩) (Nat.le_of_ble_eq_true rfl) (Nat.le_of_ble_eq_true rfl) dX7_write_33
  · refine lv_aload_n hx hb dX7_write_11 rfl (lv_at hl 0 rfl) ?_
    refine lv_iconst (v := 5) hx hb dX7_write_12 (by decide) ?_
    refine zz_iV (As := [.int 5]) (wc := [cw_k6 h0 st mk lk ch ru mr md la]) (wr := [cw_i g kd 60 kdf, cw_i g dp 60 dpf, cw_i g cl 60 clf, cw_i g sa 60 saf, cw_i g ln 60 lnf, cw_l g bt 4000 btf, cw_z g pn 4000 pnf, cw_k5 st (nI na) (nI nu) kd dp cl sa ln bt pn bf]) (rest := []) hC hZ hs hl zc_X7_65 (co_fail g h0 st mk lk ch ru mr md la 5) [0] [1, 2, 3, 4, 5, 6, 7, 8] rfl rfl (by decide +kernel) (ci := 6) (q0 := 0) rfl rfl rfl rfl (Nat.le_of_ble_eq_true rfl) ⟨⟨Nat.le_of_ble_eq_true rfl, Nat.le_of_ble_eq_true rfl⟩, Nat.le_of_ble_eq_true rfl, Nat.le_of_ble_eq_true rfl⟩ dX7_write_13 (fun r46 u47 H locs hp hZ => ?_)
    obtain ⟨rfl, rfl⟩ := hp
    have hZ : zz_Z g A s.heap [cw_i g kd 60 kdf, cw_i g dp 60 dpf, cw_i g cl 60 clf, cw_i g sa 60 saf, cw_i g ln 60 lnf, cw_l g bt 4000 btf, cw_z g pn 4000 pnf, cw_k5 st (nI na) (nI nu) kd dp cl sa ln bt pn bf, cw_k6 h0 st mk lk ch ru mr md 5] H locs := hZ
    have hZ : zz_Z g A s.heap [cw_k6 h0 st mk lk ch ru mr md 5, cw_k5 st (nI na) (nI nu) kd dp cl sa ln bt pn bf, cw_i g kd 60 kdf, cw_i g dp 60 dpf, cw_i g cl 60 clf, cw_i g sa 60 saf, cw_i g ln 60 lnf, cw_l g bt 4000 btf, cw_z g pn 4000 pnf] H locs := hZ.sub [8, 7, 0, 1, 2, 3, 4, 5, 6] (by decide +kernel) rfl
    exact zz_iret hC hZ (⟨5, btf, by show _ = _; rw [fo_cx_write]; rw [if_pos c3], zz_D1.rf, rfl⟩) (Nat.le_of_ble_eq_true rfl) (Nat.le_of_ble_eq_true rfl) dX7_write_16
theorem dg_X7_place_0 : (decode cX7_place 0 = .ok (.aload_n 0, 1)) ∧ (decode cX7_place 1 = .ok (.getfield 10, 3)) ∧ (decode cX7_place 4 = .ok (.iload_n 1, 1)) ∧ (decode cX7_place 5 = .ok (.invokevirtual 73, 3)) ∧ (decode cX7_place 8 = .ok (.ifCond .ne 9, 3)) ∧ (decode cX7_place 11 = .ok (.aload_n 0, 1)) ∧ (decode cX7_place 12 = .ok (.iconst 5, 1)) ∧ (decode cX7_place 13 = .ok (.invokevirtual 65, 3)) ∧ (decode cX7_place 16 = .ok (.ireturn, 1)) ∧ (decode cX7_place 17 = .ok (.aload_n 0, 1)) ∧ (decode cX7_place 18 = .ok (.getfield 10, 3)) ∧ (decode cX7_place 21 = .ok (.iload_n 1, 1)) ∧ (decode cX7_place 22 = .ok (.iload_n 2, 1)) ∧ (decode cX7_place 23 = .ok (.iload_n 3, 1)) ∧ (decode cX7_place 24 = .ok (.iload 4, 2)) ∧ (decode cX7_place 26 = .ok (.iload 5, 2)) := by decide +kernel
theorem dX7_place_0 : decode cX7_place 0 = .ok (.aload_n 0, 1) := dg_X7_place_0.1
theorem dX7_place_1 : decode cX7_place 1 = .ok (.getfield 10, 3) := dg_X7_place_0.2.1
theorem dX7_place_4 : decode cX7_place 4 = .ok (.iload_n 1, 1) := dg_X7_place_0.2.2.1
theorem dX7_place_5 : decode cX7_place 5 = .ok (.invokevirtual 73, 3) := dg_X7_place_0.2.2.2.1
theorem dX7_place_8 : decode cX7_place 8 = .ok (.ifCond .ne 9, 3) := dg_X7_place_0.2.2.2.2.1
theorem dX7_place_11 : decode cX7_place 11 = .ok (.aload_n 0, 1) := dg_X7_place_0.2.2.2.2.2.1
theorem dX7_place_12 : decode cX7_place 12 = .ok (.iconst 5, 1) := dg_X7_place_0.2.2.2.2.2.2.1
theorem dX7_place_13 : decode cX7_place 13 = .ok (.invokevirtual 65, 3) := dg_X7_place_0.2.2.2.2.2.2.2.1
theorem dX7_place_16 : decode cX7_place 16 = .ok (.ireturn, 1) := dg_X7_place_0.2.2.2.2.2.2.2.2.1
theorem dX7_place_17 : decode cX7_place 17 = .ok (.aload_n 0, 1) := dg_X7_place_0.2.2.2.2.2.2.2.2.2.1
theorem dX7_place_18 : decode cX7_place 18 = .ok (.getfield 10, 3) := dg_X7_place_0.2.2.2.2.2.2.2.2.2.2.1
theorem dX7_place_21 : decode cX7_place 21 = .ok (.iload_n 1, 1) := dg_X7_place_0.2.2.2.2.2.2.2.2.2.2.2.1
theorem dX7_place_22 : decode cX7_place 22 = .ok (.iload_n 2, 1) := dg_X7_place_0.2.2.2.2.2.2.2.2.2.2.2.2.1
theorem dX7_place_23 : decode cX7_place 23 = .ok (.iload_n 3, 1) := dg_X7_place_0.2.2.2.2.2.2.2.2.2.2.2.2.2.1
theorem dX7_place_24 : decode cX7_place 24 = .ok (.iload 4, 2) := dg_X7_place_0.2.2.2.2.2.2.2.2.2.2.2.2.2.2.1
theorem dX7_place_26 : decode cX7_place 26 = .ok (.iload 5, 2) := dg_X7_place_0.2.2.2.2.2.2.2.2.2.2.2.2.2.2.2
theorem dg_X7_place_28 : (decode cX7_place 28 = .ok (.invokevirtual 134, 3)) ∧ (decode cX7_place 31 = .ok (.istore 6, 2)) ∧ (decode cX7_place 33 = .ok (.iload 6, 2)) ∧ (decode cX7_place 35 = .ok (.ifCond .ge 13, 3)) ∧ (decode cX7_place 38 = .ok (.aload_n 0, 1)) ∧ (decode cX7_place 39 = .ok (.iload 6, 2)) ∧ (decode cX7_place 41 = .ok (.ineg, 1)) ∧ (decode cX7_place 42 = .ok (.invokevirtual 65, 3)) ∧ (decode cX7_place 45 = .ok (.goto 9, 3)) ∧ (decode cX7_place 48 = .ok (.aload_n 0, 1)) ∧ (decode cX7_place 49 = .ok (.iload 6, 2)) ∧ (decode cX7_place 51 = .ok (.invokevirtual 100, 3)) ∧ (decode cX7_place 54 = .ok (.ireturn, 1)) := by decide +kernel
theorem dX7_place_28 : decode cX7_place 28 = .ok (.invokevirtual 134, 3) := dg_X7_place_28.1
theorem dX7_place_31 : decode cX7_place 31 = .ok (.istore 6, 2) := dg_X7_place_28.2.1
theorem dX7_place_33 : decode cX7_place 33 = .ok (.iload 6, 2) := dg_X7_place_28.2.2.1
theorem dX7_place_35 : decode cX7_place 35 = .ok (.ifCond .ge 13, 3) := dg_X7_place_28.2.2.2.1
theorem dX7_place_38 : decode cX7_place 38 = .ok (.aload_n 0, 1) := dg_X7_place_28.2.2.2.2.1
theorem dX7_place_39 : decode cX7_place 39 = .ok (.iload 6, 2) := dg_X7_place_28.2.2.2.2.2.1
theorem dX7_place_41 : decode cX7_place 41 = .ok (.ineg, 1) := dg_X7_place_28.2.2.2.2.2.2.1
theorem dX7_place_42 : decode cX7_place 42 = .ok (.invokevirtual 65, 3) := dg_X7_place_28.2.2.2.2.2.2.2.1
theorem dX7_place_45 : decode cX7_place 45 = .ok (.goto 9, 3) := dg_X7_place_28.2.2.2.2.2.2.2.2.1
theorem dX7_place_48 : decode cX7_place 48 = .ok (.aload_n 0, 1) := dg_X7_place_28.2.2.2.2.2.2.2.2.2.1
theorem dX7_place_49 : decode cX7_place 49 = .ok (.iload 6, 2) := dg_X7_place_28.2.2.2.2.2.2.2.2.2.2.1
theorem dX7_place_51 : decode cX7_place 51 = .ok (.invokevirtual 100, 3) := dg_X7_place_28.2.2.2.2.2.2.2.2.2.2.2.1
theorem dX7_place_54 : decode cX7_place 54 = .ok (.ireturn, 1) := dg_X7_place_28.2.2.2.2.2.2.2.2.2.2.2.2
def fn_cx_place (na : Nat) (nu : Nat) (dpf : Nat → Int32) (saf : Nat → Int32) (lnf : Nat → Int32) (btf : Nat → Int64) (x1 : Int32) (x2 : Int32) (x3 : Int32) (x4 : Int32) (x5 : Int32) : Int32 := (if (fn_co_has (nI na) x1) = 0 then -5 else (if 0 ≤ (sp_walk na dpf saf lnf btf 4 x1.toNatClampNeg 0 (zz_pa x2 x3 x4 x5)) then (nI (1000 * ((sp_walk na dpf saf lnf btf 4 x1.toNatClampNeg 0 (zz_pa x2 x3 x4 x5)).toNatClampNeg / 1000) + ((sp_walk na dpf saf lnf btf 4 x1.toNatClampNeg 0 (zz_pa x2 x3 x4 x5)).toNatClampNeg % 1000))) else (-(-(sp_walk na dpf saf lnf btf 4 x1.toNatClampNeg 0 (zz_pa x2 x3 x4 x5))))))
abbrev rm_cx_place : Room := { frames := 2, cells := 0, slots := 0, locals := 51 }
abbrev po_cx_place (g : zz_G) (h0 : Nat) (st : Nat) (mk : Nat) (lk : Nat) (ch : Nat) (ru : Nat) (mr : Nat) (kd : Nat) (dp : Nat) (cl : Nat) (sa : Nat) (ln : Nat) (bt : Nat) (pn : Nat) (bf : Nat) (md : Int32) (la : Int32) (na : Nat) (nu : Nat) (dpf : Nat → Int32) (saf : Nat → Int32) (lnf : Nat → Int32) (btf : Nat → Int64) (x1 : Int32) (x2 : Int32) (x3 : Int32) (x4 : Int32) (x5 : Int32) (h_S : zz_SI na nu dpf saf lnf) : Int32 → va_W → Prop := fun (r : Int32) (u : va_W) => ∃ (la2 : Int32), r = fn_cx_place na nu dpf saf lnf btf x1 x2 x3 x4 x5 ∧ u = [cw_k6 h0 st mk lk ch ru mr md la2, cw_k5 st (nI na) (nI nu) kd dp cl sa ln bt pn bf, cw_i g dp 60 dpf, cw_i g sa 60 saf, cw_i g ln 60 lnf, cw_l g bt 4000 btf]
set_option maxHeartbeats 4000000 in
set_option maxRecDepth 100000 in
theorem cx_place (g : zz_G) (h0 : Nat) (st : Nat) (mk : Nat) (lk : Nat) (ch : Nat) (ru : Nat) (mr : Nat) (kd : Nat) (dp : Nat) (cl : Nat) (sa : Nat) (ln : Nat) (bt : Nat) (pn : Nat) (bf : Nat) (md : Int32) (la : Int32) (na : Nat) (nu : Nat) (dpf : Nat → Int32) (saf : Nat → Int32) (lnf : Nat → Int32) (btf : Nat → Int64) (x1 : Int32) (x2 : Int32) (x3 : Int32) (x4 : Int32) (x5 : Int32) (h_S : zz_SI na nu dpf saf lnf) : zz_I g yX7_place (.code yX7_place cX7_place 7 (some .int)) rm_cx_place [.ref h0, .int x1, .int x2, .int x3, .int x4, .int x5] [cw_k6 h0 st mk lk ch ru mr md la, cw_k5 st (nI na) (nI nu) kd dp cl sa ln bt pn bf, cw_i g dp 60 dpf, cw_i g sa 60 saf, cw_i g ln 60 lnf, cw_l g bt 4000 btf] (po_cx_place g h0 st mk lk ch ru mr kd dp cl sa ln bt pn bf md la na nu dpf saf lnf btf x1 x2 x3 x4 x5 h_S) := by
  refine zz_I.intro (own := RX7) (cc := cX7_place) (nL := 7) (by decide) rfl (Nat.le_of_ble_eq_true rfl) ?_
  intro p l e s m args below meth c A H locs ls hC hnm hs hZ hl
  obtain ⟨hx, hb, hml, hown, hts, hr, hlocks, hK⟩ := id hC
  have hl : lv_has ls 7 [(0, .ref h0), (1, .int x1), (2, .int x2), (3, .int x3), (4, .int x4), (5, .int x5)] := hl
  have hZ : zz_Z g A s.heap [cw_k6 h0 st mk lk ch ru mr md la, cw_k5 st (nI na) (nI nu) kd dp cl sa ln bt pn bf, cw_i g dp 60 dpf, cw_i g sa 60 saf, cw_i g ln 60 lnf, cw_l g bt 4000 btf] H locs := hZ
  have hna := h_S.1
  have hnu := h_S.2.1
  refine lv_aload_n hx hb dX7_place_0 rfl (lv_at hl 0 rfl) ?_
  refine zz_get hC hZ 0 rfl zf_X7_10 rfl dX7_place_1 ?_
  refine lv_iload_n hx hb dX7_place_4 rfl (lv_at hl 1 rfl) ?_
  refine zz_iV (As := [.int x1]) (wc := [cw_k5 st (nI na) (nI nu) kd dp cl sa ln bt pn bf]) (wr := [cw_k6 h0 st mk lk ch ru mr md la, cw_i g dp 60 dpf, cw_i g sa 60 saf, cw_i g ln 60 lnf, cw_l g bt 4000 btf]) (rest := []) hC hZ hs hl zc_X7_73 (co_has g st kd dp cl sa ln bt pn bf (nI na) (nI nu) x1) [1] [0, 2, 3, 4, 5] rfl rfl (by decide +kernel) (ci := 5) (q0 := 0) rfl rfl rfl rfl (Nat.le_of_ble_eq_true rfl) ⟨⟨Nat.le_of_ble_eq_true rfl, Nat.le_of_ble_eq_true rfl⟩, Nat.le_of_ble_eq_true rfl, Nat.le_of_ble_eq_true rfl⟩ dX7_place_5 (fun r1 u2 H locs hp hZ => ?_)
  obtain ⟨rfl, rfl⟩ := hp
  have hZ : zz_Z g A s.heap [cw_k6 h0 st mk lk ch ru mr md la, cw_i g dp 60 dpf, cw_i g sa 60 saf, cw_i g ln 60 lnf, cw_l g bt 4000 btf, cw_k5 st (nI na) (nI nu) kd dp cl sa ln bt pn bf] H locs := hZ
  refine lv_if_ne (tgt := 17) hx hb dX7_place_8 (by decide) (fun c3 => ?_) (fun c3 => ?_)
  · obtain ⟨a1, ha1, ea1⟩ := zl_has (by omega) c3
    have hl : lv_has ls 7 [(0, .ref h0), (1, .int (nI a1)), (2, .int x2), (3, .int x3), (4, .int x4), (5, .int x5)] := by rw [← ea1]; exact hl
    have bd4 : a1 < 2 ^ 31 := by omega
    have d_a1 : x1.toNatClampNeg = a1 := by rw [ea1]; exact nI_clamp bd4
    obtain ⟨sz1, lz1, dz1, es1, el1, ed1, g11, g21, g31, g41⟩ := h_S.2.2 a1 ha1
    have bd5 : sz1 < 2 ^ 31 := by omega
    have d_sz1 : (saf a1).toNatClampNeg = sz1 := by rw [es1]; exact nI_clamp bd5
    have bd6 : lz1 < 2 ^ 31 := by omega
    have d_lz1 : (lnf a1).toNatClampNeg = lz1 := by rw [el1]; exact nI_clamp bd6
    have bd7 : dz1 < 2 ^ 31 := by omega
    have d_dz1 : (dpf a1).toNatClampNeg = dz1 := by rw [ed1]; exact nI_clamp bd7
    refine lv_aload_n hx hb dX7_place_17 rfl (lv_at hl 0 rfl) ?_
    refine zz_get hC hZ 0 rfl zf_X7_10 rfl dX7_place_18 ?_
    refine lv_iload_n hx hb dX7_place_21 rfl (lv_at hl 1 rfl) ?_
    refine lv_iload_n hx hb dX7_place_22 rfl (lv_at hl 2 rfl) ?_
    refine lv_iload_n hx hb dX7_place_23 rfl (lv_at hl 3 rfl) ?_
    refine lv_iload hx hb dX7_place_24 (lv_at hl 4 rfl) ?_
    refine lv_iload hx hb dX7_place_26 (lv_at hl 5 rfl) ?_
    refine zz_iV (As := [.int (nI a1), .int x2, .int x3, .int x4, .int x5]) (wc := [cw_k5 st (nI na) (nI nu) kd dp cl sa ln bt pn bf, cw_i g dp 60 dpf, cw_i g sa 60 saf, cw_i g ln 60 lnf, cw_l g bt 4000 btf]) (wr := [cw_k6 h0 st mk lk ch ru mr md la]) (rest := []) hC hZ hs hl zc_X7_134 (co_walk g st kd dp cl sa ln bt pn bf na nu dpf saf lnf btf a1 x2 x3 x4 x5 (h_S) (by omega)) [5, 1, 2, 3, 4] [0] rfl rfl (by decide +kernel) (ci := 5) (q0 := 0) rfl rfl rfl rfl (Nat.le_of_ble_eq_true rfl) ⟨⟨Nat.le_of_ble_eq_true rfl, Nat.le_of_ble_eq_true rfl⟩, Nat.le_of_ble_eq_true rfl, Nat.le_of_ble_eq_true rfl⟩ dX7_place_28 (fun r8 u9 H locs hp hZ => ?_)
    obtain ⟨f10, f11, rfl⟩ := hp
    have hZ : zz_Z g A s.heap [cw_k6 h0 st mk lk ch ru mr md la, cw_k5 st (nI na) (nI nu) kd dp cl sa ln bt pn bf, cw_i g dp 60 dpf, cw_i g sa 60 saf, cw_i g ln 60 lnf, cw_l g bt 4000 btf] H locs := hZ
    have d_r8 : sp_walk na dpf saf lnf btf 4 a1 0 (zz_pa x2 x3 x4 x5) = r8 := f11.symm
    refine lv_istore (lv' := [(6, .int r8), (0, .ref h0), (1, .int (nI a1)), (2, .int x2), (3, .int x3), (4, .int x4), (5, .int x5)]) hx hb dX7_place_31 hl (by decide) rfl (fun ls hl => ?_)
    refine lv_iload hx hb dX7_place_33 (lv_at hl 0 rfl) ?_
    refine lv_if_ge (tgt := 48) hx hb dX7_place_35 (by decide) (fun c12 => ?_) (fun c12 => ?_)
    · obtain ⟨bw, qw, lzw0, ew, hbw, elw0, hqw0, hlw0, edw0⟩ := zl_WR f10 (zl_ge0 c12)
      have hl : lv_has ls 7 [(6, .int (nI (1000 * bw + qw))), (0, .ref h0), (1, .int (nI a1)), (2, .int x2), (3, .int x3), (4, .int x4), (5, .int x5)] := by rw [← ew]; exact hl
      obtain ⟨szw, lzw, dzw, esw, elw, edw, g1w, g2w, g3w, g4w⟩ := h_S.2.2 bw hbw
      have hqw : qw < lzw := by have := zl_lz rfl elw0 elw (by omega) (by omega); omega
      have d_bw : r8.toNatClampNeg / 1000 = bw := by rw [ew, nI_clamp (by omega)]; omega
      have d_qw : r8.toNatClampNeg % 1000 = qw := by rw [ew, nI_clamp (by omega)]; omega
      have bd13 : szw < 2 ^ 31 := by omega
      have d_szw : (saf bw).toNatClampNeg = szw := by rw [esw]; exact nI_clamp bd13
      have bd14 : lzw < 2 ^ 31 := by omega
      have d_lzw : (lnf bw).toNatClampNeg = lzw := by rw [elw]; exact nI_clamp bd14
      have bd15 : dzw < 2 ^ 31 := by omega
      have d_dzw : (dpf bw).toNatClampNeg = dzw := by rw [edw]; exact nI_clamp bd15
      refine lv_aload_n hx hb dX7_place_48 rfl (lv_at hl 1 rfl) ?_
      refine lv_iload hx hb dX7_place_49 (lv_at hl 0 rfl) ?_
      refine zz_iV (As := [.int (nI (1000 * bw + qw))]) (wc := [cw_k6 h0 st mk lk ch ru mr md la]) (wr := [cw_k5 st (nI na) (nI nu) kd dp cl sa ln bt pn bf, cw_i g dp 60 dpf, cw_i g sa 60 saf, cw_i g ln 60 lnf, cw_l g bt 4000 btf]) (rest := []) hC hZ hs hl zc_X7_100 (co_fine g h0 st mk lk ch ru mr md la (nI (1000 * bw + qw))) [0] [1, 2, 3, 4, 5] rfl rfl (by decide +kernel) (ci := 6) (q0 := 0) rfl rfl rfl rfl (Nat.le_of_ble_eq_true rfl) ⟨⟨Nat.le_of_ble_eq_true rfl, Nat.le_of_ble_eq_true rfl⟩, Nat.le_of_ble_eq_true rfl, Nat.le_of_ble_eq_true rfl⟩ dX7_place_51 (fun r16 u17 H locs hp hZ => ?_)
      obtain ⟨rfl, rfl⟩ := hp
      have hZ : zz_Z g A s.heap [cw_k5 st (nI na) (nI nu) kd dp cl sa ln bt pn bf, cw_i g dp 60 dpf, cw_i g sa 60 saf, cw_i g ln 60 lnf, cw_l g bt 4000 btf, cw_k6 h0 st mk lk ch ru mr md 0] H locs := hZ
      have hZ : zz_Z g A s.heap [cw_k6 h0 st mk lk ch ru mr md 0, cw_k5 st (nI na) (nI nu) kd dp cl sa ln bt pn bf, cw_i g dp 60 dpf, cw_i g sa 60 saf, cw_i g ln 60 lnf, cw_l g bt 4000 btf] H locs := hZ.sub [5, 0, 1, 2, 3, 4] (by decide +kernel) rfl
      exact zz_iret hC hZ (⟨0, by refine Eq.symm ?_; rw [fn_cx_place]; refine (if_neg (by (try simp only [d_a1, d_sz1, d_lz1, d_dz1, d_r8, d_bw, d_qw, d_szw, d_lzw, d_dzw]); exact c3)).trans ?_; refine (if_pos (by (try simp only [d_a1, d_sz1, d_lz1, d_dz1, d_r8, d_bw, d_qw, d_szw, d_lzw, d_dzw]); exact c12)).trans ?_; first | (simp only [d_a1, d_sz1, d_lz1, d_dz1, d_r8, d_bw, d_qw, d_szw, d_lzw, d_dzw]; done) | rfl, rfl⟩) (Nat.le_of_ble_eq_true rfl) (Nat.le_of_ble_eq_true rfl) dX7_place_54
    · refine lv_aload_n hx hb dX7_place_38 rfl (lv_at hl 1 rfl) ?_
      refine lv_iload hx hb dX7_place_39 (lv_at hl 0 rfl) ?_
      refine lv_ineg hx hb dX7_place_41 ?_
      refine zz_iV (As := [.int (-r8)]) (wc := [cw_k6 h0 st mk lk ch ru mr md la]) (wr := [cw_k5 st (nI na) (nI nu) kd dp cl sa ln bt pn bf, cw_i g dp 60 dpf, cw_i g sa 60 saf, cw_i g ln 60 lnf, cw_l g bt 4000 btf]) (rest := []) hC hZ hs hl zc_X7_65 (co_fail g h0 st mk lk ch ru mr md la (-r8)) [0] [1, 2, 3, 4, 5] rfl rfl (by decide +kernel) (ci := 6) (q0 := 0) rfl rfl rfl rfl (Nat.le_of_ble_eq_true rfl) ⟨⟨Nat.le_of_ble_eq_true rfl, Nat.le_of_ble_eq_true rfl⟩, Nat.le_of_ble_eq_true rfl, Nat.le_of_ble_eq_true rfl⟩ dX7_place_42 (fun r18 u19 H locs hp hZ => ?_)
      obtain ⟨rfl, rfl⟩ := hp
      have hZ : zz_Z g A s.heap [cw_k5 st (nI na) (nI nu) kd dp cl sa ln bt pn bf, cw_i g dp 60 dpf, cw_i g sa 60 saf, cw_i g ln 60 lnf, cw_l g bt 4000 btf, cw_k6 h0 st mk lk ch ru mr md (-r8)] H locs := hZ
      refine lv_goto (tgt := 54) hx hb dX7_place_45 (by decide) ?_
      have hZ : zz_Z g A s.heap [cw_k6 h0 st mk lk ch ru mr md (-r8), cw_k5 st (nI na) (nI nu) kd dp cl sa ln bt pn bf, cw_i g dp 60 dpf, cw_i g sa 60 saf, cw_i g ln 60 lnf, cw_l g bt 4000 btf] H locs := hZ.sub [5, 0, 1, 2, 3, 4] (by decide +kernel) rfl
      exact zz_iret hC hZ (⟨(-r8), by refine Eq.symm ?_; rw [fn_cx_place]; refine (if_neg (by (try simp only [d_a1, d_sz1, d_lz1, d_dz1, d_r8]); exact c3)).trans ?_; refine (if_neg (by (try simp only [d_a1, d_sz1, d_lz1, d_dz1, d_r8]); exact c12)).trans ?_; first | (simp only [d_a1, d_sz1, d_lz1, d_dz1, d_r8]; done) | rfl, rfl⟩) (Nat.le_of_ble_eq_true rfl) (Nat.le_of_ble_eq_true rfl) dX7_place_54
  · refine lv_aload_n hx hb dX7_place_11 rfl (lv_at hl 0 rfl) ?_
    refine lv_iconst (v := 5) hx hb dX7_place_12 (by decide) ?_
    refine zz_iV (As := [.int 5]) (wc := [cw_k6 h0 st mk lk ch ru mr md la]) (wr := [cw_i g dp 60 dpf, cw_i g sa 60 saf, cw_i g ln 60 lnf, cw_l g bt 4000 btf, cw_k5 st (nI na) (nI nu) kd dp cl sa ln bt pn bf]) (rest := []) hC hZ hs hl zc_X7_65 (co_fail g h0 st mk lk ch ru mr md la 5) [0] [1, 2, 3, 4, 5] rfl rfl (by decide +kernel) (ci := 6) (q0 := 0) rfl rfl rfl rfl (Nat.le_of_ble_eq_true rfl) ⟨⟨Nat.le_of_ble_eq_true rfl, Nat.le_of_ble_eq_true rfl⟩, Nat.le_of_ble_eq_true rfl, Nat.le_of_ble_eq_true rfl⟩ dX7_place_13 (fun r20 u21 H locs hp hZ => ?_)
    obtain ⟨rfl, rfl⟩ := hp
    have hZ : zz_Z g A s.heap [cw_i g dp 60 dpf, cw_i g sa 60 saf, cw_i g ln 60 lnf, cw_l g bt 4000 btf, cw_k5 st (nI na) (nI nu) kd dp cl sa ln bt pn bf, cw_k6 h0 st mk lk ch ru mr md 5] H locs := hZ
    have hZ : zz_Z g A s.heap [cw_k6 h0 st mk lk ch ru mr md 5, cw_k5 st (nI na) (nI nu) kd dp cl sa ln bt pn bf, cw_i g dp 60 dpf, cw_i g sa 60 saf, cw_i g ln 60 lnf, cw_l g bt 4000 btf] H locs := hZ.sub [5, 4, 0, 1, 2, 3] (by decide +kernel) rfl
    exact zz_iret hC hZ (⟨5, by show _ = _; rw [fn_cx_place]; rw [if_pos c3], rfl⟩) (Nat.le_of_ble_eq_true rfl) (Nat.le_of_ble_eq_true rfl) dX7_place_16
theorem dg_X7_pin_0 : (decode cX7_pin 0 = .ok (.aload_n 0, 1)) ∧ (decode cX7_pin 1 = .ok (.getfield 10, 3)) ∧ (decode cX7_pin 4 = .ok (.iload_n 1, 1)) ∧ (decode cX7_pin 5 = .ok (.invokevirtual 73, 3)) ∧ (decode cX7_pin 8 = .ok (.ifCond .ne 9, 3)) ∧ (decode cX7_pin 11 = .ok (.aload_n 0, 1)) ∧ (decode cX7_pin 12 = .ok (.iconst 5, 1)) ∧ (decode cX7_pin 13 = .ok (.invokevirtual 65, 3)) ∧ (decode cX7_pin 16 = .ok (.ireturn, 1)) ∧ (decode cX7_pin 17 = .ok (.aload_n 0, 1)) ∧ (decode cX7_pin 18 = .ok (.getfield 10, 3)) ∧ (decode cX7_pin 21 = .ok (.iload_n 1, 1)) ∧ (decode cX7_pin 22 = .ok (.iload_n 2, 1)) ∧ (decode cX7_pin 23 = .ok (.iload_n 3, 1)) ∧ (decode cX7_pin 24 = .ok (.iload 4, 2)) ∧ (decode cX7_pin 26 = .ok (.iload 5, 2)) := by decide +kernel
theorem dX7_pin_0 : decode cX7_pin 0 = .ok (.aload_n 0, 1) := dg_X7_pin_0.1
theorem dX7_pin_1 : decode cX7_pin 1 = .ok (.getfield 10, 3) := dg_X7_pin_0.2.1
theorem dX7_pin_4 : decode cX7_pin 4 = .ok (.iload_n 1, 1) := dg_X7_pin_0.2.2.1
theorem dX7_pin_5 : decode cX7_pin 5 = .ok (.invokevirtual 73, 3) := dg_X7_pin_0.2.2.2.1
theorem dX7_pin_8 : decode cX7_pin 8 = .ok (.ifCond .ne 9, 3) := dg_X7_pin_0.2.2.2.2.1
theorem dX7_pin_11 : decode cX7_pin 11 = .ok (.aload_n 0, 1) := dg_X7_pin_0.2.2.2.2.2.1
theorem dX7_pin_12 : decode cX7_pin 12 = .ok (.iconst 5, 1) := dg_X7_pin_0.2.2.2.2.2.2.1
theorem dX7_pin_13 : decode cX7_pin 13 = .ok (.invokevirtual 65, 3) := dg_X7_pin_0.2.2.2.2.2.2.2.1
theorem dX7_pin_16 : decode cX7_pin 16 = .ok (.ireturn, 1) := dg_X7_pin_0.2.2.2.2.2.2.2.2.1
theorem dX7_pin_17 : decode cX7_pin 17 = .ok (.aload_n 0, 1) := dg_X7_pin_0.2.2.2.2.2.2.2.2.2.1
theorem dX7_pin_18 : decode cX7_pin 18 = .ok (.getfield 10, 3) := dg_X7_pin_0.2.2.2.2.2.2.2.2.2.2.1
theorem dX7_pin_21 : decode cX7_pin 21 = .ok (.iload_n 1, 1) := dg_X7_pin_0.2.2.2.2.2.2.2.2.2.2.2.1
theorem dX7_pin_22 : decode cX7_pin 22 = .ok (.iload_n 2, 1) := dg_X7_pin_0.2.2.2.2.2.2.2.2.2.2.2.2.1
theorem dX7_pin_23 : decode cX7_pin 23 = .ok (.iload_n 3, 1) := dg_X7_pin_0.2.2.2.2.2.2.2.2.2.2.2.2.2.1
theorem dX7_pin_24 : decode cX7_pin 24 = .ok (.iload 4, 2) := dg_X7_pin_0.2.2.2.2.2.2.2.2.2.2.2.2.2.2.1
theorem dX7_pin_26 : decode cX7_pin 26 = .ok (.iload 5, 2) := dg_X7_pin_0.2.2.2.2.2.2.2.2.2.2.2.2.2.2.2
theorem dg_X7_pin_28 : (decode cX7_pin 28 = .ok (.invokevirtual 134, 3)) ∧ (decode cX7_pin 31 = .ok (.istore 7, 2)) ∧ (decode cX7_pin 33 = .ok (.iload 7, 2)) ∧ (decode cX7_pin 35 = .ok (.ifCond .ge 11, 3)) ∧ (decode cX7_pin 38 = .ok (.aload_n 0, 1)) ∧ (decode cX7_pin 39 = .ok (.iload 7, 2)) ∧ (decode cX7_pin 41 = .ok (.ineg, 1)) ∧ (decode cX7_pin 42 = .ok (.invokevirtual 65, 3)) ∧ (decode cX7_pin 45 = .ok (.ireturn, 1)) ∧ (decode cX7_pin 46 = .ok (.aload_n 0, 1)) ∧ (decode cX7_pin 47 = .ok (.getfield 10, 3)) ∧ (decode cX7_pin 50 = .ok (.iload 7, 2)) ∧ (decode cX7_pin 52 = .ok (.invokevirtual 141, 3)) ∧ (decode cX7_pin 55 = .ok (.istore 8, 2)) ∧ (decode cX7_pin 57 = .ok (.aload_n 0, 1)) ∧ (decode cX7_pin 58 = .ok (.getfield 10, 3)) := by decide +kernel
theorem dX7_pin_28 : decode cX7_pin 28 = .ok (.invokevirtual 134, 3) := dg_X7_pin_28.1
theorem dX7_pin_31 : decode cX7_pin 31 = .ok (.istore 7, 2) := dg_X7_pin_28.2.1
theorem dX7_pin_33 : decode cX7_pin 33 = .ok (.iload 7, 2) := dg_X7_pin_28.2.2.1
theorem dX7_pin_35 : decode cX7_pin 35 = .ok (.ifCond .ge 11, 3) := dg_X7_pin_28.2.2.2.1
theorem dX7_pin_38 : decode cX7_pin 38 = .ok (.aload_n 0, 1) := dg_X7_pin_28.2.2.2.2.1
theorem dX7_pin_39 : decode cX7_pin 39 = .ok (.iload 7, 2) := dg_X7_pin_28.2.2.2.2.2.1
theorem dX7_pin_41 : decode cX7_pin 41 = .ok (.ineg, 1) := dg_X7_pin_28.2.2.2.2.2.2.1
theorem dX7_pin_42 : decode cX7_pin 42 = .ok (.invokevirtual 65, 3) := dg_X7_pin_28.2.2.2.2.2.2.2.1
theorem dX7_pin_45 : decode cX7_pin 45 = .ok (.ireturn, 1) := dg_X7_pin_28.2.2.2.2.2.2.2.2.1
theorem dX7_pin_46 : decode cX7_pin 46 = .ok (.aload_n 0, 1) := dg_X7_pin_28.2.2.2.2.2.2.2.2.2.1
theorem dX7_pin_47 : decode cX7_pin 47 = .ok (.getfield 10, 3) := dg_X7_pin_28.2.2.2.2.2.2.2.2.2.2.1
theorem dX7_pin_50 : decode cX7_pin 50 = .ok (.iload 7, 2) := dg_X7_pin_28.2.2.2.2.2.2.2.2.2.2.2.1
theorem dX7_pin_52 : decode cX7_pin 52 = .ok (.invokevirtual 141, 3) := dg_X7_pin_28.2.2.2.2.2.2.2.2.2.2.2.2.1
theorem dX7_pin_55 : decode cX7_pin 55 = .ok (.istore 8, 2) := dg_X7_pin_28.2.2.2.2.2.2.2.2.2.2.2.2.2.1
theorem dX7_pin_57 : decode cX7_pin 57 = .ok (.aload_n 0, 1) := dg_X7_pin_28.2.2.2.2.2.2.2.2.2.2.2.2.2.2.1
theorem dX7_pin_58 : decode cX7_pin 58 = .ok (.getfield 10, 3) := dg_X7_pin_28.2.2.2.2.2.2.2.2.2.2.2.2.2.2.2
theorem dg_X7_pin_61 : (decode cX7_pin 61 = .ok (.getfield 152, 3)) ∧ (decode cX7_pin 64 = .ok (.iload 8, 2)) ∧ (decode cX7_pin 66 = .ok (.baload, 1)) ∧ (decode cX7_pin 67 = .ok (.ifCond .eq 7, 3)) ∧ (decode cX7_pin 70 = .ok (.iconst 1, 1)) ∧ (decode cX7_pin 71 = .ok (.goto 4, 3)) ∧ (decode cX7_pin 74 = .ok (.iconst 0, 1)) ∧ (decode cX7_pin 75 = .ok (.istore 9, 2)) ∧ (decode cX7_pin 77 = .ok (.aload_n 0, 1)) ∧ (decode cX7_pin 78 = .ok (.getfield 10, 3)) ∧ (decode cX7_pin 81 = .ok (.getfield 152, 3)) ∧ (decode cX7_pin 84 = .ok (.iload 8, 2)) ∧ (decode cX7_pin 86 = .ok (.iload 6, 2)) ∧ (decode cX7_pin 88 = .ok (.bastore, 1)) ∧ (decode cX7_pin 89 = .ok (.aload_n 0, 1)) ∧ (decode cX7_pin 90 = .ok (.iload 9, 2)) := by decide +kernel
theorem dX7_pin_61 : decode cX7_pin 61 = .ok (.getfield 152, 3) := dg_X7_pin_61.1
theorem dX7_pin_64 : decode cX7_pin 64 = .ok (.iload 8, 2) := dg_X7_pin_61.2.1
theorem dX7_pin_66 : decode cX7_pin 66 = .ok (.baload, 1) := dg_X7_pin_61.2.2.1
theorem dX7_pin_67 : decode cX7_pin 67 = .ok (.ifCond .eq 7, 3) := dg_X7_pin_61.2.2.2.1
theorem dX7_pin_70 : decode cX7_pin 70 = .ok (.iconst 1, 1) := dg_X7_pin_61.2.2.2.2.1
theorem dX7_pin_71 : decode cX7_pin 71 = .ok (.goto 4, 3) := dg_X7_pin_61.2.2.2.2.2.1
theorem dX7_pin_74 : decode cX7_pin 74 = .ok (.iconst 0, 1) := dg_X7_pin_61.2.2.2.2.2.2.1
theorem dX7_pin_75 : decode cX7_pin 75 = .ok (.istore 9, 2) := dg_X7_pin_61.2.2.2.2.2.2.2.1
theorem dX7_pin_77 : decode cX7_pin 77 = .ok (.aload_n 0, 1) := dg_X7_pin_61.2.2.2.2.2.2.2.2.1
theorem dX7_pin_78 : decode cX7_pin 78 = .ok (.getfield 10, 3) := dg_X7_pin_61.2.2.2.2.2.2.2.2.2.1
theorem dX7_pin_81 : decode cX7_pin 81 = .ok (.getfield 152, 3) := dg_X7_pin_61.2.2.2.2.2.2.2.2.2.2.1
theorem dX7_pin_84 : decode cX7_pin 84 = .ok (.iload 8, 2) := dg_X7_pin_61.2.2.2.2.2.2.2.2.2.2.2.1
theorem dX7_pin_86 : decode cX7_pin 86 = .ok (.iload 6, 2) := dg_X7_pin_61.2.2.2.2.2.2.2.2.2.2.2.2.1
theorem dX7_pin_88 : decode cX7_pin 88 = .ok (.bastore, 1) := dg_X7_pin_61.2.2.2.2.2.2.2.2.2.2.2.2.2.1
theorem dX7_pin_89 : decode cX7_pin 89 = .ok (.aload_n 0, 1) := dg_X7_pin_61.2.2.2.2.2.2.2.2.2.2.2.2.2.2.1
theorem dX7_pin_90 : decode cX7_pin 90 = .ok (.iload 9, 2) := dg_X7_pin_61.2.2.2.2.2.2.2.2.2.2.2.2.2.2.2
theorem dg_X7_pin_92 : (decode cX7_pin 92 = .ok (.invokevirtual 100, 3)) ∧ (decode cX7_pin 95 = .ok (.ireturn, 1)) := by decide +kernel
theorem dX7_pin_92 : decode cX7_pin 92 = .ok (.invokevirtual 100, 3) := dg_X7_pin_92.1
theorem dX7_pin_95 : decode cX7_pin 95 = .ok (.ireturn, 1) := dg_X7_pin_92.2
def fo_cx_pin (na : Nat) (nu : Nat) (dpf : Nat → Int32) (saf : Nat → Int32) (lnf : Nat → Int32) (btf : Nat → Int64) (pnf : Nat → Int32) (x1 : Int32) (x2 : Int32) (x3 : Int32) (x4 : Int32) (x5 : Int32) (x6 : Int32) : (Int32) × (Nat → Int32) := (if (fn_co_has (nI na) x1) = 0 then (-5, pnf) else (if 0 ≤ (sp_walk na dpf saf lnf btf 4 x1.toNatClampNeg 0 (zz_pa x2 x3 x4 x5)) then (if (pnf (((saf ((sp_walk na dpf saf lnf btf 4 x1.toNatClampNeg 0 (zz_pa x2 x3 x4 x5)).toNatClampNeg / 1000)).toNatClampNeg) + ((sp_walk na dpf saf lnf btf 4 x1.toNatClampNeg 0 (zz_pa x2 x3 x4 x5)).toNatClampNeg % 1000))) = 0 then (0, (upd pnf (((saf ((sp_walk na dpf saf lnf btf 4 x1.toNatClampNeg 0 (zz_pa x2 x3 x4 x5)).toNatClampNeg / 1000)).toNatClampNeg) + ((sp_walk na dpf saf lnf btf 4 x1.toNatClampNeg 0 (zz_pa x2 x3 x4 x5)).toNatClampNeg % 1000)) (x6 &&& 1))) else (1, (upd pnf (((saf ((sp_walk na dpf saf lnf btf 4 x1.toNatClampNeg 0 (zz_pa x2 x3 x4 x5)).toNatClampNeg / 1000)).toNatClampNeg) + ((sp_walk na dpf saf lnf btf 4 x1.toNatClampNeg 0 (zz_pa x2 x3 x4 x5)).toNatClampNeg % 1000)) (x6 &&& 1)))) else ((-(-(sp_walk na dpf saf lnf btf 4 x1.toNatClampNeg 0 (zz_pa x2 x3 x4 x5)))), pnf)))
abbrev rm_cx_pin : Room := { frames := 2, cells := 0, slots := 0, locals := 51 }
abbrev po_cx_pin (g : zz_G) (h0 : Nat) (st : Nat) (mk : Nat) (lk : Nat) (ch : Nat) (ru : Nat) (mr : Nat) (kd : Nat) (dp : Nat) (cl : Nat) (sa : Nat) (ln : Nat) (bt : Nat) (pn : Nat) (bf : Nat) (md : Int32) (la : Int32) (na : Nat) (nu : Nat) (dpf : Nat → Int32) (saf : Nat → Int32) (lnf : Nat → Int32) (btf : Nat → Int64) (pnf : Nat → Int32) (x1 : Int32) (x2 : Int32) (x3 : Int32) (x4 : Int32) (x5 : Int32) (x6 : Int32) (h_S : zz_SI na nu dpf saf lnf) : Int32 → va_W → Prop := fun (r : Int32) (u : va_W) => ∃ (la2 : Int32) (pn2 : Nat → Int32), (r, pn2) = fo_cx_pin na nu dpf saf lnf btf pnf x1 x2 x3 x4 x5 x6 ∧ u = [cw_k6 h0 st mk lk ch ru mr md la2, cw_k5 st (nI na) (nI nu) kd dp cl sa ln bt pn bf, cw_i g dp 60 dpf, cw_i g sa 60 saf, cw_i g ln 60 lnf, cw_l g bt 4000 btf, cw_z g pn 4000 pn2]
set_option maxHeartbeats 4000000 in
set_option maxRecDepth 100000 in
theorem cx_pin (g : zz_G) (h0 : Nat) (st : Nat) (mk : Nat) (lk : Nat) (ch : Nat) (ru : Nat) (mr : Nat) (kd : Nat) (dp : Nat) (cl : Nat) (sa : Nat) (ln : Nat) (bt : Nat) (pn : Nat) (bf : Nat) (md : Int32) (la : Int32) (na : Nat) (nu : Nat) (dpf : Nat → Int32) (saf : Nat → Int32) (lnf : Nat → Int32) (btf : Nat → Int64) (pnf : Nat → Int32) (x1 : Int32) (x2 : Int32) (x3 : Int32) (x4 : Int32) (x5 : Int32) (x6 : Int32) (h_S : zz_SI na nu dpf saf lnf) : zz_I g yX7_pin (.code yX7_pin cX7_pin 10 (some .int)) rm_cx_pin [.ref h0, .int x1, .int x2, .int x3, .int x4, .int x5, .int x6] [cw_k6 h0 st mk lk ch ru mr md la, cw_k5 st (nI na) (nI nu) kd dp cl sa ln bt pn bf, cw_i g dp 60 dpf, cw_i g sa 60 saf, cw_i g ln 60 lnf, cw_l g bt 4000 btf, cw_z g pn 4000 pnf] (po_cx_pin g h0 st mk lk ch ru mr kd dp cl sa ln bt pn bf md la na nu dpf saf lnf btf pnf x1 x2 x3 x4 x5 x6 h_S) := by
  refine zz_I.intro (own := RX7) (cc := cX7_pin) (nL := 10) (by decide) rfl (Nat.le_of_ble_eq_true rfl) ?_
  intro p l e s m args below meth c A H locs ls hC hnm hs hZ hl
  obtain ⟨hx, hb, hml, hown, hts, hr, hlocks, hK⟩ := id hC
  have hl : lv_has ls 10 [(0, .ref h0), (1, .int x1), (2, .int x2), (3, .int x3), (4, .int x4), (5, .int x5), (6, .int x6)] := hl
  have hZ : zz_Z g A s.heap [cw_k6 h0 st mk lk ch ru mr md la, cw_k5 st (nI na) (nI nu) kd dp cl sa ln bt pn bf, cw_i g dp 60 dpf, cw_i g sa 60 saf, cw_i g ln 60 lnf, cw_l g bt 4000 btf, cw_z g pn 4000 pnf] H locs := hZ
  have hna := h_S.1
  have hnu := h_S.2.1
  refine lv_aload_n hx hb dX7_pin_0 rfl (lv_at hl 0 rfl) ?_
  refine zz_get hC hZ 0 rfl zf_X7_10 rfl dX7_pin_1 ?_
  refine lv_iload_n hx hb dX7_pin_4 rfl (lv_at hl 1 rfl) ?_
  refine zz_iV (As := [.int x1]) (wc := [cw_k5 st (nI na) (nI nu) kd dp cl sa ln bt pn bf]) (wr := [cw_k6 h0 st mk lk ch ru mr md la, cw_i g dp 60 dpf, cw_i g sa 60 saf, cw_i g ln 60 lnf, cw_l g bt 4000 btf, cw_z g pn 4000 pnf]) (rest := []) hC hZ hs hl zc_X7_73 (co_has g st kd dp cl sa ln bt pn bf (nI na) (nI nu) x1) [1] [0, 2, 3, 4, 5, 6] rfl rfl (by decide +kernel) (ci := 5) (q0 := 0) rfl rfl rfl rfl (Nat.le_of_ble_eq_true rfl) ⟨⟨Nat.le_of_ble_eq_true rfl, Nat.le_of_ble_eq_true rfl⟩, Nat.le_of_ble_eq_true rfl, Nat.le_of_ble_eq_true rfl⟩ dX7_pin_5 (fun r1 u2 H locs hp hZ => ?_)
  obtain ⟨rfl, rfl⟩ := hp
  have hZ : zz_Z g A s.heap [cw_k6 h0 st mk lk ch ru mr md la, cw_i g dp 60 dpf, cw_i g sa 60 saf, cw_i g ln 60 lnf, cw_l g bt 4000 btf, cw_z g pn 4000 pnf, cw_k5 st (nI na) (nI nu) kd dp cl sa ln bt pn bf] H locs := hZ
  refine lv_if_ne (tgt := 17) hx hb dX7_pin_8 (by decide) (fun c3 => ?_) (fun c3 => ?_)
  · obtain ⟨a1, ha1, ea1⟩ := zl_has (by omega) c3
    have hl : lv_has ls 10 [(0, .ref h0), (1, .int (nI a1)), (2, .int x2), (3, .int x3), (4, .int x4), (5, .int x5), (6, .int x6)] := by rw [← ea1]; exact hl
    have bd4 : a1 < 2 ^ 31 := by omega
    have d_a1 : x1.toNatClampNeg = a1 := by rw [ea1]; exact nI_clamp bd4
    obtain ⟨sz1, lz1, dz1, es1, el1, ed1, g11, g21, g31, g41⟩ := h_S.2.2 a1 ha1
    have bd5 : sz1 < 2 ^ 31 := by omega
    have d_sz1 : (saf a1).toNatClampNeg = sz1 := by rw [es1]; exact nI_clamp bd5
    have bd6 : lz1 < 2 ^ 31 := by omega
    have d_lz1 : (lnf a1).toNatClampNeg = lz1 := by rw [el1]; exact nI_clamp bd6
    have bd7 : dz1 < 2 ^ 31 := by omega
    have d_dz1 : (dpf a1).toNatClampNeg = dz1 := by rw [ed1]; exact nI_clamp bd7
    refine lv_aload_n hx hb dX7_pin_17 rfl (lv_at hl 0 rfl) ?_
    refine zz_get hC hZ 0 rfl zf_X7_10 rfl dX7_pin_18 ?_
    refine lv_iload_n hx hb dX7_pin_21 rfl (lv_at hl 1 rfl) ?_
    refine lv_iload_n hx hb dX7_pin_22 rfl (lv_at hl 2 rfl) ?_
    refine lv_iload_n hx hb dX7_pin_23 rfl (lv_at hl 3 rfl) ?_
    refine lv_iload hx hb dX7_pin_24 (lv_at hl 4 rfl) ?_
    refine lv_iload hx hb dX7_pin_26 (lv_at hl 5 rfl) ?_
    refine zz_iV (As := [.int (nI a1), .int x2, .int x3, .int x4, .int x5]) (wc := [cw_k5 st (nI na) (nI nu) kd dp cl sa ln bt pn bf, cw_i g dp 60 dpf, cw_i g sa 60 saf, cw_i g ln 60 lnf, cw_l g bt 4000 btf]) (wr := [cw_k6 h0 st mk lk ch ru mr md la, cw_z g pn 4000 pnf]) (rest := []) hC hZ hs hl zc_X7_134 (co_walk g st kd dp cl sa ln bt pn bf na nu dpf saf lnf btf a1 x2 x3 x4 x5 (h_S) (by omega)) [6, 1, 2, 3, 4] [0, 5] rfl rfl (by decide +kernel) (ci := 5) (q0 := 0) rfl rfl rfl rfl (Nat.le_of_ble_eq_true rfl) ⟨⟨Nat.le_of_ble_eq_true rfl, Nat.le_of_ble_eq_true rfl⟩, Nat.le_of_ble_eq_true rfl, Nat.le_of_ble_eq_true rfl⟩ dX7_pin_28 (fun r8 u9 H locs hp hZ => ?_)
    obtain ⟨f10, f11, rfl⟩ := hp
    have hZ : zz_Z g A s.heap [cw_k6 h0 st mk lk ch ru mr md la, cw_z g pn 4000 pnf, cw_k5 st (nI na) (nI nu) kd dp cl sa ln bt pn bf, cw_i g dp 60 dpf, cw_i g sa 60 saf, cw_i g ln 60 lnf, cw_l g bt 4000 btf] H locs := hZ
    have d_r8 : sp_walk na dpf saf lnf btf 4 a1 0 (zz_pa x2 x3 x4 x5) = r8 := f11.symm
    refine lv_istore (lv' := [(7, .int r8), (0, .ref h0), (1, .int (nI a1)), (2, .int x2), (3, .int x3), (4, .int x4), (5, .int x5), (6, .int x6)]) hx hb dX7_pin_31 hl (by decide) rfl (fun ls hl => ?_)
    refine lv_iload hx hb dX7_pin_33 (lv_at hl 0 rfl) ?_
    refine lv_if_ge (tgt := 46) hx hb dX7_pin_35 (by decide) (fun c12 => ?_) (fun c12 => ?_)
    · obtain ⟨bw, qw, lzw0, ew, hbw, elw0, hqw0, hlw0, edw0⟩ := zl_WR f10 (zl_ge0 c12)
      have hl : lv_has ls 10 [(7, .int (nI (1000 * bw + qw))), (0, .ref h0), (1, .int (nI a1)), (2, .int x2), (3, .int x3), (4, .int x4), (5, .int x5), (6, .int x6)] := by rw [← ew]; exact hl
      obtain ⟨szw, lzw, dzw, esw, elw, edw, g1w, g2w, g3w, g4w⟩ := h_S.2.2 bw hbw
      have hqw : qw < lzw := by have := zl_lz rfl elw0 elw (by omega) (by omega); omega
      have d_bw : r8.toNatClampNeg / 1000 = bw := by rw [ew, nI_clamp (by omega)]; omega
      have d_qw : r8.toNatClampNeg % 1000 = qw := by rw [ew, nI_clamp (by omega)]; omega
      have bd13 : szw < 2 ^ 31 := by omega
      have d_szw : (saf bw).toNatClampNeg = szw := by rw [esw]; exact nI_clamp bd13
      have bd14 : lzw < 2 ^ 31 := by omega
      have d_lzw : (lnf bw).toNatClampNeg = lzw := by rw [elw]; exact nI_clamp bd14
      have bd15 : dzw < 2 ^ 31 := by omega
      have d_dzw : (dpf bw).toNatClampNeg = dzw := by rw [edw]; exact nI_clamp bd15
      refine lv_aload_n hx hb dX7_pin_46 rfl (lv_at hl 1 rfl) ?_
      refine zz_get hC hZ 0 rfl zf_X7_10 rfl dX7_pin_47 ?_
      refine lv_iload hx hb dX7_pin_50 (lv_at hl 0 rfl) ?_
      refine zz_iV (As := [.int (nI (1000 * bw + qw))]) (wc := [cw_k5 st (nI na) (nI nu) kd dp cl sa ln bt pn bf, cw_i g sa 60 saf]) (wr := [cw_k6 h0 st mk lk ch ru mr md la, cw_z g pn 4000 pnf, cw_i g dp 60 dpf, cw_i g ln 60 lnf, cw_l g bt 4000 btf]) (rest := []) hC hZ hs hl zc_X7_141 (co_slotOf g st kd dp cl sa ln bt pn bf na nu saf bw qw szw (by omega) (esw)) [2, 4] [0, 1, 3, 5, 6] rfl rfl (by decide +kernel) (ci := 5) (q0 := 0) rfl rfl rfl rfl (Nat.le_of_ble_eq_true rfl) ⟨⟨Nat.le_of_ble_eq_true rfl, Nat.le_of_ble_eq_true rfl⟩, Nat.le_of_ble_eq_true rfl, Nat.le_of_ble_eq_true rfl⟩ dX7_pin_52 (fun r16 u17 H locs hp hZ => ?_)
      obtain ⟨rfl, rfl⟩ := hp
      have hZ : zz_Z g A s.heap [cw_k6 h0 st mk lk ch ru mr md la, cw_z g pn 4000 pnf, cw_i g dp 60 dpf, cw_i g ln 60 lnf, cw_l g bt 4000 btf, cw_k5 st (nI na) (nI nu) kd dp cl sa ln bt pn bf, cw_i g sa 60 saf] H locs := hZ
      refine lv_istore (lv' := [(8, .int (nI (szw + qw))), (7, .int (nI (1000 * bw + qw))), (0, .ref h0), (1, .int (nI a1)), (2, .int x2), (3, .int x3), (4, .int x4), (5, .int x5), (6, .int x6)]) hx hb dX7_pin_55 hl (by decide) rfl (fun ls hl => ?_)
      refine lv_aload_n hx hb dX7_pin_57 rfl (lv_at hl 2 rfl) ?_
      refine zz_get hC hZ 0 rfl zf_X7_10 rfl dX7_pin_58 ?_
      refine zz_get hC hZ 5 rfl zf_X7_152 rfl dX7_pin_61 ?_
      refine lv_iload hx hb dX7_pin_64 (lv_at hl 0 rfl) ?_
      have bd18 : (szw + qw) < 4000 := by omega
      refine zz_zaldn hC hZ 1 rfl bd18 (by decide) dX7_pin_66 ?_
      refine lv_if_eq (tgt := 74) hx hb dX7_pin_67 (by decide) (fun c19 => ?_) (fun c19 => ?_)
      · refine lv_iconst (v := 0) hx hb dX7_pin_74 (by decide) ?_
        refine lv_istore (lv' := [(9, .int 0), (8, .int (nI (szw + qw))), (7, .int (nI (1000 * bw + qw))), (0, .ref h0), (1, .int (nI a1)), (2, .int x2), (3, .int x3), (4, .int x4), (5, .int x5), (6, .int x6)]) hx hb dX7_pin_75 hl (by decide) rfl (fun ls hl => ?_)
        refine lv_aload_n hx hb dX7_pin_77 rfl (lv_at hl 3 rfl) ?_
        refine zz_get hC hZ 0 rfl zf_X7_10 rfl dX7_pin_78 ?_
        refine zz_get hC hZ 5 rfl zf_X7_152 rfl dX7_pin_81 ?_
        refine lv_iload hx hb dX7_pin_84 (lv_at hl 1 rfl) ?_
        refine lv_iload hx hb dX7_pin_86 (lv_at hl 9 rfl) ?_
        refine zz_zastn hC hZ 1 rfl bd18 (by decide) dX7_pin_88 (fun H locs hZ => ?_)
        have hZ : zz_Z g A s.heap [cw_k6 h0 st mk lk ch ru mr md la, cw_z g pn 4000 (upd pnf (szw + qw) (x6 &&& 1)), cw_i g dp 60 dpf, cw_i g ln 60 lnf, cw_l g bt 4000 btf, cw_k5 st (nI na) (nI nu) kd dp cl sa ln bt pn bf, cw_i g sa 60 saf] H locs := hZ
        refine lv_aload_n hx hb dX7_pin_89 rfl (lv_at hl 3 rfl) ?_
        refine lv_iload hx hb dX7_pin_90 (lv_at hl 0 rfl) ?_
        refine zz_iV (As := [.int 0]) (wc := [cw_k6 h0 st mk lk ch ru mr md la]) (wr := [cw_z g pn 4000 (upd pnf (szw + qw) (x6 &&& 1)), cw_i g dp 60 dpf, cw_i g ln 60 lnf, cw_l g bt 4000 btf, cw_k5 st (nI na) (nI nu) kd dp cl sa ln bt pn bf, cw_i g sa 60 saf]) (rest := []) hC hZ hs hl zc_X7_100 (co_fine g h0 st mk lk ch ru mr md la 0) [0] [1, 2, 3, 4, 5, 6] rfl rfl (by decide +kernel) (ci := 6) (q0 := 0) rfl rfl rfl rfl (Nat.le_of_ble_eq_true rfl) ⟨⟨Nat.le_of_ble_eq_true rfl, Nat.le_of_ble_eq_true rfl⟩, Nat.le_of_ble_eq_true rfl, Nat.le_of_ble_eq_true rfl⟩ dX7_pin_92 (fun r20 u21 H locs hp hZ => ?_)
        obtain ⟨rfl, rfl⟩ := hp
        have hZ : zz_Z g A s.heap [cw_z g pn 4000 (upd pnf (szw + qw) (x6 &&& 1)), cw_i g dp 60 dpf, cw_i g ln 60 lnf, cw_l g bt 4000 btf, cw_k5 st (nI na) (nI nu) kd dp cl sa ln bt pn bf, cw_i g sa 60 saf, cw_k6 h0 st mk lk ch ru mr md 0] H locs := hZ
        have hZ : zz_Z g A s.heap [cw_k6 h0 st mk lk ch ru mr md 0, cw_k5 st (nI na) (nI nu) kd dp cl sa ln bt pn bf, cw_i g dp 60 dpf, cw_i g sa 60 saf, cw_i g ln 60 lnf, cw_l g bt 4000 btf, cw_z g pn 4000 (upd pnf (szw + qw) (x6 &&& 1))] H locs := hZ.sub [6, 4, 1, 5, 2, 3, 0] (by decide +kernel) rfl
        exact zz_iret hC hZ (⟨0, (upd pnf (szw + qw) (x6 &&& 1)), by refine Eq.symm ?_; rw [fo_cx_pin]; refine (if_neg (by (try simp only [d_a1, d_sz1, d_lz1, d_dz1, d_r8, d_bw, d_qw, d_szw, d_lzw, d_dzw]); exact c3)).trans ?_; refine (if_pos (by (try simp only [d_a1, d_sz1, d_lz1, d_dz1, d_r8, d_bw, d_qw, d_szw, d_lzw, d_dzw]); exact c12)).trans ?_; refine (if_pos (by (try simp only [d_a1, d_sz1, d_lz1, d_dz1, d_r8, d_bw, d_qw, d_szw, d_lzw, d_dzw]); exact c19)).trans ?_; first | (simp only [d_a1, d_sz1, d_lz1, d_dz1, d_r8, d_bw, d_qw, d_szw, d_lzw, d_dzw]; done) | rfl, rfl⟩) (Nat.le_of_ble_eq_true rfl) (Nat.le_of_ble_eq_true rfl) dX7_pin_95
      · refine lv_iconst (v := 1) hx hb dX7_pin_70 (by decide) ?_
        refine lv_goto (tgt := 75) hx hb dX7_pin_71 (by decide) ?_
        refine lv_istore (lv' := [(9, .int 1), (8, .int (nI (szw + qw))), (7, .int (nI (1000 * bw + qw))), (0, .ref h0), (1, .int (nI a1)), (2, .int x2), (3, .int x3), (4, .int x4), (5, .int x5), (6, .int x6)]) hx hb dX7_pin_75 hl (by decide) rfl (fun ls hl => ?_)
        refine lv_aload_n hx hb dX7_pin_77 rfl (lv_at hl 3 rfl) ?_
        refine zz_get hC hZ 0 rfl zf_X7_10 rfl dX7_pin_78 ?_
        refine zz_get hC hZ 5 rfl zf_X7_152 rfl dX7_pin_81 ?_
        refine lv_iload hx hb dX7_pin_84 (lv_at hl 1 rfl) ?_
        refine lv_iload hx hb dX7_pin_86 (lv_at hl 9 rfl) ?_
        refine zz_zastn hC hZ 1 rfl bd18 (by decide) dX7_pin_88 (fun H locs hZ => ?_)
        have hZ : zz_Z g A s.heap [cw_k6 h0 st mk lk ch ru mr md la, cw_z g pn 4000 (upd pnf (szw + qw) (x6 &&& 1)), cw_i g dp 60 dpf, cw_i g ln 60 lnf, cw_l g bt 4000 btf, cw_k5 st (nI na) (nI nu) kd dp cl sa ln bt pn bf, cw_i g sa 60 saf] H locs := hZ
        refine lv_aload_n hx hb dX7_pin_89 rfl (lv_at hl 3 rfl) ?_
        refine lv_iload hx hb dX7_pin_90 (lv_at hl 0 rfl) ?_
        refine zz_iV (As := [.int 1]) (wc := [cw_k6 h0 st mk lk ch ru mr md la]) (wr := [cw_z g pn 4000 (upd pnf (szw + qw) (x6 &&& 1)), cw_i g dp 60 dpf, cw_i g ln 60 lnf, cw_l g bt 4000 btf, cw_k5 st (nI na) (nI nu) kd dp cl sa ln bt pn bf, cw_i g sa 60 saf]) (rest := []) hC hZ hs hl zc_X7_100 (co_fine g h0 st mk lk ch ru mr md la 1) [0] [1, 2, 3, 4, 5, 6] rfl rfl (by decide +kernel) (ci := 6) (q0 := 0) rfl rfl rfl rfl (Nat.le_of_ble_eq_true rfl) ⟨⟨Nat.le_of_ble_eq_true rfl, Nat.le_of_ble_eq_true rfl⟩, Nat.le_of_ble_eq_true rfl, Nat.le_of_ble_eq_true rfl⟩ dX7_pin_92 (fun r22 u23 H locs hp hZ => ?_)
        obtain ⟨rfl, rfl⟩ := hp
        have hZ : zz_Z g A s.heap [cw_z g pn 4000 (upd pnf (szw + qw) (x6 &&& 1)), cw_i g dp 60 dpf, cw_i g ln 60 lnf, cw_l g bt 4000 btf, cw_k5 st (nI na) (nI nu) kd dp cl sa ln bt pn bf, cw_i g sa 60 saf, cw_k6 h0 st mk lk ch ru mr md 0] H locs := hZ
        have hZ : zz_Z g A s.heap [cw_k6 h0 st mk lk ch ru mr md 0, cw_k5 st (nI na) (nI nu) kd dp cl sa ln bt pn bf, cw_i g dp 60 dpf, cw_i g sa 60 saf, cw_i g ln 60 lnf, cw_l g bt 4000 btf, cw_z g pn 4000 (upd pnf (szw + qw) (x6 &&& 1))] H locs := hZ.sub [6, 4, 1, 5, 2, 3, 0] (by decide +kernel) rfl
        exact zz_iret hC hZ (⟨0, (upd pnf (szw + qw) (x6 &&& 1)), by refine Eq.symm ?_; rw [fo_cx_pin]; refine (if_neg (by (try simp only [d_a1, d_sz1, d_lz1, d_dz1, d_r8, d_bw, d_qw, d_szw, d_lzw, d_dzw]); exact c3)).trans ?_; refine (if_pos (by (try simp only [d_a1, d_sz1, d_lz1, d_dz1, d_r8, d_bw, d_qw, d_szw, d_lzw, d_dzw]); exact c12)).trans ?_; refine (if_neg (by (try simp only [d_a1, d_sz1, d_lz1, d_dz1, d_r8, d_bw, d_qw, d_szw, d_lzw, d_dzw]); exact c19)).trans ?_; first | (simp only [d_a1, d_sz1, d_lz1, d_dz1, d_r8, d_bw, d_qw, d_szw, d_lzw, d_dzw]; done) | rfl, rfl⟩) (Nat.le_of_ble_eq_true rfl) (Nat.le_of_ble_eq_true rfl) dX7_pin_95
    · refine lv_aload_n hx hb dX7_pin_38 rfl (lv_at hl 1 rfl) ?_
      refine lv_iload hx hb dX7_pin_39 (lv_at hl 0 rfl) ?_
      refine lv_ineg hx hb dX7_pin_41 ?_
      refine zz_iV (As := [.int (-r8)]) (wc := [cw_k6 h0 st mk lk ch ru mr md la]) (wr := [cw_z g pn 4000 pnf, cw_k5 st (nI na) (nI nu) kd dp cl sa ln bt pn bf, cw_i g dp 60 dpf, cw_i g sa 60 saf, cw_i g ln 60 lnf, cw_l g bt 4000 btf]) (rest := []) hC hZ hs hl zc_X7_65 (co_fail g h0 st mk lk ch ru mr md la (-r8)) [0] [1, 2, 3, 4, 5, 6] rfl rfl (by decide +kernel) (ci := 6) (q0 := 0) rfl rfl rfl rfl (Nat.le_of_ble_eq_true rfl) ⟨⟨Nat.le_of_ble_eq_true rfl, Nat.le_of_ble_eq_true rfl⟩, Nat.le_of_ble_eq_true rfl, Nat.le_of_ble_eq_true rfl⟩ dX7_pin_42 (fun r24 u25 H locs hp hZ => ?_)
      obtain ⟨rfl, rfl⟩ := hp
      have hZ : zz_Z g A s.heap [cw_z g pn 4000 pnf, cw_k5 st (nI na) (nI nu) kd dp cl sa ln bt pn bf, cw_i g dp 60 dpf, cw_i g sa 60 saf, cw_i g ln 60 lnf, cw_l g bt 4000 btf, cw_k6 h0 st mk lk ch ru mr md (-r8)] H locs := hZ
      have hZ : zz_Z g A s.heap [cw_k6 h0 st mk lk ch ru mr md (-r8), cw_k5 st (nI na) (nI nu) kd dp cl sa ln bt pn bf, cw_i g dp 60 dpf, cw_i g sa 60 saf, cw_i g ln 60 lnf, cw_l g bt 4000 btf, cw_z g pn 4000 pnf] H locs := hZ.sub [6, 1, 2, 3, 4, 5, 0] (by decide +kernel) rfl
      exact zz_iret hC hZ (⟨(-r8), pnf, by refine Eq.symm ?_; rw [fo_cx_pin]; refine (if_neg (by (try simp only [d_a1, d_sz1, d_lz1, d_dz1, d_r8]); exact c3)).trans ?_; refine (if_neg (by (try simp only [d_a1, d_sz1, d_lz1, d_dz1, d_r8]); exact c12)).trans ?_; first | (simp only [d_a1, d_sz1, d_lz1, d_dz1, d_r8]; done) | rfl, rfl⟩) (Nat.le_of_ble_eq_true rfl) (Nat.le_of_ble_eq_true rfl) dX7_pin_45
  · refine lv_aload_n hx hb dX7_pin_11 rfl (lv_at hl 0 rfl) ?_
    refine lv_iconst (v := 5) hx hb dX7_pin_12 (by decide) ?_
    refine zz_iV (As := [.int 5]) (wc := [cw_k6 h0 st mk lk ch ru mr md la]) (wr := [cw_i g dp 60 dpf, cw_i g sa 60 saf, cw_i g ln 60 lnf, cw_l g bt 4000 btf, cw_z g pn 4000 pnf, cw_k5 st (nI na) (nI nu) kd dp cl sa ln bt pn bf]) (rest := []) hC hZ hs hl zc_X7_65 (co_fail g h0 st mk lk ch ru mr md la 5) [0] [1, 2, 3, 4, 5, 6] rfl rfl (by decide +kernel) (ci := 6) (q0 := 0) rfl rfl rfl rfl (Nat.le_of_ble_eq_true rfl) ⟨⟨Nat.le_of_ble_eq_true rfl, Nat.le_of_ble_eq_true rfl⟩, Nat.le_of_ble_eq_true rfl, Nat.le_of_ble_eq_true rfl⟩ dX7_pin_13 (fun r26 u27 H locs hp hZ => ?_)
    obtain ⟨rfl, rfl⟩ := hp
    have hZ : zz_Z g A s.heap [cw_i g dp 60 dpf, cw_i g sa 60 saf, cw_i g ln 60 lnf, cw_l g bt 4000 btf, cw_z g pn 4000 pnf, cw_k5 st (nI na) (nI nu) kd dp cl sa ln bt pn bf, cw_k6 h0 st mk lk ch ru mr md 5] H locs := hZ
    have hZ : zz_Z g A s.heap [cw_k6 h0 st mk lk ch ru mr md 5, cw_k5 st (nI na) (nI nu) kd dp cl sa ln bt pn bf, cw_i g dp 60 dpf, cw_i g sa 60 saf, cw_i g ln 60 lnf, cw_l g bt 4000 btf, cw_z g pn 4000 pnf] H locs := hZ.sub [6, 5, 0, 1, 2, 3, 4] (by decide +kernel) rfl
    exact zz_iret hC hZ (⟨5, pnf, by show _ = _; rw [fo_cx_pin]; rw [if_pos c3], rfl⟩) (Nat.le_of_ble_eq_true rfl) (Nat.le_of_ble_eq_true rfl) dX7_pin_16
theorem dg_X7_column_0 : (decode cX7_column 0 = .ok (.iload_n 1, 1)) ∧ (decode cX7_column 1 = .ok (.invokestatic 59, 3)) ∧ (decode cX7_column 4 = .ok (.ifCond .eq 7, 3)) ∧ (decode cX7_column 7 = .ok (.iload_n 2, 1)) ∧ (decode cX7_column 8 = .ok (.ifCond .ge 10, 3)) ∧ (decode cX7_column 11 = .ok (.aload_n 0, 1)) ∧ (decode cX7_column 12 = .ok (.bipush 9, 2)) ∧ (decode cX7_column 14 = .ok (.invokevirtual 65, 3)) ∧ (decode cX7_column 17 = .ok (.ireturn, 1)) ∧ (decode cX7_column 18 = .ok (.iload_n 2, 1)) ∧ (decode cX7_column 19 = .ok (.istore_n 3, 1)) ∧ (decode cX7_column 20 = .ok (.iconst 0, 1)) ∧ (decode cX7_column 21 = .ok (.istore 4, 2)) ∧ (decode cX7_column 23 = .ok (.iload 4, 2)) ∧ (decode cX7_column 25 = .ok (.aload_n 0, 1)) ∧ (decode cX7_column 26 = .ok (.getfield 10, 3)) := by decide +kernel
theorem dX7_column_0 : decode cX7_column 0 = .ok (.iload_n 1, 1) := dg_X7_column_0.1
theorem dX7_column_1 : decode cX7_column 1 = .ok (.invokestatic 59, 3) := dg_X7_column_0.2.1
theorem dX7_column_4 : decode cX7_column 4 = .ok (.ifCond .eq 7, 3) := dg_X7_column_0.2.2.1
theorem dX7_column_7 : decode cX7_column 7 = .ok (.iload_n 2, 1) := dg_X7_column_0.2.2.2.1
theorem dX7_column_8 : decode cX7_column 8 = .ok (.ifCond .ge 10, 3) := dg_X7_column_0.2.2.2.2.1
theorem dX7_column_11 : decode cX7_column 11 = .ok (.aload_n 0, 1) := dg_X7_column_0.2.2.2.2.2.1
theorem dX7_column_12 : decode cX7_column 12 = .ok (.bipush 9, 2) := dg_X7_column_0.2.2.2.2.2.2.1
theorem dX7_column_14 : decode cX7_column 14 = .ok (.invokevirtual 65, 3) := dg_X7_column_0.2.2.2.2.2.2.2.1
theorem dX7_column_17 : decode cX7_column 17 = .ok (.ireturn, 1) := dg_X7_column_0.2.2.2.2.2.2.2.2.1
theorem dX7_column_18 : decode cX7_column 18 = .ok (.iload_n 2, 1) := dg_X7_column_0.2.2.2.2.2.2.2.2.2.1
theorem dX7_column_19 : decode cX7_column 19 = .ok (.istore_n 3, 1) := dg_X7_column_0.2.2.2.2.2.2.2.2.2.2.1
theorem dX7_column_20 : decode cX7_column 20 = .ok (.iconst 0, 1) := dg_X7_column_0.2.2.2.2.2.2.2.2.2.2.2.1
theorem dX7_column_21 : decode cX7_column 21 = .ok (.istore 4, 2) := dg_X7_column_0.2.2.2.2.2.2.2.2.2.2.2.2.1
theorem dX7_column_23 : decode cX7_column 23 = .ok (.iload 4, 2) := dg_X7_column_0.2.2.2.2.2.2.2.2.2.2.2.2.2.1
theorem dX7_column_25 : decode cX7_column 25 = .ok (.aload_n 0, 1) := dg_X7_column_0.2.2.2.2.2.2.2.2.2.2.2.2.2.2.1
theorem dX7_column_26 : decode cX7_column 26 = .ok (.getfield 10, 3) := dg_X7_column_0.2.2.2.2.2.2.2.2.2.2.2.2.2.2.2
theorem dg_X7_column_29 : (decode cX7_column 29 = .ok (.getfield 163, 3)) ∧ (decode cX7_column 32 = .ok (.if_icmp .ge 77, 3)) ∧ (decode cX7_column 35 = .ok (.aload_n 0, 1)) ∧ (decode cX7_column 36 = .ok (.getfield 10, 3)) ∧ (decode cX7_column 39 = .ok (.getfield 76, 3)) ∧ (decode cX7_column 42 = .ok (.iload 4, 2)) ∧ (decode cX7_column 44 = .ok (.iaload, 1)) ∧ (decode cX7_column 45 = .ok (.iconst 1, 1)) ∧ (decode cX7_column 46 = .ok (.if_icmp .ne 57, 3)) ∧ (decode cX7_column 49 = .ok (.aload_n 0, 1)) ∧ (decode cX7_column 50 = .ok (.getfield 10, 3)) ∧ (decode cX7_column 53 = .ok (.getfield 80, 3)) ∧ (decode cX7_column 56 = .ok (.iload 4, 2)) ∧ (decode cX7_column 58 = .ok (.iaload, 1)) ∧ (decode cX7_column 59 = .ok (.iload_n 1, 1)) ∧ (decode cX7_column 60 = .ok (.if_icmp .ne 43, 3)) := by decide +kernel
theorem dX7_column_29 : decode cX7_column 29 = .ok (.getfield 163, 3) := dg_X7_column_29.1
theorem dX7_column_32 : decode cX7_column 32 = .ok (.if_icmp .ge 77, 3) := dg_X7_column_29.2.1
theorem dX7_column_35 : decode cX7_column 35 = .ok (.aload_n 0, 1) := dg_X7_column_29.2.2.1
theorem dX7_column_36 : decode cX7_column 36 = .ok (.getfield 10, 3) := dg_X7_column_29.2.2.2.1
theorem dX7_column_39 : decode cX7_column 39 = .ok (.getfield 76, 3) := dg_X7_column_29.2.2.2.2.1
theorem dX7_column_42 : decode cX7_column 42 = .ok (.iload 4, 2) := dg_X7_column_29.2.2.2.2.2.1
theorem dX7_column_44 : decode cX7_column 44 = .ok (.iaload, 1) := dg_X7_column_29.2.2.2.2.2.2.1
theorem dX7_column_45 : decode cX7_column 45 = .ok (.iconst 1, 1) := dg_X7_column_29.2.2.2.2.2.2.2.1
theorem dX7_column_46 : decode cX7_column 46 = .ok (.if_icmp .ne 57, 3) := dg_X7_column_29.2.2.2.2.2.2.2.2.1
theorem dX7_column_49 : decode cX7_column 49 = .ok (.aload_n 0, 1) := dg_X7_column_29.2.2.2.2.2.2.2.2.2.1
theorem dX7_column_50 : decode cX7_column 50 = .ok (.getfield 10, 3) := dg_X7_column_29.2.2.2.2.2.2.2.2.2.2.1
theorem dX7_column_53 : decode cX7_column 53 = .ok (.getfield 80, 3) := dg_X7_column_29.2.2.2.2.2.2.2.2.2.2.2.1
theorem dX7_column_56 : decode cX7_column 56 = .ok (.iload 4, 2) := dg_X7_column_29.2.2.2.2.2.2.2.2.2.2.2.2.1
theorem dX7_column_58 : decode cX7_column 58 = .ok (.iaload, 1) := dg_X7_column_29.2.2.2.2.2.2.2.2.2.2.2.2.2.1
theorem dX7_column_59 : decode cX7_column 59 = .ok (.iload_n 1, 1) := dg_X7_column_29.2.2.2.2.2.2.2.2.2.2.2.2.2.2.1
theorem dX7_column_60 : decode cX7_column 60 = .ok (.if_icmp .ne 43, 3) := dg_X7_column_29.2.2.2.2.2.2.2.2.2.2.2.2.2.2.2
theorem dg_X7_column_63 : (decode cX7_column 63 = .ok (.iload_n 3, 1)) ∧ (decode cX7_column 64 = .ok (.aload_n 0, 1)) ∧ (decode cX7_column 65 = .ok (.getfield 10, 3)) ∧ (decode cX7_column 68 = .ok (.getfield 103, 3)) ∧ (decode cX7_column 71 = .ok (.iload 4, 2)) ∧ (decode cX7_column 73 = .ok (.iaload, 1)) ∧ (decode cX7_column 74 = .ok (.if_icmp .ge 16, 3)) ∧ (decode cX7_column 77 = .ok (.aload_n 0, 1)) ∧ (decode cX7_column 78 = .ok (.iload 4, 2)) ∧ (decode cX7_column 80 = .ok (.sipush 1000, 3)) ∧ (decode cX7_column 83 = .ok (.imul, 1)) ∧ (decode cX7_column 84 = .ok (.iload_n 3, 1)) ∧ (decode cX7_column 85 = .ok (.iadd, 1)) ∧ (decode cX7_column 86 = .ok (.invokevirtual 100, 3)) ∧ (decode cX7_column 89 = .ok (.ireturn, 1)) ∧ (decode cX7_column 90 = .ok (.iload_n 3, 1)) := by decide +kernel
theorem dX7_column_63 : decode cX7_column 63 = .ok (.iload_n 3, 1) := dg_X7_column_63.1
theorem dX7_column_64 : decode cX7_column 64 = .ok (.aload_n 0, 1) := dg_X7_column_63.2.1
theorem dX7_column_65 : decode cX7_column 65 = .ok (.getfield 10, 3) := dg_X7_column_63.2.2.1
theorem dX7_column_68 : decode cX7_column 68 = .ok (.getfield 103, 3) := dg_X7_column_63.2.2.2.1
theorem dX7_column_71 : decode cX7_column 71 = .ok (.iload 4, 2) := dg_X7_column_63.2.2.2.2.1
theorem dX7_column_73 : decode cX7_column 73 = .ok (.iaload, 1) := dg_X7_column_63.2.2.2.2.2.1
theorem dX7_column_74 : decode cX7_column 74 = .ok (.if_icmp .ge 16, 3) := dg_X7_column_63.2.2.2.2.2.2.1
theorem dX7_column_77 : decode cX7_column 77 = .ok (.aload_n 0, 1) := dg_X7_column_63.2.2.2.2.2.2.2.1
theorem dX7_column_78 : decode cX7_column 78 = .ok (.iload 4, 2) := dg_X7_column_63.2.2.2.2.2.2.2.2.1
theorem dX7_column_80 : decode cX7_column 80 = .ok (.sipush 1000, 3) := dg_X7_column_63.2.2.2.2.2.2.2.2.2.1
theorem dX7_column_83 : decode cX7_column 83 = .ok (.imul, 1) := dg_X7_column_63.2.2.2.2.2.2.2.2.2.2.1
theorem dX7_column_84 : decode cX7_column 84 = .ok (.iload_n 3, 1) := dg_X7_column_63.2.2.2.2.2.2.2.2.2.2.2.1
theorem dX7_column_85 : decode cX7_column 85 = .ok (.iadd, 1) := dg_X7_column_63.2.2.2.2.2.2.2.2.2.2.2.2.1
theorem dX7_column_86 : decode cX7_column 86 = .ok (.invokevirtual 100, 3) := dg_X7_column_63.2.2.2.2.2.2.2.2.2.2.2.2.2.1
theorem dX7_column_89 : decode cX7_column 89 = .ok (.ireturn, 1) := dg_X7_column_63.2.2.2.2.2.2.2.2.2.2.2.2.2.2.1
theorem dX7_column_90 : decode cX7_column 90 = .ok (.iload_n 3, 1) := dg_X7_column_63.2.2.2.2.2.2.2.2.2.2.2.2.2.2.2
theorem dg_X7_column_91 : (decode cX7_column 91 = .ok (.aload_n 0, 1)) ∧ (decode cX7_column 92 = .ok (.getfield 10, 3)) ∧ (decode cX7_column 95 = .ok (.getfield 103, 3)) ∧ (decode cX7_column 98 = .ok (.iload 4, 2)) ∧ (decode cX7_column 100 = .ok (.iaload, 1)) ∧ (decode cX7_column 101 = .ok (.isub, 1)) ∧ (decode cX7_column 102 = .ok (.istore_n 3, 1)) ∧ (decode cX7_column 103 = .ok (.iinc 4 1, 3)) ∧ (decode cX7_column 106 = .ok (.goto (-83), 3)) ∧ (decode cX7_column 109 = .ok (.aload_n 0, 1)) ∧ (decode cX7_column 110 = .ok (.bipush (-2), 2)) ∧ (decode cX7_column 112 = .ok (.invokevirtual 100, 3)) ∧ (decode cX7_column 115 = .ok (.ireturn, 1)) := by decide +kernel
theorem dX7_column_91 : decode cX7_column 91 = .ok (.aload_n 0, 1) := dg_X7_column_91.1
theorem dX7_column_92 : decode cX7_column 92 = .ok (.getfield 10, 3) := dg_X7_column_91.2.1
theorem dX7_column_95 : decode cX7_column 95 = .ok (.getfield 103, 3) := dg_X7_column_91.2.2.1
theorem dX7_column_98 : decode cX7_column 98 = .ok (.iload 4, 2) := dg_X7_column_91.2.2.2.1
theorem dX7_column_100 : decode cX7_column 100 = .ok (.iaload, 1) := dg_X7_column_91.2.2.2.2.1
theorem dX7_column_101 : decode cX7_column 101 = .ok (.isub, 1) := dg_X7_column_91.2.2.2.2.2.1
theorem dX7_column_102 : decode cX7_column 102 = .ok (.istore_n 3, 1) := dg_X7_column_91.2.2.2.2.2.2.1
theorem dX7_column_103 : decode cX7_column 103 = .ok (.iinc 4 1, 3) := dg_X7_column_91.2.2.2.2.2.2.2.1
theorem dX7_column_106 : decode cX7_column 106 = .ok (.goto (-83), 3) := dg_X7_column_91.2.2.2.2.2.2.2.2.1
theorem dX7_column_109 : decode cX7_column 109 = .ok (.aload_n 0, 1) := dg_X7_column_91.2.2.2.2.2.2.2.2.2.1
theorem dX7_column_110 : decode cX7_column 110 = .ok (.bipush (-2), 2) := dg_X7_column_91.2.2.2.2.2.2.2.2.2.2.1
theorem dX7_column_112 : decode cX7_column 112 = .ok (.invokevirtual 100, 3) := dg_X7_column_91.2.2.2.2.2.2.2.2.2.2.2.1
theorem dX7_column_115 : decode cX7_column 115 = .ok (.ireturn, 1) := dg_X7_column_91.2.2.2.2.2.2.2.2.2.2.2.2
theorem zk_27 : Cond.fieldLink RX7 163 RX6 "arrays" "I" ∈ zz_w := zz_in (List.mem_append_right _ (List.mem_append_left _ (List.mem_of_getElem? (i := 27) (by decide +kernel)))) rfl
theorem zf_X7_163 : zz_f RX7 163 5 0 := ⟨RX6, TX6, 10, rfl, zi_X6, by decide, zk_27⟩
abbrev rm_cx_column : Room := { frames := 1, cells := 0, slots := 0, locals := 21 }
abbrev po_cx_column (g : zz_G) (h0 : Nat) (st : Nat) (mk : Nat) (lk : Nat) (ch : Nat) (ru : Nat) (mr : Nat) (kd : Nat) (dp : Nat) (cl : Nat) (sa : Nat) (ln : Nat) (bt : Nat) (pn : Nat) (bf : Nat) (md : Int32) (la : Int32) (na : Nat) (nu : Nat) (kdf : Nat → Int32) (dpf : Nat → Int32) (lnf : Nat → Int32) (saf : Nat → Int32) (x1 : Int32) (x2 : Int32) (h_S : zz_SI na nu dpf saf lnf) : Int32 → va_W → Prop := fun (r : Int32) (u : va_W) => ∃ (la2 : Int32), (r = sp_cR na kdf dpf lnf x1 x2) ∧ u = [cw_k6 h0 st mk lk ch ru mr md la2, cw_k5 st (nI na) (nI nu) kd dp cl sa ln bt pn bf, cw_i g kd 60 kdf, cw_i g dp 60 dpf, cw_i g ln 60 lnf]
set_option maxHeartbeats 4000000 in
set_option maxRecDepth 100000 in
theorem cx_column (g : zz_G) (h0 : Nat) (st : Nat) (mk : Nat) (lk : Nat) (ch : Nat) (ru : Nat) (mr : Nat) (kd : Nat) (dp : Nat) (cl : Nat) (sa : Nat) (ln : Nat) (bt : Nat) (pn : Nat) (bf : Nat) (md : Int32) (la : Int32) (na : Nat) (nu : Nat) (kdf : Nat → Int32) (dpf : Nat → Int32) (lnf : Nat → Int32) (saf : Nat → Int32) (x1 : Int32) (x2 : Int32) (h_S : zz_SI na nu dpf saf lnf) : zz_I g yX7_column (.code yX7_column cX7_column 5 (some .int)) rm_cx_column [.ref h0, .int x1, .int x2] [cw_k6 h0 st mk lk ch ru mr md la, cw_k5 st (nI na) (nI nu) kd dp cl sa ln bt pn bf, cw_i g kd 60 kdf, cw_i g dp 60 dpf, cw_i g ln 60 lnf] (po_cx_column g h0 st mk lk ch ru mr kd dp cl sa ln bt pn bf md la na nu kdf dpf lnf saf x1 x2 h_S) := by
  refine zz_I.intro (own := RX7) (cc := cX7_column) (nL := 5) (by decide) rfl (Nat.le_of_ble_eq_true rfl) ?_
  intro p l e s m args below meth c A H locs ls hC hnm hs hZ hl
  obtain ⟨hx, hb, hml, hown, hts, hr, hlocks, hK⟩ := id hC
  have hl : lv_has ls 5 [(0, .ref h0), (1, .int x1), (2, .int x2)] := hl
  have hZ : zz_Z g A s.heap [cw_k6 h0 st mk lk ch ru mr md la, cw_k5 st (nI na) (nI nu) kd dp cl sa ln bt pn bf, cw_i g kd 60 kdf, cw_i g dp 60 dpf, cw_i g ln 60 lnf] H locs := hZ
  have hna := h_S.1
  have hnu := h_S.2.1
  refine lv_iload_n hx hb dX7_column_0 rfl (lv_at hl 1 rfl) ?_
  refine zz_iS (As := [.int x1]) (wc := []) (wr := [cw_k6 h0 st mk lk ch ru mr md la, cw_k5 st (nI na) (nI nu) kd dp cl sa ln bt pn bf, cw_i g kd 60 kdf, cw_i g dp 60 dpf, cw_i g ln 60 lnf]) (rest := []) hC hZ hs hl zc_X7_59 (co_isKind g x1) [] [0, 1, 2, 3, 4] rfl rfl (by decide +kernel) rfl rfl (Nat.le_of_ble_eq_true rfl) ⟨⟨Nat.le_of_ble_eq_true rfl, Nat.le_of_ble_eq_true rfl⟩, Nat.le_of_ble_eq_true rfl, Nat.le_of_ble_eq_true rfl⟩ dX7_column_1 (fun r1 u2 H locs hp hZ => ?_)
  obtain ⟨rfl, rfl⟩ := hp
  have hZ : zz_Z g A s.heap [cw_k6 h0 st mk lk ch ru mr md la, cw_k5 st (nI na) (nI nu) kd dp cl sa ln bt pn bf, cw_i g kd 60 kdf, cw_i g dp 60 dpf, cw_i g ln 60 lnf] H locs := hZ
  refine lv_if_eq (tgt := 11) hx hb dX7_column_4 (by decide) (fun c3 => ?_) (fun c3 => ?_)
  · refine lv_aload_n hx hb dX7_column_11 rfl (lv_at hl 0 rfl) ?_
    refine lv_bipush (v := 9) hx hb dX7_column_12 (by decide) ?_
    refine zz_iV (As := [.int 9]) (wc := [cw_k6 h0 st mk lk ch ru mr md la]) (wr := [cw_k5 st (nI na) (nI nu) kd dp cl sa ln bt pn bf, cw_i g kd 60 kdf, cw_i g dp 60 dpf, cw_i g ln 60 lnf]) (rest := []) hC hZ hs hl zc_X7_65 (co_fail g h0 st mk lk ch ru mr md la 9) [0] [1, 2, 3, 4] rfl rfl (by decide +kernel) (ci := 6) (q0 := 0) rfl rfl rfl rfl (Nat.le_of_ble_eq_true rfl) ⟨⟨Nat.le_of_ble_eq_true rfl, Nat.le_of_ble_eq_true rfl⟩, Nat.le_of_ble_eq_true rfl, Nat.le_of_ble_eq_true rfl⟩ dX7_column_14 (fun r4 u5 H locs hp hZ => ?_)
    obtain ⟨rfl, rfl⟩ := hp
    have hZ : zz_Z g A s.heap [cw_k5 st (nI na) (nI nu) kd dp cl sa ln bt pn bf, cw_i g kd 60 kdf, cw_i g dp 60 dpf, cw_i g ln 60 lnf, cw_k6 h0 st mk lk ch ru mr md 9] H locs := hZ
    have hZ : zz_Z g A s.heap [cw_k6 h0 st mk lk ch ru mr md 9, cw_k5 st (nI na) (nI nu) kd dp cl sa ln bt pn bf, cw_i g kd 60 kdf, cw_i g dp 60 dpf, cw_i g ln 60 lnf] H locs := hZ.sub [4, 0, 1, 2, 3] (by decide +kernel) rfl
    exact zz_iret hC hZ (⟨9, by rw [sp_cR, if_pos c3], rfl⟩) (Nat.le_of_ble_eq_true rfl) (Nat.le_of_ble_eq_true rfl) dX7_column_17
  · refine lv_iload_n hx hb dX7_column_7 rfl (lv_at hl 2 rfl) ?_
    refine lv_if_ge (tgt := 18) hx hb dX7_column_8 (by decide) (fun c6 => ?_) (fun c6 => ?_)
    · refine lv_iload_n hx hb dX7_column_18 rfl (lv_at hl 2 rfl) ?_
      refine lv_istore_n (lv' := [(3, .int x2), (0, .ref h0), (1, .int x1), (2, .int x2)]) hx hb dX7_column_19 rfl hl (by decide) rfl (fun ls hl => ?_)
      refine lv_iconst (v := 0) hx hb dX7_column_20 (by decide) ?_
      refine lv_istore (lv' := [(4, .int 0), (3, .int x2), (0, .ref h0), (1, .int x1), (2, .int x2)]) hx hb dX7_column_21 hl (by decide) rfl (fun ls hl => ?_)
      have LP7 : ∀ (N : Nat) (i : Nat) (w : Int32) (H : Heap) (locs : List Loc) (ls : Array Slot), (i ≤ na) → (sp_col kdf dpf lnf x1 na 0 x2 = sp_col kdf dpf lnf x1 (na - i) i w) → (na - i) < N → zz_Z g A s.heap [cw_k6 h0 st mk lk ch ru mr md la, cw_k5 st (nI na) (nI nu) kd dp cl sa ln bt pn bf, cw_i g kd 60 kdf, cw_i g dp 60 dpf, cw_i g ln 60 lnf] H locs → lv_has ls 5 [(4, .int (nI i)), (3, .int w), (0, .ref h0), (1, .int x1), (2, .int x2)] → W p l e rm_cx_column s m args below meth c H locs 0 0 (zz_QI below g args s A rm_cx_column.cells rm_cx_column.slots (po_cx_column g h0 st mk lk ch ru mr kd dp cl sa ln bt pn bf md la na nu kdf dpf lnf saf x1 x2 h_S)) (F0 m 23 ls []) := by
        intro N
        induction N with
        | zero =>
          intro i w H locs ls hi he hN
          exact absurd hN (Nat.not_lt_zero _)
        | succ N ih =>
          intro i w H locs ls hi he hN hZ hl
          refine lv_iload hx hb dX7_column_23 (lv_at hl 0 rfl) ?_
          refine lv_aload_n hx hb dX7_column_25 rfl (lv_at hl 2 rfl) ?_
          refine zz_get hC hZ 0 rfl zf_X7_10 rfl dX7_column_26 ?_
          refine zz_get hC hZ 1 rfl zf_X7_163 rfl dX7_column_29 ?_
          have bd9 : na < 2 ^ 31 := by omega
          have bd10 : i < 2 ^ 31 := by omega
          refine lv_icmp_ge (tgt := 109) hx hb dX7_column_32 (by decide) (fun c8 => ?_) (fun c8 => ?_)
          · have nc8 : na ≤ i := (nI_leI bd9 bd10).mp (show nI (na) ≤ nI (i) from c8)
            refine lv_aload_n hx hb dX7_column_109 rfl (lv_at hl 2 rfl) ?_
            refine lv_bipush (v := -2) hx hb dX7_column_110 (by decide) ?_
            refine zz_iV (As := [.int (-2)]) (wc := [cw_k6 h0 st mk lk ch ru mr md la]) (wr := [cw_k5 st (nI na) (nI nu) kd dp cl sa ln bt pn bf, cw_i g kd 60 kdf, cw_i g dp 60 dpf, cw_i g ln 60 lnf]) (rest := []) hC hZ hs hl zc_X7_100 (co_fine g h0 st mk lk ch ru mr md la (-2)) [0] [1, 2, 3, 4] rfl rfl (by decide +kernel) (ci := 6) (q0 := 0) rfl rfl rfl rfl (Nat.le_of_ble_eq_true rfl) ⟨⟨Nat.le_of_ble_eq_true rfl, Nat.le_of_ble_eq_true rfl⟩, Nat.le_of_ble_eq_true rfl, Nat.le_of_ble_eq_true rfl⟩ dX7_column_112 (fun r11 u12 H locs hp hZ => ?_)
            obtain ⟨rfl, rfl⟩ := hp
            have hZ : zz_Z g A s.heap [cw_k5 st (nI na) (nI nu) kd dp cl sa ln bt pn bf, cw_i g kd 60 kdf, cw_i g dp 60 dpf, cw_i g ln 60 lnf, cw_k6 h0 st mk lk ch ru mr md 0] H locs := hZ
            have hZ : zz_Z g A s.heap [cw_k6 h0 st mk lk ch ru mr md 0, cw_k5 st (nI na) (nI nu) kd dp cl sa ln bt pn bf, cw_i g kd 60 kdf, cw_i g dp 60 dpf, cw_i g ln 60 lnf] H locs := hZ.sub [4, 0, 1, 2, 3] (by decide +kernel) rfl
            exact zz_iret hC hZ (⟨0, by rw [sp_cR, if_neg c3, if_pos c6, he, show na - i = 0 by omega, sp_col], rfl⟩) (Nat.le_of_ble_eq_true rfl) (Nat.le_of_ble_eq_true rfl) dX7_column_115
          · have nc8 : ¬ na ≤ i := fun zq => c8 (show nI (na) ≤ nI (i) from (nI_leI bd9 bd10).mpr zq)
            refine lv_aload_n hx hb dX7_column_35 rfl (lv_at hl 2 rfl) ?_
            refine zz_get hC hZ 0 rfl zf_X7_10 rfl dX7_column_36 ?_
            refine zz_get hC hZ 1 rfl zf_X7_76 rfl dX7_column_39 ?_
            refine lv_iload hx hb dX7_column_42 (lv_at hl 0 rfl) ?_
            have bd13 : i < 60 := by omega
            refine zz_ialdn hC hZ 3 rfl bd13 (by decide) dX7_column_44 ?_
            refine lv_iconst (v := 1) hx hb dX7_column_45 (by decide) ?_
            refine lv_icmp_ne (tgt := 103) hx hb dX7_column_46 (by decide) (fun c14 => ?_) (fun c14 => ?_)
            · refine lv_iinc (v := nI (i + 1)) (lv' := [(4, .int (nI (i + 1))), (3, .int w), (0, .ref h0), (1, .int x1), (2, .int x2)]) hx hb dX7_column_103 hl (k := 0) rfl (nI_1 _) (by decide) rfl (fun ls hl => ?_)
              refine lv_goto (tgt := 23) hx hb dX7_column_106 (by decide) ?_
              exact ih (i + 1) w H locs ls (by omega) (by rw [he, show na - i = (na - (i + 1)) + 1 by omega, sp_col, if_neg c14]) (by omega) hZ (lv_sub hl [0, 1, 2, 3, 4] rfl)
            · refine lv_aload_n hx hb dX7_column_49 rfl (lv_at hl 2 rfl) ?_
              refine zz_get hC hZ 0 rfl zf_X7_10 rfl dX7_column_50 ?_
              refine zz_get hC hZ 1 rfl zf_X7_80 rfl dX7_column_53 ?_
              refine lv_iload hx hb dX7_column_56 (lv_at hl 0 rfl) ?_
              refine zz_ialdn hC hZ 2 rfl bd13 (by decide) dX7_column_58 ?_
              refine lv_iload_n hx hb dX7_column_59 rfl (lv_at hl 3 rfl) ?_
              refine lv_icmp_ne (tgt := 103) hx hb dX7_column_60 (by decide) (fun c15 => ?_) (fun c15 => ?_)
              · refine lv_iinc (v := nI (i + 1)) (lv' := [(4, .int (nI (i + 1))), (3, .int w), (0, .ref h0), (1, .int x1), (2, .int x2)]) hx hb dX7_column_103 hl (k := 0) rfl (nI_1 _) (by decide) rfl (fun ls hl => ?_)
                refine lv_goto (tgt := 23) hx hb dX7_column_106 (by decide) ?_
                exact ih (i + 1) w H locs ls (by omega) (by rw [he, show na - i = (na - (i + 1)) + 1 by omega, sp_col, if_pos c14, if_neg c15]) (by omega) hZ (lv_sub hl [0, 1, 2, 3, 4] rfl)
              · refine lv_iload_n hx hb dX7_column_63 rfl (lv_at hl 1 rfl) ?_
                refine lv_aload_n hx hb dX7_column_64 rfl (lv_at hl 2 rfl) ?_
                refine zz_get hC hZ 0 rfl zf_X7_10 rfl dX7_column_65 ?_
                refine zz_get hC hZ 1 rfl zf_X7_103 rfl dX7_column_68 ?_
                refine lv_iload hx hb dX7_column_71 (lv_at hl 0 rfl) ?_
                refine zz_ialdn hC hZ 4 rfl bd13 (by decide) dX7_column_73 ?_
                refine lv_icmp_ge (tgt := 90) hx hb dX7_column_74 (by decide) (fun c16 => ?_) (fun c16 => ?_)
                · refine lv_iload_n hx hb dX7_column_90 rfl (lv_at hl 1 rfl) ?_
                  refine lv_aload_n hx hb dX7_column_91 rfl (lv_at hl 2 rfl) ?_
                  refine zz_get hC hZ 0 rfl zf_X7_10 rfl dX7_column_92 ?_
                  refine zz_get hC hZ 1 rfl zf_X7_103 rfl dX7_column_95 ?_
                  refine lv_iload hx hb dX7_column_98 (lv_at hl 0 rfl) ?_
                  refine zz_ialdn hC hZ 4 rfl bd13 (by decide) dX7_column_100 ?_
                  refine lv_isub hx hb dX7_column_101 ?_
                  refine lv_istore_n (lv' := [(3, .int (w - (lnf i))), (4, .int (nI i)), (0, .ref h0), (1, .int x1), (2, .int x2)]) hx hb dX7_column_102 rfl hl (by decide) rfl (fun ls hl => ?_)
                  refine lv_iinc (v := nI (i + 1)) (lv' := [(4, .int (nI (i + 1))), (3, .int (w - (lnf i))), (0, .ref h0), (1, .int x1), (2, .int x2)]) hx hb dX7_column_103 hl (k := 1) rfl (nI_1 _) (by decide) rfl (fun ls hl => ?_)
                  refine lv_goto (tgt := 23) hx hb dX7_column_106 (by decide) ?_
                  exact ih (i + 1) (w - (lnf i)) H locs ls (by omega) (by rw [he, show na - i = (na - (i + 1)) + 1 by omega, sp_col, if_pos c14, if_pos c15, if_pos c16]) (by omega) hZ (lv_sub hl [0, 1, 2, 3, 4] rfl)
                · refine lv_aload_n hx hb dX7_column_77 rfl (lv_at hl 2 rfl) ?_
                  refine lv_iload hx hb dX7_column_78 (lv_at hl 0 rfl) ?_
                  refine lv_sipush (v := 1000) hx hb dX7_column_80 (by decide) ?_
                  refine lv_imul hx hb dX7_column_83 ?_
                  refine lv_iload_n hx hb dX7_column_84 rfl (lv_at hl 1 rfl) ?_
                  refine lv_iadd hx hb dX7_column_85 ?_
                  refine zz_iV (As := [.int (((nI i) * 1000) + w)]) (wc := [cw_k6 h0 st mk lk ch ru mr md la]) (wr := [cw_k5 st (nI na) (nI nu) kd dp cl sa ln bt pn bf, cw_i g kd 60 kdf, cw_i g dp 60 dpf, cw_i g ln 60 lnf]) (rest := []) hC hZ hs hl zc_X7_100 (co_fine g h0 st mk lk ch ru mr md la (((nI i) * 1000) + w)) [0] [1, 2, 3, 4] rfl rfl (by decide +kernel) (ci := 6) (q0 := 0) rfl rfl rfl rfl (Nat.le_of_ble_eq_true rfl) ⟨⟨Nat.le_of_ble_eq_true rfl, Nat.le_of_ble_eq_true rfl⟩, Nat.le_of_ble_eq_true rfl, Nat.le_of_ble_eq_true rfl⟩ dX7_column_86 (fun r17 u18 H locs hp hZ => ?_)
                  obtain ⟨rfl, rfl⟩ := hp
                  have hZ : zz_Z g A s.heap [cw_k5 st (nI na) (nI nu) kd dp cl sa ln bt pn bf, cw_i g kd 60 kdf, cw_i g dp 60 dpf, cw_i g ln 60 lnf, cw_k6 h0 st mk lk ch ru mr md 0] H locs := hZ
                  have hZ : zz_Z g A s.heap [cw_k6 h0 st mk lk ch ru mr md 0, cw_k5 st (nI na) (nI nu) kd dp cl sa ln bt pn bf, cw_i g kd 60 kdf, cw_i g dp 60 dpf, cw_i g ln 60 lnf] H locs := hZ.sub [4, 0, 1, 2, 3] (by decide +kernel) rfl
                  exact zz_iret hC hZ (⟨0, by rw [sp_cR, if_neg c3, if_pos c6, he, show na - i = (na - (i + 1)) + 1 by omega, sp_col, if_pos c14, if_pos c15, if_neg c16], rfl⟩) (Nat.le_of_ble_eq_true rfl) (Nat.le_of_ble_eq_true rfl) dX7_column_89
      exact LP7 _ 0 x2 H locs ls (by omega) (rfl) (Nat.lt_succ_self _) hZ (lv_sub hl [0, 1, 2, 3, 4] rfl)
    · refine lv_aload_n hx hb dX7_column_11 rfl (lv_at hl 0 rfl) ?_
      refine lv_bipush (v := 9) hx hb dX7_column_12 (by decide) ?_
      refine zz_iV (As := [.int 9]) (wc := [cw_k6 h0 st mk lk ch ru mr md la]) (wr := [cw_k5 st (nI na) (nI nu) kd dp cl sa ln bt pn bf, cw_i g kd 60 kdf, cw_i g dp 60 dpf, cw_i g ln 60 lnf]) (rest := []) hC hZ hs hl zc_X7_65 (co_fail g h0 st mk lk ch ru mr md la 9) [0] [1, 2, 3, 4] rfl rfl (by decide +kernel) (ci := 6) (q0 := 0) rfl rfl rfl rfl (Nat.le_of_ble_eq_true rfl) ⟨⟨Nat.le_of_ble_eq_true rfl, Nat.le_of_ble_eq_true rfl⟩, Nat.le_of_ble_eq_true rfl, Nat.le_of_ble_eq_true rfl⟩ dX7_column_14 (fun r19 u20 H locs hp hZ => ?_)
      obtain ⟨rfl, rfl⟩ := hp
      have hZ : zz_Z g A s.heap [cw_k5 st (nI na) (nI nu) kd dp cl sa ln bt pn bf, cw_i g kd 60 kdf, cw_i g dp 60 dpf, cw_i g ln 60 lnf, cw_k6 h0 st mk lk ch ru mr md 9] H locs := hZ
      have hZ : zz_Z g A s.heap [cw_k6 h0 st mk lk ch ru mr md 9, cw_k5 st (nI na) (nI nu) kd dp cl sa ln bt pn bf, cw_i g kd 60 kdf, cw_i g dp 60 dpf, cw_i g ln 60 lnf] H locs := hZ.sub [4, 0, 1, 2, 3] (by decide +kernel) rfl
      exact zz_iret hC hZ (⟨9, by rw [sp_cR, if_neg c3, if_neg c6], rfl⟩) (Nat.le_of_ble_eq_true rfl) (Nat.le_of_ble_eq_true rfl) dX7_column_17
theorem dg_X7_fill_0 : (decode cX7_fill 0 = .ok (.aload_n 0, 1)) ∧ (decode cX7_fill 1 = .ok (.getfield 10, 3)) ∧ (decode cX7_fill 4 = .ok (.iload_n 1, 1)) ∧ (decode cX7_fill 5 = .ok (.invokevirtual 73, 3)) ∧ (decode cX7_fill 8 = .ok (.ifCond .ne 9, 3)) ∧ (decode cX7_fill 11 = .ok (.aload_n 0, 1)) ∧ (decode cX7_fill 12 = .ok (.iconst 5, 1)) ∧ (decode cX7_fill 13 = .ok (.invokevirtual 65, 3)) ∧ (decode cX7_fill 16 = .ok (.ireturn, 1)) ∧ (decode cX7_fill 17 = .ok (.iload 4, 2)) ∧ (decode cX7_fill 19 = .ok (.lload 5, 2)) ∧ (decode cX7_fill 21 = .ok (.invokestatic 148, 3)) ∧ (decode cX7_fill 24 = .ok (.ifCond .ne 10, 3)) ∧ (decode cX7_fill 27 = .ok (.aload_n 0, 1)) ∧ (decode cX7_fill 28 = .ok (.bipush 9, 2)) ∧ (decode cX7_fill 30 = .ok (.invokevirtual 65, 3)) := by decide +kernel
theorem dX7_fill_0 : decode cX7_fill 0 = .ok (.aload_n 0, 1) := dg_X7_fill_0.1
theorem dX7_fill_1 : decode cX7_fill 1 = .ok (.getfield 10, 3) := dg_X7_fill_0.2.1
theorem dX7_fill_4 : decode cX7_fill 4 = .ok (.iload_n 1, 1) := dg_X7_fill_0.2.2.1
theorem dX7_fill_5 : decode cX7_fill 5 = .ok (.invokevirtual 73, 3) := dg_X7_fill_0.2.2.2.1
theorem dX7_fill_8 : decode cX7_fill 8 = .ok (.ifCond .ne 9, 3) := dg_X7_fill_0.2.2.2.2.1
theorem dX7_fill_11 : decode cX7_fill 11 = .ok (.aload_n 0, 1) := dg_X7_fill_0.2.2.2.2.2.1
theorem dX7_fill_12 : decode cX7_fill 12 = .ok (.iconst 5, 1) := dg_X7_fill_0.2.2.2.2.2.2.1
theorem dX7_fill_13 : decode cX7_fill 13 = .ok (.invokevirtual 65, 3) := dg_X7_fill_0.2.2.2.2.2.2.2.1
theorem dX7_fill_16 : decode cX7_fill 16 = .ok (.ireturn, 1) := dg_X7_fill_0.2.2.2.2.2.2.2.2.1
theorem dX7_fill_17 : decode cX7_fill 17 = .ok (.iload 4, 2) := dg_X7_fill_0.2.2.2.2.2.2.2.2.2.1
theorem dX7_fill_19 : decode cX7_fill 19 = .ok (.lload 5, 2) := dg_X7_fill_0.2.2.2.2.2.2.2.2.2.2.1
theorem dX7_fill_21 : decode cX7_fill 21 = .ok (.invokestatic 148, 3) := dg_X7_fill_0.2.2.2.2.2.2.2.2.2.2.2.1
theorem dX7_fill_24 : decode cX7_fill 24 = .ok (.ifCond .ne 10, 3) := dg_X7_fill_0.2.2.2.2.2.2.2.2.2.2.2.2.1
theorem dX7_fill_27 : decode cX7_fill 27 = .ok (.aload_n 0, 1) := dg_X7_fill_0.2.2.2.2.2.2.2.2.2.2.2.2.2.1
theorem dX7_fill_28 : decode cX7_fill 28 = .ok (.bipush 9, 2) := dg_X7_fill_0.2.2.2.2.2.2.2.2.2.2.2.2.2.2.1
theorem dX7_fill_30 : decode cX7_fill 30 = .ok (.invokevirtual 65, 3) := dg_X7_fill_0.2.2.2.2.2.2.2.2.2.2.2.2.2.2.2
theorem dg_X7_fill_33 : (decode cX7_fill 33 = .ok (.ireturn, 1)) ∧ (decode cX7_fill 34 = .ok (.aload_n 0, 1)) ∧ (decode cX7_fill 35 = .ok (.getfield 10, 3)) ∧ (decode cX7_fill 38 = .ok (.getfield 80, 3)) ∧ (decode cX7_fill 41 = .ok (.iload_n 1, 1)) ∧ (decode cX7_fill 42 = .ok (.iaload, 1)) ∧ (decode cX7_fill 43 = .ok (.istore 7, 2)) ∧ (decode cX7_fill 45 = .ok (.aload_n 0, 1)) ∧ (decode cX7_fill 46 = .ok (.getfield 10, 3)) ∧ (decode cX7_fill 49 = .ok (.getfield 76, 3)) ∧ (decode cX7_fill 52 = .ok (.iload_n 1, 1)) ∧ (decode cX7_fill 53 = .ok (.iaload, 1)) ∧ (decode cX7_fill 54 = .ok (.iconst 1, 1)) ∧ (decode cX7_fill 55 = .ok (.if_icmp .ne 13, 3)) ∧ (decode cX7_fill 58 = .ok (.iload 4, 2)) ∧ (decode cX7_fill 60 = .ok (.iload 7, 2)) := by decide +kernel
theorem dX7_fill_33 : decode cX7_fill 33 = .ok (.ireturn, 1) := dg_X7_fill_33.1
theorem dX7_fill_34 : decode cX7_fill 34 = .ok (.aload_n 0, 1) := dg_X7_fill_33.2.1
theorem dX7_fill_35 : decode cX7_fill 35 = .ok (.getfield 10, 3) := dg_X7_fill_33.2.2.1
theorem dX7_fill_38 : decode cX7_fill 38 = .ok (.getfield 80, 3) := dg_X7_fill_33.2.2.2.1
theorem dX7_fill_41 : decode cX7_fill 41 = .ok (.iload_n 1, 1) := dg_X7_fill_33.2.2.2.2.1
theorem dX7_fill_42 : decode cX7_fill 42 = .ok (.iaload, 1) := dg_X7_fill_33.2.2.2.2.2.1
theorem dX7_fill_43 : decode cX7_fill 43 = .ok (.istore 7, 2) := dg_X7_fill_33.2.2.2.2.2.2.1
theorem dX7_fill_45 : decode cX7_fill 45 = .ok (.aload_n 0, 1) := dg_X7_fill_33.2.2.2.2.2.2.2.1
theorem dX7_fill_46 : decode cX7_fill 46 = .ok (.getfield 10, 3) := dg_X7_fill_33.2.2.2.2.2.2.2.2.1
theorem dX7_fill_49 : decode cX7_fill 49 = .ok (.getfield 76, 3) := dg_X7_fill_33.2.2.2.2.2.2.2.2.2.1
theorem dX7_fill_52 : decode cX7_fill 52 = .ok (.iload_n 1, 1) := dg_X7_fill_33.2.2.2.2.2.2.2.2.2.2.1
theorem dX7_fill_53 : decode cX7_fill 53 = .ok (.iaload, 1) := dg_X7_fill_33.2.2.2.2.2.2.2.2.2.2.2.1
theorem dX7_fill_54 : decode cX7_fill 54 = .ok (.iconst 1, 1) := dg_X7_fill_33.2.2.2.2.2.2.2.2.2.2.2.2.1
theorem dX7_fill_55 : decode cX7_fill 55 = .ok (.if_icmp .ne 13, 3) := dg_X7_fill_33.2.2.2.2.2.2.2.2.2.2.2.2.2.1
theorem dX7_fill_58 : decode cX7_fill 58 = .ok (.iload 4, 2) := dg_X7_fill_33.2.2.2.2.2.2.2.2.2.2.2.2.2.2.1
theorem dX7_fill_60 : decode cX7_fill 60 = .ok (.iload 7, 2) := dg_X7_fill_33.2.2.2.2.2.2.2.2.2.2.2.2.2.2.2
theorem dg_X7_fill_62 : (decode cX7_fill 62 = .ok (.invokestatic 138, 3)) ∧ (decode cX7_fill 65 = .ok (.ifCond .ne 9, 3)) ∧ (decode cX7_fill 68 = .ok (.aload_n 0, 1)) ∧ (decode cX7_fill 69 = .ok (.iconst 1, 1)) ∧ (decode cX7_fill 70 = .ok (.invokevirtual 65, 3)) ∧ (decode cX7_fill 73 = .ok (.ireturn, 1)) ∧ (decode cX7_fill 74 = .ok (.aload_n 0, 1)) ∧ (decode cX7_fill 75 = .ok (.getfield 10, 3)) ∧ (decode cX7_fill 78 = .ok (.iload_n 1, 1)) ∧ (decode cX7_fill 79 = .ok (.iload_n 2, 1)) ∧ (decode cX7_fill 80 = .ok (.iload_n 3, 1)) ∧ (decode cX7_fill 81 = .ok (.invokevirtual 166, 3)) ∧ (decode cX7_fill 84 = .ok (.ifCond .ne 9, 3)) ∧ (decode cX7_fill 87 = .ok (.aload_n 0, 1)) ∧ (decode cX7_fill 88 = .ok (.iconst 2, 1)) ∧ (decode cX7_fill 89 = .ok (.invokevirtual 65, 3)) := by decide +kernel
theorem dX7_fill_62 : decode cX7_fill 62 = .ok (.invokestatic 138, 3) := dg_X7_fill_62.1
theorem dX7_fill_65 : decode cX7_fill 65 = .ok (.ifCond .ne 9, 3) := dg_X7_fill_62.2.1
theorem dX7_fill_68 : decode cX7_fill 68 = .ok (.aload_n 0, 1) := dg_X7_fill_62.2.2.1
theorem dX7_fill_69 : decode cX7_fill 69 = .ok (.iconst 1, 1) := dg_X7_fill_62.2.2.2.1
theorem dX7_fill_70 : decode cX7_fill 70 = .ok (.invokevirtual 65, 3) := dg_X7_fill_62.2.2.2.2.1
theorem dX7_fill_73 : decode cX7_fill 73 = .ok (.ireturn, 1) := dg_X7_fill_62.2.2.2.2.2.1
theorem dX7_fill_74 : decode cX7_fill 74 = .ok (.aload_n 0, 1) := dg_X7_fill_62.2.2.2.2.2.2.1
theorem dX7_fill_75 : decode cX7_fill 75 = .ok (.getfield 10, 3) := dg_X7_fill_62.2.2.2.2.2.2.2.1
theorem dX7_fill_78 : decode cX7_fill 78 = .ok (.iload_n 1, 1) := dg_X7_fill_62.2.2.2.2.2.2.2.2.1
theorem dX7_fill_79 : decode cX7_fill 79 = .ok (.iload_n 2, 1) := dg_X7_fill_62.2.2.2.2.2.2.2.2.2.1
theorem dX7_fill_80 : decode cX7_fill 80 = .ok (.iload_n 3, 1) := dg_X7_fill_62.2.2.2.2.2.2.2.2.2.2.1
theorem dX7_fill_81 : decode cX7_fill 81 = .ok (.invokevirtual 166, 3) := dg_X7_fill_62.2.2.2.2.2.2.2.2.2.2.2.1
theorem dX7_fill_84 : decode cX7_fill 84 = .ok (.ifCond .ne 9, 3) := dg_X7_fill_62.2.2.2.2.2.2.2.2.2.2.2.2.1
theorem dX7_fill_87 : decode cX7_fill 87 = .ok (.aload_n 0, 1) := dg_X7_fill_62.2.2.2.2.2.2.2.2.2.2.2.2.2.1
theorem dX7_fill_88 : decode cX7_fill 88 = .ok (.iconst 2, 1) := dg_X7_fill_62.2.2.2.2.2.2.2.2.2.2.2.2.2.2.1
theorem dX7_fill_89 : decode cX7_fill 89 = .ok (.invokevirtual 65, 3) := dg_X7_fill_62.2.2.2.2.2.2.2.2.2.2.2.2.2.2.2
theorem dg_X7_fill_92 : (decode cX7_fill 92 = .ok (.ireturn, 1)) ∧ (decode cX7_fill 93 = .ok (.aload_n 0, 1)) ∧ (decode cX7_fill 94 = .ok (.getfield 10, 3)) ∧ (decode cX7_fill 97 = .ok (.iload_n 1, 1)) ∧ (decode cX7_fill 98 = .ok (.iload_n 2, 1)) ∧ (decode cX7_fill 99 = .ok (.iload_n 3, 1)) ∧ (decode cX7_fill 100 = .ok (.invokevirtual 109, 3)) ∧ (decode cX7_fill 103 = .ok (.ifCond .le 10, 3)) ∧ (decode cX7_fill 106 = .ok (.aload_n 0, 1)) ∧ (decode cX7_fill 107 = .ok (.bipush 6, 2)) ∧ (decode cX7_fill 109 = .ok (.invokevirtual 65, 3)) ∧ (decode cX7_fill 112 = .ok (.ireturn, 1)) ∧ (decode cX7_fill 113 = .ok (.iload 4, 2)) ∧ (decode cX7_fill 115 = .ok (.iload 7, 2)) ∧ (decode cX7_fill 117 = .ok (.iload 4, 2)) ∧ (decode cX7_fill 119 = .ok (.lload 5, 2)) := by decide +kernel
theorem dX7_fill_92 : decode cX7_fill 92 = .ok (.ireturn, 1) := dg_X7_fill_92.1
theorem dX7_fill_93 : decode cX7_fill 93 = .ok (.aload_n 0, 1) := dg_X7_fill_92.2.1
theorem dX7_fill_94 : decode cX7_fill 94 = .ok (.getfield 10, 3) := dg_X7_fill_92.2.2.1
theorem dX7_fill_97 : decode cX7_fill 97 = .ok (.iload_n 1, 1) := dg_X7_fill_92.2.2.2.1
theorem dX7_fill_98 : decode cX7_fill 98 = .ok (.iload_n 2, 1) := dg_X7_fill_92.2.2.2.2.1
theorem dX7_fill_99 : decode cX7_fill 99 = .ok (.iload_n 3, 1) := dg_X7_fill_92.2.2.2.2.2.1
theorem dX7_fill_100 : decode cX7_fill 100 = .ok (.invokevirtual 109, 3) := dg_X7_fill_92.2.2.2.2.2.2.1
theorem dX7_fill_103 : decode cX7_fill 103 = .ok (.ifCond .le 10, 3) := dg_X7_fill_92.2.2.2.2.2.2.2.1
theorem dX7_fill_106 : decode cX7_fill 106 = .ok (.aload_n 0, 1) := dg_X7_fill_92.2.2.2.2.2.2.2.2.1
theorem dX7_fill_107 : decode cX7_fill 107 = .ok (.bipush 6, 2) := dg_X7_fill_92.2.2.2.2.2.2.2.2.2.1
theorem dX7_fill_109 : decode cX7_fill 109 = .ok (.invokevirtual 65, 3) := dg_X7_fill_92.2.2.2.2.2.2.2.2.2.2.1
theorem dX7_fill_112 : decode cX7_fill 112 = .ok (.ireturn, 1) := dg_X7_fill_92.2.2.2.2.2.2.2.2.2.2.2.1
theorem dX7_fill_113 : decode cX7_fill 113 = .ok (.iload 4, 2) := dg_X7_fill_92.2.2.2.2.2.2.2.2.2.2.2.2.1
theorem dX7_fill_115 : decode cX7_fill 115 = .ok (.iload 7, 2) := dg_X7_fill_92.2.2.2.2.2.2.2.2.2.2.2.2.2.1
theorem dX7_fill_117 : decode cX7_fill 117 = .ok (.iload 4, 2) := dg_X7_fill_92.2.2.2.2.2.2.2.2.2.2.2.2.2.2.1
theorem dX7_fill_119 : decode cX7_fill 119 = .ok (.lload 5, 2) := dg_X7_fill_92.2.2.2.2.2.2.2.2.2.2.2.2.2.2.2
theorem dg_X7_fill_121 : (decode cX7_fill 121 = .ok (.invokestatic 156, 3)) ∧ (decode cX7_fill 124 = .ok (.invokestatic 144, 3)) ∧ (decode cX7_fill 127 = .ok (.lstore 8, 2)) ∧ (decode cX7_fill 129 = .ok (.aload_n 0, 1)) ∧ (decode cX7_fill 130 = .ok (.getfield 10, 3)) ∧ (decode cX7_fill 133 = .ok (.iload_n 1, 1)) ∧ (decode cX7_fill 134 = .ok (.lload 8, 2)) ∧ (decode cX7_fill 136 = .ok (.invokevirtual 160, 3)) ∧ (decode cX7_fill 139 = .ok (.ifCond .ne 10, 3)) ∧ (decode cX7_fill 142 = .ok (.aload_n 0, 1)) ∧ (decode cX7_fill 143 = .ok (.bipush 7, 2)) ∧ (decode cX7_fill 145 = .ok (.invokevirtual 65, 3)) ∧ (decode cX7_fill 148 = .ok (.ireturn, 1)) ∧ (decode cX7_fill 149 = .ok (.aload_n 0, 1)) ∧ (decode cX7_fill 150 = .ok (.getfield 10, 3)) ∧ (decode cX7_fill 153 = .ok (.getfield 120, 3)) := by decide +kernel
theorem dX7_fill_121 : decode cX7_fill 121 = .ok (.invokestatic 156, 3) := dg_X7_fill_121.1
theorem dX7_fill_124 : decode cX7_fill 124 = .ok (.invokestatic 144, 3) := dg_X7_fill_121.2.1
theorem dX7_fill_127 : decode cX7_fill 127 = .ok (.lstore 8, 2) := dg_X7_fill_121.2.2.1
theorem dX7_fill_129 : decode cX7_fill 129 = .ok (.aload_n 0, 1) := dg_X7_fill_121.2.2.2.1
theorem dX7_fill_130 : decode cX7_fill 130 = .ok (.getfield 10, 3) := dg_X7_fill_121.2.2.2.2.1
theorem dX7_fill_133 : decode cX7_fill 133 = .ok (.iload_n 1, 1) := dg_X7_fill_121.2.2.2.2.2.1
theorem dX7_fill_134 : decode cX7_fill 134 = .ok (.lload 8, 2) := dg_X7_fill_121.2.2.2.2.2.2.1
theorem dX7_fill_136 : decode cX7_fill 136 = .ok (.invokevirtual 160, 3) := dg_X7_fill_121.2.2.2.2.2.2.2.1
theorem dX7_fill_139 : decode cX7_fill 139 = .ok (.ifCond .ne 10, 3) := dg_X7_fill_121.2.2.2.2.2.2.2.2.1
theorem dX7_fill_142 : decode cX7_fill 142 = .ok (.aload_n 0, 1) := dg_X7_fill_121.2.2.2.2.2.2.2.2.2.1
theorem dX7_fill_143 : decode cX7_fill 143 = .ok (.bipush 7, 2) := dg_X7_fill_121.2.2.2.2.2.2.2.2.2.2.1
theorem dX7_fill_145 : decode cX7_fill 145 = .ok (.invokevirtual 65, 3) := dg_X7_fill_121.2.2.2.2.2.2.2.2.2.2.2.1
theorem dX7_fill_148 : decode cX7_fill 148 = .ok (.ireturn, 1) := dg_X7_fill_121.2.2.2.2.2.2.2.2.2.2.2.2.1
theorem dX7_fill_149 : decode cX7_fill 149 = .ok (.aload_n 0, 1) := dg_X7_fill_121.2.2.2.2.2.2.2.2.2.2.2.2.2.1
theorem dX7_fill_150 : decode cX7_fill 150 = .ok (.getfield 10, 3) := dg_X7_fill_121.2.2.2.2.2.2.2.2.2.2.2.2.2.2.1
theorem dX7_fill_153 : decode cX7_fill 153 = .ok (.getfield 120, 3) := dg_X7_fill_121.2.2.2.2.2.2.2.2.2.2.2.2.2.2.2
theorem dg_X7_fill_156 : (decode cX7_fill 156 = .ok (.iload_n 1, 1)) ∧ (decode cX7_fill 157 = .ok (.iaload, 1)) ∧ (decode cX7_fill 158 = .ok (.istore 10, 2)) ∧ (decode cX7_fill 160 = .ok (.iload_n 2, 1)) ∧ (decode cX7_fill 161 = .ok (.istore 11, 2)) ∧ (decode cX7_fill 163 = .ok (.iload 11, 2)) ∧ (decode cX7_fill 165 = .ok (.iload_n 3, 1)) ∧ (decode cX7_fill 166 = .ok (.if_icmp .ge 24, 3)) ∧ (decode cX7_fill 169 = .ok (.aload_n 0, 1)) ∧ (decode cX7_fill 170 = .ok (.getfield 10, 3)) ∧ (decode cX7_fill 173 = .ok (.getfield 116, 3)) ∧ (decode cX7_fill 176 = .ok (.iload 10, 2)) ∧ (decode cX7_fill 178 = .ok (.iload 11, 2)) ∧ (decode cX7_fill 180 = .ok (.iadd, 1)) ∧ (decode cX7_fill 181 = .ok (.lload 8, 2)) ∧ (decode cX7_fill 183 = .ok (.lastore, 1)) := by decide +kernel
theorem dX7_fill_156 : decode cX7_fill 156 = .ok (.iload_n 1, 1) := dg_X7_fill_156.1
theorem dX7_fill_157 : decode cX7_fill 157 = .ok (.iaload, 1) := dg_X7_fill_156.2.1
theorem dX7_fill_158 : decode cX7_fill 158 = .ok (.istore 10, 2) := dg_X7_fill_156.2.2.1
theorem dX7_fill_160 : decode cX7_fill 160 = .ok (.iload_n 2, 1) := dg_X7_fill_156.2.2.2.1
theorem dX7_fill_161 : decode cX7_fill 161 = .ok (.istore 11, 2) := dg_X7_fill_156.2.2.2.2.1
theorem dX7_fill_163 : decode cX7_fill 163 = .ok (.iload 11, 2) := dg_X7_fill_156.2.2.2.2.2.1
theorem dX7_fill_165 : decode cX7_fill 165 = .ok (.iload_n 3, 1) := dg_X7_fill_156.2.2.2.2.2.2.1
theorem dX7_fill_166 : decode cX7_fill 166 = .ok (.if_icmp .ge 24, 3) := dg_X7_fill_156.2.2.2.2.2.2.2.1
theorem dX7_fill_169 : decode cX7_fill 169 = .ok (.aload_n 0, 1) := dg_X7_fill_156.2.2.2.2.2.2.2.2.1
theorem dX7_fill_170 : decode cX7_fill 170 = .ok (.getfield 10, 3) := dg_X7_fill_156.2.2.2.2.2.2.2.2.2.1
theorem dX7_fill_173 : decode cX7_fill 173 = .ok (.getfield 116, 3) := dg_X7_fill_156.2.2.2.2.2.2.2.2.2.2.1
theorem dX7_fill_176 : decode cX7_fill 176 = .ok (.iload 10, 2) := dg_X7_fill_156.2.2.2.2.2.2.2.2.2.2.2.1
theorem dX7_fill_178 : decode cX7_fill 178 = .ok (.iload 11, 2) := dg_X7_fill_156.2.2.2.2.2.2.2.2.2.2.2.2.1
theorem dX7_fill_180 : decode cX7_fill 180 = .ok (.iadd, 1) := dg_X7_fill_156.2.2.2.2.2.2.2.2.2.2.2.2.2.1
theorem dX7_fill_181 : decode cX7_fill 181 = .ok (.lload 8, 2) := dg_X7_fill_156.2.2.2.2.2.2.2.2.2.2.2.2.2.2.1
theorem dX7_fill_183 : decode cX7_fill 183 = .ok (.lastore, 1) := dg_X7_fill_156.2.2.2.2.2.2.2.2.2.2.2.2.2.2.2
theorem dg_X7_fill_184 : (decode cX7_fill 184 = .ok (.iinc 11 1, 3)) ∧ (decode cX7_fill 187 = .ok (.goto (-24), 3)) ∧ (decode cX7_fill 190 = .ok (.aload_n 0, 1)) ∧ (decode cX7_fill 191 = .ok (.iload_n 3, 1)) ∧ (decode cX7_fill 192 = .ok (.iload_n 2, 1)) ∧ (decode cX7_fill 193 = .ok (.isub, 1)) ∧ (decode cX7_fill 194 = .ok (.invokevirtual 100, 3)) ∧ (decode cX7_fill 197 = .ok (.ireturn, 1)) := by decide +kernel
theorem dX7_fill_184 : decode cX7_fill 184 = .ok (.iinc 11 1, 3) := dg_X7_fill_184.1
theorem dX7_fill_187 : decode cX7_fill 187 = .ok (.goto (-24), 3) := dg_X7_fill_184.2.1
theorem dX7_fill_190 : decode cX7_fill 190 = .ok (.aload_n 0, 1) := dg_X7_fill_184.2.2.1
theorem dX7_fill_191 : decode cX7_fill 191 = .ok (.iload_n 3, 1) := dg_X7_fill_184.2.2.2.1
theorem dX7_fill_192 : decode cX7_fill 192 = .ok (.iload_n 2, 1) := dg_X7_fill_184.2.2.2.2.1
theorem dX7_fill_193 : decode cX7_fill 193 = .ok (.isub, 1) := dg_X7_fill_184.2.2.2.2.2.1
theorem dX7_fill_194 : decode cX7_fill 194 = .ok (.invokevirtual 100, 3) := dg_X7_fill_184.2.2.2.2.2.2.1
theorem dX7_fill_197 : decode cX7_fill 197 = .ok (.ireturn, 1) := dg_X7_fill_184.2.2.2.2.2.2.2
theorem zk_416 : Cond.methodLink RX7 166 yX6_hasRange ∈ zz_w := zz_in (List.mem_append_right _ (List.mem_append_right _ (List.mem_append_left _ (List.mem_of_getElem? (i := 176) (by decide +kernel))))) rfl
set_option maxRecDepth 20000 in
theorem zk_419 : Cond.code yX6_hasRange cX6_hasRange 4 (some .boolean) ∈ zz_w := zz_in (List.mem_append_right _ (List.mem_append_right _ (List.mem_append_left _ (List.mem_of_getElem? (i := 179) (rfl))))) rfl
theorem zk_417 : Cond.instanceMethod yX6_hasRange ∈ zz_w := zz_in (List.mem_append_right _ (List.mem_append_right _ (List.mem_append_left _ (List.mem_of_getElem? (i := 177) (by decide +kernel))))) rfl
theorem zk_418 : Cond.selects RX6 yX6_hasRange yX6_hasRange ∈ zz_w := zz_in (List.mem_append_right _ (List.mem_append_right _ (List.mem_append_left _ (List.mem_of_getElem? (i := 178) (by decide +kernel))))) rfl
theorem zc_X7_166 : zz_cV RX7 166 yX6_hasRange cX6_hasRange 4 (some .boolean) 3 := ⟨⟨zk_416, zk_419, zk_2, by decide, by decide, by decide +kernel⟩, zk_417, zk_418⟩
def fo_cx_fill (na : Nat) (nu : Nat) (kdf : Nat → Int32) (dpf : Nat → Int32) (clf : Nat → Int32) (saf : Nat → Int32) (lnf : Nat → Int32) (btf : Nat → Int64) (pnf : Nat → Int32) (x1 : Int32) (x2 : Int32) (x3 : Int32) (x4 : Int32) (x5 : Int64) : (Int32) × (Nat → Int64) := (if (fn_co_has (nI na) x1) = 0 then (-5, btf) else (if (fn_co_holds x4 x5) = 0 then (-9, btf) else (if (nI ((dpf x1.toNatClampNeg).toNatClampNeg)) = 1 then (if (fn_co_reaches x4 (kdf x1.toNatClampNeg)) = 0 then (-1, btf) else (if (fn_co_hasRange lnf x1.toNatClampNeg x2 x3) = 0 then (-2, btf) else (if (nI (zz_cp pnf (((saf x1.toNatClampNeg).toNatClampNeg) + x2.toNatClampNeg) (x3.toNatClampNeg - x2.toNatClampNeg))) ≤ 0 then (if (fn_co_takes clf x1.toNatClampNeg (fn_co_widened x4 (kdf x1.toNatClampNeg) (fn_co_cleaned x4 x5))) = 0 then (-7, btf) else (((nI x3.toNatClampNeg) - (nI x2.toNatClampNeg)), (zz_fl btf (((saf x1.toNatClampNeg).toNatClampNeg) + x2.toNatClampNeg) (((saf x1.toNatClampNeg).toNatClampNeg) + x3.toNatClampNeg) (fn_co_widened x4 (kdf x1.toNatClampNeg) (fn_co_cleaned x4 x5))))) else (-6, btf)))) else (-1, btf))))
abbrev rm_cx_fill : Room := { frames := 3, cells := 0, slots := 0, locals := 80 }
abbrev po_cx_fill (g : zz_G) (h0 : Nat) (st : Nat) (mk : Nat) (lk : Nat) (ch : Nat) (ru : Nat) (mr : Nat) (kd : Nat) (dp : Nat) (cl : Nat) (sa : Nat) (ln : Nat) (bt : Nat) (pn : Nat) (bf : Nat) (md : Int32) (la : Int32) (na : Nat) (nu : Nat) (kdf : Nat → Int32) (dpf : Nat → Int32) (clf : Nat → Int32) (saf : Nat → Int32) (lnf : Nat → Int32) (btf : Nat → Int64) (pnf : Nat → Int32) (x1 : Int32) (x2 : Int32) (x3 : Int32) (x4 : Int32) (x5 : Int64) (h_S : zz_SI na nu dpf saf lnf) : Int32 → va_W → Prop := fun (r : Int32) (u : va_W) => ∃ (la2 : Int32) (bt2 : Nat → Int64), (r, bt2) = fo_cx_fill na nu kdf dpf clf saf lnf btf pnf x1 x2 x3 x4 x5 ∧ (zz_D1 na dpf saf lnf btf bt2) ∧ u = [cw_k6 h0 st mk lk ch ru mr md la2, cw_k5 st (nI na) (nI nu) kd dp cl sa ln bt pn bf, cw_i g kd 60 kdf, cw_i g dp 60 dpf, cw_i g cl 60 clf, cw_i g sa 60 saf, cw_i g ln 60 lnf, cw_l g bt 4000 bt2, cw_z g pn 4000 pnf]
set_option maxHeartbeats 4000000 in
set_option maxRecDepth 100000 in
theorem cx_fill (g : zz_G) (h0 : Nat) (st : Nat) (mk : Nat) (lk : Nat) (ch : Nat) (ru : Nat) (mr : Nat) (kd : Nat) (dp : Nat) (cl : Nat) (sa : Nat) (ln : Nat) (bt : Nat) (pn : Nat) (bf : Nat) (md : Int32) (la : Int32) (na : Nat) (nu : Nat) (kdf : Nat → Int32) (dpf : Nat → Int32) (clf : Nat → Int32) (saf : Nat → Int32) (lnf : Nat → Int32) (btf : Nat → Int64) (pnf : Nat → Int32) (x1 : Int32) (x2 : Int32) (x3 : Int32) (x4 : Int32) (x5 : Int64) (h_S : zz_SI na nu dpf saf lnf) : zz_I g yX7_fill (.code yX7_fill cX7_fill 12 (some .int)) rm_cx_fill [.ref h0, .int x1, .int x2, .int x3, .int x4, .long x5] [cw_k6 h0 st mk lk ch ru mr md la, cw_k5 st (nI na) (nI nu) kd dp cl sa ln bt pn bf, cw_i g kd 60 kdf, cw_i g dp 60 dpf, cw_i g cl 60 clf, cw_i g sa 60 saf, cw_i g ln 60 lnf, cw_l g bt 4000 btf, cw_z g pn 4000 pnf] (po_cx_fill g h0 st mk lk ch ru mr kd dp cl sa ln bt pn bf md la na nu kdf dpf clf saf lnf btf pnf x1 x2 x3 x4 x5 h_S) := by
  refine zz_I.intro (own := RX7) (cc := cX7_fill) (nL := 12) (by decide) rfl (Nat.le_of_ble_eq_true rfl) ?_
  intro p l e s m args below meth c A H locs ls hC hnm hs hZ hl
  obtain ⟨hx, hb, hml, hown, hts, hr, hlocks, hK⟩ := id hC
  have hl : lv_has ls 12 [(0, .ref h0), (1, .int x1), (2, .int x2), (3, .int x3), (4, .int x4), (5, .long x5)] := hl
  have hZ : zz_Z g A s.heap [cw_k6 h0 st mk lk ch ru mr md la, cw_k5 st (nI na) (nI nu) kd dp cl sa ln bt pn bf, cw_i g kd 60 kdf, cw_i g dp 60 dpf, cw_i g cl 60 clf, cw_i g sa 60 saf, cw_i g ln 60 lnf, cw_l g bt 4000 btf, cw_z g pn 4000 pnf] H locs := hZ
  have hna := h_S.1
  have hnu := h_S.2.1
  refine lv_aload_n hx hb dX7_fill_0 rfl (lv_at hl 0 rfl) ?_
  refine zz_get hC hZ 0 rfl zf_X7_10 rfl dX7_fill_1 ?_
  refine lv_iload_n hx hb dX7_fill_4 rfl (lv_at hl 1 rfl) ?_
  refine zz_iV (As := [.int x1]) (wc := [cw_k5 st (nI na) (nI nu) kd dp cl sa ln bt pn bf]) (wr := [cw_k6 h0 st mk lk ch ru mr md la, cw_i g kd 60 kdf, cw_i g dp 60 dpf, cw_i g cl 60 clf, cw_i g sa 60 saf, cw_i g ln 60 lnf, cw_l g bt 4000 btf, cw_z g pn 4000 pnf]) (rest := []) hC hZ hs hl zc_X7_73 (co_has g st kd dp cl sa ln bt pn bf (nI na) (nI nu) x1) [1] [0, 2, 3, 4, 5, 6, 7, 8] rfl rfl (by decide +kernel) (ci := 5) (q0 := 0) rfl rfl rfl rfl (Nat.le_of_ble_eq_true rfl) ⟨⟨Nat.le_of_ble_eq_true rfl, Nat.le_of_ble_eq_true rfl⟩, Nat.le_of_ble_eq_true rfl, Nat.le_of_ble_eq_true rfl⟩ dX7_fill_5 (fun r1 u2 H locs hp hZ => ?_)
  obtain ⟨rfl, rfl⟩ := hp
  have hZ : zz_Z g A s.heap [cw_k6 h0 st mk lk ch ru mr md la, cw_i g kd 60 kdf, cw_i g dp 60 dpf, cw_i g cl 60 clf, cw_i g sa 60 saf, cw_i g ln 60 lnf, cw_l g bt 4000 btf, cw_z g pn 4000 pnf, cw_k5 st (nI na) (nI nu) kd dp cl sa ln bt pn bf] H locs := hZ
  refine lv_if_ne (tgt := 17) hx hb dX7_fill_8 (by decide) (fun c3 => ?_) (fun c3 => ?_)
  · obtain ⟨a1, ha1, ea1⟩ := zl_has (by omega) c3
    have hl : lv_has ls 12 [(0, .ref h0), (1, .int (nI a1)), (2, .int x2), (3, .int x3), (4, .int x4), (5, .long x5)] := by rw [← ea1]; exact hl
    have bd4 : a1 < 2 ^ 31 := by omega
    have d_a1 : x1.toNatClampNeg = a1 := by rw [ea1]; exact nI_clamp bd4
    obtain ⟨sz1, lz1, dz1, es1, el1, ed1, g11, g21, g31, g41⟩ := h_S.2.2 a1 ha1
    have bd5 : sz1 < 2 ^ 31 := by omega
    have d_sz1 : (saf a1).toNatClampNeg = sz1 := by rw [es1]; exact nI_clamp bd5
    have bd6 : lz1 < 2 ^ 31 := by omega
    have d_lz1 : (lnf a1).toNatClampNeg = lz1 := by rw [el1]; exact nI_clamp bd6
    have bd7 : dz1 < 2 ^ 31 := by omega
    have d_dz1 : (dpf a1).toNatClampNeg = dz1 := by rw [ed1]; exact nI_clamp bd7
    refine lv_iload hx hb dX7_fill_17 (lv_at hl 4 rfl) ?_
    refine lv_lload hx hb dX7_fill_19 (lv_at hl 5 rfl) ?_
    refine zz_iS (As := [.int x4, .long x5]) (wc := []) (wr := [cw_k6 h0 st mk lk ch ru mr md la, cw_i g kd 60 kdf, cw_i g dp 60 dpf, cw_i g cl 60 clf, cw_i g sa 60 saf, cw_i g ln 60 lnf, cw_l g bt 4000 btf, cw_z g pn 4000 pnf, cw_k5 st (nI na) (nI nu) kd dp cl sa ln bt pn bf]) (rest := []) hC hZ hs hl zc_X7_148 (co_holds g x4 x5) [] [0, 1, 2, 3, 4, 5, 6, 7, 8] rfl rfl (by decide +kernel) rfl rfl (Nat.le_of_ble_eq_true rfl) ⟨⟨Nat.le_of_ble_eq_true rfl, Nat.le_of_ble_eq_true rfl⟩, Nat.le_of_ble_eq_true rfl, Nat.le_of_ble_eq_true rfl⟩ dX7_fill_21 (fun r8 u9 H locs hp hZ => ?_)
    obtain ⟨rfl, rfl⟩ := hp
    have hZ : zz_Z g A s.heap [cw_k6 h0 st mk lk ch ru mr md la, cw_i g kd 60 kdf, cw_i g dp 60 dpf, cw_i g cl 60 clf, cw_i g sa 60 saf, cw_i g ln 60 lnf, cw_l g bt 4000 btf, cw_z g pn 4000 pnf, cw_k5 st (nI na) (nI nu) kd dp cl sa ln bt pn bf] H locs := hZ
    refine lv_if_ne (tgt := 34) hx hb dX7_fill_24 (by decide) (fun c10 => ?_) (fun c10 => ?_)
    · refine lv_aload_n hx hb dX7_fill_34 rfl (lv_at hl 0 rfl) ?_
      refine zz_get hC hZ 0 rfl zf_X7_10 rfl dX7_fill_35 ?_
      refine zz_get hC hZ 8 rfl zf_X7_80 rfl dX7_fill_38 ?_
      refine lv_iload_n hx hb dX7_fill_41 rfl (lv_at hl 1 rfl) ?_
      have bd11 : a1 < 60 := by omega
      refine zz_ialdn hC hZ 1 rfl bd11 (by decide) dX7_fill_42 ?_
      refine lv_istore (lv' := [(7, .int (kdf a1)), (0, .ref h0), (1, .int (nI a1)), (2, .int x2), (3, .int x3), (4, .int x4), (5, .long x5)]) hx hb dX7_fill_43 hl (by decide) rfl (fun ls hl => ?_)
      refine lv_aload_n hx hb dX7_fill_45 rfl (lv_at hl 1 rfl) ?_
      refine zz_get hC hZ 0 rfl zf_X7_10 rfl dX7_fill_46 ?_
      refine zz_get hC hZ 8 rfl zf_X7_76 rfl dX7_fill_49 ?_
      refine lv_iload_n hx hb dX7_fill_52 rfl (lv_at hl 2 rfl) ?_
      refine zz_ialdn hC hZ 2 rfl bd11 (by decide) dX7_fill_53 ?_
      refine zz_topi (v := nI dz1) (ed1) ?_
      refine lv_iconst (v := 1) hx hb dX7_fill_54 (by decide) ?_
      refine lv_icmp_ne (tgt := 68) hx hb dX7_fill_55 (by decide) (fun c12 => ?_) (fun c12 => ?_)
      · have nc12 : ¬ dz1 = 1 := fun zq => c12 (show nI (dz1) = nI (1) from (nI_eq bd7 (by decide)).mpr zq)
        refine lv_aload_n hx hb dX7_fill_68 rfl (lv_at hl 1 rfl) ?_
        refine lv_iconst (v := 1) hx hb dX7_fill_69 (by decide) ?_
        refine zz_iV (As := [.int 1]) (wc := [cw_k6 h0 st mk lk ch ru mr md la]) (wr := [cw_i g kd 60 kdf, cw_i g dp 60 dpf, cw_i g cl 60 clf, cw_i g sa 60 saf, cw_i g ln 60 lnf, cw_l g bt 4000 btf, cw_z g pn 4000 pnf, cw_k5 st (nI na) (nI nu) kd dp cl sa ln bt pn bf]) (rest := []) hC hZ hs hl zc_X7_65 (co_fail g h0 st mk lk ch ru mr md la 1) [0] [1, 2, 3, 4, 5, 6, 7, 8] rfl rfl (by decide +kernel) (ci := 6) (q0 := 0) rfl rfl rfl rfl (Nat.le_of_ble_eq_true rfl) ⟨⟨Nat.le_of_ble_eq_true rfl, Nat.le_of_ble_eq_true rfl⟩, Nat.le_of_ble_eq_true rfl, Nat.le_of_ble_eq_true rfl⟩ dX7_fill_70 (fun r13 u14 H locs hp hZ => ?_)
        obtain ⟨rfl, rfl⟩ := hp
        have hZ : zz_Z g A s.heap [cw_i g kd 60 kdf, cw_i g dp 60 dpf, cw_i g cl 60 clf, cw_i g sa 60 saf, cw_i g ln 60 lnf, cw_l g bt 4000 btf, cw_z g pn 4000 pnf, cw_k5 st (nI na) (nI nu) kd dp cl sa ln bt pn bf, cw_k6 h0 st mk lk ch ru mr md 1] H locs := hZ
        have hZ : zz_Z g A s.heap [cw_k6 h0 st mk lk ch ru mr md 1, cw_k5 st (nI na) (nI nu) kd dp cl sa ln bt pn bf, cw_i g kd 60 kdf, cw_i g dp 60 dpf, cw_i g cl 60 clf, cw_i g sa 60 saf, cw_i g ln 60 lnf, cw_l g bt 4000 btf, cw_z g pn 4000 pnf] H locs := hZ.sub [8, 7, 0, 1, 2, 3, 4, 5, 6] (by decide +kernel) rfl
        exact zz_iret hC hZ (⟨1, btf, by refine Eq.symm ?_; rw [fo_cx_fill]; refine (if_neg (by (try simp only [d_a1, d_sz1, d_lz1, d_dz1]); exact c3)).trans ?_; refine (if_neg (by (try simp only [d_a1, d_sz1, d_lz1, d_dz1]); exact c10)).trans ?_; refine (if_neg (by (try simp only [d_a1, d_sz1, d_lz1, d_dz1]); exact c12)).trans ?_; first | (simp only [d_a1, d_sz1, d_lz1, d_dz1]; done) | rfl, zz_D1.rf, rfl⟩) (Nat.le_of_ble_eq_true rfl) (Nat.le_of_ble_eq_true rfl) dX7_fill_73
      · have nc12 : dz1 = 1 := (nI_eq bd7 (by decide)).mp (show nI (dz1) = nI (1) from c12)
        refine lv_iload hx hb dX7_fill_58 (lv_at hl 5 rfl) ?_
        refine lv_iload hx hb dX7_fill_60 (lv_at hl 0 rfl) ?_
        refine zz_iS (As := [.int x4, .int (kdf a1)]) (wc := []) (wr := [cw_k6 h0 st mk lk ch ru mr md la, cw_i g kd 60 kdf, cw_i g dp 60 dpf, cw_i g cl 60 clf, cw_i g sa 60 saf, cw_i g ln 60 lnf, cw_l g bt 4000 btf, cw_z g pn 4000 pnf, cw_k5 st (nI na) (nI nu) kd dp cl sa ln bt pn bf]) (rest := []) hC hZ hs hl zc_X7_138 (co_reaches g x4 (kdf a1)) [] [0, 1, 2, 3, 4, 5, 6, 7, 8] rfl rfl (by decide +kernel) rfl rfl (Nat.le_of_ble_eq_true rfl) ⟨⟨Nat.le_of_ble_eq_true rfl, Nat.le_of_ble_eq_true rfl⟩, Nat.le_of_ble_eq_true rfl, Nat.le_of_ble_eq_true rfl⟩ dX7_fill_62 (fun r15 u16 H locs hp hZ => ?_)
        obtain ⟨rfl, rfl⟩ := hp
        have hZ : zz_Z g A s.heap [cw_k6 h0 st mk lk ch ru mr md la, cw_i g kd 60 kdf, cw_i g dp 60 dpf, cw_i g cl 60 clf, cw_i g sa 60 saf, cw_i g ln 60 lnf, cw_l g bt 4000 btf, cw_z g pn 4000 pnf, cw_k5 st (nI na) (nI nu) kd dp cl sa ln bt pn bf] H locs := hZ
        refine lv_if_ne (tgt := 74) hx hb dX7_fill_65 (by decide) (fun c17 => ?_) (fun c17 => ?_)
        · refine lv_aload_n hx hb dX7_fill_74 rfl (lv_at hl 1 rfl) ?_
          refine zz_get hC hZ 0 rfl zf_X7_10 rfl dX7_fill_75 ?_
          refine lv_iload_n hx hb dX7_fill_78 rfl (lv_at hl 2 rfl) ?_
          refine lv_iload_n hx hb dX7_fill_79 rfl (lv_at hl 3 rfl) ?_
          refine lv_iload_n hx hb dX7_fill_80 rfl (lv_at hl 4 rfl) ?_
          refine zz_iV (As := [.int (nI a1), .int x2, .int x3]) (wc := [cw_k5 st (nI na) (nI nu) kd dp cl sa ln bt pn bf, cw_i g ln 60 lnf]) (wr := [cw_k6 h0 st mk lk ch ru mr md la, cw_i g kd 60 kdf, cw_i g dp 60 dpf, cw_i g cl 60 clf, cw_i g sa 60 saf, cw_l g bt 4000 btf, cw_z g pn 4000 pnf]) (rest := []) hC hZ hs hl zc_X7_166 (co_hasRange g st kd dp cl sa ln bt pn bf na nu lnf a1 x2 x3 (by omega)) [8, 5] [0, 1, 2, 3, 4, 6, 7] rfl rfl (by decide +kernel) (ci := 5) (q0 := 0) rfl rfl rfl rfl (Nat.le_of_ble_eq_true rfl) ⟨⟨Nat.le_of_ble_eq_true rfl, Nat.le_of_ble_eq_true rfl⟩, Nat.le_of_ble_eq_true rfl, Nat.le_of_ble_eq_true rfl⟩ dX7_fill_81 (fun r18 u19 H locs hp hZ => ?_)
          obtain ⟨rfl, rfl⟩ := hp
          have hZ : zz_Z g A s.heap [cw_k6 h0 st mk lk ch ru mr md la, cw_i g kd 60 kdf, cw_i g dp 60 dpf, cw_i g cl 60 clf, cw_i g sa 60 saf, cw_l g bt 4000 btf, cw_z g pn 4000 pnf, cw_k5 st (nI na) (nI nu) kd dp cl sa ln bt pn bf, cw_i g ln 60 lnf] H locs := hZ
          refine lv_if_ne (tgt := 93) hx hb dX7_fill_84 (by decide) (fun c20 => ?_) (fun c20 => ?_)
          · obtain ⟨f, t, ef, et, hft, htl⟩ := zl_range el1 g11 c20
            have hl : lv_has ls 12 [(7, .int (kdf a1)), (0, .ref h0), (1, .int (nI a1)), (2, .int (nI f)), (3, .int x3), (4, .int x4), (5, .long x5)] := by rw [← ef]; exact hl
            have hl : lv_has ls 12 [(7, .int (kdf a1)), (0, .ref h0), (1, .int (nI a1)), (2, .int (nI f)), (3, .int (nI t)), (4, .int x4), (5, .long x5)] := by rw [← et]; exact hl
            have bd21 : f < 2 ^ 31 := by omega
            have d_f : x2.toNatClampNeg = f := by rw [ef]; exact nI_clamp bd21
            have bd22 : t < 2 ^ 31 := by omega
            have d_t : x3.toNatClampNeg = t := by rw [et]; exact nI_clamp bd22
            refine lv_aload_n hx hb dX7_fill_93 rfl (lv_at hl 1 rfl) ?_
            refine zz_get hC hZ 0 rfl zf_X7_10 rfl dX7_fill_94 ?_
            refine lv_iload_n hx hb dX7_fill_97 rfl (lv_at hl 2 rfl) ?_
            refine lv_iload_n hx hb dX7_fill_98 rfl (lv_at hl 3 rfl) ?_
            refine lv_iload_n hx hb dX7_fill_99 rfl (lv_at hl 4 rfl) ?_
            refine zz_iV (As := [.int (nI a1), .int (nI f), .int (nI t)]) (wc := [cw_k5 st (nI na) (nI nu) kd dp cl sa ln bt pn bf, cw_i g sa 60 saf, cw_z g pn 4000 pnf]) (wr := [cw_k6 h0 st mk lk ch ru mr md la, cw_i g kd 60 kdf, cw_i g dp 60 dpf, cw_i g cl 60 clf, cw_l g bt 4000 btf, cw_i g ln 60 lnf]) (rest := []) hC hZ hs hl zc_X7_109 (co_pinnedIn g st kd dp cl sa ln bt pn bf na nu saf pnf a1 sz1 lz1 f t (by omega) (es1) (by omega) (by omega)) [7, 4, 6] [0, 1, 2, 3, 5, 8] rfl rfl (by decide +kernel) (ci := 5) (q0 := 0) rfl rfl rfl rfl (Nat.le_of_ble_eq_true rfl) ⟨⟨Nat.le_of_ble_eq_true rfl, Nat.le_of_ble_eq_true rfl⟩, Nat.le_of_ble_eq_true rfl, Nat.le_of_ble_eq_true rfl⟩ dX7_fill_100 (fun r23 u24 H locs hp hZ => ?_)
            obtain ⟨rfl, f25, rfl⟩ := hp
            have hZ : zz_Z g A s.heap [cw_k6 h0 st mk lk ch ru mr md la, cw_i g kd 60 kdf, cw_i g dp 60 dpf, cw_i g cl 60 clf, cw_l g bt 4000 btf, cw_i g ln 60 lnf, cw_k5 st (nI na) (nI nu) kd dp cl sa ln bt pn bf, cw_i g sa 60 saf, cw_z g pn 4000 pnf] H locs := hZ
            have bd27 : (zz_cp pnf (sz1 + f) (t - f)) < 2 ^ 31 := by omega
            refine lv_if_le (tgt := 113) hx hb dX7_fill_103 (by decide) (fun c26 => ?_) (fun c26 => ?_)
            · have nc26 : (zz_cp pnf (sz1 + f) (t - f)) ≤ 0 := (nI_leI bd27 (by decide)).mp (show nI ((zz_cp pnf (sz1 + f) (t - f))) ≤ nI (0) from c26)
              refine lv_iload hx hb dX7_fill_113 (lv_at hl 5 rfl) ?_
              refine lv_iload hx hb dX7_fill_115 (lv_at hl 0 rfl) ?_
              refine lv_iload hx hb dX7_fill_117 (lv_at hl 5 rfl) ?_
              refine lv_lload hx hb dX7_fill_119 (lv_at hl 6 rfl) ?_
              refine zz_lS (As := [.int x4, .long x5]) (wc := []) (wr := [cw_k6 h0 st mk lk ch ru mr md la, cw_i g kd 60 kdf, cw_i g dp 60 dpf, cw_i g cl 60 clf, cw_l g bt 4000 btf, cw_i g ln 60 lnf, cw_k5 st (nI na) (nI nu) kd dp cl sa ln bt pn bf, cw_i g sa 60 saf, cw_z g pn 4000 pnf]) (rest := [.int (kdf a1), .int x4]) hC hZ hs hl zc_X7_156 (co_cleaned g x4 x5) [] [0, 1, 2, 3, 4, 5, 6, 7, 8] rfl rfl (by decide +kernel) rfl rfl (Nat.le_of_ble_eq_true rfl) ⟨⟨Nat.le_of_ble_eq_true rfl, Nat.le_of_ble_eq_true rfl⟩, Nat.le_of_ble_eq_true rfl, Nat.le_of_ble_eq_true rfl⟩ dX7_fill_121 (fun r28 u29 H locs hp hZ => ?_)
              obtain ⟨rfl, rfl⟩ := hp
              have hZ : zz_Z g A s.heap [cw_k6 h0 st mk lk ch ru mr md la, cw_i g kd 60 kdf, cw_i g dp 60 dpf, cw_i g cl 60 clf, cw_l g bt 4000 btf, cw_i g ln 60 lnf, cw_k5 st (nI na) (nI nu) kd dp cl sa ln bt pn bf, cw_i g sa 60 saf, cw_z g pn 4000 pnf] H locs := hZ
              refine zz_lS (As := [.int x4, .int (kdf a1), .long (fn_co_cleaned x4 x5)]) (wc := []) (wr := [cw_k6 h0 st mk lk ch ru mr md la, cw_i g kd 60 kdf, cw_i g dp 60 dpf, cw_i g cl 60 clf, cw_l g bt 4000 btf, cw_i g ln 60 lnf, cw_k5 st (nI na) (nI nu) kd dp cl sa ln bt pn bf, cw_i g sa 60 saf, cw_z g pn 4000 pnf]) (rest := []) hC hZ hs hl zc_X7_144 (co_widened g x4 (kdf a1) (fn_co_cleaned x4 x5)) [] [0, 1, 2, 3, 4, 5, 6, 7, 8] rfl rfl (by decide +kernel) rfl rfl (Nat.le_of_ble_eq_true rfl) ⟨⟨Nat.le_of_ble_eq_true rfl, Nat.le_of_ble_eq_true rfl⟩, Nat.le_of_ble_eq_true rfl, Nat.le_of_ble_eq_true rfl⟩ dX7_fill_124 (fun r30 u31 H locs hp hZ => ?_)
              obtain ⟨rfl, rfl⟩ := hp
              have hZ : zz_Z g A s.heap [cw_k6 h0 st mk lk ch ru mr md la, cw_i g kd 60 kdf, cw_i g dp 60 dpf, cw_i g cl 60 clf, cw_l g bt 4000 btf, cw_i g ln 60 lnf, cw_k5 st (nI na) (nI nu) kd dp cl sa ln bt pn bf, cw_i g sa 60 saf, cw_z g pn 4000 pnf] H locs := hZ
              refine lv_lstore (lv' := [(8, .long (fn_co_widened x4 (kdf a1) (fn_co_cleaned x4 x5))), (7, .int (kdf a1)), (0, .ref h0), (1, .int (nI a1)), (2, .int (nI f)), (3, .int (nI t)), (4, .int x4), (5, .long x5)]) hx hb dX7_fill_127 hl (by decide) rfl (fun ls hl => ?_)
              refine lv_aload_n hx hb dX7_fill_129 rfl (lv_at hl 2 rfl) ?_
              refine zz_get hC hZ 0 rfl zf_X7_10 rfl dX7_fill_130 ?_
              refine lv_iload_n hx hb dX7_fill_133 rfl (lv_at hl 3 rfl) ?_
              refine lv_lload hx hb dX7_fill_134 (lv_at hl 0 rfl) ?_
              refine zz_iV (As := [.int (nI a1), .long (fn_co_widened x4 (kdf a1) (fn_co_cleaned x4 x5))]) (wc := [cw_k5 st (nI na) (nI nu) kd dp cl sa ln bt pn bf, cw_i g cl 60 clf]) (wr := [cw_k6 h0 st mk lk ch ru mr md la, cw_i g kd 60 kdf, cw_i g dp 60 dpf, cw_l g bt 4000 btf, cw_i g ln 60 lnf, cw_i g sa 60 saf, cw_z g pn 4000 pnf]) (rest := []) hC hZ hs hl zc_X7_160 (co_takes g st kd dp cl sa ln bt pn bf na nu clf a1 (fn_co_widened x4 (kdf a1) (fn_co_cleaned x4 x5)) (by omega)) [6, 3] [0, 1, 2, 4, 5, 7, 8] rfl rfl (by decide +kernel) (ci := 5) (q0 := 0) rfl rfl rfl rfl (Nat.le_of_ble_eq_true rfl) ⟨⟨Nat.le_of_ble_eq_true rfl, Nat.le_of_ble_eq_true rfl⟩, Nat.le_of_ble_eq_true rfl, Nat.le_of_ble_eq_true rfl⟩ dX7_fill_136 (fun r32 u33 H locs hp hZ => ?_)
              obtain ⟨rfl, rfl⟩ := hp
              have hZ : zz_Z g A s.heap [cw_k6 h0 st mk lk ch ru mr md la, cw_i g kd 60 kdf, cw_i g dp 60 dpf, cw_l g bt 4000 btf, cw_i g ln 60 lnf, cw_i g sa 60 saf, cw_z g pn 4000 pnf, cw_k5 st (nI na) (nI nu) kd dp cl sa ln bt pn bf, cw_i g cl 60 clf] H locs := hZ
              refine lv_if_ne (tgt := 149) hx hb dX7_fill_139 (by decide) (fun c34 => ?_) (fun c34 => ?_)
              · refine lv_aload_n hx hb dX7_fill_149 rfl (lv_at hl 2 rfl) ?_
                refine zz_get hC hZ 0 rfl zf_X7_10 rfl dX7_fill_150 ?_
                refine zz_get hC hZ 7 rfl zf_X7_120 rfl dX7_fill_153 ?_
                refine lv_iload_n hx hb dX7_fill_156 rfl (lv_at hl 3 rfl) ?_
                refine zz_ialdn hC hZ 5 rfl bd11 (by decide) dX7_fill_157 ?_
                refine zz_topi (v := nI sz1) (es1) ?_
                refine lv_istore (lv' := [(10, .int (nI sz1)), (8, .long (fn_co_widened x4 (kdf a1) (fn_co_cleaned x4 x5))), (7, .int (kdf a1)), (0, .ref h0), (1, .int (nI a1)), (2, .int (nI f)), (3, .int (nI t)), (4, .int x4), (5, .long x5)]) hx hb dX7_fill_158 hl (by decide) rfl (fun ls hl => ?_)
                refine lv_iload_n hx hb dX7_fill_160 rfl (lv_at hl 5 rfl) ?_
                refine lv_istore (lv' := [(11, .int (nI f)), (10, .int (nI sz1)), (8, .long (fn_co_widened x4 (kdf a1) (fn_co_cleaned x4 x5))), (7, .int (kdf a1)), (0, .ref h0), (1, .int (nI a1)), (2, .int (nI f)), (3, .int (nI t)), (4, .int x4), (5, .long x5)]) hx hb dX7_fill_161 hl (by decide) rfl (fun ls hl => ?_)
                have LP35 : ∀ (N : Nat) (i : Nat) (bt1 : Nat → Int64) (H : Heap) (locs : List Loc) (ls : Array Slot), (f ≤ i ∧ i ≤ t) → (∀ j, bt1 j = if sz1 + f ≤ j ∧ j < sz1 + i then (fn_co_widened x4 (kdf a1) (fn_co_cleaned x4 x5)) else btf j) → (t - i) < N → zz_Z g A s.heap [cw_k6 h0 st mk lk ch ru mr md la, cw_i g kd 60 kdf, cw_i g dp 60 dpf, cw_l g bt 4000 bt1, cw_i g ln 60 lnf, cw_i g sa 60 saf, cw_z g pn 4000 pnf, cw_k5 st (nI na) (nI nu) kd dp cl sa ln bt pn bf, cw_i g cl 60 clf] H locs → lv_has ls 12 [(11, .int (nI i)), (10, .int (nI sz1)), (8, .long (fn_co_widened x4 (kdf a1) (fn_co_cleaned x4 x5))), (7, .int (kdf a1)), (0, .ref h0), (1, .int (nI a1)), (2, .int (nI f)), (3, .int (nI t)), (4, .int x4), (5, .long x5)] → W p l e rm_cx_fill s m args below meth c H locs 0 0 (zz_QI below g args s A rm_cx_fill.cells rm_cx_fill.slots (po_cx_fill g h0 st mk lk ch ru mr kd dp cl sa ln bt pn bf md la na nu kdf dpf clf saf lnf btf pnf x1 x2 x3 x4 x5 h_S)) (F0 m 163 ls []) := by
                  intro N
                  induction N with
                  | zero =>
                    intro i bt1 H locs ls hi hbn hN
                    exact absurd hN (Nat.not_lt_zero _)
                  | succ N ih =>
                    intro i bt1 H locs ls hi hbn hN hZ hl
                    refine lv_iload hx hb dX7_fill_163 (lv_at hl 0 rfl) ?_
                    refine lv_iload_n hx hb dX7_fill_165 rfl (lv_at hl 7 rfl) ?_
                    have bd37 : i < 2 ^ 31 := by omega
                    refine lv_icmp_ge (tgt := 190) hx hb dX7_fill_166 (by decide) (fun c36 => ?_) (fun c36 => ?_)
                    · have nc36 : t ≤ i := (nI_leI bd22 bd37).mp (show nI (t) ≤ nI (i) from c36)
                      have d_bt1 : zz_fl btf (sz1 + f) (sz1 + t) (fn_co_widened x4 (kdf a1) (fn_co_cleaned x4 x5)) = bt1 := zl_flE (by omega) hbn
                      refine lv_aload_n hx hb dX7_fill_190 rfl (lv_at hl 4 rfl) ?_
                      refine lv_iload_n hx hb dX7_fill_191 rfl (lv_at hl 7 rfl) ?_
                      refine lv_iload_n hx hb dX7_fill_192 rfl (lv_at hl 6 rfl) ?_
                      refine lv_isub hx hb dX7_fill_193 ?_
                      refine zz_iV (As := [.int ((nI t) - (nI f))]) (wc := [cw_k6 h0 st mk lk ch ru mr md la]) (wr := [cw_i g kd 60 kdf, cw_i g dp 60 dpf, cw_l g bt 4000 bt1, cw_i g ln 60 lnf, cw_i g sa 60 saf, cw_z g pn 4000 pnf, cw_k5 st (nI na) (nI nu) kd dp cl sa ln bt pn bf, cw_i g cl 60 clf]) (rest := []) hC hZ hs hl zc_X7_100 (co_fine g h0 st mk lk ch ru mr md la ((nI t) - (nI f))) [0] [1, 2, 3, 4, 5, 6, 7, 8] rfl rfl (by decide +kernel) (ci := 6) (q0 := 0) rfl rfl rfl rfl (Nat.le_of_ble_eq_true rfl) ⟨⟨Nat.le_of_ble_eq_true rfl, Nat.le_of_ble_eq_true rfl⟩, Nat.le_of_ble_eq_true rfl, Nat.le_of_ble_eq_true rfl⟩ dX7_fill_194 (fun r38 u39 H locs hp hZ => ?_)
                      obtain ⟨rfl, rfl⟩ := hp
                      have hZ : zz_Z g A s.heap [cw_i g kd 60 kdf, cw_i g dp 60 dpf, cw_l g bt 4000 bt1, cw_i g ln 60 lnf, cw_i g sa 60 saf, cw_z g pn 4000 pnf, cw_k5 st (nI na) (nI nu) kd dp cl sa ln bt pn bf, cw_i g cl 60 clf, cw_k6 h0 st mk lk ch ru mr md 0] H locs := hZ
                      have hZ : zz_Z g A s.heap [cw_k6 h0 st mk lk ch ru mr md 0, cw_k5 st (nI na) (nI nu) kd dp cl sa ln bt pn bf, cw_i g kd 60 kdf, cw_i g dp 60 dpf, cw_i g cl 60 clf, cw_i g sa 60 saf, cw_i g ln 60 lnf, cw_l g bt 4000 bt1, cw_z g pn 4000 pnf] H locs := hZ.sub [8, 6, 0, 1, 7, 4, 3, 2, 5] (by decide +kernel) rfl
                      exact zz_iret hC hZ (⟨0, bt1, by refine Eq.symm ?_; rw [fo_cx_fill]; refine (if_neg (by (try simp only [d_a1, d_sz1, d_lz1, d_dz1, d_f, d_t, d_bt1]); exact c3)).trans ?_; refine (if_neg (by (try simp only [d_a1, d_sz1, d_lz1, d_dz1, d_f, d_t, d_bt1]); exact c10)).trans ?_; refine (if_pos (by (try simp only [d_a1, d_sz1, d_lz1, d_dz1, d_f, d_t, d_bt1]); exact c12)).trans ?_; refine (if_neg (by (try simp only [d_a1, d_sz1, d_lz1, d_dz1, d_f, d_t, d_bt1]); exact c17)).trans ?_; refine (if_neg (by (try simp only [d_a1, d_sz1, d_lz1, d_dz1, d_f, d_t, d_bt1]); exact c20)).trans ?_; refine (if_pos (by (try simp only [d_a1, d_sz1, d_lz1, d_dz1, d_f, d_t, d_bt1]); exact c26)).trans ?_; refine (if_neg (by (try simp only [d_a1, d_sz1, d_lz1, d_dz1, d_f, d_t, d_bt1]); exact c34)).trans ?_; first | (simp only [d_a1, d_sz1, d_lz1, d_dz1, d_f, d_t, d_bt1]; done) | rfl, zz_D1.of ha1 (by rw [ed1, show dz1 = 1 by omega]) es1 el1 (by omega) (by omega) (fun j hj => (hbn j).trans (if_neg (by omega))), rfl⟩) (Nat.le_of_ble_eq_true rfl) (Nat.le_of_ble_eq_true rfl) dX7_fill_197
                    · have nc36 : ¬ t ≤ i := fun zq => c36 (show nI (t) ≤ nI (i) from (nI_leI bd22 bd37).mpr zq)
                      refine lv_aload_n hx hb dX7_fill_169 rfl (lv_at hl 4 rfl) ?_
                      refine zz_get hC hZ 0 rfl zf_X7_10 rfl dX7_fill_170 ?_
                      refine zz_get hC hZ 7 rfl zf_X7_116 rfl dX7_fill_173 ?_
                      refine lv_iload hx hb dX7_fill_176 (lv_at hl 1 rfl) ?_
                      refine lv_iload hx hb dX7_fill_178 (lv_at hl 0 rfl) ?_
                      refine lv_iadd hx hb dX7_fill_180 ?_
                      refine zz_topi (v := nI (sz1 + i)) (nI_add _ _) ?_
                      refine lv_lload hx hb dX7_fill_181 (lv_at hl 2 rfl) ?_
                      have bd40 : (sz1 + i) < 4000 := by omega
                      refine zz_lastn hC hZ 3 rfl bd40 (by decide) dX7_fill_183 (fun H locs hZ => ?_)
                      have hZ : zz_Z g A s.heap [cw_k6 h0 st mk lk ch ru mr md la, cw_i g kd 60 kdf, cw_i g dp 60 dpf, cw_l g bt 4000 (vp_updL bt1 (sz1 + i) (fn_co_widened x4 (kdf a1) (fn_co_cleaned x4 x5))), cw_i g ln 60 lnf, cw_i g sa 60 saf, cw_z g pn 4000 pnf, cw_k5 st (nI na) (nI nu) kd dp cl sa ln bt pn bf, cw_i g cl 60 clf] H locs := hZ
                      refine lv_iinc (v := nI (i + 1)) (lv' := [(11, .int (nI (i + 1))), (10, .int (nI sz1)), (8, .long (fn_co_widened x4 (kdf a1) (fn_co_cleaned x4 x5))), (7, .int (kdf a1)), (0, .ref h0), (1, .int (nI a1)), (2, .int (nI f)), (3, .int (nI t)), (4, .int x4), (5, .long x5)]) hx hb dX7_fill_184 hl (k := 0) rfl (nI_1 _) (by decide) rfl (fun ls hl => ?_)
                      refine lv_goto (tgt := 163) hx hb dX7_fill_187 (by decide) ?_
                      exact ih (i + 1) (vp_updL bt1 (sz1 + i) (fn_co_widened x4 (kdf a1) (fn_co_cleaned x4 x5))) H locs ls (by omega) (zl_flS (by omega) hbn) (by omega) hZ (lv_sub hl [0, 1, 2, 3, 4, 5, 6, 7, 8, 9] rfl)
                exact LP35 _ f btf H locs ls (by omega) (fun j => (if_neg (by omega)).symm) (Nat.lt_succ_self _) hZ (lv_sub hl [0, 1, 2, 3, 4, 5, 6, 7, 8, 9] rfl)
              · refine lv_aload_n hx hb dX7_fill_142 rfl (lv_at hl 2 rfl) ?_
                refine lv_bipush (v := 7) hx hb dX7_fill_143 (by decide) ?_
                refine zz_iV (As := [.int 7]) (wc := [cw_k6 h0 st mk lk ch ru mr md la]) (wr := [cw_i g kd 60 kdf, cw_i g dp 60 dpf, cw_l g bt 4000 btf, cw_i g ln 60 lnf, cw_i g sa 60 saf, cw_z g pn 4000 pnf, cw_k5 st (nI na) (nI nu) kd dp cl sa ln bt pn bf, cw_i g cl 60 clf]) (rest := []) hC hZ hs hl zc_X7_65 (co_fail g h0 st mk lk ch ru mr md la 7) [0] [1, 2, 3, 4, 5, 6, 7, 8] rfl rfl (by decide +kernel) (ci := 6) (q0 := 0) rfl rfl rfl rfl (Nat.le_of_ble_eq_true rfl) ⟨⟨Nat.le_of_ble_eq_true rfl, Nat.le_of_ble_eq_true rfl⟩, Nat.le_of_ble_eq_true rfl, Nat.le_of_ble_eq_true rfl⟩ dX7_fill_145 (fun r41 u42 H locs hp hZ => ?_)
                obtain ⟨rfl, rfl⟩ := hp
                have hZ : zz_Z g A s.heap [cw_i g kd 60 kdf, cw_i g dp 60 dpf, cw_l g bt 4000 btf, cw_i g ln 60 lnf, cw_i g sa 60 saf, cw_z g pn 4000 pnf, cw_k5 st (nI na) (nI nu) kd dp cl sa ln bt pn bf, cw_i g cl 60 clf, cw_k6 h0 st mk lk ch ru mr md 7] H locs := hZ
                have hZ : zz_Z g A s.heap [cw_k6 h0 st mk lk ch ru mr md 7, cw_k5 st (nI na) (nI nu) kd dp cl sa ln bt pn bf, cw_i g kd 60 kdf, cw_i g dp 60 dpf, cw_i g cl 60 clf, cw_i g sa 60 saf, cw_i g ln 60 lnf, cw_l g bt 4000 btf, cw_z g pn 4000 pnf] H locs := hZ.sub [8, 6, 0, 1, 7, 4, 3, 2, 5] (by decide +kernel) rfl
                exact zz_iret hC hZ (⟨7, btf, by refine Eq.symm ?_; rw [fo_cx_fill]; refine (if_neg (by (try simp only [d_a1, d_sz1, d_lz1, d_dz1, d_f, d_t]); exact c3)).trans ?_; refine (if_neg (by (try simp only [d_a1, d_sz1, d_lz1, d_dz1, d_f, d_t]); exact c10)).trans ?_; refine (if_pos (by (try simp only [d_a1, d_sz1, d_lz1, d_dz1, d_f, d_t]); exact c12)).trans ?_; refine (if_neg (by (try simp only [d_a1, d_sz1, d_lz1, d_dz1, d_f, d_t]); exact c17)).trans ?_; refine (if_neg (by (try simp only [d_a1, d_sz1, d_lz1, d_dz1, d_f, d_t]); exact c20)).trans ?_; refine (if_pos (by (try simp only [d_a1, d_sz1, d_lz1, d_dz1, d_f, d_t]); exact c26)).trans ?_; refine (if_pos (by (try simp only [d_a1, d_sz1, d_lz1, d_dz1, d_f, d_t]); exact c34)).trans ?_; first | (simp only [d_a1, d_sz1, d_lz1, d_dz1, d_f, d_t]; done) | rfl, zz_D1.rf, rfl⟩) (Nat.le_of_ble_eq_true rfl) (Nat.le_of_ble_eq_true rfl) dX7_fill_148
            · have nc26 : ¬ (zz_cp pnf (sz1 + f) (t - f)) ≤ 0 := fun zq => c26 (show nI ((zz_cp pnf (sz1 + f) (t - f))) ≤ nI (0) from (nI_leI bd27 (by decide)).mpr zq)
              refine lv_aload_n hx hb dX7_fill_106 rfl (lv_at hl 1 rfl) ?_
              refine lv_bipush (v := 6) hx hb dX7_fill_107 (by decide) ?_
              refine zz_iV (As := [.int 6]) (wc := [cw_k6 h0 st mk lk ch ru mr md la]) (wr := [cw_i g kd 60 kdf, cw_i g dp 60 dpf, cw_i g cl 60 clf, cw_l g bt 4000 btf, cw_i g ln 60 lnf, cw_k5 st (nI na) (nI nu) kd dp cl sa ln bt pn bf, cw_i g sa 60 saf, cw_z g pn 4000 pnf]) (rest := []) hC hZ hs hl zc_X7_65 (co_fail g h0 st mk lk ch ru mr md la 6) [0] [1, 2, 3, 4, 5, 6, 7, 8] rfl rfl (by decide +kernel) (ci := 6) (q0 := 0) rfl rfl rfl rfl (Nat.le_of_ble_eq_true rfl) ⟨⟨Nat.le_of_ble_eq_true rfl, Nat.le_of_ble_eq_true rfl⟩, Nat.le_of_ble_eq_true rfl, Nat.le_of_ble_eq_true rfl⟩ dX7_fill_109 (fun r43 u44 H locs hp hZ => ?_)
              obtain ⟨rfl, rfl⟩ := hp
              have hZ : zz_Z g A s.heap [cw_i g kd 60 kdf, cw_i g dp 60 dpf, cw_i g cl 60 clf, cw_l g bt 4000 btf, cw_i g ln 60 lnf, cw_k5 st (nI na) (nI nu) kd dp cl sa ln bt pn bf, cw_i g sa 60 saf, cw_z g pn 4000 pnf, cw_k6 h0 st mk lk ch ru mr md 6] H locs := hZ
              have hZ : zz_Z g A s.heap [cw_k6 h0 st mk lk ch ru mr md 6, cw_k5 st (nI na) (nI nu) kd dp cl sa ln bt pn bf, cw_i g kd 60 kdf, cw_i g dp 60 dpf, cw_i g cl 60 clf, cw_i g sa 60 saf, cw_i g ln 60 lnf, cw_l g bt 4000 btf, cw_z g pn 4000 pnf] H locs := hZ.sub [8, 5, 0, 1, 2, 6, 4, 3, 7] (by decide +kernel) rfl
              exact zz_iret hC hZ (⟨6, btf, by refine Eq.symm ?_; rw [fo_cx_fill]; refine (if_neg (by (try simp only [d_a1, d_sz1, d_lz1, d_dz1, d_f, d_t]); exact c3)).trans ?_; refine (if_neg (by (try simp only [d_a1, d_sz1, d_lz1, d_dz1, d_f, d_t]); exact c10)).trans ?_; refine (if_pos (by (try simp only [d_a1, d_sz1, d_lz1, d_dz1, d_f, d_t]); exact c12)).trans ?_; refine (if_neg (by (try simp only [d_a1, d_sz1, d_lz1, d_dz1, d_f, d_t]); exact c17)).trans ?_; refine (if_neg (by (try simp only [d_a1, d_sz1, d_lz1, d_dz1, d_f, d_t]); exact c20)).trans ?_; refine (if_neg (by (try simp only [d_a1, d_sz1, d_lz1, d_dz1, d_f, d_t]); exact c26)).trans ?_; first | (simp only [d_a1, d_sz1, d_lz1, d_dz1, d_f, d_t]; done) | rfl, zz_D1.rf, rfl⟩) (Nat.le_of_ble_eq_true rfl) (Nat.le_of_ble_eq_true rfl) dX7_fill_112
          · refine lv_aload_n hx hb dX7_fill_87 rfl (lv_at hl 1 rfl) ?_
            refine lv_iconst (v := 2) hx hb dX7_fill_88 (by decide) ?_
            refine zz_iV (As := [.int 2]) (wc := [cw_k6 h0 st mk lk ch ru mr md la]) (wr := [cw_i g kd 60 kdf, cw_i g dp 60 dpf, cw_i g cl 60 clf, cw_i g sa 60 saf, cw_l g bt 4000 btf, cw_z g pn 4000 pnf, cw_k5 st (nI na) (nI nu) kd dp cl sa ln bt pn bf, cw_i g ln 60 lnf]) (rest := []) hC hZ hs hl zc_X7_65 (co_fail g h0 st mk lk ch ru mr md la 2) [0] [1, 2, 3, 4, 5, 6, 7, 8] rfl rfl (by decide +kernel) (ci := 6) (q0 := 0) rfl rfl rfl rfl (Nat.le_of_ble_eq_true rfl) ⟨⟨Nat.le_of_ble_eq_true rfl, Nat.le_of_ble_eq_true rfl⟩, Nat.le_of_ble_eq_true rfl, Nat.le_of_ble_eq_true rfl⟩ dX7_fill_89 (fun r45 u46 H locs hp hZ => ?_)
            obtain ⟨rfl, rfl⟩ := hp
            have hZ : zz_Z g A s.heap [cw_i g kd 60 kdf, cw_i g dp 60 dpf, cw_i g cl 60 clf, cw_i g sa 60 saf, cw_l g bt 4000 btf, cw_z g pn 4000 pnf, cw_k5 st (nI na) (nI nu) kd dp cl sa ln bt pn bf, cw_i g ln 60 lnf, cw_k6 h0 st mk lk ch ru mr md 2] H locs := hZ
            have hZ : zz_Z g A s.heap [cw_k6 h0 st mk lk ch ru mr md 2, cw_k5 st (nI na) (nI nu) kd dp cl sa ln bt pn bf, cw_i g kd 60 kdf, cw_i g dp 60 dpf, cw_i g cl 60 clf, cw_i g sa 60 saf, cw_i g ln 60 lnf, cw_l g bt 4000 btf, cw_z g pn 4000 pnf] H locs := hZ.sub [8, 6, 0, 1, 2, 3, 7, 4, 5] (by decide +kernel) rfl
            exact zz_iret hC hZ (⟨2, btf, by refine Eq.symm ?_; rw [fo_cx_fill]; refine (if_neg (by (try simp only [d_a1, d_sz1, d_lz1, d_dz1]); exact c3)).trans ?_; refine (if_neg (by (try simp only [d_a1, d_sz1, d_lz1, d_dz1]); exact c10)).trans ?_; refine (if_pos (by (try simp only [d_a1, d_sz1, d_lz1, d_dz1]); exact c12)).trans ?_; refine (if_neg (by (try simp only [d_a1, d_sz1, d_lz1, d_dz1]); exact c17)).trans ?_; refine (if_pos (by (try simp only [d_a1, d_sz1, d_lz1, d_dz1]); exact c20)).trans ?_; first | (simp only [d_a1, d_sz1, d_lz1, d_dz1]; done) | rfl, zz_D1.rf, rfl⟩) (Nat.le_of_ble_eq_true rfl) (Nat.le_of_ble_eq_true rfl) dX7_fill_92
        · refine lv_aload_n hx hb dX7_fill_68 rfl (lv_at hl 1 rfl) ?_
          refine lv_iconst (v := 1) hx hb dX7_fill_69 (by decide) ?_
          refine zz_iV (As := [.int 1]) (wc := [cw_k6 h0 st mk lk ch ru mr md la]) (wr := [cw_i g kd 60 kdf, cw_i g dp 60 dpf, cw_i g cl 60 clf, cw_i g sa 60 saf, cw_i g ln 60 lnf, cw_l g bt 4000 btf, cw_z g pn 4000 pnf, cw_k5 st (nI na) (nI nu) kd dp cl sa ln bt pn bf]) (rest := []) hC hZ hs hl zc_X7_65 (co_fail g h0 st mk lk ch ru mr md la 1) [0] [1, 2, 3, 4, 5, 6, 7, 8] rfl rfl (by decide +kernel) (ci := 6) (q0 := 0) rfl rfl rfl rfl (Nat.le_of_ble_eq_true rfl) ⟨⟨Nat.le_of_ble_eq_true rfl, Nat.le_of_ble_eq_true rfl⟩, Nat.le_of_ble_eq_true rfl, Nat.le_of_ble_eq_true rfl⟩ dX7_fill_70 (fun r47 u48 H locs hp hZ => ?_)
          obtain ⟨rfl, rfl⟩ := hp
          have hZ : zz_Z g A s.heap [cw_i g kd 60 kdf, cw_i g dp 60 dpf, cw_i g cl 60 clf, cw_i g sa 60 saf, cw_i g ln 60 lnf, cw_l g bt 4000 btf, cw_z g pn 4000 pnf, cw_k5 st (nI na) (nI nu) kd dp cl sa ln bt pn bf, cw_k6 h0 st mk lk ch ru mr md 1] H locs := hZ
          have hZ : zz_Z g A s.heap [cw_k6 h0 st mk lk ch ru mr md 1, cw_k5 st (nI na) (nI nu) kd dp cl sa ln bt pn bf, cw_i g kd 60 kdf, cw_i g dp 60 dpf, cw_i g cl 60 clf, cw_i g sa 60 saf, cw_i g ln 60 lnf, cw_l g bt 4000 btf, cw_z g pn 4000 pnf] H locs := hZ.sub [8, 7, 0, 1, 2, 3, 4, 5, 6] (by decide +kernel) rfl
          exact zz_iret hC hZ (⟨1, btf, by refine Eq.symm ?_; rw [fo_cx_fill]; refine (if_neg (by (try simp only [d_a1, d_sz1, d_lz1, d_dz1]); exact c3)).trans ?_; refine (if_neg (by (try simp only [d_a1, d_sz1, d_lz1, d_dz1]); exact c10)).trans ?_; refine (if_pos (by (try simp only [d_a1, d_sz1, d_lz1, d_dz1]); exact c12)).trans ?_; refine (if_pos (by (try simp only [d_a1, d_sz1, d_lz1, d_dz1]); exact c17)).trans ?_; first | (simp only [d_a1, d_sz1, d_lz1, d_dz1]; done) | rfl, zz_D1.rf, rfl⟩) (Nat.le_of_ble_eq_true rfl) (Nat.le_of_ble_eq_true rfl) dX7_fill_73
    · refine lv_aload_n hx hb dX7_fill_27 rfl (lv_at hl 0 rfl) ?_
      refine lv_bipush (v := 9) hx hb dX7_fill_28 (by decide) ?_
      refine zz_iV (As := [.int 9]) (wc := [cw_k6 h0 st mk lk ch ru mr md la]) (wr := [cw_i g kd 60 kdf, cw_i g dp 60 dpf, cw_i g cl 60 clf, cw_i g sa 60 saf, cw_i g ln 60 lnf, cw_l g bt 4000 btf, cw_z g pn 4000 pnf, cw_k5 st (nI na) (nI nu) kd dp cl sa ln bt pn bf]) (rest := []) hC hZ hs hl zc_X7_65 (co_fail g h0 st mk lk ch ru mr md la 9) [0] [1, 2, 3, 4, 5, 6, 7, 8] rfl rfl (by decide +kernel) (ci := 6) (q0 := 0) rfl rfl rfl rfl (Nat.le_of_ble_eq_true rfl) ⟨⟨Nat.le_of_ble_eq_true rfl, Nat.le_of_ble_eq_true rfl⟩, Nat.le_of_ble_eq_true rfl, Nat.le_of_ble_eq_true rfl⟩ dX7_fill_30 (fun r49 u50 H locs hp hZ => ?_)
      obtain ⟨rfl, rfl⟩ := hp
      have hZ : zz_Z g A s.heap [cw_i g kd 60 kdf, cw_i g dp 60 dpf, cw_i g cl 60 clf, cw_i g sa 60 saf, cw_i g ln 60 lnf, cw_l g bt 4000 btf, cw_z g pn 4000 pnf, cw_k5 st (nI na) (nI nu) kd dp cl sa ln bt pn bf, cw_k6 h0 st mk lk ch ru mr md 9] H locs := hZ
      have hZ : zz_Z g A s.heap [cw_k6 h0 st mk lk ch ru mr md 9, cw_k5 st (nI na) (nI nu) kd dp cl sa ln bt pn bf, cw_i g kd 60 kdf, cw_i g dp 60 dpf, cw_i g cl 60 clf, cw_i g sa 60 saf, cw_i g ln 60 lnf, cw_l g bt 4000 btf, cw_z g pn 4000 pnf] H locs := hZ.sub [8, 7, 0, 1, 2, 3, 4, 5, 6] (by decide +kernel) rfl
      exact zz_iret hC hZ (⟨9, btf, by refine Eq.symm ?_; rw [fo_cx_fill]; refine (if_neg (by (try simp only [d_a1, d_sz1, d_lz1, d_dz1]); exact c3)).trans ?_; refine (if_pos (by (try simp only [d_a1, d_sz1, d_lz1, d_dz1]); exact c10)).trans ?_; first | (simp only [d_a1, d_sz1, d_lz1, d_dz1]; done) | rfl, zz_D1.rf, rfl⟩) (Nat.le_of_ble_eq_true rfl) (Nat.le_of_ble_eq_true rfl) dX7_fill_33
  · refine lv_aload_n hx hb dX7_fill_11 rfl (lv_at hl 0 rfl) ?_
    refine lv_iconst (v := 5) hx hb dX7_fill_12 (by decide) ?_
    refine zz_iV (As := [.int 5]) (wc := [cw_k6 h0 st mk lk ch ru mr md la]) (wr := [cw_i g kd 60 kdf, cw_i g dp 60 dpf, cw_i g cl 60 clf, cw_i g sa 60 saf, cw_i g ln 60 lnf, cw_l g bt 4000 btf, cw_z g pn 4000 pnf, cw_k5 st (nI na) (nI nu) kd dp cl sa ln bt pn bf]) (rest := []) hC hZ hs hl zc_X7_65 (co_fail g h0 st mk lk ch ru mr md la 5) [0] [1, 2, 3, 4, 5, 6, 7, 8] rfl rfl (by decide +kernel) (ci := 6) (q0 := 0) rfl rfl rfl rfl (Nat.le_of_ble_eq_true rfl) ⟨⟨Nat.le_of_ble_eq_true rfl, Nat.le_of_ble_eq_true rfl⟩, Nat.le_of_ble_eq_true rfl, Nat.le_of_ble_eq_true rfl⟩ dX7_fill_13 (fun r51 u52 H locs hp hZ => ?_)
    obtain ⟨rfl, rfl⟩ := hp
    have hZ : zz_Z g A s.heap [cw_i g kd 60 kdf, cw_i g dp 60 dpf, cw_i g cl 60 clf, cw_i g sa 60 saf, cw_i g ln 60 lnf, cw_l g bt 4000 btf, cw_z g pn 4000 pnf, cw_k5 st (nI na) (nI nu) kd dp cl sa ln bt pn bf, cw_k6 h0 st mk lk ch ru mr md 5] H locs := hZ
    have hZ : zz_Z g A s.heap [cw_k6 h0 st mk lk ch ru mr md 5, cw_k5 st (nI na) (nI nu) kd dp cl sa ln bt pn bf, cw_i g kd 60 kdf, cw_i g dp 60 dpf, cw_i g cl 60 clf, cw_i g sa 60 saf, cw_i g ln 60 lnf, cw_l g bt 4000 btf, cw_z g pn 4000 pnf] H locs := hZ.sub [8, 7, 0, 1, 2, 3, 4, 5, 6] (by decide +kernel) rfl
    exact zz_iret hC hZ (⟨5, btf, by show _ = _; rw [fo_cx_fill]; rw [if_pos c3], zz_D1.rf, rfl⟩) (Nat.le_of_ble_eq_true rfl) (Nat.le_of_ble_eq_true rfl) dX7_fill_16
theorem dg_X7_move_0 : (decode cX7_move 0 = .ok (.aload_n 0, 1)) ∧ (decode cX7_move 1 = .ok (.getfield 10, 3)) ∧ (decode cX7_move 4 = .ok (.iload_n 1, 1)) ∧ (decode cX7_move 5 = .ok (.invokevirtual 73, 3)) ∧ (decode cX7_move 8 = .ok (.ifCond .eq 14, 3)) ∧ (decode cX7_move 11 = .ok (.aload_n 0, 1)) ∧ (decode cX7_move 12 = .ok (.getfield 10, 3)) ∧ (decode cX7_move 15 = .ok (.iload_n 3, 1)) ∧ (decode cX7_move 16 = .ok (.invokevirtual 73, 3)) ∧ (decode cX7_move 19 = .ok (.ifCond .ne 9, 3)) ∧ (decode cX7_move 22 = .ok (.aload_n 0, 1)) ∧ (decode cX7_move 23 = .ok (.iconst 5, 1)) ∧ (decode cX7_move 24 = .ok (.invokevirtual 65, 3)) ∧ (decode cX7_move 27 = .ok (.ireturn, 1)) ∧ (decode cX7_move 28 = .ok (.aload_n 0, 1)) ∧ (decode cX7_move 29 = .ok (.getfield 10, 3)) := by decide +kernel
theorem dX7_move_0 : decode cX7_move 0 = .ok (.aload_n 0, 1) := dg_X7_move_0.1
theorem dX7_move_1 : decode cX7_move 1 = .ok (.getfield 10, 3) := dg_X7_move_0.2.1
theorem dX7_move_4 : decode cX7_move 4 = .ok (.iload_n 1, 1) := dg_X7_move_0.2.2.1
theorem dX7_move_5 : decode cX7_move 5 = .ok (.invokevirtual 73, 3) := dg_X7_move_0.2.2.2.1
theorem dX7_move_8 : decode cX7_move 8 = .ok (.ifCond .eq 14, 3) := dg_X7_move_0.2.2.2.2.1
theorem dX7_move_11 : decode cX7_move 11 = .ok (.aload_n 0, 1) := dg_X7_move_0.2.2.2.2.2.1
theorem dX7_move_12 : decode cX7_move 12 = .ok (.getfield 10, 3) := dg_X7_move_0.2.2.2.2.2.2.1
theorem dX7_move_15 : decode cX7_move 15 = .ok (.iload_n 3, 1) := dg_X7_move_0.2.2.2.2.2.2.2.1
theorem dX7_move_16 : decode cX7_move 16 = .ok (.invokevirtual 73, 3) := dg_X7_move_0.2.2.2.2.2.2.2.2.1
theorem dX7_move_19 : decode cX7_move 19 = .ok (.ifCond .ne 9, 3) := dg_X7_move_0.2.2.2.2.2.2.2.2.2.1
theorem dX7_move_22 : decode cX7_move 22 = .ok (.aload_n 0, 1) := dg_X7_move_0.2.2.2.2.2.2.2.2.2.2.1
theorem dX7_move_23 : decode cX7_move 23 = .ok (.iconst 5, 1) := dg_X7_move_0.2.2.2.2.2.2.2.2.2.2.2.1
theorem dX7_move_24 : decode cX7_move 24 = .ok (.invokevirtual 65, 3) := dg_X7_move_0.2.2.2.2.2.2.2.2.2.2.2.2.1
theorem dX7_move_27 : decode cX7_move 27 = .ok (.ireturn, 1) := dg_X7_move_0.2.2.2.2.2.2.2.2.2.2.2.2.2.1
theorem dX7_move_28 : decode cX7_move 28 = .ok (.aload_n 0, 1) := dg_X7_move_0.2.2.2.2.2.2.2.2.2.2.2.2.2.2.1
theorem dX7_move_29 : decode cX7_move 29 = .ok (.getfield 10, 3) := dg_X7_move_0.2.2.2.2.2.2.2.2.2.2.2.2.2.2.2
theorem dg_X7_move_32 : (decode cX7_move 32 = .ok (.iload_n 1, 1)) ∧ (decode cX7_move 33 = .ok (.iload_n 3, 1)) ∧ (decode cX7_move 34 = .ok (.invokevirtual 170, 3)) ∧ (decode cX7_move 37 = .ok (.ifCond .ne 9, 3)) ∧ (decode cX7_move 40 = .ok (.aload_n 0, 1)) ∧ (decode cX7_move 41 = .ok (.iconst 1, 1)) ∧ (decode cX7_move 42 = .ok (.invokevirtual 65, 3)) ∧ (decode cX7_move 45 = .ok (.ireturn, 1)) ∧ (decode cX7_move 46 = .ok (.iload 5, 2)) ∧ (decode cX7_move 48 = .ok (.ifCond .ge 9, 3)) ∧ (decode cX7_move 51 = .ok (.aload_n 0, 1)) ∧ (decode cX7_move 52 = .ok (.iconst 4, 1)) ∧ (decode cX7_move 53 = .ok (.invokevirtual 65, 3)) ∧ (decode cX7_move 56 = .ok (.ireturn, 1)) ∧ (decode cX7_move 57 = .ok (.aload_n 0, 1)) ∧ (decode cX7_move 58 = .ok (.getfield 10, 3)) := by decide +kernel
theorem dX7_move_32 : decode cX7_move 32 = .ok (.iload_n 1, 1) := dg_X7_move_32.1
theorem dX7_move_33 : decode cX7_move 33 = .ok (.iload_n 3, 1) := dg_X7_move_32.2.1
theorem dX7_move_34 : decode cX7_move 34 = .ok (.invokevirtual 170, 3) := dg_X7_move_32.2.2.1
theorem dX7_move_37 : decode cX7_move 37 = .ok (.ifCond .ne 9, 3) := dg_X7_move_32.2.2.2.1
theorem dX7_move_40 : decode cX7_move 40 = .ok (.aload_n 0, 1) := dg_X7_move_32.2.2.2.2.1
theorem dX7_move_41 : decode cX7_move 41 = .ok (.iconst 1, 1) := dg_X7_move_32.2.2.2.2.2.1
theorem dX7_move_42 : decode cX7_move 42 = .ok (.invokevirtual 65, 3) := dg_X7_move_32.2.2.2.2.2.2.1
theorem dX7_move_45 : decode cX7_move 45 = .ok (.ireturn, 1) := dg_X7_move_32.2.2.2.2.2.2.2.1
theorem dX7_move_46 : decode cX7_move 46 = .ok (.iload 5, 2) := dg_X7_move_32.2.2.2.2.2.2.2.2.1
theorem dX7_move_48 : decode cX7_move 48 = .ok (.ifCond .ge 9, 3) := dg_X7_move_32.2.2.2.2.2.2.2.2.2.1
theorem dX7_move_51 : decode cX7_move 51 = .ok (.aload_n 0, 1) := dg_X7_move_32.2.2.2.2.2.2.2.2.2.2.1
theorem dX7_move_52 : decode cX7_move 52 = .ok (.iconst 4, 1) := dg_X7_move_32.2.2.2.2.2.2.2.2.2.2.2.1
theorem dX7_move_53 : decode cX7_move 53 = .ok (.invokevirtual 65, 3) := dg_X7_move_32.2.2.2.2.2.2.2.2.2.2.2.2.1
theorem dX7_move_56 : decode cX7_move 56 = .ok (.ireturn, 1) := dg_X7_move_32.2.2.2.2.2.2.2.2.2.2.2.2.2.1
theorem dX7_move_57 : decode cX7_move 57 = .ok (.aload_n 0, 1) := dg_X7_move_32.2.2.2.2.2.2.2.2.2.2.2.2.2.2.1
theorem dX7_move_58 : decode cX7_move 58 = .ok (.getfield 10, 3) := dg_X7_move_32.2.2.2.2.2.2.2.2.2.2.2.2.2.2.2
theorem dg_X7_move_61 : (decode cX7_move 61 = .ok (.iload_n 1, 1)) ∧ (decode cX7_move 62 = .ok (.iload_n 2, 1)) ∧ (decode cX7_move 63 = .ok (.iload 5, 2)) ∧ (decode cX7_move 65 = .ok (.invokevirtual 173, 3)) ∧ (decode cX7_move 68 = .ok (.ifCond .eq 18, 3)) ∧ (decode cX7_move 71 = .ok (.aload_n 0, 1)) ∧ (decode cX7_move 72 = .ok (.getfield 10, 3)) ∧ (decode cX7_move 75 = .ok (.iload_n 3, 1)) ∧ (decode cX7_move 76 = .ok (.iload 4, 2)) ∧ (decode cX7_move 78 = .ok (.iload 5, 2)) ∧ (decode cX7_move 80 = .ok (.invokevirtual 173, 3)) ∧ (decode cX7_move 83 = .ok (.ifCond .ne 9, 3)) ∧ (decode cX7_move 86 = .ok (.aload_n 0, 1)) ∧ (decode cX7_move 87 = .ok (.iconst 2, 1)) ∧ (decode cX7_move 88 = .ok (.invokevirtual 65, 3)) ∧ (decode cX7_move 91 = .ok (.ireturn, 1)) := by decide +kernel
theorem dX7_move_61 : decode cX7_move 61 = .ok (.iload_n 1, 1) := dg_X7_move_61.1
theorem dX7_move_62 : decode cX7_move 62 = .ok (.iload_n 2, 1) := dg_X7_move_61.2.1
theorem dX7_move_63 : decode cX7_move 63 = .ok (.iload 5, 2) := dg_X7_move_61.2.2.1
theorem dX7_move_65 : decode cX7_move 65 = .ok (.invokevirtual 173, 3) := dg_X7_move_61.2.2.2.1
theorem dX7_move_68 : decode cX7_move 68 = .ok (.ifCond .eq 18, 3) := dg_X7_move_61.2.2.2.2.1
theorem dX7_move_71 : decode cX7_move 71 = .ok (.aload_n 0, 1) := dg_X7_move_61.2.2.2.2.2.1
theorem dX7_move_72 : decode cX7_move 72 = .ok (.getfield 10, 3) := dg_X7_move_61.2.2.2.2.2.2.1
theorem dX7_move_75 : decode cX7_move 75 = .ok (.iload_n 3, 1) := dg_X7_move_61.2.2.2.2.2.2.2.1
theorem dX7_move_76 : decode cX7_move 76 = .ok (.iload 4, 2) := dg_X7_move_61.2.2.2.2.2.2.2.2.1
theorem dX7_move_78 : decode cX7_move 78 = .ok (.iload 5, 2) := dg_X7_move_61.2.2.2.2.2.2.2.2.2.1
theorem dX7_move_80 : decode cX7_move 80 = .ok (.invokevirtual 173, 3) := dg_X7_move_61.2.2.2.2.2.2.2.2.2.2.1
theorem dX7_move_83 : decode cX7_move 83 = .ok (.ifCond .ne 9, 3) := dg_X7_move_61.2.2.2.2.2.2.2.2.2.2.2.1
theorem dX7_move_86 : decode cX7_move 86 = .ok (.aload_n 0, 1) := dg_X7_move_61.2.2.2.2.2.2.2.2.2.2.2.2.1
theorem dX7_move_87 : decode cX7_move 87 = .ok (.iconst 2, 1) := dg_X7_move_61.2.2.2.2.2.2.2.2.2.2.2.2.2.1
theorem dX7_move_88 : decode cX7_move 88 = .ok (.invokevirtual 65, 3) := dg_X7_move_61.2.2.2.2.2.2.2.2.2.2.2.2.2.2.1
theorem dX7_move_91 : decode cX7_move 91 = .ok (.ireturn, 1) := dg_X7_move_61.2.2.2.2.2.2.2.2.2.2.2.2.2.2.2
theorem dg_X7_move_92 : (decode cX7_move 92 = .ok (.aload_n 0, 1)) ∧ (decode cX7_move 93 = .ok (.getfield 10, 3)) ∧ (decode cX7_move 96 = .ok (.iload_n 3, 1)) ∧ (decode cX7_move 97 = .ok (.iload 4, 2)) ∧ (decode cX7_move 99 = .ok (.iload 4, 2)) ∧ (decode cX7_move 101 = .ok (.iload 5, 2)) ∧ (decode cX7_move 103 = .ok (.iadd, 1)) ∧ (decode cX7_move 104 = .ok (.invokevirtual 109, 3)) ∧ (decode cX7_move 107 = .ok (.ifCond .le 10, 3)) ∧ (decode cX7_move 110 = .ok (.aload_n 0, 1)) ∧ (decode cX7_move 111 = .ok (.bipush 6, 2)) ∧ (decode cX7_move 113 = .ok (.invokevirtual 65, 3)) ∧ (decode cX7_move 116 = .ok (.ireturn, 1)) ∧ (decode cX7_move 117 = .ok (.aload_n 0, 1)) ∧ (decode cX7_move 118 = .ok (.getfield 10, 3)) ∧ (decode cX7_move 121 = .ok (.iload_n 1, 1)) := by decide +kernel
theorem dX7_move_92 : decode cX7_move 92 = .ok (.aload_n 0, 1) := dg_X7_move_92.1
theorem dX7_move_93 : decode cX7_move 93 = .ok (.getfield 10, 3) := dg_X7_move_92.2.1
theorem dX7_move_96 : decode cX7_move 96 = .ok (.iload_n 3, 1) := dg_X7_move_92.2.2.1
theorem dX7_move_97 : decode cX7_move 97 = .ok (.iload 4, 2) := dg_X7_move_92.2.2.2.1
theorem dX7_move_99 : decode cX7_move 99 = .ok (.iload 4, 2) := dg_X7_move_92.2.2.2.2.1
theorem dX7_move_101 : decode cX7_move 101 = .ok (.iload 5, 2) := dg_X7_move_92.2.2.2.2.2.1
theorem dX7_move_103 : decode cX7_move 103 = .ok (.iadd, 1) := dg_X7_move_92.2.2.2.2.2.2.1
theorem dX7_move_104 : decode cX7_move 104 = .ok (.invokevirtual 109, 3) := dg_X7_move_92.2.2.2.2.2.2.2.1
theorem dX7_move_107 : decode cX7_move 107 = .ok (.ifCond .le 10, 3) := dg_X7_move_92.2.2.2.2.2.2.2.2.1
theorem dX7_move_110 : decode cX7_move 110 = .ok (.aload_n 0, 1) := dg_X7_move_92.2.2.2.2.2.2.2.2.2.1
theorem dX7_move_111 : decode cX7_move 111 = .ok (.bipush 6, 2) := dg_X7_move_92.2.2.2.2.2.2.2.2.2.2.1
theorem dX7_move_113 : decode cX7_move 113 = .ok (.invokevirtual 65, 3) := dg_X7_move_92.2.2.2.2.2.2.2.2.2.2.2.1
theorem dX7_move_116 : decode cX7_move 116 = .ok (.ireturn, 1) := dg_X7_move_92.2.2.2.2.2.2.2.2.2.2.2.2.1
theorem dX7_move_117 : decode cX7_move 117 = .ok (.aload_n 0, 1) := dg_X7_move_92.2.2.2.2.2.2.2.2.2.2.2.2.2.1
theorem dX7_move_118 : decode cX7_move 118 = .ok (.getfield 10, 3) := dg_X7_move_92.2.2.2.2.2.2.2.2.2.2.2.2.2.2.1
theorem dX7_move_121 : decode cX7_move 121 = .ok (.iload_n 1, 1) := dg_X7_move_92.2.2.2.2.2.2.2.2.2.2.2.2.2.2.2
theorem dg_X7_move_122 : (decode cX7_move 122 = .ok (.iload_n 2, 1)) ∧ (decode cX7_move 123 = .ok (.iload_n 3, 1)) ∧ (decode cX7_move 124 = .ok (.iload 5, 2)) ∧ (decode cX7_move 126 = .ok (.invokevirtual 176, 3)) ∧ (decode cX7_move 129 = .ok (.istore 6, 2)) ∧ (decode cX7_move 131 = .ok (.aload_n 0, 1)) ∧ (decode cX7_move 132 = .ok (.getfield 10, 3)) ∧ (decode cX7_move 135 = .ok (.getfield 116, 3)) ∧ (decode cX7_move 138 = .ok (.aload_n 0, 1)) ∧ (decode cX7_move 139 = .ok (.getfield 10, 3)) ∧ (decode cX7_move 142 = .ok (.getfield 120, 3)) ∧ (decode cX7_move 145 = .ok (.iload_n 1, 1)) ∧ (decode cX7_move 146 = .ok (.iaload, 1)) ∧ (decode cX7_move 147 = .ok (.iload_n 2, 1)) ∧ (decode cX7_move 148 = .ok (.iadd, 1)) ∧ (decode cX7_move 149 = .ok (.aload_n 0, 1)) := by decide +kernel
theorem dX7_move_122 : decode cX7_move 122 = .ok (.iload_n 2, 1) := dg_X7_move_122.1
theorem dX7_move_123 : decode cX7_move 123 = .ok (.iload_n 3, 1) := dg_X7_move_122.2.1
theorem dX7_move_124 : decode cX7_move 124 = .ok (.iload 5, 2) := dg_X7_move_122.2.2.1
theorem dX7_move_126 : decode cX7_move 126 = .ok (.invokevirtual 176, 3) := dg_X7_move_122.2.2.2.1
theorem dX7_move_129 : decode cX7_move 129 = .ok (.istore 6, 2) := dg_X7_move_122.2.2.2.2.1
theorem dX7_move_131 : decode cX7_move 131 = .ok (.aload_n 0, 1) := dg_X7_move_122.2.2.2.2.2.1
theorem dX7_move_132 : decode cX7_move 132 = .ok (.getfield 10, 3) := dg_X7_move_122.2.2.2.2.2.2.1
theorem dX7_move_135 : decode cX7_move 135 = .ok (.getfield 116, 3) := dg_X7_move_122.2.2.2.2.2.2.2.1
theorem dX7_move_138 : decode cX7_move 138 = .ok (.aload_n 0, 1) := dg_X7_move_122.2.2.2.2.2.2.2.2.1
theorem dX7_move_139 : decode cX7_move 139 = .ok (.getfield 10, 3) := dg_X7_move_122.2.2.2.2.2.2.2.2.2.1
theorem dX7_move_142 : decode cX7_move 142 = .ok (.getfield 120, 3) := dg_X7_move_122.2.2.2.2.2.2.2.2.2.2.1
theorem dX7_move_145 : decode cX7_move 145 = .ok (.iload_n 1, 1) := dg_X7_move_122.2.2.2.2.2.2.2.2.2.2.2.1
theorem dX7_move_146 : decode cX7_move 146 = .ok (.iaload, 1) := dg_X7_move_122.2.2.2.2.2.2.2.2.2.2.2.2.1
theorem dX7_move_147 : decode cX7_move 147 = .ok (.iload_n 2, 1) := dg_X7_move_122.2.2.2.2.2.2.2.2.2.2.2.2.2.1
theorem dX7_move_148 : decode cX7_move 148 = .ok (.iadd, 1) := dg_X7_move_122.2.2.2.2.2.2.2.2.2.2.2.2.2.2.1
theorem dX7_move_149 : decode cX7_move 149 = .ok (.aload_n 0, 1) := dg_X7_move_122.2.2.2.2.2.2.2.2.2.2.2.2.2.2.2
theorem dg_X7_move_150 : (decode cX7_move 150 = .ok (.getfield 10, 3)) ∧ (decode cX7_move 153 = .ok (.getfield 116, 3)) ∧ (decode cX7_move 156 = .ok (.aload_n 0, 1)) ∧ (decode cX7_move 157 = .ok (.getfield 10, 3)) ∧ (decode cX7_move 160 = .ok (.getfield 120, 3)) ∧ (decode cX7_move 163 = .ok (.iload_n 3, 1)) ∧ (decode cX7_move 164 = .ok (.iaload, 1)) ∧ (decode cX7_move 165 = .ok (.iload 4, 2)) ∧ (decode cX7_move 167 = .ok (.iadd, 1)) ∧ (decode cX7_move 168 = .ok (.iload 6, 2)) ∧ (decode cX7_move 170 = .ok (.invokestatic 179, 3)) ∧ (decode cX7_move 173 = .ok (.iload 6, 2)) ∧ (decode cX7_move 175 = .ok (.iload 5, 2)) ∧ (decode cX7_move 177 = .ok (.if_icmp .ge 12, 3)) ∧ (decode cX7_move 180 = .ok (.aload_n 0, 1)) ∧ (decode cX7_move 181 = .ok (.bipush 7, 2)) := by decide +kernel
theorem dX7_move_150 : decode cX7_move 150 = .ok (.getfield 10, 3) := dg_X7_move_150.1
theorem dX7_move_153 : decode cX7_move 153 = .ok (.getfield 116, 3) := dg_X7_move_150.2.1
theorem dX7_move_156 : decode cX7_move 156 = .ok (.aload_n 0, 1) := dg_X7_move_150.2.2.1
theorem dX7_move_157 : decode cX7_move 157 = .ok (.getfield 10, 3) := dg_X7_move_150.2.2.2.1
theorem dX7_move_160 : decode cX7_move 160 = .ok (.getfield 120, 3) := dg_X7_move_150.2.2.2.2.1
theorem dX7_move_163 : decode cX7_move 163 = .ok (.iload_n 3, 1) := dg_X7_move_150.2.2.2.2.2.1
theorem dX7_move_164 : decode cX7_move 164 = .ok (.iaload, 1) := dg_X7_move_150.2.2.2.2.2.2.1
theorem dX7_move_165 : decode cX7_move 165 = .ok (.iload 4, 2) := dg_X7_move_150.2.2.2.2.2.2.2.1
theorem dX7_move_167 : decode cX7_move 167 = .ok (.iadd, 1) := dg_X7_move_150.2.2.2.2.2.2.2.2.1
theorem dX7_move_168 : decode cX7_move 168 = .ok (.iload 6, 2) := dg_X7_move_150.2.2.2.2.2.2.2.2.2.1
theorem dX7_move_170 : decode cX7_move 170 = .ok (.invokestatic 179, 3) := dg_X7_move_150.2.2.2.2.2.2.2.2.2.2.1
theorem dX7_move_173 : decode cX7_move 173 = .ok (.iload 6, 2) := dg_X7_move_150.2.2.2.2.2.2.2.2.2.2.2.1
theorem dX7_move_175 : decode cX7_move 175 = .ok (.iload 5, 2) := dg_X7_move_150.2.2.2.2.2.2.2.2.2.2.2.2.1
theorem dX7_move_177 : decode cX7_move 177 = .ok (.if_icmp .ge 12, 3) := dg_X7_move_150.2.2.2.2.2.2.2.2.2.2.2.2.2.1
theorem dX7_move_180 : decode cX7_move 180 = .ok (.aload_n 0, 1) := dg_X7_move_150.2.2.2.2.2.2.2.2.2.2.2.2.2.2.1
theorem dX7_move_181 : decode cX7_move 181 = .ok (.bipush 7, 2) := dg_X7_move_150.2.2.2.2.2.2.2.2.2.2.2.2.2.2.2
theorem dg_X7_move_183 : (decode cX7_move 183 = .ok (.invokevirtual 65, 3)) ∧ (decode cX7_move 186 = .ok (.goto 9, 3)) ∧ (decode cX7_move 189 = .ok (.aload_n 0, 1)) ∧ (decode cX7_move 190 = .ok (.iload 5, 2)) ∧ (decode cX7_move 192 = .ok (.invokevirtual 100, 3)) ∧ (decode cX7_move 195 = .ok (.ireturn, 1)) := by decide +kernel
theorem dX7_move_183 : decode cX7_move 183 = .ok (.invokevirtual 65, 3) := dg_X7_move_183.1
theorem dX7_move_186 : decode cX7_move 186 = .ok (.goto 9, 3) := dg_X7_move_183.2.1
theorem dX7_move_189 : decode cX7_move 189 = .ok (.aload_n 0, 1) := dg_X7_move_183.2.2.1
theorem dX7_move_190 : decode cX7_move 190 = .ok (.iload 5, 2) := dg_X7_move_183.2.2.2.1
theorem dX7_move_192 : decode cX7_move 192 = .ok (.invokevirtual 100, 3) := dg_X7_move_183.2.2.2.2.1
theorem dX7_move_195 : decode cX7_move 195 = .ok (.ireturn, 1) := dg_X7_move_183.2.2.2.2.2
theorem zk_424 : Cond.methodLink RX7 170 yX6_canMove ∈ zz_w := zz_in (List.mem_append_right _ (List.mem_append_right _ (List.mem_append_left _ (List.mem_of_getElem? (i := 184) (by decide +kernel))))) rfl
set_option maxRecDepth 20000 in
theorem zk_427 : Cond.code yX6_canMove cX6_canMove 3 (some .boolean) ∈ zz_w := zz_in (List.mem_append_right _ (List.mem_append_right _ (List.mem_append_left _ (List.mem_of_getElem? (i := 187) (rfl))))) rfl
theorem zk_425 : Cond.instanceMethod yX6_canMove ∈ zz_w := zz_in (List.mem_append_right _ (List.mem_append_right _ (List.mem_append_left _ (List.mem_of_getElem? (i := 185) (by decide +kernel))))) rfl
theorem zk_426 : Cond.selects RX6 yX6_canMove yX6_canMove ∈ zz_w := zz_in (List.mem_append_right _ (List.mem_append_right _ (List.mem_append_left _ (List.mem_of_getElem? (i := 186) (by decide +kernel))))) rfl
theorem zc_X7_170 : zz_cV RX7 170 yX6_canMove cX6_canMove 3 (some .boolean) 2 := ⟨⟨zk_424, zk_427, zk_2, by decide, by decide, by decide +kernel⟩, zk_425, zk_426⟩
theorem zk_428 : Cond.methodLink RX7 173 yX6_hasMany ∈ zz_w := zz_in (List.mem_append_right _ (List.mem_append_right _ (List.mem_append_left _ (List.mem_of_getElem? (i := 188) (by decide +kernel))))) rfl
set_option maxRecDepth 20000 in
theorem zk_431 : Cond.code yX6_hasMany cX6_hasMany 4 (some .boolean) ∈ zz_w := zz_in (List.mem_append_right _ (List.mem_append_right _ (List.mem_append_left _ (List.mem_of_getElem? (i := 191) (rfl))))) rfl
theorem zk_429 : Cond.instanceMethod yX6_hasMany ∈ zz_w := zz_in (List.mem_append_right _ (List.mem_append_right _ (List.mem_append_left _ (List.mem_of_getElem? (i := 189) (by decide +kernel))))) rfl
theorem zk_430 : Cond.selects RX6 yX6_hasMany yX6_hasMany ∈ zz_w := zz_in (List.mem_append_right _ (List.mem_append_right _ (List.mem_append_left _ (List.mem_of_getElem? (i := 190) (by decide +kernel))))) rfl
theorem zc_X7_173 : zz_cV RX7 173 yX6_hasMany cX6_hasMany 4 (some .boolean) 3 := ⟨⟨zk_428, zk_431, zk_2, by decide, by decide, by decide +kernel⟩, zk_429, zk_430⟩
theorem zk_432 : Cond.methodLink RX7 176 yX6_takenOf ∈ zz_w := zz_in (List.mem_append_right _ (List.mem_append_right _ (List.mem_append_left _ (List.mem_of_getElem? (i := 192) (by decide +kernel))))) rfl
set_option maxRecDepth 20000 in
theorem zk_435 : Cond.code yX6_takenOf cX6_takenOf 6 (some .int) ∈ zz_w := zz_in (List.mem_append_right _ (List.mem_append_right _ (List.mem_append_left _ (List.mem_of_getElem? (i := 195) (rfl))))) rfl
theorem zk_433 : Cond.instanceMethod yX6_takenOf ∈ zz_w := zz_in (List.mem_append_right _ (List.mem_append_right _ (List.mem_append_left _ (List.mem_of_getElem? (i := 193) (by decide +kernel))))) rfl
theorem zk_434 : Cond.selects RX6 yX6_takenOf yX6_takenOf ∈ zz_w := zz_in (List.mem_append_right _ (List.mem_append_right _ (List.mem_append_left _ (List.mem_of_getElem? (i := 194) (by decide +kernel))))) rfl
theorem zc_X7_176 : zz_cV RX7 176 yX6_takenOf cX6_takenOf 6 (some .int) 4 := ⟨⟨zk_432, zk_435, zk_2, by decide, by decide, by decide +kernel⟩, zk_433, zk_434⟩
def fo_cx_move (na : Nat) (nu : Nat) (kdf : Nat → Int32) (dpf : Nat → Int32) (clf : Nat → Int32) (saf : Nat → Int32) (lnf : Nat → Int32) (btf : Nat → Int64) (pnf : Nat → Int32) (x1 : Int32) (x2 : Int32) (x3 : Int32) (x4 : Int32) (x5 : Int32) : (Int32) × (Nat → Int64) := (if (fn_co_has (nI na) x1) = 0 then (-5, btf) else (if (fn_co_has (nI na) x3) = 0 then (-5, btf) else (if (fn_co_canMove kdf dpf clf x1.toNatClampNeg x3.toNatClampNeg) = 0 then (-1, btf) else (if 0 ≤ x5 then (if (fn_co_hasMany lnf x1.toNatClampNeg x2 x5) = 0 then (-2, btf) else (if (fn_co_hasMany lnf x3.toNatClampNeg x4 (nI x5.toNatClampNeg)) = 0 then (-2, btf) else (if (nI (zz_cp pnf (((saf x3.toNatClampNeg).toNatClampNeg) + x4.toNatClampNeg) ((x4.toNatClampNeg + x5.toNatClampNeg) - x4.toNatClampNeg))) ≤ 0 then (if (nI x5.toNatClampNeg) ≤ (nI (if dpf x3.toNatClampNeg ≤ 1 then zz_tk clf x3.toNatClampNeg btf (((saf x1.toNatClampNeg).toNatClampNeg) + x2.toNatClampNeg) x5.toNatClampNeg 0 else x5.toNatClampNeg)) then ((nI x5.toNatClampNeg), (va_cpy btf btf (((saf x1.toNatClampNeg).toNatClampNeg) + x2.toNatClampNeg) (((saf x3.toNatClampNeg).toNatClampNeg) + x4.toNatClampNeg) (if dpf x3.toNatClampNeg ≤ 1 then zz_tk clf x3.toNatClampNeg btf (((saf x1.toNatClampNeg).toNatClampNeg) + x2.toNatClampNeg) x5.toNatClampNeg 0 else x5.toNatClampNeg))) else (-7, (va_cpy btf btf (((saf x1.toNatClampNeg).toNatClampNeg) + x2.toNatClampNeg) (((saf x3.toNatClampNeg).toNatClampNeg) + x4.toNatClampNeg) (if dpf x3.toNatClampNeg ≤ 1 then zz_tk clf x3.toNatClampNeg btf (((saf x1.toNatClampNeg).toNatClampNeg) + x2.toNatClampNeg) x5.toNatClampNeg 0 else x5.toNatClampNeg)))) else (-6, btf)))) else (-4, btf)))))
abbrev rm_cx_move : Room := { frames := 2, cells := 0, slots := 0, locals := 60 }
abbrev po_cx_move (g : zz_G) (h0 : Nat) (st : Nat) (mk : Nat) (lk : Nat) (ch : Nat) (ru : Nat) (mr : Nat) (kd : Nat) (dp : Nat) (cl : Nat) (sa : Nat) (ln : Nat) (bt : Nat) (pn : Nat) (bf : Nat) (md : Int32) (la : Int32) (na : Nat) (nu : Nat) (kdf : Nat → Int32) (dpf : Nat → Int32) (clf : Nat → Int32) (saf : Nat → Int32) (lnf : Nat → Int32) (btf : Nat → Int64) (pnf : Nat → Int32) (x1 : Int32) (x2 : Int32) (x3 : Int32) (x4 : Int32) (x5 : Int32) (h_S : zz_SI na nu dpf saf lnf) : Int32 → va_W → Prop := fun (r : Int32) (u : va_W) => ∃ (la2 : Int32) (bt2 : Nat → Int64), (r, bt2) = fo_cx_move na nu kdf dpf clf saf lnf btf pnf x1 x2 x3 x4 x5 ∧ u = [cw_k6 h0 st mk lk ch ru mr md la2, cw_k5 st (nI na) (nI nu) kd dp cl sa ln bt pn bf, cw_i g kd 60 kdf, cw_i g dp 60 dpf, cw_i g cl 60 clf, cw_i g sa 60 saf, cw_i g ln 60 lnf, cw_l g bt 4000 bt2, cw_z g pn 4000 pnf]
set_option maxHeartbeats 4000000 in
set_option maxRecDepth 100000 in
theorem cx_move (g : zz_G) (h0 : Nat) (st : Nat) (mk : Nat) (lk : Nat) (ch : Nat) (ru : Nat) (mr : Nat) (kd : Nat) (dp : Nat) (cl : Nat) (sa : Nat) (ln : Nat) (bt : Nat) (pn : Nat) (bf : Nat) (md : Int32) (la : Int32) (na : Nat) (nu : Nat) (kdf : Nat → Int32) (dpf : Nat → Int32) (clf : Nat → Int32) (saf : Nat → Int32) (lnf : Nat → Int32) (btf : Nat → Int64) (pnf : Nat → Int32) (x1 : Int32) (x2 : Int32) (x3 : Int32) (x4 : Int32) (x5 : Int32) (h_S : zz_SI na nu dpf saf lnf) : zz_I g yX7_move (.code yX7_move cX7_move 7 (some .int)) rm_cx_move [.ref h0, .int x1, .int x2, .int x3, .int x4, .int x5] [cw_k6 h0 st mk lk ch ru mr md la, cw_k5 st (nI na) (nI nu) kd dp cl sa ln bt pn bf, cw_i g kd 60 kdf, cw_i g dp 60 dpf, cw_i g cl 60 clf, cw_i g sa 60 saf, cw_i g ln 60 lnf, cw_l g bt 4000 btf, cw_z g pn 4000 pnf] (po_cx_move g h0 st mk lk ch ru mr kd dp cl sa ln bt pn bf md la na nu kdf dpf clf saf lnf btf pnf x1 x2 x3 x4 x5 h_S) := by
  refine zz_I.intro (own := RX7) (cc := cX7_move) (nL := 7) (by decide) rfl (Nat.le_of_ble_eq_true rfl) ?_
  intro p l e s m args below meth c A H locs ls hC hnm hs hZ hl
  obtain ⟨hx, hb, hml, hown, hts, hr, hlocks, hK⟩ := id hC
  have hl : lv_has ls 7 [(0, .ref h0), (1, .int x1), (2, .int x2), (3, .int x3), (4, .int x4), (5, .int x5)] := hl
  have hZ : zz_Z g A s.heap [cw_k6 h0 st mk lk ch ru mr md la, cw_k5 st (nI na) (nI nu) kd dp cl sa ln bt pn bf, cw_i g kd 60 kdf, cw_i g dp 60 dpf, cw_i g cl 60 clf, cw_i g sa 60 saf, cw_i g ln 60 lnf, cw_l g bt 4000 btf, cw_z g pn 4000 pnf] H locs := hZ
  have hna := h_S.1
  have hnu := h_S.2.1
  refine lv_aload_n hx hb dX7_move_0 rfl (lv_at hl 0 rfl) ?_
  refine zz_get hC hZ 0 rfl zf_X7_10 rfl dX7_move_1 ?_
  refine lv_iload_n hx hb dX7_move_4 rfl (lv_at hl 1 rfl) ?_
  refine zz_iV (As := [.int x1]) (wc := [cw_k5 st (nI na) (nI nu) kd dp cl sa ln bt pn bf]) (wr := [cw_k6 h0 st mk lk ch ru mr md la, cw_i g kd 60 kdf, cw_i g dp 60 dpf, cw_i g cl 60 clf, cw_i g sa 60 saf, cw_i g ln 60 lnf, cw_l g bt 4000 btf, cw_z g pn 4000 pnf]) (rest := []) hC hZ hs hl zc_X7_73 (co_has g st kd dp cl sa ln bt pn bf (nI na) (nI nu) x1) [1] [0, 2, 3, 4, 5, 6, 7, 8] rfl rfl (by decide +kernel) (ci := 5) (q0 := 0) rfl rfl rfl rfl (Nat.le_of_ble_eq_true rfl) ⟨⟨Nat.le_of_ble_eq_true rfl, Nat.le_of_ble_eq_true rfl⟩, Nat.le_of_ble_eq_true rfl, Nat.le_of_ble_eq_true rfl⟩ dX7_move_5 (fun r1 u2 H locs hp hZ => ?_)
  obtain ⟨rfl, rfl⟩ := hp
  have hZ : zz_Z g A s.heap [cw_k6 h0 st mk lk ch ru mr md la, cw_i g kd 60 kdf, cw_i g dp 60 dpf, cw_i g cl 60 clf, cw_i g sa 60 saf, cw_i g ln 60 lnf, cw_l g bt 4000 btf, cw_z g pn 4000 pnf, cw_k5 st (nI na) (nI nu) kd dp cl sa ln bt pn bf] H locs := hZ
  refine lv_if_eq (tgt := 22) hx hb dX7_move_8 (by decide) (fun c3 => ?_) (fun c3 => ?_)
  · refine lv_aload_n hx hb dX7_move_22 rfl (lv_at hl 0 rfl) ?_
    refine lv_iconst (v := 5) hx hb dX7_move_23 (by decide) ?_
    refine zz_iV (As := [.int 5]) (wc := [cw_k6 h0 st mk lk ch ru mr md la]) (wr := [cw_i g kd 60 kdf, cw_i g dp 60 dpf, cw_i g cl 60 clf, cw_i g sa 60 saf, cw_i g ln 60 lnf, cw_l g bt 4000 btf, cw_z g pn 4000 pnf, cw_k5 st (nI na) (nI nu) kd dp cl sa ln bt pn bf]) (rest := []) hC hZ hs hl zc_X7_65 (co_fail g h0 st mk lk ch ru mr md la 5) [0] [1, 2, 3, 4, 5, 6, 7, 8] rfl rfl (by decide +kernel) (ci := 6) (q0 := 0) rfl rfl rfl rfl (Nat.le_of_ble_eq_true rfl) ⟨⟨Nat.le_of_ble_eq_true rfl, Nat.le_of_ble_eq_true rfl⟩, Nat.le_of_ble_eq_true rfl, Nat.le_of_ble_eq_true rfl⟩ dX7_move_24 (fun r4 u5 H locs hp hZ => ?_)
    obtain ⟨rfl, rfl⟩ := hp
    have hZ : zz_Z g A s.heap [cw_i g kd 60 kdf, cw_i g dp 60 dpf, cw_i g cl 60 clf, cw_i g sa 60 saf, cw_i g ln 60 lnf, cw_l g bt 4000 btf, cw_z g pn 4000 pnf, cw_k5 st (nI na) (nI nu) kd dp cl sa ln bt pn bf, cw_k6 h0 st mk lk ch ru mr md 5] H locs := hZ
    have hZ : zz_Z g A s.heap [cw_k6 h0 st mk lk ch ru mr md 5, cw_k5 st (nI na) (nI nu) kd dp cl sa ln bt pn bf, cw_i g kd 60 kdf, cw_i g dp 60 dpf, cw_i g cl 60 clf, cw_i g sa 60 saf, cw_i g ln 60 lnf, cw_l g bt 4000 btf, cw_z g pn 4000 pnf] H locs := hZ.sub [8, 7, 0, 1, 2, 3, 4, 5, 6] (by decide +kernel) rfl
    exact zz_iret hC hZ (⟨5, btf, by show _ = _; rw [fo_cx_move]; rw [if_pos c3], rfl⟩) (Nat.le_of_ble_eq_true rfl) (Nat.le_of_ble_eq_true rfl) dX7_move_27
  · obtain ⟨a1, ha1, ea1⟩ := zl_has (by omega) c3
    have hl : lv_has ls 7 [(0, .ref h0), (1, .int (nI a1)), (2, .int x2), (3, .int x3), (4, .int x4), (5, .int x5)] := by rw [← ea1]; exact hl
    have bd6 : a1 < 2 ^ 31 := by omega
    have d_a1 : x1.toNatClampNeg = a1 := by rw [ea1]; exact nI_clamp bd6
    obtain ⟨sz1, lz1, dz1, es1, el1, ed1, g11, g21, g31, g41⟩ := h_S.2.2 a1 ha1
    have bd7 : sz1 < 2 ^ 31 := by omega
    have d_sz1 : (saf a1).toNatClampNeg = sz1 := by rw [es1]; exact nI_clamp bd7
    have bd8 : lz1 < 2 ^ 31 := by omega
    have d_lz1 : (lnf a1).toNatClampNeg = lz1 := by rw [el1]; exact nI_clamp bd8
    have bd9 : dz1 < 2 ^ 31 := by omega
    have d_dz1 : (dpf a1).toNatClampNeg = dz1 := by rw [ed1]; exact nI_clamp bd9
    refine lv_aload_n hx hb dX7_move_11 rfl (lv_at hl 0 rfl) ?_
    refine zz_get hC hZ 0 rfl zf_X7_10 rfl dX7_move_12 ?_
    refine lv_iload_n hx hb dX7_move_15 rfl (lv_at hl 3 rfl) ?_
    refine zz_iV (As := [.int x3]) (wc := [cw_k5 st (nI na) (nI nu) kd dp cl sa ln bt pn bf]) (wr := [cw_k6 h0 st mk lk ch ru mr md la, cw_i g kd 60 kdf, cw_i g dp 60 dpf, cw_i g cl 60 clf, cw_i g sa 60 saf, cw_i g ln 60 lnf, cw_l g bt 4000 btf, cw_z g pn 4000 pnf]) (rest := []) hC hZ hs hl zc_X7_73 (co_has g st kd dp cl sa ln bt pn bf (nI na) (nI nu) x3) [8] [0, 1, 2, 3, 4, 5, 6, 7] rfl rfl (by decide +kernel) (ci := 5) (q0 := 0) rfl rfl rfl rfl (Nat.le_of_ble_eq_true rfl) ⟨⟨Nat.le_of_ble_eq_true rfl, Nat.le_of_ble_eq_true rfl⟩, Nat.le_of_ble_eq_true rfl, Nat.le_of_ble_eq_true rfl⟩ dX7_move_16 (fun r10 u11 H locs hp hZ => ?_)
    obtain ⟨rfl, rfl⟩ := hp
    have hZ : zz_Z g A s.heap [cw_k6 h0 st mk lk ch ru mr md la, cw_i g kd 60 kdf, cw_i g dp 60 dpf, cw_i g cl 60 clf, cw_i g sa 60 saf, cw_i g ln 60 lnf, cw_l g bt 4000 btf, cw_z g pn 4000 pnf, cw_k5 st (nI na) (nI nu) kd dp cl sa ln bt pn bf] H locs := hZ
    refine lv_if_ne (tgt := 28) hx hb dX7_move_19 (by decide) (fun c12 => ?_) (fun c12 => ?_)
    · obtain ⟨a3, ha3, ea3⟩ := zl_has (by omega) c12
      have hl : lv_has ls 7 [(0, .ref h0), (1, .int (nI a1)), (2, .int x2), (3, .int (nI a3)), (4, .int x4), (5, .int x5)] := by rw [← ea3]; exact hl
      have bd13 : a3 < 2 ^ 31 := by omega
      have d_a3 : x3.toNatClampNeg = a3 := by rw [ea3]; exact nI_clamp bd13
      obtain ⟨sz3, lz3, dz3, es3, el3, ed3, g13, g23, g33, g43⟩ := h_S.2.2 a3 ha3
      have bd14 : sz3 < 2 ^ 31 := by omega
      have d_sz3 : (saf a3).toNatClampNeg = sz3 := by rw [es3]; exact nI_clamp bd14
      have bd15 : lz3 < 2 ^ 31 := by omega
      have d_lz3 : (lnf a3).toNatClampNeg = lz3 := by rw [el3]; exact nI_clamp bd15
      have bd16 : dz3 < 2 ^ 31 := by omega
      have d_dz3 : (dpf a3).toNatClampNeg = dz3 := by rw [ed3]; exact nI_clamp bd16
      refine lv_aload_n hx hb dX7_move_28 rfl (lv_at hl 0 rfl) ?_
      refine zz_get hC hZ 0 rfl zf_X7_10 rfl dX7_move_29 ?_
      refine lv_iload_n hx hb dX7_move_32 rfl (lv_at hl 1 rfl) ?_
      refine lv_iload_n hx hb dX7_move_33 rfl (lv_at hl 3 rfl) ?_
      refine zz_iV (As := [.int (nI a1), .int (nI a3)]) (wc := [cw_k5 st (nI na) (nI nu) kd dp cl sa ln bt pn bf, cw_i g kd 60 kdf, cw_i g dp 60 dpf, cw_i g cl 60 clf]) (wr := [cw_k6 h0 st mk lk ch ru mr md la, cw_i g sa 60 saf, cw_i g ln 60 lnf, cw_l g bt 4000 btf, cw_z g pn 4000 pnf]) (rest := []) hC hZ hs hl zc_X7_170 (co_canMove g st kd dp cl sa ln bt pn bf na nu kdf dpf clf a1 a3 (by omega)) [8, 1, 2, 3] [0, 4, 5, 6, 7] rfl rfl (by decide +kernel) (ci := 5) (q0 := 0) rfl rfl rfl rfl (Nat.le_of_ble_eq_true rfl) ⟨⟨Nat.le_of_ble_eq_true rfl, Nat.le_of_ble_eq_true rfl⟩, Nat.le_of_ble_eq_true rfl, Nat.le_of_ble_eq_true rfl⟩ dX7_move_34 (fun r17 u18 H locs hp hZ => ?_)
      obtain ⟨rfl, rfl⟩ := hp
      have hZ : zz_Z g A s.heap [cw_k6 h0 st mk lk ch ru mr md la, cw_i g sa 60 saf, cw_i g ln 60 lnf, cw_l g bt 4000 btf, cw_z g pn 4000 pnf, cw_k5 st (nI na) (nI nu) kd dp cl sa ln bt pn bf, cw_i g kd 60 kdf, cw_i g dp 60 dpf, cw_i g cl 60 clf] H locs := hZ
      refine lv_if_ne (tgt := 46) hx hb dX7_move_37 (by decide) (fun c19 => ?_) (fun c19 => ?_)
      · refine lv_iload hx hb dX7_move_46 (lv_at hl 5 rfl) ?_
        refine lv_if_ge (tgt := 57) hx hb dX7_move_48 (by decide) (fun c20 => ?_) (fun c20 => ?_)
        · refine lv_aload_n hx hb dX7_move_57 rfl (lv_at hl 0 rfl) ?_
          refine zz_get hC hZ 0 rfl zf_X7_10 rfl dX7_move_58 ?_
          refine lv_iload_n hx hb dX7_move_61 rfl (lv_at hl 1 rfl) ?_
          refine lv_iload_n hx hb dX7_move_62 rfl (lv_at hl 2 rfl) ?_
          refine lv_iload hx hb dX7_move_63 (lv_at hl 5 rfl) ?_
          refine zz_iV (As := [.int (nI a1), .int x2, .int x5]) (wc := [cw_k5 st (nI na) (nI nu) kd dp cl sa ln bt pn bf, cw_i g ln 60 lnf]) (wr := [cw_k6 h0 st mk lk ch ru mr md la, cw_i g sa 60 saf, cw_l g bt 4000 btf, cw_z g pn 4000 pnf, cw_i g kd 60 kdf, cw_i g dp 60 dpf, cw_i g cl 60 clf]) (rest := []) hC hZ hs hl zc_X7_173 (co_hasMany g st kd dp cl sa ln bt pn bf na nu lnf a1 x2 x5 (by omega)) [5, 2] [0, 1, 3, 4, 6, 7, 8] rfl rfl (by decide +kernel) (ci := 5) (q0 := 0) rfl rfl rfl rfl (Nat.le_of_ble_eq_true rfl) ⟨⟨Nat.le_of_ble_eq_true rfl, Nat.le_of_ble_eq_true rfl⟩, Nat.le_of_ble_eq_true rfl, Nat.le_of_ble_eq_true rfl⟩ dX7_move_65 (fun r21 u22 H locs hp hZ => ?_)
          obtain ⟨rfl, rfl⟩ := hp
          have hZ : zz_Z g A s.heap [cw_k6 h0 st mk lk ch ru mr md la, cw_i g sa 60 saf, cw_l g bt 4000 btf, cw_z g pn 4000 pnf, cw_i g kd 60 kdf, cw_i g dp 60 dpf, cw_i g cl 60 clf, cw_k5 st (nI na) (nI nu) kd dp cl sa ln bt pn bf, cw_i g ln 60 lnf] H locs := hZ
          refine lv_if_eq (tgt := 86) hx hb dX7_move_68 (by decide) (fun c23 => ?_) (fun c23 => ?_)
          · refine lv_aload_n hx hb dX7_move_86 rfl (lv_at hl 0 rfl) ?_
            refine lv_iconst (v := 2) hx hb dX7_move_87 (by decide) ?_
            refine zz_iV (As := [.int 2]) (wc := [cw_k6 h0 st mk lk ch ru mr md la]) (wr := [cw_i g sa 60 saf, cw_l g bt 4000 btf, cw_z g pn 4000 pnf, cw_i g kd 60 kdf, cw_i g dp 60 dpf, cw_i g cl 60 clf, cw_k5 st (nI na) (nI nu) kd dp cl sa ln bt pn bf, cw_i g ln 60 lnf]) (rest := []) hC hZ hs hl zc_X7_65 (co_fail g h0 st mk lk ch ru mr md la 2) [0] [1, 2, 3, 4, 5, 6, 7, 8] rfl rfl (by decide +kernel) (ci := 6) (q0 := 0) rfl rfl rfl rfl (Nat.le_of_ble_eq_true rfl) ⟨⟨Nat.le_of_ble_eq_true rfl, Nat.le_of_ble_eq_true rfl⟩, Nat.le_of_ble_eq_true rfl, Nat.le_of_ble_eq_true rfl⟩ dX7_move_88 (fun r24 u25 H locs hp hZ => ?_)
            obtain ⟨rfl, rfl⟩ := hp
            have hZ : zz_Z g A s.heap [cw_i g sa 60 saf, cw_l g bt 4000 btf, cw_z g pn 4000 pnf, cw_i g kd 60 kdf, cw_i g dp 60 dpf, cw_i g cl 60 clf, cw_k5 st (nI na) (nI nu) kd dp cl sa ln bt pn bf, cw_i g ln 60 lnf, cw_k6 h0 st mk lk ch ru mr md 2] H locs := hZ
            have hZ : zz_Z g A s.heap [cw_k6 h0 st mk lk ch ru mr md 2, cw_k5 st (nI na) (nI nu) kd dp cl sa ln bt pn bf, cw_i g kd 60 kdf, cw_i g dp 60 dpf, cw_i g cl 60 clf, cw_i g sa 60 saf, cw_i g ln 60 lnf, cw_l g bt 4000 btf, cw_z g pn 4000 pnf] H locs := hZ.sub [8, 6, 3, 4, 5, 0, 7, 1, 2] (by decide +kernel) rfl
            exact zz_iret hC hZ (⟨2, btf, by refine Eq.symm ?_; rw [fo_cx_move]; refine (if_neg (by (try simp only [d_a1, d_sz1, d_lz1, d_dz1, d_a3, d_sz3, d_lz3, d_dz3]); exact c3)).trans ?_; refine (if_neg (by (try simp only [d_a1, d_sz1, d_lz1, d_dz1, d_a3, d_sz3, d_lz3, d_dz3]); exact c12)).trans ?_; refine (if_neg (by (try simp only [d_a1, d_sz1, d_lz1, d_dz1, d_a3, d_sz3, d_lz3, d_dz3]); exact c19)).trans ?_; refine (if_pos (by (try simp only [d_a1, d_sz1, d_lz1, d_dz1, d_a3, d_sz3, d_lz3, d_dz3]); exact c20)).trans ?_; refine (if_pos (by (try simp only [d_a1, d_sz1, d_lz1, d_dz1, d_a3, d_sz3, d_lz3, d_dz3]); exact c23)).trans ?_; first | (simp only [d_a1, d_sz1, d_lz1, d_dz1, d_a3, d_sz3, d_lz3, d_dz3]; done) | rfl, rfl⟩) (Nat.le_of_ble_eq_true rfl) (Nat.le_of_ble_eq_true rfl) dX7_move_91
          · obtain ⟨i2, n5, ei2, en5, hi2⟩ := zl_many el1 g11 c20 c23
            have hl : lv_has ls 7 [(0, .ref h0), (1, .int (nI a1)), (2, .int x2), (3, .int (nI a3)), (4, .int x4), (5, .int (nI n5))] := by rw [← en5]; exact hl
            have bd26 : n5 < 2 ^ 31 := by omega
            have d_n5 : x5.toNatClampNeg = n5 := by rw [en5]; exact nI_clamp bd26
            have hl : lv_has ls 7 [(0, .ref h0), (1, .int (nI a1)), (2, .int (nI i2)), (3, .int (nI a3)), (4, .int x4), (5, .int (nI n5))] := by rw [← ei2]; exact hl
            have bd27 : i2 < 2 ^ 31 := by omega
            have d_i2 : x2.toNatClampNeg = i2 := by rw [ei2]; exact nI_clamp bd27
            refine lv_aload_n hx hb dX7_move_71 rfl (lv_at hl 0 rfl) ?_
            refine zz_get hC hZ 0 rfl zf_X7_10 rfl dX7_move_72 ?_
            refine lv_iload_n hx hb dX7_move_75 rfl (lv_at hl 3 rfl) ?_
            refine lv_iload hx hb dX7_move_76 (lv_at hl 4 rfl) ?_
            refine lv_iload hx hb dX7_move_78 (lv_at hl 5 rfl) ?_
            refine zz_iV (As := [.int (nI a3), .int x4, .int (nI n5)]) (wc := [cw_k5 st (nI na) (nI nu) kd dp cl sa ln bt pn bf, cw_i g ln 60 lnf]) (wr := [cw_k6 h0 st mk lk ch ru mr md la, cw_i g sa 60 saf, cw_l g bt 4000 btf, cw_z g pn 4000 pnf, cw_i g kd 60 kdf, cw_i g dp 60 dpf, cw_i g cl 60 clf]) (rest := []) hC hZ hs hl zc_X7_173 (co_hasMany g st kd dp cl sa ln bt pn bf na nu lnf a3 x4 (nI n5) (by omega)) [7, 8] [0, 1, 2, 3, 4, 5, 6] rfl rfl (by decide +kernel) (ci := 5) (q0 := 0) rfl rfl rfl rfl (Nat.le_of_ble_eq_true rfl) ⟨⟨Nat.le_of_ble_eq_true rfl, Nat.le_of_ble_eq_true rfl⟩, Nat.le_of_ble_eq_true rfl, Nat.le_of_ble_eq_true rfl⟩ dX7_move_80 (fun r28 u29 H locs hp hZ => ?_)
            obtain ⟨rfl, rfl⟩ := hp
            have hZ : zz_Z g A s.heap [cw_k6 h0 st mk lk ch ru mr md la, cw_i g sa 60 saf, cw_l g bt 4000 btf, cw_z g pn 4000 pnf, cw_i g kd 60 kdf, cw_i g dp 60 dpf, cw_i g cl 60 clf, cw_k5 st (nI na) (nI nu) kd dp cl sa ln bt pn bf, cw_i g ln 60 lnf] H locs := hZ
            refine lv_if_ne (tgt := 92) hx hb dX7_move_83 (by decide) (fun c30 => ?_) (fun c30 => ?_)
            · obtain ⟨i4, ei4, hi4⟩ := zl_many2 el3 g13 (by omega) c30
              have hl : lv_has ls 7 [(0, .ref h0), (1, .int (nI a1)), (2, .int (nI i2)), (3, .int (nI a3)), (4, .int (nI i4)), (5, .int (nI n5))] := by rw [← ei4]; exact hl
              have bd31 : i4 < 2 ^ 31 := by omega
              have d_i4 : x4.toNatClampNeg = i4 := by rw [ei4]; exact nI_clamp bd31
              refine lv_aload_n hx hb dX7_move_92 rfl (lv_at hl 0 rfl) ?_
              refine zz_get hC hZ 0 rfl zf_X7_10 rfl dX7_move_93 ?_
              refine lv_iload_n hx hb dX7_move_96 rfl (lv_at hl 3 rfl) ?_
              refine lv_iload hx hb dX7_move_97 (lv_at hl 4 rfl) ?_
              refine lv_iload hx hb dX7_move_99 (lv_at hl 4 rfl) ?_
              refine lv_iload hx hb dX7_move_101 (lv_at hl 5 rfl) ?_
              refine lv_iadd hx hb dX7_move_103 ?_
              refine zz_topi (v := nI (i4 + n5)) (nI_add _ _) ?_
              refine zz_iV (As := [.int (nI a3), .int (nI i4), .int (nI (i4 + n5))]) (wc := [cw_k5 st (nI na) (nI nu) kd dp cl sa ln bt pn bf, cw_i g sa 60 saf, cw_z g pn 4000 pnf]) (wr := [cw_k6 h0 st mk lk ch ru mr md la, cw_l g bt 4000 btf, cw_i g kd 60 kdf, cw_i g dp 60 dpf, cw_i g cl 60 clf, cw_i g ln 60 lnf]) (rest := []) hC hZ hs hl zc_X7_109 (co_pinnedIn g st kd dp cl sa ln bt pn bf na nu saf pnf a3 sz3 lz3 i4 (i4 + n5) (by omega) (es3) (by omega) (by omega)) [7, 1, 3] [0, 2, 4, 5, 6, 8] rfl rfl (by decide +kernel) (ci := 5) (q0 := 0) rfl rfl rfl rfl (Nat.le_of_ble_eq_true rfl) ⟨⟨Nat.le_of_ble_eq_true rfl, Nat.le_of_ble_eq_true rfl⟩, Nat.le_of_ble_eq_true rfl, Nat.le_of_ble_eq_true rfl⟩ dX7_move_104 (fun r32 u33 H locs hp hZ => ?_)
              obtain ⟨rfl, f34, rfl⟩ := hp
              have hZ : zz_Z g A s.heap [cw_k6 h0 st mk lk ch ru mr md la, cw_l g bt 4000 btf, cw_i g kd 60 kdf, cw_i g dp 60 dpf, cw_i g cl 60 clf, cw_i g ln 60 lnf, cw_k5 st (nI na) (nI nu) kd dp cl sa ln bt pn bf, cw_i g sa 60 saf, cw_z g pn 4000 pnf] H locs := hZ
              have bd36 : (zz_cp pnf (sz3 + i4) ((i4 + n5) - i4)) < 2 ^ 31 := by omega
              refine lv_if_le (tgt := 117) hx hb dX7_move_107 (by decide) (fun c35 => ?_) (fun c35 => ?_)
              · have nc35 : (zz_cp pnf (sz3 + i4) ((i4 + n5) - i4)) ≤ 0 := (nI_leI bd36 (by decide)).mp (show nI ((zz_cp pnf (sz3 + i4) ((i4 + n5) - i4))) ≤ nI (0) from c35)
                refine lv_aload_n hx hb dX7_move_117 rfl (lv_at hl 0 rfl) ?_
                refine zz_get hC hZ 0 rfl zf_X7_10 rfl dX7_move_118 ?_
                refine lv_iload_n hx hb dX7_move_121 rfl (lv_at hl 1 rfl) ?_
                refine lv_iload_n hx hb dX7_move_122 rfl (lv_at hl 2 rfl) ?_
                refine lv_iload_n hx hb dX7_move_123 rfl (lv_at hl 3 rfl) ?_
                refine lv_iload hx hb dX7_move_124 (lv_at hl 5 rfl) ?_
                refine zz_iV (As := [.int (nI a1), .int (nI i2), .int (nI a3), .int (nI n5)]) (wc := [cw_k5 st (nI na) (nI nu) kd dp cl sa ln bt pn bf, cw_i g dp 60 dpf, cw_i g cl 60 clf, cw_i g sa 60 saf, cw_l g bt 4000 btf]) (wr := [cw_k6 h0 st mk lk ch ru mr md la, cw_i g kd 60 kdf, cw_i g ln 60 lnf, cw_z g pn 4000 pnf]) (rest := []) hC hZ hs hl zc_X7_176 (co_takenOf g st kd dp cl sa ln bt pn bf na nu dpf clf saf btf a1 sz1 lz1 i2 a3 n5 (by omega) (es1) (by omega) (by omega)) [6, 3, 4, 7, 1] [0, 2, 5, 8] rfl rfl (by decide +kernel) (ci := 5) (q0 := 0) rfl rfl rfl rfl (Nat.le_of_ble_eq_true rfl) ⟨⟨Nat.le_of_ble_eq_true rfl, Nat.le_of_ble_eq_true rfl⟩, Nat.le_of_ble_eq_true rfl, Nat.le_of_ble_eq_true rfl⟩ dX7_move_126 (fun r37 u38 H locs hp hZ => ?_)
                obtain ⟨n2_39, f40, f41, f42, rfl⟩ := hp
                have hZ : zz_Z g A s.heap [cw_k6 h0 st mk lk ch ru mr md la, cw_i g kd 60 kdf, cw_i g ln 60 lnf, cw_z g pn 4000 pnf, cw_k5 st (nI na) (nI nu) kd dp cl sa ln bt pn bf, cw_i g dp 60 dpf, cw_i g cl 60 clf, cw_i g sa 60 saf, cw_l g bt 4000 btf] H locs := hZ
                have d_n2_39 : (if dpf a3 ≤ 1 then zz_tk clf a3 btf (sz1 + i2) n5 0 else n5) = n2_39 := f42.symm
                have d_r37 : nI n2_39 = r37 := f40.symm
                refine zz_topi (v := nI n2_39) (f40) ?_
                have htk := f41
                refine lv_istore (lv' := [(6, .int (nI n2_39)), (0, .ref h0), (1, .int (nI a1)), (2, .int (nI i2)), (3, .int (nI a3)), (4, .int (nI i4)), (5, .int (nI n5))]) hx hb dX7_move_129 hl (by decide) rfl (fun ls hl => ?_)
                refine lv_aload_n hx hb dX7_move_131 rfl (lv_at hl 1 rfl) ?_
                refine zz_get hC hZ 0 rfl zf_X7_10 rfl dX7_move_132 ?_
                refine zz_get hC hZ 4 rfl zf_X7_116 rfl dX7_move_135 ?_
                refine lv_aload_n hx hb dX7_move_138 rfl (lv_at hl 1 rfl) ?_
                refine zz_get hC hZ 0 rfl zf_X7_10 rfl dX7_move_139 ?_
                refine zz_get hC hZ 4 rfl zf_X7_120 rfl dX7_move_142 ?_
                refine lv_iload_n hx hb dX7_move_145 rfl (lv_at hl 2 rfl) ?_
                have bd43 : a1 < 60 := by omega
                refine zz_ialdn hC hZ 7 rfl bd43 (by decide) dX7_move_146 ?_
                refine zz_topi (v := nI sz1) (es1) ?_
                refine lv_iload_n hx hb dX7_move_147 rfl (lv_at hl 3 rfl) ?_
                refine lv_iadd hx hb dX7_move_148 ?_
                refine zz_topi (v := nI (sz1 + i2)) (nI_add _ _) ?_
                refine lv_aload_n hx hb dX7_move_149 rfl (lv_at hl 1 rfl) ?_
                refine zz_get hC hZ 0 rfl zf_X7_10 rfl dX7_move_150 ?_
                refine zz_get hC hZ 4 rfl zf_X7_116 rfl dX7_move_153 ?_
                refine lv_aload_n hx hb dX7_move_156 rfl (lv_at hl 1 rfl) ?_
                refine zz_get hC hZ 0 rfl zf_X7_10 rfl dX7_move_157 ?_
                refine zz_get hC hZ 4 rfl zf_X7_120 rfl dX7_move_160 ?_
                refine lv_iload_n hx hb dX7_move_163 rfl (lv_at hl 4 rfl) ?_
                have bd44 : a3 < 60 := by omega
                refine zz_ialdn hC hZ 7 rfl bd44 (by decide) dX7_move_164 ?_
                refine zz_topi (v := nI sz3) (es3) ?_
                refine lv_iload hx hb dX7_move_165 (lv_at hl 5 rfl) ?_
                refine lv_iadd hx hb dX7_move_167 ?_
                refine zz_topi (v := nI (sz3 + i4)) (nI_add _ _) ?_
                refine lv_iload hx hb dX7_move_168 (lv_at hl 0 rfl) ?_
                refine zz_copyl (x := (sz1 + i2)) (y := (sz3 + i4)) (n := n2_39) hC hZ hl zk_437 zk_439 zk_438 zk_9 8 8 rfl rfl (by omega) (by omega) (by omega) (Nat.le_of_ble_eq_true rfl) (by decide) dX7_move_170 (fun H locs hZ => ?_)
                have hZ : zz_Z g A s.heap [cw_k6 h0 st mk lk ch ru mr md la, cw_i g kd 60 kdf, cw_i g ln 60 lnf, cw_z g pn 4000 pnf, cw_k5 st (nI na) (nI nu) kd dp cl sa ln bt pn bf, cw_i g dp 60 dpf, cw_i g cl 60 clf, cw_i g sa 60 saf, cw_l g bt 4000 (va_cpy btf btf (sz1 + i2) (sz3 + i4) n2_39)] H locs := hZ
                refine lv_iload hx hb dX7_move_173 (lv_at hl 0 rfl) ?_
                refine lv_iload hx hb dX7_move_175 (lv_at hl 6 rfl) ?_
                have bd46 : n2_39 < 2 ^ 31 := by omega
                refine lv_icmp_ge (tgt := 189) hx hb dX7_move_177 (by decide) (fun c45 => ?_) (fun c45 => ?_)
                · have nc45 : n5 ≤ n2_39 := (nI_leI bd26 bd46).mp (show nI (n5) ≤ nI (n2_39) from c45)
                  refine lv_aload_n hx hb dX7_move_189 rfl (lv_at hl 1 rfl) ?_
                  refine lv_iload hx hb dX7_move_190 (lv_at hl 6 rfl) ?_
                  refine zz_iV (As := [.int (nI n5)]) (wc := [cw_k6 h0 st mk lk ch ru mr md la]) (wr := [cw_i g kd 60 kdf, cw_i g ln 60 lnf, cw_z g pn 4000 pnf, cw_k5 st (nI na) (nI nu) kd dp cl sa ln bt pn bf, cw_i g dp 60 dpf, cw_i g cl 60 clf, cw_i g sa 60 saf, cw_l g bt 4000 (va_cpy btf btf (sz1 + i2) (sz3 + i4) n2_39)]) (rest := []) hC hZ hs hl zc_X7_100 (co_fine g h0 st mk lk ch ru mr md la (nI n5)) [0] [1, 2, 3, 4, 5, 6, 7, 8] rfl rfl (by decide +kernel) (ci := 6) (q0 := 0) rfl rfl rfl rfl (Nat.le_of_ble_eq_true rfl) ⟨⟨Nat.le_of_ble_eq_true rfl, Nat.le_of_ble_eq_true rfl⟩, Nat.le_of_ble_eq_true rfl, Nat.le_of_ble_eq_true rfl⟩ dX7_move_192 (fun r47 u48 H locs hp hZ => ?_)
                  obtain ⟨rfl, rfl⟩ := hp
                  have hZ : zz_Z g A s.heap [cw_i g kd 60 kdf, cw_i g ln 60 lnf, cw_z g pn 4000 pnf, cw_k5 st (nI na) (nI nu) kd dp cl sa ln bt pn bf, cw_i g dp 60 dpf, cw_i g cl 60 clf, cw_i g sa 60 saf, cw_l g bt 4000 (va_cpy btf btf (sz1 + i2) (sz3 + i4) n2_39), cw_k6 h0 st mk lk ch ru mr md 0] H locs := hZ
                  have hZ : zz_Z g A s.heap [cw_k6 h0 st mk lk ch ru mr md 0, cw_k5 st (nI na) (nI nu) kd dp cl sa ln bt pn bf, cw_i g kd 60 kdf, cw_i g dp 60 dpf, cw_i g cl 60 clf, cw_i g sa 60 saf, cw_i g ln 60 lnf, cw_l g bt 4000 (va_cpy btf btf (sz1 + i2) (sz3 + i4) n2_39), cw_z g pn 4000 pnf] H locs := hZ.sub [8, 3, 0, 4, 5, 6, 1, 7, 2] (by decide +kernel) rfl
                  exact zz_iret hC hZ (⟨0, (va_cpy btf btf (sz1 + i2) (sz3 + i4) n2_39), by refine Eq.symm ?_; rw [fo_cx_move]; refine (if_neg (by (try simp only [d_a1, d_sz1, d_lz1, d_dz1, d_a3, d_sz3, d_lz3, d_dz3, d_n5, d_i2, d_i4, d_n2_39]); exact c3)).trans ?_; refine (if_neg (by (try simp only [d_a1, d_sz1, d_lz1, d_dz1, d_a3, d_sz3, d_lz3, d_dz3, d_n5, d_i2, d_i4, d_n2_39]); exact c12)).trans ?_; refine (if_neg (by (try simp only [d_a1, d_sz1, d_lz1, d_dz1, d_a3, d_sz3, d_lz3, d_dz3, d_n5, d_i2, d_i4, d_n2_39]); exact c19)).trans ?_; refine (if_pos (by (try simp only [d_a1, d_sz1, d_lz1, d_dz1, d_a3, d_sz3, d_lz3, d_dz3, d_n5, d_i2, d_i4, d_n2_39]); exact c20)).trans ?_; refine (if_neg (by (try simp only [d_a1, d_sz1, d_lz1, d_dz1, d_a3, d_sz3, d_lz3, d_dz3, d_n5, d_i2, d_i4, d_n2_39]); exact c23)).trans ?_; refine (if_neg (by (try simp only [d_a1, d_sz1, d_lz1, d_dz1, d_a3, d_sz3, d_lz3, d_dz3, d_n5, d_i2, d_i4, d_n2_39]); exact c30)).trans ?_; refine (if_pos (by (try simp only [d_a1, d_sz1, d_lz1, d_dz1, d_a3, d_sz3, d_lz3, d_dz3, d_n5, d_i2, d_i4, d_n2_39]); exact c35)).trans ?_; refine (if_pos (by (try simp only [d_a1, d_sz1, d_lz1, d_dz1, d_a3, d_sz3, d_lz3, d_dz3, d_n5, d_i2, d_i4, d_n2_39]); exact c45)).trans ?_; first | (simp only [d_a1, d_sz1, d_lz1, d_dz1, d_a3, d_sz3, d_lz3, d_dz3, d_n5, d_i2, d_i4, d_n2_39]; done) | rfl, rfl⟩) (Nat.le_of_ble_eq_true rfl) (Nat.le_of_ble_eq_true rfl) dX7_move_195
                · have nc45 : ¬ n5 ≤ n2_39 := fun zq => c45 (show nI (n5) ≤ nI (n2_39) from (nI_leI bd26 bd46).mpr zq)
                  refine lv_aload_n hx hb dX7_move_180 rfl (lv_at hl 1 rfl) ?_
                  refine lv_bipush (v := 7) hx hb dX7_move_181 (by decide) ?_
                  refine zz_iV (As := [.int 7]) (wc := [cw_k6 h0 st mk lk ch ru mr md la]) (wr := [cw_i g kd 60 kdf, cw_i g ln 60 lnf, cw_z g pn 4000 pnf, cw_k5 st (nI na) (nI nu) kd dp cl sa ln bt pn bf, cw_i g dp 60 dpf, cw_i g cl 60 clf, cw_i g sa 60 saf, cw_l g bt 4000 (va_cpy btf btf (sz1 + i2) (sz3 + i4) n2_39)]) (rest := []) hC hZ hs hl zc_X7_65 (co_fail g h0 st mk lk ch ru mr md la 7) [0] [1, 2, 3, 4, 5, 6, 7, 8] rfl rfl (by decide +kernel) (ci := 6) (q0 := 0) rfl rfl rfl rfl (Nat.le_of_ble_eq_true rfl) ⟨⟨Nat.le_of_ble_eq_true rfl, Nat.le_of_ble_eq_true rfl⟩, Nat.le_of_ble_eq_true rfl, Nat.le_of_ble_eq_true rfl⟩ dX7_move_183 (fun r49 u50 H locs hp hZ => ?_)
                  obtain ⟨rfl, rfl⟩ := hp
                  have hZ : zz_Z g A s.heap [cw_i g kd 60 kdf, cw_i g ln 60 lnf, cw_z g pn 4000 pnf, cw_k5 st (nI na) (nI nu) kd dp cl sa ln bt pn bf, cw_i g dp 60 dpf, cw_i g cl 60 clf, cw_i g sa 60 saf, cw_l g bt 4000 (va_cpy btf btf (sz1 + i2) (sz3 + i4) n2_39), cw_k6 h0 st mk lk ch ru mr md 7] H locs := hZ
                  refine lv_goto (tgt := 195) hx hb dX7_move_186 (by decide) ?_
                  have hZ : zz_Z g A s.heap [cw_k6 h0 st mk lk ch ru mr md 7, cw_k5 st (nI na) (nI nu) kd dp cl sa ln bt pn bf, cw_i g kd 60 kdf, cw_i g dp 60 dpf, cw_i g cl 60 clf, cw_i g sa 60 saf, cw_i g ln 60 lnf, cw_l g bt 4000 (va_cpy btf btf (sz1 + i2) (sz3 + i4) n2_39), cw_z g pn 4000 pnf] H locs := hZ.sub [8, 3, 0, 4, 5, 6, 1, 7, 2] (by decide +kernel) rfl
                  exact zz_iret hC hZ (⟨7, (va_cpy btf btf (sz1 + i2) (sz3 + i4) n2_39), by refine Eq.symm ?_; rw [fo_cx_move]; refine (if_neg (by (try simp only [d_a1, d_sz1, d_lz1, d_dz1, d_a3, d_sz3, d_lz3, d_dz3, d_n5, d_i2, d_i4, d_n2_39]); exact c3)).trans ?_; refine (if_neg (by (try simp only [d_a1, d_sz1, d_lz1, d_dz1, d_a3, d_sz3, d_lz3, d_dz3, d_n5, d_i2, d_i4, d_n2_39]); exact c12)).trans ?_; refine (if_neg (by (try simp only [d_a1, d_sz1, d_lz1, d_dz1, d_a3, d_sz3, d_lz3, d_dz3, d_n5, d_i2, d_i4, d_n2_39]); exact c19)).trans ?_; refine (if_pos (by (try simp only [d_a1, d_sz1, d_lz1, d_dz1, d_a3, d_sz3, d_lz3, d_dz3, d_n5, d_i2, d_i4, d_n2_39]); exact c20)).trans ?_; refine (if_neg (by (try simp only [d_a1, d_sz1, d_lz1, d_dz1, d_a3, d_sz3, d_lz3, d_dz3, d_n5, d_i2, d_i4, d_n2_39]); exact c23)).trans ?_; refine (if_neg (by (try simp only [d_a1, d_sz1, d_lz1, d_dz1, d_a3, d_sz3, d_lz3, d_dz3, d_n5, d_i2, d_i4, d_n2_39]); exact c30)).trans ?_; refine (if_pos (by (try simp only [d_a1, d_sz1, d_lz1, d_dz1, d_a3, d_sz3, d_lz3, d_dz3, d_n5, d_i2, d_i4, d_n2_39]); exact c35)).trans ?_; refine (if_neg (by (try simp only [d_a1, d_sz1, d_lz1, d_dz1, d_a3, d_sz3, d_lz3, d_dz3, d_n5, d_i2, d_i4, d_n2_39]); exact c45)).trans ?_; first | (simp only [d_a1, d_sz1, d_lz1, d_dz1, d_a3, d_sz3, d_lz3, d_dz3, d_n5, d_i2, d_i4, d_n2_39]; done) | rfl, rfl⟩) (Nat.le_of_ble_eq_true rfl) (Nat.le_of_ble_eq_true rfl) dX7_move_195
              · have nc35 : ¬ (zz_cp pnf (sz3 + i4) ((i4 + n5) - i4)) ≤ 0 := fun zq => c35 (show nI ((zz_cp pnf (sz3 + i4) ((i4 + n5) - i4))) ≤ nI (0) from (nI_leI bd36 (by decide)).mpr zq)
                refine lv_aload_n hx hb dX7_move_110 rfl (lv_at hl 0 rfl) ?_
                refine lv_bipush (v := 6) hx hb dX7_move_111 (by decide) ?_
                refine zz_iV (As := [.int 6]) (wc := [cw_k6 h0 st mk lk ch ru mr md la]) (wr := [cw_l g bt 4000 btf, cw_i g kd 60 kdf, cw_i g dp 60 dpf, cw_i g cl 60 clf, cw_i g ln 60 lnf, cw_k5 st (nI na) (nI nu) kd dp cl sa ln bt pn bf, cw_i g sa 60 saf, cw_z g pn 4000 pnf]) (rest := []) hC hZ hs hl zc_X7_65 (co_fail g h0 st mk lk ch ru mr md la 6) [0] [1, 2, 3, 4, 5, 6, 7, 8] rfl rfl (by decide +kernel) (ci := 6) (q0 := 0) rfl rfl rfl rfl (Nat.le_of_ble_eq_true rfl) ⟨⟨Nat.le_of_ble_eq_true rfl, Nat.le_of_ble_eq_true rfl⟩, Nat.le_of_ble_eq_true rfl, Nat.le_of_ble_eq_true rfl⟩ dX7_move_113 (fun r51 u52 H locs hp hZ => ?_)
                obtain ⟨rfl, rfl⟩ := hp
                have hZ : zz_Z g A s.heap [cw_l g bt 4000 btf, cw_i g kd 60 kdf, cw_i g dp 60 dpf, cw_i g cl 60 clf, cw_i g ln 60 lnf, cw_k5 st (nI na) (nI nu) kd dp cl sa ln bt pn bf, cw_i g sa 60 saf, cw_z g pn 4000 pnf, cw_k6 h0 st mk lk ch ru mr md 6] H locs := hZ
                have hZ : zz_Z g A s.heap [cw_k6 h0 st mk lk ch ru mr md 6, cw_k5 st (nI na) (nI nu) kd dp cl sa ln bt pn bf, cw_i g kd 60 kdf, cw_i g dp 60 dpf, cw_i g cl 60 clf, cw_i g sa 60 saf, cw_i g ln 60 lnf, cw_l g bt 4000 btf, cw_z g pn 4000 pnf] H locs := hZ.sub [8, 5, 1, 2, 3, 6, 4, 0, 7] (by decide +kernel) rfl
                exact zz_iret hC hZ (⟨6, btf, by refine Eq.symm ?_; rw [fo_cx_move]; refine (if_neg (by (try simp only [d_a1, d_sz1, d_lz1, d_dz1, d_a3, d_sz3, d_lz3, d_dz3, d_n5, d_i2, d_i4]); exact c3)).trans ?_; refine (if_neg (by (try simp only [d_a1, d_sz1, d_lz1, d_dz1, d_a3, d_sz3, d_lz3, d_dz3, d_n5, d_i2, d_i4]); exact c12)).trans ?_; refine (if_neg (by (try simp only [d_a1, d_sz1, d_lz1, d_dz1, d_a3, d_sz3, d_lz3, d_dz3, d_n5, d_i2, d_i4]); exact c19)).trans ?_; refine (if_pos (by (try simp only [d_a1, d_sz1, d_lz1, d_dz1, d_a3, d_sz3, d_lz3, d_dz3, d_n5, d_i2, d_i4]); exact c20)).trans ?_; refine (if_neg (by (try simp only [d_a1, d_sz1, d_lz1, d_dz1, d_a3, d_sz3, d_lz3, d_dz3, d_n5, d_i2, d_i4]); exact c23)).trans ?_; refine (if_neg (by (try simp only [d_a1, d_sz1, d_lz1, d_dz1, d_a3, d_sz3, d_lz3, d_dz3, d_n5, d_i2, d_i4]); exact c30)).trans ?_; refine (if_neg (by (try simp only [d_a1, d_sz1, d_lz1, d_dz1, d_a3, d_sz3, d_lz3, d_dz3, d_n5, d_i2, d_i4]); exact c35)).trans ?_; first | (simp only [d_a1, d_sz1, d_lz1, d_dz1, d_a3, d_sz3, d_lz3, d_dz3, d_n5, d_i2, d_i4]; done) | rfl, rfl⟩) (Nat.le_of_ble_eq_true rfl) (Nat.le_of_ble_eq_true rfl) dX7_move_116
            · refine lv_aload_n hx hb dX7_move_86 rfl (lv_at hl 0 rfl) ?_
              refine lv_iconst (v := 2) hx hb dX7_move_87 (by decide) ?_
              refine zz_iV (As := [.int 2]) (wc := [cw_k6 h0 st mk lk ch ru mr md la]) (wr := [cw_i g sa 60 saf, cw_l g bt 4000 btf, cw_z g pn 4000 pnf, cw_i g kd 60 kdf, cw_i g dp 60 dpf, cw_i g cl 60 clf, cw_k5 st (nI na) (nI nu) kd dp cl sa ln bt pn bf, cw_i g ln 60 lnf]) (rest := []) hC hZ hs hl zc_X7_65 (co_fail g h0 st mk lk ch ru mr md la 2) [0] [1, 2, 3, 4, 5, 6, 7, 8] rfl rfl (by decide +kernel) (ci := 6) (q0 := 0) rfl rfl rfl rfl (Nat.le_of_ble_eq_true rfl) ⟨⟨Nat.le_of_ble_eq_true rfl, Nat.le_of_ble_eq_true rfl⟩, Nat.le_of_ble_eq_true rfl, Nat.le_of_ble_eq_true rfl⟩ dX7_move_88 (fun r53 u54 H locs hp hZ => ?_)
              obtain ⟨rfl, rfl⟩ := hp
              have hZ : zz_Z g A s.heap [cw_i g sa 60 saf, cw_l g bt 4000 btf, cw_z g pn 4000 pnf, cw_i g kd 60 kdf, cw_i g dp 60 dpf, cw_i g cl 60 clf, cw_k5 st (nI na) (nI nu) kd dp cl sa ln bt pn bf, cw_i g ln 60 lnf, cw_k6 h0 st mk lk ch ru mr md 2] H locs := hZ
              have hZ : zz_Z g A s.heap [cw_k6 h0 st mk lk ch ru mr md 2, cw_k5 st (nI na) (nI nu) kd dp cl sa ln bt pn bf, cw_i g kd 60 kdf, cw_i g dp 60 dpf, cw_i g cl 60 clf, cw_i g sa 60 saf, cw_i g ln 60 lnf, cw_l g bt 4000 btf, cw_z g pn 4000 pnf] H locs := hZ.sub [8, 6, 3, 4, 5, 0, 7, 1, 2] (by decide +kernel) rfl
              exact zz_iret hC hZ (⟨2, btf, by refine Eq.symm ?_; rw [fo_cx_move]; refine (if_neg (by (try simp only [d_a1, d_sz1, d_lz1, d_dz1, d_a3, d_sz3, d_lz3, d_dz3, d_n5, d_i2]); exact c3)).trans ?_; refine (if_neg (by (try simp only [d_a1, d_sz1, d_lz1, d_dz1, d_a3, d_sz3, d_lz3, d_dz3, d_n5, d_i2]); exact c12)).trans ?_; refine (if_neg (by (try simp only [d_a1, d_sz1, d_lz1, d_dz1, d_a3, d_sz3, d_lz3, d_dz3, d_n5, d_i2]); exact c19)).trans ?_; refine (if_pos (by (try simp only [d_a1, d_sz1, d_lz1, d_dz1, d_a3, d_sz3, d_lz3, d_dz3, d_n5, d_i2]); exact c20)).trans ?_; refine (if_neg (by (try simp only [d_a1, d_sz1, d_lz1, d_dz1, d_a3, d_sz3, d_lz3, d_dz3, d_n5, d_i2]); exact c23)).trans ?_; refine (if_pos (by (try simp only [d_a1, d_sz1, d_lz1, d_dz1, d_a3, d_sz3, d_lz3, d_dz3, d_n5, d_i2]); exact c30)).trans ?_; first | (simp only [d_a1, d_sz1, d_lz1, d_dz1, d_a3, d_sz3, d_lz3, d_dz3, d_n5, d_i2]; done) | rfl, rfl⟩) (Nat.le_of_ble_eq_true rfl) (Nat.le_of_ble_eq_true rfl) dX7_move_91
        · refine lv_aload_n hx hb dX7_move_51 rfl (lv_at hl 0 rfl) ?_
          refine lv_iconst (v := 4) hx hb dX7_move_52 (by decide) ?_
          refine zz_iV (As := [.int 4]) (wc := [cw_k6 h0 st mk lk ch ru mr md la]) (wr := [cw_i g sa 60 saf, cw_i g ln 60 lnf, cw_l g bt 4000 btf, cw_z g pn 4000 pnf, cw_k5 st (nI na) (nI nu) kd dp cl sa ln bt pn bf, cw_i g kd 60 kdf, cw_i g dp 60 dpf, cw_i g cl 60 clf]) (rest := []) hC hZ hs hl zc_X7_65 (co_fail g h0 st mk lk ch ru mr md la 4) [0] [1, 2, 3, 4, 5, 6, 7, 8] rfl rfl (by decide +kernel) (ci := 6) (q0 := 0) rfl rfl rfl rfl (Nat.le_of_ble_eq_true rfl) ⟨⟨Nat.le_of_ble_eq_true rfl, Nat.le_of_ble_eq_true rfl⟩, Nat.le_of_ble_eq_true rfl, Nat.le_of_ble_eq_true rfl⟩ dX7_move_53 (fun r55 u56 H locs hp hZ => ?_)
          obtain ⟨rfl, rfl⟩ := hp
          have hZ : zz_Z g A s.heap [cw_i g sa 60 saf, cw_i g ln 60 lnf, cw_l g bt 4000 btf, cw_z g pn 4000 pnf, cw_k5 st (nI na) (nI nu) kd dp cl sa ln bt pn bf, cw_i g kd 60 kdf, cw_i g dp 60 dpf, cw_i g cl 60 clf, cw_k6 h0 st mk lk ch ru mr md 4] H locs := hZ
          have hZ : zz_Z g A s.heap [cw_k6 h0 st mk lk ch ru mr md 4, cw_k5 st (nI na) (nI nu) kd dp cl sa ln bt pn bf, cw_i g kd 60 kdf, cw_i g dp 60 dpf, cw_i g cl 60 clf, cw_i g sa 60 saf, cw_i g ln 60 lnf, cw_l g bt 4000 btf, cw_z g pn 4000 pnf] H locs := hZ.sub [8, 4, 5, 6, 7, 0, 1, 2, 3] (by decide +kernel) rfl
          exact zz_iret hC hZ (⟨4, btf, by refine Eq.symm ?_; rw [fo_cx_move]; refine (if_neg (by (try simp only [d_a1, d_sz1, d_lz1, d_dz1, d_a3, d_sz3, d_lz3, d_dz3]); exact c3)).trans ?_; refine (if_neg (by (try simp only [d_a1, d_sz1, d_lz1, d_dz1, d_a3, d_sz3, d_lz3, d_dz3]); exact c12)).trans ?_; refine (if_neg (by (try simp only [d_a1, d_sz1, d_lz1, d_dz1, d_a3, d_sz3, d_lz3, d_dz3]); exact c19)).trans ?_; refine (if_neg (by (try simp only [d_a1, d_sz1, d_lz1, d_dz1, d_a3, d_sz3, d_lz3, d_dz3]); exact c20)).trans ?_; first | (simp only [d_a1, d_sz1, d_lz1, d_dz1, d_a3, d_sz3, d_lz3, d_dz3]; done) | rfl, rfl⟩) (Nat.le_of_ble_eq_true rfl) (Nat.le_of_ble_eq_true rfl) dX7_move_56
      · refine lv_aload_n hx hb dX7_move_40 rfl (lv_at hl 0 rfl) ?_
        refine lv_iconst (v := 1) hx hb dX7_move_41 (by decide) ?_
        refine zz_iV (As := [.int 1]) (wc := [cw_k6 h0 st mk lk ch ru mr md la]) (wr := [cw_i g sa 60 saf, cw_i g ln 60 lnf, cw_l g bt 4000 btf, cw_z g pn 4000 pnf, cw_k5 st (nI na) (nI nu) kd dp cl sa ln bt pn bf, cw_i g kd 60 kdf, cw_i g dp 60 dpf, cw_i g cl 60 clf]) (rest := []) hC hZ hs hl zc_X7_65 (co_fail g h0 st mk lk ch ru mr md la 1) [0] [1, 2, 3, 4, 5, 6, 7, 8] rfl rfl (by decide +kernel) (ci := 6) (q0 := 0) rfl rfl rfl rfl (Nat.le_of_ble_eq_true rfl) ⟨⟨Nat.le_of_ble_eq_true rfl, Nat.le_of_ble_eq_true rfl⟩, Nat.le_of_ble_eq_true rfl, Nat.le_of_ble_eq_true rfl⟩ dX7_move_42 (fun r57 u58 H locs hp hZ => ?_)
        obtain ⟨rfl, rfl⟩ := hp
        have hZ : zz_Z g A s.heap [cw_i g sa 60 saf, cw_i g ln 60 lnf, cw_l g bt 4000 btf, cw_z g pn 4000 pnf, cw_k5 st (nI na) (nI nu) kd dp cl sa ln bt pn bf, cw_i g kd 60 kdf, cw_i g dp 60 dpf, cw_i g cl 60 clf, cw_k6 h0 st mk lk ch ru mr md 1] H locs := hZ
        have hZ : zz_Z g A s.heap [cw_k6 h0 st mk lk ch ru mr md 1, cw_k5 st (nI na) (nI nu) kd dp cl sa ln bt pn bf, cw_i g kd 60 kdf, cw_i g dp 60 dpf, cw_i g cl 60 clf, cw_i g sa 60 saf, cw_i g ln 60 lnf, cw_l g bt 4000 btf, cw_z g pn 4000 pnf] H locs := hZ.sub [8, 4, 5, 6, 7, 0, 1, 2, 3] (by decide +kernel) rfl
        exact zz_iret hC hZ (⟨1, btf, by refine Eq.symm ?_; rw [fo_cx_move]; refine (if_neg (by (try simp only [d_a1, d_sz1, d_lz1, d_dz1, d_a3, d_sz3, d_lz3, d_dz3]); exact c3)).trans ?_; refine (if_neg (by (try simp only [d_a1, d_sz1, d_lz1, d_dz1, d_a3, d_sz3, d_lz3, d_dz3]); exact c12)).trans ?_; refine (if_pos (by (try simp only [d_a1, d_sz1, d_lz1, d_dz1, d_a3, d_sz3, d_lz3, d_dz3]); exact c19)).trans ?_; first | (simp only [d_a1, d_sz1, d_lz1, d_dz1, d_a3, d_sz3, d_lz3, d_dz3]; done) | rfl, rfl⟩) (Nat.le_of_ble_eq_true rfl) (Nat.le_of_ble_eq_true rfl) dX7_move_45
    · refine lv_aload_n hx hb dX7_move_22 rfl (lv_at hl 0 rfl) ?_
      refine lv_iconst (v := 5) hx hb dX7_move_23 (by decide) ?_
      refine zz_iV (As := [.int 5]) (wc := [cw_k6 h0 st mk lk ch ru mr md la]) (wr := [cw_i g kd 60 kdf, cw_i g dp 60 dpf, cw_i g cl 60 clf, cw_i g sa 60 saf, cw_i g ln 60 lnf, cw_l g bt 4000 btf, cw_z g pn 4000 pnf, cw_k5 st (nI na) (nI nu) kd dp cl sa ln bt pn bf]) (rest := []) hC hZ hs hl zc_X7_65 (co_fail g h0 st mk lk ch ru mr md la 5) [0] [1, 2, 3, 4, 5, 6, 7, 8] rfl rfl (by decide +kernel) (ci := 6) (q0 := 0) rfl rfl rfl rfl (Nat.le_of_ble_eq_true rfl) ⟨⟨Nat.le_of_ble_eq_true rfl, Nat.le_of_ble_eq_true rfl⟩, Nat.le_of_ble_eq_true rfl, Nat.le_of_ble_eq_true rfl⟩ dX7_move_24 (fun r59 u60 H locs hp hZ => ?_)
      obtain ⟨rfl, rfl⟩ := hp
      have hZ : zz_Z g A s.heap [cw_i g kd 60 kdf, cw_i g dp 60 dpf, cw_i g cl 60 clf, cw_i g sa 60 saf, cw_i g ln 60 lnf, cw_l g bt 4000 btf, cw_z g pn 4000 pnf, cw_k5 st (nI na) (nI nu) kd dp cl sa ln bt pn bf, cw_k6 h0 st mk lk ch ru mr md 5] H locs := hZ
      have hZ : zz_Z g A s.heap [cw_k6 h0 st mk lk ch ru mr md 5, cw_k5 st (nI na) (nI nu) kd dp cl sa ln bt pn bf, cw_i g kd 60 kdf, cw_i g dp 60 dpf, cw_i g cl 60 clf, cw_i g sa 60 saf, cw_i g ln 60 lnf, cw_l g bt 4000 btf, cw_z g pn 4000 pnf] H locs := hZ.sub [8, 7, 0, 1, 2, 3, 4, 5, 6] (by decide +kernel) rfl
      exact zz_iret hC hZ (⟨5, btf, by refine Eq.symm ?_; rw [fo_cx_move]; refine (if_neg (by (try simp only [d_a1, d_sz1, d_lz1, d_dz1]); exact c3)).trans ?_; refine (if_pos (by (try simp only [d_a1, d_sz1, d_lz1, d_dz1]); exact c12)).trans ?_; first | (simp only [d_a1, d_sz1, d_lz1, d_dz1]; done) | rfl, rfl⟩) (Nat.le_of_ble_eq_true rfl) (Nat.le_of_ble_eq_true rfl) dX7_move_27
theorem dg_X7_sort_0 : (decode cX7_sort 0 = .ok (.aload_n 0, 1)) ∧ (decode cX7_sort 1 = .ok (.getfield 10, 3)) ∧ (decode cX7_sort 4 = .ok (.iload_n 1, 1)) ∧ (decode cX7_sort 5 = .ok (.invokevirtual 73, 3)) ∧ (decode cX7_sort 8 = .ok (.ifCond .ne 9, 3)) ∧ (decode cX7_sort 11 = .ok (.aload_n 0, 1)) ∧ (decode cX7_sort 12 = .ok (.iconst 5, 1)) ∧ (decode cX7_sort 13 = .ok (.invokevirtual 65, 3)) ∧ (decode cX7_sort 16 = .ok (.ireturn, 1)) ∧ (decode cX7_sort 17 = .ok (.aload_n 0, 1)) ∧ (decode cX7_sort 18 = .ok (.getfield 10, 3)) ∧ (decode cX7_sort 21 = .ok (.getfield 76, 3)) ∧ (decode cX7_sort 24 = .ok (.iload_n 1, 1)) ∧ (decode cX7_sort 25 = .ok (.iaload, 1)) ∧ (decode cX7_sort 26 = .ok (.iconst 1, 1)) ∧ (decode cX7_sort 27 = .ok (.if_icmp .eq 9, 3)) := by decide +kernel
theorem dX7_sort_0 : decode cX7_sort 0 = .ok (.aload_n 0, 1) := dg_X7_sort_0.1
theorem dX7_sort_1 : decode cX7_sort 1 = .ok (.getfield 10, 3) := dg_X7_sort_0.2.1
theorem dX7_sort_4 : decode cX7_sort 4 = .ok (.iload_n 1, 1) := dg_X7_sort_0.2.2.1
theorem dX7_sort_5 : decode cX7_sort 5 = .ok (.invokevirtual 73, 3) := dg_X7_sort_0.2.2.2.1
theorem dX7_sort_8 : decode cX7_sort 8 = .ok (.ifCond .ne 9, 3) := dg_X7_sort_0.2.2.2.2.1
theorem dX7_sort_11 : decode cX7_sort 11 = .ok (.aload_n 0, 1) := dg_X7_sort_0.2.2.2.2.2.1
theorem dX7_sort_12 : decode cX7_sort 12 = .ok (.iconst 5, 1) := dg_X7_sort_0.2.2.2.2.2.2.1
theorem dX7_sort_13 : decode cX7_sort 13 = .ok (.invokevirtual 65, 3) := dg_X7_sort_0.2.2.2.2.2.2.2.1
theorem dX7_sort_16 : decode cX7_sort 16 = .ok (.ireturn, 1) := dg_X7_sort_0.2.2.2.2.2.2.2.2.1
theorem dX7_sort_17 : decode cX7_sort 17 = .ok (.aload_n 0, 1) := dg_X7_sort_0.2.2.2.2.2.2.2.2.2.1
theorem dX7_sort_18 : decode cX7_sort 18 = .ok (.getfield 10, 3) := dg_X7_sort_0.2.2.2.2.2.2.2.2.2.2.1
theorem dX7_sort_21 : decode cX7_sort 21 = .ok (.getfield 76, 3) := dg_X7_sort_0.2.2.2.2.2.2.2.2.2.2.2.1
theorem dX7_sort_24 : decode cX7_sort 24 = .ok (.iload_n 1, 1) := dg_X7_sort_0.2.2.2.2.2.2.2.2.2.2.2.2.1
theorem dX7_sort_25 : decode cX7_sort 25 = .ok (.iaload, 1) := dg_X7_sort_0.2.2.2.2.2.2.2.2.2.2.2.2.2.1
theorem dX7_sort_26 : decode cX7_sort 26 = .ok (.iconst 1, 1) := dg_X7_sort_0.2.2.2.2.2.2.2.2.2.2.2.2.2.2.1
theorem dX7_sort_27 : decode cX7_sort 27 = .ok (.if_icmp .eq 9, 3) := dg_X7_sort_0.2.2.2.2.2.2.2.2.2.2.2.2.2.2.2
theorem dg_X7_sort_30 : (decode cX7_sort 30 = .ok (.aload_n 0, 1)) ∧ (decode cX7_sort 31 = .ok (.iconst 1, 1)) ∧ (decode cX7_sort 32 = .ok (.invokevirtual 65, 3)) ∧ (decode cX7_sort 35 = .ok (.ireturn, 1)) ∧ (decode cX7_sort 36 = .ok (.aload_n 0, 1)) ∧ (decode cX7_sort 37 = .ok (.getfield 10, 3)) ∧ (decode cX7_sort 40 = .ok (.iload_n 1, 1)) ∧ (decode cX7_sort 41 = .ok (.iload_n 2, 1)) ∧ (decode cX7_sort 42 = .ok (.iload_n 3, 1)) ∧ (decode cX7_sort 43 = .ok (.invokevirtual 166, 3)) ∧ (decode cX7_sort 46 = .ok (.ifCond .ne 9, 3)) ∧ (decode cX7_sort 49 = .ok (.aload_n 0, 1)) ∧ (decode cX7_sort 50 = .ok (.iconst 2, 1)) ∧ (decode cX7_sort 51 = .ok (.invokevirtual 65, 3)) ∧ (decode cX7_sort 54 = .ok (.ireturn, 1)) ∧ (decode cX7_sort 55 = .ok (.aload_n 0, 1)) := by decide +kernel
theorem dX7_sort_30 : decode cX7_sort 30 = .ok (.aload_n 0, 1) := dg_X7_sort_30.1
theorem dX7_sort_31 : decode cX7_sort 31 = .ok (.iconst 1, 1) := dg_X7_sort_30.2.1
theorem dX7_sort_32 : decode cX7_sort 32 = .ok (.invokevirtual 65, 3) := dg_X7_sort_30.2.2.1
theorem dX7_sort_35 : decode cX7_sort 35 = .ok (.ireturn, 1) := dg_X7_sort_30.2.2.2.1
theorem dX7_sort_36 : decode cX7_sort 36 = .ok (.aload_n 0, 1) := dg_X7_sort_30.2.2.2.2.1
theorem dX7_sort_37 : decode cX7_sort 37 = .ok (.getfield 10, 3) := dg_X7_sort_30.2.2.2.2.2.1
theorem dX7_sort_40 : decode cX7_sort 40 = .ok (.iload_n 1, 1) := dg_X7_sort_30.2.2.2.2.2.2.1
theorem dX7_sort_41 : decode cX7_sort 41 = .ok (.iload_n 2, 1) := dg_X7_sort_30.2.2.2.2.2.2.2.1
theorem dX7_sort_42 : decode cX7_sort 42 = .ok (.iload_n 3, 1) := dg_X7_sort_30.2.2.2.2.2.2.2.2.1
theorem dX7_sort_43 : decode cX7_sort 43 = .ok (.invokevirtual 166, 3) := dg_X7_sort_30.2.2.2.2.2.2.2.2.2.1
theorem dX7_sort_46 : decode cX7_sort 46 = .ok (.ifCond .ne 9, 3) := dg_X7_sort_30.2.2.2.2.2.2.2.2.2.2.1
theorem dX7_sort_49 : decode cX7_sort 49 = .ok (.aload_n 0, 1) := dg_X7_sort_30.2.2.2.2.2.2.2.2.2.2.2.1
theorem dX7_sort_50 : decode cX7_sort 50 = .ok (.iconst 2, 1) := dg_X7_sort_30.2.2.2.2.2.2.2.2.2.2.2.2.1
theorem dX7_sort_51 : decode cX7_sort 51 = .ok (.invokevirtual 65, 3) := dg_X7_sort_30.2.2.2.2.2.2.2.2.2.2.2.2.2.1
theorem dX7_sort_54 : decode cX7_sort 54 = .ok (.ireturn, 1) := dg_X7_sort_30.2.2.2.2.2.2.2.2.2.2.2.2.2.2.1
theorem dX7_sort_55 : decode cX7_sort 55 = .ok (.aload_n 0, 1) := dg_X7_sort_30.2.2.2.2.2.2.2.2.2.2.2.2.2.2.2
theorem dg_X7_sort_56 : (decode cX7_sort 56 = .ok (.getfield 10, 3)) ∧ (decode cX7_sort 59 = .ok (.iload_n 1, 1)) ∧ (decode cX7_sort 60 = .ok (.iload_n 2, 1)) ∧ (decode cX7_sort 61 = .ok (.iload_n 3, 1)) ∧ (decode cX7_sort 62 = .ok (.invokevirtual 109, 3)) ∧ (decode cX7_sort 65 = .ok (.ifCond .le 10, 3)) ∧ (decode cX7_sort 68 = .ok (.aload_n 0, 1)) ∧ (decode cX7_sort 69 = .ok (.bipush 6, 2)) ∧ (decode cX7_sort 71 = .ok (.invokevirtual 65, 3)) ∧ (decode cX7_sort 74 = .ok (.ireturn, 1)) ∧ (decode cX7_sort 75 = .ok (.aload_n 0, 1)) ∧ (decode cX7_sort 76 = .ok (.aload_n 0, 1)) ∧ (decode cX7_sort 77 = .ok (.getfield 10, 3)) ∧ (decode cX7_sort 80 = .ok (.iload_n 1, 1)) ∧ (decode cX7_sort 81 = .ok (.iload_n 2, 1)) ∧ (decode cX7_sort 82 = .ok (.iload_n 3, 1)) := by decide +kernel
theorem dX7_sort_56 : decode cX7_sort 56 = .ok (.getfield 10, 3) := dg_X7_sort_56.1
theorem dX7_sort_59 : decode cX7_sort 59 = .ok (.iload_n 1, 1) := dg_X7_sort_56.2.1
theorem dX7_sort_60 : decode cX7_sort 60 = .ok (.iload_n 2, 1) := dg_X7_sort_56.2.2.1
theorem dX7_sort_61 : decode cX7_sort 61 = .ok (.iload_n 3, 1) := dg_X7_sort_56.2.2.2.1
theorem dX7_sort_62 : decode cX7_sort 62 = .ok (.invokevirtual 109, 3) := dg_X7_sort_56.2.2.2.2.1
theorem dX7_sort_65 : decode cX7_sort 65 = .ok (.ifCond .le 10, 3) := dg_X7_sort_56.2.2.2.2.2.1
theorem dX7_sort_68 : decode cX7_sort 68 = .ok (.aload_n 0, 1) := dg_X7_sort_56.2.2.2.2.2.2.1
theorem dX7_sort_69 : decode cX7_sort 69 = .ok (.bipush 6, 2) := dg_X7_sort_56.2.2.2.2.2.2.2.1
theorem dX7_sort_71 : decode cX7_sort 71 = .ok (.invokevirtual 65, 3) := dg_X7_sort_56.2.2.2.2.2.2.2.2.1
theorem dX7_sort_74 : decode cX7_sort 74 = .ok (.ireturn, 1) := dg_X7_sort_56.2.2.2.2.2.2.2.2.2.1
theorem dX7_sort_75 : decode cX7_sort 75 = .ok (.aload_n 0, 1) := dg_X7_sort_56.2.2.2.2.2.2.2.2.2.2.1
theorem dX7_sort_76 : decode cX7_sort 76 = .ok (.aload_n 0, 1) := dg_X7_sort_56.2.2.2.2.2.2.2.2.2.2.2.1
theorem dX7_sort_77 : decode cX7_sort 77 = .ok (.getfield 10, 3) := dg_X7_sort_56.2.2.2.2.2.2.2.2.2.2.2.2.1
theorem dX7_sort_80 : decode cX7_sort 80 = .ok (.iload_n 1, 1) := dg_X7_sort_56.2.2.2.2.2.2.2.2.2.2.2.2.2.1
theorem dX7_sort_81 : decode cX7_sort 81 = .ok (.iload_n 2, 1) := dg_X7_sort_56.2.2.2.2.2.2.2.2.2.2.2.2.2.2.1
theorem dX7_sort_82 : decode cX7_sort 82 = .ok (.iload_n 3, 1) := dg_X7_sort_56.2.2.2.2.2.2.2.2.2.2.2.2.2.2.2
theorem dg_X7_sort_83 : (decode cX7_sort 83 = .ok (.invokevirtual 196, 3)) ∧ (decode cX7_sort 86 = .ok (.invokevirtual 100, 3)) ∧ (decode cX7_sort 89 = .ok (.ireturn, 1)) := by decide +kernel
theorem dX7_sort_83 : decode cX7_sort 83 = .ok (.invokevirtual 196, 3) := dg_X7_sort_83.1
theorem dX7_sort_86 : decode cX7_sort 86 = .ok (.invokevirtual 100, 3) := dg_X7_sort_83.2.1
theorem dX7_sort_89 : decode cX7_sort 89 = .ok (.ireturn, 1) := dg_X7_sort_83.2.2
theorem zk_473 : Cond.methodLink RX7 196 yX6_putInOrder ∈ zz_w := zz_in (List.mem_append_right _ (List.mem_append_right _ (List.mem_append_left _ (List.mem_of_getElem? (i := 233) (by decide +kernel))))) rfl
set_option maxRecDepth 20000 in
theorem zk_476 : Cond.code yX6_putInOrder cX6_putInOrder 8 (some .int) ∈ zz_w := zz_in (List.mem_append_right _ (List.mem_append_right _ (List.mem_append_left _ (List.mem_of_getElem? (i := 236) (rfl))))) rfl
theorem zk_474 : Cond.instanceMethod yX6_putInOrder ∈ zz_w := zz_in (List.mem_append_right _ (List.mem_append_right _ (List.mem_append_left _ (List.mem_of_getElem? (i := 234) (by decide +kernel))))) rfl
theorem zk_475 : Cond.selects RX6 yX6_putInOrder yX6_putInOrder ∈ zz_w := zz_in (List.mem_append_right _ (List.mem_append_right _ (List.mem_append_left _ (List.mem_of_getElem? (i := 235) (by decide +kernel))))) rfl
theorem zc_X7_196 : zz_cV RX7 196 yX6_putInOrder cX6_putInOrder 8 (some .int) 3 := ⟨⟨zk_473, zk_476, zk_2, by decide, by decide, by decide +kernel⟩, zk_474, zk_475⟩
def fo_cx_sort (na : Nat) (nu : Nat) (kdf : Nat → Int32) (dpf : Nat → Int32) (saf : Nat → Int32) (lnf : Nat → Int32) (btf : Nat → Int64) (pnf : Nat → Int32) (bff : Nat → Int64) (x1 : Int32) (x2 : Int32) (x3 : Int32) : (Int32) × (Nat → Int64) := (if (fn_co_has (nI na) x1) = 0 then (-5, btf) else (if (nI ((dpf x1.toNatClampNeg).toNatClampNeg)) = 1 then (if (fn_co_hasRange lnf x1.toNatClampNeg x2 x3) = 0 then (-2, btf) else (if (nI (zz_cp pnf (((saf x1.toNatClampNeg).toNatClampNeg) + x2.toNatClampNeg) (x3.toNatClampNeg - x2.toNatClampNeg))) ≤ 0 then ((sp_cd (sp_is (fn_co_rank (kdf x1.toNatClampNeg)) (((saf x1.toNatClampNeg).toNatClampNeg) + x2.toNatClampNeg) (x3.toNatClampNeg - x2.toNatClampNeg - 1) (((saf x1.toNatClampNeg).toNatClampNeg) + x2.toNatClampNeg + 1) btf) (zz_sft btf (((saf x1.toNatClampNeg).toNatClampNeg) + x2.toNatClampNeg)) (((saf x1.toNatClampNeg).toNatClampNeg) + x2.toNatClampNeg) (x3.toNatClampNeg - x2.toNatClampNeg) 0 0), (sp_is (fn_co_rank (kdf x1.toNatClampNeg)) (((saf x1.toNatClampNeg).toNatClampNeg) + x2.toNatClampNeg) (x3.toNatClampNeg - x2.toNatClampNeg - 1) (((saf x1.toNatClampNeg).toNatClampNeg) + x2.toNatClampNeg + 1) btf)) else (-6, btf))) else (-1, btf)))
abbrev rm_cx_sort : Room := { frames := 3, cells := 0, slots := 0, locals := 117 }
abbrev po_cx_sort (g : zz_G) (h0 : Nat) (st : Nat) (mk : Nat) (lk : Nat) (ch : Nat) (ru : Nat) (mr : Nat) (kd : Nat) (dp : Nat) (cl : Nat) (sa : Nat) (ln : Nat) (bt : Nat) (pn : Nat) (bf : Nat) (md : Int32) (la : Int32) (na : Nat) (nu : Nat) (kdf : Nat → Int32) (dpf : Nat → Int32) (saf : Nat → Int32) (lnf : Nat → Int32) (btf : Nat → Int64) (pnf : Nat → Int32) (bff : Nat → Int64) (x1 : Int32) (x2 : Int32) (x3 : Int32) (h_S : zz_SI na nu dpf saf lnf) : Int32 → va_W → Prop := fun (r : Int32) (u : va_W) => ∃ (la2 : Int32) (bt2 : Nat → Int64) (bf2 : Nat → Int64), (r, bt2) = fo_cx_sort na nu kdf dpf saf lnf btf pnf bff x1 x2 x3 ∧ (zz_D1 na dpf saf lnf btf bt2) ∧ u = [cw_k6 h0 st mk lk ch ru mr md la2, cw_k5 st (nI na) (nI nu) kd dp cl sa ln bt pn bf, cw_i g kd 60 kdf, cw_i g dp 60 dpf, cw_i g sa 60 saf, cw_i g ln 60 lnf, cw_l g bt 4000 bt2, cw_z g pn 4000 pnf, cw_l g bf 200 bf2]
set_option maxHeartbeats 4000000 in
set_option maxRecDepth 100000 in
theorem cx_sort (g : zz_G) (h0 : Nat) (st : Nat) (mk : Nat) (lk : Nat) (ch : Nat) (ru : Nat) (mr : Nat) (kd : Nat) (dp : Nat) (cl : Nat) (sa : Nat) (ln : Nat) (bt : Nat) (pn : Nat) (bf : Nat) (md : Int32) (la : Int32) (na : Nat) (nu : Nat) (kdf : Nat → Int32) (dpf : Nat → Int32) (saf : Nat → Int32) (lnf : Nat → Int32) (btf : Nat → Int64) (pnf : Nat → Int32) (bff : Nat → Int64) (x1 : Int32) (x2 : Int32) (x3 : Int32) (h_S : zz_SI na nu dpf saf lnf) : zz_I g yX7_sort (.code yX7_sort cX7_sort 4 (some .int)) rm_cx_sort [.ref h0, .int x1, .int x2, .int x3] [cw_k6 h0 st mk lk ch ru mr md la, cw_k5 st (nI na) (nI nu) kd dp cl sa ln bt pn bf, cw_i g kd 60 kdf, cw_i g dp 60 dpf, cw_i g sa 60 saf, cw_i g ln 60 lnf, cw_l g bt 4000 btf, cw_z g pn 4000 pnf, cw_l g bf 200 bff] (po_cx_sort g h0 st mk lk ch ru mr kd dp cl sa ln bt pn bf md la na nu kdf dpf saf lnf btf pnf bff x1 x2 x3 h_S) := by
  refine zz_I.intro (own := RX7) (cc := cX7_sort) (nL := 4) (by decide) rfl (Nat.le_of_ble_eq_true rfl) ?_
  intro p l e s m args below meth c A H locs ls hC hnm hs hZ hl
  obtain ⟨hx, hb, hml, hown, hts, hr, hlocks, hK⟩ := id hC
  have hl : lv_has ls 4 [(0, .ref h0), (1, .int x1), (2, .int x2), (3, .int x3)] := hl
  have hZ : zz_Z g A s.heap [cw_k6 h0 st mk lk ch ru mr md la, cw_k5 st (nI na) (nI nu) kd dp cl sa ln bt pn bf, cw_i g kd 60 kdf, cw_i g dp 60 dpf, cw_i g sa 60 saf, cw_i g ln 60 lnf, cw_l g bt 4000 btf, cw_z g pn 4000 pnf, cw_l g bf 200 bff] H locs := hZ
  have hna := h_S.1
  have hnu := h_S.2.1
  refine lv_aload_n hx hb dX7_sort_0 rfl (lv_at hl 0 rfl) ?_
  refine zz_get hC hZ 0 rfl zf_X7_10 rfl dX7_sort_1 ?_
  refine lv_iload_n hx hb dX7_sort_4 rfl (lv_at hl 1 rfl) ?_
  refine zz_iV (As := [.int x1]) (wc := [cw_k5 st (nI na) (nI nu) kd dp cl sa ln bt pn bf]) (wr := [cw_k6 h0 st mk lk ch ru mr md la, cw_i g kd 60 kdf, cw_i g dp 60 dpf, cw_i g sa 60 saf, cw_i g ln 60 lnf, cw_l g bt 4000 btf, cw_z g pn 4000 pnf, cw_l g bf 200 bff]) (rest := []) hC hZ hs hl zc_X7_73 (co_has g st kd dp cl sa ln bt pn bf (nI na) (nI nu) x1) [1] [0, 2, 3, 4, 5, 6, 7, 8] rfl rfl (by decide +kernel) (ci := 5) (q0 := 0) rfl rfl rfl rfl (Nat.le_of_ble_eq_true rfl) ⟨⟨Nat.le_of_ble_eq_true rfl, Nat.le_of_ble_eq_true rfl⟩, Nat.le_of_ble_eq_true rfl, Nat.le_of_ble_eq_true rfl⟩ dX7_sort_5 (fun r1 u2 H locs hp hZ => ?_)
  obtain ⟨rfl, rfl⟩ := hp
  have hZ : zz_Z g A s.heap [cw_k6 h0 st mk lk ch ru mr md la, cw_i g kd 60 kdf, cw_i g dp 60 dpf, cw_i g sa 60 saf, cw_i g ln 60 lnf, cw_l g bt 4000 btf, cw_z g pn 4000 pnf, cw_l g bf 200 bff, cw_k5 st (nI na) (nI nu) kd dp cl sa ln bt pn bf] H locs := hZ
  refine lv_if_ne (tgt := 17) hx hb dX7_sort_8 (by decide) (fun c3 => ?_) (fun c3 => ?_)
  · obtain ⟨a1, ha1, ea1⟩ := zl_has (by omega) c3
    have hl : lv_has ls 4 [(0, .ref h0), (1, .int (nI a1)), (2, .int x2), (3, .int x3)] := by rw [← ea1]; exact hl
    have bd4 : a1 < 2 ^ 31 := by omega
    have d_a1 : x1.toNatClampNeg = a1 := by rw [ea1]; exact nI_clamp bd4
    obtain ⟨sz1, lz1, dz1, es1, el1, ed1, g11, g21, g31, g41⟩ := h_S.2.2 a1 ha1
    have bd5 : sz1 < 2 ^ 31 := by omega
    have d_sz1 : (saf a1).toNatClampNeg = sz1 := by rw [es1]; exact nI_clamp bd5
    have bd6 : lz1 < 2 ^ 31 := by omega
    have d_lz1 : (lnf a1).toNatClampNeg = lz1 := by rw [el1]; exact nI_clamp bd6
    have bd7 : dz1 < 2 ^ 31 := by omega
    have d_dz1 : (dpf a1).toNatClampNeg = dz1 := by rw [ed1]; exact nI_clamp bd7
    refine lv_aload_n hx hb dX7_sort_17 rfl (lv_at hl 0 rfl) ?_
    refine zz_get hC hZ 0 rfl zf_X7_10 rfl dX7_sort_18 ?_
    refine zz_get hC hZ 8 rfl zf_X7_76 rfl dX7_sort_21 ?_
    refine lv_iload_n hx hb dX7_sort_24 rfl (lv_at hl 1 rfl) ?_
    have bd8 : a1 < 60 := by omega
    refine zz_ialdn hC hZ 2 rfl bd8 (by decide) dX7_sort_25 ?_
    refine zz_topi (v := nI dz1) (ed1) ?_
    refine lv_iconst (v := 1) hx hb dX7_sort_26 (by decide) ?_
    refine lv_icmp_eq (tgt := 36) hx hb dX7_sort_27 (by decide) (fun c9 => ?_) (fun c9 => ?_)
    · have nc9 : dz1 = 1 := (nI_eq bd7 (by decide)).mp (show nI (dz1) = nI (1) from c9)
      refine lv_aload_n hx hb dX7_sort_36 rfl (lv_at hl 0 rfl) ?_
      refine zz_get hC hZ 0 rfl zf_X7_10 rfl dX7_sort_37 ?_
      refine lv_iload_n hx hb dX7_sort_40 rfl (lv_at hl 1 rfl) ?_
      refine lv_iload_n hx hb dX7_sort_41 rfl (lv_at hl 2 rfl) ?_
      refine lv_iload_n hx hb dX7_sort_42 rfl (lv_at hl 3 rfl) ?_
      refine zz_iV (As := [.int (nI a1), .int x2, .int x3]) (wc := [cw_k5 st (nI na) (nI nu) kd dp cl sa ln bt pn bf, cw_i g ln 60 lnf]) (wr := [cw_k6 h0 st mk lk ch ru mr md la, cw_i g kd 60 kdf, cw_i g dp 60 dpf, cw_i g sa 60 saf, cw_l g bt 4000 btf, cw_z g pn 4000 pnf, cw_l g bf 200 bff]) (rest := []) hC hZ hs hl zc_X7_166 (co_hasRange g st kd dp cl sa ln bt pn bf na nu lnf a1 x2 x3 (by omega)) [8, 4] [0, 1, 2, 3, 5, 6, 7] rfl rfl (by decide +kernel) (ci := 5) (q0 := 0) rfl rfl rfl rfl (Nat.le_of_ble_eq_true rfl) ⟨⟨Nat.le_of_ble_eq_true rfl, Nat.le_of_ble_eq_true rfl⟩, Nat.le_of_ble_eq_true rfl, Nat.le_of_ble_eq_true rfl⟩ dX7_sort_43 (fun r10 u11 H locs hp hZ => ?_)
      obtain ⟨rfl, rfl⟩ := hp
      have hZ : zz_Z g A s.heap [cw_k6 h0 st mk lk ch ru mr md la, cw_i g kd 60 kdf, cw_i g dp 60 dpf, cw_i g sa 60 saf, cw_l g bt 4000 btf, cw_z g pn 4000 pnf, cw_l g bf 200 bff, cw_k5 st (nI na) (nI nu) kd dp cl sa ln bt pn bf, cw_i g ln 60 lnf] H locs := hZ
      refine lv_if_ne (tgt := 55) hx hb dX7_sort_46 (by decide) (fun c12 => ?_) (fun c12 => ?_)
      · obtain ⟨f, t, ef, et, hft, htl⟩ := zl_range el1 g11 c12
        have hl : lv_has ls 4 [(0, .ref h0), (1, .int (nI a1)), (2, .int (nI f)), (3, .int x3)] := by rw [← ef]; exact hl
        have hl : lv_has ls 4 [(0, .ref h0), (1, .int (nI a1)), (2, .int (nI f)), (3, .int (nI t))] := by rw [← et]; exact hl
        have bd13 : f < 2 ^ 31 := by omega
        have d_f : x2.toNatClampNeg = f := by rw [ef]; exact nI_clamp bd13
        have bd14 : t < 2 ^ 31 := by omega
        have d_t : x3.toNatClampNeg = t := by rw [et]; exact nI_clamp bd14
        refine lv_aload_n hx hb dX7_sort_55 rfl (lv_at hl 0 rfl) ?_
        refine zz_get hC hZ 0 rfl zf_X7_10 rfl dX7_sort_56 ?_
        refine lv_iload_n hx hb dX7_sort_59 rfl (lv_at hl 1 rfl) ?_
        refine lv_iload_n hx hb dX7_sort_60 rfl (lv_at hl 2 rfl) ?_
        refine lv_iload_n hx hb dX7_sort_61 rfl (lv_at hl 3 rfl) ?_
        refine zz_iV (As := [.int (nI a1), .int (nI f), .int (nI t)]) (wc := [cw_k5 st (nI na) (nI nu) kd dp cl sa ln bt pn bf, cw_i g sa 60 saf, cw_z g pn 4000 pnf]) (wr := [cw_k6 h0 st mk lk ch ru mr md la, cw_i g kd 60 kdf, cw_i g dp 60 dpf, cw_l g bt 4000 btf, cw_l g bf 200 bff, cw_i g ln 60 lnf]) (rest := []) hC hZ hs hl zc_X7_109 (co_pinnedIn g st kd dp cl sa ln bt pn bf na nu saf pnf a1 sz1 lz1 f t (by omega) (es1) (by omega) (by omega)) [7, 3, 5] [0, 1, 2, 4, 6, 8] rfl rfl (by decide +kernel) (ci := 5) (q0 := 0) rfl rfl rfl rfl (Nat.le_of_ble_eq_true rfl) ⟨⟨Nat.le_of_ble_eq_true rfl, Nat.le_of_ble_eq_true rfl⟩, Nat.le_of_ble_eq_true rfl, Nat.le_of_ble_eq_true rfl⟩ dX7_sort_62 (fun r15 u16 H locs hp hZ => ?_)
        obtain ⟨rfl, f17, rfl⟩ := hp
        have hZ : zz_Z g A s.heap [cw_k6 h0 st mk lk ch ru mr md la, cw_i g kd 60 kdf, cw_i g dp 60 dpf, cw_l g bt 4000 btf, cw_l g bf 200 bff, cw_i g ln 60 lnf, cw_k5 st (nI na) (nI nu) kd dp cl sa ln bt pn bf, cw_i g sa 60 saf, cw_z g pn 4000 pnf] H locs := hZ
        have bd19 : (zz_cp pnf (sz1 + f) (t - f)) < 2 ^ 31 := by omega
        refine lv_if_le (tgt := 75) hx hb dX7_sort_65 (by decide) (fun c18 => ?_) (fun c18 => ?_)
        · have nc18 : (zz_cp pnf (sz1 + f) (t - f)) ≤ 0 := (nI_leI bd19 (by decide)).mp (show nI ((zz_cp pnf (sz1 + f) (t - f))) ≤ nI (0) from c18)
          refine lv_aload_n hx hb dX7_sort_75 rfl (lv_at hl 0 rfl) ?_
          refine lv_aload_n hx hb dX7_sort_76 rfl (lv_at hl 0 rfl) ?_
          refine zz_get hC hZ 0 rfl zf_X7_10 rfl dX7_sort_77 ?_
          refine lv_iload_n hx hb dX7_sort_80 rfl (lv_at hl 1 rfl) ?_
          refine lv_iload_n hx hb dX7_sort_81 rfl (lv_at hl 2 rfl) ?_
          refine lv_iload_n hx hb dX7_sort_82 rfl (lv_at hl 3 rfl) ?_
          refine zz_iV (As := [.int (nI a1), .int (nI f), .int (nI t)]) (wc := [cw_k5 st (nI na) (nI nu) kd dp cl sa ln bt pn bf, cw_i g kd 60 kdf, cw_i g sa 60 saf, cw_l g bt 4000 btf, cw_l g bf 200 bff]) (wr := [cw_k6 h0 st mk lk ch ru mr md la, cw_i g dp 60 dpf, cw_i g ln 60 lnf, cw_z g pn 4000 pnf]) (rest := [.ref h0]) hC hZ hs hl zc_X7_196 (co_putInOrder g st kd dp cl sa ln bt pn bf na nu kdf saf btf bff a1 sz1 lz1 f t (by omega) (es1) (by omega) (by omega)) [6, 1, 7, 3, 4] [0, 2, 5, 8] rfl rfl (by decide +kernel) (ci := 5) (q0 := 0) rfl rfl rfl rfl (Nat.le_of_ble_eq_true rfl) ⟨⟨Nat.le_of_ble_eq_true rfl, Nat.le_of_ble_eq_true rfl⟩, Nat.le_of_ble_eq_true rfl, Nat.le_of_ble_eq_true rfl⟩ dX7_sort_83 (fun r20 u21 H locs hp hZ => ?_)
          obtain ⟨bt2_22, bf2_23, f24, f25, f26, rfl⟩ := hp
          have hZ : zz_Z g A s.heap [cw_k6 h0 st mk lk ch ru mr md la, cw_i g dp 60 dpf, cw_i g ln 60 lnf, cw_z g pn 4000 pnf, cw_k5 st (nI na) (nI nu) kd dp cl sa ln bt pn bf, cw_i g kd 60 kdf, cw_i g sa 60 saf, cw_l g bt 4000 bt2_22, cw_l g bf 200 bf2_23] H locs := hZ
          have d_bt2_22 : sp_is (fn_co_rank (kdf a1)) (sz1 + f) (t - f - 1) (sz1 + f + 1) btf = bt2_22 := f25.symm
          have d_r20 : sp_cd bt2_22 (zz_sft btf (sz1 + f)) (sz1 + f) (t - f) 0 0 = r20 := f26.symm
          refine zz_iV (As := [.int r20]) (wc := [cw_k6 h0 st mk lk ch ru mr md la]) (wr := [cw_i g dp 60 dpf, cw_i g ln 60 lnf, cw_z g pn 4000 pnf, cw_k5 st (nI na) (nI nu) kd dp cl sa ln bt pn bf, cw_i g kd 60 kdf, cw_i g sa 60 saf, cw_l g bt 4000 bt2_22, cw_l g bf 200 bf2_23]) (rest := []) hC hZ hs hl zc_X7_100 (co_fine g h0 st mk lk ch ru mr md la r20) [0] [1, 2, 3, 4, 5, 6, 7, 8] rfl rfl (by decide +kernel) (ci := 6) (q0 := 0) rfl rfl rfl rfl (Nat.le_of_ble_eq_true rfl) ⟨⟨Nat.le_of_ble_eq_true rfl, Nat.le_of_ble_eq_true rfl⟩, Nat.le_of_ble_eq_true rfl, Nat.le_of_ble_eq_true rfl⟩ dX7_sort_86 (fun r27 u28 H locs hp hZ => ?_)
          obtain ⟨rfl, rfl⟩ := hp
          have hZ : zz_Z g A s.heap [cw_i g dp 60 dpf, cw_i g ln 60 lnf, cw_z g pn 4000 pnf, cw_k5 st (nI na) (nI nu) kd dp cl sa ln bt pn bf, cw_i g kd 60 kdf, cw_i g sa 60 saf, cw_l g bt 4000 bt2_22, cw_l g bf 200 bf2_23, cw_k6 h0 st mk lk ch ru mr md 0] H locs := hZ
          have hZ : zz_Z g A s.heap [cw_k6 h0 st mk lk ch ru mr md 0, cw_k5 st (nI na) (nI nu) kd dp cl sa ln bt pn bf, cw_i g kd 60 kdf, cw_i g dp 60 dpf, cw_i g sa 60 saf, cw_i g ln 60 lnf, cw_l g bt 4000 bt2_22, cw_z g pn 4000 pnf, cw_l g bf 200 bf2_23] H locs := hZ.sub [8, 3, 4, 0, 5, 1, 6, 2, 7] (by decide +kernel) rfl
          exact zz_iret hC hZ (⟨0, bt2_22, bf2_23, by refine Eq.symm ?_; rw [fo_cx_sort]; refine (if_neg (by (try simp only [d_a1, d_sz1, d_lz1, d_dz1, d_f, d_t, d_bt2_22, d_r20]); exact c3)).trans ?_; refine (if_pos (by (try simp only [d_a1, d_sz1, d_lz1, d_dz1, d_f, d_t, d_bt2_22, d_r20]); exact c9)).trans ?_; refine (if_neg (by (try simp only [d_a1, d_sz1, d_lz1, d_dz1, d_f, d_t, d_bt2_22, d_r20]); exact c12)).trans ?_; refine (if_pos (by (try simp only [d_a1, d_sz1, d_lz1, d_dz1, d_f, d_t, d_bt2_22, d_r20]); exact c18)).trans ?_; first | (simp only [d_a1, d_sz1, d_lz1, d_dz1, d_f, d_t, d_bt2_22, d_r20]; done) | rfl, zz_D1.of ha1 (by rw [ed1, show dz1 = 1 by omega]) es1 el1 (by omega) (by omega) (fun j hj => f24 j (by omega)), rfl⟩) (Nat.le_of_ble_eq_true rfl) (Nat.le_of_ble_eq_true rfl) dX7_sort_89
        · have nc18 : ¬ (zz_cp pnf (sz1 + f) (t - f)) ≤ 0 := fun zq => c18 (show nI ((zz_cp pnf (sz1 + f) (t - f))) ≤ nI (0) from (nI_leI bd19 (by decide)).mpr zq)
          refine lv_aload_n hx hb dX7_sort_68 rfl (lv_at hl 0 rfl) ?_
          refine lv_bipush (v := 6) hx hb dX7_sort_69 (by decide) ?_
          refine zz_iV (As := [.int 6]) (wc := [cw_k6 h0 st mk lk ch ru mr md la]) (wr := [cw_i g kd 60 kdf, cw_i g dp 60 dpf, cw_l g bt 4000 btf, cw_l g bf 200 bff, cw_i g ln 60 lnf, cw_k5 st (nI na) (nI nu) kd dp cl sa ln bt pn bf, cw_i g sa 60 saf, cw_z g pn 4000 pnf]) (rest := []) hC hZ hs hl zc_X7_65 (co_fail g h0 st mk lk ch ru mr md la 6) [0] [1, 2, 3, 4, 5, 6, 7, 8] rfl rfl (by decide +kernel) (ci := 6) (q0 := 0) rfl rfl rfl rfl (Nat.le_of_ble_eq_true rfl) ⟨⟨Nat.le_of_ble_eq_true rfl, Nat.le_of_ble_eq_true rfl⟩, Nat.le_of_ble_eq_true rfl, Nat.le_of_ble_eq_true rfl⟩ dX7_sort_71 (fun r29 u30 H locs hp hZ => ?_)
          obtain ⟨rfl, rfl⟩ := hp
          have hZ : zz_Z g A s.heap [cw_i g kd 60 kdf, cw_i g dp 60 dpf, cw_l g bt 4000 btf, cw_l g bf 200 bff, cw_i g ln 60 lnf, cw_k5 st (nI na) (nI nu) kd dp cl sa ln bt pn bf, cw_i g sa 60 saf, cw_z g pn 4000 pnf, cw_k6 h0 st mk lk ch ru mr md 6] H locs := hZ
          have hZ : zz_Z g A s.heap [cw_k6 h0 st mk lk ch ru mr md 6, cw_k5 st (nI na) (nI nu) kd dp cl sa ln bt pn bf, cw_i g kd 60 kdf, cw_i g dp 60 dpf, cw_i g sa 60 saf, cw_i g ln 60 lnf, cw_l g bt 4000 btf, cw_z g pn 4000 pnf, cw_l g bf 200 bff] H locs := hZ.sub [8, 5, 0, 1, 6, 4, 2, 7, 3] (by decide +kernel) rfl
          exact zz_iret hC hZ (⟨6, btf, bff, by refine Eq.symm ?_; rw [fo_cx_sort]; refine (if_neg (by (try simp only [d_a1, d_sz1, d_lz1, d_dz1, d_f, d_t]); exact c3)).trans ?_; refine (if_pos (by (try simp only [d_a1, d_sz1, d_lz1, d_dz1, d_f, d_t]); exact c9)).trans ?_; refine (if_neg (by (try simp only [d_a1, d_sz1, d_lz1, d_dz1, d_f, d_t]); exact c12)).trans ?_; refine (if_neg (by (try simp only [d_a1, d_sz1, d_lz1, d_dz1, d_f, d_t]); exact c18)).trans ?_; first | (simp only [d_a1, d_sz1, d_lz1, d_dz1, d_f, d_t]; done) | rfl, zz_D1.rf, rfl⟩) (Nat.le_of_ble_eq_true rfl) (Nat.le_of_ble_eq_true rfl) dX7_sort_74
      · refine lv_aload_n hx hb dX7_sort_49 rfl (lv_at hl 0 rfl) ?_
        refine lv_iconst (v := 2) hx hb dX7_sort_50 (by decide) ?_
        refine zz_iV (As := [.int 2]) (wc := [cw_k6 h0 st mk lk ch ru mr md la]) (wr := [cw_i g kd 60 kdf, cw_i g dp 60 dpf, cw_i g sa 60 saf, cw_l g bt 4000 btf, cw_z g pn 4000 pnf, cw_l g bf 200 bff, cw_k5 st (nI na) (nI nu) kd dp cl sa ln bt pn bf, cw_i g ln 60 lnf]) (rest := []) hC hZ hs hl zc_X7_65 (co_fail g h0 st mk lk ch ru mr md la 2) [0] [1, 2, 3, 4, 5, 6, 7, 8] rfl rfl (by decide +kernel) (ci := 6) (q0 := 0) rfl rfl rfl rfl (Nat.le_of_ble_eq_true rfl) ⟨⟨Nat.le_of_ble_eq_true rfl, Nat.le_of_ble_eq_true rfl⟩, Nat.le_of_ble_eq_true rfl, Nat.le_of_ble_eq_true rfl⟩ dX7_sort_51 (fun r31 u32 H locs hp hZ => ?_)
        obtain ⟨rfl, rfl⟩ := hp
        have hZ : zz_Z g A s.heap [cw_i g kd 60 kdf, cw_i g dp 60 dpf, cw_i g sa 60 saf, cw_l g bt 4000 btf, cw_z g pn 4000 pnf, cw_l g bf 200 bff, cw_k5 st (nI na) (nI nu) kd dp cl sa ln bt pn bf, cw_i g ln 60 lnf, cw_k6 h0 st mk lk ch ru mr md 2] H locs := hZ
        have hZ : zz_Z g A s.heap [cw_k6 h0 st mk lk ch ru mr md 2, cw_k5 st (nI na) (nI nu) kd dp cl sa ln bt pn bf, cw_i g kd 60 kdf, cw_i g dp 60 dpf, cw_i g sa 60 saf, cw_i g ln 60 lnf, cw_l g bt 4000 btf, cw_z g pn 4000 pnf, cw_l g bf 200 bff] H locs := hZ.sub [8, 6, 0, 1, 2, 7, 3, 4, 5] (by decide +kernel) rfl
        exact zz_iret hC hZ (⟨2, btf, bff, by refine Eq.symm ?_; rw [fo_cx_sort]; refine (if_neg (by (try simp only [d_a1, d_sz1, d_lz1, d_dz1]); exact c3)).trans ?_; refine (if_pos (by (try simp only [d_a1, d_sz1, d_lz1, d_dz1]); exact c9)).trans ?_; refine (if_pos (by (try simp only [d_a1, d_sz1, d_lz1, d_dz1]); exact c12)).trans ?_; first | (simp only [d_a1, d_sz1, d_lz1, d_dz1]; done) | rfl, zz_D1.rf, rfl⟩) (Nat.le_of_ble_eq_true rfl) (Nat.le_of_ble_eq_true rfl) dX7_sort_54
    · have nc9 : ¬ dz1 = 1 := fun zq => c9 (show nI (dz1) = nI (1) from (nI_eq bd7 (by decide)).mpr zq)
      refine lv_aload_n hx hb dX7_sort_30 rfl (lv_at hl 0 rfl) ?_
      refine lv_iconst (v := 1) hx hb dX7_sort_31 (by decide) ?_
      refine zz_iV (As := [.int 1]) (wc := [cw_k6 h0 st mk lk ch ru mr md la]) (wr := [cw_i g kd 60 kdf, cw_i g dp 60 dpf, cw_i g sa 60 saf, cw_i g ln 60 lnf, cw_l g bt 4000 btf, cw_z g pn 4000 pnf, cw_l g bf 200 bff, cw_k5 st (nI na) (nI nu) kd dp cl sa ln bt pn bf]) (rest := []) hC hZ hs hl zc_X7_65 (co_fail g h0 st mk lk ch ru mr md la 1) [0] [1, 2, 3, 4, 5, 6, 7, 8] rfl rfl (by decide +kernel) (ci := 6) (q0 := 0) rfl rfl rfl rfl (Nat.le_of_ble_eq_true rfl) ⟨⟨Nat.le_of_ble_eq_true rfl, Nat.le_of_ble_eq_true rfl⟩, Nat.le_of_ble_eq_true rfl, Nat.le_of_ble_eq_true rfl⟩ dX7_sort_32 (fun r33 u34 H locs hp hZ => ?_)
      obtain ⟨rfl, rfl⟩ := hp
      have hZ : zz_Z g A s.heap [cw_i g kd 60 kdf, cw_i g dp 60 dpf, cw_i g sa 60 saf, cw_i g ln 60 lnf, cw_l g bt 4000 btf, cw_z g pn 4000 pnf, cw_l g bf 200 bff, cw_k5 st (nI na) (nI nu) kd dp cl sa ln bt pn bf, cw_k6 h0 st mk lk ch ru mr md 1] H locs := hZ
      have hZ : zz_Z g A s.heap [cw_k6 h0 st mk lk ch ru mr md 1, cw_k5 st (nI na) (nI nu) kd dp cl sa ln bt pn bf, cw_i g kd 60 kdf, cw_i g dp 60 dpf, cw_i g sa 60 saf, cw_i g ln 60 lnf, cw_l g bt 4000 btf, cw_z g pn 4000 pnf, cw_l g bf 200 bff] H locs := hZ.sub [8, 7, 0, 1, 2, 3, 4, 5, 6] (by decide +kernel) rfl
      exact zz_iret hC hZ (⟨1, btf, bff, by refine Eq.symm ?_; rw [fo_cx_sort]; refine (if_neg (by (try simp only [d_a1, d_sz1, d_lz1, d_dz1]); exact c3)).trans ?_; refine (if_neg (by (try simp only [d_a1, d_sz1, d_lz1, d_dz1]); exact c9)).trans ?_; first | (simp only [d_a1, d_sz1, d_lz1, d_dz1]; done) | rfl, zz_D1.rf, rfl⟩) (Nat.le_of_ble_eq_true rfl) (Nat.le_of_ble_eq_true rfl) dX7_sort_35
  · refine lv_aload_n hx hb dX7_sort_11 rfl (lv_at hl 0 rfl) ?_
    refine lv_iconst (v := 5) hx hb dX7_sort_12 (by decide) ?_
    refine zz_iV (As := [.int 5]) (wc := [cw_k6 h0 st mk lk ch ru mr md la]) (wr := [cw_i g kd 60 kdf, cw_i g dp 60 dpf, cw_i g sa 60 saf, cw_i g ln 60 lnf, cw_l g bt 4000 btf, cw_z g pn 4000 pnf, cw_l g bf 200 bff, cw_k5 st (nI na) (nI nu) kd dp cl sa ln bt pn bf]) (rest := []) hC hZ hs hl zc_X7_65 (co_fail g h0 st mk lk ch ru mr md la 5) [0] [1, 2, 3, 4, 5, 6, 7, 8] rfl rfl (by decide +kernel) (ci := 6) (q0 := 0) rfl rfl rfl rfl (Nat.le_of_ble_eq_true rfl) ⟨⟨Nat.le_of_ble_eq_true rfl, Nat.le_of_ble_eq_true rfl⟩, Nat.le_of_ble_eq_true rfl, Nat.le_of_ble_eq_true rfl⟩ dX7_sort_13 (fun r35 u36 H locs hp hZ => ?_)
    obtain ⟨rfl, rfl⟩ := hp
    have hZ : zz_Z g A s.heap [cw_i g kd 60 kdf, cw_i g dp 60 dpf, cw_i g sa 60 saf, cw_i g ln 60 lnf, cw_l g bt 4000 btf, cw_z g pn 4000 pnf, cw_l g bf 200 bff, cw_k5 st (nI na) (nI nu) kd dp cl sa ln bt pn bf, cw_k6 h0 st mk lk ch ru mr md 5] H locs := hZ
    have hZ : zz_Z g A s.heap [cw_k6 h0 st mk lk ch ru mr md 5, cw_k5 st (nI na) (nI nu) kd dp cl sa ln bt pn bf, cw_i g kd 60 kdf, cw_i g dp 60 dpf, cw_i g sa 60 saf, cw_i g ln 60 lnf, cw_l g bt 4000 btf, cw_z g pn 4000 pnf, cw_l g bf 200 bff] H locs := hZ.sub [8, 7, 0, 1, 2, 3, 4, 5, 6] (by decide +kernel) rfl
    exact zz_iret hC hZ (⟨5, btf, bff, by show _ = _; rw [fo_cx_sort]; rw [if_pos c3], zz_D1.rf, rfl⟩) (Nat.le_of_ble_eq_true rfl) (Nat.le_of_ble_eq_true rfl) dX7_sort_16
