/-! THE LAYER: every contract here is of one shape. g: class numbers and slots of the tables, and the classes of int[], long[], boolean[], Mark[]. -/
abbrev zz_G : Type := va_G × (ClassId × ClassId × ClassId × ClassId × Nat × Nat)
/-- cells: int[], long[], boolean[], Mark[], an object -/
abbrev cw_i (g : zz_G) (a n : Nat) (f : Nat → Int32) : Nat × va_E := (a, .inl (g.2.1, n, .inl f))
abbrev cw_l (g : zz_G) (a n : Nat) (f : Nat → Int64) : Nat × va_E := (a, .inl (g.2.2.1, n, .inr (.inl f)))
abbrev cw_z (g : zz_G) (a n : Nat) (f : Nat → Int32) : Nat × va_E := (a, .inl (g.2.2.2.1, n, .inl f))
abbrev cw_q (g : zz_G) (a n : Nat) (f : Nat → Option Nat) : Nat × va_E := (a, .inl (g.2.2.2.2.1, n, .inr (.inr (.inr (.inr f)))))
abbrev cw_o (a ci : Nat) (fs : List Value) : Nat × va_E := (a, .inr (ci, fs))
abbrev zz_TT (g : zz_G) : List (ClassId × FieldType) := [(g.2.1, .int), (g.2.2.1, .long), (g.2.2.2.1, .boolean), (g.2.2.2.2.1, .object zz_RM)]
/-- the words that every method takes -/
def zz_w : List Cond := lw_tbl.filter goodWord
theorem zz_in {w : Cond} (h : w ∈ lw_tbl) (hg : goodWord w = true) : w ∈ zz_w := List.mem_filter.mpr ⟨h, hg⟩
theorem zz_good {y : MethodName} {b : ByteArray} {n : Nat} {r : Option FieldType} (h : Cond.code y b n r ∈ zz_w) : GoodIn zz_w (Cond.code y b n r :: zz_w) := by
  intro w hw
  have hw' : w ∈ zz_w := by
    rcases List.mem_cons.mp hw with e | e
    · rw [e]; exact h
    · exact e
  exact ⟨hw', good_of_word (List.mem_filter.mp hw').2⟩
abbrev cw_k0 (a : Nat) (f0 : Nat) (f1 : Int32) (f2 : Nat) (f3 : Nat) (f4 : Nat) (f5 : Nat) (f6 : Nat) : Nat × va_E := (a, .inr (0, [.ref f0, .int f1, .ref f2, .ref f3, .ref f4, .ref f5, .ref f6]))
abbrev cw_k1 (a : Nat) (f0 : Nat) (f1 : Int32) (f2 : Nat) (f3 : Nat) (f4 : Nat) : Nat × va_E := (a, .inr (1, [.ref f0, .int f1, .ref f2, .ref f3, .ref f4]))
abbrev cw_k2 (a : Nat) (f0 : Nat) (f1 : Nat) (f2 : Int32) (f3 : Int32) : Nat × va_E := (a, .inr (2, [.ref f0, .ref f1, .int f2, .int f3]))
abbrev cw_k3 (a : Nat) (f0 : Nat) (f1 : Nat) (f2 : Int32) : Nat × va_E := (a, .inr (3, [.ref f0, .ref f1, .int f2]))
abbrev cw_k4 (a : Nat) (f0 : Nat) (f1 : Int32) (f2 : Nat) (f3 : Nat) (f4 : Nat) (f5 : Nat) (f6 : Nat) (f7 : Nat) (f8 : Nat) : Nat × va_E := (a, .inr (4, [.ref f0, .int f1, .ref f2, .ref f3, .ref f4, .ref f5, .ref f6, .ref f7, .ref f8]))
abbrev cw_k5 (a : Nat) (f0 : Int32) (f1 : Int32) (f2 : Nat) (f3 : Nat) (f4 : Nat) (f5 : Nat) (f6 : Nat) (f7 : Nat) (f8 : Nat) (f9 : Nat) : Nat × va_E := (a, .inr (5, [.int f0, .int f1, .ref f2, .ref f3, .ref f4, .ref f5, .ref f6, .ref f7, .ref f8, .ref f9]))
abbrev cw_k6 (a : Nat) (f0 : Nat) (f1 : Nat) (f2 : Nat) (f3 : Nat) (f4 : Nat) (f5 : Nat) (f6 : Int32) (f7 : Int32) : Nat × va_E := (a, .inr (6, [.ref f0, .ref f1, .ref f2, .ref f3, .ref f4, .ref f5, .int f6, .int f7]))
abbrev cw_k7 (a : Nat) (f0 : Int32) (f1 : Int32) (f2 : Nat) (f3 : Nat) (f4 : Nat) (f5 : Nat) (f6 : Nat) (f7 : Nat) (f8 : Nat) (f9 : Int32) (f10 : Nat) (f11 : Nat) (f12 : Nat) (f13 : Nat) (f14 : Int32) (f15 : Int32) (f16 : Nat) (f17 : Nat) (f18 : Nat) (f19 : Nat) (f20 : Int32) (f21 : Nat) (f22 : Nat) (f23 : Nat) (f24 : Nat) (f25 : Int32) (f26 : Nat) (f27 : Nat) (f28 : Nat) (f29 : Nat) (f30 : Nat) (f31 : Nat) (f32 : Nat) (f33 : Int32) (f34 : Nat) (f35 : Nat) (f36 : Nat) : Nat × va_E := (a, .inr (7, [.int f0, .int f1, .ref f2, .ref f3, .ref f4, .ref f5, .ref f6, .ref f7, .ref f8, .int f9, .ref f10, .ref f11, .ref f12, .ref f13, .int f14, .int f15, .ref f16, .ref f17, .ref f18, .ref f19, .int f20, .ref f21, .ref f22, .ref f23, .ref f24, .int f25, .ref f26, .ref f27, .ref f28, .ref f29, .ref f30, .ref f31, .ref f32, .int f33, .ref f34, .ref f35, .ref f36]))
/-- what every contract takes of the tables -/
def zz_KK (g : zz_G) (U : State) : Prop := va_K g.1 classes (zz_TT g) U ∧ (∀ q ∈ zz_nm, va_Nw (.methodLinkNest q.1 q.2.1 q.2.2.1 q.2.2.2) U) ∧ va_AO zz_RM U
theorem zz_KK.moved {g : zz_G} {s U : State} (hW : s.WarmedH U.vm) (h : zz_KK g s) : zz_KK g U :=
  ⟨va_K.moved hW.alike h.1, fun q hq => va_Nw.warmM hW (h.2.1 q hq), va_AO.moved hW.alike h.2.2⟩
theorem zz_KK.same {g : zz_G} {s U : State} (hv : s.vm = U.vm) (h : zz_KK g s) : zz_KK g U :=
  ⟨va_K.moved (by rw [hv]; exact Vm.Alike.refl U.vm) h.1, fun q hq => va_Nw.same rfl hv (h.2.1 q hq), va_AO.moved (by rw [hv]; exact Vm.Alike.refl U.vm) h.2.2⟩
/-- the two static arrays of Kinds, which nobody writes -/
def zz_low : Nat → Int64 := fun j => match j with
  | 0 => 0 | 1 => 0 | 2 => -128 | 3 => -32768 | 4 => -2147483648 | 5 => -9223372036854775808 | 6 => -2147483648 | 7 => -9223372036854775808 | _ => 0
def zz_high : Nat → Int64 := fun j => match j with
  | 0 => 1 | 1 => 65535 | 2 => 127 | 3 => 32767 | 4 => 2147483647 | 5 => 9223372036854775807 | 6 => 2147483647 | 7 => 9223372036854775807 | _ => 1000
def zz_XL (b L : Nat) (f : Nat → Int64) (U : State) (H : Heap) : Prop := ∃ scr : Cell, H[b]? = some scr ∧ U.isArrayOf scr .long ∧ scr.vm ≠ .unknown ∧ L ≤ scr.slots.size ∧ ∀ j : Nat, j < L → scr.slots[j]? = some (.long (f j))
def zz_h1 (n : String) (a : Nat) (f : Nat → Int64) (A : Nat → Prop) (U : State) (H : Heap) : Prop := va_Z zz_RK n "[J" (.ref a) A U H ∧ zz_XL a 9 f U H ∧ a < H.size ∧ ¬ A a
def zz_hs (g : zz_G) (A : Nat → Prop) (U : State) (H : Heap) : Prop := zz_h1 "LOWEST" g.2.2.2.2.2.1 zz_low A U H ∧ zz_h1 "HIGHEST" g.2.2.2.2.2.2 zz_high A U H
theorem zz_h1.to {n : String} {a : Nat} {f : Nat → Int64} {A B : Nat → Prop} {u U : State} {H H1 : Heap} (h : zz_h1 n a f A u H) (hvm : u.vm.Alike U.vm) (hz : H.size ≤ H1.size) (hq : ∀ q : Nat, q < H.size → ¬ A q → H1[q]? = H[q]?) (hAB : ∀ q, B q → A q) : zz_h1 n a f B U H1 := by
  obtain ⟨h1, ⟨scr, x1, x2, x3⟩, h3, h4⟩ := h
  exact ⟨va_Z.moved hvm (va_Z.narrow (va_Z.kept h1 hq) hAB), ⟨scr, by rw [hq a h3 h4]; exact x1, State.isArrayOf_alike hvm x2, x3⟩, Nat.lt_of_lt_of_le h3 hz, fun q => h4 (hAB a q)⟩
theorem zz_hs.to {g : zz_G} {A B : Nat → Prop} {u U : State} {H H1 : Heap} (h : zz_hs g A u H) (hvm : u.vm.Alike U.vm) (hz : H.size ≤ H1.size) (hq : ∀ q : Nat, q < H.size → ¬ A q → H1[q]? = H[q]?) (hAB : ∀ q, B q → A q) : zz_hs g B U H1 := ⟨h.1.to hvm hz hq hAB, h.2.to hvm hz hq hAB⟩
def zz_Pre (g : zz_G) (av : List Value) (ws : va_W) (sz : Nat) : Array Value → State → Prop :=
  va_Pc av (fun U => U.heap.size = sz ∧ va_P g.1 classes ws U.heap ∧ zz_KK g U ∧ zz_hs g (va_A ws sz) U U.heap ∧ va_D (fun _ => True) ws)
theorem zz_blind {g : zz_G} {av : List Value} {ws : va_W} {sz : Nat} : FrameBlind (zz_Pre g av ws sz) := by
  intro a U gf mk q
  obtain ⟨q0, q1, qP, qK, qH, qD⟩ := q
  exact ⟨q0, q1, qP, zz_KK.same (s := U) (U := U.calling gf mk a) rfl qK, qH.to (U := U.calling gf mk a) (H1 := (U.calling gf mk a).heap) (Vm.Alike.refl U.vm) (Nat.le_refl _) (fun _ _ _ => rfl) (fun _ h => h), qD⟩
abbrev zz_B (g : zz_G) (A : Nat → Prop) : va_W → State → Prop := fun u t => va_P g.1 classes u t.heap ∧ va_D A u
/-- contracts: an int (or boolean), a long, nothing -/
def zz_I (g : zz_G) (y : MethodName) (wd : Cond) (rm : Room) (av : List Value) (ws : va_W) (Post : Int32 → va_W → Prop) : Prop :=
  ∀ (l : Launch) (sz : Nat), Met l y (wd :: zz_w) rm (zz_Pre g av ws sz) (va_Qi Post (zz_B g (va_A ws sz)) (va_A ws sz)) rm.cells rm.slots (va_A ws sz)
def zz_L (g : zz_G) (y : MethodName) (wd : Cond) (rm : Room) (av : List Value) (ws : va_W) (Post : Int64 → va_W → Prop) : Prop :=
  ∀ (l : Launch) (sz : Nat), Met l y (wd :: zz_w) rm (zz_Pre g av ws sz) (va_Ql Post (zz_B g (va_A ws sz)) (va_A ws sz)) rm.cells rm.slots (va_A ws sz)
def zz_V (g : zz_G) (y : MethodName) (wd : Cond) (rm : Room) (av : List Value) (ws : va_W) (Post : va_W → Prop) : Prop :=
  ∀ (l : Launch) (sz : Nat), Met l y (wd :: zz_w) rm (zz_Pre g av ws sz) (va_Qv Post (zz_B g (va_A ws sz)) (va_A ws sz)) rm.cells rm.slots (va_A ws sz)
/-- the standing facts of a walk -/
def zz_C (p : Program) (s : State) (m : MethodId) (args : Array Value) (meth : Method) (c : Code) (g : zz_G) (own : String) (cc : ByteArray) (nL : Nat) (ret : Option FieldType) : Prop :=
  p.tables.exec = Jvm.exec ∧ c.code = cc ∧ c.maxLocals = nL ∧ s.vm.findClass own = some m.cls ∧ (∀ w ∈ zz_w, w.before args s = true) ∧ meth.sig.returnType = ret ∧ meth.locks = false ∧ zz_KK g s
/-- the world of a walk -/
def zz_Z (g : zz_G) (A : Nat → Prop) (H0 : Heap) (ws : va_W) (H : Heap) (locs : List Loc) : Prop :=
  va_P g.1 classes ws H ∧ va_D A ws ∧ va_S A H0 H locs ∧ ∀ q, H0.size ≤ q → A q
abbrev zz_QI (below : List Frame) (g : zz_G) (args : Array Value) (s : State) (A : Nat → Prop) (mc ms : Nat) (Post : Int32 → va_W → Prop) : State → Prop := MQ below (va_Qi Post (zz_B g A) A) args s mc ms A
abbrev zz_QL (below : List Frame) (g : zz_G) (args : Array Value) (s : State) (A : Nat → Prop) (mc ms : Nat) (Post : Int64 → va_W → Prop) : State → Prop := MQ below (va_Ql Post (zz_B g A) A) args s mc ms A
abbrev zz_QV (below : List Frame) (g : zz_G) (args : Array Value) (s : State) (A : Nat → Prop) (mc ms : Nat) (Post : va_W → Prop) : State → Prop := MQ below (va_Qv Post (zz_B g A) A) args s mc ms A
section zzIntro
variable {g : zz_G} {y : MethodName} {own : String} {cc : ByteArray} {nL : Nat} {rm : Room} {av : List Value} {ws : va_W}
theorem zz_I.intro {Post : Int32 → va_W → Prop} {ret : Option FieldType} (hy : plainName y.cls = true) (ho : y.cls = own) (hn : (lg_sl av).length ≤ nL)
    (body : ∀ (p : Program) (l : Launch) (e : Env) (s : State) (m : MethodId) (args : Array Value) (below : List Frame) (meth : Method) (c : Code) (A : Nat → Prop) (H : Heap) (locs : List Loc) (ls : Array Slot),
      zz_C p s m args meth c g own cc nL ret → meth.name = y.name → zz_hs g A s s.heap → zz_Z g A s.heap ws H locs → lv_has ls nL (lv_args 0 av) →
      W p l e rm s m args below meth c H locs 0 0 (zz_QI below g args s A rm.cells rm.slots Post) (F0 m 0 ls [])) : zz_I g y (.code y cc nL ret) rm av ws Post := by
  intro l sz
  refine Met.ofW (cc := cc) (maxL := nL) (ret := ret) hy rfl ?_
  intro p e s m args below meth c s₁ B hml hv
  obtain ⟨rfl, hsz, hP, hK, hH, hD0⟩ := hv
  subst hsz
  have hts := atoms_spec (ws := Cond.code y cc nL ret :: zz_w) B.pre
  rw [lg_entry_eq]
  exact body p l e s m av.toArray below meth c (va_A ws s.heap.size) s.heap [] _ ⟨B.exec, B.bytes, hml, by rw [← ho]; exact findClass_of_methodNamed B.named, fun w h => hts w (List.mem_cons_of_mem _ h), B.returns, B.notSynchronized, hK⟩
    (name_of_methodNamed B.named B.method).1 hH ⟨hP, hD0.self (sz := s.heap.size), va_S.rf, fun q h => Or.inr h⟩ (lv_entry av (n := nL) hn)
theorem zz_L.intro {Post : Int64 → va_W → Prop} {ret : Option FieldType} (hy : plainName y.cls = true) (ho : y.cls = own) (hn : (lg_sl av).length ≤ nL)
    (body : ∀ (p : Program) (l : Launch) (e : Env) (s : State) (m : MethodId) (args : Array Value) (below : List Frame) (meth : Method) (c : Code) (A : Nat → Prop) (H : Heap) (locs : List Loc) (ls : Array Slot),
      zz_C p s m args meth c g own cc nL ret → meth.name = y.name → zz_hs g A s s.heap → zz_Z g A s.heap ws H locs → lv_has ls nL (lv_args 0 av) →
      W p l e rm s m args below meth c H locs 0 0 (zz_QL below g args s A rm.cells rm.slots Post) (F0 m 0 ls [])) : zz_L g y (.code y cc nL ret) rm av ws Post := by
  intro l sz
  refine Met.ofW (cc := cc) (maxL := nL) (ret := ret) hy rfl ?_
  intro p e s m args below meth c s₁ B hml hv
  obtain ⟨rfl, hsz, hP, hK, hH, hD0⟩ := hv
  subst hsz
  have hts := atoms_spec (ws := Cond.code y cc nL ret :: zz_w) B.pre
  rw [lg_entry_eq]
  exact body p l e s m av.toArray below meth c (va_A ws s.heap.size) s.heap [] _ ⟨B.exec, B.bytes, hml, by rw [← ho]; exact findClass_of_methodNamed B.named, fun w h => hts w (List.mem_cons_of_mem _ h), B.returns, B.notSynchronized, hK⟩
    (name_of_methodNamed B.named B.method).1 hH ⟨hP, hD0.self (sz := s.heap.size), va_S.rf, fun q h => Or.inr h⟩ (lv_entry av (n := nL) hn)
theorem zz_V.intro {Post : va_W → Prop} {ret : Option FieldType} (hy : plainName y.cls = true) (ho : y.cls = own) (hn : (lg_sl av).length ≤ nL)
    (body : ∀ (p : Program) (l : Launch) (e : Env) (s : State) (m : MethodId) (args : Array Value) (below : List Frame) (meth : Method) (c : Code) (A : Nat → Prop) (H : Heap) (locs : List Loc) (ls : Array Slot),
      zz_C p s m args meth c g own cc nL ret → meth.name = y.name → zz_hs g A s s.heap → zz_Z g A s.heap ws H locs → lv_has ls nL (lv_args 0 av) →
      W p l e rm s m args below meth c H locs 0 0 (zz_QV below g args s A rm.cells rm.slots Post) (F0 m 0 ls [])) : zz_V g y (.code y cc nL ret) rm av ws Post := by
  intro l sz
  refine Met.ofW (cc := cc) (maxL := nL) (ret := ret) hy rfl ?_
  intro p e s m args below meth c s₁ B hml hv
  obtain ⟨rfl, hsz, hP, hK, hH, hD0⟩ := hv
  subst hsz
  have hts := atoms_spec (ws := Cond.code y cc nL ret :: zz_w) B.pre
  rw [lg_entry_eq]
  exact body p l e s m av.toArray below meth c (va_A ws s.heap.size) s.heap [] _ ⟨B.exec, B.bytes, hml, by rw [← ho]; exact findClass_of_methodNamed B.named, fun w h => hts w (List.mem_cons_of_mem _ h), B.returns, B.notSynchronized, hK⟩
    (name_of_methodNamed B.named B.method).1 hH ⟨hP, hD0.self (sz := s.heap.size), va_S.rf, fun q h => Or.inr h⟩ (lv_entry av (n := nL) hn)
end zzIntro
theorem zz_Z.sub {g : zz_G} {A : Nat → Prop} {H0 : Heap} {ws ws' : va_W} {H : Heap} {locs : List Loc} (hZ : zz_Z g A H0 ws H locs) (is : List Nat) (hn : va_nd is = true) (hs : is.map (fun i => ws[i]?) = ws'.map some) : zz_Z g A H0 ws' H locs := by
  obtain ⟨hP, hD, hS, hA⟩ := hZ
  refine ⟨fun k q hq => ?_, hD.sub is hn hs, hS, hA⟩
  have h1 : (ws'.map some)[k]? = some (some q) := by rw [List.getElem?_map, hq]; rfl
  rw [← hs, List.getElem?_map] at h1
  cases h2 : is[k]? with
  | none => rw [h2] at h1; cases h1
  | some i =>
    rw [h2] at h1
    exact hP i q (Option.some.inj h1)
theorem zz_Z.left {g : zz_G} {A : Nat → Prop} {H0 : Heap} {w1 w2 : va_W} {H : Heap} {locs : List Loc} (hZ : zz_Z g A H0 (w1 ++ w2) H locs) : zz_Z g A H0 w1 H locs := by
  obtain ⟨hP, hD, hS, hA⟩ := hZ
  have h1 : ∀ (k : Nat) (q : Nat × va_E), w1[k]? = some q → (w1 ++ w2)[k]? = some q := fun k q hq => by
    rw [List.getElem?_append_left (List.getElem?_eq_some_iff.mp hq).1]; exact hq
  exact ⟨fun k q hq => hP k q (h1 k q hq), ⟨fun i j p q hp hq he => hD.1 i j p q (h1 i p hp) (h1 j q hq) he, fun k q hq => hD.2 k q (h1 k q hq)⟩, hS, hA⟩
theorem zz_sw (x : Int32) (n : Nat) (hn : n < 2 ^ 31) : (x.toInt < 0 ∨ (n : Int) ≤ x.toInt) ∨ ∃ k : Nat, k < n ∧ x = nI k := by
  by_cases h0 : x < 0
  · exact Or.inl (Or.inl (by have := Int32.lt_iff_toInt_lt.mp h0; simpa using this))
  · obtain ⟨j, hj, e⟩ := nI_of h0
    by_cases h1 : j < n
    · exact Or.inr ⟨j, h1, e⟩
    · exact Or.inl (Or.inr (by rw [e, nI_toInt hj]; omega))
section zzRows
variable {p : Program} {l : Launch} {e : Env} {R : Room} {s : State} {m : MethodId} {args : Array Value} {below : List Frame} {meth : Method} {c : Code} {H : Heap} {locs : List Loc} {cells slots : Nat} {Q : State → Prop}
variable {cc : ByteArray} {pc : Nat} {ls : Array Slot} {rest : List Value} {g : zz_G} {A : Nat → Prop} {a : Nat} {ws : va_W} {own : String} {nL : Nat} {ret : Option FieldType}
theorem zz_topi {x v : Int32} (h : x = v) (k : W p l e R s m args below meth c H locs cells slots Q (F0 m pc ls (.int v :: rest))) : W p l e R s m args below meth c H locs cells slots Q (F0 m pc ls (.int x :: rest)) := h ▸ k
theorem zz_topl {x v : Int64} (h : x = v) (k : W p l e R s m args below meth c H locs cells slots Q (F0 m pc ls (.long v :: rest))) : W p l e R s m args below meth c H locs cells slots Q (F0 m pc ls (.long x :: rest)) := h ▸ k
/-- ends -/
theorem zz_iret {Post : Int32 → va_W → Prop} {mc ms : Nat} {v : Int32} (hC : zz_C p s m args meth c g own cc nL (some .int)) (hZ : zz_Z g A s.heap ws H locs) (hp : Post v ws) (hc : cells ≤ mc) (hs : slots ≤ ms) (hdg : decode cc pc = .ok (.ireturn, 1)) :
    W p l e R s m args below meth c H locs cells slots (zz_QI below g args s A mc ms Post) (F0 m pc ls [.int v]) := by
  obtain ⟨hx, hb, hml, hown, hts, hr, hlocks, hK⟩ := hC
  obtain ⟨hP, hD, hS, hA⟩ := hZ
  refine W.widen hc hs ?_
  exact W.iret hx hb hr (fun t ht hW => ⟨⟨v, ws, rfl, hp, by rw [ht]; exact hP, hD⟩, hS.F ht⟩) hS.2.2 hdg hlocks
theorem zz_zret {Post : Int32 → va_W → Prop} {mc ms : Nat} {v : Int32} (hC : zz_C p s m args meth c g own cc nL (some .boolean)) (hZ : zz_Z g A s.heap ws H locs) (hn : narrow .boolean (.int v) = .int v) (hp : Post v ws) (hc : cells ≤ mc) (hs : slots ≤ ms) (hdg : decode cc pc = .ok (.ireturn, 1)) :
    W p l e R s m args below meth c H locs cells slots (zz_QI below g args s A mc ms Post) (F0 m pc ls [.int v]) := by
  obtain ⟨hx, hb, hml, hown, hts, hr, hlocks, hK⟩ := hC
  obtain ⟨hP, hD, hS, hA⟩ := hZ
  refine W.widen hc hs ?_
  exact W.zret hx hb hr hn (fun t ht hW => ⟨⟨v, ws, rfl, hp, by rw [ht]; exact hP, hD⟩, hS.F ht⟩) hS.2.2 hdg hlocks
theorem zz_lret {Post : Int64 → va_W → Prop} {mc ms : Nat} {v : Int64} (hC : zz_C p s m args meth c g own cc nL (some .long)) (hZ : zz_Z g A s.heap ws H locs) (hp : Post v ws) (hc : cells ≤ mc) (hs : slots ≤ ms) (hdg : decode cc pc = .ok (.lreturn, 1)) :
    W p l e R s m args below meth c H locs cells slots (zz_QL below g args s A mc ms Post) (F0 m pc ls [.long v]) := by
  obtain ⟨hx, hb, hml, hown, hts, hr, hlocks, hK⟩ := hC
  obtain ⟨hP, hD, hS, hA⟩ := hZ
  refine W.widen hc hs ?_
  exact W.lret hx hb hr (fun t ht hW => ⟨⟨v, ws, rfl, hp, by rw [ht]; exact hP, hD⟩, hS.F ht⟩) hS.2.2 hdg hlocks
theorem zz_vret {Post : va_W → Prop} {mc ms : Nat} (hC : zz_C p s m args meth c g own cc nL none) (hZ : zz_Z g A s.heap ws H locs) (hp : Post ws) (hc : cells ≤ mc) (hs : slots ≤ ms) (hdg : decode cc pc = .ok (.return_, 1)) :
    W p l e R s m args below meth c H locs cells slots (zz_QV below g args s A mc ms Post) (F0 m pc ls []) := by
  obtain ⟨hx, hb, hml, hown, hts, hr, hlocks, hK⟩ := hC
  obtain ⟨hP, hD, hS, hA⟩ := hZ
  refine W.widen hc hs ?_
  exact W.vret hx hb hr (fun t ht hW => ⟨⟨ws, rfl, hp, by rw [ht]; exact hP, hD⟩, hS.F ht⟩) hS.2.2 hdg hlocks
end zzRows
section zzCalls
variable {p : Program} {l : Launch} {e : Env} {R : Room} {s : State} {m : MethodId} {args : Array Value} {below : List Frame} {meth : Method} {c : Code} {H : Heap} {locs : List Loc} {cells slots : Nat} {Q : State → Prop}
variable {cc cc' : ByteArray} {pc : Nat} {ls : Array Slot} {rest st0 : List Value} {g : zz_G} {A : Nat → Prop} {ws wc wr : va_W} {own : String} {nL nL' np index : Nat} {ret ret' : Option FieldType} {y : MethodName} {rm : Room} {av : Array Value} {lv : List (Nat × Value)}
theorem zz_goi {mc ms : Nat} {Post : Int32 → va_W → Prop} (hZ : zz_Z g A s.heap ws H locs) (isC isR : List Nat) (hCs : isC.map (fun i => ws[i]?) = wc.map some) (hRs : isR.map (fun i => ws[i]?) = wr.map some) (hn : va_nd isR = true) (hdis : ∀ i ∈ isR, i ∉ isC)
    (hrun : va_Run p l e R s m args below meth c H locs cells slots mc ms (F0 m pc ls st0) rest (va_Qi Post (zz_B g (va_A wc H.size)) (va_A wc H.size) av) (va_A wc H.size))
    (kk : ∀ (r : Int32) (u : va_W) (H1 : Heap) (locs1 : List Loc), Post r u → zz_Z g A s.heap (wr ++ u) H1 locs1 → W p l e R s m args below meth c H1 locs1 (cells + mc) (slots + ms) Q (F0 m (pc + 3) ls (.int r :: rest))) : W p l e R s m args below meth c H locs cells slots Q (F0 m pc ls st0) := by
  obtain ⟨hP, hD, hS, hA⟩ := hZ
  have hF := va_free hD hS hA isC hCs
  refine va_calli hrun hS (fun q _ h => hF q h) hF (fun r u t H1 locs1 ht hvm hw hB hz1 hk1 hS1 => ?_)
  obtain ⟨hP1, hD1⟩ := hB
  rw [ht] at hP1
  obtain ⟨hP2, hD2⟩ := va_join (wr := wr) (w1 := u) hP hD isC isR hCs hRs hn hdis hk1 hF hP1 hD1
  exact kk r u H1 locs1 hw ⟨hP2, hD2, hS1, hA⟩
theorem zz_gol {mc ms : Nat} {Post : Int64 → va_W → Prop} (hZ : zz_Z g A s.heap ws H locs) (isC isR : List Nat) (hCs : isC.map (fun i => ws[i]?) = wc.map some) (hRs : isR.map (fun i => ws[i]?) = wr.map some) (hn : va_nd isR = true) (hdis : ∀ i ∈ isR, i ∉ isC)
    (hrun : va_Run p l e R s m args below meth c H locs cells slots mc ms (F0 m pc ls st0) rest (va_Ql Post (zz_B g (va_A wc H.size)) (va_A wc H.size) av) (va_A wc H.size))
    (kk : ∀ (r : Int64) (u : va_W) (H1 : Heap) (locs1 : List Loc), Post r u → zz_Z g A s.heap (wr ++ u) H1 locs1 → W p l e R s m args below meth c H1 locs1 (cells + mc) (slots + ms) Q (F0 m (pc + 3) ls (.long r :: rest))) : W p l e R s m args below meth c H locs cells slots Q (F0 m pc ls st0) := by
  obtain ⟨hP, hD, hS, hA⟩ := hZ
  have hF := va_free hD hS hA isC hCs
  refine va_calll hrun hS (fun q _ h => hF q h) hF (fun r u t H1 locs1 ht hvm hw hB hz1 hk1 hS1 => ?_)
  obtain ⟨hP1, hD1⟩ := hB
  rw [ht] at hP1
  obtain ⟨hP2, hD2⟩ := va_join (wr := wr) (w1 := u) hP hD isC isR hCs hRs hn hdis hk1 hF hP1 hD1
  exact kk r u H1 locs1 hw ⟨hP2, hD2, hS1, hA⟩
theorem zz_gov {mc ms : Nat} {Post : va_W → Prop} (hZ : zz_Z g A s.heap ws H locs) (isC isR : List Nat) (hCs : isC.map (fun i => ws[i]?) = wc.map some) (hRs : isR.map (fun i => ws[i]?) = wr.map some) (hn : va_nd isR = true) (hdis : ∀ i ∈ isR, i ∉ isC)
    (hrun : va_Run p l e R s m args below meth c H locs cells slots mc ms (F0 m pc ls st0) rest (va_Qv Post (zz_B g (va_A wc H.size)) (va_A wc H.size) av) (va_A wc H.size))
    (kk : ∀ (u : va_W) (H1 : Heap) (locs1 : List Loc), Post u → zz_Z g A s.heap (wr ++ u) H1 locs1 → W p l e R s m args below meth c H1 locs1 (cells + mc) (slots + ms) Q (F0 m (pc + 3) ls rest)) : W p l e R s m args below meth c H locs cells slots Q (F0 m pc ls st0) := by
  obtain ⟨hP, hD, hS, hA⟩ := hZ
  have hF := va_free hD hS hA isC hCs
  refine va_callv hrun hS (fun q _ h => hF q h) hF (fun u t H1 locs1 ht hvm hw hB hz1 hk1 hS1 => ?_)
  obtain ⟨hP1, hD1⟩ := hB
  rw [ht] at hP1
  obtain ⟨hP2, hD2⟩ := va_join (wr := wr) (w1 := u) hP hD isC isR hCs hRs hn hdis hk1 hF hP1 hD1
  exact kk u H1 locs1 hw ⟨hP2, hD2, hS1, hA⟩
/-- what the tables say of a call: its link, its method -/
def zz_cB (own : String) (index : Nat) (y : MethodName) (cc : ByteArray) (nL : Nat) (ret : Option FieldType) (np : Nat) : Prop :=
  Cond.methodLink own index y ∈ zz_w ∧ Cond.code y cc nL ret ∈ zz_w ∧ Cond.initialized y.cls ∈ zz_w ∧ (y.cls ≠ "java/lang/invoke/MethodHandle" ∧ y.cls ≠ "java/lang/invoke/VarHandle" ∧ (parseMethodDescriptor y.desc).map (fun d => d.parameters.length) = some np)
def zz_cV (own : String) (index : Nat) (y : MethodName) (cc : ByteArray) (nL : Nat) (ret : Option FieldType) (np : Nat) : Prop :=
  zz_cB own index y cc nL ret np ∧ Cond.instanceMethod y ∈ zz_w ∧ Cond.selects y.cls y y ∈ zz_w
def zz_cS (own : String) (index : Nat) (y : MethodName) (cc : ByteArray) (nL : Nat) (ret : Option FieldType) (np : Nat) : Prop :=
  zz_cB own index y cc nL ret np ∧ Cond.static y ∈ zz_w
def zz_cI (own : String) (index : Nat) (y : MethodName) (cc : ByteArray) (nL : Nat) (np : Nat) : Prop :=
  zz_cB own index y cc nL none np ∧ y.name = "<init>" ∧ Cond.instanceMethod y ∈ zz_w
def zz_cN (own : String) (index : Nat) (y : MethodName) (host : String) (cc : ByteArray) (nL : Nat) (np : Nat) : Prop :=
  (own, index, y, host) ∈ zz_nm ∧ Cond.code y cc nL none ∈ zz_w ∧ Cond.initialized y.cls ∈ zz_w ∧ (y.cls ≠ "java/lang/invoke/MethodHandle" ∧ y.cls ≠ "java/lang/invoke/VarHandle" ∧ (parseMethodDescriptor y.desc).map (fun d => d.parameters.length) = some np) ∧ y.name = "<init>" ∧ Cond.instanceMethod y ∈ zz_w
abbrev zz_rm (R rm : Room) (nL cells slots : Nat) : Prop := (rm.frames + 1 ≤ R.frames ∧ 8 + (nL + 11) + rm.locals ≤ R.locals) ∧ cells + rm.cells ≤ R.cells ∧ slots + rm.slots ≤ R.slots
theorem zz_cbB (hts : ∀ w ∈ zz_w, w.before args s = true) (cw : zz_cB own index y cc nL ret np) (hR : rm.frames + 1 ≤ R.frames ∧ 8 + (nL + 11) + rm.locals ≤ R.locals) : CallB R s args own index y cc nL ret (Cond.code y cc nL ret :: zz_w) rm rm.cells rm.slots np :=
  callB_of np hts (zz_good cw.2.1) rfl rfl rfl (hts _ cw.2.2.1) (hts _ cw.1) cw.2.2.2 hR
theorem zz_hsub (hs : zz_hs g A s s.heap) (hZ : zz_Z g A s.heap ws H locs) (isC : List Nat) (hCs : isC.map (fun i => ws[i]?) = wc.map some) {U : State} (hU : U.heap = H) (hW : s.WarmedH U.vm) : zz_hs g (va_A wc H.size) U U.heap := by
  obtain ⟨hP, hD, hS, hA⟩ := hZ
  rw [hU]
  exact hs.to hW.alike hS.1 hS.2.1 (va_free hD hS hA isC hCs)
theorem zz_pre {As : List Value} (hC : zz_C p s m args meth c g own cc nL ret) (hZ : zz_Z g A s.heap ws H locs) (hs : zz_hs g A s s.heap) (isC : List Nat) (hCs : isC.map (fun i => ws[i]?) = wc.map some) (hn : va_nd isC = true) : PreS s H (zz_Pre g As wc H.size) As := by
  have hZc := hZ.sub isC hn hCs
  exact ⟨zz_blind, fun U hU hW => ⟨rfl, by rw [hU], by rw [hU]; exact hZc.1, hC.2.2.2.2.2.2.2.moved hW, zz_hsub hs hZ isC hCs hU hW, hZc.2.1.weaken (fun _ _ _ _ => trivial)⟩⟩
theorem zz_preV {As : List Value} {b ci q0 : Nat} {fs : List Value} {T : u_T} {N : Nat} (hC : zz_C p s m args meth c g own cc nL ret) (hZ : zz_Z g A s.heap ws H locs) (hs : zz_hs g A s s.heap) (isC : List Nat) (hCs : isC.map (fun i => ws[i]?) = wc.map some) (hn : va_nd isC = true) (hc : classes[ci]? = some (y.cls, T, N)) (he : wc[q0]? = some (cw_o b ci fs)) :
    PreV s H y.cls b (zz_Pre g (.ref b :: As) wc H.size) As := by
  have hZc := hZ.sub isC hn hCs
  exact ⟨zz_blind, va_recv hC.2.2.2.2.2.2.2.1 hZc.1 hc he, fun U hU hW => ⟨rfl, by rw [hU], by rw [hU]; exact hZc.1, hC.2.2.2.2.2.2.2.moved hW, zz_hsub hs hZ isC hCs hU hW, hZc.2.1.weaken (fun _ _ _ _ => trivial)⟩⟩
/-- invokevirtual: an int, a long, nothing -/
theorem zz_iV {As : List Value} {b ci q0 : Nat} {fs : List Value} {T : u_T} {N : Nat} {Post : Int32 → va_W → Prop} (hC : zz_C p s m args meth c g own cc nL ret) (hZ : zz_Z g A s.heap ws H locs) (hs : zz_hs g A s s.heap) (hl : lv_has ls nL lv) (cw : zz_cV own index y cc' nL' ret' np) (hM : zz_I g y (.code y cc' nL' ret') rm (.ref b :: As) wc Post)
    (isC isR : List Nat) (hCs : isC.map (fun i => ws[i]?) = wc.map some) (hRs : isR.map (fun i => ws[i]?) = wr.map some) (hk : va_nd isC = true ∧ va_nd isR = true ∧ ∀ i ∈ isR, i ∉ isC) (hc : classes[ci]? = some (y.cls, T, N)) (he : wc[q0]? = some (cw_o b ci fs)) (hn : As.length = np) (hst : st0 = As.reverse ++ .ref b :: rest) (hW : (rest.map fun v => v.category).sum ≤ 8) (hR : zz_rm R rm nL' cells slots) (hdg : decode cc pc = .ok (.invokevirtual index, 3))
    (kk : ∀ (r : Int32) (u : va_W) (H1 : Heap) (locs1 : List Loc), Post r u → zz_Z g A s.heap (wr ++ u) H1 locs1 → W p l e R s m args below meth c H1 locs1 (cells + rm.cells) (slots + rm.slots) Q (F0 m (pc + 3) ls (.int r :: rest))) : W p l e R s m args below meth c H locs cells slots Q (F0 m pc ls st0) := by
  refine zz_goi hZ isC isR hCs hRs hk.2.1 hk.2.2 (va_runV (As := As) (rest := rest) (Ts := zz_w) ⟨hC.1, hC.2.1, hC.2.2.1, hC.2.2.2.1, hC.2.2.2.2.1⟩ (hM l H.size) ⟨zz_cbB hC.2.2.2.2.1 cw.1 hR.1, hC.2.2.2.2.1 _ cw.2.1, hC.2.2.2.2.1 _ cw.2.2⟩ (zz_preV hC hZ hs isC hCs hk.1 hc he) rfl hn hl.1 hst (lv_room hW) hdg hR.2) kk
theorem zz_lV {As : List Value} {b ci q0 : Nat} {fs : List Value} {T : u_T} {N : Nat} {Post : Int64 → va_W → Prop} (hC : zz_C p s m args meth c g own cc nL ret) (hZ : zz_Z g A s.heap ws H locs) (hs : zz_hs g A s s.heap) (hl : lv_has ls nL lv) (cw : zz_cV own index y cc' nL' ret' np) (hM : zz_L g y (.code y cc' nL' ret') rm (.ref b :: As) wc Post)
    (isC isR : List Nat) (hCs : isC.map (fun i => ws[i]?) = wc.map some) (hRs : isR.map (fun i => ws[i]?) = wr.map some) (hk : va_nd isC = true ∧ va_nd isR = true ∧ ∀ i ∈ isR, i ∉ isC) (hc : classes[ci]? = some (y.cls, T, N)) (he : wc[q0]? = some (cw_o b ci fs)) (hn : As.length = np) (hst : st0 = As.reverse ++ .ref b :: rest) (hW : (rest.map fun v => v.category).sum ≤ 8) (hR : zz_rm R rm nL' cells slots) (hdg : decode cc pc = .ok (.invokevirtual index, 3))
    (kk : ∀ (r : Int64) (u : va_W) (H1 : Heap) (locs1 : List Loc), Post r u → zz_Z g A s.heap (wr ++ u) H1 locs1 → W p l e R s m args below meth c H1 locs1 (cells + rm.cells) (slots + rm.slots) Q (F0 m (pc + 3) ls (.long r :: rest))) : W p l e R s m args below meth c H locs cells slots Q (F0 m pc ls st0) := by
  refine zz_gol hZ isC isR hCs hRs hk.2.1 hk.2.2 (va_runV (As := As) (rest := rest) (Ts := zz_w) ⟨hC.1, hC.2.1, hC.2.2.1, hC.2.2.2.1, hC.2.2.2.2.1⟩ (hM l H.size) ⟨zz_cbB hC.2.2.2.2.1 cw.1 hR.1, hC.2.2.2.2.1 _ cw.2.1, hC.2.2.2.2.1 _ cw.2.2⟩ (zz_preV hC hZ hs isC hCs hk.1 hc he) rfl hn hl.1 hst (lv_room hW) hdg hR.2) kk
theorem zz_vV {As : List Value} {b ci q0 : Nat} {fs : List Value} {T : u_T} {N : Nat} {Post : va_W → Prop} (hC : zz_C p s m args meth c g own cc nL ret) (hZ : zz_Z g A s.heap ws H locs) (hs : zz_hs g A s s.heap) (hl : lv_has ls nL lv) (cw : zz_cV own index y cc' nL' ret' np) (hM : zz_V g y (.code y cc' nL' ret') rm (.ref b :: As) wc Post)
    (isC isR : List Nat) (hCs : isC.map (fun i => ws[i]?) = wc.map some) (hRs : isR.map (fun i => ws[i]?) = wr.map some) (hk : va_nd isC = true ∧ va_nd isR = true ∧ ∀ i ∈ isR, i ∉ isC) (hc : classes[ci]? = some (y.cls, T, N)) (he : wc[q0]? = some (cw_o b ci fs)) (hn : As.length = np) (hst : st0 = As.reverse ++ .ref b :: rest) (hW : (rest.map fun v => v.category).sum ≤ 8) (hR : zz_rm R rm nL' cells slots) (hdg : decode cc pc = .ok (.invokevirtual index, 3))
    (kk : ∀ (u : va_W) (H1 : Heap) (locs1 : List Loc), Post u → zz_Z g A s.heap (wr ++ u) H1 locs1 → W p l e R s m args below meth c H1 locs1 (cells + rm.cells) (slots + rm.slots) Q (F0 m (pc + 3) ls rest)) : W p l e R s m args below meth c H locs cells slots Q (F0 m pc ls st0) := by
  refine zz_gov hZ isC isR hCs hRs hk.2.1 hk.2.2 (va_runV (As := As) (rest := rest) (Ts := zz_w) ⟨hC.1, hC.2.1, hC.2.2.1, hC.2.2.2.1, hC.2.2.2.2.1⟩ (hM l H.size) ⟨zz_cbB hC.2.2.2.2.1 cw.1 hR.1, hC.2.2.2.2.1 _ cw.2.1, hC.2.2.2.2.1 _ cw.2.2⟩ (zz_preV hC hZ hs isC hCs hk.1 hc he) rfl hn hl.1 hst (lv_room hW) hdg hR.2) kk
/-- invokestatic -/
theorem zz_iS {As : List Value} {Post : Int32 → va_W → Prop} (hC : zz_C p s m args meth c g own cc nL ret) (hZ : zz_Z g A s.heap ws H locs) (hs : zz_hs g A s s.heap) (hl : lv_has ls nL lv) (cw : zz_cS own index y cc' nL' ret' np) (hM : zz_I g y (.code y cc' nL' ret') rm As wc Post)
    (isC isR : List Nat) (hCs : isC.map (fun i => ws[i]?) = wc.map some) (hRs : isR.map (fun i => ws[i]?) = wr.map some) (hk : va_nd isC = true ∧ va_nd isR = true ∧ ∀ i ∈ isR, i ∉ isC) (hn : As.length = np) (hst : st0 = As.reverse ++ rest) (hW : (rest.map fun v => v.category).sum ≤ 8) (hR : zz_rm R rm nL' cells slots) (hdg : decode cc pc = .ok (.invokestatic index, 3))
    (kk : ∀ (r : Int32) (u : va_W) (H1 : Heap) (locs1 : List Loc), Post r u → zz_Z g A s.heap (wr ++ u) H1 locs1 → W p l e R s m args below meth c H1 locs1 (cells + rm.cells) (slots + rm.slots) Q (F0 m (pc + 3) ls (.int r :: rest))) : W p l e R s m args below meth c H locs cells slots Q (F0 m pc ls st0) := by
  refine zz_goi hZ isC isR hCs hRs hk.2.1 hk.2.2 (va_runS (As := As) (rest := rest) (Ts := zz_w) ⟨hC.1, hC.2.1, hC.2.2.1, hC.2.2.2.1, hC.2.2.2.2.1⟩ (hM l H.size) ⟨zz_cbB hC.2.2.2.2.1 cw.1 hR.1, hC.2.2.2.2.1 _ cw.2⟩ (zz_pre hC hZ hs isC hCs hk.1) rfl hn hl.1 hst (lv_room hW) hdg hR.2) kk
theorem zz_lS {As : List Value} {Post : Int64 → va_W → Prop} (hC : zz_C p s m args meth c g own cc nL ret) (hZ : zz_Z g A s.heap ws H locs) (hs : zz_hs g A s s.heap) (hl : lv_has ls nL lv) (cw : zz_cS own index y cc' nL' ret' np) (hM : zz_L g y (.code y cc' nL' ret') rm As wc Post)
    (isC isR : List Nat) (hCs : isC.map (fun i => ws[i]?) = wc.map some) (hRs : isR.map (fun i => ws[i]?) = wr.map some) (hk : va_nd isC = true ∧ va_nd isR = true ∧ ∀ i ∈ isR, i ∉ isC) (hn : As.length = np) (hst : st0 = As.reverse ++ rest) (hW : (rest.map fun v => v.category).sum ≤ 8) (hR : zz_rm R rm nL' cells slots) (hdg : decode cc pc = .ok (.invokestatic index, 3))
    (kk : ∀ (r : Int64) (u : va_W) (H1 : Heap) (locs1 : List Loc), Post r u → zz_Z g A s.heap (wr ++ u) H1 locs1 → W p l e R s m args below meth c H1 locs1 (cells + rm.cells) (slots + rm.slots) Q (F0 m (pc + 3) ls (.long r :: rest))) : W p l e R s m args below meth c H locs cells slots Q (F0 m pc ls st0) := by
  refine zz_gol hZ isC isR hCs hRs hk.2.1 hk.2.2 (va_runS (As := As) (rest := rest) (Ts := zz_w) ⟨hC.1, hC.2.1, hC.2.2.1, hC.2.2.2.1, hC.2.2.2.2.1⟩ (hM l H.size) ⟨zz_cbB hC.2.2.2.2.1 cw.1 hR.1, hC.2.2.2.2.1 _ cw.2⟩ (zz_pre hC hZ hs isC hCs hk.1) rfl hn hl.1 hst (lv_room hW) hdg hR.2) kk
/-- constructors: by a plain link; by a nest mate's -/
theorem zz_vI {As : List Value} {b : Nat} {Post : va_W → Prop} (hC : zz_C p s m args meth c g own cc nL ret) (hZ : zz_Z g A s.heap ws H locs) (hs : zz_hs g A s s.heap) (hl : lv_has ls nL lv) (cw : zz_cI own index y cc' nL' np) (hM : zz_V g y (.code y cc' nL' none) rm (.ref b :: As) wc Post)
    (isC isR : List Nat) (hCs : isC.map (fun i => ws[i]?) = wc.map some) (hRs : isR.map (fun i => ws[i]?) = wr.map some) (hk : va_nd isC = true ∧ va_nd isR = true ∧ ∀ i ∈ isR, i ∉ isC) (hn : As.length = np) (hst : st0 = As.reverse ++ .ref b :: rest) (hW : (rest.map fun v => v.category).sum ≤ 8) (hR : zz_rm R rm nL' cells slots) (hdg : decode cc pc = .ok (.invokespecial index, 3))
    (kk : ∀ (u : va_W) (H1 : Heap) (locs1 : List Loc), Post u → zz_Z g A s.heap (wr ++ u) H1 locs1 → W p l e R s m args below meth c H1 locs1 (cells + rm.cells) (slots + rm.slots) Q (F0 m (pc + 3) ls rest)) : W p l e R s m args below meth c H locs cells slots Q (F0 m pc ls st0) := by
  refine zz_gov hZ isC isR hCs hRs hk.2.1 hk.2.2 (va_runI (As := As) (rest := rest) (Ts := zz_w) ⟨hC.1, hC.2.1, hC.2.2.1, hC.2.2.2.1, hC.2.2.2.2.1⟩ (hM l H.size) ⟨zz_cbB hC.2.2.2.2.1 cw.1 hR.1, cw.2.1, hC.2.2.2.2.1 _ cw.2.2⟩ (zz_pre hC hZ hs isC hCs hk.1) rfl hn hl.1 hst (lv_room hW) hdg hR.2) kk
theorem zz_vN {As : List Value} {b : Nat} {host : String} {Post : va_W → Prop} (hC : zz_C p s m args meth c g own cc nL ret) (hZ : zz_Z g A s.heap ws H locs) (hs : zz_hs g A s s.heap) (hl : lv_has ls nL lv) (cw : zz_cN own index y host cc' nL' np) (hM : zz_V g y (.code y cc' nL' none) rm (.ref b :: As) wc Post)
    (isC isR : List Nat) (hCs : isC.map (fun i => ws[i]?) = wc.map some) (hRs : isR.map (fun i => ws[i]?) = wr.map some) (hk : va_nd isC = true ∧ va_nd isR = true ∧ ∀ i ∈ isR, i ∉ isC) (hn : As.length = np) (hst : st0 = As.reverse ++ .ref b :: rest) (hW : (rest.map fun v => v.category).sum ≤ 8) (hR : zz_rm R rm nL' cells slots) (hdg : decode cc pc = .ok (.invokespecial index, 3))
    (kk : ∀ (u : va_W) (H1 : Heap) (locs1 : List Loc), Post u → zz_Z g A s.heap (wr ++ u) H1 locs1 → W p l e R s m args below meth c H1 locs1 (cells + rm.cells) (slots + rm.slots) Q (F0 m (pc + 3) ls rest)) : W p l e R s m args below meth c H locs cells slots Q (F0 m pc ls st0) := by
  obtain ⟨c1, c2, c3, c4, c5, c6⟩ := cw
  refine zz_gov hZ isC isR hCs hRs hk.2.1 hk.2.2 (va_runIN (As := As) (rest := rest) (Ts := zz_w) (host := host) ⟨hC.1, hC.2.1, hC.2.2.1, hC.2.2.2.1, hC.2.2.2.2.1⟩ (hM l H.size) ⟨va_cnB np hC.2.2.2.2.1 (zz_good c2) rfl rfl rfl (hC.2.2.2.2.2.2.2.2.1 _ c1) (hC.2.2.2.2.1 _ c3) c4 hR.1, c5, hC.2.2.2.2.1 _ c6⟩ (zz_pre hC hZ hs isC hCs hk.1) rfl hn hl.1 hst (lv_room hW) hdg hR.2) kk
end zzCalls
section zzHeap
variable {p : Program} {l : Launch} {e : Env} {R : Room} {s : State} {m : MethodId} {args : Array Value} {below : List Frame} {meth : Method} {c : Code} {H : Heap} {locs : List Loc} {cells slots : Nat} {Q : State → Prop}
variable {cc : ByteArray} {pc : Nat} {ls : Array Slot} {rest : List Value} {g : zz_G} {A : Nat → Prop} {a : Nat} {ws : va_W} {own : String} {nL index ci k : Nat} {ret : Option FieldType}
/-- a field, as the tables tell it: of the class ci its k-th -/
def zz_f (own : String) (index ci k : Nat) : Prop := ∃ (C : String) (T : u_T) (N : Nat), classes[ci]? = some (C, T, N) ∧ (∀ w ∈ u_ws C T N, w ∈ zz_w) ∧ k < N ∧ Cond.fieldLink own index (T k).1 (T k).2.1 (T k).2.2.1 ∈ zz_w
def zz_fw (own : String) (index ci k : Nat) (fin : Bool) (ty : FieldType) : Prop := ∃ (C : String) (T : u_T) (N : Nat) (ty0 : Nat → FieldType), classes[ci]? = some (C, T, N) ∧ (∀ w ∈ u_ws C T N, w ∈ zz_w) ∧ k < N ∧ Cond.fieldLink own index (T k).1 (T k).2.1 (T k).2.2.1 ∈ zz_w ∧
  (∀ k, k < N → parseFieldDescriptor (T k).2.2.1 = some (ty0 k)) ∧ (∀ a, a < N → ∀ b, b < N → a ≠ b → (T a).2.1 ≠ (T b).2.1) ∧ (T k).2.2.2 = fin ∧ parseFieldDescriptor (T k).2.2.1 = some ty ∧ (fin = true → (T k).1 = own)
theorem zz_get (hC : zz_C p s m args meth c g own cc nL ret) (hZ : zz_Z g A s.heap ws H locs) (q0 : Nat) {fs : List Value} (he : ws[q0]? = some (cw_o a ci fs)) (hf : zz_f own index ci k) {v : Value} (hv : fs[k]? = some v) (hdg : decode cc pc = .ok (.getfield index, 3))
    (kk : W p l e R s m args below meth c H locs cells slots Q (F0 m (pc + 3) ls (v :: rest))) : W p l e R s m args below meth c H locs cells slots Q (F0 m pc ls (.ref a :: rest)) := by
  obtain ⟨C, T, N, f1, f2, f3, f4⟩ := hf
  exact va_get hC.1 hC.2.1 hC.2.2.2.2.1 f2 hC.2.2.2.1 hC.2.2.2.2.2.2.2.1 hZ.1 q0 he f1 k f3 (hC.2.2.2.2.1 _ f4) (fun _ h => h) hv hdg kk
theorem zz_put {x : Int32} (hC : zz_C p s m args meth c g own cc nL ret) (hZ : zz_Z g A s.heap ws H locs) (q0 : Nat) {fs : List Value} (he : ws[q0]? = some (cw_o a ci fs)) (hf : zz_fw own index ci k false .int) (hl : k < fs.length) (hdg : decode cc pc = .ok (.putfield index, 3))
    (kk : ∀ (H1 : Heap) (locs1 : List Loc), zz_Z g A s.heap (ws.set q0 (cw_o a ci (fs.set k (.int x)))) H1 locs1 → W p l e R s m args below meth c H1 locs1 cells slots Q (F0 m (pc + 3) ls rest)) : W p l e R s m args below meth c H locs cells slots Q (F0 m pc ls (.int x :: .ref a :: rest)) := by
  obtain ⟨C, T, N, ty0, f1, f2, f3, f4, f5, f6, f7, f8, -⟩ := hf
  obtain ⟨hP, hD, hS, hA⟩ := hZ
  exact va_put (v := .int x) hC.1 hC.2.1 hC.2.2.2.2.1 f2 ty0 f5 f6 hC.2.2.2.1 hC.2.2.2.2.2.2.2.1 hP hD hS q0 he f1 k f3 (hC.2.2.2.2.1 _ f4) (fun _ h => h) f7 f8 rfl rfl hl hdg (fun H1 locs1 a1 a2 a3 => kk H1 locs1 ⟨a1, a2, a3, hA⟩)
theorem zz_putF {v : Value} {ty : FieldType} (hC : zz_C p s m args meth c g own cc nL ret) (hin : meth.name = "<init>") (hZ : zz_Z g A s.heap ws H locs) (q0 : Nat) {fs : List Value} (he : ws[q0]? = some (cw_o a ci fs)) (hf : zz_fw own index ci k true ty) (hn : narrow ty v = v) (hfit : fits ty v = true) (hl : k < fs.length) (hdg : decode cc pc = .ok (.putfield index, 3))
    (kk : ∀ (H1 : Heap) (locs1 : List Loc), zz_Z g A s.heap (ws.set q0 (cw_o a ci (fs.set k v))) H1 locs1 → W p l e R s m args below meth c H1 locs1 cells slots Q (F0 m (pc + 3) ls rest)) : W p l e R s m args below meth c H locs cells slots Q (F0 m pc ls (v :: .ref a :: rest)) := by
  obtain ⟨C, T, N, ty0, f1, f2, f3, f4, f5, f6, f7, f8, f9⟩ := hf
  obtain ⟨hP, hD, hS, hA⟩ := hZ
  exact va_putF (v := v) hC.1 hC.2.1 hC.2.2.2.2.1 f2 ty0 f5 f6 hC.2.2.2.1 hC.2.2.2.2.2.2.2.1 hP hD hS q0 he f1 k f3 (hC.2.2.2.2.1 _ f4) (fun _ h => h) f7 hin (f9 rfl) f8 hn hfit hl hdg (fun H1 locs1 a1 a2 a3 => kk H1 locs1 ⟨a1, a2, a3, hA⟩)
theorem zz_iald (hC : zz_C p s m args meth c g own cc nL ret) (hZ : zz_Z g A s.heap ws H locs) (q0 : Nat) {n : Nat} {f : Nat → Int32} (ha : ws[q0]? = some (cw_i g a n f)) {i : Int32} (hin : vp_in i n) (hdg : decode cc pc = .ok (.iaload, 1))
    (kk : W p l e R s m args below meth c H locs cells slots Q (F0 m (pc + 1) ls (.int (f i.toNatClampNeg) :: rest))) : W p l e R s m args below meth c H locs cells slots Q (F0 m pc ls (.int i :: .ref a :: rest)) :=
  va_iald hC.1 hC.2.1 hC.2.2.2.2.2.2.2.1 hZ.1 q0 0 ha rfl hin hdg kk
theorem zz_lald (hC : zz_C p s m args meth c g own cc nL ret) (hZ : zz_Z g A s.heap ws H locs) (q0 : Nat) {n : Nat} {f : Nat → Int64} (ha : ws[q0]? = some (cw_l g a n f)) {i : Int32} (hin : vp_in i n) (hdg : decode cc pc = .ok (.laload, 1))
    (kk : W p l e R s m args below meth c H locs cells slots Q (F0 m (pc + 1) ls (.long (f i.toNatClampNeg) :: rest))) : W p l e R s m args below meth c H locs cells slots Q (F0 m pc ls (.int i :: .ref a :: rest)) :=
  va_lald hC.1 hC.2.1 hC.2.2.2.2.2.2.2.1 hZ.1 q0 1 ha rfl hin hdg kk
theorem zz_zald (hC : zz_C p s m args meth c g own cc nL ret) (hZ : zz_Z g A s.heap ws H locs) (q0 : Nat) {n : Nat} {f : Nat → Int32} (ha : ws[q0]? = some (cw_z g a n f)) {i : Int32} (hin : vp_in i n) (hdg : decode cc pc = .ok (.baload, 1))
    (kk : W p l e R s m args below meth c H locs cells slots Q (F0 m (pc + 1) ls (.int (f i.toNatClampNeg) :: rest))) : W p l e R s m args below meth c H locs cells slots Q (F0 m pc ls (.int i :: .ref a :: rest)) :=
  va_zald hC.1 hC.2.1 hC.2.2.2.2.2.2.2.1 hZ.1 q0 2 ha rfl hin hdg kk
theorem zz_aald (hC : zz_C p s m args meth c g own cc nL ret) (hZ : zz_Z g A s.heap ws H locs) (q0 : Nat) {n : Nat} {f : Nat → Option Nat} (ha : ws[q0]? = some (cw_q g a n f)) {i : Int32} (hin : vp_in i n) (hdg : decode cc pc = .ok (.aaload, 1))
    (kk : W p l e R s m args below meth c H locs cells slots Q (F0 m (pc + 1) ls (va_rf (f i.toNatClampNeg) :: rest))) : W p l e R s m args below meth c H locs cells slots Q (F0 m pc ls (.int i :: .ref a :: rest)) :=
  va_aldq hC.1 hC.2.1 hC.2.2.2.2.2.2.2.1 hZ.1 q0 3 ha rfl hin hdg kk
theorem zz_iast (hC : zz_C p s m args meth c g own cc nL ret) (hZ : zz_Z g A s.heap ws H locs) (q0 : Nat) {n : Nat} {f : Nat → Int32} (ha : ws[q0]? = some (cw_i g a n f)) {i x : Int32} (hin : vp_in i n) (hdg : decode cc pc = .ok (.iastore, 1))
    (kk : ∀ (H1 : Heap) (locs1 : List Loc), zz_Z g A s.heap (ws.set q0 (cw_i g a n (upd f i.toNatClampNeg x))) H1 locs1 → W p l e R s m args below meth c H1 locs1 cells slots Q (F0 m (pc + 1) ls rest)) : W p l e R s m args below meth c H locs cells slots Q (F0 m pc ls (.int x :: .int i :: .ref a :: rest)) :=
  va_iast hC.1 hC.2.1 hC.2.2.2.2.2.2.2.1 hZ.1 hZ.2.1 hZ.2.2.1 q0 0 ha rfl hin hdg (fun H1 locs1 a1 a2 a3 => kk H1 locs1 ⟨a1, a2, a3, hZ.2.2.2⟩)
theorem zz_zast (hC : zz_C p s m args meth c g own cc nL ret) (hZ : zz_Z g A s.heap ws H locs) (q0 : Nat) {n : Nat} {f : Nat → Int32} (ha : ws[q0]? = some (cw_z g a n f)) {i x : Int32} (hin : vp_in i n) (hdg : decode cc pc = .ok (.bastore, 1))
    (kk : ∀ (H1 : Heap) (locs1 : List Loc), zz_Z g A s.heap (ws.set q0 (cw_z g a n (upd f i.toNatClampNeg (x &&& 1)))) H1 locs1 → W p l e R s m args below meth c H1 locs1 cells slots Q (F0 m (pc + 1) ls rest)) : W p l e R s m args below meth c H locs cells slots Q (F0 m pc ls (.int x :: .int i :: .ref a :: rest)) :=
  va_zast hC.1 hC.2.1 hC.2.2.2.2.2.2.2.1 hZ.1 hZ.2.1 hZ.2.2.1 q0 2 ha rfl hin hdg (fun H1 locs1 a1 a2 a3 => kk H1 locs1 ⟨a1, a2, a3, hZ.2.2.2⟩)
theorem zz_last (hC : zz_C p s m args meth c g own cc nL ret) (hZ : zz_Z g A s.heap ws H locs) (q0 : Nat) {n : Nat} {f : Nat → Int64} (ha : ws[q0]? = some (cw_l g a n f)) {i : Int32} {x : Int64} (hin : vp_in i n) (hdg : decode cc pc = .ok (.lastore, 1))
    (kk : ∀ (H1 : Heap) (locs1 : List Loc), zz_Z g A s.heap (ws.set q0 (cw_l g a n (vp_updL f i.toNatClampNeg x))) H1 locs1 → W p l e R s m args below meth c H1 locs1 cells slots Q (F0 m (pc + 1) ls rest)) : W p l e R s m args below meth c H locs cells slots Q (F0 m pc ls (.long x :: .int i :: .ref a :: rest)) :=
  va_last hC.1 hC.2.1 hC.2.2.2.2.2.2.2.1 hZ.1 hZ.2.1 hZ.2.2.1 q0 1 ha rfl hin hdg (fun H1 locs1 a1 a2 a3 => kk H1 locs1 ⟨a1, a2, a3, hZ.2.2.2⟩)
theorem zz_RA {U : State} {c1 c2 : ClassId} {ty : FieldType} (h1 : va_RA U c1 ty) (h2 : va_RA U c2 ty) : c1 = c2 := by
  cases ty with
  | object C =>
    obtain ⟨_, _, _, _, _, h4⟩ := h1
    obtain ⟨_, _, _, _, _, h4'⟩ := h2
    exact Option.some.inj (h4.symm.trans h4')
  | _ => exact Option.some.inj (h1.symm.trans h2)
theorem zz_newi {n : Int32} {N' : Nat} (hC : zz_C p s m args meth c g own cc nL ret) (hZ : zz_Z g A s.heap ws H locs) (hin : Cond.arrayClass .int ∈ zz_w) (hn : ¬ n < 0) (hN : n.toNatClampNeg = N') (hb : N' * 4 ≤ 536870912) (hcells : cells + 1 ≤ R.cells) (hslots : slots + N' ≤ R.slots) (hdg : decode cc pc = .ok (.newarray .int, 2))
    (kk : ∀ (q : Nat) (H1 : Heap), zz_Z g A s.heap (ws ++ [(cw_i g q N' (fun _ => 0))]) H1 locs → W p l e R s m args below meth c H1 locs (cells + 1) (slots + N') Q (F0 m (pc + 2) ls (.ref q :: rest))) : W p l e R s m args below meth c H locs cells slots Q (F0 m pc ls (.int n :: rest)) := by
  obtain ⟨hP, hD, hS, hA⟩ := hZ
  have hK := hC.2.2.2.2.2.2.2.1
  refine va_newa (atype := .int) (ty := .int) (a0 := (N', .inl (fun _ => 0))) hC.1 hC.2.1 (hC.2.2.2.2.1 _ hin) rfl hK hP hD hS hA (fun cA => rfl) hn hN hb hcells hslots hdg (fun q cA H1 k1 k2 k3 k4 => ?_)
  have e : cA = g.2.1 := zz_RA (k1.2 4 _ rfl).2 (hK.2 0 _ rfl).2
  subst e
  exact kk q H1 ⟨k2, k3, k4, hA⟩
theorem zz_newl {n : Int32} {N' : Nat} (hC : zz_C p s m args meth c g own cc nL ret) (hZ : zz_Z g A s.heap ws H locs) (hin : Cond.arrayClass .long ∈ zz_w) (hn : ¬ n < 0) (hN : n.toNatClampNeg = N') (hb : N' * 8 ≤ 536870912) (hcells : cells + 1 ≤ R.cells) (hslots : slots + N' ≤ R.slots) (hdg : decode cc pc = .ok (.newarray .long, 2))
    (kk : ∀ (q : Nat) (H1 : Heap), zz_Z g A s.heap (ws ++ [(cw_l g q N' (fun _ => 0))]) H1 locs → W p l e R s m args below meth c H1 locs (cells + 1) (slots + N') Q (F0 m (pc + 2) ls (.ref q :: rest))) : W p l e R s m args below meth c H locs cells slots Q (F0 m pc ls (.int n :: rest)) := by
  obtain ⟨hP, hD, hS, hA⟩ := hZ
  have hK := hC.2.2.2.2.2.2.2.1
  refine va_newa (atype := .long) (ty := .long) (a0 := (N', .inr (.inl (fun _ => 0)))) hC.1 hC.2.1 (hC.2.2.2.2.1 _ hin) rfl hK hP hD hS hA (fun cA => rfl) hn hN hb hcells hslots hdg (fun q cA H1 k1 k2 k3 k4 => ?_)
  have e : cA = g.2.2.1 := zz_RA (k1.2 4 _ rfl).2 (hK.2 1 _ rfl).2
  subst e
  exact kk q H1 ⟨k2, k3, k4, hA⟩
theorem zz_newz {n : Int32} {N' : Nat} (hC : zz_C p s m args meth c g own cc nL ret) (hZ : zz_Z g A s.heap ws H locs) (hin : Cond.arrayClass .boolean ∈ zz_w) (hn : ¬ n < 0) (hN : n.toNatClampNeg = N') (hb : N' * 1 ≤ 536870912) (hcells : cells + 1 ≤ R.cells) (hslots : slots + N' ≤ R.slots) (hdg : decode cc pc = .ok (.newarray .boolean, 2))
    (kk : ∀ (q : Nat) (H1 : Heap), zz_Z g A s.heap (ws ++ [(cw_z g q N' (fun _ => 0))]) H1 locs → W p l e R s m args below meth c H1 locs (cells + 1) (slots + N') Q (F0 m (pc + 2) ls (.ref q :: rest))) : W p l e R s m args below meth c H locs cells slots Q (F0 m pc ls (.int n :: rest)) := by
  obtain ⟨hP, hD, hS, hA⟩ := hZ
  have hK := hC.2.2.2.2.2.2.2.1
  refine va_newa (atype := .boolean) (ty := .boolean) (a0 := (N', .inl (fun _ => 0))) hC.1 hC.2.1 (hC.2.2.2.2.1 _ hin) rfl hK hP hD hS hA (fun cA => rfl) hn hN hb hcells hslots hdg (fun q cA H1 k1 k2 k3 k4 => ?_)
  have e : cA = g.2.2.2.1 := zz_RA (k1.2 4 _ rfl).2 (hK.2 2 _ rfl).2
  subst e
  exact kk q H1 ⟨k2, k3, k4, hA⟩
theorem zz_newq {n : Int32} {N' : Nat} (hC : zz_C p s m args meth c g own cc nL ret) (hZ : zz_Z g A s.heap ws H locs) (hin : Cond.classLink own index zz_RM ∈ zz_w) (hn : ¬ n < 0) (hN : n.toNatClampNeg = N') (hb : N' * 4 ≤ 536870912) (hcells : cells + 1 ≤ R.cells) (hslots : slots + N' ≤ R.slots) (hdg : decode cc pc = .ok (.anewarray index, 3))
    (kk : ∀ (q : Nat) (H1 : Heap), zz_Z g A s.heap (ws ++ [(cw_q g q N' (fun _ => none))]) H1 locs → W p l e R s m args below meth c H1 locs (cells + 1) (slots + N') Q (F0 m (pc + 3) ls (.ref q :: rest))) : W p l e R s m args below meth c H locs cells slots Q (F0 m pc ls (.int n :: rest)) := by
  obtain ⟨hP, hD, hS, hA⟩ := hZ
  have hK := hC.2.2.2.2.2.2.2.1
  refine va_newq hC.1 hC.2.1 hC.2.2.2.1 (hC.2.2.2.2.1 _ hin) hC.2.2.2.2.2.2.2.2.2 hK hP hD hS hA hn hN hb hcells hslots hdg (fun q cA H1 k1 k2 k3 k4 => ?_)
  have e : cA = g.2.2.2.2.1 := zz_RA (k1.2 4 _ rfl).2 (hK.2 3 _ rfl).2
  subst e
  exact kk q H1 ⟨k2, k3, k4, hA⟩
/-- a class that can be made, as the tables tell it -/
def zz_n (own : String) (index ci N : Nat) (fs : List Value) : Prop := ∃ (C : String) (T : u_T) (ty : Nat → FieldType), classes[ci]? = some (C, T, N) ∧ (∀ w ∈ u_ws C T N, w ∈ zz_w) ∧ (∀ k, k < N → parseFieldDescriptor (T k).2.2.1 = some (ty k)) ∧ Cond.classLink own index C ∈ zz_w ∧ Cond.instantiable C N ∈ zz_w ∧ Cond.initialized C ∈ zz_w ∧ ∀ j, j < N → defaultValue (ty j) = vp_V fs j
theorem zz_new {N : Nat} {fs : List Value} (hC : zz_C p s m args meth c g own cc nL ret) (hZ : zz_Z g A s.heap ws H locs) (hf : zz_n own index ci N fs) (hcells : cells + 1 ≤ R.cells) (hslots : slots + N ≤ R.slots) (hdg : decode cc pc = .ok (.new index, 3))
    (kk : ∀ (q : Nat) (H1 : Heap), zz_Z g A s.heap (ws ++ [(cw_o q ci fs)]) H1 locs → W p l e R s m args below meth c H1 locs (cells + 1) (slots + N) Q (F0 m (pc + 3) ls (.ref q :: rest))) : W p l e R s m args below meth c H locs cells slots Q (F0 m pc ls rest) := by
  obtain ⟨C, T, ty, f1, f2, f3, f4, f5, f6, f7⟩ := hf
  obtain ⟨hP, hD, hS, hA⟩ := hZ
  exact va_new hC.1 hC.2.1 hC.2.2.2.2.1 f2 ty f3 hC.2.2.2.1 (hC.2.2.2.2.1 _ f4) (hC.2.2.2.2.1 _ f5) (hC.2.2.2.2.1 _ f6) hC.2.2.2.2.2.2.2.1 hP hD hS hA f1 f7 hcells hslots hdg (fun q H1 a1 a2 a3 => kk q H1 ⟨a1, a2, a3, hA⟩)
theorem zz_obj (hC : zz_C p s m args meth c g own cc nL ret) {lv : List (Nat × Value)} (hl : lv_has ls nL lv) (hin : Cond.methodLink own index objectInit ∈ zz_w) (hi2 : Cond.instanceMethod objectInit ∈ zz_w) (hi3 : Cond.code objectInit ⟨#[0xb1]⟩ 1 none ∈ zz_w) (hf : 1 ≤ R.frames) (hlo : (rest.map fun v => v.category).sum + 12 ≤ R.locals) (hdg : decode cc pc = .ok (.invokespecial index, 3))
    (kk : W p l e R s m args below meth c H locs cells slots Q (F0 m (pc + 3) ls rest)) : W p l e R s m args below meth c H locs cells slots Q (F0 m pc ls (.ref a :: rest)) := by
  refine W.objInit hC.1 hC.2.1 hC.2.2.2.1 (hC.2.2.2.2.1 _ hin) (hC.2.2.2.2.1 _ hi2) (hC.2.2.2.2.1 _ hi3) rfl (by rw [hC.2.2.1]; exact hl.1) rfl hdg hf (by simpa [JFrame.monitorRoom] using hlo) kk
/-- lcmp and the branch behind it -/
theorem zz_lcmp_lt {x y : Int64} {off : Int} {tgt : Nat} (hC : zz_C p s m args meth c g own cc nL ret) (h1 : decode cc pc = .ok (.lcmp, 1)) (h2 : decode cc (pc + 1) = .ok (.ifCond .lt off, 3)) (ht : ((pc + 1 : Nat) : Int) + off = (tgt : Int))
    (kt : x < y → W p l e R s m args below meth c H locs cells slots Q (F0 m tgt ls rest)) (kf : ¬ x < y → W p l e R s m args below meth c H locs cells slots Q (F0 m (pc + 4) ls rest)) : W p l e R s m args below meth c H locs cells slots Q (F0 m pc ls (.long y :: .long x :: rest)) :=
  W.lcmp hC.1 hC.2.1 h1 (lv_if_lt hC.1 hC.2.1 h2 ht (fun q => kt ((lg_cmp_lt x y).mp q)) (fun q => kf (fun z => q ((lg_cmp_lt x y).mpr z))))
theorem zz_lcmp_ge {x y : Int64} {off : Int} {tgt : Nat} (hC : zz_C p s m args meth c g own cc nL ret) (h1 : decode cc pc = .ok (.lcmp, 1)) (h2 : decode cc (pc + 1) = .ok (.ifCond .ge off, 3)) (ht : ((pc + 1 : Nat) : Int) + off = (tgt : Int))
    (kt : y ≤ x → W p l e R s m args below meth c H locs cells slots Q (F0 m tgt ls rest)) (kf : ¬ y ≤ x → W p l e R s m args below meth c H locs cells slots Q (F0 m (pc + 4) ls rest)) : W p l e R s m args below meth c H locs cells slots Q (F0 m pc ls (.long y :: .long x :: rest)) :=
  W.lcmp hC.1 hC.2.1 h1 (lv_if_ge hC.1 hC.2.1 h2 ht (fun q => kt ((lg_cmp_ge x y).mp q)) (fun q => kf (fun z => q ((lg_cmp_ge x y).mpr z))))
theorem zz_lcmp_gt {x y : Int64} {off : Int} {tgt : Nat} (hC : zz_C p s m args meth c g own cc nL ret) (h1 : decode cc pc = .ok (.lcmp, 1)) (h2 : decode cc (pc + 1) = .ok (.ifCond .gt off, 3)) (ht : ((pc + 1 : Nat) : Int) + off = (tgt : Int))
    (kt : y < x → W p l e R s m args below meth c H locs cells slots Q (F0 m tgt ls rest)) (kf : ¬ y < x → W p l e R s m args below meth c H locs cells slots Q (F0 m (pc + 4) ls rest)) : W p l e R s m args below meth c H locs cells slots Q (F0 m pc ls (.long y :: .long x :: rest)) :=
  W.lcmp hC.1 hC.2.1 h1 (lv_if_gt hC.1 hC.2.1 h2 ht (fun q => kt ((lg_cmp_gt x y).mp q)) (fun q => kf (fun z => q ((lg_cmp_gt x y).mpr z))))
theorem zz_lcmp_le {x y : Int64} {off : Int} {tgt : Nat} (hC : zz_C p s m args meth c g own cc nL ret) (h1 : decode cc pc = .ok (.lcmp, 1)) (h2 : decode cc (pc + 1) = .ok (.ifCond .le off, 3)) (ht : ((pc + 1 : Nat) : Int) + off = (tgt : Int))
    (kt : x ≤ y → W p l e R s m args below meth c H locs cells slots Q (F0 m tgt ls rest)) (kf : ¬ x ≤ y → W p l e R s m args below meth c H locs cells slots Q (F0 m (pc + 4) ls rest)) : W p l e R s m args below meth c H locs cells slots Q (F0 m pc ls (.long y :: .long x :: rest)) :=
  W.lcmp hC.1 hC.2.1 h1 (lv_if_le hC.1 hC.2.1 h2 ht (fun q => kt ((lg_cmp_le x y).mp q)) (fun q => kf (fun z => q ((lg_cmp_le x y).mpr z))))
theorem zz_lcmp_eq {x y : Int64} {off : Int} {tgt : Nat} (hC : zz_C p s m args meth c g own cc nL ret) (h1 : decode cc pc = .ok (.lcmp, 1)) (h2 : decode cc (pc + 1) = .ok (.ifCond .eq off, 3)) (ht : ((pc + 1 : Nat) : Int) + off = (tgt : Int))
    (kt : x = y → W p l e R s m args below meth c H locs cells slots Q (F0 m tgt ls rest)) (kf : ¬ x = y → W p l e R s m args below meth c H locs cells slots Q (F0 m (pc + 4) ls rest)) : W p l e R s m args below meth c H locs cells slots Q (F0 m pc ls (.long y :: .long x :: rest)) :=
  W.lcmp hC.1 hC.2.1 h1 (lv_if_eq hC.1 hC.2.1 h2 ht (fun q => kt ((lg_cmp_eq x y).mp q)) (fun q => kf (fun z => q ((lg_cmp_eq x y).mpr z))))
theorem zz_lcmp_ne {x y : Int64} {off : Int} {tgt : Nat} (hC : zz_C p s m args meth c g own cc nL ret) (h1 : decode cc pc = .ok (.lcmp, 1)) (h2 : decode cc (pc + 1) = .ok (.ifCond .ne off, 3)) (ht : ((pc + 1 : Nat) : Int) + off = (tgt : Int))
    (kt : ¬ x = y → W p l e R s m args below meth c H locs cells slots Q (F0 m tgt ls rest)) (kf : x = y → W p l e R s m args below meth c H locs cells slots Q (F0 m (pc + 4) ls rest)) : W p l e R s m args below meth c H locs cells slots Q (F0 m pc ls (.long y :: .long x :: rest)) :=
  W.lcmp hC.1 hC.2.1 h1 (lv_if_ne hC.1 hC.2.1 h2 ht (fun q => kt (fun z => q ((lg_cmp_eq x y).mpr z))) (fun q => kf ((lg_cmp_eq x y).mp q)))
end zzHeap
section zzRefs
variable {p : Program} {l : Launch} {e : Env} {R : Room} {s : State} {m : MethodId} {args : Array Value} {below : List Frame} {meth : Method} {c : Code} {H : Heap} {locs : List Loc} {cells slots : Nat} {Q : State → Prop}
variable {cc : ByteArray} {pc : Nat} {ls : Array Slot} {rest : List Value} {g : zz_G} {A : Nat → Prop} {a : Nat} {ws : va_W} {own : String} {nL : Nat} {ret : Option FieldType}
theorem zz_topv {x v : Value} (h : x = v) (k : W p l e R s m args below meth c H locs cells slots Q (F0 m pc ls (v :: rest))) : W p l e R s m args below meth c H locs cells slots Q (F0 m pc ls (x :: rest)) := h ▸ k
theorem zz_aast (hC : zz_C p s m args meth c g own cc nL ret) (hZ : zz_Z g A s.heap ws H locs) (q0 qk ci : Nat) {T : u_T} {N n v : Nat} {vs : List Value} {f : Nat → Option Nat} (ha : ws[q0]? = some (cw_q g a n f)) (hv : ws[qk]? = some (cw_o v ci vs)) (hc : classes[ci]? = some (zz_RM, T, N)) {i : Int32} (hin : vp_in i n) (hdg : decode cc pc = .ok (.aastore, 1))
    (kk : ∀ (H1 : Heap) (locs1 : List Loc), zz_Z g A s.heap (ws.set q0 (cw_q g a n (va_up f i.toNatClampNeg (some v)))) H1 locs1 → W p l e R s m args below meth c H1 locs1 cells slots Q (F0 m (pc + 1) ls rest)) : W p l e R s m args below meth c H locs cells slots Q (F0 m pc ls (.ref v :: .int i :: .ref a :: rest)) :=
  va_astq (r := (zz_RM, T, N)) hC.1 hC.2.1 hC.2.2.2.2.2.2.2.1 hZ.1 hZ.2.1 hZ.2.2.1 q0 3 qk ci ha rfl hv hc hin hdg (fun H1 locs1 a1 a2 a3 => kk H1 locs1 ⟨a1, a2, a3, hZ.2.2.2⟩)
/-- the static arrays -/
theorem zz_gets {n : String} {q : Nat} {f : Nat → Int64} {index : Nat} (hC : zz_C p s m args meth c g own cc nL ret) (hh : zz_h1 n q f A s s.heap) (hZ : zz_Z g A s.heap ws H locs) (hlink : Cond.fieldLink own index zz_RK n "[J" ∈ zz_w) (hdg : decode cc pc = .ok (.getstatic index, 3))
    (kk : W p l e R s m args below meth c H locs cells slots Q (F0 m (pc + 3) ls (.ref q :: rest))) : W p l e R s m args below meth c H locs cells slots Q (F0 m pc ls rest) :=
  va_gets hC.1 hC.2.1 hh.1 hZ.2.2.1 hC.2.2.2.1 (hC.2.2.2.2.1 _ hlink) (fun _ h => h) hdg kk
theorem zz_slald {n : String} {q : Nat} {f : Nat → Int64} (hC : zz_C p s m args meth c g own cc nL ret) (hh : zz_h1 n q f A s s.heap) (hZ : zz_Z g A s.heap ws H locs) {i : Int32} (hin : vp_in i 9) (hdg : decode cc pc = .ok (.laload, 1))
    (kk : W p l e R s m args below meth c H locs cells slots Q (F0 m (pc + 1) ls (.long (f i.toNatClampNeg) :: rest))) : W p l e R s m args below meth c H locs cells slots Q (F0 m pc ls (.int i :: .ref q :: rest)) := by
  obtain ⟨-, ⟨scr, h1, h2, h3, h4, h5⟩, hb, hA⟩ := hh
  have hlt : i.toNatClampNeg < 9 := Nat.not_le.mp fun q => hin (Or.inr q)
  have hin' : ¬ (i < 0 ∨ scr.slots.size ≤ i.toNatClampNeg) := by
    intro q
    rcases q with q | q
    · exact hin (Or.inl q)
    · omega
  exact W.lald (v := .long (f i.toNatClampNeg)) hC.1 hC.2.1 (by rw [hZ.2.2.1.2.1 q hb hA]; exact h1) h2 h3 hin' (h5 _ hlt) rfl rfl hdg kk
end zzRefs
theorem zl_nn {k : Int32} (h : ¬ k < 0) : 0 ≤ k := by
  rw [Int32.lt_iff_toInt_lt] at h
  rw [Int32.le_iff_toInt_le]
  omega
theorem zl_c0 : (0 : Int32).toNatClampNeg = 0 := by decide
theorem zl_c1 : (1 : Int32).toNatClampNeg = 1 := by decide
theorem zl_c2 : (2 : Int32).toNatClampNeg = 2 := by decide
theorem zl_c3 : (3 : Int32).toNatClampNeg = 3 := by decide
theorem zl_c4 : (4 : Int32).toNatClampNeg = 4 := by decide
theorem zl_c5 : (5 : Int32).toNatClampNeg = 5 := by decide
theorem zl_c6 : (6 : Int32).toNatClampNeg = 6 := by decide
theorem zl_c7 : (7 : Int32).toNatClampNeg = 7 := by decide
theorem zl_c8 : (8 : Int32).toNatClampNeg = 8 := by decide
theorem zl_swo {x : Int32} {n : Nat} (h : x.toInt < 0 ∨ (n : Int) ≤ x.toInt) (k : Nat) (hk : k < n) (hn : n < 2 ^ 31) : ¬ x = nI k := by
  intro e
  rw [e, nI_toInt (by omega)] at h
  omega
theorem zl_b01 {x : Int32} (h : x = 0 ∨ x = 1) : narrow .boolean (.int x) = .int x := by
  rcases h with rfl | rfl <;> rfl
theorem zl_i2l (x : Int32) : x.toInt64.toInt = x.toInt := by simp
/-- elements at a number: loads, stores -/
theorem zz_ialdn {p : Program} {l : Launch} {e : Env} {R : Room} {s : State} {m : MethodId} {args : Array Value} {below : List Frame} {meth : Method} {c : Code} {H : Heap} {locs : List Loc} {cells slots : Nat} {Q : State → Prop} {cc : ByteArray} {pc : Nat} {ls : Array Slot} {rest : List Value} {g : zz_G} {A : Nat → Prop} {a : Nat} {ws : va_W} {own : String} {nL : Nat} {ret : Option FieldType} (hC : zz_C p s m args meth c g own cc nL ret) (hZ : zz_Z g A s.heap ws H locs) (q0 : Nat) {N n : Nat} {f : Nat → Int32} (ha : ws[q0]? = some (cw_i g a N f)) (hn : n < N) (hN : N < 2 ^ 31) (hdg : decode cc pc = .ok (.iaload, 1)) (kk : W p l e R s m args below meth c H locs cells slots Q (F0 m (pc + 1) ls (.int (f n) :: rest))) : W p l e R s m args below meth c H locs cells slots Q (F0 m pc ls (.int (nI n) :: .ref a :: rest)) := zz_iald hC hZ q0 ha (vp_in_nI hn hN) hdg (by rw [nI_clamp (Nat.lt_trans hn hN)]; exact kk)
theorem zz_laldn {p : Program} {l : Launch} {e : Env} {R : Room} {s : State} {m : MethodId} {args : Array Value} {below : List Frame} {meth : Method} {c : Code} {H : Heap} {locs : List Loc} {cells slots : Nat} {Q : State → Prop} {cc : ByteArray} {pc : Nat} {ls : Array Slot} {rest : List Value} {g : zz_G} {A : Nat → Prop} {a : Nat} {ws : va_W} {own : String} {nL : Nat} {ret : Option FieldType} (hC : zz_C p s m args meth c g own cc nL ret) (hZ : zz_Z g A s.heap ws H locs) (q0 : Nat) {N n : Nat} {f : Nat → Int64} (ha : ws[q0]? = some (cw_l g a N f)) (hn : n < N) (hN : N < 2 ^ 31) (hdg : decode cc pc = .ok (.laload, 1)) (kk : W p l e R s m args below meth c H locs cells slots Q (F0 m (pc + 1) ls (.long (f n) :: rest))) : W p l e R s m args below meth c H locs cells slots Q (F0 m pc ls (.int (nI n) :: .ref a :: rest)) := zz_lald hC hZ q0 ha (vp_in_nI hn hN) hdg (by rw [nI_clamp (Nat.lt_trans hn hN)]; exact kk)
theorem zz_zaldn {p : Program} {l : Launch} {e : Env} {R : Room} {s : State} {m : MethodId} {args : Array Value} {below : List Frame} {meth : Method} {c : Code} {H : Heap} {locs : List Loc} {cells slots : Nat} {Q : State → Prop} {cc : ByteArray} {pc : Nat} {ls : Array Slot} {rest : List Value} {g : zz_G} {A : Nat → Prop} {a : Nat} {ws : va_W} {own : String} {nL : Nat} {ret : Option FieldType} (hC : zz_C p s m args meth c g own cc nL ret) (hZ : zz_Z g A s.heap ws H locs) (q0 : Nat) {N n : Nat} {f : Nat → Int32} (ha : ws[q0]? = some (cw_z g a N f)) (hn : n < N) (hN : N < 2 ^ 31) (hdg : decode cc pc = .ok (.baload, 1)) (kk : W p l e R s m args below meth c H locs cells slots Q (F0 m (pc + 1) ls (.int (f n) :: rest))) : W p l e R s m args below meth c H locs cells slots Q (F0 m pc ls (.int (nI n) :: .ref a :: rest)) := zz_zald hC hZ q0 ha (vp_in_nI hn hN) hdg (by rw [nI_clamp (Nat.lt_trans hn hN)]; exact kk)
theorem zz_iastn {p : Program} {l : Launch} {e : Env} {R : Room} {s : State} {m : MethodId} {args : Array Value} {below : List Frame} {meth : Method} {c : Code} {H : Heap} {locs : List Loc} {cells slots : Nat} {Q : State → Prop} {cc : ByteArray} {pc : Nat} {ls : Array Slot} {rest : List Value} {g : zz_G} {A : Nat → Prop} {a : Nat} {ws : va_W} {own : String} {nL : Nat} {ret : Option FieldType} (hC : zz_C p s m args meth c g own cc nL ret) (hZ : zz_Z g A s.heap ws H locs) (q0 : Nat) {N n : Nat} {f : Nat → Int32} {x : Int32} (ha : ws[q0]? = some (cw_i g a N f)) (hn : n < N) (hN : N < 2 ^ 31) (hdg : decode cc pc = .ok (.iastore, 1)) (kk : ∀ (H1 : Heap) (locs1 : List Loc), zz_Z g A s.heap (ws.set q0 (cw_i g a N (upd f n x))) H1 locs1 → W p l e R s m args below meth c H1 locs1 cells slots Q (F0 m (pc + 1) ls rest)) : W p l e R s m args below meth c H locs cells slots Q (F0 m pc ls (.int x :: .int (nI n) :: .ref a :: rest)) := zz_iast hC hZ q0 ha (vp_in_nI hn hN) hdg (fun H1 locs1 h => kk H1 locs1 (by rw [nI_clamp (Nat.lt_trans hn hN)] at h; exact h))
theorem zz_lastn {p : Program} {l : Launch} {e : Env} {R : Room} {s : State} {m : MethodId} {args : Array Value} {below : List Frame} {meth : Method} {c : Code} {H : Heap} {locs : List Loc} {cells slots : Nat} {Q : State → Prop} {cc : ByteArray} {pc : Nat} {ls : Array Slot} {rest : List Value} {g : zz_G} {A : Nat → Prop} {a : Nat} {ws : va_W} {own : String} {nL : Nat} {ret : Option FieldType} (hC : zz_C p s m args meth c g own cc nL ret) (hZ : zz_Z g A s.heap ws H locs) (q0 : Nat) {N n : Nat} {f : Nat → Int64} {x : Int64} (ha : ws[q0]? = some (cw_l g a N f)) (hn : n < N) (hN : N < 2 ^ 31) (hdg : decode cc pc = .ok (.lastore, 1)) (kk : ∀ (H1 : Heap) (locs1 : List Loc), zz_Z g A s.heap (ws.set q0 (cw_l g a N (vp_updL f n x))) H1 locs1 → W p l e R s m args below meth c H1 locs1 cells slots Q (F0 m (pc + 1) ls rest)) : W p l e R s m args below meth c H locs cells slots Q (F0 m pc ls (.long x :: .int (nI n) :: .ref a :: rest)) := zz_last hC hZ q0 ha (vp_in_nI hn hN) hdg (fun H1 locs1 h => kk H1 locs1 (by rw [nI_clamp (Nat.lt_trans hn hN)] at h; exact h))
theorem zz_zastn {p : Program} {l : Launch} {e : Env} {R : Room} {s : State} {m : MethodId} {args : Array Value} {below : List Frame} {meth : Method} {c : Code} {H : Heap} {locs : List Loc} {cells slots : Nat} {Q : State → Prop} {cc : ByteArray} {pc : Nat} {ls : Array Slot} {rest : List Value} {g : zz_G} {A : Nat → Prop} {a : Nat} {ws : va_W} {own : String} {nL : Nat} {ret : Option FieldType} (hC : zz_C p s m args meth c g own cc nL ret) (hZ : zz_Z g A s.heap ws H locs) (q0 : Nat) {N n : Nat} {f : Nat → Int32} {x : Int32} (ha : ws[q0]? = some (cw_z g a N f)) (hn : n < N) (hN : N < 2 ^ 31) (hdg : decode cc pc = .ok (.bastore, 1)) (kk : ∀ (H1 : Heap) (locs1 : List Loc), zz_Z g A s.heap (ws.set q0 (cw_z g a N (upd f n (x &&& 1)))) H1 locs1 → W p l e R s m args below meth c H1 locs1 cells slots Q (F0 m (pc + 1) ls rest)) : W p l e R s m args below meth c H locs cells slots Q (F0 m pc ls (.int x :: .int (nI n) :: .ref a :: rest)) := zz_zast hC hZ q0 ha (vp_in_nI hn hN) hdg (fun H1 locs1 h => kk H1 locs1 (by rw [nI_clamp (Nat.lt_trans hn hN)] at h; exact h))
theorem zz_sldn {p : Program} {l : Launch} {e : Env} {R : Room} {s : State} {m : MethodId} {args : Array Value} {below : List Frame} {meth : Method} {c : Code} {H : Heap} {locs : List Loc} {cells slots : Nat} {Q : State → Prop} {cc : ByteArray} {pc : Nat} {ls : Array Slot} {rest : List Value} {A : Nat → Prop} {H0 : Heap} (hexec : p.tables.exec = Jvm.exec) (hb : c.code = cc) {b L n : Nat} {xs : Nat → Int32} (hX : va_X b L xs s H0) (hbl : b < H0.size) (hbA : ¬ A b) (hS : va_S A H0 H locs) (hn : n < L) (hN : L < 2 ^ 31) (hdg : decode cc pc = .ok (.iaload, 1)) (kk : W p l e R s m args below meth c H locs cells slots Q (F0 m (pc + 1) ls (.int (xs n) :: rest))) : W p l e R s m args below meth c H locs cells slots Q (F0 m pc ls (.int (nI n) :: .ref b :: rest)) := va_sld hexec hb hX hbl hbA hS (vp_in_nI hn hN) hdg (by rw [nI_clamp (Nat.lt_trans hn hN)]; exact kk)
