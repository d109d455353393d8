/-! THE CLAIM OUT OF ONE WALK OF THE LAW'S BODY. Your part is whole_start (and what it stands on); all else here is the same for every law, but numbers. -/
def R_law : String := "DecisionArraysLaw"
def lw_P (b : Addr) (xs : List Int32) (args : Array Value) (s : State) : Prop := args = #[.ref b] ∧ s.IntsAt b xs ∧ xs.length ≤ 576 ∧ (Jvm.Cond.and given_1 narrow_1).before args s = true
def lw_Q (_ : Array Value) (s : State) (o : Outcome) (t : State) : Prop := o = .returned (some (.int 1)) ∧ Framed s o t [] 600000 7302250
def lw_Z (below : List Frame) (a : Array Value) (s : State) : State → Prop := fun t => ∃ o, t.status = .running ∧ Ended t below o ∧ lw_Q a s o t
/-- the law's own end, with 1 on the stack, nothing written that was there before, its room as the claim has it -/
theorem lw_ret {p : Program} {l : Launch} {e : Env} {s : State} {m : MethodId} {below : List Frame} {meth : Method} {c : Code} {b : Nat} (hx : p.tables.exec = Jvm.exec) (hb : c.code = code) (hr : meth.sig.returnType = ret) (hlocks : meth.locks = false) {pc : Nat} {H : Heap} {ls : Array Slot} (hdg : decode code pc = .ok (.ireturn, 1)) : W p l e room_1 s m #[Value.ref b] below meth c H [] 600000 7302250 (lw_Z below #[Value.ref b] s) (F0 m pc ls [.int 1]) := by
  intro T hT X
  obtain ⟨fs, hret, hrun, hended, hW, hframe⟩ := X.leave (v := some (.int 1)) (hlocks := hlocks) (fun h => by rw [hr] at h; cases h)
  have hmeth' : T.vm.method? m = some meth := X.method'
  refine ⟨T.setFrames fs, ?_, .returned (some (.int 1)), hrun, hended, rfl, ⟨_, rfl⟩, hW, hframe⟩
  jvm_step X.here [X.here.top, hx, hb, hdg, hmeth', hr, ret, narrow_b1]
  (try refine ⟨rfl, ?_⟩); (try refine ⟨rfl, ?_⟩)
  first | (intro acts; rw [hret _ acts rfl rfl rfl]) | rw [hret _ _ rfl rfl rfl]
  exact Steps.refl _
/-- what holds at the law's entry: the machine, the code, the tables' words (any of lw_tbl by 'hts w (by decide +kernel)'), the script of L ints xs at the cell b, what the Statement gives of the start (any of its parts by flat_of_before) -/
def lw_At (p : Program) (s : State) (m : MethodId) (meth : Method) (c : Code) (b L : Nat) (xs : Nat → Int32) : Prop :=
  p.tables.exec = Jvm.exec ∧ c.code = code ∧ meth.sig.returnType = ret ∧ c.maxLocals = 4 ∧ s.vm.findClass R_law = some m.cls ∧ (∀ w ∈ lw_tbl, w.before #[Value.ref b] s = true) ∧ va_X b L xs s s.heap ∧ b < s.heap.size ∧ meth.locks = false ∧ (Jvm.Cond.and given_1 narrow_1).before #[Value.ref b] s = true
/-- what holds between two calls, of the class and of the reference -/
def zz_LI (nm : Nat) (laX : Int32) (naX : Nat) (nuX : Nat) (kdX : Nat → Int32) (dpX : Nat → Int32) (clX : Nat → Int32) (saX : Nat → Int32) (lnX : Nat → Int32) (btX : Nat → Int64) (pnX : Nat → Int32) (bfX : Nat → Int64) (paX : Int32) (peX : Int32) (mlX : Nat → Int32) (rdX : Int32) (agX : Nat → Int32) (dgX : Nat → Int32) (dsX : Nat → Int32) (ndX : Nat) (plX : Nat → Int32) (slX : Nat → Int32) (coX : Nat → Int32) (caX : Nat → Int64) (tuX : Nat → Int32) (nrX : Nat) (soX : Nat → Int32) (juX : Nat → Int32) (weX : Nat → Int32) (loX : Nat → Int64) (hiX : Nat → Int64) (taX : Nat → Int64) (boX : Nat → Int64) (naM : Nat) (neM : Nat) (icM : Int32) (iaM : Int32) (ipM : Int32) (ndM : Nat) (nrM : Nat) (kdM : Nat → Int32) (dpM : Nat → Int32) (lnM : Nat → Int32) (clM : Nat → Int32) (saM : Nat → Int32) (btM : Nat → Int64) (pnM : Nat → Int32) (mlM : Nat → Int32) (skM : Nat → Int32) (soM : Nat → Int32) (atM : Nat → Int32) (paM : Nat → Int32) (heM : Nat → Int64) (alM : Nat → Int32) (haM : Nat → Int32) (daM : Nat → Int32) (dqM : Nat → Int32) (coM : Nat → Int32) (caM : Nat → Int64) (rsM : Nat → Int32) (juM : Nat → Int32) (weM : Nat → Int32) (loM : Nat → Int64) (hiM : Nat → Int64) (chM : Nat → Int32) (beM : Nat → Int32) (meM : Nat → Int32) (mbM : Nat → Int64) (mpM : Nat → Int32) : Prop := zz_SI naX nuX dpX saX lnX ∧ zz_CI naX ndX saX lnX plX slX coX ∧ zz_RI naX nrX juX saX lnX ∧ zz_TI tuX ∧ zz_MI naM neM dpM saM lnM btM ∧ zz_MD naM ndM dpM saM lnM daM dqM coM ∧ zz_RI naM nrM juM saM lnM ∧ zz_TI chM ∧ zz_TI beM ∧ zz_MK naM neM nm dpM saM lnM meM mbM
def law_K (p : Program) (l : Launch) (e : Env) (s : State) (m : MethodId) (below : List Frame) (meth : Method) (c : Code) (A : Nat → Prop) (g : zz_G) (b i : Nat) (ox st kd dp cl sa ln bt pn bf mk ml lk l_ag l_dg l_ds ch c_pl c_sl c_co c_ca c_tu ru u_so u_ju u_we u_lo u_hi u_ta u_bo mr om a_kindOf a_depthOf a_lengthOf a_classOf a_baseOf a_bits a_pinned a_lengths a_stackArray a_stackOther a_stackAt a_path a_held a_alike a_hashes a_decisionArray a_decisionPlace a_candidateMany a_candidates a_ruleSort a_ruleArray a_ruleWeight a_ruleLow a_ruleHigh a_chosen a_bestOf a_markElements a_markBits a_markPins : Nat) (nm : Nat) (mrX : Nat → Option Nat) (T : va_W) (cells slots : Nat) : Prop := ∀ (laX : Int32) (naX : Nat) (nuX : Nat) (kdX : Nat → Int32) (dpX : Nat → Int32) (clX : Nat → Int32) (saX : Nat → Int32) (lnX : Nat → Int32) (btX : Nat → Int64) (pnX : Nat → Int32) (bfX : Nat → Int64) (paX : Int32) (peX : Int32) (mlX : Nat → Int32) (rdX : Int32) (agX : Nat → Int32) (dgX : Nat → Int32) (dsX : Nat → Int32) (ndX : Nat) (plX : Nat → Int32) (slX : Nat → Int32) (coX : Nat → Int32) (caX : Nat → Int64) (tuX : Nat → Int32) (nrX : Nat) (soX : Nat → Int32) (juX : Nat → Int32) (weX : Nat → Int32) (loX : Nat → Int64) (hiX : Nat → Int64) (taX : Nat → Int64) (boX : Nat → Int64) (naM : Nat) (neM : Nat) (icM : Int32) (iaM : Int32) (ipM : Int32) (ndM : Nat) (nrM : Nat) (kdM : Nat → Int32) (dpM : Nat → Int32) (lnM : Nat → Int32) (clM : Nat → Int32) (saM : Nat → Int32) (btM : Nat → Int64) (pnM : Nat → Int32) (mlM : Nat → Int32) (skM : Nat → Int32) (soM : Nat → Int32) (atM : Nat → Int32) (paM : Nat → Int32) (heM : Nat → Int64) (alM : Nat → Int32) (haM : Nat → Int32) (daM : Nat → Int32) (dqM : Nat → Int32) (coM : Nat → Int32) (caM : Nat → Int64) (rsM : Nat → Int32) (juM : Nat → Int32) (weM : Nat → Int32) (loM : Nat → Int64) (hiM : Nat → Int64) (chM : Nat → Int32) (beM : Nat → Int32) (meM : Nat → Int32) (mbM : Nat → Int64) (mpM : Nat → Int32) (H : Heap) (locs : List Loc) (ls : Array Slot), zz_LI nm laX naX nuX kdX dpX clX saX lnX btX pnX bfX paX peX mlX rdX agX dgX dsX ndX plX slX coX caX tuX nrX soX juX weX loX hiX taX boX naM neM icM iaM ipM ndM nrM kdM dpM lnM clM saM btM pnM mlM skM soM atM paM heM alM haM daM dqM coM caM rsM juM weM loM hiM chM beM meM mbM mpM → zz_Z g A s.heap ([(ox, .inr (6, [.ref st, .ref mk, .ref lk, .ref ch, .ref ru, .ref mr, .int (nI nm), .int laX])), (st, .inr (5, [.int (nI naX), .int (nI nuX), .ref kd, .ref dp, .ref cl, .ref sa, .ref ln, .ref bt, .ref pn, .ref bf])), (kd, .inl (g.2.1, 60, .inl kdX)), (dp, .inl (g.2.1, 60, .inl dpX)), (cl, .inl (g.2.1, 60, .inl clX)), (sa, .inl (g.2.1, 60, .inl saX)), (ln, .inl (g.2.1, 60, .inl lnX)), (bt, .inl (g.2.2.1, 4000, .inr (.inl btX))), (pn, .inl (g.2.2.2.1, 4000, .inl pnX)), (bf, .inl (g.2.2.1, 200, .inr (.inl bfX))), (mk, .inr (2, [.ref st, .ref ml, .int paX, .int peX])), (ml, .inl (g.2.1, 4, .inl mlX)), (lk, .inr (1, [.ref st, .int rdX, .ref l_ag, .ref l_dg, .ref l_ds])), (l_ag, .inl (g.2.1, 3600, .inl agX)), (l_dg, .inl (g.2.1, 60, .inl dgX)), (l_ds, .inl (g.2.1, 60, .inl dsX)), (ch, .inr (0, [.ref st, .int (nI ndX), .ref c_pl, .ref c_sl, .ref c_co, .ref c_ca, .ref c_tu])), (c_pl, .inl (g.2.1, 24, .inl plX)), (c_sl, .inl (g.2.1, 24, .inl slX)), (c_co, .inl (g.2.1, 24, .inl coX)), (c_ca, .inl (g.2.2.1, 384, .inr (.inl caX))), (c_tu, .inl (g.2.1, 24, .inl tuX)), (ru, .inr (4, [.ref st, .int (nI nrX), .ref u_so, .ref u_ju, .ref u_we, .ref u_lo, .ref u_hi, .ref u_ta, .ref u_bo])), (u_so, .inl (g.2.1, 12, .inl soX)), (u_ju, .inl (g.2.1, 12, .inl juX)), (u_we, .inl (g.2.1, 12, .inl weX)), (u_lo, .inl (g.2.2.1, 12, .inr (.inl loX))), (u_hi, .inl (g.2.2.1, 12, .inr (.inl hiX))), (u_ta, .inl (g.2.2.1, 12, .inr (.inl taX))), (u_bo, .inl (g.2.2.1, 12, .inr (.inl boX))), (mr, .inl (g.2.2.2.2.1, 8, .inr (.inr (.inr (.inr mrX))))), (om, .inr (7, [.int (nI naM), .int (nI neM), .ref a_kindOf, .ref a_depthOf, .ref a_lengthOf, .ref a_classOf, .ref a_baseOf, .ref a_bits, .ref a_pinned, .int icM, .ref a_lengths, .ref a_stackArray, .ref a_stackOther, .ref a_stackAt, .int iaM, .int ipM, .ref a_path, .ref a_held, .ref a_alike, .ref a_hashes, .int (nI ndM), .ref a_decisionArray, .ref a_decisionPlace, .ref a_candidateMany, .ref a_candidates, .int (nI nrM), .ref a_ruleSort, .ref a_ruleArray, .ref a_ruleWeight, .ref a_ruleLow, .ref a_ruleHigh, .ref a_chosen, .ref a_bestOf, .int (nI nm), .ref a_markElements, .ref a_markBits, .ref a_markPins])), (a_kindOf, .inl (g.2.1, 60, .inl kdM)), (a_depthOf, .inl (g.2.1, 60, .inl dpM)), (a_lengthOf, .inl (g.2.1, 60, .inl lnM)), (a_classOf, .inl (g.2.1, 60, .inl clM)), (a_baseOf, .inl (g.2.1, 60, .inl saM)), (a_bits, .inl (g.2.2.1, 4000, .inr (.inl btM))), (a_pinned, .inl (g.2.2.2.1, 4000, .inl pnM)), (a_lengths, .inl (g.2.1, 4, .inl mlM)), (a_stackArray, .inl (g.2.1, 5, .inl skM)), (a_stackOther, .inl (g.2.1, 5, .inl soM)), (a_stackAt, .inl (g.2.1, 5, .inl atM)), (a_path, .inl (g.2.1, 4, .inl paM)), (a_held, .inl (g.2.2.1, 200, .inr (.inl heM))), (a_alike, .inl (g.2.2.2.1, 3600, .inl alM)), (a_hashes, .inl (g.2.1, 60, .inl haM)), (a_decisionArray, .inl (g.2.1, 24, .inl daM)), (a_decisionPlace, .inl (g.2.1, 24, .inl dqM)), (a_candidateMany, .inl (g.2.1, 24, .inl coM)), (a_candidates, .inl (g.2.2.1, 384, .inr (.inl caM))), (a_ruleSort, .inl (g.2.1, 12, .inl rsM)), (a_ruleArray, .inl (g.2.1, 12, .inl juM)), (a_ruleWeight, .inl (g.2.1, 12, .inl weM)), (a_ruleLow, .inl (g.2.2.1, 12, .inr (.inl loM))), (a_ruleHigh, .inl (g.2.2.1, 12, .inr (.inl hiM))), (a_chosen, .inl (g.2.1, 24, .inl chM)), (a_bestOf, .inl (g.2.1, 24, .inl beM)), (a_markElements, .inl (g.2.1, 8, .inl meM)), (a_markBits, .inl (g.2.2.1, 32000, .inr (.inl mbM))), (a_markPins, .inl (g.2.2.2.1, 32000, .inl mpM))] ++ T) H locs → lv_has ls 4 [(3, .int (nI i)), (2, .ref om), (1, .ref ox), (0, .ref b)] → W p l e room_1 s m #[Value.ref b] below meth c H locs cells slots (lw_Z below #[Value.ref b] s) (F0 m 1871 ls [])
set_option maxHeartbeats 4000000 in
set_option maxRecDepth 100000 in
/-- the law's end -/
theorem law_end {p : Program} {l : Launch} {e : Env} {s : State} {m : MethodId} {below : List Frame} {meth : Method} {c : Code} {A : Nat → Prop} {H : Heap} {locs : List Loc} {ls : Array Slot} {g : zz_G} {b cells slots : Nat} (hC : zz_C p s m #[Value.ref b] meth c g RL code 4 ret) (hAs : ∀ q, A q → s.heap.size ≤ q) (hS : va_S A s.heap H locs) (hc : cells ≤ 600000) (hs : slots ≤ 7302250) : W p l e room_1 s m #[Value.ref b] below meth c H locs cells slots (lw_Z below #[Value.ref b] s) (F0 m 1877 ls []) := by
  obtain ⟨hx, hb, hml, hown, hts, hr, hlocks, hK⟩ := id hC
  refine lv_iconst (v := 1) hx hb dL_law_1877 (by decide) ?_
  refine va_forget (fun q hq => hAs _ (hS.2.2 q hq)) ?_
  refine W.widen (k := 600000) (n := 7302250) hc hs ?_
  exact lw_ret hx hb hr hlocks dL_law_1878
theorem zl_hd {L i : Nat} (hL : L ≤ 576) (hi : i ≤ 600) (h : ¬ Int32.ofNat L - 9 < nI i) : i + 9 ≤ L := by
  rw [Int32.lt_iff_toInt_lt, show Int32.ofNat L = nI L from rfl, show (9 : Int32) = nI 9 by decide, pk_sub_toInt (by omega) (by decide), nI_toInt (by omega)] at h
  omega
set_option maxHeartbeats 4000000 in
set_option maxRecDepth 100000 in
/-- behind a call -/
theorem law_tail {p : Program} {l : Launch} {e : Env} {s : State} {m : MethodId} {below : List Frame} {meth : Method} {c : Code} {A : Nat → Prop} {H : Heap} {locs : List Loc} {ls : Array Slot} {g : zz_G} {b i cells slots ox om : Nat} (hC : zz_C p s m #[Value.ref b] meth c g RL code 4 ret) (hl : lv_has ls 4 [(3, .int (nI i)), (2, .ref om), (1, .ref ox), (0, .ref b)]) (kk : ∀ ls : Array Slot, lv_has ls 4 [(3, .int (nI (i + 9))), (2, .ref om), (1, .ref ox), (0, .ref b)] → W p l e room_1 s m #[Value.ref b] below meth c H locs cells slots (lw_Z below #[Value.ref b] s) (F0 m 18 ls [])) : W p l e room_1 s m #[Value.ref b] below meth c H locs cells slots (lw_Z below #[Value.ref b] s) (F0 m 1871 ls []) := by
  obtain ⟨hx, hb, hml, hown, hts, hr, hlocks, hK⟩ := id hC
  refine lv_iinc (v := nI (i + 9)) (lv' := [(3, .int (nI (i + 9))), (2, .ref om), (1, .ref ox), (0, .ref b)]) hx hb dL_law_1871 hl (k := 0) rfl (nI_add i 9) (by decide) rfl (fun ls hl => ?_)
  refine lv_goto (tgt := 18) hx hb dL_law_1874 (by decide) ?_
  exact kk ls hl
theorem zl_win (x : Int32) (lo hi : Int64) : fn_cm_within x.toInt64 lo hi = 0 ↔ (x.toInt < lo.toInt ∨ hi.toInt < x.toInt) := by
  unfold fn_cm_within
  by_cases a : x.toInt64 < lo
  · rw [if_pos a]
    rw [Int64.lt_iff_toInt_lt, zl_i2l] at a
    exact ⟨fun _ => Or.inl a, fun _ => rfl⟩
  · rw [if_neg a]
    rw [Int64.lt_iff_toInt_lt, zl_i2l] at a
    by_cases b : hi < x.toInt64
    · rw [if_pos b]
      rw [Int64.lt_iff_toInt_lt, zl_i2l] at b
      exact ⟨fun _ => Or.inr b, fun _ => rfl⟩
    · rw [if_neg b]
      rw [Int64.lt_iff_toInt_lt, zl_i2l] at b
      exact ⟨fun q => absurd q (by decide), fun q => absurd q (by omega)⟩
theorem zl_kind (x : Int32) : fn_co_isKind x = 0 ↔ fn_cm_within x.toInt64 0 8 = 0 := by
  rw [zl_win]
  have e0 : (0 : Int64).toInt = 0 := by decide
  have e8 : (8 : Int64).toInt = 8 := by decide
  have f0 : (0 : Int32).toInt = 0 := by decide
  have f8 : (8 : Int32).toInt = 8 := by decide
  unfold fn_co_isKind
  by_cases a : x < 0
  · rw [if_pos a]; rw [Int32.lt_iff_toInt_lt] at a
    exact ⟨fun _ => Or.inl (by omega), fun _ => rfl⟩
  · rw [if_neg a]; rw [Int32.lt_iff_toInt_lt] at a
    by_cases b : 8 < x
    · rw [if_pos b]; rw [Int32.lt_iff_toInt_lt] at b
      exact ⟨fun _ => Or.inr (by omega), fun _ => rfl⟩
    · rw [if_neg b]; rw [Int32.lt_iff_toInt_lt] at b
      exact ⟨fun q => absurd q (by decide), fun q => absurd q (by omega)⟩
theorem zl_wide : ∀ a, a < 9 → ∀ b, b < 9 → fn_co_reaches (nI a) (nI b) = fn_cm_isWider (nI a) (nI b) := by decide +kernel
theorem zl_08 {x : Int32} (h : ¬ fn_cm_within x.toInt64 0 8 = 0) : ∃ j : Nat, j < 9 ∧ x = nI j := by
  rw [zl_win] at h
  have e0 : (0 : Int64).toInt = 0 := by decide
  have e8 : (8 : Int64).toInt = 8 := by decide
  have f0 : (0 : Int32).toInt = 0 := by decide
  have f8 : (8 : Int32).toInt = 8 := by decide
  obtain ⟨j, hj, e⟩ := nI_of2 (x := x) (M := 8) (n := 8) (by decide) (by rw [Int32.lt_iff_toInt_lt]; omega) (by rw [Int32.le_iff_toInt_le]; omega)
  exact ⟨j, by omega, e⟩
theorem eq_widens (x1 x2 : Int32) : fn_cx_widens x1 x2 = fn_my_widens x1 x2 := by
  unfold fn_cx_widens fn_my_widens
  by_cases a : fn_cm_within x1.toInt64 0 8 = 0
  · rw [if_pos a, if_pos ((zl_kind x1).mpr a)]
  · rw [if_neg a, if_neg (fun q => a ((zl_kind x1).mp q))]
    by_cases b : fn_cm_within x2.toInt64 0 8 = 0
    · rw [if_pos b, if_pos ((zl_kind x2).mpr b)]
    · rw [if_neg b, if_neg (fun q => b ((zl_kind x2).mp q))]
      obtain ⟨i, hi, rfl⟩ := zl_08 a
      obtain ⟨j, hj, rfl⟩ := zl_08 b
      rw [zl_wide i hi j hj]
