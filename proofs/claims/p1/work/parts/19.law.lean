/-! THE CLAIM OUT OF ONE WALK OF THE LAW'S BODY. Your part is whole_start (and what it stands on); all else here is the same for every law, but numbers. -/
def R_law : String := "DecisionArraysLaw"
def lw_P (b : Addr) (xs : List Int32) (args : Array Value) (s : State) : Prop := args = #[.ref b] ∧ s.IntsAt b xs ∧ xs.length ≤ 9 ∧ (Jvm.Cond.and given_1 narrow_1).before args s = true
def lw_Q (_ : Array Value) (s : State) (o : Outcome) (t : State) : Prop := o = .returned (some (.int 1)) ∧ Framed s o t [] 600000 7302250
def lw_Z (below : List Frame) (a : Array Value) (s : State) : State → Prop := fun t => ∃ o, t.status = .running ∧ Ended t below o ∧ lw_Q a s o t
/-- the law's own end, with 1 on the stack, nothing written that was there before, its room as the claim has it -/
theorem lw_ret {p : Program} {l : Launch} {e : Env} {s : State} {m : MethodId} {below : List Frame} {meth : Method} {c : Code} {b : Nat} (hx : p.tables.exec = Jvm.exec) (hb : c.code = code) (hr : meth.sig.returnType = ret) (hlocks : meth.locks = false) {pc : Nat} {H : Heap} {ls : Array Slot} (hdg : decode code pc = .ok (.ireturn, 1)) : W p l e room_1 s m #[Value.ref b] below meth c H [] 600000 7302250 (lw_Z below #[Value.ref b] s) (F0 m pc ls [.int 1]) := by
  intro T hT X
  obtain ⟨fs, hret, hrun, hended, hW, hframe⟩ := X.leave (v := some (.int 1)) (hlocks := hlocks) (fun h => by rw [hr] at h; cases h)
  have hmeth' : T.vm.method? m = some meth := X.method'
  refine ⟨T.setFrames fs, ?_, .returned (some (.int 1)), hrun, hended, rfl, ⟨_, rfl⟩, hW, hframe⟩
  jvm_step X.here [X.here.top, hx, hb, hdg, hmeth', hr, ret, narrow_b1]
  (try refine ⟨rfl, ?_⟩); (try refine ⟨rfl, ?_⟩)
  first | (intro acts; rw [hret _ acts rfl rfl rfl]) | rw [hret _ _ rfl rfl rfl]
  exact Steps.refl _
/-- what holds at the law's entry: the machine, the code, the tables' words (any of lw_tbl by 'hts w (by decide +kernel)'), the script of L ints xs at the cell b, what the Statement gives of the start (any of its parts by flat_of_before) -/
def lw_At (p : Program) (s : State) (m : MethodId) (meth : Method) (c : Code) (b L : Nat) (xs : Nat → Int32) : Prop :=
  p.tables.exec = Jvm.exec ∧ c.code = code ∧ meth.sig.returnType = ret ∧ c.maxLocals = 4 ∧ s.vm.findClass R_law = some m.cls ∧ (∀ w ∈ lw_tbl, w.before #[Value.ref b] s = true) ∧ va_X b L xs s s.heap ∧ b < s.heap.size ∧ meth.locks = false ∧ (Jvm.Cond.and given_1 narrow_1).before #[Value.ref b] s = true
set_option maxHeartbeats 4000000 in
set_option maxRecDepth 100000 in
/-- the law's end -/
theorem law_end {p : Program} {l : Launch} {e : Env} {s : State} {m : MethodId} {below : List Frame} {meth : Method} {c : Code} {A : Nat → Prop} {H : Heap} {locs : List Loc} {ls : Array Slot} {g : zz_G} {b cells slots : Nat} (hC : zz_C p s m #[Value.ref b] meth c g RL code 4 ret) (hAs : ∀ q, A q → s.heap.size ≤ q) (hS : va_S A s.heap H locs) (hc : cells ≤ 600000) (hs : slots ≤ 7302250) : W p l e room_1 s m #[Value.ref b] below meth c H locs cells slots (lw_Z below #[Value.ref b] s) (F0 m 1881 ls []) := by
  obtain ⟨hx, hb, hml, hown, hts, hr, hlocks, hK⟩ := id hC
  refine lv_iconst (v := 1) hx hb dL_law_1881 (by decide) ?_
  refine va_forget (fun q hq => hAs _ (hS.2.2 q hq)) ?_
  refine W.widen (k := 600000) (n := 7302250) hc hs ?_
  exact lw_ret hx hb hr hlocks dL_law_1882
set_option maxHeartbeats 4000000 in
set_option maxRecDepth 100000 in
/-- behind a call, with one turn's script -/
theorem law_tail {p : Program} {l : Launch} {e : Env} {s : State} {m : MethodId} {below : List Frame} {meth : Method} {c : Code} {A : Nat → Prop} {H : Heap} {locs : List Loc} {ls : Array Slot} {g : zz_G} {b cells slots : Nat} {xs : Nat → Int32} (hC : zz_C p s m #[Value.ref b] meth c g RL code 4 ret) (hX : va_X b 9 xs s s.heap) (hbl : b < s.heap.size) (hAs : ∀ q, A q → s.heap.size ≤ q) (hS : va_S A s.heap H locs) (hc : cells ≤ 600000) (hs : slots ≤ 7302250) (hl : lv_has ls 4 [(0, .ref b), (3, .int 0)]) : W p l e room_1 s m #[Value.ref b] below meth c H locs cells slots (lw_Z below #[Value.ref b] s) (F0 m 1875 ls []) := by
  obtain ⟨hx, hb, hml, hown, hts, hr, hlocks, hK⟩ := id hC
  have hbA : ¬ A b := fun q => absurd (hAs b q) (by omega)
  refine lv_iinc (v := 9) (lv' := [(3, .int 9), (0, .ref b)]) hx hb dL_law_1875 hl (k := 1) rfl (by decide) (by decide) rfl (fun ls hl => ?_)
  refine lv_goto (tgt := 18) hx hb dL_law_1878 (by decide) ?_
  refine lv_iload_n hx hb dL_law_18 rfl (lv_at hl 0 rfl) ?_
  refine lv_aload_n hx hb dL_law_19 rfl (lv_at hl 1 rfl) ?_
  refine va_slen hx hb hX hbl hbA hS dL_law_20 ?_
  refine lv_bipush (v := 9) hx hb dL_law_21 (by decide) ?_
  refine lv_isub hx hb dL_law_23 ?_
  refine zz_topi (v := 0) (by decide) ?_
  refine lv_icmp_gt (tgt := 1881) hx hb dL_law_24 (by decide) (fun c1 => ?_) (fun c1 => absurd (by decide) c1)
  exact law_end hC hAs hS hc hs
theorem zk_225 : Cond.methodLink RL 13 yX7_array ∈ zz_w := zz_in (List.mem_append_right _ (List.mem_append_left _ (List.mem_of_getElem? (i := 225) (by decide +kernel)))) rfl
set_option maxRecDepth 20000 in
theorem zk_228 : Cond.code yX7_array cX7_array 3 (some .int) ∈ zz_w := zz_in (List.mem_append_right _ (List.mem_append_left _ (List.mem_of_getElem? (i := 228) (rfl)))) rfl
theorem zk_226 : Cond.instanceMethod yX7_array ∈ zz_w := zz_in (List.mem_append_right _ (List.mem_append_left _ (List.mem_of_getElem? (i := 226) (by decide +kernel)))) rfl
theorem zk_227 : Cond.selects RX7 yX7_array yX7_array ∈ zz_w := zz_in (List.mem_append_right _ (List.mem_append_left _ (List.mem_of_getElem? (i := 227) (by decide +kernel)))) rfl
theorem zc_L_13 : zz_cV RL 13 yX7_array cX7_array 3 (some .int) 2 := ⟨⟨zk_225, zk_228, zk_1, by decide, by decide, by decide +kernel⟩, zk_226, zk_227⟩
theorem zk_870 : Cond.methodLink RL 17 yX8_array ∈ zz_w := zz_in (List.mem_append_right _ (List.mem_append_right _ (List.mem_append_right _ (List.mem_append_right _ (List.mem_append_left _ (List.mem_of_getElem? (i := 150) (by decide +kernel))))))) rfl
set_option maxRecDepth 20000 in
theorem zk_873 : Cond.code yX8_array cX8_array 3 (some .int) ∈ zz_w := zz_in (List.mem_append_right _ (List.mem_append_right _ (List.mem_append_right _ (List.mem_append_right _ (List.mem_append_left _ (List.mem_of_getElem? (i := 153) (rfl))))))) rfl
theorem zk_871 : Cond.instanceMethod yX8_array ∈ zz_w := zz_in (List.mem_append_right _ (List.mem_append_right _ (List.mem_append_right _ (List.mem_append_right _ (List.mem_append_left _ (List.mem_of_getElem? (i := 151) (by decide +kernel))))))) rfl
theorem zk_872 : Cond.selects RX8 yX8_array yX8_array ∈ zz_w := zz_in (List.mem_append_right _ (List.mem_append_right _ (List.mem_append_right _ (List.mem_append_right _ (List.mem_append_left _ (List.mem_of_getElem? (i := 152) (by decide +kernel))))))) rfl
theorem zc_L_17 : zz_cV RL 17 yX8_array cX8_array 3 (some .int) 2 := ⟨⟨zk_870, zk_873, zk_7, by decide, by decide, by decide +kernel⟩, zk_871, zk_872⟩
set_option maxHeartbeats 4000000 in
set_option maxRecDepth 100000 in
theorem law_c0 {p : Program} {l : Launch} {e : Env} {s : State} {m : MethodId} {below : List Frame} {meth : Method} {c : Code} {A : Nat → Prop} {H : Heap} {locs : List Loc} {ls : Array Slot} (g : zz_G) (b : Nat) (xs : Nat → Int32) (ox ox1 ox10 ox12 ox16 ox22 ox30 ox2 ox3 ox4 ox5 ox6 ox7 ox8 ox9 om om1 om2 om3 om4 om5 om6 om7 om8 om9 om10 om11 om12 om13 om14 om15 om16 om17 om18 om19 om20 om21 om22 om23 om24 om25 om26 om27 om28 om29 : Nat) (hC : zz_C p s m #[Value.ref b] meth c g RL code 4 ret) (hX : va_X b 9 xs s s.heap) (hbl : b < s.heap.size) (hAs : ∀ q, A q → s.heap.size ≤ q) (hZ : zz_Z g A s.heap [(ox, .inr (6, [.ref ox1, .ref ox10, .ref ox12, .ref ox16, .ref ox22, .ref ox30, .int 0, .int 0])), (ox1, .inr (5, [.int 0, .int 0, .ref ox2, .ref ox3, .ref ox4, .ref ox5, .ref ox6, .ref ox7, .ref ox8, .ref ox9])), (ox2, .inl (g.2.1, 60, .inl (fun _ => 0))), (ox3, .inl (g.2.1, 60, .inl (fun _ => 0))), (ox4, .inl (g.2.1, 60, .inl (fun _ => 0))), (ox5, .inl (g.2.1, 60, .inl (fun _ => 0))), (ox6, .inl (g.2.1, 60, .inl (fun _ => 0))), (om, .inr (7, [.int 0, .int 0, .ref om1, .ref om2, .ref om3, .ref om4, .ref om5, .ref om6, .ref om7, .int 0, .ref om8, .ref om9, .ref om10, .ref om11, .int 0, .int 0, .ref om12, .ref om13, .ref om14, .ref om15, .int 0, .ref om16, .ref om17, .ref om18, .ref om19, .int 0, .ref om20, .ref om21, .ref om22, .ref om23, .ref om24, .ref om25, .ref om26, .int 0, .ref om27, .ref om28, .ref om29])), (om1, .inl (g.2.1, 60, .inl (fun _ => 0))), (om2, .inl (g.2.1, 60, .inl (fun _ => 0))), (om3, .inl (g.2.1, 60, .inl (fun _ => 0))), (om4, .inl (g.2.1, 60, .inl (fun _ => 0))), (om5, .inl (g.2.1, 60, .inl (fun _ => 0))), (om6, .inl (g.2.2.1, 4000, .inr (.inl (fun _ => 0)))), (om7, .inl (g.2.2.2.1, 4000, .inl (fun _ => 0)))] H locs) (hl : lv_has ls 4 [(3, .int 0), (2, .ref om), (1, .ref ox), (0, .ref b)]) : W p l e room_1 s m #[Value.ref b] below meth c H locs 61 89631 (lw_Z below #[Value.ref b] s) (F0 m 188 ls []) := by
  obtain ⟨hx, hb, hml, hown, hts, hr, hlocks, hK⟩ := id hC
  have hbA : ¬ A b := fun q => absurd (hAs b q) (by omega)
  refine lv_aload_n hx hb dL_law_188 rfl (lv_at hl 2 rfl) ?_
  refine lv_aload_n hx hb dL_law_189 rfl (lv_at hl 3 rfl) ?_
  refine lv_iload_n hx hb dL_law_190 rfl (lv_at hl 0 rfl) ?_
  refine lv_iconst (v := 1) hx hb dL_law_191 (by decide) ?_
  refine lv_iadd hx hb dL_law_192 ?_
  refine zz_topi (v := 1) (by decide) ?_
  refine va_sld hx hb hX hbl hbA hZ.2.2.1 (by unfold vp_in; decide) dL_law_193 ?_
  rw [zl_c1]
  refine lv_aload_n hx hb dL_law_194 rfl (lv_at hl 3 rfl) ?_
  refine lv_iload_n hx hb dL_law_195 rfl (lv_at hl 0 rfl) ?_
  refine lv_iconst (v := 2) hx hb dL_law_196 (by decide) ?_
  refine lv_iadd hx hb dL_law_197 ?_
  refine zz_topi (v := 2) (by decide) ?_
  refine va_sld hx hb hX hbl hbA hZ.2.2.1 (by unfold vp_in; decide) dL_law_198 ?_
  rw [zl_c2]
  refine zz_iV (As := [.int (xs 1), .int (xs 2)]) (wc := [(ox, .inr (6, [.ref ox1, .ref ox10, .ref ox12, .ref ox16, .ref ox22, .ref ox30, .int 0, .int 0])), (ox1, .inr (5, [.int 0, .int 0, .ref ox2, .ref ox3, .ref ox4, .ref ox5, .ref ox6, .ref ox7, .ref ox8, .ref ox9])), (ox2, .inl (g.2.1, 60, .inl (fun _ => 0))), (ox3, .inl (g.2.1, 60, .inl (fun _ => 0))), (ox4, .inl (g.2.1, 60, .inl (fun _ => 0))), (ox5, .inl (g.2.1, 60, .inl (fun _ => 0))), (ox6, .inl (g.2.1, 60, .inl (fun _ => 0)))]) (wr := [(om, .inr (7, [.int 0, .int 0, .ref om1, .ref om2, .ref om3, .ref om4, .ref om5, .ref om6, .ref om7, .int 0, .ref om8, .ref om9, .ref om10, .ref om11, .int 0, .int 0, .ref om12, .ref om13, .ref om14, .ref om15, .int 0, .ref om16, .ref om17, .ref om18, .ref om19, .int 0, .ref om20, .ref om21, .ref om22, .ref om23, .ref om24, .ref om25, .ref om26, .int 0, .ref om27, .ref om28, .ref om29])), (om1, .inl (g.2.1, 60, .inl (fun _ => 0))), (om2, .inl (g.2.1, 60, .inl (fun _ => 0))), (om3, .inl (g.2.1, 60, .inl (fun _ => 0))), (om4, .inl (g.2.1, 60, .inl (fun _ => 0))), (om5, .inl (g.2.1, 60, .inl (fun _ => 0))), (om6, .inl (g.2.2.1, 4000, .inr (.inl (fun _ => 0)))), (om7, .inl (g.2.2.2.1, 4000, .inl (fun _ => 0)))]) (rest := []) hC hZ hl zc_L_13 (cx_array g ox ox1 ox10 ox12 ox16 ox22 ox30 ox2 ox3 ox4 ox5 ox6 ox7 ox8 ox9 (xs 1) (xs 2)) [0, 1, 2, 3, 4, 5, 6] [7, 8, 9, 10, 11, 12, 13, 14] rfl rfl (by decide) (ci := 6) (q0 := 0) rfl rfl rfl rfl (Nat.le_of_ble_eq_true rfl) ⟨⟨Nat.le_of_ble_eq_true rfl, Nat.le_of_ble_eq_true rfl⟩, Nat.le_of_ble_eq_true rfl, Nat.le_of_ble_eq_true rfl⟩ dL_law_199 (fun r1 u2 H locs hp hZ => ?_)
  obtain rfl := hp
  have hZ : zz_Z g A s.heap [(om, .inr (7, [.int 0, .int 0, .ref om1, .ref om2, .ref om3, .ref om4, .ref om5, .ref om6, .ref om7, .int 0, .ref om8, .ref om9, .ref om10, .ref om11, .int 0, .int 0, .ref om12, .ref om13, .ref om14, .ref om15, .int 0, .ref om16, .ref om17, .ref om18, .ref om19, .int 0, .ref om20, .ref om21, .ref om22, .ref om23, .ref om24, .ref om25, .ref om26, .int 0, .ref om27, .ref om28, .ref om29])), (om1, .inl (g.2.1, 60, .inl (fun _ => 0))), (om2, .inl (g.2.1, 60, .inl (fun _ => 0))), (om3, .inl (g.2.1, 60, .inl (fun _ => 0))), (om4, .inl (g.2.1, 60, .inl (fun _ => 0))), (om5, .inl (g.2.1, 60, .inl (fun _ => 0))), (om6, .inl (g.2.2.1, 4000, .inr (.inl (fun _ => 0)))), (om7, .inl (g.2.2.2.1, 4000, .inl (fun _ => 0)))] H locs := hZ.left
  refine lv_aload_n hx hb dL_law_202 rfl (lv_at hl 1 rfl) ?_
  refine lv_aload_n hx hb dL_law_203 rfl (lv_at hl 3 rfl) ?_
  refine lv_iload_n hx hb dL_law_204 rfl (lv_at hl 0 rfl) ?_
  refine lv_iconst (v := 1) hx hb dL_law_205 (by decide) ?_
  refine lv_iadd hx hb dL_law_206 ?_
  refine zz_topi (v := 1) (by decide) ?_
  refine va_sld hx hb hX hbl hbA hZ.2.2.1 (by unfold vp_in; decide) dL_law_207 ?_
  rw [zl_c1]
  refine lv_aload_n hx hb dL_law_208 rfl (lv_at hl 3 rfl) ?_
  refine lv_iload_n hx hb dL_law_209 rfl (lv_at hl 0 rfl) ?_
  refine lv_iconst (v := 2) hx hb dL_law_210 (by decide) ?_
  refine lv_iadd hx hb dL_law_211 ?_
  refine zz_topi (v := 2) (by decide) ?_
  refine va_sld hx hb hX hbl hbA hZ.2.2.1 (by unfold vp_in; decide) dL_law_212 ?_
  rw [zl_c2]
  refine zz_iV (As := [.int (xs 1), .int (xs 2)]) (wc := [(om, .inr (7, [.int 0, .int 0, .ref om1, .ref om2, .ref om3, .ref om4, .ref om5, .ref om6, .ref om7, .int 0, .ref om8, .ref om9, .ref om10, .ref om11, .int 0, .int 0, .ref om12, .ref om13, .ref om14, .ref om15, .int 0, .ref om16, .ref om17, .ref om18, .ref om19, .int 0, .ref om20, .ref om21, .ref om22, .ref om23, .ref om24, .ref om25, .ref om26, .int 0, .ref om27, .ref om28, .ref om29])), (om1, .inl (g.2.1, 60, .inl (fun _ => 0))), (om2, .inl (g.2.1, 60, .inl (fun _ => 0))), (om3, .inl (g.2.1, 60, .inl (fun _ => 0))), (om4, .inl (g.2.1, 60, .inl (fun _ => 0))), (om5, .inl (g.2.1, 60, .inl (fun _ => 0))), (om6, .inl (g.2.2.1, 4000, .inr (.inl (fun _ => 0)))), (om7, .inl (g.2.2.2.1, 4000, .inl (fun _ => 0)))]) (wr := []) (rest := [.int (fn_cx_array (xs 1) (xs 2))]) hC hZ hl zc_L_17 (my_array g om om1 om2 om3 om4 om5 om6 om7 om8 om9 om10 om11 om12 om13 om14 om15 om16 om17 om18 om19 om20 om21 om22 om23 om24 om25 om26 om27 om28 om29 (xs 1) (xs 2)) [0, 1, 2, 3, 4, 5, 6, 7] [] rfl rfl (by decide) (ci := 7) (q0 := 0) rfl rfl rfl rfl (Nat.le_of_ble_eq_true rfl) ⟨⟨Nat.le_of_ble_eq_true rfl, Nat.le_of_ble_eq_true rfl⟩, Nat.le_of_ble_eq_true rfl, Nat.le_of_ble_eq_true rfl⟩ dL_law_213 (fun r3 u4 H locs hp hZ => ?_)
  obtain rfl := hp
  have hZ : zz_Z g A s.heap [] H locs := hZ.left
  refine lv_icmp_eq (tgt := 1875) hx hb dL_law_216 (by decide) (fun c5 => ?_) (fun c => absurd (eq_array _ _) c)
  exact law_tail hC hX hbl hAs hZ.2.2.1 (Nat.le_of_ble_eq_true rfl) (Nat.le_of_ble_eq_true rfl) (lv_sub hl [3, 0] rfl)
theorem zk_255 : Cond.methodLink RL 18 yX7_things ∈ zz_w := zz_in (List.mem_append_right _ (List.mem_append_right _ (List.mem_append_left _ (List.mem_of_getElem? (i := 15) (by decide +kernel))))) rfl
set_option maxRecDepth 20000 in
theorem zk_258 : Cond.code yX7_things cX7_things 3 (some .int) ∈ zz_w := zz_in (List.mem_append_right _ (List.mem_append_right _ (List.mem_append_left _ (List.mem_of_getElem? (i := 18) (rfl))))) rfl
theorem zk_256 : Cond.instanceMethod yX7_things ∈ zz_w := zz_in (List.mem_append_right _ (List.mem_append_right _ (List.mem_append_left _ (List.mem_of_getElem? (i := 16) (by decide +kernel))))) rfl
theorem zk_257 : Cond.selects RX7 yX7_things yX7_things ∈ zz_w := zz_in (List.mem_append_right _ (List.mem_append_right _ (List.mem_append_left _ (List.mem_of_getElem? (i := 17) (by decide +kernel))))) rfl
theorem zc_L_18 : zz_cV RL 18 yX7_things cX7_things 3 (some .int) 2 := ⟨⟨zk_255, zk_258, zk_1, by decide, by decide, by decide +kernel⟩, zk_256, zk_257⟩
theorem zk_884 : Cond.methodLink RL 21 yX8_things ∈ zz_w := zz_in (List.mem_append_right _ (List.mem_append_right _ (List.mem_append_right _ (List.mem_append_right _ (List.mem_append_left _ (List.mem_of_getElem? (i := 164) (by decide +kernel))))))) rfl
set_option maxRecDepth 20000 in
theorem zk_887 : Cond.code yX8_things cX8_things 3 (some .int) ∈ zz_w := zz_in (List.mem_append_right _ (List.mem_append_right _ (List.mem_append_right _ (List.mem_append_right _ (List.mem_append_left _ (List.mem_of_getElem? (i := 167) (rfl))))))) rfl
theorem zk_885 : Cond.instanceMethod yX8_things ∈ zz_w := zz_in (List.mem_append_right _ (List.mem_append_right _ (List.mem_append_right _ (List.mem_append_right _ (List.mem_append_left _ (List.mem_of_getElem? (i := 165) (by decide +kernel))))))) rfl
theorem zk_886 : Cond.selects RX8 yX8_things yX8_things ∈ zz_w := zz_in (List.mem_append_right _ (List.mem_append_right _ (List.mem_append_right _ (List.mem_append_right _ (List.mem_append_left _ (List.mem_of_getElem? (i := 166) (by decide +kernel))))))) rfl
theorem zc_L_21 : zz_cV RL 21 yX8_things cX8_things 3 (some .int) 2 := ⟨⟨zk_884, zk_887, zk_7, by decide, by decide, by decide +kernel⟩, zk_885, zk_886⟩
set_option maxHeartbeats 4000000 in
set_option maxRecDepth 100000 in
theorem law_c1 {p : Program} {l : Launch} {e : Env} {s : State} {m : MethodId} {below : List Frame} {meth : Method} {c : Code} {A : Nat → Prop} {H : Heap} {locs : List Loc} {ls : Array Slot} (g : zz_G) (b : Nat) (xs : Nat → Int32) (ox ox1 ox10 ox12 ox16 ox22 ox30 ox2 ox3 ox4 ox5 ox6 ox7 ox8 ox9 om om1 om2 om3 om4 om5 om6 om7 om8 om9 om10 om11 om12 om13 om14 om15 om16 om17 om18 om19 om20 om21 om22 om23 om24 om25 om26 om27 om28 om29 : Nat) (hC : zz_C p s m #[Value.ref b] meth c g RL code 4 ret) (hX : va_X b 9 xs s s.heap) (hbl : b < s.heap.size) (hAs : ∀ q, A q → s.heap.size ≤ q) (hZ : zz_Z g A s.heap [(ox, .inr (6, [.ref ox1, .ref ox10, .ref ox12, .ref ox16, .ref ox22, .ref ox30, .int 0, .int 0])), (ox1, .inr (5, [.int 0, .int 0, .ref ox2, .ref ox3, .ref ox4, .ref ox5, .ref ox6, .ref ox7, .ref ox8, .ref ox9])), (ox2, .inl (g.2.1, 60, .inl (fun _ => 0))), (ox3, .inl (g.2.1, 60, .inl (fun _ => 0))), (ox4, .inl (g.2.1, 60, .inl (fun _ => 0))), (ox5, .inl (g.2.1, 60, .inl (fun _ => 0))), (ox6, .inl (g.2.1, 60, .inl (fun _ => 0))), (om, .inr (7, [.int 0, .int 0, .ref om1, .ref om2, .ref om3, .ref om4, .ref om5, .ref om6, .ref om7, .int 0, .ref om8, .ref om9, .ref om10, .ref om11, .int 0, .int 0, .ref om12, .ref om13, .ref om14, .ref om15, .int 0, .ref om16, .ref om17, .ref om18, .ref om19, .int 0, .ref om20, .ref om21, .ref om22, .ref om23, .ref om24, .ref om25, .ref om26, .int 0, .ref om27, .ref om28, .ref om29])), (om1, .inl (g.2.1, 60, .inl (fun _ => 0))), (om2, .inl (g.2.1, 60, .inl (fun _ => 0))), (om3, .inl (g.2.1, 60, .inl (fun _ => 0))), (om4, .inl (g.2.1, 60, .inl (fun _ => 0))), (om5, .inl (g.2.1, 60, .inl (fun _ => 0))), (om6, .inl (g.2.2.1, 4000, .inr (.inl (fun _ => 0)))), (om7, .inl (g.2.2.2.1, 4000, .inl (fun _ => 0)))] H locs) (hl : lv_has ls 4 [(3, .int 0), (2, .ref om), (1, .ref ox), (0, .ref b)]) : W p l e room_1 s m #[Value.ref b] below meth c H locs 61 89631 (lw_Z below #[Value.ref b] s) (F0 m 221 ls []) := by
  obtain ⟨hx, hb, hml, hown, hts, hr, hlocks, hK⟩ := id hC
  have hbA : ¬ A b := fun q => absurd (hAs b q) (by omega)
  refine lv_aload_n hx hb dL_law_221 rfl (lv_at hl 2 rfl) ?_
  refine lv_aload_n hx hb dL_law_222 rfl (lv_at hl 3 rfl) ?_
  refine lv_iload_n hx hb dL_law_223 rfl (lv_at hl 0 rfl) ?_
  refine lv_iconst (v := 1) hx hb dL_law_224 (by decide) ?_
  refine lv_iadd hx hb dL_law_225 ?_
  refine zz_topi (v := 1) (by decide) ?_
  refine va_sld hx hb hX hbl hbA hZ.2.2.1 (by unfold vp_in; decide) dL_law_226 ?_
  rw [zl_c1]
  refine lv_aload_n hx hb dL_law_227 rfl (lv_at hl 3 rfl) ?_
  refine lv_iload_n hx hb dL_law_228 rfl (lv_at hl 0 rfl) ?_
  refine lv_iconst (v := 2) hx hb dL_law_229 (by decide) ?_
  refine lv_iadd hx hb dL_law_230 ?_
  refine zz_topi (v := 2) (by decide) ?_
  refine va_sld hx hb hX hbl hbA hZ.2.2.1 (by unfold vp_in; decide) dL_law_231 ?_
  rw [zl_c2]
  refine zz_iV (As := [.int (xs 1), .int (xs 2)]) (wc := [(ox, .inr (6, [.ref ox1, .ref ox10, .ref ox12, .ref ox16, .ref ox22, .ref ox30, .int 0, .int 0])), (ox1, .inr (5, [.int 0, .int 0, .ref ox2, .ref ox3, .ref ox4, .ref ox5, .ref ox6, .ref ox7, .ref ox8, .ref ox9])), (ox2, .inl (g.2.1, 60, .inl (fun _ => 0))), (ox3, .inl (g.2.1, 60, .inl (fun _ => 0))), (ox4, .inl (g.2.1, 60, .inl (fun _ => 0))), (ox5, .inl (g.2.1, 60, .inl (fun _ => 0))), (ox6, .inl (g.2.1, 60, .inl (fun _ => 0)))]) (wr := [(om, .inr (7, [.int 0, .int 0, .ref om1, .ref om2, .ref om3, .ref om4, .ref om5, .ref om6, .ref om7, .int 0, .ref om8, .ref om9, .ref om10, .ref om11, .int 0, .int 0, .ref om12, .ref om13, .ref om14, .ref om15, .int 0, .ref om16, .ref om17, .ref om18, .ref om19, .int 0, .ref om20, .ref om21, .ref om22, .ref om23, .ref om24, .ref om25, .ref om26, .int 0, .ref om27, .ref om28, .ref om29])), (om1, .inl (g.2.1, 60, .inl (fun _ => 0))), (om2, .inl (g.2.1, 60, .inl (fun _ => 0))), (om3, .inl (g.2.1, 60, .inl (fun _ => 0))), (om4, .inl (g.2.1, 60, .inl (fun _ => 0))), (om5, .inl (g.2.1, 60, .inl (fun _ => 0))), (om6, .inl (g.2.2.1, 4000, .inr (.inl (fun _ => 0)))), (om7, .inl (g.2.2.2.1, 4000, .inl (fun _ => 0)))]) (rest := []) hC hZ hl zc_L_18 (cx_things g ox ox1 ox10 ox12 ox16 ox22 ox30 ox2 ox3 ox4 ox5 ox6 ox7 ox8 ox9 (xs 1) (xs 2)) [0, 1, 2, 3, 4, 5, 6] [7, 8, 9, 10, 11, 12, 13, 14] rfl rfl (by decide) (ci := 6) (q0 := 0) rfl rfl rfl rfl (Nat.le_of_ble_eq_true rfl) ⟨⟨Nat.le_of_ble_eq_true rfl, Nat.le_of_ble_eq_true rfl⟩, Nat.le_of_ble_eq_true rfl, Nat.le_of_ble_eq_true rfl⟩ dL_law_232 (fun r1 u2 H locs hp hZ => ?_)
  obtain rfl := hp
  have hZ : zz_Z g A s.heap [(om, .inr (7, [.int 0, .int 0, .ref om1, .ref om2, .ref om3, .ref om4, .ref om5, .ref om6, .ref om7, .int 0, .ref om8, .ref om9, .ref om10, .ref om11, .int 0, .int 0, .ref om12, .ref om13, .ref om14, .ref om15, .int 0, .ref om16, .ref om17, .ref om18, .ref om19, .int 0, .ref om20, .ref om21, .ref om22, .ref om23, .ref om24, .ref om25, .ref om26, .int 0, .ref om27, .ref om28, .ref om29])), (om1, .inl (g.2.1, 60, .inl (fun _ => 0))), (om2, .inl (g.2.1, 60, .inl (fun _ => 0))), (om3, .inl (g.2.1, 60, .inl (fun _ => 0))), (om4, .inl (g.2.1, 60, .inl (fun _ => 0))), (om5, .inl (g.2.1, 60, .inl (fun _ => 0))), (om6, .inl (g.2.2.1, 4000, .inr (.inl (fun _ => 0)))), (om7, .inl (g.2.2.2.1, 4000, .inl (fun _ => 0)))] H locs := hZ.left
  refine lv_aload_n hx hb dL_law_235 rfl (lv_at hl 1 rfl) ?_
  refine lv_aload_n hx hb dL_law_236 rfl (lv_at hl 3 rfl) ?_
  refine lv_iload_n hx hb dL_law_237 rfl (lv_at hl 0 rfl) ?_
  refine lv_iconst (v := 1) hx hb dL_law_238 (by decide) ?_
  refine lv_iadd hx hb dL_law_239 ?_
  refine zz_topi (v := 1) (by decide) ?_
  refine va_sld hx hb hX hbl hbA hZ.2.2.1 (by unfold vp_in; decide) dL_law_240 ?_
  rw [zl_c1]
  refine lv_aload_n hx hb dL_law_241 rfl (lv_at hl 3 rfl) ?_
  refine lv_iload_n hx hb dL_law_242 rfl (lv_at hl 0 rfl) ?_
  refine lv_iconst (v := 2) hx hb dL_law_243 (by decide) ?_
  refine lv_iadd hx hb dL_law_244 ?_
  refine zz_topi (v := 2) (by decide) ?_
  refine va_sld hx hb hX hbl hbA hZ.2.2.1 (by unfold vp_in; decide) dL_law_245 ?_
  rw [zl_c2]
  refine zz_iV (As := [.int (xs 1), .int (xs 2)]) (wc := [(om, .inr (7, [.int 0, .int 0, .ref om1, .ref om2, .ref om3, .ref om4, .ref om5, .ref om6, .ref om7, .int 0, .ref om8, .ref om9, .ref om10, .ref om11, .int 0, .int 0, .ref om12, .ref om13, .ref om14, .ref om15, .int 0, .ref om16, .ref om17, .ref om18, .ref om19, .int 0, .ref om20, .ref om21, .ref om22, .ref om23, .ref om24, .ref om25, .ref om26, .int 0, .ref om27, .ref om28, .ref om29])), (om1, .inl (g.2.1, 60, .inl (fun _ => 0))), (om2, .inl (g.2.1, 60, .inl (fun _ => 0))), (om3, .inl (g.2.1, 60, .inl (fun _ => 0))), (om4, .inl (g.2.1, 60, .inl (fun _ => 0))), (om5, .inl (g.2.1, 60, .inl (fun _ => 0))), (om6, .inl (g.2.2.1, 4000, .inr (.inl (fun _ => 0)))), (om7, .inl (g.2.2.2.1, 4000, .inl (fun _ => 0)))]) (wr := []) (rest := [.int (fn_cx_things (xs 1) (xs 2))]) hC hZ hl zc_L_21 (my_things g om om1 om2 om3 om4 om5 om6 om7 om8 om9 om10 om11 om12 om13 om14 om15 om16 om17 om18 om19 om20 om21 om22 om23 om24 om25 om26 om27 om28 om29 (xs 1) (xs 2)) [0, 1, 2, 3, 4, 5, 6, 7] [] rfl rfl (by decide) (ci := 7) (q0 := 0) rfl rfl rfl rfl (Nat.le_of_ble_eq_true rfl) ⟨⟨Nat.le_of_ble_eq_true rfl, Nat.le_of_ble_eq_true rfl⟩, Nat.le_of_ble_eq_true rfl, Nat.le_of_ble_eq_true rfl⟩ dL_law_246 (fun r3 u4 H locs hp hZ => ?_)
  obtain rfl := hp
  have hZ : zz_Z g A s.heap [] H locs := hZ.left
  refine lv_icmp_eq (tgt := 1875) hx hb dL_law_249 (by decide) (fun c5 => ?_) (fun c => absurd (eq_things _ _) c)
  exact law_tail hC hX hbl hAs hZ.2.2.1 (Nat.le_of_ble_eq_true rfl) (Nat.le_of_ble_eq_true rfl) (lv_sub hl [3, 0] rfl)
theorem zk_259 : Cond.methodLink RL 22 yX7_rows ∈ zz_w := zz_in (List.mem_append_right _ (List.mem_append_right _ (List.mem_append_left _ (List.mem_of_getElem? (i := 19) (by decide +kernel))))) rfl
set_option maxRecDepth 20000 in
theorem zk_262 : Cond.code yX7_rows cX7_rows 3 (some .int) ∈ zz_w := zz_in (List.mem_append_right _ (List.mem_append_right _ (List.mem_append_left _ (List.mem_of_getElem? (i := 22) (rfl))))) rfl
theorem zk_260 : Cond.instanceMethod yX7_rows ∈ zz_w := zz_in (List.mem_append_right _ (List.mem_append_right _ (List.mem_append_left _ (List.mem_of_getElem? (i := 20) (by decide +kernel))))) rfl
theorem zk_261 : Cond.selects RX7 yX7_rows yX7_rows ∈ zz_w := zz_in (List.mem_append_right _ (List.mem_append_right _ (List.mem_append_left _ (List.mem_of_getElem? (i := 21) (by decide +kernel))))) rfl
theorem zc_L_22 : zz_cV RL 22 yX7_rows cX7_rows 3 (some .int) 2 := ⟨⟨zk_259, zk_262, zk_1, by decide, by decide, by decide +kernel⟩, zk_260, zk_261⟩
theorem zk_889 : Cond.methodLink RL 25 yX8_rows ∈ zz_w := zz_in (List.mem_append_right _ (List.mem_append_right _ (List.mem_append_right _ (List.mem_append_right _ (List.mem_append_left _ (List.mem_of_getElem? (i := 169) (by decide +kernel))))))) rfl
set_option maxRecDepth 20000 in
theorem zk_892 : Cond.code yX8_rows cX8_rows 3 (some .int) ∈ zz_w := zz_in (List.mem_append_right _ (List.mem_append_right _ (List.mem_append_right _ (List.mem_append_right _ (List.mem_append_left _ (List.mem_of_getElem? (i := 172) (rfl))))))) rfl
theorem zk_890 : Cond.instanceMethod yX8_rows ∈ zz_w := zz_in (List.mem_append_right _ (List.mem_append_right _ (List.mem_append_right _ (List.mem_append_right _ (List.mem_append_left _ (List.mem_of_getElem? (i := 170) (by decide +kernel))))))) rfl
theorem zk_891 : Cond.selects RX8 yX8_rows yX8_rows ∈ zz_w := zz_in (List.mem_append_right _ (List.mem_append_right _ (List.mem_append_right _ (List.mem_append_right _ (List.mem_append_left _ (List.mem_of_getElem? (i := 171) (by decide +kernel))))))) rfl
theorem zc_L_25 : zz_cV RL 25 yX8_rows cX8_rows 3 (some .int) 2 := ⟨⟨zk_889, zk_892, zk_7, by decide, by decide, by decide +kernel⟩, zk_890, zk_891⟩
set_option maxHeartbeats 4000000 in
set_option maxRecDepth 100000 in
theorem law_c2 {p : Program} {l : Launch} {e : Env} {s : State} {m : MethodId} {below : List Frame} {meth : Method} {c : Code} {A : Nat → Prop} {H : Heap} {locs : List Loc} {ls : Array Slot} (g : zz_G) (b : Nat) (xs : Nat → Int32) (ox ox1 ox10 ox12 ox16 ox22 ox30 ox2 ox3 ox4 ox5 ox6 ox7 ox8 ox9 om om1 om2 om3 om4 om5 om6 om7 om8 om9 om10 om11 om12 om13 om14 om15 om16 om17 om18 om19 om20 om21 om22 om23 om24 om25 om26 om27 om28 om29 : Nat) (hC : zz_C p s m #[Value.ref b] meth c g RL code 4 ret) (hX : va_X b 9 xs s s.heap) (hbl : b < s.heap.size) (hAs : ∀ q, A q → s.heap.size ≤ q) (hZ : zz_Z g A s.heap [(ox, .inr (6, [.ref ox1, .ref ox10, .ref ox12, .ref ox16, .ref ox22, .ref ox30, .int 0, .int 0])), (ox1, .inr (5, [.int 0, .int 0, .ref ox2, .ref ox3, .ref ox4, .ref ox5, .ref ox6, .ref ox7, .ref ox8, .ref ox9])), (om, .inr (7, [.int 0, .int 0, .ref om1, .ref om2, .ref om3, .ref om4, .ref om5, .ref om6, .ref om7, .int 0, .ref om8, .ref om9, .ref om10, .ref om11, .int 0, .int 0, .ref om12, .ref om13, .ref om14, .ref om15, .int 0, .ref om16, .ref om17, .ref om18, .ref om19, .int 0, .ref om20, .ref om21, .ref om22, .ref om23, .ref om24, .ref om25, .ref om26, .int 0, .ref om27, .ref om28, .ref om29]))] H locs) (hl : lv_has ls 4 [(3, .int 0), (2, .ref om), (1, .ref ox), (0, .ref b)]) : W p l e room_1 s m #[Value.ref b] below meth c H locs 61 89631 (lw_Z below #[Value.ref b] s) (F0 m 254 ls []) := by
  obtain ⟨hx, hb, hml, hown, hts, hr, hlocks, hK⟩ := id hC
  have hbA : ¬ A b := fun q => absurd (hAs b q) (by omega)
  refine lv_aload_n hx hb dL_law_254 rfl (lv_at hl 2 rfl) ?_
  refine lv_aload_n hx hb dL_law_255 rfl (lv_at hl 3 rfl) ?_
  refine lv_iload_n hx hb dL_law_256 rfl (lv_at hl 0 rfl) ?_
  refine lv_iconst (v := 1) hx hb dL_law_257 (by decide) ?_
  refine lv_iadd hx hb dL_law_258 ?_
  refine zz_topi (v := 1) (by decide) ?_
  refine va_sld hx hb hX hbl hbA hZ.2.2.1 (by unfold vp_in; decide) dL_law_259 ?_
  rw [zl_c1]
  refine lv_aload_n hx hb dL_law_260 rfl (lv_at hl 3 rfl) ?_
  refine lv_iload_n hx hb dL_law_261 rfl (lv_at hl 0 rfl) ?_
  refine lv_iconst (v := 2) hx hb dL_law_262 (by decide) ?_
  refine lv_iadd hx hb dL_law_263 ?_
  refine zz_topi (v := 2) (by decide) ?_
  refine va_sld hx hb hX hbl hbA hZ.2.2.1 (by unfold vp_in; decide) dL_law_264 ?_
  rw [zl_c2]
  refine zz_iV (As := [.int (xs 1), .int (xs 2)]) (wc := [(ox, .inr (6, [.ref ox1, .ref ox10, .ref ox12, .ref ox16, .ref ox22, .ref ox30, .int 0, .int 0])), (ox1, .inr (5, [.int 0, .int 0, .ref ox2, .ref ox3, .ref ox4, .ref ox5, .ref ox6, .ref ox7, .ref ox8, .ref ox9]))]) (wr := [(om, .inr (7, [.int 0, .int 0, .ref om1, .ref om2, .ref om3, .ref om4, .ref om5, .ref om6, .ref om7, .int 0, .ref om8, .ref om9, .ref om10, .ref om11, .int 0, .int 0, .ref om12, .ref om13, .ref om14, .ref om15, .int 0, .ref om16, .ref om17, .ref om18, .ref om19, .int 0, .ref om20, .ref om21, .ref om22, .ref om23, .ref om24, .ref om25, .ref om26, .int 0, .ref om27, .ref om28, .ref om29]))]) (rest := []) hC hZ hl zc_L_22 (cx_rows g ox ox1 ox10 ox12 ox16 ox22 ox30 ox2 ox3 ox4 ox5 ox6 ox7 ox8 ox9 (xs 1) (xs 2)) [0, 1] [2] rfl rfl (by decide) (ci := 6) (q0 := 0) rfl rfl rfl rfl (Nat.le_of_ble_eq_true rfl) ⟨⟨Nat.le_of_ble_eq_true rfl, Nat.le_of_ble_eq_true rfl⟩, Nat.le_of_ble_eq_true rfl, Nat.le_of_ble_eq_true rfl⟩ dL_law_265 (fun r1 u2 H locs hp hZ => ?_)
  obtain rfl := hp
  have hZ : zz_Z g A s.heap [(om, .inr (7, [.int 0, .int 0, .ref om1, .ref om2, .ref om3, .ref om4, .ref om5, .ref om6, .ref om7, .int 0, .ref om8, .ref om9, .ref om10, .ref om11, .int 0, .int 0, .ref om12, .ref om13, .ref om14, .ref om15, .int 0, .ref om16, .ref om17, .ref om18, .ref om19, .int 0, .ref om20, .ref om21, .ref om22, .ref om23, .ref om24, .ref om25, .ref om26, .int 0, .ref om27, .ref om28, .ref om29]))] H locs := hZ.left
  refine lv_aload_n hx hb dL_law_268 rfl (lv_at hl 1 rfl) ?_
  refine lv_aload_n hx hb dL_law_269 rfl (lv_at hl 3 rfl) ?_
  refine lv_iload_n hx hb dL_law_270 rfl (lv_at hl 0 rfl) ?_
  refine lv_iconst (v := 1) hx hb dL_law_271 (by decide) ?_
  refine lv_iadd hx hb dL_law_272 ?_
  refine zz_topi (v := 1) (by decide) ?_
  refine va_sld hx hb hX hbl hbA hZ.2.2.1 (by unfold vp_in; decide) dL_law_273 ?_
  rw [zl_c1]
  refine lv_aload_n hx hb dL_law_274 rfl (lv_at hl 3 rfl) ?_
  refine lv_iload_n hx hb dL_law_275 rfl (lv_at hl 0 rfl) ?_
  refine lv_iconst (v := 2) hx hb dL_law_276 (by decide) ?_
  refine lv_iadd hx hb dL_law_277 ?_
  refine zz_topi (v := 2) (by decide) ?_
  refine va_sld hx hb hX hbl hbA hZ.2.2.1 (by unfold vp_in; decide) dL_law_278 ?_
  rw [zl_c2]
  refine zz_iV (As := [.int (xs 1), .int (xs 2)]) (wc := [(om, .inr (7, [.int 0, .int 0, .ref om1, .ref om2, .ref om3, .ref om4, .ref om5, .ref om6, .ref om7, .int 0, .ref om8, .ref om9, .ref om10, .ref om11, .int 0, .int 0, .ref om12, .ref om13, .ref om14, .ref om15, .int 0, .ref om16, .ref om17, .ref om18, .ref om19, .int 0, .ref om20, .ref om21, .ref om22, .ref om23, .ref om24, .ref om25, .ref om26, .int 0, .ref om27, .ref om28, .ref om29]))]) (wr := []) (rest := [.int fn_cx_rows]) hC hZ hl zc_L_25 (my_rows g om om1 om2 om3 om4 om5 om6 om7 om8 om9 om10 om11 om12 om13 om14 om15 om16 om17 om18 om19 om20 om21 om22 om23 om24 om25 om26 om27 om28 om29 (xs 1) (xs 2)) [0] [] rfl rfl (by decide) (ci := 7) (q0 := 0) rfl rfl rfl rfl (Nat.le_of_ble_eq_true rfl) ⟨⟨Nat.le_of_ble_eq_true rfl, Nat.le_of_ble_eq_true rfl⟩, Nat.le_of_ble_eq_true rfl, Nat.le_of_ble_eq_true rfl⟩ dL_law_279 (fun r3 u4 H locs hp hZ => ?_)
  obtain rfl := hp
  have hZ : zz_Z g A s.heap [] H locs := hZ.left
  refine lv_icmp_eq (tgt := 1875) hx hb dL_law_282 (by decide) (fun c5 => ?_) (fun c => absurd (rfl) c)
  exact law_tail hC hX hbl hAs hZ.2.2.1 (Nat.le_of_ble_eq_true rfl) (Nat.le_of_ble_eq_true rfl) (lv_sub hl [3, 0] rfl)
theorem zk_267 : Cond.methodLink RL 26 yX7_grid ∈ zz_w := zz_in (List.mem_append_right _ (List.mem_append_right _ (List.mem_append_left _ (List.mem_of_getElem? (i := 27) (by decide +kernel))))) rfl
set_option maxRecDepth 20000 in
theorem zk_270 : Cond.code yX7_grid cX7_grid 7 (some .int) ∈ zz_w := zz_in (List.mem_append_right _ (List.mem_append_right _ (List.mem_append_left _ (List.mem_of_getElem? (i := 30) (rfl))))) rfl
theorem zk_268 : Cond.instanceMethod yX7_grid ∈ zz_w := zz_in (List.mem_append_right _ (List.mem_append_right _ (List.mem_append_left _ (List.mem_of_getElem? (i := 28) (by decide +kernel))))) rfl
theorem zk_269 : Cond.selects RX7 yX7_grid yX7_grid ∈ zz_w := zz_in (List.mem_append_right _ (List.mem_append_right _ (List.mem_append_left _ (List.mem_of_getElem? (i := 29) (by decide +kernel))))) rfl
theorem zc_L_26 : zz_cV RL 26 yX7_grid cX7_grid 7 (some .int) 6 := ⟨⟨zk_267, zk_270, zk_1, by decide, by decide, by decide +kernel⟩, zk_268, zk_269⟩
theorem zk_897 : Cond.methodLink RL 30 yX8_grid ∈ zz_w := zz_in (List.mem_append_right _ (List.mem_append_right _ (List.mem_append_right _ (List.mem_append_right _ (List.mem_append_left _ (List.mem_of_getElem? (i := 177) (by decide +kernel))))))) rfl
set_option maxRecDepth 20000 in
theorem zk_900 : Cond.code yX8_grid cX8_grid 19 (some .int) ∈ zz_w := zz_in (List.mem_append_right _ (List.mem_append_right _ (List.mem_append_right _ (List.mem_append_right _ (List.mem_append_left _ (List.mem_of_getElem? (i := 180) (rfl))))))) rfl
theorem zk_898 : Cond.instanceMethod yX8_grid ∈ zz_w := zz_in (List.mem_append_right _ (List.mem_append_right _ (List.mem_append_right _ (List.mem_append_right _ (List.mem_append_left _ (List.mem_of_getElem? (i := 178) (by decide +kernel))))))) rfl
theorem zk_899 : Cond.selects RX8 yX8_grid yX8_grid ∈ zz_w := zz_in (List.mem_append_right _ (List.mem_append_right _ (List.mem_append_right _ (List.mem_append_right _ (List.mem_append_left _ (List.mem_of_getElem? (i := 179) (by decide +kernel))))))) rfl
theorem zc_L_30 : zz_cV RL 30 yX8_grid cX8_grid 19 (some .int) 6 := ⟨⟨zk_897, zk_900, zk_7, by decide, by decide, by decide +kernel⟩, zk_898, zk_899⟩
set_option maxHeartbeats 4000000 in
set_option maxRecDepth 100000 in
theorem law_c3 {p : Program} {l : Launch} {e : Env} {s : State} {m : MethodId} {below : List Frame} {meth : Method} {c : Code} {A : Nat → Prop} {H : Heap} {locs : List Loc} {ls : Array Slot} (g : zz_G) (b : Nat) (xs : Nat → Int32) (ox ox1 ox10 ox12 ox16 ox22 ox30 ox2 ox3 ox4 ox5 ox6 ox7 ox8 ox9 ox11 om om1 om2 om3 om4 om5 om6 om7 om8 om9 om10 om11 om12 om13 om14 om15 om16 om17 om18 om19 om20 om21 om22 om23 om24 om25 om26 om27 om28 om29 : Nat) (hC : zz_C p s m #[Value.ref b] meth c g RL code 4 ret) (hX : va_X b 9 xs s s.heap) (hbl : b < s.heap.size) (hAs : ∀ q, A q → s.heap.size ≤ q) (hZ : zz_Z g A s.heap [(ox, .inr (6, [.ref ox1, .ref ox10, .ref ox12, .ref ox16, .ref ox22, .ref ox30, .int 0, .int 0])), (ox1, .inr (5, [.int 0, .int 0, .ref ox2, .ref ox3, .ref ox4, .ref ox5, .ref ox6, .ref ox7, .ref ox8, .ref ox9])), (ox2, .inl (g.2.1, 60, .inl (fun _ => 0))), (ox3, .inl (g.2.1, 60, .inl (fun _ => 0))), (ox4, .inl (g.2.1, 60, .inl (fun _ => 0))), (ox5, .inl (g.2.1, 60, .inl (fun _ => 0))), (ox6, .inl (g.2.1, 60, .inl (fun _ => 0))), (ox7, .inl (g.2.2.1, 4000, .inr (.inl (fun _ => 0)))), (ox10, .inr (2, [.ref ox1, .ref ox11, .int 0, .int 0])), (ox11, .inl (g.2.1, 4, .inl (fun _ => 0))), (om, .inr (7, [.int 0, .int 0, .ref om1, .ref om2, .ref om3, .ref om4, .ref om5, .ref om6, .ref om7, .int 0, .ref om8, .ref om9, .ref om10, .ref om11, .int 0, .int 0, .ref om12, .ref om13, .ref om14, .ref om15, .int 0, .ref om16, .ref om17, .ref om18, .ref om19, .int 0, .ref om20, .ref om21, .ref om22, .ref om23, .ref om24, .ref om25, .ref om26, .int 0, .ref om27, .ref om28, .ref om29])), (om1, .inl (g.2.1, 60, .inl (fun _ => 0))), (om2, .inl (g.2.1, 60, .inl (fun _ => 0))), (om3, .inl (g.2.1, 60, .inl (fun _ => 0))), (om4, .inl (g.2.1, 60, .inl (fun _ => 0))), (om5, .inl (g.2.1, 60, .inl (fun _ => 0))), (om6, .inl (g.2.2.1, 4000, .inr (.inl (fun _ => 0)))), (om7, .inl (g.2.2.2.1, 4000, .inl (fun _ => 0))), (om8, .inl (g.2.1, 4, .inl (fun _ => 0))), (om9, .inl (g.2.1, 5, .inl (fun _ => 0))), (om11, .inl (g.2.1, 5, .inl (fun _ => 0)))] H locs) (hl : lv_has ls 4 [(3, .int 0), (2, .ref om), (1, .ref ox), (0, .ref b)]) : W p l e room_1 s m #[Value.ref b] below meth c H locs 61 89631 (lw_Z below #[Value.ref b] s) (F0 m 287 ls []) := by
  obtain ⟨hx, hb, hml, hown, hts, hr, hlocks, hK⟩ := id hC
  have hbA : ¬ A b := fun q => absurd (hAs b q) (by omega)
  refine lv_aload_n hx hb dL_law_287 rfl (lv_at hl 2 rfl) ?_
  refine lv_aload_n hx hb dL_law_288 rfl (lv_at hl 3 rfl) ?_
  refine lv_iload_n hx hb dL_law_289 rfl (lv_at hl 0 rfl) ?_
  refine lv_iconst (v := 1) hx hb dL_law_290 (by decide) ?_
  refine lv_iadd hx hb dL_law_291 ?_
  refine zz_topi (v := 1) (by decide) ?_
  refine va_sld hx hb hX hbl hbA hZ.2.2.1 (by unfold vp_in; decide) dL_law_292 ?_
  rw [zl_c1]
  refine lv_aload_n hx hb dL_law_293 rfl (lv_at hl 3 rfl) ?_
  refine lv_iload_n hx hb dL_law_294 rfl (lv_at hl 0 rfl) ?_
  refine lv_iconst (v := 2) hx hb dL_law_295 (by decide) ?_
  refine lv_iadd hx hb dL_law_296 ?_
  refine zz_topi (v := 2) (by decide) ?_
  refine va_sld hx hb hX hbl hbA hZ.2.2.1 (by unfold vp_in; decide) dL_law_297 ?_
  rw [zl_c2]
  refine lv_aload_n hx hb dL_law_298 rfl (lv_at hl 3 rfl) ?_
  refine lv_iload_n hx hb dL_law_299 rfl (lv_at hl 0 rfl) ?_
  refine lv_iconst (v := 3) hx hb dL_law_300 (by decide) ?_
  refine lv_iadd hx hb dL_law_301 ?_
  refine zz_topi (v := 3) (by decide) ?_
  refine va_sld hx hb hX hbl hbA hZ.2.2.1 (by unfold vp_in; decide) dL_law_302 ?_
  rw [zl_c3]
  refine lv_aload_n hx hb dL_law_303 rfl (lv_at hl 3 rfl) ?_
  refine lv_iload_n hx hb dL_law_304 rfl (lv_at hl 0 rfl) ?_
  refine lv_iconst (v := 4) hx hb dL_law_305 (by decide) ?_
  refine lv_iadd hx hb dL_law_306 ?_
  refine zz_topi (v := 4) (by decide) ?_
  refine va_sld hx hb hX hbl hbA hZ.2.2.1 (by unfold vp_in; decide) dL_law_307 ?_
  rw [zl_c4]
  refine lv_aload_n hx hb dL_law_308 rfl (lv_at hl 3 rfl) ?_
  refine lv_iload_n hx hb dL_law_309 rfl (lv_at hl 0 rfl) ?_
  refine lv_iconst (v := 5) hx hb dL_law_310 (by decide) ?_
  refine lv_iadd hx hb dL_law_311 ?_
  refine zz_topi (v := 5) (by decide) ?_
  refine va_sld hx hb hX hbl hbA hZ.2.2.1 (by unfold vp_in; decide) dL_law_312 ?_
  rw [zl_c5]
  refine lv_aload_n hx hb dL_law_313 rfl (lv_at hl 3 rfl) ?_
  refine lv_iload_n hx hb dL_law_314 rfl (lv_at hl 0 rfl) ?_
  refine lv_bipush (v := 6) hx hb dL_law_315 (by decide) ?_
  refine lv_iadd hx hb dL_law_317 ?_
  refine zz_topi (v := 6) (by decide) ?_
  refine va_sld hx hb hX hbl hbA hZ.2.2.1 (by unfold vp_in; decide) dL_law_318 ?_
  rw [zl_c6]
  refine zz_iV (As := [.int (xs 1), .int (xs 2), .int (xs 3), .int (xs 4), .int (xs 5), .int (xs 6)]) (wc := [(ox, .inr (6, [.ref ox1, .ref ox10, .ref ox12, .ref ox16, .ref ox22, .ref ox30, .int 0, .int 0])), (ox10, .inr (2, [.ref ox1, .ref ox11, .int 0, .int 0])), (ox11, .inl (g.2.1, 4, .inl (fun _ => 0))), (ox1, .inr (5, [.int 0, .int 0, .ref ox2, .ref ox3, .ref ox4, .ref ox5, .ref ox6, .ref ox7, .ref ox8, .ref ox9])), (ox2, .inl (g.2.1, 60, .inl (fun _ => 0))), (ox3, .inl (g.2.1, 60, .inl (fun _ => 0))), (ox4, .inl (g.2.1, 60, .inl (fun _ => 0))), (ox5, .inl (g.2.1, 60, .inl (fun _ => 0))), (ox6, .inl (g.2.1, 60, .inl (fun _ => 0))), (ox7, .inl (g.2.2.1, 4000, .inr (.inl (fun _ => 0))))]) (wr := [(om, .inr (7, [.int 0, .int 0, .ref om1, .ref om2, .ref om3, .ref om4, .ref om5, .ref om6, .ref om7, .int 0, .ref om8, .ref om9, .ref om10, .ref om11, .int 0, .int 0, .ref om12, .ref om13, .ref om14, .ref om15, .int 0, .ref om16, .ref om17, .ref om18, .ref om19, .int 0, .ref om20, .ref om21, .ref om22, .ref om23, .ref om24, .ref om25, .ref om26, .int 0, .ref om27, .ref om28, .ref om29])), (om1, .inl (g.2.1, 60, .inl (fun _ => 0))), (om2, .inl (g.2.1, 60, .inl (fun _ => 0))), (om3, .inl (g.2.1, 60, .inl (fun _ => 0))), (om4, .inl (g.2.1, 60, .inl (fun _ => 0))), (om5, .inl (g.2.1, 60, .inl (fun _ => 0))), (om6, .inl (g.2.2.1, 4000, .inr (.inl (fun _ => 0)))), (om7, .inl (g.2.2.2.1, 4000, .inl (fun _ => 0))), (om8, .inl (g.2.1, 4, .inl (fun _ => 0))), (om9, .inl (g.2.1, 5, .inl (fun _ => 0))), (om11, .inl (g.2.1, 5, .inl (fun _ => 0)))]) (rest := []) hC hZ hl zc_L_26 (cx_grid g ox ox1 ox10 ox12 ox16 ox22 ox30 ox11 ox2 ox3 ox4 ox5 ox6 ox7 ox8 ox9 (xs 1) (xs 2) (xs 3) (xs 4) (xs 5) (xs 6)) [0, 8, 9, 1, 2, 3, 4, 5, 6, 7] [10, 11, 12, 13, 14, 15, 16, 17, 18, 19, 20] rfl rfl (by decide) (ci := 6) (q0 := 0) rfl rfl rfl rfl (Nat.le_of_ble_eq_true rfl) ⟨⟨Nat.le_of_ble_eq_true rfl, Nat.le_of_ble_eq_true rfl⟩, Nat.le_of_ble_eq_true rfl, Nat.le_of_ble_eq_true rfl⟩ dL_law_319 (fun r1 u2 H locs hp hZ => ?_)
  obtain rfl := hp
  have hZ : zz_Z g A s.heap [(om, .inr (7, [.int 0, .int 0, .ref om1, .ref om2, .ref om3, .ref om4, .ref om5, .ref om6, .ref om7, .int 0, .ref om8, .ref om9, .ref om10, .ref om11, .int 0, .int 0, .ref om12, .ref om13, .ref om14, .ref om15, .int 0, .ref om16, .ref om17, .ref om18, .ref om19, .int 0, .ref om20, .ref om21, .ref om22, .ref om23, .ref om24, .ref om25, .ref om26, .int 0, .ref om27, .ref om28, .ref om29])), (om1, .inl (g.2.1, 60, .inl (fun _ => 0))), (om2, .inl (g.2.1, 60, .inl (fun _ => 0))), (om3, .inl (g.2.1, 60, .inl (fun _ => 0))), (om4, .inl (g.2.1, 60, .inl (fun _ => 0))), (om5, .inl (g.2.1, 60, .inl (fun _ => 0))), (om6, .inl (g.2.2.1, 4000, .inr (.inl (fun _ => 0)))), (om7, .inl (g.2.2.2.1, 4000, .inl (fun _ => 0))), (om8, .inl (g.2.1, 4, .inl (fun _ => 0))), (om9, .inl (g.2.1, 5, .inl (fun _ => 0))), (om11, .inl (g.2.1, 5, .inl (fun _ => 0)))] H locs := hZ.left
  refine lv_aload_n hx hb dL_law_322 rfl (lv_at hl 1 rfl) ?_
  refine lv_aload_n hx hb dL_law_323 rfl (lv_at hl 3 rfl) ?_
  refine lv_iload_n hx hb dL_law_324 rfl (lv_at hl 0 rfl) ?_
  refine lv_iconst (v := 1) hx hb dL_law_325 (by decide) ?_
  refine lv_iadd hx hb dL_law_326 ?_
  refine zz_topi (v := 1) (by decide) ?_
  refine va_sld hx hb hX hbl hbA hZ.2.2.1 (by unfold vp_in; decide) dL_law_327 ?_
  rw [zl_c1]
  refine lv_aload_n hx hb dL_law_328 rfl (lv_at hl 3 rfl) ?_
  refine lv_iload_n hx hb dL_law_329 rfl (lv_at hl 0 rfl) ?_
  refine lv_iconst (v := 2) hx hb dL_law_330 (by decide) ?_
  refine lv_iadd hx hb dL_law_331 ?_
  refine zz_topi (v := 2) (by decide) ?_
  refine va_sld hx hb hX hbl hbA hZ.2.2.1 (by unfold vp_in; decide) dL_law_332 ?_
  rw [zl_c2]
  refine lv_aload_n hx hb dL_law_333 rfl (lv_at hl 3 rfl) ?_
  refine lv_iload_n hx hb dL_law_334 rfl (lv_at hl 0 rfl) ?_
  refine lv_iconst (v := 3) hx hb dL_law_335 (by decide) ?_
  refine lv_iadd hx hb dL_law_336 ?_
  refine zz_topi (v := 3) (by decide) ?_
  refine va_sld hx hb hX hbl hbA hZ.2.2.1 (by unfold vp_in; decide) dL_law_337 ?_
  rw [zl_c3]
  refine lv_aload_n hx hb dL_law_338 rfl (lv_at hl 3 rfl) ?_
  refine lv_iload_n hx hb dL_law_339 rfl (lv_at hl 0 rfl) ?_
  refine lv_iconst (v := 4) hx hb dL_law_340 (by decide) ?_
  refine lv_iadd hx hb dL_law_341 ?_
  refine zz_topi (v := 4) (by decide) ?_
  refine va_sld hx hb hX hbl hbA hZ.2.2.1 (by unfold vp_in; decide) dL_law_342 ?_
  rw [zl_c4]
  refine lv_aload_n hx hb dL_law_343 rfl (lv_at hl 3 rfl) ?_
  refine lv_iload_n hx hb dL_law_344 rfl (lv_at hl 0 rfl) ?_
  refine lv_iconst (v := 5) hx hb dL_law_345 (by decide) ?_
  refine lv_iadd hx hb dL_law_346 ?_
  refine zz_topi (v := 5) (by decide) ?_
  refine va_sld hx hb hX hbl hbA hZ.2.2.1 (by unfold vp_in; decide) dL_law_347 ?_
  rw [zl_c5]
  refine lv_aload_n hx hb dL_law_348 rfl (lv_at hl 3 rfl) ?_
  refine lv_iload_n hx hb dL_law_349 rfl (lv_at hl 0 rfl) ?_
  refine lv_bipush (v := 6) hx hb dL_law_350 (by decide) ?_
  refine lv_iadd hx hb dL_law_352 ?_
  refine zz_topi (v := 6) (by decide) ?_
  refine va_sld hx hb hX hbl hbA hZ.2.2.1 (by unfold vp_in; decide) dL_law_353 ?_
  rw [zl_c6]
  refine zz_iV (As := [.int (xs 1), .int (xs 2), .int (xs 3), .int (xs 4), .int (xs 5), .int (xs 6)]) (wc := [(om, .inr (7, [.int 0, .int 0, .ref om1, .ref om2, .ref om3, .ref om4, .ref om5, .ref om6, .ref om7, .int 0, .ref om8, .ref om9, .ref om10, .ref om11, .int 0, .int 0, .ref om12, .ref om13, .ref om14, .ref om15, .int 0, .ref om16, .ref om17, .ref om18, .ref om19, .int 0, .ref om20, .ref om21, .ref om22, .ref om23, .ref om24, .ref om25, .ref om26, .int 0, .ref om27, .ref om28, .ref om29])), (om1, .inl (g.2.1, 60, .inl (fun _ => 0))), (om2, .inl (g.2.1, 60, .inl (fun _ => 0))), (om3, .inl (g.2.1, 60, .inl (fun _ => 0))), (om4, .inl (g.2.1, 60, .inl (fun _ => 0))), (om5, .inl (g.2.1, 60, .inl (fun _ => 0))), (om6, .inl (g.2.2.1, 4000, .inr (.inl (fun _ => 0)))), (om7, .inl (g.2.2.2.1, 4000, .inl (fun _ => 0))), (om8, .inl (g.2.1, 4, .inl (fun _ => 0))), (om9, .inl (g.2.1, 5, .inl (fun _ => 0))), (om11, .inl (g.2.1, 5, .inl (fun _ => 0)))]) (wr := []) (rest := [.int (fn_cx_grid (xs 1) (xs 2) (xs 3) (xs 4) (xs 5) (xs 6))]) hC hZ hl zc_L_30 (my_grid g om om1 om2 om3 om4 om5 om6 om7 om8 om9 om10 om11 om12 om13 om14 om15 om16 om17 om18 om19 om20 om21 om22 om23 om24 om25 om26 om27 om28 om29 (xs 1) (xs 2) (xs 3) (xs 4) (xs 5) (xs 6)) [0, 1, 2, 3, 4, 5, 6, 7, 8, 9, 10] [] rfl rfl (by decide) (ci := 7) (q0 := 0) rfl rfl rfl rfl (Nat.le_of_ble_eq_true rfl) ⟨⟨Nat.le_of_ble_eq_true rfl, Nat.le_of_ble_eq_true rfl⟩, Nat.le_of_ble_eq_true rfl, Nat.le_of_ble_eq_true rfl⟩ dL_law_354 (fun r3 u4 H locs hp hZ => ?_)
  obtain rfl := hp
  have hZ : zz_Z g A s.heap [] H locs := hZ.left
  refine lv_icmp_eq (tgt := 1875) hx hb dL_law_357 (by decide) (fun c5 => ?_) (fun c => absurd (eq_grid _ _ _ _ _ _) c)
  exact law_tail hC hX hbl hAs hZ.2.2.1 (Nat.le_of_ble_eq_true rfl) (Nat.le_of_ble_eq_true rfl) (lv_sub hl [3, 0] rfl)
theorem zk_293 : Cond.methodLink RL 31 yX7_about ∈ zz_w := zz_in (List.mem_append_right _ (List.mem_append_right _ (List.mem_append_left _ (List.mem_of_getElem? (i := 53) (by decide +kernel))))) rfl
set_option maxRecDepth 20000 in
theorem zk_296 : Cond.code yX7_about cX7_about 3 (some .int) ∈ zz_w := zz_in (List.mem_append_right _ (List.mem_append_right _ (List.mem_append_left _ (List.mem_of_getElem? (i := 56) (rfl))))) rfl
theorem zk_294 : Cond.instanceMethod yX7_about ∈ zz_w := zz_in (List.mem_append_right _ (List.mem_append_right _ (List.mem_append_left _ (List.mem_of_getElem? (i := 54) (by decide +kernel))))) rfl
theorem zk_295 : Cond.selects RX7 yX7_about yX7_about ∈ zz_w := zz_in (List.mem_append_right _ (List.mem_append_right _ (List.mem_append_left _ (List.mem_of_getElem? (i := 55) (by decide +kernel))))) rfl
theorem zc_L_31 : zz_cV RL 31 yX7_about cX7_about 3 (some .int) 2 := ⟨⟨zk_293, zk_296, zk_1, by decide, by decide, by decide +kernel⟩, zk_294, zk_295⟩
theorem zk_904 : Cond.methodLink RL 34 yX8_about ∈ zz_w := zz_in (List.mem_append_right _ (List.mem_append_right _ (List.mem_append_right _ (List.mem_append_right _ (List.mem_append_left _ (List.mem_of_getElem? (i := 184) (by decide +kernel))))))) rfl
set_option maxRecDepth 20000 in
theorem zk_907 : Cond.code yX8_about cX8_about 5 (some .int) ∈ zz_w := zz_in (List.mem_append_right _ (List.mem_append_right _ (List.mem_append_right _ (List.mem_append_right _ (List.mem_append_left _ (List.mem_of_getElem? (i := 187) (rfl))))))) rfl
theorem zk_905 : Cond.instanceMethod yX8_about ∈ zz_w := zz_in (List.mem_append_right _ (List.mem_append_right _ (List.mem_append_right _ (List.mem_append_right _ (List.mem_append_left _ (List.mem_of_getElem? (i := 185) (by decide +kernel))))))) rfl
theorem zk_906 : Cond.selects RX8 yX8_about yX8_about ∈ zz_w := zz_in (List.mem_append_right _ (List.mem_append_right _ (List.mem_append_right _ (List.mem_append_right _ (List.mem_append_left _ (List.mem_of_getElem? (i := 186) (by decide +kernel))))))) rfl
theorem zc_L_34 : zz_cV RL 34 yX8_about cX8_about 5 (some .int) 2 := ⟨⟨zk_904, zk_907, zk_7, by decide, by decide, by decide +kernel⟩, zk_905, zk_906⟩
set_option maxHeartbeats 4000000 in
set_option maxRecDepth 100000 in
theorem law_c4 {p : Program} {l : Launch} {e : Env} {s : State} {m : MethodId} {below : List Frame} {meth : Method} {c : Code} {A : Nat → Prop} {H : Heap} {locs : List Loc} {ls : Array Slot} (g : zz_G) (b : Nat) (xs : Nat → Int32) (ox ox1 ox10 ox12 ox16 ox22 ox30 ox2 ox3 ox4 ox5 ox6 ox7 ox8 ox9 om om1 om2 om3 om4 om5 om6 om7 om8 om9 om10 om11 om12 om13 om14 om15 om16 om17 om18 om19 om20 om21 om22 om23 om24 om25 om26 om27 om28 om29 : Nat) (hC : zz_C p s m #[Value.ref b] meth c g RL code 4 ret) (hX : va_X b 9 xs s s.heap) (hbl : b < s.heap.size) (hAs : ∀ q, A q → s.heap.size ≤ q) (hZ : zz_Z g A s.heap [(ox, .inr (6, [.ref ox1, .ref ox10, .ref ox12, .ref ox16, .ref ox22, .ref ox30, .int 0, .int 0])), (ox1, .inr (5, [.int 0, .int 0, .ref ox2, .ref ox3, .ref ox4, .ref ox5, .ref ox6, .ref ox7, .ref ox8, .ref ox9])), (om, .inr (7, [.int 0, .int 0, .ref om1, .ref om2, .ref om3, .ref om4, .ref om5, .ref om6, .ref om7, .int 0, .ref om8, .ref om9, .ref om10, .ref om11, .int 0, .int 0, .ref om12, .ref om13, .ref om14, .ref om15, .int 0, .ref om16, .ref om17, .ref om18, .ref om19, .int 0, .ref om20, .ref om21, .ref om22, .ref om23, .ref om24, .ref om25, .ref om26, .int 0, .ref om27, .ref om28, .ref om29]))] H locs) (hl : lv_has ls 4 [(3, .int 0), (2, .ref om), (1, .ref ox), (0, .ref b)]) : W p l e room_1 s m #[Value.ref b] below meth c H locs 61 89631 (lw_Z below #[Value.ref b] s) (F0 m 362 ls []) := by
  obtain ⟨hx, hb, hml, hown, hts, hr, hlocks, hK⟩ := id hC
  have hbA : ¬ A b := fun q => absurd (hAs b q) (by omega)
  refine lv_aload_n hx hb dL_law_362 rfl (lv_at hl 2 rfl) ?_
  refine lv_aload_n hx hb dL_law_363 rfl (lv_at hl 3 rfl) ?_
  refine lv_iload_n hx hb dL_law_364 rfl (lv_at hl 0 rfl) ?_
  refine lv_iconst (v := 1) hx hb dL_law_365 (by decide) ?_
  refine lv_iadd hx hb dL_law_366 ?_
  refine zz_topi (v := 1) (by decide) ?_
  refine va_sld hx hb hX hbl hbA hZ.2.2.1 (by unfold vp_in; decide) dL_law_367 ?_
  rw [zl_c1]
  refine lv_aload_n hx hb dL_law_368 rfl (lv_at hl 3 rfl) ?_
  refine lv_iload_n hx hb dL_law_369 rfl (lv_at hl 0 rfl) ?_
  refine lv_iconst (v := 2) hx hb dL_law_370 (by decide) ?_
  refine lv_iadd hx hb dL_law_371 ?_
  refine zz_topi (v := 2) (by decide) ?_
  refine va_sld hx hb hX hbl hbA hZ.2.2.1 (by unfold vp_in; decide) dL_law_372 ?_
  rw [zl_c2]
  refine zz_iV (As := [.int (xs 1), .int (xs 2)]) (wc := [(ox, .inr (6, [.ref ox1, .ref ox10, .ref ox12, .ref ox16, .ref ox22, .ref ox30, .int 0, .int 0])), (ox1, .inr (5, [.int 0, .int 0, .ref ox2, .ref ox3, .ref ox4, .ref ox5, .ref ox6, .ref ox7, .ref ox8, .ref ox9]))]) (wr := [(om, .inr (7, [.int 0, .int 0, .ref om1, .ref om2, .ref om3, .ref om4, .ref om5, .ref om6, .ref om7, .int 0, .ref om8, .ref om9, .ref om10, .ref om11, .int 0, .int 0, .ref om12, .ref om13, .ref om14, .ref om15, .int 0, .ref om16, .ref om17, .ref om18, .ref om19, .int 0, .ref om20, .ref om21, .ref om22, .ref om23, .ref om24, .ref om25, .ref om26, .int 0, .ref om27, .ref om28, .ref om29]))]) (rest := []) hC hZ hl zc_L_31 (cx_about g ox ox1 ox10 ox12 ox16 ox22 ox30 ox2 ox3 ox4 ox5 ox6 ox7 ox8 ox9 (xs 1) (xs 2)) [0, 1] [2] rfl rfl (by decide) (ci := 6) (q0 := 0) rfl rfl rfl rfl (Nat.le_of_ble_eq_true rfl) ⟨⟨Nat.le_of_ble_eq_true rfl, Nat.le_of_ble_eq_true rfl⟩, Nat.le_of_ble_eq_true rfl, Nat.le_of_ble_eq_true rfl⟩ dL_law_373 (fun r1 u2 H locs hp hZ => ?_)
  obtain rfl := hp
  have hZ : zz_Z g A s.heap [(om, .inr (7, [.int 0, .int 0, .ref om1, .ref om2, .ref om3, .ref om4, .ref om5, .ref om6, .ref om7, .int 0, .ref om8, .ref om9, .ref om10, .ref om11, .int 0, .int 0, .ref om12, .ref om13, .ref om14, .ref om15, .int 0, .ref om16, .ref om17, .ref om18, .ref om19, .int 0, .ref om20, .ref om21, .ref om22, .ref om23, .ref om24, .ref om25, .ref om26, .int 0, .ref om27, .ref om28, .ref om29]))] H locs := hZ.left
  refine lv_aload_n hx hb dL_law_376 rfl (lv_at hl 1 rfl) ?_
  refine lv_aload_n hx hb dL_law_377 rfl (lv_at hl 3 rfl) ?_
  refine lv_iload_n hx hb dL_law_378 rfl (lv_at hl 0 rfl) ?_
  refine lv_iconst (v := 1) hx hb dL_law_379 (by decide) ?_
  refine lv_iadd hx hb dL_law_380 ?_
  refine zz_topi (v := 1) (by decide) ?_
  refine va_sld hx hb hX hbl hbA hZ.2.2.1 (by unfold vp_in; decide) dL_law_381 ?_
  rw [zl_c1]
  refine lv_aload_n hx hb dL_law_382 rfl (lv_at hl 3 rfl) ?_
  refine lv_iload_n hx hb dL_law_383 rfl (lv_at hl 0 rfl) ?_
  refine lv_iconst (v := 2) hx hb dL_law_384 (by decide) ?_
  refine lv_iadd hx hb dL_law_385 ?_
  refine zz_topi (v := 2) (by decide) ?_
  refine va_sld hx hb hX hbl hbA hZ.2.2.1 (by unfold vp_in; decide) dL_law_386 ?_
  rw [zl_c2]
  refine zz_iV (As := [.int (xs 1), .int (xs 2)]) (wc := [(om, .inr (7, [.int 0, .int 0, .ref om1, .ref om2, .ref om3, .ref om4, .ref om5, .ref om6, .ref om7, .int 0, .ref om8, .ref om9, .ref om10, .ref om11, .int 0, .int 0, .ref om12, .ref om13, .ref om14, .ref om15, .int 0, .ref om16, .ref om17, .ref om18, .ref om19, .int 0, .ref om20, .ref om21, .ref om22, .ref om23, .ref om24, .ref om25, .ref om26, .int 0, .ref om27, .ref om28, .ref om29]))]) (wr := []) (rest := [.int fn_cx_about]) hC hZ hl zc_L_34 (my_about g om om1 om2 om3 om4 om5 om6 om7 om8 om9 om10 om11 om12 om13 om14 om15 om16 om17 om18 om19 om20 om21 om22 om23 om24 om25 om26 om27 om28 om29 (xs 1) (xs 2)) [0] [] rfl rfl (by decide) (ci := 7) (q0 := 0) rfl rfl rfl rfl (Nat.le_of_ble_eq_true rfl) ⟨⟨Nat.le_of_ble_eq_true rfl, Nat.le_of_ble_eq_true rfl⟩, Nat.le_of_ble_eq_true rfl, Nat.le_of_ble_eq_true rfl⟩ dL_law_387 (fun r3 u4 H locs hp hZ => ?_)
  obtain rfl := hp
  have hZ : zz_Z g A s.heap [] H locs := hZ.left
  refine lv_icmp_eq (tgt := 1875) hx hb dL_law_390 (by decide) (fun c5 => ?_) (fun c => absurd (rfl) c)
  exact law_tail hC hX hbl hAs hZ.2.2.1 (Nat.le_of_ble_eq_true rfl) (Nat.le_of_ble_eq_true rfl) (lv_sub hl [3, 0] rfl)
theorem zk_305 : Cond.methodLink RL 35 yX7_row ∈ zz_w := zz_in (List.mem_append_right _ (List.mem_append_right _ (List.mem_append_left _ (List.mem_of_getElem? (i := 65) (by decide +kernel))))) rfl
set_option maxRecDepth 20000 in
theorem zk_308 : Cond.code yX7_row cX7_row 3 (some .int) ∈ zz_w := zz_in (List.mem_append_right _ (List.mem_append_right _ (List.mem_append_left _ (List.mem_of_getElem? (i := 68) (rfl))))) rfl
theorem zk_306 : Cond.instanceMethod yX7_row ∈ zz_w := zz_in (List.mem_append_right _ (List.mem_append_right _ (List.mem_append_left _ (List.mem_of_getElem? (i := 66) (by decide +kernel))))) rfl
theorem zk_307 : Cond.selects RX7 yX7_row yX7_row ∈ zz_w := zz_in (List.mem_append_right _ (List.mem_append_right _ (List.mem_append_left _ (List.mem_of_getElem? (i := 67) (by decide +kernel))))) rfl
theorem zc_L_35 : zz_cV RL 35 yX7_row cX7_row 3 (some .int) 2 := ⟨⟨zk_305, zk_308, zk_1, by decide, by decide, by decide +kernel⟩, zk_306, zk_307⟩
theorem zk_909 : Cond.methodLink RL 38 yX8_row ∈ zz_w := zz_in (List.mem_append_right _ (List.mem_append_right _ (List.mem_append_right _ (List.mem_append_right _ (List.mem_append_left _ (List.mem_of_getElem? (i := 189) (by decide +kernel))))))) rfl
set_option maxRecDepth 20000 in
theorem zk_912 : Cond.code yX8_row cX8_row 4 (some .int) ∈ zz_w := zz_in (List.mem_append_right _ (List.mem_append_right _ (List.mem_append_right _ (List.mem_append_right _ (List.mem_append_left _ (List.mem_of_getElem? (i := 192) (rfl))))))) rfl
theorem zk_910 : Cond.instanceMethod yX8_row ∈ zz_w := zz_in (List.mem_append_right _ (List.mem_append_right _ (List.mem_append_right _ (List.mem_append_right _ (List.mem_append_left _ (List.mem_of_getElem? (i := 190) (by decide +kernel))))))) rfl
theorem zk_911 : Cond.selects RX8 yX8_row yX8_row ∈ zz_w := zz_in (List.mem_append_right _ (List.mem_append_right _ (List.mem_append_right _ (List.mem_append_right _ (List.mem_append_left _ (List.mem_of_getElem? (i := 191) (by decide +kernel))))))) rfl
theorem zc_L_38 : zz_cV RL 38 yX8_row cX8_row 4 (some .int) 2 := ⟨⟨zk_909, zk_912, zk_7, by decide, by decide, by decide +kernel⟩, zk_910, zk_911⟩
set_option maxHeartbeats 4000000 in
set_option maxRecDepth 100000 in
theorem law_c5 {p : Program} {l : Launch} {e : Env} {s : State} {m : MethodId} {below : List Frame} {meth : Method} {c : Code} {A : Nat → Prop} {H : Heap} {locs : List Loc} {ls : Array Slot} (g : zz_G) (b : Nat) (xs : Nat → Int32) (ox ox1 ox10 ox12 ox16 ox22 ox30 ox2 ox3 ox4 ox5 ox6 ox7 ox8 ox9 om om1 om2 om3 om4 om5 om6 om7 om8 om9 om10 om11 om12 om13 om14 om15 om16 om17 om18 om19 om20 om21 om22 om23 om24 om25 om26 om27 om28 om29 : Nat) (hC : zz_C p s m #[Value.ref b] meth c g RL code 4 ret) (hX : va_X b 9 xs s s.heap) (hbl : b < s.heap.size) (hAs : ∀ q, A q → s.heap.size ≤ q) (hZ : zz_Z g A s.heap [(ox, .inr (6, [.ref ox1, .ref ox10, .ref ox12, .ref ox16, .ref ox22, .ref ox30, .int 0, .int 0])), (ox1, .inr (5, [.int 0, .int 0, .ref ox2, .ref ox3, .ref ox4, .ref ox5, .ref ox6, .ref ox7, .ref ox8, .ref ox9])), (om, .inr (7, [.int 0, .int 0, .ref om1, .ref om2, .ref om3, .ref om4, .ref om5, .ref om6, .ref om7, .int 0, .ref om8, .ref om9, .ref om10, .ref om11, .int 0, .int 0, .ref om12, .ref om13, .ref om14, .ref om15, .int 0, .ref om16, .ref om17, .ref om18, .ref om19, .int 0, .ref om20, .ref om21, .ref om22, .ref om23, .ref om24, .ref om25, .ref om26, .int 0, .ref om27, .ref om28, .ref om29]))] H locs) (hl : lv_has ls 4 [(3, .int 0), (2, .ref om), (1, .ref ox), (0, .ref b)]) : W p l e room_1 s m #[Value.ref b] below meth c H locs 61 89631 (lw_Z below #[Value.ref b] s) (F0 m 395 ls []) := by
  obtain ⟨hx, hb, hml, hown, hts, hr, hlocks, hK⟩ := id hC
  have hbA : ¬ A b := fun q => absurd (hAs b q) (by omega)
  refine lv_aload_n hx hb dL_law_395 rfl (lv_at hl 2 rfl) ?_
  refine lv_aload_n hx hb dL_law_396 rfl (lv_at hl 3 rfl) ?_
  refine lv_iload_n hx hb dL_law_397 rfl (lv_at hl 0 rfl) ?_
  refine lv_iconst (v := 1) hx hb dL_law_398 (by decide) ?_
  refine lv_iadd hx hb dL_law_399 ?_
  refine zz_topi (v := 1) (by decide) ?_
  refine va_sld hx hb hX hbl hbA hZ.2.2.1 (by unfold vp_in; decide) dL_law_400 ?_
  rw [zl_c1]
  refine lv_aload_n hx hb dL_law_401 rfl (lv_at hl 3 rfl) ?_
  refine lv_iload_n hx hb dL_law_402 rfl (lv_at hl 0 rfl) ?_
  refine lv_iconst (v := 2) hx hb dL_law_403 (by decide) ?_
  refine lv_iadd hx hb dL_law_404 ?_
  refine zz_topi (v := 2) (by decide) ?_
  refine va_sld hx hb hX hbl hbA hZ.2.2.1 (by unfold vp_in; decide) dL_law_405 ?_
  rw [zl_c2]
  refine zz_iV (As := [.int (xs 1), .int (xs 2)]) (wc := [(ox, .inr (6, [.ref ox1, .ref ox10, .ref ox12, .ref ox16, .ref ox22, .ref ox30, .int 0, .int 0])), (ox1, .inr (5, [.int 0, .int 0, .ref ox2, .ref ox3, .ref ox4, .ref ox5, .ref ox6, .ref ox7, .ref ox8, .ref ox9]))]) (wr := [(om, .inr (7, [.int 0, .int 0, .ref om1, .ref om2, .ref om3, .ref om4, .ref om5, .ref om6, .ref om7, .int 0, .ref om8, .ref om9, .ref om10, .ref om11, .int 0, .int 0, .ref om12, .ref om13, .ref om14, .ref om15, .int 0, .ref om16, .ref om17, .ref om18, .ref om19, .int 0, .ref om20, .ref om21, .ref om22, .ref om23, .ref om24, .ref om25, .ref om26, .int 0, .ref om27, .ref om28, .ref om29]))]) (rest := []) hC hZ hl zc_L_35 (cx_row g ox ox1 ox10 ox12 ox16 ox22 ox30 ox2 ox3 ox4 ox5 ox6 ox7 ox8 ox9 (xs 1) (xs 2)) [0, 1] [2] rfl rfl (by decide) (ci := 6) (q0 := 0) rfl rfl rfl rfl (Nat.le_of_ble_eq_true rfl) ⟨⟨Nat.le_of_ble_eq_true rfl, Nat.le_of_ble_eq_true rfl⟩, Nat.le_of_ble_eq_true rfl, Nat.le_of_ble_eq_true rfl⟩ dL_law_406 (fun r1 u2 H locs hp hZ => ?_)
  obtain rfl := hp
  have hZ : zz_Z g A s.heap [(om, .inr (7, [.int 0, .int 0, .ref om1, .ref om2, .ref om3, .ref om4, .ref om5, .ref om6, .ref om7, .int 0, .ref om8, .ref om9, .ref om10, .ref om11, .int 0, .int 0, .ref om12, .ref om13, .ref om14, .ref om15, .int 0, .ref om16, .ref om17, .ref om18, .ref om19, .int 0, .ref om20, .ref om21, .ref om22, .ref om23, .ref om24, .ref om25, .ref om26, .int 0, .ref om27, .ref om28, .ref om29]))] H locs := hZ.left
  refine lv_aload_n hx hb dL_law_409 rfl (lv_at hl 1 rfl) ?_
  refine lv_aload_n hx hb dL_law_410 rfl (lv_at hl 3 rfl) ?_
  refine lv_iload_n hx hb dL_law_411 rfl (lv_at hl 0 rfl) ?_
  refine lv_iconst (v := 1) hx hb dL_law_412 (by decide) ?_
  refine lv_iadd hx hb dL_law_413 ?_
  refine zz_topi (v := 1) (by decide) ?_
  refine va_sld hx hb hX hbl hbA hZ.2.2.1 (by unfold vp_in; decide) dL_law_414 ?_
  rw [zl_c1]
  refine lv_aload_n hx hb dL_law_415 rfl (lv_at hl 3 rfl) ?_
  refine lv_iload_n hx hb dL_law_416 rfl (lv_at hl 0 rfl) ?_
  refine lv_iconst (v := 2) hx hb dL_law_417 (by decide) ?_
  refine lv_iadd hx hb dL_law_418 ?_
  refine zz_topi (v := 2) (by decide) ?_
  refine va_sld hx hb hX hbl hbA hZ.2.2.1 (by unfold vp_in; decide) dL_law_419 ?_
  rw [zl_c2]
  refine zz_iV (As := [.int (xs 1), .int (xs 2)]) (wc := [(om, .inr (7, [.int 0, .int 0, .ref om1, .ref om2, .ref om3, .ref om4, .ref om5, .ref om6, .ref om7, .int 0, .ref om8, .ref om9, .ref om10, .ref om11, .int 0, .int 0, .ref om12, .ref om13, .ref om14, .ref om15, .int 0, .ref om16, .ref om17, .ref om18, .ref om19, .int 0, .ref om20, .ref om21, .ref om22, .ref om23, .ref om24, .ref om25, .ref om26, .int 0, .ref om27, .ref om28, .ref om29]))]) (wr := []) (rest := [.int fn_cx_row]) hC hZ hl zc_L_38 (my_row g om om1 om2 om3 om4 om5 om6 om7 om8 om9 om10 om11 om12 om13 om14 om15 om16 om17 om18 om19 om20 om21 om22 om23 om24 om25 om26 om27 om28 om29 (xs 1) (xs 2)) [0] [] rfl rfl (by decide) (ci := 7) (q0 := 0) rfl rfl rfl rfl (Nat.le_of_ble_eq_true rfl) ⟨⟨Nat.le_of_ble_eq_true rfl, Nat.le_of_ble_eq_true rfl⟩, Nat.le_of_ble_eq_true rfl, Nat.le_of_ble_eq_true rfl⟩ dL_law_420 (fun r3 u4 H locs hp hZ => ?_)
  obtain rfl := hp
  have hZ : zz_Z g A s.heap [] H locs := hZ.left
  refine lv_icmp_eq (tgt := 1875) hx hb dL_law_423 (by decide) (fun c5 => ?_) (fun c => absurd (rfl) c)
  exact law_tail hC hX hbl hAs hZ.2.2.1 (Nat.le_of_ble_eq_true rfl) (Nat.le_of_ble_eq_true rfl) (lv_sub hl [3, 0] rfl)
theorem zk_317 : Cond.methodLink RL 39 yX7_setRow ∈ zz_w := zz_in (List.mem_append_right _ (List.mem_append_right _ (List.mem_append_left _ (List.mem_of_getElem? (i := 77) (by decide +kernel))))) rfl
set_option maxRecDepth 20000 in
theorem zk_320 : Cond.code yX7_setRow cX7_setRow 4 (some .int) ∈ zz_w := zz_in (List.mem_append_right _ (List.mem_append_right _ (List.mem_append_left _ (List.mem_of_getElem? (i := 80) (rfl))))) rfl
theorem zk_318 : Cond.instanceMethod yX7_setRow ∈ zz_w := zz_in (List.mem_append_right _ (List.mem_append_right _ (List.mem_append_left _ (List.mem_of_getElem? (i := 78) (by decide +kernel))))) rfl
theorem zk_319 : Cond.selects RX7 yX7_setRow yX7_setRow ∈ zz_w := zz_in (List.mem_append_right _ (List.mem_append_right _ (List.mem_append_left _ (List.mem_of_getElem? (i := 79) (by decide +kernel))))) rfl
theorem zc_L_39 : zz_cV RL 39 yX7_setRow cX7_setRow 4 (some .int) 3 := ⟨⟨zk_317, zk_320, zk_1, by decide, by decide, by decide +kernel⟩, zk_318, zk_319⟩
theorem zk_913 : Cond.methodLink RL 43 yX8_setRow ∈ zz_w := zz_in (List.mem_append_right _ (List.mem_append_right _ (List.mem_append_right _ (List.mem_append_right _ (List.mem_append_left _ (List.mem_of_getElem? (i := 193) (by decide +kernel))))))) rfl
set_option maxRecDepth 20000 in
theorem zk_916 : Cond.code yX8_setRow cX8_setRow 4 (some .int) ∈ zz_w := zz_in (List.mem_append_right _ (List.mem_append_right _ (List.mem_append_right _ (List.mem_append_right _ (List.mem_append_left _ (List.mem_of_getElem? (i := 196) (rfl))))))) rfl
theorem zk_914 : Cond.instanceMethod yX8_setRow ∈ zz_w := zz_in (List.mem_append_right _ (List.mem_append_right _ (List.mem_append_right _ (List.mem_append_right _ (List.mem_append_left _ (List.mem_of_getElem? (i := 194) (by decide +kernel))))))) rfl
theorem zk_915 : Cond.selects RX8 yX8_setRow yX8_setRow ∈ zz_w := zz_in (List.mem_append_right _ (List.mem_append_right _ (List.mem_append_right _ (List.mem_append_right _ (List.mem_append_left _ (List.mem_of_getElem? (i := 195) (by decide +kernel))))))) rfl
theorem zc_L_43 : zz_cV RL 43 yX8_setRow cX8_setRow 4 (some .int) 3 := ⟨⟨zk_913, zk_916, zk_7, by decide, by decide, by decide +kernel⟩, zk_914, zk_915⟩
set_option maxHeartbeats 4000000 in
set_option maxRecDepth 100000 in
theorem law_c6 {p : Program} {l : Launch} {e : Env} {s : State} {m : MethodId} {below : List Frame} {meth : Method} {c : Code} {A : Nat → Prop} {H : Heap} {locs : List Loc} {ls : Array Slot} (g : zz_G) (b : Nat) (xs : Nat → Int32) (ox ox1 ox10 ox12 ox16 ox22 ox30 ox2 ox3 ox4 ox5 ox6 ox7 ox8 ox9 om om1 om2 om3 om4 om5 om6 om7 om8 om9 om10 om11 om12 om13 om14 om15 om16 om17 om18 om19 om20 om21 om22 om23 om24 om25 om26 om27 om28 om29 : Nat) (hC : zz_C p s m #[Value.ref b] meth c g RL code 4 ret) (hX : va_X b 9 xs s s.heap) (hbl : b < s.heap.size) (hAs : ∀ q, A q → s.heap.size ≤ q) (hZ : zz_Z g A s.heap [(ox, .inr (6, [.ref ox1, .ref ox10, .ref ox12, .ref ox16, .ref ox22, .ref ox30, .int 0, .int 0])), (ox1, .inr (5, [.int 0, .int 0, .ref ox2, .ref ox3, .ref ox4, .ref ox5, .ref ox6, .ref ox7, .ref ox8, .ref ox9])), (om, .inr (7, [.int 0, .int 0, .ref om1, .ref om2, .ref om3, .ref om4, .ref om5, .ref om6, .ref om7, .int 0, .ref om8, .ref om9, .ref om10, .ref om11, .int 0, .int 0, .ref om12, .ref om13, .ref om14, .ref om15, .int 0, .ref om16, .ref om17, .ref om18, .ref om19, .int 0, .ref om20, .ref om21, .ref om22, .ref om23, .ref om24, .ref om25, .ref om26, .int 0, .ref om27, .ref om28, .ref om29]))] H locs) (hl : lv_has ls 4 [(3, .int 0), (2, .ref om), (1, .ref ox), (0, .ref b)]) : W p l e room_1 s m #[Value.ref b] below meth c H locs 61 89631 (lw_Z below #[Value.ref b] s) (F0 m 428 ls []) := by
  obtain ⟨hx, hb, hml, hown, hts, hr, hlocks, hK⟩ := id hC
  have hbA : ¬ A b := fun q => absurd (hAs b q) (by omega)
  refine lv_aload_n hx hb dL_law_428 rfl (lv_at hl 2 rfl) ?_
  refine lv_aload_n hx hb dL_law_429 rfl (lv_at hl 3 rfl) ?_
  refine lv_iload_n hx hb dL_law_430 rfl (lv_at hl 0 rfl) ?_
  refine lv_iconst (v := 1) hx hb dL_law_431 (by decide) ?_
  refine lv_iadd hx hb dL_law_432 ?_
  refine zz_topi (v := 1) (by decide) ?_
  refine va_sld hx hb hX hbl hbA hZ.2.2.1 (by unfold vp_in; decide) dL_law_433 ?_
  rw [zl_c1]
  refine lv_aload_n hx hb dL_law_434 rfl (lv_at hl 3 rfl) ?_
  refine lv_iload_n hx hb dL_law_435 rfl (lv_at hl 0 rfl) ?_
  refine lv_iconst (v := 2) hx hb dL_law_436 (by decide) ?_
  refine lv_iadd hx hb dL_law_437 ?_
  refine zz_topi (v := 2) (by decide) ?_
  refine va_sld hx hb hX hbl hbA hZ.2.2.1 (by unfold vp_in; decide) dL_law_438 ?_
  rw [zl_c2]
  refine lv_aload_n hx hb dL_law_439 rfl (lv_at hl 3 rfl) ?_
  refine lv_iload_n hx hb dL_law_440 rfl (lv_at hl 0 rfl) ?_
  refine lv_iconst (v := 3) hx hb dL_law_441 (by decide) ?_
  refine lv_iadd hx hb dL_law_442 ?_
  refine zz_topi (v := 3) (by decide) ?_
  refine va_sld hx hb hX hbl hbA hZ.2.2.1 (by unfold vp_in; decide) dL_law_443 ?_
  rw [zl_c3]
  refine zz_iV (As := [.int (xs 1), .int (xs 2), .int (xs 3)]) (wc := [(ox, .inr (6, [.ref ox1, .ref ox10, .ref ox12, .ref ox16, .ref ox22, .ref ox30, .int 0, .int 0])), (ox1, .inr (5, [.int 0, .int 0, .ref ox2, .ref ox3, .ref ox4, .ref ox5, .ref ox6, .ref ox7, .ref ox8, .ref ox9]))]) (wr := [(om, .inr (7, [.int 0, .int 0, .ref om1, .ref om2, .ref om3, .ref om4, .ref om5, .ref om6, .ref om7, .int 0, .ref om8, .ref om9, .ref om10, .ref om11, .int 0, .int 0, .ref om12, .ref om13, .ref om14, .ref om15, .int 0, .ref om16, .ref om17, .ref om18, .ref om19, .int 0, .ref om20, .ref om21, .ref om22, .ref om23, .ref om24, .ref om25, .ref om26, .int 0, .ref om27, .ref om28, .ref om29]))]) (rest := []) hC hZ hl zc_L_39 (cx_setRow g ox ox1 ox10 ox12 ox16 ox22 ox30 ox2 ox3 ox4 ox5 ox6 ox7 ox8 ox9 (xs 1) (xs 2) (xs 3)) [0, 1] [2] rfl rfl (by decide) (ci := 6) (q0 := 0) rfl rfl rfl rfl (Nat.le_of_ble_eq_true rfl) ⟨⟨Nat.le_of_ble_eq_true rfl, Nat.le_of_ble_eq_true rfl⟩, Nat.le_of_ble_eq_true rfl, Nat.le_of_ble_eq_true rfl⟩ dL_law_444 (fun r1 u2 H locs hp hZ => ?_)
  obtain rfl := hp
  have hZ : zz_Z g A s.heap [(om, .inr (7, [.int 0, .int 0, .ref om1, .ref om2, .ref om3, .ref om4, .ref om5, .ref om6, .ref om7, .int 0, .ref om8, .ref om9, .ref om10, .ref om11, .int 0, .int 0, .ref om12, .ref om13, .ref om14, .ref om15, .int 0, .ref om16, .ref om17, .ref om18, .ref om19, .int 0, .ref om20, .ref om21, .ref om22, .ref om23, .ref om24, .ref om25, .ref om26, .int 0, .ref om27, .ref om28, .ref om29]))] H locs := hZ.left
  refine lv_aload_n hx hb dL_law_447 rfl (lv_at hl 1 rfl) ?_
  refine lv_aload_n hx hb dL_law_448 rfl (lv_at hl 3 rfl) ?_
  refine lv_iload_n hx hb dL_law_449 rfl (lv_at hl 0 rfl) ?_
  refine lv_iconst (v := 1) hx hb dL_law_450 (by decide) ?_
  refine lv_iadd hx hb dL_law_451 ?_
  refine zz_topi (v := 1) (by decide) ?_
  refine va_sld hx hb hX hbl hbA hZ.2.2.1 (by unfold vp_in; decide) dL_law_452 ?_
  rw [zl_c1]
  refine lv_aload_n hx hb dL_law_453 rfl (lv_at hl 3 rfl) ?_
  refine lv_iload_n hx hb dL_law_454 rfl (lv_at hl 0 rfl) ?_
  refine lv_iconst (v := 2) hx hb dL_law_455 (by decide) ?_
  refine lv_iadd hx hb dL_law_456 ?_
  refine zz_topi (v := 2) (by decide) ?_
  refine va_sld hx hb hX hbl hbA hZ.2.2.1 (by unfold vp_in; decide) dL_law_457 ?_
  rw [zl_c2]
  refine lv_aload_n hx hb dL_law_458 rfl (lv_at hl 3 rfl) ?_
  refine lv_iload_n hx hb dL_law_459 rfl (lv_at hl 0 rfl) ?_
  refine lv_iconst (v := 3) hx hb dL_law_460 (by decide) ?_
  refine lv_iadd hx hb dL_law_461 ?_
  refine zz_topi (v := 3) (by decide) ?_
  refine va_sld hx hb hX hbl hbA hZ.2.2.1 (by unfold vp_in; decide) dL_law_462 ?_
  rw [zl_c3]
  refine zz_iV (As := [.int (xs 1), .int (xs 2), .int (xs 3)]) (wc := [(om, .inr (7, [.int 0, .int 0, .ref om1, .ref om2, .ref om3, .ref om4, .ref om5, .ref om6, .ref om7, .int 0, .ref om8, .ref om9, .ref om10, .ref om11, .int 0, .int 0, .ref om12, .ref om13, .ref om14, .ref om15, .int 0, .ref om16, .ref om17, .ref om18, .ref om19, .int 0, .ref om20, .ref om21, .ref om22, .ref om23, .ref om24, .ref om25, .ref om26, .int 0, .ref om27, .ref om28, .ref om29]))]) (wr := []) (rest := [.int fn_cx_setRow]) hC hZ hl zc_L_43 (my_setRow g om om1 om2 om3 om4 om5 om6 om7 om8 om9 om10 om11 om12 om13 om14 om15 om16 om17 om18 om19 om20 om21 om22 om23 om24 om25 om26 om27 om28 om29 (xs 1) (xs 2) (xs 3)) [0] [] rfl rfl (by decide) (ci := 7) (q0 := 0) rfl rfl rfl rfl (Nat.le_of_ble_eq_true rfl) ⟨⟨Nat.le_of_ble_eq_true rfl, Nat.le_of_ble_eq_true rfl⟩, Nat.le_of_ble_eq_true rfl, Nat.le_of_ble_eq_true rfl⟩ dL_law_463 (fun r3 u4 H locs hp hZ => ?_)
  obtain rfl := hp
  have hZ : zz_Z g A s.heap [] H locs := hZ.left
  refine lv_icmp_eq (tgt := 1875) hx hb dL_law_466 (by decide) (fun c5 => ?_) (fun c => absurd (rfl) c)
  exact law_tail hC hX hbl hAs hZ.2.2.1 (Nat.le_of_ble_eq_true rfl) (Nat.le_of_ble_eq_true rfl) (lv_sub hl [3, 0] rfl)
theorem zk_325 : Cond.methodLink RL 44 yX7_read ∈ zz_w := zz_in (List.mem_append_right _ (List.mem_append_right _ (List.mem_append_left _ (List.mem_of_getElem? (i := 85) (by decide +kernel))))) rfl
set_option maxRecDepth 20000 in
theorem zk_328 : Cond.code yX7_read cX7_read 9 (some .long) ∈ zz_w := zz_in (List.mem_append_right _ (List.mem_append_right _ (List.mem_append_left _ (List.mem_of_getElem? (i := 88) (rfl))))) rfl
theorem zk_326 : Cond.instanceMethod yX7_read ∈ zz_w := zz_in (List.mem_append_right _ (List.mem_append_right _ (List.mem_append_left _ (List.mem_of_getElem? (i := 86) (by decide +kernel))))) rfl
theorem zk_327 : Cond.selects RX7 yX7_read yX7_read ∈ zz_w := zz_in (List.mem_append_right _ (List.mem_append_right _ (List.mem_append_left _ (List.mem_of_getElem? (i := 87) (by decide +kernel))))) rfl
theorem zc_L_44 : zz_cV RL 44 yX7_read cX7_read 9 (some .long) 6 := ⟨⟨zk_325, zk_328, zk_1, by decide, by decide, by decide +kernel⟩, zk_326, zk_327⟩
theorem zk_917 : Cond.methodLink RL 48 yX8_read ∈ zz_w := zz_in (List.mem_append_right _ (List.mem_append_right _ (List.mem_append_right _ (List.mem_append_right _ (List.mem_append_left _ (List.mem_of_getElem? (i := 197) (by decide +kernel))))))) rfl
set_option maxRecDepth 20000 in
theorem zk_920 : Cond.code yX8_read cX8_read 8 (some .long) ∈ zz_w := zz_in (List.mem_append_right _ (List.mem_append_right _ (List.mem_append_right _ (List.mem_append_right _ (List.mem_append_left _ (List.mem_of_getElem? (i := 200) (rfl))))))) rfl
theorem zk_918 : Cond.instanceMethod yX8_read ∈ zz_w := zz_in (List.mem_append_right _ (List.mem_append_right _ (List.mem_append_right _ (List.mem_append_right _ (List.mem_append_left _ (List.mem_of_getElem? (i := 198) (by decide +kernel))))))) rfl
theorem zk_919 : Cond.selects RX8 yX8_read yX8_read ∈ zz_w := zz_in (List.mem_append_right _ (List.mem_append_right _ (List.mem_append_right _ (List.mem_append_right _ (List.mem_append_left _ (List.mem_of_getElem? (i := 199) (by decide +kernel))))))) rfl
theorem zc_L_48 : zz_cV RL 48 yX8_read cX8_read 8 (some .long) 6 := ⟨⟨zk_917, zk_920, zk_7, by decide, by decide, by decide +kernel⟩, zk_918, zk_919⟩
set_option maxHeartbeats 4000000 in
set_option maxRecDepth 100000 in
theorem law_c7 {p : Program} {l : Launch} {e : Env} {s : State} {m : MethodId} {below : List Frame} {meth : Method} {c : Code} {A : Nat → Prop} {H : Heap} {locs : List Loc} {ls : Array Slot} (g : zz_G) (b : Nat) (xs : Nat → Int32) (ox ox1 ox10 ox12 ox16 ox22 ox30 ox2 ox3 ox4 ox5 ox6 ox7 ox8 ox9 om om1 om2 om3 om4 om5 om6 om7 om8 om9 om10 om11 om12 om13 om14 om15 om16 om17 om18 om19 om20 om21 om22 om23 om24 om25 om26 om27 om28 om29 : Nat) (hC : zz_C p s m #[Value.ref b] meth c g RL code 4 ret) (hX : va_X b 9 xs s s.heap) (hbl : b < s.heap.size) (hAs : ∀ q, A q → s.heap.size ≤ q) (hZ : zz_Z g A s.heap [(ox, .inr (6, [.ref ox1, .ref ox10, .ref ox12, .ref ox16, .ref ox22, .ref ox30, .int 0, .int 0])), (ox1, .inr (5, [.int 0, .int 0, .ref ox2, .ref ox3, .ref ox4, .ref ox5, .ref ox6, .ref ox7, .ref ox8, .ref ox9])), (om, .inr (7, [.int 0, .int 0, .ref om1, .ref om2, .ref om3, .ref om4, .ref om5, .ref om6, .ref om7, .int 0, .ref om8, .ref om9, .ref om10, .ref om11, .int 0, .int 0, .ref om12, .ref om13, .ref om14, .ref om15, .int 0, .ref om16, .ref om17, .ref om18, .ref om19, .int 0, .ref om20, .ref om21, .ref om22, .ref om23, .ref om24, .ref om25, .ref om26, .int 0, .ref om27, .ref om28, .ref om29]))] H locs) (hl : lv_has ls 4 [(3, .int 0), (2, .ref om), (1, .ref ox), (0, .ref b)]) : W p l e room_1 s m #[Value.ref b] below meth c H locs 61 89631 (lw_Z below #[Value.ref b] s) (F0 m 471 ls []) := by
  obtain ⟨hx, hb, hml, hown, hts, hr, hlocks, hK⟩ := id hC
  have hbA : ¬ A b := fun q => absurd (hAs b q) (by omega)
  refine lv_aload_n hx hb dL_law_471 rfl (lv_at hl 2 rfl) ?_
  refine lv_aload_n hx hb dL_law_472 rfl (lv_at hl 3 rfl) ?_
  refine lv_iload_n hx hb dL_law_473 rfl (lv_at hl 0 rfl) ?_
  refine lv_iconst (v := 1) hx hb dL_law_474 (by decide) ?_
  refine lv_iadd hx hb dL_law_475 ?_
  refine zz_topi (v := 1) (by decide) ?_
  refine va_sld hx hb hX hbl hbA hZ.2.2.1 (by unfold vp_in; decide) dL_law_476 ?_
  rw [zl_c1]
  refine lv_aload_n hx hb dL_law_477 rfl (lv_at hl 3 rfl) ?_
  refine lv_iload_n hx hb dL_law_478 rfl (lv_at hl 0 rfl) ?_
  refine lv_iconst (v := 2) hx hb dL_law_479 (by decide) ?_
  refine lv_iadd hx hb dL_law_480 ?_
  refine zz_topi (v := 2) (by decide) ?_
  refine va_sld hx hb hX hbl hbA hZ.2.2.1 (by unfold vp_in; decide) dL_law_481 ?_
  rw [zl_c2]
  refine lv_aload_n hx hb dL_law_482 rfl (lv_at hl 3 rfl) ?_
  refine lv_iload_n hx hb dL_law_483 rfl (lv_at hl 0 rfl) ?_
  refine lv_iconst (v := 3) hx hb dL_law_484 (by decide) ?_
  refine lv_iadd hx hb dL_law_485 ?_
  refine zz_topi (v := 3) (by decide) ?_
  refine va_sld hx hb hX hbl hbA hZ.2.2.1 (by unfold vp_in; decide) dL_law_486 ?_
  rw [zl_c3]
  refine lv_aload_n hx hb dL_law_487 rfl (lv_at hl 3 rfl) ?_
  refine lv_iload_n hx hb dL_law_488 rfl (lv_at hl 0 rfl) ?_
  refine lv_iconst (v := 4) hx hb dL_law_489 (by decide) ?_
  refine lv_iadd hx hb dL_law_490 ?_
  refine zz_topi (v := 4) (by decide) ?_
  refine va_sld hx hb hX hbl hbA hZ.2.2.1 (by unfold vp_in; decide) dL_law_491 ?_
  rw [zl_c4]
  refine lv_aload_n hx hb dL_law_492 rfl (lv_at hl 3 rfl) ?_
  refine lv_iload_n hx hb dL_law_493 rfl (lv_at hl 0 rfl) ?_
  refine lv_iconst (v := 5) hx hb dL_law_494 (by decide) ?_
  refine lv_iadd hx hb dL_law_495 ?_
  refine zz_topi (v := 5) (by decide) ?_
  refine va_sld hx hb hX hbl hbA hZ.2.2.1 (by unfold vp_in; decide) dL_law_496 ?_
  rw [zl_c5]
  refine lv_aload_n hx hb dL_law_497 rfl (lv_at hl 3 rfl) ?_
  refine lv_iload_n hx hb dL_law_498 rfl (lv_at hl 0 rfl) ?_
  refine lv_bipush (v := 6) hx hb dL_law_499 (by decide) ?_
  refine lv_iadd hx hb dL_law_501 ?_
  refine zz_topi (v := 6) (by decide) ?_
  refine va_sld hx hb hX hbl hbA hZ.2.2.1 (by unfold vp_in; decide) dL_law_502 ?_
  rw [zl_c6]
  refine zz_lV (As := [.int (xs 1), .int (xs 2), .int (xs 3), .int (xs 4), .int (xs 5), .int (xs 6)]) (wc := [(ox, .inr (6, [.ref ox1, .ref ox10, .ref ox12, .ref ox16, .ref ox22, .ref ox30, .int 0, .int 0])), (ox1, .inr (5, [.int 0, .int 0, .ref ox2, .ref ox3, .ref ox4, .ref ox5, .ref ox6, .ref ox7, .ref ox8, .ref ox9]))]) (wr := [(om, .inr (7, [.int 0, .int 0, .ref om1, .ref om2, .ref om3, .ref om4, .ref om5, .ref om6, .ref om7, .int 0, .ref om8, .ref om9, .ref om10, .ref om11, .int 0, .int 0, .ref om12, .ref om13, .ref om14, .ref om15, .int 0, .ref om16, .ref om17, .ref om18, .ref om19, .int 0, .ref om20, .ref om21, .ref om22, .ref om23, .ref om24, .ref om25, .ref om26, .int 0, .ref om27, .ref om28, .ref om29]))]) (rest := []) hC hZ hl zc_L_44 (cx_read g ox ox1 ox10 ox12 ox16 ox22 ox30 ox2 ox3 ox4 ox5 ox6 ox7 ox8 ox9 (xs 1) (xs 2) (xs 3) (xs 4) (xs 5) (xs 6)) [0, 1] [2] rfl rfl (by decide) (ci := 6) (q0 := 0) rfl rfl rfl rfl (Nat.le_of_ble_eq_true rfl) ⟨⟨Nat.le_of_ble_eq_true rfl, Nat.le_of_ble_eq_true rfl⟩, Nat.le_of_ble_eq_true rfl, Nat.le_of_ble_eq_true rfl⟩ dL_law_503 (fun r1 u2 H locs hp hZ => ?_)
  obtain rfl := hp
  have hZ : zz_Z g A s.heap [(om, .inr (7, [.int 0, .int 0, .ref om1, .ref om2, .ref om3, .ref om4, .ref om5, .ref om6, .ref om7, .int 0, .ref om8, .ref om9, .ref om10, .ref om11, .int 0, .int 0, .ref om12, .ref om13, .ref om14, .ref om15, .int 0, .ref om16, .ref om17, .ref om18, .ref om19, .int 0, .ref om20, .ref om21, .ref om22, .ref om23, .ref om24, .ref om25, .ref om26, .int 0, .ref om27, .ref om28, .ref om29]))] H locs := hZ.left
  refine lv_aload_n hx hb dL_law_506 rfl (lv_at hl 1 rfl) ?_
  refine lv_aload_n hx hb dL_law_507 rfl (lv_at hl 3 rfl) ?_
  refine lv_iload_n hx hb dL_law_508 rfl (lv_at hl 0 rfl) ?_
  refine lv_iconst (v := 1) hx hb dL_law_509 (by decide) ?_
  refine lv_iadd hx hb dL_law_510 ?_
  refine zz_topi (v := 1) (by decide) ?_
  refine va_sld hx hb hX hbl hbA hZ.2.2.1 (by unfold vp_in; decide) dL_law_511 ?_
  rw [zl_c1]
  refine lv_aload_n hx hb dL_law_512 rfl (lv_at hl 3 rfl) ?_
  refine lv_iload_n hx hb dL_law_513 rfl (lv_at hl 0 rfl) ?_
  refine lv_iconst (v := 2) hx hb dL_law_514 (by decide) ?_
  refine lv_iadd hx hb dL_law_515 ?_
  refine zz_topi (v := 2) (by decide) ?_
  refine va_sld hx hb hX hbl hbA hZ.2.2.1 (by unfold vp_in; decide) dL_law_516 ?_
  rw [zl_c2]
  refine lv_aload_n hx hb dL_law_517 rfl (lv_at hl 3 rfl) ?_
  refine lv_iload_n hx hb dL_law_518 rfl (lv_at hl 0 rfl) ?_
  refine lv_iconst (v := 3) hx hb dL_law_519 (by decide) ?_
  refine lv_iadd hx hb dL_law_520 ?_
  refine zz_topi (v := 3) (by decide) ?_
  refine va_sld hx hb hX hbl hbA hZ.2.2.1 (by unfold vp_in; decide) dL_law_521 ?_
  rw [zl_c3]
  refine lv_aload_n hx hb dL_law_522 rfl (lv_at hl 3 rfl) ?_
  refine lv_iload_n hx hb dL_law_523 rfl (lv_at hl 0 rfl) ?_
  refine lv_iconst (v := 4) hx hb dL_law_524 (by decide) ?_
  refine lv_iadd hx hb dL_law_525 ?_
  refine zz_topi (v := 4) (by decide) ?_
  refine va_sld hx hb hX hbl hbA hZ.2.2.1 (by unfold vp_in; decide) dL_law_526 ?_
  rw [zl_c4]
  refine lv_aload_n hx hb dL_law_527 rfl (lv_at hl 3 rfl) ?_
  refine lv_iload_n hx hb dL_law_528 rfl (lv_at hl 0 rfl) ?_
  refine lv_iconst (v := 5) hx hb dL_law_529 (by decide) ?_
  refine lv_iadd hx hb dL_law_530 ?_
  refine zz_topi (v := 5) (by decide) ?_
  refine va_sld hx hb hX hbl hbA hZ.2.2.1 (by unfold vp_in; decide) dL_law_531 ?_
  rw [zl_c5]
  refine lv_aload_n hx hb dL_law_532 rfl (lv_at hl 3 rfl) ?_
  refine lv_iload_n hx hb dL_law_533 rfl (lv_at hl 0 rfl) ?_
  refine lv_bipush (v := 6) hx hb dL_law_534 (by decide) ?_
  refine lv_iadd hx hb dL_law_536 ?_
  refine zz_topi (v := 6) (by decide) ?_
  refine va_sld hx hb hX hbl hbA hZ.2.2.1 (by unfold vp_in; decide) dL_law_537 ?_
  rw [zl_c6]
  refine zz_lV (As := [.int (xs 1), .int (xs 2), .int (xs 3), .int (xs 4), .int (xs 5), .int (xs 6)]) (wc := [(om, .inr (7, [.int 0, .int 0, .ref om1, .ref om2, .ref om3, .ref om4, .ref om5, .ref om6, .ref om7, .int 0, .ref om8, .ref om9, .ref om10, .ref om11, .int 0, .int 0, .ref om12, .ref om13, .ref om14, .ref om15, .int 0, .ref om16, .ref om17, .ref om18, .ref om19, .int 0, .ref om20, .ref om21, .ref om22, .ref om23, .ref om24, .ref om25, .ref om26, .int 0, .ref om27, .ref om28, .ref om29]))]) (wr := []) (rest := [.long fn_cx_read]) hC hZ hl zc_L_48 (my_read g om om1 om2 om3 om4 om5 om6 om7 om8 om9 om10 om11 om12 om13 om14 om15 om16 om17 om18 om19 om20 om21 om22 om23 om24 om25 om26 om27 om28 om29 (xs 1) (xs 2) (xs 3) (xs 4) (xs 5) (xs 6)) [0] [] rfl rfl (by decide) (ci := 7) (q0 := 0) rfl rfl rfl rfl (Nat.le_of_ble_eq_true rfl) ⟨⟨Nat.le_of_ble_eq_true rfl, Nat.le_of_ble_eq_true rfl⟩, Nat.le_of_ble_eq_true rfl, Nat.le_of_ble_eq_true rfl⟩ dL_law_538 (fun r3 u4 H locs hp hZ => ?_)
  obtain rfl := hp
  have hZ : zz_Z g A s.heap [] H locs := hZ.left
  refine zz_lcmp_eq (tgt := 1875) hC dL_law_541 dL_law_542 (by decide) (fun c5 => ?_) (fun c => absurd (rfl) c)
  exact law_tail hC hX hbl hAs hZ.2.2.1 (Nat.le_of_ble_eq_true rfl) (Nat.le_of_ble_eq_true rfl) (lv_sub hl [3, 0] rfl)
theorem zk_1133 : Cond.constantLong RL 49 (4294967295) ∈ zz_w := zz_in (List.mem_append_right _ (List.mem_append_right _ (List.mem_append_right _ (List.mem_append_right _ (List.mem_append_right _ (List.mem_of_getElem? (i := 173) (by decide +kernel))))))) rfl
theorem zk_365 : Cond.methodLink RL 51 yX7_write ∈ zz_w := zz_in (List.mem_append_right _ (List.mem_append_right _ (List.mem_append_left _ (List.mem_of_getElem? (i := 125) (by decide +kernel))))) rfl
set_option maxRecDepth 20000 in
theorem zk_368 : Cond.code yX7_write cX7_write 14 (some .int) ∈ zz_w := zz_in (List.mem_append_right _ (List.mem_append_right _ (List.mem_append_left _ (List.mem_of_getElem? (i := 128) (rfl))))) rfl
theorem zk_366 : Cond.instanceMethod yX7_write ∈ zz_w := zz_in (List.mem_append_right _ (List.mem_append_right _ (List.mem_append_left _ (List.mem_of_getElem? (i := 126) (by decide +kernel))))) rfl
theorem zk_367 : Cond.selects RX7 yX7_write yX7_write ∈ zz_w := zz_in (List.mem_append_right _ (List.mem_append_right _ (List.mem_append_left _ (List.mem_of_getElem? (i := 127) (by decide +kernel))))) rfl
theorem zc_L_51 : zz_cV RL 51 yX7_write cX7_write 14 (some .int) 7 := ⟨⟨zk_365, zk_368, zk_1, by decide, by decide, by decide +kernel⟩, zk_366, zk_367⟩
theorem zk_955 : Cond.methodLink RL 55 yX8_write ∈ zz_w := zz_in (List.mem_append_right _ (List.mem_append_right _ (List.mem_append_right _ (List.mem_append_right _ (List.mem_append_left _ (List.mem_of_getElem? (i := 235) (by decide +kernel))))))) rfl
set_option maxRecDepth 20000 in
theorem zk_958 : Cond.code yX8_write cX8_write 10 (some .int) ∈ zz_w := zz_in (List.mem_append_right _ (List.mem_append_right _ (List.mem_append_right _ (List.mem_append_right _ (List.mem_append_left _ (List.mem_of_getElem? (i := 238) (rfl))))))) rfl
theorem zk_956 : Cond.instanceMethod yX8_write ∈ zz_w := zz_in (List.mem_append_right _ (List.mem_append_right _ (List.mem_append_right _ (List.mem_append_right _ (List.mem_append_left _ (List.mem_of_getElem? (i := 236) (by decide +kernel))))))) rfl
theorem zk_957 : Cond.selects RX8 yX8_write yX8_write ∈ zz_w := zz_in (List.mem_append_right _ (List.mem_append_right _ (List.mem_append_right _ (List.mem_append_right _ (List.mem_append_left _ (List.mem_of_getElem? (i := 237) (by decide +kernel))))))) rfl
theorem zc_L_55 : zz_cV RL 55 yX8_write cX8_write 10 (some .int) 7 := ⟨⟨zk_955, zk_958, zk_7, by decide, by decide, by decide +kernel⟩, zk_956, zk_957⟩
set_option maxHeartbeats 4000000 in
set_option maxRecDepth 100000 in
theorem law_c8 {p : Program} {l : Launch} {e : Env} {s : State} {m : MethodId} {below : List Frame} {meth : Method} {c : Code} {A : Nat → Prop} {H : Heap} {locs : List Loc} {ls : Array Slot} (g : zz_G) (b : Nat) (xs : Nat → Int32) (ox ox1 ox10 ox12 ox16 ox22 ox30 ox2 ox3 ox4 ox5 ox6 ox7 ox8 ox9 om om1 om2 om3 om4 om5 om6 om7 om8 om9 om10 om11 om12 om13 om14 om15 om16 om17 om18 om19 om20 om21 om22 om23 om24 om25 om26 om27 om28 om29 : Nat) (hC : zz_C p s m #[Value.ref b] meth c g RL code 4 ret) (hX : va_X b 9 xs s s.heap) (hbl : b < s.heap.size) (hAs : ∀ q, A q → s.heap.size ≤ q) (hZ : zz_Z g A s.heap [(ox, .inr (6, [.ref ox1, .ref ox10, .ref ox12, .ref ox16, .ref ox22, .ref ox30, .int 0, .int 0])), (ox1, .inr (5, [.int 0, .int 0, .ref ox2, .ref ox3, .ref ox4, .ref ox5, .ref ox6, .ref ox7, .ref ox8, .ref ox9])), (om, .inr (7, [.int 0, .int 0, .ref om1, .ref om2, .ref om3, .ref om4, .ref om5, .ref om6, .ref om7, .int 0, .ref om8, .ref om9, .ref om10, .ref om11, .int 0, .int 0, .ref om12, .ref om13, .ref om14, .ref om15, .int 0, .ref om16, .ref om17, .ref om18, .ref om19, .int 0, .ref om20, .ref om21, .ref om22, .ref om23, .ref om24, .ref om25, .ref om26, .int 0, .ref om27, .ref om28, .ref om29]))] H locs) (hl : lv_has ls 4 [(3, .int 0), (2, .ref om), (1, .ref ox), (0, .ref b)]) : W p l e room_1 s m #[Value.ref b] below meth c H locs 61 89631 (lw_Z below #[Value.ref b] s) (F0 m 547 ls []) := by
  obtain ⟨hx, hb, hml, hown, hts, hr, hlocks, hK⟩ := id hC
  have hbA : ¬ A b := fun q => absurd (hAs b q) (by omega)
  refine lv_aload_n hx hb dL_law_547 rfl (lv_at hl 2 rfl) ?_
  refine lv_aload_n hx hb dL_law_548 rfl (lv_at hl 3 rfl) ?_
  refine lv_iload_n hx hb dL_law_549 rfl (lv_at hl 0 rfl) ?_
  refine lv_iconst (v := 1) hx hb dL_law_550 (by decide) ?_
  refine lv_iadd hx hb dL_law_551 ?_
  refine zz_topi (v := 1) (by decide) ?_
  refine va_sld hx hb hX hbl hbA hZ.2.2.1 (by unfold vp_in; decide) dL_law_552 ?_
  rw [zl_c1]
  refine lv_aload_n hx hb dL_law_553 rfl (lv_at hl 3 rfl) ?_
  refine lv_iload_n hx hb dL_law_554 rfl (lv_at hl 0 rfl) ?_
  refine lv_iconst (v := 2) hx hb dL_law_555 (by decide) ?_
  refine lv_iadd hx hb dL_law_556 ?_
  refine zz_topi (v := 2) (by decide) ?_
  refine va_sld hx hb hX hbl hbA hZ.2.2.1 (by unfold vp_in; decide) dL_law_557 ?_
  rw [zl_c2]
  refine lv_aload_n hx hb dL_law_558 rfl (lv_at hl 3 rfl) ?_
  refine lv_iload_n hx hb dL_law_559 rfl (lv_at hl 0 rfl) ?_
  refine lv_iconst (v := 3) hx hb dL_law_560 (by decide) ?_
  refine lv_iadd hx hb dL_law_561 ?_
  refine zz_topi (v := 3) (by decide) ?_
  refine va_sld hx hb hX hbl hbA hZ.2.2.1 (by unfold vp_in; decide) dL_law_562 ?_
  rw [zl_c3]
  refine lv_aload_n hx hb dL_law_563 rfl (lv_at hl 3 rfl) ?_
  refine lv_iload_n hx hb dL_law_564 rfl (lv_at hl 0 rfl) ?_
  refine lv_iconst (v := 4) hx hb dL_law_565 (by decide) ?_
  refine lv_iadd hx hb dL_law_566 ?_
  refine zz_topi (v := 4) (by decide) ?_
  refine va_sld hx hb hX hbl hbA hZ.2.2.1 (by unfold vp_in; decide) dL_law_567 ?_
  rw [zl_c4]
  refine lv_aload_n hx hb dL_law_568 rfl (lv_at hl 3 rfl) ?_
  refine lv_iload_n hx hb dL_law_569 rfl (lv_at hl 0 rfl) ?_
  refine lv_iconst (v := 5) hx hb dL_law_570 (by decide) ?_
  refine lv_iadd hx hb dL_law_571 ?_
  refine zz_topi (v := 5) (by decide) ?_
  refine va_sld hx hb hX hbl hbA hZ.2.2.1 (by unfold vp_in; decide) dL_law_572 ?_
  rw [zl_c5]
  refine lv_aload_n hx hb dL_law_573 rfl (lv_at hl 3 rfl) ?_
  refine lv_iload_n hx hb dL_law_574 rfl (lv_at hl 0 rfl) ?_
  refine lv_bipush (v := 6) hx hb dL_law_575 (by decide) ?_
  refine lv_iadd hx hb dL_law_577 ?_
  refine zz_topi (v := 6) (by decide) ?_
  refine va_sld hx hb hX hbl hbA hZ.2.2.1 (by unfold vp_in; decide) dL_law_578 ?_
  rw [zl_c6]
  refine lv_aload_n hx hb dL_law_579 rfl (lv_at hl 3 rfl) ?_
  refine lv_iload_n hx hb dL_law_580 rfl (lv_at hl 0 rfl) ?_
  refine lv_bipush (v := 7) hx hb dL_law_581 (by decide) ?_
  refine lv_iadd hx hb dL_law_583 ?_
  refine zz_topi (v := 7) (by decide) ?_
  refine va_sld hx hb hX hbl hbA hZ.2.2.1 (by unfold vp_in; decide) dL_law_584 ?_
  rw [zl_c7]
  refine lv_i2l hx hb dL_law_585 rfl ?_
  refine lv_bipush (v := 32) hx hb dL_law_586 (by decide) ?_
  refine lv_lshl hx hb dL_law_588 rfl ?_
  refine lv_aload_n hx hb dL_law_589 rfl (lv_at hl 3 rfl) ?_
  refine lv_iload_n hx hb dL_law_590 rfl (lv_at hl 0 rfl) ?_
  refine lv_bipush (v := 8) hx hb dL_law_591 (by decide) ?_
  refine lv_iadd hx hb dL_law_593 ?_
  refine zz_topi (v := 8) (by decide) ?_
  refine va_sld hx hb hX hbl hbA hZ.2.2.1 (by unfold vp_in; decide) dL_law_594 ?_
  rw [zl_c8]
  refine lv_i2l hx hb dL_law_595 rfl ?_
  refine lv_ldc2 hx hb hown (hts _ zk_1133) dL_law_596 ?_
  refine lv_land hx hb dL_law_599 ?_
  refine lv_lor hx hb dL_law_600 ?_
  refine zz_iV (As := [.int (xs 1), .int (xs 2), .int (xs 3), .int (xs 4), .int (xs 5), .int (xs 6), .long ((((xs 7).toInt64) <<< ((32 : Int32).toInt64 &&& 63)) ||| (((xs 8).toInt64) &&& 4294967295))]) (wc := [(ox, .inr (6, [.ref ox1, .ref ox10, .ref ox12, .ref ox16, .ref ox22, .ref ox30, .int 0, .int 0])), (ox1, .inr (5, [.int 0, .int 0, .ref ox2, .ref ox3, .ref ox4, .ref ox5, .ref ox6, .ref ox7, .ref ox8, .ref ox9]))]) (wr := [(om, .inr (7, [.int 0, .int 0, .ref om1, .ref om2, .ref om3, .ref om4, .ref om5, .ref om6, .ref om7, .int 0, .ref om8, .ref om9, .ref om10, .ref om11, .int 0, .int 0, .ref om12, .ref om13, .ref om14, .ref om15, .int 0, .ref om16, .ref om17, .ref om18, .ref om19, .int 0, .ref om20, .ref om21, .ref om22, .ref om23, .ref om24, .ref om25, .ref om26, .int 0, .ref om27, .ref om28, .ref om29]))]) (rest := []) hC hZ hl zc_L_51 (cx_write g ox ox1 ox10 ox12 ox16 ox22 ox30 ox2 ox3 ox4 ox5 ox6 ox7 ox8 ox9 (xs 1) (xs 2) (xs 3) (xs 4) (xs 5) (xs 6) ((((xs 7).toInt64) <<< ((32 : Int32).toInt64 &&& 63)) ||| (((xs 8).toInt64) &&& 4294967295))) [0, 1] [2] rfl rfl (by decide) (ci := 6) (q0 := 0) rfl rfl rfl rfl (Nat.le_of_ble_eq_true rfl) ⟨⟨Nat.le_of_ble_eq_true rfl, Nat.le_of_ble_eq_true rfl⟩, Nat.le_of_ble_eq_true rfl, Nat.le_of_ble_eq_true rfl⟩ dL_law_601 (fun r1 u2 H locs hp hZ => ?_)
  obtain rfl := hp
  have hZ : zz_Z g A s.heap [(om, .inr (7, [.int 0, .int 0, .ref om1, .ref om2, .ref om3, .ref om4, .ref om5, .ref om6, .ref om7, .int 0, .ref om8, .ref om9, .ref om10, .ref om11, .int 0, .int 0, .ref om12, .ref om13, .ref om14, .ref om15, .int 0, .ref om16, .ref om17, .ref om18, .ref om19, .int 0, .ref om20, .ref om21, .ref om22, .ref om23, .ref om24, .ref om25, .ref om26, .int 0, .ref om27, .ref om28, .ref om29]))] H locs := hZ.left
  refine lv_aload_n hx hb dL_law_604 rfl (lv_at hl 1 rfl) ?_
  refine lv_aload_n hx hb dL_law_605 rfl (lv_at hl 3 rfl) ?_
  refine lv_iload_n hx hb dL_law_606 rfl (lv_at hl 0 rfl) ?_
  refine lv_iconst (v := 1) hx hb dL_law_607 (by decide) ?_
  refine lv_iadd hx hb dL_law_608 ?_
  refine zz_topi (v := 1) (by decide) ?_
  refine va_sld hx hb hX hbl hbA hZ.2.2.1 (by unfold vp_in; decide) dL_law_609 ?_
  rw [zl_c1]
  refine lv_aload_n hx hb dL_law_610 rfl (lv_at hl 3 rfl) ?_
  refine lv_iload_n hx hb dL_law_611 rfl (lv_at hl 0 rfl) ?_
  refine lv_iconst (v := 2) hx hb dL_law_612 (by decide) ?_
  refine lv_iadd hx hb dL_law_613 ?_
  refine zz_topi (v := 2) (by decide) ?_
  refine va_sld hx hb hX hbl hbA hZ.2.2.1 (by unfold vp_in; decide) dL_law_614 ?_
  rw [zl_c2]
  refine lv_aload_n hx hb dL_law_615 rfl (lv_at hl 3 rfl) ?_
  refine lv_iload_n hx hb dL_law_616 rfl (lv_at hl 0 rfl) ?_
  refine lv_iconst (v := 3) hx hb dL_law_617 (by decide) ?_
  refine lv_iadd hx hb dL_law_618 ?_
  refine zz_topi (v := 3) (by decide) ?_
  refine va_sld hx hb hX hbl hbA hZ.2.2.1 (by unfold vp_in; decide) dL_law_619 ?_
  rw [zl_c3]
  refine lv_aload_n hx hb dL_law_620 rfl (lv_at hl 3 rfl) ?_
  refine lv_iload_n hx hb dL_law_621 rfl (lv_at hl 0 rfl) ?_
  refine lv_iconst (v := 4) hx hb dL_law_622 (by decide) ?_
  refine lv_iadd hx hb dL_law_623 ?_
  refine zz_topi (v := 4) (by decide) ?_
  refine va_sld hx hb hX hbl hbA hZ.2.2.1 (by unfold vp_in; decide) dL_law_624 ?_
  rw [zl_c4]
  refine lv_aload_n hx hb dL_law_625 rfl (lv_at hl 3 rfl) ?_
  refine lv_iload_n hx hb dL_law_626 rfl (lv_at hl 0 rfl) ?_
  refine lv_iconst (v := 5) hx hb dL_law_627 (by decide) ?_
  refine lv_iadd hx hb dL_law_628 ?_
  refine zz_topi (v := 5) (by decide) ?_
  refine va_sld hx hb hX hbl hbA hZ.2.2.1 (by unfold vp_in; decide) dL_law_629 ?_
  rw [zl_c5]
  refine lv_aload_n hx hb dL_law_630 rfl (lv_at hl 3 rfl) ?_
  refine lv_iload_n hx hb dL_law_631 rfl (lv_at hl 0 rfl) ?_
  refine lv_bipush (v := 6) hx hb dL_law_632 (by decide) ?_
  refine lv_iadd hx hb dL_law_634 ?_
  refine zz_topi (v := 6) (by decide) ?_
  refine va_sld hx hb hX hbl hbA hZ.2.2.1 (by unfold vp_in; decide) dL_law_635 ?_
  rw [zl_c6]
  refine lv_aload_n hx hb dL_law_636 rfl (lv_at hl 3 rfl) ?_
  refine lv_iload_n hx hb dL_law_637 rfl (lv_at hl 0 rfl) ?_
  refine lv_bipush (v := 7) hx hb dL_law_638 (by decide) ?_
  refine lv_iadd hx hb dL_law_640 ?_
  refine zz_topi (v := 7) (by decide) ?_
  refine va_sld hx hb hX hbl hbA hZ.2.2.1 (by unfold vp_in; decide) dL_law_641 ?_
  rw [zl_c7]
  refine lv_i2l hx hb dL_law_642 rfl ?_
  refine lv_bipush (v := 32) hx hb dL_law_643 (by decide) ?_
  refine lv_lshl hx hb dL_law_645 rfl ?_
  refine lv_aload_n hx hb dL_law_646 rfl (lv_at hl 3 rfl) ?_
  refine lv_iload_n hx hb dL_law_647 rfl (lv_at hl 0 rfl) ?_
  refine lv_bipush (v := 8) hx hb dL_law_648 (by decide) ?_
  refine lv_iadd hx hb dL_law_650 ?_
  refine zz_topi (v := 8) (by decide) ?_
  refine va_sld hx hb hX hbl hbA hZ.2.2.1 (by unfold vp_in; decide) dL_law_651 ?_
  rw [zl_c8]
  refine lv_i2l hx hb dL_law_652 rfl ?_
  refine lv_ldc2 hx hb hown (hts _ zk_1133) dL_law_653 ?_
  refine lv_land hx hb dL_law_656 ?_
  refine lv_lor hx hb dL_law_657 ?_
  refine zz_iV (As := [.int (xs 1), .int (xs 2), .int (xs 3), .int (xs 4), .int (xs 5), .int (xs 6), .long ((((xs 7).toInt64) <<< ((32 : Int32).toInt64 &&& 63)) ||| (((xs 8).toInt64) &&& 4294967295))]) (wc := [(om, .inr (7, [.int 0, .int 0, .ref om1, .ref om2, .ref om3, .ref om4, .ref om5, .ref om6, .ref om7, .int 0, .ref om8, .ref om9, .ref om10, .ref om11, .int 0, .int 0, .ref om12, .ref om13, .ref om14, .ref om15, .int 0, .ref om16, .ref om17, .ref om18, .ref om19, .int 0, .ref om20, .ref om21, .ref om22, .ref om23, .ref om24, .ref om25, .ref om26, .int 0, .ref om27, .ref om28, .ref om29]))]) (wr := []) (rest := [.int fn_cx_write]) hC hZ hl zc_L_55 (my_write g om om1 om2 om3 om4 om5 om6 om7 om8 om9 om10 om11 om12 om13 om14 om15 om16 om17 om18 om19 om20 om21 om22 om23 om24 om25 om26 om27 om28 om29 (xs 1) (xs 2) (xs 3) (xs 4) (xs 5) (xs 6) ((((xs 7).toInt64) <<< ((32 : Int32).toInt64 &&& 63)) ||| (((xs 8).toInt64) &&& 4294967295))) [0] [] rfl rfl (by decide) (ci := 7) (q0 := 0) rfl rfl rfl rfl (Nat.le_of_ble_eq_true rfl) ⟨⟨Nat.le_of_ble_eq_true rfl, Nat.le_of_ble_eq_true rfl⟩, Nat.le_of_ble_eq_true rfl, Nat.le_of_ble_eq_true rfl⟩ dL_law_658 (fun r3 u4 H locs hp hZ => ?_)
  obtain rfl := hp
  have hZ : zz_Z g A s.heap [] H locs := hZ.left
  refine lv_icmp_eq (tgt := 1875) hx hb dL_law_661 (by decide) (fun c5 => ?_) (fun c => absurd (rfl) c)
  exact law_tail hC hX hbl hAs hZ.2.2.1 (Nat.le_of_ble_eq_true rfl) (Nat.le_of_ble_eq_true rfl) (lv_sub hl [3, 0] rfl)
theorem zk_392 : Cond.methodLink RL 56 yX7_place ∈ zz_w := zz_in (List.mem_append_right _ (List.mem_append_right _ (List.mem_append_left _ (List.mem_of_getElem? (i := 152) (by decide +kernel))))) rfl
set_option maxRecDepth 20000 in
theorem zk_395 : Cond.code yX7_place cX7_place 7 (some .int) ∈ zz_w := zz_in (List.mem_append_right _ (List.mem_append_right _ (List.mem_append_left _ (List.mem_of_getElem? (i := 155) (rfl))))) rfl
theorem zk_393 : Cond.instanceMethod yX7_place ∈ zz_w := zz_in (List.mem_append_right _ (List.mem_append_right _ (List.mem_append_left _ (List.mem_of_getElem? (i := 153) (by decide +kernel))))) rfl
theorem zk_394 : Cond.selects RX7 yX7_place yX7_place ∈ zz_w := zz_in (List.mem_append_right _ (List.mem_append_right _ (List.mem_append_left _ (List.mem_of_getElem? (i := 154) (by decide +kernel))))) rfl
theorem zc_L_56 : zz_cV RL 56 yX7_place cX7_place 7 (some .int) 5 := ⟨⟨zk_392, zk_395, zk_1, by decide, by decide, by decide +kernel⟩, zk_393, zk_394⟩
theorem zk_973 : Cond.methodLink RL 60 yX8_place ∈ zz_w := zz_in (List.mem_append_right _ (List.mem_append_right _ (List.mem_append_right _ (List.mem_append_right _ (List.mem_append_right _ (List.mem_of_getElem? (i := 13) (by decide +kernel))))))) rfl
set_option maxRecDepth 20000 in
theorem zk_976 : Cond.code yX8_place cX8_place 7 (some .int) ∈ zz_w := zz_in (List.mem_append_right _ (List.mem_append_right _ (List.mem_append_right _ (List.mem_append_right _ (List.mem_append_right _ (List.mem_of_getElem? (i := 16) (rfl))))))) rfl
theorem zk_974 : Cond.instanceMethod yX8_place ∈ zz_w := zz_in (List.mem_append_right _ (List.mem_append_right _ (List.mem_append_right _ (List.mem_append_right _ (List.mem_append_right _ (List.mem_of_getElem? (i := 14) (by decide +kernel))))))) rfl
theorem zk_975 : Cond.selects RX8 yX8_place yX8_place ∈ zz_w := zz_in (List.mem_append_right _ (List.mem_append_right _ (List.mem_append_right _ (List.mem_append_right _ (List.mem_append_right _ (List.mem_of_getElem? (i := 15) (by decide +kernel))))))) rfl
theorem zc_L_60 : zz_cV RL 60 yX8_place cX8_place 7 (some .int) 5 := ⟨⟨zk_973, zk_976, zk_7, by decide, by decide, by decide +kernel⟩, zk_974, zk_975⟩
set_option maxHeartbeats 4000000 in
set_option maxRecDepth 100000 in
theorem law_c9 {p : Program} {l : Launch} {e : Env} {s : State} {m : MethodId} {below : List Frame} {meth : Method} {c : Code} {A : Nat → Prop} {H : Heap} {locs : List Loc} {ls : Array Slot} (g : zz_G) (b : Nat) (xs : Nat → Int32) (ox ox1 ox10 ox12 ox16 ox22 ox30 ox2 ox3 ox4 ox5 ox6 ox7 ox8 ox9 om om1 om2 om3 om4 om5 om6 om7 om8 om9 om10 om11 om12 om13 om14 om15 om16 om17 om18 om19 om20 om21 om22 om23 om24 om25 om26 om27 om28 om29 : Nat) (hC : zz_C p s m #[Value.ref b] meth c g RL code 4 ret) (hX : va_X b 9 xs s s.heap) (hbl : b < s.heap.size) (hAs : ∀ q, A q → s.heap.size ≤ q) (hZ : zz_Z g A s.heap [(ox, .inr (6, [.ref ox1, .ref ox10, .ref ox12, .ref ox16, .ref ox22, .ref ox30, .int 0, .int 0])), (ox1, .inr (5, [.int 0, .int 0, .ref ox2, .ref ox3, .ref ox4, .ref ox5, .ref ox6, .ref ox7, .ref ox8, .ref ox9])), (om, .inr (7, [.int 0, .int 0, .ref om1, .ref om2, .ref om3, .ref om4, .ref om5, .ref om6, .ref om7, .int 0, .ref om8, .ref om9, .ref om10, .ref om11, .int 0, .int 0, .ref om12, .ref om13, .ref om14, .ref om15, .int 0, .ref om16, .ref om17, .ref om18, .ref om19, .int 0, .ref om20, .ref om21, .ref om22, .ref om23, .ref om24, .ref om25, .ref om26, .int 0, .ref om27, .ref om28, .ref om29]))] H locs) (hl : lv_has ls 4 [(3, .int 0), (2, .ref om), (1, .ref ox), (0, .ref b)]) : W p l e room_1 s m #[Value.ref b] below meth c H locs 61 89631 (lw_Z below #[Value.ref b] s) (F0 m 666 ls []) := by
  obtain ⟨hx, hb, hml, hown, hts, hr, hlocks, hK⟩ := id hC
  have hbA : ¬ A b := fun q => absurd (hAs b q) (by omega)
  refine lv_aload_n hx hb dL_law_666 rfl (lv_at hl 2 rfl) ?_
  refine lv_aload_n hx hb dL_law_667 rfl (lv_at hl 3 rfl) ?_
  refine lv_iload_n hx hb dL_law_668 rfl (lv_at hl 0 rfl) ?_
  refine lv_iconst (v := 1) hx hb dL_law_669 (by decide) ?_
  refine lv_iadd hx hb dL_law_670 ?_
  refine zz_topi (v := 1) (by decide) ?_
  refine va_sld hx hb hX hbl hbA hZ.2.2.1 (by unfold vp_in; decide) dL_law_671 ?_
  rw [zl_c1]
  refine lv_aload_n hx hb dL_law_672 rfl (lv_at hl 3 rfl) ?_
  refine lv_iload_n hx hb dL_law_673 rfl (lv_at hl 0 rfl) ?_
  refine lv_iconst (v := 2) hx hb dL_law_674 (by decide) ?_
  refine lv_iadd hx hb dL_law_675 ?_
  refine zz_topi (v := 2) (by decide) ?_
  refine va_sld hx hb hX hbl hbA hZ.2.2.1 (by unfold vp_in; decide) dL_law_676 ?_
  rw [zl_c2]
  refine lv_aload_n hx hb dL_law_677 rfl (lv_at hl 3 rfl) ?_
  refine lv_iload_n hx hb dL_law_678 rfl (lv_at hl 0 rfl) ?_
  refine lv_iconst (v := 3) hx hb dL_law_679 (by decide) ?_
  refine lv_iadd hx hb dL_law_680 ?_
  refine zz_topi (v := 3) (by decide) ?_
  refine va_sld hx hb hX hbl hbA hZ.2.2.1 (by unfold vp_in; decide) dL_law_681 ?_
  rw [zl_c3]
  refine lv_aload_n hx hb dL_law_682 rfl (lv_at hl 3 rfl) ?_
  refine lv_iload_n hx hb dL_law_683 rfl (lv_at hl 0 rfl) ?_
  refine lv_iconst (v := 4) hx hb dL_law_684 (by decide) ?_
  refine lv_iadd hx hb dL_law_685 ?_
  refine zz_topi (v := 4) (by decide) ?_
  refine va_sld hx hb hX hbl hbA hZ.2.2.1 (by unfold vp_in; decide) dL_law_686 ?_
  rw [zl_c4]
  refine lv_aload_n hx hb dL_law_687 rfl (lv_at hl 3 rfl) ?_
  refine lv_iload_n hx hb dL_law_688 rfl (lv_at hl 0 rfl) ?_
  refine lv_iconst (v := 5) hx hb dL_law_689 (by decide) ?_
  refine lv_iadd hx hb dL_law_690 ?_
  refine zz_topi (v := 5) (by decide) ?_
  refine va_sld hx hb hX hbl hbA hZ.2.2.1 (by unfold vp_in; decide) dL_law_691 ?_
  rw [zl_c5]
  refine zz_iV (As := [.int (xs 1), .int (xs 2), .int (xs 3), .int (xs 4), .int (xs 5)]) (wc := [(ox, .inr (6, [.ref ox1, .ref ox10, .ref ox12, .ref ox16, .ref ox22, .ref ox30, .int 0, .int 0])), (ox1, .inr (5, [.int 0, .int 0, .ref ox2, .ref ox3, .ref ox4, .ref ox5, .ref ox6, .ref ox7, .ref ox8, .ref ox9]))]) (wr := [(om, .inr (7, [.int 0, .int 0, .ref om1, .ref om2, .ref om3, .ref om4, .ref om5, .ref om6, .ref om7, .int 0, .ref om8, .ref om9, .ref om10, .ref om11, .int 0, .int 0, .ref om12, .ref om13, .ref om14, .ref om15, .int 0, .ref om16, .ref om17, .ref om18, .ref om19, .int 0, .ref om20, .ref om21, .ref om22, .ref om23, .ref om24, .ref om25, .ref om26, .int 0, .ref om27, .ref om28, .ref om29]))]) (rest := []) hC hZ hl zc_L_56 (cx_place g ox ox1 ox10 ox12 ox16 ox22 ox30 ox2 ox3 ox4 ox5 ox6 ox7 ox8 ox9 (xs 1) (xs 2) (xs 3) (xs 4) (xs 5)) [0, 1] [2] rfl rfl (by decide) (ci := 6) (q0 := 0) rfl rfl rfl rfl (Nat.le_of_ble_eq_true rfl) ⟨⟨Nat.le_of_ble_eq_true rfl, Nat.le_of_ble_eq_true rfl⟩, Nat.le_of_ble_eq_true rfl, Nat.le_of_ble_eq_true rfl⟩ dL_law_692 (fun r1 u2 H locs hp hZ => ?_)
  obtain rfl := hp
  have hZ : zz_Z g A s.heap [(om, .inr (7, [.int 0, .int 0, .ref om1, .ref om2, .ref om3, .ref om4, .ref om5, .ref om6, .ref om7, .int 0, .ref om8, .ref om9, .ref om10, .ref om11, .int 0, .int 0, .ref om12, .ref om13, .ref om14, .ref om15, .int 0, .ref om16, .ref om17, .ref om18, .ref om19, .int 0, .ref om20, .ref om21, .ref om22, .ref om23, .ref om24, .ref om25, .ref om26, .int 0, .ref om27, .ref om28, .ref om29]))] H locs := hZ.left
  refine lv_aload_n hx hb dL_law_695 rfl (lv_at hl 1 rfl) ?_
  refine lv_aload_n hx hb dL_law_696 rfl (lv_at hl 3 rfl) ?_
  refine lv_iload_n hx hb dL_law_697 rfl (lv_at hl 0 rfl) ?_
  refine lv_iconst (v := 1) hx hb dL_law_698 (by decide) ?_
  refine lv_iadd hx hb dL_law_699 ?_
  refine zz_topi (v := 1) (by decide) ?_
  refine va_sld hx hb hX hbl hbA hZ.2.2.1 (by unfold vp_in; decide) dL_law_700 ?_
  rw [zl_c1]
  refine lv_aload_n hx hb dL_law_701 rfl (lv_at hl 3 rfl) ?_
  refine lv_iload_n hx hb dL_law_702 rfl (lv_at hl 0 rfl) ?_
  refine lv_iconst (v := 2) hx hb dL_law_703 (by decide) ?_
  refine lv_iadd hx hb dL_law_704 ?_
  refine zz_topi (v := 2) (by decide) ?_
  refine va_sld hx hb hX hbl hbA hZ.2.2.1 (by unfold vp_in; decide) dL_law_705 ?_
  rw [zl_c2]
  refine lv_aload_n hx hb dL_law_706 rfl (lv_at hl 3 rfl) ?_
  refine lv_iload_n hx hb dL_law_707 rfl (lv_at hl 0 rfl) ?_
  refine lv_iconst (v := 3) hx hb dL_law_708 (by decide) ?_
  refine lv_iadd hx hb dL_law_709 ?_
  refine zz_topi (v := 3) (by decide) ?_
  refine va_sld hx hb hX hbl hbA hZ.2.2.1 (by unfold vp_in; decide) dL_law_710 ?_
  rw [zl_c3]
  refine lv_aload_n hx hb dL_law_711 rfl (lv_at hl 3 rfl) ?_
  refine lv_iload_n hx hb dL_law_712 rfl (lv_at hl 0 rfl) ?_
  refine lv_iconst (v := 4) hx hb dL_law_713 (by decide) ?_
  refine lv_iadd hx hb dL_law_714 ?_
  refine zz_topi (v := 4) (by decide) ?_
  refine va_sld hx hb hX hbl hbA hZ.2.2.1 (by unfold vp_in; decide) dL_law_715 ?_
  rw [zl_c4]
  refine lv_aload_n hx hb dL_law_716 rfl (lv_at hl 3 rfl) ?_
  refine lv_iload_n hx hb dL_law_717 rfl (lv_at hl 0 rfl) ?_
  refine lv_iconst (v := 5) hx hb dL_law_718 (by decide) ?_
  refine lv_iadd hx hb dL_law_719 ?_
  refine zz_topi (v := 5) (by decide) ?_
  refine va_sld hx hb hX hbl hbA hZ.2.2.1 (by unfold vp_in; decide) dL_law_720 ?_
  rw [zl_c5]
  refine zz_iV (As := [.int (xs 1), .int (xs 2), .int (xs 3), .int (xs 4), .int (xs 5)]) (wc := [(om, .inr (7, [.int 0, .int 0, .ref om1, .ref om2, .ref om3, .ref om4, .ref om5, .ref om6, .ref om7, .int 0, .ref om8, .ref om9, .ref om10, .ref om11, .int 0, .int 0, .ref om12, .ref om13, .ref om14, .ref om15, .int 0, .ref om16, .ref om17, .ref om18, .ref om19, .int 0, .ref om20, .ref om21, .ref om22, .ref om23, .ref om24, .ref om25, .ref om26, .int 0, .ref om27, .ref om28, .ref om29]))]) (wr := []) (rest := [.int fn_cx_place]) hC hZ hl zc_L_60 (my_place g om om1 om2 om3 om4 om5 om6 om7 om8 om9 om10 om11 om12 om13 om14 om15 om16 om17 om18 om19 om20 om21 om22 om23 om24 om25 om26 om27 om28 om29 (xs 1) (xs 2) (xs 3) (xs 4) (xs 5)) [0] [] rfl rfl (by decide) (ci := 7) (q0 := 0) rfl rfl rfl rfl (Nat.le_of_ble_eq_true rfl) ⟨⟨Nat.le_of_ble_eq_true rfl, Nat.le_of_ble_eq_true rfl⟩, Nat.le_of_ble_eq_true rfl, Nat.le_of_ble_eq_true rfl⟩ dL_law_721 (fun r3 u4 H locs hp hZ => ?_)
  obtain rfl := hp
  have hZ : zz_Z g A s.heap [] H locs := hZ.left
  refine lv_icmp_eq (tgt := 1875) hx hb dL_law_724 (by decide) (fun c5 => ?_) (fun c => absurd (rfl) c)
  exact law_tail hC hX hbl hAs hZ.2.2.1 (Nat.le_of_ble_eq_true rfl) (Nat.le_of_ble_eq_true rfl) (lv_sub hl [3, 0] rfl)
theorem zk_396 : Cond.methodLink RL 61 yX7_pin ∈ zz_w := zz_in (List.mem_append_right _ (List.mem_append_right _ (List.mem_append_left _ (List.mem_of_getElem? (i := 156) (by decide +kernel))))) rfl
set_option maxRecDepth 20000 in
theorem zk_399 : Cond.code yX7_pin cX7_pin 10 (some .int) ∈ zz_w := zz_in (List.mem_append_right _ (List.mem_append_right _ (List.mem_append_left _ (List.mem_of_getElem? (i := 159) (rfl))))) rfl
theorem zk_397 : Cond.instanceMethod yX7_pin ∈ zz_w := zz_in (List.mem_append_right _ (List.mem_append_right _ (List.mem_append_left _ (List.mem_of_getElem? (i := 157) (by decide +kernel))))) rfl
theorem zk_398 : Cond.selects RX7 yX7_pin yX7_pin ∈ zz_w := zz_in (List.mem_append_right _ (List.mem_append_right _ (List.mem_append_left _ (List.mem_of_getElem? (i := 158) (by decide +kernel))))) rfl
theorem zc_L_61 : zz_cV RL 61 yX7_pin cX7_pin 10 (some .int) 6 := ⟨⟨zk_396, zk_399, zk_1, by decide, by decide, by decide +kernel⟩, zk_397, zk_398⟩
theorem zk_977 : Cond.methodLink RL 65 yX8_pin ∈ zz_w := zz_in (List.mem_append_right _ (List.mem_append_right _ (List.mem_append_right _ (List.mem_append_right _ (List.mem_append_right _ (List.mem_of_getElem? (i := 17) (by decide +kernel))))))) rfl
set_option maxRecDepth 20000 in
theorem zk_980 : Cond.code yX8_pin cX8_pin 9 (some .int) ∈ zz_w := zz_in (List.mem_append_right _ (List.mem_append_right _ (List.mem_append_right _ (List.mem_append_right _ (List.mem_append_right _ (List.mem_of_getElem? (i := 20) (rfl))))))) rfl
theorem zk_978 : Cond.instanceMethod yX8_pin ∈ zz_w := zz_in (List.mem_append_right _ (List.mem_append_right _ (List.mem_append_right _ (List.mem_append_right _ (List.mem_append_right _ (List.mem_of_getElem? (i := 18) (by decide +kernel))))))) rfl
theorem zk_979 : Cond.selects RX8 yX8_pin yX8_pin ∈ zz_w := zz_in (List.mem_append_right _ (List.mem_append_right _ (List.mem_append_right _ (List.mem_append_right _ (List.mem_append_right _ (List.mem_of_getElem? (i := 19) (by decide +kernel))))))) rfl
theorem zc_L_65 : zz_cV RL 65 yX8_pin cX8_pin 9 (some .int) 6 := ⟨⟨zk_977, zk_980, zk_7, by decide, by decide, by decide +kernel⟩, zk_978, zk_979⟩
set_option maxHeartbeats 4000000 in
set_option maxRecDepth 100000 in
theorem law_c10 {p : Program} {l : Launch} {e : Env} {s : State} {m : MethodId} {below : List Frame} {meth : Method} {c : Code} {A : Nat → Prop} {H : Heap} {locs : List Loc} {ls : Array Slot} (g : zz_G) (b : Nat) (xs : Nat → Int32) (ox ox1 ox10 ox12 ox16 ox22 ox30 ox2 ox3 ox4 ox5 ox6 ox7 ox8 ox9 om om1 om2 om3 om4 om5 om6 om7 om8 om9 om10 om11 om12 om13 om14 om15 om16 om17 om18 om19 om20 om21 om22 om23 om24 om25 om26 om27 om28 om29 : Nat) (hC : zz_C p s m #[Value.ref b] meth c g RL code 4 ret) (hX : va_X b 9 xs s s.heap) (hbl : b < s.heap.size) (hAs : ∀ q, A q → s.heap.size ≤ q) (hZ : zz_Z g A s.heap [(ox, .inr (6, [.ref ox1, .ref ox10, .ref ox12, .ref ox16, .ref ox22, .ref ox30, .int 0, .int 0])), (ox1, .inr (5, [.int 0, .int 0, .ref ox2, .ref ox3, .ref ox4, .ref ox5, .ref ox6, .ref ox7, .ref ox8, .ref ox9])), (om, .inr (7, [.int 0, .int 0, .ref om1, .ref om2, .ref om3, .ref om4, .ref om5, .ref om6, .ref om7, .int 0, .ref om8, .ref om9, .ref om10, .ref om11, .int 0, .int 0, .ref om12, .ref om13, .ref om14, .ref om15, .int 0, .ref om16, .ref om17, .ref om18, .ref om19, .int 0, .ref om20, .ref om21, .ref om22, .ref om23, .ref om24, .ref om25, .ref om26, .int 0, .ref om27, .ref om28, .ref om29]))] H locs) (hl : lv_has ls 4 [(3, .int 0), (2, .ref om), (1, .ref ox), (0, .ref b)]) : W p l e room_1 s m #[Value.ref b] below meth c H locs 61 89631 (lw_Z below #[Value.ref b] s) (F0 m 729 ls []) := by
  obtain ⟨hx, hb, hml, hown, hts, hr, hlocks, hK⟩ := id hC
  have hbA : ¬ A b := fun q => absurd (hAs b q) (by omega)
  refine lv_aload_n hx hb dL_law_729 rfl (lv_at hl 2 rfl) ?_
  refine lv_aload_n hx hb dL_law_730 rfl (lv_at hl 3 rfl) ?_
  refine lv_iload_n hx hb dL_law_731 rfl (lv_at hl 0 rfl) ?_
  refine lv_iconst (v := 1) hx hb dL_law_732 (by decide) ?_
  refine lv_iadd hx hb dL_law_733 ?_
  refine zz_topi (v := 1) (by decide) ?_
  refine va_sld hx hb hX hbl hbA hZ.2.2.1 (by unfold vp_in; decide) dL_law_734 ?_
  rw [zl_c1]
  refine lv_aload_n hx hb dL_law_735 rfl (lv_at hl 3 rfl) ?_
  refine lv_iload_n hx hb dL_law_736 rfl (lv_at hl 0 rfl) ?_
  refine lv_iconst (v := 2) hx hb dL_law_737 (by decide) ?_
  refine lv_iadd hx hb dL_law_738 ?_
  refine zz_topi (v := 2) (by decide) ?_
  refine va_sld hx hb hX hbl hbA hZ.2.2.1 (by unfold vp_in; decide) dL_law_739 ?_
  rw [zl_c2]
  refine lv_aload_n hx hb dL_law_740 rfl (lv_at hl 3 rfl) ?_
  refine lv_iload_n hx hb dL_law_741 rfl (lv_at hl 0 rfl) ?_
  refine lv_iconst (v := 3) hx hb dL_law_742 (by decide) ?_
  refine lv_iadd hx hb dL_law_743 ?_
  refine zz_topi (v := 3) (by decide) ?_
  refine va_sld hx hb hX hbl hbA hZ.2.2.1 (by unfold vp_in; decide) dL_law_744 ?_
  rw [zl_c3]
  refine lv_aload_n hx hb dL_law_745 rfl (lv_at hl 3 rfl) ?_
  refine lv_iload_n hx hb dL_law_746 rfl (lv_at hl 0 rfl) ?_
  refine lv_iconst (v := 4) hx hb dL_law_747 (by decide) ?_
  refine lv_iadd hx hb dL_law_748 ?_
  refine zz_topi (v := 4) (by decide) ?_
  refine va_sld hx hb hX hbl hbA hZ.2.2.1 (by unfold vp_in; decide) dL_law_749 ?_
  rw [zl_c4]
  refine lv_aload_n hx hb dL_law_750 rfl (lv_at hl 3 rfl) ?_
  refine lv_iload_n hx hb dL_law_751 rfl (lv_at hl 0 rfl) ?_
  refine lv_iconst (v := 5) hx hb dL_law_752 (by decide) ?_
  refine lv_iadd hx hb dL_law_753 ?_
  refine zz_topi (v := 5) (by decide) ?_
  refine va_sld hx hb hX hbl hbA hZ.2.2.1 (by unfold vp_in; decide) dL_law_754 ?_
  rw [zl_c5]
  refine lv_aload_n hx hb dL_law_755 rfl (lv_at hl 3 rfl) ?_
  refine lv_iload_n hx hb dL_law_756 rfl (lv_at hl 0 rfl) ?_
  refine lv_bipush (v := 6) hx hb dL_law_757 (by decide) ?_
  refine lv_iadd hx hb dL_law_759 ?_
  refine zz_topi (v := 6) (by decide) ?_
  refine va_sld hx hb hX hbl hbA hZ.2.2.1 (by unfold vp_in; decide) dL_law_760 ?_
  rw [zl_c6]
  refine lv_if_eq (tgt := 768) hx hb dL_law_761 (by decide) (fun c1 => ?_) (fun c1 => ?_)
  · refine lv_iconst (v := 0) hx hb dL_law_768 (by decide) ?_
    refine zz_iV (As := [.int (xs 1), .int (xs 2), .int (xs 3), .int (xs 4), .int (xs 5), .int 0]) (wc := [(ox, .inr (6, [.ref ox1, .ref ox10, .ref ox12, .ref ox16, .ref ox22, .ref ox30, .int 0, .int 0])), (ox1, .inr (5, [.int 0, .int 0, .ref ox2, .ref ox3, .ref ox4, .ref ox5, .ref ox6, .ref ox7, .ref ox8, .ref ox9]))]) (wr := [(om, .inr (7, [.int 0, .int 0, .ref om1, .ref om2, .ref om3, .ref om4, .ref om5, .ref om6, .ref om7, .int 0, .ref om8, .ref om9, .ref om10, .ref om11, .int 0, .int 0, .ref om12, .ref om13, .ref om14, .ref om15, .int 0, .ref om16, .ref om17, .ref om18, .ref om19, .int 0, .ref om20, .ref om21, .ref om22, .ref om23, .ref om24, .ref om25, .ref om26, .int 0, .ref om27, .ref om28, .ref om29]))]) (rest := []) hC hZ hl zc_L_61 (cx_pin g ox ox1 ox10 ox12 ox16 ox22 ox30 ox2 ox3 ox4 ox5 ox6 ox7 ox8 ox9 (xs 1) (xs 2) (xs 3) (xs 4) (xs 5) 0) [0, 1] [2] rfl rfl (by decide) (ci := 6) (q0 := 0) rfl rfl rfl rfl (Nat.le_of_ble_eq_true rfl) ⟨⟨Nat.le_of_ble_eq_true rfl, Nat.le_of_ble_eq_true rfl⟩, Nat.le_of_ble_eq_true rfl, Nat.le_of_ble_eq_true rfl⟩ dL_law_769 (fun r2 u3 H locs hp hZ => ?_)
    obtain rfl := hp
    have hZ : zz_Z g A s.heap [(om, .inr (7, [.int 0, .int 0, .ref om1, .ref om2, .ref om3, .ref om4, .ref om5, .ref om6, .ref om7, .int 0, .ref om8, .ref om9, .ref om10, .ref om11, .int 0, .int 0, .ref om12, .ref om13, .ref om14, .ref om15, .int 0, .ref om16, .ref om17, .ref om18, .ref om19, .int 0, .ref om20, .ref om21, .ref om22, .ref om23, .ref om24, .ref om25, .ref om26, .int 0, .ref om27, .ref om28, .ref om29]))] H locs := hZ.left
    refine lv_aload_n hx hb dL_law_772 rfl (lv_at hl 1 rfl) ?_
    refine lv_aload_n hx hb dL_law_773 rfl (lv_at hl 3 rfl) ?_
    refine lv_iload_n hx hb dL_law_774 rfl (lv_at hl 0 rfl) ?_
    refine lv_iconst (v := 1) hx hb dL_law_775 (by decide) ?_
    refine lv_iadd hx hb dL_law_776 ?_
    refine zz_topi (v := 1) (by decide) ?_
    refine va_sld hx hb hX hbl hbA hZ.2.2.1 (by unfold vp_in; decide) dL_law_777 ?_
    rw [zl_c1]
    refine lv_aload_n hx hb dL_law_778 rfl (lv_at hl 3 rfl) ?_
    refine lv_iload_n hx hb dL_law_779 rfl (lv_at hl 0 rfl) ?_
    refine lv_iconst (v := 2) hx hb dL_law_780 (by decide) ?_
    refine lv_iadd hx hb dL_law_781 ?_
    refine zz_topi (v := 2) (by decide) ?_
    refine va_sld hx hb hX hbl hbA hZ.2.2.1 (by unfold vp_in; decide) dL_law_782 ?_
    rw [zl_c2]
    refine lv_aload_n hx hb dL_law_783 rfl (lv_at hl 3 rfl) ?_
    refine lv_iload_n hx hb dL_law_784 rfl (lv_at hl 0 rfl) ?_
    refine lv_iconst (v := 3) hx hb dL_law_785 (by decide) ?_
    refine lv_iadd hx hb dL_law_786 ?_
    refine zz_topi (v := 3) (by decide) ?_
    refine va_sld hx hb hX hbl hbA hZ.2.2.1 (by unfold vp_in; decide) dL_law_787 ?_
    rw [zl_c3]
    refine lv_aload_n hx hb dL_law_788 rfl (lv_at hl 3 rfl) ?_
    refine lv_iload_n hx hb dL_law_789 rfl (lv_at hl 0 rfl) ?_
    refine lv_iconst (v := 4) hx hb dL_law_790 (by decide) ?_
    refine lv_iadd hx hb dL_law_791 ?_
    refine zz_topi (v := 4) (by decide) ?_
    refine va_sld hx hb hX hbl hbA hZ.2.2.1 (by unfold vp_in; decide) dL_law_792 ?_
    rw [zl_c4]
    refine lv_aload_n hx hb dL_law_793 rfl (lv_at hl 3 rfl) ?_
    refine lv_iload_n hx hb dL_law_794 rfl (lv_at hl 0 rfl) ?_
    refine lv_iconst (v := 5) hx hb dL_law_795 (by decide) ?_
    refine lv_iadd hx hb dL_law_796 ?_
    refine zz_topi (v := 5) (by decide) ?_
    refine va_sld hx hb hX hbl hbA hZ.2.2.1 (by unfold vp_in; decide) dL_law_797 ?_
    rw [zl_c5]
    refine lv_aload_n hx hb dL_law_798 rfl (lv_at hl 3 rfl) ?_
    refine lv_iload_n hx hb dL_law_799 rfl (lv_at hl 0 rfl) ?_
    refine lv_bipush (v := 6) hx hb dL_law_800 (by decide) ?_
    refine lv_iadd hx hb dL_law_802 ?_
    refine zz_topi (v := 6) (by decide) ?_
    refine va_sld hx hb hX hbl hbA hZ.2.2.1 (by unfold vp_in; decide) dL_law_803 ?_
    rw [zl_c6]
    refine lv_if_eq (tgt := 811) hx hb dL_law_804 (by decide) (fun c4 => ?_) (fun c => absurd (c1) c)
    refine lv_iconst (v := 0) hx hb dL_law_811 (by decide) ?_
    refine zz_iV (As := [.int (xs 1), .int (xs 2), .int (xs 3), .int (xs 4), .int (xs 5), .int 0]) (wc := [(om, .inr (7, [.int 0, .int 0, .ref om1, .ref om2, .ref om3, .ref om4, .ref om5, .ref om6, .ref om7, .int 0, .ref om8, .ref om9, .ref om10, .ref om11, .int 0, .int 0, .ref om12, .ref om13, .ref om14, .ref om15, .int 0, .ref om16, .ref om17, .ref om18, .ref om19, .int 0, .ref om20, .ref om21, .ref om22, .ref om23, .ref om24, .ref om25, .ref om26, .int 0, .ref om27, .ref om28, .ref om29]))]) (wr := []) (rest := [.int fn_cx_pin]) hC hZ hl zc_L_65 (my_pin g om om1 om2 om3 om4 om5 om6 om7 om8 om9 om10 om11 om12 om13 om14 om15 om16 om17 om18 om19 om20 om21 om22 om23 om24 om25 om26 om27 om28 om29 (xs 1) (xs 2) (xs 3) (xs 4) (xs 5) 0) [0] [] rfl rfl (by decide) (ci := 7) (q0 := 0) rfl rfl rfl rfl (Nat.le_of_ble_eq_true rfl) ⟨⟨Nat.le_of_ble_eq_true rfl, Nat.le_of_ble_eq_true rfl⟩, Nat.le_of_ble_eq_true rfl, Nat.le_of_ble_eq_true rfl⟩ dL_law_812 (fun r5 u6 H locs hp hZ => ?_)
    obtain rfl := hp
    have hZ : zz_Z g A s.heap [] H locs := hZ.left
    refine lv_icmp_eq (tgt := 1875) hx hb dL_law_815 (by decide) (fun c7 => ?_) (fun c => absurd (rfl) c)
    exact law_tail hC hX hbl hAs hZ.2.2.1 (Nat.le_of_ble_eq_true rfl) (Nat.le_of_ble_eq_true rfl) (lv_sub hl [3, 0] rfl)
  · refine lv_iconst (v := 1) hx hb dL_law_764 (by decide) ?_
    refine lv_goto (tgt := 769) hx hb dL_law_765 (by decide) ?_
    refine zz_iV (As := [.int (xs 1), .int (xs 2), .int (xs 3), .int (xs 4), .int (xs 5), .int 1]) (wc := [(ox, .inr (6, [.ref ox1, .ref ox10, .ref ox12, .ref ox16, .ref ox22, .ref ox30, .int 0, .int 0])), (ox1, .inr (5, [.int 0, .int 0, .ref ox2, .ref ox3, .ref ox4, .ref ox5, .ref ox6, .ref ox7, .ref ox8, .ref ox9]))]) (wr := [(om, .inr (7, [.int 0, .int 0, .ref om1, .ref om2, .ref om3, .ref om4, .ref om5, .ref om6, .ref om7, .int 0, .ref om8, .ref om9, .ref om10, .ref om11, .int 0, .int 0, .ref om12, .ref om13, .ref om14, .ref om15, .int 0, .ref om16, .ref om17, .ref om18, .ref om19, .int 0, .ref om20, .ref om21, .ref om22, .ref om23, .ref om24, .ref om25, .ref om26, .int 0, .ref om27, .ref om28, .ref om29]))]) (rest := []) hC hZ hl zc_L_61 (cx_pin g ox ox1 ox10 ox12 ox16 ox22 ox30 ox2 ox3 ox4 ox5 ox6 ox7 ox8 ox9 (xs 1) (xs 2) (xs 3) (xs 4) (xs 5) 1) [0, 1] [2] rfl rfl (by decide) (ci := 6) (q0 := 0) rfl rfl rfl rfl (Nat.le_of_ble_eq_true rfl) ⟨⟨Nat.le_of_ble_eq_true rfl, Nat.le_of_ble_eq_true rfl⟩, Nat.le_of_ble_eq_true rfl, Nat.le_of_ble_eq_true rfl⟩ dL_law_769 (fun r8 u9 H locs hp hZ => ?_)
    obtain rfl := hp
    have hZ : zz_Z g A s.heap [(om, .inr (7, [.int 0, .int 0, .ref om1, .ref om2, .ref om3, .ref om4, .ref om5, .ref om6, .ref om7, .int 0, .ref om8, .ref om9, .ref om10, .ref om11, .int 0, .int 0, .ref om12, .ref om13, .ref om14, .ref om15, .int 0, .ref om16, .ref om17, .ref om18, .ref om19, .int 0, .ref om20, .ref om21, .ref om22, .ref om23, .ref om24, .ref om25, .ref om26, .int 0, .ref om27, .ref om28, .ref om29]))] H locs := hZ.left
    refine lv_aload_n hx hb dL_law_772 rfl (lv_at hl 1 rfl) ?_
    refine lv_aload_n hx hb dL_law_773 rfl (lv_at hl 3 rfl) ?_
    refine lv_iload_n hx hb dL_law_774 rfl (lv_at hl 0 rfl) ?_
    refine lv_iconst (v := 1) hx hb dL_law_775 (by decide) ?_
    refine lv_iadd hx hb dL_law_776 ?_
    refine zz_topi (v := 1) (by decide) ?_
    refine va_sld hx hb hX hbl hbA hZ.2.2.1 (by unfold vp_in; decide) dL_law_777 ?_
    rw [zl_c1]
    refine lv_aload_n hx hb dL_law_778 rfl (lv_at hl 3 rfl) ?_
    refine lv_iload_n hx hb dL_law_779 rfl (lv_at hl 0 rfl) ?_
    refine lv_iconst (v := 2) hx hb dL_law_780 (by decide) ?_
    refine lv_iadd hx hb dL_law_781 ?_
    refine zz_topi (v := 2) (by decide) ?_
    refine va_sld hx hb hX hbl hbA hZ.2.2.1 (by unfold vp_in; decide) dL_law_782 ?_
    rw [zl_c2]
    refine lv_aload_n hx hb dL_law_783 rfl (lv_at hl 3 rfl) ?_
    refine lv_iload_n hx hb dL_law_784 rfl (lv_at hl 0 rfl) ?_
    refine lv_iconst (v := 3) hx hb dL_law_785 (by decide) ?_
    refine lv_iadd hx hb dL_law_786 ?_
    refine zz_topi (v := 3) (by decide) ?_
    refine va_sld hx hb hX hbl hbA hZ.2.2.1 (by unfold vp_in; decide) dL_law_787 ?_
    rw [zl_c3]
    refine lv_aload_n hx hb dL_law_788 rfl (lv_at hl 3 rfl) ?_
    refine lv_iload_n hx hb dL_law_789 rfl (lv_at hl 0 rfl) ?_
    refine lv_iconst (v := 4) hx hb dL_law_790 (by decide) ?_
    refine lv_iadd hx hb dL_law_791 ?_
    refine zz_topi (v := 4) (by decide) ?_
    refine va_sld hx hb hX hbl hbA hZ.2.2.1 (by unfold vp_in; decide) dL_law_792 ?_
    rw [zl_c4]
    refine lv_aload_n hx hb dL_law_793 rfl (lv_at hl 3 rfl) ?_
    refine lv_iload_n hx hb dL_law_794 rfl (lv_at hl 0 rfl) ?_
    refine lv_iconst (v := 5) hx hb dL_law_795 (by decide) ?_
    refine lv_iadd hx hb dL_law_796 ?_
    refine zz_topi (v := 5) (by decide) ?_
    refine va_sld hx hb hX hbl hbA hZ.2.2.1 (by unfold vp_in; decide) dL_law_797 ?_
    rw [zl_c5]
    refine lv_aload_n hx hb dL_law_798 rfl (lv_at hl 3 rfl) ?_
    refine lv_iload_n hx hb dL_law_799 rfl (lv_at hl 0 rfl) ?_
    refine lv_bipush (v := 6) hx hb dL_law_800 (by decide) ?_
    refine lv_iadd hx hb dL_law_802 ?_
    refine zz_topi (v := 6) (by decide) ?_
    refine va_sld hx hb hX hbl hbA hZ.2.2.1 (by unfold vp_in; decide) dL_law_803 ?_
    rw [zl_c6]
    refine lv_if_eq (tgt := 811) hx hb dL_law_804 (by decide) (fun c => absurd c (c1)) (fun c10 => ?_)
    refine lv_iconst (v := 1) hx hb dL_law_807 (by decide) ?_
    refine lv_goto (tgt := 812) hx hb dL_law_808 (by decide) ?_
    refine zz_iV (As := [.int (xs 1), .int (xs 2), .int (xs 3), .int (xs 4), .int (xs 5), .int 1]) (wc := [(om, .inr (7, [.int 0, .int 0, .ref om1, .ref om2, .ref om3, .ref om4, .ref om5, .ref om6, .ref om7, .int 0, .ref om8, .ref om9, .ref om10, .ref om11, .int 0, .int 0, .ref om12, .ref om13, .ref om14, .ref om15, .int 0, .ref om16, .ref om17, .ref om18, .ref om19, .int 0, .ref om20, .ref om21, .ref om22, .ref om23, .ref om24, .ref om25, .ref om26, .int 0, .ref om27, .ref om28, .ref om29]))]) (wr := []) (rest := [.int fn_cx_pin]) hC hZ hl zc_L_65 (my_pin g om om1 om2 om3 om4 om5 om6 om7 om8 om9 om10 om11 om12 om13 om14 om15 om16 om17 om18 om19 om20 om21 om22 om23 om24 om25 om26 om27 om28 om29 (xs 1) (xs 2) (xs 3) (xs 4) (xs 5) 1) [0] [] rfl rfl (by decide) (ci := 7) (q0 := 0) rfl rfl rfl rfl (Nat.le_of_ble_eq_true rfl) ⟨⟨Nat.le_of_ble_eq_true rfl, Nat.le_of_ble_eq_true rfl⟩, Nat.le_of_ble_eq_true rfl, Nat.le_of_ble_eq_true rfl⟩ dL_law_812 (fun r11 u12 H locs hp hZ => ?_)
    obtain rfl := hp
    have hZ : zz_Z g A s.heap [] H locs := hZ.left
    refine lv_icmp_eq (tgt := 1875) hx hb dL_law_815 (by decide) (fun c13 => ?_) (fun c => absurd (rfl) c)
    exact law_tail hC hX hbl hAs hZ.2.2.1 (Nat.le_of_ble_eq_true rfl) (Nat.le_of_ble_eq_true rfl) (lv_sub hl [3, 0] rfl)
theorem zk_400 : Cond.methodLink RL 66 yX7_column ∈ zz_w := zz_in (List.mem_append_right _ (List.mem_append_right _ (List.mem_append_left _ (List.mem_of_getElem? (i := 160) (by decide +kernel))))) rfl
set_option maxRecDepth 20000 in
theorem zk_403 : Cond.code yX7_column cX7_column 5 (some .int) ∈ zz_w := zz_in (List.mem_append_right _ (List.mem_append_right _ (List.mem_append_left _ (List.mem_of_getElem? (i := 163) (rfl))))) rfl
theorem zk_401 : Cond.instanceMethod yX7_column ∈ zz_w := zz_in (List.mem_append_right _ (List.mem_append_right _ (List.mem_append_left _ (List.mem_of_getElem? (i := 161) (by decide +kernel))))) rfl
theorem zk_402 : Cond.selects RX7 yX7_column yX7_column ∈ zz_w := zz_in (List.mem_append_right _ (List.mem_append_right _ (List.mem_append_left _ (List.mem_of_getElem? (i := 162) (by decide +kernel))))) rfl
theorem zc_L_66 : zz_cV RL 66 yX7_column cX7_column 5 (some .int) 2 := ⟨⟨zk_400, zk_403, zk_1, by decide, by decide, by decide +kernel⟩, zk_401, zk_402⟩
theorem zk_981 : Cond.methodLink RL 69 yX8_column ∈ zz_w := zz_in (List.mem_append_right _ (List.mem_append_right _ (List.mem_append_right _ (List.mem_append_right _ (List.mem_append_right _ (List.mem_of_getElem? (i := 21) (by decide +kernel))))))) rfl
set_option maxRecDepth 20000 in
theorem zk_984 : Cond.code yX8_column cX8_column 5 (some .int) ∈ zz_w := zz_in (List.mem_append_right _ (List.mem_append_right _ (List.mem_append_right _ (List.mem_append_right _ (List.mem_append_right _ (List.mem_of_getElem? (i := 24) (rfl))))))) rfl
theorem zk_982 : Cond.instanceMethod yX8_column ∈ zz_w := zz_in (List.mem_append_right _ (List.mem_append_right _ (List.mem_append_right _ (List.mem_append_right _ (List.mem_append_right _ (List.mem_of_getElem? (i := 22) (by decide +kernel))))))) rfl
theorem zk_983 : Cond.selects RX8 yX8_column yX8_column ∈ zz_w := zz_in (List.mem_append_right _ (List.mem_append_right _ (List.mem_append_right _ (List.mem_append_right _ (List.mem_append_right _ (List.mem_of_getElem? (i := 23) (by decide +kernel))))))) rfl
theorem zc_L_69 : zz_cV RL 69 yX8_column cX8_column 5 (some .int) 2 := ⟨⟨zk_981, zk_984, zk_7, by decide, by decide, by decide +kernel⟩, zk_982, zk_983⟩
set_option maxHeartbeats 4000000 in
set_option maxRecDepth 100000 in
theorem law_c11 {p : Program} {l : Launch} {e : Env} {s : State} {m : MethodId} {below : List Frame} {meth : Method} {c : Code} {A : Nat → Prop} {H : Heap} {locs : List Loc} {ls : Array Slot} (g : zz_G) (b : Nat) (xs : Nat → Int32) (ox ox1 ox10 ox12 ox16 ox22 ox30 ox2 ox3 ox4 ox5 ox6 ox7 ox8 ox9 om om1 om2 om3 om4 om5 om6 om7 om8 om9 om10 om11 om12 om13 om14 om15 om16 om17 om18 om19 om20 om21 om22 om23 om24 om25 om26 om27 om28 om29 : Nat) (hC : zz_C p s m #[Value.ref b] meth c g RL code 4 ret) (hX : va_X b 9 xs s s.heap) (hbl : b < s.heap.size) (hAs : ∀ q, A q → s.heap.size ≤ q) (hZ : zz_Z g A s.heap [(ox, .inr (6, [.ref ox1, .ref ox10, .ref ox12, .ref ox16, .ref ox22, .ref ox30, .int 0, .int 0])), (ox1, .inr (5, [.int 0, .int 0, .ref ox2, .ref ox3, .ref ox4, .ref ox5, .ref ox6, .ref ox7, .ref ox8, .ref ox9])), (om, .inr (7, [.int 0, .int 0, .ref om1, .ref om2, .ref om3, .ref om4, .ref om5, .ref om6, .ref om7, .int 0, .ref om8, .ref om9, .ref om10, .ref om11, .int 0, .int 0, .ref om12, .ref om13, .ref om14, .ref om15, .int 0, .ref om16, .ref om17, .ref om18, .ref om19, .int 0, .ref om20, .ref om21, .ref om22, .ref om23, .ref om24, .ref om25, .ref om26, .int 0, .ref om27, .ref om28, .ref om29]))] H locs) (hl : lv_has ls 4 [(3, .int 0), (2, .ref om), (1, .ref ox), (0, .ref b)]) : W p l e room_1 s m #[Value.ref b] below meth c H locs 61 89631 (lw_Z below #[Value.ref b] s) (F0 m 820 ls []) := by
  obtain ⟨hx, hb, hml, hown, hts, hr, hlocks, hK⟩ := id hC
  have hbA : ¬ A b := fun q => absurd (hAs b q) (by omega)
  refine lv_aload_n hx hb dL_law_820 rfl (lv_at hl 2 rfl) ?_
  refine lv_aload_n hx hb dL_law_821 rfl (lv_at hl 3 rfl) ?_
  refine lv_iload_n hx hb dL_law_822 rfl (lv_at hl 0 rfl) ?_
  refine lv_iconst (v := 1) hx hb dL_law_823 (by decide) ?_
  refine lv_iadd hx hb dL_law_824 ?_
  refine zz_topi (v := 1) (by decide) ?_
  refine va_sld hx hb hX hbl hbA hZ.2.2.1 (by unfold vp_in; decide) dL_law_825 ?_
  rw [zl_c1]
  refine lv_aload_n hx hb dL_law_826 rfl (lv_at hl 3 rfl) ?_
  refine lv_iload_n hx hb dL_law_827 rfl (lv_at hl 0 rfl) ?_
  refine lv_iconst (v := 2) hx hb dL_law_828 (by decide) ?_
  refine lv_iadd hx hb dL_law_829 ?_
  refine zz_topi (v := 2) (by decide) ?_
  refine va_sld hx hb hX hbl hbA hZ.2.2.1 (by unfold vp_in; decide) dL_law_830 ?_
  rw [zl_c2]
  refine zz_iV (As := [.int (xs 1), .int (xs 2)]) (wc := [(ox, .inr (6, [.ref ox1, .ref ox10, .ref ox12, .ref ox16, .ref ox22, .ref ox30, .int 0, .int 0])), (ox1, .inr (5, [.int 0, .int 0, .ref ox2, .ref ox3, .ref ox4, .ref ox5, .ref ox6, .ref ox7, .ref ox8, .ref ox9]))]) (wr := [(om, .inr (7, [.int 0, .int 0, .ref om1, .ref om2, .ref om3, .ref om4, .ref om5, .ref om6, .ref om7, .int 0, .ref om8, .ref om9, .ref om10, .ref om11, .int 0, .int 0, .ref om12, .ref om13, .ref om14, .ref om15, .int 0, .ref om16, .ref om17, .ref om18, .ref om19, .int 0, .ref om20, .ref om21, .ref om22, .ref om23, .ref om24, .ref om25, .ref om26, .int 0, .ref om27, .ref om28, .ref om29]))]) (rest := []) hC hZ hl zc_L_66 (cx_column g ox ox1 ox10 ox12 ox16 ox22 ox30 ox2 ox3 ox4 ox5 ox6 ox7 ox8 ox9 (xs 1) (xs 2)) [0, 1] [2] rfl rfl (by decide) (ci := 6) (q0 := 0) rfl rfl rfl rfl (Nat.le_of_ble_eq_true rfl) ⟨⟨Nat.le_of_ble_eq_true rfl, Nat.le_of_ble_eq_true rfl⟩, Nat.le_of_ble_eq_true rfl, Nat.le_of_ble_eq_true rfl⟩ dL_law_831 (fun r1 u2 H locs hp hZ => ?_)
  obtain rfl := hp
  have hZ : zz_Z g A s.heap [(om, .inr (7, [.int 0, .int 0, .ref om1, .ref om2, .ref om3, .ref om4, .ref om5, .ref om6, .ref om7, .int 0, .ref om8, .ref om9, .ref om10, .ref om11, .int 0, .int 0, .ref om12, .ref om13, .ref om14, .ref om15, .int 0, .ref om16, .ref om17, .ref om18, .ref om19, .int 0, .ref om20, .ref om21, .ref om22, .ref om23, .ref om24, .ref om25, .ref om26, .int 0, .ref om27, .ref om28, .ref om29]))] H locs := hZ.left
  refine lv_aload_n hx hb dL_law_834 rfl (lv_at hl 1 rfl) ?_
  refine lv_aload_n hx hb dL_law_835 rfl (lv_at hl 3 rfl) ?_
  refine lv_iload_n hx hb dL_law_836 rfl (lv_at hl 0 rfl) ?_
  refine lv_iconst (v := 1) hx hb dL_law_837 (by decide) ?_
  refine lv_iadd hx hb dL_law_838 ?_
  refine zz_topi (v := 1) (by decide) ?_
  refine va_sld hx hb hX hbl hbA hZ.2.2.1 (by unfold vp_in; decide) dL_law_839 ?_
  rw [zl_c1]
  refine lv_aload_n hx hb dL_law_840 rfl (lv_at hl 3 rfl) ?_
  refine lv_iload_n hx hb dL_law_841 rfl (lv_at hl 0 rfl) ?_
  refine lv_iconst (v := 2) hx hb dL_law_842 (by decide) ?_
  refine lv_iadd hx hb dL_law_843 ?_
  refine zz_topi (v := 2) (by decide) ?_
  refine va_sld hx hb hX hbl hbA hZ.2.2.1 (by unfold vp_in; decide) dL_law_844 ?_
  rw [zl_c2]
  refine zz_iV (As := [.int (xs 1), .int (xs 2)]) (wc := [(om, .inr (7, [.int 0, .int 0, .ref om1, .ref om2, .ref om3, .ref om4, .ref om5, .ref om6, .ref om7, .int 0, .ref om8, .ref om9, .ref om10, .ref om11, .int 0, .int 0, .ref om12, .ref om13, .ref om14, .ref om15, .int 0, .ref om16, .ref om17, .ref om18, .ref om19, .int 0, .ref om20, .ref om21, .ref om22, .ref om23, .ref om24, .ref om25, .ref om26, .int 0, .ref om27, .ref om28, .ref om29]))]) (wr := []) (rest := [.int (fn_cx_column (xs 1) (xs 2))]) hC hZ hl zc_L_69 (my_column g om om1 om2 om3 om4 om5 om6 om7 om8 om9 om10 om11 om12 om13 om14 om15 om16 om17 om18 om19 om20 om21 om22 om23 om24 om25 om26 om27 om28 om29 (xs 1) (xs 2)) [0] [] rfl rfl (by decide) (ci := 7) (q0 := 0) rfl rfl rfl rfl (Nat.le_of_ble_eq_true rfl) ⟨⟨Nat.le_of_ble_eq_true rfl, Nat.le_of_ble_eq_true rfl⟩, Nat.le_of_ble_eq_true rfl, Nat.le_of_ble_eq_true rfl⟩ dL_law_845 (fun r3 u4 H locs hp hZ => ?_)
  obtain rfl := hp
  have hZ : zz_Z g A s.heap [] H locs := hZ.left
  refine lv_icmp_eq (tgt := 1875) hx hb dL_law_848 (by decide) (fun c5 => ?_) (fun c => absurd (eq_column _ _) c)
  exact law_tail hC hX hbl hAs hZ.2.2.1 (Nat.le_of_ble_eq_true rfl) (Nat.le_of_ble_eq_true rfl) (lv_sub hl [3, 0] rfl)
theorem zk_404 : Cond.methodLink RL 70 yX7_code ∈ zz_w := zz_in (List.mem_append_right _ (List.mem_append_right _ (List.mem_append_left _ (List.mem_of_getElem? (i := 164) (by decide +kernel))))) rfl
set_option maxRecDepth 20000 in
theorem zk_407 : Cond.code yX7_code cX7_code 1 (some .int) ∈ zz_w := zz_in (List.mem_append_right _ (List.mem_append_right _ (List.mem_append_left _ (List.mem_of_getElem? (i := 167) (rfl))))) rfl
theorem zk_405 : Cond.instanceMethod yX7_code ∈ zz_w := zz_in (List.mem_append_right _ (List.mem_append_right _ (List.mem_append_left _ (List.mem_of_getElem? (i := 165) (by decide +kernel))))) rfl
theorem zk_406 : Cond.selects RX7 yX7_code yX7_code ∈ zz_w := zz_in (List.mem_append_right _ (List.mem_append_right _ (List.mem_append_left _ (List.mem_of_getElem? (i := 166) (by decide +kernel))))) rfl
theorem zc_L_70 : zz_cV RL 70 yX7_code cX7_code 1 (some .int) 0 := ⟨⟨zk_404, zk_407, zk_1, by decide, by decide, by decide +kernel⟩, zk_405, zk_406⟩
theorem zk_866 : Cond.methodLink RL 74 yX8_code ∈ zz_w := zz_in (List.mem_append_right _ (List.mem_append_right _ (List.mem_append_right _ (List.mem_append_right _ (List.mem_append_left _ (List.mem_of_getElem? (i := 146) (by decide +kernel))))))) rfl
set_option maxRecDepth 20000 in
theorem zk_869 : Cond.code yX8_code cX8_code 1 (some .int) ∈ zz_w := zz_in (List.mem_append_right _ (List.mem_append_right _ (List.mem_append_right _ (List.mem_append_right _ (List.mem_append_left _ (List.mem_of_getElem? (i := 149) (rfl))))))) rfl
theorem zk_867 : Cond.instanceMethod yX8_code ∈ zz_w := zz_in (List.mem_append_right _ (List.mem_append_right _ (List.mem_append_right _ (List.mem_append_right _ (List.mem_append_left _ (List.mem_of_getElem? (i := 147) (by decide +kernel))))))) rfl
theorem zk_868 : Cond.selects RX8 yX8_code yX8_code ∈ zz_w := zz_in (List.mem_append_right _ (List.mem_append_right _ (List.mem_append_right _ (List.mem_append_right _ (List.mem_append_left _ (List.mem_of_getElem? (i := 148) (by decide +kernel))))))) rfl
theorem zc_L_74 : zz_cV RL 74 yX8_code cX8_code 1 (some .int) 0 := ⟨⟨zk_866, zk_869, zk_7, by decide, by decide, by decide +kernel⟩, zk_867, zk_868⟩
set_option maxHeartbeats 4000000 in
set_option maxRecDepth 100000 in
theorem law_c12 {p : Program} {l : Launch} {e : Env} {s : State} {m : MethodId} {below : List Frame} {meth : Method} {c : Code} {A : Nat → Prop} {H : Heap} {locs : List Loc} {ls : Array Slot} (g : zz_G) (b : Nat) (xs : Nat → Int32) (ox ox1 ox10 ox12 ox16 ox22 ox30 om om1 om2 om3 om4 om5 om6 om7 om8 om9 om10 om11 om12 om13 om14 om15 om16 om17 om18 om19 om20 om21 om22 om23 om24 om25 om26 om27 om28 om29 : Nat) (hC : zz_C p s m #[Value.ref b] meth c g RL code 4 ret) (hX : va_X b 9 xs s s.heap) (hbl : b < s.heap.size) (hAs : ∀ q, A q → s.heap.size ≤ q) (hZ : zz_Z g A s.heap [(ox, .inr (6, [.ref ox1, .ref ox10, .ref ox12, .ref ox16, .ref ox22, .ref ox30, .int 0, .int 0])), (om, .inr (7, [.int 0, .int 0, .ref om1, .ref om2, .ref om3, .ref om4, .ref om5, .ref om6, .ref om7, .int 0, .ref om8, .ref om9, .ref om10, .ref om11, .int 0, .int 0, .ref om12, .ref om13, .ref om14, .ref om15, .int 0, .ref om16, .ref om17, .ref om18, .ref om19, .int 0, .ref om20, .ref om21, .ref om22, .ref om23, .ref om24, .ref om25, .ref om26, .int 0, .ref om27, .ref om28, .ref om29]))] H locs) (hl : lv_has ls 4 [(3, .int 0), (2, .ref om), (1, .ref ox), (0, .ref b)]) : W p l e room_1 s m #[Value.ref b] below meth c H locs 61 89631 (lw_Z below #[Value.ref b] s) (F0 m 853 ls []) := by
  obtain ⟨hx, hb, hml, hown, hts, hr, hlocks, hK⟩ := id hC
  have hbA : ¬ A b := fun q => absurd (hAs b q) (by omega)
  refine lv_aload_n hx hb dL_law_853 rfl (lv_at hl 2 rfl) ?_
  refine zz_iV (As := []) (wc := [(ox, .inr (6, [.ref ox1, .ref ox10, .ref ox12, .ref ox16, .ref ox22, .ref ox30, .int 0, .int 0]))]) (wr := [(om, .inr (7, [.int 0, .int 0, .ref om1, .ref om2, .ref om3, .ref om4, .ref om5, .ref om6, .ref om7, .int 0, .ref om8, .ref om9, .ref om10, .ref om11, .int 0, .int 0, .ref om12, .ref om13, .ref om14, .ref om15, .int 0, .ref om16, .ref om17, .ref om18, .ref om19, .int 0, .ref om20, .ref om21, .ref om22, .ref om23, .ref om24, .ref om25, .ref om26, .int 0, .ref om27, .ref om28, .ref om29]))]) (rest := []) hC hZ hl zc_L_70 (cx_code g ox ox1 ox10 ox12 ox16 ox22 ox30) [0] [1] rfl rfl (by decide) (ci := 6) (q0 := 0) rfl rfl rfl rfl (Nat.le_of_ble_eq_true rfl) ⟨⟨Nat.le_of_ble_eq_true rfl, Nat.le_of_ble_eq_true rfl⟩, Nat.le_of_ble_eq_true rfl, Nat.le_of_ble_eq_true rfl⟩ dL_law_854 (fun r1 u2 H locs hp hZ => ?_)
  obtain rfl := hp
  have hZ : zz_Z g A s.heap [(om, .inr (7, [.int 0, .int 0, .ref om1, .ref om2, .ref om3, .ref om4, .ref om5, .ref om6, .ref om7, .int 0, .ref om8, .ref om9, .ref om10, .ref om11, .int 0, .int 0, .ref om12, .ref om13, .ref om14, .ref om15, .int 0, .ref om16, .ref om17, .ref om18, .ref om19, .int 0, .ref om20, .ref om21, .ref om22, .ref om23, .ref om24, .ref om25, .ref om26, .int 0, .ref om27, .ref om28, .ref om29]))] H locs := hZ.left
  refine lv_aload_n hx hb dL_law_857 rfl (lv_at hl 1 rfl) ?_
  refine zz_iV (As := []) (wc := [(om, .inr (7, [.int 0, .int 0, .ref om1, .ref om2, .ref om3, .ref om4, .ref om5, .ref om6, .ref om7, .int 0, .ref om8, .ref om9, .ref om10, .ref om11, .int 0, .int 0, .ref om12, .ref om13, .ref om14, .ref om15, .int 0, .ref om16, .ref om17, .ref om18, .ref om19, .int 0, .ref om20, .ref om21, .ref om22, .ref om23, .ref om24, .ref om25, .ref om26, .int 0, .ref om27, .ref om28, .ref om29]))]) (wr := []) (rest := [.int fn_cx_code]) hC hZ hl zc_L_74 (my_code g om om1 om2 om3 om4 om5 om6 om7 om8 om9 om10 om11 om12 om13 om14 om15 om16 om17 om18 om19 om20 om21 om22 om23 om24 om25 om26 om27 om28 om29) [0] [] rfl rfl (by decide) (ci := 7) (q0 := 0) rfl rfl rfl rfl (Nat.le_of_ble_eq_true rfl) ⟨⟨Nat.le_of_ble_eq_true rfl, Nat.le_of_ble_eq_true rfl⟩, Nat.le_of_ble_eq_true rfl, Nat.le_of_ble_eq_true rfl⟩ dL_law_858 (fun r3 u4 H locs hp hZ => ?_)
  obtain rfl := hp
  have hZ : zz_Z g A s.heap [] H locs := hZ.left
  refine lv_icmp_eq (tgt := 1875) hx hb dL_law_861 (by decide) (fun c5 => ?_) (fun c => absurd (rfl) c)
  exact law_tail hC hX hbl hAs hZ.2.2.1 (Nat.le_of_ble_eq_true rfl) (Nat.le_of_ble_eq_true rfl) (lv_sub hl [3, 0] rfl)
theorem zk_408 : Cond.methodLink RL 75 yX7_widens ∈ zz_w := zz_in (List.mem_append_right _ (List.mem_append_right _ (List.mem_append_left _ (List.mem_of_getElem? (i := 168) (by decide +kernel))))) rfl
set_option maxRecDepth 20000 in
theorem zk_411 : Cond.code yX7_widens cX7_widens 3 (some .int) ∈ zz_w := zz_in (List.mem_append_right _ (List.mem_append_right _ (List.mem_append_left _ (List.mem_of_getElem? (i := 171) (rfl))))) rfl
theorem zk_409 : Cond.instanceMethod yX7_widens ∈ zz_w := zz_in (List.mem_append_right _ (List.mem_append_right _ (List.mem_append_left _ (List.mem_of_getElem? (i := 169) (by decide +kernel))))) rfl
theorem zk_410 : Cond.selects RX7 yX7_widens yX7_widens ∈ zz_w := zz_in (List.mem_append_right _ (List.mem_append_right _ (List.mem_append_left _ (List.mem_of_getElem? (i := 170) (by decide +kernel))))) rfl
theorem zc_L_75 : zz_cV RL 75 yX7_widens cX7_widens 3 (some .int) 2 := ⟨⟨zk_408, zk_411, zk_1, by decide, by decide, by decide +kernel⟩, zk_409, zk_410⟩
theorem zk_847 : Cond.methodLink RL 78 yX8_widens ∈ zz_w := zz_in (List.mem_append_right _ (List.mem_append_right _ (List.mem_append_right _ (List.mem_append_right _ (List.mem_append_left _ (List.mem_of_getElem? (i := 127) (by decide +kernel))))))) rfl
set_option maxRecDepth 20000 in
theorem zk_850 : Cond.code yX8_widens cX8_widens 3 (some .int) ∈ zz_w := zz_in (List.mem_append_right _ (List.mem_append_right _ (List.mem_append_right _ (List.mem_append_right _ (List.mem_append_left _ (List.mem_of_getElem? (i := 130) (rfl))))))) rfl
theorem zk_848 : Cond.instanceMethod yX8_widens ∈ zz_w := zz_in (List.mem_append_right _ (List.mem_append_right _ (List.mem_append_right _ (List.mem_append_right _ (List.mem_append_left _ (List.mem_of_getElem? (i := 128) (by decide +kernel))))))) rfl
theorem zk_849 : Cond.selects RX8 yX8_widens yX8_widens ∈ zz_w := zz_in (List.mem_append_right _ (List.mem_append_right _ (List.mem_append_right _ (List.mem_append_right _ (List.mem_append_left _ (List.mem_of_getElem? (i := 129) (by decide +kernel))))))) rfl
theorem zc_L_78 : zz_cV RL 78 yX8_widens cX8_widens 3 (some .int) 2 := ⟨⟨zk_847, zk_850, zk_7, by decide, by decide, by decide +kernel⟩, zk_848, zk_849⟩
set_option maxHeartbeats 4000000 in
set_option maxRecDepth 100000 in
theorem law_c13 {p : Program} {l : Launch} {e : Env} {s : State} {m : MethodId} {below : List Frame} {meth : Method} {c : Code} {A : Nat → Prop} {H : Heap} {locs : List Loc} {ls : Array Slot} (g : zz_G) (b : Nat) (xs : Nat → Int32) (ox ox1 ox10 ox12 ox16 ox22 ox30 om om1 om2 om3 om4 om5 om6 om7 om8 om9 om10 om11 om12 om13 om14 om15 om16 om17 om18 om19 om20 om21 om22 om23 om24 om25 om26 om27 om28 om29 : Nat) (hC : zz_C p s m #[Value.ref b] meth c g RL code 4 ret) (hX : va_X b 9 xs s s.heap) (hbl : b < s.heap.size) (hAs : ∀ q, A q → s.heap.size ≤ q) (hZ : zz_Z g A s.heap [(ox, .inr (6, [.ref ox1, .ref ox10, .ref ox12, .ref ox16, .ref ox22, .ref ox30, .int 0, .int 0])), (om, .inr (7, [.int 0, .int 0, .ref om1, .ref om2, .ref om3, .ref om4, .ref om5, .ref om6, .ref om7, .int 0, .ref om8, .ref om9, .ref om10, .ref om11, .int 0, .int 0, .ref om12, .ref om13, .ref om14, .ref om15, .int 0, .ref om16, .ref om17, .ref om18, .ref om19, .int 0, .ref om20, .ref om21, .ref om22, .ref om23, .ref om24, .ref om25, .ref om26, .int 0, .ref om27, .ref om28, .ref om29]))] H locs) (hl : lv_has ls 4 [(3, .int 0), (2, .ref om), (1, .ref ox), (0, .ref b)]) : W p l e room_1 s m #[Value.ref b] below meth c H locs 61 89631 (lw_Z below #[Value.ref b] s) (F0 m 866 ls []) := by
  obtain ⟨hx, hb, hml, hown, hts, hr, hlocks, hK⟩ := id hC
  have hbA : ¬ A b := fun q => absurd (hAs b q) (by omega)
  refine lv_aload_n hx hb dL_law_866 rfl (lv_at hl 2 rfl) ?_
  refine lv_aload_n hx hb dL_law_867 rfl (lv_at hl 3 rfl) ?_
  refine lv_iload_n hx hb dL_law_868 rfl (lv_at hl 0 rfl) ?_
  refine lv_iconst (v := 1) hx hb dL_law_869 (by decide) ?_
  refine lv_iadd hx hb dL_law_870 ?_
  refine zz_topi (v := 1) (by decide) ?_
  refine va_sld hx hb hX hbl hbA hZ.2.2.1 (by unfold vp_in; decide) dL_law_871 ?_
  rw [zl_c1]
  refine lv_aload_n hx hb dL_law_872 rfl (lv_at hl 3 rfl) ?_
  refine lv_iload_n hx hb dL_law_873 rfl (lv_at hl 0 rfl) ?_
  refine lv_iconst (v := 2) hx hb dL_law_874 (by decide) ?_
  refine lv_iadd hx hb dL_law_875 ?_
  refine zz_topi (v := 2) (by decide) ?_
  refine va_sld hx hb hX hbl hbA hZ.2.2.1 (by unfold vp_in; decide) dL_law_876 ?_
  rw [zl_c2]
  refine zz_iV (As := [.int (xs 1), .int (xs 2)]) (wc := [(ox, .inr (6, [.ref ox1, .ref ox10, .ref ox12, .ref ox16, .ref ox22, .ref ox30, .int 0, .int 0]))]) (wr := [(om, .inr (7, [.int 0, .int 0, .ref om1, .ref om2, .ref om3, .ref om4, .ref om5, .ref om6, .ref om7, .int 0, .ref om8, .ref om9, .ref om10, .ref om11, .int 0, .int 0, .ref om12, .ref om13, .ref om14, .ref om15, .int 0, .ref om16, .ref om17, .ref om18, .ref om19, .int 0, .ref om20, .ref om21, .ref om22, .ref om23, .ref om24, .ref om25, .ref om26, .int 0, .ref om27, .ref om28, .ref om29]))]) (rest := []) hC hZ hl zc_L_75 (cx_widens g ox ox1 ox10 ox12 ox16 ox22 ox30 (xs 1) (xs 2)) [0] [1] rfl rfl (by decide) (ci := 6) (q0 := 0) rfl rfl rfl rfl (Nat.le_of_ble_eq_true rfl) ⟨⟨Nat.le_of_ble_eq_true rfl, Nat.le_of_ble_eq_true rfl⟩, Nat.le_of_ble_eq_true rfl, Nat.le_of_ble_eq_true rfl⟩ dL_law_877 (fun r1 u2 H locs hp hZ => ?_)
  obtain rfl := hp
  have hZ : zz_Z g A s.heap [(om, .inr (7, [.int 0, .int 0, .ref om1, .ref om2, .ref om3, .ref om4, .ref om5, .ref om6, .ref om7, .int 0, .ref om8, .ref om9, .ref om10, .ref om11, .int 0, .int 0, .ref om12, .ref om13, .ref om14, .ref om15, .int 0, .ref om16, .ref om17, .ref om18, .ref om19, .int 0, .ref om20, .ref om21, .ref om22, .ref om23, .ref om24, .ref om25, .ref om26, .int 0, .ref om27, .ref om28, .ref om29]))] H locs := hZ.left
  refine lv_aload_n hx hb dL_law_880 rfl (lv_at hl 1 rfl) ?_
  refine lv_aload_n hx hb dL_law_881 rfl (lv_at hl 3 rfl) ?_
  refine lv_iload_n hx hb dL_law_882 rfl (lv_at hl 0 rfl) ?_
  refine lv_iconst (v := 1) hx hb dL_law_883 (by decide) ?_
  refine lv_iadd hx hb dL_law_884 ?_
  refine zz_topi (v := 1) (by decide) ?_
  refine va_sld hx hb hX hbl hbA hZ.2.2.1 (by unfold vp_in; decide) dL_law_885 ?_
  rw [zl_c1]
  refine lv_aload_n hx hb dL_law_886 rfl (lv_at hl 3 rfl) ?_
  refine lv_iload_n hx hb dL_law_887 rfl (lv_at hl 0 rfl) ?_
  refine lv_iconst (v := 2) hx hb dL_law_888 (by decide) ?_
  refine lv_iadd hx hb dL_law_889 ?_
  refine zz_topi (v := 2) (by decide) ?_
  refine va_sld hx hb hX hbl hbA hZ.2.2.1 (by unfold vp_in; decide) dL_law_890 ?_
  rw [zl_c2]
  refine zz_iV (As := [.int (xs 1), .int (xs 2)]) (wc := [(om, .inr (7, [.int 0, .int 0, .ref om1, .ref om2, .ref om3, .ref om4, .ref om5, .ref om6, .ref om7, .int 0, .ref om8, .ref om9, .ref om10, .ref om11, .int 0, .int 0, .ref om12, .ref om13, .ref om14, .ref om15, .int 0, .ref om16, .ref om17, .ref om18, .ref om19, .int 0, .ref om20, .ref om21, .ref om22, .ref om23, .ref om24, .ref om25, .ref om26, .int 0, .ref om27, .ref om28, .ref om29]))]) (wr := []) (rest := [.int (fn_cx_widens (xs 1) (xs 2))]) hC hZ hl zc_L_78 (my_widens g om om1 om2 om3 om4 om5 om6 om7 om8 om9 om10 om11 om12 om13 om14 om15 om16 om17 om18 om19 om20 om21 om22 om23 om24 om25 om26 om27 om28 om29 (xs 1) (xs 2)) [0] [] rfl rfl (by decide) (ci := 7) (q0 := 0) rfl rfl rfl rfl (Nat.le_of_ble_eq_true rfl) ⟨⟨Nat.le_of_ble_eq_true rfl, Nat.le_of_ble_eq_true rfl⟩, Nat.le_of_ble_eq_true rfl, Nat.le_of_ble_eq_true rfl⟩ dL_law_891 (fun r3 u4 H locs hp hZ => ?_)
  obtain rfl := hp
  have hZ : zz_Z g A s.heap [] H locs := hZ.left
  refine lv_icmp_eq (tgt := 1875) hx hb dL_law_894 (by decide) (fun c5 => ?_) (fun c => absurd (eq_widens _ _) c)
  exact law_tail hC hX hbl hAs hZ.2.2.1 (Nat.le_of_ble_eq_true rfl) (Nat.le_of_ble_eq_true rfl) (lv_sub hl [3, 0] rfl)
theorem zk_412 : Cond.methodLink RL 79 yX7_fill ∈ zz_w := zz_in (List.mem_append_right _ (List.mem_append_right _ (List.mem_append_left _ (List.mem_of_getElem? (i := 172) (by decide +kernel))))) rfl
set_option maxRecDepth 20000 in
theorem zk_415 : Cond.code yX7_fill cX7_fill 12 (some .int) ∈ zz_w := zz_in (List.mem_append_right _ (List.mem_append_right _ (List.mem_append_left _ (List.mem_of_getElem? (i := 175) (rfl))))) rfl
theorem zk_413 : Cond.instanceMethod yX7_fill ∈ zz_w := zz_in (List.mem_append_right _ (List.mem_append_right _ (List.mem_append_left _ (List.mem_of_getElem? (i := 173) (by decide +kernel))))) rfl
theorem zk_414 : Cond.selects RX7 yX7_fill yX7_fill ∈ zz_w := zz_in (List.mem_append_right _ (List.mem_append_right _ (List.mem_append_left _ (List.mem_of_getElem? (i := 174) (by decide +kernel))))) rfl
theorem zc_L_79 : zz_cV RL 79 yX7_fill cX7_fill 12 (some .int) 5 := ⟨⟨zk_412, zk_415, zk_1, by decide, by decide, by decide +kernel⟩, zk_413, zk_414⟩
theorem zk_985 : Cond.methodLink RL 83 yX8_fill ∈ zz_w := zz_in (List.mem_append_right _ (List.mem_append_right _ (List.mem_append_right _ (List.mem_append_right _ (List.mem_append_right _ (List.mem_of_getElem? (i := 25) (by decide +kernel))))))) rfl
set_option maxRecDepth 20000 in
theorem zk_988 : Cond.code yX8_fill cX8_fill 9 (some .int) ∈ zz_w := zz_in (List.mem_append_right _ (List.mem_append_right _ (List.mem_append_right _ (List.mem_append_right _ (List.mem_append_right _ (List.mem_of_getElem? (i := 28) (rfl))))))) rfl
theorem zk_986 : Cond.instanceMethod yX8_fill ∈ zz_w := zz_in (List.mem_append_right _ (List.mem_append_right _ (List.mem_append_right _ (List.mem_append_right _ (List.mem_append_right _ (List.mem_of_getElem? (i := 26) (by decide +kernel))))))) rfl
theorem zk_987 : Cond.selects RX8 yX8_fill yX8_fill ∈ zz_w := zz_in (List.mem_append_right _ (List.mem_append_right _ (List.mem_append_right _ (List.mem_append_right _ (List.mem_append_right _ (List.mem_of_getElem? (i := 27) (by decide +kernel))))))) rfl
theorem zc_L_83 : zz_cV RL 83 yX8_fill cX8_fill 9 (some .int) 5 := ⟨⟨zk_985, zk_988, zk_7, by decide, by decide, by decide +kernel⟩, zk_986, zk_987⟩
set_option maxHeartbeats 4000000 in
set_option maxRecDepth 100000 in
theorem law_c14 {p : Program} {l : Launch} {e : Env} {s : State} {m : MethodId} {below : List Frame} {meth : Method} {c : Code} {A : Nat → Prop} {H : Heap} {locs : List Loc} {ls : Array Slot} (g : zz_G) (b : Nat) (xs : Nat → Int32) (ox ox1 ox10 ox12 ox16 ox22 ox30 ox2 ox3 ox4 ox5 ox6 ox7 ox8 ox9 om om1 om2 om3 om4 om5 om6 om7 om8 om9 om10 om11 om12 om13 om14 om15 om16 om17 om18 om19 om20 om21 om22 om23 om24 om25 om26 om27 om28 om29 : Nat) (hC : zz_C p s m #[Value.ref b] meth c g RL code 4 ret) (hX : va_X b 9 xs s s.heap) (hbl : b < s.heap.size) (hAs : ∀ q, A q → s.heap.size ≤ q) (hZ : zz_Z g A s.heap [(ox, .inr (6, [.ref ox1, .ref ox10, .ref ox12, .ref ox16, .ref ox22, .ref ox30, .int 0, .int 0])), (ox1, .inr (5, [.int 0, .int 0, .ref ox2, .ref ox3, .ref ox4, .ref ox5, .ref ox6, .ref ox7, .ref ox8, .ref ox9])), (om, .inr (7, [.int 0, .int 0, .ref om1, .ref om2, .ref om3, .ref om4, .ref om5, .ref om6, .ref om7, .int 0, .ref om8, .ref om9, .ref om10, .ref om11, .int 0, .int 0, .ref om12, .ref om13, .ref om14, .ref om15, .int 0, .ref om16, .ref om17, .ref om18, .ref om19, .int 0, .ref om20, .ref om21, .ref om22, .ref om23, .ref om24, .ref om25, .ref om26, .int 0, .ref om27, .ref om28, .ref om29]))] H locs) (hl : lv_has ls 4 [(3, .int 0), (2, .ref om), (1, .ref ox), (0, .ref b)]) : W p l e room_1 s m #[Value.ref b] below meth c H locs 61 89631 (lw_Z below #[Value.ref b] s) (F0 m 899 ls []) := by
  obtain ⟨hx, hb, hml, hown, hts, hr, hlocks, hK⟩ := id hC
  have hbA : ¬ A b := fun q => absurd (hAs b q) (by omega)
  refine lv_aload_n hx hb dL_law_899 rfl (lv_at hl 2 rfl) ?_
  refine lv_aload_n hx hb dL_law_900 rfl (lv_at hl 3 rfl) ?_
  refine lv_iload_n hx hb dL_law_901 rfl (lv_at hl 0 rfl) ?_
  refine lv_iconst (v := 1) hx hb dL_law_902 (by decide) ?_
  refine lv_iadd hx hb dL_law_903 ?_
  refine zz_topi (v := 1) (by decide) ?_
  refine va_sld hx hb hX hbl hbA hZ.2.2.1 (by unfold vp_in; decide) dL_law_904 ?_
  rw [zl_c1]
  refine lv_aload_n hx hb dL_law_905 rfl (lv_at hl 3 rfl) ?_
  refine lv_iload_n hx hb dL_law_906 rfl (lv_at hl 0 rfl) ?_
  refine lv_iconst (v := 2) hx hb dL_law_907 (by decide) ?_
  refine lv_iadd hx hb dL_law_908 ?_
  refine zz_topi (v := 2) (by decide) ?_
  refine va_sld hx hb hX hbl hbA hZ.2.2.1 (by unfold vp_in; decide) dL_law_909 ?_
  rw [zl_c2]
  refine lv_aload_n hx hb dL_law_910 rfl (lv_at hl 3 rfl) ?_
  refine lv_iload_n hx hb dL_law_911 rfl (lv_at hl 0 rfl) ?_
  refine lv_iconst (v := 3) hx hb dL_law_912 (by decide) ?_
  refine lv_iadd hx hb dL_law_913 ?_
  refine zz_topi (v := 3) (by decide) ?_
  refine va_sld hx hb hX hbl hbA hZ.2.2.1 (by unfold vp_in; decide) dL_law_914 ?_
  rw [zl_c3]
  refine lv_aload_n hx hb dL_law_915 rfl (lv_at hl 3 rfl) ?_
  refine lv_iload_n hx hb dL_law_916 rfl (lv_at hl 0 rfl) ?_
  refine lv_iconst (v := 4) hx hb dL_law_917 (by decide) ?_
  refine lv_iadd hx hb dL_law_918 ?_
  refine zz_topi (v := 4) (by decide) ?_
  refine va_sld hx hb hX hbl hbA hZ.2.2.1 (by unfold vp_in; decide) dL_law_919 ?_
  rw [zl_c4]
  refine lv_aload_n hx hb dL_law_920 rfl (lv_at hl 3 rfl) ?_
  refine lv_iload_n hx hb dL_law_921 rfl (lv_at hl 0 rfl) ?_
  refine lv_iconst (v := 5) hx hb dL_law_922 (by decide) ?_
  refine lv_iadd hx hb dL_law_923 ?_
  refine zz_topi (v := 5) (by decide) ?_
  refine va_sld hx hb hX hbl hbA hZ.2.2.1 (by unfold vp_in; decide) dL_law_924 ?_
  rw [zl_c5]
  refine lv_i2l hx hb dL_law_925 rfl ?_
  refine lv_bipush (v := 32) hx hb dL_law_926 (by decide) ?_
  refine lv_lshl hx hb dL_law_928 rfl ?_
  refine lv_aload_n hx hb dL_law_929 rfl (lv_at hl 3 rfl) ?_
  refine lv_iload_n hx hb dL_law_930 rfl (lv_at hl 0 rfl) ?_
  refine lv_bipush (v := 6) hx hb dL_law_931 (by decide) ?_
  refine lv_iadd hx hb dL_law_933 ?_
  refine zz_topi (v := 6) (by decide) ?_
  refine va_sld hx hb hX hbl hbA hZ.2.2.1 (by unfold vp_in; decide) dL_law_934 ?_
  rw [zl_c6]
  refine lv_i2l hx hb dL_law_935 rfl ?_
  refine lv_ldc2 hx hb hown (hts _ zk_1133) dL_law_936 ?_
  refine lv_land hx hb dL_law_939 ?_
  refine lv_lor hx hb dL_law_940 ?_
  refine zz_iV (As := [.int (xs 1), .int (xs 2), .int (xs 3), .int (xs 4), .long ((((xs 5).toInt64) <<< ((32 : Int32).toInt64 &&& 63)) ||| (((xs 6).toInt64) &&& 4294967295))]) (wc := [(ox, .inr (6, [.ref ox1, .ref ox10, .ref ox12, .ref ox16, .ref ox22, .ref ox30, .int 0, .int 0])), (ox1, .inr (5, [.int 0, .int 0, .ref ox2, .ref ox3, .ref ox4, .ref ox5, .ref ox6, .ref ox7, .ref ox8, .ref ox9]))]) (wr := [(om, .inr (7, [.int 0, .int 0, .ref om1, .ref om2, .ref om3, .ref om4, .ref om5, .ref om6, .ref om7, .int 0, .ref om8, .ref om9, .ref om10, .ref om11, .int 0, .int 0, .ref om12, .ref om13, .ref om14, .ref om15, .int 0, .ref om16, .ref om17, .ref om18, .ref om19, .int 0, .ref om20, .ref om21, .ref om22, .ref om23, .ref om24, .ref om25, .ref om26, .int 0, .ref om27, .ref om28, .ref om29]))]) (rest := []) hC hZ hl zc_L_79 (cx_fill g ox ox1 ox10 ox12 ox16 ox22 ox30 ox2 ox3 ox4 ox5 ox6 ox7 ox8 ox9 (xs 1) (xs 2) (xs 3) (xs 4) ((((xs 5).toInt64) <<< ((32 : Int32).toInt64 &&& 63)) ||| (((xs 6).toInt64) &&& 4294967295))) [0, 1] [2] rfl rfl (by decide) (ci := 6) (q0 := 0) rfl rfl rfl rfl (Nat.le_of_ble_eq_true rfl) ⟨⟨Nat.le_of_ble_eq_true rfl, Nat.le_of_ble_eq_true rfl⟩, Nat.le_of_ble_eq_true rfl, Nat.le_of_ble_eq_true rfl⟩ dL_law_941 (fun r1 u2 H locs hp hZ => ?_)
  obtain rfl := hp
  have hZ : zz_Z g A s.heap [(om, .inr (7, [.int 0, .int 0, .ref om1, .ref om2, .ref om3, .ref om4, .ref om5, .ref om6, .ref om7, .int 0, .ref om8, .ref om9, .ref om10, .ref om11, .int 0, .int 0, .ref om12, .ref om13, .ref om14, .ref om15, .int 0, .ref om16, .ref om17, .ref om18, .ref om19, .int 0, .ref om20, .ref om21, .ref om22, .ref om23, .ref om24, .ref om25, .ref om26, .int 0, .ref om27, .ref om28, .ref om29]))] H locs := hZ.left
  refine lv_aload_n hx hb dL_law_944 rfl (lv_at hl 1 rfl) ?_
  refine lv_aload_n hx hb dL_law_945 rfl (lv_at hl 3 rfl) ?_
  refine lv_iload_n hx hb dL_law_946 rfl (lv_at hl 0 rfl) ?_
  refine lv_iconst (v := 1) hx hb dL_law_947 (by decide) ?_
  refine lv_iadd hx hb dL_law_948 ?_
  refine zz_topi (v := 1) (by decide) ?_
  refine va_sld hx hb hX hbl hbA hZ.2.2.1 (by unfold vp_in; decide) dL_law_949 ?_
  rw [zl_c1]
  refine lv_aload_n hx hb dL_law_950 rfl (lv_at hl 3 rfl) ?_
  refine lv_iload_n hx hb dL_law_951 rfl (lv_at hl 0 rfl) ?_
  refine lv_iconst (v := 2) hx hb dL_law_952 (by decide) ?_
  refine lv_iadd hx hb dL_law_953 ?_
  refine zz_topi (v := 2) (by decide) ?_
  refine va_sld hx hb hX hbl hbA hZ.2.2.1 (by unfold vp_in; decide) dL_law_954 ?_
  rw [zl_c2]
  refine lv_aload_n hx hb dL_law_955 rfl (lv_at hl 3 rfl) ?_
  refine lv_iload_n hx hb dL_law_956 rfl (lv_at hl 0 rfl) ?_
  refine lv_iconst (v := 3) hx hb dL_law_957 (by decide) ?_
  refine lv_iadd hx hb dL_law_958 ?_
  refine zz_topi (v := 3) (by decide) ?_
  refine va_sld hx hb hX hbl hbA hZ.2.2.1 (by unfold vp_in; decide) dL_law_959 ?_
  rw [zl_c3]
  refine lv_aload_n hx hb dL_law_960 rfl (lv_at hl 3 rfl) ?_
  refine lv_iload_n hx hb dL_law_961 rfl (lv_at hl 0 rfl) ?_
  refine lv_iconst (v := 4) hx hb dL_law_962 (by decide) ?_
  refine lv_iadd hx hb dL_law_963 ?_
  refine zz_topi (v := 4) (by decide) ?_
  refine va_sld hx hb hX hbl hbA hZ.2.2.1 (by unfold vp_in; decide) dL_law_964 ?_
  rw [zl_c4]
  refine lv_aload_n hx hb dL_law_965 rfl (lv_at hl 3 rfl) ?_
  refine lv_iload_n hx hb dL_law_966 rfl (lv_at hl 0 rfl) ?_
  refine lv_iconst (v := 5) hx hb dL_law_967 (by decide) ?_
  refine lv_iadd hx hb dL_law_968 ?_
  refine zz_topi (v := 5) (by decide) ?_
  refine va_sld hx hb hX hbl hbA hZ.2.2.1 (by unfold vp_in; decide) dL_law_969 ?_
  rw [zl_c5]
  refine lv_i2l hx hb dL_law_970 rfl ?_
  refine lv_bipush (v := 32) hx hb dL_law_971 (by decide) ?_
  refine lv_lshl hx hb dL_law_973 rfl ?_
  refine lv_aload_n hx hb dL_law_974 rfl (lv_at hl 3 rfl) ?_
  refine lv_iload_n hx hb dL_law_975 rfl (lv_at hl 0 rfl) ?_
  refine lv_bipush (v := 6) hx hb dL_law_976 (by decide) ?_
  refine lv_iadd hx hb dL_law_978 ?_
  refine zz_topi (v := 6) (by decide) ?_
  refine va_sld hx hb hX hbl hbA hZ.2.2.1 (by unfold vp_in; decide) dL_law_979 ?_
  rw [zl_c6]
  refine lv_i2l hx hb dL_law_980 rfl ?_
  refine lv_ldc2 hx hb hown (hts _ zk_1133) dL_law_981 ?_
  refine lv_land hx hb dL_law_984 ?_
  refine lv_lor hx hb dL_law_985 ?_
  refine zz_iV (As := [.int (xs 1), .int (xs 2), .int (xs 3), .int (xs 4), .long ((((xs 5).toInt64) <<< ((32 : Int32).toInt64 &&& 63)) ||| (((xs 6).toInt64) &&& 4294967295))]) (wc := [(om, .inr (7, [.int 0, .int 0, .ref om1, .ref om2, .ref om3, .ref om4, .ref om5, .ref om6, .ref om7, .int 0, .ref om8, .ref om9, .ref om10, .ref om11, .int 0, .int 0, .ref om12, .ref om13, .ref om14, .ref om15, .int 0, .ref om16, .ref om17, .ref om18, .ref om19, .int 0, .ref om20, .ref om21, .ref om22, .ref om23, .ref om24, .ref om25, .ref om26, .int 0, .ref om27, .ref om28, .ref om29]))]) (wr := []) (rest := [.int fn_cx_fill]) hC hZ hl zc_L_83 (my_fill g om om1 om2 om3 om4 om5 om6 om7 om8 om9 om10 om11 om12 om13 om14 om15 om16 om17 om18 om19 om20 om21 om22 om23 om24 om25 om26 om27 om28 om29 (xs 1) (xs 2) (xs 3) (xs 4) ((((xs 5).toInt64) <<< ((32 : Int32).toInt64 &&& 63)) ||| (((xs 6).toInt64) &&& 4294967295))) [0] [] rfl rfl (by decide) (ci := 7) (q0 := 0) rfl rfl rfl rfl (Nat.le_of_ble_eq_true rfl) ⟨⟨Nat.le_of_ble_eq_true rfl, Nat.le_of_ble_eq_true rfl⟩, Nat.le_of_ble_eq_true rfl, Nat.le_of_ble_eq_true rfl⟩ dL_law_986 (fun r3 u4 H locs hp hZ => ?_)
  obtain rfl := hp
  have hZ : zz_Z g A s.heap [] H locs := hZ.left
  refine lv_icmp_eq (tgt := 1875) hx hb dL_law_989 (by decide) (fun c5 => ?_) (fun c => absurd (eq_fill _ _) c)
  exact law_tail hC hX hbl hAs hZ.2.2.1 (Nat.le_of_ble_eq_true rfl) (Nat.le_of_ble_eq_true rfl) (lv_sub hl [3, 0] rfl)
theorem zk_420 : Cond.methodLink RL 84 yX7_move ∈ zz_w := zz_in (List.mem_append_right _ (List.mem_append_right _ (List.mem_append_left _ (List.mem_of_getElem? (i := 180) (by decide +kernel))))) rfl
set_option maxRecDepth 20000 in
theorem zk_423 : Cond.code yX7_move cX7_move 7 (some .int) ∈ zz_w := zz_in (List.mem_append_right _ (List.mem_append_right _ (List.mem_append_left _ (List.mem_of_getElem? (i := 183) (rfl))))) rfl
theorem zk_421 : Cond.instanceMethod yX7_move ∈ zz_w := zz_in (List.mem_append_right _ (List.mem_append_right _ (List.mem_append_left _ (List.mem_of_getElem? (i := 181) (by decide +kernel))))) rfl
theorem zk_422 : Cond.selects RX7 yX7_move yX7_move ∈ zz_w := zz_in (List.mem_append_right _ (List.mem_append_right _ (List.mem_append_left _ (List.mem_of_getElem? (i := 182) (by decide +kernel))))) rfl
theorem zc_L_84 : zz_cV RL 84 yX7_move cX7_move 7 (some .int) 5 := ⟨⟨zk_420, zk_423, zk_1, by decide, by decide, by decide +kernel⟩, zk_421, zk_422⟩
theorem zk_989 : Cond.methodLink RL 87 yX8_move ∈ zz_w := zz_in (List.mem_append_right _ (List.mem_append_right _ (List.mem_append_right _ (List.mem_append_right _ (List.mem_append_right _ (List.mem_of_getElem? (i := 29) (by decide +kernel))))))) rfl
set_option maxRecDepth 20000 in
theorem zk_992 : Cond.code yX8_move cX8_move 8 (some .int) ∈ zz_w := zz_in (List.mem_append_right _ (List.mem_append_right _ (List.mem_append_right _ (List.mem_append_right _ (List.mem_append_right _ (List.mem_of_getElem? (i := 32) (rfl))))))) rfl
theorem zk_990 : Cond.instanceMethod yX8_move ∈ zz_w := zz_in (List.mem_append_right _ (List.mem_append_right _ (List.mem_append_right _ (List.mem_append_right _ (List.mem_append_right _ (List.mem_of_getElem? (i := 30) (by decide +kernel))))))) rfl
theorem zk_991 : Cond.selects RX8 yX8_move yX8_move ∈ zz_w := zz_in (List.mem_append_right _ (List.mem_append_right _ (List.mem_append_right _ (List.mem_append_right _ (List.mem_append_right _ (List.mem_of_getElem? (i := 31) (by decide +kernel))))))) rfl
theorem zc_L_87 : zz_cV RL 87 yX8_move cX8_move 8 (some .int) 5 := ⟨⟨zk_989, zk_992, zk_7, by decide, by decide, by decide +kernel⟩, zk_990, zk_991⟩
set_option maxHeartbeats 4000000 in
set_option maxRecDepth 100000 in
theorem law_c15 {p : Program} {l : Launch} {e : Env} {s : State} {m : MethodId} {below : List Frame} {meth : Method} {c : Code} {A : Nat → Prop} {H : Heap} {locs : List Loc} {ls : Array Slot} (g : zz_G) (b : Nat) (xs : Nat → Int32) (ox ox1 ox10 ox12 ox16 ox22 ox30 ox2 ox3 ox4 ox5 ox6 ox7 ox8 ox9 om om1 om2 om3 om4 om5 om6 om7 om8 om9 om10 om11 om12 om13 om14 om15 om16 om17 om18 om19 om20 om21 om22 om23 om24 om25 om26 om27 om28 om29 : Nat) (hC : zz_C p s m #[Value.ref b] meth c g RL code 4 ret) (hX : va_X b 9 xs s s.heap) (hbl : b < s.heap.size) (hAs : ∀ q, A q → s.heap.size ≤ q) (hZ : zz_Z g A s.heap [(ox, .inr (6, [.ref ox1, .ref ox10, .ref ox12, .ref ox16, .ref ox22, .ref ox30, .int 0, .int 0])), (ox1, .inr (5, [.int 0, .int 0, .ref ox2, .ref ox3, .ref ox4, .ref ox5, .ref ox6, .ref ox7, .ref ox8, .ref ox9])), (om, .inr (7, [.int 0, .int 0, .ref om1, .ref om2, .ref om3, .ref om4, .ref om5, .ref om6, .ref om7, .int 0, .ref om8, .ref om9, .ref om10, .ref om11, .int 0, .int 0, .ref om12, .ref om13, .ref om14, .ref om15, .int 0, .ref om16, .ref om17, .ref om18, .ref om19, .int 0, .ref om20, .ref om21, .ref om22, .ref om23, .ref om24, .ref om25, .ref om26, .int 0, .ref om27, .ref om28, .ref om29]))] H locs) (hl : lv_has ls 4 [(3, .int 0), (2, .ref om), (1, .ref ox), (0, .ref b)]) : W p l e room_1 s m #[Value.ref b] below meth c H locs 61 89631 (lw_Z below #[Value.ref b] s) (F0 m 994 ls []) := by
  obtain ⟨hx, hb, hml, hown, hts, hr, hlocks, hK⟩ := id hC
  have hbA : ¬ A b := fun q => absurd (hAs b q) (by omega)
  refine lv_aload_n hx hb dL_law_994 rfl (lv_at hl 2 rfl) ?_
  refine lv_aload_n hx hb dL_law_995 rfl (lv_at hl 3 rfl) ?_
  refine lv_iload_n hx hb dL_law_996 rfl (lv_at hl 0 rfl) ?_
  refine lv_iconst (v := 1) hx hb dL_law_997 (by decide) ?_
  refine lv_iadd hx hb dL_law_998 ?_
  refine zz_topi (v := 1) (by decide) ?_
  refine va_sld hx hb hX hbl hbA hZ.2.2.1 (by unfold vp_in; decide) dL_law_999 ?_
  rw [zl_c1]
  refine lv_aload_n hx hb dL_law_1000 rfl (lv_at hl 3 rfl) ?_
  refine lv_iload_n hx hb dL_law_1001 rfl (lv_at hl 0 rfl) ?_
  refine lv_iconst (v := 2) hx hb dL_law_1002 (by decide) ?_
  refine lv_iadd hx hb dL_law_1003 ?_
  refine zz_topi (v := 2) (by decide) ?_
  refine va_sld hx hb hX hbl hbA hZ.2.2.1 (by unfold vp_in; decide) dL_law_1004 ?_
  rw [zl_c2]
  refine lv_aload_n hx hb dL_law_1005 rfl (lv_at hl 3 rfl) ?_
  refine lv_iload_n hx hb dL_law_1006 rfl (lv_at hl 0 rfl) ?_
  refine lv_iconst (v := 3) hx hb dL_law_1007 (by decide) ?_
  refine lv_iadd hx hb dL_law_1008 ?_
  refine zz_topi (v := 3) (by decide) ?_
  refine va_sld hx hb hX hbl hbA hZ.2.2.1 (by unfold vp_in; decide) dL_law_1009 ?_
  rw [zl_c3]
  refine lv_aload_n hx hb dL_law_1010 rfl (lv_at hl 3 rfl) ?_
  refine lv_iload_n hx hb dL_law_1011 rfl (lv_at hl 0 rfl) ?_
  refine lv_iconst (v := 4) hx hb dL_law_1012 (by decide) ?_
  refine lv_iadd hx hb dL_law_1013 ?_
  refine zz_topi (v := 4) (by decide) ?_
  refine va_sld hx hb hX hbl hbA hZ.2.2.1 (by unfold vp_in; decide) dL_law_1014 ?_
  rw [zl_c4]
  refine lv_aload_n hx hb dL_law_1015 rfl (lv_at hl 3 rfl) ?_
  refine lv_iload_n hx hb dL_law_1016 rfl (lv_at hl 0 rfl) ?_
  refine lv_iconst (v := 5) hx hb dL_law_1017 (by decide) ?_
  refine lv_iadd hx hb dL_law_1018 ?_
  refine zz_topi (v := 5) (by decide) ?_
  refine va_sld hx hb hX hbl hbA hZ.2.2.1 (by unfold vp_in; decide) dL_law_1019 ?_
  rw [zl_c5]
  refine zz_iV (As := [.int (xs 1), .int (xs 2), .int (xs 3), .int (xs 4), .int (xs 5)]) (wc := [(ox, .inr (6, [.ref ox1, .ref ox10, .ref ox12, .ref ox16, .ref ox22, .ref ox30, .int 0, .int 0])), (ox1, .inr (5, [.int 0, .int 0, .ref ox2, .ref ox3, .ref ox4, .ref ox5, .ref ox6, .ref ox7, .ref ox8, .ref ox9]))]) (wr := [(om, .inr (7, [.int 0, .int 0, .ref om1, .ref om2, .ref om3, .ref om4, .ref om5, .ref om6, .ref om7, .int 0, .ref om8, .ref om9, .ref om10, .ref om11, .int 0, .int 0, .ref om12, .ref om13, .ref om14, .ref om15, .int 0, .ref om16, .ref om17, .ref om18, .ref om19, .int 0, .ref om20, .ref om21, .ref om22, .ref om23, .ref om24, .ref om25, .ref om26, .int 0, .ref om27, .ref om28, .ref om29]))]) (rest := []) hC hZ hl zc_L_84 (cx_move g ox ox1 ox10 ox12 ox16 ox22 ox30 ox2 ox3 ox4 ox5 ox6 ox7 ox8 ox9 (xs 1) (xs 2) (xs 3) (xs 4) (xs 5)) [0, 1] [2] rfl rfl (by decide) (ci := 6) (q0 := 0) rfl rfl rfl rfl (Nat.le_of_ble_eq_true rfl) ⟨⟨Nat.le_of_ble_eq_true rfl, Nat.le_of_ble_eq_true rfl⟩, Nat.le_of_ble_eq_true rfl, Nat.le_of_ble_eq_true rfl⟩ dL_law_1020 (fun r1 u2 H locs hp hZ => ?_)
  obtain rfl := hp
  have hZ : zz_Z g A s.heap [(om, .inr (7, [.int 0, .int 0, .ref om1, .ref om2, .ref om3, .ref om4, .ref om5, .ref om6, .ref om7, .int 0, .ref om8, .ref om9, .ref om10, .ref om11, .int 0, .int 0, .ref om12, .ref om13, .ref om14, .ref om15, .int 0, .ref om16, .ref om17, .ref om18, .ref om19, .int 0, .ref om20, .ref om21, .ref om22, .ref om23, .ref om24, .ref om25, .ref om26, .int 0, .ref om27, .ref om28, .ref om29]))] H locs := hZ.left
  refine lv_aload_n hx hb dL_law_1023 rfl (lv_at hl 1 rfl) ?_
  refine lv_aload_n hx hb dL_law_1024 rfl (lv_at hl 3 rfl) ?_
  refine lv_iload_n hx hb dL_law_1025 rfl (lv_at hl 0 rfl) ?_
  refine lv_iconst (v := 1) hx hb dL_law_1026 (by decide) ?_
  refine lv_iadd hx hb dL_law_1027 ?_
  refine zz_topi (v := 1) (by decide) ?_
  refine va_sld hx hb hX hbl hbA hZ.2.2.1 (by unfold vp_in; decide) dL_law_1028 ?_
  rw [zl_c1]
  refine lv_aload_n hx hb dL_law_1029 rfl (lv_at hl 3 rfl) ?_
  refine lv_iload_n hx hb dL_law_1030 rfl (lv_at hl 0 rfl) ?_
  refine lv_iconst (v := 2) hx hb dL_law_1031 (by decide) ?_
  refine lv_iadd hx hb dL_law_1032 ?_
  refine zz_topi (v := 2) (by decide) ?_
  refine va_sld hx hb hX hbl hbA hZ.2.2.1 (by unfold vp_in; decide) dL_law_1033 ?_
  rw [zl_c2]
  refine lv_aload_n hx hb dL_law_1034 rfl (lv_at hl 3 rfl) ?_
  refine lv_iload_n hx hb dL_law_1035 rfl (lv_at hl 0 rfl) ?_
  refine lv_iconst (v := 3) hx hb dL_law_1036 (by decide) ?_
  refine lv_iadd hx hb dL_law_1037 ?_
  refine zz_topi (v := 3) (by decide) ?_
  refine va_sld hx hb hX hbl hbA hZ.2.2.1 (by unfold vp_in; decide) dL_law_1038 ?_
  rw [zl_c3]
  refine lv_aload_n hx hb dL_law_1039 rfl (lv_at hl 3 rfl) ?_
  refine lv_iload_n hx hb dL_law_1040 rfl (lv_at hl 0 rfl) ?_
  refine lv_iconst (v := 4) hx hb dL_law_1041 (by decide) ?_
  refine lv_iadd hx hb dL_law_1042 ?_
  refine zz_topi (v := 4) (by decide) ?_
  refine va_sld hx hb hX hbl hbA hZ.2.2.1 (by unfold vp_in; decide) dL_law_1043 ?_
  rw [zl_c4]
  refine lv_aload_n hx hb dL_law_1044 rfl (lv_at hl 3 rfl) ?_
  refine lv_iload_n hx hb dL_law_1045 rfl (lv_at hl 0 rfl) ?_
  refine lv_iconst (v := 5) hx hb dL_law_1046 (by decide) ?_
  refine lv_iadd hx hb dL_law_1047 ?_
  refine zz_topi (v := 5) (by decide) ?_
  refine va_sld hx hb hX hbl hbA hZ.2.2.1 (by unfold vp_in; decide) dL_law_1048 ?_
  rw [zl_c5]
  refine zz_iV (As := [.int (xs 1), .int (xs 2), .int (xs 3), .int (xs 4), .int (xs 5)]) (wc := [(om, .inr (7, [.int 0, .int 0, .ref om1, .ref om2, .ref om3, .ref om4, .ref om5, .ref om6, .ref om7, .int 0, .ref om8, .ref om9, .ref om10, .ref om11, .int 0, .int 0, .ref om12, .ref om13, .ref om14, .ref om15, .int 0, .ref om16, .ref om17, .ref om18, .ref om19, .int 0, .ref om20, .ref om21, .ref om22, .ref om23, .ref om24, .ref om25, .ref om26, .int 0, .ref om27, .ref om28, .ref om29]))]) (wr := []) (rest := [.int fn_cx_move]) hC hZ hl zc_L_87 (my_move g om om1 om2 om3 om4 om5 om6 om7 om8 om9 om10 om11 om12 om13 om14 om15 om16 om17 om18 om19 om20 om21 om22 om23 om24 om25 om26 om27 om28 om29 (xs 1) (xs 2) (xs 3) (xs 4) (xs 5)) [0] [] rfl rfl (by decide) (ci := 7) (q0 := 0) rfl rfl rfl rfl (Nat.le_of_ble_eq_true rfl) ⟨⟨Nat.le_of_ble_eq_true rfl, Nat.le_of_ble_eq_true rfl⟩, Nat.le_of_ble_eq_true rfl, Nat.le_of_ble_eq_true rfl⟩ dL_law_1049 (fun r3 u4 H locs hp hZ => ?_)
  obtain rfl := hp
  have hZ : zz_Z g A s.heap [] H locs := hZ.left
  refine lv_icmp_eq (tgt := 1875) hx hb dL_law_1052 (by decide) (fun c5 => ?_) (fun c => absurd (eq_move _) c)
  exact law_tail hC hX hbl hAs hZ.2.2.1 (Nat.le_of_ble_eq_true rfl) (Nat.le_of_ble_eq_true rfl) (lv_sub hl [3, 0] rfl)
theorem zk_440 : Cond.methodLink RL 88 yX7_copy ∈ zz_w := zz_in (List.mem_append_right _ (List.mem_append_right _ (List.mem_append_left _ (List.mem_of_getElem? (i := 200) (by decide +kernel))))) rfl
set_option maxRecDepth 20000 in
theorem zk_443 : Cond.code yX7_copy cX7_copy 5 (some .int) ∈ zz_w := zz_in (List.mem_append_right _ (List.mem_append_right _ (List.mem_append_left _ (List.mem_of_getElem? (i := 203) (rfl))))) rfl
theorem zk_441 : Cond.instanceMethod yX7_copy ∈ zz_w := zz_in (List.mem_append_right _ (List.mem_append_right _ (List.mem_append_left _ (List.mem_of_getElem? (i := 201) (by decide +kernel))))) rfl
theorem zk_442 : Cond.selects RX7 yX7_copy yX7_copy ∈ zz_w := zz_in (List.mem_append_right _ (List.mem_append_right _ (List.mem_append_left _ (List.mem_of_getElem? (i := 202) (by decide +kernel))))) rfl
theorem zc_L_88 : zz_cV RL 88 yX7_copy cX7_copy 5 (some .int) 2 := ⟨⟨zk_440, zk_443, zk_1, by decide, by decide, by decide +kernel⟩, zk_441, zk_442⟩
theorem zk_993 : Cond.methodLink RL 91 yX8_copy ∈ zz_w := zz_in (List.mem_append_right _ (List.mem_append_right _ (List.mem_append_right _ (List.mem_append_right _ (List.mem_append_right _ (List.mem_of_getElem? (i := 33) (by decide +kernel))))))) rfl
set_option maxRecDepth 20000 in
theorem zk_996 : Cond.code yX8_copy cX8_copy 5 (some .int) ∈ zz_w := zz_in (List.mem_append_right _ (List.mem_append_right _ (List.mem_append_right _ (List.mem_append_right _ (List.mem_append_right _ (List.mem_of_getElem? (i := 36) (rfl))))))) rfl
theorem zk_994 : Cond.instanceMethod yX8_copy ∈ zz_w := zz_in (List.mem_append_right _ (List.mem_append_right _ (List.mem_append_right _ (List.mem_append_right _ (List.mem_append_right _ (List.mem_of_getElem? (i := 34) (by decide +kernel))))))) rfl
theorem zk_995 : Cond.selects RX8 yX8_copy yX8_copy ∈ zz_w := zz_in (List.mem_append_right _ (List.mem_append_right _ (List.mem_append_right _ (List.mem_append_right _ (List.mem_append_right _ (List.mem_of_getElem? (i := 35) (by decide +kernel))))))) rfl
theorem zc_L_91 : zz_cV RL 91 yX8_copy cX8_copy 5 (some .int) 2 := ⟨⟨zk_993, zk_996, zk_7, by decide, by decide, by decide +kernel⟩, zk_994, zk_995⟩
set_option maxHeartbeats 4000000 in
set_option maxRecDepth 100000 in
theorem law_c16 {p : Program} {l : Launch} {e : Env} {s : State} {m : MethodId} {below : List Frame} {meth : Method} {c : Code} {A : Nat → Prop} {H : Heap} {locs : List Loc} {ls : Array Slot} (g : zz_G) (b : Nat) (xs : Nat → Int32) (ox ox1 ox10 ox12 ox16 ox22 ox30 ox2 ox3 ox4 ox5 ox6 ox7 ox8 ox9 om om1 om2 om3 om4 om5 om6 om7 om8 om9 om10 om11 om12 om13 om14 om15 om16 om17 om18 om19 om20 om21 om22 om23 om24 om25 om26 om27 om28 om29 : Nat) (hC : zz_C p s m #[Value.ref b] meth c g RL code 4 ret) (hX : va_X b 9 xs s s.heap) (hbl : b < s.heap.size) (hAs : ∀ q, A q → s.heap.size ≤ q) (hZ : zz_Z g A s.heap [(ox, .inr (6, [.ref ox1, .ref ox10, .ref ox12, .ref ox16, .ref ox22, .ref ox30, .int 0, .int 0])), (ox1, .inr (5, [.int 0, .int 0, .ref ox2, .ref ox3, .ref ox4, .ref ox5, .ref ox6, .ref ox7, .ref ox8, .ref ox9])), (om, .inr (7, [.int 0, .int 0, .ref om1, .ref om2, .ref om3, .ref om4, .ref om5, .ref om6, .ref om7, .int 0, .ref om8, .ref om9, .ref om10, .ref om11, .int 0, .int 0, .ref om12, .ref om13, .ref om14, .ref om15, .int 0, .ref om16, .ref om17, .ref om18, .ref om19, .int 0, .ref om20, .ref om21, .ref om22, .ref om23, .ref om24, .ref om25, .ref om26, .int 0, .ref om27, .ref om28, .ref om29]))] H locs) (hl : lv_has ls 4 [(3, .int 0), (2, .ref om), (1, .ref ox), (0, .ref b)]) : W p l e room_1 s m #[Value.ref b] below meth c H locs 61 89631 (lw_Z below #[Value.ref b] s) (F0 m 1057 ls []) := by
  obtain ⟨hx, hb, hml, hown, hts, hr, hlocks, hK⟩ := id hC
  have hbA : ¬ A b := fun q => absurd (hAs b q) (by omega)
  refine lv_aload_n hx hb dL_law_1057 rfl (lv_at hl 2 rfl) ?_
  refine lv_aload_n hx hb dL_law_1058 rfl (lv_at hl 3 rfl) ?_
  refine lv_iload_n hx hb dL_law_1059 rfl (lv_at hl 0 rfl) ?_
  refine lv_iconst (v := 1) hx hb dL_law_1060 (by decide) ?_
  refine lv_iadd hx hb dL_law_1061 ?_
  refine zz_topi (v := 1) (by decide) ?_
  refine va_sld hx hb hX hbl hbA hZ.2.2.1 (by unfold vp_in; decide) dL_law_1062 ?_
  rw [zl_c1]
  refine lv_aload_n hx hb dL_law_1063 rfl (lv_at hl 3 rfl) ?_
  refine lv_iload_n hx hb dL_law_1064 rfl (lv_at hl 0 rfl) ?_
  refine lv_iconst (v := 2) hx hb dL_law_1065 (by decide) ?_
  refine lv_iadd hx hb dL_law_1066 ?_
  refine zz_topi (v := 2) (by decide) ?_
  refine va_sld hx hb hX hbl hbA hZ.2.2.1 (by unfold vp_in; decide) dL_law_1067 ?_
  rw [zl_c2]
  refine zz_iV (As := [.int (xs 1), .int (xs 2)]) (wc := [(ox, .inr (6, [.ref ox1, .ref ox10, .ref ox12, .ref ox16, .ref ox22, .ref ox30, .int 0, .int 0])), (ox1, .inr (5, [.int 0, .int 0, .ref ox2, .ref ox3, .ref ox4, .ref ox5, .ref ox6, .ref ox7, .ref ox8, .ref ox9]))]) (wr := [(om, .inr (7, [.int 0, .int 0, .ref om1, .ref om2, .ref om3, .ref om4, .ref om5, .ref om6, .ref om7, .int 0, .ref om8, .ref om9, .ref om10, .ref om11, .int 0, .int 0, .ref om12, .ref om13, .ref om14, .ref om15, .int 0, .ref om16, .ref om17, .ref om18, .ref om19, .int 0, .ref om20, .ref om21, .ref om22, .ref om23, .ref om24, .ref om25, .ref om26, .int 0, .ref om27, .ref om28, .ref om29]))]) (rest := []) hC hZ hl zc_L_88 (cx_copy g ox ox1 ox10 ox12 ox16 ox22 ox30 ox2 ox3 ox4 ox5 ox6 ox7 ox8 ox9 (xs 1) (xs 2)) [0, 1] [2] rfl rfl (by decide) (ci := 6) (q0 := 0) rfl rfl rfl rfl (Nat.le_of_ble_eq_true rfl) ⟨⟨Nat.le_of_ble_eq_true rfl, Nat.le_of_ble_eq_true rfl⟩, Nat.le_of_ble_eq_true rfl, Nat.le_of_ble_eq_true rfl⟩ dL_law_1068 (fun r1 u2 H locs hp hZ => ?_)
  obtain rfl := hp
  have hZ : zz_Z g A s.heap [(om, .inr (7, [.int 0, .int 0, .ref om1, .ref om2, .ref om3, .ref om4, .ref om5, .ref om6, .ref om7, .int 0, .ref om8, .ref om9, .ref om10, .ref om11, .int 0, .int 0, .ref om12, .ref om13, .ref om14, .ref om15, .int 0, .ref om16, .ref om17, .ref om18, .ref om19, .int 0, .ref om20, .ref om21, .ref om22, .ref om23, .ref om24, .ref om25, .ref om26, .int 0, .ref om27, .ref om28, .ref om29]))] H locs := hZ.left
  refine lv_aload_n hx hb dL_law_1071 rfl (lv_at hl 1 rfl) ?_
  refine lv_aload_n hx hb dL_law_1072 rfl (lv_at hl 3 rfl) ?_
  refine lv_iload_n hx hb dL_law_1073 rfl (lv_at hl 0 rfl) ?_
  refine lv_iconst (v := 1) hx hb dL_law_1074 (by decide) ?_
  refine lv_iadd hx hb dL_law_1075 ?_
  refine zz_topi (v := 1) (by decide) ?_
  refine va_sld hx hb hX hbl hbA hZ.2.2.1 (by unfold vp_in; decide) dL_law_1076 ?_
  rw [zl_c1]
  refine lv_aload_n hx hb dL_law_1077 rfl (lv_at hl 3 rfl) ?_
  refine lv_iload_n hx hb dL_law_1078 rfl (lv_at hl 0 rfl) ?_
  refine lv_iconst (v := 2) hx hb dL_law_1079 (by decide) ?_
  refine lv_iadd hx hb dL_law_1080 ?_
  refine zz_topi (v := 2) (by decide) ?_
  refine va_sld hx hb hX hbl hbA hZ.2.2.1 (by unfold vp_in; decide) dL_law_1081 ?_
  rw [zl_c2]
  refine zz_iV (As := [.int (xs 1), .int (xs 2)]) (wc := [(om, .inr (7, [.int 0, .int 0, .ref om1, .ref om2, .ref om3, .ref om4, .ref om5, .ref om6, .ref om7, .int 0, .ref om8, .ref om9, .ref om10, .ref om11, .int 0, .int 0, .ref om12, .ref om13, .ref om14, .ref om15, .int 0, .ref om16, .ref om17, .ref om18, .ref om19, .int 0, .ref om20, .ref om21, .ref om22, .ref om23, .ref om24, .ref om25, .ref om26, .int 0, .ref om27, .ref om28, .ref om29]))]) (wr := []) (rest := [.int fn_cx_copy]) hC hZ hl zc_L_91 (my_copy g om om1 om2 om3 om4 om5 om6 om7 om8 om9 om10 om11 om12 om13 om14 om15 om16 om17 om18 om19 om20 om21 om22 om23 om24 om25 om26 om27 om28 om29 (xs 1) (xs 2)) [0] [] rfl rfl (by decide) (ci := 7) (q0 := 0) rfl rfl rfl rfl (Nat.le_of_ble_eq_true rfl) ⟨⟨Nat.le_of_ble_eq_true rfl, Nat.le_of_ble_eq_true rfl⟩, Nat.le_of_ble_eq_true rfl, Nat.le_of_ble_eq_true rfl⟩ dL_law_1082 (fun r3 u4 H locs hp hZ => ?_)
  obtain rfl := hp
  have hZ : zz_Z g A s.heap [] H locs := hZ.left
  refine lv_icmp_eq (tgt := 1875) hx hb dL_law_1085 (by decide) (fun c5 => ?_) (fun c => absurd (rfl) c)
  exact law_tail hC hX hbl hAs hZ.2.2.1 (Nat.le_of_ble_eq_true rfl) (Nat.le_of_ble_eq_true rfl) (lv_sub hl [3, 0] rfl)
theorem zk_447 : Cond.methodLink RL 92 yX7_deep ∈ zz_w := zz_in (List.mem_append_right _ (List.mem_append_right _ (List.mem_append_left _ (List.mem_of_getElem? (i := 207) (by decide +kernel))))) rfl
set_option maxRecDepth 20000 in
theorem zk_450 : Cond.code yX7_deep cX7_deep 2 (some .int) ∈ zz_w := zz_in (List.mem_append_right _ (List.mem_append_right _ (List.mem_append_left _ (List.mem_of_getElem? (i := 210) (rfl))))) rfl
theorem zk_448 : Cond.instanceMethod yX7_deep ∈ zz_w := zz_in (List.mem_append_right _ (List.mem_append_right _ (List.mem_append_left _ (List.mem_of_getElem? (i := 208) (by decide +kernel))))) rfl
theorem zk_449 : Cond.selects RX7 yX7_deep yX7_deep ∈ zz_w := zz_in (List.mem_append_right _ (List.mem_append_right _ (List.mem_append_left _ (List.mem_of_getElem? (i := 209) (by decide +kernel))))) rfl
theorem zc_L_92 : zz_cV RL 92 yX7_deep cX7_deep 2 (some .int) 1 := ⟨⟨zk_447, zk_450, zk_1, by decide, by decide, by decide +kernel⟩, zk_448, zk_449⟩
theorem zk_997 : Cond.methodLink RL 96 yX8_deep ∈ zz_w := zz_in (List.mem_append_right _ (List.mem_append_right _ (List.mem_append_right _ (List.mem_append_right _ (List.mem_append_right _ (List.mem_of_getElem? (i := 37) (by decide +kernel))))))) rfl
set_option maxRecDepth 20000 in
theorem zk_1000 : Cond.code yX8_deep cX8_deep 12 (some .int) ∈ zz_w := zz_in (List.mem_append_right _ (List.mem_append_right _ (List.mem_append_right _ (List.mem_append_right _ (List.mem_append_right _ (List.mem_of_getElem? (i := 40) (rfl))))))) rfl
theorem zk_998 : Cond.instanceMethod yX8_deep ∈ zz_w := zz_in (List.mem_append_right _ (List.mem_append_right _ (List.mem_append_right _ (List.mem_append_right _ (List.mem_append_right _ (List.mem_of_getElem? (i := 38) (by decide +kernel))))))) rfl
theorem zk_999 : Cond.selects RX8 yX8_deep yX8_deep ∈ zz_w := zz_in (List.mem_append_right _ (List.mem_append_right _ (List.mem_append_right _ (List.mem_append_right _ (List.mem_append_right _ (List.mem_of_getElem? (i := 39) (by decide +kernel))))))) rfl
theorem zc_L_96 : zz_cV RL 96 yX8_deep cX8_deep 12 (some .int) 1 := ⟨⟨zk_997, zk_1000, zk_7, by decide, by decide, by decide +kernel⟩, zk_998, zk_999⟩
set_option maxHeartbeats 4000000 in
set_option maxRecDepth 100000 in
theorem law_c17 {p : Program} {l : Launch} {e : Env} {s : State} {m : MethodId} {below : List Frame} {meth : Method} {c : Code} {A : Nat → Prop} {H : Heap} {locs : List Loc} {ls : Array Slot} (g : zz_G) (b : Nat) (xs : Nat → Int32) (ox ox1 ox10 ox12 ox16 ox22 ox30 ox2 ox3 ox4 ox5 ox6 ox7 ox8 ox9 om om1 om2 om3 om4 om5 om6 om7 om8 om9 om10 om11 om12 om13 om14 om15 om16 om17 om18 om19 om20 om21 om22 om23 om24 om25 om26 om27 om28 om29 : Nat) (hC : zz_C p s m #[Value.ref b] meth c g RL code 4 ret) (hX : va_X b 9 xs s s.heap) (hbl : b < s.heap.size) (hAs : ∀ q, A q → s.heap.size ≤ q) (hZ : zz_Z g A s.heap [(ox, .inr (6, [.ref ox1, .ref ox10, .ref ox12, .ref ox16, .ref ox22, .ref ox30, .int 0, .int 0])), (ox1, .inr (5, [.int 0, .int 0, .ref ox2, .ref ox3, .ref ox4, .ref ox5, .ref ox6, .ref ox7, .ref ox8, .ref ox9])), (om, .inr (7, [.int 0, .int 0, .ref om1, .ref om2, .ref om3, .ref om4, .ref om5, .ref om6, .ref om7, .int 0, .ref om8, .ref om9, .ref om10, .ref om11, .int 0, .int 0, .ref om12, .ref om13, .ref om14, .ref om15, .int 0, .ref om16, .ref om17, .ref om18, .ref om19, .int 0, .ref om20, .ref om21, .ref om22, .ref om23, .ref om24, .ref om25, .ref om26, .int 0, .ref om27, .ref om28, .ref om29]))] H locs) (hl : lv_has ls 4 [(3, .int 0), (2, .ref om), (1, .ref ox), (0, .ref b)]) : W p l e room_1 s m #[Value.ref b] below meth c H locs 61 89631 (lw_Z below #[Value.ref b] s) (F0 m 1090 ls []) := by
  obtain ⟨hx, hb, hml, hown, hts, hr, hlocks, hK⟩ := id hC
  have hbA : ¬ A b := fun q => absurd (hAs b q) (by omega)
  refine lv_aload_n hx hb dL_law_1090 rfl (lv_at hl 2 rfl) ?_
  refine lv_aload_n hx hb dL_law_1091 rfl (lv_at hl 3 rfl) ?_
  refine lv_iload_n hx hb dL_law_1092 rfl (lv_at hl 0 rfl) ?_
  refine lv_iconst (v := 1) hx hb dL_law_1093 (by decide) ?_
  refine lv_iadd hx hb dL_law_1094 ?_
  refine zz_topi (v := 1) (by decide) ?_
  refine va_sld hx hb hX hbl hbA hZ.2.2.1 (by unfold vp_in; decide) dL_law_1095 ?_
  rw [zl_c1]
  refine zz_iV (As := [.int (xs 1)]) (wc := [(ox, .inr (6, [.ref ox1, .ref ox10, .ref ox12, .ref ox16, .ref ox22, .ref ox30, .int 0, .int 0])), (ox1, .inr (5, [.int 0, .int 0, .ref ox2, .ref ox3, .ref ox4, .ref ox5, .ref ox6, .ref ox7, .ref ox8, .ref ox9]))]) (wr := [(om, .inr (7, [.int 0, .int 0, .ref om1, .ref om2, .ref om3, .ref om4, .ref om5, .ref om6, .ref om7, .int 0, .ref om8, .ref om9, .ref om10, .ref om11, .int 0, .int 0, .ref om12, .ref om13, .ref om14, .ref om15, .int 0, .ref om16, .ref om17, .ref om18, .ref om19, .int 0, .ref om20, .ref om21, .ref om22, .ref om23, .ref om24, .ref om25, .ref om26, .int 0, .ref om27, .ref om28, .ref om29]))]) (rest := []) hC hZ hl zc_L_92 (cx_deep g ox ox1 ox10 ox12 ox16 ox22 ox30 ox2 ox3 ox4 ox5 ox6 ox7 ox8 ox9 (xs 1)) [0, 1] [2] rfl rfl (by decide) (ci := 6) (q0 := 0) rfl rfl rfl rfl (Nat.le_of_ble_eq_true rfl) ⟨⟨Nat.le_of_ble_eq_true rfl, Nat.le_of_ble_eq_true rfl⟩, Nat.le_of_ble_eq_true rfl, Nat.le_of_ble_eq_true rfl⟩ dL_law_1096 (fun r1 u2 H locs hp hZ => ?_)
  obtain rfl := hp
  have hZ : zz_Z g A s.heap [(om, .inr (7, [.int 0, .int 0, .ref om1, .ref om2, .ref om3, .ref om4, .ref om5, .ref om6, .ref om7, .int 0, .ref om8, .ref om9, .ref om10, .ref om11, .int 0, .int 0, .ref om12, .ref om13, .ref om14, .ref om15, .int 0, .ref om16, .ref om17, .ref om18, .ref om19, .int 0, .ref om20, .ref om21, .ref om22, .ref om23, .ref om24, .ref om25, .ref om26, .int 0, .ref om27, .ref om28, .ref om29]))] H locs := hZ.left
  refine lv_aload_n hx hb dL_law_1099 rfl (lv_at hl 1 rfl) ?_
  refine lv_aload_n hx hb dL_law_1100 rfl (lv_at hl 3 rfl) ?_
  refine lv_iload_n hx hb dL_law_1101 rfl (lv_at hl 0 rfl) ?_
  refine lv_iconst (v := 1) hx hb dL_law_1102 (by decide) ?_
  refine lv_iadd hx hb dL_law_1103 ?_
  refine zz_topi (v := 1) (by decide) ?_
  refine va_sld hx hb hX hbl hbA hZ.2.2.1 (by unfold vp_in; decide) dL_law_1104 ?_
  rw [zl_c1]
  refine zz_iV (As := [.int (xs 1)]) (wc := [(om, .inr (7, [.int 0, .int 0, .ref om1, .ref om2, .ref om3, .ref om4, .ref om5, .ref om6, .ref om7, .int 0, .ref om8, .ref om9, .ref om10, .ref om11, .int 0, .int 0, .ref om12, .ref om13, .ref om14, .ref om15, .int 0, .ref om16, .ref om17, .ref om18, .ref om19, .int 0, .ref om20, .ref om21, .ref om22, .ref om23, .ref om24, .ref om25, .ref om26, .int 0, .ref om27, .ref om28, .ref om29]))]) (wr := []) (rest := [.int fn_cx_deep]) hC hZ hl zc_L_96 (my_deep g om om1 om2 om3 om4 om5 om6 om7 om8 om9 om10 om11 om12 om13 om14 om15 om16 om17 om18 om19 om20 om21 om22 om23 om24 om25 om26 om27 om28 om29 (xs 1)) [0] [] rfl rfl (by decide) (ci := 7) (q0 := 0) rfl rfl rfl rfl (Nat.le_of_ble_eq_true rfl) ⟨⟨Nat.le_of_ble_eq_true rfl, Nat.le_of_ble_eq_true rfl⟩, Nat.le_of_ble_eq_true rfl, Nat.le_of_ble_eq_true rfl⟩ dL_law_1105 (fun r3 u4 H locs hp hZ => ?_)
  obtain rfl := hp
  have hZ : zz_Z g A s.heap [] H locs := hZ.left
  refine lv_icmp_eq (tgt := 1875) hx hb dL_law_1108 (by decide) (fun c5 => ?_) (fun c => absurd (rfl) c)
  exact law_tail hC hX hbl hAs hZ.2.2.1 (Nat.le_of_ble_eq_true rfl) (Nat.le_of_ble_eq_true rfl) (lv_sub hl [3, 0] rfl)
theorem zk_469 : Cond.methodLink RL 97 yX7_sort ∈ zz_w := zz_in (List.mem_append_right _ (List.mem_append_right _ (List.mem_append_left _ (List.mem_of_getElem? (i := 229) (by decide +kernel))))) rfl
set_option maxRecDepth 20000 in
theorem zk_472 : Cond.code yX7_sort cX7_sort 4 (some .int) ∈ zz_w := zz_in (List.mem_append_right _ (List.mem_append_right _ (List.mem_append_left _ (List.mem_of_getElem? (i := 232) (rfl))))) rfl
theorem zk_470 : Cond.instanceMethod yX7_sort ∈ zz_w := zz_in (List.mem_append_right _ (List.mem_append_right _ (List.mem_append_left _ (List.mem_of_getElem? (i := 230) (by decide +kernel))))) rfl
theorem zk_471 : Cond.selects RX7 yX7_sort yX7_sort ∈ zz_w := zz_in (List.mem_append_right _ (List.mem_append_right _ (List.mem_append_left _ (List.mem_of_getElem? (i := 231) (by decide +kernel))))) rfl
theorem zc_L_97 : zz_cV RL 97 yX7_sort cX7_sort 4 (some .int) 3 := ⟨⟨zk_469, zk_472, zk_1, by decide, by decide, by decide +kernel⟩, zk_470, zk_471⟩
theorem zk_1005 : Cond.methodLink RL 100 yX8_sort ∈ zz_w := zz_in (List.mem_append_right _ (List.mem_append_right _ (List.mem_append_right _ (List.mem_append_right _ (List.mem_append_right _ (List.mem_of_getElem? (i := 45) (by decide +kernel))))))) rfl
set_option maxRecDepth 20000 in
theorem zk_1008 : Cond.code yX8_sort cX8_sort 10 (some .int) ∈ zz_w := zz_in (List.mem_append_right _ (List.mem_append_right _ (List.mem_append_right _ (List.mem_append_right _ (List.mem_append_right _ (List.mem_of_getElem? (i := 48) (rfl))))))) rfl
theorem zk_1006 : Cond.instanceMethod yX8_sort ∈ zz_w := zz_in (List.mem_append_right _ (List.mem_append_right _ (List.mem_append_right _ (List.mem_append_right _ (List.mem_append_right _ (List.mem_of_getElem? (i := 46) (by decide +kernel))))))) rfl
theorem zk_1007 : Cond.selects RX8 yX8_sort yX8_sort ∈ zz_w := zz_in (List.mem_append_right _ (List.mem_append_right _ (List.mem_append_right _ (List.mem_append_right _ (List.mem_append_right _ (List.mem_of_getElem? (i := 47) (by decide +kernel))))))) rfl
theorem zc_L_100 : zz_cV RL 100 yX8_sort cX8_sort 10 (some .int) 3 := ⟨⟨zk_1005, zk_1008, zk_7, by decide, by decide, by decide +kernel⟩, zk_1006, zk_1007⟩
set_option maxHeartbeats 4000000 in
set_option maxRecDepth 100000 in
theorem law_c18 {p : Program} {l : Launch} {e : Env} {s : State} {m : MethodId} {below : List Frame} {meth : Method} {c : Code} {A : Nat → Prop} {H : Heap} {locs : List Loc} {ls : Array Slot} (g : zz_G) (b : Nat) (xs : Nat → Int32) (ox ox1 ox10 ox12 ox16 ox22 ox30 ox2 ox3 ox4 ox5 ox6 ox7 ox8 ox9 om om1 om2 om3 om4 om5 om6 om7 om8 om9 om10 om11 om12 om13 om14 om15 om16 om17 om18 om19 om20 om21 om22 om23 om24 om25 om26 om27 om28 om29 : Nat) (hC : zz_C p s m #[Value.ref b] meth c g RL code 4 ret) (hX : va_X b 9 xs s s.heap) (hbl : b < s.heap.size) (hAs : ∀ q, A q → s.heap.size ≤ q) (hZ : zz_Z g A s.heap [(ox, .inr (6, [.ref ox1, .ref ox10, .ref ox12, .ref ox16, .ref ox22, .ref ox30, .int 0, .int 0])), (ox1, .inr (5, [.int 0, .int 0, .ref ox2, .ref ox3, .ref ox4, .ref ox5, .ref ox6, .ref ox7, .ref ox8, .ref ox9])), (om, .inr (7, [.int 0, .int 0, .ref om1, .ref om2, .ref om3, .ref om4, .ref om5, .ref om6, .ref om7, .int 0, .ref om8, .ref om9, .ref om10, .ref om11, .int 0, .int 0, .ref om12, .ref om13, .ref om14, .ref om15, .int 0, .ref om16, .ref om17, .ref om18, .ref om19, .int 0, .ref om20, .ref om21, .ref om22, .ref om23, .ref om24, .ref om25, .ref om26, .int 0, .ref om27, .ref om28, .ref om29]))] H locs) (hl : lv_has ls 4 [(3, .int 0), (2, .ref om), (1, .ref ox), (0, .ref b)]) : W p l e room_1 s m #[Value.ref b] below meth c H locs 61 89631 (lw_Z below #[Value.ref b] s) (F0 m 1113 ls []) := by
  obtain ⟨hx, hb, hml, hown, hts, hr, hlocks, hK⟩ := id hC
  have hbA : ¬ A b := fun q => absurd (hAs b q) (by omega)
  refine lv_aload_n hx hb dL_law_1113 rfl (lv_at hl 2 rfl) ?_
  refine lv_aload_n hx hb dL_law_1114 rfl (lv_at hl 3 rfl) ?_
  refine lv_iload_n hx hb dL_law_1115 rfl (lv_at hl 0 rfl) ?_
  refine lv_iconst (v := 1) hx hb dL_law_1116 (by decide) ?_
  refine lv_iadd hx hb dL_law_1117 ?_
  refine zz_topi (v := 1) (by decide) ?_
  refine va_sld hx hb hX hbl hbA hZ.2.2.1 (by unfold vp_in; decide) dL_law_1118 ?_
  rw [zl_c1]
  refine lv_aload_n hx hb dL_law_1119 rfl (lv_at hl 3 rfl) ?_
  refine lv_iload_n hx hb dL_law_1120 rfl (lv_at hl 0 rfl) ?_
  refine lv_iconst (v := 2) hx hb dL_law_1121 (by decide) ?_
  refine lv_iadd hx hb dL_law_1122 ?_
  refine zz_topi (v := 2) (by decide) ?_
  refine va_sld hx hb hX hbl hbA hZ.2.2.1 (by unfold vp_in; decide) dL_law_1123 ?_
  rw [zl_c2]
  refine lv_aload_n hx hb dL_law_1124 rfl (lv_at hl 3 rfl) ?_
  refine lv_iload_n hx hb dL_law_1125 rfl (lv_at hl 0 rfl) ?_
  refine lv_iconst (v := 3) hx hb dL_law_1126 (by decide) ?_
  refine lv_iadd hx hb dL_law_1127 ?_
  refine zz_topi (v := 3) (by decide) ?_
  refine va_sld hx hb hX hbl hbA hZ.2.2.1 (by unfold vp_in; decide) dL_law_1128 ?_
  rw [zl_c3]
  refine zz_iV (As := [.int (xs 1), .int (xs 2), .int (xs 3)]) (wc := [(ox, .inr (6, [.ref ox1, .ref ox10, .ref ox12, .ref ox16, .ref ox22, .ref ox30, .int 0, .int 0])), (ox1, .inr (5, [.int 0, .int 0, .ref ox2, .ref ox3, .ref ox4, .ref ox5, .ref ox6, .ref ox7, .ref ox8, .ref ox9]))]) (wr := [(om, .inr (7, [.int 0, .int 0, .ref om1, .ref om2, .ref om3, .ref om4, .ref om5, .ref om6, .ref om7, .int 0, .ref om8, .ref om9, .ref om10, .ref om11, .int 0, .int 0, .ref om12, .ref om13, .ref om14, .ref om15, .int 0, .ref om16, .ref om17, .ref om18, .ref om19, .int 0, .ref om20, .ref om21, .ref om22, .ref om23, .ref om24, .ref om25, .ref om26, .int 0, .ref om27, .ref om28, .ref om29]))]) (rest := []) hC hZ hl zc_L_97 (cx_sort g ox ox1 ox10 ox12 ox16 ox22 ox30 ox2 ox3 ox4 ox5 ox6 ox7 ox8 ox9 (xs 1) (xs 2) (xs 3)) [0, 1] [2] rfl rfl (by decide) (ci := 6) (q0 := 0) rfl rfl rfl rfl (Nat.le_of_ble_eq_true rfl) ⟨⟨Nat.le_of_ble_eq_true rfl, Nat.le_of_ble_eq_true rfl⟩, Nat.le_of_ble_eq_true rfl, Nat.le_of_ble_eq_true rfl⟩ dL_law_1129 (fun r1 u2 H locs hp hZ => ?_)
  obtain rfl := hp
  have hZ : zz_Z g A s.heap [(om, .inr (7, [.int 0, .int 0, .ref om1, .ref om2, .ref om3, .ref om4, .ref om5, .ref om6, .ref om7, .int 0, .ref om8, .ref om9, .ref om10, .ref om11, .int 0, .int 0, .ref om12, .ref om13, .ref om14, .ref om15, .int 0, .ref om16, .ref om17, .ref om18, .ref om19, .int 0, .ref om20, .ref om21, .ref om22, .ref om23, .ref om24, .ref om25, .ref om26, .int 0, .ref om27, .ref om28, .ref om29]))] H locs := hZ.left
  refine lv_aload_n hx hb dL_law_1132 rfl (lv_at hl 1 rfl) ?_
  refine lv_aload_n hx hb dL_law_1133 rfl (lv_at hl 3 rfl) ?_
  refine lv_iload_n hx hb dL_law_1134 rfl (lv_at hl 0 rfl) ?_
  refine lv_iconst (v := 1) hx hb dL_law_1135 (by decide) ?_
  refine lv_iadd hx hb dL_law_1136 ?_
  refine zz_topi (v := 1) (by decide) ?_
  refine va_sld hx hb hX hbl hbA hZ.2.2.1 (by unfold vp_in; decide) dL_law_1137 ?_
  rw [zl_c1]
  refine lv_aload_n hx hb dL_law_1138 rfl (lv_at hl 3 rfl) ?_
  refine lv_iload_n hx hb dL_law_1139 rfl (lv_at hl 0 rfl) ?_
  refine lv_iconst (v := 2) hx hb dL_law_1140 (by decide) ?_
  refine lv_iadd hx hb dL_law_1141 ?_
  refine zz_topi (v := 2) (by decide) ?_
  refine va_sld hx hb hX hbl hbA hZ.2.2.1 (by unfold vp_in; decide) dL_law_1142 ?_
  rw [zl_c2]
  refine lv_aload_n hx hb dL_law_1143 rfl (lv_at hl 3 rfl) ?_
  refine lv_iload_n hx hb dL_law_1144 rfl (lv_at hl 0 rfl) ?_
  refine lv_iconst (v := 3) hx hb dL_law_1145 (by decide) ?_
  refine lv_iadd hx hb dL_law_1146 ?_
  refine zz_topi (v := 3) (by decide) ?_
  refine va_sld hx hb hX hbl hbA hZ.2.2.1 (by unfold vp_in; decide) dL_law_1147 ?_
  rw [zl_c3]
  refine zz_iV (As := [.int (xs 1), .int (xs 2), .int (xs 3)]) (wc := [(om, .inr (7, [.int 0, .int 0, .ref om1, .ref om2, .ref om3, .ref om4, .ref om5, .ref om6, .ref om7, .int 0, .ref om8, .ref om9, .ref om10, .ref om11, .int 0, .int 0, .ref om12, .ref om13, .ref om14, .ref om15, .int 0, .ref om16, .ref om17, .ref om18, .ref om19, .int 0, .ref om20, .ref om21, .ref om22, .ref om23, .ref om24, .ref om25, .ref om26, .int 0, .ref om27, .ref om28, .ref om29]))]) (wr := []) (rest := [.int fn_cx_sort]) hC hZ hl zc_L_100 (my_sort g om om1 om2 om3 om4 om5 om6 om7 om8 om9 om10 om11 om12 om13 om14 om15 om16 om17 om18 om19 om20 om21 om22 om23 om24 om25 om26 om27 om28 om29 (xs 1) (xs 2) (xs 3)) [0] [] rfl rfl (by decide) (ci := 7) (q0 := 0) rfl rfl rfl rfl (Nat.le_of_ble_eq_true rfl) ⟨⟨Nat.le_of_ble_eq_true rfl, Nat.le_of_ble_eq_true rfl⟩, Nat.le_of_ble_eq_true rfl, Nat.le_of_ble_eq_true rfl⟩ dL_law_1148 (fun r3 u4 H locs hp hZ => ?_)
  obtain rfl := hp
  have hZ : zz_Z g A s.heap [] H locs := hZ.left
  refine lv_icmp_eq (tgt := 1875) hx hb dL_law_1151 (by decide) (fun c5 => ?_) (fun c => absurd (eq_sort _ _) c)
  exact law_tail hC hX hbl hAs hZ.2.2.1 (Nat.le_of_ble_eq_true rfl) (Nat.le_of_ble_eq_true rfl) (lv_sub hl [3, 0] rfl)
theorem zk_485 : Cond.methodLink RL 101 yX7_search ∈ zz_w := zz_in (List.mem_append_right _ (List.mem_append_right _ (List.mem_append_right _ (List.mem_append_left _ (List.mem_of_getElem? (i := 5) (by decide +kernel)))))) rfl
set_option maxRecDepth 20000 in
theorem zk_488 : Cond.code yX7_search cX7_search 5 (some .int) ∈ zz_w := zz_in (List.mem_append_right _ (List.mem_append_right _ (List.mem_append_right _ (List.mem_append_left _ (List.mem_of_getElem? (i := 8) (rfl)))))) rfl
theorem zk_486 : Cond.instanceMethod yX7_search ∈ zz_w := zz_in (List.mem_append_right _ (List.mem_append_right _ (List.mem_append_right _ (List.mem_append_left _ (List.mem_of_getElem? (i := 6) (by decide +kernel)))))) rfl
theorem zk_487 : Cond.selects RX7 yX7_search yX7_search ∈ zz_w := zz_in (List.mem_append_right _ (List.mem_append_right _ (List.mem_append_right _ (List.mem_append_left _ (List.mem_of_getElem? (i := 7) (by decide +kernel)))))) rfl
theorem zc_L_101 : zz_cV RL 101 yX7_search cX7_search 5 (some .int) 2 := ⟨⟨zk_485, zk_488, zk_1, by decide, by decide, by decide +kernel⟩, zk_486, zk_487⟩
theorem zk_1012 : Cond.methodLink RL 105 yX8_search ∈ zz_w := zz_in (List.mem_append_right _ (List.mem_append_right _ (List.mem_append_right _ (List.mem_append_right _ (List.mem_append_right _ (List.mem_of_getElem? (i := 52) (by decide +kernel))))))) rfl
set_option maxRecDepth 20000 in
theorem zk_1015 : Cond.code yX8_search cX8_search 12 (some .int) ∈ zz_w := zz_in (List.mem_append_right _ (List.mem_append_right _ (List.mem_append_right _ (List.mem_append_right _ (List.mem_append_right _ (List.mem_of_getElem? (i := 55) (rfl))))))) rfl
theorem zk_1013 : Cond.instanceMethod yX8_search ∈ zz_w := zz_in (List.mem_append_right _ (List.mem_append_right _ (List.mem_append_right _ (List.mem_append_right _ (List.mem_append_right _ (List.mem_of_getElem? (i := 53) (by decide +kernel))))))) rfl
theorem zk_1014 : Cond.selects RX8 yX8_search yX8_search ∈ zz_w := zz_in (List.mem_append_right _ (List.mem_append_right _ (List.mem_append_right _ (List.mem_append_right _ (List.mem_append_right _ (List.mem_of_getElem? (i := 54) (by decide +kernel))))))) rfl
theorem zc_L_105 : zz_cV RL 105 yX8_search cX8_search 12 (some .int) 2 := ⟨⟨zk_1012, zk_1015, zk_7, by decide, by decide, by decide +kernel⟩, zk_1013, zk_1014⟩
set_option maxHeartbeats 4000000 in
set_option maxRecDepth 100000 in
theorem law_c19 {p : Program} {l : Launch} {e : Env} {s : State} {m : MethodId} {below : List Frame} {meth : Method} {c : Code} {A : Nat → Prop} {H : Heap} {locs : List Loc} {ls : Array Slot} (g : zz_G) (b : Nat) (xs : Nat → Int32) (ox ox1 ox10 ox12 ox16 ox22 ox30 ox2 ox3 ox4 ox5 ox6 ox7 ox8 ox9 om om1 om2 om3 om4 om5 om6 om7 om8 om9 om10 om11 om12 om13 om14 om15 om16 om17 om18 om19 om20 om21 om22 om23 om24 om25 om26 om27 om28 om29 : Nat) (hC : zz_C p s m #[Value.ref b] meth c g RL code 4 ret) (hX : va_X b 9 xs s s.heap) (hbl : b < s.heap.size) (hAs : ∀ q, A q → s.heap.size ≤ q) (hZ : zz_Z g A s.heap [(ox, .inr (6, [.ref ox1, .ref ox10, .ref ox12, .ref ox16, .ref ox22, .ref ox30, .int 0, .int 0])), (ox1, .inr (5, [.int 0, .int 0, .ref ox2, .ref ox3, .ref ox4, .ref ox5, .ref ox6, .ref ox7, .ref ox8, .ref ox9])), (om, .inr (7, [.int 0, .int 0, .ref om1, .ref om2, .ref om3, .ref om4, .ref om5, .ref om6, .ref om7, .int 0, .ref om8, .ref om9, .ref om10, .ref om11, .int 0, .int 0, .ref om12, .ref om13, .ref om14, .ref om15, .int 0, .ref om16, .ref om17, .ref om18, .ref om19, .int 0, .ref om20, .ref om21, .ref om22, .ref om23, .ref om24, .ref om25, .ref om26, .int 0, .ref om27, .ref om28, .ref om29]))] H locs) (hl : lv_has ls 4 [(3, .int 0), (2, .ref om), (1, .ref ox), (0, .ref b)]) : W p l e room_1 s m #[Value.ref b] below meth c H locs 61 89631 (lw_Z below #[Value.ref b] s) (F0 m 1156 ls []) := by
  obtain ⟨hx, hb, hml, hown, hts, hr, hlocks, hK⟩ := id hC
  have hbA : ¬ A b := fun q => absurd (hAs b q) (by omega)
  refine lv_aload_n hx hb dL_law_1156 rfl (lv_at hl 2 rfl) ?_
  refine lv_aload_n hx hb dL_law_1157 rfl (lv_at hl 3 rfl) ?_
  refine lv_iload_n hx hb dL_law_1158 rfl (lv_at hl 0 rfl) ?_
  refine lv_iconst (v := 1) hx hb dL_law_1159 (by decide) ?_
  refine lv_iadd hx hb dL_law_1160 ?_
  refine zz_topi (v := 1) (by decide) ?_
  refine va_sld hx hb hX hbl hbA hZ.2.2.1 (by unfold vp_in; decide) dL_law_1161 ?_
  rw [zl_c1]
  refine lv_aload_n hx hb dL_law_1162 rfl (lv_at hl 3 rfl) ?_
  refine lv_iload_n hx hb dL_law_1163 rfl (lv_at hl 0 rfl) ?_
  refine lv_iconst (v := 2) hx hb dL_law_1164 (by decide) ?_
  refine lv_iadd hx hb dL_law_1165 ?_
  refine zz_topi (v := 2) (by decide) ?_
  refine va_sld hx hb hX hbl hbA hZ.2.2.1 (by unfold vp_in; decide) dL_law_1166 ?_
  rw [zl_c2]
  refine lv_i2l hx hb dL_law_1167 rfl ?_
  refine lv_bipush (v := 32) hx hb dL_law_1168 (by decide) ?_
  refine lv_lshl hx hb dL_law_1170 rfl ?_
  refine lv_aload_n hx hb dL_law_1171 rfl (lv_at hl 3 rfl) ?_
  refine lv_iload_n hx hb dL_law_1172 rfl (lv_at hl 0 rfl) ?_
  refine lv_iconst (v := 3) hx hb dL_law_1173 (by decide) ?_
  refine lv_iadd hx hb dL_law_1174 ?_
  refine zz_topi (v := 3) (by decide) ?_
  refine va_sld hx hb hX hbl hbA hZ.2.2.1 (by unfold vp_in; decide) dL_law_1175 ?_
  rw [zl_c3]
  refine lv_i2l hx hb dL_law_1176 rfl ?_
  refine lv_ldc2 hx hb hown (hts _ zk_1133) dL_law_1177 ?_
  refine lv_land hx hb dL_law_1180 ?_
  refine lv_lor hx hb dL_law_1181 ?_
  refine zz_iV (As := [.int (xs 1), .long ((((xs 2).toInt64) <<< ((32 : Int32).toInt64 &&& 63)) ||| (((xs 3).toInt64) &&& 4294967295))]) (wc := [(ox, .inr (6, [.ref ox1, .ref ox10, .ref ox12, .ref ox16, .ref ox22, .ref ox30, .int 0, .int 0])), (ox1, .inr (5, [.int 0, .int 0, .ref ox2, .ref ox3, .ref ox4, .ref ox5, .ref ox6, .ref ox7, .ref ox8, .ref ox9]))]) (wr := [(om, .inr (7, [.int 0, .int 0, .ref om1, .ref om2, .ref om3, .ref om4, .ref om5, .ref om6, .ref om7, .int 0, .ref om8, .ref om9, .ref om10, .ref om11, .int 0, .int 0, .ref om12, .ref om13, .ref om14, .ref om15, .int 0, .ref om16, .ref om17, .ref om18, .ref om19, .int 0, .ref om20, .ref om21, .ref om22, .ref om23, .ref om24, .ref om25, .ref om26, .int 0, .ref om27, .ref om28, .ref om29]))]) (rest := []) hC hZ hl zc_L_101 (cx_search g ox ox1 ox10 ox12 ox16 ox22 ox30 ox2 ox3 ox4 ox5 ox6 ox7 ox8 ox9 (xs 1) ((((xs 2).toInt64) <<< ((32 : Int32).toInt64 &&& 63)) ||| (((xs 3).toInt64) &&& 4294967295))) [0, 1] [2] rfl rfl (by decide) (ci := 6) (q0 := 0) rfl rfl rfl rfl (Nat.le_of_ble_eq_true rfl) ⟨⟨Nat.le_of_ble_eq_true rfl, Nat.le_of_ble_eq_true rfl⟩, Nat.le_of_ble_eq_true rfl, Nat.le_of_ble_eq_true rfl⟩ dL_law_1182 (fun r1 u2 H locs hp hZ => ?_)
  obtain rfl := hp
  have hZ : zz_Z g A s.heap [(om, .inr (7, [.int 0, .int 0, .ref om1, .ref om2, .ref om3, .ref om4, .ref om5, .ref om6, .ref om7, .int 0, .ref om8, .ref om9, .ref om10, .ref om11, .int 0, .int 0, .ref om12, .ref om13, .ref om14, .ref om15, .int 0, .ref om16, .ref om17, .ref om18, .ref om19, .int 0, .ref om20, .ref om21, .ref om22, .ref om23, .ref om24, .ref om25, .ref om26, .int 0, .ref om27, .ref om28, .ref om29]))] H locs := hZ.left
  refine lv_aload_n hx hb dL_law_1185 rfl (lv_at hl 1 rfl) ?_
  refine lv_aload_n hx hb dL_law_1186 rfl (lv_at hl 3 rfl) ?_
  refine lv_iload_n hx hb dL_law_1187 rfl (lv_at hl 0 rfl) ?_
  refine lv_iconst (v := 1) hx hb dL_law_1188 (by decide) ?_
  refine lv_iadd hx hb dL_law_1189 ?_
  refine zz_topi (v := 1) (by decide) ?_
  refine va_sld hx hb hX hbl hbA hZ.2.2.1 (by unfold vp_in; decide) dL_law_1190 ?_
  rw [zl_c1]
  refine lv_aload_n hx hb dL_law_1191 rfl (lv_at hl 3 rfl) ?_
  refine lv_iload_n hx hb dL_law_1192 rfl (lv_at hl 0 rfl) ?_
  refine lv_iconst (v := 2) hx hb dL_law_1193 (by decide) ?_
  refine lv_iadd hx hb dL_law_1194 ?_
  refine zz_topi (v := 2) (by decide) ?_
  refine va_sld hx hb hX hbl hbA hZ.2.2.1 (by unfold vp_in; decide) dL_law_1195 ?_
  rw [zl_c2]
  refine lv_i2l hx hb dL_law_1196 rfl ?_
  refine lv_bipush (v := 32) hx hb dL_law_1197 (by decide) ?_
  refine lv_lshl hx hb dL_law_1199 rfl ?_
  refine lv_aload_n hx hb dL_law_1200 rfl (lv_at hl 3 rfl) ?_
  refine lv_iload_n hx hb dL_law_1201 rfl (lv_at hl 0 rfl) ?_
  refine lv_iconst (v := 3) hx hb dL_law_1202 (by decide) ?_
  refine lv_iadd hx hb dL_law_1203 ?_
  refine zz_topi (v := 3) (by decide) ?_
  refine va_sld hx hb hX hbl hbA hZ.2.2.1 (by unfold vp_in; decide) dL_law_1204 ?_
  rw [zl_c3]
  refine lv_i2l hx hb dL_law_1205 rfl ?_
  refine lv_ldc2 hx hb hown (hts _ zk_1133) dL_law_1206 ?_
  refine lv_land hx hb dL_law_1209 ?_
  refine lv_lor hx hb dL_law_1210 ?_
  refine zz_iV (As := [.int (xs 1), .long ((((xs 2).toInt64) <<< ((32 : Int32).toInt64 &&& 63)) ||| (((xs 3).toInt64) &&& 4294967295))]) (wc := [(om, .inr (7, [.int 0, .int 0, .ref om1, .ref om2, .ref om3, .ref om4, .ref om5, .ref om6, .ref om7, .int 0, .ref om8, .ref om9, .ref om10, .ref om11, .int 0, .int 0, .ref om12, .ref om13, .ref om14, .ref om15, .int 0, .ref om16, .ref om17, .ref om18, .ref om19, .int 0, .ref om20, .ref om21, .ref om22, .ref om23, .ref om24, .ref om25, .ref om26, .int 0, .ref om27, .ref om28, .ref om29]))]) (wr := []) (rest := [.int fn_cx_search]) hC hZ hl zc_L_105 (my_search g om om1 om2 om3 om4 om5 om6 om7 om8 om9 om10 om11 om12 om13 om14 om15 om16 om17 om18 om19 om20 om21 om22 om23 om24 om25 om26 om27 om28 om29 (xs 1) ((((xs 2).toInt64) <<< ((32 : Int32).toInt64 &&& 63)) ||| (((xs 3).toInt64) &&& 4294967295))) [0] [] rfl rfl (by decide) (ci := 7) (q0 := 0) rfl rfl rfl rfl (Nat.le_of_ble_eq_true rfl) ⟨⟨Nat.le_of_ble_eq_true rfl, Nat.le_of_ble_eq_true rfl⟩, Nat.le_of_ble_eq_true rfl, Nat.le_of_ble_eq_true rfl⟩ dL_law_1211 (fun r3 u4 H locs hp hZ => ?_)
  obtain rfl := hp
  have hZ : zz_Z g A s.heap [] H locs := hZ.left
  refine lv_icmp_eq (tgt := 1875) hx hb dL_law_1214 (by decide) (fun c5 => ?_) (fun c => absurd (rfl) c)
  exact law_tail hC hX hbl hAs hZ.2.2.1 (Nat.le_of_ble_eq_true rfl) (Nat.le_of_ble_eq_true rfl) (lv_sub hl [3, 0] rfl)
theorem zk_493 : Cond.methodLink RL 106 yX7_same ∈ zz_w := zz_in (List.mem_append_right _ (List.mem_append_right _ (List.mem_append_right _ (List.mem_append_left _ (List.mem_of_getElem? (i := 13) (by decide +kernel)))))) rfl
set_option maxRecDepth 20000 in
theorem zk_496 : Cond.code yX7_same cX7_same 3 (some .int) ∈ zz_w := zz_in (List.mem_append_right _ (List.mem_append_right _ (List.mem_append_right _ (List.mem_append_left _ (List.mem_of_getElem? (i := 16) (rfl)))))) rfl
theorem zk_494 : Cond.instanceMethod yX7_same ∈ zz_w := zz_in (List.mem_append_right _ (List.mem_append_right _ (List.mem_append_right _ (List.mem_append_left _ (List.mem_of_getElem? (i := 14) (by decide +kernel)))))) rfl
theorem zk_495 : Cond.selects RX7 yX7_same yX7_same ∈ zz_w := zz_in (List.mem_append_right _ (List.mem_append_right _ (List.mem_append_right _ (List.mem_append_left _ (List.mem_of_getElem? (i := 15) (by decide +kernel)))))) rfl
theorem zc_L_106 : zz_cV RL 106 yX7_same cX7_same 3 (some .int) 2 := ⟨⟨zk_493, zk_496, zk_1, by decide, by decide, by decide +kernel⟩, zk_494, zk_495⟩
theorem zk_1016 : Cond.methodLink RL 109 yX8_same ∈ zz_w := zz_in (List.mem_append_right _ (List.mem_append_right _ (List.mem_append_right _ (List.mem_append_right _ (List.mem_append_right _ (List.mem_of_getElem? (i := 56) (by decide +kernel))))))) rfl
set_option maxRecDepth 20000 in
theorem zk_1019 : Cond.code yX8_same cX8_same 6 (some .int) ∈ zz_w := zz_in (List.mem_append_right _ (List.mem_append_right _ (List.mem_append_right _ (List.mem_append_right _ (List.mem_append_right _ (List.mem_of_getElem? (i := 59) (rfl))))))) rfl
theorem zk_1017 : Cond.instanceMethod yX8_same ∈ zz_w := zz_in (List.mem_append_right _ (List.mem_append_right _ (List.mem_append_right _ (List.mem_append_right _ (List.mem_append_right _ (List.mem_of_getElem? (i := 57) (by decide +kernel))))))) rfl
theorem zk_1018 : Cond.selects RX8 yX8_same yX8_same ∈ zz_w := zz_in (List.mem_append_right _ (List.mem_append_right _ (List.mem_append_right _ (List.mem_append_right _ (List.mem_append_right _ (List.mem_of_getElem? (i := 58) (by decide +kernel))))))) rfl
theorem zc_L_109 : zz_cV RL 109 yX8_same cX8_same 6 (some .int) 2 := ⟨⟨zk_1016, zk_1019, zk_7, by decide, by decide, by decide +kernel⟩, zk_1017, zk_1018⟩
set_option maxHeartbeats 4000000 in
set_option maxRecDepth 100000 in
theorem law_c20 {p : Program} {l : Launch} {e : Env} {s : State} {m : MethodId} {below : List Frame} {meth : Method} {c : Code} {A : Nat → Prop} {H : Heap} {locs : List Loc} {ls : Array Slot} (g : zz_G) (b : Nat) (xs : Nat → Int32) (ox ox1 ox10 ox12 ox16 ox22 ox30 ox2 ox3 ox4 ox5 ox6 ox7 ox8 ox9 om om1 om2 om3 om4 om5 om6 om7 om8 om9 om10 om11 om12 om13 om14 om15 om16 om17 om18 om19 om20 om21 om22 om23 om24 om25 om26 om27 om28 om29 : Nat) (hC : zz_C p s m #[Value.ref b] meth c g RL code 4 ret) (hX : va_X b 9 xs s s.heap) (hbl : b < s.heap.size) (hAs : ∀ q, A q → s.heap.size ≤ q) (hZ : zz_Z g A s.heap [(ox, .inr (6, [.ref ox1, .ref ox10, .ref ox12, .ref ox16, .ref ox22, .ref ox30, .int 0, .int 0])), (ox1, .inr (5, [.int 0, .int 0, .ref ox2, .ref ox3, .ref ox4, .ref ox5, .ref ox6, .ref ox7, .ref ox8, .ref ox9])), (om, .inr (7, [.int 0, .int 0, .ref om1, .ref om2, .ref om3, .ref om4, .ref om5, .ref om6, .ref om7, .int 0, .ref om8, .ref om9, .ref om10, .ref om11, .int 0, .int 0, .ref om12, .ref om13, .ref om14, .ref om15, .int 0, .ref om16, .ref om17, .ref om18, .ref om19, .int 0, .ref om20, .ref om21, .ref om22, .ref om23, .ref om24, .ref om25, .ref om26, .int 0, .ref om27, .ref om28, .ref om29]))] H locs) (hl : lv_has ls 4 [(3, .int 0), (2, .ref om), (1, .ref ox), (0, .ref b)]) : W p l e room_1 s m #[Value.ref b] below meth c H locs 61 89631 (lw_Z below #[Value.ref b] s) (F0 m 1219 ls []) := by
  obtain ⟨hx, hb, hml, hown, hts, hr, hlocks, hK⟩ := id hC
  have hbA : ¬ A b := fun q => absurd (hAs b q) (by omega)
  refine lv_aload_n hx hb dL_law_1219 rfl (lv_at hl 2 rfl) ?_
  refine lv_aload_n hx hb dL_law_1220 rfl (lv_at hl 3 rfl) ?_
  refine lv_iload_n hx hb dL_law_1221 rfl (lv_at hl 0 rfl) ?_
  refine lv_iconst (v := 1) hx hb dL_law_1222 (by decide) ?_
  refine lv_iadd hx hb dL_law_1223 ?_
  refine zz_topi (v := 1) (by decide) ?_
  refine va_sld hx hb hX hbl hbA hZ.2.2.1 (by unfold vp_in; decide) dL_law_1224 ?_
  rw [zl_c1]
  refine lv_aload_n hx hb dL_law_1225 rfl (lv_at hl 3 rfl) ?_
  refine lv_iload_n hx hb dL_law_1226 rfl (lv_at hl 0 rfl) ?_
  refine lv_iconst (v := 2) hx hb dL_law_1227 (by decide) ?_
  refine lv_iadd hx hb dL_law_1228 ?_
  refine zz_topi (v := 2) (by decide) ?_
  refine va_sld hx hb hX hbl hbA hZ.2.2.1 (by unfold vp_in; decide) dL_law_1229 ?_
  rw [zl_c2]
  refine zz_iV (As := [.int (xs 1), .int (xs 2)]) (wc := [(ox, .inr (6, [.ref ox1, .ref ox10, .ref ox12, .ref ox16, .ref ox22, .ref ox30, .int 0, .int 0])), (ox1, .inr (5, [.int 0, .int 0, .ref ox2, .ref ox3, .ref ox4, .ref ox5, .ref ox6, .ref ox7, .ref ox8, .ref ox9]))]) (wr := [(om, .inr (7, [.int 0, .int 0, .ref om1, .ref om2, .ref om3, .ref om4, .ref om5, .ref om6, .ref om7, .int 0, .ref om8, .ref om9, .ref om10, .ref om11, .int 0, .int 0, .ref om12, .ref om13, .ref om14, .ref om15, .int 0, .ref om16, .ref om17, .ref om18, .ref om19, .int 0, .ref om20, .ref om21, .ref om22, .ref om23, .ref om24, .ref om25, .ref om26, .int 0, .ref om27, .ref om28, .ref om29]))]) (rest := []) hC hZ hl zc_L_106 (cx_same g ox ox1 ox10 ox12 ox16 ox22 ox30 ox2 ox3 ox4 ox5 ox6 ox7 ox8 ox9 (xs 1) (xs 2)) [0, 1] [2] rfl rfl (by decide) (ci := 6) (q0 := 0) rfl rfl rfl rfl (Nat.le_of_ble_eq_true rfl) ⟨⟨Nat.le_of_ble_eq_true rfl, Nat.le_of_ble_eq_true rfl⟩, Nat.le_of_ble_eq_true rfl, Nat.le_of_ble_eq_true rfl⟩ dL_law_1230 (fun r1 u2 H locs hp hZ => ?_)
  obtain rfl := hp
  have hZ : zz_Z g A s.heap [(om, .inr (7, [.int 0, .int 0, .ref om1, .ref om2, .ref om3, .ref om4, .ref om5, .ref om6, .ref om7, .int 0, .ref om8, .ref om9, .ref om10, .ref om11, .int 0, .int 0, .ref om12, .ref om13, .ref om14, .ref om15, .int 0, .ref om16, .ref om17, .ref om18, .ref om19, .int 0, .ref om20, .ref om21, .ref om22, .ref om23, .ref om24, .ref om25, .ref om26, .int 0, .ref om27, .ref om28, .ref om29]))] H locs := hZ.left
  refine lv_aload_n hx hb dL_law_1233 rfl (lv_at hl 1 rfl) ?_
  refine lv_aload_n hx hb dL_law_1234 rfl (lv_at hl 3 rfl) ?_
  refine lv_iload_n hx hb dL_law_1235 rfl (lv_at hl 0 rfl) ?_
  refine lv_iconst (v := 1) hx hb dL_law_1236 (by decide) ?_
  refine lv_iadd hx hb dL_law_1237 ?_
  refine zz_topi (v := 1) (by decide) ?_
  refine va_sld hx hb hX hbl hbA hZ.2.2.1 (by unfold vp_in; decide) dL_law_1238 ?_
  rw [zl_c1]
  refine lv_aload_n hx hb dL_law_1239 rfl (lv_at hl 3 rfl) ?_
  refine lv_iload_n hx hb dL_law_1240 rfl (lv_at hl 0 rfl) ?_
  refine lv_iconst (v := 2) hx hb dL_law_1241 (by decide) ?_
  refine lv_iadd hx hb dL_law_1242 ?_
  refine zz_topi (v := 2) (by decide) ?_
  refine va_sld hx hb hX hbl hbA hZ.2.2.1 (by unfold vp_in; decide) dL_law_1243 ?_
  rw [zl_c2]
  refine zz_iV (As := [.int (xs 1), .int (xs 2)]) (wc := [(om, .inr (7, [.int 0, .int 0, .ref om1, .ref om2, .ref om3, .ref om4, .ref om5, .ref om6, .ref om7, .int 0, .ref om8, .ref om9, .ref om10, .ref om11, .int 0, .int 0, .ref om12, .ref om13, .ref om14, .ref om15, .int 0, .ref om16, .ref om17, .ref om18, .ref om19, .int 0, .ref om20, .ref om21, .ref om22, .ref om23, .ref om24, .ref om25, .ref om26, .int 0, .ref om27, .ref om28, .ref om29]))]) (wr := []) (rest := [.int fn_cx_same]) hC hZ hl zc_L_109 (my_same g om om1 om2 om3 om4 om5 om6 om7 om8 om9 om10 om11 om12 om13 om14 om15 om16 om17 om18 om19 om20 om21 om22 om23 om24 om25 om26 om27 om28 om29 (xs 1) (xs 2)) [0] [] rfl rfl (by decide) (ci := 7) (q0 := 0) rfl rfl rfl rfl (Nat.le_of_ble_eq_true rfl) ⟨⟨Nat.le_of_ble_eq_true rfl, Nat.le_of_ble_eq_true rfl⟩, Nat.le_of_ble_eq_true rfl, Nat.le_of_ble_eq_true rfl⟩ dL_law_1244 (fun r3 u4 H locs hp hZ => ?_)
  obtain rfl := hp
  have hZ : zz_Z g A s.heap [] H locs := hZ.left
  refine lv_icmp_eq (tgt := 1875) hx hb dL_law_1247 (by decide) (fun c5 => ?_) (fun c => absurd (rfl) c)
  exact law_tail hC hX hbl hAs hZ.2.2.1 (Nat.le_of_ble_eq_true rfl) (Nat.le_of_ble_eq_true rfl) (lv_sub hl [3, 0] rfl)
theorem zk_514 : Cond.methodLink RL 110 yX7_hash ∈ zz_w := zz_in (List.mem_append_right _ (List.mem_append_right _ (List.mem_append_right _ (List.mem_append_left _ (List.mem_of_getElem? (i := 34) (by decide +kernel)))))) rfl
set_option maxRecDepth 20000 in
theorem zk_517 : Cond.code yX7_hash cX7_hash 2 (some .int) ∈ zz_w := zz_in (List.mem_append_right _ (List.mem_append_right _ (List.mem_append_right _ (List.mem_append_left _ (List.mem_of_getElem? (i := 37) (rfl)))))) rfl
theorem zk_515 : Cond.instanceMethod yX7_hash ∈ zz_w := zz_in (List.mem_append_right _ (List.mem_append_right _ (List.mem_append_right _ (List.mem_append_left _ (List.mem_of_getElem? (i := 35) (by decide +kernel)))))) rfl
theorem zk_516 : Cond.selects RX7 yX7_hash yX7_hash ∈ zz_w := zz_in (List.mem_append_right _ (List.mem_append_right _ (List.mem_append_right _ (List.mem_append_left _ (List.mem_of_getElem? (i := 36) (by decide +kernel)))))) rfl
theorem zc_L_110 : zz_cV RL 110 yX7_hash cX7_hash 2 (some .int) 1 := ⟨⟨zk_514, zk_517, zk_1, by decide, by decide, by decide +kernel⟩, zk_515, zk_516⟩
theorem zk_1024 : Cond.methodLink RL 113 yX8_hash ∈ zz_w := zz_in (List.mem_append_right _ (List.mem_append_right _ (List.mem_append_right _ (List.mem_append_right _ (List.mem_append_right _ (List.mem_of_getElem? (i := 64) (by decide +kernel))))))) rfl
set_option maxRecDepth 20000 in
theorem zk_1027 : Cond.code yX8_hash cX8_hash 4 (some .int) ∈ zz_w := zz_in (List.mem_append_right _ (List.mem_append_right _ (List.mem_append_right _ (List.mem_append_right _ (List.mem_append_right _ (List.mem_of_getElem? (i := 67) (rfl))))))) rfl
theorem zk_1025 : Cond.instanceMethod yX8_hash ∈ zz_w := zz_in (List.mem_append_right _ (List.mem_append_right _ (List.mem_append_right _ (List.mem_append_right _ (List.mem_append_right _ (List.mem_of_getElem? (i := 65) (by decide +kernel))))))) rfl
theorem zk_1026 : Cond.selects RX8 yX8_hash yX8_hash ∈ zz_w := zz_in (List.mem_append_right _ (List.mem_append_right _ (List.mem_append_right _ (List.mem_append_right _ (List.mem_append_right _ (List.mem_of_getElem? (i := 66) (by decide +kernel))))))) rfl
theorem zc_L_113 : zz_cV RL 113 yX8_hash cX8_hash 4 (some .int) 1 := ⟨⟨zk_1024, zk_1027, zk_7, by decide, by decide, by decide +kernel⟩, zk_1025, zk_1026⟩
set_option maxHeartbeats 4000000 in
set_option maxRecDepth 100000 in
theorem law_c21 {p : Program} {l : Launch} {e : Env} {s : State} {m : MethodId} {below : List Frame} {meth : Method} {c : Code} {A : Nat → Prop} {H : Heap} {locs : List Loc} {ls : Array Slot} (g : zz_G) (b : Nat) (xs : Nat → Int32) (ox ox1 ox10 ox12 ox16 ox22 ox30 ox2 ox3 ox4 ox5 ox6 ox7 ox8 ox9 om om1 om2 om3 om4 om5 om6 om7 om8 om9 om10 om11 om12 om13 om14 om15 om16 om17 om18 om19 om20 om21 om22 om23 om24 om25 om26 om27 om28 om29 : Nat) (hC : zz_C p s m #[Value.ref b] meth c g RL code 4 ret) (hX : va_X b 9 xs s s.heap) (hbl : b < s.heap.size) (hAs : ∀ q, A q → s.heap.size ≤ q) (hZ : zz_Z g A s.heap [(ox, .inr (6, [.ref ox1, .ref ox10, .ref ox12, .ref ox16, .ref ox22, .ref ox30, .int 0, .int 0])), (ox1, .inr (5, [.int 0, .int 0, .ref ox2, .ref ox3, .ref ox4, .ref ox5, .ref ox6, .ref ox7, .ref ox8, .ref ox9])), (om, .inr (7, [.int 0, .int 0, .ref om1, .ref om2, .ref om3, .ref om4, .ref om5, .ref om6, .ref om7, .int 0, .ref om8, .ref om9, .ref om10, .ref om11, .int 0, .int 0, .ref om12, .ref om13, .ref om14, .ref om15, .int 0, .ref om16, .ref om17, .ref om18, .ref om19, .int 0, .ref om20, .ref om21, .ref om22, .ref om23, .ref om24, .ref om25, .ref om26, .int 0, .ref om27, .ref om28, .ref om29]))] H locs) (hl : lv_has ls 4 [(3, .int 0), (2, .ref om), (1, .ref ox), (0, .ref b)]) : W p l e room_1 s m #[Value.ref b] below meth c H locs 61 89631 (lw_Z below #[Value.ref b] s) (F0 m 1252 ls []) := by
  obtain ⟨hx, hb, hml, hown, hts, hr, hlocks, hK⟩ := id hC
  have hbA : ¬ A b := fun q => absurd (hAs b q) (by omega)
  refine lv_aload_n hx hb dL_law_1252 rfl (lv_at hl 2 rfl) ?_
  refine lv_aload_n hx hb dL_law_1253 rfl (lv_at hl 3 rfl) ?_
  refine lv_iload_n hx hb dL_law_1254 rfl (lv_at hl 0 rfl) ?_
  refine lv_iconst (v := 1) hx hb dL_law_1255 (by decide) ?_
  refine lv_iadd hx hb dL_law_1256 ?_
  refine zz_topi (v := 1) (by decide) ?_
  refine va_sld hx hb hX hbl hbA hZ.2.2.1 (by unfold vp_in; decide) dL_law_1257 ?_
  rw [zl_c1]
  refine zz_iV (As := [.int (xs 1)]) (wc := [(ox, .inr (6, [.ref ox1, .ref ox10, .ref ox12, .ref ox16, .ref ox22, .ref ox30, .int 0, .int 0])), (ox1, .inr (5, [.int 0, .int 0, .ref ox2, .ref ox3, .ref ox4, .ref ox5, .ref ox6, .ref ox7, .ref ox8, .ref ox9]))]) (wr := [(om, .inr (7, [.int 0, .int 0, .ref om1, .ref om2, .ref om3, .ref om4, .ref om5, .ref om6, .ref om7, .int 0, .ref om8, .ref om9, .ref om10, .ref om11, .int 0, .int 0, .ref om12, .ref om13, .ref om14, .ref om15, .int 0, .ref om16, .ref om17, .ref om18, .ref om19, .int 0, .ref om20, .ref om21, .ref om22, .ref om23, .ref om24, .ref om25, .ref om26, .int 0, .ref om27, .ref om28, .ref om29]))]) (rest := []) hC hZ hl zc_L_110 (cx_hash g ox ox1 ox10 ox12 ox16 ox22 ox30 ox2 ox3 ox4 ox5 ox6 ox7 ox8 ox9 (xs 1)) [0, 1] [2] rfl rfl (by decide) (ci := 6) (q0 := 0) rfl rfl rfl rfl (Nat.le_of_ble_eq_true rfl) ⟨⟨Nat.le_of_ble_eq_true rfl, Nat.le_of_ble_eq_true rfl⟩, Nat.le_of_ble_eq_true rfl, Nat.le_of_ble_eq_true rfl⟩ dL_law_1258 (fun r1 u2 H locs hp hZ => ?_)
  obtain rfl := hp
  have hZ : zz_Z g A s.heap [(om, .inr (7, [.int 0, .int 0, .ref om1, .ref om2, .ref om3, .ref om4, .ref om5, .ref om6, .ref om7, .int 0, .ref om8, .ref om9, .ref om10, .ref om11, .int 0, .int 0, .ref om12, .ref om13, .ref om14, .ref om15, .int 0, .ref om16, .ref om17, .ref om18, .ref om19, .int 0, .ref om20, .ref om21, .ref om22, .ref om23, .ref om24, .ref om25, .ref om26, .int 0, .ref om27, .ref om28, .ref om29]))] H locs := hZ.left
  refine lv_aload_n hx hb dL_law_1261 rfl (lv_at hl 1 rfl) ?_
  refine lv_aload_n hx hb dL_law_1262 rfl (lv_at hl 3 rfl) ?_
  refine lv_iload_n hx hb dL_law_1263 rfl (lv_at hl 0 rfl) ?_
  refine lv_iconst (v := 1) hx hb dL_law_1264 (by decide) ?_
  refine lv_iadd hx hb dL_law_1265 ?_
  refine zz_topi (v := 1) (by decide) ?_
  refine va_sld hx hb hX hbl hbA hZ.2.2.1 (by unfold vp_in; decide) dL_law_1266 ?_
  rw [zl_c1]
  refine zz_iV (As := [.int (xs 1)]) (wc := [(om, .inr (7, [.int 0, .int 0, .ref om1, .ref om2, .ref om3, .ref om4, .ref om5, .ref om6, .ref om7, .int 0, .ref om8, .ref om9, .ref om10, .ref om11, .int 0, .int 0, .ref om12, .ref om13, .ref om14, .ref om15, .int 0, .ref om16, .ref om17, .ref om18, .ref om19, .int 0, .ref om20, .ref om21, .ref om22, .ref om23, .ref om24, .ref om25, .ref om26, .int 0, .ref om27, .ref om28, .ref om29]))]) (wr := []) (rest := [.int fn_cx_hash]) hC hZ hl zc_L_113 (my_hash g om om1 om2 om3 om4 om5 om6 om7 om8 om9 om10 om11 om12 om13 om14 om15 om16 om17 om18 om19 om20 om21 om22 om23 om24 om25 om26 om27 om28 om29 (xs 1)) [0] [] rfl rfl (by decide) (ci := 7) (q0 := 0) rfl rfl rfl rfl (Nat.le_of_ble_eq_true rfl) ⟨⟨Nat.le_of_ble_eq_true rfl, Nat.le_of_ble_eq_true rfl⟩, Nat.le_of_ble_eq_true rfl, Nat.le_of_ble_eq_true rfl⟩ dL_law_1267 (fun r3 u4 H locs hp hZ => ?_)
  obtain rfl := hp
  have hZ : zz_Z g A s.heap [] H locs := hZ.left
  refine lv_icmp_eq (tgt := 1875) hx hb dL_law_1270 (by decide) (fun c5 => ?_) (fun c => absurd (rfl) c)
  exact law_tail hC hX hbl hAs hZ.2.2.1 (Nat.le_of_ble_eq_true rfl) (Nat.le_of_ble_eq_true rfl) (lv_sub hl [3, 0] rfl)
theorem zk_529 : Cond.methodLink RL 114 yX7_decide ∈ zz_w := zz_in (List.mem_append_right _ (List.mem_append_right _ (List.mem_append_right _ (List.mem_append_left _ (List.mem_of_getElem? (i := 49) (by decide +kernel)))))) rfl
set_option maxRecDepth 20000 in
theorem zk_532 : Cond.code yX7_decide cX7_decide 8 (some .int) ∈ zz_w := zz_in (List.mem_append_right _ (List.mem_append_right _ (List.mem_append_right _ (List.mem_append_left _ (List.mem_of_getElem? (i := 52) (rfl)))))) rfl
theorem zk_530 : Cond.instanceMethod yX7_decide ∈ zz_w := zz_in (List.mem_append_right _ (List.mem_append_right _ (List.mem_append_right _ (List.mem_append_left _ (List.mem_of_getElem? (i := 50) (by decide +kernel)))))) rfl
theorem zk_531 : Cond.selects RX7 yX7_decide yX7_decide ∈ zz_w := zz_in (List.mem_append_right _ (List.mem_append_right _ (List.mem_append_right _ (List.mem_append_left _ (List.mem_of_getElem? (i := 51) (by decide +kernel)))))) rfl
theorem zc_L_114 : zz_cV RL 114 yX7_decide cX7_decide 8 (some .int) 5 := ⟨⟨zk_529, zk_532, zk_1, by decide, by decide, by decide +kernel⟩, zk_530, zk_531⟩
theorem zk_1032 : Cond.methodLink RL 117 yX8_decide ∈ zz_w := zz_in (List.mem_append_right _ (List.mem_append_right _ (List.mem_append_right _ (List.mem_append_right _ (List.mem_append_right _ (List.mem_of_getElem? (i := 72) (by decide +kernel))))))) rfl
set_option maxRecDepth 20000 in
theorem zk_1035 : Cond.code yX8_decide cX8_decide 8 (some .int) ∈ zz_w := zz_in (List.mem_append_right _ (List.mem_append_right _ (List.mem_append_right _ (List.mem_append_right _ (List.mem_append_right _ (List.mem_of_getElem? (i := 75) (rfl))))))) rfl
theorem zk_1033 : Cond.instanceMethod yX8_decide ∈ zz_w := zz_in (List.mem_append_right _ (List.mem_append_right _ (List.mem_append_right _ (List.mem_append_right _ (List.mem_append_right _ (List.mem_of_getElem? (i := 73) (by decide +kernel))))))) rfl
theorem zk_1034 : Cond.selects RX8 yX8_decide yX8_decide ∈ zz_w := zz_in (List.mem_append_right _ (List.mem_append_right _ (List.mem_append_right _ (List.mem_append_right _ (List.mem_append_right _ (List.mem_of_getElem? (i := 74) (by decide +kernel))))))) rfl
theorem zc_L_117 : zz_cV RL 117 yX8_decide cX8_decide 8 (some .int) 5 := ⟨⟨zk_1032, zk_1035, zk_7, by decide, by decide, by decide +kernel⟩, zk_1033, zk_1034⟩
set_option maxHeartbeats 4000000 in
set_option maxRecDepth 100000 in
theorem law_c22 {p : Program} {l : Launch} {e : Env} {s : State} {m : MethodId} {below : List Frame} {meth : Method} {c : Code} {A : Nat → Prop} {H : Heap} {locs : List Loc} {ls : Array Slot} (g : zz_G) (b : Nat) (xs : Nat → Int32) (ox ox1 ox10 ox12 ox16 ox22 ox30 ox2 ox3 ox4 ox5 ox6 ox7 ox8 ox9 om om1 om2 om3 om4 om5 om6 om7 om8 om9 om10 om11 om12 om13 om14 om15 om16 om17 om18 om19 om20 om21 om22 om23 om24 om25 om26 om27 om28 om29 : Nat) (hC : zz_C p s m #[Value.ref b] meth c g RL code 4 ret) (hX : va_X b 9 xs s s.heap) (hbl : b < s.heap.size) (hAs : ∀ q, A q → s.heap.size ≤ q) (hZ : zz_Z g A s.heap [(ox, .inr (6, [.ref ox1, .ref ox10, .ref ox12, .ref ox16, .ref ox22, .ref ox30, .int 0, .int 0])), (ox1, .inr (5, [.int 0, .int 0, .ref ox2, .ref ox3, .ref ox4, .ref ox5, .ref ox6, .ref ox7, .ref ox8, .ref ox9])), (om, .inr (7, [.int 0, .int 0, .ref om1, .ref om2, .ref om3, .ref om4, .ref om5, .ref om6, .ref om7, .int 0, .ref om8, .ref om9, .ref om10, .ref om11, .int 0, .int 0, .ref om12, .ref om13, .ref om14, .ref om15, .int 0, .ref om16, .ref om17, .ref om18, .ref om19, .int 0, .ref om20, .ref om21, .ref om22, .ref om23, .ref om24, .ref om25, .ref om26, .int 0, .ref om27, .ref om28, .ref om29]))] H locs) (hl : lv_has ls 4 [(3, .int 0), (2, .ref om), (1, .ref ox), (0, .ref b)]) : W p l e room_1 s m #[Value.ref b] below meth c H locs 61 89631 (lw_Z below #[Value.ref b] s) (F0 m 1275 ls []) := by
  obtain ⟨hx, hb, hml, hown, hts, hr, hlocks, hK⟩ := id hC
  have hbA : ¬ A b := fun q => absurd (hAs b q) (by omega)
  refine lv_aload_n hx hb dL_law_1275 rfl (lv_at hl 2 rfl) ?_
  refine lv_aload_n hx hb dL_law_1276 rfl (lv_at hl 3 rfl) ?_
  refine lv_iload_n hx hb dL_law_1277 rfl (lv_at hl 0 rfl) ?_
  refine lv_iconst (v := 1) hx hb dL_law_1278 (by decide) ?_
  refine lv_iadd hx hb dL_law_1279 ?_
  refine zz_topi (v := 1) (by decide) ?_
  refine va_sld hx hb hX hbl hbA hZ.2.2.1 (by unfold vp_in; decide) dL_law_1280 ?_
  rw [zl_c1]
  refine lv_aload_n hx hb dL_law_1281 rfl (lv_at hl 3 rfl) ?_
  refine lv_iload_n hx hb dL_law_1282 rfl (lv_at hl 0 rfl) ?_
  refine lv_iconst (v := 2) hx hb dL_law_1283 (by decide) ?_
  refine lv_iadd hx hb dL_law_1284 ?_
  refine zz_topi (v := 2) (by decide) ?_
  refine va_sld hx hb hX hbl hbA hZ.2.2.1 (by unfold vp_in; decide) dL_law_1285 ?_
  rw [zl_c2]
  refine lv_aload_n hx hb dL_law_1286 rfl (lv_at hl 3 rfl) ?_
  refine lv_iload_n hx hb dL_law_1287 rfl (lv_at hl 0 rfl) ?_
  refine lv_iconst (v := 3) hx hb dL_law_1288 (by decide) ?_
  refine lv_iadd hx hb dL_law_1289 ?_
  refine zz_topi (v := 3) (by decide) ?_
  refine va_sld hx hb hX hbl hbA hZ.2.2.1 (by unfold vp_in; decide) dL_law_1290 ?_
  rw [zl_c3]
  refine lv_aload_n hx hb dL_law_1291 rfl (lv_at hl 3 rfl) ?_
  refine lv_iload_n hx hb dL_law_1292 rfl (lv_at hl 0 rfl) ?_
  refine lv_iconst (v := 4) hx hb dL_law_1293 (by decide) ?_
  refine lv_iadd hx hb dL_law_1294 ?_
  refine zz_topi (v := 4) (by decide) ?_
  refine va_sld hx hb hX hbl hbA hZ.2.2.1 (by unfold vp_in; decide) dL_law_1295 ?_
  rw [zl_c4]
  refine lv_aload_n hx hb dL_law_1296 rfl (lv_at hl 3 rfl) ?_
  refine lv_iload_n hx hb dL_law_1297 rfl (lv_at hl 0 rfl) ?_
  refine lv_iconst (v := 5) hx hb dL_law_1298 (by decide) ?_
  refine lv_iadd hx hb dL_law_1299 ?_
  refine zz_topi (v := 5) (by decide) ?_
  refine va_sld hx hb hX hbl hbA hZ.2.2.1 (by unfold vp_in; decide) dL_law_1300 ?_
  rw [zl_c5]
  refine zz_iV (As := [.int (xs 1), .int (xs 2), .int (xs 3), .int (xs 4), .int (xs 5)]) (wc := [(ox, .inr (6, [.ref ox1, .ref ox10, .ref ox12, .ref ox16, .ref ox22, .ref ox30, .int 0, .int 0])), (ox1, .inr (5, [.int 0, .int 0, .ref ox2, .ref ox3, .ref ox4, .ref ox5, .ref ox6, .ref ox7, .ref ox8, .ref ox9]))]) (wr := [(om, .inr (7, [.int 0, .int 0, .ref om1, .ref om2, .ref om3, .ref om4, .ref om5, .ref om6, .ref om7, .int 0, .ref om8, .ref om9, .ref om10, .ref om11, .int 0, .int 0, .ref om12, .ref om13, .ref om14, .ref om15, .int 0, .ref om16, .ref om17, .ref om18, .ref om19, .int 0, .ref om20, .ref om21, .ref om22, .ref om23, .ref om24, .ref om25, .ref om26, .int 0, .ref om27, .ref om28, .ref om29]))]) (rest := []) hC hZ hl zc_L_114 (cx_decide g ox ox1 ox10 ox12 ox16 ox22 ox30 ox2 ox3 ox4 ox5 ox6 ox7 ox8 ox9 (xs 1) (xs 2) (xs 3) (xs 4) (xs 5)) [0, 1] [2] rfl rfl (by decide) (ci := 6) (q0 := 0) rfl rfl rfl rfl (Nat.le_of_ble_eq_true rfl) ⟨⟨Nat.le_of_ble_eq_true rfl, Nat.le_of_ble_eq_true rfl⟩, Nat.le_of_ble_eq_true rfl, Nat.le_of_ble_eq_true rfl⟩ dL_law_1301 (fun r1 u2 H locs hp hZ => ?_)
  obtain rfl := hp
  have hZ : zz_Z g A s.heap [(om, .inr (7, [.int 0, .int 0, .ref om1, .ref om2, .ref om3, .ref om4, .ref om5, .ref om6, .ref om7, .int 0, .ref om8, .ref om9, .ref om10, .ref om11, .int 0, .int 0, .ref om12, .ref om13, .ref om14, .ref om15, .int 0, .ref om16, .ref om17, .ref om18, .ref om19, .int 0, .ref om20, .ref om21, .ref om22, .ref om23, .ref om24, .ref om25, .ref om26, .int 0, .ref om27, .ref om28, .ref om29]))] H locs := hZ.left
  refine lv_aload_n hx hb dL_law_1304 rfl (lv_at hl 1 rfl) ?_
  refine lv_aload_n hx hb dL_law_1305 rfl (lv_at hl 3 rfl) ?_
  refine lv_iload_n hx hb dL_law_1306 rfl (lv_at hl 0 rfl) ?_
  refine lv_iconst (v := 1) hx hb dL_law_1307 (by decide) ?_
  refine lv_iadd hx hb dL_law_1308 ?_
  refine zz_topi (v := 1) (by decide) ?_
  refine va_sld hx hb hX hbl hbA hZ.2.2.1 (by unfold vp_in; decide) dL_law_1309 ?_
  rw [zl_c1]
  refine lv_aload_n hx hb dL_law_1310 rfl (lv_at hl 3 rfl) ?_
  refine lv_iload_n hx hb dL_law_1311 rfl (lv_at hl 0 rfl) ?_
  refine lv_iconst (v := 2) hx hb dL_law_1312 (by decide) ?_
  refine lv_iadd hx hb dL_law_1313 ?_
  refine zz_topi (v := 2) (by decide) ?_
  refine va_sld hx hb hX hbl hbA hZ.2.2.1 (by unfold vp_in; decide) dL_law_1314 ?_
  rw [zl_c2]
  refine lv_aload_n hx hb dL_law_1315 rfl (lv_at hl 3 rfl) ?_
  refine lv_iload_n hx hb dL_law_1316 rfl (lv_at hl 0 rfl) ?_
  refine lv_iconst (v := 3) hx hb dL_law_1317 (by decide) ?_
  refine lv_iadd hx hb dL_law_1318 ?_
  refine zz_topi (v := 3) (by decide) ?_
  refine va_sld hx hb hX hbl hbA hZ.2.2.1 (by unfold vp_in; decide) dL_law_1319 ?_
  rw [zl_c3]
  refine lv_aload_n hx hb dL_law_1320 rfl (lv_at hl 3 rfl) ?_
  refine lv_iload_n hx hb dL_law_1321 rfl (lv_at hl 0 rfl) ?_
  refine lv_iconst (v := 4) hx hb dL_law_1322 (by decide) ?_
  refine lv_iadd hx hb dL_law_1323 ?_
  refine zz_topi (v := 4) (by decide) ?_
  refine va_sld hx hb hX hbl hbA hZ.2.2.1 (by unfold vp_in; decide) dL_law_1324 ?_
  rw [zl_c4]
  refine lv_aload_n hx hb dL_law_1325 rfl (lv_at hl 3 rfl) ?_
  refine lv_iload_n hx hb dL_law_1326 rfl (lv_at hl 0 rfl) ?_
  refine lv_iconst (v := 5) hx hb dL_law_1327 (by decide) ?_
  refine lv_iadd hx hb dL_law_1328 ?_
  refine zz_topi (v := 5) (by decide) ?_
  refine va_sld hx hb hX hbl hbA hZ.2.2.1 (by unfold vp_in; decide) dL_law_1329 ?_
  rw [zl_c5]
  refine zz_iV (As := [.int (xs 1), .int (xs 2), .int (xs 3), .int (xs 4), .int (xs 5)]) (wc := [(om, .inr (7, [.int 0, .int 0, .ref om1, .ref om2, .ref om3, .ref om4, .ref om5, .ref om6, .ref om7, .int 0, .ref om8, .ref om9, .ref om10, .ref om11, .int 0, .int 0, .ref om12, .ref om13, .ref om14, .ref om15, .int 0, .ref om16, .ref om17, .ref om18, .ref om19, .int 0, .ref om20, .ref om21, .ref om22, .ref om23, .ref om24, .ref om25, .ref om26, .int 0, .ref om27, .ref om28, .ref om29]))]) (wr := []) (rest := [.int fn_cx_decide]) hC hZ hl zc_L_117 (my_decide g om om1 om2 om3 om4 om5 om6 om7 om8 om9 om10 om11 om12 om13 om14 om15 om16 om17 om18 om19 om20 om21 om22 om23 om24 om25 om26 om27 om28 om29 (xs 1) (xs 2) (xs 3) (xs 4) (xs 5)) [0] [] rfl rfl (by decide) (ci := 7) (q0 := 0) rfl rfl rfl rfl (Nat.le_of_ble_eq_true rfl) ⟨⟨Nat.le_of_ble_eq_true rfl, Nat.le_of_ble_eq_true rfl⟩, Nat.le_of_ble_eq_true rfl, Nat.le_of_ble_eq_true rfl⟩ dL_law_1330 (fun r3 u4 H locs hp hZ => ?_)
  obtain rfl := hp
  have hZ : zz_Z g A s.heap [] H locs := hZ.left
  refine lv_icmp_eq (tgt := 1875) hx hb dL_law_1333 (by decide) (fun c5 => ?_) (fun c => absurd (rfl) c)
  exact law_tail hC hX hbl hAs hZ.2.2.1 (Nat.le_of_ble_eq_true rfl) (Nat.le_of_ble_eq_true rfl) (lv_sub hl [3, 0] rfl)
theorem zk_542 : Cond.methodLink RL 118 yX7_candidate ∈ zz_w := zz_in (List.mem_append_right _ (List.mem_append_right _ (List.mem_append_right _ (List.mem_append_left _ (List.mem_of_getElem? (i := 62) (by decide +kernel)))))) rfl
set_option maxRecDepth 20000 in
theorem zk_545 : Cond.code yX7_candidate cX7_candidate 7 (some .int) ∈ zz_w := zz_in (List.mem_append_right _ (List.mem_append_right _ (List.mem_append_right _ (List.mem_append_left _ (List.mem_of_getElem? (i := 65) (rfl)))))) rfl
theorem zk_543 : Cond.instanceMethod yX7_candidate ∈ zz_w := zz_in (List.mem_append_right _ (List.mem_append_right _ (List.mem_append_right _ (List.mem_append_left _ (List.mem_of_getElem? (i := 63) (by decide +kernel)))))) rfl
theorem zk_544 : Cond.selects RX7 yX7_candidate yX7_candidate ∈ zz_w := zz_in (List.mem_append_right _ (List.mem_append_right _ (List.mem_append_right _ (List.mem_append_left _ (List.mem_of_getElem? (i := 64) (by decide +kernel)))))) rfl
theorem zc_L_118 : zz_cV RL 118 yX7_candidate cX7_candidate 7 (some .int) 2 := ⟨⟨zk_542, zk_545, zk_1, by decide, by decide, by decide +kernel⟩, zk_543, zk_544⟩
theorem zk_1036 : Cond.methodLink RL 121 yX8_candidate ∈ zz_w := zz_in (List.mem_append_right _ (List.mem_append_right _ (List.mem_append_right _ (List.mem_append_right _ (List.mem_append_right _ (List.mem_of_getElem? (i := 76) (by decide +kernel))))))) rfl
set_option maxRecDepth 20000 in
theorem zk_1039 : Cond.code yX8_candidate cX8_candidate 5 (some .int) ∈ zz_w := zz_in (List.mem_append_right _ (List.mem_append_right _ (List.mem_append_right _ (List.mem_append_right _ (List.mem_append_right _ (List.mem_of_getElem? (i := 79) (rfl))))))) rfl
theorem zk_1037 : Cond.instanceMethod yX8_candidate ∈ zz_w := zz_in (List.mem_append_right _ (List.mem_append_right _ (List.mem_append_right _ (List.mem_append_right _ (List.mem_append_right _ (List.mem_of_getElem? (i := 77) (by decide +kernel))))))) rfl
theorem zk_1038 : Cond.selects RX8 yX8_candidate yX8_candidate ∈ zz_w := zz_in (List.mem_append_right _ (List.mem_append_right _ (List.mem_append_right _ (List.mem_append_right _ (List.mem_append_right _ (List.mem_of_getElem? (i := 78) (by decide +kernel))))))) rfl
theorem zc_L_121 : zz_cV RL 121 yX8_candidate cX8_candidate 5 (some .int) 2 := ⟨⟨zk_1036, zk_1039, zk_7, by decide, by decide, by decide +kernel⟩, zk_1037, zk_1038⟩
set_option maxHeartbeats 4000000 in
set_option maxRecDepth 100000 in
theorem law_c23 {p : Program} {l : Launch} {e : Env} {s : State} {m : MethodId} {below : List Frame} {meth : Method} {c : Code} {A : Nat → Prop} {H : Heap} {locs : List Loc} {ls : Array Slot} (g : zz_G) (b : Nat) (xs : Nat → Int32) (ox ox1 ox10 ox12 ox16 ox22 ox30 ox17 ox18 ox19 ox20 ox21 om om1 om2 om3 om4 om5 om6 om7 om8 om9 om10 om11 om12 om13 om14 om15 om16 om17 om18 om19 om20 om21 om22 om23 om24 om25 om26 om27 om28 om29 : Nat) (hC : zz_C p s m #[Value.ref b] meth c g RL code 4 ret) (hX : va_X b 9 xs s s.heap) (hbl : b < s.heap.size) (hAs : ∀ q, A q → s.heap.size ≤ q) (hZ : zz_Z g A s.heap [(ox, .inr (6, [.ref ox1, .ref ox10, .ref ox12, .ref ox16, .ref ox22, .ref ox30, .int 0, .int 0])), (ox16, .inr (0, [.ref ox1, .int 0, .ref ox17, .ref ox18, .ref ox19, .ref ox20, .ref ox21])), (om, .inr (7, [.int 0, .int 0, .ref om1, .ref om2, .ref om3, .ref om4, .ref om5, .ref om6, .ref om7, .int 0, .ref om8, .ref om9, .ref om10, .ref om11, .int 0, .int 0, .ref om12, .ref om13, .ref om14, .ref om15, .int 0, .ref om16, .ref om17, .ref om18, .ref om19, .int 0, .ref om20, .ref om21, .ref om22, .ref om23, .ref om24, .ref om25, .ref om26, .int 0, .ref om27, .ref om28, .ref om29]))] H locs) (hl : lv_has ls 4 [(3, .int 0), (2, .ref om), (1, .ref ox), (0, .ref b)]) : W p l e room_1 s m #[Value.ref b] below meth c H locs 61 89631 (lw_Z below #[Value.ref b] s) (F0 m 1338 ls []) := by
  obtain ⟨hx, hb, hml, hown, hts, hr, hlocks, hK⟩ := id hC
  have hbA : ¬ A b := fun q => absurd (hAs b q) (by omega)
  refine lv_aload_n hx hb dL_law_1338 rfl (lv_at hl 2 rfl) ?_
  refine lv_aload_n hx hb dL_law_1339 rfl (lv_at hl 3 rfl) ?_
  refine lv_iload_n hx hb dL_law_1340 rfl (lv_at hl 0 rfl) ?_
  refine lv_iconst (v := 1) hx hb dL_law_1341 (by decide) ?_
  refine lv_iadd hx hb dL_law_1342 ?_
  refine zz_topi (v := 1) (by decide) ?_
  refine va_sld hx hb hX hbl hbA hZ.2.2.1 (by unfold vp_in; decide) dL_law_1343 ?_
  rw [zl_c1]
  refine lv_aload_n hx hb dL_law_1344 rfl (lv_at hl 3 rfl) ?_
  refine lv_iload_n hx hb dL_law_1345 rfl (lv_at hl 0 rfl) ?_
  refine lv_iconst (v := 2) hx hb dL_law_1346 (by decide) ?_
  refine lv_iadd hx hb dL_law_1347 ?_
  refine zz_topi (v := 2) (by decide) ?_
  refine va_sld hx hb hX hbl hbA hZ.2.2.1 (by unfold vp_in; decide) dL_law_1348 ?_
  rw [zl_c2]
  refine lv_i2l hx hb dL_law_1349 rfl ?_
  refine lv_bipush (v := 32) hx hb dL_law_1350 (by decide) ?_
  refine lv_lshl hx hb dL_law_1352 rfl ?_
  refine lv_aload_n hx hb dL_law_1353 rfl (lv_at hl 3 rfl) ?_
  refine lv_iload_n hx hb dL_law_1354 rfl (lv_at hl 0 rfl) ?_
  refine lv_iconst (v := 3) hx hb dL_law_1355 (by decide) ?_
  refine lv_iadd hx hb dL_law_1356 ?_
  refine zz_topi (v := 3) (by decide) ?_
  refine va_sld hx hb hX hbl hbA hZ.2.2.1 (by unfold vp_in; decide) dL_law_1357 ?_
  rw [zl_c3]
  refine lv_i2l hx hb dL_law_1358 rfl ?_
  refine lv_ldc2 hx hb hown (hts _ zk_1133) dL_law_1359 ?_
  refine lv_land hx hb dL_law_1362 ?_
  refine lv_lor hx hb dL_law_1363 ?_
  refine zz_iV (As := [.int (xs 1), .long ((((xs 2).toInt64) <<< ((32 : Int32).toInt64 &&& 63)) ||| (((xs 3).toInt64) &&& 4294967295))]) (wc := [(ox, .inr (6, [.ref ox1, .ref ox10, .ref ox12, .ref ox16, .ref ox22, .ref ox30, .int 0, .int 0])), (ox16, .inr (0, [.ref ox1, .int 0, .ref ox17, .ref ox18, .ref ox19, .ref ox20, .ref ox21]))]) (wr := [(om, .inr (7, [.int 0, .int 0, .ref om1, .ref om2, .ref om3, .ref om4, .ref om5, .ref om6, .ref om7, .int 0, .ref om8, .ref om9, .ref om10, .ref om11, .int 0, .int 0, .ref om12, .ref om13, .ref om14, .ref om15, .int 0, .ref om16, .ref om17, .ref om18, .ref om19, .int 0, .ref om20, .ref om21, .ref om22, .ref om23, .ref om24, .ref om25, .ref om26, .int 0, .ref om27, .ref om28, .ref om29]))]) (rest := []) hC hZ hl zc_L_118 (cx_candidate g ox ox1 ox10 ox12 ox16 ox22 ox30 ox17 ox18 ox19 ox20 ox21 (xs 1) ((((xs 2).toInt64) <<< ((32 : Int32).toInt64 &&& 63)) ||| (((xs 3).toInt64) &&& 4294967295))) [0, 1] [2] rfl rfl (by decide) (ci := 6) (q0 := 0) rfl rfl rfl rfl (Nat.le_of_ble_eq_true rfl) ⟨⟨Nat.le_of_ble_eq_true rfl, Nat.le_of_ble_eq_true rfl⟩, Nat.le_of_ble_eq_true rfl, Nat.le_of_ble_eq_true rfl⟩ dL_law_1364 (fun r1 u2 H locs hp hZ => ?_)
  obtain rfl := hp
  have hZ : zz_Z g A s.heap [(om, .inr (7, [.int 0, .int 0, .ref om1, .ref om2, .ref om3, .ref om4, .ref om5, .ref om6, .ref om7, .int 0, .ref om8, .ref om9, .ref om10, .ref om11, .int 0, .int 0, .ref om12, .ref om13, .ref om14, .ref om15, .int 0, .ref om16, .ref om17, .ref om18, .ref om19, .int 0, .ref om20, .ref om21, .ref om22, .ref om23, .ref om24, .ref om25, .ref om26, .int 0, .ref om27, .ref om28, .ref om29]))] H locs := hZ.left
  refine lv_aload_n hx hb dL_law_1367 rfl (lv_at hl 1 rfl) ?_
  refine lv_aload_n hx hb dL_law_1368 rfl (lv_at hl 3 rfl) ?_
  refine lv_iload_n hx hb dL_law_1369 rfl (lv_at hl 0 rfl) ?_
  refine lv_iconst (v := 1) hx hb dL_law_1370 (by decide) ?_
  refine lv_iadd hx hb dL_law_1371 ?_
  refine zz_topi (v := 1) (by decide) ?_
  refine va_sld hx hb hX hbl hbA hZ.2.2.1 (by unfold vp_in; decide) dL_law_1372 ?_
  rw [zl_c1]
  refine lv_aload_n hx hb dL_law_1373 rfl (lv_at hl 3 rfl) ?_
  refine lv_iload_n hx hb dL_law_1374 rfl (lv_at hl 0 rfl) ?_
  refine lv_iconst (v := 2) hx hb dL_law_1375 (by decide) ?_
  refine lv_iadd hx hb dL_law_1376 ?_
  refine zz_topi (v := 2) (by decide) ?_
  refine va_sld hx hb hX hbl hbA hZ.2.2.1 (by unfold vp_in; decide) dL_law_1377 ?_
  rw [zl_c2]
  refine lv_i2l hx hb dL_law_1378 rfl ?_
  refine lv_bipush (v := 32) hx hb dL_law_1379 (by decide) ?_
  refine lv_lshl hx hb dL_law_1381 rfl ?_
  refine lv_aload_n hx hb dL_law_1382 rfl (lv_at hl 3 rfl) ?_
  refine lv_iload_n hx hb dL_law_1383 rfl (lv_at hl 0 rfl) ?_
  refine lv_iconst (v := 3) hx hb dL_law_1384 (by decide) ?_
  refine lv_iadd hx hb dL_law_1385 ?_
  refine zz_topi (v := 3) (by decide) ?_
  refine va_sld hx hb hX hbl hbA hZ.2.2.1 (by unfold vp_in; decide) dL_law_1386 ?_
  rw [zl_c3]
  refine lv_i2l hx hb dL_law_1387 rfl ?_
  refine lv_ldc2 hx hb hown (hts _ zk_1133) dL_law_1388 ?_
  refine lv_land hx hb dL_law_1391 ?_
  refine lv_lor hx hb dL_law_1392 ?_
  refine zz_iV (As := [.int (xs 1), .long ((((xs 2).toInt64) <<< ((32 : Int32).toInt64 &&& 63)) ||| (((xs 3).toInt64) &&& 4294967295))]) (wc := [(om, .inr (7, [.int 0, .int 0, .ref om1, .ref om2, .ref om3, .ref om4, .ref om5, .ref om6, .ref om7, .int 0, .ref om8, .ref om9, .ref om10, .ref om11, .int 0, .int 0, .ref om12, .ref om13, .ref om14, .ref om15, .int 0, .ref om16, .ref om17, .ref om18, .ref om19, .int 0, .ref om20, .ref om21, .ref om22, .ref om23, .ref om24, .ref om25, .ref om26, .int 0, .ref om27, .ref om28, .ref om29]))]) (wr := []) (rest := [.int fn_cx_candidate]) hC hZ hl zc_L_121 (my_candidate g om om1 om2 om3 om4 om5 om6 om7 om8 om9 om10 om11 om12 om13 om14 om15 om16 om17 om18 om19 om20 om21 om22 om23 om24 om25 om26 om27 om28 om29 (xs 1) ((((xs 2).toInt64) <<< ((32 : Int32).toInt64 &&& 63)) ||| (((xs 3).toInt64) &&& 4294967295))) [0] [] rfl rfl (by decide) (ci := 7) (q0 := 0) rfl rfl rfl rfl (Nat.le_of_ble_eq_true rfl) ⟨⟨Nat.le_of_ble_eq_true rfl, Nat.le_of_ble_eq_true rfl⟩, Nat.le_of_ble_eq_true rfl, Nat.le_of_ble_eq_true rfl⟩ dL_law_1393 (fun r3 u4 H locs hp hZ => ?_)
  obtain rfl := hp
  have hZ : zz_Z g A s.heap [] H locs := hZ.left
  refine lv_icmp_eq (tgt := 1875) hx hb dL_law_1396 (by decide) (fun c5 => ?_) (fun c => absurd (rfl) c)
  exact law_tail hC hX hbl hAs hZ.2.2.1 (Nat.le_of_ble_eq_true rfl) (Nat.le_of_ble_eq_true rfl) (lv_sub hl [3, 0] rfl)
theorem zk_572 : Cond.methodLink RL 122 yX7_span ∈ zz_w := zz_in (List.mem_append_right _ (List.mem_append_right _ (List.mem_append_right _ (List.mem_append_left _ (List.mem_of_getElem? (i := 92) (by decide +kernel)))))) rfl
set_option maxRecDepth 20000 in
theorem zk_575 : Cond.code yX7_span cX7_span 10 (some .int) ∈ zz_w := zz_in (List.mem_append_right _ (List.mem_append_right _ (List.mem_append_right _ (List.mem_append_left _ (List.mem_of_getElem? (i := 95) (rfl)))))) rfl
theorem zk_573 : Cond.instanceMethod yX7_span ∈ zz_w := zz_in (List.mem_append_right _ (List.mem_append_right _ (List.mem_append_right _ (List.mem_append_left _ (List.mem_of_getElem? (i := 93) (by decide +kernel)))))) rfl
theorem zk_574 : Cond.selects RX7 yX7_span yX7_span ∈ zz_w := zz_in (List.mem_append_right _ (List.mem_append_right _ (List.mem_append_right _ (List.mem_append_left _ (List.mem_of_getElem? (i := 94) (by decide +kernel)))))) rfl
theorem zc_L_122 : zz_cV RL 122 yX7_span cX7_span 10 (some .int) 4 := ⟨⟨zk_572, zk_575, zk_1, by decide, by decide, by decide +kernel⟩, zk_573, zk_574⟩
theorem zk_1048 : Cond.methodLink RL 126 yX8_span ∈ zz_w := zz_in (List.mem_append_right _ (List.mem_append_right _ (List.mem_append_right _ (List.mem_append_right _ (List.mem_append_right _ (List.mem_of_getElem? (i := 88) (by decide +kernel))))))) rfl
set_option maxRecDepth 20000 in
theorem zk_1051 : Cond.code yX8_span cX8_span 13 (some .int) ∈ zz_w := zz_in (List.mem_append_right _ (List.mem_append_right _ (List.mem_append_right _ (List.mem_append_right _ (List.mem_append_right _ (List.mem_of_getElem? (i := 91) (rfl))))))) rfl
theorem zk_1049 : Cond.instanceMethod yX8_span ∈ zz_w := zz_in (List.mem_append_right _ (List.mem_append_right _ (List.mem_append_right _ (List.mem_append_right _ (List.mem_append_right _ (List.mem_of_getElem? (i := 89) (by decide +kernel))))))) rfl
theorem zk_1050 : Cond.selects RX8 yX8_span yX8_span ∈ zz_w := zz_in (List.mem_append_right _ (List.mem_append_right _ (List.mem_append_right _ (List.mem_append_right _ (List.mem_append_right _ (List.mem_of_getElem? (i := 90) (by decide +kernel))))))) rfl
theorem zc_L_126 : zz_cV RL 126 yX8_span cX8_span 13 (some .int) 4 := ⟨⟨zk_1048, zk_1051, zk_7, by decide, by decide, by decide +kernel⟩, zk_1049, zk_1050⟩
set_option maxHeartbeats 4000000 in
set_option maxRecDepth 100000 in
theorem law_c24 {p : Program} {l : Launch} {e : Env} {s : State} {m : MethodId} {below : List Frame} {meth : Method} {c : Code} {A : Nat → Prop} {H : Heap} {locs : List Loc} {ls : Array Slot} (g : zz_G) (b : Nat) (xs : Nat → Int32) (ox ox1 ox10 ox12 ox16 ox22 ox30 ox17 ox18 ox19 ox20 ox21 om om1 om2 om3 om4 om5 om6 om7 om8 om9 om10 om11 om12 om13 om14 om15 om16 om17 om18 om19 om20 om21 om22 om23 om24 om25 om26 om27 om28 om29 : Nat) (hC : zz_C p s m #[Value.ref b] meth c g RL code 4 ret) (hX : va_X b 9 xs s s.heap) (hbl : b < s.heap.size) (hAs : ∀ q, A q → s.heap.size ≤ q) (hZ : zz_Z g A s.heap [(ox, .inr (6, [.ref ox1, .ref ox10, .ref ox12, .ref ox16, .ref ox22, .ref ox30, .int 0, .int 0])), (ox16, .inr (0, [.ref ox1, .int 0, .ref ox17, .ref ox18, .ref ox19, .ref ox20, .ref ox21])), (om, .inr (7, [.int 0, .int 0, .ref om1, .ref om2, .ref om3, .ref om4, .ref om5, .ref om6, .ref om7, .int 0, .ref om8, .ref om9, .ref om10, .ref om11, .int 0, .int 0, .ref om12, .ref om13, .ref om14, .ref om15, .int 0, .ref om16, .ref om17, .ref om18, .ref om19, .int 0, .ref om20, .ref om21, .ref om22, .ref om23, .ref om24, .ref om25, .ref om26, .int 0, .ref om27, .ref om28, .ref om29]))] H locs) (hl : lv_has ls 4 [(3, .int 0), (2, .ref om), (1, .ref ox), (0, .ref b)]) : W p l e room_1 s m #[Value.ref b] below meth c H locs 61 89631 (lw_Z below #[Value.ref b] s) (F0 m 1401 ls []) := by
  obtain ⟨hx, hb, hml, hown, hts, hr, hlocks, hK⟩ := id hC
  have hbA : ¬ A b := fun q => absurd (hAs b q) (by omega)
  refine lv_aload_n hx hb dL_law_1401 rfl (lv_at hl 2 rfl) ?_
  refine lv_aload_n hx hb dL_law_1402 rfl (lv_at hl 3 rfl) ?_
  refine lv_iload_n hx hb dL_law_1403 rfl (lv_at hl 0 rfl) ?_
  refine lv_iconst (v := 1) hx hb dL_law_1404 (by decide) ?_
  refine lv_iadd hx hb dL_law_1405 ?_
  refine zz_topi (v := 1) (by decide) ?_
  refine va_sld hx hb hX hbl hbA hZ.2.2.1 (by unfold vp_in; decide) dL_law_1406 ?_
  rw [zl_c1]
  refine lv_aload_n hx hb dL_law_1407 rfl (lv_at hl 3 rfl) ?_
  refine lv_iload_n hx hb dL_law_1408 rfl (lv_at hl 0 rfl) ?_
  refine lv_iconst (v := 2) hx hb dL_law_1409 (by decide) ?_
  refine lv_iadd hx hb dL_law_1410 ?_
  refine zz_topi (v := 2) (by decide) ?_
  refine va_sld hx hb hX hbl hbA hZ.2.2.1 (by unfold vp_in; decide) dL_law_1411 ?_
  rw [zl_c2]
  refine lv_i2l hx hb dL_law_1412 rfl ?_
  refine lv_bipush (v := 32) hx hb dL_law_1413 (by decide) ?_
  refine lv_lshl hx hb dL_law_1415 rfl ?_
  refine lv_aload_n hx hb dL_law_1416 rfl (lv_at hl 3 rfl) ?_
  refine lv_iload_n hx hb dL_law_1417 rfl (lv_at hl 0 rfl) ?_
  refine lv_iconst (v := 3) hx hb dL_law_1418 (by decide) ?_
  refine lv_iadd hx hb dL_law_1419 ?_
  refine zz_topi (v := 3) (by decide) ?_
  refine va_sld hx hb hX hbl hbA hZ.2.2.1 (by unfold vp_in; decide) dL_law_1420 ?_
  rw [zl_c3]
  refine lv_i2l hx hb dL_law_1421 rfl ?_
  refine lv_ldc2 hx hb hown (hts _ zk_1133) dL_law_1422 ?_
  refine lv_land hx hb dL_law_1425 ?_
  refine lv_lor hx hb dL_law_1426 ?_
  refine lv_aload_n hx hb dL_law_1427 rfl (lv_at hl 3 rfl) ?_
  refine lv_iload_n hx hb dL_law_1428 rfl (lv_at hl 0 rfl) ?_
  refine lv_iconst (v := 4) hx hb dL_law_1429 (by decide) ?_
  refine lv_iadd hx hb dL_law_1430 ?_
  refine zz_topi (v := 4) (by decide) ?_
  refine va_sld hx hb hX hbl hbA hZ.2.2.1 (by unfold vp_in; decide) dL_law_1431 ?_
  rw [zl_c4]
  refine lv_i2l hx hb dL_law_1432 rfl ?_
  refine lv_bipush (v := 32) hx hb dL_law_1433 (by decide) ?_
  refine lv_lshl hx hb dL_law_1435 rfl ?_
  refine lv_aload_n hx hb dL_law_1436 rfl (lv_at hl 3 rfl) ?_
  refine lv_iload_n hx hb dL_law_1437 rfl (lv_at hl 0 rfl) ?_
  refine lv_iconst (v := 5) hx hb dL_law_1438 (by decide) ?_
  refine lv_iadd hx hb dL_law_1439 ?_
  refine zz_topi (v := 5) (by decide) ?_
  refine va_sld hx hb hX hbl hbA hZ.2.2.1 (by unfold vp_in; decide) dL_law_1440 ?_
  rw [zl_c5]
  refine lv_i2l hx hb dL_law_1441 rfl ?_
  refine lv_ldc2 hx hb hown (hts _ zk_1133) dL_law_1442 ?_
  refine lv_land hx hb dL_law_1445 ?_
  refine lv_lor hx hb dL_law_1446 ?_
  refine lv_aload_n hx hb dL_law_1447 rfl (lv_at hl 3 rfl) ?_
  refine lv_iload_n hx hb dL_law_1448 rfl (lv_at hl 0 rfl) ?_
  refine lv_bipush (v := 6) hx hb dL_law_1449 (by decide) ?_
  refine lv_iadd hx hb dL_law_1451 ?_
  refine zz_topi (v := 6) (by decide) ?_
  refine va_sld hx hb hX hbl hbA hZ.2.2.1 (by unfold vp_in; decide) dL_law_1452 ?_
  rw [zl_c6]
  refine lv_i2l hx hb dL_law_1453 rfl ?_
  refine lv_bipush (v := 32) hx hb dL_law_1454 (by decide) ?_
  refine lv_lshl hx hb dL_law_1456 rfl ?_
  refine lv_aload_n hx hb dL_law_1457 rfl (lv_at hl 3 rfl) ?_
  refine lv_iload_n hx hb dL_law_1458 rfl (lv_at hl 0 rfl) ?_
  refine lv_bipush (v := 7) hx hb dL_law_1459 (by decide) ?_
  refine lv_iadd hx hb dL_law_1461 ?_
  refine zz_topi (v := 7) (by decide) ?_
  refine va_sld hx hb hX hbl hbA hZ.2.2.1 (by unfold vp_in; decide) dL_law_1462 ?_
  rw [zl_c7]
  refine lv_i2l hx hb dL_law_1463 rfl ?_
  refine lv_ldc2 hx hb hown (hts _ zk_1133) dL_law_1464 ?_
  refine lv_land hx hb dL_law_1467 ?_
  refine lv_lor hx hb dL_law_1468 ?_
  refine zz_iV (As := [.int (xs 1), .long ((((xs 2).toInt64) <<< ((32 : Int32).toInt64 &&& 63)) ||| (((xs 3).toInt64) &&& 4294967295)), .long ((((xs 4).toInt64) <<< ((32 : Int32).toInt64 &&& 63)) ||| (((xs 5).toInt64) &&& 4294967295)), .long ((((xs 6).toInt64) <<< ((32 : Int32).toInt64 &&& 63)) ||| (((xs 7).toInt64) &&& 4294967295))]) (wc := [(ox, .inr (6, [.ref ox1, .ref ox10, .ref ox12, .ref ox16, .ref ox22, .ref ox30, .int 0, .int 0])), (ox16, .inr (0, [.ref ox1, .int 0, .ref ox17, .ref ox18, .ref ox19, .ref ox20, .ref ox21]))]) (wr := [(om, .inr (7, [.int 0, .int 0, .ref om1, .ref om2, .ref om3, .ref om4, .ref om5, .ref om6, .ref om7, .int 0, .ref om8, .ref om9, .ref om10, .ref om11, .int 0, .int 0, .ref om12, .ref om13, .ref om14, .ref om15, .int 0, .ref om16, .ref om17, .ref om18, .ref om19, .int 0, .ref om20, .ref om21, .ref om22, .ref om23, .ref om24, .ref om25, .ref om26, .int 0, .ref om27, .ref om28, .ref om29]))]) (rest := []) hC hZ hl zc_L_122 (cx_span g ox ox1 ox10 ox12 ox16 ox22 ox30 ox17 ox18 ox19 ox20 ox21 (xs 1) ((((xs 2).toInt64) <<< ((32 : Int32).toInt64 &&& 63)) ||| (((xs 3).toInt64) &&& 4294967295)) ((((xs 4).toInt64) <<< ((32 : Int32).toInt64 &&& 63)) ||| (((xs 5).toInt64) &&& 4294967295)) ((((xs 6).toInt64) <<< ((32 : Int32).toInt64 &&& 63)) ||| (((xs 7).toInt64) &&& 4294967295))) [0, 1] [2] rfl rfl (by decide) (ci := 6) (q0 := 0) rfl rfl rfl rfl (Nat.le_of_ble_eq_true rfl) ⟨⟨Nat.le_of_ble_eq_true rfl, Nat.le_of_ble_eq_true rfl⟩, Nat.le_of_ble_eq_true rfl, Nat.le_of_ble_eq_true rfl⟩ dL_law_1469 (fun r1 u2 H locs hp hZ => ?_)
  obtain rfl := hp
  have hZ : zz_Z g A s.heap [(om, .inr (7, [.int 0, .int 0, .ref om1, .ref om2, .ref om3, .ref om4, .ref om5, .ref om6, .ref om7, .int 0, .ref om8, .ref om9, .ref om10, .ref om11, .int 0, .int 0, .ref om12, .ref om13, .ref om14, .ref om15, .int 0, .ref om16, .ref om17, .ref om18, .ref om19, .int 0, .ref om20, .ref om21, .ref om22, .ref om23, .ref om24, .ref om25, .ref om26, .int 0, .ref om27, .ref om28, .ref om29]))] H locs := hZ.left
  refine lv_aload_n hx hb dL_law_1472 rfl (lv_at hl 1 rfl) ?_
  refine lv_aload_n hx hb dL_law_1473 rfl (lv_at hl 3 rfl) ?_
  refine lv_iload_n hx hb dL_law_1474 rfl (lv_at hl 0 rfl) ?_
  refine lv_iconst (v := 1) hx hb dL_law_1475 (by decide) ?_
  refine lv_iadd hx hb dL_law_1476 ?_
  refine zz_topi (v := 1) (by decide) ?_
  refine va_sld hx hb hX hbl hbA hZ.2.2.1 (by unfold vp_in; decide) dL_law_1477 ?_
  rw [zl_c1]
  refine lv_aload_n hx hb dL_law_1478 rfl (lv_at hl 3 rfl) ?_
  refine lv_iload_n hx hb dL_law_1479 rfl (lv_at hl 0 rfl) ?_
  refine lv_iconst (v := 2) hx hb dL_law_1480 (by decide) ?_
  refine lv_iadd hx hb dL_law_1481 ?_
  refine zz_topi (v := 2) (by decide) ?_
  refine va_sld hx hb hX hbl hbA hZ.2.2.1 (by unfold vp_in; decide) dL_law_1482 ?_
  rw [zl_c2]
  refine lv_i2l hx hb dL_law_1483 rfl ?_
  refine lv_bipush (v := 32) hx hb dL_law_1484 (by decide) ?_
  refine lv_lshl hx hb dL_law_1486 rfl ?_
  refine lv_aload_n hx hb dL_law_1487 rfl (lv_at hl 3 rfl) ?_
  refine lv_iload_n hx hb dL_law_1488 rfl (lv_at hl 0 rfl) ?_
  refine lv_iconst (v := 3) hx hb dL_law_1489 (by decide) ?_
  refine lv_iadd hx hb dL_law_1490 ?_
  refine zz_topi (v := 3) (by decide) ?_
  refine va_sld hx hb hX hbl hbA hZ.2.2.1 (by unfold vp_in; decide) dL_law_1491 ?_
  rw [zl_c3]
  refine lv_i2l hx hb dL_law_1492 rfl ?_
  refine lv_ldc2 hx hb hown (hts _ zk_1133) dL_law_1493 ?_
  refine lv_land hx hb dL_law_1496 ?_
  refine lv_lor hx hb dL_law_1497 ?_
  refine lv_aload_n hx hb dL_law_1498 rfl (lv_at hl 3 rfl) ?_
  refine lv_iload_n hx hb dL_law_1499 rfl (lv_at hl 0 rfl) ?_
  refine lv_iconst (v := 4) hx hb dL_law_1500 (by decide) ?_
  refine lv_iadd hx hb dL_law_1501 ?_
  refine zz_topi (v := 4) (by decide) ?_
  refine va_sld hx hb hX hbl hbA hZ.2.2.1 (by unfold vp_in; decide) dL_law_1502 ?_
  rw [zl_c4]
  refine lv_i2l hx hb dL_law_1503 rfl ?_
  refine lv_bipush (v := 32) hx hb dL_law_1504 (by decide) ?_
  refine lv_lshl hx hb dL_law_1506 rfl ?_
  refine lv_aload_n hx hb dL_law_1507 rfl (lv_at hl 3 rfl) ?_
  refine lv_iload_n hx hb dL_law_1508 rfl (lv_at hl 0 rfl) ?_
  refine lv_iconst (v := 5) hx hb dL_law_1509 (by decide) ?_
  refine lv_iadd hx hb dL_law_1510 ?_
  refine zz_topi (v := 5) (by decide) ?_
  refine va_sld hx hb hX hbl hbA hZ.2.2.1 (by unfold vp_in; decide) dL_law_1511 ?_
  rw [zl_c5]
  refine lv_i2l hx hb dL_law_1512 rfl ?_
  refine lv_ldc2 hx hb hown (hts _ zk_1133) dL_law_1513 ?_
  refine lv_land hx hb dL_law_1516 ?_
  refine lv_lor hx hb dL_law_1517 ?_
  refine lv_aload_n hx hb dL_law_1518 rfl (lv_at hl 3 rfl) ?_
  refine lv_iload_n hx hb dL_law_1519 rfl (lv_at hl 0 rfl) ?_
  refine lv_bipush (v := 6) hx hb dL_law_1520 (by decide) ?_
  refine lv_iadd hx hb dL_law_1522 ?_
  refine zz_topi (v := 6) (by decide) ?_
  refine va_sld hx hb hX hbl hbA hZ.2.2.1 (by unfold vp_in; decide) dL_law_1523 ?_
  rw [zl_c6]
  refine lv_i2l hx hb dL_law_1524 rfl ?_
  refine lv_bipush (v := 32) hx hb dL_law_1525 (by decide) ?_
  refine lv_lshl hx hb dL_law_1527 rfl ?_
  refine lv_aload_n hx hb dL_law_1528 rfl (lv_at hl 3 rfl) ?_
  refine lv_iload_n hx hb dL_law_1529 rfl (lv_at hl 0 rfl) ?_
  refine lv_bipush (v := 7) hx hb dL_law_1530 (by decide) ?_
  refine lv_iadd hx hb dL_law_1532 ?_
  refine zz_topi (v := 7) (by decide) ?_
  refine va_sld hx hb hX hbl hbA hZ.2.2.1 (by unfold vp_in; decide) dL_law_1533 ?_
  rw [zl_c7]
  refine lv_i2l hx hb dL_law_1534 rfl ?_
  refine lv_ldc2 hx hb hown (hts _ zk_1133) dL_law_1535 ?_
  refine lv_land hx hb dL_law_1538 ?_
  refine lv_lor hx hb dL_law_1539 ?_
  refine zz_iV (As := [.int (xs 1), .long ((((xs 2).toInt64) <<< ((32 : Int32).toInt64 &&& 63)) ||| (((xs 3).toInt64) &&& 4294967295)), .long ((((xs 4).toInt64) <<< ((32 : Int32).toInt64 &&& 63)) ||| (((xs 5).toInt64) &&& 4294967295)), .long ((((xs 6).toInt64) <<< ((32 : Int32).toInt64 &&& 63)) ||| (((xs 7).toInt64) &&& 4294967295))]) (wc := [(om, .inr (7, [.int 0, .int 0, .ref om1, .ref om2, .ref om3, .ref om4, .ref om5, .ref om6, .ref om7, .int 0, .ref om8, .ref om9, .ref om10, .ref om11, .int 0, .int 0, .ref om12, .ref om13, .ref om14, .ref om15, .int 0, .ref om16, .ref om17, .ref om18, .ref om19, .int 0, .ref om20, .ref om21, .ref om22, .ref om23, .ref om24, .ref om25, .ref om26, .int 0, .ref om27, .ref om28, .ref om29]))]) (wr := []) (rest := [.int fn_cx_span]) hC hZ hl zc_L_126 (my_span g om om1 om2 om3 om4 om5 om6 om7 om8 om9 om10 om11 om12 om13 om14 om15 om16 om17 om18 om19 om20 om21 om22 om23 om24 om25 om26 om27 om28 om29 (xs 1) ((((xs 2).toInt64) <<< ((32 : Int32).toInt64 &&& 63)) ||| (((xs 3).toInt64) &&& 4294967295)) ((((xs 4).toInt64) <<< ((32 : Int32).toInt64 &&& 63)) ||| (((xs 5).toInt64) &&& 4294967295)) ((((xs 6).toInt64) <<< ((32 : Int32).toInt64 &&& 63)) ||| (((xs 7).toInt64) &&& 4294967295))) [0] [] rfl rfl (by decide) (ci := 7) (q0 := 0) rfl rfl rfl rfl (Nat.le_of_ble_eq_true rfl) ⟨⟨Nat.le_of_ble_eq_true rfl, Nat.le_of_ble_eq_true rfl⟩, Nat.le_of_ble_eq_true rfl, Nat.le_of_ble_eq_true rfl⟩ dL_law_1540 (fun r3 u4 H locs hp hZ => ?_)
  obtain rfl := hp
  have hZ : zz_Z g A s.heap [] H locs := hZ.left
  refine lv_icmp_eq (tgt := 1875) hx hb dL_law_1543 (by decide) (fun c5 => ?_) (fun c => absurd (rfl) c)
  exact law_tail hC hX hbl hAs hZ.2.2.1 (Nat.le_of_ble_eq_true rfl) (Nat.le_of_ble_eq_true rfl) (lv_sub hl [3, 0] rfl)
theorem zk_582 : Cond.methodLink RL 127 yX7_choose ∈ zz_w := zz_in (List.mem_append_right _ (List.mem_append_right _ (List.mem_append_right _ (List.mem_append_left _ (List.mem_of_getElem? (i := 102) (by decide +kernel)))))) rfl
set_option maxRecDepth 20000 in
theorem zk_585 : Cond.code yX7_choose cX7_choose 3 (some .int) ∈ zz_w := zz_in (List.mem_append_right _ (List.mem_append_right _ (List.mem_append_right _ (List.mem_append_left _ (List.mem_of_getElem? (i := 105) (rfl)))))) rfl
theorem zk_583 : Cond.instanceMethod yX7_choose ∈ zz_w := zz_in (List.mem_append_right _ (List.mem_append_right _ (List.mem_append_right _ (List.mem_append_left _ (List.mem_of_getElem? (i := 103) (by decide +kernel)))))) rfl
theorem zk_584 : Cond.selects RX7 yX7_choose yX7_choose ∈ zz_w := zz_in (List.mem_append_right _ (List.mem_append_right _ (List.mem_append_right _ (List.mem_append_left _ (List.mem_of_getElem? (i := 104) (by decide +kernel)))))) rfl
theorem zc_L_127 : zz_cV RL 127 yX7_choose cX7_choose 3 (some .int) 2 := ⟨⟨zk_582, zk_585, zk_1, by decide, by decide, by decide +kernel⟩, zk_583, zk_584⟩
theorem zk_1052 : Cond.methodLink RL 130 yX8_choose ∈ zz_w := zz_in (List.mem_append_right _ (List.mem_append_right _ (List.mem_append_right _ (List.mem_append_right _ (List.mem_append_right _ (List.mem_of_getElem? (i := 92) (by decide +kernel))))))) rfl
set_option maxRecDepth 20000 in
theorem zk_1055 : Cond.code yX8_choose cX8_choose 3 (some .int) ∈ zz_w := zz_in (List.mem_append_right _ (List.mem_append_right _ (List.mem_append_right _ (List.mem_append_right _ (List.mem_append_right _ (List.mem_of_getElem? (i := 95) (rfl))))))) rfl
theorem zk_1053 : Cond.instanceMethod yX8_choose ∈ zz_w := zz_in (List.mem_append_right _ (List.mem_append_right _ (List.mem_append_right _ (List.mem_append_right _ (List.mem_append_right _ (List.mem_of_getElem? (i := 93) (by decide +kernel))))))) rfl
theorem zk_1054 : Cond.selects RX8 yX8_choose yX8_choose ∈ zz_w := zz_in (List.mem_append_right _ (List.mem_append_right _ (List.mem_append_right _ (List.mem_append_right _ (List.mem_append_right _ (List.mem_of_getElem? (i := 94) (by decide +kernel))))))) rfl
theorem zc_L_130 : zz_cV RL 130 yX8_choose cX8_choose 3 (some .int) 2 := ⟨⟨zk_1052, zk_1055, zk_7, by decide, by decide, by decide +kernel⟩, zk_1053, zk_1054⟩
set_option maxHeartbeats 4000000 in
set_option maxRecDepth 100000 in
theorem law_c25 {p : Program} {l : Launch} {e : Env} {s : State} {m : MethodId} {below : List Frame} {meth : Method} {c : Code} {A : Nat → Prop} {H : Heap} {locs : List Loc} {ls : Array Slot} (g : zz_G) (b : Nat) (xs : Nat → Int32) (ox ox1 ox10 ox12 ox16 ox22 ox30 ox17 ox18 ox19 ox20 ox21 om om1 om2 om3 om4 om5 om6 om7 om8 om9 om10 om11 om12 om13 om14 om15 om16 om17 om18 om19 om20 om21 om22 om23 om24 om25 om26 om27 om28 om29 : Nat) (hC : zz_C p s m #[Value.ref b] meth c g RL code 4 ret) (hX : va_X b 9 xs s s.heap) (hbl : b < s.heap.size) (hAs : ∀ q, A q → s.heap.size ≤ q) (hZ : zz_Z g A s.heap [(ox, .inr (6, [.ref ox1, .ref ox10, .ref ox12, .ref ox16, .ref ox22, .ref ox30, .int 0, .int 0])), (ox16, .inr (0, [.ref ox1, .int 0, .ref ox17, .ref ox18, .ref ox19, .ref ox20, .ref ox21])), (om, .inr (7, [.int 0, .int 0, .ref om1, .ref om2, .ref om3, .ref om4, .ref om5, .ref om6, .ref om7, .int 0, .ref om8, .ref om9, .ref om10, .ref om11, .int 0, .int 0, .ref om12, .ref om13, .ref om14, .ref om15, .int 0, .ref om16, .ref om17, .ref om18, .ref om19, .int 0, .ref om20, .ref om21, .ref om22, .ref om23, .ref om24, .ref om25, .ref om26, .int 0, .ref om27, .ref om28, .ref om29]))] H locs) (hl : lv_has ls 4 [(3, .int 0), (2, .ref om), (1, .ref ox), (0, .ref b)]) : W p l e room_1 s m #[Value.ref b] below meth c H locs 61 89631 (lw_Z below #[Value.ref b] s) (F0 m 1548 ls []) := by
  obtain ⟨hx, hb, hml, hown, hts, hr, hlocks, hK⟩ := id hC
  have hbA : ¬ A b := fun q => absurd (hAs b q) (by omega)
  refine lv_aload_n hx hb dL_law_1548 rfl (lv_at hl 2 rfl) ?_
  refine lv_aload_n hx hb dL_law_1549 rfl (lv_at hl 3 rfl) ?_
  refine lv_iload_n hx hb dL_law_1550 rfl (lv_at hl 0 rfl) ?_
  refine lv_iconst (v := 1) hx hb dL_law_1551 (by decide) ?_
  refine lv_iadd hx hb dL_law_1552 ?_
  refine zz_topi (v := 1) (by decide) ?_
  refine va_sld hx hb hX hbl hbA hZ.2.2.1 (by unfold vp_in; decide) dL_law_1553 ?_
  rw [zl_c1]
  refine lv_aload_n hx hb dL_law_1554 rfl (lv_at hl 3 rfl) ?_
  refine lv_iload_n hx hb dL_law_1555 rfl (lv_at hl 0 rfl) ?_
  refine lv_iconst (v := 2) hx hb dL_law_1556 (by decide) ?_
  refine lv_iadd hx hb dL_law_1557 ?_
  refine zz_topi (v := 2) (by decide) ?_
  refine va_sld hx hb hX hbl hbA hZ.2.2.1 (by unfold vp_in; decide) dL_law_1558 ?_
  rw [zl_c2]
  refine zz_iV (As := [.int (xs 1), .int (xs 2)]) (wc := [(ox, .inr (6, [.ref ox1, .ref ox10, .ref ox12, .ref ox16, .ref ox22, .ref ox30, .int 0, .int 0])), (ox16, .inr (0, [.ref ox1, .int 0, .ref ox17, .ref ox18, .ref ox19, .ref ox20, .ref ox21]))]) (wr := [(om, .inr (7, [.int 0, .int 0, .ref om1, .ref om2, .ref om3, .ref om4, .ref om5, .ref om6, .ref om7, .int 0, .ref om8, .ref om9, .ref om10, .ref om11, .int 0, .int 0, .ref om12, .ref om13, .ref om14, .ref om15, .int 0, .ref om16, .ref om17, .ref om18, .ref om19, .int 0, .ref om20, .ref om21, .ref om22, .ref om23, .ref om24, .ref om25, .ref om26, .int 0, .ref om27, .ref om28, .ref om29]))]) (rest := []) hC hZ hl zc_L_127 (cx_choose g ox ox1 ox10 ox12 ox16 ox22 ox30 ox17 ox18 ox19 ox20 ox21 (xs 1) (xs 2)) [0, 1] [2] rfl rfl (by decide) (ci := 6) (q0 := 0) rfl rfl rfl rfl (Nat.le_of_ble_eq_true rfl) ⟨⟨Nat.le_of_ble_eq_true rfl, Nat.le_of_ble_eq_true rfl⟩, Nat.le_of_ble_eq_true rfl, Nat.le_of_ble_eq_true rfl⟩ dL_law_1559 (fun r1 u2 H locs hp hZ => ?_)
  obtain rfl := hp
  have hZ : zz_Z g A s.heap [(om, .inr (7, [.int 0, .int 0, .ref om1, .ref om2, .ref om3, .ref om4, .ref om5, .ref om6, .ref om7, .int 0, .ref om8, .ref om9, .ref om10, .ref om11, .int 0, .int 0, .ref om12, .ref om13, .ref om14, .ref om15, .int 0, .ref om16, .ref om17, .ref om18, .ref om19, .int 0, .ref om20, .ref om21, .ref om22, .ref om23, .ref om24, .ref om25, .ref om26, .int 0, .ref om27, .ref om28, .ref om29]))] H locs := hZ.left
  refine lv_aload_n hx hb dL_law_1562 rfl (lv_at hl 1 rfl) ?_
  refine lv_aload_n hx hb dL_law_1563 rfl (lv_at hl 3 rfl) ?_
  refine lv_iload_n hx hb dL_law_1564 rfl (lv_at hl 0 rfl) ?_
  refine lv_iconst (v := 1) hx hb dL_law_1565 (by decide) ?_
  refine lv_iadd hx hb dL_law_1566 ?_
  refine zz_topi (v := 1) (by decide) ?_
  refine va_sld hx hb hX hbl hbA hZ.2.2.1 (by unfold vp_in; decide) dL_law_1567 ?_
  rw [zl_c1]
  refine lv_aload_n hx hb dL_law_1568 rfl (lv_at hl 3 rfl) ?_
  refine lv_iload_n hx hb dL_law_1569 rfl (lv_at hl 0 rfl) ?_
  refine lv_iconst (v := 2) hx hb dL_law_1570 (by decide) ?_
  refine lv_iadd hx hb dL_law_1571 ?_
  refine zz_topi (v := 2) (by decide) ?_
  refine va_sld hx hb hX hbl hbA hZ.2.2.1 (by unfold vp_in; decide) dL_law_1572 ?_
  rw [zl_c2]
  refine zz_iV (As := [.int (xs 1), .int (xs 2)]) (wc := [(om, .inr (7, [.int 0, .int 0, .ref om1, .ref om2, .ref om3, .ref om4, .ref om5, .ref om6, .ref om7, .int 0, .ref om8, .ref om9, .ref om10, .ref om11, .int 0, .int 0, .ref om12, .ref om13, .ref om14, .ref om15, .int 0, .ref om16, .ref om17, .ref om18, .ref om19, .int 0, .ref om20, .ref om21, .ref om22, .ref om23, .ref om24, .ref om25, .ref om26, .int 0, .ref om27, .ref om28, .ref om29]))]) (wr := []) (rest := [.int fn_cx_choose]) hC hZ hl zc_L_130 (my_choose g om om1 om2 om3 om4 om5 om6 om7 om8 om9 om10 om11 om12 om13 om14 om15 om16 om17 om18 om19 om20 om21 om22 om23 om24 om25 om26 om27 om28 om29 (xs 1) (xs 2)) [0] [] rfl rfl (by decide) (ci := 7) (q0 := 0) rfl rfl rfl rfl (Nat.le_of_ble_eq_true rfl) ⟨⟨Nat.le_of_ble_eq_true rfl, Nat.le_of_ble_eq_true rfl⟩, Nat.le_of_ble_eq_true rfl, Nat.le_of_ble_eq_true rfl⟩ dL_law_1573 (fun r3 u4 H locs hp hZ => ?_)
  obtain rfl := hp
  have hZ : zz_Z g A s.heap [] H locs := hZ.left
  refine lv_icmp_eq (tgt := 1875) hx hb dL_law_1576 (by decide) (fun c5 => ?_) (fun c => absurd (rfl) c)
  exact law_tail hC hX hbl hAs hZ.2.2.1 (Nat.le_of_ble_eq_true rfl) (Nat.le_of_ble_eq_true rfl) (lv_sub hl [3, 0] rfl)
theorem zk_592 : Cond.methodLink RL 131 yX7_decision ∈ zz_w := zz_in (List.mem_append_right _ (List.mem_append_right _ (List.mem_append_right _ (List.mem_append_left _ (List.mem_of_getElem? (i := 112) (by decide +kernel)))))) rfl
set_option maxRecDepth 20000 in
theorem zk_595 : Cond.code yX7_decision cX7_decision 3 (some .int) ∈ zz_w := zz_in (List.mem_append_right _ (List.mem_append_right _ (List.mem_append_right _ (List.mem_append_left _ (List.mem_of_getElem? (i := 115) (rfl)))))) rfl
theorem zk_593 : Cond.instanceMethod yX7_decision ∈ zz_w := zz_in (List.mem_append_right _ (List.mem_append_right _ (List.mem_append_right _ (List.mem_append_left _ (List.mem_of_getElem? (i := 113) (by decide +kernel)))))) rfl
theorem zk_594 : Cond.selects RX7 yX7_decision yX7_decision ∈ zz_w := zz_in (List.mem_append_right _ (List.mem_append_right _ (List.mem_append_right _ (List.mem_append_left _ (List.mem_of_getElem? (i := 114) (by decide +kernel)))))) rfl
theorem zc_L_131 : zz_cV RL 131 yX7_decision cX7_decision 3 (some .int) 2 := ⟨⟨zk_592, zk_595, zk_1, by decide, by decide, by decide +kernel⟩, zk_593, zk_594⟩
theorem zk_1060 : Cond.methodLink RL 134 yX8_decision ∈ zz_w := zz_in (List.mem_append_right _ (List.mem_append_right _ (List.mem_append_right _ (List.mem_append_right _ (List.mem_append_right _ (List.mem_of_getElem? (i := 100) (by decide +kernel))))))) rfl
set_option maxRecDepth 20000 in
theorem zk_1063 : Cond.code yX8_decision cX8_decision 3 (some .int) ∈ zz_w := zz_in (List.mem_append_right _ (List.mem_append_right _ (List.mem_append_right _ (List.mem_append_right _ (List.mem_append_right _ (List.mem_of_getElem? (i := 103) (rfl))))))) rfl
theorem zk_1061 : Cond.instanceMethod yX8_decision ∈ zz_w := zz_in (List.mem_append_right _ (List.mem_append_right _ (List.mem_append_right _ (List.mem_append_right _ (List.mem_append_right _ (List.mem_of_getElem? (i := 101) (by decide +kernel))))))) rfl
theorem zk_1062 : Cond.selects RX8 yX8_decision yX8_decision ∈ zz_w := zz_in (List.mem_append_right _ (List.mem_append_right _ (List.mem_append_right _ (List.mem_append_right _ (List.mem_append_right _ (List.mem_of_getElem? (i := 102) (by decide +kernel))))))) rfl
theorem zc_L_134 : zz_cV RL 134 yX8_decision cX8_decision 3 (some .int) 2 := ⟨⟨zk_1060, zk_1063, zk_7, by decide, by decide, by decide +kernel⟩, zk_1061, zk_1062⟩
set_option maxHeartbeats 4000000 in
set_option maxRecDepth 100000 in
theorem law_c26 {p : Program} {l : Launch} {e : Env} {s : State} {m : MethodId} {below : List Frame} {meth : Method} {c : Code} {A : Nat → Prop} {H : Heap} {locs : List Loc} {ls : Array Slot} (g : zz_G) (b : Nat) (xs : Nat → Int32) (ox ox1 ox10 ox12 ox16 ox22 ox30 ox17 ox18 ox19 ox20 ox21 om om1 om2 om3 om4 om5 om6 om7 om8 om9 om10 om11 om12 om13 om14 om15 om16 om17 om18 om19 om20 om21 om22 om23 om24 om25 om26 om27 om28 om29 : Nat) (hC : zz_C p s m #[Value.ref b] meth c g RL code 4 ret) (hX : va_X b 9 xs s s.heap) (hbl : b < s.heap.size) (hAs : ∀ q, A q → s.heap.size ≤ q) (hZ : zz_Z g A s.heap [(ox, .inr (6, [.ref ox1, .ref ox10, .ref ox12, .ref ox16, .ref ox22, .ref ox30, .int 0, .int 0])), (ox16, .inr (0, [.ref ox1, .int 0, .ref ox17, .ref ox18, .ref ox19, .ref ox20, .ref ox21])), (om, .inr (7, [.int 0, .int 0, .ref om1, .ref om2, .ref om3, .ref om4, .ref om5, .ref om6, .ref om7, .int 0, .ref om8, .ref om9, .ref om10, .ref om11, .int 0, .int 0, .ref om12, .ref om13, .ref om14, .ref om15, .int 0, .ref om16, .ref om17, .ref om18, .ref om19, .int 0, .ref om20, .ref om21, .ref om22, .ref om23, .ref om24, .ref om25, .ref om26, .int 0, .ref om27, .ref om28, .ref om29]))] H locs) (hl : lv_has ls 4 [(3, .int 0), (2, .ref om), (1, .ref ox), (0, .ref b)]) : W p l e room_1 s m #[Value.ref b] below meth c H locs 61 89631 (lw_Z below #[Value.ref b] s) (F0 m 1581 ls []) := by
  obtain ⟨hx, hb, hml, hown, hts, hr, hlocks, hK⟩ := id hC
  have hbA : ¬ A b := fun q => absurd (hAs b q) (by omega)
  refine lv_aload_n hx hb dL_law_1581 rfl (lv_at hl 2 rfl) ?_
  refine lv_aload_n hx hb dL_law_1582 rfl (lv_at hl 3 rfl) ?_
  refine lv_iload_n hx hb dL_law_1583 rfl (lv_at hl 0 rfl) ?_
  refine lv_iconst (v := 1) hx hb dL_law_1584 (by decide) ?_
  refine lv_iadd hx hb dL_law_1585 ?_
  refine zz_topi (v := 1) (by decide) ?_
  refine va_sld hx hb hX hbl hbA hZ.2.2.1 (by unfold vp_in; decide) dL_law_1586 ?_
  rw [zl_c1]
  refine lv_aload_n hx hb dL_law_1587 rfl (lv_at hl 3 rfl) ?_
  refine lv_iload_n hx hb dL_law_1588 rfl (lv_at hl 0 rfl) ?_
  refine lv_iconst (v := 2) hx hb dL_law_1589 (by decide) ?_
  refine lv_iadd hx hb dL_law_1590 ?_
  refine zz_topi (v := 2) (by decide) ?_
  refine va_sld hx hb hX hbl hbA hZ.2.2.1 (by unfold vp_in; decide) dL_law_1591 ?_
  rw [zl_c2]
  refine zz_iV (As := [.int (xs 1), .int (xs 2)]) (wc := [(ox, .inr (6, [.ref ox1, .ref ox10, .ref ox12, .ref ox16, .ref ox22, .ref ox30, .int 0, .int 0])), (ox16, .inr (0, [.ref ox1, .int 0, .ref ox17, .ref ox18, .ref ox19, .ref ox20, .ref ox21]))]) (wr := [(om, .inr (7, [.int 0, .int 0, .ref om1, .ref om2, .ref om3, .ref om4, .ref om5, .ref om6, .ref om7, .int 0, .ref om8, .ref om9, .ref om10, .ref om11, .int 0, .int 0, .ref om12, .ref om13, .ref om14, .ref om15, .int 0, .ref om16, .ref om17, .ref om18, .ref om19, .int 0, .ref om20, .ref om21, .ref om22, .ref om23, .ref om24, .ref om25, .ref om26, .int 0, .ref om27, .ref om28, .ref om29]))]) (rest := []) hC hZ hl zc_L_131 (cx_decision g ox ox1 ox10 ox12 ox16 ox22 ox30 ox17 ox18 ox19 ox20 ox21 (xs 1) (xs 2)) [0, 1] [2] rfl rfl (by decide) (ci := 6) (q0 := 0) rfl rfl rfl rfl (Nat.le_of_ble_eq_true rfl) ⟨⟨Nat.le_of_ble_eq_true rfl, Nat.le_of_ble_eq_true rfl⟩, Nat.le_of_ble_eq_true rfl, Nat.le_of_ble_eq_true rfl⟩ dL_law_1592 (fun r1 u2 H locs hp hZ => ?_)
  obtain rfl := hp
  have hZ : zz_Z g A s.heap [(om, .inr (7, [.int 0, .int 0, .ref om1, .ref om2, .ref om3, .ref om4, .ref om5, .ref om6, .ref om7, .int 0, .ref om8, .ref om9, .ref om10, .ref om11, .int 0, .int 0, .ref om12, .ref om13, .ref om14, .ref om15, .int 0, .ref om16, .ref om17, .ref om18, .ref om19, .int 0, .ref om20, .ref om21, .ref om22, .ref om23, .ref om24, .ref om25, .ref om26, .int 0, .ref om27, .ref om28, .ref om29]))] H locs := hZ.left
  refine lv_aload_n hx hb dL_law_1595 rfl (lv_at hl 1 rfl) ?_
  refine lv_aload_n hx hb dL_law_1596 rfl (lv_at hl 3 rfl) ?_
  refine lv_iload_n hx hb dL_law_1597 rfl (lv_at hl 0 rfl) ?_
  refine lv_iconst (v := 1) hx hb dL_law_1598 (by decide) ?_
  refine lv_iadd hx hb dL_law_1599 ?_
  refine zz_topi (v := 1) (by decide) ?_
  refine va_sld hx hb hX hbl hbA hZ.2.2.1 (by unfold vp_in; decide) dL_law_1600 ?_
  rw [zl_c1]
  refine lv_aload_n hx hb dL_law_1601 rfl (lv_at hl 3 rfl) ?_
  refine lv_iload_n hx hb dL_law_1602 rfl (lv_at hl 0 rfl) ?_
  refine lv_iconst (v := 2) hx hb dL_law_1603 (by decide) ?_
  refine lv_iadd hx hb dL_law_1604 ?_
  refine zz_topi (v := 2) (by decide) ?_
  refine va_sld hx hb hX hbl hbA hZ.2.2.1 (by unfold vp_in; decide) dL_law_1605 ?_
  rw [zl_c2]
  refine zz_iV (As := [.int (xs 1), .int (xs 2)]) (wc := [(om, .inr (7, [.int 0, .int 0, .ref om1, .ref om2, .ref om3, .ref om4, .ref om5, .ref om6, .ref om7, .int 0, .ref om8, .ref om9, .ref om10, .ref om11, .int 0, .int 0, .ref om12, .ref om13, .ref om14, .ref om15, .int 0, .ref om16, .ref om17, .ref om18, .ref om19, .int 0, .ref om20, .ref om21, .ref om22, .ref om23, .ref om24, .ref om25, .ref om26, .int 0, .ref om27, .ref om28, .ref om29]))]) (wr := []) (rest := [.int fn_cx_decision]) hC hZ hl zc_L_134 (my_decision g om om1 om2 om3 om4 om5 om6 om7 om8 om9 om10 om11 om12 om13 om14 om15 om16 om17 om18 om19 om20 om21 om22 om23 om24 om25 om26 om27 om28 om29 (xs 1) (xs 2)) [0] [] rfl rfl (by decide) (ci := 7) (q0 := 0) rfl rfl rfl rfl (Nat.le_of_ble_eq_true rfl) ⟨⟨Nat.le_of_ble_eq_true rfl, Nat.le_of_ble_eq_true rfl⟩, Nat.le_of_ble_eq_true rfl, Nat.le_of_ble_eq_true rfl⟩ dL_law_1606 (fun r3 u4 H locs hp hZ => ?_)
  obtain rfl := hp
  have hZ : zz_Z g A s.heap [] H locs := hZ.left
  refine lv_icmp_eq (tgt := 1875) hx hb dL_law_1609 (by decide) (fun c5 => ?_) (fun c => absurd (rfl) c)
  exact law_tail hC hX hbl hAs hZ.2.2.1 (Nat.le_of_ble_eq_true rfl) (Nat.le_of_ble_eq_true rfl) (lv_sub hl [3, 0] rfl)
theorem zk_596 : Cond.methodLink RL 135 yX7_candidateOf ∈ zz_w := zz_in (List.mem_append_right _ (List.mem_append_right _ (List.mem_append_right _ (List.mem_append_left _ (List.mem_of_getElem? (i := 116) (by decide +kernel)))))) rfl
set_option maxRecDepth 20000 in
theorem zk_599 : Cond.code yX7_candidateOf cX7_candidateOf 3 (some .long) ∈ zz_w := zz_in (List.mem_append_right _ (List.mem_append_right _ (List.mem_append_right _ (List.mem_append_left _ (List.mem_of_getElem? (i := 119) (rfl)))))) rfl
theorem zk_597 : Cond.instanceMethod yX7_candidateOf ∈ zz_w := zz_in (List.mem_append_right _ (List.mem_append_right _ (List.mem_append_right _ (List.mem_append_left _ (List.mem_of_getElem? (i := 117) (by decide +kernel)))))) rfl
theorem zk_598 : Cond.selects RX7 yX7_candidateOf yX7_candidateOf ∈ zz_w := zz_in (List.mem_append_right _ (List.mem_append_right _ (List.mem_append_right _ (List.mem_append_left _ (List.mem_of_getElem? (i := 118) (by decide +kernel)))))) rfl
theorem zc_L_135 : zz_cV RL 135 yX7_candidateOf cX7_candidateOf 3 (some .long) 2 := ⟨⟨zk_596, zk_599, zk_1, by decide, by decide, by decide +kernel⟩, zk_597, zk_598⟩
theorem zk_1065 : Cond.methodLink RL 139 yX8_candidateOf ∈ zz_w := zz_in (List.mem_append_right _ (List.mem_append_right _ (List.mem_append_right _ (List.mem_append_right _ (List.mem_append_right _ (List.mem_of_getElem? (i := 105) (by decide +kernel))))))) rfl
set_option maxRecDepth 20000 in
theorem zk_1068 : Cond.code yX8_candidateOf cX8_candidateOf 3 (some .long) ∈ zz_w := zz_in (List.mem_append_right _ (List.mem_append_right _ (List.mem_append_right _ (List.mem_append_right _ (List.mem_append_right _ (List.mem_of_getElem? (i := 108) (rfl))))))) rfl
theorem zk_1066 : Cond.instanceMethod yX8_candidateOf ∈ zz_w := zz_in (List.mem_append_right _ (List.mem_append_right _ (List.mem_append_right _ (List.mem_append_right _ (List.mem_append_right _ (List.mem_of_getElem? (i := 106) (by decide +kernel))))))) rfl
theorem zk_1067 : Cond.selects RX8 yX8_candidateOf yX8_candidateOf ∈ zz_w := zz_in (List.mem_append_right _ (List.mem_append_right _ (List.mem_append_right _ (List.mem_append_right _ (List.mem_append_right _ (List.mem_of_getElem? (i := 107) (by decide +kernel))))))) rfl
theorem zc_L_139 : zz_cV RL 139 yX8_candidateOf cX8_candidateOf 3 (some .long) 2 := ⟨⟨zk_1065, zk_1068, zk_7, by decide, by decide, by decide +kernel⟩, zk_1066, zk_1067⟩
set_option maxHeartbeats 4000000 in
set_option maxRecDepth 100000 in
theorem law_c27 {p : Program} {l : Launch} {e : Env} {s : State} {m : MethodId} {below : List Frame} {meth : Method} {c : Code} {A : Nat → Prop} {H : Heap} {locs : List Loc} {ls : Array Slot} (g : zz_G) (b : Nat) (xs : Nat → Int32) (ox ox1 ox10 ox12 ox16 ox22 ox30 ox17 ox18 ox19 ox20 ox21 om om1 om2 om3 om4 om5 om6 om7 om8 om9 om10 om11 om12 om13 om14 om15 om16 om17 om18 om19 om20 om21 om22 om23 om24 om25 om26 om27 om28 om29 : Nat) (hC : zz_C p s m #[Value.ref b] meth c g RL code 4 ret) (hX : va_X b 9 xs s s.heap) (hbl : b < s.heap.size) (hAs : ∀ q, A q → s.heap.size ≤ q) (hZ : zz_Z g A s.heap [(ox, .inr (6, [.ref ox1, .ref ox10, .ref ox12, .ref ox16, .ref ox22, .ref ox30, .int 0, .int 0])), (ox16, .inr (0, [.ref ox1, .int 0, .ref ox17, .ref ox18, .ref ox19, .ref ox20, .ref ox21])), (om, .inr (7, [.int 0, .int 0, .ref om1, .ref om2, .ref om3, .ref om4, .ref om5, .ref om6, .ref om7, .int 0, .ref om8, .ref om9, .ref om10, .ref om11, .int 0, .int 0, .ref om12, .ref om13, .ref om14, .ref om15, .int 0, .ref om16, .ref om17, .ref om18, .ref om19, .int 0, .ref om20, .ref om21, .ref om22, .ref om23, .ref om24, .ref om25, .ref om26, .int 0, .ref om27, .ref om28, .ref om29]))] H locs) (hl : lv_has ls 4 [(3, .int 0), (2, .ref om), (1, .ref ox), (0, .ref b)]) : W p l e room_1 s m #[Value.ref b] below meth c H locs 61 89631 (lw_Z below #[Value.ref b] s) (F0 m 1614 ls []) := by
  obtain ⟨hx, hb, hml, hown, hts, hr, hlocks, hK⟩ := id hC
  have hbA : ¬ A b := fun q => absurd (hAs b q) (by omega)
  refine lv_aload_n hx hb dL_law_1614 rfl (lv_at hl 2 rfl) ?_
  refine lv_aload_n hx hb dL_law_1615 rfl (lv_at hl 3 rfl) ?_
  refine lv_iload_n hx hb dL_law_1616 rfl (lv_at hl 0 rfl) ?_
  refine lv_iconst (v := 1) hx hb dL_law_1617 (by decide) ?_
  refine lv_iadd hx hb dL_law_1618 ?_
  refine zz_topi (v := 1) (by decide) ?_
  refine va_sld hx hb hX hbl hbA hZ.2.2.1 (by unfold vp_in; decide) dL_law_1619 ?_
  rw [zl_c1]
  refine lv_aload_n hx hb dL_law_1620 rfl (lv_at hl 3 rfl) ?_
  refine lv_iload_n hx hb dL_law_1621 rfl (lv_at hl 0 rfl) ?_
  refine lv_iconst (v := 2) hx hb dL_law_1622 (by decide) ?_
  refine lv_iadd hx hb dL_law_1623 ?_
  refine zz_topi (v := 2) (by decide) ?_
  refine va_sld hx hb hX hbl hbA hZ.2.2.1 (by unfold vp_in; decide) dL_law_1624 ?_
  rw [zl_c2]
  refine zz_lV (As := [.int (xs 1), .int (xs 2)]) (wc := [(ox, .inr (6, [.ref ox1, .ref ox10, .ref ox12, .ref ox16, .ref ox22, .ref ox30, .int 0, .int 0])), (ox16, .inr (0, [.ref ox1, .int 0, .ref ox17, .ref ox18, .ref ox19, .ref ox20, .ref ox21]))]) (wr := [(om, .inr (7, [.int 0, .int 0, .ref om1, .ref om2, .ref om3, .ref om4, .ref om5, .ref om6, .ref om7, .int 0, .ref om8, .ref om9, .ref om10, .ref om11, .int 0, .int 0, .ref om12, .ref om13, .ref om14, .ref om15, .int 0, .ref om16, .ref om17, .ref om18, .ref om19, .int 0, .ref om20, .ref om21, .ref om22, .ref om23, .ref om24, .ref om25, .ref om26, .int 0, .ref om27, .ref om28, .ref om29]))]) (rest := []) hC hZ hl zc_L_135 (cx_candidateOf g ox ox1 ox10 ox12 ox16 ox22 ox30 ox17 ox18 ox19 ox20 ox21 (xs 1) (xs 2)) [0, 1] [2] rfl rfl (by decide) (ci := 6) (q0 := 0) rfl rfl rfl rfl (Nat.le_of_ble_eq_true rfl) ⟨⟨Nat.le_of_ble_eq_true rfl, Nat.le_of_ble_eq_true rfl⟩, Nat.le_of_ble_eq_true rfl, Nat.le_of_ble_eq_true rfl⟩ dL_law_1625 (fun r1 u2 H locs hp hZ => ?_)
  obtain rfl := hp
  have hZ : zz_Z g A s.heap [(om, .inr (7, [.int 0, .int 0, .ref om1, .ref om2, .ref om3, .ref om4, .ref om5, .ref om6, .ref om7, .int 0, .ref om8, .ref om9, .ref om10, .ref om11, .int 0, .int 0, .ref om12, .ref om13, .ref om14, .ref om15, .int 0, .ref om16, .ref om17, .ref om18, .ref om19, .int 0, .ref om20, .ref om21, .ref om22, .ref om23, .ref om24, .ref om25, .ref om26, .int 0, .ref om27, .ref om28, .ref om29]))] H locs := hZ.left
  refine lv_aload_n hx hb dL_law_1628 rfl (lv_at hl 1 rfl) ?_
  refine lv_aload_n hx hb dL_law_1629 rfl (lv_at hl 3 rfl) ?_
  refine lv_iload_n hx hb dL_law_1630 rfl (lv_at hl 0 rfl) ?_
  refine lv_iconst (v := 1) hx hb dL_law_1631 (by decide) ?_
  refine lv_iadd hx hb dL_law_1632 ?_
  refine zz_topi (v := 1) (by decide) ?_
  refine va_sld hx hb hX hbl hbA hZ.2.2.1 (by unfold vp_in; decide) dL_law_1633 ?_
  rw [zl_c1]
  refine lv_aload_n hx hb dL_law_1634 rfl (lv_at hl 3 rfl) ?_
  refine lv_iload_n hx hb dL_law_1635 rfl (lv_at hl 0 rfl) ?_
  refine lv_iconst (v := 2) hx hb dL_law_1636 (by decide) ?_
  refine lv_iadd hx hb dL_law_1637 ?_
  refine zz_topi (v := 2) (by decide) ?_
  refine va_sld hx hb hX hbl hbA hZ.2.2.1 (by unfold vp_in; decide) dL_law_1638 ?_
  rw [zl_c2]
  refine zz_lV (As := [.int (xs 1), .int (xs 2)]) (wc := [(om, .inr (7, [.int 0, .int 0, .ref om1, .ref om2, .ref om3, .ref om4, .ref om5, .ref om6, .ref om7, .int 0, .ref om8, .ref om9, .ref om10, .ref om11, .int 0, .int 0, .ref om12, .ref om13, .ref om14, .ref om15, .int 0, .ref om16, .ref om17, .ref om18, .ref om19, .int 0, .ref om20, .ref om21, .ref om22, .ref om23, .ref om24, .ref om25, .ref om26, .int 0, .ref om27, .ref om28, .ref om29]))]) (wr := []) (rest := [.long fn_cx_candidateOf]) hC hZ hl zc_L_139 (my_candidateOf g om om1 om2 om3 om4 om5 om6 om7 om8 om9 om10 om11 om12 om13 om14 om15 om16 om17 om18 om19 om20 om21 om22 om23 om24 om25 om26 om27 om28 om29 (xs 1) (xs 2)) [0] [] rfl rfl (by decide) (ci := 7) (q0 := 0) rfl rfl rfl rfl (Nat.le_of_ble_eq_true rfl) ⟨⟨Nat.le_of_ble_eq_true rfl, Nat.le_of_ble_eq_true rfl⟩, Nat.le_of_ble_eq_true rfl, Nat.le_of_ble_eq_true rfl⟩ dL_law_1639 (fun r3 u4 H locs hp hZ => ?_)
  obtain rfl := hp
  have hZ : zz_Z g A s.heap [] H locs := hZ.left
  refine zz_lcmp_eq (tgt := 1875) hC dL_law_1642 dL_law_1643 (by decide) (fun c5 => ?_) (fun c => absurd (rfl) c)
  exact law_tail hC hX hbl hAs hZ.2.2.1 (Nat.le_of_ble_eq_true rfl) (Nat.le_of_ble_eq_true rfl) (lv_sub hl [3, 0] rfl)
theorem zk_600 : Cond.methodLink RL 140 yX7_rule ∈ zz_w := zz_in (List.mem_append_right _ (List.mem_append_right _ (List.mem_append_right _ (List.mem_append_left _ (List.mem_of_getElem? (i := 120) (by decide +kernel)))))) rfl
set_option maxRecDepth 20000 in
theorem zk_603 : Cond.code yX7_rule cX7_rule 11 (some .int) ∈ zz_w := zz_in (List.mem_append_right _ (List.mem_append_right _ (List.mem_append_right _ (List.mem_append_left _ (List.mem_of_getElem? (i := 123) (rfl)))))) rfl
theorem zk_601 : Cond.instanceMethod yX7_rule ∈ zz_w := zz_in (List.mem_append_right _ (List.mem_append_right _ (List.mem_append_right _ (List.mem_append_left _ (List.mem_of_getElem? (i := 121) (by decide +kernel)))))) rfl
theorem zk_602 : Cond.selects RX7 yX7_rule yX7_rule ∈ zz_w := zz_in (List.mem_append_right _ (List.mem_append_right _ (List.mem_append_right _ (List.mem_append_left _ (List.mem_of_getElem? (i := 122) (by decide +kernel)))))) rfl
theorem zc_L_140 : zz_cV RL 140 yX7_rule cX7_rule 11 (some .int) 5 := ⟨⟨zk_600, zk_603, zk_1, by decide, by decide, by decide +kernel⟩, zk_601, zk_602⟩
theorem zk_1069 : Cond.methodLink RL 144 yX8_rule ∈ zz_w := zz_in (List.mem_append_right _ (List.mem_append_right _ (List.mem_append_right _ (List.mem_append_right _ (List.mem_append_right _ (List.mem_of_getElem? (i := 109) (by decide +kernel))))))) rfl
set_option maxRecDepth 20000 in
theorem zk_1072 : Cond.code yX8_rule cX8_rule 9 (some .int) ∈ zz_w := zz_in (List.mem_append_right _ (List.mem_append_right _ (List.mem_append_right _ (List.mem_append_right _ (List.mem_append_right _ (List.mem_of_getElem? (i := 112) (rfl))))))) rfl
theorem zk_1070 : Cond.instanceMethod yX8_rule ∈ zz_w := zz_in (List.mem_append_right _ (List.mem_append_right _ (List.mem_append_right _ (List.mem_append_right _ (List.mem_append_right _ (List.mem_of_getElem? (i := 110) (by decide +kernel))))))) rfl
theorem zk_1071 : Cond.selects RX8 yX8_rule yX8_rule ∈ zz_w := zz_in (List.mem_append_right _ (List.mem_append_right _ (List.mem_append_right _ (List.mem_append_right _ (List.mem_append_right _ (List.mem_of_getElem? (i := 111) (by decide +kernel))))))) rfl
theorem zc_L_144 : zz_cV RL 144 yX8_rule cX8_rule 9 (some .int) 5 := ⟨⟨zk_1069, zk_1072, zk_7, by decide, by decide, by decide +kernel⟩, zk_1070, zk_1071⟩
set_option maxHeartbeats 4000000 in
set_option maxRecDepth 100000 in
theorem law_c28 {p : Program} {l : Launch} {e : Env} {s : State} {m : MethodId} {below : List Frame} {meth : Method} {c : Code} {A : Nat → Prop} {H : Heap} {locs : List Loc} {ls : Array Slot} (g : zz_G) (b : Nat) (xs : Nat → Int32) (ox ox1 ox10 ox12 ox16 ox22 ox30 ox2 ox3 ox4 ox5 ox6 ox7 ox8 ox9 om om1 om2 om3 om4 om5 om6 om7 om8 om9 om10 om11 om12 om13 om14 om15 om16 om17 om18 om19 om20 om21 om22 om23 om24 om25 om26 om27 om28 om29 : Nat) (hC : zz_C p s m #[Value.ref b] meth c g RL code 4 ret) (hX : va_X b 9 xs s s.heap) (hbl : b < s.heap.size) (hAs : ∀ q, A q → s.heap.size ≤ q) (hZ : zz_Z g A s.heap [(ox, .inr (6, [.ref ox1, .ref ox10, .ref ox12, .ref ox16, .ref ox22, .ref ox30, .int 0, .int 0])), (ox1, .inr (5, [.int 0, .int 0, .ref ox2, .ref ox3, .ref ox4, .ref ox5, .ref ox6, .ref ox7, .ref ox8, .ref ox9])), (om, .inr (7, [.int 0, .int 0, .ref om1, .ref om2, .ref om3, .ref om4, .ref om5, .ref om6, .ref om7, .int 0, .ref om8, .ref om9, .ref om10, .ref om11, .int 0, .int 0, .ref om12, .ref om13, .ref om14, .ref om15, .int 0, .ref om16, .ref om17, .ref om18, .ref om19, .int 0, .ref om20, .ref om21, .ref om22, .ref om23, .ref om24, .ref om25, .ref om26, .int 0, .ref om27, .ref om28, .ref om29]))] H locs) (hl : lv_has ls 4 [(3, .int 0), (2, .ref om), (1, .ref ox), (0, .ref b)]) : W p l e room_1 s m #[Value.ref b] below meth c H locs 61 89631 (lw_Z below #[Value.ref b] s) (F0 m 1648 ls []) := by
  obtain ⟨hx, hb, hml, hown, hts, hr, hlocks, hK⟩ := id hC
  have hbA : ¬ A b := fun q => absurd (hAs b q) (by omega)
  refine lv_aload_n hx hb dL_law_1648 rfl (lv_at hl 2 rfl) ?_
  refine lv_aload_n hx hb dL_law_1649 rfl (lv_at hl 3 rfl) ?_
  refine lv_iload_n hx hb dL_law_1650 rfl (lv_at hl 0 rfl) ?_
  refine lv_iconst (v := 1) hx hb dL_law_1651 (by decide) ?_
  refine lv_iadd hx hb dL_law_1652 ?_
  refine zz_topi (v := 1) (by decide) ?_
  refine va_sld hx hb hX hbl hbA hZ.2.2.1 (by unfold vp_in; decide) dL_law_1653 ?_
  rw [zl_c1]
  refine lv_aload_n hx hb dL_law_1654 rfl (lv_at hl 3 rfl) ?_
  refine lv_iload_n hx hb dL_law_1655 rfl (lv_at hl 0 rfl) ?_
  refine lv_iconst (v := 2) hx hb dL_law_1656 (by decide) ?_
  refine lv_iadd hx hb dL_law_1657 ?_
  refine zz_topi (v := 2) (by decide) ?_
  refine va_sld hx hb hX hbl hbA hZ.2.2.1 (by unfold vp_in; decide) dL_law_1658 ?_
  rw [zl_c2]
  refine lv_aload_n hx hb dL_law_1659 rfl (lv_at hl 3 rfl) ?_
  refine lv_iload_n hx hb dL_law_1660 rfl (lv_at hl 0 rfl) ?_
  refine lv_iconst (v := 3) hx hb dL_law_1661 (by decide) ?_
  refine lv_iadd hx hb dL_law_1662 ?_
  refine zz_topi (v := 3) (by decide) ?_
  refine va_sld hx hb hX hbl hbA hZ.2.2.1 (by unfold vp_in; decide) dL_law_1663 ?_
  rw [zl_c3]
  refine lv_aload_n hx hb dL_law_1664 rfl (lv_at hl 3 rfl) ?_
  refine lv_iload_n hx hb dL_law_1665 rfl (lv_at hl 0 rfl) ?_
  refine lv_iconst (v := 4) hx hb dL_law_1666 (by decide) ?_
  refine lv_iadd hx hb dL_law_1667 ?_
  refine zz_topi (v := 4) (by decide) ?_
  refine va_sld hx hb hX hbl hbA hZ.2.2.1 (by unfold vp_in; decide) dL_law_1668 ?_
  rw [zl_c4]
  refine lv_i2l hx hb dL_law_1669 rfl ?_
  refine lv_bipush (v := 32) hx hb dL_law_1670 (by decide) ?_
  refine lv_lshl hx hb dL_law_1672 rfl ?_
  refine lv_aload_n hx hb dL_law_1673 rfl (lv_at hl 3 rfl) ?_
  refine lv_iload_n hx hb dL_law_1674 rfl (lv_at hl 0 rfl) ?_
  refine lv_iconst (v := 5) hx hb dL_law_1675 (by decide) ?_
  refine lv_iadd hx hb dL_law_1676 ?_
  refine zz_topi (v := 5) (by decide) ?_
  refine va_sld hx hb hX hbl hbA hZ.2.2.1 (by unfold vp_in; decide) dL_law_1677 ?_
  rw [zl_c5]
  refine lv_i2l hx hb dL_law_1678 rfl ?_
  refine lv_ldc2 hx hb hown (hts _ zk_1133) dL_law_1679 ?_
  refine lv_land hx hb dL_law_1682 ?_
  refine lv_lor hx hb dL_law_1683 ?_
  refine lv_aload_n hx hb dL_law_1684 rfl (lv_at hl 3 rfl) ?_
  refine lv_iload_n hx hb dL_law_1685 rfl (lv_at hl 0 rfl) ?_
  refine lv_bipush (v := 6) hx hb dL_law_1686 (by decide) ?_
  refine lv_iadd hx hb dL_law_1688 ?_
  refine zz_topi (v := 6) (by decide) ?_
  refine va_sld hx hb hX hbl hbA hZ.2.2.1 (by unfold vp_in; decide) dL_law_1689 ?_
  rw [zl_c6]
  refine lv_i2l hx hb dL_law_1690 rfl ?_
  refine lv_bipush (v := 32) hx hb dL_law_1691 (by decide) ?_
  refine lv_lshl hx hb dL_law_1693 rfl ?_
  refine lv_aload_n hx hb dL_law_1694 rfl (lv_at hl 3 rfl) ?_
  refine lv_iload_n hx hb dL_law_1695 rfl (lv_at hl 0 rfl) ?_
  refine lv_bipush (v := 7) hx hb dL_law_1696 (by decide) ?_
  refine lv_iadd hx hb dL_law_1698 ?_
  refine zz_topi (v := 7) (by decide) ?_
  refine va_sld hx hb hX hbl hbA hZ.2.2.1 (by unfold vp_in; decide) dL_law_1699 ?_
  rw [zl_c7]
  refine lv_i2l hx hb dL_law_1700 rfl ?_
  refine lv_ldc2 hx hb hown (hts _ zk_1133) dL_law_1701 ?_
  refine lv_land hx hb dL_law_1704 ?_
  refine lv_lor hx hb dL_law_1705 ?_
  refine zz_iV (As := [.int (xs 1), .int (xs 2), .int (xs 3), .long ((((xs 4).toInt64) <<< ((32 : Int32).toInt64 &&& 63)) ||| (((xs 5).toInt64) &&& 4294967295)), .long ((((xs 6).toInt64) <<< ((32 : Int32).toInt64 &&& 63)) ||| (((xs 7).toInt64) &&& 4294967295))]) (wc := [(ox, .inr (6, [.ref ox1, .ref ox10, .ref ox12, .ref ox16, .ref ox22, .ref ox30, .int 0, .int 0])), (ox1, .inr (5, [.int 0, .int 0, .ref ox2, .ref ox3, .ref ox4, .ref ox5, .ref ox6, .ref ox7, .ref ox8, .ref ox9]))]) (wr := [(om, .inr (7, [.int 0, .int 0, .ref om1, .ref om2, .ref om3, .ref om4, .ref om5, .ref om6, .ref om7, .int 0, .ref om8, .ref om9, .ref om10, .ref om11, .int 0, .int 0, .ref om12, .ref om13, .ref om14, .ref om15, .int 0, .ref om16, .ref om17, .ref om18, .ref om19, .int 0, .ref om20, .ref om21, .ref om22, .ref om23, .ref om24, .ref om25, .ref om26, .int 0, .ref om27, .ref om28, .ref om29]))]) (rest := []) hC hZ hl zc_L_140 (cx_rule g ox ox1 ox10 ox12 ox16 ox22 ox30 ox2 ox3 ox4 ox5 ox6 ox7 ox8 ox9 (xs 1) (xs 2) (xs 3) ((((xs 4).toInt64) <<< ((32 : Int32).toInt64 &&& 63)) ||| (((xs 5).toInt64) &&& 4294967295)) ((((xs 6).toInt64) <<< ((32 : Int32).toInt64 &&& 63)) ||| (((xs 7).toInt64) &&& 4294967295))) [0, 1] [2] rfl rfl (by decide) (ci := 6) (q0 := 0) rfl rfl rfl rfl (Nat.le_of_ble_eq_true rfl) ⟨⟨Nat.le_of_ble_eq_true rfl, Nat.le_of_ble_eq_true rfl⟩, Nat.le_of_ble_eq_true rfl, Nat.le_of_ble_eq_true rfl⟩ dL_law_1706 (fun r1 u2 H locs hp hZ => ?_)
  obtain rfl := hp
  have hZ : zz_Z g A s.heap [(om, .inr (7, [.int 0, .int 0, .ref om1, .ref om2, .ref om3, .ref om4, .ref om5, .ref om6, .ref om7, .int 0, .ref om8, .ref om9, .ref om10, .ref om11, .int 0, .int 0, .ref om12, .ref om13, .ref om14, .ref om15, .int 0, .ref om16, .ref om17, .ref om18, .ref om19, .int 0, .ref om20, .ref om21, .ref om22, .ref om23, .ref om24, .ref om25, .ref om26, .int 0, .ref om27, .ref om28, .ref om29]))] H locs := hZ.left
  refine lv_aload_n hx hb dL_law_1709 rfl (lv_at hl 1 rfl) ?_
  refine lv_aload_n hx hb dL_law_1710 rfl (lv_at hl 3 rfl) ?_
  refine lv_iload_n hx hb dL_law_1711 rfl (lv_at hl 0 rfl) ?_
  refine lv_iconst (v := 1) hx hb dL_law_1712 (by decide) ?_
  refine lv_iadd hx hb dL_law_1713 ?_
  refine zz_topi (v := 1) (by decide) ?_
  refine va_sld hx hb hX hbl hbA hZ.2.2.1 (by unfold vp_in; decide) dL_law_1714 ?_
  rw [zl_c1]
  refine lv_aload_n hx hb dL_law_1715 rfl (lv_at hl 3 rfl) ?_
  refine lv_iload_n hx hb dL_law_1716 rfl (lv_at hl 0 rfl) ?_
  refine lv_iconst (v := 2) hx hb dL_law_1717 (by decide) ?_
  refine lv_iadd hx hb dL_law_1718 ?_
  refine zz_topi (v := 2) (by decide) ?_
  refine va_sld hx hb hX hbl hbA hZ.2.2.1 (by unfold vp_in; decide) dL_law_1719 ?_
  rw [zl_c2]
  refine lv_aload_n hx hb dL_law_1720 rfl (lv_at hl 3 rfl) ?_
  refine lv_iload_n hx hb dL_law_1721 rfl (lv_at hl 0 rfl) ?_
  refine lv_iconst (v := 3) hx hb dL_law_1722 (by decide) ?_
  refine lv_iadd hx hb dL_law_1723 ?_
  refine zz_topi (v := 3) (by decide) ?_
  refine va_sld hx hb hX hbl hbA hZ.2.2.1 (by unfold vp_in; decide) dL_law_1724 ?_
  rw [zl_c3]
  refine lv_aload_n hx hb dL_law_1725 rfl (lv_at hl 3 rfl) ?_
  refine lv_iload_n hx hb dL_law_1726 rfl (lv_at hl 0 rfl) ?_
  refine lv_iconst (v := 4) hx hb dL_law_1727 (by decide) ?_
  refine lv_iadd hx hb dL_law_1728 ?_
  refine zz_topi (v := 4) (by decide) ?_
  refine va_sld hx hb hX hbl hbA hZ.2.2.1 (by unfold vp_in; decide) dL_law_1729 ?_
  rw [zl_c4]
  refine lv_i2l hx hb dL_law_1730 rfl ?_
  refine lv_bipush (v := 32) hx hb dL_law_1731 (by decide) ?_
  refine lv_lshl hx hb dL_law_1733 rfl ?_
  refine lv_aload_n hx hb dL_law_1734 rfl (lv_at hl 3 rfl) ?_
  refine lv_iload_n hx hb dL_law_1735 rfl (lv_at hl 0 rfl) ?_
  refine lv_iconst (v := 5) hx hb dL_law_1736 (by decide) ?_
  refine lv_iadd hx hb dL_law_1737 ?_
  refine zz_topi (v := 5) (by decide) ?_
  refine va_sld hx hb hX hbl hbA hZ.2.2.1 (by unfold vp_in; decide) dL_law_1738 ?_
  rw [zl_c5]
  refine lv_i2l hx hb dL_law_1739 rfl ?_
  refine lv_ldc2 hx hb hown (hts _ zk_1133) dL_law_1740 ?_
  refine lv_land hx hb dL_law_1743 ?_
  refine lv_lor hx hb dL_law_1744 ?_
  refine lv_aload_n hx hb dL_law_1745 rfl (lv_at hl 3 rfl) ?_
  refine lv_iload_n hx hb dL_law_1746 rfl (lv_at hl 0 rfl) ?_
  refine lv_bipush (v := 6) hx hb dL_law_1747 (by decide) ?_
  refine lv_iadd hx hb dL_law_1749 ?_
  refine zz_topi (v := 6) (by decide) ?_
  refine va_sld hx hb hX hbl hbA hZ.2.2.1 (by unfold vp_in; decide) dL_law_1750 ?_
  rw [zl_c6]
  refine lv_i2l hx hb dL_law_1751 rfl ?_
  refine lv_bipush (v := 32) hx hb dL_law_1752 (by decide) ?_
  refine lv_lshl hx hb dL_law_1754 rfl ?_
  refine lv_aload_n hx hb dL_law_1755 rfl (lv_at hl 3 rfl) ?_
  refine lv_iload_n hx hb dL_law_1756 rfl (lv_at hl 0 rfl) ?_
  refine lv_bipush (v := 7) hx hb dL_law_1757 (by decide) ?_
  refine lv_iadd hx hb dL_law_1759 ?_
  refine zz_topi (v := 7) (by decide) ?_
  refine va_sld hx hb hX hbl hbA hZ.2.2.1 (by unfold vp_in; decide) dL_law_1760 ?_
  rw [zl_c7]
  refine lv_i2l hx hb dL_law_1761 rfl ?_
  refine lv_ldc2 hx hb hown (hts _ zk_1133) dL_law_1762 ?_
  refine lv_land hx hb dL_law_1765 ?_
  refine lv_lor hx hb dL_law_1766 ?_
  refine zz_iV (As := [.int (xs 1), .int (xs 2), .int (xs 3), .long ((((xs 4).toInt64) <<< ((32 : Int32).toInt64 &&& 63)) ||| (((xs 5).toInt64) &&& 4294967295)), .long ((((xs 6).toInt64) <<< ((32 : Int32).toInt64 &&& 63)) ||| (((xs 7).toInt64) &&& 4294967295))]) (wc := [(om, .inr (7, [.int 0, .int 0, .ref om1, .ref om2, .ref om3, .ref om4, .ref om5, .ref om6, .ref om7, .int 0, .ref om8, .ref om9, .ref om10, .ref om11, .int 0, .int 0, .ref om12, .ref om13, .ref om14, .ref om15, .int 0, .ref om16, .ref om17, .ref om18, .ref om19, .int 0, .ref om20, .ref om21, .ref om22, .ref om23, .ref om24, .ref om25, .ref om26, .int 0, .ref om27, .ref om28, .ref om29]))]) (wr := []) (rest := [.int fn_cx_rule]) hC hZ hl zc_L_144 (my_rule g om om1 om2 om3 om4 om5 om6 om7 om8 om9 om10 om11 om12 om13 om14 om15 om16 om17 om18 om19 om20 om21 om22 om23 om24 om25 om26 om27 om28 om29 (xs 1) (xs 2) (xs 3) ((((xs 4).toInt64) <<< ((32 : Int32).toInt64 &&& 63)) ||| (((xs 5).toInt64) &&& 4294967295)) ((((xs 6).toInt64) <<< ((32 : Int32).toInt64 &&& 63)) ||| (((xs 7).toInt64) &&& 4294967295))) [0] [] rfl rfl (by decide) (ci := 7) (q0 := 0) rfl rfl rfl rfl (Nat.le_of_ble_eq_true rfl) ⟨⟨Nat.le_of_ble_eq_true rfl, Nat.le_of_ble_eq_true rfl⟩, Nat.le_of_ble_eq_true rfl, Nat.le_of_ble_eq_true rfl⟩ dL_law_1767 (fun r3 u4 H locs hp hZ => ?_)
  obtain rfl := hp
  have hZ : zz_Z g A s.heap [] H locs := hZ.left
  refine lv_icmp_eq (tgt := 1875) hx hb dL_law_1770 (by decide) (fun c5 => ?_) (fun c => absurd (rfl) c)
  exact law_tail hC hX hbl hAs hZ.2.2.1 (Nat.le_of_ble_eq_true rfl) (Nat.le_of_ble_eq_true rfl) (lv_sub hl [3, 0] rfl)
theorem zk_608 : Cond.methodLink RL 145 yX7_amount ∈ zz_w := zz_in (List.mem_append_right _ (List.mem_append_right _ (List.mem_append_right _ (List.mem_append_left _ (List.mem_of_getElem? (i := 128) (by decide +kernel)))))) rfl
set_option maxRecDepth 20000 in
theorem zk_611 : Cond.code yX7_amount cX7_amount 2 (some .long) ∈ zz_w := zz_in (List.mem_append_right _ (List.mem_append_right _ (List.mem_append_right _ (List.mem_append_left _ (List.mem_of_getElem? (i := 131) (rfl)))))) rfl
theorem zk_609 : Cond.instanceMethod yX7_amount ∈ zz_w := zz_in (List.mem_append_right _ (List.mem_append_right _ (List.mem_append_right _ (List.mem_append_left _ (List.mem_of_getElem? (i := 129) (by decide +kernel)))))) rfl
theorem zk_610 : Cond.selects RX7 yX7_amount yX7_amount ∈ zz_w := zz_in (List.mem_append_right _ (List.mem_append_right _ (List.mem_append_right _ (List.mem_append_left _ (List.mem_of_getElem? (i := 130) (by decide +kernel)))))) rfl
theorem zc_L_145 : zz_cV RL 145 yX7_amount cX7_amount 2 (some .long) 1 := ⟨⟨zk_608, zk_611, zk_1, by decide, by decide, by decide +kernel⟩, zk_609, zk_610⟩
theorem zk_1074 : Cond.methodLink RL 149 yX8_amount ∈ zz_w := zz_in (List.mem_append_right _ (List.mem_append_right _ (List.mem_append_right _ (List.mem_append_right _ (List.mem_append_right _ (List.mem_of_getElem? (i := 114) (by decide +kernel))))))) rfl
set_option maxRecDepth 20000 in
theorem zk_1077 : Cond.code yX8_amount cX8_amount 2 (some .long) ∈ zz_w := zz_in (List.mem_append_right _ (List.mem_append_right _ (List.mem_append_right _ (List.mem_append_right _ (List.mem_append_right _ (List.mem_of_getElem? (i := 117) (rfl))))))) rfl
theorem zk_1075 : Cond.instanceMethod yX8_amount ∈ zz_w := zz_in (List.mem_append_right _ (List.mem_append_right _ (List.mem_append_right _ (List.mem_append_right _ (List.mem_append_right _ (List.mem_of_getElem? (i := 115) (by decide +kernel))))))) rfl
theorem zk_1076 : Cond.selects RX8 yX8_amount yX8_amount ∈ zz_w := zz_in (List.mem_append_right _ (List.mem_append_right _ (List.mem_append_right _ (List.mem_append_right _ (List.mem_append_right _ (List.mem_of_getElem? (i := 116) (by decide +kernel))))))) rfl
theorem zc_L_149 : zz_cV RL 149 yX8_amount cX8_amount 2 (some .long) 1 := ⟨⟨zk_1074, zk_1077, zk_7, by decide, by decide, by decide +kernel⟩, zk_1075, zk_1076⟩
set_option maxHeartbeats 4000000 in
set_option maxRecDepth 100000 in
theorem law_c29 {p : Program} {l : Launch} {e : Env} {s : State} {m : MethodId} {below : List Frame} {meth : Method} {c : Code} {A : Nat → Prop} {H : Heap} {locs : List Loc} {ls : Array Slot} (g : zz_G) (b : Nat) (xs : Nat → Int32) (ox ox1 ox10 ox12 ox16 ox22 ox30 ox23 ox24 ox25 ox26 ox27 ox28 ox29 om om1 om2 om3 om4 om5 om6 om7 om8 om9 om10 om11 om12 om13 om14 om15 om16 om17 om18 om19 om20 om21 om22 om23 om24 om25 om26 om27 om28 om29 : Nat) (hC : zz_C p s m #[Value.ref b] meth c g RL code 4 ret) (hX : va_X b 9 xs s s.heap) (hbl : b < s.heap.size) (hAs : ∀ q, A q → s.heap.size ≤ q) (hZ : zz_Z g A s.heap [(ox, .inr (6, [.ref ox1, .ref ox10, .ref ox12, .ref ox16, .ref ox22, .ref ox30, .int 0, .int 0])), (ox22, .inr (4, [.ref ox1, .int 0, .ref ox23, .ref ox24, .ref ox25, .ref ox26, .ref ox27, .ref ox28, .ref ox29])), (om, .inr (7, [.int 0, .int 0, .ref om1, .ref om2, .ref om3, .ref om4, .ref om5, .ref om6, .ref om7, .int 0, .ref om8, .ref om9, .ref om10, .ref om11, .int 0, .int 0, .ref om12, .ref om13, .ref om14, .ref om15, .int 0, .ref om16, .ref om17, .ref om18, .ref om19, .int 0, .ref om20, .ref om21, .ref om22, .ref om23, .ref om24, .ref om25, .ref om26, .int 0, .ref om27, .ref om28, .ref om29]))] H locs) (hl : lv_has ls 4 [(3, .int 0), (2, .ref om), (1, .ref ox), (0, .ref b)]) : W p l e room_1 s m #[Value.ref b] below meth c H locs 61 89631 (lw_Z below #[Value.ref b] s) (F0 m 1775 ls []) := by
  obtain ⟨hx, hb, hml, hown, hts, hr, hlocks, hK⟩ := id hC
  have hbA : ¬ A b := fun q => absurd (hAs b q) (by omega)
  refine lv_aload_n hx hb dL_law_1775 rfl (lv_at hl 2 rfl) ?_
  refine lv_aload_n hx hb dL_law_1776 rfl (lv_at hl 3 rfl) ?_
  refine lv_iload_n hx hb dL_law_1777 rfl (lv_at hl 0 rfl) ?_
  refine lv_iconst (v := 1) hx hb dL_law_1778 (by decide) ?_
  refine lv_iadd hx hb dL_law_1779 ?_
  refine zz_topi (v := 1) (by decide) ?_
  refine va_sld hx hb hX hbl hbA hZ.2.2.1 (by unfold vp_in; decide) dL_law_1780 ?_
  rw [zl_c1]
  refine zz_lV (As := [.int (xs 1)]) (wc := [(ox, .inr (6, [.ref ox1, .ref ox10, .ref ox12, .ref ox16, .ref ox22, .ref ox30, .int 0, .int 0])), (ox22, .inr (4, [.ref ox1, .int 0, .ref ox23, .ref ox24, .ref ox25, .ref ox26, .ref ox27, .ref ox28, .ref ox29]))]) (wr := [(om, .inr (7, [.int 0, .int 0, .ref om1, .ref om2, .ref om3, .ref om4, .ref om5, .ref om6, .ref om7, .int 0, .ref om8, .ref om9, .ref om10, .ref om11, .int 0, .int 0, .ref om12, .ref om13, .ref om14, .ref om15, .int 0, .ref om16, .ref om17, .ref om18, .ref om19, .int 0, .ref om20, .ref om21, .ref om22, .ref om23, .ref om24, .ref om25, .ref om26, .int 0, .ref om27, .ref om28, .ref om29]))]) (rest := []) hC hZ hl zc_L_145 (cx_amount g ox ox1 ox10 ox12 ox16 ox22 ox30 ox23 ox24 ox25 ox26 ox27 ox28 ox29 (xs 1)) [0, 1] [2] rfl rfl (by decide) (ci := 6) (q0 := 0) rfl rfl rfl rfl (Nat.le_of_ble_eq_true rfl) ⟨⟨Nat.le_of_ble_eq_true rfl, Nat.le_of_ble_eq_true rfl⟩, Nat.le_of_ble_eq_true rfl, Nat.le_of_ble_eq_true rfl⟩ dL_law_1781 (fun r1 u2 H locs hp hZ => ?_)
  obtain rfl := hp
  have hZ : zz_Z g A s.heap [(om, .inr (7, [.int 0, .int 0, .ref om1, .ref om2, .ref om3, .ref om4, .ref om5, .ref om6, .ref om7, .int 0, .ref om8, .ref om9, .ref om10, .ref om11, .int 0, .int 0, .ref om12, .ref om13, .ref om14, .ref om15, .int 0, .ref om16, .ref om17, .ref om18, .ref om19, .int 0, .ref om20, .ref om21, .ref om22, .ref om23, .ref om24, .ref om25, .ref om26, .int 0, .ref om27, .ref om28, .ref om29]))] H locs := hZ.left
  refine lv_aload_n hx hb dL_law_1784 rfl (lv_at hl 1 rfl) ?_
  refine lv_aload_n hx hb dL_law_1785 rfl (lv_at hl 3 rfl) ?_
  refine lv_iload_n hx hb dL_law_1786 rfl (lv_at hl 0 rfl) ?_
  refine lv_iconst (v := 1) hx hb dL_law_1787 (by decide) ?_
  refine lv_iadd hx hb dL_law_1788 ?_
  refine zz_topi (v := 1) (by decide) ?_
  refine va_sld hx hb hX hbl hbA hZ.2.2.1 (by unfold vp_in; decide) dL_law_1789 ?_
  rw [zl_c1]
  refine zz_lV (As := [.int (xs 1)]) (wc := [(om, .inr (7, [.int 0, .int 0, .ref om1, .ref om2, .ref om3, .ref om4, .ref om5, .ref om6, .ref om7, .int 0, .ref om8, .ref om9, .ref om10, .ref om11, .int 0, .int 0, .ref om12, .ref om13, .ref om14, .ref om15, .int 0, .ref om16, .ref om17, .ref om18, .ref om19, .int 0, .ref om20, .ref om21, .ref om22, .ref om23, .ref om24, .ref om25, .ref om26, .int 0, .ref om27, .ref om28, .ref om29]))]) (wr := []) (rest := [.long (fn_cx_amount (xs 1))]) hC hZ hl zc_L_149 (my_amount g om om1 om2 om3 om4 om5 om6 om7 om8 om9 om10 om11 om12 om13 om14 om15 om16 om17 om18 om19 om20 om21 om22 om23 om24 om25 om26 om27 om28 om29 (xs 1)) [0] [] rfl rfl (by decide) (ci := 7) (q0 := 0) rfl rfl rfl rfl (Nat.le_of_ble_eq_true rfl) ⟨⟨Nat.le_of_ble_eq_true rfl, Nat.le_of_ble_eq_true rfl⟩, Nat.le_of_ble_eq_true rfl, Nat.le_of_ble_eq_true rfl⟩ dL_law_1790 (fun r3 u4 H locs hp hZ => ?_)
  obtain rfl := hp
  have hZ : zz_Z g A s.heap [] H locs := hZ.left
  refine zz_lcmp_eq (tgt := 1875) hC dL_law_1793 dL_law_1794 (by decide) (fun c5 => ?_) (fun c => absurd (eq_amount _) c)
  exact law_tail hC hX hbl hAs hZ.2.2.1 (Nat.le_of_ble_eq_true rfl) (Nat.le_of_ble_eq_true rfl) (lv_sub hl [3, 0] rfl)
theorem zk_648 : Cond.methodLink RL 150 yX7_score ∈ zz_w := zz_in (List.mem_append_right _ (List.mem_append_right _ (List.mem_append_right _ (List.mem_append_left _ (List.mem_of_getElem? (i := 168) (by decide +kernel)))))) rfl
set_option maxRecDepth 20000 in
theorem zk_651 : Cond.code yX7_score cX7_score 1 (some .long) ∈ zz_w := zz_in (List.mem_append_right _ (List.mem_append_right _ (List.mem_append_right _ (List.mem_append_left _ (List.mem_of_getElem? (i := 171) (rfl)))))) rfl
theorem zk_649 : Cond.instanceMethod yX7_score ∈ zz_w := zz_in (List.mem_append_right _ (List.mem_append_right _ (List.mem_append_right _ (List.mem_append_left _ (List.mem_of_getElem? (i := 169) (by decide +kernel)))))) rfl
theorem zk_650 : Cond.selects RX7 yX7_score yX7_score ∈ zz_w := zz_in (List.mem_append_right _ (List.mem_append_right _ (List.mem_append_right _ (List.mem_append_left _ (List.mem_of_getElem? (i := 170) (by decide +kernel)))))) rfl
theorem zc_L_150 : zz_cV RL 150 yX7_score cX7_score 1 (some .long) 0 := ⟨⟨zk_648, zk_651, zk_1, by decide, by decide, by decide +kernel⟩, zk_649, zk_650⟩
theorem zk_1098 : Cond.methodLink RL 154 yX8_score ∈ zz_w := zz_in (List.mem_append_right _ (List.mem_append_right _ (List.mem_append_right _ (List.mem_append_right _ (List.mem_append_right _ (List.mem_of_getElem? (i := 138) (by decide +kernel))))))) rfl
theorem zc_L_154 : zz_cV RL 154 yX8_score cX8_score 4 (some .long) 0 := ⟨⟨zk_1098, zk_1101, zk_7, by decide, by decide, by decide +kernel⟩, zk_1099, zk_1100⟩
set_option maxHeartbeats 4000000 in
set_option maxRecDepth 100000 in
theorem law_c30 {p : Program} {l : Launch} {e : Env} {s : State} {m : MethodId} {below : List Frame} {meth : Method} {c : Code} {A : Nat → Prop} {H : Heap} {locs : List Loc} {ls : Array Slot} (g : zz_G) (b : Nat) (xs : Nat → Int32) (ox ox1 ox10 ox12 ox16 ox22 ox30 ox23 ox24 ox25 ox26 ox27 ox28 ox29 om om1 om2 om3 om4 om5 om6 om7 om8 om9 om10 om11 om12 om13 om14 om15 om16 om17 om18 om19 om20 om21 om22 om23 om24 om25 om26 om27 om28 om29 : Nat) (hC : zz_C p s m #[Value.ref b] meth c g RL code 4 ret) (hX : va_X b 9 xs s s.heap) (hbl : b < s.heap.size) (hAs : ∀ q, A q → s.heap.size ≤ q) (hZ : zz_Z g A s.heap [(ox, .inr (6, [.ref ox1, .ref ox10, .ref ox12, .ref ox16, .ref ox22, .ref ox30, .int 0, .int 0])), (ox22, .inr (4, [.ref ox1, .int 0, .ref ox23, .ref ox24, .ref ox25, .ref ox26, .ref ox27, .ref ox28, .ref ox29])), (om, .inr (7, [.int 0, .int 0, .ref om1, .ref om2, .ref om3, .ref om4, .ref om5, .ref om6, .ref om7, .int 0, .ref om8, .ref om9, .ref om10, .ref om11, .int 0, .int 0, .ref om12, .ref om13, .ref om14, .ref om15, .int 0, .ref om16, .ref om17, .ref om18, .ref om19, .int 0, .ref om20, .ref om21, .ref om22, .ref om23, .ref om24, .ref om25, .ref om26, .int 0, .ref om27, .ref om28, .ref om29]))] H locs) (hl : lv_has ls 4 [(3, .int 0), (2, .ref om), (1, .ref ox), (0, .ref b)]) : W p l e room_1 s m #[Value.ref b] below meth c H locs 61 89631 (lw_Z below #[Value.ref b] s) (F0 m 1799 ls []) := by
  obtain ⟨hx, hb, hml, hown, hts, hr, hlocks, hK⟩ := id hC
  have hbA : ¬ A b := fun q => absurd (hAs b q) (by omega)
  refine lv_aload_n hx hb dL_law_1799 rfl (lv_at hl 2 rfl) ?_
  refine zz_lV (As := []) (wc := [(ox, .inr (6, [.ref ox1, .ref ox10, .ref ox12, .ref ox16, .ref ox22, .ref ox30, .int 0, .int 0])), (ox22, .inr (4, [.ref ox1, .int 0, .ref ox23, .ref ox24, .ref ox25, .ref ox26, .ref ox27, .ref ox28, .ref ox29]))]) (wr := [(om, .inr (7, [.int 0, .int 0, .ref om1, .ref om2, .ref om3, .ref om4, .ref om5, .ref om6, .ref om7, .int 0, .ref om8, .ref om9, .ref om10, .ref om11, .int 0, .int 0, .ref om12, .ref om13, .ref om14, .ref om15, .int 0, .ref om16, .ref om17, .ref om18, .ref om19, .int 0, .ref om20, .ref om21, .ref om22, .ref om23, .ref om24, .ref om25, .ref om26, .int 0, .ref om27, .ref om28, .ref om29]))]) (rest := []) hC hZ hl zc_L_150 (cx_score g ox ox1 ox10 ox12 ox16 ox22 ox30 ox23 ox24 ox25 ox26 ox27 ox28 ox29) [0, 1] [2] rfl rfl (by decide) (ci := 6) (q0 := 0) rfl rfl rfl rfl (Nat.le_of_ble_eq_true rfl) ⟨⟨Nat.le_of_ble_eq_true rfl, Nat.le_of_ble_eq_true rfl⟩, Nat.le_of_ble_eq_true rfl, Nat.le_of_ble_eq_true rfl⟩ dL_law_1800 (fun r1 u2 H locs hp hZ => ?_)
  obtain rfl := hp
  have hZ : zz_Z g A s.heap [(om, .inr (7, [.int 0, .int 0, .ref om1, .ref om2, .ref om3, .ref om4, .ref om5, .ref om6, .ref om7, .int 0, .ref om8, .ref om9, .ref om10, .ref om11, .int 0, .int 0, .ref om12, .ref om13, .ref om14, .ref om15, .int 0, .ref om16, .ref om17, .ref om18, .ref om19, .int 0, .ref om20, .ref om21, .ref om22, .ref om23, .ref om24, .ref om25, .ref om26, .int 0, .ref om27, .ref om28, .ref om29]))] H locs := hZ.left
  refine lv_aload_n hx hb dL_law_1803 rfl (lv_at hl 1 rfl) ?_
  refine zz_lV (As := []) (wc := [(om, .inr (7, [.int 0, .int 0, .ref om1, .ref om2, .ref om3, .ref om4, .ref om5, .ref om6, .ref om7, .int 0, .ref om8, .ref om9, .ref om10, .ref om11, .int 0, .int 0, .ref om12, .ref om13, .ref om14, .ref om15, .int 0, .ref om16, .ref om17, .ref om18, .ref om19, .int 0, .ref om20, .ref om21, .ref om22, .ref om23, .ref om24, .ref om25, .ref om26, .int 0, .ref om27, .ref om28, .ref om29]))]) (wr := []) (rest := [.long fn_cx_score]) hC hZ hl zc_L_154 (cm_score0 g om om1 om2 om3 om4 om5 om6 om7 om8 om9 om10 om11 om12 om13 om14 om15 om16 om17 om18 om19 om20 om21 om22 om23 om24 om25 om26 om27 om28 om29) [0] [] rfl rfl (by decide) (ci := 7) (q0 := 0) rfl rfl rfl rfl (Nat.le_of_ble_eq_true rfl) ⟨⟨Nat.le_of_ble_eq_true rfl, Nat.le_of_ble_eq_true rfl⟩, Nat.le_of_ble_eq_true rfl, Nat.le_of_ble_eq_true rfl⟩ dL_law_1804 (fun r3 u4 H locs hp hZ => ?_)
  obtain ⟨rfl, rfl⟩ := hp
  have hZ : zz_Z g A s.heap [(om, .inr (7, [.int 0, .int 0, .ref om1, .ref om2, .ref om3, .ref om4, .ref om5, .ref om6, .ref om7, .int 0, .ref om8, .ref om9, .ref om10, .ref om11, .int 0, .int 0, .ref om12, .ref om13, .ref om14, .ref om15, .int 0, .ref om16, .ref om17, .ref om18, .ref om19, .int 0, .ref om20, .ref om21, .ref om22, .ref om23, .ref om24, .ref om25, .ref om26, .int 0, .ref om27, .ref om28, .ref om29]))] H locs := hZ
  refine zz_lcmp_eq (tgt := 1875) hC dL_law_1807 dL_law_1808 (by decide) (fun c5 => ?_) (fun c => absurd (rfl) c)
  exact law_tail hC hX hbl hAs hZ.2.2.1 (Nat.le_of_ble_eq_true rfl) (Nat.le_of_ble_eq_true rfl) (lv_sub hl [3, 0] rfl)
theorem zk_662 : Cond.methodLink RL 155 yX7_best ∈ zz_w := zz_in (List.mem_append_right _ (List.mem_append_right _ (List.mem_append_right _ (List.mem_append_left _ (List.mem_of_getElem? (i := 182) (by decide +kernel)))))) rfl
set_option maxRecDepth 20000 in
theorem zk_665 : Cond.code yX7_best cX7_best 8 (some .int) ∈ zz_w := zz_in (List.mem_append_right _ (List.mem_append_right _ (List.mem_append_right _ (List.mem_append_left _ (List.mem_of_getElem? (i := 185) (rfl)))))) rfl
theorem zk_663 : Cond.instanceMethod yX7_best ∈ zz_w := zz_in (List.mem_append_right _ (List.mem_append_right _ (List.mem_append_right _ (List.mem_append_left _ (List.mem_of_getElem? (i := 183) (by decide +kernel)))))) rfl
theorem zk_664 : Cond.selects RX7 yX7_best yX7_best ∈ zz_w := zz_in (List.mem_append_right _ (List.mem_append_right _ (List.mem_append_right _ (List.mem_append_left _ (List.mem_of_getElem? (i := 184) (by decide +kernel)))))) rfl
theorem zc_L_155 : zz_cV RL 155 yX7_best cX7_best 8 (some .int) 0 := ⟨⟨zk_662, zk_665, zk_1, by decide, by decide, by decide +kernel⟩, zk_663, zk_664⟩
theorem zk_1102 : Cond.methodLink RL 158 yX8_best ∈ zz_w := zz_in (List.mem_append_right _ (List.mem_append_right _ (List.mem_append_right _ (List.mem_append_right _ (List.mem_append_right _ (List.mem_of_getElem? (i := 142) (by decide +kernel))))))) rfl
set_option maxRecDepth 20000 in
theorem zk_1105 : Cond.code yX8_best cX8_best 9 (some .int) ∈ zz_w := zz_in (List.mem_append_right _ (List.mem_append_right _ (List.mem_append_right _ (List.mem_append_right _ (List.mem_append_right _ (List.mem_of_getElem? (i := 145) (rfl))))))) rfl
theorem zk_1103 : Cond.instanceMethod yX8_best ∈ zz_w := zz_in (List.mem_append_right _ (List.mem_append_right _ (List.mem_append_right _ (List.mem_append_right _ (List.mem_append_right _ (List.mem_of_getElem? (i := 143) (by decide +kernel))))))) rfl
theorem zk_1104 : Cond.selects RX8 yX8_best yX8_best ∈ zz_w := zz_in (List.mem_append_right _ (List.mem_append_right _ (List.mem_append_right _ (List.mem_append_right _ (List.mem_append_right _ (List.mem_of_getElem? (i := 144) (by decide +kernel))))))) rfl
theorem zc_L_158 : zz_cV RL 158 yX8_best cX8_best 9 (some .int) 0 := ⟨⟨zk_1102, zk_1105, zk_7, by decide, by decide, by decide +kernel⟩, zk_1103, zk_1104⟩
set_option maxHeartbeats 4000000 in
set_option maxRecDepth 100000 in
theorem law_c31 {p : Program} {l : Launch} {e : Env} {s : State} {m : MethodId} {below : List Frame} {meth : Method} {c : Code} {A : Nat → Prop} {H : Heap} {locs : List Loc} {ls : Array Slot} (g : zz_G) (b : Nat) (xs : Nat → Int32) (ox ox1 ox10 ox12 ox16 ox22 ox30 ox17 ox18 ox19 ox20 ox21 ox23 ox24 ox25 ox26 ox27 ox28 ox29 om om1 om2 om3 om4 om5 om6 om7 om8 om9 om10 om11 om12 om13 om14 om15 om16 om17 om18 om19 om20 om21 om22 om23 om24 om25 om26 om27 om28 om29 : Nat) (hC : zz_C p s m #[Value.ref b] meth c g RL code 4 ret) (hX : va_X b 9 xs s s.heap) (hbl : b < s.heap.size) (hAs : ∀ q, A q → s.heap.size ≤ q) (hZ : zz_Z g A s.heap [(ox, .inr (6, [.ref ox1, .ref ox10, .ref ox12, .ref ox16, .ref ox22, .ref ox30, .int 0, .int 0])), (ox16, .inr (0, [.ref ox1, .int 0, .ref ox17, .ref ox18, .ref ox19, .ref ox20, .ref ox21])), (ox22, .inr (4, [.ref ox1, .int 0, .ref ox23, .ref ox24, .ref ox25, .ref ox26, .ref ox27, .ref ox28, .ref ox29])), (om, .inr (7, [.int 0, .int 0, .ref om1, .ref om2, .ref om3, .ref om4, .ref om5, .ref om6, .ref om7, .int 0, .ref om8, .ref om9, .ref om10, .ref om11, .int 0, .int 0, .ref om12, .ref om13, .ref om14, .ref om15, .int 0, .ref om16, .ref om17, .ref om18, .ref om19, .int 0, .ref om20, .ref om21, .ref om22, .ref om23, .ref om24, .ref om25, .ref om26, .int 0, .ref om27, .ref om28, .ref om29]))] H locs) (hl : lv_has ls 4 [(3, .int 0), (2, .ref om), (1, .ref ox), (0, .ref b)]) : W p l e room_1 s m #[Value.ref b] below meth c H locs 61 89631 (lw_Z below #[Value.ref b] s) (F0 m 1813 ls []) := by
  obtain ⟨hx, hb, hml, hown, hts, hr, hlocks, hK⟩ := id hC
  have hbA : ¬ A b := fun q => absurd (hAs b q) (by omega)
  refine lv_aload_n hx hb dL_law_1813 rfl (lv_at hl 2 rfl) ?_
  refine zz_iV (As := []) (wc := [(ox, .inr (6, [.ref ox1, .ref ox10, .ref ox12, .ref ox16, .ref ox22, .ref ox30, .int 0, .int 0])), (ox16, .inr (0, [.ref ox1, .int 0, .ref ox17, .ref ox18, .ref ox19, .ref ox20, .ref ox21])), (ox22, .inr (4, [.ref ox1, .int 0, .ref ox23, .ref ox24, .ref ox25, .ref ox26, .ref ox27, .ref ox28, .ref ox29]))]) (wr := [(om, .inr (7, [.int 0, .int 0, .ref om1, .ref om2, .ref om3, .ref om4, .ref om5, .ref om6, .ref om7, .int 0, .ref om8, .ref om9, .ref om10, .ref om11, .int 0, .int 0, .ref om12, .ref om13, .ref om14, .ref om15, .int 0, .ref om16, .ref om17, .ref om18, .ref om19, .int 0, .ref om20, .ref om21, .ref om22, .ref om23, .ref om24, .ref om25, .ref om26, .int 0, .ref om27, .ref om28, .ref om29]))]) (rest := []) hC hZ hl zc_L_155 (cx_best g ox ox1 ox10 ox12 ox16 ox22 ox30 ox17 ox18 ox19 ox20 ox21 ox23 ox24 ox25 ox26 ox27 ox28 ox29) [0, 1, 2] [3] rfl rfl (by decide) (ci := 6) (q0 := 0) rfl rfl rfl rfl (Nat.le_of_ble_eq_true rfl) ⟨⟨Nat.le_of_ble_eq_true rfl, Nat.le_of_ble_eq_true rfl⟩, Nat.le_of_ble_eq_true rfl, Nat.le_of_ble_eq_true rfl⟩ dL_law_1814 (fun r1 u2 H locs hp hZ => ?_)
  obtain rfl := hp
  have hZ : zz_Z g A s.heap [(om, .inr (7, [.int 0, .int 0, .ref om1, .ref om2, .ref om3, .ref om4, .ref om5, .ref om6, .ref om7, .int 0, .ref om8, .ref om9, .ref om10, .ref om11, .int 0, .int 0, .ref om12, .ref om13, .ref om14, .ref om15, .int 0, .ref om16, .ref om17, .ref om18, .ref om19, .int 0, .ref om20, .ref om21, .ref om22, .ref om23, .ref om24, .ref om25, .ref om26, .int 0, .ref om27, .ref om28, .ref om29]))] H locs := hZ.left
  refine lv_aload_n hx hb dL_law_1817 rfl (lv_at hl 1 rfl) ?_
  refine zz_iV (As := []) (wc := [(om, .inr (7, [.int 0, .int 0, .ref om1, .ref om2, .ref om3, .ref om4, .ref om5, .ref om6, .ref om7, .int 0, .ref om8, .ref om9, .ref om10, .ref om11, .int 0, .int 0, .ref om12, .ref om13, .ref om14, .ref om15, .int 0, .ref om16, .ref om17, .ref om18, .ref om19, .int 0, .ref om20, .ref om21, .ref om22, .ref om23, .ref om24, .ref om25, .ref om26, .int 0, .ref om27, .ref om28, .ref om29]))]) (wr := []) (rest := [.int fn_cx_best]) hC hZ hl zc_L_158 (my_best g om om1 om2 om3 om4 om5 om6 om7 om8 om9 om10 om11 om12 om13 om14 om15 om16 om17 om18 om19 om20 om21 om22 om23 om24 om25 om26 om27 om28 om29) [0] [] rfl rfl (by decide) (ci := 7) (q0 := 0) rfl rfl rfl rfl (Nat.le_of_ble_eq_true rfl) ⟨⟨Nat.le_of_ble_eq_true rfl, Nat.le_of_ble_eq_true rfl⟩, Nat.le_of_ble_eq_true rfl, Nat.le_of_ble_eq_true rfl⟩ dL_law_1818 (fun r3 u4 H locs hp hZ => ?_)
  obtain rfl := hp
  have hZ : zz_Z g A s.heap [] H locs := hZ.left
  refine lv_icmp_eq (tgt := 1875) hx hb dL_law_1821 (by decide) (fun c5 => ?_) (fun c => absurd (rfl) c)
  exact law_tail hC hX hbl hAs hZ.2.2.1 (Nat.le_of_ble_eq_true rfl) (Nat.le_of_ble_eq_true rfl) (lv_sub hl [3, 0] rfl)
theorem zk_694 : Cond.methodLink RL 159 yX7_mark ∈ zz_w := zz_in (List.mem_append_right _ (List.mem_append_right _ (List.mem_append_right _ (List.mem_append_left _ (List.mem_of_getElem? (i := 214) (by decide +kernel)))))) rfl
set_option maxRecDepth 20000 in
theorem zk_697 : Cond.code yX7_mark cX7_mark 1 (some .int) ∈ zz_w := zz_in (List.mem_append_right _ (List.mem_append_right _ (List.mem_append_right _ (List.mem_append_left _ (List.mem_of_getElem? (i := 217) (rfl)))))) rfl
theorem zk_695 : Cond.instanceMethod yX7_mark ∈ zz_w := zz_in (List.mem_append_right _ (List.mem_append_right _ (List.mem_append_right _ (List.mem_append_left _ (List.mem_of_getElem? (i := 215) (by decide +kernel)))))) rfl
theorem zk_696 : Cond.selects RX7 yX7_mark yX7_mark ∈ zz_w := zz_in (List.mem_append_right _ (List.mem_append_right _ (List.mem_append_right _ (List.mem_append_left _ (List.mem_of_getElem? (i := 216) (by decide +kernel)))))) rfl
theorem zc_L_159 : zz_cV RL 159 yX7_mark cX7_mark 1 (some .int) 0 := ⟨⟨zk_694, zk_697, zk_1, by decide, by decide, by decide +kernel⟩, zk_695, zk_696⟩
theorem zk_1121 : Cond.methodLink RL 162 yX8_mark ∈ zz_w := zz_in (List.mem_append_right _ (List.mem_append_right _ (List.mem_append_right _ (List.mem_append_right _ (List.mem_append_right _ (List.mem_of_getElem? (i := 161) (by decide +kernel))))))) rfl
set_option maxRecDepth 20000 in
theorem zk_1124 : Cond.code yX8_mark cX8_mark 2 (some .int) ∈ zz_w := zz_in (List.mem_append_right _ (List.mem_append_right _ (List.mem_append_right _ (List.mem_append_right _ (List.mem_append_right _ (List.mem_of_getElem? (i := 164) (rfl))))))) rfl
theorem zk_1122 : Cond.instanceMethod yX8_mark ∈ zz_w := zz_in (List.mem_append_right _ (List.mem_append_right _ (List.mem_append_right _ (List.mem_append_right _ (List.mem_append_right _ (List.mem_of_getElem? (i := 162) (by decide +kernel))))))) rfl
theorem zk_1123 : Cond.selects RX8 yX8_mark yX8_mark ∈ zz_w := zz_in (List.mem_append_right _ (List.mem_append_right _ (List.mem_append_right _ (List.mem_append_right _ (List.mem_append_right _ (List.mem_of_getElem? (i := 163) (by decide +kernel))))))) rfl
theorem zc_L_162 : zz_cV RL 162 yX8_mark cX8_mark 2 (some .int) 0 := ⟨⟨zk_1121, zk_1124, zk_7, by decide, by decide, by decide +kernel⟩, zk_1122, zk_1123⟩
set_option maxHeartbeats 4000000 in
set_option maxRecDepth 100000 in
theorem law_c32 {p : Program} {l : Launch} {e : Env} {s : State} {m : MethodId} {below : List Frame} {meth : Method} {c : Code} {A : Nat → Prop} {H : Heap} {locs : List Loc} {ls : Array Slot} (g : zz_G) (b : Nat) (xs : Nat → Int32) (ox ox1 ox10 ox12 ox16 ox22 ox30 ox2 ox3 ox4 ox5 ox6 ox7 ox8 ox9 ox17 ox18 ox19 ox20 ox21 om om1 om2 om3 om4 om5 om6 om7 om8 om9 om10 om11 om12 om13 om14 om15 om16 om17 om18 om19 om20 om21 om22 om23 om24 om25 om26 om27 om28 om29 : Nat) (hC : zz_C p s m #[Value.ref b] meth c g RL code 4 ret) (hX : va_X b 9 xs s s.heap) (hbl : b < s.heap.size) (hAs : ∀ q, A q → s.heap.size ≤ q) (hZ : zz_Z g A s.heap [(ox, .inr (6, [.ref ox1, .ref ox10, .ref ox12, .ref ox16, .ref ox22, .ref ox30, .int 0, .int 0])), (ox1, .inr (5, [.int 0, .int 0, .ref ox2, .ref ox3, .ref ox4, .ref ox5, .ref ox6, .ref ox7, .ref ox8, .ref ox9])), (ox16, .inr (0, [.ref ox1, .int 0, .ref ox17, .ref ox18, .ref ox19, .ref ox20, .ref ox21])), (ox30, .inl (g.2.2.2.2, 8, .inr (.inr (.inr (.inr (fun _ => none)))))), (om, .inr (7, [.int 0, .int 0, .ref om1, .ref om2, .ref om3, .ref om4, .ref om5, .ref om6, .ref om7, .int 0, .ref om8, .ref om9, .ref om10, .ref om11, .int 0, .int 0, .ref om12, .ref om13, .ref om14, .ref om15, .int 0, .ref om16, .ref om17, .ref om18, .ref om19, .int 0, .ref om20, .ref om21, .ref om22, .ref om23, .ref om24, .ref om25, .ref om26, .int 0, .ref om27, .ref om28, .ref om29])), (om27, .inl (g.2.1, 8, .inl (fun _ => 0)))] H locs) (hl : lv_has ls 4 [(3, .int 0), (2, .ref om), (1, .ref ox), (0, .ref b)]) : W p l e room_1 s m #[Value.ref b] below meth c H locs 61 89631 (lw_Z below #[Value.ref b] s) (F0 m 1826 ls []) := by
  obtain ⟨hx, hb, hml, hown, hts, hr, hlocks, hK⟩ := id hC
  have hbA : ¬ A b := fun q => absurd (hAs b q) (by omega)
  refine lv_aload_n hx hb dL_law_1826 rfl (lv_at hl 2 rfl) ?_
  refine zz_iV (As := []) (wc := [(ox, .inr (6, [.ref ox1, .ref ox10, .ref ox12, .ref ox16, .ref ox22, .ref ox30, .int 0, .int 0])), (ox1, .inr (5, [.int 0, .int 0, .ref ox2, .ref ox3, .ref ox4, .ref ox5, .ref ox6, .ref ox7, .ref ox8, .ref ox9])), (ox30, .inl (g.2.2.2.2, 8, .inr (.inr (.inr (.inr (fun _ => none)))))), (ox16, .inr (0, [.ref ox1, .int 0, .ref ox17, .ref ox18, .ref ox19, .ref ox20, .ref ox21]))]) (wr := [(om, .inr (7, [.int 0, .int 0, .ref om1, .ref om2, .ref om3, .ref om4, .ref om5, .ref om6, .ref om7, .int 0, .ref om8, .ref om9, .ref om10, .ref om11, .int 0, .int 0, .ref om12, .ref om13, .ref om14, .ref om15, .int 0, .ref om16, .ref om17, .ref om18, .ref om19, .int 0, .ref om20, .ref om21, .ref om22, .ref om23, .ref om24, .ref om25, .ref om26, .int 0, .ref om27, .ref om28, .ref om29])), (om27, .inl (g.2.1, 8, .inl (fun _ => 0)))]) (rest := []) hC hZ hl zc_L_159 (cx_mark g ox ox1 ox10 ox12 ox16 ox22 ox30 ox2 ox3 ox4 ox5 ox6 ox7 ox8 ox9 ox17 ox18 ox19 ox20 ox21) [0, 1, 3, 2] [4, 5] rfl rfl (by decide) (ci := 6) (q0 := 0) rfl rfl rfl rfl (Nat.le_of_ble_eq_true rfl) ⟨⟨Nat.le_of_ble_eq_true rfl, Nat.le_of_ble_eq_true rfl⟩, Nat.le_of_ble_eq_true rfl, Nat.le_of_ble_eq_true rfl⟩ dL_law_1827 (fun r1 u2 H locs hp hZ => ?_)
  obtain rfl := hp
  have hZ : zz_Z g A s.heap [(om, .inr (7, [.int 0, .int 0, .ref om1, .ref om2, .ref om3, .ref om4, .ref om5, .ref om6, .ref om7, .int 0, .ref om8, .ref om9, .ref om10, .ref om11, .int 0, .int 0, .ref om12, .ref om13, .ref om14, .ref om15, .int 0, .ref om16, .ref om17, .ref om18, .ref om19, .int 0, .ref om20, .ref om21, .ref om22, .ref om23, .ref om24, .ref om25, .ref om26, .int 0, .ref om27, .ref om28, .ref om29])), (om27, .inl (g.2.1, 8, .inl (fun _ => 0)))] H locs := hZ.left
  refine lv_aload_n hx hb dL_law_1830 rfl (lv_at hl 1 rfl) ?_
  refine zz_iV (As := []) (wc := [(om, .inr (7, [.int 0, .int 0, .ref om1, .ref om2, .ref om3, .ref om4, .ref om5, .ref om6, .ref om7, .int 0, .ref om8, .ref om9, .ref om10, .ref om11, .int 0, .int 0, .ref om12, .ref om13, .ref om14, .ref om15, .int 0, .ref om16, .ref om17, .ref om18, .ref om19, .int 0, .ref om20, .ref om21, .ref om22, .ref om23, .ref om24, .ref om25, .ref om26, .int 0, .ref om27, .ref om28, .ref om29])), (om27, .inl (g.2.1, 8, .inl (fun _ => 0)))]) (wr := []) (rest := [.int fn_cx_mark]) hC hZ hl zc_L_162 (my_mark g om om1 om2 om3 om4 om5 om6 om7 om8 om9 om10 om11 om12 om13 om14 om15 om16 om17 om18 om19 om20 om21 om22 om23 om24 om25 om26 om27 om28 om29) [0, 1] [] rfl rfl (by decide) (ci := 7) (q0 := 0) rfl rfl rfl rfl (Nat.le_of_ble_eq_true rfl) ⟨⟨Nat.le_of_ble_eq_true rfl, Nat.le_of_ble_eq_true rfl⟩, Nat.le_of_ble_eq_true rfl, Nat.le_of_ble_eq_true rfl⟩ dL_law_1831 (fun r3 u4 H locs hp hZ => ?_)
  obtain rfl := hp
  have hZ : zz_Z g A s.heap [] H locs := hZ.left
  refine lv_icmp_eq (tgt := 1875) hx hb dL_law_1834 (by decide) (fun c5 => ?_) (fun c => absurd (rfl) c)
  exact law_tail hC hX hbl hAs hZ.2.2.1 (Nat.le_of_ble_eq_true rfl) (Nat.le_of_ble_eq_true rfl) (lv_sub hl [3, 0] rfl)
theorem zk_717 : Cond.methodLink RL 163 yX7_back ∈ zz_w := zz_in (List.mem_append_right _ (List.mem_append_right _ (List.mem_append_right _ (List.mem_append_left _ (List.mem_of_getElem? (i := 237) (by decide +kernel)))))) rfl
set_option maxRecDepth 20000 in
theorem zk_720 : Cond.code yX7_back cX7_back 1 (some .int) ∈ zz_w := zz_in (List.mem_append_right _ (List.mem_append_right _ (List.mem_append_right _ (List.mem_append_right _ (List.mem_append_left _ (List.mem_of_getElem? (i := 0) (rfl))))))) rfl
theorem zk_718 : Cond.instanceMethod yX7_back ∈ zz_w := zz_in (List.mem_append_right _ (List.mem_append_right _ (List.mem_append_right _ (List.mem_append_left _ (List.mem_of_getElem? (i := 238) (by decide +kernel)))))) rfl
theorem zk_719 : Cond.selects RX7 yX7_back yX7_back ∈ zz_w := zz_in (List.mem_append_right _ (List.mem_append_right _ (List.mem_append_right _ (List.mem_append_left _ (List.mem_of_getElem? (i := 239) (by decide +kernel)))))) rfl
theorem zc_L_163 : zz_cV RL 163 yX7_back cX7_back 1 (some .int) 0 := ⟨⟨zk_717, zk_720, zk_1, by decide, by decide, by decide +kernel⟩, zk_718, zk_719⟩
theorem zk_1125 : Cond.methodLink RL 166 yX8_back ∈ zz_w := zz_in (List.mem_append_right _ (List.mem_append_right _ (List.mem_append_right _ (List.mem_append_right _ (List.mem_append_right _ (List.mem_of_getElem? (i := 165) (by decide +kernel))))))) rfl
set_option maxRecDepth 20000 in
theorem zk_1128 : Cond.code yX8_back cX8_back 2 (some .int) ∈ zz_w := zz_in (List.mem_append_right _ (List.mem_append_right _ (List.mem_append_right _ (List.mem_append_right _ (List.mem_append_right _ (List.mem_of_getElem? (i := 168) (rfl))))))) rfl
theorem zk_1126 : Cond.instanceMethod yX8_back ∈ zz_w := zz_in (List.mem_append_right _ (List.mem_append_right _ (List.mem_append_right _ (List.mem_append_right _ (List.mem_append_right _ (List.mem_of_getElem? (i := 166) (by decide +kernel))))))) rfl
theorem zk_1127 : Cond.selects RX8 yX8_back yX8_back ∈ zz_w := zz_in (List.mem_append_right _ (List.mem_append_right _ (List.mem_append_right _ (List.mem_append_right _ (List.mem_append_right _ (List.mem_of_getElem? (i := 167) (by decide +kernel))))))) rfl
theorem zc_L_166 : zz_cV RL 166 yX8_back cX8_back 2 (some .int) 0 := ⟨⟨zk_1125, zk_1128, zk_7, by decide, by decide, by decide +kernel⟩, zk_1126, zk_1127⟩
set_option maxHeartbeats 4000000 in
set_option maxRecDepth 100000 in
theorem law_c33 {p : Program} {l : Launch} {e : Env} {s : State} {m : MethodId} {below : List Frame} {meth : Method} {c : Code} {A : Nat → Prop} {H : Heap} {locs : List Loc} {ls : Array Slot} (g : zz_G) (b : Nat) (xs : Nat → Int32) (ox ox1 ox10 ox12 ox16 ox22 ox30 om om1 om2 om3 om4 om5 om6 om7 om8 om9 om10 om11 om12 om13 om14 om15 om16 om17 om18 om19 om20 om21 om22 om23 om24 om25 om26 om27 om28 om29 : Nat) (hC : zz_C p s m #[Value.ref b] meth c g RL code 4 ret) (hX : va_X b 9 xs s s.heap) (hbl : b < s.heap.size) (hAs : ∀ q, A q → s.heap.size ≤ q) (hZ : zz_Z g A s.heap [(ox, .inr (6, [.ref ox1, .ref ox10, .ref ox12, .ref ox16, .ref ox22, .ref ox30, .int 0, .int 0])), (om, .inr (7, [.int 0, .int 0, .ref om1, .ref om2, .ref om3, .ref om4, .ref om5, .ref om6, .ref om7, .int 0, .ref om8, .ref om9, .ref om10, .ref om11, .int 0, .int 0, .ref om12, .ref om13, .ref om14, .ref om15, .int 0, .ref om16, .ref om17, .ref om18, .ref om19, .int 0, .ref om20, .ref om21, .ref om22, .ref om23, .ref om24, .ref om25, .ref om26, .int 0, .ref om27, .ref om28, .ref om29]))] H locs) (hl : lv_has ls 4 [(3, .int 0), (2, .ref om), (1, .ref ox), (0, .ref b)]) : W p l e room_1 s m #[Value.ref b] below meth c H locs 61 89631 (lw_Z below #[Value.ref b] s) (F0 m 1839 ls []) := by
  obtain ⟨hx, hb, hml, hown, hts, hr, hlocks, hK⟩ := id hC
  have hbA : ¬ A b := fun q => absurd (hAs b q) (by omega)
  refine lv_aload_n hx hb dL_law_1839 rfl (lv_at hl 2 rfl) ?_
  refine zz_iV (As := []) (wc := [(ox, .inr (6, [.ref ox1, .ref ox10, .ref ox12, .ref ox16, .ref ox22, .ref ox30, .int 0, .int 0]))]) (wr := [(om, .inr (7, [.int 0, .int 0, .ref om1, .ref om2, .ref om3, .ref om4, .ref om5, .ref om6, .ref om7, .int 0, .ref om8, .ref om9, .ref om10, .ref om11, .int 0, .int 0, .ref om12, .ref om13, .ref om14, .ref om15, .int 0, .ref om16, .ref om17, .ref om18, .ref om19, .int 0, .ref om20, .ref om21, .ref om22, .ref om23, .ref om24, .ref om25, .ref om26, .int 0, .ref om27, .ref om28, .ref om29]))]) (rest := []) hC hZ hl zc_L_163 (cx_back g ox ox1 ox10 ox12 ox16 ox22 ox30) [0] [1] rfl rfl (by decide) (ci := 6) (q0 := 0) rfl rfl rfl rfl (Nat.le_of_ble_eq_true rfl) ⟨⟨Nat.le_of_ble_eq_true rfl, Nat.le_of_ble_eq_true rfl⟩, Nat.le_of_ble_eq_true rfl, Nat.le_of_ble_eq_true rfl⟩ dL_law_1840 (fun r1 u2 H locs hp hZ => ?_)
  obtain rfl := hp
  have hZ : zz_Z g A s.heap [(om, .inr (7, [.int 0, .int 0, .ref om1, .ref om2, .ref om3, .ref om4, .ref om5, .ref om6, .ref om7, .int 0, .ref om8, .ref om9, .ref om10, .ref om11, .int 0, .int 0, .ref om12, .ref om13, .ref om14, .ref om15, .int 0, .ref om16, .ref om17, .ref om18, .ref om19, .int 0, .ref om20, .ref om21, .ref om22, .ref om23, .ref om24, .ref om25, .ref om26, .int 0, .ref om27, .ref om28, .ref om29]))] H locs := hZ.left
  refine lv_aload_n hx hb dL_law_1843 rfl (lv_at hl 1 rfl) ?_
  refine zz_iV (As := []) (wc := [(om, .inr (7, [.int 0, .int 0, .ref om1, .ref om2, .ref om3, .ref om4, .ref om5, .ref om6, .ref om7, .int 0, .ref om8, .ref om9, .ref om10, .ref om11, .int 0, .int 0, .ref om12, .ref om13, .ref om14, .ref om15, .int 0, .ref om16, .ref om17, .ref om18, .ref om19, .int 0, .ref om20, .ref om21, .ref om22, .ref om23, .ref om24, .ref om25, .ref om26, .int 0, .ref om27, .ref om28, .ref om29]))]) (wr := []) (rest := [.int fn_cx_back]) hC hZ hl zc_L_166 (my_back g om om1 om2 om3 om4 om5 om6 om7 om8 om9 om10 om11 om12 om13 om14 om15 om16 om17 om18 om19 om20 om21 om22 om23 om24 om25 om26 om27 om28 om29) [0] [] rfl rfl (by decide) (ci := 7) (q0 := 0) rfl rfl rfl rfl (Nat.le_of_ble_eq_true rfl) ⟨⟨Nat.le_of_ble_eq_true rfl, Nat.le_of_ble_eq_true rfl⟩, Nat.le_of_ble_eq_true rfl, Nat.le_of_ble_eq_true rfl⟩ dL_law_1844 (fun r3 u4 H locs hp hZ => ?_)
  obtain rfl := hp
  have hZ : zz_Z g A s.heap [] H locs := hZ.left
  refine lv_icmp_eq (tgt := 1875) hx hb dL_law_1847 (by decide) (fun c5 => ?_) (fun c => absurd (rfl) c)
  exact law_tail hC hX hbl hAs hZ.2.2.1 (Nat.le_of_ble_eq_true rfl) (Nat.le_of_ble_eq_true rfl) (lv_sub hl [3, 0] rfl)
theorem zk_725 : Cond.methodLink RL 167 yX7_count ∈ zz_w := zz_in (List.mem_append_right _ (List.mem_append_right _ (List.mem_append_right _ (List.mem_append_right _ (List.mem_append_left _ (List.mem_of_getElem? (i := 5) (by decide +kernel))))))) rfl
set_option maxRecDepth 20000 in
theorem zk_728 : Cond.code yX7_count cX7_count 2 (some .int) ∈ zz_w := zz_in (List.mem_append_right _ (List.mem_append_right _ (List.mem_append_right _ (List.mem_append_right _ (List.mem_append_left _ (List.mem_of_getElem? (i := 8) (rfl))))))) rfl
theorem zk_726 : Cond.instanceMethod yX7_count ∈ zz_w := zz_in (List.mem_append_right _ (List.mem_append_right _ (List.mem_append_right _ (List.mem_append_right _ (List.mem_append_left _ (List.mem_of_getElem? (i := 6) (by decide +kernel))))))) rfl
theorem zk_727 : Cond.selects RX7 yX7_count yX7_count ∈ zz_w := zz_in (List.mem_append_right _ (List.mem_append_right _ (List.mem_append_right _ (List.mem_append_right _ (List.mem_append_left _ (List.mem_of_getElem? (i := 7) (by decide +kernel))))))) rfl
theorem zc_L_167 : zz_cV RL 167 yX7_count cX7_count 2 (some .int) 1 := ⟨⟨zk_725, zk_728, zk_1, by decide, by decide, by decide +kernel⟩, zk_726, zk_727⟩
theorem zk_1129 : Cond.methodLink RL 170 yX8_count ∈ zz_w := zz_in (List.mem_append_right _ (List.mem_append_right _ (List.mem_append_right _ (List.mem_append_right _ (List.mem_append_right _ (List.mem_of_getElem? (i := 169) (by decide +kernel))))))) rfl
set_option maxRecDepth 20000 in
theorem zk_1132 : Cond.code yX8_count cX8_count 2 (some .int) ∈ zz_w := zz_in (List.mem_append_right _ (List.mem_append_right _ (List.mem_append_right _ (List.mem_append_right _ (List.mem_append_right _ (List.mem_of_getElem? (i := 172) (rfl))))))) rfl
theorem zk_1130 : Cond.instanceMethod yX8_count ∈ zz_w := zz_in (List.mem_append_right _ (List.mem_append_right _ (List.mem_append_right _ (List.mem_append_right _ (List.mem_append_right _ (List.mem_of_getElem? (i := 170) (by decide +kernel))))))) rfl
theorem zk_1131 : Cond.selects RX8 yX8_count yX8_count ∈ zz_w := zz_in (List.mem_append_right _ (List.mem_append_right _ (List.mem_append_right _ (List.mem_append_right _ (List.mem_append_right _ (List.mem_of_getElem? (i := 171) (by decide +kernel))))))) rfl
theorem zc_L_170 : zz_cV RL 170 yX8_count cX8_count 2 (some .int) 1 := ⟨⟨zk_1129, zk_1132, zk_7, by decide, by decide, by decide +kernel⟩, zk_1130, zk_1131⟩
set_option maxHeartbeats 4000000 in
set_option maxRecDepth 100000 in
theorem law_c34 {p : Program} {l : Launch} {e : Env} {s : State} {m : MethodId} {below : List Frame} {meth : Method} {c : Code} {A : Nat → Prop} {H : Heap} {locs : List Loc} {ls : Array Slot} (g : zz_G) (b : Nat) (xs : Nat → Int32) (ox ox1 ox10 ox12 ox16 ox22 ox30 ox2 ox3 ox4 ox5 ox6 ox7 ox8 ox9 ox17 ox18 ox19 ox20 ox21 ox23 ox24 ox25 ox26 ox27 ox28 ox29 om om1 om2 om3 om4 om5 om6 om7 om8 om9 om10 om11 om12 om13 om14 om15 om16 om17 om18 om19 om20 om21 om22 om23 om24 om25 om26 om27 om28 om29 : Nat) (hC : zz_C p s m #[Value.ref b] meth c g RL code 4 ret) (hX : va_X b 9 xs s s.heap) (hbl : b < s.heap.size) (hAs : ∀ q, A q → s.heap.size ≤ q) (hZ : zz_Z g A s.heap [(ox, .inr (6, [.ref ox1, .ref ox10, .ref ox12, .ref ox16, .ref ox22, .ref ox30, .int 0, .int 0])), (ox1, .inr (5, [.int 0, .int 0, .ref ox2, .ref ox3, .ref ox4, .ref ox5, .ref ox6, .ref ox7, .ref ox8, .ref ox9])), (ox16, .inr (0, [.ref ox1, .int 0, .ref ox17, .ref ox18, .ref ox19, .ref ox20, .ref ox21])), (ox22, .inr (4, [.ref ox1, .int 0, .ref ox23, .ref ox24, .ref ox25, .ref ox26, .ref ox27, .ref ox28, .ref ox29])), (om, .inr (7, [.int 0, .int 0, .ref om1, .ref om2, .ref om3, .ref om4, .ref om5, .ref om6, .ref om7, .int 0, .ref om8, .ref om9, .ref om10, .ref om11, .int 0, .int 0, .ref om12, .ref om13, .ref om14, .ref om15, .int 0, .ref om16, .ref om17, .ref om18, .ref om19, .int 0, .ref om20, .ref om21, .ref om22, .ref om23, .ref om24, .ref om25, .ref om26, .int 0, .ref om27, .ref om28, .ref om29]))] H locs) (hl : lv_has ls 4 [(3, .int 0), (2, .ref om), (1, .ref ox), (0, .ref b)]) : W p l e room_1 s m #[Value.ref b] below meth c H locs 61 89631 (lw_Z below #[Value.ref b] s) (F0 m 1852 ls []) := by
  obtain ⟨hx, hb, hml, hown, hts, hr, hlocks, hK⟩ := id hC
  have hbA : ¬ A b := fun q => absurd (hAs b q) (by omega)
  refine lv_aload_n hx hb dL_law_1852 rfl (lv_at hl 2 rfl) ?_
  refine lv_aload_n hx hb dL_law_1853 rfl (lv_at hl 3 rfl) ?_
  refine lv_iload_n hx hb dL_law_1854 rfl (lv_at hl 0 rfl) ?_
  refine lv_iconst (v := 1) hx hb dL_law_1855 (by decide) ?_
  refine lv_iadd hx hb dL_law_1856 ?_
  refine zz_topi (v := 1) (by decide) ?_
  refine va_sld hx hb hX hbl hbA hZ.2.2.1 (by unfold vp_in; decide) dL_law_1857 ?_
  rw [zl_c1]
  refine zz_iV (As := [.int (xs 1)]) (wc := [(ox, .inr (6, [.ref ox1, .ref ox10, .ref ox12, .ref ox16, .ref ox22, .ref ox30, .int 0, .int 0])), (ox1, .inr (5, [.int 0, .int 0, .ref ox2, .ref ox3, .ref ox4, .ref ox5, .ref ox6, .ref ox7, .ref ox8, .ref ox9])), (ox16, .inr (0, [.ref ox1, .int 0, .ref ox17, .ref ox18, .ref ox19, .ref ox20, .ref ox21])), (ox22, .inr (4, [.ref ox1, .int 0, .ref ox23, .ref ox24, .ref ox25, .ref ox26, .ref ox27, .ref ox28, .ref ox29]))]) (wr := [(om, .inr (7, [.int 0, .int 0, .ref om1, .ref om2, .ref om3, .ref om4, .ref om5, .ref om6, .ref om7, .int 0, .ref om8, .ref om9, .ref om10, .ref om11, .int 0, .int 0, .ref om12, .ref om13, .ref om14, .ref om15, .int 0, .ref om16, .ref om17, .ref om18, .ref om19, .int 0, .ref om20, .ref om21, .ref om22, .ref om23, .ref om24, .ref om25, .ref om26, .int 0, .ref om27, .ref om28, .ref om29]))]) (rest := []) hC hZ hl zc_L_167 (cx_count g ox ox1 ox10 ox12 ox16 ox22 ox30 ox2 ox3 ox4 ox5 ox6 ox7 ox8 ox9 ox17 ox18 ox19 ox20 ox21 ox23 ox24 ox25 ox26 ox27 ox28 ox29 (xs 1)) [0, 1, 2, 3] [4] rfl rfl (by decide) (ci := 6) (q0 := 0) rfl rfl rfl rfl (Nat.le_of_ble_eq_true rfl) ⟨⟨Nat.le_of_ble_eq_true rfl, Nat.le_of_ble_eq_true rfl⟩, Nat.le_of_ble_eq_true rfl, Nat.le_of_ble_eq_true rfl⟩ dL_law_1858 (fun r1 u2 H locs hp hZ => ?_)
  obtain rfl := hp
  have hZ : zz_Z g A s.heap [(om, .inr (7, [.int 0, .int 0, .ref om1, .ref om2, .ref om3, .ref om4, .ref om5, .ref om6, .ref om7, .int 0, .ref om8, .ref om9, .ref om10, .ref om11, .int 0, .int 0, .ref om12, .ref om13, .ref om14, .ref om15, .int 0, .ref om16, .ref om17, .ref om18, .ref om19, .int 0, .ref om20, .ref om21, .ref om22, .ref om23, .ref om24, .ref om25, .ref om26, .int 0, .ref om27, .ref om28, .ref om29]))] H locs := hZ.left
  refine lv_aload_n hx hb dL_law_1861 rfl (lv_at hl 1 rfl) ?_
  refine lv_aload_n hx hb dL_law_1862 rfl (lv_at hl 3 rfl) ?_
  refine lv_iload_n hx hb dL_law_1863 rfl (lv_at hl 0 rfl) ?_
  refine lv_iconst (v := 1) hx hb dL_law_1864 (by decide) ?_
  refine lv_iadd hx hb dL_law_1865 ?_
  refine zz_topi (v := 1) (by decide) ?_
  refine va_sld hx hb hX hbl hbA hZ.2.2.1 (by unfold vp_in; decide) dL_law_1866 ?_
  rw [zl_c1]
  refine zz_iV (As := [.int (xs 1)]) (wc := [(om, .inr (7, [.int 0, .int 0, .ref om1, .ref om2, .ref om3, .ref om4, .ref om5, .ref om6, .ref om7, .int 0, .ref om8, .ref om9, .ref om10, .ref om11, .int 0, .int 0, .ref om12, .ref om13, .ref om14, .ref om15, .int 0, .ref om16, .ref om17, .ref om18, .ref om19, .int 0, .ref om20, .ref om21, .ref om22, .ref om23, .ref om24, .ref om25, .ref om26, .int 0, .ref om27, .ref om28, .ref om29]))]) (wr := []) (rest := [.int (fn_cx_count (xs 1))]) hC hZ hl zc_L_170 (my_count g om om1 om2 om3 om4 om5 om6 om7 om8 om9 om10 om11 om12 om13 om14 om15 om16 om17 om18 om19 om20 om21 om22 om23 om24 om25 om26 om27 om28 om29 (xs 1)) [0] [] rfl rfl (by decide) (ci := 7) (q0 := 0) rfl rfl rfl rfl (Nat.le_of_ble_eq_true rfl) ⟨⟨Nat.le_of_ble_eq_true rfl, Nat.le_of_ble_eq_true rfl⟩, Nat.le_of_ble_eq_true rfl, Nat.le_of_ble_eq_true rfl⟩ dL_law_1867 (fun r3 u4 H locs hp hZ => ?_)
  obtain rfl := hp
  have hZ : zz_Z g A s.heap [] H locs := hZ.left
  refine lv_icmp_eq (tgt := 1875) hx hb dL_law_1870 (by decide) (fun c5 => ?_) (fun c => absurd (eq_count _) c)
  exact law_tail hC hX hbl hAs hZ.2.2.1 (Nat.le_of_ble_eq_true rfl) (Nat.le_of_ble_eq_true rfl) (lv_sub hl [3, 0] rfl)
theorem zk_12 : Cond.classLink RL 7 RX7 ∈ zz_w := zz_in (List.mem_append_right _ (List.mem_append_left _ (List.mem_of_getElem? (i := 12) (by decide +kernel)))) rfl
theorem zk_13 : Cond.instantiable RX7 8 ∈ zz_w := zz_in (List.mem_append_right _ (List.mem_append_left _ (List.mem_of_getElem? (i := 13) (by decide +kernel)))) rfl
theorem zn_L_7 : zz_n RL 7 6 8 [.null, .null, .null, .null, .null, .null, .int 0, .int 0] := ⟨RX7, TX7, tyX7, rfl, zi_X7, tyX7_ok, zk_12, zk_13, zk_1, by decide +kernel⟩
theorem zk_14 : Cond.methodLink RL 9 yX7_init ∈ zz_w := zz_in (List.mem_append_right _ (List.mem_append_left _ (List.mem_of_getElem? (i := 14) (by decide +kernel)))) rfl
set_option maxRecDepth 20000 in
theorem zk_16 : Cond.code yX7_init cX7_init 1 none ∈ zz_w := zz_in (List.mem_append_right _ (List.mem_append_left _ (List.mem_of_getElem? (i := 16) (rfl)))) rfl
theorem zk_15 : Cond.instanceMethod yX7_init ∈ zz_w := zz_in (List.mem_append_right _ (List.mem_append_left _ (List.mem_of_getElem? (i := 15) (by decide +kernel)))) rfl
theorem zc_L_9 : zz_cI RL 9 yX7_init cX7_init 1 0 := ⟨⟨zk_14, zk_16, zk_1, by decide, by decide, by decide +kernel⟩, rfl, zk_15⟩
theorem zk_729 : Cond.classLink RL 10 RX8 ∈ zz_w := zz_in (List.mem_append_right _ (List.mem_append_right _ (List.mem_append_right _ (List.mem_append_right _ (List.mem_append_left _ (List.mem_of_getElem? (i := 9) (by decide +kernel))))))) rfl
theorem zk_730 : Cond.instantiable RX8 37 ∈ zz_w := zz_in (List.mem_append_right _ (List.mem_append_right _ (List.mem_append_right _ (List.mem_append_right _ (List.mem_append_left _ (List.mem_of_getElem? (i := 10) (by decide +kernel))))))) rfl
theorem zn_L_10 : zz_n RL 10 7 37 [.int 0, .int 0, .null, .null, .null, .null, .null, .null, .null, .int 0, .null, .null, .null, .null, .int 0, .int 0, .null, .null, .null, .null, .int 0, .null, .null, .null, .null, .int 0, .null, .null, .null, .null, .null, .null, .null, .int 0, .null, .null, .null] := ⟨RX8, TX8, tyX8, rfl, zi_X8, tyX8_ok, zk_729, zk_730, zk_7, by decide +kernel⟩
theorem zk_731 : Cond.methodLink RL 12 yX8_init ∈ zz_w := zz_in (List.mem_append_right _ (List.mem_append_right _ (List.mem_append_right _ (List.mem_append_right _ (List.mem_append_left _ (List.mem_of_getElem? (i := 11) (by decide +kernel))))))) rfl
set_option maxRecDepth 20000 in
theorem zk_733 : Cond.code yX8_init cX8_init 1 none ∈ zz_w := zz_in (List.mem_append_right _ (List.mem_append_right _ (List.mem_append_right _ (List.mem_append_right _ (List.mem_append_left _ (List.mem_of_getElem? (i := 13) (rfl))))))) rfl
theorem zk_732 : Cond.instanceMethod yX8_init ∈ zz_w := zz_in (List.mem_append_right _ (List.mem_append_right _ (List.mem_append_right _ (List.mem_append_right _ (List.mem_append_left _ (List.mem_of_getElem? (i := 12) (by decide +kernel))))))) rfl
theorem zc_L_12 : zz_cI RL 12 yX8_init cX8_init 1 0 := ⟨⟨zk_731, zk_733, zk_7, by decide, by decide, by decide +kernel⟩, rfl, zk_732⟩
theorem zl_L9 {L : Nat} (hL : L ≤ 9) (h : ¬ Int32.ofNat L - 9 < 0) : L = 9 := by
  have h2 : ∀ n, n < 9 → Int32.ofNat n - 9 < 0 := by decide
  rcases Nat.lt_or_ge L 9 with q | q
  · exact absurd (h2 L q) h
  · omega
set_option maxHeartbeats 4000000 in
set_option maxRecDepth 100000 in
theorem law_main {p : Program} {l : Launch} {e : Env} {s : State} {m : MethodId} {below : List Frame} {meth : Method} {c : Code} {A : Nat → Prop} {H : Heap} {locs : List Loc} {ls : Array Slot} (g : zz_G) (b L : Nat) (xs : Nat → Int32) (hC : zz_C p s m #[Value.ref b] meth c g RL code 4 ret) (hL : L ≤ 9) (hX : va_X b L xs s s.heap) (hbl : b < s.heap.size) (hAs : ∀ q, A q → s.heap.size ≤ q) (hZ : zz_Z g A s.heap [] H locs) (hl : lv_has ls 4 [(0, .ref b)]) : W p l e room_1 s m #[Value.ref b] below meth c H locs 0 0 (lw_Z below #[Value.ref b] s) (F0 m 0 ls []) := by
  obtain ⟨hx, hb, hml, hown, hts, hr, hlocks, hK⟩ := id hC
  have hbA : ¬ A b := fun q => absurd (hAs b q) (by omega)
  refine zz_new hC hZ zn_L_7 (Nat.le_of_ble_eq_true rfl) (Nat.le_of_ble_eq_true rfl) dL_law_0 (fun q1 H hZ => ?_)
  have hZ : zz_Z g A s.heap [(q1, .inr (6, [.null, .null, .null, .null, .null, .null, .int 0, .int 0]))] H locs := hZ
  refine lv_dup hx hb dL_law_3 rfl ?_
  refine zz_vI (As := []) (wc := [(q1, .inr (6, [.null, .null, .null, .null, .null, .null, .int 0, .int 0]))]) (wr := []) (rest := [.ref q1]) hC hZ hl zc_L_9 (ci_DA g q1) [0] [] rfl rfl (by decide) rfl rfl (Nat.le_of_ble_eq_true rfl) ⟨⟨Nat.le_of_ble_eq_true rfl, Nat.le_of_ble_eq_true rfl⟩, Nat.le_of_ble_eq_true rfl, Nat.le_of_ble_eq_true rfl⟩ dL_law_4 (fun u3 H locs hp hZ => ?_)
  obtain ⟨e1_4, e2_5, e3_6, e4_7, e5_8, e6_9, e7_10, e8_11, e9_12, e10_13, e11_14, e12_15, e13_16, e14_17, e15_18, e16_19, e17_20, e18_21, e19_22, e20_23, e21_24, e22_25, e23_26, e24_27, e25_28, e26_29, e27_30, e28_31, e29_32, e30_33, rfl⟩ := hp
  have hZ : zz_Z g A s.heap [(q1, .inr (6, [.ref e1_4, .ref e10_13, .ref e12_15, .ref e16_19, .ref e22_25, .ref e30_33, .int 0, .int 0])), (e1_4, .inr (5, [.int 0, .int 0, .ref e2_5, .ref e3_6, .ref e4_7, .ref e5_8, .ref e6_9, .ref e7_10, .ref e8_11, .ref e9_12])), (e2_5, .inl (g.2.1, 60, .inl (fun _ => 0))), (e3_6, .inl (g.2.1, 60, .inl (fun _ => 0))), (e4_7, .inl (g.2.1, 60, .inl (fun _ => 0))), (e5_8, .inl (g.2.1, 60, .inl (fun _ => 0))), (e6_9, .inl (g.2.1, 60, .inl (fun _ => 0))), (e7_10, .inl (g.2.2.1, 4000, .inr (.inl (fun _ => 0)))), (e8_11, .inl (g.2.2.2.1, 4000, .inl (fun _ => 0))), (e9_12, .inl (g.2.2.1, 200, .inr (.inl (fun _ => 0)))), (e10_13, .inr (2, [.ref e1_4, .ref e11_14, .int 0, .int 0])), (e11_14, .inl (g.2.1, 4, .inl (fun _ => 0))), (e12_15, .inr (1, [.ref e1_4, .int 0, .ref e13_16, .ref e14_17, .ref e15_18])), (e13_16, .inl (g.2.1, 3600, .inl (fun _ => 0))), (e14_17, .inl (g.2.1, 60, .inl (fun _ => 0))), (e15_18, .inl (g.2.1, 60, .inl (fun _ => 0))), (e16_19, .inr (0, [.ref e1_4, .int 0, .ref e17_20, .ref e18_21, .ref e19_22, .ref e20_23, .ref e21_24])), (e17_20, .inl (g.2.1, 24, .inl (fun _ => 0))), (e18_21, .inl (g.2.1, 24, .inl (fun _ => 0))), (e19_22, .inl (g.2.1, 24, .inl (fun _ => 0))), (e20_23, .inl (g.2.2.1, 384, .inr (.inl (fun _ => 0)))), (e21_24, .inl (g.2.1, 24, .inl (fun _ => 0))), (e22_25, .inr (4, [.ref e1_4, .int 0, .ref e23_26, .ref e24_27, .ref e25_28, .ref e26_29, .ref e27_30, .ref e28_31, .ref e29_32])), (e23_26, .inl (g.2.1, 12, .inl (fun _ => 0))), (e24_27, .inl (g.2.1, 12, .inl (fun _ => 0))), (e25_28, .inl (g.2.1, 12, .inl (fun _ => 0))), (e26_29, .inl (g.2.2.1, 12, .inr (.inl (fun _ => 0)))), (e27_30, .inl (g.2.2.1, 12, .inr (.inl (fun _ => 0)))), (e28_31, .inl (g.2.2.1, 12, .inr (.inl (fun _ => 0)))), (e29_32, .inl (g.2.2.1, 12, .inr (.inl (fun _ => 0)))), (e30_33, .inl (g.2.2.2.2, 8, .inr (.inr (.inr (.inr (fun _ => none))))))] H locs := hZ
  refine lv_astore_n (lv' := [(1, .ref q1), (0, .ref b)]) hx hb dL_law_7 rfl hl (by decide) rfl (fun ls hl => ?_)
  refine zz_new hC hZ zn_L_10 (Nat.le_of_ble_eq_true rfl) (Nat.le_of_ble_eq_true rfl) dL_law_8 (fun q34 H hZ => ?_)
  have hZ : zz_Z g A s.heap [(q1, .inr (6, [.ref e1_4, .ref e10_13, .ref e12_15, .ref e16_19, .ref e22_25, .ref e30_33, .int 0, .int 0])), (e1_4, .inr (5, [.int 0, .int 0, .ref e2_5, .ref e3_6, .ref e4_7, .ref e5_8, .ref e6_9, .ref e7_10, .ref e8_11, .ref e9_12])), (e2_5, .inl (g.2.1, 60, .inl (fun _ => 0))), (e3_6, .inl (g.2.1, 60, .inl (fun _ => 0))), (e4_7, .inl (g.2.1, 60, .inl (fun _ => 0))), (e5_8, .inl (g.2.1, 60, .inl (fun _ => 0))), (e6_9, .inl (g.2.1, 60, .inl (fun _ => 0))), (e7_10, .inl (g.2.2.1, 4000, .inr (.inl (fun _ => 0)))), (e8_11, .inl (g.2.2.2.1, 4000, .inl (fun _ => 0))), (e9_12, .inl (g.2.2.1, 200, .inr (.inl (fun _ => 0)))), (e10_13, .inr (2, [.ref e1_4, .ref e11_14, .int 0, .int 0])), (e11_14, .inl (g.2.1, 4, .inl (fun _ => 0))), (e12_15, .inr (1, [.ref e1_4, .int 0, .ref e13_16, .ref e14_17, .ref e15_18])), (e13_16, .inl (g.2.1, 3600, .inl (fun _ => 0))), (e14_17, .inl (g.2.1, 60, .inl (fun _ => 0))), (e15_18, .inl (g.2.1, 60, .inl (fun _ => 0))), (e16_19, .inr (0, [.ref e1_4, .int 0, .ref e17_20, .ref e18_21, .ref e19_22, .ref e20_23, .ref e21_24])), (e17_20, .inl (g.2.1, 24, .inl (fun _ => 0))), (e18_21, .inl (g.2.1, 24, .inl (fun _ => 0))), (e19_22, .inl (g.2.1, 24, .inl (fun _ => 0))), (e20_23, .inl (g.2.2.1, 384, .inr (.inl (fun _ => 0)))), (e21_24, .inl (g.2.1, 24, .inl (fun _ => 0))), (e22_25, .inr (4, [.ref e1_4, .int 0, .ref e23_26, .ref e24_27, .ref e25_28, .ref e26_29, .ref e27_30, .ref e28_31, .ref e29_32])), (e23_26, .inl (g.2.1, 12, .inl (fun _ => 0))), (e24_27, .inl (g.2.1, 12, .inl (fun _ => 0))), (e25_28, .inl (g.2.1, 12, .inl (fun _ => 0))), (e26_29, .inl (g.2.2.1, 12, .inr (.inl (fun _ => 0)))), (e27_30, .inl (g.2.2.1, 12, .inr (.inl (fun _ => 0)))), (e28_31, .inl (g.2.2.1, 12, .inr (.inl (fun _ => 0)))), (e29_32, .inl (g.2.2.1, 12, .inr (.inl (fun _ => 0)))), (e30_33, .inl (g.2.2.2.2, 8, .inr (.inr (.inr (.inr (fun _ => none)))))), (q34, .inr (7, [.int 0, .int 0, .null, .null, .null, .null, .null, .null, .null, .int 0, .null, .null, .null, .null, .int 0, .int 0, .null, .null, .null, .null, .int 0, .null, .null, .null, .null, .int 0, .null, .null, .null, .null, .null, .null, .null, .int 0, .null, .null, .null]))] H locs := hZ
  refine lv_dup hx hb dL_law_11 rfl ?_
  refine zz_vI (As := []) (wc := [(q34, .inr (7, [.int 0, .int 0, .null, .null, .null, .null, .null, .null, .null, .int 0, .null, .null, .null, .null, .int 0, .int 0, .null, .null, .null, .null, .int 0, .null, .null, .null, .null, .int 0, .null, .null, .null, .null, .null, .null, .null, .int 0, .null, .null, .null]))]) (wr := [(q1, .inr (6, [.ref e1_4, .ref e10_13, .ref e12_15, .ref e16_19, .ref e22_25, .ref e30_33, .int 0, .int 0])), (e1_4, .inr (5, [.int 0, .int 0, .ref e2_5, .ref e3_6, .ref e4_7, .ref e5_8, .ref e6_9, .ref e7_10, .ref e8_11, .ref e9_12])), (e2_5, .inl (g.2.1, 60, .inl (fun _ => 0))), (e3_6, .inl (g.2.1, 60, .inl (fun _ => 0))), (e4_7, .inl (g.2.1, 60, .inl (fun _ => 0))), (e5_8, .inl (g.2.1, 60, .inl (fun _ => 0))), (e6_9, .inl (g.2.1, 60, .inl (fun _ => 0))), (e7_10, .inl (g.2.2.1, 4000, .inr (.inl (fun _ => 0)))), (e8_11, .inl (g.2.2.2.1, 4000, .inl (fun _ => 0))), (e9_12, .inl (g.2.2.1, 200, .inr (.inl (fun _ => 0)))), (e10_13, .inr (2, [.ref e1_4, .ref e11_14, .int 0, .int 0])), (e11_14, .inl (g.2.1, 4, .inl (fun _ => 0))), (e12_15, .inr (1, [.ref e1_4, .int 0, .ref e13_16, .ref e14_17, .ref e15_18])), (e13_16, .inl (g.2.1, 3600, .inl (fun _ => 0))), (e14_17, .inl (g.2.1, 60, .inl (fun _ => 0))), (e15_18, .inl (g.2.1, 60, .inl (fun _ => 0))), (e16_19, .inr (0, [.ref e1_4, .int 0, .ref e17_20, .ref e18_21, .ref e19_22, .ref e20_23, .ref e21_24])), (e17_20, .inl (g.2.1, 24, .inl (fun _ => 0))), (e18_21, .inl (g.2.1, 24, .inl (fun _ => 0))), (e19_22, .inl (g.2.1, 24, .inl (fun _ => 0))), (e20_23, .inl (g.2.2.1, 384, .inr (.inl (fun _ => 0)))), (e21_24, .inl (g.2.1, 24, .inl (fun _ => 0))), (e22_25, .inr (4, [.ref e1_4, .int 0, .ref e23_26, .ref e24_27, .ref e25_28, .ref e26_29, .ref e27_30, .ref e28_31, .ref e29_32])), (e23_26, .inl (g.2.1, 12, .inl (fun _ => 0))), (e24_27, .inl (g.2.1, 12, .inl (fun _ => 0))), (e25_28, .inl (g.2.1, 12, .inl (fun _ => 0))), (e26_29, .inl (g.2.2.1, 12, .inr (.inl (fun _ => 0)))), (e27_30, .inl (g.2.2.1, 12, .inr (.inl (fun _ => 0)))), (e28_31, .inl (g.2.2.1, 12, .inr (.inl (fun _ => 0)))), (e29_32, .inl (g.2.2.1, 12, .inr (.inl (fun _ => 0)))), (e30_33, .inl (g.2.2.2.2, 8, .inr (.inr (.inr (.inr (fun _ => none))))))]) (rest := [.ref q34]) hC hZ hl zc_L_12 (ci_Model g q34) [31] [0, 1, 2, 3, 4, 5, 6, 7, 8, 9, 10, 11, 12, 13, 14, 15, 16, 17, 18, 19, 20, 21, 22, 23, 24, 25, 26, 27, 28, 29, 30] rfl rfl (by decide) rfl rfl (Nat.le_of_ble_eq_true rfl) ⟨⟨Nat.le_of_ble_eq_true rfl, Nat.le_of_ble_eq_true rfl⟩, Nat.le_of_ble_eq_true rfl, Nat.le_of_ble_eq_true rfl⟩ dL_law_12 (fun u36 H locs hp hZ => ?_)
  obtain ⟨e1_37, e2_38, e3_39, e4_40, e5_41, e6_42, e7_43, e8_44, e9_45, e10_46, e11_47, e12_48, e13_49, e14_50, e15_51, e16_52, e17_53, e18_54, e19_55, e20_56, e21_57, e22_58, e23_59, e24_60, e25_61, e26_62, e27_63, e28_64, e29_65, rfl⟩ := hp
  have hZ : zz_Z g A s.heap [(q1, .inr (6, [.ref e1_4, .ref e10_13, .ref e12_15, .ref e16_19, .ref e22_25, .ref e30_33, .int 0, .int 0])), (e1_4, .inr (5, [.int 0, .int 0, .ref e2_5, .ref e3_6, .ref e4_7, .ref e5_8, .ref e6_9, .ref e7_10, .ref e8_11, .ref e9_12])), (e2_5, .inl (g.2.1, 60, .inl (fun _ => 0))), (e3_6, .inl (g.2.1, 60, .inl (fun _ => 0))), (e4_7, .inl (g.2.1, 60, .inl (fun _ => 0))), (e5_8, .inl (g.2.1, 60, .inl (fun _ => 0))), (e6_9, .inl (g.2.1, 60, .inl (fun _ => 0))), (e7_10, .inl (g.2.2.1, 4000, .inr (.inl (fun _ => 0)))), (e8_11, .inl (g.2.2.2.1, 4000, .inl (fun _ => 0))), (e9_12, .inl (g.2.2.1, 200, .inr (.inl (fun _ => 0)))), (e10_13, .inr (2, [.ref e1_4, .ref e11_14, .int 0, .int 0])), (e11_14, .inl (g.2.1, 4, .inl (fun _ => 0))), (e12_15, .inr (1, [.ref e1_4, .int 0, .ref e13_16, .ref e14_17, .ref e15_18])), (e13_16, .inl (g.2.1, 3600, .inl (fun _ => 0))), (e14_17, .inl (g.2.1, 60, .inl (fun _ => 0))), (e15_18, .inl (g.2.1, 60, .inl (fun _ => 0))), (e16_19, .inr (0, [.ref e1_4, .int 0, .ref e17_20, .ref e18_21, .ref e19_22, .ref e20_23, .ref e21_24])), (e17_20, .inl (g.2.1, 24, .inl (fun _ => 0))), (e18_21, .inl (g.2.1, 24, .inl (fun _ => 0))), (e19_22, .inl (g.2.1, 24, .inl (fun _ => 0))), (e20_23, .inl (g.2.2.1, 384, .inr (.inl (fun _ => 0)))), (e21_24, .inl (g.2.1, 24, .inl (fun _ => 0))), (e22_25, .inr (4, [.ref e1_4, .int 0, .ref e23_26, .ref e24_27, .ref e25_28, .ref e26_29, .ref e27_30, .ref e28_31, .ref e29_32])), (e23_26, .inl (g.2.1, 12, .inl (fun _ => 0))), (e24_27, .inl (g.2.1, 12, .inl (fun _ => 0))), (e25_28, .inl (g.2.1, 12, .inl (fun _ => 0))), (e26_29, .inl (g.2.2.1, 12, .inr (.inl (fun _ => 0)))), (e27_30, .inl (g.2.2.1, 12, .inr (.inl (fun _ => 0)))), (e28_31, .inl (g.2.2.1, 12, .inr (.inl (fun _ => 0)))), (e29_32, .inl (g.2.2.1, 12, .inr (.inl (fun _ => 0)))), (e30_33, .inl (g.2.2.2.2, 8, .inr (.inr (.inr (.inr (fun _ => none)))))), (q34, .inr (7, [.int 0, .int 0, .ref e1_37, .ref e2_38, .ref e3_39, .ref e4_40, .ref e5_41, .ref e6_42, .ref e7_43, .int 0, .ref e8_44, .ref e9_45, .ref e10_46, .ref e11_47, .int 0, .int 0, .ref e12_48, .ref e13_49, .ref e14_50, .ref e15_51, .int 0, .ref e16_52, .ref e17_53, .ref e18_54, .ref e19_55, .int 0, .ref e20_56, .ref e21_57, .ref e22_58, .ref e23_59, .ref e24_60, .ref e25_61, .ref e26_62, .int 0, .ref e27_63, .ref e28_64, .ref e29_65])), (e1_37, .inl (g.2.1, 60, .inl (fun _ => 0))), (e2_38, .inl (g.2.1, 60, .inl (fun _ => 0))), (e3_39, .inl (g.2.1, 60, .inl (fun _ => 0))), (e4_40, .inl (g.2.1, 60, .inl (fun _ => 0))), (e5_41, .inl (g.2.1, 60, .inl (fun _ => 0))), (e6_42, .inl (g.2.2.1, 4000, .inr (.inl (fun _ => 0)))), (e7_43, .inl (g.2.2.2.1, 4000, .inl (fun _ => 0))), (e8_44, .inl (g.2.1, 4, .inl (fun _ => 0))), (e9_45, .inl (g.2.1, 5, .inl (fun _ => 0))), (e10_46, .inl (g.2.1, 5, .inl (fun _ => 0))), (e11_47, .inl (g.2.1, 5, .inl (fun _ => 0))), (e12_48, .inl (g.2.1, 4, .inl (fun _ => 0))), (e13_49, .inl (g.2.2.1, 200, .inr (.inl (fun _ => 0)))), (e14_50, .inl (g.2.2.2.1, 3600, .inl (fun _ => 0))), (e15_51, .inl (g.2.1, 60, .inl (fun _ => 0))), (e16_52, .inl (g.2.1, 24, .inl (fun _ => 0))), (e17_53, .inl (g.2.1, 24, .inl (fun _ => 0))), (e18_54, .inl (g.2.1, 24, .inl (fun _ => 0))), (e19_55, .inl (g.2.2.1, 384, .inr (.inl (fun _ => 0)))), (e20_56, .inl (g.2.1, 12, .inl (fun _ => 0))), (e21_57, .inl (g.2.1, 12, .inl (fun _ => 0))), (e22_58, .inl (g.2.1, 12, .inl (fun _ => 0))), (e23_59, .inl (g.2.2.1, 12, .inr (.inl (fun _ => 0)))), (e24_60, .inl (g.2.2.1, 12, .inr (.inl (fun _ => 0)))), (e25_61, .inl (g.2.1, 24, .inl (fun _ => 0))), (e26_62, .inl (g.2.1, 24, .inl (fun _ => 0))), (e27_63, .inl (g.2.1, 8, .inl (fun _ => 0))), (e28_64, .inl (g.2.2.1, 32000, .inr (.inl (fun _ => 0)))), (e29_65, .inl (g.2.2.2.1, 32000, .inl (fun _ => 0)))] H locs := hZ
  refine lv_astore_n (lv' := [(2, .ref q34), (1, .ref q1), (0, .ref b)]) hx hb dL_law_15 rfl hl (by decide) rfl (fun ls hl => ?_)
  refine lv_iconst (v := 0) hx hb dL_law_16 (by decide) ?_
  refine lv_istore_n (lv' := [(3, .int 0), (2, .ref q34), (1, .ref q1), (0, .ref b)]) hx hb dL_law_17 rfl hl (by decide) rfl (fun ls hl => ?_)
  refine W.widen (k := 61) (n := 89631) (Nat.le_of_ble_eq_true rfl) (Nat.le_of_ble_eq_true rfl) ?_
  refine lv_iload_n hx hb dL_law_18 rfl (lv_at hl 0 rfl) ?_
  refine lv_aload_n hx hb dL_law_19 rfl (lv_at hl 3 rfl) ?_
  refine va_slen hx hb hX hbl hbA hZ.2.2.1 dL_law_20 ?_
  refine lv_bipush (v := 9) hx hb dL_law_21 (by decide) ?_
  refine lv_isub hx hb dL_law_23 ?_
  refine lv_icmp_gt (tgt := 1881) hx hb dL_law_24 (by decide) (fun c1 => ?_) (fun c1 => ?_)
  · exact law_end hC hAs hZ.2.2.1 (Nat.le_of_ble_eq_true rfl) (Nat.le_of_ble_eq_true rfl)
  · have hL9 : L = 9 := zl_L9 hL c1
    rw [hL9] at hX
    refine lv_aload_n hx hb dL_law_27 rfl (lv_at hl 3 rfl) ?_
    refine lv_iload_n hx hb dL_law_28 rfl (lv_at hl 0 rfl) ?_
    refine va_sld hx hb hX hbl hbA hZ.2.2.1 (by unfold vp_in; decide) dL_law_29 ?_
    refine lv_bipush (v := 63) hx hb dL_law_30 (by decide) ?_
    refine lv_iand hx hb dL_law_32 ?_
    refine lv_topi (fun kk ekk => ?_)
    clear ekk
    rcases zz_sw kk 35 (by decide) with hk | ⟨k, hk, ek⟩
    · refine lv_tableOut (tgt := 1875) hx hb dL_law_33 (by rcases hk with q | q; exact Or.inl q; exact Or.inr (by omega)) (by decide) ?_
      exact law_tail hC hX hbl hAs hZ.2.2.1 (Nat.le_of_ble_eq_true rfl) (Nat.le_of_ble_eq_true rfl) (lv_sub hl [3, 0] rfl)
    · subst ek
      rcases (show k = 0 ∨ k = 1 ∨ k = 2 ∨ k = 3 ∨ k = 4 ∨ k = 5 ∨ k = 6 ∨ k = 7 ∨ k = 8 ∨ k = 9 ∨ k = 10 ∨ k = 11 ∨ k = 12 ∨ k = 13 ∨ k = 14 ∨ k = 15 ∨ k = 16 ∨ k = 17 ∨ k = 18 ∨ k = 19 ∨ k = 20 ∨ k = 21 ∨ k = 22 ∨ k = 23 ∨ k = 24 ∨ k = 25 ∨ k = 26 ∨ k = 27 ∨ k = 28 ∨ k = 29 ∨ k = 30 ∨ k = 31 ∨ k = 32 ∨ k = 33 ∨ k = 34 by omega) with rfl | rfl | rfl | rfl | rfl | rfl | rfl | rfl | rfl | rfl | rfl | rfl | rfl | rfl | rfl | rfl | rfl | rfl | rfl | rfl | rfl | rfl | rfl | rfl | rfl | rfl | rfl | rfl | rfl | rfl | rfl | rfl | rfl | rfl | rfl
      · refine lv_tableIn (tgt := 188) (off := 155) hx hb dL_law_33 (by decide) (by decide) (by decide) (by decide) ?_
        exact law_c0 g b xs q1 e1_4 e10_13 e12_15 e16_19 e22_25 e30_33 e2_5 e3_6 e4_7 e5_8 e6_9 e7_10 e8_11 e9_12 q34 e1_37 e2_38 e3_39 e4_40 e5_41 e6_42 e7_43 e8_44 e9_45 e10_46 e11_47 e12_48 e13_49 e14_50 e15_51 e16_52 e17_53 e18_54 e19_55 e20_56 e21_57 e22_58 e23_59 e24_60 e25_61 e26_62 e27_63 e28_64 e29_65 hC hX hbl hAs (hZ.sub [0, 1, 2, 3, 4, 5, 6, 31, 32, 33, 34, 35, 36, 37, 38] (by decide) rfl) (lv_sub hl [0, 1, 2, 3] rfl)
      · refine lv_tableIn (tgt := 221) (off := 188) hx hb dL_law_33 (by decide) (by decide) (by decide) (by decide) ?_
        exact law_c1 g b xs q1 e1_4 e10_13 e12_15 e16_19 e22_25 e30_33 e2_5 e3_6 e4_7 e5_8 e6_9 e7_10 e8_11 e9_12 q34 e1_37 e2_38 e3_39 e4_40 e5_41 e6_42 e7_43 e8_44 e9_45 e10_46 e11_47 e12_48 e13_49 e14_50 e15_51 e16_52 e17_53 e18_54 e19_55 e20_56 e21_57 e22_58 e23_59 e24_60 e25_61 e26_62 e27_63 e28_64 e29_65 hC hX hbl hAs (hZ.sub [0, 1, 2, 3, 4, 5, 6, 31, 32, 33, 34, 35, 36, 37, 38] (by decide) rfl) (lv_sub hl [0, 1, 2, 3] rfl)
      · refine lv_tableIn (tgt := 254) (off := 221) hx hb dL_law_33 (by decide) (by decide) (by decide) (by decide) ?_
        exact law_c2 g b xs q1 e1_4 e10_13 e12_15 e16_19 e22_25 e30_33 e2_5 e3_6 e4_7 e5_8 e6_9 e7_10 e8_11 e9_12 q34 e1_37 e2_38 e3_39 e4_40 e5_41 e6_42 e7_43 e8_44 e9_45 e10_46 e11_47 e12_48 e13_49 e14_50 e15_51 e16_52 e17_53 e18_54 e19_55 e20_56 e21_57 e22_58 e23_59 e24_60 e25_61 e26_62 e27_63 e28_64 e29_65 hC hX hbl hAs (hZ.sub [0, 1, 31] (by decide) rfl) (lv_sub hl [0, 1, 2, 3] rfl)
      · refine lv_tableIn (tgt := 287) (off := 254) hx hb dL_law_33 (by decide) (by decide) (by decide) (by decide) ?_
        exact law_c3 g b xs q1 e1_4 e10_13 e12_15 e16_19 e22_25 e30_33 e2_5 e3_6 e4_7 e5_8 e6_9 e7_10 e8_11 e9_12 e11_14 q34 e1_37 e2_38 e3_39 e4_40 e5_41 e6_42 e7_43 e8_44 e9_45 e10_46 e11_47 e12_48 e13_49 e14_50 e15_51 e16_52 e17_53 e18_54 e19_55 e20_56 e21_57 e22_58 e23_59 e24_60 e25_61 e26_62 e27_63 e28_64 e29_65 hC hX hbl hAs (hZ.sub [0, 1, 2, 3, 4, 5, 6, 7, 10, 11, 31, 32, 33, 34, 35, 36, 37, 38, 39, 40, 42] (by decide) rfl) (lv_sub hl [0, 1, 2, 3] rfl)
      · refine lv_tableIn (tgt := 362) (off := 329) hx hb dL_law_33 (by decide) (by decide) (by decide) (by decide) ?_
        exact law_c4 g b xs q1 e1_4 e10_13 e12_15 e16_19 e22_25 e30_33 e2_5 e3_6 e4_7 e5_8 e6_9 e7_10 e8_11 e9_12 q34 e1_37 e2_38 e3_39 e4_40 e5_41 e6_42 e7_43 e8_44 e9_45 e10_46 e11_47 e12_48 e13_49 e14_50 e15_51 e16_52 e17_53 e18_54 e19_55 e20_56 e21_57 e22_58 e23_59 e24_60 e25_61 e26_62 e27_63 e28_64 e29_65 hC hX hbl hAs (hZ.sub [0, 1, 31] (by decide) rfl) (lv_sub hl [0, 1, 2, 3] rfl)
      · refine lv_tableIn (tgt := 395) (off := 362) hx hb dL_law_33 (by decide) (by decide) (by decide) (by decide) ?_
        exact law_c5 g b xs q1 e1_4 e10_13 e12_15 e16_19 e22_25 e30_33 e2_5 e3_6 e4_7 e5_8 e6_9 e7_10 e8_11 e9_12 q34 e1_37 e2_38 e3_39 e4_40 e5_41 e6_42 e7_43 e8_44 e9_45 e10_46 e11_47 e12_48 e13_49 e14_50 e15_51 e16_52 e17_53 e18_54 e19_55 e20_56 e21_57 e22_58 e23_59 e24_60 e25_61 e26_62 e27_63 e28_64 e29_65 hC hX hbl hAs (hZ.sub [0, 1, 31] (by decide) rfl) (lv_sub hl [0, 1, 2, 3] rfl)
      · refine lv_tableIn (tgt := 428) (off := 395) hx hb dL_law_33 (by decide) (by decide) (by decide) (by decide) ?_
        exact law_c6 g b xs q1 e1_4 e10_13 e12_15 e16_19 e22_25 e30_33 e2_5 e3_6 e4_7 e5_8 e6_9 e7_10 e8_11 e9_12 q34 e1_37 e2_38 e3_39 e4_40 e5_41 e6_42 e7_43 e8_44 e9_45 e10_46 e11_47 e12_48 e13_49 e14_50 e15_51 e16_52 e17_53 e18_54 e19_55 e20_56 e21_57 e22_58 e23_59 e24_60 e25_61 e26_62 e27_63 e28_64 e29_65 hC hX hbl hAs (hZ.sub [0, 1, 31] (by decide) rfl) (lv_sub hl [0, 1, 2, 3] rfl)
      · refine lv_tableIn (tgt := 471) (off := 438) hx hb dL_law_33 (by decide) (by decide) (by decide) (by decide) ?_
        exact law_c7 g b xs q1 e1_4 e10_13 e12_15 e16_19 e22_25 e30_33 e2_5 e3_6 e4_7 e5_8 e6_9 e7_10 e8_11 e9_12 q34 e1_37 e2_38 e3_39 e4_40 e5_41 e6_42 e7_43 e8_44 e9_45 e10_46 e11_47 e12_48 e13_49 e14_50 e15_51 e16_52 e17_53 e18_54 e19_55 e20_56 e21_57 e22_58 e23_59 e24_60 e25_61 e26_62 e27_63 e28_64 e29_65 hC hX hbl hAs (hZ.sub [0, 1, 31] (by decide) rfl) (lv_sub hl [0, 1, 2, 3] rfl)
      · refine lv_tableIn (tgt := 547) (off := 514) hx hb dL_law_33 (by decide) (by decide) (by decide) (by decide) ?_
        exact law_c8 g b xs q1 e1_4 e10_13 e12_15 e16_19 e22_25 e30_33 e2_5 e3_6 e4_7 e5_8 e6_9 e7_10 e8_11 e9_12 q34 e1_37 e2_38 e3_39 e4_40 e5_41 e6_42 e7_43 e8_44 e9_45 e10_46 e11_47 e12_48 e13_49 e14_50 e15_51 e16_52 e17_53 e18_54 e19_55 e20_56 e21_57 e22_58 e23_59 e24_60 e25_61 e26_62 e27_63 e28_64 e29_65 hC hX hbl hAs (hZ.sub [0, 1, 31] (by decide) rfl) (lv_sub hl [0, 1, 2, 3] rfl)
      · refine lv_tableIn (tgt := 666) (off := 633) hx hb dL_law_33 (by decide) (by decide) (by decide) (by decide) ?_
        exact law_c9 g b xs q1 e1_4 e10_13 e12_15 e16_19 e22_25 e30_33 e2_5 e3_6 e4_7 e5_8 e6_9 e7_10 e8_11 e9_12 q34 e1_37 e2_38 e3_39 e4_40 e5_41 e6_42 e7_43 e8_44 e9_45 e10_46 e11_47 e12_48 e13_49 e14_50 e15_51 e16_52 e17_53 e18_54 e19_55 e20_56 e21_57 e22_58 e23_59 e24_60 e25_61 e26_62 e27_63 e28_64 e29_65 hC hX hbl hAs (hZ.sub [0, 1, 31] (by decide) rfl) (lv_sub hl [0, 1, 2, 3] rfl)
      · refine lv_tableIn (tgt := 729) (off := 696) hx hb dL_law_33 (by decide) (by decide) (by decide) (by decide) ?_
        exact law_c10 g b xs q1 e1_4 e10_13 e12_15 e16_19 e22_25 e30_33 e2_5 e3_6 e4_7 e5_8 e6_9 e7_10 e8_11 e9_12 q34 e1_37 e2_38 e3_39 e4_40 e5_41 e6_42 e7_43 e8_44 e9_45 e10_46 e11_47 e12_48 e13_49 e14_50 e15_51 e16_52 e17_53 e18_54 e19_55 e20_56 e21_57 e22_58 e23_59 e24_60 e25_61 e26_62 e27_63 e28_64 e29_65 hC hX hbl hAs (hZ.sub [0, 1, 31] (by decide) rfl) (lv_sub hl [0, 1, 2, 3] rfl)
      · refine lv_tableIn (tgt := 820) (off := 787) hx hb dL_law_33 (by decide) (by decide) (by decide) (by decide) ?_
        exact law_c11 g b xs q1 e1_4 e10_13 e12_15 e16_19 e22_25 e30_33 e2_5 e3_6 e4_7 e5_8 e6_9 e7_10 e8_11 e9_12 q34 e1_37 e2_38 e3_39 e4_40 e5_41 e6_42 e7_43 e8_44 e9_45 e10_46 e11_47 e12_48 e13_49 e14_50 e15_51 e16_52 e17_53 e18_54 e19_55 e20_56 e21_57 e22_58 e23_59 e24_60 e25_61 e26_62 e27_63 e28_64 e29_65 hC hX hbl hAs (hZ.sub [0, 1, 31] (by decide) rfl) (lv_sub hl [0, 1, 2, 3] rfl)
      · refine lv_tableIn (tgt := 853) (off := 820) hx hb dL_law_33 (by decide) (by decide) (by decide) (by decide) ?_
        exact law_c12 g b xs q1 e1_4 e10_13 e12_15 e16_19 e22_25 e30_33 q34 e1_37 e2_38 e3_39 e4_40 e5_41 e6_42 e7_43 e8_44 e9_45 e10_46 e11_47 e12_48 e13_49 e14_50 e15_51 e16_52 e17_53 e18_54 e19_55 e20_56 e21_57 e22_58 e23_59 e24_60 e25_61 e26_62 e27_63 e28_64 e29_65 hC hX hbl hAs (hZ.sub [0, 31] (by decide) rfl) (lv_sub hl [0, 1, 2, 3] rfl)
      · refine lv_tableIn (tgt := 866) (off := 833) hx hb dL_law_33 (by decide) (by decide) (by decide) (by decide) ?_
        exact law_c13 g b xs q1 e1_4 e10_13 e12_15 e16_19 e22_25 e30_33 q34 e1_37 e2_38 e3_39 e4_40 e5_41 e6_42 e7_43 e8_44 e9_45 e10_46 e11_47 e12_48 e13_49 e14_50 e15_51 e16_52 e17_53 e18_54 e19_55 e20_56 e21_57 e22_58 e23_59 e24_60 e25_61 e26_62 e27_63 e28_64 e29_65 hC hX hbl hAs (hZ.sub [0, 31] (by decide) rfl) (lv_sub hl [0, 1, 2, 3] rfl)
      · refine lv_tableIn (tgt := 899) (off := 866) hx hb dL_law_33 (by decide) (by decide) (by decide) (by decide) ?_
        exact law_c14 g b xs q1 e1_4 e10_13 e12_15 e16_19 e22_25 e30_33 e2_5 e3_6 e4_7 e5_8 e6_9 e7_10 e8_11 e9_12 q34 e1_37 e2_38 e3_39 e4_40 e5_41 e6_42 e7_43 e8_44 e9_45 e10_46 e11_47 e12_48 e13_49 e14_50 e15_51 e16_52 e17_53 e18_54 e19_55 e20_56 e21_57 e22_58 e23_59 e24_60 e25_61 e26_62 e27_63 e28_64 e29_65 hC hX hbl hAs (hZ.sub [0, 1, 31] (by decide) rfl) (lv_sub hl [0, 1, 2, 3] rfl)
      · refine lv_tableIn (tgt := 994) (off := 961) hx hb dL_law_33 (by decide) (by decide) (by decide) (by decide) ?_
        exact law_c15 g b xs q1 e1_4 e10_13 e12_15 e16_19 e22_25 e30_33 e2_5 e3_6 e4_7 e5_8 e6_9 e7_10 e8_11 e9_12 q34 e1_37 e2_38 e3_39 e4_40 e5_41 e6_42 e7_43 e8_44 e9_45 e10_46 e11_47 e12_48 e13_49 e14_50 e15_51 e16_52 e17_53 e18_54 e19_55 e20_56 e21_57 e22_58 e23_59 e24_60 e25_61 e26_62 e27_63 e28_64 e29_65 hC hX hbl hAs (hZ.sub [0, 1, 31] (by decide) rfl) (lv_sub hl [0, 1, 2, 3] rfl)
      · refine lv_tableIn (tgt := 1057) (off := 1024) hx hb dL_law_33 (by decide) (by decide) (by decide) (by decide) ?_
        exact law_c16 g b xs q1 e1_4 e10_13 e12_15 e16_19 e22_25 e30_33 e2_5 e3_6 e4_7 e5_8 e6_9 e7_10 e8_11 e9_12 q34 e1_37 e2_38 e3_39 e4_40 e5_41 e6_42 e7_43 e8_44 e9_45 e10_46 e11_47 e12_48 e13_49 e14_50 e15_51 e16_52 e17_53 e18_54 e19_55 e20_56 e21_57 e22_58 e23_59 e24_60 e25_61 e26_62 e27_63 e28_64 e29_65 hC hX hbl hAs (hZ.sub [0, 1, 31] (by decide) rfl) (lv_sub hl [0, 1, 2, 3] rfl)
      · refine lv_tableIn (tgt := 1090) (off := 1057) hx hb dL_law_33 (by decide) (by decide) (by decide) (by decide) ?_
        exact law_c17 g b xs q1 e1_4 e10_13 e12_15 e16_19 e22_25 e30_33 e2_5 e3_6 e4_7 e5_8 e6_9 e7_10 e8_11 e9_12 q34 e1_37 e2_38 e3_39 e4_40 e5_41 e6_42 e7_43 e8_44 e9_45 e10_46 e11_47 e12_48 e13_49 e14_50 e15_51 e16_52 e17_53 e18_54 e19_55 e20_56 e21_57 e22_58 e23_59 e24_60 e25_61 e26_62 e27_63 e28_64 e29_65 hC hX hbl hAs (hZ.sub [0, 1, 31] (by decide) rfl) (lv_sub hl [0, 1, 2, 3] rfl)
      · refine lv_tableIn (tgt := 1113) (off := 1080) hx hb dL_law_33 (by decide) (by decide) (by decide) (by decide) ?_
        exact law_c18 g b xs q1 e1_4 e10_13 e12_15 e16_19 e22_25 e30_33 e2_5 e3_6 e4_7 e5_8 e6_9 e7_10 e8_11 e9_12 q34 e1_37 e2_38 e3_39 e4_40 e5_41 e6_42 e7_43 e8_44 e9_45 e10_46 e11_47 e12_48 e13_49 e14_50 e15_51 e16_52 e17_53 e18_54 e19_55 e20_56 e21_57 e22_58 e23_59 e24_60 e25_61 e26_62 e27_63 e28_64 e29_65 hC hX hbl hAs (hZ.sub [0, 1, 31] (by decide) rfl) (lv_sub hl [0, 1, 2, 3] rfl)
      · refine lv_tableIn (tgt := 1156) (off := 1123) hx hb dL_law_33 (by decide) (by decide) (by decide) (by decide) ?_
        exact law_c19 g b xs q1 e1_4 e10_13 e12_15 e16_19 e22_25 e30_33 e2_5 e3_6 e4_7 e5_8 e6_9 e7_10 e8_11 e9_12 q34 e1_37 e2_38 e3_39 e4_40 e5_41 e6_42 e7_43 e8_44 e9_45 e10_46 e11_47 e12_48 e13_49 e14_50 e15_51 e16_52 e17_53 e18_54 e19_55 e20_56 e21_57 e22_58 e23_59 e24_60 e25_61 e26_62 e27_63 e28_64 e29_65 hC hX hbl hAs (hZ.sub [0, 1, 31] (by decide) rfl) (lv_sub hl [0, 1, 2, 3] rfl)
      · refine lv_tableIn (tgt := 1219) (off := 1186) hx hb dL_law_33 (by decide) (by decide) (by decide) (by decide) ?_
        exact law_c20 g b xs q1 e1_4 e10_13 e12_15 e16_19 e22_25 e30_33 e2_5 e3_6 e4_7 e5_8 e6_9 e7_10 e8_11 e9_12 q34 e1_37 e2_38 e3_39 e4_40 e5_41 e6_42 e7_43 e8_44 e9_45 e10_46 e11_47 e12_48 e13_49 e14_50 e15_51 e16_52 e17_53 e18_54 e19_55 e20_56 e21_57 e22_58 e23_59 e24_60 e25_61 e26_62 e27_63 e28_64 e29_65 hC hX hbl hAs (hZ.sub [0, 1, 31] (by decide) rfl) (lv_sub hl [0, 1, 2, 3] rfl)
      · refine lv_tableIn (tgt := 1252) (off := 1219) hx hb dL_law_33 (by decide) (by decide) (by decide) (by decide) ?_
        exact law_c21 g b xs q1 e1_4 e10_13 e12_15 e16_19 e22_25 e30_33 e2_5 e3_6 e4_7 e5_8 e6_9 e7_10 e8_11 e9_12 q34 e1_37 e2_38 e3_39 e4_40 e5_41 e6_42 e7_43 e8_44 e9_45 e10_46 e11_47 e12_48 e13_49 e14_50 e15_51 e16_52 e17_53 e18_54 e19_55 e20_56 e21_57 e22_58 e23_59 e24_60 e25_61 e26_62 e27_63 e28_64 e29_65 hC hX hbl hAs (hZ.sub [0, 1, 31] (by decide) rfl) (lv_sub hl [0, 1, 2, 3] rfl)
      · refine lv_tableIn (tgt := 1275) (off := 1242) hx hb dL_law_33 (by decide) (by decide) (by decide) (by decide) ?_
        exact law_c22 g b xs q1 e1_4 e10_13 e12_15 e16_19 e22_25 e30_33 e2_5 e3_6 e4_7 e5_8 e6_9 e7_10 e8_11 e9_12 q34 e1_37 e2_38 e3_39 e4_40 e5_41 e6_42 e7_43 e8_44 e9_45 e10_46 e11_47 e12_48 e13_49 e14_50 e15_51 e16_52 e17_53 e18_54 e19_55 e20_56 e21_57 e22_58 e23_59 e24_60 e25_61 e26_62 e27_63 e28_64 e29_65 hC hX hbl hAs (hZ.sub [0, 1, 31] (by decide) rfl) (lv_sub hl [0, 1, 2, 3] rfl)
      · refine lv_tableIn (tgt := 1338) (off := 1305) hx hb dL_law_33 (by decide) (by decide) (by decide) (by decide) ?_
        exact law_c23 g b xs q1 e1_4 e10_13 e12_15 e16_19 e22_25 e30_33 e17_20 e18_21 e19_22 e20_23 e21_24 q34 e1_37 e2_38 e3_39 e4_40 e5_41 e6_42 e7_43 e8_44 e9_45 e10_46 e11_47 e12_48 e13_49 e14_50 e15_51 e16_52 e17_53 e18_54 e19_55 e20_56 e21_57 e22_58 e23_59 e24_60 e25_61 e26_62 e27_63 e28_64 e29_65 hC hX hbl hAs (hZ.sub [0, 16, 31] (by decide) rfl) (lv_sub hl [0, 1, 2, 3] rfl)
      · refine lv_tableIn (tgt := 1401) (off := 1368) hx hb dL_law_33 (by decide) (by decide) (by decide) (by decide) ?_
        exact law_c24 g b xs q1 e1_4 e10_13 e12_15 e16_19 e22_25 e30_33 e17_20 e18_21 e19_22 e20_23 e21_24 q34 e1_37 e2_38 e3_39 e4_40 e5_41 e6_42 e7_43 e8_44 e9_45 e10_46 e11_47 e12_48 e13_49 e14_50 e15_51 e16_52 e17_53 e18_54 e19_55 e20_56 e21_57 e22_58 e23_59 e24_60 e25_61 e26_62 e27_63 e28_64 e29_65 hC hX hbl hAs (hZ.sub [0, 16, 31] (by decide) rfl) (lv_sub hl [0, 1, 2, 3] rfl)
      · refine lv_tableIn (tgt := 1548) (off := 1515) hx hb dL_law_33 (by decide) (by decide) (by decide) (by decide) ?_
        exact law_c25 g b xs q1 e1_4 e10_13 e12_15 e16_19 e22_25 e30_33 e17_20 e18_21 e19_22 e20_23 e21_24 q34 e1_37 e2_38 e3_39 e4_40 e5_41 e6_42 e7_43 e8_44 e9_45 e10_46 e11_47 e12_48 e13_49 e14_50 e15_51 e16_52 e17_53 e18_54 e19_55 e20_56 e21_57 e22_58 e23_59 e24_60 e25_61 e26_62 e27_63 e28_64 e29_65 hC hX hbl hAs (hZ.sub [0, 16, 31] (by decide) rfl) (lv_sub hl [0, 1, 2, 3] rfl)
      · refine lv_tableIn (tgt := 1581) (off := 1548) hx hb dL_law_33 (by decide) (by decide) (by decide) (by decide) ?_
        exact law_c26 g b xs q1 e1_4 e10_13 e12_15 e16_19 e22_25 e30_33 e17_20 e18_21 e19_22 e20_23 e21_24 q34 e1_37 e2_38 e3_39 e4_40 e5_41 e6_42 e7_43 e8_44 e9_45 e10_46 e11_47 e12_48 e13_49 e14_50 e15_51 e16_52 e17_53 e18_54 e19_55 e20_56 e21_57 e22_58 e23_59 e24_60 e25_61 e26_62 e27_63 e28_64 e29_65 hC hX hbl hAs (hZ.sub [0, 16, 31] (by decide) rfl) (lv_sub hl [0, 1, 2, 3] rfl)
      · refine lv_tableIn (tgt := 1614) (off := 1581) hx hb dL_law_33 (by decide) (by decide) (by decide) (by decide) ?_
        exact law_c27 g b xs q1 e1_4 e10_13 e12_15 e16_19 e22_25 e30_33 e17_20 e18_21 e19_22 e20_23 e21_24 q34 e1_37 e2_38 e3_39 e4_40 e5_41 e6_42 e7_43 e8_44 e9_45 e10_46 e11_47 e12_48 e13_49 e14_50 e15_51 e16_52 e17_53 e18_54 e19_55 e20_56 e21_57 e22_58 e23_59 e24_60 e25_61 e26_62 e27_63 e28_64 e29_65 hC hX hbl hAs (hZ.sub [0, 16, 31] (by decide) rfl) (lv_sub hl [0, 1, 2, 3] rfl)
      · refine lv_tableIn (tgt := 1648) (off := 1615) hx hb dL_law_33 (by decide) (by decide) (by decide) (by decide) ?_
        exact law_c28 g b xs q1 e1_4 e10_13 e12_15 e16_19 e22_25 e30_33 e2_5 e3_6 e4_7 e5_8 e6_9 e7_10 e8_11 e9_12 q34 e1_37 e2_38 e3_39 e4_40 e5_41 e6_42 e7_43 e8_44 e9_45 e10_46 e11_47 e12_48 e13_49 e14_50 e15_51 e16_52 e17_53 e18_54 e19_55 e20_56 e21_57 e22_58 e23_59 e24_60 e25_61 e26_62 e27_63 e28_64 e29_65 hC hX hbl hAs (hZ.sub [0, 1, 31] (by decide) rfl) (lv_sub hl [0, 1, 2, 3] rfl)
      · refine lv_tableIn (tgt := 1775) (off := 1742) hx hb dL_law_33 (by decide) (by decide) (by decide) (by decide) ?_
        exact law_c29 g b xs q1 e1_4 e10_13 e12_15 e16_19 e22_25 e30_33 e23_26 e24_27 e25_28 e26_29 e27_30 e28_31 e29_32 q34 e1_37 e2_38 e3_39 e4_40 e5_41 e6_42 e7_43 e8_44 e9_45 e10_46 e11_47 e12_48 e13_49 e14_50 e15_51 e16_52 e17_53 e18_54 e19_55 e20_56 e21_57 e22_58 e23_59 e24_60 e25_61 e26_62 e27_63 e28_64 e29_65 hC hX hbl hAs (hZ.sub [0, 22, 31] (by decide) rfl) (lv_sub hl [0, 1, 2, 3] rfl)
      · refine lv_tableIn (tgt := 1799) (off := 1766) hx hb dL_law_33 (by decide) (by decide) (by decide) (by decide) ?_
        exact law_c30 g b xs q1 e1_4 e10_13 e12_15 e16_19 e22_25 e30_33 e23_26 e24_27 e25_28 e26_29 e27_30 e28_31 e29_32 q34 e1_37 e2_38 e3_39 e4_40 e5_41 e6_42 e7_43 e8_44 e9_45 e10_46 e11_47 e12_48 e13_49 e14_50 e15_51 e16_52 e17_53 e18_54 e19_55 e20_56 e21_57 e22_58 e23_59 e24_60 e25_61 e26_62 e27_63 e28_64 e29_65 hC hX hbl hAs (hZ.sub [0, 22, 31] (by decide) rfl) (lv_sub hl [0, 1, 2, 3] rfl)
      · refine lv_tableIn (tgt := 1813) (off := 1780) hx hb dL_law_33 (by decide) (by decide) (by decide) (by decide) ?_
        exact law_c31 g b xs q1 e1_4 e10_13 e12_15 e16_19 e22_25 e30_33 e17_20 e18_21 e19_22 e20_23 e21_24 e23_26 e24_27 e25_28 e26_29 e27_30 e28_31 e29_32 q34 e1_37 e2_38 e3_39 e4_40 e5_41 e6_42 e7_43 e8_44 e9_45 e10_46 e11_47 e12_48 e13_49 e14_50 e15_51 e16_52 e17_53 e18_54 e19_55 e20_56 e21_57 e22_58 e23_59 e24_60 e25_61 e26_62 e27_63 e28_64 e29_65 hC hX hbl hAs (hZ.sub [0, 16, 22, 31] (by decide) rfl) (lv_sub hl [0, 1, 2, 3] rfl)
      · refine lv_tableIn (tgt := 1826) (off := 1793) hx hb dL_law_33 (by decide) (by decide) (by decide) (by decide) ?_
        exact law_c32 g b xs q1 e1_4 e10_13 e12_15 e16_19 e22_25 e30_33 e2_5 e3_6 e4_7 e5_8 e6_9 e7_10 e8_11 e9_12 e17_20 e18_21 e19_22 e20_23 e21_24 q34 e1_37 e2_38 e3_39 e4_40 e5_41 e6_42 e7_43 e8_44 e9_45 e10_46 e11_47 e12_48 e13_49 e14_50 e15_51 e16_52 e17_53 e18_54 e19_55 e20_56 e21_57 e22_58 e23_59 e24_60 e25_61 e26_62 e27_63 e28_64 e29_65 hC hX hbl hAs (hZ.sub [0, 1, 16, 30, 31, 58] (by decide) rfl) (lv_sub hl [0, 1, 2, 3] rfl)
      · refine lv_tableIn (tgt := 1839) (off := 1806) hx hb dL_law_33 (by decide) (by decide) (by decide) (by decide) ?_
        exact law_c33 g b xs q1 e1_4 e10_13 e12_15 e16_19 e22_25 e30_33 q34 e1_37 e2_38 e3_39 e4_40 e5_41 e6_42 e7_43 e8_44 e9_45 e10_46 e11_47 e12_48 e13_49 e14_50 e15_51 e16_52 e17_53 e18_54 e19_55 e20_56 e21_57 e22_58 e23_59 e24_60 e25_61 e26_62 e27_63 e28_64 e29_65 hC hX hbl hAs (hZ.sub [0, 31] (by decide) rfl) (lv_sub hl [0, 1, 2, 3] rfl)
      · refine lv_tableIn (tgt := 1852) (off := 1819) hx hb dL_law_33 (by decide) (by decide) (by decide) (by decide) ?_
        exact law_c34 g b xs q1 e1_4 e10_13 e12_15 e16_19 e22_25 e30_33 e2_5 e3_6 e4_7 e5_8 e6_9 e7_10 e8_11 e9_12 e17_20 e18_21 e19_22 e20_23 e21_24 e23_26 e24_27 e25_28 e26_29 e27_30 e28_31 e29_32 q34 e1_37 e2_38 e3_39 e4_40 e5_41 e6_42 e7_43 e8_44 e9_45 e10_46 e11_47 e12_48 e13_49 e14_50 e15_51 e16_52 e17_53 e18_54 e19_55 e20_56 e21_57 e22_58 e23_59 e24_60 e25_61 e26_62 e27_63 e28_64 e29_65 hC hX hbl hAs (hZ.sub [0, 1, 16, 22, 31] (by decide) rfl) (lv_sub hl [0, 1, 2, 3] rfl)
