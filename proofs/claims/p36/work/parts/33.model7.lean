/-- the reference's marks: what they hold of rows is sound -/
def zz_MK (na ne nm : Nat) (dpf saf lnf mef : Nat → Int32) (mbf : Nat → Int64) : Prop := nm ≤ 8 ∧ ∀ k, k < nm → ∃ mu : Nat, mef k = nI mu ∧ mu ≤ ne ∧ ∀ a sz lz dz : Nat, a < na → saf a = nI sz → lnf a = nI lz → dpf a = nI dz → sz ≤ 4000 → lz ≤ 200 → dz ≤ 4 → (mu ≤ sz ∨ (sz + lz ≤ mu ∧ (1 < dz → ∀ i, i < lz → zz_VR na dpf (mbf (4000 * k + (sz + i))) dz)))
theorem zl_MKadd {na ne nm : Nat} {dpf saf lnf mef : Nat → Int32} {btf mbf mb2 : Nat → Int64} (hM : zz_MI na ne dpf saf lnf btf) (h : zz_MK na ne nm dpf saf lnf mef mbf) (h8 : nm < 8) (h1 : ∀ j, j < ne → mb2 (4000 * nm + j) = btf j) (h2 : ∀ j, j < 4000 * nm → mb2 j = mbf j) : zz_MK na ne (nm + 1) dpf saf lnf (upd mef nm (nI ne)) mb2 := by
  have hne := hM.1.2.1
  refine ⟨by omega, fun k hk => ?_⟩
  by_cases e : k = nm
  · subst e
    refine ⟨ne, pk_us, Nat.le_refl _, fun a sz lz dz ha e1 e2 e3 g1 g2 g3 => Or.inr ?_⟩
    obtain ⟨sz', lz', dz', c1, c2, c3, c4, c5, c6, c7⟩ := hM.1.2.2 a ha
    have := zl_inj (e1.symm.trans c1) g1 (by omega)
    have := zl_inj (e2.symm.trans c2) (by omega) (by omega)
    refine ⟨by omega, fun h4 i hi => ?_⟩
    rw [h1 _ (by omega)]
    exact hM.2.2 a sz lz dz ha e1 e2 e3 g1 g2 g3 h4 i hi
  · obtain ⟨mu, c1, c2, c3⟩ := h.2 k (by omega)
    refine ⟨mu, (pk_un e).trans c1, c2, fun a sz lz dz ha e1 e2 e3 g1 g2 g3 => ?_⟩
    rcases c3 a sz lz dz ha e1 e2 e3 g1 g2 g3 with q | ⟨q1, q2⟩
    · exact Or.inl q
    · refine Or.inr ⟨q1, fun h4 i hi => ?_⟩
      rw [h2 _ (by omega)]
      exact q2 h4 i hi
theorem zl_MKgrow {na ne na2 ne2 nm : Nat} {dpf saf lnf dp2 sa2 ln2 mef : Nat → Int32} {mbf : Nat → Int64} (h : zz_MK na ne nm dpf saf lnf mef mbf) (hg : zz_GW na ne na2 ne2 dpf saf lnf dp2 sa2 ln2) : zz_MK na2 ne2 nm dp2 sa2 ln2 mef mbf := by
  obtain ⟨q1, q2, q3, q4⟩ := hg
  refine ⟨h.1, fun k hk => ?_⟩
  obtain ⟨mu, c1, c2, c3⟩ := h.2 k hk
  refine ⟨mu, c1, by omega, fun a sz lz dz ha e1 e2 e3 g1 g2 g3 => ?_⟩
  by_cases e : a < na
  · rcases c3 a sz lz dz e ((q3 a e).1.symm.trans e1) ((q3 a e).2.1.symm.trans e2) ((q3 a e).2.2.symm.trans e3) g1 g2 g3 with q | ⟨p1, p2⟩
    · exact Or.inl q
    · exact Or.inr ⟨p1, fun h4 i hi => (p2 h4 i hi).mono q1 (fun j hj => (q3 j hj).2.2)⟩
  · have := q4 a sz (by omega) ha e1 g1
    exact Or.inl (by omega)
theorem zl_MKback {na ne nm mu : Nat} {dpf saf lnf mef : Nat → Int32} {btf bt2 mbf : Nat → Int64} (hM : zz_MI na ne dpf saf lnf btf) (h : zz_MK na ne (nm + 1) dpf saf lnf mef mbf) (em : mef nm = nI mu) (hmu : mu ≤ 4000) (h1 : ∀ j, j < mu → bt2 j = mbf (4000 * nm + j)) (h2 : ∀ j, mu ≤ j → bt2 j = btf j) : zz_MI na ne dpf saf lnf bt2 := by
  have hne := hM.1.2.1
  refine ⟨hM.1, hM.2.1, fun a sz lz dz ha e1 e2 e3 g1 g2 g3 h4 i hi => ?_⟩
  obtain ⟨mu', c1, c2, c3⟩ := h.2 nm (by omega)
  have := zl_inj (em.symm.trans c1) hmu (by omega)
  rcases c3 a sz lz dz ha e1 e2 e3 g1 g2 g3 with q | ⟨q1, q2⟩
  · rw [h2 _ (by omega)]
    exact hM.2.2 a sz lz dz ha e1 e2 e3 g1 g2 g3 h4 i hi
  · rw [h1 _ (by omega)]
    exact q2 h4 i hi
theorem zl_MKdrop {na ne nm : Nat} {dpf saf lnf mef : Nat → Int32} {mbf : Nat → Int64} (h : zz_MK na ne (nm + 1) dpf saf lnf mef mbf) : zz_MK na ne nm dpf saf lnf mef mbf := ⟨by have := h.1; omega, fun k hk => h.2 k (by omega)⟩
theorem dg_X8_mark_0 : (decode cX8_mark 0 = .ok (.aload_n 0, 1)) ∧ (decode cX8_mark 1 = .ok (.getfield 303, 3)) ∧ (decode cX8_mark 4 = .ok (.bipush 8, 2)) ∧ (decode cX8_mark 6 = .ok (.if_icmp .ne 10, 3)) ∧ (decode cX8_mark 9 = .ok (.aload_n 0, 1)) ∧ (decode cX8_mark 10 = .ok (.bipush 8, 2)) ∧ (decode cX8_mark 12 = .ok (.invokevirtual 175, 3)) ∧ (decode cX8_mark 15 = .ok (.ireturn, 1)) ∧ (decode cX8_mark 16 = .ok (.aload_n 0, 1)) ∧ (decode cX8_mark 17 = .ok (.getfield 90, 3)) ∧ (decode cX8_mark 20 = .ok (.aload_n 0, 1)) ∧ (decode cX8_mark 21 = .ok (.getfield 303, 3)) ∧ (decode cX8_mark 24 = .ok (.aload_n 0, 1)) ∧ (decode cX8_mark 25 = .ok (.getfield 186, 3)) ∧ (decode cX8_mark 28 = .ok (.iastore, 1)) ∧ (decode cX8_mark 29 = .ok (.iconst 0, 1)) := by decide +kernel
theorem dX8_mark_0 : decode cX8_mark 0 = .ok (.aload_n 0, 1) := dg_X8_mark_0.1
theorem dX8_mark_1 : decode cX8_mark 1 = .ok (.getfield 303, 3) := dg_X8_mark_0.2.1
theorem dX8_mark_4 : decode cX8_mark 4 = .ok (.bipush 8, 2) := dg_X8_mark_0.2.2.1
theorem dX8_mark_6 : decode cX8_mark 6 = .ok (.if_icmp .ne 10, 3) := dg_X8_mark_0.2.2.2.1
theorem dX8_mark_9 : decode cX8_mark 9 = .ok (.aload_n 0, 1) := dg_X8_mark_0.2.2.2.2.1
theorem dX8_mark_10 : decode cX8_mark 10 = .ok (.bipush 8, 2) := dg_X8_mark_0.2.2.2.2.2.1
theorem dX8_mark_12 : decode cX8_mark 12 = .ok (.invokevirtual 175, 3) := dg_X8_mark_0.2.2.2.2.2.2.1
theorem dX8_mark_15 : decode cX8_mark 15 = .ok (.ireturn, 1) := dg_X8_mark_0.2.2.2.2.2.2.2.1
theorem dX8_mark_16 : decode cX8_mark 16 = .ok (.aload_n 0, 1) := dg_X8_mark_0.2.2.2.2.2.2.2.2.1
theorem dX8_mark_17 : decode cX8_mark 17 = .ok (.getfield 90, 3) := dg_X8_mark_0.2.2.2.2.2.2.2.2.2.1
theorem dX8_mark_20 : decode cX8_mark 20 = .ok (.aload_n 0, 1) := dg_X8_mark_0.2.2.2.2.2.2.2.2.2.2.1
theorem dX8_mark_21 : decode cX8_mark 21 = .ok (.getfield 303, 3) := dg_X8_mark_0.2.2.2.2.2.2.2.2.2.2.2.1
theorem dX8_mark_24 : decode cX8_mark 24 = .ok (.aload_n 0, 1) := dg_X8_mark_0.2.2.2.2.2.2.2.2.2.2.2.2.1
theorem dX8_mark_25 : decode cX8_mark 25 = .ok (.getfield 186, 3) := dg_X8_mark_0.2.2.2.2.2.2.2.2.2.2.2.2.2.1
theorem dX8_mark_28 : decode cX8_mark 28 = .ok (.iastore, 1) := dg_X8_mark_0.2.2.2.2.2.2.2.2.2.2.2.2.2.2.1
theorem dX8_mark_29 : decode cX8_mark 29 = .ok (.iconst 0, 1) := dg_X8_mark_0.2.2.2.2.2.2.2.2.2.2.2.2.2.2.2
theorem dg_X8_mark_30 : (decode cX8_mark 30 = .ok (.istore_n 1, 1)) ∧ (decode cX8_mark 31 = .ok (.iload_n 1, 1)) ∧ (decode cX8_mark 32 = .ok (.aload_n 0, 1)) ∧ (decode cX8_mark 33 = .ok (.getfield 186, 3)) ∧ (decode cX8_mark 36 = .ok (.if_icmp .ge 51, 3)) ∧ (decode cX8_mark 39 = .ok (.aload_n 0, 1)) ∧ (decode cX8_mark 40 = .ok (.getfield 93, 3)) ∧ (decode cX8_mark 43 = .ok (.sipush 4000, 3)) ∧ (decode cX8_mark 46 = .ok (.aload_n 0, 1)) ∧ (decode cX8_mark 47 = .ok (.getfield 303, 3)) ∧ (decode cX8_mark 50 = .ok (.imul, 1)) ∧ (decode cX8_mark 51 = .ok (.iload_n 1, 1)) ∧ (decode cX8_mark 52 = .ok (.iadd, 1)) ∧ (decode cX8_mark 53 = .ok (.aload_n 0, 1)) ∧ (decode cX8_mark 54 = .ok (.getfield 25, 3)) ∧ (decode cX8_mark 57 = .ok (.iload_n 1, 1)) := by decide +kernel
theorem dX8_mark_30 : decode cX8_mark 30 = .ok (.istore_n 1, 1) := dg_X8_mark_30.1
theorem dX8_mark_31 : decode cX8_mark 31 = .ok (.iload_n 1, 1) := dg_X8_mark_30.2.1
theorem dX8_mark_32 : decode cX8_mark 32 = .ok (.aload_n 0, 1) := dg_X8_mark_30.2.2.1
theorem dX8_mark_33 : decode cX8_mark 33 = .ok (.getfield 186, 3) := dg_X8_mark_30.2.2.2.1
theorem dX8_mark_36 : decode cX8_mark 36 = .ok (.if_icmp .ge 51, 3) := dg_X8_mark_30.2.2.2.2.1
theorem dX8_mark_39 : decode cX8_mark 39 = .ok (.aload_n 0, 1) := dg_X8_mark_30.2.2.2.2.2.1
theorem dX8_mark_40 : decode cX8_mark 40 = .ok (.getfield 93, 3) := dg_X8_mark_30.2.2.2.2.2.2.1
theorem dX8_mark_43 : decode cX8_mark 43 = .ok (.sipush 4000, 3) := dg_X8_mark_30.2.2.2.2.2.2.2.1
theorem dX8_mark_46 : decode cX8_mark 46 = .ok (.aload_n 0, 1) := dg_X8_mark_30.2.2.2.2.2.2.2.2.1
theorem dX8_mark_47 : decode cX8_mark 47 = .ok (.getfield 303, 3) := dg_X8_mark_30.2.2.2.2.2.2.2.2.2.1
theorem dX8_mark_50 : decode cX8_mark 50 = .ok (.imul, 1) := dg_X8_mark_30.2.2.2.2.2.2.2.2.2.2.1
theorem dX8_mark_51 : decode cX8_mark 51 = .ok (.iload_n 1, 1) := dg_X8_mark_30.2.2.2.2.2.2.2.2.2.2.2.1
theorem dX8_mark_52 : decode cX8_mark 52 = .ok (.iadd, 1) := dg_X8_mark_30.2.2.2.2.2.2.2.2.2.2.2.2.1
theorem dX8_mark_53 : decode cX8_mark 53 = .ok (.aload_n 0, 1) := dg_X8_mark_30.2.2.2.2.2.2.2.2.2.2.2.2.2.1
theorem dX8_mark_54 : decode cX8_mark 54 = .ok (.getfield 25, 3) := dg_X8_mark_30.2.2.2.2.2.2.2.2.2.2.2.2.2.2.1
theorem dX8_mark_57 : decode cX8_mark 57 = .ok (.iload_n 1, 1) := dg_X8_mark_30.2.2.2.2.2.2.2.2.2.2.2.2.2.2.2
theorem dg_X8_mark_58 : (decode cX8_mark 58 = .ok (.laload, 1)) ∧ (decode cX8_mark 59 = .ok (.lastore, 1)) ∧ (decode cX8_mark 60 = .ok (.aload_n 0, 1)) ∧ (decode cX8_mark 61 = .ok (.getfield 96, 3)) ∧ (decode cX8_mark 64 = .ok (.sipush 4000, 3)) ∧ (decode cX8_mark 67 = .ok (.aload_n 0, 1)) ∧ (decode cX8_mark 68 = .ok (.getfield 303, 3)) ∧ (decode cX8_mark 71 = .ok (.imul, 1)) ∧ (decode cX8_mark 72 = .ok (.iload_n 1, 1)) ∧ (decode cX8_mark 73 = .ok (.iadd, 1)) ∧ (decode cX8_mark 74 = .ok (.aload_n 0, 1)) ∧ (decode cX8_mark 75 = .ok (.getfield 29, 3)) ∧ (decode cX8_mark 78 = .ok (.iload_n 1, 1)) ∧ (decode cX8_mark 79 = .ok (.baload, 1)) ∧ (decode cX8_mark 80 = .ok (.bastore, 1)) ∧ (decode cX8_mark 81 = .ok (.iinc 1 1, 3)) := by decide +kernel
theorem dX8_mark_58 : decode cX8_mark 58 = .ok (.laload, 1) := dg_X8_mark_58.1
theorem dX8_mark_59 : decode cX8_mark 59 = .ok (.lastore, 1) := dg_X8_mark_58.2.1
theorem dX8_mark_60 : decode cX8_mark 60 = .ok (.aload_n 0, 1) := dg_X8_mark_58.2.2.1
theorem dX8_mark_61 : decode cX8_mark 61 = .ok (.getfield 96, 3) := dg_X8_mark_58.2.2.2.1
theorem dX8_mark_64 : decode cX8_mark 64 = .ok (.sipush 4000, 3) := dg_X8_mark_58.2.2.2.2.1
theorem dX8_mark_67 : decode cX8_mark 67 = .ok (.aload_n 0, 1) := dg_X8_mark_58.2.2.2.2.2.1
theorem dX8_mark_68 : decode cX8_mark 68 = .ok (.getfield 303, 3) := dg_X8_mark_58.2.2.2.2.2.2.1
theorem dX8_mark_71 : decode cX8_mark 71 = .ok (.imul, 1) := dg_X8_mark_58.2.2.2.2.2.2.2.1
theorem dX8_mark_72 : decode cX8_mark 72 = .ok (.iload_n 1, 1) := dg_X8_mark_58.2.2.2.2.2.2.2.2.1
theorem dX8_mark_73 : decode cX8_mark 73 = .ok (.iadd, 1) := dg_X8_mark_58.2.2.2.2.2.2.2.2.2.1
theorem dX8_mark_74 : decode cX8_mark 74 = .ok (.aload_n 0, 1) := dg_X8_mark_58.2.2.2.2.2.2.2.2.2.2.1
theorem dX8_mark_75 : decode cX8_mark 75 = .ok (.getfield 29, 3) := dg_X8_mark_58.2.2.2.2.2.2.2.2.2.2.2.1
theorem dX8_mark_78 : decode cX8_mark 78 = .ok (.iload_n 1, 1) := dg_X8_mark_58.2.2.2.2.2.2.2.2.2.2.2.2.1
theorem dX8_mark_79 : decode cX8_mark 79 = .ok (.baload, 1) := dg_X8_mark_58.2.2.2.2.2.2.2.2.2.2.2.2.2.1
theorem dX8_mark_80 : decode cX8_mark 80 = .ok (.bastore, 1) := dg_X8_mark_58.2.2.2.2.2.2.2.2.2.2.2.2.2.2.1
theorem dX8_mark_81 : decode cX8_mark 81 = .ok (.iinc 1 1, 3) := dg_X8_mark_58.2.2.2.2.2.2.2.2.2.2.2.2.2.2.2
theorem dg_X8_mark_84 : (decode cX8_mark 84 = .ok (.goto (-53), 3)) ∧ (decode cX8_mark 87 = .ok (.aload_n 0, 1)) ∧ (decode cX8_mark 88 = .ok (.dup, 1)) ∧ (decode cX8_mark 89 = .ok (.getfield 303, 3)) ∧ (decode cX8_mark 92 = .ok (.iconst 1, 1)) ∧ (decode cX8_mark 93 = .ok (.iadd, 1)) ∧ (decode cX8_mark 94 = .ok (.putfield 303, 3)) ∧ (decode cX8_mark 97 = .ok (.aload_n 0, 1)) ∧ (decode cX8_mark 98 = .ok (.aload_n 0, 1)) ∧ (decode cX8_mark 99 = .ok (.getfield 303, 3)) ∧ (decode cX8_mark 102 = .ok (.invokevirtual 183, 3)) ∧ (decode cX8_mark 105 = .ok (.ireturn, 1)) := by decide +kernel
theorem dX8_mark_84 : decode cX8_mark 84 = .ok (.goto (-53), 3) := dg_X8_mark_84.1
theorem dX8_mark_87 : decode cX8_mark 87 = .ok (.aload_n 0, 1) := dg_X8_mark_84.2.1
theorem dX8_mark_88 : decode cX8_mark 88 = .ok (.dup, 1) := dg_X8_mark_84.2.2.1
theorem dX8_mark_89 : decode cX8_mark 89 = .ok (.getfield 303, 3) := dg_X8_mark_84.2.2.2.1
theorem dX8_mark_92 : decode cX8_mark 92 = .ok (.iconst 1, 1) := dg_X8_mark_84.2.2.2.2.1
theorem dX8_mark_93 : decode cX8_mark 93 = .ok (.iadd, 1) := dg_X8_mark_84.2.2.2.2.2.1
theorem dX8_mark_94 : decode cX8_mark 94 = .ok (.putfield 303, 3) := dg_X8_mark_84.2.2.2.2.2.2.1
theorem dX8_mark_97 : decode cX8_mark 97 = .ok (.aload_n 0, 1) := dg_X8_mark_84.2.2.2.2.2.2.2.1
theorem dX8_mark_98 : decode cX8_mark 98 = .ok (.aload_n 0, 1) := dg_X8_mark_84.2.2.2.2.2.2.2.2.1
theorem dX8_mark_99 : decode cX8_mark 99 = .ok (.getfield 303, 3) := dg_X8_mark_84.2.2.2.2.2.2.2.2.2.1
theorem dX8_mark_102 : decode cX8_mark 102 = .ok (.invokevirtual 183, 3) := dg_X8_mark_84.2.2.2.2.2.2.2.2.2.2.1
theorem dX8_mark_105 : decode cX8_mark 105 = .ok (.ireturn, 1) := dg_X8_mark_84.2.2.2.2.2.2.2.2.2.2.2
abbrev rm_my_mark8 : Room := { frames := 1, cells := 0, slots := 0, locals := 21 }
abbrev po_my_mark8 (g : zz_G) (h0 : Nat) (a_kindOf : Nat) (a_depthOf : Nat) (a_lengthOf : Nat) (a_classOf : Nat) (a_baseOf : Nat) (a_bits : Nat) (a_pinned : Nat) (a_lengths : Nat) (a_stackArray : Nat) (a_stackOther : Nat) (a_stackAt : Nat) (a_path : Nat) (a_held : Nat) (a_alike : Nat) (a_hashes : Nat) (a_decisionArray : Nat) (a_decisionPlace : Nat) (a_candidateMany : Nat) (a_candidates : Nat) (a_ruleSort : Nat) (a_ruleArray : Nat) (a_ruleWeight : Nat) (a_ruleLow : Nat) (a_ruleHigh : Nat) (a_chosen : Nat) (a_bestOf : Nat) (a_markElements : Nat) (a_markBits : Nat) (a_markPins : Nat) (na : Nat) (ne : Nat) (nd : Nat) (nr : Nat) (nm : Nat) (i_code : Int32) (i_lastArray : Int32) (i_lastPlace : Int32) : Int32 → va_W → Prop := fun (r : Int32) (u : va_W) => r = -8 ∧ u = [cw_k7 h0 (nI na) (nI ne) a_kindOf a_depthOf a_lengthOf a_classOf a_baseOf a_bits a_pinned 8 a_lengths a_stackArray a_stackOther a_stackAt i_lastArray i_lastPlace a_path a_held a_alike a_hashes (nI nd) a_decisionArray a_decisionPlace a_candidateMany a_candidates (nI nr) a_ruleSort a_ruleArray a_ruleWeight a_ruleLow a_ruleHigh a_chosen a_bestOf (nI 8) a_markElements a_markBits a_markPins]
set_option maxHeartbeats 4000000 in
set_option maxRecDepth 100000 in
theorem my_mark8 (g : zz_G) (h0 : Nat) (a_kindOf : Nat) (a_depthOf : Nat) (a_lengthOf : Nat) (a_classOf : Nat) (a_baseOf : Nat) (a_bits : Nat) (a_pinned : Nat) (a_lengths : Nat) (a_stackArray : Nat) (a_stackOther : Nat) (a_stackAt : Nat) (a_path : Nat) (a_held : Nat) (a_alike : Nat) (a_hashes : Nat) (a_decisionArray : Nat) (a_decisionPlace : Nat) (a_candidateMany : Nat) (a_candidates : Nat) (a_ruleSort : Nat) (a_ruleArray : Nat) (a_ruleWeight : Nat) (a_ruleLow : Nat) (a_ruleHigh : Nat) (a_chosen : Nat) (a_bestOf : Nat) (a_markElements : Nat) (a_markBits : Nat) (a_markPins : Nat) (na : Nat) (ne : Nat) (nd : Nat) (nr : Nat) (nm : Nat) (i_code : Int32) (i_lastArray : Int32) (i_lastPlace : Int32) : zz_I g yX8_mark (.code yX8_mark cX8_mark 2 (some .int)) rm_my_mark8 [.ref h0] [cw_k7 h0 (nI na) (nI ne) a_kindOf a_depthOf a_lengthOf a_classOf a_baseOf a_bits a_pinned i_code a_lengths a_stackArray a_stackOther a_stackAt i_lastArray i_lastPlace a_path a_held a_alike a_hashes (nI nd) a_decisionArray a_decisionPlace a_candidateMany a_candidates (nI nr) a_ruleSort a_ruleArray a_ruleWeight a_ruleLow a_ruleHigh a_chosen a_bestOf (nI 8) a_markElements a_markBits a_markPins] (po_my_mark8 g h0 a_kindOf a_depthOf a_lengthOf a_classOf a_baseOf a_bits a_pinned a_lengths a_stackArray a_stackOther a_stackAt a_path a_held a_alike a_hashes a_decisionArray a_decisionPlace a_candidateMany a_candidates a_ruleSort a_ruleArray a_ruleWeight a_ruleLow a_ruleHigh a_chosen a_bestOf a_markElements a_markBits a_markPins na ne nd nr nm i_code i_lastArray i_lastPlace) := by
  refine zz_I.intro (own := RX8) (cc := cX8_mark) (nL := 2) (by decide) rfl (Nat.le_of_ble_eq_true rfl) ?_
  intro p l e s m args below meth c A H locs ls hC hnm hs hZ hl
  obtain ⟨hx, hb, hml, hown, hts, hr, hlocks, hK⟩ := id hC
  have hl : lv_has ls 2 [(0, .ref h0)] := hl
  have hZ : zz_Z g A s.heap [cw_k7 h0 (nI na) (nI ne) a_kindOf a_depthOf a_lengthOf a_classOf a_baseOf a_bits a_pinned i_code a_lengths a_stackArray a_stackOther a_stackAt i_lastArray i_lastPlace a_path a_held a_alike a_hashes (nI nd) a_decisionArray a_decisionPlace a_candidateMany a_candidates (nI nr) a_ruleSort a_ruleArray a_ruleWeight a_ruleLow a_ruleHigh a_chosen a_bestOf (nI 8) a_markElements a_markBits a_markPins] H locs := hZ
  refine lv_aload_n hx hb dX8_mark_0 rfl (lv_at hl 0 rfl) ?_
  refine zz_get hC hZ 0 rfl zf_X8_303 rfl dX8_mark_1 ?_
  refine lv_bipush (v := 8) hx hb dX8_mark_4 (by decide) ?_
  refine lv_icmp_ne (tgt := 16) hx hb dX8_mark_6 (by decide) (fun c => absurd (rfl) c) (fun c1 => ?_)
  refine lv_aload_n hx hb dX8_mark_9 rfl (lv_at hl 0 rfl) ?_
  refine lv_bipush (v := 8) hx hb dX8_mark_10 (by decide) ?_
  refine zz_iV (As := [.int 8]) (wc := [cw_k7 h0 (nI na) (nI ne) a_kindOf a_depthOf a_lengthOf a_classOf a_baseOf a_bits a_pinned i_code a_lengths a_stackArray a_stackOther a_stackAt i_lastArray i_lastPlace a_path a_held a_alike a_hashes (nI nd) a_decisionArray a_decisionPlace a_candidateMany a_candidates (nI nr) a_ruleSort a_ruleArray a_ruleWeight a_ruleLow a_ruleHigh a_chosen a_bestOf (nI 8) a_markElements a_markBits a_markPins]) (wr := []) (rest := []) hC hZ hs hl zc_X8_175 (cm_fails g h0 a_kindOf a_depthOf a_lengthOf a_classOf a_baseOf a_bits a_pinned a_lengths a_stackArray a_stackOther a_stackAt a_path a_held a_alike a_hashes a_decisionArray a_decisionPlace a_candidateMany a_candidates a_ruleSort a_ruleArray a_ruleWeight a_ruleLow a_ruleHigh a_chosen a_bestOf a_markElements a_markBits a_markPins (nI na) (nI ne) i_code i_lastArray i_lastPlace (nI nd) (nI nr) (nI 8) 8) [0] [] rfl rfl (by decide +kernel) (ci := 7) (q0 := 0) rfl rfl rfl rfl (Nat.le_of_ble_eq_true rfl) ⟨⟨Nat.le_of_ble_eq_true rfl, Nat.le_of_ble_eq_true rfl⟩, Nat.le_of_ble_eq_true rfl, Nat.le_of_ble_eq_true rfl⟩ dX8_mark_12 (fun r2 u3 H locs hp hZ => ?_)
  obtain ⟨rfl, rfl⟩ := hp
  have hZ : zz_Z g A s.heap [cw_k7 h0 (nI na) (nI ne) a_kindOf a_depthOf a_lengthOf a_classOf a_baseOf a_bits a_pinned 8 a_lengths a_stackArray a_stackOther a_stackAt i_lastArray i_lastPlace a_path a_held a_alike a_hashes (nI nd) a_decisionArray a_decisionPlace a_candidateMany a_candidates (nI nr) a_ruleSort a_ruleArray a_ruleWeight a_ruleLow a_ruleHigh a_chosen a_bestOf (nI 8) a_markElements a_markBits a_markPins] H locs := hZ
  exact zz_iret hC hZ (⟨rfl, rfl⟩) (Nat.le_of_ble_eq_true rfl) (Nat.le_of_ble_eq_true rfl) dX8_mark_15
theorem zf_X8_90 : zz_f RX8 90 7 34 := ⟨RX8, TX8, 37, rfl, zi_X8, by decide, zk_769⟩
theorem zu_X8_303 : zz_fw RX8 303 7 33 false .int := ⟨RX8, TX8, 37, tyX8, rfl, zi_X8, by decide, zk_768, tyX8_ok, nmX8, rfl, by decide +kernel, fun h => by cases h⟩
theorem zf_X8_93 : zz_f RX8 93 7 35 := ⟨RX8, TX8, 37, rfl, zi_X8, by decide, zk_770⟩
theorem zf_X8_96 : zz_f RX8 96 7 36 := ⟨RX8, TX8, 37, rfl, zi_X8, by decide, zk_771⟩
abbrev rm_my_mark1 : Room := { frames := 1, cells := 0, slots := 0, locals := 21 }
abbrev po_my_mark1 (g : zz_G) (h0 : Nat) (a_kindOf : Nat) (a_depthOf : Nat) (a_lengthOf : Nat) (a_classOf : Nat) (a_baseOf : Nat) (a_bits : Nat) (a_pinned : Nat) (a_lengths : Nat) (a_stackArray : Nat) (a_stackOther : Nat) (a_stackAt : Nat) (a_path : Nat) (a_held : Nat) (a_alike : Nat) (a_hashes : Nat) (a_decisionArray : Nat) (a_decisionPlace : Nat) (a_candidateMany : Nat) (a_candidates : Nat) (a_ruleSort : Nat) (a_ruleArray : Nat) (a_ruleWeight : Nat) (a_ruleLow : Nat) (a_ruleHigh : Nat) (a_chosen : Nat) (a_bestOf : Nat) (a_markElements : Nat) (a_markBits : Nat) (a_markPins : Nat) (na : Nat) (ne : Nat) (nd : Nat) (nr : Nat) (nm : Nat) (i_code : Int32) (i_lastArray : Int32) (i_lastPlace : Int32) (btf : Nat → Int64) (pnf : Nat → Int32) (mef : Nat → Int32) (mbf : Nat → Int64) (mpf : Nat → Int32) (h_8 : nm < 8 ∧ ne ≤ 4000) : Int32 → va_W → Prop := fun (r : Int32) (u : va_W) => ∃ (mb2 : Nat → Int64) (mp2 : Nat → Int32), r = nI (nm + 1) ∧ (∀ j, j < ne → mb2 (4000 * nm + j) = btf j) ∧ (∀ j, j < 4000 * nm → mb2 j = mbf j) ∧ (∀ j, j < ne → mp2 (4000 * nm + j) = pnf j &&& 1) ∧ (∀ j, j < 4000 * nm → mp2 j = mpf j) ∧ u = [cw_k7 h0 (nI na) (nI ne) a_kindOf a_depthOf a_lengthOf a_classOf a_baseOf a_bits a_pinned 0 a_lengths a_stackArray a_stackOther a_stackAt i_lastArray i_lastPlace a_path a_held a_alike a_hashes (nI nd) a_decisionArray a_decisionPlace a_candidateMany a_candidates (nI nr) a_ruleSort a_ruleArray a_ruleWeight a_ruleLow a_ruleHigh a_chosen a_bestOf (nI (nm + 1)) a_markElements a_markBits a_markPins, cw_l g a_bits 4000 btf, cw_z g a_pinned 4000 pnf, cw_i g a_markElements 8 (upd mef nm (nI ne)), cw_l g a_markBits 32000 mb2, cw_z g a_markPins 32000 mp2]
set_option maxHeartbeats 4000000 in
set_option maxRecDepth 100000 in
theorem my_mark1 (g : zz_G) (h0 : Nat) (a_kindOf : Nat) (a_depthOf : Nat) (a_lengthOf : Nat) (a_classOf : Nat) (a_baseOf : Nat) (a_bits : Nat) (a_pinned : Nat) (a_lengths : Nat) (a_stackArray : Nat) (a_stackOther : Nat) (a_stackAt : Nat) (a_path : Nat) (a_held : Nat) (a_alike : Nat) (a_hashes : Nat) (a_decisionArray : Nat) (a_decisionPlace : Nat) (a_candidateMany : Nat) (a_candidates : Nat) (a_ruleSort : Nat) (a_ruleArray : Nat) (a_ruleWeight : Nat) (a_ruleLow : Nat) (a_ruleHigh : Nat) (a_chosen : Nat) (a_bestOf : Nat) (a_markElements : Nat) (a_markBits : Nat) (a_markPins : Nat) (na : Nat) (ne : Nat) (nd : Nat) (nr : Nat) (nm : Nat) (i_code : Int32) (i_lastArray : Int32) (i_lastPlace : Int32) (btf : Nat → Int64) (pnf : Nat → Int32) (mef : Nat → Int32) (mbf : Nat → Int64) (mpf : Nat → Int32) (h_8 : nm < 8 ∧ ne ≤ 4000) : zz_I g yX8_mark (.code yX8_mark cX8_mark 2 (some .int)) rm_my_mark1 [.ref h0] [cw_k7 h0 (nI na) (nI ne) a_kindOf a_depthOf a_lengthOf a_classOf a_baseOf a_bits a_pinned i_code a_lengths a_stackArray a_stackOther a_stackAt i_lastArray i_lastPlace a_path a_held a_alike a_hashes (nI nd) a_decisionArray a_decisionPlace a_candidateMany a_candidates (nI nr) a_ruleSort a_ruleArray a_ruleWeight a_ruleLow a_ruleHigh a_chosen a_bestOf (nI nm) a_markElements a_markBits a_markPins, cw_l g a_bits 4000 btf, cw_z g a_pinned 4000 pnf, cw_i g a_markElements 8 mef, cw_l g a_markBits 32000 mbf, cw_z g a_markPins 32000 mpf] (po_my_mark1 g h0 a_kindOf a_depthOf a_lengthOf a_classOf a_baseOf a_bits a_pinned a_lengths a_stackArray a_stackOther a_stackAt a_path a_held a_alike a_hashes a_decisionArray a_decisionPlace a_candidateMany a_candidates a_ruleSort a_ruleArray a_ruleWeight a_ruleLow a_ruleHigh a_chosen a_bestOf a_markElements a_markBits a_markPins na ne nd nr nm i_code i_lastArray i_lastPlace btf pnf mef mbf mpf h_8) := by
  refine zz_I.intro (own := RX8) (cc := cX8_mark) (nL := 2) (by decide) rfl (Nat.le_of_ble_eq_true rfl) ?_
  intro p l e s m args below meth c A H locs ls hC hnm hs hZ hl
  obtain ⟨hx, hb, hml, hown, hts, hr, hlocks, hK⟩ := id hC
  have hl : lv_has ls 2 [(0, .ref h0)] := hl
  have hZ : zz_Z g A s.heap [cw_k7 h0 (nI na) (nI ne) a_kindOf a_depthOf a_lengthOf a_classOf a_baseOf a_bits a_pinned i_code a_lengths a_stackArray a_stackOther a_stackAt i_lastArray i_lastPlace a_path a_held a_alike a_hashes (nI nd) a_decisionArray a_decisionPlace a_candidateMany a_candidates (nI nr) a_ruleSort a_ruleArray a_ruleWeight a_ruleLow a_ruleHigh a_chosen a_bestOf (nI nm) a_markElements a_markBits a_markPins, cw_l g a_bits 4000 btf, cw_z g a_pinned 4000 pnf, cw_i g a_markElements 8 mef, cw_l g a_markBits 32000 mbf, cw_z g a_markPins 32000 mpf] H locs := hZ
  have h8 := h_8.1
  have hne := h_8.2
  refine lv_aload_n hx hb dX8_mark_0 rfl (lv_at hl 0 rfl) ?_
  refine zz_get hC hZ 0 rfl zf_X8_303 rfl dX8_mark_1 ?_
  refine lv_bipush (v := 8) hx hb dX8_mark_4 (by decide) ?_
  refine lv_icmp_ne (tgt := 16) hx hb dX8_mark_6 (by decide) (fun c1 => ?_) (fun c => absurd c (fun q => absurd ((nI_eq (b := 8) (by omega) (by decide)).mp q) (by omega)))
  refine lv_aload_n hx hb dX8_mark_16 rfl (lv_at hl 0 rfl) ?_
  refine zz_get hC hZ 0 rfl zf_X8_90 rfl dX8_mark_17 ?_
  refine lv_aload_n hx hb dX8_mark_20 rfl (lv_at hl 0 rfl) ?_
  refine zz_get hC hZ 0 rfl zf_X8_303 rfl dX8_mark_21 ?_
  refine lv_aload_n hx hb dX8_mark_24 rfl (lv_at hl 0 rfl) ?_
  refine zz_get hC hZ 0 rfl zf_X8_186 rfl dX8_mark_25 ?_
  have bd2 : nm < 8 := by omega
  refine zz_iastn hC hZ 3 rfl bd2 (by decide) dX8_mark_28 (fun H locs hZ => ?_)
  have hZ : zz_Z g A s.heap [cw_k7 h0 (nI na) (nI ne) a_kindOf a_depthOf a_lengthOf a_classOf a_baseOf a_bits a_pinned i_code a_lengths a_stackArray a_stackOther a_stackAt i_lastArray i_lastPlace a_path a_held a_alike a_hashes (nI nd) a_decisionArray a_decisionPlace a_candidateMany a_candidates (nI nr) a_ruleSort a_ruleArray a_ruleWeight a_ruleLow a_ruleHigh a_chosen a_bestOf (nI nm) a_markElements a_markBits a_markPins, cw_l g a_bits 4000 btf, cw_z g a_pinned 4000 pnf, cw_i g a_markElements 8 (upd mef nm (nI ne)), cw_l g a_markBits 32000 mbf, cw_z g a_markPins 32000 mpf] H locs := hZ
  refine lv_iconst (v := 0) hx hb dX8_mark_29 (by decide) ?_
  refine lv_istore_n (lv' := [(1, .int 0), (0, .ref h0)]) hx hb dX8_mark_30 rfl hl (by decide) rfl (fun ls hl => ?_)
  have LP3 : ∀ (N : Nat) (i : Nat) (mb1 : Nat → Int64) (mp1 : Nat → Int32) (H : Heap) (locs : List Loc) (ls : Array Slot), (i ≤ ne) → (∀ j, j < i → mb1 (4000 * nm + j) = btf j) → (∀ j, j < 4000 * nm → mb1 j = mbf j) → (∀ j, j < i → mp1 (4000 * nm + j) = pnf j &&& 1) → (∀ j, j < 4000 * nm → mp1 j = mpf j) → (ne - i) < N → zz_Z g A s.heap [cw_k7 h0 (nI na) (nI ne) a_kindOf a_depthOf a_lengthOf a_classOf a_baseOf a_bits a_pinned i_code a_lengths a_stackArray a_stackOther a_stackAt i_lastArray i_lastPlace a_path a_held a_alike a_hashes (nI nd) a_decisionArray a_decisionPlace a_candidateMany a_candidates (nI nr) a_ruleSort a_ruleArray a_ruleWeight a_ruleLow a_ruleHigh a_chosen a_bestOf (nI nm) a_markElements a_markBits a_markPins, cw_l g a_bits 4000 btf, cw_z g a_pinned 4000 pnf, cw_i g a_markElements 8 (upd mef nm (nI ne)), cw_l g a_markBits 32000 mb1, cw_z g a_markPins 32000 mp1] H locs → lv_has ls 2 [(1, .int (nI i)), (0, .ref h0)] → W p l e rm_my_mark1 s m args below meth c H locs 0 0 (zz_QI below g args s A rm_my_mark1.cells rm_my_mark1.slots (po_my_mark1 g h0 a_kindOf a_depthOf a_lengthOf a_classOf a_baseOf a_bits a_pinned a_lengths a_stackArray a_stackOther a_stackAt a_path a_held a_alike a_hashes a_decisionArray a_decisionPlace a_candidateMany a_candidates a_ruleSort a_ruleArray a_ruleWeight a_ruleLow a_ruleHigh a_chosen a_bestOf a_markElements a_markBits a_markPins na ne nd nr nm i_code i_lastArray i_lastPlace btf pnf mef mbf mpf h_8)) (F0 m 31 ls []) := by
    intro N
    induction N with
    | zero =>
      intro i mb1 mp1 H locs ls hi hm1 hm2 hp1 hp2 hN
      exact absurd hN (Nat.not_lt_zero _)
    | succ N ih =>
      intro i mb1 mp1 H locs ls hi hm1 hm2 hp1 hp2 hN hZ hl
      refine lv_iload_n hx hb dX8_mark_31 rfl (lv_at hl 0 rfl) ?_
      refine lv_aload_n hx hb dX8_mark_32 rfl (lv_at hl 1 rfl) ?_
      refine zz_get hC hZ 0 rfl zf_X8_186 rfl dX8_mark_33 ?_
      have bd5 : ne < 2 ^ 31 := by omega
      have bd6 : i < 2 ^ 31 := by omega
      refine lv_icmp_ge (tgt := 87) hx hb dX8_mark_36 (by decide) (fun c4 => ?_) (fun c4 => ?_)
      · have nc4 : ne ≤ i := (nI_leI bd5 bd6).mp (show nI (ne) ≤ nI (i) from c4)
        refine lv_aload_n hx hb dX8_mark_87 rfl (lv_at hl 1 rfl) ?_
        refine lv_dup hx hb dX8_mark_88 rfl ?_
        refine zz_get hC hZ 0 rfl zf_X8_303 rfl dX8_mark_89 ?_
        refine lv_iconst (v := 1) hx hb dX8_mark_92 (by decide) ?_
        refine lv_iadd hx hb dX8_mark_93 ?_
        refine zz_topi (v := nI (nm + 1)) (nI_1 _) ?_
        refine zz_put hC hZ 0 rfl zu_X8_303 (Nat.le_of_ble_eq_true rfl) dX8_mark_94 (fun H locs hZ => ?_)
        have hZ : zz_Z g A s.heap [cw_k7 h0 (nI na) (nI ne) a_kindOf a_depthOf a_lengthOf a_classOf a_baseOf a_bits a_pinned i_code a_lengths a_stackArray a_stackOther a_stackAt i_lastArray i_lastPlace a_path a_held a_alike a_hashes (nI nd) a_decisionArray a_decisionPlace a_candidateMany a_candidates (nI nr) a_ruleSort a_ruleArray a_ruleWeight a_ruleLow a_ruleHigh a_chosen a_bestOf (nI (nm + 1)) a_markElements a_markBits a_markPins, cw_l g a_bits 4000 btf, cw_z g a_pinned 4000 pnf, cw_i g a_markElements 8 (upd mef nm (nI ne)), cw_l g a_markBits 32000 mb1, cw_z g a_markPins 32000 mp1] H locs := hZ
        refine lv_aload_n hx hb dX8_mark_97 rfl (lv_at hl 1 rfl) ?_
        refine lv_aload_n hx hb dX8_mark_98 rfl (lv_at hl 1 rfl) ?_
        refine zz_get hC hZ 0 rfl zf_X8_303 rfl dX8_mark_99 ?_
        refine zz_iV (As := [.int (nI (nm + 1))]) (wc := [cw_k7 h0 (nI na) (nI ne) a_kindOf a_depthOf a_lengthOf a_classOf a_baseOf a_bits a_pinned i_code a_lengths a_stackArray a_stackOther a_stackAt i_lastArray i_lastPlace a_path a_held a_alike a_hashes (nI nd) a_decisionArray a_decisionPlace a_candidateMany a_candidates (nI nr) a_ruleSort a_ruleArray a_ruleWeight a_ruleLow a_ruleHigh a_chosen a_bestOf (nI (nm + 1)) a_markElements a_markBits a_markPins]) (wr := [cw_l g a_bits 4000 btf, cw_z g a_pinned 4000 pnf, cw_i g a_markElements 8 (upd mef nm (nI ne)), cw_l g a_markBits 32000 mb1, cw_z g a_markPins 32000 mp1]) (rest := []) hC hZ hs hl zc_X8_183 (cm_fine g h0 a_kindOf a_depthOf a_lengthOf a_classOf a_baseOf a_bits a_pinned a_lengths a_stackArray a_stackOther a_stackAt a_path a_held a_alike a_hashes a_decisionArray a_decisionPlace a_candidateMany a_candidates a_ruleSort a_ruleArray a_ruleWeight a_ruleLow a_ruleHigh a_chosen a_bestOf a_markElements a_markBits a_markPins (nI na) (nI ne) i_code i_lastArray i_lastPlace (nI nd) (nI nr) (nI (nm + 1)) (nI (nm + 1))) [0] [1, 2, 3, 4, 5] rfl rfl (by decide +kernel) (ci := 7) (q0 := 0) rfl rfl rfl rfl (Nat.le_of_ble_eq_true rfl) ⟨⟨Nat.le_of_ble_eq_true rfl, Nat.le_of_ble_eq_true rfl⟩, Nat.le_of_ble_eq_true rfl, Nat.le_of_ble_eq_true rfl⟩ dX8_mark_102 (fun r7 u8 H locs hp hZ => ?_)
        obtain ⟨rfl, rfl⟩ := hp
        have hZ : zz_Z g A s.heap [cw_l g a_bits 4000 btf, cw_z g a_pinned 4000 pnf, cw_i g a_markElements 8 (upd mef nm (nI ne)), cw_l g a_markBits 32000 mb1, cw_z g a_markPins 32000 mp1, cw_k7 h0 (nI na) (nI ne) a_kindOf a_depthOf a_lengthOf a_classOf a_baseOf a_bits a_pinned 0 a_lengths a_stackArray a_stackOther a_stackAt i_lastArray i_lastPlace a_path a_held a_alike a_hashes (nI nd) a_decisionArray a_decisionPlace a_candidateMany a_candidates (nI nr) a_ruleSort a_ruleArray a_ruleWeight a_ruleLow a_ruleHigh a_chosen a_bestOf (nI (nm + 1)) a_markElements a_markBits a_markPins] H locs := hZ
        have hZ : zz_Z g A s.heap [cw_k7 h0 (nI na) (nI ne) a_kindOf a_depthOf a_lengthOf a_classOf a_baseOf a_bits a_pinned 0 a_lengths a_stackArray a_stackOther a_stackAt i_lastArray i_lastPlace a_path a_held a_alike a_hashes (nI nd) a_decisionArray a_decisionPlace a_candidateMany a_candidates (nI nr) a_ruleSort a_ruleArray a_ruleWeight a_ruleLow a_ruleHigh a_chosen a_bestOf (nI (nm + 1)) a_markElements a_markBits a_markPins, cw_l g a_bits 4000 btf, cw_z g a_pinned 4000 pnf, cw_i g a_markElements 8 (upd mef nm (nI ne)), cw_l g a_markBits 32000 mb1, cw_z g a_markPins 32000 mp1] H locs := hZ.sub [5, 0, 1, 2, 3, 4] (by decide +kernel) rfl
        exact zz_iret hC hZ (⟨mb1, mp1, rfl, fun j hj => hm1 j (by omega), hm2, fun j hj => hp1 j (by omega), hp2, rfl⟩) (Nat.le_of_ble_eq_true rfl) (Nat.le_of_ble_eq_true rfl) dX8_mark_105
      · have nc4 : ¬ ne ≤ i := fun zq => c4 (show nI (ne) ≤ nI (i) from (nI_leI bd5 bd6).mpr zq)
        refine lv_aload_n hx hb dX8_mark_39 rfl (lv_at hl 1 rfl) ?_
        refine zz_get hC hZ 0 rfl zf_X8_93 rfl dX8_mark_40 ?_
        refine lv_sipush (v := 4000) hx hb dX8_mark_43 (by decide) ?_
        refine lv_aload_n hx hb dX8_mark_46 rfl (lv_at hl 1 rfl) ?_
        refine zz_get hC hZ 0 rfl zf_X8_303 rfl dX8_mark_47 ?_
        refine lv_imul hx hb dX8_mark_50 ?_
        refine zz_topi (v := nI (4000 * nm)) (pk_mul 4000 _) ?_
        refine lv_iload_n hx hb dX8_mark_51 rfl (lv_at hl 0 rfl) ?_
        refine lv_iadd hx hb dX8_mark_52 ?_
        refine zz_topi (v := nI ((4000 * nm) + i)) (nI_add _ _) ?_
        refine lv_aload_n hx hb dX8_mark_53 rfl (lv_at hl 1 rfl) ?_
        refine zz_get hC hZ 0 rfl zf_X8_25 rfl dX8_mark_54 ?_
        refine lv_iload_n hx hb dX8_mark_57 rfl (lv_at hl 0 rfl) ?_
        have bd9 : i < 4000 := by omega
        refine zz_laldn hC hZ 1 rfl bd9 (by decide) dX8_mark_58 ?_
        have bd10 : ((4000 * nm) + i) < 32000 := by omega
        refine zz_lastn hC hZ 4 rfl bd10 (by decide) dX8_mark_59 (fun H locs hZ => ?_)
        have hZ : zz_Z g A s.heap [cw_k7 h0 (nI na) (nI ne) a_kindOf a_depthOf a_lengthOf a_classOf a_baseOf a_bits a_pinned i_code a_lengths a_stackArray a_stackOther a_stackAt i_lastArray i_lastPlace a_path a_held a_alike a_hashes (nI nd) a_decisionArray a_decisionPlace a_candidateMany a_candidates (nI nr) a_ruleSort a_ruleArray a_ruleWeight a_ruleLow a_ruleHigh a_chosen a_bestOf (nI nm) a_markElements a_markBits a_markPins, cw_l g a_bits 4000 btf, cw_z g a_pinned 4000 pnf, cw_i g a_markElements 8 (upd mef nm (nI ne)), cw_l g a_markBits 32000 (vp_updL mb1 ((4000 * nm) + i) (btf i)), cw_z g a_markPins 32000 mp1] H locs := hZ
        refine lv_aload_n hx hb dX8_mark_60 rfl (lv_at hl 1 rfl) ?_
        refine zz_get hC hZ 0 rfl zf_X8_96 rfl dX8_mark_61 ?_
        refine lv_sipush (v := 4000) hx hb dX8_mark_64 (by decide) ?_
        refine lv_aload_n hx hb dX8_mark_67 rfl (lv_at hl 1 rfl) ?_
        refine zz_get hC hZ 0 rfl zf_X8_303 rfl dX8_mark_68 ?_
        refine lv_imul hx hb dX8_mark_71 ?_
        refine zz_topi (v := nI (4000 * nm)) (pk_mul 4000 _) ?_
        refine lv_iload_n hx hb dX8_mark_72 rfl (lv_at hl 0 rfl) ?_
        refine lv_iadd hx hb dX8_mark_73 ?_
        refine zz_topi (v := nI ((4000 * nm) + i)) (nI_add _ _) ?_
        refine lv_aload_n hx hb dX8_mark_74 rfl (lv_at hl 1 rfl) ?_
        refine zz_get hC hZ 0 rfl zf_X8_29 rfl dX8_mark_75 ?_
        refine lv_iload_n hx hb dX8_mark_78 rfl (lv_at hl 0 rfl) ?_
        refine zz_zaldn hC hZ 2 rfl bd9 (by decide) dX8_mark_79 ?_
        refine zz_zastn hC hZ 5 rfl bd10 (by decide) dX8_mark_80 (fun H locs hZ => ?_)
        have hZ : zz_Z g A s.heap [cw_k7 h0 (nI na) (nI ne) a_kindOf a_depthOf a_lengthOf a_classOf a_baseOf a_bits a_pinned i_code a_lengths a_stackArray a_stackOther a_stackAt i_lastArray i_lastPlace a_path a_held a_alike a_hashes (nI nd) a_decisionArray a_decisionPlace a_candidateMany a_candidates (nI nr) a_ruleSort a_ruleArray a_ruleWeight a_ruleLow a_ruleHigh a_chosen a_bestOf (nI nm) a_markElements a_markBits a_markPins, cw_l g a_bits 4000 btf, cw_z g a_pinned 4000 pnf, cw_i g a_markElements 8 (upd mef nm (nI ne)), cw_l g a_markBits 32000 (vp_updL mb1 ((4000 * nm) + i) (btf i)), cw_z g a_markPins 32000 (upd mp1 ((4000 * nm) + i) ((pnf i) &&& 1))] H locs := hZ
        refine lv_iinc (v := nI (i + 1)) (lv' := [(1, .int (nI (i + 1))), (0, .ref h0)]) hx hb dX8_mark_81 hl (k := 0) rfl (nI_1 _) (by decide) rfl (fun ls hl => ?_)
        refine lv_goto (tgt := 31) hx hb dX8_mark_84 (by decide) ?_
        exact ih (i + 1) (vp_updL mb1 ((4000 * nm) + i) (btf i)) (upd mp1 ((4000 * nm) + i) ((pnf i) &&& 1)) H locs ls (by omega) (fun j hj => by by_cases e0 : j = i; (subst e0; exact pk_uLs); exact (pk_uLn (by omega)).trans (hm1 j (by omega))) (fun j hj => (pk_uLn (by omega)).trans (hm2 j hj)) (fun j hj => by by_cases e0 : j = i; (subst e0; exact pk_us); exact (pk_un (by omega)).trans (hp1 j (by omega))) (fun j hj => (pk_un (by omega)).trans (hp2 j hj)) (by omega) hZ (lv_sub hl [0, 1] rfl)
  exact LP3 _ 0 mbf mpf H locs ls (by omega) (fun j hj => absurd hj (Nat.not_lt_zero j)) (fun _ _ => rfl) (fun j hj => absurd hj (Nat.not_lt_zero j)) (fun _ _ => rfl) (Nat.lt_succ_self _) hZ (lv_sub hl [0, 1] rfl)
theorem dg_X8_back_0 : (decode cX8_back 0 = .ok (.aload_n 0, 1)) ∧ (decode cX8_back 1 = .ok (.getfield 303, 3)) ∧ (decode cX8_back 4 = .ok (.ifCond .ne 10, 3)) ∧ (decode cX8_back 7 = .ok (.aload_n 0, 1)) ∧ (decode cX8_back 8 = .ok (.bipush 9, 2)) ∧ (decode cX8_back 10 = .ok (.invokevirtual 175, 3)) ∧ (decode cX8_back 13 = .ok (.ireturn, 1)) ∧ (decode cX8_back 14 = .ok (.aload_n 0, 1)) ∧ (decode cX8_back 15 = .ok (.dup, 1)) ∧ (decode cX8_back 16 = .ok (.getfield 303, 3)) ∧ (decode cX8_back 19 = .ok (.iconst 1, 1)) ∧ (decode cX8_back 20 = .ok (.isub, 1)) ∧ (decode cX8_back 21 = .ok (.putfield 303, 3)) ∧ (decode cX8_back 24 = .ok (.iconst 0, 1)) ∧ (decode cX8_back 25 = .ok (.istore_n 1, 1)) ∧ (decode cX8_back 26 = .ok (.iload_n 1, 1)) := by decide +kernel
theorem dX8_back_0 : decode cX8_back 0 = .ok (.aload_n 0, 1) := dg_X8_back_0.1
theorem dX8_back_1 : decode cX8_back 1 = .ok (.getfield 303, 3) := dg_X8_back_0.2.1
theorem dX8_back_4 : decode cX8_back 4 = .ok (.ifCond .ne 10, 3) := dg_X8_back_0.2.2.1
theorem dX8_back_7 : decode cX8_back 7 = .ok (.aload_n 0, 1) := dg_X8_back_0.2.2.2.1
theorem dX8_back_8 : decode cX8_back 8 = .ok (.bipush 9, 2) := dg_X8_back_0.2.2.2.2.1
theorem dX8_back_10 : decode cX8_back 10 = .ok (.invokevirtual 175, 3) := dg_X8_back_0.2.2.2.2.2.1
theorem dX8_back_13 : decode cX8_back 13 = .ok (.ireturn, 1) := dg_X8_back_0.2.2.2.2.2.2.1
theorem dX8_back_14 : decode cX8_back 14 = .ok (.aload_n 0, 1) := dg_X8_back_0.2.2.2.2.2.2.2.1
theorem dX8_back_15 : decode cX8_back 15 = .ok (.dup, 1) := dg_X8_back_0.2.2.2.2.2.2.2.2.1
theorem dX8_back_16 : decode cX8_back 16 = .ok (.getfield 303, 3) := dg_X8_back_0.2.2.2.2.2.2.2.2.2.1
theorem dX8_back_19 : decode cX8_back 19 = .ok (.iconst 1, 1) := dg_X8_back_0.2.2.2.2.2.2.2.2.2.2.1
theorem dX8_back_20 : decode cX8_back 20 = .ok (.isub, 1) := dg_X8_back_0.2.2.2.2.2.2.2.2.2.2.2.1
theorem dX8_back_21 : decode cX8_back 21 = .ok (.putfield 303, 3) := dg_X8_back_0.2.2.2.2.2.2.2.2.2.2.2.2.1
theorem dX8_back_24 : decode cX8_back 24 = .ok (.iconst 0, 1) := dg_X8_back_0.2.2.2.2.2.2.2.2.2.2.2.2.2.1
theorem dX8_back_25 : decode cX8_back 25 = .ok (.istore_n 1, 1) := dg_X8_back_0.2.2.2.2.2.2.2.2.2.2.2.2.2.2.1
theorem dX8_back_26 : decode cX8_back 26 = .ok (.iload_n 1, 1) := dg_X8_back_0.2.2.2.2.2.2.2.2.2.2.2.2.2.2.2
theorem dg_X8_back_27 : (decode cX8_back 27 = .ok (.aload_n 0, 1)) ∧ (decode cX8_back 28 = .ok (.getfield 90, 3)) ∧ (decode cX8_back 31 = .ok (.aload_n 0, 1)) ∧ (decode cX8_back 32 = .ok (.getfield 303, 3)) ∧ (decode cX8_back 35 = .ok (.iaload, 1)) ∧ (decode cX8_back 36 = .ok (.if_icmp .ge 51, 3)) ∧ (decode cX8_back 39 = .ok (.aload_n 0, 1)) ∧ (decode cX8_back 40 = .ok (.getfield 25, 3)) ∧ (decode cX8_back 43 = .ok (.iload_n 1, 1)) ∧ (decode cX8_back 44 = .ok (.aload_n 0, 1)) ∧ (decode cX8_back 45 = .ok (.getfield 93, 3)) ∧ (decode cX8_back 48 = .ok (.sipush 4000, 3)) ∧ (decode cX8_back 51 = .ok (.aload_n 0, 1)) ∧ (decode cX8_back 52 = .ok (.getfield 303, 3)) ∧ (decode cX8_back 55 = .ok (.imul, 1)) ∧ (decode cX8_back 56 = .ok (.iload_n 1, 1)) := by decide +kernel
theorem dX8_back_27 : decode cX8_back 27 = .ok (.aload_n 0, 1) := dg_X8_back_27.1
theorem dX8_back_28 : decode cX8_back 28 = .ok (.getfield 90, 3) := dg_X8_back_27.2.1
theorem dX8_back_31 : decode cX8_back 31 = .ok (.aload_n 0, 1) := dg_X8_back_27.2.2.1
theorem dX8_back_32 : decode cX8_back 32 = .ok (.getfield 303, 3) := dg_X8_back_27.2.2.2.1
theorem dX8_back_35 : decode cX8_back 35 = .ok (.iaload, 1) := dg_X8_back_27.2.2.2.2.1
theorem dX8_back_36 : decode cX8_back 36 = .ok (.if_icmp .ge 51, 3) := dg_X8_back_27.2.2.2.2.2.1
theorem dX8_back_39 : decode cX8_back 39 = .ok (.aload_n 0, 1) := dg_X8_back_27.2.2.2.2.2.2.1
theorem dX8_back_40 : decode cX8_back 40 = .ok (.getfield 25, 3) := dg_X8_back_27.2.2.2.2.2.2.2.1
theorem dX8_back_43 : decode cX8_back 43 = .ok (.iload_n 1, 1) := dg_X8_back_27.2.2.2.2.2.2.2.2.1
theorem dX8_back_44 : decode cX8_back 44 = .ok (.aload_n 0, 1) := dg_X8_back_27.2.2.2.2.2.2.2.2.2.1
theorem dX8_back_45 : decode cX8_back 45 = .ok (.getfield 93, 3) := dg_X8_back_27.2.2.2.2.2.2.2.2.2.2.1
theorem dX8_back_48 : decode cX8_back 48 = .ok (.sipush 4000, 3) := dg_X8_back_27.2.2.2.2.2.2.2.2.2.2.2.1
theorem dX8_back_51 : decode cX8_back 51 = .ok (.aload_n 0, 1) := dg_X8_back_27.2.2.2.2.2.2.2.2.2.2.2.2.1
theorem dX8_back_52 : decode cX8_back 52 = .ok (.getfield 303, 3) := dg_X8_back_27.2.2.2.2.2.2.2.2.2.2.2.2.2.1
theorem dX8_back_55 : decode cX8_back 55 = .ok (.imul, 1) := dg_X8_back_27.2.2.2.2.2.2.2.2.2.2.2.2.2.2.1
theorem dX8_back_56 : decode cX8_back 56 = .ok (.iload_n 1, 1) := dg_X8_back_27.2.2.2.2.2.2.2.2.2.2.2.2.2.2.2
theorem dg_X8_back_57 : (decode cX8_back 57 = .ok (.iadd, 1)) ∧ (decode cX8_back 58 = .ok (.laload, 1)) ∧ (decode cX8_back 59 = .ok (.lastore, 1)) ∧ (decode cX8_back 60 = .ok (.aload_n 0, 1)) ∧ (decode cX8_back 61 = .ok (.getfield 29, 3)) ∧ (decode cX8_back 64 = .ok (.iload_n 1, 1)) ∧ (decode cX8_back 65 = .ok (.aload_n 0, 1)) ∧ (decode cX8_back 66 = .ok (.getfield 96, 3)) ∧ (decode cX8_back 69 = .ok (.sipush 4000, 3)) ∧ (decode cX8_back 72 = .ok (.aload_n 0, 1)) ∧ (decode cX8_back 73 = .ok (.getfield 303, 3)) ∧ (decode cX8_back 76 = .ok (.imul, 1)) ∧ (decode cX8_back 77 = .ok (.iload_n 1, 1)) ∧ (decode cX8_back 78 = .ok (.iadd, 1)) ∧ (decode cX8_back 79 = .ok (.baload, 1)) ∧ (decode cX8_back 80 = .ok (.bastore, 1)) := by decide +kernel
theorem dX8_back_57 : decode cX8_back 57 = .ok (.iadd, 1) := dg_X8_back_57.1
theorem dX8_back_58 : decode cX8_back 58 = .ok (.laload, 1) := dg_X8_back_57.2.1
theorem dX8_back_59 : decode cX8_back 59 = .ok (.lastore, 1) := dg_X8_back_57.2.2.1
theorem dX8_back_60 : decode cX8_back 60 = .ok (.aload_n 0, 1) := dg_X8_back_57.2.2.2.1
theorem dX8_back_61 : decode cX8_back 61 = .ok (.getfield 29, 3) := dg_X8_back_57.2.2.2.2.1
theorem dX8_back_64 : decode cX8_back 64 = .ok (.iload_n 1, 1) := dg_X8_back_57.2.2.2.2.2.1
theorem dX8_back_65 : decode cX8_back 65 = .ok (.aload_n 0, 1) := dg_X8_back_57.2.2.2.2.2.2.1
theorem dX8_back_66 : decode cX8_back 66 = .ok (.getfield 96, 3) := dg_X8_back_57.2.2.2.2.2.2.2.1
theorem dX8_back_69 : decode cX8_back 69 = .ok (.sipush 4000, 3) := dg_X8_back_57.2.2.2.2.2.2.2.2.1
theorem dX8_back_72 : decode cX8_back 72 = .ok (.aload_n 0, 1) := dg_X8_back_57.2.2.2.2.2.2.2.2.2.1
theorem dX8_back_73 : decode cX8_back 73 = .ok (.getfield 303, 3) := dg_X8_back_57.2.2.2.2.2.2.2.2.2.2.1
theorem dX8_back_76 : decode cX8_back 76 = .ok (.imul, 1) := dg_X8_back_57.2.2.2.2.2.2.2.2.2.2.2.1
theorem dX8_back_77 : decode cX8_back 77 = .ok (.iload_n 1, 1) := dg_X8_back_57.2.2.2.2.2.2.2.2.2.2.2.2.1
theorem dX8_back_78 : decode cX8_back 78 = .ok (.iadd, 1) := dg_X8_back_57.2.2.2.2.2.2.2.2.2.2.2.2.2.1
theorem dX8_back_79 : decode cX8_back 79 = .ok (.baload, 1) := dg_X8_back_57.2.2.2.2.2.2.2.2.2.2.2.2.2.2.1
theorem dX8_back_80 : decode cX8_back 80 = .ok (.bastore, 1) := dg_X8_back_57.2.2.2.2.2.2.2.2.2.2.2.2.2.2.2
theorem dg_X8_back_81 : (decode cX8_back 81 = .ok (.iinc 1 1, 3)) ∧ (decode cX8_back 84 = .ok (.goto (-58), 3)) ∧ (decode cX8_back 87 = .ok (.aload_n 0, 1)) ∧ (decode cX8_back 88 = .ok (.aload_n 0, 1)) ∧ (decode cX8_back 89 = .ok (.getfield 303, 3)) ∧ (decode cX8_back 92 = .ok (.invokevirtual 183, 3)) ∧ (decode cX8_back 95 = .ok (.ireturn, 1)) := by decide +kernel
theorem dX8_back_81 : decode cX8_back 81 = .ok (.iinc 1 1, 3) := dg_X8_back_81.1
theorem dX8_back_84 : decode cX8_back 84 = .ok (.goto (-58), 3) := dg_X8_back_81.2.1
theorem dX8_back_87 : decode cX8_back 87 = .ok (.aload_n 0, 1) := dg_X8_back_81.2.2.1
theorem dX8_back_88 : decode cX8_back 88 = .ok (.aload_n 0, 1) := dg_X8_back_81.2.2.2.1
theorem dX8_back_89 : decode cX8_back 89 = .ok (.getfield 303, 3) := dg_X8_back_81.2.2.2.2.1
theorem dX8_back_92 : decode cX8_back 92 = .ok (.invokevirtual 183, 3) := dg_X8_back_81.2.2.2.2.2.1
theorem dX8_back_95 : decode cX8_back 95 = .ok (.ireturn, 1) := dg_X8_back_81.2.2.2.2.2.2
abbrev rm_my_back0 : Room := { frames := 1, cells := 0, slots := 0, locals := 21 }
abbrev po_my_back0 (g : zz_G) (h0 : Nat) (a_kindOf : Nat) (a_depthOf : Nat) (a_lengthOf : Nat) (a_classOf : Nat) (a_baseOf : Nat) (a_bits : Nat) (a_pinned : Nat) (a_lengths : Nat) (a_stackArray : Nat) (a_stackOther : Nat) (a_stackAt : Nat) (a_path : Nat) (a_held : Nat) (a_alike : Nat) (a_hashes : Nat) (a_decisionArray : Nat) (a_decisionPlace : Nat) (a_candidateMany : Nat) (a_candidates : Nat) (a_ruleSort : Nat) (a_ruleArray : Nat) (a_ruleWeight : Nat) (a_ruleLow : Nat) (a_ruleHigh : Nat) (a_chosen : Nat) (a_bestOf : Nat) (a_markElements : Nat) (a_markBits : Nat) (a_markPins : Nat) (na : Nat) (ne : Nat) (nd : Nat) (nr : Nat) (nm : Nat) (i_code : Int32) (i_lastArray : Int32) (i_lastPlace : Int32) : Int32 → va_W → Prop := fun (r : Int32) (u : va_W) => r = -9 ∧ u = [cw_k7 h0 (nI na) (nI ne) a_kindOf a_depthOf a_lengthOf a_classOf a_baseOf a_bits a_pinned 9 a_lengths a_stackArray a_stackOther a_stackAt i_lastArray i_lastPlace a_path a_held a_alike a_hashes (nI nd) a_decisionArray a_decisionPlace a_candidateMany a_candidates (nI nr) a_ruleSort a_ruleArray a_ruleWeight a_ruleLow a_ruleHigh a_chosen a_bestOf (nI 0) a_markElements a_markBits a_markPins]
set_option maxHeartbeats 4000000 in
set_option maxRecDepth 100000 in
theorem my_back0 (g : zz_G) (h0 : Nat) (a_kindOf : Nat) (a_depthOf : Nat) (a_lengthOf : Nat) (a_classOf : Nat) (a_baseOf : Nat) (a_bits : Nat) (a_pinned : Nat) (a_lengths : Nat) (a_stackArray : Nat) (a_stackOther : Nat) (a_stackAt : Nat) (a_path : Nat) (a_held : Nat) (a_alike : Nat) (a_hashes : Nat) (a_decisionArray : Nat) (a_decisionPlace : Nat) (a_candidateMany : Nat) (a_candidates : Nat) (a_ruleSort : Nat) (a_ruleArray : Nat) (a_ruleWeight : Nat) (a_ruleLow : Nat) (a_ruleHigh : Nat) (a_chosen : Nat) (a_bestOf : Nat) (a_markElements : Nat) (a_markBits : Nat) (a_markPins : Nat) (na : Nat) (ne : Nat) (nd : Nat) (nr : Nat) (nm : Nat) (i_code : Int32) (i_lastArray : Int32) (i_lastPlace : Int32) : zz_I g yX8_back (.code yX8_back cX8_back 2 (some .int)) rm_my_back0 [.ref h0] [cw_k7 h0 (nI na) (nI ne) a_kindOf a_depthOf a_lengthOf a_classOf a_baseOf a_bits a_pinned i_code a_lengths a_stackArray a_stackOther a_stackAt i_lastArray i_lastPlace a_path a_held a_alike a_hashes (nI nd) a_decisionArray a_decisionPlace a_candidateMany a_candidates (nI nr) a_ruleSort a_ruleArray a_ruleWeight a_ruleLow a_ruleHigh a_chosen a_bestOf (nI 0) a_markElements a_markBits a_markPins] (po_my_back0 g h0 a_kindOf a_depthOf a_lengthOf a_classOf a_baseOf a_bits a_pinned a_lengths a_stackArray a_stackOther a_stackAt a_path a_held a_alike a_hashes a_decisionArray a_decisionPlace a_candidateMany a_candidates a_ruleSort a_ruleArray a_ruleWeight a_ruleLow a_ruleHigh a_chosen a_bestOf a_markElements a_markBits a_markPins na ne nd nr nm i_code i_lastArray i_lastPlace) := by
  refine zz_I.intro (own := RX8) (cc := cX8_back) (nL := 2) (by decide) rfl (Nat.le_of_ble_eq_true rfl) ?_
  intro p l e s m args below meth c A H locs ls hC hnm hs hZ hl
  obtain ⟨hx, hb, hml, hown, hts, hr, hlocks, hK⟩ := id hC
  have hl : lv_has ls 2 [(0, .ref h0)] := hl
  have hZ : zz_Z g A s.heap [cw_k7 h0 (nI na) (nI ne) a_kindOf a_depthOf a_lengthOf a_classOf a_baseOf a_bits a_pinned i_code a_lengths a_stackArray a_stackOther a_stackAt i_lastArray i_lastPlace a_path a_held a_alike a_hashes (nI nd) a_decisionArray a_decisionPlace a_candidateMany a_candidates (nI nr) a_ruleSort a_ruleArray a_ruleWeight a_ruleLow a_ruleHigh a_chosen a_bestOf (nI 0) a_markElements a_markBits a_markPins] H locs := hZ
  refine lv_aload_n hx hb dX8_back_0 rfl (lv_at hl 0 rfl) ?_
  refine zz_get hC hZ 0 rfl zf_X8_303 rfl dX8_back_1 ?_
  refine lv_if_ne (tgt := 14) hx hb dX8_back_4 (by decide) (fun c => absurd (rfl) c) (fun c1 => ?_)
  refine lv_aload_n hx hb dX8_back_7 rfl (lv_at hl 0 rfl) ?_
  refine lv_bipush (v := 9) hx hb dX8_back_8 (by decide) ?_
  refine zz_iV (As := [.int 9]) (wc := [cw_k7 h0 (nI na) (nI ne) a_kindOf a_depthOf a_lengthOf a_classOf a_baseOf a_bits a_pinned i_code a_lengths a_stackArray a_stackOther a_stackAt i_lastArray i_lastPlace a_path a_held a_alike a_hashes (nI nd) a_decisionArray a_decisionPlace a_candidateMany a_candidates (nI nr) a_ruleSort a_ruleArray a_ruleWeight a_ruleLow a_ruleHigh a_chosen a_bestOf (nI 0) a_markElements a_markBits a_markPins]) (wr := []) (rest := []) hC hZ hs hl zc_X8_175 (cm_fails g h0 a_kindOf a_depthOf a_lengthOf a_classOf a_baseOf a_bits a_pinned a_lengths a_stackArray a_stackOther a_stackAt a_path a_held a_alike a_hashes a_decisionArray a_decisionPlace a_candidateMany a_candidates a_ruleSort a_ruleArray a_ruleWeight a_ruleLow a_ruleHigh a_chosen a_bestOf a_markElements a_markBits a_markPins (nI na) (nI ne) i_code i_lastArray i_lastPlace (nI nd) (nI nr) (nI 0) 9) [0] [] rfl rfl (by decide +kernel) (ci := 7) (q0 := 0) rfl rfl rfl rfl (Nat.le_of_ble_eq_true rfl) ⟨⟨Nat.le_of_ble_eq_true rfl, Nat.le_of_ble_eq_true rfl⟩, Nat.le_of_ble_eq_true rfl, Nat.le_of_ble_eq_true rfl⟩ dX8_back_10 (fun r2 u3 H locs hp hZ => ?_)
  obtain ⟨rfl, rfl⟩ := hp
  have hZ : zz_Z g A s.heap [cw_k7 h0 (nI na) (nI ne) a_kindOf a_depthOf a_lengthOf a_classOf a_baseOf a_bits a_pinned 9 a_lengths a_stackArray a_stackOther a_stackAt i_lastArray i_lastPlace a_path a_held a_alike a_hashes (nI nd) a_decisionArray a_decisionPlace a_candidateMany a_candidates (nI nr) a_ruleSort a_ruleArray a_ruleWeight a_ruleLow a_ruleHigh a_chosen a_bestOf (nI 0) a_markElements a_markBits a_markPins] H locs := hZ
  exact zz_iret hC hZ (⟨rfl, rfl⟩) (Nat.le_of_ble_eq_true rfl) (Nat.le_of_ble_eq_true rfl) dX8_back_13
abbrev rm_my_back1 : Room := { frames := 1, cells := 0, slots := 0, locals := 21 }
abbrev po_my_back1 (g : zz_G) (h0 : Nat) (a_kindOf : Nat) (a_depthOf : Nat) (a_lengthOf : Nat) (a_classOf : Nat) (a_baseOf : Nat) (a_bits : Nat) (a_pinned : Nat) (a_lengths : Nat) (a_stackArray : Nat) (a_stackOther : Nat) (a_stackAt : Nat) (a_path : Nat) (a_held : Nat) (a_alike : Nat) (a_hashes : Nat) (a_decisionArray : Nat) (a_decisionPlace : Nat) (a_candidateMany : Nat) (a_candidates : Nat) (a_ruleSort : Nat) (a_ruleArray : Nat) (a_ruleWeight : Nat) (a_ruleLow : Nat) (a_ruleHigh : Nat) (a_chosen : Nat) (a_bestOf : Nat) (a_markElements : Nat) (a_markBits : Nat) (a_markPins : Nat) (na : Nat) (ne : Nat) (nd : Nat) (nr : Nat) (nm : Nat) (i_code : Int32) (i_lastArray : Int32) (i_lastPlace : Int32) (btf : Nat → Int64) (pnf : Nat → Int32) (mef : Nat → Int32) (mbf : Nat → Int64) (mpf : Nat → Int32) (mu : Nat) (h_8 : nm < 8 ∧ mu ≤ 4000) (e_m : mef nm = nI mu) : Int32 → va_W → Prop := fun (r : Int32) (u : va_W) => ∃ (bt2 : Nat → Int64) (pn2 : Nat → Int32), r = nI nm ∧ (∀ j, j < mu → bt2 j = mbf (4000 * nm + j)) ∧ (∀ j, mu ≤ j → bt2 j = btf j) ∧ (∀ j, j < mu → pn2 j = mpf (4000 * nm + j) &&& 1) ∧ (∀ j, mu ≤ j → pn2 j = pnf j) ∧ u = [cw_k7 h0 (nI na) (nI ne) a_kindOf a_depthOf a_lengthOf a_classOf a_baseOf a_bits a_pinned 0 a_lengths a_stackArray a_stackOther a_stackAt i_lastArray i_lastPlace a_path a_held a_alike a_hashes (nI nd) a_decisionArray a_decisionPlace a_candidateMany a_candidates (nI nr) a_ruleSort a_ruleArray a_ruleWeight a_ruleLow a_ruleHigh a_chosen a_bestOf (nI nm) a_markElements a_markBits a_markPins, cw_l g a_bits 4000 bt2, cw_z g a_pinned 4000 pn2, cw_i g a_markElements 8 mef, cw_l g a_markBits 32000 mbf, cw_z g a_markPins 32000 mpf]
set_option maxHeartbeats 4000000 in
set_option maxRecDepth 100000 in
theorem my_back1 (g : zz_G) (h0 : Nat) (a_kindOf : Nat) (a_depthOf : Nat) (a_lengthOf : Nat) (a_classOf : Nat) (a_baseOf : Nat) (a_bits : Nat) (a_pinned : Nat) (a_lengths : Nat) (a_stackArray : Nat) (a_stackOther : Nat) (a_stackAt : Nat) (a_path : Nat) (a_held : Nat) (a_alike : Nat) (a_hashes : Nat) (a_decisionArray : Nat) (a_decisionPlace : Nat) (a_candidateMany : Nat) (a_candidates : Nat) (a_ruleSort : Nat) (a_ruleArray : Nat) (a_ruleWeight : Nat) (a_ruleLow : Nat) (a_ruleHigh : Nat) (a_chosen : Nat) (a_bestOf : Nat) (a_markElements : Nat) (a_markBits : Nat) (a_markPins : Nat) (na : Nat) (ne : Nat) (nd : Nat) (nr : Nat) (nm : Nat) (i_code : Int32) (i_lastArray : Int32) (i_lastPlace : Int32) (btf : Nat → Int64) (pnf : Nat → Int32) (mef : Nat → Int32) (mbf : Nat → Int64) (mpf : Nat → Int32) (mu : Nat) (h_8 : nm < 8 ∧ mu ≤ 4000) (e_m : mef nm = nI mu) : zz_I g yX8_back (.code yX8_back cX8_back 2 (some .int)) rm_my_back1 [.ref h0] [cw_k7 h0 (nI na) (nI ne) a_kindOf a_depthOf a_lengthOf a_classOf a_baseOf a_bits a_pinned i_code a_lengths a_stackArray a_stackOther a_stackAt i_lastArray i_lastPlace a_path a_held a_alike a_hashes (nI nd) a_decisionArray a_decisionPlace a_candidateMany a_candidates (nI nr) a_ruleSort a_ruleArray a_ruleWeight a_ruleLow a_ruleHigh a_chosen a_bestOf (nI (nm + 1)) a_markElements a_markBits a_markPins, cw_l g a_bits 4000 btf, cw_z g a_pinned 4000 pnf, cw_i g a_markElements 8 mef, cw_l g a_markBits 32000 mbf, cw_z g a_markPins 32000 mpf] (po_my_back1 g h0 a_kindOf a_depthOf a_lengthOf a_classOf a_baseOf a_bits a_pinned a_lengths a_stackArray a_stackOther a_stackAt a_path a_held a_alike a_hashes a_decisionArray a_decisionPlace a_candidateMany a_candidates a_ruleSort a_ruleArray a_ruleWeight a_ruleLow a_ruleHigh a_chosen a_bestOf a_markElements a_markBits a_markPins na ne nd nr nm i_code i_lastArray i_lastPlace btf pnf mef mbf mpf mu h_8 e_m) := by
  refine zz_I.intro (own := RX8) (cc := cX8_back) (nL := 2) (by decide) rfl (Nat.le_of_ble_eq_true rfl) ?_
  intro p l e s m args below meth c A H locs ls hC hnm hs hZ hl
  obtain ⟨hx, hb, hml, hown, hts, hr, hlocks, hK⟩ := id hC
  have hl : lv_has ls 2 [(0, .ref h0)] := hl
  have hZ : zz_Z g A s.heap [cw_k7 h0 (nI na) (nI ne) a_kindOf a_depthOf a_lengthOf a_classOf a_baseOf a_bits a_pinned i_code a_lengths a_stackArray a_stackOther a_stackAt i_lastArray i_lastPlace a_path a_held a_alike a_hashes (nI nd) a_decisionArray a_decisionPlace a_candidateMany a_candidates (nI nr) a_ruleSort a_ruleArray a_ruleWeight a_ruleLow a_ruleHigh a_chosen a_bestOf (nI (nm + 1)) a_markElements a_markBits a_markPins, cw_l g a_bits 4000 btf, cw_z g a_pinned 4000 pnf, cw_i g a_markElements 8 mef, cw_l g a_markBits 32000 mbf, cw_z g a_markPins 32000 mpf] H locs := hZ
  have h8 := h_8.1
  have hmu := h_8.2
  refine lv_aload_n hx hb dX8_back_0 rfl (lv_at hl 0 rfl) ?_
  refine zz_get hC hZ 0 rfl zf_X8_303 rfl dX8_back_1 ?_
  refine lv_if_ne (tgt := 14) hx hb dX8_back_4 (by decide) (fun c1 => ?_) (fun c => absurd c (nI_ne0 (by omega) (by omega)))
  refine lv_aload_n hx hb dX8_back_14 rfl (lv_at hl 0 rfl) ?_
  refine lv_dup hx hb dX8_back_15 rfl ?_
  refine zz_get hC hZ 0 rfl zf_X8_303 rfl dX8_back_16 ?_
  refine lv_iconst (v := 1) hx hb dX8_back_19 (by decide) ?_
  refine lv_isub hx hb dX8_back_20 ?_
  refine zz_topi (v := nI nm) (nI_pred _) ?_
  refine zz_put hC hZ 0 rfl zu_X8_303 (Nat.le_of_ble_eq_true rfl) dX8_back_21 (fun H locs hZ => ?_)
  have hZ : zz_Z g A s.heap [cw_k7 h0 (nI na) (nI ne) a_kindOf a_depthOf a_lengthOf a_classOf a_baseOf a_bits a_pinned i_code a_lengths a_stackArray a_stackOther a_stackAt i_lastArray i_lastPlace a_path a_held a_alike a_hashes (nI nd) a_decisionArray a_decisionPlace a_candidateMany a_candidates (nI nr) a_ruleSort a_ruleArray a_ruleWeight a_ruleLow a_ruleHigh a_chosen a_bestOf (nI nm) a_markElements a_markBits a_markPins, cw_l g a_bits 4000 btf, cw_z g a_pinned 4000 pnf, cw_i g a_markElements 8 mef, cw_l g a_markBits 32000 mbf, cw_z g a_markPins 32000 mpf] H locs := hZ
  refine lv_iconst (v := 0) hx hb dX8_back_24 (by decide) ?_
  refine lv_istore_n (lv' := [(1, .int 0), (0, .ref h0)]) hx hb dX8_back_25 rfl hl (by decide) rfl (fun ls hl => ?_)
  have LP2 : ∀ (N : Nat) (i : Nat) (bt1 : Nat → Int64) (pn1 : Nat → Int32) (H : Heap) (locs : List Loc) (ls : Array Slot), (i ≤ mu) → (∀ j, j < i → bt1 j = mbf (4000 * nm + j)) → (∀ j, mu ≤ j → bt1 j = btf j) → (∀ j, j < i → pn1 j = mpf (4000 * nm + j) &&& 1) → (∀ j, mu ≤ j → pn1 j = pnf j) → (mu - i) < N → zz_Z g A s.heap [cw_k7 h0 (nI na) (nI ne) a_kindOf a_depthOf a_lengthOf a_classOf a_baseOf a_bits a_pinned i_code a_lengths a_stackArray a_stackOther a_stackAt i_lastArray i_lastPlace a_path a_held a_alike a_hashes (nI nd) a_decisionArray a_decisionPlace a_candidateMany a_candidates (nI nr) a_ruleSort a_ruleArray a_ruleWeight a_ruleLow a_ruleHigh a_chosen a_bestOf (nI nm) a_markElements a_markBits a_markPins, cw_l g a_bits 4000 bt1, cw_z g a_pinned 4000 pn1, cw_i g a_markElements 8 mef, cw_l g a_markBits 32000 mbf, cw_z g a_markPins 32000 mpf] H locs → lv_has ls 2 [(1, .int (nI i)), (0, .ref h0)] → W p l e rm_my_back1 s m args below meth c H locs 0 0 (zz_QI below g args s A rm_my_back1.cells rm_my_back1.slots (po_my_back1 g h0 a_kindOf a_depthOf a_lengthOf a_classOf a_baseOf a_bits a_pinned a_lengths a_stackArray a_stackOther a_stackAt a_path a_held a_alike a_hashes a_decisionArray a_decisionPlace a_candidateMany a_candidates a_ruleSort a_ruleArray a_ruleWeight a_ruleLow a_ruleHigh a_chosen a_bestOf a_markElements a_markBits a_markPins na ne nd nr nm i_code i_lastArray i_lastPlace btf pnf mef mbf mpf mu h_8 e_m)) (F0 m 26 ls []) := by
    intro N
    induction N with
    | zero =>
      intro i bt1 pn1 H locs ls hi hm1 hm2 hp1 hp2 hN
      exact absurd hN (Nat.not_lt_zero _)
    | succ N ih =>
      intro i bt1 pn1 H locs ls hi hm1 hm2 hp1 hp2 hN hZ hl
      refine lv_iload_n hx hb dX8_back_26 rfl (lv_at hl 0 rfl) ?_
      refine lv_aload_n hx hb dX8_back_27 rfl (lv_at hl 1 rfl) ?_
      refine zz_get hC hZ 0 rfl zf_X8_90 rfl dX8_back_28 ?_
      refine lv_aload_n hx hb dX8_back_31 rfl (lv_at hl 1 rfl) ?_
      refine zz_get hC hZ 0 rfl zf_X8_303 rfl dX8_back_32 ?_
      have bd3 : nm < 8 := by omega
      refine zz_ialdn hC hZ 3 rfl bd3 (by decide) dX8_back_35 ?_
      refine zz_topi (v := nI mu) (e_m) ?_
      have bd5 : mu < 2 ^ 31 := by omega
      have bd6 : i < 2 ^ 31 := by omega
      refine lv_icmp_ge (tgt := 87) hx hb dX8_back_36 (by decide) (fun c4 => ?_) (fun c4 => ?_)
      · have nc4 : mu ≤ i := (nI_leI bd5 bd6).mp (show nI (mu) ≤ nI (i) from c4)
        refine lv_aload_n hx hb dX8_back_87 rfl (lv_at hl 1 rfl) ?_
        refine lv_aload_n hx hb dX8_back_88 rfl (lv_at hl 1 rfl) ?_
        refine zz_get hC hZ 0 rfl zf_X8_303 rfl dX8_back_89 ?_
        refine zz_iV (As := [.int (nI nm)]) (wc := [cw_k7 h0 (nI na) (nI ne) a_kindOf a_depthOf a_lengthOf a_classOf a_baseOf a_bits a_pinned i_code a_lengths a_stackArray a_stackOther a_stackAt i_lastArray i_lastPlace a_path a_held a_alike a_hashes (nI nd) a_decisionArray a_decisionPlace a_candidateMany a_candidates (nI nr) a_ruleSort a_ruleArray a_ruleWeight a_ruleLow a_ruleHigh a_chosen a_bestOf (nI nm) a_markElements a_markBits a_markPins]) (wr := [cw_l g a_bits 4000 bt1, cw_z g a_pinned 4000 pn1, cw_i g a_markElements 8 mef, cw_l g a_markBits 32000 mbf, cw_z g a_markPins 32000 mpf]) (rest := []) hC hZ hs hl zc_X8_183 (cm_fine g h0 a_kindOf a_depthOf a_lengthOf a_classOf a_baseOf a_bits a_pinned a_lengths a_stackArray a_stackOther a_stackAt a_path a_held a_alike a_hashes a_decisionArray a_decisionPlace a_candidateMany a_candidates a_ruleSort a_ruleArray a_ruleWeight a_ruleLow a_ruleHigh a_chosen a_bestOf a_markElements a_markBits a_markPins (nI na) (nI ne) i_code i_lastArray i_lastPlace (nI nd) (nI nr) (nI nm) (nI nm)) [0] [1, 2, 3, 4, 5] rfl rfl (by decide +kernel) (ci := 7) (q0 := 0) rfl rfl rfl rfl (Nat.le_of_ble_eq_true rfl) ⟨⟨Nat.le_of_ble_eq_true rfl, Nat.le_of_ble_eq_true rfl⟩, Nat.le_of_ble_eq_true rfl, Nat.le_of_ble_eq_true rfl⟩ dX8_back_92 (fun r7 u8 H locs hp hZ => ?_)
        obtain ⟨rfl, rfl⟩ := hp
        have hZ : zz_Z g A s.heap [cw_l g a_bits 4000 bt1, cw_z g a_pinned 4000 pn1, cw_i g a_markElements 8 mef, cw_l g a_markBits 32000 mbf, cw_z g a_markPins 32000 mpf, cw_k7 h0 (nI na) (nI ne) a_kindOf a_depthOf a_lengthOf a_classOf a_baseOf a_bits a_pinned 0 a_lengths a_stackArray a_stackOther a_stackAt i_lastArray i_lastPlace a_path a_held a_alike a_hashes (nI nd) a_decisionArray a_decisionPlace a_candidateMany a_candidates (nI nr) a_ruleSort a_ruleArray a_ruleWeight a_ruleLow a_ruleHigh a_chosen a_bestOf (nI nm) a_markElements a_markBits a_markPins] H locs := hZ
        have hZ : zz_Z g A s.heap [cw_k7 h0 (nI na) (nI ne) a_kindOf a_depthOf a_lengthOf a_classOf a_baseOf a_bits a_pinned 0 a_lengths a_stackArray a_stackOther a_stackAt i_lastArray i_lastPlace a_path a_held a_alike a_hashes (nI nd) a_decisionArray a_decisionPlace a_candidateMany a_candidates (nI nr) a_ruleSort a_ruleArray a_ruleWeight a_ruleLow a_ruleHigh a_chosen a_bestOf (nI nm) a_markElements a_markBits a_markPins, cw_l g a_bits 4000 bt1, cw_z g a_pinned 4000 pn1, cw_i g a_markElements 8 mef, cw_l g a_markBits 32000 mbf, cw_z g a_markPins 32000 mpf] H locs := hZ.sub [5, 0, 1, 2, 3, 4] (by decide +kernel) rfl
        exact zz_iret hC hZ (⟨bt1, pn1, rfl, fun j hj => hm1 j (by omega), hm2, fun j hj => hp1 j (by omega), hp2, rfl⟩) (Nat.le_of_ble_eq_true rfl) (Nat.le_of_ble_eq_true rfl) dX8_back_95
      · have nc4 : ¬ mu ≤ i := fun zq => c4 (show nI (mu) ≤ nI (i) from (nI_leI bd5 bd6).mpr zq)
        refine lv_aload_n hx hb dX8_back_39 rfl (lv_at hl 1 rfl) ?_
        refine zz_get hC hZ 0 rfl zf_X8_25 rfl dX8_back_40 ?_
        refine lv_iload_n hx hb dX8_back_43 rfl (lv_at hl 0 rfl) ?_
        refine lv_aload_n hx hb dX8_back_44 rfl (lv_at hl 1 rfl) ?_
        refine zz_get hC hZ 0 rfl zf_X8_93 rfl dX8_back_45 ?_
        refine lv_sipush (v := 4000) hx hb dX8_back_48 (by decide) ?_
        refine lv_aload_n hx hb dX8_back_51 rfl (lv_at hl 1 rfl) ?_
        refine zz_get hC hZ 0 rfl zf_X8_303 rfl dX8_back_52 ?_
        refine lv_imul hx hb dX8_back_55 ?_
        refine zz_topi (v := nI (4000 * nm)) (pk_mul 4000 _) ?_
        refine lv_iload_n hx hb dX8_back_56 rfl (lv_at hl 0 rfl) ?_
        refine lv_iadd hx hb dX8_back_57 ?_
        refine zz_topi (v := nI ((4000 * nm) + i)) (nI_add _ _) ?_
        have bd9 : ((4000 * nm) + i) < 32000 := by omega
        refine zz_laldn hC hZ 4 rfl bd9 (by decide) dX8_back_58 ?_
        have bd10 : i < 4000 := by omega
        refine zz_lastn hC hZ 1 rfl bd10 (by decide) dX8_back_59 (fun H locs hZ => ?_)
        have hZ : zz_Z g A s.heap [cw_k7 h0 (nI na) (nI ne) a_kindOf a_depthOf a_lengthOf a_classOf a_baseOf a_bits a_pinned i_code a_lengths a_stackArray a_stackOther a_stackAt i_lastArray i_lastPlace a_path a_held a_alike a_hashes (nI nd) a_decisionArray a_decisionPlace a_candidateMany a_candidates (nI nr) a_ruleSort a_ruleArray a_ruleWeight a_ruleLow a_ruleHigh a_chosen a_bestOf (nI nm) a_markElements a_markBits a_markPins, cw_l g a_bits 4000 (vp_updL bt1 i (mbf ((4000 * nm) + i))), cw_z g a_pinned 4000 pn1, cw_i g a_markElements 8 mef, cw_l g a_markBits 32000 mbf, cw_z g a_markPins 32000 mpf] H locs := hZ
        refine lv_aload_n hx hb dX8_back_60 rfl (lv_at hl 1 rfl) ?_
        refine zz_get hC hZ 0 rfl zf_X8_29 rfl dX8_back_61 ?_
        refine lv_iload_n hx hb dX8_back_64 rfl (lv_at hl 0 rfl) ?_
        refine lv_aload_n hx hb dX8_back_65 rfl (lv_at hl 1 rfl) ?_
        refine zz_get hC hZ 0 rfl zf_X8_96 rfl dX8_back_66 ?_
        refine lv_sipush (v := 4000) hx hb dX8_back_69 (by decide) ?_
        refine lv_aload_n hx hb dX8_back_72 rfl (lv_at hl 1 rfl) ?_
        refine zz_get hC hZ 0 rfl zf_X8_303 rfl dX8_back_73 ?_
        refine lv_imul hx hb dX8_back_76 ?_
        refine zz_topi (v := nI (4000 * nm)) (pk_mul 4000 _) ?_
        refine lv_iload_n hx hb dX8_back_77 rfl (lv_at hl 0 rfl) ?_
        refine lv_iadd hx hb dX8_back_78 ?_
        refine zz_topi (v := nI ((4000 * nm) + i)) (nI_add _ _) ?_
        refine zz_zaldn hC hZ 5 rfl bd9 (by decide) dX8_back_79 ?_
        refine zz_zastn hC hZ 2 rfl bd10 (by decide) dX8_back_80 (fun H locs hZ => ?_)
        have hZ : zz_Z g A s.heap [cw_k7 h0 (nI na) (nI ne) a_kindOf a_depthOf a_lengthOf a_classOf a_baseOf a_bits a_pinned i_code a_lengths a_stackArray a_stackOther a_stackAt i_lastArray i_lastPlace a_path a_held a_alike a_hashes (nI nd) a_decisionArray a_decisionPlace a_candidateMany a_candidates (nI nr) a_ruleSort a_ruleArray a_ruleWeight a_ruleLow a_ruleHigh a_chosen a_bestOf (nI nm) a_markElements a_markBits a_markPins, cw_l g a_bits 4000 (vp_updL bt1 i (mbf ((4000 * nm) + i))), cw_z g a_pinned 4000 (upd pn1 i ((mpf ((4000 * nm) + i)) &&& 1)), cw_i g a_markElements 8 mef, cw_l g a_markBits 32000 mbf, cw_z g a_markPins 32000 mpf] H locs := hZ
        refine lv_iinc (v := nI (i + 1)) (lv' := [(1, .int (nI (i + 1))), (0, .ref h0)]) hx hb dX8_back_81 hl (k := 0) rfl (nI_1 _) (by decide) rfl (fun ls hl => ?_)
        refine lv_goto (tgt := 26) hx hb dX8_back_84 (by decide) ?_
        exact ih (i + 1) (vp_updL bt1 i (mbf ((4000 * nm) + i))) (upd pn1 i ((mpf ((4000 * nm) + i)) &&& 1)) H locs ls (by omega) (fun j hj => by by_cases e0 : j = i; (subst e0; exact pk_uLs); exact (pk_uLn (by omega)).trans (hm1 j (by omega))) (fun j hj => (pk_uLn (by omega)).trans (hm2 j hj)) (fun j hj => by by_cases e0 : j = i; (subst e0; exact pk_us); exact (pk_un (by omega)).trans (hp1 j (by omega))) (fun j hj => (pk_un (by omega)).trans (hp2 j hj)) (by omega) hZ (lv_sub hl [0, 1] rfl)
  exact LP2 _ 0 btf pnf H locs ls (by omega) (fun j hj => absurd hj (Nat.not_lt_zero j)) (fun _ _ => rfl) (fun j hj => absurd hj (Nat.not_lt_zero j)) (fun _ _ => rfl) (Nat.lt_succ_self _) hZ (lv_sub hl [0, 1] rfl)
theorem zl_c1E {BA bt1 : Nat → Int64} {dz sz ne lz i : Nat} (hx : i = lz ∨ ¬ dz = 1) (hz : ¬ dz = 1 → i = 0) (h : ∀ j, bt1 j = if ne ≤ j ∧ j < ne + i then BA (sz + (j - ne)) else BA j) : bt1 = if dz = 1 then va_cpy BA BA sz ne lz else BA := by
  by_cases q : dz = 1
  · rw [if_pos q]; exact (zl_cpE (hx.resolve_right (fun z => z q)) h).symm
  · rw [if_neg q]
    funext j
    rw [h j, hz q, if_neg (by omega)]
/-- the bits behind a copy of one array -/
def zz_c1 (bt : Nat → Int64) (dz sz ne lz : Nat) : Nat → Int64 := if dz = 1 then va_cpy (zz_mb bt (nI dz) ne lz) (zz_mb bt (nI dz) ne lz) sz ne lz else zz_mb bt (nI dz) ne lz
theorem dg_X8_copyOne_0 : (decode cX8_copyOne 0 = .ok (.aload_n 0, 1)) ∧ (decode cX8_copyOne 1 = .ok (.aload_n 0, 1)) ∧ (decode cX8_copyOne 2 = .ok (.getfield 7, 3)) ∧ (decode cX8_copyOne 5 = .ok (.iload_n 1, 1)) ∧ (decode cX8_copyOne 6 = .ok (.iaload, 1)) ∧ (decode cX8_copyOne 7 = .ok (.aload_n 0, 1)) ∧ (decode cX8_copyOne 8 = .ok (.getfield 13, 3)) ∧ (decode cX8_copyOne 11 = .ok (.iload_n 1, 1)) ∧ (decode cX8_copyOne 12 = .ok (.iaload, 1)) ∧ (decode cX8_copyOne 13 = .ok (.aload_n 0, 1)) ∧ (decode cX8_copyOne 14 = .ok (.getfield 19, 3)) ∧ (decode cX8_copyOne 17 = .ok (.iload_n 1, 1)) ∧ (decode cX8_copyOne 18 = .ok (.iaload, 1)) ∧ (decode cX8_copyOne 19 = .ok (.aload_n 0, 1)) ∧ (decode cX8_copyOne 20 = .ok (.getfield 16, 3)) ∧ (decode cX8_copyOne 23 = .ok (.iload_n 1, 1)) := by decide +kernel
theorem dX8_copyOne_0 : decode cX8_copyOne 0 = .ok (.aload_n 0, 1) := dg_X8_copyOne_0.1
theorem dX8_copyOne_1 : decode cX8_copyOne 1 = .ok (.aload_n 0, 1) := dg_X8_copyOne_0.2.1
theorem dX8_copyOne_2 : decode cX8_copyOne 2 = .ok (.getfield 7, 3) := dg_X8_copyOne_0.2.2.1
theorem dX8_copyOne_5 : decode cX8_copyOne 5 = .ok (.iload_n 1, 1) := dg_X8_copyOne_0.2.2.2.1
theorem dX8_copyOne_6 : decode cX8_copyOne 6 = .ok (.iaload, 1) := dg_X8_copyOne_0.2.2.2.2.1
theorem dX8_copyOne_7 : decode cX8_copyOne 7 = .ok (.aload_n 0, 1) := dg_X8_copyOne_0.2.2.2.2.2.1
theorem dX8_copyOne_8 : decode cX8_copyOne 8 = .ok (.getfield 13, 3) := dg_X8_copyOne_0.2.2.2.2.2.2.1
theorem dX8_copyOne_11 : decode cX8_copyOne 11 = .ok (.iload_n 1, 1) := dg_X8_copyOne_0.2.2.2.2.2.2.2.1
theorem dX8_copyOne_12 : decode cX8_copyOne 12 = .ok (.iaload, 1) := dg_X8_copyOne_0.2.2.2.2.2.2.2.2.1
theorem dX8_copyOne_13 : decode cX8_copyOne 13 = .ok (.aload_n 0, 1) := dg_X8_copyOne_0.2.2.2.2.2.2.2.2.2.1
theorem dX8_copyOne_14 : decode cX8_copyOne 14 = .ok (.getfield 19, 3) := dg_X8_copyOne_0.2.2.2.2.2.2.2.2.2.2.1
theorem dX8_copyOne_17 : decode cX8_copyOne 17 = .ok (.iload_n 1, 1) := dg_X8_copyOne_0.2.2.2.2.2.2.2.2.2.2.2.1
theorem dX8_copyOne_18 : decode cX8_copyOne 18 = .ok (.iaload, 1) := dg_X8_copyOne_0.2.2.2.2.2.2.2.2.2.2.2.2.1
theorem dX8_copyOne_19 : decode cX8_copyOne 19 = .ok (.aload_n 0, 1) := dg_X8_copyOne_0.2.2.2.2.2.2.2.2.2.2.2.2.2.1
theorem dX8_copyOne_20 : decode cX8_copyOne 20 = .ok (.getfield 16, 3) := dg_X8_copyOne_0.2.2.2.2.2.2.2.2.2.2.2.2.2.2.1
theorem dX8_copyOne_23 : decode cX8_copyOne 23 = .ok (.iload_n 1, 1) := dg_X8_copyOne_0.2.2.2.2.2.2.2.2.2.2.2.2.2.2.2
theorem dg_X8_copyOne_24 : (decode cX8_copyOne 24 = .ok (.iaload, 1)) ∧ (decode cX8_copyOne 25 = .ok (.invokevirtual 194, 3)) ∧ (decode cX8_copyOne 28 = .ok (.istore_n 2, 1)) ∧ (decode cX8_copyOne 29 = .ok (.iconst 0, 1)) ∧ (decode cX8_copyOne 30 = .ok (.istore_n 3, 1)) ∧ (decode cX8_copyOne 31 = .ok (.iload_n 3, 1)) ∧ (decode cX8_copyOne 32 = .ok (.aload_n 0, 1)) ∧ (decode cX8_copyOne 33 = .ok (.getfield 16, 3)) ∧ (decode cX8_copyOne 36 = .ok (.iload_n 1, 1)) ∧ (decode cX8_copyOne 37 = .ok (.iaload, 1)) ∧ (decode cX8_copyOne 38 = .ok (.if_icmp .ge 45, 3)) ∧ (decode cX8_copyOne 41 = .ok (.aload_n 0, 1)) ∧ (decode cX8_copyOne 42 = .ok (.getfield 13, 3)) ∧ (decode cX8_copyOne 45 = .ok (.iload_n 1, 1)) ∧ (decode cX8_copyOne 46 = .ok (.iaload, 1)) ∧ (decode cX8_copyOne 47 = .ok (.iconst 1, 1)) := by decide +kernel
theorem dX8_copyOne_24 : decode cX8_copyOne 24 = .ok (.iaload, 1) := dg_X8_copyOne_24.1
theorem dX8_copyOne_25 : decode cX8_copyOne 25 = .ok (.invokevirtual 194, 3) := dg_X8_copyOne_24.2.1
theorem dX8_copyOne_28 : decode cX8_copyOne 28 = .ok (.istore_n 2, 1) := dg_X8_copyOne_24.2.2.1
theorem dX8_copyOne_29 : decode cX8_copyOne 29 = .ok (.iconst 0, 1) := dg_X8_copyOne_24.2.2.2.1
theorem dX8_copyOne_30 : decode cX8_copyOne 30 = .ok (.istore_n 3, 1) := dg_X8_copyOne_24.2.2.2.2.1
theorem dX8_copyOne_31 : decode cX8_copyOne 31 = .ok (.iload_n 3, 1) := dg_X8_copyOne_24.2.2.2.2.2.1
theorem dX8_copyOne_32 : decode cX8_copyOne 32 = .ok (.aload_n 0, 1) := dg_X8_copyOne_24.2.2.2.2.2.2.1
theorem dX8_copyOne_33 : decode cX8_copyOne 33 = .ok (.getfield 16, 3) := dg_X8_copyOne_24.2.2.2.2.2.2.2.1
theorem dX8_copyOne_36 : decode cX8_copyOne 36 = .ok (.iload_n 1, 1) := dg_X8_copyOne_24.2.2.2.2.2.2.2.2.1
theorem dX8_copyOne_37 : decode cX8_copyOne 37 = .ok (.iaload, 1) := dg_X8_copyOne_24.2.2.2.2.2.2.2.2.2.1
theorem dX8_copyOne_38 : decode cX8_copyOne 38 = .ok (.if_icmp .ge 45, 3) := dg_X8_copyOne_24.2.2.2.2.2.2.2.2.2.2.1
theorem dX8_copyOne_41 : decode cX8_copyOne 41 = .ok (.aload_n 0, 1) := dg_X8_copyOne_24.2.2.2.2.2.2.2.2.2.2.2.1
theorem dX8_copyOne_42 : decode cX8_copyOne 42 = .ok (.getfield 13, 3) := dg_X8_copyOne_24.2.2.2.2.2.2.2.2.2.2.2.2.1
theorem dX8_copyOne_45 : decode cX8_copyOne 45 = .ok (.iload_n 1, 1) := dg_X8_copyOne_24.2.2.2.2.2.2.2.2.2.2.2.2.2.1
theorem dX8_copyOne_46 : decode cX8_copyOne 46 = .ok (.iaload, 1) := dg_X8_copyOne_24.2.2.2.2.2.2.2.2.2.2.2.2.2.2.1
theorem dX8_copyOne_47 : decode cX8_copyOne 47 = .ok (.iconst 1, 1) := dg_X8_copyOne_24.2.2.2.2.2.2.2.2.2.2.2.2.2.2.2
theorem dg_X8_copyOne_48 : (decode cX8_copyOne 48 = .ok (.if_icmp .ne 35, 3)) ∧ (decode cX8_copyOne 51 = .ok (.aload_n 0, 1)) ∧ (decode cX8_copyOne 52 = .ok (.getfield 25, 3)) ∧ (decode cX8_copyOne 55 = .ok (.aload_n 0, 1)) ∧ (decode cX8_copyOne 56 = .ok (.getfield 22, 3)) ∧ (decode cX8_copyOne 59 = .ok (.iload_n 2, 1)) ∧ (decode cX8_copyOne 60 = .ok (.iaload, 1)) ∧ (decode cX8_copyOne 61 = .ok (.iload_n 3, 1)) ∧ (decode cX8_copyOne 62 = .ok (.iadd, 1)) ∧ (decode cX8_copyOne 63 = .ok (.aload_n 0, 1)) ∧ (decode cX8_copyOne 64 = .ok (.getfield 25, 3)) ∧ (decode cX8_copyOne 67 = .ok (.aload_n 0, 1)) ∧ (decode cX8_copyOne 68 = .ok (.getfield 22, 3)) ∧ (decode cX8_copyOne 71 = .ok (.iload_n 1, 1)) ∧ (decode cX8_copyOne 72 = .ok (.iaload, 1)) ∧ (decode cX8_copyOne 73 = .ok (.iload_n 3, 1)) := by decide +kernel
theorem dX8_copyOne_48 : decode cX8_copyOne 48 = .ok (.if_icmp .ne 35, 3) := dg_X8_copyOne_48.1
theorem dX8_copyOne_51 : decode cX8_copyOne 51 = .ok (.aload_n 0, 1) := dg_X8_copyOne_48.2.1
theorem dX8_copyOne_52 : decode cX8_copyOne 52 = .ok (.getfield 25, 3) := dg_X8_copyOne_48.2.2.1
theorem dX8_copyOne_55 : decode cX8_copyOne 55 = .ok (.aload_n 0, 1) := dg_X8_copyOne_48.2.2.2.1
theorem dX8_copyOne_56 : decode cX8_copyOne 56 = .ok (.getfield 22, 3) := dg_X8_copyOne_48.2.2.2.2.1
theorem dX8_copyOne_59 : decode cX8_copyOne 59 = .ok (.iload_n 2, 1) := dg_X8_copyOne_48.2.2.2.2.2.1
theorem dX8_copyOne_60 : decode cX8_copyOne 60 = .ok (.iaload, 1) := dg_X8_copyOne_48.2.2.2.2.2.2.1
theorem dX8_copyOne_61 : decode cX8_copyOne 61 = .ok (.iload_n 3, 1) := dg_X8_copyOne_48.2.2.2.2.2.2.2.1
theorem dX8_copyOne_62 : decode cX8_copyOne 62 = .ok (.iadd, 1) := dg_X8_copyOne_48.2.2.2.2.2.2.2.2.1
theorem dX8_copyOne_63 : decode cX8_copyOne 63 = .ok (.aload_n 0, 1) := dg_X8_copyOne_48.2.2.2.2.2.2.2.2.2.1
theorem dX8_copyOne_64 : decode cX8_copyOne 64 = .ok (.getfield 25, 3) := dg_X8_copyOne_48.2.2.2.2.2.2.2.2.2.2.1
theorem dX8_copyOne_67 : decode cX8_copyOne 67 = .ok (.aload_n 0, 1) := dg_X8_copyOne_48.2.2.2.2.2.2.2.2.2.2.2.1
theorem dX8_copyOne_68 : decode cX8_copyOne 68 = .ok (.getfield 22, 3) := dg_X8_copyOne_48.2.2.2.2.2.2.2.2.2.2.2.2.1
theorem dX8_copyOne_71 : decode cX8_copyOne 71 = .ok (.iload_n 1, 1) := dg_X8_copyOne_48.2.2.2.2.2.2.2.2.2.2.2.2.2.1
theorem dX8_copyOne_72 : decode cX8_copyOne 72 = .ok (.iaload, 1) := dg_X8_copyOne_48.2.2.2.2.2.2.2.2.2.2.2.2.2.2.1
theorem dX8_copyOne_73 : decode cX8_copyOne 73 = .ok (.iload_n 3, 1) := dg_X8_copyOne_48.2.2.2.2.2.2.2.2.2.2.2.2.2.2.2
theorem dg_X8_copyOne_74 : (decode cX8_copyOne 74 = .ok (.iadd, 1)) ∧ (decode cX8_copyOne 75 = .ok (.laload, 1)) ∧ (decode cX8_copyOne 76 = .ok (.lastore, 1)) ∧ (decode cX8_copyOne 77 = .ok (.iinc 3 1, 3)) ∧ (decode cX8_copyOne 80 = .ok (.goto (-49), 3)) ∧ (decode cX8_copyOne 83 = .ok (.iload_n 2, 1)) ∧ (decode cX8_copyOne 84 = .ok (.ireturn, 1)) := by decide +kernel
theorem dX8_copyOne_74 : decode cX8_copyOne 74 = .ok (.iadd, 1) := dg_X8_copyOne_74.1
theorem dX8_copyOne_75 : decode cX8_copyOne 75 = .ok (.laload, 1) := dg_X8_copyOne_74.2.1
theorem dX8_copyOne_76 : decode cX8_copyOne 76 = .ok (.lastore, 1) := dg_X8_copyOne_74.2.2.1
theorem dX8_copyOne_77 : decode cX8_copyOne 77 = .ok (.iinc 3 1, 3) := dg_X8_copyOne_74.2.2.2.1
theorem dX8_copyOne_80 : decode cX8_copyOne 80 = .ok (.goto (-49), 3) := dg_X8_copyOne_74.2.2.2.2.1
theorem dX8_copyOne_83 : decode cX8_copyOne 83 = .ok (.iload_n 2, 1) := dg_X8_copyOne_74.2.2.2.2.2.1
theorem dX8_copyOne_84 : decode cX8_copyOne 84 = .ok (.ireturn, 1) := dg_X8_copyOne_74.2.2.2.2.2.2
abbrev rm_cm_copyOne : Room := { frames := 1, cells := 0, slots := 0, locals := 26 }
abbrev po_cm_copyOne (g : zz_G) (h0 : Nat) (a_kindOf : Nat) (a_depthOf : Nat) (a_lengthOf : Nat) (a_classOf : Nat) (a_baseOf : Nat) (a_bits : Nat) (a_pinned : Nat) (a_lengths : Nat) (a_stackArray : Nat) (a_stackOther : Nat) (a_stackAt : Nat) (a_path : Nat) (a_held : Nat) (a_alike : Nat) (a_hashes : Nat) (a_decisionArray : Nat) (a_decisionPlace : Nat) (a_candidateMany : Nat) (a_candidates : Nat) (a_ruleSort : Nat) (a_ruleArray : Nat) (a_ruleWeight : Nat) (a_ruleLow : Nat) (a_ruleHigh : Nat) (a_chosen : Nat) (a_bestOf : Nat) (a_markElements : Nat) (a_markBits : Nat) (a_markPins : Nat) (na : Nat) (ne : Nat) (nd : Nat) (nr : Nat) (nm : Nat) (i_code : Int32) (i_lastArray : Int32) (i_lastPlace : Int32) (kdf : Nat → Int32) (dpf : Nat → Int32) (lnf : Nat → Int32) (clf : Nat → Int32) (saf : Nat → Int32) (btf : Nat → Int64) (pnf : Nat → Int32) (a : Nat) (sz : Nat) (lz : Nat) (dz : Nat) (h_a : a < na ∧ na < 60 ∧ ne + lz ≤ 4000 ∧ lz ≤ 200 ∧ sz + lz ≤ ne ∧ 1 ≤ dz ∧ dz ≤ 4) (e_s : saf a = nI sz) (e_l : lnf a = nI lz) (e_d : dpf a = nI dz) (h_M : zz_MI na ne dpf saf lnf btf) : Int32 → va_W → Prop := fun (r : Int32) (u : va_W) => ∃ (bt2 : Nat → Int64) (pn2 : Nat → Int32), r = nI na ∧ (zz_MI (na + 1) (ne + lz) (upd dpf na (nI dz)) (upd saf na (nI ne)) (upd lnf na (nI lz)) bt2) ∧ (∀ j, j < ne → bt2 j = btf j) ∧ (bt2 = zz_c1 btf dz sz ne lz) ∧ (pn2 = zz_mp pnf ne lz) ∧ u = [cw_k7 h0 (nI (na + 1)) (nI (ne + lz)) a_kindOf a_depthOf a_lengthOf a_classOf a_baseOf a_bits a_pinned i_code a_lengths a_stackArray a_stackOther a_stackAt i_lastArray i_lastPlace a_path a_held a_alike a_hashes (nI nd) a_decisionArray a_decisionPlace a_candidateMany a_candidates (nI nr) a_ruleSort a_ruleArray a_ruleWeight a_ruleLow a_ruleHigh a_chosen a_bestOf (nI nm) a_markElements a_markBits a_markPins, cw_i g a_kindOf 60 (upd kdf na (kdf a)), cw_i g a_depthOf 60 (upd dpf na (nI dz)), cw_i g a_lengthOf 60 (upd lnf na (nI lz)), cw_i g a_classOf 60 (upd clf na (clf a)), cw_i g a_baseOf 60 (upd saf na (nI ne)), cw_l g a_bits 4000 bt2, cw_z g a_pinned 4000 pn2]
set_option maxHeartbeats 4000000 in
set_option maxRecDepth 100000 in
theorem cm_copyOne (g : zz_G) (h0 : Nat) (a_kindOf : Nat) (a_depthOf : Nat) (a_lengthOf : Nat) (a_classOf : Nat) (a_baseOf : Nat) (a_bits : Nat) (a_pinned : Nat) (a_lengths : Nat) (a_stackArray : Nat) (a_stackOther : Nat) (a_stackAt : Nat) (a_path : Nat) (a_held : Nat) (a_alike : Nat) (a_hashes : Nat) (a_decisionArray : Nat) (a_decisionPlace : Nat) (a_candidateMany : Nat) (a_candidates : Nat) (a_ruleSort : Nat) (a_ruleArray : Nat) (a_ruleWeight : Nat) (a_ruleLow : Nat) (a_ruleHigh : Nat) (a_chosen : Nat) (a_bestOf : Nat) (a_markElements : Nat) (a_markBits : Nat) (a_markPins : Nat) (na : Nat) (ne : Nat) (nd : Nat) (nr : Nat) (nm : Nat) (i_code : Int32) (i_lastArray : Int32) (i_lastPlace : Int32) (kdf : Nat → Int32) (dpf : Nat → Int32) (lnf : Nat → Int32) (clf : Nat → Int32) (saf : Nat → Int32) (btf : Nat → Int64) (pnf : Nat → Int32) (a : Nat) (sz : Nat) (lz : Nat) (dz : Nat) (h_a : a < na ∧ na < 60 ∧ ne + lz ≤ 4000 ∧ lz ≤ 200 ∧ sz + lz ≤ ne ∧ 1 ≤ dz ∧ dz ≤ 4) (e_s : saf a = nI sz) (e_l : lnf a = nI lz) (e_d : dpf a = nI dz) (h_M : zz_MI na ne dpf saf lnf btf) : zz_I g yX8_copyOne (.code yX8_copyOne cX8_copyOne 4 (some .int)) rm_cm_copyOne [.ref h0, .int (nI a)] [cw_k7 h0 (nI na) (nI ne) a_kindOf a_depthOf a_lengthOf a_classOf a_baseOf a_bits a_pinned i_code a_lengths a_stackArray a_stackOther a_stackAt i_lastArray i_lastPlace a_path a_held a_alike a_hashes (nI nd) a_decisionArray a_decisionPlace a_candidateMany a_candidates (nI nr) a_ruleSort a_ruleArray a_ruleWeight a_ruleLow a_ruleHigh a_chosen a_bestOf (nI nm) a_markElements a_markBits a_markPins, cw_i g a_kindOf 60 kdf, cw_i g a_depthOf 60 dpf, cw_i g a_lengthOf 60 lnf, cw_i g a_classOf 60 clf, cw_i g a_baseOf 60 saf, cw_l g a_bits 4000 btf, cw_z g a_pinned 4000 pnf] (po_cm_copyOne g h0 a_kindOf a_depthOf a_lengthOf a_classOf a_baseOf a_bits a_pinned a_lengths a_stackArray a_stackOther a_stackAt a_path a_held a_alike a_hashes a_decisionArray a_decisionPlace a_candidateMany a_candidates a_ruleSort a_ruleArray a_ruleWeight a_ruleLow a_ruleHigh a_chosen a_bestOf a_markElements a_markBits a_markPins na ne nd nr nm i_code i_lastArray i_lastPlace kdf dpf lnf clf saf btf pnf a sz lz dz h_a e_s e_l e_d h_M) := by
  refine zz_I.intro (own := RX8) (cc := cX8_copyOne) (nL := 4) (by decide) rfl (Nat.le_of_ble_eq_true rfl) ?_
  intro p l e s m args below meth c A H locs ls hC hnm hs hZ hl
  obtain ⟨hx, hb, hml, hown, hts, hr, hlocks, hK⟩ := id hC
  have hl : lv_has ls 4 [(0, .ref h0), (1, .int (nI a))] := hl
  have hZ : zz_Z g A s.heap [cw_k7 h0 (nI na) (nI ne) a_kindOf a_depthOf a_lengthOf a_classOf a_baseOf a_bits a_pinned i_code a_lengths a_stackArray a_stackOther a_stackAt i_lastArray i_lastPlace a_path a_held a_alike a_hashes (nI nd) a_decisionArray a_decisionPlace a_candidateMany a_candidates (nI nr) a_ruleSort a_ruleArray a_ruleWeight a_ruleLow a_ruleHigh a_chosen a_bestOf (nI nm) a_markElements a_markBits a_markPins, cw_i g a_kindOf 60 kdf, cw_i g a_depthOf 60 dpf, cw_i g a_lengthOf 60 lnf, cw_i g a_classOf 60 clf, cw_i g a_baseOf 60 saf, cw_l g a_bits 4000 btf, cw_z g a_pinned 4000 pnf] H locs := hZ
  have h_S := h_M.1
  refine lv_aload_n hx hb dX8_copyOne_0 rfl (lv_at hl 0 rfl) ?_
  refine lv_aload_n hx hb dX8_copyOne_1 rfl (lv_at hl 0 rfl) ?_
  refine zz_get hC hZ 0 rfl zf_X8_7 rfl dX8_copyOne_2 ?_
  refine lv_iload_n hx hb dX8_copyOne_5 rfl (lv_at hl 1 rfl) ?_
  have bd1 : a < 60 := by omega
  refine zz_ialdn hC hZ 1 rfl bd1 (by decide) dX8_copyOne_6 ?_
  refine lv_aload_n hx hb dX8_copyOne_7 rfl (lv_at hl 0 rfl) ?_
  refine zz_get hC hZ 0 rfl zf_X8_13 rfl dX8_copyOne_8 ?_
  refine lv_iload_n hx hb dX8_copyOne_11 rfl (lv_at hl 1 rfl) ?_
  refine zz_ialdn hC hZ 2 rfl bd1 (by decide) dX8_copyOne_12 ?_
  refine zz_topi (v := nI dz) (e_d) ?_
  refine lv_aload_n hx hb dX8_copyOne_13 rfl (lv_at hl 0 rfl) ?_
  refine zz_get hC hZ 0 rfl zf_X8_19 rfl dX8_copyOne_14 ?_
  refine lv_iload_n hx hb dX8_copyOne_17 rfl (lv_at hl 1 rfl) ?_
  refine zz_ialdn hC hZ 4 rfl bd1 (by decide) dX8_copyOne_18 ?_
  refine lv_aload_n hx hb dX8_copyOne_19 rfl (lv_at hl 0 rfl) ?_
  refine zz_get hC hZ 0 rfl zf_X8_16 rfl dX8_copyOne_20 ?_
  refine lv_iload_n hx hb dX8_copyOne_23 rfl (lv_at hl 1 rfl) ?_
  refine zz_ialdn hC hZ 3 rfl bd1 (by decide) dX8_copyOne_24 ?_
  refine zz_topi (v := nI lz) (e_l) ?_
  refine zz_iV (As := [.int (kdf a), .int (nI dz), .int (clf a), .int (nI lz)]) (wc := [cw_k7 h0 (nI na) (nI ne) a_kindOf a_depthOf a_lengthOf a_classOf a_baseOf a_bits a_pinned i_code a_lengths a_stackArray a_stackOther a_stackAt i_lastArray i_lastPlace a_path a_held a_alike a_hashes (nI nd) a_decisionArray a_decisionPlace a_candidateMany a_candidates (nI nr) a_ruleSort a_ruleArray a_ruleWeight a_ruleLow a_ruleHigh a_chosen a_bestOf (nI nm) a_markElements a_markBits a_markPins, cw_i g a_kindOf 60 kdf, cw_i g a_depthOf 60 dpf, cw_i g a_lengthOf 60 lnf, cw_i g a_classOf 60 clf, cw_i g a_baseOf 60 saf, cw_l g a_bits 4000 btf, cw_z g a_pinned 4000 pnf]) (wr := []) (rest := []) hC hZ hs hl zc_X8_194 (cm_make g h0 a_kindOf a_depthOf a_lengthOf a_classOf a_baseOf a_bits a_pinned a_lengths a_stackArray a_stackOther a_stackAt a_path a_held a_alike a_hashes a_decisionArray a_decisionPlace a_candidateMany a_candidates a_ruleSort a_ruleArray a_ruleWeight a_ruleLow a_ruleHigh a_chosen a_bestOf a_markElements a_markBits a_markPins na ne nd nr nm i_code i_lastArray i_lastPlace lz kdf dpf lnf clf saf btf pnf (kdf a) (nI dz) (clf a) (by omega) (by omega)) [0, 1, 2, 3, 4, 5, 6, 7] [] rfl rfl (by decide +kernel) (ci := 7) (q0 := 0) rfl rfl rfl rfl (Nat.le_of_ble_eq_true rfl) ⟨⟨Nat.le_of_ble_eq_true rfl, Nat.le_of_ble_eq_true rfl⟩, Nat.le_of_ble_eq_true rfl, Nat.le_of_ble_eq_true rfl⟩ dX8_copyOne_25 (fun r2 u3 H locs hp hZ => ?_)
  obtain ⟨bt2_4, pn2_5, rfl, f6, f7, f8, f9, rfl⟩ := hp
  have hZ : zz_Z g A s.heap [cw_k7 h0 (nI (na + 1)) (nI (ne + lz)) a_kindOf a_depthOf a_lengthOf a_classOf a_baseOf a_bits a_pinned i_code a_lengths a_stackArray a_stackOther a_stackAt i_lastArray i_lastPlace a_path a_held a_alike a_hashes (nI nd) a_decisionArray a_decisionPlace a_candidateMany a_candidates (nI nr) a_ruleSort a_ruleArray a_ruleWeight a_ruleLow a_ruleHigh a_chosen a_bestOf (nI nm) a_markElements a_markBits a_markPins, cw_i g a_kindOf 60 (upd kdf na (kdf a)), cw_i g a_depthOf 60 (upd dpf na (nI dz)), cw_i g a_lengthOf 60 (upd lnf na (nI lz)), cw_i g a_classOf 60 (upd clf na (clf a)), cw_i g a_baseOf 60 (upd saf na (nI ne)), cw_l g a_bits 4000 bt2_4, cw_z g a_pinned 4000 pn2_5] H locs := hZ
  refine lv_istore_n (lv' := [(2, .int (nI na)), (0, .ref h0), (1, .int (nI a))]) hx hb dX8_copyOne_28 rfl hl (by decide) rfl (fun ls hl => ?_)
  refine lv_iconst (v := 0) hx hb dX8_copyOne_29 (by decide) ?_
  refine lv_istore_n (lv' := [(3, .int 0), (2, .int (nI na)), (0, .ref h0), (1, .int (nI a))]) hx hb dX8_copyOne_30 rfl hl (by decide) rfl (fun ls hl => ?_)
  have LP10 : ∀ (N : Nat) (i : Nat) (bt1 : Nat → Int64) (H : Heap) (locs : List Loc) (ls : Array Slot), (i ≤ lz) → (zz_MI (na + 1) (ne + lz) (upd dpf na (nI dz)) (upd saf na (nI ne)) (upd lnf na (nI lz)) bt1) → (∀ j, j < ne → bt1 j = btf j) → (∀ j, bt1 j = if ne ≤ j ∧ j < ne + i then bt2_4 (sz + (j - ne)) else bt2_4 j) → (¬ dz = 1 → i = 0) → (lz - i) < N → zz_Z g A s.heap [cw_k7 h0 (nI (na + 1)) (nI (ne + lz)) a_kindOf a_depthOf a_lengthOf a_classOf a_baseOf a_bits a_pinned i_code a_lengths a_stackArray a_stackOther a_stackAt i_lastArray i_lastPlace a_path a_held a_alike a_hashes (nI nd) a_decisionArray a_decisionPlace a_candidateMany a_candidates (nI nr) a_ruleSort a_ruleArray a_ruleWeight a_ruleLow a_ruleHigh a_chosen a_bestOf (nI nm) a_markElements a_markBits a_markPins, cw_i g a_kindOf 60 (upd kdf na (kdf a)), cw_i g a_depthOf 60 (upd dpf na (nI dz)), cw_i g a_lengthOf 60 (upd lnf na (nI lz)), cw_i g a_classOf 60 (upd clf na (clf a)), cw_i g a_baseOf 60 (upd saf na (nI ne)), cw_l g a_bits 4000 bt1, cw_z g a_pinned 4000 pn2_5] H locs → lv_has ls 4 [(3, .int (nI i)), (2, .int (nI na)), (0, .ref h0), (1, .int (nI a))] → W p l e rm_cm_copyOne s m args below meth c H locs 0 0 (zz_QI below g args s A rm_cm_copyOne.cells rm_cm_copyOne.slots (po_cm_copyOne g h0 a_kindOf a_depthOf a_lengthOf a_classOf a_baseOf a_bits a_pinned a_lengths a_stackArray a_stackOther a_stackAt a_path a_held a_alike a_hashes a_decisionArray a_decisionPlace a_candidateMany a_candidates a_ruleSort a_ruleArray a_ruleWeight a_ruleLow a_ruleHigh a_chosen a_bestOf a_markElements a_markBits a_markPins na ne nd nr nm i_code i_lastArray i_lastPlace kdf dpf lnf clf saf btf pnf a sz lz dz h_a e_s e_l e_d h_M)) (F0 m 31 ls []) := by
    intro N
    induction N with
    | zero =>
      intro i bt1 H locs ls hi hM1 hb1 hcb hz1 hN
      exact absurd hN (Nat.not_lt_zero _)
    | succ N ih =>
      intro i bt1 H locs ls hi hM1 hb1 hcb hz1 hN hZ hl
      refine lv_iload_n hx hb dX8_copyOne_31 rfl (lv_at hl 0 rfl) ?_
      refine lv_aload_n hx hb dX8_copyOne_32 rfl (lv_at hl 2 rfl) ?_
      refine zz_get hC hZ 0 rfl zf_X8_16 rfl dX8_copyOne_33 ?_
      refine lv_iload_n hx hb dX8_copyOne_36 rfl (lv_at hl 3 rfl) ?_
      refine zz_ialdn hC hZ 3 rfl bd1 (by decide) dX8_copyOne_37 ?_
      refine zz_topi (v := nI lz) ((pk_un (by omega)).trans e_l) ?_
      have bd12 : lz < 2 ^ 31 := by omega
      have bd13 : i < 2 ^ 31 := by omega
      refine lv_icmp_ge (tgt := 83) hx hb dX8_copyOne_38 (by decide) (fun c11 => ?_) (fun c11 => ?_)
      · have nc11 : lz ≤ i := (nI_leI bd12 bd13).mp (show nI (lz) ≤ nI (i) from c11)
        refine lv_iload_n hx hb dX8_copyOne_83 rfl (lv_at hl 1 rfl) ?_
        exact zz_iret hC hZ (⟨bt1, pn2_5, rfl, hM1, hb1, by rw [zz_c1, ← f8]; exact zl_c1E (by omega) hz1 hcb, f9, rfl⟩) (Nat.le_of_ble_eq_true rfl) (Nat.le_of_ble_eq_true rfl) dX8_copyOne_84
      · have nc11 : ¬ lz ≤ i := fun zq => c11 (show nI (lz) ≤ nI (i) from (nI_leI bd12 bd13).mpr zq)
        refine lv_aload_n hx hb dX8_copyOne_41 rfl (lv_at hl 2 rfl) ?_
        refine zz_get hC hZ 0 rfl zf_X8_13 rfl dX8_copyOne_42 ?_
        refine lv_iload_n hx hb dX8_copyOne_45 rfl (lv_at hl 3 rfl) ?_
        refine zz_ialdn hC hZ 2 rfl bd1 (by decide) dX8_copyOne_46 ?_
        refine zz_topi (v := nI dz) ((pk_un (by omega)).trans e_d) ?_
        refine lv_iconst (v := 1) hx hb dX8_copyOne_47 (by decide) ?_
        have bd15 : dz < 2 ^ 31 := by omega
        refine lv_icmp_ne (tgt := 83) hx hb dX8_copyOne_48 (by decide) (fun c14 => ?_) (fun c14 => ?_)
        · have nc14 : ¬ dz = 1 := fun zq => c14 (show nI (dz) = nI (1) from (nI_eq bd15 (by decide)).mpr zq)
          refine lv_iload_n hx hb dX8_copyOne_83 rfl (lv_at hl 1 rfl) ?_
          exact zz_iret hC hZ (⟨bt1, pn2_5, rfl, hM1, hb1, by rw [zz_c1, ← f8]; exact zl_c1E (by omega) hz1 hcb, f9, rfl⟩) (Nat.le_of_ble_eq_true rfl) (Nat.le_of_ble_eq_true rfl) dX8_copyOne_84
        · have nc14 : dz = 1 := (nI_eq bd15 (by decide)).mp (show nI (dz) = nI (1) from c14)
          refine lv_aload_n hx hb dX8_copyOne_51 rfl (lv_at hl 2 rfl) ?_
          refine zz_get hC hZ 0 rfl zf_X8_25 rfl dX8_copyOne_52 ?_
          refine lv_aload_n hx hb dX8_copyOne_55 rfl (lv_at hl 2 rfl) ?_
          refine zz_get hC hZ 0 rfl zf_X8_22 rfl dX8_copyOne_56 ?_
          refine lv_iload_n hx hb dX8_copyOne_59 rfl (lv_at hl 1 rfl) ?_
          have bd16 : na < 60 := by omega
          refine zz_ialdn hC hZ 5 rfl bd16 (by decide) dX8_copyOne_60 ?_
          refine zz_topi (v := nI ne) (pk_us) ?_
          refine lv_iload_n hx hb dX8_copyOne_61 rfl (lv_at hl 0 rfl) ?_
          refine lv_iadd hx hb dX8_copyOne_62 ?_
          refine zz_topi (v := nI (ne + i)) (nI_add _ _) ?_
          refine lv_aload_n hx hb dX8_copyOne_63 rfl (lv_at hl 2 rfl) ?_
          refine zz_get hC hZ 0 rfl zf_X8_25 rfl dX8_copyOne_64 ?_
          refine lv_aload_n hx hb dX8_copyOne_67 rfl (lv_at hl 2 rfl) ?_
          refine zz_get hC hZ 0 rfl zf_X8_22 rfl dX8_copyOne_68 ?_
          refine lv_iload_n hx hb dX8_copyOne_71 rfl (lv_at hl 3 rfl) ?_
          refine zz_ialdn hC hZ 5 rfl bd1 (by decide) dX8_copyOne_72 ?_
          refine zz_topi (v := nI sz) ((pk_un (by omega)).trans e_s) ?_
          refine lv_iload_n hx hb dX8_copyOne_73 rfl (lv_at hl 0 rfl) ?_
          refine lv_iadd hx hb dX8_copyOne_74 ?_
          refine zz_topi (v := nI (sz + i)) (nI_add _ _) ?_
          have bd17 : (sz + i) < 4000 := by omega
          refine zz_laldn hC hZ 6 rfl bd17 (by decide) dX8_copyOne_75 ?_
          have bd18 : (ne + i) < 4000 := by omega
          refine zz_lastn hC hZ 6 rfl bd18 (by decide) dX8_copyOne_76 (fun H locs hZ => ?_)
          have hZ : zz_Z g A s.heap [cw_k7 h0 (nI (na + 1)) (nI (ne + lz)) a_kindOf a_depthOf a_lengthOf a_classOf a_baseOf a_bits a_pinned i_code a_lengths a_stackArray a_stackOther a_stackAt i_lastArray i_lastPlace a_path a_held a_alike a_hashes (nI nd) a_decisionArray a_decisionPlace a_candidateMany a_candidates (nI nr) a_ruleSort a_ruleArray a_ruleWeight a_ruleLow a_ruleHigh a_chosen a_bestOf (nI nm) a_markElements a_markBits a_markPins, cw_i g a_kindOf 60 (upd kdf na (kdf a)), cw_i g a_depthOf 60 (upd dpf na (nI dz)), cw_i g a_lengthOf 60 (upd lnf na (nI lz)), cw_i g a_classOf 60 (upd clf na (clf a)), cw_i g a_baseOf 60 (upd saf na (nI ne)), cw_l g a_bits 4000 (vp_updL bt1 (ne + i) (bt1 (sz + i))), cw_z g a_pinned 4000 pn2_5] H locs := hZ
          refine lv_iinc (v := nI (i + 1)) (lv' := [(3, .int (nI (i + 1))), (2, .int (nI na)), (0, .ref h0), (1, .int (nI a))]) hx hb dX8_copyOne_77 hl (k := 0) rfl (nI_1 _) (by decide) rfl (fun ls hl => ?_)
          refine lv_goto (tgt := 31) hx hb dX8_copyOne_80 (by decide) ?_
          exact ih (i + 1) (vp_updL bt1 (ne + i) (bt1 (sz + i))) H locs ls (by omega) (zl_set hM1 (show na < na + 1 by omega) pk_us pk_us pk_us (by omega) (by omega) (by omega) (show i < lz by omega) (fun hz => absurd hz (by omega))) (fun j hj => (pk_uLn (by omega)).trans (hb1 j hj)) (zl_cpS (by omega) hcb) (fun z => absurd (show dz = 1 by omega) z) (by omega) hZ (lv_sub hl [0, 1, 2, 3] rfl)
  exact LP10 _ 0 bt2_4 H locs ls (by omega) (zl_make h_M (by omega) (by omega) (by omega) ⟨by omega, by omega⟩ f6 (zl_mk1 (by omega) f7)) (f6) (fun j => (if_neg (by omega)).symm) (fun _ => rfl) (Nat.lt_succ_self _) hZ (lv_sub hl [0, 1, 2, 3] rfl)
