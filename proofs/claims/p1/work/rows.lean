section
-- ===== PART A: goes FIRST, ahead of the names: the tables' words, and 'selects' of the private methods out of them =====
/-- a private method of a class that the tables say can be made, by its rows of tables_1 -/
def lw_okq (q : MethodName × Nat) : Prop := (q.1.cls ≠ "java/lang/invoke/MethodHandle" ∧ q.1.cls ≠ "java/lang/invoke/VarHandle") ∧ Cond.instantiable q.1.cls q.2 ∈ tables_1 ∧ Cond.privateMethod q.1 ∈ tables_1 ∧ Cond.instanceMethod q.1 ∈ tables_1
theorem lw_p0 : lw_okq (⟨"DecisionArrays", "fail", "(I)I"⟩, 8) := ⟨⟨by decide +kernel, by decide +kernel⟩, List.mem_of_getElem? (i := 13) (by decide +kernel), List.mem_of_getElem? (i := 233) (by decide +kernel), List.mem_of_getElem? (i := 234) (by decide +kernel)⟩
theorem lw_p1 : lw_okq (⟨"DecisionArrays", "newArray", "(IIII)I"⟩, 8) := ⟨⟨by decide +kernel, by decide +kernel⟩, List.mem_of_getElem? (i := 13) (by decide +kernel), List.mem_of_getElem? (i := 237) (by decide +kernel), List.mem_of_getElem? (i := 238) (by decide +kernel)⟩
theorem lw_p2 : lw_okq (⟨"DecisionArrays", "fine", "(I)I"⟩, 8) := ⟨⟨by decide +kernel, by decide +kernel⟩, List.mem_of_getElem? (i := 13) (by decide +kernel), List.mem_of_getElem? (i := 252) (by decide +kernel), List.mem_of_getElem? (i := 253) (by decide +kernel)⟩
theorem lw_p3 : lw_okq (⟨"DecisionArrays$Maker", "gridAt", "(III)I"⟩, 4) := ⟨⟨by decide +kernel, by decide +kernel⟩, List.mem_of_getElem? (i := 91) (by decide +kernel), List.mem_of_getElem? (i := 289) (by decide +kernel), List.mem_of_getElem? (i := 290) (by decide +kernel)⟩
theorem lw_p4 : lw_okq (⟨"DecisionArrays", "rowCode", "(II)I"⟩, 8) := ⟨⟨by decide +kernel, by decide +kernel⟩, List.mem_of_getElem? (i := 13) (by decide +kernel), List.mem_of_getElem? (i := 310) (by decide +kernel), List.mem_of_getElem? (i := 311) (by decide +kernel)⟩
theorem lw_p5 : lw_okq (⟨"DecisionArrays", "noBits", "(I)J"⟩, 8) := ⟨⟨by decide +kernel, by decide +kernel⟩, List.mem_of_getElem? (i := 13) (by decide +kernel), List.mem_of_getElem? (i := 330) (by decide +kernel), List.mem_of_getElem? (i := 331) (by decide +kernel)⟩
theorem lw_p6 : lw_okq (⟨"DecisionArrays$Maker", "plan", "(II)V"⟩, 4) := ⟨⟨by decide +kernel, by decide +kernel⟩, List.mem_of_getElem? (i := 91) (by decide +kernel), List.mem_of_getElem? (i := 456) (by decide +kernel), List.mem_of_getElem? (i := 457) (by decide +kernel)⟩
theorem lw_p7 : lw_okq (⟨"DecisionArrays$Maker", "twinAt", "(II)I"⟩, 4) := ⟨⟨by decide +kernel, by decide +kernel⟩, List.mem_of_getElem? (i := 91) (by decide +kernel), List.mem_of_getElem? (i := 465) (by decide +kernel), List.mem_of_getElem? (i := 466) (by decide +kernel)⟩
theorem lw_p8 : lw_okq (⟨"DecisionArrays$Store", "insert", "(III)V"⟩, 10) := ⟨⟨by decide +kernel, by decide +kernel⟩, List.mem_of_getElem? (i := 21) (by decide +kernel), List.mem_of_getElem? (i := 479) (by decide +kernel), List.mem_of_getElem? (i := 480) (by decide +kernel)⟩
theorem lw_p9 : lw_okq (⟨"DecisionArrays$Likeness", "agreeAt", "(III)Z"⟩, 5) := ⟨⟨by decide +kernel, by decide +kernel⟩, List.mem_of_getElem? (i := 110) (by decide +kernel), List.mem_of_getElem? (i := 502) (by decide +kernel), List.mem_of_getElem? (i := 503) (by decide +kernel)⟩
theorem lw_p10 : lw_okq (⟨"DecisionArrays$Likeness", "sameShape", "(II)Z"⟩, 5) := ⟨⟨by decide +kernel, by decide +kernel⟩, List.mem_of_getElem? (i := 110) (by decide +kernel), List.mem_of_getElem? (i := 506) (by decide +kernel), List.mem_of_getElem? (i := 507) (by decide +kernel)⟩
theorem lw_p11 : lw_okq (⟨"DecisionArrays$Likeness", "rowsAgree", "(III)Z"⟩, 5) := ⟨⟨by decide +kernel, by decide +kernel⟩, List.mem_of_getElem? (i := 110) (by decide +kernel), List.mem_of_getElem? (i := 510) (by decide +kernel), List.mem_of_getElem? (i := 511) (by decide +kernel)⟩
theorem lw_p12 : lw_okq (⟨"DecisionArrays$Likeness", "digestAt", "(II)I"⟩, 5) := ⟨⟨by decide +kernel, by decide +kernel⟩, List.mem_of_getElem? (i := 110) (by decide +kernel), List.mem_of_getElem? (i := 523) (by decide +kernel), List.mem_of_getElem? (i := 524) (by decide +kernel)⟩
theorem lw_p13 : lw_okq (⟨"DecisionArrays$Rules", "shareOf", "(II)J"⟩, 9) := ⟨⟨by decide +kernel, by decide +kernel⟩, List.mem_of_getElem? (i := 164) (by decide +kernel), List.mem_of_getElem? (i := 617) (by decide +kernel), List.mem_of_getElem? (i := 618) (by decide +kernel)⟩
theorem lw_p14 : lw_okq (⟨"DecisionArrays$Rules", "alikeIn", "(IJII)J"⟩, 9) := ⟨⟨by decide +kernel, by decide +kernel⟩, List.mem_of_getElem? (i := 164) (by decide +kernel), List.mem_of_getElem? (i := 630) (by decide +kernel), List.mem_of_getElem? (i := 631) (by decide +kernel)⟩
theorem lw_p15 : lw_okq (⟨"DecisionArrays$Choices", "isFree", "(I)Z"⟩, 7) := ⟨⟨by decide +kernel, by decide +kernel⟩, List.mem_of_getElem? (i := 132) (by decide +kernel), List.mem_of_getElem? (i := 671) (by decide +kernel), List.mem_of_getElem? (i := 672) (by decide +kernel)⟩
def lw_privs_1 : List (MethodName × Nat) := [(⟨"DecisionArrays", "fail", "(I)I"⟩, 8), (⟨"DecisionArrays", "newArray", "(IIII)I"⟩, 8), (⟨"DecisionArrays", "fine", "(I)I"⟩, 8), (⟨"DecisionArrays$Maker", "gridAt", "(III)I"⟩, 4), (⟨"DecisionArrays", "rowCode", "(II)I"⟩, 8), (⟨"DecisionArrays", "noBits", "(I)J"⟩, 8), (⟨"DecisionArrays$Maker", "plan", "(II)V"⟩, 4), (⟨"DecisionArrays$Maker", "twinAt", "(II)I"⟩, 4), (⟨"DecisionArrays$Store", "insert", "(III)V"⟩, 10), (⟨"DecisionArrays$Likeness", "agreeAt", "(III)Z"⟩, 5), (⟨"DecisionArrays$Likeness", "sameShape", "(II)Z"⟩, 5), (⟨"DecisionArrays$Likeness", "rowsAgree", "(III)Z"⟩, 5), (⟨"DecisionArrays$Likeness", "digestAt", "(II)I"⟩, 5), (⟨"DecisionArrays$Rules", "shareOf", "(II)J"⟩, 9), (⟨"DecisionArrays$Rules", "alikeIn", "(IJII)J"⟩, 9), (⟨"DecisionArrays$Choices", "isFree", "(I)Z"⟩, 7)]
theorem lw_r1 : ∀ q ∈ lw_privs_1, lw_okq q := List.forall_mem_cons.mpr ⟨lw_p0, List.forall_mem_cons.mpr ⟨lw_p1, List.forall_mem_cons.mpr ⟨lw_p2, List.forall_mem_cons.mpr ⟨lw_p3, List.forall_mem_cons.mpr ⟨lw_p4, List.forall_mem_cons.mpr ⟨lw_p5, List.forall_mem_cons.mpr ⟨lw_p6, List.forall_mem_cons.mpr ⟨lw_p7, List.forall_mem_cons.mpr ⟨lw_p8, List.forall_mem_cons.mpr ⟨lw_p9, List.forall_mem_cons.mpr ⟨lw_p10, List.forall_mem_cons.mpr ⟨lw_p11, List.forall_mem_cons.mpr ⟨lw_p12, List.forall_mem_cons.mpr ⟨lw_p13, List.forall_mem_cons.mpr ⟨lw_p14, List.forall_mem_cons.mpr ⟨lw_p15, fun _ h => absurd h List.not_mem_nil⟩⟩⟩⟩⟩⟩⟩⟩⟩⟩⟩⟩⟩⟩⟩⟩
theorem lw_p16 : lw_okq (⟨"DecisionArrays$Rules", "bearingOf", "(II)J"⟩, 9) := ⟨⟨by decide +kernel, by decide +kernel⟩, List.mem_of_getElem? (i := 164) (by decide +kernel), List.mem_of_getElem? (i := 687) (by decide +kernel), List.mem_of_getElem? (i := 688) (by decide +kernel)⟩
theorem lw_p17 : lw_okq (⟨"DecisionArrays$Rules", "adjust", "(IJJ)V"⟩, 9) := ⟨⟨by decide +kernel, by decide +kernel⟩, List.mem_of_getElem? (i := 164) (by decide +kernel), List.mem_of_getElem? (i := 691) (by decide +kernel), List.mem_of_getElem? (i := 692) (by decide +kernel)⟩
theorem lw_p18 : lw_okq (⟨"DecisionArraysModel", "fails", "(I)I"⟩, 37) := ⟨⟨by decide +kernel, by decide +kernel⟩, List.mem_of_getElem? (i := 730) (by decide +kernel), List.mem_of_getElem? (i := 856) (by decide +kernel), List.mem_of_getElem? (i := 857) (by decide +kernel)⟩
theorem lw_p19 : lw_okq (⟨"DecisionArraysModel", "fine", "(I)I"⟩, 37) := ⟨⟨by decide +kernel, by decide +kernel⟩, List.mem_of_getElem? (i := 730) (by decide +kernel), List.mem_of_getElem? (i := 863) (by decide +kernel), List.mem_of_getElem? (i := 864) (by decide +kernel)⟩
theorem lw_p20 : lw_okq (⟨"DecisionArraysModel", "isRoom", "(IJ)Z"⟩, 37) := ⟨⟨by decide +kernel, by decide +kernel⟩, List.mem_of_getElem? (i := 730) (by decide +kernel), List.mem_of_getElem? (i := 875) (by decide +kernel), List.mem_of_getElem? (i := 876) (by decide +kernel)⟩
theorem lw_p21 : lw_okq (⟨"DecisionArraysModel", "make", "(IIII)I"⟩, 37) := ⟨⟨by decide +kernel, by decide +kernel⟩, List.mem_of_getElem? (i := 730) (by decide +kernel), List.mem_of_getElem? (i := 880) (by decide +kernel), List.mem_of_getElem? (i := 881) (by decide +kernel)⟩
theorem lw_p22 : lw_okq (⟨"DecisionArraysModel", "isArray", "(I)Z"⟩, 37) := ⟨⟨by decide +kernel, by decide +kernel⟩, List.mem_of_getElem? (i := 730) (by decide +kernel), List.mem_of_getElem? (i := 894) (by decide +kernel), List.mem_of_getElem? (i := 895) (by decide +kernel)⟩
theorem lw_p23 : lw_okq (⟨"DecisionArraysModel", "follow", "(IIIII)I"⟩, 37) := ⟨⟨by decide +kernel, by decide +kernel⟩, List.mem_of_getElem? (i := 730) (by decide +kernel), List.mem_of_getElem? (i := 922) (by decide +kernel), List.mem_of_getElem? (i := 923) (by decide +kernel)⟩
theorem lw_p24 : lw_okq (⟨"DecisionArraysModel", "here", "()I"⟩, 37) := ⟨⟨by decide +kernel, by decide +kernel⟩, List.mem_of_getElem? (i := 730) (by decide +kernel), List.mem_of_getElem? (i := 926) (by decide +kernel), List.mem_of_getElem? (i := 927) (by decide +kernel)⟩
theorem lw_p25 : lw_okq (⟨"DecisionArraysModel", "takes", "(IJ)Z"⟩, 37) := ⟨⟨by decide +kernel, by decide +kernel⟩, List.mem_of_getElem? (i := 730) (by decide +kernel), List.mem_of_getElem? (i := 970) (by decide +kernel), List.mem_of_getElem? (i := 971) (by decide +kernel)⟩
theorem lw_p26 : lw_okq (⟨"DecisionArraysModel", "copyOne", "(I)I"⟩, 37) := ⟨⟨by decide +kernel, by decide +kernel⟩, List.mem_of_getElem? (i := 730) (by decide +kernel), List.mem_of_getElem? (i := 1002) (by decide +kernel), List.mem_of_getElem? (i := 1003) (by decide +kernel)⟩
theorem lw_p27 : lw_okq (⟨"DecisionArraysModel", "isSame", "(II)Z"⟩, 37) := ⟨⟨by decide +kernel, by decide +kernel⟩, List.mem_of_getElem? (i := 730) (by decide +kernel), List.mem_of_getElem? (i := 1021) (by decide +kernel), List.mem_of_getElem? (i := 1022) (by decide +kernel)⟩
theorem lw_p28 : lw_okq (⟨"DecisionArraysModel", "hashOf", "(I)I"⟩, 37) := ⟨⟨by decide +kernel, by decide +kernel⟩, List.mem_of_getElem? (i := 730) (by decide +kernel), List.mem_of_getElem? (i := 1029) (by decide +kernel), List.mem_of_getElem? (i := 1030) (by decide +kernel)⟩
theorem lw_p29 : lw_okq (⟨"DecisionArraysModel", "isDecision", "(I)Z"⟩, 37) := ⟨⟨by decide +kernel, by decide +kernel⟩, List.mem_of_getElem? (i := 730) (by decide +kernel), List.mem_of_getElem? (i := 1041) (by decide +kernel), List.mem_of_getElem? (i := 1042) (by decide +kernel)⟩
theorem lw_p30 : lw_okq (⟨"DecisionArraysModel", "candidateAt", "(IJ)I"⟩, 37) := ⟨⟨by decide +kernel, by decide +kernel⟩, List.mem_of_getElem? (i := 730) (by decide +kernel), List.mem_of_getElem? (i := 1045) (by decide +kernel), List.mem_of_getElem? (i := 1046) (by decide +kernel)⟩
theorem lw_p31 : lw_okq (⟨"DecisionArraysModel", "elementOf", "(I)I"⟩, 37) := ⟨⟨by decide +kernel, by decide +kernel⟩, List.mem_of_getElem? (i := 730) (by decide +kernel), List.mem_of_getElem? (i := 1057) (by decide +kernel), List.mem_of_getElem? (i := 1058) (by decide +kernel)⟩
def lw_privs_2 : List (MethodName × Nat) := [(⟨"DecisionArrays$Rules", "bearingOf", "(II)J"⟩, 9), (⟨"DecisionArrays$Rules", "adjust", "(IJJ)V"⟩, 9), (⟨"DecisionArraysModel", "fails", "(I)I"⟩, 37), (⟨"DecisionArraysModel", "fine", "(I)I"⟩, 37), (⟨"DecisionArraysModel", "isRoom", "(IJ)Z"⟩, 37), (⟨"DecisionArraysModel", "make", "(IIII)I"⟩, 37), (⟨"DecisionArraysModel", "isArray", "(I)Z"⟩, 37), (⟨"DecisionArraysModel", "follow", "(IIIII)I"⟩, 37), (⟨"DecisionArraysModel", "here", "()I"⟩, 37), (⟨"DecisionArraysModel", "takes", "(IJ)Z"⟩, 37), (⟨"DecisionArraysModel", "copyOne", "(I)I"⟩, 37), (⟨"DecisionArraysModel", "isSame", "(II)Z"⟩, 37), (⟨"DecisionArraysModel", "hashOf", "(I)I"⟩, 37), (⟨"DecisionArraysModel", "isDecision", "(I)Z"⟩, 37), (⟨"DecisionArraysModel", "candidateAt", "(IJ)I"⟩, 37), (⟨"DecisionArraysModel", "elementOf", "(I)I"⟩, 37)]
theorem lw_r2 : ∀ q ∈ lw_privs_2, lw_okq q := List.forall_mem_cons.mpr ⟨lw_p16, List.forall_mem_cons.mpr ⟨lw_p17, List.forall_mem_cons.mpr ⟨lw_p18, List.forall_mem_cons.mpr ⟨lw_p19, List.forall_mem_cons.mpr ⟨lw_p20, List.forall_mem_cons.mpr ⟨lw_p21, List.forall_mem_cons.mpr ⟨lw_p22, List.forall_mem_cons.mpr ⟨lw_p23, List.forall_mem_cons.mpr ⟨lw_p24, List.forall_mem_cons.mpr ⟨lw_p25, List.forall_mem_cons.mpr ⟨lw_p26, List.forall_mem_cons.mpr ⟨lw_p27, List.forall_mem_cons.mpr ⟨lw_p28, List.forall_mem_cons.mpr ⟨lw_p29, List.forall_mem_cons.mpr ⟨lw_p30, List.forall_mem_cons.mpr ⟨lw_p31, fun _ h => absurd h List.not_mem_nil⟩⟩⟩⟩⟩⟩⟩⟩⟩⟩⟩⟩⟩⟩⟩⟩
theorem lw_p32 : lw_okq (⟨"DecisionArraysModel", "amountOf", "(I)J"⟩, 37) := ⟨⟨by decide +kernel, by decide +kernel⟩, List.mem_of_getElem? (i := 730) (by decide +kernel), List.mem_of_getElem? (i := 1079) (by decide +kernel), List.mem_of_getElem? (i := 1080) (by decide +kernel)⟩
theorem lw_p33 : lw_okq (⟨"DecisionArraysModel", "ways", "()I"⟩, 37) := ⟨⟨by decide +kernel, by decide +kernel⟩, List.mem_of_getElem? (i := 730) (by decide +kernel), List.mem_of_getElem? (i := 1107) (by decide +kernel), List.mem_of_getElem? (i := 1108) (by decide +kernel)⟩
theorem lw_p34 : lw_okq (⟨"DecisionArraysModel", "choices", "(I)I"⟩, 37) := ⟨⟨by decide +kernel, by decide +kernel⟩, List.mem_of_getElem? (i := 730) (by decide +kernel), List.mem_of_getElem? (i := 1111) (by decide +kernel), List.mem_of_getElem? (i := 1112) (by decide +kernel)⟩
theorem lw_p35 : lw_okq (⟨"DecisionArraysModel", "lay", "(II)V"⟩, 37) := ⟨⟨by decide +kernel, by decide +kernel⟩, List.mem_of_getElem? (i := 730) (by decide +kernel), List.mem_of_getElem? (i := 1117) (by decide +kernel), List.mem_of_getElem? (i := 1118) (by decide +kernel)⟩
def lw_privs_3 : List (MethodName × Nat) := [(⟨"DecisionArraysModel", "amountOf", "(I)J"⟩, 37), (⟨"DecisionArraysModel", "ways", "()I"⟩, 37), (⟨"DecisionArraysModel", "choices", "(I)I"⟩, 37), (⟨"DecisionArraysModel", "lay", "(II)V"⟩, 37)]
theorem lw_r3 : ∀ q ∈ lw_privs_3, lw_okq q := List.forall_mem_cons.mpr ⟨lw_p32, List.forall_mem_cons.mpr ⟨lw_p33, List.forall_mem_cons.mpr ⟨lw_p34, List.forall_mem_cons.mpr ⟨lw_p35, fun _ h => absurd h List.not_mem_nil⟩⟩⟩⟩
def lw_privs : List (MethodName × Nat) := lw_privs_1 ++ (lw_privs_2 ++ (lw_privs_3))
def lw_tbl : List Cond := k2_sels lw_privs ++ tables_1
theorem lw_privs_ok : ∀ q ∈ lw_privs, lw_okq q := by
  show ∀ q ∈ lw_privs_1 ++ (lw_privs_2 ++ (lw_privs_3)), lw_okq q
  exact List.forall_mem_append.mpr ⟨lw_r1, List.forall_mem_append.mpr ⟨lw_r2, lw_r3⟩⟩

def RX0 : String := "DecisionArrays$Choices"
def TX0 : u_T := fun k => match k with
  | 0 => ("DecisionArrays$Choices", "store", "LDecisionArrays$Store;", true)
  | 1 => ("DecisionArrays$Choices", "made", "I", false)
  | 2 => ("DecisionArrays$Choices", "places", "[I", true)
  | 3 => ("DecisionArrays$Choices", "slots", "[I", true)
  | 4 => ("DecisionArrays$Choices", "counts", "[I", true)
  | 5 => ("DecisionArrays$Choices", "candidates", "[J", true)
  | _ => ("DecisionArrays$Choices", "turns", "[I", true)
def tyX0 : Nat → FieldType := fun k => match k with
  | 0 => .object "DecisionArrays$Store"
  | 1 => .int
  | 2 => .array .int
  | 3 => .array .int
  | 4 => .array .int
  | 5 => .array .long
  | _ => .array .int
theorem nmX0 : ∀ a, a < 7 → ∀ b, b < 7 → a ≠ b → (TX0 a).2.1 ≠ (TX0 b).2.1 := by decide +kernel
theorem tyX0_ok : ∀ k, k < 7 → parseFieldDescriptor (TX0 k).2.2.1 = some (tyX0 k) := by decide +kernel
def RX2 : String := "DecisionArrays$Likeness"
def TX2 : u_T := fun k => match k with
  | 0 => ("DecisionArrays$Likeness", "store", "LDecisionArrays$Store;", true)
  | 1 => ("DecisionArrays$Likeness", "round", "I", false)
  | 2 => ("DecisionArrays$Likeness", "agreed", "[I", true)
  | 3 => ("DecisionArrays$Likeness", "digested", "[I", true)
  | _ => ("DecisionArrays$Likeness", "digests", "[I", true)
def tyX2 : Nat → FieldType := fun k => match k with
  | 0 => .object "DecisionArrays$Store"
  | 1 => .int
  | 2 => .array .int
  | 3 => .array .int
  | _ => .array .int
theorem nmX2 : ∀ a, a < 5 → ∀ b, b < 5 → a ≠ b → (TX2 a).2.1 ≠ (TX2 b).2.1 := by decide +kernel
theorem tyX2_ok : ∀ k, k < 5 → parseFieldDescriptor (TX2 k).2.2.1 = some (tyX2 k) := by decide +kernel
def RX3 : String := "DecisionArrays$Maker"
def TX3 : u_T := fun k => match k with
  | 0 => ("DecisionArrays$Maker", "store", "LDecisionArrays$Store;", true)
  | 1 => ("DecisionArrays$Maker", "lengths", "[I", true)
  | 2 => ("DecisionArrays$Maker", "planArrays", "I", false)
  | _ => ("DecisionArrays$Maker", "planElements", "I", false)
def tyX3 : Nat → FieldType := fun k => match k with
  | 0 => .object "DecisionArrays$Store"
  | 1 => .array .int
  | 2 => .int
  | _ => .int
theorem nmX3 : ∀ a, a < 4 → ∀ b, b < 4 → a ≠ b → (TX3 a).2.1 ≠ (TX3 b).2.1 := by decide +kernel
theorem tyX3_ok : ∀ k, k < 4 → parseFieldDescriptor (TX3 k).2.2.1 = some (tyX3 k) := by decide +kernel
def RX4 : String := "DecisionArrays$Mark"
def TX4 : u_T := fun k => match k with
  | 0 => ("DecisionArrays$Mark", "bits", "[J", true)
  | 1 => ("DecisionArrays$Mark", "pinned", "[Z", true)
  | _ => ("DecisionArrays$Mark", "used", "I", false)
def tyX4 : Nat → FieldType := fun k => match k with
  | 0 => .array .long
  | 1 => .array .boolean
  | _ => .int
theorem nmX4 : ∀ a, a < 3 → ∀ b, b < 3 → a ≠ b → (TX4 a).2.1 ≠ (TX4 b).2.1 := by decide +kernel
theorem tyX4_ok : ∀ k, k < 3 → parseFieldDescriptor (TX4 k).2.2.1 = some (tyX4 k) := by decide +kernel
def RX5 : String := "DecisionArrays$Rules"
def TX5 : u_T := fun k => match k with
  | 0 => ("DecisionArrays$Rules", "store", "LDecisionArrays$Store;", true)
  | 1 => ("DecisionArrays$Rules", "made", "I", false)
  | 2 => ("DecisionArrays$Rules", "sorts", "[I", true)
  | 3 => ("DecisionArrays$Rules", "judged", "[I", true)
  | 4 => ("DecisionArrays$Rules", "weights", "[I", true)
  | 5 => ("DecisionArrays$Rules", "lows", "[J", true)
  | 6 => ("DecisionArrays$Rules", "highs", "[J", true)
  | 7 => ("DecisionArrays$Rules", "tallies", "[J", true)
  | _ => ("DecisionArrays$Rules", "borne", "[J", true)
def tyX5 : Nat → FieldType := fun k => match k with
  | 0 => .object "DecisionArrays$Store"
  | 1 => .int
  | 2 => .array .int
  | 3 => .array .int
  | 4 => .array .int
  | 5 => .array .long
  | 6 => .array .long
  | 7 => .array .long
  | _ => .array .long
theorem nmX5 : ∀ a, a < 9 → ∀ b, b < 9 → a ≠ b → (TX5 a).2.1 ≠ (TX5 b).2.1 := by decide +kernel
theorem tyX5_ok : ∀ k, k < 9 → parseFieldDescriptor (TX5 k).2.2.1 = some (tyX5 k) := by decide +kernel
def RX6 : String := "DecisionArrays$Store"
def TX6 : u_T := fun k => match k with
  | 0 => ("DecisionArrays$Store", "arrays", "I", false)
  | 1 => ("DecisionArrays$Store", "used", "I", false)
  | 2 => ("DecisionArrays$Store", "kind", "[I", true)
  | 3 => ("DecisionArrays$Store", "depth", "[I", true)
  | 4 => ("DecisionArrays$Store", "cls", "[I", true)
  | 5 => ("DecisionArrays$Store", "start", "[I", true)
  | 6 => ("DecisionArrays$Store", "length", "[I", true)
  | 7 => ("DecisionArrays$Store", "bits", "[J", true)
  | 8 => ("DecisionArrays$Store", "pinned", "[Z", true)
  | _ => ("DecisionArrays$Store", "before", "[J", true)
def tyX6 : Nat → FieldType := fun k => match k with
  | 0 => .int
  | 1 => .int
  | 2 => .array .int
  | 3 => .array .int
  | 4 => .array .int
  | 5 => .array .int
  | 6 => .array .int
  | 7 => .array .long
  | 8 => .array .boolean
  | _ => .array .long
theorem nmX6 : ∀ a, a < 10 → ∀ b, b < 10 → a ≠ b → (TX6 a).2.1 ≠ (TX6 b).2.1 := by decide +kernel
theorem tyX6_ok : ∀ k, k < 10 → parseFieldDescriptor (TX6 k).2.2.1 = some (tyX6 k) := by decide +kernel
def RX7 : String := "DecisionArrays"
def TX7 : u_T := fun k => match k with
  | 0 => ("DecisionArrays", "store", "LDecisionArrays$Store;", true)
  | 1 => ("DecisionArrays", "maker", "LDecisionArrays$Maker;", true)
  | 2 => ("DecisionArrays", "likeness", "LDecisionArrays$Likeness;", true)
  | 3 => ("DecisionArrays", "choices", "LDecisionArrays$Choices;", true)
  | 4 => ("DecisionArrays", "rules", "LDecisionArrays$Rules;", true)
  | 5 => ("DecisionArrays", "marks", "[LDecisionArrays$Mark;", true)
  | 6 => ("DecisionArrays", "marked", "I", false)
  | _ => ("DecisionArrays", "latest", "I", false)
def tyX7 : Nat → FieldType := fun k => match k with
  | 0 => .object "DecisionArrays$Store"
  | 1 => .object "DecisionArrays$Maker"
  | 2 => .object "DecisionArrays$Likeness"
  | 3 => .object "DecisionArrays$Choices"
  | 4 => .object "DecisionArrays$Rules"
  | 5 => .array (.object "DecisionArrays$Mark")
  | 6 => .int
  | _ => .int
theorem nmX7 : ∀ a, a < 8 → ∀ b, b < 8 → a ≠ b → (TX7 a).2.1 ≠ (TX7 b).2.1 := by decide +kernel
theorem tyX7_ok : ∀ k, k < 8 → parseFieldDescriptor (TX7 k).2.2.1 = some (tyX7 k) := by decide +kernel
def RX8 : String := "DecisionArraysModel"
def TX8 : u_T := fun k => match k with
  | 0 => ("DecisionArraysModel", "arrays", "I", false)
  | 1 => ("DecisionArraysModel", "elements", "I", false)
  | 2 => ("DecisionArraysModel", "kindOf", "[I", true)
  | 3 => ("DecisionArraysModel", "depthOf", "[I", true)
  | 4 => ("DecisionArraysModel", "lengthOf", "[I", true)
  | 5 => ("DecisionArraysModel", "classOf", "[I", true)
  | 6 => ("DecisionArraysModel", "baseOf", "[I", true)
  | 7 => ("DecisionArraysModel", "bits", "[J", true)
  | 8 => ("DecisionArraysModel", "pinned", "[Z", true)
  | 9 => ("DecisionArraysModel", "code", "I", false)
  | 10 => ("DecisionArraysModel", "lengths", "[I", true)
  | 11 => ("DecisionArraysModel", "stackArray", "[I", true)
  | 12 => ("DecisionArraysModel", "stackOther", "[I", true)
  | 13 => ("DecisionArraysModel", "stackAt", "[I", true)
  | 14 => ("DecisionArraysModel", "lastArray", "I", false)
  | 15 => ("DecisionArraysModel", "lastPlace", "I", false)
  | 16 => ("DecisionArraysModel", "path", "[I", true)
  | 17 => ("DecisionArraysModel", "held", "[J", true)
  | 18 => ("DecisionArraysModel", "alike", "[Z", true)
  | 19 => ("DecisionArraysModel", "hashes", "[I", true)
  | 20 => ("DecisionArraysModel", "decisions", "I", false)
  | 21 => ("DecisionArraysModel", "decisionArray", "[I", true)
  | 22 => ("DecisionArraysModel", "decisionPlace", "[I", true)
  | 23 => ("DecisionArraysModel", "candidateMany", "[I", true)
  | 24 => ("DecisionArraysModel", "candidates", "[J", true)
  | 25 => ("DecisionArraysModel", "rules", "I", false)
  | 26 => ("DecisionArraysModel", "ruleSort", "[I", true)
  | 27 => ("DecisionArraysModel", "ruleArray", "[I", true)
  | 28 => ("DecisionArraysModel", "ruleWeight", "[I", true)
  | 29 => ("DecisionArraysModel", "ruleLow", "[J", true)
  | 30 => ("DecisionArraysModel", "ruleHigh", "[J", true)
  | 31 => ("DecisionArraysModel", "chosen", "[I", true)
  | 32 => ("DecisionArraysModel", "bestOf", "[I", true)
  | 33 => ("DecisionArraysModel", "marks", "I", false)
  | 34 => ("DecisionArraysModel", "markElements", "[I", true)
  | 35 => ("DecisionArraysModel", "markBits", "[J", true)
  | _ => ("DecisionArraysModel", "markPins", "[Z", true)
def tyX8 : Nat → FieldType := fun k => match k with
  | 0 => .int
  | 1 => .int
  | 2 => .array .int
  | 3 => .array .int
  | 4 => .array .int
  | 5 => .array .int
  | 6 => .array .int
  | 7 => .array .long
  | 8 => .array .boolean
  | 9 => .int
  | 10 => .array .int
  | 11 => .array .int
  | 12 => .array .int
  | 13 => .array .int
  | 14 => .int
  | 15 => .int
  | 16 => .array .int
  | 17 => .array .long
  | 18 => .array .boolean
  | 19 => .array .int
  | 20 => .int
  | 21 => .array .int
  | 22 => .array .int
  | 23 => .array .int
  | 24 => .array .long
  | 25 => .int
  | 26 => .array .int
  | 27 => .array .int
  | 28 => .array .int
  | 29 => .array .long
  | 30 => .array .long
  | 31 => .array .int
  | 32 => .array .int
  | 33 => .int
  | 34 => .array .int
  | 35 => .array .long
  | _ => .array .boolean
theorem nmX8 : ∀ a, a < 37 → ∀ b, b < 37 → a ≠ b → (TX8 a).2.1 ≠ (TX8 b).2.1 := by decide +kernel
theorem tyX8_ok : ∀ k, k < 37 → parseFieldDescriptor (TX8 k).2.2.1 = some (tyX8 k) := by decide +kernel
def RX1 : String := "DecisionArrays$Kinds"
def RL : String := "DecisionArraysLaw"
abbrev cX0_init : ByteArray := prog_2_method_1_code
def yX0_init : MethodName := ⟨RX0, "<init>", "(LDecisionArrays$Store;)V"⟩
abbrev cX0_has : ByteArray := prog_2_method_2_code
def yX0_has : MethodName := ⟨RX0, "has", "(I)Z"⟩
abbrev cX0_hasCandidate : ByteArray := prog_2_method_3_code
def yX0_hasCandidate : MethodName := ⟨RX0, "hasCandidate", "(II)Z"⟩
abbrev cX0_at : ByteArray := prog_2_method_4_code
def yX0_at : MethodName := ⟨RX0, "at", "(I)I"⟩
abbrev cX0_add : ByteArray := prog_2_method_5_code
def yX0_add : MethodName := ⟨RX0, "add", "(I)I"⟩
abbrev cX0_arrayOf : ByteArray := prog_2_method_6_code
def yX0_arrayOf : MethodName := ⟨RX0, "arrayOf", "(I)I"⟩
abbrev cX0_kindOf : ByteArray := prog_2_method_7_code
def yX0_kindOf : MethodName := ⟨RX0, "kindOf", "(I)I"⟩
abbrev cX0_candidateAt : ByteArray := prog_2_method_8_code
def yX0_candidateAt : MethodName := ⟨RX0, "candidateAt", "(II)J"⟩
abbrev cX0_indexOf : ByteArray := prog_2_method_9_code
def yX0_indexOf : MethodName := ⟨RX0, "indexOf", "(IJ)I"⟩
abbrev cX0_append : ByteArray := prog_2_method_10_code
def yX0_append : MethodName := ⟨RX0, "append", "(IJ)V"⟩
abbrev cX0_appendSpan : ByteArray := prog_2_method_11_code
def yX0_appendSpan : MethodName := ⟨RX0, "appendSpan", "(IJJJ)Z"⟩
abbrev cX0_isFree : ByteArray := prog_2_method_12_code
def yX0_isFree : MethodName := ⟨RX0, "isFree", "(I)Z"⟩
abbrev cX0_ways : ByteArray := prog_2_method_13_code
def yX0_ways : MethodName := ⟨RX0, "ways", "()I"⟩
abbrev cX0_takeWay : ByteArray := prog_2_method_14_code
def yX0_takeWay : MethodName := ⟨RX0, "takeWay", "(I)V"⟩
abbrev cX0_takeNext : ByteArray := prog_2_method_15_code
def yX0_takeNext : MethodName := ⟨RX0, "takeNext", "(LDecisionArrays$Rules;)V"⟩
abbrev cX1_isKind : ByteArray := prog_3_method_2_code
def yX1_isKind : MethodName := ⟨RX1, "isKind", "(I)Z"⟩
abbrev cX1_holds : ByteArray := prog_3_method_3_code
def yX1_holds : MethodName := ⟨RX1, "holds", "(IJ)Z"⟩
abbrev cX1_isNoNumber : ByteArray := prog_3_method_4_code
def yX1_isNoNumber : MethodName := ⟨RX1, "isNoNumber", "(IJ)Z"⟩
abbrev cX1_cleaned : ByteArray := prog_3_method_5_code
def yX1_cleaned : MethodName := ⟨RX1, "cleaned", "(IJ)J"⟩
abbrev cX1_reaches : ByteArray := prog_3_method_6_code
def yX1_reaches : MethodName := ⟨RX1, "reaches", "(II)Z"⟩
abbrev cX1_widened : ByteArray := prog_3_method_7_code
def yX1_widened : MethodName := ⟨RX1, "widened", "(IIJ)J"⟩
abbrev cX1_nearest : ByteArray := prog_3_method_8_code
def yX1_nearest : MethodName := ⟨RX1, "nearest", "(JII)J"⟩
abbrev cX1_doubleOfFloat : ByteArray := prog_3_method_9_code
def yX1_doubleOfFloat : MethodName := ⟨RX1, "doubleOfFloat", "(J)J"⟩
abbrev cX1_topBit : ByteArray := prog_3_method_10_code
def yX1_topBit : MethodName := ⟨RX1, "topBit", "(J)I"⟩
abbrev cX1_rank : ByteArray := prog_3_method_11_code
def yX1_rank : MethodName := ⟨RX1, "rank", "(IJ)J"⟩
abbrev cX1_number : ByteArray := prog_3_method_12_code
def yX1_number : MethodName := ⟨RX1, "number", "(IJ)J"⟩
abbrev cX1_towardsZero : ByteArray := prog_3_method_13_code
def yX1_towardsZero : MethodName := ⟨RX1, "towardsZero", "(ZIJI)J"⟩
abbrev cX1_alike : ByteArray := prog_3_method_14_code
def yX1_alike : MethodName := ⟨RX1, "alike", "(IJJ)Z"⟩
abbrev cX1_hashOf : ByteArray := prog_3_method_15_code
def yX1_hashOf : MethodName := ⟨RX1, "hashOf", "(IJ)I"⟩
abbrev cX2_init : ByteArray := prog_4_method_1_code
def yX2_init : MethodName := ⟨RX2, "<init>", "(LDecisionArrays$Store;)V"⟩
abbrev cX2_agree : ByteArray := prog_4_method_2_code
def yX2_agree : MethodName := ⟨RX2, "agree", "(II)Z"⟩
abbrev cX2_agreeAt : ByteArray := prog_4_method_3_code
def yX2_agreeAt : MethodName := ⟨RX2, "agreeAt", "(III)Z"⟩
abbrev cX2_rowsAgree : ByteArray := prog_4_method_4_code
def yX2_rowsAgree : MethodName := ⟨RX2, "rowsAgree", "(III)Z"⟩
abbrev cX2_sameShape : ByteArray := prog_4_method_5_code
def yX2_sameShape : MethodName := ⟨RX2, "sameShape", "(II)Z"⟩
abbrev cX2_digest : ByteArray := prog_4_method_6_code
def yX2_digest : MethodName := ⟨RX2, "digest", "(I)I"⟩
abbrev cX2_digestAt : ByteArray := prog_4_method_7_code
def yX2_digestAt : MethodName := ⟨RX2, "digestAt", "(II)I"⟩
abbrev cX3_init : ByteArray := prog_5_method_1_code
def yX3_init : MethodName := ⟨RX3, "<init>", "(LDecisionArrays$Store;)V"⟩
abbrev cX3_tellLengths : ByteArray := prog_5_method_2_code
def yX3_tellLengths : MethodName := ⟨RX3, "tellLengths", "(IIII)V"⟩
abbrev cX3_hasLengthBelowZero : ByteArray := prog_5_method_3_code
def yX3_hasLengthBelowZero : MethodName := ⟨RX3, "hasLengthBelowZero", "(I)Z"⟩
abbrev cX3_gridFits : ByteArray := prog_5_method_4_code
def yX3_gridFits : MethodName := ⟨RX3, "gridFits", "(I)Z"⟩
abbrev cX3_makeGrid : ByteArray := prog_5_method_5_code
def yX3_makeGrid : MethodName := ⟨RX3, "makeGrid", "(II)I"⟩
abbrev cX3_gridAt : ByteArray := prog_5_method_6_code
def yX3_gridAt : MethodName := ⟨RX3, "gridAt", "(III)I"⟩
abbrev cX3_twinFits : ByteArray := prog_5_method_7_code
def yX3_twinFits : MethodName := ⟨RX3, "twinFits", "(I)Z"⟩
abbrev cX3_plan : ByteArray := prog_5_method_8_code
def yX3_plan : MethodName := ⟨RX3, "plan", "(II)V"⟩
abbrev cX3_makeTwin : ByteArray := prog_5_method_9_code
def yX3_makeTwin : MethodName := ⟨RX3, "makeTwin", "(I)I"⟩
abbrev cX3_twinAt : ByteArray := prog_5_method_10_code
def yX3_twinAt : MethodName := ⟨RX3, "twinAt", "(II)I"⟩
abbrev cX4_init : ByteArray := prog_6_method_1_code
def yX4_init : MethodName := ⟨RX4, "<init>", "()V"⟩
abbrev cX4_keep : ByteArray := prog_6_method_2_code
def yX4_keep : MethodName := ⟨RX4, "keep", "(LDecisionArrays$Store;)V"⟩
abbrev cX4_bringBack : ByteArray := prog_6_method_3_code
def yX4_bringBack : MethodName := ⟨RX4, "bringBack", "(LDecisionArrays$Store;)V"⟩
abbrev cX5_init : ByteArray := prog_7_method_1_code
def yX5_init : MethodName := ⟨RX5, "<init>", "(LDecisionArrays$Store;)V"⟩
abbrev cX5_add : ByteArray := prog_7_method_2_code
def yX5_add : MethodName := ⟨RX5, "add", "(IIIJJ)I"⟩
abbrev cX5_total : ByteArray := prog_7_method_3_code
def yX5_total : MethodName := ⟨RX5, "total", "()J"⟩
abbrev cX5_amountOf : ByteArray := prog_7_method_4_code
def yX5_amountOf : MethodName := ⟨RX5, "amountOf", "(I)J"⟩
abbrev cX5_apart : ByteArray := prog_7_method_5_code
def yX5_apart : MethodName := ⟨RX5, "apart", "(JJ)J"⟩
abbrev cX5_measureAll : ByteArray := prog_7_method_6_code
def yX5_measureAll : MethodName := ⟨RX5, "measureAll", "()V"⟩
abbrev cX5_measure : ByteArray := prog_7_method_7_code
def yX5_measure : MethodName := ⟨RX5, "measure", "(I)V"⟩
abbrev cX5_shareOf : ByteArray := prog_7_method_8_code
def yX5_shareOf : MethodName := ⟨RX5, "shareOf", "(II)J"⟩
abbrev cX5_alikeIn : ByteArray := prog_7_method_9_code
def yX5_alikeIn : MethodName := ⟨RX5, "alikeIn", "(IJII)J"⟩
abbrev cX5_replace : ByteArray := prog_7_method_10_code
def yX5_replace : MethodName := ⟨RX5, "replace", "(IJ)V"⟩
abbrev cX5_adjust : ByteArray := prog_7_method_11_code
def yX5_adjust : MethodName := ⟨RX5, "adjust", "(IJJ)V"⟩
abbrev cX5_bearingOf : ByteArray := prog_7_method_12_code
def yX5_bearingOf : MethodName := ⟨RX5, "bearingOf", "(II)J"⟩
abbrev cX6_init : ByteArray := prog_8_method_1_code
def yX6_init : MethodName := ⟨RX6, "<init>", "()V"⟩
abbrev cX6_has : ByteArray := prog_8_method_2_code
def yX6_has : MethodName := ⟨RX6, "has", "(I)Z"⟩
abbrev cX6_fits : ByteArray := prog_8_method_3_code
def yX6_fits : MethodName := ⟨RX6, "fits", "(JJ)Z"⟩
abbrev cX6_add : ByteArray := prog_8_method_4_code
def yX6_add : MethodName := ⟨RX6, "add", "(IIII)I"⟩
abbrev cX6_hasPlace : ByteArray := prog_8_method_5_code
def yX6_hasPlace : MethodName := ⟨RX6, "hasPlace", "(II)Z"⟩
abbrev cX6_hasRange : ByteArray := prog_8_method_6_code
def yX6_hasRange : MethodName := ⟨RX6, "hasRange", "(III)Z"⟩
abbrev cX6_hasMany : ByteArray := prog_8_method_7_code
def yX6_hasMany : MethodName := ⟨RX6, "hasMany", "(III)Z"⟩
abbrev cX6_walk : ByteArray := prog_8_method_8_code
def yX6_walk : MethodName := ⟨RX6, "walk", "(IIIII)I"⟩
abbrev cX6_slotOf : ByteArray := prog_8_method_9_code
def yX6_slotOf : MethodName := ⟨RX6, "slotOf", "(I)I"⟩
abbrev cX6_takes : ByteArray := prog_8_method_10_code
def yX6_takes : MethodName := ⟨RX6, "takes", "(IJ)Z"⟩
abbrev cX6_isRowFor : ByteArray := prog_8_method_11_code
def yX6_isRowFor : MethodName := ⟨RX6, "isRowFor", "(II)Z"⟩
abbrev cX6_canMove : ByteArray := prog_8_method_12_code
def yX6_canMove : MethodName := ⟨RX6, "canMove", "(II)Z"⟩
abbrev cX6_takenOf : ByteArray := prog_8_method_13_code
def yX6_takenOf : MethodName := ⟨RX6, "takenOf", "(IIII)I"⟩
abbrev cX6_nullRows : ByteArray := prog_8_method_14_code
def yX6_nullRows : MethodName := ⟨RX6, "nullRows", "(I)I"⟩
abbrev cX6_pinnedIn : ByteArray := prog_8_method_15_code
def yX6_pinnedIn : MethodName := ⟨RX6, "pinnedIn", "(III)I"⟩
abbrev cX6_putInOrder : ByteArray := prog_8_method_16_code
def yX6_putInOrder : MethodName := ⟨RX6, "putInOrder", "(III)I"⟩
abbrev cX6_insert : ByteArray := prog_8_method_17_code
def yX6_insert : MethodName := ⟨RX6, "insert", "(III)V"⟩
abbrev cX6_halve : ByteArray := prog_8_method_18_code
def yX6_halve : MethodName := ⟨RX6, "halve", "(IJ)I"⟩
abbrev cX7_init : ByteArray := prog_1_method_1_code
def yX7_init : MethodName := ⟨RX7, "<init>", "()V"⟩
abbrev cX7_array : ByteArray := prog_1_method_2_code
def yX7_array : MethodName := ⟨RX7, "array", "(II)I"⟩
abbrev cX7_things : ByteArray := prog_1_method_3_code
def yX7_things : MethodName := ⟨RX7, "things", "(II)I"⟩
abbrev cX7_rows : ByteArray := prog_1_method_4_code
def yX7_rows : MethodName := ⟨RX7, "rows", "(II)I"⟩
abbrev cX7_grid : ByteArray := prog_1_method_5_code
def yX7_grid : MethodName := ⟨RX7, "grid", "(IIIIII)I"⟩
abbrev cX7_about : ByteArray := prog_1_method_6_code
def yX7_about : MethodName := ⟨RX7, "about", "(II)I"⟩
abbrev cX7_row : ByteArray := prog_1_method_7_code
def yX7_row : MethodName := ⟨RX7, "row", "(II)I"⟩
abbrev cX7_setRow : ByteArray := prog_1_method_8_code
def yX7_setRow : MethodName := ⟨RX7, "setRow", "(III)I"⟩
abbrev cX7_read : ByteArray := prog_1_method_9_code
def yX7_read : MethodName := ⟨RX7, "read", "(IIIIII)J"⟩
abbrev cX7_write : ByteArray := prog_1_method_10_code
def yX7_write : MethodName := ⟨RX7, "write", "(IIIIIIJ)I"⟩
abbrev cX7_place : ByteArray := prog_1_method_11_code
def yX7_place : MethodName := ⟨RX7, "place", "(IIIII)I"⟩
abbrev cX7_pin : ByteArray := prog_1_method_12_code
def yX7_pin : MethodName := ⟨RX7, "pin", "(IIIIIZ)I"⟩
abbrev cX7_column : ByteArray := prog_1_method_13_code
def yX7_column : MethodName := ⟨RX7, "column", "(II)I"⟩
abbrev cX7_code : ByteArray := prog_1_method_14_code
def yX7_code : MethodName := ⟨RX7, "code", "()I"⟩
abbrev cX7_widens : ByteArray := prog_1_method_15_code
def yX7_widens : MethodName := ⟨RX7, "widens", "(II)I"⟩
abbrev cX7_fill : ByteArray := prog_1_method_16_code
def yX7_fill : MethodName := ⟨RX7, "fill", "(IIIIJ)I"⟩
abbrev cX7_move : ByteArray := prog_1_method_17_code
def yX7_move : MethodName := ⟨RX7, "move", "(IIIII)I"⟩
abbrev cX7_copy : ByteArray := prog_1_method_18_code
def yX7_copy : MethodName := ⟨RX7, "copy", "(II)I"⟩
abbrev cX7_deep : ByteArray := prog_1_method_19_code
def yX7_deep : MethodName := ⟨RX7, "deep", "(I)I"⟩
abbrev cX7_sort : ByteArray := prog_1_method_20_code
def yX7_sort : MethodName := ⟨RX7, "sort", "(III)I"⟩
abbrev cX7_search : ByteArray := prog_1_method_21_code
def yX7_search : MethodName := ⟨RX7, "search", "(IJ)I"⟩
abbrev cX7_same : ByteArray := prog_1_method_22_code
def yX7_same : MethodName := ⟨RX7, "same", "(II)I"⟩
abbrev cX7_hash : ByteArray := prog_1_method_23_code
def yX7_hash : MethodName := ⟨RX7, "hash", "(I)I"⟩
abbrev cX7_decide : ByteArray := prog_1_method_24_code
def yX7_decide : MethodName := ⟨RX7, "decide", "(IIIII)I"⟩
abbrev cX7_candidate : ByteArray := prog_1_method_25_code
def yX7_candidate : MethodName := ⟨RX7, "candidate", "(IJ)I"⟩
abbrev cX7_span : ByteArray := prog_1_method_26_code
def yX7_span : MethodName := ⟨RX7, "span", "(IJJJ)I"⟩
abbrev cX7_choose : ByteArray := prog_1_method_27_code
def yX7_choose : MethodName := ⟨RX7, "choose", "(II)I"⟩
abbrev cX7_decision : ByteArray := prog_1_method_28_code
def yX7_decision : MethodName := ⟨RX7, "decision", "(II)I"⟩
abbrev cX7_candidateOf : ByteArray := prog_1_method_29_code
def yX7_candidateOf : MethodName := ⟨RX7, "candidateOf", "(II)J"⟩
abbrev cX7_rule : ByteArray := prog_1_method_30_code
def yX7_rule : MethodName := ⟨RX7, "rule", "(IIIJJ)I"⟩
abbrev cX7_amount : ByteArray := prog_1_method_31_code
def yX7_amount : MethodName := ⟨RX7, "amount", "(I)J"⟩
abbrev cX7_score : ByteArray := prog_1_method_32_code
def yX7_score : MethodName := ⟨RX7, "score", "()J"⟩
abbrev cX7_best : ByteArray := prog_1_method_33_code
def yX7_best : MethodName := ⟨RX7, "best", "()I"⟩
abbrev cX7_mark : ByteArray := prog_1_method_34_code
def yX7_mark : MethodName := ⟨RX7, "mark", "()I"⟩
abbrev cX7_back : ByteArray := prog_1_method_35_code
def yX7_back : MethodName := ⟨RX7, "back", "()I"⟩
abbrev cX7_count : ByteArray := prog_1_method_36_code
def yX7_count : MethodName := ⟨RX7, "count", "(I)I"⟩
abbrev cX7_fail : ByteArray := prog_1_method_37_code
def yX7_fail : MethodName := ⟨RX7, "fail", "(I)I"⟩
abbrev cX7_noBits : ByteArray := prog_1_method_38_code
def yX7_noBits : MethodName := ⟨RX7, "noBits", "(I)J"⟩
abbrev cX7_fine : ByteArray := prog_1_method_39_code
def yX7_fine : MethodName := ⟨RX7, "fine", "(I)I"⟩
abbrev cX7_newArray : ByteArray := prog_1_method_40_code
def yX7_newArray : MethodName := ⟨RX7, "newArray", "(IIII)I"⟩
abbrev cX7_rowCode : ByteArray := prog_1_method_41_code
def yX7_rowCode : MethodName := ⟨RX7, "rowCode", "(II)I"⟩
abbrev cX8_init : ByteArray := prog_10_method_1_code
def yX8_init : MethodName := ⟨RX8, "<init>", "()V"⟩
abbrev cX8_within : ByteArray := prog_10_method_3_code
def yX8_within : MethodName := ⟨RX8, "within", "(JJJ)Z"⟩
abbrev cX8_fails : ByteArray := prog_10_method_4_code
def yX8_fails : MethodName := ⟨RX8, "fails", "(I)I"⟩
abbrev cX8_fine : ByteArray := prog_10_method_5_code
def yX8_fine : MethodName := ⟨RX8, "fine", "(I)I"⟩
abbrev cX8_isArray : ByteArray := prog_10_method_6_code
def yX8_isArray : MethodName := ⟨RX8, "isArray", "(I)Z"⟩
abbrev cX8_isBits : ByteArray := prog_10_method_7_code
def yX8_isBits : MethodName := ⟨RX8, "isBits", "(IJ)Z"⟩
abbrev cX8_isNone : ByteArray := prog_10_method_8_code
def yX8_isNone : MethodName := ⟨RX8, "isNone", "(IJ)Z"⟩
abbrev cX8_plain : ByteArray := prog_10_method_9_code
def yX8_plain : MethodName := ⟨RX8, "plain", "(IJ)J"⟩
abbrev cX8_isWider : ByteArray := prog_10_method_10_code
def yX8_isWider : MethodName := ⟨RX8, "isWider", "(II)Z"⟩
abbrev cX8_real : ByteArray := prog_10_method_11_code
def yX8_real : MethodName := ⟨RX8, "real", "(JII)J"⟩
abbrev cX8_floatToDouble : ByteArray := prog_10_method_12_code
def yX8_floatToDouble : MethodName := ⟨RX8, "floatToDouble", "(J)J"⟩
abbrev cX8_widened : ByteArray := prog_10_method_13_code
def yX8_widened : MethodName := ⟨RX8, "widened", "(IIJ)J"⟩
abbrev cX8_whole : ByteArray := prog_10_method_14_code
def yX8_whole : MethodName := ⟨RX8, "whole", "(J)J"⟩
abbrev cX8_sumNumber : ByteArray := prog_10_method_15_code
def yX8_sumNumber : MethodName := ⟨RX8, "sumNumber", "(IJ)J"⟩
abbrev cX8_orderNumber : ByteArray := prog_10_method_16_code
def yX8_orderNumber : MethodName := ⟨RX8, "orderNumber", "(IJ)J"⟩
abbrev cX8_widens : ByteArray := prog_10_method_17_code
def yX8_widens : MethodName := ⟨RX8, "widens", "(II)I"⟩
abbrev cX8_code : ByteArray := prog_10_method_18_code
def yX8_code : MethodName := ⟨RX8, "code", "()I"⟩
abbrev cX8_isRoom : ByteArray := prog_10_method_19_code
def yX8_isRoom : MethodName := ⟨RX8, "isRoom", "(IJ)Z"⟩
abbrev cX8_make : ByteArray := prog_10_method_20_code
def yX8_make : MethodName := ⟨RX8, "make", "(IIII)I"⟩
abbrev cX8_array : ByteArray := prog_10_method_21_code
def yX8_array : MethodName := ⟨RX8, "array", "(II)I"⟩
abbrev cX8_things : ByteArray := prog_10_method_22_code
def yX8_things : MethodName := ⟨RX8, "things", "(II)I"⟩
abbrev cX8_rows : ByteArray := prog_10_method_23_code
def yX8_rows : MethodName := ⟨RX8, "rows", "(II)I"⟩
abbrev cX8_grid : ByteArray := prog_10_method_24_code
def yX8_grid : MethodName := ⟨RX8, "grid", "(IIIIII)I"⟩
abbrev cX8_about : ByteArray := prog_10_method_25_code
def yX8_about : MethodName := ⟨RX8, "about", "(II)I"⟩
abbrev cX8_row : ByteArray := prog_10_method_26_code
def yX8_row : MethodName := ⟨RX8, "row", "(II)I"⟩
abbrev cX8_setRow : ByteArray := prog_10_method_27_code
def yX8_setRow : MethodName := ⟨RX8, "setRow", "(III)I"⟩
abbrev cX8_follow : ByteArray := prog_10_method_28_code
def yX8_follow : MethodName := ⟨RX8, "follow", "(IIIII)I"⟩
abbrev cX8_here : ByteArray := prog_10_method_29_code
def yX8_here : MethodName := ⟨RX8, "here", "()I"⟩
abbrev cX8_read : ByteArray := prog_10_method_30_code
def yX8_read : MethodName := ⟨RX8, "read", "(IIIIII)J"⟩
abbrev cX8_takes : ByteArray := prog_10_method_31_code
def yX8_takes : MethodName := ⟨RX8, "takes", "(IJ)Z"⟩
abbrev cX8_write : ByteArray := prog_10_method_32_code
def yX8_write : MethodName := ⟨RX8, "write", "(IIIIIIJ)I"⟩
abbrev cX8_place : ByteArray := prog_10_method_33_code
def yX8_place : MethodName := ⟨RX8, "place", "(IIIII)I"⟩
abbrev cX8_pin : ByteArray := prog_10_method_34_code
def yX8_pin : MethodName := ⟨RX8, "pin", "(IIIIIZ)I"⟩
abbrev cX8_column : ByteArray := prog_10_method_35_code
def yX8_column : MethodName := ⟨RX8, "column", "(II)I"⟩
abbrev cX8_fill : ByteArray := prog_10_method_36_code
def yX8_fill : MethodName := ⟨RX8, "fill", "(IIIIJ)I"⟩
abbrev cX8_move : ByteArray := prog_10_method_37_code
def yX8_move : MethodName := ⟨RX8, "move", "(IIIII)I"⟩
abbrev cX8_copy : ByteArray := prog_10_method_38_code
def yX8_copy : MethodName := ⟨RX8, "copy", "(II)I"⟩
abbrev cX8_copyOne : ByteArray := prog_10_method_39_code
def yX8_copyOne : MethodName := ⟨RX8, "copyOne", "(I)I"⟩
abbrev cX8_deep : ByteArray := prog_10_method_40_code
def yX8_deep : MethodName := ⟨RX8, "deep", "(I)I"⟩
abbrev cX8_sort : ByteArray := prog_10_method_41_code
def yX8_sort : MethodName := ⟨RX8, "sort", "(III)I"⟩
abbrev cX8_search : ByteArray := prog_10_method_42_code
def yX8_search : MethodName := ⟨RX8, "search", "(IJ)I"⟩
abbrev cX8_isSame : ByteArray := prog_10_method_43_code
def yX8_isSame : MethodName := ⟨RX8, "isSame", "(II)Z"⟩
abbrev cX8_same : ByteArray := prog_10_method_44_code
def yX8_same : MethodName := ⟨RX8, "same", "(II)I"⟩
abbrev cX8_hashOf : ByteArray := prog_10_method_45_code
def yX8_hashOf : MethodName := ⟨RX8, "hashOf", "(I)I"⟩
abbrev cX8_hash : ByteArray := prog_10_method_46_code
def yX8_hash : MethodName := ⟨RX8, "hash", "(I)I"⟩
abbrev cX8_decide : ByteArray := prog_10_method_47_code
def yX8_decide : MethodName := ⟨RX8, "decide", "(IIIII)I"⟩
abbrev cX8_candidateAt : ByteArray := prog_10_method_48_code
def yX8_candidateAt : MethodName := ⟨RX8, "candidateAt", "(IJ)I"⟩
abbrev cX8_isDecision : ByteArray := prog_10_method_49_code
def yX8_isDecision : MethodName := ⟨RX8, "isDecision", "(I)Z"⟩
abbrev cX8_candidate : ByteArray := prog_10_method_50_code
def yX8_candidate : MethodName := ⟨RX8, "candidate", "(IJ)I"⟩
abbrev cX8_span : ByteArray := prog_10_method_51_code
def yX8_span : MethodName := ⟨RX8, "span", "(IJJJ)I"⟩
abbrev cX8_elementOf : ByteArray := prog_10_method_52_code
def yX8_elementOf : MethodName := ⟨RX8, "elementOf", "(I)I"⟩
abbrev cX8_choose : ByteArray := prog_10_method_53_code
def yX8_choose : MethodName := ⟨RX8, "choose", "(II)I"⟩
abbrev cX8_decision : ByteArray := prog_10_method_54_code
def yX8_decision : MethodName := ⟨RX8, "decision", "(II)I"⟩
abbrev cX8_candidateOf : ByteArray := prog_10_method_55_code
def yX8_candidateOf : MethodName := ⟨RX8, "candidateOf", "(II)J"⟩
abbrev cX8_rule : ByteArray := prog_10_method_56_code
def yX8_rule : MethodName := ⟨RX8, "rule", "(IIIJJ)I"⟩
abbrev cX8_far : ByteArray := prog_10_method_57_code
def yX8_far : MethodName := ⟨RX8, "far", "(JJ)J"⟩
abbrev cX8_isLike : ByteArray := prog_10_method_58_code
def yX8_isLike : MethodName := ⟨RX8, "isLike", "(IJJ)Z"⟩
abbrev cX8_amountOf : ByteArray := prog_10_method_59_code
def yX8_amountOf : MethodName := ⟨RX8, "amountOf", "(I)J"⟩
abbrev cX8_amount : ByteArray := prog_10_method_60_code
def yX8_amount : MethodName := ⟨RX8, "amount", "(I)J"⟩
abbrev cX8_score : ByteArray := prog_10_method_61_code
def yX8_score : MethodName := ⟨RX8, "score", "()J"⟩
abbrev cX8_choices : ByteArray := prog_10_method_62_code
def yX8_choices : MethodName := ⟨RX8, "choices", "(I)I"⟩
abbrev cX8_ways : ByteArray := prog_10_method_63_code
def yX8_ways : MethodName := ⟨RX8, "ways", "()I"⟩
abbrev cX8_lay : ByteArray := prog_10_method_64_code
def yX8_lay : MethodName := ⟨RX8, "lay", "(II)V"⟩
abbrev cX8_best : ByteArray := prog_10_method_65_code
def yX8_best : MethodName := ⟨RX8, "best", "()I"⟩
abbrev cX8_mark : ByteArray := prog_10_method_66_code
def yX8_mark : MethodName := ⟨RX8, "mark", "()I"⟩
abbrev cX8_back : ByteArray := prog_10_method_67_code
def yX8_back : MethodName := ⟨RX8, "back", "()I"⟩
abbrev cX8_count : ByteArray := prog_10_method_68_code
def yX8_count : MethodName := ⟨RX8, "count", "(I)I"⟩
abbrev cL_law : ByteArray := code
abbrev classes : List vw_C := [(RX0, TX0, 7), (RX2, TX2, 5), (RX3, TX3, 4), (RX4, TX4, 3), (RX5, TX5, 9), (RX6, TX6, 10), (RX7, TX7, 8), (RX8, TX8, 37)]
abbrev zz_RM : String := "DecisionArrays$Mark"
def zz_nm : List (String × Nat × MethodName × String) := [(RX7, 9, yX6_init, "DecisionArrays"), (RX7, 284, yX4_init, "DecisionArrays")]
end
section
/-! THE LAYER: every contract here is of one shape. g: class numbers and slots of the tables, and the classes of int[], long[], boolean[], Mark[]. -/
abbrev zz_G : Type := va_G × (ClassId × ClassId × ClassId × ClassId)
abbrev zz_TT (g : zz_G) : List (ClassId × FieldType) := [(g.2.1, .int), (g.2.2.1, .long), (g.2.2.2.1, .boolean), (g.2.2.2.2, .object zz_RM)]
/-- the words that every method takes -/
def zz_w : List Cond := lw_tbl.filter goodWord
theorem zz_in {w : Cond} (h : w ∈ lw_tbl) (hg : goodWord w = true) : w ∈ zz_w := List.mem_filter.mpr ⟨h, hg⟩
theorem zz_good {y : MethodName} {b : ByteArray} {n : Nat} {r : Option FieldType} (h : Cond.code y b n r ∈ zz_w) : GoodIn zz_w (Cond.code y b n r :: zz_w) := by
  intro w hw
  have hw' : w ∈ zz_w := by
    rcases List.mem_cons.mp hw with e | e
    · rw [e]; exact h
    · exact e
  exact ⟨hw', good_of_word (List.mem_filter.mp hw').2⟩
/-- what every contract takes of the tables -/
def zz_KK (g : zz_G) (U : State) : Prop := va_K g.1 classes (zz_TT g) U ∧ (∀ q ∈ zz_nm, va_Nw (.methodLinkNest q.1 q.2.1 q.2.2.1 q.2.2.2) U) ∧ va_AO zz_RM U
theorem zz_KK.moved {g : zz_G} {s U : State} (hW : s.WarmedH U.vm) (h : zz_KK g s) : zz_KK g U :=
  ⟨va_K.moved hW.alike h.1, fun q hq => va_Nw.warmM hW (h.2.1 q hq), va_AO.moved hW.alike h.2.2⟩
theorem zz_KK.same {g : zz_G} {s U : State} (hv : s.vm = U.vm) (h : zz_KK g s) : zz_KK g U :=
  ⟨va_K.moved (by rw [hv]; exact Vm.Alike.refl U.vm) h.1, fun q hq => va_Nw.same rfl hv (h.2.1 q hq), va_AO.moved (by rw [hv]; exact Vm.Alike.refl U.vm) h.2.2⟩
def zz_Pre (g : zz_G) (av : List Value) (ws : va_W) (sz : Nat) : Array Value → State → Prop :=
  va_Pc av (fun U => U.heap.size = sz ∧ va_P g.1 classes ws U.heap ∧ zz_KK g U ∧ va_D (fun _ => True) ws)
theorem zz_blind {g : zz_G} {av : List Value} {ws : va_W} {sz : Nat} : FrameBlind (zz_Pre g av ws sz) := by
  intro a U gf mk q
  obtain ⟨q0, q1, qP, qK, qD⟩ := q
  exact ⟨q0, q1, qP, zz_KK.same (s := U) (U := U.calling gf mk a) rfl qK, qD⟩
abbrev zz_B (g : zz_G) (A : Nat → Prop) : va_W → State → Prop := fun u t => va_P g.1 classes u t.heap ∧ va_D A u
/-- contracts: an int (or boolean), a long, nothing -/
def zz_I (g : zz_G) (y : MethodName) (wd : Cond) (rm : Room) (av : List Value) (ws : va_W) (Post : Int32 → va_W → Prop) : Prop :=
  ∀ (l : Launch) (sz : Nat), Met l y (wd :: zz_w) rm (zz_Pre g av ws sz) (va_Qi Post (zz_B g (va_A ws sz)) (va_A ws sz)) rm.cells rm.slots (va_A ws sz)
def zz_L (g : zz_G) (y : MethodName) (wd : Cond) (rm : Room) (av : List Value) (ws : va_W) (Post : Int64 → va_W → Prop) : Prop :=
  ∀ (l : Launch) (sz : Nat), Met l y (wd :: zz_w) rm (zz_Pre g av ws sz) (va_Ql Post (zz_B g (va_A ws sz)) (va_A ws sz)) rm.cells rm.slots (va_A ws sz)
def zz_V (g : zz_G) (y : MethodName) (wd : Cond) (rm : Room) (av : List Value) (ws : va_W) (Post : va_W → Prop) : Prop :=
  ∀ (l : Launch) (sz : Nat), Met l y (wd :: zz_w) rm (zz_Pre g av ws sz) (va_Qv Post (zz_B g (va_A ws sz)) (va_A ws sz)) rm.cells rm.slots (va_A ws sz)
/-- the standing facts of a walk -/
def zz_C (p : Program) (s : State) (m : MethodId) (args : Array Value) (meth : Method) (c : Code) (g : zz_G) (own : String) (cc : ByteArray) (nL : Nat) (ret : Option FieldType) : Prop :=
  p.tables.exec = Jvm.exec ∧ c.code = cc ∧ c.maxLocals = nL ∧ s.vm.findClass own = some m.cls ∧ (∀ w ∈ zz_w, w.before args s = true) ∧ meth.sig.returnType = ret ∧ meth.locks = false ∧ zz_KK g s
/-- the world of a walk -/
def zz_Z (g : zz_G) (A : Nat → Prop) (H0 : Heap) (ws : va_W) (H : Heap) (locs : List Loc) : Prop :=
  va_P g.1 classes ws H ∧ va_D A ws ∧ va_S A H0 H locs ∧ ∀ q, H0.size ≤ q → A q
abbrev zz_QI (below : List Frame) (g : zz_G) (args : Array Value) (s : State) (A : Nat → Prop) (mc ms : Nat) (Post : Int32 → va_W → Prop) : State → Prop := MQ below (va_Qi Post (zz_B g A) A) args s mc ms A
abbrev zz_QL (below : List Frame) (g : zz_G) (args : Array Value) (s : State) (A : Nat → Prop) (mc ms : Nat) (Post : Int64 → va_W → Prop) : State → Prop := MQ below (va_Ql Post (zz_B g A) A) args s mc ms A
abbrev zz_QV (below : List Frame) (g : zz_G) (args : Array Value) (s : State) (A : Nat → Prop) (mc ms : Nat) (Post : va_W → Prop) : State → Prop := MQ below (va_Qv Post (zz_B g A) A) args s mc ms A
section zzIntro
variable {g : zz_G} {y : MethodName} {own : String} {cc : ByteArray} {nL : Nat} {rm : Room} {av : List Value} {ws : va_W}
theorem zz_I.intro {Post : Int32 → va_W → Prop} {ret : Option FieldType} (hy : plainName y.cls = true) (ho : y.cls = own) (hn : (lg_sl av).length ≤ nL)
    (body : ∀ (p : Program) (l : Launch) (e : Env) (s : State) (m : MethodId) (args : Array Value) (below : List Frame) (meth : Method) (c : Code) (A : Nat → Prop) (H : Heap) (locs : List Loc) (ls : Array Slot),
      zz_C p s m args meth c g own cc nL ret → meth.name = y.name → zz_Z g A s.heap ws H locs → lv_has ls nL (lv_args 0 av) →
      W p l e rm s m args below meth c H locs 0 0 (zz_QI below g args s A rm.cells rm.slots Post) (F0 m 0 ls [])) : zz_I g y (.code y cc nL ret) rm av ws Post := by
  intro l sz
  refine Met.ofW (cc := cc) (maxL := nL) (ret := ret) hy rfl ?_
  intro p e s m args below meth c s₁ B hml hv
  obtain ⟨rfl, hsz, hP, hK, hD0⟩ := hv
  subst hsz
  have hts := atoms_spec (ws := Cond.code y cc nL ret :: zz_w) B.pre
  rw [lg_entry_eq]
  exact body p l e s m av.toArray below meth c (va_A ws s.heap.size) s.heap [] _ ⟨B.exec, B.bytes, hml, by rw [← ho]; exact findClass_of_methodNamed B.named, fun w h => hts w (List.mem_cons_of_mem _ h), B.returns, B.notSynchronized, hK⟩
    (name_of_methodNamed B.named B.method).1 ⟨hP, hD0.self (sz := s.heap.size), va_S.rf, fun q h => Or.inr h⟩ (lv_entry av (n := nL) hn)
theorem zz_L.intro {Post : Int64 → va_W → Prop} {ret : Option FieldType} (hy : plainName y.cls = true) (ho : y.cls = own) (hn : (lg_sl av).length ≤ nL)
    (body : ∀ (p : Program) (l : Launch) (e : Env) (s : State) (m : MethodId) (args : Array Value) (below : List Frame) (meth : Method) (c : Code) (A : Nat → Prop) (H : Heap) (locs : List Loc) (ls : Array Slot),
      zz_C p s m args meth c g own cc nL ret → meth.name = y.name → zz_Z g A s.heap ws H locs → lv_has ls nL (lv_args 0 av) →
      W p l e rm s m args below meth c H locs 0 0 (zz_QL below g args s A rm.cells rm.slots Post) (F0 m 0 ls [])) : zz_L g y (.code y cc nL ret) rm av ws Post := by
  intro l sz
  refine Met.ofW (cc := cc) (maxL := nL) (ret := ret) hy rfl ?_
  intro p e s m args below meth c s₁ B hml hv
  obtain ⟨rfl, hsz, hP, hK, hD0⟩ := hv
  subst hsz
  have hts := atoms_spec (ws := Cond.code y cc nL ret :: zz_w) B.pre
  rw [lg_entry_eq]
  exact body p l e s m av.toArray below meth c (va_A ws s.heap.size) s.heap [] _ ⟨B.exec, B.bytes, hml, by rw [← ho]; exact findClass_of_methodNamed B.named, fun w h => hts w (List.mem_cons_of_mem _ h), B.returns, B.notSynchronized, hK⟩
    (name_of_methodNamed B.named B.method).1 ⟨hP, hD0.self (sz := s.heap.size), va_S.rf, fun q h => Or.inr h⟩ (lv_entry av (n := nL) hn)
theorem zz_V.intro {Post : va_W → Prop} {ret : Option FieldType} (hy : plainName y.cls = true) (ho : y.cls = own) (hn : (lg_sl av).length ≤ nL)
    (body : ∀ (p : Program) (l : Launch) (e : Env) (s : State) (m : MethodId) (args : Array Value) (below : List Frame) (meth : Method) (c : Code) (A : Nat → Prop) (H : Heap) (locs : List Loc) (ls : Array Slot),
      zz_C p s m args meth c g own cc nL ret → meth.name = y.name → zz_Z g A s.heap ws H locs → lv_has ls nL (lv_args 0 av) →
      W p l e rm s m args below meth c H locs 0 0 (zz_QV below g args s A rm.cells rm.slots Post) (F0 m 0 ls [])) : zz_V g y (.code y cc nL ret) rm av ws Post := by
  intro l sz
  refine Met.ofW (cc := cc) (maxL := nL) (ret := ret) hy rfl ?_
  intro p e s m args below meth c s₁ B hml hv
  obtain ⟨rfl, hsz, hP, hK, hD0⟩ := hv
  subst hsz
  have hts := atoms_spec (ws := Cond.code y cc nL ret :: zz_w) B.pre
  rw [lg_entry_eq]
  exact body p l e s m av.toArray below meth c (va_A ws s.heap.size) s.heap [] _ ⟨B.exec, B.bytes, hml, by rw [← ho]; exact findClass_of_methodNamed B.named, fun w h => hts w (List.mem_cons_of_mem _ h), B.returns, B.notSynchronized, hK⟩
    (name_of_methodNamed B.named B.method).1 ⟨hP, hD0.self (sz := s.heap.size), va_S.rf, fun q h => Or.inr h⟩ (lv_entry av (n := nL) hn)
end zzIntro
theorem zz_Z.sub {g : zz_G} {A : Nat → Prop} {H0 : Heap} {ws ws' : va_W} {H : Heap} {locs : List Loc} (hZ : zz_Z g A H0 ws H locs) (is : List Nat) (hn : va_nd is = true) (hs : is.map (fun i => ws[i]?) = ws'.map some) : zz_Z g A H0 ws' H locs := by
  obtain ⟨hP, hD, hS, hA⟩ := hZ
  refine ⟨fun k q hq => ?_, hD.sub is hn hs, hS, hA⟩
  have h1 : (ws'.map some)[k]? = some (some q) := by rw [List.getElem?_map, hq]; rfl
  rw [← hs, List.getElem?_map] at h1
  cases h2 : is[k]? with
  | none => rw [h2] at h1; cases h1
  | some i =>
    rw [h2] at h1
    exact hP i q (Option.some.inj h1)
theorem zz_Z.left {g : zz_G} {A : Nat → Prop} {H0 : Heap} {w1 w2 : va_W} {H : Heap} {locs : List Loc} (hZ : zz_Z g A H0 (w1 ++ w2) H locs) : zz_Z g A H0 w1 H locs := by
  obtain ⟨hP, hD, hS, hA⟩ := hZ
  have h1 : ∀ (k : Nat) (q : Nat × va_E), w1[k]? = some q → (w1 ++ w2)[k]? = some q := fun k q hq => by
    rw [List.getElem?_append_left (List.getElem?_eq_some_iff.mp hq).1]; exact hq
  exact ⟨fun k q hq => hP k q (h1 k q hq), ⟨fun i j p q hp hq he => hD.1 i j p q (h1 i p hp) (h1 j q hq) he, fun k q hq => hD.2 k q (h1 k q hq)⟩, hS, hA⟩
theorem zz_sw (x : Int32) (n : Nat) (hn : n < 2 ^ 31) : (x.toInt < 0 ∨ (n : Int) ≤ x.toInt) ∨ ∃ k : Nat, k < n ∧ x = nI k := by
  by_cases h0 : x < 0
  · exact Or.inl (Or.inl (by have := Int32.lt_iff_toInt_lt.mp h0; simpa using this))
  · obtain ⟨j, hj, e⟩ := nI_of h0
    by_cases h1 : j < n
    · exact Or.inr ⟨j, h1, e⟩
    · exact Or.inl (Or.inr (by rw [e, nI_toInt hj]; omega))
section zzRows
variable {p : Program} {l : Launch} {e : Env} {R : Room} {s : State} {m : MethodId} {args : Array Value} {below : List Frame} {meth : Method} {c : Code} {H : Heap} {locs : List Loc} {cells slots : Nat} {Q : State → Prop}
variable {cc : ByteArray} {pc : Nat} {ls : Array Slot} {rest : List Value} {g : zz_G} {A : Nat → Prop} {a : Nat} {ws : va_W} {own : String} {nL : Nat} {ret : Option FieldType}
theorem zz_topi {x v : Int32} (h : x = v) (k : W p l e R s m args below meth c H locs cells slots Q (F0 m pc ls (.int v :: rest))) : W p l e R s m args below meth c H locs cells slots Q (F0 m pc ls (.int x :: rest)) := h ▸ k
theorem zz_topl {x v : Int64} (h : x = v) (k : W p l e R s m args below meth c H locs cells slots Q (F0 m pc ls (.long v :: rest))) : W p l e R s m args below meth c H locs cells slots Q (F0 m pc ls (.long x :: rest)) := h ▸ k
/-- ends -/
theorem zz_iret {Post : Int32 → va_W → Prop} {mc ms : Nat} {v : Int32} (hC : zz_C p s m args meth c g own cc nL (some .int)) (hZ : zz_Z g A s.heap ws H locs) (hp : Post v ws) (hc : cells ≤ mc) (hs : slots ≤ ms) (hdg : decode cc pc = .ok (.ireturn, 1)) :
    W p l e R s m args below meth c H locs cells slots (zz_QI below g args s A mc ms Post) (F0 m pc ls [.int v]) := by
  obtain ⟨hx, hb, hml, hown, hts, hr, hlocks, hK⟩ := hC
  obtain ⟨hP, hD, hS, hA⟩ := hZ
  refine W.widen hc hs ?_
  exact W.iret hx hb hr (fun t ht hW => ⟨⟨v, ws, rfl, hp, by rw [ht]; exact hP, hD⟩, hS.F ht⟩) hS.2.2 hdg hlocks
theorem zz_zret {Post : Int32 → va_W → Prop} {mc ms : Nat} {v : Int32} (hC : zz_C p s m args meth c g own cc nL (some .boolean)) (hZ : zz_Z g A s.heap ws H locs) (hn : narrow .boolean (.int v) = .int v) (hp : Post v ws) (hc : cells ≤ mc) (hs : slots ≤ ms) (hdg : decode cc pc = .ok (.ireturn, 1)) :
    W p l e R s m args below meth c H locs cells slots (zz_QI below g args s A mc ms Post) (F0 m pc ls [.int v]) := by
  obtain ⟨hx, hb, hml, hown, hts, hr, hlocks, hK⟩ := hC
  obtain ⟨hP, hD, hS, hA⟩ := hZ
  refine W.widen hc hs ?_
  exact W.zret hx hb hr hn (fun t ht hW => ⟨⟨v, ws, rfl, hp, by rw [ht]; exact hP, hD⟩, hS.F ht⟩) hS.2.2 hdg hlocks
theorem zz_lret {Post : Int64 → va_W → Prop} {mc ms : Nat} {v : Int64} (hC : zz_C p s m args meth c g own cc nL (some .long)) (hZ : zz_Z g A s.heap ws H locs) (hp : Post v ws) (hc : cells ≤ mc) (hs : slots ≤ ms) (hdg : decode cc pc = .ok (.lreturn, 1)) :
    W p l e R s m args below meth c H locs cells slots (zz_QL below g args s A mc ms Post) (F0 m pc ls [.long v]) := by
  obtain ⟨hx, hb, hml, hown, hts, hr, hlocks, hK⟩ := hC
  obtain ⟨hP, hD, hS, hA⟩ := hZ
  refine W.widen hc hs ?_
  exact W.lret hx hb hr (fun t ht hW => ⟨⟨v, ws, rfl, hp, by rw [ht]; exact hP, hD⟩, hS.F ht⟩) hS.2.2 hdg hlocks
theorem zz_vret {Post : va_W → Prop} {mc ms : Nat} (hC : zz_C p s m args meth c g own cc nL none) (hZ : zz_Z g A s.heap ws H locs) (hp : Post ws) (hc : cells ≤ mc) (hs : slots ≤ ms) (hdg : decode cc pc = .ok (.return_, 1)) :
    W p l e R s m args below meth c H locs cells slots (zz_QV below g args s A mc ms Post) (F0 m pc ls []) := by
  obtain ⟨hx, hb, hml, hown, hts, hr, hlocks, hK⟩ := hC
  obtain ⟨hP, hD, hS, hA⟩ := hZ
  refine W.widen hc hs ?_
  exact W.vret hx hb hr (fun t ht hW => ⟨⟨ws, rfl, hp, by rw [ht]; exact hP, hD⟩, hS.F ht⟩) hS.2.2 hdg hlocks
end zzRows
section zzCalls
variable {p : Program} {l : Launch} {e : Env} {R : Room} {s : State} {m : MethodId} {args : Array Value} {below : List Frame} {meth : Method} {c : Code} {H : Heap} {locs : List Loc} {cells slots : Nat} {Q : State → Prop}
variable {cc cc' : ByteArray} {pc : Nat} {ls : Array Slot} {rest st0 : List Value} {g : zz_G} {A : Nat → Prop} {ws wc wr : va_W} {own : String} {nL nL' np index : Nat} {ret ret' : Option FieldType} {y : MethodName} {rm : Room} {av : Array Value} {lv : List (Nat × Value)}
theorem zz_goi {mc ms : Nat} {Post : Int32 → va_W → Prop} (hZ : zz_Z g A s.heap ws H locs) (isC isR : List Nat) (hCs : isC.map (fun i => ws[i]?) = wc.map some) (hRs : isR.map (fun i => ws[i]?) = wr.map some) (hn : va_nd isR = true) (hdis : ∀ i ∈ isR, i ∉ isC)
    (hrun : va_Run p l e R s m args below meth c H locs cells slots mc ms (F0 m pc ls st0) rest (va_Qi Post (zz_B g (va_A wc H.size)) (va_A wc H.size) av) (va_A wc H.size))
    (kk : ∀ (r : Int32) (u : va_W) (H1 : Heap) (locs1 : List Loc), Post r u → zz_Z g A s.heap (wr ++ u) H1 locs1 → W p l e R s m args below meth c H1 locs1 (cells + mc) (slots + ms) Q (F0 m (pc + 3) ls (.int r :: rest))) : W p l e R s m args below meth c H locs cells slots Q (F0 m pc ls st0) := by
  obtain ⟨hP, hD, hS, hA⟩ := hZ
  have hF := va_free hD hS hA isC hCs
  refine va_calli hrun hS (fun q _ h => hF q h) hF (fun r u t H1 locs1 ht hvm hw hB hz1 hk1 hS1 => ?_)
  obtain ⟨hP1, hD1⟩ := hB
  rw [ht] at hP1
  obtain ⟨hP2, hD2⟩ := va_join (wr := wr) (w1 := u) hP hD isC isR hCs hRs hn hdis hk1 hF hP1 hD1
  exact kk r u H1 locs1 hw ⟨hP2, hD2, hS1, hA⟩
theorem zz_gol {mc ms : Nat} {Post : Int64 → va_W → Prop} (hZ : zz_Z g A s.heap ws H locs) (isC isR : List Nat) (hCs : isC.map (fun i => ws[i]?) = wc.map some) (hRs : isR.map (fun i => ws[i]?) = wr.map some) (hn : va_nd isR = true) (hdis : ∀ i ∈ isR, i ∉ isC)
    (hrun : va_Run p l e R s m args below meth c H locs cells slots mc ms (F0 m pc ls st0) rest (va_Ql Post (zz_B g (va_A wc H.size)) (va_A wc H.size) av) (va_A wc H.size))
    (kk : ∀ (r : Int64) (u : va_W) (H1 : Heap) (locs1 : List Loc), Post r u → zz_Z g A s.heap (wr ++ u) H1 locs1 → W p l e R s m args below meth c H1 locs1 (cells + mc) (slots + ms) Q (F0 m (pc + 3) ls (.long r :: rest))) : W p l e R s m args below meth c H locs cells slots Q (F0 m pc ls st0) := by
  obtain ⟨hP, hD, hS, hA⟩ := hZ
  have hF := va_free hD hS hA isC hCs
  refine va_calll hrun hS (fun q _ h => hF q h) hF (fun r u t H1 locs1 ht hvm hw hB hz1 hk1 hS1 => ?_)
  obtain ⟨hP1, hD1⟩ := hB
  rw [ht] at hP1
  obtain ⟨hP2, hD2⟩ := va_join (wr := wr) (w1 := u) hP hD isC isR hCs hRs hn hdis hk1 hF hP1 hD1
  exact kk r u H1 locs1 hw ⟨hP2, hD2, hS1, hA⟩
theorem zz_gov {mc ms : Nat} {Post : va_W → Prop} (hZ : zz_Z g A s.heap ws H locs) (isC isR : List Nat) (hCs : isC.map (fun i => ws[i]?) = wc.map some) (hRs : isR.map (fun i => ws[i]?) = wr.map some) (hn : va_nd isR = true) (hdis : ∀ i ∈ isR, i ∉ isC)
    (hrun : va_Run p l e R s m args below meth c H locs cells slots mc ms (F0 m pc ls st0) rest (va_Qv Post (zz_B g (va_A wc H.size)) (va_A wc H.size) av) (va_A wc H.size))
    (kk : ∀ (u : va_W) (H1 : Heap) (locs1 : List Loc), Post u → zz_Z g A s.heap (wr ++ u) H1 locs1 → W p l e R s m args below meth c H1 locs1 (cells + mc) (slots + ms) Q (F0 m (pc + 3) ls rest)) : W p l e R s m args below meth c H locs cells slots Q (F0 m pc ls st0) := by
  obtain ⟨hP, hD, hS, hA⟩ := hZ
  have hF := va_free hD hS hA isC hCs
  refine va_callv hrun hS (fun q _ h => hF q h) hF (fun u t H1 locs1 ht hvm hw hB hz1 hk1 hS1 => ?_)
  obtain ⟨hP1, hD1⟩ := hB
  rw [ht] at hP1
  obtain ⟨hP2, hD2⟩ := va_join (wr := wr) (w1 := u) hP hD isC isR hCs hRs hn hdis hk1 hF hP1 hD1
  exact kk u H1 locs1 hw ⟨hP2, hD2, hS1, hA⟩
/-- what the tables say of a call: its link, its method -/
def zz_cB (own : String) (index : Nat) (y : MethodName) (cc : ByteArray) (nL : Nat) (ret : Option FieldType) (np : Nat) : Prop :=
  Cond.methodLink own index y ∈ zz_w ∧ Cond.code y cc nL ret ∈ zz_w ∧ Cond.initialized y.cls ∈ zz_w ∧ (y.cls ≠ "java/lang/invoke/MethodHandle" ∧ y.cls ≠ "java/lang/invoke/VarHandle" ∧ (parseMethodDescriptor y.desc).map (fun d => d.parameters.length) = some np)
def zz_cV (own : String) (index : Nat) (y : MethodName) (cc : ByteArray) (nL : Nat) (ret : Option FieldType) (np : Nat) : Prop :=
  zz_cB own index y cc nL ret np ∧ Cond.instanceMethod y ∈ zz_w ∧ Cond.selects y.cls y y ∈ zz_w
def zz_cS (own : String) (index : Nat) (y : MethodName) (cc : ByteArray) (nL : Nat) (ret : Option FieldType) (np : Nat) : Prop :=
  zz_cB own index y cc nL ret np ∧ Cond.static y ∈ zz_w
def zz_cI (own : String) (index : Nat) (y : MethodName) (cc : ByteArray) (nL : Nat) (np : Nat) : Prop :=
  zz_cB own index y cc nL none np ∧ y.name = "<init>" ∧ Cond.instanceMethod y ∈ zz_w
def zz_cN (own : String) (index : Nat) (y : MethodName) (host : String) (cc : ByteArray) (nL : Nat) (np : Nat) : Prop :=
  (own, index, y, host) ∈ zz_nm ∧ Cond.code y cc nL none ∈ zz_w ∧ Cond.initialized y.cls ∈ zz_w ∧ (y.cls ≠ "java/lang/invoke/MethodHandle" ∧ y.cls ≠ "java/lang/invoke/VarHandle" ∧ (parseMethodDescriptor y.desc).map (fun d => d.parameters.length) = some np) ∧ y.name = "<init>" ∧ Cond.instanceMethod y ∈ zz_w
abbrev zz_rm (R rm : Room) (nL cells slots : Nat) : Prop := (rm.frames + 1 ≤ R.frames ∧ 8 + (nL + 11) + rm.locals ≤ R.locals) ∧ cells + rm.cells ≤ R.cells ∧ slots + rm.slots ≤ R.slots
theorem zz_cbB (hts : ∀ w ∈ zz_w, w.before args s = true) (cw : zz_cB own index y cc nL ret np) (hR : rm.frames + 1 ≤ R.frames ∧ 8 + (nL + 11) + rm.locals ≤ R.locals) : CallB R s args own index y cc nL ret (Cond.code y cc nL ret :: zz_w) rm rm.cells rm.slots np :=
  callB_of np hts (zz_good cw.2.1) rfl rfl rfl (hts _ cw.2.2.1) (hts _ cw.1) cw.2.2.2 hR
theorem zz_pre {As : List Value} (hC : zz_C p s m args meth c g own cc nL ret) (hZ : zz_Z g A s.heap ws H locs) (isC : List Nat) (hCs : isC.map (fun i => ws[i]?) = wc.map some) (hn : va_nd isC = true) : PreS s H (zz_Pre g As wc H.size) As := by
  have hZc := hZ.sub isC hn hCs
  exact ⟨zz_blind, fun U hU hW => ⟨rfl, by rw [hU], by rw [hU]; exact hZc.1, hC.2.2.2.2.2.2.2.moved hW, hZc.2.1.weaken (fun _ _ _ _ => trivial)⟩⟩
theorem zz_preV {As : List Value} {b ci q0 : Nat} {fs : List Value} {T : u_T} {N : Nat} (hC : zz_C p s m args meth c g own cc nL ret) (hZ : zz_Z g A s.heap ws H locs) (isC : List Nat) (hCs : isC.map (fun i => ws[i]?) = wc.map some) (hn : va_nd isC = true) (hc : classes[ci]? = some (y.cls, T, N)) (he : wc[q0]? = some (b, .inr (ci, fs))) :
    PreV s H y.cls b (zz_Pre g (.ref b :: As) wc H.size) As := by
  have hZc := hZ.sub isC hn hCs
  exact ⟨zz_blind, va_recv hC.2.2.2.2.2.2.2.1 hZc.1 hc he, fun U hU hW => ⟨rfl, by rw [hU], by rw [hU]; exact hZc.1, hC.2.2.2.2.2.2.2.moved hW, hZc.2.1.weaken (fun _ _ _ _ => trivial)⟩⟩
/-- invokevirtual: an int, a long, nothing -/
theorem zz_iV {As : List Value} {b ci q0 : Nat} {fs : List Value} {T : u_T} {N : Nat} {Post : Int32 → va_W → Prop} (hC : zz_C p s m args meth c g own cc nL ret) (hZ : zz_Z g A s.heap ws H locs) (hl : lv_has ls nL lv) (cw : zz_cV own index y cc' nL' ret' np) (hM : zz_I g y (.code y cc' nL' ret') rm (.ref b :: As) wc Post)
    (isC isR : List Nat) (hCs : isC.map (fun i => ws[i]?) = wc.map some) (hRs : isR.map (fun i => ws[i]?) = wr.map some) (hk : va_nd isC = true ∧ va_nd isR = true ∧ ∀ i ∈ isR, i ∉ isC) (hc : classes[ci]? = some (y.cls, T, N)) (he : wc[q0]? = some (b, .inr (ci, fs))) (hn : As.length = np) (hst : st0 = As.reverse ++ .ref b :: rest) (hW : (rest.map fun v => v.category).sum ≤ 8) (hR : zz_rm R rm nL' cells slots) (hdg : decode cc pc = .ok (.invokevirtual index, 3))
    (kk : ∀ (r : Int32) (u : va_W) (H1 : Heap) (locs1 : List Loc), Post r u → zz_Z g A s.heap (wr ++ u) H1 locs1 → W p l e R s m args below meth c H1 locs1 (cells + rm.cells) (slots + rm.slots) Q (F0 m (pc + 3) ls (.int r :: rest))) : W p l e R s m args below meth c H locs cells slots Q (F0 m pc ls st0) := by
  refine zz_goi hZ isC isR hCs hRs hk.2.1 hk.2.2 (va_runV (As := As) (rest := rest) (Ts := zz_w) ⟨hC.1, hC.2.1, hC.2.2.1, hC.2.2.2.1, hC.2.2.2.2.1⟩ (hM l H.size) ⟨zz_cbB hC.2.2.2.2.1 cw.1 hR.1, hC.2.2.2.2.1 _ cw.2.1, hC.2.2.2.2.1 _ cw.2.2⟩ (zz_preV hC hZ isC hCs hk.1 hc he) rfl hn hl.1 hst (lv_room hW) hdg hR.2) kk
theorem zz_lV {As : List Value} {b ci q0 : Nat} {fs : List Value} {T : u_T} {N : Nat} {Post : Int64 → va_W → Prop} (hC : zz_C p s m args meth c g own cc nL ret) (hZ : zz_Z g A s.heap ws H locs) (hl : lv_has ls nL lv) (cw : zz_cV own index y cc' nL' ret' np) (hM : zz_L g y (.code y cc' nL' ret') rm (.ref b :: As) wc Post)
    (isC isR : List Nat) (hCs : isC.map (fun i => ws[i]?) = wc.map some) (hRs : isR.map (fun i => ws[i]?) = wr.map some) (hk : va_nd isC = true ∧ va_nd isR = true ∧ ∀ i ∈ isR, i ∉ isC) (hc : classes[ci]? = some (y.cls, T, N)) (he : wc[q0]? = some (b, .inr (ci, fs))) (hn : As.length = np) (hst : st0 = As.reverse ++ .ref b :: rest) (hW : (rest.map fun v => v.category).sum ≤ 8) (hR : zz_rm R rm nL' cells slots) (hdg : decode cc pc = .ok (.invokevirtual index, 3))
    (kk : ∀ (r : Int64) (u : va_W) (H1 : Heap) (locs1 : List Loc), Post r u → zz_Z g A s.heap (wr ++ u) H1 locs1 → W p l e R s m args below meth c H1 locs1 (cells + rm.cells) (slots + rm.slots) Q (F0 m (pc + 3) ls (.long r :: rest))) : W p l e R s m args below meth c H locs cells slots Q (F0 m pc ls st0) := by
  refine zz_gol hZ isC isR hCs hRs hk.2.1 hk.2.2 (va_runV (As := As) (rest := rest) (Ts := zz_w) ⟨hC.1, hC.2.1, hC.2.2.1, hC.2.2.2.1, hC.2.2.2.2.1⟩ (hM l H.size) ⟨zz_cbB hC.2.2.2.2.1 cw.1 hR.1, hC.2.2.2.2.1 _ cw.2.1, hC.2.2.2.2.1 _ cw.2.2⟩ (zz_preV hC hZ isC hCs hk.1 hc he) rfl hn hl.1 hst (lv_room hW) hdg hR.2) kk
theorem zz_vV {As : List Value} {b ci q0 : Nat} {fs : List Value} {T : u_T} {N : Nat} {Post : va_W → Prop} (hC : zz_C p s m args meth c g own cc nL ret) (hZ : zz_Z g A s.heap ws H locs) (hl : lv_has ls nL lv) (cw : zz_cV own index y cc' nL' ret' np) (hM : zz_V g y (.code y cc' nL' ret') rm (.ref b :: As) wc Post)
    (isC isR : List Nat) (hCs : isC.map (fun i => ws[i]?) = wc.map some) (hRs : isR.map (fun i => ws[i]?) = wr.map some) (hk : va_nd isC = true ∧ va_nd isR = true ∧ ∀ i ∈ isR, i ∉ isC) (hc : classes[ci]? = some (y.cls, T, N)) (he : wc[q0]? = some (b, .inr (ci, fs))) (hn : As.length = np) (hst : st0 = As.reverse ++ .ref b :: rest) (hW : (rest.map fun v => v.category).sum ≤ 8) (hR : zz_rm R rm nL' cells slots) (hdg : decode cc pc = .ok (.invokevirtual index, 3))
    (kk : ∀ (u : va_W) (H1 : Heap) (locs1 : List Loc), Post u → zz_Z g A s.heap (wr ++ u) H1 locs1 → W p l e R s m args below meth c H1 locs1 (cells + rm.cells) (slots + rm.slots) Q (F0 m (pc + 3) ls rest)) : W p l e R s m args below meth c H locs cells slots Q (F0 m pc ls st0) := by
  refine zz_gov hZ isC isR hCs hRs hk.2.1 hk.2.2 (va_runV (As := As) (rest := rest) (Ts := zz_w) ⟨hC.1, hC.2.1, hC.2.2.1, hC.2.2.2.1, hC.2.2.2.2.1⟩ (hM l H.size) ⟨zz_cbB hC.2.2.2.2.1 cw.1 hR.1, hC.2.2.2.2.1 _ cw.2.1, hC.2.2.2.2.1 _ cw.2.2⟩ (zz_preV hC hZ isC hCs hk.1 hc he) rfl hn hl.1 hst (lv_room hW) hdg hR.2) kk
/-- invokestatic -/
theorem zz_iS {As : List Value} {Post : Int32 → va_W → Prop} (hC : zz_C p s m args meth c g own cc nL ret) (hZ : zz_Z g A s.heap ws H locs) (hl : lv_has ls nL lv) (cw : zz_cS own index y cc' nL' ret' np) (hM : zz_I g y (.code y cc' nL' ret') rm As wc Post)
    (isC isR : List Nat) (hCs : isC.map (fun i => ws[i]?) = wc.map some) (hRs : isR.map (fun i => ws[i]?) = wr.map some) (hk : va_nd isC = true ∧ va_nd isR = true ∧ ∀ i ∈ isR, i ∉ isC) (hn : As.length = np) (hst : st0 = As.reverse ++ rest) (hW : (rest.map fun v => v.category).sum ≤ 8) (hR : zz_rm R rm nL' cells slots) (hdg : decode cc pc = .ok (.invokestatic index, 3))
    (kk : ∀ (r : Int32) (u : va_W) (H1 : Heap) (locs1 : List Loc), Post r u → zz_Z g A s.heap (wr ++ u) H1 locs1 → W p l e R s m args below meth c H1 locs1 (cells + rm.cells) (slots + rm.slots) Q (F0 m (pc + 3) ls (.int r :: rest))) : W p l e R s m args below meth c H locs cells slots Q (F0 m pc ls st0) := by
  refine zz_goi hZ isC isR hCs hRs hk.2.1 hk.2.2 (va_runS (As := As) (rest := rest) (Ts := zz_w) ⟨hC.1, hC.2.1, hC.2.2.1, hC.2.2.2.1, hC.2.2.2.2.1⟩ (hM l H.size) ⟨zz_cbB hC.2.2.2.2.1 cw.1 hR.1, hC.2.2.2.2.1 _ cw.2⟩ (zz_pre hC hZ isC hCs hk.1) rfl hn hl.1 hst (lv_room hW) hdg hR.2) kk
theorem zz_lS {As : List Value} {Post : Int64 → va_W → Prop} (hC : zz_C p s m args meth c g own cc nL ret) (hZ : zz_Z g A s.heap ws H locs) (hl : lv_has ls nL lv) (cw : zz_cS own index y cc' nL' ret' np) (hM : zz_L g y (.code y cc' nL' ret') rm As wc Post)
    (isC isR : List Nat) (hCs : isC.map (fun i => ws[i]?) = wc.map some) (hRs : isR.map (fun i => ws[i]?) = wr.map some) (hk : va_nd isC = true ∧ va_nd isR = true ∧ ∀ i ∈ isR, i ∉ isC) (hn : As.length = np) (hst : st0 = As.reverse ++ rest) (hW : (rest.map fun v => v.category).sum ≤ 8) (hR : zz_rm R rm nL' cells slots) (hdg : decode cc pc = .ok (.invokestatic index, 3))
    (kk : ∀ (r : Int64) (u : va_W) (H1 : Heap) (locs1 : List Loc), Post r u → zz_Z g A s.heap (wr ++ u) H1 locs1 → W p l e R s m args below meth c H1 locs1 (cells + rm.cells) (slots + rm.slots) Q (F0 m (pc + 3) ls (.long r :: rest))) : W p l e R s m args below meth c H locs cells slots Q (F0 m pc ls st0) := by
  refine zz_gol hZ isC isR hCs hRs hk.2.1 hk.2.2 (va_runS (As := As) (rest := rest) (Ts := zz_w) ⟨hC.1, hC.2.1, hC.2.2.1, hC.2.2.2.1, hC.2.2.2.2.1⟩ (hM l H.size) ⟨zz_cbB hC.2.2.2.2.1 cw.1 hR.1, hC.2.2.2.2.1 _ cw.2⟩ (zz_pre hC hZ isC hCs hk.1) rfl hn hl.1 hst (lv_room hW) hdg hR.2) kk
/-- constructors: by a plain link; by a nest mate's -/
theorem zz_vI {As : List Value} {b : Nat} {Post : va_W → Prop} (hC : zz_C p s m args meth c g own cc nL ret) (hZ : zz_Z g A s.heap ws H locs) (hl : lv_has ls nL lv) (cw : zz_cI own index y cc' nL' np) (hM : zz_V g y (.code y cc' nL' none) rm (.ref b :: As) wc Post)
    (isC isR : List Nat) (hCs : isC.map (fun i => ws[i]?) = wc.map some) (hRs : isR.map (fun i => ws[i]?) = wr.map some) (hk : va_nd isC = true ∧ va_nd isR = true ∧ ∀ i ∈ isR, i ∉ isC) (hn : As.length = np) (hst : st0 = As.reverse ++ .ref b :: rest) (hW : (rest.map fun v => v.category).sum ≤ 8) (hR : zz_rm R rm nL' cells slots) (hdg : decode cc pc = .ok (.invokespecial index, 3))
    (kk : ∀ (u : va_W) (H1 : Heap) (locs1 : List Loc), Post u → zz_Z g A s.heap (wr ++ u) H1 locs1 → W p l e R s m args below meth c H1 locs1 (cells + rm.cells) (slots + rm.slots) Q (F0 m (pc + 3) ls rest)) : W p l e R s m args below meth c H locs cells slots Q (F0 m pc ls st0) := by
  refine zz_gov hZ isC isR hCs hRs hk.2.1 hk.2.2 (va_runI (As := As) (rest := rest) (Ts := zz_w) ⟨hC.1, hC.2.1, hC.2.2.1, hC.2.2.2.1, hC.2.2.2.2.1⟩ (hM l H.size) ⟨zz_cbB hC.2.2.2.2.1 cw.1 hR.1, cw.2.1, hC.2.2.2.2.1 _ cw.2.2⟩ (zz_pre hC hZ isC hCs hk.1) rfl hn hl.1 hst (lv_room hW) hdg hR.2) kk
theorem zz_vN {As : List Value} {b : Nat} {host : String} {Post : va_W → Prop} (hC : zz_C p s m args meth c g own cc nL ret) (hZ : zz_Z g A s.heap ws H locs) (hl : lv_has ls nL lv) (cw : zz_cN own index y host cc' nL' np) (hM : zz_V g y (.code y cc' nL' none) rm (.ref b :: As) wc Post)
    (isC isR : List Nat) (hCs : isC.map (fun i => ws[i]?) = wc.map some) (hRs : isR.map (fun i => ws[i]?) = wr.map some) (hk : va_nd isC = true ∧ va_nd isR = true ∧ ∀ i ∈ isR, i ∉ isC) (hn : As.length = np) (hst : st0 = As.reverse ++ .ref b :: rest) (hW : (rest.map fun v => v.category).sum ≤ 8) (hR : zz_rm R rm nL' cells slots) (hdg : decode cc pc = .ok (.invokespecial index, 3))
    (kk : ∀ (u : va_W) (H1 : Heap) (locs1 : List Loc), Post u → zz_Z g A s.heap (wr ++ u) H1 locs1 → W p l e R s m args below meth c H1 locs1 (cells + rm.cells) (slots + rm.slots) Q (F0 m (pc + 3) ls rest)) : W p l e R s m args below meth c H locs cells slots Q (F0 m pc ls st0) := by
  obtain ⟨c1, c2, c3, c4, c5, c6⟩ := cw
  refine zz_gov hZ isC isR hCs hRs hk.2.1 hk.2.2 (va_runIN (As := As) (rest := rest) (Ts := zz_w) (host := host) ⟨hC.1, hC.2.1, hC.2.2.1, hC.2.2.2.1, hC.2.2.2.2.1⟩ (hM l H.size) ⟨va_cnB np hC.2.2.2.2.1 (zz_good c2) rfl rfl rfl (hC.2.2.2.2.2.2.2.2.1 _ c1) (hC.2.2.2.2.1 _ c3) c4 hR.1, c5, hC.2.2.2.2.1 _ c6⟩ (zz_pre hC hZ isC hCs hk.1) rfl hn hl.1 hst (lv_room hW) hdg hR.2) kk
end zzCalls
section zzHeap
variable {p : Program} {l : Launch} {e : Env} {R : Room} {s : State} {m : MethodId} {args : Array Value} {below : List Frame} {meth : Method} {c : Code} {H : Heap} {locs : List Loc} {cells slots : Nat} {Q : State → Prop}
variable {cc : ByteArray} {pc : Nat} {ls : Array Slot} {rest : List Value} {g : zz_G} {A : Nat → Prop} {a : Nat} {ws : va_W} {own : String} {nL index ci k : Nat} {ret : Option FieldType}
/-- a field, as the tables tell it: of the class ci its k-th -/
def zz_f (own : String) (index ci k : Nat) : Prop := ∃ (C : String) (T : u_T) (N : Nat), classes[ci]? = some (C, T, N) ∧ (∀ w ∈ u_ws C T N, w ∈ zz_w) ∧ k < N ∧ Cond.fieldLink own index (T k).1 (T k).2.1 (T k).2.2.1 ∈ zz_w
def zz_fw (own : String) (index ci k : Nat) (fin : Bool) (ty : FieldType) : Prop := ∃ (C : String) (T : u_T) (N : Nat) (ty0 : Nat → FieldType), classes[ci]? = some (C, T, N) ∧ (∀ w ∈ u_ws C T N, w ∈ zz_w) ∧ k < N ∧ Cond.fieldLink own index (T k).1 (T k).2.1 (T k).2.2.1 ∈ zz_w ∧
  (∀ k, k < N → parseFieldDescriptor (T k).2.2.1 = some (ty0 k)) ∧ (∀ a, a < N → ∀ b, b < N → a ≠ b → (T a).2.1 ≠ (T b).2.1) ∧ (T k).2.2.2 = fin ∧ parseFieldDescriptor (T k).2.2.1 = some ty ∧ (fin = true → (T k).1 = own)
theorem zz_get (hC : zz_C p s m args meth c g own cc nL ret) (hZ : zz_Z g A s.heap ws H locs) (q0 : Nat) {fs : List Value} (he : ws[q0]? = some (a, .inr (ci, fs))) (hf : zz_f own index ci k) {v : Value} (hv : fs[k]? = some v) (hdg : decode cc pc = .ok (.getfield index, 3))
    (kk : W p l e R s m args below meth c H locs cells slots Q (F0 m (pc + 3) ls (v :: rest))) : W p l e R s m args below meth c H locs cells slots Q (F0 m pc ls (.ref a :: rest)) := by
  obtain ⟨C, T, N, f1, f2, f3, f4⟩ := hf
  exact va_get hC.1 hC.2.1 hC.2.2.2.2.1 f2 hC.2.2.2.1 hC.2.2.2.2.2.2.2.1 hZ.1 q0 he f1 k f3 (hC.2.2.2.2.1 _ f4) (fun _ h => h) hv hdg kk
theorem zz_put {x : Int32} (hC : zz_C p s m args meth c g own cc nL ret) (hZ : zz_Z g A s.heap ws H locs) (q0 : Nat) {fs : List Value} (he : ws[q0]? = some (a, .inr (ci, fs))) (hf : zz_fw own index ci k false .int) (hl : k < fs.length) (hdg : decode cc pc = .ok (.putfield index, 3))
    (kk : ∀ (H1 : Heap) (locs1 : List Loc), zz_Z g A s.heap (ws.set q0 (a, .inr (ci, fs.set k (.int x)))) H1 locs1 → W p l e R s m args below meth c H1 locs1 cells slots Q (F0 m (pc + 3) ls rest)) : W p l e R s m args below meth c H locs cells slots Q (F0 m pc ls (.int x :: .ref a :: rest)) := by
  obtain ⟨C, T, N, ty0, f1, f2, f3, f4, f5, f6, f7, f8, -⟩ := hf
  obtain ⟨hP, hD, hS, hA⟩ := hZ
  exact va_put (v := .int x) hC.1 hC.2.1 hC.2.2.2.2.1 f2 ty0 f5 f6 hC.2.2.2.1 hC.2.2.2.2.2.2.2.1 hP hD hS q0 he f1 k f3 (hC.2.2.2.2.1 _ f4) (fun _ h => h) f7 f8 rfl rfl hl hdg (fun H1 locs1 a1 a2 a3 => kk H1 locs1 ⟨a1, a2, a3, hA⟩)
theorem zz_putF {v : Value} {ty : FieldType} (hC : zz_C p s m args meth c g own cc nL ret) (hin : meth.name = "<init>") (hZ : zz_Z g A s.heap ws H locs) (q0 : Nat) {fs : List Value} (he : ws[q0]? = some (a, .inr (ci, fs))) (hf : zz_fw own index ci k true ty) (hn : narrow ty v = v) (hfit : fits ty v = true) (hl : k < fs.length) (hdg : decode cc pc = .ok (.putfield index, 3))
    (kk : ∀ (H1 : Heap) (locs1 : List Loc), zz_Z g A s.heap (ws.set q0 (a, .inr (ci, fs.set k v))) H1 locs1 → W p l e R s m args below meth c H1 locs1 cells slots Q (F0 m (pc + 3) ls rest)) : W p l e R s m args below meth c H locs cells slots Q (F0 m pc ls (v :: .ref a :: rest)) := by
  obtain ⟨C, T, N, ty0, f1, f2, f3, f4, f5, f6, f7, f8, f9⟩ := hf
  obtain ⟨hP, hD, hS, hA⟩ := hZ
  exact va_putF (v := v) hC.1 hC.2.1 hC.2.2.2.2.1 f2 ty0 f5 f6 hC.2.2.2.1 hC.2.2.2.2.2.2.2.1 hP hD hS q0 he f1 k f3 (hC.2.2.2.2.1 _ f4) (fun _ h => h) f7 hin (f9 rfl) f8 hn hfit hl hdg (fun H1 locs1 a1 a2 a3 => kk H1 locs1 ⟨a1, a2, a3, hA⟩)
theorem zz_iald (hC : zz_C p s m args meth c g own cc nL ret) (hZ : zz_Z g A s.heap ws H locs) (q0 : Nat) {n : Nat} {f : Nat → Int32} (ha : ws[q0]? = some (a, .inl (g.2.1, n, .inl f))) {i : Int32} (hin : vp_in i n) (hdg : decode cc pc = .ok (.iaload, 1))
    (kk : W p l e R s m args below meth c H locs cells slots Q (F0 m (pc + 1) ls (.int (f i.toNatClampNeg) :: rest))) : W p l e R s m args below meth c H locs cells slots Q (F0 m pc ls (.int i :: .ref a :: rest)) :=
  va_iald hC.1 hC.2.1 hC.2.2.2.2.2.2.2.1 hZ.1 q0 0 ha rfl hin hdg kk
theorem zz_lald (hC : zz_C p s m args meth c g own cc nL ret) (hZ : zz_Z g A s.heap ws H locs) (q0 : Nat) {n : Nat} {f : Nat → Int64} (ha : ws[q0]? = some (a, .inl (g.2.2.1, n, .inr (.inl f)))) {i : Int32} (hin : vp_in i n) (hdg : decode cc pc = .ok (.laload, 1))
    (kk : W p l e R s m args below meth c H locs cells slots Q (F0 m (pc + 1) ls (.long (f i.toNatClampNeg) :: rest))) : W p l e R s m args below meth c H locs cells slots Q (F0 m pc ls (.int i :: .ref a :: rest)) :=
  va_lald hC.1 hC.2.1 hC.2.2.2.2.2.2.2.1 hZ.1 q0 1 ha rfl hin hdg kk
theorem zz_zald (hC : zz_C p s m args meth c g own cc nL ret) (hZ : zz_Z g A s.heap ws H locs) (q0 : Nat) {n : Nat} {f : Nat → Int32} (ha : ws[q0]? = some (a, .inl (g.2.2.2.1, n, .inl f))) {i : Int32} (hin : vp_in i n) (hdg : decode cc pc = .ok (.baload, 1))
    (kk : W p l e R s m args below meth c H locs cells slots Q (F0 m (pc + 1) ls (.int (f i.toNatClampNeg) :: rest))) : W p l e R s m args below meth c H locs cells slots Q (F0 m pc ls (.int i :: .ref a :: rest)) :=
  va_zald hC.1 hC.2.1 hC.2.2.2.2.2.2.2.1 hZ.1 q0 2 ha rfl hin hdg kk
theorem zz_aald (hC : zz_C p s m args meth c g own cc nL ret) (hZ : zz_Z g A s.heap ws H locs) (q0 : Nat) {n : Nat} {f : Nat → Option Nat} (ha : ws[q0]? = some (a, .inl (g.2.2.2.2, n, .inr (.inr (.inr (.inr f)))))) {i : Int32} (hin : vp_in i n) (hdg : decode cc pc = .ok (.aaload, 1))
    (kk : W p l e R s m args below meth c H locs cells slots Q (F0 m (pc + 1) ls (va_rf (f i.toNatClampNeg) :: rest))) : W p l e R s m args below meth c H locs cells slots Q (F0 m pc ls (.int i :: .ref a :: rest)) :=
  va_aldq hC.1 hC.2.1 hC.2.2.2.2.2.2.2.1 hZ.1 q0 3 ha rfl hin hdg kk
theorem zz_iast (hC : zz_C p s m args meth c g own cc nL ret) (hZ : zz_Z g A s.heap ws H locs) (q0 : Nat) {n : Nat} {f : Nat → Int32} (ha : ws[q0]? = some (a, .inl (g.2.1, n, .inl f))) {i x : Int32} (hin : vp_in i n) (hdg : decode cc pc = .ok (.iastore, 1))
    (kk : ∀ (H1 : Heap) (locs1 : List Loc), zz_Z g A s.heap (ws.set q0 (a, .inl (g.2.1, n, .inl (upd f i.toNatClampNeg x)))) H1 locs1 → W p l e R s m args below meth c H1 locs1 cells slots Q (F0 m (pc + 1) ls rest)) : W p l e R s m args below meth c H locs cells slots Q (F0 m pc ls (.int x :: .int i :: .ref a :: rest)) :=
  va_iast hC.1 hC.2.1 hC.2.2.2.2.2.2.2.1 hZ.1 hZ.2.1 hZ.2.2.1 q0 0 ha rfl hin hdg (fun H1 locs1 a1 a2 a3 => kk H1 locs1 ⟨a1, a2, a3, hZ.2.2.2⟩)
theorem zz_zast (hC : zz_C p s m args meth c g own cc nL ret) (hZ : zz_Z g A s.heap ws H locs) (q0 : Nat) {n : Nat} {f : Nat → Int32} (ha : ws[q0]? = some (a, .inl (g.2.2.2.1, n, .inl f))) {i x : Int32} (hin : vp_in i n) (hdg : decode cc pc = .ok (.bastore, 1))
    (kk : ∀ (H1 : Heap) (locs1 : List Loc), zz_Z g A s.heap (ws.set q0 (a, .inl (g.2.2.2.1, n, .inl (upd f i.toNatClampNeg (x &&& 1))))) H1 locs1 → W p l e R s m args below meth c H1 locs1 cells slots Q (F0 m (pc + 1) ls rest)) : W p l e R s m args below meth c H locs cells slots Q (F0 m pc ls (.int x :: .int i :: .ref a :: rest)) :=
  va_zast hC.1 hC.2.1 hC.2.2.2.2.2.2.2.1 hZ.1 hZ.2.1 hZ.2.2.1 q0 2 ha rfl hin hdg (fun H1 locs1 a1 a2 a3 => kk H1 locs1 ⟨a1, a2, a3, hZ.2.2.2⟩)
theorem zz_last (hC : zz_C p s m args meth c g own cc nL ret) (hZ : zz_Z g A s.heap ws H locs) (q0 : Nat) {n : Nat} {f : Nat → Int64} (ha : ws[q0]? = some (a, .inl (g.2.2.1, n, .inr (.inl f)))) {i : Int32} {x : Int64} (hin : vp_in i n) (hdg : decode cc pc = .ok (.lastore, 1))
    (kk : ∀ (H1 : Heap) (locs1 : List Loc), zz_Z g A s.heap (ws.set q0 (a, .inl (g.2.2.1, n, .inr (.inl (vp_updL f i.toNatClampNeg x))))) H1 locs1 → W p l e R s m args below meth c H1 locs1 cells slots Q (F0 m (pc + 1) ls rest)) : W p l e R s m args below meth c H locs cells slots Q (F0 m pc ls (.long x :: .int i :: .ref a :: rest)) :=
  va_last hC.1 hC.2.1 hC.2.2.2.2.2.2.2.1 hZ.1 hZ.2.1 hZ.2.2.1 q0 1 ha rfl hin hdg (fun H1 locs1 a1 a2 a3 => kk H1 locs1 ⟨a1, a2, a3, hZ.2.2.2⟩)
theorem zz_RA {U : State} {c1 c2 : ClassId} {ty : FieldType} (h1 : va_RA U c1 ty) (h2 : va_RA U c2 ty) : c1 = c2 := by
  cases ty with
  | object C =>
    obtain ⟨_, _, _, _, _, h4⟩ := h1
    obtain ⟨_, _, _, _, _, h4'⟩ := h2
    exact Option.some.inj (h4.symm.trans h4')
  | _ => exact Option.some.inj (h1.symm.trans h2)
theorem zz_newi {n : Int32} {N' : Nat} (hC : zz_C p s m args meth c g own cc nL ret) (hZ : zz_Z g A s.heap ws H locs) (hin : Cond.arrayClass .int ∈ zz_w) (hn : ¬ n < 0) (hN : n.toNatClampNeg = N') (hb : N' * 4 ≤ 536870912) (hcells : cells + 1 ≤ R.cells) (hslots : slots + N' ≤ R.slots) (hdg : decode cc pc = .ok (.newarray .int, 2))
    (kk : ∀ (q : Nat) (H1 : Heap), zz_Z g A s.heap (ws ++ [(q, .inl (g.2.1, N', .inl (fun _ => 0)))]) H1 locs → W p l e R s m args below meth c H1 locs (cells + 1) (slots + N') Q (F0 m (pc + 2) ls (.ref q :: rest))) : W p l e R s m args below meth c H locs cells slots Q (F0 m pc ls (.int n :: rest)) := by
  obtain ⟨hP, hD, hS, hA⟩ := hZ
  have hK := hC.2.2.2.2.2.2.2.1
  refine va_newa (atype := .int) (ty := .int) (a0 := (N', .inl (fun _ => 0))) hC.1 hC.2.1 (hC.2.2.2.2.1 _ hin) rfl hK hP hD hS hA (fun cA => rfl) hn hN hb hcells hslots hdg (fun q cA H1 k1 k2 k3 k4 => ?_)
  have e : cA = g.2.1 := zz_RA (k1.2 4 _ rfl).2 (hK.2 0 _ rfl).2
  subst e
  exact kk q H1 ⟨k2, k3, k4, hA⟩
theorem zz_newl {n : Int32} {N' : Nat} (hC : zz_C p s m args meth c g own cc nL ret) (hZ : zz_Z g A s.heap ws H locs) (hin : Cond.arrayClass .long ∈ zz_w) (hn : ¬ n < 0) (hN : n.toNatClampNeg = N') (hb : N' * 8 ≤ 536870912) (hcells : cells + 1 ≤ R.cells) (hslots : slots + N' ≤ R.slots) (hdg : decode cc pc = .ok (.newarray .long, 2))
    (kk : ∀ (q : Nat) (H1 : Heap), zz_Z g A s.heap (ws ++ [(q, .inl (g.2.2.1, N', .inr (.inl (fun _ => 0))))]) H1 locs → W p l e R s m args below meth c H1 locs (cells + 1) (slots + N') Q (F0 m (pc + 2) ls (.ref q :: rest))) : W p l e R s m args below meth c H locs cells slots Q (F0 m pc ls (.int n :: rest)) := by
  obtain ⟨hP, hD, hS, hA⟩ := hZ
  have hK := hC.2.2.2.2.2.2.2.1
  refine va_newa (atype := .long) (ty := .long) (a0 := (N', .inr (.inl (fun _ => 0)))) hC.1 hC.2.1 (hC.2.2.2.2.1 _ hin) rfl hK hP hD hS hA (fun cA => rfl) hn hN hb hcells hslots hdg (fun q cA H1 k1 k2 k3 k4 => ?_)
  have e : cA = g.2.2.1 := zz_RA (k1.2 4 _ rfl).2 (hK.2 1 _ rfl).2
  subst e
  exact kk q H1 ⟨k2, k3, k4, hA⟩
theorem zz_newz {n : Int32} {N' : Nat} (hC : zz_C p s m args meth c g own cc nL ret) (hZ : zz_Z g A s.heap ws H locs) (hin : Cond.arrayClass .boolean ∈ zz_w) (hn : ¬ n < 0) (hN : n.toNatClampNeg = N') (hb : N' * 1 ≤ 536870912) (hcells : cells + 1 ≤ R.cells) (hslots : slots + N' ≤ R.slots) (hdg : decode cc pc = .ok (.newarray .boolean, 2))
    (kk : ∀ (q : Nat) (H1 : Heap), zz_Z g A s.heap (ws ++ [(q, .inl (g.2.2.2.1, N', .inl (fun _ => 0)))]) H1 locs → W p l e R s m args below meth c H1 locs (cells + 1) (slots + N') Q (F0 m (pc + 2) ls (.ref q :: rest))) : W p l e R s m args below meth c H locs cells slots Q (F0 m pc ls (.int n :: rest)) := by
  obtain ⟨hP, hD, hS, hA⟩ := hZ
  have hK := hC.2.2.2.2.2.2.2.1
  refine va_newa (atype := .boolean) (ty := .boolean) (a0 := (N', .inl (fun _ => 0))) hC.1 hC.2.1 (hC.2.2.2.2.1 _ hin) rfl hK hP hD hS hA (fun cA => rfl) hn hN hb hcells hslots hdg (fun q cA H1 k1 k2 k3 k4 => ?_)
  have e : cA = g.2.2.2.1 := zz_RA (k1.2 4 _ rfl).2 (hK.2 2 _ rfl).2
  subst e
  exact kk q H1 ⟨k2, k3, k4, hA⟩
theorem zz_newq {n : Int32} {N' : Nat} (hC : zz_C p s m args meth c g own cc nL ret) (hZ : zz_Z g A s.heap ws H locs) (hin : Cond.classLink own index zz_RM ∈ zz_w) (hn : ¬ n < 0) (hN : n.toNatClampNeg = N') (hb : N' * 4 ≤ 536870912) (hcells : cells + 1 ≤ R.cells) (hslots : slots + N' ≤ R.slots) (hdg : decode cc pc = .ok (.anewarray index, 3))
    (kk : ∀ (q : Nat) (H1 : Heap), zz_Z g A s.heap (ws ++ [(q, .inl (g.2.2.2.2, N', .inr (.inr (.inr (.inr (fun _ => none))))))]) H1 locs → W p l e R s m args below meth c H1 locs (cells + 1) (slots + N') Q (F0 m (pc + 3) ls (.ref q :: rest))) : W p l e R s m args below meth c H locs cells slots Q (F0 m pc ls (.int n :: rest)) := by
  obtain ⟨hP, hD, hS, hA⟩ := hZ
  have hK := hC.2.2.2.2.2.2.2.1
  refine va_newq hC.1 hC.2.1 hC.2.2.2.1 (hC.2.2.2.2.1 _ hin) hC.2.2.2.2.2.2.2.2.2 hK hP hD hS hA hn hN hb hcells hslots hdg (fun q cA H1 k1 k2 k3 k4 => ?_)
  have e : cA = g.2.2.2.2 := zz_RA (k1.2 4 _ rfl).2 (hK.2 3 _ rfl).2
  subst e
  exact kk q H1 ⟨k2, k3, k4, hA⟩
/-- a class that can be made, as the tables tell it -/
def zz_n (own : String) (index ci N : Nat) (fs : List Value) : Prop := ∃ (C : String) (T : u_T) (ty : Nat → FieldType), classes[ci]? = some (C, T, N) ∧ (∀ w ∈ u_ws C T N, w ∈ zz_w) ∧ (∀ k, k < N → parseFieldDescriptor (T k).2.2.1 = some (ty k)) ∧ Cond.classLink own index C ∈ zz_w ∧ Cond.instantiable C N ∈ zz_w ∧ Cond.initialized C ∈ zz_w ∧ ∀ j, j < N → defaultValue (ty j) = vp_V fs j
theorem zz_new {N : Nat} {fs : List Value} (hC : zz_C p s m args meth c g own cc nL ret) (hZ : zz_Z g A s.heap ws H locs) (hf : zz_n own index ci N fs) (hcells : cells + 1 ≤ R.cells) (hslots : slots + N ≤ R.slots) (hdg : decode cc pc = .ok (.new index, 3))
    (kk : ∀ (q : Nat) (H1 : Heap), zz_Z g A s.heap (ws ++ [(q, .inr (ci, fs))]) H1 locs → W p l e R s m args below meth c H1 locs (cells + 1) (slots + N) Q (F0 m (pc + 3) ls (.ref q :: rest))) : W p l e R s m args below meth c H locs cells slots Q (F0 m pc ls rest) := by
  obtain ⟨C, T, ty, f1, f2, f3, f4, f5, f6, f7⟩ := hf
  obtain ⟨hP, hD, hS, hA⟩ := hZ
  exact va_new hC.1 hC.2.1 hC.2.2.2.2.1 f2 ty f3 hC.2.2.2.1 (hC.2.2.2.2.1 _ f4) (hC.2.2.2.2.1 _ f5) (hC.2.2.2.2.1 _ f6) hC.2.2.2.2.2.2.2.1 hP hD hS hA f1 f7 hcells hslots hdg (fun q H1 a1 a2 a3 => kk q H1 ⟨a1, a2, a3, hA⟩)
theorem zz_obj (hC : zz_C p s m args meth c g own cc nL ret) {lv : List (Nat × Value)} (hl : lv_has ls nL lv) (hin : Cond.methodLink own index objectInit ∈ zz_w) (hi2 : Cond.instanceMethod objectInit ∈ zz_w) (hi3 : Cond.code objectInit ⟨#[0xb1]⟩ 1 none ∈ zz_w) (hf : 1 ≤ R.frames) (hlo : (rest.map fun v => v.category).sum + 12 ≤ R.locals) (hdg : decode cc pc = .ok (.invokespecial index, 3))
    (kk : W p l e R s m args below meth c H locs cells slots Q (F0 m (pc + 3) ls rest)) : W p l e R s m args below meth c H locs cells slots Q (F0 m pc ls (.ref a :: rest)) := by
  refine W.objInit hC.1 hC.2.1 hC.2.2.2.1 (hC.2.2.2.2.1 _ hin) (hC.2.2.2.2.1 _ hi2) (hC.2.2.2.2.1 _ hi3) rfl (by rw [hC.2.2.1]; exact hl.1) rfl hdg hf (by simpa [JFrame.monitorRoom] using hlo) kk
/-- lcmp and the branch behind it -/
theorem zz_lcmp_lt {x y : Int64} {off : Int} {tgt : Nat} (hC : zz_C p s m args meth c g own cc nL ret) (h1 : decode cc pc = .ok (.lcmp, 1)) (h2 : decode cc (pc + 1) = .ok (.ifCond .lt off, 3)) (ht : ((pc + 1 : Nat) : Int) + off = (tgt : Int))
    (kt : x < y → W p l e R s m args below meth c H locs cells slots Q (F0 m tgt ls rest)) (kf : ¬ x < y → W p l e R s m args below meth c H locs cells slots Q (F0 m (pc + 4) ls rest)) : W p l e R s m args below meth c H locs cells slots Q (F0 m pc ls (.long y :: .long x :: rest)) :=
  W.lcmp hC.1 hC.2.1 h1 (lv_if_lt hC.1 hC.2.1 h2 ht (fun q => kt ((lg_cmp_lt x y).mp q)) (fun q => kf (fun z => q ((lg_cmp_lt x y).mpr z))))
theorem zz_lcmp_ge {x y : Int64} {off : Int} {tgt : Nat} (hC : zz_C p s m args meth c g own cc nL ret) (h1 : decode cc pc = .ok (.lcmp, 1)) (h2 : decode cc (pc + 1) = .ok (.ifCond .ge off, 3)) (ht : ((pc + 1 : Nat) : Int) + off = (tgt : Int))
    (kt : y ≤ x → W p l e R s m args below meth c H locs cells slots Q (F0 m tgt ls rest)) (kf : ¬ y ≤ x → W p l e R s m args below meth c H locs cells slots Q (F0 m (pc + 4) ls rest)) : W p l e R s m args below meth c H locs cells slots Q (F0 m pc ls (.long y :: .long x :: rest)) :=
  W.lcmp hC.1 hC.2.1 h1 (lv_if_ge hC.1 hC.2.1 h2 ht (fun q => kt ((lg_cmp_ge x y).mp q)) (fun q => kf (fun z => q ((lg_cmp_ge x y).mpr z))))
theorem zz_lcmp_gt {x y : Int64} {off : Int} {tgt : Nat} (hC : zz_C p s m args meth c g own cc nL ret) (h1 : decode cc pc = .ok (.lcmp, 1)) (h2 : decode cc (pc + 1) = .ok (.ifCond .gt off, 3)) (ht : ((pc + 1 : Nat) : Int) + off = (tgt : Int))
    (kt : y < x → W p l e R s m args below meth c H locs cells slots Q (F0 m tgt ls rest)) (kf : ¬ y < x → W p l e R s m args below meth c H locs cells slots Q (F0 m (pc + 4) ls rest)) : W p l e R s m args below meth c H locs cells slots Q (F0 m pc ls (.long y :: .long x :: rest)) :=
  W.lcmp hC.1 hC.2.1 h1 (lv_if_gt hC.1 hC.2.1 h2 ht (fun q => kt ((lg_cmp_gt x y).mp q)) (fun q => kf (fun z => q ((lg_cmp_gt x y).mpr z))))
theorem zz_lcmp_le {x y : Int64} {off : Int} {tgt : Nat} (hC : zz_C p s m args meth c g own cc nL ret) (h1 : decode cc pc = .ok (.lcmp, 1)) (h2 : decode cc (pc + 1) = .ok (.ifCond .le off, 3)) (ht : ((pc + 1 : Nat) : Int) + off = (tgt : Int))
    (kt : x ≤ y → W p l e R s m args below meth c H locs cells slots Q (F0 m tgt ls rest)) (kf : ¬ x ≤ y → W p l e R s m args below meth c H locs cells slots Q (F0 m (pc + 4) ls rest)) : W p l e R s m args below meth c H locs cells slots Q (F0 m pc ls (.long y :: .long x :: rest)) :=
  W.lcmp hC.1 hC.2.1 h1 (lv_if_le hC.1 hC.2.1 h2 ht (fun q => kt ((lg_cmp_le x y).mp q)) (fun q => kf (fun z => q ((lg_cmp_le x y).mpr z))))
theorem zz_lcmp_eq {x y : Int64} {off : Int} {tgt : Nat} (hC : zz_C p s m args meth c g own cc nL ret) (h1 : decode cc pc = .ok (.lcmp, 1)) (h2 : decode cc (pc + 1) = .ok (.ifCond .eq off, 3)) (ht : ((pc + 1 : Nat) : Int) + off = (tgt : Int))
    (kt : x = y → W p l e R s m args below meth c H locs cells slots Q (F0 m tgt ls rest)) (kf : ¬ x = y → W p l e R s m args below meth c H locs cells slots Q (F0 m (pc + 4) ls rest)) : W p l e R s m args below meth c H locs cells slots Q (F0 m pc ls (.long y :: .long x :: rest)) :=
  W.lcmp hC.1 hC.2.1 h1 (lv_if_eq hC.1 hC.2.1 h2 ht (fun q => kt ((lg_cmp_eq x y).mp q)) (fun q => kf (fun z => q ((lg_cmp_eq x y).mpr z))))
theorem zz_lcmp_ne {x y : Int64} {off : Int} {tgt : Nat} (hC : zz_C p s m args meth c g own cc nL ret) (h1 : decode cc pc = .ok (.lcmp, 1)) (h2 : decode cc (pc + 1) = .ok (.ifCond .ne off, 3)) (ht : ((pc + 1 : Nat) : Int) + off = (tgt : Int))
    (kt : ¬ x = y → W p l e R s m args below meth c H locs cells slots Q (F0 m tgt ls rest)) (kf : x = y → W p l e R s m args below meth c H locs cells slots Q (F0 m (pc + 4) ls rest)) : W p l e R s m args below meth c H locs cells slots Q (F0 m pc ls (.long y :: .long x :: rest)) :=
  W.lcmp hC.1 hC.2.1 h1 (lv_if_ne hC.1 hC.2.1 h2 ht (fun q => kt (fun z => q ((lg_cmp_eq x y).mpr z))) (fun q => kf ((lg_cmp_eq x y).mp q)))
end zzHeap
section zzRefs
variable {p : Program} {l : Launch} {e : Env} {R : Room} {s : State} {m : MethodId} {args : Array Value} {below : List Frame} {meth : Method} {c : Code} {H : Heap} {locs : List Loc} {cells slots : Nat} {Q : State → Prop}
variable {cc : ByteArray} {pc : Nat} {ls : Array Slot} {rest : List Value} {g : zz_G} {A : Nat → Prop} {a : Nat} {ws : va_W} {own : String} {nL : Nat} {ret : Option FieldType}
theorem zz_topv {x v : Value} (h : x = v) (k : W p l e R s m args below meth c H locs cells slots Q (F0 m pc ls (v :: rest))) : W p l e R s m args below meth c H locs cells slots Q (F0 m pc ls (x :: rest)) := h ▸ k
theorem zz_aast (hC : zz_C p s m args meth c g own cc nL ret) (hZ : zz_Z g A s.heap ws H locs) (q0 qk ci : Nat) {T : u_T} {N n v : Nat} {vs : List Value} {f : Nat → Option Nat} (ha : ws[q0]? = some (a, .inl (g.2.2.2.2, n, .inr (.inr (.inr (.inr f)))))) (hv : ws[qk]? = some (v, .inr (ci, vs))) (hc : classes[ci]? = some (zz_RM, T, N)) {i : Int32} (hin : vp_in i n) (hdg : decode cc pc = .ok (.aastore, 1))
    (kk : ∀ (H1 : Heap) (locs1 : List Loc), zz_Z g A s.heap (ws.set q0 (a, .inl (g.2.2.2.2, n, .inr (.inr (.inr (.inr (va_up f i.toNatClampNeg (some v)))))))) H1 locs1 → W p l e R s m args below meth c H1 locs1 cells slots Q (F0 m (pc + 1) ls rest)) : W p l e R s m args below meth c H locs cells slots Q (F0 m pc ls (.ref v :: .int i :: .ref a :: rest)) :=
  va_astq (r := (zz_RM, T, N)) hC.1 hC.2.1 hC.2.2.2.2.2.2.2.1 hZ.1 hZ.2.1 hZ.2.2.1 q0 3 qk ci ha rfl hv hc hin hdg (fun H1 locs1 a1 a2 a3 => kk H1 locs1 ⟨a1, a2, a3, hZ.2.2.2⟩)
end zzRefs
theorem zl_nn {k : Int32} (h : ¬ k < 0) : 0 ≤ k := by
  rw [Int32.lt_iff_toInt_lt] at h
  rw [Int32.le_iff_toInt_le]
  omega
end
section
theorem dX7_fail_0 : decode cX7_fail 0 = .ok (.aload_n 0, 1) := by decide +kernel
theorem dX7_fail_1 : decode cX7_fail 1 = .ok (.iload_n 1, 1) := by decide +kernel
theorem dX7_fail_2 : decode cX7_fail 2 = .ok (.putfield 56, 3) := by decide +kernel
theorem zk_207 : Cond.fieldLink RX7 56 RX7 "latest" "I" ∈ zz_w := zz_in (List.mem_append_right _ (List.mem_append_left _ (List.mem_of_getElem? (i := 207) (by decide +kernel)))) rfl
theorem zi_X7_a : ∀ w ∈ u_ws RX7 TX7 8, w ∈ lw_tbl := by decide +kernel
theorem zi_X7_b : ∀ w ∈ u_ws RX7 TX7 8, goodWord w = true := by decide +kernel
theorem zi_X7 : ∀ w ∈ u_ws RX7 TX7 8, w ∈ zz_w := fun w h => zz_in (zi_X7_a w h) (zi_X7_b w h)
theorem zu_X7_56 : zz_fw RX7 56 6 7 false .int := ⟨RX7, TX7, 8, tyX7, rfl, zi_X7, by decide, zk_207, tyX7_ok, nmX7, rfl, by decide +kernel, fun h => by cases h⟩
theorem dX7_fail_5 : decode cX7_fail 5 = .ok (.iload_n 1, 1) := by decide +kernel
theorem dX7_fail_6 : decode cX7_fail 6 = .ok (.ineg, 1) := by decide +kernel
theorem dX7_fail_7 : decode cX7_fail 7 = .ok (.ireturn, 1) := by decide +kernel
abbrev rm_co_fail : Room := { frames := 0, cells := 0, slots := 0, locals := 0 }
abbrev po_co_fail (g : zz_G) (h0 : Nat) (st : Nat) (mk : Nat) (lk : Nat) (ch : Nat) (ru : Nat) (mr : Nat) (md : Int32) (la : Int32) (k : Int32) : Int32 → va_W → Prop := fun (r : Int32) (u : va_W) => r = -k ∧ u = [(h0, .inr (6, [.ref st, .ref mk, .ref lk, .ref ch, .ref ru, .ref mr, .int md, .int k]))]
set_option maxHeartbeats 4000000 in
set_option maxRecDepth 100000 in
theorem co_fail (g : zz_G) (h0 : Nat) (st : Nat) (mk : Nat) (lk : Nat) (ch : Nat) (ru : Nat) (mr : Nat) (md : Int32) (la : Int32) (k : Int32) : zz_I g yX7_fail (.code yX7_fail cX7_fail 2 (some .int)) rm_co_fail [.ref h0, .int k] [(h0, .inr (6, [.ref st, .ref mk, .ref lk, .ref ch, .ref ru, .ref mr, .int md, .int la]))] (po_co_fail g h0 st mk lk ch ru mr md la k) := by
  refine zz_I.intro (own := RX7) (cc := cX7_fail) (nL := 2) (by decide) rfl (Nat.le_of_ble_eq_true rfl) ?_
  intro p l e s m args below meth c A H locs ls hC hnm hZ hl
  obtain ⟨hx, hb, hml, hown, hts, hr, hlocks, hK⟩ := id hC
  have hl : lv_has ls 2 [(0, .ref h0), (1, .int k)] := hl
  have hZ : zz_Z g A s.heap [(h0, .inr (6, [.ref st, .ref mk, .ref lk, .ref ch, .ref ru, .ref mr, .int md, .int la]))] H locs := hZ
  refine lv_aload_n hx hb dX7_fail_0 rfl (lv_at hl 0 rfl) ?_
  refine lv_iload_n hx hb dX7_fail_1 rfl (lv_at hl 1 rfl) ?_
  refine zz_put hC hZ 0 rfl zu_X7_56 (Nat.le_of_ble_eq_true rfl) dX7_fail_2 (fun H locs hZ => ?_)
  have hZ : zz_Z g A s.heap [(h0, .inr (6, [.ref st, .ref mk, .ref lk, .ref ch, .ref ru, .ref mr, .int md, .int k]))] H locs := hZ
  refine lv_iload_n hx hb dX7_fail_5 rfl (lv_at hl 1 rfl) ?_
  refine lv_ineg hx hb dX7_fail_6 ?_
  exact zz_iret hC hZ (⟨rfl, rfl⟩) (Nat.le_of_ble_eq_true rfl) (Nat.le_of_ble_eq_true rfl) dX7_fail_7
theorem dX7_fine_0 : decode cX7_fine 0 = .ok (.aload_n 0, 1) := by decide +kernel
theorem dX7_fine_1 : decode cX7_fine 1 = .ok (.iconst 0, 1) := by decide +kernel
theorem dX7_fine_2 : decode cX7_fine 2 = .ok (.putfield 56, 3) := by decide +kernel
theorem dX7_fine_5 : decode cX7_fine 5 = .ok (.iload_n 1, 1) := by decide +kernel
theorem dX7_fine_6 : decode cX7_fine 6 = .ok (.ireturn, 1) := by decide +kernel
abbrev rm_co_fine : Room := { frames := 0, cells := 0, slots := 0, locals := 0 }
abbrev po_co_fine (g : zz_G) (h0 : Nat) (st : Nat) (mk : Nat) (lk : Nat) (ch : Nat) (ru : Nat) (mr : Nat) (md : Int32) (la : Int32) (k : Int32) : Int32 → va_W → Prop := fun (r : Int32) (u : va_W) => r = k ∧ u = [(h0, .inr (6, [.ref st, .ref mk, .ref lk, .ref ch, .ref ru, .ref mr, .int md, .int 0]))]
set_option maxHeartbeats 4000000 in
set_option maxRecDepth 100000 in
theorem co_fine (g : zz_G) (h0 : Nat) (st : Nat) (mk : Nat) (lk : Nat) (ch : Nat) (ru : Nat) (mr : Nat) (md : Int32) (la : Int32) (k : Int32) : zz_I g yX7_fine (.code yX7_fine cX7_fine 2 (some .int)) rm_co_fine [.ref h0, .int k] [(h0, .inr (6, [.ref st, .ref mk, .ref lk, .ref ch, .ref ru, .ref mr, .int md, .int la]))] (po_co_fine g h0 st mk lk ch ru mr md la k) := by
  refine zz_I.intro (own := RX7) (cc := cX7_fine) (nL := 2) (by decide) rfl (Nat.le_of_ble_eq_true rfl) ?_
  intro p l e s m args below meth c A H locs ls hC hnm hZ hl
  obtain ⟨hx, hb, hml, hown, hts, hr, hlocks, hK⟩ := id hC
  have hl : lv_has ls 2 [(0, .ref h0), (1, .int k)] := hl
  have hZ : zz_Z g A s.heap [(h0, .inr (6, [.ref st, .ref mk, .ref lk, .ref ch, .ref ru, .ref mr, .int md, .int la]))] H locs := hZ
  refine lv_aload_n hx hb dX7_fine_0 rfl (lv_at hl 0 rfl) ?_
  refine lv_iconst (v := 0) hx hb dX7_fine_1 (by decide) ?_
  refine zz_put hC hZ 0 rfl zu_X7_56 (Nat.le_of_ble_eq_true rfl) dX7_fine_2 (fun H locs hZ => ?_)
  have hZ : zz_Z g A s.heap [(h0, .inr (6, [.ref st, .ref mk, .ref lk, .ref ch, .ref ru, .ref mr, .int md, .int 0]))] H locs := hZ
  refine lv_iload_n hx hb dX7_fine_5 rfl (lv_at hl 1 rfl) ?_
  exact zz_iret hC hZ (⟨rfl, rfl⟩) (Nat.le_of_ble_eq_true rfl) (Nat.le_of_ble_eq_true rfl) dX7_fine_6
theorem dX7_noBits_0 : decode cX7_noBits 0 = .ok (.aload_n 0, 1) := by decide +kernel
theorem dX7_noBits_1 : decode cX7_noBits 1 = .ok (.iload_n 1, 1) := by decide +kernel
theorem dX7_noBits_2 : decode cX7_noBits 2 = .ok (.putfield 56, 3) := by decide +kernel
theorem dX7_noBits_5 : decode cX7_noBits 5 = .ok (.lconst 0, 1) := by decide +kernel
theorem dX7_noBits_6 : decode cX7_noBits 6 = .ok (.lreturn, 1) := by decide +kernel
abbrev rm_co_noBits : Room := { frames := 0, cells := 0, slots := 0, locals := 0 }
abbrev po_co_noBits (g : zz_G) (h0 : Nat) (st : Nat) (mk : Nat) (lk : Nat) (ch : Nat) (ru : Nat) (mr : Nat) (md : Int32) (la : Int32) (k : Int32) : Int64 → va_W → Prop := fun (r : Int64) (u : va_W) => r = 0 ∧ u = [(h0, .inr (6, [.ref st, .ref mk, .ref lk, .ref ch, .ref ru, .ref mr, .int md, .int k]))]
set_option maxHeartbeats 4000000 in
set_option maxRecDepth 100000 in
theorem co_noBits (g : zz_G) (h0 : Nat) (st : Nat) (mk : Nat) (lk : Nat) (ch : Nat) (ru : Nat) (mr : Nat) (md : Int32) (la : Int32) (k : Int32) : zz_L g yX7_noBits (.code yX7_noBits cX7_noBits 2 (some .long)) rm_co_noBits [.ref h0, .int k] [(h0, .inr (6, [.ref st, .ref mk, .ref lk, .ref ch, .ref ru, .ref mr, .int md, .int la]))] (po_co_noBits g h0 st mk lk ch ru mr md la k) := by
  refine zz_L.intro (own := RX7) (cc := cX7_noBits) (nL := 2) (by decide) rfl (Nat.le_of_ble_eq_true rfl) ?_
  intro p l e s m args below meth c A H locs ls hC hnm hZ hl
  obtain ⟨hx, hb, hml, hown, hts, hr, hlocks, hK⟩ := id hC
  have hl : lv_has ls 2 [(0, .ref h0), (1, .int k)] := hl
  have hZ : zz_Z g A s.heap [(h0, .inr (6, [.ref st, .ref mk, .ref lk, .ref ch, .ref ru, .ref mr, .int md, .int la]))] H locs := hZ
  refine lv_aload_n hx hb dX7_noBits_0 rfl (lv_at hl 0 rfl) ?_
  refine lv_iload_n hx hb dX7_noBits_1 rfl (lv_at hl 1 rfl) ?_
  refine zz_put hC hZ 0 rfl zu_X7_56 (Nat.le_of_ble_eq_true rfl) dX7_noBits_2 (fun H locs hZ => ?_)
  have hZ : zz_Z g A s.heap [(h0, .inr (6, [.ref st, .ref mk, .ref lk, .ref ch, .ref ru, .ref mr, .int md, .int k]))] H locs := hZ
  refine lv_lconst (v := 0) hx hb dX7_noBits_5 (by decide) ?_
  exact zz_lret hC hZ (⟨rfl, rfl⟩) (Nat.le_of_ble_eq_true rfl) (Nat.le_of_ble_eq_true rfl) dX7_noBits_6
theorem dX1_isKind_0 : decode cX1_isKind 0 = .ok (.iload_n 0, 1) := by decide +kernel
theorem dX1_isKind_1 : decode cX1_isKind 1 = .ok (.ifCond .lt 13, 3) := by decide +kernel
theorem dX1_isKind_14 : decode cX1_isKind 14 = .ok (.iconst 0, 1) := by decide +kernel
theorem dX1_isKind_15 : decode cX1_isKind 15 = .ok (.ireturn, 1) := by decide +kernel
theorem dX1_isKind_4 : decode cX1_isKind 4 = .ok (.iload_n 0, 1) := by decide +kernel
theorem dX1_isKind_5 : decode cX1_isKind 5 = .ok (.bipush 8, 2) := by decide +kernel
theorem dX1_isKind_7 : decode cX1_isKind 7 = .ok (.if_icmp .gt 7, 3) := by decide +kernel
theorem dX1_isKind_10 : decode cX1_isKind 10 = .ok (.iconst 1, 1) := by decide +kernel
theorem dX1_isKind_11 : decode cX1_isKind 11 = .ok (.goto 4, 3) := by decide +kernel
def fn_co_isKind (k : Int32) : Int32 := (if k < 0 then 0 else (if 8 < k then 0 else 1))
abbrev rm_co_isKind : Room := { frames := 0, cells := 0, slots := 0, locals := 0 }
abbrev po_co_isKind (g : zz_G) (k : Int32) : Int32 → va_W → Prop := fun (r : Int32) (u : va_W) => r = fn_co_isKind k ∧ u = []
set_option maxHeartbeats 4000000 in
set_option maxRecDepth 100000 in
theorem co_isKind (g : zz_G) (k : Int32) : zz_I g yX1_isKind (.code yX1_isKind cX1_isKind 1 (some .boolean)) rm_co_isKind [.int k] [] (po_co_isKind g k) := by
  refine zz_I.intro (own := RX1) (cc := cX1_isKind) (nL := 1) (by decide) rfl (Nat.le_of_ble_eq_true rfl) ?_
  intro p l e s m args below meth c A H locs ls hC hnm hZ hl
  obtain ⟨hx, hb, hml, hown, hts, hr, hlocks, hK⟩ := id hC
  have hl : lv_has ls 1 [(0, .int k)] := hl
  have hZ : zz_Z g A s.heap [] H locs := hZ
  refine lv_iload_n hx hb dX1_isKind_0 rfl (lv_at hl 0 rfl) ?_
  refine lv_if_lt (tgt := 14) hx hb dX1_isKind_1 (by decide) (fun c1 => ?_) (fun c1 => ?_)
  · refine lv_iconst (v := 0) hx hb dX1_isKind_14 (by decide) ?_
    exact zz_zret hC hZ (by decide) (⟨by show _ = _; rw [fn_co_isKind, if_pos c1], rfl⟩) (Nat.le_of_ble_eq_true rfl) (Nat.le_of_ble_eq_true rfl) dX1_isKind_15
  · refine lv_iload_n hx hb dX1_isKind_4 rfl (lv_at hl 0 rfl) ?_
    refine lv_bipush (v := 8) hx hb dX1_isKind_5 (by decide) ?_
    refine lv_icmp_gt (tgt := 14) hx hb dX1_isKind_7 (by decide) (fun c2 => ?_) (fun c2 => ?_)
    · refine lv_iconst (v := 0) hx hb dX1_isKind_14 (by decide) ?_
      exact zz_zret hC hZ (by decide) (⟨by show _ = _; rw [fn_co_isKind, if_neg c1, if_pos c2], rfl⟩) (Nat.le_of_ble_eq_true rfl) (Nat.le_of_ble_eq_true rfl) dX1_isKind_15
    · refine lv_iconst (v := 1) hx hb dX1_isKind_10 (by decide) ?_
      refine lv_goto (tgt := 15) hx hb dX1_isKind_11 (by decide) ?_
      exact zz_zret hC hZ (by decide) (⟨by show _ = _; rw [fn_co_isKind, if_neg c1, if_neg c2], rfl⟩) (Nat.le_of_ble_eq_true rfl) (Nat.le_of_ble_eq_true rfl) dX1_isKind_15
theorem dX1_reaches_0 : decode cX1_reaches 0 = .ok (.iload_n 0, 1) := by decide +kernel
theorem dX1_reaches_1 : decode cX1_reaches 1 = .ok (.iload_n 1, 1) := by decide +kernel
theorem dX1_reaches_2 : decode cX1_reaches 2 = .ok (.if_icmp .eq 13, 3) := by decide +kernel
theorem dX1_reaches_15 : decode cX1_reaches 15 = .ok (.iconst 1, 1) := by decide +kernel
theorem dX1_reaches_16 : decode cX1_reaches 16 = .ok (.ireturn, 1) := by decide +kernel
theorem dX1_reaches_5 : decode cX1_reaches 5 = .ok (.iload_n 0, 1) := by decide +kernel
theorem dX1_reaches_6 : decode cX1_reaches 6 = .ok (.iconst 2, 1) := by decide +kernel
theorem dX1_reaches_7 : decode cX1_reaches 7 = .ok (.if_icmp .ne 10, 3) := by decide +kernel
theorem dX1_reaches_17 : decode cX1_reaches 17 = .ok (.iload_n 0, 1) := by decide +kernel
theorem dX1_reaches_18 : decode cX1_reaches 18 = .ok (.iconst 1, 1) := by decide +kernel
theorem dX1_reaches_19 : decode cX1_reaches 19 = .ok (.if_icmp .lt 23, 3) := by decide +kernel
theorem dX1_reaches_42 : decode cX1_reaches 42 = .ok (.iconst 0, 1) := by decide +kernel
theorem dX1_reaches_43 : decode cX1_reaches 43 = .ok (.ireturn, 1) := by decide +kernel
theorem dX1_reaches_22 : decode cX1_reaches 22 = .ok (.iload_n 0, 1) := by decide +kernel
theorem dX1_reaches_23 : decode cX1_reaches 23 = .ok (.iload_n 1, 1) := by decide +kernel
theorem dX1_reaches_24 : decode cX1_reaches 24 = .ok (.if_icmp .ge 18, 3) := by decide +kernel
theorem dX1_reaches_27 : decode cX1_reaches 27 = .ok (.iload_n 1, 1) := by decide +kernel
theorem dX1_reaches_28 : decode cX1_reaches 28 = .ok (.iconst 4, 1) := by decide +kernel
theorem dX1_reaches_29 : decode cX1_reaches 29 = .ok (.if_icmp .lt 13, 3) := by decide +kernel
theorem dX1_reaches_32 : decode cX1_reaches 32 = .ok (.iload_n 1, 1) := by decide +kernel
theorem dX1_reaches_33 : decode cX1_reaches 33 = .ok (.bipush 7, 2) := by decide +kernel
theorem dX1_reaches_35 : decode cX1_reaches 35 = .ok (.if_icmp .gt 7, 3) := by decide +kernel
theorem dX1_reaches_38 : decode cX1_reaches 38 = .ok (.iconst 1, 1) := by decide +kernel
theorem dX1_reaches_39 : decode cX1_reaches 39 = .ok (.goto 4, 3) := by decide +kernel
theorem dX1_reaches_10 : decode cX1_reaches 10 = .ok (.iload_n 1, 1) := by decide +kernel
theorem dX1_reaches_11 : decode cX1_reaches 11 = .ok (.iconst 3, 1) := by decide +kernel
theorem dX1_reaches_12 : decode cX1_reaches 12 = .ok (.if_icmp .ne 5, 3) := by decide +kernel
def fn_co_reaches (k : Int32) (j : Int32) : Int32 := (if k = j then 1 else (if k = 2 then (if j = 3 then 1 else (if k < 1 then 0 else (if j ≤ k then 0 else (if j < 4 then 0 else (if 7 < j then 0 else 1))))) else (if k < 1 then 0 else (if j ≤ k then 0 else (if j < 4 then 0 else (if 7 < j then 0 else 1))))))
abbrev rm_co_reaches : Room := { frames := 0, cells := 0, slots := 0, locals := 0 }
abbrev po_co_reaches (g : zz_G) (k : Int32) (j : Int32) : Int32 → va_W → Prop := fun (r : Int32) (u : va_W) => r = fn_co_reaches k j ∧ u = []
set_option maxHeartbeats 4000000 in
set_option maxRecDepth 100000 in
theorem co_reaches (g : zz_G) (k : Int32) (j : Int32) : zz_I g yX1_reaches (.code yX1_reaches cX1_reaches 2 (some .boolean)) rm_co_reaches [.int k, .int j] [] (po_co_reaches g k j) := by
  refine zz_I.intro (own := RX1) (cc := cX1_reaches) (nL := 2) (by decide) rfl (Nat.le_of_ble_eq_true rfl) ?_
  intro p l e s m args below meth c A H locs ls hC hnm hZ hl
  obtain ⟨hx, hb, hml, hown, hts, hr, hlocks, hK⟩ := id hC
  have hl : lv_has ls 2 [(0, .int k), (1, .int j)] := hl
  have hZ : zz_Z g A s.heap [] H locs := hZ
  refine lv_iload_n hx hb dX1_reaches_0 rfl (lv_at hl 0 rfl) ?_
  refine lv_iload_n hx hb dX1_reaches_1 rfl (lv_at hl 1 rfl) ?_
  refine lv_icmp_eq (tgt := 15) hx hb dX1_reaches_2 (by decide) (fun c1 => ?_) (fun c1 => ?_)
  · refine lv_iconst (v := 1) hx hb dX1_reaches_15 (by decide) ?_
    exact zz_zret hC hZ (by decide) (⟨by show _ = _; rw [fn_co_reaches, if_pos c1], rfl⟩) (Nat.le_of_ble_eq_true rfl) (Nat.le_of_ble_eq_true rfl) dX1_reaches_16
  · refine lv_iload_n hx hb dX1_reaches_5 rfl (lv_at hl 0 rfl) ?_
    refine lv_iconst (v := 2) hx hb dX1_reaches_6 (by decide) ?_
    refine lv_icmp_ne (tgt := 17) hx hb dX1_reaches_7 (by decide) (fun c2 => ?_) (fun c2 => ?_)
    · refine lv_iload_n hx hb dX1_reaches_17 rfl (lv_at hl 0 rfl) ?_
      refine lv_iconst (v := 1) hx hb dX1_reaches_18 (by decide) ?_
      refine lv_icmp_lt (tgt := 42) hx hb dX1_reaches_19 (by decide) (fun c3 => ?_) (fun c3 => ?_)
      · refine lv_iconst (v := 0) hx hb dX1_reaches_42 (by decide) ?_
        exact zz_zret hC hZ (by decide) (⟨by show _ = _; rw [fn_co_reaches, if_neg c1, if_neg c2, if_pos c3], rfl⟩) (Nat.le_of_ble_eq_true rfl) (Nat.le_of_ble_eq_true rfl) dX1_reaches_43
      · refine lv_iload_n hx hb dX1_reaches_22 rfl (lv_at hl 0 rfl) ?_
        refine lv_iload_n hx hb dX1_reaches_23 rfl (lv_at hl 1 rfl) ?_
        refine lv_icmp_ge (tgt := 42) hx hb dX1_reaches_24 (by decide) (fun c4 => ?_) (fun c4 => ?_)
        · refine lv_iconst (v := 0) hx hb dX1_reaches_42 (by decide) ?_
          exact zz_zret hC hZ (by decide) (⟨by show _ = _; rw [fn_co_reaches, if_neg c1, if_neg c2, if_neg c3, if_pos c4], rfl⟩) (Nat.le_of_ble_eq_true rfl) (Nat.le_of_ble_eq_true rfl) dX1_reaches_43
        · refine lv_iload_n hx hb dX1_reaches_27 rfl (lv_at hl 1 rfl) ?_
          refine lv_iconst (v := 4) hx hb dX1_reaches_28 (by decide) ?_
          refine lv_icmp_lt (tgt := 42) hx hb dX1_reaches_29 (by decide) (fun c5 => ?_) (fun c5 => ?_)
          · refine lv_iconst (v := 0) hx hb dX1_reaches_42 (by decide) ?_
            exact zz_zret hC hZ (by decide) (⟨by show _ = _; rw [fn_co_reaches, if_neg c1, if_neg c2, if_neg c3, if_neg c4, if_pos c5], rfl⟩) (Nat.le_of_ble_eq_true rfl) (Nat.le_of_ble_eq_true rfl) dX1_reaches_43
          · refine lv_iload_n hx hb dX1_reaches_32 rfl (lv_at hl 1 rfl) ?_
            refine lv_bipush (v := 7) hx hb dX1_reaches_33 (by decide) ?_
            refine lv_icmp_gt (tgt := 42) hx hb dX1_reaches_35 (by decide) (fun c6 => ?_) (fun c6 => ?_)
            · refine lv_iconst (v := 0) hx hb dX1_reaches_42 (by decide) ?_
              exact zz_zret hC hZ (by decide) (⟨by show _ = _; rw [fn_co_reaches, if_neg c1, if_neg c2, if_neg c3, if_neg c4, if_neg c5, if_pos c6], rfl⟩) (Nat.le_of_ble_eq_true rfl) (Nat.le_of_ble_eq_true rfl) dX1_reaches_43
            · refine lv_iconst (v := 1) hx hb dX1_reaches_38 (by decide) ?_
              refine lv_goto (tgt := 43) hx hb dX1_reaches_39 (by decide) ?_
              exact zz_zret hC hZ (by decide) (⟨by show _ = _; rw [fn_co_reaches, if_neg c1, if_neg c2, if_neg c3, if_neg c4, if_neg c5, if_neg c6], rfl⟩) (Nat.le_of_ble_eq_true rfl) (Nat.le_of_ble_eq_true rfl) dX1_reaches_43
    · refine lv_iload_n hx hb dX1_reaches_10 rfl (lv_at hl 1 rfl) ?_
      refine lv_iconst (v := 3) hx hb dX1_reaches_11 (by decide) ?_
      refine lv_icmp_ne (tgt := 17) hx hb dX1_reaches_12 (by decide) (fun c7 => ?_) (fun c7 => ?_)
      · refine lv_iload_n hx hb dX1_reaches_17 rfl (lv_at hl 0 rfl) ?_
        refine lv_iconst (v := 1) hx hb dX1_reaches_18 (by decide) ?_
        refine lv_icmp_lt (tgt := 42) hx hb dX1_reaches_19 (by decide) (fun c8 => ?_) (fun c8 => ?_)
        · refine lv_iconst (v := 0) hx hb dX1_reaches_42 (by decide) ?_
          exact zz_zret hC hZ (by decide) (⟨by show _ = _; rw [fn_co_reaches, if_neg c1, if_pos c2, if_neg c7, if_pos c8], rfl⟩) (Nat.le_of_ble_eq_true rfl) (Nat.le_of_ble_eq_true rfl) dX1_reaches_43
        · refine lv_iload_n hx hb dX1_reaches_22 rfl (lv_at hl 0 rfl) ?_
          refine lv_iload_n hx hb dX1_reaches_23 rfl (lv_at hl 1 rfl) ?_
          refine lv_icmp_ge (tgt := 42) hx hb dX1_reaches_24 (by decide) (fun c9 => ?_) (fun c9 => ?_)
          · refine lv_iconst (v := 0) hx hb dX1_reaches_42 (by decide) ?_
            exact zz_zret hC hZ (by decide) (⟨by show _ = _; rw [fn_co_reaches, if_neg c1, if_pos c2, if_neg c7, if_neg c8, if_pos c9], rfl⟩) (Nat.le_of_ble_eq_true rfl) (Nat.le_of_ble_eq_true rfl) dX1_reaches_43
          · refine lv_iload_n hx hb dX1_reaches_27 rfl (lv_at hl 1 rfl) ?_
            refine lv_iconst (v := 4) hx hb dX1_reaches_28 (by decide) ?_
            refine lv_icmp_lt (tgt := 42) hx hb dX1_reaches_29 (by decide) (fun c10 => ?_) (fun c10 => ?_)
            · refine lv_iconst (v := 0) hx hb dX1_reaches_42 (by decide) ?_
              exact zz_zret hC hZ (by decide) (⟨by show _ = _; rw [fn_co_reaches, if_neg c1, if_pos c2, if_neg c7, if_neg c8, if_neg c9, if_pos c10], rfl⟩) (Nat.le_of_ble_eq_true rfl) (Nat.le_of_ble_eq_true rfl) dX1_reaches_43
            · refine lv_iload_n hx hb dX1_reaches_32 rfl (lv_at hl 1 rfl) ?_
              refine lv_bipush (v := 7) hx hb dX1_reaches_33 (by decide) ?_
              refine lv_icmp_gt (tgt := 42) hx hb dX1_reaches_35 (by decide) (fun c11 => ?_) (fun c11 => ?_)
              · refine lv_iconst (v := 0) hx hb dX1_reaches_42 (by decide) ?_
                exact zz_zret hC hZ (by decide) (⟨by show _ = _; rw [fn_co_reaches, if_neg c1, if_pos c2, if_neg c7, if_neg c8, if_neg c9, if_neg c10, if_pos c11], rfl⟩) (Nat.le_of_ble_eq_true rfl) (Nat.le_of_ble_eq_true rfl) dX1_reaches_43
              · refine lv_iconst (v := 1) hx hb dX1_reaches_38 (by decide) ?_
                refine lv_goto (tgt := 43) hx hb dX1_reaches_39 (by decide) ?_
                exact zz_zret hC hZ (by decide) (⟨by show _ = _; rw [fn_co_reaches, if_neg c1, if_pos c2, if_neg c7, if_neg c8, if_neg c9, if_neg c10, if_neg c11], rfl⟩) (Nat.le_of_ble_eq_true rfl) (Nat.le_of_ble_eq_true rfl) dX1_reaches_43
      · refine lv_iconst (v := 1) hx hb dX1_reaches_15 (by decide) ?_
        exact zz_zret hC hZ (by decide) (⟨by show _ = _; rw [fn_co_reaches, if_neg c1, if_pos c2, if_pos c7], rfl⟩) (Nat.le_of_ble_eq_true rfl) (Nat.le_of_ble_eq_true rfl) dX1_reaches_16
theorem dX8_fails_0 : decode cX8_fails 0 = .ok (.aload_n 0, 1) := by decide +kernel
theorem dX8_fails_1 : decode cX8_fails 1 = .ok (.iload_n 1, 1) := by decide +kernel
theorem dX8_fails_2 : decode cX8_fails 2 = .ok (.putfield 99, 3) := by decide +kernel
theorem zk_744 : Cond.fieldLink RX8 99 RX8 "code" "I" ∈ zz_w := zz_in (List.mem_append_right _ (List.mem_append_right _ (List.mem_append_right _ (List.mem_append_right _ (List.mem_append_left _ (List.mem_of_getElem? (i := 24) (by decide +kernel))))))) rfl
theorem zi_X8_a : ∀ w ∈ u_ws RX8 TX8 37, w ∈ lw_tbl := by decide +kernel
theorem zi_X8_b : ∀ w ∈ u_ws RX8 TX8 37, goodWord w = true := by decide +kernel
theorem zi_X8 : ∀ w ∈ u_ws RX8 TX8 37, w ∈ zz_w := fun w h => zz_in (zi_X8_a w h) (zi_X8_b w h)
theorem zu_X8_99 : zz_fw RX8 99 7 9 false .int := ⟨RX8, TX8, 37, tyX8, rfl, zi_X8, by decide, zk_744, tyX8_ok, nmX8, rfl, by decide +kernel, fun h => by cases h⟩
theorem dX8_fails_5 : decode cX8_fails 5 = .ok (.iload_n 1, 1) := by decide +kernel
theorem dX8_fails_6 : decode cX8_fails 6 = .ok (.ineg, 1) := by decide +kernel
theorem dX8_fails_7 : decode cX8_fails 7 = .ok (.ireturn, 1) := by decide +kernel
abbrev rm_cm_fails : Room := { frames := 0, cells := 0, slots := 0, locals := 0 }
abbrev po_cm_fails (g : zz_G) (h0 : Nat) (a_kindOf : Nat) (a_depthOf : Nat) (a_lengthOf : Nat) (a_classOf : Nat) (a_baseOf : Nat) (a_bits : Nat) (a_pinned : Nat) (a_lengths : Nat) (a_stackArray : Nat) (a_stackOther : Nat) (a_stackAt : Nat) (a_path : Nat) (a_held : Nat) (a_alike : Nat) (a_hashes : Nat) (a_decisionArray : Nat) (a_decisionPlace : Nat) (a_candidateMany : Nat) (a_candidates : Nat) (a_ruleSort : Nat) (a_ruleArray : Nat) (a_ruleWeight : Nat) (a_ruleLow : Nat) (a_ruleHigh : Nat) (a_chosen : Nat) (a_bestOf : Nat) (a_markElements : Nat) (a_markBits : Nat) (a_markPins : Nat) (i_arrays : Int32) (i_elements : Int32) (i_code : Int32) (i_lastArray : Int32) (i_lastPlace : Int32) (i_decisions : Int32) (i_rules : Int32) (i_marks : Int32) (k : Int32) : Int32 → va_W → Prop := fun (r : Int32) (u : va_W) => r = -k ∧ u = [(h0, .inr (7, [.int i_arrays, .int i_elements, .ref a_kindOf, .ref a_depthOf, .ref a_lengthOf, .ref a_classOf, .ref a_baseOf, .ref a_bits, .ref a_pinned, .int k, .ref a_lengths, .ref a_stackArray, .ref a_stackOther, .ref a_stackAt, .int i_lastArray, .int i_lastPlace, .ref a_path, .ref a_held, .ref a_alike, .ref a_hashes, .int i_decisions, .ref a_decisionArray, .ref a_decisionPlace, .ref a_candidateMany, .ref a_candidates, .int i_rules, .ref a_ruleSort, .ref a_ruleArray, .ref a_ruleWeight, .ref a_ruleLow, .ref a_ruleHigh, .ref a_chosen, .ref a_bestOf, .int i_marks, .ref a_markElements, .ref a_markBits, .ref a_markPins]))]
set_option maxHeartbeats 4000000 in
set_option maxRecDepth 100000 in
theorem cm_fails (g : zz_G) (h0 : Nat) (a_kindOf : Nat) (a_depthOf : Nat) (a_lengthOf : Nat) (a_classOf : Nat) (a_baseOf : Nat) (a_bits : Nat) (a_pinned : Nat) (a_lengths : Nat) (a_stackArray : Nat) (a_stackOther : Nat) (a_stackAt : Nat) (a_path : Nat) (a_held : Nat) (a_alike : Nat) (a_hashes : Nat) (a_decisionArray : Nat) (a_decisionPlace : Nat) (a_candidateMany : Nat) (a_candidates : Nat) (a_ruleSort : Nat) (a_ruleArray : Nat) (a_ruleWeight : Nat) (a_ruleLow : Nat) (a_ruleHigh : Nat) (a_chosen : Nat) (a_bestOf : Nat) (a_markElements : Nat) (a_markBits : Nat) (a_markPins : Nat) (i_arrays : Int32) (i_elements : Int32) (i_code : Int32) (i_lastArray : Int32) (i_lastPlace : Int32) (i_decisions : Int32) (i_rules : Int32) (i_marks : Int32) (k : Int32) : zz_I g yX8_fails (.code yX8_fails cX8_fails 2 (some .int)) rm_cm_fails [.ref h0, .int k] [(h0, .inr (7, [.int i_arrays, .int i_elements, .ref a_kindOf, .ref a_depthOf, .ref a_lengthOf, .ref a_classOf, .ref a_baseOf, .ref a_bits, .ref a_pinned, .int i_code, .ref a_lengths, .ref a_stackArray, .ref a_stackOther, .ref a_stackAt, .int i_lastArray, .int i_lastPlace, .ref a_path, .ref a_held, .ref a_alike, .ref a_hashes, .int i_decisions, .ref a_decisionArray, .ref a_decisionPlace, .ref a_candidateMany, .ref a_candidates, .int i_rules, .ref a_ruleSort, .ref a_ruleArray, .ref a_ruleWeight, .ref a_ruleLow, .ref a_ruleHigh, .ref a_chosen, .ref a_bestOf, .int i_marks, .ref a_markElements, .ref a_markBits, .ref a_markPins]))] (po_cm_fails g h0 a_kindOf a_depthOf a_lengthOf a_classOf a_baseOf a_bits a_pinned a_lengths a_stackArray a_stackOther a_stackAt a_path a_held a_alike a_hashes a_decisionArray a_decisionPlace a_candidateMany a_candidates a_ruleSort a_ruleArray a_ruleWeight a_ruleLow a_ruleHigh a_chosen a_bestOf a_markElements a_markBits a_markPins i_arrays i_elements i_code i_lastArray i_lastPlace i_decisions i_rules i_marks k) := by
  refine zz_I.intro (own := RX8) (cc := cX8_fails) (nL := 2) (by decide) rfl (Nat.le_of_ble_eq_true rfl) ?_
  intro p l e s m args below meth c A H locs ls hC hnm hZ hl
  obtain ⟨hx, hb, hml, hown, hts, hr, hlocks, hK⟩ := id hC
  have hl : lv_has ls 2 [(0, .ref h0), (1, .int k)] := hl
  have hZ : zz_Z g A s.heap [(h0, .inr (7, [.int i_arrays, .int i_elements, .ref a_kindOf, .ref a_depthOf, .ref a_lengthOf, .ref a_classOf, .ref a_baseOf, .ref a_bits, .ref a_pinned, .int i_code, .ref a_lengths, .ref a_stackArray, .ref a_stackOther, .ref a_stackAt, .int i_lastArray, .int i_lastPlace, .ref a_path, .ref a_held, .ref a_alike, .ref a_hashes, .int i_decisions, .ref a_decisionArray, .ref a_decisionPlace, .ref a_candidateMany, .ref a_candidates, .int i_rules, .ref a_ruleSort, .ref a_ruleArray, .ref a_ruleWeight, .ref a_ruleLow, .ref a_ruleHigh, .ref a_chosen, .ref a_bestOf, .int i_marks, .ref a_markElements, .ref a_markBits, .ref a_markPins]))] H locs := hZ
  refine lv_aload_n hx hb dX8_fails_0 rfl (lv_at hl 0 rfl) ?_
  refine lv_iload_n hx hb dX8_fails_1 rfl (lv_at hl 1 rfl) ?_
  refine zz_put hC hZ 0 rfl zu_X8_99 (Nat.le_of_ble_eq_true rfl) dX8_fails_2 (fun H locs hZ => ?_)
  have hZ : zz_Z g A s.heap [(h0, .inr (7, [.int i_arrays, .int i_elements, .ref a_kindOf, .ref a_depthOf, .ref a_lengthOf, .ref a_classOf, .ref a_baseOf, .ref a_bits, .ref a_pinned, .int k, .ref a_lengths, .ref a_stackArray, .ref a_stackOther, .ref a_stackAt, .int i_lastArray, .int i_lastPlace, .ref a_path, .ref a_held, .ref a_alike, .ref a_hashes, .int i_decisions, .ref a_decisionArray, .ref a_decisionPlace, .ref a_candidateMany, .ref a_candidates, .int i_rules, .ref a_ruleSort, .ref a_ruleArray, .ref a_ruleWeight, .ref a_ruleLow, .ref a_ruleHigh, .ref a_chosen, .ref a_bestOf, .int i_marks, .ref a_markElements, .ref a_markBits, .ref a_markPins]))] H locs := hZ
  refine lv_iload_n hx hb dX8_fails_5 rfl (lv_at hl 1 rfl) ?_
  refine lv_ineg hx hb dX8_fails_6 ?_
  exact zz_iret hC hZ (⟨rfl, rfl⟩) (Nat.le_of_ble_eq_true rfl) (Nat.le_of_ble_eq_true rfl) dX8_fails_7
theorem dX8_fine_0 : decode cX8_fine 0 = .ok (.aload_n 0, 1) := by decide +kernel
theorem dX8_fine_1 : decode cX8_fine 1 = .ok (.iconst 0, 1) := by decide +kernel
theorem dX8_fine_2 : decode cX8_fine 2 = .ok (.putfield 99, 3) := by decide +kernel
theorem dX8_fine_5 : decode cX8_fine 5 = .ok (.iload_n 1, 1) := by decide +kernel
theorem dX8_fine_6 : decode cX8_fine 6 = .ok (.ireturn, 1) := by decide +kernel
abbrev rm_cm_fine : Room := { frames := 0, cells := 0, slots := 0, locals := 0 }
abbrev po_cm_fine (g : zz_G) (h0 : Nat) (a_kindOf : Nat) (a_depthOf : Nat) (a_lengthOf : Nat) (a_classOf : Nat) (a_baseOf : Nat) (a_bits : Nat) (a_pinned : Nat) (a_lengths : Nat) (a_stackArray : Nat) (a_stackOther : Nat) (a_stackAt : Nat) (a_path : Nat) (a_held : Nat) (a_alike : Nat) (a_hashes : Nat) (a_decisionArray : Nat) (a_decisionPlace : Nat) (a_candidateMany : Nat) (a_candidates : Nat) (a_ruleSort : Nat) (a_ruleArray : Nat) (a_ruleWeight : Nat) (a_ruleLow : Nat) (a_ruleHigh : Nat) (a_chosen : Nat) (a_bestOf : Nat) (a_markElements : Nat) (a_markBits : Nat) (a_markPins : Nat) (i_arrays : Int32) (i_elements : Int32) (i_code : Int32) (i_lastArray : Int32) (i_lastPlace : Int32) (i_decisions : Int32) (i_rules : Int32) (i_marks : Int32) (k : Int32) : Int32 → va_W → Prop := fun (r : Int32) (u : va_W) => r = k ∧ u = [(h0, .inr (7, [.int i_arrays, .int i_elements, .ref a_kindOf, .ref a_depthOf, .ref a_lengthOf, .ref a_classOf, .ref a_baseOf, .ref a_bits, .ref a_pinned, .int 0, .ref a_lengths, .ref a_stackArray, .ref a_stackOther, .ref a_stackAt, .int i_lastArray, .int i_lastPlace, .ref a_path, .ref a_held, .ref a_alike, .ref a_hashes, .int i_decisions, .ref a_decisionArray, .ref a_decisionPlace, .ref a_candidateMany, .ref a_candidates, .int i_rules, .ref a_ruleSort, .ref a_ruleArray, .ref a_ruleWeight, .ref a_ruleLow, .ref a_ruleHigh, .ref a_chosen, .ref a_bestOf, .int i_marks, .ref a_markElements, .ref a_markBits, .ref a_markPins]))]
set_option maxHeartbeats 4000000 in
set_option maxRecDepth 100000 in
theorem cm_fine (g : zz_G) (h0 : Nat) (a_kindOf : Nat) (a_depthOf : Nat) (a_lengthOf : Nat) (a_classOf : Nat) (a_baseOf : Nat) (a_bits : Nat) (a_pinned : Nat) (a_lengths : Nat) (a_stackArray : Nat) (a_stackOther : Nat) (a_stackAt : Nat) (a_path : Nat) (a_held : Nat) (a_alike : Nat) (a_hashes : Nat) (a_decisionArray : Nat) (a_decisionPlace : Nat) (a_candidateMany : Nat) (a_candidates : Nat) (a_ruleSort : Nat) (a_ruleArray : Nat) (a_ruleWeight : Nat) (a_ruleLow : Nat) (a_ruleHigh : Nat) (a_chosen : Nat) (a_bestOf : Nat) (a_markElements : Nat) (a_markBits : Nat) (a_markPins : Nat) (i_arrays : Int32) (i_elements : Int32) (i_code : Int32) (i_lastArray : Int32) (i_lastPlace : Int32) (i_decisions : Int32) (i_rules : Int32) (i_marks : Int32) (k : Int32) : zz_I g yX8_fine (.code yX8_fine cX8_fine 2 (some .int)) rm_cm_fine [.ref h0, .int k] [(h0, .inr (7, [.int i_arrays, .int i_elements, .ref a_kindOf, .ref a_depthOf, .ref a_lengthOf, .ref a_classOf, .ref a_baseOf, .ref a_bits, .ref a_pinned, .int i_code, .ref a_lengths, .ref a_stackArray, .ref a_stackOther, .ref a_stackAt, .int i_lastArray, .int i_lastPlace, .ref a_path, .ref a_held, .ref a_alike, .ref a_hashes, .int i_decisions, .ref a_decisionArray, .ref a_decisionPlace, .ref a_candidateMany, .ref a_candidates, .int i_rules, .ref a_ruleSort, .ref a_ruleArray, .ref a_ruleWeight, .ref a_ruleLow, .ref a_ruleHigh, .ref a_chosen, .ref a_bestOf, .int i_marks, .ref a_markElements, .ref a_markBits, .ref a_markPins]))] (po_cm_fine g h0 a_kindOf a_depthOf a_lengthOf a_classOf a_baseOf a_bits a_pinned a_lengths a_stackArray a_stackOther a_stackAt a_path a_held a_alike a_hashes a_decisionArray a_decisionPlace a_candidateMany a_candidates a_ruleSort a_ruleArray a_ruleWeight a_ruleLow a_ruleHigh a_chosen a_bestOf a_markElements a_markBits a_markPins i_arrays i_elements i_code i_lastArray i_lastPlace i_decisions i_rules i_marks k) := by
  refine zz_I.intro (own := RX8) (cc := cX8_fine) (nL := 2) (by decide) rfl (Nat.le_of_ble_eq_true rfl) ?_
  intro p l e s m args below meth c A H locs ls hC hnm hZ hl
  obtain ⟨hx, hb, hml, hown, hts, hr, hlocks, hK⟩ := id hC
  have hl : lv_has ls 2 [(0, .ref h0), (1, .int k)] := hl
  have hZ : zz_Z g A s.heap [(h0, .inr (7, [.int i_arrays, .int i_elements, .ref a_kindOf, .ref a_depthOf, .ref a_lengthOf, .ref a_classOf, .ref a_baseOf, .ref a_bits, .ref a_pinned, .int i_code, .ref a_lengths, .ref a_stackArray, .ref a_stackOther, .ref a_stackAt, .int i_lastArray, .int i_lastPlace, .ref a_path, .ref a_held, .ref a_alike, .ref a_hashes, .int i_decisions, .ref a_decisionArray, .ref a_decisionPlace, .ref a_candidateMany, .ref a_candidates, .int i_rules, .ref a_ruleSort, .ref a_ruleArray, .ref a_ruleWeight, .ref a_ruleLow, .ref a_ruleHigh, .ref a_chosen, .ref a_bestOf, .int i_marks, .ref a_markElements, .ref a_markBits, .ref a_markPins]))] H locs := hZ
  refine lv_aload_n hx hb dX8_fine_0 rfl (lv_at hl 0 rfl) ?_
  refine lv_iconst (v := 0) hx hb dX8_fine_1 (by decide) ?_
  refine zz_put hC hZ 0 rfl zu_X8_99 (Nat.le_of_ble_eq_true rfl) dX8_fine_2 (fun H locs hZ => ?_)
  have hZ : zz_Z g A s.heap [(h0, .inr (7, [.int i_arrays, .int i_elements, .ref a_kindOf, .ref a_depthOf, .ref a_lengthOf, .ref a_classOf, .ref a_baseOf, .ref a_bits, .ref a_pinned, .int 0, .ref a_lengths, .ref a_stackArray, .ref a_stackOther, .ref a_stackAt, .int i_lastArray, .int i_lastPlace, .ref a_path, .ref a_held, .ref a_alike, .ref a_hashes, .int i_decisions, .ref a_decisionArray, .ref a_decisionPlace, .ref a_candidateMany, .ref a_candidates, .int i_rules, .ref a_ruleSort, .ref a_ruleArray, .ref a_ruleWeight, .ref a_ruleLow, .ref a_ruleHigh, .ref a_chosen, .ref a_bestOf, .int i_marks, .ref a_markElements, .ref a_markBits, .ref a_markPins]))] H locs := hZ
  refine lv_iload_n hx hb dX8_fine_5 rfl (lv_at hl 1 rfl) ?_
  exact zz_iret hC hZ (⟨rfl, rfl⟩) (Nat.le_of_ble_eq_true rfl) (Nat.le_of_ble_eq_true rfl) dX8_fine_6
theorem dX8_within_0 : decode cX8_within 0 = .ok (.lload_n 0, 1) := by decide +kernel
theorem dX8_within_1 : decode cX8_within 1 = .ok (.lload_n 2, 1) := by decide +kernel
theorem dX8_within_2 : decode cX8_within 2 = .ok (.lcmp, 1) := by decide +kernel
theorem dX8_within_3 : decode cX8_within 3 = .ok (.ifCond .lt 14, 3) := by decide +kernel
theorem dX8_within_17 : decode cX8_within 17 = .ok (.iconst 0, 1) := by decide +kernel
theorem dX8_within_18 : decode cX8_within 18 = .ok (.ireturn, 1) := by decide +kernel
theorem dX8_within_6 : decode cX8_within 6 = .ok (.lload_n 0, 1) := by decide +kernel
theorem dX8_within_7 : decode cX8_within 7 = .ok (.lload 4, 2) := by decide +kernel
theorem dX8_within_9 : decode cX8_within 9 = .ok (.lcmp, 1) := by decide +kernel
theorem dX8_within_10 : decode cX8_within 10 = .ok (.ifCond .gt 7, 3) := by decide +kernel
theorem dX8_within_13 : decode cX8_within 13 = .ok (.iconst 1, 1) := by decide +kernel
theorem dX8_within_14 : decode cX8_within 14 = .ok (.goto 4, 3) := by decide +kernel
def fn_cm_within (v : Int64) (lo : Int64) (hi : Int64) : Int32 := (if v < lo then 0 else (if hi < v then 0 else 1))
abbrev rm_cm_within : Room := { frames := 0, cells := 0, slots := 0, locals := 0 }
abbrev po_cm_within (g : zz_G) (v : Int64) (lo : Int64) (hi : Int64) : Int32 → va_W → Prop := fun (r : Int32) (u : va_W) => r = fn_cm_within v lo hi ∧ u = []
set_option maxHeartbeats 4000000 in
set_option maxRecDepth 100000 in
theorem cm_within (g : zz_G) (v : Int64) (lo : Int64) (hi : Int64) : zz_I g yX8_within (.code yX8_within cX8_within 6 (some .boolean)) rm_cm_within [.long v, .long lo, .long hi] [] (po_cm_within g v lo hi) := by
  refine zz_I.intro (own := RX8) (cc := cX8_within) (nL := 6) (by decide) rfl (Nat.le_of_ble_eq_true rfl) ?_
  intro p l e s m args below meth c A H locs ls hC hnm hZ hl
  obtain ⟨hx, hb, hml, hown, hts, hr, hlocks, hK⟩ := id hC
  have hl : lv_has ls 6 [(0, .long v), (2, .long lo), (4, .long hi)] := hl
  have hZ : zz_Z g A s.heap [] H locs := hZ
  refine lv_lload_n hx hb dX8_within_0 rfl (lv_at hl 0 rfl) ?_
  refine lv_lload_n hx hb dX8_within_1 rfl (lv_at hl 1 rfl) ?_
  refine zz_lcmp_lt (tgt := 17) hC dX8_within_2 dX8_within_3 (by decide) (fun c1 => ?_) (fun c1 => ?_)
  · refine lv_iconst (v := 0) hx hb dX8_within_17 (by decide) ?_
    exact zz_zret hC hZ (by decide) (⟨by show _ = _; rw [fn_cm_within, if_pos c1], rfl⟩) (Nat.le_of_ble_eq_true rfl) (Nat.le_of_ble_eq_true rfl) dX8_within_18
  · refine lv_lload_n hx hb dX8_within_6 rfl (lv_at hl 0 rfl) ?_
    refine lv_lload hx hb dX8_within_7 (lv_at hl 2 rfl) ?_
    refine zz_lcmp_gt (tgt := 17) hC dX8_within_9 dX8_within_10 (by decide) (fun c2 => ?_) (fun c2 => ?_)
    · refine lv_iconst (v := 0) hx hb dX8_within_17 (by decide) ?_
      exact zz_zret hC hZ (by decide) (⟨by show _ = _; rw [fn_cm_within, if_neg c1, if_pos c2], rfl⟩) (Nat.le_of_ble_eq_true rfl) (Nat.le_of_ble_eq_true rfl) dX8_within_18
    · refine lv_iconst (v := 1) hx hb dX8_within_13 (by decide) ?_
      refine lv_goto (tgt := 18) hx hb dX8_within_14 (by decide) ?_
      exact zz_zret hC hZ (by decide) (⟨by show _ = _; rw [fn_cm_within, if_neg c1, if_neg c2], rfl⟩) (Nat.le_of_ble_eq_true rfl) (Nat.le_of_ble_eq_true rfl) dX8_within_18
theorem dX8_isWider_86 : decode cX8_isWider 86 = .ok (.iload_n 0, 1) := by decide +kernel
theorem dX8_isWider_87 : decode cX8_isWider 87 = .ok (.bipush 6, 2) := by decide +kernel
theorem dX8_isWider_89 : decode cX8_isWider 89 = .ok (.if_icmp .ne 13, 3) := by decide +kernel
theorem dX8_isWider_102 : decode cX8_isWider 102 = .ok (.iconst 0, 1) := by decide +kernel
theorem dX8_isWider_103 : decode cX8_isWider 103 = .ok (.ireturn, 1) := by decide +kernel
theorem dX8_isWider_92 : decode cX8_isWider 92 = .ok (.iload_n 1, 1) := by decide +kernel
theorem dX8_isWider_93 : decode cX8_isWider 93 = .ok (.bipush 7, 2) := by decide +kernel
theorem dX8_isWider_95 : decode cX8_isWider 95 = .ok (.if_icmp .ne 7, 3) := by decide +kernel
theorem dX8_isWider_98 : decode cX8_isWider 98 = .ok (.iconst 1, 1) := by decide +kernel
theorem dX8_isWider_99 : decode cX8_isWider 99 = .ok (.goto 4, 3) := by decide +kernel
theorem dX8_isWider_69 : decode cX8_isWider 69 = .ok (.iload_n 0, 1) := by decide +kernel
theorem dX8_isWider_70 : decode cX8_isWider 70 = .ok (.iconst 5, 1) := by decide +kernel
theorem dX8_isWider_71 : decode cX8_isWider 71 = .ok (.if_icmp .ne 15, 3) := by decide +kernel
theorem dX8_isWider_74 : decode cX8_isWider 74 = .ok (.iload_n 1, 1) := by decide +kernel
theorem dX8_isWider_75 : decode cX8_isWider 75 = .ok (.bipush 6, 2) := by decide +kernel
theorem dX8_isWider_77 : decode cX8_isWider 77 = .ok (.if_icmp .eq 21, 3) := by decide +kernel
theorem dX8_isWider_80 : decode cX8_isWider 80 = .ok (.iload_n 1, 1) := by decide +kernel
theorem dX8_isWider_81 : decode cX8_isWider 81 = .ok (.bipush 7, 2) := by decide +kernel
theorem dX8_isWider_83 : decode cX8_isWider 83 = .ok (.if_icmp .eq 15, 3) := by decide +kernel
theorem dX8_isWider_53 : decode cX8_isWider 53 = .ok (.iload_n 0, 1) := by decide +kernel
theorem dX8_isWider_54 : decode cX8_isWider 54 = .ok (.iconst 4, 1) := by decide +kernel
theorem dX8_isWider_55 : decode cX8_isWider 55 = .ok (.if_icmp .ne 14, 3) := by decide +kernel
theorem dX8_isWider_58 : decode cX8_isWider 58 = .ok (.iload_n 1, 1) := by decide +kernel
theorem dX8_isWider_59 : decode cX8_isWider 59 = .ok (.iconst 5, 1) := by decide +kernel
theorem dX8_isWider_60 : decode cX8_isWider 60 = .ok (.if_icmp .lt 9, 3) := by decide +kernel
theorem dX8_isWider_63 : decode cX8_isWider 63 = .ok (.iload_n 1, 1) := by decide +kernel
theorem dX8_isWider_64 : decode cX8_isWider 64 = .ok (.bipush 7, 2) := by decide +kernel
theorem dX8_isWider_66 : decode cX8_isWider 66 = .ok (.if_icmp .le 32, 3) := by decide +kernel
theorem dX8_isWider_37 : decode cX8_isWider 37 = .ok (.iload_n 0, 1) := by decide +kernel
theorem dX8_isWider_38 : decode cX8_isWider 38 = .ok (.iconst 3, 1) := by decide +kernel
theorem dX8_isWider_39 : decode cX8_isWider 39 = .ok (.if_icmp .ne 14, 3) := by decide +kernel
theorem dX8_isWider_42 : decode cX8_isWider 42 = .ok (.iload_n 1, 1) := by decide +kernel
theorem dX8_isWider_43 : decode cX8_isWider 43 = .ok (.iconst 4, 1) := by decide +kernel
theorem dX8_isWider_44 : decode cX8_isWider 44 = .ok (.if_icmp .lt 9, 3) := by decide +kernel
theorem dX8_isWider_47 : decode cX8_isWider 47 = .ok (.iload_n 1, 1) := by decide +kernel
theorem dX8_isWider_48 : decode cX8_isWider 48 = .ok (.bipush 7, 2) := by decide +kernel
theorem dX8_isWider_50 : decode cX8_isWider 50 = .ok (.if_icmp .le 48, 3) := by decide +kernel
theorem dX8_isWider_21 : decode cX8_isWider 21 = .ok (.iload_n 0, 1) := by decide +kernel
theorem dX8_isWider_22 : decode cX8_isWider 22 = .ok (.iconst 2, 1) := by decide +kernel
theorem dX8_isWider_23 : decode cX8_isWider 23 = .ok (.if_icmp .ne 14, 3) := by decide +kernel
theorem dX8_isWider_26 : decode cX8_isWider 26 = .ok (.iload_n 1, 1) := by decide +kernel
theorem dX8_isWider_27 : decode cX8_isWider 27 = .ok (.iconst 3, 1) := by decide +kernel
theorem dX8_isWider_28 : decode cX8_isWider 28 = .ok (.if_icmp .lt 9, 3) := by decide +kernel
theorem dX8_isWider_31 : decode cX8_isWider 31 = .ok (.iload_n 1, 1) := by decide +kernel
theorem dX8_isWider_32 : decode cX8_isWider 32 = .ok (.bipush 7, 2) := by decide +kernel
theorem dX8_isWider_34 : decode cX8_isWider 34 = .ok (.if_icmp .le 64, 3) := by decide +kernel
theorem dX8_isWider_0 : decode cX8_isWider 0 = .ok (.iload_n 0, 1) := by decide +kernel
theorem dX8_isWider_1 : decode cX8_isWider 1 = .ok (.iload_n 1, 1) := by decide +kernel
theorem dX8_isWider_2 : decode cX8_isWider 2 = .ok (.if_icmp .eq 96, 3) := by decide +kernel
theorem dX8_isWider_5 : decode cX8_isWider 5 = .ok (.iload_n 0, 1) := by decide +kernel
theorem dX8_isWider_6 : decode cX8_isWider 6 = .ok (.iconst 1, 1) := by decide +kernel
theorem dX8_isWider_7 : decode cX8_isWider 7 = .ok (.if_icmp .ne 14, 3) := by decide +kernel
theorem dX8_isWider_10 : decode cX8_isWider 10 = .ok (.iload_n 1, 1) := by decide +kernel
theorem dX8_isWider_11 : decode cX8_isWider 11 = .ok (.iconst 4, 1) := by decide +kernel
theorem dX8_isWider_12 : decode cX8_isWider 12 = .ok (.if_icmp .lt 9, 3) := by decide +kernel
theorem dX8_isWider_15 : decode cX8_isWider 15 = .ok (.iload_n 1, 1) := by decide +kernel
theorem dX8_isWider_16 : decode cX8_isWider 16 = .ok (.bipush 7, 2) := by decide +kernel
theorem dX8_isWider_18 : decode cX8_isWider 18 = .ok (.if_icmp .le 80, 3) := by decide +kernel
def fn_cm_isWider_86 (k : Int32) (j : Int32) : Int32 := (if k = 6 then (if j = 7 then 1 else 0) else 0)
def fn_cm_isWider_69 (k : Int32) (j : Int32) : Int32 := (if k = 5 then (if j = 6 then 1 else (if j = 7 then 1 else (fn_cm_isWider_86 k j))) else (fn_cm_isWider_86 k j))
def fn_cm_isWider_53 (k : Int32) (j : Int32) : Int32 := (if k = 4 then (if j < 5 then (fn_cm_isWider_69 k j) else (if j ≤ 7 then 1 else (fn_cm_isWider_69 k j))) else (fn_cm_isWider_69 k j))
def fn_cm_isWider_37 (k : Int32) (j : Int32) : Int32 := (if k = 3 then (if j < 4 then (fn_cm_isWider_53 k j) else (if j ≤ 7 then 1 else (fn_cm_isWider_53 k j))) else (fn_cm_isWider_53 k j))
def fn_cm_isWider_21 (k : Int32) (j : Int32) : Int32 := (if k = 2 then (if j < 3 then (fn_cm_isWider_37 k j) else (if j ≤ 7 then 1 else (fn_cm_isWider_37 k j))) else (fn_cm_isWider_37 k j))
def fn_cm_isWider (k : Int32) (j : Int32) : Int32 := (if k = j then 1 else (if k = 1 then (if j < 4 then (fn_cm_isWider_21 k j) else (if j ≤ 7 then 1 else (fn_cm_isWider_21 k j))) else (fn_cm_isWider_21 k j)))
abbrev rm_cm_isWider : Room := { frames := 0, cells := 0, slots := 0, locals := 0 }
abbrev po_cm_isWider (g : zz_G) (k : Int32) (j : Int32) : Int32 → va_W → Prop := fun (r : Int32) (u : va_W) => r = fn_cm_isWider k j ∧ u = []
set_option maxHeartbeats 4000000 in
set_option maxRecDepth 100000 in
theorem cm_isWider (g : zz_G) (k : Int32) (j : Int32) : zz_I g yX8_isWider (.code yX8_isWider cX8_isWider 2 (some .boolean)) rm_cm_isWider [.int k, .int j] [] (po_cm_isWider g k j) := by
  refine zz_I.intro (own := RX8) (cc := cX8_isWider) (nL := 2) (by decide) rfl (Nat.le_of_ble_eq_true rfl) ?_
  intro p l e s m args below meth c A H locs ls hC hnm hZ hl
  obtain ⟨hx, hb, hml, hown, hts, hr, hlocks, hK⟩ := id hC
  have hl : lv_has ls 2 [(0, .int k), (1, .int j)] := hl
  have hZ : zz_Z g A s.heap [] H locs := hZ
  have J86 : fn_cm_isWider k j = fn_cm_isWider_86 k j → W p l e rm_cm_isWider s m args below meth c H locs 0 0 (zz_QI below g args s A rm_cm_isWider.cells rm_cm_isWider.slots (po_cm_isWider g k j)) (F0 m 86 ls []) := by
    intro e86
    refine lv_iload_n hx hb dX8_isWider_86 rfl (lv_at hl 0 rfl) ?_
    refine lv_bipush (v := 6) hx hb dX8_isWider_87 (by decide) ?_
    refine lv_icmp_ne (tgt := 102) hx hb dX8_isWider_89 (by decide) (fun c1 => ?_) (fun c1 => ?_)
    · refine lv_iconst (v := 0) hx hb dX8_isWider_102 (by decide) ?_
      exact zz_zret hC hZ (by decide) (⟨by show _ = _; rw [e86, fn_cm_isWider_86, if_neg c1], rfl⟩) (Nat.le_of_ble_eq_true rfl) (Nat.le_of_ble_eq_true rfl) dX8_isWider_103
    · refine lv_iload_n hx hb dX8_isWider_92 rfl (lv_at hl 1 rfl) ?_
      refine lv_bipush (v := 7) hx hb dX8_isWider_93 (by decide) ?_
      refine lv_icmp_ne (tgt := 102) hx hb dX8_isWider_95 (by decide) (fun c2 => ?_) (fun c2 => ?_)
      · refine lv_iconst (v := 0) hx hb dX8_isWider_102 (by decide) ?_
        exact zz_zret hC hZ (by decide) (⟨by show _ = _; rw [e86, fn_cm_isWider_86, if_pos c1, if_neg c2], rfl⟩) (Nat.le_of_ble_eq_true rfl) (Nat.le_of_ble_eq_true rfl) dX8_isWider_103
      · refine lv_iconst (v := 1) hx hb dX8_isWider_98 (by decide) ?_
        refine lv_goto (tgt := 103) hx hb dX8_isWider_99 (by decide) ?_
        exact zz_zret hC hZ (by decide) (⟨by show _ = _; rw [e86, fn_cm_isWider_86, if_pos c1, if_pos c2], rfl⟩) (Nat.le_of_ble_eq_true rfl) (Nat.le_of_ble_eq_true rfl) dX8_isWider_103
  have J69 : fn_cm_isWider k j = fn_cm_isWider_69 k j → W p l e rm_cm_isWider s m args below meth c H locs 0 0 (zz_QI below g args s A rm_cm_isWider.cells rm_cm_isWider.slots (po_cm_isWider g k j)) (F0 m 69 ls []) := by
    intro e69
    refine lv_iload_n hx hb dX8_isWider_69 rfl (lv_at hl 0 rfl) ?_
    refine lv_iconst (v := 5) hx hb dX8_isWider_70 (by decide) ?_
    refine lv_icmp_ne (tgt := 86) hx hb dX8_isWider_71 (by decide) (fun c3 => ?_) (fun c3 => ?_)
    · exact J86 (by rw [e69, fn_cm_isWider_69, if_neg c3])
    · refine lv_iload_n hx hb dX8_isWider_74 rfl (lv_at hl 1 rfl) ?_
      refine lv_bipush (v := 6) hx hb dX8_isWider_75 (by decide) ?_
      refine lv_icmp_eq (tgt := 98) hx hb dX8_isWider_77 (by decide) (fun c4 => ?_) (fun c4 => ?_)
      · refine lv_iconst (v := 1) hx hb dX8_isWider_98 (by decide) ?_
        refine lv_goto (tgt := 103) hx hb dX8_isWider_99 (by decide) ?_
        exact zz_zret hC hZ (by decide) (⟨by show _ = _; rw [e69, fn_cm_isWider_69, if_pos c3, if_pos c4], rfl⟩) (Nat.le_of_ble_eq_true rfl) (Nat.le_of_ble_eq_true rfl) dX8_isWider_103
      · refine lv_iload_n hx hb dX8_isWider_80 rfl (lv_at hl 1 rfl) ?_
        refine lv_bipush (v := 7) hx hb dX8_isWider_81 (by decide) ?_
        refine lv_icmp_eq (tgt := 98) hx hb dX8_isWider_83 (by decide) (fun c5 => ?_) (fun c5 => ?_)
        · refine lv_iconst (v := 1) hx hb dX8_isWider_98 (by decide) ?_
          refine lv_goto (tgt := 103) hx hb dX8_isWider_99 (by decide) ?_
          exact zz_zret hC hZ (by decide) (⟨by show _ = _; rw [e69, fn_cm_isWider_69, if_pos c3, if_neg c4, if_pos c5], rfl⟩) (Nat.le_of_ble_eq_true rfl) (Nat.le_of_ble_eq_true rfl) dX8_isWider_103
        · exact J86 (by rw [e69, fn_cm_isWider_69, if_pos c3, if_neg c4, if_neg c5])
  have J53 : fn_cm_isWider k j = fn_cm_isWider_53 k j → W p l e rm_cm_isWider s m args below meth c H locs 0 0 (zz_QI below g args s A rm_cm_isWider.cells rm_cm_isWider.slots (po_cm_isWider g k j)) (F0 m 53 ls []) := by
    intro e53
    refine lv_iload_n hx hb dX8_isWider_53 rfl (lv_at hl 0 rfl) ?_
    refine lv_iconst (v := 4) hx hb dX8_isWider_54 (by decide) ?_
    refine lv_icmp_ne (tgt := 69) hx hb dX8_isWider_55 (by decide) (fun c6 => ?_) (fun c6 => ?_)
    · exact J69 (by rw [e53, fn_cm_isWider_53, if_neg c6])
    · refine lv_iload_n hx hb dX8_isWider_58 rfl (lv_at hl 1 rfl) ?_
      refine lv_iconst (v := 5) hx hb dX8_isWider_59 (by decide) ?_
      refine lv_icmp_lt (tgt := 69) hx hb dX8_isWider_60 (by decide) (fun c7 => ?_) (fun c7 => ?_)
      · exact J69 (by rw [e53, fn_cm_isWider_53, if_pos c6, if_pos c7])
      · refine lv_iload_n hx hb dX8_isWider_63 rfl (lv_at hl 1 rfl) ?_
        refine lv_bipush (v := 7) hx hb dX8_isWider_64 (by decide) ?_
        refine lv_icmp_le (tgt := 98) hx hb dX8_isWider_66 (by decide) (fun c8 => ?_) (fun c8 => ?_)
        · refine lv_iconst (v := 1) hx hb dX8_isWider_98 (by decide) ?_
          refine lv_goto (tgt := 103) hx hb dX8_isWider_99 (by decide) ?_
          exact zz_zret hC hZ (by decide) (⟨by show _ = _; rw [e53, fn_cm_isWider_53, if_pos c6, if_neg c7, if_pos c8], rfl⟩) (Nat.le_of_ble_eq_true rfl) (Nat.le_of_ble_eq_true rfl) dX8_isWider_103
        · exact J69 (by rw [e53, fn_cm_isWider_53, if_pos c6, if_neg c7, if_neg c8])
  have J37 : fn_cm_isWider k j = fn_cm_isWider_37 k j → W p l e rm_cm_isWider s m args below meth c H locs 0 0 (zz_QI below g args s A rm_cm_isWider.cells rm_cm_isWider.slots (po_cm_isWider g k j)) (F0 m 37 ls []) := by
    intro e37
    refine lv_iload_n hx hb dX8_isWider_37 rfl (lv_at hl 0 rfl) ?_
    refine lv_iconst (v := 3) hx hb dX8_isWider_38 (by decide) ?_
    refine lv_icmp_ne (tgt := 53) hx hb dX8_isWider_39 (by decide) (fun c9 => ?_) (fun c9 => ?_)
    · exact J53 (by rw [e37, fn_cm_isWider_37, if_neg c9])
    · refine lv_iload_n hx hb dX8_isWider_42 rfl (lv_at hl 1 rfl) ?_
      refine lv_iconst (v := 4) hx hb dX8_isWider_43 (by decide) ?_
      refine lv_icmp_lt (tgt := 53) hx hb dX8_isWider_44 (by decide) (fun c10 => ?_) (fun c10 => ?_)
      · exact J53 (by rw [e37, fn_cm_isWider_37, if_pos c9, if_pos c10])
      · refine lv_iload_n hx hb dX8_isWider_47 rfl (lv_at hl 1 rfl) ?_
        refine lv_bipush (v := 7) hx hb dX8_isWider_48 (by decide) ?_
        refine lv_icmp_le (tgt := 98) hx hb dX8_isWider_50 (by decide) (fun c11 => ?_) (fun c11 => ?_)
        · refine lv_iconst (v := 1) hx hb dX8_isWider_98 (by decide) ?_
          refine lv_goto (tgt := 103) hx hb dX8_isWider_99 (by decide) ?_
          exact zz_zret hC hZ (by decide) (⟨by show _ = _; rw [e37, fn_cm_isWider_37, if_pos c9, if_neg c10, if_pos c11], rfl⟩) (Nat.le_of_ble_eq_true rfl) (Nat.le_of_ble_eq_true rfl) dX8_isWider_103
        · exact J53 (by rw [e37, fn_cm_isWider_37, if_pos c9, if_neg c10, if_neg c11])
  have J21 : fn_cm_isWider k j = fn_cm_isWider_21 k j → W p l e rm_cm_isWider s m args below meth c H locs 0 0 (zz_QI below g args s A rm_cm_isWider.cells rm_cm_isWider.slots (po_cm_isWider g k j)) (F0 m 21 ls []) := by
    intro e21
    refine lv_iload_n hx hb dX8_isWider_21 rfl (lv_at hl 0 rfl) ?_
    refine lv_iconst (v := 2) hx hb dX8_isWider_22 (by decide) ?_
    refine lv_icmp_ne (tgt := 37) hx hb dX8_isWider_23 (by decide) (fun c12 => ?_) (fun c12 => ?_)
    · exact J37 (by rw [e21, fn_cm_isWider_21, if_neg c12])
    · refine lv_iload_n hx hb dX8_isWider_26 rfl (lv_at hl 1 rfl) ?_
      refine lv_iconst (v := 3) hx hb dX8_isWider_27 (by decide) ?_
      refine lv_icmp_lt (tgt := 37) hx hb dX8_isWider_28 (by decide) (fun c13 => ?_) (fun c13 => ?_)
      · exact J37 (by rw [e21, fn_cm_isWider_21, if_pos c12, if_pos c13])
      · refine lv_iload_n hx hb dX8_isWider_31 rfl (lv_at hl 1 rfl) ?_
        refine lv_bipush (v := 7) hx hb dX8_isWider_32 (by decide) ?_
        refine lv_icmp_le (tgt := 98) hx hb dX8_isWider_34 (by decide) (fun c14 => ?_) (fun c14 => ?_)
        · refine lv_iconst (v := 1) hx hb dX8_isWider_98 (by decide) ?_
          refine lv_goto (tgt := 103) hx hb dX8_isWider_99 (by decide) ?_
          exact zz_zret hC hZ (by decide) (⟨by show _ = _; rw [e21, fn_cm_isWider_21, if_pos c12, if_neg c13, if_pos c14], rfl⟩) (Nat.le_of_ble_eq_true rfl) (Nat.le_of_ble_eq_true rfl) dX8_isWider_103
        · exact J37 (by rw [e21, fn_cm_isWider_21, if_pos c12, if_neg c13, if_neg c14])
  refine lv_iload_n hx hb dX8_isWider_0 rfl (lv_at hl 0 rfl) ?_
  refine lv_iload_n hx hb dX8_isWider_1 rfl (lv_at hl 1 rfl) ?_
  refine lv_icmp_eq (tgt := 98) hx hb dX8_isWider_2 (by decide) (fun c15 => ?_) (fun c15 => ?_)
  · refine lv_iconst (v := 1) hx hb dX8_isWider_98 (by decide) ?_
    refine lv_goto (tgt := 103) hx hb dX8_isWider_99 (by decide) ?_
    exact zz_zret hC hZ (by decide) (⟨by show _ = _; rw [fn_cm_isWider, if_pos c15], rfl⟩) (Nat.le_of_ble_eq_true rfl) (Nat.le_of_ble_eq_true rfl) dX8_isWider_103
  · refine lv_iload_n hx hb dX8_isWider_5 rfl (lv_at hl 0 rfl) ?_
    refine lv_iconst (v := 1) hx hb dX8_isWider_6 (by decide) ?_
    refine lv_icmp_ne (tgt := 21) hx hb dX8_isWider_7 (by decide) (fun c16 => ?_) (fun c16 => ?_)
    · exact J21 (by rw [fn_cm_isWider, if_neg c15, if_neg c16])
    · refine lv_iload_n hx hb dX8_isWider_10 rfl (lv_at hl 1 rfl) ?_
      refine lv_iconst (v := 4) hx hb dX8_isWider_11 (by decide) ?_
      refine lv_icmp_lt (tgt := 21) hx hb dX8_isWider_12 (by decide) (fun c17 => ?_) (fun c17 => ?_)
      · exact J21 (by rw [fn_cm_isWider, if_neg c15, if_pos c16, if_pos c17])
      · refine lv_iload_n hx hb dX8_isWider_15 rfl (lv_at hl 1 rfl) ?_
        refine lv_bipush (v := 7) hx hb dX8_isWider_16 (by decide) ?_
        refine lv_icmp_le (tgt := 98) hx hb dX8_isWider_18 (by decide) (fun c18 => ?_) (fun c18 => ?_)
        · refine lv_iconst (v := 1) hx hb dX8_isWider_98 (by decide) ?_
          refine lv_goto (tgt := 103) hx hb dX8_isWider_99 (by decide) ?_
          exact zz_zret hC hZ (by decide) (⟨by show _ = _; rw [fn_cm_isWider, if_neg c15, if_pos c16, if_neg c17, if_pos c18], rfl⟩) (Nat.le_of_ble_eq_true rfl) (Nat.le_of_ble_eq_true rfl) dX8_isWider_103
        · exact J21 (by rw [fn_cm_isWider, if_neg c15, if_pos c16, if_neg c17, if_neg c18])
theorem dX8_isRoom_0 : decode cX8_isRoom 0 = .ok (.aload_n 0, 1) := by decide +kernel
theorem dX8_isRoom_1 : decode cX8_isRoom 1 = .ok (.getfield 103, 3) := by decide +kernel
theorem zk_735 : Cond.fieldLink RX8 103 RX8 "arrays" "I" ∈ zz_w := zz_in (List.mem_append_right _ (List.mem_append_right _ (List.mem_append_right _ (List.mem_append_right _ (List.mem_append_left _ (List.mem_of_getElem? (i := 15) (by decide +kernel))))))) rfl
theorem zf_X8_103 : zz_f RX8 103 7 0 := ⟨RX8, TX8, 37, rfl, zi_X8, by decide, zk_735⟩
theorem dX8_isRoom_4 : decode cX8_isRoom 4 = .ok (.iload_n 1, 1) := by decide +kernel
theorem dX8_isRoom_5 : decode cX8_isRoom 5 = .ok (.iadd, 1) := by decide +kernel
theorem dX8_isRoom_6 : decode cX8_isRoom 6 = .ok (.bipush 60, 2) := by decide +kernel
theorem dX8_isRoom_8 : decode cX8_isRoom 8 = .ok (.if_icmp .gt 21, 3) := by decide +kernel
theorem dX8_isRoom_29 : decode cX8_isRoom 29 = .ok (.iconst 0, 1) := by decide +kernel
theorem dX8_isRoom_30 : decode cX8_isRoom 30 = .ok (.ireturn, 1) := by decide +kernel
theorem dX8_isRoom_11 : decode cX8_isRoom 11 = .ok (.aload_n 0, 1) := by decide +kernel
theorem dX8_isRoom_12 : decode cX8_isRoom 12 = .ok (.getfield 186, 3) := by decide +kernel
theorem zk_736 : Cond.fieldLink RX8 186 RX8 "elements" "I" ∈ zz_w := zz_in (List.mem_append_right _ (List.mem_append_right _ (List.mem_append_right _ (List.mem_append_right _ (List.mem_append_left _ (List.mem_of_getElem? (i := 16) (by decide +kernel))))))) rfl
theorem zf_X8_186 : zz_f RX8 186 7 1 := ⟨RX8, TX8, 37, rfl, zi_X8, by decide, zk_736⟩
theorem dX8_isRoom_15 : decode cX8_isRoom 15 = .ok (.i2l, 1) := by decide +kernel
theorem dX8_isRoom_16 : decode cX8_isRoom 16 = .ok (.lload_n 2, 1) := by decide +kernel
theorem dX8_isRoom_17 : decode cX8_isRoom 17 = .ok (.ladd, 1) := by decide +kernel
theorem dX8_isRoom_18 : decode cX8_isRoom 18 = .ok (.ldc2_w 189, 3) := by decide +kernel
theorem zk_878 : Cond.constantLong RX8 189 (4000) ∈ zz_w := zz_in (List.mem_append_right _ (List.mem_append_right _ (List.mem_append_right _ (List.mem_append_right _ (List.mem_append_left _ (List.mem_of_getElem? (i := 158) (by decide +kernel))))))) rfl
theorem dX8_isRoom_21 : decode cX8_isRoom 21 = .ok (.lcmp, 1) := by decide +kernel
theorem dX8_isRoom_22 : decode cX8_isRoom 22 = .ok (.ifCond .gt 7, 3) := by decide +kernel
theorem dX8_isRoom_25 : decode cX8_isRoom 25 = .ok (.iconst 1, 1) := by decide +kernel
theorem dX8_isRoom_26 : decode cX8_isRoom 26 = .ok (.goto 4, 3) := by decide +kernel
def fn_cm_isRoom (i_arrays : Int32) (i_elements : Int32) (k : Int32) (n : Int64) : Int32 := (if 60 < (i_arrays + k) then 0 else (if 4000 < (i_elements.toInt64 + n) then 0 else 1))
abbrev rm_cm_isRoom : Room := { frames := 0, cells := 0, slots := 0, locals := 0 }
abbrev po_cm_isRoom (g : zz_G) (h0 : Nat) (a_kindOf : Nat) (a_depthOf : Nat) (a_lengthOf : Nat) (a_classOf : Nat) (a_baseOf : Nat) (a_bits : Nat) (a_pinned : Nat) (a_lengths : Nat) (a_stackArray : Nat) (a_stackOther : Nat) (a_stackAt : Nat) (a_path : Nat) (a_held : Nat) (a_alike : Nat) (a_hashes : Nat) (a_decisionArray : Nat) (a_decisionPlace : Nat) (a_candidateMany : Nat) (a_candidates : Nat) (a_ruleSort : Nat) (a_ruleArray : Nat) (a_ruleWeight : Nat) (a_ruleLow : Nat) (a_ruleHigh : Nat) (a_chosen : Nat) (a_bestOf : Nat) (a_markElements : Nat) (a_markBits : Nat) (a_markPins : Nat) (i_arrays : Int32) (i_elements : Int32) (i_code : Int32) (i_lastArray : Int32) (i_lastPlace : Int32) (i_decisions : Int32) (i_rules : Int32) (i_marks : Int32) (k : Int32) (n : Int64) : Int32 → va_W → Prop := fun (r : Int32) (u : va_W) => r = fn_cm_isRoom i_arrays i_elements k n ∧ u = [(h0, .inr (7, [.int i_arrays, .int i_elements, .ref a_kindOf, .ref a_depthOf, .ref a_lengthOf, .ref a_classOf, .ref a_baseOf, .ref a_bits, .ref a_pinned, .int i_code, .ref a_lengths, .ref a_stackArray, .ref a_stackOther, .ref a_stackAt, .int i_lastArray, .int i_lastPlace, .ref a_path, .ref a_held, .ref a_alike, .ref a_hashes, .int i_decisions, .ref a_decisionArray, .ref a_decisionPlace, .ref a_candidateMany, .ref a_candidates, .int i_rules, .ref a_ruleSort, .ref a_ruleArray, .ref a_ruleWeight, .ref a_ruleLow, .ref a_ruleHigh, .ref a_chosen, .ref a_bestOf, .int i_marks, .ref a_markElements, .ref a_markBits, .ref a_markPins]))]
set_option maxHeartbeats 4000000 in
set_option maxRecDepth 100000 in
theorem cm_isRoom (g : zz_G) (h0 : Nat) (a_kindOf : Nat) (a_depthOf : Nat) (a_lengthOf : Nat) (a_classOf : Nat) (a_baseOf : Nat) (a_bits : Nat) (a_pinned : Nat) (a_lengths : Nat) (a_stackArray : Nat) (a_stackOther : Nat) (a_stackAt : Nat) (a_path : Nat) (a_held : Nat) (a_alike : Nat) (a_hashes : Nat) (a_decisionArray : Nat) (a_decisionPlace : Nat) (a_candidateMany : Nat) (a_candidates : Nat) (a_ruleSort : Nat) (a_ruleArray : Nat) (a_ruleWeight : Nat) (a_ruleLow : Nat) (a_ruleHigh : Nat) (a_chosen : Nat) (a_bestOf : Nat) (a_markElements : Nat) (a_markBits : Nat) (a_markPins : Nat) (i_arrays : Int32) (i_elements : Int32) (i_code : Int32) (i_lastArray : Int32) (i_lastPlace : Int32) (i_decisions : Int32) (i_rules : Int32) (i_marks : Int32) (k : Int32) (n : Int64) : zz_I g yX8_isRoom (.code yX8_isRoom cX8_isRoom 4 (some .boolean)) rm_cm_isRoom [.ref h0, .int k, .long n] [(h0, .inr (7, [.int i_arrays, .int i_elements, .ref a_kindOf, .ref a_depthOf, .ref a_lengthOf, .ref a_classOf, .ref a_baseOf, .ref a_bits, .ref a_pinned, .int i_code, .ref a_lengths, .ref a_stackArray, .ref a_stackOther, .ref a_stackAt, .int i_lastArray, .int i_lastPlace, .ref a_path, .ref a_held, .ref a_alike, .ref a_hashes, .int i_decisions, .ref a_decisionArray, .ref a_decisionPlace, .ref a_candidateMany, .ref a_candidates, .int i_rules, .ref a_ruleSort, .ref a_ruleArray, .ref a_ruleWeight, .ref a_ruleLow, .ref a_ruleHigh, .ref a_chosen, .ref a_bestOf, .int i_marks, .ref a_markElements, .ref a_markBits, .ref a_markPins]))] (po_cm_isRoom g h0 a_kindOf a_depthOf a_lengthOf a_classOf a_baseOf a_bits a_pinned a_lengths a_stackArray a_stackOther a_stackAt a_path a_held a_alike a_hashes a_decisionArray a_decisionPlace a_candidateMany a_candidates a_ruleSort a_ruleArray a_ruleWeight a_ruleLow a_ruleHigh a_chosen a_bestOf a_markElements a_markBits a_markPins i_arrays i_elements i_code i_lastArray i_lastPlace i_decisions i_rules i_marks k n) := by
  refine zz_I.intro (own := RX8) (cc := cX8_isRoom) (nL := 4) (by decide) rfl (Nat.le_of_ble_eq_true rfl) ?_
  intro p l e s m args below meth c A H locs ls hC hnm hZ hl
  obtain ⟨hx, hb, hml, hown, hts, hr, hlocks, hK⟩ := id hC
  have hl : lv_has ls 4 [(0, .ref h0), (1, .int k), (2, .long n)] := hl
  have hZ : zz_Z g A s.heap [(h0, .inr (7, [.int i_arrays, .int i_elements, .ref a_kindOf, .ref a_depthOf, .ref a_lengthOf, .ref a_classOf, .ref a_baseOf, .ref a_bits, .ref a_pinned, .int i_code, .ref a_lengths, .ref a_stackArray, .ref a_stackOther, .ref a_stackAt, .int i_lastArray, .int i_lastPlace, .ref a_path, .ref a_held, .ref a_alike, .ref a_hashes, .int i_decisions, .ref a_decisionArray, .ref a_decisionPlace, .ref a_candidateMany, .ref a_candidates, .int i_rules, .ref a_ruleSort, .ref a_ruleArray, .ref a_ruleWeight, .ref a_ruleLow, .ref a_ruleHigh, .ref a_chosen, .ref a_bestOf, .int i_marks, .ref a_markElements, .ref a_markBits, .ref a_markPins]))] H locs := hZ
  refine lv_aload_n hx hb dX8_isRoom_0 rfl (lv_at hl 0 rfl) ?_
  refine zz_get hC hZ 0 rfl zf_X8_103 rfl dX8_isRoom_1 ?_
  refine lv_iload_n hx hb dX8_isRoom_4 rfl (lv_at hl 1 rfl) ?_
  refine lv_iadd hx hb dX8_isRoom_5 ?_
  refine lv_bipush (v := 60) hx hb dX8_isRoom_6 (by decide) ?_
  refine lv_icmp_gt (tgt := 29) hx hb dX8_isRoom_8 (by decide) (fun c1 => ?_) (fun c1 => ?_)
  · refine lv_iconst (v := 0) hx hb dX8_isRoom_29 (by decide) ?_
    exact zz_zret hC hZ (by decide) (⟨by show _ = _; rw [fn_cm_isRoom, if_pos c1], rfl⟩) (Nat.le_of_ble_eq_true rfl) (Nat.le_of_ble_eq_true rfl) dX8_isRoom_30
  · refine lv_aload_n hx hb dX8_isRoom_11 rfl (lv_at hl 0 rfl) ?_
    refine zz_get hC hZ 0 rfl zf_X8_186 rfl dX8_isRoom_12 ?_
    refine lv_i2l hx hb dX8_isRoom_15 rfl ?_
    refine lv_lload_n hx hb dX8_isRoom_16 rfl (lv_at hl 2 rfl) ?_
    refine lv_ladd hx hb dX8_isRoom_17 ?_
    refine lv_ldc2 hx hb hown (hts _ zk_878) dX8_isRoom_18 ?_
    refine zz_lcmp_gt (tgt := 29) hC dX8_isRoom_21 dX8_isRoom_22 (by decide) (fun c2 => ?_) (fun c2 => ?_)
    · refine lv_iconst (v := 0) hx hb dX8_isRoom_29 (by decide) ?_
      exact zz_zret hC hZ (by decide) (⟨by show _ = _; rw [fn_cm_isRoom, if_neg c1, if_pos c2], rfl⟩) (Nat.le_of_ble_eq_true rfl) (Nat.le_of_ble_eq_true rfl) dX8_isRoom_30
    · refine lv_iconst (v := 1) hx hb dX8_isRoom_25 (by decide) ?_
      refine lv_goto (tgt := 30) hx hb dX8_isRoom_26 (by decide) ?_
      exact zz_zret hC hZ (by decide) (⟨by show _ = _; rw [fn_cm_isRoom, if_neg c1, if_neg c2], rfl⟩) (Nat.le_of_ble_eq_true rfl) (Nat.le_of_ble_eq_true rfl) dX8_isRoom_30
theorem zl_b01 {x : Int32} (h : x = 0 ∨ x = 1) : narrow .boolean (.int x) = .int x := by
  rcases h with rfl | rfl <;> rfl
theorem zl_within01 (v lo hi : Int64) : fn_cm_within v lo hi = 0 ∨ fn_cm_within v lo hi = 1 := by
  unfold fn_cm_within; split
  · exact Or.inl rfl
  · split
    · exact Or.inl rfl
    · exact Or.inr rfl
theorem zl_none (v : Int64) : fn_cm_within v 0 (-1) = 0 := by
  unfold fn_cm_within
  split
  · rfl
  · rename_i h
    rw [if_pos]
    rw [Int64.lt_iff_toInt_lt] at h ⊢
    have e0 : (0 : Int64).toInt = 0 := by decide
    have e1 : (-1 : Int64).toInt = -1 := by decide
    omega
theorem dX8_isArray_0 : decode cX8_isArray 0 = .ok (.iload_n 1, 1) := by decide +kernel
theorem dX8_isArray_1 : decode cX8_isArray 1 = .ok (.i2l, 1) := by decide +kernel
theorem dX8_isArray_2 : decode cX8_isArray 2 = .ok (.lconst 0, 1) := by decide +kernel
theorem dX8_isArray_3 : decode cX8_isArray 3 = .ok (.aload_n 0, 1) := by decide +kernel
theorem dX8_isArray_4 : decode cX8_isArray 4 = .ok (.getfield 103, 3) := by decide +kernel
theorem dX8_isArray_7 : decode cX8_isArray 7 = .ok (.iconst 1, 1) := by decide +kernel
theorem dX8_isArray_8 : decode cX8_isArray 8 = .ok (.isub, 1) := by decide +kernel
theorem dX8_isArray_9 : decode cX8_isArray 9 = .ok (.i2l, 1) := by decide +kernel
theorem dX8_isArray_10 : decode cX8_isArray 10 = .ok (.invokestatic 106, 3) := by decide +kernel
theorem zk_852 : Cond.methodLink RX8 106 yX8_within ∈ zz_w := zz_in (List.mem_append_right _ (List.mem_append_right _ (List.mem_append_right _ (List.mem_append_right _ (List.mem_append_left _ (List.mem_of_getElem? (i := 132) (by decide +kernel))))))) rfl
set_option maxRecDepth 20000 in
theorem zk_854 : Cond.code yX8_within cX8_within 6 (some .boolean) ∈ zz_w := zz_in (List.mem_append_right _ (List.mem_append_right _ (List.mem_append_right _ (List.mem_append_right _ (List.mem_append_left _ (List.mem_of_getElem? (i := 134) (rfl))))))) rfl
theorem zk_7 : Cond.initialized RX8 ∈ zz_w := zz_in (List.mem_append_right _ (List.mem_append_left _ (List.mem_of_getElem? (i := 7) (by decide +kernel)))) rfl
theorem zk_853 : Cond.static yX8_within ∈ zz_w := zz_in (List.mem_append_right _ (List.mem_append_right _ (List.mem_append_right _ (List.mem_append_right _ (List.mem_append_left _ (List.mem_of_getElem? (i := 133) (by decide +kernel))))))) rfl
theorem zc_X8_106 : zz_cS RX8 106 yX8_within cX8_within 6 (some .boolean) 3 := ⟨⟨zk_852, zk_854, zk_7, by decide, by decide, by decide +kernel⟩, zk_853⟩
theorem dX8_isArray_13 : decode cX8_isArray 13 = .ok (.ireturn, 1) := by decide +kernel
abbrev rm_cm_isArray0 : Room := { frames := 1, cells := 0, slots := 0, locals := 25 }
abbrev po_cm_isArray0 (g : zz_G) (h0 : Nat) (a_kindOf : Nat) (a_depthOf : Nat) (a_lengthOf : Nat) (a_classOf : Nat) (a_baseOf : Nat) (a_bits : Nat) (a_pinned : Nat) (a_lengths : Nat) (a_stackArray : Nat) (a_stackOther : Nat) (a_stackAt : Nat) (a_path : Nat) (a_held : Nat) (a_alike : Nat) (a_hashes : Nat) (a_decisionArray : Nat) (a_decisionPlace : Nat) (a_candidateMany : Nat) (a_candidates : Nat) (a_ruleSort : Nat) (a_ruleArray : Nat) (a_ruleWeight : Nat) (a_ruleLow : Nat) (a_ruleHigh : Nat) (a_chosen : Nat) (a_bestOf : Nat) (a_markElements : Nat) (a_markBits : Nat) (a_markPins : Nat) (i_elements : Int32) (i_code : Int32) (i_lastArray : Int32) (i_lastPlace : Int32) (i_decisions : Int32) (i_rules : Int32) (i_marks : Int32) (k : Int32) : Int32 → va_W → Prop := fun (r : Int32) (u : va_W) => r = 0 ∧ u = [(h0, .inr (7, [.int 0, .int i_elements, .ref a_kindOf, .ref a_depthOf, .ref a_lengthOf, .ref a_classOf, .ref a_baseOf, .ref a_bits, .ref a_pinned, .int i_code, .ref a_lengths, .ref a_stackArray, .ref a_stackOther, .ref a_stackAt, .int i_lastArray, .int i_lastPlace, .ref a_path, .ref a_held, .ref a_alike, .ref a_hashes, .int i_decisions, .ref a_decisionArray, .ref a_decisionPlace, .ref a_candidateMany, .ref a_candidates, .int i_rules, .ref a_ruleSort, .ref a_ruleArray, .ref a_ruleWeight, .ref a_ruleLow, .ref a_ruleHigh, .ref a_chosen, .ref a_bestOf, .int i_marks, .ref a_markElements, .ref a_markBits, .ref a_markPins]))]
set_option maxHeartbeats 4000000 in
set_option maxRecDepth 100000 in
theorem cm_isArray0 (g : zz_G) (h0 : Nat) (a_kindOf : Nat) (a_depthOf : Nat) (a_lengthOf : Nat) (a_classOf : Nat) (a_baseOf : Nat) (a_bits : Nat) (a_pinned : Nat) (a_lengths : Nat) (a_stackArray : Nat) (a_stackOther : Nat) (a_stackAt : Nat) (a_path : Nat) (a_held : Nat) (a_alike : Nat) (a_hashes : Nat) (a_decisionArray : Nat) (a_decisionPlace : Nat) (a_candidateMany : Nat) (a_candidates : Nat) (a_ruleSort : Nat) (a_ruleArray : Nat) (a_ruleWeight : Nat) (a_ruleLow : Nat) (a_ruleHigh : Nat) (a_chosen : Nat) (a_bestOf : Nat) (a_markElements : Nat) (a_markBits : Nat) (a_markPins : Nat) (i_elements : Int32) (i_code : Int32) (i_lastArray : Int32) (i_lastPlace : Int32) (i_decisions : Int32) (i_rules : Int32) (i_marks : Int32) (k : Int32) : zz_I g yX8_isArray (.code yX8_isArray cX8_isArray 2 (some .boolean)) rm_cm_isArray0 [.ref h0, .int k] [(h0, .inr (7, [.int 0, .int i_elements, .ref a_kindOf, .ref a_depthOf, .ref a_lengthOf, .ref a_classOf, .ref a_baseOf, .ref a_bits, .ref a_pinned, .int i_code, .ref a_lengths, .ref a_stackArray, .ref a_stackOther, .ref a_stackAt, .int i_lastArray, .int i_lastPlace, .ref a_path, .ref a_held, .ref a_alike, .ref a_hashes, .int i_decisions, .ref a_decisionArray, .ref a_decisionPlace, .ref a_candidateMany, .ref a_candidates, .int i_rules, .ref a_ruleSort, .ref a_ruleArray, .ref a_ruleWeight, .ref a_ruleLow, .ref a_ruleHigh, .ref a_chosen, .ref a_bestOf, .int i_marks, .ref a_markElements, .ref a_markBits, .ref a_markPins]))] (po_cm_isArray0 g h0 a_kindOf a_depthOf a_lengthOf a_classOf a_baseOf a_bits a_pinned a_lengths a_stackArray a_stackOther a_stackAt a_path a_held a_alike a_hashes a_decisionArray a_decisionPlace a_candidateMany a_candidates a_ruleSort a_ruleArray a_ruleWeight a_ruleLow a_ruleHigh a_chosen a_bestOf a_markElements a_markBits a_markPins i_elements i_code i_lastArray i_lastPlace i_decisions i_rules i_marks k) := by
  refine zz_I.intro (own := RX8) (cc := cX8_isArray) (nL := 2) (by decide) rfl (Nat.le_of_ble_eq_true rfl) ?_
  intro p l e s m args below meth c A H locs ls hC hnm hZ hl
  obtain ⟨hx, hb, hml, hown, hts, hr, hlocks, hK⟩ := id hC
  have hl : lv_has ls 2 [(0, .ref h0), (1, .int k)] := hl
  have hZ : zz_Z g A s.heap [(h0, .inr (7, [.int 0, .int i_elements, .ref a_kindOf, .ref a_depthOf, .ref a_lengthOf, .ref a_classOf, .ref a_baseOf, .ref a_bits, .ref a_pinned, .int i_code, .ref a_lengths, .ref a_stackArray, .ref a_stackOther, .ref a_stackAt, .int i_lastArray, .int i_lastPlace, .ref a_path, .ref a_held, .ref a_alike, .ref a_hashes, .int i_decisions, .ref a_decisionArray, .ref a_decisionPlace, .ref a_candidateMany, .ref a_candidates, .int i_rules, .ref a_ruleSort, .ref a_ruleArray, .ref a_ruleWeight, .ref a_ruleLow, .ref a_ruleHigh, .ref a_chosen, .ref a_bestOf, .int i_marks, .ref a_markElements, .ref a_markBits, .ref a_markPins]))] H locs := hZ
  refine lv_iload_n hx hb dX8_isArray_0 rfl (lv_at hl 1 rfl) ?_
  refine lv_i2l hx hb dX8_isArray_1 rfl ?_
  refine lv_lconst (v := 0) hx hb dX8_isArray_2 (by decide) ?_
  refine lv_aload_n hx hb dX8_isArray_3 rfl (lv_at hl 0 rfl) ?_
  refine zz_get hC hZ 0 rfl zf_X8_103 rfl dX8_isArray_4 ?_
  refine lv_iconst (v := 1) hx hb dX8_isArray_7 (by decide) ?_
  refine lv_isub hx hb dX8_isArray_8 ?_
  refine zz_topi (v := -1) (by decide) ?_
  refine lv_i2l (v := -1) hx hb dX8_isArray_9 (by decide) ?_
  refine zz_iS (As := [.long k.toInt64, .long 0, .long (-1)]) (wc := []) (wr := [(h0, .inr (7, [.int 0, .int i_elements, .ref a_kindOf, .ref a_depthOf, .ref a_lengthOf, .ref a_classOf, .ref a_baseOf, .ref a_bits, .ref a_pinned, .int i_code, .ref a_lengths, .ref a_stackArray, .ref a_stackOther, .ref a_stackAt, .int i_lastArray, .int i_lastPlace, .ref a_path, .ref a_held, .ref a_alike, .ref a_hashes, .int i_decisions, .ref a_decisionArray, .ref a_decisionPlace, .ref a_candidateMany, .ref a_candidates, .int i_rules, .ref a_ruleSort, .ref a_ruleArray, .ref a_ruleWeight, .ref a_ruleLow, .ref a_ruleHigh, .ref a_chosen, .ref a_bestOf, .int i_marks, .ref a_markElements, .ref a_markBits, .ref a_markPins]))]) (rest := []) hC hZ hl zc_X8_106 (cm_within g k.toInt64 0 (-1)) [] [0] rfl rfl (by decide) rfl rfl (Nat.le_of_ble_eq_true rfl) ⟨⟨Nat.le_of_ble_eq_true rfl, Nat.le_of_ble_eq_true rfl⟩, Nat.le_of_ble_eq_true rfl, Nat.le_of_ble_eq_true rfl⟩ dX8_isArray_10 (fun r1 u2 H locs hp hZ => ?_)
  obtain ⟨rfl, rfl⟩ := hp
  have hZ : zz_Z g A s.heap [(h0, .inr (7, [.int 0, .int i_elements, .ref a_kindOf, .ref a_depthOf, .ref a_lengthOf, .ref a_classOf, .ref a_baseOf, .ref a_bits, .ref a_pinned, .int i_code, .ref a_lengths, .ref a_stackArray, .ref a_stackOther, .ref a_stackAt, .int i_lastArray, .int i_lastPlace, .ref a_path, .ref a_held, .ref a_alike, .ref a_hashes, .int i_decisions, .ref a_decisionArray, .ref a_decisionPlace, .ref a_candidateMany, .ref a_candidates, .int i_rules, .ref a_ruleSort, .ref a_ruleArray, .ref a_ruleWeight, .ref a_ruleLow, .ref a_ruleHigh, .ref a_chosen, .ref a_bestOf, .int i_marks, .ref a_markElements, .ref a_markBits, .ref a_markPins]))] H locs := hZ
  exact zz_zret hC hZ (zl_b01 (zl_within01 _ _ _)) (⟨zl_none _, rfl⟩) (Nat.le_of_ble_eq_true rfl) (Nat.le_of_ble_eq_true rfl) dX8_isArray_13
theorem dX8_isDecision_0 : decode cX8_isDecision 0 = .ok (.iload_n 1, 1) := by decide +kernel
theorem dX8_isDecision_1 : decode cX8_isDecision 1 = .ok (.i2l, 1) := by decide +kernel
theorem dX8_isDecision_2 : decode cX8_isDecision 2 = .ok (.lconst 0, 1) := by decide +kernel
theorem dX8_isDecision_3 : decode cX8_isDecision 3 = .ok (.aload_n 0, 1) := by decide +kernel
theorem dX8_isDecision_4 : decode cX8_isDecision 4 = .ok (.getfield 248, 3) := by decide +kernel
theorem zk_755 : Cond.fieldLink RX8 248 RX8 "decisions" "I" ∈ zz_w := zz_in (List.mem_append_right _ (List.mem_append_right _ (List.mem_append_right _ (List.mem_append_right _ (List.mem_append_left _ (List.mem_of_getElem? (i := 35) (by decide +kernel))))))) rfl
theorem zf_X8_248 : zz_f RX8 248 7 20 := ⟨RX8, TX8, 37, rfl, zi_X8, by decide, zk_755⟩
theorem dX8_isDecision_7 : decode cX8_isDecision 7 = .ok (.iconst 1, 1) := by decide +kernel
theorem dX8_isDecision_8 : decode cX8_isDecision 8 = .ok (.isub, 1) := by decide +kernel
theorem dX8_isDecision_9 : decode cX8_isDecision 9 = .ok (.i2l, 1) := by decide +kernel
theorem dX8_isDecision_10 : decode cX8_isDecision 10 = .ok (.invokestatic 106, 3) := by decide +kernel
theorem dX8_isDecision_13 : decode cX8_isDecision 13 = .ok (.ireturn, 1) := by decide +kernel
abbrev rm_cm_isDecision0 : Room := { frames := 1, cells := 0, slots := 0, locals := 25 }
abbrev po_cm_isDecision0 (g : zz_G) (h0 : Nat) (a_kindOf : Nat) (a_depthOf : Nat) (a_lengthOf : Nat) (a_classOf : Nat) (a_baseOf : Nat) (a_bits : Nat) (a_pinned : Nat) (a_lengths : Nat) (a_stackArray : Nat) (a_stackOther : Nat) (a_stackAt : Nat) (a_path : Nat) (a_held : Nat) (a_alike : Nat) (a_hashes : Nat) (a_decisionArray : Nat) (a_decisionPlace : Nat) (a_candidateMany : Nat) (a_candidates : Nat) (a_ruleSort : Nat) (a_ruleArray : Nat) (a_ruleWeight : Nat) (a_ruleLow : Nat) (a_ruleHigh : Nat) (a_chosen : Nat) (a_bestOf : Nat) (a_markElements : Nat) (a_markBits : Nat) (a_markPins : Nat) (i_arrays : Int32) (i_elements : Int32) (i_code : Int32) (i_lastArray : Int32) (i_lastPlace : Int32) (i_rules : Int32) (i_marks : Int32) (k : Int32) : Int32 → va_W → Prop := fun (r : Int32) (u : va_W) => r = 0 ∧ u = [(h0, .inr (7, [.int i_arrays, .int i_elements, .ref a_kindOf, .ref a_depthOf, .ref a_lengthOf, .ref a_classOf, .ref a_baseOf, .ref a_bits, .ref a_pinned, .int i_code, .ref a_lengths, .ref a_stackArray, .ref a_stackOther, .ref a_stackAt, .int i_lastArray, .int i_lastPlace, .ref a_path, .ref a_held, .ref a_alike, .ref a_hashes, .int 0, .ref a_decisionArray, .ref a_decisionPlace, .ref a_candidateMany, .ref a_candidates, .int i_rules, .ref a_ruleSort, .ref a_ruleArray, .ref a_ruleWeight, .ref a_ruleLow, .ref a_ruleHigh, .ref a_chosen, .ref a_bestOf, .int i_marks, .ref a_markElements, .ref a_markBits, .ref a_markPins]))]
set_option maxHeartbeats 4000000 in
set_option maxRecDepth 100000 in
theorem cm_isDecision0 (g : zz_G) (h0 : Nat) (a_kindOf : Nat) (a_depthOf : Nat) (a_lengthOf : Nat) (a_classOf : Nat) (a_baseOf : Nat) (a_bits : Nat) (a_pinned : Nat) (a_lengths : Nat) (a_stackArray : Nat) (a_stackOther : Nat) (a_stackAt : Nat) (a_path : Nat) (a_held : Nat) (a_alike : Nat) (a_hashes : Nat) (a_decisionArray : Nat) (a_decisionPlace : Nat) (a_candidateMany : Nat) (a_candidates : Nat) (a_ruleSort : Nat) (a_ruleArray : Nat) (a_ruleWeight : Nat) (a_ruleLow : Nat) (a_ruleHigh : Nat) (a_chosen : Nat) (a_bestOf : Nat) (a_markElements : Nat) (a_markBits : Nat) (a_markPins : Nat) (i_arrays : Int32) (i_elements : Int32) (i_code : Int32) (i_lastArray : Int32) (i_lastPlace : Int32) (i_rules : Int32) (i_marks : Int32) (k : Int32) : zz_I g yX8_isDecision (.code yX8_isDecision cX8_isDecision 2 (some .boolean)) rm_cm_isDecision0 [.ref h0, .int k] [(h0, .inr (7, [.int i_arrays, .int i_elements, .ref a_kindOf, .ref a_depthOf, .ref a_lengthOf, .ref a_classOf, .ref a_baseOf, .ref a_bits, .ref a_pinned, .int i_code, .ref a_lengths, .ref a_stackArray, .ref a_stackOther, .ref a_stackAt, .int i_lastArray, .int i_lastPlace, .ref a_path, .ref a_held, .ref a_alike, .ref a_hashes, .int 0, .ref a_decisionArray, .ref a_decisionPlace, .ref a_candidateMany, .ref a_candidates, .int i_rules, .ref a_ruleSort, .ref a_ruleArray, .ref a_ruleWeight, .ref a_ruleLow, .ref a_ruleHigh, .ref a_chosen, .ref a_bestOf, .int i_marks, .ref a_markElements, .ref a_markBits, .ref a_markPins]))] (po_cm_isDecision0 g h0 a_kindOf a_depthOf a_lengthOf a_classOf a_baseOf a_bits a_pinned a_lengths a_stackArray a_stackOther a_stackAt a_path a_held a_alike a_hashes a_decisionArray a_decisionPlace a_candidateMany a_candidates a_ruleSort a_ruleArray a_ruleWeight a_ruleLow a_ruleHigh a_chosen a_bestOf a_markElements a_markBits a_markPins i_arrays i_elements i_code i_lastArray i_lastPlace i_rules i_marks k) := by
  refine zz_I.intro (own := RX8) (cc := cX8_isDecision) (nL := 2) (by decide) rfl (Nat.le_of_ble_eq_true rfl) ?_
  intro p l e s m args below meth c A H locs ls hC hnm hZ hl
  obtain ⟨hx, hb, hml, hown, hts, hr, hlocks, hK⟩ := id hC
  have hl : lv_has ls 2 [(0, .ref h0), (1, .int k)] := hl
  have hZ : zz_Z g A s.heap [(h0, .inr (7, [.int i_arrays, .int i_elements, .ref a_kindOf, .ref a_depthOf, .ref a_lengthOf, .ref a_classOf, .ref a_baseOf, .ref a_bits, .ref a_pinned, .int i_code, .ref a_lengths, .ref a_stackArray, .ref a_stackOther, .ref a_stackAt, .int i_lastArray, .int i_lastPlace, .ref a_path, .ref a_held, .ref a_alike, .ref a_hashes, .int 0, .ref a_decisionArray, .ref a_decisionPlace, .ref a_candidateMany, .ref a_candidates, .int i_rules, .ref a_ruleSort, .ref a_ruleArray, .ref a_ruleWeight, .ref a_ruleLow, .ref a_ruleHigh, .ref a_chosen, .ref a_bestOf, .int i_marks, .ref a_markElements, .ref a_markBits, .ref a_markPins]))] H locs := hZ
  refine lv_iload_n hx hb dX8_isDecision_0 rfl (lv_at hl 1 rfl) ?_
  refine lv_i2l hx hb dX8_isDecision_1 rfl ?_
  refine lv_lconst (v := 0) hx hb dX8_isDecision_2 (by decide) ?_
  refine lv_aload_n hx hb dX8_isDecision_3 rfl (lv_at hl 0 rfl) ?_
  refine zz_get hC hZ 0 rfl zf_X8_248 rfl dX8_isDecision_4 ?_
  refine lv_iconst (v := 1) hx hb dX8_isDecision_7 (by decide) ?_
  refine lv_isub hx hb dX8_isDecision_8 ?_
  refine zz_topi (v := -1) (by decide) ?_
  refine lv_i2l (v := -1) hx hb dX8_isDecision_9 (by decide) ?_
  refine zz_iS (As := [.long k.toInt64, .long 0, .long (-1)]) (wc := []) (wr := [(h0, .inr (7, [.int i_arrays, .int i_elements, .ref a_kindOf, .ref a_depthOf, .ref a_lengthOf, .ref a_classOf, .ref a_baseOf, .ref a_bits, .ref a_pinned, .int i_code, .ref a_lengths, .ref a_stackArray, .ref a_stackOther, .ref a_stackAt, .int i_lastArray, .int i_lastPlace, .ref a_path, .ref a_held, .ref a_alike, .ref a_hashes, .int 0, .ref a_decisionArray, .ref a_decisionPlace, .ref a_candidateMany, .ref a_candidates, .int i_rules, .ref a_ruleSort, .ref a_ruleArray, .ref a_ruleWeight, .ref a_ruleLow, .ref a_ruleHigh, .ref a_chosen, .ref a_bestOf, .int i_marks, .ref a_markElements, .ref a_markBits, .ref a_markPins]))]) (rest := []) hC hZ hl zc_X8_106 (cm_within g k.toInt64 0 (-1)) [] [0] rfl rfl (by decide) rfl rfl (Nat.le_of_ble_eq_true rfl) ⟨⟨Nat.le_of_ble_eq_true rfl, Nat.le_of_ble_eq_true rfl⟩, Nat.le_of_ble_eq_true rfl, Nat.le_of_ble_eq_true rfl⟩ dX8_isDecision_10 (fun r1 u2 H locs hp hZ => ?_)
  obtain ⟨rfl, rfl⟩ := hp
  have hZ : zz_Z g A s.heap [(h0, .inr (7, [.int i_arrays, .int i_elements, .ref a_kindOf, .ref a_depthOf, .ref a_lengthOf, .ref a_classOf, .ref a_baseOf, .ref a_bits, .ref a_pinned, .int i_code, .ref a_lengths, .ref a_stackArray, .ref a_stackOther, .ref a_stackAt, .int i_lastArray, .int i_lastPlace, .ref a_path, .ref a_held, .ref a_alike, .ref a_hashes, .int 0, .ref a_decisionArray, .ref a_decisionPlace, .ref a_candidateMany, .ref a_candidates, .int i_rules, .ref a_ruleSort, .ref a_ruleArray, .ref a_ruleWeight, .ref a_ruleLow, .ref a_ruleHigh, .ref a_chosen, .ref a_bestOf, .int i_marks, .ref a_markElements, .ref a_markBits, .ref a_markPins]))] H locs := hZ
  exact zz_zret hC hZ (zl_b01 (zl_within01 _ _ _)) (⟨zl_none _, rfl⟩) (Nat.le_of_ble_eq_true rfl) (Nat.le_of_ble_eq_true rfl) dX8_isDecision_13
theorem dX6_has_0 : decode cX6_has 0 = .ok (.iload_n 1, 1) := by decide +kernel
theorem dX6_has_1 : decode cX6_has 1 = .ok (.ifCond .lt 15, 3) := by decide +kernel
theorem dX6_has_16 : decode cX6_has 16 = .ok (.iconst 0, 1) := by decide +kernel
theorem dX6_has_17 : decode cX6_has 17 = .ok (.ireturn, 1) := by decide +kernel
theorem dX6_has_4 : decode cX6_has 4 = .ok (.iload_n 1, 1) := by decide +kernel
theorem dX6_has_5 : decode cX6_has 5 = .ok (.aload_n 0, 1) := by decide +kernel
theorem dX6_has_6 : decode cX6_has 6 = .ok (.getfield 38, 3) := by decide +kernel
theorem zk_26 : Cond.fieldLink RX6 38 RX6 "arrays" "I" ∈ zz_w := zz_in (List.mem_append_right _ (List.mem_append_left _ (List.mem_of_getElem? (i := 26) (by decide +kernel)))) rfl
theorem zi_X6_a : ∀ w ∈ u_ws RX6 TX6 10, w ∈ lw_tbl := by decide +kernel
theorem zi_X6_b : ∀ w ∈ u_ws RX6 TX6 10, goodWord w = true := by decide +kernel
theorem zi_X6 : ∀ w ∈ u_ws RX6 TX6 10, w ∈ zz_w := fun w h => zz_in (zi_X6_a w h) (zi_X6_b w h)
theorem zf_X6_38 : zz_f RX6 38 5 0 := ⟨RX6, TX6, 10, rfl, zi_X6, by decide, zk_26⟩
theorem dX6_has_9 : decode cX6_has 9 = .ok (.if_icmp .ge 7, 3) := by decide +kernel
theorem dX6_has_12 : decode cX6_has 12 = .ok (.iconst 1, 1) := by decide +kernel
theorem dX6_has_13 : decode cX6_has 13 = .ok (.goto 4, 3) := by decide +kernel
def fn_co_has (ar : Int32) (k : Int32) : Int32 := (if k < 0 then 0 else (if ar ≤ k then 0 else 1))
abbrev rm_co_has : Room := { frames := 0, cells := 0, slots := 0, locals := 0 }
abbrev po_co_has (g : zz_G) (st : Nat) (kd : Nat) (dp : Nat) (cl : Nat) (sa : Nat) (ln : Nat) (bt : Nat) (pn : Nat) (bf : Nat) (ar : Int32) (us : Int32) (k : Int32) : Int32 → va_W → Prop := fun (r : Int32) (u : va_W) => r = fn_co_has ar k ∧ u = [(st, .inr (5, [.int ar, .int us, .ref kd, .ref dp, .ref cl, .ref sa, .ref ln, .ref bt, .ref pn, .ref bf]))]
set_option maxHeartbeats 4000000 in
set_option maxRecDepth 100000 in
theorem co_has (g : zz_G) (st : Nat) (kd : Nat) (dp : Nat) (cl : Nat) (sa : Nat) (ln : Nat) (bt : Nat) (pn : Nat) (bf : Nat) (ar : Int32) (us : Int32) (k : Int32) : zz_I g yX6_has (.code yX6_has cX6_has 2 (some .boolean)) rm_co_has [.ref st, .int k] [(st, .inr (5, [.int ar, .int us, .ref kd, .ref dp, .ref cl, .ref sa, .ref ln, .ref bt, .ref pn, .ref bf]))] (po_co_has g st kd dp cl sa ln bt pn bf ar us k) := by
  refine zz_I.intro (own := RX6) (cc := cX6_has) (nL := 2) (by decide) rfl (Nat.le_of_ble_eq_true rfl) ?_
  intro p l e s m args below meth c A H locs ls hC hnm hZ hl
  obtain ⟨hx, hb, hml, hown, hts, hr, hlocks, hK⟩ := id hC
  have hl : lv_has ls 2 [(0, .ref st), (1, .int k)] := hl
  have hZ : zz_Z g A s.heap [(st, .inr (5, [.int ar, .int us, .ref kd, .ref dp, .ref cl, .ref sa, .ref ln, .ref bt, .ref pn, .ref bf]))] H locs := hZ
  refine lv_iload_n hx hb dX6_has_0 rfl (lv_at hl 1 rfl) ?_
  refine lv_if_lt (tgt := 16) hx hb dX6_has_1 (by decide) (fun c1 => ?_) (fun c1 => ?_)
  · refine lv_iconst (v := 0) hx hb dX6_has_16 (by decide) ?_
    exact zz_zret hC hZ (by decide) (⟨by show _ = _; rw [fn_co_has, if_pos c1], rfl⟩) (Nat.le_of_ble_eq_true rfl) (Nat.le_of_ble_eq_true rfl) dX6_has_17
  · refine lv_iload_n hx hb dX6_has_4 rfl (lv_at hl 1 rfl) ?_
    refine lv_aload_n hx hb dX6_has_5 rfl (lv_at hl 0 rfl) ?_
    refine zz_get hC hZ 0 rfl zf_X6_38 rfl dX6_has_6 ?_
    refine lv_icmp_ge (tgt := 16) hx hb dX6_has_9 (by decide) (fun c2 => ?_) (fun c2 => ?_)
    · refine lv_iconst (v := 0) hx hb dX6_has_16 (by decide) ?_
      exact zz_zret hC hZ (by decide) (⟨by show _ = _; rw [fn_co_has, if_neg c1, if_pos c2], rfl⟩) (Nat.le_of_ble_eq_true rfl) (Nat.le_of_ble_eq_true rfl) dX6_has_17
    · refine lv_iconst (v := 1) hx hb dX6_has_12 (by decide) ?_
      refine lv_goto (tgt := 17) hx hb dX6_has_13 (by decide) ?_
      exact zz_zret hC hZ (by decide) (⟨by show _ = _; rw [fn_co_has, if_neg c1, if_neg c2], rfl⟩) (Nat.le_of_ble_eq_true rfl) (Nat.le_of_ble_eq_true rfl) dX6_has_17
theorem dX6_fits_0 : decode cX6_fits 0 = .ok (.aload_n 0, 1) := by decide +kernel
theorem dX6_fits_1 : decode cX6_fits 1 = .ok (.getfield 38, 3) := by decide +kernel
theorem dX6_fits_4 : decode cX6_fits 4 = .ok (.i2l, 1) := by decide +kernel
theorem dX6_fits_5 : decode cX6_fits 5 = .ok (.lload_n 1, 1) := by decide +kernel
theorem dX6_fits_6 : decode cX6_fits 6 = .ok (.ladd, 1) := by decide +kernel
theorem dX6_fits_7 : decode cX6_fits 7 = .ok (.ldc2_w 42, 3) := by decide +kernel
theorem zk_244 : Cond.constantLong RX6 42 (60) ∈ zz_w := zz_in (List.mem_append_right _ (List.mem_append_right _ (List.mem_append_left _ (List.mem_of_getElem? (i := 4) (by decide +kernel))))) rfl
theorem dX6_fits_10 : decode cX6_fits 10 = .ok (.lcmp, 1) := by decide +kernel
theorem dX6_fits_11 : decode cX6_fits 11 = .ok (.ifCond .gt 21, 3) := by decide +kernel
theorem dX6_fits_32 : decode cX6_fits 32 = .ok (.iconst 0, 1) := by decide +kernel
theorem dX6_fits_33 : decode cX6_fits 33 = .ok (.ireturn, 1) := by decide +kernel
theorem dX6_fits_14 : decode cX6_fits 14 = .ok (.aload_n 0, 1) := by decide +kernel
theorem dX6_fits_15 : decode cX6_fits 15 = .ok (.getfield 44, 3) := by decide +kernel
theorem zk_29 : Cond.fieldLink RX6 44 RX6 "used" "I" ∈ zz_w := zz_in (List.mem_append_right _ (List.mem_append_left _ (List.mem_of_getElem? (i := 29) (by decide +kernel)))) rfl
theorem zf_X6_44 : zz_f RX6 44 5 1 := ⟨RX6, TX6, 10, rfl, zi_X6, by decide, zk_29⟩
theorem dX6_fits_18 : decode cX6_fits 18 = .ok (.i2l, 1) := by decide +kernel
theorem dX6_fits_19 : decode cX6_fits 19 = .ok (.lload_n 3, 1) := by decide +kernel
theorem dX6_fits_20 : decode cX6_fits 20 = .ok (.ladd, 1) := by decide +kernel
theorem dX6_fits_21 : decode cX6_fits 21 = .ok (.ldc2_w 47, 3) := by decide +kernel
theorem zk_245 : Cond.constantLong RX6 47 (4000) ∈ zz_w := zz_in (List.mem_append_right _ (List.mem_append_right _ (List.mem_append_left _ (List.mem_of_getElem? (i := 5) (by decide +kernel))))) rfl
theorem dX6_fits_24 : decode cX6_fits 24 = .ok (.lcmp, 1) := by decide +kernel
theorem dX6_fits_25 : decode cX6_fits 25 = .ok (.ifCond .gt 7, 3) := by decide +kernel
theorem dX6_fits_28 : decode cX6_fits 28 = .ok (.iconst 1, 1) := by decide +kernel
theorem dX6_fits_29 : decode cX6_fits 29 = .ok (.goto 4, 3) := by decide +kernel
def fn_co_fits (ar : Int32) (us : Int32) (ma : Int64) (me : Int64) : Int32 := (if 60 < (ar.toInt64 + ma) then 0 else (if 4000 < (us.toInt64 + me) then 0 else 1))
abbrev rm_co_fits : Room := { frames := 0, cells := 0, slots := 0, locals := 0 }
abbrev po_co_fits (g : zz_G) (st : Nat) (kd : Nat) (dp : Nat) (cl : Nat) (sa : Nat) (ln : Nat) (bt : Nat) (pn : Nat) (bf : Nat) (ar : Int32) (us : Int32) (ma : Int64) (me : Int64) : Int32 → va_W → Prop := fun (r : Int32) (u : va_W) => r = fn_co_fits ar us ma me ∧ u = [(st, .inr (5, [.int ar, .int us, .ref kd, .ref dp, .ref cl, .ref sa, .ref ln, .ref bt, .ref pn, .ref bf]))]
set_option maxHeartbeats 4000000 in
set_option maxRecDepth 100000 in
theorem co_fits (g : zz_G) (st : Nat) (kd : Nat) (dp : Nat) (cl : Nat) (sa : Nat) (ln : Nat) (bt : Nat) (pn : Nat) (bf : Nat) (ar : Int32) (us : Int32) (ma : Int64) (me : Int64) : zz_I g yX6_fits (.code yX6_fits cX6_fits 5 (some .boolean)) rm_co_fits [.ref st, .long ma, .long me] [(st, .inr (5, [.int ar, .int us, .ref kd, .ref dp, .ref cl, .ref sa, .ref ln, .ref bt, .ref pn, .ref bf]))] (po_co_fits g st kd dp cl sa ln bt pn bf ar us ma me) := by
  refine zz_I.intro (own := RX6) (cc := cX6_fits) (nL := 5) (by decide) rfl (Nat.le_of_ble_eq_true rfl) ?_
  intro p l e s m args below meth c A H locs ls hC hnm hZ hl
  obtain ⟨hx, hb, hml, hown, hts, hr, hlocks, hK⟩ := id hC
  have hl : lv_has ls 5 [(0, .ref st), (1, .long ma), (3, .long me)] := hl
  have hZ : zz_Z g A s.heap [(st, .inr (5, [.int ar, .int us, .ref kd, .ref dp, .ref cl, .ref sa, .ref ln, .ref bt, .ref pn, .ref bf]))] H locs := hZ
  refine lv_aload_n hx hb dX6_fits_0 rfl (lv_at hl 0 rfl) ?_
  refine zz_get hC hZ 0 rfl zf_X6_38 rfl dX6_fits_1 ?_
  refine lv_i2l hx hb dX6_fits_4 rfl ?_
  refine lv_lload_n hx hb dX6_fits_5 rfl (lv_at hl 1 rfl) ?_
  refine lv_ladd hx hb dX6_fits_6 ?_
  refine lv_ldc2 hx hb hown (hts _ zk_244) dX6_fits_7 ?_
  refine zz_lcmp_gt (tgt := 32) hC dX6_fits_10 dX6_fits_11 (by decide) (fun c1 => ?_) (fun c1 => ?_)
  · refine lv_iconst (v := 0) hx hb dX6_fits_32 (by decide) ?_
    exact zz_zret hC hZ (by decide) (⟨by show _ = _; rw [fn_co_fits, if_pos c1], rfl⟩) (Nat.le_of_ble_eq_true rfl) (Nat.le_of_ble_eq_true rfl) dX6_fits_33
  · refine lv_aload_n hx hb dX6_fits_14 rfl (lv_at hl 0 rfl) ?_
    refine zz_get hC hZ 0 rfl zf_X6_44 rfl dX6_fits_15 ?_
    refine lv_i2l hx hb dX6_fits_18 rfl ?_
    refine lv_lload_n hx hb dX6_fits_19 rfl (lv_at hl 2 rfl) ?_
    refine lv_ladd hx hb dX6_fits_20 ?_
    refine lv_ldc2 hx hb hown (hts _ zk_245) dX6_fits_21 ?_
    refine zz_lcmp_gt (tgt := 32) hC dX6_fits_24 dX6_fits_25 (by decide) (fun c2 => ?_) (fun c2 => ?_)
    · refine lv_iconst (v := 0) hx hb dX6_fits_32 (by decide) ?_
      exact zz_zret hC hZ (by decide) (⟨by show _ = _; rw [fn_co_fits, if_neg c1, if_pos c2], rfl⟩) (Nat.le_of_ble_eq_true rfl) (Nat.le_of_ble_eq_true rfl) dX6_fits_33
    · refine lv_iconst (v := 1) hx hb dX6_fits_28 (by decide) ?_
      refine lv_goto (tgt := 33) hx hb dX6_fits_29 (by decide) ?_
      exact zz_zret hC hZ (by decide) (⟨by show _ = _; rw [fn_co_fits, if_neg c1, if_neg c2], rfl⟩) (Nat.le_of_ble_eq_true rfl) (Nat.le_of_ble_eq_true rfl) dX6_fits_33
end
section
theorem dX6_init_0 : decode cX6_init 0 = .ok (.aload_n 0, 1) := by decide +kernel
theorem dX6_init_1 : decode cX6_init 1 = .ok (.invokespecial 3, 3) := by decide +kernel
theorem zk_25 : Cond.methodLink RX6 3 objectInit ∈ zz_w := zz_in (List.mem_append_right _ (List.mem_append_left _ (List.mem_of_getElem? (i := 25) (by decide +kernel)))) rfl
theorem zk_18 : Cond.instanceMethod objectInit ∈ zz_w := zz_in (List.mem_append_right _ (List.mem_append_left _ (List.mem_of_getElem? (i := 18) (by decide +kernel)))) rfl
set_option maxRecDepth 20000 in
theorem zk_19 : Cond.code objectInit ⟨#[0xb1]⟩ 1 none ∈ zz_w := zz_in (List.mem_append_right _ (List.mem_append_left _ (List.mem_of_getElem? (i := 19) (rfl)))) rfl
theorem dX6_init_4 : decode cX6_init 4 = .ok (.aload_n 0, 1) := by decide +kernel
theorem dX6_init_5 : decode cX6_init 5 = .ok (.bipush 60, 2) := by decide +kernel
theorem dX6_init_7 : decode cX6_init 7 = .ok (.newarray .int, 2) := by decide +kernel
theorem zk_87 : Cond.arrayClass .int ∈ zz_w := zz_in (List.mem_append_right _ (List.mem_append_left _ (List.mem_of_getElem? (i := 87) (by decide +kernel)))) rfl
theorem dX6_init_9 : decode cX6_init 9 = .ok (.putfield 9, 3) := by decide +kernel
theorem zk_31 : Cond.fieldLink RX6 9 RX6 "kind" "[I" ∈ zz_w := zz_in (List.mem_append_right _ (List.mem_append_left _ (List.mem_of_getElem? (i := 31) (by decide +kernel)))) rfl
theorem zu_X6_9 : zz_fw RX6 9 5 2 true (.array .int) := ⟨RX6, TX6, 10, tyX6, rfl, zi_X6, by decide, zk_31, tyX6_ok, nmX6, rfl, by decide +kernel, fun _ => rfl⟩
theorem dX6_init_12 : decode cX6_init 12 = .ok (.aload_n 0, 1) := by decide +kernel
theorem dX6_init_13 : decode cX6_init 13 = .ok (.bipush 60, 2) := by decide +kernel
theorem dX6_init_15 : decode cX6_init 15 = .ok (.newarray .int, 2) := by decide +kernel
theorem dX6_init_17 : decode cX6_init 17 = .ok (.putfield 15, 3) := by decide +kernel
theorem zk_37 : Cond.fieldLink RX6 15 RX6 "depth" "[I" ∈ zz_w := zz_in (List.mem_append_right _ (List.mem_append_left _ (List.mem_of_getElem? (i := 37) (by decide +kernel)))) rfl
theorem zu_X6_15 : zz_fw RX6 15 5 3 true (.array .int) := ⟨RX6, TX6, 10, tyX6, rfl, zi_X6, by decide, zk_37, tyX6_ok, nmX6, rfl, by decide +kernel, fun _ => rfl⟩
theorem dX6_init_20 : decode cX6_init 20 = .ok (.aload_n 0, 1) := by decide +kernel
theorem dX6_init_21 : decode cX6_init 21 = .ok (.bipush 60, 2) := by decide +kernel
theorem dX6_init_23 : decode cX6_init 23 = .ok (.newarray .int, 2) := by decide +kernel
theorem dX6_init_25 : decode cX6_init 25 = .ok (.putfield 18, 3) := by decide +kernel
theorem zk_41 : Cond.fieldLink RX6 18 RX6 "cls" "[I" ∈ zz_w := zz_in (List.mem_append_right _ (List.mem_append_left _ (List.mem_of_getElem? (i := 41) (by decide +kernel)))) rfl
theorem zu_X6_18 : zz_fw RX6 18 5 4 true (.array .int) := ⟨RX6, TX6, 10, tyX6, rfl, zi_X6, by decide, zk_41, tyX6_ok, nmX6, rfl, by decide +kernel, fun _ => rfl⟩
theorem dX6_init_28 : decode cX6_init 28 = .ok (.aload_n 0, 1) := by decide +kernel
theorem dX6_init_29 : decode cX6_init 29 = .ok (.bipush 60, 2) := by decide +kernel
theorem dX6_init_31 : decode cX6_init 31 = .ok (.newarray .int, 2) := by decide +kernel
theorem dX6_init_33 : decode cX6_init 33 = .ok (.putfield 21, 3) := by decide +kernel
theorem zk_44 : Cond.fieldLink RX6 21 RX6 "start" "[I" ∈ zz_w := zz_in (List.mem_append_right _ (List.mem_append_left _ (List.mem_of_getElem? (i := 44) (by decide +kernel)))) rfl
theorem zu_X6_21 : zz_fw RX6 21 5 5 true (.array .int) := ⟨RX6, TX6, 10, tyX6, rfl, zi_X6, by decide, zk_44, tyX6_ok, nmX6, rfl, by decide +kernel, fun _ => rfl⟩
theorem dX6_init_36 : decode cX6_init 36 = .ok (.aload_n 0, 1) := by decide +kernel
theorem dX6_init_37 : decode cX6_init 37 = .ok (.bipush 60, 2) := by decide +kernel
theorem dX6_init_39 : decode cX6_init 39 = .ok (.newarray .int, 2) := by decide +kernel
theorem dX6_init_41 : decode cX6_init 41 = .ok (.putfield 24, 3) := by decide +kernel
theorem zk_49 : Cond.fieldLink RX6 24 RX6 "length" "[I" ∈ zz_w := zz_in (List.mem_append_right _ (List.mem_append_left _ (List.mem_of_getElem? (i := 49) (by decide +kernel)))) rfl
theorem zu_X6_24 : zz_fw RX6 24 5 6 true (.array .int) := ⟨RX6, TX6, 10, tyX6, rfl, zi_X6, by decide, zk_49, tyX6_ok, nmX6, rfl, by decide +kernel, fun _ => rfl⟩
theorem dX6_init_44 : decode cX6_init 44 = .ok (.aload_n 0, 1) := by decide +kernel
theorem dX6_init_45 : decode cX6_init 45 = .ok (.sipush 4000, 3) := by decide +kernel
theorem dX6_init_48 : decode cX6_init 48 = .ok (.newarray .long, 2) := by decide +kernel
theorem zk_88 : Cond.arrayClass .long ∈ zz_w := zz_in (List.mem_append_right _ (List.mem_append_left _ (List.mem_of_getElem? (i := 88) (by decide +kernel)))) rfl
theorem dX6_init_50 : decode cX6_init 50 = .ok (.putfield 27, 3) := by decide +kernel
theorem zk_54 : Cond.fieldLink RX6 27 RX6 "bits" "[J" ∈ zz_w := zz_in (List.mem_append_right _ (List.mem_append_left _ (List.mem_of_getElem? (i := 54) (by decide +kernel)))) rfl
theorem zu_X6_27 : zz_fw RX6 27 5 7 true (.array .long) := ⟨RX6, TX6, 10, tyX6, rfl, zi_X6, by decide, zk_54, tyX6_ok, nmX6, rfl, by decide +kernel, fun _ => rfl⟩
theorem dX6_init_53 : decode cX6_init 53 = .ok (.aload_n 0, 1) := by decide +kernel
theorem dX6_init_54 : decode cX6_init 54 = .ok (.sipush 4000, 3) := by decide +kernel
theorem dX6_init_57 : decode cX6_init 57 = .ok (.newarray .boolean, 2) := by decide +kernel
theorem zk_89 : Cond.arrayClass .boolean ∈ zz_w := zz_in (List.mem_append_right _ (List.mem_append_left _ (List.mem_of_getElem? (i := 89) (by decide +kernel)))) rfl
theorem dX6_init_59 : decode cX6_init 59 = .ok (.putfield 31, 3) := by decide +kernel
theorem zk_61 : Cond.fieldLink RX6 31 RX6 "pinned" "[Z" ∈ zz_w := zz_in (List.mem_append_right _ (List.mem_append_left _ (List.mem_of_getElem? (i := 61) (by decide +kernel)))) rfl
theorem zu_X6_31 : zz_fw RX6 31 5 8 true (.array .boolean) := ⟨RX6, TX6, 10, tyX6, rfl, zi_X6, by decide, zk_61, tyX6_ok, nmX6, rfl, by decide +kernel, fun _ => rfl⟩
theorem dX6_init_62 : decode cX6_init 62 = .ok (.aload_n 0, 1) := by decide +kernel
theorem dX6_init_63 : decode cX6_init 63 = .ok (.sipush 200, 3) := by decide +kernel
theorem dX6_init_66 : decode cX6_init 66 = .ok (.newarray .long, 2) := by decide +kernel
theorem dX6_init_68 : decode cX6_init 68 = .ok (.putfield 35, 3) := by decide +kernel
theorem zk_65 : Cond.fieldLink RX6 35 RX6 "before" "[J" ∈ zz_w := zz_in (List.mem_append_right _ (List.mem_append_left _ (List.mem_of_getElem? (i := 65) (by decide +kernel)))) rfl
theorem zu_X6_35 : zz_fw RX6 35 5 9 true (.array .long) := ⟨RX6, TX6, 10, tyX6, rfl, zi_X6, by decide, zk_65, tyX6_ok, nmX6, rfl, by decide +kernel, fun _ => rfl⟩
theorem dX6_init_71 : decode cX6_init 71 = .ok (.return_, 1) := by decide +kernel
abbrev rm_ci_Store : Room := { frames := 1, cells := 8, slots := 8500, locals := 12 }
abbrev po_ci_Store (g : zz_G) (h0 : Nat) : va_W → Prop := fun (u : va_W) => ∃ (e1 : Nat) (e2 : Nat) (e3 : Nat) (e4 : Nat) (e5 : Nat) (e6 : Nat) (e7 : Nat) (e8 : Nat), u = [(h0, .inr (5, [.int 0, .int 0, .ref e1, .ref e2, .ref e3, .ref e4, .ref e5, .ref e6, .ref e7, .ref e8])), (e1, .inl (g.2.1, 60, .inl (fun _ => 0))), (e2, .inl (g.2.1, 60, .inl (fun _ => 0))), (e3, .inl (g.2.1, 60, .inl (fun _ => 0))), (e4, .inl (g.2.1, 60, .inl (fun _ => 0))), (e5, .inl (g.2.1, 60, .inl (fun _ => 0))), (e6, .inl (g.2.2.1, 4000, .inr (.inl (fun _ => 0)))), (e7, .inl (g.2.2.2.1, 4000, .inl (fun _ => 0))), (e8, .inl (g.2.2.1, 200, .inr (.inl (fun _ => 0))))]
set_option maxHeartbeats 4000000 in
set_option maxRecDepth 100000 in
theorem ci_Store (g : zz_G) (h0 : Nat) : zz_V g yX6_init (.code yX6_init cX6_init 1 none) rm_ci_Store [.ref h0] [(h0, .inr (5, [.int 0, .int 0, .null, .null, .null, .null, .null, .null, .null, .null]))] (po_ci_Store g h0) := by
  refine zz_V.intro (own := RX6) (cc := cX6_init) (nL := 1) (by decide) rfl (Nat.le_of_ble_eq_true rfl) ?_
  intro p l e s m args below meth c A H locs ls hC hnm hZ hl
  obtain ⟨hx, hb, hml, hown, hts, hr, hlocks, hK⟩ := id hC
  have hl : lv_has ls 1 [(0, .ref h0)] := hl
  have hZ : zz_Z g A s.heap [(h0, .inr (5, [.int 0, .int 0, .null, .null, .null, .null, .null, .null, .null, .null]))] H locs := hZ
  refine lv_aload_n hx hb dX6_init_0 rfl (lv_at hl 0 rfl) ?_
  refine zz_obj hC hl zk_25 zk_18 zk_19 (Nat.le_of_ble_eq_true rfl) (Nat.le_of_ble_eq_true rfl) dX6_init_1 ?_
  refine lv_aload_n hx hb dX6_init_4 rfl (lv_at hl 0 rfl) ?_
  refine lv_bipush (v := 60) hx hb dX6_init_5 (by decide) ?_
  refine zz_newi (N' := 60) hC hZ zk_87 (by decide) (by decide) (Nat.le_of_ble_eq_true rfl) (Nat.le_of_ble_eq_true rfl) (Nat.le_of_ble_eq_true rfl) dX6_init_7 (fun q1 H hZ => ?_)
  have hZ : zz_Z g A s.heap [(h0, .inr (5, [.int 0, .int 0, .null, .null, .null, .null, .null, .null, .null, .null])), (q1, .inl (g.2.1, 60, .inl (fun _ => 0)))] H locs := hZ
  refine zz_putF hC hnm hZ 0 rfl zu_X6_9 rfl rfl (Nat.le_of_ble_eq_true rfl) dX6_init_9 (fun H locs hZ => ?_)
  have hZ : zz_Z g A s.heap [(h0, .inr (5, [.int 0, .int 0, .ref q1, .null, .null, .null, .null, .null, .null, .null])), (q1, .inl (g.2.1, 60, .inl (fun _ => 0)))] H locs := hZ
  refine lv_aload_n hx hb dX6_init_12 rfl (lv_at hl 0 rfl) ?_
  refine lv_bipush (v := 60) hx hb dX6_init_13 (by decide) ?_
  refine zz_newi (N' := 60) hC hZ zk_87 (by decide) (by decide) (Nat.le_of_ble_eq_true rfl) (Nat.le_of_ble_eq_true rfl) (Nat.le_of_ble_eq_true rfl) dX6_init_15 (fun q2 H hZ => ?_)
  have hZ : zz_Z g A s.heap [(h0, .inr (5, [.int 0, .int 0, .ref q1, .null, .null, .null, .null, .null, .null, .null])), (q1, .inl (g.2.1, 60, .inl (fun _ => 0))), (q2, .inl (g.2.1, 60, .inl (fun _ => 0)))] H locs := hZ
  refine zz_putF hC hnm hZ 0 rfl zu_X6_15 rfl rfl (Nat.le_of_ble_eq_true rfl) dX6_init_17 (fun H locs hZ => ?_)
  have hZ : zz_Z g A s.heap [(h0, .inr (5, [.int 0, .int 0, .ref q1, .ref q2, .null, .null, .null, .null, .null, .null])), (q1, .inl (g.2.1, 60, .inl (fun _ => 0))), (q2, .inl (g.2.1, 60, .inl (fun _ => 0)))] H locs := hZ
  refine lv_aload_n hx hb dX6_init_20 rfl (lv_at hl 0 rfl) ?_
  refine lv_bipush (v := 60) hx hb dX6_init_21 (by decide) ?_
  refine zz_newi (N' := 60) hC hZ zk_87 (by decide) (by decide) (Nat.le_of_ble_eq_true rfl) (Nat.le_of_ble_eq_true rfl) (Nat.le_of_ble_eq_true rfl) dX6_init_23 (fun q3 H hZ => ?_)
  have hZ : zz_Z g A s.heap [(h0, .inr (5, [.int 0, .int 0, .ref q1, .ref q2, .null, .null, .null, .null, .null, .null])), (q1, .inl (g.2.1, 60, .inl (fun _ => 0))), (q2, .inl (g.2.1, 60, .inl (fun _ => 0))), (q3, .inl (g.2.1, 60, .inl (fun _ => 0)))] H locs := hZ
  refine zz_putF hC hnm hZ 0 rfl zu_X6_18 rfl rfl (Nat.le_of_ble_eq_true rfl) dX6_init_25 (fun H locs hZ => ?_)
  have hZ : zz_Z g A s.heap [(h0, .inr (5, [.int 0, .int 0, .ref q1, .ref q2, .ref q3, .null, .null, .null, .null, .null])), (q1, .inl (g.2.1, 60, .inl (fun _ => 0))), (q2, .inl (g.2.1, 60, .inl (fun _ => 0))), (q3, .inl (g.2.1, 60, .inl (fun _ => 0)))] H locs := hZ
  refine lv_aload_n hx hb dX6_init_28 rfl (lv_at hl 0 rfl) ?_
  refine lv_bipush (v := 60) hx hb dX6_init_29 (by decide) ?_
  refine zz_newi (N' := 60) hC hZ zk_87 (by decide) (by decide) (Nat.le_of_ble_eq_true rfl) (Nat.le_of_ble_eq_true rfl) (Nat.le_of_ble_eq_true rfl) dX6_init_31 (fun q4 H hZ => ?_)
  have hZ : zz_Z g A s.heap [(h0, .inr (5, [.int 0, .int 0, .ref q1, .ref q2, .ref q3, .null, .null, .null, .null, .null])), (q1, .inl (g.2.1, 60, .inl (fun _ => 0))), (q2, .inl (g.2.1, 60, .inl (fun _ => 0))), (q3, .inl (g.2.1, 60, .inl (fun _ => 0))), (q4, .inl (g.2.1, 60, .inl (fun _ => 0)))] H locs := hZ
  refine zz_putF hC hnm hZ 0 rfl zu_X6_21 rfl rfl (Nat.le_of_ble_eq_true rfl) dX6_init_33 (fun H locs hZ => ?_)
  have hZ : zz_Z g A s.heap [(h0, .inr (5, [.int 0, .int 0, .ref q1, .ref q2, .ref q3, .ref q4, .null, .null, .null, .null])), (q1, .inl (g.2.1, 60, .inl (fun _ => 0))), (q2, .inl (g.2.1, 60, .inl (fun _ => 0))), (q3, .inl (g.2.1, 60, .inl (fun _ => 0))), (q4, .inl (g.2.1, 60, .inl (fun _ => 0)))] H locs := hZ
  refine lv_aload_n hx hb dX6_init_36 rfl (lv_at hl 0 rfl) ?_
  refine lv_bipush (v := 60) hx hb dX6_init_37 (by decide) ?_
  refine zz_newi (N' := 60) hC hZ zk_87 (by decide) (by decide) (Nat.le_of_ble_eq_true rfl) (Nat.le_of_ble_eq_true rfl) (Nat.le_of_ble_eq_true rfl) dX6_init_39 (fun q5 H hZ => ?_)
  have hZ : zz_Z g A s.heap [(h0, .inr (5, [.int 0, .int 0, .ref q1, .ref q2, .ref q3, .ref q4, .null, .null, .null, .null])), (q1, .inl (g.2.1, 60, .inl (fun _ => 0))), (q2, .inl (g.2.1, 60, .inl (fun _ => 0))), (q3, .inl (g.2.1, 60, .inl (fun _ => 0))), (q4, .inl (g.2.1, 60, .inl (fun _ => 0))), (q5, .inl (g.2.1, 60, .inl (fun _ => 0)))] H locs := hZ
  refine zz_putF hC hnm hZ 0 rfl zu_X6_24 rfl rfl (Nat.le_of_ble_eq_true rfl) dX6_init_41 (fun H locs hZ => ?_)
  have hZ : zz_Z g A s.heap [(h0, .inr (5, [.int 0, .int 0, .ref q1, .ref q2, .ref q3, .ref q4, .ref q5, .null, .null, .null])), (q1, .inl (g.2.1, 60, .inl (fun _ => 0))), (q2, .inl (g.2.1, 60, .inl (fun _ => 0))), (q3, .inl (g.2.1, 60, .inl (fun _ => 0))), (q4, .inl (g.2.1, 60, .inl (fun _ => 0))), (q5, .inl (g.2.1, 60, .inl (fun _ => 0)))] H locs := hZ
  refine lv_aload_n hx hb dX6_init_44 rfl (lv_at hl 0 rfl) ?_
  refine lv_sipush (v := 4000) hx hb dX6_init_45 (by decide) ?_
  refine zz_newl (N' := 4000) hC hZ zk_88 (by decide) (by decide) (Nat.le_of_ble_eq_true rfl) (Nat.le_of_ble_eq_true rfl) (Nat.le_of_ble_eq_true rfl) dX6_init_48 (fun q6 H hZ => ?_)
  have hZ : zz_Z g A s.heap [(h0, .inr (5, [.int 0, .int 0, .ref q1, .ref q2, .ref q3, .ref q4, .ref q5, .null, .null, .null])), (q1, .inl (g.2.1, 60, .inl (fun _ => 0))), (q2, .inl (g.2.1, 60, .inl (fun _ => 0))), (q3, .inl (g.2.1, 60, .inl (fun _ => 0))), (q4, .inl (g.2.1, 60, .inl (fun _ => 0))), (q5, .inl (g.2.1, 60, .inl (fun _ => 0))), (q6, .inl (g.2.2.1, 4000, .inr (.inl (fun _ => 0))))] H locs := hZ
  refine zz_putF hC hnm hZ 0 rfl zu_X6_27 rfl rfl (Nat.le_of_ble_eq_true rfl) dX6_init_50 (fun H locs hZ => ?_)
  have hZ : zz_Z g A s.heap [(h0, .inr (5, [.int 0, .int 0, .ref q1, .ref q2, .ref q3, .ref q4, .ref q5, .ref q6, .null, .null])), (q1, .inl (g.2.1, 60, .inl (fun _ => 0))), (q2, .inl (g.2.1, 60, .inl (fun _ => 0))), (q3, .inl (g.2.1, 60, .inl (fun _ => 0))), (q4, .inl (g.2.1, 60, .inl (fun _ => 0))), (q5, .inl (g.2.1, 60, .inl (fun _ => 0))), (q6, .inl (g.2.2.1, 4000, .inr (.inl (fun _ => 0))))] H locs := hZ
  refine lv_aload_n hx hb dX6_init_53 rfl (lv_at hl 0 rfl) ?_
  refine lv_sipush (v := 4000) hx hb dX6_init_54 (by decide) ?_
  refine zz_newz (N' := 4000) hC hZ zk_89 (by decide) (by decide) (Nat.le_of_ble_eq_true rfl) (Nat.le_of_ble_eq_true rfl) (Nat.le_of_ble_eq_true rfl) dX6_init_57 (fun q7 H hZ => ?_)
  have hZ : zz_Z g A s.heap [(h0, .inr (5, [.int 0, .int 0, .ref q1, .ref q2, .ref q3, .ref q4, .ref q5, .ref q6, .null, .null])), (q1, .inl (g.2.1, 60, .inl (fun _ => 0))), (q2, .inl (g.2.1, 60, .inl (fun _ => 0))), (q3, .inl (g.2.1, 60, .inl (fun _ => 0))), (q4, .inl (g.2.1, 60, .inl (fun _ => 0))), (q5, .inl (g.2.1, 60, .inl (fun _ => 0))), (q6, .inl (g.2.2.1, 4000, .inr (.inl (fun _ => 0)))), (q7, .inl (g.2.2.2.1, 4000, .inl (fun _ => 0)))] H locs := hZ
  refine zz_putF hC hnm hZ 0 rfl zu_X6_31 rfl rfl (Nat.le_of_ble_eq_true rfl) dX6_init_59 (fun H locs hZ => ?_)
  have hZ : zz_Z g A s.heap [(h0, .inr (5, [.int 0, .int 0, .ref q1, .ref q2, .ref q3, .ref q4, .ref q5, .ref q6, .ref q7, .null])), (q1, .inl (g.2.1, 60, .inl (fun _ => 0))), (q2, .inl (g.2.1, 60, .inl (fun _ => 0))), (q3, .inl (g.2.1, 60, .inl (fun _ => 0))), (q4, .inl (g.2.1, 60, .inl (fun _ => 0))), (q5, .inl (g.2.1, 60, .inl (fun _ => 0))), (q6, .inl (g.2.2.1, 4000, .inr (.inl (fun _ => 0)))), (q7, .inl (g.2.2.2.1, 4000, .inl (fun _ => 0)))] H locs := hZ
  refine lv_aload_n hx hb dX6_init_62 rfl (lv_at hl 0 rfl) ?_
  refine lv_sipush (v := 200) hx hb dX6_init_63 (by decide) ?_
  refine zz_newl (N' := 200) hC hZ zk_88 (by decide) (by decide) (Nat.le_of_ble_eq_true rfl) (Nat.le_of_ble_eq_true rfl) (Nat.le_of_ble_eq_true rfl) dX6_init_66 (fun q8 H hZ => ?_)
  have hZ : zz_Z g A s.heap [(h0, .inr (5, [.int 0, .int 0, .ref q1, .ref q2, .ref q3, .ref q4, .ref q5, .ref q6, .ref q7, .null])), (q1, .inl (g.2.1, 60, .inl (fun _ => 0))), (q2, .inl (g.2.1, 60, .inl (fun _ => 0))), (q3, .inl (g.2.1, 60, .inl (fun _ => 0))), (q4, .inl (g.2.1, 60, .inl (fun _ => 0))), (q5, .inl (g.2.1, 60, .inl (fun _ => 0))), (q6, .inl (g.2.2.1, 4000, .inr (.inl (fun _ => 0)))), (q7, .inl (g.2.2.2.1, 4000, .inl (fun _ => 0))), (q8, .inl (g.2.2.1, 200, .inr (.inl (fun _ => 0))))] H locs := hZ
  refine zz_putF hC hnm hZ 0 rfl zu_X6_35 rfl rfl (Nat.le_of_ble_eq_true rfl) dX6_init_68 (fun H locs hZ => ?_)
  have hZ : zz_Z g A s.heap [(h0, .inr (5, [.int 0, .int 0, .ref q1, .ref q2, .ref q3, .ref q4, .ref q5, .ref q6, .ref q7, .ref q8])), (q1, .inl (g.2.1, 60, .inl (fun _ => 0))), (q2, .inl (g.2.1, 60, .inl (fun _ => 0))), (q3, .inl (g.2.1, 60, .inl (fun _ => 0))), (q4, .inl (g.2.1, 60, .inl (fun _ => 0))), (q5, .inl (g.2.1, 60, .inl (fun _ => 0))), (q6, .inl (g.2.2.1, 4000, .inr (.inl (fun _ => 0)))), (q7, .inl (g.2.2.2.1, 4000, .inl (fun _ => 0))), (q8, .inl (g.2.2.1, 200, .inr (.inl (fun _ => 0))))] H locs := hZ
  exact zz_vret hC hZ (⟨q1, q2, q3, q4, q5, q6, q7, q8, rfl⟩) (Nat.le_of_ble_eq_true rfl) (Nat.le_of_ble_eq_true rfl) dX6_init_71
theorem dX3_init_0 : decode cX3_init 0 = .ok (.aload_n 0, 1) := by decide +kernel
theorem dX3_init_1 : decode cX3_init 1 = .ok (.invokespecial 3, 3) := by decide +kernel
theorem zk_95 : Cond.methodLink RX3 3 objectInit ∈ zz_w := zz_in (List.mem_append_right _ (List.mem_append_left _ (List.mem_of_getElem? (i := 95) (by decide +kernel)))) rfl
theorem dX3_init_4 : decode cX3_init 4 = .ok (.aload_n 0, 1) := by decide +kernel
theorem dX3_init_5 : decode cX3_init 5 = .ok (.iconst 4, 1) := by decide +kernel
theorem dX3_init_6 : decode cX3_init 6 = .ok (.newarray .int, 2) := by decide +kernel
theorem dX3_init_8 : decode cX3_init 8 = .ok (.putfield 9, 3) := by decide +kernel
theorem zk_97 : Cond.fieldLink RX3 9 RX3 "lengths" "[I" ∈ zz_w := zz_in (List.mem_append_right _ (List.mem_append_left _ (List.mem_of_getElem? (i := 97) (by decide +kernel)))) rfl
theorem zi_X3_a : ∀ w ∈ u_ws RX3 TX3 4, w ∈ lw_tbl := by decide +kernel
theorem zi_X3_b : ∀ w ∈ u_ws RX3 TX3 4, goodWord w = true := by decide +kernel
theorem zi_X3 : ∀ w ∈ u_ws RX3 TX3 4, w ∈ zz_w := fun w h => zz_in (zi_X3_a w h) (zi_X3_b w h)
theorem zu_X3_9 : zz_fw RX3 9 2 1 true (.array .int) := ⟨RX3, TX3, 4, tyX3, rfl, zi_X3, by decide, zk_97, tyX3_ok, nmX3, rfl, by decide +kernel, fun _ => rfl⟩
theorem dX3_init_11 : decode cX3_init 11 = .ok (.aload_n 0, 1) := by decide +kernel
theorem dX3_init_12 : decode cX3_init 12 = .ok (.aload_n 1, 1) := by decide +kernel
theorem dX3_init_13 : decode cX3_init 13 = .ok (.putfield 15, 3) := by decide +kernel
theorem zk_96 : Cond.fieldLink RX3 15 RX3 "store" "LDecisionArrays$Store;" ∈ zz_w := zz_in (List.mem_append_right _ (List.mem_append_left _ (List.mem_of_getElem? (i := 96) (by decide +kernel)))) rfl
theorem zu_X3_15 : zz_fw RX3 15 2 0 true (.object "DecisionArrays$Store") := ⟨RX3, TX3, 4, tyX3, rfl, zi_X3, by decide, zk_96, tyX3_ok, nmX3, rfl, by decide +kernel, fun _ => rfl⟩
theorem dX3_init_16 : decode cX3_init 16 = .ok (.return_, 1) := by decide +kernel
abbrev rm_ci_Maker : Room := { frames := 1, cells := 1, slots := 4, locals := 12 }
abbrev po_ci_Maker (g : zz_G) (h0 : Nat) (st : Nat) : va_W → Prop := fun (u : va_W) => ∃ (e1 : Nat), u = [(h0, .inr (2, [.ref st, .ref e1, .int 0, .int 0])), (e1, .inl (g.2.1, 4, .inl (fun _ => 0)))]
set_option maxHeartbeats 4000000 in
set_option maxRecDepth 100000 in
theorem ci_Maker (g : zz_G) (h0 : Nat) (st : Nat) : zz_V g yX3_init (.code yX3_init cX3_init 2 none) rm_ci_Maker [.ref h0, .ref st] [(h0, .inr (2, [.null, .null, .int 0, .int 0]))] (po_ci_Maker g h0 st) := by
  refine zz_V.intro (own := RX3) (cc := cX3_init) (nL := 2) (by decide) rfl (Nat.le_of_ble_eq_true rfl) ?_
  intro p l e s m args below meth c A H locs ls hC hnm hZ hl
  obtain ⟨hx, hb, hml, hown, hts, hr, hlocks, hK⟩ := id hC
  have hl : lv_has ls 2 [(0, .ref h0), (1, .ref st)] := hl
  have hZ : zz_Z g A s.heap [(h0, .inr (2, [.null, .null, .int 0, .int 0]))] H locs := hZ
  refine lv_aload_n hx hb dX3_init_0 rfl (lv_at hl 0 rfl) ?_
  refine zz_obj hC hl zk_95 zk_18 zk_19 (Nat.le_of_ble_eq_true rfl) (Nat.le_of_ble_eq_true rfl) dX3_init_1 ?_
  refine lv_aload_n hx hb dX3_init_4 rfl (lv_at hl 0 rfl) ?_
  refine lv_iconst (v := 4) hx hb dX3_init_5 (by decide) ?_
  refine zz_newi (N' := 4) hC hZ zk_87 (by decide) (by decide) (Nat.le_of_ble_eq_true rfl) (Nat.le_of_ble_eq_true rfl) (Nat.le_of_ble_eq_true rfl) dX3_init_6 (fun q1 H hZ => ?_)
  have hZ : zz_Z g A s.heap [(h0, .inr (2, [.null, .null, .int 0, .int 0])), (q1, .inl (g.2.1, 4, .inl (fun _ => 0)))] H locs := hZ
  refine zz_putF hC hnm hZ 0 rfl zu_X3_9 rfl rfl (Nat.le_of_ble_eq_true rfl) dX3_init_8 (fun H locs hZ => ?_)
  have hZ : zz_Z g A s.heap [(h0, .inr (2, [.null, .ref q1, .int 0, .int 0])), (q1, .inl (g.2.1, 4, .inl (fun _ => 0)))] H locs := hZ
  refine lv_aload_n hx hb dX3_init_11 rfl (lv_at hl 0 rfl) ?_
  refine lv_aload_n hx hb dX3_init_12 rfl (lv_at hl 1 rfl) ?_
  refine zz_putF hC hnm hZ 0 rfl zu_X3_15 rfl rfl (Nat.le_of_ble_eq_true rfl) dX3_init_13 (fun H locs hZ => ?_)
  have hZ : zz_Z g A s.heap [(h0, .inr (2, [.ref st, .ref q1, .int 0, .int 0])), (q1, .inl (g.2.1, 4, .inl (fun _ => 0)))] H locs := hZ
  exact zz_vret hC hZ (⟨q1, rfl⟩) (Nat.le_of_ble_eq_true rfl) (Nat.le_of_ble_eq_true rfl) dX3_init_16
theorem dX2_init_0 : decode cX2_init 0 = .ok (.aload_n 0, 1) := by decide +kernel
theorem dX2_init_1 : decode cX2_init 1 = .ok (.invokespecial 3, 3) := by decide +kernel
theorem zk_114 : Cond.methodLink RX2 3 objectInit ∈ zz_w := zz_in (List.mem_append_right _ (List.mem_append_left _ (List.mem_of_getElem? (i := 114) (by decide +kernel)))) rfl
theorem dX2_init_4 : decode cX2_init 4 = .ok (.aload_n 0, 1) := by decide +kernel
theorem dX2_init_5 : decode cX2_init 5 = .ok (.sipush 3600, 3) := by decide +kernel
theorem dX2_init_8 : decode cX2_init 8 = .ok (.newarray .int, 2) := by decide +kernel
theorem dX2_init_10 : decode cX2_init 10 = .ok (.putfield 9, 3) := by decide +kernel
theorem zk_117 : Cond.fieldLink RX2 9 RX2 "agreed" "[I" ∈ zz_w := zz_in (List.mem_append_right _ (List.mem_append_left _ (List.mem_of_getElem? (i := 117) (by decide +kernel)))) rfl
theorem zi_X2_a : ∀ w ∈ u_ws RX2 TX2 5, w ∈ lw_tbl := by decide +kernel
theorem zi_X2_b : ∀ w ∈ u_ws RX2 TX2 5, goodWord w = true := by decide +kernel
theorem zi_X2 : ∀ w ∈ u_ws RX2 TX2 5, w ∈ zz_w := fun w h => zz_in (zi_X2_a w h) (zi_X2_b w h)
theorem zu_X2_9 : zz_fw RX2 9 1 2 true (.array .int) := ⟨RX2, TX2, 5, tyX2, rfl, zi_X2, by decide, zk_117, tyX2_ok, nmX2, rfl, by decide +kernel, fun _ => rfl⟩
theorem dX2_init_13 : decode cX2_init 13 = .ok (.aload_n 0, 1) := by decide +kernel
theorem dX2_init_14 : decode cX2_init 14 = .ok (.bipush 60, 2) := by decide +kernel
theorem dX2_init_16 : decode cX2_init 16 = .ok (.newarray .int, 2) := by decide +kernel
theorem dX2_init_18 : decode cX2_init 18 = .ok (.putfield 15, 3) := by decide +kernel
theorem zk_118 : Cond.fieldLink RX2 15 RX2 "digested" "[I" ∈ zz_w := zz_in (List.mem_append_right _ (List.mem_append_left _ (List.mem_of_getElem? (i := 118) (by decide +kernel)))) rfl
theorem zu_X2_15 : zz_fw RX2 15 1 3 true (.array .int) := ⟨RX2, TX2, 5, tyX2, rfl, zi_X2, by decide, zk_118, tyX2_ok, nmX2, rfl, by decide +kernel, fun _ => rfl⟩
theorem dX2_init_21 : decode cX2_init 21 = .ok (.aload_n 0, 1) := by decide +kernel
theorem dX2_init_22 : decode cX2_init 22 = .ok (.bipush 60, 2) := by decide +kernel
theorem dX2_init_24 : decode cX2_init 24 = .ok (.newarray .int, 2) := by decide +kernel
theorem dX2_init_26 : decode cX2_init 26 = .ok (.putfield 18, 3) := by decide +kernel
theorem zk_119 : Cond.fieldLink RX2 18 RX2 "digests" "[I" ∈ zz_w := zz_in (List.mem_append_right _ (List.mem_append_left _ (List.mem_of_getElem? (i := 119) (by decide +kernel)))) rfl
theorem zu_X2_18 : zz_fw RX2 18 1 4 true (.array .int) := ⟨RX2, TX2, 5, tyX2, rfl, zi_X2, by decide, zk_119, tyX2_ok, nmX2, rfl, by decide +kernel, fun _ => rfl⟩
theorem dX2_init_29 : decode cX2_init 29 = .ok (.aload_n 0, 1) := by decide +kernel
theorem dX2_init_30 : decode cX2_init 30 = .ok (.aload_n 1, 1) := by decide +kernel
theorem dX2_init_31 : decode cX2_init 31 = .ok (.putfield 21, 3) := by decide +kernel
theorem zk_115 : Cond.fieldLink RX2 21 RX2 "store" "LDecisionArrays$Store;" ∈ zz_w := zz_in (List.mem_append_right _ (List.mem_append_left _ (List.mem_of_getElem? (i := 115) (by decide +kernel)))) rfl
theorem zu_X2_21 : zz_fw RX2 21 1 0 true (.object "DecisionArrays$Store") := ⟨RX2, TX2, 5, tyX2, rfl, zi_X2, by decide, zk_115, tyX2_ok, nmX2, rfl, by decide +kernel, fun _ => rfl⟩
theorem dX2_init_34 : decode cX2_init 34 = .ok (.return_, 1) := by decide +kernel
abbrev rm_ci_Likeness : Room := { frames := 1, cells := 3, slots := 3720, locals := 12 }
abbrev po_ci_Likeness (g : zz_G) (h0 : Nat) (st : Nat) : va_W → Prop := fun (u : va_W) => ∃ (e1 : Nat) (e2 : Nat) (e3 : Nat), u = [(h0, .inr (1, [.ref st, .int 0, .ref e1, .ref e2, .ref e3])), (e1, .inl (g.2.1, 3600, .inl (fun _ => 0))), (e2, .inl (g.2.1, 60, .inl (fun _ => 0))), (e3, .inl (g.2.1, 60, .inl (fun _ => 0)))]
set_option maxHeartbeats 4000000 in
set_option maxRecDepth 100000 in
theorem ci_Likeness (g : zz_G) (h0 : Nat) (st : Nat) : zz_V g yX2_init (.code yX2_init cX2_init 2 none) rm_ci_Likeness [.ref h0, .ref st] [(h0, .inr (1, [.null, .int 0, .null, .null, .null]))] (po_ci_Likeness g h0 st) := by
  refine zz_V.intro (own := RX2) (cc := cX2_init) (nL := 2) (by decide) rfl (Nat.le_of_ble_eq_true rfl) ?_
  intro p l e s m args below meth c A H locs ls hC hnm hZ hl
  obtain ⟨hx, hb, hml, hown, hts, hr, hlocks, hK⟩ := id hC
  have hl : lv_has ls 2 [(0, .ref h0), (1, .ref st)] := hl
  have hZ : zz_Z g A s.heap [(h0, .inr (1, [.null, .int 0, .null, .null, .null]))] H locs := hZ
  refine lv_aload_n hx hb dX2_init_0 rfl (lv_at hl 0 rfl) ?_
  refine zz_obj hC hl zk_114 zk_18 zk_19 (Nat.le_of_ble_eq_true rfl) (Nat.le_of_ble_eq_true rfl) dX2_init_1 ?_
  refine lv_aload_n hx hb dX2_init_4 rfl (lv_at hl 0 rfl) ?_
  refine lv_sipush (v := 3600) hx hb dX2_init_5 (by decide) ?_
  refine zz_newi (N' := 3600) hC hZ zk_87 (by decide) (by decide) (Nat.le_of_ble_eq_true rfl) (Nat.le_of_ble_eq_true rfl) (Nat.le_of_ble_eq_true rfl) dX2_init_8 (fun q1 H hZ => ?_)
  have hZ : zz_Z g A s.heap [(h0, .inr (1, [.null, .int 0, .null, .null, .null])), (q1, .inl (g.2.1, 3600, .inl (fun _ => 0)))] H locs := hZ
  refine zz_putF hC hnm hZ 0 rfl zu_X2_9 rfl rfl (Nat.le_of_ble_eq_true rfl) dX2_init_10 (fun H locs hZ => ?_)
  have hZ : zz_Z g A s.heap [(h0, .inr (1, [.null, .int 0, .ref q1, .null, .null])), (q1, .inl (g.2.1, 3600, .inl (fun _ => 0)))] H locs := hZ
  refine lv_aload_n hx hb dX2_init_13 rfl (lv_at hl 0 rfl) ?_
  refine lv_bipush (v := 60) hx hb dX2_init_14 (by decide) ?_
  refine zz_newi (N' := 60) hC hZ zk_87 (by decide) (by decide) (Nat.le_of_ble_eq_true rfl) (Nat.le_of_ble_eq_true rfl) (Nat.le_of_ble_eq_true rfl) dX2_init_16 (fun q2 H hZ => ?_)
  have hZ : zz_Z g A s.heap [(h0, .inr (1, [.null, .int 0, .ref q1, .null, .null])), (q1, .inl (g.2.1, 3600, .inl (fun _ => 0))), (q2, .inl (g.2.1, 60, .inl (fun _ => 0)))] H locs := hZ
  refine zz_putF hC hnm hZ 0 rfl zu_X2_15 rfl rfl (Nat.le_of_ble_eq_true rfl) dX2_init_18 (fun H locs hZ => ?_)
  have hZ : zz_Z g A s.heap [(h0, .inr (1, [.null, .int 0, .ref q1, .ref q2, .null])), (q1, .inl (g.2.1, 3600, .inl (fun _ => 0))), (q2, .inl (g.2.1, 60, .inl (fun _ => 0)))] H locs := hZ
  refine lv_aload_n hx hb dX2_init_21 rfl (lv_at hl 0 rfl) ?_
  refine lv_bipush (v := 60) hx hb dX2_init_22 (by decide) ?_
  refine zz_newi (N' := 60) hC hZ zk_87 (by decide) (by decide) (Nat.le_of_ble_eq_true rfl) (Nat.le_of_ble_eq_true rfl) (Nat.le_of_ble_eq_true rfl) dX2_init_24 (fun q3 H hZ => ?_)
  have hZ : zz_Z g A s.heap [(h0, .inr (1, [.null, .int 0, .ref q1, .ref q2, .null])), (q1, .inl (g.2.1, 3600, .inl (fun _ => 0))), (q2, .inl (g.2.1, 60, .inl (fun _ => 0))), (q3, .inl (g.2.1, 60, .inl (fun _ => 0)))] H locs := hZ
  refine zz_putF hC hnm hZ 0 rfl zu_X2_18 rfl rfl (Nat.le_of_ble_eq_true rfl) dX2_init_26 (fun H locs hZ => ?_)
  have hZ : zz_Z g A s.heap [(h0, .inr (1, [.null, .int 0, .ref q1, .ref q2, .ref q3])), (q1, .inl (g.2.1, 3600, .inl (fun _ => 0))), (q2, .inl (g.2.1, 60, .inl (fun _ => 0))), (q3, .inl (g.2.1, 60, .inl (fun _ => 0)))] H locs := hZ
  refine lv_aload_n hx hb dX2_init_29 rfl (lv_at hl 0 rfl) ?_
  refine lv_aload_n hx hb dX2_init_30 rfl (lv_at hl 1 rfl) ?_
  refine zz_putF hC hnm hZ 0 rfl zu_X2_21 rfl rfl (Nat.le_of_ble_eq_true rfl) dX2_init_31 (fun H locs hZ => ?_)
  have hZ : zz_Z g A s.heap [(h0, .inr (1, [.ref st, .int 0, .ref q1, .ref q2, .ref q3])), (q1, .inl (g.2.1, 3600, .inl (fun _ => 0))), (q2, .inl (g.2.1, 60, .inl (fun _ => 0))), (q3, .inl (g.2.1, 60, .inl (fun _ => 0)))] H locs := hZ
  exact zz_vret hC hZ (⟨q1, q2, q3, rfl⟩) (Nat.le_of_ble_eq_true rfl) (Nat.le_of_ble_eq_true rfl) dX2_init_34
theorem dX0_init_0 : decode cX0_init 0 = .ok (.aload_n 0, 1) := by decide +kernel
theorem dX0_init_1 : decode cX0_init 1 = .ok (.invokespecial 3, 3) := by decide +kernel
theorem zk_136 : Cond.methodLink RX0 3 objectInit ∈ zz_w := zz_in (List.mem_append_right _ (List.mem_append_left _ (List.mem_of_getElem? (i := 136) (by decide +kernel)))) rfl
theorem dX0_init_4 : decode cX0_init 4 = .ok (.aload_n 0, 1) := by decide +kernel
theorem dX0_init_5 : decode cX0_init 5 = .ok (.bipush 24, 2) := by decide +kernel
theorem dX0_init_7 : decode cX0_init 7 = .ok (.newarray .int, 2) := by decide +kernel
theorem dX0_init_9 : decode cX0_init 9 = .ok (.putfield 9, 3) := by decide +kernel
theorem zk_140 : Cond.fieldLink RX0 9 RX0 "places" "[I" ∈ zz_w := zz_in (List.mem_append_right _ (List.mem_append_left _ (List.mem_of_getElem? (i := 140) (by decide +kernel)))) rfl
theorem zi_X0_a : ∀ w ∈ u_ws RX0 TX0 7, w ∈ lw_tbl := by decide +kernel
theorem zi_X0_b : ∀ w ∈ u_ws RX0 TX0 7, goodWord w = true := by decide +kernel
theorem zi_X0 : ∀ w ∈ u_ws RX0 TX0 7, w ∈ zz_w := fun w h => zz_in (zi_X0_a w h) (zi_X0_b w h)
theorem zu_X0_9 : zz_fw RX0 9 0 2 true (.array .int) := ⟨RX0, TX0, 7, tyX0, rfl, zi_X0, by decide, zk_140, tyX0_ok, nmX0, rfl, by decide +kernel, fun _ => rfl⟩
theorem dX0_init_12 : decode cX0_init 12 = .ok (.aload_n 0, 1) := by decide +kernel
theorem dX0_init_13 : decode cX0_init 13 = .ok (.bipush 24, 2) := by decide +kernel
theorem dX0_init_15 : decode cX0_init 15 = .ok (.newarray .int, 2) := by decide +kernel
theorem dX0_init_17 : decode cX0_init 17 = .ok (.putfield 15, 3) := by decide +kernel
theorem zk_142 : Cond.fieldLink RX0 15 RX0 "slots" "[I" ∈ zz_w := zz_in (List.mem_append_right _ (List.mem_append_left _ (List.mem_of_getElem? (i := 142) (by decide +kernel)))) rfl
theorem zu_X0_15 : zz_fw RX0 15 0 3 true (.array .int) := ⟨RX0, TX0, 7, tyX0, rfl, zi_X0, by decide, zk_142, tyX0_ok, nmX0, rfl, by decide +kernel, fun _ => rfl⟩
theorem dX0_init_20 : decode cX0_init 20 = .ok (.aload_n 0, 1) := by decide +kernel
theorem dX0_init_21 : decode cX0_init 21 = .ok (.bipush 24, 2) := by decide +kernel
theorem dX0_init_23 : decode cX0_init 23 = .ok (.newarray .int, 2) := by decide +kernel
theorem dX0_init_25 : decode cX0_init 25 = .ok (.putfield 18, 3) := by decide +kernel
theorem zk_144 : Cond.fieldLink RX0 18 RX0 "counts" "[I" ∈ zz_w := zz_in (List.mem_append_right _ (List.mem_append_left _ (List.mem_of_getElem? (i := 144) (by decide +kernel)))) rfl
theorem zu_X0_18 : zz_fw RX0 18 0 4 true (.array .int) := ⟨RX0, TX0, 7, tyX0, rfl, zi_X0, by decide, zk_144, tyX0_ok, nmX0, rfl, by decide +kernel, fun _ => rfl⟩
theorem dX0_init_28 : decode cX0_init 28 = .ok (.aload_n 0, 1) := by decide +kernel
theorem dX0_init_29 : decode cX0_init 29 = .ok (.sipush 384, 3) := by decide +kernel
theorem dX0_init_32 : decode cX0_init 32 = .ok (.newarray .long, 2) := by decide +kernel
theorem dX0_init_34 : decode cX0_init 34 = .ok (.putfield 21, 3) := by decide +kernel
theorem zk_146 : Cond.fieldLink RX0 21 RX0 "candidates" "[J" ∈ zz_w := zz_in (List.mem_append_right _ (List.mem_append_left _ (List.mem_of_getElem? (i := 146) (by decide +kernel)))) rfl
theorem zu_X0_21 : zz_fw RX0 21 0 5 true (.array .long) := ⟨RX0, TX0, 7, tyX0, rfl, zi_X0, by decide, zk_146, tyX0_ok, nmX0, rfl, by decide +kernel, fun _ => rfl⟩
theorem dX0_init_37 : decode cX0_init 37 = .ok (.aload_n 0, 1) := by decide +kernel
theorem dX0_init_38 : decode cX0_init 38 = .ok (.bipush 24, 2) := by decide +kernel
theorem dX0_init_40 : decode cX0_init 40 = .ok (.newarray .int, 2) := by decide +kernel
theorem dX0_init_42 : decode cX0_init 42 = .ok (.putfield 25, 3) := by decide +kernel
theorem zk_147 : Cond.fieldLink RX0 25 RX0 "turns" "[I" ∈ zz_w := zz_in (List.mem_append_right _ (List.mem_append_left _ (List.mem_of_getElem? (i := 147) (by decide +kernel)))) rfl
theorem zu_X0_25 : zz_fw RX0 25 0 6 true (.array .int) := ⟨RX0, TX0, 7, tyX0, rfl, zi_X0, by decide, zk_147, tyX0_ok, nmX0, rfl, by decide +kernel, fun _ => rfl⟩
theorem dX0_init_45 : decode cX0_init 45 = .ok (.aload_n 0, 1) := by decide +kernel
theorem dX0_init_46 : decode cX0_init 46 = .ok (.aload_n 1, 1) := by decide +kernel
theorem dX0_init_47 : decode cX0_init 47 = .ok (.putfield 28, 3) := by decide +kernel
theorem zk_137 : Cond.fieldLink RX0 28 RX0 "store" "LDecisionArrays$Store;" ∈ zz_w := zz_in (List.mem_append_right _ (List.mem_append_left _ (List.mem_of_getElem? (i := 137) (by decide +kernel)))) rfl
theorem zu_X0_28 : zz_fw RX0 28 0 0 true (.object "DecisionArrays$Store") := ⟨RX0, TX0, 7, tyX0, rfl, zi_X0, by decide, zk_137, tyX0_ok, nmX0, rfl, by decide +kernel, fun _ => rfl⟩
theorem dX0_init_50 : decode cX0_init 50 = .ok (.return_, 1) := by decide +kernel
abbrev rm_ci_Choices : Room := { frames := 1, cells := 5, slots := 480, locals := 12 }
abbrev po_ci_Choices (g : zz_G) (h0 : Nat) (st : Nat) : va_W → Prop := fun (u : va_W) => ∃ (e1 : Nat) (e2 : Nat) (e3 : Nat) (e4 : Nat) (e5 : Nat), u = [(h0, .inr (0, [.ref st, .int 0, .ref e1, .ref e2, .ref e3, .ref e4, .ref e5])), (e1, .inl (g.2.1, 24, .inl (fun _ => 0))), (e2, .inl (g.2.1, 24, .inl (fun _ => 0))), (e3, .inl (g.2.1, 24, .inl (fun _ => 0))), (e4, .inl (g.2.2.1, 384, .inr (.inl (fun _ => 0)))), (e5, .inl (g.2.1, 24, .inl (fun _ => 0)))]
set_option maxHeartbeats 4000000 in
set_option maxRecDepth 100000 in
theorem ci_Choices (g : zz_G) (h0 : Nat) (st : Nat) : zz_V g yX0_init (.code yX0_init cX0_init 2 none) rm_ci_Choices [.ref h0, .ref st] [(h0, .inr (0, [.null, .int 0, .null, .null, .null, .null, .null]))] (po_ci_Choices g h0 st) := by
  refine zz_V.intro (own := RX0) (cc := cX0_init) (nL := 2) (by decide) rfl (Nat.le_of_ble_eq_true rfl) ?_
  intro p l e s m args below meth c A H locs ls hC hnm hZ hl
  obtain ⟨hx, hb, hml, hown, hts, hr, hlocks, hK⟩ := id hC
  have hl : lv_has ls 2 [(0, .ref h0), (1, .ref st)] := hl
  have hZ : zz_Z g A s.heap [(h0, .inr (0, [.null, .int 0, .null, .null, .null, .null, .null]))] H locs := hZ
  refine lv_aload_n hx hb dX0_init_0 rfl (lv_at hl 0 rfl) ?_
  refine zz_obj hC hl zk_136 zk_18 zk_19 (Nat.le_of_ble_eq_true rfl) (Nat.le_of_ble_eq_true rfl) dX0_init_1 ?_
  refine lv_aload_n hx hb dX0_init_4 rfl (lv_at hl 0 rfl) ?_
  refine lv_bipush (v := 24) hx hb dX0_init_5 (by decide) ?_
  refine zz_newi (N' := 24) hC hZ zk_87 (by decide) (by decide) (Nat.le_of_ble_eq_true rfl) (Nat.le_of_ble_eq_true rfl) (Nat.le_of_ble_eq_true rfl) dX0_init_7 (fun q1 H hZ => ?_)
  have hZ : zz_Z g A s.heap [(h0, .inr (0, [.null, .int 0, .null, .null, .null, .null, .null])), (q1, .inl (g.2.1, 24, .inl (fun _ => 0)))] H locs := hZ
  refine zz_putF hC hnm hZ 0 rfl zu_X0_9 rfl rfl (Nat.le_of_ble_eq_true rfl) dX0_init_9 (fun H locs hZ => ?_)
  have hZ : zz_Z g A s.heap [(h0, .inr (0, [.null, .int 0, .ref q1, .null, .null, .null, .null])), (q1, .inl (g.2.1, 24, .inl (fun _ => 0)))] H locs := hZ
  refine lv_aload_n hx hb dX0_init_12 rfl (lv_at hl 0 rfl) ?_
  refine lv_bipush (v := 24) hx hb dX0_init_13 (by decide) ?_
  refine zz_newi (N' := 24) hC hZ zk_87 (by decide) (by decide) (Nat.le_of_ble_eq_true rfl) (Nat.le_of_ble_eq_true rfl) (Nat.le_of_ble_eq_true rfl) dX0_init_15 (fun q2 H hZ => ?_)
  have hZ : zz_Z g A s.heap [(h0, .inr (0, [.null, .int 0, .ref q1, .null, .null, .null, .null])), (q1, .inl (g.2.1, 24, .inl (fun _ => 0))), (q2, .inl (g.2.1, 24, .inl (fun _ => 0)))] H locs := hZ
  refine zz_putF hC hnm hZ 0 rfl zu_X0_15 rfl rfl (Nat.le_of_ble_eq_true rfl) dX0_init_17 (fun H locs hZ => ?_)
  have hZ : zz_Z g A s.heap [(h0, .inr (0, [.null, .int 0, .ref q1, .ref q2, .null, .null, .null])), (q1, .inl (g.2.1, 24, .inl (fun _ => 0))), (q2, .inl (g.2.1, 24, .inl (fun _ => 0)))] H locs := hZ
  refine lv_aload_n hx hb dX0_init_20 rfl (lv_at hl 0 rfl) ?_
  refine lv_bipush (v := 24) hx hb dX0_init_21 (by decide) ?_
  refine zz_newi (N' := 24) hC hZ zk_87 (by decide) (by decide) (Nat.le_of_ble_eq_true rfl) (Nat.le_of_ble_eq_true rfl) (Nat.le_of_ble_eq_true rfl) dX0_init_23 (fun q3 H hZ => ?_)
  have hZ : zz_Z g A s.heap [(h0, .inr (0, [.null, .int 0, .ref q1, .ref q2, .null, .null, .null])), (q1, .inl (g.2.1, 24, .inl (fun _ => 0))), (q2, .inl (g.2.1, 24, .inl (fun _ => 0))), (q3, .inl (g.2.1, 24, .inl (fun _ => 0)))] H locs := hZ
  refine zz_putF hC hnm hZ 0 rfl zu_X0_18 rfl rfl (Nat.le_of_ble_eq_true rfl) dX0_init_25 (fun H locs hZ => ?_)
  have hZ : zz_Z g A s.heap [(h0, .inr (0, [.null, .int 0, .ref q1, .ref q2, .ref q3, .null, .null])), (q1, .inl (g.2.1, 24, .inl (fun _ => 0))), (q2, .inl (g.2.1, 24, .inl (fun _ => 0))), (q3, .inl (g.2.1, 24, .inl (fun _ => 0)))] H locs := hZ
  refine lv_aload_n hx hb dX0_init_28 rfl (lv_at hl 0 rfl) ?_
  refine lv_sipush (v := 384) hx hb dX0_init_29 (by decide) ?_
  refine zz_newl (N' := 384) hC hZ zk_88 (by decide) (by decide) (Nat.le_of_ble_eq_true rfl) (Nat.le_of_ble_eq_true rfl) (Nat.le_of_ble_eq_true rfl) dX0_init_32 (fun q4 H hZ => ?_)
  have hZ : zz_Z g A s.heap [(h0, .inr (0, [.null, .int 0, .ref q1, .ref q2, .ref q3, .null, .null])), (q1, .inl (g.2.1, 24, .inl (fun _ => 0))), (q2, .inl (g.2.1, 24, .inl (fun _ => 0))), (q3, .inl (g.2.1, 24, .inl (fun _ => 0))), (q4, .inl (g.2.2.1, 384, .inr (.inl (fun _ => 0))))] H locs := hZ
  refine zz_putF hC hnm hZ 0 rfl zu_X0_21 rfl rfl (Nat.le_of_ble_eq_true rfl) dX0_init_34 (fun H locs hZ => ?_)
  have hZ : zz_Z g A s.heap [(h0, .inr (0, [.null, .int 0, .ref q1, .ref q2, .ref q3, .ref q4, .null])), (q1, .inl (g.2.1, 24, .inl (fun _ => 0))), (q2, .inl (g.2.1, 24, .inl (fun _ => 0))), (q3, .inl (g.2.1, 24, .inl (fun _ => 0))), (q4, .inl (g.2.2.1, 384, .inr (.inl (fun _ => 0))))] H locs := hZ
  refine lv_aload_n hx hb dX0_init_37 rfl (lv_at hl 0 rfl) ?_
  refine lv_bipush (v := 24) hx hb dX0_init_38 (by decide) ?_
  refine zz_newi (N' := 24) hC hZ zk_87 (by decide) (by decide) (Nat.le_of_ble_eq_true rfl) (Nat.le_of_ble_eq_true rfl) (Nat.le_of_ble_eq_true rfl) dX0_init_40 (fun q5 H hZ => ?_)
  have hZ : zz_Z g A s.heap [(h0, .inr (0, [.null, .int 0, .ref q1, .ref q2, .ref q3, .ref q4, .null])), (q1, .inl (g.2.1, 24, .inl (fun _ => 0))), (q2, .inl (g.2.1, 24, .inl (fun _ => 0))), (q3, .inl (g.2.1, 24, .inl (fun _ => 0))), (q4, .inl (g.2.2.1, 384, .inr (.inl (fun _ => 0)))), (q5, .inl (g.2.1, 24, .inl (fun _ => 0)))] H locs := hZ
  refine zz_putF hC hnm hZ 0 rfl zu_X0_25 rfl rfl (Nat.le_of_ble_eq_true rfl) dX0_init_42 (fun H locs hZ => ?_)
  have hZ : zz_Z g A s.heap [(h0, .inr (0, [.null, .int 0, .ref q1, .ref q2, .ref q3, .ref q4, .ref q5])), (q1, .inl (g.2.1, 24, .inl (fun _ => 0))), (q2, .inl (g.2.1, 24, .inl (fun _ => 0))), (q3, .inl (g.2.1, 24, .inl (fun _ => 0))), (q4, .inl (g.2.2.1, 384, .inr (.inl (fun _ => 0)))), (q5, .inl (g.2.1, 24, .inl (fun _ => 0)))] H locs := hZ
  refine lv_aload_n hx hb dX0_init_45 rfl (lv_at hl 0 rfl) ?_
  refine lv_aload_n hx hb dX0_init_46 rfl (lv_at hl 1 rfl) ?_
  refine zz_putF hC hnm hZ 0 rfl zu_X0_28 rfl rfl (Nat.le_of_ble_eq_true rfl) dX0_init_47 (fun H locs hZ => ?_)
  have hZ : zz_Z g A s.heap [(h0, .inr (0, [.ref st, .int 0, .ref q1, .ref q2, .ref q3, .ref q4, .ref q5])), (q1, .inl (g.2.1, 24, .inl (fun _ => 0))), (q2, .inl (g.2.1, 24, .inl (fun _ => 0))), (q3, .inl (g.2.1, 24, .inl (fun _ => 0))), (q4, .inl (g.2.2.1, 384, .inr (.inl (fun _ => 0)))), (q5, .inl (g.2.1, 24, .inl (fun _ => 0)))] H locs := hZ
  exact zz_vret hC hZ (⟨q1, q2, q3, q4, q5, rfl⟩) (Nat.le_of_ble_eq_true rfl) (Nat.le_of_ble_eq_true rfl) dX0_init_50
theorem dX5_init_0 : decode cX5_init 0 = .ok (.aload_n 0, 1) := by decide +kernel
theorem dX5_init_1 : decode cX5_init 1 = .ok (.invokespecial 3, 3) := by decide +kernel
theorem zk_168 : Cond.methodLink RX5 3 objectInit ∈ zz_w := zz_in (List.mem_append_right _ (List.mem_append_left _ (List.mem_of_getElem? (i := 168) (by decide +kernel)))) rfl
theorem dX5_init_4 : decode cX5_init 4 = .ok (.aload_n 0, 1) := by decide +kernel
theorem dX5_init_5 : decode cX5_init 5 = .ok (.bipush 12, 2) := by decide +kernel
theorem dX5_init_7 : decode cX5_init 7 = .ok (.newarray .int, 2) := by decide +kernel
theorem dX5_init_9 : decode cX5_init 9 = .ok (.putfield 9, 3) := by decide +kernel
theorem zk_172 : Cond.fieldLink RX5 9 RX5 "sorts" "[I" ∈ zz_w := zz_in (List.mem_append_right _ (List.mem_append_left _ (List.mem_of_getElem? (i := 172) (by decide +kernel)))) rfl
theorem zi_X5_a : ∀ w ∈ u_ws RX5 TX5 9, w ∈ lw_tbl := by decide +kernel
theorem zi_X5_b : ∀ w ∈ u_ws RX5 TX5 9, goodWord w = true := by decide +kernel
theorem zi_X5 : ∀ w ∈ u_ws RX5 TX5 9, w ∈ zz_w := fun w h => zz_in (zi_X5_a w h) (zi_X5_b w h)
theorem zu_X5_9 : zz_fw RX5 9 4 2 true (.array .int) := ⟨RX5, TX5, 9, tyX5, rfl, zi_X5, by decide, zk_172, tyX5_ok, nmX5, rfl, by decide +kernel, fun _ => rfl⟩
theorem dX5_init_12 : decode cX5_init 12 = .ok (.aload_n 0, 1) := by decide +kernel
theorem dX5_init_13 : decode cX5_init 13 = .ok (.bipush 12, 2) := by decide +kernel
theorem dX5_init_15 : decode cX5_init 15 = .ok (.newarray .int, 2) := by decide +kernel
theorem dX5_init_17 : decode cX5_init 17 = .ok (.putfield 15, 3) := by decide +kernel
theorem zk_173 : Cond.fieldLink RX5 15 RX5 "judged" "[I" ∈ zz_w := zz_in (List.mem_append_right _ (List.mem_append_left _ (List.mem_of_getElem? (i := 173) (by decide +kernel)))) rfl
theorem zu_X5_15 : zz_fw RX5 15 4 3 true (.array .int) := ⟨RX5, TX5, 9, tyX5, rfl, zi_X5, by decide, zk_173, tyX5_ok, nmX5, rfl, by decide +kernel, fun _ => rfl⟩
theorem dX5_init_20 : decode cX5_init 20 = .ok (.aload_n 0, 1) := by decide +kernel
theorem dX5_init_21 : decode cX5_init 21 = .ok (.bipush 12, 2) := by decide +kernel
theorem dX5_init_23 : decode cX5_init 23 = .ok (.newarray .int, 2) := by decide +kernel
theorem dX5_init_25 : decode cX5_init 25 = .ok (.putfield 18, 3) := by decide +kernel
theorem zk_174 : Cond.fieldLink RX5 18 RX5 "weights" "[I" ∈ zz_w := zz_in (List.mem_append_right _ (List.mem_append_left _ (List.mem_of_getElem? (i := 174) (by decide +kernel)))) rfl
theorem zu_X5_18 : zz_fw RX5 18 4 4 true (.array .int) := ⟨RX5, TX5, 9, tyX5, rfl, zi_X5, by decide, zk_174, tyX5_ok, nmX5, rfl, by decide +kernel, fun _ => rfl⟩
theorem dX5_init_28 : decode cX5_init 28 = .ok (.aload_n 0, 1) := by decide +kernel
theorem dX5_init_29 : decode cX5_init 29 = .ok (.bipush 12, 2) := by decide +kernel
theorem dX5_init_31 : decode cX5_init 31 = .ok (.newarray .long, 2) := by decide +kernel
theorem dX5_init_33 : decode cX5_init 33 = .ok (.putfield 21, 3) := by decide +kernel
theorem zk_175 : Cond.fieldLink RX5 21 RX5 "lows" "[J" ∈ zz_w := zz_in (List.mem_append_right _ (List.mem_append_left _ (List.mem_of_getElem? (i := 175) (by decide +kernel)))) rfl
theorem zu_X5_21 : zz_fw RX5 21 4 5 true (.array .long) := ⟨RX5, TX5, 9, tyX5, rfl, zi_X5, by decide, zk_175, tyX5_ok, nmX5, rfl, by decide +kernel, fun _ => rfl⟩
theorem dX5_init_36 : decode cX5_init 36 = .ok (.aload_n 0, 1) := by decide +kernel
theorem dX5_init_37 : decode cX5_init 37 = .ok (.bipush 12, 2) := by decide +kernel
theorem dX5_init_39 : decode cX5_init 39 = .ok (.newarray .long, 2) := by decide +kernel
theorem dX5_init_41 : decode cX5_init 41 = .ok (.putfield 25, 3) := by decide +kernel
theorem zk_176 : Cond.fieldLink RX5 25 RX5 "highs" "[J" ∈ zz_w := zz_in (List.mem_append_right _ (List.mem_append_left _ (List.mem_of_getElem? (i := 176) (by decide +kernel)))) rfl
theorem zu_X5_25 : zz_fw RX5 25 4 6 true (.array .long) := ⟨RX5, TX5, 9, tyX5, rfl, zi_X5, by decide, zk_176, tyX5_ok, nmX5, rfl, by decide +kernel, fun _ => rfl⟩
theorem dX5_init_44 : decode cX5_init 44 = .ok (.aload_n 0, 1) := by decide +kernel
theorem dX5_init_45 : decode cX5_init 45 = .ok (.bipush 12, 2) := by decide +kernel
theorem dX5_init_47 : decode cX5_init 47 = .ok (.newarray .long, 2) := by decide +kernel
theorem dX5_init_49 : decode cX5_init 49 = .ok (.putfield 28, 3) := by decide +kernel
theorem zk_177 : Cond.fieldLink RX5 28 RX5 "tallies" "[J" ∈ zz_w := zz_in (List.mem_append_right _ (List.mem_append_left _ (List.mem_of_getElem? (i := 177) (by decide +kernel)))) rfl
theorem zu_X5_28 : zz_fw RX5 28 4 7 true (.array .long) := ⟨RX5, TX5, 9, tyX5, rfl, zi_X5, by decide, zk_177, tyX5_ok, nmX5, rfl, by decide +kernel, fun _ => rfl⟩
theorem dX5_init_52 : decode cX5_init 52 = .ok (.aload_n 0, 1) := by decide +kernel
theorem dX5_init_53 : decode cX5_init 53 = .ok (.bipush 12, 2) := by decide +kernel
theorem dX5_init_55 : decode cX5_init 55 = .ok (.newarray .long, 2) := by decide +kernel
theorem dX5_init_57 : decode cX5_init 57 = .ok (.putfield 31, 3) := by decide +kernel
theorem zk_178 : Cond.fieldLink RX5 31 RX5 "borne" "[J" ∈ zz_w := zz_in (List.mem_append_right _ (List.mem_append_left _ (List.mem_of_getElem? (i := 178) (by decide +kernel)))) rfl
theorem zu_X5_31 : zz_fw RX5 31 4 8 true (.array .long) := ⟨RX5, TX5, 9, tyX5, rfl, zi_X5, by decide, zk_178, tyX5_ok, nmX5, rfl, by decide +kernel, fun _ => rfl⟩
theorem dX5_init_60 : decode cX5_init 60 = .ok (.aload_n 0, 1) := by decide +kernel
theorem dX5_init_61 : decode cX5_init 61 = .ok (.aload_n 1, 1) := by decide +kernel
theorem dX5_init_62 : decode cX5_init 62 = .ok (.putfield 34, 3) := by decide +kernel
theorem zk_169 : Cond.fieldLink RX5 34 RX5 "store" "LDecisionArrays$Store;" ∈ zz_w := zz_in (List.mem_append_right _ (List.mem_append_left _ (List.mem_of_getElem? (i := 169) (by decide +kernel)))) rfl
theorem zu_X5_34 : zz_fw RX5 34 4 0 true (.object "DecisionArrays$Store") := ⟨RX5, TX5, 9, tyX5, rfl, zi_X5, by decide, zk_169, tyX5_ok, nmX5, rfl, by decide +kernel, fun _ => rfl⟩
theorem dX5_init_65 : decode cX5_init 65 = .ok (.return_, 1) := by decide +kernel
abbrev rm_ci_Rules : Room := { frames := 1, cells := 7, slots := 84, locals := 12 }
abbrev po_ci_Rules (g : zz_G) (h0 : Nat) (st : Nat) : va_W → Prop := fun (u : va_W) => ∃ (e1 : Nat) (e2 : Nat) (e3 : Nat) (e4 : Nat) (e5 : Nat) (e6 : Nat) (e7 : Nat), u = [(h0, .inr (4, [.ref st, .int 0, .ref e1, .ref e2, .ref e3, .ref e4, .ref e5, .ref e6, .ref e7])), (e1, .inl (g.2.1, 12, .inl (fun _ => 0))), (e2, .inl (g.2.1, 12, .inl (fun _ => 0))), (e3, .inl (g.2.1, 12, .inl (fun _ => 0))), (e4, .inl (g.2.2.1, 12, .inr (.inl (fun _ => 0)))), (e5, .inl (g.2.2.1, 12, .inr (.inl (fun _ => 0)))), (e6, .inl (g.2.2.1, 12, .inr (.inl (fun _ => 0)))), (e7, .inl (g.2.2.1, 12, .inr (.inl (fun _ => 0))))]
set_option maxHeartbeats 4000000 in
set_option maxRecDepth 100000 in
theorem ci_Rules (g : zz_G) (h0 : Nat) (st : Nat) : zz_V g yX5_init (.code yX5_init cX5_init 2 none) rm_ci_Rules [.ref h0, .ref st] [(h0, .inr (4, [.null, .int 0, .null, .null, .null, .null, .null, .null, .null]))] (po_ci_Rules g h0 st) := by
  refine zz_V.intro (own := RX5) (cc := cX5_init) (nL := 2) (by decide) rfl (Nat.le_of_ble_eq_true rfl) ?_
  intro p l e s m args below meth c A H locs ls hC hnm hZ hl
  obtain ⟨hx, hb, hml, hown, hts, hr, hlocks, hK⟩ := id hC
  have hl : lv_has ls 2 [(0, .ref h0), (1, .ref st)] := hl
  have hZ : zz_Z g A s.heap [(h0, .inr (4, [.null, .int 0, .null, .null, .null, .null, .null, .null, .null]))] H locs := hZ
  refine lv_aload_n hx hb dX5_init_0 rfl (lv_at hl 0 rfl) ?_
  refine zz_obj hC hl zk_168 zk_18 zk_19 (Nat.le_of_ble_eq_true rfl) (Nat.le_of_ble_eq_true rfl) dX5_init_1 ?_
  refine lv_aload_n hx hb dX5_init_4 rfl (lv_at hl 0 rfl) ?_
  refine lv_bipush (v := 12) hx hb dX5_init_5 (by decide) ?_
  refine zz_newi (N' := 12) hC hZ zk_87 (by decide) (by decide) (Nat.le_of_ble_eq_true rfl) (Nat.le_of_ble_eq_true rfl) (Nat.le_of_ble_eq_true rfl) dX5_init_7 (fun q1 H hZ => ?_)
  have hZ : zz_Z g A s.heap [(h0, .inr (4, [.null, .int 0, .null, .null, .null, .null, .null, .null, .null])), (q1, .inl (g.2.1, 12, .inl (fun _ => 0)))] H locs := hZ
  refine zz_putF hC hnm hZ 0 rfl zu_X5_9 rfl rfl (Nat.le_of_ble_eq_true rfl) dX5_init_9 (fun H locs hZ => ?_)
  have hZ : zz_Z g A s.heap [(h0, .inr (4, [.null, .int 0, .ref q1, .null, .null, .null, .null, .null, .null])), (q1, .inl (g.2.1, 12, .inl (fun _ => 0)))] H locs := hZ
  refine lv_aload_n hx hb dX5_init_12 rfl (lv_at hl 0 rfl) ?_
  refine lv_bipush (v := 12) hx hb dX5_init_13 (by decide) ?_
  refine zz_newi (N' := 12) hC hZ zk_87 (by decide) (by decide) (Nat.le_of_ble_eq_true rfl) (Nat.le_of_ble_eq_true rfl) (Nat.le_of_ble_eq_true rfl) dX5_init_15 (fun q2 H hZ => ?_)
  have hZ : zz_Z g A s.heap [(h0, .inr (4, [.null, .int 0, .ref q1, .null, .null, .null, .null, .null, .null])), (q1, .inl (g.2.1, 12, .inl (fun _ => 0))), (q2, .inl (g.2.1, 12, .inl (fun _ => 0)))] H locs := hZ
  refine zz_putF hC hnm hZ 0 rfl zu_X5_15 rfl rfl (Nat.le_of_ble_eq_true rfl) dX5_init_17 (fun H locs hZ => ?_)
  have hZ : zz_Z g A s.heap [(h0, .inr (4, [.null, .int 0, .ref q1, .ref q2, .null, .null, .null, .null, .null])), (q1, .inl (g.2.1, 12, .inl (fun _ => 0))), (q2, .inl (g.2.1, 12, .inl (fun _ => 0)))] H locs := hZ
  refine lv_aload_n hx hb dX5_init_20 rfl (lv_at hl 0 rfl) ?_
  refine lv_bipush (v := 12) hx hb dX5_init_21 (by decide) ?_
  refine zz_newi (N' := 12) hC hZ zk_87 (by decide) (by decide) (Nat.le_of_ble_eq_true rfl) (Nat.le_of_ble_eq_true rfl) (Nat.le_of_ble_eq_true rfl) dX5_init_23 (fun q3 H hZ => ?_)
  have hZ : zz_Z g A s.heap [(h0, .inr (4, [.null, .int 0, .ref q1, .ref q2, .null, .null, .null, .null, .null])), (q1, .inl (g.2.1, 12, .inl (fun _ => 0))), (q2, .inl (g.2.1, 12, .inl (fun _ => 0))), (q3, .inl (g.2.1, 12, .inl (fun _ => 0)))] H locs := hZ
  refine zz_putF hC hnm hZ 0 rfl zu_X5_18 rfl rfl (Nat.le_of_ble_eq_true rfl) dX5_init_25 (fun H locs hZ => ?_)
  have hZ : zz_Z g A s.heap [(h0, .inr (4, [.null, .int 0, .ref q1, .ref q2, .ref q3, .null, .null, .null, .null])), (q1, .inl (g.2.1, 12, .inl (fun _ => 0))), (q2, .inl (g.2.1, 12, .inl (fun _ => 0))), (q3, .inl (g.2.1, 12, .inl (fun _ => 0)))] H locs := hZ
  refine lv_aload_n hx hb dX5_init_28 rfl (lv_at hl 0 rfl) ?_
  refine lv_bipush (v := 12) hx hb dX5_init_29 (by decide) ?_
  refine zz_newl (N' := 12) hC hZ zk_88 (by decide) (by decide) (Nat.le_of_ble_eq_true rfl) (Nat.le_of_ble_eq_true rfl) (Nat.le_of_ble_eq_true rfl) dX5_init_31 (fun q4 H hZ => ?_)
  have hZ : zz_Z g A s.heap [(h0, .inr (4, [.null, .int 0, .ref q1, .ref q2, .ref q3, .null, .null, .null, .null])), (q1, .inl (g.2.1, 12, .inl (fun _ => 0))), (q2, .inl (g.2.1, 12, .inl (fun _ => 0))), (q3, .inl (g.2.1, 12, .inl (fun _ => 0))), (q4, .inl (g.2.2.1, 12, .inr (.inl (fun _ => 0))))] H locs := hZ
  refine zz_putF hC hnm hZ 0 rfl zu_X5_21 rfl rfl (Nat.le_of_ble_eq_true rfl) dX5_init_33 (fun H locs hZ => ?_)
  have hZ : zz_Z g A s.heap [(h0, .inr (4, [.null, .int 0, .ref q1, .ref q2, .ref q3, .ref q4, .null, .null, .null])), (q1, .inl (g.2.1, 12, .inl (fun _ => 0))), (q2, .inl (g.2.1, 12, .inl (fun _ => 0))), (q3, .inl (g.2.1, 12, .inl (fun _ => 0))), (q4, .inl (g.2.2.1, 12, .inr (.inl (fun _ => 0))))] H locs := hZ
  refine lv_aload_n hx hb dX5_init_36 rfl (lv_at hl 0 rfl) ?_
  refine lv_bipush (v := 12) hx hb dX5_init_37 (by decide) ?_
  refine zz_newl (N' := 12) hC hZ zk_88 (by decide) (by decide) (Nat.le_of_ble_eq_true rfl) (Nat.le_of_ble_eq_true rfl) (Nat.le_of_ble_eq_true rfl) dX5_init_39 (fun q5 H hZ => ?_)
  have hZ : zz_Z g A s.heap [(h0, .inr (4, [.null, .int 0, .ref q1, .ref q2, .ref q3, .ref q4, .null, .null, .null])), (q1, .inl (g.2.1, 12, .inl (fun _ => 0))), (q2, .inl (g.2.1, 12, .inl (fun _ => 0))), (q3, .inl (g.2.1, 12, .inl (fun _ => 0))), (q4, .inl (g.2.2.1, 12, .inr (.inl (fun _ => 0)))), (q5, .inl (g.2.2.1, 12, .inr (.inl (fun _ => 0))))] H locs := hZ
  refine zz_putF hC hnm hZ 0 rfl zu_X5_25 rfl rfl (Nat.le_of_ble_eq_true rfl) dX5_init_41 (fun H locs hZ => ?_)
  have hZ : zz_Z g A s.heap [(h0, .inr (4, [.null, .int 0, .ref q1, .ref q2, .ref q3, .ref q4, .ref q5, .null, .null])), (q1, .inl (g.2.1, 12, .inl (fun _ => 0))), (q2, .inl (g.2.1, 12, .inl (fun _ => 0))), (q3, .inl (g.2.1, 12, .inl (fun _ => 0))), (q4, .inl (g.2.2.1, 12, .inr (.inl (fun _ => 0)))), (q5, .inl (g.2.2.1, 12, .inr (.inl (fun _ => 0))))] H locs := hZ
  refine lv_aload_n hx hb dX5_init_44 rfl (lv_at hl 0 rfl) ?_
  refine lv_bipush (v := 12) hx hb dX5_init_45 (by decide) ?_
  refine zz_newl (N' := 12) hC hZ zk_88 (by decide) (by decide) (Nat.le_of_ble_eq_true rfl) (Nat.le_of_ble_eq_true rfl) (Nat.le_of_ble_eq_true rfl) dX5_init_47 (fun q6 H hZ => ?_)
  have hZ : zz_Z g A s.heap [(h0, .inr (4, [.null, .int 0, .ref q1, .ref q2, .ref q3, .ref q4, .ref q5, .null, .null])), (q1, .inl (g.2.1, 12, .inl (fun _ => 0))), (q2, .inl (g.2.1, 12, .inl (fun _ => 0))), (q3, .inl (g.2.1, 12, .inl (fun _ => 0))), (q4, .inl (g.2.2.1, 12, .inr (.inl (fun _ => 0)))), (q5, .inl (g.2.2.1, 12, .inr (.inl (fun _ => 0)))), (q6, .inl (g.2.2.1, 12, .inr (.inl (fun _ => 0))))] H locs := hZ
  refine zz_putF hC hnm hZ 0 rfl zu_X5_28 rfl rfl (Nat.le_of_ble_eq_true rfl) dX5_init_49 (fun H locs hZ => ?_)
  have hZ : zz_Z g A s.heap [(h0, .inr (4, [.null, .int 0, .ref q1, .ref q2, .ref q3, .ref q4, .ref q5, .ref q6, .null])), (q1, .inl (g.2.1, 12, .inl (fun _ => 0))), (q2, .inl (g.2.1, 12, .inl (fun _ => 0))), (q3, .inl (g.2.1, 12, .inl (fun _ => 0))), (q4, .inl (g.2.2.1, 12, .inr (.inl (fun _ => 0)))), (q5, .inl (g.2.2.1, 12, .inr (.inl (fun _ => 0)))), (q6, .inl (g.2.2.1, 12, .inr (.inl (fun _ => 0))))] H locs := hZ
  refine lv_aload_n hx hb dX5_init_52 rfl (lv_at hl 0 rfl) ?_
  refine lv_bipush (v := 12) hx hb dX5_init_53 (by decide) ?_
  refine zz_newl (N' := 12) hC hZ zk_88 (by decide) (by decide) (Nat.le_of_ble_eq_true rfl) (Nat.le_of_ble_eq_true rfl) (Nat.le_of_ble_eq_true rfl) dX5_init_55 (fun q7 H hZ => ?_)
  have hZ : zz_Z g A s.heap [(h0, .inr (4, [.null, .int 0, .ref q1, .ref q2, .ref q3, .ref q4, .ref q5, .ref q6, .null])), (q1, .inl (g.2.1, 12, .inl (fun _ => 0))), (q2, .inl (g.2.1, 12, .inl (fun _ => 0))), (q3, .inl (g.2.1, 12, .inl (fun _ => 0))), (q4, .inl (g.2.2.1, 12, .inr (.inl (fun _ => 0)))), (q5, .inl (g.2.2.1, 12, .inr (.inl (fun _ => 0)))), (q6, .inl (g.2.2.1, 12, .inr (.inl (fun _ => 0)))), (q7, .inl (g.2.2.1, 12, .inr (.inl (fun _ => 0))))] H locs := hZ
  refine zz_putF hC hnm hZ 0 rfl zu_X5_31 rfl rfl (Nat.le_of_ble_eq_true rfl) dX5_init_57 (fun H locs hZ => ?_)
  have hZ : zz_Z g A s.heap [(h0, .inr (4, [.null, .int 0, .ref q1, .ref q2, .ref q3, .ref q4, .ref q5, .ref q6, .ref q7])), (q1, .inl (g.2.1, 12, .inl (fun _ => 0))), (q2, .inl (g.2.1, 12, .inl (fun _ => 0))), (q3, .inl (g.2.1, 12, .inl (fun _ => 0))), (q4, .inl (g.2.2.1, 12, .inr (.inl (fun _ => 0)))), (q5, .inl (g.2.2.1, 12, .inr (.inl (fun _ => 0)))), (q6, .inl (g.2.2.1, 12, .inr (.inl (fun _ => 0)))), (q7, .inl (g.2.2.1, 12, .inr (.inl (fun _ => 0))))] H locs := hZ
  refine lv_aload_n hx hb dX5_init_60 rfl (lv_at hl 0 rfl) ?_
  refine lv_aload_n hx hb dX5_init_61 rfl (lv_at hl 1 rfl) ?_
  refine zz_putF hC hnm hZ 0 rfl zu_X5_34 rfl rfl (Nat.le_of_ble_eq_true rfl) dX5_init_62 (fun H locs hZ => ?_)
  have hZ : zz_Z g A s.heap [(h0, .inr (4, [.ref st, .int 0, .ref q1, .ref q2, .ref q3, .ref q4, .ref q5, .ref q6, .ref q7])), (q1, .inl (g.2.1, 12, .inl (fun _ => 0))), (q2, .inl (g.2.1, 12, .inl (fun _ => 0))), (q3, .inl (g.2.1, 12, .inl (fun _ => 0))), (q4, .inl (g.2.2.1, 12, .inr (.inl (fun _ => 0)))), (q5, .inl (g.2.2.1, 12, .inr (.inl (fun _ => 0)))), (q6, .inl (g.2.2.1, 12, .inr (.inl (fun _ => 0)))), (q7, .inl (g.2.2.1, 12, .inr (.inl (fun _ => 0))))] H locs := hZ
  exact zz_vret hC hZ (⟨q1, q2, q3, q4, q5, q6, q7, rfl⟩) (Nat.le_of_ble_eq_true rfl) (Nat.le_of_ble_eq_true rfl) dX5_init_65
theorem dX4_init_0 : decode cX4_init 0 = .ok (.aload_n 0, 1) := by decide +kernel
theorem dX4_init_1 : decode cX4_init 1 = .ok (.invokespecial 3, 3) := by decide +kernel
theorem zk_702 : Cond.methodLink RX4 3 objectInit ∈ zz_w := zz_in (List.mem_append_right _ (List.mem_append_right _ (List.mem_append_right _ (List.mem_append_left _ (List.mem_of_getElem? (i := 222) (by decide +kernel)))))) rfl
theorem dX4_init_4 : decode cX4_init 4 = .ok (.aload_n 0, 1) := by decide +kernel
theorem dX4_init_5 : decode cX4_init 5 = .ok (.sipush 4000, 3) := by decide +kernel
theorem dX4_init_8 : decode cX4_init 8 = .ok (.newarray .long, 2) := by decide +kernel
theorem dX4_init_10 : decode cX4_init 10 = .ok (.putfield 9, 3) := by decide +kernel
theorem zk_703 : Cond.fieldLink RX4 9 RX4 "bits" "[J" ∈ zz_w := zz_in (List.mem_append_right _ (List.mem_append_right _ (List.mem_append_right _ (List.mem_append_left _ (List.mem_of_getElem? (i := 223) (by decide +kernel)))))) rfl
theorem zi_X4_a : ∀ w ∈ u_ws RX4 TX4 3, w ∈ lw_tbl := by decide +kernel
theorem zi_X4_b : ∀ w ∈ u_ws RX4 TX4 3, goodWord w = true := by decide +kernel
theorem zi_X4 : ∀ w ∈ u_ws RX4 TX4 3, w ∈ zz_w := fun w h => zz_in (zi_X4_a w h) (zi_X4_b w h)
theorem zu_X4_9 : zz_fw RX4 9 3 0 true (.array .long) := ⟨RX4, TX4, 3, tyX4, rfl, zi_X4, by decide, zk_703, tyX4_ok, nmX4, rfl, by decide +kernel, fun _ => rfl⟩
theorem dX4_init_13 : decode cX4_init 13 = .ok (.aload_n 0, 1) := by decide +kernel
theorem dX4_init_14 : decode cX4_init 14 = .ok (.sipush 4000, 3) := by decide +kernel
theorem dX4_init_17 : decode cX4_init 17 = .ok (.newarray .boolean, 2) := by decide +kernel
theorem dX4_init_19 : decode cX4_init 19 = .ok (.putfield 15, 3) := by decide +kernel
theorem zk_704 : Cond.fieldLink RX4 15 RX4 "pinned" "[Z" ∈ zz_w := zz_in (List.mem_append_right _ (List.mem_append_right _ (List.mem_append_right _ (List.mem_append_left _ (List.mem_of_getElem? (i := 224) (by decide +kernel)))))) rfl
theorem zu_X4_15 : zz_fw RX4 15 3 1 true (.array .boolean) := ⟨RX4, TX4, 3, tyX4, rfl, zi_X4, by decide, zk_704, tyX4_ok, nmX4, rfl, by decide +kernel, fun _ => rfl⟩
theorem dX4_init_22 : decode cX4_init 22 = .ok (.return_, 1) := by decide +kernel
abbrev rm_ci_Mark : Room := { frames := 1, cells := 2, slots := 8000, locals := 12 }
abbrev po_ci_Mark (g : zz_G) (h0 : Nat) : va_W → Prop := fun (u : va_W) => ∃ (e1 : Nat) (e2 : Nat), u = [(h0, .inr (3, [.ref e1, .ref e2, .int 0])), (e1, .inl (g.2.2.1, 4000, .inr (.inl (fun _ => 0)))), (e2, .inl (g.2.2.2.1, 4000, .inl (fun _ => 0)))]
set_option maxHeartbeats 4000000 in
set_option maxRecDepth 100000 in
theorem ci_Mark (g : zz_G) (h0 : Nat) : zz_V g yX4_init (.code yX4_init cX4_init 1 none) rm_ci_Mark [.ref h0] [(h0, .inr (3, [.null, .null, .int 0]))] (po_ci_Mark g h0) := by
  refine zz_V.intro (own := RX4) (cc := cX4_init) (nL := 1) (by decide) rfl (Nat.le_of_ble_eq_true rfl) ?_
  intro p l e s m args below meth c A H locs ls hC hnm hZ hl
  obtain ⟨hx, hb, hml, hown, hts, hr, hlocks, hK⟩ := id hC
  have hl : lv_has ls 1 [(0, .ref h0)] := hl
  have hZ : zz_Z g A s.heap [(h0, .inr (3, [.null, .null, .int 0]))] H locs := hZ
  refine lv_aload_n hx hb dX4_init_0 rfl (lv_at hl 0 rfl) ?_
  refine zz_obj hC hl zk_702 zk_18 zk_19 (Nat.le_of_ble_eq_true rfl) (Nat.le_of_ble_eq_true rfl) dX4_init_1 ?_
  refine lv_aload_n hx hb dX4_init_4 rfl (lv_at hl 0 rfl) ?_
  refine lv_sipush (v := 4000) hx hb dX4_init_5 (by decide) ?_
  refine zz_newl (N' := 4000) hC hZ zk_88 (by decide) (by decide) (Nat.le_of_ble_eq_true rfl) (Nat.le_of_ble_eq_true rfl) (Nat.le_of_ble_eq_true rfl) dX4_init_8 (fun q1 H hZ => ?_)
  have hZ : zz_Z g A s.heap [(h0, .inr (3, [.null, .null, .int 0])), (q1, .inl (g.2.2.1, 4000, .inr (.inl (fun _ => 0))))] H locs := hZ
  refine zz_putF hC hnm hZ 0 rfl zu_X4_9 rfl rfl (Nat.le_of_ble_eq_true rfl) dX4_init_10 (fun H locs hZ => ?_)
  have hZ : zz_Z g A s.heap [(h0, .inr (3, [.ref q1, .null, .int 0])), (q1, .inl (g.2.2.1, 4000, .inr (.inl (fun _ => 0))))] H locs := hZ
  refine lv_aload_n hx hb dX4_init_13 rfl (lv_at hl 0 rfl) ?_
  refine lv_sipush (v := 4000) hx hb dX4_init_14 (by decide) ?_
  refine zz_newz (N' := 4000) hC hZ zk_89 (by decide) (by decide) (Nat.le_of_ble_eq_true rfl) (Nat.le_of_ble_eq_true rfl) (Nat.le_of_ble_eq_true rfl) dX4_init_17 (fun q2 H hZ => ?_)
  have hZ : zz_Z g A s.heap [(h0, .inr (3, [.ref q1, .null, .int 0])), (q1, .inl (g.2.2.1, 4000, .inr (.inl (fun _ => 0)))), (q2, .inl (g.2.2.2.1, 4000, .inl (fun _ => 0)))] H locs := hZ
  refine zz_putF hC hnm hZ 0 rfl zu_X4_15 rfl rfl (Nat.le_of_ble_eq_true rfl) dX4_init_19 (fun H locs hZ => ?_)
  have hZ : zz_Z g A s.heap [(h0, .inr (3, [.ref q1, .ref q2, .int 0])), (q1, .inl (g.2.2.1, 4000, .inr (.inl (fun _ => 0)))), (q2, .inl (g.2.2.2.1, 4000, .inl (fun _ => 0)))] H locs := hZ
  exact zz_vret hC hZ (⟨q1, q2, rfl⟩) (Nat.le_of_ble_eq_true rfl) (Nat.le_of_ble_eq_true rfl) dX4_init_22
theorem dX7_init_0 : decode cX7_init 0 = .ok (.aload_n 0, 1) := by decide +kernel
theorem dX7_init_1 : decode cX7_init 1 = .ok (.invokespecial 1, 3) := by decide +kernel
theorem zk_17 : Cond.methodLink RX7 1 objectInit ∈ zz_w := zz_in (List.mem_append_right _ (List.mem_append_left _ (List.mem_of_getElem? (i := 17) (by decide +kernel)))) rfl
theorem dX7_init_4 : decode cX7_init 4 = .ok (.aload_n 0, 1) := by decide +kernel
theorem dX7_init_5 : decode cX7_init 5 = .ok (.new 7, 3) := by decide +kernel
theorem zk_20 : Cond.classLink RX7 7 RX6 ∈ zz_w := zz_in (List.mem_append_right _ (List.mem_append_left _ (List.mem_of_getElem? (i := 20) (by decide +kernel)))) rfl
theorem zk_21 : Cond.instantiable RX6 10 ∈ zz_w := zz_in (List.mem_append_right _ (List.mem_append_left _ (List.mem_of_getElem? (i := 21) (by decide +kernel)))) rfl
theorem zk_2 : Cond.initialized RX6 ∈ zz_w := zz_in (List.mem_append_right _ (List.mem_append_left _ (List.mem_of_getElem? (i := 2) (by decide +kernel)))) rfl
theorem zn_X7_7 : zz_n RX7 7 5 10 [.int 0, .int 0, .null, .null, .null, .null, .null, .null, .null, .null] := ⟨RX6, TX6, tyX6, rfl, zi_X6, tyX6_ok, zk_20, zk_21, zk_2, by decide +kernel⟩
theorem dX7_init_8 : decode cX7_init 8 = .ok (.dup, 1) := by decide +kernel
theorem dX7_init_9 : decode cX7_init 9 = .ok (.invokespecial 9, 3) := by decide +kernel
set_option maxRecDepth 20000 in
theorem zk_24 : Cond.code yX6_init cX6_init 1 none ∈ zz_w := zz_in (List.mem_append_right _ (List.mem_append_left _ (List.mem_of_getElem? (i := 24) (rfl)))) rfl
theorem zk_23 : Cond.instanceMethod yX6_init ∈ zz_w := zz_in (List.mem_append_right _ (List.mem_append_left _ (List.mem_of_getElem? (i := 23) (by decide +kernel)))) rfl
theorem zc_X7_9 : zz_cN RX7 9 yX6_init "DecisionArrays" cX6_init 1 0 := ⟨by decide, zk_24, zk_2, ⟨by decide, by decide, by decide +kernel⟩, rfl, zk_23⟩
theorem dX7_init_12 : decode cX7_init 12 = .ok (.putfield 10, 3) := by decide +kernel
theorem zk_200 : Cond.fieldLink RX7 10 RX7 "store" "LDecisionArrays$Store;" ∈ zz_w := zz_in (List.mem_append_right _ (List.mem_append_left _ (List.mem_of_getElem? (i := 200) (by decide +kernel)))) rfl
theorem zu_X7_10 : zz_fw RX7 10 6 0 true (.object "DecisionArrays$Store") := ⟨RX7, TX7, 8, tyX7, rfl, zi_X7, by decide, zk_200, tyX7_ok, nmX7, rfl, by decide +kernel, fun _ => rfl⟩
theorem dX7_init_15 : decode cX7_init 15 = .ok (.aload_n 0, 1) := by decide +kernel
theorem dX7_init_16 : decode cX7_init 16 = .ok (.new 16, 3) := by decide +kernel
theorem zk_90 : Cond.classLink RX7 16 RX3 ∈ zz_w := zz_in (List.mem_append_right _ (List.mem_append_left _ (List.mem_of_getElem? (i := 90) (by decide +kernel)))) rfl
theorem zk_91 : Cond.instantiable RX3 4 ∈ zz_w := zz_in (List.mem_append_right _ (List.mem_append_left _ (List.mem_of_getElem? (i := 91) (by decide +kernel)))) rfl
theorem zk_3 : Cond.initialized RX3 ∈ zz_w := zz_in (List.mem_append_right _ (List.mem_append_left _ (List.mem_of_getElem? (i := 3) (by decide +kernel)))) rfl
theorem zn_X7_16 : zz_n RX7 16 2 4 [.null, .null, .int 0, .int 0] := ⟨RX3, TX3, tyX3, rfl, zi_X3, tyX3_ok, zk_90, zk_91, zk_3, by decide +kernel⟩
theorem dX7_init_19 : decode cX7_init 19 = .ok (.dup, 1) := by decide +kernel
theorem dX7_init_20 : decode cX7_init 20 = .ok (.aload_n 0, 1) := by decide +kernel
theorem dX7_init_21 : decode cX7_init 21 = .ok (.getfield 10, 3) := by decide +kernel
theorem zf_X7_10 : zz_f RX7 10 6 0 := ⟨RX7, TX7, 8, rfl, zi_X7, by decide, zk_200⟩
theorem dX7_init_24 : decode cX7_init 24 = .ok (.invokespecial 18, 3) := by decide +kernel
theorem zk_92 : Cond.methodLink RX7 18 yX3_init ∈ zz_w := zz_in (List.mem_append_right _ (List.mem_append_left _ (List.mem_of_getElem? (i := 92) (by decide +kernel)))) rfl
set_option maxRecDepth 20000 in
theorem zk_94 : Cond.code yX3_init cX3_init 2 none ∈ zz_w := zz_in (List.mem_append_right _ (List.mem_append_left _ (List.mem_of_getElem? (i := 94) (rfl)))) rfl
theorem zk_93 : Cond.instanceMethod yX3_init ∈ zz_w := zz_in (List.mem_append_right _ (List.mem_append_left _ (List.mem_of_getElem? (i := 93) (by decide +kernel)))) rfl
theorem zc_X7_18 : zz_cI RX7 18 yX3_init cX3_init 2 1 := ⟨⟨zk_92, zk_94, zk_3, by decide, by decide, by decide +kernel⟩, rfl, zk_93⟩
theorem dX7_init_27 : decode cX7_init 27 = .ok (.putfield 21, 3) := by decide +kernel
theorem zk_201 : Cond.fieldLink RX7 21 RX7 "maker" "LDecisionArrays$Maker;" ∈ zz_w := zz_in (List.mem_append_right _ (List.mem_append_left _ (List.mem_of_getElem? (i := 201) (by decide +kernel)))) rfl
theorem zu_X7_21 : zz_fw RX7 21 6 1 true (.object "DecisionArrays$Maker") := ⟨RX7, TX7, 8, tyX7, rfl, zi_X7, by decide, zk_201, tyX7_ok, nmX7, rfl, by decide +kernel, fun _ => rfl⟩
theorem dX7_init_30 : decode cX7_init 30 = .ok (.aload_n 0, 1) := by decide +kernel
theorem dX7_init_31 : decode cX7_init 31 = .ok (.new 25, 3) := by decide +kernel
theorem zk_109 : Cond.classLink RX7 25 RX2 ∈ zz_w := zz_in (List.mem_append_right _ (List.mem_append_left _ (List.mem_of_getElem? (i := 109) (by decide +kernel)))) rfl
theorem zk_110 : Cond.instantiable RX2 5 ∈ zz_w := zz_in (List.mem_append_right _ (List.mem_append_left _ (List.mem_of_getElem? (i := 110) (by decide +kernel)))) rfl
theorem zk_4 : Cond.initialized RX2 ∈ zz_w := zz_in (List.mem_append_right _ (List.mem_append_left _ (List.mem_of_getElem? (i := 4) (by decide +kernel)))) rfl
theorem zn_X7_25 : zz_n RX7 25 1 5 [.null, .int 0, .null, .null, .null] := ⟨RX2, TX2, tyX2, rfl, zi_X2, tyX2_ok, zk_109, zk_110, zk_4, by decide +kernel⟩
theorem dX7_init_34 : decode cX7_init 34 = .ok (.dup, 1) := by decide +kernel
theorem dX7_init_35 : decode cX7_init 35 = .ok (.aload_n 0, 1) := by decide +kernel
theorem dX7_init_36 : decode cX7_init 36 = .ok (.getfield 10, 3) := by decide +kernel
theorem dX7_init_39 : decode cX7_init 39 = .ok (.invokespecial 27, 3) := by decide +kernel
theorem zk_111 : Cond.methodLink RX7 27 yX2_init ∈ zz_w := zz_in (List.mem_append_right _ (List.mem_append_left _ (List.mem_of_getElem? (i := 111) (by decide +kernel)))) rfl
set_option maxRecDepth 20000 in
theorem zk_113 : Cond.code yX2_init cX2_init 2 none ∈ zz_w := zz_in (List.mem_append_right _ (List.mem_append_left _ (List.mem_of_getElem? (i := 113) (rfl)))) rfl
theorem zk_112 : Cond.instanceMethod yX2_init ∈ zz_w := zz_in (List.mem_append_right _ (List.mem_append_left _ (List.mem_of_getElem? (i := 112) (by decide +kernel)))) rfl
theorem zc_X7_27 : zz_cI RX7 27 yX2_init cX2_init 2 1 := ⟨⟨zk_111, zk_113, zk_4, by decide, by decide, by decide +kernel⟩, rfl, zk_112⟩
theorem dX7_init_42 : decode cX7_init 42 = .ok (.putfield 28, 3) := by decide +kernel
theorem zk_202 : Cond.fieldLink RX7 28 RX7 "likeness" "LDecisionArrays$Likeness;" ∈ zz_w := zz_in (List.mem_append_right _ (List.mem_append_left _ (List.mem_of_getElem? (i := 202) (by decide +kernel)))) rfl
theorem zu_X7_28 : zz_fw RX7 28 6 2 true (.object "DecisionArrays$Likeness") := ⟨RX7, TX7, 8, tyX7, rfl, zi_X7, by decide, zk_202, tyX7_ok, nmX7, rfl, by decide +kernel, fun _ => rfl⟩
theorem dX7_init_45 : decode cX7_init 45 = .ok (.aload_n 0, 1) := by decide +kernel
theorem dX7_init_46 : decode cX7_init 46 = .ok (.new 32, 3) := by decide +kernel
theorem zk_131 : Cond.classLink RX7 32 RX0 ∈ zz_w := zz_in (List.mem_append_right _ (List.mem_append_left _ (List.mem_of_getElem? (i := 131) (by decide +kernel)))) rfl
theorem zk_132 : Cond.instantiable RX0 7 ∈ zz_w := zz_in (List.mem_append_right _ (List.mem_append_left _ (List.mem_of_getElem? (i := 132) (by decide +kernel)))) rfl
theorem zk_5 : Cond.initialized RX0 ∈ zz_w := zz_in (List.mem_append_right _ (List.mem_append_left _ (List.mem_of_getElem? (i := 5) (by decide +kernel)))) rfl
theorem zn_X7_32 : zz_n RX7 32 0 7 [.null, .int 0, .null, .null, .null, .null, .null] := ⟨RX0, TX0, tyX0, rfl, zi_X0, tyX0_ok, zk_131, zk_132, zk_5, by decide +kernel⟩
theorem dX7_init_49 : decode cX7_init 49 = .ok (.dup, 1) := by decide +kernel
theorem dX7_init_50 : decode cX7_init 50 = .ok (.aload_n 0, 1) := by decide +kernel
theorem dX7_init_51 : decode cX7_init 51 = .ok (.getfield 10, 3) := by decide +kernel
theorem dX7_init_54 : decode cX7_init 54 = .ok (.invokespecial 34, 3) := by decide +kernel
theorem zk_133 : Cond.methodLink RX7 34 yX0_init ∈ zz_w := zz_in (List.mem_append_right _ (List.mem_append_left _ (List.mem_of_getElem? (i := 133) (by decide +kernel)))) rfl
set_option maxRecDepth 20000 in
theorem zk_135 : Cond.code yX0_init cX0_init 2 none ∈ zz_w := zz_in (List.mem_append_right _ (List.mem_append_left _ (List.mem_of_getElem? (i := 135) (rfl)))) rfl
theorem zk_134 : Cond.instanceMethod yX0_init ∈ zz_w := zz_in (List.mem_append_right _ (List.mem_append_left _ (List.mem_of_getElem? (i := 134) (by decide +kernel)))) rfl
theorem zc_X7_34 : zz_cI RX7 34 yX0_init cX0_init 2 1 := ⟨⟨zk_133, zk_135, zk_5, by decide, by decide, by decide +kernel⟩, rfl, zk_134⟩
theorem dX7_init_57 : decode cX7_init 57 = .ok (.putfield 35, 3) := by decide +kernel
theorem zk_203 : Cond.fieldLink RX7 35 RX7 "choices" "LDecisionArrays$Choices;" ∈ zz_w := zz_in (List.mem_append_right _ (List.mem_append_left _ (List.mem_of_getElem? (i := 203) (by decide +kernel)))) rfl
theorem zu_X7_35 : zz_fw RX7 35 6 3 true (.object "DecisionArrays$Choices") := ⟨RX7, TX7, 8, tyX7, rfl, zi_X7, by decide, zk_203, tyX7_ok, nmX7, rfl, by decide +kernel, fun _ => rfl⟩
theorem dX7_init_60 : decode cX7_init 60 = .ok (.aload_n 0, 1) := by decide +kernel
theorem dX7_init_61 : decode cX7_init 61 = .ok (.new 39, 3) := by decide +kernel
theorem zk_163 : Cond.classLink RX7 39 RX5 ∈ zz_w := zz_in (List.mem_append_right _ (List.mem_append_left _ (List.mem_of_getElem? (i := 163) (by decide +kernel)))) rfl
theorem zk_164 : Cond.instantiable RX5 9 ∈ zz_w := zz_in (List.mem_append_right _ (List.mem_append_left _ (List.mem_of_getElem? (i := 164) (by decide +kernel)))) rfl
theorem zk_6 : Cond.initialized RX5 ∈ zz_w := zz_in (List.mem_append_right _ (List.mem_append_left _ (List.mem_of_getElem? (i := 6) (by decide +kernel)))) rfl
theorem zn_X7_39 : zz_n RX7 39 4 9 [.null, .int 0, .null, .null, .null, .null, .null, .null, .null] := ⟨RX5, TX5, tyX5, rfl, zi_X5, tyX5_ok, zk_163, zk_164, zk_6, by decide +kernel⟩
theorem dX7_init_64 : decode cX7_init 64 = .ok (.dup, 1) := by decide +kernel
theorem dX7_init_65 : decode cX7_init 65 = .ok (.aload_n 0, 1) := by decide +kernel
theorem dX7_init_66 : decode cX7_init 66 = .ok (.getfield 10, 3) := by decide +kernel
theorem dX7_init_69 : decode cX7_init 69 = .ok (.invokespecial 41, 3) := by decide +kernel
theorem zk_165 : Cond.methodLink RX7 41 yX5_init ∈ zz_w := zz_in (List.mem_append_right _ (List.mem_append_left _ (List.mem_of_getElem? (i := 165) (by decide +kernel)))) rfl
set_option maxRecDepth 20000 in
theorem zk_167 : Cond.code yX5_init cX5_init 2 none ∈ zz_w := zz_in (List.mem_append_right _ (List.mem_append_left _ (List.mem_of_getElem? (i := 167) (rfl)))) rfl
theorem zk_166 : Cond.instanceMethod yX5_init ∈ zz_w := zz_in (List.mem_append_right _ (List.mem_append_left _ (List.mem_of_getElem? (i := 166) (by decide +kernel)))) rfl
theorem zc_X7_41 : zz_cI RX7 41 yX5_init cX5_init 2 1 := ⟨⟨zk_165, zk_167, zk_6, by decide, by decide, by decide +kernel⟩, rfl, zk_166⟩
theorem dX7_init_72 : decode cX7_init 72 = .ok (.putfield 42, 3) := by decide +kernel
theorem zk_204 : Cond.fieldLink RX7 42 RX7 "rules" "LDecisionArrays$Rules;" ∈ zz_w := zz_in (List.mem_append_right _ (List.mem_append_left _ (List.mem_of_getElem? (i := 204) (by decide +kernel)))) rfl
theorem zu_X7_42 : zz_fw RX7 42 6 4 true (.object "DecisionArrays$Rules") := ⟨RX7, TX7, 8, tyX7, rfl, zi_X7, by decide, zk_204, tyX7_ok, nmX7, rfl, by decide +kernel, fun _ => rfl⟩
theorem dX7_init_75 : decode cX7_init 75 = .ok (.aload_n 0, 1) := by decide +kernel
theorem dX7_init_76 : decode cX7_init 76 = .ok (.bipush 8, 2) := by decide +kernel
theorem dX7_init_78 : decode cX7_init 78 = .ok (.anewarray 46, 3) := by decide +kernel
theorem zk_198 : Cond.classLink RX7 46 zz_RM ∈ zz_w := zz_in (List.mem_append_right _ (List.mem_append_left _ (List.mem_of_getElem? (i := 198) (by decide +kernel)))) rfl
theorem dX7_init_81 : decode cX7_init 81 = .ok (.putfield 48, 3) := by decide +kernel
theorem zk_205 : Cond.fieldLink RX7 48 RX7 "marks" "[LDecisionArrays$Mark;" ∈ zz_w := zz_in (List.mem_append_right _ (List.mem_append_left _ (List.mem_of_getElem? (i := 205) (by decide +kernel)))) rfl
theorem zu_X7_48 : zz_fw RX7 48 6 5 true (.array (.object "DecisionArrays$Mark")) := ⟨RX7, TX7, 8, tyX7, rfl, zi_X7, by decide, zk_205, tyX7_ok, nmX7, rfl, by decide +kernel, fun _ => rfl⟩
theorem dX7_init_84 : decode cX7_init 84 = .ok (.aload_n 0, 1) := by decide +kernel
theorem dX7_init_85 : decode cX7_init 85 = .ok (.iconst 0, 1) := by decide +kernel
theorem dX7_init_86 : decode cX7_init 86 = .ok (.putfield 52, 3) := by decide +kernel
theorem zk_206 : Cond.fieldLink RX7 52 RX7 "marked" "I" ∈ zz_w := zz_in (List.mem_append_right _ (List.mem_append_left _ (List.mem_of_getElem? (i := 206) (by decide +kernel)))) rfl
theorem zu_X7_52 : zz_fw RX7 52 6 6 false .int := ⟨RX7, TX7, 8, tyX7, rfl, zi_X7, by decide, zk_206, tyX7_ok, nmX7, rfl, by decide +kernel, fun h => by cases h⟩
theorem dX7_init_89 : decode cX7_init 89 = .ok (.aload_n 0, 1) := by decide +kernel
theorem dX7_init_90 : decode cX7_init 90 = .ok (.iconst 0, 1) := by decide +kernel
theorem dX7_init_91 : decode cX7_init 91 = .ok (.putfield 56, 3) := by decide +kernel
theorem dX7_init_94 : decode cX7_init 94 = .ok (.return_, 1) := by decide +kernel
abbrev rm_ci_DA : Room := { frames := 2, cells := 30, slots := 12831, locals := 33 }
abbrev po_ci_DA (g : zz_G) (h0 : Nat) : va_W → Prop := fun (u : va_W) => ∃ (e1 : Nat) (e2 : Nat) (e3 : Nat) (e4 : Nat) (e5 : Nat) (e6 : Nat) (e7 : Nat) (e8 : Nat) (e9 : Nat) (e10 : Nat) (e11 : Nat) (e12 : Nat) (e13 : Nat) (e14 : Nat) (e15 : Nat) (e16 : Nat) (e17 : Nat) (e18 : Nat) (e19 : Nat) (e20 : Nat) (e21 : Nat) (e22 : Nat) (e23 : Nat) (e24 : Nat) (e25 : Nat) (e26 : Nat) (e27 : Nat) (e28 : Nat) (e29 : Nat) (e30 : Nat), u = [(h0, .inr (6, [.ref e1, .ref e10, .ref e12, .ref e16, .ref e22, .ref e30, .int 0, .int 0])), (e1, .inr (5, [.int 0, .int 0, .ref e2, .ref e3, .ref e4, .ref e5, .ref e6, .ref e7, .ref e8, .ref e9])), (e2, .inl (g.2.1, 60, .inl (fun _ => 0))), (e3, .inl (g.2.1, 60, .inl (fun _ => 0))), (e4, .inl (g.2.1, 60, .inl (fun _ => 0))), (e5, .inl (g.2.1, 60, .inl (fun _ => 0))), (e6, .inl (g.2.1, 60, .inl (fun _ => 0))), (e7, .inl (g.2.2.1, 4000, .inr (.inl (fun _ => 0)))), (e8, .inl (g.2.2.2.1, 4000, .inl (fun _ => 0))), (e9, .inl (g.2.2.1, 200, .inr (.inl (fun _ => 0)))), (e10, .inr (2, [.ref e1, .ref e11, .int 0, .int 0])), (e11, .inl (g.2.1, 4, .inl (fun _ => 0))), (e12, .inr (1, [.ref e1, .int 0, .ref e13, .ref e14, .ref e15])), (e13, .inl (g.2.1, 3600, .inl (fun _ => 0))), (e14, .inl (g.2.1, 60, .inl (fun _ => 0))), (e15, .inl (g.2.1, 60, .inl (fun _ => 0))), (e16, .inr (0, [.ref e1, .int 0, .ref e17, .ref e18, .ref e19, .ref e20, .ref e21])), (e17, .inl (g.2.1, 24, .inl (fun _ => 0))), (e18, .inl (g.2.1, 24, .inl (fun _ => 0))), (e19, .inl (g.2.1, 24, .inl (fun _ => 0))), (e20, .inl (g.2.2.1, 384, .inr (.inl (fun _ => 0)))), (e21, .inl (g.2.1, 24, .inl (fun _ => 0))), (e22, .inr (4, [.ref e1, .int 0, .ref e23, .ref e24, .ref e25, .ref e26, .ref e27, .ref e28, .ref e29])), (e23, .inl (g.2.1, 12, .inl (fun _ => 0))), (e24, .inl (g.2.1, 12, .inl (fun _ => 0))), (e25, .inl (g.2.1, 12, .inl (fun _ => 0))), (e26, .inl (g.2.2.1, 12, .inr (.inl (fun _ => 0)))), (e27, .inl (g.2.2.1, 12, .inr (.inl (fun _ => 0)))), (e28, .inl (g.2.2.1, 12, .inr (.inl (fun _ => 0)))), (e29, .inl (g.2.2.1, 12, .inr (.inl (fun _ => 0)))), (e30, .inl (g.2.2.2.2, 8, .inr (.inr (.inr (.inr (fun _ => none))))))]
set_option maxHeartbeats 4000000 in
set_option maxRecDepth 100000 in
theorem ci_DA (g : zz_G) (h0 : Nat) : zz_V g yX7_init (.code yX7_init cX7_init 1 none) rm_ci_DA [.ref h0] [(h0, .inr (6, [.null, .null, .null, .null, .null, .null, .int 0, .int 0]))] (po_ci_DA g h0) := by
  refine zz_V.intro (own := RX7) (cc := cX7_init) (nL := 1) (by decide) rfl (Nat.le_of_ble_eq_true rfl) ?_
  intro p l e s m args below meth c A H locs ls hC hnm hZ hl
  obtain ⟨hx, hb, hml, hown, hts, hr, hlocks, hK⟩ := id hC
  have hl : lv_has ls 1 [(0, .ref h0)] := hl
  have hZ : zz_Z g A s.heap [(h0, .inr (6, [.null, .null, .null, .null, .null, .null, .int 0, .int 0]))] H locs := hZ
  refine lv_aload_n hx hb dX7_init_0 rfl (lv_at hl 0 rfl) ?_
  refine zz_obj hC hl zk_17 zk_18 zk_19 (Nat.le_of_ble_eq_true rfl) (Nat.le_of_ble_eq_true rfl) dX7_init_1 ?_
  refine lv_aload_n hx hb dX7_init_4 rfl (lv_at hl 0 rfl) ?_
  refine zz_new hC hZ zn_X7_7 (Nat.le_of_ble_eq_true rfl) (Nat.le_of_ble_eq_true rfl) dX7_init_5 (fun q1 H hZ => ?_)
  have hZ : zz_Z g A s.heap [(h0, .inr (6, [.null, .null, .null, .null, .null, .null, .int 0, .int 0])), (q1, .inr (5, [.int 0, .int 0, .null, .null, .null, .null, .null, .null, .null, .null]))] H locs := hZ
  refine lv_dup hx hb dX7_init_8 rfl ?_
  refine zz_vN (As := []) (wc := [(q1, .inr (5, [.int 0, .int 0, .null, .null, .null, .null, .null, .null, .null, .null]))]) (wr := [(h0, .inr (6, [.null, .null, .null, .null, .null, .null, .int 0, .int 0]))]) (rest := [.ref q1, .ref h0]) hC hZ hl zc_X7_9 (ci_Store g q1) [1] [0] rfl rfl (by decide) rfl rfl (Nat.le_of_ble_eq_true rfl) ⟨⟨Nat.le_of_ble_eq_true rfl, Nat.le_of_ble_eq_true rfl⟩, Nat.le_of_ble_eq_true rfl, Nat.le_of_ble_eq_true rfl⟩ dX7_init_9 (fun u3 H locs hp hZ => ?_)
  obtain ⟨e1_4, e2_5, e3_6, e4_7, e5_8, e6_9, e7_10, e8_11, rfl⟩ := hp
  have hZ : zz_Z g A s.heap [(h0, .inr (6, [.null, .null, .null, .null, .null, .null, .int 0, .int 0])), (q1, .inr (5, [.int 0, .int 0, .ref e1_4, .ref e2_5, .ref e3_6, .ref e4_7, .ref e5_8, .ref e6_9, .ref e7_10, .ref e8_11])), (e1_4, .inl (g.2.1, 60, .inl (fun _ => 0))), (e2_5, .inl (g.2.1, 60, .inl (fun _ => 0))), (e3_6, .inl (g.2.1, 60, .inl (fun _ => 0))), (e4_7, .inl (g.2.1, 60, .inl (fun _ => 0))), (e5_8, .inl (g.2.1, 60, .inl (fun _ => 0))), (e6_9, .inl (g.2.2.1, 4000, .inr (.inl (fun _ => 0)))), (e7_10, .inl (g.2.2.2.1, 4000, .inl (fun _ => 0))), (e8_11, .inl (g.2.2.1, 200, .inr (.inl (fun _ => 0))))] H locs := hZ
  refine zz_putF hC hnm hZ 0 rfl zu_X7_10 rfl rfl (Nat.le_of_ble_eq_true rfl) dX7_init_12 (fun H locs hZ => ?_)
  have hZ : zz_Z g A s.heap [(h0, .inr (6, [.ref q1, .null, .null, .null, .null, .null, .int 0, .int 0])), (q1, .inr (5, [.int 0, .int 0, .ref e1_4, .ref e2_5, .ref e3_6, .ref e4_7, .ref e5_8, .ref e6_9, .ref e7_10, .ref e8_11])), (e1_4, .inl (g.2.1, 60, .inl (fun _ => 0))), (e2_5, .inl (g.2.1, 60, .inl (fun _ => 0))), (e3_6, .inl (g.2.1, 60, .inl (fun _ => 0))), (e4_7, .inl (g.2.1, 60, .inl (fun _ => 0))), (e5_8, .inl (g.2.1, 60, .inl (fun _ => 0))), (e6_9, .inl (g.2.2.1, 4000, .inr (.inl (fun _ => 0)))), (e7_10, .inl (g.2.2.2.1, 4000, .inl (fun _ => 0))), (e8_11, .inl (g.2.2.1, 200, .inr (.inl (fun _ => 0))))] H locs := hZ
  refine lv_aload_n hx hb dX7_init_15 rfl (lv_at hl 0 rfl) ?_
  refine zz_new hC hZ zn_X7_16 (Nat.le_of_ble_eq_true rfl) (Nat.le_of_ble_eq_true rfl) dX7_init_16 (fun q12 H hZ => ?_)
  have hZ : zz_Z g A s.heap [(h0, .inr (6, [.ref q1, .null, .null, .null, .null, .null, .int 0, .int 0])), (q1, .inr (5, [.int 0, .int 0, .ref e1_4, .ref e2_5, .ref e3_6, .ref e4_7, .ref e5_8, .ref e6_9, .ref e7_10, .ref e8_11])), (e1_4, .inl (g.2.1, 60, .inl (fun _ => 0))), (e2_5, .inl (g.2.1, 60, .inl (fun _ => 0))), (e3_6, .inl (g.2.1, 60, .inl (fun _ => 0))), (e4_7, .inl (g.2.1, 60, .inl (fun _ => 0))), (e5_8, .inl (g.2.1, 60, .inl (fun _ => 0))), (e6_9, .inl (g.2.2.1, 4000, .inr (.inl (fun _ => 0)))), (e7_10, .inl (g.2.2.2.1, 4000, .inl (fun _ => 0))), (e8_11, .inl (g.2.2.1, 200, .inr (.inl (fun _ => 0)))), (q12, .inr (2, [.null, .null, .int 0, .int 0]))] H locs := hZ
  refine lv_dup hx hb dX7_init_19 rfl ?_
  refine lv_aload_n hx hb dX7_init_20 rfl (lv_at hl 0 rfl) ?_
  refine zz_get hC hZ 0 rfl zf_X7_10 rfl dX7_init_21 ?_
  refine zz_vI (As := [.ref q1]) (wc := [(q12, .inr (2, [.null, .null, .int 0, .int 0]))]) (wr := [(h0, .inr (6, [.ref q1, .null, .null, .null, .null, .null, .int 0, .int 0])), (q1, .inr (5, [.int 0, .int 0, .ref e1_4, .ref e2_5, .ref e3_6, .ref e4_7, .ref e5_8, .ref e6_9, .ref e7_10, .ref e8_11])), (e1_4, .inl (g.2.1, 60, .inl (fun _ => 0))), (e2_5, .inl (g.2.1, 60, .inl (fun _ => 0))), (e3_6, .inl (g.2.1, 60, .inl (fun _ => 0))), (e4_7, .inl (g.2.1, 60, .inl (fun _ => 0))), (e5_8, .inl (g.2.1, 60, .inl (fun _ => 0))), (e6_9, .inl (g.2.2.1, 4000, .inr (.inl (fun _ => 0)))), (e7_10, .inl (g.2.2.2.1, 4000, .inl (fun _ => 0))), (e8_11, .inl (g.2.2.1, 200, .inr (.inl (fun _ => 0))))]) (rest := [.ref q12, .ref h0]) hC hZ hl zc_X7_18 (ci_Maker g q12 q1) [10] [0, 1, 2, 3, 4, 5, 6, 7, 8, 9] rfl rfl (by decide) rfl rfl (Nat.le_of_ble_eq_true rfl) ⟨⟨Nat.le_of_ble_eq_true rfl, Nat.le_of_ble_eq_true rfl⟩, Nat.le_of_ble_eq_true rfl, Nat.le_of_ble_eq_true rfl⟩ dX7_init_24 (fun u14 H locs hp hZ => ?_)
  obtain ⟨e1_15, rfl⟩ := hp
  have hZ : zz_Z g A s.heap [(h0, .inr (6, [.ref q1, .null, .null, .null, .null, .null, .int 0, .int 0])), (q1, .inr (5, [.int 0, .int 0, .ref e1_4, .ref e2_5, .ref e3_6, .ref e4_7, .ref e5_8, .ref e6_9, .ref e7_10, .ref e8_11])), (e1_4, .inl (g.2.1, 60, .inl (fun _ => 0))), (e2_5, .inl (g.2.1, 60, .inl (fun _ => 0))), (e3_6, .inl (g.2.1, 60, .inl (fun _ => 0))), (e4_7, .inl (g.2.1, 60, .inl (fun _ => 0))), (e5_8, .inl (g.2.1, 60, .inl (fun _ => 0))), (e6_9, .inl (g.2.2.1, 4000, .inr (.inl (fun _ => 0)))), (e7_10, .inl (g.2.2.2.1, 4000, .inl (fun _ => 0))), (e8_11, .inl (g.2.2.1, 200, .inr (.inl (fun _ => 0)))), (q12, .inr (2, [.ref q1, .ref e1_15, .int 0, .int 0])), (e1_15, .inl (g.2.1, 4, .inl (fun _ => 0)))] H locs := hZ
  refine zz_putF hC hnm hZ 0 rfl zu_X7_21 rfl rfl (Nat.le_of_ble_eq_true rfl) dX7_init_27 (fun H locs hZ => ?_)
  have hZ : zz_Z g A s.heap [(h0, .inr (6, [.ref q1, .ref q12, .null, .null, .null, .null, .int 0, .int 0])), (q1, .inr (5, [.int 0, .int 0, .ref e1_4, .ref e2_5, .ref e3_6, .ref e4_7, .ref e5_8, .ref e6_9, .ref e7_10, .ref e8_11])), (e1_4, .inl (g.2.1, 60, .inl (fun _ => 0))), (e2_5, .inl (g.2.1, 60, .inl (fun _ => 0))), (e3_6, .inl (g.2.1, 60, .inl (fun _ => 0))), (e4_7, .inl (g.2.1, 60, .inl (fun _ => 0))), (e5_8, .inl (g.2.1, 60, .inl (fun _ => 0))), (e6_9, .inl (g.2.2.1, 4000, .inr (.inl (fun _ => 0)))), (e7_10, .inl (g.2.2.2.1, 4000, .inl (fun _ => 0))), (e8_11, .inl (g.2.2.1, 200, .inr (.inl (fun _ => 0)))), (q12, .inr (2, [.ref q1, .ref e1_15, .int 0, .int 0])), (e1_15, .inl (g.2.1, 4, .inl (fun _ => 0)))] H locs := hZ
  refine lv_aload_n hx hb dX7_init_30 rfl (lv_at hl 0 rfl) ?_
  refine zz_new hC hZ zn_X7_25 (Nat.le_of_ble_eq_true rfl) (Nat.le_of_ble_eq_true rfl) dX7_init_31 (fun q16 H hZ => ?_)
  have hZ : zz_Z g A s.heap [(h0, .inr (6, [.ref q1, .ref q12, .null, .null, .null, .null, .int 0, .int 0])), (q1, .inr (5, [.int 0, .int 0, .ref e1_4, .ref e2_5, .ref e3_6, .ref e4_7, .ref e5_8, .ref e6_9, .ref e7_10, .ref e8_11])), (e1_4, .inl (g.2.1, 60, .inl (fun _ => 0))), (e2_5, .inl (g.2.1, 60, .inl (fun _ => 0))), (e3_6, .inl (g.2.1, 60, .inl (fun _ => 0))), (e4_7, .inl (g.2.1, 60, .inl (fun _ => 0))), (e5_8, .inl (g.2.1, 60, .inl (fun _ => 0))), (e6_9, .inl (g.2.2.1, 4000, .inr (.inl (fun _ => 0)))), (e7_10, .inl (g.2.2.2.1, 4000, .inl (fun _ => 0))), (e8_11, .inl (g.2.2.1, 200, .inr (.inl (fun _ => 0)))), (q12, .inr (2, [.ref q1, .ref e1_15, .int 0, .int 0])), (e1_15, .inl (g.2.1, 4, .inl (fun _ => 0))), (q16, .inr (1, [.null, .int 0, .null, .null, .null]))] H locs := hZ
  refine lv_dup hx hb dX7_init_34 rfl ?_
  refine lv_aload_n hx hb dX7_init_35 rfl (lv_at hl 0 rfl) ?_
  refine zz_get hC hZ 0 rfl zf_X7_10 rfl dX7_init_36 ?_
  refine zz_vI (As := [.ref q1]) (wc := [(q16, .inr (1, [.null, .int 0, .null, .null, .null]))]) (wr := [(h0, .inr (6, [.ref q1, .ref q12, .null, .null, .null, .null, .int 0, .int 0])), (q1, .inr (5, [.int 0, .int 0, .ref e1_4, .ref e2_5, .ref e3_6, .ref e4_7, .ref e5_8, .ref e6_9, .ref e7_10, .ref e8_11])), (e1_4, .inl (g.2.1, 60, .inl (fun _ => 0))), (e2_5, .inl (g.2.1, 60, .inl (fun _ => 0))), (e3_6, .inl (g.2.1, 60, .inl (fun _ => 0))), (e4_7, .inl (g.2.1, 60, .inl (fun _ => 0))), (e5_8, .inl (g.2.1, 60, .inl (fun _ => 0))), (e6_9, .inl (g.2.2.1, 4000, .inr (.inl (fun _ => 0)))), (e7_10, .inl (g.2.2.2.1, 4000, .inl (fun _ => 0))), (e8_11, .inl (g.2.2.1, 200, .inr (.inl (fun _ => 0)))), (q12, .inr (2, [.ref q1, .ref e1_15, .int 0, .int 0])), (e1_15, .inl (g.2.1, 4, .inl (fun _ => 0)))]) (rest := [.ref q16, .ref h0]) hC hZ hl zc_X7_27 (ci_Likeness g q16 q1) [12] [0, 1, 2, 3, 4, 5, 6, 7, 8, 9, 10, 11] rfl rfl (by decide) rfl rfl (Nat.le_of_ble_eq_true rfl) ⟨⟨Nat.le_of_ble_eq_true rfl, Nat.le_of_ble_eq_true rfl⟩, Nat.le_of_ble_eq_true rfl, Nat.le_of_ble_eq_true rfl⟩ dX7_init_39 (fun u18 H locs hp hZ => ?_)
  obtain ⟨e1_19, e2_20, e3_21, rfl⟩ := hp
  have hZ : zz_Z g A s.heap [(h0, .inr (6, [.ref q1, .ref q12, .null, .null, .null, .null, .int 0, .int 0])), (q1, .inr (5, [.int 0, .int 0, .ref e1_4, .ref e2_5, .ref e3_6, .ref e4_7, .ref e5_8, .ref e6_9, .ref e7_10, .ref e8_11])), (e1_4, .inl (g.2.1, 60, .inl (fun _ => 0))), (e2_5, .inl (g.2.1, 60, .inl (fun _ => 0))), (e3_6, .inl (g.2.1, 60, .inl (fun _ => 0))), (e4_7, .inl (g.2.1, 60, .inl (fun _ => 0))), (e5_8, .inl (g.2.1, 60, .inl (fun _ => 0))), (e6_9, .inl (g.2.2.1, 4000, .inr (.inl (fun _ => 0)))), (e7_10, .inl (g.2.2.2.1, 4000, .inl (fun _ => 0))), (e8_11, .inl (g.2.2.1, 200, .inr (.inl (fun _ => 0)))), (q12, .inr (2, [.ref q1, .ref e1_15, .int 0, .int 0])), (e1_15, .inl (g.2.1, 4, .inl (fun _ => 0))), (q16, .inr (1, [.ref q1, .int 0, .ref e1_19, .ref e2_20, .ref e3_21])), (e1_19, .inl (g.2.1, 3600, .inl (fun _ => 0))), (e2_20, .inl (g.2.1, 60, .inl (fun _ => 0))), (e3_21, .inl (g.2.1, 60, .inl (fun _ => 0)))] H locs := hZ
  refine zz_putF hC hnm hZ 0 rfl zu_X7_28 rfl rfl (Nat.le_of_ble_eq_true rfl) dX7_init_42 (fun H locs hZ => ?_)
  have hZ : zz_Z g A s.heap [(h0, .inr (6, [.ref q1, .ref q12, .ref q16, .null, .null, .null, .int 0, .int 0])), (q1, .inr (5, [.int 0, .int 0, .ref e1_4, .ref e2_5, .ref e3_6, .ref e4_7, .ref e5_8, .ref e6_9, .ref e7_10, .ref e8_11])), (e1_4, .inl (g.2.1, 60, .inl (fun _ => 0))), (e2_5, .inl (g.2.1, 60, .inl (fun _ => 0))), (e3_6, .inl (g.2.1, 60, .inl (fun _ => 0))), (e4_7, .inl (g.2.1, 60, .inl (fun _ => 0))), (e5_8, .inl (g.2.1, 60, .inl (fun _ => 0))), (e6_9, .inl (g.2.2.1, 4000, .inr (.inl (fun _ => 0)))), (e7_10, .inl (g.2.2.2.1, 4000, .inl (fun _ => 0))), (e8_11, .inl (g.2.2.1, 200, .inr (.inl (fun _ => 0)))), (q12, .inr (2, [.ref q1, .ref e1_15, .int 0, .int 0])), (e1_15, .inl (g.2.1, 4, .inl (fun _ => 0))), (q16, .inr (1, [.ref q1, .int 0, .ref e1_19, .ref e2_20, .ref e3_21])), (e1_19, .inl (g.2.1, 3600, .inl (fun _ => 0))), (e2_20, .inl (g.2.1, 60, .inl (fun _ => 0))), (e3_21, .inl (g.2.1, 60, .inl (fun _ => 0)))] H locs := hZ
  refine lv_aload_n hx hb dX7_init_45 rfl (lv_at hl 0 rfl) ?_
  refine zz_new hC hZ zn_X7_32 (Nat.le_of_ble_eq_true rfl) (Nat.le_of_ble_eq_true rfl) dX7_init_46 (fun q22 H hZ => ?_)
  have hZ : zz_Z g A s.heap [(h0, .inr (6, [.ref q1, .ref q12, .ref q16, .null, .null, .null, .int 0, .int 0])), (q1, .inr (5, [.int 0, .int 0, .ref e1_4, .ref e2_5, .ref e3_6, .ref e4_7, .ref e5_8, .ref e6_9, .ref e7_10, .ref e8_11])), (e1_4, .inl (g.2.1, 60, .inl (fun _ => 0))), (e2_5, .inl (g.2.1, 60, .inl (fun _ => 0))), (e3_6, .inl (g.2.1, 60, .inl (fun _ => 0))), (e4_7, .inl (g.2.1, 60, .inl (fun _ => 0))), (e5_8, .inl (g.2.1, 60, .inl (fun _ => 0))), (e6_9, .inl (g.2.2.1, 4000, .inr (.inl (fun _ => 0)))), (e7_10, .inl (g.2.2.2.1, 4000, .inl (fun _ => 0))), (e8_11, .inl (g.2.2.1, 200, .inr (.inl (fun _ => 0)))), (q12, .inr (2, [.ref q1, .ref e1_15, .int 0, .int 0])), (e1_15, .inl (g.2.1, 4, .inl (fun _ => 0))), (q16, .inr (1, [.ref q1, .int 0, .ref e1_19, .ref e2_20, .ref e3_21])), (e1_19, .inl (g.2.1, 3600, .inl (fun _ => 0))), (e2_20, .inl (g.2.1, 60, .inl (fun _ => 0))), (e3_21, .inl (g.2.1, 60, .inl (fun _ => 0))), (q22, .inr (0, [.null, .int 0, .null, .null, .null, .null, .null]))] H locs := hZ
  refine lv_dup hx hb dX7_init_49 rfl ?_
  refine lv_aload_n hx hb dX7_init_50 rfl (lv_at hl 0 rfl) ?_
  refine zz_get hC hZ 0 rfl zf_X7_10 rfl dX7_init_51 ?_
  refine zz_vI (As := [.ref q1]) (wc := [(q22, .inr (0, [.null, .int 0, .null, .null, .null, .null, .null]))]) (wr := [(h0, .inr (6, [.ref q1, .ref q12, .ref q16, .null, .null, .null, .int 0, .int 0])), (q1, .inr (5, [.int 0, .int 0, .ref e1_4, .ref e2_5, .ref e3_6, .ref e4_7, .ref e5_8, .ref e6_9, .ref e7_10, .ref e8_11])), (e1_4, .inl (g.2.1, 60, .inl (fun _ => 0))), (e2_5, .inl (g.2.1, 60, .inl (fun _ => 0))), (e3_6, .inl (g.2.1, 60, .inl (fun _ => 0))), (e4_7, .inl (g.2.1, 60, .inl (fun _ => 0))), (e5_8, .inl (g.2.1, 60, .inl (fun _ => 0))), (e6_9, .inl (g.2.2.1, 4000, .inr (.inl (fun _ => 0)))), (e7_10, .inl (g.2.2.2.1, 4000, .inl (fun _ => 0))), (e8_11, .inl (g.2.2.1, 200, .inr (.inl (fun _ => 0)))), (q12, .inr (2, [.ref q1, .ref e1_15, .int 0, .int 0])), (e1_15, .inl (g.2.1, 4, .inl (fun _ => 0))), (q16, .inr (1, [.ref q1, .int 0, .ref e1_19, .ref e2_20, .ref e3_21])), (e1_19, .inl (g.2.1, 3600, .inl (fun _ => 0))), (e2_20, .inl (g.2.1, 60, .inl (fun _ => 0))), (e3_21, .inl (g.2.1, 60, .inl (fun _ => 0)))]) (rest := [.ref q22, .ref h0]) hC hZ hl zc_X7_34 (ci_Choices g q22 q1) [16] [0, 1, 2, 3, 4, 5, 6, 7, 8, 9, 10, 11, 12, 13, 14, 15] rfl rfl (by decide) rfl rfl (Nat.le_of_ble_eq_true rfl) ⟨⟨Nat.le_of_ble_eq_true rfl, Nat.le_of_ble_eq_true rfl⟩, Nat.le_of_ble_eq_true rfl, Nat.le_of_ble_eq_true rfl⟩ dX7_init_54 (fun u24 H locs hp hZ => ?_)
  obtain ⟨e1_25, e2_26, e3_27, e4_28, e5_29, rfl⟩ := hp
  have hZ : zz_Z g A s.heap [(h0, .inr (6, [.ref q1, .ref q12, .ref q16, .null, .null, .null, .int 0, .int 0])), (q1, .inr (5, [.int 0, .int 0, .ref e1_4, .ref e2_5, .ref e3_6, .ref e4_7, .ref e5_8, .ref e6_9, .ref e7_10, .ref e8_11])), (e1_4, .inl (g.2.1, 60, .inl (fun _ => 0))), (e2_5, .inl (g.2.1, 60, .inl (fun _ => 0))), (e3_6, .inl (g.2.1, 60, .inl (fun _ => 0))), (e4_7, .inl (g.2.1, 60, .inl (fun _ => 0))), (e5_8, .inl (g.2.1, 60, .inl (fun _ => 0))), (e6_9, .inl (g.2.2.1, 4000, .inr (.inl (fun _ => 0)))), (e7_10, .inl (g.2.2.2.1, 4000, .inl (fun _ => 0))), (e8_11, .inl (g.2.2.1, 200, .inr (.inl (fun _ => 0)))), (q12, .inr (2, [.ref q1, .ref e1_15, .int 0, .int 0])), (e1_15, .inl (g.2.1, 4, .inl (fun _ => 0))), (q16, .inr (1, [.ref q1, .int 0, .ref e1_19, .ref e2_20, .ref e3_21])), (e1_19, .inl (g.2.1, 3600, .inl (fun _ => 0))), (e2_20, .inl (g.2.1, 60, .inl (fun _ => 0))), (e3_21, .inl (g.2.1, 60, .inl (fun _ => 0))), (q22, .inr (0, [.ref q1, .int 0, .ref e1_25, .ref e2_26, .ref e3_27, .ref e4_28, .ref e5_29])), (e1_25, .inl (g.2.1, 24, .inl (fun _ => 0))), (e2_26, .inl (g.2.1, 24, .inl (fun _ => 0))), (e3_27, .inl (g.2.1, 24, .inl (fun _ => 0))), (e4_28, .inl (g.2.2.1, 384, .inr (.inl (fun _ => 0)))), (e5_29, .inl (g.2.1, 24, .inl (fun _ => 0)))] H locs := hZ
  refine zz_putF hC hnm hZ 0 rfl zu_X7_35 rfl rfl (Nat.le_of_ble_eq_true rfl) dX7_init_57 (fun H locs hZ => ?_)
  have hZ : zz_Z g A s.heap [(h0, .inr (6, [.ref q1, .ref q12, .ref q16, .ref q22, .null, .null, .int 0, .int 0])), (q1, .inr (5, [.int 0, .int 0, .ref e1_4, .ref e2_5, .ref e3_6, .ref e4_7, .ref e5_8, .ref e6_9, .ref e7_10, .ref e8_11])), (e1_4, .inl (g.2.1, 60, .inl (fun _ => 0))), (e2_5, .inl (g.2.1, 60, .inl (fun _ => 0))), (e3_6, .inl (g.2.1, 60, .inl (fun _ => 0))), (e4_7, .inl (g.2.1, 60, .inl (fun _ => 0))), (e5_8, .inl (g.2.1, 60, .inl (fun _ => 0))), (e6_9, .inl (g.2.2.1, 4000, .inr (.inl (fun _ => 0)))), (e7_10, .inl (g.2.2.2.1, 4000, .inl (fun _ => 0))), (e8_11, .inl (g.2.2.1, 200, .inr (.inl (fun _ => 0)))), (q12, .inr (2, [.ref q1, .ref e1_15, .int 0, .int 0])), (e1_15, .inl (g.2.1, 4, .inl (fun _ => 0))), (q16, .inr (1, [.ref q1, .int 0, .ref e1_19, .ref e2_20, .ref e3_21])), (e1_19, .inl (g.2.1, 3600, .inl (fun _ => 0))), (e2_20, .inl (g.2.1, 60, .inl (fun _ => 0))), (e3_21, .inl (g.2.1, 60, .inl (fun _ => 0))), (q22, .inr (0, [.ref q1, .int 0, .ref e1_25, .ref e2_26, .ref e3_27, .ref e4_28, .ref e5_29])), (e1_25, .inl (g.2.1, 24, .inl (fun _ => 0))), (e2_26, .inl (g.2.1, 24, .inl (fun _ => 0))), (e3_27, .inl (g.2.1, 24, .inl (fun _ => 0))), (e4_28, .inl (g.2.2.1, 384, .inr (.inl (fun _ => 0)))), (e5_29, .inl (g.2.1, 24, .inl (fun _ => 0)))] H locs := hZ
  refine lv_aload_n hx hb dX7_init_60 rfl (lv_at hl 0 rfl) ?_
  refine zz_new hC hZ zn_X7_39 (Nat.le_of_ble_eq_true rfl) (Nat.le_of_ble_eq_true rfl) dX7_init_61 (fun q30 H hZ => ?_)
  have hZ : zz_Z g A s.heap [(h0, .inr (6, [.ref q1, .ref q12, .ref q16, .ref q22, .null, .null, .int 0, .int 0])), (q1, .inr (5, [.int 0, .int 0, .ref e1_4, .ref e2_5, .ref e3_6, .ref e4_7, .ref e5_8, .ref e6_9, .ref e7_10, .ref e8_11])), (e1_4, .inl (g.2.1, 60, .inl (fun _ => 0))), (e2_5, .inl (g.2.1, 60, .inl (fun _ => 0))), (e3_6, .inl (g.2.1, 60, .inl (fun _ => 0))), (e4_7, .inl (g.2.1, 60, .inl (fun _ => 0))), (e5_8, .inl (g.2.1, 60, .inl (fun _ => 0))), (e6_9, .inl (g.2.2.1, 4000, .inr (.inl (fun _ => 0)))), (e7_10, .inl (g.2.2.2.1, 4000, .inl (fun _ => 0))), (e8_11, .inl (g.2.2.1, 200, .inr (.inl (fun _ => 0)))), (q12, .inr (2, [.ref q1, .ref e1_15, .int 0, .int 0])), (e1_15, .inl (g.2.1, 4, .inl (fun _ => 0))), (q16, .inr (1, [.ref q1, .int 0, .ref e1_19, .ref e2_20, .ref e3_21])), (e1_19, .inl (g.2.1, 3600, .inl (fun _ => 0))), (e2_20, .inl (g.2.1, 60, .inl (fun _ => 0))), (e3_21, .inl (g.2.1, 60, .inl (fun _ => 0))), (q22, .inr (0, [.ref q1, .int 0, .ref e1_25, .ref e2_26, .ref e3_27, .ref e4_28, .ref e5_29])), (e1_25, .inl (g.2.1, 24, .inl (fun _ => 0))), (e2_26, .inl (g.2.1, 24, .inl (fun _ => 0))), (e3_27, .inl (g.2.1, 24, .inl (fun _ => 0))), (e4_28, .inl (g.2.2.1, 384, .inr (.inl (fun _ => 0)))), (e5_29, .inl (g.2.1, 24, .inl (fun _ => 0))), (q30, .inr (4, [.null, .int 0, .null, .null, .null, .null, .null, .null, .null]))] H locs := hZ
  refine lv_dup hx hb dX7_init_64 rfl ?_
  refine lv_aload_n hx hb dX7_init_65 rfl (lv_at hl 0 rfl) ?_
  refine zz_get hC hZ 0 rfl zf_X7_10 rfl dX7_init_66 ?_
  refine zz_vI (As := [.ref q1]) (wc := [(q30, .inr (4, [.null, .int 0, .null, .null, .null, .null, .null, .null, .null]))]) (wr := [(h0, .inr (6, [.ref q1, .ref q12, .ref q16, .ref q22, .null, .null, .int 0, .int 0])), (q1, .inr (5, [.int 0, .int 0, .ref e1_4, .ref e2_5, .ref e3_6, .ref e4_7, .ref e5_8, .ref e6_9, .ref e7_10, .ref e8_11])), (e1_4, .inl (g.2.1, 60, .inl (fun _ => 0))), (e2_5, .inl (g.2.1, 60, .inl (fun _ => 0))), (e3_6, .inl (g.2.1, 60, .inl (fun _ => 0))), (e4_7, .inl (g.2.1, 60, .inl (fun _ => 0))), (e5_8, .inl (g.2.1, 60, .inl (fun _ => 0))), (e6_9, .inl (g.2.2.1, 4000, .inr (.inl (fun _ => 0)))), (e7_10, .inl (g.2.2.2.1, 4000, .inl (fun _ => 0))), (e8_11, .inl (g.2.2.1, 200, .inr (.inl (fun _ => 0)))), (q12, .inr (2, [.ref q1, .ref e1_15, .int 0, .int 0])), (e1_15, .inl (g.2.1, 4, .inl (fun _ => 0))), (q16, .inr (1, [.ref q1, .int 0, .ref e1_19, .ref e2_20, .ref e3_21])), (e1_19, .inl (g.2.1, 3600, .inl (fun _ => 0))), (e2_20, .inl (g.2.1, 60, .inl (fun _ => 0))), (e3_21, .inl (g.2.1, 60, .inl (fun _ => 0))), (q22, .inr (0, [.ref q1, .int 0, .ref e1_25, .ref e2_26, .ref e3_27, .ref e4_28, .ref e5_29])), (e1_25, .inl (g.2.1, 24, .inl (fun _ => 0))), (e2_26, .inl (g.2.1, 24, .inl (fun _ => 0))), (e3_27, .inl (g.2.1, 24, .inl (fun _ => 0))), (e4_28, .inl (g.2.2.1, 384, .inr (.inl (fun _ => 0)))), (e5_29, .inl (g.2.1, 24, .inl (fun _ => 0)))]) (rest := [.ref q30, .ref h0]) hC hZ hl zc_X7_41 (ci_Rules g q30 q1) [22] [0, 1, 2, 3, 4, 5, 6, 7, 8, 9, 10, 11, 12, 13, 14, 15, 16, 17, 18, 19, 20, 21] rfl rfl (by decide) rfl rfl (Nat.le_of_ble_eq_true rfl) ⟨⟨Nat.le_of_ble_eq_true rfl, Nat.le_of_ble_eq_true rfl⟩, Nat.le_of_ble_eq_true rfl, Nat.le_of_ble_eq_true rfl⟩ dX7_init_69 (fun u32 H locs hp hZ => ?_)
  obtain ⟨e1_33, e2_34, e3_35, e4_36, e5_37, e6_38, e7_39, rfl⟩ := hp
  have hZ : zz_Z g A s.heap [(h0, .inr (6, [.ref q1, .ref q12, .ref q16, .ref q22, .null, .null, .int 0, .int 0])), (q1, .inr (5, [.int 0, .int 0, .ref e1_4, .ref e2_5, .ref e3_6, .ref e4_7, .ref e5_8, .ref e6_9, .ref e7_10, .ref e8_11])), (e1_4, .inl (g.2.1, 60, .inl (fun _ => 0))), (e2_5, .inl (g.2.1, 60, .inl (fun _ => 0))), (e3_6, .inl (g.2.1, 60, .inl (fun _ => 0))), (e4_7, .inl (g.2.1, 60, .inl (fun _ => 0))), (e5_8, .inl (g.2.1, 60, .inl (fun _ => 0))), (e6_9, .inl (g.2.2.1, 4000, .inr (.inl (fun _ => 0)))), (e7_10, .inl (g.2.2.2.1, 4000, .inl (fun _ => 0))), (e8_11, .inl (g.2.2.1, 200, .inr (.inl (fun _ => 0)))), (q12, .inr (2, [.ref q1, .ref e1_15, .int 0, .int 0])), (e1_15, .inl (g.2.1, 4, .inl (fun _ => 0))), (q16, .inr (1, [.ref q1, .int 0, .ref e1_19, .ref e2_20, .ref e3_21])), (e1_19, .inl (g.2.1, 3600, .inl (fun _ => 0))), (e2_20, .inl (g.2.1, 60, .inl (fun _ => 0))), (e3_21, .inl (g.2.1, 60, .inl (fun _ => 0))), (q22, .inr (0, [.ref q1, .int 0, .ref e1_25, .ref e2_26, .ref e3_27, .ref e4_28, .ref e5_29])), (e1_25, .inl (g.2.1, 24, .inl (fun _ => 0))), (e2_26, .inl (g.2.1, 24, .inl (fun _ => 0))), (e3_27, .inl (g.2.1, 24, .inl (fun _ => 0))), (e4_28, .inl (g.2.2.1, 384, .inr (.inl (fun _ => 0)))), (e5_29, .inl (g.2.1, 24, .inl (fun _ => 0))), (q30, .inr (4, [.ref q1, .int 0, .ref e1_33, .ref e2_34, .ref e3_35, .ref e4_36, .ref e5_37, .ref e6_38, .ref e7_39])), (e1_33, .inl (g.2.1, 12, .inl (fun _ => 0))), (e2_34, .inl (g.2.1, 12, .inl (fun _ => 0))), (e3_35, .inl (g.2.1, 12, .inl (fun _ => 0))), (e4_36, .inl (g.2.2.1, 12, .inr (.inl (fun _ => 0)))), (e5_37, .inl (g.2.2.1, 12, .inr (.inl (fun _ => 0)))), (e6_38, .inl (g.2.2.1, 12, .inr (.inl (fun _ => 0)))), (e7_39, .inl (g.2.2.1, 12, .inr (.inl (fun _ => 0))))] H locs := hZ
  refine zz_putF hC hnm hZ 0 rfl zu_X7_42 rfl rfl (Nat.le_of_ble_eq_true rfl) dX7_init_72 (fun H locs hZ => ?_)
  have hZ : zz_Z g A s.heap [(h0, .inr (6, [.ref q1, .ref q12, .ref q16, .ref q22, .ref q30, .null, .int 0, .int 0])), (q1, .inr (5, [.int 0, .int 0, .ref e1_4, .ref e2_5, .ref e3_6, .ref e4_7, .ref e5_8, .ref e6_9, .ref e7_10, .ref e8_11])), (e1_4, .inl (g.2.1, 60, .inl (fun _ => 0))), (e2_5, .inl (g.2.1, 60, .inl (fun _ => 0))), (e3_6, .inl (g.2.1, 60, .inl (fun _ => 0))), (e4_7, .inl (g.2.1, 60, .inl (fun _ => 0))), (e5_8, .inl (g.2.1, 60, .inl (fun _ => 0))), (e6_9, .inl (g.2.2.1, 4000, .inr (.inl (fun _ => 0)))), (e7_10, .inl (g.2.2.2.1, 4000, .inl (fun _ => 0))), (e8_11, .inl (g.2.2.1, 200, .inr (.inl (fun _ => 0)))), (q12, .inr (2, [.ref q1, .ref e1_15, .int 0, .int 0])), (e1_15, .inl (g.2.1, 4, .inl (fun _ => 0))), (q16, .inr (1, [.ref q1, .int 0, .ref e1_19, .ref e2_20, .ref e3_21])), (e1_19, .inl (g.2.1, 3600, .inl (fun _ => 0))), (e2_20, .inl (g.2.1, 60, .inl (fun _ => 0))), (e3_21, .inl (g.2.1, 60, .inl (fun _ => 0))), (q22, .inr (0, [.ref q1, .int 0, .ref e1_25, .ref e2_26, .ref e3_27, .ref e4_28, .ref e5_29])), (e1_25, .inl (g.2.1, 24, .inl (fun _ => 0))), (e2_26, .inl (g.2.1, 24, .inl (fun _ => 0))), (e3_27, .inl (g.2.1, 24, .inl (fun _ => 0))), (e4_28, .inl (g.2.2.1, 384, .inr (.inl (fun _ => 0)))), (e5_29, .inl (g.2.1, 24, .inl (fun _ => 0))), (q30, .inr (4, [.ref q1, .int 0, .ref e1_33, .ref e2_34, .ref e3_35, .ref e4_36, .ref e5_37, .ref e6_38, .ref e7_39])), (e1_33, .inl (g.2.1, 12, .inl (fun _ => 0))), (e2_34, .inl (g.2.1, 12, .inl (fun _ => 0))), (e3_35, .inl (g.2.1, 12, .inl (fun _ => 0))), (e4_36, .inl (g.2.2.1, 12, .inr (.inl (fun _ => 0)))), (e5_37, .inl (g.2.2.1, 12, .inr (.inl (fun _ => 0)))), (e6_38, .inl (g.2.2.1, 12, .inr (.inl (fun _ => 0)))), (e7_39, .inl (g.2.2.1, 12, .inr (.inl (fun _ => 0))))] H locs := hZ
  refine lv_aload_n hx hb dX7_init_75 rfl (lv_at hl 0 rfl) ?_
  refine lv_bipush (v := 8) hx hb dX7_init_76 (by decide) ?_
  refine zz_newq (N' := 8) hC hZ zk_198 (by decide) (by decide) (Nat.le_of_ble_eq_true rfl) (Nat.le_of_ble_eq_true rfl) (Nat.le_of_ble_eq_true rfl) dX7_init_78 (fun q40 H hZ => ?_)
  have hZ : zz_Z g A s.heap [(h0, .inr (6, [.ref q1, .ref q12, .ref q16, .ref q22, .ref q30, .null, .int 0, .int 0])), (q1, .inr (5, [.int 0, .int 0, .ref e1_4, .ref e2_5, .ref e3_6, .ref e4_7, .ref e5_8, .ref e6_9, .ref e7_10, .ref e8_11])), (e1_4, .inl (g.2.1, 60, .inl (fun _ => 0))), (e2_5, .inl (g.2.1, 60, .inl (fun _ => 0))), (e3_6, .inl (g.2.1, 60, .inl (fun _ => 0))), (e4_7, .inl (g.2.1, 60, .inl (fun _ => 0))), (e5_8, .inl (g.2.1, 60, .inl (fun _ => 0))), (e6_9, .inl (g.2.2.1, 4000, .inr (.inl (fun _ => 0)))), (e7_10, .inl (g.2.2.2.1, 4000, .inl (fun _ => 0))), (e8_11, .inl (g.2.2.1, 200, .inr (.inl (fun _ => 0)))), (q12, .inr (2, [.ref q1, .ref e1_15, .int 0, .int 0])), (e1_15, .inl (g.2.1, 4, .inl (fun _ => 0))), (q16, .inr (1, [.ref q1, .int 0, .ref e1_19, .ref e2_20, .ref e3_21])), (e1_19, .inl (g.2.1, 3600, .inl (fun _ => 0))), (e2_20, .inl (g.2.1, 60, .inl (fun _ => 0))), (e3_21, .inl (g.2.1, 60, .inl (fun _ => 0))), (q22, .inr (0, [.ref q1, .int 0, .ref e1_25, .ref e2_26, .ref e3_27, .ref e4_28, .ref e5_29])), (e1_25, .inl (g.2.1, 24, .inl (fun _ => 0))), (e2_26, .inl (g.2.1, 24, .inl (fun _ => 0))), (e3_27, .inl (g.2.1, 24, .inl (fun _ => 0))), (e4_28, .inl (g.2.2.1, 384, .inr (.inl (fun _ => 0)))), (e5_29, .inl (g.2.1, 24, .inl (fun _ => 0))), (q30, .inr (4, [.ref q1, .int 0, .ref e1_33, .ref e2_34, .ref e3_35, .ref e4_36, .ref e5_37, .ref e6_38, .ref e7_39])), (e1_33, .inl (g.2.1, 12, .inl (fun _ => 0))), (e2_34, .inl (g.2.1, 12, .inl (fun _ => 0))), (e3_35, .inl (g.2.1, 12, .inl (fun _ => 0))), (e4_36, .inl (g.2.2.1, 12, .inr (.inl (fun _ => 0)))), (e5_37, .inl (g.2.2.1, 12, .inr (.inl (fun _ => 0)))), (e6_38, .inl (g.2.2.1, 12, .inr (.inl (fun _ => 0)))), (e7_39, .inl (g.2.2.1, 12, .inr (.inl (fun _ => 0)))), (q40, .inl (g.2.2.2.2, 8, .inr (.inr (.inr (.inr (fun _ => none))))))] H locs := hZ
  refine zz_putF hC hnm hZ 0 rfl zu_X7_48 rfl rfl (Nat.le_of_ble_eq_true rfl) dX7_init_81 (fun H locs hZ => ?_)
  have hZ : zz_Z g A s.heap [(h0, .inr (6, [.ref q1, .ref q12, .ref q16, .ref q22, .ref q30, .ref q40, .int 0, .int 0])), (q1, .inr (5, [.int 0, .int 0, .ref e1_4, .ref e2_5, .ref e3_6, .ref e4_7, .ref e5_8, .ref e6_9, .ref e7_10, .ref e8_11])), (e1_4, .inl (g.2.1, 60, .inl (fun _ => 0))), (e2_5, .inl (g.2.1, 60, .inl (fun _ => 0))), (e3_6, .inl (g.2.1, 60, .inl (fun _ => 0))), (e4_7, .inl (g.2.1, 60, .inl (fun _ => 0))), (e5_8, .inl (g.2.1, 60, .inl (fun _ => 0))), (e6_9, .inl (g.2.2.1, 4000, .inr (.inl (fun _ => 0)))), (e7_10, .inl (g.2.2.2.1, 4000, .inl (fun _ => 0))), (e8_11, .inl (g.2.2.1, 200, .inr (.inl (fun _ => 0)))), (q12, .inr (2, [.ref q1, .ref e1_15, .int 0, .int 0])), (e1_15, .inl (g.2.1, 4, .inl (fun _ => 0))), (q16, .inr (1, [.ref q1, .int 0, .ref e1_19, .ref e2_20, .ref e3_21])), (e1_19, .inl (g.2.1, 3600, .inl (fun _ => 0))), (e2_20, .inl (g.2.1, 60, .inl (fun _ => 0))), (e3_21, .inl (g.2.1, 60, .inl (fun _ => 0))), (q22, .inr (0, [.ref q1, .int 0, .ref e1_25, .ref e2_26, .ref e3_27, .ref e4_28, .ref e5_29])), (e1_25, .inl (g.2.1, 24, .inl (fun _ => 0))), (e2_26, .inl (g.2.1, 24, .inl (fun _ => 0))), (e3_27, .inl (g.2.1, 24, .inl (fun _ => 0))), (e4_28, .inl (g.2.2.1, 384, .inr (.inl (fun _ => 0)))), (e5_29, .inl (g.2.1, 24, .inl (fun _ => 0))), (q30, .inr (4, [.ref q1, .int 0, .ref e1_33, .ref e2_34, .ref e3_35, .ref e4_36, .ref e5_37, .ref e6_38, .ref e7_39])), (e1_33, .inl (g.2.1, 12, .inl (fun _ => 0))), (e2_34, .inl (g.2.1, 12, .inl (fun _ => 0))), (e3_35, .inl (g.2.1, 12, .inl (fun _ => 0))), (e4_36, .inl (g.2.2.1, 12, .inr (.inl (fun _ => 0)))), (e5_37, .inl (g.2.2.1, 12, .inr (.inl (fun _ => 0)))), (e6_38, .inl (g.2.2.1, 12, .inr (.inl (fun _ => 0)))), (e7_39, .inl (g.2.2.1, 12, .inr (.inl (fun _ => 0)))), (q40, .inl (g.2.2.2.2, 8, .inr (.inr (.inr (.inr (fun _ => none))))))] H locs := hZ
  refine lv_aload_n hx hb dX7_init_84 rfl (lv_at hl 0 rfl) ?_
  refine lv_iconst (v := 0) hx hb dX7_init_85 (by decide) ?_
  refine zz_put hC hZ 0 rfl zu_X7_52 (Nat.le_of_ble_eq_true rfl) dX7_init_86 (fun H locs hZ => ?_)
  have hZ : zz_Z g A s.heap [(h0, .inr (6, [.ref q1, .ref q12, .ref q16, .ref q22, .ref q30, .ref q40, .int 0, .int 0])), (q1, .inr (5, [.int 0, .int 0, .ref e1_4, .ref e2_5, .ref e3_6, .ref e4_7, .ref e5_8, .ref e6_9, .ref e7_10, .ref e8_11])), (e1_4, .inl (g.2.1, 60, .inl (fun _ => 0))), (e2_5, .inl (g.2.1, 60, .inl (fun _ => 0))), (e3_6, .inl (g.2.1, 60, .inl (fun _ => 0))), (e4_7, .inl (g.2.1, 60, .inl (fun _ => 0))), (e5_8, .inl (g.2.1, 60, .inl (fun _ => 0))), (e6_9, .inl (g.2.2.1, 4000, .inr (.inl (fun _ => 0)))), (e7_10, .inl (g.2.2.2.1, 4000, .inl (fun _ => 0))), (e8_11, .inl (g.2.2.1, 200, .inr (.inl (fun _ => 0)))), (q12, .inr (2, [.ref q1, .ref e1_15, .int 0, .int 0])), (e1_15, .inl (g.2.1, 4, .inl (fun _ => 0))), (q16, .inr (1, [.ref q1, .int 0, .ref e1_19, .ref e2_20, .ref e3_21])), (e1_19, .inl (g.2.1, 3600, .inl (fun _ => 0))), (e2_20, .inl (g.2.1, 60, .inl (fun _ => 0))), (e3_21, .inl (g.2.1, 60, .inl (fun _ => 0))), (q22, .inr (0, [.ref q1, .int 0, .ref e1_25, .ref e2_26, .ref e3_27, .ref e4_28, .ref e5_29])), (e1_25, .inl (g.2.1, 24, .inl (fun _ => 0))), (e2_26, .inl (g.2.1, 24, .inl (fun _ => 0))), (e3_27, .inl (g.2.1, 24, .inl (fun _ => 0))), (e4_28, .inl (g.2.2.1, 384, .inr (.inl (fun _ => 0)))), (e5_29, .inl (g.2.1, 24, .inl (fun _ => 0))), (q30, .inr (4, [.ref q1, .int 0, .ref e1_33, .ref e2_34, .ref e3_35, .ref e4_36, .ref e5_37, .ref e6_38, .ref e7_39])), (e1_33, .inl (g.2.1, 12, .inl (fun _ => 0))), (e2_34, .inl (g.2.1, 12, .inl (fun _ => 0))), (e3_35, .inl (g.2.1, 12, .inl (fun _ => 0))), (e4_36, .inl (g.2.2.1, 12, .inr (.inl (fun _ => 0)))), (e5_37, .inl (g.2.2.1, 12, .inr (.inl (fun _ => 0)))), (e6_38, .inl (g.2.2.1, 12, .inr (.inl (fun _ => 0)))), (e7_39, .inl (g.2.2.1, 12, .inr (.inl (fun _ => 0)))), (q40, .inl (g.2.2.2.2, 8, .inr (.inr (.inr (.inr (fun _ => none))))))] H locs := hZ
  refine lv_aload_n hx hb dX7_init_89 rfl (lv_at hl 0 rfl) ?_
  refine lv_iconst (v := 0) hx hb dX7_init_90 (by decide) ?_
  refine zz_put hC hZ 0 rfl zu_X7_56 (Nat.le_of_ble_eq_true rfl) dX7_init_91 (fun H locs hZ => ?_)
  have hZ : zz_Z g A s.heap [(h0, .inr (6, [.ref q1, .ref q12, .ref q16, .ref q22, .ref q30, .ref q40, .int 0, .int 0])), (q1, .inr (5, [.int 0, .int 0, .ref e1_4, .ref e2_5, .ref e3_6, .ref e4_7, .ref e5_8, .ref e6_9, .ref e7_10, .ref e8_11])), (e1_4, .inl (g.2.1, 60, .inl (fun _ => 0))), (e2_5, .inl (g.2.1, 60, .inl (fun _ => 0))), (e3_6, .inl (g.2.1, 60, .inl (fun _ => 0))), (e4_7, .inl (g.2.1, 60, .inl (fun _ => 0))), (e5_8, .inl (g.2.1, 60, .inl (fun _ => 0))), (e6_9, .inl (g.2.2.1, 4000, .inr (.inl (fun _ => 0)))), (e7_10, .inl (g.2.2.2.1, 4000, .inl (fun _ => 0))), (e8_11, .inl (g.2.2.1, 200, .inr (.inl (fun _ => 0)))), (q12, .inr (2, [.ref q1, .ref e1_15, .int 0, .int 0])), (e1_15, .inl (g.2.1, 4, .inl (fun _ => 0))), (q16, .inr (1, [.ref q1, .int 0, .ref e1_19, .ref e2_20, .ref e3_21])), (e1_19, .inl (g.2.1, 3600, .inl (fun _ => 0))), (e2_20, .inl (g.2.1, 60, .inl (fun _ => 0))), (e3_21, .inl (g.2.1, 60, .inl (fun _ => 0))), (q22, .inr (0, [.ref q1, .int 0, .ref e1_25, .ref e2_26, .ref e3_27, .ref e4_28, .ref e5_29])), (e1_25, .inl (g.2.1, 24, .inl (fun _ => 0))), (e2_26, .inl (g.2.1, 24, .inl (fun _ => 0))), (e3_27, .inl (g.2.1, 24, .inl (fun _ => 0))), (e4_28, .inl (g.2.2.1, 384, .inr (.inl (fun _ => 0)))), (e5_29, .inl (g.2.1, 24, .inl (fun _ => 0))), (q30, .inr (4, [.ref q1, .int 0, .ref e1_33, .ref e2_34, .ref e3_35, .ref e4_36, .ref e5_37, .ref e6_38, .ref e7_39])), (e1_33, .inl (g.2.1, 12, .inl (fun _ => 0))), (e2_34, .inl (g.2.1, 12, .inl (fun _ => 0))), (e3_35, .inl (g.2.1, 12, .inl (fun _ => 0))), (e4_36, .inl (g.2.2.1, 12, .inr (.inl (fun _ => 0)))), (e5_37, .inl (g.2.2.1, 12, .inr (.inl (fun _ => 0)))), (e6_38, .inl (g.2.2.1, 12, .inr (.inl (fun _ => 0)))), (e7_39, .inl (g.2.2.1, 12, .inr (.inl (fun _ => 0)))), (q40, .inl (g.2.2.2.2, 8, .inr (.inr (.inr (.inr (fun _ => none))))))] H locs := hZ
  exact zz_vret hC hZ (⟨q1, e1_4, e2_5, e3_6, e4_7, e5_8, e6_9, e7_10, e8_11, q12, e1_15, q16, e1_19, e2_20, e3_21, q22, e1_25, e2_26, e3_27, e4_28, e5_29, q30, e1_33, e2_34, e3_35, e4_36, e5_37, e6_38, e7_39, q40, rfl⟩) (Nat.le_of_ble_eq_true rfl) (Nat.le_of_ble_eq_true rfl) dX7_init_94
end
section
theorem dX8_init_0 : decode cX8_init 0 = .ok (.aload_n 0, 1) := by decide +kernel
theorem dX8_init_1 : decode cX8_init 1 = .ok (.invokespecial 1, 3) := by decide +kernel
theorem zk_734 : Cond.methodLink RX8 1 objectInit ∈ zz_w := zz_in (List.mem_append_right _ (List.mem_append_right _ (List.mem_append_right _ (List.mem_append_right _ (List.mem_append_left _ (List.mem_of_getElem? (i := 14) (by decide +kernel))))))) rfl
theorem dX8_init_4 : decode cX8_init 4 = .ok (.aload_n 0, 1) := by decide +kernel
theorem dX8_init_5 : decode cX8_init 5 = .ok (.bipush 60, 2) := by decide +kernel
theorem dX8_init_7 : decode cX8_init 7 = .ok (.newarray .int, 2) := by decide +kernel
theorem dX8_init_9 : decode cX8_init 9 = .ok (.putfield 7, 3) := by decide +kernel
theorem zk_737 : Cond.fieldLink RX8 7 RX8 "kindOf" "[I" ∈ zz_w := zz_in (List.mem_append_right _ (List.mem_append_right _ (List.mem_append_right _ (List.mem_append_right _ (List.mem_append_left _ (List.mem_of_getElem? (i := 17) (by decide +kernel))))))) rfl
theorem zu_X8_7 : zz_fw RX8 7 7 2 true (.array .int) := ⟨RX8, TX8, 37, tyX8, rfl, zi_X8, by decide, zk_737, tyX8_ok, nmX8, rfl, by decide +kernel, fun _ => rfl⟩
theorem dX8_init_12 : decode cX8_init 12 = .ok (.aload_n 0, 1) := by decide +kernel
theorem dX8_init_13 : decode cX8_init 13 = .ok (.bipush 60, 2) := by decide +kernel
theorem dX8_init_15 : decode cX8_init 15 = .ok (.newarray .int, 2) := by decide +kernel
theorem dX8_init_17 : decode cX8_init 17 = .ok (.putfield 13, 3) := by decide +kernel
theorem zk_738 : Cond.fieldLink RX8 13 RX8 "depthOf" "[I" ∈ zz_w := zz_in (List.mem_append_right _ (List.mem_append_right _ (List.mem_append_right _ (List.mem_append_right _ (List.mem_append_left _ (List.mem_of_getElem? (i := 18) (by decide +kernel))))))) rfl
theorem zu_X8_13 : zz_fw RX8 13 7 3 true (.array .int) := ⟨RX8, TX8, 37, tyX8, rfl, zi_X8, by decide, zk_738, tyX8_ok, nmX8, rfl, by decide +kernel, fun _ => rfl⟩
theorem dX8_init_20 : decode cX8_init 20 = .ok (.aload_n 0, 1) := by decide +kernel
theorem dX8_init_21 : decode cX8_init 21 = .ok (.bipush 60, 2) := by decide +kernel
theorem dX8_init_23 : decode cX8_init 23 = .ok (.newarray .int, 2) := by decide +kernel
theorem dX8_init_25 : decode cX8_init 25 = .ok (.putfield 16, 3) := by decide +kernel
theorem zk_739 : Cond.fieldLink RX8 16 RX8 "lengthOf" "[I" ∈ zz_w := zz_in (List.mem_append_right _ (List.mem_append_right _ (List.mem_append_right _ (List.mem_append_right _ (List.mem_append_left _ (List.mem_of_getElem? (i := 19) (by decide +kernel))))))) rfl
theorem zu_X8_16 : zz_fw RX8 16 7 4 true (.array .int) := ⟨RX8, TX8, 37, tyX8, rfl, zi_X8, by decide, zk_739, tyX8_ok, nmX8, rfl, by decide +kernel, fun _ => rfl⟩
theorem dX8_init_28 : decode cX8_init 28 = .ok (.aload_n 0, 1) := by decide +kernel
theorem dX8_init_29 : decode cX8_init 29 = .ok (.bipush 60, 2) := by decide +kernel
theorem dX8_init_31 : decode cX8_init 31 = .ok (.newarray .int, 2) := by decide +kernel
theorem dX8_init_33 : decode cX8_init 33 = .ok (.putfield 19, 3) := by decide +kernel
theorem zk_740 : Cond.fieldLink RX8 19 RX8 "classOf" "[I" ∈ zz_w := zz_in (List.mem_append_right _ (List.mem_append_right _ (List.mem_append_right _ (List.mem_append_right _ (List.mem_append_left _ (List.mem_of_getElem? (i := 20) (by decide +kernel))))))) rfl
theorem zu_X8_19 : zz_fw RX8 19 7 5 true (.array .int) := ⟨RX8, TX8, 37, tyX8, rfl, zi_X8, by decide, zk_740, tyX8_ok, nmX8, rfl, by decide +kernel, fun _ => rfl⟩
theorem dX8_init_36 : decode cX8_init 36 = .ok (.aload_n 0, 1) := by decide +kernel
theorem dX8_init_37 : decode cX8_init 37 = .ok (.bipush 60, 2) := by decide +kernel
theorem dX8_init_39 : decode cX8_init 39 = .ok (.newarray .int, 2) := by decide +kernel
theorem dX8_init_41 : decode cX8_init 41 = .ok (.putfield 22, 3) := by decide +kernel
theorem zk_741 : Cond.fieldLink RX8 22 RX8 "baseOf" "[I" ∈ zz_w := zz_in (List.mem_append_right _ (List.mem_append_right _ (List.mem_append_right _ (List.mem_append_right _ (List.mem_append_left _ (List.mem_of_getElem? (i := 21) (by decide +kernel))))))) rfl
theorem zu_X8_22 : zz_fw RX8 22 7 6 true (.array .int) := ⟨RX8, TX8, 37, tyX8, rfl, zi_X8, by decide, zk_741, tyX8_ok, nmX8, rfl, by decide +kernel, fun _ => rfl⟩
theorem dX8_init_44 : decode cX8_init 44 = .ok (.aload_n 0, 1) := by decide +kernel
theorem dX8_init_45 : decode cX8_init 45 = .ok (.sipush 4000, 3) := by decide +kernel
theorem dX8_init_48 : decode cX8_init 48 = .ok (.newarray .long, 2) := by decide +kernel
theorem dX8_init_50 : decode cX8_init 50 = .ok (.putfield 25, 3) := by decide +kernel
theorem zk_742 : Cond.fieldLink RX8 25 RX8 "bits" "[J" ∈ zz_w := zz_in (List.mem_append_right _ (List.mem_append_right _ (List.mem_append_right _ (List.mem_append_right _ (List.mem_append_left _ (List.mem_of_getElem? (i := 22) (by decide +kernel))))))) rfl
theorem zu_X8_25 : zz_fw RX8 25 7 7 true (.array .long) := ⟨RX8, TX8, 37, tyX8, rfl, zi_X8, by decide, zk_742, tyX8_ok, nmX8, rfl, by decide +kernel, fun _ => rfl⟩
theorem dX8_init_53 : decode cX8_init 53 = .ok (.aload_n 0, 1) := by decide +kernel
theorem dX8_init_54 : decode cX8_init 54 = .ok (.sipush 4000, 3) := by decide +kernel
theorem dX8_init_57 : decode cX8_init 57 = .ok (.newarray .boolean, 2) := by decide +kernel
theorem dX8_init_59 : decode cX8_init 59 = .ok (.putfield 29, 3) := by decide +kernel
theorem zk_743 : Cond.fieldLink RX8 29 RX8 "pinned" "[Z" ∈ zz_w := zz_in (List.mem_append_right _ (List.mem_append_right _ (List.mem_append_right _ (List.mem_append_right _ (List.mem_append_left _ (List.mem_of_getElem? (i := 23) (by decide +kernel))))))) rfl
theorem zu_X8_29 : zz_fw RX8 29 7 8 true (.array .boolean) := ⟨RX8, TX8, 37, tyX8, rfl, zi_X8, by decide, zk_743, tyX8_ok, nmX8, rfl, by decide +kernel, fun _ => rfl⟩
theorem dX8_init_62 : decode cX8_init 62 = .ok (.aload_n 0, 1) := by decide +kernel
theorem dX8_init_63 : decode cX8_init 63 = .ok (.iconst 4, 1) := by decide +kernel
theorem dX8_init_64 : decode cX8_init 64 = .ok (.newarray .int, 2) := by decide +kernel
theorem dX8_init_66 : decode cX8_init 66 = .ok (.putfield 33, 3) := by decide +kernel
theorem zk_745 : Cond.fieldLink RX8 33 RX8 "lengths" "[I" ∈ zz_w := zz_in (List.mem_append_right _ (List.mem_append_right _ (List.mem_append_right _ (List.mem_append_right _ (List.mem_append_left _ (List.mem_of_getElem? (i := 25) (by decide +kernel))))))) rfl
theorem zu_X8_33 : zz_fw RX8 33 7 10 true (.array .int) := ⟨RX8, TX8, 37, tyX8, rfl, zi_X8, by decide, zk_745, tyX8_ok, nmX8, rfl, by decide +kernel, fun _ => rfl⟩
theorem dX8_init_69 : decode cX8_init 69 = .ok (.aload_n 0, 1) := by decide +kernel
theorem dX8_init_70 : decode cX8_init 70 = .ok (.iconst 5, 1) := by decide +kernel
theorem dX8_init_71 : decode cX8_init 71 = .ok (.newarray .int, 2) := by decide +kernel
theorem dX8_init_73 : decode cX8_init 73 = .ok (.putfield 36, 3) := by decide +kernel
theorem zk_746 : Cond.fieldLink RX8 36 RX8 "stackArray" "[I" ∈ zz_w := zz_in (List.mem_append_right _ (List.mem_append_right _ (List.mem_append_right _ (List.mem_append_right _ (List.mem_append_left _ (List.mem_of_getElem? (i := 26) (by decide +kernel))))))) rfl
theorem zu_X8_36 : zz_fw RX8 36 7 11 true (.array .int) := ⟨RX8, TX8, 37, tyX8, rfl, zi_X8, by decide, zk_746, tyX8_ok, nmX8, rfl, by decide +kernel, fun _ => rfl⟩
theorem dX8_init_76 : decode cX8_init 76 = .ok (.aload_n 0, 1) := by decide +kernel
theorem dX8_init_77 : decode cX8_init 77 = .ok (.iconst 5, 1) := by decide +kernel
theorem dX8_init_78 : decode cX8_init 78 = .ok (.newarray .int, 2) := by decide +kernel
theorem dX8_init_80 : decode cX8_init 80 = .ok (.putfield 39, 3) := by decide +kernel
theorem zk_747 : Cond.fieldLink RX8 39 RX8 "stackOther" "[I" ∈ zz_w := zz_in (List.mem_append_right _ (List.mem_append_right _ (List.mem_append_right _ (List.mem_append_right _ (List.mem_append_left _ (List.mem_of_getElem? (i := 27) (by decide +kernel))))))) rfl
theorem zu_X8_39 : zz_fw RX8 39 7 12 true (.array .int) := ⟨RX8, TX8, 37, tyX8, rfl, zi_X8, by decide, zk_747, tyX8_ok, nmX8, rfl, by decide +kernel, fun _ => rfl⟩
theorem dX8_init_83 : decode cX8_init 83 = .ok (.aload_n 0, 1) := by decide +kernel
theorem dX8_init_84 : decode cX8_init 84 = .ok (.iconst 5, 1) := by decide +kernel
theorem dX8_init_85 : decode cX8_init 85 = .ok (.newarray .int, 2) := by decide +kernel
theorem dX8_init_87 : decode cX8_init 87 = .ok (.putfield 42, 3) := by decide +kernel
theorem zk_748 : Cond.fieldLink RX8 42 RX8 "stackAt" "[I" ∈ zz_w := zz_in (List.mem_append_right _ (List.mem_append_right _ (List.mem_append_right _ (List.mem_append_right _ (List.mem_append_left _ (List.mem_of_getElem? (i := 28) (by decide +kernel))))))) rfl
theorem zu_X8_42 : zz_fw RX8 42 7 13 true (.array .int) := ⟨RX8, TX8, 37, tyX8, rfl, zi_X8, by decide, zk_748, tyX8_ok, nmX8, rfl, by decide +kernel, fun _ => rfl⟩
theorem dX8_init_90 : decode cX8_init 90 = .ok (.aload_n 0, 1) := by decide +kernel
theorem dX8_init_91 : decode cX8_init 91 = .ok (.iconst 4, 1) := by decide +kernel
theorem dX8_init_92 : decode cX8_init 92 = .ok (.newarray .int, 2) := by decide +kernel
theorem dX8_init_94 : decode cX8_init 94 = .ok (.putfield 45, 3) := by decide +kernel
theorem zk_751 : Cond.fieldLink RX8 45 RX8 "path" "[I" ∈ zz_w := zz_in (List.mem_append_right _ (List.mem_append_right _ (List.mem_append_right _ (List.mem_append_right _ (List.mem_append_left _ (List.mem_of_getElem? (i := 31) (by decide +kernel))))))) rfl
theorem zu_X8_45 : zz_fw RX8 45 7 16 true (.array .int) := ⟨RX8, TX8, 37, tyX8, rfl, zi_X8, by decide, zk_751, tyX8_ok, nmX8, rfl, by decide +kernel, fun _ => rfl⟩
theorem dX8_init_97 : decode cX8_init 97 = .ok (.aload_n 0, 1) := by decide +kernel
theorem dX8_init_98 : decode cX8_init 98 = .ok (.sipush 200, 3) := by decide +kernel
theorem dX8_init_101 : decode cX8_init 101 = .ok (.newarray .long, 2) := by decide +kernel
theorem dX8_init_103 : decode cX8_init 103 = .ok (.putfield 48, 3) := by decide +kernel
theorem zk_752 : Cond.fieldLink RX8 48 RX8 "held" "[J" ∈ zz_w := zz_in (List.mem_append_right _ (List.mem_append_right _ (List.mem_append_right _ (List.mem_append_right _ (List.mem_append_left _ (List.mem_of_getElem? (i := 32) (by decide +kernel))))))) rfl
theorem zu_X8_48 : zz_fw RX8 48 7 17 true (.array .long) := ⟨RX8, TX8, 37, tyX8, rfl, zi_X8, by decide, zk_752, tyX8_ok, nmX8, rfl, by decide +kernel, fun _ => rfl⟩
theorem dX8_init_106 : decode cX8_init 106 = .ok (.aload_n 0, 1) := by decide +kernel
theorem dX8_init_107 : decode cX8_init 107 = .ok (.sipush 3600, 3) := by decide +kernel
theorem dX8_init_110 : decode cX8_init 110 = .ok (.newarray .boolean, 2) := by decide +kernel
theorem dX8_init_112 : decode cX8_init 112 = .ok (.putfield 51, 3) := by decide +kernel
theorem zk_753 : Cond.fieldLink RX8 51 RX8 "alike" "[Z" ∈ zz_w := zz_in (List.mem_append_right _ (List.mem_append_right _ (List.mem_append_right _ (List.mem_append_right _ (List.mem_append_left _ (List.mem_of_getElem? (i := 33) (by decide +kernel))))))) rfl
theorem zu_X8_51 : zz_fw RX8 51 7 18 true (.array .boolean) := ⟨RX8, TX8, 37, tyX8, rfl, zi_X8, by decide, zk_753, tyX8_ok, nmX8, rfl, by decide +kernel, fun _ => rfl⟩
theorem dX8_init_115 : decode cX8_init 115 = .ok (.aload_n 0, 1) := by decide +kernel
theorem dX8_init_116 : decode cX8_init 116 = .ok (.bipush 60, 2) := by decide +kernel
theorem dX8_init_118 : decode cX8_init 118 = .ok (.newarray .int, 2) := by decide +kernel
theorem dX8_init_120 : decode cX8_init 120 = .ok (.putfield 54, 3) := by decide +kernel
theorem zk_754 : Cond.fieldLink RX8 54 RX8 "hashes" "[I" ∈ zz_w := zz_in (List.mem_append_right _ (List.mem_append_right _ (List.mem_append_right _ (List.mem_append_right _ (List.mem_append_left _ (List.mem_of_getElem? (i := 34) (by decide +kernel))))))) rfl
theorem zu_X8_54 : zz_fw RX8 54 7 19 true (.array .int) := ⟨RX8, TX8, 37, tyX8, rfl, zi_X8, by decide, zk_754, tyX8_ok, nmX8, rfl, by decide +kernel, fun _ => rfl⟩
theorem dX8_init_123 : decode cX8_init 123 = .ok (.aload_n 0, 1) := by decide +kernel
theorem dX8_init_124 : decode cX8_init 124 = .ok (.bipush 24, 2) := by decide +kernel
theorem dX8_init_126 : decode cX8_init 126 = .ok (.newarray .int, 2) := by decide +kernel
theorem dX8_init_128 : decode cX8_init 128 = .ok (.putfield 57, 3) := by decide +kernel
theorem zk_756 : Cond.fieldLink RX8 57 RX8 "decisionArray" "[I" ∈ zz_w := zz_in (List.mem_append_right _ (List.mem_append_right _ (List.mem_append_right _ (List.mem_append_right _ (List.mem_append_left _ (List.mem_of_getElem? (i := 36) (by decide +kernel))))))) rfl
theorem zu_X8_57 : zz_fw RX8 57 7 21 true (.array .int) := ⟨RX8, TX8, 37, tyX8, rfl, zi_X8, by decide, zk_756, tyX8_ok, nmX8, rfl, by decide +kernel, fun _ => rfl⟩
theorem dX8_init_131 : decode cX8_init 131 = .ok (.aload_n 0, 1) := by decide +kernel
theorem dX8_init_132 : decode cX8_init 132 = .ok (.bipush 24, 2) := by decide +kernel
theorem dX8_init_134 : decode cX8_init 134 = .ok (.newarray .int, 2) := by decide +kernel
theorem dX8_init_136 : decode cX8_init 136 = .ok (.putfield 60, 3) := by decide +kernel
theorem zk_757 : Cond.fieldLink RX8 60 RX8 "decisionPlace" "[I" ∈ zz_w := zz_in (List.mem_append_right _ (List.mem_append_right _ (List.mem_append_right _ (List.mem_append_right _ (List.mem_append_left _ (List.mem_of_getElem? (i := 37) (by decide +kernel))))))) rfl
theorem zu_X8_60 : zz_fw RX8 60 7 22 true (.array .int) := ⟨RX8, TX8, 37, tyX8, rfl, zi_X8, by decide, zk_757, tyX8_ok, nmX8, rfl, by decide +kernel, fun _ => rfl⟩
theorem dX8_init_139 : decode cX8_init 139 = .ok (.aload_n 0, 1) := by decide +kernel
theorem dX8_init_140 : decode cX8_init 140 = .ok (.bipush 24, 2) := by decide +kernel
theorem dX8_init_142 : decode cX8_init 142 = .ok (.newarray .int, 2) := by decide +kernel
theorem dX8_init_144 : decode cX8_init 144 = .ok (.putfield 63, 3) := by decide +kernel
theorem zk_758 : Cond.fieldLink RX8 63 RX8 "candidateMany" "[I" ∈ zz_w := zz_in (List.mem_append_right _ (List.mem_append_right _ (List.mem_append_right _ (List.mem_append_right _ (List.mem_append_left _ (List.mem_of_getElem? (i := 38) (by decide +kernel))))))) rfl
theorem zu_X8_63 : zz_fw RX8 63 7 23 true (.array .int) := ⟨RX8, TX8, 37, tyX8, rfl, zi_X8, by decide, zk_758, tyX8_ok, nmX8, rfl, by decide +kernel, fun _ => rfl⟩
theorem dX8_init_147 : decode cX8_init 147 = .ok (.aload_n 0, 1) := by decide +kernel
theorem dX8_init_148 : decode cX8_init 148 = .ok (.sipush 384, 3) := by decide +kernel
theorem dX8_init_151 : decode cX8_init 151 = .ok (.newarray .long, 2) := by decide +kernel
theorem dX8_init_153 : decode cX8_init 153 = .ok (.putfield 66, 3) := by decide +kernel
theorem zk_759 : Cond.fieldLink RX8 66 RX8 "candidates" "[J" ∈ zz_w := zz_in (List.mem_append_right _ (List.mem_append_right _ (List.mem_append_right _ (List.mem_append_right _ (List.mem_append_left _ (List.mem_of_getElem? (i := 39) (by decide +kernel))))))) rfl
theorem zu_X8_66 : zz_fw RX8 66 7 24 true (.array .long) := ⟨RX8, TX8, 37, tyX8, rfl, zi_X8, by decide, zk_759, tyX8_ok, nmX8, rfl, by decide +kernel, fun _ => rfl⟩
theorem dX8_init_156 : decode cX8_init 156 = .ok (.aload_n 0, 1) := by decide +kernel
theorem dX8_init_157 : decode cX8_init 157 = .ok (.bipush 12, 2) := by decide +kernel
theorem dX8_init_159 : decode cX8_init 159 = .ok (.newarray .int, 2) := by decide +kernel
theorem dX8_init_161 : decode cX8_init 161 = .ok (.putfield 69, 3) := by decide +kernel
theorem zk_761 : Cond.fieldLink RX8 69 RX8 "ruleSort" "[I" ∈ zz_w := zz_in (List.mem_append_right _ (List.mem_append_right _ (List.mem_append_right _ (List.mem_append_right _ (List.mem_append_left _ (List.mem_of_getElem? (i := 41) (by decide +kernel))))))) rfl
theorem zu_X8_69 : zz_fw RX8 69 7 26 true (.array .int) := ⟨RX8, TX8, 37, tyX8, rfl, zi_X8, by decide, zk_761, tyX8_ok, nmX8, rfl, by decide +kernel, fun _ => rfl⟩
theorem dX8_init_164 : decode cX8_init 164 = .ok (.aload_n 0, 1) := by decide +kernel
theorem dX8_init_165 : decode cX8_init 165 = .ok (.bipush 12, 2) := by decide +kernel
theorem dX8_init_167 : decode cX8_init 167 = .ok (.newarray .int, 2) := by decide +kernel
theorem dX8_init_169 : decode cX8_init 169 = .ok (.putfield 72, 3) := by decide +kernel
theorem zk_762 : Cond.fieldLink RX8 72 RX8 "ruleArray" "[I" ∈ zz_w := zz_in (List.mem_append_right _ (List.mem_append_right _ (List.mem_append_right _ (List.mem_append_right _ (List.mem_append_left _ (List.mem_of_getElem? (i := 42) (by decide +kernel))))))) rfl
theorem zu_X8_72 : zz_fw RX8 72 7 27 true (.array .int) := ⟨RX8, TX8, 37, tyX8, rfl, zi_X8, by decide, zk_762, tyX8_ok, nmX8, rfl, by decide +kernel, fun _ => rfl⟩
theorem dX8_init_172 : decode cX8_init 172 = .ok (.aload_n 0, 1) := by decide +kernel
theorem dX8_init_173 : decode cX8_init 173 = .ok (.bipush 12, 2) := by decide +kernel
theorem dX8_init_175 : decode cX8_init 175 = .ok (.newarray .int, 2) := by decide +kernel
theorem dX8_init_177 : decode cX8_init 177 = .ok (.putfield 75, 3) := by decide +kernel
theorem zk_763 : Cond.fieldLink RX8 75 RX8 "ruleWeight" "[I" ∈ zz_w := zz_in (List.mem_append_right _ (List.mem_append_right _ (List.mem_append_right _ (List.mem_append_right _ (List.mem_append_left _ (List.mem_of_getElem? (i := 43) (by decide +kernel))))))) rfl
theorem zu_X8_75 : zz_fw RX8 75 7 28 true (.array .int) := ⟨RX8, TX8, 37, tyX8, rfl, zi_X8, by decide, zk_763, tyX8_ok, nmX8, rfl, by decide +kernel, fun _ => rfl⟩
theorem dX8_init_180 : decode cX8_init 180 = .ok (.aload_n 0, 1) := by decide +kernel
theorem dX8_init_181 : decode cX8_init 181 = .ok (.bipush 12, 2) := by decide +kernel
theorem dX8_init_183 : decode cX8_init 183 = .ok (.newarray .long, 2) := by decide +kernel
theorem dX8_init_185 : decode cX8_init 185 = .ok (.putfield 78, 3) := by decide +kernel
theorem zk_764 : Cond.fieldLink RX8 78 RX8 "ruleLow" "[J" ∈ zz_w := zz_in (List.mem_append_right _ (List.mem_append_right _ (List.mem_append_right _ (List.mem_append_right _ (List.mem_append_left _ (List.mem_of_getElem? (i := 44) (by decide +kernel))))))) rfl
theorem zu_X8_78 : zz_fw RX8 78 7 29 true (.array .long) := ⟨RX8, TX8, 37, tyX8, rfl, zi_X8, by decide, zk_764, tyX8_ok, nmX8, rfl, by decide +kernel, fun _ => rfl⟩
theorem dX8_init_188 : decode cX8_init 188 = .ok (.aload_n 0, 1) := by decide +kernel
theorem dX8_init_189 : decode cX8_init 189 = .ok (.bipush 12, 2) := by decide +kernel
theorem dX8_init_191 : decode cX8_init 191 = .ok (.newarray .long, 2) := by decide +kernel
theorem dX8_init_193 : decode cX8_init 193 = .ok (.putfield 81, 3) := by decide +kernel
theorem zk_765 : Cond.fieldLink RX8 81 RX8 "ruleHigh" "[J" ∈ zz_w := zz_in (List.mem_append_right _ (List.mem_append_right _ (List.mem_append_right _ (List.mem_append_right _ (List.mem_append_left _ (List.mem_of_getElem? (i := 45) (by decide +kernel))))))) rfl
theorem zu_X8_81 : zz_fw RX8 81 7 30 true (.array .long) := ⟨RX8, TX8, 37, tyX8, rfl, zi_X8, by decide, zk_765, tyX8_ok, nmX8, rfl, by decide +kernel, fun _ => rfl⟩
theorem dX8_init_196 : decode cX8_init 196 = .ok (.aload_n 0, 1) := by decide +kernel
theorem dX8_init_197 : decode cX8_init 197 = .ok (.bipush 24, 2) := by decide +kernel
theorem dX8_init_199 : decode cX8_init 199 = .ok (.newarray .int, 2) := by decide +kernel
theorem dX8_init_201 : decode cX8_init 201 = .ok (.putfield 84, 3) := by decide +kernel
theorem zk_766 : Cond.fieldLink RX8 84 RX8 "chosen" "[I" ∈ zz_w := zz_in (List.mem_append_right _ (List.mem_append_right _ (List.mem_append_right _ (List.mem_append_right _ (List.mem_append_left _ (List.mem_of_getElem? (i := 46) (by decide +kernel))))))) rfl
theorem zu_X8_84 : zz_fw RX8 84 7 31 true (.array .int) := ⟨RX8, TX8, 37, tyX8, rfl, zi_X8, by decide, zk_766, tyX8_ok, nmX8, rfl, by decide +kernel, fun _ => rfl⟩
theorem dX8_init_204 : decode cX8_init 204 = .ok (.aload_n 0, 1) := by decide +kernel
theorem dX8_init_205 : decode cX8_init 205 = .ok (.bipush 24, 2) := by decide +kernel
theorem dX8_init_207 : decode cX8_init 207 = .ok (.newarray .int, 2) := by decide +kernel
theorem dX8_init_209 : decode cX8_init 209 = .ok (.putfield 87, 3) := by decide +kernel
theorem zk_767 : Cond.fieldLink RX8 87 RX8 "bestOf" "[I" ∈ zz_w := zz_in (List.mem_append_right _ (List.mem_append_right _ (List.mem_append_right _ (List.mem_append_right _ (List.mem_append_left _ (List.mem_of_getElem? (i := 47) (by decide +kernel))))))) rfl
theorem zu_X8_87 : zz_fw RX8 87 7 32 true (.array .int) := ⟨RX8, TX8, 37, tyX8, rfl, zi_X8, by decide, zk_767, tyX8_ok, nmX8, rfl, by decide +kernel, fun _ => rfl⟩
theorem dX8_init_212 : decode cX8_init 212 = .ok (.aload_n 0, 1) := by decide +kernel
theorem dX8_init_213 : decode cX8_init 213 = .ok (.bipush 8, 2) := by decide +kernel
theorem dX8_init_215 : decode cX8_init 215 = .ok (.newarray .int, 2) := by decide +kernel
theorem dX8_init_217 : decode cX8_init 217 = .ok (.putfield 90, 3) := by decide +kernel
theorem zk_769 : Cond.fieldLink RX8 90 RX8 "markElements" "[I" ∈ zz_w := zz_in (List.mem_append_right _ (List.mem_append_right _ (List.mem_append_right _ (List.mem_append_right _ (List.mem_append_left _ (List.mem_of_getElem? (i := 49) (by decide +kernel))))))) rfl
theorem zu_X8_90 : zz_fw RX8 90 7 34 true (.array .int) := ⟨RX8, TX8, 37, tyX8, rfl, zi_X8, by decide, zk_769, tyX8_ok, nmX8, rfl, by decide +kernel, fun _ => rfl⟩
theorem dX8_init_220 : decode cX8_init 220 = .ok (.aload_n 0, 1) := by decide +kernel
theorem dX8_init_221 : decode cX8_init 221 = .ok (.sipush 32000, 3) := by decide +kernel
theorem dX8_init_224 : decode cX8_init 224 = .ok (.newarray .long, 2) := by decide +kernel
theorem dX8_init_226 : decode cX8_init 226 = .ok (.putfield 93, 3) := by decide +kernel
theorem zk_770 : Cond.fieldLink RX8 93 RX8 "markBits" "[J" ∈ zz_w := zz_in (List.mem_append_right _ (List.mem_append_right _ (List.mem_append_right _ (List.mem_append_right _ (List.mem_append_left _ (List.mem_of_getElem? (i := 50) (by decide +kernel))))))) rfl
theorem zu_X8_93 : zz_fw RX8 93 7 35 true (.array .long) := ⟨RX8, TX8, 37, tyX8, rfl, zi_X8, by decide, zk_770, tyX8_ok, nmX8, rfl, by decide +kernel, fun _ => rfl⟩
theorem dX8_init_229 : decode cX8_init 229 = .ok (.aload_n 0, 1) := by decide +kernel
theorem dX8_init_230 : decode cX8_init 230 = .ok (.sipush 32000, 3) := by decide +kernel
theorem dX8_init_233 : decode cX8_init 233 = .ok (.newarray .boolean, 2) := by decide +kernel
theorem dX8_init_235 : decode cX8_init 235 = .ok (.putfield 96, 3) := by decide +kernel
theorem zk_771 : Cond.fieldLink RX8 96 RX8 "markPins" "[Z" ∈ zz_w := zz_in (List.mem_append_right _ (List.mem_append_right _ (List.mem_append_right _ (List.mem_append_right _ (List.mem_append_left _ (List.mem_of_getElem? (i := 51) (by decide +kernel))))))) rfl
theorem zu_X8_96 : zz_fw RX8 96 7 36 true (.array .boolean) := ⟨RX8, TX8, 37, tyX8, rfl, zi_X8, by decide, zk_771, tyX8_ok, nmX8, rfl, by decide +kernel, fun _ => rfl⟩
theorem dX8_init_238 : decode cX8_init 238 = .ok (.return_, 1) := by decide +kernel
abbrev rm_ci_Model : Room := { frames := 1, cells := 29, slots := 76755, locals := 12 }
abbrev po_ci_Model (g : zz_G) (h0 : Nat) : va_W → Prop := fun (u : va_W) => ∃ (e1 : Nat) (e2 : Nat) (e3 : Nat) (e4 : Nat) (e5 : Nat) (e6 : Nat) (e7 : Nat) (e8 : Nat) (e9 : Nat) (e10 : Nat) (e11 : Nat) (e12 : Nat) (e13 : Nat) (e14 : Nat) (e15 : Nat) (e16 : Nat) (e17 : Nat) (e18 : Nat) (e19 : Nat) (e20 : Nat) (e21 : Nat) (e22 : Nat) (e23 : Nat) (e24 : Nat) (e25 : Nat) (e26 : Nat) (e27 : Nat) (e28 : Nat) (e29 : Nat), u = [(h0, .inr (7, [.int 0, .int 0, .ref e1, .ref e2, .ref e3, .ref e4, .ref e5, .ref e6, .ref e7, .int 0, .ref e8, .ref e9, .ref e10, .ref e11, .int 0, .int 0, .ref e12, .ref e13, .ref e14, .ref e15, .int 0, .ref e16, .ref e17, .ref e18, .ref e19, .int 0, .ref e20, .ref e21, .ref e22, .ref e23, .ref e24, .ref e25, .ref e26, .int 0, .ref e27, .ref e28, .ref e29])), (e1, .inl (g.2.1, 60, .inl (fun _ => 0))), (e2, .inl (g.2.1, 60, .inl (fun _ => 0))), (e3, .inl (g.2.1, 60, .inl (fun _ => 0))), (e4, .inl (g.2.1, 60, .inl (fun _ => 0))), (e5, .inl (g.2.1, 60, .inl (fun _ => 0))), (e6, .inl (g.2.2.1, 4000, .inr (.inl (fun _ => 0)))), (e7, .inl (g.2.2.2.1, 4000, .inl (fun _ => 0))), (e8, .inl (g.2.1, 4, .inl (fun _ => 0))), (e9, .inl (g.2.1, 5, .inl (fun _ => 0))), (e10, .inl (g.2.1, 5, .inl (fun _ => 0))), (e11, .inl (g.2.1, 5, .inl (fun _ => 0))), (e12, .inl (g.2.1, 4, .inl (fun _ => 0))), (e13, .inl (g.2.2.1, 200, .inr (.inl (fun _ => 0)))), (e14, .inl (g.2.2.2.1, 3600, .inl (fun _ => 0))), (e15, .inl (g.2.1, 60, .inl (fun _ => 0))), (e16, .inl (g.2.1, 24, .inl (fun _ => 0))), (e17, .inl (g.2.1, 24, .inl (fun _ => 0))), (e18, .inl (g.2.1, 24, .inl (fun _ => 0))), (e19, .inl (g.2.2.1, 384, .inr (.inl (fun _ => 0)))), (e20, .inl (g.2.1, 12, .inl (fun _ => 0))), (e21, .inl (g.2.1, 12, .inl (fun _ => 0))), (e22, .inl (g.2.1, 12, .inl (fun _ => 0))), (e23, .inl (g.2.2.1, 12, .inr (.inl (fun _ => 0)))), (e24, .inl (g.2.2.1, 12, .inr (.inl (fun _ => 0)))), (e25, .inl (g.2.1, 24, .inl (fun _ => 0))), (e26, .inl (g.2.1, 24, .inl (fun _ => 0))), (e27, .inl (g.2.1, 8, .inl (fun _ => 0))), (e28, .inl (g.2.2.1, 32000, .inr (.inl (fun _ => 0)))), (e29, .inl (g.2.2.2.1, 32000, .inl (fun _ => 0)))]
set_option maxHeartbeats 4000000 in
set_option maxRecDepth 100000 in
theorem ci_Model (g : zz_G) (h0 : Nat) : zz_V g yX8_init (.code yX8_init cX8_init 1 none) rm_ci_Model [.ref h0] [(h0, .inr (7, [.int 0, .int 0, .null, .null, .null, .null, .null, .null, .null, .int 0, .null, .null, .null, .null, .int 0, .int 0, .null, .null, .null, .null, .int 0, .null, .null, .null, .null, .int 0, .null, .null, .null, .null, .null, .null, .null, .int 0, .null, .null, .null]))] (po_ci_Model g h0) := by
  refine zz_V.intro (own := RX8) (cc := cX8_init) (nL := 1) (by decide) rfl (Nat.le_of_ble_eq_true rfl) ?_
  intro p l e s m args below meth c A H locs ls hC hnm hZ hl
  obtain ⟨hx, hb, hml, hown, hts, hr, hlocks, hK⟩ := id hC
  have hl : lv_has ls 1 [(0, .ref h0)] := hl
  have hZ : zz_Z g A s.heap [(h0, .inr (7, [.int 0, .int 0, .null, .null, .null, .null, .null, .null, .null, .int 0, .null, .null, .null, .null, .int 0, .int 0, .null, .null, .null, .null, .int 0, .null, .null, .null, .null, .int 0, .null, .null, .null, .null, .null, .null, .null, .int 0, .null, .null, .null]))] H locs := hZ
  refine lv_aload_n hx hb dX8_init_0 rfl (lv_at hl 0 rfl) ?_
  refine zz_obj hC hl zk_734 zk_18 zk_19 (Nat.le_of_ble_eq_true rfl) (Nat.le_of_ble_eq_true rfl) dX8_init_1 ?_
  refine lv_aload_n hx hb dX8_init_4 rfl (lv_at hl 0 rfl) ?_
  refine lv_bipush (v := 60) hx hb dX8_init_5 (by decide) ?_
  refine zz_newi (N' := 60) hC hZ zk_87 (by decide) (by decide) (Nat.le_of_ble_eq_true rfl) (Nat.le_of_ble_eq_true rfl) (Nat.le_of_ble_eq_true rfl) dX8_init_7 (fun q1 H hZ => ?_)
  have hZ : zz_Z g A s.heap [(h0, .inr (7, [.int 0, .int 0, .null, .null, .null, .null, .null, .null, .null, .int 0, .null, .null, .null, .null, .int 0, .int 0, .null, .null, .null, .null, .int 0, .null, .null, .null, .null, .int 0, .null, .null, .null, .null, .null, .null, .null, .int 0, .null, .null, .null])), (q1, .inl (g.2.1, 60, .inl (fun _ => 0)))] H locs := hZ
  refine zz_putF hC hnm hZ 0 rfl zu_X8_7 rfl rfl (Nat.le_of_ble_eq_true rfl) dX8_init_9 (fun H locs hZ => ?_)
  have hZ : zz_Z g A s.heap [(h0, .inr (7, [.int 0, .int 0, .ref q1, .null, .null, .null, .null, .null, .null, .int 0, .null, .null, .null, .null, .int 0, .int 0, .null, .null, .null, .null, .int 0, .null, .null, .null, .null, .int 0, .null, .null, .null, .null, .null, .null, .null, .int 0, .null, .null, .null])), (q1, .inl (g.2.1, 60, .inl (fun _ => 0)))] H locs := hZ
  refine lv_aload_n hx hb dX8_init_12 rfl (lv_at hl 0 rfl) ?_
  refine lv_bipush (v := 60) hx hb dX8_init_13 (by decide) ?_
  refine zz_newi (N' := 60) hC hZ zk_87 (by decide) (by decide) (Nat.le_of_ble_eq_true rfl) (Nat.le_of_ble_eq_true rfl) (Nat.le_of_ble_eq_true rfl) dX8_init_15 (fun q2 H hZ => ?_)
  have hZ : zz_Z g A s.heap [(h0, .inr (7, [.int 0, .int 0, .ref q1, .null, .null, .null, .null, .null, .null, .int 0, .null, .null, .null, .null, .int 0, .int 0, .null, .null, .null, .null, .int 0, .null, .null, .null, .null, .int 0, .null, .null, .null, .null, .null, .null, .null, .int 0, .null, .null, .null])), (q1, .inl (g.2.1, 60, .inl (fun _ => 0))), (q2, .inl (g.2.1, 60, .inl (fun _ => 0)))] H locs := hZ
  refine zz_putF hC hnm hZ 0 rfl zu_X8_13 rfl rfl (Nat.le_of_ble_eq_true rfl) dX8_init_17 (fun H locs hZ => ?_)
  have hZ : zz_Z g A s.heap [(h0, .inr (7, [.int 0, .int 0, .ref q1, .ref q2, .null, .null, .null, .null, .null, .int 0, .null, .null, .null, .null, .int 0, .int 0, .null, .null, .null, .null, .int 0, .null, .null, .null, .null, .int 0, .null, .null, .null, .null, .null, .null, .null, .int 0, .null, .null, .null])), (q1, .inl (g.2.1, 60, .inl (fun _ => 0))), (q2, .inl (g.2.1, 60, .inl (fun _ => 0)))] H locs := hZ
  refine lv_aload_n hx hb dX8_init_20 rfl (lv_at hl 0 rfl) ?_
  refine lv_bipush (v := 60) hx hb dX8_init_21 (by decide) ?_
  refine zz_newi (N' := 60) hC hZ zk_87 (by decide) (by decide) (Nat.le_of_ble_eq_true rfl) (Nat.le_of_ble_eq_true rfl) (Nat.le_of_ble_eq_true rfl) dX8_init_23 (fun q3 H hZ => ?_)
  have hZ : zz_Z g A s.heap [(h0, .inr (7, [.int 0, .int 0, .ref q1, .ref q2, .null, .null, .null, .null, .null, .int 0, .null, .null, .null, .null, .int 0, .int 0, .null, .null, .null, .null, .int 0, .null, .null, .null, .null, .int 0, .null, .null, .null, .null, .null, .null, .null, .int 0, .null, .null, .null])), (q1, .inl (g.2.1, 60, .inl (fun _ => 0))), (q2, .inl (g.2.1, 60, .inl (fun _ => 0))), (q3, .inl (g.2.1, 60, .inl (fun _ => 0)))] H locs := hZ
  refine zz_putF hC hnm hZ 0 rfl zu_X8_16 rfl rfl (Nat.le_of_ble_eq_true rfl) dX8_init_25 (fun H locs hZ => ?_)
  have hZ : zz_Z g A s.heap [(h0, .inr (7, [.int 0, .int 0, .ref q1, .ref q2, .ref q3, .null, .null, .null, .null, .int 0, .null, .null, .null, .null, .int 0, .int 0, .null, .null, .null, .null, .int 0, .null, .null, .null, .null, .int 0, .null, .null, .null, .null, .null, .null, .null, .int 0, .null, .null, .null])), (q1, .inl (g.2.1, 60, .inl (fun _ => 0))), (q2, .inl (g.2.1, 60, .inl (fun _ => 0))), (q3, .inl (g.2.1, 60, .inl (fun _ => 0)))] H locs := hZ
  refine lv_aload_n hx hb dX8_init_28 rfl (lv_at hl 0 rfl) ?_
  refine lv_bipush (v := 60) hx hb dX8_init_29 (by decide) ?_
  refine zz_newi (N' := 60) hC hZ zk_87 (by decide) (by decide) (Nat.le_of_ble_eq_true rfl) (Nat.le_of_ble_eq_true rfl) (Nat.le_of_ble_eq_true rfl) dX8_init_31 (fun q4 H hZ => ?_)
  have hZ : zz_Z g A s.heap [(h0, .inr (7, [.int 0, .int 0, .ref q1, .ref q2, .ref q3, .null, .null, .null, .null, .int 0, .null, .null, .null, .null, .int 0, .int 0, .null, .null, .null, .null, .int 0, .null, .null, .null, .null, .int 0, .null, .null, .null, .null, .null, .null, .null, .int 0, .null, .null, .null])), (q1, .inl (g.2.1, 60, .inl (fun _ => 0))), (q2, .inl (g.2.1, 60, .inl (fun _ => 0))), (q3, .inl (g.2.1, 60, .inl (fun _ => 0))), (q4, .inl (g.2.1, 60, .inl (fun _ => 0)))] H locs := hZ
  refine zz_putF hC hnm hZ 0 rfl zu_X8_19 rfl rfl (Nat.le_of_ble_eq_true rfl) dX8_init_33 (fun H locs hZ => ?_)
  have hZ : zz_Z g A s.heap [(h0, .inr (7, [.int 0, .int 0, .ref q1, .ref q2, .ref q3, .ref q4, .null, .null, .null, .int 0, .null, .null, .null, .null, .int 0, .int 0, .null, .null, .null, .null, .int 0, .null, .null, .null, .null, .int 0, .null, .null, .null, .null, .null, .null, .null, .int 0, .null, .null, .null])), (q1, .inl (g.2.1, 60, .inl (fun _ => 0))), (q2, .inl (g.2.1, 60, .inl (fun _ => 0))), (q3, .inl (g.2.1, 60, .inl (fun _ => 0))), (q4, .inl (g.2.1, 60, .inl (fun _ => 0)))] H locs := hZ
  refine lv_aload_n hx hb dX8_init_36 rfl (lv_at hl 0 rfl) ?_
  refine lv_bipush (v := 60) hx hb dX8_init_37 (by decide) ?_
  refine zz_newi (N' := 60) hC hZ zk_87 (by decide) (by decide) (Nat.le_of_ble_eq_true rfl) (Nat.le_of_ble_eq_true rfl) (Nat.le_of_ble_eq_true rfl) dX8_init_39 (fun q5 H hZ => ?_)
  have hZ : zz_Z g A s.heap [(h0, .inr (7, [.int 0, .int 0, .ref q1, .ref q2, .ref q3, .ref q4, .null, .null, .null, .int 0, .null, .null, .null, .null, .int 0, .int 0, .null, .null, .null, .null, .int 0, .null, .null, .null, .null, .int 0, .null, .null, .null, .null, .null, .null, .null, .int 0, .null, .null, .null])), (q1, .inl (g.2.1, 60, .inl (fun _ => 0))), (q2, .inl (g.2.1, 60, .inl (fun _ => 0))), (q3, .inl (g.2.1, 60, .inl (fun _ => 0))), (q4, .inl (g.2.1, 60, .inl (fun _ => 0))), (q5, .inl (g.2.1, 60, .inl (fun _ => 0)))] H locs := hZ
  refine zz_putF hC hnm hZ 0 rfl zu_X8_22 rfl rfl (Nat.le_of_ble_eq_true rfl) dX8_init_41 (fun H locs hZ => ?_)
  have hZ : zz_Z g A s.heap [(h0, .inr (7, [.int 0, .int 0, .ref q1, .ref q2, .ref q3, .ref q4, .ref q5, .null, .null, .int 0, .null, .null, .null, .null, .int 0, .int 0, .null, .null, .null, .null, .int 0, .null, .null, .null, .null, .int 0, .null, .null, .null, .null, .null, .null, .null, .int 0, .null, .null, .null])), (q1, .inl (g.2.1, 60, .inl (fun _ => 0))), (q2, .inl (g.2.1, 60, .inl (fun _ => 0))), (q3, .inl (g.2.1, 60, .inl (fun _ => 0))), (q4, .inl (g.2.1, 60, .inl (fun _ => 0))), (q5, .inl (g.2.1, 60, .inl (fun _ => 0)))] H locs := hZ
  refine lv_aload_n hx hb dX8_init_44 rfl (lv_at hl 0 rfl) ?_
  refine lv_sipush (v := 4000) hx hb dX8_init_45 (by decide) ?_
  refine zz_newl (N' := 4000) hC hZ zk_88 (by decide) (by decide) (Nat.le_of_ble_eq_true rfl) (Nat.le_of_ble_eq_true rfl) (Nat.le_of_ble_eq_true rfl) dX8_init_48 (fun q6 H hZ => ?_)
  have hZ : zz_Z g A s.heap [(h0, .inr (7, [.int 0, .int 0, .ref q1, .ref q2, .ref q3, .ref q4, .ref q5, .null, .null, .int 0, .null, .null, .null, .null, .int 0, .int 0, .null, .null, .null, .null, .int 0, .null, .null, .null, .null, .int 0, .null, .null, .null, .null, .null, .null, .null, .int 0, .null, .null, .null])), (q1, .inl (g.2.1, 60, .inl (fun _ => 0))), (q2, .inl (g.2.1, 60, .inl (fun _ => 0))), (q3, .inl (g.2.1, 60, .inl (fun _ => 0))), (q4, .inl (g.2.1, 60, .inl (fun _ => 0))), (q5, .inl (g.2.1, 60, .inl (fun _ => 0))), (q6, .inl (g.2.2.1, 4000, .inr (.inl (fun _ => 0))))] H locs := hZ
  refine zz_putF hC hnm hZ 0 rfl zu_X8_25 rfl rfl (Nat.le_of_ble_eq_true rfl) dX8_init_50 (fun H locs hZ => ?_)
  have hZ : zz_Z g A s.heap [(h0, .inr (7, [.int 0, .int 0, .ref q1, .ref q2, .ref q3, .ref q4, .ref q5, .ref q6, .null, .int 0, .null, .null, .null, .null, .int 0, .int 0, .null, .null, .null, .null, .int 0, .null, .null, .null, .null, .int 0, .null, .null, .null, .null, .null, .null, .null, .int 0, .null, .null, .null])), (q1, .inl (g.2.1, 60, .inl (fun _ => 0))), (q2, .inl (g.2.1, 60, .inl (fun _ => 0))), (q3, .inl (g.2.1, 60, .inl (fun _ => 0))), (q4, .inl (g.2.1, 60, .inl (fun _ => 0))), (q5, .inl (g.2.1, 60, .inl (fun _ => 0))), (q6, .inl (g.2.2.1, 4000, .inr (.inl (fun _ => 0))))] H locs := hZ
  refine lv_aload_n hx hb dX8_init_53 rfl (lv_at hl 0 rfl) ?_
  refine lv_sipush (v := 4000) hx hb dX8_init_54 (by decide) ?_
  refine zz_newz (N' := 4000) hC hZ zk_89 (by decide) (by decide) (Nat.le_of_ble_eq_true rfl) (Nat.le_of_ble_eq_true rfl) (Nat.le_of_ble_eq_true rfl) dX8_init_57 (fun q7 H hZ => ?_)
  have hZ : zz_Z g A s.heap [(h0, .inr (7, [.int 0, .int 0, .ref q1, .ref q2, .ref q3, .ref q4, .ref q5, .ref q6, .null, .int 0, .null, .null, .null, .null, .int 0, .int 0, .null, .null, .null, .null, .int 0, .null, .null, .null, .null, .int 0, .null, .null, .null, .null, .null, .null, .null, .int 0, .null, .null, .null])), (q1, .inl (g.2.1, 60, .inl (fun _ => 0))), (q2, .inl (g.2.1, 60, .inl (fun _ => 0))), (q3, .inl (g.2.1, 60, .inl (fun _ => 0))), (q4, .inl (g.2.1, 60, .inl (fun _ => 0))), (q5, .inl (g.2.1, 60, .inl (fun _ => 0))), (q6, .inl (g.2.2.1, 4000, .inr (.inl (fun _ => 0)))), (q7, .inl (g.2.2.2.1, 4000, .inl (fun _ => 0)))] H locs := hZ
  refine zz_putF hC hnm hZ 0 rfl zu_X8_29 rfl rfl (Nat.le_of_ble_eq_true rfl) dX8_init_59 (fun H locs hZ => ?_)
  have hZ : zz_Z g A s.heap [(h0, .inr (7, [.int 0, .int 0, .ref q1, .ref q2, .ref q3, .ref q4, .ref q5, .ref q6, .ref q7, .int 0, .null, .null, .null, .null, .int 0, .int 0, .null, .null, .null, .null, .int 0, .null, .null, .null, .null, .int 0, .null, .null, .null, .null, .null, .null, .null, .int 0, .null, .null, .null])), (q1, .inl (g.2.1, 60, .inl (fun _ => 0))), (q2, .inl (g.2.1, 60, .inl (fun _ => 0))), (q3, .inl (g.2.1, 60, .inl (fun _ => 0))), (q4, .inl (g.2.1, 60, .inl (fun _ => 0))), (q5, .inl (g.2.1, 60, .inl (fun _ => 0))), (q6, .inl (g.2.2.1, 4000, .inr (.inl (fun _ => 0)))), (q7, .inl (g.2.2.2.1, 4000, .inl (fun _ => 0)))] H locs := hZ
  refine lv_aload_n hx hb dX8_init_62 rfl (lv_at hl 0 rfl) ?_
  refine lv_iconst (v := 4) hx hb dX8_init_63 (by decide) ?_
  refine zz_newi (N' := 4) hC hZ zk_87 (by decide) (by decide) (Nat.le_of_ble_eq_true rfl) (Nat.le_of_ble_eq_true rfl) (Nat.le_of_ble_eq_true rfl) dX8_init_64 (fun q8 H hZ => ?_)
  have hZ : zz_Z g A s.heap [(h0, .inr (7, [.int 0, .int 0, .ref q1, .ref q2, .ref q3, .ref q4, .ref q5, .ref q6, .ref q7, .int 0, .null, .null, .null, .null, .int 0, .int 0, .null, .null, .null, .null, .int 0, .null, .null, .null, .null, .int 0, .null, .null, .null, .null, .null, .null, .null, .int 0, .null, .null, .null])), (q1, .inl (g.2.1, 60, .inl (fun _ => 0))), (q2, .inl (g.2.1, 60, .inl (fun _ => 0))), (q3, .inl (g.2.1, 60, .inl (fun _ => 0))), (q4, .inl (g.2.1, 60, .inl (fun _ => 0))), (q5, .inl (g.2.1, 60, .inl (fun _ => 0))), (q6, .inl (g.2.2.1, 4000, .inr (.inl (fun _ => 0)))), (q7, .inl (g.2.2.2.1, 4000, .inl (fun _ => 0))), (q8, .inl (g.2.1, 4, .inl (fun _ => 0)))] H locs := hZ
  refine zz_putF hC hnm hZ 0 rfl zu_X8_33 rfl rfl (Nat.le_of_ble_eq_true rfl) dX8_init_66 (fun H locs hZ => ?_)
  have hZ : zz_Z g A s.heap [(h0, .inr (7, [.int 0, .int 0, .ref q1, .ref q2, .ref q3, .ref q4, .ref q5, .ref q6, .ref q7, .int 0, .ref q8, .null, .null, .null, .int 0, .int 0, .null, .null, .null, .null, .int 0, .null, .null, .null, .null, .int 0, .null, .null, .null, .null, .null, .null, .null, .int 0, .null, .null, .null])), (q1, .inl (g.2.1, 60, .inl (fun _ => 0))), (q2, .inl (g.2.1, 60, .inl (fun _ => 0))), (q3, .inl (g.2.1, 60, .inl (fun _ => 0))), (q4, .inl (g.2.1, 60, .inl (fun _ => 0))), (q5, .inl (g.2.1, 60, .inl (fun _ => 0))), (q6, .inl (g.2.2.1, 4000, .inr (.inl (fun _ => 0)))), (q7, .inl (g.2.2.2.1, 4000, .inl (fun _ => 0))), (q8, .inl (g.2.1, 4, .inl (fun _ => 0)))] H locs := hZ
  refine lv_aload_n hx hb dX8_init_69 rfl (lv_at hl 0 rfl) ?_
  refine lv_iconst (v := 5) hx hb dX8_init_70 (by decide) ?_
  refine zz_newi (N' := 5) hC hZ zk_87 (by decide) (by decide) (Nat.le_of_ble_eq_true rfl) (Nat.le_of_ble_eq_true rfl) (Nat.le_of_ble_eq_true rfl) dX8_init_71 (fun q9 H hZ => ?_)
  have hZ : zz_Z g A s.heap [(h0, .inr (7, [.int 0, .int 0, .ref q1, .ref q2, .ref q3, .ref q4, .ref q5, .ref q6, .ref q7, .int 0, .ref q8, .null, .null, .null, .int 0, .int 0, .null, .null, .null, .null, .int 0, .null, .null, .null, .null, .int 0, .null, .null, .null, .null, .null, .null, .null, .int 0, .null, .null, .null])), (q1, .inl (g.2.1, 60, .inl (fun _ => 0))), (q2, .inl (g.2.1, 60, .inl (fun _ => 0))), (q3, .inl (g.2.1, 60, .inl (fun _ => 0))), (q4, .inl (g.2.1, 60, .inl (fun _ => 0))), (q5, .inl (g.2.1, 60, .inl (fun _ => 0))), (q6, .inl (g.2.2.1, 4000, .inr (.inl (fun _ => 0)))), (q7, .inl (g.2.2.2.1, 4000, .inl (fun _ => 0))), (q8, .inl (g.2.1, 4, .inl (fun _ => 0))), (q9, .inl (g.2.1, 5, .inl (fun _ => 0)))] H locs := hZ
  refine zz_putF hC hnm hZ 0 rfl zu_X8_36 rfl rfl (Nat.le_of_ble_eq_true rfl) dX8_init_73 (fun H locs hZ => ?_)
  have hZ : zz_Z g A s.heap [(h0, .inr (7, [.int 0, .int 0, .ref q1, .ref q2, .ref q3, .ref q4, .ref q5, .ref q6, .ref q7, .int 0, .ref q8, .ref q9, .null, .null, .int 0, .int 0, .null, .null, .null, .null, .int 0, .null, .null, .null, .null, .int 0, .null, .null, .null, .null, .null, .null, .null, .int 0, .null, .null, .null])), (q1, .inl (g.2.1, 60, .inl (fun _ => 0))), (q2, .inl (g.2.1, 60, .inl (fun _ => 0))), (q3, .inl (g.2.1, 60, .inl (fun _ => 0))), (q4, .inl (g.2.1, 60, .inl (fun _ => 0))), (q5, .inl (g.2.1, 60, .inl (fun _ => 0))), (q6, .inl (g.2.2.1, 4000, .inr (.inl (fun _ => 0)))), (q7, .inl (g.2.2.2.1, 4000, .inl (fun _ => 0))), (q8, .inl (g.2.1, 4, .inl (fun _ => 0))), (q9, .inl (g.2.1, 5, .inl (fun _ => 0)))] H locs := hZ
  refine lv_aload_n hx hb dX8_init_76 rfl (lv_at hl 0 rfl) ?_
  refine lv_iconst (v := 5) hx hb dX8_init_77 (by decide) ?_
  refine zz_newi (N' := 5) hC hZ zk_87 (by decide) (by decide) (Nat.le_of_ble_eq_true rfl) (Nat.le_of_ble_eq_true rfl) (Nat.le_of_ble_eq_true rfl) dX8_init_78 (fun q10 H hZ => ?_)
  have hZ : zz_Z g A s.heap [(h0, .inr (7, [.int 0, .int 0, .ref q1, .ref q2, .ref q3, .ref q4, .ref q5, .ref q6, .ref q7, .int 0, .ref q8, .ref q9, .null, .null, .int 0, .int 0, .null, .null, .null, .null, .int 0, .null, .null, .null, .null, .int 0, .null, .null, .null, .null, .null, .null, .null, .int 0, .null, .null, .null])), (q1, .inl (g.2.1, 60, .inl (fun _ => 0))), (q2, .inl (g.2.1, 60, .inl (fun _ => 0))), (q3, .inl (g.2.1, 60, .inl (fun _ => 0))), (q4, .inl (g.2.1, 60, .inl (fun _ => 0))), (q5, .inl (g.2.1, 60, .inl (fun _ => 0))), (q6, .inl (g.2.2.1, 4000, .inr (.inl (fun _ => 0)))), (q7, .inl (g.2.2.2.1, 4000, .inl (fun _ => 0))), (q8, .inl (g.2.1, 4, .inl (fun _ => 0))), (q9, .inl (g.2.1, 5, .inl (fun _ => 0))), (q10, .inl (g.2.1, 5, .inl (fun _ => 0)))] H locs := hZ
  refine zz_putF hC hnm hZ 0 rfl zu_X8_39 rfl rfl (Nat.le_of_ble_eq_true rfl) dX8_init_80 (fun H locs hZ => ?_)
  have hZ : zz_Z g A s.heap [(h0, .inr (7, [.int 0, .int 0, .ref q1, .ref q2, .ref q3, .ref q4, .ref q5, .ref q6, .ref q7, .int 0, .ref q8, .ref q9, .ref q10, .null, .int 0, .int 0, .null, .null, .null, .null, .int 0, .null, .null, .null, .null, .int 0, .null, .null, .null, .null, .null, .null, .null, .int 0, .null, .null, .null])), (q1, .inl (g.2.1, 60, .inl (fun _ => 0))), (q2, .inl (g.2.1, 60, .inl (fun _ => 0))), (q3, .inl (g.2.1, 60, .inl (fun _ => 0))), (q4, .inl (g.2.1, 60, .inl (fun _ => 0))), (q5, .inl (g.2.1, 60, .inl (fun _ => 0))), (q6, .inl (g.2.2.1, 4000, .inr (.inl (fun _ => 0)))), (q7, .inl (g.2.2.2.1, 4000, .inl (fun _ => 0))), (q8, .inl (g.2.1, 4, .inl (fun _ => 0))), (q9, .inl (g.2.1, 5, .inl (fun _ => 0))), (q10, .inl (g.2.1, 5, .inl (fun _ => 0)))] H locs := hZ
  refine lv_aload_n hx hb dX8_init_83 rfl (lv_at hl 0 rfl) ?_
  refine lv_iconst (v := 5) hx hb dX8_init_84 (by decide) ?_
  refine zz_newi (N' := 5) hC hZ zk_87 (by decide) (by decide) (Nat.le_of_ble_eq_true rfl) (Nat.le_of_ble_eq_true rfl) (Nat.le_of_ble_eq_true rfl) dX8_init_85 (fun q11 H hZ => ?_)
  have hZ : zz_Z g A s.heap [(h0, .inr (7, [.int 0, .int 0, .ref q1, .ref q2, .ref q3, .ref q4, .ref q5, .ref q6, .ref q7, .int 0, .ref q8, .ref q9, .ref q10, .null, .int 0, .int 0, .null, .null, .null, .null, .int 0, .null, .null, .null, .null, .int 0, .null, .null, .null, .null, .null, .null, .null, .int 0, .null, .null, .null])), (q1, .inl (g.2.1, 60, .inl (fun _ => 0))), (q2, .inl (g.2.1, 60, .inl (fun _ => 0))), (q3, .inl (g.2.1, 60, .inl (fun _ => 0))), (q4, .inl (g.2.1, 60, .inl (fun _ => 0))), (q5, .inl (g.2.1, 60, .inl (fun _ => 0))), (q6, .inl (g.2.2.1, 4000, .inr (.inl (fun _ => 0)))), (q7, .inl (g.2.2.2.1, 4000, .inl (fun _ => 0))), (q8, .inl (g.2.1, 4, .inl (fun _ => 0))), (q9, .inl (g.2.1, 5, .inl (fun _ => 0))), (q10, .inl (g.2.1, 5, .inl (fun _ => 0))), (q11, .inl (g.2.1, 5, .inl (fun _ => 0)))] H locs := hZ
  refine zz_putF hC hnm hZ 0 rfl zu_X8_42 rfl rfl (Nat.le_of_ble_eq_true rfl) dX8_init_87 (fun H locs hZ => ?_)
  have hZ : zz_Z g A s.heap [(h0, .inr (7, [.int 0, .int 0, .ref q1, .ref q2, .ref q3, .ref q4, .ref q5, .ref q6, .ref q7, .int 0, .ref q8, .ref q9, .ref q10, .ref q11, .int 0, .int 0, .null, .null, .null, .null, .int 0, .null, .null, .null, .null, .int 0, .null, .null, .null, .null, .null, .null, .null, .int 0, .null, .null, .null])), (q1, .inl (g.2.1, 60, .inl (fun _ => 0))), (q2, .inl (g.2.1, 60, .inl (fun _ => 0))), (q3, .inl (g.2.1, 60, .inl (fun _ => 0))), (q4, .inl (g.2.1, 60, .inl (fun _ => 0))), (q5, .inl (g.2.1, 60, .inl (fun _ => 0))), (q6, .inl (g.2.2.1, 4000, .inr (.inl (fun _ => 0)))), (q7, .inl (g.2.2.2.1, 4000, .inl (fun _ => 0))), (q8, .inl (g.2.1, 4, .inl (fun _ => 0))), (q9, .inl (g.2.1, 5, .inl (fun _ => 0))), (q10, .inl (g.2.1, 5, .inl (fun _ => 0))), (q11, .inl (g.2.1, 5, .inl (fun _ => 0)))] H locs := hZ
  refine lv_aload_n hx hb dX8_init_90 rfl (lv_at hl 0 rfl) ?_
  refine lv_iconst (v := 4) hx hb dX8_init_91 (by decide) ?_
  refine zz_newi (N' := 4) hC hZ zk_87 (by decide) (by decide) (Nat.le_of_ble_eq_true rfl) (Nat.le_of_ble_eq_true rfl) (Nat.le_of_ble_eq_true rfl) dX8_init_92 (fun q12 H hZ => ?_)
  have hZ : zz_Z g A s.heap [(h0, .inr (7, [.int 0, .int 0, .ref q1, .ref q2, .ref q3, .ref q4, .ref q5, .ref q6, .ref q7, .int 0, .ref q8, .ref q9, .ref q10, .ref q11, .int 0, .int 0, .null, .null, .null, .null, .int 0, .null, .null, .null, .null, .int 0, .null, .null, .null, .null, .null, .null, .null, .int 0, .null, .null, .null])), (q1, .inl (g.2.1, 60, .inl (fun _ => 0))), (q2, .inl (g.2.1, 60, .inl (fun _ => 0))), (q3, .inl (g.2.1, 60, .inl (fun _ => 0))), (q4, .inl (g.2.1, 60, .inl (fun _ => 0))), (q5, .inl (g.2.1, 60, .inl (fun _ => 0))), (q6, .inl (g.2.2.1, 4000, .inr (.inl (fun _ => 0)))), (q7, .inl (g.2.2.2.1, 4000, .inl (fun _ => 0))), (q8, .inl (g.2.1, 4, .inl (fun _ => 0))), (q9, .inl (g.2.1, 5, .inl (fun _ => 0))), (q10, .inl (g.2.1, 5, .inl (fun _ => 0))), (q11, .inl (g.2.1, 5, .inl (fun _ => 0))), (q12, .inl (g.2.1, 4, .inl (fun _ => 0)))] H locs := hZ
  refine zz_putF hC hnm hZ 0 rfl zu_X8_45 rfl rfl (Nat.le_of_ble_eq_true rfl) dX8_init_94 (fun H locs hZ => ?_)
  have hZ : zz_Z g A s.heap [(h0, .inr (7, [.int 0, .int 0, .ref q1, .ref q2, .ref q3, .ref q4, .ref q5, .ref q6, .ref q7, .int 0, .ref q8, .ref q9, .ref q10, .ref q11, .int 0, .int 0, .ref q12, .null, .null, .null, .int 0, .null, .null, .null, .null, .int 0, .null, .null, .null, .null, .null, .null, .null, .int 0, .null, .null, .null])), (q1, .inl (g.2.1, 60, .inl (fun _ => 0))), (q2, .inl (g.2.1, 60, .inl (fun _ => 0))), (q3, .inl (g.2.1, 60, .inl (fun _ => 0))), (q4, .inl (g.2.1, 60, .inl (fun _ => 0))), (q5, .inl (g.2.1, 60, .inl (fun _ => 0))), (q6, .inl (g.2.2.1, 4000, .inr (.inl (fun _ => 0)))), (q7, .inl (g.2.2.2.1, 4000, .inl (fun _ => 0))), (q8, .inl (g.2.1, 4, .inl (fun _ => 0))), (q9, .inl (g.2.1, 5, .inl (fun _ => 0))), (q10, .inl (g.2.1, 5, .inl (fun _ => 0))), (q11, .inl (g.2.1, 5, .inl (fun _ => 0))), (q12, .inl (g.2.1, 4, .inl (fun _ => 0)))] H locs := hZ
  refine lv_aload_n hx hb dX8_init_97 rfl (lv_at hl 0 rfl) ?_
  refine lv_sipush (v := 200) hx hb dX8_init_98 (by decide) ?_
  refine zz_newl (N' := 200) hC hZ zk_88 (by decide) (by decide) (Nat.le_of_ble_eq_true rfl) (Nat.le_of_ble_eq_true rfl) (Nat.le_of_ble_eq_true rfl) dX8_init_101 (fun q13 H hZ => ?_)
  have hZ : zz_Z g A s.heap [(h0, .inr (7, [.int 0, .int 0, .ref q1, .ref q2, .ref q3, .ref q4, .ref q5, .ref q6, .ref q7, .int 0, .ref q8, .ref q9, .ref q10, .ref q11, .int 0, .int 0, .ref q12, .null, .null, .null, .int 0, .null, .null, .null, .null, .int 0, .null, .null, .null, .null, .null, .null, .null, .int 0, .null, .null, .null])), (q1, .inl (g.2.1, 60, .inl (fun _ => 0))), (q2, .inl (g.2.1, 60, .inl (fun _ => 0))), (q3, .inl (g.2.1, 60, .inl (fun _ => 0))), (q4, .inl (g.2.1, 60, .inl (fun _ => 0))), (q5, .inl (g.2.1, 60, .inl (fun _ => 0))), (q6, .inl (g.2.2.1, 4000, .inr (.inl (fun _ => 0)))), (q7, .inl (g.2.2.2.1, 4000, .inl (fun _ => 0))), (q8, .inl (g.2.1, 4, .inl (fun _ => 0))), (q9, .inl (g.2.1, 5, .inl (fun _ => 0))), (q10, .inl (g.2.1, 5, .inl (fun _ => 0))), (q11, .inl (g.2.1, 5, .inl (fun _ => 0))), (q12, .inl (g.2.1, 4, .inl (fun _ => 0))), (q13, .inl (g.2.2.1, 200, .inr (.inl (fun _ => 0))))] H locs := hZ
  refine zz_putF hC hnm hZ 0 rfl zu_X8_48 rfl rfl (Nat.le_of_ble_eq_true rfl) dX8_init_103 (fun H locs hZ => ?_)
  have hZ : zz_Z g A s.heap [(h0, .inr (7, [.int 0, .int 0, .ref q1, .ref q2, .ref q3, .ref q4, .ref q5, .ref q6, .ref q7, .int 0, .ref q8, .ref q9, .ref q10, .ref q11, .int 0, .int 0, .ref q12, .ref q13, .null, .null, .int 0, .null, .null, .null, .null, .int 0, .null, .null, .null, .null, .null, .null, .null, .int 0, .null, .null, .null])), (q1, .inl (g.2.1, 60, .inl (fun _ => 0))), (q2, .inl (g.2.1, 60, .inl (fun _ => 0))), (q3, .inl (g.2.1, 60, .inl (fun _ => 0))), (q4, .inl (g.2.1, 60, .inl (fun _ => 0))), (q5, .inl (g.2.1, 60, .inl (fun _ => 0))), (q6, .inl (g.2.2.1, 4000, .inr (.inl (fun _ => 0)))), (q7, .inl (g.2.2.2.1, 4000, .inl (fun _ => 0))), (q8, .inl (g.2.1, 4, .inl (fun _ => 0))), (q9, .inl (g.2.1, 5, .inl (fun _ => 0))), (q10, .inl (g.2.1, 5, .inl (fun _ => 0))), (q11, .inl (g.2.1, 5, .inl (fun _ => 0))), (q12, .inl (g.2.1, 4, .inl (fun _ => 0))), (q13, .inl (g.2.2.1, 200, .inr (.inl (fun _ => 0))))] H locs := hZ
  refine lv_aload_n hx hb dX8_init_106 rfl (lv_at hl 0 rfl) ?_
  refine lv_sipush (v := 3600) hx hb dX8_init_107 (by decide) ?_
  refine zz_newz (N' := 3600) hC hZ zk_89 (by decide) (by decide) (Nat.le_of_ble_eq_true rfl) (Nat.le_of_ble_eq_true rfl) (Nat.le_of_ble_eq_true rfl) dX8_init_110 (fun q14 H hZ => ?_)
  have hZ : zz_Z g A s.heap [(h0, .inr (7, [.int 0, .int 0, .ref q1, .ref q2, .ref q3, .ref q4, .ref q5, .ref q6, .ref q7, .int 0, .ref q8, .ref q9, .ref q10, .ref q11, .int 0, .int 0, .ref q12, .ref q13, .null, .null, .int 0, .null, .null, .null, .null, .int 0, .null, .null, .null, .null, .null, .null, .null, .int 0, .null, .null, .null])), (q1, .inl (g.2.1, 60, .inl (fun _ => 0))), (q2, .inl (g.2.1, 60, .inl (fun _ => 0))), (q3, .inl (g.2.1, 60, .inl (fun _ => 0))), (q4, .inl (g.2.1, 60, .inl (fun _ => 0))), (q5, .inl (g.2.1, 60, .inl (fun _ => 0))), (q6, .inl (g.2.2.1, 4000, .inr (.inl (fun _ => 0)))), (q7, .inl (g.2.2.2.1, 4000, .inl (fun _ => 0))), (q8, .inl (g.2.1, 4, .inl (fun _ => 0))), (q9, .inl (g.2.1, 5, .inl (fun _ => 0))), (q10, .inl (g.2.1, 5, .inl (fun _ => 0))), (q11, .inl (g.2.1, 5, .inl (fun _ => 0))), (q12, .inl (g.2.1, 4, .inl (fun _ => 0))), (q13, .inl (g.2.2.1, 200, .inr (.inl (fun _ => 0)))), (q14, .inl (g.2.2.2.1, 3600, .inl (fun _ => 0)))] H locs := hZ
  refine zz_putF hC hnm hZ 0 rfl zu_X8_51 rfl rfl (Nat.le_of_ble_eq_true rfl) dX8_init_112 (fun H locs hZ => ?_)
  have hZ : zz_Z g A s.heap [(h0, .inr (7, [.int 0, .int 0, .ref q1, .ref q2, .ref q3, .ref q4, .ref q5, .ref q6, .ref q7, .int 0, .ref q8, .ref q9, .ref q10, .ref q11, .int 0, .int 0, .ref q12, .ref q13, .ref q14, .null, .int 0, .null, .null, .null, .null, .int 0, .null, .null, .null, .null, .null, .null, .null, .int 0, .null, .null, .null])), (q1, .inl (g.2.1, 60, .inl (fun _ => 0))), (q2, .inl (g.2.1, 60, .inl (fun _ => 0))), (q3, .inl (g.2.1, 60, .inl (fun _ => 0))), (q4, .inl (g.2.1, 60, .inl (fun _ => 0))), (q5, .inl (g.2.1, 60, .inl (fun _ => 0))), (q6, .inl (g.2.2.1, 4000, .inr (.inl (fun _ => 0)))), (q7, .inl (g.2.2.2.1, 4000, .inl (fun _ => 0))), (q8, .inl (g.2.1, 4, .inl (fun _ => 0))), (q9, .inl (g.2.1, 5, .inl (fun _ => 0))), (q10, .inl (g.2.1, 5, .inl (fun _ => 0))), (q11, .inl (g.2.1, 5, .inl (fun _ => 0))), (q12, .inl (g.2.1, 4, .inl (fun _ => 0))), (q13, .inl (g.2.2.1, 200, .inr (.inl (fun _ => 0)))), (q14, .inl (g.2.2.2.1, 3600, .inl (fun _ => 0)))] H locs := hZ
  refine lv_aload_n hx hb dX8_init_115 rfl (lv_at hl 0 rfl) ?_
  refine lv_bipush (v := 60) hx hb dX8_init_116 (by decide) ?_
  refine zz_newi (N' := 60) hC hZ zk_87 (by decide) (by decide) (Nat.le_of_ble_eq_true rfl) (Nat.le_of_ble_eq_true rfl) (Nat.le_of_ble_eq_true rfl) dX8_init_118 (fun q15 H hZ => ?_)
  have hZ : zz_Z g A s.heap [(h0, .inr (7, [.int 0, .int 0, .ref q1, .ref q2, .ref q3, .ref q4, .ref q5, .ref q6, .ref q7, .int 0, .ref q8, .ref q9, .ref q10, .ref q11, .int 0, .int 0, .ref q12, .ref q13, .ref q14, .null, .int 0, .null, .null, .null, .null, .int 0, .null, .null, .null, .null, .null, .null, .null, .int 0, .null, .null, .null])), (q1, .inl (g.2.1, 60, .inl (fun _ => 0))), (q2, .inl (g.2.1, 60, .inl (fun _ => 0))), (q3, .inl (g.2.1, 60, .inl (fun _ => 0))), (q4, .inl (g.2.1, 60, .inl (fun _ => 0))), (q5, .inl (g.2.1, 60, .inl (fun _ => 0))), (q6, .inl (g.2.2.1, 4000, .inr (.inl (fun _ => 0)))), (q7, .inl (g.2.2.2.1, 4000, .inl (fun _ => 0))), (q8, .inl (g.2.1, 4, .inl (fun _ => 0))), (q9, .inl (g.2.1, 5, .inl (fun _ => 0))), (q10, .inl (g.2.1, 5, .inl (fun _ => 0))), (q11, .inl (g.2.1, 5, .inl (fun _ => 0))), (q12, .inl (g.2.1, 4, .inl (fun _ => 0))), (q13, .inl (g.2.2.1, 200, .inr (.inl (fun _ => 0)))), (q14, .inl (g.2.2.2.1, 3600, .inl (fun _ => 0))), (q15, .inl (g.2.1, 60, .inl (fun _ => 0)))] H locs := hZ
  refine zz_putF hC hnm hZ 0 rfl zu_X8_54 rfl rfl (Nat.le_of_ble_eq_true rfl) dX8_init_120 (fun H locs hZ => ?_)
  have hZ : zz_Z g A s.heap [(h0, .inr (7, [.int 0, .int 0, .ref q1, .ref q2, .ref q3, .ref q4, .ref q5, .ref q6, .ref q7, .int 0, .ref q8, .ref q9, .ref q10, .ref q11, .int 0, .int 0, .ref q12, .ref q13, .ref q14, .ref q15, .int 0, .null, .null, .null, .null, .int 0, .null, .null, .null, .null, .null, .null, .null, .int 0, .null, .null, .null])), (q1, .inl (g.2.1, 60, .inl (fun _ => 0))), (q2, .inl (g.2.1, 60, .inl (fun _ => 0))), (q3, .inl (g.2.1, 60, .inl (fun _ => 0))), (q4, .inl (g.2.1, 60, .inl (fun _ => 0))), (q5, .inl (g.2.1, 60, .inl (fun _ => 0))), (q6, .inl (g.2.2.1, 4000, .inr (.inl (fun _ => 0)))), (q7, .inl (g.2.2.2.1, 4000, .inl (fun _ => 0))), (q8, .inl (g.2.1, 4, .inl (fun _ => 0))), (q9, .inl (g.2.1, 5, .inl (fun _ => 0))), (q10, .inl (g.2.1, 5, .inl (fun _ => 0))), (q11, .inl (g.2.1, 5, .inl (fun _ => 0))), (q12, .inl (g.2.1, 4, .inl (fun _ => 0))), (q13, .inl (g.2.2.1, 200, .inr (.inl (fun _ => 0)))), (q14, .inl (g.2.2.2.1, 3600, .inl (fun _ => 0))), (q15, .inl (g.2.1, 60, .inl (fun _ => 0)))] H locs := hZ
  refine lv_aload_n hx hb dX8_init_123 rfl (lv_at hl 0 rfl) ?_
  refine lv_bipush (v := 24) hx hb dX8_init_124 (by decide) ?_
  refine zz_newi (N' := 24) hC hZ zk_87 (by decide) (by decide) (Nat.le_of_ble_eq_true rfl) (Nat.le_of_ble_eq_true rfl) (Nat.le_of_ble_eq_true rfl) dX8_init_126 (fun q16 H hZ => ?_)
  have hZ : zz_Z g A s.heap [(h0, .inr (7, [.int 0, .int 0, .ref q1, .ref q2, .ref q3, .ref q4, .ref q5, .ref q6, .ref q7, .int 0, .ref q8, .ref q9, .ref q10, .ref q11, .int 0, .int 0, .ref q12, .ref q13, .ref q14, .ref q15, .int 0, .null, .null, .null, .null, .int 0, .null, .null, .null, .null, .null, .null, .null, .int 0, .null, .null, .null])), (q1, .inl (g.2.1, 60, .inl (fun _ => 0))), (q2, .inl (g.2.1, 60, .inl (fun _ => 0))), (q3, .inl (g.2.1, 60, .inl (fun _ => 0))), (q4, .inl (g.2.1, 60, .inl (fun _ => 0))), (q5, .inl (g.2.1, 60, .inl (fun _ => 0))), (q6, .inl (g.2.2.1, 4000, .inr (.inl (fun _ => 0)))), (q7, .inl (g.2.2.2.1, 4000, .inl (fun _ => 0))), (q8, .inl (g.2.1, 4, .inl (fun _ => 0))), (q9, .inl (g.2.1, 5, .inl (fun _ => 0))), (q10, .inl (g.2.1, 5, .inl (fun _ => 0))), (q11, .inl (g.2.1, 5, .inl (fun _ => 0))), (q12, .inl (g.2.1, 4, .inl (fun _ => 0))), (q13, .inl (g.2.2.1, 200, .inr (.inl (fun _ => 0)))), (q14, .inl (g.2.2.2.1, 3600, .inl (fun _ => 0))), (q15, .inl (g.2.1, 60, .inl (fun _ => 0))), (q16, .inl (g.2.1, 24, .inl (fun _ => 0)))] H locs := hZ
  refine zz_putF hC hnm hZ 0 rfl zu_X8_57 rfl rfl (Nat.le_of_ble_eq_true rfl) dX8_init_128 (fun H locs hZ => ?_)
  have hZ : zz_Z g A s.heap [(h0, .inr (7, [.int 0, .int 0, .ref q1, .ref q2, .ref q3, .ref q4, .ref q5, .ref q6, .ref q7, .int 0, .ref q8, .ref q9, .ref q10, .ref q11, .int 0, .int 0, .ref q12, .ref q13, .ref q14, .ref q15, .int 0, .ref q16, .null, .null, .null, .int 0, .null, .null, .null, .null, .null, .null, .null, .int 0, .null, .null, .null])), (q1, .inl (g.2.1, 60, .inl (fun _ => 0))), (q2, .inl (g.2.1, 60, .inl (fun _ => 0))), (q3, .inl (g.2.1, 60, .inl (fun _ => 0))), (q4, .inl (g.2.1, 60, .inl (fun _ => 0))), (q5, .inl (g.2.1, 60, .inl (fun _ => 0))), (q6, .inl (g.2.2.1, 4000, .inr (.inl (fun _ => 0)))), (q7, .inl (g.2.2.2.1, 4000, .inl (fun _ => 0))), (q8, .inl (g.2.1, 4, .inl (fun _ => 0))), (q9, .inl (g.2.1, 5, .inl (fun _ => 0))), (q10, .inl (g.2.1, 5, .inl (fun _ => 0))), (q11, .inl (g.2.1, 5, .inl (fun _ => 0))), (q12, .inl (g.2.1, 4, .inl (fun _ => 0))), (q13, .inl (g.2.2.1, 200, .inr (.inl (fun _ => 0)))), (q14, .inl (g.2.2.2.1, 3600, .inl (fun _ => 0))), (q15, .inl (g.2.1, 60, .inl (fun _ => 0))), (q16, .inl (g.2.1, 24, .inl (fun _ => 0)))] H locs := hZ
  refine lv_aload_n hx hb dX8_init_131 rfl (lv_at hl 0 rfl) ?_
  refine lv_bipush (v := 24) hx hb dX8_init_132 (by decide) ?_
  refine zz_newi (N' := 24) hC hZ zk_87 (by decide) (by decide) (Nat.le_of_ble_eq_true rfl) (Nat.le_of_ble_eq_true rfl) (Nat.le_of_ble_eq_true rfl) dX8_init_134 (fun q17 H hZ => ?_)
  have hZ : zz_Z g A s.heap [(h0, .inr (7, [.int 0, .int 0, .ref q1, .ref q2, .ref q3, .ref q4, .ref q5, .ref q6, .ref q7, .int 0, .ref q8, .ref q9, .ref q10, .ref q11, .int 0, .int 0, .ref q12, .ref q13, .ref q14, .ref q15, .int 0, .ref q16, .null, .null, .null, .int 0, .null, .null, .null, .null, .null, .null, .null, .int 0, .null, .null, .null])), (q1, .inl (g.2.1, 60, .inl (fun _ => 0))), (q2, .inl (g.2.1, 60, .inl (fun _ => 0))), (q3, .inl (g.2.1, 60, .inl (fun _ => 0))), (q4, .inl (g.2.1, 60, .inl (fun _ => 0))), (q5, .inl (g.2.1, 60, .inl (fun _ => 0))), (q6, .inl (g.2.2.1, 4000, .inr (.inl (fun _ => 0)))), (q7, .inl (g.2.2.2.1, 4000, .inl (fun _ => 0))), (q8, .inl (g.2.1, 4, .inl (fun _ => 0))), (q9, .inl (g.2.1, 5, .inl (fun _ => 0))), (q10, .inl (g.2.1, 5, .inl (fun _ => 0))), (q11, .inl (g.2.1, 5, .inl (fun _ => 0))), (q12, .inl (g.2.1, 4, .inl (fun _ => 0))), (q13, .inl (g.2.2.1, 200, .inr (.inl (fun _ => 0)))), (q14, .inl (g.2.2.2.1, 3600, .inl (fun _ => 0))), (q15, .inl (g.2.1, 60, .inl (fun _ => 0))), (q16, .inl (g.2.1, 24, .inl (fun _ => 0))), (q17, .inl (g.2.1, 24, .inl (fun _ => 0)))] H locs := hZ
  refine zz_putF hC hnm hZ 0 rfl zu_X8_60 rfl rfl (Nat.le_of_ble_eq_true rfl) dX8_init_136 (fun H locs hZ => ?_)
  have hZ : zz_Z g A s.heap [(h0, .inr (7, [.int 0, .int 0, .ref q1, .ref q2, .ref q3, .ref q4, .ref q5, .ref q6, .ref q7, .int 0, .ref q8, .ref q9, .ref q10, .ref q11, .int 0, .int 0, .ref q12, .ref q13, .ref q14, .ref q15, .int 0, .ref q16, .ref q17, .null, .null, .int 0, .null, .null, .null, .null, .null, .null, .null, .int 0, .null, .null, .null])), (q1, .inl (g.2.1, 60, .inl (fun _ => 0))), (q2, .inl (g.2.1, 60, .inl (fun _ => 0))), (q3, .inl (g.2.1, 60, .inl (fun _ => 0))), (q4, .inl (g.2.1, 60, .inl (fun _ => 0))), (q5, .inl (g.2.1, 60, .inl (fun _ => 0))), (q6, .inl (g.2.2.1, 4000, .inr (.inl (fun _ => 0)))), (q7, .inl (g.2.2.2.1, 4000, .inl (fun _ => 0))), (q8, .inl (g.2.1, 4, .inl (fun _ => 0))), (q9, .inl (g.2.1, 5, .inl (fun _ => 0))), (q10, .inl (g.2.1, 5, .inl (fun _ => 0))), (q11, .inl (g.2.1, 5, .inl (fun _ => 0))), (q12, .inl (g.2.1, 4, .inl (fun _ => 0))), (q13, .inl (g.2.2.1, 200, .inr (.inl (fun _ => 0)))), (q14, .inl (g.2.2.2.1, 3600, .inl (fun _ => 0))), (q15, .inl (g.2.1, 60, .inl (fun _ => 0))), (q16, .inl (g.2.1, 24, .inl (fun _ => 0))), (q17, .inl (g.2.1, 24, .inl (fun _ => 0)))] H locs := hZ
  refine lv_aload_n hx hb dX8_init_139 rfl (lv_at hl 0 rfl) ?_
  refine lv_bipush (v := 24) hx hb dX8_init_140 (by decide) ?_
  refine zz_newi (N' := 24) hC hZ zk_87 (by decide) (by decide) (Nat.le_of_ble_eq_true rfl) (Nat.le_of_ble_eq_true rfl) (Nat.le_of_ble_eq_true rfl) dX8_init_142 (fun q18 H hZ => ?_)
  have hZ : zz_Z g A s.heap [(h0, .inr (7, [.int 0, .int 0, .ref q1, .ref q2, .ref q3, .ref q4, .ref q5, .ref q6, .ref q7, .int 0, .ref q8, .ref q9, .ref q10, .ref q11, .int 0, .int 0, .ref q12, .ref q13, .ref q14, .ref q15, .int 0, .ref q16, .ref q17, .null, .null, .int 0, .null, .null, .null, .null, .null, .null, .null, .int 0, .null, .null, .null])), (q1, .inl (g.2.1, 60, .inl (fun _ => 0))), (q2, .inl (g.2.1, 60, .inl (fun _ => 0))), (q3, .inl (g.2.1, 60, .inl (fun _ => 0))), (q4, .inl (g.2.1, 60, .inl (fun _ => 0))), (q5, .inl (g.2.1, 60, .inl (fun _ => 0))), (q6, .inl (g.2.2.1, 4000, .inr (.inl (fun _ => 0)))), (q7, .inl (g.2.2.2.1, 4000, .inl (fun _ => 0))), (q8, .inl (g.2.1, 4, .inl (fun _ => 0))), (q9, .inl (g.2.1, 5, .inl (fun _ => 0))), (q10, .inl (g.2.1, 5, .inl (fun _ => 0))), (q11, .inl (g.2.1, 5, .inl (fun _ => 0))), (q12, .inl (g.2.1, 4, .inl (fun _ => 0))), (q13, .inl (g.2.2.1, 200, .inr (.inl (fun _ => 0)))), (q14, .inl (g.2.2.2.1, 3600, .inl (fun _ => 0))), (q15, .inl (g.2.1, 60, .inl (fun _ => 0))), (q16, .inl (g.2.1, 24, .inl (fun _ => 0))), (q17, .inl (g.2.1, 24, .inl (fun _ => 0))), (q18, .inl (g.2.1, 24, .inl (fun _ => 0)))] H locs := hZ
  refine zz_putF hC hnm hZ 0 rfl zu_X8_63 rfl rfl (Nat.le_of_ble_eq_true rfl) dX8_init_144 (fun H locs hZ => ?_)
  have hZ : zz_Z g A s.heap [(h0, .inr (7, [.int 0, .int 0, .ref q1, .ref q2, .ref q3, .ref q4, .ref q5, .ref q6, .ref q7, .int 0, .ref q8, .ref q9, .ref q10, .ref q11, .int 0, .int 0, .ref q12, .ref q13, .ref q14, .ref q15, .int 0, .ref q16, .ref q17, .ref q18, .null, .int 0, .null, .null, .null, .null, .null, .null, .null, .int 0, .null, .null, .null])), (q1, .inl (g.2.1, 60, .inl (fun _ => 0))), (q2, .inl (g.2.1, 60, .inl (fun _ => 0))), (q3, .inl (g.2.1, 60, .inl (fun _ => 0))), (q4, .inl (g.2.1, 60, .inl (fun _ => 0))), (q5, .inl (g.2.1, 60, .inl (fun _ => 0))), (q6, .inl (g.2.2.1, 4000, .inr (.inl (fun _ => 0)))), (q7, .inl (g.2.2.2.1, 4000, .inl (fun _ => 0))), (q8, .inl (g.2.1, 4, .inl (fun _ => 0))), (q9, .inl (g.2.1, 5, .inl (fun _ => 0))), (q10, .inl (g.2.1, 5, .inl (fun _ => 0))), (q11, .inl (g.2.1, 5, .inl (fun _ => 0))), (q12, .inl (g.2.1, 4, .inl (fun _ => 0))), (q13, .inl (g.2.2.1, 200, .inr (.inl (fun _ => 0)))), (q14, .inl (g.2.2.2.1, 3600, .inl (fun _ => 0))), (q15, .inl (g.2.1, 60, .inl (fun _ => 0))), (q16, .inl (g.2.1, 24, .inl (fun _ => 0))), (q17, .inl (g.2.1, 24, .inl (fun _ => 0))), (q18, .inl (g.2.1, 24, .inl (fun _ => 0)))] H locs := hZ
  refine lv_aload_n hx hb dX8_init_147 rfl (lv_at hl 0 rfl) ?_
  refine lv_sipush (v := 384) hx hb dX8_init_148 (by decide) ?_
  refine zz_newl (N' := 384) hC hZ zk_88 (by decide) (by decide) (Nat.le_of_ble_eq_true rfl) (Nat.le_of_ble_eq_true rfl) (Nat.le_of_ble_eq_true rfl) dX8_init_151 (fun q19 H hZ => ?_)
  have hZ : zz_Z g A s.heap [(h0, .inr (7, [.int 0, .int 0, .ref q1, .ref q2, .ref q3, .ref q4, .ref q5, .ref q6, .ref q7, .int 0, .ref q8, .ref q9, .ref q10, .ref q11, .int 0, .int 0, .ref q12, .ref q13, .ref q14, .ref q15, .int 0, .ref q16, .ref q17, .ref q18, .null, .int 0, .null, .null, .null, .null, .null, .null, .null, .int 0, .null, .null, .null])), (q1, .inl (g.2.1, 60, .inl (fun _ => 0))), (q2, .inl (g.2.1, 60, .inl (fun _ => 0))), (q3, .inl (g.2.1, 60, .inl (fun _ => 0))), (q4, .inl (g.2.1, 60, .inl (fun _ => 0))), (q5, .inl (g.2.1, 60, .inl (fun _ => 0))), (q6, .inl (g.2.2.1, 4000, .inr (.inl (fun _ => 0)))), (q7, .inl (g.2.2.2.1, 4000, .inl (fun _ => 0))), (q8, .inl (g.2.1, 4, .inl (fun _ => 0))), (q9, .inl (g.2.1, 5, .inl (fun _ => 0))), (q10, .inl (g.2.1, 5, .inl (fun _ => 0))), (q11, .inl (g.2.1, 5, .inl (fun _ => 0))), (q12, .inl (g.2.1, 4, .inl (fun _ => 0))), (q13, .inl (g.2.2.1, 200, .inr (.inl (fun _ => 0)))), (q14, .inl (g.2.2.2.1, 3600, .inl (fun _ => 0))), (q15, .inl (g.2.1, 60, .inl (fun _ => 0))), (q16, .inl (g.2.1, 24, .inl (fun _ => 0))), (q17, .inl (g.2.1, 24, .inl (fun _ => 0))), (q18, .inl (g.2.1, 24, .inl (fun _ => 0))), (q19, .inl (g.2.2.1, 384, .inr (.inl (fun _ => 0))))] H locs := hZ
  refine zz_putF hC hnm hZ 0 rfl zu_X8_66 rfl rfl (Nat.le_of_ble_eq_true rfl) dX8_init_153 (fun H locs hZ => ?_)
  have hZ : zz_Z g A s.heap [(h0, .inr (7, [.int 0, .int 0, .ref q1, .ref q2, .ref q3, .ref q4, .ref q5, .ref q6, .ref q7, .int 0, .ref q8, .ref q9, .ref q10, .ref q11, .int 0, .int 0, .ref q12, .ref q13, .ref q14, .ref q15, .int 0, .ref q16, .ref q17, .ref q18, .ref q19, .int 0, .null, .null, .null, .null, .null, .null, .null, .int 0, .null, .null, .null])), (q1, .inl (g.2.1, 60, .inl (fun _ => 0))), (q2, .inl (g.2.1, 60, .inl (fun _ => 0))), (q3, .inl (g.2.1, 60, .inl (fun _ => 0))), (q4, .inl (g.2.1, 60, .inl (fun _ => 0))), (q5, .inl (g.2.1, 60, .inl (fun _ => 0))), (q6, .inl (g.2.2.1, 4000, .inr (.inl (fun _ => 0)))), (q7, .inl (g.2.2.2.1, 4000, .inl (fun _ => 0))), (q8, .inl (g.2.1, 4, .inl (fun _ => 0))), (q9, .inl (g.2.1, 5, .inl (fun _ => 0))), (q10, .inl (g.2.1, 5, .inl (fun _ => 0))), (q11, .inl (g.2.1, 5, .inl (fun _ => 0))), (q12, .inl (g.2.1, 4, .inl (fun _ => 0))), (q13, .inl (g.2.2.1, 200, .inr (.inl (fun _ => 0)))), (q14, .inl (g.2.2.2.1, 3600, .inl (fun _ => 0))), (q15, .inl (g.2.1, 60, .inl (fun _ => 0))), (q16, .inl (g.2.1, 24, .inl (fun _ => 0))), (q17, .inl (g.2.1, 24, .inl (fun _ => 0))), (q18, .inl (g.2.1, 24, .inl (fun _ => 0))), (q19, .inl (g.2.2.1, 384, .inr (.inl (fun _ => 0))))] H locs := hZ
  refine lv_aload_n hx hb dX8_init_156 rfl (lv_at hl 0 rfl) ?_
  refine lv_bipush (v := 12) hx hb dX8_init_157 (by decide) ?_
  refine zz_newi (N' := 12) hC hZ zk_87 (by decide) (by decide) (Nat.le_of_ble_eq_true rfl) (Nat.le_of_ble_eq_true rfl) (Nat.le_of_ble_eq_true rfl) dX8_init_159 (fun q20 H hZ => ?_)
  have hZ : zz_Z g A s.heap [(h0, .inr (7, [.int 0, .int 0, .ref q1, .ref q2, .ref q3, .ref q4, .ref q5, .ref q6, .ref q7, .int 0, .ref q8, .ref q9, .ref q10, .ref q11, .int 0, .int 0, .ref q12, .ref q13, .ref q14, .ref q15, .int 0, .ref q16, .ref q17, .ref q18, .ref q19, .int 0, .null, .null, .null, .null, .null, .null, .null, .int 0, .null, .null, .null])), (q1, .inl (g.2.1, 60, .inl (fun _ => 0))), (q2, .inl (g.2.1, 60, .inl (fun _ => 0))), (q3, .inl (g.2.1, 60, .inl (fun _ => 0))), (q4, .inl (g.2.1, 60, .inl (fun _ => 0))), (q5, .inl (g.2.1, 60, .inl (fun _ => 0))), (q6, .inl (g.2.2.1, 4000, .inr (.inl (fun _ => 0)))), (q7, .inl (g.2.2.2.1, 4000, .inl (fun _ => 0))), (q8, .inl (g.2.1, 4, .inl (fun _ => 0))), (q9, .inl (g.2.1, 5, .inl (fun _ => 0))), (q10, .inl (g.2.1, 5, .inl (fun _ => 0))), (q11, .inl (g.2.1, 5, .inl (fun _ => 0))), (q12, .inl (g.2.1, 4, .inl (fun _ => 0))), (q13, .inl (g.2.2.1, 200, .inr (.inl (fun _ => 0)))), (q14, .inl (g.2.2.2.1, 3600, .inl (fun _ => 0))), (q15, .inl (g.2.1, 60, .inl (fun _ => 0))), (q16, .inl (g.2.1, 24, .inl (fun _ => 0))), (q17, .inl (g.2.1, 24, .inl (fun _ => 0))), (q18, .inl (g.2.1, 24, .inl (fun _ => 0))), (q19, .inl (g.2.2.1, 384, .inr (.inl (fun _ => 0)))), (q20, .inl (g.2.1, 12, .inl (fun _ => 0)))] H locs := hZ
  refine zz_putF hC hnm hZ 0 rfl zu_X8_69 rfl rfl (Nat.le_of_ble_eq_true rfl) dX8_init_161 (fun H locs hZ => ?_)
  have hZ : zz_Z g A s.heap [(h0, .inr (7, [.int 0, .int 0, .ref q1, .ref q2, .ref q3, .ref q4, .ref q5, .ref q6, .ref q7, .int 0, .ref q8, .ref q9, .ref q10, .ref q11, .int 0, .int 0, .ref q12, .ref q13, .ref q14, .ref q15, .int 0, .ref q16, .ref q17, .ref q18, .ref q19, .int 0, .ref q20, .null, .null, .null, .null, .null, .null, .int 0, .null, .null, .null])), (q1, .inl (g.2.1, 60, .inl (fun _ => 0))), (q2, .inl (g.2.1, 60, .inl (fun _ => 0))), (q3, .inl (g.2.1, 60, .inl (fun _ => 0))), (q4, .inl (g.2.1, 60, .inl (fun _ => 0))), (q5, .inl (g.2.1, 60, .inl (fun _ => 0))), (q6, .inl (g.2.2.1, 4000, .inr (.inl (fun _ => 0)))), (q7, .inl (g.2.2.2.1, 4000, .inl (fun _ => 0))), (q8, .inl (g.2.1, 4, .inl (fun _ => 0))), (q9, .inl (g.2.1, 5, .inl (fun _ => 0))), (q10, .inl (g.2.1, 5, .inl (fun _ => 0))), (q11, .inl (g.2.1, 5, .inl (fun _ => 0))), (q12, .inl (g.2.1, 4, .inl (fun _ => 0))), (q13, .inl (g.2.2.1, 200, .inr (.inl (fun _ => 0)))), (q14, .inl (g.2.2.2.1, 3600, .inl (fun _ => 0))), (q15, .inl (g.2.1, 60, .inl (fun _ => 0))), (q16, .inl (g.2.1, 24, .inl (fun _ => 0))), (q17, .inl (g.2.1, 24, .inl (fun _ => 0))), (q18, .inl (g.2.1, 24, .inl (fun _ => 0))), (q19, .inl (g.2.2.1, 384, .inr (.inl (fun _ => 0)))), (q20, .inl (g.2.1, 12, .inl (fun _ => 0)))] H locs := hZ
  refine lv_aload_n hx hb dX8_init_164 rfl (lv_at hl 0 rfl) ?_
  refine lv_bipush (v := 12) hx hb dX8_init_165 (by decide) ?_
  refine zz_newi (N' := 12) hC hZ zk_87 (by decide) (by decide) (Nat.le_of_ble_eq_true rfl) (Nat.le_of_ble_eq_true rfl) (Nat.le_of_ble_eq_true rfl) dX8_init_167 (fun q21 H hZ => ?_)
  have hZ : zz_Z g A s.heap [(h0, .inr (7, [.int 0, .int 0, .ref q1, .ref q2, .ref q3, .ref q4, .ref q5, .ref q6, .ref q7, .int 0, .ref q8, .ref q9, .ref q10, .ref q11, .int 0, .int 0, .ref q12, .ref q13, .ref q14, .ref q15, .int 0, .ref q16, .ref q17, .ref q18, .ref q19, .int 0, .ref q20, .null, .null, .null, .null, .null, .null, .int 0, .null, .null, .null])), (q1, .inl (g.2.1, 60, .inl (fun _ => 0))), (q2, .inl (g.2.1, 60, .inl (fun _ => 0))), (q3, .inl (g.2.1, 60, .inl (fun _ => 0))), (q4, .inl (g.2.1, 60, .inl (fun _ => 0))), (q5, .inl (g.2.1, 60, .inl (fun _ => 0))), (q6, .inl (g.2.2.1, 4000, .inr (.inl (fun _ => 0)))), (q7, .inl (g.2.2.2.1, 4000, .inl (fun _ => 0))), (q8, .inl (g.2.1, 4, .inl (fun _ => 0))), (q9, .inl (g.2.1, 5, .inl (fun _ => 0))), (q10, .inl (g.2.1, 5, .inl (fun _ => 0))), (q11, .inl (g.2.1, 5, .inl (fun _ => 0))), (q12, .inl (g.2.1, 4, .inl (fun _ => 0))), (q13, .inl (g.2.2.1, 200, .inr (.inl (fun _ => 0)))), (q14, .inl (g.2.2.2.1, 3600, .inl (fun _ => 0))), (q15, .inl (g.2.1, 60, .inl (fun _ => 0))), (q16, .inl (g.2.1, 24, .inl (fun _ => 0))), (q17, .inl (g.2.1, 24, .inl (fun _ => 0))), (q18, .inl (g.2.1, 24, .inl (fun _ => 0))), (q19, .inl (g.2.2.1, 384, .inr (.inl (fun _ => 0)))), (q20, .inl (g.2.1, 12, .inl (fun _ => 0))), (q21, .inl (g.2.1, 12, .inl (fun _ => 0)))] H locs := hZ
  refine zz_putF hC hnm hZ 0 rfl zu_X8_72 rfl rfl (Nat.le_of_ble_eq_true rfl) dX8_init_169 (fun H locs hZ => ?_)
  have hZ : zz_Z g A s.heap [(h0, .inr (7, [.int 0, .int 0, .ref q1, .ref q2, .ref q3, .ref q4, .ref q5, .ref q6, .ref q7, .int 0, .ref q8, .ref q9, .ref q10, .ref q11, .int 0, .int 0, .ref q12, .ref q13, .ref q14, .ref q15, .int 0, .ref q16, .ref q17, .ref q18, .ref q19, .int 0, .ref q20, .ref q21, .null, .null, .null, .null, .null, .int 0, .null, .null, .null])), (q1, .inl (g.2.1, 60, .inl (fun _ => 0))), (q2, .inl (g.2.1, 60, .inl (fun _ => 0))), (q3, .inl (g.2.1, 60, .inl (fun _ => 0))), (q4, .inl (g.2.1, 60, .inl (fun _ => 0))), (q5, .inl (g.2.1, 60, .inl (fun _ => 0))), (q6, .inl (g.2.2.1, 4000, .inr (.inl (fun _ => 0)))), (q7, .inl (g.2.2.2.1, 4000, .inl (fun _ => 0))), (q8, .inl (g.2.1, 4, .inl (fun _ => 0))), (q9, .inl (g.2.1, 5, .inl (fun _ => 0))), (q10, .inl (g.2.1, 5, .inl (fun _ => 0))), (q11, .inl (g.2.1, 5, .inl (fun _ => 0))), (q12, .inl (g.2.1, 4, .inl (fun _ => 0))), (q13, .inl (g.2.2.1, 200, .inr (.inl (fun _ => 0)))), (q14, .inl (g.2.2.2.1, 3600, .inl (fun _ => 0))), (q15, .inl (g.2.1, 60, .inl (fun _ => 0))), (q16, .inl (g.2.1, 24, .inl (fun _ => 0))), (q17, .inl (g.2.1, 24, .inl (fun _ => 0))), (q18, .inl (g.2.1, 24, .inl (fun _ => 0))), (q19, .inl (g.2.2.1, 384, .inr (.inl (fun _ => 0)))), (q20, .inl (g.2.1, 12, .inl (fun _ => 0))), (q21, .inl (g.2.1, 12, .inl (fun _ => 0)))] H locs := hZ
  refine lv_aload_n hx hb dX8_init_172 rfl (lv_at hl 0 rfl) ?_
  refine lv_bipush (v := 12) hx hb dX8_init_173 (by decide) ?_
  refine zz_newi (N' := 12) hC hZ zk_87 (by decide) (by decide) (Nat.le_of_ble_eq_true rfl) (Nat.le_of_ble_eq_true rfl) (Nat.le_of_ble_eq_true rfl) dX8_init_175 (fun q22 H hZ => ?_)
  have hZ : zz_Z g A s.heap [(h0, .inr (7, [.int 0, .int 0, .ref q1, .ref q2, .ref q3, .ref q4, .ref q5, .ref q6, .ref q7, .int 0, .ref q8, .ref q9, .ref q10, .ref q11, .int 0, .int 0, .ref q12, .ref q13, .ref q14, .ref q15, .int 0, .ref q16, .ref q17, .ref q18, .ref q19, .int 0, .ref q20, .ref q21, .null, .null, .null, .null, .null, .int 0, .null, .null, .null])), (q1, .inl (g.2.1, 60, .inl (fun _ => 0))), (q2, .inl (g.2.1, 60, .inl (fun _ => 0))), (q3, .inl (g.2.1, 60, .inl (fun _ => 0))), (q4, .inl (g.2.1, 60, .inl (fun _ => 0))), (q5, .inl (g.2.1, 60, .inl (fun _ => 0))), (q6, .inl (g.2.2.1, 4000, .inr (.inl (fun _ => 0)))), (q7, .inl (g.2.2.2.1, 4000, .inl (fun _ => 0))), (q8, .inl (g.2.1, 4, .inl (fun _ => 0))), (q9, .inl (g.2.1, 5, .inl (fun _ => 0))), (q10, .inl (g.2.1, 5, .inl (fun _ => 0))), (q11, .inl (g.2.1, 5, .inl (fun _ => 0))), (q12, .inl (g.2.1, 4, .inl (fun _ => 0))), (q13, .inl (g.2.2.1, 200, .inr (.inl (fun _ => 0)))), (q14, .inl (g.2.2.2.1, 3600, .inl (fun _ => 0))), (q15, .inl (g.2.1, 60, .inl (fun _ => 0))), (q16, .inl (g.2.1, 24, .inl (fun _ => 0))), (q17, .inl (g.2.1, 24, .inl (fun _ => 0))), (q18, .inl (g.2.1, 24, .inl (fun _ => 0))), (q19, .inl (g.2.2.1, 384, .inr (.inl (fun _ => 0)))), (q20, .inl (g.2.1, 12, .inl (fun _ => 0))), (q21, .inl (g.2.1, 12, .inl (fun _ => 0))), (q22, .inl (g.2.1, 12, .inl (fun _ => 0)))] H locs := hZ
  refine zz_putF hC hnm hZ 0 rfl zu_X8_75 rfl rfl (Nat.le_of_ble_eq_true rfl) dX8_init_177 (fun H locs hZ => ?_)
  have hZ : zz_Z g A s.heap [(h0, .inr (7, [.int 0, .int 0, .ref q1, .ref q2, .ref q3, .ref q4, .ref q5, .ref q6, .ref q7, .int 0, .ref q8, .ref q9, .ref q10, .ref q11, .int 0, .int 0, .ref q12, .ref q13, .ref q14, .ref q15, .int 0, .ref q16, .ref q17, .ref q18, .ref q19, .int 0, .ref q20, .ref q21, .ref q22, .null, .null, .null, .null, .int 0, .null, .null, .null])), (q1, .inl (g.2.1, 60, .inl (fun _ => 0))), (q2, .inl (g.2.1, 60, .inl (fun _ => 0))), (q3, .inl (g.2.1, 60, .inl (fun _ => 0))), (q4, .inl (g.2.1, 60, .inl (fun _ => 0))), (q5, .inl (g.2.1, 60, .inl (fun _ => 0))), (q6, .inl (g.2.2.1, 4000, .inr (.inl (fun _ => 0)))), (q7, .inl (g.2.2.2.1, 4000, .inl (fun _ => 0))), (q8, .inl (g.2.1, 4, .inl (fun _ => 0))), (q9, .inl (g.2.1, 5, .inl (fun _ => 0))), (q10, .inl (g.2.1, 5, .inl (fun _ => 0))), (q11, .inl (g.2.1, 5, .inl (fun _ => 0))), (q12, .inl (g.2.1, 4, .inl (fun _ => 0))), (q13, .inl (g.2.2.1, 200, .inr (.inl (fun _ => 0)))), (q14, .inl (g.2.2.2.1, 3600, .inl (fun _ => 0))), (q15, .inl (g.2.1, 60, .inl (fun _ => 0))), (q16, .inl (g.2.1, 24, .inl (fun _ => 0))), (q17, .inl (g.2.1, 24, .inl (fun _ => 0))), (q18, .inl (g.2.1, 24, .inl (fun _ => 0))), (q19, .inl (g.2.2.1, 384, .inr (.inl (fun _ => 0)))), (q20, .inl (g.2.1, 12, .inl (fun _ => 0))), (q21, .inl (g.2.1, 12, .inl (fun _ => 0))), (q22, .inl (g.2.1, 12, .inl (fun _ => 0)))] H locs := hZ
  refine lv_aload_n hx hb dX8_init_180 rfl (lv_at hl 0 rfl) ?_
  refine lv_bipush (v := 12) hx hb dX8_init_181 (by decide) ?_
  refine zz_newl (N' := 12) hC hZ zk_88 (by decide) (by decide) (Nat.le_of_ble_eq_true rfl) (Nat.le_of_ble_eq_true rfl) (Nat.le_of_ble_eq_true rfl) dX8_init_183 (fun q23 H hZ => ?_)
  have hZ : zz_Z g A s.heap [(h0, .inr (7, [.int 0, .int 0, .ref q1, .ref q2, .ref q3, .ref q4, .ref q5, .ref q6, .ref q7, .int 0, .ref q8, .ref q9, .ref q10, .ref q11, .int 0, .int 0, .ref q12, .ref q13, .ref q14, .ref q15, .int 0, .ref q16, .ref q17, .ref q18, .ref q19, .int 0, .ref q20, .ref q21, .ref q22, .null, .null, .null, .null, .int 0, .null, .null, .null])), (q1, .inl (g.2.1, 60, .inl (fun _ => 0))), (q2, .inl (g.2.1, 60, .inl (fun _ => 0))), (q3, .inl (g.2.1, 60, .inl (fun _ => 0))), (q4, .inl (g.2.1, 60, .inl (fun _ => 0))), (q5, .inl (g.2.1, 60, .inl (fun _ => 0))), (q6, .inl (g.2.2.1, 4000, .inr (.inl (fun _ => 0)))), (q7, .inl (g.2.2.2.1, 4000, .inl (fun _ => 0))), (q8, .inl (g.2.1, 4, .inl (fun _ => 0))), (q9, .inl (g.2.1, 5, .inl (fun _ => 0))), (q10, .inl (g.2.1, 5, .inl (fun _ => 0))), (q11, .inl (g.2.1, 5, .inl (fun _ => 0))), (q12, .inl (g.2.1, 4, .inl (fun _ => 0))), (q13, .inl (g.2.2.1, 200, .inr (.inl (fun _ => 0)))), (q14, .inl (g.2.2.2.1, 3600, .inl (fun _ => 0))), (q15, .inl (g.2.1, 60, .inl (fun _ => 0))), (q16, .inl (g.2.1, 24, .inl (fun _ => 0))), (q17, .inl (g.2.1, 24, .inl (fun _ => 0))), (q18, .inl (g.2.1, 24, .inl (fun _ => 0))), (q19, .inl (g.2.2.1, 384, .inr (.inl (fun _ => 0)))), (q20, .inl (g.2.1, 12, .inl (fun _ => 0))), (q21, .inl (g.2.1, 12, .inl (fun _ => 0))), (q22, .inl (g.2.1, 12, .inl (fun _ => 0))), (q23, .inl (g.2.2.1, 12, .inr (.inl (fun _ => 0))))] H locs := hZ
  refine zz_putF hC hnm hZ 0 rfl zu_X8_78 rfl rfl (Nat.le_of_ble_eq_true rfl) dX8_init_185 (fun H locs hZ => ?_)
  have hZ : zz_Z g A s.heap [(h0, .inr (7, [.int 0, .int 0, .ref q1, .ref q2, .ref q3, .ref q4, .ref q5, .ref q6, .ref q7, .int 0, .ref q8, .ref q9, .ref q10, .ref q11, .int 0, .int 0, .ref q12, .ref q13, .ref q14, .ref q15, .int 0, .ref q16, .ref q17, .ref q18, .ref q19, .int 0, .ref q20, .ref q21, .ref q22, .ref q23, .null, .null, .null, .int 0, .null, .null, .null])), (q1, .inl (g.2.1, 60, .inl (fun _ => 0))), (q2, .inl (g.2.1, 60, .inl (fun _ => 0))), (q3, .inl (g.2.1, 60, .inl (fun _ => 0))), (q4, .inl (g.2.1, 60, .inl (fun _ => 0))), (q5, .inl (g.2.1, 60, .inl (fun _ => 0))), (q6, .inl (g.2.2.1, 4000, .inr (.inl (fun _ => 0)))), (q7, .inl (g.2.2.2.1, 4000, .inl (fun _ => 0))), (q8, .inl (g.2.1, 4, .inl (fun _ => 0))), (q9, .inl (g.2.1, 5, .inl (fun _ => 0))), (q10, .inl (g.2.1, 5, .inl (fun _ => 0))), (q11, .inl (g.2.1, 5, .inl (fun _ => 0))), (q12, .inl (g.2.1, 4, .inl (fun _ => 0))), (q13, .inl (g.2.2.1, 200, .inr (.inl (fun _ => 0)))), (q14, .inl (g.2.2.2.1, 3600, .inl (fun _ => 0))), (q15, .inl (g.2.1, 60, .inl (fun _ => 0))), (q16, .inl (g.2.1, 24, .inl (fun _ => 0))), (q17, .inl (g.2.1, 24, .inl (fun _ => 0))), (q18, .inl (g.2.1, 24, .inl (fun _ => 0))), (q19, .inl (g.2.2.1, 384, .inr (.inl (fun _ => 0)))), (q20, .inl (g.2.1, 12, .inl (fun _ => 0))), (q21, .inl (g.2.1, 12, .inl (fun _ => 0))), (q22, .inl (g.2.1, 12, .inl (fun _ => 0))), (q23, .inl (g.2.2.1, 12, .inr (.inl (fun _ => 0))))] H locs := hZ
  refine lv_aload_n hx hb dX8_init_188 rfl (lv_at hl 0 rfl) ?_
  refine lv_bipush (v := 12) hx hb dX8_init_189 (by decide) ?_
  refine zz_newl (N' := 12) hC hZ zk_88 (by decide) (by decide) (Nat.le_of_ble_eq_true rfl) (Nat.le_of_ble_eq_true rfl) (Nat.le_of_ble_eq_true rfl) dX8_init_191 (fun q24 H hZ => ?_)
  have hZ : zz_Z g A s.heap [(h0, .inr (7, [.int 0, .int 0, .ref q1, .ref q2, .ref q3, .ref q4, .ref q5, .ref q6, .ref q7, .int 0, .ref q8, .ref q9, .ref q10, .ref q11, .int 0, .int 0, .ref q12, .ref q13, .ref q14, .ref q15, .int 0, .ref q16, .ref q17, .ref q18, .ref q19, .int 0, .ref q20, .ref q21, .ref q22, .ref q23, .null, .null, .null, .int 0, .null, .null, .null])), (q1, .inl (g.2.1, 60, .inl (fun _ => 0))), (q2, .inl (g.2.1, 60, .inl (fun _ => 0))), (q3, .inl (g.2.1, 60, .inl (fun _ => 0))), (q4, .inl (g.2.1, 60, .inl (fun _ => 0))), (q5, .inl (g.2.1, 60, .inl (fun _ => 0))), (q6, .inl (g.2.2.1, 4000, .inr (.inl (fun _ => 0)))), (q7, .inl (g.2.2.2.1, 4000, .inl (fun _ => 0))), (q8, .inl (g.2.1, 4, .inl (fun _ => 0))), (q9, .inl (g.2.1, 5, .inl (fun _ => 0))), (q10, .inl (g.2.1, 5, .inl (fun _ => 0))), (q11, .inl (g.2.1, 5, .inl (fun _ => 0))), (q12, .inl (g.2.1, 4, .inl (fun _ => 0))), (q13, .inl (g.2.2.1, 200, .inr (.inl (fun _ => 0)))), (q14, .inl (g.2.2.2.1, 3600, .inl (fun _ => 0))), (q15, .inl (g.2.1, 60, .inl (fun _ => 0))), (q16, .inl (g.2.1, 24, .inl (fun _ => 0))), (q17, .inl (g.2.1, 24, .inl (fun _ => 0))), (q18, .inl (g.2.1, 24, .inl (fun _ => 0))), (q19, .inl (g.2.2.1, 384, .inr (.inl (fun _ => 0)))), (q20, .inl (g.2.1, 12, .inl (fun _ => 0))), (q21, .inl (g.2.1, 12, .inl (fun _ => 0))), (q22, .inl (g.2.1, 12, .inl (fun _ => 0))), (q23, .inl (g.2.2.1, 12, .inr (.inl (fun _ => 0)))), (q24, .inl (g.2.2.1, 12, .inr (.inl (fun _ => 0))))] H locs := hZ
  refine zz_putF hC hnm hZ 0 rfl zu_X8_81 rfl rfl (Nat.le_of_ble_eq_true rfl) dX8_init_193 (fun H locs hZ => ?_)
  have hZ : zz_Z g A s.heap [(h0, .inr (7, [.int 0, .int 0, .ref q1, .ref q2, .ref q3, .ref q4, .ref q5, .ref q6, .ref q7, .int 0, .ref q8, .ref q9, .ref q10, .ref q11, .int 0, .int 0, .ref q12, .ref q13, .ref q14, .ref q15, .int 0, .ref q16, .ref q17, .ref q18, .ref q19, .int 0, .ref q20, .ref q21, .ref q22, .ref q23, .ref q24, .null, .null, .int 0, .null, .null, .null])), (q1, .inl (g.2.1, 60, .inl (fun _ => 0))), (q2, .inl (g.2.1, 60, .inl (fun _ => 0))), (q3, .inl (g.2.1, 60, .inl (fun _ => 0))), (q4, .inl (g.2.1, 60, .inl (fun _ => 0))), (q5, .inl (g.2.1, 60, .inl (fun _ => 0))), (q6, .inl (g.2.2.1, 4000, .inr (.inl (fun _ => 0)))), (q7, .inl (g.2.2.2.1, 4000, .inl (fun _ => 0))), (q8, .inl (g.2.1, 4, .inl (fun _ => 0))), (q9, .inl (g.2.1, 5, .inl (fun _ => 0))), (q10, .inl (g.2.1, 5, .inl (fun _ => 0))), (q11, .inl (g.2.1, 5, .inl (fun _ => 0))), (q12, .inl (g.2.1, 4, .inl (fun _ => 0))), (q13, .inl (g.2.2.1, 200, .inr (.inl (fun _ => 0)))), (q14, .inl (g.2.2.2.1, 3600, .inl (fun _ => 0))), (q15, .inl (g.2.1, 60, .inl (fun _ => 0))), (q16, .inl (g.2.1, 24, .inl (fun _ => 0))), (q17, .inl (g.2.1, 24, .inl (fun _ => 0))), (q18, .inl (g.2.1, 24, .inl (fun _ => 0))), (q19, .inl (g.2.2.1, 384, .inr (.inl (fun _ => 0)))), (q20, .inl (g.2.1, 12, .inl (fun _ => 0))), (q21, .inl (g.2.1, 12, .inl (fun _ => 0))), (q22, .inl (g.2.1, 12, .inl (fun _ => 0))), (q23, .inl (g.2.2.1, 12, .inr (.inl (fun _ => 0)))), (q24, .inl (g.2.2.1, 12, .inr (.inl (fun _ => 0))))] H locs := hZ
  refine lv_aload_n hx hb dX8_init_196 rfl (lv_at hl 0 rfl) ?_
  refine lv_bipush (v := 24) hx hb dX8_init_197 (by decide) ?_
  refine zz_newi (N' := 24) hC hZ zk_87 (by decide) (by decide) (Nat.le_of_ble_eq_true rfl) (Nat.le_of_ble_eq_true rfl) (Nat.le_of_ble_eq_true rfl) dX8_init_199 (fun q25 H hZ => ?_)
  have hZ : zz_Z g A s.heap [(h0, .inr (7, [.int 0, .int 0, .ref q1, .ref q2, .ref q3, .ref q4, .ref q5, .ref q6, .ref q7, .int 0, .ref q8, .ref q9, .ref q10, .ref q11, .int 0, .int 0, .ref q12, .ref q13, .ref q14, .ref q15, .int 0, .ref q16, .ref q17, .ref q18, .ref q19, .int 0, .ref q20, .ref q21, .ref q22, .ref q23, .ref q24, .null, .null, .int 0, .null, .null, .null])), (q1, .inl (g.2.1, 60, .inl (fun _ => 0))), (q2, .inl (g.2.1, 60, .inl (fun _ => 0))), (q3, .inl (g.2.1, 60, .inl (fun _ => 0))), (q4, .inl (g.2.1, 60, .inl (fun _ => 0))), (q5, .inl (g.2.1, 60, .inl (fun _ => 0))), (q6, .inl (g.2.2.1, 4000, .inr (.inl (fun _ => 0)))), (q7, .inl (g.2.2.2.1, 4000, .inl (fun _ => 0))), (q8, .inl (g.2.1, 4, .inl (fun _ => 0))), (q9, .inl (g.2.1, 5, .inl (fun _ => 0))), (q10, .inl (g.2.1, 5, .inl (fun _ => 0))), (q11, .inl (g.2.1, 5, .inl (fun _ => 0))), (q12, .inl (g.2.1, 4, .inl (fun _ => 0))), (q13, .inl (g.2.2.1, 200, .inr (.inl (fun _ => 0)))), (q14, .inl (g.2.2.2.1, 3600, .inl (fun _ => 0))), (q15, .inl (g.2.1, 60, .inl (fun _ => 0))), (q16, .inl (g.2.1, 24, .inl (fun _ => 0))), (q17, .inl (g.2.1, 24, .inl (fun _ => 0))), (q18, .inl (g.2.1, 24, .inl (fun _ => 0))), (q19, .inl (g.2.2.1, 384, .inr (.inl (fun _ => 0)))), (q20, .inl (g.2.1, 12, .inl (fun _ => 0))), (q21, .inl (g.2.1, 12, .inl (fun _ => 0))), (q22, .inl (g.2.1, 12, .inl (fun _ => 0))), (q23, .inl (g.2.2.1, 12, .inr (.inl (fun _ => 0)))), (q24, .inl (g.2.2.1, 12, .inr (.inl (fun _ => 0)))), (q25, .inl (g.2.1, 24, .inl (fun _ => 0)))] H locs := hZ
  refine zz_putF hC hnm hZ 0 rfl zu_X8_84 rfl rfl (Nat.le_of_ble_eq_true rfl) dX8_init_201 (fun H locs hZ => ?_)
  have hZ : zz_Z g A s.heap [(h0, .inr (7, [.int 0, .int 0, .ref q1, .ref q2, .ref q3, .ref q4, .ref q5, .ref q6, .ref q7, .int 0, .ref q8, .ref q9, .ref q10, .ref q11, .int 0, .int 0, .ref q12, .ref q13, .ref q14, .ref q15, .int 0, .ref q16, .ref q17, .ref q18, .ref q19, .int 0, .ref q20, .ref q21, .ref q22, .ref q23, .ref q24, .ref q25, .null, .int 0, .null, .null, .null])), (q1, .inl (g.2.1, 60, .inl (fun _ => 0))), (q2, .inl (g.2.1, 60, .inl (fun _ => 0))), (q3, .inl (g.2.1, 60, .inl (fun _ => 0))), (q4, .inl (g.2.1, 60, .inl (fun _ => 0))), (q5, .inl (g.2.1, 60, .inl (fun _ => 0))), (q6, .inl (g.2.2.1, 4000, .inr (.inl (fun _ => 0)))), (q7, .inl (g.2.2.2.1, 4000, .inl (fun _ => 0))), (q8, .inl (g.2.1, 4, .inl (fun _ => 0))), (q9, .inl (g.2.1, 5, .inl (fun _ => 0))), (q10, .inl (g.2.1, 5, .inl (fun _ => 0))), (q11, .inl (g.2.1, 5, .inl (fun _ => 0))), (q12, .inl (g.2.1, 4, .inl (fun _ => 0))), (q13, .inl (g.2.2.1, 200, .inr (.inl (fun _ => 0)))), (q14, .inl (g.2.2.2.1, 3600, .inl (fun _ => 0))), (q15, .inl (g.2.1, 60, .inl (fun _ => 0))), (q16, .inl (g.2.1, 24, .inl (fun _ => 0))), (q17, .inl (g.2.1, 24, .inl (fun _ => 0))), (q18, .inl (g.2.1, 24, .inl (fun _ => 0))), (q19, .inl (g.2.2.1, 384, .inr (.inl (fun _ => 0)))), (q20, .inl (g.2.1, 12, .inl (fun _ => 0))), (q21, .inl (g.2.1, 12, .inl (fun _ => 0))), (q22, .inl (g.2.1, 12, .inl (fun _ => 0))), (q23, .inl (g.2.2.1, 12, .inr (.inl (fun _ => 0)))), (q24, .inl (g.2.2.1, 12, .inr (.inl (fun _ => 0)))), (q25, .inl (g.2.1, 24, .inl (fun _ => 0)))] H locs := hZ
  refine lv_aload_n hx hb dX8_init_204 rfl (lv_at hl 0 rfl) ?_
  refine lv_bipush (v := 24) hx hb dX8_init_205 (by decide) ?_
  refine zz_newi (N' := 24) hC hZ zk_87 (by decide) (by decide) (Nat.le_of_ble_eq_true rfl) (Nat.le_of_ble_eq_true rfl) (Nat.le_of_ble_eq_true rfl) dX8_init_207 (fun q26 H hZ => ?_)
  have hZ : zz_Z g A s.heap [(h0, .inr (7, [.int 0, .int 0, .ref q1, .ref q2, .ref q3, .ref q4, .ref q5, .ref q6, .ref q7, .int 0, .ref q8, .ref q9, .ref q10, .ref q11, .int 0, .int 0, .ref q12, .ref q13, .ref q14, .ref q15, .int 0, .ref q16, .ref q17, .ref q18, .ref q19, .int 0, .ref q20, .ref q21, .ref q22, .ref q23, .ref q24, .ref q25, .null, .int 0, .null, .null, .null])), (q1, .inl (g.2.1, 60, .inl (fun _ => 0))), (q2, .inl (g.2.1, 60, .inl (fun _ => 0))), (q3, .inl (g.2.1, 60, .inl (fun _ => 0))), (q4, .inl (g.2.1, 60, .inl (fun _ => 0))), (q5, .inl (g.2.1, 60, .inl (fun _ => 0))), (q6, .inl (g.2.2.1, 4000, .inr (.inl (fun _ => 0)))), (q7, .inl (g.2.2.2.1, 4000, .inl (fun _ => 0))), (q8, .inl (g.2.1, 4, .inl (fun _ => 0))), (q9, .inl (g.2.1, 5, .inl (fun _ => 0))), (q10, .inl (g.2.1, 5, .inl (fun _ => 0))), (q11, .inl (g.2.1, 5, .inl (fun _ => 0))), (q12, .inl (g.2.1, 4, .inl (fun _ => 0))), (q13, .inl (g.2.2.1, 200, .inr (.inl (fun _ => 0)))), (q14, .inl (g.2.2.2.1, 3600, .inl (fun _ => 0))), (q15, .inl (g.2.1, 60, .inl (fun _ => 0))), (q16, .inl (g.2.1, 24, .inl (fun _ => 0))), (q17, .inl (g.2.1, 24, .inl (fun _ => 0))), (q18, .inl (g.2.1, 24, .inl (fun _ => 0))), (q19, .inl (g.2.2.1, 384, .inr (.inl (fun _ => 0)))), (q20, .inl (g.2.1, 12, .inl (fun _ => 0))), (q21, .inl (g.2.1, 12, .inl (fun _ => 0))), (q22, .inl (g.2.1, 12, .inl (fun _ => 0))), (q23, .inl (g.2.2.1, 12, .inr (.inl (fun _ => 0)))), (q24, .inl (g.2.2.1, 12, .inr (.inl (fun _ => 0)))), (q25, .inl (g.2.1, 24, .inl (fun _ => 0))), (q26, .inl (g.2.1, 24, .inl (fun _ => 0)))] H locs := hZ
  refine zz_putF hC hnm hZ 0 rfl zu_X8_87 rfl rfl (Nat.le_of_ble_eq_true rfl) dX8_init_209 (fun H locs hZ => ?_)
  have hZ : zz_Z g A s.heap [(h0, .inr (7, [.int 0, .int 0, .ref q1, .ref q2, .ref q3, .ref q4, .ref q5, .ref q6, .ref q7, .int 0, .ref q8, .ref q9, .ref q10, .ref q11, .int 0, .int 0, .ref q12, .ref q13, .ref q14, .ref q15, .int 0, .ref q16, .ref q17, .ref q18, .ref q19, .int 0, .ref q20, .ref q21, .ref q22, .ref q23, .ref q24, .ref q25, .ref q26, .int 0, .null, .null, .null])), (q1, .inl (g.2.1, 60, .inl (fun _ => 0))), (q2, .inl (g.2.1, 60, .inl (fun _ => 0))), (q3, .inl (g.2.1, 60, .inl (fun _ => 0))), (q4, .inl (g.2.1, 60, .inl (fun _ => 0))), (q5, .inl (g.2.1, 60, .inl (fun _ => 0))), (q6, .inl (g.2.2.1, 4000, .inr (.inl (fun _ => 0)))), (q7, .inl (g.2.2.2.1, 4000, .inl (fun _ => 0))), (q8, .inl (g.2.1, 4, .inl (fun _ => 0))), (q9, .inl (g.2.1, 5, .inl (fun _ => 0))), (q10, .inl (g.2.1, 5, .inl (fun _ => 0))), (q11, .inl (g.2.1, 5, .inl (fun _ => 0))), (q12, .inl (g.2.1, 4, .inl (fun _ => 0))), (q13, .inl (g.2.2.1, 200, .inr (.inl (fun _ => 0)))), (q14, .inl (g.2.2.2.1, 3600, .inl (fun _ => 0))), (q15, .inl (g.2.1, 60, .inl (fun _ => 0))), (q16, .inl (g.2.1, 24, .inl (fun _ => 0))), (q17, .inl (g.2.1, 24, .inl (fun _ => 0))), (q18, .inl (g.2.1, 24, .inl (fun _ => 0))), (q19, .inl (g.2.2.1, 384, .inr (.inl (fun _ => 0)))), (q20, .inl (g.2.1, 12, .inl (fun _ => 0))), (q21, .inl (g.2.1, 12, .inl (fun _ => 0))), (q22, .inl (g.2.1, 12, .inl (fun _ => 0))), (q23, .inl (g.2.2.1, 12, .inr (.inl (fun _ => 0)))), (q24, .inl (g.2.2.1, 12, .inr (.inl (fun _ => 0)))), (q25, .inl (g.2.1, 24, .inl (fun _ => 0))), (q26, .inl (g.2.1, 24, .inl (fun _ => 0)))] H locs := hZ
  refine lv_aload_n hx hb dX8_init_212 rfl (lv_at hl 0 rfl) ?_
  refine lv_bipush (v := 8) hx hb dX8_init_213 (by decide) ?_
  refine zz_newi (N' := 8) hC hZ zk_87 (by decide) (by decide) (Nat.le_of_ble_eq_true rfl) (Nat.le_of_ble_eq_true rfl) (Nat.le_of_ble_eq_true rfl) dX8_init_215 (fun q27 H hZ => ?_)
  have hZ : zz_Z g A s.heap [(h0, .inr (7, [.int 0, .int 0, .ref q1, .ref q2, .ref q3, .ref q4, .ref q5, .ref q6, .ref q7, .int 0, .ref q8, .ref q9, .ref q10, .ref q11, .int 0, .int 0, .ref q12, .ref q13, .ref q14, .ref q15, .int 0, .ref q16, .ref q17, .ref q18, .ref q19, .int 0, .ref q20, .ref q21, .ref q22, .ref q23, .ref q24, .ref q25, .ref q26, .int 0, .null, .null, .null])), (q1, .inl (g.2.1, 60, .inl (fun _ => 0))), (q2, .inl (g.2.1, 60, .inl (fun _ => 0))), (q3, .inl (g.2.1, 60, .inl (fun _ => 0))), (q4, .inl (g.2.1, 60, .inl (fun _ => 0))), (q5, .inl (g.2.1, 60, .inl (fun _ => 0))), (q6, .inl (g.2.2.1, 4000, .inr (.inl (fun _ => 0)))), (q7, .inl (g.2.2.2.1, 4000, .inl (fun _ => 0))), (q8, .inl (g.2.1, 4, .inl (fun _ => 0))), (q9, .inl (g.2.1, 5, .inl (fun _ => 0))), (q10, .inl (g.2.1, 5, .inl (fun _ => 0))), (q11, .inl (g.2.1, 5, .inl (fun _ => 0))), (q12, .inl (g.2.1, 4, .inl (fun _ => 0))), (q13, .inl (g.2.2.1, 200, .inr (.inl (fun _ => 0)))), (q14, .inl (g.2.2.2.1, 3600, .inl (fun _ => 0))), (q15, .inl (g.2.1, 60, .inl (fun _ => 0))), (q16, .inl (g.2.1, 24, .inl (fun _ => 0))), (q17, .inl (g.2.1, 24, .inl (fun _ => 0))), (q18, .inl (g.2.1, 24, .inl (fun _ => 0))), (q19, .inl (g.2.2.1, 384, .inr (.inl (fun _ => 0)))), (q20, .inl (g.2.1, 12, .inl (fun _ => 0))), (q21, .inl (g.2.1, 12, .inl (fun _ => 0))), (q22, .inl (g.2.1, 12, .inl (fun _ => 0))), (q23, .inl (g.2.2.1, 12, .inr (.inl (fun _ => 0)))), (q24, .inl (g.2.2.1, 12, .inr (.inl (fun _ => 0)))), (q25, .inl (g.2.1, 24, .inl (fun _ => 0))), (q26, .inl (g.2.1, 24, .inl (fun _ => 0))), (q27, .inl (g.2.1, 8, .inl (fun _ => 0)))] H locs := hZ
  refine zz_putF hC hnm hZ 0 rfl zu_X8_90 rfl rfl (Nat.le_of_ble_eq_true rfl) dX8_init_217 (fun H locs hZ => ?_)
  have hZ : zz_Z g A s.heap [(h0, .inr (7, [.int 0, .int 0, .ref q1, .ref q2, .ref q3, .ref q4, .ref q5, .ref q6, .ref q7, .int 0, .ref q8, .ref q9, .ref q10, .ref q11, .int 0, .int 0, .ref q12, .ref q13, .ref q14, .ref q15, .int 0, .ref q16, .ref q17, .ref q18, .ref q19, .int 0, .ref q20, .ref q21, .ref q22, .ref q23, .ref q24, .ref q25, .ref q26, .int 0, .ref q27, .null, .null])), (q1, .inl (g.2.1, 60, .inl (fun _ => 0))), (q2, .inl (g.2.1, 60, .inl (fun _ => 0))), (q3, .inl (g.2.1, 60, .inl (fun _ => 0))), (q4, .inl (g.2.1, 60, .inl (fun _ => 0))), (q5, .inl (g.2.1, 60, .inl (fun _ => 0))), (q6, .inl (g.2.2.1, 4000, .inr (.inl (fun _ => 0)))), (q7, .inl (g.2.2.2.1, 4000, .inl (fun _ => 0))), (q8, .inl (g.2.1, 4, .inl (fun _ => 0))), (q9, .inl (g.2.1, 5, .inl (fun _ => 0))), (q10, .inl (g.2.1, 5, .inl (fun _ => 0))), (q11, .inl (g.2.1, 5, .inl (fun _ => 0))), (q12, .inl (g.2.1, 4, .inl (fun _ => 0))), (q13, .inl (g.2.2.1, 200, .inr (.inl (fun _ => 0)))), (q14, .inl (g.2.2.2.1, 3600, .inl (fun _ => 0))), (q15, .inl (g.2.1, 60, .inl (fun _ => 0))), (q16, .inl (g.2.1, 24, .inl (fun _ => 0))), (q17, .inl (g.2.1, 24, .inl (fun _ => 0))), (q18, .inl (g.2.1, 24, .inl (fun _ => 0))), (q19, .inl (g.2.2.1, 384, .inr (.inl (fun _ => 0)))), (q20, .inl (g.2.1, 12, .inl (fun _ => 0))), (q21, .inl (g.2.1, 12, .inl (fun _ => 0))), (q22, .inl (g.2.1, 12, .inl (fun _ => 0))), (q23, .inl (g.2.2.1, 12, .inr (.inl (fun _ => 0)))), (q24, .inl (g.2.2.1, 12, .inr (.inl (fun _ => 0)))), (q25, .inl (g.2.1, 24, .inl (fun _ => 0))), (q26, .inl (g.2.1, 24, .inl (fun _ => 0))), (q27, .inl (g.2.1, 8, .inl (fun _ => 0)))] H locs := hZ
  refine lv_aload_n hx hb dX8_init_220 rfl (lv_at hl 0 rfl) ?_
  refine lv_sipush (v := 32000) hx hb dX8_init_221 (by decide) ?_
  refine zz_newl (N' := 32000) hC hZ zk_88 (by decide) (by decide) (Nat.le_of_ble_eq_true rfl) (Nat.le_of_ble_eq_true rfl) (Nat.le_of_ble_eq_true rfl) dX8_init_224 (fun q28 H hZ => ?_)
  have hZ : zz_Z g A s.heap [(h0, .inr (7, [.int 0, .int 0, .ref q1, .ref q2, .ref q3, .ref q4, .ref q5, .ref q6, .ref q7, .int 0, .ref q8, .ref q9, .ref q10, .ref q11, .int 0, .int 0, .ref q12, .ref q13, .ref q14, .ref q15, .int 0, .ref q16, .ref q17, .ref q18, .ref q19, .int 0, .ref q20, .ref q21, .ref q22, .ref q23, .ref q24, .ref q25, .ref q26, .int 0, .ref q27, .null, .null])), (q1, .inl (g.2.1, 60, .inl (fun _ => 0))), (q2, .inl (g.2.1, 60, .inl (fun _ => 0))), (q3, .inl (g.2.1, 60, .inl (fun _ => 0))), (q4, .inl (g.2.1, 60, .inl (fun _ => 0))), (q5, .inl (g.2.1, 60, .inl (fun _ => 0))), (q6, .inl (g.2.2.1, 4000, .inr (.inl (fun _ => 0)))), (q7, .inl (g.2.2.2.1, 4000, .inl (fun _ => 0))), (q8, .inl (g.2.1, 4, .inl (fun _ => 0))), (q9, .inl (g.2.1, 5, .inl (fun _ => 0))), (q10, .inl (g.2.1, 5, .inl (fun _ => 0))), (q11, .inl (g.2.1, 5, .inl (fun _ => 0))), (q12, .inl (g.2.1, 4, .inl (fun _ => 0))), (q13, .inl (g.2.2.1, 200, .inr (.inl (fun _ => 0)))), (q14, .inl (g.2.2.2.1, 3600, .inl (fun _ => 0))), (q15, .inl (g.2.1, 60, .inl (fun _ => 0))), (q16, .inl (g.2.1, 24, .inl (fun _ => 0))), (q17, .inl (g.2.1, 24, .inl (fun _ => 0))), (q18, .inl (g.2.1, 24, .inl (fun _ => 0))), (q19, .inl (g.2.2.1, 384, .inr (.inl (fun _ => 0)))), (q20, .inl (g.2.1, 12, .inl (fun _ => 0))), (q21, .inl (g.2.1, 12, .inl (fun _ => 0))), (q22, .inl (g.2.1, 12, .inl (fun _ => 0))), (q23, .inl (g.2.2.1, 12, .inr (.inl (fun _ => 0)))), (q24, .inl (g.2.2.1, 12, .inr (.inl (fun _ => 0)))), (q25, .inl (g.2.1, 24, .inl (fun _ => 0))), (q26, .inl (g.2.1, 24, .inl (fun _ => 0))), (q27, .inl (g.2.1, 8, .inl (fun _ => 0))), (q28, .inl (g.2.2.1, 32000, .inr (.inl (fun _ => 0))))] H locs := hZ
  refine zz_putF hC hnm hZ 0 rfl zu_X8_93 rfl rfl (Nat.le_of_ble_eq_true rfl) dX8_init_226 (fun H locs hZ => ?_)
  have hZ : zz_Z g A s.heap [(h0, .inr (7, [.int 0, .int 0, .ref q1, .ref q2, .ref q3, .ref q4, .ref q5, .ref q6, .ref q7, .int 0, .ref q8, .ref q9, .ref q10, .ref q11, .int 0, .int 0, .ref q12, .ref q13, .ref q14, .ref q15, .int 0, .ref q16, .ref q17, .ref q18, .ref q19, .int 0, .ref q20, .ref q21, .ref q22, .ref q23, .ref q24, .ref q25, .ref q26, .int 0, .ref q27, .ref q28, .null])), (q1, .inl (g.2.1, 60, .inl (fun _ => 0))), (q2, .inl (g.2.1, 60, .inl (fun _ => 0))), (q3, .inl (g.2.1, 60, .inl (fun _ => 0))), (q4, .inl (g.2.1, 60, .inl (fun _ => 0))), (q5, .inl (g.2.1, 60, .inl (fun _ => 0))), (q6, .inl (g.2.2.1, 4000, .inr (.inl (fun _ => 0)))), (q7, .inl (g.2.2.2.1, 4000, .inl (fun _ => 0))), (q8, .inl (g.2.1, 4, .inl (fun _ => 0))), (q9, .inl (g.2.1, 5, .inl (fun _ => 0))), (q10, .inl (g.2.1, 5, .inl (fun _ => 0))), (q11, .inl (g.2.1, 5, .inl (fun _ => 0))), (q12, .inl (g.2.1, 4, .inl (fun _ => 0))), (q13, .inl (g.2.2.1, 200, .inr (.inl (fun _ => 0)))), (q14, .inl (g.2.2.2.1, 3600, .inl (fun _ => 0))), (q15, .inl (g.2.1, 60, .inl (fun _ => 0))), (q16, .inl (g.2.1, 24, .inl (fun _ => 0))), (q17, .inl (g.2.1, 24, .inl (fun _ => 0))), (q18, .inl (g.2.1, 24, .inl (fun _ => 0))), (q19, .inl (g.2.2.1, 384, .inr (.inl (fun _ => 0)))), (q20, .inl (g.2.1, 12, .inl (fun _ => 0))), (q21, .inl (g.2.1, 12, .inl (fun _ => 0))), (q22, .inl (g.2.1, 12, .inl (fun _ => 0))), (q23, .inl (g.2.2.1, 12, .inr (.inl (fun _ => 0)))), (q24, .inl (g.2.2.1, 12, .inr (.inl (fun _ => 0)))), (q25, .inl (g.2.1, 24, .inl (fun _ => 0))), (q26, .inl (g.2.1, 24, .inl (fun _ => 0))), (q27, .inl (g.2.1, 8, .inl (fun _ => 0))), (q28, .inl (g.2.2.1, 32000, .inr (.inl (fun _ => 0))))] H locs := hZ
  refine lv_aload_n hx hb dX8_init_229 rfl (lv_at hl 0 rfl) ?_
  refine lv_sipush (v := 32000) hx hb dX8_init_230 (by decide) ?_
  refine zz_newz (N' := 32000) hC hZ zk_89 (by decide) (by decide) (Nat.le_of_ble_eq_true rfl) (Nat.le_of_ble_eq_true rfl) (Nat.le_of_ble_eq_true rfl) dX8_init_233 (fun q29 H hZ => ?_)
  have hZ : zz_Z g A s.heap [(h0, .inr (7, [.int 0, .int 0, .ref q1, .ref q2, .ref q3, .ref q4, .ref q5, .ref q6, .ref q7, .int 0, .ref q8, .ref q9, .ref q10, .ref q11, .int 0, .int 0, .ref q12, .ref q13, .ref q14, .ref q15, .int 0, .ref q16, .ref q17, .ref q18, .ref q19, .int 0, .ref q20, .ref q21, .ref q22, .ref q23, .ref q24, .ref q25, .ref q26, .int 0, .ref q27, .ref q28, .null])), (q1, .inl (g.2.1, 60, .inl (fun _ => 0))), (q2, .inl (g.2.1, 60, .inl (fun _ => 0))), (q3, .inl (g.2.1, 60, .inl (fun _ => 0))), (q4, .inl (g.2.1, 60, .inl (fun _ => 0))), (q5, .inl (g.2.1, 60, .inl (fun _ => 0))), (q6, .inl (g.2.2.1, 4000, .inr (.inl (fun _ => 0)))), (q7, .inl (g.2.2.2.1, 4000, .inl (fun _ => 0))), (q8, .inl (g.2.1, 4, .inl (fun _ => 0))), (q9, .inl (g.2.1, 5, .inl (fun _ => 0))), (q10, .inl (g.2.1, 5, .inl (fun _ => 0))), (q11, .inl (g.2.1, 5, .inl (fun _ => 0))), (q12, .inl (g.2.1, 4, .inl (fun _ => 0))), (q13, .inl (g.2.2.1, 200, .inr (.inl (fun _ => 0)))), (q14, .inl (g.2.2.2.1, 3600, .inl (fun _ => 0))), (q15, .inl (g.2.1, 60, .inl (fun _ => 0))), (q16, .inl (g.2.1, 24, .inl (fun _ => 0))), (q17, .inl (g.2.1, 24, .inl (fun _ => 0))), (q18, .inl (g.2.1, 24, .inl (fun _ => 0))), (q19, .inl (g.2.2.1, 384, .inr (.inl (fun _ => 0)))), (q20, .inl (g.2.1, 12, .inl (fun _ => 0))), (q21, .inl (g.2.1, 12, .inl (fun _ => 0))), (q22, .inl (g.2.1, 12, .inl (fun _ => 0))), (q23, .inl (g.2.2.1, 12, .inr (.inl (fun _ => 0)))), (q24, .inl (g.2.2.1, 12, .inr (.inl (fun _ => 0)))), (q25, .inl (g.2.1, 24, .inl (fun _ => 0))), (q26, .inl (g.2.1, 24, .inl (fun _ => 0))), (q27, .inl (g.2.1, 8, .inl (fun _ => 0))), (q28, .inl (g.2.2.1, 32000, .inr (.inl (fun _ => 0)))), (q29, .inl (g.2.2.2.1, 32000, .inl (fun _ => 0)))] H locs := hZ
  refine zz_putF hC hnm hZ 0 rfl zu_X8_96 rfl rfl (Nat.le_of_ble_eq_true rfl) dX8_init_235 (fun H locs hZ => ?_)
  have hZ : zz_Z g A s.heap [(h0, .inr (7, [.int 0, .int 0, .ref q1, .ref q2, .ref q3, .ref q4, .ref q5, .ref q6, .ref q7, .int 0, .ref q8, .ref q9, .ref q10, .ref q11, .int 0, .int 0, .ref q12, .ref q13, .ref q14, .ref q15, .int 0, .ref q16, .ref q17, .ref q18, .ref q19, .int 0, .ref q20, .ref q21, .ref q22, .ref q23, .ref q24, .ref q25, .ref q26, .int 0, .ref q27, .ref q28, .ref q29])), (q1, .inl (g.2.1, 60, .inl (fun _ => 0))), (q2, .inl (g.2.1, 60, .inl (fun _ => 0))), (q3, .inl (g.2.1, 60, .inl (fun _ => 0))), (q4, .inl (g.2.1, 60, .inl (fun _ => 0))), (q5, .inl (g.2.1, 60, .inl (fun _ => 0))), (q6, .inl (g.2.2.1, 4000, .inr (.inl (fun _ => 0)))), (q7, .inl (g.2.2.2.1, 4000, .inl (fun _ => 0))), (q8, .inl (g.2.1, 4, .inl (fun _ => 0))), (q9, .inl (g.2.1, 5, .inl (fun _ => 0))), (q10, .inl (g.2.1, 5, .inl (fun _ => 0))), (q11, .inl (g.2.1, 5, .inl (fun _ => 0))), (q12, .inl (g.2.1, 4, .inl (fun _ => 0))), (q13, .inl (g.2.2.1, 200, .inr (.inl (fun _ => 0)))), (q14, .inl (g.2.2.2.1, 3600, .inl (fun _ => 0))), (q15, .inl (g.2.1, 60, .inl (fun _ => 0))), (q16, .inl (g.2.1, 24, .inl (fun _ => 0))), (q17, .inl (g.2.1, 24, .inl (fun _ => 0))), (q18, .inl (g.2.1, 24, .inl (fun _ => 0))), (q19, .inl (g.2.2.1, 384, .inr (.inl (fun _ => 0)))), (q20, .inl (g.2.1, 12, .inl (fun _ => 0))), (q21, .inl (g.2.1, 12, .inl (fun _ => 0))), (q22, .inl (g.2.1, 12, .inl (fun _ => 0))), (q23, .inl (g.2.2.1, 12, .inr (.inl (fun _ => 0)))), (q24, .inl (g.2.2.1, 12, .inr (.inl (fun _ => 0)))), (q25, .inl (g.2.1, 24, .inl (fun _ => 0))), (q26, .inl (g.2.1, 24, .inl (fun _ => 0))), (q27, .inl (g.2.1, 8, .inl (fun _ => 0))), (q28, .inl (g.2.2.1, 32000, .inr (.inl (fun _ => 0)))), (q29, .inl (g.2.2.2.1, 32000, .inl (fun _ => 0)))] H locs := hZ
  exact zz_vret hC hZ (⟨q1, q2, q3, q4, q5, q6, q7, q8, q9, q10, q11, q12, q13, q14, q15, q16, q17, q18, q19, q20, q21, q22, q23, q24, q25, q26, q27, q28, q29, rfl⟩) (Nat.le_of_ble_eq_true rfl) (Nat.le_of_ble_eq_true rfl) dX8_init_238
end
section
abbrev rm_co_has0 : Room := { frames := 0, cells := 0, slots := 0, locals := 0 }
abbrev po_co_has0 (g : zz_G) (st : Nat) (kd : Nat) (dp : Nat) (cl : Nat) (sa : Nat) (ln : Nat) (bt : Nat) (pn : Nat) (bf : Nat) (k : Int32) : Int32 → va_W → Prop := fun (r : Int32) (u : va_W) => r = 0 ∧ u = [(st, .inr (5, [.int 0, .int 0, .ref kd, .ref dp, .ref cl, .ref sa, .ref ln, .ref bt, .ref pn, .ref bf]))]
set_option maxHeartbeats 4000000 in
set_option maxRecDepth 100000 in
theorem co_has0 (g : zz_G) (st : Nat) (kd : Nat) (dp : Nat) (cl : Nat) (sa : Nat) (ln : Nat) (bt : Nat) (pn : Nat) (bf : Nat) (k : Int32) : zz_I g yX6_has (.code yX6_has cX6_has 2 (some .boolean)) rm_co_has0 [.ref st, .int k] [(st, .inr (5, [.int 0, .int 0, .ref kd, .ref dp, .ref cl, .ref sa, .ref ln, .ref bt, .ref pn, .ref bf]))] (po_co_has0 g st kd dp cl sa ln bt pn bf k) := by
  refine zz_I.intro (own := RX6) (cc := cX6_has) (nL := 2) (by decide) rfl (Nat.le_of_ble_eq_true rfl) ?_
  intro p l e s m args below meth c A H locs ls hC hnm hZ hl
  obtain ⟨hx, hb, hml, hown, hts, hr, hlocks, hK⟩ := id hC
  have hl : lv_has ls 2 [(0, .ref st), (1, .int k)] := hl
  have hZ : zz_Z g A s.heap [(st, .inr (5, [.int 0, .int 0, .ref kd, .ref dp, .ref cl, .ref sa, .ref ln, .ref bt, .ref pn, .ref bf]))] H locs := hZ
  refine lv_iload_n hx hb dX6_has_0 rfl (lv_at hl 1 rfl) ?_
  refine lv_if_lt (tgt := 16) hx hb dX6_has_1 (by decide) (fun c1 => ?_) (fun c1 => ?_)
  · refine lv_iconst (v := 0) hx hb dX6_has_16 (by decide) ?_
    exact zz_zret hC hZ (by decide) (⟨rfl, rfl⟩) (Nat.le_of_ble_eq_true rfl) (Nat.le_of_ble_eq_true rfl) dX6_has_17
  · refine lv_iload_n hx hb dX6_has_4 rfl (lv_at hl 1 rfl) ?_
    refine lv_aload_n hx hb dX6_has_5 rfl (lv_at hl 0 rfl) ?_
    refine zz_get hC hZ 0 rfl zf_X6_38 rfl dX6_has_6 ?_
    refine lv_icmp_ge (tgt := 16) hx hb dX6_has_9 (by decide) (fun c2 => ?_) (fun c => absurd (zl_nn c1) c)
    refine lv_iconst (v := 0) hx hb dX6_has_16 (by decide) ?_
    exact zz_zret hC hZ (by decide) (⟨rfl, rfl⟩) (Nat.le_of_ble_eq_true rfl) (Nat.le_of_ble_eq_true rfl) dX6_has_17
theorem dX0_has_0 : decode cX0_has 0 = .ok (.iload_n 1, 1) := by decide +kernel
theorem dX0_has_1 : decode cX0_has 1 = .ok (.ifCond .lt 15, 3) := by decide +kernel
theorem dX0_has_16 : decode cX0_has 16 = .ok (.iconst 0, 1) := by decide +kernel
theorem dX0_has_17 : decode cX0_has 17 = .ok (.ireturn, 1) := by decide +kernel
theorem dX0_has_4 : decode cX0_has 4 = .ok (.iload_n 1, 1) := by decide +kernel
theorem dX0_has_5 : decode cX0_has 5 = .ok (.aload_n 0, 1) := by decide +kernel
theorem dX0_has_6 : decode cX0_has 6 = .ok (.getfield 32, 3) := by decide +kernel
theorem zk_138 : Cond.fieldLink RX0 32 RX0 "made" "I" ∈ zz_w := zz_in (List.mem_append_right _ (List.mem_append_left _ (List.mem_of_getElem? (i := 138) (by decide +kernel)))) rfl
theorem zf_X0_32 : zz_f RX0 32 0 1 := ⟨RX0, TX0, 7, rfl, zi_X0, by decide, zk_138⟩
theorem dX0_has_9 : decode cX0_has 9 = .ok (.if_icmp .ge 7, 3) := by decide +kernel
abbrev rm_co_chas0 : Room := { frames := 0, cells := 0, slots := 0, locals := 0 }
abbrev po_co_chas0 (g : zz_G) (st : Nat) (ch : Nat) (c_pl : Nat) (c_sl : Nat) (c_co : Nat) (c_ca : Nat) (c_tu : Nat) (k : Int32) : Int32 → va_W → Prop := fun (r : Int32) (u : va_W) => r = 0 ∧ u = [(ch, .inr (0, [.ref st, .int 0, .ref c_pl, .ref c_sl, .ref c_co, .ref c_ca, .ref c_tu]))]
set_option maxHeartbeats 4000000 in
set_option maxRecDepth 100000 in
theorem co_chas0 (g : zz_G) (st : Nat) (ch : Nat) (c_pl : Nat) (c_sl : Nat) (c_co : Nat) (c_ca : Nat) (c_tu : Nat) (k : Int32) : zz_I g yX0_has (.code yX0_has cX0_has 2 (some .boolean)) rm_co_chas0 [.ref ch, .int k] [(ch, .inr (0, [.ref st, .int 0, .ref c_pl, .ref c_sl, .ref c_co, .ref c_ca, .ref c_tu]))] (po_co_chas0 g st ch c_pl c_sl c_co c_ca c_tu k) := by
  refine zz_I.intro (own := RX0) (cc := cX0_has) (nL := 2) (by decide) rfl (Nat.le_of_ble_eq_true rfl) ?_
  intro p l e s m args below meth c A H locs ls hC hnm hZ hl
  obtain ⟨hx, hb, hml, hown, hts, hr, hlocks, hK⟩ := id hC
  have hl : lv_has ls 2 [(0, .ref ch), (1, .int k)] := hl
  have hZ : zz_Z g A s.heap [(ch, .inr (0, [.ref st, .int 0, .ref c_pl, .ref c_sl, .ref c_co, .ref c_ca, .ref c_tu]))] H locs := hZ
  refine lv_iload_n hx hb dX0_has_0 rfl (lv_at hl 1 rfl) ?_
  refine lv_if_lt (tgt := 16) hx hb dX0_has_1 (by decide) (fun c1 => ?_) (fun c1 => ?_)
  · refine lv_iconst (v := 0) hx hb dX0_has_16 (by decide) ?_
    exact zz_zret hC hZ (by decide) (⟨rfl, rfl⟩) (Nat.le_of_ble_eq_true rfl) (Nat.le_of_ble_eq_true rfl) dX0_has_17
  · refine lv_iload_n hx hb dX0_has_4 rfl (lv_at hl 1 rfl) ?_
    refine lv_aload_n hx hb dX0_has_5 rfl (lv_at hl 0 rfl) ?_
    refine zz_get hC hZ 0 rfl zf_X0_32 rfl dX0_has_6 ?_
    refine lv_icmp_ge (tgt := 16) hx hb dX0_has_9 (by decide) (fun c2 => ?_) (fun c => absurd (zl_nn c1) c)
    refine lv_iconst (v := 0) hx hb dX0_has_16 (by decide) ?_
    exact zz_zret hC hZ (by decide) (⟨rfl, rfl⟩) (Nat.le_of_ble_eq_true rfl) (Nat.le_of_ble_eq_true rfl) dX0_has_17
theorem dX0_hasCandidate_0 : decode cX0_hasCandidate 0 = .ok (.aload_n 0, 1) := by decide +kernel
theorem dX0_hasCandidate_1 : decode cX0_hasCandidate 1 = .ok (.iload_n 1, 1) := by decide +kernel
theorem dX0_hasCandidate_2 : decode cX0_hasCandidate 2 = .ok (.invokevirtual 36, 3) := by decide +kernel
theorem zk_590 : Cond.methodLink RX0 36 yX0_has ∈ zz_w := zz_in (List.mem_append_right _ (List.mem_append_right _ (List.mem_append_right _ (List.mem_append_left _ (List.mem_of_getElem? (i := 110) (by decide +kernel)))))) rfl
set_option maxRecDepth 20000 in
theorem zk_549 : Cond.code yX0_has cX0_has 2 (some .boolean) ∈ zz_w := zz_in (List.mem_append_right _ (List.mem_append_right _ (List.mem_append_right _ (List.mem_append_left _ (List.mem_of_getElem? (i := 69) (rfl)))))) rfl
theorem zk_547 : Cond.instanceMethod yX0_has ∈ zz_w := zz_in (List.mem_append_right _ (List.mem_append_right _ (List.mem_append_right _ (List.mem_append_left _ (List.mem_of_getElem? (i := 67) (by decide +kernel)))))) rfl
theorem zk_548 : Cond.selects RX0 yX0_has yX0_has ∈ zz_w := zz_in (List.mem_append_right _ (List.mem_append_right _ (List.mem_append_right _ (List.mem_append_left _ (List.mem_of_getElem? (i := 68) (by decide +kernel)))))) rfl
theorem zc_X0_36 : zz_cV RX0 36 yX0_has cX0_has 2 (some .boolean) 1 := ⟨⟨zk_590, zk_549, zk_5, by decide, by decide, by decide +kernel⟩, zk_547, zk_548⟩
theorem dX0_hasCandidate_5 : decode cX0_hasCandidate 5 = .ok (.ifCond .eq 21, 3) := by decide +kernel
theorem dX0_hasCandidate_26 : decode cX0_hasCandidate 26 = .ok (.iconst 0, 1) := by decide +kernel
theorem dX0_hasCandidate_27 : decode cX0_hasCandidate 27 = .ok (.ireturn, 1) := by decide +kernel
abbrev rm_co_hasCand0 : Room := { frames := 1, cells := 0, slots := 0, locals := 21 }
abbrev po_co_hasCand0 (g : zz_G) (st : Nat) (ch : Nat) (c_pl : Nat) (c_sl : Nat) (c_co : Nat) (c_ca : Nat) (c_tu : Nat) (k : Int32) (j : Int32) : Int32 → va_W → Prop := fun (r : Int32) (u : va_W) => r = 0 ∧ u = [(ch, .inr (0, [.ref st, .int 0, .ref c_pl, .ref c_sl, .ref c_co, .ref c_ca, .ref c_tu]))]
set_option maxHeartbeats 4000000 in
set_option maxRecDepth 100000 in
theorem co_hasCand0 (g : zz_G) (st : Nat) (ch : Nat) (c_pl : Nat) (c_sl : Nat) (c_co : Nat) (c_ca : Nat) (c_tu : Nat) (k : Int32) (j : Int32) : zz_I g yX0_hasCandidate (.code yX0_hasCandidate cX0_hasCandidate 3 (some .boolean)) rm_co_hasCand0 [.ref ch, .int k, .int j] [(ch, .inr (0, [.ref st, .int 0, .ref c_pl, .ref c_sl, .ref c_co, .ref c_ca, .ref c_tu]))] (po_co_hasCand0 g st ch c_pl c_sl c_co c_ca c_tu k j) := by
  refine zz_I.intro (own := RX0) (cc := cX0_hasCandidate) (nL := 3) (by decide) rfl (Nat.le_of_ble_eq_true rfl) ?_
  intro p l e s m args below meth c A H locs ls hC hnm hZ hl
  obtain ⟨hx, hb, hml, hown, hts, hr, hlocks, hK⟩ := id hC
  have hl : lv_has ls 3 [(0, .ref ch), (1, .int k), (2, .int j)] := hl
  have hZ : zz_Z g A s.heap [(ch, .inr (0, [.ref st, .int 0, .ref c_pl, .ref c_sl, .ref c_co, .ref c_ca, .ref c_tu]))] H locs := hZ
  refine lv_aload_n hx hb dX0_hasCandidate_0 rfl (lv_at hl 0 rfl) ?_
  refine lv_iload_n hx hb dX0_hasCandidate_1 rfl (lv_at hl 1 rfl) ?_
  refine zz_iV (As := [.int k]) (wc := [(ch, .inr (0, [.ref st, .int 0, .ref c_pl, .ref c_sl, .ref c_co, .ref c_ca, .ref c_tu]))]) (wr := []) (rest := []) hC hZ hl zc_X0_36 (co_chas0 g st ch c_pl c_sl c_co c_ca c_tu k) [0] [] rfl rfl (by decide) (ci := 0) (q0 := 0) rfl rfl rfl rfl (Nat.le_of_ble_eq_true rfl) ⟨⟨Nat.le_of_ble_eq_true rfl, Nat.le_of_ble_eq_true rfl⟩, Nat.le_of_ble_eq_true rfl, Nat.le_of_ble_eq_true rfl⟩ dX0_hasCandidate_2 (fun r1 u2 H locs hp hZ => ?_)
  obtain ⟨rfl, rfl⟩ := hp
  have hZ : zz_Z g A s.heap [(ch, .inr (0, [.ref st, .int 0, .ref c_pl, .ref c_sl, .ref c_co, .ref c_ca, .ref c_tu]))] H locs := hZ
  refine lv_if_eq (tgt := 26) hx hb dX0_hasCandidate_5 (by decide) (fun c3 => ?_) (fun c => absurd (by decide) c)
  refine lv_iconst (v := 0) hx hb dX0_hasCandidate_26 (by decide) ?_
  exact zz_zret hC hZ (by decide) (⟨rfl, rfl⟩) (Nat.le_of_ble_eq_true rfl) (Nat.le_of_ble_eq_true rfl) dX0_hasCandidate_27
theorem dX0_ways_0 : decode cX0_ways 0 = .ok (.iconst 1, 1) := by decide +kernel
theorem dX0_ways_1 : decode cX0_ways 1 = .ok (.istore_n 1, 1) := by decide +kernel
theorem dX0_ways_2 : decode cX0_ways 2 = .ok (.iconst 0, 1) := by decide +kernel
theorem dX0_ways_3 : decode cX0_ways 3 = .ok (.istore_n 2, 1) := by decide +kernel
theorem dX0_ways_4 : decode cX0_ways 4 = .ok (.iload_n 2, 1) := by decide +kernel
theorem dX0_ways_5 : decode cX0_ways 5 = .ok (.aload_n 0, 1) := by decide +kernel
theorem dX0_ways_6 : decode cX0_ways 6 = .ok (.getfield 32, 3) := by decide +kernel
theorem dX0_ways_9 : decode cX0_ways 9 = .ok (.if_icmp .ge 37, 3) := by decide +kernel
theorem dX0_ways_46 : decode cX0_ways 46 = .ok (.iload_n 1, 1) := by decide +kernel
theorem dX0_ways_47 : decode cX0_ways 47 = .ok (.ireturn, 1) := by decide +kernel
abbrev rm_co_ways0 : Room := { frames := 0, cells := 0, slots := 0, locals := 0 }
abbrev po_co_ways0 (g : zz_G) (st : Nat) (ch : Nat) (c_pl : Nat) (c_sl : Nat) (c_co : Nat) (c_ca : Nat) (c_tu : Nat) : Int32 → va_W → Prop := fun (r : Int32) (u : va_W) => r = 1 ∧ u = [(ch, .inr (0, [.ref st, .int 0, .ref c_pl, .ref c_sl, .ref c_co, .ref c_ca, .ref c_tu]))]
set_option maxHeartbeats 4000000 in
set_option maxRecDepth 100000 in
theorem co_ways0 (g : zz_G) (st : Nat) (ch : Nat) (c_pl : Nat) (c_sl : Nat) (c_co : Nat) (c_ca : Nat) (c_tu : Nat) : zz_I g yX0_ways (.code yX0_ways cX0_ways 3 (some .int)) rm_co_ways0 [.ref ch] [(ch, .inr (0, [.ref st, .int 0, .ref c_pl, .ref c_sl, .ref c_co, .ref c_ca, .ref c_tu]))] (po_co_ways0 g st ch c_pl c_sl c_co c_ca c_tu) := by
  refine zz_I.intro (own := RX0) (cc := cX0_ways) (nL := 3) (by decide) rfl (Nat.le_of_ble_eq_true rfl) ?_
  intro p l e s m args below meth c A H locs ls hC hnm hZ hl
  obtain ⟨hx, hb, hml, hown, hts, hr, hlocks, hK⟩ := id hC
  have hl : lv_has ls 3 [(0, .ref ch)] := hl
  have hZ : zz_Z g A s.heap [(ch, .inr (0, [.ref st, .int 0, .ref c_pl, .ref c_sl, .ref c_co, .ref c_ca, .ref c_tu]))] H locs := hZ
  refine lv_iconst (v := 1) hx hb dX0_ways_0 (by decide) ?_
  refine lv_istore_n (lv' := [(1, .int 1), (0, .ref ch)]) hx hb dX0_ways_1 rfl hl (by decide) rfl (fun ls hl => ?_)
  refine lv_iconst (v := 0) hx hb dX0_ways_2 (by decide) ?_
  refine lv_istore_n (lv' := [(2, .int 0), (1, .int 1), (0, .ref ch)]) hx hb dX0_ways_3 rfl hl (by decide) rfl (fun ls hl => ?_)
  refine lv_iload_n hx hb dX0_ways_4 rfl (lv_at hl 0 rfl) ?_
  refine lv_aload_n hx hb dX0_ways_5 rfl (lv_at hl 2 rfl) ?_
  refine zz_get hC hZ 0 rfl zf_X0_32 rfl dX0_ways_6 ?_
  refine lv_icmp_ge (tgt := 46) hx hb dX0_ways_9 (by decide) (fun c1 => ?_) (fun c => absurd (by decide) c)
  refine lv_iload_n hx hb dX0_ways_46 rfl (lv_at hl 1 rfl) ?_
  exact zz_iret hC hZ (⟨rfl, rfl⟩) (Nat.le_of_ble_eq_true rfl) (Nat.le_of_ble_eq_true rfl) dX0_ways_47
theorem dX0_takeWay_0 : decode cX0_takeWay 0 = .ok (.iload_n 1, 1) := by decide +kernel
theorem dX0_takeWay_1 : decode cX0_takeWay 1 = .ok (.istore_n 2, 1) := by decide +kernel
theorem dX0_takeWay_2 : decode cX0_takeWay 2 = .ok (.aload_n 0, 1) := by decide +kernel
theorem dX0_takeWay_3 : decode cX0_takeWay 3 = .ok (.getfield 32, 3) := by decide +kernel
theorem dX0_takeWay_6 : decode cX0_takeWay 6 = .ok (.iconst 1, 1) := by decide +kernel
theorem dX0_takeWay_7 : decode cX0_takeWay 7 = .ok (.isub, 1) := by decide +kernel
theorem dX0_takeWay_8 : decode cX0_takeWay 8 = .ok (.istore_n 3, 1) := by decide +kernel
theorem dX0_takeWay_9 : decode cX0_takeWay 9 = .ok (.iload_n 3, 1) := by decide +kernel
theorem dX0_takeWay_10 : decode cX0_takeWay 10 = .ok (.ifCond .lt 65, 3) := by decide +kernel
theorem dX0_takeWay_75 : decode cX0_takeWay 75 = .ok (.return_, 1) := by decide +kernel
abbrev rm_co_takeWay0 : Room := { frames := 0, cells := 0, slots := 0, locals := 0 }
abbrev po_co_takeWay0 (g : zz_G) (st : Nat) (ch : Nat) (c_pl : Nat) (c_sl : Nat) (c_co : Nat) (c_ca : Nat) (c_tu : Nat) (k : Int32) : va_W → Prop := fun (u : va_W) => u = [(ch, .inr (0, [.ref st, .int 0, .ref c_pl, .ref c_sl, .ref c_co, .ref c_ca, .ref c_tu]))]
set_option maxHeartbeats 4000000 in
set_option maxRecDepth 100000 in
theorem co_takeWay0 (g : zz_G) (st : Nat) (ch : Nat) (c_pl : Nat) (c_sl : Nat) (c_co : Nat) (c_ca : Nat) (c_tu : Nat) (k : Int32) : zz_V g yX0_takeWay (.code yX0_takeWay cX0_takeWay 4 none) rm_co_takeWay0 [.ref ch, .int k] [(ch, .inr (0, [.ref st, .int 0, .ref c_pl, .ref c_sl, .ref c_co, .ref c_ca, .ref c_tu]))] (po_co_takeWay0 g st ch c_pl c_sl c_co c_ca c_tu k) := by
  refine zz_V.intro (own := RX0) (cc := cX0_takeWay) (nL := 4) (by decide) rfl (Nat.le_of_ble_eq_true rfl) ?_
  intro p l e s m args below meth c A H locs ls hC hnm hZ hl
  obtain ⟨hx, hb, hml, hown, hts, hr, hlocks, hK⟩ := id hC
  have hl : lv_has ls 4 [(0, .ref ch), (1, .int k)] := hl
  have hZ : zz_Z g A s.heap [(ch, .inr (0, [.ref st, .int 0, .ref c_pl, .ref c_sl, .ref c_co, .ref c_ca, .ref c_tu]))] H locs := hZ
  refine lv_iload_n hx hb dX0_takeWay_0 rfl (lv_at hl 1 rfl) ?_
  refine lv_istore_n (lv' := [(2, .int k), (0, .ref ch), (1, .int k)]) hx hb dX0_takeWay_1 rfl hl (by decide) rfl (fun ls hl => ?_)
  refine lv_aload_n hx hb dX0_takeWay_2 rfl (lv_at hl 1 rfl) ?_
  refine zz_get hC hZ 0 rfl zf_X0_32 rfl dX0_takeWay_3 ?_
  refine lv_iconst (v := 1) hx hb dX0_takeWay_6 (by decide) ?_
  refine lv_isub hx hb dX0_takeWay_7 ?_
  refine zz_topi (v := -1) (by decide) ?_
  refine lv_istore_n (lv' := [(3, .int (-1)), (2, .int k), (0, .ref ch), (1, .int k)]) hx hb dX0_takeWay_8 rfl hl (by decide) rfl (fun ls hl => ?_)
  refine lv_iload_n hx hb dX0_takeWay_9 rfl (lv_at hl 0 rfl) ?_
  refine lv_if_lt (tgt := 75) hx hb dX0_takeWay_10 (by decide) (fun c1 => ?_) (fun c => absurd (by decide) c)
  exact zz_vret hC hZ (rfl) (Nat.le_of_ble_eq_true rfl) (Nat.le_of_ble_eq_true rfl) dX0_takeWay_75
theorem dX5_measureAll_0 : decode cX5_measureAll 0 = .ok (.iconst 0, 1) := by decide +kernel
theorem dX5_measureAll_1 : decode cX5_measureAll 1 = .ok (.istore_n 1, 1) := by decide +kernel
theorem dX5_measureAll_2 : decode cX5_measureAll 2 = .ok (.iload_n 1, 1) := by decide +kernel
theorem dX5_measureAll_3 : decode cX5_measureAll 3 = .ok (.aload_n 0, 1) := by decide +kernel
theorem dX5_measureAll_4 : decode cX5_measureAll 4 = .ok (.getfield 38, 3) := by decide +kernel
theorem zk_170 : Cond.fieldLink RX5 38 RX5 "made" "I" ∈ zz_w := zz_in (List.mem_append_right _ (List.mem_append_left _ (List.mem_of_getElem? (i := 170) (by decide +kernel)))) rfl
theorem zf_X5_38 : zz_f RX5 38 4 1 := ⟨RX5, TX5, 9, rfl, zi_X5, by decide, zk_170⟩
theorem dX5_measureAll_7 : decode cX5_measureAll 7 = .ok (.if_icmp .ge 14, 3) := by decide +kernel
theorem dX5_measureAll_21 : decode cX5_measureAll 21 = .ok (.return_, 1) := by decide +kernel
abbrev rm_co_measureAll0 : Room := { frames := 0, cells := 0, slots := 0, locals := 0 }
abbrev po_co_measureAll0 (g : zz_G) (st : Nat) (ru : Nat) (u_so : Nat) (u_ju : Nat) (u_we : Nat) (u_lo : Nat) (u_hi : Nat) (u_ta : Nat) (u_bo : Nat) : va_W → Prop := fun (u : va_W) => u = [(ru, .inr (4, [.ref st, .int 0, .ref u_so, .ref u_ju, .ref u_we, .ref u_lo, .ref u_hi, .ref u_ta, .ref u_bo]))]
set_option maxHeartbeats 4000000 in
set_option maxRecDepth 100000 in
theorem co_measureAll0 (g : zz_G) (st : Nat) (ru : Nat) (u_so : Nat) (u_ju : Nat) (u_we : Nat) (u_lo : Nat) (u_hi : Nat) (u_ta : Nat) (u_bo : Nat) : zz_V g yX5_measureAll (.code yX5_measureAll cX5_measureAll 2 none) rm_co_measureAll0 [.ref ru] [(ru, .inr (4, [.ref st, .int 0, .ref u_so, .ref u_ju, .ref u_we, .ref u_lo, .ref u_hi, .ref u_ta, .ref u_bo]))] (po_co_measureAll0 g st ru u_so u_ju u_we u_lo u_hi u_ta u_bo) := by
  refine zz_V.intro (own := RX5) (cc := cX5_measureAll) (nL := 2) (by decide) rfl (Nat.le_of_ble_eq_true rfl) ?_
  intro p l e s m args below meth c A H locs ls hC hnm hZ hl
  obtain ⟨hx, hb, hml, hown, hts, hr, hlocks, hK⟩ := id hC
  have hl : lv_has ls 2 [(0, .ref ru)] := hl
  have hZ : zz_Z g A s.heap [(ru, .inr (4, [.ref st, .int 0, .ref u_so, .ref u_ju, .ref u_we, .ref u_lo, .ref u_hi, .ref u_ta, .ref u_bo]))] H locs := hZ
  refine lv_iconst (v := 0) hx hb dX5_measureAll_0 (by decide) ?_
  refine lv_istore_n (lv' := [(1, .int 0), (0, .ref ru)]) hx hb dX5_measureAll_1 rfl hl (by decide) rfl (fun ls hl => ?_)
  refine lv_iload_n hx hb dX5_measureAll_2 rfl (lv_at hl 0 rfl) ?_
  refine lv_aload_n hx hb dX5_measureAll_3 rfl (lv_at hl 1 rfl) ?_
  refine zz_get hC hZ 0 rfl zf_X5_38 rfl dX5_measureAll_4 ?_
  refine lv_icmp_ge (tgt := 21) hx hb dX5_measureAll_7 (by decide) (fun c1 => ?_) (fun c => absurd (by decide) c)
  exact zz_vret hC hZ (rfl) (Nat.le_of_ble_eq_true rfl) (Nat.le_of_ble_eq_true rfl) dX5_measureAll_21
theorem dX5_total_0 : decode cX5_total 0 = .ok (.lconst 0, 1) := by decide +kernel
theorem dX5_total_1 : decode cX5_total 1 = .ok (.lstore_n 1, 1) := by decide +kernel
theorem dX5_total_2 : decode cX5_total 2 = .ok (.iconst 0, 1) := by decide +kernel
theorem dX5_total_3 : decode cX5_total 3 = .ok (.istore_n 3, 1) := by decide +kernel
theorem dX5_total_4 : decode cX5_total 4 = .ok (.iload_n 3, 1) := by decide +kernel
theorem dX5_total_5 : decode cX5_total 5 = .ok (.aload_n 0, 1) := by decide +kernel
theorem dX5_total_6 : decode cX5_total 6 = .ok (.getfield 38, 3) := by decide +kernel
theorem dX5_total_9 : decode cX5_total 9 = .ok (.if_icmp .ge 25, 3) := by decide +kernel
theorem dX5_total_34 : decode cX5_total 34 = .ok (.lload_n 1, 1) := by decide +kernel
theorem dX5_total_35 : decode cX5_total 35 = .ok (.lreturn, 1) := by decide +kernel
abbrev rm_co_total0 : Room := { frames := 0, cells := 0, slots := 0, locals := 0 }
abbrev po_co_total0 (g : zz_G) (st : Nat) (ru : Nat) (u_so : Nat) (u_ju : Nat) (u_we : Nat) (u_lo : Nat) (u_hi : Nat) (u_ta : Nat) (u_bo : Nat) : Int64 → va_W → Prop := fun (r : Int64) (u : va_W) => r = 0 ∧ u = [(ru, .inr (4, [.ref st, .int 0, .ref u_so, .ref u_ju, .ref u_we, .ref u_lo, .ref u_hi, .ref u_ta, .ref u_bo]))]
set_option maxHeartbeats 4000000 in
set_option maxRecDepth 100000 in
theorem co_total0 (g : zz_G) (st : Nat) (ru : Nat) (u_so : Nat) (u_ju : Nat) (u_we : Nat) (u_lo : Nat) (u_hi : Nat) (u_ta : Nat) (u_bo : Nat) : zz_L g yX5_total (.code yX5_total cX5_total 4 (some .long)) rm_co_total0 [.ref ru] [(ru, .inr (4, [.ref st, .int 0, .ref u_so, .ref u_ju, .ref u_we, .ref u_lo, .ref u_hi, .ref u_ta, .ref u_bo]))] (po_co_total0 g st ru u_so u_ju u_we u_lo u_hi u_ta u_bo) := by
  refine zz_L.intro (own := RX5) (cc := cX5_total) (nL := 4) (by decide) rfl (Nat.le_of_ble_eq_true rfl) ?_
  intro p l e s m args below meth c A H locs ls hC hnm hZ hl
  obtain ⟨hx, hb, hml, hown, hts, hr, hlocks, hK⟩ := id hC
  have hl : lv_has ls 4 [(0, .ref ru)] := hl
  have hZ : zz_Z g A s.heap [(ru, .inr (4, [.ref st, .int 0, .ref u_so, .ref u_ju, .ref u_we, .ref u_lo, .ref u_hi, .ref u_ta, .ref u_bo]))] H locs := hZ
  refine lv_lconst (v := 0) hx hb dX5_total_0 (by decide) ?_
  refine lv_lstore_n (lv' := [(1, .long 0), (0, .ref ru)]) hx hb dX5_total_1 rfl hl (by decide) rfl (fun ls hl => ?_)
  refine lv_iconst (v := 0) hx hb dX5_total_2 (by decide) ?_
  refine lv_istore_n (lv' := [(3, .int 0), (1, .long 0), (0, .ref ru)]) hx hb dX5_total_3 rfl hl (by decide) rfl (fun ls hl => ?_)
  refine lv_iload_n hx hb dX5_total_4 rfl (lv_at hl 0 rfl) ?_
  refine lv_aload_n hx hb dX5_total_5 rfl (lv_at hl 2 rfl) ?_
  refine zz_get hC hZ 0 rfl zf_X5_38 rfl dX5_total_6 ?_
  refine lv_icmp_ge (tgt := 34) hx hb dX5_total_9 (by decide) (fun c1 => ?_) (fun c => absurd (by decide) c)
  refine lv_lload_n hx hb dX5_total_34 rfl (lv_at hl 1 rfl) ?_
  exact zz_lret hC hZ (⟨rfl, rfl⟩) (Nat.le_of_ble_eq_true rfl) (Nat.le_of_ble_eq_true rfl) dX5_total_35
theorem dX4_keep_0 : decode cX4_keep 0 = .ok (.aload_n 0, 1) := by decide +kernel
theorem dX4_keep_1 : decode cX4_keep 1 = .ok (.aload_n 1, 1) := by decide +kernel
theorem dX4_keep_2 : decode cX4_keep 2 = .ok (.getfield 19, 3) := by decide +kernel
theorem zk_28 : Cond.fieldLink RX4 19 RX6 "used" "I" ∈ zz_w := zz_in (List.mem_append_right _ (List.mem_append_left _ (List.mem_of_getElem? (i := 28) (by decide +kernel)))) rfl
theorem zf_X4_19 : zz_f RX4 19 5 1 := ⟨RX6, TX6, 10, rfl, zi_X6, by decide, zk_28⟩
theorem dX4_keep_5 : decode cX4_keep 5 = .ok (.putfield 25, 3) := by decide +kernel
theorem zk_705 : Cond.fieldLink RX4 25 RX4 "used" "I" ∈ zz_w := zz_in (List.mem_append_right _ (List.mem_append_right _ (List.mem_append_right _ (List.mem_append_left _ (List.mem_of_getElem? (i := 225) (by decide +kernel)))))) rfl
theorem zu_X4_25 : zz_fw RX4 25 3 2 false .int := ⟨RX4, TX4, 3, tyX4, rfl, zi_X4, by decide, zk_705, tyX4_ok, nmX4, rfl, by decide +kernel, fun h => by cases h⟩
theorem dX4_keep_8 : decode cX4_keep 8 = .ok (.iconst 0, 1) := by decide +kernel
theorem dX4_keep_9 : decode cX4_keep 9 = .ok (.istore_n 2, 1) := by decide +kernel
theorem dX4_keep_10 : decode cX4_keep 10 = .ok (.iload_n 2, 1) := by decide +kernel
theorem dX4_keep_11 : decode cX4_keep 11 = .ok (.aload_n 0, 1) := by decide +kernel
theorem dX4_keep_12 : decode cX4_keep 12 = .ok (.getfield 25, 3) := by decide +kernel
theorem zf_X4_25 : zz_f RX4 25 3 2 := ⟨RX4, TX4, 3, rfl, zi_X4, by decide, zk_705⟩
theorem dX4_keep_15 : decode cX4_keep 15 = .ok (.if_icmp .ge 33, 3) := by decide +kernel
theorem dX4_keep_48 : decode cX4_keep 48 = .ok (.return_, 1) := by decide +kernel
abbrev rm_co_keep0 : Room := { frames := 0, cells := 0, slots := 0, locals := 0 }
abbrev po_co_keep0 (g : zz_G) (st : Nat) (kd : Nat) (dp : Nat) (cl : Nat) (sa : Nat) (ln : Nat) (bt : Nat) (pn : Nat) (bf : Nat) (mk : Nat) (m_b : Nat) (m_p : Nat) (us : Int32) : va_W → Prop := fun (u : va_W) => True
set_option maxHeartbeats 4000000 in
set_option maxRecDepth 100000 in
theorem co_keep0 (g : zz_G) (st : Nat) (kd : Nat) (dp : Nat) (cl : Nat) (sa : Nat) (ln : Nat) (bt : Nat) (pn : Nat) (bf : Nat) (mk : Nat) (m_b : Nat) (m_p : Nat) (us : Int32) : zz_V g yX4_keep (.code yX4_keep cX4_keep 3 none) rm_co_keep0 [.ref mk, .ref st] [(mk, .inr (3, [.ref m_b, .ref m_p, .int us])), (st, .inr (5, [.int 0, .int 0, .ref kd, .ref dp, .ref cl, .ref sa, .ref ln, .ref bt, .ref pn, .ref bf]))] (po_co_keep0 g st kd dp cl sa ln bt pn bf mk m_b m_p us) := by
  refine zz_V.intro (own := RX4) (cc := cX4_keep) (nL := 3) (by decide) rfl (Nat.le_of_ble_eq_true rfl) ?_
  intro p l e s m args below meth c A H locs ls hC hnm hZ hl
  obtain ⟨hx, hb, hml, hown, hts, hr, hlocks, hK⟩ := id hC
  have hl : lv_has ls 3 [(0, .ref mk), (1, .ref st)] := hl
  have hZ : zz_Z g A s.heap [(mk, .inr (3, [.ref m_b, .ref m_p, .int us])), (st, .inr (5, [.int 0, .int 0, .ref kd, .ref dp, .ref cl, .ref sa, .ref ln, .ref bt, .ref pn, .ref bf]))] H locs := hZ
  refine lv_aload_n hx hb dX4_keep_0 rfl (lv_at hl 0 rfl) ?_
  refine lv_aload_n hx hb dX4_keep_1 rfl (lv_at hl 1 rfl) ?_
  refine zz_get hC hZ 1 rfl zf_X4_19 rfl dX4_keep_2 ?_
  refine zz_put hC hZ 0 rfl zu_X4_25 (Nat.le_of_ble_eq_true rfl) dX4_keep_5 (fun H locs hZ => ?_)
  have hZ : zz_Z g A s.heap [(mk, .inr (3, [.ref m_b, .ref m_p, .int 0])), (st, .inr (5, [.int 0, .int 0, .ref kd, .ref dp, .ref cl, .ref sa, .ref ln, .ref bt, .ref pn, .ref bf]))] H locs := hZ
  refine lv_iconst (v := 0) hx hb dX4_keep_8 (by decide) ?_
  refine lv_istore_n (lv' := [(2, .int 0), (0, .ref mk), (1, .ref st)]) hx hb dX4_keep_9 rfl hl (by decide) rfl (fun ls hl => ?_)
  refine lv_iload_n hx hb dX4_keep_10 rfl (lv_at hl 0 rfl) ?_
  refine lv_aload_n hx hb dX4_keep_11 rfl (lv_at hl 1 rfl) ?_
  refine zz_get hC hZ 0 rfl zf_X4_25 rfl dX4_keep_12 ?_
  refine lv_icmp_ge (tgt := 48) hx hb dX4_keep_15 (by decide) (fun c1 => ?_) (fun c => absurd (by decide) c)
  exact zz_vret hC hZ (trivial) (Nat.le_of_ble_eq_true rfl) (Nat.le_of_ble_eq_true rfl) dX4_keep_48
theorem dX7_rowCode_0 : decode cX7_rowCode 0 = .ok (.aload_n 0, 1) := by decide +kernel
theorem dX7_rowCode_1 : decode cX7_rowCode 1 = .ok (.getfield 10, 3) := by decide +kernel
theorem dX7_rowCode_4 : decode cX7_rowCode 4 = .ok (.iload_n 1, 1) := by decide +kernel
theorem dX7_rowCode_5 : decode cX7_rowCode 5 = .ok (.invokevirtual 73, 3) := by decide +kernel
theorem zk_263 : Cond.methodLink RX7 73 yX6_has ∈ zz_w := zz_in (List.mem_append_right _ (List.mem_append_right _ (List.mem_append_left _ (List.mem_of_getElem? (i := 23) (by decide +kernel))))) rfl
set_option maxRecDepth 20000 in
theorem zk_266 : Cond.code yX6_has cX6_has 2 (some .boolean) ∈ zz_w := zz_in (List.mem_append_right _ (List.mem_append_right _ (List.mem_append_left _ (List.mem_of_getElem? (i := 26) (rfl))))) rfl
theorem zk_264 : Cond.instanceMethod yX6_has ∈ zz_w := zz_in (List.mem_append_right _ (List.mem_append_right _ (List.mem_append_left _ (List.mem_of_getElem? (i := 24) (by decide +kernel))))) rfl
theorem zk_265 : Cond.selects RX6 yX6_has yX6_has ∈ zz_w := zz_in (List.mem_append_right _ (List.mem_append_right _ (List.mem_append_left _ (List.mem_of_getElem? (i := 25) (by decide +kernel))))) rfl
theorem zc_X7_73 : zz_cV RX7 73 yX6_has cX6_has 2 (some .boolean) 1 := ⟨⟨zk_263, zk_266, zk_2, by decide, by decide, by decide +kernel⟩, zk_264, zk_265⟩
theorem dX7_rowCode_8 : decode cX7_rowCode 8 = .ok (.ifCond .ne 5, 3) := by decide +kernel
theorem dX7_rowCode_11 : decode cX7_rowCode 11 = .ok (.iconst 5, 1) := by decide +kernel
theorem dX7_rowCode_12 : decode cX7_rowCode 12 = .ok (.ireturn, 1) := by decide +kernel
abbrev rm_co_rowCode0 : Room := { frames := 1, cells := 0, slots := 0, locals := 21 }
abbrev po_co_rowCode0 (g : zz_G) (h0 : Nat) (st : Nat) (mk : Nat) (lk : Nat) (ch : Nat) (ru : Nat) (mr : Nat) (kd : Nat) (dp : Nat) (cl : Nat) (sa : Nat) (ln : Nat) (bt : Nat) (pn : Nat) (bf : Nat) (k : Int32) (j : Int32) : Int32 → va_W → Prop := fun (r : Int32) (u : va_W) => r = 5 ∧ u = [(h0, .inr (6, [.ref st, .ref mk, .ref lk, .ref ch, .ref ru, .ref mr, .int 0, .int 0])), (st, .inr (5, [.int 0, .int 0, .ref kd, .ref dp, .ref cl, .ref sa, .ref ln, .ref bt, .ref pn, .ref bf]))]
set_option maxHeartbeats 4000000 in
set_option maxRecDepth 100000 in
theorem co_rowCode0 (g : zz_G) (h0 : Nat) (st : Nat) (mk : Nat) (lk : Nat) (ch : Nat) (ru : Nat) (mr : Nat) (kd : Nat) (dp : Nat) (cl : Nat) (sa : Nat) (ln : Nat) (bt : Nat) (pn : Nat) (bf : Nat) (k : Int32) (j : Int32) : zz_I g yX7_rowCode (.code yX7_rowCode cX7_rowCode 3 (some .int)) rm_co_rowCode0 [.ref h0, .int k, .int j] [(h0, .inr (6, [.ref st, .ref mk, .ref lk, .ref ch, .ref ru, .ref mr, .int 0, .int 0])), (st, .inr (5, [.int 0, .int 0, .ref kd, .ref dp, .ref cl, .ref sa, .ref ln, .ref bt, .ref pn, .ref bf]))] (po_co_rowCode0 g h0 st mk lk ch ru mr kd dp cl sa ln bt pn bf k j) := by
  refine zz_I.intro (own := RX7) (cc := cX7_rowCode) (nL := 3) (by decide) rfl (Nat.le_of_ble_eq_true rfl) ?_
  intro p l e s m args below meth c A H locs ls hC hnm hZ hl
  obtain ⟨hx, hb, hml, hown, hts, hr, hlocks, hK⟩ := id hC
  have hl : lv_has ls 3 [(0, .ref h0), (1, .int k), (2, .int j)] := hl
  have hZ : zz_Z g A s.heap [(h0, .inr (6, [.ref st, .ref mk, .ref lk, .ref ch, .ref ru, .ref mr, .int 0, .int 0])), (st, .inr (5, [.int 0, .int 0, .ref kd, .ref dp, .ref cl, .ref sa, .ref ln, .ref bt, .ref pn, .ref bf]))] H locs := hZ
  refine lv_aload_n hx hb dX7_rowCode_0 rfl (lv_at hl 0 rfl) ?_
  refine zz_get hC hZ 0 rfl zf_X7_10 rfl dX7_rowCode_1 ?_
  refine lv_iload_n hx hb dX7_rowCode_4 rfl (lv_at hl 1 rfl) ?_
  refine zz_iV (As := [.int k]) (wc := [(st, .inr (5, [.int 0, .int 0, .ref kd, .ref dp, .ref cl, .ref sa, .ref ln, .ref bt, .ref pn, .ref bf]))]) (wr := [(h0, .inr (6, [.ref st, .ref mk, .ref lk, .ref ch, .ref ru, .ref mr, .int 0, .int 0]))]) (rest := []) hC hZ hl zc_X7_73 (co_has0 g st kd dp cl sa ln bt pn bf k) [1] [0] rfl rfl (by decide) (ci := 5) (q0 := 0) rfl rfl rfl rfl (Nat.le_of_ble_eq_true rfl) ⟨⟨Nat.le_of_ble_eq_true rfl, Nat.le_of_ble_eq_true rfl⟩, Nat.le_of_ble_eq_true rfl, Nat.le_of_ble_eq_true rfl⟩ dX7_rowCode_5 (fun r1 u2 H locs hp hZ => ?_)
  obtain ⟨rfl, rfl⟩ := hp
  have hZ : zz_Z g A s.heap [(h0, .inr (6, [.ref st, .ref mk, .ref lk, .ref ch, .ref ru, .ref mr, .int 0, .int 0])), (st, .inr (5, [.int 0, .int 0, .ref kd, .ref dp, .ref cl, .ref sa, .ref ln, .ref bt, .ref pn, .ref bf]))] H locs := hZ
  refine lv_if_ne (tgt := 13) hx hb dX7_rowCode_8 (by decide) (fun c => absurd (by decide) c) (fun c3 => ?_)
  refine lv_iconst (v := 5) hx hb dX7_rowCode_11 (by decide) ?_
  exact zz_iret hC hZ (⟨rfl, rfl⟩) (Nat.le_of_ble_eq_true rfl) (Nat.le_of_ble_eq_true rfl) dX7_rowCode_12
theorem dX6_add_0 : decode cX6_add 0 = .ok (.aload_n 0, 1) := by decide +kernel
theorem dX6_add_1 : decode cX6_add 1 = .ok (.getfield 38, 3) := by decide +kernel
theorem dX6_add_4 : decode cX6_add 4 = .ok (.istore 5, 2) := by decide +kernel
theorem dX6_add_6 : decode cX6_add 6 = .ok (.aload_n 0, 1) := by decide +kernel
theorem dX6_add_7 : decode cX6_add 7 = .ok (.getfield 9, 3) := by decide +kernel
theorem zf_X6_9 : zz_f RX6 9 5 2 := ⟨RX6, TX6, 10, rfl, zi_X6, by decide, zk_31⟩
theorem dX6_add_10 : decode cX6_add 10 = .ok (.iload 5, 2) := by decide +kernel
theorem dX6_add_12 : decode cX6_add 12 = .ok (.iload_n 1, 1) := by decide +kernel
theorem dX6_add_13 : decode cX6_add 13 = .ok (.iastore, 1) := by decide +kernel
theorem dX6_add_14 : decode cX6_add 14 = .ok (.aload_n 0, 1) := by decide +kernel
theorem dX6_add_15 : decode cX6_add 15 = .ok (.getfield 15, 3) := by decide +kernel
theorem zf_X6_15 : zz_f RX6 15 5 3 := ⟨RX6, TX6, 10, rfl, zi_X6, by decide, zk_37⟩
theorem dX6_add_18 : decode cX6_add 18 = .ok (.iload 5, 2) := by decide +kernel
theorem dX6_add_20 : decode cX6_add 20 = .ok (.iload_n 2, 1) := by decide +kernel
theorem dX6_add_21 : decode cX6_add 21 = .ok (.iastore, 1) := by decide +kernel
theorem dX6_add_22 : decode cX6_add 22 = .ok (.aload_n 0, 1) := by decide +kernel
theorem dX6_add_23 : decode cX6_add 23 = .ok (.getfield 18, 3) := by decide +kernel
theorem zf_X6_18 : zz_f RX6 18 5 4 := ⟨RX6, TX6, 10, rfl, zi_X6, by decide, zk_41⟩
theorem dX6_add_26 : decode cX6_add 26 = .ok (.iload 5, 2) := by decide +kernel
theorem dX6_add_28 : decode cX6_add 28 = .ok (.iload_n 3, 1) := by decide +kernel
theorem dX6_add_29 : decode cX6_add 29 = .ok (.iastore, 1) := by decide +kernel
theorem dX6_add_30 : decode cX6_add 30 = .ok (.aload_n 0, 1) := by decide +kernel
theorem dX6_add_31 : decode cX6_add 31 = .ok (.getfield 21, 3) := by decide +kernel
theorem zf_X6_21 : zz_f RX6 21 5 5 := ⟨RX6, TX6, 10, rfl, zi_X6, by decide, zk_44⟩
theorem dX6_add_34 : decode cX6_add 34 = .ok (.iload 5, 2) := by decide +kernel
theorem dX6_add_36 : decode cX6_add 36 = .ok (.aload_n 0, 1) := by decide +kernel
theorem dX6_add_37 : decode cX6_add 37 = .ok (.getfield 44, 3) := by decide +kernel
theorem dX6_add_40 : decode cX6_add 40 = .ok (.iastore, 1) := by decide +kernel
theorem dX6_add_41 : decode cX6_add 41 = .ok (.aload_n 0, 1) := by decide +kernel
theorem dX6_add_42 : decode cX6_add 42 = .ok (.getfield 24, 3) := by decide +kernel
theorem zf_X6_24 : zz_f RX6 24 5 6 := ⟨RX6, TX6, 10, rfl, zi_X6, by decide, zk_49⟩
theorem dX6_add_45 : decode cX6_add 45 = .ok (.iload 5, 2) := by decide +kernel
theorem dX6_add_47 : decode cX6_add 47 = .ok (.iload 4, 2) := by decide +kernel
theorem dX6_add_49 : decode cX6_add 49 = .ok (.iastore, 1) := by decide +kernel
theorem dX6_add_50 : decode cX6_add 50 = .ok (.iload_n 2, 1) := by decide +kernel
theorem dX6_add_51 : decode cX6_add 51 = .ok (.iconst 1, 1) := by decide +kernel
theorem dX6_add_52 : decode cX6_add 52 = .ok (.if_icmp .le 34, 3) := by decide +kernel
theorem dX6_add_86 : decode cX6_add 86 = .ok (.aload_n 0, 1) := by decide +kernel
theorem dX6_add_87 : decode cX6_add 87 = .ok (.dup, 1) := by decide +kernel
theorem dX6_add_88 : decode cX6_add 88 = .ok (.getfield 38, 3) := by decide +kernel
theorem dX6_add_91 : decode cX6_add 91 = .ok (.iconst 1, 1) := by decide +kernel
theorem dX6_add_92 : decode cX6_add 92 = .ok (.iadd, 1) := by decide +kernel
theorem dX6_add_93 : decode cX6_add 93 = .ok (.putfield 38, 3) := by decide +kernel
theorem zu_X6_38 : zz_fw RX6 38 5 0 false .int := ⟨RX6, TX6, 10, tyX6, rfl, zi_X6, by decide, zk_26, tyX6_ok, nmX6, rfl, by decide +kernel, fun h => by cases h⟩
theorem dX6_add_96 : decode cX6_add 96 = .ok (.aload_n 0, 1) := by decide +kernel
theorem dX6_add_97 : decode cX6_add 97 = .ok (.dup, 1) := by decide +kernel
theorem dX6_add_98 : decode cX6_add 98 = .ok (.getfield 44, 3) := by decide +kernel
theorem dX6_add_101 : decode cX6_add 101 = .ok (.iload 4, 2) := by decide +kernel
theorem dX6_add_103 : decode cX6_add 103 = .ok (.iadd, 1) := by decide +kernel
theorem dX6_add_104 : decode cX6_add 104 = .ok (.putfield 44, 3) := by decide +kernel
theorem zu_X6_44 : zz_fw RX6 44 5 1 false .int := ⟨RX6, TX6, 10, tyX6, rfl, zi_X6, by decide, zk_29, tyX6_ok, nmX6, rfl, by decide +kernel, fun h => by cases h⟩
theorem dX6_add_107 : decode cX6_add 107 = .ok (.iload 5, 2) := by decide +kernel
theorem dX6_add_109 : decode cX6_add 109 = .ok (.ireturn, 1) := by decide +kernel
abbrev rm_co_add0 : Room := { frames := 0, cells := 0, slots := 0, locals := 0 }
abbrev po_co_add0 (g : zz_G) (st : Nat) (kd : Nat) (dp : Nat) (cl : Nat) (sa : Nat) (ln : Nat) (bt : Nat) (pn : Nat) (bf : Nat) (k : Int32) (kc : Int32) (n : Int32) : Int32 → va_W → Prop := fun (r : Int32) (u : va_W) => r = 0
set_option maxHeartbeats 4000000 in
set_option maxRecDepth 100000 in
theorem co_add0 (g : zz_G) (st : Nat) (kd : Nat) (dp : Nat) (cl : Nat) (sa : Nat) (ln : Nat) (bt : Nat) (pn : Nat) (bf : Nat) (k : Int32) (kc : Int32) (n : Int32) : zz_I g yX6_add (.code yX6_add cX6_add 7 (some .int)) rm_co_add0 [.ref st, .int k, .int 1, .int kc, .int n] [(st, .inr (5, [.int 0, .int 0, .ref kd, .ref dp, .ref cl, .ref sa, .ref ln, .ref bt, .ref pn, .ref bf])), (kd, .inl (g.2.1, 60, .inl (fun _ => 0))), (dp, .inl (g.2.1, 60, .inl (fun _ => 0))), (cl, .inl (g.2.1, 60, .inl (fun _ => 0))), (sa, .inl (g.2.1, 60, .inl (fun _ => 0))), (ln, .inl (g.2.1, 60, .inl (fun _ => 0)))] (po_co_add0 g st kd dp cl sa ln bt pn bf k kc n) := by
  refine zz_I.intro (own := RX6) (cc := cX6_add) (nL := 7) (by decide) rfl (Nat.le_of_ble_eq_true rfl) ?_
  intro p l e s m args below meth c A H locs ls hC hnm hZ hl
  obtain ⟨hx, hb, hml, hown, hts, hr, hlocks, hK⟩ := id hC
  have hl : lv_has ls 7 [(0, .ref st), (1, .int k), (2, .int 1), (3, .int kc), (4, .int n)] := hl
  have hZ : zz_Z g A s.heap [(st, .inr (5, [.int 0, .int 0, .ref kd, .ref dp, .ref cl, .ref sa, .ref ln, .ref bt, .ref pn, .ref bf])), (kd, .inl (g.2.1, 60, .inl (fun _ => 0))), (dp, .inl (g.2.1, 60, .inl (fun _ => 0))), (cl, .inl (g.2.1, 60, .inl (fun _ => 0))), (sa, .inl (g.2.1, 60, .inl (fun _ => 0))), (ln, .inl (g.2.1, 60, .inl (fun _ => 0)))] H locs := hZ
  refine lv_aload_n hx hb dX6_add_0 rfl (lv_at hl 0 rfl) ?_
  refine zz_get hC hZ 0 rfl zf_X6_38 rfl dX6_add_1 ?_
  refine lv_istore (lv' := [(5, .int 0), (0, .ref st), (1, .int k), (2, .int 1), (3, .int kc), (4, .int n)]) hx hb dX6_add_4 hl (by decide) rfl (fun ls hl => ?_)
  refine lv_aload_n hx hb dX6_add_6 rfl (lv_at hl 1 rfl) ?_
  refine zz_get hC hZ 0 rfl zf_X6_9 rfl dX6_add_7 ?_
  refine lv_iload hx hb dX6_add_10 (lv_at hl 0 rfl) ?_
  refine lv_iload_n hx hb dX6_add_12 rfl (lv_at hl 2 rfl) ?_
  refine zz_iast hC hZ 1 rfl (by unfold vp_in; decide) dX6_add_13 (fun H locs hZ => ?_)
  have hZ : zz_Z g A s.heap [(st, .inr (5, [.int 0, .int 0, .ref kd, .ref dp, .ref cl, .ref sa, .ref ln, .ref bt, .ref pn, .ref bf])), (kd, .inl (g.2.1, 60, .inl (upd (fun _ => 0) ((0 : Int32).toNatClampNeg) k))), (dp, .inl (g.2.1, 60, .inl (fun _ => 0))), (cl, .inl (g.2.1, 60, .inl (fun _ => 0))), (sa, .inl (g.2.1, 60, .inl (fun _ => 0))), (ln, .inl (g.2.1, 60, .inl (fun _ => 0)))] H locs := hZ
  refine lv_aload_n hx hb dX6_add_14 rfl (lv_at hl 1 rfl) ?_
  refine zz_get hC hZ 0 rfl zf_X6_15 rfl dX6_add_15 ?_
  refine lv_iload hx hb dX6_add_18 (lv_at hl 0 rfl) ?_
  refine lv_iload_n hx hb dX6_add_20 rfl (lv_at hl 3 rfl) ?_
  refine zz_iast hC hZ 2 rfl (by unfold vp_in; decide) dX6_add_21 (fun H locs hZ => ?_)
  have hZ : zz_Z g A s.heap [(st, .inr (5, [.int 0, .int 0, .ref kd, .ref dp, .ref cl, .ref sa, .ref ln, .ref bt, .ref pn, .ref bf])), (kd, .inl (g.2.1, 60, .inl (upd (fun _ => 0) ((0 : Int32).toNatClampNeg) k))), (dp, .inl (g.2.1, 60, .inl (upd (fun _ => 0) ((0 : Int32).toNatClampNeg) 1))), (cl, .inl (g.2.1, 60, .inl (fun _ => 0))), (sa, .inl (g.2.1, 60, .inl (fun _ => 0))), (ln, .inl (g.2.1, 60, .inl (fun _ => 0)))] H locs := hZ
  refine lv_aload_n hx hb dX6_add_22 rfl (lv_at hl 1 rfl) ?_
  refine zz_get hC hZ 0 rfl zf_X6_18 rfl dX6_add_23 ?_
  refine lv_iload hx hb dX6_add_26 (lv_at hl 0 rfl) ?_
  refine lv_iload_n hx hb dX6_add_28 rfl (lv_at hl 4 rfl) ?_
  refine zz_iast hC hZ 3 rfl (by unfold vp_in; decide) dX6_add_29 (fun H locs hZ => ?_)
  have hZ : zz_Z g A s.heap [(st, .inr (5, [.int 0, .int 0, .ref kd, .ref dp, .ref cl, .ref sa, .ref ln, .ref bt, .ref pn, .ref bf])), (kd, .inl (g.2.1, 60, .inl (upd (fun _ => 0) ((0 : Int32).toNatClampNeg) k))), (dp, .inl (g.2.1, 60, .inl (upd (fun _ => 0) ((0 : Int32).toNatClampNeg) 1))), (cl, .inl (g.2.1, 60, .inl (upd (fun _ => 0) ((0 : Int32).toNatClampNeg) kc))), (sa, .inl (g.2.1, 60, .inl (fun _ => 0))), (ln, .inl (g.2.1, 60, .inl (fun _ => 0)))] H locs := hZ
  refine lv_aload_n hx hb dX6_add_30 rfl (lv_at hl 1 rfl) ?_
  refine zz_get hC hZ 0 rfl zf_X6_21 rfl dX6_add_31 ?_
  refine lv_iload hx hb dX6_add_34 (lv_at hl 0 rfl) ?_
  refine lv_aload_n hx hb dX6_add_36 rfl (lv_at hl 1 rfl) ?_
  refine zz_get hC hZ 0 rfl zf_X6_44 rfl dX6_add_37 ?_
  refine zz_iast hC hZ 4 rfl (by unfold vp_in; decide) dX6_add_40 (fun H locs hZ => ?_)
  have hZ : zz_Z g A s.heap [(st, .inr (5, [.int 0, .int 0, .ref kd, .ref dp, .ref cl, .ref sa, .ref ln, .ref bt, .ref pn, .ref bf])), (kd, .inl (g.2.1, 60, .inl (upd (fun _ => 0) ((0 : Int32).toNatClampNeg) k))), (dp, .inl (g.2.1, 60, .inl (upd (fun _ => 0) ((0 : Int32).toNatClampNeg) 1))), (cl, .inl (g.2.1, 60, .inl (upd (fun _ => 0) ((0 : Int32).toNatClampNeg) kc))), (sa, .inl (g.2.1, 60, .inl (upd (fun _ => 0) ((0 : Int32).toNatClampNeg) 0))), (ln, .inl (g.2.1, 60, .inl (fun _ => 0)))] H locs := hZ
  refine lv_aload_n hx hb dX6_add_41 rfl (lv_at hl 1 rfl) ?_
  refine zz_get hC hZ 0 rfl zf_X6_24 rfl dX6_add_42 ?_
  refine lv_iload hx hb dX6_add_45 (lv_at hl 0 rfl) ?_
  refine lv_iload hx hb dX6_add_47 (lv_at hl 5 rfl) ?_
  refine zz_iast hC hZ 5 rfl (by unfold vp_in; decide) dX6_add_49 (fun H locs hZ => ?_)
  have hZ : zz_Z g A s.heap [(st, .inr (5, [.int 0, .int 0, .ref kd, .ref dp, .ref cl, .ref sa, .ref ln, .ref bt, .ref pn, .ref bf])), (kd, .inl (g.2.1, 60, .inl (upd (fun _ => 0) ((0 : Int32).toNatClampNeg) k))), (dp, .inl (g.2.1, 60, .inl (upd (fun _ => 0) ((0 : Int32).toNatClampNeg) 1))), (cl, .inl (g.2.1, 60, .inl (upd (fun _ => 0) ((0 : Int32).toNatClampNeg) kc))), (sa, .inl (g.2.1, 60, .inl (upd (fun _ => 0) ((0 : Int32).toNatClampNeg) 0))), (ln, .inl (g.2.1, 60, .inl (upd (fun _ => 0) ((0 : Int32).toNatClampNeg) n)))] H locs := hZ
  refine lv_iload_n hx hb dX6_add_50 rfl (lv_at hl 3 rfl) ?_
  refine lv_iconst (v := 1) hx hb dX6_add_51 (by decide) ?_
  refine lv_icmp_le (tgt := 86) hx hb dX6_add_52 (by decide) (fun c1 => ?_) (fun c => absurd (by decide) c)
  refine lv_aload_n hx hb dX6_add_86 rfl (lv_at hl 1 rfl) ?_
  refine lv_dup hx hb dX6_add_87 rfl ?_
  refine zz_get hC hZ 0 rfl zf_X6_38 rfl dX6_add_88 ?_
  refine lv_iconst (v := 1) hx hb dX6_add_91 (by decide) ?_
  refine lv_iadd hx hb dX6_add_92 ?_
  refine zz_topi (v := 1) (by decide) ?_
  refine zz_put hC hZ 0 rfl zu_X6_38 (Nat.le_of_ble_eq_true rfl) dX6_add_93 (fun H locs hZ => ?_)
  have hZ : zz_Z g A s.heap [(st, .inr (5, [.int 1, .int 0, .ref kd, .ref dp, .ref cl, .ref sa, .ref ln, .ref bt, .ref pn, .ref bf])), (kd, .inl (g.2.1, 60, .inl (upd (fun _ => 0) ((0 : Int32).toNatClampNeg) k))), (dp, .inl (g.2.1, 60, .inl (upd (fun _ => 0) ((0 : Int32).toNatClampNeg) 1))), (cl, .inl (g.2.1, 60, .inl (upd (fun _ => 0) ((0 : Int32).toNatClampNeg) kc))), (sa, .inl (g.2.1, 60, .inl (upd (fun _ => 0) ((0 : Int32).toNatClampNeg) 0))), (ln, .inl (g.2.1, 60, .inl (upd (fun _ => 0) ((0 : Int32).toNatClampNeg) n)))] H locs := hZ
  refine lv_aload_n hx hb dX6_add_96 rfl (lv_at hl 1 rfl) ?_
  refine lv_dup hx hb dX6_add_97 rfl ?_
  refine zz_get hC hZ 0 rfl zf_X6_44 rfl dX6_add_98 ?_
  refine lv_iload hx hb dX6_add_101 (lv_at hl 5 rfl) ?_
  refine lv_iadd hx hb dX6_add_103 ?_
  refine zz_put hC hZ 0 rfl zu_X6_44 (Nat.le_of_ble_eq_true rfl) dX6_add_104 (fun H locs hZ => ?_)
  have hZ : zz_Z g A s.heap [(st, .inr (5, [.int 1, .int (0 + n), .ref kd, .ref dp, .ref cl, .ref sa, .ref ln, .ref bt, .ref pn, .ref bf])), (kd, .inl (g.2.1, 60, .inl (upd (fun _ => 0) ((0 : Int32).toNatClampNeg) k))), (dp, .inl (g.2.1, 60, .inl (upd (fun _ => 0) ((0 : Int32).toNatClampNeg) 1))), (cl, .inl (g.2.1, 60, .inl (upd (fun _ => 0) ((0 : Int32).toNatClampNeg) kc))), (sa, .inl (g.2.1, 60, .inl (upd (fun _ => 0) ((0 : Int32).toNatClampNeg) 0))), (ln, .inl (g.2.1, 60, .inl (upd (fun _ => 0) ((0 : Int32).toNatClampNeg) n)))] H locs := hZ
  refine lv_iload hx hb dX6_add_107 (lv_at hl 0 rfl) ?_
  exact zz_iret hC hZ (rfl) (Nat.le_of_ble_eq_true rfl) (Nat.le_of_ble_eq_true rfl) dX6_add_109
theorem dX7_newArray_0 : decode cX7_newArray 0 = .ok (.iload 4, 2) := by decide +kernel
theorem dX7_newArray_2 : decode cX7_newArray 2 = .ok (.ifCond .ge 9, 3) := by decide +kernel
theorem dX7_newArray_11 : decode cX7_newArray 11 = .ok (.iload 4, 2) := by decide +kernel
theorem dX7_newArray_13 : decode cX7_newArray 13 = .ok (.sipush 200, 3) := by decide +kernel
theorem dX7_newArray_16 : decode cX7_newArray 16 = .ok (.if_icmp .gt 17, 3) := by decide +kernel
theorem dX7_newArray_33 : decode cX7_newArray 33 = .ok (.aload_n 0, 1) := by decide +kernel
theorem dX7_newArray_34 : decode cX7_newArray 34 = .ok (.bipush 8, 2) := by decide +kernel
theorem dX7_newArray_36 : decode cX7_newArray 36 = .ok (.invokevirtual 65, 3) := by decide +kernel
theorem zk_232 : Cond.methodLink RX7 65 yX7_fail ∈ zz_w := zz_in (List.mem_append_right _ (List.mem_append_left _ (List.mem_of_getElem? (i := 232) (by decide +kernel)))) rfl
set_option maxRecDepth 20000 in
theorem zk_235 : Cond.code yX7_fail cX7_fail 2 (some .int) ∈ zz_w := zz_in (List.mem_append_right _ (List.mem_append_left _ (List.mem_of_getElem? (i := 235) (rfl)))) rfl
theorem zk_1 : Cond.initialized RX7 ∈ zz_w := zz_in (List.mem_append_right _ (List.mem_append_left _ (List.mem_of_getElem? (i := 1) (by decide +kernel)))) rfl
theorem zk_234 : Cond.instanceMethod yX7_fail ∈ zz_w := zz_in (List.mem_append_right _ (List.mem_append_left _ (List.mem_of_getElem? (i := 234) (by decide +kernel)))) rfl
theorem zs_0 : Cond.selects RX7 yX7_fail yX7_fail ∈ zz_w := zz_in (List.mem_append_left _ (List.mem_of_getElem? (i := 0) (by decide +kernel))) rfl
theorem zc_X7_65 : zz_cV RX7 65 yX7_fail cX7_fail 2 (some .int) 1 := ⟨⟨zk_232, zk_235, zk_1, by decide, by decide, by decide +kernel⟩, zk_234, zs_0⟩
theorem dX7_newArray_39 : decode cX7_newArray 39 = .ok (.ireturn, 1) := by decide +kernel
theorem dX7_newArray_19 : decode cX7_newArray 19 = .ok (.aload_n 0, 1) := by decide +kernel
theorem dX7_newArray_20 : decode cX7_newArray 20 = .ok (.getfield 10, 3) := by decide +kernel
theorem dX7_newArray_23 : decode cX7_newArray 23 = .ok (.lconst 1, 1) := by decide +kernel
theorem dX7_newArray_24 : decode cX7_newArray 24 = .ok (.iload 4, 2) := by decide +kernel
theorem dX7_newArray_26 : decode cX7_newArray 26 = .ok (.i2l, 1) := by decide +kernel
theorem dX7_newArray_27 : decode cX7_newArray 27 = .ok (.invokevirtual 294, 3) := by decide +kernel
theorem zk_240 : Cond.methodLink RX7 294 yX6_fits ∈ zz_w := zz_in (List.mem_append_right _ (List.mem_append_right _ (List.mem_append_left _ (List.mem_of_getElem? (i := 0) (by decide +kernel))))) rfl
set_option maxRecDepth 20000 in
theorem zk_243 : Cond.code yX6_fits cX6_fits 5 (some .boolean) ∈ zz_w := zz_in (List.mem_append_right _ (List.mem_append_right _ (List.mem_append_left _ (List.mem_of_getElem? (i := 3) (rfl))))) rfl
theorem zk_241 : Cond.instanceMethod yX6_fits ∈ zz_w := zz_in (List.mem_append_right _ (List.mem_append_right _ (List.mem_append_left _ (List.mem_of_getElem? (i := 1) (by decide +kernel))))) rfl
theorem zk_242 : Cond.selects RX6 yX6_fits yX6_fits ∈ zz_w := zz_in (List.mem_append_right _ (List.mem_append_right _ (List.mem_append_left _ (List.mem_of_getElem? (i := 2) (by decide +kernel))))) rfl
theorem zc_X7_294 : zz_cV RX7 294 yX6_fits cX6_fits 5 (some .boolean) 2 := ⟨⟨zk_240, zk_243, zk_2, by decide, by decide, by decide +kernel⟩, zk_241, zk_242⟩
theorem dX7_newArray_30 : decode cX7_newArray 30 = .ok (.ifCond .ne 10, 3) := by decide +kernel
theorem dX7_newArray_40 : decode cX7_newArray 40 = .ok (.aload_n 0, 1) := by decide +kernel
theorem dX7_newArray_41 : decode cX7_newArray 41 = .ok (.aload_n 0, 1) := by decide +kernel
theorem dX7_newArray_42 : decode cX7_newArray 42 = .ok (.getfield 10, 3) := by decide +kernel
theorem dX7_newArray_45 : decode cX7_newArray 45 = .ok (.iload_n 1, 1) := by decide +kernel
theorem dX7_newArray_46 : decode cX7_newArray 46 = .ok (.iload_n 2, 1) := by decide +kernel
theorem dX7_newArray_47 : decode cX7_newArray 47 = .ok (.iload_n 3, 1) := by decide +kernel
theorem dX7_newArray_48 : decode cX7_newArray 48 = .ok (.iload 4, 2) := by decide +kernel
theorem dX7_newArray_50 : decode cX7_newArray 50 = .ok (.invokevirtual 298, 3) := by decide +kernel
theorem zk_246 : Cond.methodLink RX7 298 yX6_add ∈ zz_w := zz_in (List.mem_append_right _ (List.mem_append_right _ (List.mem_append_left _ (List.mem_of_getElem? (i := 6) (by decide +kernel))))) rfl
set_option maxRecDepth 20000 in
theorem zk_249 : Cond.code yX6_add cX6_add 7 (some .int) ∈ zz_w := zz_in (List.mem_append_right _ (List.mem_append_right _ (List.mem_append_left _ (List.mem_of_getElem? (i := 9) (rfl))))) rfl
theorem zk_247 : Cond.instanceMethod yX6_add ∈ zz_w := zz_in (List.mem_append_right _ (List.mem_append_right _ (List.mem_append_left _ (List.mem_of_getElem? (i := 7) (by decide +kernel))))) rfl
theorem zk_248 : Cond.selects RX6 yX6_add yX6_add ∈ zz_w := zz_in (List.mem_append_right _ (List.mem_append_right _ (List.mem_append_left _ (List.mem_of_getElem? (i := 8) (by decide +kernel))))) rfl
theorem zc_X7_298 : zz_cV RX7 298 yX6_add cX6_add 7 (some .int) 4 := ⟨⟨zk_246, zk_249, zk_2, by decide, by decide, by decide +kernel⟩, zk_247, zk_248⟩
theorem dX7_newArray_53 : decode cX7_newArray 53 = .ok (.invokevirtual 100, 3) := by decide +kernel
theorem zk_251 : Cond.methodLink RX7 100 yX7_fine ∈ zz_w := zz_in (List.mem_append_right _ (List.mem_append_right _ (List.mem_append_left _ (List.mem_of_getElem? (i := 11) (by decide +kernel))))) rfl
set_option maxRecDepth 20000 in
theorem zk_254 : Cond.code yX7_fine cX7_fine 2 (some .int) ∈ zz_w := zz_in (List.mem_append_right _ (List.mem_append_right _ (List.mem_append_left _ (List.mem_of_getElem? (i := 14) (rfl))))) rfl
theorem zk_253 : Cond.instanceMethod yX7_fine ∈ zz_w := zz_in (List.mem_append_right _ (List.mem_append_right _ (List.mem_append_left _ (List.mem_of_getElem? (i := 13) (by decide +kernel))))) rfl
theorem zs_2 : Cond.selects RX7 yX7_fine yX7_fine ∈ zz_w := zz_in (List.mem_append_left _ (List.mem_of_getElem? (i := 2) (by decide +kernel))) rfl
theorem zc_X7_100 : zz_cV RX7 100 yX7_fine cX7_fine 2 (some .int) 1 := ⟨⟨zk_251, zk_254, zk_1, by decide, by decide, by decide +kernel⟩, zk_253, zs_2⟩
theorem dX7_newArray_56 : decode cX7_newArray 56 = .ok (.ireturn, 1) := by decide +kernel
theorem dX7_newArray_5 : decode cX7_newArray 5 = .ok (.aload_n 0, 1) := by decide +kernel
theorem dX7_newArray_6 : decode cX7_newArray 6 = .ok (.iconst 4, 1) := by decide +kernel
theorem dX7_newArray_7 : decode cX7_newArray 7 = .ok (.invokevirtual 65, 3) := by decide +kernel
theorem dX7_newArray_10 : decode cX7_newArray 10 = .ok (.ireturn, 1) := by decide +kernel
def fn_co_newArray0 (n : Int32) : Int32 := (if 0 ≤ n then (if 200 < n then -8 else (if (fn_co_fits 0 0 1 n.toInt64) = 0 then -8 else 0)) else -4)
abbrev rm_co_newArray0 : Room := { frames := 1, cells := 0, slots := 0, locals := 26 }
abbrev po_co_newArray0 (g : zz_G) (h0 : Nat) (st : Nat) (mk : Nat) (lk : Nat) (ch : Nat) (ru : Nat) (mr : Nat) (kd : Nat) (dp : Nat) (cl : Nat) (sa : Nat) (ln : Nat) (bt : Nat) (pn : Nat) (bf : Nat) (k : Int32) (kc : Int32) (n : Int32) : Int32 → va_W → Prop := fun (r : Int32) (u : va_W) => r = fn_co_newArray0 n
set_option maxHeartbeats 4000000 in
set_option maxRecDepth 100000 in
theorem co_newArray0 (g : zz_G) (h0 : Nat) (st : Nat) (mk : Nat) (lk : Nat) (ch : Nat) (ru : Nat) (mr : Nat) (kd : Nat) (dp : Nat) (cl : Nat) (sa : Nat) (ln : Nat) (bt : Nat) (pn : Nat) (bf : Nat) (k : Int32) (kc : Int32) (n : Int32) : zz_I g yX7_newArray (.code yX7_newArray cX7_newArray 5 (some .int)) rm_co_newArray0 [.ref h0, .int k, .int 1, .int kc, .int n] [(h0, .inr (6, [.ref st, .ref mk, .ref lk, .ref ch, .ref ru, .ref mr, .int 0, .int 0])), (st, .inr (5, [.int 0, .int 0, .ref kd, .ref dp, .ref cl, .ref sa, .ref ln, .ref bt, .ref pn, .ref bf])), (kd, .inl (g.2.1, 60, .inl (fun _ => 0))), (dp, .inl (g.2.1, 60, .inl (fun _ => 0))), (cl, .inl (g.2.1, 60, .inl (fun _ => 0))), (sa, .inl (g.2.1, 60, .inl (fun _ => 0))), (ln, .inl (g.2.1, 60, .inl (fun _ => 0)))] (po_co_newArray0 g h0 st mk lk ch ru mr kd dp cl sa ln bt pn bf k kc n) := by
  refine zz_I.intro (own := RX7) (cc := cX7_newArray) (nL := 5) (by decide) rfl (Nat.le_of_ble_eq_true rfl) ?_
  intro p l e s m args below meth c A H locs ls hC hnm hZ hl
  obtain ⟨hx, hb, hml, hown, hts, hr, hlocks, hK⟩ := id hC
  have hl : lv_has ls 5 [(0, .ref h0), (1, .int k), (2, .int 1), (3, .int kc), (4, .int n)] := hl
  have hZ : zz_Z g A s.heap [(h0, .inr (6, [.ref st, .ref mk, .ref lk, .ref ch, .ref ru, .ref mr, .int 0, .int 0])), (st, .inr (5, [.int 0, .int 0, .ref kd, .ref dp, .ref cl, .ref sa, .ref ln, .ref bt, .ref pn, .ref bf])), (kd, .inl (g.2.1, 60, .inl (fun _ => 0))), (dp, .inl (g.2.1, 60, .inl (fun _ => 0))), (cl, .inl (g.2.1, 60, .inl (fun _ => 0))), (sa, .inl (g.2.1, 60, .inl (fun _ => 0))), (ln, .inl (g.2.1, 60, .inl (fun _ => 0)))] H locs := hZ
  refine lv_iload hx hb dX7_newArray_0 (lv_at hl 4 rfl) ?_
  refine lv_if_ge (tgt := 11) hx hb dX7_newArray_2 (by decide) (fun c1 => ?_) (fun c1 => ?_)
  · refine lv_iload hx hb dX7_newArray_11 (lv_at hl 4 rfl) ?_
    refine lv_sipush (v := 200) hx hb dX7_newArray_13 (by decide) ?_
    refine lv_icmp_gt (tgt := 33) hx hb dX7_newArray_16 (by decide) (fun c2 => ?_) (fun c2 => ?_)
    · refine lv_aload_n hx hb dX7_newArray_33 rfl (lv_at hl 0 rfl) ?_
      refine lv_bipush (v := 8) hx hb dX7_newArray_34 (by decide) ?_
      refine zz_iV (As := [.int 8]) (wc := [(h0, .inr (6, [.ref st, .ref mk, .ref lk, .ref ch, .ref ru, .ref mr, .int 0, .int 0]))]) (wr := [(st, .inr (5, [.int 0, .int 0, .ref kd, .ref dp, .ref cl, .ref sa, .ref ln, .ref bt, .ref pn, .ref bf])), (kd, .inl (g.2.1, 60, .inl (fun _ => 0))), (dp, .inl (g.2.1, 60, .inl (fun _ => 0))), (cl, .inl (g.2.1, 60, .inl (fun _ => 0))), (sa, .inl (g.2.1, 60, .inl (fun _ => 0))), (ln, .inl (g.2.1, 60, .inl (fun _ => 0)))]) (rest := []) hC hZ hl zc_X7_65 (co_fail g h0 st mk lk ch ru mr 0 0 8) [0] [1, 2, 3, 4, 5, 6] rfl rfl (by decide) (ci := 6) (q0 := 0) rfl rfl rfl rfl (Nat.le_of_ble_eq_true rfl) ⟨⟨Nat.le_of_ble_eq_true rfl, Nat.le_of_ble_eq_true rfl⟩, Nat.le_of_ble_eq_true rfl, Nat.le_of_ble_eq_true rfl⟩ dX7_newArray_36 (fun r3 u4 H locs hp hZ => ?_)
      obtain ⟨rfl, rfl⟩ := hp
      have hZ : zz_Z g A s.heap [(st, .inr (5, [.int 0, .int 0, .ref kd, .ref dp, .ref cl, .ref sa, .ref ln, .ref bt, .ref pn, .ref bf])), (kd, .inl (g.2.1, 60, .inl (fun _ => 0))), (dp, .inl (g.2.1, 60, .inl (fun _ => 0))), (cl, .inl (g.2.1, 60, .inl (fun _ => 0))), (sa, .inl (g.2.1, 60, .inl (fun _ => 0))), (ln, .inl (g.2.1, 60, .inl (fun _ => 0))), (h0, .inr (6, [.ref st, .ref mk, .ref lk, .ref ch, .ref ru, .ref mr, .int 0, .int 8]))] H locs := hZ
      exact zz_iret hC hZ (by show _ = _; rw [fn_co_newArray0, if_pos c1, if_pos c2]) (Nat.le_of_ble_eq_true rfl) (Nat.le_of_ble_eq_true rfl) dX7_newArray_39
    · refine lv_aload_n hx hb dX7_newArray_19 rfl (lv_at hl 0 rfl) ?_
      refine zz_get hC hZ 0 rfl zf_X7_10 rfl dX7_newArray_20 ?_
      refine lv_lconst (v := 1) hx hb dX7_newArray_23 (by decide) ?_
      refine lv_iload hx hb dX7_newArray_24 (lv_at hl 4 rfl) ?_
      refine lv_i2l hx hb dX7_newArray_26 rfl ?_
      refine zz_iV (As := [.long 1, .long n.toInt64]) (wc := [(st, .inr (5, [.int 0, .int 0, .ref kd, .ref dp, .ref cl, .ref sa, .ref ln, .ref bt, .ref pn, .ref bf]))]) (wr := [(h0, .inr (6, [.ref st, .ref mk, .ref lk, .ref ch, .ref ru, .ref mr, .int 0, .int 0])), (kd, .inl (g.2.1, 60, .inl (fun _ => 0))), (dp, .inl (g.2.1, 60, .inl (fun _ => 0))), (cl, .inl (g.2.1, 60, .inl (fun _ => 0))), (sa, .inl (g.2.1, 60, .inl (fun _ => 0))), (ln, .inl (g.2.1, 60, .inl (fun _ => 0)))]) (rest := []) hC hZ hl zc_X7_294 (co_fits g st kd dp cl sa ln bt pn bf 0 0 1 n.toInt64) [1] [0, 2, 3, 4, 5, 6] rfl rfl (by decide) (ci := 5) (q0 := 0) rfl rfl rfl rfl (Nat.le_of_ble_eq_true rfl) ⟨⟨Nat.le_of_ble_eq_true rfl, Nat.le_of_ble_eq_true rfl⟩, Nat.le_of_ble_eq_true rfl, Nat.le_of_ble_eq_true rfl⟩ dX7_newArray_27 (fun r5 u6 H locs hp hZ => ?_)
      obtain ⟨rfl, rfl⟩ := hp
      have hZ : zz_Z g A s.heap [(h0, .inr (6, [.ref st, .ref mk, .ref lk, .ref ch, .ref ru, .ref mr, .int 0, .int 0])), (kd, .inl (g.2.1, 60, .inl (fun _ => 0))), (dp, .inl (g.2.1, 60, .inl (fun _ => 0))), (cl, .inl (g.2.1, 60, .inl (fun _ => 0))), (sa, .inl (g.2.1, 60, .inl (fun _ => 0))), (ln, .inl (g.2.1, 60, .inl (fun _ => 0))), (st, .inr (5, [.int 0, .int 0, .ref kd, .ref dp, .ref cl, .ref sa, .ref ln, .ref bt, .ref pn, .ref bf]))] H locs := hZ
      refine lv_if_ne (tgt := 40) hx hb dX7_newArray_30 (by decide) (fun c7 => ?_) (fun c7 => ?_)
      · refine lv_aload_n hx hb dX7_newArray_40 rfl (lv_at hl 0 rfl) ?_
        refine lv_aload_n hx hb dX7_newArray_41 rfl (lv_at hl 0 rfl) ?_
        refine zz_get hC hZ 0 rfl zf_X7_10 rfl dX7_newArray_42 ?_
        refine lv_iload_n hx hb dX7_newArray_45 rfl (lv_at hl 1 rfl) ?_
        refine lv_iload_n hx hb dX7_newArray_46 rfl (lv_at hl 2 rfl) ?_
        refine lv_iload_n hx hb dX7_newArray_47 rfl (lv_at hl 3 rfl) ?_
        refine lv_iload hx hb dX7_newArray_48 (lv_at hl 4 rfl) ?_
        refine zz_iV (As := [.int k, .int 1, .int kc, .int n]) (wc := [(st, .inr (5, [.int 0, .int 0, .ref kd, .ref dp, .ref cl, .ref sa, .ref ln, .ref bt, .ref pn, .ref bf])), (kd, .inl (g.2.1, 60, .inl (fun _ => 0))), (dp, .inl (g.2.1, 60, .inl (fun _ => 0))), (cl, .inl (g.2.1, 60, .inl (fun _ => 0))), (sa, .inl (g.2.1, 60, .inl (fun _ => 0))), (ln, .inl (g.2.1, 60, .inl (fun _ => 0)))]) (wr := [(h0, .inr (6, [.ref st, .ref mk, .ref lk, .ref ch, .ref ru, .ref mr, .int 0, .int 0]))]) (rest := [.ref h0]) hC hZ hl zc_X7_298 (co_add0 g st kd dp cl sa ln bt pn bf k kc n) [6, 1, 2, 3, 4, 5] [0] rfl rfl (by decide) (ci := 5) (q0 := 0) rfl rfl rfl rfl (Nat.le_of_ble_eq_true rfl) ⟨⟨Nat.le_of_ble_eq_true rfl, Nat.le_of_ble_eq_true rfl⟩, Nat.le_of_ble_eq_true rfl, Nat.le_of_ble_eq_true rfl⟩ dX7_newArray_50 (fun r8 u9 H locs hp hZ => ?_)
        obtain rfl := hp
        have hZ : zz_Z g A s.heap [(h0, .inr (6, [.ref st, .ref mk, .ref lk, .ref ch, .ref ru, .ref mr, .int 0, .int 0]))] H locs := hZ.left
        refine zz_iV (As := [.int 0]) (wc := [(h0, .inr (6, [.ref st, .ref mk, .ref lk, .ref ch, .ref ru, .ref mr, .int 0, .int 0]))]) (wr := []) (rest := []) hC hZ hl zc_X7_100 (co_fine g h0 st mk lk ch ru mr 0 0 0) [0] [] rfl rfl (by decide) (ci := 6) (q0 := 0) rfl rfl rfl rfl (Nat.le_of_ble_eq_true rfl) ⟨⟨Nat.le_of_ble_eq_true rfl, Nat.le_of_ble_eq_true rfl⟩, Nat.le_of_ble_eq_true rfl, Nat.le_of_ble_eq_true rfl⟩ dX7_newArray_53 (fun r10 u11 H locs hp hZ => ?_)
        obtain ⟨rfl, rfl⟩ := hp
        have hZ : zz_Z g A s.heap [(h0, .inr (6, [.ref st, .ref mk, .ref lk, .ref ch, .ref ru, .ref mr, .int 0, .int 0]))] H locs := hZ
        exact zz_iret hC hZ (by show _ = _; rw [fn_co_newArray0, if_pos c1, if_neg c2, if_neg c7]) (Nat.le_of_ble_eq_true rfl) (Nat.le_of_ble_eq_true rfl) dX7_newArray_56
      · refine lv_aload_n hx hb dX7_newArray_33 rfl (lv_at hl 0 rfl) ?_
        refine lv_bipush (v := 8) hx hb dX7_newArray_34 (by decide) ?_
        refine zz_iV (As := [.int 8]) (wc := [(h0, .inr (6, [.ref st, .ref mk, .ref lk, .ref ch, .ref ru, .ref mr, .int 0, .int 0]))]) (wr := [(kd, .inl (g.2.1, 60, .inl (fun _ => 0))), (dp, .inl (g.2.1, 60, .inl (fun _ => 0))), (cl, .inl (g.2.1, 60, .inl (fun _ => 0))), (sa, .inl (g.2.1, 60, .inl (fun _ => 0))), (ln, .inl (g.2.1, 60, .inl (fun _ => 0))), (st, .inr (5, [.int 0, .int 0, .ref kd, .ref dp, .ref cl, .ref sa, .ref ln, .ref bt, .ref pn, .ref bf]))]) (rest := []) hC hZ hl zc_X7_65 (co_fail g h0 st mk lk ch ru mr 0 0 8) [0] [1, 2, 3, 4, 5, 6] rfl rfl (by decide) (ci := 6) (q0 := 0) rfl rfl rfl rfl (Nat.le_of_ble_eq_true rfl) ⟨⟨Nat.le_of_ble_eq_true rfl, Nat.le_of_ble_eq_true rfl⟩, Nat.le_of_ble_eq_true rfl, Nat.le_of_ble_eq_true rfl⟩ dX7_newArray_36 (fun r12 u13 H locs hp hZ => ?_)
        obtain ⟨rfl, rfl⟩ := hp
        have hZ : zz_Z g A s.heap [(kd, .inl (g.2.1, 60, .inl (fun _ => 0))), (dp, .inl (g.2.1, 60, .inl (fun _ => 0))), (cl, .inl (g.2.1, 60, .inl (fun _ => 0))), (sa, .inl (g.2.1, 60, .inl (fun _ => 0))), (ln, .inl (g.2.1, 60, .inl (fun _ => 0))), (st, .inr (5, [.int 0, .int 0, .ref kd, .ref dp, .ref cl, .ref sa, .ref ln, .ref bt, .ref pn, .ref bf])), (h0, .inr (6, [.ref st, .ref mk, .ref lk, .ref ch, .ref ru, .ref mr, .int 0, .int 8]))] H locs := hZ
        exact zz_iret hC hZ (by show _ = _; rw [fn_co_newArray0, if_pos c1, if_neg c2, if_pos c7]) (Nat.le_of_ble_eq_true rfl) (Nat.le_of_ble_eq_true rfl) dX7_newArray_39
  · refine lv_aload_n hx hb dX7_newArray_5 rfl (lv_at hl 0 rfl) ?_
    refine lv_iconst (v := 4) hx hb dX7_newArray_6 (by decide) ?_
    refine zz_iV (As := [.int 4]) (wc := [(h0, .inr (6, [.ref st, .ref mk, .ref lk, .ref ch, .ref ru, .ref mr, .int 0, .int 0]))]) (wr := [(st, .inr (5, [.int 0, .int 0, .ref kd, .ref dp, .ref cl, .ref sa, .ref ln, .ref bt, .ref pn, .ref bf])), (kd, .inl (g.2.1, 60, .inl (fun _ => 0))), (dp, .inl (g.2.1, 60, .inl (fun _ => 0))), (cl, .inl (g.2.1, 60, .inl (fun _ => 0))), (sa, .inl (g.2.1, 60, .inl (fun _ => 0))), (ln, .inl (g.2.1, 60, .inl (fun _ => 0)))]) (rest := []) hC hZ hl zc_X7_65 (co_fail g h0 st mk lk ch ru mr 0 0 4) [0] [1, 2, 3, 4, 5, 6] rfl rfl (by decide) (ci := 6) (q0 := 0) rfl rfl rfl rfl (Nat.le_of_ble_eq_true rfl) ⟨⟨Nat.le_of_ble_eq_true rfl, Nat.le_of_ble_eq_true rfl⟩, Nat.le_of_ble_eq_true rfl, Nat.le_of_ble_eq_true rfl⟩ dX7_newArray_7 (fun r14 u15 H locs hp hZ => ?_)
    obtain ⟨rfl, rfl⟩ := hp
    have hZ : zz_Z g A s.heap [(st, .inr (5, [.int 0, .int 0, .ref kd, .ref dp, .ref cl, .ref sa, .ref ln, .ref bt, .ref pn, .ref bf])), (kd, .inl (g.2.1, 60, .inl (fun _ => 0))), (dp, .inl (g.2.1, 60, .inl (fun _ => 0))), (cl, .inl (g.2.1, 60, .inl (fun _ => 0))), (sa, .inl (g.2.1, 60, .inl (fun _ => 0))), (ln, .inl (g.2.1, 60, .inl (fun _ => 0))), (h0, .inr (6, [.ref st, .ref mk, .ref lk, .ref ch, .ref ru, .ref mr, .int 0, .int 4]))] H locs := hZ
    exact zz_iret hC hZ (by show _ = _; rw [fn_co_newArray0, if_neg c1]) (Nat.le_of_ble_eq_true rfl) (Nat.le_of_ble_eq_true rfl) dX7_newArray_10
theorem dX7_array_0 : decode cX7_array 0 = .ok (.iload_n 1, 1) := by decide +kernel
theorem dX7_array_1 : decode cX7_array 1 = .ok (.invokestatic 59, 3) := by decide +kernel
theorem zk_229 : Cond.methodLink RX7 59 yX1_isKind ∈ zz_w := zz_in (List.mem_append_right _ (List.mem_append_left _ (List.mem_of_getElem? (i := 229) (by decide +kernel)))) rfl
set_option maxRecDepth 20000 in
theorem zk_231 : Cond.code yX1_isKind cX1_isKind 1 (some .boolean) ∈ zz_w := zz_in (List.mem_append_right _ (List.mem_append_left _ (List.mem_of_getElem? (i := 231) (rfl)))) rfl
theorem zk_8 : Cond.initialized RX1 ∈ zz_w := zz_in (List.mem_append_right _ (List.mem_append_left _ (List.mem_of_getElem? (i := 8) (by decide +kernel)))) rfl
theorem zk_230 : Cond.static yX1_isKind ∈ zz_w := zz_in (List.mem_append_right _ (List.mem_append_left _ (List.mem_of_getElem? (i := 230) (by decide +kernel)))) rfl
theorem zc_X7_59 : zz_cS RX7 59 yX1_isKind cX1_isKind 1 (some .boolean) 1 := ⟨⟨zk_229, zk_231, zk_8, by decide, by decide, by decide +kernel⟩, zk_230⟩
theorem dX7_array_4 : decode cX7_array 4 = .ok (.ifCond .ne 10, 3) := by decide +kernel
theorem dX7_array_14 : decode cX7_array 14 = .ok (.aload_n 0, 1) := by decide +kernel
theorem dX7_array_15 : decode cX7_array 15 = .ok (.iload_n 1, 1) := by decide +kernel
theorem dX7_array_16 : decode cX7_array 16 = .ok (.iconst 1, 1) := by decide +kernel
theorem dX7_array_17 : decode cX7_array 17 = .ok (.iconst (-1), 1) := by decide +kernel
theorem dX7_array_18 : decode cX7_array 18 = .ok (.iload_n 2, 1) := by decide +kernel
theorem dX7_array_19 : decode cX7_array 19 = .ok (.invokevirtual 69, 3) := by decide +kernel
theorem zk_236 : Cond.methodLink RX7 69 yX7_newArray ∈ zz_w := zz_in (List.mem_append_right _ (List.mem_append_left _ (List.mem_of_getElem? (i := 236) (by decide +kernel)))) rfl
set_option maxRecDepth 20000 in
theorem zk_239 : Cond.code yX7_newArray cX7_newArray 5 (some .int) ∈ zz_w := zz_in (List.mem_append_right _ (List.mem_append_left _ (List.mem_of_getElem? (i := 239) (rfl)))) rfl
theorem zk_238 : Cond.instanceMethod yX7_newArray ∈ zz_w := zz_in (List.mem_append_right _ (List.mem_append_left _ (List.mem_of_getElem? (i := 238) (by decide +kernel)))) rfl
theorem zs_1 : Cond.selects RX7 yX7_newArray yX7_newArray ∈ zz_w := zz_in (List.mem_append_left _ (List.mem_of_getElem? (i := 1) (by decide +kernel))) rfl
theorem zc_X7_69 : zz_cV RX7 69 yX7_newArray cX7_newArray 5 (some .int) 4 := ⟨⟨zk_236, zk_239, zk_1, by decide, by decide, by decide +kernel⟩, zk_238, zs_1⟩
theorem dX7_array_22 : decode cX7_array 22 = .ok (.ireturn, 1) := by decide +kernel
theorem dX7_array_7 : decode cX7_array 7 = .ok (.aload_n 0, 1) := by decide +kernel
theorem dX7_array_8 : decode cX7_array 8 = .ok (.bipush 9, 2) := by decide +kernel
theorem dX7_array_10 : decode cX7_array 10 = .ok (.invokevirtual 65, 3) := by decide +kernel
theorem dX7_array_13 : decode cX7_array 13 = .ok (.ireturn, 1) := by decide +kernel
def fn_cx_array (x1 : Int32) (x2 : Int32) : Int32 := (if (fn_co_isKind x1) = 0 then -9 else (fn_co_newArray0 x2))
abbrev rm_cx_array : Room := { frames := 2, cells := 0, slots := 0, locals := 50 }
abbrev po_cx_array (g : zz_G) (h0 : Nat) (st : Nat) (mk : Nat) (lk : Nat) (ch : Nat) (ru : Nat) (mr : Nat) (kd : Nat) (dp : Nat) (cl : Nat) (sa : Nat) (ln : Nat) (bt : Nat) (pn : Nat) (bf : Nat) (x1 : Int32) (x2 : Int32) : Int32 → va_W → Prop := fun (r : Int32) (u : va_W) => r = fn_cx_array x1 x2
set_option maxHeartbeats 4000000 in
set_option maxRecDepth 100000 in
theorem cx_array (g : zz_G) (h0 : Nat) (st : Nat) (mk : Nat) (lk : Nat) (ch : Nat) (ru : Nat) (mr : Nat) (kd : Nat) (dp : Nat) (cl : Nat) (sa : Nat) (ln : Nat) (bt : Nat) (pn : Nat) (bf : Nat) (x1 : Int32) (x2 : Int32) : zz_I g yX7_array (.code yX7_array cX7_array 3 (some .int)) rm_cx_array [.ref h0, .int x1, .int x2] [(h0, .inr (6, [.ref st, .ref mk, .ref lk, .ref ch, .ref ru, .ref mr, .int 0, .int 0])), (st, .inr (5, [.int 0, .int 0, .ref kd, .ref dp, .ref cl, .ref sa, .ref ln, .ref bt, .ref pn, .ref bf])), (kd, .inl (g.2.1, 60, .inl (fun _ => 0))), (dp, .inl (g.2.1, 60, .inl (fun _ => 0))), (cl, .inl (g.2.1, 60, .inl (fun _ => 0))), (sa, .inl (g.2.1, 60, .inl (fun _ => 0))), (ln, .inl (g.2.1, 60, .inl (fun _ => 0)))] (po_cx_array g h0 st mk lk ch ru mr kd dp cl sa ln bt pn bf x1 x2) := by
  refine zz_I.intro (own := RX7) (cc := cX7_array) (nL := 3) (by decide) rfl (Nat.le_of_ble_eq_true rfl) ?_
  intro p l e s m args below meth c A H locs ls hC hnm hZ hl
  obtain ⟨hx, hb, hml, hown, hts, hr, hlocks, hK⟩ := id hC
  have hl : lv_has ls 3 [(0, .ref h0), (1, .int x1), (2, .int x2)] := hl
  have hZ : zz_Z g A s.heap [(h0, .inr (6, [.ref st, .ref mk, .ref lk, .ref ch, .ref ru, .ref mr, .int 0, .int 0])), (st, .inr (5, [.int 0, .int 0, .ref kd, .ref dp, .ref cl, .ref sa, .ref ln, .ref bt, .ref pn, .ref bf])), (kd, .inl (g.2.1, 60, .inl (fun _ => 0))), (dp, .inl (g.2.1, 60, .inl (fun _ => 0))), (cl, .inl (g.2.1, 60, .inl (fun _ => 0))), (sa, .inl (g.2.1, 60, .inl (fun _ => 0))), (ln, .inl (g.2.1, 60, .inl (fun _ => 0)))] H locs := hZ
  refine lv_iload_n hx hb dX7_array_0 rfl (lv_at hl 1 rfl) ?_
  refine zz_iS (As := [.int x1]) (wc := []) (wr := [(h0, .inr (6, [.ref st, .ref mk, .ref lk, .ref ch, .ref ru, .ref mr, .int 0, .int 0])), (st, .inr (5, [.int 0, .int 0, .ref kd, .ref dp, .ref cl, .ref sa, .ref ln, .ref bt, .ref pn, .ref bf])), (kd, .inl (g.2.1, 60, .inl (fun _ => 0))), (dp, .inl (g.2.1, 60, .inl (fun _ => 0))), (cl, .inl (g.2.1, 60, .inl (fun _ => 0))), (sa, .inl (g.2.1, 60, .inl (fun _ => 0))), (ln, .inl (g.2.1, 60, .inl (fun _ => 0)))]) (rest := []) hC hZ hl zc_X7_59 (co_isKind g x1) [] [0, 1, 2, 3, 4, 5, 6] rfl rfl (by decide) rfl rfl (Nat.le_of_ble_eq_true rfl) ⟨⟨Nat.le_of_ble_eq_true rfl, Nat.le_of_ble_eq_true rfl⟩, Nat.le_of_ble_eq_true rfl, Nat.le_of_ble_eq_true rfl⟩ dX7_array_1 (fun r1 u2 H locs hp hZ => ?_)
  obtain ⟨rfl, rfl⟩ := hp
  have hZ : zz_Z g A s.heap [(h0, .inr (6, [.ref st, .ref mk, .ref lk, .ref ch, .ref ru, .ref mr, .int 0, .int 0])), (st, .inr (5, [.int 0, .int 0, .ref kd, .ref dp, .ref cl, .ref sa, .ref ln, .ref bt, .ref pn, .ref bf])), (kd, .inl (g.2.1, 60, .inl (fun _ => 0))), (dp, .inl (g.2.1, 60, .inl (fun _ => 0))), (cl, .inl (g.2.1, 60, .inl (fun _ => 0))), (sa, .inl (g.2.1, 60, .inl (fun _ => 0))), (ln, .inl (g.2.1, 60, .inl (fun _ => 0)))] H locs := hZ
  refine lv_if_ne (tgt := 14) hx hb dX7_array_4 (by decide) (fun c3 => ?_) (fun c3 => ?_)
  · refine lv_aload_n hx hb dX7_array_14 rfl (lv_at hl 0 rfl) ?_
    refine lv_iload_n hx hb dX7_array_15 rfl (lv_at hl 1 rfl) ?_
    refine lv_iconst (v := 1) hx hb dX7_array_16 (by decide) ?_
    refine lv_iconst (v := -1) hx hb dX7_array_17 (by decide) ?_
    refine lv_iload_n hx hb dX7_array_18 rfl (lv_at hl 2 rfl) ?_
    refine zz_iV (As := [.int x1, .int 1, .int (-1), .int x2]) (wc := [(h0, .inr (6, [.ref st, .ref mk, .ref lk, .ref ch, .ref ru, .ref mr, .int 0, .int 0])), (st, .inr (5, [.int 0, .int 0, .ref kd, .ref dp, .ref cl, .ref sa, .ref ln, .ref bt, .ref pn, .ref bf])), (kd, .inl (g.2.1, 60, .inl (fun _ => 0))), (dp, .inl (g.2.1, 60, .inl (fun _ => 0))), (cl, .inl (g.2.1, 60, .inl (fun _ => 0))), (sa, .inl (g.2.1, 60, .inl (fun _ => 0))), (ln, .inl (g.2.1, 60, .inl (fun _ => 0)))]) (wr := []) (rest := []) hC hZ hl zc_X7_69 (co_newArray0 g h0 st mk lk ch ru mr kd dp cl sa ln bt pn bf x1 (-1) x2) [0, 1, 2, 3, 4, 5, 6] [] rfl rfl (by decide) (ci := 6) (q0 := 0) rfl rfl rfl rfl (Nat.le_of_ble_eq_true rfl) ⟨⟨Nat.le_of_ble_eq_true rfl, Nat.le_of_ble_eq_true rfl⟩, Nat.le_of_ble_eq_true rfl, Nat.le_of_ble_eq_true rfl⟩ dX7_array_19 (fun r4 u5 H locs hp hZ => ?_)
    obtain rfl := hp
    have hZ : zz_Z g A s.heap [] H locs := hZ.left
    exact zz_iret hC hZ (by show _ = _; rw [fn_cx_array, if_neg c3]) (Nat.le_of_ble_eq_true rfl) (Nat.le_of_ble_eq_true rfl) dX7_array_22
  · refine lv_aload_n hx hb dX7_array_7 rfl (lv_at hl 0 rfl) ?_
    refine lv_bipush (v := 9) hx hb dX7_array_8 (by decide) ?_
    refine zz_iV (As := [.int 9]) (wc := [(h0, .inr (6, [.ref st, .ref mk, .ref lk, .ref ch, .ref ru, .ref mr, .int 0, .int 0]))]) (wr := [(st, .inr (5, [.int 0, .int 0, .ref kd, .ref dp, .ref cl, .ref sa, .ref ln, .ref bt, .ref pn, .ref bf])), (kd, .inl (g.2.1, 60, .inl (fun _ => 0))), (dp, .inl (g.2.1, 60, .inl (fun _ => 0))), (cl, .inl (g.2.1, 60, .inl (fun _ => 0))), (sa, .inl (g.2.1, 60, .inl (fun _ => 0))), (ln, .inl (g.2.1, 60, .inl (fun _ => 0)))]) (rest := []) hC hZ hl zc_X7_65 (co_fail g h0 st mk lk ch ru mr 0 0 9) [0] [1, 2, 3, 4, 5, 6] rfl rfl (by decide) (ci := 6) (q0 := 0) rfl rfl rfl rfl (Nat.le_of_ble_eq_true rfl) ⟨⟨Nat.le_of_ble_eq_true rfl, Nat.le_of_ble_eq_true rfl⟩, Nat.le_of_ble_eq_true rfl, Nat.le_of_ble_eq_true rfl⟩ dX7_array_10 (fun r6 u7 H locs hp hZ => ?_)
    obtain ⟨rfl, rfl⟩ := hp
    have hZ : zz_Z g A s.heap [(st, .inr (5, [.int 0, .int 0, .ref kd, .ref dp, .ref cl, .ref sa, .ref ln, .ref bt, .ref pn, .ref bf])), (kd, .inl (g.2.1, 60, .inl (fun _ => 0))), (dp, .inl (g.2.1, 60, .inl (fun _ => 0))), (cl, .inl (g.2.1, 60, .inl (fun _ => 0))), (sa, .inl (g.2.1, 60, .inl (fun _ => 0))), (ln, .inl (g.2.1, 60, .inl (fun _ => 0))), (h0, .inr (6, [.ref st, .ref mk, .ref lk, .ref ch, .ref ru, .ref mr, .int 0, .int 9]))] H locs := hZ
    exact zz_iret hC hZ (by show _ = _; rw [fn_cx_array, if_pos c3]) (Nat.le_of_ble_eq_true rfl) (Nat.le_of_ble_eq_true rfl) dX7_array_13
theorem dX7_things_0 : decode cX7_things 0 = .ok (.iload_n 1, 1) := by decide +kernel
theorem dX7_things_1 : decode cX7_things 1 = .ok (.ifCond .lt 9, 3) := by decide +kernel
theorem dX7_things_10 : decode cX7_things 10 = .ok (.aload_n 0, 1) := by decide +kernel
theorem dX7_things_11 : decode cX7_things 11 = .ok (.bipush 9, 2) := by decide +kernel
theorem dX7_things_13 : decode cX7_things 13 = .ok (.invokevirtual 65, 3) := by decide +kernel
theorem dX7_things_16 : decode cX7_things 16 = .ok (.ireturn, 1) := by decide +kernel
theorem dX7_things_4 : decode cX7_things 4 = .ok (.iload_n 1, 1) := by decide +kernel
theorem dX7_things_5 : decode cX7_things 5 = .ok (.bipush 7, 2) := by decide +kernel
theorem dX7_things_7 : decode cX7_things 7 = .ok (.if_icmp .lt 10, 3) := by decide +kernel
theorem dX7_things_17 : decode cX7_things 17 = .ok (.aload_n 0, 1) := by decide +kernel
theorem dX7_things_18 : decode cX7_things 18 = .ok (.bipush 8, 2) := by decide +kernel
theorem dX7_things_20 : decode cX7_things 20 = .ok (.iconst 1, 1) := by decide +kernel
theorem dX7_things_21 : decode cX7_things 21 = .ok (.iload_n 1, 1) := by decide +kernel
theorem dX7_things_22 : decode cX7_things 22 = .ok (.iload_n 2, 1) := by decide +kernel
theorem dX7_things_23 : decode cX7_things 23 = .ok (.invokevirtual 69, 3) := by decide +kernel
theorem dX7_things_26 : decode cX7_things 26 = .ok (.ireturn, 1) := by decide +kernel
def fn_cx_things (x1 : Int32) (x2 : Int32) : Int32 := (if x1 < 0 then -9 else (if x1 < 7 then (fn_co_newArray0 x2) else -9))
abbrev rm_cx_things : Room := { frames := 2, cells := 0, slots := 0, locals := 50 }
abbrev po_cx_things (g : zz_G) (h0 : Nat) (st : Nat) (mk : Nat) (lk : Nat) (ch : Nat) (ru : Nat) (mr : Nat) (kd : Nat) (dp : Nat) (cl : Nat) (sa : Nat) (ln : Nat) (bt : Nat) (pn : Nat) (bf : Nat) (x1 : Int32) (x2 : Int32) : Int32 → va_W → Prop := fun (r : Int32) (u : va_W) => r = fn_cx_things x1 x2
set_option maxHeartbeats 4000000 in
set_option maxRecDepth 100000 in
theorem cx_things (g : zz_G) (h0 : Nat) (st : Nat) (mk : Nat) (lk : Nat) (ch : Nat) (ru : Nat) (mr : Nat) (kd : Nat) (dp : Nat) (cl : Nat) (sa : Nat) (ln : Nat) (bt : Nat) (pn : Nat) (bf : Nat) (x1 : Int32) (x2 : Int32) : zz_I g yX7_things (.code yX7_things cX7_things 3 (some .int)) rm_cx_things [.ref h0, .int x1, .int x2] [(h0, .inr (6, [.ref st, .ref mk, .ref lk, .ref ch, .ref ru, .ref mr, .int 0, .int 0])), (st, .inr (5, [.int 0, .int 0, .ref kd, .ref dp, .ref cl, .ref sa, .ref ln, .ref bt, .ref pn, .ref bf])), (kd, .inl (g.2.1, 60, .inl (fun _ => 0))), (dp, .inl (g.2.1, 60, .inl (fun _ => 0))), (cl, .inl (g.2.1, 60, .inl (fun _ => 0))), (sa, .inl (g.2.1, 60, .inl (fun _ => 0))), (ln, .inl (g.2.1, 60, .inl (fun _ => 0)))] (po_cx_things g h0 st mk lk ch ru mr kd dp cl sa ln bt pn bf x1 x2) := by
  refine zz_I.intro (own := RX7) (cc := cX7_things) (nL := 3) (by decide) rfl (Nat.le_of_ble_eq_true rfl) ?_
  intro p l e s m args below meth c A H locs ls hC hnm hZ hl
  obtain ⟨hx, hb, hml, hown, hts, hr, hlocks, hK⟩ := id hC
  have hl : lv_has ls 3 [(0, .ref h0), (1, .int x1), (2, .int x2)] := hl
  have hZ : zz_Z g A s.heap [(h0, .inr (6, [.ref st, .ref mk, .ref lk, .ref ch, .ref ru, .ref mr, .int 0, .int 0])), (st, .inr (5, [.int 0, .int 0, .ref kd, .ref dp, .ref cl, .ref sa, .ref ln, .ref bt, .ref pn, .ref bf])), (kd, .inl (g.2.1, 60, .inl (fun _ => 0))), (dp, .inl (g.2.1, 60, .inl (fun _ => 0))), (cl, .inl (g.2.1, 60, .inl (fun _ => 0))), (sa, .inl (g.2.1, 60, .inl (fun _ => 0))), (ln, .inl (g.2.1, 60, .inl (fun _ => 0)))] H locs := hZ
  refine lv_iload_n hx hb dX7_things_0 rfl (lv_at hl 1 rfl) ?_
  refine lv_if_lt (tgt := 10) hx hb dX7_things_1 (by decide) (fun c1 => ?_) (fun c1 => ?_)
  · refine lv_aload_n hx hb dX7_things_10 rfl (lv_at hl 0 rfl) ?_
    refine lv_bipush (v := 9) hx hb dX7_things_11 (by decide) ?_
    refine zz_iV (As := [.int 9]) (wc := [(h0, .inr (6, [.ref st, .ref mk, .ref lk, .ref ch, .ref ru, .ref mr, .int 0, .int 0]))]) (wr := [(st, .inr (5, [.int 0, .int 0, .ref kd, .ref dp, .ref cl, .ref sa, .ref ln, .ref bt, .ref pn, .ref bf])), (kd, .inl (g.2.1, 60, .inl (fun _ => 0))), (dp, .inl (g.2.1, 60, .inl (fun _ => 0))), (cl, .inl (g.2.1, 60, .inl (fun _ => 0))), (sa, .inl (g.2.1, 60, .inl (fun _ => 0))), (ln, .inl (g.2.1, 60, .inl (fun _ => 0)))]) (rest := []) hC hZ hl zc_X7_65 (co_fail g h0 st mk lk ch ru mr 0 0 9) [0] [1, 2, 3, 4, 5, 6] rfl rfl (by decide) (ci := 6) (q0 := 0) rfl rfl rfl rfl (Nat.le_of_ble_eq_true rfl) ⟨⟨Nat.le_of_ble_eq_true rfl, Nat.le_of_ble_eq_true rfl⟩, Nat.le_of_ble_eq_true rfl, Nat.le_of_ble_eq_true rfl⟩ dX7_things_13 (fun r2 u3 H locs hp hZ => ?_)
    obtain ⟨rfl, rfl⟩ := hp
    have hZ : zz_Z g A s.heap [(st, .inr (5, [.int 0, .int 0, .ref kd, .ref dp, .ref cl, .ref sa, .ref ln, .ref bt, .ref pn, .ref bf])), (kd, .inl (g.2.1, 60, .inl (fun _ => 0))), (dp, .inl (g.2.1, 60, .inl (fun _ => 0))), (cl, .inl (g.2.1, 60, .inl (fun _ => 0))), (sa, .inl (g.2.1, 60, .inl (fun _ => 0))), (ln, .inl (g.2.1, 60, .inl (fun _ => 0))), (h0, .inr (6, [.ref st, .ref mk, .ref lk, .ref ch, .ref ru, .ref mr, .int 0, .int 9]))] H locs := hZ
    exact zz_iret hC hZ (by show _ = _; rw [fn_cx_things, if_pos c1]) (Nat.le_of_ble_eq_true rfl) (Nat.le_of_ble_eq_true rfl) dX7_things_16
  · refine lv_iload_n hx hb dX7_things_4 rfl (lv_at hl 1 rfl) ?_
    refine lv_bipush (v := 7) hx hb dX7_things_5 (by decide) ?_
    refine lv_icmp_lt (tgt := 17) hx hb dX7_things_7 (by decide) (fun c4 => ?_) (fun c4 => ?_)
    · refine lv_aload_n hx hb dX7_things_17 rfl (lv_at hl 0 rfl) ?_
      refine lv_bipush (v := 8) hx hb dX7_things_18 (by decide) ?_
      refine lv_iconst (v := 1) hx hb dX7_things_20 (by decide) ?_
      refine lv_iload_n hx hb dX7_things_21 rfl (lv_at hl 1 rfl) ?_
      refine lv_iload_n hx hb dX7_things_22 rfl (lv_at hl 2 rfl) ?_
      refine zz_iV (As := [.int 8, .int 1, .int x1, .int x2]) (wc := [(h0, .inr (6, [.ref st, .ref mk, .ref lk, .ref ch, .ref ru, .ref mr, .int 0, .int 0])), (st, .inr (5, [.int 0, .int 0, .ref kd, .ref dp, .ref cl, .ref sa, .ref ln, .ref bt, .ref pn, .ref bf])), (kd, .inl (g.2.1, 60, .inl (fun _ => 0))), (dp, .inl (g.2.1, 60, .inl (fun _ => 0))), (cl, .inl (g.2.1, 60, .inl (fun _ => 0))), (sa, .inl (g.2.1, 60, .inl (fun _ => 0))), (ln, .inl (g.2.1, 60, .inl (fun _ => 0)))]) (wr := []) (rest := []) hC hZ hl zc_X7_69 (co_newArray0 g h0 st mk lk ch ru mr kd dp cl sa ln bt pn bf 8 x1 x2) [0, 1, 2, 3, 4, 5, 6] [] rfl rfl (by decide) (ci := 6) (q0 := 0) rfl rfl rfl rfl (Nat.le_of_ble_eq_true rfl) ⟨⟨Nat.le_of_ble_eq_true rfl, Nat.le_of_ble_eq_true rfl⟩, Nat.le_of_ble_eq_true rfl, Nat.le_of_ble_eq_true rfl⟩ dX7_things_23 (fun r5 u6 H locs hp hZ => ?_)
      obtain rfl := hp
      have hZ : zz_Z g A s.heap [] H locs := hZ.left
      exact zz_iret hC hZ (by show _ = _; rw [fn_cx_things, if_neg c1, if_pos c4]) (Nat.le_of_ble_eq_true rfl) (Nat.le_of_ble_eq_true rfl) dX7_things_26
    · refine lv_aload_n hx hb dX7_things_10 rfl (lv_at hl 0 rfl) ?_
      refine lv_bipush (v := 9) hx hb dX7_things_11 (by decide) ?_
      refine zz_iV (As := [.int 9]) (wc := [(h0, .inr (6, [.ref st, .ref mk, .ref lk, .ref ch, .ref ru, .ref mr, .int 0, .int 0]))]) (wr := [(st, .inr (5, [.int 0, .int 0, .ref kd, .ref dp, .ref cl, .ref sa, .ref ln, .ref bt, .ref pn, .ref bf])), (kd, .inl (g.2.1, 60, .inl (fun _ => 0))), (dp, .inl (g.2.1, 60, .inl (fun _ => 0))), (cl, .inl (g.2.1, 60, .inl (fun _ => 0))), (sa, .inl (g.2.1, 60, .inl (fun _ => 0))), (ln, .inl (g.2.1, 60, .inl (fun _ => 0)))]) (rest := []) hC hZ hl zc_X7_65 (co_fail g h0 st mk lk ch ru mr 0 0 9) [0] [1, 2, 3, 4, 5, 6] rfl rfl (by decide) (ci := 6) (q0 := 0) rfl rfl rfl rfl (Nat.le_of_ble_eq_true rfl) ⟨⟨Nat.le_of_ble_eq_true rfl, Nat.le_of_ble_eq_true rfl⟩, Nat.le_of_ble_eq_true rfl, Nat.le_of_ble_eq_true rfl⟩ dX7_things_13 (fun r7 u8 H locs hp hZ => ?_)
      obtain ⟨rfl, rfl⟩ := hp
      have hZ : zz_Z g A s.heap [(st, .inr (5, [.int 0, .int 0, .ref kd, .ref dp, .ref cl, .ref sa, .ref ln, .ref bt, .ref pn, .ref bf])), (kd, .inl (g.2.1, 60, .inl (fun _ => 0))), (dp, .inl (g.2.1, 60, .inl (fun _ => 0))), (cl, .inl (g.2.1, 60, .inl (fun _ => 0))), (sa, .inl (g.2.1, 60, .inl (fun _ => 0))), (ln, .inl (g.2.1, 60, .inl (fun _ => 0))), (h0, .inr (6, [.ref st, .ref mk, .ref lk, .ref ch, .ref ru, .ref mr, .int 0, .int 9]))] H locs := hZ
      exact zz_iret hC hZ (by show _ = _; rw [fn_cx_things, if_neg c1, if_neg c4]) (Nat.le_of_ble_eq_true rfl) (Nat.le_of_ble_eq_true rfl) dX7_things_16
theorem dX7_rows_0 : decode cX7_rows 0 = .ok (.aload_n 0, 1) := by decide +kernel
theorem dX7_rows_1 : decode cX7_rows 1 = .ok (.getfield 10, 3) := by decide +kernel
theorem dX7_rows_4 : decode cX7_rows 4 = .ok (.iload_n 1, 1) := by decide +kernel
theorem dX7_rows_5 : decode cX7_rows 5 = .ok (.invokevirtual 73, 3) := by decide +kernel
theorem dX7_rows_8 : decode cX7_rows 8 = .ok (.ifCond .ne 9, 3) := by decide +kernel
theorem dX7_rows_11 : decode cX7_rows 11 = .ok (.aload_n 0, 1) := by decide +kernel
theorem dX7_rows_12 : decode cX7_rows 12 = .ok (.iconst 5, 1) := by decide +kernel
theorem dX7_rows_13 : decode cX7_rows 13 = .ok (.invokevirtual 65, 3) := by decide +kernel
theorem dX7_rows_16 : decode cX7_rows 16 = .ok (.ireturn, 1) := by decide +kernel
def fn_cx_rows  : Int32 := -5
abbrev rm_cx_rows : Room := { frames := 1, cells := 0, slots := 0, locals := 21 }
abbrev po_cx_rows (g : zz_G) (h0 : Nat) (st : Nat) (mk : Nat) (lk : Nat) (ch : Nat) (ru : Nat) (mr : Nat) (kd : Nat) (dp : Nat) (cl : Nat) (sa : Nat) (ln : Nat) (bt : Nat) (pn : Nat) (bf : Nat) (x1 : Int32) (x2 : Int32) : Int32 → va_W → Prop := fun (r : Int32) (u : va_W) => r = fn_cx_rows
set_option maxHeartbeats 4000000 in
set_option maxRecDepth 100000 in
theorem cx_rows (g : zz_G) (h0 : Nat) (st : Nat) (mk : Nat) (lk : Nat) (ch : Nat) (ru : Nat) (mr : Nat) (kd : Nat) (dp : Nat) (cl : Nat) (sa : Nat) (ln : Nat) (bt : Nat) (pn : Nat) (bf : Nat) (x1 : Int32) (x2 : Int32) : zz_I g yX7_rows (.code yX7_rows cX7_rows 3 (some .int)) rm_cx_rows [.ref h0, .int x1, .int x2] [(h0, .inr (6, [.ref st, .ref mk, .ref lk, .ref ch, .ref ru, .ref mr, .int 0, .int 0])), (st, .inr (5, [.int 0, .int 0, .ref kd, .ref dp, .ref cl, .ref sa, .ref ln, .ref bt, .ref pn, .ref bf]))] (po_cx_rows g h0 st mk lk ch ru mr kd dp cl sa ln bt pn bf x1 x2) := by
  refine zz_I.intro (own := RX7) (cc := cX7_rows) (nL := 3) (by decide) rfl (Nat.le_of_ble_eq_true rfl) ?_
  intro p l e s m args below meth c A H locs ls hC hnm hZ hl
  obtain ⟨hx, hb, hml, hown, hts, hr, hlocks, hK⟩ := id hC
  have hl : lv_has ls 3 [(0, .ref h0), (1, .int x1), (2, .int x2)] := hl
  have hZ : zz_Z g A s.heap [(h0, .inr (6, [.ref st, .ref mk, .ref lk, .ref ch, .ref ru, .ref mr, .int 0, .int 0])), (st, .inr (5, [.int 0, .int 0, .ref kd, .ref dp, .ref cl, .ref sa, .ref ln, .ref bt, .ref pn, .ref bf]))] H locs := hZ
  refine lv_aload_n hx hb dX7_rows_0 rfl (lv_at hl 0 rfl) ?_
  refine zz_get hC hZ 0 rfl zf_X7_10 rfl dX7_rows_1 ?_
  refine lv_iload_n hx hb dX7_rows_4 rfl (lv_at hl 1 rfl) ?_
  refine zz_iV (As := [.int x1]) (wc := [(st, .inr (5, [.int 0, .int 0, .ref kd, .ref dp, .ref cl, .ref sa, .ref ln, .ref bt, .ref pn, .ref bf]))]) (wr := [(h0, .inr (6, [.ref st, .ref mk, .ref lk, .ref ch, .ref ru, .ref mr, .int 0, .int 0]))]) (rest := []) hC hZ hl zc_X7_73 (co_has0 g st kd dp cl sa ln bt pn bf x1) [1] [0] rfl rfl (by decide) (ci := 5) (q0 := 0) rfl rfl rfl rfl (Nat.le_of_ble_eq_true rfl) ⟨⟨Nat.le_of_ble_eq_true rfl, Nat.le_of_ble_eq_true rfl⟩, Nat.le_of_ble_eq_true rfl, Nat.le_of_ble_eq_true rfl⟩ dX7_rows_5 (fun r1 u2 H locs hp hZ => ?_)
  obtain ⟨rfl, rfl⟩ := hp
  have hZ : zz_Z g A s.heap [(h0, .inr (6, [.ref st, .ref mk, .ref lk, .ref ch, .ref ru, .ref mr, .int 0, .int 0])), (st, .inr (5, [.int 0, .int 0, .ref kd, .ref dp, .ref cl, .ref sa, .ref ln, .ref bt, .ref pn, .ref bf]))] H locs := hZ
  refine lv_if_ne (tgt := 17) hx hb dX7_rows_8 (by decide) (fun c => absurd (by decide) c) (fun c3 => ?_)
  refine lv_aload_n hx hb dX7_rows_11 rfl (lv_at hl 0 rfl) ?_
  refine lv_iconst (v := 5) hx hb dX7_rows_12 (by decide) ?_
  refine zz_iV (As := [.int 5]) (wc := [(h0, .inr (6, [.ref st, .ref mk, .ref lk, .ref ch, .ref ru, .ref mr, .int 0, .int 0]))]) (wr := [(st, .inr (5, [.int 0, .int 0, .ref kd, .ref dp, .ref cl, .ref sa, .ref ln, .ref bt, .ref pn, .ref bf]))]) (rest := []) hC hZ hl zc_X7_65 (co_fail g h0 st mk lk ch ru mr 0 0 5) [0] [1] rfl rfl (by decide) (ci := 6) (q0 := 0) rfl rfl rfl rfl (Nat.le_of_ble_eq_true rfl) ⟨⟨Nat.le_of_ble_eq_true rfl, Nat.le_of_ble_eq_true rfl⟩, Nat.le_of_ble_eq_true rfl, Nat.le_of_ble_eq_true rfl⟩ dX7_rows_13 (fun r4 u5 H locs hp hZ => ?_)
  obtain ⟨rfl, rfl⟩ := hp
  have hZ : zz_Z g A s.heap [(st, .inr (5, [.int 0, .int 0, .ref kd, .ref dp, .ref cl, .ref sa, .ref ln, .ref bt, .ref pn, .ref bf])), (h0, .inr (6, [.ref st, .ref mk, .ref lk, .ref ch, .ref ru, .ref mr, .int 0, .int 5]))] H locs := hZ
  exact zz_iret hC hZ (rfl) (Nat.le_of_ble_eq_true rfl) (Nat.le_of_ble_eq_true rfl) dX7_rows_16
theorem dX7_about_0 : decode cX7_about 0 = .ok (.aload_n 0, 1) := by decide +kernel
theorem dX7_about_1 : decode cX7_about 1 = .ok (.getfield 10, 3) := by decide +kernel
theorem dX7_about_4 : decode cX7_about 4 = .ok (.iload_n 1, 1) := by decide +kernel
theorem dX7_about_5 : decode cX7_about 5 = .ok (.invokevirtual 73, 3) := by decide +kernel
theorem dX7_about_8 : decode cX7_about 8 = .ok (.ifCond .ne 9, 3) := by decide +kernel
theorem dX7_about_11 : decode cX7_about 11 = .ok (.aload_n 0, 1) := by decide +kernel
theorem dX7_about_12 : decode cX7_about 12 = .ok (.iconst 5, 1) := by decide +kernel
theorem dX7_about_13 : decode cX7_about 13 = .ok (.invokevirtual 65, 3) := by decide +kernel
theorem dX7_about_16 : decode cX7_about 16 = .ok (.ireturn, 1) := by decide +kernel
def fn_cx_about  : Int32 := -5
abbrev rm_cx_about : Room := { frames := 1, cells := 0, slots := 0, locals := 21 }
abbrev po_cx_about (g : zz_G) (h0 : Nat) (st : Nat) (mk : Nat) (lk : Nat) (ch : Nat) (ru : Nat) (mr : Nat) (kd : Nat) (dp : Nat) (cl : Nat) (sa : Nat) (ln : Nat) (bt : Nat) (pn : Nat) (bf : Nat) (x1 : Int32) (x2 : Int32) : Int32 → va_W → Prop := fun (r : Int32) (u : va_W) => r = fn_cx_about
set_option maxHeartbeats 4000000 in
set_option maxRecDepth 100000 in
theorem cx_about (g : zz_G) (h0 : Nat) (st : Nat) (mk : Nat) (lk : Nat) (ch : Nat) (ru : Nat) (mr : Nat) (kd : Nat) (dp : Nat) (cl : Nat) (sa : Nat) (ln : Nat) (bt : Nat) (pn : Nat) (bf : Nat) (x1 : Int32) (x2 : Int32) : zz_I g yX7_about (.code yX7_about cX7_about 3 (some .int)) rm_cx_about [.ref h0, .int x1, .int x2] [(h0, .inr (6, [.ref st, .ref mk, .ref lk, .ref ch, .ref ru, .ref mr, .int 0, .int 0])), (st, .inr (5, [.int 0, .int 0, .ref kd, .ref dp, .ref cl, .ref sa, .ref ln, .ref bt, .ref pn, .ref bf]))] (po_cx_about g h0 st mk lk ch ru mr kd dp cl sa ln bt pn bf x1 x2) := by
  refine zz_I.intro (own := RX7) (cc := cX7_about) (nL := 3) (by decide) rfl (Nat.le_of_ble_eq_true rfl) ?_
  intro p l e s m args below meth c A H locs ls hC hnm hZ hl
  obtain ⟨hx, hb, hml, hown, hts, hr, hlocks, hK⟩ := id hC
  have hl : lv_has ls 3 [(0, .ref h0), (1, .int x1), (2, .int x2)] := hl
  have hZ : zz_Z g A s.heap [(h0, .inr (6, [.ref st, .ref mk, .ref lk, .ref ch, .ref ru, .ref mr, .int 0, .int 0])), (st, .inr (5, [.int 0, .int 0, .ref kd, .ref dp, .ref cl, .ref sa, .ref ln, .ref bt, .ref pn, .ref bf]))] H locs := hZ
  refine lv_aload_n hx hb dX7_about_0 rfl (lv_at hl 0 rfl) ?_
  refine zz_get hC hZ 0 rfl zf_X7_10 rfl dX7_about_1 ?_
  refine lv_iload_n hx hb dX7_about_4 rfl (lv_at hl 1 rfl) ?_
  refine zz_iV (As := [.int x1]) (wc := [(st, .inr (5, [.int 0, .int 0, .ref kd, .ref dp, .ref cl, .ref sa, .ref ln, .ref bt, .ref pn, .ref bf]))]) (wr := [(h0, .inr (6, [.ref st, .ref mk, .ref lk, .ref ch, .ref ru, .ref mr, .int 0, .int 0]))]) (rest := []) hC hZ hl zc_X7_73 (co_has0 g st kd dp cl sa ln bt pn bf x1) [1] [0] rfl rfl (by decide) (ci := 5) (q0 := 0) rfl rfl rfl rfl (Nat.le_of_ble_eq_true rfl) ⟨⟨Nat.le_of_ble_eq_true rfl, Nat.le_of_ble_eq_true rfl⟩, Nat.le_of_ble_eq_true rfl, Nat.le_of_ble_eq_true rfl⟩ dX7_about_5 (fun r1 u2 H locs hp hZ => ?_)
  obtain ⟨rfl, rfl⟩ := hp
  have hZ : zz_Z g A s.heap [(h0, .inr (6, [.ref st, .ref mk, .ref lk, .ref ch, .ref ru, .ref mr, .int 0, .int 0])), (st, .inr (5, [.int 0, .int 0, .ref kd, .ref dp, .ref cl, .ref sa, .ref ln, .ref bt, .ref pn, .ref bf]))] H locs := hZ
  refine lv_if_ne (tgt := 17) hx hb dX7_about_8 (by decide) (fun c => absurd (by decide) c) (fun c3 => ?_)
  refine lv_aload_n hx hb dX7_about_11 rfl (lv_at hl 0 rfl) ?_
  refine lv_iconst (v := 5) hx hb dX7_about_12 (by decide) ?_
  refine zz_iV (As := [.int 5]) (wc := [(h0, .inr (6, [.ref st, .ref mk, .ref lk, .ref ch, .ref ru, .ref mr, .int 0, .int 0]))]) (wr := [(st, .inr (5, [.int 0, .int 0, .ref kd, .ref dp, .ref cl, .ref sa, .ref ln, .ref bt, .ref pn, .ref bf]))]) (rest := []) hC hZ hl zc_X7_65 (co_fail g h0 st mk lk ch ru mr 0 0 5) [0] [1] rfl rfl (by decide) (ci := 6) (q0 := 0) rfl rfl rfl rfl (Nat.le_of_ble_eq_true rfl) ⟨⟨Nat.le_of_ble_eq_true rfl, Nat.le_of_ble_eq_true rfl⟩, Nat.le_of_ble_eq_true rfl, Nat.le_of_ble_eq_true rfl⟩ dX7_about_13 (fun r4 u5 H locs hp hZ => ?_)
  obtain ⟨rfl, rfl⟩ := hp
  have hZ : zz_Z g A s.heap [(st, .inr (5, [.int 0, .int 0, .ref kd, .ref dp, .ref cl, .ref sa, .ref ln, .ref bt, .ref pn, .ref bf])), (h0, .inr (6, [.ref st, .ref mk, .ref lk, .ref ch, .ref ru, .ref mr, .int 0, .int 5]))] H locs := hZ
  exact zz_iret hC hZ (rfl) (Nat.le_of_ble_eq_true rfl) (Nat.le_of_ble_eq_true rfl) dX7_about_16
theorem dX7_row_0 : decode cX7_row 0 = .ok (.aload_n 0, 1) := by decide +kernel
theorem dX7_row_1 : decode cX7_row 1 = .ok (.aload_n 0, 1) := by decide +kernel
theorem dX7_row_2 : decode cX7_row 2 = .ok (.iload_n 1, 1) := by decide +kernel
theorem dX7_row_3 : decode cX7_row 3 = .ok (.iload_n 2, 1) := by decide +kernel
theorem dX7_row_4 : decode cX7_row 4 = .ok (.invokevirtual 113, 3) := by decide +kernel
theorem zk_309 : Cond.methodLink RX7 113 yX7_rowCode ∈ zz_w := zz_in (List.mem_append_right _ (List.mem_append_right _ (List.mem_append_left _ (List.mem_of_getElem? (i := 69) (by decide +kernel))))) rfl
set_option maxRecDepth 20000 in
theorem zk_312 : Cond.code yX7_rowCode cX7_rowCode 3 (some .int) ∈ zz_w := zz_in (List.mem_append_right _ (List.mem_append_right _ (List.mem_append_left _ (List.mem_of_getElem? (i := 72) (rfl))))) rfl
theorem zk_311 : Cond.instanceMethod yX7_rowCode ∈ zz_w := zz_in (List.mem_append_right _ (List.mem_append_right _ (List.mem_append_left _ (List.mem_of_getElem? (i := 71) (by decide +kernel))))) rfl
theorem zs_4 : Cond.selects RX7 yX7_rowCode yX7_rowCode ∈ zz_w := zz_in (List.mem_append_left _ (List.mem_of_getElem? (i := 4) (by decide +kernel))) rfl
theorem zc_X7_113 : zz_cV RX7 113 yX7_rowCode cX7_rowCode 3 (some .int) 2 := ⟨⟨zk_309, zk_312, zk_1, by decide, by decide, by decide +kernel⟩, zk_311, zs_4⟩
theorem dX7_row_7 : decode cX7_row 7 = .ok (.putfield 56, 3) := by decide +kernel
theorem dX7_row_10 : decode cX7_row 10 = .ok (.aload_n 0, 1) := by decide +kernel
theorem dX7_row_11 : decode cX7_row 11 = .ok (.getfield 56, 3) := by decide +kernel
theorem zf_X7_56 : zz_f RX7 56 6 7 := ⟨RX7, TX7, 8, rfl, zi_X7, by decide, zk_207⟩
theorem dX7_row_14 : decode cX7_row 14 = .ok (.ifCond .eq 5, 3) := by decide +kernel
theorem dX7_row_17 : decode cX7_row 17 = .ok (.iconst (-1), 1) := by decide +kernel
theorem dX7_row_18 : decode cX7_row 18 = .ok (.ireturn, 1) := by decide +kernel
def fn_cx_row  : Int32 := -1
abbrev rm_cx_row : Room := { frames := 2, cells := 0, slots := 0, locals := 43 }
abbrev po_cx_row (g : zz_G) (h0 : Nat) (st : Nat) (mk : Nat) (lk : Nat) (ch : Nat) (ru : Nat) (mr : Nat) (kd : Nat) (dp : Nat) (cl : Nat) (sa : Nat) (ln : Nat) (bt : Nat) (pn : Nat) (bf : Nat) (x1 : Int32) (x2 : Int32) : Int32 → va_W → Prop := fun (r : Int32) (u : va_W) => r = fn_cx_row
set_option maxHeartbeats 4000000 in
set_option maxRecDepth 100000 in
theorem cx_row (g : zz_G) (h0 : Nat) (st : Nat) (mk : Nat) (lk : Nat) (ch : Nat) (ru : Nat) (mr : Nat) (kd : Nat) (dp : Nat) (cl : Nat) (sa : Nat) (ln : Nat) (bt : Nat) (pn : Nat) (bf : Nat) (x1 : Int32) (x2 : Int32) : zz_I g yX7_row (.code yX7_row cX7_row 3 (some .int)) rm_cx_row [.ref h0, .int x1, .int x2] [(h0, .inr (6, [.ref st, .ref mk, .ref lk, .ref ch, .ref ru, .ref mr, .int 0, .int 0])), (st, .inr (5, [.int 0, .int 0, .ref kd, .ref dp, .ref cl, .ref sa, .ref ln, .ref bt, .ref pn, .ref bf]))] (po_cx_row g h0 st mk lk ch ru mr kd dp cl sa ln bt pn bf x1 x2) := by
  refine zz_I.intro (own := RX7) (cc := cX7_row) (nL := 3) (by decide) rfl (Nat.le_of_ble_eq_true rfl) ?_
  intro p l e s m args below meth c A H locs ls hC hnm hZ hl
  obtain ⟨hx, hb, hml, hown, hts, hr, hlocks, hK⟩ := id hC
  have hl : lv_has ls 3 [(0, .ref h0), (1, .int x1), (2, .int x2)] := hl
  have hZ : zz_Z g A s.heap [(h0, .inr (6, [.ref st, .ref mk, .ref lk, .ref ch, .ref ru, .ref mr, .int 0, .int 0])), (st, .inr (5, [.int 0, .int 0, .ref kd, .ref dp, .ref cl, .ref sa, .ref ln, .ref bt, .ref pn, .ref bf]))] H locs := hZ
  refine lv_aload_n hx hb dX7_row_0 rfl (lv_at hl 0 rfl) ?_
  refine lv_aload_n hx hb dX7_row_1 rfl (lv_at hl 0 rfl) ?_
  refine lv_iload_n hx hb dX7_row_2 rfl (lv_at hl 1 rfl) ?_
  refine lv_iload_n hx hb dX7_row_3 rfl (lv_at hl 2 rfl) ?_
  refine zz_iV (As := [.int x1, .int x2]) (wc := [(h0, .inr (6, [.ref st, .ref mk, .ref lk, .ref ch, .ref ru, .ref mr, .int 0, .int 0])), (st, .inr (5, [.int 0, .int 0, .ref kd, .ref dp, .ref cl, .ref sa, .ref ln, .ref bt, .ref pn, .ref bf]))]) (wr := []) (rest := [.ref h0]) hC hZ hl zc_X7_113 (co_rowCode0 g h0 st mk lk ch ru mr kd dp cl sa ln bt pn bf x1 x2) [0, 1] [] rfl rfl (by decide) (ci := 6) (q0 := 0) rfl rfl rfl rfl (Nat.le_of_ble_eq_true rfl) ⟨⟨Nat.le_of_ble_eq_true rfl, Nat.le_of_ble_eq_true rfl⟩, Nat.le_of_ble_eq_true rfl, Nat.le_of_ble_eq_true rfl⟩ dX7_row_4 (fun r1 u2 H locs hp hZ => ?_)
  obtain ⟨rfl, rfl⟩ := hp
  have hZ : zz_Z g A s.heap [(h0, .inr (6, [.ref st, .ref mk, .ref lk, .ref ch, .ref ru, .ref mr, .int 0, .int 0])), (st, .inr (5, [.int 0, .int 0, .ref kd, .ref dp, .ref cl, .ref sa, .ref ln, .ref bt, .ref pn, .ref bf]))] H locs := hZ
  refine zz_put hC hZ 0 rfl zu_X7_56 (Nat.le_of_ble_eq_true rfl) dX7_row_7 (fun H locs hZ => ?_)
  have hZ : zz_Z g A s.heap [(h0, .inr (6, [.ref st, .ref mk, .ref lk, .ref ch, .ref ru, .ref mr, .int 0, .int 5])), (st, .inr (5, [.int 0, .int 0, .ref kd, .ref dp, .ref cl, .ref sa, .ref ln, .ref bt, .ref pn, .ref bf]))] H locs := hZ
  refine lv_aload_n hx hb dX7_row_10 rfl (lv_at hl 0 rfl) ?_
  refine zz_get hC hZ 0 rfl zf_X7_56 rfl dX7_row_11 ?_
  refine lv_if_eq (tgt := 19) hx hb dX7_row_14 (by decide) (fun c => absurd c (by decide)) (fun c3 => ?_)
  refine lv_iconst (v := -1) hx hb dX7_row_17 (by decide) ?_
  exact zz_iret hC hZ (rfl) (Nat.le_of_ble_eq_true rfl) (Nat.le_of_ble_eq_true rfl) dX7_row_18
theorem dX7_setRow_0 : decode cX7_setRow 0 = .ok (.aload_n 0, 1) := by decide +kernel
theorem dX7_setRow_1 : decode cX7_setRow 1 = .ok (.getfield 10, 3) := by decide +kernel
theorem dX7_setRow_4 : decode cX7_setRow 4 = .ok (.iload_n 1, 1) := by decide +kernel
theorem dX7_setRow_5 : decode cX7_setRow 5 = .ok (.invokevirtual 73, 3) := by decide +kernel
theorem dX7_setRow_8 : decode cX7_setRow 8 = .ok (.ifCond .eq 19, 3) := by decide +kernel
theorem dX7_setRow_27 : decode cX7_setRow 27 = .ok (.aload_n 0, 1) := by decide +kernel
theorem dX7_setRow_28 : decode cX7_setRow 28 = .ok (.iconst 5, 1) := by decide +kernel
theorem dX7_setRow_29 : decode cX7_setRow 29 = .ok (.invokevirtual 65, 3) := by decide +kernel
theorem dX7_setRow_32 : decode cX7_setRow 32 = .ok (.ireturn, 1) := by decide +kernel
def fn_cx_setRow  : Int32 := -5
abbrev rm_cx_setRow : Room := { frames := 1, cells := 0, slots := 0, locals := 21 }
abbrev po_cx_setRow (g : zz_G) (h0 : Nat) (st : Nat) (mk : Nat) (lk : Nat) (ch : Nat) (ru : Nat) (mr : Nat) (kd : Nat) (dp : Nat) (cl : Nat) (sa : Nat) (ln : Nat) (bt : Nat) (pn : Nat) (bf : Nat) (x1 : Int32) (x2 : Int32) (x3 : Int32) : Int32 → va_W → Prop := fun (r : Int32) (u : va_W) => r = fn_cx_setRow
set_option maxHeartbeats 4000000 in
set_option maxRecDepth 100000 in
theorem cx_setRow (g : zz_G) (h0 : Nat) (st : Nat) (mk : Nat) (lk : Nat) (ch : Nat) (ru : Nat) (mr : Nat) (kd : Nat) (dp : Nat) (cl : Nat) (sa : Nat) (ln : Nat) (bt : Nat) (pn : Nat) (bf : Nat) (x1 : Int32) (x2 : Int32) (x3 : Int32) : zz_I g yX7_setRow (.code yX7_setRow cX7_setRow 4 (some .int)) rm_cx_setRow [.ref h0, .int x1, .int x2, .int x3] [(h0, .inr (6, [.ref st, .ref mk, .ref lk, .ref ch, .ref ru, .ref mr, .int 0, .int 0])), (st, .inr (5, [.int 0, .int 0, .ref kd, .ref dp, .ref cl, .ref sa, .ref ln, .ref bt, .ref pn, .ref bf]))] (po_cx_setRow g h0 st mk lk ch ru mr kd dp cl sa ln bt pn bf x1 x2 x3) := by
  refine zz_I.intro (own := RX7) (cc := cX7_setRow) (nL := 4) (by decide) rfl (Nat.le_of_ble_eq_true rfl) ?_
  intro p l e s m args below meth c A H locs ls hC hnm hZ hl
  obtain ⟨hx, hb, hml, hown, hts, hr, hlocks, hK⟩ := id hC
  have hl : lv_has ls 4 [(0, .ref h0), (1, .int x1), (2, .int x2), (3, .int x3)] := hl
  have hZ : zz_Z g A s.heap [(h0, .inr (6, [.ref st, .ref mk, .ref lk, .ref ch, .ref ru, .ref mr, .int 0, .int 0])), (st, .inr (5, [.int 0, .int 0, .ref kd, .ref dp, .ref cl, .ref sa, .ref ln, .ref bt, .ref pn, .ref bf]))] H locs := hZ
  refine lv_aload_n hx hb dX7_setRow_0 rfl (lv_at hl 0 rfl) ?_
  refine zz_get hC hZ 0 rfl zf_X7_10 rfl dX7_setRow_1 ?_
  refine lv_iload_n hx hb dX7_setRow_4 rfl (lv_at hl 1 rfl) ?_
  refine zz_iV (As := [.int x1]) (wc := [(st, .inr (5, [.int 0, .int 0, .ref kd, .ref dp, .ref cl, .ref sa, .ref ln, .ref bt, .ref pn, .ref bf]))]) (wr := [(h0, .inr (6, [.ref st, .ref mk, .ref lk, .ref ch, .ref ru, .ref mr, .int 0, .int 0]))]) (rest := []) hC hZ hl zc_X7_73 (co_has0 g st kd dp cl sa ln bt pn bf x1) [1] [0] rfl rfl (by decide) (ci := 5) (q0 := 0) rfl rfl rfl rfl (Nat.le_of_ble_eq_true rfl) ⟨⟨Nat.le_of_ble_eq_true rfl, Nat.le_of_ble_eq_true rfl⟩, Nat.le_of_ble_eq_true rfl, Nat.le_of_ble_eq_true rfl⟩ dX7_setRow_5 (fun r1 u2 H locs hp hZ => ?_)
  obtain ⟨rfl, rfl⟩ := hp
  have hZ : zz_Z g A s.heap [(h0, .inr (6, [.ref st, .ref mk, .ref lk, .ref ch, .ref ru, .ref mr, .int 0, .int 0])), (st, .inr (5, [.int 0, .int 0, .ref kd, .ref dp, .ref cl, .ref sa, .ref ln, .ref bt, .ref pn, .ref bf]))] H locs := hZ
  refine lv_if_eq (tgt := 27) hx hb dX7_setRow_8 (by decide) (fun c3 => ?_) (fun c => absurd (by decide) c)
  refine lv_aload_n hx hb dX7_setRow_27 rfl (lv_at hl 0 rfl) ?_
  refine lv_iconst (v := 5) hx hb dX7_setRow_28 (by decide) ?_
  refine zz_iV (As := [.int 5]) (wc := [(h0, .inr (6, [.ref st, .ref mk, .ref lk, .ref ch, .ref ru, .ref mr, .int 0, .int 0]))]) (wr := [(st, .inr (5, [.int 0, .int 0, .ref kd, .ref dp, .ref cl, .ref sa, .ref ln, .ref bt, .ref pn, .ref bf]))]) (rest := []) hC hZ hl zc_X7_65 (co_fail g h0 st mk lk ch ru mr 0 0 5) [0] [1] rfl rfl (by decide) (ci := 6) (q0 := 0) rfl rfl rfl rfl (Nat.le_of_ble_eq_true rfl) ⟨⟨Nat.le_of_ble_eq_true rfl, Nat.le_of_ble_eq_true rfl⟩, Nat.le_of_ble_eq_true rfl, Nat.le_of_ble_eq_true rfl⟩ dX7_setRow_29 (fun r4 u5 H locs hp hZ => ?_)
  obtain ⟨rfl, rfl⟩ := hp
  have hZ : zz_Z g A s.heap [(st, .inr (5, [.int 0, .int 0, .ref kd, .ref dp, .ref cl, .ref sa, .ref ln, .ref bt, .ref pn, .ref bf])), (h0, .inr (6, [.ref st, .ref mk, .ref lk, .ref ch, .ref ru, .ref mr, .int 0, .int 5]))] H locs := hZ
  exact zz_iret hC hZ (rfl) (Nat.le_of_ble_eq_true rfl) (Nat.le_of_ble_eq_true rfl) dX7_setRow_32
theorem dX7_read_0 : decode cX7_read 0 = .ok (.aload_n 0, 1) := by decide +kernel
theorem dX7_read_1 : decode cX7_read 1 = .ok (.getfield 10, 3) := by decide +kernel
theorem dX7_read_4 : decode cX7_read 4 = .ok (.iload_n 1, 1) := by decide +kernel
theorem dX7_read_5 : decode cX7_read 5 = .ok (.invokevirtual 73, 3) := by decide +kernel
theorem dX7_read_8 : decode cX7_read 8 = .ok (.ifCond .ne 9, 3) := by decide +kernel
theorem dX7_read_11 : decode cX7_read 11 = .ok (.aload_n 0, 1) := by decide +kernel
theorem dX7_read_12 : decode cX7_read 12 = .ok (.iconst 5, 1) := by decide +kernel
theorem dX7_read_13 : decode cX7_read 13 = .ok (.invokevirtual 130, 3) := by decide +kernel
theorem zk_329 : Cond.methodLink RX7 130 yX7_noBits ∈ zz_w := zz_in (List.mem_append_right _ (List.mem_append_right _ (List.mem_append_left _ (List.mem_of_getElem? (i := 89) (by decide +kernel))))) rfl
set_option maxRecDepth 20000 in
theorem zk_332 : Cond.code yX7_noBits cX7_noBits 2 (some .long) ∈ zz_w := zz_in (List.mem_append_right _ (List.mem_append_right _ (List.mem_append_left _ (List.mem_of_getElem? (i := 92) (rfl))))) rfl
theorem zk_331 : Cond.instanceMethod yX7_noBits ∈ zz_w := zz_in (List.mem_append_right _ (List.mem_append_right _ (List.mem_append_left _ (List.mem_of_getElem? (i := 91) (by decide +kernel))))) rfl
theorem zs_5 : Cond.selects RX7 yX7_noBits yX7_noBits ∈ zz_w := zz_in (List.mem_append_left _ (List.mem_of_getElem? (i := 5) (by decide +kernel))) rfl
theorem zc_X7_130 : zz_cV RX7 130 yX7_noBits cX7_noBits 2 (some .long) 1 := ⟨⟨zk_329, zk_332, zk_1, by decide, by decide, by decide +kernel⟩, zk_331, zs_5⟩
theorem dX7_read_16 : decode cX7_read 16 = .ok (.lreturn, 1) := by decide +kernel
def fn_cx_read  : Int64 := 0
abbrev rm_cx_read : Room := { frames := 1, cells := 0, slots := 0, locals := 21 }
abbrev po_cx_read (g : zz_G) (h0 : Nat) (st : Nat) (mk : Nat) (lk : Nat) (ch : Nat) (ru : Nat) (mr : Nat) (kd : Nat) (dp : Nat) (cl : Nat) (sa : Nat) (ln : Nat) (bt : Nat) (pn : Nat) (bf : Nat) (x1 : Int32) (x2 : Int32) (x3 : Int32) (x4 : Int32) (x5 : Int32) (x6 : Int32) : Int64 → va_W → Prop := fun (r : Int64) (u : va_W) => r = fn_cx_read
set_option maxHeartbeats 4000000 in
set_option maxRecDepth 100000 in
theorem cx_read (g : zz_G) (h0 : Nat) (st : Nat) (mk : Nat) (lk : Nat) (ch : Nat) (ru : Nat) (mr : Nat) (kd : Nat) (dp : Nat) (cl : Nat) (sa : Nat) (ln : Nat) (bt : Nat) (pn : Nat) (bf : Nat) (x1 : Int32) (x2 : Int32) (x3 : Int32) (x4 : Int32) (x5 : Int32) (x6 : Int32) : zz_L g yX7_read (.code yX7_read cX7_read 9 (some .long)) rm_cx_read [.ref h0, .int x1, .int x2, .int x3, .int x4, .int x5, .int x6] [(h0, .inr (6, [.ref st, .ref mk, .ref lk, .ref ch, .ref ru, .ref mr, .int 0, .int 0])), (st, .inr (5, [.int 0, .int 0, .ref kd, .ref dp, .ref cl, .ref sa, .ref ln, .ref bt, .ref pn, .ref bf]))] (po_cx_read g h0 st mk lk ch ru mr kd dp cl sa ln bt pn bf x1 x2 x3 x4 x5 x6) := by
  refine zz_L.intro (own := RX7) (cc := cX7_read) (nL := 9) (by decide) rfl (Nat.le_of_ble_eq_true rfl) ?_
  intro p l e s m args below meth c A H locs ls hC hnm hZ hl
  obtain ⟨hx, hb, hml, hown, hts, hr, hlocks, hK⟩ := id hC
  have hl : lv_has ls 9 [(0, .ref h0), (1, .int x1), (2, .int x2), (3, .int x3), (4, .int x4), (5, .int x5), (6, .int x6)] := hl
  have hZ : zz_Z g A s.heap [(h0, .inr (6, [.ref st, .ref mk, .ref lk, .ref ch, .ref ru, .ref mr, .int 0, .int 0])), (st, .inr (5, [.int 0, .int 0, .ref kd, .ref dp, .ref cl, .ref sa, .ref ln, .ref bt, .ref pn, .ref bf]))] H locs := hZ
  refine lv_aload_n hx hb dX7_read_0 rfl (lv_at hl 0 rfl) ?_
  refine zz_get hC hZ 0 rfl zf_X7_10 rfl dX7_read_1 ?_
  refine lv_iload_n hx hb dX7_read_4 rfl (lv_at hl 1 rfl) ?_
  refine zz_iV (As := [.int x1]) (wc := [(st, .inr (5, [.int 0, .int 0, .ref kd, .ref dp, .ref cl, .ref sa, .ref ln, .ref bt, .ref pn, .ref bf]))]) (wr := [(h0, .inr (6, [.ref st, .ref mk, .ref lk, .ref ch, .ref ru, .ref mr, .int 0, .int 0]))]) (rest := []) hC hZ hl zc_X7_73 (co_has0 g st kd dp cl sa ln bt pn bf x1) [1] [0] rfl rfl (by decide) (ci := 5) (q0 := 0) rfl rfl rfl rfl (Nat.le_of_ble_eq_true rfl) ⟨⟨Nat.le_of_ble_eq_true rfl, Nat.le_of_ble_eq_true rfl⟩, Nat.le_of_ble_eq_true rfl, Nat.le_of_ble_eq_true rfl⟩ dX7_read_5 (fun r1 u2 H locs hp hZ => ?_)
  obtain ⟨rfl, rfl⟩ := hp
  have hZ : zz_Z g A s.heap [(h0, .inr (6, [.ref st, .ref mk, .ref lk, .ref ch, .ref ru, .ref mr, .int 0, .int 0])), (st, .inr (5, [.int 0, .int 0, .ref kd, .ref dp, .ref cl, .ref sa, .ref ln, .ref bt, .ref pn, .ref bf]))] H locs := hZ
  refine lv_if_ne (tgt := 17) hx hb dX7_read_8 (by decide) (fun c => absurd (by decide) c) (fun c3 => ?_)
  refine lv_aload_n hx hb dX7_read_11 rfl (lv_at hl 0 rfl) ?_
  refine lv_iconst (v := 5) hx hb dX7_read_12 (by decide) ?_
  refine zz_lV (As := [.int 5]) (wc := [(h0, .inr (6, [.ref st, .ref mk, .ref lk, .ref ch, .ref ru, .ref mr, .int 0, .int 0]))]) (wr := [(st, .inr (5, [.int 0, .int 0, .ref kd, .ref dp, .ref cl, .ref sa, .ref ln, .ref bt, .ref pn, .ref bf]))]) (rest := []) hC hZ hl zc_X7_130 (co_noBits g h0 st mk lk ch ru mr 0 0 5) [0] [1] rfl rfl (by decide) (ci := 6) (q0 := 0) rfl rfl rfl rfl (Nat.le_of_ble_eq_true rfl) ⟨⟨Nat.le_of_ble_eq_true rfl, Nat.le_of_ble_eq_true rfl⟩, Nat.le_of_ble_eq_true rfl, Nat.le_of_ble_eq_true rfl⟩ dX7_read_13 (fun r4 u5 H locs hp hZ => ?_)
  obtain ⟨rfl, rfl⟩ := hp
  have hZ : zz_Z g A s.heap [(st, .inr (5, [.int 0, .int 0, .ref kd, .ref dp, .ref cl, .ref sa, .ref ln, .ref bt, .ref pn, .ref bf])), (h0, .inr (6, [.ref st, .ref mk, .ref lk, .ref ch, .ref ru, .ref mr, .int 0, .int 5]))] H locs := hZ
  exact zz_lret hC hZ (rfl) (Nat.le_of_ble_eq_true rfl) (Nat.le_of_ble_eq_true rfl) dX7_read_16
theorem dX7_write_0 : decode cX7_write 0 = .ok (.aload_n 0, 1) := by decide +kernel
theorem dX7_write_1 : decode cX7_write 1 = .ok (.getfield 10, 3) := by decide +kernel
theorem dX7_write_4 : decode cX7_write 4 = .ok (.iload_n 1, 1) := by decide +kernel
theorem dX7_write_5 : decode cX7_write 5 = .ok (.invokevirtual 73, 3) := by decide +kernel
theorem dX7_write_8 : decode cX7_write 8 = .ok (.ifCond .ne 9, 3) := by decide +kernel
theorem dX7_write_11 : decode cX7_write 11 = .ok (.aload_n 0, 1) := by decide +kernel
theorem dX7_write_12 : decode cX7_write 12 = .ok (.iconst 5, 1) := by decide +kernel
theorem dX7_write_13 : decode cX7_write 13 = .ok (.invokevirtual 65, 3) := by decide +kernel
theorem dX7_write_16 : decode cX7_write 16 = .ok (.ireturn, 1) := by decide +kernel
def fn_cx_write  : Int32 := -5
abbrev rm_cx_write : Room := { frames := 1, cells := 0, slots := 0, locals := 21 }
abbrev po_cx_write (g : zz_G) (h0 : Nat) (st : Nat) (mk : Nat) (lk : Nat) (ch : Nat) (ru : Nat) (mr : Nat) (kd : Nat) (dp : Nat) (cl : Nat) (sa : Nat) (ln : Nat) (bt : Nat) (pn : Nat) (bf : Nat) (x1 : Int32) (x2 : Int32) (x3 : Int32) (x4 : Int32) (x5 : Int32) (x6 : Int32) (x7 : Int64) : Int32 → va_W → Prop := fun (r : Int32) (u : va_W) => r = fn_cx_write
set_option maxHeartbeats 4000000 in
set_option maxRecDepth 100000 in
theorem cx_write (g : zz_G) (h0 : Nat) (st : Nat) (mk : Nat) (lk : Nat) (ch : Nat) (ru : Nat) (mr : Nat) (kd : Nat) (dp : Nat) (cl : Nat) (sa : Nat) (ln : Nat) (bt : Nat) (pn : Nat) (bf : Nat) (x1 : Int32) (x2 : Int32) (x3 : Int32) (x4 : Int32) (x5 : Int32) (x6 : Int32) (x7 : Int64) : zz_I g yX7_write (.code yX7_write cX7_write 14 (some .int)) rm_cx_write [.ref h0, .int x1, .int x2, .int x3, .int x4, .int x5, .int x6, .long x7] [(h0, .inr (6, [.ref st, .ref mk, .ref lk, .ref ch, .ref ru, .ref mr, .int 0, .int 0])), (st, .inr (5, [.int 0, .int 0, .ref kd, .ref dp, .ref cl, .ref sa, .ref ln, .ref bt, .ref pn, .ref bf]))] (po_cx_write g h0 st mk lk ch ru mr kd dp cl sa ln bt pn bf x1 x2 x3 x4 x5 x6 x7) := by
  refine zz_I.intro (own := RX7) (cc := cX7_write) (nL := 14) (by decide) rfl (Nat.le_of_ble_eq_true rfl) ?_
  intro p l e s m args below meth c A H locs ls hC hnm hZ hl
  obtain ⟨hx, hb, hml, hown, hts, hr, hlocks, hK⟩ := id hC
  have hl : lv_has ls 14 [(0, .ref h0), (1, .int x1), (2, .int x2), (3, .int x3), (4, .int x4), (5, .int x5), (6, .int x6), (7, .long x7)] := hl
  have hZ : zz_Z g A s.heap [(h0, .inr (6, [.ref st, .ref mk, .ref lk, .ref ch, .ref ru, .ref mr, .int 0, .int 0])), (st, .inr (5, [.int 0, .int 0, .ref kd, .ref dp, .ref cl, .ref sa, .ref ln, .ref bt, .ref pn, .ref bf]))] H locs := hZ
  refine lv_aload_n hx hb dX7_write_0 rfl (lv_at hl 0 rfl) ?_
  refine zz_get hC hZ 0 rfl zf_X7_10 rfl dX7_write_1 ?_
  refine lv_iload_n hx hb dX7_write_4 rfl (lv_at hl 1 rfl) ?_
  refine zz_iV (As := [.int x1]) (wc := [(st, .inr (5, [.int 0, .int 0, .ref kd, .ref dp, .ref cl, .ref sa, .ref ln, .ref bt, .ref pn, .ref bf]))]) (wr := [(h0, .inr (6, [.ref st, .ref mk, .ref lk, .ref ch, .ref ru, .ref mr, .int 0, .int 0]))]) (rest := []) hC hZ hl zc_X7_73 (co_has0 g st kd dp cl sa ln bt pn bf x1) [1] [0] rfl rfl (by decide) (ci := 5) (q0 := 0) rfl rfl rfl rfl (Nat.le_of_ble_eq_true rfl) ⟨⟨Nat.le_of_ble_eq_true rfl, Nat.le_of_ble_eq_true rfl⟩, Nat.le_of_ble_eq_true rfl, Nat.le_of_ble_eq_true rfl⟩ dX7_write_5 (fun r1 u2 H locs hp hZ => ?_)
  obtain ⟨rfl, rfl⟩ := hp
  have hZ : zz_Z g A s.heap [(h0, .inr (6, [.ref st, .ref mk, .ref lk, .ref ch, .ref ru, .ref mr, .int 0, .int 0])), (st, .inr (5, [.int 0, .int 0, .ref kd, .ref dp, .ref cl, .ref sa, .ref ln, .ref bt, .ref pn, .ref bf]))] H locs := hZ
  refine lv_if_ne (tgt := 17) hx hb dX7_write_8 (by decide) (fun c => absurd (by decide) c) (fun c3 => ?_)
  refine lv_aload_n hx hb dX7_write_11 rfl (lv_at hl 0 rfl) ?_
  refine lv_iconst (v := 5) hx hb dX7_write_12 (by decide) ?_
  refine zz_iV (As := [.int 5]) (wc := [(h0, .inr (6, [.ref st, .ref mk, .ref lk, .ref ch, .ref ru, .ref mr, .int 0, .int 0]))]) (wr := [(st, .inr (5, [.int 0, .int 0, .ref kd, .ref dp, .ref cl, .ref sa, .ref ln, .ref bt, .ref pn, .ref bf]))]) (rest := []) hC hZ hl zc_X7_65 (co_fail g h0 st mk lk ch ru mr 0 0 5) [0] [1] rfl rfl (by decide) (ci := 6) (q0 := 0) rfl rfl rfl rfl (Nat.le_of_ble_eq_true rfl) ⟨⟨Nat.le_of_ble_eq_true rfl, Nat.le_of_ble_eq_true rfl⟩, Nat.le_of_ble_eq_true rfl, Nat.le_of_ble_eq_true rfl⟩ dX7_write_13 (fun r4 u5 H locs hp hZ => ?_)
  obtain ⟨rfl, rfl⟩ := hp
  have hZ : zz_Z g A s.heap [(st, .inr (5, [.int 0, .int 0, .ref kd, .ref dp, .ref cl, .ref sa, .ref ln, .ref bt, .ref pn, .ref bf])), (h0, .inr (6, [.ref st, .ref mk, .ref lk, .ref ch, .ref ru, .ref mr, .int 0, .int 5]))] H locs := hZ
  exact zz_iret hC hZ (rfl) (Nat.le_of_ble_eq_true rfl) (Nat.le_of_ble_eq_true rfl) dX7_write_16
theorem dX7_place_0 : decode cX7_place 0 = .ok (.aload_n 0, 1) := by decide +kernel
theorem dX7_place_1 : decode cX7_place 1 = .ok (.getfield 10, 3) := by decide +kernel
theorem dX7_place_4 : decode cX7_place 4 = .ok (.iload_n 1, 1) := by decide +kernel
theorem dX7_place_5 : decode cX7_place 5 = .ok (.invokevirtual 73, 3) := by decide +kernel
theorem dX7_place_8 : decode cX7_place 8 = .ok (.ifCond .ne 9, 3) := by decide +kernel
theorem dX7_place_11 : decode cX7_place 11 = .ok (.aload_n 0, 1) := by decide +kernel
theorem dX7_place_12 : decode cX7_place 12 = .ok (.iconst 5, 1) := by decide +kernel
theorem dX7_place_13 : decode cX7_place 13 = .ok (.invokevirtual 65, 3) := by decide +kernel
theorem dX7_place_16 : decode cX7_place 16 = .ok (.ireturn, 1) := by decide +kernel
def fn_cx_place  : Int32 := -5
abbrev rm_cx_place : Room := { frames := 1, cells := 0, slots := 0, locals := 21 }
abbrev po_cx_place (g : zz_G) (h0 : Nat) (st : Nat) (mk : Nat) (lk : Nat) (ch : Nat) (ru : Nat) (mr : Nat) (kd : Nat) (dp : Nat) (cl : Nat) (sa : Nat) (ln : Nat) (bt : Nat) (pn : Nat) (bf : Nat) (x1 : Int32) (x2 : Int32) (x3 : Int32) (x4 : Int32) (x5 : Int32) : Int32 → va_W → Prop := fun (r : Int32) (u : va_W) => r = fn_cx_place
set_option maxHeartbeats 4000000 in
set_option maxRecDepth 100000 in
theorem cx_place (g : zz_G) (h0 : Nat) (st : Nat) (mk : Nat) (lk : Nat) (ch : Nat) (ru : Nat) (mr : Nat) (kd : Nat) (dp : Nat) (cl : Nat) (sa : Nat) (ln : Nat) (bt : Nat) (pn : Nat) (bf : Nat) (x1 : Int32) (x2 : Int32) (x3 : Int32) (x4 : Int32) (x5 : Int32) : zz_I g yX7_place (.code yX7_place cX7_place 7 (some .int)) rm_cx_place [.ref h0, .int x1, .int x2, .int x3, .int x4, .int x5] [(h0, .inr (6, [.ref st, .ref mk, .ref lk, .ref ch, .ref ru, .ref mr, .int 0, .int 0])), (st, .inr (5, [.int 0, .int 0, .ref kd, .ref dp, .ref cl, .ref sa, .ref ln, .ref bt, .ref pn, .ref bf]))] (po_cx_place g h0 st mk lk ch ru mr kd dp cl sa ln bt pn bf x1 x2 x3 x4 x5) := by
  refine zz_I.intro (own := RX7) (cc := cX7_place) (nL := 7) (by decide) rfl (Nat.le_of_ble_eq_true rfl) ?_
  intro p l e s m args below meth c A H locs ls hC hnm hZ hl
  obtain ⟨hx, hb, hml, hown, hts, hr, hlocks, hK⟩ := id hC
  have hl : lv_has ls 7 [(0, .ref h0), (1, .int x1), (2, .int x2), (3, .int x3), (4, .int x4), (5, .int x5)] := hl
  have hZ : zz_Z g A s.heap [(h0, .inr (6, [.ref st, .ref mk, .ref lk, .ref ch, .ref ru, .ref mr, .int 0, .int 0])), (st, .inr (5, [.int 0, .int 0, .ref kd, .ref dp, .ref cl, .ref sa, .ref ln, .ref bt, .ref pn, .ref bf]))] H locs := hZ
  refine lv_aload_n hx hb dX7_place_0 rfl (lv_at hl 0 rfl) ?_
  refine zz_get hC hZ 0 rfl zf_X7_10 rfl dX7_place_1 ?_
  refine lv_iload_n hx hb dX7_place_4 rfl (lv_at hl 1 rfl) ?_
  refine zz_iV (As := [.int x1]) (wc := [(st, .inr (5, [.int 0, .int 0, .ref kd, .ref dp, .ref cl, .ref sa, .ref ln, .ref bt, .ref pn, .ref bf]))]) (wr := [(h0, .inr (6, [.ref st, .ref mk, .ref lk, .ref ch, .ref ru, .ref mr, .int 0, .int 0]))]) (rest := []) hC hZ hl zc_X7_73 (co_has0 g st kd dp cl sa ln bt pn bf x1) [1] [0] rfl rfl (by decide) (ci := 5) (q0 := 0) rfl rfl rfl rfl (Nat.le_of_ble_eq_true rfl) ⟨⟨Nat.le_of_ble_eq_true rfl, Nat.le_of_ble_eq_true rfl⟩, Nat.le_of_ble_eq_true rfl, Nat.le_of_ble_eq_true rfl⟩ dX7_place_5 (fun r1 u2 H locs hp hZ => ?_)
  obtain ⟨rfl, rfl⟩ := hp
  have hZ : zz_Z g A s.heap [(h0, .inr (6, [.ref st, .ref mk, .ref lk, .ref ch, .ref ru, .ref mr, .int 0, .int 0])), (st, .inr (5, [.int 0, .int 0, .ref kd, .ref dp, .ref cl, .ref sa, .ref ln, .ref bt, .ref pn, .ref bf]))] H locs := hZ
  refine lv_if_ne (tgt := 17) hx hb dX7_place_8 (by decide) (fun c => absurd (by decide) c) (fun c3 => ?_)
  refine lv_aload_n hx hb dX7_place_11 rfl (lv_at hl 0 rfl) ?_
  refine lv_iconst (v := 5) hx hb dX7_place_12 (by decide) ?_
  refine zz_iV (As := [.int 5]) (wc := [(h0, .inr (6, [.ref st, .ref mk, .ref lk, .ref ch, .ref ru, .ref mr, .int 0, .int 0]))]) (wr := [(st, .inr (5, [.int 0, .int 0, .ref kd, .ref dp, .ref cl, .ref sa, .ref ln, .ref bt, .ref pn, .ref bf]))]) (rest := []) hC hZ hl zc_X7_65 (co_fail g h0 st mk lk ch ru mr 0 0 5) [0] [1] rfl rfl (by decide) (ci := 6) (q0 := 0) rfl rfl rfl rfl (Nat.le_of_ble_eq_true rfl) ⟨⟨Nat.le_of_ble_eq_true rfl, Nat.le_of_ble_eq_true rfl⟩, Nat.le_of_ble_eq_true rfl, Nat.le_of_ble_eq_true rfl⟩ dX7_place_13 (fun r4 u5 H locs hp hZ => ?_)
  obtain ⟨rfl, rfl⟩ := hp
  have hZ : zz_Z g A s.heap [(st, .inr (5, [.int 0, .int 0, .ref kd, .ref dp, .ref cl, .ref sa, .ref ln, .ref bt, .ref pn, .ref bf])), (h0, .inr (6, [.ref st, .ref mk, .ref lk, .ref ch, .ref ru, .ref mr, .int 0, .int 5]))] H locs := hZ
  exact zz_iret hC hZ (rfl) (Nat.le_of_ble_eq_true rfl) (Nat.le_of_ble_eq_true rfl) dX7_place_16
theorem dX7_pin_0 : decode cX7_pin 0 = .ok (.aload_n 0, 1) := by decide +kernel
theorem dX7_pin_1 : decode cX7_pin 1 = .ok (.getfield 10, 3) := by decide +kernel
theorem dX7_pin_4 : decode cX7_pin 4 = .ok (.iload_n 1, 1) := by decide +kernel
theorem dX7_pin_5 : decode cX7_pin 5 = .ok (.invokevirtual 73, 3) := by decide +kernel
theorem dX7_pin_8 : decode cX7_pin 8 = .ok (.ifCond .ne 9, 3) := by decide +kernel
theorem dX7_pin_11 : decode cX7_pin 11 = .ok (.aload_n 0, 1) := by decide +kernel
theorem dX7_pin_12 : decode cX7_pin 12 = .ok (.iconst 5, 1) := by decide +kernel
theorem dX7_pin_13 : decode cX7_pin 13 = .ok (.invokevirtual 65, 3) := by decide +kernel
theorem dX7_pin_16 : decode cX7_pin 16 = .ok (.ireturn, 1) := by decide +kernel
def fn_cx_pin  : Int32 := -5
abbrev rm_cx_pin : Room := { frames := 1, cells := 0, slots := 0, locals := 21 }
abbrev po_cx_pin (g : zz_G) (h0 : Nat) (st : Nat) (mk : Nat) (lk : Nat) (ch : Nat) (ru : Nat) (mr : Nat) (kd : Nat) (dp : Nat) (cl : Nat) (sa : Nat) (ln : Nat) (bt : Nat) (pn : Nat) (bf : Nat) (x1 : Int32) (x2 : Int32) (x3 : Int32) (x4 : Int32) (x5 : Int32) (x6 : Int32) : Int32 → va_W → Prop := fun (r : Int32) (u : va_W) => r = fn_cx_pin
set_option maxHeartbeats 4000000 in
set_option maxRecDepth 100000 in
theorem cx_pin (g : zz_G) (h0 : Nat) (st : Nat) (mk : Nat) (lk : Nat) (ch : Nat) (ru : Nat) (mr : Nat) (kd : Nat) (dp : Nat) (cl : Nat) (sa : Nat) (ln : Nat) (bt : Nat) (pn : Nat) (bf : Nat) (x1 : Int32) (x2 : Int32) (x3 : Int32) (x4 : Int32) (x5 : Int32) (x6 : Int32) : zz_I g yX7_pin (.code yX7_pin cX7_pin 10 (some .int)) rm_cx_pin [.ref h0, .int x1, .int x2, .int x3, .int x4, .int x5, .int x6] [(h0, .inr (6, [.ref st, .ref mk, .ref lk, .ref ch, .ref ru, .ref mr, .int 0, .int 0])), (st, .inr (5, [.int 0, .int 0, .ref kd, .ref dp, .ref cl, .ref sa, .ref ln, .ref bt, .ref pn, .ref bf]))] (po_cx_pin g h0 st mk lk ch ru mr kd dp cl sa ln bt pn bf x1 x2 x3 x4 x5 x6) := by
  refine zz_I.intro (own := RX7) (cc := cX7_pin) (nL := 10) (by decide) rfl (Nat.le_of_ble_eq_true rfl) ?_
  intro p l e s m args below meth c A H locs ls hC hnm hZ hl
  obtain ⟨hx, hb, hml, hown, hts, hr, hlocks, hK⟩ := id hC
  have hl : lv_has ls 10 [(0, .ref h0), (1, .int x1), (2, .int x2), (3, .int x3), (4, .int x4), (5, .int x5), (6, .int x6)] := hl
  have hZ : zz_Z g A s.heap [(h0, .inr (6, [.ref st, .ref mk, .ref lk, .ref ch, .ref ru, .ref mr, .int 0, .int 0])), (st, .inr (5, [.int 0, .int 0, .ref kd, .ref dp, .ref cl, .ref sa, .ref ln, .ref bt, .ref pn, .ref bf]))] H locs := hZ
  refine lv_aload_n hx hb dX7_pin_0 rfl (lv_at hl 0 rfl) ?_
  refine zz_get hC hZ 0 rfl zf_X7_10 rfl dX7_pin_1 ?_
  refine lv_iload_n hx hb dX7_pin_4 rfl (lv_at hl 1 rfl) ?_
  refine zz_iV (As := [.int x1]) (wc := [(st, .inr (5, [.int 0, .int 0, .ref kd, .ref dp, .ref cl, .ref sa, .ref ln, .ref bt, .ref pn, .ref bf]))]) (wr := [(h0, .inr (6, [.ref st, .ref mk, .ref lk, .ref ch, .ref ru, .ref mr, .int 0, .int 0]))]) (rest := []) hC hZ hl zc_X7_73 (co_has0 g st kd dp cl sa ln bt pn bf x1) [1] [0] rfl rfl (by decide) (ci := 5) (q0 := 0) rfl rfl rfl rfl (Nat.le_of_ble_eq_true rfl) ⟨⟨Nat.le_of_ble_eq_true rfl, Nat.le_of_ble_eq_true rfl⟩, Nat.le_of_ble_eq_true rfl, Nat.le_of_ble_eq_true rfl⟩ dX7_pin_5 (fun r1 u2 H locs hp hZ => ?_)
  obtain ⟨rfl, rfl⟩ := hp
  have hZ : zz_Z g A s.heap [(h0, .inr (6, [.ref st, .ref mk, .ref lk, .ref ch, .ref ru, .ref mr, .int 0, .int 0])), (st, .inr (5, [.int 0, .int 0, .ref kd, .ref dp, .ref cl, .ref sa, .ref ln, .ref bt, .ref pn, .ref bf]))] H locs := hZ
  refine lv_if_ne (tgt := 17) hx hb dX7_pin_8 (by decide) (fun c => absurd (by decide) c) (fun c3 => ?_)
  refine lv_aload_n hx hb dX7_pin_11 rfl (lv_at hl 0 rfl) ?_
  refine lv_iconst (v := 5) hx hb dX7_pin_12 (by decide) ?_
  refine zz_iV (As := [.int 5]) (wc := [(h0, .inr (6, [.ref st, .ref mk, .ref lk, .ref ch, .ref ru, .ref mr, .int 0, .int 0]))]) (wr := [(st, .inr (5, [.int 0, .int 0, .ref kd, .ref dp, .ref cl, .ref sa, .ref ln, .ref bt, .ref pn, .ref bf]))]) (rest := []) hC hZ hl zc_X7_65 (co_fail g h0 st mk lk ch ru mr 0 0 5) [0] [1] rfl rfl (by decide) (ci := 6) (q0 := 0) rfl rfl rfl rfl (Nat.le_of_ble_eq_true rfl) ⟨⟨Nat.le_of_ble_eq_true rfl, Nat.le_of_ble_eq_true rfl⟩, Nat.le_of_ble_eq_true rfl, Nat.le_of_ble_eq_true rfl⟩ dX7_pin_13 (fun r4 u5 H locs hp hZ => ?_)
  obtain ⟨rfl, rfl⟩ := hp
  have hZ : zz_Z g A s.heap [(st, .inr (5, [.int 0, .int 0, .ref kd, .ref dp, .ref cl, .ref sa, .ref ln, .ref bt, .ref pn, .ref bf])), (h0, .inr (6, [.ref st, .ref mk, .ref lk, .ref ch, .ref ru, .ref mr, .int 0, .int 5]))] H locs := hZ
  exact zz_iret hC hZ (rfl) (Nat.le_of_ble_eq_true rfl) (Nat.le_of_ble_eq_true rfl) dX7_pin_16
theorem dX7_column_0 : decode cX7_column 0 = .ok (.iload_n 1, 1) := by decide +kernel
theorem dX7_column_1 : decode cX7_column 1 = .ok (.invokestatic 59, 3) := by decide +kernel
theorem dX7_column_4 : decode cX7_column 4 = .ok (.ifCond .eq 7, 3) := by decide +kernel
theorem dX7_column_11 : decode cX7_column 11 = .ok (.aload_n 0, 1) := by decide +kernel
theorem dX7_column_12 : decode cX7_column 12 = .ok (.bipush 9, 2) := by decide +kernel
theorem dX7_column_14 : decode cX7_column 14 = .ok (.invokevirtual 65, 3) := by decide +kernel
theorem dX7_column_17 : decode cX7_column 17 = .ok (.ireturn, 1) := by decide +kernel
theorem dX7_column_7 : decode cX7_column 7 = .ok (.iload_n 2, 1) := by decide +kernel
theorem dX7_column_8 : decode cX7_column 8 = .ok (.ifCond .ge 10, 3) := by decide +kernel
theorem dX7_column_18 : decode cX7_column 18 = .ok (.iload_n 2, 1) := by decide +kernel
theorem dX7_column_19 : decode cX7_column 19 = .ok (.istore_n 3, 1) := by decide +kernel
theorem dX7_column_20 : decode cX7_column 20 = .ok (.iconst 0, 1) := by decide +kernel
theorem dX7_column_21 : decode cX7_column 21 = .ok (.istore 4, 2) := by decide +kernel
theorem dX7_column_23 : decode cX7_column 23 = .ok (.iload 4, 2) := by decide +kernel
theorem dX7_column_25 : decode cX7_column 25 = .ok (.aload_n 0, 1) := by decide +kernel
theorem dX7_column_26 : decode cX7_column 26 = .ok (.getfield 10, 3) := by decide +kernel
theorem dX7_column_29 : decode cX7_column 29 = .ok (.getfield 163, 3) := by decide +kernel
theorem zk_27 : Cond.fieldLink RX7 163 RX6 "arrays" "I" ∈ zz_w := zz_in (List.mem_append_right _ (List.mem_append_left _ (List.mem_of_getElem? (i := 27) (by decide +kernel)))) rfl
theorem zf_X7_163 : zz_f RX7 163 5 0 := ⟨RX6, TX6, 10, rfl, zi_X6, by decide, zk_27⟩
theorem dX7_column_32 : decode cX7_column 32 = .ok (.if_icmp .ge 77, 3) := by decide +kernel
theorem dX7_column_109 : decode cX7_column 109 = .ok (.aload_n 0, 1) := by decide +kernel
theorem dX7_column_110 : decode cX7_column 110 = .ok (.bipush (-2), 2) := by decide +kernel
theorem dX7_column_112 : decode cX7_column 112 = .ok (.invokevirtual 100, 3) := by decide +kernel
theorem dX7_column_115 : decode cX7_column 115 = .ok (.ireturn, 1) := by decide +kernel
def fn_cx_column (x1 : Int32) (x2 : Int32) : Int32 := (if (fn_co_isKind x1) = 0 then -9 else (if 0 ≤ x2 then -2 else -9))
abbrev rm_cx_column : Room := { frames := 1, cells := 0, slots := 0, locals := 21 }
abbrev po_cx_column (g : zz_G) (h0 : Nat) (st : Nat) (mk : Nat) (lk : Nat) (ch : Nat) (ru : Nat) (mr : Nat) (kd : Nat) (dp : Nat) (cl : Nat) (sa : Nat) (ln : Nat) (bt : Nat) (pn : Nat) (bf : Nat) (x1 : Int32) (x2 : Int32) : Int32 → va_W → Prop := fun (r : Int32) (u : va_W) => r = fn_cx_column x1 x2
set_option maxHeartbeats 4000000 in
set_option maxRecDepth 100000 in
theorem cx_column (g : zz_G) (h0 : Nat) (st : Nat) (mk : Nat) (lk : Nat) (ch : Nat) (ru : Nat) (mr : Nat) (kd : Nat) (dp : Nat) (cl : Nat) (sa : Nat) (ln : Nat) (bt : Nat) (pn : Nat) (bf : Nat) (x1 : Int32) (x2 : Int32) : zz_I g yX7_column (.code yX7_column cX7_column 5 (some .int)) rm_cx_column [.ref h0, .int x1, .int x2] [(h0, .inr (6, [.ref st, .ref mk, .ref lk, .ref ch, .ref ru, .ref mr, .int 0, .int 0])), (st, .inr (5, [.int 0, .int 0, .ref kd, .ref dp, .ref cl, .ref sa, .ref ln, .ref bt, .ref pn, .ref bf]))] (po_cx_column g h0 st mk lk ch ru mr kd dp cl sa ln bt pn bf x1 x2) := by
  refine zz_I.intro (own := RX7) (cc := cX7_column) (nL := 5) (by decide) rfl (Nat.le_of_ble_eq_true rfl) ?_
  intro p l e s m args below meth c A H locs ls hC hnm hZ hl
  obtain ⟨hx, hb, hml, hown, hts, hr, hlocks, hK⟩ := id hC
  have hl : lv_has ls 5 [(0, .ref h0), (1, .int x1), (2, .int x2)] := hl
  have hZ : zz_Z g A s.heap [(h0, .inr (6, [.ref st, .ref mk, .ref lk, .ref ch, .ref ru, .ref mr, .int 0, .int 0])), (st, .inr (5, [.int 0, .int 0, .ref kd, .ref dp, .ref cl, .ref sa, .ref ln, .ref bt, .ref pn, .ref bf]))] H locs := hZ
  refine lv_iload_n hx hb dX7_column_0 rfl (lv_at hl 1 rfl) ?_
  refine zz_iS (As := [.int x1]) (wc := []) (wr := [(h0, .inr (6, [.ref st, .ref mk, .ref lk, .ref ch, .ref ru, .ref mr, .int 0, .int 0])), (st, .inr (5, [.int 0, .int 0, .ref kd, .ref dp, .ref cl, .ref sa, .ref ln, .ref bt, .ref pn, .ref bf]))]) (rest := []) hC hZ hl zc_X7_59 (co_isKind g x1) [] [0, 1] rfl rfl (by decide) rfl rfl (Nat.le_of_ble_eq_true rfl) ⟨⟨Nat.le_of_ble_eq_true rfl, Nat.le_of_ble_eq_true rfl⟩, Nat.le_of_ble_eq_true rfl, Nat.le_of_ble_eq_true rfl⟩ dX7_column_1 (fun r1 u2 H locs hp hZ => ?_)
  obtain ⟨rfl, rfl⟩ := hp
  have hZ : zz_Z g A s.heap [(h0, .inr (6, [.ref st, .ref mk, .ref lk, .ref ch, .ref ru, .ref mr, .int 0, .int 0])), (st, .inr (5, [.int 0, .int 0, .ref kd, .ref dp, .ref cl, .ref sa, .ref ln, .ref bt, .ref pn, .ref bf]))] H locs := hZ
  refine lv_if_eq (tgt := 11) hx hb dX7_column_4 (by decide) (fun c3 => ?_) (fun c3 => ?_)
  · refine lv_aload_n hx hb dX7_column_11 rfl (lv_at hl 0 rfl) ?_
    refine lv_bipush (v := 9) hx hb dX7_column_12 (by decide) ?_
    refine zz_iV (As := [.int 9]) (wc := [(h0, .inr (6, [.ref st, .ref mk, .ref lk, .ref ch, .ref ru, .ref mr, .int 0, .int 0]))]) (wr := [(st, .inr (5, [.int 0, .int 0, .ref kd, .ref dp, .ref cl, .ref sa, .ref ln, .ref bt, .ref pn, .ref bf]))]) (rest := []) hC hZ hl zc_X7_65 (co_fail g h0 st mk lk ch ru mr 0 0 9) [0] [1] rfl rfl (by decide) (ci := 6) (q0 := 0) rfl rfl rfl rfl (Nat.le_of_ble_eq_true rfl) ⟨⟨Nat.le_of_ble_eq_true rfl, Nat.le_of_ble_eq_true rfl⟩, Nat.le_of_ble_eq_true rfl, Nat.le_of_ble_eq_true rfl⟩ dX7_column_14 (fun r4 u5 H locs hp hZ => ?_)
    obtain ⟨rfl, rfl⟩ := hp
    have hZ : zz_Z g A s.heap [(st, .inr (5, [.int 0, .int 0, .ref kd, .ref dp, .ref cl, .ref sa, .ref ln, .ref bt, .ref pn, .ref bf])), (h0, .inr (6, [.ref st, .ref mk, .ref lk, .ref ch, .ref ru, .ref mr, .int 0, .int 9]))] H locs := hZ
    exact zz_iret hC hZ (by show _ = _; rw [fn_cx_column, if_pos c3]) (Nat.le_of_ble_eq_true rfl) (Nat.le_of_ble_eq_true rfl) dX7_column_17
  · refine lv_iload_n hx hb dX7_column_7 rfl (lv_at hl 2 rfl) ?_
    refine lv_if_ge (tgt := 18) hx hb dX7_column_8 (by decide) (fun c6 => ?_) (fun c6 => ?_)
    · refine lv_iload_n hx hb dX7_column_18 rfl (lv_at hl 2 rfl) ?_
      refine lv_istore_n (lv' := [(3, .int x2), (0, .ref h0), (1, .int x1), (2, .int x2)]) hx hb dX7_column_19 rfl hl (by decide) rfl (fun ls hl => ?_)
      refine lv_iconst (v := 0) hx hb dX7_column_20 (by decide) ?_
      refine lv_istore (lv' := [(4, .int 0), (3, .int x2), (0, .ref h0), (1, .int x1), (2, .int x2)]) hx hb dX7_column_21 hl (by decide) rfl (fun ls hl => ?_)
      refine lv_iload hx hb dX7_column_23 (lv_at hl 0 rfl) ?_
      refine lv_aload_n hx hb dX7_column_25 rfl (lv_at hl 2 rfl) ?_
      refine zz_get hC hZ 0 rfl zf_X7_10 rfl dX7_column_26 ?_
      refine zz_get hC hZ 1 rfl zf_X7_163 rfl dX7_column_29 ?_
      refine lv_icmp_ge (tgt := 109) hx hb dX7_column_32 (by decide) (fun c7 => ?_) (fun c => absurd (by decide) c)
      refine lv_aload_n hx hb dX7_column_109 rfl (lv_at hl 2 rfl) ?_
      refine lv_bipush (v := -2) hx hb dX7_column_110 (by decide) ?_
      refine zz_iV (As := [.int (-2)]) (wc := [(h0, .inr (6, [.ref st, .ref mk, .ref lk, .ref ch, .ref ru, .ref mr, .int 0, .int 0]))]) (wr := [(st, .inr (5, [.int 0, .int 0, .ref kd, .ref dp, .ref cl, .ref sa, .ref ln, .ref bt, .ref pn, .ref bf]))]) (rest := []) hC hZ hl zc_X7_100 (co_fine g h0 st mk lk ch ru mr 0 0 (-2)) [0] [1] rfl rfl (by decide) (ci := 6) (q0 := 0) rfl rfl rfl rfl (Nat.le_of_ble_eq_true rfl) ⟨⟨Nat.le_of_ble_eq_true rfl, Nat.le_of_ble_eq_true rfl⟩, Nat.le_of_ble_eq_true rfl, Nat.le_of_ble_eq_true rfl⟩ dX7_column_112 (fun r8 u9 H locs hp hZ => ?_)
      obtain ⟨rfl, rfl⟩ := hp
      have hZ : zz_Z g A s.heap [(st, .inr (5, [.int 0, .int 0, .ref kd, .ref dp, .ref cl, .ref sa, .ref ln, .ref bt, .ref pn, .ref bf])), (h0, .inr (6, [.ref st, .ref mk, .ref lk, .ref ch, .ref ru, .ref mr, .int 0, .int 0]))] H locs := hZ
      exact zz_iret hC hZ (by show _ = _; rw [fn_cx_column, if_neg c3, if_pos c6]) (Nat.le_of_ble_eq_true rfl) (Nat.le_of_ble_eq_true rfl) dX7_column_115
    · refine lv_aload_n hx hb dX7_column_11 rfl (lv_at hl 0 rfl) ?_
      refine lv_bipush (v := 9) hx hb dX7_column_12 (by decide) ?_
      refine zz_iV (As := [.int 9]) (wc := [(h0, .inr (6, [.ref st, .ref mk, .ref lk, .ref ch, .ref ru, .ref mr, .int 0, .int 0]))]) (wr := [(st, .inr (5, [.int 0, .int 0, .ref kd, .ref dp, .ref cl, .ref sa, .ref ln, .ref bt, .ref pn, .ref bf]))]) (rest := []) hC hZ hl zc_X7_65 (co_fail g h0 st mk lk ch ru mr 0 0 9) [0] [1] rfl rfl (by decide) (ci := 6) (q0 := 0) rfl rfl rfl rfl (Nat.le_of_ble_eq_true rfl) ⟨⟨Nat.le_of_ble_eq_true rfl, Nat.le_of_ble_eq_true rfl⟩, Nat.le_of_ble_eq_true rfl, Nat.le_of_ble_eq_true rfl⟩ dX7_column_14 (fun r10 u11 H locs hp hZ => ?_)
      obtain ⟨rfl, rfl⟩ := hp
      have hZ : zz_Z g A s.heap [(st, .inr (5, [.int 0, .int 0, .ref kd, .ref dp, .ref cl, .ref sa, .ref ln, .ref bt, .ref pn, .ref bf])), (h0, .inr (6, [.ref st, .ref mk, .ref lk, .ref ch, .ref ru, .ref mr, .int 0, .int 9]))] H locs := hZ
      exact zz_iret hC hZ (by show _ = _; rw [fn_cx_column, if_neg c3, if_neg c6]) (Nat.le_of_ble_eq_true rfl) (Nat.le_of_ble_eq_true rfl) dX7_column_17
theorem dX7_code_0 : decode cX7_code 0 = .ok (.aload_n 0, 1) := by decide +kernel
theorem dX7_code_1 : decode cX7_code 1 = .ok (.getfield 56, 3) := by decide +kernel
theorem dX7_code_4 : decode cX7_code 4 = .ok (.ireturn, 1) := by decide +kernel
def fn_cx_code  : Int32 := 0
abbrev rm_cx_code : Room := { frames := 0, cells := 0, slots := 0, locals := 0 }
abbrev po_cx_code (g : zz_G) (h0 : Nat) (st : Nat) (mk : Nat) (lk : Nat) (ch : Nat) (ru : Nat) (mr : Nat) : Int32 → va_W → Prop := fun (r : Int32) (u : va_W) => r = fn_cx_code
set_option maxHeartbeats 4000000 in
set_option maxRecDepth 100000 in
theorem cx_code (g : zz_G) (h0 : Nat) (st : Nat) (mk : Nat) (lk : Nat) (ch : Nat) (ru : Nat) (mr : Nat) : zz_I g yX7_code (.code yX7_code cX7_code 1 (some .int)) rm_cx_code [.ref h0] [(h0, .inr (6, [.ref st, .ref mk, .ref lk, .ref ch, .ref ru, .ref mr, .int 0, .int 0]))] (po_cx_code g h0 st mk lk ch ru mr) := by
  refine zz_I.intro (own := RX7) (cc := cX7_code) (nL := 1) (by decide) rfl (Nat.le_of_ble_eq_true rfl) ?_
  intro p l e s m args below meth c A H locs ls hC hnm hZ hl
  obtain ⟨hx, hb, hml, hown, hts, hr, hlocks, hK⟩ := id hC
  have hl : lv_has ls 1 [(0, .ref h0)] := hl
  have hZ : zz_Z g A s.heap [(h0, .inr (6, [.ref st, .ref mk, .ref lk, .ref ch, .ref ru, .ref mr, .int 0, .int 0]))] H locs := hZ
  refine lv_aload_n hx hb dX7_code_0 rfl (lv_at hl 0 rfl) ?_
  refine zz_get hC hZ 0 rfl zf_X7_56 rfl dX7_code_1 ?_
  exact zz_iret hC hZ (rfl) (Nat.le_of_ble_eq_true rfl) (Nat.le_of_ble_eq_true rfl) dX7_code_4
theorem dX7_widens_0 : decode cX7_widens 0 = .ok (.iload_n 1, 1) := by decide +kernel
theorem dX7_widens_1 : decode cX7_widens 1 = .ok (.invokestatic 59, 3) := by decide +kernel
theorem dX7_widens_4 : decode cX7_widens 4 = .ok (.ifCond .eq 10, 3) := by decide +kernel
theorem dX7_widens_14 : decode cX7_widens 14 = .ok (.aload_n 0, 1) := by decide +kernel
theorem dX7_widens_15 : decode cX7_widens 15 = .ok (.bipush 9, 2) := by decide +kernel
theorem dX7_widens_17 : decode cX7_widens 17 = .ok (.invokevirtual 65, 3) := by decide +kernel
theorem dX7_widens_20 : decode cX7_widens 20 = .ok (.ireturn, 1) := by decide +kernel
theorem dX7_widens_7 : decode cX7_widens 7 = .ok (.iload_n 2, 1) := by decide +kernel
theorem dX7_widens_8 : decode cX7_widens 8 = .ok (.invokestatic 59, 3) := by decide +kernel
theorem dX7_widens_11 : decode cX7_widens 11 = .ok (.ifCond .ne 10, 3) := by decide +kernel
theorem dX7_widens_21 : decode cX7_widens 21 = .ok (.aload_n 0, 1) := by decide +kernel
theorem dX7_widens_22 : decode cX7_widens 22 = .ok (.iload_n 1, 1) := by decide +kernel
theorem dX7_widens_23 : decode cX7_widens 23 = .ok (.iload_n 2, 1) := by decide +kernel
theorem dX7_widens_24 : decode cX7_widens 24 = .ok (.invokestatic 138, 3) := by decide +kernel
theorem zk_339 : Cond.methodLink RX7 138 yX1_reaches ∈ zz_w := zz_in (List.mem_append_right _ (List.mem_append_right _ (List.mem_append_left _ (List.mem_of_getElem? (i := 99) (by decide +kernel))))) rfl
set_option maxRecDepth 20000 in
theorem zk_341 : Cond.code yX1_reaches cX1_reaches 2 (some .boolean) ∈ zz_w := zz_in (List.mem_append_right _ (List.mem_append_right _ (List.mem_append_left _ (List.mem_of_getElem? (i := 101) (rfl))))) rfl
theorem zk_340 : Cond.static yX1_reaches ∈ zz_w := zz_in (List.mem_append_right _ (List.mem_append_right _ (List.mem_append_left _ (List.mem_of_getElem? (i := 100) (by decide +kernel))))) rfl
theorem zc_X7_138 : zz_cS RX7 138 yX1_reaches cX1_reaches 2 (some .boolean) 2 := ⟨⟨zk_339, zk_341, zk_8, by decide, by decide, by decide +kernel⟩, zk_340⟩
theorem dX7_widens_27 : decode cX7_widens 27 = .ok (.ifCond .eq 7, 3) := by decide +kernel
theorem dX7_widens_34 : decode cX7_widens 34 = .ok (.iconst 0, 1) := by decide +kernel
theorem dX7_widens_35 : decode cX7_widens 35 = .ok (.invokevirtual 100, 3) := by decide +kernel
theorem dX7_widens_38 : decode cX7_widens 38 = .ok (.ireturn, 1) := by decide +kernel
theorem dX7_widens_30 : decode cX7_widens 30 = .ok (.iconst 1, 1) := by decide +kernel
theorem dX7_widens_31 : decode cX7_widens 31 = .ok (.goto 4, 3) := by decide +kernel
def fn_cx_widens (x1 : Int32) (x2 : Int32) : Int32 := (if (fn_co_isKind x1) = 0 then -9 else (if (fn_co_isKind x2) = 0 then -9 else (if (fn_co_reaches x1 x2) = 0 then 0 else 1)))
abbrev rm_cx_widens : Room := { frames := 1, cells := 0, slots := 0, locals := 21 }
abbrev po_cx_widens (g : zz_G) (h0 : Nat) (st : Nat) (mk : Nat) (lk : Nat) (ch : Nat) (ru : Nat) (mr : Nat) (x1 : Int32) (x2 : Int32) : Int32 → va_W → Prop := fun (r : Int32) (u : va_W) => r = fn_cx_widens x1 x2
set_option maxHeartbeats 4000000 in
set_option maxRecDepth 100000 in
theorem cx_widens (g : zz_G) (h0 : Nat) (st : Nat) (mk : Nat) (lk : Nat) (ch : Nat) (ru : Nat) (mr : Nat) (x1 : Int32) (x2 : Int32) : zz_I g yX7_widens (.code yX7_widens cX7_widens 3 (some .int)) rm_cx_widens [.ref h0, .int x1, .int x2] [(h0, .inr (6, [.ref st, .ref mk, .ref lk, .ref ch, .ref ru, .ref mr, .int 0, .int 0]))] (po_cx_widens g h0 st mk lk ch ru mr x1 x2) := by
  refine zz_I.intro (own := RX7) (cc := cX7_widens) (nL := 3) (by decide) rfl (Nat.le_of_ble_eq_true rfl) ?_
  intro p l e s m args below meth c A H locs ls hC hnm hZ hl
  obtain ⟨hx, hb, hml, hown, hts, hr, hlocks, hK⟩ := id hC
  have hl : lv_has ls 3 [(0, .ref h0), (1, .int x1), (2, .int x2)] := hl
  have hZ : zz_Z g A s.heap [(h0, .inr (6, [.ref st, .ref mk, .ref lk, .ref ch, .ref ru, .ref mr, .int 0, .int 0]))] H locs := hZ
  refine lv_iload_n hx hb dX7_widens_0 rfl (lv_at hl 1 rfl) ?_
  refine zz_iS (As := [.int x1]) (wc := []) (wr := [(h0, .inr (6, [.ref st, .ref mk, .ref lk, .ref ch, .ref ru, .ref mr, .int 0, .int 0]))]) (rest := []) hC hZ hl zc_X7_59 (co_isKind g x1) [] [0] rfl rfl (by decide) rfl rfl (Nat.le_of_ble_eq_true rfl) ⟨⟨Nat.le_of_ble_eq_true rfl, Nat.le_of_ble_eq_true rfl⟩, Nat.le_of_ble_eq_true rfl, Nat.le_of_ble_eq_true rfl⟩ dX7_widens_1 (fun r1 u2 H locs hp hZ => ?_)
  obtain ⟨rfl, rfl⟩ := hp
  have hZ : zz_Z g A s.heap [(h0, .inr (6, [.ref st, .ref mk, .ref lk, .ref ch, .ref ru, .ref mr, .int 0, .int 0]))] H locs := hZ
  refine lv_if_eq (tgt := 14) hx hb dX7_widens_4 (by decide) (fun c3 => ?_) (fun c3 => ?_)
  · refine lv_aload_n hx hb dX7_widens_14 rfl (lv_at hl 0 rfl) ?_
    refine lv_bipush (v := 9) hx hb dX7_widens_15 (by decide) ?_
    refine zz_iV (As := [.int 9]) (wc := [(h0, .inr (6, [.ref st, .ref mk, .ref lk, .ref ch, .ref ru, .ref mr, .int 0, .int 0]))]) (wr := []) (rest := []) hC hZ hl zc_X7_65 (co_fail g h0 st mk lk ch ru mr 0 0 9) [0] [] rfl rfl (by decide) (ci := 6) (q0 := 0) rfl rfl rfl rfl (Nat.le_of_ble_eq_true rfl) ⟨⟨Nat.le_of_ble_eq_true rfl, Nat.le_of_ble_eq_true rfl⟩, Nat.le_of_ble_eq_true rfl, Nat.le_of_ble_eq_true rfl⟩ dX7_widens_17 (fun r4 u5 H locs hp hZ => ?_)
    obtain ⟨rfl, rfl⟩ := hp
    have hZ : zz_Z g A s.heap [(h0, .inr (6, [.ref st, .ref mk, .ref lk, .ref ch, .ref ru, .ref mr, .int 0, .int 9]))] H locs := hZ
    exact zz_iret hC hZ (by show _ = _; rw [fn_cx_widens, if_pos c3]) (Nat.le_of_ble_eq_true rfl) (Nat.le_of_ble_eq_true rfl) dX7_widens_20
  · refine lv_iload_n hx hb dX7_widens_7 rfl (lv_at hl 2 rfl) ?_
    refine zz_iS (As := [.int x2]) (wc := []) (wr := [(h0, .inr (6, [.ref st, .ref mk, .ref lk, .ref ch, .ref ru, .ref mr, .int 0, .int 0]))]) (rest := []) hC hZ hl zc_X7_59 (co_isKind g x2) [] [0] rfl rfl (by decide) rfl rfl (Nat.le_of_ble_eq_true rfl) ⟨⟨Nat.le_of_ble_eq_true rfl, Nat.le_of_ble_eq_true rfl⟩, Nat.le_of_ble_eq_true rfl, Nat.le_of_ble_eq_true rfl⟩ dX7_widens_8 (fun r6 u7 H locs hp hZ => ?_)
    obtain ⟨rfl, rfl⟩ := hp
    have hZ : zz_Z g A s.heap [(h0, .inr (6, [.ref st, .ref mk, .ref lk, .ref ch, .ref ru, .ref mr, .int 0, .int 0]))] H locs := hZ
    refine lv_if_ne (tgt := 21) hx hb dX7_widens_11 (by decide) (fun c8 => ?_) (fun c8 => ?_)
    · refine lv_aload_n hx hb dX7_widens_21 rfl (lv_at hl 0 rfl) ?_
      refine lv_iload_n hx hb dX7_widens_22 rfl (lv_at hl 1 rfl) ?_
      refine lv_iload_n hx hb dX7_widens_23 rfl (lv_at hl 2 rfl) ?_
      refine zz_iS (As := [.int x1, .int x2]) (wc := []) (wr := [(h0, .inr (6, [.ref st, .ref mk, .ref lk, .ref ch, .ref ru, .ref mr, .int 0, .int 0]))]) (rest := [.ref h0]) hC hZ hl zc_X7_138 (co_reaches g x1 x2) [] [0] rfl rfl (by decide) rfl rfl (Nat.le_of_ble_eq_true rfl) ⟨⟨Nat.le_of_ble_eq_true rfl, Nat.le_of_ble_eq_true rfl⟩, Nat.le_of_ble_eq_true rfl, Nat.le_of_ble_eq_true rfl⟩ dX7_widens_24 (fun r9 u10 H locs hp hZ => ?_)
      obtain ⟨rfl, rfl⟩ := hp
      have hZ : zz_Z g A s.heap [(h0, .inr (6, [.ref st, .ref mk, .ref lk, .ref ch, .ref ru, .ref mr, .int 0, .int 0]))] H locs := hZ
      refine lv_if_eq (tgt := 34) hx hb dX7_widens_27 (by decide) (fun c11 => ?_) (fun c11 => ?_)
      · refine lv_iconst (v := 0) hx hb dX7_widens_34 (by decide) ?_
        refine zz_iV (As := [.int 0]) (wc := [(h0, .inr (6, [.ref st, .ref mk, .ref lk, .ref ch, .ref ru, .ref mr, .int 0, .int 0]))]) (wr := []) (rest := []) hC hZ hl zc_X7_100 (co_fine g h0 st mk lk ch ru mr 0 0 0) [0] [] rfl rfl (by decide) (ci := 6) (q0 := 0) rfl rfl rfl rfl (Nat.le_of_ble_eq_true rfl) ⟨⟨Nat.le_of_ble_eq_true rfl, Nat.le_of_ble_eq_true rfl⟩, Nat.le_of_ble_eq_true rfl, Nat.le_of_ble_eq_true rfl⟩ dX7_widens_35 (fun r12 u13 H locs hp hZ => ?_)
        obtain ⟨rfl, rfl⟩ := hp
        have hZ : zz_Z g A s.heap [(h0, .inr (6, [.ref st, .ref mk, .ref lk, .ref ch, .ref ru, .ref mr, .int 0, .int 0]))] H locs := hZ
        exact zz_iret hC hZ (by show _ = _; rw [fn_cx_widens, if_neg c3, if_neg c8, if_pos c11]) (Nat.le_of_ble_eq_true rfl) (Nat.le_of_ble_eq_true rfl) dX7_widens_38
      · refine lv_iconst (v := 1) hx hb dX7_widens_30 (by decide) ?_
        refine lv_goto (tgt := 35) hx hb dX7_widens_31 (by decide) ?_
        refine zz_iV (As := [.int 1]) (wc := [(h0, .inr (6, [.ref st, .ref mk, .ref lk, .ref ch, .ref ru, .ref mr, .int 0, .int 0]))]) (wr := []) (rest := []) hC hZ hl zc_X7_100 (co_fine g h0 st mk lk ch ru mr 0 0 1) [0] [] rfl rfl (by decide) (ci := 6) (q0 := 0) rfl rfl rfl rfl (Nat.le_of_ble_eq_true rfl) ⟨⟨Nat.le_of_ble_eq_true rfl, Nat.le_of_ble_eq_true rfl⟩, Nat.le_of_ble_eq_true rfl, Nat.le_of_ble_eq_true rfl⟩ dX7_widens_35 (fun r14 u15 H locs hp hZ => ?_)
        obtain ⟨rfl, rfl⟩ := hp
        have hZ : zz_Z g A s.heap [(h0, .inr (6, [.ref st, .ref mk, .ref lk, .ref ch, .ref ru, .ref mr, .int 0, .int 0]))] H locs := hZ
        exact zz_iret hC hZ (by show _ = _; rw [fn_cx_widens, if_neg c3, if_neg c8, if_neg c11]) (Nat.le_of_ble_eq_true rfl) (Nat.le_of_ble_eq_true rfl) dX7_widens_38
    · refine lv_aload_n hx hb dX7_widens_14 rfl (lv_at hl 0 rfl) ?_
      refine lv_bipush (v := 9) hx hb dX7_widens_15 (by decide) ?_
      refine zz_iV (As := [.int 9]) (wc := [(h0, .inr (6, [.ref st, .ref mk, .ref lk, .ref ch, .ref ru, .ref mr, .int 0, .int 0]))]) (wr := []) (rest := []) hC hZ hl zc_X7_65 (co_fail g h0 st mk lk ch ru mr 0 0 9) [0] [] rfl rfl (by decide) (ci := 6) (q0 := 0) rfl rfl rfl rfl (Nat.le_of_ble_eq_true rfl) ⟨⟨Nat.le_of_ble_eq_true rfl, Nat.le_of_ble_eq_true rfl⟩, Nat.le_of_ble_eq_true rfl, Nat.le_of_ble_eq_true rfl⟩ dX7_widens_17 (fun r16 u17 H locs hp hZ => ?_)
      obtain ⟨rfl, rfl⟩ := hp
      have hZ : zz_Z g A s.heap [(h0, .inr (6, [.ref st, .ref mk, .ref lk, .ref ch, .ref ru, .ref mr, .int 0, .int 9]))] H locs := hZ
      exact zz_iret hC hZ (by show _ = _; rw [fn_cx_widens, if_neg c3, if_pos c8]) (Nat.le_of_ble_eq_true rfl) (Nat.le_of_ble_eq_true rfl) dX7_widens_20
theorem dX7_fill_0 : decode cX7_fill 0 = .ok (.aload_n 0, 1) := by decide +kernel
theorem dX7_fill_1 : decode cX7_fill 1 = .ok (.getfield 10, 3) := by decide +kernel
theorem dX7_fill_4 : decode cX7_fill 4 = .ok (.iload_n 1, 1) := by decide +kernel
theorem dX7_fill_5 : decode cX7_fill 5 = .ok (.invokevirtual 73, 3) := by decide +kernel
theorem dX7_fill_8 : decode cX7_fill 8 = .ok (.ifCond .ne 9, 3) := by decide +kernel
theorem dX7_fill_11 : decode cX7_fill 11 = .ok (.aload_n 0, 1) := by decide +kernel
theorem dX7_fill_12 : decode cX7_fill 12 = .ok (.iconst 5, 1) := by decide +kernel
theorem dX7_fill_13 : decode cX7_fill 13 = .ok (.invokevirtual 65, 3) := by decide +kernel
theorem dX7_fill_16 : decode cX7_fill 16 = .ok (.ireturn, 1) := by decide +kernel
def fn_cx_fill  : Int32 := -5
abbrev rm_cx_fill : Room := { frames := 1, cells := 0, slots := 0, locals := 21 }
abbrev po_cx_fill (g : zz_G) (h0 : Nat) (st : Nat) (mk : Nat) (lk : Nat) (ch : Nat) (ru : Nat) (mr : Nat) (kd : Nat) (dp : Nat) (cl : Nat) (sa : Nat) (ln : Nat) (bt : Nat) (pn : Nat) (bf : Nat) (x1 : Int32) (x2 : Int32) (x3 : Int32) (x4 : Int32) (x5 : Int64) : Int32 → va_W → Prop := fun (r : Int32) (u : va_W) => r = fn_cx_fill
set_option maxHeartbeats 4000000 in
set_option maxRecDepth 100000 in
theorem cx_fill (g : zz_G) (h0 : Nat) (st : Nat) (mk : Nat) (lk : Nat) (ch : Nat) (ru : Nat) (mr : Nat) (kd : Nat) (dp : Nat) (cl : Nat) (sa : Nat) (ln : Nat) (bt : Nat) (pn : Nat) (bf : Nat) (x1 : Int32) (x2 : Int32) (x3 : Int32) (x4 : Int32) (x5 : Int64) : zz_I g yX7_fill (.code yX7_fill cX7_fill 12 (some .int)) rm_cx_fill [.ref h0, .int x1, .int x2, .int x3, .int x4, .long x5] [(h0, .inr (6, [.ref st, .ref mk, .ref lk, .ref ch, .ref ru, .ref mr, .int 0, .int 0])), (st, .inr (5, [.int 0, .int 0, .ref kd, .ref dp, .ref cl, .ref sa, .ref ln, .ref bt, .ref pn, .ref bf]))] (po_cx_fill g h0 st mk lk ch ru mr kd dp cl sa ln bt pn bf x1 x2 x3 x4 x5) := by
  refine zz_I.intro (own := RX7) (cc := cX7_fill) (nL := 12) (by decide) rfl (Nat.le_of_ble_eq_true rfl) ?_
  intro p l e s m args below meth c A H locs ls hC hnm hZ hl
  obtain ⟨hx, hb, hml, hown, hts, hr, hlocks, hK⟩ := id hC
  have hl : lv_has ls 12 [(0, .ref h0), (1, .int x1), (2, .int x2), (3, .int x3), (4, .int x4), (5, .long x5)] := hl
  have hZ : zz_Z g A s.heap [(h0, .inr (6, [.ref st, .ref mk, .ref lk, .ref ch, .ref ru, .ref mr, .int 0, .int 0])), (st, .inr (5, [.int 0, .int 0, .ref kd, .ref dp, .ref cl, .ref sa, .ref ln, .ref bt, .ref pn, .ref bf]))] H locs := hZ
  refine lv_aload_n hx hb dX7_fill_0 rfl (lv_at hl 0 rfl) ?_
  refine zz_get hC hZ 0 rfl zf_X7_10 rfl dX7_fill_1 ?_
  refine lv_iload_n hx hb dX7_fill_4 rfl (lv_at hl 1 rfl) ?_
  refine zz_iV (As := [.int x1]) (wc := [(st, .inr (5, [.int 0, .int 0, .ref kd, .ref dp, .ref cl, .ref sa, .ref ln, .ref bt, .ref pn, .ref bf]))]) (wr := [(h0, .inr (6, [.ref st, .ref mk, .ref lk, .ref ch, .ref ru, .ref mr, .int 0, .int 0]))]) (rest := []) hC hZ hl zc_X7_73 (co_has0 g st kd dp cl sa ln bt pn bf x1) [1] [0] rfl rfl (by decide) (ci := 5) (q0 := 0) rfl rfl rfl rfl (Nat.le_of_ble_eq_true rfl) ⟨⟨Nat.le_of_ble_eq_true rfl, Nat.le_of_ble_eq_true rfl⟩, Nat.le_of_ble_eq_true rfl, Nat.le_of_ble_eq_true rfl⟩ dX7_fill_5 (fun r1 u2 H locs hp hZ => ?_)
  obtain ⟨rfl, rfl⟩ := hp
  have hZ : zz_Z g A s.heap [(h0, .inr (6, [.ref st, .ref mk, .ref lk, .ref ch, .ref ru, .ref mr, .int 0, .int 0])), (st, .inr (5, [.int 0, .int 0, .ref kd, .ref dp, .ref cl, .ref sa, .ref ln, .ref bt, .ref pn, .ref bf]))] H locs := hZ
  refine lv_if_ne (tgt := 17) hx hb dX7_fill_8 (by decide) (fun c => absurd (by decide) c) (fun c3 => ?_)
  refine lv_aload_n hx hb dX7_fill_11 rfl (lv_at hl 0 rfl) ?_
  refine lv_iconst (v := 5) hx hb dX7_fill_12 (by decide) ?_
  refine zz_iV (As := [.int 5]) (wc := [(h0, .inr (6, [.ref st, .ref mk, .ref lk, .ref ch, .ref ru, .ref mr, .int 0, .int 0]))]) (wr := [(st, .inr (5, [.int 0, .int 0, .ref kd, .ref dp, .ref cl, .ref sa, .ref ln, .ref bt, .ref pn, .ref bf]))]) (rest := []) hC hZ hl zc_X7_65 (co_fail g h0 st mk lk ch ru mr 0 0 5) [0] [1] rfl rfl (by decide) (ci := 6) (q0 := 0) rfl rfl rfl rfl (Nat.le_of_ble_eq_true rfl) ⟨⟨Nat.le_of_ble_eq_true rfl, Nat.le_of_ble_eq_true rfl⟩, Nat.le_of_ble_eq_true rfl, Nat.le_of_ble_eq_true rfl⟩ dX7_fill_13 (fun r4 u5 H locs hp hZ => ?_)
  obtain ⟨rfl, rfl⟩ := hp
  have hZ : zz_Z g A s.heap [(st, .inr (5, [.int 0, .int 0, .ref kd, .ref dp, .ref cl, .ref sa, .ref ln, .ref bt, .ref pn, .ref bf])), (h0, .inr (6, [.ref st, .ref mk, .ref lk, .ref ch, .ref ru, .ref mr, .int 0, .int 5]))] H locs := hZ
  exact zz_iret hC hZ (rfl) (Nat.le_of_ble_eq_true rfl) (Nat.le_of_ble_eq_true rfl) dX7_fill_16
theorem dX7_move_0 : decode cX7_move 0 = .ok (.aload_n 0, 1) := by decide +kernel
theorem dX7_move_1 : decode cX7_move 1 = .ok (.getfield 10, 3) := by decide +kernel
theorem dX7_move_4 : decode cX7_move 4 = .ok (.iload_n 1, 1) := by decide +kernel
theorem dX7_move_5 : decode cX7_move 5 = .ok (.invokevirtual 73, 3) := by decide +kernel
theorem dX7_move_8 : decode cX7_move 8 = .ok (.ifCond .eq 14, 3) := by decide +kernel
theorem dX7_move_22 : decode cX7_move 22 = .ok (.aload_n 0, 1) := by decide +kernel
theorem dX7_move_23 : decode cX7_move 23 = .ok (.iconst 5, 1) := by decide +kernel
theorem dX7_move_24 : decode cX7_move 24 = .ok (.invokevirtual 65, 3) := by decide +kernel
theorem dX7_move_27 : decode cX7_move 27 = .ok (.ireturn, 1) := by decide +kernel
def fn_cx_move  : Int32 := -5
abbrev rm_cx_move : Room := { frames := 1, cells := 0, slots := 0, locals := 21 }
abbrev po_cx_move (g : zz_G) (h0 : Nat) (st : Nat) (mk : Nat) (lk : Nat) (ch : Nat) (ru : Nat) (mr : Nat) (kd : Nat) (dp : Nat) (cl : Nat) (sa : Nat) (ln : Nat) (bt : Nat) (pn : Nat) (bf : Nat) (x1 : Int32) (x2 : Int32) (x3 : Int32) (x4 : Int32) (x5 : Int32) : Int32 → va_W → Prop := fun (r : Int32) (u : va_W) => r = fn_cx_move
set_option maxHeartbeats 4000000 in
set_option maxRecDepth 100000 in
theorem cx_move (g : zz_G) (h0 : Nat) (st : Nat) (mk : Nat) (lk : Nat) (ch : Nat) (ru : Nat) (mr : Nat) (kd : Nat) (dp : Nat) (cl : Nat) (sa : Nat) (ln : Nat) (bt : Nat) (pn : Nat) (bf : Nat) (x1 : Int32) (x2 : Int32) (x3 : Int32) (x4 : Int32) (x5 : Int32) : zz_I g yX7_move (.code yX7_move cX7_move 7 (some .int)) rm_cx_move [.ref h0, .int x1, .int x2, .int x3, .int x4, .int x5] [(h0, .inr (6, [.ref st, .ref mk, .ref lk, .ref ch, .ref ru, .ref mr, .int 0, .int 0])), (st, .inr (5, [.int 0, .int 0, .ref kd, .ref dp, .ref cl, .ref sa, .ref ln, .ref bt, .ref pn, .ref bf]))] (po_cx_move g h0 st mk lk ch ru mr kd dp cl sa ln bt pn bf x1 x2 x3 x4 x5) := by
  refine zz_I.intro (own := RX7) (cc := cX7_move) (nL := 7) (by decide) rfl (Nat.le_of_ble_eq_true rfl) ?_
  intro p l e s m args below meth c A H locs ls hC hnm hZ hl
  obtain ⟨hx, hb, hml, hown, hts, hr, hlocks, hK⟩ := id hC
  have hl : lv_has ls 7 [(0, .ref h0), (1, .int x1), (2, .int x2), (3, .int x3), (4, .int x4), (5, .int x5)] := hl
  have hZ : zz_Z g A s.heap [(h0, .inr (6, [.ref st, .ref mk, .ref lk, .ref ch, .ref ru, .ref mr, .int 0, .int 0])), (st, .inr (5, [.int 0, .int 0, .ref kd, .ref dp, .ref cl, .ref sa, .ref ln, .ref bt, .ref pn, .ref bf]))] H locs := hZ
  refine lv_aload_n hx hb dX7_move_0 rfl (lv_at hl 0 rfl) ?_
  refine zz_get hC hZ 0 rfl zf_X7_10 rfl dX7_move_1 ?_
  refine lv_iload_n hx hb dX7_move_4 rfl (lv_at hl 1 rfl) ?_
  refine zz_iV (As := [.int x1]) (wc := [(st, .inr (5, [.int 0, .int 0, .ref kd, .ref dp, .ref cl, .ref sa, .ref ln, .ref bt, .ref pn, .ref bf]))]) (wr := [(h0, .inr (6, [.ref st, .ref mk, .ref lk, .ref ch, .ref ru, .ref mr, .int 0, .int 0]))]) (rest := []) hC hZ hl zc_X7_73 (co_has0 g st kd dp cl sa ln bt pn bf x1) [1] [0] rfl rfl (by decide) (ci := 5) (q0 := 0) rfl rfl rfl rfl (Nat.le_of_ble_eq_true rfl) ⟨⟨Nat.le_of_ble_eq_true rfl, Nat.le_of_ble_eq_true rfl⟩, Nat.le_of_ble_eq_true rfl, Nat.le_of_ble_eq_true rfl⟩ dX7_move_5 (fun r1 u2 H locs hp hZ => ?_)
  obtain ⟨rfl, rfl⟩ := hp
  have hZ : zz_Z g A s.heap [(h0, .inr (6, [.ref st, .ref mk, .ref lk, .ref ch, .ref ru, .ref mr, .int 0, .int 0])), (st, .inr (5, [.int 0, .int 0, .ref kd, .ref dp, .ref cl, .ref sa, .ref ln, .ref bt, .ref pn, .ref bf]))] H locs := hZ
  refine lv_if_eq (tgt := 22) hx hb dX7_move_8 (by decide) (fun c3 => ?_) (fun c => absurd (by decide) c)
  refine lv_aload_n hx hb dX7_move_22 rfl (lv_at hl 0 rfl) ?_
  refine lv_iconst (v := 5) hx hb dX7_move_23 (by decide) ?_
  refine zz_iV (As := [.int 5]) (wc := [(h0, .inr (6, [.ref st, .ref mk, .ref lk, .ref ch, .ref ru, .ref mr, .int 0, .int 0]))]) (wr := [(st, .inr (5, [.int 0, .int 0, .ref kd, .ref dp, .ref cl, .ref sa, .ref ln, .ref bt, .ref pn, .ref bf]))]) (rest := []) hC hZ hl zc_X7_65 (co_fail g h0 st mk lk ch ru mr 0 0 5) [0] [1] rfl rfl (by decide) (ci := 6) (q0 := 0) rfl rfl rfl rfl (Nat.le_of_ble_eq_true rfl) ⟨⟨Nat.le_of_ble_eq_true rfl, Nat.le_of_ble_eq_true rfl⟩, Nat.le_of_ble_eq_true rfl, Nat.le_of_ble_eq_true rfl⟩ dX7_move_24 (fun r4 u5 H locs hp hZ => ?_)
  obtain ⟨rfl, rfl⟩ := hp
  have hZ : zz_Z g A s.heap [(st, .inr (5, [.int 0, .int 0, .ref kd, .ref dp, .ref cl, .ref sa, .ref ln, .ref bt, .ref pn, .ref bf])), (h0, .inr (6, [.ref st, .ref mk, .ref lk, .ref ch, .ref ru, .ref mr, .int 0, .int 5]))] H locs := hZ
  exact zz_iret hC hZ (rfl) (Nat.le_of_ble_eq_true rfl) (Nat.le_of_ble_eq_true rfl) dX7_move_27
theorem dX7_copy_0 : decode cX7_copy 0 = .ok (.aload_n 0, 1) := by decide +kernel
theorem dX7_copy_1 : decode cX7_copy 1 = .ok (.getfield 10, 3) := by decide +kernel
theorem dX7_copy_4 : decode cX7_copy 4 = .ok (.iload_n 1, 1) := by decide +kernel
theorem dX7_copy_5 : decode cX7_copy 5 = .ok (.invokevirtual 73, 3) := by decide +kernel
theorem dX7_copy_8 : decode cX7_copy 8 = .ok (.ifCond .ne 9, 3) := by decide +kernel
theorem dX7_copy_11 : decode cX7_copy 11 = .ok (.aload_n 0, 1) := by decide +kernel
theorem dX7_copy_12 : decode cX7_copy 12 = .ok (.iconst 5, 1) := by decide +kernel
theorem dX7_copy_13 : decode cX7_copy 13 = .ok (.invokevirtual 65, 3) := by decide +kernel
theorem dX7_copy_16 : decode cX7_copy 16 = .ok (.ireturn, 1) := by decide +kernel
def fn_cx_copy  : Int32 := -5
abbrev rm_cx_copy : Room := { frames := 1, cells := 0, slots := 0, locals := 21 }
abbrev po_cx_copy (g : zz_G) (h0 : Nat) (st : Nat) (mk : Nat) (lk : Nat) (ch : Nat) (ru : Nat) (mr : Nat) (kd : Nat) (dp : Nat) (cl : Nat) (sa : Nat) (ln : Nat) (bt : Nat) (pn : Nat) (bf : Nat) (x1 : Int32) (x2 : Int32) : Int32 → va_W → Prop := fun (r : Int32) (u : va_W) => r = fn_cx_copy
set_option maxHeartbeats 4000000 in
set_option maxRecDepth 100000 in
theorem cx_copy (g : zz_G) (h0 : Nat) (st : Nat) (mk : Nat) (lk : Nat) (ch : Nat) (ru : Nat) (mr : Nat) (kd : Nat) (dp : Nat) (cl : Nat) (sa : Nat) (ln : Nat) (bt : Nat) (pn : Nat) (bf : Nat) (x1 : Int32) (x2 : Int32) : zz_I g yX7_copy (.code yX7_copy cX7_copy 5 (some .int)) rm_cx_copy [.ref h0, .int x1, .int x2] [(h0, .inr (6, [.ref st, .ref mk, .ref lk, .ref ch, .ref ru, .ref mr, .int 0, .int 0])), (st, .inr (5, [.int 0, .int 0, .ref kd, .ref dp, .ref cl, .ref sa, .ref ln, .ref bt, .ref pn, .ref bf]))] (po_cx_copy g h0 st mk lk ch ru mr kd dp cl sa ln bt pn bf x1 x2) := by
  refine zz_I.intro (own := RX7) (cc := cX7_copy) (nL := 5) (by decide) rfl (Nat.le_of_ble_eq_true rfl) ?_
  intro p l e s m args below meth c A H locs ls hC hnm hZ hl
  obtain ⟨hx, hb, hml, hown, hts, hr, hlocks, hK⟩ := id hC
  have hl : lv_has ls 5 [(0, .ref h0), (1, .int x1), (2, .int x2)] := hl
  have hZ : zz_Z g A s.heap [(h0, .inr (6, [.ref st, .ref mk, .ref lk, .ref ch, .ref ru, .ref mr, .int 0, .int 0])), (st, .inr (5, [.int 0, .int 0, .ref kd, .ref dp, .ref cl, .ref sa, .ref ln, .ref bt, .ref pn, .ref bf]))] H locs := hZ
  refine lv_aload_n hx hb dX7_copy_0 rfl (lv_at hl 0 rfl) ?_
  refine zz_get hC hZ 0 rfl zf_X7_10 rfl dX7_copy_1 ?_
  refine lv_iload_n hx hb dX7_copy_4 rfl (lv_at hl 1 rfl) ?_
  refine zz_iV (As := [.int x1]) (wc := [(st, .inr (5, [.int 0, .int 0, .ref kd, .ref dp, .ref cl, .ref sa, .ref ln, .ref bt, .ref pn, .ref bf]))]) (wr := [(h0, .inr (6, [.ref st, .ref mk, .ref lk, .ref ch, .ref ru, .ref mr, .int 0, .int 0]))]) (rest := []) hC hZ hl zc_X7_73 (co_has0 g st kd dp cl sa ln bt pn bf x1) [1] [0] rfl rfl (by decide) (ci := 5) (q0 := 0) rfl rfl rfl rfl (Nat.le_of_ble_eq_true rfl) ⟨⟨Nat.le_of_ble_eq_true rfl, Nat.le_of_ble_eq_true rfl⟩, Nat.le_of_ble_eq_true rfl, Nat.le_of_ble_eq_true rfl⟩ dX7_copy_5 (fun r1 u2 H locs hp hZ => ?_)
  obtain ⟨rfl, rfl⟩ := hp
  have hZ : zz_Z g A s.heap [(h0, .inr (6, [.ref st, .ref mk, .ref lk, .ref ch, .ref ru, .ref mr, .int 0, .int 0])), (st, .inr (5, [.int 0, .int 0, .ref kd, .ref dp, .ref cl, .ref sa, .ref ln, .ref bt, .ref pn, .ref bf]))] H locs := hZ
  refine lv_if_ne (tgt := 17) hx hb dX7_copy_8 (by decide) (fun c => absurd (by decide) c) (fun c3 => ?_)
  refine lv_aload_n hx hb dX7_copy_11 rfl (lv_at hl 0 rfl) ?_
  refine lv_iconst (v := 5) hx hb dX7_copy_12 (by decide) ?_
  refine zz_iV (As := [.int 5]) (wc := [(h0, .inr (6, [.ref st, .ref mk, .ref lk, .ref ch, .ref ru, .ref mr, .int 0, .int 0]))]) (wr := [(st, .inr (5, [.int 0, .int 0, .ref kd, .ref dp, .ref cl, .ref sa, .ref ln, .ref bt, .ref pn, .ref bf]))]) (rest := []) hC hZ hl zc_X7_65 (co_fail g h0 st mk lk ch ru mr 0 0 5) [0] [1] rfl rfl (by decide) (ci := 6) (q0 := 0) rfl rfl rfl rfl (Nat.le_of_ble_eq_true rfl) ⟨⟨Nat.le_of_ble_eq_true rfl, Nat.le_of_ble_eq_true rfl⟩, Nat.le_of_ble_eq_true rfl, Nat.le_of_ble_eq_true rfl⟩ dX7_copy_13 (fun r4 u5 H locs hp hZ => ?_)
  obtain ⟨rfl, rfl⟩ := hp
  have hZ : zz_Z g A s.heap [(st, .inr (5, [.int 0, .int 0, .ref kd, .ref dp, .ref cl, .ref sa, .ref ln, .ref bt, .ref pn, .ref bf])), (h0, .inr (6, [.ref st, .ref mk, .ref lk, .ref ch, .ref ru, .ref mr, .int 0, .int 5]))] H locs := hZ
  exact zz_iret hC hZ (rfl) (Nat.le_of_ble_eq_true rfl) (Nat.le_of_ble_eq_true rfl) dX7_copy_16
theorem dX7_deep_0 : decode cX7_deep 0 = .ok (.aload_n 0, 1) := by decide +kernel
theorem dX7_deep_1 : decode cX7_deep 1 = .ok (.getfield 10, 3) := by decide +kernel
theorem dX7_deep_4 : decode cX7_deep 4 = .ok (.iload_n 1, 1) := by decide +kernel
theorem dX7_deep_5 : decode cX7_deep 5 = .ok (.invokevirtual 73, 3) := by decide +kernel
theorem dX7_deep_8 : decode cX7_deep 8 = .ok (.ifCond .ne 9, 3) := by decide +kernel
theorem dX7_deep_11 : decode cX7_deep 11 = .ok (.aload_n 0, 1) := by decide +kernel
theorem dX7_deep_12 : decode cX7_deep 12 = .ok (.iconst 5, 1) := by decide +kernel
theorem dX7_deep_13 : decode cX7_deep 13 = .ok (.invokevirtual 65, 3) := by decide +kernel
theorem dX7_deep_16 : decode cX7_deep 16 = .ok (.ireturn, 1) := by decide +kernel
def fn_cx_deep  : Int32 := -5
abbrev rm_cx_deep : Room := { frames := 1, cells := 0, slots := 0, locals := 21 }
abbrev po_cx_deep (g : zz_G) (h0 : Nat) (st : Nat) (mk : Nat) (lk : Nat) (ch : Nat) (ru : Nat) (mr : Nat) (kd : Nat) (dp : Nat) (cl : Nat) (sa : Nat) (ln : Nat) (bt : Nat) (pn : Nat) (bf : Nat) (x1 : Int32) : Int32 → va_W → Prop := fun (r : Int32) (u : va_W) => r = fn_cx_deep
set_option maxHeartbeats 4000000 in
set_option maxRecDepth 100000 in
theorem cx_deep (g : zz_G) (h0 : Nat) (st : Nat) (mk : Nat) (lk : Nat) (ch : Nat) (ru : Nat) (mr : Nat) (kd : Nat) (dp : Nat) (cl : Nat) (sa : Nat) (ln : Nat) (bt : Nat) (pn : Nat) (bf : Nat) (x1 : Int32) : zz_I g yX7_deep (.code yX7_deep cX7_deep 2 (some .int)) rm_cx_deep [.ref h0, .int x1] [(h0, .inr (6, [.ref st, .ref mk, .ref lk, .ref ch, .ref ru, .ref mr, .int 0, .int 0])), (st, .inr (5, [.int 0, .int 0, .ref kd, .ref dp, .ref cl, .ref sa, .ref ln, .ref bt, .ref pn, .ref bf]))] (po_cx_deep g h0 st mk lk ch ru mr kd dp cl sa ln bt pn bf x1) := by
  refine zz_I.intro (own := RX7) (cc := cX7_deep) (nL := 2) (by decide) rfl (Nat.le_of_ble_eq_true rfl) ?_
  intro p l e s m args below meth c A H locs ls hC hnm hZ hl
  obtain ⟨hx, hb, hml, hown, hts, hr, hlocks, hK⟩ := id hC
  have hl : lv_has ls 2 [(0, .ref h0), (1, .int x1)] := hl
  have hZ : zz_Z g A s.heap [(h0, .inr (6, [.ref st, .ref mk, .ref lk, .ref ch, .ref ru, .ref mr, .int 0, .int 0])), (st, .inr (5, [.int 0, .int 0, .ref kd, .ref dp, .ref cl, .ref sa, .ref ln, .ref bt, .ref pn, .ref bf]))] H locs := hZ
  refine lv_aload_n hx hb dX7_deep_0 rfl (lv_at hl 0 rfl) ?_
  refine zz_get hC hZ 0 rfl zf_X7_10 rfl dX7_deep_1 ?_
  refine lv_iload_n hx hb dX7_deep_4 rfl (lv_at hl 1 rfl) ?_
  refine zz_iV (As := [.int x1]) (wc := [(st, .inr (5, [.int 0, .int 0, .ref kd, .ref dp, .ref cl, .ref sa, .ref ln, .ref bt, .ref pn, .ref bf]))]) (wr := [(h0, .inr (6, [.ref st, .ref mk, .ref lk, .ref ch, .ref ru, .ref mr, .int 0, .int 0]))]) (rest := []) hC hZ hl zc_X7_73 (co_has0 g st kd dp cl sa ln bt pn bf x1) [1] [0] rfl rfl (by decide) (ci := 5) (q0 := 0) rfl rfl rfl rfl (Nat.le_of_ble_eq_true rfl) ⟨⟨Nat.le_of_ble_eq_true rfl, Nat.le_of_ble_eq_true rfl⟩, Nat.le_of_ble_eq_true rfl, Nat.le_of_ble_eq_true rfl⟩ dX7_deep_5 (fun r1 u2 H locs hp hZ => ?_)
  obtain ⟨rfl, rfl⟩ := hp
  have hZ : zz_Z g A s.heap [(h0, .inr (6, [.ref st, .ref mk, .ref lk, .ref ch, .ref ru, .ref mr, .int 0, .int 0])), (st, .inr (5, [.int 0, .int 0, .ref kd, .ref dp, .ref cl, .ref sa, .ref ln, .ref bt, .ref pn, .ref bf]))] H locs := hZ
  refine lv_if_ne (tgt := 17) hx hb dX7_deep_8 (by decide) (fun c => absurd (by decide) c) (fun c3 => ?_)
  refine lv_aload_n hx hb dX7_deep_11 rfl (lv_at hl 0 rfl) ?_
  refine lv_iconst (v := 5) hx hb dX7_deep_12 (by decide) ?_
  refine zz_iV (As := [.int 5]) (wc := [(h0, .inr (6, [.ref st, .ref mk, .ref lk, .ref ch, .ref ru, .ref mr, .int 0, .int 0]))]) (wr := [(st, .inr (5, [.int 0, .int 0, .ref kd, .ref dp, .ref cl, .ref sa, .ref ln, .ref bt, .ref pn, .ref bf]))]) (rest := []) hC hZ hl zc_X7_65 (co_fail g h0 st mk lk ch ru mr 0 0 5) [0] [1] rfl rfl (by decide) (ci := 6) (q0 := 0) rfl rfl rfl rfl (Nat.le_of_ble_eq_true rfl) ⟨⟨Nat.le_of_ble_eq_true rfl, Nat.le_of_ble_eq_true rfl⟩, Nat.le_of_ble_eq_true rfl, Nat.le_of_ble_eq_true rfl⟩ dX7_deep_13 (fun r4 u5 H locs hp hZ => ?_)
  obtain ⟨rfl, rfl⟩ := hp
  have hZ : zz_Z g A s.heap [(st, .inr (5, [.int 0, .int 0, .ref kd, .ref dp, .ref cl, .ref sa, .ref ln, .ref bt, .ref pn, .ref bf])), (h0, .inr (6, [.ref st, .ref mk, .ref lk, .ref ch, .ref ru, .ref mr, .int 0, .int 5]))] H locs := hZ
  exact zz_iret hC hZ (rfl) (Nat.le_of_ble_eq_true rfl) (Nat.le_of_ble_eq_true rfl) dX7_deep_16
theorem dX7_sort_0 : decode cX7_sort 0 = .ok (.aload_n 0, 1) := by decide +kernel
theorem dX7_sort_1 : decode cX7_sort 1 = .ok (.getfield 10, 3) := by decide +kernel
theorem dX7_sort_4 : decode cX7_sort 4 = .ok (.iload_n 1, 1) := by decide +kernel
theorem dX7_sort_5 : decode cX7_sort 5 = .ok (.invokevirtual 73, 3) := by decide +kernel
theorem dX7_sort_8 : decode cX7_sort 8 = .ok (.ifCond .ne 9, 3) := by decide +kernel
theorem dX7_sort_11 : decode cX7_sort 11 = .ok (.aload_n 0, 1) := by decide +kernel
theorem dX7_sort_12 : decode cX7_sort 12 = .ok (.iconst 5, 1) := by decide +kernel
theorem dX7_sort_13 : decode cX7_sort 13 = .ok (.invokevirtual 65, 3) := by decide +kernel
theorem dX7_sort_16 : decode cX7_sort 16 = .ok (.ireturn, 1) := by decide +kernel
def fn_cx_sort  : Int32 := -5
abbrev rm_cx_sort : Room := { frames := 1, cells := 0, slots := 0, locals := 21 }
abbrev po_cx_sort (g : zz_G) (h0 : Nat) (st : Nat) (mk : Nat) (lk : Nat) (ch : Nat) (ru : Nat) (mr : Nat) (kd : Nat) (dp : Nat) (cl : Nat) (sa : Nat) (ln : Nat) (bt : Nat) (pn : Nat) (bf : Nat) (x1 : Int32) (x2 : Int32) (x3 : Int32) : Int32 → va_W → Prop := fun (r : Int32) (u : va_W) => r = fn_cx_sort
set_option maxHeartbeats 4000000 in
set_option maxRecDepth 100000 in
theorem cx_sort (g : zz_G) (h0 : Nat) (st : Nat) (mk : Nat) (lk : Nat) (ch : Nat) (ru : Nat) (mr : Nat) (kd : Nat) (dp : Nat) (cl : Nat) (sa : Nat) (ln : Nat) (bt : Nat) (pn : Nat) (bf : Nat) (x1 : Int32) (x2 : Int32) (x3 : Int32) : zz_I g yX7_sort (.code yX7_sort cX7_sort 4 (some .int)) rm_cx_sort [.ref h0, .int x1, .int x2, .int x3] [(h0, .inr (6, [.ref st, .ref mk, .ref lk, .ref ch, .ref ru, .ref mr, .int 0, .int 0])), (st, .inr (5, [.int 0, .int 0, .ref kd, .ref dp, .ref cl, .ref sa, .ref ln, .ref bt, .ref pn, .ref bf]))] (po_cx_sort g h0 st mk lk ch ru mr kd dp cl sa ln bt pn bf x1 x2 x3) := by
  refine zz_I.intro (own := RX7) (cc := cX7_sort) (nL := 4) (by decide) rfl (Nat.le_of_ble_eq_true rfl) ?_
  intro p l e s m args below meth c A H locs ls hC hnm hZ hl
  obtain ⟨hx, hb, hml, hown, hts, hr, hlocks, hK⟩ := id hC
  have hl : lv_has ls 4 [(0, .ref h0), (1, .int x1), (2, .int x2), (3, .int x3)] := hl
  have hZ : zz_Z g A s.heap [(h0, .inr (6, [.ref st, .ref mk, .ref lk, .ref ch, .ref ru, .ref mr, .int 0, .int 0])), (st, .inr (5, [.int 0, .int 0, .ref kd, .ref dp, .ref cl, .ref sa, .ref ln, .ref bt, .ref pn, .ref bf]))] H locs := hZ
  refine lv_aload_n hx hb dX7_sort_0 rfl (lv_at hl 0 rfl) ?_
  refine zz_get hC hZ 0 rfl zf_X7_10 rfl dX7_sort_1 ?_
  refine lv_iload_n hx hb dX7_sort_4 rfl (lv_at hl 1 rfl) ?_
  refine zz_iV (As := [.int x1]) (wc := [(st, .inr (5, [.int 0, .int 0, .ref kd, .ref dp, .ref cl, .ref sa, .ref ln, .ref bt, .ref pn, .ref bf]))]) (wr := [(h0, .inr (6, [.ref st, .ref mk, .ref lk, .ref ch, .ref ru, .ref mr, .int 0, .int 0]))]) (rest := []) hC hZ hl zc_X7_73 (co_has0 g st kd dp cl sa ln bt pn bf x1) [1] [0] rfl rfl (by decide) (ci := 5) (q0 := 0) rfl rfl rfl rfl (Nat.le_of_ble_eq_true rfl) ⟨⟨Nat.le_of_ble_eq_true rfl, Nat.le_of_ble_eq_true rfl⟩, Nat.le_of_ble_eq_true rfl, Nat.le_of_ble_eq_true rfl⟩ dX7_sort_5 (fun r1 u2 H locs hp hZ => ?_)
  obtain ⟨rfl, rfl⟩ := hp
  have hZ : zz_Z g A s.heap [(h0, .inr (6, [.ref st, .ref mk, .ref lk, .ref ch, .ref ru, .ref mr, .int 0, .int 0])), (st, .inr (5, [.int 0, .int 0, .ref kd, .ref dp, .ref cl, .ref sa, .ref ln, .ref bt, .ref pn, .ref bf]))] H locs := hZ
  refine lv_if_ne (tgt := 17) hx hb dX7_sort_8 (by decide) (fun c => absurd (by decide) c) (fun c3 => ?_)
  refine lv_aload_n hx hb dX7_sort_11 rfl (lv_at hl 0 rfl) ?_
  refine lv_iconst (v := 5) hx hb dX7_sort_12 (by decide) ?_
  refine zz_iV (As := [.int 5]) (wc := [(h0, .inr (6, [.ref st, .ref mk, .ref lk, .ref ch, .ref ru, .ref mr, .int 0, .int 0]))]) (wr := [(st, .inr (5, [.int 0, .int 0, .ref kd, .ref dp, .ref cl, .ref sa, .ref ln, .ref bt, .ref pn, .ref bf]))]) (rest := []) hC hZ hl zc_X7_65 (co_fail g h0 st mk lk ch ru mr 0 0 5) [0] [1] rfl rfl (by decide) (ci := 6) (q0 := 0) rfl rfl rfl rfl (Nat.le_of_ble_eq_true rfl) ⟨⟨Nat.le_of_ble_eq_true rfl, Nat.le_of_ble_eq_true rfl⟩, Nat.le_of_ble_eq_true rfl, Nat.le_of_ble_eq_true rfl⟩ dX7_sort_13 (fun r4 u5 H locs hp hZ => ?_)
  obtain ⟨rfl, rfl⟩ := hp
  have hZ : zz_Z g A s.heap [(st, .inr (5, [.int 0, .int 0, .ref kd, .ref dp, .ref cl, .ref sa, .ref ln, .ref bt, .ref pn, .ref bf])), (h0, .inr (6, [.ref st, .ref mk, .ref lk, .ref ch, .ref ru, .ref mr, .int 0, .int 5]))] H locs := hZ
  exact zz_iret hC hZ (rfl) (Nat.le_of_ble_eq_true rfl) (Nat.le_of_ble_eq_true rfl) dX7_sort_16
theorem dX7_search_0 : decode cX7_search 0 = .ok (.aload_n 0, 1) := by decide +kernel
theorem dX7_search_1 : decode cX7_search 1 = .ok (.getfield 10, 3) := by decide +kernel
theorem dX7_search_4 : decode cX7_search 4 = .ok (.iload_n 1, 1) := by decide +kernel
theorem dX7_search_5 : decode cX7_search 5 = .ok (.invokevirtual 73, 3) := by decide +kernel
theorem dX7_search_8 : decode cX7_search 8 = .ok (.ifCond .ne 9, 3) := by decide +kernel
theorem dX7_search_11 : decode cX7_search 11 = .ok (.aload_n 0, 1) := by decide +kernel
theorem dX7_search_12 : decode cX7_search 12 = .ok (.iconst 5, 1) := by decide +kernel
theorem dX7_search_13 : decode cX7_search 13 = .ok (.invokevirtual 65, 3) := by decide +kernel
theorem dX7_search_16 : decode cX7_search 16 = .ok (.ireturn, 1) := by decide +kernel
def fn_cx_search  : Int32 := -5
abbrev rm_cx_search : Room := { frames := 1, cells := 0, slots := 0, locals := 21 }
abbrev po_cx_search (g : zz_G) (h0 : Nat) (st : Nat) (mk : Nat) (lk : Nat) (ch : Nat) (ru : Nat) (mr : Nat) (kd : Nat) (dp : Nat) (cl : Nat) (sa : Nat) (ln : Nat) (bt : Nat) (pn : Nat) (bf : Nat) (x1 : Int32) (x2 : Int64) : Int32 → va_W → Prop := fun (r : Int32) (u : va_W) => r = fn_cx_search
set_option maxHeartbeats 4000000 in
set_option maxRecDepth 100000 in
theorem cx_search (g : zz_G) (h0 : Nat) (st : Nat) (mk : Nat) (lk : Nat) (ch : Nat) (ru : Nat) (mr : Nat) (kd : Nat) (dp : Nat) (cl : Nat) (sa : Nat) (ln : Nat) (bt : Nat) (pn : Nat) (bf : Nat) (x1 : Int32) (x2 : Int64) : zz_I g yX7_search (.code yX7_search cX7_search 5 (some .int)) rm_cx_search [.ref h0, .int x1, .long x2] [(h0, .inr (6, [.ref st, .ref mk, .ref lk, .ref ch, .ref ru, .ref mr, .int 0, .int 0])), (st, .inr (5, [.int 0, .int 0, .ref kd, .ref dp, .ref cl, .ref sa, .ref ln, .ref bt, .ref pn, .ref bf]))] (po_cx_search g h0 st mk lk ch ru mr kd dp cl sa ln bt pn bf x1 x2) := by
  refine zz_I.intro (own := RX7) (cc := cX7_search) (nL := 5) (by decide) rfl (Nat.le_of_ble_eq_true rfl) ?_
  intro p l e s m args below meth c A H locs ls hC hnm hZ hl
  obtain ⟨hx, hb, hml, hown, hts, hr, hlocks, hK⟩ := id hC
  have hl : lv_has ls 5 [(0, .ref h0), (1, .int x1), (2, .long x2)] := hl
  have hZ : zz_Z g A s.heap [(h0, .inr (6, [.ref st, .ref mk, .ref lk, .ref ch, .ref ru, .ref mr, .int 0, .int 0])), (st, .inr (5, [.int 0, .int 0, .ref kd, .ref dp, .ref cl, .ref sa, .ref ln, .ref bt, .ref pn, .ref bf]))] H locs := hZ
  refine lv_aload_n hx hb dX7_search_0 rfl (lv_at hl 0 rfl) ?_
  refine zz_get hC hZ 0 rfl zf_X7_10 rfl dX7_search_1 ?_
  refine lv_iload_n hx hb dX7_search_4 rfl (lv_at hl 1 rfl) ?_
  refine zz_iV (As := [.int x1]) (wc := [(st, .inr (5, [.int 0, .int 0, .ref kd, .ref dp, .ref cl, .ref sa, .ref ln, .ref bt, .ref pn, .ref bf]))]) (wr := [(h0, .inr (6, [.ref st, .ref mk, .ref lk, .ref ch, .ref ru, .ref mr, .int 0, .int 0]))]) (rest := []) hC hZ hl zc_X7_73 (co_has0 g st kd dp cl sa ln bt pn bf x1) [1] [0] rfl rfl (by decide) (ci := 5) (q0 := 0) rfl rfl rfl rfl (Nat.le_of_ble_eq_true rfl) ⟨⟨Nat.le_of_ble_eq_true rfl, Nat.le_of_ble_eq_true rfl⟩, Nat.le_of_ble_eq_true rfl, Nat.le_of_ble_eq_true rfl⟩ dX7_search_5 (fun r1 u2 H locs hp hZ => ?_)
  obtain ⟨rfl, rfl⟩ := hp
  have hZ : zz_Z g A s.heap [(h0, .inr (6, [.ref st, .ref mk, .ref lk, .ref ch, .ref ru, .ref mr, .int 0, .int 0])), (st, .inr (5, [.int 0, .int 0, .ref kd, .ref dp, .ref cl, .ref sa, .ref ln, .ref bt, .ref pn, .ref bf]))] H locs := hZ
  refine lv_if_ne (tgt := 17) hx hb dX7_search_8 (by decide) (fun c => absurd (by decide) c) (fun c3 => ?_)
  refine lv_aload_n hx hb dX7_search_11 rfl (lv_at hl 0 rfl) ?_
  refine lv_iconst (v := 5) hx hb dX7_search_12 (by decide) ?_
  refine zz_iV (As := [.int 5]) (wc := [(h0, .inr (6, [.ref st, .ref mk, .ref lk, .ref ch, .ref ru, .ref mr, .int 0, .int 0]))]) (wr := [(st, .inr (5, [.int 0, .int 0, .ref kd, .ref dp, .ref cl, .ref sa, .ref ln, .ref bt, .ref pn, .ref bf]))]) (rest := []) hC hZ hl zc_X7_65 (co_fail g h0 st mk lk ch ru mr 0 0 5) [0] [1] rfl rfl (by decide) (ci := 6) (q0 := 0) rfl rfl rfl rfl (Nat.le_of_ble_eq_true rfl) ⟨⟨Nat.le_of_ble_eq_true rfl, Nat.le_of_ble_eq_true rfl⟩, Nat.le_of_ble_eq_true rfl, Nat.le_of_ble_eq_true rfl⟩ dX7_search_13 (fun r4 u5 H locs hp hZ => ?_)
  obtain ⟨rfl, rfl⟩ := hp
  have hZ : zz_Z g A s.heap [(st, .inr (5, [.int 0, .int 0, .ref kd, .ref dp, .ref cl, .ref sa, .ref ln, .ref bt, .ref pn, .ref bf])), (h0, .inr (6, [.ref st, .ref mk, .ref lk, .ref ch, .ref ru, .ref mr, .int 0, .int 5]))] H locs := hZ
  exact zz_iret hC hZ (rfl) (Nat.le_of_ble_eq_true rfl) (Nat.le_of_ble_eq_true rfl) dX7_search_16
theorem dX7_same_0 : decode cX7_same 0 = .ok (.aload_n 0, 1) := by decide +kernel
theorem dX7_same_1 : decode cX7_same 1 = .ok (.getfield 10, 3) := by decide +kernel
theorem dX7_same_4 : decode cX7_same 4 = .ok (.iload_n 1, 1) := by decide +kernel
theorem dX7_same_5 : decode cX7_same 5 = .ok (.invokevirtual 73, 3) := by decide +kernel
theorem dX7_same_8 : decode cX7_same 8 = .ok (.ifCond .eq 14, 3) := by decide +kernel
theorem dX7_same_22 : decode cX7_same 22 = .ok (.aload_n 0, 1) := by decide +kernel
theorem dX7_same_23 : decode cX7_same 23 = .ok (.iconst 5, 1) := by decide +kernel
theorem dX7_same_24 : decode cX7_same 24 = .ok (.invokevirtual 65, 3) := by decide +kernel
theorem dX7_same_27 : decode cX7_same 27 = .ok (.ireturn, 1) := by decide +kernel
def fn_cx_same  : Int32 := -5
abbrev rm_cx_same : Room := { frames := 1, cells := 0, slots := 0, locals := 21 }
abbrev po_cx_same (g : zz_G) (h0 : Nat) (st : Nat) (mk : Nat) (lk : Nat) (ch : Nat) (ru : Nat) (mr : Nat) (kd : Nat) (dp : Nat) (cl : Nat) (sa : Nat) (ln : Nat) (bt : Nat) (pn : Nat) (bf : Nat) (x1 : Int32) (x2 : Int32) : Int32 → va_W → Prop := fun (r : Int32) (u : va_W) => r = fn_cx_same
set_option maxHeartbeats 4000000 in
set_option maxRecDepth 100000 in
theorem cx_same (g : zz_G) (h0 : Nat) (st : Nat) (mk : Nat) (lk : Nat) (ch : Nat) (ru : Nat) (mr : Nat) (kd : Nat) (dp : Nat) (cl : Nat) (sa : Nat) (ln : Nat) (bt : Nat) (pn : Nat) (bf : Nat) (x1 : Int32) (x2 : Int32) : zz_I g yX7_same (.code yX7_same cX7_same 3 (some .int)) rm_cx_same [.ref h0, .int x1, .int x2] [(h0, .inr (6, [.ref st, .ref mk, .ref lk, .ref ch, .ref ru, .ref mr, .int 0, .int 0])), (st, .inr (5, [.int 0, .int 0, .ref kd, .ref dp, .ref cl, .ref sa, .ref ln, .ref bt, .ref pn, .ref bf]))] (po_cx_same g h0 st mk lk ch ru mr kd dp cl sa ln bt pn bf x1 x2) := by
  refine zz_I.intro (own := RX7) (cc := cX7_same) (nL := 3) (by decide) rfl (Nat.le_of_ble_eq_true rfl) ?_
  intro p l e s m args below meth c A H locs ls hC hnm hZ hl
  obtain ⟨hx, hb, hml, hown, hts, hr, hlocks, hK⟩ := id hC
  have hl : lv_has ls 3 [(0, .ref h0), (1, .int x1), (2, .int x2)] := hl
  have hZ : zz_Z g A s.heap [(h0, .inr (6, [.ref st, .ref mk, .ref lk, .ref ch, .ref ru, .ref mr, .int 0, .int 0])), (st, .inr (5, [.int 0, .int 0, .ref kd, .ref dp, .ref cl, .ref sa, .ref ln, .ref bt, .ref pn, .ref bf]))] H locs := hZ
  refine lv_aload_n hx hb dX7_same_0 rfl (lv_at hl 0 rfl) ?_
  refine zz_get hC hZ 0 rfl zf_X7_10 rfl dX7_same_1 ?_
  refine lv_iload_n hx hb dX7_same_4 rfl (lv_at hl 1 rfl) ?_
  refine zz_iV (As := [.int x1]) (wc := [(st, .inr (5, [.int 0, .int 0, .ref kd, .ref dp, .ref cl, .ref sa, .ref ln, .ref bt, .ref pn, .ref bf]))]) (wr := [(h0, .inr (6, [.ref st, .ref mk, .ref lk, .ref ch, .ref ru, .ref mr, .int 0, .int 0]))]) (rest := []) hC hZ hl zc_X7_73 (co_has0 g st kd dp cl sa ln bt pn bf x1) [1] [0] rfl rfl (by decide) (ci := 5) (q0 := 0) rfl rfl rfl rfl (Nat.le_of_ble_eq_true rfl) ⟨⟨Nat.le_of_ble_eq_true rfl, Nat.le_of_ble_eq_true rfl⟩, Nat.le_of_ble_eq_true rfl, Nat.le_of_ble_eq_true rfl⟩ dX7_same_5 (fun r1 u2 H locs hp hZ => ?_)
  obtain ⟨rfl, rfl⟩ := hp
  have hZ : zz_Z g A s.heap [(h0, .inr (6, [.ref st, .ref mk, .ref lk, .ref ch, .ref ru, .ref mr, .int 0, .int 0])), (st, .inr (5, [.int 0, .int 0, .ref kd, .ref dp, .ref cl, .ref sa, .ref ln, .ref bt, .ref pn, .ref bf]))] H locs := hZ
  refine lv_if_eq (tgt := 22) hx hb dX7_same_8 (by decide) (fun c3 => ?_) (fun c => absurd (by decide) c)
  refine lv_aload_n hx hb dX7_same_22 rfl (lv_at hl 0 rfl) ?_
  refine lv_iconst (v := 5) hx hb dX7_same_23 (by decide) ?_
  refine zz_iV (As := [.int 5]) (wc := [(h0, .inr (6, [.ref st, .ref mk, .ref lk, .ref ch, .ref ru, .ref mr, .int 0, .int 0]))]) (wr := [(st, .inr (5, [.int 0, .int 0, .ref kd, .ref dp, .ref cl, .ref sa, .ref ln, .ref bt, .ref pn, .ref bf]))]) (rest := []) hC hZ hl zc_X7_65 (co_fail g h0 st mk lk ch ru mr 0 0 5) [0] [1] rfl rfl (by decide) (ci := 6) (q0 := 0) rfl rfl rfl rfl (Nat.le_of_ble_eq_true rfl) ⟨⟨Nat.le_of_ble_eq_true rfl, Nat.le_of_ble_eq_true rfl⟩, Nat.le_of_ble_eq_true rfl, Nat.le_of_ble_eq_true rfl⟩ dX7_same_24 (fun r4 u5 H locs hp hZ => ?_)
  obtain ⟨rfl, rfl⟩ := hp
  have hZ : zz_Z g A s.heap [(st, .inr (5, [.int 0, .int 0, .ref kd, .ref dp, .ref cl, .ref sa, .ref ln, .ref bt, .ref pn, .ref bf])), (h0, .inr (6, [.ref st, .ref mk, .ref lk, .ref ch, .ref ru, .ref mr, .int 0, .int 5]))] H locs := hZ
  exact zz_iret hC hZ (rfl) (Nat.le_of_ble_eq_true rfl) (Nat.le_of_ble_eq_true rfl) dX7_same_27
theorem dX7_hash_0 : decode cX7_hash 0 = .ok (.aload_n 0, 1) := by decide +kernel
theorem dX7_hash_1 : decode cX7_hash 1 = .ok (.getfield 10, 3) := by decide +kernel
theorem dX7_hash_4 : decode cX7_hash 4 = .ok (.iload_n 1, 1) := by decide +kernel
theorem dX7_hash_5 : decode cX7_hash 5 = .ok (.invokevirtual 73, 3) := by decide +kernel
theorem dX7_hash_8 : decode cX7_hash 8 = .ok (.ifCond .ne 10, 3) := by decide +kernel
theorem dX7_hash_11 : decode cX7_hash 11 = .ok (.aload_n 0, 1) := by decide +kernel
theorem dX7_hash_12 : decode cX7_hash 12 = .ok (.iconst 5, 1) := by decide +kernel
theorem dX7_hash_13 : decode cX7_hash 13 = .ok (.putfield 56, 3) := by decide +kernel
theorem dX7_hash_16 : decode cX7_hash 16 = .ok (.iconst 0, 1) := by decide +kernel
theorem dX7_hash_17 : decode cX7_hash 17 = .ok (.ireturn, 1) := by decide +kernel
def fn_cx_hash  : Int32 := 0
abbrev rm_cx_hash : Room := { frames := 1, cells := 0, slots := 0, locals := 21 }
abbrev po_cx_hash (g : zz_G) (h0 : Nat) (st : Nat) (mk : Nat) (lk : Nat) (ch : Nat) (ru : Nat) (mr : Nat) (kd : Nat) (dp : Nat) (cl : Nat) (sa : Nat) (ln : Nat) (bt : Nat) (pn : Nat) (bf : Nat) (x1 : Int32) : Int32 → va_W → Prop := fun (r : Int32) (u : va_W) => r = fn_cx_hash
set_option maxHeartbeats 4000000 in
set_option maxRecDepth 100000 in
theorem cx_hash (g : zz_G) (h0 : Nat) (st : Nat) (mk : Nat) (lk : Nat) (ch : Nat) (ru : Nat) (mr : Nat) (kd : Nat) (dp : Nat) (cl : Nat) (sa : Nat) (ln : Nat) (bt : Nat) (pn : Nat) (bf : Nat) (x1 : Int32) : zz_I g yX7_hash (.code yX7_hash cX7_hash 2 (some .int)) rm_cx_hash [.ref h0, .int x1] [(h0, .inr (6, [.ref st, .ref mk, .ref lk, .ref ch, .ref ru, .ref mr, .int 0, .int 0])), (st, .inr (5, [.int 0, .int 0, .ref kd, .ref dp, .ref cl, .ref sa, .ref ln, .ref bt, .ref pn, .ref bf]))] (po_cx_hash g h0 st mk lk ch ru mr kd dp cl sa ln bt pn bf x1) := by
  refine zz_I.intro (own := RX7) (cc := cX7_hash) (nL := 2) (by decide) rfl (Nat.le_of_ble_eq_true rfl) ?_
  intro p l e s m args below meth c A H locs ls hC hnm hZ hl
  obtain ⟨hx, hb, hml, hown, hts, hr, hlocks, hK⟩ := id hC
  have hl : lv_has ls 2 [(0, .ref h0), (1, .int x1)] := hl
  have hZ : zz_Z g A s.heap [(h0, .inr (6, [.ref st, .ref mk, .ref lk, .ref ch, .ref ru, .ref mr, .int 0, .int 0])), (st, .inr (5, [.int 0, .int 0, .ref kd, .ref dp, .ref cl, .ref sa, .ref ln, .ref bt, .ref pn, .ref bf]))] H locs := hZ
  refine lv_aload_n hx hb dX7_hash_0 rfl (lv_at hl 0 rfl) ?_
  refine zz_get hC hZ 0 rfl zf_X7_10 rfl dX7_hash_1 ?_
  refine lv_iload_n hx hb dX7_hash_4 rfl (lv_at hl 1 rfl) ?_
  refine zz_iV (As := [.int x1]) (wc := [(st, .inr (5, [.int 0, .int 0, .ref kd, .ref dp, .ref cl, .ref sa, .ref ln, .ref bt, .ref pn, .ref bf]))]) (wr := [(h0, .inr (6, [.ref st, .ref mk, .ref lk, .ref ch, .ref ru, .ref mr, .int 0, .int 0]))]) (rest := []) hC hZ hl zc_X7_73 (co_has0 g st kd dp cl sa ln bt pn bf x1) [1] [0] rfl rfl (by decide) (ci := 5) (q0 := 0) rfl rfl rfl rfl (Nat.le_of_ble_eq_true rfl) ⟨⟨Nat.le_of_ble_eq_true rfl, Nat.le_of_ble_eq_true rfl⟩, Nat.le_of_ble_eq_true rfl, Nat.le_of_ble_eq_true rfl⟩ dX7_hash_5 (fun r1 u2 H locs hp hZ => ?_)
  obtain ⟨rfl, rfl⟩ := hp
  have hZ : zz_Z g A s.heap [(h0, .inr (6, [.ref st, .ref mk, .ref lk, .ref ch, .ref ru, .ref mr, .int 0, .int 0])), (st, .inr (5, [.int 0, .int 0, .ref kd, .ref dp, .ref cl, .ref sa, .ref ln, .ref bt, .ref pn, .ref bf]))] H locs := hZ
  refine lv_if_ne (tgt := 18) hx hb dX7_hash_8 (by decide) (fun c => absurd (by decide) c) (fun c3 => ?_)
  refine lv_aload_n hx hb dX7_hash_11 rfl (lv_at hl 0 rfl) ?_
  refine lv_iconst (v := 5) hx hb dX7_hash_12 (by decide) ?_
  refine zz_put hC hZ 0 rfl zu_X7_56 (Nat.le_of_ble_eq_true rfl) dX7_hash_13 (fun H locs hZ => ?_)
  have hZ : zz_Z g A s.heap [(h0, .inr (6, [.ref st, .ref mk, .ref lk, .ref ch, .ref ru, .ref mr, .int 0, .int 5])), (st, .inr (5, [.int 0, .int 0, .ref kd, .ref dp, .ref cl, .ref sa, .ref ln, .ref bt, .ref pn, .ref bf]))] H locs := hZ
  refine lv_iconst (v := 0) hx hb dX7_hash_16 (by decide) ?_
  exact zz_iret hC hZ (rfl) (Nat.le_of_ble_eq_true rfl) (Nat.le_of_ble_eq_true rfl) dX7_hash_17
theorem dX7_decide_0 : decode cX7_decide 0 = .ok (.aload_n 0, 1) := by decide +kernel
theorem dX7_decide_1 : decode cX7_decide 1 = .ok (.getfield 10, 3) := by decide +kernel
theorem dX7_decide_4 : decode cX7_decide 4 = .ok (.iload_n 1, 1) := by decide +kernel
theorem dX7_decide_5 : decode cX7_decide 5 = .ok (.invokevirtual 73, 3) := by decide +kernel
theorem dX7_decide_8 : decode cX7_decide 8 = .ok (.ifCond .ne 9, 3) := by decide +kernel
theorem dX7_decide_11 : decode cX7_decide 11 = .ok (.aload_n 0, 1) := by decide +kernel
theorem dX7_decide_12 : decode cX7_decide 12 = .ok (.iconst 5, 1) := by decide +kernel
theorem dX7_decide_13 : decode cX7_decide 13 = .ok (.invokevirtual 65, 3) := by decide +kernel
theorem dX7_decide_16 : decode cX7_decide 16 = .ok (.ireturn, 1) := by decide +kernel
def fn_cx_decide  : Int32 := -5
abbrev rm_cx_decide : Room := { frames := 1, cells := 0, slots := 0, locals := 21 }
abbrev po_cx_decide (g : zz_G) (h0 : Nat) (st : Nat) (mk : Nat) (lk : Nat) (ch : Nat) (ru : Nat) (mr : Nat) (kd : Nat) (dp : Nat) (cl : Nat) (sa : Nat) (ln : Nat) (bt : Nat) (pn : Nat) (bf : Nat) (x1 : Int32) (x2 : Int32) (x3 : Int32) (x4 : Int32) (x5 : Int32) : Int32 → va_W → Prop := fun (r : Int32) (u : va_W) => r = fn_cx_decide
set_option maxHeartbeats 4000000 in
set_option maxRecDepth 100000 in
theorem cx_decide (g : zz_G) (h0 : Nat) (st : Nat) (mk : Nat) (lk : Nat) (ch : Nat) (ru : Nat) (mr : Nat) (kd : Nat) (dp : Nat) (cl : Nat) (sa : Nat) (ln : Nat) (bt : Nat) (pn : Nat) (bf : Nat) (x1 : Int32) (x2 : Int32) (x3 : Int32) (x4 : Int32) (x5 : Int32) : zz_I g yX7_decide (.code yX7_decide cX7_decide 8 (some .int)) rm_cx_decide [.ref h0, .int x1, .int x2, .int x3, .int x4, .int x5] [(h0, .inr (6, [.ref st, .ref mk, .ref lk, .ref ch, .ref ru, .ref mr, .int 0, .int 0])), (st, .inr (5, [.int 0, .int 0, .ref kd, .ref dp, .ref cl, .ref sa, .ref ln, .ref bt, .ref pn, .ref bf]))] (po_cx_decide g h0 st mk lk ch ru mr kd dp cl sa ln bt pn bf x1 x2 x3 x4 x5) := by
  refine zz_I.intro (own := RX7) (cc := cX7_decide) (nL := 8) (by decide) rfl (Nat.le_of_ble_eq_true rfl) ?_
  intro p l e s m args below meth c A H locs ls hC hnm hZ hl
  obtain ⟨hx, hb, hml, hown, hts, hr, hlocks, hK⟩ := id hC
  have hl : lv_has ls 8 [(0, .ref h0), (1, .int x1), (2, .int x2), (3, .int x3), (4, .int x4), (5, .int x5)] := hl
  have hZ : zz_Z g A s.heap [(h0, .inr (6, [.ref st, .ref mk, .ref lk, .ref ch, .ref ru, .ref mr, .int 0, .int 0])), (st, .inr (5, [.int 0, .int 0, .ref kd, .ref dp, .ref cl, .ref sa, .ref ln, .ref bt, .ref pn, .ref bf]))] H locs := hZ
  refine lv_aload_n hx hb dX7_decide_0 rfl (lv_at hl 0 rfl) ?_
  refine zz_get hC hZ 0 rfl zf_X7_10 rfl dX7_decide_1 ?_
  refine lv_iload_n hx hb dX7_decide_4 rfl (lv_at hl 1 rfl) ?_
  refine zz_iV (As := [.int x1]) (wc := [(st, .inr (5, [.int 0, .int 0, .ref kd, .ref dp, .ref cl, .ref sa, .ref ln, .ref bt, .ref pn, .ref bf]))]) (wr := [(h0, .inr (6, [.ref st, .ref mk, .ref lk, .ref ch, .ref ru, .ref mr, .int 0, .int 0]))]) (rest := []) hC hZ hl zc_X7_73 (co_has0 g st kd dp cl sa ln bt pn bf x1) [1] [0] rfl rfl (by decide) (ci := 5) (q0 := 0) rfl rfl rfl rfl (Nat.le_of_ble_eq_true rfl) ⟨⟨Nat.le_of_ble_eq_true rfl, Nat.le_of_ble_eq_true rfl⟩, Nat.le_of_ble_eq_true rfl, Nat.le_of_ble_eq_true rfl⟩ dX7_decide_5 (fun r1 u2 H locs hp hZ => ?_)
  obtain ⟨rfl, rfl⟩ := hp
  have hZ : zz_Z g A s.heap [(h0, .inr (6, [.ref st, .ref mk, .ref lk, .ref ch, .ref ru, .ref mr, .int 0, .int 0])), (st, .inr (5, [.int 0, .int 0, .ref kd, .ref dp, .ref cl, .ref sa, .ref ln, .ref bt, .ref pn, .ref bf]))] H locs := hZ
  refine lv_if_ne (tgt := 17) hx hb dX7_decide_8 (by decide) (fun c => absurd (by decide) c) (fun c3 => ?_)
  refine lv_aload_n hx hb dX7_decide_11 rfl (lv_at hl 0 rfl) ?_
  refine lv_iconst (v := 5) hx hb dX7_decide_12 (by decide) ?_
  refine zz_iV (As := [.int 5]) (wc := [(h0, .inr (6, [.ref st, .ref mk, .ref lk, .ref ch, .ref ru, .ref mr, .int 0, .int 0]))]) (wr := [(st, .inr (5, [.int 0, .int 0, .ref kd, .ref dp, .ref cl, .ref sa, .ref ln, .ref bt, .ref pn, .ref bf]))]) (rest := []) hC hZ hl zc_X7_65 (co_fail g h0 st mk lk ch ru mr 0 0 5) [0] [1] rfl rfl (by decide) (ci := 6) (q0 := 0) rfl rfl rfl rfl (Nat.le_of_ble_eq_true rfl) ⟨⟨Nat.le_of_ble_eq_true rfl, Nat.le_of_ble_eq_true rfl⟩, Nat.le_of_ble_eq_true rfl, Nat.le_of_ble_eq_true rfl⟩ dX7_decide_13 (fun r4 u5 H locs hp hZ => ?_)
  obtain ⟨rfl, rfl⟩ := hp
  have hZ : zz_Z g A s.heap [(st, .inr (5, [.int 0, .int 0, .ref kd, .ref dp, .ref cl, .ref sa, .ref ln, .ref bt, .ref pn, .ref bf])), (h0, .inr (6, [.ref st, .ref mk, .ref lk, .ref ch, .ref ru, .ref mr, .int 0, .int 5]))] H locs := hZ
  exact zz_iret hC hZ (rfl) (Nat.le_of_ble_eq_true rfl) (Nat.le_of_ble_eq_true rfl) dX7_decide_16
theorem dX7_candidate_0 : decode cX7_candidate 0 = .ok (.aload_n 0, 1) := by decide +kernel
theorem dX7_candidate_1 : decode cX7_candidate 1 = .ok (.getfield 35, 3) := by decide +kernel
theorem zf_X7_35 : zz_f RX7 35 6 3 := ⟨RX7, TX7, 8, rfl, zi_X7, by decide, zk_203⟩
theorem dX7_candidate_4 : decode cX7_candidate 4 = .ok (.iload_n 1, 1) := by decide +kernel
theorem dX7_candidate_5 : decode cX7_candidate 5 = .ok (.invokevirtual 218, 3) := by decide +kernel
theorem zk_546 : Cond.methodLink RX7 218 yX0_has ∈ zz_w := zz_in (List.mem_append_right _ (List.mem_append_right _ (List.mem_append_right _ (List.mem_append_left _ (List.mem_of_getElem? (i := 66) (by decide +kernel)))))) rfl
theorem zc_X7_218 : zz_cV RX7 218 yX0_has cX0_has 2 (some .boolean) 1 := ⟨⟨zk_546, zk_549, zk_5, by decide, by decide, by decide +kernel⟩, zk_547, zk_548⟩
theorem dX7_candidate_8 : decode cX7_candidate 8 = .ok (.ifCond .ne 10, 3) := by decide +kernel
theorem dX7_candidate_11 : decode cX7_candidate 11 = .ok (.aload_n 0, 1) := by decide +kernel
theorem dX7_candidate_12 : decode cX7_candidate 12 = .ok (.bipush 9, 2) := by decide +kernel
theorem dX7_candidate_14 : decode cX7_candidate 14 = .ok (.invokevirtual 65, 3) := by decide +kernel
theorem dX7_candidate_17 : decode cX7_candidate 17 = .ok (.ireturn, 1) := by decide +kernel
def fn_cx_candidate  : Int32 := -9
abbrev rm_cx_candidate : Room := { frames := 1, cells := 0, slots := 0, locals := 21 }
abbrev po_cx_candidate (g : zz_G) (h0 : Nat) (st : Nat) (mk : Nat) (lk : Nat) (ch : Nat) (ru : Nat) (mr : Nat) (c_pl : Nat) (c_sl : Nat) (c_co : Nat) (c_ca : Nat) (c_tu : Nat) (x1 : Int32) (x2 : Int64) : Int32 → va_W → Prop := fun (r : Int32) (u : va_W) => r = fn_cx_candidate
set_option maxHeartbeats 4000000 in
set_option maxRecDepth 100000 in
theorem cx_candidate (g : zz_G) (h0 : Nat) (st : Nat) (mk : Nat) (lk : Nat) (ch : Nat) (ru : Nat) (mr : Nat) (c_pl : Nat) (c_sl : Nat) (c_co : Nat) (c_ca : Nat) (c_tu : Nat) (x1 : Int32) (x2 : Int64) : zz_I g yX7_candidate (.code yX7_candidate cX7_candidate 7 (some .int)) rm_cx_candidate [.ref h0, .int x1, .long x2] [(h0, .inr (6, [.ref st, .ref mk, .ref lk, .ref ch, .ref ru, .ref mr, .int 0, .int 0])), (ch, .inr (0, [.ref st, .int 0, .ref c_pl, .ref c_sl, .ref c_co, .ref c_ca, .ref c_tu]))] (po_cx_candidate g h0 st mk lk ch ru mr c_pl c_sl c_co c_ca c_tu x1 x2) := by
  refine zz_I.intro (own := RX7) (cc := cX7_candidate) (nL := 7) (by decide) rfl (Nat.le_of_ble_eq_true rfl) ?_
  intro p l e s m args below meth c A H locs ls hC hnm hZ hl
  obtain ⟨hx, hb, hml, hown, hts, hr, hlocks, hK⟩ := id hC
  have hl : lv_has ls 7 [(0, .ref h0), (1, .int x1), (2, .long x2)] := hl
  have hZ : zz_Z g A s.heap [(h0, .inr (6, [.ref st, .ref mk, .ref lk, .ref ch, .ref ru, .ref mr, .int 0, .int 0])), (ch, .inr (0, [.ref st, .int 0, .ref c_pl, .ref c_sl, .ref c_co, .ref c_ca, .ref c_tu]))] H locs := hZ
  refine lv_aload_n hx hb dX7_candidate_0 rfl (lv_at hl 0 rfl) ?_
  refine zz_get hC hZ 0 rfl zf_X7_35 rfl dX7_candidate_1 ?_
  refine lv_iload_n hx hb dX7_candidate_4 rfl (lv_at hl 1 rfl) ?_
  refine zz_iV (As := [.int x1]) (wc := [(ch, .inr (0, [.ref st, .int 0, .ref c_pl, .ref c_sl, .ref c_co, .ref c_ca, .ref c_tu]))]) (wr := [(h0, .inr (6, [.ref st, .ref mk, .ref lk, .ref ch, .ref ru, .ref mr, .int 0, .int 0]))]) (rest := []) hC hZ hl zc_X7_218 (co_chas0 g st ch c_pl c_sl c_co c_ca c_tu x1) [1] [0] rfl rfl (by decide) (ci := 0) (q0 := 0) rfl rfl rfl rfl (Nat.le_of_ble_eq_true rfl) ⟨⟨Nat.le_of_ble_eq_true rfl, Nat.le_of_ble_eq_true rfl⟩, Nat.le_of_ble_eq_true rfl, Nat.le_of_ble_eq_true rfl⟩ dX7_candidate_5 (fun r1 u2 H locs hp hZ => ?_)
  obtain ⟨rfl, rfl⟩ := hp
  have hZ : zz_Z g A s.heap [(h0, .inr (6, [.ref st, .ref mk, .ref lk, .ref ch, .ref ru, .ref mr, .int 0, .int 0])), (ch, .inr (0, [.ref st, .int 0, .ref c_pl, .ref c_sl, .ref c_co, .ref c_ca, .ref c_tu]))] H locs := hZ
  refine lv_if_ne (tgt := 18) hx hb dX7_candidate_8 (by decide) (fun c => absurd (by decide) c) (fun c3 => ?_)
  refine lv_aload_n hx hb dX7_candidate_11 rfl (lv_at hl 0 rfl) ?_
  refine lv_bipush (v := 9) hx hb dX7_candidate_12 (by decide) ?_
  refine zz_iV (As := [.int 9]) (wc := [(h0, .inr (6, [.ref st, .ref mk, .ref lk, .ref ch, .ref ru, .ref mr, .int 0, .int 0]))]) (wr := [(ch, .inr (0, [.ref st, .int 0, .ref c_pl, .ref c_sl, .ref c_co, .ref c_ca, .ref c_tu]))]) (rest := []) hC hZ hl zc_X7_65 (co_fail g h0 st mk lk ch ru mr 0 0 9) [0] [1] rfl rfl (by decide) (ci := 6) (q0 := 0) rfl rfl rfl rfl (Nat.le_of_ble_eq_true rfl) ⟨⟨Nat.le_of_ble_eq_true rfl, Nat.le_of_ble_eq_true rfl⟩, Nat.le_of_ble_eq_true rfl, Nat.le_of_ble_eq_true rfl⟩ dX7_candidate_14 (fun r4 u5 H locs hp hZ => ?_)
  obtain ⟨rfl, rfl⟩ := hp
  have hZ : zz_Z g A s.heap [(ch, .inr (0, [.ref st, .int 0, .ref c_pl, .ref c_sl, .ref c_co, .ref c_ca, .ref c_tu])), (h0, .inr (6, [.ref st, .ref mk, .ref lk, .ref ch, .ref ru, .ref mr, .int 0, .int 9]))] H locs := hZ
  exact zz_iret hC hZ (rfl) (Nat.le_of_ble_eq_true rfl) (Nat.le_of_ble_eq_true rfl) dX7_candidate_17
theorem dX7_span_0 : decode cX7_span 0 = .ok (.aload_n 0, 1) := by decide +kernel
theorem dX7_span_1 : decode cX7_span 1 = .ok (.getfield 35, 3) := by decide +kernel
theorem dX7_span_4 : decode cX7_span 4 = .ok (.iload_n 1, 1) := by decide +kernel
theorem dX7_span_5 : decode cX7_span 5 = .ok (.invokevirtual 218, 3) := by decide +kernel
theorem dX7_span_8 : decode cX7_span 8 = .ok (.ifCond .eq 10, 3) := by decide +kernel
theorem dX7_span_18 : decode cX7_span 18 = .ok (.aload_n 0, 1) := by decide +kernel
theorem dX7_span_19 : decode cX7_span 19 = .ok (.bipush 9, 2) := by decide +kernel
theorem dX7_span_21 : decode cX7_span 21 = .ok (.invokevirtual 65, 3) := by decide +kernel
theorem dX7_span_24 : decode cX7_span 24 = .ok (.ireturn, 1) := by decide +kernel
def fn_cx_span  : Int32 := -9
abbrev rm_cx_span : Room := { frames := 1, cells := 0, slots := 0, locals := 21 }
abbrev po_cx_span (g : zz_G) (h0 : Nat) (st : Nat) (mk : Nat) (lk : Nat) (ch : Nat) (ru : Nat) (mr : Nat) (c_pl : Nat) (c_sl : Nat) (c_co : Nat) (c_ca : Nat) (c_tu : Nat) (x1 : Int32) (x2 : Int64) (x3 : Int64) (x4 : Int64) : Int32 → va_W → Prop := fun (r : Int32) (u : va_W) => r = fn_cx_span
set_option maxHeartbeats 4000000 in
set_option maxRecDepth 100000 in
theorem cx_span (g : zz_G) (h0 : Nat) (st : Nat) (mk : Nat) (lk : Nat) (ch : Nat) (ru : Nat) (mr : Nat) (c_pl : Nat) (c_sl : Nat) (c_co : Nat) (c_ca : Nat) (c_tu : Nat) (x1 : Int32) (x2 : Int64) (x3 : Int64) (x4 : Int64) : zz_I g yX7_span (.code yX7_span cX7_span 10 (some .int)) rm_cx_span [.ref h0, .int x1, .long x2, .long x3, .long x4] [(h0, .inr (6, [.ref st, .ref mk, .ref lk, .ref ch, .ref ru, .ref mr, .int 0, .int 0])), (ch, .inr (0, [.ref st, .int 0, .ref c_pl, .ref c_sl, .ref c_co, .ref c_ca, .ref c_tu]))] (po_cx_span g h0 st mk lk ch ru mr c_pl c_sl c_co c_ca c_tu x1 x2 x3 x4) := by
  refine zz_I.intro (own := RX7) (cc := cX7_span) (nL := 10) (by decide) rfl (Nat.le_of_ble_eq_true rfl) ?_
  intro p l e s m args below meth c A H locs ls hC hnm hZ hl
  obtain ⟨hx, hb, hml, hown, hts, hr, hlocks, hK⟩ := id hC
  have hl : lv_has ls 10 [(0, .ref h0), (1, .int x1), (2, .long x2), (4, .long x3), (6, .long x4)] := hl
  have hZ : zz_Z g A s.heap [(h0, .inr (6, [.ref st, .ref mk, .ref lk, .ref ch, .ref ru, .ref mr, .int 0, .int 0])), (ch, .inr (0, [.ref st, .int 0, .ref c_pl, .ref c_sl, .ref c_co, .ref c_ca, .ref c_tu]))] H locs := hZ
  refine lv_aload_n hx hb dX7_span_0 rfl (lv_at hl 0 rfl) ?_
  refine zz_get hC hZ 0 rfl zf_X7_35 rfl dX7_span_1 ?_
  refine lv_iload_n hx hb dX7_span_4 rfl (lv_at hl 1 rfl) ?_
  refine zz_iV (As := [.int x1]) (wc := [(ch, .inr (0, [.ref st, .int 0, .ref c_pl, .ref c_sl, .ref c_co, .ref c_ca, .ref c_tu]))]) (wr := [(h0, .inr (6, [.ref st, .ref mk, .ref lk, .ref ch, .ref ru, .ref mr, .int 0, .int 0]))]) (rest := []) hC hZ hl zc_X7_218 (co_chas0 g st ch c_pl c_sl c_co c_ca c_tu x1) [1] [0] rfl rfl (by decide) (ci := 0) (q0 := 0) rfl rfl rfl rfl (Nat.le_of_ble_eq_true rfl) ⟨⟨Nat.le_of_ble_eq_true rfl, Nat.le_of_ble_eq_true rfl⟩, Nat.le_of_ble_eq_true rfl, Nat.le_of_ble_eq_true rfl⟩ dX7_span_5 (fun r1 u2 H locs hp hZ => ?_)
  obtain ⟨rfl, rfl⟩ := hp
  have hZ : zz_Z g A s.heap [(h0, .inr (6, [.ref st, .ref mk, .ref lk, .ref ch, .ref ru, .ref mr, .int 0, .int 0])), (ch, .inr (0, [.ref st, .int 0, .ref c_pl, .ref c_sl, .ref c_co, .ref c_ca, .ref c_tu]))] H locs := hZ
  refine lv_if_eq (tgt := 18) hx hb dX7_span_8 (by decide) (fun c3 => ?_) (fun c => absurd (by decide) c)
  refine lv_aload_n hx hb dX7_span_18 rfl (lv_at hl 0 rfl) ?_
  refine lv_bipush (v := 9) hx hb dX7_span_19 (by decide) ?_
  refine zz_iV (As := [.int 9]) (wc := [(h0, .inr (6, [.ref st, .ref mk, .ref lk, .ref ch, .ref ru, .ref mr, .int 0, .int 0]))]) (wr := [(ch, .inr (0, [.ref st, .int 0, .ref c_pl, .ref c_sl, .ref c_co, .ref c_ca, .ref c_tu]))]) (rest := []) hC hZ hl zc_X7_65 (co_fail g h0 st mk lk ch ru mr 0 0 9) [0] [1] rfl rfl (by decide) (ci := 6) (q0 := 0) rfl rfl rfl rfl (Nat.le_of_ble_eq_true rfl) ⟨⟨Nat.le_of_ble_eq_true rfl, Nat.le_of_ble_eq_true rfl⟩, Nat.le_of_ble_eq_true rfl, Nat.le_of_ble_eq_true rfl⟩ dX7_span_21 (fun r4 u5 H locs hp hZ => ?_)
  obtain ⟨rfl, rfl⟩ := hp
  have hZ : zz_Z g A s.heap [(ch, .inr (0, [.ref st, .int 0, .ref c_pl, .ref c_sl, .ref c_co, .ref c_ca, .ref c_tu])), (h0, .inr (6, [.ref st, .ref mk, .ref lk, .ref ch, .ref ru, .ref mr, .int 0, .int 9]))] H locs := hZ
  exact zz_iret hC hZ (rfl) (Nat.le_of_ble_eq_true rfl) (Nat.le_of_ble_eq_true rfl) dX7_span_24
theorem dX7_choose_0 : decode cX7_choose 0 = .ok (.aload_n 0, 1) := by decide +kernel
theorem dX7_choose_1 : decode cX7_choose 1 = .ok (.getfield 35, 3) := by decide +kernel
theorem dX7_choose_4 : decode cX7_choose 4 = .ok (.iload_n 1, 1) := by decide +kernel
theorem dX7_choose_5 : decode cX7_choose 5 = .ok (.iload_n 2, 1) := by decide +kernel
theorem dX7_choose_6 : decode cX7_choose 6 = .ok (.invokevirtual 242, 3) := by decide +kernel
theorem zk_586 : Cond.methodLink RX7 242 yX0_hasCandidate ∈ zz_w := zz_in (List.mem_append_right _ (List.mem_append_right _ (List.mem_append_right _ (List.mem_append_left _ (List.mem_of_getElem? (i := 106) (by decide +kernel)))))) rfl
set_option maxRecDepth 20000 in
theorem zk_589 : Cond.code yX0_hasCandidate cX0_hasCandidate 3 (some .boolean) ∈ zz_w := zz_in (List.mem_append_right _ (List.mem_append_right _ (List.mem_append_right _ (List.mem_append_left _ (List.mem_of_getElem? (i := 109) (rfl)))))) rfl
theorem zk_587 : Cond.instanceMethod yX0_hasCandidate ∈ zz_w := zz_in (List.mem_append_right _ (List.mem_append_right _ (List.mem_append_right _ (List.mem_append_left _ (List.mem_of_getElem? (i := 107) (by decide +kernel)))))) rfl
theorem zk_588 : Cond.selects RX0 yX0_hasCandidate yX0_hasCandidate ∈ zz_w := zz_in (List.mem_append_right _ (List.mem_append_right _ (List.mem_append_right _ (List.mem_append_left _ (List.mem_of_getElem? (i := 108) (by decide +kernel)))))) rfl
theorem zc_X7_242 : zz_cV RX7 242 yX0_hasCandidate cX0_hasCandidate 3 (some .boolean) 2 := ⟨⟨zk_586, zk_589, zk_5, by decide, by decide, by decide +kernel⟩, zk_587, zk_588⟩
theorem dX7_choose_9 : decode cX7_choose 9 = .ok (.ifCond .ne 10, 3) := by decide +kernel
theorem dX7_choose_12 : decode cX7_choose 12 = .ok (.aload_n 0, 1) := by decide +kernel
theorem dX7_choose_13 : decode cX7_choose 13 = .ok (.bipush 9, 2) := by decide +kernel
theorem dX7_choose_15 : decode cX7_choose 15 = .ok (.invokevirtual 65, 3) := by decide +kernel
theorem dX7_choose_18 : decode cX7_choose 18 = .ok (.ireturn, 1) := by decide +kernel
def fn_cx_choose  : Int32 := -9
abbrev rm_cx_choose : Room := { frames := 2, cells := 0, slots := 0, locals := 43 }
abbrev po_cx_choose (g : zz_G) (h0 : Nat) (st : Nat) (mk : Nat) (lk : Nat) (ch : Nat) (ru : Nat) (mr : Nat) (c_pl : Nat) (c_sl : Nat) (c_co : Nat) (c_ca : Nat) (c_tu : Nat) (x1 : Int32) (x2 : Int32) : Int32 → va_W → Prop := fun (r : Int32) (u : va_W) => r = fn_cx_choose
set_option maxHeartbeats 4000000 in
set_option maxRecDepth 100000 in
theorem cx_choose (g : zz_G) (h0 : Nat) (st : Nat) (mk : Nat) (lk : Nat) (ch : Nat) (ru : Nat) (mr : Nat) (c_pl : Nat) (c_sl : Nat) (c_co : Nat) (c_ca : Nat) (c_tu : Nat) (x1 : Int32) (x2 : Int32) : zz_I g yX7_choose (.code yX7_choose cX7_choose 3 (some .int)) rm_cx_choose [.ref h0, .int x1, .int x2] [(h0, .inr (6, [.ref st, .ref mk, .ref lk, .ref ch, .ref ru, .ref mr, .int 0, .int 0])), (ch, .inr (0, [.ref st, .int 0, .ref c_pl, .ref c_sl, .ref c_co, .ref c_ca, .ref c_tu]))] (po_cx_choose g h0 st mk lk ch ru mr c_pl c_sl c_co c_ca c_tu x1 x2) := by
  refine zz_I.intro (own := RX7) (cc := cX7_choose) (nL := 3) (by decide) rfl (Nat.le_of_ble_eq_true rfl) ?_
  intro p l e s m args below meth c A H locs ls hC hnm hZ hl
  obtain ⟨hx, hb, hml, hown, hts, hr, hlocks, hK⟩ := id hC
  have hl : lv_has ls 3 [(0, .ref h0), (1, .int x1), (2, .int x2)] := hl
  have hZ : zz_Z g A s.heap [(h0, .inr (6, [.ref st, .ref mk, .ref lk, .ref ch, .ref ru, .ref mr, .int 0, .int 0])), (ch, .inr (0, [.ref st, .int 0, .ref c_pl, .ref c_sl, .ref c_co, .ref c_ca, .ref c_tu]))] H locs := hZ
  refine lv_aload_n hx hb dX7_choose_0 rfl (lv_at hl 0 rfl) ?_
  refine zz_get hC hZ 0 rfl zf_X7_35 rfl dX7_choose_1 ?_
  refine lv_iload_n hx hb dX7_choose_4 rfl (lv_at hl 1 rfl) ?_
  refine lv_iload_n hx hb dX7_choose_5 rfl (lv_at hl 2 rfl) ?_
  refine zz_iV (As := [.int x1, .int x2]) (wc := [(ch, .inr (0, [.ref st, .int 0, .ref c_pl, .ref c_sl, .ref c_co, .ref c_ca, .ref c_tu]))]) (wr := [(h0, .inr (6, [.ref st, .ref mk, .ref lk, .ref ch, .ref ru, .ref mr, .int 0, .int 0]))]) (rest := []) hC hZ hl zc_X7_242 (co_hasCand0 g st ch c_pl c_sl c_co c_ca c_tu x1 x2) [1] [0] rfl rfl (by decide) (ci := 0) (q0 := 0) rfl rfl rfl rfl (Nat.le_of_ble_eq_true rfl) ⟨⟨Nat.le_of_ble_eq_true rfl, Nat.le_of_ble_eq_true rfl⟩, Nat.le_of_ble_eq_true rfl, Nat.le_of_ble_eq_true rfl⟩ dX7_choose_6 (fun r1 u2 H locs hp hZ => ?_)
  obtain ⟨rfl, rfl⟩ := hp
  have hZ : zz_Z g A s.heap [(h0, .inr (6, [.ref st, .ref mk, .ref lk, .ref ch, .ref ru, .ref mr, .int 0, .int 0])), (ch, .inr (0, [.ref st, .int 0, .ref c_pl, .ref c_sl, .ref c_co, .ref c_ca, .ref c_tu]))] H locs := hZ
  refine lv_if_ne (tgt := 19) hx hb dX7_choose_9 (by decide) (fun c => absurd (by decide) c) (fun c3 => ?_)
  refine lv_aload_n hx hb dX7_choose_12 rfl (lv_at hl 0 rfl) ?_
  refine lv_bipush (v := 9) hx hb dX7_choose_13 (by decide) ?_
  refine zz_iV (As := [.int 9]) (wc := [(h0, .inr (6, [.ref st, .ref mk, .ref lk, .ref ch, .ref ru, .ref mr, .int 0, .int 0]))]) (wr := [(ch, .inr (0, [.ref st, .int 0, .ref c_pl, .ref c_sl, .ref c_co, .ref c_ca, .ref c_tu]))]) (rest := []) hC hZ hl zc_X7_65 (co_fail g h0 st mk lk ch ru mr 0 0 9) [0] [1] rfl rfl (by decide) (ci := 6) (q0 := 0) rfl rfl rfl rfl (Nat.le_of_ble_eq_true rfl) ⟨⟨Nat.le_of_ble_eq_true rfl, Nat.le_of_ble_eq_true rfl⟩, Nat.le_of_ble_eq_true rfl, Nat.le_of_ble_eq_true rfl⟩ dX7_choose_15 (fun r4 u5 H locs hp hZ => ?_)
  obtain ⟨rfl, rfl⟩ := hp
  have hZ : zz_Z g A s.heap [(ch, .inr (0, [.ref st, .int 0, .ref c_pl, .ref c_sl, .ref c_co, .ref c_ca, .ref c_tu])), (h0, .inr (6, [.ref st, .ref mk, .ref lk, .ref ch, .ref ru, .ref mr, .int 0, .int 9]))] H locs := hZ
  exact zz_iret hC hZ (rfl) (Nat.le_of_ble_eq_true rfl) (Nat.le_of_ble_eq_true rfl) dX7_choose_18
theorem dX7_decision_0 : decode cX7_decision 0 = .ok (.aload_n 0, 1) := by decide +kernel
theorem dX7_decision_1 : decode cX7_decision 1 = .ok (.getfield 35, 3) := by decide +kernel
theorem dX7_decision_4 : decode cX7_decision 4 = .ok (.iload_n 1, 1) := by decide +kernel
theorem dX7_decision_5 : decode cX7_decision 5 = .ok (.invokevirtual 218, 3) := by decide +kernel
theorem dX7_decision_8 : decode cX7_decision 8 = .ok (.ifCond .ne 10, 3) := by decide +kernel
theorem dX7_decision_11 : decode cX7_decision 11 = .ok (.aload_n 0, 1) := by decide +kernel
theorem dX7_decision_12 : decode cX7_decision 12 = .ok (.bipush 9, 2) := by decide +kernel
theorem dX7_decision_14 : decode cX7_decision 14 = .ok (.invokevirtual 65, 3) := by decide +kernel
theorem dX7_decision_17 : decode cX7_decision 17 = .ok (.ireturn, 1) := by decide +kernel
def fn_cx_decision  : Int32 := -9
abbrev rm_cx_decision : Room := { frames := 1, cells := 0, slots := 0, locals := 21 }
abbrev po_cx_decision (g : zz_G) (h0 : Nat) (st : Nat) (mk : Nat) (lk : Nat) (ch : Nat) (ru : Nat) (mr : Nat) (c_pl : Nat) (c_sl : Nat) (c_co : Nat) (c_ca : Nat) (c_tu : Nat) (x1 : Int32) (x2 : Int32) : Int32 → va_W → Prop := fun (r : Int32) (u : va_W) => r = fn_cx_decision
set_option maxHeartbeats 4000000 in
set_option maxRecDepth 100000 in
theorem cx_decision (g : zz_G) (h0 : Nat) (st : Nat) (mk : Nat) (lk : Nat) (ch : Nat) (ru : Nat) (mr : Nat) (c_pl : Nat) (c_sl : Nat) (c_co : Nat) (c_ca : Nat) (c_tu : Nat) (x1 : Int32) (x2 : Int32) : zz_I g yX7_decision (.code yX7_decision cX7_decision 3 (some .int)) rm_cx_decision [.ref h0, .int x1, .int x2] [(h0, .inr (6, [.ref st, .ref mk, .ref lk, .ref ch, .ref ru, .ref mr, .int 0, .int 0])), (ch, .inr (0, [.ref st, .int 0, .ref c_pl, .ref c_sl, .ref c_co, .ref c_ca, .ref c_tu]))] (po_cx_decision g h0 st mk lk ch ru mr c_pl c_sl c_co c_ca c_tu x1 x2) := by
  refine zz_I.intro (own := RX7) (cc := cX7_decision) (nL := 3) (by decide) rfl (Nat.le_of_ble_eq_true rfl) ?_
  intro p l e s m args below meth c A H locs ls hC hnm hZ hl
  obtain ⟨hx, hb, hml, hown, hts, hr, hlocks, hK⟩ := id hC
  have hl : lv_has ls 3 [(0, .ref h0), (1, .int x1), (2, .int x2)] := hl
  have hZ : zz_Z g A s.heap [(h0, .inr (6, [.ref st, .ref mk, .ref lk, .ref ch, .ref ru, .ref mr, .int 0, .int 0])), (ch, .inr (0, [.ref st, .int 0, .ref c_pl, .ref c_sl, .ref c_co, .ref c_ca, .ref c_tu]))] H locs := hZ
  refine lv_aload_n hx hb dX7_decision_0 rfl (lv_at hl 0 rfl) ?_
  refine zz_get hC hZ 0 rfl zf_X7_35 rfl dX7_decision_1 ?_
  refine lv_iload_n hx hb dX7_decision_4 rfl (lv_at hl 1 rfl) ?_
  refine zz_iV (As := [.int x1]) (wc := [(ch, .inr (0, [.ref st, .int 0, .ref c_pl, .ref c_sl, .ref c_co, .ref c_ca, .ref c_tu]))]) (wr := [(h0, .inr (6, [.ref st, .ref mk, .ref lk, .ref ch, .ref ru, .ref mr, .int 0, .int 0]))]) (rest := []) hC hZ hl zc_X7_218 (co_chas0 g st ch c_pl c_sl c_co c_ca c_tu x1) [1] [0] rfl rfl (by decide) (ci := 0) (q0 := 0) rfl rfl rfl rfl (Nat.le_of_ble_eq_true rfl) ⟨⟨Nat.le_of_ble_eq_true rfl, Nat.le_of_ble_eq_true rfl⟩, Nat.le_of_ble_eq_true rfl, Nat.le_of_ble_eq_true rfl⟩ dX7_decision_5 (fun r1 u2 H locs hp hZ => ?_)
  obtain ⟨rfl, rfl⟩ := hp
  have hZ : zz_Z g A s.heap [(h0, .inr (6, [.ref st, .ref mk, .ref lk, .ref ch, .ref ru, .ref mr, .int 0, .int 0])), (ch, .inr (0, [.ref st, .int 0, .ref c_pl, .ref c_sl, .ref c_co, .ref c_ca, .ref c_tu]))] H locs := hZ
  refine lv_if_ne (tgt := 18) hx hb dX7_decision_8 (by decide) (fun c => absurd (by decide) c) (fun c3 => ?_)
  refine lv_aload_n hx hb dX7_decision_11 rfl (lv_at hl 0 rfl) ?_
  refine lv_bipush (v := 9) hx hb dX7_decision_12 (by decide) ?_
  refine zz_iV (As := [.int 9]) (wc := [(h0, .inr (6, [.ref st, .ref mk, .ref lk, .ref ch, .ref ru, .ref mr, .int 0, .int 0]))]) (wr := [(ch, .inr (0, [.ref st, .int 0, .ref c_pl, .ref c_sl, .ref c_co, .ref c_ca, .ref c_tu]))]) (rest := []) hC hZ hl zc_X7_65 (co_fail g h0 st mk lk ch ru mr 0 0 9) [0] [1] rfl rfl (by decide) (ci := 6) (q0 := 0) rfl rfl rfl rfl (Nat.le_of_ble_eq_true rfl) ⟨⟨Nat.le_of_ble_eq_true rfl, Nat.le_of_ble_eq_true rfl⟩, Nat.le_of_ble_eq_true rfl, Nat.le_of_ble_eq_true rfl⟩ dX7_decision_14 (fun r4 u5 H locs hp hZ => ?_)
  obtain ⟨rfl, rfl⟩ := hp
  have hZ : zz_Z g A s.heap [(ch, .inr (0, [.ref st, .int 0, .ref c_pl, .ref c_sl, .ref c_co, .ref c_ca, .ref c_tu])), (h0, .inr (6, [.ref st, .ref mk, .ref lk, .ref ch, .ref ru, .ref mr, .int 0, .int 9]))] H locs := hZ
  exact zz_iret hC hZ (rfl) (Nat.le_of_ble_eq_true rfl) (Nat.le_of_ble_eq_true rfl) dX7_decision_17
theorem dX7_candidateOf_0 : decode cX7_candidateOf 0 = .ok (.aload_n 0, 1) := by decide +kernel
theorem dX7_candidateOf_1 : decode cX7_candidateOf 1 = .ok (.getfield 35, 3) := by decide +kernel
theorem dX7_candidateOf_4 : decode cX7_candidateOf 4 = .ok (.iload_n 1, 1) := by decide +kernel
theorem dX7_candidateOf_5 : decode cX7_candidateOf 5 = .ok (.iload_n 2, 1) := by decide +kernel
theorem dX7_candidateOf_6 : decode cX7_candidateOf 6 = .ok (.invokevirtual 242, 3) := by decide +kernel
theorem dX7_candidateOf_9 : decode cX7_candidateOf 9 = .ok (.ifCond .ne 10, 3) := by decide +kernel
theorem dX7_candidateOf_12 : decode cX7_candidateOf 12 = .ok (.aload_n 0, 1) := by decide +kernel
theorem dX7_candidateOf_13 : decode cX7_candidateOf 13 = .ok (.bipush 9, 2) := by decide +kernel
theorem dX7_candidateOf_15 : decode cX7_candidateOf 15 = .ok (.invokevirtual 130, 3) := by decide +kernel
theorem dX7_candidateOf_18 : decode cX7_candidateOf 18 = .ok (.lreturn, 1) := by decide +kernel
def fn_cx_candidateOf  : Int64 := 0
abbrev rm_cx_candidateOf : Room := { frames := 2, cells := 0, slots := 0, locals := 43 }
abbrev po_cx_candidateOf (g : zz_G) (h0 : Nat) (st : Nat) (mk : Nat) (lk : Nat) (ch : Nat) (ru : Nat) (mr : Nat) (c_pl : Nat) (c_sl : Nat) (c_co : Nat) (c_ca : Nat) (c_tu : Nat) (x1 : Int32) (x2 : Int32) : Int64 → va_W → Prop := fun (r : Int64) (u : va_W) => r = fn_cx_candidateOf
set_option maxHeartbeats 4000000 in
set_option maxRecDepth 100000 in
theorem cx_candidateOf (g : zz_G) (h0 : Nat) (st : Nat) (mk : Nat) (lk : Nat) (ch : Nat) (ru : Nat) (mr : Nat) (c_pl : Nat) (c_sl : Nat) (c_co : Nat) (c_ca : Nat) (c_tu : Nat) (x1 : Int32) (x2 : Int32) : zz_L g yX7_candidateOf (.code yX7_candidateOf cX7_candidateOf 3 (some .long)) rm_cx_candidateOf [.ref h0, .int x1, .int x2] [(h0, .inr (6, [.ref st, .ref mk, .ref lk, .ref ch, .ref ru, .ref mr, .int 0, .int 0])), (ch, .inr (0, [.ref st, .int 0, .ref c_pl, .ref c_sl, .ref c_co, .ref c_ca, .ref c_tu]))] (po_cx_candidateOf g h0 st mk lk ch ru mr c_pl c_sl c_co c_ca c_tu x1 x2) := by
  refine zz_L.intro (own := RX7) (cc := cX7_candidateOf) (nL := 3) (by decide) rfl (Nat.le_of_ble_eq_true rfl) ?_
  intro p l e s m args below meth c A H locs ls hC hnm hZ hl
  obtain ⟨hx, hb, hml, hown, hts, hr, hlocks, hK⟩ := id hC
  have hl : lv_has ls 3 [(0, .ref h0), (1, .int x1), (2, .int x2)] := hl
  have hZ : zz_Z g A s.heap [(h0, .inr (6, [.ref st, .ref mk, .ref lk, .ref ch, .ref ru, .ref mr, .int 0, .int 0])), (ch, .inr (0, [.ref st, .int 0, .ref c_pl, .ref c_sl, .ref c_co, .ref c_ca, .ref c_tu]))] H locs := hZ
  refine lv_aload_n hx hb dX7_candidateOf_0 rfl (lv_at hl 0 rfl) ?_
  refine zz_get hC hZ 0 rfl zf_X7_35 rfl dX7_candidateOf_1 ?_
  refine lv_iload_n hx hb dX7_candidateOf_4 rfl (lv_at hl 1 rfl) ?_
  refine lv_iload_n hx hb dX7_candidateOf_5 rfl (lv_at hl 2 rfl) ?_
  refine zz_iV (As := [.int x1, .int x2]) (wc := [(ch, .inr (0, [.ref st, .int 0, .ref c_pl, .ref c_sl, .ref c_co, .ref c_ca, .ref c_tu]))]) (wr := [(h0, .inr (6, [.ref st, .ref mk, .ref lk, .ref ch, .ref ru, .ref mr, .int 0, .int 0]))]) (rest := []) hC hZ hl zc_X7_242 (co_hasCand0 g st ch c_pl c_sl c_co c_ca c_tu x1 x2) [1] [0] rfl rfl (by decide) (ci := 0) (q0 := 0) rfl rfl rfl rfl (Nat.le_of_ble_eq_true rfl) ⟨⟨Nat.le_of_ble_eq_true rfl, Nat.le_of_ble_eq_true rfl⟩, Nat.le_of_ble_eq_true rfl, Nat.le_of_ble_eq_true rfl⟩ dX7_candidateOf_6 (fun r1 u2 H locs hp hZ => ?_)
  obtain ⟨rfl, rfl⟩ := hp
  have hZ : zz_Z g A s.heap [(h0, .inr (6, [.ref st, .ref mk, .ref lk, .ref ch, .ref ru, .ref mr, .int 0, .int 0])), (ch, .inr (0, [.ref st, .int 0, .ref c_pl, .ref c_sl, .ref c_co, .ref c_ca, .ref c_tu]))] H locs := hZ
  refine lv_if_ne (tgt := 19) hx hb dX7_candidateOf_9 (by decide) (fun c => absurd (by decide) c) (fun c3 => ?_)
  refine lv_aload_n hx hb dX7_candidateOf_12 rfl (lv_at hl 0 rfl) ?_
  refine lv_bipush (v := 9) hx hb dX7_candidateOf_13 (by decide) ?_
  refine zz_lV (As := [.int 9]) (wc := [(h0, .inr (6, [.ref st, .ref mk, .ref lk, .ref ch, .ref ru, .ref mr, .int 0, .int 0]))]) (wr := [(ch, .inr (0, [.ref st, .int 0, .ref c_pl, .ref c_sl, .ref c_co, .ref c_ca, .ref c_tu]))]) (rest := []) hC hZ hl zc_X7_130 (co_noBits g h0 st mk lk ch ru mr 0 0 9) [0] [1] rfl rfl (by decide) (ci := 6) (q0 := 0) rfl rfl rfl rfl (Nat.le_of_ble_eq_true rfl) ⟨⟨Nat.le_of_ble_eq_true rfl, Nat.le_of_ble_eq_true rfl⟩, Nat.le_of_ble_eq_true rfl, Nat.le_of_ble_eq_true rfl⟩ dX7_candidateOf_15 (fun r4 u5 H locs hp hZ => ?_)
  obtain ⟨rfl, rfl⟩ := hp
  have hZ : zz_Z g A s.heap [(ch, .inr (0, [.ref st, .int 0, .ref c_pl, .ref c_sl, .ref c_co, .ref c_ca, .ref c_tu])), (h0, .inr (6, [.ref st, .ref mk, .ref lk, .ref ch, .ref ru, .ref mr, .int 0, .int 9]))] H locs := hZ
  exact zz_lret hC hZ (rfl) (Nat.le_of_ble_eq_true rfl) (Nat.le_of_ble_eq_true rfl) dX7_candidateOf_18
theorem dX7_rule_0 : decode cX7_rule 0 = .ok (.aload_n 0, 1) := by decide +kernel
theorem dX7_rule_1 : decode cX7_rule 1 = .ok (.getfield 10, 3) := by decide +kernel
theorem dX7_rule_4 : decode cX7_rule 4 = .ok (.iload_n 2, 1) := by decide +kernel
theorem dX7_rule_5 : decode cX7_rule 5 = .ok (.invokevirtual 73, 3) := by decide +kernel
theorem dX7_rule_8 : decode cX7_rule 8 = .ok (.ifCond .ne 9, 3) := by decide +kernel
theorem dX7_rule_11 : decode cX7_rule 11 = .ok (.aload_n 0, 1) := by decide +kernel
theorem dX7_rule_12 : decode cX7_rule 12 = .ok (.iconst 5, 1) := by decide +kernel
theorem dX7_rule_13 : decode cX7_rule 13 = .ok (.invokevirtual 65, 3) := by decide +kernel
theorem dX7_rule_16 : decode cX7_rule 16 = .ok (.ireturn, 1) := by decide +kernel
def fn_cx_rule  : Int32 := -5
abbrev rm_cx_rule : Room := { frames := 1, cells := 0, slots := 0, locals := 21 }
abbrev po_cx_rule (g : zz_G) (h0 : Nat) (st : Nat) (mk : Nat) (lk : Nat) (ch : Nat) (ru : Nat) (mr : Nat) (kd : Nat) (dp : Nat) (cl : Nat) (sa : Nat) (ln : Nat) (bt : Nat) (pn : Nat) (bf : Nat) (x1 : Int32) (x2 : Int32) (x3 : Int32) (x4 : Int64) (x5 : Int64) : Int32 → va_W → Prop := fun (r : Int32) (u : va_W) => r = fn_cx_rule
set_option maxHeartbeats 4000000 in
set_option maxRecDepth 100000 in
theorem cx_rule (g : zz_G) (h0 : Nat) (st : Nat) (mk : Nat) (lk : Nat) (ch : Nat) (ru : Nat) (mr : Nat) (kd : Nat) (dp : Nat) (cl : Nat) (sa : Nat) (ln : Nat) (bt : Nat) (pn : Nat) (bf : Nat) (x1 : Int32) (x2 : Int32) (x3 : Int32) (x4 : Int64) (x5 : Int64) : zz_I g yX7_rule (.code yX7_rule cX7_rule 11 (some .int)) rm_cx_rule [.ref h0, .int x1, .int x2, .int x3, .long x4, .long x5] [(h0, .inr (6, [.ref st, .ref mk, .ref lk, .ref ch, .ref ru, .ref mr, .int 0, .int 0])), (st, .inr (5, [.int 0, .int 0, .ref kd, .ref dp, .ref cl, .ref sa, .ref ln, .ref bt, .ref pn, .ref bf]))] (po_cx_rule g h0 st mk lk ch ru mr kd dp cl sa ln bt pn bf x1 x2 x3 x4 x5) := by
  refine zz_I.intro (own := RX7) (cc := cX7_rule) (nL := 11) (by decide) rfl (Nat.le_of_ble_eq_true rfl) ?_
  intro p l e s m args below meth c A H locs ls hC hnm hZ hl
  obtain ⟨hx, hb, hml, hown, hts, hr, hlocks, hK⟩ := id hC
  have hl : lv_has ls 11 [(0, .ref h0), (1, .int x1), (2, .int x2), (3, .int x3), (4, .long x4), (6, .long x5)] := hl
  have hZ : zz_Z g A s.heap [(h0, .inr (6, [.ref st, .ref mk, .ref lk, .ref ch, .ref ru, .ref mr, .int 0, .int 0])), (st, .inr (5, [.int 0, .int 0, .ref kd, .ref dp, .ref cl, .ref sa, .ref ln, .ref bt, .ref pn, .ref bf]))] H locs := hZ
  refine lv_aload_n hx hb dX7_rule_0 rfl (lv_at hl 0 rfl) ?_
  refine zz_get hC hZ 0 rfl zf_X7_10 rfl dX7_rule_1 ?_
  refine lv_iload_n hx hb dX7_rule_4 rfl (lv_at hl 2 rfl) ?_
  refine zz_iV (As := [.int x2]) (wc := [(st, .inr (5, [.int 0, .int 0, .ref kd, .ref dp, .ref cl, .ref sa, .ref ln, .ref bt, .ref pn, .ref bf]))]) (wr := [(h0, .inr (6, [.ref st, .ref mk, .ref lk, .ref ch, .ref ru, .ref mr, .int 0, .int 0]))]) (rest := []) hC hZ hl zc_X7_73 (co_has0 g st kd dp cl sa ln bt pn bf x2) [1] [0] rfl rfl (by decide) (ci := 5) (q0 := 0) rfl rfl rfl rfl (Nat.le_of_ble_eq_true rfl) ⟨⟨Nat.le_of_ble_eq_true rfl, Nat.le_of_ble_eq_true rfl⟩, Nat.le_of_ble_eq_true rfl, Nat.le_of_ble_eq_true rfl⟩ dX7_rule_5 (fun r1 u2 H locs hp hZ => ?_)
  obtain ⟨rfl, rfl⟩ := hp
  have hZ : zz_Z g A s.heap [(h0, .inr (6, [.ref st, .ref mk, .ref lk, .ref ch, .ref ru, .ref mr, .int 0, .int 0])), (st, .inr (5, [.int 0, .int 0, .ref kd, .ref dp, .ref cl, .ref sa, .ref ln, .ref bt, .ref pn, .ref bf]))] H locs := hZ
  refine lv_if_ne (tgt := 17) hx hb dX7_rule_8 (by decide) (fun c => absurd (by decide) c) (fun c3 => ?_)
  refine lv_aload_n hx hb dX7_rule_11 rfl (lv_at hl 0 rfl) ?_
  refine lv_iconst (v := 5) hx hb dX7_rule_12 (by decide) ?_
  refine zz_iV (As := [.int 5]) (wc := [(h0, .inr (6, [.ref st, .ref mk, .ref lk, .ref ch, .ref ru, .ref mr, .int 0, .int 0]))]) (wr := [(st, .inr (5, [.int 0, .int 0, .ref kd, .ref dp, .ref cl, .ref sa, .ref ln, .ref bt, .ref pn, .ref bf]))]) (rest := []) hC hZ hl zc_X7_65 (co_fail g h0 st mk lk ch ru mr 0 0 5) [0] [1] rfl rfl (by decide) (ci := 6) (q0 := 0) rfl rfl rfl rfl (Nat.le_of_ble_eq_true rfl) ⟨⟨Nat.le_of_ble_eq_true rfl, Nat.le_of_ble_eq_true rfl⟩, Nat.le_of_ble_eq_true rfl, Nat.le_of_ble_eq_true rfl⟩ dX7_rule_13 (fun r4 u5 H locs hp hZ => ?_)
  obtain ⟨rfl, rfl⟩ := hp
  have hZ : zz_Z g A s.heap [(st, .inr (5, [.int 0, .int 0, .ref kd, .ref dp, .ref cl, .ref sa, .ref ln, .ref bt, .ref pn, .ref bf])), (h0, .inr (6, [.ref st, .ref mk, .ref lk, .ref ch, .ref ru, .ref mr, .int 0, .int 5]))] H locs := hZ
  exact zz_iret hC hZ (rfl) (Nat.le_of_ble_eq_true rfl) (Nat.le_of_ble_eq_true rfl) dX7_rule_16
theorem dX7_amount_0 : decode cX7_amount 0 = .ok (.iload_n 1, 1) := by decide +kernel
theorem dX7_amount_1 : decode cX7_amount 1 = .ok (.ifCond .lt 14, 3) := by decide +kernel
theorem dX7_amount_15 : decode cX7_amount 15 = .ok (.aload_n 0, 1) := by decide +kernel
theorem dX7_amount_16 : decode cX7_amount 16 = .ok (.bipush 9, 2) := by decide +kernel
theorem dX7_amount_18 : decode cX7_amount 18 = .ok (.invokevirtual 130, 3) := by decide +kernel
theorem dX7_amount_21 : decode cX7_amount 21 = .ok (.lreturn, 1) := by decide +kernel
theorem dX7_amount_4 : decode cX7_amount 4 = .ok (.iload_n 1, 1) := by decide +kernel
theorem dX7_amount_5 : decode cX7_amount 5 = .ok (.aload_n 0, 1) := by decide +kernel
theorem dX7_amount_6 : decode cX7_amount 6 = .ok (.getfield 42, 3) := by decide +kernel
theorem zf_X7_42 : zz_f RX7 42 6 4 := ⟨RX7, TX7, 8, rfl, zi_X7, by decide, zk_204⟩
theorem dX7_amount_9 : decode cX7_amount 9 = .ok (.getfield 255, 3) := by decide +kernel
theorem zk_171 : Cond.fieldLink RX7 255 RX5 "made" "I" ∈ zz_w := zz_in (List.mem_append_right _ (List.mem_append_left _ (List.mem_of_getElem? (i := 171) (by decide +kernel)))) rfl
theorem zf_X7_255 : zz_f RX7 255 4 1 := ⟨RX5, TX5, 9, rfl, zi_X5, by decide, zk_171⟩
theorem dX7_amount_12 : decode cX7_amount 12 = .ok (.if_icmp .lt 10, 3) := by decide +kernel
def fn_cx_amount (x1 : Int32) : Int64 := (if x1 < 0 then 0 else 0)
abbrev rm_cx_amount : Room := { frames := 1, cells := 0, slots := 0, locals := 21 }
abbrev po_cx_amount (g : zz_G) (h0 : Nat) (st : Nat) (mk : Nat) (lk : Nat) (ch : Nat) (ru : Nat) (mr : Nat) (u_so : Nat) (u_ju : Nat) (u_we : Nat) (u_lo : Nat) (u_hi : Nat) (u_ta : Nat) (u_bo : Nat) (x1 : Int32) : Int64 → va_W → Prop := fun (r : Int64) (u : va_W) => r = fn_cx_amount x1
set_option maxHeartbeats 4000000 in
set_option maxRecDepth 100000 in
theorem cx_amount (g : zz_G) (h0 : Nat) (st : Nat) (mk : Nat) (lk : Nat) (ch : Nat) (ru : Nat) (mr : Nat) (u_so : Nat) (u_ju : Nat) (u_we : Nat) (u_lo : Nat) (u_hi : Nat) (u_ta : Nat) (u_bo : Nat) (x1 : Int32) : zz_L g yX7_amount (.code yX7_amount cX7_amount 2 (some .long)) rm_cx_amount [.ref h0, .int x1] [(h0, .inr (6, [.ref st, .ref mk, .ref lk, .ref ch, .ref ru, .ref mr, .int 0, .int 0])), (ru, .inr (4, [.ref st, .int 0, .ref u_so, .ref u_ju, .ref u_we, .ref u_lo, .ref u_hi, .ref u_ta, .ref u_bo]))] (po_cx_amount g h0 st mk lk ch ru mr u_so u_ju u_we u_lo u_hi u_ta u_bo x1) := by
  refine zz_L.intro (own := RX7) (cc := cX7_amount) (nL := 2) (by decide) rfl (Nat.le_of_ble_eq_true rfl) ?_
  intro p l e s m args below meth c A H locs ls hC hnm hZ hl
  obtain ⟨hx, hb, hml, hown, hts, hr, hlocks, hK⟩ := id hC
  have hl : lv_has ls 2 [(0, .ref h0), (1, .int x1)] := hl
  have hZ : zz_Z g A s.heap [(h0, .inr (6, [.ref st, .ref mk, .ref lk, .ref ch, .ref ru, .ref mr, .int 0, .int 0])), (ru, .inr (4, [.ref st, .int 0, .ref u_so, .ref u_ju, .ref u_we, .ref u_lo, .ref u_hi, .ref u_ta, .ref u_bo]))] H locs := hZ
  refine lv_iload_n hx hb dX7_amount_0 rfl (lv_at hl 1 rfl) ?_
  refine lv_if_lt (tgt := 15) hx hb dX7_amount_1 (by decide) (fun c1 => ?_) (fun c1 => ?_)
  · refine lv_aload_n hx hb dX7_amount_15 rfl (lv_at hl 0 rfl) ?_
    refine lv_bipush (v := 9) hx hb dX7_amount_16 (by decide) ?_
    refine zz_lV (As := [.int 9]) (wc := [(h0, .inr (6, [.ref st, .ref mk, .ref lk, .ref ch, .ref ru, .ref mr, .int 0, .int 0]))]) (wr := [(ru, .inr (4, [.ref st, .int 0, .ref u_so, .ref u_ju, .ref u_we, .ref u_lo, .ref u_hi, .ref u_ta, .ref u_bo]))]) (rest := []) hC hZ hl zc_X7_130 (co_noBits g h0 st mk lk ch ru mr 0 0 9) [0] [1] rfl rfl (by decide) (ci := 6) (q0 := 0) rfl rfl rfl rfl (Nat.le_of_ble_eq_true rfl) ⟨⟨Nat.le_of_ble_eq_true rfl, Nat.le_of_ble_eq_true rfl⟩, Nat.le_of_ble_eq_true rfl, Nat.le_of_ble_eq_true rfl⟩ dX7_amount_18 (fun r2 u3 H locs hp hZ => ?_)
    obtain ⟨rfl, rfl⟩ := hp
    have hZ : zz_Z g A s.heap [(ru, .inr (4, [.ref st, .int 0, .ref u_so, .ref u_ju, .ref u_we, .ref u_lo, .ref u_hi, .ref u_ta, .ref u_bo])), (h0, .inr (6, [.ref st, .ref mk, .ref lk, .ref ch, .ref ru, .ref mr, .int 0, .int 9]))] H locs := hZ
    exact zz_lret hC hZ (by show _ = _; rw [fn_cx_amount, if_pos c1]) (Nat.le_of_ble_eq_true rfl) (Nat.le_of_ble_eq_true rfl) dX7_amount_21
  · refine lv_iload_n hx hb dX7_amount_4 rfl (lv_at hl 1 rfl) ?_
    refine lv_aload_n hx hb dX7_amount_5 rfl (lv_at hl 0 rfl) ?_
    refine zz_get hC hZ 0 rfl zf_X7_42 rfl dX7_amount_6 ?_
    refine zz_get hC hZ 1 rfl zf_X7_255 rfl dX7_amount_9 ?_
    refine lv_icmp_lt (tgt := 22) hx hb dX7_amount_12 (by decide) (fun c => absurd c (c1)) (fun c4 => ?_)
    refine lv_aload_n hx hb dX7_amount_15 rfl (lv_at hl 0 rfl) ?_
    refine lv_bipush (v := 9) hx hb dX7_amount_16 (by decide) ?_
    refine zz_lV (As := [.int 9]) (wc := [(h0, .inr (6, [.ref st, .ref mk, .ref lk, .ref ch, .ref ru, .ref mr, .int 0, .int 0]))]) (wr := [(ru, .inr (4, [.ref st, .int 0, .ref u_so, .ref u_ju, .ref u_we, .ref u_lo, .ref u_hi, .ref u_ta, .ref u_bo]))]) (rest := []) hC hZ hl zc_X7_130 (co_noBits g h0 st mk lk ch ru mr 0 0 9) [0] [1] rfl rfl (by decide) (ci := 6) (q0 := 0) rfl rfl rfl rfl (Nat.le_of_ble_eq_true rfl) ⟨⟨Nat.le_of_ble_eq_true rfl, Nat.le_of_ble_eq_true rfl⟩, Nat.le_of_ble_eq_true rfl, Nat.le_of_ble_eq_true rfl⟩ dX7_amount_18 (fun r5 u6 H locs hp hZ => ?_)
    obtain ⟨rfl, rfl⟩ := hp
    have hZ : zz_Z g A s.heap [(ru, .inr (4, [.ref st, .int 0, .ref u_so, .ref u_ju, .ref u_we, .ref u_lo, .ref u_hi, .ref u_ta, .ref u_bo])), (h0, .inr (6, [.ref st, .ref mk, .ref lk, .ref ch, .ref ru, .ref mr, .int 0, .int 9]))] H locs := hZ
    exact zz_lret hC hZ (by show _ = _; rw [fn_cx_amount, if_neg c1]) (Nat.le_of_ble_eq_true rfl) (Nat.le_of_ble_eq_true rfl) dX7_amount_21
theorem dX7_score_0 : decode cX7_score 0 = .ok (.aload_n 0, 1) := by decide +kernel
theorem dX7_score_1 : decode cX7_score 1 = .ok (.getfield 42, 3) := by decide +kernel
theorem dX7_score_4 : decode cX7_score 4 = .ok (.invokevirtual 266, 3) := by decide +kernel
theorem zk_652 : Cond.methodLink RX7 266 yX5_measureAll ∈ zz_w := zz_in (List.mem_append_right _ (List.mem_append_right _ (List.mem_append_right _ (List.mem_append_left _ (List.mem_of_getElem? (i := 172) (by decide +kernel)))))) rfl
set_option maxRecDepth 20000 in
theorem zk_655 : Cond.code yX5_measureAll cX5_measureAll 2 none ∈ zz_w := zz_in (List.mem_append_right _ (List.mem_append_right _ (List.mem_append_right _ (List.mem_append_left _ (List.mem_of_getElem? (i := 175) (rfl)))))) rfl
theorem zk_653 : Cond.instanceMethod yX5_measureAll ∈ zz_w := zz_in (List.mem_append_right _ (List.mem_append_right _ (List.mem_append_right _ (List.mem_append_left _ (List.mem_of_getElem? (i := 173) (by decide +kernel)))))) rfl
theorem zk_654 : Cond.selects RX5 yX5_measureAll yX5_measureAll ∈ zz_w := zz_in (List.mem_append_right _ (List.mem_append_right _ (List.mem_append_right _ (List.mem_append_left _ (List.mem_of_getElem? (i := 174) (by decide +kernel)))))) rfl
theorem zc_X7_266 : zz_cV RX7 266 yX5_measureAll cX5_measureAll 2 none 0 := ⟨⟨zk_652, zk_655, zk_6, by decide, by decide, by decide +kernel⟩, zk_653, zk_654⟩
theorem dX7_score_7 : decode cX7_score 7 = .ok (.aload_n 0, 1) := by decide +kernel
theorem dX7_score_8 : decode cX7_score 8 = .ok (.getfield 42, 3) := by decide +kernel
theorem dX7_score_11 : decode cX7_score 11 = .ok (.invokevirtual 269, 3) := by decide +kernel
theorem zk_657 : Cond.methodLink RX7 269 yX5_total ∈ zz_w := zz_in (List.mem_append_right _ (List.mem_append_right _ (List.mem_append_right _ (List.mem_append_left _ (List.mem_of_getElem? (i := 177) (by decide +kernel)))))) rfl
set_option maxRecDepth 20000 in
theorem zk_660 : Cond.code yX5_total cX5_total 4 (some .long) ∈ zz_w := zz_in (List.mem_append_right _ (List.mem_append_right _ (List.mem_append_right _ (List.mem_append_left _ (List.mem_of_getElem? (i := 180) (rfl)))))) rfl
theorem zk_658 : Cond.instanceMethod yX5_total ∈ zz_w := zz_in (List.mem_append_right _ (List.mem_append_right _ (List.mem_append_right _ (List.mem_append_left _ (List.mem_of_getElem? (i := 178) (by decide +kernel)))))) rfl
theorem zk_659 : Cond.selects RX5 yX5_total yX5_total ∈ zz_w := zz_in (List.mem_append_right _ (List.mem_append_right _ (List.mem_append_right _ (List.mem_append_left _ (List.mem_of_getElem? (i := 179) (by decide +kernel)))))) rfl
theorem zc_X7_269 : zz_cV RX7 269 yX5_total cX5_total 4 (some .long) 0 := ⟨⟨zk_657, zk_660, zk_6, by decide, by decide, by decide +kernel⟩, zk_658, zk_659⟩
theorem dX7_score_14 : decode cX7_score 14 = .ok (.lreturn, 1) := by decide +kernel
def fn_cx_score  : Int64 := 0
abbrev rm_cx_score : Room := { frames := 1, cells := 0, slots := 0, locals := 23 }
abbrev po_cx_score (g : zz_G) (h0 : Nat) (st : Nat) (mk : Nat) (lk : Nat) (ch : Nat) (ru : Nat) (mr : Nat) (u_so : Nat) (u_ju : Nat) (u_we : Nat) (u_lo : Nat) (u_hi : Nat) (u_ta : Nat) (u_bo : Nat) : Int64 → va_W → Prop := fun (r : Int64) (u : va_W) => r = fn_cx_score
set_option maxHeartbeats 4000000 in
set_option maxRecDepth 100000 in
theorem cx_score (g : zz_G) (h0 : Nat) (st : Nat) (mk : Nat) (lk : Nat) (ch : Nat) (ru : Nat) (mr : Nat) (u_so : Nat) (u_ju : Nat) (u_we : Nat) (u_lo : Nat) (u_hi : Nat) (u_ta : Nat) (u_bo : Nat) : zz_L g yX7_score (.code yX7_score cX7_score 1 (some .long)) rm_cx_score [.ref h0] [(h0, .inr (6, [.ref st, .ref mk, .ref lk, .ref ch, .ref ru, .ref mr, .int 0, .int 0])), (ru, .inr (4, [.ref st, .int 0, .ref u_so, .ref u_ju, .ref u_we, .ref u_lo, .ref u_hi, .ref u_ta, .ref u_bo]))] (po_cx_score g h0 st mk lk ch ru mr u_so u_ju u_we u_lo u_hi u_ta u_bo) := by
  refine zz_L.intro (own := RX7) (cc := cX7_score) (nL := 1) (by decide) rfl (Nat.le_of_ble_eq_true rfl) ?_
  intro p l e s m args below meth c A H locs ls hC hnm hZ hl
  obtain ⟨hx, hb, hml, hown, hts, hr, hlocks, hK⟩ := id hC
  have hl : lv_has ls 1 [(0, .ref h0)] := hl
  have hZ : zz_Z g A s.heap [(h0, .inr (6, [.ref st, .ref mk, .ref lk, .ref ch, .ref ru, .ref mr, .int 0, .int 0])), (ru, .inr (4, [.ref st, .int 0, .ref u_so, .ref u_ju, .ref u_we, .ref u_lo, .ref u_hi, .ref u_ta, .ref u_bo]))] H locs := hZ
  refine lv_aload_n hx hb dX7_score_0 rfl (lv_at hl 0 rfl) ?_
  refine zz_get hC hZ 0 rfl zf_X7_42 rfl dX7_score_1 ?_
  refine zz_vV (As := []) (wc := [(ru, .inr (4, [.ref st, .int 0, .ref u_so, .ref u_ju, .ref u_we, .ref u_lo, .ref u_hi, .ref u_ta, .ref u_bo]))]) (wr := [(h0, .inr (6, [.ref st, .ref mk, .ref lk, .ref ch, .ref ru, .ref mr, .int 0, .int 0]))]) (rest := []) hC hZ hl zc_X7_266 (co_measureAll0 g st ru u_so u_ju u_we u_lo u_hi u_ta u_bo) [1] [0] rfl rfl (by decide) (ci := 4) (q0 := 0) rfl rfl rfl rfl (Nat.le_of_ble_eq_true rfl) ⟨⟨Nat.le_of_ble_eq_true rfl, Nat.le_of_ble_eq_true rfl⟩, Nat.le_of_ble_eq_true rfl, Nat.le_of_ble_eq_true rfl⟩ dX7_score_4 (fun u2 H locs hp hZ => ?_)
  obtain rfl := hp
  have hZ : zz_Z g A s.heap [(h0, .inr (6, [.ref st, .ref mk, .ref lk, .ref ch, .ref ru, .ref mr, .int 0, .int 0])), (ru, .inr (4, [.ref st, .int 0, .ref u_so, .ref u_ju, .ref u_we, .ref u_lo, .ref u_hi, .ref u_ta, .ref u_bo]))] H locs := hZ
  refine lv_aload_n hx hb dX7_score_7 rfl (lv_at hl 0 rfl) ?_
  refine zz_get hC hZ 0 rfl zf_X7_42 rfl dX7_score_8 ?_
  refine zz_lV (As := []) (wc := [(ru, .inr (4, [.ref st, .int 0, .ref u_so, .ref u_ju, .ref u_we, .ref u_lo, .ref u_hi, .ref u_ta, .ref u_bo]))]) (wr := [(h0, .inr (6, [.ref st, .ref mk, .ref lk, .ref ch, .ref ru, .ref mr, .int 0, .int 0]))]) (rest := []) hC hZ hl zc_X7_269 (co_total0 g st ru u_so u_ju u_we u_lo u_hi u_ta u_bo) [1] [0] rfl rfl (by decide) (ci := 4) (q0 := 0) rfl rfl rfl rfl (Nat.le_of_ble_eq_true rfl) ⟨⟨Nat.le_of_ble_eq_true rfl, Nat.le_of_ble_eq_true rfl⟩, Nat.le_of_ble_eq_true rfl, Nat.le_of_ble_eq_true rfl⟩ dX7_score_11 (fun r3 u4 H locs hp hZ => ?_)
  obtain ⟨rfl, rfl⟩ := hp
  have hZ : zz_Z g A s.heap [(h0, .inr (6, [.ref st, .ref mk, .ref lk, .ref ch, .ref ru, .ref mr, .int 0, .int 0])), (ru, .inr (4, [.ref st, .int 0, .ref u_so, .ref u_ju, .ref u_we, .ref u_lo, .ref u_hi, .ref u_ta, .ref u_bo]))] H locs := hZ
  exact zz_lret hC hZ (rfl) (Nat.le_of_ble_eq_true rfl) (Nat.le_of_ble_eq_true rfl) dX7_score_14
theorem dX7_best_0 : decode cX7_best 0 = .ok (.aload_n 0, 1) := by decide +kernel
theorem dX7_best_1 : decode cX7_best 1 = .ok (.getfield 35, 3) := by decide +kernel
theorem dX7_best_4 : decode cX7_best 4 = .ok (.invokevirtual 273, 3) := by decide +kernel
theorem zk_666 : Cond.methodLink RX7 273 yX0_ways ∈ zz_w := zz_in (List.mem_append_right _ (List.mem_append_right _ (List.mem_append_right _ (List.mem_append_left _ (List.mem_of_getElem? (i := 186) (by decide +kernel)))))) rfl
set_option maxRecDepth 20000 in
theorem zk_669 : Cond.code yX0_ways cX0_ways 3 (some .int) ∈ zz_w := zz_in (List.mem_append_right _ (List.mem_append_right _ (List.mem_append_right _ (List.mem_append_left _ (List.mem_of_getElem? (i := 189) (rfl)))))) rfl
theorem zk_667 : Cond.instanceMethod yX0_ways ∈ zz_w := zz_in (List.mem_append_right _ (List.mem_append_right _ (List.mem_append_right _ (List.mem_append_left _ (List.mem_of_getElem? (i := 187) (by decide +kernel)))))) rfl
theorem zk_668 : Cond.selects RX0 yX0_ways yX0_ways ∈ zz_w := zz_in (List.mem_append_right _ (List.mem_append_right _ (List.mem_append_right _ (List.mem_append_left _ (List.mem_of_getElem? (i := 188) (by decide +kernel)))))) rfl
theorem zc_X7_273 : zz_cV RX7 273 yX0_ways cX0_ways 3 (some .int) 0 := ⟨⟨zk_666, zk_669, zk_5, by decide, by decide, by decide +kernel⟩, zk_667, zk_668⟩
theorem dX7_best_7 : decode cX7_best 7 = .ok (.istore_n 1, 1) := by decide +kernel
theorem dX7_best_8 : decode cX7_best 8 = .ok (.iload_n 1, 1) := by decide +kernel
theorem dX7_best_9 : decode cX7_best 9 = .ok (.sipush 5000, 3) := by decide +kernel
theorem dX7_best_12 : decode cX7_best 12 = .ok (.if_icmp .le 10, 3) := by decide +kernel
theorem dX7_best_22 : decode cX7_best 22 = .ok (.aload_n 0, 1) := by decide +kernel
theorem dX7_best_23 : decode cX7_best 23 = .ok (.getfield 35, 3) := by decide +kernel
theorem dX7_best_26 : decode cX7_best 26 = .ok (.iconst 0, 1) := by decide +kernel
theorem dX7_best_27 : decode cX7_best 27 = .ok (.invokevirtual 277, 3) := by decide +kernel
theorem zk_674 : Cond.methodLink RX7 277 yX0_takeWay ∈ zz_w := zz_in (List.mem_append_right _ (List.mem_append_right _ (List.mem_append_right _ (List.mem_append_left _ (List.mem_of_getElem? (i := 194) (by decide +kernel)))))) rfl
set_option maxRecDepth 20000 in
theorem zk_677 : Cond.code yX0_takeWay cX0_takeWay 4 none ∈ zz_w := zz_in (List.mem_append_right _ (List.mem_append_right _ (List.mem_append_right _ (List.mem_append_left _ (List.mem_of_getElem? (i := 197) (rfl)))))) rfl
theorem zk_675 : Cond.instanceMethod yX0_takeWay ∈ zz_w := zz_in (List.mem_append_right _ (List.mem_append_right _ (List.mem_append_right _ (List.mem_append_left _ (List.mem_of_getElem? (i := 195) (by decide +kernel)))))) rfl
theorem zk_676 : Cond.selects RX0 yX0_takeWay yX0_takeWay ∈ zz_w := zz_in (List.mem_append_right _ (List.mem_append_right _ (List.mem_append_right _ (List.mem_append_left _ (List.mem_of_getElem? (i := 196) (by decide +kernel)))))) rfl
theorem zc_X7_277 : zz_cV RX7 277 yX0_takeWay cX0_takeWay 4 none 1 := ⟨⟨zk_674, zk_677, zk_5, by decide, by decide, by decide +kernel⟩, zk_675, zk_676⟩
theorem dX7_best_30 : decode cX7_best 30 = .ok (.aload_n 0, 1) := by decide +kernel
theorem dX7_best_31 : decode cX7_best 31 = .ok (.getfield 42, 3) := by decide +kernel
theorem dX7_best_34 : decode cX7_best 34 = .ok (.invokevirtual 266, 3) := by decide +kernel
theorem dX7_best_37 : decode cX7_best 37 = .ok (.aload_n 0, 1) := by decide +kernel
theorem dX7_best_38 : decode cX7_best 38 = .ok (.getfield 42, 3) := by decide +kernel
theorem dX7_best_41 : decode cX7_best 41 = .ok (.invokevirtual 269, 3) := by decide +kernel
theorem dX7_best_44 : decode cX7_best 44 = .ok (.lstore_n 2, 1) := by decide +kernel
theorem dX7_best_45 : decode cX7_best 45 = .ok (.iconst 0, 1) := by decide +kernel
theorem dX7_best_46 : decode cX7_best 46 = .ok (.istore 4, 2) := by decide +kernel
theorem dX7_best_48 : decode cX7_best 48 = .ok (.iconst 1, 1) := by decide +kernel
theorem dX7_best_49 : decode cX7_best 49 = .ok (.istore 5, 2) := by decide +kernel
theorem dX7_best_51 : decode cX7_best 51 = .ok (.iload 5, 2) := by decide +kernel
theorem dX7_best_53 : decode cX7_best 53 = .ok (.iload_n 1, 1) := by decide +kernel
theorem dX7_best_54 : decode cX7_best 54 = .ok (.if_icmp .ge 43, 3) := by decide +kernel
theorem dX7_best_97 : decode cX7_best 97 = .ok (.aload_n 0, 1) := by decide +kernel
theorem dX7_best_98 : decode cX7_best 98 = .ok (.getfield 35, 3) := by decide +kernel
theorem dX7_best_101 : decode cX7_best 101 = .ok (.iload 4, 2) := by decide +kernel
theorem dX7_best_103 : decode cX7_best 103 = .ok (.invokevirtual 277, 3) := by decide +kernel
theorem dX7_best_106 : decode cX7_best 106 = .ok (.aload_n 0, 1) := by decide +kernel
theorem dX7_best_107 : decode cX7_best 107 = .ok (.iload_n 1, 1) := by decide +kernel
theorem dX7_best_108 : decode cX7_best 108 = .ok (.invokevirtual 100, 3) := by decide +kernel
theorem dX7_best_111 : decode cX7_best 111 = .ok (.ireturn, 1) := by decide +kernel
def fn_cx_best  : Int32 := 1
abbrev rm_cx_best : Room := { frames := 1, cells := 0, slots := 0, locals := 23 }
abbrev po_cx_best (g : zz_G) (h0 : Nat) (st : Nat) (mk : Nat) (lk : Nat) (ch : Nat) (ru : Nat) (mr : Nat) (c_pl : Nat) (c_sl : Nat) (c_co : Nat) (c_ca : Nat) (c_tu : Nat) (u_so : Nat) (u_ju : Nat) (u_we : Nat) (u_lo : Nat) (u_hi : Nat) (u_ta : Nat) (u_bo : Nat) : Int32 → va_W → Prop := fun (r : Int32) (u : va_W) => r = fn_cx_best
set_option maxHeartbeats 4000000 in
set_option maxRecDepth 100000 in
theorem cx_best (g : zz_G) (h0 : Nat) (st : Nat) (mk : Nat) (lk : Nat) (ch : Nat) (ru : Nat) (mr : Nat) (c_pl : Nat) (c_sl : Nat) (c_co : Nat) (c_ca : Nat) (c_tu : Nat) (u_so : Nat) (u_ju : Nat) (u_we : Nat) (u_lo : Nat) (u_hi : Nat) (u_ta : Nat) (u_bo : Nat) : zz_I g yX7_best (.code yX7_best cX7_best 8 (some .int)) rm_cx_best [.ref h0] [(h0, .inr (6, [.ref st, .ref mk, .ref lk, .ref ch, .ref ru, .ref mr, .int 0, .int 0])), (ch, .inr (0, [.ref st, .int 0, .ref c_pl, .ref c_sl, .ref c_co, .ref c_ca, .ref c_tu])), (ru, .inr (4, [.ref st, .int 0, .ref u_so, .ref u_ju, .ref u_we, .ref u_lo, .ref u_hi, .ref u_ta, .ref u_bo]))] (po_cx_best g h0 st mk lk ch ru mr c_pl c_sl c_co c_ca c_tu u_so u_ju u_we u_lo u_hi u_ta u_bo) := by
  refine zz_I.intro (own := RX7) (cc := cX7_best) (nL := 8) (by decide) rfl (Nat.le_of_ble_eq_true rfl) ?_
  intro p l e s m args below meth c A H locs ls hC hnm hZ hl
  obtain ⟨hx, hb, hml, hown, hts, hr, hlocks, hK⟩ := id hC
  have hl : lv_has ls 8 [(0, .ref h0)] := hl
  have hZ : zz_Z g A s.heap [(h0, .inr (6, [.ref st, .ref mk, .ref lk, .ref ch, .ref ru, .ref mr, .int 0, .int 0])), (ch, .inr (0, [.ref st, .int 0, .ref c_pl, .ref c_sl, .ref c_co, .ref c_ca, .ref c_tu])), (ru, .inr (4, [.ref st, .int 0, .ref u_so, .ref u_ju, .ref u_we, .ref u_lo, .ref u_hi, .ref u_ta, .ref u_bo]))] H locs := hZ
  refine lv_aload_n hx hb dX7_best_0 rfl (lv_at hl 0 rfl) ?_
  refine zz_get hC hZ 0 rfl zf_X7_35 rfl dX7_best_1 ?_
  refine zz_iV (As := []) (wc := [(ch, .inr (0, [.ref st, .int 0, .ref c_pl, .ref c_sl, .ref c_co, .ref c_ca, .ref c_tu]))]) (wr := [(h0, .inr (6, [.ref st, .ref mk, .ref lk, .ref ch, .ref ru, .ref mr, .int 0, .int 0])), (ru, .inr (4, [.ref st, .int 0, .ref u_so, .ref u_ju, .ref u_we, .ref u_lo, .ref u_hi, .ref u_ta, .ref u_bo]))]) (rest := []) hC hZ hl zc_X7_273 (co_ways0 g st ch c_pl c_sl c_co c_ca c_tu) [1] [0, 2] rfl rfl (by decide) (ci := 0) (q0 := 0) rfl rfl rfl rfl (Nat.le_of_ble_eq_true rfl) ⟨⟨Nat.le_of_ble_eq_true rfl, Nat.le_of_ble_eq_true rfl⟩, Nat.le_of_ble_eq_true rfl, Nat.le_of_ble_eq_true rfl⟩ dX7_best_4 (fun r1 u2 H locs hp hZ => ?_)
  obtain ⟨rfl, rfl⟩ := hp
  have hZ : zz_Z g A s.heap [(h0, .inr (6, [.ref st, .ref mk, .ref lk, .ref ch, .ref ru, .ref mr, .int 0, .int 0])), (ru, .inr (4, [.ref st, .int 0, .ref u_so, .ref u_ju, .ref u_we, .ref u_lo, .ref u_hi, .ref u_ta, .ref u_bo])), (ch, .inr (0, [.ref st, .int 0, .ref c_pl, .ref c_sl, .ref c_co, .ref c_ca, .ref c_tu]))] H locs := hZ
  refine lv_istore_n (lv' := [(1, .int 1), (0, .ref h0)]) hx hb dX7_best_7 rfl hl (by decide) rfl (fun ls hl => ?_)
  refine lv_iload_n hx hb dX7_best_8 rfl (lv_at hl 0 rfl) ?_
  refine lv_sipush (v := 5000) hx hb dX7_best_9 (by decide) ?_
  refine lv_icmp_le (tgt := 22) hx hb dX7_best_12 (by decide) (fun c3 => ?_) (fun c => absurd (by decide) c)
  refine lv_aload_n hx hb dX7_best_22 rfl (lv_at hl 1 rfl) ?_
  refine zz_get hC hZ 0 rfl zf_X7_35 rfl dX7_best_23 ?_
  refine lv_iconst (v := 0) hx hb dX7_best_26 (by decide) ?_
  refine zz_vV (As := [.int 0]) (wc := [(ch, .inr (0, [.ref st, .int 0, .ref c_pl, .ref c_sl, .ref c_co, .ref c_ca, .ref c_tu]))]) (wr := [(h0, .inr (6, [.ref st, .ref mk, .ref lk, .ref ch, .ref ru, .ref mr, .int 0, .int 0])), (ru, .inr (4, [.ref st, .int 0, .ref u_so, .ref u_ju, .ref u_we, .ref u_lo, .ref u_hi, .ref u_ta, .ref u_bo]))]) (rest := []) hC hZ hl zc_X7_277 (co_takeWay0 g st ch c_pl c_sl c_co c_ca c_tu 0) [2] [0, 1] rfl rfl (by decide) (ci := 0) (q0 := 0) rfl rfl rfl rfl (Nat.le_of_ble_eq_true rfl) ⟨⟨Nat.le_of_ble_eq_true rfl, Nat.le_of_ble_eq_true rfl⟩, Nat.le_of_ble_eq_true rfl, Nat.le_of_ble_eq_true rfl⟩ dX7_best_27 (fun u5 H locs hp hZ => ?_)
  obtain rfl := hp
  have hZ : zz_Z g A s.heap [(h0, .inr (6, [.ref st, .ref mk, .ref lk, .ref ch, .ref ru, .ref mr, .int 0, .int 0])), (ru, .inr (4, [.ref st, .int 0, .ref u_so, .ref u_ju, .ref u_we, .ref u_lo, .ref u_hi, .ref u_ta, .ref u_bo])), (ch, .inr (0, [.ref st, .int 0, .ref c_pl, .ref c_sl, .ref c_co, .ref c_ca, .ref c_tu]))] H locs := hZ
  refine lv_aload_n hx hb dX7_best_30 rfl (lv_at hl 1 rfl) ?_
  refine zz_get hC hZ 0 rfl zf_X7_42 rfl dX7_best_31 ?_
  refine zz_vV (As := []) (wc := [(ru, .inr (4, [.ref st, .int 0, .ref u_so, .ref u_ju, .ref u_we, .ref u_lo, .ref u_hi, .ref u_ta, .ref u_bo]))]) (wr := [(h0, .inr (6, [.ref st, .ref mk, .ref lk, .ref ch, .ref ru, .ref mr, .int 0, .int 0])), (ch, .inr (0, [.ref st, .int 0, .ref c_pl, .ref c_sl, .ref c_co, .ref c_ca, .ref c_tu]))]) (rest := []) hC hZ hl zc_X7_266 (co_measureAll0 g st ru u_so u_ju u_we u_lo u_hi u_ta u_bo) [1] [0, 2] rfl rfl (by decide) (ci := 4) (q0 := 0) rfl rfl rfl rfl (Nat.le_of_ble_eq_true rfl) ⟨⟨Nat.le_of_ble_eq_true rfl, Nat.le_of_ble_eq_true rfl⟩, Nat.le_of_ble_eq_true rfl, Nat.le_of_ble_eq_true rfl⟩ dX7_best_34 (fun u7 H locs hp hZ => ?_)
  obtain rfl := hp
  have hZ : zz_Z g A s.heap [(h0, .inr (6, [.ref st, .ref mk, .ref lk, .ref ch, .ref ru, .ref mr, .int 0, .int 0])), (ch, .inr (0, [.ref st, .int 0, .ref c_pl, .ref c_sl, .ref c_co, .ref c_ca, .ref c_tu])), (ru, .inr (4, [.ref st, .int 0, .ref u_so, .ref u_ju, .ref u_we, .ref u_lo, .ref u_hi, .ref u_ta, .ref u_bo]))] H locs := hZ
  refine lv_aload_n hx hb dX7_best_37 rfl (lv_at hl 1 rfl) ?_
  refine zz_get hC hZ 0 rfl zf_X7_42 rfl dX7_best_38 ?_
  refine zz_lV (As := []) (wc := [(ru, .inr (4, [.ref st, .int 0, .ref u_so, .ref u_ju, .ref u_we, .ref u_lo, .ref u_hi, .ref u_ta, .ref u_bo]))]) (wr := [(h0, .inr (6, [.ref st, .ref mk, .ref lk, .ref ch, .ref ru, .ref mr, .int 0, .int 0])), (ch, .inr (0, [.ref st, .int 0, .ref c_pl, .ref c_sl, .ref c_co, .ref c_ca, .ref c_tu]))]) (rest := []) hC hZ hl zc_X7_269 (co_total0 g st ru u_so u_ju u_we u_lo u_hi u_ta u_bo) [2] [0, 1] rfl rfl (by decide) (ci := 4) (q0 := 0) rfl rfl rfl rfl (Nat.le_of_ble_eq_true rfl) ⟨⟨Nat.le_of_ble_eq_true rfl, Nat.le_of_ble_eq_true rfl⟩, Nat.le_of_ble_eq_true rfl, Nat.le_of_ble_eq_true rfl⟩ dX7_best_41 (fun r8 u9 H locs hp hZ => ?_)
  obtain ⟨rfl, rfl⟩ := hp
  have hZ : zz_Z g A s.heap [(h0, .inr (6, [.ref st, .ref mk, .ref lk, .ref ch, .ref ru, .ref mr, .int 0, .int 0])), (ch, .inr (0, [.ref st, .int 0, .ref c_pl, .ref c_sl, .ref c_co, .ref c_ca, .ref c_tu])), (ru, .inr (4, [.ref st, .int 0, .ref u_so, .ref u_ju, .ref u_we, .ref u_lo, .ref u_hi, .ref u_ta, .ref u_bo]))] H locs := hZ
  refine lv_lstore_n (lv' := [(2, .long 0), (1, .int 1), (0, .ref h0)]) hx hb dX7_best_44 rfl hl (by decide) rfl (fun ls hl => ?_)
  refine lv_iconst (v := 0) hx hb dX7_best_45 (by decide) ?_
  refine lv_istore (lv' := [(4, .int 0), (2, .long 0), (1, .int 1), (0, .ref h0)]) hx hb dX7_best_46 hl (by decide) rfl (fun ls hl => ?_)
  refine lv_iconst (v := 1) hx hb dX7_best_48 (by decide) ?_
  refine lv_istore (lv' := [(5, .int 1), (4, .int 0), (2, .long 0), (1, .int 1), (0, .ref h0)]) hx hb dX7_best_49 hl (by decide) rfl (fun ls hl => ?_)
  refine lv_iload hx hb dX7_best_51 (lv_at hl 0 rfl) ?_
  refine lv_iload_n hx hb dX7_best_53 rfl (lv_at hl 3 rfl) ?_
  refine lv_icmp_ge (tgt := 97) hx hb dX7_best_54 (by decide) (fun c10 => ?_) (fun c => absurd (by decide) c)
  refine lv_aload_n hx hb dX7_best_97 rfl (lv_at hl 4 rfl) ?_
  refine zz_get hC hZ 0 rfl zf_X7_35 rfl dX7_best_98 ?_
  refine lv_iload hx hb dX7_best_101 (lv_at hl 1 rfl) ?_
  refine zz_vV (As := [.int 0]) (wc := [(ch, .inr (0, [.ref st, .int 0, .ref c_pl, .ref c_sl, .ref c_co, .ref c_ca, .ref c_tu]))]) (wr := [(h0, .inr (6, [.ref st, .ref mk, .ref lk, .ref ch, .ref ru, .ref mr, .int 0, .int 0])), (ru, .inr (4, [.ref st, .int 0, .ref u_so, .ref u_ju, .ref u_we, .ref u_lo, .ref u_hi, .ref u_ta, .ref u_bo]))]) (rest := []) hC hZ hl zc_X7_277 (co_takeWay0 g st ch c_pl c_sl c_co c_ca c_tu 0) [1] [0, 2] rfl rfl (by decide) (ci := 0) (q0 := 0) rfl rfl rfl rfl (Nat.le_of_ble_eq_true rfl) ⟨⟨Nat.le_of_ble_eq_true rfl, Nat.le_of_ble_eq_true rfl⟩, Nat.le_of_ble_eq_true rfl, Nat.le_of_ble_eq_true rfl⟩ dX7_best_103 (fun u12 H locs hp hZ => ?_)
  obtain rfl := hp
  have hZ : zz_Z g A s.heap [(h0, .inr (6, [.ref st, .ref mk, .ref lk, .ref ch, .ref ru, .ref mr, .int 0, .int 0])), (ru, .inr (4, [.ref st, .int 0, .ref u_so, .ref u_ju, .ref u_we, .ref u_lo, .ref u_hi, .ref u_ta, .ref u_bo])), (ch, .inr (0, [.ref st, .int 0, .ref c_pl, .ref c_sl, .ref c_co, .ref c_ca, .ref c_tu]))] H locs := hZ
  refine lv_aload_n hx hb dX7_best_106 rfl (lv_at hl 4 rfl) ?_
  refine lv_iload_n hx hb dX7_best_107 rfl (lv_at hl 3 rfl) ?_
  refine zz_iV (As := [.int 1]) (wc := [(h0, .inr (6, [.ref st, .ref mk, .ref lk, .ref ch, .ref ru, .ref mr, .int 0, .int 0]))]) (wr := [(ru, .inr (4, [.ref st, .int 0, .ref u_so, .ref u_ju, .ref u_we, .ref u_lo, .ref u_hi, .ref u_ta, .ref u_bo])), (ch, .inr (0, [.ref st, .int 0, .ref c_pl, .ref c_sl, .ref c_co, .ref c_ca, .ref c_tu]))]) (rest := []) hC hZ hl zc_X7_100 (co_fine g h0 st mk lk ch ru mr 0 0 1) [0] [1, 2] rfl rfl (by decide) (ci := 6) (q0 := 0) rfl rfl rfl rfl (Nat.le_of_ble_eq_true rfl) ⟨⟨Nat.le_of_ble_eq_true rfl, Nat.le_of_ble_eq_true rfl⟩, Nat.le_of_ble_eq_true rfl, Nat.le_of_ble_eq_true rfl⟩ dX7_best_108 (fun r13 u14 H locs hp hZ => ?_)
  obtain ⟨rfl, rfl⟩ := hp
  have hZ : zz_Z g A s.heap [(ru, .inr (4, [.ref st, .int 0, .ref u_so, .ref u_ju, .ref u_we, .ref u_lo, .ref u_hi, .ref u_ta, .ref u_bo])), (ch, .inr (0, [.ref st, .int 0, .ref c_pl, .ref c_sl, .ref c_co, .ref c_ca, .ref c_tu])), (h0, .inr (6, [.ref st, .ref mk, .ref lk, .ref ch, .ref ru, .ref mr, .int 0, .int 0]))] H locs := hZ
  exact zz_iret hC hZ (rfl) (Nat.le_of_ble_eq_true rfl) (Nat.le_of_ble_eq_true rfl) dX7_best_111
theorem dX7_mark_0 : decode cX7_mark 0 = .ok (.aload_n 0, 1) := by decide +kernel
theorem dX7_mark_1 : decode cX7_mark 1 = .ok (.getfield 52, 3) := by decide +kernel
theorem zf_X7_52 : zz_f RX7 52 6 6 := ⟨RX7, TX7, 8, rfl, zi_X7, by decide, zk_206⟩
theorem dX7_mark_4 : decode cX7_mark 4 = .ok (.bipush 8, 2) := by decide +kernel
theorem dX7_mark_6 : decode cX7_mark 6 = .ok (.if_icmp .lt 10, 3) := by decide +kernel
theorem dX7_mark_16 : decode cX7_mark 16 = .ok (.aload_n 0, 1) := by decide +kernel
theorem dX7_mark_17 : decode cX7_mark 17 = .ok (.getfield 48, 3) := by decide +kernel
theorem zf_X7_48 : zz_f RX7 48 6 5 := ⟨RX7, TX7, 8, rfl, zi_X7, by decide, zk_205⟩
theorem dX7_mark_20 : decode cX7_mark 20 = .ok (.aload_n 0, 1) := by decide +kernel
theorem dX7_mark_21 : decode cX7_mark 21 = .ok (.getfield 52, 3) := by decide +kernel
theorem dX7_mark_24 : decode cX7_mark 24 = .ok (.aaload, 1) := by decide +kernel
theorem dX7_mark_25 : decode cX7_mark 25 = .ok (.ifnonnull 19, 3) := by decide +kernel
theorem dX7_mark_28 : decode cX7_mark 28 = .ok (.aload_n 0, 1) := by decide +kernel
theorem dX7_mark_29 : decode cX7_mark 29 = .ok (.getfield 48, 3) := by decide +kernel
theorem dX7_mark_32 : decode cX7_mark 32 = .ok (.aload_n 0, 1) := by decide +kernel
theorem dX7_mark_33 : decode cX7_mark 33 = .ok (.getfield 52, 3) := by decide +kernel
theorem dX7_mark_36 : decode cX7_mark 36 = .ok (.new 46, 3) := by decide +kernel
theorem zk_698 : Cond.instantiable RX4 3 ∈ zz_w := zz_in (List.mem_append_right _ (List.mem_append_right _ (List.mem_append_right _ (List.mem_append_left _ (List.mem_of_getElem? (i := 218) (by decide +kernel)))))) rfl
theorem zk_11 : Cond.initialized RX4 ∈ zz_w := zz_in (List.mem_append_right _ (List.mem_append_left _ (List.mem_of_getElem? (i := 11) (by decide +kernel)))) rfl
theorem zn_X7_46 : zz_n RX7 46 3 3 [.null, .null, .int 0] := ⟨RX4, TX4, tyX4, rfl, zi_X4, tyX4_ok, zk_198, zk_698, zk_11, by decide +kernel⟩
theorem dX7_mark_39 : decode cX7_mark 39 = .ok (.dup, 1) := by decide +kernel
theorem dX7_mark_40 : decode cX7_mark 40 = .ok (.invokespecial 284, 3) := by decide +kernel
set_option maxRecDepth 20000 in
theorem zk_701 : Cond.code yX4_init cX4_init 1 none ∈ zz_w := zz_in (List.mem_append_right _ (List.mem_append_right _ (List.mem_append_right _ (List.mem_append_left _ (List.mem_of_getElem? (i := 221) (rfl)))))) rfl
theorem zk_700 : Cond.instanceMethod yX4_init ∈ zz_w := zz_in (List.mem_append_right _ (List.mem_append_right _ (List.mem_append_right _ (List.mem_append_left _ (List.mem_of_getElem? (i := 220) (by decide +kernel)))))) rfl
theorem zc_X7_284 : zz_cN RX7 284 yX4_init "DecisionArrays" cX4_init 1 0 := ⟨by decide, zk_701, zk_11, ⟨by decide, by decide, by decide +kernel⟩, rfl, zk_700⟩
theorem dX7_mark_43 : decode cX7_mark 43 = .ok (.aastore, 1) := by decide +kernel
theorem dX7_mark_44 : decode cX7_mark 44 = .ok (.aload_n 0, 1) := by decide +kernel
theorem dX7_mark_45 : decode cX7_mark 45 = .ok (.getfield 48, 3) := by decide +kernel
theorem dX7_mark_48 : decode cX7_mark 48 = .ok (.aload_n 0, 1) := by decide +kernel
theorem dX7_mark_49 : decode cX7_mark 49 = .ok (.getfield 52, 3) := by decide +kernel
theorem dX7_mark_52 : decode cX7_mark 52 = .ok (.aaload, 1) := by decide +kernel
theorem dX7_mark_53 : decode cX7_mark 53 = .ok (.aload_n 0, 1) := by decide +kernel
theorem dX7_mark_54 : decode cX7_mark 54 = .ok (.getfield 10, 3) := by decide +kernel
theorem dX7_mark_57 : decode cX7_mark 57 = .ok (.invokevirtual 285, 3) := by decide +kernel
theorem zk_713 : Cond.methodLink RX7 285 yX4_keep ∈ zz_w := zz_in (List.mem_append_right _ (List.mem_append_right _ (List.mem_append_right _ (List.mem_append_left _ (List.mem_of_getElem? (i := 233) (by decide +kernel)))))) rfl
set_option maxRecDepth 20000 in
theorem zk_716 : Cond.code yX4_keep cX4_keep 3 none ∈ zz_w := zz_in (List.mem_append_right _ (List.mem_append_right _ (List.mem_append_right _ (List.mem_append_left _ (List.mem_of_getElem? (i := 236) (rfl)))))) rfl
theorem zk_714 : Cond.instanceMethod yX4_keep ∈ zz_w := zz_in (List.mem_append_right _ (List.mem_append_right _ (List.mem_append_right _ (List.mem_append_left _ (List.mem_of_getElem? (i := 234) (by decide +kernel)))))) rfl
theorem zk_715 : Cond.selects RX4 yX4_keep yX4_keep ∈ zz_w := zz_in (List.mem_append_right _ (List.mem_append_right _ (List.mem_append_right _ (List.mem_append_left _ (List.mem_of_getElem? (i := 235) (by decide +kernel)))))) rfl
theorem zc_X7_285 : zz_cV RX7 285 yX4_keep cX4_keep 3 none 1 := ⟨⟨zk_713, zk_716, zk_11, by decide, by decide, by decide +kernel⟩, zk_714, zk_715⟩
theorem dX7_mark_60 : decode cX7_mark 60 = .ok (.aload_n 0, 1) := by decide +kernel
theorem dX7_mark_61 : decode cX7_mark 61 = .ok (.dup, 1) := by decide +kernel
theorem dX7_mark_62 : decode cX7_mark 62 = .ok (.getfield 52, 3) := by decide +kernel
theorem dX7_mark_65 : decode cX7_mark 65 = .ok (.iconst 1, 1) := by decide +kernel
theorem dX7_mark_66 : decode cX7_mark 66 = .ok (.iadd, 1) := by decide +kernel
theorem dX7_mark_67 : decode cX7_mark 67 = .ok (.putfield 52, 3) := by decide +kernel
theorem dX7_mark_70 : decode cX7_mark 70 = .ok (.aload_n 0, 1) := by decide +kernel
theorem dX7_mark_71 : decode cX7_mark 71 = .ok (.aload_n 0, 1) := by decide +kernel
theorem dX7_mark_72 : decode cX7_mark 72 = .ok (.getfield 52, 3) := by decide +kernel
theorem dX7_mark_75 : decode cX7_mark 75 = .ok (.invokevirtual 100, 3) := by decide +kernel
theorem dX7_mark_78 : decode cX7_mark 78 = .ok (.ireturn, 1) := by decide +kernel
def fn_cx_mark  : Int32 := 1
abbrev rm_cx_mark : Room := { frames := 2, cells := 3, slots := 8003, locals := 32 }
abbrev po_cx_mark (g : zz_G) (h0 : Nat) (st : Nat) (mk : Nat) (lk : Nat) (ch : Nat) (ru : Nat) (mr : Nat) (kd : Nat) (dp : Nat) (cl : Nat) (sa : Nat) (ln : Nat) (bt : Nat) (pn : Nat) (bf : Nat) (c_pl : Nat) (c_sl : Nat) (c_co : Nat) (c_ca : Nat) (c_tu : Nat) : Int32 → va_W → Prop := fun (r : Int32) (u : va_W) => r = fn_cx_mark
set_option maxHeartbeats 4000000 in
set_option maxRecDepth 100000 in
theorem cx_mark (g : zz_G) (h0 : Nat) (st : Nat) (mk : Nat) (lk : Nat) (ch : Nat) (ru : Nat) (mr : Nat) (kd : Nat) (dp : Nat) (cl : Nat) (sa : Nat) (ln : Nat) (bt : Nat) (pn : Nat) (bf : Nat) (c_pl : Nat) (c_sl : Nat) (c_co : Nat) (c_ca : Nat) (c_tu : Nat) : zz_I g yX7_mark (.code yX7_mark cX7_mark 1 (some .int)) rm_cx_mark [.ref h0] [(h0, .inr (6, [.ref st, .ref mk, .ref lk, .ref ch, .ref ru, .ref mr, .int 0, .int 0])), (st, .inr (5, [.int 0, .int 0, .ref kd, .ref dp, .ref cl, .ref sa, .ref ln, .ref bt, .ref pn, .ref bf])), (mr, .inl (g.2.2.2.2, 8, .inr (.inr (.inr (.inr (fun _ => none)))))), (ch, .inr (0, [.ref st, .int 0, .ref c_pl, .ref c_sl, .ref c_co, .ref c_ca, .ref c_tu]))] (po_cx_mark g h0 st mk lk ch ru mr kd dp cl sa ln bt pn bf c_pl c_sl c_co c_ca c_tu) := by
  refine zz_I.intro (own := RX7) (cc := cX7_mark) (nL := 1) (by decide) rfl (Nat.le_of_ble_eq_true rfl) ?_
  intro p l e s m args below meth c A H locs ls hC hnm hZ hl
  obtain ⟨hx, hb, hml, hown, hts, hr, hlocks, hK⟩ := id hC
  have hl : lv_has ls 1 [(0, .ref h0)] := hl
  have hZ : zz_Z g A s.heap [(h0, .inr (6, [.ref st, .ref mk, .ref lk, .ref ch, .ref ru, .ref mr, .int 0, .int 0])), (st, .inr (5, [.int 0, .int 0, .ref kd, .ref dp, .ref cl, .ref sa, .ref ln, .ref bt, .ref pn, .ref bf])), (mr, .inl (g.2.2.2.2, 8, .inr (.inr (.inr (.inr (fun _ => none)))))), (ch, .inr (0, [.ref st, .int 0, .ref c_pl, .ref c_sl, .ref c_co, .ref c_ca, .ref c_tu]))] H locs := hZ
  refine lv_aload_n hx hb dX7_mark_0 rfl (lv_at hl 0 rfl) ?_
  refine zz_get hC hZ 0 rfl zf_X7_52 rfl dX7_mark_1 ?_
  refine lv_bipush (v := 8) hx hb dX7_mark_4 (by decide) ?_
  refine lv_icmp_lt (tgt := 16) hx hb dX7_mark_6 (by decide) (fun c1 => ?_) (fun c => absurd (by decide) c)
  refine lv_aload_n hx hb dX7_mark_16 rfl (lv_at hl 0 rfl) ?_
  refine zz_get hC hZ 0 rfl zf_X7_48 rfl dX7_mark_17 ?_
  refine lv_aload_n hx hb dX7_mark_20 rfl (lv_at hl 0 rfl) ?_
  refine zz_get hC hZ 0 rfl zf_X7_52 rfl dX7_mark_21 ?_
  refine zz_aald hC hZ 2 rfl (by unfold vp_in; decide) dX7_mark_24 ?_
  refine zz_topv (v := .null) (by rfl) ?_
  refine lv_ifnonnullN hx hb dX7_mark_25 ?_
  refine lv_aload_n hx hb dX7_mark_28 rfl (lv_at hl 0 rfl) ?_
  refine zz_get hC hZ 0 rfl zf_X7_48 rfl dX7_mark_29 ?_
  refine lv_aload_n hx hb dX7_mark_32 rfl (lv_at hl 0 rfl) ?_
  refine zz_get hC hZ 0 rfl zf_X7_52 rfl dX7_mark_33 ?_
  refine zz_new hC hZ zn_X7_46 (Nat.le_of_ble_eq_true rfl) (Nat.le_of_ble_eq_true rfl) dX7_mark_36 (fun q2 H hZ => ?_)
  have hZ : zz_Z g A s.heap [(h0, .inr (6, [.ref st, .ref mk, .ref lk, .ref ch, .ref ru, .ref mr, .int 0, .int 0])), (st, .inr (5, [.int 0, .int 0, .ref kd, .ref dp, .ref cl, .ref sa, .ref ln, .ref bt, .ref pn, .ref bf])), (mr, .inl (g.2.2.2.2, 8, .inr (.inr (.inr (.inr (fun _ => none)))))), (ch, .inr (0, [.ref st, .int 0, .ref c_pl, .ref c_sl, .ref c_co, .ref c_ca, .ref c_tu])), (q2, .inr (3, [.null, .null, .int 0]))] H locs := hZ
  refine lv_dup hx hb dX7_mark_39 rfl ?_
  refine zz_vN (As := []) (wc := [(q2, .inr (3, [.null, .null, .int 0]))]) (wr := [(h0, .inr (6, [.ref st, .ref mk, .ref lk, .ref ch, .ref ru, .ref mr, .int 0, .int 0])), (st, .inr (5, [.int 0, .int 0, .ref kd, .ref dp, .ref cl, .ref sa, .ref ln, .ref bt, .ref pn, .ref bf])), (mr, .inl (g.2.2.2.2, 8, .inr (.inr (.inr (.inr (fun _ => none)))))), (ch, .inr (0, [.ref st, .int 0, .ref c_pl, .ref c_sl, .ref c_co, .ref c_ca, .ref c_tu]))]) (rest := [.ref q2, .int 0, .ref mr]) hC hZ hl zc_X7_284 (ci_Mark g q2) [4] [0, 1, 2, 3] rfl rfl (by decide) rfl rfl (Nat.le_of_ble_eq_true rfl) ⟨⟨Nat.le_of_ble_eq_true rfl, Nat.le_of_ble_eq_true rfl⟩, Nat.le_of_ble_eq_true rfl, Nat.le_of_ble_eq_true rfl⟩ dX7_mark_40 (fun u4 H locs hp hZ => ?_)
  obtain ⟨e1_5, e2_6, rfl⟩ := hp
  have hZ : zz_Z g A s.heap [(h0, .inr (6, [.ref st, .ref mk, .ref lk, .ref ch, .ref ru, .ref mr, .int 0, .int 0])), (st, .inr (5, [.int 0, .int 0, .ref kd, .ref dp, .ref cl, .ref sa, .ref ln, .ref bt, .ref pn, .ref bf])), (mr, .inl (g.2.2.2.2, 8, .inr (.inr (.inr (.inr (fun _ => none)))))), (ch, .inr (0, [.ref st, .int 0, .ref c_pl, .ref c_sl, .ref c_co, .ref c_ca, .ref c_tu])), (q2, .inr (3, [.ref e1_5, .ref e2_6, .int 0])), (e1_5, .inl (g.2.2.1, 4000, .inr (.inl (fun _ => 0)))), (e2_6, .inl (g.2.2.2.1, 4000, .inl (fun _ => 0)))] H locs := hZ
  refine zz_aast hC hZ 2 4 3 rfl rfl rfl (by unfold vp_in; decide) dX7_mark_43 (fun H locs hZ => ?_)
  have hZ : zz_Z g A s.heap [(h0, .inr (6, [.ref st, .ref mk, .ref lk, .ref ch, .ref ru, .ref mr, .int 0, .int 0])), (st, .inr (5, [.int 0, .int 0, .ref kd, .ref dp, .ref cl, .ref sa, .ref ln, .ref bt, .ref pn, .ref bf])), (mr, .inl (g.2.2.2.2, 8, .inr (.inr (.inr (.inr (va_up (fun _ => none) (0 : Int32).toNatClampNeg (some q2))))))), (ch, .inr (0, [.ref st, .int 0, .ref c_pl, .ref c_sl, .ref c_co, .ref c_ca, .ref c_tu])), (q2, .inr (3, [.ref e1_5, .ref e2_6, .int 0])), (e1_5, .inl (g.2.2.1, 4000, .inr (.inl (fun _ => 0)))), (e2_6, .inl (g.2.2.2.1, 4000, .inl (fun _ => 0)))] H locs := hZ
  refine lv_aload_n hx hb dX7_mark_44 rfl (lv_at hl 0 rfl) ?_
  refine zz_get hC hZ 0 rfl zf_X7_48 rfl dX7_mark_45 ?_
  refine lv_aload_n hx hb dX7_mark_48 rfl (lv_at hl 0 rfl) ?_
  refine zz_get hC hZ 0 rfl zf_X7_52 rfl dX7_mark_49 ?_
  refine zz_aald hC hZ 2 rfl (by unfold vp_in; decide) dX7_mark_52 ?_
  refine zz_topv (v := .ref q2) (by rfl) ?_
  refine lv_aload_n hx hb dX7_mark_53 rfl (lv_at hl 0 rfl) ?_
  refine zz_get hC hZ 0 rfl zf_X7_10 rfl dX7_mark_54 ?_
  refine zz_vV (As := [.ref st]) (wc := [(q2, .inr (3, [.ref e1_5, .ref e2_6, .int 0])), (st, .inr (5, [.int 0, .int 0, .ref kd, .ref dp, .ref cl, .ref sa, .ref ln, .ref bt, .ref pn, .ref bf]))]) (wr := [(h0, .inr (6, [.ref st, .ref mk, .ref lk, .ref ch, .ref ru, .ref mr, .int 0, .int 0])), (mr, .inl (g.2.2.2.2, 8, .inr (.inr (.inr (.inr (va_up (fun _ => none) (0 : Int32).toNatClampNeg (some q2))))))), (ch, .inr (0, [.ref st, .int 0, .ref c_pl, .ref c_sl, .ref c_co, .ref c_ca, .ref c_tu])), (e1_5, .inl (g.2.2.1, 4000, .inr (.inl (fun _ => 0)))), (e2_6, .inl (g.2.2.2.1, 4000, .inl (fun _ => 0)))]) (rest := []) hC hZ hl zc_X7_285 (co_keep0 g st kd dp cl sa ln bt pn bf q2 e1_5 e2_6 0) [4, 1] [0, 2, 3, 5, 6] rfl rfl (by decide) (ci := 3) (q0 := 0) rfl rfl rfl rfl (Nat.le_of_ble_eq_true rfl) ⟨⟨Nat.le_of_ble_eq_true rfl, Nat.le_of_ble_eq_true rfl⟩, Nat.le_of_ble_eq_true rfl, Nat.le_of_ble_eq_true rfl⟩ dX7_mark_57 (fun u8 H locs hp hZ => ?_)
  have hZ : zz_Z g A s.heap [(h0, .inr (6, [.ref st, .ref mk, .ref lk, .ref ch, .ref ru, .ref mr, .int 0, .int 0])), (mr, .inl (g.2.2.2.2, 8, .inr (.inr (.inr (.inr (va_up (fun _ => none) (0 : Int32).toNatClampNeg (some q2))))))), (ch, .inr (0, [.ref st, .int 0, .ref c_pl, .ref c_sl, .ref c_co, .ref c_ca, .ref c_tu])), (e1_5, .inl (g.2.2.1, 4000, .inr (.inl (fun _ => 0)))), (e2_6, .inl (g.2.2.2.1, 4000, .inl (fun _ => 0)))] H locs := hZ.left
  refine lv_aload_n hx hb dX7_mark_60 rfl (lv_at hl 0 rfl) ?_
  refine lv_dup hx hb dX7_mark_61 rfl ?_
  refine zz_get hC hZ 0 rfl zf_X7_52 rfl dX7_mark_62 ?_
  refine lv_iconst (v := 1) hx hb dX7_mark_65 (by decide) ?_
  refine lv_iadd hx hb dX7_mark_66 ?_
  refine zz_topi (v := 1) (by decide) ?_
  refine zz_put hC hZ 0 rfl zu_X7_52 (Nat.le_of_ble_eq_true rfl) dX7_mark_67 (fun H locs hZ => ?_)
  have hZ : zz_Z g A s.heap [(h0, .inr (6, [.ref st, .ref mk, .ref lk, .ref ch, .ref ru, .ref mr, .int 1, .int 0])), (mr, .inl (g.2.2.2.2, 8, .inr (.inr (.inr (.inr (va_up (fun _ => none) (0 : Int32).toNatClampNeg (some q2))))))), (ch, .inr (0, [.ref st, .int 0, .ref c_pl, .ref c_sl, .ref c_co, .ref c_ca, .ref c_tu])), (e1_5, .inl (g.2.2.1, 4000, .inr (.inl (fun _ => 0)))), (e2_6, .inl (g.2.2.2.1, 4000, .inl (fun _ => 0)))] H locs := hZ
  refine lv_aload_n hx hb dX7_mark_70 rfl (lv_at hl 0 rfl) ?_
  refine lv_aload_n hx hb dX7_mark_71 rfl (lv_at hl 0 rfl) ?_
  refine zz_get hC hZ 0 rfl zf_X7_52 rfl dX7_mark_72 ?_
  refine zz_iV (As := [.int 1]) (wc := [(h0, .inr (6, [.ref st, .ref mk, .ref lk, .ref ch, .ref ru, .ref mr, .int 1, .int 0]))]) (wr := [(mr, .inl (g.2.2.2.2, 8, .inr (.inr (.inr (.inr (va_up (fun _ => none) (0 : Int32).toNatClampNeg (some q2))))))), (ch, .inr (0, [.ref st, .int 0, .ref c_pl, .ref c_sl, .ref c_co, .ref c_ca, .ref c_tu])), (e1_5, .inl (g.2.2.1, 4000, .inr (.inl (fun _ => 0)))), (e2_6, .inl (g.2.2.2.1, 4000, .inl (fun _ => 0)))]) (rest := []) hC hZ hl zc_X7_100 (co_fine g h0 st mk lk ch ru mr 1 0 1) [0] [1, 2, 3, 4] rfl rfl (by decide) (ci := 6) (q0 := 0) rfl rfl rfl rfl (Nat.le_of_ble_eq_true rfl) ⟨⟨Nat.le_of_ble_eq_true rfl, Nat.le_of_ble_eq_true rfl⟩, Nat.le_of_ble_eq_true rfl, Nat.le_of_ble_eq_true rfl⟩ dX7_mark_75 (fun r9 u10 H locs hp hZ => ?_)
  obtain ⟨rfl, rfl⟩ := hp
  have hZ : zz_Z g A s.heap [(mr, .inl (g.2.2.2.2, 8, .inr (.inr (.inr (.inr (va_up (fun _ => none) (0 : Int32).toNatClampNeg (some q2))))))), (ch, .inr (0, [.ref st, .int 0, .ref c_pl, .ref c_sl, .ref c_co, .ref c_ca, .ref c_tu])), (e1_5, .inl (g.2.2.1, 4000, .inr (.inl (fun _ => 0)))), (e2_6, .inl (g.2.2.2.1, 4000, .inl (fun _ => 0))), (h0, .inr (6, [.ref st, .ref mk, .ref lk, .ref ch, .ref ru, .ref mr, .int 1, .int 0]))] H locs := hZ
  exact zz_iret hC hZ (rfl) (Nat.le_of_ble_eq_true rfl) (Nat.le_of_ble_eq_true rfl) dX7_mark_78
theorem dX7_back_0 : decode cX7_back 0 = .ok (.aload_n 0, 1) := by decide +kernel
theorem dX7_back_1 : decode cX7_back 1 = .ok (.getfield 52, 3) := by decide +kernel
theorem dX7_back_4 : decode cX7_back 4 = .ok (.iconst 1, 1) := by decide +kernel
theorem dX7_back_5 : decode cX7_back 5 = .ok (.if_icmp .ge 10, 3) := by decide +kernel
theorem dX7_back_8 : decode cX7_back 8 = .ok (.aload_n 0, 1) := by decide +kernel
theorem dX7_back_9 : decode cX7_back 9 = .ok (.bipush 9, 2) := by decide +kernel
theorem dX7_back_11 : decode cX7_back 11 = .ok (.invokevirtual 65, 3) := by decide +kernel
theorem dX7_back_14 : decode cX7_back 14 = .ok (.ireturn, 1) := by decide +kernel
def fn_cx_back  : Int32 := -9
abbrev rm_cx_back : Room := { frames := 1, cells := 0, slots := 0, locals := 21 }
abbrev po_cx_back (g : zz_G) (h0 : Nat) (st : Nat) (mk : Nat) (lk : Nat) (ch : Nat) (ru : Nat) (mr : Nat) : Int32 → va_W → Prop := fun (r : Int32) (u : va_W) => r = fn_cx_back
set_option maxHeartbeats 4000000 in
set_option maxRecDepth 100000 in
theorem cx_back (g : zz_G) (h0 : Nat) (st : Nat) (mk : Nat) (lk : Nat) (ch : Nat) (ru : Nat) (mr : Nat) : zz_I g yX7_back (.code yX7_back cX7_back 1 (some .int)) rm_cx_back [.ref h0] [(h0, .inr (6, [.ref st, .ref mk, .ref lk, .ref ch, .ref ru, .ref mr, .int 0, .int 0]))] (po_cx_back g h0 st mk lk ch ru mr) := by
  refine zz_I.intro (own := RX7) (cc := cX7_back) (nL := 1) (by decide) rfl (Nat.le_of_ble_eq_true rfl) ?_
  intro p l e s m args below meth c A H locs ls hC hnm hZ hl
  obtain ⟨hx, hb, hml, hown, hts, hr, hlocks, hK⟩ := id hC
  have hl : lv_has ls 1 [(0, .ref h0)] := hl
  have hZ : zz_Z g A s.heap [(h0, .inr (6, [.ref st, .ref mk, .ref lk, .ref ch, .ref ru, .ref mr, .int 0, .int 0]))] H locs := hZ
  refine lv_aload_n hx hb dX7_back_0 rfl (lv_at hl 0 rfl) ?_
  refine zz_get hC hZ 0 rfl zf_X7_52 rfl dX7_back_1 ?_
  refine lv_iconst (v := 1) hx hb dX7_back_4 (by decide) ?_
  refine lv_icmp_ge (tgt := 15) hx hb dX7_back_5 (by decide) (fun c => absurd c (by decide)) (fun c1 => ?_)
  refine lv_aload_n hx hb dX7_back_8 rfl (lv_at hl 0 rfl) ?_
  refine lv_bipush (v := 9) hx hb dX7_back_9 (by decide) ?_
  refine zz_iV (As := [.int 9]) (wc := [(h0, .inr (6, [.ref st, .ref mk, .ref lk, .ref ch, .ref ru, .ref mr, .int 0, .int 0]))]) (wr := []) (rest := []) hC hZ hl zc_X7_65 (co_fail g h0 st mk lk ch ru mr 0 0 9) [0] [] rfl rfl (by decide) (ci := 6) (q0 := 0) rfl rfl rfl rfl (Nat.le_of_ble_eq_true rfl) ⟨⟨Nat.le_of_ble_eq_true rfl, Nat.le_of_ble_eq_true rfl⟩, Nat.le_of_ble_eq_true rfl, Nat.le_of_ble_eq_true rfl⟩ dX7_back_11 (fun r2 u3 H locs hp hZ => ?_)
  obtain ⟨rfl, rfl⟩ := hp
  have hZ : zz_Z g A s.heap [(h0, .inr (6, [.ref st, .ref mk, .ref lk, .ref ch, .ref ru, .ref mr, .int 0, .int 9]))] H locs := hZ
  exact zz_iret hC hZ (rfl) (Nat.le_of_ble_eq_true rfl) (Nat.le_of_ble_eq_true rfl) dX7_back_14
end
section
theorem dX8_ways_0 : decode cX8_ways 0 = .ok (.lconst 1, 1) := by decide +kernel
theorem dX8_ways_1 : decode cX8_ways 1 = .ok (.lstore_n 1, 1) := by decide +kernel
theorem dX8_ways_2 : decode cX8_ways 2 = .ok (.iconst 0, 1) := by decide +kernel
theorem dX8_ways_3 : decode cX8_ways 3 = .ok (.istore_n 3, 1) := by decide +kernel
theorem dX8_ways_4 : decode cX8_ways 4 = .ok (.iload_n 3, 1) := by decide +kernel
theorem dX8_ways_5 : decode cX8_ways 5 = .ok (.aload_n 0, 1) := by decide +kernel
theorem dX8_ways_6 : decode cX8_ways 6 = .ok (.getfield 248, 3) := by decide +kernel
theorem dX8_ways_9 : decode cX8_ways 9 = .ok (.if_icmp .ge 34, 3) := by decide +kernel
theorem dX8_ways_43 : decode cX8_ways 43 = .ok (.lload_n 1, 1) := by decide +kernel
theorem dX8_ways_44 : decode cX8_ways 44 = .ok (.l2i, 1) := by decide +kernel
theorem dX8_ways_45 : decode cX8_ways 45 = .ok (.ireturn, 1) := by decide +kernel
abbrev rm_cm_ways0 : Room := { frames := 0, cells := 0, slots := 0, locals := 0 }
abbrev po_cm_ways0 (g : zz_G) (h0 : Nat) (a_kindOf : Nat) (a_depthOf : Nat) (a_lengthOf : Nat) (a_classOf : Nat) (a_baseOf : Nat) (a_bits : Nat) (a_pinned : Nat) (a_lengths : Nat) (a_stackArray : Nat) (a_stackOther : Nat) (a_stackAt : Nat) (a_path : Nat) (a_held : Nat) (a_alike : Nat) (a_hashes : Nat) (a_decisionArray : Nat) (a_decisionPlace : Nat) (a_candidateMany : Nat) (a_candidates : Nat) (a_ruleSort : Nat) (a_ruleArray : Nat) (a_ruleWeight : Nat) (a_ruleLow : Nat) (a_ruleHigh : Nat) (a_chosen : Nat) (a_bestOf : Nat) (a_markElements : Nat) (a_markBits : Nat) (a_markPins : Nat) : Int32 → va_W → Prop := fun (r : Int32) (u : va_W) => r = 1 ∧ u = [(h0, .inr (7, [.int 0, .int 0, .ref a_kindOf, .ref a_depthOf, .ref a_lengthOf, .ref a_classOf, .ref a_baseOf, .ref a_bits, .ref a_pinned, .int 0, .ref a_lengths, .ref a_stackArray, .ref a_stackOther, .ref a_stackAt, .int 0, .int 0, .ref a_path, .ref a_held, .ref a_alike, .ref a_hashes, .int 0, .ref a_decisionArray, .ref a_decisionPlace, .ref a_candidateMany, .ref a_candidates, .int 0, .ref a_ruleSort, .ref a_ruleArray, .ref a_ruleWeight, .ref a_ruleLow, .ref a_ruleHigh, .ref a_chosen, .ref a_bestOf, .int 0, .ref a_markElements, .ref a_markBits, .ref a_markPins]))]
set_option maxHeartbeats 4000000 in
set_option maxRecDepth 100000 in
theorem cm_ways0 (g : zz_G) (h0 : Nat) (a_kindOf : Nat) (a_depthOf : Nat) (a_lengthOf : Nat) (a_classOf : Nat) (a_baseOf : Nat) (a_bits : Nat) (a_pinned : Nat) (a_lengths : Nat) (a_stackArray : Nat) (a_stackOther : Nat) (a_stackAt : Nat) (a_path : Nat) (a_held : Nat) (a_alike : Nat) (a_hashes : Nat) (a_decisionArray : Nat) (a_decisionPlace : Nat) (a_candidateMany : Nat) (a_candidates : Nat) (a_ruleSort : Nat) (a_ruleArray : Nat) (a_ruleWeight : Nat) (a_ruleLow : Nat) (a_ruleHigh : Nat) (a_chosen : Nat) (a_bestOf : Nat) (a_markElements : Nat) (a_markBits : Nat) (a_markPins : Nat) : zz_I g yX8_ways (.code yX8_ways cX8_ways 4 (some .int)) rm_cm_ways0 [.ref h0] [(h0, .inr (7, [.int 0, .int 0, .ref a_kindOf, .ref a_depthOf, .ref a_lengthOf, .ref a_classOf, .ref a_baseOf, .ref a_bits, .ref a_pinned, .int 0, .ref a_lengths, .ref a_stackArray, .ref a_stackOther, .ref a_stackAt, .int 0, .int 0, .ref a_path, .ref a_held, .ref a_alike, .ref a_hashes, .int 0, .ref a_decisionArray, .ref a_decisionPlace, .ref a_candidateMany, .ref a_candidates, .int 0, .ref a_ruleSort, .ref a_ruleArray, .ref a_ruleWeight, .ref a_ruleLow, .ref a_ruleHigh, .ref a_chosen, .ref a_bestOf, .int 0, .ref a_markElements, .ref a_markBits, .ref a_markPins]))] (po_cm_ways0 g h0 a_kindOf a_depthOf a_lengthOf a_classOf a_baseOf a_bits a_pinned a_lengths a_stackArray a_stackOther a_stackAt a_path a_held a_alike a_hashes a_decisionArray a_decisionPlace a_candidateMany a_candidates a_ruleSort a_ruleArray a_ruleWeight a_ruleLow a_ruleHigh a_chosen a_bestOf a_markElements a_markBits a_markPins) := by
  refine zz_I.intro (own := RX8) (cc := cX8_ways) (nL := 4) (by decide) rfl (Nat.le_of_ble_eq_true rfl) ?_
  intro p l e s m args below meth c A H locs ls hC hnm hZ hl
  obtain ⟨hx, hb, hml, hown, hts, hr, hlocks, hK⟩ := id hC
  have hl : lv_has ls 4 [(0, .ref h0)] := hl
  have hZ : zz_Z g A s.heap [(h0, .inr (7, [.int 0, .int 0, .ref a_kindOf, .ref a_depthOf, .ref a_lengthOf, .ref a_classOf, .ref a_baseOf, .ref a_bits, .ref a_pinned, .int 0, .ref a_lengths, .ref a_stackArray, .ref a_stackOther, .ref a_stackAt, .int 0, .int 0, .ref a_path, .ref a_held, .ref a_alike, .ref a_hashes, .int 0, .ref a_decisionArray, .ref a_decisionPlace, .ref a_candidateMany, .ref a_candidates, .int 0, .ref a_ruleSort, .ref a_ruleArray, .ref a_ruleWeight, .ref a_ruleLow, .ref a_ruleHigh, .ref a_chosen, .ref a_bestOf, .int 0, .ref a_markElements, .ref a_markBits, .ref a_markPins]))] H locs := hZ
  refine lv_lconst (v := 1) hx hb dX8_ways_0 (by decide) ?_
  refine lv_lstore_n (lv' := [(1, .long 1), (0, .ref h0)]) hx hb dX8_ways_1 rfl hl (by decide) rfl (fun ls hl => ?_)
  refine lv_iconst (v := 0) hx hb dX8_ways_2 (by decide) ?_
  refine lv_istore_n (lv' := [(3, .int 0), (1, .long 1), (0, .ref h0)]) hx hb dX8_ways_3 rfl hl (by decide) rfl (fun ls hl => ?_)
  refine lv_iload_n hx hb dX8_ways_4 rfl (lv_at hl 0 rfl) ?_
  refine lv_aload_n hx hb dX8_ways_5 rfl (lv_at hl 2 rfl) ?_
  refine zz_get hC hZ 0 rfl zf_X8_248 rfl dX8_ways_6 ?_
  refine lv_icmp_ge (tgt := 43) hx hb dX8_ways_9 (by decide) (fun c1 => ?_) (fun c => absurd (by decide) c)
  refine lv_lload_n hx hb dX8_ways_43 rfl (lv_at hl 1 rfl) ?_
  refine lv_l2i (v := 1) hx hb dX8_ways_44 (by decide) ?_
  exact zz_iret hC hZ (⟨rfl, rfl⟩) (Nat.le_of_ble_eq_true rfl) (Nat.le_of_ble_eq_true rfl) dX8_ways_45
theorem dX8_score_0 : decode cX8_score 0 = .ok (.lconst 0, 1) := by decide +kernel
theorem dX8_score_1 : decode cX8_score 1 = .ok (.lstore_n 1, 1) := by decide +kernel
theorem dX8_score_2 : decode cX8_score 2 = .ok (.iconst 0, 1) := by decide +kernel
theorem dX8_score_3 : decode cX8_score 3 = .ok (.istore_n 3, 1) := by decide +kernel
theorem dX8_score_4 : decode cX8_score 4 = .ok (.iload_n 3, 1) := by decide +kernel
theorem dX8_score_5 : decode cX8_score 5 = .ok (.aload_n 0, 1) := by decide +kernel
theorem dX8_score_6 : decode cX8_score 6 = .ok (.getfield 265, 3) := by decide +kernel
theorem zk_760 : Cond.fieldLink RX8 265 RX8 "rules" "I" ∈ zz_w := zz_in (List.mem_append_right _ (List.mem_append_right _ (List.mem_append_right _ (List.mem_append_right _ (List.mem_append_left _ (List.mem_of_getElem? (i := 40) (by decide +kernel))))))) rfl
theorem zf_X8_265 : zz_f RX8 265 7 25 := ⟨RX8, TX8, 37, rfl, zi_X8, by decide, zk_760⟩
theorem dX8_score_9 : decode cX8_score 9 = .ok (.if_icmp .ge 25, 3) := by decide +kernel
theorem dX8_score_34 : decode cX8_score 34 = .ok (.lload_n 1, 1) := by decide +kernel
theorem dX8_score_35 : decode cX8_score 35 = .ok (.lreturn, 1) := by decide +kernel
abbrev rm_cm_score0 : Room := { frames := 0, cells := 0, slots := 0, locals := 0 }
abbrev po_cm_score0 (g : zz_G) (h0 : Nat) (a_kindOf : Nat) (a_depthOf : Nat) (a_lengthOf : Nat) (a_classOf : Nat) (a_baseOf : Nat) (a_bits : Nat) (a_pinned : Nat) (a_lengths : Nat) (a_stackArray : Nat) (a_stackOther : Nat) (a_stackAt : Nat) (a_path : Nat) (a_held : Nat) (a_alike : Nat) (a_hashes : Nat) (a_decisionArray : Nat) (a_decisionPlace : Nat) (a_candidateMany : Nat) (a_candidates : Nat) (a_ruleSort : Nat) (a_ruleArray : Nat) (a_ruleWeight : Nat) (a_ruleLow : Nat) (a_ruleHigh : Nat) (a_chosen : Nat) (a_bestOf : Nat) (a_markElements : Nat) (a_markBits : Nat) (a_markPins : Nat) : Int64 → va_W → Prop := fun (r : Int64) (u : va_W) => r = 0 ∧ u = [(h0, .inr (7, [.int 0, .int 0, .ref a_kindOf, .ref a_depthOf, .ref a_lengthOf, .ref a_classOf, .ref a_baseOf, .ref a_bits, .ref a_pinned, .int 0, .ref a_lengths, .ref a_stackArray, .ref a_stackOther, .ref a_stackAt, .int 0, .int 0, .ref a_path, .ref a_held, .ref a_alike, .ref a_hashes, .int 0, .ref a_decisionArray, .ref a_decisionPlace, .ref a_candidateMany, .ref a_candidates, .int 0, .ref a_ruleSort, .ref a_ruleArray, .ref a_ruleWeight, .ref a_ruleLow, .ref a_ruleHigh, .ref a_chosen, .ref a_bestOf, .int 0, .ref a_markElements, .ref a_markBits, .ref a_markPins]))]
set_option maxHeartbeats 4000000 in
set_option maxRecDepth 100000 in
theorem cm_score0 (g : zz_G) (h0 : Nat) (a_kindOf : Nat) (a_depthOf : Nat) (a_lengthOf : Nat) (a_classOf : Nat) (a_baseOf : Nat) (a_bits : Nat) (a_pinned : Nat) (a_lengths : Nat) (a_stackArray : Nat) (a_stackOther : Nat) (a_stackAt : Nat) (a_path : Nat) (a_held : Nat) (a_alike : Nat) (a_hashes : Nat) (a_decisionArray : Nat) (a_decisionPlace : Nat) (a_candidateMany : Nat) (a_candidates : Nat) (a_ruleSort : Nat) (a_ruleArray : Nat) (a_ruleWeight : Nat) (a_ruleLow : Nat) (a_ruleHigh : Nat) (a_chosen : Nat) (a_bestOf : Nat) (a_markElements : Nat) (a_markBits : Nat) (a_markPins : Nat) : zz_L g yX8_score (.code yX8_score cX8_score 4 (some .long)) rm_cm_score0 [.ref h0] [(h0, .inr (7, [.int 0, .int 0, .ref a_kindOf, .ref a_depthOf, .ref a_lengthOf, .ref a_classOf, .ref a_baseOf, .ref a_bits, .ref a_pinned, .int 0, .ref a_lengths, .ref a_stackArray, .ref a_stackOther, .ref a_stackAt, .int 0, .int 0, .ref a_path, .ref a_held, .ref a_alike, .ref a_hashes, .int 0, .ref a_decisionArray, .ref a_decisionPlace, .ref a_candidateMany, .ref a_candidates, .int 0, .ref a_ruleSort, .ref a_ruleArray, .ref a_ruleWeight, .ref a_ruleLow, .ref a_ruleHigh, .ref a_chosen, .ref a_bestOf, .int 0, .ref a_markElements, .ref a_markBits, .ref a_markPins]))] (po_cm_score0 g h0 a_kindOf a_depthOf a_lengthOf a_classOf a_baseOf a_bits a_pinned a_lengths a_stackArray a_stackOther a_stackAt a_path a_held a_alike a_hashes a_decisionArray a_decisionPlace a_candidateMany a_candidates a_ruleSort a_ruleArray a_ruleWeight a_ruleLow a_ruleHigh a_chosen a_bestOf a_markElements a_markBits a_markPins) := by
  refine zz_L.intro (own := RX8) (cc := cX8_score) (nL := 4) (by decide) rfl (Nat.le_of_ble_eq_true rfl) ?_
  intro p l e s m args below meth c A H locs ls hC hnm hZ hl
  obtain ⟨hx, hb, hml, hown, hts, hr, hlocks, hK⟩ := id hC
  have hl : lv_has ls 4 [(0, .ref h0)] := hl
  have hZ : zz_Z g A s.heap [(h0, .inr (7, [.int 0, .int 0, .ref a_kindOf, .ref a_depthOf, .ref a_lengthOf, .ref a_classOf, .ref a_baseOf, .ref a_bits, .ref a_pinned, .int 0, .ref a_lengths, .ref a_stackArray, .ref a_stackOther, .ref a_stackAt, .int 0, .int 0, .ref a_path, .ref a_held, .ref a_alike, .ref a_hashes, .int 0, .ref a_decisionArray, .ref a_decisionPlace, .ref a_candidateMany, .ref a_candidates, .int 0, .ref a_ruleSort, .ref a_ruleArray, .ref a_ruleWeight, .ref a_ruleLow, .ref a_ruleHigh, .ref a_chosen, .ref a_bestOf, .int 0, .ref a_markElements, .ref a_markBits, .ref a_markPins]))] H locs := hZ
  refine lv_lconst (v := 0) hx hb dX8_score_0 (by decide) ?_
  refine lv_lstore_n (lv' := [(1, .long 0), (0, .ref h0)]) hx hb dX8_score_1 rfl hl (by decide) rfl (fun ls hl => ?_)
  refine lv_iconst (v := 0) hx hb dX8_score_2 (by decide) ?_
  refine lv_istore_n (lv' := [(3, .int 0), (1, .long 0), (0, .ref h0)]) hx hb dX8_score_3 rfl hl (by decide) rfl (fun ls hl => ?_)
  refine lv_iload_n hx hb dX8_score_4 rfl (lv_at hl 0 rfl) ?_
  refine lv_aload_n hx hb dX8_score_5 rfl (lv_at hl 2 rfl) ?_
  refine zz_get hC hZ 0 rfl zf_X8_265 rfl dX8_score_6 ?_
  refine lv_icmp_ge (tgt := 34) hx hb dX8_score_9 (by decide) (fun c1 => ?_) (fun c => absurd (by decide) c)
  refine lv_lload_n hx hb dX8_score_34 rfl (lv_at hl 1 rfl) ?_
  exact zz_lret hC hZ (⟨rfl, rfl⟩) (Nat.le_of_ble_eq_true rfl) (Nat.le_of_ble_eq_true rfl) dX8_score_35
theorem dX8_rows_0 : decode cX8_rows 0 = .ok (.aload_n 0, 1) := by decide +kernel
theorem dX8_rows_1 : decode cX8_rows 1 = .ok (.iload_n 1, 1) := by decide +kernel
theorem dX8_rows_2 : decode cX8_rows 2 = .ok (.invokevirtual 200, 3) := by decide +kernel
theorem zk_893 : Cond.methodLink RX8 200 yX8_isArray ∈ zz_w := zz_in (List.mem_append_right _ (List.mem_append_right _ (List.mem_append_right _ (List.mem_append_right _ (List.mem_append_left _ (List.mem_of_getElem? (i := 173) (by decide +kernel))))))) rfl
set_option maxRecDepth 20000 in
theorem zk_896 : Cond.code yX8_isArray cX8_isArray 2 (some .boolean) ∈ zz_w := zz_in (List.mem_append_right _ (List.mem_append_right _ (List.mem_append_right _ (List.mem_append_right _ (List.mem_append_left _ (List.mem_of_getElem? (i := 176) (rfl))))))) rfl
theorem zk_895 : Cond.instanceMethod yX8_isArray ∈ zz_w := zz_in (List.mem_append_right _ (List.mem_append_right _ (List.mem_append_right _ (List.mem_append_right _ (List.mem_append_left _ (List.mem_of_getElem? (i := 175) (by decide +kernel))))))) rfl
theorem zs_22 : Cond.selects RX8 yX8_isArray yX8_isArray ∈ zz_w := zz_in (List.mem_append_left _ (List.mem_of_getElem? (i := 22) (by decide +kernel))) rfl
theorem zc_X8_200 : zz_cV RX8 200 yX8_isArray cX8_isArray 2 (some .boolean) 1 := ⟨⟨zk_893, zk_896, zk_7, by decide, by decide, by decide +kernel⟩, zk_895, zs_22⟩
theorem dX8_rows_5 : decode cX8_rows 5 = .ok (.ifCond .ne 9, 3) := by decide +kernel
theorem dX8_rows_8 : decode cX8_rows 8 = .ok (.aload_n 0, 1) := by decide +kernel
theorem dX8_rows_9 : decode cX8_rows 9 = .ok (.iconst 5, 1) := by decide +kernel
theorem dX8_rows_10 : decode cX8_rows 10 = .ok (.invokevirtual 175, 3) := by decide +kernel
theorem zk_855 : Cond.methodLink RX8 175 yX8_fails ∈ zz_w := zz_in (List.mem_append_right _ (List.mem_append_right _ (List.mem_append_right _ (List.mem_append_right _ (List.mem_append_left _ (List.mem_of_getElem? (i := 135) (by decide +kernel))))))) rfl
set_option maxRecDepth 20000 in
theorem zk_858 : Cond.code yX8_fails cX8_fails 2 (some .int) ∈ zz_w := zz_in (List.mem_append_right _ (List.mem_append_right _ (List.mem_append_right _ (List.mem_append_right _ (List.mem_append_left _ (List.mem_of_getElem? (i := 138) (rfl))))))) rfl
theorem zk_857 : Cond.instanceMethod yX8_fails ∈ zz_w := zz_in (List.mem_append_right _ (List.mem_append_right _ (List.mem_append_right _ (List.mem_append_right _ (List.mem_append_left _ (List.mem_of_getElem? (i := 137) (by decide +kernel))))))) rfl
theorem zs_18 : Cond.selects RX8 yX8_fails yX8_fails ∈ zz_w := zz_in (List.mem_append_left _ (List.mem_of_getElem? (i := 18) (by decide +kernel))) rfl
theorem zc_X8_175 : zz_cV RX8 175 yX8_fails cX8_fails 2 (some .int) 1 := ⟨⟨zk_855, zk_858, zk_7, by decide, by decide, by decide +kernel⟩, zk_857, zs_18⟩
theorem dX8_rows_13 : decode cX8_rows 13 = .ok (.ireturn, 1) := by decide +kernel
def fn_my_rows  : Int32 := -5
abbrev rm_my_rows : Room := { frames := 2, cells := 0, slots := 0, locals := 46 }
abbrev po_my_rows (g : zz_G) (h0 : Nat) (a_kindOf : Nat) (a_depthOf : Nat) (a_lengthOf : Nat) (a_classOf : Nat) (a_baseOf : Nat) (a_bits : Nat) (a_pinned : Nat) (a_lengths : Nat) (a_stackArray : Nat) (a_stackOther : Nat) (a_stackAt : Nat) (a_path : Nat) (a_held : Nat) (a_alike : Nat) (a_hashes : Nat) (a_decisionArray : Nat) (a_decisionPlace : Nat) (a_candidateMany : Nat) (a_candidates : Nat) (a_ruleSort : Nat) (a_ruleArray : Nat) (a_ruleWeight : Nat) (a_ruleLow : Nat) (a_ruleHigh : Nat) (a_chosen : Nat) (a_bestOf : Nat) (a_markElements : Nat) (a_markBits : Nat) (a_markPins : Nat) (x1 : Int32) (x2 : Int32) : Int32 → va_W → Prop := fun (r : Int32) (u : va_W) => r = fn_my_rows
set_option maxHeartbeats 4000000 in
set_option maxRecDepth 100000 in
theorem my_rows (g : zz_G) (h0 : Nat) (a_kindOf : Nat) (a_depthOf : Nat) (a_lengthOf : Nat) (a_classOf : Nat) (a_baseOf : Nat) (a_bits : Nat) (a_pinned : Nat) (a_lengths : Nat) (a_stackArray : Nat) (a_stackOther : Nat) (a_stackAt : Nat) (a_path : Nat) (a_held : Nat) (a_alike : Nat) (a_hashes : Nat) (a_decisionArray : Nat) (a_decisionPlace : Nat) (a_candidateMany : Nat) (a_candidates : Nat) (a_ruleSort : Nat) (a_ruleArray : Nat) (a_ruleWeight : Nat) (a_ruleLow : Nat) (a_ruleHigh : Nat) (a_chosen : Nat) (a_bestOf : Nat) (a_markElements : Nat) (a_markBits : Nat) (a_markPins : Nat) (x1 : Int32) (x2 : Int32) : zz_I g yX8_rows (.code yX8_rows cX8_rows 3 (some .int)) rm_my_rows [.ref h0, .int x1, .int x2] [(h0, .inr (7, [.int 0, .int 0, .ref a_kindOf, .ref a_depthOf, .ref a_lengthOf, .ref a_classOf, .ref a_baseOf, .ref a_bits, .ref a_pinned, .int 0, .ref a_lengths, .ref a_stackArray, .ref a_stackOther, .ref a_stackAt, .int 0, .int 0, .ref a_path, .ref a_held, .ref a_alike, .ref a_hashes, .int 0, .ref a_decisionArray, .ref a_decisionPlace, .ref a_candidateMany, .ref a_candidates, .int 0, .ref a_ruleSort, .ref a_ruleArray, .ref a_ruleWeight, .ref a_ruleLow, .ref a_ruleHigh, .ref a_chosen, .ref a_bestOf, .int 0, .ref a_markElements, .ref a_markBits, .ref a_markPins]))] (po_my_rows g h0 a_kindOf a_depthOf a_lengthOf a_classOf a_baseOf a_bits a_pinned a_lengths a_stackArray a_stackOther a_stackAt a_path a_held a_alike a_hashes a_decisionArray a_decisionPlace a_candidateMany a_candidates a_ruleSort a_ruleArray a_ruleWeight a_ruleLow a_ruleHigh a_chosen a_bestOf a_markElements a_markBits a_markPins x1 x2) := by
  refine zz_I.intro (own := RX8) (cc := cX8_rows) (nL := 3) (by decide) rfl (Nat.le_of_ble_eq_true rfl) ?_
  intro p l e s m args below meth c A H locs ls hC hnm hZ hl
  obtain ⟨hx, hb, hml, hown, hts, hr, hlocks, hK⟩ := id hC
  have hl : lv_has ls 3 [(0, .ref h0), (1, .int x1), (2, .int x2)] := hl
  have hZ : zz_Z g A s.heap [(h0, .inr (7, [.int 0, .int 0, .ref a_kindOf, .ref a_depthOf, .ref a_lengthOf, .ref a_classOf, .ref a_baseOf, .ref a_bits, .ref a_pinned, .int 0, .ref a_lengths, .ref a_stackArray, .ref a_stackOther, .ref a_stackAt, .int 0, .int 0, .ref a_path, .ref a_held, .ref a_alike, .ref a_hashes, .int 0, .ref a_decisionArray, .ref a_decisionPlace, .ref a_candidateMany, .ref a_candidates, .int 0, .ref a_ruleSort, .ref a_ruleArray, .ref a_ruleWeight, .ref a_ruleLow, .ref a_ruleHigh, .ref a_chosen, .ref a_bestOf, .int 0, .ref a_markElements, .ref a_markBits, .ref a_markPins]))] H locs := hZ
  refine lv_aload_n hx hb dX8_rows_0 rfl (lv_at hl 0 rfl) ?_
  refine lv_iload_n hx hb dX8_rows_1 rfl (lv_at hl 1 rfl) ?_
  refine zz_iV (As := [.int x1]) (wc := [(h0, .inr (7, [.int 0, .int 0, .ref a_kindOf, .ref a_depthOf, .ref a_lengthOf, .ref a_classOf, .ref a_baseOf, .ref a_bits, .ref a_pinned, .int 0, .ref a_lengths, .ref a_stackArray, .ref a_stackOther, .ref a_stackAt, .int 0, .int 0, .ref a_path, .ref a_held, .ref a_alike, .ref a_hashes, .int 0, .ref a_decisionArray, .ref a_decisionPlace, .ref a_candidateMany, .ref a_candidates, .int 0, .ref a_ruleSort, .ref a_ruleArray, .ref a_ruleWeight, .ref a_ruleLow, .ref a_ruleHigh, .ref a_chosen, .ref a_bestOf, .int 0, .ref a_markElements, .ref a_markBits, .ref a_markPins]))]) (wr := []) (rest := []) hC hZ hl zc_X8_200 (cm_isArray0 g h0 a_kindOf a_depthOf a_lengthOf a_classOf a_baseOf a_bits a_pinned a_lengths a_stackArray a_stackOther a_stackAt a_path a_held a_alike a_hashes a_decisionArray a_decisionPlace a_candidateMany a_candidates a_ruleSort a_ruleArray a_ruleWeight a_ruleLow a_ruleHigh a_chosen a_bestOf a_markElements a_markBits a_markPins 0 0 0 0 0 0 0 x1) [0] [] rfl rfl (by decide) (ci := 7) (q0 := 0) rfl rfl rfl rfl (Nat.le_of_ble_eq_true rfl) ⟨⟨Nat.le_of_ble_eq_true rfl, Nat.le_of_ble_eq_true rfl⟩, Nat.le_of_ble_eq_true rfl, Nat.le_of_ble_eq_true rfl⟩ dX8_rows_2 (fun r1 u2 H locs hp hZ => ?_)
  obtain ⟨rfl, rfl⟩ := hp
  have hZ : zz_Z g A s.heap [(h0, .inr (7, [.int 0, .int 0, .ref a_kindOf, .ref a_depthOf, .ref a_lengthOf, .ref a_classOf, .ref a_baseOf, .ref a_bits, .ref a_pinned, .int 0, .ref a_lengths, .ref a_stackArray, .ref a_stackOther, .ref a_stackAt, .int 0, .int 0, .ref a_path, .ref a_held, .ref a_alike, .ref a_hashes, .int 0, .ref a_decisionArray, .ref a_decisionPlace, .ref a_candidateMany, .ref a_candidates, .int 0, .ref a_ruleSort, .ref a_ruleArray, .ref a_ruleWeight, .ref a_ruleLow, .ref a_ruleHigh, .ref a_chosen, .ref a_bestOf, .int 0, .ref a_markElements, .ref a_markBits, .ref a_markPins]))] H locs := hZ
  refine lv_if_ne (tgt := 14) hx hb dX8_rows_5 (by decide) (fun c => absurd (by decide) c) (fun c3 => ?_)
  refine lv_aload_n hx hb dX8_rows_8 rfl (lv_at hl 0 rfl) ?_
  refine lv_iconst (v := 5) hx hb dX8_rows_9 (by decide) ?_
  refine zz_iV (As := [.int 5]) (wc := [(h0, .inr (7, [.int 0, .int 0, .ref a_kindOf, .ref a_depthOf, .ref a_lengthOf, .ref a_classOf, .ref a_baseOf, .ref a_bits, .ref a_pinned, .int 0, .ref a_lengths, .ref a_stackArray, .ref a_stackOther, .ref a_stackAt, .int 0, .int 0, .ref a_path, .ref a_held, .ref a_alike, .ref a_hashes, .int 0, .ref a_decisionArray, .ref a_decisionPlace, .ref a_candidateMany, .ref a_candidates, .int 0, .ref a_ruleSort, .ref a_ruleArray, .ref a_ruleWeight, .ref a_ruleLow, .ref a_ruleHigh, .ref a_chosen, .ref a_bestOf, .int 0, .ref a_markElements, .ref a_markBits, .ref a_markPins]))]) (wr := []) (rest := []) hC hZ hl zc_X8_175 (cm_fails g h0 a_kindOf a_depthOf a_lengthOf a_classOf a_baseOf a_bits a_pinned a_lengths a_stackArray a_stackOther a_stackAt a_path a_held a_alike a_hashes a_decisionArray a_decisionPlace a_candidateMany a_candidates a_ruleSort a_ruleArray a_ruleWeight a_ruleLow a_ruleHigh a_chosen a_bestOf a_markElements a_markBits a_markPins 0 0 0 0 0 0 0 0 5) [0] [] rfl rfl (by decide) (ci := 7) (q0 := 0) rfl rfl rfl rfl (Nat.le_of_ble_eq_true rfl) ⟨⟨Nat.le_of_ble_eq_true rfl, Nat.le_of_ble_eq_true rfl⟩, Nat.le_of_ble_eq_true rfl, Nat.le_of_ble_eq_true rfl⟩ dX8_rows_10 (fun r4 u5 H locs hp hZ => ?_)
  obtain ⟨rfl, rfl⟩ := hp
  have hZ : zz_Z g A s.heap [(h0, .inr (7, [.int 0, .int 0, .ref a_kindOf, .ref a_depthOf, .ref a_lengthOf, .ref a_classOf, .ref a_baseOf, .ref a_bits, .ref a_pinned, .int 5, .ref a_lengths, .ref a_stackArray, .ref a_stackOther, .ref a_stackAt, .int 0, .int 0, .ref a_path, .ref a_held, .ref a_alike, .ref a_hashes, .int 0, .ref a_decisionArray, .ref a_decisionPlace, .ref a_candidateMany, .ref a_candidates, .int 0, .ref a_ruleSort, .ref a_ruleArray, .ref a_ruleWeight, .ref a_ruleLow, .ref a_ruleHigh, .ref a_chosen, .ref a_bestOf, .int 0, .ref a_markElements, .ref a_markBits, .ref a_markPins]))] H locs := hZ
  exact zz_iret hC hZ (rfl) (Nat.le_of_ble_eq_true rfl) (Nat.le_of_ble_eq_true rfl) dX8_rows_13
theorem dX8_about_0 : decode cX8_about 0 = .ok (.aload_n 0, 1) := by decide +kernel
theorem dX8_about_1 : decode cX8_about 1 = .ok (.iload_n 1, 1) := by decide +kernel
theorem dX8_about_2 : decode cX8_about 2 = .ok (.invokevirtual 200, 3) := by decide +kernel
theorem dX8_about_5 : decode cX8_about 5 = .ok (.ifCond .ne 9, 3) := by decide +kernel
theorem dX8_about_8 : decode cX8_about 8 = .ok (.aload_n 0, 1) := by decide +kernel
theorem dX8_about_9 : decode cX8_about 9 = .ok (.iconst 5, 1) := by decide +kernel
theorem dX8_about_10 : decode cX8_about 10 = .ok (.invokevirtual 175, 3) := by decide +kernel
theorem dX8_about_13 : decode cX8_about 13 = .ok (.ireturn, 1) := by decide +kernel
def fn_my_about  : Int32 := -5
abbrev rm_my_about : Room := { frames := 2, cells := 0, slots := 0, locals := 46 }
abbrev po_my_about (g : zz_G) (h0 : Nat) (a_kindOf : Nat) (a_depthOf : Nat) (a_lengthOf : Nat) (a_classOf : Nat) (a_baseOf : Nat) (a_bits : Nat) (a_pinned : Nat) (a_lengths : Nat) (a_stackArray : Nat) (a_stackOther : Nat) (a_stackAt : Nat) (a_path : Nat) (a_held : Nat) (a_alike : Nat) (a_hashes : Nat) (a_decisionArray : Nat) (a_decisionPlace : Nat) (a_candidateMany : Nat) (a_candidates : Nat) (a_ruleSort : Nat) (a_ruleArray : Nat) (a_ruleWeight : Nat) (a_ruleLow : Nat) (a_ruleHigh : Nat) (a_chosen : Nat) (a_bestOf : Nat) (a_markElements : Nat) (a_markBits : Nat) (a_markPins : Nat) (x1 : Int32) (x2 : Int32) : Int32 → va_W → Prop := fun (r : Int32) (u : va_W) => r = fn_my_about
set_option maxHeartbeats 4000000 in
set_option maxRecDepth 100000 in
theorem my_about (g : zz_G) (h0 : Nat) (a_kindOf : Nat) (a_depthOf : Nat) (a_lengthOf : Nat) (a_classOf : Nat) (a_baseOf : Nat) (a_bits : Nat) (a_pinned : Nat) (a_lengths : Nat) (a_stackArray : Nat) (a_stackOther : Nat) (a_stackAt : Nat) (a_path : Nat) (a_held : Nat) (a_alike : Nat) (a_hashes : Nat) (a_decisionArray : Nat) (a_decisionPlace : Nat) (a_candidateMany : Nat) (a_candidates : Nat) (a_ruleSort : Nat) (a_ruleArray : Nat) (a_ruleWeight : Nat) (a_ruleLow : Nat) (a_ruleHigh : Nat) (a_chosen : Nat) (a_bestOf : Nat) (a_markElements : Nat) (a_markBits : Nat) (a_markPins : Nat) (x1 : Int32) (x2 : Int32) : zz_I g yX8_about (.code yX8_about cX8_about 5 (some .int)) rm_my_about [.ref h0, .int x1, .int x2] [(h0, .inr (7, [.int 0, .int 0, .ref a_kindOf, .ref a_depthOf, .ref a_lengthOf, .ref a_classOf, .ref a_baseOf, .ref a_bits, .ref a_pinned, .int 0, .ref a_lengths, .ref a_stackArray, .ref a_stackOther, .ref a_stackAt, .int 0, .int 0, .ref a_path, .ref a_held, .ref a_alike, .ref a_hashes, .int 0, .ref a_decisionArray, .ref a_decisionPlace, .ref a_candidateMany, .ref a_candidates, .int 0, .ref a_ruleSort, .ref a_ruleArray, .ref a_ruleWeight, .ref a_ruleLow, .ref a_ruleHigh, .ref a_chosen, .ref a_bestOf, .int 0, .ref a_markElements, .ref a_markBits, .ref a_markPins]))] (po_my_about g h0 a_kindOf a_depthOf a_lengthOf a_classOf a_baseOf a_bits a_pinned a_lengths a_stackArray a_stackOther a_stackAt a_path a_held a_alike a_hashes a_decisionArray a_decisionPlace a_candidateMany a_candidates a_ruleSort a_ruleArray a_ruleWeight a_ruleLow a_ruleHigh a_chosen a_bestOf a_markElements a_markBits a_markPins x1 x2) := by
  refine zz_I.intro (own := RX8) (cc := cX8_about) (nL := 5) (by decide) rfl (Nat.le_of_ble_eq_true rfl) ?_
  intro p l e s m args below meth c A H locs ls hC hnm hZ hl
  obtain ⟨hx, hb, hml, hown, hts, hr, hlocks, hK⟩ := id hC
  have hl : lv_has ls 5 [(0, .ref h0), (1, .int x1), (2, .int x2)] := hl
  have hZ : zz_Z g A s.heap [(h0, .inr (7, [.int 0, .int 0, .ref a_kindOf, .ref a_depthOf, .ref a_lengthOf, .ref a_classOf, .ref a_baseOf, .ref a_bits, .ref a_pinned, .int 0, .ref a_lengths, .ref a_stackArray, .ref a_stackOther, .ref a_stackAt, .int 0, .int 0, .ref a_path, .ref a_held, .ref a_alike, .ref a_hashes, .int 0, .ref a_decisionArray, .ref a_decisionPlace, .ref a_candidateMany, .ref a_candidates, .int 0, .ref a_ruleSort, .ref a_ruleArray, .ref a_ruleWeight, .ref a_ruleLow, .ref a_ruleHigh, .ref a_chosen, .ref a_bestOf, .int 0, .ref a_markElements, .ref a_markBits, .ref a_markPins]))] H locs := hZ
  refine lv_aload_n hx hb dX8_about_0 rfl (lv_at hl 0 rfl) ?_
  refine lv_iload_n hx hb dX8_about_1 rfl (lv_at hl 1 rfl) ?_
  refine zz_iV (As := [.int x1]) (wc := [(h0, .inr (7, [.int 0, .int 0, .ref a_kindOf, .ref a_depthOf, .ref a_lengthOf, .ref a_classOf, .ref a_baseOf, .ref a_bits, .ref a_pinned, .int 0, .ref a_lengths, .ref a_stackArray, .ref a_stackOther, .ref a_stackAt, .int 0, .int 0, .ref a_path, .ref a_held, .ref a_alike, .ref a_hashes, .int 0, .ref a_decisionArray, .ref a_decisionPlace, .ref a_candidateMany, .ref a_candidates, .int 0, .ref a_ruleSort, .ref a_ruleArray, .ref a_ruleWeight, .ref a_ruleLow, .ref a_ruleHigh, .ref a_chosen, .ref a_bestOf, .int 0, .ref a_markElements, .ref a_markBits, .ref a_markPins]))]) (wr := []) (rest := []) hC hZ hl zc_X8_200 (cm_isArray0 g h0 a_kindOf a_depthOf a_lengthOf a_classOf a_baseOf a_bits a_pinned a_lengths a_stackArray a_stackOther a_stackAt a_path a_held a_alike a_hashes a_decisionArray a_decisionPlace a_candidateMany a_candidates a_ruleSort a_ruleArray a_ruleWeight a_ruleLow a_ruleHigh a_chosen a_bestOf a_markElements a_markBits a_markPins 0 0 0 0 0 0 0 x1) [0] [] rfl rfl (by decide) (ci := 7) (q0 := 0) rfl rfl rfl rfl (Nat.le_of_ble_eq_true rfl) ⟨⟨Nat.le_of_ble_eq_true rfl, Nat.le_of_ble_eq_true rfl⟩, Nat.le_of_ble_eq_true rfl, Nat.le_of_ble_eq_true rfl⟩ dX8_about_2 (fun r1 u2 H locs hp hZ => ?_)
  obtain ⟨rfl, rfl⟩ := hp
  have hZ : zz_Z g A s.heap [(h0, .inr (7, [.int 0, .int 0, .ref a_kindOf, .ref a_depthOf, .ref a_lengthOf, .ref a_classOf, .ref a_baseOf, .ref a_bits, .ref a_pinned, .int 0, .ref a_lengths, .ref a_stackArray, .ref a_stackOther, .ref a_stackAt, .int 0, .int 0, .ref a_path, .ref a_held, .ref a_alike, .ref a_hashes, .int 0, .ref a_decisionArray, .ref a_decisionPlace, .ref a_candidateMany, .ref a_candidates, .int 0, .ref a_ruleSort, .ref a_ruleArray, .ref a_ruleWeight, .ref a_ruleLow, .ref a_ruleHigh, .ref a_chosen, .ref a_bestOf, .int 0, .ref a_markElements, .ref a_markBits, .ref a_markPins]))] H locs := hZ
  refine lv_if_ne (tgt := 14) hx hb dX8_about_5 (by decide) (fun c => absurd (by decide) c) (fun c3 => ?_)
  refine lv_aload_n hx hb dX8_about_8 rfl (lv_at hl 0 rfl) ?_
  refine lv_iconst (v := 5) hx hb dX8_about_9 (by decide) ?_
  refine zz_iV (As := [.int 5]) (wc := [(h0, .inr (7, [.int 0, .int 0, .ref a_kindOf, .ref a_depthOf, .ref a_lengthOf, .ref a_classOf, .ref a_baseOf, .ref a_bits, .ref a_pinned, .int 0, .ref a_lengths, .ref a_stackArray, .ref a_stackOther, .ref a_stackAt, .int 0, .int 0, .ref a_path, .ref a_held, .ref a_alike, .ref a_hashes, .int 0, .ref a_decisionArray, .ref a_decisionPlace, .ref a_candidateMany, .ref a_candidates, .int 0, .ref a_ruleSort, .ref a_ruleArray, .ref a_ruleWeight, .ref a_ruleLow, .ref a_ruleHigh, .ref a_chosen, .ref a_bestOf, .int 0, .ref a_markElements, .ref a_markBits, .ref a_markPins]))]) (wr := []) (rest := []) hC hZ hl zc_X8_175 (cm_fails g h0 a_kindOf a_depthOf a_lengthOf a_classOf a_baseOf a_bits a_pinned a_lengths a_stackArray a_stackOther a_stackAt a_path a_held a_alike a_hashes a_decisionArray a_decisionPlace a_candidateMany a_candidates a_ruleSort a_ruleArray a_ruleWeight a_ruleLow a_ruleHigh a_chosen a_bestOf a_markElements a_markBits a_markPins 0 0 0 0 0 0 0 0 5) [0] [] rfl rfl (by decide) (ci := 7) (q0 := 0) rfl rfl rfl rfl (Nat.le_of_ble_eq_true rfl) ⟨⟨Nat.le_of_ble_eq_true rfl, Nat.le_of_ble_eq_true rfl⟩, Nat.le_of_ble_eq_true rfl, Nat.le_of_ble_eq_true rfl⟩ dX8_about_10 (fun r4 u5 H locs hp hZ => ?_)
  obtain ⟨rfl, rfl⟩ := hp
  have hZ : zz_Z g A s.heap [(h0, .inr (7, [.int 0, .int 0, .ref a_kindOf, .ref a_depthOf, .ref a_lengthOf, .ref a_classOf, .ref a_baseOf, .ref a_bits, .ref a_pinned, .int 5, .ref a_lengths, .ref a_stackArray, .ref a_stackOther, .ref a_stackAt, .int 0, .int 0, .ref a_path, .ref a_held, .ref a_alike, .ref a_hashes, .int 0, .ref a_decisionArray, .ref a_decisionPlace, .ref a_candidateMany, .ref a_candidates, .int 0, .ref a_ruleSort, .ref a_ruleArray, .ref a_ruleWeight, .ref a_ruleLow, .ref a_ruleHigh, .ref a_chosen, .ref a_bestOf, .int 0, .ref a_markElements, .ref a_markBits, .ref a_markPins]))] H locs := hZ
  exact zz_iret hC hZ (rfl) (Nat.le_of_ble_eq_true rfl) (Nat.le_of_ble_eq_true rfl) dX8_about_13
theorem dX8_row_0 : decode cX8_row 0 = .ok (.aload_n 0, 1) := by decide +kernel
theorem dX8_row_1 : decode cX8_row 1 = .ok (.iload_n 1, 1) := by decide +kernel
theorem dX8_row_2 : decode cX8_row 2 = .ok (.invokevirtual 200, 3) := by decide +kernel
theorem dX8_row_5 : decode cX8_row 5 = .ok (.ifCond .ne 7, 3) := by decide +kernel
theorem dX8_row_8 : decode cX8_row 8 = .ok (.iconst 5, 1) := by decide +kernel
theorem dX8_row_9 : decode cX8_row 9 = .ok (.goto 40, 3) := by decide +kernel
theorem dX8_row_49 : decode cX8_row 49 = .ok (.istore_n 3, 1) := by decide +kernel
theorem dX8_row_50 : decode cX8_row 50 = .ok (.aload_n 0, 1) := by decide +kernel
theorem dX8_row_51 : decode cX8_row 51 = .ok (.iload_n 3, 1) := by decide +kernel
theorem dX8_row_52 : decode cX8_row 52 = .ok (.putfield 99, 3) := by decide +kernel
theorem dX8_row_55 : decode cX8_row 55 = .ok (.iload_n 3, 1) := by decide +kernel
theorem dX8_row_56 : decode cX8_row 56 = .ok (.ifCond .le 7, 3) := by decide +kernel
theorem dX8_row_59 : decode cX8_row 59 = .ok (.iconst (-1), 1) := by decide +kernel
theorem dX8_row_60 : decode cX8_row 60 = .ok (.goto 17, 3) := by decide +kernel
theorem dX8_row_77 : decode cX8_row 77 = .ok (.ireturn, 1) := by decide +kernel
def fn_my_row  : Int32 := -1
abbrev rm_my_row : Room := { frames := 2, cells := 0, slots := 0, locals := 46 }
abbrev po_my_row (g : zz_G) (h0 : Nat) (a_kindOf : Nat) (a_depthOf : Nat) (a_lengthOf : Nat) (a_classOf : Nat) (a_baseOf : Nat) (a_bits : Nat) (a_pinned : Nat) (a_lengths : Nat) (a_stackArray : Nat) (a_stackOther : Nat) (a_stackAt : Nat) (a_path : Nat) (a_held : Nat) (a_alike : Nat) (a_hashes : Nat) (a_decisionArray : Nat) (a_decisionPlace : Nat) (a_candidateMany : Nat) (a_candidates : Nat) (a_ruleSort : Nat) (a_ruleArray : Nat) (a_ruleWeight : Nat) (a_ruleLow : Nat) (a_ruleHigh : Nat) (a_chosen : Nat) (a_bestOf : Nat) (a_markElements : Nat) (a_markBits : Nat) (a_markPins : Nat) (x1 : Int32) (x2 : Int32) : Int32 → va_W → Prop := fun (r : Int32) (u : va_W) => r = fn_my_row
set_option maxHeartbeats 4000000 in
set_option maxRecDepth 100000 in
theorem my_row (g : zz_G) (h0 : Nat) (a_kindOf : Nat) (a_depthOf : Nat) (a_lengthOf : Nat) (a_classOf : Nat) (a_baseOf : Nat) (a_bits : Nat) (a_pinned : Nat) (a_lengths : Nat) (a_stackArray : Nat) (a_stackOther : Nat) (a_stackAt : Nat) (a_path : Nat) (a_held : Nat) (a_alike : Nat) (a_hashes : Nat) (a_decisionArray : Nat) (a_decisionPlace : Nat) (a_candidateMany : Nat) (a_candidates : Nat) (a_ruleSort : Nat) (a_ruleArray : Nat) (a_ruleWeight : Nat) (a_ruleLow : Nat) (a_ruleHigh : Nat) (a_chosen : Nat) (a_bestOf : Nat) (a_markElements : Nat) (a_markBits : Nat) (a_markPins : Nat) (x1 : Int32) (x2 : Int32) : zz_I g yX8_row (.code yX8_row cX8_row 4 (some .int)) rm_my_row [.ref h0, .int x1, .int x2] [(h0, .inr (7, [.int 0, .int 0, .ref a_kindOf, .ref a_depthOf, .ref a_lengthOf, .ref a_classOf, .ref a_baseOf, .ref a_bits, .ref a_pinned, .int 0, .ref a_lengths, .ref a_stackArray, .ref a_stackOther, .ref a_stackAt, .int 0, .int 0, .ref a_path, .ref a_held, .ref a_alike, .ref a_hashes, .int 0, .ref a_decisionArray, .ref a_decisionPlace, .ref a_candidateMany, .ref a_candidates, .int 0, .ref a_ruleSort, .ref a_ruleArray, .ref a_ruleWeight, .ref a_ruleLow, .ref a_ruleHigh, .ref a_chosen, .ref a_bestOf, .int 0, .ref a_markElements, .ref a_markBits, .ref a_markPins]))] (po_my_row g h0 a_kindOf a_depthOf a_lengthOf a_classOf a_baseOf a_bits a_pinned a_lengths a_stackArray a_stackOther a_stackAt a_path a_held a_alike a_hashes a_decisionArray a_decisionPlace a_candidateMany a_candidates a_ruleSort a_ruleArray a_ruleWeight a_ruleLow a_ruleHigh a_chosen a_bestOf a_markElements a_markBits a_markPins x1 x2) := by
  refine zz_I.intro (own := RX8) (cc := cX8_row) (nL := 4) (by decide) rfl (Nat.le_of_ble_eq_true rfl) ?_
  intro p l e s m args below meth c A H locs ls hC hnm hZ hl
  obtain ⟨hx, hb, hml, hown, hts, hr, hlocks, hK⟩ := id hC
  have hl : lv_has ls 4 [(0, .ref h0), (1, .int x1), (2, .int x2)] := hl
  have hZ : zz_Z g A s.heap [(h0, .inr (7, [.int 0, .int 0, .ref a_kindOf, .ref a_depthOf, .ref a_lengthOf, .ref a_classOf, .ref a_baseOf, .ref a_bits, .ref a_pinned, .int 0, .ref a_lengths, .ref a_stackArray, .ref a_stackOther, .ref a_stackAt, .int 0, .int 0, .ref a_path, .ref a_held, .ref a_alike, .ref a_hashes, .int 0, .ref a_decisionArray, .ref a_decisionPlace, .ref a_candidateMany, .ref a_candidates, .int 0, .ref a_ruleSort, .ref a_ruleArray, .ref a_ruleWeight, .ref a_ruleLow, .ref a_ruleHigh, .ref a_chosen, .ref a_bestOf, .int 0, .ref a_markElements, .ref a_markBits, .ref a_markPins]))] H locs := hZ
  refine lv_aload_n hx hb dX8_row_0 rfl (lv_at hl 0 rfl) ?_
  refine lv_iload_n hx hb dX8_row_1 rfl (lv_at hl 1 rfl) ?_
  refine zz_iV (As := [.int x1]) (wc := [(h0, .inr (7, [.int 0, .int 0, .ref a_kindOf, .ref a_depthOf, .ref a_lengthOf, .ref a_classOf, .ref a_baseOf, .ref a_bits, .ref a_pinned, .int 0, .ref a_lengths, .ref a_stackArray, .ref a_stackOther, .ref a_stackAt, .int 0, .int 0, .ref a_path, .ref a_held, .ref a_alike, .ref a_hashes, .int 0, .ref a_decisionArray, .ref a_decisionPlace, .ref a_candidateMany, .ref a_candidates, .int 0, .ref a_ruleSort, .ref a_ruleArray, .ref a_ruleWeight, .ref a_ruleLow, .ref a_ruleHigh, .ref a_chosen, .ref a_bestOf, .int 0, .ref a_markElements, .ref a_markBits, .ref a_markPins]))]) (wr := []) (rest := []) hC hZ hl zc_X8_200 (cm_isArray0 g h0 a_kindOf a_depthOf a_lengthOf a_classOf a_baseOf a_bits a_pinned a_lengths a_stackArray a_stackOther a_stackAt a_path a_held a_alike a_hashes a_decisionArray a_decisionPlace a_candidateMany a_candidates a_ruleSort a_ruleArray a_ruleWeight a_ruleLow a_ruleHigh a_chosen a_bestOf a_markElements a_markBits a_markPins 0 0 0 0 0 0 0 x1) [0] [] rfl rfl (by decide) (ci := 7) (q0 := 0) rfl rfl rfl rfl (Nat.le_of_ble_eq_true rfl) ⟨⟨Nat.le_of_ble_eq_true rfl, Nat.le_of_ble_eq_true rfl⟩, Nat.le_of_ble_eq_true rfl, Nat.le_of_ble_eq_true rfl⟩ dX8_row_2 (fun r1 u2 H locs hp hZ => ?_)
  obtain ⟨rfl, rfl⟩ := hp
  have hZ : zz_Z g A s.heap [(h0, .inr (7, [.int 0, .int 0, .ref a_kindOf, .ref a_depthOf, .ref a_lengthOf, .ref a_classOf, .ref a_baseOf, .ref a_bits, .ref a_pinned, .int 0, .ref a_lengths, .ref a_stackArray, .ref a_stackOther, .ref a_stackAt, .int 0, .int 0, .ref a_path, .ref a_held, .ref a_alike, .ref a_hashes, .int 0, .ref a_decisionArray, .ref a_decisionPlace, .ref a_candidateMany, .ref a_candidates, .int 0, .ref a_ruleSort, .ref a_ruleArray, .ref a_ruleWeight, .ref a_ruleLow, .ref a_ruleHigh, .ref a_chosen, .ref a_bestOf, .int 0, .ref a_markElements, .ref a_markBits, .ref a_markPins]))] H locs := hZ
  refine lv_if_ne (tgt := 12) hx hb dX8_row_5 (by decide) (fun c => absurd (by decide) c) (fun c3 => ?_)
  refine lv_iconst (v := 5) hx hb dX8_row_8 (by decide) ?_
  refine lv_goto (tgt := 49) hx hb dX8_row_9 (by decide) ?_
  refine lv_istore_n (lv' := [(3, .int 5), (0, .ref h0), (1, .int x1), (2, .int x2)]) hx hb dX8_row_49 rfl hl (by decide) rfl (fun ls hl => ?_)
  refine lv_aload_n hx hb dX8_row_50 rfl (lv_at hl 1 rfl) ?_
  refine lv_iload_n hx hb dX8_row_51 rfl (lv_at hl 0 rfl) ?_
  refine zz_put hC hZ 0 rfl zu_X8_99 (Nat.le_of_ble_eq_true rfl) dX8_row_52 (fun H locs hZ => ?_)
  have hZ : zz_Z g A s.heap [(h0, .inr (7, [.int 0, .int 0, .ref a_kindOf, .ref a_depthOf, .ref a_lengthOf, .ref a_classOf, .ref a_baseOf, .ref a_bits, .ref a_pinned, .int 5, .ref a_lengths, .ref a_stackArray, .ref a_stackOther, .ref a_stackAt, .int 0, .int 0, .ref a_path, .ref a_held, .ref a_alike, .ref a_hashes, .int 0, .ref a_decisionArray, .ref a_decisionPlace, .ref a_candidateMany, .ref a_candidates, .int 0, .ref a_ruleSort, .ref a_ruleArray, .ref a_ruleWeight, .ref a_ruleLow, .ref a_ruleHigh, .ref a_chosen, .ref a_bestOf, .int 0, .ref a_markElements, .ref a_markBits, .ref a_markPins]))] H locs := hZ
  refine lv_iload_n hx hb dX8_row_55 rfl (lv_at hl 0 rfl) ?_
  refine lv_if_le (tgt := 63) hx hb dX8_row_56 (by decide) (fun c => absurd c (by decide)) (fun c4 => ?_)
  refine lv_iconst (v := -1) hx hb dX8_row_59 (by decide) ?_
  refine lv_goto (tgt := 77) hx hb dX8_row_60 (by decide) ?_
  exact zz_iret hC hZ (rfl) (Nat.le_of_ble_eq_true rfl) (Nat.le_of_ble_eq_true rfl) dX8_row_77
theorem dX8_setRow_0 : decode cX8_setRow 0 = .ok (.aload_n 0, 1) := by decide +kernel
theorem dX8_setRow_1 : decode cX8_setRow 1 = .ok (.iload_n 1, 1) := by decide +kernel
theorem dX8_setRow_2 : decode cX8_setRow 2 = .ok (.invokevirtual 200, 3) := by decide +kernel
theorem dX8_setRow_5 : decode cX8_setRow 5 = .ok (.ifCond .eq 16, 3) := by decide +kernel
theorem dX8_setRow_21 : decode cX8_setRow 21 = .ok (.aload_n 0, 1) := by decide +kernel
theorem dX8_setRow_22 : decode cX8_setRow 22 = .ok (.iconst 5, 1) := by decide +kernel
theorem dX8_setRow_23 : decode cX8_setRow 23 = .ok (.invokevirtual 175, 3) := by decide +kernel
theorem dX8_setRow_26 : decode cX8_setRow 26 = .ok (.ireturn, 1) := by decide +kernel
def fn_my_setRow  : Int32 := -5
abbrev rm_my_setRow : Room := { frames := 2, cells := 0, slots := 0, locals := 46 }
abbrev po_my_setRow (g : zz_G) (h0 : Nat) (a_kindOf : Nat) (a_depthOf : Nat) (a_lengthOf : Nat) (a_classOf : Nat) (a_baseOf : Nat) (a_bits : Nat) (a_pinned : Nat) (a_lengths : Nat) (a_stackArray : Nat) (a_stackOther : Nat) (a_stackAt : Nat) (a_path : Nat) (a_held : Nat) (a_alike : Nat) (a_hashes : Nat) (a_decisionArray : Nat) (a_decisionPlace : Nat) (a_candidateMany : Nat) (a_candidates : Nat) (a_ruleSort : Nat) (a_ruleArray : Nat) (a_ruleWeight : Nat) (a_ruleLow : Nat) (a_ruleHigh : Nat) (a_chosen : Nat) (a_bestOf : Nat) (a_markElements : Nat) (a_markBits : Nat) (a_markPins : Nat) (x1 : Int32) (x2 : Int32) (x3 : Int32) : Int32 → va_W → Prop := fun (r : Int32) (u : va_W) => r = fn_my_setRow
set_option maxHeartbeats 4000000 in
set_option maxRecDepth 100000 in
theorem my_setRow (g : zz_G) (h0 : Nat) (a_kindOf : Nat) (a_depthOf : Nat) (a_lengthOf : Nat) (a_classOf : Nat) (a_baseOf : Nat) (a_bits : Nat) (a_pinned : Nat) (a_lengths : Nat) (a_stackArray : Nat) (a_stackOther : Nat) (a_stackAt : Nat) (a_path : Nat) (a_held : Nat) (a_alike : Nat) (a_hashes : Nat) (a_decisionArray : Nat) (a_decisionPlace : Nat) (a_candidateMany : Nat) (a_candidates : Nat) (a_ruleSort : Nat) (a_ruleArray : Nat) (a_ruleWeight : Nat) (a_ruleLow : Nat) (a_ruleHigh : Nat) (a_chosen : Nat) (a_bestOf : Nat) (a_markElements : Nat) (a_markBits : Nat) (a_markPins : Nat) (x1 : Int32) (x2 : Int32) (x3 : Int32) : zz_I g yX8_setRow (.code yX8_setRow cX8_setRow 4 (some .int)) rm_my_setRow [.ref h0, .int x1, .int x2, .int x3] [(h0, .inr (7, [.int 0, .int 0, .ref a_kindOf, .ref a_depthOf, .ref a_lengthOf, .ref a_classOf, .ref a_baseOf, .ref a_bits, .ref a_pinned, .int 0, .ref a_lengths, .ref a_stackArray, .ref a_stackOther, .ref a_stackAt, .int 0, .int 0, .ref a_path, .ref a_held, .ref a_alike, .ref a_hashes, .int 0, .ref a_decisionArray, .ref a_decisionPlace, .ref a_candidateMany, .ref a_candidates, .int 0, .ref a_ruleSort, .ref a_ruleArray, .ref a_ruleWeight, .ref a_ruleLow, .ref a_ruleHigh, .ref a_chosen, .ref a_bestOf, .int 0, .ref a_markElements, .ref a_markBits, .ref a_markPins]))] (po_my_setRow g h0 a_kindOf a_depthOf a_lengthOf a_classOf a_baseOf a_bits a_pinned a_lengths a_stackArray a_stackOther a_stackAt a_path a_held a_alike a_hashes a_decisionArray a_decisionPlace a_candidateMany a_candidates a_ruleSort a_ruleArray a_ruleWeight a_ruleLow a_ruleHigh a_chosen a_bestOf a_markElements a_markBits a_markPins x1 x2 x3) := by
  refine zz_I.intro (own := RX8) (cc := cX8_setRow) (nL := 4) (by decide) rfl (Nat.le_of_ble_eq_true rfl) ?_
  intro p l e s m args below meth c A H locs ls hC hnm hZ hl
  obtain ⟨hx, hb, hml, hown, hts, hr, hlocks, hK⟩ := id hC
  have hl : lv_has ls 4 [(0, .ref h0), (1, .int x1), (2, .int x2), (3, .int x3)] := hl
  have hZ : zz_Z g A s.heap [(h0, .inr (7, [.int 0, .int 0, .ref a_kindOf, .ref a_depthOf, .ref a_lengthOf, .ref a_classOf, .ref a_baseOf, .ref a_bits, .ref a_pinned, .int 0, .ref a_lengths, .ref a_stackArray, .ref a_stackOther, .ref a_stackAt, .int 0, .int 0, .ref a_path, .ref a_held, .ref a_alike, .ref a_hashes, .int 0, .ref a_decisionArray, .ref a_decisionPlace, .ref a_candidateMany, .ref a_candidates, .int 0, .ref a_ruleSort, .ref a_ruleArray, .ref a_ruleWeight, .ref a_ruleLow, .ref a_ruleHigh, .ref a_chosen, .ref a_bestOf, .int 0, .ref a_markElements, .ref a_markBits, .ref a_markPins]))] H locs := hZ
  refine lv_aload_n hx hb dX8_setRow_0 rfl (lv_at hl 0 rfl) ?_
  refine lv_iload_n hx hb dX8_setRow_1 rfl (lv_at hl 1 rfl) ?_
  refine zz_iV (As := [.int x1]) (wc := [(h0, .inr (7, [.int 0, .int 0, .ref a_kindOf, .ref a_depthOf, .ref a_lengthOf, .ref a_classOf, .ref a_baseOf, .ref a_bits, .ref a_pinned, .int 0, .ref a_lengths, .ref a_stackArray, .ref a_stackOther, .ref a_stackAt, .int 0, .int 0, .ref a_path, .ref a_held, .ref a_alike, .ref a_hashes, .int 0, .ref a_decisionArray, .ref a_decisionPlace, .ref a_candidateMany, .ref a_candidates, .int 0, .ref a_ruleSort, .ref a_ruleArray, .ref a_ruleWeight, .ref a_ruleLow, .ref a_ruleHigh, .ref a_chosen, .ref a_bestOf, .int 0, .ref a_markElements, .ref a_markBits, .ref a_markPins]))]) (wr := []) (rest := []) hC hZ hl zc_X8_200 (cm_isArray0 g h0 a_kindOf a_depthOf a_lengthOf a_classOf a_baseOf a_bits a_pinned a_lengths a_stackArray a_stackOther a_stackAt a_path a_held a_alike a_hashes a_decisionArray a_decisionPlace a_candidateMany a_candidates a_ruleSort a_ruleArray a_ruleWeight a_ruleLow a_ruleHigh a_chosen a_bestOf a_markElements a_markBits a_markPins 0 0 0 0 0 0 0 x1) [0] [] rfl rfl (by decide) (ci := 7) (q0 := 0) rfl rfl rfl rfl (Nat.le_of_ble_eq_true rfl) ⟨⟨Nat.le_of_ble_eq_true rfl, Nat.le_of_ble_eq_true rfl⟩, Nat.le_of_ble_eq_true rfl, Nat.le_of_ble_eq_true rfl⟩ dX8_setRow_2 (fun r1 u2 H locs hp hZ => ?_)
  obtain ⟨rfl, rfl⟩ := hp
  have hZ : zz_Z g A s.heap [(h0, .inr (7, [.int 0, .int 0, .ref a_kindOf, .ref a_depthOf, .ref a_lengthOf, .ref a_classOf, .ref a_baseOf, .ref a_bits, .ref a_pinned, .int 0, .ref a_lengths, .ref a_stackArray, .ref a_stackOther, .ref a_stackAt, .int 0, .int 0, .ref a_path, .ref a_held, .ref a_alike, .ref a_hashes, .int 0, .ref a_decisionArray, .ref a_decisionPlace, .ref a_candidateMany, .ref a_candidates, .int 0, .ref a_ruleSort, .ref a_ruleArray, .ref a_ruleWeight, .ref a_ruleLow, .ref a_ruleHigh, .ref a_chosen, .ref a_bestOf, .int 0, .ref a_markElements, .ref a_markBits, .ref a_markPins]))] H locs := hZ
  refine lv_if_eq (tgt := 21) hx hb dX8_setRow_5 (by decide) (fun c3 => ?_) (fun c => absurd (by decide) c)
  refine lv_aload_n hx hb dX8_setRow_21 rfl (lv_at hl 0 rfl) ?_
  refine lv_iconst (v := 5) hx hb dX8_setRow_22 (by decide) ?_
  refine zz_iV (As := [.int 5]) (wc := [(h0, .inr (7, [.int 0, .int 0, .ref a_kindOf, .ref a_depthOf, .ref a_lengthOf, .ref a_classOf, .ref a_baseOf, .ref a_bits, .ref a_pinned, .int 0, .ref a_lengths, .ref a_stackArray, .ref a_stackOther, .ref a_stackAt, .int 0, .int 0, .ref a_path, .ref a_held, .ref a_alike, .ref a_hashes, .int 0, .ref a_decisionArray, .ref a_decisionPlace, .ref a_candidateMany, .ref a_candidates, .int 0, .ref a_ruleSort, .ref a_ruleArray, .ref a_ruleWeight, .ref a_ruleLow, .ref a_ruleHigh, .ref a_chosen, .ref a_bestOf, .int 0, .ref a_markElements, .ref a_markBits, .ref a_markPins]))]) (wr := []) (rest := []) hC hZ hl zc_X8_175 (cm_fails g h0 a_kindOf a_depthOf a_lengthOf a_classOf a_baseOf a_bits a_pinned a_lengths a_stackArray a_stackOther a_stackAt a_path a_held a_alike a_hashes a_decisionArray a_decisionPlace a_candidateMany a_candidates a_ruleSort a_ruleArray a_ruleWeight a_ruleLow a_ruleHigh a_chosen a_bestOf a_markElements a_markBits a_markPins 0 0 0 0 0 0 0 0 5) [0] [] rfl rfl (by decide) (ci := 7) (q0 := 0) rfl rfl rfl rfl (Nat.le_of_ble_eq_true rfl) ⟨⟨Nat.le_of_ble_eq_true rfl, Nat.le_of_ble_eq_true rfl⟩, Nat.le_of_ble_eq_true rfl, Nat.le_of_ble_eq_true rfl⟩ dX8_setRow_23 (fun r4 u5 H locs hp hZ => ?_)
  obtain ⟨rfl, rfl⟩ := hp
  have hZ : zz_Z g A s.heap [(h0, .inr (7, [.int 0, .int 0, .ref a_kindOf, .ref a_depthOf, .ref a_lengthOf, .ref a_classOf, .ref a_baseOf, .ref a_bits, .ref a_pinned, .int 5, .ref a_lengths, .ref a_stackArray, .ref a_stackOther, .ref a_stackAt, .int 0, .int 0, .ref a_path, .ref a_held, .ref a_alike, .ref a_hashes, .int 0, .ref a_decisionArray, .ref a_decisionPlace, .ref a_candidateMany, .ref a_candidates, .int 0, .ref a_ruleSort, .ref a_ruleArray, .ref a_ruleWeight, .ref a_ruleLow, .ref a_ruleHigh, .ref a_chosen, .ref a_bestOf, .int 0, .ref a_markElements, .ref a_markBits, .ref a_markPins]))] H locs := hZ
  exact zz_iret hC hZ (rfl) (Nat.le_of_ble_eq_true rfl) (Nat.le_of_ble_eq_true rfl) dX8_setRow_26
theorem dX8_read_0 : decode cX8_read 0 = .ok (.aload_n 0, 1) := by decide +kernel
theorem dX8_read_1 : decode cX8_read 1 = .ok (.iload_n 1, 1) := by decide +kernel
theorem dX8_read_2 : decode cX8_read 2 = .ok (.invokevirtual 200, 3) := by decide +kernel
theorem dX8_read_5 : decode cX8_read 5 = .ok (.ifCond .ne 7, 3) := by decide +kernel
theorem dX8_read_8 : decode cX8_read 8 = .ok (.iconst 5, 1) := by decide +kernel
theorem dX8_read_9 : decode cX8_read 9 = .ok (.goto 32, 3) := by decide +kernel
theorem dX8_read_41 : decode cX8_read 41 = .ok (.istore 7, 2) := by decide +kernel
theorem dX8_read_43 : decode cX8_read 43 = .ok (.iload 7, 2) := by decide +kernel
theorem dX8_read_45 : decode cX8_read 45 = .ok (.ifCond .ne 21, 3) := by decide +kernel
theorem dX8_read_66 : decode cX8_read 66 = .ok (.iload 7, 2) := by decide +kernel
theorem dX8_read_68 : decode cX8_read 68 = .ok (.istore 7, 2) := by decide +kernel
theorem dX8_read_70 : decode cX8_read 70 = .ok (.aload_n 0, 1) := by decide +kernel
theorem dX8_read_71 : decode cX8_read 71 = .ok (.iload 7, 2) := by decide +kernel
theorem dX8_read_73 : decode cX8_read 73 = .ok (.putfield 99, 3) := by decide +kernel
theorem dX8_read_76 : decode cX8_read 76 = .ok (.iload 7, 2) := by decide +kernel
theorem dX8_read_78 : decode cX8_read 78 = .ok (.ifCond .le 7, 3) := by decide +kernel
theorem dX8_read_81 : decode cX8_read 81 = .ok (.lconst 0, 1) := by decide +kernel
theorem dX8_read_82 : decode cX8_read 82 = .ok (.goto 23, 3) := by decide +kernel
theorem dX8_read_105 : decode cX8_read 105 = .ok (.lreturn, 1) := by decide +kernel
def fn_my_read  : Int64 := 0
abbrev rm_my_read : Room := { frames := 2, cells := 0, slots := 0, locals := 46 }
abbrev po_my_read (g : zz_G) (h0 : Nat) (a_kindOf : Nat) (a_depthOf : Nat) (a_lengthOf : Nat) (a_classOf : Nat) (a_baseOf : Nat) (a_bits : Nat) (a_pinned : Nat) (a_lengths : Nat) (a_stackArray : Nat) (a_stackOther : Nat) (a_stackAt : Nat) (a_path : Nat) (a_held : Nat) (a_alike : Nat) (a_hashes : Nat) (a_decisionArray : Nat) (a_decisionPlace : Nat) (a_candidateMany : Nat) (a_candidates : Nat) (a_ruleSort : Nat) (a_ruleArray : Nat) (a_ruleWeight : Nat) (a_ruleLow : Nat) (a_ruleHigh : Nat) (a_chosen : Nat) (a_bestOf : Nat) (a_markElements : Nat) (a_markBits : Nat) (a_markPins : Nat) (x1 : Int32) (x2 : Int32) (x3 : Int32) (x4 : Int32) (x5 : Int32) (x6 : Int32) : Int64 → va_W → Prop := fun (r : Int64) (u : va_W) => r = fn_my_read
set_option maxHeartbeats 4000000 in
set_option maxRecDepth 100000 in
theorem my_read (g : zz_G) (h0 : Nat) (a_kindOf : Nat) (a_depthOf : Nat) (a_lengthOf : Nat) (a_classOf : Nat) (a_baseOf : Nat) (a_bits : Nat) (a_pinned : Nat) (a_lengths : Nat) (a_stackArray : Nat) (a_stackOther : Nat) (a_stackAt : Nat) (a_path : Nat) (a_held : Nat) (a_alike : Nat) (a_hashes : Nat) (a_decisionArray : Nat) (a_decisionPlace : Nat) (a_candidateMany : Nat) (a_candidates : Nat) (a_ruleSort : Nat) (a_ruleArray : Nat) (a_ruleWeight : Nat) (a_ruleLow : Nat) (a_ruleHigh : Nat) (a_chosen : Nat) (a_bestOf : Nat) (a_markElements : Nat) (a_markBits : Nat) (a_markPins : Nat) (x1 : Int32) (x2 : Int32) (x3 : Int32) (x4 : Int32) (x5 : Int32) (x6 : Int32) : zz_L g yX8_read (.code yX8_read cX8_read 8 (some .long)) rm_my_read [.ref h0, .int x1, .int x2, .int x3, .int x4, .int x5, .int x6] [(h0, .inr (7, [.int 0, .int 0, .ref a_kindOf, .ref a_depthOf, .ref a_lengthOf, .ref a_classOf, .ref a_baseOf, .ref a_bits, .ref a_pinned, .int 0, .ref a_lengths, .ref a_stackArray, .ref a_stackOther, .ref a_stackAt, .int 0, .int 0, .ref a_path, .ref a_held, .ref a_alike, .ref a_hashes, .int 0, .ref a_decisionArray, .ref a_decisionPlace, .ref a_candidateMany, .ref a_candidates, .int 0, .ref a_ruleSort, .ref a_ruleArray, .ref a_ruleWeight, .ref a_ruleLow, .ref a_ruleHigh, .ref a_chosen, .ref a_bestOf, .int 0, .ref a_markElements, .ref a_markBits, .ref a_markPins]))] (po_my_read g h0 a_kindOf a_depthOf a_lengthOf a_classOf a_baseOf a_bits a_pinned a_lengths a_stackArray a_stackOther a_stackAt a_path a_held a_alike a_hashes a_decisionArray a_decisionPlace a_candidateMany a_candidates a_ruleSort a_ruleArray a_ruleWeight a_ruleLow a_ruleHigh a_chosen a_bestOf a_markElements a_markBits a_markPins x1 x2 x3 x4 x5 x6) := by
  refine zz_L.intro (own := RX8) (cc := cX8_read) (nL := 8) (by decide) rfl (Nat.le_of_ble_eq_true rfl) ?_
  intro p l e s m args below meth c A H locs ls hC hnm hZ hl
  obtain ⟨hx, hb, hml, hown, hts, hr, hlocks, hK⟩ := id hC
  have hl : lv_has ls 8 [(0, .ref h0), (1, .int x1), (2, .int x2), (3, .int x3), (4, .int x4), (5, .int x5), (6, .int x6)] := hl
  have hZ : zz_Z g A s.heap [(h0, .inr (7, [.int 0, .int 0, .ref a_kindOf, .ref a_depthOf, .ref a_lengthOf, .ref a_classOf, .ref a_baseOf, .ref a_bits, .ref a_pinned, .int 0, .ref a_lengths, .ref a_stackArray, .ref a_stackOther, .ref a_stackAt, .int 0, .int 0, .ref a_path, .ref a_held, .ref a_alike, .ref a_hashes, .int 0, .ref a_decisionArray, .ref a_decisionPlace, .ref a_candidateMany, .ref a_candidates, .int 0, .ref a_ruleSort, .ref a_ruleArray, .ref a_ruleWeight, .ref a_ruleLow, .ref a_ruleHigh, .ref a_chosen, .ref a_bestOf, .int 0, .ref a_markElements, .ref a_markBits, .ref a_markPins]))] H locs := hZ
  refine lv_aload_n hx hb dX8_read_0 rfl (lv_at hl 0 rfl) ?_
  refine lv_iload_n hx hb dX8_read_1 rfl (lv_at hl 1 rfl) ?_
  refine zz_iV (As := [.int x1]) (wc := [(h0, .inr (7, [.int 0, .int 0, .ref a_kindOf, .ref a_depthOf, .ref a_lengthOf, .ref a_classOf, .ref a_baseOf, .ref a_bits, .ref a_pinned, .int 0, .ref a_lengths, .ref a_stackArray, .ref a_stackOther, .ref a_stackAt, .int 0, .int 0, .ref a_path, .ref a_held, .ref a_alike, .ref a_hashes, .int 0, .ref a_decisionArray, .ref a_decisionPlace, .ref a_candidateMany, .ref a_candidates, .int 0, .ref a_ruleSort, .ref a_ruleArray, .ref a_ruleWeight, .ref a_ruleLow, .ref a_ruleHigh, .ref a_chosen, .ref a_bestOf, .int 0, .ref a_markElements, .ref a_markBits, .ref a_markPins]))]) (wr := []) (rest := []) hC hZ hl zc_X8_200 (cm_isArray0 g h0 a_kindOf a_depthOf a_lengthOf a_classOf a_baseOf a_bits a_pinned a_lengths a_stackArray a_stackOther a_stackAt a_path a_held a_alike a_hashes a_decisionArray a_decisionPlace a_candidateMany a_candidates a_ruleSort a_ruleArray a_ruleWeight a_ruleLow a_ruleHigh a_chosen a_bestOf a_markElements a_markBits a_markPins 0 0 0 0 0 0 0 x1) [0] [] rfl rfl (by decide) (ci := 7) (q0 := 0) rfl rfl rfl rfl (Nat.le_of_ble_eq_true rfl) ⟨⟨Nat.le_of_ble_eq_true rfl, Nat.le_of_ble_eq_true rfl⟩, Nat.le_of_ble_eq_true rfl, Nat.le_of_ble_eq_true rfl⟩ dX8_read_2 (fun r1 u2 H locs hp hZ => ?_)
  obtain ⟨rfl, rfl⟩ := hp
  have hZ : zz_Z g A s.heap [(h0, .inr (7, [.int 0, .int 0, .ref a_kindOf, .ref a_depthOf, .ref a_lengthOf, .ref a_classOf, .ref a_baseOf, .ref a_bits, .ref a_pinned, .int 0, .ref a_lengths, .ref a_stackArray, .ref a_stackOther, .ref a_stackAt, .int 0, .int 0, .ref a_path, .ref a_held, .ref a_alike, .ref a_hashes, .int 0, .ref a_decisionArray, .ref a_decisionPlace, .ref a_candidateMany, .ref a_candidates, .int 0, .ref a_ruleSort, .ref a_ruleArray, .ref a_ruleWeight, .ref a_ruleLow, .ref a_ruleHigh, .ref a_chosen, .ref a_bestOf, .int 0, .ref a_markElements, .ref a_markBits, .ref a_markPins]))] H locs := hZ
  refine lv_if_ne (tgt := 12) hx hb dX8_read_5 (by decide) (fun c => absurd (by decide) c) (fun c3 => ?_)
  refine lv_iconst (v := 5) hx hb dX8_read_8 (by decide) ?_
  refine lv_goto (tgt := 41) hx hb dX8_read_9 (by decide) ?_
  refine lv_istore (lv' := [(7, .int 5), (0, .ref h0), (1, .int x1), (2, .int x2), (3, .int x3), (4, .int x4), (5, .int x5), (6, .int x6)]) hx hb dX8_read_41 hl (by decide) rfl (fun ls hl => ?_)
  refine lv_iload hx hb dX8_read_43 (lv_at hl 0 rfl) ?_
  refine lv_if_ne (tgt := 66) hx hb dX8_read_45 (by decide) (fun c4 => ?_) (fun c => absurd c (by decide))
  refine lv_iload hx hb dX8_read_66 (lv_at hl 0 rfl) ?_
  refine lv_istore (lv' := [(7, .int 5), (0, .ref h0), (1, .int x1), (2, .int x2), (3, .int x3), (4, .int x4), (5, .int x5), (6, .int x6)]) hx hb dX8_read_68 hl (by decide) rfl (fun ls hl => ?_)
  refine lv_aload_n hx hb dX8_read_70 rfl (lv_at hl 1 rfl) ?_
  refine lv_iload hx hb dX8_read_71 (lv_at hl 0 rfl) ?_
  refine zz_put hC hZ 0 rfl zu_X8_99 (Nat.le_of_ble_eq_true rfl) dX8_read_73 (fun H locs hZ => ?_)
  have hZ : zz_Z g A s.heap [(h0, .inr (7, [.int 0, .int 0, .ref a_kindOf, .ref a_depthOf, .ref a_lengthOf, .ref a_classOf, .ref a_baseOf, .ref a_bits, .ref a_pinned, .int 5, .ref a_lengths, .ref a_stackArray, .ref a_stackOther, .ref a_stackAt, .int 0, .int 0, .ref a_path, .ref a_held, .ref a_alike, .ref a_hashes, .int 0, .ref a_decisionArray, .ref a_decisionPlace, .ref a_candidateMany, .ref a_candidates, .int 0, .ref a_ruleSort, .ref a_ruleArray, .ref a_ruleWeight, .ref a_ruleLow, .ref a_ruleHigh, .ref a_chosen, .ref a_bestOf, .int 0, .ref a_markElements, .ref a_markBits, .ref a_markPins]))] H locs := hZ
  refine lv_iload hx hb dX8_read_76 (lv_at hl 0 rfl) ?_
  refine lv_if_le (tgt := 85) hx hb dX8_read_78 (by decide) (fun c => absurd c (by decide)) (fun c5 => ?_)
  refine lv_lconst (v := 0) hx hb dX8_read_81 (by decide) ?_
  refine lv_goto (tgt := 105) hx hb dX8_read_82 (by decide) ?_
  exact zz_lret hC hZ (rfl) (Nat.le_of_ble_eq_true rfl) (Nat.le_of_ble_eq_true rfl) dX8_read_105
theorem dX8_write_0 : decode cX8_write 0 = .ok (.aload_n 0, 1) := by decide +kernel
theorem dX8_write_1 : decode cX8_write 1 = .ok (.iload_n 1, 1) := by decide +kernel
theorem dX8_write_2 : decode cX8_write 2 = .ok (.invokevirtual 200, 3) := by decide +kernel
theorem dX8_write_5 : decode cX8_write 5 = .ok (.ifCond .ne 7, 3) := by decide +kernel
theorem dX8_write_8 : decode cX8_write 8 = .ok (.iconst 5, 1) := by decide +kernel
theorem dX8_write_9 : decode cX8_write 9 = .ok (.goto 42, 3) := by decide +kernel
theorem dX8_write_51 : decode cX8_write 51 = .ok (.istore 9, 2) := by decide +kernel
theorem dX8_write_53 : decode cX8_write 53 = .ok (.iload 9, 2) := by decide +kernel
theorem dX8_write_55 : decode cX8_write 55 = .ok (.ifCond .ne 21, 3) := by decide +kernel
theorem dX8_write_76 : decode cX8_write 76 = .ok (.iload 9, 2) := by decide +kernel
theorem dX8_write_78 : decode cX8_write 78 = .ok (.istore 9, 2) := by decide +kernel
theorem dX8_write_80 : decode cX8_write 80 = .ok (.iload 9, 2) := by decide +kernel
theorem dX8_write_82 : decode cX8_write 82 = .ok (.ifCond .ne 20, 3) := by decide +kernel
theorem dX8_write_102 : decode cX8_write 102 = .ok (.iload 9, 2) := by decide +kernel
theorem dX8_write_104 : decode cX8_write 104 = .ok (.istore 9, 2) := by decide +kernel
theorem dX8_write_106 : decode cX8_write 106 = .ok (.iload 9, 2) := by decide +kernel
theorem dX8_write_108 : decode cX8_write 108 = .ok (.ifCond .ne 18, 3) := by decide +kernel
theorem dX8_write_126 : decode cX8_write 126 = .ok (.iload 9, 2) := by decide +kernel
theorem dX8_write_128 : decode cX8_write 128 = .ok (.istore 9, 2) := by decide +kernel
theorem dX8_write_130 : decode cX8_write 130 = .ok (.iload 9, 2) := by decide +kernel
theorem dX8_write_132 : decode cX8_write 132 = .ok (.ifCond .le 10, 3) := by decide +kernel
theorem dX8_write_135 : decode cX8_write 135 = .ok (.aload_n 0, 1) := by decide +kernel
theorem dX8_write_136 : decode cX8_write 136 = .ok (.iload 9, 2) := by decide +kernel
theorem dX8_write_138 : decode cX8_write 138 = .ok (.invokevirtual 175, 3) := by decide +kernel
theorem dX8_write_141 : decode cX8_write 141 = .ok (.ireturn, 1) := by decide +kernel
def fn_my_write  : Int32 := -5
abbrev rm_my_write : Room := { frames := 2, cells := 0, slots := 0, locals := 46 }
abbrev po_my_write (g : zz_G) (h0 : Nat) (a_kindOf : Nat) (a_depthOf : Nat) (a_lengthOf : Nat) (a_classOf : Nat) (a_baseOf : Nat) (a_bits : Nat) (a_pinned : Nat) (a_lengths : Nat) (a_stackArray : Nat) (a_stackOther : Nat) (a_stackAt : Nat) (a_path : Nat) (a_held : Nat) (a_alike : Nat) (a_hashes : Nat) (a_decisionArray : Nat) (a_decisionPlace : Nat) (a_candidateMany : Nat) (a_candidates : Nat) (a_ruleSort : Nat) (a_ruleArray : Nat) (a_ruleWeight : Nat) (a_ruleLow : Nat) (a_ruleHigh : Nat) (a_chosen : Nat) (a_bestOf : Nat) (a_markElements : Nat) (a_markBits : Nat) (a_markPins : Nat) (x1 : Int32) (x2 : Int32) (x3 : Int32) (x4 : Int32) (x5 : Int32) (x6 : Int32) (x7 : Int64) : Int32 → va_W → Prop := fun (r : Int32) (u : va_W) => r = fn_my_write
set_option maxHeartbeats 4000000 in
set_option maxRecDepth 100000 in
theorem my_write (g : zz_G) (h0 : Nat) (a_kindOf : Nat) (a_depthOf : Nat) (a_lengthOf : Nat) (a_classOf : Nat) (a_baseOf : Nat) (a_bits : Nat) (a_pinned : Nat) (a_lengths : Nat) (a_stackArray : Nat) (a_stackOther : Nat) (a_stackAt : Nat) (a_path : Nat) (a_held : Nat) (a_alike : Nat) (a_hashes : Nat) (a_decisionArray : Nat) (a_decisionPlace : Nat) (a_candidateMany : Nat) (a_candidates : Nat) (a_ruleSort : Nat) (a_ruleArray : Nat) (a_ruleWeight : Nat) (a_ruleLow : Nat) (a_ruleHigh : Nat) (a_chosen : Nat) (a_bestOf : Nat) (a_markElements : Nat) (a_markBits : Nat) (a_markPins : Nat) (x1 : Int32) (x2 : Int32) (x3 : Int32) (x4 : Int32) (x5 : Int32) (x6 : Int32) (x7 : Int64) : zz_I g yX8_write (.code yX8_write cX8_write 10 (some .int)) rm_my_write [.ref h0, .int x1, .int x2, .int x3, .int x4, .int x5, .int x6, .long x7] [(h0, .inr (7, [.int 0, .int 0, .ref a_kindOf, .ref a_depthOf, .ref a_lengthOf, .ref a_classOf, .ref a_baseOf, .ref a_bits, .ref a_pinned, .int 0, .ref a_lengths, .ref a_stackArray, .ref a_stackOther, .ref a_stackAt, .int 0, .int 0, .ref a_path, .ref a_held, .ref a_alike, .ref a_hashes, .int 0, .ref a_decisionArray, .ref a_decisionPlace, .ref a_candidateMany, .ref a_candidates, .int 0, .ref a_ruleSort, .ref a_ruleArray, .ref a_ruleWeight, .ref a_ruleLow, .ref a_ruleHigh, .ref a_chosen, .ref a_bestOf, .int 0, .ref a_markElements, .ref a_markBits, .ref a_markPins]))] (po_my_write g h0 a_kindOf a_depthOf a_lengthOf a_classOf a_baseOf a_bits a_pinned a_lengths a_stackArray a_stackOther a_stackAt a_path a_held a_alike a_hashes a_decisionArray a_decisionPlace a_candidateMany a_candidates a_ruleSort a_ruleArray a_ruleWeight a_ruleLow a_ruleHigh a_chosen a_bestOf a_markElements a_markBits a_markPins x1 x2 x3 x4 x5 x6 x7) := by
  refine zz_I.intro (own := RX8) (cc := cX8_write) (nL := 10) (by decide) rfl (Nat.le_of_ble_eq_true rfl) ?_
  intro p l e s m args below meth c A H locs ls hC hnm hZ hl
  obtain ⟨hx, hb, hml, hown, hts, hr, hlocks, hK⟩ := id hC
  have hl : lv_has ls 10 [(0, .ref h0), (1, .int x1), (2, .int x2), (3, .int x3), (4, .int x4), (5, .int x5), (6, .int x6), (7, .long x7)] := hl
  have hZ : zz_Z g A s.heap [(h0, .inr (7, [.int 0, .int 0, .ref a_kindOf, .ref a_depthOf, .ref a_lengthOf, .ref a_classOf, .ref a_baseOf, .ref a_bits, .ref a_pinned, .int 0, .ref a_lengths, .ref a_stackArray, .ref a_stackOther, .ref a_stackAt, .int 0, .int 0, .ref a_path, .ref a_held, .ref a_alike, .ref a_hashes, .int 0, .ref a_decisionArray, .ref a_decisionPlace, .ref a_candidateMany, .ref a_candidates, .int 0, .ref a_ruleSort, .ref a_ruleArray, .ref a_ruleWeight, .ref a_ruleLow, .ref a_ruleHigh, .ref a_chosen, .ref a_bestOf, .int 0, .ref a_markElements, .ref a_markBits, .ref a_markPins]))] H locs := hZ
  refine lv_aload_n hx hb dX8_write_0 rfl (lv_at hl 0 rfl) ?_
  refine lv_iload_n hx hb dX8_write_1 rfl (lv_at hl 1 rfl) ?_
  refine zz_iV (As := [.int x1]) (wc := [(h0, .inr (7, [.int 0, .int 0, .ref a_kindOf, .ref a_depthOf, .ref a_lengthOf, .ref a_classOf, .ref a_baseOf, .ref a_bits, .ref a_pinned, .int 0, .ref a_lengths, .ref a_stackArray, .ref a_stackOther, .ref a_stackAt, .int 0, .int 0, .ref a_path, .ref a_held, .ref a_alike, .ref a_hashes, .int 0, .ref a_decisionArray, .ref a_decisionPlace, .ref a_candidateMany, .ref a_candidates, .int 0, .ref a_ruleSort, .ref a_ruleArray, .ref a_ruleWeight, .ref a_ruleLow, .ref a_ruleHigh, .ref a_chosen, .ref a_bestOf, .int 0, .ref a_markElements, .ref a_markBits, .ref a_markPins]))]) (wr := []) (rest := []) hC hZ hl zc_X8_200 (cm_isArray0 g h0 a_kindOf a_depthOf a_lengthOf a_classOf a_baseOf a_bits a_pinned a_lengths a_stackArray a_stackOther a_stackAt a_path a_held a_alike a_hashes a_decisionArray a_decisionPlace a_candidateMany a_candidates a_ruleSort a_ruleArray a_ruleWeight a_ruleLow a_ruleHigh a_chosen a_bestOf a_markElements a_markBits a_markPins 0 0 0 0 0 0 0 x1) [0] [] rfl rfl (by decide) (ci := 7) (q0 := 0) rfl rfl rfl rfl (Nat.le_of_ble_eq_true rfl) ⟨⟨Nat.le_of_ble_eq_true rfl, Nat.le_of_ble_eq_true rfl⟩, Nat.le_of_ble_eq_true rfl, Nat.le_of_ble_eq_true rfl⟩ dX8_write_2 (fun r1 u2 H locs hp hZ => ?_)
  obtain ⟨rfl, rfl⟩ := hp
  have hZ : zz_Z g A s.heap [(h0, .inr (7, [.int 0, .int 0, .ref a_kindOf, .ref a_depthOf, .ref a_lengthOf, .ref a_classOf, .ref a_baseOf, .ref a_bits, .ref a_pinned, .int 0, .ref a_lengths, .ref a_stackArray, .ref a_stackOther, .ref a_stackAt, .int 0, .int 0, .ref a_path, .ref a_held, .ref a_alike, .ref a_hashes, .int 0, .ref a_decisionArray, .ref a_decisionPlace, .ref a_candidateMany, .ref a_candidates, .int 0, .ref a_ruleSort, .ref a_ruleArray, .ref a_ruleWeight, .ref a_ruleLow, .ref a_ruleHigh, .ref a_chosen, .ref a_bestOf, .int 0, .ref a_markElements, .ref a_markBits, .ref a_markPins]))] H locs := hZ
  refine lv_if_ne (tgt := 12) hx hb dX8_write_5 (by decide) (fun c => absurd (by decide) c) (fun c3 => ?_)
  refine lv_iconst (v := 5) hx hb dX8_write_8 (by decide) ?_
  refine lv_goto (tgt := 51) hx hb dX8_write_9 (by decide) ?_
  refine lv_istore (lv' := [(9, .int 5), (0, .ref h0), (1, .int x1), (2, .int x2), (3, .int x3), (4, .int x4), (5, .int x5), (6, .int x6), (7, .long x7)]) hx hb dX8_write_51 hl (by decide) rfl (fun ls hl => ?_)
  refine lv_iload hx hb dX8_write_53 (lv_at hl 0 rfl) ?_
  refine lv_if_ne (tgt := 76) hx hb dX8_write_55 (by decide) (fun c4 => ?_) (fun c => absurd c (by decide))
  refine lv_iload hx hb dX8_write_76 (lv_at hl 0 rfl) ?_
  refine lv_istore (lv' := [(9, .int 5), (0, .ref h0), (1, .int x1), (2, .int x2), (3, .int x3), (4, .int x4), (5, .int x5), (6, .int x6), (7, .long x7)]) hx hb dX8_write_78 hl (by decide) rfl (fun ls hl => ?_)
  refine lv_iload hx hb dX8_write_80 (lv_at hl 0 rfl) ?_
  refine lv_if_ne (tgt := 102) hx hb dX8_write_82 (by decide) (fun c5 => ?_) (fun c => absurd c (by decide))
  refine lv_iload hx hb dX8_write_102 (lv_at hl 0 rfl) ?_
  refine lv_istore (lv' := [(9, .int 5), (0, .ref h0), (1, .int x1), (2, .int x2), (3, .int x3), (4, .int x4), (5, .int x5), (6, .int x6), (7, .long x7)]) hx hb dX8_write_104 hl (by decide) rfl (fun ls hl => ?_)
  refine lv_iload hx hb dX8_write_106 (lv_at hl 0 rfl) ?_
  refine lv_if_ne (tgt := 126) hx hb dX8_write_108 (by decide) (fun c6 => ?_) (fun c => absurd c (by decide))
  refine lv_iload hx hb dX8_write_126 (lv_at hl 0 rfl) ?_
  refine lv_istore (lv' := [(9, .int 5), (0, .ref h0), (1, .int x1), (2, .int x2), (3, .int x3), (4, .int x4), (5, .int x5), (6, .int x6), (7, .long x7)]) hx hb dX8_write_128 hl (by decide) rfl (fun ls hl => ?_)
  refine lv_iload hx hb dX8_write_130 (lv_at hl 0 rfl) ?_
  refine lv_if_le (tgt := 142) hx hb dX8_write_132 (by decide) (fun c => absurd c (by decide)) (fun c7 => ?_)
  refine lv_aload_n hx hb dX8_write_135 rfl (lv_at hl 1 rfl) ?_
  refine lv_iload hx hb dX8_write_136 (lv_at hl 0 rfl) ?_
  refine zz_iV (As := [.int 5]) (wc := [(h0, .inr (7, [.int 0, .int 0, .ref a_kindOf, .ref a_depthOf, .ref a_lengthOf, .ref a_classOf, .ref a_baseOf, .ref a_bits, .ref a_pinned, .int 0, .ref a_lengths, .ref a_stackArray, .ref a_stackOther, .ref a_stackAt, .int 0, .int 0, .ref a_path, .ref a_held, .ref a_alike, .ref a_hashes, .int 0, .ref a_decisionArray, .ref a_decisionPlace, .ref a_candidateMany, .ref a_candidates, .int 0, .ref a_ruleSort, .ref a_ruleArray, .ref a_ruleWeight, .ref a_ruleLow, .ref a_ruleHigh, .ref a_chosen, .ref a_bestOf, .int 0, .ref a_markElements, .ref a_markBits, .ref a_markPins]))]) (wr := []) (rest := []) hC hZ hl zc_X8_175 (cm_fails g h0 a_kindOf a_depthOf a_lengthOf a_classOf a_baseOf a_bits a_pinned a_lengths a_stackArray a_stackOther a_stackAt a_path a_held a_alike a_hashes a_decisionArray a_decisionPlace a_candidateMany a_candidates a_ruleSort a_ruleArray a_ruleWeight a_ruleLow a_ruleHigh a_chosen a_bestOf a_markElements a_markBits a_markPins 0 0 0 0 0 0 0 0 5) [0] [] rfl rfl (by decide) (ci := 7) (q0 := 0) rfl rfl rfl rfl (Nat.le_of_ble_eq_true rfl) ⟨⟨Nat.le_of_ble_eq_true rfl, Nat.le_of_ble_eq_true rfl⟩, Nat.le_of_ble_eq_true rfl, Nat.le_of_ble_eq_true rfl⟩ dX8_write_138 (fun r8 u9 H locs hp hZ => ?_)
  obtain ⟨rfl, rfl⟩ := hp
  have hZ : zz_Z g A s.heap [(h0, .inr (7, [.int 0, .int 0, .ref a_kindOf, .ref a_depthOf, .ref a_lengthOf, .ref a_classOf, .ref a_baseOf, .ref a_bits, .ref a_pinned, .int 5, .ref a_lengths, .ref a_stackArray, .ref a_stackOther, .ref a_stackAt, .int 0, .int 0, .ref a_path, .ref a_held, .ref a_alike, .ref a_hashes, .int 0, .ref a_decisionArray, .ref a_decisionPlace, .ref a_candidateMany, .ref a_candidates, .int 0, .ref a_ruleSort, .ref a_ruleArray, .ref a_ruleWeight, .ref a_ruleLow, .ref a_ruleHigh, .ref a_chosen, .ref a_bestOf, .int 0, .ref a_markElements, .ref a_markBits, .ref a_markPins]))] H locs := hZ
  exact zz_iret hC hZ (rfl) (Nat.le_of_ble_eq_true rfl) (Nat.le_of_ble_eq_true rfl) dX8_write_141
theorem dX8_place_0 : decode cX8_place 0 = .ok (.aload_n 0, 1) := by decide +kernel
theorem dX8_place_1 : decode cX8_place 1 = .ok (.iload_n 1, 1) := by decide +kernel
theorem dX8_place_2 : decode cX8_place 2 = .ok (.invokevirtual 200, 3) := by decide +kernel
theorem dX8_place_5 : decode cX8_place 5 = .ok (.ifCond .ne 7, 3) := by decide +kernel
theorem dX8_place_8 : decode cX8_place 8 = .ok (.iconst 5, 1) := by decide +kernel
theorem dX8_place_9 : decode cX8_place 9 = .ok (.goto 14, 3) := by decide +kernel
theorem dX8_place_23 : decode cX8_place 23 = .ok (.istore 6, 2) := by decide +kernel
theorem dX8_place_25 : decode cX8_place 25 = .ok (.iload 6, 2) := by decide +kernel
theorem dX8_place_27 : decode cX8_place 27 = .ok (.ifCond .le 12, 3) := by decide +kernel
theorem dX8_place_30 : decode cX8_place 30 = .ok (.aload_n 0, 1) := by decide +kernel
theorem dX8_place_31 : decode cX8_place 31 = .ok (.iload 6, 2) := by decide +kernel
theorem dX8_place_33 : decode cX8_place 33 = .ok (.invokevirtual 175, 3) := by decide +kernel
theorem dX8_place_36 : decode cX8_place 36 = .ok (.goto 20, 3) := by decide +kernel
theorem dX8_place_56 : decode cX8_place 56 = .ok (.ireturn, 1) := by decide +kernel
def fn_my_place  : Int32 := -5
abbrev rm_my_place : Room := { frames := 2, cells := 0, slots := 0, locals := 46 }
abbrev po_my_place (g : zz_G) (h0 : Nat) (a_kindOf : Nat) (a_depthOf : Nat) (a_lengthOf : Nat) (a_classOf : Nat) (a_baseOf : Nat) (a_bits : Nat) (a_pinned : Nat) (a_lengths : Nat) (a_stackArray : Nat) (a_stackOther : Nat) (a_stackAt : Nat) (a_path : Nat) (a_held : Nat) (a_alike : Nat) (a_hashes : Nat) (a_decisionArray : Nat) (a_decisionPlace : Nat) (a_candidateMany : Nat) (a_candidates : Nat) (a_ruleSort : Nat) (a_ruleArray : Nat) (a_ruleWeight : Nat) (a_ruleLow : Nat) (a_ruleHigh : Nat) (a_chosen : Nat) (a_bestOf : Nat) (a_markElements : Nat) (a_markBits : Nat) (a_markPins : Nat) (x1 : Int32) (x2 : Int32) (x3 : Int32) (x4 : Int32) (x5 : Int32) : Int32 → va_W → Prop := fun (r : Int32) (u : va_W) => r = fn_my_place
set_option maxHeartbeats 4000000 in
set_option maxRecDepth 100000 in
theorem my_place (g : zz_G) (h0 : Nat) (a_kindOf : Nat) (a_depthOf : Nat) (a_lengthOf : Nat) (a_classOf : Nat) (a_baseOf : Nat) (a_bits : Nat) (a_pinned : Nat) (a_lengths : Nat) (a_stackArray : Nat) (a_stackOther : Nat) (a_stackAt : Nat) (a_path : Nat) (a_held : Nat) (a_alike : Nat) (a_hashes : Nat) (a_decisionArray : Nat) (a_decisionPlace : Nat) (a_candidateMany : Nat) (a_candidates : Nat) (a_ruleSort : Nat) (a_ruleArray : Nat) (a_ruleWeight : Nat) (a_ruleLow : Nat) (a_ruleHigh : Nat) (a_chosen : Nat) (a_bestOf : Nat) (a_markElements : Nat) (a_markBits : Nat) (a_markPins : Nat) (x1 : Int32) (x2 : Int32) (x3 : Int32) (x4 : Int32) (x5 : Int32) : zz_I g yX8_place (.code yX8_place cX8_place 7 (some .int)) rm_my_place [.ref h0, .int x1, .int x2, .int x3, .int x4, .int x5] [(h0, .inr (7, [.int 0, .int 0, .ref a_kindOf, .ref a_depthOf, .ref a_lengthOf, .ref a_classOf, .ref a_baseOf, .ref a_bits, .ref a_pinned, .int 0, .ref a_lengths, .ref a_stackArray, .ref a_stackOther, .ref a_stackAt, .int 0, .int 0, .ref a_path, .ref a_held, .ref a_alike, .ref a_hashes, .int 0, .ref a_decisionArray, .ref a_decisionPlace, .ref a_candidateMany, .ref a_candidates, .int 0, .ref a_ruleSort, .ref a_ruleArray, .ref a_ruleWeight, .ref a_ruleLow, .ref a_ruleHigh, .ref a_chosen, .ref a_bestOf, .int 0, .ref a_markElements, .ref a_markBits, .ref a_markPins]))] (po_my_place g h0 a_kindOf a_depthOf a_lengthOf a_classOf a_baseOf a_bits a_pinned a_lengths a_stackArray a_stackOther a_stackAt a_path a_held a_alike a_hashes a_decisionArray a_decisionPlace a_candidateMany a_candidates a_ruleSort a_ruleArray a_ruleWeight a_ruleLow a_ruleHigh a_chosen a_bestOf a_markElements a_markBits a_markPins x1 x2 x3 x4 x5) := by
  refine zz_I.intro (own := RX8) (cc := cX8_place) (nL := 7) (by decide) rfl (Nat.le_of_ble_eq_true rfl) ?_
  intro p l e s m args below meth c A H locs ls hC hnm hZ hl
  obtain ⟨hx, hb, hml, hown, hts, hr, hlocks, hK⟩ := id hC
  have hl : lv_has ls 7 [(0, .ref h0), (1, .int x1), (2, .int x2), (3, .int x3), (4, .int x4), (5, .int x5)] := hl
  have hZ : zz_Z g A s.heap [(h0, .inr (7, [.int 0, .int 0, .ref a_kindOf, .ref a_depthOf, .ref a_lengthOf, .ref a_classOf, .ref a_baseOf, .ref a_bits, .ref a_pinned, .int 0, .ref a_lengths, .ref a_stackArray, .ref a_stackOther, .ref a_stackAt, .int 0, .int 0, .ref a_path, .ref a_held, .ref a_alike, .ref a_hashes, .int 0, .ref a_decisionArray, .ref a_decisionPlace, .ref a_candidateMany, .ref a_candidates, .int 0, .ref a_ruleSort, .ref a_ruleArray, .ref a_ruleWeight, .ref a_ruleLow, .ref a_ruleHigh, .ref a_chosen, .ref a_bestOf, .int 0, .ref a_markElements, .ref a_markBits, .ref a_markPins]))] H locs := hZ
  refine lv_aload_n hx hb dX8_place_0 rfl (lv_at hl 0 rfl) ?_
  refine lv_iload_n hx hb dX8_place_1 rfl (lv_at hl 1 rfl) ?_
  refine zz_iV (As := [.int x1]) (wc := [(h0, .inr (7, [.int 0, .int 0, .ref a_kindOf, .ref a_depthOf, .ref a_lengthOf, .ref a_classOf, .ref a_baseOf, .ref a_bits, .ref a_pinned, .int 0, .ref a_lengths, .ref a_stackArray, .ref a_stackOther, .ref a_stackAt, .int 0, .int 0, .ref a_path, .ref a_held, .ref a_alike, .ref a_hashes, .int 0, .ref a_decisionArray, .ref a_decisionPlace, .ref a_candidateMany, .ref a_candidates, .int 0, .ref a_ruleSort, .ref a_ruleArray, .ref a_ruleWeight, .ref a_ruleLow, .ref a_ruleHigh, .ref a_chosen, .ref a_bestOf, .int 0, .ref a_markElements, .ref a_markBits, .ref a_markPins]))]) (wr := []) (rest := []) hC hZ hl zc_X8_200 (cm_isArray0 g h0 a_kindOf a_depthOf a_lengthOf a_classOf a_baseOf a_bits a_pinned a_lengths a_stackArray a_stackOther a_stackAt a_path a_held a_alike a_hashes a_decisionArray a_decisionPlace a_candidateMany a_candidates a_ruleSort a_ruleArray a_ruleWeight a_ruleLow a_ruleHigh a_chosen a_bestOf a_markElements a_markBits a_markPins 0 0 0 0 0 0 0 x1) [0] [] rfl rfl (by decide) (ci := 7) (q0 := 0) rfl rfl rfl rfl (Nat.le_of_ble_eq_true rfl) ⟨⟨Nat.le_of_ble_eq_true rfl, Nat.le_of_ble_eq_true rfl⟩, Nat.le_of_ble_eq_true rfl, Nat.le_of_ble_eq_true rfl⟩ dX8_place_2 (fun r1 u2 H locs hp hZ => ?_)
  obtain ⟨rfl, rfl⟩ := hp
  have hZ : zz_Z g A s.heap [(h0, .inr (7, [.int 0, .int 0, .ref a_kindOf, .ref a_depthOf, .ref a_lengthOf, .ref a_classOf, .ref a_baseOf, .ref a_bits, .ref a_pinned, .int 0, .ref a_lengths, .ref a_stackArray, .ref a_stackOther, .ref a_stackAt, .int 0, .int 0, .ref a_path, .ref a_held, .ref a_alike, .ref a_hashes, .int 0, .ref a_decisionArray, .ref a_decisionPlace, .ref a_candidateMany, .ref a_candidates, .int 0, .ref a_ruleSort, .ref a_ruleArray, .ref a_ruleWeight, .ref a_ruleLow, .ref a_ruleHigh, .ref a_chosen, .ref a_bestOf, .int 0, .ref a_markElements, .ref a_markBits, .ref a_markPins]))] H locs := hZ
  refine lv_if_ne (tgt := 12) hx hb dX8_place_5 (by decide) (fun c => absurd (by decide) c) (fun c3 => ?_)
  refine lv_iconst (v := 5) hx hb dX8_place_8 (by decide) ?_
  refine lv_goto (tgt := 23) hx hb dX8_place_9 (by decide) ?_
  refine lv_istore (lv' := [(6, .int 5), (0, .ref h0), (1, .int x1), (2, .int x2), (3, .int x3), (4, .int x4), (5, .int x5)]) hx hb dX8_place_23 hl (by decide) rfl (fun ls hl => ?_)
  refine lv_iload hx hb dX8_place_25 (lv_at hl 0 rfl) ?_
  refine lv_if_le (tgt := 39) hx hb dX8_place_27 (by decide) (fun c => absurd c (by decide)) (fun c4 => ?_)
  refine lv_aload_n hx hb dX8_place_30 rfl (lv_at hl 1 rfl) ?_
  refine lv_iload hx hb dX8_place_31 (lv_at hl 0 rfl) ?_
  refine zz_iV (As := [.int 5]) (wc := [(h0, .inr (7, [.int 0, .int 0, .ref a_kindOf, .ref a_depthOf, .ref a_lengthOf, .ref a_classOf, .ref a_baseOf, .ref a_bits, .ref a_pinned, .int 0, .ref a_lengths, .ref a_stackArray, .ref a_stackOther, .ref a_stackAt, .int 0, .int 0, .ref a_path, .ref a_held, .ref a_alike, .ref a_hashes, .int 0, .ref a_decisionArray, .ref a_decisionPlace, .ref a_candidateMany, .ref a_candidates, .int 0, .ref a_ruleSort, .ref a_ruleArray, .ref a_ruleWeight, .ref a_ruleLow, .ref a_ruleHigh, .ref a_chosen, .ref a_bestOf, .int 0, .ref a_markElements, .ref a_markBits, .ref a_markPins]))]) (wr := []) (rest := []) hC hZ hl zc_X8_175 (cm_fails g h0 a_kindOf a_depthOf a_lengthOf a_classOf a_baseOf a_bits a_pinned a_lengths a_stackArray a_stackOther a_stackAt a_path a_held a_alike a_hashes a_decisionArray a_decisionPlace a_candidateMany a_candidates a_ruleSort a_ruleArray a_ruleWeight a_ruleLow a_ruleHigh a_chosen a_bestOf a_markElements a_markBits a_markPins 0 0 0 0 0 0 0 0 5) [0] [] rfl rfl (by decide) (ci := 7) (q0 := 0) rfl rfl rfl rfl (Nat.le_of_ble_eq_true rfl) ⟨⟨Nat.le_of_ble_eq_true rfl, Nat.le_of_ble_eq_true rfl⟩, Nat.le_of_ble_eq_true rfl, Nat.le_of_ble_eq_true rfl⟩ dX8_place_33 (fun r5 u6 H locs hp hZ => ?_)
  obtain ⟨rfl, rfl⟩ := hp
  have hZ : zz_Z g A s.heap [(h0, .inr (7, [.int 0, .int 0, .ref a_kindOf, .ref a_depthOf, .ref a_lengthOf, .ref a_classOf, .ref a_baseOf, .ref a_bits, .ref a_pinned, .int 5, .ref a_lengths, .ref a_stackArray, .ref a_stackOther, .ref a_stackAt, .int 0, .int 0, .ref a_path, .ref a_held, .ref a_alike, .ref a_hashes, .int 0, .ref a_decisionArray, .ref a_decisionPlace, .ref a_candidateMany, .ref a_candidates, .int 0, .ref a_ruleSort, .ref a_ruleArray, .ref a_ruleWeight, .ref a_ruleLow, .ref a_ruleHigh, .ref a_chosen, .ref a_bestOf, .int 0, .ref a_markElements, .ref a_markBits, .ref a_markPins]))] H locs := hZ
  refine lv_goto (tgt := 56) hx hb dX8_place_36 (by decide) ?_
  exact zz_iret hC hZ (rfl) (Nat.le_of_ble_eq_true rfl) (Nat.le_of_ble_eq_true rfl) dX8_place_56
theorem dX8_pin_0 : decode cX8_pin 0 = .ok (.aload_n 0, 1) := by decide +kernel
theorem dX8_pin_1 : decode cX8_pin 1 = .ok (.iload_n 1, 1) := by decide +kernel
theorem dX8_pin_2 : decode cX8_pin 2 = .ok (.invokevirtual 200, 3) := by decide +kernel
theorem dX8_pin_5 : decode cX8_pin 5 = .ok (.ifCond .ne 7, 3) := by decide +kernel
theorem dX8_pin_8 : decode cX8_pin 8 = .ok (.iconst 5, 1) := by decide +kernel
theorem dX8_pin_9 : decode cX8_pin 9 = .ok (.goto 14, 3) := by decide +kernel
theorem dX8_pin_23 : decode cX8_pin 23 = .ok (.istore 7, 2) := by decide +kernel
theorem dX8_pin_25 : decode cX8_pin 25 = .ok (.iload 7, 2) := by decide +kernel
theorem dX8_pin_27 : decode cX8_pin 27 = .ok (.ifCond .le 10, 3) := by decide +kernel
theorem dX8_pin_30 : decode cX8_pin 30 = .ok (.aload_n 0, 1) := by decide +kernel
theorem dX8_pin_31 : decode cX8_pin 31 = .ok (.iload 7, 2) := by decide +kernel
theorem dX8_pin_33 : decode cX8_pin 33 = .ok (.invokevirtual 175, 3) := by decide +kernel
theorem dX8_pin_36 : decode cX8_pin 36 = .ok (.ireturn, 1) := by decide +kernel
def fn_my_pin  : Int32 := -5
abbrev rm_my_pin : Room := { frames := 2, cells := 0, slots := 0, locals := 46 }
abbrev po_my_pin (g : zz_G) (h0 : Nat) (a_kindOf : Nat) (a_depthOf : Nat) (a_lengthOf : Nat) (a_classOf : Nat) (a_baseOf : Nat) (a_bits : Nat) (a_pinned : Nat) (a_lengths : Nat) (a_stackArray : Nat) (a_stackOther : Nat) (a_stackAt : Nat) (a_path : Nat) (a_held : Nat) (a_alike : Nat) (a_hashes : Nat) (a_decisionArray : Nat) (a_decisionPlace : Nat) (a_candidateMany : Nat) (a_candidates : Nat) (a_ruleSort : Nat) (a_ruleArray : Nat) (a_ruleWeight : Nat) (a_ruleLow : Nat) (a_ruleHigh : Nat) (a_chosen : Nat) (a_bestOf : Nat) (a_markElements : Nat) (a_markBits : Nat) (a_markPins : Nat) (x1 : Int32) (x2 : Int32) (x3 : Int32) (x4 : Int32) (x5 : Int32) (x6 : Int32) : Int32 → va_W → Prop := fun (r : Int32) (u : va_W) => r = fn_my_pin
set_option maxHeartbeats 4000000 in
set_option maxRecDepth 100000 in
theorem my_pin (g : zz_G) (h0 : Nat) (a_kindOf : Nat) (a_depthOf : Nat) (a_lengthOf : Nat) (a_classOf : Nat) (a_baseOf : Nat) (a_bits : Nat) (a_pinned : Nat) (a_lengths : Nat) (a_stackArray : Nat) (a_stackOther : Nat) (a_stackAt : Nat) (a_path : Nat) (a_held : Nat) (a_alike : Nat) (a_hashes : Nat) (a_decisionArray : Nat) (a_decisionPlace : Nat) (a_candidateMany : Nat) (a_candidates : Nat) (a_ruleSort : Nat) (a_ruleArray : Nat) (a_ruleWeight : Nat) (a_ruleLow : Nat) (a_ruleHigh : Nat) (a_chosen : Nat) (a_bestOf : Nat) (a_markElements : Nat) (a_markBits : Nat) (a_markPins : Nat) (x1 : Int32) (x2 : Int32) (x3 : Int32) (x4 : Int32) (x5 : Int32) (x6 : Int32) : zz_I g yX8_pin (.code yX8_pin cX8_pin 9 (some .int)) rm_my_pin [.ref h0, .int x1, .int x2, .int x3, .int x4, .int x5, .int x6] [(h0, .inr (7, [.int 0, .int 0, .ref a_kindOf, .ref a_depthOf, .ref a_lengthOf, .ref a_classOf, .ref a_baseOf, .ref a_bits, .ref a_pinned, .int 0, .ref a_lengths, .ref a_stackArray, .ref a_stackOther, .ref a_stackAt, .int 0, .int 0, .ref a_path, .ref a_held, .ref a_alike, .ref a_hashes, .int 0, .ref a_decisionArray, .ref a_decisionPlace, .ref a_candidateMany, .ref a_candidates, .int 0, .ref a_ruleSort, .ref a_ruleArray, .ref a_ruleWeight, .ref a_ruleLow, .ref a_ruleHigh, .ref a_chosen, .ref a_bestOf, .int 0, .ref a_markElements, .ref a_markBits, .ref a_markPins]))] (po_my_pin g h0 a_kindOf a_depthOf a_lengthOf a_classOf a_baseOf a_bits a_pinned a_lengths a_stackArray a_stackOther a_stackAt a_path a_held a_alike a_hashes a_decisionArray a_decisionPlace a_candidateMany a_candidates a_ruleSort a_ruleArray a_ruleWeight a_ruleLow a_ruleHigh a_chosen a_bestOf a_markElements a_markBits a_markPins x1 x2 x3 x4 x5 x6) := by
  refine zz_I.intro (own := RX8) (cc := cX8_pin) (nL := 9) (by decide) rfl (Nat.le_of_ble_eq_true rfl) ?_
  intro p l e s m args below meth c A H locs ls hC hnm hZ hl
  obtain ⟨hx, hb, hml, hown, hts, hr, hlocks, hK⟩ := id hC
  have hl : lv_has ls 9 [(0, .ref h0), (1, .int x1), (2, .int x2), (3, .int x3), (4, .int x4), (5, .int x5), (6, .int x6)] := hl
  have hZ : zz_Z g A s.heap [(h0, .inr (7, [.int 0, .int 0, .ref a_kindOf, .ref a_depthOf, .ref a_lengthOf, .ref a_classOf, .ref a_baseOf, .ref a_bits, .ref a_pinned, .int 0, .ref a_lengths, .ref a_stackArray, .ref a_stackOther, .ref a_stackAt, .int 0, .int 0, .ref a_path, .ref a_held, .ref a_alike, .ref a_hashes, .int 0, .ref a_decisionArray, .ref a_decisionPlace, .ref a_candidateMany, .ref a_candidates, .int 0, .ref a_ruleSort, .ref a_ruleArray, .ref a_ruleWeight, .ref a_ruleLow, .ref a_ruleHigh, .ref a_chosen, .ref a_bestOf, .int 0, .ref a_markElements, .ref a_markBits, .ref a_markPins]))] H locs := hZ
  refine lv_aload_n hx hb dX8_pin_0 rfl (lv_at hl 0 rfl) ?_
  refine lv_iload_n hx hb dX8_pin_1 rfl (lv_at hl 1 rfl) ?_
  refine zz_iV (As := [.int x1]) (wc := [(h0, .inr (7, [.int 0, .int 0, .ref a_kindOf, .ref a_depthOf, .ref a_lengthOf, .ref a_classOf, .ref a_baseOf, .ref a_bits, .ref a_pinned, .int 0, .ref a_lengths, .ref a_stackArray, .ref a_stackOther, .ref a_stackAt, .int 0, .int 0, .ref a_path, .ref a_held, .ref a_alike, .ref a_hashes, .int 0, .ref a_decisionArray, .ref a_decisionPlace, .ref a_candidateMany, .ref a_candidates, .int 0, .ref a_ruleSort, .ref a_ruleArray, .ref a_ruleWeight, .ref a_ruleLow, .ref a_ruleHigh, .ref a_chosen, .ref a_bestOf, .int 0, .ref a_markElements, .ref a_markBits, .ref a_markPins]))]) (wr := []) (rest := []) hC hZ hl zc_X8_200 (cm_isArray0 g h0 a_kindOf a_depthOf a_lengthOf a_classOf a_baseOf a_bits a_pinned a_lengths a_stackArray a_stackOther a_stackAt a_path a_held a_alike a_hashes a_decisionArray a_decisionPlace a_candidateMany a_candidates a_ruleSort a_ruleArray a_ruleWeight a_ruleLow a_ruleHigh a_chosen a_bestOf a_markElements a_markBits a_markPins 0 0 0 0 0 0 0 x1) [0] [] rfl rfl (by decide) (ci := 7) (q0 := 0) rfl rfl rfl rfl (Nat.le_of_ble_eq_true rfl) ⟨⟨Nat.le_of_ble_eq_true rfl, Nat.le_of_ble_eq_true rfl⟩, Nat.le_of_ble_eq_true rfl, Nat.le_of_ble_eq_true rfl⟩ dX8_pin_2 (fun r1 u2 H locs hp hZ => ?_)
  obtain ⟨rfl, rfl⟩ := hp
  have hZ : zz_Z g A s.heap [(h0, .inr (7, [.int 0, .int 0, .ref a_kindOf, .ref a_depthOf, .ref a_lengthOf, .ref a_classOf, .ref a_baseOf, .ref a_bits, .ref a_pinned, .int 0, .ref a_lengths, .ref a_stackArray, .ref a_stackOther, .ref a_stackAt, .int 0, .int 0, .ref a_path, .ref a_held, .ref a_alike, .ref a_hashes, .int 0, .ref a_decisionArray, .ref a_decisionPlace, .ref a_candidateMany, .ref a_candidates, .int 0, .ref a_ruleSort, .ref a_ruleArray, .ref a_ruleWeight, .ref a_ruleLow, .ref a_ruleHigh, .ref a_chosen, .ref a_bestOf, .int 0, .ref a_markElements, .ref a_markBits, .ref a_markPins]))] H locs := hZ
  refine lv_if_ne (tgt := 12) hx hb dX8_pin_5 (by decide) (fun c => absurd (by decide) c) (fun c3 => ?_)
  refine lv_iconst (v := 5) hx hb dX8_pin_8 (by decide) ?_
  refine lv_goto (tgt := 23) hx hb dX8_pin_9 (by decide) ?_
  refine lv_istore (lv' := [(7, .int 5), (0, .ref h0), (1, .int x1), (2, .int x2), (3, .int x3), (4, .int x4), (5, .int x5), (6, .int x6)]) hx hb dX8_pin_23 hl (by decide) rfl (fun ls hl => ?_)
  refine lv_iload hx hb dX8_pin_25 (lv_at hl 0 rfl) ?_
  refine lv_if_le (tgt := 37) hx hb dX8_pin_27 (by decide) (fun c => absurd c (by decide)) (fun c4 => ?_)
  refine lv_aload_n hx hb dX8_pin_30 rfl (lv_at hl 1 rfl) ?_
  refine lv_iload hx hb dX8_pin_31 (lv_at hl 0 rfl) ?_
  refine zz_iV (As := [.int 5]) (wc := [(h0, .inr (7, [.int 0, .int 0, .ref a_kindOf, .ref a_depthOf, .ref a_lengthOf, .ref a_classOf, .ref a_baseOf, .ref a_bits, .ref a_pinned, .int 0, .ref a_lengths, .ref a_stackArray, .ref a_stackOther, .ref a_stackAt, .int 0, .int 0, .ref a_path, .ref a_held, .ref a_alike, .ref a_hashes, .int 0, .ref a_decisionArray, .ref a_decisionPlace, .ref a_candidateMany, .ref a_candidates, .int 0, .ref a_ruleSort, .ref a_ruleArray, .ref a_ruleWeight, .ref a_ruleLow, .ref a_ruleHigh, .ref a_chosen, .ref a_bestOf, .int 0, .ref a_markElements, .ref a_markBits, .ref a_markPins]))]) (wr := []) (rest := []) hC hZ hl zc_X8_175 (cm_fails g h0 a_kindOf a_depthOf a_lengthOf a_classOf a_baseOf a_bits a_pinned a_lengths a_stackArray a_stackOther a_stackAt a_path a_held a_alike a_hashes a_decisionArray a_decisionPlace a_candidateMany a_candidates a_ruleSort a_ruleArray a_ruleWeight a_ruleLow a_ruleHigh a_chosen a_bestOf a_markElements a_markBits a_markPins 0 0 0 0 0 0 0 0 5) [0] [] rfl rfl (by decide) (ci := 7) (q0 := 0) rfl rfl rfl rfl (Nat.le_of_ble_eq_true rfl) ⟨⟨Nat.le_of_ble_eq_true rfl, Nat.le_of_ble_eq_true rfl⟩, Nat.le_of_ble_eq_true rfl, Nat.le_of_ble_eq_true rfl⟩ dX8_pin_33 (fun r5 u6 H locs hp hZ => ?_)
  obtain ⟨rfl, rfl⟩ := hp
  have hZ : zz_Z g A s.heap [(h0, .inr (7, [.int 0, .int 0, .ref a_kindOf, .ref a_depthOf, .ref a_lengthOf, .ref a_classOf, .ref a_baseOf, .ref a_bits, .ref a_pinned, .int 5, .ref a_lengths, .ref a_stackArray, .ref a_stackOther, .ref a_stackAt, .int 0, .int 0, .ref a_path, .ref a_held, .ref a_alike, .ref a_hashes, .int 0, .ref a_decisionArray, .ref a_decisionPlace, .ref a_candidateMany, .ref a_candidates, .int 0, .ref a_ruleSort, .ref a_ruleArray, .ref a_ruleWeight, .ref a_ruleLow, .ref a_ruleHigh, .ref a_chosen, .ref a_bestOf, .int 0, .ref a_markElements, .ref a_markBits, .ref a_markPins]))] H locs := hZ
  exact zz_iret hC hZ (rfl) (Nat.le_of_ble_eq_true rfl) (Nat.le_of_ble_eq_true rfl) dX8_pin_36
theorem dX8_column_0 : decode cX8_column 0 = .ok (.iload_n 1, 1) := by decide +kernel
theorem dX8_column_1 : decode cX8_column 1 = .ok (.i2l, 1) := by decide +kernel
theorem dX8_column_2 : decode cX8_column 2 = .ok (.lconst 0, 1) := by decide +kernel
theorem dX8_column_3 : decode cX8_column 3 = .ok (.ldc2_w 173, 3) := by decide +kernel
theorem zk_851 : Cond.constantLong RX8 173 (8) ∈ zz_w := zz_in (List.mem_append_right _ (List.mem_append_right _ (List.mem_append_right _ (List.mem_append_right _ (List.mem_append_left _ (List.mem_of_getElem? (i := 131) (by decide +kernel))))))) rfl
theorem dX8_column_6 : decode cX8_column 6 = .ok (.invokestatic 106, 3) := by decide +kernel
theorem dX8_column_9 : decode cX8_column 9 = .ok (.ifCond .eq 7, 3) := by decide +kernel
theorem dX8_column_16 : decode cX8_column 16 = .ok (.aload_n 0, 1) := by decide +kernel
theorem dX8_column_17 : decode cX8_column 17 = .ok (.bipush 9, 2) := by decide +kernel
theorem dX8_column_19 : decode cX8_column 19 = .ok (.invokevirtual 175, 3) := by decide +kernel
theorem dX8_column_22 : decode cX8_column 22 = .ok (.ireturn, 1) := by decide +kernel
theorem dX8_column_12 : decode cX8_column 12 = .ok (.iload_n 2, 1) := by decide +kernel
theorem dX8_column_13 : decode cX8_column 13 = .ok (.ifCond .ge 10, 3) := by decide +kernel
theorem dX8_column_23 : decode cX8_column 23 = .ok (.iload_n 2, 1) := by decide +kernel
theorem dX8_column_24 : decode cX8_column 24 = .ok (.istore_n 3, 1) := by decide +kernel
theorem dX8_column_25 : decode cX8_column 25 = .ok (.iconst 0, 1) := by decide +kernel
theorem dX8_column_26 : decode cX8_column 26 = .ok (.istore 4, 2) := by decide +kernel
theorem dX8_column_28 : decode cX8_column 28 = .ok (.iload 4, 2) := by decide +kernel
theorem dX8_column_30 : decode cX8_column 30 = .ok (.aload_n 0, 1) := by decide +kernel
theorem dX8_column_31 : decode cX8_column 31 = .ok (.getfield 103, 3) := by decide +kernel
theorem dX8_column_34 : decode cX8_column 34 = .ok (.if_icmp .ge 65, 3) := by decide +kernel
theorem dX8_column_99 : decode cX8_column 99 = .ok (.aload_n 0, 1) := by decide +kernel
theorem dX8_column_100 : decode cX8_column 100 = .ok (.bipush (-2), 2) := by decide +kernel
theorem dX8_column_102 : decode cX8_column 102 = .ok (.invokevirtual 183, 3) := by decide +kernel
theorem zk_862 : Cond.methodLink RX8 183 yX8_fine ∈ zz_w := zz_in (List.mem_append_right _ (List.mem_append_right _ (List.mem_append_right _ (List.mem_append_right _ (List.mem_append_left _ (List.mem_of_getElem? (i := 142) (by decide +kernel))))))) rfl
set_option maxRecDepth 20000 in
theorem zk_865 : Cond.code yX8_fine cX8_fine 2 (some .int) ∈ zz_w := zz_in (List.mem_append_right _ (List.mem_append_right _ (List.mem_append_right _ (List.mem_append_right _ (List.mem_append_left _ (List.mem_of_getElem? (i := 145) (rfl))))))) rfl
theorem zk_864 : Cond.instanceMethod yX8_fine ∈ zz_w := zz_in (List.mem_append_right _ (List.mem_append_right _ (List.mem_append_right _ (List.mem_append_right _ (List.mem_append_left _ (List.mem_of_getElem? (i := 144) (by decide +kernel))))))) rfl
theorem zs_19 : Cond.selects RX8 yX8_fine yX8_fine ∈ zz_w := zz_in (List.mem_append_left _ (List.mem_of_getElem? (i := 19) (by decide +kernel))) rfl
theorem zc_X8_183 : zz_cV RX8 183 yX8_fine cX8_fine 2 (some .int) 1 := ⟨⟨zk_862, zk_865, zk_7, by decide, by decide, by decide +kernel⟩, zk_864, zs_19⟩
theorem dX8_column_105 : decode cX8_column 105 = .ok (.ireturn, 1) := by decide +kernel
def fn_my_column (x1 : Int32) (x2 : Int32) : Int32 := (if (fn_cm_within x1.toInt64 0 8) = 0 then -9 else (if 0 ≤ x2 then -2 else -9))
abbrev rm_my_column : Room := { frames := 1, cells := 0, slots := 0, locals := 25 }
abbrev po_my_column (g : zz_G) (h0 : Nat) (a_kindOf : Nat) (a_depthOf : Nat) (a_lengthOf : Nat) (a_classOf : Nat) (a_baseOf : Nat) (a_bits : Nat) (a_pinned : Nat) (a_lengths : Nat) (a_stackArray : Nat) (a_stackOther : Nat) (a_stackAt : Nat) (a_path : Nat) (a_held : Nat) (a_alike : Nat) (a_hashes : Nat) (a_decisionArray : Nat) (a_decisionPlace : Nat) (a_candidateMany : Nat) (a_candidates : Nat) (a_ruleSort : Nat) (a_ruleArray : Nat) (a_ruleWeight : Nat) (a_ruleLow : Nat) (a_ruleHigh : Nat) (a_chosen : Nat) (a_bestOf : Nat) (a_markElements : Nat) (a_markBits : Nat) (a_markPins : Nat) (x1 : Int32) (x2 : Int32) : Int32 → va_W → Prop := fun (r : Int32) (u : va_W) => r = fn_my_column x1 x2
set_option maxHeartbeats 4000000 in
set_option maxRecDepth 100000 in
theorem my_column (g : zz_G) (h0 : Nat) (a_kindOf : Nat) (a_depthOf : Nat) (a_lengthOf : Nat) (a_classOf : Nat) (a_baseOf : Nat) (a_bits : Nat) (a_pinned : Nat) (a_lengths : Nat) (a_stackArray : Nat) (a_stackOther : Nat) (a_stackAt : Nat) (a_path : Nat) (a_held : Nat) (a_alike : Nat) (a_hashes : Nat) (a_decisionArray : Nat) (a_decisionPlace : Nat) (a_candidateMany : Nat) (a_candidates : Nat) (a_ruleSort : Nat) (a_ruleArray : Nat) (a_ruleWeight : Nat) (a_ruleLow : Nat) (a_ruleHigh : Nat) (a_chosen : Nat) (a_bestOf : Nat) (a_markElements : Nat) (a_markBits : Nat) (a_markPins : Nat) (x1 : Int32) (x2 : Int32) : zz_I g yX8_column (.code yX8_column cX8_column 5 (some .int)) rm_my_column [.ref h0, .int x1, .int x2] [(h0, .inr (7, [.int 0, .int 0, .ref a_kindOf, .ref a_depthOf, .ref a_lengthOf, .ref a_classOf, .ref a_baseOf, .ref a_bits, .ref a_pinned, .int 0, .ref a_lengths, .ref a_stackArray, .ref a_stackOther, .ref a_stackAt, .int 0, .int 0, .ref a_path, .ref a_held, .ref a_alike, .ref a_hashes, .int 0, .ref a_decisionArray, .ref a_decisionPlace, .ref a_candidateMany, .ref a_candidates, .int 0, .ref a_ruleSort, .ref a_ruleArray, .ref a_ruleWeight, .ref a_ruleLow, .ref a_ruleHigh, .ref a_chosen, .ref a_bestOf, .int 0, .ref a_markElements, .ref a_markBits, .ref a_markPins]))] (po_my_column g h0 a_kindOf a_depthOf a_lengthOf a_classOf a_baseOf a_bits a_pinned a_lengths a_stackArray a_stackOther a_stackAt a_path a_held a_alike a_hashes a_decisionArray a_decisionPlace a_candidateMany a_candidates a_ruleSort a_ruleArray a_ruleWeight a_ruleLow a_ruleHigh a_chosen a_bestOf a_markElements a_markBits a_markPins x1 x2) := by
  refine zz_I.intro (own := RX8) (cc := cX8_column) (nL := 5) (by decide) rfl (Nat.le_of_ble_eq_true rfl) ?_
  intro p l e s m args below meth c A H locs ls hC hnm hZ hl
  obtain ⟨hx, hb, hml, hown, hts, hr, hlocks, hK⟩ := id hC
  have hl : lv_has ls 5 [(0, .ref h0), (1, .int x1), (2, .int x2)] := hl
  have hZ : zz_Z g A s.heap [(h0, .inr (7, [.int 0, .int 0, .ref a_kindOf, .ref a_depthOf, .ref a_lengthOf, .ref a_classOf, .ref a_baseOf, .ref a_bits, .ref a_pinned, .int 0, .ref a_lengths, .ref a_stackArray, .ref a_stackOther, .ref a_stackAt, .int 0, .int 0, .ref a_path, .ref a_held, .ref a_alike, .ref a_hashes, .int 0, .ref a_decisionArray, .ref a_decisionPlace, .ref a_candidateMany, .ref a_candidates, .int 0, .ref a_ruleSort, .ref a_ruleArray, .ref a_ruleWeight, .ref a_ruleLow, .ref a_ruleHigh, .ref a_chosen, .ref a_bestOf, .int 0, .ref a_markElements, .ref a_markBits, .ref a_markPins]))] H locs := hZ
  refine lv_iload_n hx hb dX8_column_0 rfl (lv_at hl 1 rfl) ?_
  refine lv_i2l hx hb dX8_column_1 rfl ?_
  refine lv_lconst (v := 0) hx hb dX8_column_2 (by decide) ?_
  refine lv_ldc2 hx hb hown (hts _ zk_851) dX8_column_3 ?_
  refine zz_iS (As := [.long x1.toInt64, .long 0, .long 8]) (wc := []) (wr := [(h0, .inr (7, [.int 0, .int 0, .ref a_kindOf, .ref a_depthOf, .ref a_lengthOf, .ref a_classOf, .ref a_baseOf, .ref a_bits, .ref a_pinned, .int 0, .ref a_lengths, .ref a_stackArray, .ref a_stackOther, .ref a_stackAt, .int 0, .int 0, .ref a_path, .ref a_held, .ref a_alike, .ref a_hashes, .int 0, .ref a_decisionArray, .ref a_decisionPlace, .ref a_candidateMany, .ref a_candidates, .int 0, .ref a_ruleSort, .ref a_ruleArray, .ref a_ruleWeight, .ref a_ruleLow, .ref a_ruleHigh, .ref a_chosen, .ref a_bestOf, .int 0, .ref a_markElements, .ref a_markBits, .ref a_markPins]))]) (rest := []) hC hZ hl zc_X8_106 (cm_within g x1.toInt64 0 8) [] [0] rfl rfl (by decide) rfl rfl (Nat.le_of_ble_eq_true rfl) ⟨⟨Nat.le_of_ble_eq_true rfl, Nat.le_of_ble_eq_true rfl⟩, Nat.le_of_ble_eq_true rfl, Nat.le_of_ble_eq_true rfl⟩ dX8_column_6 (fun r1 u2 H locs hp hZ => ?_)
  obtain ⟨rfl, rfl⟩ := hp
  have hZ : zz_Z g A s.heap [(h0, .inr (7, [.int 0, .int 0, .ref a_kindOf, .ref a_depthOf, .ref a_lengthOf, .ref a_classOf, .ref a_baseOf, .ref a_bits, .ref a_pinned, .int 0, .ref a_lengths, .ref a_stackArray, .ref a_stackOther, .ref a_stackAt, .int 0, .int 0, .ref a_path, .ref a_held, .ref a_alike, .ref a_hashes, .int 0, .ref a_decisionArray, .ref a_decisionPlace, .ref a_candidateMany, .ref a_candidates, .int 0, .ref a_ruleSort, .ref a_ruleArray, .ref a_ruleWeight, .ref a_ruleLow, .ref a_ruleHigh, .ref a_chosen, .ref a_bestOf, .int 0, .ref a_markElements, .ref a_markBits, .ref a_markPins]))] H locs := hZ
  refine lv_if_eq (tgt := 16) hx hb dX8_column_9 (by decide) (fun c3 => ?_) (fun c3 => ?_)
  · refine lv_aload_n hx hb dX8_column_16 rfl (lv_at hl 0 rfl) ?_
    refine lv_bipush (v := 9) hx hb dX8_column_17 (by decide) ?_
    refine zz_iV (As := [.int 9]) (wc := [(h0, .inr (7, [.int 0, .int 0, .ref a_kindOf, .ref a_depthOf, .ref a_lengthOf, .ref a_classOf, .ref a_baseOf, .ref a_bits, .ref a_pinned, .int 0, .ref a_lengths, .ref a_stackArray, .ref a_stackOther, .ref a_stackAt, .int 0, .int 0, .ref a_path, .ref a_held, .ref a_alike, .ref a_hashes, .int 0, .ref a_decisionArray, .ref a_decisionPlace, .ref a_candidateMany, .ref a_candidates, .int 0, .ref a_ruleSort, .ref a_ruleArray, .ref a_ruleWeight, .ref a_ruleLow, .ref a_ruleHigh, .ref a_chosen, .ref a_bestOf, .int 0, .ref a_markElements, .ref a_markBits, .ref a_markPins]))]) (wr := []) (rest := []) hC hZ hl zc_X8_175 (cm_fails g h0 a_kindOf a_depthOf a_lengthOf a_classOf a_baseOf a_bits a_pinned a_lengths a_stackArray a_stackOther a_stackAt a_path a_held a_alike a_hashes a_decisionArray a_decisionPlace a_candidateMany a_candidates a_ruleSort a_ruleArray a_ruleWeight a_ruleLow a_ruleHigh a_chosen a_bestOf a_markElements a_markBits a_markPins 0 0 0 0 0 0 0 0 9) [0] [] rfl rfl (by decide) (ci := 7) (q0 := 0) rfl rfl rfl rfl (Nat.le_of_ble_eq_true rfl) ⟨⟨Nat.le_of_ble_eq_true rfl, Nat.le_of_ble_eq_true rfl⟩, Nat.le_of_ble_eq_true rfl, Nat.le_of_ble_eq_true rfl⟩ dX8_column_19 (fun r4 u5 H locs hp hZ => ?_)
    obtain ⟨rfl, rfl⟩ := hp
    have hZ : zz_Z g A s.heap [(h0, .inr (7, [.int 0, .int 0, .ref a_kindOf, .ref a_depthOf, .ref a_lengthOf, .ref a_classOf, .ref a_baseOf, .ref a_bits, .ref a_pinned, .int 9, .ref a_lengths, .ref a_stackArray, .ref a_stackOther, .ref a_stackAt, .int 0, .int 0, .ref a_path, .ref a_held, .ref a_alike, .ref a_hashes, .int 0, .ref a_decisionArray, .ref a_decisionPlace, .ref a_candidateMany, .ref a_candidates, .int 0, .ref a_ruleSort, .ref a_ruleArray, .ref a_ruleWeight, .ref a_ruleLow, .ref a_ruleHigh, .ref a_chosen, .ref a_bestOf, .int 0, .ref a_markElements, .ref a_markBits, .ref a_markPins]))] H locs := hZ
    exact zz_iret hC hZ (by show _ = _; rw [fn_my_column, if_pos c3]) (Nat.le_of_ble_eq_true rfl) (Nat.le_of_ble_eq_true rfl) dX8_column_22
  · refine lv_iload_n hx hb dX8_column_12 rfl (lv_at hl 2 rfl) ?_
    refine lv_if_ge (tgt := 23) hx hb dX8_column_13 (by decide) (fun c6 => ?_) (fun c6 => ?_)
    · refine lv_iload_n hx hb dX8_column_23 rfl (lv_at hl 2 rfl) ?_
      refine lv_istore_n (lv' := [(3, .int x2), (0, .ref h0), (1, .int x1), (2, .int x2)]) hx hb dX8_column_24 rfl hl (by decide) rfl (fun ls hl => ?_)
      refine lv_iconst (v := 0) hx hb dX8_column_25 (by decide) ?_
      refine lv_istore (lv' := [(4, .int 0), (3, .int x2), (0, .ref h0), (1, .int x1), (2, .int x2)]) hx hb dX8_column_26 hl (by decide) rfl (fun ls hl => ?_)
      refine lv_iload hx hb dX8_column_28 (lv_at hl 0 rfl) ?_
      refine lv_aload_n hx hb dX8_column_30 rfl (lv_at hl 2 rfl) ?_
      refine zz_get hC hZ 0 rfl zf_X8_103 rfl dX8_column_31 ?_
      refine lv_icmp_ge (tgt := 99) hx hb dX8_column_34 (by decide) (fun c7 => ?_) (fun c => absurd (by decide) c)
      refine lv_aload_n hx hb dX8_column_99 rfl (lv_at hl 2 rfl) ?_
      refine lv_bipush (v := -2) hx hb dX8_column_100 (by decide) ?_
      refine zz_iV (As := [.int (-2)]) (wc := [(h0, .inr (7, [.int 0, .int 0, .ref a_kindOf, .ref a_depthOf, .ref a_lengthOf, .ref a_classOf, .ref a_baseOf, .ref a_bits, .ref a_pinned, .int 0, .ref a_lengths, .ref a_stackArray, .ref a_stackOther, .ref a_stackAt, .int 0, .int 0, .ref a_path, .ref a_held, .ref a_alike, .ref a_hashes, .int 0, .ref a_decisionArray, .ref a_decisionPlace, .ref a_candidateMany, .ref a_candidates, .int 0, .ref a_ruleSort, .ref a_ruleArray, .ref a_ruleWeight, .ref a_ruleLow, .ref a_ruleHigh, .ref a_chosen, .ref a_bestOf, .int 0, .ref a_markElements, .ref a_markBits, .ref a_markPins]))]) (wr := []) (rest := []) hC hZ hl zc_X8_183 (cm_fine g h0 a_kindOf a_depthOf a_lengthOf a_classOf a_baseOf a_bits a_pinned a_lengths a_stackArray a_stackOther a_stackAt a_path a_held a_alike a_hashes a_decisionArray a_decisionPlace a_candidateMany a_candidates a_ruleSort a_ruleArray a_ruleWeight a_ruleLow a_ruleHigh a_chosen a_bestOf a_markElements a_markBits a_markPins 0 0 0 0 0 0 0 0 (-2)) [0] [] rfl rfl (by decide) (ci := 7) (q0 := 0) rfl rfl rfl rfl (Nat.le_of_ble_eq_true rfl) ⟨⟨Nat.le_of_ble_eq_true rfl, Nat.le_of_ble_eq_true rfl⟩, Nat.le_of_ble_eq_true rfl, Nat.le_of_ble_eq_true rfl⟩ dX8_column_102 (fun r8 u9 H locs hp hZ => ?_)
      obtain ⟨rfl, rfl⟩ := hp
      have hZ : zz_Z g A s.heap [(h0, .inr (7, [.int 0, .int 0, .ref a_kindOf, .ref a_depthOf, .ref a_lengthOf, .ref a_classOf, .ref a_baseOf, .ref a_bits, .ref a_pinned, .int 0, .ref a_lengths, .ref a_stackArray, .ref a_stackOther, .ref a_stackAt, .int 0, .int 0, .ref a_path, .ref a_held, .ref a_alike, .ref a_hashes, .int 0, .ref a_decisionArray, .ref a_decisionPlace, .ref a_candidateMany, .ref a_candidates, .int 0, .ref a_ruleSort, .ref a_ruleArray, .ref a_ruleWeight, .ref a_ruleLow, .ref a_ruleHigh, .ref a_chosen, .ref a_bestOf, .int 0, .ref a_markElements, .ref a_markBits, .ref a_markPins]))] H locs := hZ
      exact zz_iret hC hZ (by show _ = _; rw [fn_my_column, if_neg c3, if_pos c6]) (Nat.le_of_ble_eq_true rfl) (Nat.le_of_ble_eq_true rfl) dX8_column_105
    · refine lv_aload_n hx hb dX8_column_16 rfl (lv_at hl 0 rfl) ?_
      refine lv_bipush (v := 9) hx hb dX8_column_17 (by decide) ?_
      refine zz_iV (As := [.int 9]) (wc := [(h0, .inr (7, [.int 0, .int 0, .ref a_kindOf, .ref a_depthOf, .ref a_lengthOf, .ref a_classOf, .ref a_baseOf, .ref a_bits, .ref a_pinned, .int 0, .ref a_lengths, .ref a_stackArray, .ref a_stackOther, .ref a_stackAt, .int 0, .int 0, .ref a_path, .ref a_held, .ref a_alike, .ref a_hashes, .int 0, .ref a_decisionArray, .ref a_decisionPlace, .ref a_candidateMany, .ref a_candidates, .int 0, .ref a_ruleSort, .ref a_ruleArray, .ref a_ruleWeight, .ref a_ruleLow, .ref a_ruleHigh, .ref a_chosen, .ref a_bestOf, .int 0, .ref a_markElements, .ref a_markBits, .ref a_markPins]))]) (wr := []) (rest := []) hC hZ hl zc_X8_175 (cm_fails g h0 a_kindOf a_depthOf a_lengthOf a_classOf a_baseOf a_bits a_pinned a_lengths a_stackArray a_stackOther a_stackAt a_path a_held a_alike a_hashes a_decisionArray a_decisionPlace a_candidateMany a_candidates a_ruleSort a_ruleArray a_ruleWeight a_ruleLow a_ruleHigh a_chosen a_bestOf a_markElements a_markBits a_markPins 0 0 0 0 0 0 0 0 9) [0] [] rfl rfl (by decide) (ci := 7) (q0 := 0) rfl rfl rfl rfl (Nat.le_of_ble_eq_true rfl) ⟨⟨Nat.le_of_ble_eq_true rfl, Nat.le_of_ble_eq_true rfl⟩, Nat.le_of_ble_eq_true rfl, Nat.le_of_ble_eq_true rfl⟩ dX8_column_19 (fun r10 u11 H locs hp hZ => ?_)
      obtain ⟨rfl, rfl⟩ := hp
      have hZ : zz_Z g A s.heap [(h0, .inr (7, [.int 0, .int 0, .ref a_kindOf, .ref a_depthOf, .ref a_lengthOf, .ref a_classOf, .ref a_baseOf, .ref a_bits, .ref a_pinned, .int 9, .ref a_lengths, .ref a_stackArray, .ref a_stackOther, .ref a_stackAt, .int 0, .int 0, .ref a_path, .ref a_held, .ref a_alike, .ref a_hashes, .int 0, .ref a_decisionArray, .ref a_decisionPlace, .ref a_candidateMany, .ref a_candidates, .int 0, .ref a_ruleSort, .ref a_ruleArray, .ref a_ruleWeight, .ref a_ruleLow, .ref a_ruleHigh, .ref a_chosen, .ref a_bestOf, .int 0, .ref a_markElements, .ref a_markBits, .ref a_markPins]))] H locs := hZ
      exact zz_iret hC hZ (by show _ = _; rw [fn_my_column, if_neg c3, if_neg c6]) (Nat.le_of_ble_eq_true rfl) (Nat.le_of_ble_eq_true rfl) dX8_column_22
theorem dX8_code_0 : decode cX8_code 0 = .ok (.aload_n 0, 1) := by decide +kernel
theorem dX8_code_1 : decode cX8_code 1 = .ok (.getfield 99, 3) := by decide +kernel
theorem zf_X8_99 : zz_f RX8 99 7 9 := ⟨RX8, TX8, 37, rfl, zi_X8, by decide, zk_744⟩
theorem dX8_code_4 : decode cX8_code 4 = .ok (.ireturn, 1) := by decide +kernel
def fn_my_code  : Int32 := 0
abbrev rm_my_code : Room := { frames := 0, cells := 0, slots := 0, locals := 0 }
abbrev po_my_code (g : zz_G) (h0 : Nat) (a_kindOf : Nat) (a_depthOf : Nat) (a_lengthOf : Nat) (a_classOf : Nat) (a_baseOf : Nat) (a_bits : Nat) (a_pinned : Nat) (a_lengths : Nat) (a_stackArray : Nat) (a_stackOther : Nat) (a_stackAt : Nat) (a_path : Nat) (a_held : Nat) (a_alike : Nat) (a_hashes : Nat) (a_decisionArray : Nat) (a_decisionPlace : Nat) (a_candidateMany : Nat) (a_candidates : Nat) (a_ruleSort : Nat) (a_ruleArray : Nat) (a_ruleWeight : Nat) (a_ruleLow : Nat) (a_ruleHigh : Nat) (a_chosen : Nat) (a_bestOf : Nat) (a_markElements : Nat) (a_markBits : Nat) (a_markPins : Nat) : Int32 → va_W → Prop := fun (r : Int32) (u : va_W) => r = fn_my_code
set_option maxHeartbeats 4000000 in
set_option maxRecDepth 100000 in
theorem my_code (g : zz_G) (h0 : Nat) (a_kindOf : Nat) (a_depthOf : Nat) (a_lengthOf : Nat) (a_classOf : Nat) (a_baseOf : Nat) (a_bits : Nat) (a_pinned : Nat) (a_lengths : Nat) (a_stackArray : Nat) (a_stackOther : Nat) (a_stackAt : Nat) (a_path : Nat) (a_held : Nat) (a_alike : Nat) (a_hashes : Nat) (a_decisionArray : Nat) (a_decisionPlace : Nat) (a_candidateMany : Nat) (a_candidates : Nat) (a_ruleSort : Nat) (a_ruleArray : Nat) (a_ruleWeight : Nat) (a_ruleLow : Nat) (a_ruleHigh : Nat) (a_chosen : Nat) (a_bestOf : Nat) (a_markElements : Nat) (a_markBits : Nat) (a_markPins : Nat) : zz_I g yX8_code (.code yX8_code cX8_code 1 (some .int)) rm_my_code [.ref h0] [(h0, .inr (7, [.int 0, .int 0, .ref a_kindOf, .ref a_depthOf, .ref a_lengthOf, .ref a_classOf, .ref a_baseOf, .ref a_bits, .ref a_pinned, .int 0, .ref a_lengths, .ref a_stackArray, .ref a_stackOther, .ref a_stackAt, .int 0, .int 0, .ref a_path, .ref a_held, .ref a_alike, .ref a_hashes, .int 0, .ref a_decisionArray, .ref a_decisionPlace, .ref a_candidateMany, .ref a_candidates, .int 0, .ref a_ruleSort, .ref a_ruleArray, .ref a_ruleWeight, .ref a_ruleLow, .ref a_ruleHigh, .ref a_chosen, .ref a_bestOf, .int 0, .ref a_markElements, .ref a_markBits, .ref a_markPins]))] (po_my_code g h0 a_kindOf a_depthOf a_lengthOf a_classOf a_baseOf a_bits a_pinned a_lengths a_stackArray a_stackOther a_stackAt a_path a_held a_alike a_hashes a_decisionArray a_decisionPlace a_candidateMany a_candidates a_ruleSort a_ruleArray a_ruleWeight a_ruleLow a_ruleHigh a_chosen a_bestOf a_markElements a_markBits a_markPins) := by
  refine zz_I.intro (own := RX8) (cc := cX8_code) (nL := 1) (by decide) rfl (Nat.le_of_ble_eq_true rfl) ?_
  intro p l e s m args below meth c A H locs ls hC hnm hZ hl
  obtain ⟨hx, hb, hml, hown, hts, hr, hlocks, hK⟩ := id hC
  have hl : lv_has ls 1 [(0, .ref h0)] := hl
  have hZ : zz_Z g A s.heap [(h0, .inr (7, [.int 0, .int 0, .ref a_kindOf, .ref a_depthOf, .ref a_lengthOf, .ref a_classOf, .ref a_baseOf, .ref a_bits, .ref a_pinned, .int 0, .ref a_lengths, .ref a_stackArray, .ref a_stackOther, .ref a_stackAt, .int 0, .int 0, .ref a_path, .ref a_held, .ref a_alike, .ref a_hashes, .int 0, .ref a_decisionArray, .ref a_decisionPlace, .ref a_candidateMany, .ref a_candidates, .int 0, .ref a_ruleSort, .ref a_ruleArray, .ref a_ruleWeight, .ref a_ruleLow, .ref a_ruleHigh, .ref a_chosen, .ref a_bestOf, .int 0, .ref a_markElements, .ref a_markBits, .ref a_markPins]))] H locs := hZ
  refine lv_aload_n hx hb dX8_code_0 rfl (lv_at hl 0 rfl) ?_
  refine zz_get hC hZ 0 rfl zf_X8_99 rfl dX8_code_1 ?_
  exact zz_iret hC hZ (rfl) (Nat.le_of_ble_eq_true rfl) (Nat.le_of_ble_eq_true rfl) dX8_code_4
theorem dX8_widens_0 : decode cX8_widens 0 = .ok (.iload_n 1, 1) := by decide +kernel
theorem dX8_widens_1 : decode cX8_widens 1 = .ok (.i2l, 1) := by decide +kernel
theorem dX8_widens_2 : decode cX8_widens 2 = .ok (.lconst 0, 1) := by decide +kernel
theorem dX8_widens_3 : decode cX8_widens 3 = .ok (.ldc2_w 173, 3) := by decide +kernel
theorem dX8_widens_6 : decode cX8_widens 6 = .ok (.invokestatic 106, 3) := by decide +kernel
theorem dX8_widens_9 : decode cX8_widens 9 = .ok (.ifCond .eq 15, 3) := by decide +kernel
theorem dX8_widens_24 : decode cX8_widens 24 = .ok (.aload_n 0, 1) := by decide +kernel
theorem dX8_widens_25 : decode cX8_widens 25 = .ok (.bipush 9, 2) := by decide +kernel
theorem dX8_widens_27 : decode cX8_widens 27 = .ok (.invokevirtual 175, 3) := by decide +kernel
theorem dX8_widens_30 : decode cX8_widens 30 = .ok (.ireturn, 1) := by decide +kernel
theorem dX8_widens_12 : decode cX8_widens 12 = .ok (.iload_n 2, 1) := by decide +kernel
theorem dX8_widens_13 : decode cX8_widens 13 = .ok (.i2l, 1) := by decide +kernel
theorem dX8_widens_14 : decode cX8_widens 14 = .ok (.lconst 0, 1) := by decide +kernel
theorem dX8_widens_15 : decode cX8_widens 15 = .ok (.ldc2_w 173, 3) := by decide +kernel
theorem dX8_widens_18 : decode cX8_widens 18 = .ok (.invokestatic 106, 3) := by decide +kernel
theorem dX8_widens_21 : decode cX8_widens 21 = .ok (.ifCond .ne 10, 3) := by decide +kernel
theorem dX8_widens_31 : decode cX8_widens 31 = .ok (.aload_n 0, 1) := by decide +kernel
theorem dX8_widens_32 : decode cX8_widens 32 = .ok (.iload_n 1, 1) := by decide +kernel
theorem dX8_widens_33 : decode cX8_widens 33 = .ok (.iload_n 2, 1) := by decide +kernel
theorem dX8_widens_34 : decode cX8_widens 34 = .ok (.invokestatic 179, 3) := by decide +kernel
theorem zk_859 : Cond.methodLink RX8 179 yX8_isWider ∈ zz_w := zz_in (List.mem_append_right _ (List.mem_append_right _ (List.mem_append_right _ (List.mem_append_right _ (List.mem_append_left _ (List.mem_of_getElem? (i := 139) (by decide +kernel))))))) rfl
set_option maxRecDepth 20000 in
theorem zk_861 : Cond.code yX8_isWider cX8_isWider 2 (some .boolean) ∈ zz_w := zz_in (List.mem_append_right _ (List.mem_append_right _ (List.mem_append_right _ (List.mem_append_right _ (List.mem_append_left _ (List.mem_of_getElem? (i := 141) (rfl))))))) rfl
theorem zk_860 : Cond.static yX8_isWider ∈ zz_w := zz_in (List.mem_append_right _ (List.mem_append_right _ (List.mem_append_right _ (List.mem_append_right _ (List.mem_append_left _ (List.mem_of_getElem? (i := 140) (by decide +kernel))))))) rfl
theorem zc_X8_179 : zz_cS RX8 179 yX8_isWider cX8_isWider 2 (some .boolean) 2 := ⟨⟨zk_859, zk_861, zk_7, by decide, by decide, by decide +kernel⟩, zk_860⟩
theorem dX8_widens_37 : decode cX8_widens 37 = .ok (.ifCond .eq 7, 3) := by decide +kernel
theorem dX8_widens_44 : decode cX8_widens 44 = .ok (.iconst 0, 1) := by decide +kernel
theorem dX8_widens_45 : decode cX8_widens 45 = .ok (.invokevirtual 183, 3) := by decide +kernel
theorem dX8_widens_48 : decode cX8_widens 48 = .ok (.ireturn, 1) := by decide +kernel
theorem dX8_widens_40 : decode cX8_widens 40 = .ok (.iconst 1, 1) := by decide +kernel
theorem dX8_widens_41 : decode cX8_widens 41 = .ok (.goto 4, 3) := by decide +kernel
def fn_my_widens (x1 : Int32) (x2 : Int32) : Int32 := (if (fn_cm_within x1.toInt64 0 8) = 0 then -9 else (if (fn_cm_within x2.toInt64 0 8) = 0 then -9 else (if (fn_cm_isWider x1 x2) = 0 then 0 else 1)))
abbrev rm_my_widens : Room := { frames := 1, cells := 0, slots := 0, locals := 25 }
abbrev po_my_widens (g : zz_G) (h0 : Nat) (a_kindOf : Nat) (a_depthOf : Nat) (a_lengthOf : Nat) (a_classOf : Nat) (a_baseOf : Nat) (a_bits : Nat) (a_pinned : Nat) (a_lengths : Nat) (a_stackArray : Nat) (a_stackOther : Nat) (a_stackAt : Nat) (a_path : Nat) (a_held : Nat) (a_alike : Nat) (a_hashes : Nat) (a_decisionArray : Nat) (a_decisionPlace : Nat) (a_candidateMany : Nat) (a_candidates : Nat) (a_ruleSort : Nat) (a_ruleArray : Nat) (a_ruleWeight : Nat) (a_ruleLow : Nat) (a_ruleHigh : Nat) (a_chosen : Nat) (a_bestOf : Nat) (a_markElements : Nat) (a_markBits : Nat) (a_markPins : Nat) (x1 : Int32) (x2 : Int32) : Int32 → va_W → Prop := fun (r : Int32) (u : va_W) => r = fn_my_widens x1 x2
set_option maxHeartbeats 4000000 in
set_option maxRecDepth 100000 in
theorem my_widens (g : zz_G) (h0 : Nat) (a_kindOf : Nat) (a_depthOf : Nat) (a_lengthOf : Nat) (a_classOf : Nat) (a_baseOf : Nat) (a_bits : Nat) (a_pinned : Nat) (a_lengths : Nat) (a_stackArray : Nat) (a_stackOther : Nat) (a_stackAt : Nat) (a_path : Nat) (a_held : Nat) (a_alike : Nat) (a_hashes : Nat) (a_decisionArray : Nat) (a_decisionPlace : Nat) (a_candidateMany : Nat) (a_candidates : Nat) (a_ruleSort : Nat) (a_ruleArray : Nat) (a_ruleWeight : Nat) (a_ruleLow : Nat) (a_ruleHigh : Nat) (a_chosen : Nat) (a_bestOf : Nat) (a_markElements : Nat) (a_markBits : Nat) (a_markPins : Nat) (x1 : Int32) (x2 : Int32) : zz_I g yX8_widens (.code yX8_widens cX8_widens 3 (some .int)) rm_my_widens [.ref h0, .int x1, .int x2] [(h0, .inr (7, [.int 0, .int 0, .ref a_kindOf, .ref a_depthOf, .ref a_lengthOf, .ref a_classOf, .ref a_baseOf, .ref a_bits, .ref a_pinned, .int 0, .ref a_lengths, .ref a_stackArray, .ref a_stackOther, .ref a_stackAt, .int 0, .int 0, .ref a_path, .ref a_held, .ref a_alike, .ref a_hashes, .int 0, .ref a_decisionArray, .ref a_decisionPlace, .ref a_candidateMany, .ref a_candidates, .int 0, .ref a_ruleSort, .ref a_ruleArray, .ref a_ruleWeight, .ref a_ruleLow, .ref a_ruleHigh, .ref a_chosen, .ref a_bestOf, .int 0, .ref a_markElements, .ref a_markBits, .ref a_markPins]))] (po_my_widens g h0 a_kindOf a_depthOf a_lengthOf a_classOf a_baseOf a_bits a_pinned a_lengths a_stackArray a_stackOther a_stackAt a_path a_held a_alike a_hashes a_decisionArray a_decisionPlace a_candidateMany a_candidates a_ruleSort a_ruleArray a_ruleWeight a_ruleLow a_ruleHigh a_chosen a_bestOf a_markElements a_markBits a_markPins x1 x2) := by
  refine zz_I.intro (own := RX8) (cc := cX8_widens) (nL := 3) (by decide) rfl (Nat.le_of_ble_eq_true rfl) ?_
  intro p l e s m args below meth c A H locs ls hC hnm hZ hl
  obtain ⟨hx, hb, hml, hown, hts, hr, hlocks, hK⟩ := id hC
  have hl : lv_has ls 3 [(0, .ref h0), (1, .int x1), (2, .int x2)] := hl
  have hZ : zz_Z g A s.heap [(h0, .inr (7, [.int 0, .int 0, .ref a_kindOf, .ref a_depthOf, .ref a_lengthOf, .ref a_classOf, .ref a_baseOf, .ref a_bits, .ref a_pinned, .int 0, .ref a_lengths, .ref a_stackArray, .ref a_stackOther, .ref a_stackAt, .int 0, .int 0, .ref a_path, .ref a_held, .ref a_alike, .ref a_hashes, .int 0, .ref a_decisionArray, .ref a_decisionPlace, .ref a_candidateMany, .ref a_candidates, .int 0, .ref a_ruleSort, .ref a_ruleArray, .ref a_ruleWeight, .ref a_ruleLow, .ref a_ruleHigh, .ref a_chosen, .ref a_bestOf, .int 0, .ref a_markElements, .ref a_markBits, .ref a_markPins]))] H locs := hZ
  refine lv_iload_n hx hb dX8_widens_0 rfl (lv_at hl 1 rfl) ?_
  refine lv_i2l hx hb dX8_widens_1 rfl ?_
  refine lv_lconst (v := 0) hx hb dX8_widens_2 (by decide) ?_
  refine lv_ldc2 hx hb hown (hts _ zk_851) dX8_widens_3 ?_
  refine zz_iS (As := [.long x1.toInt64, .long 0, .long 8]) (wc := []) (wr := [(h0, .inr (7, [.int 0, .int 0, .ref a_kindOf, .ref a_depthOf, .ref a_lengthOf, .ref a_classOf, .ref a_baseOf, .ref a_bits, .ref a_pinned, .int 0, .ref a_lengths, .ref a_stackArray, .ref a_stackOther, .ref a_stackAt, .int 0, .int 0, .ref a_path, .ref a_held, .ref a_alike, .ref a_hashes, .int 0, .ref a_decisionArray, .ref a_decisionPlace, .ref a_candidateMany, .ref a_candidates, .int 0, .ref a_ruleSort, .ref a_ruleArray, .ref a_ruleWeight, .ref a_ruleLow, .ref a_ruleHigh, .ref a_chosen, .ref a_bestOf, .int 0, .ref a_markElements, .ref a_markBits, .ref a_markPins]))]) (rest := []) hC hZ hl zc_X8_106 (cm_within g x1.toInt64 0 8) [] [0] rfl rfl (by decide) rfl rfl (Nat.le_of_ble_eq_true rfl) ⟨⟨Nat.le_of_ble_eq_true rfl, Nat.le_of_ble_eq_true rfl⟩, Nat.le_of_ble_eq_true rfl, Nat.le_of_ble_eq_true rfl⟩ dX8_widens_6 (fun r1 u2 H locs hp hZ => ?_)
  obtain ⟨rfl, rfl⟩ := hp
  have hZ : zz_Z g A s.heap [(h0, .inr (7, [.int 0, .int 0, .ref a_kindOf, .ref a_depthOf, .ref a_lengthOf, .ref a_classOf, .ref a_baseOf, .ref a_bits, .ref a_pinned, .int 0, .ref a_lengths, .ref a_stackArray, .ref a_stackOther, .ref a_stackAt, .int 0, .int 0, .ref a_path, .ref a_held, .ref a_alike, .ref a_hashes, .int 0, .ref a_decisionArray, .ref a_decisionPlace, .ref a_candidateMany, .ref a_candidates, .int 0, .ref a_ruleSort, .ref a_ruleArray, .ref a_ruleWeight, .ref a_ruleLow, .ref a_ruleHigh, .ref a_chosen, .ref a_bestOf, .int 0, .ref a_markElements, .ref a_markBits, .ref a_markPins]))] H locs := hZ
  refine lv_if_eq (tgt := 24) hx hb dX8_widens_9 (by decide) (fun c3 => ?_) (fun c3 => ?_)
  · refine lv_aload_n hx hb dX8_widens_24 rfl (lv_at hl 0 rfl) ?_
    refine lv_bipush (v := 9) hx hb dX8_widens_25 (by decide) ?_
    refine zz_iV (As := [.int 9]) (wc := [(h0, .inr (7, [.int 0, .int 0, .ref a_kindOf, .ref a_depthOf, .ref a_lengthOf, .ref a_classOf, .ref a_baseOf, .ref a_bits, .ref a_pinned, .int 0, .ref a_lengths, .ref a_stackArray, .ref a_stackOther, .ref a_stackAt, .int 0, .int 0, .ref a_path, .ref a_held, .ref a_alike, .ref a_hashes, .int 0, .ref a_decisionArray, .ref a_decisionPlace, .ref a_candidateMany, .ref a_candidates, .int 0, .ref a_ruleSort, .ref a_ruleArray, .ref a_ruleWeight, .ref a_ruleLow, .ref a_ruleHigh, .ref a_chosen, .ref a_bestOf, .int 0, .ref a_markElements, .ref a_markBits, .ref a_markPins]))]) (wr := []) (rest := []) hC hZ hl zc_X8_175 (cm_fails g h0 a_kindOf a_depthOf a_lengthOf a_classOf a_baseOf a_bits a_pinned a_lengths a_stackArray a_stackOther a_stackAt a_path a_held a_alike a_hashes a_decisionArray a_decisionPlace a_candidateMany a_candidates a_ruleSort a_ruleArray a_ruleWeight a_ruleLow a_ruleHigh a_chosen a_bestOf a_markElements a_markBits a_markPins 0 0 0 0 0 0 0 0 9) [0] [] rfl rfl (by decide) (ci := 7) (q0 := 0) rfl rfl rfl rfl (Nat.le_of_ble_eq_true rfl) ⟨⟨Nat.le_of_ble_eq_true rfl, Nat.le_of_ble_eq_true rfl⟩, Nat.le_of_ble_eq_true rfl, Nat.le_of_ble_eq_true rfl⟩ dX8_widens_27 (fun r4 u5 H locs hp hZ => ?_)
    obtain ⟨rfl, rfl⟩ := hp
    have hZ : zz_Z g A s.heap [(h0, .inr (7, [.int 0, .int 0, .ref a_kindOf, .ref a_depthOf, .ref a_lengthOf, .ref a_classOf, .ref a_baseOf, .ref a_bits, .ref a_pinned, .int 9, .ref a_lengths, .ref a_stackArray, .ref a_stackOther, .ref a_stackAt, .int 0, .int 0, .ref a_path, .ref a_held, .ref a_alike, .ref a_hashes, .int 0, .ref a_decisionArray, .ref a_decisionPlace, .ref a_candidateMany, .ref a_candidates, .int 0, .ref a_ruleSort, .ref a_ruleArray, .ref a_ruleWeight, .ref a_ruleLow, .ref a_ruleHigh, .ref a_chosen, .ref a_bestOf, .int 0, .ref a_markElements, .ref a_markBits, .ref a_markPins]))] H locs := hZ
    exact zz_iret hC hZ (by show _ = _; rw [fn_my_widens, if_pos c3]) (Nat.le_of_ble_eq_true rfl) (Nat.le_of_ble_eq_true rfl) dX8_widens_30
  · refine lv_iload_n hx hb dX8_widens_12 rfl (lv_at hl 2 rfl) ?_
    refine lv_i2l hx hb dX8_widens_13 rfl ?_
    refine lv_lconst (v := 0) hx hb dX8_widens_14 (by decide) ?_
    refine lv_ldc2 hx hb hown (hts _ zk_851) dX8_widens_15 ?_
    refine zz_iS (As := [.long x2.toInt64, .long 0, .long 8]) (wc := []) (wr := [(h0, .inr (7, [.int 0, .int 0, .ref a_kindOf, .ref a_depthOf, .ref a_lengthOf, .ref a_classOf, .ref a_baseOf, .ref a_bits, .ref a_pinned, .int 0, .ref a_lengths, .ref a_stackArray, .ref a_stackOther, .ref a_stackAt, .int 0, .int 0, .ref a_path, .ref a_held, .ref a_alike, .ref a_hashes, .int 0, .ref a_decisionArray, .ref a_decisionPlace, .ref a_candidateMany, .ref a_candidates, .int 0, .ref a_ruleSort, .ref a_ruleArray, .ref a_ruleWeight, .ref a_ruleLow, .ref a_ruleHigh, .ref a_chosen, .ref a_bestOf, .int 0, .ref a_markElements, .ref a_markBits, .ref a_markPins]))]) (rest := []) hC hZ hl zc_X8_106 (cm_within g x2.toInt64 0 8) [] [0] rfl rfl (by decide) rfl rfl (Nat.le_of_ble_eq_true rfl) ⟨⟨Nat.le_of_ble_eq_true rfl, Nat.le_of_ble_eq_true rfl⟩, Nat.le_of_ble_eq_true rfl, Nat.le_of_ble_eq_true rfl⟩ dX8_widens_18 (fun r6 u7 H locs hp hZ => ?_)
    obtain ⟨rfl, rfl⟩ := hp
    have hZ : zz_Z g A s.heap [(h0, .inr (7, [.int 0, .int 0, .ref a_kindOf, .ref a_depthOf, .ref a_lengthOf, .ref a_classOf, .ref a_baseOf, .ref a_bits, .ref a_pinned, .int 0, .ref a_lengths, .ref a_stackArray, .ref a_stackOther, .ref a_stackAt, .int 0, .int 0, .ref a_path, .ref a_held, .ref a_alike, .ref a_hashes, .int 0, .ref a_decisionArray, .ref a_decisionPlace, .ref a_candidateMany, .ref a_candidates, .int 0, .ref a_ruleSort, .ref a_ruleArray, .ref a_ruleWeight, .ref a_ruleLow, .ref a_ruleHigh, .ref a_chosen, .ref a_bestOf, .int 0, .ref a_markElements, .ref a_markBits, .ref a_markPins]))] H locs := hZ
    refine lv_if_ne (tgt := 31) hx hb dX8_widens_21 (by decide) (fun c8 => ?_) (fun c8 => ?_)
    · refine lv_aload_n hx hb dX8_widens_31 rfl (lv_at hl 0 rfl) ?_
      refine lv_iload_n hx hb dX8_widens_32 rfl (lv_at hl 1 rfl) ?_
      refine lv_iload_n hx hb dX8_widens_33 rfl (lv_at hl 2 rfl) ?_
      refine zz_iS (As := [.int x1, .int x2]) (wc := []) (wr := [(h0, .inr (7, [.int 0, .int 0, .ref a_kindOf, .ref a_depthOf, .ref a_lengthOf, .ref a_classOf, .ref a_baseOf, .ref a_bits, .ref a_pinned, .int 0, .ref a_lengths, .ref a_stackArray, .ref a_stackOther, .ref a_stackAt, .int 0, .int 0, .ref a_path, .ref a_held, .ref a_alike, .ref a_hashes, .int 0, .ref a_decisionArray, .ref a_decisionPlace, .ref a_candidateMany, .ref a_candidates, .int 0, .ref a_ruleSort, .ref a_ruleArray, .ref a_ruleWeight, .ref a_ruleLow, .ref a_ruleHigh, .ref a_chosen, .ref a_bestOf, .int 0, .ref a_markElements, .ref a_markBits, .ref a_markPins]))]) (rest := [.ref h0]) hC hZ hl zc_X8_179 (cm_isWider g x1 x2) [] [0] rfl rfl (by decide) rfl rfl (Nat.le_of_ble_eq_true rfl) ⟨⟨Nat.le_of_ble_eq_true rfl, Nat.le_of_ble_eq_true rfl⟩, Nat.le_of_ble_eq_true rfl, Nat.le_of_ble_eq_true rfl⟩ dX8_widens_34 (fun r9 u10 H locs hp hZ => ?_)
      obtain ⟨rfl, rfl⟩ := hp
      have hZ : zz_Z g A s.heap [(h0, .inr (7, [.int 0, .int 0, .ref a_kindOf, .ref a_depthOf, .ref a_lengthOf, .ref a_classOf, .ref a_baseOf, .ref a_bits, .ref a_pinned, .int 0, .ref a_lengths, .ref a_stackArray, .ref a_stackOther, .ref a_stackAt, .int 0, .int 0, .ref a_path, .ref a_held, .ref a_alike, .ref a_hashes, .int 0, .ref a_decisionArray, .ref a_decisionPlace, .ref a_candidateMany, .ref a_candidates, .int 0, .ref a_ruleSort, .ref a_ruleArray, .ref a_ruleWeight, .ref a_ruleLow, .ref a_ruleHigh, .ref a_chosen, .ref a_bestOf, .int 0, .ref a_markElements, .ref a_markBits, .ref a_markPins]))] H locs := hZ
      refine lv_if_eq (tgt := 44) hx hb dX8_widens_37 (by decide) (fun c11 => ?_) (fun c11 => ?_)
      · refine lv_iconst (v := 0) hx hb dX8_widens_44 (by decide) ?_
        refine zz_iV (As := [.int 0]) (wc := [(h0, .inr (7, [.int 0, .int 0, .ref a_kindOf, .ref a_depthOf, .ref a_lengthOf, .ref a_classOf, .ref a_baseOf, .ref a_bits, .ref a_pinned, .int 0, .ref a_lengths, .ref a_stackArray, .ref a_stackOther, .ref a_stackAt, .int 0, .int 0, .ref a_path, .ref a_held, .ref a_alike, .ref a_hashes, .int 0, .ref a_decisionArray, .ref a_decisionPlace, .ref a_candidateMany, .ref a_candidates, .int 0, .ref a_ruleSort, .ref a_ruleArray, .ref a_ruleWeight, .ref a_ruleLow, .ref a_ruleHigh, .ref a_chosen, .ref a_bestOf, .int 0, .ref a_markElements, .ref a_markBits, .ref a_markPins]))]) (wr := []) (rest := []) hC hZ hl zc_X8_183 (cm_fine g h0 a_kindOf a_depthOf a_lengthOf a_classOf a_baseOf a_bits a_pinned a_lengths a_stackArray a_stackOther a_stackAt a_path a_held a_alike a_hashes a_decisionArray a_decisionPlace a_candidateMany a_candidates a_ruleSort a_ruleArray a_ruleWeight a_ruleLow a_ruleHigh a_chosen a_bestOf a_markElements a_markBits a_markPins 0 0 0 0 0 0 0 0 0) [0] [] rfl rfl (by decide) (ci := 7) (q0 := 0) rfl rfl rfl rfl (Nat.le_of_ble_eq_true rfl) ⟨⟨Nat.le_of_ble_eq_true rfl, Nat.le_of_ble_eq_true rfl⟩, Nat.le_of_ble_eq_true rfl, Nat.le_of_ble_eq_true rfl⟩ dX8_widens_45 (fun r12 u13 H locs hp hZ => ?_)
        obtain ⟨rfl, rfl⟩ := hp
        have hZ : zz_Z g A s.heap [(h0, .inr (7, [.int 0, .int 0, .ref a_kindOf, .ref a_depthOf, .ref a_lengthOf, .ref a_classOf, .ref a_baseOf, .ref a_bits, .ref a_pinned, .int 0, .ref a_lengths, .ref a_stackArray, .ref a_stackOther, .ref a_stackAt, .int 0, .int 0, .ref a_path, .ref a_held, .ref a_alike, .ref a_hashes, .int 0, .ref a_decisionArray, .ref a_decisionPlace, .ref a_candidateMany, .ref a_candidates, .int 0, .ref a_ruleSort, .ref a_ruleArray, .ref a_ruleWeight, .ref a_ruleLow, .ref a_ruleHigh, .ref a_chosen, .ref a_bestOf, .int 0, .ref a_markElements, .ref a_markBits, .ref a_markPins]))] H locs := hZ
        exact zz_iret hC hZ (by show _ = _; rw [fn_my_widens, if_neg c3, if_neg c8, if_pos c11]) (Nat.le_of_ble_eq_true rfl) (Nat.le_of_ble_eq_true rfl) dX8_widens_48
      · refine lv_iconst (v := 1) hx hb dX8_widens_40 (by decide) ?_
        refine lv_goto (tgt := 45) hx hb dX8_widens_41 (by decide) ?_
        refine zz_iV (As := [.int 1]) (wc := [(h0, .inr (7, [.int 0, .int 0, .ref a_kindOf, .ref a_depthOf, .ref a_lengthOf, .ref a_classOf, .ref a_baseOf, .ref a_bits, .ref a_pinned, .int 0, .ref a_lengths, .ref a_stackArray, .ref a_stackOther, .ref a_stackAt, .int 0, .int 0, .ref a_path, .ref a_held, .ref a_alike, .ref a_hashes, .int 0, .ref a_decisionArray, .ref a_decisionPlace, .ref a_candidateMany, .ref a_candidates, .int 0, .ref a_ruleSort, .ref a_ruleArray, .ref a_ruleWeight, .ref a_ruleLow, .ref a_ruleHigh, .ref a_chosen, .ref a_bestOf, .int 0, .ref a_markElements, .ref a_markBits, .ref a_markPins]))]) (wr := []) (rest := []) hC hZ hl zc_X8_183 (cm_fine g h0 a_kindOf a_depthOf a_lengthOf a_classOf a_baseOf a_bits a_pinned a_lengths a_stackArray a_stackOther a_stackAt a_path a_held a_alike a_hashes a_decisionArray a_decisionPlace a_candidateMany a_candidates a_ruleSort a_ruleArray a_ruleWeight a_ruleLow a_ruleHigh a_chosen a_bestOf a_markElements a_markBits a_markPins 0 0 0 0 0 0 0 0 1) [0] [] rfl rfl (by decide) (ci := 7) (q0 := 0) rfl rfl rfl rfl (Nat.le_of_ble_eq_true rfl) ⟨⟨Nat.le_of_ble_eq_true rfl, Nat.le_of_ble_eq_true rfl⟩, Nat.le_of_ble_eq_true rfl, Nat.le_of_ble_eq_true rfl⟩ dX8_widens_45 (fun r14 u15 H locs hp hZ => ?_)
        obtain ⟨rfl, rfl⟩ := hp
        have hZ : zz_Z g A s.heap [(h0, .inr (7, [.int 0, .int 0, .ref a_kindOf, .ref a_depthOf, .ref a_lengthOf, .ref a_classOf, .ref a_baseOf, .ref a_bits, .ref a_pinned, .int 0, .ref a_lengths, .ref a_stackArray, .ref a_stackOther, .ref a_stackAt, .int 0, .int 0, .ref a_path, .ref a_held, .ref a_alike, .ref a_hashes, .int 0, .ref a_decisionArray, .ref a_decisionPlace, .ref a_candidateMany, .ref a_candidates, .int 0, .ref a_ruleSort, .ref a_ruleArray, .ref a_ruleWeight, .ref a_ruleLow, .ref a_ruleHigh, .ref a_chosen, .ref a_bestOf, .int 0, .ref a_markElements, .ref a_markBits, .ref a_markPins]))] H locs := hZ
        exact zz_iret hC hZ (by show _ = _; rw [fn_my_widens, if_neg c3, if_neg c8, if_neg c11]) (Nat.le_of_ble_eq_true rfl) (Nat.le_of_ble_eq_true rfl) dX8_widens_48
    · refine lv_aload_n hx hb dX8_widens_24 rfl (lv_at hl 0 rfl) ?_
      refine lv_bipush (v := 9) hx hb dX8_widens_25 (by decide) ?_
      refine zz_iV (As := [.int 9]) (wc := [(h0, .inr (7, [.int 0, .int 0, .ref a_kindOf, .ref a_depthOf, .ref a_lengthOf, .ref a_classOf, .ref a_baseOf, .ref a_bits, .ref a_pinned, .int 0, .ref a_lengths, .ref a_stackArray, .ref a_stackOther, .ref a_stackAt, .int 0, .int 0, .ref a_path, .ref a_held, .ref a_alike, .ref a_hashes, .int 0, .ref a_decisionArray, .ref a_decisionPlace, .ref a_candidateMany, .ref a_candidates, .int 0, .ref a_ruleSort, .ref a_ruleArray, .ref a_ruleWeight, .ref a_ruleLow, .ref a_ruleHigh, .ref a_chosen, .ref a_bestOf, .int 0, .ref a_markElements, .ref a_markBits, .ref a_markPins]))]) (wr := []) (rest := []) hC hZ hl zc_X8_175 (cm_fails g h0 a_kindOf a_depthOf a_lengthOf a_classOf a_baseOf a_bits a_pinned a_lengths a_stackArray a_stackOther a_stackAt a_path a_held a_alike a_hashes a_decisionArray a_decisionPlace a_candidateMany a_candidates a_ruleSort a_ruleArray a_ruleWeight a_ruleLow a_ruleHigh a_chosen a_bestOf a_markElements a_markBits a_markPins 0 0 0 0 0 0 0 0 9) [0] [] rfl rfl (by decide) (ci := 7) (q0 := 0) rfl rfl rfl rfl (Nat.le_of_ble_eq_true rfl) ⟨⟨Nat.le_of_ble_eq_true rfl, Nat.le_of_ble_eq_true rfl⟩, Nat.le_of_ble_eq_true rfl, Nat.le_of_ble_eq_true rfl⟩ dX8_widens_27 (fun r16 u17 H locs hp hZ => ?_)
      obtain ⟨rfl, rfl⟩ := hp
      have hZ : zz_Z g A s.heap [(h0, .inr (7, [.int 0, .int 0, .ref a_kindOf, .ref a_depthOf, .ref a_lengthOf, .ref a_classOf, .ref a_baseOf, .ref a_bits, .ref a_pinned, .int 9, .ref a_lengths, .ref a_stackArray, .ref a_stackOther, .ref a_stackAt, .int 0, .int 0, .ref a_path, .ref a_held, .ref a_alike, .ref a_hashes, .int 0, .ref a_decisionArray, .ref a_decisionPlace, .ref a_candidateMany, .ref a_candidates, .int 0, .ref a_ruleSort, .ref a_ruleArray, .ref a_ruleWeight, .ref a_ruleLow, .ref a_ruleHigh, .ref a_chosen, .ref a_bestOf, .int 0, .ref a_markElements, .ref a_markBits, .ref a_markPins]))] H locs := hZ
      exact zz_iret hC hZ (by show _ = _; rw [fn_my_widens, if_neg c3, if_pos c8]) (Nat.le_of_ble_eq_true rfl) (Nat.le_of_ble_eq_true rfl) dX8_widens_30
theorem dX8_fill_0 : decode cX8_fill 0 = .ok (.aload_n 0, 1) := by decide +kernel
theorem dX8_fill_1 : decode cX8_fill 1 = .ok (.iload_n 1, 1) := by decide +kernel
theorem dX8_fill_2 : decode cX8_fill 2 = .ok (.invokevirtual 200, 3) := by decide +kernel
theorem dX8_fill_5 : decode cX8_fill 5 = .ok (.ifCond .ne 7, 3) := by decide +kernel
theorem dX8_fill_8 : decode cX8_fill 8 = .ok (.iconst 5, 1) := by decide +kernel
theorem dX8_fill_9 : decode cX8_fill 9 = .ok (.goto 97, 3) := by decide +kernel
theorem dX8_fill_106 : decode cX8_fill 106 = .ok (.istore 7, 2) := by decide +kernel
theorem dX8_fill_108 : decode cX8_fill 108 = .ok (.iload_n 2, 1) := by decide +kernel
theorem dX8_fill_109 : decode cX8_fill 109 = .ok (.istore 8, 2) := by decide +kernel
theorem dX8_fill_111 : decode cX8_fill 111 = .ok (.iload 8, 2) := by decide +kernel
theorem dX8_fill_113 : decode cX8_fill 113 = .ok (.iload_n 3, 1) := by decide +kernel
theorem dX8_fill_114 : decode cX8_fill 114 = .ok (.if_icmp .ge 39, 3) := by decide +kernel
theorem dX8_fill_153 : decode cX8_fill 153 = .ok (.iload 7, 2) := by decide +kernel
theorem dX8_fill_155 : decode cX8_fill 155 = .ok (.ifCond .ne 23, 3) := by decide +kernel
theorem dX8_fill_178 : decode cX8_fill 178 = .ok (.iload 7, 2) := by decide +kernel
theorem dX8_fill_180 : decode cX8_fill 180 = .ok (.istore 7, 2) := by decide +kernel
theorem dX8_fill_182 : decode cX8_fill 182 = .ok (.iload 7, 2) := by decide +kernel
theorem dX8_fill_184 : decode cX8_fill 184 = .ok (.ifCond .le 10, 3) := by decide +kernel
theorem dX8_fill_187 : decode cX8_fill 187 = .ok (.aload_n 0, 1) := by decide +kernel
theorem dX8_fill_188 : decode cX8_fill 188 = .ok (.iload 7, 2) := by decide +kernel
theorem dX8_fill_190 : decode cX8_fill 190 = .ok (.invokevirtual 175, 3) := by decide +kernel
theorem dX8_fill_193 : decode cX8_fill 193 = .ok (.ireturn, 1) := by decide +kernel
theorem dX8_fill_117 : decode cX8_fill 117 = .ok (.iload 7, 2) := by decide +kernel
theorem dX8_fill_119 : decode cX8_fill 119 = .ok (.ifCond .ne 34, 3) := by decide +kernel
def fn_my_fill (x2 : Int32) (x3 : Int32) : Int32 := (if x3 ≤ x2 then -5 else -5)
abbrev rm_my_fill : Room := { frames := 2, cells := 0, slots := 0, locals := 46 }
abbrev po_my_fill (g : zz_G) (h0 : Nat) (a_kindOf : Nat) (a_depthOf : Nat) (a_lengthOf : Nat) (a_classOf : Nat) (a_baseOf : Nat) (a_bits : Nat) (a_pinned : Nat) (a_lengths : Nat) (a_stackArray : Nat) (a_stackOther : Nat) (a_stackAt : Nat) (a_path : Nat) (a_held : Nat) (a_alike : Nat) (a_hashes : Nat) (a_decisionArray : Nat) (a_decisionPlace : Nat) (a_candidateMany : Nat) (a_candidates : Nat) (a_ruleSort : Nat) (a_ruleArray : Nat) (a_ruleWeight : Nat) (a_ruleLow : Nat) (a_ruleHigh : Nat) (a_chosen : Nat) (a_bestOf : Nat) (a_markElements : Nat) (a_markBits : Nat) (a_markPins : Nat) (x1 : Int32) (x2 : Int32) (x3 : Int32) (x4 : Int32) (x5 : Int64) : Int32 → va_W → Prop := fun (r : Int32) (u : va_W) => r = fn_my_fill x2 x3
set_option maxHeartbeats 4000000 in
set_option maxRecDepth 100000 in
theorem my_fill (g : zz_G) (h0 : Nat) (a_kindOf : Nat) (a_depthOf : Nat) (a_lengthOf : Nat) (a_classOf : Nat) (a_baseOf : Nat) (a_bits : Nat) (a_pinned : Nat) (a_lengths : Nat) (a_stackArray : Nat) (a_stackOther : Nat) (a_stackAt : Nat) (a_path : Nat) (a_held : Nat) (a_alike : Nat) (a_hashes : Nat) (a_decisionArray : Nat) (a_decisionPlace : Nat) (a_candidateMany : Nat) (a_candidates : Nat) (a_ruleSort : Nat) (a_ruleArray : Nat) (a_ruleWeight : Nat) (a_ruleLow : Nat) (a_ruleHigh : Nat) (a_chosen : Nat) (a_bestOf : Nat) (a_markElements : Nat) (a_markBits : Nat) (a_markPins : Nat) (x1 : Int32) (x2 : Int32) (x3 : Int32) (x4 : Int32) (x5 : Int64) : zz_I g yX8_fill (.code yX8_fill cX8_fill 9 (some .int)) rm_my_fill [.ref h0, .int x1, .int x2, .int x3, .int x4, .long x5] [(h0, .inr (7, [.int 0, .int 0, .ref a_kindOf, .ref a_depthOf, .ref a_lengthOf, .ref a_classOf, .ref a_baseOf, .ref a_bits, .ref a_pinned, .int 0, .ref a_lengths, .ref a_stackArray, .ref a_stackOther, .ref a_stackAt, .int 0, .int 0, .ref a_path, .ref a_held, .ref a_alike, .ref a_hashes, .int 0, .ref a_decisionArray, .ref a_decisionPlace, .ref a_candidateMany, .ref a_candidates, .int 0, .ref a_ruleSort, .ref a_ruleArray, .ref a_ruleWeight, .ref a_ruleLow, .ref a_ruleHigh, .ref a_chosen, .ref a_bestOf, .int 0, .ref a_markElements, .ref a_markBits, .ref a_markPins]))] (po_my_fill g h0 a_kindOf a_depthOf a_lengthOf a_classOf a_baseOf a_bits a_pinned a_lengths a_stackArray a_stackOther a_stackAt a_path a_held a_alike a_hashes a_decisionArray a_decisionPlace a_candidateMany a_candidates a_ruleSort a_ruleArray a_ruleWeight a_ruleLow a_ruleHigh a_chosen a_bestOf a_markElements a_markBits a_markPins x1 x2 x3 x4 x5) := by
  refine zz_I.intro (own := RX8) (cc := cX8_fill) (nL := 9) (by decide) rfl (Nat.le_of_ble_eq_true rfl) ?_
  intro p l e s m args below meth c A H locs ls hC hnm hZ hl
  obtain ⟨hx, hb, hml, hown, hts, hr, hlocks, hK⟩ := id hC
  have hl : lv_has ls 9 [(0, .ref h0), (1, .int x1), (2, .int x2), (3, .int x3), (4, .int x4), (5, .long x5)] := hl
  have hZ : zz_Z g A s.heap [(h0, .inr (7, [.int 0, .int 0, .ref a_kindOf, .ref a_depthOf, .ref a_lengthOf, .ref a_classOf, .ref a_baseOf, .ref a_bits, .ref a_pinned, .int 0, .ref a_lengths, .ref a_stackArray, .ref a_stackOther, .ref a_stackAt, .int 0, .int 0, .ref a_path, .ref a_held, .ref a_alike, .ref a_hashes, .int 0, .ref a_decisionArray, .ref a_decisionPlace, .ref a_candidateMany, .ref a_candidates, .int 0, .ref a_ruleSort, .ref a_ruleArray, .ref a_ruleWeight, .ref a_ruleLow, .ref a_ruleHigh, .ref a_chosen, .ref a_bestOf, .int 0, .ref a_markElements, .ref a_markBits, .ref a_markPins]))] H locs := hZ
  refine lv_aload_n hx hb dX8_fill_0 rfl (lv_at hl 0 rfl) ?_
  refine lv_iload_n hx hb dX8_fill_1 rfl (lv_at hl 1 rfl) ?_
  refine zz_iV (As := [.int x1]) (wc := [(h0, .inr (7, [.int 0, .int 0, .ref a_kindOf, .ref a_depthOf, .ref a_lengthOf, .ref a_classOf, .ref a_baseOf, .ref a_bits, .ref a_pinned, .int 0, .ref a_lengths, .ref a_stackArray, .ref a_stackOther, .ref a_stackAt, .int 0, .int 0, .ref a_path, .ref a_held, .ref a_alike, .ref a_hashes, .int 0, .ref a_decisionArray, .ref a_decisionPlace, .ref a_candidateMany, .ref a_candidates, .int 0, .ref a_ruleSort, .ref a_ruleArray, .ref a_ruleWeight, .ref a_ruleLow, .ref a_ruleHigh, .ref a_chosen, .ref a_bestOf, .int 0, .ref a_markElements, .ref a_markBits, .ref a_markPins]))]) (wr := []) (rest := []) hC hZ hl zc_X8_200 (cm_isArray0 g h0 a_kindOf a_depthOf a_lengthOf a_classOf a_baseOf a_bits a_pinned a_lengths a_stackArray a_stackOther a_stackAt a_path a_held a_alike a_hashes a_decisionArray a_decisionPlace a_candidateMany a_candidates a_ruleSort a_ruleArray a_ruleWeight a_ruleLow a_ruleHigh a_chosen a_bestOf a_markElements a_markBits a_markPins 0 0 0 0 0 0 0 x1) [0] [] rfl rfl (by decide) (ci := 7) (q0 := 0) rfl rfl rfl rfl (Nat.le_of_ble_eq_true rfl) ⟨⟨Nat.le_of_ble_eq_true rfl, Nat.le_of_ble_eq_true rfl⟩, Nat.le_of_ble_eq_true rfl, Nat.le_of_ble_eq_true rfl⟩ dX8_fill_2 (fun r1 u2 H locs hp hZ => ?_)
  obtain ⟨rfl, rfl⟩ := hp
  have hZ : zz_Z g A s.heap [(h0, .inr (7, [.int 0, .int 0, .ref a_kindOf, .ref a_depthOf, .ref a_lengthOf, .ref a_classOf, .ref a_baseOf, .ref a_bits, .ref a_pinned, .int 0, .ref a_lengths, .ref a_stackArray, .ref a_stackOther, .ref a_stackAt, .int 0, .int 0, .ref a_path, .ref a_held, .ref a_alike, .ref a_hashes, .int 0, .ref a_decisionArray, .ref a_decisionPlace, .ref a_candidateMany, .ref a_candidates, .int 0, .ref a_ruleSort, .ref a_ruleArray, .ref a_ruleWeight, .ref a_ruleLow, .ref a_ruleHigh, .ref a_chosen, .ref a_bestOf, .int 0, .ref a_markElements, .ref a_markBits, .ref a_markPins]))] H locs := hZ
  refine lv_if_ne (tgt := 12) hx hb dX8_fill_5 (by decide) (fun c => absurd (by decide) c) (fun c3 => ?_)
  refine lv_iconst (v := 5) hx hb dX8_fill_8 (by decide) ?_
  refine lv_goto (tgt := 106) hx hb dX8_fill_9 (by decide) ?_
  refine lv_istore (lv' := [(7, .int 5), (0, .ref h0), (1, .int x1), (2, .int x2), (3, .int x3), (4, .int x4), (5, .long x5)]) hx hb dX8_fill_106 hl (by decide) rfl (fun ls hl => ?_)
  refine lv_iload_n hx hb dX8_fill_108 rfl (lv_at hl 3 rfl) ?_
  refine lv_istore (lv' := [(8, .int x2), (7, .int 5), (0, .ref h0), (1, .int x1), (2, .int x2), (3, .int x3), (4, .int x4), (5, .long x5)]) hx hb dX8_fill_109 hl (by decide) rfl (fun ls hl => ?_)
  refine lv_iload hx hb dX8_fill_111 (lv_at hl 0 rfl) ?_
  refine lv_iload_n hx hb dX8_fill_113 rfl (lv_at hl 5 rfl) ?_
  refine lv_icmp_ge (tgt := 153) hx hb dX8_fill_114 (by decide) (fun c4 => ?_) (fun c4 => ?_)
  · refine lv_iload hx hb dX8_fill_153 (lv_at hl 1 rfl) ?_
    refine lv_if_ne (tgt := 178) hx hb dX8_fill_155 (by decide) (fun c5 => ?_) (fun c => absurd c (by decide))
    refine lv_iload hx hb dX8_fill_178 (lv_at hl 1 rfl) ?_
    refine lv_istore (lv' := [(7, .int 5), (8, .int x2), (0, .ref h0), (1, .int x1), (2, .int x2), (3, .int x3), (4, .int x4), (5, .long x5)]) hx hb dX8_fill_180 hl (by decide) rfl (fun ls hl => ?_)
    refine lv_iload hx hb dX8_fill_182 (lv_at hl 0 rfl) ?_
    refine lv_if_le (tgt := 194) hx hb dX8_fill_184 (by decide) (fun c => absurd c (by decide)) (fun c6 => ?_)
    refine lv_aload_n hx hb dX8_fill_187 rfl (lv_at hl 2 rfl) ?_
    refine lv_iload hx hb dX8_fill_188 (lv_at hl 0 rfl) ?_
    refine zz_iV (As := [.int 5]) (wc := [(h0, .inr (7, [.int 0, .int 0, .ref a_kindOf, .ref a_depthOf, .ref a_lengthOf, .ref a_classOf, .ref a_baseOf, .ref a_bits, .ref a_pinned, .int 0, .ref a_lengths, .ref a_stackArray, .ref a_stackOther, .ref a_stackAt, .int 0, .int 0, .ref a_path, .ref a_held, .ref a_alike, .ref a_hashes, .int 0, .ref a_decisionArray, .ref a_decisionPlace, .ref a_candidateMany, .ref a_candidates, .int 0, .ref a_ruleSort, .ref a_ruleArray, .ref a_ruleWeight, .ref a_ruleLow, .ref a_ruleHigh, .ref a_chosen, .ref a_bestOf, .int 0, .ref a_markElements, .ref a_markBits, .ref a_markPins]))]) (wr := []) (rest := []) hC hZ hl zc_X8_175 (cm_fails g h0 a_kindOf a_depthOf a_lengthOf a_classOf a_baseOf a_bits a_pinned a_lengths a_stackArray a_stackOther a_stackAt a_path a_held a_alike a_hashes a_decisionArray a_decisionPlace a_candidateMany a_candidates a_ruleSort a_ruleArray a_ruleWeight a_ruleLow a_ruleHigh a_chosen a_bestOf a_markElements a_markBits a_markPins 0 0 0 0 0 0 0 0 5) [0] [] rfl rfl (by decide) (ci := 7) (q0 := 0) rfl rfl rfl rfl (Nat.le_of_ble_eq_true rfl) ⟨⟨Nat.le_of_ble_eq_true rfl, Nat.le_of_ble_eq_true rfl⟩, Nat.le_of_ble_eq_true rfl, Nat.le_of_ble_eq_true rfl⟩ dX8_fill_190 (fun r7 u8 H locs hp hZ => ?_)
    obtain ⟨rfl, rfl⟩ := hp
    have hZ : zz_Z g A s.heap [(h0, .inr (7, [.int 0, .int 0, .ref a_kindOf, .ref a_depthOf, .ref a_lengthOf, .ref a_classOf, .ref a_baseOf, .ref a_bits, .ref a_pinned, .int 5, .ref a_lengths, .ref a_stackArray, .ref a_stackOther, .ref a_stackAt, .int 0, .int 0, .ref a_path, .ref a_held, .ref a_alike, .ref a_hashes, .int 0, .ref a_decisionArray, .ref a_decisionPlace, .ref a_candidateMany, .ref a_candidates, .int 0, .ref a_ruleSort, .ref a_ruleArray, .ref a_ruleWeight, .ref a_ruleLow, .ref a_ruleHigh, .ref a_chosen, .ref a_bestOf, .int 0, .ref a_markElements, .ref a_markBits, .ref a_markPins]))] H locs := hZ
    exact zz_iret hC hZ (by show _ = _; rw [fn_my_fill, if_pos c4]) (Nat.le_of_ble_eq_true rfl) (Nat.le_of_ble_eq_true rfl) dX8_fill_193
  · refine lv_iload hx hb dX8_fill_117 (lv_at hl 1 rfl) ?_
    refine lv_if_ne (tgt := 153) hx hb dX8_fill_119 (by decide) (fun c9 => ?_) (fun c => absurd c (by decide))
    refine lv_iload hx hb dX8_fill_153 (lv_at hl 1 rfl) ?_
    refine lv_if_ne (tgt := 178) hx hb dX8_fill_155 (by decide) (fun c10 => ?_) (fun c => absurd c (by decide))
    refine lv_iload hx hb dX8_fill_178 (lv_at hl 1 rfl) ?_
    refine lv_istore (lv' := [(7, .int 5), (8, .int x2), (0, .ref h0), (1, .int x1), (2, .int x2), (3, .int x3), (4, .int x4), (5, .long x5)]) hx hb dX8_fill_180 hl (by decide) rfl (fun ls hl => ?_)
    refine lv_iload hx hb dX8_fill_182 (lv_at hl 0 rfl) ?_
    refine lv_if_le (tgt := 194) hx hb dX8_fill_184 (by decide) (fun c => absurd c (by decide)) (fun c11 => ?_)
    refine lv_aload_n hx hb dX8_fill_187 rfl (lv_at hl 2 rfl) ?_
    refine lv_iload hx hb dX8_fill_188 (lv_at hl 0 rfl) ?_
    refine zz_iV (As := [.int 5]) (wc := [(h0, .inr (7, [.int 0, .int 0, .ref a_kindOf, .ref a_depthOf, .ref a_lengthOf, .ref a_classOf, .ref a_baseOf, .ref a_bits, .ref a_pinned, .int 0, .ref a_lengths, .ref a_stackArray, .ref a_stackOther, .ref a_stackAt, .int 0, .int 0, .ref a_path, .ref a_held, .ref a_alike, .ref a_hashes, .int 0, .ref a_decisionArray, .ref a_decisionPlace, .ref a_candidateMany, .ref a_candidates, .int 0, .ref a_ruleSort, .ref a_ruleArray, .ref a_ruleWeight, .ref a_ruleLow, .ref a_ruleHigh, .ref a_chosen, .ref a_bestOf, .int 0, .ref a_markElements, .ref a_markBits, .ref a_markPins]))]) (wr := []) (rest := []) hC hZ hl zc_X8_175 (cm_fails g h0 a_kindOf a_depthOf a_lengthOf a_classOf a_baseOf a_bits a_pinned a_lengths a_stackArray a_stackOther a_stackAt a_path a_held a_alike a_hashes a_decisionArray a_decisionPlace a_candidateMany a_candidates a_ruleSort a_ruleArray a_ruleWeight a_ruleLow a_ruleHigh a_chosen a_bestOf a_markElements a_markBits a_markPins 0 0 0 0 0 0 0 0 5) [0] [] rfl rfl (by decide) (ci := 7) (q0 := 0) rfl rfl rfl rfl (Nat.le_of_ble_eq_true rfl) ⟨⟨Nat.le_of_ble_eq_true rfl, Nat.le_of_ble_eq_true rfl⟩, Nat.le_of_ble_eq_true rfl, Nat.le_of_ble_eq_true rfl⟩ dX8_fill_190 (fun r12 u13 H locs hp hZ => ?_)
    obtain ⟨rfl, rfl⟩ := hp
    have hZ : zz_Z g A s.heap [(h0, .inr (7, [.int 0, .int 0, .ref a_kindOf, .ref a_depthOf, .ref a_lengthOf, .ref a_classOf, .ref a_baseOf, .ref a_bits, .ref a_pinned, .int 5, .ref a_lengths, .ref a_stackArray, .ref a_stackOther, .ref a_stackAt, .int 0, .int 0, .ref a_path, .ref a_held, .ref a_alike, .ref a_hashes, .int 0, .ref a_decisionArray, .ref a_decisionPlace, .ref a_candidateMany, .ref a_candidates, .int 0, .ref a_ruleSort, .ref a_ruleArray, .ref a_ruleWeight, .ref a_ruleLow, .ref a_ruleHigh, .ref a_chosen, .ref a_bestOf, .int 0, .ref a_markElements, .ref a_markBits, .ref a_markPins]))] H locs := hZ
    exact zz_iret hC hZ (by show _ = _; rw [fn_my_fill, if_neg c4]) (Nat.le_of_ble_eq_true rfl) (Nat.le_of_ble_eq_true rfl) dX8_fill_193
theorem dX8_move_0 : decode cX8_move 0 = .ok (.aload_n 0, 1) := by decide +kernel
theorem dX8_move_1 : decode cX8_move 1 = .ok (.iload_n 1, 1) := by decide +kernel
theorem dX8_move_2 : decode cX8_move 2 = .ok (.invokevirtual 200, 3) := by decide +kernel
theorem dX8_move_5 : decode cX8_move 5 = .ok (.ifCond .eq 11, 3) := by decide +kernel
theorem dX8_move_16 : decode cX8_move 16 = .ok (.iconst 5, 1) := by decide +kernel
theorem dX8_move_17 : decode cX8_move 17 = .ok (.goto 120, 3) := by decide +kernel
theorem dX8_move_137 : decode cX8_move 137 = .ok (.istore 6, 2) := by decide +kernel
theorem dX8_move_139 : decode cX8_move 139 = .ok (.iconst 0, 1) := by decide +kernel
theorem dX8_move_140 : decode cX8_move 140 = .ok (.istore 7, 2) := by decide +kernel
theorem dX8_move_142 : decode cX8_move 142 = .ok (.iload 7, 2) := by decide +kernel
theorem dX8_move_144 : decode cX8_move 144 = .ok (.iload 5, 2) := by decide +kernel
theorem dX8_move_146 : decode cX8_move 146 = .ok (.if_icmp .ge 42, 3) := by decide +kernel
theorem dX8_move_188 : decode cX8_move 188 = .ok (.iload 6, 2) := by decide +kernel
theorem dX8_move_190 : decode cX8_move 190 = .ok (.ifCond .le 10, 3) := by decide +kernel
theorem dX8_move_193 : decode cX8_move 193 = .ok (.aload_n 0, 1) := by decide +kernel
theorem dX8_move_194 : decode cX8_move 194 = .ok (.iload 6, 2) := by decide +kernel
theorem dX8_move_196 : decode cX8_move 196 = .ok (.invokevirtual 175, 3) := by decide +kernel
theorem dX8_move_199 : decode cX8_move 199 = .ok (.ireturn, 1) := by decide +kernel
theorem dX8_move_149 : decode cX8_move 149 = .ok (.iload 6, 2) := by decide +kernel
theorem dX8_move_151 : decode cX8_move 151 = .ok (.ifCond .ne 37, 3) := by decide +kernel
def fn_my_move (x5 : Int32) : Int32 := (if x5 ≤ 0 then -5 else -5)
abbrev rm_my_move : Room := { frames := 2, cells := 0, slots := 0, locals := 46 }
abbrev po_my_move (g : zz_G) (h0 : Nat) (a_kindOf : Nat) (a_depthOf : Nat) (a_lengthOf : Nat) (a_classOf : Nat) (a_baseOf : Nat) (a_bits : Nat) (a_pinned : Nat) (a_lengths : Nat) (a_stackArray : Nat) (a_stackOther : Nat) (a_stackAt : Nat) (a_path : Nat) (a_held : Nat) (a_alike : Nat) (a_hashes : Nat) (a_decisionArray : Nat) (a_decisionPlace : Nat) (a_candidateMany : Nat) (a_candidates : Nat) (a_ruleSort : Nat) (a_ruleArray : Nat) (a_ruleWeight : Nat) (a_ruleLow : Nat) (a_ruleHigh : Nat) (a_chosen : Nat) (a_bestOf : Nat) (a_markElements : Nat) (a_markBits : Nat) (a_markPins : Nat) (x1 : Int32) (x2 : Int32) (x3 : Int32) (x4 : Int32) (x5 : Int32) : Int32 → va_W → Prop := fun (r : Int32) (u : va_W) => r = fn_my_move x5
set_option maxHeartbeats 4000000 in
set_option maxRecDepth 100000 in
theorem my_move (g : zz_G) (h0 : Nat) (a_kindOf : Nat) (a_depthOf : Nat) (a_lengthOf : Nat) (a_classOf : Nat) (a_baseOf : Nat) (a_bits : Nat) (a_pinned : Nat) (a_lengths : Nat) (a_stackArray : Nat) (a_stackOther : Nat) (a_stackAt : Nat) (a_path : Nat) (a_held : Nat) (a_alike : Nat) (a_hashes : Nat) (a_decisionArray : Nat) (a_decisionPlace : Nat) (a_candidateMany : Nat) (a_candidates : Nat) (a_ruleSort : Nat) (a_ruleArray : Nat) (a_ruleWeight : Nat) (a_ruleLow : Nat) (a_ruleHigh : Nat) (a_chosen : Nat) (a_bestOf : Nat) (a_markElements : Nat) (a_markBits : Nat) (a_markPins : Nat) (x1 : Int32) (x2 : Int32) (x3 : Int32) (x4 : Int32) (x5 : Int32) : zz_I g yX8_move (.code yX8_move cX8_move 8 (some .int)) rm_my_move [.ref h0, .int x1, .int x2, .int x3, .int x4, .int x5] [(h0, .inr (7, [.int 0, .int 0, .ref a_kindOf, .ref a_depthOf, .ref a_lengthOf, .ref a_classOf, .ref a_baseOf, .ref a_bits, .ref a_pinned, .int 0, .ref a_lengths, .ref a_stackArray, .ref a_stackOther, .ref a_stackAt, .int 0, .int 0, .ref a_path, .ref a_held, .ref a_alike, .ref a_hashes, .int 0, .ref a_decisionArray, .ref a_decisionPlace, .ref a_candidateMany, .ref a_candidates, .int 0, .ref a_ruleSort, .ref a_ruleArray, .ref a_ruleWeight, .ref a_ruleLow, .ref a_ruleHigh, .ref a_chosen, .ref a_bestOf, .int 0, .ref a_markElements, .ref a_markBits, .ref a_markPins]))] (po_my_move g h0 a_kindOf a_depthOf a_lengthOf a_classOf a_baseOf a_bits a_pinned a_lengths a_stackArray a_stackOther a_stackAt a_path a_held a_alike a_hashes a_decisionArray a_decisionPlace a_candidateMany a_candidates a_ruleSort a_ruleArray a_ruleWeight a_ruleLow a_ruleHigh a_chosen a_bestOf a_markElements a_markBits a_markPins x1 x2 x3 x4 x5) := by
  refine zz_I.intro (own := RX8) (cc := cX8_move) (nL := 8) (by decide) rfl (Nat.le_of_ble_eq_true rfl) ?_
  intro p l e s m args below meth c A H locs ls hC hnm hZ hl
  obtain ⟨hx, hb, hml, hown, hts, hr, hlocks, hK⟩ := id hC
  have hl : lv_has ls 8 [(0, .ref h0), (1, .int x1), (2, .int x2), (3, .int x3), (4, .int x4), (5, .int x5)] := hl
  have hZ : zz_Z g A s.heap [(h0, .inr (7, [.int 0, .int 0, .ref a_kindOf, .ref a_depthOf, .ref a_lengthOf, .ref a_classOf, .ref a_baseOf, .ref a_bits, .ref a_pinned, .int 0, .ref a_lengths, .ref a_stackArray, .ref a_stackOther, .ref a_stackAt, .int 0, .int 0, .ref a_path, .ref a_held, .ref a_alike, .ref a_hashes, .int 0, .ref a_decisionArray, .ref a_decisionPlace, .ref a_candidateMany, .ref a_candidates, .int 0, .ref a_ruleSort, .ref a_ruleArray, .ref a_ruleWeight, .ref a_ruleLow, .ref a_ruleHigh, .ref a_chosen, .ref a_bestOf, .int 0, .ref a_markElements, .ref a_markBits, .ref a_markPins]))] H locs := hZ
  refine lv_aload_n hx hb dX8_move_0 rfl (lv_at hl 0 rfl) ?_
  refine lv_iload_n hx hb dX8_move_1 rfl (lv_at hl 1 rfl) ?_
  refine zz_iV (As := [.int x1]) (wc := [(h0, .inr (7, [.int 0, .int 0, .ref a_kindOf, .ref a_depthOf, .ref a_lengthOf, .ref a_classOf, .ref a_baseOf, .ref a_bits, .ref a_pinned, .int 0, .ref a_lengths, .ref a_stackArray, .ref a_stackOther, .ref a_stackAt, .int 0, .int 0, .ref a_path, .ref a_held, .ref a_alike, .ref a_hashes, .int 0, .ref a_decisionArray, .ref a_decisionPlace, .ref a_candidateMany, .ref a_candidates, .int 0, .ref a_ruleSort, .ref a_ruleArray, .ref a_ruleWeight, .ref a_ruleLow, .ref a_ruleHigh, .ref a_chosen, .ref a_bestOf, .int 0, .ref a_markElements, .ref a_markBits, .ref a_markPins]))]) (wr := []) (rest := []) hC hZ hl zc_X8_200 (cm_isArray0 g h0 a_kindOf a_depthOf a_lengthOf a_classOf a_baseOf a_bits a_pinned a_lengths a_stackArray a_stackOther a_stackAt a_path a_held a_alike a_hashes a_decisionArray a_decisionPlace a_candidateMany a_candidates a_ruleSort a_ruleArray a_ruleWeight a_ruleLow a_ruleHigh a_chosen a_bestOf a_markElements a_markBits a_markPins 0 0 0 0 0 0 0 x1) [0] [] rfl rfl (by decide) (ci := 7) (q0 := 0) rfl rfl rfl rfl (Nat.le_of_ble_eq_true rfl) ⟨⟨Nat.le_of_ble_eq_true rfl, Nat.le_of_ble_eq_true rfl⟩, Nat.le_of_ble_eq_true rfl, Nat.le_of_ble_eq_true rfl⟩ dX8_move_2 (fun r1 u2 H locs hp hZ => ?_)
  obtain ⟨rfl, rfl⟩ := hp
  have hZ : zz_Z g A s.heap [(h0, .inr (7, [.int 0, .int 0, .ref a_kindOf, .ref a_depthOf, .ref a_lengthOf, .ref a_classOf, .ref a_baseOf, .ref a_bits, .ref a_pinned, .int 0, .ref a_lengths, .ref a_stackArray, .ref a_stackOther, .ref a_stackAt, .int 0, .int 0, .ref a_path, .ref a_held, .ref a_alike, .ref a_hashes, .int 0, .ref a_decisionArray, .ref a_decisionPlace, .ref a_candidateMany, .ref a_candidates, .int 0, .ref a_ruleSort, .ref a_ruleArray, .ref a_ruleWeight, .ref a_ruleLow, .ref a_ruleHigh, .ref a_chosen, .ref a_bestOf, .int 0, .ref a_markElements, .ref a_markBits, .ref a_markPins]))] H locs := hZ
  refine lv_if_eq (tgt := 16) hx hb dX8_move_5 (by decide) (fun c3 => ?_) (fun c => absurd (by decide) c)
  refine lv_iconst (v := 5) hx hb dX8_move_16 (by decide) ?_
  refine lv_goto (tgt := 137) hx hb dX8_move_17 (by decide) ?_
  refine lv_istore (lv' := [(6, .int 5), (0, .ref h0), (1, .int x1), (2, .int x2), (3, .int x3), (4, .int x4), (5, .int x5)]) hx hb dX8_move_137 hl (by decide) rfl (fun ls hl => ?_)
  refine lv_iconst (v := 0) hx hb dX8_move_139 (by decide) ?_
  refine lv_istore (lv' := [(7, .int 0), (6, .int 5), (0, .ref h0), (1, .int x1), (2, .int x2), (3, .int x3), (4, .int x4), (5, .int x5)]) hx hb dX8_move_140 hl (by decide) rfl (fun ls hl => ?_)
  refine lv_iload hx hb dX8_move_142 (lv_at hl 0 rfl) ?_
  refine lv_iload hx hb dX8_move_144 (lv_at hl 7 rfl) ?_
  refine lv_icmp_ge (tgt := 188) hx hb dX8_move_146 (by decide) (fun c4 => ?_) (fun c4 => ?_)
  · refine lv_iload hx hb dX8_move_188 (lv_at hl 1 rfl) ?_
    refine lv_if_le (tgt := 200) hx hb dX8_move_190 (by decide) (fun c => absurd c (by decide)) (fun c5 => ?_)
    refine lv_aload_n hx hb dX8_move_193 rfl (lv_at hl 2 rfl) ?_
    refine lv_iload hx hb dX8_move_194 (lv_at hl 1 rfl) ?_
    refine zz_iV (As := [.int 5]) (wc := [(h0, .inr (7, [.int 0, .int 0, .ref a_kindOf, .ref a_depthOf, .ref a_lengthOf, .ref a_classOf, .ref a_baseOf, .ref a_bits, .ref a_pinned, .int 0, .ref a_lengths, .ref a_stackArray, .ref a_stackOther, .ref a_stackAt, .int 0, .int 0, .ref a_path, .ref a_held, .ref a_alike, .ref a_hashes, .int 0, .ref a_decisionArray, .ref a_decisionPlace, .ref a_candidateMany, .ref a_candidates, .int 0, .ref a_ruleSort, .ref a_ruleArray, .ref a_ruleWeight, .ref a_ruleLow, .ref a_ruleHigh, .ref a_chosen, .ref a_bestOf, .int 0, .ref a_markElements, .ref a_markBits, .ref a_markPins]))]) (wr := []) (rest := []) hC hZ hl zc_X8_175 (cm_fails g h0 a_kindOf a_depthOf a_lengthOf a_classOf a_baseOf a_bits a_pinned a_lengths a_stackArray a_stackOther a_stackAt a_path a_held a_alike a_hashes a_decisionArray a_decisionPlace a_candidateMany a_candidates a_ruleSort a_ruleArray a_ruleWeight a_ruleLow a_ruleHigh a_chosen a_bestOf a_markElements a_markBits a_markPins 0 0 0 0 0 0 0 0 5) [0] [] rfl rfl (by decide) (ci := 7) (q0 := 0) rfl rfl rfl rfl (Nat.le_of_ble_eq_true rfl) ⟨⟨Nat.le_of_ble_eq_true rfl, Nat.le_of_ble_eq_true rfl⟩, Nat.le_of_ble_eq_true rfl, Nat.le_of_ble_eq_true rfl⟩ dX8_move_196 (fun r6 u7 H locs hp hZ => ?_)
    obtain ⟨rfl, rfl⟩ := hp
    have hZ : zz_Z g A s.heap [(h0, .inr (7, [.int 0, .int 0, .ref a_kindOf, .ref a_depthOf, .ref a_lengthOf, .ref a_classOf, .ref a_baseOf, .ref a_bits, .ref a_pinned, .int 5, .ref a_lengths, .ref a_stackArray, .ref a_stackOther, .ref a_stackAt, .int 0, .int 0, .ref a_path, .ref a_held, .ref a_alike, .ref a_hashes, .int 0, .ref a_decisionArray, .ref a_decisionPlace, .ref a_candidateMany, .ref a_candidates, .int 0, .ref a_ruleSort, .ref a_ruleArray, .ref a_ruleWeight, .ref a_ruleLow, .ref a_ruleHigh, .ref a_chosen, .ref a_bestOf, .int 0, .ref a_markElements, .ref a_markBits, .ref a_markPins]))] H locs := hZ
    exact zz_iret hC hZ (by show _ = _; rw [fn_my_move, if_pos c4]) (Nat.le_of_ble_eq_true rfl) (Nat.le_of_ble_eq_true rfl) dX8_move_199
  · refine lv_iload hx hb dX8_move_149 (lv_at hl 1 rfl) ?_
    refine lv_if_ne (tgt := 188) hx hb dX8_move_151 (by decide) (fun c8 => ?_) (fun c => absurd c (by decide))
    refine lv_iload hx hb dX8_move_188 (lv_at hl 1 rfl) ?_
    refine lv_if_le (tgt := 200) hx hb dX8_move_190 (by decide) (fun c => absurd c (by decide)) (fun c9 => ?_)
    refine lv_aload_n hx hb dX8_move_193 rfl (lv_at hl 2 rfl) ?_
    refine lv_iload hx hb dX8_move_194 (lv_at hl 1 rfl) ?_
    refine zz_iV (As := [.int 5]) (wc := [(h0, .inr (7, [.int 0, .int 0, .ref a_kindOf, .ref a_depthOf, .ref a_lengthOf, .ref a_classOf, .ref a_baseOf, .ref a_bits, .ref a_pinned, .int 0, .ref a_lengths, .ref a_stackArray, .ref a_stackOther, .ref a_stackAt, .int 0, .int 0, .ref a_path, .ref a_held, .ref a_alike, .ref a_hashes, .int 0, .ref a_decisionArray, .ref a_decisionPlace, .ref a_candidateMany, .ref a_candidates, .int 0, .ref a_ruleSort, .ref a_ruleArray, .ref a_ruleWeight, .ref a_ruleLow, .ref a_ruleHigh, .ref a_chosen, .ref a_bestOf, .int 0, .ref a_markElements, .ref a_markBits, .ref a_markPins]))]) (wr := []) (rest := []) hC hZ hl zc_X8_175 (cm_fails g h0 a_kindOf a_depthOf a_lengthOf a_classOf a_baseOf a_bits a_pinned a_lengths a_stackArray a_stackOther a_stackAt a_path a_held a_alike a_hashes a_decisionArray a_decisionPlace a_candidateMany a_candidates a_ruleSort a_ruleArray a_ruleWeight a_ruleLow a_ruleHigh a_chosen a_bestOf a_markElements a_markBits a_markPins 0 0 0 0 0 0 0 0 5) [0] [] rfl rfl (by decide) (ci := 7) (q0 := 0) rfl rfl rfl rfl (Nat.le_of_ble_eq_true rfl) ⟨⟨Nat.le_of_ble_eq_true rfl, Nat.le_of_ble_eq_true rfl⟩, Nat.le_of_ble_eq_true rfl, Nat.le_of_ble_eq_true rfl⟩ dX8_move_196 (fun r10 u11 H locs hp hZ => ?_)
    obtain ⟨rfl, rfl⟩ := hp
    have hZ : zz_Z g A s.heap [(h0, .inr (7, [.int 0, .int 0, .ref a_kindOf, .ref a_depthOf, .ref a_lengthOf, .ref a_classOf, .ref a_baseOf, .ref a_bits, .ref a_pinned, .int 5, .ref a_lengths, .ref a_stackArray, .ref a_stackOther, .ref a_stackAt, .int 0, .int 0, .ref a_path, .ref a_held, .ref a_alike, .ref a_hashes, .int 0, .ref a_decisionArray, .ref a_decisionPlace, .ref a_candidateMany, .ref a_candidates, .int 0, .ref a_ruleSort, .ref a_ruleArray, .ref a_ruleWeight, .ref a_ruleLow, .ref a_ruleHigh, .ref a_chosen, .ref a_bestOf, .int 0, .ref a_markElements, .ref a_markBits, .ref a_markPins]))] H locs := hZ
    exact zz_iret hC hZ (by show _ = _; rw [fn_my_move, if_neg c4]) (Nat.le_of_ble_eq_true rfl) (Nat.le_of_ble_eq_true rfl) dX8_move_199
theorem dX8_copy_0 : decode cX8_copy 0 = .ok (.aload_n 0, 1) := by decide +kernel
theorem dX8_copy_1 : decode cX8_copy 1 = .ok (.iload_n 1, 1) := by decide +kernel
theorem dX8_copy_2 : decode cX8_copy 2 = .ok (.invokevirtual 200, 3) := by decide +kernel
theorem dX8_copy_5 : decode cX8_copy 5 = .ok (.ifCond .ne 9, 3) := by decide +kernel
theorem dX8_copy_8 : decode cX8_copy 8 = .ok (.aload_n 0, 1) := by decide +kernel
theorem dX8_copy_9 : decode cX8_copy 9 = .ok (.iconst 5, 1) := by decide +kernel
theorem dX8_copy_10 : decode cX8_copy 10 = .ok (.invokevirtual 175, 3) := by decide +kernel
theorem dX8_copy_13 : decode cX8_copy 13 = .ok (.ireturn, 1) := by decide +kernel
def fn_my_copy  : Int32 := -5
abbrev rm_my_copy : Room := { frames := 2, cells := 0, slots := 0, locals := 46 }
abbrev po_my_copy (g : zz_G) (h0 : Nat) (a_kindOf : Nat) (a_depthOf : Nat) (a_lengthOf : Nat) (a_classOf : Nat) (a_baseOf : Nat) (a_bits : Nat) (a_pinned : Nat) (a_lengths : Nat) (a_stackArray : Nat) (a_stackOther : Nat) (a_stackAt : Nat) (a_path : Nat) (a_held : Nat) (a_alike : Nat) (a_hashes : Nat) (a_decisionArray : Nat) (a_decisionPlace : Nat) (a_candidateMany : Nat) (a_candidates : Nat) (a_ruleSort : Nat) (a_ruleArray : Nat) (a_ruleWeight : Nat) (a_ruleLow : Nat) (a_ruleHigh : Nat) (a_chosen : Nat) (a_bestOf : Nat) (a_markElements : Nat) (a_markBits : Nat) (a_markPins : Nat) (x1 : Int32) (x2 : Int32) : Int32 → va_W → Prop := fun (r : Int32) (u : va_W) => r = fn_my_copy
set_option maxHeartbeats 4000000 in
set_option maxRecDepth 100000 in
theorem my_copy (g : zz_G) (h0 : Nat) (a_kindOf : Nat) (a_depthOf : Nat) (a_lengthOf : Nat) (a_classOf : Nat) (a_baseOf : Nat) (a_bits : Nat) (a_pinned : Nat) (a_lengths : Nat) (a_stackArray : Nat) (a_stackOther : Nat) (a_stackAt : Nat) (a_path : Nat) (a_held : Nat) (a_alike : Nat) (a_hashes : Nat) (a_decisionArray : Nat) (a_decisionPlace : Nat) (a_candidateMany : Nat) (a_candidates : Nat) (a_ruleSort : Nat) (a_ruleArray : Nat) (a_ruleWeight : Nat) (a_ruleLow : Nat) (a_ruleHigh : Nat) (a_chosen : Nat) (a_bestOf : Nat) (a_markElements : Nat) (a_markBits : Nat) (a_markPins : Nat) (x1 : Int32) (x2 : Int32) : zz_I g yX8_copy (.code yX8_copy cX8_copy 5 (some .int)) rm_my_copy [.ref h0, .int x1, .int x2] [(h0, .inr (7, [.int 0, .int 0, .ref a_kindOf, .ref a_depthOf, .ref a_lengthOf, .ref a_classOf, .ref a_baseOf, .ref a_bits, .ref a_pinned, .int 0, .ref a_lengths, .ref a_stackArray, .ref a_stackOther, .ref a_stackAt, .int 0, .int 0, .ref a_path, .ref a_held, .ref a_alike, .ref a_hashes, .int 0, .ref a_decisionArray, .ref a_decisionPlace, .ref a_candidateMany, .ref a_candidates, .int 0, .ref a_ruleSort, .ref a_ruleArray, .ref a_ruleWeight, .ref a_ruleLow, .ref a_ruleHigh, .ref a_chosen, .ref a_bestOf, .int 0, .ref a_markElements, .ref a_markBits, .ref a_markPins]))] (po_my_copy g h0 a_kindOf a_depthOf a_lengthOf a_classOf a_baseOf a_bits a_pinned a_lengths a_stackArray a_stackOther a_stackAt a_path a_held a_alike a_hashes a_decisionArray a_decisionPlace a_candidateMany a_candidates a_ruleSort a_ruleArray a_ruleWeight a_ruleLow a_ruleHigh a_chosen a_bestOf a_markElements a_markBits a_markPins x1 x2) := by
  refine zz_I.intro (own := RX8) (cc := cX8_copy) (nL := 5) (by decide) rfl (Nat.le_of_ble_eq_true rfl) ?_
  intro p l e s m args below meth c A H locs ls hC hnm hZ hl
  obtain ⟨hx, hb, hml, hown, hts, hr, hlocks, hK⟩ := id hC
  have hl : lv_has ls 5 [(0, .ref h0), (1, .int x1), (2, .int x2)] := hl
  have hZ : zz_Z g A s.heap [(h0, .inr (7, [.int 0, .int 0, .ref a_kindOf, .ref a_depthOf, .ref a_lengthOf, .ref a_classOf, .ref a_baseOf, .ref a_bits, .ref a_pinned, .int 0, .ref a_lengths, .ref a_stackArray, .ref a_stackOther, .ref a_stackAt, .int 0, .int 0, .ref a_path, .ref a_held, .ref a_alike, .ref a_hashes, .int 0, .ref a_decisionArray, .ref a_decisionPlace, .ref a_candidateMany, .ref a_candidates, .int 0, .ref a_ruleSort, .ref a_ruleArray, .ref a_ruleWeight, .ref a_ruleLow, .ref a_ruleHigh, .ref a_chosen, .ref a_bestOf, .int 0, .ref a_markElements, .ref a_markBits, .ref a_markPins]))] H locs := hZ
  refine lv_aload_n hx hb dX8_copy_0 rfl (lv_at hl 0 rfl) ?_
  refine lv_iload_n hx hb dX8_copy_1 rfl (lv_at hl 1 rfl) ?_
  refine zz_iV (As := [.int x1]) (wc := [(h0, .inr (7, [.int 0, .int 0, .ref a_kindOf, .ref a_depthOf, .ref a_lengthOf, .ref a_classOf, .ref a_baseOf, .ref a_bits, .ref a_pinned, .int 0, .ref a_lengths, .ref a_stackArray, .ref a_stackOther, .ref a_stackAt, .int 0, .int 0, .ref a_path, .ref a_held, .ref a_alike, .ref a_hashes, .int 0, .ref a_decisionArray, .ref a_decisionPlace, .ref a_candidateMany, .ref a_candidates, .int 0, .ref a_ruleSort, .ref a_ruleArray, .ref a_ruleWeight, .ref a_ruleLow, .ref a_ruleHigh, .ref a_chosen, .ref a_bestOf, .int 0, .ref a_markElements, .ref a_markBits, .ref a_markPins]))]) (wr := []) (rest := []) hC hZ hl zc_X8_200 (cm_isArray0 g h0 a_kindOf a_depthOf a_lengthOf a_classOf a_baseOf a_bits a_pinned a_lengths a_stackArray a_stackOther a_stackAt a_path a_held a_alike a_hashes a_decisionArray a_decisionPlace a_candidateMany a_candidates a_ruleSort a_ruleArray a_ruleWeight a_ruleLow a_ruleHigh a_chosen a_bestOf a_markElements a_markBits a_markPins 0 0 0 0 0 0 0 x1) [0] [] rfl rfl (by decide) (ci := 7) (q0 := 0) rfl rfl rfl rfl (Nat.le_of_ble_eq_true rfl) ⟨⟨Nat.le_of_ble_eq_true rfl, Nat.le_of_ble_eq_true rfl⟩, Nat.le_of_ble_eq_true rfl, Nat.le_of_ble_eq_true rfl⟩ dX8_copy_2 (fun r1 u2 H locs hp hZ => ?_)
  obtain ⟨rfl, rfl⟩ := hp
  have hZ : zz_Z g A s.heap [(h0, .inr (7, [.int 0, .int 0, .ref a_kindOf, .ref a_depthOf, .ref a_lengthOf, .ref a_classOf, .ref a_baseOf, .ref a_bits, .ref a_pinned, .int 0, .ref a_lengths, .ref a_stackArray, .ref a_stackOther, .ref a_stackAt, .int 0, .int 0, .ref a_path, .ref a_held, .ref a_alike, .ref a_hashes, .int 0, .ref a_decisionArray, .ref a_decisionPlace, .ref a_candidateMany, .ref a_candidates, .int 0, .ref a_ruleSort, .ref a_ruleArray, .ref a_ruleWeight, .ref a_ruleLow, .ref a_ruleHigh, .ref a_chosen, .ref a_bestOf, .int 0, .ref a_markElements, .ref a_markBits, .ref a_markPins]))] H locs := hZ
  refine lv_if_ne (tgt := 14) hx hb dX8_copy_5 (by decide) (fun c => absurd (by decide) c) (fun c3 => ?_)
  refine lv_aload_n hx hb dX8_copy_8 rfl (lv_at hl 0 rfl) ?_
  refine lv_iconst (v := 5) hx hb dX8_copy_9 (by decide) ?_
  refine zz_iV (As := [.int 5]) (wc := [(h0, .inr (7, [.int 0, .int 0, .ref a_kindOf, .ref a_depthOf, .ref a_lengthOf, .ref a_classOf, .ref a_baseOf, .ref a_bits, .ref a_pinned, .int 0, .ref a_lengths, .ref a_stackArray, .ref a_stackOther, .ref a_stackAt, .int 0, .int 0, .ref a_path, .ref a_held, .ref a_alike, .ref a_hashes, .int 0, .ref a_decisionArray, .ref a_decisionPlace, .ref a_candidateMany, .ref a_candidates, .int 0, .ref a_ruleSort, .ref a_ruleArray, .ref a_ruleWeight, .ref a_ruleLow, .ref a_ruleHigh, .ref a_chosen, .ref a_bestOf, .int 0, .ref a_markElements, .ref a_markBits, .ref a_markPins]))]) (wr := []) (rest := []) hC hZ hl zc_X8_175 (cm_fails g h0 a_kindOf a_depthOf a_lengthOf a_classOf a_baseOf a_bits a_pinned a_lengths a_stackArray a_stackOther a_stackAt a_path a_held a_alike a_hashes a_decisionArray a_decisionPlace a_candidateMany a_candidates a_ruleSort a_ruleArray a_ruleWeight a_ruleLow a_ruleHigh a_chosen a_bestOf a_markElements a_markBits a_markPins 0 0 0 0 0 0 0 0 5) [0] [] rfl rfl (by decide) (ci := 7) (q0 := 0) rfl rfl rfl rfl (Nat.le_of_ble_eq_true rfl) ⟨⟨Nat.le_of_ble_eq_true rfl, Nat.le_of_ble_eq_true rfl⟩, Nat.le_of_ble_eq_true rfl, Nat.le_of_ble_eq_true rfl⟩ dX8_copy_10 (fun r4 u5 H locs hp hZ => ?_)
  obtain ⟨rfl, rfl⟩ := hp
  have hZ : zz_Z g A s.heap [(h0, .inr (7, [.int 0, .int 0, .ref a_kindOf, .ref a_depthOf, .ref a_lengthOf, .ref a_classOf, .ref a_baseOf, .ref a_bits, .ref a_pinned, .int 5, .ref a_lengths, .ref a_stackArray, .ref a_stackOther, .ref a_stackAt, .int 0, .int 0, .ref a_path, .ref a_held, .ref a_alike, .ref a_hashes, .int 0, .ref a_decisionArray, .ref a_decisionPlace, .ref a_candidateMany, .ref a_candidates, .int 0, .ref a_ruleSort, .ref a_ruleArray, .ref a_ruleWeight, .ref a_ruleLow, .ref a_ruleHigh, .ref a_chosen, .ref a_bestOf, .int 0, .ref a_markElements, .ref a_markBits, .ref a_markPins]))] H locs := hZ
  exact zz_iret hC hZ (rfl) (Nat.le_of_ble_eq_true rfl) (Nat.le_of_ble_eq_true rfl) dX8_copy_13
theorem dX8_deep_0 : decode cX8_deep 0 = .ok (.aload_n 0, 1) := by decide +kernel
theorem dX8_deep_1 : decode cX8_deep 1 = .ok (.iload_n 1, 1) := by decide +kernel
theorem dX8_deep_2 : decode cX8_deep 2 = .ok (.invokevirtual 200, 3) := by decide +kernel
theorem dX8_deep_5 : decode cX8_deep 5 = .ok (.ifCond .ne 9, 3) := by decide +kernel
theorem dX8_deep_8 : decode cX8_deep 8 = .ok (.aload_n 0, 1) := by decide +kernel
theorem dX8_deep_9 : decode cX8_deep 9 = .ok (.iconst 5, 1) := by decide +kernel
theorem dX8_deep_10 : decode cX8_deep 10 = .ok (.invokevirtual 175, 3) := by decide +kernel
theorem dX8_deep_13 : decode cX8_deep 13 = .ok (.ireturn, 1) := by decide +kernel
def fn_my_deep  : Int32 := -5
abbrev rm_my_deep : Room := { frames := 2, cells := 0, slots := 0, locals := 46 }
abbrev po_my_deep (g : zz_G) (h0 : Nat) (a_kindOf : Nat) (a_depthOf : Nat) (a_lengthOf : Nat) (a_classOf : Nat) (a_baseOf : Nat) (a_bits : Nat) (a_pinned : Nat) (a_lengths : Nat) (a_stackArray : Nat) (a_stackOther : Nat) (a_stackAt : Nat) (a_path : Nat) (a_held : Nat) (a_alike : Nat) (a_hashes : Nat) (a_decisionArray : Nat) (a_decisionPlace : Nat) (a_candidateMany : Nat) (a_candidates : Nat) (a_ruleSort : Nat) (a_ruleArray : Nat) (a_ruleWeight : Nat) (a_ruleLow : Nat) (a_ruleHigh : Nat) (a_chosen : Nat) (a_bestOf : Nat) (a_markElements : Nat) (a_markBits : Nat) (a_markPins : Nat) (x1 : Int32) : Int32 → va_W → Prop := fun (r : Int32) (u : va_W) => r = fn_my_deep
set_option maxHeartbeats 4000000 in
set_option maxRecDepth 100000 in
theorem my_deep (g : zz_G) (h0 : Nat) (a_kindOf : Nat) (a_depthOf : Nat) (a_lengthOf : Nat) (a_classOf : Nat) (a_baseOf : Nat) (a_bits : Nat) (a_pinned : Nat) (a_lengths : Nat) (a_stackArray : Nat) (a_stackOther : Nat) (a_stackAt : Nat) (a_path : Nat) (a_held : Nat) (a_alike : Nat) (a_hashes : Nat) (a_decisionArray : Nat) (a_decisionPlace : Nat) (a_candidateMany : Nat) (a_candidates : Nat) (a_ruleSort : Nat) (a_ruleArray : Nat) (a_ruleWeight : Nat) (a_ruleLow : Nat) (a_ruleHigh : Nat) (a_chosen : Nat) (a_bestOf : Nat) (a_markElements : Nat) (a_markBits : Nat) (a_markPins : Nat) (x1 : Int32) : zz_I g yX8_deep (.code yX8_deep cX8_deep 12 (some .int)) rm_my_deep [.ref h0, .int x1] [(h0, .inr (7, [.int 0, .int 0, .ref a_kindOf, .ref a_depthOf, .ref a_lengthOf, .ref a_classOf, .ref a_baseOf, .ref a_bits, .ref a_pinned, .int 0, .ref a_lengths, .ref a_stackArray, .ref a_stackOther, .ref a_stackAt, .int 0, .int 0, .ref a_path, .ref a_held, .ref a_alike, .ref a_hashes, .int 0, .ref a_decisionArray, .ref a_decisionPlace, .ref a_candidateMany, .ref a_candidates, .int 0, .ref a_ruleSort, .ref a_ruleArray, .ref a_ruleWeight, .ref a_ruleLow, .ref a_ruleHigh, .ref a_chosen, .ref a_bestOf, .int 0, .ref a_markElements, .ref a_markBits, .ref a_markPins]))] (po_my_deep g h0 a_kindOf a_depthOf a_lengthOf a_classOf a_baseOf a_bits a_pinned a_lengths a_stackArray a_stackOther a_stackAt a_path a_held a_alike a_hashes a_decisionArray a_decisionPlace a_candidateMany a_candidates a_ruleSort a_ruleArray a_ruleWeight a_ruleLow a_ruleHigh a_chosen a_bestOf a_markElements a_markBits a_markPins x1) := by
  refine zz_I.intro (own := RX8) (cc := cX8_deep) (nL := 12) (by decide) rfl (Nat.le_of_ble_eq_true rfl) ?_
  intro p l e s m args below meth c A H locs ls hC hnm hZ hl
  obtain ⟨hx, hb, hml, hown, hts, hr, hlocks, hK⟩ := id hC
  have hl : lv_has ls 12 [(0, .ref h0), (1, .int x1)] := hl
  have hZ : zz_Z g A s.heap [(h0, .inr (7, [.int 0, .int 0, .ref a_kindOf, .ref a_depthOf, .ref a_lengthOf, .ref a_classOf, .ref a_baseOf, .ref a_bits, .ref a_pinned, .int 0, .ref a_lengths, .ref a_stackArray, .ref a_stackOther, .ref a_stackAt, .int 0, .int 0, .ref a_path, .ref a_held, .ref a_alike, .ref a_hashes, .int 0, .ref a_decisionArray, .ref a_decisionPlace, .ref a_candidateMany, .ref a_candidates, .int 0, .ref a_ruleSort, .ref a_ruleArray, .ref a_ruleWeight, .ref a_ruleLow, .ref a_ruleHigh, .ref a_chosen, .ref a_bestOf, .int 0, .ref a_markElements, .ref a_markBits, .ref a_markPins]))] H locs := hZ
  refine lv_aload_n hx hb dX8_deep_0 rfl (lv_at hl 0 rfl) ?_
  refine lv_iload_n hx hb dX8_deep_1 rfl (lv_at hl 1 rfl) ?_
  refine zz_iV (As := [.int x1]) (wc := [(h0, .inr (7, [.int 0, .int 0, .ref a_kindOf, .ref a_depthOf, .ref a_lengthOf, .ref a_classOf, .ref a_baseOf, .ref a_bits, .ref a_pinned, .int 0, .ref a_lengths, .ref a_stackArray, .ref a_stackOther, .ref a_stackAt, .int 0, .int 0, .ref a_path, .ref a_held, .ref a_alike, .ref a_hashes, .int 0, .ref a_decisionArray, .ref a_decisionPlace, .ref a_candidateMany, .ref a_candidates, .int 0, .ref a_ruleSort, .ref a_ruleArray, .ref a_ruleWeight, .ref a_ruleLow, .ref a_ruleHigh, .ref a_chosen, .ref a_bestOf, .int 0, .ref a_markElements, .ref a_markBits, .ref a_markPins]))]) (wr := []) (rest := []) hC hZ hl zc_X8_200 (cm_isArray0 g h0 a_kindOf a_depthOf a_lengthOf a_classOf a_baseOf a_bits a_pinned a_lengths a_stackArray a_stackOther a_stackAt a_path a_held a_alike a_hashes a_decisionArray a_decisionPlace a_candidateMany a_candidates a_ruleSort a_ruleArray a_ruleWeight a_ruleLow a_ruleHigh a_chosen a_bestOf a_markElements a_markBits a_markPins 0 0 0 0 0 0 0 x1) [0] [] rfl rfl (by decide) (ci := 7) (q0 := 0) rfl rfl rfl rfl (Nat.le_of_ble_eq_true rfl) ⟨⟨Nat.le_of_ble_eq_true rfl, Nat.le_of_ble_eq_true rfl⟩, Nat.le_of_ble_eq_true rfl, Nat.le_of_ble_eq_true rfl⟩ dX8_deep_2 (fun r1 u2 H locs hp hZ => ?_)
  obtain ⟨rfl, rfl⟩ := hp
  have hZ : zz_Z g A s.heap [(h0, .inr (7, [.int 0, .int 0, .ref a_kindOf, .ref a_depthOf, .ref a_lengthOf, .ref a_classOf, .ref a_baseOf, .ref a_bits, .ref a_pinned, .int 0, .ref a_lengths, .ref a_stackArray, .ref a_stackOther, .ref a_stackAt, .int 0, .int 0, .ref a_path, .ref a_held, .ref a_alike, .ref a_hashes, .int 0, .ref a_decisionArray, .ref a_decisionPlace, .ref a_candidateMany, .ref a_candidates, .int 0, .ref a_ruleSort, .ref a_ruleArray, .ref a_ruleWeight, .ref a_ruleLow, .ref a_ruleHigh, .ref a_chosen, .ref a_bestOf, .int 0, .ref a_markElements, .ref a_markBits, .ref a_markPins]))] H locs := hZ
  refine lv_if_ne (tgt := 14) hx hb dX8_deep_5 (by decide) (fun c => absurd (by decide) c) (fun c3 => ?_)
  refine lv_aload_n hx hb dX8_deep_8 rfl (lv_at hl 0 rfl) ?_
  refine lv_iconst (v := 5) hx hb dX8_deep_9 (by decide) ?_
  refine zz_iV (As := [.int 5]) (wc := [(h0, .inr (7, [.int 0, .int 0, .ref a_kindOf, .ref a_depthOf, .ref a_lengthOf, .ref a_classOf, .ref a_baseOf, .ref a_bits, .ref a_pinned, .int 0, .ref a_lengths, .ref a_stackArray, .ref a_stackOther, .ref a_stackAt, .int 0, .int 0, .ref a_path, .ref a_held, .ref a_alike, .ref a_hashes, .int 0, .ref a_decisionArray, .ref a_decisionPlace, .ref a_candidateMany, .ref a_candidates, .int 0, .ref a_ruleSort, .ref a_ruleArray, .ref a_ruleWeight, .ref a_ruleLow, .ref a_ruleHigh, .ref a_chosen, .ref a_bestOf, .int 0, .ref a_markElements, .ref a_markBits, .ref a_markPins]))]) (wr := []) (rest := []) hC hZ hl zc_X8_175 (cm_fails g h0 a_kindOf a_depthOf a_lengthOf a_classOf a_baseOf a_bits a_pinned a_lengths a_stackArray a_stackOther a_stackAt a_path a_held a_alike a_hashes a_decisionArray a_decisionPlace a_candidateMany a_candidates a_ruleSort a_ruleArray a_ruleWeight a_ruleLow a_ruleHigh a_chosen a_bestOf a_markElements a_markBits a_markPins 0 0 0 0 0 0 0 0 5) [0] [] rfl rfl (by decide) (ci := 7) (q0 := 0) rfl rfl rfl rfl (Nat.le_of_ble_eq_true rfl) ⟨⟨Nat.le_of_ble_eq_true rfl, Nat.le_of_ble_eq_true rfl⟩, Nat.le_of_ble_eq_true rfl, Nat.le_of_ble_eq_true rfl⟩ dX8_deep_10 (fun r4 u5 H locs hp hZ => ?_)
  obtain ⟨rfl, rfl⟩ := hp
  have hZ : zz_Z g A s.heap [(h0, .inr (7, [.int 0, .int 0, .ref a_kindOf, .ref a_depthOf, .ref a_lengthOf, .ref a_classOf, .ref a_baseOf, .ref a_bits, .ref a_pinned, .int 5, .ref a_lengths, .ref a_stackArray, .ref a_stackOther, .ref a_stackAt, .int 0, .int 0, .ref a_path, .ref a_held, .ref a_alike, .ref a_hashes, .int 0, .ref a_decisionArray, .ref a_decisionPlace, .ref a_candidateMany, .ref a_candidates, .int 0, .ref a_ruleSort, .ref a_ruleArray, .ref a_ruleWeight, .ref a_ruleLow, .ref a_ruleHigh, .ref a_chosen, .ref a_bestOf, .int 0, .ref a_markElements, .ref a_markBits, .ref a_markPins]))] H locs := hZ
  exact zz_iret hC hZ (rfl) (Nat.le_of_ble_eq_true rfl) (Nat.le_of_ble_eq_true rfl) dX8_deep_13
theorem dX8_sort_0 : decode cX8_sort 0 = .ok (.aload_n 0, 1) := by decide +kernel
theorem dX8_sort_1 : decode cX8_sort 1 = .ok (.iload_n 1, 1) := by decide +kernel
theorem dX8_sort_2 : decode cX8_sort 2 = .ok (.invokevirtual 200, 3) := by decide +kernel
theorem dX8_sort_5 : decode cX8_sort 5 = .ok (.ifCond .ne 7, 3) := by decide +kernel
theorem dX8_sort_8 : decode cX8_sort 8 = .ok (.iconst 5, 1) := by decide +kernel
theorem dX8_sort_9 : decode cX8_sort 9 = .ok (.goto 55, 3) := by decide +kernel
theorem dX8_sort_64 : decode cX8_sort 64 = .ok (.istore 4, 2) := by decide +kernel
theorem dX8_sort_66 : decode cX8_sort 66 = .ok (.iload_n 2, 1) := by decide +kernel
theorem dX8_sort_67 : decode cX8_sort 67 = .ok (.istore 5, 2) := by decide +kernel
theorem dX8_sort_69 : decode cX8_sort 69 = .ok (.iload 5, 2) := by decide +kernel
theorem dX8_sort_71 : decode cX8_sort 71 = .ok (.iload_n 3, 1) := by decide +kernel
theorem dX8_sort_72 : decode cX8_sort 72 = .ok (.if_icmp .ge 39, 3) := by decide +kernel
theorem dX8_sort_111 : decode cX8_sort 111 = .ok (.iload 4, 2) := by decide +kernel
theorem dX8_sort_113 : decode cX8_sort 113 = .ok (.ifCond .le 10, 3) := by decide +kernel
theorem dX8_sort_116 : decode cX8_sort 116 = .ok (.aload_n 0, 1) := by decide +kernel
theorem dX8_sort_117 : decode cX8_sort 117 = .ok (.iload 4, 2) := by decide +kernel
theorem dX8_sort_119 : decode cX8_sort 119 = .ok (.invokevirtual 175, 3) := by decide +kernel
theorem dX8_sort_122 : decode cX8_sort 122 = .ok (.ireturn, 1) := by decide +kernel
theorem dX8_sort_75 : decode cX8_sort 75 = .ok (.iload 4, 2) := by decide +kernel
theorem dX8_sort_77 : decode cX8_sort 77 = .ok (.ifCond .ne 34, 3) := by decide +kernel
def fn_my_sort (x2 : Int32) (x3 : Int32) : Int32 := (if x3 ≤ x2 then -5 else -5)
abbrev rm_my_sort : Room := { frames := 2, cells := 0, slots := 0, locals := 46 }
abbrev po_my_sort (g : zz_G) (h0 : Nat) (a_kindOf : Nat) (a_depthOf : Nat) (a_lengthOf : Nat) (a_classOf : Nat) (a_baseOf : Nat) (a_bits : Nat) (a_pinned : Nat) (a_lengths : Nat) (a_stackArray : Nat) (a_stackOther : Nat) (a_stackAt : Nat) (a_path : Nat) (a_held : Nat) (a_alike : Nat) (a_hashes : Nat) (a_decisionArray : Nat) (a_decisionPlace : Nat) (a_candidateMany : Nat) (a_candidates : Nat) (a_ruleSort : Nat) (a_ruleArray : Nat) (a_ruleWeight : Nat) (a_ruleLow : Nat) (a_ruleHigh : Nat) (a_chosen : Nat) (a_bestOf : Nat) (a_markElements : Nat) (a_markBits : Nat) (a_markPins : Nat) (x1 : Int32) (x2 : Int32) (x3 : Int32) : Int32 → va_W → Prop := fun (r : Int32) (u : va_W) => r = fn_my_sort x2 x3
set_option maxHeartbeats 4000000 in
set_option maxRecDepth 100000 in
theorem my_sort (g : zz_G) (h0 : Nat) (a_kindOf : Nat) (a_depthOf : Nat) (a_lengthOf : Nat) (a_classOf : Nat) (a_baseOf : Nat) (a_bits : Nat) (a_pinned : Nat) (a_lengths : Nat) (a_stackArray : Nat) (a_stackOther : Nat) (a_stackAt : Nat) (a_path : Nat) (a_held : Nat) (a_alike : Nat) (a_hashes : Nat) (a_decisionArray : Nat) (a_decisionPlace : Nat) (a_candidateMany : Nat) (a_candidates : Nat) (a_ruleSort : Nat) (a_ruleArray : Nat) (a_ruleWeight : Nat) (a_ruleLow : Nat) (a_ruleHigh : Nat) (a_chosen : Nat) (a_bestOf : Nat) (a_markElements : Nat) (a_markBits : Nat) (a_markPins : Nat) (x1 : Int32) (x2 : Int32) (x3 : Int32) : zz_I g yX8_sort (.code yX8_sort cX8_sort 10 (some .int)) rm_my_sort [.ref h0, .int x1, .int x2, .int x3] [(h0, .inr (7, [.int 0, .int 0, .ref a_kindOf, .ref a_depthOf, .ref a_lengthOf, .ref a_classOf, .ref a_baseOf, .ref a_bits, .ref a_pinned, .int 0, .ref a_lengths, .ref a_stackArray, .ref a_stackOther, .ref a_stackAt, .int 0, .int 0, .ref a_path, .ref a_held, .ref a_alike, .ref a_hashes, .int 0, .ref a_decisionArray, .ref a_decisionPlace, .ref a_candidateMany, .ref a_candidates, .int 0, .ref a_ruleSort, .ref a_ruleArray, .ref a_ruleWeight, .ref a_ruleLow, .ref a_ruleHigh, .ref a_chosen, .ref a_bestOf, .int 0, .ref a_markElements, .ref a_markBits, .ref a_markPins]))] (po_my_sort g h0 a_kindOf a_depthOf a_lengthOf a_classOf a_baseOf a_bits a_pinned a_lengths a_stackArray a_stackOther a_stackAt a_path a_held a_alike a_hashes a_decisionArray a_decisionPlace a_candidateMany a_candidates a_ruleSort a_ruleArray a_ruleWeight a_ruleLow a_ruleHigh a_chosen a_bestOf a_markElements a_markBits a_markPins x1 x2 x3) := by
  refine zz_I.intro (own := RX8) (cc := cX8_sort) (nL := 10) (by decide) rfl (Nat.le_of_ble_eq_true rfl) ?_
  intro p l e s m args below meth c A H locs ls hC hnm hZ hl
  obtain ⟨hx, hb, hml, hown, hts, hr, hlocks, hK⟩ := id hC
  have hl : lv_has ls 10 [(0, .ref h0), (1, .int x1), (2, .int x2), (3, .int x3)] := hl
  have hZ : zz_Z g A s.heap [(h0, .inr (7, [.int 0, .int 0, .ref a_kindOf, .ref a_depthOf, .ref a_lengthOf, .ref a_classOf, .ref a_baseOf, .ref a_bits, .ref a_pinned, .int 0, .ref a_lengths, .ref a_stackArray, .ref a_stackOther, .ref a_stackAt, .int 0, .int 0, .ref a_path, .ref a_held, .ref a_alike, .ref a_hashes, .int 0, .ref a_decisionArray, .ref a_decisionPlace, .ref a_candidateMany, .ref a_candidates, .int 0, .ref a_ruleSort, .ref a_ruleArray, .ref a_ruleWeight, .ref a_ruleLow, .ref a_ruleHigh, .ref a_chosen, .ref a_bestOf, .int 0, .ref a_markElements, .ref a_markBits, .ref a_markPins]))] H locs := hZ
  refine lv_aload_n hx hb dX8_sort_0 rfl (lv_at hl 0 rfl) ?_
  refine lv_iload_n hx hb dX8_sort_1 rfl (lv_at hl 1 rfl) ?_
  refine zz_iV (As := [.int x1]) (wc := [(h0, .inr (7, [.int 0, .int 0, .ref a_kindOf, .ref a_depthOf, .ref a_lengthOf, .ref a_classOf, .ref a_baseOf, .ref a_bits, .ref a_pinned, .int 0, .ref a_lengths, .ref a_stackArray, .ref a_stackOther, .ref a_stackAt, .int 0, .int 0, .ref a_path, .ref a_held, .ref a_alike, .ref a_hashes, .int 0, .ref a_decisionArray, .ref a_decisionPlace, .ref a_candidateMany, .ref a_candidates, .int 0, .ref a_ruleSort, .ref a_ruleArray, .ref a_ruleWeight, .ref a_ruleLow, .ref a_ruleHigh, .ref a_chosen, .ref a_bestOf, .int 0, .ref a_markElements, .ref a_markBits, .ref a_markPins]))]) (wr := []) (rest := []) hC hZ hl zc_X8_200 (cm_isArray0 g h0 a_kindOf a_depthOf a_lengthOf a_classOf a_baseOf a_bits a_pinned a_lengths a_stackArray a_stackOther a_stackAt a_path a_held a_alike a_hashes a_decisionArray a_decisionPlace a_candidateMany a_candidates a_ruleSort a_ruleArray a_ruleWeight a_ruleLow a_ruleHigh a_chosen a_bestOf a_markElements a_markBits a_markPins 0 0 0 0 0 0 0 x1) [0] [] rfl rfl (by decide) (ci := 7) (q0 := 0) rfl rfl rfl rfl (Nat.le_of_ble_eq_true rfl) ⟨⟨Nat.le_of_ble_eq_true rfl, Nat.le_of_ble_eq_true rfl⟩, Nat.le_of_ble_eq_true rfl, Nat.le_of_ble_eq_true rfl⟩ dX8_sort_2 (fun r1 u2 H locs hp hZ => ?_)
  obtain ⟨rfl, rfl⟩ := hp
  have hZ : zz_Z g A s.heap [(h0, .inr (7, [.int 0, .int 0, .ref a_kindOf, .ref a_depthOf, .ref a_lengthOf, .ref a_classOf, .ref a_baseOf, .ref a_bits, .ref a_pinned, .int 0, .ref a_lengths, .ref a_stackArray, .ref a_stackOther, .ref a_stackAt, .int 0, .int 0, .ref a_path, .ref a_held, .ref a_alike, .ref a_hashes, .int 0, .ref a_decisionArray, .ref a_decisionPlace, .ref a_candidateMany, .ref a_candidates, .int 0, .ref a_ruleSort, .ref a_ruleArray, .ref a_ruleWeight, .ref a_ruleLow, .ref a_ruleHigh, .ref a_chosen, .ref a_bestOf, .int 0, .ref a_markElements, .ref a_markBits, .ref a_markPins]))] H locs := hZ
  refine lv_if_ne (tgt := 12) hx hb dX8_sort_5 (by decide) (fun c => absurd (by decide) c) (fun c3 => ?_)
  refine lv_iconst (v := 5) hx hb dX8_sort_8 (by decide) ?_
  refine lv_goto (tgt := 64) hx hb dX8_sort_9 (by decide) ?_
  refine lv_istore (lv' := [(4, .int 5), (0, .ref h0), (1, .int x1), (2, .int x2), (3, .int x3)]) hx hb dX8_sort_64 hl (by decide) rfl (fun ls hl => ?_)
  refine lv_iload_n hx hb dX8_sort_66 rfl (lv_at hl 3 rfl) ?_
  refine lv_istore (lv' := [(5, .int x2), (4, .int 5), (0, .ref h0), (1, .int x1), (2, .int x2), (3, .int x3)]) hx hb dX8_sort_67 hl (by decide) rfl (fun ls hl => ?_)
  refine lv_iload hx hb dX8_sort_69 (lv_at hl 0 rfl) ?_
  refine lv_iload_n hx hb dX8_sort_71 rfl (lv_at hl 5 rfl) ?_
  refine lv_icmp_ge (tgt := 111) hx hb dX8_sort_72 (by decide) (fun c4 => ?_) (fun c4 => ?_)
  · refine lv_iload hx hb dX8_sort_111 (lv_at hl 1 rfl) ?_
    refine lv_if_le (tgt := 123) hx hb dX8_sort_113 (by decide) (fun c => absurd c (by decide)) (fun c5 => ?_)
    refine lv_aload_n hx hb dX8_sort_116 rfl (lv_at hl 2 rfl) ?_
    refine lv_iload hx hb dX8_sort_117 (lv_at hl 1 rfl) ?_
    refine zz_iV (As := [.int 5]) (wc := [(h0, .inr (7, [.int 0, .int 0, .ref a_kindOf, .ref a_depthOf, .ref a_lengthOf, .ref a_classOf, .ref a_baseOf, .ref a_bits, .ref a_pinned, .int 0, .ref a_lengths, .ref a_stackArray, .ref a_stackOther, .ref a_stackAt, .int 0, .int 0, .ref a_path, .ref a_held, .ref a_alike, .ref a_hashes, .int 0, .ref a_decisionArray, .ref a_decisionPlace, .ref a_candidateMany, .ref a_candidates, .int 0, .ref a_ruleSort, .ref a_ruleArray, .ref a_ruleWeight, .ref a_ruleLow, .ref a_ruleHigh, .ref a_chosen, .ref a_bestOf, .int 0, .ref a_markElements, .ref a_markBits, .ref a_markPins]))]) (wr := []) (rest := []) hC hZ hl zc_X8_175 (cm_fails g h0 a_kindOf a_depthOf a_lengthOf a_classOf a_baseOf a_bits a_pinned a_lengths a_stackArray a_stackOther a_stackAt a_path a_held a_alike a_hashes a_decisionArray a_decisionPlace a_candidateMany a_candidates a_ruleSort a_ruleArray a_ruleWeight a_ruleLow a_ruleHigh a_chosen a_bestOf a_markElements a_markBits a_markPins 0 0 0 0 0 0 0 0 5) [0] [] rfl rfl (by decide) (ci := 7) (q0 := 0) rfl rfl rfl rfl (Nat.le_of_ble_eq_true rfl) ⟨⟨Nat.le_of_ble_eq_true rfl, Nat.le_of_ble_eq_true rfl⟩, Nat.le_of_ble_eq_true rfl, Nat.le_of_ble_eq_true rfl⟩ dX8_sort_119 (fun r6 u7 H locs hp hZ => ?_)
    obtain ⟨rfl, rfl⟩ := hp
    have hZ : zz_Z g A s.heap [(h0, .inr (7, [.int 0, .int 0, .ref a_kindOf, .ref a_depthOf, .ref a_lengthOf, .ref a_classOf, .ref a_baseOf, .ref a_bits, .ref a_pinned, .int 5, .ref a_lengths, .ref a_stackArray, .ref a_stackOther, .ref a_stackAt, .int 0, .int 0, .ref a_path, .ref a_held, .ref a_alike, .ref a_hashes, .int 0, .ref a_decisionArray, .ref a_decisionPlace, .ref a_candidateMany, .ref a_candidates, .int 0, .ref a_ruleSort, .ref a_ruleArray, .ref a_ruleWeight, .ref a_ruleLow, .ref a_ruleHigh, .ref a_chosen, .ref a_bestOf, .int 0, .ref a_markElements, .ref a_markBits, .ref a_markPins]))] H locs := hZ
    exact zz_iret hC hZ (by show _ = _; rw [fn_my_sort, if_pos c4]) (Nat.le_of_ble_eq_true rfl) (Nat.le_of_ble_eq_true rfl) dX8_sort_122
  · refine lv_iload hx hb dX8_sort_75 (lv_at hl 1 rfl) ?_
    refine lv_if_ne (tgt := 111) hx hb dX8_sort_77 (by decide) (fun c8 => ?_) (fun c => absurd c (by decide))
    refine lv_iload hx hb dX8_sort_111 (lv_at hl 1 rfl) ?_
    refine lv_if_le (tgt := 123) hx hb dX8_sort_113 (by decide) (fun c => absurd c (by decide)) (fun c9 => ?_)
    refine lv_aload_n hx hb dX8_sort_116 rfl (lv_at hl 2 rfl) ?_
    refine lv_iload hx hb dX8_sort_117 (lv_at hl 1 rfl) ?_
    refine zz_iV (As := [.int 5]) (wc := [(h0, .inr (7, [.int 0, .int 0, .ref a_kindOf, .ref a_depthOf, .ref a_lengthOf, .ref a_classOf, .ref a_baseOf, .ref a_bits, .ref a_pinned, .int 0, .ref a_lengths, .ref a_stackArray, .ref a_stackOther, .ref a_stackAt, .int 0, .int 0, .ref a_path, .ref a_held, .ref a_alike, .ref a_hashes, .int 0, .ref a_decisionArray, .ref a_decisionPlace, .ref a_candidateMany, .ref a_candidates, .int 0, .ref a_ruleSort, .ref a_ruleArray, .ref a_ruleWeight, .ref a_ruleLow, .ref a_ruleHigh, .ref a_chosen, .ref a_bestOf, .int 0, .ref a_markElements, .ref a_markBits, .ref a_markPins]))]) (wr := []) (rest := []) hC hZ hl zc_X8_175 (cm_fails g h0 a_kindOf a_depthOf a_lengthOf a_classOf a_baseOf a_bits a_pinned a_lengths a_stackArray a_stackOther a_stackAt a_path a_held a_alike a_hashes a_decisionArray a_decisionPlace a_candidateMany a_candidates a_ruleSort a_ruleArray a_ruleWeight a_ruleLow a_ruleHigh a_chosen a_bestOf a_markElements a_markBits a_markPins 0 0 0 0 0 0 0 0 5) [0] [] rfl rfl (by decide) (ci := 7) (q0 := 0) rfl rfl rfl rfl (Nat.le_of_ble_eq_true rfl) ⟨⟨Nat.le_of_ble_eq_true rfl, Nat.le_of_ble_eq_true rfl⟩, Nat.le_of_ble_eq_true rfl, Nat.le_of_ble_eq_true rfl⟩ dX8_sort_119 (fun r10 u11 H locs hp hZ => ?_)
    obtain ⟨rfl, rfl⟩ := hp
    have hZ : zz_Z g A s.heap [(h0, .inr (7, [.int 0, .int 0, .ref a_kindOf, .ref a_depthOf, .ref a_lengthOf, .ref a_classOf, .ref a_baseOf, .ref a_bits, .ref a_pinned, .int 5, .ref a_lengths, .ref a_stackArray, .ref a_stackOther, .ref a_stackAt, .int 0, .int 0, .ref a_path, .ref a_held, .ref a_alike, .ref a_hashes, .int 0, .ref a_decisionArray, .ref a_decisionPlace, .ref a_candidateMany, .ref a_candidates, .int 0, .ref a_ruleSort, .ref a_ruleArray, .ref a_ruleWeight, .ref a_ruleLow, .ref a_ruleHigh, .ref a_chosen, .ref a_bestOf, .int 0, .ref a_markElements, .ref a_markBits, .ref a_markPins]))] H locs := hZ
    exact zz_iret hC hZ (by show _ = _; rw [fn_my_sort, if_neg c4]) (Nat.le_of_ble_eq_true rfl) (Nat.le_of_ble_eq_true rfl) dX8_sort_122
theorem dX8_search_0 : decode cX8_search 0 = .ok (.aload_n 0, 1) := by decide +kernel
theorem dX8_search_1 : decode cX8_search 1 = .ok (.iload_n 1, 1) := by decide +kernel
theorem dX8_search_2 : decode cX8_search 2 = .ok (.invokevirtual 200, 3) := by decide +kernel
theorem dX8_search_5 : decode cX8_search 5 = .ok (.ifCond .ne 7, 3) := by decide +kernel
theorem dX8_search_8 : decode cX8_search 8 = .ok (.iconst 5, 1) := by decide +kernel
theorem dX8_search_9 : decode cX8_search 9 = .ok (.goto 36, 3) := by decide +kernel
theorem dX8_search_45 : decode cX8_search 45 = .ok (.istore 4, 2) := by decide +kernel
theorem dX8_search_47 : decode cX8_search 47 = .ok (.iload 4, 2) := by decide +kernel
theorem dX8_search_49 : decode cX8_search 49 = .ok (.ifCond .le 10, 3) := by decide +kernel
theorem dX8_search_52 : decode cX8_search 52 = .ok (.aload_n 0, 1) := by decide +kernel
theorem dX8_search_53 : decode cX8_search 53 = .ok (.iload 4, 2) := by decide +kernel
theorem dX8_search_55 : decode cX8_search 55 = .ok (.invokevirtual 175, 3) := by decide +kernel
theorem dX8_search_58 : decode cX8_search 58 = .ok (.ireturn, 1) := by decide +kernel
def fn_my_search  : Int32 := -5
abbrev rm_my_search : Room := { frames := 2, cells := 0, slots := 0, locals := 46 }
abbrev po_my_search (g : zz_G) (h0 : Nat) (a_kindOf : Nat) (a_depthOf : Nat) (a_lengthOf : Nat) (a_classOf : Nat) (a_baseOf : Nat) (a_bits : Nat) (a_pinned : Nat) (a_lengths : Nat) (a_stackArray : Nat) (a_stackOther : Nat) (a_stackAt : Nat) (a_path : Nat) (a_held : Nat) (a_alike : Nat) (a_hashes : Nat) (a_decisionArray : Nat) (a_decisionPlace : Nat) (a_candidateMany : Nat) (a_candidates : Nat) (a_ruleSort : Nat) (a_ruleArray : Nat) (a_ruleWeight : Nat) (a_ruleLow : Nat) (a_ruleHigh : Nat) (a_chosen : Nat) (a_bestOf : Nat) (a_markElements : Nat) (a_markBits : Nat) (a_markPins : Nat) (x1 : Int32) (x2 : Int64) : Int32 → va_W → Prop := fun (r : Int32) (u : va_W) => r = fn_my_search
set_option maxHeartbeats 4000000 in
set_option maxRecDepth 100000 in
theorem my_search (g : zz_G) (h0 : Nat) (a_kindOf : Nat) (a_depthOf : Nat) (a_lengthOf : Nat) (a_classOf : Nat) (a_baseOf : Nat) (a_bits : Nat) (a_pinned : Nat) (a_lengths : Nat) (a_stackArray : Nat) (a_stackOther : Nat) (a_stackAt : Nat) (a_path : Nat) (a_held : Nat) (a_alike : Nat) (a_hashes : Nat) (a_decisionArray : Nat) (a_decisionPlace : Nat) (a_candidateMany : Nat) (a_candidates : Nat) (a_ruleSort : Nat) (a_ruleArray : Nat) (a_ruleWeight : Nat) (a_ruleLow : Nat) (a_ruleHigh : Nat) (a_chosen : Nat) (a_bestOf : Nat) (a_markElements : Nat) (a_markBits : Nat) (a_markPins : Nat) (x1 : Int32) (x2 : Int64) : zz_I g yX8_search (.code yX8_search cX8_search 12 (some .int)) rm_my_search [.ref h0, .int x1, .long x2] [(h0, .inr (7, [.int 0, .int 0, .ref a_kindOf, .ref a_depthOf, .ref a_lengthOf, .ref a_classOf, .ref a_baseOf, .ref a_bits, .ref a_pinned, .int 0, .ref a_lengths, .ref a_stackArray, .ref a_stackOther, .ref a_stackAt, .int 0, .int 0, .ref a_path, .ref a_held, .ref a_alike, .ref a_hashes, .int 0, .ref a_decisionArray, .ref a_decisionPlace, .ref a_candidateMany, .ref a_candidates, .int 0, .ref a_ruleSort, .ref a_ruleArray, .ref a_ruleWeight, .ref a_ruleLow, .ref a_ruleHigh, .ref a_chosen, .ref a_bestOf, .int 0, .ref a_markElements, .ref a_markBits, .ref a_markPins]))] (po_my_search g h0 a_kindOf a_depthOf a_lengthOf a_classOf a_baseOf a_bits a_pinned a_lengths a_stackArray a_stackOther a_stackAt a_path a_held a_alike a_hashes a_decisionArray a_decisionPlace a_candidateMany a_candidates a_ruleSort a_ruleArray a_ruleWeight a_ruleLow a_ruleHigh a_chosen a_bestOf a_markElements a_markBits a_markPins x1 x2) := by
  refine zz_I.intro (own := RX8) (cc := cX8_search) (nL := 12) (by decide) rfl (Nat.le_of_ble_eq_true rfl) ?_
  intro p l e s m args below meth c A H locs ls hC hnm hZ hl
  obtain ⟨hx, hb, hml, hown, hts, hr, hlocks, hK⟩ := id hC
  have hl : lv_has ls 12 [(0, .ref h0), (1, .int x1), (2, .long x2)] := hl
  have hZ : zz_Z g A s.heap [(h0, .inr (7, [.int 0, .int 0, .ref a_kindOf, .ref a_depthOf, .ref a_lengthOf, .ref a_classOf, .ref a_baseOf, .ref a_bits, .ref a_pinned, .int 0, .ref a_lengths, .ref a_stackArray, .ref a_stackOther, .ref a_stackAt, .int 0, .int 0, .ref a_path, .ref a_held, .ref a_alike, .ref a_hashes, .int 0, .ref a_decisionArray, .ref a_decisionPlace, .ref a_candidateMany, .ref a_candidates, .int 0, .ref a_ruleSort, .ref a_ruleArray, .ref a_ruleWeight, .ref a_ruleLow, .ref a_ruleHigh, .ref a_chosen, .ref a_bestOf, .int 0, .ref a_markElements, .ref a_markBits, .ref a_markPins]))] H locs := hZ
  refine lv_aload_n hx hb dX8_search_0 rfl (lv_at hl 0 rfl) ?_
  refine lv_iload_n hx hb dX8_search_1 rfl (lv_at hl 1 rfl) ?_
  refine zz_iV (As := [.int x1]) (wc := [(h0, .inr (7, [.int 0, .int 0, .ref a_kindOf, .ref a_depthOf, .ref a_lengthOf, .ref a_classOf, .ref a_baseOf, .ref a_bits, .ref a_pinned, .int 0, .ref a_lengths, .ref a_stackArray, .ref a_stackOther, .ref a_stackAt, .int 0, .int 0, .ref a_path, .ref a_held, .ref a_alike, .ref a_hashes, .int 0, .ref a_decisionArray, .ref a_decisionPlace, .ref a_candidateMany, .ref a_candidates, .int 0, .ref a_ruleSort, .ref a_ruleArray, .ref a_ruleWeight, .ref a_ruleLow, .ref a_ruleHigh, .ref a_chosen, .ref a_bestOf, .int 0, .ref a_markElements, .ref a_markBits, .ref a_markPins]))]) (wr := []) (rest := []) hC hZ hl zc_X8_200 (cm_isArray0 g h0 a_kindOf a_depthOf a_lengthOf a_classOf a_baseOf a_bits a_pinned a_lengths a_stackArray a_stackOther a_stackAt a_path a_held a_alike a_hashes a_decisionArray a_decisionPlace a_candidateMany a_candidates a_ruleSort a_ruleArray a_ruleWeight a_ruleLow a_ruleHigh a_chosen a_bestOf a_markElements a_markBits a_markPins 0 0 0 0 0 0 0 x1) [0] [] rfl rfl (by decide) (ci := 7) (q0 := 0) rfl rfl rfl rfl (Nat.le_of_ble_eq_true rfl) ⟨⟨Nat.le_of_ble_eq_true rfl, Nat.le_of_ble_eq_true rfl⟩, Nat.le_of_ble_eq_true rfl, Nat.le_of_ble_eq_true rfl⟩ dX8_search_2 (fun r1 u2 H locs hp hZ => ?_)
  obtain ⟨rfl, rfl⟩ := hp
  have hZ : zz_Z g A s.heap [(h0, .inr (7, [.int 0, .int 0, .ref a_kindOf, .ref a_depthOf, .ref a_lengthOf, .ref a_classOf, .ref a_baseOf, .ref a_bits, .ref a_pinned, .int 0, .ref a_lengths, .ref a_stackArray, .ref a_stackOther, .ref a_stackAt, .int 0, .int 0, .ref a_path, .ref a_held, .ref a_alike, .ref a_hashes, .int 0, .ref a_decisionArray, .ref a_decisionPlace, .ref a_candidateMany, .ref a_candidates, .int 0, .ref a_ruleSort, .ref a_ruleArray, .ref a_ruleWeight, .ref a_ruleLow, .ref a_ruleHigh, .ref a_chosen, .ref a_bestOf, .int 0, .ref a_markElements, .ref a_markBits, .ref a_markPins]))] H locs := hZ
  refine lv_if_ne (tgt := 12) hx hb dX8_search_5 (by decide) (fun c => absurd (by decide) c) (fun c3 => ?_)
  refine lv_iconst (v := 5) hx hb dX8_search_8 (by decide) ?_
  refine lv_goto (tgt := 45) hx hb dX8_search_9 (by decide) ?_
  refine lv_istore (lv' := [(4, .int 5), (0, .ref h0), (1, .int x1), (2, .long x2)]) hx hb dX8_search_45 hl (by decide) rfl (fun ls hl => ?_)
  refine lv_iload hx hb dX8_search_47 (lv_at hl 0 rfl) ?_
  refine lv_if_le (tgt := 59) hx hb dX8_search_49 (by decide) (fun c => absurd c (by decide)) (fun c4 => ?_)
  refine lv_aload_n hx hb dX8_search_52 rfl (lv_at hl 1 rfl) ?_
  refine lv_iload hx hb dX8_search_53 (lv_at hl 0 rfl) ?_
  refine zz_iV (As := [.int 5]) (wc := [(h0, .inr (7, [.int 0, .int 0, .ref a_kindOf, .ref a_depthOf, .ref a_lengthOf, .ref a_classOf, .ref a_baseOf, .ref a_bits, .ref a_pinned, .int 0, .ref a_lengths, .ref a_stackArray, .ref a_stackOther, .ref a_stackAt, .int 0, .int 0, .ref a_path, .ref a_held, .ref a_alike, .ref a_hashes, .int 0, .ref a_decisionArray, .ref a_decisionPlace, .ref a_candidateMany, .ref a_candidates, .int 0, .ref a_ruleSort, .ref a_ruleArray, .ref a_ruleWeight, .ref a_ruleLow, .ref a_ruleHigh, .ref a_chosen, .ref a_bestOf, .int 0, .ref a_markElements, .ref a_markBits, .ref a_markPins]))]) (wr := []) (rest := []) hC hZ hl zc_X8_175 (cm_fails g h0 a_kindOf a_depthOf a_lengthOf a_classOf a_baseOf a_bits a_pinned a_lengths a_stackArray a_stackOther a_stackAt a_path a_held a_alike a_hashes a_decisionArray a_decisionPlace a_candidateMany a_candidates a_ruleSort a_ruleArray a_ruleWeight a_ruleLow a_ruleHigh a_chosen a_bestOf a_markElements a_markBits a_markPins 0 0 0 0 0 0 0 0 5) [0] [] rfl rfl (by decide) (ci := 7) (q0 := 0) rfl rfl rfl rfl (Nat.le_of_ble_eq_true rfl) ⟨⟨Nat.le_of_ble_eq_true rfl, Nat.le_of_ble_eq_true rfl⟩, Nat.le_of_ble_eq_true rfl, Nat.le_of_ble_eq_true rfl⟩ dX8_search_55 (fun r5 u6 H locs hp hZ => ?_)
  obtain ⟨rfl, rfl⟩ := hp
  have hZ : zz_Z g A s.heap [(h0, .inr (7, [.int 0, .int 0, .ref a_kindOf, .ref a_depthOf, .ref a_lengthOf, .ref a_classOf, .ref a_baseOf, .ref a_bits, .ref a_pinned, .int 5, .ref a_lengths, .ref a_stackArray, .ref a_stackOther, .ref a_stackAt, .int 0, .int 0, .ref a_path, .ref a_held, .ref a_alike, .ref a_hashes, .int 0, .ref a_decisionArray, .ref a_decisionPlace, .ref a_candidateMany, .ref a_candidates, .int 0, .ref a_ruleSort, .ref a_ruleArray, .ref a_ruleWeight, .ref a_ruleLow, .ref a_ruleHigh, .ref a_chosen, .ref a_bestOf, .int 0, .ref a_markElements, .ref a_markBits, .ref a_markPins]))] H locs := hZ
  exact zz_iret hC hZ (rfl) (Nat.le_of_ble_eq_true rfl) (Nat.le_of_ble_eq_true rfl) dX8_search_58
theorem dX8_same_0 : decode cX8_same 0 = .ok (.aload_n 0, 1) := by decide +kernel
theorem dX8_same_1 : decode cX8_same 1 = .ok (.iload_n 1, 1) := by decide +kernel
theorem dX8_same_2 : decode cX8_same 2 = .ok (.invokevirtual 200, 3) := by decide +kernel
theorem dX8_same_5 : decode cX8_same 5 = .ok (.ifCond .eq 11, 3) := by decide +kernel
theorem dX8_same_16 : decode cX8_same 16 = .ok (.aload_n 0, 1) := by decide +kernel
theorem dX8_same_17 : decode cX8_same 17 = .ok (.iconst 5, 1) := by decide +kernel
theorem dX8_same_18 : decode cX8_same 18 = .ok (.invokevirtual 175, 3) := by decide +kernel
theorem dX8_same_21 : decode cX8_same 21 = .ok (.ireturn, 1) := by decide +kernel
def fn_my_same  : Int32 := -5
abbrev rm_my_same : Room := { frames := 2, cells := 0, slots := 0, locals := 46 }
abbrev po_my_same (g : zz_G) (h0 : Nat) (a_kindOf : Nat) (a_depthOf : Nat) (a_lengthOf : Nat) (a_classOf : Nat) (a_baseOf : Nat) (a_bits : Nat) (a_pinned : Nat) (a_lengths : Nat) (a_stackArray : Nat) (a_stackOther : Nat) (a_stackAt : Nat) (a_path : Nat) (a_held : Nat) (a_alike : Nat) (a_hashes : Nat) (a_decisionArray : Nat) (a_decisionPlace : Nat) (a_candidateMany : Nat) (a_candidates : Nat) (a_ruleSort : Nat) (a_ruleArray : Nat) (a_ruleWeight : Nat) (a_ruleLow : Nat) (a_ruleHigh : Nat) (a_chosen : Nat) (a_bestOf : Nat) (a_markElements : Nat) (a_markBits : Nat) (a_markPins : Nat) (x1 : Int32) (x2 : Int32) : Int32 → va_W → Prop := fun (r : Int32) (u : va_W) => r = fn_my_same
set_option maxHeartbeats 4000000 in
set_option maxRecDepth 100000 in
theorem my_same (g : zz_G) (h0 : Nat) (a_kindOf : Nat) (a_depthOf : Nat) (a_lengthOf : Nat) (a_classOf : Nat) (a_baseOf : Nat) (a_bits : Nat) (a_pinned : Nat) (a_lengths : Nat) (a_stackArray : Nat) (a_stackOther : Nat) (a_stackAt : Nat) (a_path : Nat) (a_held : Nat) (a_alike : Nat) (a_hashes : Nat) (a_decisionArray : Nat) (a_decisionPlace : Nat) (a_candidateMany : Nat) (a_candidates : Nat) (a_ruleSort : Nat) (a_ruleArray : Nat) (a_ruleWeight : Nat) (a_ruleLow : Nat) (a_ruleHigh : Nat) (a_chosen : Nat) (a_bestOf : Nat) (a_markElements : Nat) (a_markBits : Nat) (a_markPins : Nat) (x1 : Int32) (x2 : Int32) : zz_I g yX8_same (.code yX8_same cX8_same 6 (some .int)) rm_my_same [.ref h0, .int x1, .int x2] [(h0, .inr (7, [.int 0, .int 0, .ref a_kindOf, .ref a_depthOf, .ref a_lengthOf, .ref a_classOf, .ref a_baseOf, .ref a_bits, .ref a_pinned, .int 0, .ref a_lengths, .ref a_stackArray, .ref a_stackOther, .ref a_stackAt, .int 0, .int 0, .ref a_path, .ref a_held, .ref a_alike, .ref a_hashes, .int 0, .ref a_decisionArray, .ref a_decisionPlace, .ref a_candidateMany, .ref a_candidates, .int 0, .ref a_ruleSort, .ref a_ruleArray, .ref a_ruleWeight, .ref a_ruleLow, .ref a_ruleHigh, .ref a_chosen, .ref a_bestOf, .int 0, .ref a_markElements, .ref a_markBits, .ref a_markPins]))] (po_my_same g h0 a_kindOf a_depthOf a_lengthOf a_classOf a_baseOf a_bits a_pinned a_lengths a_stackArray a_stackOther a_stackAt a_path a_held a_alike a_hashes a_decisionArray a_decisionPlace a_candidateMany a_candidates a_ruleSort a_ruleArray a_ruleWeight a_ruleLow a_ruleHigh a_chosen a_bestOf a_markElements a_markBits a_markPins x1 x2) := by
  refine zz_I.intro (own := RX8) (cc := cX8_same) (nL := 6) (by decide) rfl (Nat.le_of_ble_eq_true rfl) ?_
  intro p l e s m args below meth c A H locs ls hC hnm hZ hl
  obtain ⟨hx, hb, hml, hown, hts, hr, hlocks, hK⟩ := id hC
  have hl : lv_has ls 6 [(0, .ref h0), (1, .int x1), (2, .int x2)] := hl
  have hZ : zz_Z g A s.heap [(h0, .inr (7, [.int 0, .int 0, .ref a_kindOf, .ref a_depthOf, .ref a_lengthOf, .ref a_classOf, .ref a_baseOf, .ref a_bits, .ref a_pinned, .int 0, .ref a_lengths, .ref a_stackArray, .ref a_stackOther, .ref a_stackAt, .int 0, .int 0, .ref a_path, .ref a_held, .ref a_alike, .ref a_hashes, .int 0, .ref a_decisionArray, .ref a_decisionPlace, .ref a_candidateMany, .ref a_candidates, .int 0, .ref a_ruleSort, .ref a_ruleArray, .ref a_ruleWeight, .ref a_ruleLow, .ref a_ruleHigh, .ref a_chosen, .ref a_bestOf, .int 0, .ref a_markElements, .ref a_markBits, .ref a_markPins]))] H locs := hZ
  refine lv_aload_n hx hb dX8_same_0 rfl (lv_at hl 0 rfl) ?_
  refine lv_iload_n hx hb dX8_same_1 rfl (lv_at hl 1 rfl) ?_
  refine zz_iV (As := [.int x1]) (wc := [(h0, .inr (7, [.int 0, .int 0, .ref a_kindOf, .ref a_depthOf, .ref a_lengthOf, .ref a_classOf, .ref a_baseOf, .ref a_bits, .ref a_pinned, .int 0, .ref a_lengths, .ref a_stackArray, .ref a_stackOther, .ref a_stackAt, .int 0, .int 0, .ref a_path, .ref a_held, .ref a_alike, .ref a_hashes, .int 0, .ref a_decisionArray, .ref a_decisionPlace, .ref a_candidateMany, .ref a_candidates, .int 0, .ref a_ruleSort, .ref a_ruleArray, .ref a_ruleWeight, .ref a_ruleLow, .ref a_ruleHigh, .ref a_chosen, .ref a_bestOf, .int 0, .ref a_markElements, .ref a_markBits, .ref a_markPins]))]) (wr := []) (rest := []) hC hZ hl zc_X8_200 (cm_isArray0 g h0 a_kindOf a_depthOf a_lengthOf a_classOf a_baseOf a_bits a_pinned a_lengths a_stackArray a_stackOther a_stackAt a_path a_held a_alike a_hashes a_decisionArray a_decisionPlace a_candidateMany a_candidates a_ruleSort a_ruleArray a_ruleWeight a_ruleLow a_ruleHigh a_chosen a_bestOf a_markElements a_markBits a_markPins 0 0 0 0 0 0 0 x1) [0] [] rfl rfl (by decide) (ci := 7) (q0 := 0) rfl rfl rfl rfl (Nat.le_of_ble_eq_true rfl) ⟨⟨Nat.le_of_ble_eq_true rfl, Nat.le_of_ble_eq_true rfl⟩, Nat.le_of_ble_eq_true rfl, Nat.le_of_ble_eq_true rfl⟩ dX8_same_2 (fun r1 u2 H locs hp hZ => ?_)
  obtain ⟨rfl, rfl⟩ := hp
  have hZ : zz_Z g A s.heap [(h0, .inr (7, [.int 0, .int 0, .ref a_kindOf, .ref a_depthOf, .ref a_lengthOf, .ref a_classOf, .ref a_baseOf, .ref a_bits, .ref a_pinned, .int 0, .ref a_lengths, .ref a_stackArray, .ref a_stackOther, .ref a_stackAt, .int 0, .int 0, .ref a_path, .ref a_held, .ref a_alike, .ref a_hashes, .int 0, .ref a_decisionArray, .ref a_decisionPlace, .ref a_candidateMany, .ref a_candidates, .int 0, .ref a_ruleSort, .ref a_ruleArray, .ref a_ruleWeight, .ref a_ruleLow, .ref a_ruleHigh, .ref a_chosen, .ref a_bestOf, .int 0, .ref a_markElements, .ref a_markBits, .ref a_markPins]))] H locs := hZ
  refine lv_if_eq (tgt := 16) hx hb dX8_same_5 (by decide) (fun c3 => ?_) (fun c => absurd (by decide) c)
  refine lv_aload_n hx hb dX8_same_16 rfl (lv_at hl 0 rfl) ?_
  refine lv_iconst (v := 5) hx hb dX8_same_17 (by decide) ?_
  refine zz_iV (As := [.int 5]) (wc := [(h0, .inr (7, [.int 0, .int 0, .ref a_kindOf, .ref a_depthOf, .ref a_lengthOf, .ref a_classOf, .ref a_baseOf, .ref a_bits, .ref a_pinned, .int 0, .ref a_lengths, .ref a_stackArray, .ref a_stackOther, .ref a_stackAt, .int 0, .int 0, .ref a_path, .ref a_held, .ref a_alike, .ref a_hashes, .int 0, .ref a_decisionArray, .ref a_decisionPlace, .ref a_candidateMany, .ref a_candidates, .int 0, .ref a_ruleSort, .ref a_ruleArray, .ref a_ruleWeight, .ref a_ruleLow, .ref a_ruleHigh, .ref a_chosen, .ref a_bestOf, .int 0, .ref a_markElements, .ref a_markBits, .ref a_markPins]))]) (wr := []) (rest := []) hC hZ hl zc_X8_175 (cm_fails g h0 a_kindOf a_depthOf a_lengthOf a_classOf a_baseOf a_bits a_pinned a_lengths a_stackArray a_stackOther a_stackAt a_path a_held a_alike a_hashes a_decisionArray a_decisionPlace a_candidateMany a_candidates a_ruleSort a_ruleArray a_ruleWeight a_ruleLow a_ruleHigh a_chosen a_bestOf a_markElements a_markBits a_markPins 0 0 0 0 0 0 0 0 5) [0] [] rfl rfl (by decide) (ci := 7) (q0 := 0) rfl rfl rfl rfl (Nat.le_of_ble_eq_true rfl) ⟨⟨Nat.le_of_ble_eq_true rfl, Nat.le_of_ble_eq_true rfl⟩, Nat.le_of_ble_eq_true rfl, Nat.le_of_ble_eq_true rfl⟩ dX8_same_18 (fun r4 u5 H locs hp hZ => ?_)
  obtain ⟨rfl, rfl⟩ := hp
  have hZ : zz_Z g A s.heap [(h0, .inr (7, [.int 0, .int 0, .ref a_kindOf, .ref a_depthOf, .ref a_lengthOf, .ref a_classOf, .ref a_baseOf, .ref a_bits, .ref a_pinned, .int 5, .ref a_lengths, .ref a_stackArray, .ref a_stackOther, .ref a_stackAt, .int 0, .int 0, .ref a_path, .ref a_held, .ref a_alike, .ref a_hashes, .int 0, .ref a_decisionArray, .ref a_decisionPlace, .ref a_candidateMany, .ref a_candidates, .int 0, .ref a_ruleSort, .ref a_ruleArray, .ref a_ruleWeight, .ref a_ruleLow, .ref a_ruleHigh, .ref a_chosen, .ref a_bestOf, .int 0, .ref a_markElements, .ref a_markBits, .ref a_markPins]))] H locs := hZ
  exact zz_iret hC hZ (rfl) (Nat.le_of_ble_eq_true rfl) (Nat.le_of_ble_eq_true rfl) dX8_same_21
theorem dX8_hash_0 : decode cX8_hash 0 = .ok (.aload_n 0, 1) := by decide +kernel
theorem dX8_hash_1 : decode cX8_hash 1 = .ok (.iload_n 1, 1) := by decide +kernel
theorem dX8_hash_2 : decode cX8_hash 2 = .ok (.invokevirtual 200, 3) := by decide +kernel
theorem dX8_hash_5 : decode cX8_hash 5 = .ok (.ifCond .ne 10, 3) := by decide +kernel
theorem dX8_hash_8 : decode cX8_hash 8 = .ok (.aload_n 0, 1) := by decide +kernel
theorem dX8_hash_9 : decode cX8_hash 9 = .ok (.iconst 5, 1) := by decide +kernel
theorem dX8_hash_10 : decode cX8_hash 10 = .ok (.putfield 99, 3) := by decide +kernel
theorem dX8_hash_13 : decode cX8_hash 13 = .ok (.iconst 0, 1) := by decide +kernel
theorem dX8_hash_14 : decode cX8_hash 14 = .ok (.ireturn, 1) := by decide +kernel
def fn_my_hash  : Int32 := 0
abbrev rm_my_hash : Room := { frames := 2, cells := 0, slots := 0, locals := 46 }
abbrev po_my_hash (g : zz_G) (h0 : Nat) (a_kindOf : Nat) (a_depthOf : Nat) (a_lengthOf : Nat) (a_classOf : Nat) (a_baseOf : Nat) (a_bits : Nat) (a_pinned : Nat) (a_lengths : Nat) (a_stackArray : Nat) (a_stackOther : Nat) (a_stackAt : Nat) (a_path : Nat) (a_held : Nat) (a_alike : Nat) (a_hashes : Nat) (a_decisionArray : Nat) (a_decisionPlace : Nat) (a_candidateMany : Nat) (a_candidates : Nat) (a_ruleSort : Nat) (a_ruleArray : Nat) (a_ruleWeight : Nat) (a_ruleLow : Nat) (a_ruleHigh : Nat) (a_chosen : Nat) (a_bestOf : Nat) (a_markElements : Nat) (a_markBits : Nat) (a_markPins : Nat) (x1 : Int32) : Int32 → va_W → Prop := fun (r : Int32) (u : va_W) => r = fn_my_hash
set_option maxHeartbeats 4000000 in
set_option maxRecDepth 100000 in
theorem my_hash (g : zz_G) (h0 : Nat) (a_kindOf : Nat) (a_depthOf : Nat) (a_lengthOf : Nat) (a_classOf : Nat) (a_baseOf : Nat) (a_bits : Nat) (a_pinned : Nat) (a_lengths : Nat) (a_stackArray : Nat) (a_stackOther : Nat) (a_stackAt : Nat) (a_path : Nat) (a_held : Nat) (a_alike : Nat) (a_hashes : Nat) (a_decisionArray : Nat) (a_decisionPlace : Nat) (a_candidateMany : Nat) (a_candidates : Nat) (a_ruleSort : Nat) (a_ruleArray : Nat) (a_ruleWeight : Nat) (a_ruleLow : Nat) (a_ruleHigh : Nat) (a_chosen : Nat) (a_bestOf : Nat) (a_markElements : Nat) (a_markBits : Nat) (a_markPins : Nat) (x1 : Int32) : zz_I g yX8_hash (.code yX8_hash cX8_hash 4 (some .int)) rm_my_hash [.ref h0, .int x1] [(h0, .inr (7, [.int 0, .int 0, .ref a_kindOf, .ref a_depthOf, .ref a_lengthOf, .ref a_classOf, .ref a_baseOf, .ref a_bits, .ref a_pinned, .int 0, .ref a_lengths, .ref a_stackArray, .ref a_stackOther, .ref a_stackAt, .int 0, .int 0, .ref a_path, .ref a_held, .ref a_alike, .ref a_hashes, .int 0, .ref a_decisionArray, .ref a_decisionPlace, .ref a_candidateMany, .ref a_candidates, .int 0, .ref a_ruleSort, .ref a_ruleArray, .ref a_ruleWeight, .ref a_ruleLow, .ref a_ruleHigh, .ref a_chosen, .ref a_bestOf, .int 0, .ref a_markElements, .ref a_markBits, .ref a_markPins]))] (po_my_hash g h0 a_kindOf a_depthOf a_lengthOf a_classOf a_baseOf a_bits a_pinned a_lengths a_stackArray a_stackOther a_stackAt a_path a_held a_alike a_hashes a_decisionArray a_decisionPlace a_candidateMany a_candidates a_ruleSort a_ruleArray a_ruleWeight a_ruleLow a_ruleHigh a_chosen a_bestOf a_markElements a_markBits a_markPins x1) := by
  refine zz_I.intro (own := RX8) (cc := cX8_hash) (nL := 4) (by decide) rfl (Nat.le_of_ble_eq_true rfl) ?_
  intro p l e s m args below meth c A H locs ls hC hnm hZ hl
  obtain ⟨hx, hb, hml, hown, hts, hr, hlocks, hK⟩ := id hC
  have hl : lv_has ls 4 [(0, .ref h0), (1, .int x1)] := hl
  have hZ : zz_Z g A s.heap [(h0, .inr (7, [.int 0, .int 0, .ref a_kindOf, .ref a_depthOf, .ref a_lengthOf, .ref a_classOf, .ref a_baseOf, .ref a_bits, .ref a_pinned, .int 0, .ref a_lengths, .ref a_stackArray, .ref a_stackOther, .ref a_stackAt, .int 0, .int 0, .ref a_path, .ref a_held, .ref a_alike, .ref a_hashes, .int 0, .ref a_decisionArray, .ref a_decisionPlace, .ref a_candidateMany, .ref a_candidates, .int 0, .ref a_ruleSort, .ref a_ruleArray, .ref a_ruleWeight, .ref a_ruleLow, .ref a_ruleHigh, .ref a_chosen, .ref a_bestOf, .int 0, .ref a_markElements, .ref a_markBits, .ref a_markPins]))] H locs := hZ
  refine lv_aload_n hx hb dX8_hash_0 rfl (lv_at hl 0 rfl) ?_
  refine lv_iload_n hx hb dX8_hash_1 rfl (lv_at hl 1 rfl) ?_
  refine zz_iV (As := [.int x1]) (wc := [(h0, .inr (7, [.int 0, .int 0, .ref a_kindOf, .ref a_depthOf, .ref a_lengthOf, .ref a_classOf, .ref a_baseOf, .ref a_bits, .ref a_pinned, .int 0, .ref a_lengths, .ref a_stackArray, .ref a_stackOther, .ref a_stackAt, .int 0, .int 0, .ref a_path, .ref a_held, .ref a_alike, .ref a_hashes, .int 0, .ref a_decisionArray, .ref a_decisionPlace, .ref a_candidateMany, .ref a_candidates, .int 0, .ref a_ruleSort, .ref a_ruleArray, .ref a_ruleWeight, .ref a_ruleLow, .ref a_ruleHigh, .ref a_chosen, .ref a_bestOf, .int 0, .ref a_markElements, .ref a_markBits, .ref a_markPins]))]) (wr := []) (rest := []) hC hZ hl zc_X8_200 (cm_isArray0 g h0 a_kindOf a_depthOf a_lengthOf a_classOf a_baseOf a_bits a_pinned a_lengths a_stackArray a_stackOther a_stackAt a_path a_held a_alike a_hashes a_decisionArray a_decisionPlace a_candidateMany a_candidates a_ruleSort a_ruleArray a_ruleWeight a_ruleLow a_ruleHigh a_chosen a_bestOf a_markElements a_markBits a_markPins 0 0 0 0 0 0 0 x1) [0] [] rfl rfl (by decide) (ci := 7) (q0 := 0) rfl rfl rfl rfl (Nat.le_of_ble_eq_true rfl) ⟨⟨Nat.le_of_ble_eq_true rfl, Nat.le_of_ble_eq_true rfl⟩, Nat.le_of_ble_eq_true rfl, Nat.le_of_ble_eq_true rfl⟩ dX8_hash_2 (fun r1 u2 H locs hp hZ => ?_)
  obtain ⟨rfl, rfl⟩ := hp
  have hZ : zz_Z g A s.heap [(h0, .inr (7, [.int 0, .int 0, .ref a_kindOf, .ref a_depthOf, .ref a_lengthOf, .ref a_classOf, .ref a_baseOf, .ref a_bits, .ref a_pinned, .int 0, .ref a_lengths, .ref a_stackArray, .ref a_stackOther, .ref a_stackAt, .int 0, .int 0, .ref a_path, .ref a_held, .ref a_alike, .ref a_hashes, .int 0, .ref a_decisionArray, .ref a_decisionPlace, .ref a_candidateMany, .ref a_candidates, .int 0, .ref a_ruleSort, .ref a_ruleArray, .ref a_ruleWeight, .ref a_ruleLow, .ref a_ruleHigh, .ref a_chosen, .ref a_bestOf, .int 0, .ref a_markElements, .ref a_markBits, .ref a_markPins]))] H locs := hZ
  refine lv_if_ne (tgt := 15) hx hb dX8_hash_5 (by decide) (fun c => absurd (by decide) c) (fun c3 => ?_)
  refine lv_aload_n hx hb dX8_hash_8 rfl (lv_at hl 0 rfl) ?_
  refine lv_iconst (v := 5) hx hb dX8_hash_9 (by decide) ?_
  refine zz_put hC hZ 0 rfl zu_X8_99 (Nat.le_of_ble_eq_true rfl) dX8_hash_10 (fun H locs hZ => ?_)
  have hZ : zz_Z g A s.heap [(h0, .inr (7, [.int 0, .int 0, .ref a_kindOf, .ref a_depthOf, .ref a_lengthOf, .ref a_classOf, .ref a_baseOf, .ref a_bits, .ref a_pinned, .int 5, .ref a_lengths, .ref a_stackArray, .ref a_stackOther, .ref a_stackAt, .int 0, .int 0, .ref a_path, .ref a_held, .ref a_alike, .ref a_hashes, .int 0, .ref a_decisionArray, .ref a_decisionPlace, .ref a_candidateMany, .ref a_candidates, .int 0, .ref a_ruleSort, .ref a_ruleArray, .ref a_ruleWeight, .ref a_ruleLow, .ref a_ruleHigh, .ref a_chosen, .ref a_bestOf, .int 0, .ref a_markElements, .ref a_markBits, .ref a_markPins]))] H locs := hZ
  refine lv_iconst (v := 0) hx hb dX8_hash_13 (by decide) ?_
  exact zz_iret hC hZ (rfl) (Nat.le_of_ble_eq_true rfl) (Nat.le_of_ble_eq_true rfl) dX8_hash_14
theorem dX8_decide_0 : decode cX8_decide 0 = .ok (.aload_n 0, 1) := by decide +kernel
theorem dX8_decide_1 : decode cX8_decide 1 = .ok (.iload_n 1, 1) := by decide +kernel
theorem dX8_decide_2 : decode cX8_decide 2 = .ok (.invokevirtual 200, 3) := by decide +kernel
theorem dX8_decide_5 : decode cX8_decide 5 = .ok (.ifCond .ne 7, 3) := by decide +kernel
theorem dX8_decide_8 : decode cX8_decide 8 = .ok (.iconst 5, 1) := by decide +kernel
theorem dX8_decide_9 : decode cX8_decide 9 = .ok (.goto 14, 3) := by decide +kernel
theorem dX8_decide_23 : decode cX8_decide 23 = .ok (.istore 6, 2) := by decide +kernel
theorem dX8_decide_25 : decode cX8_decide 25 = .ok (.iload 6, 2) := by decide +kernel
theorem dX8_decide_27 : decode cX8_decide 27 = .ok (.ifCond .le 10, 3) := by decide +kernel
theorem dX8_decide_30 : decode cX8_decide 30 = .ok (.aload_n 0, 1) := by decide +kernel
theorem dX8_decide_31 : decode cX8_decide 31 = .ok (.iload 6, 2) := by decide +kernel
theorem dX8_decide_33 : decode cX8_decide 33 = .ok (.invokevirtual 175, 3) := by decide +kernel
theorem dX8_decide_36 : decode cX8_decide 36 = .ok (.ireturn, 1) := by decide +kernel
def fn_my_decide  : Int32 := -5
abbrev rm_my_decide : Room := { frames := 2, cells := 0, slots := 0, locals := 46 }
abbrev po_my_decide (g : zz_G) (h0 : Nat) (a_kindOf : Nat) (a_depthOf : Nat) (a_lengthOf : Nat) (a_classOf : Nat) (a_baseOf : Nat) (a_bits : Nat) (a_pinned : Nat) (a_lengths : Nat) (a_stackArray : Nat) (a_stackOther : Nat) (a_stackAt : Nat) (a_path : Nat) (a_held : Nat) (a_alike : Nat) (a_hashes : Nat) (a_decisionArray : Nat) (a_decisionPlace : Nat) (a_candidateMany : Nat) (a_candidates : Nat) (a_ruleSort : Nat) (a_ruleArray : Nat) (a_ruleWeight : Nat) (a_ruleLow : Nat) (a_ruleHigh : Nat) (a_chosen : Nat) (a_bestOf : Nat) (a_markElements : Nat) (a_markBits : Nat) (a_markPins : Nat) (x1 : Int32) (x2 : Int32) (x3 : Int32) (x4 : Int32) (x5 : Int32) : Int32 → va_W → Prop := fun (r : Int32) (u : va_W) => r = fn_my_decide
set_option maxHeartbeats 4000000 in
set_option maxRecDepth 100000 in
theorem my_decide (g : zz_G) (h0 : Nat) (a_kindOf : Nat) (a_depthOf : Nat) (a_lengthOf : Nat) (a_classOf : Nat) (a_baseOf : Nat) (a_bits : Nat) (a_pinned : Nat) (a_lengths : Nat) (a_stackArray : Nat) (a_stackOther : Nat) (a_stackAt : Nat) (a_path : Nat) (a_held : Nat) (a_alike : Nat) (a_hashes : Nat) (a_decisionArray : Nat) (a_decisionPlace : Nat) (a_candidateMany : Nat) (a_candidates : Nat) (a_ruleSort : Nat) (a_ruleArray : Nat) (a_ruleWeight : Nat) (a_ruleLow : Nat) (a_ruleHigh : Nat) (a_chosen : Nat) (a_bestOf : Nat) (a_markElements : Nat) (a_markBits : Nat) (a_markPins : Nat) (x1 : Int32) (x2 : Int32) (x3 : Int32) (x4 : Int32) (x5 : Int32) : zz_I g yX8_decide (.code yX8_decide cX8_decide 8 (some .int)) rm_my_decide [.ref h0, .int x1, .int x2, .int x3, .int x4, .int x5] [(h0, .inr (7, [.int 0, .int 0, .ref a_kindOf, .ref a_depthOf, .ref a_lengthOf, .ref a_classOf, .ref a_baseOf, .ref a_bits, .ref a_pinned, .int 0, .ref a_lengths, .ref a_stackArray, .ref a_stackOther, .ref a_stackAt, .int 0, .int 0, .ref a_path, .ref a_held, .ref a_alike, .ref a_hashes, .int 0, .ref a_decisionArray, .ref a_decisionPlace, .ref a_candidateMany, .ref a_candidates, .int 0, .ref a_ruleSort, .ref a_ruleArray, .ref a_ruleWeight, .ref a_ruleLow, .ref a_ruleHigh, .ref a_chosen, .ref a_bestOf, .int 0, .ref a_markElements, .ref a_markBits, .ref a_markPins]))] (po_my_decide g h0 a_kindOf a_depthOf a_lengthOf a_classOf a_baseOf a_bits a_pinned a_lengths a_stackArray a_stackOther a_stackAt a_path a_held a_alike a_hashes a_decisionArray a_decisionPlace a_candidateMany a_candidates a_ruleSort a_ruleArray a_ruleWeight a_ruleLow a_ruleHigh a_chosen a_bestOf a_markElements a_markBits a_markPins x1 x2 x3 x4 x5) := by
  refine zz_I.intro (own := RX8) (cc := cX8_decide) (nL := 8) (by decide) rfl (Nat.le_of_ble_eq_true rfl) ?_
  intro p l e s m args below meth c A H locs ls hC hnm hZ hl
  obtain ⟨hx, hb, hml, hown, hts, hr, hlocks, hK⟩ := id hC
  have hl : lv_has ls 8 [(0, .ref h0), (1, .int x1), (2, .int x2), (3, .int x3), (4, .int x4), (5, .int x5)] := hl
  have hZ : zz_Z g A s.heap [(h0, .inr (7, [.int 0, .int 0, .ref a_kindOf, .ref a_depthOf, .ref a_lengthOf, .ref a_classOf, .ref a_baseOf, .ref a_bits, .ref a_pinned, .int 0, .ref a_lengths, .ref a_stackArray, .ref a_stackOther, .ref a_stackAt, .int 0, .int 0, .ref a_path, .ref a_held, .ref a_alike, .ref a_hashes, .int 0, .ref a_decisionArray, .ref a_decisionPlace, .ref a_candidateMany, .ref a_candidates, .int 0, .ref a_ruleSort, .ref a_ruleArray, .ref a_ruleWeight, .ref a_ruleLow, .ref a_ruleHigh, .ref a_chosen, .ref a_bestOf, .int 0, .ref a_markElements, .ref a_markBits, .ref a_markPins]))] H locs := hZ
  refine lv_aload_n hx hb dX8_decide_0 rfl (lv_at hl 0 rfl) ?_
  refine lv_iload_n hx hb dX8_decide_1 rfl (lv_at hl 1 rfl) ?_
  refine zz_iV (As := [.int x1]) (wc := [(h0, .inr (7, [.int 0, .int 0, .ref a_kindOf, .ref a_depthOf, .ref a_lengthOf, .ref a_classOf, .ref a_baseOf, .ref a_bits, .ref a_pinned, .int 0, .ref a_lengths, .ref a_stackArray, .ref a_stackOther, .ref a_stackAt, .int 0, .int 0, .ref a_path, .ref a_held, .ref a_alike, .ref a_hashes, .int 0, .ref a_decisionArray, .ref a_decisionPlace, .ref a_candidateMany, .ref a_candidates, .int 0, .ref a_ruleSort, .ref a_ruleArray, .ref a_ruleWeight, .ref a_ruleLow, .ref a_ruleHigh, .ref a_chosen, .ref a_bestOf, .int 0, .ref a_markElements, .ref a_markBits, .ref a_markPins]))]) (wr := []) (rest := []) hC hZ hl zc_X8_200 (cm_isArray0 g h0 a_kindOf a_depthOf a_lengthOf a_classOf a_baseOf a_bits a_pinned a_lengths a_stackArray a_stackOther a_stackAt a_path a_held a_alike a_hashes a_decisionArray a_decisionPlace a_candidateMany a_candidates a_ruleSort a_ruleArray a_ruleWeight a_ruleLow a_ruleHigh a_chosen a_bestOf a_markElements a_markBits a_markPins 0 0 0 0 0 0 0 x1) [0] [] rfl rfl (by decide) (ci := 7) (q0 := 0) rfl rfl rfl rfl (Nat.le_of_ble_eq_true rfl) ⟨⟨Nat.le_of_ble_eq_true rfl, Nat.le_of_ble_eq_true rfl⟩, Nat.le_of_ble_eq_true rfl, Nat.le_of_ble_eq_true rfl⟩ dX8_decide_2 (fun r1 u2 H locs hp hZ => ?_)
  obtain ⟨rfl, rfl⟩ := hp
  have hZ : zz_Z g A s.heap [(h0, .inr (7, [.int 0, .int 0, .ref a_kindOf, .ref a_depthOf, .ref a_lengthOf, .ref a_classOf, .ref a_baseOf, .ref a_bits, .ref a_pinned, .int 0, .ref a_lengths, .ref a_stackArray, .ref a_stackOther, .ref a_stackAt, .int 0, .int 0, .ref a_path, .ref a_held, .ref a_alike, .ref a_hashes, .int 0, .ref a_decisionArray, .ref a_decisionPlace, .ref a_candidateMany, .ref a_candidates, .int 0, .ref a_ruleSort, .ref a_ruleArray, .ref a_ruleWeight, .ref a_ruleLow, .ref a_ruleHigh, .ref a_chosen, .ref a_bestOf, .int 0, .ref a_markElements, .ref a_markBits, .ref a_markPins]))] H locs := hZ
  refine lv_if_ne (tgt := 12) hx hb dX8_decide_5 (by decide) (fun c => absurd (by decide) c) (fun c3 => ?_)
  refine lv_iconst (v := 5) hx hb dX8_decide_8 (by decide) ?_
  refine lv_goto (tgt := 23) hx hb dX8_decide_9 (by decide) ?_
  refine lv_istore (lv' := [(6, .int 5), (0, .ref h0), (1, .int x1), (2, .int x2), (3, .int x3), (4, .int x4), (5, .int x5)]) hx hb dX8_decide_23 hl (by decide) rfl (fun ls hl => ?_)
  refine lv_iload hx hb dX8_decide_25 (lv_at hl 0 rfl) ?_
  refine lv_if_le (tgt := 37) hx hb dX8_decide_27 (by decide) (fun c => absurd c (by decide)) (fun c4 => ?_)
  refine lv_aload_n hx hb dX8_decide_30 rfl (lv_at hl 1 rfl) ?_
  refine lv_iload hx hb dX8_decide_31 (lv_at hl 0 rfl) ?_
  refine zz_iV (As := [.int 5]) (wc := [(h0, .inr (7, [.int 0, .int 0, .ref a_kindOf, .ref a_depthOf, .ref a_lengthOf, .ref a_classOf, .ref a_baseOf, .ref a_bits, .ref a_pinned, .int 0, .ref a_lengths, .ref a_stackArray, .ref a_stackOther, .ref a_stackAt, .int 0, .int 0, .ref a_path, .ref a_held, .ref a_alike, .ref a_hashes, .int 0, .ref a_decisionArray, .ref a_decisionPlace, .ref a_candidateMany, .ref a_candidates, .int 0, .ref a_ruleSort, .ref a_ruleArray, .ref a_ruleWeight, .ref a_ruleLow, .ref a_ruleHigh, .ref a_chosen, .ref a_bestOf, .int 0, .ref a_markElements, .ref a_markBits, .ref a_markPins]))]) (wr := []) (rest := []) hC hZ hl zc_X8_175 (cm_fails g h0 a_kindOf a_depthOf a_lengthOf a_classOf a_baseOf a_bits a_pinned a_lengths a_stackArray a_stackOther a_stackAt a_path a_held a_alike a_hashes a_decisionArray a_decisionPlace a_candidateMany a_candidates a_ruleSort a_ruleArray a_ruleWeight a_ruleLow a_ruleHigh a_chosen a_bestOf a_markElements a_markBits a_markPins 0 0 0 0 0 0 0 0 5) [0] [] rfl rfl (by decide) (ci := 7) (q0 := 0) rfl rfl rfl rfl (Nat.le_of_ble_eq_true rfl) ⟨⟨Nat.le_of_ble_eq_true rfl, Nat.le_of_ble_eq_true rfl⟩, Nat.le_of_ble_eq_true rfl, Nat.le_of_ble_eq_true rfl⟩ dX8_decide_33 (fun r5 u6 H locs hp hZ => ?_)
  obtain ⟨rfl, rfl⟩ := hp
  have hZ : zz_Z g A s.heap [(h0, .inr (7, [.int 0, .int 0, .ref a_kindOf, .ref a_depthOf, .ref a_lengthOf, .ref a_classOf, .ref a_baseOf, .ref a_bits, .ref a_pinned, .int 5, .ref a_lengths, .ref a_stackArray, .ref a_stackOther, .ref a_stackAt, .int 0, .int 0, .ref a_path, .ref a_held, .ref a_alike, .ref a_hashes, .int 0, .ref a_decisionArray, .ref a_decisionPlace, .ref a_candidateMany, .ref a_candidates, .int 0, .ref a_ruleSort, .ref a_ruleArray, .ref a_ruleWeight, .ref a_ruleLow, .ref a_ruleHigh, .ref a_chosen, .ref a_bestOf, .int 0, .ref a_markElements, .ref a_markBits, .ref a_markPins]))] H locs := hZ
  exact zz_iret hC hZ (rfl) (Nat.le_of_ble_eq_true rfl) (Nat.le_of_ble_eq_true rfl) dX8_decide_36
theorem dX8_candidate_0 : decode cX8_candidate 0 = .ok (.aload_n 0, 1) := by decide +kernel
theorem dX8_candidate_1 : decode cX8_candidate 1 = .ok (.iload_n 1, 1) := by decide +kernel
theorem dX8_candidate_2 : decode cX8_candidate 2 = .ok (.invokevirtual 251, 3) := by decide +kernel
theorem zk_1040 : Cond.methodLink RX8 251 yX8_isDecision ∈ zz_w := zz_in (List.mem_append_right _ (List.mem_append_right _ (List.mem_append_right _ (List.mem_append_right _ (List.mem_append_right _ (List.mem_of_getElem? (i := 80) (by decide +kernel))))))) rfl
set_option maxRecDepth 20000 in
theorem zk_1043 : Cond.code yX8_isDecision cX8_isDecision 2 (some .boolean) ∈ zz_w := zz_in (List.mem_append_right _ (List.mem_append_right _ (List.mem_append_right _ (List.mem_append_right _ (List.mem_append_right _ (List.mem_of_getElem? (i := 83) (rfl))))))) rfl
theorem zk_1042 : Cond.instanceMethod yX8_isDecision ∈ zz_w := zz_in (List.mem_append_right _ (List.mem_append_right _ (List.mem_append_right _ (List.mem_append_right _ (List.mem_append_right _ (List.mem_of_getElem? (i := 82) (by decide +kernel))))))) rfl
theorem zs_29 : Cond.selects RX8 yX8_isDecision yX8_isDecision ∈ zz_w := zz_in (List.mem_append_left _ (List.mem_of_getElem? (i := 29) (by decide +kernel))) rfl
theorem zc_X8_251 : zz_cV RX8 251 yX8_isDecision cX8_isDecision 2 (some .boolean) 1 := ⟨⟨zk_1040, zk_1043, zk_7, by decide, by decide, by decide +kernel⟩, zk_1042, zs_29⟩
theorem dX8_candidate_5 : decode cX8_candidate 5 = .ok (.ifCond .eq 17, 3) := by decide +kernel
theorem dX8_candidate_22 : decode cX8_candidate 22 = .ok (.iconst 0, 1) := by decide +kernel
theorem dX8_candidate_23 : decode cX8_candidate 23 = .ok (.istore 4, 2) := by decide +kernel
theorem dX8_candidate_25 : decode cX8_candidate 25 = .ok (.aload_n 0, 1) := by decide +kernel
theorem dX8_candidate_26 : decode cX8_candidate 26 = .ok (.iload_n 1, 1) := by decide +kernel
theorem dX8_candidate_27 : decode cX8_candidate 27 = .ok (.invokevirtual 251, 3) := by decide +kernel
theorem dX8_candidate_30 : decode cX8_candidate 30 = .ok (.ifCond .eq 32, 3) := by decide +kernel
theorem dX8_candidate_62 : decode cX8_candidate 62 = .ok (.aload_n 0, 1) := by decide +kernel
theorem dX8_candidate_63 : decode cX8_candidate 63 = .ok (.bipush 9, 2) := by decide +kernel
theorem dX8_candidate_65 : decode cX8_candidate 65 = .ok (.invokevirtual 175, 3) := by decide +kernel
theorem dX8_candidate_68 : decode cX8_candidate 68 = .ok (.ireturn, 1) := by decide +kernel
def fn_my_candidate  : Int32 := -9
abbrev rm_my_candidate : Room := { frames := 2, cells := 0, slots := 0, locals := 46 }
abbrev po_my_candidate (g : zz_G) (h0 : Nat) (a_kindOf : Nat) (a_depthOf : Nat) (a_lengthOf : Nat) (a_classOf : Nat) (a_baseOf : Nat) (a_bits : Nat) (a_pinned : Nat) (a_lengths : Nat) (a_stackArray : Nat) (a_stackOther : Nat) (a_stackAt : Nat) (a_path : Nat) (a_held : Nat) (a_alike : Nat) (a_hashes : Nat) (a_decisionArray : Nat) (a_decisionPlace : Nat) (a_candidateMany : Nat) (a_candidates : Nat) (a_ruleSort : Nat) (a_ruleArray : Nat) (a_ruleWeight : Nat) (a_ruleLow : Nat) (a_ruleHigh : Nat) (a_chosen : Nat) (a_bestOf : Nat) (a_markElements : Nat) (a_markBits : Nat) (a_markPins : Nat) (x1 : Int32) (x2 : Int64) : Int32 → va_W → Prop := fun (r : Int32) (u : va_W) => r = fn_my_candidate
set_option maxHeartbeats 4000000 in
set_option maxRecDepth 100000 in
theorem my_candidate (g : zz_G) (h0 : Nat) (a_kindOf : Nat) (a_depthOf : Nat) (a_lengthOf : Nat) (a_classOf : Nat) (a_baseOf : Nat) (a_bits : Nat) (a_pinned : Nat) (a_lengths : Nat) (a_stackArray : Nat) (a_stackOther : Nat) (a_stackAt : Nat) (a_path : Nat) (a_held : Nat) (a_alike : Nat) (a_hashes : Nat) (a_decisionArray : Nat) (a_decisionPlace : Nat) (a_candidateMany : Nat) (a_candidates : Nat) (a_ruleSort : Nat) (a_ruleArray : Nat) (a_ruleWeight : Nat) (a_ruleLow : Nat) (a_ruleHigh : Nat) (a_chosen : Nat) (a_bestOf : Nat) (a_markElements : Nat) (a_markBits : Nat) (a_markPins : Nat) (x1 : Int32) (x2 : Int64) : zz_I g yX8_candidate (.code yX8_candidate cX8_candidate 5 (some .int)) rm_my_candidate [.ref h0, .int x1, .long x2] [(h0, .inr (7, [.int 0, .int 0, .ref a_kindOf, .ref a_depthOf, .ref a_lengthOf, .ref a_classOf, .ref a_baseOf, .ref a_bits, .ref a_pinned, .int 0, .ref a_lengths, .ref a_stackArray, .ref a_stackOther, .ref a_stackAt, .int 0, .int 0, .ref a_path, .ref a_held, .ref a_alike, .ref a_hashes, .int 0, .ref a_decisionArray, .ref a_decisionPlace, .ref a_candidateMany, .ref a_candidates, .int 0, .ref a_ruleSort, .ref a_ruleArray, .ref a_ruleWeight, .ref a_ruleLow, .ref a_ruleHigh, .ref a_chosen, .ref a_bestOf, .int 0, .ref a_markElements, .ref a_markBits, .ref a_markPins]))] (po_my_candidate g h0 a_kindOf a_depthOf a_lengthOf a_classOf a_baseOf a_bits a_pinned a_lengths a_stackArray a_stackOther a_stackAt a_path a_held a_alike a_hashes a_decisionArray a_decisionPlace a_candidateMany a_candidates a_ruleSort a_ruleArray a_ruleWeight a_ruleLow a_ruleHigh a_chosen a_bestOf a_markElements a_markBits a_markPins x1 x2) := by
  refine zz_I.intro (own := RX8) (cc := cX8_candidate) (nL := 5) (by decide) rfl (Nat.le_of_ble_eq_true rfl) ?_
  intro p l e s m args below meth c A H locs ls hC hnm hZ hl
  obtain ⟨hx, hb, hml, hown, hts, hr, hlocks, hK⟩ := id hC
  have hl : lv_has ls 5 [(0, .ref h0), (1, .int x1), (2, .long x2)] := hl
  have hZ : zz_Z g A s.heap [(h0, .inr (7, [.int 0, .int 0, .ref a_kindOf, .ref a_depthOf, .ref a_lengthOf, .ref a_classOf, .ref a_baseOf, .ref a_bits, .ref a_pinned, .int 0, .ref a_lengths, .ref a_stackArray, .ref a_stackOther, .ref a_stackAt, .int 0, .int 0, .ref a_path, .ref a_held, .ref a_alike, .ref a_hashes, .int 0, .ref a_decisionArray, .ref a_decisionPlace, .ref a_candidateMany, .ref a_candidates, .int 0, .ref a_ruleSort, .ref a_ruleArray, .ref a_ruleWeight, .ref a_ruleLow, .ref a_ruleHigh, .ref a_chosen, .ref a_bestOf, .int 0, .ref a_markElements, .ref a_markBits, .ref a_markPins]))] H locs := hZ
  refine lv_aload_n hx hb dX8_candidate_0 rfl (lv_at hl 0 rfl) ?_
  refine lv_iload_n hx hb dX8_candidate_1 rfl (lv_at hl 1 rfl) ?_
  refine zz_iV (As := [.int x1]) (wc := [(h0, .inr (7, [.int 0, .int 0, .ref a_kindOf, .ref a_depthOf, .ref a_lengthOf, .ref a_classOf, .ref a_baseOf, .ref a_bits, .ref a_pinned, .int 0, .ref a_lengths, .ref a_stackArray, .ref a_stackOther, .ref a_stackAt, .int 0, .int 0, .ref a_path, .ref a_held, .ref a_alike, .ref a_hashes, .int 0, .ref a_decisionArray, .ref a_decisionPlace, .ref a_candidateMany, .ref a_candidates, .int 0, .ref a_ruleSort, .ref a_ruleArray, .ref a_ruleWeight, .ref a_ruleLow, .ref a_ruleHigh, .ref a_chosen, .ref a_bestOf, .int 0, .ref a_markElements, .ref a_markBits, .ref a_markPins]))]) (wr := []) (rest := []) hC hZ hl zc_X8_251 (cm_isDecision0 g h0 a_kindOf a_depthOf a_lengthOf a_classOf a_baseOf a_bits a_pinned a_lengths a_stackArray a_stackOther a_stackAt a_path a_held a_alike a_hashes a_decisionArray a_decisionPlace a_candidateMany a_candidates a_ruleSort a_ruleArray a_ruleWeight a_ruleLow a_ruleHigh a_chosen a_bestOf a_markElements a_markBits a_markPins 0 0 0 0 0 0 0 x1) [0] [] rfl rfl (by decide) (ci := 7) (q0 := 0) rfl rfl rfl rfl (Nat.le_of_ble_eq_true rfl) ⟨⟨Nat.le_of_ble_eq_true rfl, Nat.le_of_ble_eq_true rfl⟩, Nat.le_of_ble_eq_true rfl, Nat.le_of_ble_eq_true rfl⟩ dX8_candidate_2 (fun r1 u2 H locs hp hZ => ?_)
  obtain ⟨rfl, rfl⟩ := hp
  have hZ : zz_Z g A s.heap [(h0, .inr (7, [.int 0, .int 0, .ref a_kindOf, .ref a_depthOf, .ref a_lengthOf, .ref a_classOf, .ref a_baseOf, .ref a_bits, .ref a_pinned, .int 0, .ref a_lengths, .ref a_stackArray, .ref a_stackOther, .ref a_stackAt, .int 0, .int 0, .ref a_path, .ref a_held, .ref a_alike, .ref a_hashes, .int 0, .ref a_decisionArray, .ref a_decisionPlace, .ref a_candidateMany, .ref a_candidates, .int 0, .ref a_ruleSort, .ref a_ruleArray, .ref a_ruleWeight, .ref a_ruleLow, .ref a_ruleHigh, .ref a_chosen, .ref a_bestOf, .int 0, .ref a_markElements, .ref a_markBits, .ref a_markPins]))] H locs := hZ
  refine lv_if_eq (tgt := 22) hx hb dX8_candidate_5 (by decide) (fun c3 => ?_) (fun c => absurd (by decide) c)
  refine lv_iconst (v := 0) hx hb dX8_candidate_22 (by decide) ?_
  refine lv_istore (lv' := [(4, .int 0), (0, .ref h0), (1, .int x1), (2, .long x2)]) hx hb dX8_candidate_23 hl (by decide) rfl (fun ls hl => ?_)
  refine lv_aload_n hx hb dX8_candidate_25 rfl (lv_at hl 1 rfl) ?_
  refine lv_iload_n hx hb dX8_candidate_26 rfl (lv_at hl 2 rfl) ?_
  refine zz_iV (As := [.int x1]) (wc := [(h0, .inr (7, [.int 0, .int 0, .ref a_kindOf, .ref a_depthOf, .ref a_lengthOf, .ref a_classOf, .ref a_baseOf, .ref a_bits, .ref a_pinned, .int 0, .ref a_lengths, .ref a_stackArray, .ref a_stackOther, .ref a_stackAt, .int 0, .int 0, .ref a_path, .ref a_held, .ref a_alike, .ref a_hashes, .int 0, .ref a_decisionArray, .ref a_decisionPlace, .ref a_candidateMany, .ref a_candidates, .int 0, .ref a_ruleSort, .ref a_ruleArray, .ref a_ruleWeight, .ref a_ruleLow, .ref a_ruleHigh, .ref a_chosen, .ref a_bestOf, .int 0, .ref a_markElements, .ref a_markBits, .ref a_markPins]))]) (wr := []) (rest := []) hC hZ hl zc_X8_251 (cm_isDecision0 g h0 a_kindOf a_depthOf a_lengthOf a_classOf a_baseOf a_bits a_pinned a_lengths a_stackArray a_stackOther a_stackAt a_path a_held a_alike a_hashes a_decisionArray a_decisionPlace a_candidateMany a_candidates a_ruleSort a_ruleArray a_ruleWeight a_ruleLow a_ruleHigh a_chosen a_bestOf a_markElements a_markBits a_markPins 0 0 0 0 0 0 0 x1) [0] [] rfl rfl (by decide) (ci := 7) (q0 := 0) rfl rfl rfl rfl (Nat.le_of_ble_eq_true rfl) ⟨⟨Nat.le_of_ble_eq_true rfl, Nat.le_of_ble_eq_true rfl⟩, Nat.le_of_ble_eq_true rfl, Nat.le_of_ble_eq_true rfl⟩ dX8_candidate_27 (fun r4 u5 H locs hp hZ => ?_)
  obtain ⟨rfl, rfl⟩ := hp
  have hZ : zz_Z g A s.heap [(h0, .inr (7, [.int 0, .int 0, .ref a_kindOf, .ref a_depthOf, .ref a_lengthOf, .ref a_classOf, .ref a_baseOf, .ref a_bits, .ref a_pinned, .int 0, .ref a_lengths, .ref a_stackArray, .ref a_stackOther, .ref a_stackAt, .int 0, .int 0, .ref a_path, .ref a_held, .ref a_alike, .ref a_hashes, .int 0, .ref a_decisionArray, .ref a_decisionPlace, .ref a_candidateMany, .ref a_candidates, .int 0, .ref a_ruleSort, .ref a_ruleArray, .ref a_ruleWeight, .ref a_ruleLow, .ref a_ruleHigh, .ref a_chosen, .ref a_bestOf, .int 0, .ref a_markElements, .ref a_markBits, .ref a_markPins]))] H locs := hZ
  refine lv_if_eq (tgt := 62) hx hb dX8_candidate_30 (by decide) (fun c6 => ?_) (fun c => absurd (by decide) c)
  refine lv_aload_n hx hb dX8_candidate_62 rfl (lv_at hl 1 rfl) ?_
  refine lv_bipush (v := 9) hx hb dX8_candidate_63 (by decide) ?_
  refine zz_iV (As := [.int 9]) (wc := [(h0, .inr (7, [.int 0, .int 0, .ref a_kindOf, .ref a_depthOf, .ref a_lengthOf, .ref a_classOf, .ref a_baseOf, .ref a_bits, .ref a_pinned, .int 0, .ref a_lengths, .ref a_stackArray, .ref a_stackOther, .ref a_stackAt, .int 0, .int 0, .ref a_path, .ref a_held, .ref a_alike, .ref a_hashes, .int 0, .ref a_decisionArray, .ref a_decisionPlace, .ref a_candidateMany, .ref a_candidates, .int 0, .ref a_ruleSort, .ref a_ruleArray, .ref a_ruleWeight, .ref a_ruleLow, .ref a_ruleHigh, .ref a_chosen, .ref a_bestOf, .int 0, .ref a_markElements, .ref a_markBits, .ref a_markPins]))]) (wr := []) (rest := []) hC hZ hl zc_X8_175 (cm_fails g h0 a_kindOf a_depthOf a_lengthOf a_classOf a_baseOf a_bits a_pinned a_lengths a_stackArray a_stackOther a_stackAt a_path a_held a_alike a_hashes a_decisionArray a_decisionPlace a_candidateMany a_candidates a_ruleSort a_ruleArray a_ruleWeight a_ruleLow a_ruleHigh a_chosen a_bestOf a_markElements a_markBits a_markPins 0 0 0 0 0 0 0 0 9) [0] [] rfl rfl (by decide) (ci := 7) (q0 := 0) rfl rfl rfl rfl (Nat.le_of_ble_eq_true rfl) ⟨⟨Nat.le_of_ble_eq_true rfl, Nat.le_of_ble_eq_true rfl⟩, Nat.le_of_ble_eq_true rfl, Nat.le_of_ble_eq_true rfl⟩ dX8_candidate_65 (fun r7 u8 H locs hp hZ => ?_)
  obtain ⟨rfl, rfl⟩ := hp
  have hZ : zz_Z g A s.heap [(h0, .inr (7, [.int 0, .int 0, .ref a_kindOf, .ref a_depthOf, .ref a_lengthOf, .ref a_classOf, .ref a_baseOf, .ref a_bits, .ref a_pinned, .int 9, .ref a_lengths, .ref a_stackArray, .ref a_stackOther, .ref a_stackAt, .int 0, .int 0, .ref a_path, .ref a_held, .ref a_alike, .ref a_hashes, .int 0, .ref a_decisionArray, .ref a_decisionPlace, .ref a_candidateMany, .ref a_candidates, .int 0, .ref a_ruleSort, .ref a_ruleArray, .ref a_ruleWeight, .ref a_ruleLow, .ref a_ruleHigh, .ref a_chosen, .ref a_bestOf, .int 0, .ref a_markElements, .ref a_markBits, .ref a_markPins]))] H locs := hZ
  exact zz_iret hC hZ (rfl) (Nat.le_of_ble_eq_true rfl) (Nat.le_of_ble_eq_true rfl) dX8_candidate_68
theorem dX8_span_0 : decode cX8_span 0 = .ok (.aload_n 0, 1) := by decide +kernel
theorem dX8_span_1 : decode cX8_span 1 = .ok (.iload_n 1, 1) := by decide +kernel
theorem dX8_span_2 : decode cX8_span 2 = .ok (.invokevirtual 251, 3) := by decide +kernel
theorem dX8_span_5 : decode cX8_span 5 = .ok (.ifCond .eq 17, 3) := by decide +kernel
theorem dX8_span_22 : decode cX8_span 22 = .ok (.iconst 0, 1) := by decide +kernel
theorem dX8_span_23 : decode cX8_span 23 = .ok (.istore 8, 2) := by decide +kernel
theorem dX8_span_25 : decode cX8_span 25 = .ok (.iload 8, 2) := by decide +kernel
theorem dX8_span_27 : decode cX8_span 27 = .ok (.i2l, 1) := by decide +kernel
theorem dX8_span_28 : decode cX8_span 28 = .ok (.lconst 1, 1) := by decide +kernel
theorem dX8_span_29 : decode cX8_span 29 = .ok (.ldc2_w 210, 3) := by decide +kernel
theorem zk_908 : Cond.constantLong RX8 210 (5) ∈ zz_w := zz_in (List.mem_append_right _ (List.mem_append_right _ (List.mem_append_right _ (List.mem_append_right _ (List.mem_append_left _ (List.mem_of_getElem? (i := 188) (by decide +kernel))))))) rfl
theorem dX8_span_32 : decode cX8_span 32 = .ok (.invokestatic 106, 3) := by decide +kernel
theorem dX8_span_35 : decode cX8_span 35 = .ok (.ifCond .eq 29, 3) := by decide +kernel
theorem dX8_span_64 : decode cX8_span 64 = .ok (.aload_n 0, 1) := by decide +kernel
theorem dX8_span_65 : decode cX8_span 65 = .ok (.bipush 9, 2) := by decide +kernel
theorem dX8_span_67 : decode cX8_span 67 = .ok (.invokevirtual 175, 3) := by decide +kernel
theorem dX8_span_70 : decode cX8_span 70 = .ok (.ireturn, 1) := by decide +kernel
def fn_my_span  : Int32 := -9
abbrev rm_my_span : Room := { frames := 2, cells := 0, slots := 0, locals := 46 }
abbrev po_my_span (g : zz_G) (h0 : Nat) (a_kindOf : Nat) (a_depthOf : Nat) (a_lengthOf : Nat) (a_classOf : Nat) (a_baseOf : Nat) (a_bits : Nat) (a_pinned : Nat) (a_lengths : Nat) (a_stackArray : Nat) (a_stackOther : Nat) (a_stackAt : Nat) (a_path : Nat) (a_held : Nat) (a_alike : Nat) (a_hashes : Nat) (a_decisionArray : Nat) (a_decisionPlace : Nat) (a_candidateMany : Nat) (a_candidates : Nat) (a_ruleSort : Nat) (a_ruleArray : Nat) (a_ruleWeight : Nat) (a_ruleLow : Nat) (a_ruleHigh : Nat) (a_chosen : Nat) (a_bestOf : Nat) (a_markElements : Nat) (a_markBits : Nat) (a_markPins : Nat) (x1 : Int32) (x2 : Int64) (x3 : Int64) (x4 : Int64) : Int32 → va_W → Prop := fun (r : Int32) (u : va_W) => r = fn_my_span
set_option maxHeartbeats 4000000 in
set_option maxRecDepth 100000 in
theorem my_span (g : zz_G) (h0 : Nat) (a_kindOf : Nat) (a_depthOf : Nat) (a_lengthOf : Nat) (a_classOf : Nat) (a_baseOf : Nat) (a_bits : Nat) (a_pinned : Nat) (a_lengths : Nat) (a_stackArray : Nat) (a_stackOther : Nat) (a_stackAt : Nat) (a_path : Nat) (a_held : Nat) (a_alike : Nat) (a_hashes : Nat) (a_decisionArray : Nat) (a_decisionPlace : Nat) (a_candidateMany : Nat) (a_candidates : Nat) (a_ruleSort : Nat) (a_ruleArray : Nat) (a_ruleWeight : Nat) (a_ruleLow : Nat) (a_ruleHigh : Nat) (a_chosen : Nat) (a_bestOf : Nat) (a_markElements : Nat) (a_markBits : Nat) (a_markPins : Nat) (x1 : Int32) (x2 : Int64) (x3 : Int64) (x4 : Int64) : zz_I g yX8_span (.code yX8_span cX8_span 13 (some .int)) rm_my_span [.ref h0, .int x1, .long x2, .long x3, .long x4] [(h0, .inr (7, [.int 0, .int 0, .ref a_kindOf, .ref a_depthOf, .ref a_lengthOf, .ref a_classOf, .ref a_baseOf, .ref a_bits, .ref a_pinned, .int 0, .ref a_lengths, .ref a_stackArray, .ref a_stackOther, .ref a_stackAt, .int 0, .int 0, .ref a_path, .ref a_held, .ref a_alike, .ref a_hashes, .int 0, .ref a_decisionArray, .ref a_decisionPlace, .ref a_candidateMany, .ref a_candidates, .int 0, .ref a_ruleSort, .ref a_ruleArray, .ref a_ruleWeight, .ref a_ruleLow, .ref a_ruleHigh, .ref a_chosen, .ref a_bestOf, .int 0, .ref a_markElements, .ref a_markBits, .ref a_markPins]))] (po_my_span g h0 a_kindOf a_depthOf a_lengthOf a_classOf a_baseOf a_bits a_pinned a_lengths a_stackArray a_stackOther a_stackAt a_path a_held a_alike a_hashes a_decisionArray a_decisionPlace a_candidateMany a_candidates a_ruleSort a_ruleArray a_ruleWeight a_ruleLow a_ruleHigh a_chosen a_bestOf a_markElements a_markBits a_markPins x1 x2 x3 x4) := by
  refine zz_I.intro (own := RX8) (cc := cX8_span) (nL := 13) (by decide) rfl (Nat.le_of_ble_eq_true rfl) ?_
  intro p l e s m args below meth c A H locs ls hC hnm hZ hl
  obtain ⟨hx, hb, hml, hown, hts, hr, hlocks, hK⟩ := id hC
  have hl : lv_has ls 13 [(0, .ref h0), (1, .int x1), (2, .long x2), (4, .long x3), (6, .long x4)] := hl
  have hZ : zz_Z g A s.heap [(h0, .inr (7, [.int 0, .int 0, .ref a_kindOf, .ref a_depthOf, .ref a_lengthOf, .ref a_classOf, .ref a_baseOf, .ref a_bits, .ref a_pinned, .int 0, .ref a_lengths, .ref a_stackArray, .ref a_stackOther, .ref a_stackAt, .int 0, .int 0, .ref a_path, .ref a_held, .ref a_alike, .ref a_hashes, .int 0, .ref a_decisionArray, .ref a_decisionPlace, .ref a_candidateMany, .ref a_candidates, .int 0, .ref a_ruleSort, .ref a_ruleArray, .ref a_ruleWeight, .ref a_ruleLow, .ref a_ruleHigh, .ref a_chosen, .ref a_bestOf, .int 0, .ref a_markElements, .ref a_markBits, .ref a_markPins]))] H locs := hZ
  refine lv_aload_n hx hb dX8_span_0 rfl (lv_at hl 0 rfl) ?_
  refine lv_iload_n hx hb dX8_span_1 rfl (lv_at hl 1 rfl) ?_
  refine zz_iV (As := [.int x1]) (wc := [(h0, .inr (7, [.int 0, .int 0, .ref a_kindOf, .ref a_depthOf, .ref a_lengthOf, .ref a_classOf, .ref a_baseOf, .ref a_bits, .ref a_pinned, .int 0, .ref a_lengths, .ref a_stackArray, .ref a_stackOther, .ref a_stackAt, .int 0, .int 0, .ref a_path, .ref a_held, .ref a_alike, .ref a_hashes, .int 0, .ref a_decisionArray, .ref a_decisionPlace, .ref a_candidateMany, .ref a_candidates, .int 0, .ref a_ruleSort, .ref a_ruleArray, .ref a_ruleWeight, .ref a_ruleLow, .ref a_ruleHigh, .ref a_chosen, .ref a_bestOf, .int 0, .ref a_markElements, .ref a_markBits, .ref a_markPins]))]) (wr := []) (rest := []) hC hZ hl zc_X8_251 (cm_isDecision0 g h0 a_kindOf a_depthOf a_lengthOf a_classOf a_baseOf a_bits a_pinned a_lengths a_stackArray a_stackOther a_stackAt a_path a_held a_alike a_hashes a_decisionArray a_decisionPlace a_candidateMany a_candidates a_ruleSort a_ruleArray a_ruleWeight a_ruleLow a_ruleHigh a_chosen a_bestOf a_markElements a_markBits a_markPins 0 0 0 0 0 0 0 x1) [0] [] rfl rfl (by decide) (ci := 7) (q0 := 0) rfl rfl rfl rfl (Nat.le_of_ble_eq_true rfl) ⟨⟨Nat.le_of_ble_eq_true rfl, Nat.le_of_ble_eq_true rfl⟩, Nat.le_of_ble_eq_true rfl, Nat.le_of_ble_eq_true rfl⟩ dX8_span_2 (fun r1 u2 H locs hp hZ => ?_)
  obtain ⟨rfl, rfl⟩ := hp
  have hZ : zz_Z g A s.heap [(h0, .inr (7, [.int 0, .int 0, .ref a_kindOf, .ref a_depthOf, .ref a_lengthOf, .ref a_classOf, .ref a_baseOf, .ref a_bits, .ref a_pinned, .int 0, .ref a_lengths, .ref a_stackArray, .ref a_stackOther, .ref a_stackAt, .int 0, .int 0, .ref a_path, .ref a_held, .ref a_alike, .ref a_hashes, .int 0, .ref a_decisionArray, .ref a_decisionPlace, .ref a_candidateMany, .ref a_candidates, .int 0, .ref a_ruleSort, .ref a_ruleArray, .ref a_ruleWeight, .ref a_ruleLow, .ref a_ruleHigh, .ref a_chosen, .ref a_bestOf, .int 0, .ref a_markElements, .ref a_markBits, .ref a_markPins]))] H locs := hZ
  refine lv_if_eq (tgt := 22) hx hb dX8_span_5 (by decide) (fun c3 => ?_) (fun c => absurd (by decide) c)
  refine lv_iconst (v := 0) hx hb dX8_span_22 (by decide) ?_
  refine lv_istore (lv' := [(8, .int 0), (0, .ref h0), (1, .int x1), (2, .long x2), (4, .long x3), (6, .long x4)]) hx hb dX8_span_23 hl (by decide) rfl (fun ls hl => ?_)
  refine lv_iload hx hb dX8_span_25 (lv_at hl 0 rfl) ?_
  refine lv_i2l (v := 0) hx hb dX8_span_27 (by decide) ?_
  refine lv_lconst (v := 1) hx hb dX8_span_28 (by decide) ?_
  refine lv_ldc2 hx hb hown (hts _ zk_908) dX8_span_29 ?_
  refine zz_iS (As := [.long 0, .long 1, .long 5]) (wc := []) (wr := [(h0, .inr (7, [.int 0, .int 0, .ref a_kindOf, .ref a_depthOf, .ref a_lengthOf, .ref a_classOf, .ref a_baseOf, .ref a_bits, .ref a_pinned, .int 0, .ref a_lengths, .ref a_stackArray, .ref a_stackOther, .ref a_stackAt, .int 0, .int 0, .ref a_path, .ref a_held, .ref a_alike, .ref a_hashes, .int 0, .ref a_decisionArray, .ref a_decisionPlace, .ref a_candidateMany, .ref a_candidates, .int 0, .ref a_ruleSort, .ref a_ruleArray, .ref a_ruleWeight, .ref a_ruleLow, .ref a_ruleHigh, .ref a_chosen, .ref a_bestOf, .int 0, .ref a_markElements, .ref a_markBits, .ref a_markPins]))]) (rest := []) hC hZ hl zc_X8_106 (cm_within g 0 1 5) [] [0] rfl rfl (by decide) rfl rfl (Nat.le_of_ble_eq_true rfl) ⟨⟨Nat.le_of_ble_eq_true rfl, Nat.le_of_ble_eq_true rfl⟩, Nat.le_of_ble_eq_true rfl, Nat.le_of_ble_eq_true rfl⟩ dX8_span_32 (fun r4 u5 H locs hp hZ => ?_)
  obtain ⟨rfl, rfl⟩ := hp
  have hZ : zz_Z g A s.heap [(h0, .inr (7, [.int 0, .int 0, .ref a_kindOf, .ref a_depthOf, .ref a_lengthOf, .ref a_classOf, .ref a_baseOf, .ref a_bits, .ref a_pinned, .int 0, .ref a_lengths, .ref a_stackArray, .ref a_stackOther, .ref a_stackAt, .int 0, .int 0, .ref a_path, .ref a_held, .ref a_alike, .ref a_hashes, .int 0, .ref a_decisionArray, .ref a_decisionPlace, .ref a_candidateMany, .ref a_candidates, .int 0, .ref a_ruleSort, .ref a_ruleArray, .ref a_ruleWeight, .ref a_ruleLow, .ref a_ruleHigh, .ref a_chosen, .ref a_bestOf, .int 0, .ref a_markElements, .ref a_markBits, .ref a_markPins]))] H locs := hZ
  refine zz_topi (v := 0) (by decide) ?_
  refine lv_if_eq (tgt := 64) hx hb dX8_span_35 (by decide) (fun c6 => ?_) (fun c => absurd (by decide) c)
  refine lv_aload_n hx hb dX8_span_64 rfl (lv_at hl 1 rfl) ?_
  refine lv_bipush (v := 9) hx hb dX8_span_65 (by decide) ?_
  refine zz_iV (As := [.int 9]) (wc := [(h0, .inr (7, [.int 0, .int 0, .ref a_kindOf, .ref a_depthOf, .ref a_lengthOf, .ref a_classOf, .ref a_baseOf, .ref a_bits, .ref a_pinned, .int 0, .ref a_lengths, .ref a_stackArray, .ref a_stackOther, .ref a_stackAt, .int 0, .int 0, .ref a_path, .ref a_held, .ref a_alike, .ref a_hashes, .int 0, .ref a_decisionArray, .ref a_decisionPlace, .ref a_candidateMany, .ref a_candidates, .int 0, .ref a_ruleSort, .ref a_ruleArray, .ref a_ruleWeight, .ref a_ruleLow, .ref a_ruleHigh, .ref a_chosen, .ref a_bestOf, .int 0, .ref a_markElements, .ref a_markBits, .ref a_markPins]))]) (wr := []) (rest := []) hC hZ hl zc_X8_175 (cm_fails g h0 a_kindOf a_depthOf a_lengthOf a_classOf a_baseOf a_bits a_pinned a_lengths a_stackArray a_stackOther a_stackAt a_path a_held a_alike a_hashes a_decisionArray a_decisionPlace a_candidateMany a_candidates a_ruleSort a_ruleArray a_ruleWeight a_ruleLow a_ruleHigh a_chosen a_bestOf a_markElements a_markBits a_markPins 0 0 0 0 0 0 0 0 9) [0] [] rfl rfl (by decide) (ci := 7) (q0 := 0) rfl rfl rfl rfl (Nat.le_of_ble_eq_true rfl) ⟨⟨Nat.le_of_ble_eq_true rfl, Nat.le_of_ble_eq_true rfl⟩, Nat.le_of_ble_eq_true rfl, Nat.le_of_ble_eq_true rfl⟩ dX8_span_67 (fun r7 u8 H locs hp hZ => ?_)
  obtain ⟨rfl, rfl⟩ := hp
  have hZ : zz_Z g A s.heap [(h0, .inr (7, [.int 0, .int 0, .ref a_kindOf, .ref a_depthOf, .ref a_lengthOf, .ref a_classOf, .ref a_baseOf, .ref a_bits, .ref a_pinned, .int 9, .ref a_lengths, .ref a_stackArray, .ref a_stackOther, .ref a_stackAt, .int 0, .int 0, .ref a_path, .ref a_held, .ref a_alike, .ref a_hashes, .int 0, .ref a_decisionArray, .ref a_decisionPlace, .ref a_candidateMany, .ref a_candidates, .int 0, .ref a_ruleSort, .ref a_ruleArray, .ref a_ruleWeight, .ref a_ruleLow, .ref a_ruleHigh, .ref a_chosen, .ref a_bestOf, .int 0, .ref a_markElements, .ref a_markBits, .ref a_markPins]))] H locs := hZ
  exact zz_iret hC hZ (rfl) (Nat.le_of_ble_eq_true rfl) (Nat.le_of_ble_eq_true rfl) dX8_span_70
theorem dX8_choose_0 : decode cX8_choose 0 = .ok (.aload_n 0, 1) := by decide +kernel
theorem dX8_choose_1 : decode cX8_choose 1 = .ok (.iload_n 1, 1) := by decide +kernel
theorem dX8_choose_2 : decode cX8_choose 2 = .ok (.invokevirtual 251, 3) := by decide +kernel
theorem dX8_choose_5 : decode cX8_choose 5 = .ok (.ifCond .eq 21, 3) := by decide +kernel
theorem dX8_choose_26 : decode cX8_choose 26 = .ok (.aload_n 0, 1) := by decide +kernel
theorem dX8_choose_27 : decode cX8_choose 27 = .ok (.bipush 9, 2) := by decide +kernel
theorem dX8_choose_29 : decode cX8_choose 29 = .ok (.invokevirtual 175, 3) := by decide +kernel
theorem dX8_choose_32 : decode cX8_choose 32 = .ok (.ireturn, 1) := by decide +kernel
def fn_my_choose  : Int32 := -9
abbrev rm_my_choose : Room := { frames := 2, cells := 0, slots := 0, locals := 46 }
abbrev po_my_choose (g : zz_G) (h0 : Nat) (a_kindOf : Nat) (a_depthOf : Nat) (a_lengthOf : Nat) (a_classOf : Nat) (a_baseOf : Nat) (a_bits : Nat) (a_pinned : Nat) (a_lengths : Nat) (a_stackArray : Nat) (a_stackOther : Nat) (a_stackAt : Nat) (a_path : Nat) (a_held : Nat) (a_alike : Nat) (a_hashes : Nat) (a_decisionArray : Nat) (a_decisionPlace : Nat) (a_candidateMany : Nat) (a_candidates : Nat) (a_ruleSort : Nat) (a_ruleArray : Nat) (a_ruleWeight : Nat) (a_ruleLow : Nat) (a_ruleHigh : Nat) (a_chosen : Nat) (a_bestOf : Nat) (a_markElements : Nat) (a_markBits : Nat) (a_markPins : Nat) (x1 : Int32) (x2 : Int32) : Int32 → va_W → Prop := fun (r : Int32) (u : va_W) => r = fn_my_choose
set_option maxHeartbeats 4000000 in
set_option maxRecDepth 100000 in
theorem my_choose (g : zz_G) (h0 : Nat) (a_kindOf : Nat) (a_depthOf : Nat) (a_lengthOf : Nat) (a_classOf : Nat) (a_baseOf : Nat) (a_bits : Nat) (a_pinned : Nat) (a_lengths : Nat) (a_stackArray : Nat) (a_stackOther : Nat) (a_stackAt : Nat) (a_path : Nat) (a_held : Nat) (a_alike : Nat) (a_hashes : Nat) (a_decisionArray : Nat) (a_decisionPlace : Nat) (a_candidateMany : Nat) (a_candidates : Nat) (a_ruleSort : Nat) (a_ruleArray : Nat) (a_ruleWeight : Nat) (a_ruleLow : Nat) (a_ruleHigh : Nat) (a_chosen : Nat) (a_bestOf : Nat) (a_markElements : Nat) (a_markBits : Nat) (a_markPins : Nat) (x1 : Int32) (x2 : Int32) : zz_I g yX8_choose (.code yX8_choose cX8_choose 3 (some .int)) rm_my_choose [.ref h0, .int x1, .int x2] [(h0, .inr (7, [.int 0, .int 0, .ref a_kindOf, .ref a_depthOf, .ref a_lengthOf, .ref a_classOf, .ref a_baseOf, .ref a_bits, .ref a_pinned, .int 0, .ref a_lengths, .ref a_stackArray, .ref a_stackOther, .ref a_stackAt, .int 0, .int 0, .ref a_path, .ref a_held, .ref a_alike, .ref a_hashes, .int 0, .ref a_decisionArray, .ref a_decisionPlace, .ref a_candidateMany, .ref a_candidates, .int 0, .ref a_ruleSort, .ref a_ruleArray, .ref a_ruleWeight, .ref a_ruleLow, .ref a_ruleHigh, .ref a_chosen, .ref a_bestOf, .int 0, .ref a_markElements, .ref a_markBits, .ref a_markPins]))] (po_my_choose g h0 a_kindOf a_depthOf a_lengthOf a_classOf a_baseOf a_bits a_pinned a_lengths a_stackArray a_stackOther a_stackAt a_path a_held a_alike a_hashes a_decisionArray a_decisionPlace a_candidateMany a_candidates a_ruleSort a_ruleArray a_ruleWeight a_ruleLow a_ruleHigh a_chosen a_bestOf a_markElements a_markBits a_markPins x1 x2) := by
  refine zz_I.intro (own := RX8) (cc := cX8_choose) (nL := 3) (by decide) rfl (Nat.le_of_ble_eq_true rfl) ?_
  intro p l e s m args below meth c A H locs ls hC hnm hZ hl
  obtain ⟨hx, hb, hml, hown, hts, hr, hlocks, hK⟩ := id hC
  have hl : lv_has ls 3 [(0, .ref h0), (1, .int x1), (2, .int x2)] := hl
  have hZ : zz_Z g A s.heap [(h0, .inr (7, [.int 0, .int 0, .ref a_kindOf, .ref a_depthOf, .ref a_lengthOf, .ref a_classOf, .ref a_baseOf, .ref a_bits, .ref a_pinned, .int 0, .ref a_lengths, .ref a_stackArray, .ref a_stackOther, .ref a_stackAt, .int 0, .int 0, .ref a_path, .ref a_held, .ref a_alike, .ref a_hashes, .int 0, .ref a_decisionArray, .ref a_decisionPlace, .ref a_candidateMany, .ref a_candidates, .int 0, .ref a_ruleSort, .ref a_ruleArray, .ref a_ruleWeight, .ref a_ruleLow, .ref a_ruleHigh, .ref a_chosen, .ref a_bestOf, .int 0, .ref a_markElements, .ref a_markBits, .ref a_markPins]))] H locs := hZ
  refine lv_aload_n hx hb dX8_choose_0 rfl (lv_at hl 0 rfl) ?_
  refine lv_iload_n hx hb dX8_choose_1 rfl (lv_at hl 1 rfl) ?_
  refine zz_iV (As := [.int x1]) (wc := [(h0, .inr (7, [.int 0, .int 0, .ref a_kindOf, .ref a_depthOf, .ref a_lengthOf, .ref a_classOf, .ref a_baseOf, .ref a_bits, .ref a_pinned, .int 0, .ref a_lengths, .ref a_stackArray, .ref a_stackOther, .ref a_stackAt, .int 0, .int 0, .ref a_path, .ref a_held, .ref a_alike, .ref a_hashes, .int 0, .ref a_decisionArray, .ref a_decisionPlace, .ref a_candidateMany, .ref a_candidates, .int 0, .ref a_ruleSort, .ref a_ruleArray, .ref a_ruleWeight, .ref a_ruleLow, .ref a_ruleHigh, .ref a_chosen, .ref a_bestOf, .int 0, .ref a_markElements, .ref a_markBits, .ref a_markPins]))]) (wr := []) (rest := []) hC hZ hl zc_X8_251 (cm_isDecision0 g h0 a_kindOf a_depthOf a_lengthOf a_classOf a_baseOf a_bits a_pinned a_lengths a_stackArray a_stackOther a_stackAt a_path a_held a_alike a_hashes a_decisionArray a_decisionPlace a_candidateMany a_candidates a_ruleSort a_ruleArray a_ruleWeight a_ruleLow a_ruleHigh a_chosen a_bestOf a_markElements a_markBits a_markPins 0 0 0 0 0 0 0 x1) [0] [] rfl rfl (by decide) (ci := 7) (q0 := 0) rfl rfl rfl rfl (Nat.le_of_ble_eq_true rfl) ⟨⟨Nat.le_of_ble_eq_true rfl, Nat.le_of_ble_eq_true rfl⟩, Nat.le_of_ble_eq_true rfl, Nat.le_of_ble_eq_true rfl⟩ dX8_choose_2 (fun r1 u2 H locs hp hZ => ?_)
  obtain ⟨rfl, rfl⟩ := hp
  have hZ : zz_Z g A s.heap [(h0, .inr (7, [.int 0, .int 0, .ref a_kindOf, .ref a_depthOf, .ref a_lengthOf, .ref a_classOf, .ref a_baseOf, .ref a_bits, .ref a_pinned, .int 0, .ref a_lengths, .ref a_stackArray, .ref a_stackOther, .ref a_stackAt, .int 0, .int 0, .ref a_path, .ref a_held, .ref a_alike, .ref a_hashes, .int 0, .ref a_decisionArray, .ref a_decisionPlace, .ref a_candidateMany, .ref a_candidates, .int 0, .ref a_ruleSort, .ref a_ruleArray, .ref a_ruleWeight, .ref a_ruleLow, .ref a_ruleHigh, .ref a_chosen, .ref a_bestOf, .int 0, .ref a_markElements, .ref a_markBits, .ref a_markPins]))] H locs := hZ
  refine lv_if_eq (tgt := 26) hx hb dX8_choose_5 (by decide) (fun c3 => ?_) (fun c => absurd (by decide) c)
  refine lv_aload_n hx hb dX8_choose_26 rfl (lv_at hl 0 rfl) ?_
  refine lv_bipush (v := 9) hx hb dX8_choose_27 (by decide) ?_
  refine zz_iV (As := [.int 9]) (wc := [(h0, .inr (7, [.int 0, .int 0, .ref a_kindOf, .ref a_depthOf, .ref a_lengthOf, .ref a_classOf, .ref a_baseOf, .ref a_bits, .ref a_pinned, .int 0, .ref a_lengths, .ref a_stackArray, .ref a_stackOther, .ref a_stackAt, .int 0, .int 0, .ref a_path, .ref a_held, .ref a_alike, .ref a_hashes, .int 0, .ref a_decisionArray, .ref a_decisionPlace, .ref a_candidateMany, .ref a_candidates, .int 0, .ref a_ruleSort, .ref a_ruleArray, .ref a_ruleWeight, .ref a_ruleLow, .ref a_ruleHigh, .ref a_chosen, .ref a_bestOf, .int 0, .ref a_markElements, .ref a_markBits, .ref a_markPins]))]) (wr := []) (rest := []) hC hZ hl zc_X8_175 (cm_fails g h0 a_kindOf a_depthOf a_lengthOf a_classOf a_baseOf a_bits a_pinned a_lengths a_stackArray a_stackOther a_stackAt a_path a_held a_alike a_hashes a_decisionArray a_decisionPlace a_candidateMany a_candidates a_ruleSort a_ruleArray a_ruleWeight a_ruleLow a_ruleHigh a_chosen a_bestOf a_markElements a_markBits a_markPins 0 0 0 0 0 0 0 0 9) [0] [] rfl rfl (by decide) (ci := 7) (q0 := 0) rfl rfl rfl rfl (Nat.le_of_ble_eq_true rfl) ⟨⟨Nat.le_of_ble_eq_true rfl, Nat.le_of_ble_eq_true rfl⟩, Nat.le_of_ble_eq_true rfl, Nat.le_of_ble_eq_true rfl⟩ dX8_choose_29 (fun r4 u5 H locs hp hZ => ?_)
  obtain ⟨rfl, rfl⟩ := hp
  have hZ : zz_Z g A s.heap [(h0, .inr (7, [.int 0, .int 0, .ref a_kindOf, .ref a_depthOf, .ref a_lengthOf, .ref a_classOf, .ref a_baseOf, .ref a_bits, .ref a_pinned, .int 9, .ref a_lengths, .ref a_stackArray, .ref a_stackOther, .ref a_stackAt, .int 0, .int 0, .ref a_path, .ref a_held, .ref a_alike, .ref a_hashes, .int 0, .ref a_decisionArray, .ref a_decisionPlace, .ref a_candidateMany, .ref a_candidates, .int 0, .ref a_ruleSort, .ref a_ruleArray, .ref a_ruleWeight, .ref a_ruleLow, .ref a_ruleHigh, .ref a_chosen, .ref a_bestOf, .int 0, .ref a_markElements, .ref a_markBits, .ref a_markPins]))] H locs := hZ
  exact zz_iret hC hZ (rfl) (Nat.le_of_ble_eq_true rfl) (Nat.le_of_ble_eq_true rfl) dX8_choose_32
theorem dX8_decision_0 : decode cX8_decision 0 = .ok (.aload_n 0, 1) := by decide +kernel
theorem dX8_decision_1 : decode cX8_decision 1 = .ok (.iload_n 1, 1) := by decide +kernel
theorem dX8_decision_2 : decode cX8_decision 2 = .ok (.invokevirtual 251, 3) := by decide +kernel
theorem dX8_decision_5 : decode cX8_decision 5 = .ok (.ifCond .eq 15, 3) := by decide +kernel
theorem dX8_decision_20 : decode cX8_decision 20 = .ok (.aload_n 0, 1) := by decide +kernel
theorem dX8_decision_21 : decode cX8_decision 21 = .ok (.bipush 9, 2) := by decide +kernel
theorem dX8_decision_23 : decode cX8_decision 23 = .ok (.invokevirtual 175, 3) := by decide +kernel
theorem dX8_decision_26 : decode cX8_decision 26 = .ok (.ireturn, 1) := by decide +kernel
def fn_my_decision  : Int32 := -9
abbrev rm_my_decision : Room := { frames := 2, cells := 0, slots := 0, locals := 46 }
abbrev po_my_decision (g : zz_G) (h0 : Nat) (a_kindOf : Nat) (a_depthOf : Nat) (a_lengthOf : Nat) (a_classOf : Nat) (a_baseOf : Nat) (a_bits : Nat) (a_pinned : Nat) (a_lengths : Nat) (a_stackArray : Nat) (a_stackOther : Nat) (a_stackAt : Nat) (a_path : Nat) (a_held : Nat) (a_alike : Nat) (a_hashes : Nat) (a_decisionArray : Nat) (a_decisionPlace : Nat) (a_candidateMany : Nat) (a_candidates : Nat) (a_ruleSort : Nat) (a_ruleArray : Nat) (a_ruleWeight : Nat) (a_ruleLow : Nat) (a_ruleHigh : Nat) (a_chosen : Nat) (a_bestOf : Nat) (a_markElements : Nat) (a_markBits : Nat) (a_markPins : Nat) (x1 : Int32) (x2 : Int32) : Int32 → va_W → Prop := fun (r : Int32) (u : va_W) => r = fn_my_decision
set_option maxHeartbeats 4000000 in
set_option maxRecDepth 100000 in
theorem my_decision (g : zz_G) (h0 : Nat) (a_kindOf : Nat) (a_depthOf : Nat) (a_lengthOf : Nat) (a_classOf : Nat) (a_baseOf : Nat) (a_bits : Nat) (a_pinned : Nat) (a_lengths : Nat) (a_stackArray : Nat) (a_stackOther : Nat) (a_stackAt : Nat) (a_path : Nat) (a_held : Nat) (a_alike : Nat) (a_hashes : Nat) (a_decisionArray : Nat) (a_decisionPlace : Nat) (a_candidateMany : Nat) (a_candidates : Nat) (a_ruleSort : Nat) (a_ruleArray : Nat) (a_ruleWeight : Nat) (a_ruleLow : Nat) (a_ruleHigh : Nat) (a_chosen : Nat) (a_bestOf : Nat) (a_markElements : Nat) (a_markBits : Nat) (a_markPins : Nat) (x1 : Int32) (x2 : Int32) : zz_I g yX8_decision (.code yX8_decision cX8_decision 3 (some .int)) rm_my_decision [.ref h0, .int x1, .int x2] [(h0, .inr (7, [.int 0, .int 0, .ref a_kindOf, .ref a_depthOf, .ref a_lengthOf, .ref a_classOf, .ref a_baseOf, .ref a_bits, .ref a_pinned, .int 0, .ref a_lengths, .ref a_stackArray, .ref a_stackOther, .ref a_stackAt, .int 0, .int 0, .ref a_path, .ref a_held, .ref a_alike, .ref a_hashes, .int 0, .ref a_decisionArray, .ref a_decisionPlace, .ref a_candidateMany, .ref a_candidates, .int 0, .ref a_ruleSort, .ref a_ruleArray, .ref a_ruleWeight, .ref a_ruleLow, .ref a_ruleHigh, .ref a_chosen, .ref a_bestOf, .int 0, .ref a_markElements, .ref a_markBits, .ref a_markPins]))] (po_my_decision g h0 a_kindOf a_depthOf a_lengthOf a_classOf a_baseOf a_bits a_pinned a_lengths a_stackArray a_stackOther a_stackAt a_path a_held a_alike a_hashes a_decisionArray a_decisionPlace a_candidateMany a_candidates a_ruleSort a_ruleArray a_ruleWeight a_ruleLow a_ruleHigh a_chosen a_bestOf a_markElements a_markBits a_markPins x1 x2) := by
  refine zz_I.intro (own := RX8) (cc := cX8_decision) (nL := 3) (by decide) rfl (Nat.le_of_ble_eq_true rfl) ?_
  intro p l e s m args below meth c A H locs ls hC hnm hZ hl
  obtain ⟨hx, hb, hml, hown, hts, hr, hlocks, hK⟩ := id hC
  have hl : lv_has ls 3 [(0, .ref h0), (1, .int x1), (2, .int x2)] := hl
  have hZ : zz_Z g A s.heap [(h0, .inr (7, [.int 0, .int 0, .ref a_kindOf, .ref a_depthOf, .ref a_lengthOf, .ref a_classOf, .ref a_baseOf, .ref a_bits, .ref a_pinned, .int 0, .ref a_lengths, .ref a_stackArray, .ref a_stackOther, .ref a_stackAt, .int 0, .int 0, .ref a_path, .ref a_held, .ref a_alike, .ref a_hashes, .int 0, .ref a_decisionArray, .ref a_decisionPlace, .ref a_candidateMany, .ref a_candidates, .int 0, .ref a_ruleSort, .ref a_ruleArray, .ref a_ruleWeight, .ref a_ruleLow, .ref a_ruleHigh, .ref a_chosen, .ref a_bestOf, .int 0, .ref a_markElements, .ref a_markBits, .ref a_markPins]))] H locs := hZ
  refine lv_aload_n hx hb dX8_decision_0 rfl (lv_at hl 0 rfl) ?_
  refine lv_iload_n hx hb dX8_decision_1 rfl (lv_at hl 1 rfl) ?_
  refine zz_iV (As := [.int x1]) (wc := [(h0, .inr (7, [.int 0, .int 0, .ref a_kindOf, .ref a_depthOf, .ref a_lengthOf, .ref a_classOf, .ref a_baseOf, .ref a_bits, .ref a_pinned, .int 0, .ref a_lengths, .ref a_stackArray, .ref a_stackOther, .ref a_stackAt, .int 0, .int 0, .ref a_path, .ref a_held, .ref a_alike, .ref a_hashes, .int 0, .ref a_decisionArray, .ref a_decisionPlace, .ref a_candidateMany, .ref a_candidates, .int 0, .ref a_ruleSort, .ref a_ruleArray, .ref a_ruleWeight, .ref a_ruleLow, .ref a_ruleHigh, .ref a_chosen, .ref a_bestOf, .int 0, .ref a_markElements, .ref a_markBits, .ref a_markPins]))]) (wr := []) (rest := []) hC hZ hl zc_X8_251 (cm_isDecision0 g h0 a_kindOf a_depthOf a_lengthOf a_classOf a_baseOf a_bits a_pinned a_lengths a_stackArray a_stackOther a_stackAt a_path a_held a_alike a_hashes a_decisionArray a_decisionPlace a_candidateMany a_candidates a_ruleSort a_ruleArray a_ruleWeight a_ruleLow a_ruleHigh a_chosen a_bestOf a_markElements a_markBits a_markPins 0 0 0 0 0 0 0 x1) [0] [] rfl rfl (by decide) (ci := 7) (q0 := 0) rfl rfl rfl rfl (Nat.le_of_ble_eq_true rfl) ⟨⟨Nat.le_of_ble_eq_true rfl, Nat.le_of_ble_eq_true rfl⟩, Nat.le_of_ble_eq_true rfl, Nat.le_of_ble_eq_true rfl⟩ dX8_decision_2 (fun r1 u2 H locs hp hZ => ?_)
  obtain ⟨rfl, rfl⟩ := hp
  have hZ : zz_Z g A s.heap [(h0, .inr (7, [.int 0, .int 0, .ref a_kindOf, .ref a_depthOf, .ref a_lengthOf, .ref a_classOf, .ref a_baseOf, .ref a_bits, .ref a_pinned, .int 0, .ref a_lengths, .ref a_stackArray, .ref a_stackOther, .ref a_stackAt, .int 0, .int 0, .ref a_path, .ref a_held, .ref a_alike, .ref a_hashes, .int 0, .ref a_decisionArray, .ref a_decisionPlace, .ref a_candidateMany, .ref a_candidates, .int 0, .ref a_ruleSort, .ref a_ruleArray, .ref a_ruleWeight, .ref a_ruleLow, .ref a_ruleHigh, .ref a_chosen, .ref a_bestOf, .int 0, .ref a_markElements, .ref a_markBits, .ref a_markPins]))] H locs := hZ
  refine lv_if_eq (tgt := 20) hx hb dX8_decision_5 (by decide) (fun c3 => ?_) (fun c => absurd (by decide) c)
  refine lv_aload_n hx hb dX8_decision_20 rfl (lv_at hl 0 rfl) ?_
  refine lv_bipush (v := 9) hx hb dX8_decision_21 (by decide) ?_
  refine zz_iV (As := [.int 9]) (wc := [(h0, .inr (7, [.int 0, .int 0, .ref a_kindOf, .ref a_depthOf, .ref a_lengthOf, .ref a_classOf, .ref a_baseOf, .ref a_bits, .ref a_pinned, .int 0, .ref a_lengths, .ref a_stackArray, .ref a_stackOther, .ref a_stackAt, .int 0, .int 0, .ref a_path, .ref a_held, .ref a_alike, .ref a_hashes, .int 0, .ref a_decisionArray, .ref a_decisionPlace, .ref a_candidateMany, .ref a_candidates, .int 0, .ref a_ruleSort, .ref a_ruleArray, .ref a_ruleWeight, .ref a_ruleLow, .ref a_ruleHigh, .ref a_chosen, .ref a_bestOf, .int 0, .ref a_markElements, .ref a_markBits, .ref a_markPins]))]) (wr := []) (rest := []) hC hZ hl zc_X8_175 (cm_fails g h0 a_kindOf a_depthOf a_lengthOf a_classOf a_baseOf a_bits a_pinned a_lengths a_stackArray a_stackOther a_stackAt a_path a_held a_alike a_hashes a_decisionArray a_decisionPlace a_candidateMany a_candidates a_ruleSort a_ruleArray a_ruleWeight a_ruleLow a_ruleHigh a_chosen a_bestOf a_markElements a_markBits a_markPins 0 0 0 0 0 0 0 0 9) [0] [] rfl rfl (by decide) (ci := 7) (q0 := 0) rfl rfl rfl rfl (Nat.le_of_ble_eq_true rfl) ⟨⟨Nat.le_of_ble_eq_true rfl, Nat.le_of_ble_eq_true rfl⟩, Nat.le_of_ble_eq_true rfl, Nat.le_of_ble_eq_true rfl⟩ dX8_decision_23 (fun r4 u5 H locs hp hZ => ?_)
  obtain ⟨rfl, rfl⟩ := hp
  have hZ : zz_Z g A s.heap [(h0, .inr (7, [.int 0, .int 0, .ref a_kindOf, .ref a_depthOf, .ref a_lengthOf, .ref a_classOf, .ref a_baseOf, .ref a_bits, .ref a_pinned, .int 9, .ref a_lengths, .ref a_stackArray, .ref a_stackOther, .ref a_stackAt, .int 0, .int 0, .ref a_path, .ref a_held, .ref a_alike, .ref a_hashes, .int 0, .ref a_decisionArray, .ref a_decisionPlace, .ref a_candidateMany, .ref a_candidates, .int 0, .ref a_ruleSort, .ref a_ruleArray, .ref a_ruleWeight, .ref a_ruleLow, .ref a_ruleHigh, .ref a_chosen, .ref a_bestOf, .int 0, .ref a_markElements, .ref a_markBits, .ref a_markPins]))] H locs := hZ
  exact zz_iret hC hZ (rfl) (Nat.le_of_ble_eq_true rfl) (Nat.le_of_ble_eq_true rfl) dX8_decision_26
theorem dX8_candidateOf_0 : decode cX8_candidateOf 0 = .ok (.aload_n 0, 1) := by decide +kernel
theorem dX8_candidateOf_1 : decode cX8_candidateOf 1 = .ok (.iload_n 1, 1) := by decide +kernel
theorem dX8_candidateOf_2 : decode cX8_candidateOf 2 = .ok (.invokevirtual 251, 3) := by decide +kernel
theorem dX8_candidateOf_5 : decode cX8_candidateOf 5 = .ok (.ifCond .eq 21, 3) := by decide +kernel
theorem dX8_candidateOf_26 : decode cX8_candidateOf 26 = .ok (.aload_n 0, 1) := by decide +kernel
theorem dX8_candidateOf_27 : decode cX8_candidateOf 27 = .ok (.bipush 9, 2) := by decide +kernel
theorem dX8_candidateOf_29 : decode cX8_candidateOf 29 = .ok (.putfield 99, 3) := by decide +kernel
theorem dX8_candidateOf_32 : decode cX8_candidateOf 32 = .ok (.lconst 0, 1) := by decide +kernel
theorem dX8_candidateOf_33 : decode cX8_candidateOf 33 = .ok (.lreturn, 1) := by decide +kernel
def fn_my_candidateOf  : Int64 := 0
abbrev rm_my_candidateOf : Room := { frames := 2, cells := 0, slots := 0, locals := 46 }
abbrev po_my_candidateOf (g : zz_G) (h0 : Nat) (a_kindOf : Nat) (a_depthOf : Nat) (a_lengthOf : Nat) (a_classOf : Nat) (a_baseOf : Nat) (a_bits : Nat) (a_pinned : Nat) (a_lengths : Nat) (a_stackArray : Nat) (a_stackOther : Nat) (a_stackAt : Nat) (a_path : Nat) (a_held : Nat) (a_alike : Nat) (a_hashes : Nat) (a_decisionArray : Nat) (a_decisionPlace : Nat) (a_candidateMany : Nat) (a_candidates : Nat) (a_ruleSort : Nat) (a_ruleArray : Nat) (a_ruleWeight : Nat) (a_ruleLow : Nat) (a_ruleHigh : Nat) (a_chosen : Nat) (a_bestOf : Nat) (a_markElements : Nat) (a_markBits : Nat) (a_markPins : Nat) (x1 : Int32) (x2 : Int32) : Int64 → va_W → Prop := fun (r : Int64) (u : va_W) => r = fn_my_candidateOf
set_option maxHeartbeats 4000000 in
set_option maxRecDepth 100000 in
theorem my_candidateOf (g : zz_G) (h0 : Nat) (a_kindOf : Nat) (a_depthOf : Nat) (a_lengthOf : Nat) (a_classOf : Nat) (a_baseOf : Nat) (a_bits : Nat) (a_pinned : Nat) (a_lengths : Nat) (a_stackArray : Nat) (a_stackOther : Nat) (a_stackAt : Nat) (a_path : Nat) (a_held : Nat) (a_alike : Nat) (a_hashes : Nat) (a_decisionArray : Nat) (a_decisionPlace : Nat) (a_candidateMany : Nat) (a_candidates : Nat) (a_ruleSort : Nat) (a_ruleArray : Nat) (a_ruleWeight : Nat) (a_ruleLow : Nat) (a_ruleHigh : Nat) (a_chosen : Nat) (a_bestOf : Nat) (a_markElements : Nat) (a_markBits : Nat) (a_markPins : Nat) (x1 : Int32) (x2 : Int32) : zz_L g yX8_candidateOf (.code yX8_candidateOf cX8_candidateOf 3 (some .long)) rm_my_candidateOf [.ref h0, .int x1, .int x2] [(h0, .inr (7, [.int 0, .int 0, .ref a_kindOf, .ref a_depthOf, .ref a_lengthOf, .ref a_classOf, .ref a_baseOf, .ref a_bits, .ref a_pinned, .int 0, .ref a_lengths, .ref a_stackArray, .ref a_stackOther, .ref a_stackAt, .int 0, .int 0, .ref a_path, .ref a_held, .ref a_alike, .ref a_hashes, .int 0, .ref a_decisionArray, .ref a_decisionPlace, .ref a_candidateMany, .ref a_candidates, .int 0, .ref a_ruleSort, .ref a_ruleArray, .ref a_ruleWeight, .ref a_ruleLow, .ref a_ruleHigh, .ref a_chosen, .ref a_bestOf, .int 0, .ref a_markElements, .ref a_markBits, .ref a_markPins]))] (po_my_candidateOf g h0 a_kindOf a_depthOf a_lengthOf a_classOf a_baseOf a_bits a_pinned a_lengths a_stackArray a_stackOther a_stackAt a_path a_held a_alike a_hashes a_decisionArray a_decisionPlace a_candidateMany a_candidates a_ruleSort a_ruleArray a_ruleWeight a_ruleLow a_ruleHigh a_chosen a_bestOf a_markElements a_markBits a_markPins x1 x2) := by
  refine zz_L.intro (own := RX8) (cc := cX8_candidateOf) (nL := 3) (by decide) rfl (Nat.le_of_ble_eq_true rfl) ?_
  intro p l e s m args below meth c A H locs ls hC hnm hZ hl
  obtain ⟨hx, hb, hml, hown, hts, hr, hlocks, hK⟩ := id hC
  have hl : lv_has ls 3 [(0, .ref h0), (1, .int x1), (2, .int x2)] := hl
  have hZ : zz_Z g A s.heap [(h0, .inr (7, [.int 0, .int 0, .ref a_kindOf, .ref a_depthOf, .ref a_lengthOf, .ref a_classOf, .ref a_baseOf, .ref a_bits, .ref a_pinned, .int 0, .ref a_lengths, .ref a_stackArray, .ref a_stackOther, .ref a_stackAt, .int 0, .int 0, .ref a_path, .ref a_held, .ref a_alike, .ref a_hashes, .int 0, .ref a_decisionArray, .ref a_decisionPlace, .ref a_candidateMany, .ref a_candidates, .int 0, .ref a_ruleSort, .ref a_ruleArray, .ref a_ruleWeight, .ref a_ruleLow, .ref a_ruleHigh, .ref a_chosen, .ref a_bestOf, .int 0, .ref a_markElements, .ref a_markBits, .ref a_markPins]))] H locs := hZ
  refine lv_aload_n hx hb dX8_candidateOf_0 rfl (lv_at hl 0 rfl) ?_
  refine lv_iload_n hx hb dX8_candidateOf_1 rfl (lv_at hl 1 rfl) ?_
  refine zz_iV (As := [.int x1]) (wc := [(h0, .inr (7, [.int 0, .int 0, .ref a_kindOf, .ref a_depthOf, .ref a_lengthOf, .ref a_classOf, .ref a_baseOf, .ref a_bits, .ref a_pinned, .int 0, .ref a_lengths, .ref a_stackArray, .ref a_stackOther, .ref a_stackAt, .int 0, .int 0, .ref a_path, .ref a_held, .ref a_alike, .ref a_hashes, .int 0, .ref a_decisionArray, .ref a_decisionPlace, .ref a_candidateMany, .ref a_candidates, .int 0, .ref a_ruleSort, .ref a_ruleArray, .ref a_ruleWeight, .ref a_ruleLow, .ref a_ruleHigh, .ref a_chosen, .ref a_bestOf, .int 0, .ref a_markElements, .ref a_markBits, .ref a_markPins]))]) (wr := []) (rest := []) hC hZ hl zc_X8_251 (cm_isDecision0 g h0 a_kindOf a_depthOf a_lengthOf a_classOf a_baseOf a_bits a_pinned a_lengths a_stackArray a_stackOther a_stackAt a_path a_held a_alike a_hashes a_decisionArray a_decisionPlace a_candidateMany a_candidates a_ruleSort a_ruleArray a_ruleWeight a_ruleLow a_ruleHigh a_chosen a_bestOf a_markElements a_markBits a_markPins 0 0 0 0 0 0 0 x1) [0] [] rfl rfl (by decide) (ci := 7) (q0 := 0) rfl rfl rfl rfl (Nat.le_of_ble_eq_true rfl) ⟨⟨Nat.le_of_ble_eq_true rfl, Nat.le_of_ble_eq_true rfl⟩, Nat.le_of_ble_eq_true rfl, Nat.le_of_ble_eq_true rfl⟩ dX8_candidateOf_2 (fun r1 u2 H locs hp hZ => ?_)
  obtain ⟨rfl, rfl⟩ := hp
  have hZ : zz_Z g A s.heap [(h0, .inr (7, [.int 0, .int 0, .ref a_kindOf, .ref a_depthOf, .ref a_lengthOf, .ref a_classOf, .ref a_baseOf, .ref a_bits, .ref a_pinned, .int 0, .ref a_lengths, .ref a_stackArray, .ref a_stackOther, .ref a_stackAt, .int 0, .int 0, .ref a_path, .ref a_held, .ref a_alike, .ref a_hashes, .int 0, .ref a_decisionArray, .ref a_decisionPlace, .ref a_candidateMany, .ref a_candidates, .int 0, .ref a_ruleSort, .ref a_ruleArray, .ref a_ruleWeight, .ref a_ruleLow, .ref a_ruleHigh, .ref a_chosen, .ref a_bestOf, .int 0, .ref a_markElements, .ref a_markBits, .ref a_markPins]))] H locs := hZ
  refine lv_if_eq (tgt := 26) hx hb dX8_candidateOf_5 (by decide) (fun c3 => ?_) (fun c => absurd (by decide) c)
  refine lv_aload_n hx hb dX8_candidateOf_26 rfl (lv_at hl 0 rfl) ?_
  refine lv_bipush (v := 9) hx hb dX8_candidateOf_27 (by decide) ?_
  refine zz_put hC hZ 0 rfl zu_X8_99 (Nat.le_of_ble_eq_true rfl) dX8_candidateOf_29 (fun H locs hZ => ?_)
  have hZ : zz_Z g A s.heap [(h0, .inr (7, [.int 0, .int 0, .ref a_kindOf, .ref a_depthOf, .ref a_lengthOf, .ref a_classOf, .ref a_baseOf, .ref a_bits, .ref a_pinned, .int 9, .ref a_lengths, .ref a_stackArray, .ref a_stackOther, .ref a_stackAt, .int 0, .int 0, .ref a_path, .ref a_held, .ref a_alike, .ref a_hashes, .int 0, .ref a_decisionArray, .ref a_decisionPlace, .ref a_candidateMany, .ref a_candidates, .int 0, .ref a_ruleSort, .ref a_ruleArray, .ref a_ruleWeight, .ref a_ruleLow, .ref a_ruleHigh, .ref a_chosen, .ref a_bestOf, .int 0, .ref a_markElements, .ref a_markBits, .ref a_markPins]))] H locs := hZ
  refine lv_lconst (v := 0) hx hb dX8_candidateOf_32 (by decide) ?_
  exact zz_lret hC hZ (rfl) (Nat.le_of_ble_eq_true rfl) (Nat.le_of_ble_eq_true rfl) dX8_candidateOf_33
theorem dX8_rule_0 : decode cX8_rule 0 = .ok (.aload_n 0, 1) := by decide +kernel
theorem dX8_rule_1 : decode cX8_rule 1 = .ok (.iload_n 2, 1) := by decide +kernel
theorem dX8_rule_2 : decode cX8_rule 2 = .ok (.invokevirtual 200, 3) := by decide +kernel
theorem dX8_rule_5 : decode cX8_rule 5 = .ok (.ifCond .ne 7, 3) := by decide +kernel
theorem dX8_rule_8 : decode cX8_rule 8 = .ok (.iconst 5, 1) := by decide +kernel
theorem dX8_rule_9 : decode cX8_rule 9 = .ok (.goto 82, 3) := by decide +kernel
theorem dX8_rule_91 : decode cX8_rule 91 = .ok (.istore 8, 2) := by decide +kernel
theorem dX8_rule_93 : decode cX8_rule 93 = .ok (.iload 8, 2) := by decide +kernel
theorem dX8_rule_95 : decode cX8_rule 95 = .ok (.ifCond .le 10, 3) := by decide +kernel
theorem dX8_rule_98 : decode cX8_rule 98 = .ok (.aload_n 0, 1) := by decide +kernel
theorem dX8_rule_99 : decode cX8_rule 99 = .ok (.iload 8, 2) := by decide +kernel
theorem dX8_rule_101 : decode cX8_rule 101 = .ok (.invokevirtual 175, 3) := by decide +kernel
theorem dX8_rule_104 : decode cX8_rule 104 = .ok (.ireturn, 1) := by decide +kernel
def fn_my_rule  : Int32 := -5
abbrev rm_my_rule : Room := { frames := 2, cells := 0, slots := 0, locals := 46 }
abbrev po_my_rule (g : zz_G) (h0 : Nat) (a_kindOf : Nat) (a_depthOf : Nat) (a_lengthOf : Nat) (a_classOf : Nat) (a_baseOf : Nat) (a_bits : Nat) (a_pinned : Nat) (a_lengths : Nat) (a_stackArray : Nat) (a_stackOther : Nat) (a_stackAt : Nat) (a_path : Nat) (a_held : Nat) (a_alike : Nat) (a_hashes : Nat) (a_decisionArray : Nat) (a_decisionPlace : Nat) (a_candidateMany : Nat) (a_candidates : Nat) (a_ruleSort : Nat) (a_ruleArray : Nat) (a_ruleWeight : Nat) (a_ruleLow : Nat) (a_ruleHigh : Nat) (a_chosen : Nat) (a_bestOf : Nat) (a_markElements : Nat) (a_markBits : Nat) (a_markPins : Nat) (x1 : Int32) (x2 : Int32) (x3 : Int32) (x4 : Int64) (x5 : Int64) : Int32 → va_W → Prop := fun (r : Int32) (u : va_W) => r = fn_my_rule
set_option maxHeartbeats 4000000 in
set_option maxRecDepth 100000 in
theorem my_rule (g : zz_G) (h0 : Nat) (a_kindOf : Nat) (a_depthOf : Nat) (a_lengthOf : Nat) (a_classOf : Nat) (a_baseOf : Nat) (a_bits : Nat) (a_pinned : Nat) (a_lengths : Nat) (a_stackArray : Nat) (a_stackOther : Nat) (a_stackAt : Nat) (a_path : Nat) (a_held : Nat) (a_alike : Nat) (a_hashes : Nat) (a_decisionArray : Nat) (a_decisionPlace : Nat) (a_candidateMany : Nat) (a_candidates : Nat) (a_ruleSort : Nat) (a_ruleArray : Nat) (a_ruleWeight : Nat) (a_ruleLow : Nat) (a_ruleHigh : Nat) (a_chosen : Nat) (a_bestOf : Nat) (a_markElements : Nat) (a_markBits : Nat) (a_markPins : Nat) (x1 : Int32) (x2 : Int32) (x3 : Int32) (x4 : Int64) (x5 : Int64) : zz_I g yX8_rule (.code yX8_rule cX8_rule 9 (some .int)) rm_my_rule [.ref h0, .int x1, .int x2, .int x3, .long x4, .long x5] [(h0, .inr (7, [.int 0, .int 0, .ref a_kindOf, .ref a_depthOf, .ref a_lengthOf, .ref a_classOf, .ref a_baseOf, .ref a_bits, .ref a_pinned, .int 0, .ref a_lengths, .ref a_stackArray, .ref a_stackOther, .ref a_stackAt, .int 0, .int 0, .ref a_path, .ref a_held, .ref a_alike, .ref a_hashes, .int 0, .ref a_decisionArray, .ref a_decisionPlace, .ref a_candidateMany, .ref a_candidates, .int 0, .ref a_ruleSort, .ref a_ruleArray, .ref a_ruleWeight, .ref a_ruleLow, .ref a_ruleHigh, .ref a_chosen, .ref a_bestOf, .int 0, .ref a_markElements, .ref a_markBits, .ref a_markPins]))] (po_my_rule g h0 a_kindOf a_depthOf a_lengthOf a_classOf a_baseOf a_bits a_pinned a_lengths a_stackArray a_stackOther a_stackAt a_path a_held a_alike a_hashes a_decisionArray a_decisionPlace a_candidateMany a_candidates a_ruleSort a_ruleArray a_ruleWeight a_ruleLow a_ruleHigh a_chosen a_bestOf a_markElements a_markBits a_markPins x1 x2 x3 x4 x5) := by
  refine zz_I.intro (own := RX8) (cc := cX8_rule) (nL := 9) (by decide) rfl (Nat.le_of_ble_eq_true rfl) ?_
  intro p l e s m args below meth c A H locs ls hC hnm hZ hl
  obtain ⟨hx, hb, hml, hown, hts, hr, hlocks, hK⟩ := id hC
  have hl : lv_has ls 9 [(0, .ref h0), (1, .int x1), (2, .int x2), (3, .int x3), (4, .long x4), (6, .long x5)] := hl
  have hZ : zz_Z g A s.heap [(h0, .inr (7, [.int 0, .int 0, .ref a_kindOf, .ref a_depthOf, .ref a_lengthOf, .ref a_classOf, .ref a_baseOf, .ref a_bits, .ref a_pinned, .int 0, .ref a_lengths, .ref a_stackArray, .ref a_stackOther, .ref a_stackAt, .int 0, .int 0, .ref a_path, .ref a_held, .ref a_alike, .ref a_hashes, .int 0, .ref a_decisionArray, .ref a_decisionPlace, .ref a_candidateMany, .ref a_candidates, .int 0, .ref a_ruleSort, .ref a_ruleArray, .ref a_ruleWeight, .ref a_ruleLow, .ref a_ruleHigh, .ref a_chosen, .ref a_bestOf, .int 0, .ref a_markElements, .ref a_markBits, .ref a_markPins]))] H locs := hZ
  refine lv_aload_n hx hb dX8_rule_0 rfl (lv_at hl 0 rfl) ?_
  refine lv_iload_n hx hb dX8_rule_1 rfl (lv_at hl 2 rfl) ?_
  refine zz_iV (As := [.int x2]) (wc := [(h0, .inr (7, [.int 0, .int 0, .ref a_kindOf, .ref a_depthOf, .ref a_lengthOf, .ref a_classOf, .ref a_baseOf, .ref a_bits, .ref a_pinned, .int 0, .ref a_lengths, .ref a_stackArray, .ref a_stackOther, .ref a_stackAt, .int 0, .int 0, .ref a_path, .ref a_held, .ref a_alike, .ref a_hashes, .int 0, .ref a_decisionArray, .ref a_decisionPlace, .ref a_candidateMany, .ref a_candidates, .int 0, .ref a_ruleSort, .ref a_ruleArray, .ref a_ruleWeight, .ref a_ruleLow, .ref a_ruleHigh, .ref a_chosen, .ref a_bestOf, .int 0, .ref a_markElements, .ref a_markBits, .ref a_markPins]))]) (wr := []) (rest := []) hC hZ hl zc_X8_200 (cm_isArray0 g h0 a_kindOf a_depthOf a_lengthOf a_classOf a_baseOf a_bits a_pinned a_lengths a_stackArray a_stackOther a_stackAt a_path a_held a_alike a_hashes a_decisionArray a_decisionPlace a_candidateMany a_candidates a_ruleSort a_ruleArray a_ruleWeight a_ruleLow a_ruleHigh a_chosen a_bestOf a_markElements a_markBits a_markPins 0 0 0 0 0 0 0 x2) [0] [] rfl rfl (by decide) (ci := 7) (q0 := 0) rfl rfl rfl rfl (Nat.le_of_ble_eq_true rfl) ⟨⟨Nat.le_of_ble_eq_true rfl, Nat.le_of_ble_eq_true rfl⟩, Nat.le_of_ble_eq_true rfl, Nat.le_of_ble_eq_true rfl⟩ dX8_rule_2 (fun r1 u2 H locs hp hZ => ?_)
  obtain ⟨rfl, rfl⟩ := hp
  have hZ : zz_Z g A s.heap [(h0, .inr (7, [.int 0, .int 0, .ref a_kindOf, .ref a_depthOf, .ref a_lengthOf, .ref a_classOf, .ref a_baseOf, .ref a_bits, .ref a_pinned, .int 0, .ref a_lengths, .ref a_stackArray, .ref a_stackOther, .ref a_stackAt, .int 0, .int 0, .ref a_path, .ref a_held, .ref a_alike, .ref a_hashes, .int 0, .ref a_decisionArray, .ref a_decisionPlace, .ref a_candidateMany, .ref a_candidates, .int 0, .ref a_ruleSort, .ref a_ruleArray, .ref a_ruleWeight, .ref a_ruleLow, .ref a_ruleHigh, .ref a_chosen, .ref a_bestOf, .int 0, .ref a_markElements, .ref a_markBits, .ref a_markPins]))] H locs := hZ
  refine lv_if_ne (tgt := 12) hx hb dX8_rule_5 (by decide) (fun c => absurd (by decide) c) (fun c3 => ?_)
  refine lv_iconst (v := 5) hx hb dX8_rule_8 (by decide) ?_
  refine lv_goto (tgt := 91) hx hb dX8_rule_9 (by decide) ?_
  refine lv_istore (lv' := [(8, .int 5), (0, .ref h0), (1, .int x1), (2, .int x2), (3, .int x3), (4, .long x4), (6, .long x5)]) hx hb dX8_rule_91 hl (by decide) rfl (fun ls hl => ?_)
  refine lv_iload hx hb dX8_rule_93 (lv_at hl 0 rfl) ?_
  refine lv_if_le (tgt := 105) hx hb dX8_rule_95 (by decide) (fun c => absurd c (by decide)) (fun c4 => ?_)
  refine lv_aload_n hx hb dX8_rule_98 rfl (lv_at hl 1 rfl) ?_
  refine lv_iload hx hb dX8_rule_99 (lv_at hl 0 rfl) ?_
  refine zz_iV (As := [.int 5]) (wc := [(h0, .inr (7, [.int 0, .int 0, .ref a_kindOf, .ref a_depthOf, .ref a_lengthOf, .ref a_classOf, .ref a_baseOf, .ref a_bits, .ref a_pinned, .int 0, .ref a_lengths, .ref a_stackArray, .ref a_stackOther, .ref a_stackAt, .int 0, .int 0, .ref a_path, .ref a_held, .ref a_alike, .ref a_hashes, .int 0, .ref a_decisionArray, .ref a_decisionPlace, .ref a_candidateMany, .ref a_candidates, .int 0, .ref a_ruleSort, .ref a_ruleArray, .ref a_ruleWeight, .ref a_ruleLow, .ref a_ruleHigh, .ref a_chosen, .ref a_bestOf, .int 0, .ref a_markElements, .ref a_markBits, .ref a_markPins]))]) (wr := []) (rest := []) hC hZ hl zc_X8_175 (cm_fails g h0 a_kindOf a_depthOf a_lengthOf a_classOf a_baseOf a_bits a_pinned a_lengths a_stackArray a_stackOther a_stackAt a_path a_held a_alike a_hashes a_decisionArray a_decisionPlace a_candidateMany a_candidates a_ruleSort a_ruleArray a_ruleWeight a_ruleLow a_ruleHigh a_chosen a_bestOf a_markElements a_markBits a_markPins 0 0 0 0 0 0 0 0 5) [0] [] rfl rfl (by decide) (ci := 7) (q0 := 0) rfl rfl rfl rfl (Nat.le_of_ble_eq_true rfl) ⟨⟨Nat.le_of_ble_eq_true rfl, Nat.le_of_ble_eq_true rfl⟩, Nat.le_of_ble_eq_true rfl, Nat.le_of_ble_eq_true rfl⟩ dX8_rule_101 (fun r5 u6 H locs hp hZ => ?_)
  obtain ⟨rfl, rfl⟩ := hp
  have hZ : zz_Z g A s.heap [(h0, .inr (7, [.int 0, .int 0, .ref a_kindOf, .ref a_depthOf, .ref a_lengthOf, .ref a_classOf, .ref a_baseOf, .ref a_bits, .ref a_pinned, .int 5, .ref a_lengths, .ref a_stackArray, .ref a_stackOther, .ref a_stackAt, .int 0, .int 0, .ref a_path, .ref a_held, .ref a_alike, .ref a_hashes, .int 0, .ref a_decisionArray, .ref a_decisionPlace, .ref a_candidateMany, .ref a_candidates, .int 0, .ref a_ruleSort, .ref a_ruleArray, .ref a_ruleWeight, .ref a_ruleLow, .ref a_ruleHigh, .ref a_chosen, .ref a_bestOf, .int 0, .ref a_markElements, .ref a_markBits, .ref a_markPins]))] H locs := hZ
  exact zz_iret hC hZ (rfl) (Nat.le_of_ble_eq_true rfl) (Nat.le_of_ble_eq_true rfl) dX8_rule_104
theorem dX8_amount_0 : decode cX8_amount 0 = .ok (.iload_n 1, 1) := by decide +kernel
theorem dX8_amount_1 : decode cX8_amount 1 = .ok (.i2l, 1) := by decide +kernel
theorem dX8_amount_2 : decode cX8_amount 2 = .ok (.lconst 0, 1) := by decide +kernel
theorem dX8_amount_3 : decode cX8_amount 3 = .ok (.aload_n 0, 1) := by decide +kernel
theorem dX8_amount_4 : decode cX8_amount 4 = .ok (.getfield 265, 3) := by decide +kernel
theorem dX8_amount_7 : decode cX8_amount 7 = .ok (.iconst 1, 1) := by decide +kernel
theorem dX8_amount_8 : decode cX8_amount 8 = .ok (.isub, 1) := by decide +kernel
theorem dX8_amount_9 : decode cX8_amount 9 = .ok (.i2l, 1) := by decide +kernel
theorem dX8_amount_10 : decode cX8_amount 10 = .ok (.invokestatic 106, 3) := by decide +kernel
theorem dX8_amount_13 : decode cX8_amount 13 = .ok (.ifCond .ne 11, 3) := by decide +kernel
theorem dX8_amount_16 : decode cX8_amount 16 = .ok (.aload_n 0, 1) := by decide +kernel
theorem dX8_amount_17 : decode cX8_amount 17 = .ok (.bipush 9, 2) := by decide +kernel
theorem dX8_amount_19 : decode cX8_amount 19 = .ok (.putfield 99, 3) := by decide +kernel
theorem dX8_amount_22 : decode cX8_amount 22 = .ok (.lconst 0, 1) := by decide +kernel
theorem dX8_amount_23 : decode cX8_amount 23 = .ok (.lreturn, 1) := by decide +kernel
def fn_my_amount  : Int64 := 0
abbrev rm_my_amount : Room := { frames := 1, cells := 0, slots := 0, locals := 25 }
abbrev po_my_amount (g : zz_G) (h0 : Nat) (a_kindOf : Nat) (a_depthOf : Nat) (a_lengthOf : Nat) (a_classOf : Nat) (a_baseOf : Nat) (a_bits : Nat) (a_pinned : Nat) (a_lengths : Nat) (a_stackArray : Nat) (a_stackOther : Nat) (a_stackAt : Nat) (a_path : Nat) (a_held : Nat) (a_alike : Nat) (a_hashes : Nat) (a_decisionArray : Nat) (a_decisionPlace : Nat) (a_candidateMany : Nat) (a_candidates : Nat) (a_ruleSort : Nat) (a_ruleArray : Nat) (a_ruleWeight : Nat) (a_ruleLow : Nat) (a_ruleHigh : Nat) (a_chosen : Nat) (a_bestOf : Nat) (a_markElements : Nat) (a_markBits : Nat) (a_markPins : Nat) (x1 : Int32) : Int64 → va_W → Prop := fun (r : Int64) (u : va_W) => r = fn_my_amount
set_option maxHeartbeats 4000000 in
set_option maxRecDepth 100000 in
theorem my_amount (g : zz_G) (h0 : Nat) (a_kindOf : Nat) (a_depthOf : Nat) (a_lengthOf : Nat) (a_classOf : Nat) (a_baseOf : Nat) (a_bits : Nat) (a_pinned : Nat) (a_lengths : Nat) (a_stackArray : Nat) (a_stackOther : Nat) (a_stackAt : Nat) (a_path : Nat) (a_held : Nat) (a_alike : Nat) (a_hashes : Nat) (a_decisionArray : Nat) (a_decisionPlace : Nat) (a_candidateMany : Nat) (a_candidates : Nat) (a_ruleSort : Nat) (a_ruleArray : Nat) (a_ruleWeight : Nat) (a_ruleLow : Nat) (a_ruleHigh : Nat) (a_chosen : Nat) (a_bestOf : Nat) (a_markElements : Nat) (a_markBits : Nat) (a_markPins : Nat) (x1 : Int32) : zz_L g yX8_amount (.code yX8_amount cX8_amount 2 (some .long)) rm_my_amount [.ref h0, .int x1] [(h0, .inr (7, [.int 0, .int 0, .ref a_kindOf, .ref a_depthOf, .ref a_lengthOf, .ref a_classOf, .ref a_baseOf, .ref a_bits, .ref a_pinned, .int 0, .ref a_lengths, .ref a_stackArray, .ref a_stackOther, .ref a_stackAt, .int 0, .int 0, .ref a_path, .ref a_held, .ref a_alike, .ref a_hashes, .int 0, .ref a_decisionArray, .ref a_decisionPlace, .ref a_candidateMany, .ref a_candidates, .int 0, .ref a_ruleSort, .ref a_ruleArray, .ref a_ruleWeight, .ref a_ruleLow, .ref a_ruleHigh, .ref a_chosen, .ref a_bestOf, .int 0, .ref a_markElements, .ref a_markBits, .ref a_markPins]))] (po_my_amount g h0 a_kindOf a_depthOf a_lengthOf a_classOf a_baseOf a_bits a_pinned a_lengths a_stackArray a_stackOther a_stackAt a_path a_held a_alike a_hashes a_decisionArray a_decisionPlace a_candidateMany a_candidates a_ruleSort a_ruleArray a_ruleWeight a_ruleLow a_ruleHigh a_chosen a_bestOf a_markElements a_markBits a_markPins x1) := by
  refine zz_L.intro (own := RX8) (cc := cX8_amount) (nL := 2) (by decide) rfl (Nat.le_of_ble_eq_true rfl) ?_
  intro p l e s m args below meth c A H locs ls hC hnm hZ hl
  obtain ⟨hx, hb, hml, hown, hts, hr, hlocks, hK⟩ := id hC
  have hl : lv_has ls 2 [(0, .ref h0), (1, .int x1)] := hl
  have hZ : zz_Z g A s.heap [(h0, .inr (7, [.int 0, .int 0, .ref a_kindOf, .ref a_depthOf, .ref a_lengthOf, .ref a_classOf, .ref a_baseOf, .ref a_bits, .ref a_pinned, .int 0, .ref a_lengths, .ref a_stackArray, .ref a_stackOther, .ref a_stackAt, .int 0, .int 0, .ref a_path, .ref a_held, .ref a_alike, .ref a_hashes, .int 0, .ref a_decisionArray, .ref a_decisionPlace, .ref a_candidateMany, .ref a_candidates, .int 0, .ref a_ruleSort, .ref a_ruleArray, .ref a_ruleWeight, .ref a_ruleLow, .ref a_ruleHigh, .ref a_chosen, .ref a_bestOf, .int 0, .ref a_markElements, .ref a_markBits, .ref a_markPins]))] H locs := hZ
  refine lv_iload_n hx hb dX8_amount_0 rfl (lv_at hl 1 rfl) ?_
  refine lv_i2l hx hb dX8_amount_1 rfl ?_
  refine lv_lconst (v := 0) hx hb dX8_amount_2 (by decide) ?_
  refine lv_aload_n hx hb dX8_amount_3 rfl (lv_at hl 0 rfl) ?_
  refine zz_get hC hZ 0 rfl zf_X8_265 rfl dX8_amount_4 ?_
  refine lv_iconst (v := 1) hx hb dX8_amount_7 (by decide) ?_
  refine lv_isub hx hb dX8_amount_8 ?_
  refine zz_topi (v := -1) (by decide) ?_
  refine lv_i2l (v := -1) hx hb dX8_amount_9 (by decide) ?_
  refine zz_iS (As := [.long x1.toInt64, .long 0, .long (-1)]) (wc := []) (wr := [(h0, .inr (7, [.int 0, .int 0, .ref a_kindOf, .ref a_depthOf, .ref a_lengthOf, .ref a_classOf, .ref a_baseOf, .ref a_bits, .ref a_pinned, .int 0, .ref a_lengths, .ref a_stackArray, .ref a_stackOther, .ref a_stackAt, .int 0, .int 0, .ref a_path, .ref a_held, .ref a_alike, .ref a_hashes, .int 0, .ref a_decisionArray, .ref a_decisionPlace, .ref a_candidateMany, .ref a_candidates, .int 0, .ref a_ruleSort, .ref a_ruleArray, .ref a_ruleWeight, .ref a_ruleLow, .ref a_ruleHigh, .ref a_chosen, .ref a_bestOf, .int 0, .ref a_markElements, .ref a_markBits, .ref a_markPins]))]) (rest := []) hC hZ hl zc_X8_106 (cm_within g x1.toInt64 0 (-1)) [] [0] rfl rfl (by decide) rfl rfl (Nat.le_of_ble_eq_true rfl) ⟨⟨Nat.le_of_ble_eq_true rfl, Nat.le_of_ble_eq_true rfl⟩, Nat.le_of_ble_eq_true rfl, Nat.le_of_ble_eq_true rfl⟩ dX8_amount_10 (fun r1 u2 H locs hp hZ => ?_)
  obtain ⟨rfl, rfl⟩ := hp
  have hZ : zz_Z g A s.heap [(h0, .inr (7, [.int 0, .int 0, .ref a_kindOf, .ref a_depthOf, .ref a_lengthOf, .ref a_classOf, .ref a_baseOf, .ref a_bits, .ref a_pinned, .int 0, .ref a_lengths, .ref a_stackArray, .ref a_stackOther, .ref a_stackAt, .int 0, .int 0, .ref a_path, .ref a_held, .ref a_alike, .ref a_hashes, .int 0, .ref a_decisionArray, .ref a_decisionPlace, .ref a_candidateMany, .ref a_candidates, .int 0, .ref a_ruleSort, .ref a_ruleArray, .ref a_ruleWeight, .ref a_ruleLow, .ref a_ruleHigh, .ref a_chosen, .ref a_bestOf, .int 0, .ref a_markElements, .ref a_markBits, .ref a_markPins]))] H locs := hZ
  refine lv_if_ne (tgt := 24) hx hb dX8_amount_13 (by decide) (fun c => absurd (zl_none _) c) (fun c3 => ?_)
  refine lv_aload_n hx hb dX8_amount_16 rfl (lv_at hl 0 rfl) ?_
  refine lv_bipush (v := 9) hx hb dX8_amount_17 (by decide) ?_
  refine zz_put hC hZ 0 rfl zu_X8_99 (Nat.le_of_ble_eq_true rfl) dX8_amount_19 (fun H locs hZ => ?_)
  have hZ : zz_Z g A s.heap [(h0, .inr (7, [.int 0, .int 0, .ref a_kindOf, .ref a_depthOf, .ref a_lengthOf, .ref a_classOf, .ref a_baseOf, .ref a_bits, .ref a_pinned, .int 9, .ref a_lengths, .ref a_stackArray, .ref a_stackOther, .ref a_stackAt, .int 0, .int 0, .ref a_path, .ref a_held, .ref a_alike, .ref a_hashes, .int 0, .ref a_decisionArray, .ref a_decisionPlace, .ref a_candidateMany, .ref a_candidates, .int 0, .ref a_ruleSort, .ref a_ruleArray, .ref a_ruleWeight, .ref a_ruleLow, .ref a_ruleHigh, .ref a_chosen, .ref a_bestOf, .int 0, .ref a_markElements, .ref a_markBits, .ref a_markPins]))] H locs := hZ
  refine lv_lconst (v := 0) hx hb dX8_amount_22 (by decide) ?_
  exact zz_lret hC hZ (rfl) (Nat.le_of_ble_eq_true rfl) (Nat.le_of_ble_eq_true rfl) dX8_amount_23
theorem dX8_best_0 : decode cX8_best 0 = .ok (.aload_n 0, 1) := by decide +kernel
theorem dX8_best_1 : decode cX8_best 1 = .ok (.invokevirtual 292, 3) := by decide +kernel
theorem zk_1106 : Cond.methodLink RX8 292 yX8_ways ∈ zz_w := zz_in (List.mem_append_right _ (List.mem_append_right _ (List.mem_append_right _ (List.mem_append_right _ (List.mem_append_right _ (List.mem_of_getElem? (i := 146) (by decide +kernel))))))) rfl
set_option maxRecDepth 20000 in
theorem zk_1109 : Cond.code yX8_ways cX8_ways 4 (some .int) ∈ zz_w := zz_in (List.mem_append_right _ (List.mem_append_right _ (List.mem_append_right _ (List.mem_append_right _ (List.mem_append_right _ (List.mem_of_getElem? (i := 149) (rfl))))))) rfl
theorem zk_1108 : Cond.instanceMethod yX8_ways ∈ zz_w := zz_in (List.mem_append_right _ (List.mem_append_right _ (List.mem_append_right _ (List.mem_append_right _ (List.mem_append_right _ (List.mem_of_getElem? (i := 148) (by decide +kernel))))))) rfl
theorem zs_33 : Cond.selects RX8 yX8_ways yX8_ways ∈ zz_w := zz_in (List.mem_append_left _ (List.mem_of_getElem? (i := 33) (by decide +kernel))) rfl
theorem zc_X8_292 : zz_cV RX8 292 yX8_ways cX8_ways 4 (some .int) 0 := ⟨⟨zk_1106, zk_1109, zk_7, by decide, by decide, by decide +kernel⟩, zk_1108, zs_33⟩
theorem dX8_best_4 : decode cX8_best 4 = .ok (.istore_n 1, 1) := by decide +kernel
theorem dX8_best_5 : decode cX8_best 5 = .ok (.iload_n 1, 1) := by decide +kernel
theorem dX8_best_6 : decode cX8_best 6 = .ok (.sipush 5000, 3) := by decide +kernel
theorem dX8_best_9 : decode cX8_best 9 = .ok (.if_icmp .le 10, 3) := by decide +kernel
theorem dX8_best_19 : decode cX8_best 19 = .ok (.lconst 0, 1) := by decide +kernel
theorem dX8_best_20 : decode cX8_best 20 = .ok (.lstore_n 2, 1) := by decide +kernel
theorem dX8_best_21 : decode cX8_best 21 = .ok (.iconst 0, 1) := by decide +kernel
theorem dX8_best_22 : decode cX8_best 22 = .ok (.istore 4, 2) := by decide +kernel
theorem dX8_best_24 : decode cX8_best 24 = .ok (.iload 4, 2) := by decide +kernel
theorem dX8_best_26 : decode cX8_best 26 = .ok (.iload_n 1, 1) := by decide +kernel
theorem dX8_best_27 : decode cX8_best 27 = .ok (.if_icmp .ge 125, 3) := by decide +kernel
theorem dX8_best_30 : decode cX8_best 30 = .ok (.iload 4, 2) := by decide +kernel
theorem dX8_best_32 : decode cX8_best 32 = .ok (.istore 5, 2) := by decide +kernel
theorem dX8_best_34 : decode cX8_best 34 = .ok (.aload_n 0, 1) := by decide +kernel
theorem dX8_best_35 : decode cX8_best 35 = .ok (.getfield 248, 3) := by decide +kernel
theorem dX8_best_38 : decode cX8_best 38 = .ok (.iconst 1, 1) := by decide +kernel
theorem dX8_best_39 : decode cX8_best 39 = .ok (.isub, 1) := by decide +kernel
theorem dX8_best_40 : decode cX8_best 40 = .ok (.istore 6, 2) := by decide +kernel
theorem dX8_best_42 : decode cX8_best 42 = .ok (.iload 6, 2) := by decide +kernel
theorem dX8_best_44 : decode cX8_best 44 = .ok (.ifCond .lt 49, 3) := by decide +kernel
theorem dX8_best_93 : decode cX8_best 93 = .ok (.aload_n 0, 1) := by decide +kernel
theorem dX8_best_94 : decode cX8_best 94 = .ok (.invokevirtual 299, 3) := by decide +kernel
theorem zk_1120 : Cond.methodLink RX8 299 yX8_score ∈ zz_w := zz_in (List.mem_append_right _ (List.mem_append_right _ (List.mem_append_right _ (List.mem_append_right _ (List.mem_append_right _ (List.mem_of_getElem? (i := 160) (by decide +kernel))))))) rfl
set_option maxRecDepth 20000 in
theorem zk_1101 : Cond.code yX8_score cX8_score 4 (some .long) ∈ zz_w := zz_in (List.mem_append_right _ (List.mem_append_right _ (List.mem_append_right _ (List.mem_append_right _ (List.mem_append_right _ (List.mem_of_getElem? (i := 141) (rfl))))))) rfl
theorem zk_1099 : Cond.instanceMethod yX8_score ∈ zz_w := zz_in (List.mem_append_right _ (List.mem_append_right _ (List.mem_append_right _ (List.mem_append_right _ (List.mem_append_right _ (List.mem_of_getElem? (i := 139) (by decide +kernel))))))) rfl
theorem zk_1100 : Cond.selects RX8 yX8_score yX8_score ∈ zz_w := zz_in (List.mem_append_right _ (List.mem_append_right _ (List.mem_append_right _ (List.mem_append_right _ (List.mem_append_right _ (List.mem_of_getElem? (i := 140) (by decide +kernel))))))) rfl
theorem zc_X8_299 : zz_cV RX8 299 yX8_score cX8_score 4 (some .long) 0 := ⟨⟨zk_1120, zk_1101, zk_7, by decide, by decide, by decide +kernel⟩, zk_1099, zk_1100⟩
theorem dX8_best_97 : decode cX8_best 97 = .ok (.lstore 6, 2) := by decide +kernel
theorem dX8_best_99 : decode cX8_best 99 = .ok (.iload 4, 2) := by decide +kernel
theorem dX8_best_101 : decode cX8_best 101 = .ok (.ifCond .eq 10, 3) := by decide +kernel
theorem dX8_best_111 : decode cX8_best 111 = .ok (.lload 6, 2) := by decide +kernel
theorem dX8_best_113 : decode cX8_best 113 = .ok (.lstore_n 2, 1) := by decide +kernel
theorem dX8_best_114 : decode cX8_best 114 = .ok (.iconst 0, 1) := by decide +kernel
theorem dX8_best_115 : decode cX8_best 115 = .ok (.istore 8, 2) := by decide +kernel
theorem dX8_best_117 : decode cX8_best 117 = .ok (.iload 8, 2) := by decide +kernel
theorem dX8_best_119 : decode cX8_best 119 = .ok (.aload_n 0, 1) := by decide +kernel
theorem dX8_best_120 : decode cX8_best 120 = .ok (.getfield 248, 3) := by decide +kernel
theorem dX8_best_123 : decode cX8_best 123 = .ok (.if_icmp .ge 23, 3) := by decide +kernel
theorem dX8_best_146 : decode cX8_best 146 = .ok (.iinc 4 1, 3) := by decide +kernel
theorem dX8_best_149 : decode cX8_best 149 = .ok (.goto (-125), 3) := by decide +kernel
theorem dX8_best_152 : decode cX8_best 152 = .ok (.iconst 0, 1) := by decide +kernel
theorem dX8_best_153 : decode cX8_best 153 = .ok (.istore 4, 2) := by decide +kernel
theorem dX8_best_155 : decode cX8_best 155 = .ok (.iload 4, 2) := by decide +kernel
theorem dX8_best_157 : decode cX8_best 157 = .ok (.aload_n 0, 1) := by decide +kernel
theorem dX8_best_158 : decode cX8_best 158 = .ok (.getfield 248, 3) := by decide +kernel
theorem dX8_best_161 : decode cX8_best 161 = .ok (.if_icmp .ge 22, 3) := by decide +kernel
theorem dX8_best_183 : decode cX8_best 183 = .ok (.aload_n 0, 1) := by decide +kernel
theorem dX8_best_184 : decode cX8_best 184 = .ok (.iload_n 1, 1) := by decide +kernel
theorem dX8_best_185 : decode cX8_best 185 = .ok (.invokevirtual 183, 3) := by decide +kernel
theorem dX8_best_188 : decode cX8_best 188 = .ok (.ireturn, 1) := by decide +kernel
def fn_my_best  : Int32 := 1
abbrev rm_my_best : Room := { frames := 1, cells := 0, slots := 0, locals := 23 }
abbrev po_my_best (g : zz_G) (h0 : Nat) (a_kindOf : Nat) (a_depthOf : Nat) (a_lengthOf : Nat) (a_classOf : Nat) (a_baseOf : Nat) (a_bits : Nat) (a_pinned : Nat) (a_lengths : Nat) (a_stackArray : Nat) (a_stackOther : Nat) (a_stackAt : Nat) (a_path : Nat) (a_held : Nat) (a_alike : Nat) (a_hashes : Nat) (a_decisionArray : Nat) (a_decisionPlace : Nat) (a_candidateMany : Nat) (a_candidates : Nat) (a_ruleSort : Nat) (a_ruleArray : Nat) (a_ruleWeight : Nat) (a_ruleLow : Nat) (a_ruleHigh : Nat) (a_chosen : Nat) (a_bestOf : Nat) (a_markElements : Nat) (a_markBits : Nat) (a_markPins : Nat) : Int32 → va_W → Prop := fun (r : Int32) (u : va_W) => r = fn_my_best
set_option maxHeartbeats 4000000 in
set_option maxRecDepth 100000 in
theorem my_best (g : zz_G) (h0 : Nat) (a_kindOf : Nat) (a_depthOf : Nat) (a_lengthOf : Nat) (a_classOf : Nat) (a_baseOf : Nat) (a_bits : Nat) (a_pinned : Nat) (a_lengths : Nat) (a_stackArray : Nat) (a_stackOther : Nat) (a_stackAt : Nat) (a_path : Nat) (a_held : Nat) (a_alike : Nat) (a_hashes : Nat) (a_decisionArray : Nat) (a_decisionPlace : Nat) (a_candidateMany : Nat) (a_candidates : Nat) (a_ruleSort : Nat) (a_ruleArray : Nat) (a_ruleWeight : Nat) (a_ruleLow : Nat) (a_ruleHigh : Nat) (a_chosen : Nat) (a_bestOf : Nat) (a_markElements : Nat) (a_markBits : Nat) (a_markPins : Nat) : zz_I g yX8_best (.code yX8_best cX8_best 9 (some .int)) rm_my_best [.ref h0] [(h0, .inr (7, [.int 0, .int 0, .ref a_kindOf, .ref a_depthOf, .ref a_lengthOf, .ref a_classOf, .ref a_baseOf, .ref a_bits, .ref a_pinned, .int 0, .ref a_lengths, .ref a_stackArray, .ref a_stackOther, .ref a_stackAt, .int 0, .int 0, .ref a_path, .ref a_held, .ref a_alike, .ref a_hashes, .int 0, .ref a_decisionArray, .ref a_decisionPlace, .ref a_candidateMany, .ref a_candidates, .int 0, .ref a_ruleSort, .ref a_ruleArray, .ref a_ruleWeight, .ref a_ruleLow, .ref a_ruleHigh, .ref a_chosen, .ref a_bestOf, .int 0, .ref a_markElements, .ref a_markBits, .ref a_markPins]))] (po_my_best g h0 a_kindOf a_depthOf a_lengthOf a_classOf a_baseOf a_bits a_pinned a_lengths a_stackArray a_stackOther a_stackAt a_path a_held a_alike a_hashes a_decisionArray a_decisionPlace a_candidateMany a_candidates a_ruleSort a_ruleArray a_ruleWeight a_ruleLow a_ruleHigh a_chosen a_bestOf a_markElements a_markBits a_markPins) := by
  refine zz_I.intro (own := RX8) (cc := cX8_best) (nL := 9) (by decide) rfl (Nat.le_of_ble_eq_true rfl) ?_
  intro p l e s m args below meth c A H locs ls hC hnm hZ hl
  obtain ⟨hx, hb, hml, hown, hts, hr, hlocks, hK⟩ := id hC
  have hl : lv_has ls 9 [(0, .ref h0)] := hl
  have hZ : zz_Z g A s.heap [(h0, .inr (7, [.int 0, .int 0, .ref a_kindOf, .ref a_depthOf, .ref a_lengthOf, .ref a_classOf, .ref a_baseOf, .ref a_bits, .ref a_pinned, .int 0, .ref a_lengths, .ref a_stackArray, .ref a_stackOther, .ref a_stackAt, .int 0, .int 0, .ref a_path, .ref a_held, .ref a_alike, .ref a_hashes, .int 0, .ref a_decisionArray, .ref a_decisionPlace, .ref a_candidateMany, .ref a_candidates, .int 0, .ref a_ruleSort, .ref a_ruleArray, .ref a_ruleWeight, .ref a_ruleLow, .ref a_ruleHigh, .ref a_chosen, .ref a_bestOf, .int 0, .ref a_markElements, .ref a_markBits, .ref a_markPins]))] H locs := hZ
  refine lv_aload_n hx hb dX8_best_0 rfl (lv_at hl 0 rfl) ?_
  refine zz_iV (As := []) (wc := [(h0, .inr (7, [.int 0, .int 0, .ref a_kindOf, .ref a_depthOf, .ref a_lengthOf, .ref a_classOf, .ref a_baseOf, .ref a_bits, .ref a_pinned, .int 0, .ref a_lengths, .ref a_stackArray, .ref a_stackOther, .ref a_stackAt, .int 0, .int 0, .ref a_path, .ref a_held, .ref a_alike, .ref a_hashes, .int 0, .ref a_decisionArray, .ref a_decisionPlace, .ref a_candidateMany, .ref a_candidates, .int 0, .ref a_ruleSort, .ref a_ruleArray, .ref a_ruleWeight, .ref a_ruleLow, .ref a_ruleHigh, .ref a_chosen, .ref a_bestOf, .int 0, .ref a_markElements, .ref a_markBits, .ref a_markPins]))]) (wr := []) (rest := []) hC hZ hl zc_X8_292 (cm_ways0 g h0 a_kindOf a_depthOf a_lengthOf a_classOf a_baseOf a_bits a_pinned a_lengths a_stackArray a_stackOther a_stackAt a_path a_held a_alike a_hashes a_decisionArray a_decisionPlace a_candidateMany a_candidates a_ruleSort a_ruleArray a_ruleWeight a_ruleLow a_ruleHigh a_chosen a_bestOf a_markElements a_markBits a_markPins) [0] [] rfl rfl (by decide) (ci := 7) (q0 := 0) rfl rfl rfl rfl (Nat.le_of_ble_eq_true rfl) ⟨⟨Nat.le_of_ble_eq_true rfl, Nat.le_of_ble_eq_true rfl⟩, Nat.le_of_ble_eq_true rfl, Nat.le_of_ble_eq_true rfl⟩ dX8_best_1 (fun r1 u2 H locs hp hZ => ?_)
  obtain ⟨rfl, rfl⟩ := hp
  have hZ : zz_Z g A s.heap [(h0, .inr (7, [.int 0, .int 0, .ref a_kindOf, .ref a_depthOf, .ref a_lengthOf, .ref a_classOf, .ref a_baseOf, .ref a_bits, .ref a_pinned, .int 0, .ref a_lengths, .ref a_stackArray, .ref a_stackOther, .ref a_stackAt, .int 0, .int 0, .ref a_path, .ref a_held, .ref a_alike, .ref a_hashes, .int 0, .ref a_decisionArray, .ref a_decisionPlace, .ref a_candidateMany, .ref a_candidates, .int 0, .ref a_ruleSort, .ref a_ruleArray, .ref a_ruleWeight, .ref a_ruleLow, .ref a_ruleHigh, .ref a_chosen, .ref a_bestOf, .int 0, .ref a_markElements, .ref a_markBits, .ref a_markPins]))] H locs := hZ
  refine lv_istore_n (lv' := [(1, .int 1), (0, .ref h0)]) hx hb dX8_best_4 rfl hl (by decide) rfl (fun ls hl => ?_)
  refine lv_iload_n hx hb dX8_best_5 rfl (lv_at hl 0 rfl) ?_
  refine lv_sipush (v := 5000) hx hb dX8_best_6 (by decide) ?_
  refine lv_icmp_le (tgt := 19) hx hb dX8_best_9 (by decide) (fun c3 => ?_) (fun c => absurd (by decide) c)
  refine lv_lconst (v := 0) hx hb dX8_best_19 (by decide) ?_
  refine lv_lstore_n (lv' := [(2, .long 0), (1, .int 1), (0, .ref h0)]) hx hb dX8_best_20 rfl hl (by decide) rfl (fun ls hl => ?_)
  refine lv_iconst (v := 0) hx hb dX8_best_21 (by decide) ?_
  refine lv_istore (lv' := [(4, .int 0), (2, .long 0), (1, .int 1), (0, .ref h0)]) hx hb dX8_best_22 hl (by decide) rfl (fun ls hl => ?_)
  refine lv_iload hx hb dX8_best_24 (lv_at hl 0 rfl) ?_
  refine lv_iload_n hx hb dX8_best_26 rfl (lv_at hl 2 rfl) ?_
  refine lv_icmp_ge (tgt := 152) hx hb dX8_best_27 (by decide) (fun c => absurd c (by decide)) (fun c4 => ?_)
  refine lv_iload hx hb dX8_best_30 (lv_at hl 0 rfl) ?_
  refine lv_istore (lv' := [(5, .int 0), (4, .int 0), (2, .long 0), (1, .int 1), (0, .ref h0)]) hx hb dX8_best_32 hl (by decide) rfl (fun ls hl => ?_)
  refine lv_aload_n hx hb dX8_best_34 rfl (lv_at hl 4 rfl) ?_
  refine zz_get hC hZ 0 rfl zf_X8_248 rfl dX8_best_35 ?_
  refine lv_iconst (v := 1) hx hb dX8_best_38 (by decide) ?_
  refine lv_isub hx hb dX8_best_39 ?_
  refine zz_topi (v := -1) (by decide) ?_
  refine lv_istore (lv' := [(6, .int (-1)), (5, .int 0), (4, .int 0), (2, .long 0), (1, .int 1), (0, .ref h0)]) hx hb dX8_best_40 hl (by decide) rfl (fun ls hl => ?_)
  refine lv_iload hx hb dX8_best_42 (lv_at hl 0 rfl) ?_
  refine lv_if_lt (tgt := 93) hx hb dX8_best_44 (by decide) (fun c5 => ?_) (fun c => absurd (by decide) c)
  refine lv_aload_n hx hb dX8_best_93 rfl (lv_at hl 5 rfl) ?_
  refine zz_lV (As := []) (wc := [(h0, .inr (7, [.int 0, .int 0, .ref a_kindOf, .ref a_depthOf, .ref a_lengthOf, .ref a_classOf, .ref a_baseOf, .ref a_bits, .ref a_pinned, .int 0, .ref a_lengths, .ref a_stackArray, .ref a_stackOther, .ref a_stackAt, .int 0, .int 0, .ref a_path, .ref a_held, .ref a_alike, .ref a_hashes, .int 0, .ref a_decisionArray, .ref a_decisionPlace, .ref a_candidateMany, .ref a_candidates, .int 0, .ref a_ruleSort, .ref a_ruleArray, .ref a_ruleWeight, .ref a_ruleLow, .ref a_ruleHigh, .ref a_chosen, .ref a_bestOf, .int 0, .ref a_markElements, .ref a_markBits, .ref a_markPins]))]) (wr := []) (rest := []) hC hZ hl zc_X8_299 (cm_score0 g h0 a_kindOf a_depthOf a_lengthOf a_classOf a_baseOf a_bits a_pinned a_lengths a_stackArray a_stackOther a_stackAt a_path a_held a_alike a_hashes a_decisionArray a_decisionPlace a_candidateMany a_candidates a_ruleSort a_ruleArray a_ruleWeight a_ruleLow a_ruleHigh a_chosen a_bestOf a_markElements a_markBits a_markPins) [0] [] rfl rfl (by decide) (ci := 7) (q0 := 0) rfl rfl rfl rfl (Nat.le_of_ble_eq_true rfl) ⟨⟨Nat.le_of_ble_eq_true rfl, Nat.le_of_ble_eq_true rfl⟩, Nat.le_of_ble_eq_true rfl, Nat.le_of_ble_eq_true rfl⟩ dX8_best_94 (fun r6 u7 H locs hp hZ => ?_)
  obtain ⟨rfl, rfl⟩ := hp
  have hZ : zz_Z g A s.heap [(h0, .inr (7, [.int 0, .int 0, .ref a_kindOf, .ref a_depthOf, .ref a_lengthOf, .ref a_classOf, .ref a_baseOf, .ref a_bits, .ref a_pinned, .int 0, .ref a_lengths, .ref a_stackArray, .ref a_stackOther, .ref a_stackAt, .int 0, .int 0, .ref a_path, .ref a_held, .ref a_alike, .ref a_hashes, .int 0, .ref a_decisionArray, .ref a_decisionPlace, .ref a_candidateMany, .ref a_candidates, .int 0, .ref a_ruleSort, .ref a_ruleArray, .ref a_ruleWeight, .ref a_ruleLow, .ref a_ruleHigh, .ref a_chosen, .ref a_bestOf, .int 0, .ref a_markElements, .ref a_markBits, .ref a_markPins]))] H locs := hZ
  refine lv_lstore (lv' := [(6, .long 0), (5, .int 0), (4, .int 0), (2, .long 0), (1, .int 1), (0, .ref h0)]) hx hb dX8_best_97 hl (by decide) rfl (fun ls hl => ?_)
  refine lv_iload hx hb dX8_best_99 (lv_at hl 2 rfl) ?_
  refine lv_if_eq (tgt := 111) hx hb dX8_best_101 (by decide) (fun c8 => ?_) (fun c => absurd (by decide) c)
  refine lv_lload hx hb dX8_best_111 (lv_at hl 0 rfl) ?_
  refine lv_lstore_n (lv' := [(2, .long 0), (6, .long 0), (5, .int 0), (4, .int 0), (1, .int 1), (0, .ref h0)]) hx hb dX8_best_113 rfl hl (by decide) rfl (fun ls hl => ?_)
  refine lv_iconst (v := 0) hx hb dX8_best_114 (by decide) ?_
  refine lv_istore (lv' := [(8, .int 0), (2, .long 0), (6, .long 0), (5, .int 0), (4, .int 0), (1, .int 1), (0, .ref h0)]) hx hb dX8_best_115 hl (by decide) rfl (fun ls hl => ?_)
  refine lv_iload hx hb dX8_best_117 (lv_at hl 0 rfl) ?_
  refine lv_aload_n hx hb dX8_best_119 rfl (lv_at hl 6 rfl) ?_
  refine zz_get hC hZ 0 rfl zf_X8_248 rfl dX8_best_120 ?_
  refine lv_icmp_ge (tgt := 146) hx hb dX8_best_123 (by decide) (fun c9 => ?_) (fun c => absurd (by decide) c)
  refine lv_iinc (v := 1) (lv' := [(4, .int 1), (8, .int 0), (2, .long 0), (6, .long 0), (5, .int 0), (1, .int 1), (0, .ref h0)]) hx hb dX8_best_146 hl (k := 4) rfl (by first | rfl | decide) (by decide) rfl (fun ls hl => ?_)
  refine lv_goto (tgt := 24) hx hb dX8_best_149 (by decide) ?_
  refine lv_iload hx hb dX8_best_24 (lv_at hl 0 rfl) ?_
  refine lv_iload_n hx hb dX8_best_26 rfl (lv_at hl 5 rfl) ?_
  refine lv_icmp_ge (tgt := 152) hx hb dX8_best_27 (by decide) (fun c10 => ?_) (fun c => absurd (by decide) c)
  refine lv_iconst (v := 0) hx hb dX8_best_152 (by decide) ?_
  refine lv_istore (lv' := [(4, .int 0), (8, .int 0), (2, .long 0), (6, .long 0), (5, .int 0), (1, .int 1), (0, .ref h0)]) hx hb dX8_best_153 hl (by decide) rfl (fun ls hl => ?_)
  refine lv_iload hx hb dX8_best_155 (lv_at hl 0 rfl) ?_
  refine lv_aload_n hx hb dX8_best_157 rfl (lv_at hl 6 rfl) ?_
  refine zz_get hC hZ 0 rfl zf_X8_248 rfl dX8_best_158 ?_
  refine lv_icmp_ge (tgt := 183) hx hb dX8_best_161 (by decide) (fun c11 => ?_) (fun c => absurd (by decide) c)
  refine lv_aload_n hx hb dX8_best_183 rfl (lv_at hl 6 rfl) ?_
  refine lv_iload_n hx hb dX8_best_184 rfl (lv_at hl 5 rfl) ?_
  refine zz_iV (As := [.int 1]) (wc := [(h0, .inr (7, [.int 0, .int 0, .ref a_kindOf, .ref a_depthOf, .ref a_lengthOf, .ref a_classOf, .ref a_baseOf, .ref a_bits, .ref a_pinned, .int 0, .ref a_lengths, .ref a_stackArray, .ref a_stackOther, .ref a_stackAt, .int 0, .int 0, .ref a_path, .ref a_held, .ref a_alike, .ref a_hashes, .int 0, .ref a_decisionArray, .ref a_decisionPlace, .ref a_candidateMany, .ref a_candidates, .int 0, .ref a_ruleSort, .ref a_ruleArray, .ref a_ruleWeight, .ref a_ruleLow, .ref a_ruleHigh, .ref a_chosen, .ref a_bestOf, .int 0, .ref a_markElements, .ref a_markBits, .ref a_markPins]))]) (wr := []) (rest := []) hC hZ hl zc_X8_183 (cm_fine g h0 a_kindOf a_depthOf a_lengthOf a_classOf a_baseOf a_bits a_pinned a_lengths a_stackArray a_stackOther a_stackAt a_path a_held a_alike a_hashes a_decisionArray a_decisionPlace a_candidateMany a_candidates a_ruleSort a_ruleArray a_ruleWeight a_ruleLow a_ruleHigh a_chosen a_bestOf a_markElements a_markBits a_markPins 0 0 0 0 0 0 0 0 1) [0] [] rfl rfl (by decide) (ci := 7) (q0 := 0) rfl rfl rfl rfl (Nat.le_of_ble_eq_true rfl) ⟨⟨Nat.le_of_ble_eq_true rfl, Nat.le_of_ble_eq_true rfl⟩, Nat.le_of_ble_eq_true rfl, Nat.le_of_ble_eq_true rfl⟩ dX8_best_185 (fun r12 u13 H locs hp hZ => ?_)
  obtain ⟨rfl, rfl⟩ := hp
  have hZ : zz_Z g A s.heap [(h0, .inr (7, [.int 0, .int 0, .ref a_kindOf, .ref a_depthOf, .ref a_lengthOf, .ref a_classOf, .ref a_baseOf, .ref a_bits, .ref a_pinned, .int 0, .ref a_lengths, .ref a_stackArray, .ref a_stackOther, .ref a_stackAt, .int 0, .int 0, .ref a_path, .ref a_held, .ref a_alike, .ref a_hashes, .int 0, .ref a_decisionArray, .ref a_decisionPlace, .ref a_candidateMany, .ref a_candidates, .int 0, .ref a_ruleSort, .ref a_ruleArray, .ref a_ruleWeight, .ref a_ruleLow, .ref a_ruleHigh, .ref a_chosen, .ref a_bestOf, .int 0, .ref a_markElements, .ref a_markBits, .ref a_markPins]))] H locs := hZ
  exact zz_iret hC hZ (rfl) (Nat.le_of_ble_eq_true rfl) (Nat.le_of_ble_eq_true rfl) dX8_best_188
theorem dX8_mark_0 : decode cX8_mark 0 = .ok (.aload_n 0, 1) := by decide +kernel
theorem dX8_mark_1 : decode cX8_mark 1 = .ok (.getfield 303, 3) := by decide +kernel
theorem zk_768 : Cond.fieldLink RX8 303 RX8 "marks" "I" ∈ zz_w := zz_in (List.mem_append_right _ (List.mem_append_right _ (List.mem_append_right _ (List.mem_append_right _ (List.mem_append_left _ (List.mem_of_getElem? (i := 48) (by decide +kernel))))))) rfl
theorem zf_X8_303 : zz_f RX8 303 7 33 := ⟨RX8, TX8, 37, rfl, zi_X8, by decide, zk_768⟩
theorem dX8_mark_4 : decode cX8_mark 4 = .ok (.bipush 8, 2) := by decide +kernel
theorem dX8_mark_6 : decode cX8_mark 6 = .ok (.if_icmp .ne 10, 3) := by decide +kernel
theorem dX8_mark_16 : decode cX8_mark 16 = .ok (.aload_n 0, 1) := by decide +kernel
theorem dX8_mark_17 : decode cX8_mark 17 = .ok (.getfield 90, 3) := by decide +kernel
theorem zf_X8_90 : zz_f RX8 90 7 34 := ⟨RX8, TX8, 37, rfl, zi_X8, by decide, zk_769⟩
theorem dX8_mark_20 : decode cX8_mark 20 = .ok (.aload_n 0, 1) := by decide +kernel
theorem dX8_mark_21 : decode cX8_mark 21 = .ok (.getfield 303, 3) := by decide +kernel
theorem dX8_mark_24 : decode cX8_mark 24 = .ok (.aload_n 0, 1) := by decide +kernel
theorem dX8_mark_25 : decode cX8_mark 25 = .ok (.getfield 186, 3) := by decide +kernel
theorem dX8_mark_28 : decode cX8_mark 28 = .ok (.iastore, 1) := by decide +kernel
theorem dX8_mark_29 : decode cX8_mark 29 = .ok (.iconst 0, 1) := by decide +kernel
theorem dX8_mark_30 : decode cX8_mark 30 = .ok (.istore_n 1, 1) := by decide +kernel
theorem dX8_mark_31 : decode cX8_mark 31 = .ok (.iload_n 1, 1) := by decide +kernel
theorem dX8_mark_32 : decode cX8_mark 32 = .ok (.aload_n 0, 1) := by decide +kernel
theorem dX8_mark_33 : decode cX8_mark 33 = .ok (.getfield 186, 3) := by decide +kernel
theorem dX8_mark_36 : decode cX8_mark 36 = .ok (.if_icmp .ge 51, 3) := by decide +kernel
theorem dX8_mark_87 : decode cX8_mark 87 = .ok (.aload_n 0, 1) := by decide +kernel
theorem dX8_mark_88 : decode cX8_mark 88 = .ok (.dup, 1) := by decide +kernel
theorem dX8_mark_89 : decode cX8_mark 89 = .ok (.getfield 303, 3) := by decide +kernel
theorem dX8_mark_92 : decode cX8_mark 92 = .ok (.iconst 1, 1) := by decide +kernel
theorem dX8_mark_93 : decode cX8_mark 93 = .ok (.iadd, 1) := by decide +kernel
theorem dX8_mark_94 : decode cX8_mark 94 = .ok (.putfield 303, 3) := by decide +kernel
theorem zu_X8_303 : zz_fw RX8 303 7 33 false .int := ⟨RX8, TX8, 37, tyX8, rfl, zi_X8, by decide, zk_768, tyX8_ok, nmX8, rfl, by decide +kernel, fun h => by cases h⟩
theorem dX8_mark_97 : decode cX8_mark 97 = .ok (.aload_n 0, 1) := by decide +kernel
theorem dX8_mark_98 : decode cX8_mark 98 = .ok (.aload_n 0, 1) := by decide +kernel
theorem dX8_mark_99 : decode cX8_mark 99 = .ok (.getfield 303, 3) := by decide +kernel
theorem dX8_mark_102 : decode cX8_mark 102 = .ok (.invokevirtual 183, 3) := by decide +kernel
theorem dX8_mark_105 : decode cX8_mark 105 = .ok (.ireturn, 1) := by decide +kernel
def fn_my_mark  : Int32 := 1
abbrev rm_my_mark : Room := { frames := 1, cells := 0, slots := 0, locals := 21 }
abbrev po_my_mark (g : zz_G) (h0 : Nat) (a_kindOf : Nat) (a_depthOf : Nat) (a_lengthOf : Nat) (a_classOf : Nat) (a_baseOf : Nat) (a_bits : Nat) (a_pinned : Nat) (a_lengths : Nat) (a_stackArray : Nat) (a_stackOther : Nat) (a_stackAt : Nat) (a_path : Nat) (a_held : Nat) (a_alike : Nat) (a_hashes : Nat) (a_decisionArray : Nat) (a_decisionPlace : Nat) (a_candidateMany : Nat) (a_candidates : Nat) (a_ruleSort : Nat) (a_ruleArray : Nat) (a_ruleWeight : Nat) (a_ruleLow : Nat) (a_ruleHigh : Nat) (a_chosen : Nat) (a_bestOf : Nat) (a_markElements : Nat) (a_markBits : Nat) (a_markPins : Nat) : Int32 → va_W → Prop := fun (r : Int32) (u : va_W) => r = fn_my_mark
set_option maxHeartbeats 4000000 in
set_option maxRecDepth 100000 in
theorem my_mark (g : zz_G) (h0 : Nat) (a_kindOf : Nat) (a_depthOf : Nat) (a_lengthOf : Nat) (a_classOf : Nat) (a_baseOf : Nat) (a_bits : Nat) (a_pinned : Nat) (a_lengths : Nat) (a_stackArray : Nat) (a_stackOther : Nat) (a_stackAt : Nat) (a_path : Nat) (a_held : Nat) (a_alike : Nat) (a_hashes : Nat) (a_decisionArray : Nat) (a_decisionPlace : Nat) (a_candidateMany : Nat) (a_candidates : Nat) (a_ruleSort : Nat) (a_ruleArray : Nat) (a_ruleWeight : Nat) (a_ruleLow : Nat) (a_ruleHigh : Nat) (a_chosen : Nat) (a_bestOf : Nat) (a_markElements : Nat) (a_markBits : Nat) (a_markPins : Nat) : zz_I g yX8_mark (.code yX8_mark cX8_mark 2 (some .int)) rm_my_mark [.ref h0] [(h0, .inr (7, [.int 0, .int 0, .ref a_kindOf, .ref a_depthOf, .ref a_lengthOf, .ref a_classOf, .ref a_baseOf, .ref a_bits, .ref a_pinned, .int 0, .ref a_lengths, .ref a_stackArray, .ref a_stackOther, .ref a_stackAt, .int 0, .int 0, .ref a_path, .ref a_held, .ref a_alike, .ref a_hashes, .int 0, .ref a_decisionArray, .ref a_decisionPlace, .ref a_candidateMany, .ref a_candidates, .int 0, .ref a_ruleSort, .ref a_ruleArray, .ref a_ruleWeight, .ref a_ruleLow, .ref a_ruleHigh, .ref a_chosen, .ref a_bestOf, .int 0, .ref a_markElements, .ref a_markBits, .ref a_markPins])), (a_markElements, .inl (g.2.1, 8, .inl (fun _ => 0)))] (po_my_mark g h0 a_kindOf a_depthOf a_lengthOf a_classOf a_baseOf a_bits a_pinned a_lengths a_stackArray a_stackOther a_stackAt a_path a_held a_alike a_hashes a_decisionArray a_decisionPlace a_candidateMany a_candidates a_ruleSort a_ruleArray a_ruleWeight a_ruleLow a_ruleHigh a_chosen a_bestOf a_markElements a_markBits a_markPins) := by
  refine zz_I.intro (own := RX8) (cc := cX8_mark) (nL := 2) (by decide) rfl (Nat.le_of_ble_eq_true rfl) ?_
  intro p l e s m args below meth c A H locs ls hC hnm hZ hl
  obtain ⟨hx, hb, hml, hown, hts, hr, hlocks, hK⟩ := id hC
  have hl : lv_has ls 2 [(0, .ref h0)] := hl
  have hZ : zz_Z g A s.heap [(h0, .inr (7, [.int 0, .int 0, .ref a_kindOf, .ref a_depthOf, .ref a_lengthOf, .ref a_classOf, .ref a_baseOf, .ref a_bits, .ref a_pinned, .int 0, .ref a_lengths, .ref a_stackArray, .ref a_stackOther, .ref a_stackAt, .int 0, .int 0, .ref a_path, .ref a_held, .ref a_alike, .ref a_hashes, .int 0, .ref a_decisionArray, .ref a_decisionPlace, .ref a_candidateMany, .ref a_candidates, .int 0, .ref a_ruleSort, .ref a_ruleArray, .ref a_ruleWeight, .ref a_ruleLow, .ref a_ruleHigh, .ref a_chosen, .ref a_bestOf, .int 0, .ref a_markElements, .ref a_markBits, .ref a_markPins])), (a_markElements, .inl (g.2.1, 8, .inl (fun _ => 0)))] H locs := hZ
  refine lv_aload_n hx hb dX8_mark_0 rfl (lv_at hl 0 rfl) ?_
  refine zz_get hC hZ 0 rfl zf_X8_303 rfl dX8_mark_1 ?_
  refine lv_bipush (v := 8) hx hb dX8_mark_4 (by decide) ?_
  refine lv_icmp_ne (tgt := 16) hx hb dX8_mark_6 (by decide) (fun c1 => ?_) (fun c => absurd c (by decide))
  refine lv_aload_n hx hb dX8_mark_16 rfl (lv_at hl 0 rfl) ?_
  refine zz_get hC hZ 0 rfl zf_X8_90 rfl dX8_mark_17 ?_
  refine lv_aload_n hx hb dX8_mark_20 rfl (lv_at hl 0 rfl) ?_
  refine zz_get hC hZ 0 rfl zf_X8_303 rfl dX8_mark_21 ?_
  refine lv_aload_n hx hb dX8_mark_24 rfl (lv_at hl 0 rfl) ?_
  refine zz_get hC hZ 0 rfl zf_X8_186 rfl dX8_mark_25 ?_
  refine zz_iast hC hZ 1 rfl (by unfold vp_in; decide) dX8_mark_28 (fun H locs hZ => ?_)
  have hZ : zz_Z g A s.heap [(h0, .inr (7, [.int 0, .int 0, .ref a_kindOf, .ref a_depthOf, .ref a_lengthOf, .ref a_classOf, .ref a_baseOf, .ref a_bits, .ref a_pinned, .int 0, .ref a_lengths, .ref a_stackArray, .ref a_stackOther, .ref a_stackAt, .int 0, .int 0, .ref a_path, .ref a_held, .ref a_alike, .ref a_hashes, .int 0, .ref a_decisionArray, .ref a_decisionPlace, .ref a_candidateMany, .ref a_candidates, .int 0, .ref a_ruleSort, .ref a_ruleArray, .ref a_ruleWeight, .ref a_ruleLow, .ref a_ruleHigh, .ref a_chosen, .ref a_bestOf, .int 0, .ref a_markElements, .ref a_markBits, .ref a_markPins])), (a_markElements, .inl (g.2.1, 8, .inl (upd (fun _ => 0) ((0 : Int32).toNatClampNeg) 0)))] H locs := hZ
  refine lv_iconst (v := 0) hx hb dX8_mark_29 (by decide) ?_
  refine lv_istore_n (lv' := [(1, .int 0), (0, .ref h0)]) hx hb dX8_mark_30 rfl hl (by decide) rfl (fun ls hl => ?_)
  refine lv_iload_n hx hb dX8_mark_31 rfl (lv_at hl 0 rfl) ?_
  refine lv_aload_n hx hb dX8_mark_32 rfl (lv_at hl 1 rfl) ?_
  refine zz_get hC hZ 0 rfl zf_X8_186 rfl dX8_mark_33 ?_
  refine lv_icmp_ge (tgt := 87) hx hb dX8_mark_36 (by decide) (fun c2 => ?_) (fun c => absurd (by decide) c)
  refine lv_aload_n hx hb dX8_mark_87 rfl (lv_at hl 1 rfl) ?_
  refine lv_dup hx hb dX8_mark_88 rfl ?_
  refine zz_get hC hZ 0 rfl zf_X8_303 rfl dX8_mark_89 ?_
  refine lv_iconst (v := 1) hx hb dX8_mark_92 (by decide) ?_
  refine lv_iadd hx hb dX8_mark_93 ?_
  refine zz_topi (v := 1) (by decide) ?_
  refine zz_put hC hZ 0 rfl zu_X8_303 (Nat.le_of_ble_eq_true rfl) dX8_mark_94 (fun H locs hZ => ?_)
  have hZ : zz_Z g A s.heap [(h0, .inr (7, [.int 0, .int 0, .ref a_kindOf, .ref a_depthOf, .ref a_lengthOf, .ref a_classOf, .ref a_baseOf, .ref a_bits, .ref a_pinned, .int 0, .ref a_lengths, .ref a_stackArray, .ref a_stackOther, .ref a_stackAt, .int 0, .int 0, .ref a_path, .ref a_held, .ref a_alike, .ref a_hashes, .int 0, .ref a_decisionArray, .ref a_decisionPlace, .ref a_candidateMany, .ref a_candidates, .int 0, .ref a_ruleSort, .ref a_ruleArray, .ref a_ruleWeight, .ref a_ruleLow, .ref a_ruleHigh, .ref a_chosen, .ref a_bestOf, .int 1, .ref a_markElements, .ref a_markBits, .ref a_markPins])), (a_markElements, .inl (g.2.1, 8, .inl (upd (fun _ => 0) ((0 : Int32).toNatClampNeg) 0)))] H locs := hZ
  refine lv_aload_n hx hb dX8_mark_97 rfl (lv_at hl 1 rfl) ?_
  refine lv_aload_n hx hb dX8_mark_98 rfl (lv_at hl 1 rfl) ?_
  refine zz_get hC hZ 0 rfl zf_X8_303 rfl dX8_mark_99 ?_
  refine zz_iV (As := [.int 1]) (wc := [(h0, .inr (7, [.int 0, .int 0, .ref a_kindOf, .ref a_depthOf, .ref a_lengthOf, .ref a_classOf, .ref a_baseOf, .ref a_bits, .ref a_pinned, .int 0, .ref a_lengths, .ref a_stackArray, .ref a_stackOther, .ref a_stackAt, .int 0, .int 0, .ref a_path, .ref a_held, .ref a_alike, .ref a_hashes, .int 0, .ref a_decisionArray, .ref a_decisionPlace, .ref a_candidateMany, .ref a_candidates, .int 0, .ref a_ruleSort, .ref a_ruleArray, .ref a_ruleWeight, .ref a_ruleLow, .ref a_ruleHigh, .ref a_chosen, .ref a_bestOf, .int 1, .ref a_markElements, .ref a_markBits, .ref a_markPins]))]) (wr := [(a_markElements, .inl (g.2.1, 8, .inl (upd (fun _ => 0) ((0 : Int32).toNatClampNeg) 0)))]) (rest := []) hC hZ hl zc_X8_183 (cm_fine g h0 a_kindOf a_depthOf a_lengthOf a_classOf a_baseOf a_bits a_pinned a_lengths a_stackArray a_stackOther a_stackAt a_path a_held a_alike a_hashes a_decisionArray a_decisionPlace a_candidateMany a_candidates a_ruleSort a_ruleArray a_ruleWeight a_ruleLow a_ruleHigh a_chosen a_bestOf a_markElements a_markBits a_markPins 0 0 0 0 0 0 0 1 1) [0] [1] rfl rfl (by decide) (ci := 7) (q0 := 0) rfl rfl rfl rfl (Nat.le_of_ble_eq_true rfl) ⟨⟨Nat.le_of_ble_eq_true rfl, Nat.le_of_ble_eq_true rfl⟩, Nat.le_of_ble_eq_true rfl, Nat.le_of_ble_eq_true rfl⟩ dX8_mark_102 (fun r3 u4 H locs hp hZ => ?_)
  obtain ⟨rfl, rfl⟩ := hp
  have hZ : zz_Z g A s.heap [(a_markElements, .inl (g.2.1, 8, .inl (upd (fun _ => 0) ((0 : Int32).toNatClampNeg) 0))), (h0, .inr (7, [.int 0, .int 0, .ref a_kindOf, .ref a_depthOf, .ref a_lengthOf, .ref a_classOf, .ref a_baseOf, .ref a_bits, .ref a_pinned, .int 0, .ref a_lengths, .ref a_stackArray, .ref a_stackOther, .ref a_stackAt, .int 0, .int 0, .ref a_path, .ref a_held, .ref a_alike, .ref a_hashes, .int 0, .ref a_decisionArray, .ref a_decisionPlace, .ref a_candidateMany, .ref a_candidates, .int 0, .ref a_ruleSort, .ref a_ruleArray, .ref a_ruleWeight, .ref a_ruleLow, .ref a_ruleHigh, .ref a_chosen, .ref a_bestOf, .int 1, .ref a_markElements, .ref a_markBits, .ref a_markPins]))] H locs := hZ
  exact zz_iret hC hZ (rfl) (Nat.le_of_ble_eq_true rfl) (Nat.le_of_ble_eq_true rfl) dX8_mark_105
theorem dX8_back_0 : decode cX8_back 0 = .ok (.aload_n 0, 1) := by decide +kernel
theorem dX8_back_1 : decode cX8_back 1 = .ok (.getfield 303, 3) := by decide +kernel
theorem dX8_back_4 : decode cX8_back 4 = .ok (.ifCond .ne 10, 3) := by decide +kernel
theorem dX8_back_7 : decode cX8_back 7 = .ok (.aload_n 0, 1) := by decide +kernel
theorem dX8_back_8 : decode cX8_back 8 = .ok (.bipush 9, 2) := by decide +kernel
theorem dX8_back_10 : decode cX8_back 10 = .ok (.invokevirtual 175, 3) := by decide +kernel
theorem dX8_back_13 : decode cX8_back 13 = .ok (.ireturn, 1) := by decide +kernel
def fn_my_back  : Int32 := -9
abbrev rm_my_back : Room := { frames := 1, cells := 0, slots := 0, locals := 21 }
abbrev po_my_back (g : zz_G) (h0 : Nat) (a_kindOf : Nat) (a_depthOf : Nat) (a_lengthOf : Nat) (a_classOf : Nat) (a_baseOf : Nat) (a_bits : Nat) (a_pinned : Nat) (a_lengths : Nat) (a_stackArray : Nat) (a_stackOther : Nat) (a_stackAt : Nat) (a_path : Nat) (a_held : Nat) (a_alike : Nat) (a_hashes : Nat) (a_decisionArray : Nat) (a_decisionPlace : Nat) (a_candidateMany : Nat) (a_candidates : Nat) (a_ruleSort : Nat) (a_ruleArray : Nat) (a_ruleWeight : Nat) (a_ruleLow : Nat) (a_ruleHigh : Nat) (a_chosen : Nat) (a_bestOf : Nat) (a_markElements : Nat) (a_markBits : Nat) (a_markPins : Nat) : Int32 → va_W → Prop := fun (r : Int32) (u : va_W) => r = fn_my_back
set_option maxHeartbeats 4000000 in
set_option maxRecDepth 100000 in
theorem my_back (g : zz_G) (h0 : Nat) (a_kindOf : Nat) (a_depthOf : Nat) (a_lengthOf : Nat) (a_classOf : Nat) (a_baseOf : Nat) (a_bits : Nat) (a_pinned : Nat) (a_lengths : Nat) (a_stackArray : Nat) (a_stackOther : Nat) (a_stackAt : Nat) (a_path : Nat) (a_held : Nat) (a_alike : Nat) (a_hashes : Nat) (a_decisionArray : Nat) (a_decisionPlace : Nat) (a_candidateMany : Nat) (a_candidates : Nat) (a_ruleSort : Nat) (a_ruleArray : Nat) (a_ruleWeight : Nat) (a_ruleLow : Nat) (a_ruleHigh : Nat) (a_chosen : Nat) (a_bestOf : Nat) (a_markElements : Nat) (a_markBits : Nat) (a_markPins : Nat) : zz_I g yX8_back (.code yX8_back cX8_back 2 (some .int)) rm_my_back [.ref h0] [(h0, .inr (7, [.int 0, .int 0, .ref a_kindOf, .ref a_depthOf, .ref a_lengthOf, .ref a_classOf, .ref a_baseOf, .ref a_bits, .ref a_pinned, .int 0, .ref a_lengths, .ref a_stackArray, .ref a_stackOther, .ref a_stackAt, .int 0, .int 0, .ref a_path, .ref a_held, .ref a_alike, .ref a_hashes, .int 0, .ref a_decisionArray, .ref a_decisionPlace, .ref a_candidateMany, .ref a_candidates, .int 0, .ref a_ruleSort, .ref a_ruleArray, .ref a_ruleWeight, .ref a_ruleLow, .ref a_ruleHigh, .ref a_chosen, .ref a_bestOf, .int 0, .ref a_markElements, .ref a_markBits, .ref a_markPins]))] (po_my_back g h0 a_kindOf a_depthOf a_lengthOf a_classOf a_baseOf a_bits a_pinned a_lengths a_stackArray a_stackOther a_stackAt a_path a_held a_alike a_hashes a_decisionArray a_decisionPlace a_candidateMany a_candidates a_ruleSort a_ruleArray a_ruleWeight a_ruleLow a_ruleHigh a_chosen a_bestOf a_markElements a_markBits a_markPins) := by
  refine zz_I.intro (own := RX8) (cc := cX8_back) (nL := 2) (by decide) rfl (Nat.le_of_ble_eq_true rfl) ?_
  intro p l e s m args below meth c A H locs ls hC hnm hZ hl
  obtain ⟨hx, hb, hml, hown, hts, hr, hlocks, hK⟩ := id hC
  have hl : lv_has ls 2 [(0, .ref h0)] := hl
  have hZ : zz_Z g A s.heap [(h0, .inr (7, [.int 0, .int 0, .ref a_kindOf, .ref a_depthOf, .ref a_lengthOf, .ref a_classOf, .ref a_baseOf, .ref a_bits, .ref a_pinned, .int 0, .ref a_lengths, .ref a_stackArray, .ref a_stackOther, .ref a_stackAt, .int 0, .int 0, .ref a_path, .ref a_held, .ref a_alike, .ref a_hashes, .int 0, .ref a_decisionArray, .ref a_decisionPlace, .ref a_candidateMany, .ref a_candidates, .int 0, .ref a_ruleSort, .ref a_ruleArray, .ref a_ruleWeight, .ref a_ruleLow, .ref a_ruleHigh, .ref a_chosen, .ref a_bestOf, .int 0, .ref a_markElements, .ref a_markBits, .ref a_markPins]))] H locs := hZ
  refine lv_aload_n hx hb dX8_back_0 rfl (lv_at hl 0 rfl) ?_
  refine zz_get hC hZ 0 rfl zf_X8_303 rfl dX8_back_1 ?_
  refine lv_if_ne (tgt := 14) hx hb dX8_back_4 (by decide) (fun c => absurd (by decide) c) (fun c1 => ?_)
  refine lv_aload_n hx hb dX8_back_7 rfl (lv_at hl 0 rfl) ?_
  refine lv_bipush (v := 9) hx hb dX8_back_8 (by decide) ?_
  refine zz_iV (As := [.int 9]) (wc := [(h0, .inr (7, [.int 0, .int 0, .ref a_kindOf, .ref a_depthOf, .ref a_lengthOf, .ref a_classOf, .ref a_baseOf, .ref a_bits, .ref a_pinned, .int 0, .ref a_lengths, .ref a_stackArray, .ref a_stackOther, .ref a_stackAt, .int 0, .int 0, .ref a_path, .ref a_held, .ref a_alike, .ref a_hashes, .int 0, .ref a_decisionArray, .ref a_decisionPlace, .ref a_candidateMany, .ref a_candidates, .int 0, .ref a_ruleSort, .ref a_ruleArray, .ref a_ruleWeight, .ref a_ruleLow, .ref a_ruleHigh, .ref a_chosen, .ref a_bestOf, .int 0, .ref a_markElements, .ref a_markBits, .ref a_markPins]))]) (wr := []) (rest := []) hC hZ hl zc_X8_175 (cm_fails g h0 a_kindOf a_depthOf a_lengthOf a_classOf a_baseOf a_bits a_pinned a_lengths a_stackArray a_stackOther a_stackAt a_path a_held a_alike a_hashes a_decisionArray a_decisionPlace a_candidateMany a_candidates a_ruleSort a_ruleArray a_ruleWeight a_ruleLow a_ruleHigh a_chosen a_bestOf a_markElements a_markBits a_markPins 0 0 0 0 0 0 0 0 9) [0] [] rfl rfl (by decide) (ci := 7) (q0 := 0) rfl rfl rfl rfl (Nat.le_of_ble_eq_true rfl) ⟨⟨Nat.le_of_ble_eq_true rfl, Nat.le_of_ble_eq_true rfl⟩, Nat.le_of_ble_eq_true rfl, Nat.le_of_ble_eq_true rfl⟩ dX8_back_10 (fun r2 u3 H locs hp hZ => ?_)
  obtain ⟨rfl, rfl⟩ := hp
  have hZ : zz_Z g A s.heap [(h0, .inr (7, [.int 0, .int 0, .ref a_kindOf, .ref a_depthOf, .ref a_lengthOf, .ref a_classOf, .ref a_baseOf, .ref a_bits, .ref a_pinned, .int 9, .ref a_lengths, .ref a_stackArray, .ref a_stackOther, .ref a_stackAt, .int 0, .int 0, .ref a_path, .ref a_held, .ref a_alike, .ref a_hashes, .int 0, .ref a_decisionArray, .ref a_decisionPlace, .ref a_candidateMany, .ref a_candidates, .int 0, .ref a_ruleSort, .ref a_ruleArray, .ref a_ruleWeight, .ref a_ruleLow, .ref a_ruleHigh, .ref a_chosen, .ref a_bestOf, .int 0, .ref a_markElements, .ref a_markBits, .ref a_markPins]))] H locs := hZ
  exact zz_iret hC hZ (rfl) (Nat.le_of_ble_eq_true rfl) (Nat.le_of_ble_eq_true rfl) dX8_back_13
theorem dX8_count_0 : decode cX8_count 0 = .ok (.iload_n 1, 1) := by decide +kernel
theorem dX8_count_1 : decode cX8_count 1 = .ok (.i2l, 1) := by decide +kernel
theorem dX8_count_2 : decode cX8_count 2 = .ok (.lconst 0, 1) := by decide +kernel
theorem dX8_count_3 : decode cX8_count 3 = .ok (.ldc2_w 210, 3) := by decide +kernel
theorem dX8_count_6 : decode cX8_count 6 = .ok (.invokestatic 106, 3) := by decide +kernel
theorem dX8_count_9 : decode cX8_count 9 = .ok (.ifCond .ne 10, 3) := by decide +kernel
theorem dX8_count_19 : decode cX8_count 19 = .ok (.aload_n 0, 1) := by decide +kernel
theorem dX8_count_20 : decode cX8_count 20 = .ok (.iload_n 1, 1) := by decide +kernel
theorem dX8_count_21 : decode cX8_count 21 = .ok (.ifCond .ne 10, 3) := by decide +kernel
theorem dX8_count_31 : decode cX8_count 31 = .ok (.iload_n 1, 1) := by decide +kernel
theorem dX8_count_32 : decode cX8_count 32 = .ok (.iconst 1, 1) := by decide +kernel
theorem dX8_count_33 : decode cX8_count 33 = .ok (.if_icmp .ne 10, 3) := by decide +kernel
theorem dX8_count_43 : decode cX8_count 43 = .ok (.iload_n 1, 1) := by decide +kernel
theorem dX8_count_44 : decode cX8_count 44 = .ok (.iconst 2, 1) := by decide +kernel
theorem dX8_count_45 : decode cX8_count 45 = .ok (.if_icmp .ne 10, 3) := by decide +kernel
theorem dX8_count_55 : decode cX8_count 55 = .ok (.iload_n 1, 1) := by decide +kernel
theorem dX8_count_56 : decode cX8_count 56 = .ok (.iconst 3, 1) := by decide +kernel
theorem dX8_count_57 : decode cX8_count 57 = .ok (.if_icmp .ne 10, 3) := by decide +kernel
theorem dX8_count_67 : decode cX8_count 67 = .ok (.iload_n 1, 1) := by decide +kernel
theorem dX8_count_68 : decode cX8_count 68 = .ok (.iconst 4, 1) := by decide +kernel
theorem dX8_count_69 : decode cX8_count 69 = .ok (.if_icmp .ne 10, 3) := by decide +kernel
theorem dX8_count_79 : decode cX8_count 79 = .ok (.aload_n 0, 1) := by decide +kernel
theorem dX8_count_80 : decode cX8_count 80 = .ok (.invokevirtual 292, 3) := by decide +kernel
theorem dX8_count_83 : decode cX8_count 83 = .ok (.invokevirtual 183, 3) := by decide +kernel
theorem dX8_count_86 : decode cX8_count 86 = .ok (.ireturn, 1) := by decide +kernel
theorem dX8_count_72 : decode cX8_count 72 = .ok (.aload_n 0, 1) := by decide +kernel
theorem dX8_count_73 : decode cX8_count 73 = .ok (.getfield 303, 3) := by decide +kernel
theorem dX8_count_76 : decode cX8_count 76 = .ok (.goto 7, 3) := by decide +kernel
theorem dX8_count_60 : decode cX8_count 60 = .ok (.aload_n 0, 1) := by decide +kernel
theorem dX8_count_61 : decode cX8_count 61 = .ok (.getfield 265, 3) := by decide +kernel
theorem dX8_count_64 : decode cX8_count 64 = .ok (.goto 19, 3) := by decide +kernel
theorem dX8_count_48 : decode cX8_count 48 = .ok (.aload_n 0, 1) := by decide +kernel
theorem dX8_count_49 : decode cX8_count 49 = .ok (.getfield 248, 3) := by decide +kernel
theorem dX8_count_52 : decode cX8_count 52 = .ok (.goto 31, 3) := by decide +kernel
theorem dX8_count_36 : decode cX8_count 36 = .ok (.aload_n 0, 1) := by decide +kernel
theorem dX8_count_37 : decode cX8_count 37 = .ok (.getfield 186, 3) := by decide +kernel
theorem dX8_count_40 : decode cX8_count 40 = .ok (.goto 43, 3) := by decide +kernel
theorem dX8_count_24 : decode cX8_count 24 = .ok (.aload_n 0, 1) := by decide +kernel
theorem dX8_count_25 : decode cX8_count 25 = .ok (.getfield 103, 3) := by decide +kernel
theorem dX8_count_28 : decode cX8_count 28 = .ok (.goto 55, 3) := by decide +kernel
theorem dX8_count_12 : decode cX8_count 12 = .ok (.aload_n 0, 1) := by decide +kernel
theorem dX8_count_13 : decode cX8_count 13 = .ok (.bipush 9, 2) := by decide +kernel
theorem dX8_count_15 : decode cX8_count 15 = .ok (.invokevirtual 175, 3) := by decide +kernel
theorem dX8_count_18 : decode cX8_count 18 = .ok (.ireturn, 1) := by decide +kernel
def fn_my_count (x1 : Int32) : Int32 := (if (fn_cm_within x1.toInt64 0 5) = 0 then -9 else (if x1 = 0 then 0 else (if x1 = 1 then 0 else (if x1 = 2 then 0 else (if x1 = 3 then 0 else (if x1 = 4 then 0 else 1))))))
abbrev rm_my_count : Room := { frames := 1, cells := 0, slots := 0, locals := 25 }
abbrev po_my_count (g : zz_G) (h0 : Nat) (a_kindOf : Nat) (a_depthOf : Nat) (a_lengthOf : Nat) (a_classOf : Nat) (a_baseOf : Nat) (a_bits : Nat) (a_pinned : Nat) (a_lengths : Nat) (a_stackArray : Nat) (a_stackOther : Nat) (a_stackAt : Nat) (a_path : Nat) (a_held : Nat) (a_alike : Nat) (a_hashes : Nat) (a_decisionArray : Nat) (a_decisionPlace : Nat) (a_candidateMany : Nat) (a_candidates : Nat) (a_ruleSort : Nat) (a_ruleArray : Nat) (a_ruleWeight : Nat) (a_ruleLow : Nat) (a_ruleHigh : Nat) (a_chosen : Nat) (a_bestOf : Nat) (a_markElements : Nat) (a_markBits : Nat) (a_markPins : Nat) (x1 : Int32) : Int32 → va_W → Prop := fun (r : Int32) (u : va_W) => r = fn_my_count x1
set_option maxHeartbeats 4000000 in
set_option maxRecDepth 100000 in
theorem my_count (g : zz_G) (h0 : Nat) (a_kindOf : Nat) (a_depthOf : Nat) (a_lengthOf : Nat) (a_classOf : Nat) (a_baseOf : Nat) (a_bits : Nat) (a_pinned : Nat) (a_lengths : Nat) (a_stackArray : Nat) (a_stackOther : Nat) (a_stackAt : Nat) (a_path : Nat) (a_held : Nat) (a_alike : Nat) (a_hashes : Nat) (a_decisionArray : Nat) (a_decisionPlace : Nat) (a_candidateMany : Nat) (a_candidates : Nat) (a_ruleSort : Nat) (a_ruleArray : Nat) (a_ruleWeight : Nat) (a_ruleLow : Nat) (a_ruleHigh : Nat) (a_chosen : Nat) (a_bestOf : Nat) (a_markElements : Nat) (a_markBits : Nat) (a_markPins : Nat) (x1 : Int32) : zz_I g yX8_count (.code yX8_count cX8_count 2 (some .int)) rm_my_count [.ref h0, .int x1] [(h0, .inr (7, [.int 0, .int 0, .ref a_kindOf, .ref a_depthOf, .ref a_lengthOf, .ref a_classOf, .ref a_baseOf, .ref a_bits, .ref a_pinned, .int 0, .ref a_lengths, .ref a_stackArray, .ref a_stackOther, .ref a_stackAt, .int 0, .int 0, .ref a_path, .ref a_held, .ref a_alike, .ref a_hashes, .int 0, .ref a_decisionArray, .ref a_decisionPlace, .ref a_candidateMany, .ref a_candidates, .int 0, .ref a_ruleSort, .ref a_ruleArray, .ref a_ruleWeight, .ref a_ruleLow, .ref a_ruleHigh, .ref a_chosen, .ref a_bestOf, .int 0, .ref a_markElements, .ref a_markBits, .ref a_markPins]))] (po_my_count g h0 a_kindOf a_depthOf a_lengthOf a_classOf a_baseOf a_bits a_pinned a_lengths a_stackArray a_stackOther a_stackAt a_path a_held a_alike a_hashes a_decisionArray a_decisionPlace a_candidateMany a_candidates a_ruleSort a_ruleArray a_ruleWeight a_ruleLow a_ruleHigh a_chosen a_bestOf a_markElements a_markBits a_markPins x1) := by
  refine zz_I.intro (own := RX8) (cc := cX8_count) (nL := 2) (by decide) rfl (Nat.le_of_ble_eq_true rfl) ?_
  intro p l e s m args below meth c A H locs ls hC hnm hZ hl
  obtain ⟨hx, hb, hml, hown, hts, hr, hlocks, hK⟩ := id hC
  have hl : lv_has ls 2 [(0, .ref h0), (1, .int x1)] := hl
  have hZ : zz_Z g A s.heap [(h0, .inr (7, [.int 0, .int 0, .ref a_kindOf, .ref a_depthOf, .ref a_lengthOf, .ref a_classOf, .ref a_baseOf, .ref a_bits, .ref a_pinned, .int 0, .ref a_lengths, .ref a_stackArray, .ref a_stackOther, .ref a_stackAt, .int 0, .int 0, .ref a_path, .ref a_held, .ref a_alike, .ref a_hashes, .int 0, .ref a_decisionArray, .ref a_decisionPlace, .ref a_candidateMany, .ref a_candidates, .int 0, .ref a_ruleSort, .ref a_ruleArray, .ref a_ruleWeight, .ref a_ruleLow, .ref a_ruleHigh, .ref a_chosen, .ref a_bestOf, .int 0, .ref a_markElements, .ref a_markBits, .ref a_markPins]))] H locs := hZ
  refine lv_iload_n hx hb dX8_count_0 rfl (lv_at hl 1 rfl) ?_
  refine lv_i2l hx hb dX8_count_1 rfl ?_
  refine lv_lconst (v := 0) hx hb dX8_count_2 (by decide) ?_
  refine lv_ldc2 hx hb hown (hts _ zk_908) dX8_count_3 ?_
  refine zz_iS (As := [.long x1.toInt64, .long 0, .long 5]) (wc := []) (wr := [(h0, .inr (7, [.int 0, .int 0, .ref a_kindOf, .ref a_depthOf, .ref a_lengthOf, .ref a_classOf, .ref a_baseOf, .ref a_bits, .ref a_pinned, .int 0, .ref a_lengths, .ref a_stackArray, .ref a_stackOther, .ref a_stackAt, .int 0, .int 0, .ref a_path, .ref a_held, .ref a_alike, .ref a_hashes, .int 0, .ref a_decisionArray, .ref a_decisionPlace, .ref a_candidateMany, .ref a_candidates, .int 0, .ref a_ruleSort, .ref a_ruleArray, .ref a_ruleWeight, .ref a_ruleLow, .ref a_ruleHigh, .ref a_chosen, .ref a_bestOf, .int 0, .ref a_markElements, .ref a_markBits, .ref a_markPins]))]) (rest := []) hC hZ hl zc_X8_106 (cm_within g x1.toInt64 0 5) [] [0] rfl rfl (by decide) rfl rfl (Nat.le_of_ble_eq_true rfl) ⟨⟨Nat.le_of_ble_eq_true rfl, Nat.le_of_ble_eq_true rfl⟩, Nat.le_of_ble_eq_true rfl, Nat.le_of_ble_eq_true rfl⟩ dX8_count_6 (fun r1 u2 H locs hp hZ => ?_)
  obtain ⟨rfl, rfl⟩ := hp
  have hZ : zz_Z g A s.heap [(h0, .inr (7, [.int 0, .int 0, .ref a_kindOf, .ref a_depthOf, .ref a_lengthOf, .ref a_classOf, .ref a_baseOf, .ref a_bits, .ref a_pinned, .int 0, .ref a_lengths, .ref a_stackArray, .ref a_stackOther, .ref a_stackAt, .int 0, .int 0, .ref a_path, .ref a_held, .ref a_alike, .ref a_hashes, .int 0, .ref a_decisionArray, .ref a_decisionPlace, .ref a_candidateMany, .ref a_candidates, .int 0, .ref a_ruleSort, .ref a_ruleArray, .ref a_ruleWeight, .ref a_ruleLow, .ref a_ruleHigh, .ref a_chosen, .ref a_bestOf, .int 0, .ref a_markElements, .ref a_markBits, .ref a_markPins]))] H locs := hZ
  refine lv_if_ne (tgt := 19) hx hb dX8_count_9 (by decide) (fun c3 => ?_) (fun c3 => ?_)
  · refine lv_aload_n hx hb dX8_count_19 rfl (lv_at hl 0 rfl) ?_
    refine lv_iload_n hx hb dX8_count_20 rfl (lv_at hl 1 rfl) ?_
    refine lv_if_ne (tgt := 31) hx hb dX8_count_21 (by decide) (fun c4 => ?_) (fun c4 => ?_)
    · refine lv_iload_n hx hb dX8_count_31 rfl (lv_at hl 1 rfl) ?_
      refine lv_iconst (v := 1) hx hb dX8_count_32 (by decide) ?_
      refine lv_icmp_ne (tgt := 43) hx hb dX8_count_33 (by decide) (fun c5 => ?_) (fun c5 => ?_)
      · refine lv_iload_n hx hb dX8_count_43 rfl (lv_at hl 1 rfl) ?_
        refine lv_iconst (v := 2) hx hb dX8_count_44 (by decide) ?_
        refine lv_icmp_ne (tgt := 55) hx hb dX8_count_45 (by decide) (fun c6 => ?_) (fun c6 => ?_)
        · refine lv_iload_n hx hb dX8_count_55 rfl (lv_at hl 1 rfl) ?_
          refine lv_iconst (v := 3) hx hb dX8_count_56 (by decide) ?_
          refine lv_icmp_ne (tgt := 67) hx hb dX8_count_57 (by decide) (fun c7 => ?_) (fun c7 => ?_)
          · refine lv_iload_n hx hb dX8_count_67 rfl (lv_at hl 1 rfl) ?_
            refine lv_iconst (v := 4) hx hb dX8_count_68 (by decide) ?_
            refine lv_icmp_ne (tgt := 79) hx hb dX8_count_69 (by decide) (fun c8 => ?_) (fun c8 => ?_)
            · refine lv_aload_n hx hb dX8_count_79 rfl (lv_at hl 0 rfl) ?_
              refine zz_iV (As := []) (wc := [(h0, .inr (7, [.int 0, .int 0, .ref a_kindOf, .ref a_depthOf, .ref a_lengthOf, .ref a_classOf, .ref a_baseOf, .ref a_bits, .ref a_pinned, .int 0, .ref a_lengths, .ref a_stackArray, .ref a_stackOther, .ref a_stackAt, .int 0, .int 0, .ref a_path, .ref a_held, .ref a_alike, .ref a_hashes, .int 0, .ref a_decisionArray, .ref a_decisionPlace, .ref a_candidateMany, .ref a_candidates, .int 0, .ref a_ruleSort, .ref a_ruleArray, .ref a_ruleWeight, .ref a_ruleLow, .ref a_ruleHigh, .ref a_chosen, .ref a_bestOf, .int 0, .ref a_markElements, .ref a_markBits, .ref a_markPins]))]) (wr := []) (rest := [.ref h0]) hC hZ hl zc_X8_292 (cm_ways0 g h0 a_kindOf a_depthOf a_lengthOf a_classOf a_baseOf a_bits a_pinned a_lengths a_stackArray a_stackOther a_stackAt a_path a_held a_alike a_hashes a_decisionArray a_decisionPlace a_candidateMany a_candidates a_ruleSort a_ruleArray a_ruleWeight a_ruleLow a_ruleHigh a_chosen a_bestOf a_markElements a_markBits a_markPins) [0] [] rfl rfl (by decide) (ci := 7) (q0 := 0) rfl rfl rfl rfl (Nat.le_of_ble_eq_true rfl) ⟨⟨Nat.le_of_ble_eq_true rfl, Nat.le_of_ble_eq_true rfl⟩, Nat.le_of_ble_eq_true rfl, Nat.le_of_ble_eq_true rfl⟩ dX8_count_80 (fun r9 u10 H locs hp hZ => ?_)
              obtain ⟨rfl, rfl⟩ := hp
              have hZ : zz_Z g A s.heap [(h0, .inr (7, [.int 0, .int 0, .ref a_kindOf, .ref a_depthOf, .ref a_lengthOf, .ref a_classOf, .ref a_baseOf, .ref a_bits, .ref a_pinned, .int 0, .ref a_lengths, .ref a_stackArray, .ref a_stackOther, .ref a_stackAt, .int 0, .int 0, .ref a_path, .ref a_held, .ref a_alike, .ref a_hashes, .int 0, .ref a_decisionArray, .ref a_decisionPlace, .ref a_candidateMany, .ref a_candidates, .int 0, .ref a_ruleSort, .ref a_ruleArray, .ref a_ruleWeight, .ref a_ruleLow, .ref a_ruleHigh, .ref a_chosen, .ref a_bestOf, .int 0, .ref a_markElements, .ref a_markBits, .ref a_markPins]))] H locs := hZ
              refine zz_iV (As := [.int 1]) (wc := [(h0, .inr (7, [.int 0, .int 0, .ref a_kindOf, .ref a_depthOf, .ref a_lengthOf, .ref a_classOf, .ref a_baseOf, .ref a_bits, .ref a_pinned, .int 0, .ref a_lengths, .ref a_stackArray, .ref a_stackOther, .ref a_stackAt, .int 0, .int 0, .ref a_path, .ref a_held, .ref a_alike, .ref a_hashes, .int 0, .ref a_decisionArray, .ref a_decisionPlace, .ref a_candidateMany, .ref a_candidates, .int 0, .ref a_ruleSort, .ref a_ruleArray, .ref a_ruleWeight, .ref a_ruleLow, .ref a_ruleHigh, .ref a_chosen, .ref a_bestOf, .int 0, .ref a_markElements, .ref a_markBits, .ref a_markPins]))]) (wr := []) (rest := []) hC hZ hl zc_X8_183 (cm_fine g h0 a_kindOf a_depthOf a_lengthOf a_classOf a_baseOf a_bits a_pinned a_lengths a_stackArray a_stackOther a_stackAt a_path a_held a_alike a_hashes a_decisionArray a_decisionPlace a_candidateMany a_candidates a_ruleSort a_ruleArray a_ruleWeight a_ruleLow a_ruleHigh a_chosen a_bestOf a_markElements a_markBits a_markPins 0 0 0 0 0 0 0 0 1) [0] [] rfl rfl (by decide) (ci := 7) (q0 := 0) rfl rfl rfl rfl (Nat.le_of_ble_eq_true rfl) ⟨⟨Nat.le_of_ble_eq_true rfl, Nat.le_of_ble_eq_true rfl⟩, Nat.le_of_ble_eq_true rfl, Nat.le_of_ble_eq_true rfl⟩ dX8_count_83 (fun r11 u12 H locs hp hZ => ?_)
              obtain ⟨rfl, rfl⟩ := hp
              have hZ : zz_Z g A s.heap [(h0, .inr (7, [.int 0, .int 0, .ref a_kindOf, .ref a_depthOf, .ref a_lengthOf, .ref a_classOf, .ref a_baseOf, .ref a_bits, .ref a_pinned, .int 0, .ref a_lengths, .ref a_stackArray, .ref a_stackOther, .ref a_stackAt, .int 0, .int 0, .ref a_path, .ref a_held, .ref a_alike, .ref a_hashes, .int 0, .ref a_decisionArray, .ref a_decisionPlace, .ref a_candidateMany, .ref a_candidates, .int 0, .ref a_ruleSort, .ref a_ruleArray, .ref a_ruleWeight, .ref a_ruleLow, .ref a_ruleHigh, .ref a_chosen, .ref a_bestOf, .int 0, .ref a_markElements, .ref a_markBits, .ref a_markPins]))] H locs := hZ
              exact zz_iret hC hZ (by show _ = _; rw [fn_my_count, if_neg c3, if_neg c4, if_neg c5, if_neg c6, if_neg c7, if_neg c8]) (Nat.le_of_ble_eq_true rfl) (Nat.le_of_ble_eq_true rfl) dX8_count_86
            · refine lv_aload_n hx hb dX8_count_72 rfl (lv_at hl 0 rfl) ?_
              refine zz_get hC hZ 0 rfl zf_X8_303 rfl dX8_count_73 ?_
              refine lv_goto (tgt := 83) hx hb dX8_count_76 (by decide) ?_
              refine zz_iV (As := [.int 0]) (wc := [(h0, .inr (7, [.int 0, .int 0, .ref a_kindOf, .ref a_depthOf, .ref a_lengthOf, .ref a_classOf, .ref a_baseOf, .ref a_bits, .ref a_pinned, .int 0, .ref a_lengths, .ref a_stackArray, .ref a_stackOther, .ref a_stackAt, .int 0, .int 0, .ref a_path, .ref a_held, .ref a_alike, .ref a_hashes, .int 0, .ref a_decisionArray, .ref a_decisionPlace, .ref a_candidateMany, .ref a_candidates, .int 0, .ref a_ruleSort, .ref a_ruleArray, .ref a_ruleWeight, .ref a_ruleLow, .ref a_ruleHigh, .ref a_chosen, .ref a_bestOf, .int 0, .ref a_markElements, .ref a_markBits, .ref a_markPins]))]) (wr := []) (rest := []) hC hZ hl zc_X8_183 (cm_fine g h0 a_kindOf a_depthOf a_lengthOf a_classOf a_baseOf a_bits a_pinned a_lengths a_stackArray a_stackOther a_stackAt a_path a_held a_alike a_hashes a_decisionArray a_decisionPlace a_candidateMany a_candidates a_ruleSort a_ruleArray a_ruleWeight a_ruleLow a_ruleHigh a_chosen a_bestOf a_markElements a_markBits a_markPins 0 0 0 0 0 0 0 0 0) [0] [] rfl rfl (by decide) (ci := 7) (q0 := 0) rfl rfl rfl rfl (Nat.le_of_ble_eq_true rfl) ⟨⟨Nat.le_of_ble_eq_true rfl, Nat.le_of_ble_eq_true rfl⟩, Nat.le_of_ble_eq_true rfl, Nat.le_of_ble_eq_true rfl⟩ dX8_count_83 (fun r13 u14 H locs hp hZ => ?_)
              obtain ⟨rfl, rfl⟩ := hp
              have hZ : zz_Z g A s.heap [(h0, .inr (7, [.int 0, .int 0, .ref a_kindOf, .ref a_depthOf, .ref a_lengthOf, .ref a_classOf, .ref a_baseOf, .ref a_bits, .ref a_pinned, .int 0, .ref a_lengths, .ref a_stackArray, .ref a_stackOther, .ref a_stackAt, .int 0, .int 0, .ref a_path, .ref a_held, .ref a_alike, .ref a_hashes, .int 0, .ref a_decisionArray, .ref a_decisionPlace, .ref a_candidateMany, .ref a_candidates, .int 0, .ref a_ruleSort, .ref a_ruleArray, .ref a_ruleWeight, .ref a_ruleLow, .ref a_ruleHigh, .ref a_chosen, .ref a_bestOf, .int 0, .ref a_markElements, .ref a_markBits, .ref a_markPins]))] H locs := hZ
              exact zz_iret hC hZ (by show _ = _; rw [fn_my_count, if_neg c3, if_neg c4, if_neg c5, if_neg c6, if_neg c7, if_pos c8]) (Nat.le_of_ble_eq_true rfl) (Nat.le_of_ble_eq_true rfl) dX8_count_86
          · refine lv_aload_n hx hb dX8_count_60 rfl (lv_at hl 0 rfl) ?_
            refine zz_get hC hZ 0 rfl zf_X8_265 rfl dX8_count_61 ?_
            refine lv_goto (tgt := 83) hx hb dX8_count_64 (by decide) ?_
            refine zz_iV (As := [.int 0]) (wc := [(h0, .inr (7, [.int 0, .int 0, .ref a_kindOf, .ref a_depthOf, .ref a_lengthOf, .ref a_classOf, .ref a_baseOf, .ref a_bits, .ref a_pinned, .int 0, .ref a_lengths, .ref a_stackArray, .ref a_stackOther, .ref a_stackAt, .int 0, .int 0, .ref a_path, .ref a_held, .ref a_alike, .ref a_hashes, .int 0, .ref a_decisionArray, .ref a_decisionPlace, .ref a_candidateMany, .ref a_candidates, .int 0, .ref a_ruleSort, .ref a_ruleArray, .ref a_ruleWeight, .ref a_ruleLow, .ref a_ruleHigh, .ref a_chosen, .ref a_bestOf, .int 0, .ref a_markElements, .ref a_markBits, .ref a_markPins]))]) (wr := []) (rest := []) hC hZ hl zc_X8_183 (cm_fine g h0 a_kindOf a_depthOf a_lengthOf a_classOf a_baseOf a_bits a_pinned a_lengths a_stackArray a_stackOther a_stackAt a_path a_held a_alike a_hashes a_decisionArray a_decisionPlace a_candidateMany a_candidates a_ruleSort a_ruleArray a_ruleWeight a_ruleLow a_ruleHigh a_chosen a_bestOf a_markElements a_markBits a_markPins 0 0 0 0 0 0 0 0 0) [0] [] rfl rfl (by decide) (ci := 7) (q0 := 0) rfl rfl rfl rfl (Nat.le_of_ble_eq_true rfl) ⟨⟨Nat.le_of_ble_eq_true rfl, Nat.le_of_ble_eq_true rfl⟩, Nat.le_of_ble_eq_true rfl, Nat.le_of_ble_eq_true rfl⟩ dX8_count_83 (fun r15 u16 H locs hp hZ => ?_)
            obtain ⟨rfl, rfl⟩ := hp
            have hZ : zz_Z g A s.heap [(h0, .inr (7, [.int 0, .int 0, .ref a_kindOf, .ref a_depthOf, .ref a_lengthOf, .ref a_classOf, .ref a_baseOf, .ref a_bits, .ref a_pinned, .int 0, .ref a_lengths, .ref a_stackArray, .ref a_stackOther, .ref a_stackAt, .int 0, .int 0, .ref a_path, .ref a_held, .ref a_alike, .ref a_hashes, .int 0, .ref a_decisionArray, .ref a_decisionPlace, .ref a_candidateMany, .ref a_candidates, .int 0, .ref a_ruleSort, .ref a_ruleArray, .ref a_ruleWeight, .ref a_ruleLow, .ref a_ruleHigh, .ref a_chosen, .ref a_bestOf, .int 0, .ref a_markElements, .ref a_markBits, .ref a_markPins]))] H locs := hZ
            exact zz_iret hC hZ (by show _ = _; rw [fn_my_count, if_neg c3, if_neg c4, if_neg c5, if_neg c6, if_pos c7]) (Nat.le_of_ble_eq_true rfl) (Nat.le_of_ble_eq_true rfl) dX8_count_86
        · refine lv_aload_n hx hb dX8_count_48 rfl (lv_at hl 0 rfl) ?_
          refine zz_get hC hZ 0 rfl zf_X8_248 rfl dX8_count_49 ?_
          refine lv_goto (tgt := 83) hx hb dX8_count_52 (by decide) ?_
          refine zz_iV (As := [.int 0]) (wc := [(h0, .inr (7, [.int 0, .int 0, .ref a_kindOf, .ref a_depthOf, .ref a_lengthOf, .ref a_classOf, .ref a_baseOf, .ref a_bits, .ref a_pinned, .int 0, .ref a_lengths, .ref a_stackArray, .ref a_stackOther, .ref a_stackAt, .int 0, .int 0, .ref a_path, .ref a_held, .ref a_alike, .ref a_hashes, .int 0, .ref a_decisionArray, .ref a_decisionPlace, .ref a_candidateMany, .ref a_candidates, .int 0, .ref a_ruleSort, .ref a_ruleArray, .ref a_ruleWeight, .ref a_ruleLow, .ref a_ruleHigh, .ref a_chosen, .ref a_bestOf, .int 0, .ref a_markElements, .ref a_markBits, .ref a_markPins]))]) (wr := []) (rest := []) hC hZ hl zc_X8_183 (cm_fine g h0 a_kindOf a_depthOf a_lengthOf a_classOf a_baseOf a_bits a_pinned a_lengths a_stackArray a_stackOther a_stackAt a_path a_held a_alike a_hashes a_decisionArray a_decisionPlace a_candidateMany a_candidates a_ruleSort a_ruleArray a_ruleWeight a_ruleLow a_ruleHigh a_chosen a_bestOf a_markElements a_markBits a_markPins 0 0 0 0 0 0 0 0 0) [0] [] rfl rfl (by decide) (ci := 7) (q0 := 0) rfl rfl rfl rfl (Nat.le_of_ble_eq_true rfl) ⟨⟨Nat.le_of_ble_eq_true rfl, Nat.le_of_ble_eq_true rfl⟩, Nat.le_of_ble_eq_true rfl, Nat.le_of_ble_eq_true rfl⟩ dX8_count_83 (fun r17 u18 H locs hp hZ => ?_)
          obtain ⟨rfl, rfl⟩ := hp
          have hZ : zz_Z g A s.heap [(h0, .inr (7, [.int 0, .int 0, .ref a_kindOf, .ref a_depthOf, .ref a_lengthOf, .ref a_classOf, .ref a_baseOf, .ref a_bits, .ref a_pinned, .int 0, .ref a_lengths, .ref a_stackArray, .ref a_stackOther, .ref a_stackAt, .int 0, .int 0, .ref a_path, .ref a_held, .ref a_alike, .ref a_hashes, .int 0, .ref a_decisionArray, .ref a_decisionPlace, .ref a_candidateMany, .ref a_candidates, .int 0, .ref a_ruleSort, .ref a_ruleArray, .ref a_ruleWeight, .ref a_ruleLow, .ref a_ruleHigh, .ref a_chosen, .ref a_bestOf, .int 0, .ref a_markElements, .ref a_markBits, .ref a_markPins]))] H locs := hZ
          exact zz_iret hC hZ (by show _ = _; rw [fn_my_count, if_neg c3, if_neg c4, if_neg c5, if_pos c6]) (Nat.le_of_ble_eq_true rfl) (Nat.le_of_ble_eq_true rfl) dX8_count_86
      · refine lv_aload_n hx hb dX8_count_36 rfl (lv_at hl 0 rfl) ?_
        refine zz_get hC hZ 0 rfl zf_X8_186 rfl dX8_count_37 ?_
        refine lv_goto (tgt := 83) hx hb dX8_count_40 (by decide) ?_
        refine zz_iV (As := [.int 0]) (wc := [(h0, .inr (7, [.int 0, .int 0, .ref a_kindOf, .ref a_depthOf, .ref a_lengthOf, .ref a_classOf, .ref a_baseOf, .ref a_bits, .ref a_pinned, .int 0, .ref a_lengths, .ref a_stackArray, .ref a_stackOther, .ref a_stackAt, .int 0, .int 0, .ref a_path, .ref a_held, .ref a_alike, .ref a_hashes, .int 0, .ref a_decisionArray, .ref a_decisionPlace, .ref a_candidateMany, .ref a_candidates, .int 0, .ref a_ruleSort, .ref a_ruleArray, .ref a_ruleWeight, .ref a_ruleLow, .ref a_ruleHigh, .ref a_chosen, .ref a_bestOf, .int 0, .ref a_markElements, .ref a_markBits, .ref a_markPins]))]) (wr := []) (rest := []) hC hZ hl zc_X8_183 (cm_fine g h0 a_kindOf a_depthOf a_lengthOf a_classOf a_baseOf a_bits a_pinned a_lengths a_stackArray a_stackOther a_stackAt a_path a_held a_alike a_hashes a_decisionArray a_decisionPlace a_candidateMany a_candidates a_ruleSort a_ruleArray a_ruleWeight a_ruleLow a_ruleHigh a_chosen a_bestOf a_markElements a_markBits a_markPins 0 0 0 0 0 0 0 0 0) [0] [] rfl rfl (by decide) (ci := 7) (q0 := 0) rfl rfl rfl rfl (Nat.le_of_ble_eq_true rfl) ⟨⟨Nat.le_of_ble_eq_true rfl, Nat.le_of_ble_eq_true rfl⟩, Nat.le_of_ble_eq_true rfl, Nat.le_of_ble_eq_true rfl⟩ dX8_count_83 (fun r19 u20 H locs hp hZ => ?_)
        obtain ⟨rfl, rfl⟩ := hp
        have hZ : zz_Z g A s.heap [(h0, .inr (7, [.int 0, .int 0, .ref a_kindOf, .ref a_depthOf, .ref a_lengthOf, .ref a_classOf, .ref a_baseOf, .ref a_bits, .ref a_pinned, .int 0, .ref a_lengths, .ref a_stackArray, .ref a_stackOther, .ref a_stackAt, .int 0, .int 0, .ref a_path, .ref a_held, .ref a_alike, .ref a_hashes, .int 0, .ref a_decisionArray, .ref a_decisionPlace, .ref a_candidateMany, .ref a_candidates, .int 0, .ref a_ruleSort, .ref a_ruleArray, .ref a_ruleWeight, .ref a_ruleLow, .ref a_ruleHigh, .ref a_chosen, .ref a_bestOf, .int 0, .ref a_markElements, .ref a_markBits, .ref a_markPins]))] H locs := hZ
        exact zz_iret hC hZ (by show _ = _; rw [fn_my_count, if_neg c3, if_neg c4, if_pos c5]) (Nat.le_of_ble_eq_true rfl) (Nat.le_of_ble_eq_true rfl) dX8_count_86
    · refine lv_aload_n hx hb dX8_count_24 rfl (lv_at hl 0 rfl) ?_
      refine zz_get hC hZ 0 rfl zf_X8_103 rfl dX8_count_25 ?_
      refine lv_goto (tgt := 83) hx hb dX8_count_28 (by decide) ?_
      refine zz_iV (As := [.int 0]) (wc := [(h0, .inr (7, [.int 0, .int 0, .ref a_kindOf, .ref a_depthOf, .ref a_lengthOf, .ref a_classOf, .ref a_baseOf, .ref a_bits, .ref a_pinned, .int 0, .ref a_lengths, .ref a_stackArray, .ref a_stackOther, .ref a_stackAt, .int 0, .int 0, .ref a_path, .ref a_held, .ref a_alike, .ref a_hashes, .int 0, .ref a_decisionArray, .ref a_decisionPlace, .ref a_candidateMany, .ref a_candidates, .int 0, .ref a_ruleSort, .ref a_ruleArray, .ref a_ruleWeight, .ref a_ruleLow, .ref a_ruleHigh, .ref a_chosen, .ref a_bestOf, .int 0, .ref a_markElements, .ref a_markBits, .ref a_markPins]))]) (wr := []) (rest := []) hC hZ hl zc_X8_183 (cm_fine g h0 a_kindOf a_depthOf a_lengthOf a_classOf a_baseOf a_bits a_pinned a_lengths a_stackArray a_stackOther a_stackAt a_path a_held a_alike a_hashes a_decisionArray a_decisionPlace a_candidateMany a_candidates a_ruleSort a_ruleArray a_ruleWeight a_ruleLow a_ruleHigh a_chosen a_bestOf a_markElements a_markBits a_markPins 0 0 0 0 0 0 0 0 0) [0] [] rfl rfl (by decide) (ci := 7) (q0 := 0) rfl rfl rfl rfl (Nat.le_of_ble_eq_true rfl) ⟨⟨Nat.le_of_ble_eq_true rfl, Nat.le_of_ble_eq_true rfl⟩, Nat.le_of_ble_eq_true rfl, Nat.le_of_ble_eq_true rfl⟩ dX8_count_83 (fun r21 u22 H locs hp hZ => ?_)
      obtain ⟨rfl, rfl⟩ := hp
      have hZ : zz_Z g A s.heap [(h0, .inr (7, [.int 0, .int 0, .ref a_kindOf, .ref a_depthOf, .ref a_lengthOf, .ref a_classOf, .ref a_baseOf, .ref a_bits, .ref a_pinned, .int 0, .ref a_lengths, .ref a_stackArray, .ref a_stackOther, .ref a_stackAt, .int 0, .int 0, .ref a_path, .ref a_held, .ref a_alike, .ref a_hashes, .int 0, .ref a_decisionArray, .ref a_decisionPlace, .ref a_candidateMany, .ref a_candidates, .int 0, .ref a_ruleSort, .ref a_ruleArray, .ref a_ruleWeight, .ref a_ruleLow, .ref a_ruleHigh, .ref a_chosen, .ref a_bestOf, .int 0, .ref a_markElements, .ref a_markBits, .ref a_markPins]))] H locs := hZ
      exact zz_iret hC hZ (by show _ = _; rw [fn_my_count, if_neg c3, if_pos c4]) (Nat.le_of_ble_eq_true rfl) (Nat.le_of_ble_eq_true rfl) dX8_count_86
  · refine lv_aload_n hx hb dX8_count_12 rfl (lv_at hl 0 rfl) ?_
    refine lv_bipush (v := 9) hx hb dX8_count_13 (by decide) ?_
    refine zz_iV (As := [.int 9]) (wc := [(h0, .inr (7, [.int 0, .int 0, .ref a_kindOf, .ref a_depthOf, .ref a_lengthOf, .ref a_classOf, .ref a_baseOf, .ref a_bits, .ref a_pinned, .int 0, .ref a_lengths, .ref a_stackArray, .ref a_stackOther, .ref a_stackAt, .int 0, .int 0, .ref a_path, .ref a_held, .ref a_alike, .ref a_hashes, .int 0, .ref a_decisionArray, .ref a_decisionPlace, .ref a_candidateMany, .ref a_candidates, .int 0, .ref a_ruleSort, .ref a_ruleArray, .ref a_ruleWeight, .ref a_ruleLow, .ref a_ruleHigh, .ref a_chosen, .ref a_bestOf, .int 0, .ref a_markElements, .ref a_markBits, .ref a_markPins]))]) (wr := []) (rest := []) hC hZ hl zc_X8_175 (cm_fails g h0 a_kindOf a_depthOf a_lengthOf a_classOf a_baseOf a_bits a_pinned a_lengths a_stackArray a_stackOther a_stackAt a_path a_held a_alike a_hashes a_decisionArray a_decisionPlace a_candidateMany a_candidates a_ruleSort a_ruleArray a_ruleWeight a_ruleLow a_ruleHigh a_chosen a_bestOf a_markElements a_markBits a_markPins 0 0 0 0 0 0 0 0 9) [0] [] rfl rfl (by decide) (ci := 7) (q0 := 0) rfl rfl rfl rfl (Nat.le_of_ble_eq_true rfl) ⟨⟨Nat.le_of_ble_eq_true rfl, Nat.le_of_ble_eq_true rfl⟩, Nat.le_of_ble_eq_true rfl, Nat.le_of_ble_eq_true rfl⟩ dX8_count_15 (fun r23 u24 H locs hp hZ => ?_)
    obtain ⟨rfl, rfl⟩ := hp
    have hZ : zz_Z g A s.heap [(h0, .inr (7, [.int 0, .int 0, .ref a_kindOf, .ref a_depthOf, .ref a_lengthOf, .ref a_classOf, .ref a_baseOf, .ref a_bits, .ref a_pinned, .int 9, .ref a_lengths, .ref a_stackArray, .ref a_stackOther, .ref a_stackAt, .int 0, .int 0, .ref a_path, .ref a_held, .ref a_alike, .ref a_hashes, .int 0, .ref a_decisionArray, .ref a_decisionPlace, .ref a_candidateMany, .ref a_candidates, .int 0, .ref a_ruleSort, .ref a_ruleArray, .ref a_ruleWeight, .ref a_ruleLow, .ref a_ruleHigh, .ref a_chosen, .ref a_bestOf, .int 0, .ref a_markElements, .ref a_markBits, .ref a_markPins]))] H locs := hZ
    exact zz_iret hC hZ (by show _ = _; rw [fn_my_count, if_pos c3]) (Nat.le_of_ble_eq_true rfl) (Nat.le_of_ble_eq_true rfl) dX8_count_18
end
