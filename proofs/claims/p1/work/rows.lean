section
-- ===== PART A: goes FIRST, ahead of the names: the tables' words, and 'selects' of the private methods out of them =====
/-- a private method of a class that the tables say can be made, by its rows of tables_1 -/
def lw_okq (q : MethodName × Nat) : Prop := (q.1.cls ≠ "java/lang/invoke/MethodHandle" ∧ q.1.cls ≠ "java/lang/invoke/VarHandle") ∧ Cond.instantiable q.1.cls q.2 ∈ tables_1 ∧ Cond.privateMethod q.1 ∈ tables_1 ∧ Cond.instanceMethod q.1 ∈ tables_1
theorem lw_p0 : lw_okq (⟨"DecisionArrays", "fail", "(I)I"⟩, 8) := ⟨⟨by decide +kernel, by decide +kernel⟩, List.mem_of_getElem? (i := 13) (by decide +kernel), List.mem_of_getElem? (i := 233) (by decide +kernel), List.mem_of_getElem? (i := 234) (by decide +kernel)⟩
theorem lw_p1 : lw_okq (⟨"DecisionArrays", "newArray", "(IIII)I"⟩, 8) := ⟨⟨by decide +kernel, by decide +kernel⟩, List.mem_of_getElem? (i := 13) (by decide +kernel), List.mem_of_getElem? (i := 237) (by decide +kernel), List.mem_of_getElem? (i := 238) (by decide +kernel)⟩
theorem lw_p2 : lw_okq (⟨"DecisionArrays", "fine", "(I)I"⟩, 8) := ⟨⟨by decide +kernel, by decide +kernel⟩, List.mem_of_getElem? (i := 13) (by decide +kernel), List.mem_of_getElem? (i := 252) (by decide +kernel), List.mem_of_getElem? (i := 253) (by decide +kernel)⟩
theorem lw_p3 : lw_okq (⟨"DecisionArrays$Maker", "gridAt", "(III)I"⟩, 4) := ⟨⟨by decide +kernel, by decide +kernel⟩, List.mem_of_getElem? (i := 91) (by decide +kernel), List.mem_of_getElem? (i := 289) (by decide +kernel), List.mem_of_getElem? (i := 290) (by decide +kernel)⟩
theorem lw_p4 : lw_okq (⟨"DecisionArrays", "rowCode", "(II)I"⟩, 8) := ⟨⟨by decide +kernel, by decide +kernel⟩, List.mem_of_getElem? (i := 13) (by decide +kernel), List.mem_of_getElem? (i := 310) (by decide +kernel), List.mem_of_getElem? (i := 311) (by decide +kernel)⟩
theorem lw_p5 : lw_okq (⟨"DecisionArrays", "noBits", "(I)J"⟩, 8) := ⟨⟨by decide +kernel, by decide +kernel⟩, List.mem_of_getElem? (i := 13) (by decide +kernel), List.mem_of_getElem? (i := 330) (by decide +kernel), List.mem_of_getElem? (i := 331) (by decide +kernel)⟩
theorem lw_p6 : lw_okq (⟨"DecisionArrays$Maker", "plan", "(II)V"⟩, 4) := ⟨⟨by decide +kernel, by decide +kernel⟩, List.mem_of_getElem? (i := 91) (by decide +kernel), List.mem_of_getElem? (i := 456) (by decide +kernel), List.mem_of_getElem? (i := 457) (by decide +kernel)⟩
theorem lw_p7 : lw_okq (⟨"DecisionArrays$Maker", "twinAt", "(II)I"⟩, 4) := ⟨⟨by decide +kernel, by decide +kernel⟩, List.mem_of_getElem? (i := 91) (by decide +kernel), List.mem_of_getElem? (i := 465) (by decide +kernel), List.mem_of_getElem? (i := 466) (by decide +kernel)⟩
theorem lw_p8 : lw_okq (⟨"DecisionArrays$Store", "insert", "(III)V"⟩, 10) := ⟨⟨by decide +kernel, by decide +kernel⟩, List.mem_of_getElem? (i := 21) (by decide +kernel), List.mem_of_getElem? (i := 479) (by decide +kernel), List.mem_of_getElem? (i := 480) (by decide +kernel)⟩
theorem lw_p9 : lw_okq (⟨"DecisionArrays$Likeness", "agreeAt", "(III)Z"⟩, 5) := ⟨⟨by decide +kernel, by decide +kernel⟩, List.mem_of_getElem? (i := 110) (by decide +kernel), List.mem_of_getElem? (i := 502) (by decide +kernel), List.mem_of_getElem? (i := 503) (by decide +kernel)⟩
theorem lw_p10 : lw_okq (⟨"DecisionArrays$Likeness", "sameShape", "(II)Z"⟩, 5) := ⟨⟨by decide +kernel, by decide +kernel⟩, List.mem_of_getElem? (i := 110) (by decide +kernel), List.mem_of_getElem? (i := 506) (by decide +kernel), List.mem_of_getElem? (i := 507) (by decide +kernel)⟩
theorem lw_p11 : lw_okq (⟨"DecisionArrays$Likeness", "rowsAgree", "(III)Z"⟩, 5) := ⟨⟨by decide +kernel, by decide +kernel⟩, List.mem_of_getElem? (i := 110) (by decide +kernel), List.mem_of_getElem? (i := 510) (by decide +kernel), List.mem_of_getElem? (i := 511) (by decide +kernel)⟩
theorem lw_p12 : lw_okq (⟨"DecisionArrays$Likeness", "digestAt", "(II)I"⟩, 5) := ⟨⟨by decide +kernel, by decide +kernel⟩, List.mem_of_getElem? (i := 110) (by decide +kernel), List.mem_of_getElem? (i := 523) (by decide +kernel), List.mem_of_getElem? (i := 524) (by decide +kernel)⟩
theorem lw_p13 : lw_okq (⟨"DecisionArrays$Rules", "shareOf", "(II)J"⟩, 9) := ⟨⟨by decide +kernel, by decide +kernel⟩, List.mem_of_getElem? (i := 164) (by decide +kernel), List.mem_of_getElem? (i := 617) (by decide +kernel), List.mem_of_getElem? (i := 618) (by decide +kernel)⟩
theorem lw_p14 : lw_okq (⟨"DecisionArrays$Rules", "alikeIn", "(IJII)J"⟩, 9) := ⟨⟨by decide +kernel, by decide +kernel⟩, List.mem_of_getElem? (i := 164) (by decide +kernel), List.mem_of_getElem? (i := 630) (by decide +kernel), List.mem_of_getElem? (i := 631) (by decide +kernel)⟩
theorem lw_p15 : lw_okq (⟨"DecisionArrays$Choices", "isFree", "(I)Z"⟩, 7) := ⟨⟨by decide +kernel, by decide +kernel⟩, List.mem_of_getElem? (i := 132) (by decide +kernel), List.mem_of_getElem? (i := 671) (by decide +kernel), List.mem_of_getElem? (i := 672) (by decide +kernel)⟩
def lw_privs_1 : List (MethodName × Nat) := [(⟨"DecisionArrays", "fail", "(I)I"⟩, 8), (⟨"DecisionArrays", "newArray", "(IIII)I"⟩, 8), (⟨"DecisionArrays", "fine", "(I)I"⟩, 8), (⟨"DecisionArrays$Maker", "gridAt", "(III)I"⟩, 4), (⟨"DecisionArrays", "rowCode", "(II)I"⟩, 8), (⟨"DecisionArrays", "noBits", "(I)J"⟩, 8), (⟨"DecisionArrays$Maker", "plan", "(II)V"⟩, 4), (⟨"DecisionArrays$Maker", "twinAt", "(II)I"⟩, 4), (⟨"DecisionArrays$Store", "insert", "(III)V"⟩, 10), (⟨"DecisionArrays$Likeness", "agreeAt", "(III)Z"⟩, 5), (⟨"DecisionArrays$Likeness", "sameShape", "(II)Z"⟩, 5), (⟨"DecisionArrays$Likeness", "rowsAgree", "(III)Z"⟩, 5), (⟨"DecisionArrays$Likeness", "digestAt", "(II)I"⟩, 5), (⟨"DecisionArrays$Rules", "shareOf", "(II)J"⟩, 9), (⟨"DecisionArrays$Rules", "alikeIn", "(IJII)J"⟩, 9), (⟨"DecisionArrays$Choices", "isFree", "(I)Z"⟩, 7)]
theorem lw_r1 : ∀ q ∈ lw_privs_1, lw_okq q := List.forall_mem_cons.mpr ⟨lw_p0, List.forall_mem_cons.mpr ⟨lw_p1, List.forall_mem_cons.mpr ⟨lw_p2, List.forall_mem_cons.mpr ⟨lw_p3, List.forall_mem_cons.mpr ⟨lw_p4, List.forall_mem_cons.mpr ⟨lw_p5, List.forall_mem_cons.mpr ⟨lw_p6, List.forall_mem_cons.mpr ⟨lw_p7, List.forall_mem_cons.mpr ⟨lw_p8, List.forall_mem_cons.mpr ⟨lw_p9, List.forall_mem_cons.mpr ⟨lw_p10, List.forall_mem_cons.mpr ⟨lw_p11, List.forall_mem_cons.mpr ⟨lw_p12, List.forall_mem_cons.mpr ⟨lw_p13, List.forall_mem_cons.mpr ⟨lw_p14, List.forall_mem_cons.mpr ⟨lw_p15, fun _ h => absurd h List.not_mem_nil⟩⟩⟩⟩⟩⟩⟩⟩⟩⟩⟩⟩⟩⟩⟩⟩
theorem lw_p16 : lw_okq (⟨"DecisionArrays$Rules", "bearingOf", "(II)J"⟩, 9) := ⟨⟨by decide +kernel, by decide +kernel⟩, List.mem_of_getElem? (i := 164) (by decide +kernel), List.mem_of_getElem? (i := 687) (by decide +kernel), List.mem_of_getElem? (i := 688) (by decide +kernel)⟩
theorem lw_p17 : lw_okq (⟨"DecisionArrays$Rules", "adjust", "(IJJ)V"⟩, 9) := ⟨⟨by decide +kernel, by decide +kernel⟩, List.mem_of_getElem? (i := 164) (by decide +kernel), List.mem_of_getElem? (i := 691) (by decide +kernel), List.mem_of_getElem? (i := 692) (by decide +kernel)⟩
theorem lw_p18 : lw_okq (⟨"DecisionArraysModel", "fails", "(I)I"⟩, 37) := ⟨⟨by decide +kernel, by decide +kernel⟩, List.mem_of_getElem? (i := 730) (by decide +kernel), List.mem_of_getElem? (i := 856) (by decide +kernel), List.mem_of_getElem? (i := 857) (by decide +kernel)⟩
theorem lw_p19 : lw_okq (⟨"DecisionArraysModel", "fine", "(I)I"⟩, 37) := ⟨⟨by decide +kernel, by decide +kernel⟩, List.mem_of_getElem? (i := 730) (by decide +kernel), List.mem_of_getElem? (i := 863) (by decide +kernel), List.mem_of_getElem? (i := 864) (by decide +kernel)⟩
theorem lw_p20 : lw_okq (⟨"DecisionArraysModel", "isRoom", "(IJ)Z"⟩, 37) := ⟨⟨by decide +kernel, by decide +kernel⟩, List.mem_of_getElem? (i := 730) (by decide +kernel), List.mem_of_getElem? (i := 875) (by decide +kernel), List.mem_of_getElem? (i := 876) (by decide +kernel)⟩
theorem lw_p21 : lw_okq (⟨"DecisionArraysModel", "make", "(IIII)I"⟩, 37) := ⟨⟨by decide +kernel, by decide +kernel⟩, List.mem_of_getElem? (i := 730) (by decide +kernel), List.mem_of_getElem? (i := 880) (by decide +kernel), List.mem_of_getElem? (i := 881) (by decide +kernel)⟩
theorem lw_p22 : lw_okq (⟨"DecisionArraysModel", "isArray", "(I)Z"⟩, 37) := ⟨⟨by decide +kernel, by decide +kernel⟩, List.mem_of_getElem? (i := 730) (by decide +kernel), List.mem_of_getElem? (i := 894) (by decide +kernel), List.mem_of_getElem? (i := 895) (by decide +kernel)⟩
theorem lw_p23 : lw_okq (⟨"DecisionArraysModel", "follow", "(IIIII)I"⟩, 37) := ⟨⟨by decide +kernel, by decide +kernel⟩, List.mem_of_getElem? (i := 730) (by decide +kernel), List.mem_of_getElem? (i := 922) (by decide +kernel), List.mem_of_getElem? (i := 923) (by decide +kernel)⟩
theorem lw_p24 : lw_okq (⟨"DecisionArraysModel", "here", "()I"⟩, 37) := ⟨⟨by decide +kernel, by decide +kernel⟩, List.mem_of_getElem? (i := 730) (by decide +kernel), List.mem_of_getElem? (i := 926) (by decide +kernel), List.mem_of_getElem? (i := 927) (by decide +kernel)⟩
theorem lw_p25 : lw_okq (⟨"DecisionArraysModel", "takes", "(IJ)Z"⟩, 37) := ⟨⟨by decide +kernel, by decide +kernel⟩, List.mem_of_getElem? (i := 730) (by decide +kernel), List.mem_of_getElem? (i := 970) (by decide +kernel), List.mem_of_getElem? (i := 971) (by decide +kernel)⟩
theorem lw_p26 : lw_okq (⟨"DecisionArraysModel", "copyOne", "(I)I"⟩, 37) := ⟨⟨by decide +kernel, by decide +kernel⟩, List.mem_of_getElem? (i := 730) (by decide +kernel), List.mem_of_getElem? (i := 1002) (by decide +kernel), List.mem_of_getElem? (i := 1003) (by decide +kernel)⟩
theorem lw_p27 : lw_okq (⟨"DecisionArraysModel", "isSame", "(II)Z"⟩, 37) := ⟨⟨by decide +kernel, by decide +kernel⟩, List.mem_of_getElem? (i := 730) (by decide +kernel), List.mem_of_getElem? (i := 1021) (by decide +kernel), List.mem_of_getElem? (i := 1022) (by decide +kernel)⟩
theorem lw_p28 : lw_okq (⟨"DecisionArraysModel", "hashOf", "(I)I"⟩, 37) := ⟨⟨by decide +kernel, by decide +kernel⟩, List.mem_of_getElem? (i := 730) (by decide +kernel), List.mem_of_getElem? (i := 1029) (by decide +kernel), List.mem_of_getElem? (i := 1030) (by decide +kernel)⟩
theorem lw_p29 : lw_okq (⟨"DecisionArraysModel", "isDecision", "(I)Z"⟩, 37) := ⟨⟨by decide +kernel, by decide +kernel⟩, List.mem_of_getElem? (i := 730) (by decide +kernel), List.mem_of_getElem? (i := 1041) (by decide +kernel), List.mem_of_getElem? (i := 1042) (by decide +kernel)⟩
theorem lw_p30 : lw_okq (⟨"DecisionArraysModel", "candidateAt", "(IJ)I"⟩, 37) := ⟨⟨by decide +kernel, by decide +kernel⟩, List.mem_of_getElem? (i := 730) (by decide +kernel), List.mem_of_getElem? (i := 1045) (by decide +kernel), List.mem_of_getElem? (i := 1046) (by decide +kernel)⟩
theorem lw_p31 : lw_okq (⟨"DecisionArraysModel", "elementOf", "(I)I"⟩, 37) := ⟨⟨by decide +kernel, by decide +kernel⟩, List.mem_of_getElem? (i := 730) (by decide +kernel), List.mem_of_getElem? (i := 1057) (by decide +kernel), List.mem_of_getElem? (i := 1058) (by decide +kernel)⟩
def lw_privs_2 : List (MethodName × Nat) := [(⟨"DecisionArrays$Rules", "bearingOf", "(II)J"⟩, 9), (⟨"DecisionArrays$Rules", "adjust", "(IJJ)V"⟩, 9), (⟨"DecisionArraysModel", "fails", "(I)I"⟩, 37), (⟨"DecisionArraysModel", "fine", "(I)I"⟩, 37), (⟨"DecisionArraysModel", "isRoom", "(IJ)Z"⟩, 37), (⟨"DecisionArraysModel", "make", "(IIII)I"⟩, 37), (⟨"DecisionArraysModel", "isArray", "(I)Z"⟩, 37), (⟨"DecisionArraysModel", "follow", "(IIIII)I"⟩, 37), (⟨"DecisionArraysModel", "here", "()I"⟩, 37), (⟨"DecisionArraysModel", "takes", "(IJ)Z"⟩, 37), (⟨"DecisionArraysModel", "copyOne", "(I)I"⟩, 37), (⟨"DecisionArraysModel", "isSame", "(II)Z"⟩, 37), (⟨"DecisionArraysModel", "hashOf", "(I)I"⟩, 37), (⟨"DecisionArraysModel", "isDecision", "(I)Z"⟩, 37), (⟨"DecisionArraysModel", "candidateAt", "(IJ)I"⟩, 37), (⟨"DecisionArraysModel", "elementOf", "(I)I"⟩, 37)]
theorem lw_r2 : ∀ q ∈ lw_privs_2, lw_okq q := List.forall_mem_cons.mpr ⟨lw_p16, List.forall_mem_cons.mpr ⟨lw_p17, List.forall_mem_cons.mpr ⟨lw_p18, List.forall_mem_cons.mpr ⟨lw_p19, List.forall_mem_cons.mpr ⟨lw_p20, List.forall_mem_cons.mpr ⟨lw_p21, List.forall_mem_cons.mpr ⟨lw_p22, List.forall_mem_cons.mpr ⟨lw_p23, List.forall_mem_cons.mpr ⟨lw_p24, List.forall_mem_cons.mpr ⟨lw_p25, List.forall_mem_cons.mpr ⟨lw_p26, List.forall_mem_cons.mpr ⟨lw_p27, List.forall_mem_cons.mpr ⟨lw_p28, List.forall_mem_cons.mpr ⟨lw_p29, List.forall_mem_cons.mpr ⟨lw_p30, List.forall_mem_cons.mpr ⟨lw_p31, fun _ h => absurd h List.not_mem_nil⟩⟩⟩⟩⟩⟩⟩⟩⟩⟩⟩⟩⟩⟩⟩⟩
theorem lw_p32 : lw_okq (⟨"DecisionArraysModel", "amountOf", "(I)J"⟩, 37) := ⟨⟨by decide +kernel, by decide +kernel⟩, List.mem_of_getElem? (i := 730) (by decide +kernel), List.mem_of_getElem? (i := 1079) (by decide +kernel), List.mem_of_getElem? (i := 1080) (by decide +kernel)⟩
theorem lw_p33 : lw_okq (⟨"DecisionArraysModel", "ways", "()I"⟩, 37) := ⟨⟨by decide +kernel, by decide +kernel⟩, List.mem_of_getElem? (i := 730) (by decide +kernel), List.mem_of_getElem? (i := 1107) (by decide +kernel), List.mem_of_getElem? (i := 1108) (by decide +kernel)⟩
theorem lw_p34 : lw_okq (⟨"DecisionArraysModel", "choices", "(I)I"⟩, 37) := ⟨⟨by decide +kernel, by decide +kernel⟩, List.mem_of_getElem? (i := 730) (by decide +kernel), List.mem_of_getElem? (i := 1111) (by decide +kernel), List.mem_of_getElem? (i := 1112) (by decide +kernel)⟩
theorem lw_p35 : lw_okq (⟨"DecisionArraysModel", "lay", "(II)V"⟩, 37) := ⟨⟨by decide +kernel, by decide +kernel⟩, List.mem_of_getElem? (i := 730) (by decide +kernel), List.mem_of_getElem? (i := 1117) (by decide +kernel), List.mem_of_getElem? (i := 1118) (by decide +kernel)⟩
def lw_privs_3 : List (MethodName × Nat) := [(⟨"DecisionArraysModel", "amountOf", "(I)J"⟩, 37), (⟨"DecisionArraysModel", "ways", "()I"⟩, 37), (⟨"DecisionArraysModel", "choices", "(I)I"⟩, 37), (⟨"DecisionArraysModel", "lay", "(II)V"⟩, 37)]
theorem lw_r3 : ∀ q ∈ lw_privs_3, lw_okq q := List.forall_mem_cons.mpr ⟨lw_p32, List.forall_mem_cons.mpr ⟨lw_p33, List.forall_mem_cons.mpr ⟨lw_p34, List.forall_mem_cons.mpr ⟨lw_p35, fun _ h => absurd h List.not_mem_nil⟩⟩⟩⟩
def lw_privs : List (MethodName × Nat) := lw_privs_1 ++ (lw_privs_2 ++ (lw_privs_3))
def lw_tbl : List Cond := k2_sels lw_privs ++ tables_1
theorem lw_privs_ok : ∀ q ∈ lw_privs, lw_okq q := by
  show ∀ q ∈ lw_privs_1 ++ (lw_privs_2 ++ (lw_privs_3)), lw_okq q
  exact List.forall_mem_append.mpr ⟨lw_r1, List.forall_mem_append.mpr ⟨lw_r2, lw_r3⟩⟩

def RX0 : String := "DecisionArrays$Choices"
def TX0 : u_T := fun k => match k with
  | 0 => ("DecisionArrays$Choices", "store", "LDecisionArrays$Store;", true)
  | 1 => ("DecisionArrays$Choices", "made", "I", false)
  | 2 => ("DecisionArrays$Choices", "places", "[I", true)
  | 3 => ("DecisionArrays$Choices", "slots", "[I", true)
  | 4 => ("DecisionArrays$Choices", "counts", "[I", true)
  | 5 => ("DecisionArrays$Choices", "candidates", "[J", true)
  | _ => ("DecisionArrays$Choices", "turns", "[I", true)
def tyX0 : Nat → FieldType := fun k => match k with
  | 0 => .object "DecisionArrays$Store"
  | 1 => .int
  | 2 => .array .int
  | 3 => .array .int
  | 4 => .array .int
  | 5 => .array .long
  | _ => .array .int
theorem nmX0 : ∀ a, a < 7 → ∀ b, b < 7 → a ≠ b → (TX0 a).2.1 ≠ (TX0 b).2.1 := by decide +kernel
theorem tyX0_ok : ∀ k, k < 7 → parseFieldDescriptor (TX0 k).2.2.1 = some (tyX0 k) := by decide +kernel
def RX2 : String := "DecisionArrays$Likeness"
def TX2 : u_T := fun k => match k with
  | 0 => ("DecisionArrays$Likeness", "store", "LDecisionArrays$Store;", true)
  | 1 => ("DecisionArrays$Likeness", "round", "I", false)
  | 2 => ("DecisionArrays$Likeness", "agreed", "[I", true)
  | 3 => ("DecisionArrays$Likeness", "digested", "[I", true)
  | _ => ("DecisionArrays$Likeness", "digests", "[I", true)
def tyX2 : Nat → FieldType := fun k => match k with
  | 0 => .object "DecisionArrays$Store"
  | 1 => .int
  | 2 => .array .int
  | 3 => .array .int
  | _ => .array .int
theorem nmX2 : ∀ a, a < 5 → ∀ b, b < 5 → a ≠ b → (TX2 a).2.1 ≠ (TX2 b).2.1 := by decide +kernel
theorem tyX2_ok : ∀ k, k < 5 → parseFieldDescriptor (TX2 k).2.2.1 = some (tyX2 k) := by decide +kernel
def RX3 : String := "DecisionArrays$Maker"
def TX3 : u_T := fun k => match k with
  | 0 => ("DecisionArrays$Maker", "store", "LDecisionArrays$Store;", true)
  | 1 => ("DecisionArrays$Maker", "lengths", "[I", true)
  | 2 => ("DecisionArrays$Maker", "planArrays", "I", false)
  | _ => ("DecisionArrays$Maker", "planElements", "I", false)
def tyX3 : Nat → FieldType := fun k => match k with
  | 0 => .object "DecisionArrays$Store"
  | 1 => .array .int
  | 2 => .int
  | _ => .int
theorem nmX3 : ∀ a, a < 4 → ∀ b, b < 4 → a ≠ b → (TX3 a).2.1 ≠ (TX3 b).2.1 := by decide +kernel
theorem tyX3_ok : ∀ k, k < 4 → parseFieldDescriptor (TX3 k).2.2.1 = some (tyX3 k) := by decide +kernel
def RX4 : String := "DecisionArrays$Mark"
def TX4 : u_T := fun k => match k with
  | 0 => ("DecisionArrays$Mark", "bits", "[J", true)
  | 1 => ("DecisionArrays$Mark", "pinned", "[Z", true)
  | _ => ("DecisionArrays$Mark", "used", "I", false)
def tyX4 : Nat → FieldType := fun k => match k with
  | 0 => .array .long
  | 1 => .array .boolean
  | _ => .int
theorem nmX4 : ∀ a, a < 3 → ∀ b, b < 3 → a ≠ b → (TX4 a).2.1 ≠ (TX4 b).2.1 := by decide +kernel
theorem tyX4_ok : ∀ k, k < 3 → parseFieldDescriptor (TX4 k).2.2.1 = some (tyX4 k) := by decide +kernel
def RX5 : String := "DecisionArrays$Rules"
def TX5 : u_T := fun k => match k with
  | 0 => ("DecisionArrays$Rules", "store", "LDecisionArrays$Store;", true)
  | 1 => ("DecisionArrays$Rules", "made", "I", false)
  | 2 => ("DecisionArrays$Rules", "sorts", "[I", true)
  | 3 => ("DecisionArrays$Rules", "judged", "[I", true)
  | 4 => ("DecisionArrays$Rules", "weights", "[I", true)
  | 5 => ("DecisionArrays$Rules", "lows", "[J", true)
  | 6 => ("DecisionArrays$Rules", "highs", "[J", true)
  | 7 => ("DecisionArrays$Rules", "tallies", "[J", true)
  | _ => ("DecisionArrays$Rules", "borne", "[J", true)
def tyX5 : Nat → FieldType := fun k => match k with
  | 0 => .object "DecisionArrays$Store"
  | 1 => .int
  | 2 => .array .int
  | 3 => .array .int
  | 4 => .array .int
  | 5 => .array .long
  | 6 => .array .long
  | 7 => .array .long
  | _ => .array .long
theorem nmX5 : ∀ a, a < 9 → ∀ b, b < 9 → a ≠ b → (TX5 a).2.1 ≠ (TX5 b).2.1 := by decide +kernel
theorem tyX5_ok : ∀ k, k < 9 → parseFieldDescriptor (TX5 k).2.2.1 = some (tyX5 k) := by decide +kernel
def RX6 : String := "DecisionArrays$Store"
def TX6 : u_T := fun k => match k with
  | 0 => ("DecisionArrays$Store", "arrays", "I", false)
  | 1 => ("DecisionArrays$Store", "used", "I", false)
  | 2 => ("DecisionArrays$Store", "kind", "[I", true)
  | 3 => ("DecisionArrays$Store", "depth", "[I", true)
  | 4 => ("DecisionArrays$Store", "cls", "[I", true)
  | 5 => ("DecisionArrays$Store", "start", "[I", true)
  | 6 => ("DecisionArrays$Store", "length", "[I", true)
  | 7 => ("DecisionArrays$Store", "bits", "[J", true)
  | 8 => ("DecisionArrays$Store", "pinned", "[Z", true)
  | _ => ("DecisionArrays$Store", "before", "[J", true)
def tyX6 : Nat → FieldType := fun k => match k with
  | 0 => .int
  | 1 => .int
  | 2 => .array .int
  | 3 => .array .int
  | 4 => .array .int
  | 5 => .array .int
  | 6 => .array .int
  | 7 => .array .long
  | 8 => .array .boolean
  | _ => .array .long
theorem nmX6 : ∀ a, a < 10 → ∀ b, b < 10 → a ≠ b → (TX6 a).2.1 ≠ (TX6 b).2.1 := by decide +kernel
theorem tyX6_ok : ∀ k, k < 10 → parseFieldDescriptor (TX6 k).2.2.1 = some (tyX6 k) := by decide +kernel
def RX7 : String := "DecisionArrays"
def TX7 : u_T := fun k => match k with
  | 0 => ("DecisionArrays", "store", "LDecisionArrays$Store;", true)
  | 1 => ("DecisionArrays", "maker", "LDecisionArrays$Maker;", true)
  | 2 => ("DecisionArrays", "likeness", "LDecisionArrays$Likeness;", true)
  | 3 => ("DecisionArrays", "choices", "LDecisionArrays$Choices;", true)
  | 4 => ("DecisionArrays", "rules", "LDecisionArrays$Rules;", true)
  | 5 => ("DecisionArrays", "marks", "[LDecisionArrays$Mark;", true)
  | 6 => ("DecisionArrays", "marked", "I", false)
  | _ => ("DecisionArrays", "latest", "I", false)
def tyX7 : Nat → FieldType := fun k => match k with
  | 0 => .object "DecisionArrays$Store"
  | 1 => .object "DecisionArrays$Maker"
  | 2 => .object "DecisionArrays$Likeness"
  | 3 => .object "DecisionArrays$Choices"
  | 4 => .object "DecisionArrays$Rules"
  | 5 => .array (.object "DecisionArrays$Mark")
  | 6 => .int
  | _ => .int
theorem nmX7 : ∀ a, a < 8 → ∀ b, b < 8 → a ≠ b → (TX7 a).2.1 ≠ (TX7 b).2.1 := by decide +kernel
theorem tyX7_ok : ∀ k, k < 8 → parseFieldDescriptor (TX7 k).2.2.1 = some (tyX7 k) := by decide +kernel
def RX8 : String := "DecisionArraysModel"
def TX8 : u_T := fun k => match k with
  | 0 => ("DecisionArraysModel", "arrays", "I", false)
  | 1 => ("DecisionArraysModel", "elements", "I", false)
  | 2 => ("DecisionArraysModel", "kindOf", "[I", true)
  | 3 => ("DecisionArraysModel", "depthOf", "[I", true)
  | 4 => ("DecisionArraysModel", "lengthOf", "[I", true)
  | 5 => ("DecisionArraysModel", "classOf", "[I", true)
  | 6 => ("DecisionArraysModel", "baseOf", "[I", true)
  | 7 => ("DecisionArraysModel", "bits", "[J", true)
  | 8 => ("DecisionArraysModel", "pinned", "[Z", true)
  | 9 => ("DecisionArraysModel", "code", "I", false)
  | 10 => ("DecisionArraysModel", "lengths", "[I", true)
  | 11 => ("DecisionArraysModel", "stackArray", "[I", true)
  | 12 => ("DecisionArraysModel", "stackOther", "[I", true)
  | 13 => ("DecisionArraysModel", "stackAt", "[I", true)
  | 14 => ("DecisionArraysModel", "lastArray", "I", false)
  | 15 => ("DecisionArraysModel", "lastPlace", "I", false)
  | 16 => ("DecisionArraysModel", "path", "[I", true)
  | 17 => ("DecisionArraysModel", "held", "[J", true)
  | 18 => ("DecisionArraysModel", "alike", "[Z", true)
  | 19 => ("DecisionArraysModel", "hashes", "[I", true)
  | 20 => ("DecisionArraysModel", "decisions", "I", false)
  | 21 => ("DecisionArraysModel", "decisionArray", "[I", true)
  | 22 => ("DecisionArraysModel", "decisionPlace", "[I", true)
  | 23 => ("DecisionArraysModel", "candidateMany", "[I", true)
  | 24 => ("DecisionArraysModel", "candidates", "[J", true)
  | 25 => ("DecisionArraysModel", "rules", "I", false)
  | 26 => ("DecisionArraysModel", "ruleSort", "[I", true)
  | 27 => ("DecisionArraysModel", "ruleArray", "[I", true)
  | 28 => ("DecisionArraysModel", "ruleWeight", "[I", true)
  | 29 => ("DecisionArraysModel", "ruleLow", "[J", true)
  | 30 => ("DecisionArraysModel", "ruleHigh", "[J", true)
  | 31 => ("DecisionArraysModel", "chosen", "[I", true)
  | 32 => ("DecisionArraysModel", "bestOf", "[I", true)
  | 33 => ("DecisionArraysModel", "marks", "I", false)
  | 34 => ("DecisionArraysModel", "markElements", "[I", true)
  | 35 => ("DecisionArraysModel", "markBits", "[J", true)
  | _ => ("DecisionArraysModel", "markPins", "[Z", true)
def tyX8 : Nat → FieldType := fun k => match k with
  | 0 => .int
  | 1 => .int
  | 2 => .array .int
  | 3 => .array .int
  | 4 => .array .int
  | 5 => .array .int
  | 6 => .array .int
  | 7 => .array .long
  | 8 => .array .boolean
  | 9 => .int
  | 10 => .array .int
  | 11 => .array .int
  | 12 => .array .int
  | 13 => .array .int
  | 14 => .int
  | 15 => .int
  | 16 => .array .int
  | 17 => .array .long
  | 18 => .array .boolean
  | 19 => .array .int
  | 20 => .int
  | 21 => .array .int
  | 22 => .array .int
  | 23 => .array .int
  | 24 => .array .long
  | 25 => .int
  | 26 => .array .int
  | 27 => .array .int
  | 28 => .array .int
  | 29 => .array .long
  | 30 => .array .long
  | 31 => .array .int
  | 32 => .array .int
  | 33 => .int
  | 34 => .array .int
  | 35 => .array .long
  | _ => .array .boolean
theorem nmX8 : ∀ a, a < 37 → ∀ b, b < 37 → a ≠ b → (TX8 a).2.1 ≠ (TX8 b).2.1 := by decide +kernel
theorem tyX8_ok : ∀ k, k < 37 → parseFieldDescriptor (TX8 k).2.2.1 = some (tyX8 k) := by decide +kernel
def RX1 : String := "DecisionArrays$Kinds"
def RL : String := "DecisionArraysLaw"
abbrev cX0_init : ByteArray := prog_2_method_1_code
def yX0_init : MethodName := ⟨RX0, "<init>", "(LDecisionArrays$Store;)V"⟩
abbrev cX0_has : ByteArray := prog_2_method_2_code
def yX0_has : MethodName := ⟨RX0, "has", "(I)Z"⟩
abbrev cX0_hasCandidate : ByteArray := prog_2_method_3_code
def yX0_hasCandidate : MethodName := ⟨RX0, "hasCandidate", "(II)Z"⟩
abbrev cX0_at : ByteArray := prog_2_method_4_code
def yX0_at : MethodName := ⟨RX0, "at", "(I)I"⟩
abbrev cX0_add : ByteArray := prog_2_method_5_code
def yX0_add : MethodName := ⟨RX0, "add", "(I)I"⟩
abbrev cX0_arrayOf : ByteArray := prog_2_method_6_code
def yX0_arrayOf : MethodName := ⟨RX0, "arrayOf", "(I)I"⟩
abbrev cX0_kindOf : ByteArray := prog_2_method_7_code
def yX0_kindOf : MethodName := ⟨RX0, "kindOf", "(I)I"⟩
abbrev cX0_candidateAt : ByteArray := prog_2_method_8_code
def yX0_candidateAt : MethodName := ⟨RX0, "candidateAt", "(II)J"⟩
abbrev cX0_indexOf : ByteArray := prog_2_method_9_code
def yX0_indexOf : MethodName := ⟨RX0, "indexOf", "(IJ)I"⟩
abbrev cX0_append : ByteArray := prog_2_method_10_code
def yX0_append : MethodName := ⟨RX0, "append", "(IJ)V"⟩
abbrev cX0_appendSpan : ByteArray := prog_2_method_11_code
def yX0_appendSpan : MethodName := ⟨RX0, "appendSpan", "(IJJJ)Z"⟩
abbrev cX0_isFree : ByteArray := prog_2_method_12_code
def yX0_isFree : MethodName := ⟨RX0, "isFree", "(I)Z"⟩
abbrev cX0_ways : ByteArray := prog_2_method_13_code
def yX0_ways : MethodName := ⟨RX0, "ways", "()I"⟩
abbrev cX0_takeWay : ByteArray := prog_2_method_14_code
def yX0_takeWay : MethodName := ⟨RX0, "takeWay", "(I)V"⟩
abbrev cX0_takeNext : ByteArray := prog_2_method_15_code
def yX0_takeNext : MethodName := ⟨RX0, "takeNext", "(LDecisionArrays$Rules;)V"⟩
abbrev cX1_isKind : ByteArray := prog_3_method_2_code
def yX1_isKind : MethodName := ⟨RX1, "isKind", "(I)Z"⟩
abbrev cX1_holds : ByteArray := prog_3_method_3_code
def yX1_holds : MethodName := ⟨RX1, "holds", "(IJ)Z"⟩
abbrev cX1_isNoNumber : ByteArray := prog_3_method_4_code
def yX1_isNoNumber : MethodName := ⟨RX1, "isNoNumber", "(IJ)Z"⟩
abbrev cX1_cleaned : ByteArray := prog_3_method_5_code
def yX1_cleaned : MethodName := ⟨RX1, "cleaned", "(IJ)J"⟩
abbrev cX1_reaches : ByteArray := prog_3_method_6_code
def yX1_reaches : MethodName := ⟨RX1, "reaches", "(II)Z"⟩
abbrev cX1_widened : ByteArray := prog_3_method_7_code
def yX1_widened : MethodName := ⟨RX1, "widened", "(IIJ)J"⟩
abbrev cX1_nearest : ByteArray := prog_3_method_8_code
def yX1_nearest : MethodName := ⟨RX1, "nearest", "(JII)J"⟩
abbrev cX1_doubleOfFloat : ByteArray := prog_3_method_9_code
def yX1_doubleOfFloat : MethodName := ⟨RX1, "doubleOfFloat", "(J)J"⟩
abbrev cX1_topBit : ByteArray := prog_3_method_10_code
def yX1_topBit : MethodName := ⟨RX1, "topBit", "(J)I"⟩
abbrev cX1_rank : ByteArray := prog_3_method_11_code
def yX1_rank : MethodName := ⟨RX1, "rank", "(IJ)J"⟩
abbrev cX1_number : ByteArray := prog_3_method_12_code
def yX1_number : MethodName := ⟨RX1, "number", "(IJ)J"⟩
abbrev cX1_towardsZero : ByteArray := prog_3_method_13_code
def yX1_towardsZero : MethodName := ⟨RX1, "towardsZero", "(ZIJI)J"⟩
abbrev cX1_alike : ByteArray := prog_3_method_14_code
def yX1_alike : MethodName := ⟨RX1, "alike", "(IJJ)Z"⟩
abbrev cX1_hashOf : ByteArray := prog_3_method_15_code
def yX1_hashOf : MethodName := ⟨RX1, "hashOf", "(IJ)I"⟩
abbrev cX2_init : ByteArray := prog_4_method_1_code
def yX2_init : MethodName := ⟨RX2, "<init>", "(LDecisionArrays$Store;)V"⟩
abbrev cX2_agree : ByteArray := prog_4_method_2_code
def yX2_agree : MethodName := ⟨RX2, "agree", "(II)Z"⟩
abbrev cX2_agreeAt : ByteArray := prog_4_method_3_code
def yX2_agreeAt : MethodName := ⟨RX2, "agreeAt", "(III)Z"⟩
abbrev cX2_rowsAgree : ByteArray := prog_4_method_4_code
def yX2_rowsAgree : MethodName := ⟨RX2, "rowsAgree", "(III)Z"⟩
abbrev cX2_sameShape : ByteArray := prog_4_method_5_code
def yX2_sameShape : MethodName := ⟨RX2, "sameShape", "(II)Z"⟩
abbrev cX2_digest : ByteArray := prog_4_method_6_code
def yX2_digest : MethodName := ⟨RX2, "digest", "(I)I"⟩
abbrev cX2_digestAt : ByteArray := prog_4_method_7_code
def yX2_digestAt : MethodName := ⟨RX2, "digestAt", "(II)I"⟩
abbrev cX3_init : ByteArray := prog_5_method_1_code
def yX3_init : MethodName := ⟨RX3, "<init>", "(LDecisionArrays$Store;)V"⟩
abbrev cX3_tellLengths : ByteArray := prog_5_method_2_code
def yX3_tellLengths : MethodName := ⟨RX3, "tellLengths", "(IIII)V"⟩
abbrev cX3_hasLengthBelowZero : ByteArray := prog_5_method_3_code
def yX3_hasLengthBelowZero : MethodName := ⟨RX3, "hasLengthBelowZero", "(I)Z"⟩
abbrev cX3_gridFits : ByteArray := prog_5_method_4_code
def yX3_gridFits : MethodName := ⟨RX3, "gridFits", "(I)Z"⟩
abbrev cX3_makeGrid : ByteArray := prog_5_method_5_code
def yX3_makeGrid : MethodName := ⟨RX3, "makeGrid", "(II)I"⟩
abbrev cX3_gridAt : ByteArray := prog_5_method_6_code
def yX3_gridAt : MethodName := ⟨RX3, "gridAt", "(III)I"⟩
abbrev cX3_twinFits : ByteArray := prog_5_method_7_code
def yX3_twinFits : MethodName := ⟨RX3, "twinFits", "(I)Z"⟩
abbrev cX3_plan : ByteArray := prog_5_method_8_code
def yX3_plan : MethodName := ⟨RX3, "plan", "(II)V"⟩
abbrev cX3_makeTwin : ByteArray := prog_5_method_9_code
def yX3_makeTwin : MethodName := ⟨RX3, "makeTwin", "(I)I"⟩
abbrev cX3_twinAt : ByteArray := prog_5_method_10_code
def yX3_twinAt : MethodName := ⟨RX3, "twinAt", "(II)I"⟩
abbrev cX4_init : ByteArray := prog_6_method_1_code
def yX4_init : MethodName := ⟨RX4, "<init>", "()V"⟩
abbrev cX4_keep : ByteArray := prog_6_method_2_code
def yX4_keep : MethodName := ⟨RX4, "keep", "(LDecisionArrays$Store;)V"⟩
abbrev cX4_bringBack : ByteArray := prog_6_method_3_code
def yX4_bringBack : MethodName := ⟨RX4, "bringBack", "(LDecisionArrays$Store;)V"⟩
abbrev cX5_init : ByteArray := prog_7_method_1_code
def yX5_init : MethodName := ⟨RX5, "<init>", "(LDecisionArrays$Store;)V"⟩
abbrev cX5_add : ByteArray := prog_7_method_2_code
def yX5_add : MethodName := ⟨RX5, "add", "(IIIJJ)I"⟩
abbrev cX5_total : ByteArray := prog_7_method_3_code
def yX5_total : MethodName := ⟨RX5, "total", "()J"⟩
abbrev cX5_amountOf : ByteArray := prog_7_method_4_code
def yX5_amountOf : MethodName := ⟨RX5, "amountOf", "(I)J"⟩
abbrev cX5_apart : ByteArray := prog_7_method_5_code
def yX5_apart : MethodName := ⟨RX5, "apart", "(JJ)J"⟩
abbrev cX5_measureAll : ByteArray := prog_7_method_6_code
def yX5_measureAll : MethodName := ⟨RX5, "measureAll", "()V"⟩
abbrev cX5_measure : ByteArray := prog_7_method_7_code
def yX5_measure : MethodName := ⟨RX5, "measure", "(I)V"⟩
abbrev cX5_shareOf : ByteArray := prog_7_method_8_code
def yX5_shareOf : MethodName := ⟨RX5, "shareOf", "(II)J"⟩
abbrev cX5_alikeIn : ByteArray := prog_7_method_9_code
def yX5_alikeIn : MethodName := ⟨RX5, "alikeIn", "(IJII)J"⟩
abbrev cX5_replace : ByteArray := prog_7_method_10_code
def yX5_replace : MethodName := ⟨RX5, "replace", "(IJ)V"⟩
abbrev cX5_adjust : ByteArray := prog_7_method_11_code
def yX5_adjust : MethodName := ⟨RX5, "adjust", "(IJJ)V"⟩
abbrev cX5_bearingOf : ByteArray := prog_7_method_12_code
def yX5_bearingOf : MethodName := ⟨RX5, "bearingOf", "(II)J"⟩
abbrev cX6_init : ByteArray := prog_8_method_1_code
def yX6_init : MethodName := ⟨RX6, "<init>", "()V"⟩
abbrev cX6_has : ByteArray := prog_8_method_2_code
def yX6_has : MethodName := ⟨RX6, "has", "(I)Z"⟩
abbrev cX6_fits : ByteArray := prog_8_method_3_code
def yX6_fits : MethodName := ⟨RX6, "fits", "(JJ)Z"⟩
abbrev cX6_add : ByteArray := prog_8_method_4_code
def yX6_add : MethodName := ⟨RX6, "add", "(IIII)I"⟩
abbrev cX6_hasPlace : ByteArray := prog_8_method_5_code
def yX6_hasPlace : MethodName := ⟨RX6, "hasPlace", "(II)Z"⟩
abbrev cX6_hasRange : ByteArray := prog_8_method_6_code
def yX6_hasRange : MethodName := ⟨RX6, "hasRange", "(III)Z"⟩
abbrev cX6_hasMany : ByteArray := prog_8_method_7_code
def yX6_hasMany : MethodName := ⟨RX6, "hasMany", "(III)Z"⟩
abbrev cX6_walk : ByteArray := prog_8_method_8_code
def yX6_walk : MethodName := ⟨RX6, "walk", "(IIIII)I"⟩
abbrev cX6_slotOf : ByteArray := prog_8_method_9_code
def yX6_slotOf : MethodName := ⟨RX6, "slotOf", "(I)I"⟩
abbrev cX6_takes : ByteArray := prog_8_method_10_code
def yX6_takes : MethodName := ⟨RX6, "takes", "(IJ)Z"⟩
abbrev cX6_isRowFor : ByteArray := prog_8_method_11_code
def yX6_isRowFor : MethodName := ⟨RX6, "isRowFor", "(II)Z"⟩
abbrev cX6_canMove : ByteArray := prog_8_method_12_code
def yX6_canMove : MethodName := ⟨RX6, "canMove", "(II)Z"⟩
abbrev cX6_takenOf : ByteArray := prog_8_method_13_code
def yX6_takenOf : MethodName := ⟨RX6, "takenOf", "(IIII)I"⟩
abbrev cX6_nullRows : ByteArray := prog_8_method_14_code
def yX6_nullRows : MethodName := ⟨RX6, "nullRows", "(I)I"⟩
abbrev cX6_pinnedIn : ByteArray := prog_8_method_15_code
def yX6_pinnedIn : MethodName := ⟨RX6, "pinnedIn", "(III)I"⟩
abbrev cX6_putInOrder : ByteArray := prog_8_method_16_code
def yX6_putInOrder : MethodName := ⟨RX6, "putInOrder", "(III)I"⟩
abbrev cX6_insert : ByteArray := prog_8_method_17_code
def yX6_insert : MethodName := ⟨RX6, "insert", "(III)V"⟩
abbrev cX6_halve : ByteArray := prog_8_method_18_code
def yX6_halve : MethodName := ⟨RX6, "halve", "(IJ)I"⟩
abbrev cX7_init : ByteArray := prog_1_method_1_code
def yX7_init : MethodName := ⟨RX7, "<init>", "()V"⟩
abbrev cX7_array : ByteArray := prog_1_method_2_code
def yX7_array : MethodName := ⟨RX7, "array", "(II)I"⟩
abbrev cX7_things : ByteArray := prog_1_method_3_code
def yX7_things : MethodName := ⟨RX7, "things", "(II)I"⟩
abbrev cX7_rows : ByteArray := prog_1_method_4_code
def yX7_rows : MethodName := ⟨RX7, "rows", "(II)I"⟩
abbrev cX7_grid : ByteArray := prog_1_method_5_code
def yX7_grid : MethodName := ⟨RX7, "grid", "(IIIIII)I"⟩
abbrev cX7_about : ByteArray := prog_1_method_6_code
def yX7_about : MethodName := ⟨RX7, "about", "(II)I"⟩
abbrev cX7_row : ByteArray := prog_1_method_7_code
def yX7_row : MethodName := ⟨RX7, "row", "(II)I"⟩
abbrev cX7_setRow : ByteArray := prog_1_method_8_code
def yX7_setRow : MethodName := ⟨RX7, "setRow", "(III)I"⟩
abbrev cX7_read : ByteArray := prog_1_method_9_code
def yX7_read : MethodName := ⟨RX7, "read", "(IIIIII)J"⟩
abbrev cX7_write : ByteArray := prog_1_method_10_code
def yX7_write : MethodName := ⟨RX7, "write", "(IIIIIIJ)I"⟩
abbrev cX7_place : ByteArray := prog_1_method_11_code
def yX7_place : MethodName := ⟨RX7, "place", "(IIIII)I"⟩
abbrev cX7_pin : ByteArray := prog_1_method_12_code
def yX7_pin : MethodName := ⟨RX7, "pin", "(IIIIIZ)I"⟩
abbrev cX7_column : ByteArray := prog_1_method_13_code
def yX7_column : MethodName := ⟨RX7, "column", "(II)I"⟩
abbrev cX7_code : ByteArray := prog_1_method_14_code
def yX7_code : MethodName := ⟨RX7, "code", "()I"⟩
abbrev cX7_widens : ByteArray := prog_1_method_15_code
def yX7_widens : MethodName := ⟨RX7, "widens", "(II)I"⟩
abbrev cX7_fill : ByteArray := prog_1_method_16_code
def yX7_fill : MethodName := ⟨RX7, "fill", "(IIIIJ)I"⟩
abbrev cX7_move : ByteArray := prog_1_method_17_code
def yX7_move : MethodName := ⟨RX7, "move", "(IIIII)I"⟩
abbrev cX7_copy : ByteArray := prog_1_method_18_code
def yX7_copy : MethodName := ⟨RX7, "copy", "(II)I"⟩
abbrev cX7_deep : ByteArray := prog_1_method_19_code
def yX7_deep : MethodName := ⟨RX7, "deep", "(I)I"⟩
abbrev cX7_sort : ByteArray := prog_1_method_20_code
def yX7_sort : MethodName := ⟨RX7, "sort", "(III)I"⟩
abbrev cX7_search : ByteArray := prog_1_method_21_code
def yX7_search : MethodName := ⟨RX7, "search", "(IJ)I"⟩
abbrev cX7_same : ByteArray := prog_1_method_22_code
def yX7_same : MethodName := ⟨RX7, "same", "(II)I"⟩
abbrev cX7_hash : ByteArray := prog_1_method_23_code
def yX7_hash : MethodName := ⟨RX7, "hash", "(I)I"⟩
abbrev cX7_decide : ByteArray := prog_1_method_24_code
def yX7_decide : MethodName := ⟨RX7, "decide", "(IIIII)I"⟩
abbrev cX7_candidate : ByteArray := prog_1_method_25_code
def yX7_candidate : MethodName := ⟨RX7, "candidate", "(IJ)I"⟩
abbrev cX7_span : ByteArray := prog_1_method_26_code
def yX7_span : MethodName := ⟨RX7, "span", "(IJJJ)I"⟩
abbrev cX7_choose : ByteArray := prog_1_method_27_code
def yX7_choose : MethodName := ⟨RX7, "choose", "(II)I"⟩
abbrev cX7_decision : ByteArray := prog_1_method_28_code
def yX7_decision : MethodName := ⟨RX7, "decision", "(II)I"⟩
abbrev cX7_candidateOf : ByteArray := prog_1_method_29_code
def yX7_candidateOf : MethodName := ⟨RX7, "candidateOf", "(II)J"⟩
abbrev cX7_rule : ByteArray := prog_1_method_30_code
def yX7_rule : MethodName := ⟨RX7, "rule", "(IIIJJ)I"⟩
abbrev cX7_amount : ByteArray := prog_1_method_31_code
def yX7_amount : MethodName := ⟨RX7, "amount", "(I)J"⟩
abbrev cX7_score : ByteArray := prog_1_method_32_code
def yX7_score : MethodName := ⟨RX7, "score", "()J"⟩
abbrev cX7_best : ByteArray := prog_1_method_33_code
def yX7_best : MethodName := ⟨RX7, "best", "()I"⟩
abbrev cX7_mark : ByteArray := prog_1_method_34_code
def yX7_mark : MethodName := ⟨RX7, "mark", "()I"⟩
abbrev cX7_back : ByteArray := prog_1_method_35_code
def yX7_back : MethodName := ⟨RX7, "back", "()I"⟩
abbrev cX7_count : ByteArray := prog_1_method_36_code
def yX7_count : MethodName := ⟨RX7, "count", "(I)I"⟩
abbrev cX7_fail : ByteArray := prog_1_method_37_code
def yX7_fail : MethodName := ⟨RX7, "fail", "(I)I"⟩
abbrev cX7_noBits : ByteArray := prog_1_method_38_code
def yX7_noBits : MethodName := ⟨RX7, "noBits", "(I)J"⟩
abbrev cX7_fine : ByteArray := prog_1_method_39_code
def yX7_fine : MethodName := ⟨RX7, "fine", "(I)I"⟩
abbrev cX7_newArray : ByteArray := prog_1_method_40_code
def yX7_newArray : MethodName := ⟨RX7, "newArray", "(IIII)I"⟩
abbrev cX7_rowCode : ByteArray := prog_1_method_41_code
def yX7_rowCode : MethodName := ⟨RX7, "rowCode", "(II)I"⟩
abbrev cX8_init : ByteArray := prog_10_method_1_code
def yX8_init : MethodName := ⟨RX8, "<init>", "()V"⟩
abbrev cX8_within : ByteArray := prog_10_method_3_code
def yX8_within : MethodName := ⟨RX8, "within", "(JJJ)Z"⟩
abbrev cX8_fails : ByteArray := prog_10_method_4_code
def yX8_fails : MethodName := ⟨RX8, "fails", "(I)I"⟩
abbrev cX8_fine : ByteArray := prog_10_method_5_code
def yX8_fine : MethodName := ⟨RX8, "fine", "(I)I"⟩
abbrev cX8_isArray : ByteArray := prog_10_method_6_code
def yX8_isArray : MethodName := ⟨RX8, "isArray", "(I)Z"⟩
abbrev cX8_isBits : ByteArray := prog_10_method_7_code
def yX8_isBits : MethodName := ⟨RX8, "isBits", "(IJ)Z"⟩
abbrev cX8_isNone : ByteArray := prog_10_method_8_code
def yX8_isNone : MethodName := ⟨RX8, "isNone", "(IJ)Z"⟩
abbrev cX8_plain : ByteArray := prog_10_method_9_code
def yX8_plain : MethodName := ⟨RX8, "plain", "(IJ)J"⟩
abbrev cX8_isWider : ByteArray := prog_10_method_10_code
def yX8_isWider : MethodName := ⟨RX8, "isWider", "(II)Z"⟩
abbrev cX8_real : ByteArray := prog_10_method_11_code
def yX8_real : MethodName := ⟨RX8, "real", "(JII)J"⟩
abbrev cX8_floatToDouble : ByteArray := prog_10_method_12_code
def yX8_floatToDouble : MethodName := ⟨RX8, "floatToDouble", "(J)J"⟩
abbrev cX8_widened : ByteArray := prog_10_method_13_code
def yX8_widened : MethodName := ⟨RX8, "widened", "(IIJ)J"⟩
abbrev cX8_whole : ByteArray := prog_10_method_14_code
def yX8_whole : MethodName := ⟨RX8, "whole", "(J)J"⟩
abbrev cX8_sumNumber : ByteArray := prog_10_method_15_code
def yX8_sumNumber : MethodName := ⟨RX8, "sumNumber", "(IJ)J"⟩
abbrev cX8_orderNumber : ByteArray := prog_10_method_16_code
def yX8_orderNumber : MethodName := ⟨RX8, "orderNumber", "(IJ)J"⟩
abbrev cX8_widens : ByteArray := prog_10_method_17_code
def yX8_widens : MethodName := ⟨RX8, "widens", "(II)I"⟩
abbrev cX8_code : ByteArray := prog_10_method_18_code
def yX8_code : MethodName := ⟨RX8, "code", "()I"⟩
abbrev cX8_isRoom : ByteArray := prog_10_method_19_code
def yX8_isRoom : MethodName := ⟨RX8, "isRoom", "(IJ)Z"⟩
abbrev cX8_make : ByteArray := prog_10_method_20_code
def yX8_make : MethodName := ⟨RX8, "make", "(IIII)I"⟩
abbrev cX8_array : ByteArray := prog_10_method_21_code
def yX8_array : MethodName := ⟨RX8, "array", "(II)I"⟩
abbrev cX8_things : ByteArray := prog_10_method_22_code
def yX8_things : MethodName := ⟨RX8, "things", "(II)I"⟩
abbrev cX8_rows : ByteArray := prog_10_method_23_code
def yX8_rows : MethodName := ⟨RX8, "rows", "(II)I"⟩
abbrev cX8_grid : ByteArray := prog_10_method_24_code
def yX8_grid : MethodName := ⟨RX8, "grid", "(IIIIII)I"⟩
abbrev cX8_about : ByteArray := prog_10_method_25_code
def yX8_about : MethodName := ⟨RX8, "about", "(II)I"⟩
abbrev cX8_row : ByteArray := prog_10_method_26_code
def yX8_row : MethodName := ⟨RX8, "row", "(II)I"⟩
abbrev cX8_setRow : ByteArray := prog_10_method_27_code
def yX8_setRow : MethodName := ⟨RX8, "setRow", "(III)I"⟩
abbrev cX8_follow : ByteArray := prog_10_method_28_code
def yX8_follow : MethodName := ⟨RX8, "follow", "(IIIII)I"⟩
abbrev cX8_here : ByteArray := prog_10_method_29_code
def yX8_here : MethodName := ⟨RX8, "here", "()I"⟩
abbrev cX8_read : ByteArray := prog_10_method_30_code
def yX8_read : MethodName := ⟨RX8, "read", "(IIIIII)J"⟩
abbrev cX8_takes : ByteArray := prog_10_method_31_code
def yX8_takes : MethodName := ⟨RX8, "takes", "(IJ)Z"⟩
abbrev cX8_write : ByteArray := prog_10_method_32_code
def yX8_write : MethodName := ⟨RX8, "write", "(IIIIIIJ)I"⟩
abbrev cX8_place : ByteArray := prog_10_method_33_code
def yX8_place : MethodName := ⟨RX8, "place", "(IIIII)I"⟩
abbrev cX8_pin : ByteArray := prog_10_method_34_code
def yX8_pin : MethodName := ⟨RX8, "pin", "(IIIIIZ)I"⟩
abbrev cX8_column : ByteArray := prog_10_method_35_code
def yX8_column : MethodName := ⟨RX8, "column", "(II)I"⟩
abbrev cX8_fill : ByteArray := prog_10_method_36_code
def yX8_fill : MethodName := ⟨RX8, "fill", "(IIIIJ)I"⟩
abbrev cX8_move : ByteArray := prog_10_method_37_code
def yX8_move : MethodName := ⟨RX8, "move", "(IIIII)I"⟩
abbrev cX8_copy : ByteArray := prog_10_method_38_code
def yX8_copy : MethodName := ⟨RX8, "copy", "(II)I"⟩
abbrev cX8_copyOne : ByteArray := prog_10_method_39_code
def yX8_copyOne : MethodName := ⟨RX8, "copyOne", "(I)I"⟩
abbrev cX8_deep : ByteArray := prog_10_method_40_code
def yX8_deep : MethodName := ⟨RX8, "deep", "(I)I"⟩
abbrev cX8_sort : ByteArray := prog_10_method_41_code
def yX8_sort : MethodName := ⟨RX8, "sort", "(III)I"⟩
abbrev cX8_search : ByteArray := prog_10_method_42_code
def yX8_search : MethodName := ⟨RX8, "search", "(IJ)I"⟩
abbrev cX8_isSame : ByteArray := prog_10_method_43_code
def yX8_isSame : MethodName := ⟨RX8, "isSame", "(II)Z"⟩
abbrev cX8_same : ByteArray := prog_10_method_44_code
def yX8_same : MethodName := ⟨RX8, "same", "(II)I"⟩
abbrev cX8_hashOf : ByteArray := prog_10_method_45_code
def yX8_hashOf : MethodName := ⟨RX8, "hashOf", "(I)I"⟩
abbrev cX8_hash : ByteArray := prog_10_method_46_code
def yX8_hash : MethodName := ⟨RX8, "hash", "(I)I"⟩
abbrev cX8_decide : ByteArray := prog_10_method_47_code
def yX8_decide : MethodName := ⟨RX8, "decide", "(IIIII)I"⟩
abbrev cX8_candidateAt : ByteArray := prog_10_method_48_code
def yX8_candidateAt : MethodName := ⟨RX8, "candidateAt", "(IJ)I"⟩
abbrev cX8_isDecision : ByteArray := prog_10_method_49_code
def yX8_isDecision : MethodName := ⟨RX8, "isDecision", "(I)Z"⟩
abbrev cX8_candidate : ByteArray := prog_10_method_50_code
def yX8_candidate : MethodName := ⟨RX8, "candidate", "(IJ)I"⟩
abbrev cX8_span : ByteArray := prog_10_method_51_code
def yX8_span : MethodName := ⟨RX8, "span", "(IJJJ)I"⟩
abbrev cX8_elementOf : ByteArray := prog_10_method_52_code
def yX8_elementOf : MethodName := ⟨RX8, "elementOf", "(I)I"⟩
abbrev cX8_choose : ByteArray := prog_10_method_53_code
def yX8_choose : MethodName := ⟨RX8, "choose", "(II)I"⟩
abbrev cX8_decision : ByteArray := prog_10_method_54_code
def yX8_decision : MethodName := ⟨RX8, "decision", "(II)I"⟩
abbrev cX8_candidateOf : ByteArray := prog_10_method_55_code
def yX8_candidateOf : MethodName := ⟨RX8, "candidateOf", "(II)J"⟩
abbrev cX8_rule : ByteArray := prog_10_method_56_code
def yX8_rule : MethodName := ⟨RX8, "rule", "(IIIJJ)I"⟩
abbrev cX8_far : ByteArray := prog_10_method_57_code
def yX8_far : MethodName := ⟨RX8, "far", "(JJ)J"⟩
abbrev cX8_isLike : ByteArray := prog_10_method_58_code
def yX8_isLike : MethodName := ⟨RX8, "isLike", "(IJJ)Z"⟩
abbrev cX8_amountOf : ByteArray := prog_10_method_59_code
def yX8_amountOf : MethodName := ⟨RX8, "amountOf", "(I)J"⟩
abbrev cX8_amount : ByteArray := prog_10_method_60_code
def yX8_amount : MethodName := ⟨RX8, "amount", "(I)J"⟩
abbrev cX8_score : ByteArray := prog_10_method_61_code
def yX8_score : MethodName := ⟨RX8, "score", "()J"⟩
abbrev cX8_choices : ByteArray := prog_10_method_62_code
def yX8_choices : MethodName := ⟨RX8, "choices", "(I)I"⟩
abbrev cX8_ways : ByteArray := prog_10_method_63_code
def yX8_ways : MethodName := ⟨RX8, "ways", "()I"⟩
abbrev cX8_lay : ByteArray := prog_10_method_64_code
def yX8_lay : MethodName := ⟨RX8, "lay", "(II)V"⟩
abbrev cX8_best : ByteArray := prog_10_method_65_code
def yX8_best : MethodName := ⟨RX8, "best", "()I"⟩
abbrev cX8_mark : ByteArray := prog_10_method_66_code
def yX8_mark : MethodName := ⟨RX8, "mark", "()I"⟩
abbrev cX8_back : ByteArray := prog_10_method_67_code
def yX8_back : MethodName := ⟨RX8, "back", "()I"⟩
abbrev cX8_count : ByteArray := prog_10_method_68_code
def yX8_count : MethodName := ⟨RX8, "count", "(I)I"⟩
abbrev cL_law : ByteArray := code
abbrev classes : List vw_C := [(RX0, TX0, 7), (RX2, TX2, 5), (RX3, TX3, 4), (RX4, TX4, 3), (RX5, TX5, 9), (RX6, TX6, 10), (RX7, TX7, 8), (RX8, TX8, 37)]
abbrev zz_RM : String := "DecisionArrays$Mark"
def zz_nm : List (String × Nat × MethodName × String) := [(RX7, 9, yX6_init, "DecisionArrays"), (RX7, 284, yX4_init, "DecisionArrays")]
end
section
/-! THE LAYER: every contract here is of one shape. g: class numbers and slots of the tables, and the classes of int[], long[], boolean[], Mark[]. -/
abbrev zz_G : Type := va_G × (ClassId × ClassId × ClassId × ClassId)
abbrev zz_TT (g : zz_G) : List (ClassId × FieldType) := [(g.2.1, .int), (g.2.2.1, .long), (g.2.2.2.1, .boolean), (g.2.2.2.2, .object zz_RM)]
/-- the words that every method takes -/
def zz_w : List Cond := lw_tbl.filter goodWord
theorem zz_in {w : Cond} (h : w ∈ lw_tbl) (hg : goodWord w = true) : w ∈ zz_w := List.mem_filter.mpr ⟨h, hg⟩
theorem zz_good {y : MethodName} {b : ByteArray} {n : Nat} {r : Option FieldType} (h : Cond.code y b n r ∈ zz_w) : GoodIn zz_w (Cond.code y b n r :: zz_w) := by
  intro w hw
  have hw' : w ∈ zz_w := by
    rcases List.mem_cons.mp hw with e | e
    · rw [e]; exact h
    · exact e
  exact ⟨hw', good_of_word (List.mem_filter.mp hw').2⟩
/-- what every contract takes of the tables -/
def zz_KK (g : zz_G) (U : State) : Prop := va_K g.1 classes (zz_TT g) U ∧ (∀ q ∈ zz_nm, va_Nw (.methodLinkNest q.1 q.2.1 q.2.2.1 q.2.2.2) U) ∧ va_AO zz_RM U
theorem zz_KK.moved {g : zz_G} {s U : State} (hW : s.WarmedH U.vm) (h : zz_KK g s) : zz_KK g U :=
  ⟨va_K.moved hW.alike h.1, fun q hq => va_Nw.warmM hW (h.2.1 q hq), va_AO.moved hW.alike h.2.2⟩
theorem zz_KK.same {g : zz_G} {s U : State} (hv : s.vm = U.vm) (h : zz_KK g s) : zz_KK g U :=
  ⟨va_K.moved (by rw [hv]; exact Vm.Alike.refl U.vm) h.1, fun q hq => va_Nw.same rfl hv (h.2.1 q hq), va_AO.moved (by rw [hv]; exact Vm.Alike.refl U.vm) h.2.2⟩
def zz_Pre (g : zz_G) (av : List Value) (ws : va_W) (sz : Nat) : Array Value → State → Prop :=
  va_Pc av (fun U => U.heap.size = sz ∧ va_P g.1 classes ws U.heap ∧ zz_KK g U ∧ va_D (fun _ => True) ws)
theorem zz_blind {g : zz_G} {av : List Value} {ws : va_W} {sz : Nat} : FrameBlind (zz_Pre g av ws sz) := by
  intro a U gf mk q
  obtain ⟨q0, q1, qP, qK, qD⟩ := q
  exact ⟨q0, q1, qP, zz_KK.same (s := U) (U := U.calling gf mk a) rfl qK, qD⟩
abbrev zz_B (g : zz_G) (A : Nat → Prop) : va_W → State → Prop := fun u t => va_P g.1 classes u t.heap ∧ va_D A u
/-- contracts: an int (or boolean), a long, nothing -/
def zz_I (g : zz_G) (y : MethodName) (wd : Cond) (rm : Room) (av : List Value) (ws : va_W) (Post : Int32 → va_W → Prop) : Prop :=
  ∀ (l : Launch) (sz : Nat), Met l y (wd :: zz_w) rm (zz_Pre g av ws sz) (va_Qi Post (zz_B g (va_A ws sz)) (va_A ws sz)) rm.cells rm.slots (va_A ws sz)
def zz_L (g : zz_G) (y : MethodName) (wd : Cond) (rm : Room) (av : List Value) (ws : va_W) (Post : Int64 → va_W → Prop) : Prop :=
  ∀ (l : Launch) (sz : Nat), Met l y (wd :: zz_w) rm (zz_Pre g av ws sz) (va_Ql Post (zz_B g (va_A ws sz)) (va_A ws sz)) rm.cells rm.slots (va_A ws sz)
def zz_V (g : zz_G) (y : MethodName) (wd : Cond) (rm : Room) (av : List Value) (ws : va_W) (Post : va_W → Prop) : Prop :=
  ∀ (l : Launch) (sz : Nat), Met l y (wd :: zz_w) rm (zz_Pre g av ws sz) (va_Qv Post (zz_B g (va_A ws sz)) (va_A ws sz)) rm.cells rm.slots (va_A ws sz)
/-- the standing facts of a walk -/
def zz_C (p : Program) (s : State) (m : MethodId) (args : Array Value) (meth : Method) (c : Code) (g : zz_G) (own : String) (cc : ByteArray) (nL : Nat) (ret : Option FieldType) : Prop :=
  p.tables.exec = Jvm.exec ∧ c.code = cc ∧ c.maxLocals = nL ∧ s.vm.findClass own = some m.cls ∧ (∀ w ∈ zz_w, w.before args s = true) ∧ meth.sig.returnType = ret ∧ meth.locks = false ∧ zz_KK g s
/-- the world of a walk -/
def zz_Z (g : zz_G) (A : Nat → Prop) (H0 : Heap) (ws : va_W) (H : Heap) (locs : List Loc) : Prop :=
  va_P g.1 classes ws H ∧ va_D A ws ∧ va_S A H0 H locs ∧ ∀ q, H0.size ≤ q → A q
abbrev zz_QI (below : List Frame) (g : zz_G) (args : Array Value) (s : State) (A : Nat → Prop) (mc ms : Nat) (Post : Int32 → va_W → Prop) : State → Prop := MQ below (va_Qi Post (zz_B g A) A) args s mc ms A
abbrev zz_QL (below : List Frame) (g : zz_G) (args : Array Value) (s : State) (A : Nat → Prop) (mc ms : Nat) (Post : Int64 → va_W → Prop) : State → Prop := MQ below (va_Ql Post (zz_B g A) A) args s mc ms A
abbrev zz_QV (below : List Frame) (g : zz_G) (args : Array Value) (s : State) (A : Nat → Prop) (mc ms : Nat) (Post : va_W → Prop) : State → Prop := MQ below (va_Qv Post (zz_B g A) A) args s mc ms A
section zzIntro
variable {g : zz_G} {y : MethodName} {own : String} {cc : ByteArray} {nL : Nat} {rm : Room} {av : List Value} {ws : va_W}
theorem zz_I.intro {Post : Int32 → va_W → Prop} {ret : Option FieldType} (hy : plainName y.cls = true) (ho : y.cls = own) (hn : (lg_sl av).length ≤ nL)
    (body : ∀ (p : Program) (l : Launch) (e : Env) (s : State) (m : MethodId) (args : Array Value) (below : List Frame) (meth : Method) (c : Code) (A : Nat → Prop) (H : Heap) (locs : List Loc) (ls : Array Slot),
      zz_C p s m args meth c g own cc nL ret → meth.name = y.name → zz_Z g A s.heap ws H locs → lv_has ls nL (lv_args 0 av) →
      W p l e rm s m args below meth c H locs 0 0 (zz_QI below g args s A rm.cells rm.slots Post) (F0 m 0 ls [])) : zz_I g y (.code y cc nL ret) rm av ws Post := by
  intro l sz
  refine Met.ofW (cc := cc) (maxL := nL) (ret := ret) hy rfl ?_
  intro p e s m args below meth c s₁ B hml hv
  obtain ⟨rfl, hsz, hP, hK, hD0⟩ := hv
  subst hsz
  have hts := atoms_spec (ws := Cond.code y cc nL ret :: zz_w) B.pre
  rw [lg_entry_eq]
  exact body p l e s m av.toArray below meth c (va_A ws s.heap.size) s.heap [] _ ⟨B.exec, B.bytes, hml, by rw [← ho]; exact findClass_of_methodNamed B.named, fun w h => hts w (List.mem_cons_of_mem _ h), B.returns, B.notSynchronized, hK⟩
    (name_of_methodNamed B.named B.method).1 ⟨hP, hD0.self (sz := s.heap.size), va_S.rf, fun q h => Or.inr h⟩ (lv_entry av (n := nL) hn)
theorem zz_L.intro {Post : Int64 → va_W → Prop} {ret : Option FieldType} (hy : plainName y.cls = true) (ho : y.cls = own) (hn : (lg_sl av).length ≤ nL)
    (body : ∀ (p : Program) (l : Launch) (e : Env) (s : State) (m : MethodId) (args : Array Value) (below : List Frame) (meth : Method) (c : Code) (A : Nat → Prop) (H : Heap) (locs : List Loc) (ls : Array Slot),
      zz_C p s m args meth c g own cc nL ret → meth.name = y.name → zz_Z g A s.heap ws H locs → lv_has ls nL (lv_args 0 av) →
      W p l e rm s m args below meth c H locs 0 0 (zz_QL below g args s A rm.cells rm.slots Post) (F0 m 0 ls [])) : zz_L g y (.code y cc nL ret) rm av ws Post := by
  intro l sz
  refine Met.ofW (cc := cc) (maxL := nL) (ret := ret) hy rfl ?_
  intro p e s m args below meth c s₁ B hml hv
  obtain ⟨rfl, hsz, hP, hK, hD0⟩ := hv
  subst hsz
  have hts := atoms_spec (ws := Cond.code y cc nL ret :: zz_w) B.pre
  rw [lg_entry_eq]
  exact body p l e s m av.toArray below meth c (va_A ws s.heap.size) s.heap [] _ ⟨B.exec, B.bytes, hml, by rw [← ho]; exact findClass_of_methodNamed B.named, fun w h => hts w (List.mem_cons_of_mem _ h), B.returns, B.notSynchronized, hK⟩
    (name_of_methodNamed B.named B.method).1 ⟨hP, hD0.self (sz := s.heap.size), va_S.rf, fun q h => Or.inr h⟩ (lv_entry av (n := nL) hn)
theorem zz_V.intro {Post : va_W → Prop} {ret : Option FieldType} (hy : plainName y.cls = true) (ho : y.cls = own) (hn : (lg_sl av).length ≤ nL)
    (body : ∀ (p : Program) (l : Launch) (e : Env) (s : State) (m : MethodId) (args : Array Value) (below : List Frame) (meth : Method) (c : Code) (A : Nat → Prop) (H : Heap) (locs : List Loc) (ls : Array Slot),
      zz_C p s m args meth c g own cc nL ret → meth.name = y.name → zz_Z g A s.heap ws H locs → lv_has ls nL (lv_args 0 av) →
      W p l e rm s m args below meth c H locs 0 0 (zz_QV below g args s A rm.cells rm.slots Post) (F0 m 0 ls [])) : zz_V g y (.code y cc nL ret) rm av ws Post := by
  intro l sz
  refine Met.ofW (cc := cc) (maxL := nL) (ret := ret) hy rfl ?_
  intro p e s m args below meth c s₁ B hml hv
  obtain ⟨rfl, hsz, hP, hK, hD0⟩ := hv
  subst hsz
  have hts := atoms_spec (ws := Cond.code y cc nL ret :: zz_w) B.pre
  rw [lg_entry_eq]
  exact body p l e s m av.toArray below meth c (va_A ws s.heap.size) s.heap [] _ ⟨B.exec, B.bytes, hml, by rw [← ho]; exact findClass_of_methodNamed B.named, fun w h => hts w (List.mem_cons_of_mem _ h), B.returns, B.notSynchronized, hK⟩
    (name_of_methodNamed B.named B.method).1 ⟨hP, hD0.self (sz := s.heap.size), va_S.rf, fun q h => Or.inr h⟩ (lv_entry av (n := nL) hn)
end zzIntro
theorem zz_Z.sub {g : zz_G} {A : Nat → Prop} {H0 : Heap} {ws ws' : va_W} {H : Heap} {locs : List Loc} (hZ : zz_Z g A H0 ws H locs) (is : List Nat) (hn : va_nd is = true) (hs : is.map (fun i => ws[i]?) = ws'.map some) : zz_Z g A H0 ws' H locs := by
  obtain ⟨hP, hD, hS, hA⟩ := hZ
  refine ⟨fun k q hq => ?_, hD.sub is hn hs, hS, hA⟩
  have h1 : (ws'.map some)[k]? = some (some q) := by rw [List.getElem?_map, hq]; rfl
  rw [← hs, List.getElem?_map] at h1
  cases h2 : is[k]? with
  | none => rw [h2] at h1; cases h1
  | some i =>
    rw [h2] at h1
    exact hP i q (Option.some.inj h1)
theorem zz_Z.left {g : zz_G} {A : Nat → Prop} {H0 : Heap} {w1 w2 : va_W} {H : Heap} {locs : List Loc} (hZ : zz_Z g A H0 (w1 ++ w2) H locs) : zz_Z g A H0 w1 H locs := by
  obtain ⟨hP, hD, hS, hA⟩ := hZ
  have h1 : ∀ (k : Nat) (q : Nat × va_E), w1[k]? = some q → (w1 ++ w2)[k]? = some q := fun k q hq => by
    rw [List.getElem?_append_left (List.getElem?_eq_some_iff.mp hq).1]; exact hq
  exact ⟨fun k q hq => hP k q (h1 k q hq), ⟨fun i j p q hp hq he => hD.1 i j p q (h1 i p hp) (h1 j q hq) he, fun k q hq => hD.2 k q (h1 k q hq)⟩, hS, hA⟩
theorem zz_sw (x : Int32) (n : Nat) (hn : n < 2 ^ 31) : (x.toInt < 0 ∨ (n : Int) ≤ x.toInt) ∨ ∃ k : Nat, k < n ∧ x = nI k := by
  by_cases h0 : x < 0
  · exact Or.inl (Or.inl (by have := Int32.lt_iff_toInt_lt.mp h0; simpa using this))
  · obtain ⟨j, hj, e⟩ := nI_of h0
    by_cases h1 : j < n
    · exact Or.inr ⟨j, h1, e⟩
    · exact Or.inl (Or.inr (by rw [e, nI_toInt hj]; omega))
section zzRows
variable {p : Program} {l : Launch} {e : Env} {R : Room} {s : State} {m : MethodId} {args : Array Value} {below : List Frame} {meth : Method} {c : Code} {H : Heap} {locs : List Loc} {cells slots : Nat} {Q : State → Prop}
variable {cc : ByteArray} {pc : Nat} {ls : Array Slot} {rest : List Value} {g : zz_G} {A : Nat → Prop} {a : Nat} {ws : va_W} {own : String} {nL : Nat} {ret : Option FieldType}
theorem zz_topi {x v : Int32} (h : x = v) (k : W p l e R s m args below meth c H locs cells slots Q (F0 m pc ls (.int v :: rest))) : W p l e R s m args below meth c H locs cells slots Q (F0 m pc ls (.int x :: rest)) := h ▸ k
theorem zz_topl {x v : Int64} (h : x = v) (k : W p l e R s m args below meth c H locs cells slots Q (F0 m pc ls (.long v :: rest))) : W p l e R s m args below meth c H locs cells slots Q (F0 m pc ls (.long x :: rest)) := h ▸ k
/-- ends -/
theorem zz_iret {Post : Int32 → va_W → Prop} {mc ms : Nat} {v : Int32} (hC : zz_C p s m args meth c g own cc nL (some .int)) (hZ : zz_Z g A s.heap ws H locs) (hp : Post v ws) (hc : cells ≤ mc) (hs : slots ≤ ms) (hdg : decode cc pc = .ok (.ireturn, 1)) :
    W p l e R s m args below meth c H locs cells slots (zz_QI below g args s A mc ms Post) (F0 m pc ls [.int v]) := by
  obtain ⟨hx, hb, hml, hown, hts, hr, hlocks, hK⟩ := hC
  obtain ⟨hP, hD, hS, hA⟩ := hZ
  refine W.widen hc hs ?_
  exact W.iret hx hb hr (fun t ht hW => ⟨⟨v, ws, rfl, hp, by rw [ht]; exact hP, hD⟩, hS.F ht⟩) hS.2.2 hdg hlocks
theorem zz_zret {Post : Int32 → va_W → Prop} {mc ms : Nat} {v : Int32} (hC : zz_C p s m args meth c g own cc nL (some .boolean)) (hZ : zz_Z g A s.heap ws H locs) (hn : narrow .boolean (.int v) = .int v) (hp : Post v ws) (hc : cells ≤ mc) (hs : slots ≤ ms) (hdg : decode cc pc = .ok (.ireturn, 1)) :
    W p l e R s m args below meth c H locs cells slots (zz_QI below g args s A mc ms Post) (F0 m pc ls [.int v]) := by
  obtain ⟨hx, hb, hml, hown, hts, hr, hlocks, hK⟩ := hC
  obtain ⟨hP, hD, hS, hA⟩ := hZ
  refine W.widen hc hs ?_
  exact W.zret hx hb hr hn (fun t ht hW => ⟨⟨v, ws, rfl, hp, by rw [ht]; exact hP, hD⟩, hS.F ht⟩) hS.2.2 hdg hlocks
theorem zz_lret {Post : Int64 → va_W → Prop} {mc ms : Nat} {v : Int64} (hC : zz_C p s m args meth c g own cc nL (some .long)) (hZ : zz_Z g A s.heap ws H locs) (hp : Post v ws) (hc : cells ≤ mc) (hs : slots ≤ ms) (hdg : decode cc pc = .ok (.lreturn, 1)) :
    W p l e R s m args below meth c H locs cells slots (zz_QL below g args s A mc ms Post) (F0 m pc ls [.long v]) := by
  obtain ⟨hx, hb, hml, hown, hts, hr, hlocks, hK⟩ := hC
  obtain ⟨hP, hD, hS, hA⟩ := hZ
  refine W.widen hc hs ?_
  exact W.lret hx hb hr (fun t ht hW => ⟨⟨v, ws, rfl, hp, by rw [ht]; exact hP, hD⟩, hS.F ht⟩) hS.2.2 hdg hlocks
theorem zz_vret {Post : va_W → Prop} {mc ms : Nat} (hC : zz_C p s m args meth c g own cc nL none) (hZ : zz_Z g A s.heap ws H locs) (hp : Post ws) (hc : cells ≤ mc) (hs : slots ≤ ms) (hdg : decode cc pc = .ok (.return_, 1)) :
    W p l e R s m args below meth c H locs cells slots (zz_QV below g args s A mc ms Post) (F0 m pc ls []) := by
  obtain ⟨hx, hb, hml, hown, hts, hr, hlocks, hK⟩ := hC
  obtain ⟨hP, hD, hS, hA⟩ := hZ
  refine W.widen hc hs ?_
  exact W.vret hx hb hr (fun t ht hW => ⟨⟨ws, rfl, hp, by rw [ht]; exact hP, hD⟩, hS.F ht⟩) hS.2.2 hdg hlocks
end zzRows
section zzCalls
variable {p : Program} {l : Launch} {e : Env} {R : Room} {s : State} {m : MethodId} {args : Array Value} {below : List Frame} {meth : Method} {c : Code} {H : Heap} {locs : List Loc} {cells slots : Nat} {Q : State → Prop}
variable {cc cc' : ByteArray} {pc : Nat} {ls : Array Slot} {rest st0 : List Value} {g : zz_G} {A : Nat → Prop} {ws wc wr : va_W} {own : String} {nL nL' np index : Nat} {ret ret' : Option FieldType} {y : MethodName} {rm : Room} {av : Array Value} {lv : List (Nat × Value)}
theorem zz_goi {mc ms : Nat} {Post : Int32 → va_W → Prop} (hZ : zz_Z g A s.heap ws H locs) (isC isR : List Nat) (hCs : isC.map (fun i => ws[i]?) = wc.map some) (hRs : isR.map (fun i => ws[i]?) = wr.map some) (hn : va_nd isR = true) (hdis : ∀ i ∈ isR, i ∉ isC)
    (hrun : va_Run p l e R s m args below meth c H locs cells slots mc ms (F0 m pc ls st0) rest (va_Qi Post (zz_B g (va_A wc H.size)) (va_A wc H.size) av) (va_A wc H.size))
    (kk : ∀ (r : Int32) (u : va_W) (H1 : Heap) (locs1 : List Loc), Post r u → zz_Z g A s.heap (wr ++ u) H1 locs1 → W p l e R s m args below meth c H1 locs1 (cells + mc) (slots + ms) Q (F0 m (pc + 3) ls (.int r :: rest))) : W p l e R s m args below meth c H locs cells slots Q (F0 m pc ls st0) := by
  obtain ⟨hP, hD, hS, hA⟩ := hZ
  have hF := va_free hD hS hA isC hCs
  refine va_calli hrun hS (fun q _ h => hF q h) hF (fun r u t H1 locs1 ht hvm hw hB hz1 hk1 hS1 => ?_)
  obtain ⟨hP1, hD1⟩ := hB
  rw [ht] at hP1
  obtain ⟨hP2, hD2⟩ := va_join (wr := wr) (w1 := u) hP hD isC isR hCs hRs hn hdis hk1 hF hP1 hD1
  exact kk r u H1 locs1 hw ⟨hP2, hD2, hS1, hA⟩
theorem zz_gol {mc ms : Nat} {Post : Int64 → va_W → Prop} (hZ : zz_Z g A s.heap ws H locs) (isC isR : List Nat) (hCs : isC.map (fun i => ws[i]?) = wc.map some) (hRs : isR.map (fun i => ws[i]?) = wr.map some) (hn : va_nd isR = true) (hdis : ∀ i ∈ isR, i ∉ isC)
    (hrun : va_Run p l e R s m args below meth c H locs cells slots mc ms (F0 m pc ls st0) rest (va_Ql Post (zz_B g (va_A wc H.size)) (va_A wc H.size) av) (va_A wc H.size))
    (kk : ∀ (r : Int64) (u : va_W) (H1 : Heap) (locs1 : List Loc), Post r u → zz_Z g A s.heap (wr ++ u) H1 locs1 → W p l e R s m args below meth c H1 locs1 (cells + mc) (slots + ms) Q (F0 m (pc + 3) ls (.long r :: rest))) : W p l e R s m args below meth c H locs cells slots Q (F0 m pc ls st0) := by
  obtain ⟨hP, hD, hS, hA⟩ := hZ
  have hF := va_free hD hS hA isC hCs
  refine va_calll hrun hS (fun q _ h => hF q h) hF (fun r u t H1 locs1 ht hvm hw hB hz1 hk1 hS1 => ?_)
  obtain ⟨hP1, hD1⟩ := hB
  rw [ht] at hP1
  obtain ⟨hP2, hD2⟩ := va_join (wr := wr) (w1 := u) hP hD isC isR hCs hRs hn hdis hk1 hF hP1 hD1
  exact kk r u H1 locs1 hw ⟨hP2, hD2, hS1, hA⟩
theorem zz_gov {mc ms : Nat} {Post : va_W → Prop} (hZ : zz_Z g A s.heap ws H locs) (isC isR : List Nat) (hCs : isC.map (fun i => ws[i]?) = wc.map some) (hRs : isR.map (fun i => ws[i]?) = wr.map some) (hn : va_nd isR = true) (hdis : ∀ i ∈ isR, i ∉ isC)
    (hrun : va_Run p l e R s m args below meth c H locs cells slots mc ms (F0 m pc ls st0) rest (va_Qv Post (zz_B g (va_A wc H.size)) (va_A wc H.size) av) (va_A wc H.size))
    (kk : ∀ (u : va_W) (H1 : Heap) (locs1 : List Loc), Post u → zz_Z g A s.heap (wr ++ u) H1 locs1 → W p l e R s m args below meth c H1 locs1 (cells + mc) (slots + ms) Q (F0 m (pc + 3) ls rest)) : W p l e R s m args below meth c H locs cells slots Q (F0 m pc ls st0) := by
  obtain ⟨hP, hD, hS, hA⟩ := hZ
  have hF := va_free hD hS hA isC hCs
  refine va_callv hrun hS (fun q _ h => hF q h) hF (fun u t H1 locs1 ht hvm hw hB hz1 hk1 hS1 => ?_)
  obtain ⟨hP1, hD1⟩ := hB
  rw [ht] at hP1
  obtain ⟨hP2, hD2⟩ := va_join (wr := wr) (w1 := u) hP hD isC isR hCs hRs hn hdis hk1 hF hP1 hD1
  exact kk u H1 locs1 hw ⟨hP2, hD2, hS1, hA⟩
/-- what the tables say of a call: its link, its method -/
def zz_cB (own : String) (index : Nat) (y : MethodName) (cc : ByteArray) (nL : Nat) (ret : Option FieldType) (np : Nat) : Prop :=
  Cond.methodLink own index y ∈ zz_w ∧ Cond.code y cc nL ret ∈ zz_w ∧ Cond.initialized y.cls ∈ zz_w ∧ (y.cls ≠ "java/lang/invoke/MethodHandle" ∧ y.cls ≠ "java/lang/invoke/VarHandle" ∧ (parseMethodDescriptor y.desc).map (fun d => d.parameters.length) = some np)
def zz_cV (own : String) (index : Nat) (y : MethodName) (cc : ByteArray) (nL : Nat) (ret : Option FieldType) (np : Nat) : Prop :=
  zz_cB own index y cc nL ret np ∧ Cond.instanceMethod y ∈ zz_w ∧ Cond.selects y.cls y y ∈ zz_w
def zz_cS (own : String) (index : Nat) (y : MethodName) (cc : ByteArray) (nL : Nat) (ret : Option FieldType) (np : Nat) : Prop :=
  zz_cB own index y cc nL ret np ∧ Cond.static y ∈ zz_w
def zz_cI (own : String) (index : Nat) (y : MethodName) (cc : ByteArray) (nL : Nat) (np : Nat) : Prop :=
  zz_cB own index y cc nL none np ∧ y.name = "<init>" ∧ Cond.instanceMethod y ∈ zz_w
def zz_cN (own : String) (index : Nat) (y : MethodName) (host : String) (cc : ByteArray) (nL : Nat) (np : Nat) : Prop :=
  (own, index, y, host) ∈ zz_nm ∧ Cond.code y cc nL none ∈ zz_w ∧ Cond.initialized y.cls ∈ zz_w ∧ (y.cls ≠ "java/lang/invoke/MethodHandle" ∧ y.cls ≠ "java/lang/invoke/VarHandle" ∧ (parseMethodDescriptor y.desc).map (fun d => d.parameters.length) = some np) ∧ y.name = "<init>" ∧ Cond.instanceMethod y ∈ zz_w
abbrev zz_rm (R rm : Room) (nL cells slots : Nat) : Prop := (rm.frames + 1 ≤ R.frames ∧ 8 + (nL + 11) + rm.locals ≤ R.locals) ∧ cells + rm.cells ≤ R.cells ∧ slots + rm.slots ≤ R.slots
theorem zz_cbB (hts : ∀ w ∈ zz_w, w.before args s = true) (cw : zz_cB own index y cc nL ret np) (hR : rm.frames + 1 ≤ R.frames ∧ 8 + (nL + 11) + rm.locals ≤ R.locals) : CallB R s args own index y cc nL ret (Cond.code y cc nL ret :: zz_w) rm rm.cells rm.slots np :=
  callB_of np hts (zz_good cw.2.1) rfl rfl rfl (hts _ cw.2.2.1) (hts _ cw.1) cw.2.2.2 hR
theorem zz_pre {As : List Value} (hC : zz_C p s m args meth c g own cc nL ret) (hZ : zz_Z g A s.heap ws H locs) (isC : List Nat) (hCs : isC.map (fun i => ws[i]?) = wc.map some) (hn : va_nd isC = true) : PreS s H (zz_Pre g As wc H.size) As := by
  have hZc := hZ.sub isC hn hCs
  exact ⟨zz_blind, fun U hU hW => ⟨rfl, by rw [hU], by rw [hU]; exact hZc.1, hC.2.2.2.2.2.2.2.moved hW, hZc.2.1.weaken (fun _ _ _ _ => trivial)⟩⟩
theorem zz_preV {As : List Value} {b ci q0 : Nat} {fs : List Value} {T : u_T} {N : Nat} (hC : zz_C p s m args meth c g own cc nL ret) (hZ : zz_Z g A s.heap ws H locs) (isC : List Nat) (hCs : isC.map (fun i => ws[i]?) = wc.map some) (hn : va_nd isC = true) (hc : classes[ci]? = some (y.cls, T, N)) (he : wc[q0]? = some (b, .inr (ci, fs))) :
    PreV s H y.cls b (zz_Pre g (.ref b :: As) wc H.size) As := by
  have hZc := hZ.sub isC hn hCs
  exact ⟨zz_blind, va_recv hC.2.2.2.2.2.2.2.1 hZc.1 hc he, fun U hU hW => ⟨rfl, by rw [hU], by rw [hU]; exact hZc.1, hC.2.2.2.2.2.2.2.moved hW, hZc.2.1.weaken (fun _ _ _ _ => trivial)⟩⟩
/-- invokevirtual: an int, a long, nothing -/
theorem zz_iV {As : List Value} {b ci q0 : Nat} {fs : List Value} {T : u_T} {N : Nat} {Post : Int32 → va_W → Prop} (hC : zz_C p s m args meth c g own cc nL ret) (hZ : zz_Z g A s.heap ws H locs) (hl : lv_has ls nL lv) (cw : zz_cV own index y cc' nL' ret' np) (hM : zz_I g y (.code y cc' nL' ret') rm (.ref b :: As) wc Post)
    (isC isR : List Nat) (hCs : isC.map (fun i => ws[i]?) = wc.map some) (hRs : isR.map (fun i => ws[i]?) = wr.map some) (hk : va_nd isC = true ∧ va_nd isR = true ∧ ∀ i ∈ isR, i ∉ isC) (hc : classes[ci]? = some (y.cls, T, N)) (he : wc[q0]? = some (b, .inr (ci, fs))) (hn : As.length = np) (hst : st0 = As.reverse ++ .ref b :: rest) (hW : (rest.map fun v => v.category).sum ≤ 8) (hR : zz_rm R rm nL' cells slots) (hdg : decode cc pc = .ok (.invokevirtual index, 3))
    (kk : ∀ (r : Int32) (u : va_W) (H1 : Heap) (locs1 : List Loc), Post r u → zz_Z g A s.heap (wr ++ u) H1 locs1 → W p l e R s m args below meth c H1 locs1 (cells + rm.cells) (slots + rm.slots) Q (F0 m (pc + 3) ls (.int r :: rest))) : W p l e R s m args below meth c H locs cells slots Q (F0 m pc ls st0) := by
  refine zz_goi hZ isC isR hCs hRs hk.2.1 hk.2.2 (va_runV (As := As) (rest := rest) (Ts := zz_w) ⟨hC.1, hC.2.1, hC.2.2.1, hC.2.2.2.1, hC.2.2.2.2.1⟩ (hM l H.size) ⟨zz_cbB hC.2.2.2.2.1 cw.1 hR.1, hC.2.2.2.2.1 _ cw.2.1, hC.2.2.2.2.1 _ cw.2.2⟩ (zz_preV hC hZ isC hCs hk.1 hc he) rfl hn hl.1 hst (lv_room hW) hdg hR.2) kk
theorem zz_lV {As : List Value} {b ci q0 : Nat} {fs : List Value} {T : u_T} {N : Nat} {Post : Int64 → va_W → Prop} (hC : zz_C p s m args meth c g own cc nL ret) (hZ : zz_Z g A s.heap ws H locs) (hl : lv_has ls nL lv) (cw : zz_cV own index y cc' nL' ret' np) (hM : zz_L g y (.code y cc' nL' ret') rm (.ref b :: As) wc Post)
    (isC isR : List Nat) (hCs : isC.map (fun i => ws[i]?) = wc.map some) (hRs : isR.map (fun i => ws[i]?) = wr.map some) (hk : va_nd isC = true ∧ va_nd isR = true ∧ ∀ i ∈ isR, i ∉ isC) (hc : classes[ci]? = some (y.cls, T, N)) (he : wc[q0]? = some (b, .inr (ci, fs))) (hn : As.length = np) (hst : st0 = As.reverse ++ .ref b :: rest) (hW : (rest.map fun v => v.category).sum ≤ 8) (hR : zz_rm R rm nL' cells slots) (hdg : decode cc pc = .ok (.invokevirtual index, 3))
    (kk : ∀ (r : Int64) (u : va_W) (H1 : Heap) (locs1 : List Loc), Post r u → zz_Z g A s.heap (wr ++ u) H1 locs1 → W p l e R s m args below meth c H1 locs1 (cells + rm.cells) (slots + rm.slots) Q (F0 m (pc + 3) ls (.long r :: rest))) : W p l e R s m args below meth c H locs cells slots Q (F0 m pc ls st0) := by
  refine zz_gol hZ isC isR hCs hRs hk.2.1 hk.2.2 (va_runV (As := As) (rest := rest) (Ts := zz_w) ⟨hC.1, hC.2.1, hC.2.2.1, hC.2.2.2.1, hC.2.2.2.2.1⟩ (hM l H.size) ⟨zz_cbB hC.2.2.2.2.1 cw.1 hR.1, hC.2.2.2.2.1 _ cw.2.1, hC.2.2.2.2.1 _ cw.2.2⟩ (zz_preV hC hZ isC hCs hk.1 hc he) rfl hn hl.1 hst (lv_room hW) hdg hR.2) kk
theorem zz_vV {As : List Value} {b ci q0 : Nat} {fs : List Value} {T : u_T} {N : Nat} {Post : va_W → Prop} (hC : zz_C p s m args meth c g own cc nL ret) (hZ : zz_Z g A s.heap ws H locs) (hl : lv_has ls nL lv) (cw : zz_cV own index y cc' nL' ret' np) (hM : zz_V g y (.code y cc' nL' ret') rm (.ref b :: As) wc Post)
    (isC isR : List Nat) (hCs : isC.map (fun i => ws[i]?) = wc.map some) (hRs : isR.map (fun i => ws[i]?) = wr.map some) (hk : va_nd isC = true ∧ va_nd isR = true ∧ ∀ i ∈ isR, i ∉ isC) (hc : classes[ci]? = some (y.cls, T, N)) (he : wc[q0]? = some (b, .inr (ci, fs))) (hn : As.length = np) (hst : st0 = As.reverse ++ .ref b :: rest) (hW : (rest.map fun v => v.category).sum ≤ 8) (hR : zz_rm R rm nL' cells slots) (hdg : decode cc pc = .ok (.invokevirtual index, 3))
    (kk : ∀ (u : va_W) (H1 : Heap) (locs1 : List Loc), Post u → zz_Z g A s.heap (wr ++ u) H1 locs1 → W p l e R s m args below meth c H1 locs1 (cells + rm.cells) (slots + rm.slots) Q (F0 m (pc + 3) ls rest)) : W p l e R s m args below meth c H locs cells slots Q (F0 m pc ls st0) := by
  refine zz_gov hZ isC isR hCs hRs hk.2.1 hk.2.2 (va_runV (As := As) (rest := rest) (Ts := zz_w) ⟨hC.1, hC.2.1, hC.2.2.1, hC.2.2.2.1, hC.2.2.2.2.1⟩ (hM l H.size) ⟨zz_cbB hC.2.2.2.2.1 cw.1 hR.1, hC.2.2.2.2.1 _ cw.2.1, hC.2.2.2.2.1 _ cw.2.2⟩ (zz_preV hC hZ isC hCs hk.1 hc he) rfl hn hl.1 hst (lv_room hW) hdg hR.2) kk
/-- invokestatic -/
theorem zz_iS {As : List Value} {Post : Int32 → va_W → Prop} (hC : zz_C p s m args meth c g own cc nL ret) (hZ : zz_Z g A s.heap ws H locs) (hl : lv_has ls nL lv) (cw : zz_cS own index y cc' nL' ret' np) (hM : zz_I g y (.code y cc' nL' ret') rm As wc Post)
    (isC isR : List Nat) (hCs : isC.map (fun i => ws[i]?) = wc.map some) (hRs : isR.map (fun i => ws[i]?) = wr.map some) (hk : va_nd isC = true ∧ va_nd isR = true ∧ ∀ i ∈ isR, i ∉ isC) (hn : As.length = np) (hst : st0 = As.reverse ++ rest) (hW : (rest.map fun v => v.category).sum ≤ 8) (hR : zz_rm R rm nL' cells slots) (hdg : decode cc pc = .ok (.invokestatic index, 3))
    (kk : ∀ (r : Int32) (u : va_W) (H1 : Heap) (locs1 : List Loc), Post r u → zz_Z g A s.heap (wr ++ u) H1 locs1 → W p l e R s m args below meth c H1 locs1 (cells + rm.cells) (slots + rm.slots) Q (F0 m (pc + 3) ls (.int r :: rest))) : W p l e R s m args below meth c H locs cells slots Q (F0 m pc ls st0) := by
  refine zz_goi hZ isC isR hCs hRs hk.2.1 hk.2.2 (va_runS (As := As) (rest := rest) (Ts := zz_w) ⟨hC.1, hC.2.1, hC.2.2.1, hC.2.2.2.1, hC.2.2.2.2.1⟩ (hM l H.size) ⟨zz_cbB hC.2.2.2.2.1 cw.1 hR.1, hC.2.2.2.2.1 _ cw.2⟩ (zz_pre hC hZ isC hCs hk.1) rfl hn hl.1 hst (lv_room hW) hdg hR.2) kk
theorem zz_lS {As : List Value} {Post : Int64 → va_W → Prop} (hC : zz_C p s m args meth c g own cc nL ret) (hZ : zz_Z g A s.heap ws H locs) (hl : lv_has ls nL lv) (cw : zz_cS own index y cc' nL' ret' np) (hM : zz_L g y (.code y cc' nL' ret') rm As wc Post)
    (isC isR : List Nat) (hCs : isC.map (fun i => ws[i]?) = wc.map some) (hRs : isR.map (fun i => ws[i]?) = wr.map some) (hk : va_nd isC = true ∧ va_nd isR = true ∧ ∀ i ∈ isR, i ∉ isC) (hn : As.length = np) (hst : st0 = As.reverse ++ rest) (hW : (rest.map fun v => v.category).sum ≤ 8) (hR : zz_rm R rm nL' cells slots) (hdg : decode cc pc = .ok (.invokestatic index, 3))
    (kk : ∀ (r : Int64) (u : va_W) (H1 : Heap) (locs1 : List Loc), Post r u → zz_Z g A s.heap (wr ++ u) H1 locs1 → W p l e R s m args below meth c H1 locs1 (cells + rm.cells) (slots + rm.slots) Q (F0 m (pc + 3) ls (.long r :: rest))) : W p l e R s m args below meth c H locs cells slots Q (F0 m pc ls st0) := by
  refine zz_gol hZ isC isR hCs hRs hk.2.1 hk.2.2 (va_runS (As := As) (rest := rest) (Ts := zz_w) ⟨hC.1, hC.2.1, hC.2.2.1, hC.2.2.2.1, hC.2.2.2.2.1⟩ (hM l H.size) ⟨zz_cbB hC.2.2.2.2.1 cw.1 hR.1, hC.2.2.2.2.1 _ cw.2⟩ (zz_pre hC hZ isC hCs hk.1) rfl hn hl.1 hst (lv_room hW) hdg hR.2) kk
/-- constructors: by a plain link; by a nest mate's -/
theorem zz_vI {As : List Value} {b : Nat} {Post : va_W → Prop} (hC : zz_C p s m args meth c g own cc nL ret) (hZ : zz_Z g A s.heap ws H locs) (hl : lv_has ls nL lv) (cw : zz_cI own index y cc' nL' np) (hM : zz_V g y (.code y cc' nL' none) rm (.ref b :: As) wc Post)
    (isC isR : List Nat) (hCs : isC.map (fun i => ws[i]?) = wc.map some) (hRs : isR.map (fun i => ws[i]?) = wr.map some) (hk : va_nd isC = true ∧ va_nd isR = true ∧ ∀ i ∈ isR, i ∉ isC) (hn : As.length = np) (hst : st0 = As.reverse ++ .ref b :: rest) (hW : (rest.map fun v => v.category).sum ≤ 8) (hR : zz_rm R rm nL' cells slots) (hdg : decode cc pc = .ok (.invokespecial index, 3))
    (kk : ∀ (u : va_W) (H1 : Heap) (locs1 : List Loc), Post u → zz_Z g A s.heap (wr ++ u) H1 locs1 → W p l e R s m args below meth c H1 locs1 (cells + rm.cells) (slots + rm.slots) Q (F0 m (pc + 3) ls rest)) : W p l e R s m args below meth c H locs cells slots Q (F0 m pc ls st0) := by
  refine zz_gov hZ isC isR hCs hRs hk.2.1 hk.2.2 (va_runI (As := As) (rest := rest) (Ts := zz_w) ⟨hC.1, hC.2.1, hC.2.2.1, hC.2.2.2.1, hC.2.2.2.2.1⟩ (hM l H.size) ⟨zz_cbB hC.2.2.2.2.1 cw.1 hR.1, cw.2.1, hC.2.2.2.2.1 _ cw.2.2⟩ (zz_pre hC hZ isC hCs hk.1) rfl hn hl.1 hst (lv_room hW) hdg hR.2) kk
theorem zz_vN {As : List Value} {b : Nat} {host : String} {Post : va_W → Prop} (hC : zz_C p s m args meth c g own cc nL ret) (hZ : zz_Z g A s.heap ws H locs) (hl : lv_has ls nL lv) (cw : zz_cN own index y host cc' nL' np) (hM : zz_V g y (.code y cc' nL' none) rm (.ref b :: As) wc Post)
    (isC isR : List Nat) (hCs : isC.map (fun i => ws[i]?) = wc.map some) (hRs : isR.map (fun i => ws[i]?) = wr.map some) (hk : va_nd isC = true ∧ va_nd isR = true ∧ ∀ i ∈ isR, i ∉ isC) (hn : As.length = np) (hst : st0 = As.reverse ++ .ref b :: rest) (hW : (rest.map fun v => v.category).sum ≤ 8) (hR : zz_rm R rm nL' cells slots) (hdg : decode cc pc = .ok (.invokespecial index, 3))
    (kk : ∀ (u : va_W) (H1 : Heap) (locs1 : List Loc), Post u → zz_Z g A s.heap (wr ++ u) H1 locs1 → W p l e R s m args below meth c H1 locs1 (cells + rm.cells) (slots + rm.slots) Q (F0 m (pc + 3) ls rest)) : W p l e R s m args below meth c H locs cells slots Q (F0 m pc ls st0) := by
  obtain ⟨c1, c2, c3, c4, c5, c6⟩ := cw
  refine zz_gov hZ isC isR hCs hRs hk.2.1 hk.2.2 (va_runIN (As := As) (rest := rest) (Ts := zz_w) (host := host) ⟨hC.1, hC.2.1, hC.2.2.1, hC.2.2.2.1, hC.2.2.2.2.1⟩ (hM l H.size) ⟨va_cnB np hC.2.2.2.2.1 (zz_good c2) rfl rfl rfl (hC.2.2.2.2.2.2.2.2.1 _ c1) (hC.2.2.2.2.1 _ c3) c4 hR.1, c5, hC.2.2.2.2.1 _ c6⟩ (zz_pre hC hZ isC hCs hk.1) rfl hn hl.1 hst (lv_room hW) hdg hR.2) kk
end zzCalls
section zzHeap
variable {p : Program} {l : Launch} {e : Env} {R : Room} {s : State} {m : MethodId} {args : Array Value} {below : List Frame} {meth : Method} {c : Code} {H : Heap} {locs : List Loc} {cells slots : Nat} {Q : State → Prop}
variable {cc : ByteArray} {pc : Nat} {ls : Array Slot} {rest : List Value} {g : zz_G} {A : Nat → Prop} {a : Nat} {ws : va_W} {own : String} {nL index ci k : Nat} {ret : Option FieldType}
/-- a field, as the tables tell it: of the class ci its k-th -/
def zz_f (own : String) (index ci k : Nat) : Prop := ∃ (C : String) (T : u_T) (N : Nat), classes[ci]? = some (C, T, N) ∧ (∀ w ∈ u_ws C T N, w ∈ zz_w) ∧ k < N ∧ Cond.fieldLink own index (T k).1 (T k).2.1 (T k).2.2.1 ∈ zz_w
def zz_fw (own : String) (index ci k : Nat) (fin : Bool) (ty : FieldType) : Prop := ∃ (C : String) (T : u_T) (N : Nat) (ty0 : Nat → FieldType), classes[ci]? = some (C, T, N) ∧ (∀ w ∈ u_ws C T N, w ∈ zz_w) ∧ k < N ∧ Cond.fieldLink own index (T k).1 (T k).2.1 (T k).2.2.1 ∈ zz_w ∧
  (∀ k, k < N → parseFieldDescriptor (T k).2.2.1 = some (ty0 k)) ∧ (∀ a, a < N → ∀ b, b < N → a ≠ b → (T a).2.1 ≠ (T b).2.1) ∧ (T k).2.2.2 = fin ∧ parseFieldDescriptor (T k).2.2.1 = some ty ∧ (fin = true → (T k).1 = own)
theorem zz_get (hC : zz_C p s m args meth c g own cc nL ret) (hZ : zz_Z g A s.heap ws H locs) (q0 : Nat) {fs : List Value} (he : ws[q0]? = some (a, .inr (ci, fs))) (hf : zz_f own index ci k) {v : Value} (hv : fs[k]? = some v) (hdg : decode cc pc = .ok (.getfield index, 3))
    (kk : W p l e R s m args below meth c H locs cells slots Q (F0 m (pc + 3) ls (v :: rest))) : W p l e R s m args below meth c H locs cells slots Q (F0 m pc ls (.ref a :: rest)) := by
  obtain ⟨C, T, N, f1, f2, f3, f4⟩ := hf
  exact va_get hC.1 hC.2.1 hC.2.2.2.2.1 f2 hC.2.2.2.1 hC.2.2.2.2.2.2.2.1 hZ.1 q0 he f1 k f3 (hC.2.2.2.2.1 _ f4) (fun _ h => h) hv hdg kk
theorem zz_put {x : Int32} (hC : zz_C p s m args meth c g own cc nL ret) (hZ : zz_Z g A s.heap ws H locs) (q0 : Nat) {fs : List Value} (he : ws[q0]? = some (a, .inr (ci, fs))) (hf : zz_fw own index ci k false .int) (hl : k < fs.length) (hdg : decode cc pc = .ok (.putfield index, 3))
    (kk : ∀ (H1 : Heap) (locs1 : List Loc), zz_Z g A s.heap (ws.set q0 (a, .inr (ci, fs.set k (.int x)))) H1 locs1 → W p l e R s m args below meth c H1 locs1 cells slots Q (F0 m (pc + 3) ls rest)) : W p l e R s m args below meth c H locs cells slots Q (F0 m pc ls (.int x :: .ref a :: rest)) := by
  obtain ⟨C, T, N, ty0, f1, f2, f3, f4, f5, f6, f7, f8, -⟩ := hf
  obtain ⟨hP, hD, hS, hA⟩ := hZ
  exact va_put (v := .int x) hC.1 hC.2.1 hC.2.2.2.2.1 f2 ty0 f5 f6 hC.2.2.2.1 hC.2.2.2.2.2.2.2.1 hP hD hS q0 he f1 k f3 (hC.2.2.2.2.1 _ f4) (fun _ h => h) f7 f8 rfl rfl hl hdg (fun H1 locs1 a1 a2 a3 => kk H1 locs1 ⟨a1, a2, a3, hA⟩)
theorem zz_putF {v : Value} {ty : FieldType} (hC : zz_C p s m args meth c g own cc nL ret) (hin : meth.name = "<init>") (hZ : zz_Z g A s.heap ws H locs) (q0 : Nat) {fs : List Value} (he : ws[q0]? = some (a, .inr (ci, fs))) (hf : zz_fw own index ci k true ty) (hn : narrow ty v = v) (hfit : fits ty v = true) (hl : k < fs.length) (hdg : decode cc pc = .ok (.putfield index, 3))
    (kk : ∀ (H1 : Heap) (locs1 : List Loc), zz_Z g A s.heap (ws.set q0 (a, .inr (ci, fs.set k v))) H1 locs1 → W p l e R s m args below meth c H1 locs1 cells slots Q (F0 m (pc + 3) ls rest)) : W p l e R s m args below meth c H locs cells slots Q (F0 m pc ls (v :: .ref a :: rest)) := by
  obtain ⟨C, T, N, ty0, f1, f2, f3, f4, f5, f6, f7, f8, f9⟩ := hf
  obtain ⟨hP, hD, hS, hA⟩ := hZ
  exact va_putF (v := v) hC.1 hC.2.1 hC.2.2.2.2.1 f2 ty0 f5 f6 hC.2.2.2.1 hC.2.2.2.2.2.2.2.1 hP hD hS q0 he f1 k f3 (hC.2.2.2.2.1 _ f4) (fun _ h => h) f7 hin (f9 rfl) f8 hn hfit hl hdg (fun H1 locs1 a1 a2 a3 => kk H1 locs1 ⟨a1, a2, a3, hA⟩)
theorem zz_iald (hC : zz_C p s m args meth c g own cc nL ret) (hZ : zz_Z g A s.heap ws H locs) (q0 : Nat) {n : Nat} {f : Nat → Int32} (ha : ws[q0]? = some (a, .inl (g.2.1, n, .inl f))) {i : Int32} (hin : vp_in i n) (hdg : decode cc pc = .ok (.iaload, 1))
    (kk : W p l e R s m args below meth c H locs cells slots Q (F0 m (pc + 1) ls (.int (f i.toNatClampNeg) :: rest))) : W p l e R s m args below meth c H locs cells slots Q (F0 m pc ls (.int i :: .ref a :: rest)) :=
  va_iald hC.1 hC.2.1 hC.2.2.2.2.2.2.2.1 hZ.1 q0 0 ha rfl hin hdg kk
theorem zz_lald (hC : zz_C p s m args meth c g own cc nL ret) (hZ : zz_Z g A s.heap ws H locs) (q0 : Nat) {n : Nat} {f : Nat → Int64} (ha : ws[q0]? = some (a, .inl (g.2.2.1, n, .inr (.inl f)))) {i : Int32} (hin : vp_in i n) (hdg : decode cc pc = .ok (.laload, 1))
    (kk : W p l e R s m args below meth c H locs cells slots Q (F0 m (pc + 1) ls (.long (f i.toNatClampNeg) :: rest))) : W p l e R s m args below meth c H locs cells slots Q (F0 m pc ls (.int i :: .ref a :: rest)) :=
  va_lald hC.1 hC.2.1 hC.2.2.2.2.2.2.2.1 hZ.1 q0 1 ha rfl hin hdg kk
theorem zz_zald (hC : zz_C p s m args meth c g own cc nL ret) (hZ : zz_Z g A s.heap ws H locs) (q0 : Nat) {n : Nat} {f : Nat → Int32} (ha : ws[q0]? = some (a, .inl (g.2.2.2.1, n, .inl f))) {i : Int32} (hin : vp_in i n) (hdg : decode cc pc = .ok (.baload, 1))
    (kk : W p l e R s m args below meth c H locs cells slots Q (F0 m (pc + 1) ls (.int (f i.toNatClampNeg) :: rest))) : W p l e R s m args below meth c H locs cells slots Q (F0 m pc ls (.int i :: .ref a :: rest)) :=
  va_zald hC.1 hC.2.1 hC.2.2.2.2.2.2.2.1 hZ.1 q0 2 ha rfl hin hdg kk
theorem zz_aald (hC : zz_C p s m args meth c g own cc nL ret) (hZ : zz_Z g A s.heap ws H locs) (q0 : Nat) {n : Nat} {f : Nat → Option Nat} (ha : ws[q0]? = some (a, .inl (g.2.2.2.2, n, .inr (.inr (.inr (.inr f)))))) {i : Int32} (hin : vp_in i n) (hdg : decode cc pc = .ok (.aaload, 1))
    (kk : W p l e R s m args below meth c H locs cells slots Q (F0 m (pc + 1) ls (va_rf (f i.toNatClampNeg) :: rest))) : W p l e R s m args below meth c H locs cells slots Q (F0 m pc ls (.int i :: .ref a :: rest)) :=
  va_aldq hC.1 hC.2.1 hC.2.2.2.2.2.2.2.1 hZ.1 q0 3 ha rfl hin hdg kk
theorem zz_iast (hC : zz_C p s m args meth c g own cc nL ret) (hZ : zz_Z g A s.heap ws H locs) (q0 : Nat) {n : Nat} {f : Nat → Int32} (ha : ws[q0]? = some (a, .inl (g.2.1, n, .inl f))) {i x : Int32} (hin : vp_in i n) (hdg : decode cc pc = .ok (.iastore, 1))
    (kk : ∀ (H1 : Heap) (locs1 : List Loc), zz_Z g A s.heap (ws.set q0 (a, .inl (g.2.1, n, .inl (upd f i.toNatClampNeg x)))) H1 locs1 → W p l e R s m args below meth c H1 locs1 cells slots Q (F0 m (pc + 1) ls rest)) : W p l e R s m args below meth c H locs cells slots Q (F0 m pc ls (.int x :: .int i :: .ref a :: rest)) :=
  va_iast hC.1 hC.2.1 hC.2.2.2.2.2.2.2.1 hZ.1 hZ.2.1 hZ.2.2.1 q0 0 ha rfl hin hdg (fun H1 locs1 a1 a2 a3 => kk H1 locs1 ⟨a1, a2, a3, hZ.2.2.2⟩)
theorem zz_zast (hC : zz_C p s m args meth c g own cc nL ret) (hZ : zz_Z g A s.heap ws H locs) (q0 : Nat) {n : Nat} {f : Nat → Int32} (ha : ws[q0]? = some (a, .inl (g.2.2.2.1, n, .inl f))) {i x : Int32} (hin : vp_in i n) (hdg : decode cc pc = .ok (.bastore, 1))
    (kk : ∀ (H1 : Heap) (locs1 : List Loc), zz_Z g A s.heap (ws.set q0 (a, .inl (g.2.2.2.1, n, .inl (upd f i.toNatClampNeg (x &&& 1))))) H1 locs1 → W p l e R s m args below meth c H1 locs1 cells slots Q (F0 m (pc + 1) ls rest)) : W p l e R s m args below meth c H locs cells slots Q (F0 m pc ls (.int x :: .int i :: .ref a :: rest)) :=
  va_zast hC.1 hC.2.1 hC.2.2.2.2.2.2.2.1 hZ.1 hZ.2.1 hZ.2.2.1 q0 2 ha rfl hin hdg (fun H1 locs1 a1 a2 a3 => kk H1 locs1 ⟨a1, a2, a3, hZ.2.2.2⟩)
theorem zz_last (hC : zz_C p s m args meth c g own cc nL ret) (hZ : zz_Z g A s.heap ws H locs) (q0 : Nat) {n : Nat} {f : Nat → Int64} (ha : ws[q0]? = some (a, .inl (g.2.2.1, n, .inr (.inl f)))) {i : Int32} {x : Int64} (hin : vp_in i n) (hdg : decode cc pc = .ok (.lastore, 1))
    (kk : ∀ (H1 : Heap) (locs1 : List Loc), zz_Z g A s.heap (ws.set q0 (a, .inl (g.2.2.1, n, .inr (.inl (vp_updL f i.toNatClampNeg x))))) H1 locs1 → W p l e R s m args below meth c H1 locs1 cells slots Q (F0 m (pc + 1) ls rest)) : W p l e R s m args below meth c H locs cells slots Q (F0 m pc ls (.long x :: .int i :: .ref a :: rest)) :=
  va_last hC.1 hC.2.1 hC.2.2.2.2.2.2.2.1 hZ.1 hZ.2.1 hZ.2.2.1 q0 1 ha rfl hin hdg (fun H1 locs1 a1 a2 a3 => kk H1 locs1 ⟨a1, a2, a3, hZ.2.2.2⟩)
theorem zz_RA {U : State} {c1 c2 : ClassId} {ty : FieldType} (h1 : va_RA U c1 ty) (h2 : va_RA U c2 ty) : c1 = c2 := by
  cases ty with
  | object C =>
    obtain ⟨_, _, _, _, _, h4⟩ := h1
    obtain ⟨_, _, _, _, _, h4'⟩ := h2
    exact Option.some.inj (h4.symm.trans h4')
  | _ => exact Option.some.inj (h1.symm.trans h2)
theorem zz_newi {n : Int32} {N' : Nat} (hC : zz_C p s m args meth c g own cc nL ret) (hZ : zz_Z g A s.heap ws H locs) (hin : Cond.arrayClass .int ∈ zz_w) (hn : ¬ n < 0) (hN : n.toNatClampNeg = N') (hb : N' * 4 ≤ 536870912) (hcells : cells + 1 ≤ R.cells) (hslots : slots + N' ≤ R.slots) (hdg : decode cc pc = .ok (.newarray .int, 2))
    (kk : ∀ (q : Nat) (H1 : Heap), zz_Z g A s.heap (ws ++ [(q, .inl (g.2.1, N', .inl (fun _ => 0)))]) H1 locs → W p l e R s m args below meth c H1 locs (cells + 1) (slots + N') Q (F0 m (pc + 2) ls (.ref q :: rest))) : W p l e R s m args below meth c H locs cells slots Q (F0 m pc ls (.int n :: rest)) := by
  obtain ⟨hP, hD, hS, hA⟩ := hZ
  have hK := hC.2.2.2.2.2.2.2.1
  refine va_newa (atype := .int) (ty := .int) (a0 := (N', .inl (fun _ => 0))) hC.1 hC.2.1 (hC.2.2.2.2.1 _ hin) rfl hK hP hD hS hA (fun cA => rfl) hn hN hb hcells hslots hdg (fun q cA H1 k1 k2 k3 k4 => ?_)
  have e : cA = g.2.1 := zz_RA (k1.2 4 _ rfl).2 (hK.2 0 _ rfl).2
  subst e
  exact kk q H1 ⟨k2, k3, k4, hA⟩
theorem zz_newl {n : Int32} {N' : Nat} (hC : zz_C p s m args meth c g own cc nL ret) (hZ : zz_Z g A s.heap ws H locs) (hin : Cond.arrayClass .long ∈ zz_w) (hn : ¬ n < 0) (hN : n.toNatClampNeg = N') (hb : N' * 8 ≤ 536870912) (hcells : cells + 1 ≤ R.cells) (hslots : slots + N' ≤ R.slots) (hdg : decode cc pc = .ok (.newarray .long, 2))
    (kk : ∀ (q : Nat) (H1 : Heap), zz_Z g A s.heap (ws ++ [(q, .inl (g.2.2.1, N', .inr (.inl (fun _ => 0))))]) H1 locs → W p l e R s m args below meth c H1 locs (cells + 1) (slots + N') Q (F0 m (pc + 2) ls (.ref q :: rest))) : W p l e R s m args below meth c H locs cells slots Q (F0 m pc ls (.int n :: rest)) := by
  obtain ⟨hP, hD, hS, hA⟩ := hZ
  have hK := hC.2.2.2.2.2.2.2.1
  refine va_newa (atype := .long) (ty := .long) (a0 := (N', .inr (.inl (fun _ => 0)))) hC.1 hC.2.1 (hC.2.2.2.2.1 _ hin) rfl hK hP hD hS hA (fun cA => rfl) hn hN hb hcells hslots hdg (fun q cA H1 k1 k2 k3 k4 => ?_)
  have e : cA = g.2.2.1 := zz_RA (k1.2 4 _ rfl).2 (hK.2 1 _ rfl).2
  subst e
  exact kk q H1 ⟨k2, k3, k4, hA⟩
theorem zz_newz {n : Int32} {N' : Nat} (hC : zz_C p s m args meth c g own cc nL ret) (hZ : zz_Z g A s.heap ws H locs) (hin : Cond.arrayClass .boolean ∈ zz_w) (hn : ¬ n < 0) (hN : n.toNatClampNeg = N') (hb : N' * 1 ≤ 536870912) (hcells : cells + 1 ≤ R.cells) (hslots : slots + N' ≤ R.slots) (hdg : decode cc pc = .ok (.newarray .boolean, 2))
    (kk : ∀ (q : Nat) (H1 : Heap), zz_Z g A s.heap (ws ++ [(q, .inl (g.2.2.2.1, N', .inl (fun _ => 0)))]) H1 locs → W p l e R s m args below meth c H1 locs (cells + 1) (slots + N') Q (F0 m (pc + 2) ls (.ref q :: rest))) : W p l e R s m args below meth c H locs cells slots Q (F0 m pc ls (.int n :: rest)) := by
  obtain ⟨hP, hD, hS, hA⟩ := hZ
  have hK := hC.2.2.2.2.2.2.2.1
  refine va_newa (atype := .boolean) (ty := .boolean) (a0 := (N', .inl (fun _ => 0))) hC.1 hC.2.1 (hC.2.2.2.2.1 _ hin) rfl hK hP hD hS hA (fun cA => rfl) hn hN hb hcells hslots hdg (fun q cA H1 k1 k2 k3 k4 => ?_)
  have e : cA = g.2.2.2.1 := zz_RA (k1.2 4 _ rfl).2 (hK.2 2 _ rfl).2
  subst e
  exact kk q H1 ⟨k2, k3, k4, hA⟩
theorem zz_newq {n : Int32} {N' : Nat} (hC : zz_C p s m args meth c g own cc nL ret) (hZ : zz_Z g A s.heap ws H locs) (hin : Cond.classLink own index zz_RM ∈ zz_w) (hn : ¬ n < 0) (hN : n.toNatClampNeg = N') (hb : N' * 4 ≤ 536870912) (hcells : cells + 1 ≤ R.cells) (hslots : slots + N' ≤ R.slots) (hdg : decode cc pc = .ok (.anewarray index, 3))
    (kk : ∀ (q : Nat) (H1 : Heap), zz_Z g A s.heap (ws ++ [(q, .inl (g.2.2.2.2, N', .inr (.inr (.inr (.inr (fun _ => none))))))]) H1 locs → W p l e R s m args below meth c H1 locs (cells + 1) (slots + N') Q (F0 m (pc + 3) ls (.ref q :: rest))) : W p l e R s m args below meth c H locs cells slots Q (F0 m pc ls (.int n :: rest)) := by
  obtain ⟨hP, hD, hS, hA⟩ := hZ
  have hK := hC.2.2.2.2.2.2.2.1
  refine va_newq hC.1 hC.2.1 hC.2.2.2.1 (hC.2.2.2.2.1 _ hin) hC.2.2.2.2.2.2.2.2.2 hK hP hD hS hA hn hN hb hcells hslots hdg (fun q cA H1 k1 k2 k3 k4 => ?_)
  have e : cA = g.2.2.2.2 := zz_RA (k1.2 4 _ rfl).2 (hK.2 3 _ rfl).2
  subst e
  exact kk q H1 ⟨k2, k3, k4, hA⟩
/-- a class that can be made, as the tables tell it -/
def zz_n (own : String) (index ci N : Nat) (fs : List Value) : Prop := ∃ (C : String) (T : u_T) (ty : Nat → FieldType), classes[ci]? = some (C, T, N) ∧ (∀ w ∈ u_ws C T N, w ∈ zz_w) ∧ (∀ k, k < N → parseFieldDescriptor (T k).2.2.1 = some (ty k)) ∧ Cond.classLink own index C ∈ zz_w ∧ Cond.instantiable C N ∈ zz_w ∧ Cond.initialized C ∈ zz_w ∧ ∀ j, j < N → defaultValue (ty j) = vp_V fs j
theorem zz_new {N : Nat} {fs : List Value} (hC : zz_C p s m args meth c g own cc nL ret) (hZ : zz_Z g A s.heap ws H locs) (hf : zz_n own index ci N fs) (hcells : cells + 1 ≤ R.cells) (hslots : slots + N ≤ R.slots) (hdg : decode cc pc = .ok (.new index, 3))
    (kk : ∀ (q : Nat) (H1 : Heap), zz_Z g A s.heap (ws ++ [(q, .inr (ci, fs))]) H1 locs → W p l e R s m args below meth c H1 locs (cells + 1) (slots + N) Q (F0 m (pc + 3) ls (.ref q :: rest))) : W p l e R s m args below meth c H locs cells slots Q (F0 m pc ls rest) := by
  obtain ⟨C, T, ty, f1, f2, f3, f4, f5, f6, f7⟩ := hf
  obtain ⟨hP, hD, hS, hA⟩ := hZ
  exact va_new hC.1 hC.2.1 hC.2.2.2.2.1 f2 ty f3 hC.2.2.2.1 (hC.2.2.2.2.1 _ f4) (hC.2.2.2.2.1 _ f5) (hC.2.2.2.2.1 _ f6) hC.2.2.2.2.2.2.2.1 hP hD hS hA f1 f7 hcells hslots hdg (fun q H1 a1 a2 a3 => kk q H1 ⟨a1, a2, a3, hA⟩)
theorem zz_obj (hC : zz_C p s m args meth c g own cc nL ret) {lv : List (Nat × Value)} (hl : lv_has ls nL lv) (hin : Cond.methodLink own index objectInit ∈ zz_w) (hi2 : Cond.instanceMethod objectInit ∈ zz_w) (hi3 : Cond.code objectInit ⟨#[0xb1]⟩ 1 none ∈ zz_w) (hf : 1 ≤ R.frames) (hlo : (rest.map fun v => v.category).sum + 12 ≤ R.locals) (hdg : decode cc pc = .ok (.invokespecial index, 3))
    (kk : W p l e R s m args below meth c H locs cells slots Q (F0 m (pc + 3) ls rest)) : W p l e R s m args below meth c H locs cells slots Q (F0 m pc ls (.ref a :: rest)) := by
  refine W.objInit hC.1 hC.2.1 hC.2.2.2.1 (hC.2.2.2.2.1 _ hin) (hC.2.2.2.2.1 _ hi2) (hC.2.2.2.2.1 _ hi3) rfl (by rw [hC.2.2.1]; exact hl.1) rfl hdg hf (by simpa [JFrame.monitorRoom] using hlo) kk
/-- lcmp and the branch behind it -/
theorem zz_lcmp_lt {x y : Int64} {off : Int} {tgt : Nat} (hC : zz_C p s m args meth c g own cc nL ret) (h1 : decode cc pc = .ok (.lcmp, 1)) (h2 : decode cc (pc + 1) = .ok (.ifCond .lt off, 3)) (ht : ((pc + 1 : Nat) : Int) + off = (tgt : Int))
    (kt : x < y → W p l e R s m args below meth c H locs cells slots Q (F0 m tgt ls rest)) (kf : ¬ x < y → W p l e R s m args below meth c H locs cells slots Q (F0 m (pc + 4) ls rest)) : W p l e R s m args below meth c H locs cells slots Q (F0 m pc ls (.long y :: .long x :: rest)) :=
  W.lcmp hC.1 hC.2.1 h1 (lv_if_lt hC.1 hC.2.1 h2 ht (fun q => kt ((lg_cmp_lt x y).mp q)) (fun q => kf (fun z => q ((lg_cmp_lt x y).mpr z))))
theorem zz_lcmp_ge {x y : Int64} {off : Int} {tgt : Nat} (hC : zz_C p s m args meth c g own cc nL ret) (h1 : decode cc pc = .ok (.lcmp, 1)) (h2 : decode cc (pc + 1) = .ok (.ifCond .ge off, 3)) (ht : ((pc + 1 : Nat) : Int) + off = (tgt : Int))
    (kt : y ≤ x → W p l e R s m args below meth c H locs cells slots Q (F0 m tgt ls rest)) (kf : ¬ y ≤ x → W p l e R s m args below meth c H locs cells slots Q (F0 m (pc + 4) ls rest)) : W p l e R s m args below meth c H locs cells slots Q (F0 m pc ls (.long y :: .long x :: rest)) :=
  W.lcmp hC.1 hC.2.1 h1 (lv_if_ge hC.1 hC.2.1 h2 ht (fun q => kt ((lg_cmp_ge x y).mp q)) (fun q => kf (fun z => q ((lg_cmp_ge x y).mpr z))))
theorem zz_lcmp_gt {x y : Int64} {off : Int} {tgt : Nat} (hC : zz_C p s m args meth c g own cc nL ret) (h1 : decode cc pc = .ok (.lcmp, 1)) (h2 : decode cc (pc + 1) = .ok (.ifCond .gt off, 3)) (ht : ((pc + 1 : Nat) : Int) + off = (tgt : Int))
    (kt : y < x → W p l e R s m args below meth c H locs cells slots Q (F0 m tgt ls rest)) (kf : ¬ y < x → W p l e R s m args below meth c H locs cells slots Q (F0 m (pc + 4) ls rest)) : W p l e R s m args below meth c H locs cells slots Q (F0 m pc ls (.long y :: .long x :: rest)) :=
  W.lcmp hC.1 hC.2.1 h1 (lv_if_gt hC.1 hC.2.1 h2 ht (fun q => kt ((lg_cmp_gt x y).mp q)) (fun q => kf (fun z => q ((lg_cmp_gt x y).mpr z))))
theorem zz_lcmp_le {x y : Int64} {off : Int} {tgt : Nat} (hC : zz_C p s m args meth c g own cc nL ret) (h1 : decode cc pc = .ok (.lcmp, 1)) (h2 : decode cc (pc + 1) = .ok (.ifCond .le off, 3)) (ht : ((pc + 1 : Nat) : Int) + off = (tgt : Int))
    (kt : x ≤ y → W p l e R s m args below meth c H locs cells slots Q (F0 m tgt ls rest)) (kf : ¬ x ≤ y → W p l e R s m args below meth c H locs cells slots Q (F0 m (pc + 4) ls rest)) : W p l e R s m args below meth c H locs cells slots Q (F0 m pc ls (.long y :: .long x :: rest)) :=
  W.lcmp hC.1 hC.2.1 h1 (lv_if_le hC.1 hC.2.1 h2 ht (fun q => kt ((lg_cmp_le x y).mp q)) (fun q => kf (fun z => q ((lg_cmp_le x y).mpr z))))
theorem zz_lcmp_eq {x y : Int64} {off : Int} {tgt : Nat} (hC : zz_C p s m args meth c g own cc nL ret) (h1 : decode cc pc = .ok (.lcmp, 1)) (h2 : decode cc (pc + 1) = .ok (.ifCond .eq off, 3)) (ht : ((pc + 1 : Nat) : Int) + off = (tgt : Int))
    (kt : x = y → W p l e R s m args below meth c H locs cells slots Q (F0 m tgt ls rest)) (kf : ¬ x = y → W p l e R s m args below meth c H locs cells slots Q (F0 m (pc + 4) ls rest)) : W p l e R s m args below meth c H locs cells slots Q (F0 m pc ls (.long y :: .long x :: rest)) :=
  W.lcmp hC.1 hC.2.1 h1 (lv_if_eq hC.1 hC.2.1 h2 ht (fun q => kt ((lg_cmp_eq x y).mp q)) (fun q => kf (fun z => q ((lg_cmp_eq x y).mpr z))))
theorem zz_lcmp_ne {x y : Int64} {off : Int} {tgt : Nat} (hC : zz_C p s m args meth c g own cc nL ret) (h1 : decode cc pc = .ok (.lcmp, 1)) (h2 : decode cc (pc + 1) = .ok (.ifCond .ne off, 3)) (ht : ((pc + 1 : Nat) : Int) + off = (tgt : Int))
    (kt : ¬ x = y → W p l e R s m args below meth c H locs cells slots Q (F0 m tgt ls rest)) (kf : x = y → W p l e R s m args below meth c H locs cells slots Q (F0 m (pc + 4) ls rest)) : W p l e R s m args below meth c H locs cells slots Q (F0 m pc ls (.long y :: .long x :: rest)) :=
  W.lcmp hC.1 hC.2.1 h1 (lv_if_ne hC.1 hC.2.1 h2 ht (fun q => kt (fun z => q ((lg_cmp_eq x y).mpr z))) (fun q => kf ((lg_cmp_eq x y).mp q)))
end zzHeap
end
section
theorem dX7_fail_0 : decode cX7_fail 0 = .ok (.aload_n 0, 1) := by decide +kernel
theorem dX7_fail_1 : decode cX7_fail 1 = .ok (.iload_n 1, 1) := by decide +kernel
theorem dX7_fail_2 : decode cX7_fail 2 = .ok (.putfield 56, 3) := by decide +kernel
theorem zk_207 : Cond.fieldLink RX7 56 RX7 "latest" "I" ∈ zz_w := zz_in (List.mem_append_right _ (List.mem_append_left _ (List.mem_of_getElem? (i := 207) (by decide +kernel)))) rfl
theorem zi_X7_a : ∀ w ∈ u_ws RX7 TX7 8, w ∈ lw_tbl := by decide +kernel
theorem zi_X7_b : ∀ w ∈ u_ws RX7 TX7 8, goodWord w = true := by decide +kernel
theorem zi_X7 : ∀ w ∈ u_ws RX7 TX7 8, w ∈ zz_w := fun w h => zz_in (zi_X7_a w h) (zi_X7_b w h)
theorem zu_X7_56 : zz_fw RX7 56 6 7 false .int := ⟨RX7, TX7, 8, tyX7, rfl, zi_X7, by decide, zk_207, tyX7_ok, nmX7, rfl, by decide +kernel, fun h => by cases h⟩
theorem dX7_fail_5 : decode cX7_fail 5 = .ok (.iload_n 1, 1) := by decide +kernel
theorem dX7_fail_6 : decode cX7_fail 6 = .ok (.ineg, 1) := by decide +kernel
theorem dX7_fail_7 : decode cX7_fail 7 = .ok (.ireturn, 1) := by decide +kernel
abbrev rm_co_fail : Room := { frames := 0, cells := 0, slots := 0, locals := 0 }
abbrev po_co_fail (g : zz_G) (h0 : Nat) (st : Nat) (mk : Nat) (lk : Nat) (ch : Nat) (ru : Nat) (mr : Nat) (md : Int32) (la : Int32) (k : Int32) : Int32 → va_W → Prop := fun (r : Int32) (u : va_W) => r = -k ∧ u = [(h0, .inr (6, [.ref st, .ref mk, .ref lk, .ref ch, .ref ru, .ref mr, .int md, .int k]))]
set_option maxHeartbeats 4000000 in
set_option maxRecDepth 100000 in
theorem co_fail (g : zz_G) (h0 : Nat) (st : Nat) (mk : Nat) (lk : Nat) (ch : Nat) (ru : Nat) (mr : Nat) (md : Int32) (la : Int32) (k : Int32) : zz_I g yX7_fail (.code yX7_fail cX7_fail 2 (some .int)) rm_co_fail [.ref h0, .int k] [(h0, .inr (6, [.ref st, .ref mk, .ref lk, .ref ch, .ref ru, .ref mr, .int md, .int la]))] (po_co_fail g h0 st mk lk ch ru mr md la k) := by
  refine zz_I.intro (own := RX7) (cc := cX7_fail) (nL := 2) (by decide) rfl (Nat.le_of_ble_eq_true rfl) ?_
  intro p l e s m args below meth c A H locs ls hC hnm hZ hl
  obtain ⟨hx, hb, hml, hown, hts, hr, hlocks, hK⟩ := id hC
  have hl : lv_has ls 2 [(0, .ref h0), (1, .int k)] := hl
  have hZ : zz_Z g A s.heap [(h0, .inr (6, [.ref st, .ref mk, .ref lk, .ref ch, .ref ru, .ref mr, .int md, .int la]))] H locs := hZ
  refine lv_aload_n hx hb dX7_fail_0 rfl (lv_at hl 0 rfl) ?_
  refine lv_iload_n hx hb dX7_fail_1 rfl (lv_at hl 1 rfl) ?_
  refine zz_put hC hZ 0 rfl zu_X7_56 (Nat.le_of_ble_eq_true rfl) dX7_fail_2 (fun H locs hZ => ?_)
  have hZ : zz_Z g A s.heap [(h0, .inr (6, [.ref st, .ref mk, .ref lk, .ref ch, .ref ru, .ref mr, .int md, .int k]))] H locs := hZ
  refine lv_iload_n hx hb dX7_fail_5 rfl (lv_at hl 1 rfl) ?_
  refine lv_ineg hx hb dX7_fail_6 ?_
  exact zz_iret hC hZ (⟨rfl, rfl⟩) (Nat.le_of_ble_eq_true rfl) (Nat.le_of_ble_eq_true rfl) dX7_fail_7
theorem dX7_fine_0 : decode cX7_fine 0 = .ok (.aload_n 0, 1) := by decide +kernel
theorem dX7_fine_1 : decode cX7_fine 1 = .ok (.iconst 0, 1) := by decide +kernel
theorem dX7_fine_2 : decode cX7_fine 2 = .ok (.putfield 56, 3) := by decide +kernel
theorem dX7_fine_5 : decode cX7_fine 5 = .ok (.iload_n 1, 1) := by decide +kernel
theorem dX7_fine_6 : decode cX7_fine 6 = .ok (.ireturn, 1) := by decide +kernel
abbrev rm_co_fine : Room := { frames := 0, cells := 0, slots := 0, locals := 0 }
abbrev po_co_fine (g : zz_G) (h0 : Nat) (st : Nat) (mk : Nat) (lk : Nat) (ch : Nat) (ru : Nat) (mr : Nat) (md : Int32) (la : Int32) (k : Int32) : Int32 → va_W → Prop := fun (r : Int32) (u : va_W) => r = k ∧ u = [(h0, .inr (6, [.ref st, .ref mk, .ref lk, .ref ch, .ref ru, .ref mr, .int md, .int 0]))]
set_option maxHeartbeats 4000000 in
set_option maxRecDepth 100000 in
theorem co_fine (g : zz_G) (h0 : Nat) (st : Nat) (mk : Nat) (lk : Nat) (ch : Nat) (ru : Nat) (mr : Nat) (md : Int32) (la : Int32) (k : Int32) : zz_I g yX7_fine (.code yX7_fine cX7_fine 2 (some .int)) rm_co_fine [.ref h0, .int k] [(h0, .inr (6, [.ref st, .ref mk, .ref lk, .ref ch, .ref ru, .ref mr, .int md, .int la]))] (po_co_fine g h0 st mk lk ch ru mr md la k) := by
  refine zz_I.intro (own := RX7) (cc := cX7_fine) (nL := 2) (by decide) rfl (Nat.le_of_ble_eq_true rfl) ?_
  intro p l e s m args below meth c A H locs ls hC hnm hZ hl
  obtain ⟨hx, hb, hml, hown, hts, hr, hlocks, hK⟩ := id hC
  have hl : lv_has ls 2 [(0, .ref h0), (1, .int k)] := hl
  have hZ : zz_Z g A s.heap [(h0, .inr (6, [.ref st, .ref mk, .ref lk, .ref ch, .ref ru, .ref mr, .int md, .int la]))] H locs := hZ
  refine lv_aload_n hx hb dX7_fine_0 rfl (lv_at hl 0 rfl) ?_
  refine lv_iconst (v := 0) hx hb dX7_fine_1 (by decide) ?_
  refine zz_put hC hZ 0 rfl zu_X7_56 (Nat.le_of_ble_eq_true rfl) dX7_fine_2 (fun H locs hZ => ?_)
  have hZ : zz_Z g A s.heap [(h0, .inr (6, [.ref st, .ref mk, .ref lk, .ref ch, .ref ru, .ref mr, .int md, .int 0]))] H locs := hZ
  refine lv_iload_n hx hb dX7_fine_5 rfl (lv_at hl 1 rfl) ?_
  exact zz_iret hC hZ (⟨rfl, rfl⟩) (Nat.le_of_ble_eq_true rfl) (Nat.le_of_ble_eq_true rfl) dX7_fine_6
theorem dX7_noBits_0 : decode cX7_noBits 0 = .ok (.aload_n 0, 1) := by decide +kernel
theorem dX7_noBits_1 : decode cX7_noBits 1 = .ok (.iload_n 1, 1) := by decide +kernel
theorem dX7_noBits_2 : decode cX7_noBits 2 = .ok (.putfield 56, 3) := by decide +kernel
theorem dX7_noBits_5 : decode cX7_noBits 5 = .ok (.lconst 0, 1) := by decide +kernel
theorem dX7_noBits_6 : decode cX7_noBits 6 = .ok (.lreturn, 1) := by decide +kernel
abbrev rm_co_noBits : Room := { frames := 0, cells := 0, slots := 0, locals := 0 }
abbrev po_co_noBits (g : zz_G) (h0 : Nat) (st : Nat) (mk : Nat) (lk : Nat) (ch : Nat) (ru : Nat) (mr : Nat) (md : Int32) (la : Int32) (k : Int32) : Int64 → va_W → Prop := fun (r : Int64) (u : va_W) => r = 0 ∧ u = [(h0, .inr (6, [.ref st, .ref mk, .ref lk, .ref ch, .ref ru, .ref mr, .int md, .int k]))]
set_option maxHeartbeats 4000000 in
set_option maxRecDepth 100000 in
theorem co_noBits (g : zz_G) (h0 : Nat) (st : Nat) (mk : Nat) (lk : Nat) (ch : Nat) (ru : Nat) (mr : Nat) (md : Int32) (la : Int32) (k : Int32) : zz_L g yX7_noBits (.code yX7_noBits cX7_noBits 2 (some .long)) rm_co_noBits [.ref h0, .int k] [(h0, .inr (6, [.ref st, .ref mk, .ref lk, .ref ch, .ref ru, .ref mr, .int md, .int la]))] (po_co_noBits g h0 st mk lk ch ru mr md la k) := by
  refine zz_L.intro (own := RX7) (cc := cX7_noBits) (nL := 2) (by decide) rfl (Nat.le_of_ble_eq_true rfl) ?_
  intro p l e s m args below meth c A H locs ls hC hnm hZ hl
  obtain ⟨hx, hb, hml, hown, hts, hr, hlocks, hK⟩ := id hC
  have hl : lv_has ls 2 [(0, .ref h0), (1, .int k)] := hl
  have hZ : zz_Z g A s.heap [(h0, .inr (6, [.ref st, .ref mk, .ref lk, .ref ch, .ref ru, .ref mr, .int md, .int la]))] H locs := hZ
  refine lv_aload_n hx hb dX7_noBits_0 rfl (lv_at hl 0 rfl) ?_
  refine lv_iload_n hx hb dX7_noBits_1 rfl (lv_at hl 1 rfl) ?_
  refine zz_put hC hZ 0 rfl zu_X7_56 (Nat.le_of_ble_eq_true rfl) dX7_noBits_2 (fun H locs hZ => ?_)
  have hZ : zz_Z g A s.heap [(h0, .inr (6, [.ref st, .ref mk, .ref lk, .ref ch, .ref ru, .ref mr, .int md, .int k]))] H locs := hZ
  refine lv_lconst (v := 0) hx hb dX7_noBits_5 (by decide) ?_
  exact zz_lret hC hZ (⟨rfl, rfl⟩) (Nat.le_of_ble_eq_true rfl) (Nat.le_of_ble_eq_true rfl) dX7_noBits_6
theorem dX1_isKind_0 : decode cX1_isKind 0 = .ok (.iload_n 0, 1) := by decide +kernel
theorem dX1_isKind_1 : decode cX1_isKind 1 = .ok (.ifCond .lt 13, 3) := by decide +kernel
theorem dX1_isKind_14 : decode cX1_isKind 14 = .ok (.iconst 0, 1) := by decide +kernel
theorem dX1_isKind_15 : decode cX1_isKind 15 = .ok (.ireturn, 1) := by decide +kernel
theorem dX1_isKind_4 : decode cX1_isKind 4 = .ok (.iload_n 0, 1) := by decide +kernel
theorem dX1_isKind_5 : decode cX1_isKind 5 = .ok (.bipush 8, 2) := by decide +kernel
theorem dX1_isKind_7 : decode cX1_isKind 7 = .ok (.if_icmp .gt 7, 3) := by decide +kernel
theorem dX1_isKind_10 : decode cX1_isKind 10 = .ok (.iconst 1, 1) := by decide +kernel
theorem dX1_isKind_11 : decode cX1_isKind 11 = .ok (.goto 4, 3) := by decide +kernel
def fn_co_isKind (k : Int32) : Int32 := (if k < 0 then 0 else (if 8 < k then 0 else 1))
abbrev rm_co_isKind : Room := { frames := 0, cells := 0, slots := 0, locals := 0 }
abbrev po_co_isKind (g : zz_G) (k : Int32) : Int32 → va_W → Prop := fun (r : Int32) (u : va_W) => r = fn_co_isKind k ∧ u = []
set_option maxHeartbeats 4000000 in
set_option maxRecDepth 100000 in
theorem co_isKind (g : zz_G) (k : Int32) : zz_I g yX1_isKind (.code yX1_isKind cX1_isKind 1 (some .boolean)) rm_co_isKind [.int k] [] (po_co_isKind g k) := by
  refine zz_I.intro (own := RX1) (cc := cX1_isKind) (nL := 1) (by decide) rfl (Nat.le_of_ble_eq_true rfl) ?_
  intro p l e s m args below meth c A H locs ls hC hnm hZ hl
  obtain ⟨hx, hb, hml, hown, hts, hr, hlocks, hK⟩ := id hC
  have hl : lv_has ls 1 [(0, .int k)] := hl
  have hZ : zz_Z g A s.heap [] H locs := hZ
  refine lv_iload_n hx hb dX1_isKind_0 rfl (lv_at hl 0 rfl) ?_
  refine lv_if_lt (tgt := 14) hx hb dX1_isKind_1 (by decide) (fun c1 => ?_) (fun c1 => ?_)
  · refine lv_iconst (v := 0) hx hb dX1_isKind_14 (by decide) ?_
    exact zz_zret hC hZ (by decide) (⟨by rw [fn_co_isKind, if_pos c1], rfl⟩) (Nat.le_of_ble_eq_true rfl) (Nat.le_of_ble_eq_true rfl) dX1_isKind_15
  · refine lv_iload_n hx hb dX1_isKind_4 rfl (lv_at hl 0 rfl) ?_
    refine lv_bipush (v := 8) hx hb dX1_isKind_5 (by decide) ?_
    refine lv_icmp_gt (tgt := 14) hx hb dX1_isKind_7 (by decide) (fun c2 => ?_) (fun c2 => ?_)
    · refine lv_iconst (v := 0) hx hb dX1_isKind_14 (by decide) ?_
      exact zz_zret hC hZ (by decide) (⟨by rw [fn_co_isKind, if_neg c1, if_pos c2], rfl⟩) (Nat.le_of_ble_eq_true rfl) (Nat.le_of_ble_eq_true rfl) dX1_isKind_15
    · refine lv_iconst (v := 1) hx hb dX1_isKind_10 (by decide) ?_
      refine lv_goto (tgt := 15) hx hb dX1_isKind_11 (by decide) ?_
      exact zz_zret hC hZ (by decide) (⟨by rw [fn_co_isKind, if_neg c1, if_neg c2], rfl⟩) (Nat.le_of_ble_eq_true rfl) (Nat.le_of_ble_eq_true rfl) dX1_isKind_15
theorem dX1_reaches_0 : decode cX1_reaches 0 = .ok (.iload_n 0, 1) := by decide +kernel
theorem dX1_reaches_1 : decode cX1_reaches 1 = .ok (.iload_n 1, 1) := by decide +kernel
theorem dX1_reaches_2 : decode cX1_reaches 2 = .ok (.if_icmp .eq 13, 3) := by decide +kernel
theorem dX1_reaches_15 : decode cX1_reaches 15 = .ok (.iconst 1, 1) := by decide +kernel
theorem dX1_reaches_16 : decode cX1_reaches 16 = .ok (.ireturn, 1) := by decide +kernel
theorem dX1_reaches_5 : decode cX1_reaches 5 = .ok (.iload_n 0, 1) := by decide +kernel
theorem dX1_reaches_6 : decode cX1_reaches 6 = .ok (.iconst 2, 1) := by decide +kernel
theorem dX1_reaches_7 : decode cX1_reaches 7 = .ok (.if_icmp .ne 10, 3) := by decide +kernel
theorem dX1_reaches_17 : decode cX1_reaches 17 = .ok (.iload_n 0, 1) := by decide +kernel
theorem dX1_reaches_18 : decode cX1_reaches 18 = .ok (.iconst 1, 1) := by decide +kernel
theorem dX1_reaches_19 : decode cX1_reaches 19 = .ok (.if_icmp .lt 23, 3) := by decide +kernel
theorem dX1_reaches_42 : decode cX1_reaches 42 = .ok (.iconst 0, 1) := by decide +kernel
theorem dX1_reaches_43 : decode cX1_reaches 43 = .ok (.ireturn, 1) := by decide +kernel
theorem dX1_reaches_22 : decode cX1_reaches 22 = .ok (.iload_n 0, 1) := by decide +kernel
theorem dX1_reaches_23 : decode cX1_reaches 23 = .ok (.iload_n 1, 1) := by decide +kernel
theorem dX1_reaches_24 : decode cX1_reaches 24 = .ok (.if_icmp .ge 18, 3) := by decide +kernel
theorem dX1_reaches_27 : decode cX1_reaches 27 = .ok (.iload_n 1, 1) := by decide +kernel
theorem dX1_reaches_28 : decode cX1_reaches 28 = .ok (.iconst 4, 1) := by decide +kernel
theorem dX1_reaches_29 : decode cX1_reaches 29 = .ok (.if_icmp .lt 13, 3) := by decide +kernel
theorem dX1_reaches_32 : decode cX1_reaches 32 = .ok (.iload_n 1, 1) := by decide +kernel
theorem dX1_reaches_33 : decode cX1_reaches 33 = .ok (.bipush 7, 2) := by decide +kernel
theorem dX1_reaches_35 : decode cX1_reaches 35 = .ok (.if_icmp .gt 7, 3) := by decide +kernel
theorem dX1_reaches_38 : decode cX1_reaches 38 = .ok (.iconst 1, 1) := by decide +kernel
theorem dX1_reaches_39 : decode cX1_reaches 39 = .ok (.goto 4, 3) := by decide +kernel
theorem dX1_reaches_10 : decode cX1_reaches 10 = .ok (.iload_n 1, 1) := by decide +kernel
theorem dX1_reaches_11 : decode cX1_reaches 11 = .ok (.iconst 3, 1) := by decide +kernel
theorem dX1_reaches_12 : decode cX1_reaches 12 = .ok (.if_icmp .ne 5, 3) := by decide +kernel
def fn_co_reaches (k : Int32) (j : Int32) : Int32 := (if k = j then 1 else (if k = 2 then (if j = 3 then 1 else (if k < 1 then 0 else (if j ≤ k then 0 else (if j < 4 then 0 else (if 7 < j then 0 else 1))))) else (if k < 1 then 0 else (if j ≤ k then 0 else (if j < 4 then 0 else (if 7 < j then 0 else 1))))))
abbrev rm_co_reaches : Room := { frames := 0, cells := 0, slots := 0, locals := 0 }
abbrev po_co_reaches (g : zz_G) (k : Int32) (j : Int32) : Int32 → va_W → Prop := fun (r : Int32) (u : va_W) => r = fn_co_reaches k j ∧ u = []
set_option maxHeartbeats 4000000 in
set_option maxRecDepth 100000 in
theorem co_reaches (g : zz_G) (k : Int32) (j : Int32) : zz_I g yX1_reaches (.code yX1_reaches cX1_reaches 2 (some .boolean)) rm_co_reaches [.int k, .int j] [] (po_co_reaches g k j) := by
  refine zz_I.intro (own := RX1) (cc := cX1_reaches) (nL := 2) (by decide) rfl (Nat.le_of_ble_eq_true rfl) ?_
  intro p l e s m args below meth c A H locs ls hC hnm hZ hl
  obtain ⟨hx, hb, hml, hown, hts, hr, hlocks, hK⟩ := id hC
  have hl : lv_has ls 2 [(0, .int k), (1, .int j)] := hl
  have hZ : zz_Z g A s.heap [] H locs := hZ
  refine lv_iload_n hx hb dX1_reaches_0 rfl (lv_at hl 0 rfl) ?_
  refine lv_iload_n hx hb dX1_reaches_1 rfl (lv_at hl 1 rfl) ?_
  refine lv_icmp_eq (tgt := 15) hx hb dX1_reaches_2 (by decide) (fun c1 => ?_) (fun c1 => ?_)
  · refine lv_iconst (v := 1) hx hb dX1_reaches_15 (by decide) ?_
    exact zz_zret hC hZ (by decide) (⟨by rw [fn_co_reaches, if_pos c1], rfl⟩) (Nat.le_of_ble_eq_true rfl) (Nat.le_of_ble_eq_true rfl) dX1_reaches_16
  · refine lv_iload_n hx hb dX1_reaches_5 rfl (lv_at hl 0 rfl) ?_
    refine lv_iconst (v := 2) hx hb dX1_reaches_6 (by decide) ?_
    refine lv_icmp_ne (tgt := 17) hx hb dX1_reaches_7 (by decide) (fun c2 => ?_) (fun c2 => ?_)
    · refine lv_iload_n hx hb dX1_reaches_17 rfl (lv_at hl 0 rfl) ?_
      refine lv_iconst (v := 1) hx hb dX1_reaches_18 (by decide) ?_
      refine lv_icmp_lt (tgt := 42) hx hb dX1_reaches_19 (by decide) (fun c3 => ?_) (fun c3 => ?_)
      · refine lv_iconst (v := 0) hx hb dX1_reaches_42 (by decide) ?_
        exact zz_zret hC hZ (by decide) (⟨by rw [fn_co_reaches, if_neg c1, if_neg c2, if_pos c3], rfl⟩) (Nat.le_of_ble_eq_true rfl) (Nat.le_of_ble_eq_true rfl) dX1_reaches_43
      · refine lv_iload_n hx hb dX1_reaches_22 rfl (lv_at hl 0 rfl) ?_
        refine lv_iload_n hx hb dX1_reaches_23 rfl (lv_at hl 1 rfl) ?_
        refine lv_icmp_ge (tgt := 42) hx hb dX1_reaches_24 (by decide) (fun c4 => ?_) (fun c4 => ?_)
        · refine lv_iconst (v := 0) hx hb dX1_reaches_42 (by decide) ?_
          exact zz_zret hC hZ (by decide) (⟨by rw [fn_co_reaches, if_neg c1, if_neg c2, if_neg c3, if_pos c4], rfl⟩) (Nat.le_of_ble_eq_true rfl) (Nat.le_of_ble_eq_true rfl) dX1_reaches_43
        · refine lv_iload_n hx hb dX1_reaches_27 rfl (lv_at hl 1 rfl) ?_
          refine lv_iconst (v := 4) hx hb dX1_reaches_28 (by decide) ?_
          refine lv_icmp_lt (tgt := 42) hx hb dX1_reaches_29 (by decide) (fun c5 => ?_) (fun c5 => ?_)
          · refine lv_iconst (v := 0) hx hb dX1_reaches_42 (by decide) ?_
            exact zz_zret hC hZ (by decide) (⟨by rw [fn_co_reaches, if_neg c1, if_neg c2, if_neg c3, if_neg c4, if_pos c5], rfl⟩) (Nat.le_of_ble_eq_true rfl) (Nat.le_of_ble_eq_true rfl) dX1_reaches_43
          · refine lv_iload_n hx hb dX1_reaches_32 rfl (lv_at hl 1 rfl) ?_
            refine lv_bipush (v := 7) hx hb dX1_reaches_33 (by decide) ?_
            refine lv_icmp_gt (tgt := 42) hx hb dX1_reaches_35 (by decide) (fun c6 => ?_) (fun c6 => ?_)
            · refine lv_iconst (v := 0) hx hb dX1_reaches_42 (by decide) ?_
              exact zz_zret hC hZ (by decide) (⟨by rw [fn_co_reaches, if_neg c1, if_neg c2, if_neg c3, if_neg c4, if_neg c5, if_pos c6], rfl⟩) (Nat.le_of_ble_eq_true rfl) (Nat.le_of_ble_eq_true rfl) dX1_reaches_43
            · refine lv_iconst (v := 1) hx hb dX1_reaches_38 (by decide) ?_
              refine lv_goto (tgt := 43) hx hb dX1_reaches_39 (by decide) ?_
              exact zz_zret hC hZ (by decide) (⟨by rw [fn_co_reaches, if_neg c1, if_neg c2, if_neg c3, if_neg c4, if_neg c5, if_neg c6], rfl⟩) (Nat.le_of_ble_eq_true rfl) (Nat.le_of_ble_eq_true rfl) dX1_reaches_43
    · refine lv_iload_n hx hb dX1_reaches_10 rfl (lv_at hl 1 rfl) ?_
      refine lv_iconst (v := 3) hx hb dX1_reaches_11 (by decide) ?_
      refine lv_icmp_ne (tgt := 17) hx hb dX1_reaches_12 (by decide) (fun c7 => ?_) (fun c7 => ?_)
      · refine lv_iload_n hx hb dX1_reaches_17 rfl (lv_at hl 0 rfl) ?_
        refine lv_iconst (v := 1) hx hb dX1_reaches_18 (by decide) ?_
        refine lv_icmp_lt (tgt := 42) hx hb dX1_reaches_19 (by decide) (fun c8 => ?_) (fun c8 => ?_)
        · refine lv_iconst (v := 0) hx hb dX1_reaches_42 (by decide) ?_
          exact zz_zret hC hZ (by decide) (⟨by rw [fn_co_reaches, if_neg c1, if_pos c2, if_neg c7, if_pos c8], rfl⟩) (Nat.le_of_ble_eq_true rfl) (Nat.le_of_ble_eq_true rfl) dX1_reaches_43
        · refine lv_iload_n hx hb dX1_reaches_22 rfl (lv_at hl 0 rfl) ?_
          refine lv_iload_n hx hb dX1_reaches_23 rfl (lv_at hl 1 rfl) ?_
          refine lv_icmp_ge (tgt := 42) hx hb dX1_reaches_24 (by decide) (fun c9 => ?_) (fun c9 => ?_)
          · refine lv_iconst (v := 0) hx hb dX1_reaches_42 (by decide) ?_
            exact zz_zret hC hZ (by decide) (⟨by rw [fn_co_reaches, if_neg c1, if_pos c2, if_neg c7, if_neg c8, if_pos c9], rfl⟩) (Nat.le_of_ble_eq_true rfl) (Nat.le_of_ble_eq_true rfl) dX1_reaches_43
          · refine lv_iload_n hx hb dX1_reaches_27 rfl (lv_at hl 1 rfl) ?_
            refine lv_iconst (v := 4) hx hb dX1_reaches_28 (by decide) ?_
            refine lv_icmp_lt (tgt := 42) hx hb dX1_reaches_29 (by decide) (fun c10 => ?_) (fun c10 => ?_)
            · refine lv_iconst (v := 0) hx hb dX1_reaches_42 (by decide) ?_
              exact zz_zret hC hZ (by decide) (⟨by rw [fn_co_reaches, if_neg c1, if_pos c2, if_neg c7, if_neg c8, if_neg c9, if_pos c10], rfl⟩) (Nat.le_of_ble_eq_true rfl) (Nat.le_of_ble_eq_true rfl) dX1_reaches_43
            · refine lv_iload_n hx hb dX1_reaches_32 rfl (lv_at hl 1 rfl) ?_
              refine lv_bipush (v := 7) hx hb dX1_reaches_33 (by decide) ?_
              refine lv_icmp_gt (tgt := 42) hx hb dX1_reaches_35 (by decide) (fun c11 => ?_) (fun c11 => ?_)
              · refine lv_iconst (v := 0) hx hb dX1_reaches_42 (by decide) ?_
                exact zz_zret hC hZ (by decide) (⟨by rw [fn_co_reaches, if_neg c1, if_pos c2, if_neg c7, if_neg c8, if_neg c9, if_neg c10, if_pos c11], rfl⟩) (Nat.le_of_ble_eq_true rfl) (Nat.le_of_ble_eq_true rfl) dX1_reaches_43
              · refine lv_iconst (v := 1) hx hb dX1_reaches_38 (by decide) ?_
                refine lv_goto (tgt := 43) hx hb dX1_reaches_39 (by decide) ?_
                exact zz_zret hC hZ (by decide) (⟨by rw [fn_co_reaches, if_neg c1, if_pos c2, if_neg c7, if_neg c8, if_neg c9, if_neg c10, if_neg c11], rfl⟩) (Nat.le_of_ble_eq_true rfl) (Nat.le_of_ble_eq_true rfl) dX1_reaches_43
      · refine lv_iconst (v := 1) hx hb dX1_reaches_15 (by decide) ?_
        exact zz_zret hC hZ (by decide) (⟨by rw [fn_co_reaches, if_neg c1, if_pos c2, if_pos c7], rfl⟩) (Nat.le_of_ble_eq_true rfl) (Nat.le_of_ble_eq_true rfl) dX1_reaches_16
theorem dX8_fails_0 : decode cX8_fails 0 = .ok (.aload_n 0, 1) := by decide +kernel
theorem dX8_fails_1 : decode cX8_fails 1 = .ok (.iload_n 1, 1) := by decide +kernel
theorem dX8_fails_2 : decode cX8_fails 2 = .ok (.putfield 99, 3) := by decide +kernel
theorem zk_744 : Cond.fieldLink RX8 99 RX8 "code" "I" ∈ zz_w := zz_in (List.mem_append_right _ (List.mem_append_right _ (List.mem_append_right _ (List.mem_append_right _ (List.mem_append_left _ (List.mem_of_getElem? (i := 24) (by decide +kernel))))))) rfl
theorem zi_X8_a : ∀ w ∈ u_ws RX8 TX8 37, w ∈ lw_tbl := by decide +kernel
theorem zi_X8_b : ∀ w ∈ u_ws RX8 TX8 37, goodWord w = true := by decide +kernel
theorem zi_X8 : ∀ w ∈ u_ws RX8 TX8 37, w ∈ zz_w := fun w h => zz_in (zi_X8_a w h) (zi_X8_b w h)
theorem zu_X8_99 : zz_fw RX8 99 7 9 false .int := ⟨RX8, TX8, 37, tyX8, rfl, zi_X8, by decide, zk_744, tyX8_ok, nmX8, rfl, by decide +kernel, fun h => by cases h⟩
theorem dX8_fails_5 : decode cX8_fails 5 = .ok (.iload_n 1, 1) := by decide +kernel
theorem dX8_fails_6 : decode cX8_fails 6 = .ok (.ineg, 1) := by decide +kernel
theorem dX8_fails_7 : decode cX8_fails 7 = .ok (.ireturn, 1) := by decide +kernel
abbrev rm_cm_fails : Room := { frames := 0, cells := 0, slots := 0, locals := 0 }
abbrev po_cm_fails (g : zz_G) (h0 : Nat) (a_kindOf : Nat) (a_depthOf : Nat) (a_lengthOf : Nat) (a_classOf : Nat) (a_baseOf : Nat) (a_bits : Nat) (a_pinned : Nat) (a_lengths : Nat) (a_stackArray : Nat) (a_stackOther : Nat) (a_stackAt : Nat) (a_path : Nat) (a_held : Nat) (a_alike : Nat) (a_hashes : Nat) (a_decisionArray : Nat) (a_decisionPlace : Nat) (a_candidateMany : Nat) (a_candidates : Nat) (a_ruleSort : Nat) (a_ruleArray : Nat) (a_ruleWeight : Nat) (a_ruleLow : Nat) (a_ruleHigh : Nat) (a_chosen : Nat) (a_bestOf : Nat) (a_markElements : Nat) (a_markBits : Nat) (a_markPins : Nat) (i_arrays : Int32) (i_elements : Int32) (i_code : Int32) (i_lastArray : Int32) (i_lastPlace : Int32) (i_decisions : Int32) (i_rules : Int32) (i_marks : Int32) (k : Int32) : Int32 → va_W → Prop := fun (r : Int32) (u : va_W) => r = -k ∧ u = [(h0, .inr (7, [.int i_arrays, .int i_elements, .ref a_kindOf, .ref a_depthOf, .ref a_lengthOf, .ref a_classOf, .ref a_baseOf, .ref a_bits, .ref a_pinned, .int k, .ref a_lengths, .ref a_stackArray, .ref a_stackOther, .ref a_stackAt, .int i_lastArray, .int i_lastPlace, .ref a_path, .ref a_held, .ref a_alike, .ref a_hashes, .int i_decisions, .ref a_decisionArray, .ref a_decisionPlace, .ref a_candidateMany, .ref a_candidates, .int i_rules, .ref a_ruleSort, .ref a_ruleArray, .ref a_ruleWeight, .ref a_ruleLow, .ref a_ruleHigh, .ref a_chosen, .ref a_bestOf, .int i_marks, .ref a_markElements, .ref a_markBits, .ref a_markPins]))]
set_option maxHeartbeats 4000000 in
set_option maxRecDepth 100000 in
theorem cm_fails (g : zz_G) (h0 : Nat) (a_kindOf : Nat) (a_depthOf : Nat) (a_lengthOf : Nat) (a_classOf : Nat) (a_baseOf : Nat) (a_bits : Nat) (a_pinned : Nat) (a_lengths : Nat) (a_stackArray : Nat) (a_stackOther : Nat) (a_stackAt : Nat) (a_path : Nat) (a_held : Nat) (a_alike : Nat) (a_hashes : Nat) (a_decisionArray : Nat) (a_decisionPlace : Nat) (a_candidateMany : Nat) (a_candidates : Nat) (a_ruleSort : Nat) (a_ruleArray : Nat) (a_ruleWeight : Nat) (a_ruleLow : Nat) (a_ruleHigh : Nat) (a_chosen : Nat) (a_bestOf : Nat) (a_markElements : Nat) (a_markBits : Nat) (a_markPins : Nat) (i_arrays : Int32) (i_elements : Int32) (i_code : Int32) (i_lastArray : Int32) (i_lastPlace : Int32) (i_decisions : Int32) (i_rules : Int32) (i_marks : Int32) (k : Int32) : zz_I g yX8_fails (.code yX8_fails cX8_fails 2 (some .int)) rm_cm_fails [.ref h0, .int k] [(h0, .inr (7, [.int i_arrays, .int i_elements, .ref a_kindOf, .ref a_depthOf, .ref a_lengthOf, .ref a_classOf, .ref a_baseOf, .ref a_bits, .ref a_pinned, .int i_code, .ref a_lengths, .ref a_stackArray, .ref a_stackOther, .ref a_stackAt, .int i_lastArray, .int i_lastPlace, .ref a_path, .ref a_held, .ref a_alike, .ref a_hashes, .int i_decisions, .ref a_decisionArray, .ref a_decisionPlace, .ref a_candidateMany, .ref a_candidates, .int i_rules, .ref a_ruleSort, .ref a_ruleArray, .ref a_ruleWeight, .ref a_ruleLow, .ref a_ruleHigh, .ref a_chosen, .ref a_bestOf, .int i_marks, .ref a_markElements, .ref a_markBits, .ref a_markPins]))] (po_cm_fails g h0 a_kindOf a_depthOf a_lengthOf a_classOf a_baseOf a_bits a_pinned a_lengths a_stackArray a_stackOther a_stackAt a_path a_held a_alike a_hashes a_decisionArray a_decisionPlace a_candidateMany a_candidates a_ruleSort a_ruleArray a_ruleWeight a_ruleLow a_ruleHigh a_chosen a_bestOf a_markElements a_markBits a_markPins i_arrays i_elements i_code i_lastArray i_lastPlace i_decisions i_rules i_marks k) := by
  refine zz_I.intro (own := RX8) (cc := cX8_fails) (nL := 2) (by decide) rfl (Nat.le_of_ble_eq_true rfl) ?_
  intro p l e s m args below meth c A H locs ls hC hnm hZ hl
  obtain ⟨hx, hb, hml, hown, hts, hr, hlocks, hK⟩ := id hC
  have hl : lv_has ls 2 [(0, .ref h0), (1, .int k)] := hl
  have hZ : zz_Z g A s.heap [(h0, .inr (7, [.int i_arrays, .int i_elements, .ref a_kindOf, .ref a_depthOf, .ref a_lengthOf, .ref a_classOf, .ref a_baseOf, .ref a_bits, .ref a_pinned, .int i_code, .ref a_lengths, .ref a_stackArray, .ref a_stackOther, .ref a_stackAt, .int i_lastArray, .int i_lastPlace, .ref a_path, .ref a_held, .ref a_alike, .ref a_hashes, .int i_decisions, .ref a_decisionArray, .ref a_decisionPlace, .ref a_candidateMany, .ref a_candidates, .int i_rules, .ref a_ruleSort, .ref a_ruleArray, .ref a_ruleWeight, .ref a_ruleLow, .ref a_ruleHigh, .ref a_chosen, .ref a_bestOf, .int i_marks, .ref a_markElements, .ref a_markBits, .ref a_markPins]))] H locs := hZ
  refine lv_aload_n hx hb dX8_fails_0 rfl (lv_at hl 0 rfl) ?_
  refine lv_iload_n hx hb dX8_fails_1 rfl (lv_at hl 1 rfl) ?_
  refine zz_put hC hZ 0 rfl zu_X8_99 (Nat.le_of_ble_eq_true rfl) dX8_fails_2 (fun H locs hZ => ?_)
  have hZ : zz_Z g A s.heap [(h0, .inr (7, [.int i_arrays, .int i_elements, .ref a_kindOf, .ref a_depthOf, .ref a_lengthOf, .ref a_classOf, .ref a_baseOf, .ref a_bits, .ref a_pinned, .int k, .ref a_lengths, .ref a_stackArray, .ref a_stackOther, .ref a_stackAt, .int i_lastArray, .int i_lastPlace, .ref a_path, .ref a_held, .ref a_alike, .ref a_hashes, .int i_decisions, .ref a_decisionArray, .ref a_decisionPlace, .ref a_candidateMany, .ref a_candidates, .int i_rules, .ref a_ruleSort, .ref a_ruleArray, .ref a_ruleWeight, .ref a_ruleLow, .ref a_ruleHigh, .ref a_chosen, .ref a_bestOf, .int i_marks, .ref a_markElements, .ref a_markBits, .ref a_markPins]))] H locs := hZ
  refine lv_iload_n hx hb dX8_fails_5 rfl (lv_at hl 1 rfl) ?_
  refine lv_ineg hx hb dX8_fails_6 ?_
  exact zz_iret hC hZ (⟨rfl, rfl⟩) (Nat.le_of_ble_eq_true rfl) (Nat.le_of_ble_eq_true rfl) dX8_fails_7
theorem dX8_fine_0 : decode cX8_fine 0 = .ok (.aload_n 0, 1) := by decide +kernel
theorem dX8_fine_1 : decode cX8_fine 1 = .ok (.iconst 0, 1) := by decide +kernel
theorem dX8_fine_2 : decode cX8_fine 2 = .ok (.putfield 99, 3) := by decide +kernel
theorem dX8_fine_5 : decode cX8_fine 5 = .ok (.iload_n 1, 1) := by decide +kernel
theorem dX8_fine_6 : decode cX8_fine 6 = .ok (.ireturn, 1) := by decide +kernel
abbrev rm_cm_fine : Room := { frames := 0, cells := 0, slots := 0, locals := 0 }
abbrev po_cm_fine (g : zz_G) (h0 : Nat) (a_kindOf : Nat) (a_depthOf : Nat) (a_lengthOf : Nat) (a_classOf : Nat) (a_baseOf : Nat) (a_bits : Nat) (a_pinned : Nat) (a_lengths : Nat) (a_stackArray : Nat) (a_stackOther : Nat) (a_stackAt : Nat) (a_path : Nat) (a_held : Nat) (a_alike : Nat) (a_hashes : Nat) (a_decisionArray : Nat) (a_decisionPlace : Nat) (a_candidateMany : Nat) (a_candidates : Nat) (a_ruleSort : Nat) (a_ruleArray : Nat) (a_ruleWeight : Nat) (a_ruleLow : Nat) (a_ruleHigh : Nat) (a_chosen : Nat) (a_bestOf : Nat) (a_markElements : Nat) (a_markBits : Nat) (a_markPins : Nat) (i_arrays : Int32) (i_elements : Int32) (i_code : Int32) (i_lastArray : Int32) (i_lastPlace : Int32) (i_decisions : Int32) (i_rules : Int32) (i_marks : Int32) (k : Int32) : Int32 → va_W → Prop := fun (r : Int32) (u : va_W) => r = k ∧ u = [(h0, .inr (7, [.int i_arrays, .int i_elements, .ref a_kindOf, .ref a_depthOf, .ref a_lengthOf, .ref a_classOf, .ref a_baseOf, .ref a_bits, .ref a_pinned, .int 0, .ref a_lengths, .ref a_stackArray, .ref a_stackOther, .ref a_stackAt, .int i_lastArray, .int i_lastPlace, .ref a_path, .ref a_held, .ref a_alike, .ref a_hashes, .int i_decisions, .ref a_decisionArray, .ref a_decisionPlace, .ref a_candidateMany, .ref a_candidates, .int i_rules, .ref a_ruleSort, .ref a_ruleArray, .ref a_ruleWeight, .ref a_ruleLow, .ref a_ruleHigh, .ref a_chosen, .ref a_bestOf, .int i_marks, .ref a_markElements, .ref a_markBits, .ref a_markPins]))]
set_option maxHeartbeats 4000000 in
set_option maxRecDepth 100000 in
theorem cm_fine (g : zz_G) (h0 : Nat) (a_kindOf : Nat) (a_depthOf : Nat) (a_lengthOf : Nat) (a_classOf : Nat) (a_baseOf : Nat) (a_bits : Nat) (a_pinned : Nat) (a_lengths : Nat) (a_stackArray : Nat) (a_stackOther : Nat) (a_stackAt : Nat) (a_path : Nat) (a_held : Nat) (a_alike : Nat) (a_hashes : Nat) (a_decisionArray : Nat) (a_decisionPlace : Nat) (a_candidateMany : Nat) (a_candidates : Nat) (a_ruleSort : Nat) (a_ruleArray : Nat) (a_ruleWeight : Nat) (a_ruleLow : Nat) (a_ruleHigh : Nat) (a_chosen : Nat) (a_bestOf : Nat) (a_markElements : Nat) (a_markBits : Nat) (a_markPins : Nat) (i_arrays : Int32) (i_elements : Int32) (i_code : Int32) (i_lastArray : Int32) (i_lastPlace : Int32) (i_decisions : Int32) (i_rules : Int32) (i_marks : Int32) (k : Int32) : zz_I g yX8_fine (.code yX8_fine cX8_fine 2 (some .int)) rm_cm_fine [.ref h0, .int k] [(h0, .inr (7, [.int i_arrays, .int i_elements, .ref a_kindOf, .ref a_depthOf, .ref a_lengthOf, .ref a_classOf, .ref a_baseOf, .ref a_bits, .ref a_pinned, .int i_code, .ref a_lengths, .ref a_stackArray, .ref a_stackOther, .ref a_stackAt, .int i_lastArray, .int i_lastPlace, .ref a_path, .ref a_held, .ref a_alike, .ref a_hashes, .int i_decisions, .ref a_decisionArray, .ref a_decisionPlace, .ref a_candidateMany, .ref a_candidates, .int i_rules, .ref a_ruleSort, .ref a_ruleArray, .ref a_ruleWeight, .ref a_ruleLow, .ref a_ruleHigh, .ref a_chosen, .ref a_bestOf, .int i_marks, .ref a_markElements, .ref a_markBits, .ref a_markPins]))] (po_cm_fine g h0 a_kindOf a_depthOf a_lengthOf a_classOf a_baseOf a_bits a_pinned a_lengths a_stackArray a_stackOther a_stackAt a_path a_held a_alike a_hashes a_decisionArray a_decisionPlace a_candidateMany a_candidates a_ruleSort a_ruleArray a_ruleWeight a_ruleLow a_ruleHigh a_chosen a_bestOf a_markElements a_markBits a_markPins i_arrays i_elements i_code i_lastArray i_lastPlace i_decisions i_rules i_marks k) := by
  refine zz_I.intro (own := RX8) (cc := cX8_fine) (nL := 2) (by decide) rfl (Nat.le_of_ble_eq_true rfl) ?_
  intro p l e s m args below meth c A H locs ls hC hnm hZ hl
  obtain ⟨hx, hb, hml, hown, hts, hr, hlocks, hK⟩ := id hC
  have hl : lv_has ls 2 [(0, .ref h0), (1, .int k)] := hl
  have hZ : zz_Z g A s.heap [(h0, .inr (7, [.int i_arrays, .int i_elements, .ref a_kindOf, .ref a_depthOf, .ref a_lengthOf, .ref a_classOf, .ref a_baseOf, .ref a_bits, .ref a_pinned, .int i_code, .ref a_lengths, .ref a_stackArray, .ref a_stackOther, .ref a_stackAt, .int i_lastArray, .int i_lastPlace, .ref a_path, .ref a_held, .ref a_alike, .ref a_hashes, .int i_decisions, .ref a_decisionArray, .ref a_decisionPlace, .ref a_candidateMany, .ref a_candidates, .int i_rules, .ref a_ruleSort, .ref a_ruleArray, .ref a_ruleWeight, .ref a_ruleLow, .ref a_ruleHigh, .ref a_chosen, .ref a_bestOf, .int i_marks, .ref a_markElements, .ref a_markBits, .ref a_markPins]))] H locs := hZ
  refine lv_aload_n hx hb dX8_fine_0 rfl (lv_at hl 0 rfl) ?_
  refine lv_iconst (v := 0) hx hb dX8_fine_1 (by decide) ?_
  refine zz_put hC hZ 0 rfl zu_X8_99 (Nat.le_of_ble_eq_true rfl) dX8_fine_2 (fun H locs hZ => ?_)
  have hZ : zz_Z g A s.heap [(h0, .inr (7, [.int i_arrays, .int i_elements, .ref a_kindOf, .ref a_depthOf, .ref a_lengthOf, .ref a_classOf, .ref a_baseOf, .ref a_bits, .ref a_pinned, .int 0, .ref a_lengths, .ref a_stackArray, .ref a_stackOther, .ref a_stackAt, .int i_lastArray, .int i_lastPlace, .ref a_path, .ref a_held, .ref a_alike, .ref a_hashes, .int i_decisions, .ref a_decisionArray, .ref a_decisionPlace, .ref a_candidateMany, .ref a_candidates, .int i_rules, .ref a_ruleSort, .ref a_ruleArray, .ref a_ruleWeight, .ref a_ruleLow, .ref a_ruleHigh, .ref a_chosen, .ref a_bestOf, .int i_marks, .ref a_markElements, .ref a_markBits, .ref a_markPins]))] H locs := hZ
  refine lv_iload_n hx hb dX8_fine_5 rfl (lv_at hl 1 rfl) ?_
  exact zz_iret hC hZ (⟨rfl, rfl⟩) (Nat.le_of_ble_eq_true rfl) (Nat.le_of_ble_eq_true rfl) dX8_fine_6
theorem dX8_within_0 : decode cX8_within 0 = .ok (.lload_n 0, 1) := by decide +kernel
theorem dX8_within_1 : decode cX8_within 1 = .ok (.lload_n 2, 1) := by decide +kernel
theorem dX8_within_2 : decode cX8_within 2 = .ok (.lcmp, 1) := by decide +kernel
theorem dX8_within_3 : decode cX8_within 3 = .ok (.ifCond .lt 14, 3) := by decide +kernel
theorem dX8_within_17 : decode cX8_within 17 = .ok (.iconst 0, 1) := by decide +kernel
theorem dX8_within_18 : decode cX8_within 18 = .ok (.ireturn, 1) := by decide +kernel
theorem dX8_within_6 : decode cX8_within 6 = .ok (.lload_n 0, 1) := by decide +kernel
theorem dX8_within_7 : decode cX8_within 7 = .ok (.lload 4, 2) := by decide +kernel
theorem dX8_within_9 : decode cX8_within 9 = .ok (.lcmp, 1) := by decide +kernel
theorem dX8_within_10 : decode cX8_within 10 = .ok (.ifCond .gt 7, 3) := by decide +kernel
theorem dX8_within_13 : decode cX8_within 13 = .ok (.iconst 1, 1) := by decide +kernel
theorem dX8_within_14 : decode cX8_within 14 = .ok (.goto 4, 3) := by decide +kernel
def fn_cm_within (v : Int64) (lo : Int64) (hi : Int64) : Int32 := (if v < lo then 0 else (if hi < v then 0 else 1))
abbrev rm_cm_within : Room := { frames := 0, cells := 0, slots := 0, locals := 0 }
abbrev po_cm_within (g : zz_G) (v : Int64) (lo : Int64) (hi : Int64) : Int32 → va_W → Prop := fun (r : Int32) (u : va_W) => r = fn_cm_within v lo hi ∧ u = []
set_option maxHeartbeats 4000000 in
set_option maxRecDepth 100000 in
theorem cm_within (g : zz_G) (v : Int64) (lo : Int64) (hi : Int64) : zz_I g yX8_within (.code yX8_within cX8_within 6 (some .boolean)) rm_cm_within [.long v, .long lo, .long hi] [] (po_cm_within g v lo hi) := by
  refine zz_I.intro (own := RX8) (cc := cX8_within) (nL := 6) (by decide) rfl (Nat.le_of_ble_eq_true rfl) ?_
  intro p l e s m args below meth c A H locs ls hC hnm hZ hl
  obtain ⟨hx, hb, hml, hown, hts, hr, hlocks, hK⟩ := id hC
  have hl : lv_has ls 6 [(0, .long v), (2, .long lo), (4, .long hi)] := hl
  have hZ : zz_Z g A s.heap [] H locs := hZ
  refine lv_lload_n hx hb dX8_within_0 rfl (lv_at hl 0 rfl) ?_
  refine lv_lload_n hx hb dX8_within_1 rfl (lv_at hl 1 rfl) ?_
  refine zz_lcmp_lt (tgt := 17) hC dX8_within_2 dX8_within_3 (by decide) (fun c1 => ?_) (fun c1 => ?_)
  · refine lv_iconst (v := 0) hx hb dX8_within_17 (by decide) ?_
    exact zz_zret hC hZ (by decide) (⟨by rw [fn_cm_within, if_pos c1], rfl⟩) (Nat.le_of_ble_eq_true rfl) (Nat.le_of_ble_eq_true rfl) dX8_within_18
  · refine lv_lload_n hx hb dX8_within_6 rfl (lv_at hl 0 rfl) ?_
    refine lv_lload hx hb dX8_within_7 (lv_at hl 2 rfl) ?_
    refine zz_lcmp_gt (tgt := 17) hC dX8_within_9 dX8_within_10 (by decide) (fun c2 => ?_) (fun c2 => ?_)
    · refine lv_iconst (v := 0) hx hb dX8_within_17 (by decide) ?_
      exact zz_zret hC hZ (by decide) (⟨by rw [fn_cm_within, if_neg c1, if_pos c2], rfl⟩) (Nat.le_of_ble_eq_true rfl) (Nat.le_of_ble_eq_true rfl) dX8_within_18
    · refine lv_iconst (v := 1) hx hb dX8_within_13 (by decide) ?_
      refine lv_goto (tgt := 18) hx hb dX8_within_14 (by decide) ?_
      exact zz_zret hC hZ (by decide) (⟨by rw [fn_cm_within, if_neg c1, if_neg c2], rfl⟩) (Nat.le_of_ble_eq_true rfl) (Nat.le_of_ble_eq_true rfl) dX8_within_18
theorem dX8_isWider_86 : decode cX8_isWider 86 = .ok (.iload_n 0, 1) := by decide +kernel
theorem dX8_isWider_87 : decode cX8_isWider 87 = .ok (.bipush 6, 2) := by decide +kernel
theorem dX8_isWider_89 : decode cX8_isWider 89 = .ok (.if_icmp .ne 13, 3) := by decide +kernel
theorem dX8_isWider_102 : decode cX8_isWider 102 = .ok (.iconst 0, 1) := by decide +kernel
theorem dX8_isWider_103 : decode cX8_isWider 103 = .ok (.ireturn, 1) := by decide +kernel
theorem dX8_isWider_92 : decode cX8_isWider 92 = .ok (.iload_n 1, 1) := by decide +kernel
theorem dX8_isWider_93 : decode cX8_isWider 93 = .ok (.bipush 7, 2) := by decide +kernel
theorem dX8_isWider_95 : decode cX8_isWider 95 = .ok (.if_icmp .ne 7, 3) := by decide +kernel
theorem dX8_isWider_98 : decode cX8_isWider 98 = .ok (.iconst 1, 1) := by decide +kernel
theorem dX8_isWider_99 : decode cX8_isWider 99 = .ok (.goto 4, 3) := by decide +kernel
theorem dX8_isWider_69 : decode cX8_isWider 69 = .ok (.iload_n 0, 1) := by decide +kernel
theorem dX8_isWider_70 : decode cX8_isWider 70 = .ok (.iconst 5, 1) := by decide +kernel
theorem dX8_isWider_71 : decode cX8_isWider 71 = .ok (.if_icmp .ne 15, 3) := by decide +kernel
theorem dX8_isWider_74 : decode cX8_isWider 74 = .ok (.iload_n 1, 1) := by decide +kernel
theorem dX8_isWider_75 : decode cX8_isWider 75 = .ok (.bipush 6, 2) := by decide +kernel
theorem dX8_isWider_77 : decode cX8_isWider 77 = .ok (.if_icmp .eq 21, 3) := by decide +kernel
theorem dX8_isWider_80 : decode cX8_isWider 80 = .ok (.iload_n 1, 1) := by decide +kernel
theorem dX8_isWider_81 : decode cX8_isWider 81 = .ok (.bipush 7, 2) := by decide +kernel
theorem dX8_isWider_83 : decode cX8_isWider 83 = .ok (.if_icmp .eq 15, 3) := by decide +kernel
theorem dX8_isWider_53 : decode cX8_isWider 53 = .ok (.iload_n 0, 1) := by decide +kernel
theorem dX8_isWider_54 : decode cX8_isWider 54 = .ok (.iconst 4, 1) := by decide +kernel
theorem dX8_isWider_55 : decode cX8_isWider 55 = .ok (.if_icmp .ne 14, 3) := by decide +kernel
theorem dX8_isWider_58 : decode cX8_isWider 58 = .ok (.iload_n 1, 1) := by decide +kernel
theorem dX8_isWider_59 : decode cX8_isWider 59 = .ok (.iconst 5, 1) := by decide +kernel
theorem dX8_isWider_60 : decode cX8_isWider 60 = .ok (.if_icmp .lt 9, 3) := by decide +kernel
theorem dX8_isWider_63 : decode cX8_isWider 63 = .ok (.iload_n 1, 1) := by decide +kernel
theorem dX8_isWider_64 : decode cX8_isWider 64 = .ok (.bipush 7, 2) := by decide +kernel
theorem dX8_isWider_66 : decode cX8_isWider 66 = .ok (.if_icmp .le 32, 3) := by decide +kernel
theorem dX8_isWider_37 : decode cX8_isWider 37 = .ok (.iload_n 0, 1) := by decide +kernel
theorem dX8_isWider_38 : decode cX8_isWider 38 = .ok (.iconst 3, 1) := by decide +kernel
theorem dX8_isWider_39 : decode cX8_isWider 39 = .ok (.if_icmp .ne 14, 3) := by decide +kernel
theorem dX8_isWider_42 : decode cX8_isWider 42 = .ok (.iload_n 1, 1) := by decide +kernel
theorem dX8_isWider_43 : decode cX8_isWider 43 = .ok (.iconst 4, 1) := by decide +kernel
theorem dX8_isWider_44 : decode cX8_isWider 44 = .ok (.if_icmp .lt 9, 3) := by decide +kernel
theorem dX8_isWider_47 : decode cX8_isWider 47 = .ok (.iload_n 1, 1) := by decide +kernel
theorem dX8_isWider_48 : decode cX8_isWider 48 = .ok (.bipush 7, 2) := by decide +kernel
theorem dX8_isWider_50 : decode cX8_isWider 50 = .ok (.if_icmp .le 48, 3) := by decide +kernel
theorem dX8_isWider_21 : decode cX8_isWider 21 = .ok (.iload_n 0, 1) := by decide +kernel
theorem dX8_isWider_22 : decode cX8_isWider 22 = .ok (.iconst 2, 1) := by decide +kernel
theorem dX8_isWider_23 : decode cX8_isWider 23 = .ok (.if_icmp .ne 14, 3) := by decide +kernel
theorem dX8_isWider_26 : decode cX8_isWider 26 = .ok (.iload_n 1, 1) := by decide +kernel
theorem dX8_isWider_27 : decode cX8_isWider 27 = .ok (.iconst 3, 1) := by decide +kernel
theorem dX8_isWider_28 : decode cX8_isWider 28 = .ok (.if_icmp .lt 9, 3) := by decide +kernel
theorem dX8_isWider_31 : decode cX8_isWider 31 = .ok (.iload_n 1, 1) := by decide +kernel
theorem dX8_isWider_32 : decode cX8_isWider 32 = .ok (.bipush 7, 2) := by decide +kernel
theorem dX8_isWider_34 : decode cX8_isWider 34 = .ok (.if_icmp .le 64, 3) := by decide +kernel
theorem dX8_isWider_0 : decode cX8_isWider 0 = .ok (.iload_n 0, 1) := by decide +kernel
theorem dX8_isWider_1 : decode cX8_isWider 1 = .ok (.iload_n 1, 1) := by decide +kernel
theorem dX8_isWider_2 : decode cX8_isWider 2 = .ok (.if_icmp .eq 96, 3) := by decide +kernel
theorem dX8_isWider_5 : decode cX8_isWider 5 = .ok (.iload_n 0, 1) := by decide +kernel
theorem dX8_isWider_6 : decode cX8_isWider 6 = .ok (.iconst 1, 1) := by decide +kernel
theorem dX8_isWider_7 : decode cX8_isWider 7 = .ok (.if_icmp .ne 14, 3) := by decide +kernel
theorem dX8_isWider_10 : decode cX8_isWider 10 = .ok (.iload_n 1, 1) := by decide +kernel
theorem dX8_isWider_11 : decode cX8_isWider 11 = .ok (.iconst 4, 1) := by decide +kernel
theorem dX8_isWider_12 : decode cX8_isWider 12 = .ok (.if_icmp .lt 9, 3) := by decide +kernel
theorem dX8_isWider_15 : decode cX8_isWider 15 = .ok (.iload_n 1, 1) := by decide +kernel
theorem dX8_isWider_16 : decode cX8_isWider 16 = .ok (.bipush 7, 2) := by decide +kernel
theorem dX8_isWider_18 : decode cX8_isWider 18 = .ok (.if_icmp .le 80, 3) := by decide +kernel
def fn_cm_isWider_86 (k : Int32) (j : Int32) : Int32 := (if k = 6 then (if j = 7 then 1 else 0) else 0)
def fn_cm_isWider_69 (k : Int32) (j : Int32) : Int32 := (if k = 5 then (if j = 6 then 1 else (if j = 7 then 1 else (fn_cm_isWider_86 k j))) else (fn_cm_isWider_86 k j))
def fn_cm_isWider_53 (k : Int32) (j : Int32) : Int32 := (if k = 4 then (if j < 5 then (fn_cm_isWider_69 k j) else (if j ≤ 7 then 1 else (fn_cm_isWider_69 k j))) else (fn_cm_isWider_69 k j))
def fn_cm_isWider_37 (k : Int32) (j : Int32) : Int32 := (if k = 3 then (if j < 4 then (fn_cm_isWider_53 k j) else (if j ≤ 7 then 1 else (fn_cm_isWider_53 k j))) else (fn_cm_isWider_53 k j))
def fn_cm_isWider_21 (k : Int32) (j : Int32) : Int32 := (if k = 2 then (if j < 3 then (fn_cm_isWider_37 k j) else (if j ≤ 7 then 1 else (fn_cm_isWider_37 k j))) else (fn_cm_isWider_37 k j))
def fn_cm_isWider (k : Int32) (j : Int32) : Int32 := (if k = j then 1 else (if k = 1 then (if j < 4 then (fn_cm_isWider_21 k j) else (if j ≤ 7 then 1 else (fn_cm_isWider_21 k j))) else (fn_cm_isWider_21 k j)))
abbrev rm_cm_isWider : Room := { frames := 0, cells := 0, slots := 0, locals := 0 }
abbrev po_cm_isWider (g : zz_G) (k : Int32) (j : Int32) : Int32 → va_W → Prop := fun (r : Int32) (u : va_W) => r = fn_cm_isWider k j ∧ u = []
set_option maxHeartbeats 4000000 in
set_option maxRecDepth 100000 in
theorem cm_isWider (g : zz_G) (k : Int32) (j : Int32) : zz_I g yX8_isWider (.code yX8_isWider cX8_isWider 2 (some .boolean)) rm_cm_isWider [.int k, .int j] [] (po_cm_isWider g k j) := by
  refine zz_I.intro (own := RX8) (cc := cX8_isWider) (nL := 2) (by decide) rfl (Nat.le_of_ble_eq_true rfl) ?_
  intro p l e s m args below meth c A H locs ls hC hnm hZ hl
  obtain ⟨hx, hb, hml, hown, hts, hr, hlocks, hK⟩ := id hC
  have hl : lv_has ls 2 [(0, .int k), (1, .int j)] := hl
  have hZ : zz_Z g A s.heap [] H locs := hZ
  have J86 : fn_cm_isWider k j = fn_cm_isWider_86 k j → W p l e rm_cm_isWider s m args below meth c H locs 0 0 (zz_QI below g args s A rm_cm_isWider.cells rm_cm_isWider.slots (po_cm_isWider g k j)) (F0 m 86 ls []) := by
    intro e86
    refine lv_iload_n hx hb dX8_isWider_86 rfl (lv_at hl 0 rfl) ?_
    refine lv_bipush (v := 6) hx hb dX8_isWider_87 (by decide) ?_
    refine lv_icmp_ne (tgt := 102) hx hb dX8_isWider_89 (by decide) (fun c1 => ?_) (fun c1 => ?_)
    · refine lv_iconst (v := 0) hx hb dX8_isWider_102 (by decide) ?_
      exact zz_zret hC hZ (by decide) (⟨by rw [e86, fn_cm_isWider_86, if_neg c1], rfl⟩) (Nat.le_of_ble_eq_true rfl) (Nat.le_of_ble_eq_true rfl) dX8_isWider_103
    · refine lv_iload_n hx hb dX8_isWider_92 rfl (lv_at hl 1 rfl) ?_
      refine lv_bipush (v := 7) hx hb dX8_isWider_93 (by decide) ?_
      refine lv_icmp_ne (tgt := 102) hx hb dX8_isWider_95 (by decide) (fun c2 => ?_) (fun c2 => ?_)
      · refine lv_iconst (v := 0) hx hb dX8_isWider_102 (by decide) ?_
        exact zz_zret hC hZ (by decide) (⟨by rw [e86, fn_cm_isWider_86, if_pos c1, if_neg c2], rfl⟩) (Nat.le_of_ble_eq_true rfl) (Nat.le_of_ble_eq_true rfl) dX8_isWider_103
      · refine lv_iconst (v := 1) hx hb dX8_isWider_98 (by decide) ?_
        refine lv_goto (tgt := 103) hx hb dX8_isWider_99 (by decide) ?_
        exact zz_zret hC hZ (by decide) (⟨by rw [e86, fn_cm_isWider_86, if_pos c1, if_pos c2], rfl⟩) (Nat.le_of_ble_eq_true rfl) (Nat.le_of_ble_eq_true rfl) dX8_isWider_103
  have J69 : fn_cm_isWider k j = fn_cm_isWider_69 k j → W p l e rm_cm_isWider s m args below meth c H locs 0 0 (zz_QI below g args s A rm_cm_isWider.cells rm_cm_isWider.slots (po_cm_isWider g k j)) (F0 m 69 ls []) := by
    intro e69
    refine lv_iload_n hx hb dX8_isWider_69 rfl (lv_at hl 0 rfl) ?_
    refine lv_iconst (v := 5) hx hb dX8_isWider_70 (by decide) ?_
    refine lv_icmp_ne (tgt := 86) hx hb dX8_isWider_71 (by decide) (fun c3 => ?_) (fun c3 => ?_)
    · exact J86 (by rw [e69, fn_cm_isWider_69, if_neg c3])
    · refine lv_iload_n hx hb dX8_isWider_74 rfl (lv_at hl 1 rfl) ?_
      refine lv_bipush (v := 6) hx hb dX8_isWider_75 (by decide) ?_
      refine lv_icmp_eq (tgt := 98) hx hb dX8_isWider_77 (by decide) (fun c4 => ?_) (fun c4 => ?_)
      · refine lv_iconst (v := 1) hx hb dX8_isWider_98 (by decide) ?_
        refine lv_goto (tgt := 103) hx hb dX8_isWider_99 (by decide) ?_
        exact zz_zret hC hZ (by decide) (⟨by rw [e69, fn_cm_isWider_69, if_pos c3, if_pos c4], rfl⟩) (Nat.le_of_ble_eq_true rfl) (Nat.le_of_ble_eq_true rfl) dX8_isWider_103
      · refine lv_iload_n hx hb dX8_isWider_80 rfl (lv_at hl 1 rfl) ?_
        refine lv_bipush (v := 7) hx hb dX8_isWider_81 (by decide) ?_
        refine lv_icmp_eq (tgt := 98) hx hb dX8_isWider_83 (by decide) (fun c5 => ?_) (fun c5 => ?_)
        · refine lv_iconst (v := 1) hx hb dX8_isWider_98 (by decide) ?_
          refine lv_goto (tgt := 103) hx hb dX8_isWider_99 (by decide) ?_
          exact zz_zret hC hZ (by decide) (⟨by rw [e69, fn_cm_isWider_69, if_pos c3, if_neg c4, if_pos c5], rfl⟩) (Nat.le_of_ble_eq_true rfl) (Nat.le_of_ble_eq_true rfl) dX8_isWider_103
        · exact J86 (by rw [e69, fn_cm_isWider_69, if_pos c3, if_neg c4, if_neg c5])
  have J53 : fn_cm_isWider k j = fn_cm_isWider_53 k j → W p l e rm_cm_isWider s m args below meth c H locs 0 0 (zz_QI below g args s A rm_cm_isWider.cells rm_cm_isWider.slots (po_cm_isWider g k j)) (F0 m 53 ls []) := by
    intro e53
    refine lv_iload_n hx hb dX8_isWider_53 rfl (lv_at hl 0 rfl) ?_
    refine lv_iconst (v := 4) hx hb dX8_isWider_54 (by decide) ?_
    refine lv_icmp_ne (tgt := 69) hx hb dX8_isWider_55 (by decide) (fun c6 => ?_) (fun c6 => ?_)
    · exact J69 (by rw [e53, fn_cm_isWider_53, if_neg c6])
    · refine lv_iload_n hx hb dX8_isWider_58 rfl (lv_at hl 1 rfl) ?_
      refine lv_iconst (v := 5) hx hb dX8_isWider_59 (by decide) ?_
      refine lv_icmp_lt (tgt := 69) hx hb dX8_isWider_60 (by decide) (fun c7 => ?_) (fun c7 => ?_)
      · exact J69 (by rw [e53, fn_cm_isWider_53, if_pos c6, if_pos c7])
      · refine lv_iload_n hx hb dX8_isWider_63 rfl (lv_at hl 1 rfl) ?_
        refine lv_bipush (v := 7) hx hb dX8_isWider_64 (by decide) ?_
        refine lv_icmp_le (tgt := 98) hx hb dX8_isWider_66 (by decide) (fun c8 => ?_) (fun c8 => ?_)
        · refine lv_iconst (v := 1) hx hb dX8_isWider_98 (by decide) ?_
          refine lv_goto (tgt := 103) hx hb dX8_isWider_99 (by decide) ?_
          exact zz_zret hC hZ (by decide) (⟨by rw [e53, fn_cm_isWider_53, if_pos c6, if_neg c7, if_pos c8], rfl⟩) (Nat.le_of_ble_eq_true rfl) (Nat.le_of_ble_eq_true rfl) dX8_isWider_103
        · exact J69 (by rw [e53, fn_cm_isWider_53, if_pos c6, if_neg c7, if_neg c8])
  have J37 : fn_cm_isWider k j = fn_cm_isWider_37 k j → W p l e rm_cm_isWider s m args below meth c H locs 0 0 (zz_QI below g args s A rm_cm_isWider.cells rm_cm_isWider.slots (po_cm_isWider g k j)) (F0 m 37 ls []) := by
    intro e37
    refine lv_iload_n hx hb dX8_isWider_37 rfl (lv_at hl 0 rfl) ?_
    refine lv_iconst (v := 3) hx hb dX8_isWider_38 (by decide) ?_
    refine lv_icmp_ne (tgt := 53) hx hb dX8_isWider_39 (by decide) (fun c9 => ?_) (fun c9 => ?_)
    · exact J53 (by rw [e37, fn_cm_isWider_37, if_neg c9])
    · refine lv_iload_n hx hb dX8_isWider_42 rfl (lv_at hl 1 rfl) ?_
      refine lv_iconst (v := 4) hx hb dX8_isWider_43 (by decide) ?_
      refine lv_icmp_lt (tgt := 53) hx hb dX8_isWider_44 (by decide) (fun c10 => ?_) (fun c10 => ?_)
      · exact J53 (by rw [e37, fn_cm_isWider_37, if_pos c9, if_pos c10])
      · refine lv_iload_n hx hb dX8_isWider_47 rfl (lv_at hl 1 rfl) ?_
        refine lv_bipush (v := 7) hx hb dX8_isWider_48 (by decide) ?_
        refine lv_icmp_le (tgt := 98) hx hb dX8_isWider_50 (by decide) (fun c11 => ?_) (fun c11 => ?_)
        · refine lv_iconst (v := 1) hx hb dX8_isWider_98 (by decide) ?_
          refine lv_goto (tgt := 103) hx hb dX8_isWider_99 (by decide) ?_
          exact zz_zret hC hZ (by decide) (⟨by rw [e37, fn_cm_isWider_37, if_pos c9, if_neg c10, if_pos c11], rfl⟩) (Nat.le_of_ble_eq_true rfl) (Nat.le_of_ble_eq_true rfl) dX8_isWider_103
        · exact J53 (by rw [e37, fn_cm_isWider_37, if_pos c9, if_neg c10, if_neg c11])
  have J21 : fn_cm_isWider k j = fn_cm_isWider_21 k j → W p l e rm_cm_isWider s m args below meth c H locs 0 0 (zz_QI below g args s A rm_cm_isWider.cells rm_cm_isWider.slots (po_cm_isWider g k j)) (F0 m 21 ls []) := by
    intro e21
    refine lv_iload_n hx hb dX8_isWider_21 rfl (lv_at hl 0 rfl) ?_
    refine lv_iconst (v := 2) hx hb dX8_isWider_22 (by decide) ?_
    refine lv_icmp_ne (tgt := 37) hx hb dX8_isWider_23 (by decide) (fun c12 => ?_) (fun c12 => ?_)
    · exact J37 (by rw [e21, fn_cm_isWider_21, if_neg c12])
    · refine lv_iload_n hx hb dX8_isWider_26 rfl (lv_at hl 1 rfl) ?_
      refine lv_iconst (v := 3) hx hb dX8_isWider_27 (by decide) ?_
      refine lv_icmp_lt (tgt := 37) hx hb dX8_isWider_28 (by decide) (fun c13 => ?_) (fun c13 => ?_)
      · exact J37 (by rw [e21, fn_cm_isWider_21, if_pos c12, if_pos c13])
      · refine lv_iload_n hx hb dX8_isWider_31 rfl (lv_at hl 1 rfl) ?_
        refine lv_bipush (v := 7) hx hb dX8_isWider_32 (by decide) ?_
        refine lv_icmp_le (tgt := 98) hx hb dX8_isWider_34 (by decide) (fun c14 => ?_) (fun c14 => ?_)
        · refine lv_iconst (v := 1) hx hb dX8_isWider_98 (by decide) ?_
          refine lv_goto (tgt := 103) hx hb dX8_isWider_99 (by decide) ?_
          exact zz_zret hC hZ (by decide) (⟨by rw [e21, fn_cm_isWider_21, if_pos c12, if_neg c13, if_pos c14], rfl⟩) (Nat.le_of_ble_eq_true rfl) (Nat.le_of_ble_eq_true rfl) dX8_isWider_103
        · exact J37 (by rw [e21, fn_cm_isWider_21, if_pos c12, if_neg c13, if_neg c14])
  refine lv_iload_n hx hb dX8_isWider_0 rfl (lv_at hl 0 rfl) ?_
  refine lv_iload_n hx hb dX8_isWider_1 rfl (lv_at hl 1 rfl) ?_
  refine lv_icmp_eq (tgt := 98) hx hb dX8_isWider_2 (by decide) (fun c15 => ?_) (fun c15 => ?_)
  · refine lv_iconst (v := 1) hx hb dX8_isWider_98 (by decide) ?_
    refine lv_goto (tgt := 103) hx hb dX8_isWider_99 (by decide) ?_
    exact zz_zret hC hZ (by decide) (⟨by rw [fn_cm_isWider, if_pos c15], rfl⟩) (Nat.le_of_ble_eq_true rfl) (Nat.le_of_ble_eq_true rfl) dX8_isWider_103
  · refine lv_iload_n hx hb dX8_isWider_5 rfl (lv_at hl 0 rfl) ?_
    refine lv_iconst (v := 1) hx hb dX8_isWider_6 (by decide) ?_
    refine lv_icmp_ne (tgt := 21) hx hb dX8_isWider_7 (by decide) (fun c16 => ?_) (fun c16 => ?_)
    · exact J21 (by rw [fn_cm_isWider, if_neg c15, if_neg c16])
    · refine lv_iload_n hx hb dX8_isWider_10 rfl (lv_at hl 1 rfl) ?_
      refine lv_iconst (v := 4) hx hb dX8_isWider_11 (by decide) ?_
      refine lv_icmp_lt (tgt := 21) hx hb dX8_isWider_12 (by decide) (fun c17 => ?_) (fun c17 => ?_)
      · exact J21 (by rw [fn_cm_isWider, if_neg c15, if_pos c16, if_pos c17])
      · refine lv_iload_n hx hb dX8_isWider_15 rfl (lv_at hl 1 rfl) ?_
        refine lv_bipush (v := 7) hx hb dX8_isWider_16 (by decide) ?_
        refine lv_icmp_le (tgt := 98) hx hb dX8_isWider_18 (by decide) (fun c18 => ?_) (fun c18 => ?_)
        · refine lv_iconst (v := 1) hx hb dX8_isWider_98 (by decide) ?_
          refine lv_goto (tgt := 103) hx hb dX8_isWider_99 (by decide) ?_
          exact zz_zret hC hZ (by decide) (⟨by rw [fn_cm_isWider, if_neg c15, if_pos c16, if_neg c17, if_pos c18], rfl⟩) (Nat.le_of_ble_eq_true rfl) (Nat.le_of_ble_eq_true rfl) dX8_isWider_103
        · exact J21 (by rw [fn_cm_isWider, if_neg c15, if_pos c16, if_neg c17, if_neg c18])
theorem dX8_isRoom_0 : decode cX8_isRoom 0 = .ok (.aload_n 0, 1) := by decide +kernel
theorem dX8_isRoom_1 : decode cX8_isRoom 1 = .ok (.getfield 103, 3) := by decide +kernel
theorem zk_735 : Cond.fieldLink RX8 103 RX8 "arrays" "I" ∈ zz_w := zz_in (List.mem_append_right _ (List.mem_append_right _ (List.mem_append_right _ (List.mem_append_right _ (List.mem_append_left _ (List.mem_of_getElem? (i := 15) (by decide +kernel))))))) rfl
theorem zf_X8_103 : zz_f RX8 103 7 0 := ⟨RX8, TX8, 37, rfl, zi_X8, by decide, zk_735⟩
theorem dX8_isRoom_4 : decode cX8_isRoom 4 = .ok (.iload_n 1, 1) := by decide +kernel
theorem dX8_isRoom_5 : decode cX8_isRoom 5 = .ok (.iadd, 1) := by decide +kernel
theorem dX8_isRoom_6 : decode cX8_isRoom 6 = .ok (.bipush 60, 2) := by decide +kernel
theorem dX8_isRoom_8 : decode cX8_isRoom 8 = .ok (.if_icmp .gt 21, 3) := by decide +kernel
theorem dX8_isRoom_29 : decode cX8_isRoom 29 = .ok (.iconst 0, 1) := by decide +kernel
theorem dX8_isRoom_30 : decode cX8_isRoom 30 = .ok (.ireturn, 1) := by decide +kernel
theorem dX8_isRoom_11 : decode cX8_isRoom 11 = .ok (.aload_n 0, 1) := by decide +kernel
theorem dX8_isRoom_12 : decode cX8_isRoom 12 = .ok (.getfield 186, 3) := by decide +kernel
theorem zk_736 : Cond.fieldLink RX8 186 RX8 "elements" "I" ∈ zz_w := zz_in (List.mem_append_right _ (List.mem_append_right _ (List.mem_append_right _ (List.mem_append_right _ (List.mem_append_left _ (List.mem_of_getElem? (i := 16) (by decide +kernel))))))) rfl
theorem zf_X8_186 : zz_f RX8 186 7 1 := ⟨RX8, TX8, 37, rfl, zi_X8, by decide, zk_736⟩
theorem dX8_isRoom_15 : decode cX8_isRoom 15 = .ok (.i2l, 1) := by decide +kernel
theorem dX8_isRoom_16 : decode cX8_isRoom 16 = .ok (.lload_n 2, 1) := by decide +kernel
theorem dX8_isRoom_17 : decode cX8_isRoom 17 = .ok (.ladd, 1) := by decide +kernel
theorem dX8_isRoom_18 : decode cX8_isRoom 18 = .ok (.ldc2_w 189, 3) := by decide +kernel
theorem zk_878 : Cond.constantLong RX8 189 (4000) ∈ zz_w := zz_in (List.mem_append_right _ (List.mem_append_right _ (List.mem_append_right _ (List.mem_append_right _ (List.mem_append_left _ (List.mem_of_getElem? (i := 158) (by decide +kernel))))))) rfl
theorem dX8_isRoom_21 : decode cX8_isRoom 21 = .ok (.lcmp, 1) := by decide +kernel
theorem dX8_isRoom_22 : decode cX8_isRoom 22 = .ok (.ifCond .gt 7, 3) := by decide +kernel
theorem dX8_isRoom_25 : decode cX8_isRoom 25 = .ok (.iconst 1, 1) := by decide +kernel
theorem dX8_isRoom_26 : decode cX8_isRoom 26 = .ok (.goto 4, 3) := by decide +kernel
def fn_cm_isRoom (i_arrays : Int32) (i_elements : Int32) (k : Int32) (n : Int64) : Int32 := (if 60 < (i_arrays + k) then 0 else (if 4000 < (i_elements.toInt64 + n) then 0 else 1))
abbrev rm_cm_isRoom : Room := { frames := 0, cells := 0, slots := 0, locals := 0 }
abbrev po_cm_isRoom (g : zz_G) (h0 : Nat) (a_kindOf : Nat) (a_depthOf : Nat) (a_lengthOf : Nat) (a_classOf : Nat) (a_baseOf : Nat) (a_bits : Nat) (a_pinned : Nat) (a_lengths : Nat) (a_stackArray : Nat) (a_stackOther : Nat) (a_stackAt : Nat) (a_path : Nat) (a_held : Nat) (a_alike : Nat) (a_hashes : Nat) (a_decisionArray : Nat) (a_decisionPlace : Nat) (a_candidateMany : Nat) (a_candidates : Nat) (a_ruleSort : Nat) (a_ruleArray : Nat) (a_ruleWeight : Nat) (a_ruleLow : Nat) (a_ruleHigh : Nat) (a_chosen : Nat) (a_bestOf : Nat) (a_markElements : Nat) (a_markBits : Nat) (a_markPins : Nat) (i_arrays : Int32) (i_elements : Int32) (i_code : Int32) (i_lastArray : Int32) (i_lastPlace : Int32) (i_decisions : Int32) (i_rules : Int32) (i_marks : Int32) (k : Int32) (n : Int64) : Int32 → va_W → Prop := fun (r : Int32) (u : va_W) => r = fn_cm_isRoom i_arrays i_elements k n ∧ u = [(h0, .inr (7, [.int i_arrays, .int i_elements, .ref a_kindOf, .ref a_depthOf, .ref a_lengthOf, .ref a_classOf, .ref a_baseOf, .ref a_bits, .ref a_pinned, .int i_code, .ref a_lengths, .ref a_stackArray, .ref a_stackOther, .ref a_stackAt, .int i_lastArray, .int i_lastPlace, .ref a_path, .ref a_held, .ref a_alike, .ref a_hashes, .int i_decisions, .ref a_decisionArray, .ref a_decisionPlace, .ref a_candidateMany, .ref a_candidates, .int i_rules, .ref a_ruleSort, .ref a_ruleArray, .ref a_ruleWeight, .ref a_ruleLow, .ref a_ruleHigh, .ref a_chosen, .ref a_bestOf, .int i_marks, .ref a_markElements, .ref a_markBits, .ref a_markPins]))]
set_option maxHeartbeats 4000000 in
set_option maxRecDepth 100000 in
theorem cm_isRoom (g : zz_G) (h0 : Nat) (a_kindOf : Nat) (a_depthOf : Nat) (a_lengthOf : Nat) (a_classOf : Nat) (a_baseOf : Nat) (a_bits : Nat) (a_pinned : Nat) (a_lengths : Nat) (a_stackArray : Nat) (a_stackOther : Nat) (a_stackAt : Nat) (a_path : Nat) (a_held : Nat) (a_alike : Nat) (a_hashes : Nat) (a_decisionArray : Nat) (a_decisionPlace : Nat) (a_candidateMany : Nat) (a_candidates : Nat) (a_ruleSort : Nat) (a_ruleArray : Nat) (a_ruleWeight : Nat) (a_ruleLow : Nat) (a_ruleHigh : Nat) (a_chosen : Nat) (a_bestOf : Nat) (a_markElements : Nat) (a_markBits : Nat) (a_markPins : Nat) (i_arrays : Int32) (i_elements : Int32) (i_code : Int32) (i_lastArray : Int32) (i_lastPlace : Int32) (i_decisions : Int32) (i_rules : Int32) (i_marks : Int32) (k : Int32) (n : Int64) : zz_I g yX8_isRoom (.code yX8_isRoom cX8_isRoom 4 (some .boolean)) rm_cm_isRoom [.ref h0, .int k, .long n] [(h0, .inr (7, [.int i_arrays, .int i_elements, .ref a_kindOf, .ref a_depthOf, .ref a_lengthOf, .ref a_classOf, .ref a_baseOf, .ref a_bits, .ref a_pinned, .int i_code, .ref a_lengths, .ref a_stackArray, .ref a_stackOther, .ref a_stackAt, .int i_lastArray, .int i_lastPlace, .ref a_path, .ref a_held, .ref a_alike, .ref a_hashes, .int i_decisions, .ref a_decisionArray, .ref a_decisionPlace, .ref a_candidateMany, .ref a_candidates, .int i_rules, .ref a_ruleSort, .ref a_ruleArray, .ref a_ruleWeight, .ref a_ruleLow, .ref a_ruleHigh, .ref a_chosen, .ref a_bestOf, .int i_marks, .ref a_markElements, .ref a_markBits, .ref a_markPins]))] (po_cm_isRoom g h0 a_kindOf a_depthOf a_lengthOf a_classOf a_baseOf a_bits a_pinned a_lengths a_stackArray a_stackOther a_stackAt a_path a_held a_alike a_hashes a_decisionArray a_decisionPlace a_candidateMany a_candidates a_ruleSort a_ruleArray a_ruleWeight a_ruleLow a_ruleHigh a_chosen a_bestOf a_markElements a_markBits a_markPins i_arrays i_elements i_code i_lastArray i_lastPlace i_decisions i_rules i_marks k n) := by
  refine zz_I.intro (own := RX8) (cc := cX8_isRoom) (nL := 4) (by decide) rfl (Nat.le_of_ble_eq_true rfl) ?_
  intro p l e s m args below meth c A H locs ls hC hnm hZ hl
  obtain ⟨hx, hb, hml, hown, hts, hr, hlocks, hK⟩ := id hC
  have hl : lv_has ls 4 [(0, .ref h0), (1, .int k), (2, .long n)] := hl
  have hZ : zz_Z g A s.heap [(h0, .inr (7, [.int i_arrays, .int i_elements, .ref a_kindOf, .ref a_depthOf, .ref a_lengthOf, .ref a_classOf, .ref a_baseOf, .ref a_bits, .ref a_pinned, .int i_code, .ref a_lengths, .ref a_stackArray, .ref a_stackOther, .ref a_stackAt, .int i_lastArray, .int i_lastPlace, .ref a_path, .ref a_held, .ref a_alike, .ref a_hashes, .int i_decisions, .ref a_decisionArray, .ref a_decisionPlace, .ref a_candidateMany, .ref a_candidates, .int i_rules, .ref a_ruleSort, .ref a_ruleArray, .ref a_ruleWeight, .ref a_ruleLow, .ref a_ruleHigh, .ref a_chosen, .ref a_bestOf, .int i_marks, .ref a_markElements, .ref a_markBits, .ref a_markPins]))] H locs := hZ
  refine lv_aload_n hx hb dX8_isRoom_0 rfl (lv_at hl 0 rfl) ?_
  refine zz_get hC hZ 0 rfl zf_X8_103 rfl dX8_isRoom_1 ?_
  refine lv_iload_n hx hb dX8_isRoom_4 rfl (lv_at hl 1 rfl) ?_
  refine lv_iadd hx hb dX8_isRoom_5 ?_
  refine lv_bipush (v := 60) hx hb dX8_isRoom_6 (by decide) ?_
  refine lv_icmp_gt (tgt := 29) hx hb dX8_isRoom_8 (by decide) (fun c1 => ?_) (fun c1 => ?_)
  · refine lv_iconst (v := 0) hx hb dX8_isRoom_29 (by decide) ?_
    exact zz_zret hC hZ (by decide) (⟨by rw [fn_cm_isRoom, if_pos c1], rfl⟩) (Nat.le_of_ble_eq_true rfl) (Nat.le_of_ble_eq_true rfl) dX8_isRoom_30
  · refine lv_aload_n hx hb dX8_isRoom_11 rfl (lv_at hl 0 rfl) ?_
    refine zz_get hC hZ 0 rfl zf_X8_186 rfl dX8_isRoom_12 ?_
    refine lv_i2l hx hb dX8_isRoom_15 rfl ?_
    refine lv_lload_n hx hb dX8_isRoom_16 rfl (lv_at hl 2 rfl) ?_
    refine lv_ladd hx hb dX8_isRoom_17 ?_
    refine lv_ldc2 hx hb hown (hts _ zk_878) dX8_isRoom_18 ?_
    refine zz_lcmp_gt (tgt := 29) hC dX8_isRoom_21 dX8_isRoom_22 (by decide) (fun c2 => ?_) (fun c2 => ?_)
    · refine lv_iconst (v := 0) hx hb dX8_isRoom_29 (by decide) ?_
      exact zz_zret hC hZ (by decide) (⟨by rw [fn_cm_isRoom, if_neg c1, if_pos c2], rfl⟩) (Nat.le_of_ble_eq_true rfl) (Nat.le_of_ble_eq_true rfl) dX8_isRoom_30
    · refine lv_iconst (v := 1) hx hb dX8_isRoom_25 (by decide) ?_
      refine lv_goto (tgt := 30) hx hb dX8_isRoom_26 (by decide) ?_
      exact zz_zret hC hZ (by decide) (⟨by rw [fn_cm_isRoom, if_neg c1, if_neg c2], rfl⟩) (Nat.le_of_ble_eq_true rfl) (Nat.le_of_ble_eq_true rfl) dX8_isRoom_30
theorem zl_b01 {x : Int32} (h : x = 0 ∨ x = 1) : narrow .boolean (.int x) = .int x := by
  rcases h with rfl | rfl <;> rfl
theorem zl_within01 (v lo hi : Int64) : fn_cm_within v lo hi = 0 ∨ fn_cm_within v lo hi = 1 := by
  unfold fn_cm_within; split
  · exact Or.inl rfl
  · split
    · exact Or.inl rfl
    · exact Or.inr rfl
theorem zl_none (v : Int64) : fn_cm_within v 0 (-1) = 0 := by
  unfold fn_cm_within
  split
  · rfl
  · rename_i h
    rw [if_pos]
    rw [Int64.lt_iff_toInt_lt] at h ⊢
    have e0 : (0 : Int64).toInt = 0 := by decide
    have e1 : (-1 : Int64).toInt = -1 := by decide
    omega
theorem dX8_isArray_0 : decode cX8_isArray 0 = .ok (.iload_n 1, 1) := by decide +kernel
theorem dX8_isArray_1 : decode cX8_isArray 1 = .ok (.i2l, 1) := by decide +kernel
theorem dX8_isArray_2 : decode cX8_isArray 2 = .ok (.lconst 0, 1) := by decide +kernel
theorem dX8_isArray_3 : decode cX8_isArray 3 = .ok (.aload_n 0, 1) := by decide +kernel
theorem dX8_isArray_4 : decode cX8_isArray 4 = .ok (.getfield 103, 3) := by decide +kernel
theorem dX8_isArray_7 : decode cX8_isArray 7 = .ok (.iconst 1, 1) := by decide +kernel
theorem dX8_isArray_8 : decode cX8_isArray 8 = .ok (.isub, 1) := by decide +kernel
theorem dX8_isArray_9 : decode cX8_isArray 9 = .ok (.i2l, 1) := by decide +kernel
theorem dX8_isArray_10 : decode cX8_isArray 10 = .ok (.invokestatic 106, 3) := by decide +kernel
theorem zk_852 : Cond.methodLink RX8 106 yX8_within ∈ zz_w := zz_in (List.mem_append_right _ (List.mem_append_right _ (List.mem_append_right _ (List.mem_append_right _ (List.mem_append_left _ (List.mem_of_getElem? (i := 132) (by decide +kernel))))))) rfl
set_option maxRecDepth 20000 in
theorem zk_854 : Cond.code yX8_within cX8_within 6 (some .boolean) ∈ zz_w := zz_in (List.mem_append_right _ (List.mem_append_right _ (List.mem_append_right _ (List.mem_append_right _ (List.mem_append_left _ (List.mem_of_getElem? (i := 134) (rfl))))))) rfl
theorem zk_7 : Cond.initialized RX8 ∈ zz_w := zz_in (List.mem_append_right _ (List.mem_append_left _ (List.mem_of_getElem? (i := 7) (by decide +kernel)))) rfl
theorem zk_853 : Cond.static yX8_within ∈ zz_w := zz_in (List.mem_append_right _ (List.mem_append_right _ (List.mem_append_right _ (List.mem_append_right _ (List.mem_append_left _ (List.mem_of_getElem? (i := 133) (by decide +kernel))))))) rfl
theorem zc_X8_106 : zz_cS RX8 106 yX8_within cX8_within 6 (some .boolean) 3 := ⟨⟨zk_852, zk_854, zk_7, by decide, by decide, by decide +kernel⟩, zk_853⟩
theorem dX8_isArray_13 : decode cX8_isArray 13 = .ok (.ireturn, 1) := by decide +kernel
abbrev rm_cm_isArray0 : Room := { frames := 1, cells := 0, slots := 0, locals := 25 }
abbrev po_cm_isArray0 (g : zz_G) (h0 : Nat) (a_kindOf : Nat) (a_depthOf : Nat) (a_lengthOf : Nat) (a_classOf : Nat) (a_baseOf : Nat) (a_bits : Nat) (a_pinned : Nat) (a_lengths : Nat) (a_stackArray : Nat) (a_stackOther : Nat) (a_stackAt : Nat) (a_path : Nat) (a_held : Nat) (a_alike : Nat) (a_hashes : Nat) (a_decisionArray : Nat) (a_decisionPlace : Nat) (a_candidateMany : Nat) (a_candidates : Nat) (a_ruleSort : Nat) (a_ruleArray : Nat) (a_ruleWeight : Nat) (a_ruleLow : Nat) (a_ruleHigh : Nat) (a_chosen : Nat) (a_bestOf : Nat) (a_markElements : Nat) (a_markBits : Nat) (a_markPins : Nat) (i_elements : Int32) (i_code : Int32) (i_lastArray : Int32) (i_lastPlace : Int32) (i_decisions : Int32) (i_rules : Int32) (i_marks : Int32) (k : Int32) : Int32 → va_W → Prop := fun (r : Int32) (u : va_W) => r = 0 ∧ u = [(h0, .inr (7, [.int 0, .int i_elements, .ref a_kindOf, .ref a_depthOf, .ref a_lengthOf, .ref a_classOf, .ref a_baseOf, .ref a_bits, .ref a_pinned, .int i_code, .ref a_lengths, .ref a_stackArray, .ref a_stackOther, .ref a_stackAt, .int i_lastArray, .int i_lastPlace, .ref a_path, .ref a_held, .ref a_alike, .ref a_hashes, .int i_decisions, .ref a_decisionArray, .ref a_decisionPlace, .ref a_candidateMany, .ref a_candidates, .int i_rules, .ref a_ruleSort, .ref a_ruleArray, .ref a_ruleWeight, .ref a_ruleLow, .ref a_ruleHigh, .ref a_chosen, .ref a_bestOf, .int i_marks, .ref a_markElements, .ref a_markBits, .ref a_markPins]))]
set_option maxHeartbeats 4000000 in
set_option maxRecDepth 100000 in
theorem cm_isArray0 (g : zz_G) (h0 : Nat) (a_kindOf : Nat) (a_depthOf : Nat) (a_lengthOf : Nat) (a_classOf : Nat) (a_baseOf : Nat) (a_bits : Nat) (a_pinned : Nat) (a_lengths : Nat) (a_stackArray : Nat) (a_stackOther : Nat) (a_stackAt : Nat) (a_path : Nat) (a_held : Nat) (a_alike : Nat) (a_hashes : Nat) (a_decisionArray : Nat) (a_decisionPlace : Nat) (a_candidateMany : Nat) (a_candidates : Nat) (a_ruleSort : Nat) (a_ruleArray : Nat) (a_ruleWeight : Nat) (a_ruleLow : Nat) (a_ruleHigh : Nat) (a_chosen : Nat) (a_bestOf : Nat) (a_markElements : Nat) (a_markBits : Nat) (a_markPins : Nat) (i_elements : Int32) (i_code : Int32) (i_lastArray : Int32) (i_lastPlace : Int32) (i_decisions : Int32) (i_rules : Int32) (i_marks : Int32) (k : Int32) : zz_I g yX8_isArray (.code yX8_isArray cX8_isArray 2 (some .boolean)) rm_cm_isArray0 [.ref h0, .int k] [(h0, .inr (7, [.int 0, .int i_elements, .ref a_kindOf, .ref a_depthOf, .ref a_lengthOf, .ref a_classOf, .ref a_baseOf, .ref a_bits, .ref a_pinned, .int i_code, .ref a_lengths, .ref a_stackArray, .ref a_stackOther, .ref a_stackAt, .int i_lastArray, .int i_lastPlace, .ref a_path, .ref a_held, .ref a_alike, .ref a_hashes, .int i_decisions, .ref a_decisionArray, .ref a_decisionPlace, .ref a_candidateMany, .ref a_candidates, .int i_rules, .ref a_ruleSort, .ref a_ruleArray, .ref a_ruleWeight, .ref a_ruleLow, .ref a_ruleHigh, .ref a_chosen, .ref a_bestOf, .int i_marks, .ref a_markElements, .ref a_markBits, .ref a_markPins]))] (po_cm_isArray0 g h0 a_kindOf a_depthOf a_lengthOf a_classOf a_baseOf a_bits a_pinned a_lengths a_stackArray a_stackOther a_stackAt a_path a_held a_alike a_hashes a_decisionArray a_decisionPlace a_candidateMany a_candidates a_ruleSort a_ruleArray a_ruleWeight a_ruleLow a_ruleHigh a_chosen a_bestOf a_markElements a_markBits a_markPins i_elements i_code i_lastArray i_lastPlace i_decisions i_rules i_marks k) := by
  refine zz_I.intro (own := RX8) (cc := cX8_isArray) (nL := 2) (by decide) rfl (Nat.le_of_ble_eq_true rfl) ?_
  intro p l e s m args below meth c A H locs ls hC hnm hZ hl
  obtain ⟨hx, hb, hml, hown, hts, hr, hlocks, hK⟩ := id hC
  have hl : lv_has ls 2 [(0, .ref h0), (1, .int k)] := hl
  have hZ : zz_Z g A s.heap [(h0, .inr (7, [.int 0, .int i_elements, .ref a_kindOf, .ref a_depthOf, .ref a_lengthOf, .ref a_classOf, .ref a_baseOf, .ref a_bits, .ref a_pinned, .int i_code, .ref a_lengths, .ref a_stackArray, .ref a_stackOther, .ref a_stackAt, .int i_lastArray, .int i_lastPlace, .ref a_path, .ref a_held, .ref a_alike, .ref a_hashes, .int i_decisions, .ref a_decisionArray, .ref a_decisionPlace, .ref a_candidateMany, .ref a_candidates, .int i_rules, .ref a_ruleSort, .ref a_ruleArray, .ref a_ruleWeight, .ref a_ruleLow, .ref a_ruleHigh, .ref a_chosen, .ref a_bestOf, .int i_marks, .ref a_markElements, .ref a_markBits, .ref a_markPins]))] H locs := hZ
  refine lv_iload_n hx hb dX8_isArray_0 rfl (lv_at hl 1 rfl) ?_
  refine lv_i2l hx hb dX8_isArray_1 rfl ?_
  refine lv_lconst (v := 0) hx hb dX8_isArray_2 (by decide) ?_
  refine lv_aload_n hx hb dX8_isArray_3 rfl (lv_at hl 0 rfl) ?_
  refine zz_get hC hZ 0 rfl zf_X8_103 rfl dX8_isArray_4 ?_
  refine lv_iconst (v := 1) hx hb dX8_isArray_7 (by decide) ?_
  refine lv_isub hx hb dX8_isArray_8 ?_
  refine zz_topi (v := -1) (by decide) ?_
  refine lv_i2l (v := -1) hx hb dX8_isArray_9 (by decide) ?_
  refine zz_iS (As := [.long k.toInt64, .long 0, .long (-1)]) (wc := []) (wr := [(h0, .inr (7, [.int 0, .int i_elements, .ref a_kindOf, .ref a_depthOf, .ref a_lengthOf, .ref a_classOf, .ref a_baseOf, .ref a_bits, .ref a_pinned, .int i_code, .ref a_lengths, .ref a_stackArray, .ref a_stackOther, .ref a_stackAt, .int i_lastArray, .int i_lastPlace, .ref a_path, .ref a_held, .ref a_alike, .ref a_hashes, .int i_decisions, .ref a_decisionArray, .ref a_decisionPlace, .ref a_candidateMany, .ref a_candidates, .int i_rules, .ref a_ruleSort, .ref a_ruleArray, .ref a_ruleWeight, .ref a_ruleLow, .ref a_ruleHigh, .ref a_chosen, .ref a_bestOf, .int i_marks, .ref a_markElements, .ref a_markBits, .ref a_markPins]))]) (rest := []) hC hZ hl zc_X8_106 (cm_within g k.toInt64 0 (-1)) [] [0] rfl rfl (by decide) rfl rfl (Nat.le_of_ble_eq_true rfl) ⟨⟨Nat.le_of_ble_eq_true rfl, Nat.le_of_ble_eq_true rfl⟩, Nat.le_of_ble_eq_true rfl, Nat.le_of_ble_eq_true rfl⟩ dX8_isArray_10 (fun r1 u2 H locs hp hZ => ?_)
  obtain ⟨rfl, rfl⟩ := hp
  have hZ : zz_Z g A s.heap [(h0, .inr (7, [.int 0, .int i_elements, .ref a_kindOf, .ref a_depthOf, .ref a_lengthOf, .ref a_classOf, .ref a_baseOf, .ref a_bits, .ref a_pinned, .int i_code, .ref a_lengths, .ref a_stackArray, .ref a_stackOther, .ref a_stackAt, .int i_lastArray, .int i_lastPlace, .ref a_path, .ref a_held, .ref a_alike, .ref a_hashes, .int i_decisions, .ref a_decisionArray, .ref a_decisionPlace, .ref a_candidateMany, .ref a_candidates, .int i_rules, .ref a_ruleSort, .ref a_ruleArray, .ref a_ruleWeight, .ref a_ruleLow, .ref a_ruleHigh, .ref a_chosen, .ref a_bestOf, .int i_marks, .ref a_markElements, .ref a_markBits, .ref a_markPins]))] H locs := hZ
  exact zz_zret hC hZ (zl_b01 (zl_within01 _ _ _)) (⟨zl_none _, rfl⟩) (Nat.le_of_ble_eq_true rfl) (Nat.le_of_ble_eq_true rfl) dX8_isArray_13
theorem dX8_isDecision_0 : decode cX8_isDecision 0 = .ok (.iload_n 1, 1) := by decide +kernel
theorem dX8_isDecision_1 : decode cX8_isDecision 1 = .ok (.i2l, 1) := by decide +kernel
theorem dX8_isDecision_2 : decode cX8_isDecision 2 = .ok (.lconst 0, 1) := by decide +kernel
theorem dX8_isDecision_3 : decode cX8_isDecision 3 = .ok (.aload_n 0, 1) := by decide +kernel
theorem dX8_isDecision_4 : decode cX8_isDecision 4 = .ok (.getfield 248, 3) := by decide +kernel
theorem zk_755 : Cond.fieldLink RX8 248 RX8 "decisions" "I" ∈ zz_w := zz_in (List.mem_append_right _ (List.mem_append_right _ (List.mem_append_right _ (List.mem_append_right _ (List.mem_append_left _ (List.mem_of_getElem? (i := 35) (by decide +kernel))))))) rfl
theorem zf_X8_248 : zz_f RX8 248 7 20 := ⟨RX8, TX8, 37, rfl, zi_X8, by decide, zk_755⟩
theorem dX8_isDecision_7 : decode cX8_isDecision 7 = .ok (.iconst 1, 1) := by decide +kernel
theorem dX8_isDecision_8 : decode cX8_isDecision 8 = .ok (.isub, 1) := by decide +kernel
theorem dX8_isDecision_9 : decode cX8_isDecision 9 = .ok (.i2l, 1) := by decide +kernel
theorem dX8_isDecision_10 : decode cX8_isDecision 10 = .ok (.invokestatic 106, 3) := by decide +kernel
theorem dX8_isDecision_13 : decode cX8_isDecision 13 = .ok (.ireturn, 1) := by decide +kernel
abbrev rm_cm_isDecision0 : Room := { frames := 1, cells := 0, slots := 0, locals := 25 }
abbrev po_cm_isDecision0 (g : zz_G) (h0 : Nat) (a_kindOf : Nat) (a_depthOf : Nat) (a_lengthOf : Nat) (a_classOf : Nat) (a_baseOf : Nat) (a_bits : Nat) (a_pinned : Nat) (a_lengths : Nat) (a_stackArray : Nat) (a_stackOther : Nat) (a_stackAt : Nat) (a_path : Nat) (a_held : Nat) (a_alike : Nat) (a_hashes : Nat) (a_decisionArray : Nat) (a_decisionPlace : Nat) (a_candidateMany : Nat) (a_candidates : Nat) (a_ruleSort : Nat) (a_ruleArray : Nat) (a_ruleWeight : Nat) (a_ruleLow : Nat) (a_ruleHigh : Nat) (a_chosen : Nat) (a_bestOf : Nat) (a_markElements : Nat) (a_markBits : Nat) (a_markPins : Nat) (i_arrays : Int32) (i_elements : Int32) (i_code : Int32) (i_lastArray : Int32) (i_lastPlace : Int32) (i_rules : Int32) (i_marks : Int32) (k : Int32) : Int32 → va_W → Prop := fun (r : Int32) (u : va_W) => r = 0 ∧ u = [(h0, .inr (7, [.int i_arrays, .int i_elements, .ref a_kindOf, .ref a_depthOf, .ref a_lengthOf, .ref a_classOf, .ref a_baseOf, .ref a_bits, .ref a_pinned, .int i_code, .ref a_lengths, .ref a_stackArray, .ref a_stackOther, .ref a_stackAt, .int i_lastArray, .int i_lastPlace, .ref a_path, .ref a_held, .ref a_alike, .ref a_hashes, .int 0, .ref a_decisionArray, .ref a_decisionPlace, .ref a_candidateMany, .ref a_candidates, .int i_rules, .ref a_ruleSort, .ref a_ruleArray, .ref a_ruleWeight, .ref a_ruleLow, .ref a_ruleHigh, .ref a_chosen, .ref a_bestOf, .int i_marks, .ref a_markElements, .ref a_markBits, .ref a_markPins]))]
set_option maxHeartbeats 4000000 in
set_option maxRecDepth 100000 in
theorem cm_isDecision0 (g : zz_G) (h0 : Nat) (a_kindOf : Nat) (a_depthOf : Nat) (a_lengthOf : Nat) (a_classOf : Nat) (a_baseOf : Nat) (a_bits : Nat) (a_pinned : Nat) (a_lengths : Nat) (a_stackArray : Nat) (a_stackOther : Nat) (a_stackAt : Nat) (a_path : Nat) (a_held : Nat) (a_alike : Nat) (a_hashes : Nat) (a_decisionArray : Nat) (a_decisionPlace : Nat) (a_candidateMany : Nat) (a_candidates : Nat) (a_ruleSort : Nat) (a_ruleArray : Nat) (a_ruleWeight : Nat) (a_ruleLow : Nat) (a_ruleHigh : Nat) (a_chosen : Nat) (a_bestOf : Nat) (a_markElements : Nat) (a_markBits : Nat) (a_markPins : Nat) (i_arrays : Int32) (i_elements : Int32) (i_code : Int32) (i_lastArray : Int32) (i_lastPlace : Int32) (i_rules : Int32) (i_marks : Int32) (k : Int32) : zz_I g yX8_isDecision (.code yX8_isDecision cX8_isDecision 2 (some .boolean)) rm_cm_isDecision0 [.ref h0, .int k] [(h0, .inr (7, [.int i_arrays, .int i_elements, .ref a_kindOf, .ref a_depthOf, .ref a_lengthOf, .ref a_classOf, .ref a_baseOf, .ref a_bits, .ref a_pinned, .int i_code, .ref a_lengths, .ref a_stackArray, .ref a_stackOther, .ref a_stackAt, .int i_lastArray, .int i_lastPlace, .ref a_path, .ref a_held, .ref a_alike, .ref a_hashes, .int 0, .ref a_decisionArray, .ref a_decisionPlace, .ref a_candidateMany, .ref a_candidates, .int i_rules, .ref a_ruleSort, .ref a_ruleArray, .ref a_ruleWeight, .ref a_ruleLow, .ref a_ruleHigh, .ref a_chosen, .ref a_bestOf, .int i_marks, .ref a_markElements, .ref a_markBits, .ref a_markPins]))] (po_cm_isDecision0 g h0 a_kindOf a_depthOf a_lengthOf a_classOf a_baseOf a_bits a_pinned a_lengths a_stackArray a_stackOther a_stackAt a_path a_held a_alike a_hashes a_decisionArray a_decisionPlace a_candidateMany a_candidates a_ruleSort a_ruleArray a_ruleWeight a_ruleLow a_ruleHigh a_chosen a_bestOf a_markElements a_markBits a_markPins i_arrays i_elements i_code i_lastArray i_lastPlace i_rules i_marks k) := by
  refine zz_I.intro (own := RX8) (cc := cX8_isDecision) (nL := 2) (by decide) rfl (Nat.le_of_ble_eq_true rfl) ?_
  intro p l e s m args below meth c A H locs ls hC hnm hZ hl
  obtain ⟨hx, hb, hml, hown, hts, hr, hlocks, hK⟩ := id hC
  have hl : lv_has ls 2 [(0, .ref h0), (1, .int k)] := hl
  have hZ : zz_Z g A s.heap [(h0, .inr (7, [.int i_arrays, .int i_elements, .ref a_kindOf, .ref a_depthOf, .ref a_lengthOf, .ref a_classOf, .ref a_baseOf, .ref a_bits, .ref a_pinned, .int i_code, .ref a_lengths, .ref a_stackArray, .ref a_stackOther, .ref a_stackAt, .int i_lastArray, .int i_lastPlace, .ref a_path, .ref a_held, .ref a_alike, .ref a_hashes, .int 0, .ref a_decisionArray, .ref a_decisionPlace, .ref a_candidateMany, .ref a_candidates, .int i_rules, .ref a_ruleSort, .ref a_ruleArray, .ref a_ruleWeight, .ref a_ruleLow, .ref a_ruleHigh, .ref a_chosen, .ref a_bestOf, .int i_marks, .ref a_markElements, .ref a_markBits, .ref a_markPins]))] H locs := hZ
  refine lv_iload_n hx hb dX8_isDecision_0 rfl (lv_at hl 1 rfl) ?_
  refine lv_i2l hx hb dX8_isDecision_1 rfl ?_
  refine lv_lconst (v := 0) hx hb dX8_isDecision_2 (by decide) ?_
  refine lv_aload_n hx hb dX8_isDecision_3 rfl (lv_at hl 0 rfl) ?_
  refine zz_get hC hZ 0 rfl zf_X8_248 rfl dX8_isDecision_4 ?_
  refine lv_iconst (v := 1) hx hb dX8_isDecision_7 (by decide) ?_
  refine lv_isub hx hb dX8_isDecision_8 ?_
  refine zz_topi (v := -1) (by decide) ?_
  refine lv_i2l (v := -1) hx hb dX8_isDecision_9 (by decide) ?_
  refine zz_iS (As := [.long k.toInt64, .long 0, .long (-1)]) (wc := []) (wr := [(h0, .inr (7, [.int i_arrays, .int i_elements, .ref a_kindOf, .ref a_depthOf, .ref a_lengthOf, .ref a_classOf, .ref a_baseOf, .ref a_bits, .ref a_pinned, .int i_code, .ref a_lengths, .ref a_stackArray, .ref a_stackOther, .ref a_stackAt, .int i_lastArray, .int i_lastPlace, .ref a_path, .ref a_held, .ref a_alike, .ref a_hashes, .int 0, .ref a_decisionArray, .ref a_decisionPlace, .ref a_candidateMany, .ref a_candidates, .int i_rules, .ref a_ruleSort, .ref a_ruleArray, .ref a_ruleWeight, .ref a_ruleLow, .ref a_ruleHigh, .ref a_chosen, .ref a_bestOf, .int i_marks, .ref a_markElements, .ref a_markBits, .ref a_markPins]))]) (rest := []) hC hZ hl zc_X8_106 (cm_within g k.toInt64 0 (-1)) [] [0] rfl rfl (by decide) rfl rfl (Nat.le_of_ble_eq_true rfl) ⟨⟨Nat.le_of_ble_eq_true rfl, Nat.le_of_ble_eq_true rfl⟩, Nat.le_of_ble_eq_true rfl, Nat.le_of_ble_eq_true rfl⟩ dX8_isDecision_10 (fun r1 u2 H locs hp hZ => ?_)
  obtain ⟨rfl, rfl⟩ := hp
  have hZ : zz_Z g A s.heap [(h0, .inr (7, [.int i_arrays, .int i_elements, .ref a_kindOf, .ref a_depthOf, .ref a_lengthOf, .ref a_classOf, .ref a_baseOf, .ref a_bits, .ref a_pinned, .int i_code, .ref a_lengths, .ref a_stackArray, .ref a_stackOther, .ref a_stackAt, .int i_lastArray, .int i_lastPlace, .ref a_path, .ref a_held, .ref a_alike, .ref a_hashes, .int 0, .ref a_decisionArray, .ref a_decisionPlace, .ref a_candidateMany, .ref a_candidates, .int i_rules, .ref a_ruleSort, .ref a_ruleArray, .ref a_ruleWeight, .ref a_ruleLow, .ref a_ruleHigh, .ref a_chosen, .ref a_bestOf, .int i_marks, .ref a_markElements, .ref a_markBits, .ref a_markPins]))] H locs := hZ
  exact zz_zret hC hZ (zl_b01 (zl_within01 _ _ _)) (⟨zl_none _, rfl⟩) (Nat.le_of_ble_eq_true rfl) (Nat.le_of_ble_eq_true rfl) dX8_isDecision_13
theorem dX6_has_0 : decode cX6_has 0 = .ok (.iload_n 1, 1) := by decide +kernel
theorem dX6_has_1 : decode cX6_has 1 = .ok (.ifCond .lt 15, 3) := by decide +kernel
theorem dX6_has_16 : decode cX6_has 16 = .ok (.iconst 0, 1) := by decide +kernel
theorem dX6_has_17 : decode cX6_has 17 = .ok (.ireturn, 1) := by decide +kernel
theorem dX6_has_4 : decode cX6_has 4 = .ok (.iload_n 1, 1) := by decide +kernel
theorem dX6_has_5 : decode cX6_has 5 = .ok (.aload_n 0, 1) := by decide +kernel
theorem dX6_has_6 : decode cX6_has 6 = .ok (.getfield 38, 3) := by decide +kernel
theorem zk_26 : Cond.fieldLink RX6 38 RX6 "arrays" "I" ∈ zz_w := zz_in (List.mem_append_right _ (List.mem_append_left _ (List.mem_of_getElem? (i := 26) (by decide +kernel)))) rfl
theorem zi_X6_a : ∀ w ∈ u_ws RX6 TX6 10, w ∈ lw_tbl := by decide +kernel
theorem zi_X6_b : ∀ w ∈ u_ws RX6 TX6 10, goodWord w = true := by decide +kernel
theorem zi_X6 : ∀ w ∈ u_ws RX6 TX6 10, w ∈ zz_w := fun w h => zz_in (zi_X6_a w h) (zi_X6_b w h)
theorem zf_X6_38 : zz_f RX6 38 5 0 := ⟨RX6, TX6, 10, rfl, zi_X6, by decide, zk_26⟩
theorem dX6_has_9 : decode cX6_has 9 = .ok (.if_icmp .ge 7, 3) := by decide +kernel
theorem dX6_has_12 : decode cX6_has 12 = .ok (.iconst 1, 1) := by decide +kernel
theorem dX6_has_13 : decode cX6_has 13 = .ok (.goto 4, 3) := by decide +kernel
def fn_co_has (ar : Int32) (k : Int32) : Int32 := (if k < 0 then 0 else (if ar ≤ k then 0 else 1))
abbrev rm_co_has : Room := { frames := 0, cells := 0, slots := 0, locals := 0 }
abbrev po_co_has (g : zz_G) (st : Nat) (kd : Nat) (dp : Nat) (cl : Nat) (sa : Nat) (ln : Nat) (bt : Nat) (pn : Nat) (bf : Nat) (ar : Int32) (us : Int32) (k : Int32) : Int32 → va_W → Prop := fun (r : Int32) (u : va_W) => r = fn_co_has ar k ∧ u = [(st, .inr (5, [.int ar, .int us, .ref kd, .ref dp, .ref cl, .ref sa, .ref ln, .ref bt, .ref pn, .ref bf]))]
set_option maxHeartbeats 4000000 in
set_option maxRecDepth 100000 in
theorem co_has (g : zz_G) (st : Nat) (kd : Nat) (dp : Nat) (cl : Nat) (sa : Nat) (ln : Nat) (bt : Nat) (pn : Nat) (bf : Nat) (ar : Int32) (us : Int32) (k : Int32) : zz_I g yX6_has (.code yX6_has cX6_has 2 (some .boolean)) rm_co_has [.ref st, .int k] [(st, .inr (5, [.int ar, .int us, .ref kd, .ref dp, .ref cl, .ref sa, .ref ln, .ref bt, .ref pn, .ref bf]))] (po_co_has g st kd dp cl sa ln bt pn bf ar us k) := by
  refine zz_I.intro (own := RX6) (cc := cX6_has) (nL := 2) (by decide) rfl (Nat.le_of_ble_eq_true rfl) ?_
  intro p l e s m args below meth c A H locs ls hC hnm hZ hl
  obtain ⟨hx, hb, hml, hown, hts, hr, hlocks, hK⟩ := id hC
  have hl : lv_has ls 2 [(0, .ref st), (1, .int k)] := hl
  have hZ : zz_Z g A s.heap [(st, .inr (5, [.int ar, .int us, .ref kd, .ref dp, .ref cl, .ref sa, .ref ln, .ref bt, .ref pn, .ref bf]))] H locs := hZ
  refine lv_iload_n hx hb dX6_has_0 rfl (lv_at hl 1 rfl) ?_
  refine lv_if_lt (tgt := 16) hx hb dX6_has_1 (by decide) (fun c1 => ?_) (fun c1 => ?_)
  · refine lv_iconst (v := 0) hx hb dX6_has_16 (by decide) ?_
    exact zz_zret hC hZ (by decide) (⟨by rw [fn_co_has, if_pos c1], rfl⟩) (Nat.le_of_ble_eq_true rfl) (Nat.le_of_ble_eq_true rfl) dX6_has_17
  · refine lv_iload_n hx hb dX6_has_4 rfl (lv_at hl 1 rfl) ?_
    refine lv_aload_n hx hb dX6_has_5 rfl (lv_at hl 0 rfl) ?_
    refine zz_get hC hZ 0 rfl zf_X6_38 rfl dX6_has_6 ?_
    refine lv_icmp_ge (tgt := 16) hx hb dX6_has_9 (by decide) (fun c2 => ?_) (fun c2 => ?_)
    · refine lv_iconst (v := 0) hx hb dX6_has_16 (by decide) ?_
      exact zz_zret hC hZ (by decide) (⟨by rw [fn_co_has, if_neg c1, if_pos c2], rfl⟩) (Nat.le_of_ble_eq_true rfl) (Nat.le_of_ble_eq_true rfl) dX6_has_17
    · refine lv_iconst (v := 1) hx hb dX6_has_12 (by decide) ?_
      refine lv_goto (tgt := 17) hx hb dX6_has_13 (by decide) ?_
      exact zz_zret hC hZ (by decide) (⟨by rw [fn_co_has, if_neg c1, if_neg c2], rfl⟩) (Nat.le_of_ble_eq_true rfl) (Nat.le_of_ble_eq_true rfl) dX6_has_17
theorem dX6_fits_0 : decode cX6_fits 0 = .ok (.aload_n 0, 1) := by decide +kernel
theorem dX6_fits_1 : decode cX6_fits 1 = .ok (.getfield 38, 3) := by decide +kernel
theorem dX6_fits_4 : decode cX6_fits 4 = .ok (.i2l, 1) := by decide +kernel
theorem dX6_fits_5 : decode cX6_fits 5 = .ok (.lload_n 1, 1) := by decide +kernel
theorem dX6_fits_6 : decode cX6_fits 6 = .ok (.ladd, 1) := by decide +kernel
theorem dX6_fits_7 : decode cX6_fits 7 = .ok (.ldc2_w 42, 3) := by decide +kernel
theorem zk_244 : Cond.constantLong RX6 42 (60) ∈ zz_w := zz_in (List.mem_append_right _ (List.mem_append_right _ (List.mem_append_left _ (List.mem_of_getElem? (i := 4) (by decide +kernel))))) rfl
theorem dX6_fits_10 : decode cX6_fits 10 = .ok (.lcmp, 1) := by decide +kernel
theorem dX6_fits_11 : decode cX6_fits 11 = .ok (.ifCond .gt 21, 3) := by decide +kernel
theorem dX6_fits_32 : decode cX6_fits 32 = .ok (.iconst 0, 1) := by decide +kernel
theorem dX6_fits_33 : decode cX6_fits 33 = .ok (.ireturn, 1) := by decide +kernel
theorem dX6_fits_14 : decode cX6_fits 14 = .ok (.aload_n 0, 1) := by decide +kernel
theorem dX6_fits_15 : decode cX6_fits 15 = .ok (.getfield 44, 3) := by decide +kernel
theorem zk_29 : Cond.fieldLink RX6 44 RX6 "used" "I" ∈ zz_w := zz_in (List.mem_append_right _ (List.mem_append_left _ (List.mem_of_getElem? (i := 29) (by decide +kernel)))) rfl
theorem zf_X6_44 : zz_f RX6 44 5 1 := ⟨RX6, TX6, 10, rfl, zi_X6, by decide, zk_29⟩
theorem dX6_fits_18 : decode cX6_fits 18 = .ok (.i2l, 1) := by decide +kernel
theorem dX6_fits_19 : decode cX6_fits 19 = .ok (.lload_n 3, 1) := by decide +kernel
theorem dX6_fits_20 : decode cX6_fits 20 = .ok (.ladd, 1) := by decide +kernel
theorem dX6_fits_21 : decode cX6_fits 21 = .ok (.ldc2_w 47, 3) := by decide +kernel
theorem zk_245 : Cond.constantLong RX6 47 (4000) ∈ zz_w := zz_in (List.mem_append_right _ (List.mem_append_right _ (List.mem_append_left _ (List.mem_of_getElem? (i := 5) (by decide +kernel))))) rfl
theorem dX6_fits_24 : decode cX6_fits 24 = .ok (.lcmp, 1) := by decide +kernel
theorem dX6_fits_25 : decode cX6_fits 25 = .ok (.ifCond .gt 7, 3) := by decide +kernel
theorem dX6_fits_28 : decode cX6_fits 28 = .ok (.iconst 1, 1) := by decide +kernel
theorem dX6_fits_29 : decode cX6_fits 29 = .ok (.goto 4, 3) := by decide +kernel
def fn_co_fits (ar : Int32) (us : Int32) (ma : Int64) (me : Int64) : Int32 := (if 60 < (ar.toInt64 + ma) then 0 else (if 4000 < (us.toInt64 + me) then 0 else 1))
abbrev rm_co_fits : Room := { frames := 0, cells := 0, slots := 0, locals := 0 }
abbrev po_co_fits (g : zz_G) (st : Nat) (kd : Nat) (dp : Nat) (cl : Nat) (sa : Nat) (ln : Nat) (bt : Nat) (pn : Nat) (bf : Nat) (ar : Int32) (us : Int32) (ma : Int64) (me : Int64) : Int32 → va_W → Prop := fun (r : Int32) (u : va_W) => r = fn_co_fits ar us ma me ∧ u = [(st, .inr (5, [.int ar, .int us, .ref kd, .ref dp, .ref cl, .ref sa, .ref ln, .ref bt, .ref pn, .ref bf]))]
set_option maxHeartbeats 4000000 in
set_option maxRecDepth 100000 in
theorem co_fits (g : zz_G) (st : Nat) (kd : Nat) (dp : Nat) (cl : Nat) (sa : Nat) (ln : Nat) (bt : Nat) (pn : Nat) (bf : Nat) (ar : Int32) (us : Int32) (ma : Int64) (me : Int64) : zz_I g yX6_fits (.code yX6_fits cX6_fits 5 (some .boolean)) rm_co_fits [.ref st, .long ma, .long me] [(st, .inr (5, [.int ar, .int us, .ref kd, .ref dp, .ref cl, .ref sa, .ref ln, .ref bt, .ref pn, .ref bf]))] (po_co_fits g st kd dp cl sa ln bt pn bf ar us ma me) := by
  refine zz_I.intro (own := RX6) (cc := cX6_fits) (nL := 5) (by decide) rfl (Nat.le_of_ble_eq_true rfl) ?_
  intro p l e s m args below meth c A H locs ls hC hnm hZ hl
  obtain ⟨hx, hb, hml, hown, hts, hr, hlocks, hK⟩ := id hC
  have hl : lv_has ls 5 [(0, .ref st), (1, .long ma), (3, .long me)] := hl
  have hZ : zz_Z g A s.heap [(st, .inr (5, [.int ar, .int us, .ref kd, .ref dp, .ref cl, .ref sa, .ref ln, .ref bt, .ref pn, .ref bf]))] H locs := hZ
  refine lv_aload_n hx hb dX6_fits_0 rfl (lv_at hl 0 rfl) ?_
  refine zz_get hC hZ 0 rfl zf_X6_38 rfl dX6_fits_1 ?_
  refine lv_i2l hx hb dX6_fits_4 rfl ?_
  refine lv_lload_n hx hb dX6_fits_5 rfl (lv_at hl 1 rfl) ?_
  refine lv_ladd hx hb dX6_fits_6 ?_
  refine lv_ldc2 hx hb hown (hts _ zk_244) dX6_fits_7 ?_
  refine zz_lcmp_gt (tgt := 32) hC dX6_fits_10 dX6_fits_11 (by decide) (fun c1 => ?_) (fun c1 => ?_)
  · refine lv_iconst (v := 0) hx hb dX6_fits_32 (by decide) ?_
    exact zz_zret hC hZ (by decide) (⟨by rw [fn_co_fits, if_pos c1], rfl⟩) (Nat.le_of_ble_eq_true rfl) (Nat.le_of_ble_eq_true rfl) dX6_fits_33
  · refine lv_aload_n hx hb dX6_fits_14 rfl (lv_at hl 0 rfl) ?_
    refine zz_get hC hZ 0 rfl zf_X6_44 rfl dX6_fits_15 ?_
    refine lv_i2l hx hb dX6_fits_18 rfl ?_
    refine lv_lload_n hx hb dX6_fits_19 rfl (lv_at hl 2 rfl) ?_
    refine lv_ladd hx hb dX6_fits_20 ?_
    refine lv_ldc2 hx hb hown (hts _ zk_245) dX6_fits_21 ?_
    refine zz_lcmp_gt (tgt := 32) hC dX6_fits_24 dX6_fits_25 (by decide) (fun c2 => ?_) (fun c2 => ?_)
    · refine lv_iconst (v := 0) hx hb dX6_fits_32 (by decide) ?_
      exact zz_zret hC hZ (by decide) (⟨by rw [fn_co_fits, if_neg c1, if_pos c2], rfl⟩) (Nat.le_of_ble_eq_true rfl) (Nat.le_of_ble_eq_true rfl) dX6_fits_33
    · refine lv_iconst (v := 1) hx hb dX6_fits_28 (by decide) ?_
      refine lv_goto (tgt := 33) hx hb dX6_fits_29 (by decide) ?_
      exact zz_zret hC hZ (by decide) (⟨by rw [fn_co_fits, if_neg c1, if_neg c2], rfl⟩) (Nat.le_of_ble_eq_true rfl) (Nat.le_of_ble_eq_true rfl) dX6_fits_33
end
section
theorem dX6_init_0 : decode cX6_init 0 = .ok (.aload_n 0, 1) := by decide +kernel
theorem dX6_init_1 : decode cX6_init 1 = .ok (.invokespecial 3, 3) := by decide +kernel
theorem zk_25 : Cond.methodLink RX6 3 objectInit ∈ zz_w := zz_in (List.mem_append_right _ (List.mem_append_left _ (List.mem_of_getElem? (i := 25) (by decide +kernel)))) rfl
theorem zk_18 : Cond.instanceMethod objectInit ∈ zz_w := zz_in (List.mem_append_right _ (List.mem_append_left _ (List.mem_of_getElem? (i := 18) (by decide +kernel)))) rfl
set_option maxRecDepth 20000 in
theorem zk_19 : Cond.code objectInit ⟨#[0xb1]⟩ 1 none ∈ zz_w := zz_in (List.mem_append_right _ (List.mem_append_left _ (List.mem_of_getElem? (i := 19) (rfl)))) rfl
theorem dX6_init_4 : decode cX6_init 4 = .ok (.aload_n 0, 1) := by decide +kernel
theorem dX6_init_5 : decode cX6_init 5 = .ok (.bipush 60, 2) := by decide +kernel
theorem dX6_init_7 : decode cX6_init 7 = .ok (.newarray .int, 2) := by decide +kernel
theorem zk_87 : Cond.arrayClass .int ∈ zz_w := zz_in (List.mem_append_right _ (List.mem_append_left _ (List.mem_of_getElem? (i := 87) (by decide +kernel)))) rfl
theorem dX6_init_9 : decode cX6_init 9 = .ok (.putfield 9, 3) := by decide +kernel
theorem zk_31 : Cond.fieldLink RX6 9 RX6 "kind" "[I" ∈ zz_w := zz_in (List.mem_append_right _ (List.mem_append_left _ (List.mem_of_getElem? (i := 31) (by decide +kernel)))) rfl
theorem zu_X6_9 : zz_fw RX6 9 5 2 true (.array .int) := ⟨RX6, TX6, 10, tyX6, rfl, zi_X6, by decide, zk_31, tyX6_ok, nmX6, rfl, by decide +kernel, fun _ => rfl⟩
theorem dX6_init_12 : decode cX6_init 12 = .ok (.aload_n 0, 1) := by decide +kernel
theorem dX6_init_13 : decode cX6_init 13 = .ok (.bipush 60, 2) := by decide +kernel
theorem dX6_init_15 : decode cX6_init 15 = .ok (.newarray .int, 2) := by decide +kernel
theorem dX6_init_17 : decode cX6_init 17 = .ok (.putfield 15, 3) := by decide +kernel
theorem zk_37 : Cond.fieldLink RX6 15 RX6 "depth" "[I" ∈ zz_w := zz_in (List.mem_append_right _ (List.mem_append_left _ (List.mem_of_getElem? (i := 37) (by decide +kernel)))) rfl
theorem zu_X6_15 : zz_fw RX6 15 5 3 true (.array .int) := ⟨RX6, TX6, 10, tyX6, rfl, zi_X6, by decide, zk_37, tyX6_ok, nmX6, rfl, by decide +kernel, fun _ => rfl⟩
theorem dX6_init_20 : decode cX6_init 20 = .ok (.aload_n 0, 1) := by decide +kernel
theorem dX6_init_21 : decode cX6_init 21 = .ok (.bipush 60, 2) := by decide +kernel
theorem dX6_init_23 : decode cX6_init 23 = .ok (.newarray .int, 2) := by decide +kernel
theorem dX6_init_25 : decode cX6_init 25 = .ok (.putfield 18, 3) := by decide +kernel
theorem zk_41 : Cond.fieldLink RX6 18 RX6 "cls" "[I" ∈ zz_w := zz_in (List.mem_append_right _ (List.mem_append_left _ (List.mem_of_getElem? (i := 41) (by decide +kernel)))) rfl
theorem zu_X6_18 : zz_fw RX6 18 5 4 true (.array .int) := ⟨RX6, TX6, 10, tyX6, rfl, zi_X6, by decide, zk_41, tyX6_ok, nmX6, rfl, by decide +kernel, fun _ => rfl⟩
theorem dX6_init_28 : decode cX6_init 28 = .ok (.aload_n 0, 1) := by decide +kernel
theorem dX6_init_29 : decode cX6_init 29 = .ok (.bipush 60, 2) := by decide +kernel
theorem dX6_init_31 : decode cX6_init 31 = .ok (.newarray .int, 2) := by decide +kernel
theorem dX6_init_33 : decode cX6_init 33 = .ok (.putfield 21, 3) := by decide +kernel
theorem zk_44 : Cond.fieldLink RX6 21 RX6 "start" "[I" ∈ zz_w := zz_in (List.mem_append_right _ (List.mem_append_left _ (List.mem_of_getElem? (i := 44) (by decide +kernel)))) rfl
theorem zu_X6_21 : zz_fw RX6 21 5 5 true (.array .int) := ⟨RX6, TX6, 10, tyX6, rfl, zi_X6, by decide, zk_44, tyX6_ok, nmX6, rfl, by decide +kernel, fun _ => rfl⟩
theorem dX6_init_36 : decode cX6_init 36 = .ok (.aload_n 0, 1) := by decide +kernel
theorem dX6_init_37 : decode cX6_init 37 = .ok (.bipush 60, 2) := by decide +kernel
theorem dX6_init_39 : decode cX6_init 39 = .ok (.newarray .int, 2) := by decide +kernel
theorem dX6_init_41 : decode cX6_init 41 = .ok (.putfield 24, 3) := by decide +kernel
theorem zk_49 : Cond.fieldLink RX6 24 RX6 "length" "[I" ∈ zz_w := zz_in (List.mem_append_right _ (List.mem_append_left _ (List.mem_of_getElem? (i := 49) (by decide +kernel)))) rfl
theorem zu_X6_24 : zz_fw RX6 24 5 6 true (.array .int) := ⟨RX6, TX6, 10, tyX6, rfl, zi_X6, by decide, zk_49, tyX6_ok, nmX6, rfl, by decide +kernel, fun _ => rfl⟩
theorem dX6_init_44 : decode cX6_init 44 = .ok (.aload_n 0, 1) := by decide +kernel
theorem dX6_init_45 : decode cX6_init 45 = .ok (.sipush 4000, 3) := by decide +kernel
theorem dX6_init_48 : decode cX6_init 48 = .ok (.newarray .long, 2) := by decide +kernel
theorem zk_88 : Cond.arrayClass .long ∈ zz_w := zz_in (List.mem_append_right _ (List.mem_append_left _ (List.mem_of_getElem? (i := 88) (by decide +kernel)))) rfl
theorem dX6_init_50 : decode cX6_init 50 = .ok (.putfield 27, 3) := by decide +kernel
theorem zk_54 : Cond.fieldLink RX6 27 RX6 "bits" "[J" ∈ zz_w := zz_in (List.mem_append_right _ (List.mem_append_left _ (List.mem_of_getElem? (i := 54) (by decide +kernel)))) rfl
theorem zu_X6_27 : zz_fw RX6 27 5 7 true (.array .long) := ⟨RX6, TX6, 10, tyX6, rfl, zi_X6, by decide, zk_54, tyX6_ok, nmX6, rfl, by decide +kernel, fun _ => rfl⟩
theorem dX6_init_53 : decode cX6_init 53 = .ok (.aload_n 0, 1) := by decide +kernel
theorem dX6_init_54 : decode cX6_init 54 = .ok (.sipush 4000, 3) := by decide +kernel
theorem dX6_init_57 : decode cX6_init 57 = .ok (.newarray .boolean, 2) := by decide +kernel
theorem zk_89 : Cond.arrayClass .boolean ∈ zz_w := zz_in (List.mem_append_right _ (List.mem_append_left _ (List.mem_of_getElem? (i := 89) (by decide +kernel)))) rfl
theorem dX6_init_59 : decode cX6_init 59 = .ok (.putfield 31, 3) := by decide +kernel
theorem zk_61 : Cond.fieldLink RX6 31 RX6 "pinned" "[Z" ∈ zz_w := zz_in (List.mem_append_right _ (List.mem_append_left _ (List.mem_of_getElem? (i := 61) (by decide +kernel)))) rfl
theorem zu_X6_31 : zz_fw RX6 31 5 8 true (.array .boolean) := ⟨RX6, TX6, 10, tyX6, rfl, zi_X6, by decide, zk_61, tyX6_ok, nmX6, rfl, by decide +kernel, fun _ => rfl⟩
theorem dX6_init_62 : decode cX6_init 62 = .ok (.aload_n 0, 1) := by decide +kernel
theorem dX6_init_63 : decode cX6_init 63 = .ok (.sipush 200, 3) := by decide +kernel
theorem dX6_init_66 : decode cX6_init 66 = .ok (.newarray .long, 2) := by decide +kernel
theorem dX6_init_68 : decode cX6_init 68 = .ok (.putfield 35, 3) := by decide +kernel
theorem zk_65 : Cond.fieldLink RX6 35 RX6 "before" "[J" ∈ zz_w := zz_in (List.mem_append_right _ (List.mem_append_left _ (List.mem_of_getElem? (i := 65) (by decide +kernel)))) rfl
theorem zu_X6_35 : zz_fw RX6 35 5 9 true (.array .long) := ⟨RX6, TX6, 10, tyX6, rfl, zi_X6, by decide, zk_65, tyX6_ok, nmX6, rfl, by decide +kernel, fun _ => rfl⟩
theorem dX6_init_71 : decode cX6_init 71 = .ok (.return_, 1) := by decide +kernel
abbrev rm_ci_Store : Room := { frames := 1, cells := 8, slots := 8500, locals := 12 }
abbrev po_ci_Store (g : zz_G) (h0 : Nat) : va_W → Prop := fun (u : va_W) => ∃ (e1 : Nat) (e2 : Nat) (e3 : Nat) (e4 : Nat) (e5 : Nat) (e6 : Nat) (e7 : Nat) (e8 : Nat), u = [(h0, .inr (5, [.int 0, .int 0, .ref e1, .ref e2, .ref e3, .ref e4, .ref e5, .ref e6, .ref e7, .ref e8])), (e1, .inl (g.2.1, 60, .inl (fun _ => 0))), (e2, .inl (g.2.1, 60, .inl (fun _ => 0))), (e3, .inl (g.2.1, 60, .inl (fun _ => 0))), (e4, .inl (g.2.1, 60, .inl (fun _ => 0))), (e5, .inl (g.2.1, 60, .inl (fun _ => 0))), (e6, .inl (g.2.2.1, 4000, .inr (.inl (fun _ => 0)))), (e7, .inl (g.2.2.2.1, 4000, .inl (fun _ => 0))), (e8, .inl (g.2.2.1, 200, .inr (.inl (fun _ => 0))))]
set_option maxHeartbeats 4000000 in
set_option maxRecDepth 100000 in
theorem ci_Store (g : zz_G) (h0 : Nat) : zz_V g yX6_init (.code yX6_init cX6_init 1 none) rm_ci_Store [.ref h0] [(h0, .inr (5, [.int 0, .int 0, .null, .null, .null, .null, .null, .null, .null, .null]))] (po_ci_Store g h0) := by
  refine zz_V.intro (own := RX6) (cc := cX6_init) (nL := 1) (by decide) rfl (Nat.le_of_ble_eq_true rfl) ?_
  intro p l e s m args below meth c A H locs ls hC hnm hZ hl
  obtain ⟨hx, hb, hml, hown, hts, hr, hlocks, hK⟩ := id hC
  have hl : lv_has ls 1 [(0, .ref h0)] := hl
  have hZ : zz_Z g A s.heap [(h0, .inr (5, [.int 0, .int 0, .null, .null, .null, .null, .null, .null, .null, .null]))] H locs := hZ
  refine lv_aload_n hx hb dX6_init_0 rfl (lv_at hl 0 rfl) ?_
  refine zz_obj hC hl zk_25 zk_18 zk_19 (Nat.le_of_ble_eq_true rfl) (Nat.le_of_ble_eq_true rfl) dX6_init_1 ?_
  refine lv_aload_n hx hb dX6_init_4 rfl (lv_at hl 0 rfl) ?_
  refine lv_bipush (v := 60) hx hb dX6_init_5 (by decide) ?_
  refine zz_newi (N' := 60) hC hZ zk_87 (by decide) (by decide) (Nat.le_of_ble_eq_true rfl) (Nat.le_of_ble_eq_true rfl) (Nat.le_of_ble_eq_true rfl) dX6_init_7 (fun q1 H hZ => ?_)
  have hZ : zz_Z g A s.heap [(h0, .inr (5, [.int 0, .int 0, .null, .null, .null, .null, .null, .null, .null, .null])), (q1, .inl (g.2.1, 60, .inl (fun _ => 0)))] H locs := hZ
  refine zz_putF hC hnm hZ 0 rfl zu_X6_9 rfl rfl (Nat.le_of_ble_eq_true rfl) dX6_init_9 (fun H locs hZ => ?_)
  have hZ : zz_Z g A s.heap [(h0, .inr (5, [.int 0, .int 0, .ref q1, .null, .null, .null, .null, .null, .null, .null])), (q1, .inl (g.2.1, 60, .inl (fun _ => 0)))] H locs := hZ
  refine lv_aload_n hx hb dX6_init_12 rfl (lv_at hl 0 rfl) ?_
  refine lv_bipush (v := 60) hx hb dX6_init_13 (by decide) ?_
  refine zz_newi (N' := 60) hC hZ zk_87 (by decide) (by decide) (Nat.le_of_ble_eq_true rfl) (Nat.le_of_ble_eq_true rfl) (Nat.le_of_ble_eq_true rfl) dX6_init_15 (fun q2 H hZ => ?_)
  have hZ : zz_Z g A s.heap [(h0, .inr (5, [.int 0, .int 0, .ref q1, .null, .null, .null, .null, .null, .null, .null])), (q1, .inl (g.2.1, 60, .inl (fun _ => 0))), (q2, .inl (g.2.1, 60, .inl (fun _ => 0)))] H locs := hZ
  refine zz_putF hC hnm hZ 0 rfl zu_X6_15 rfl rfl (Nat.le_of_ble_eq_true rfl) dX6_init_17 (fun H locs hZ => ?_)
  have hZ : zz_Z g A s.heap [(h0, .inr (5, [.int 0, .int 0, .ref q1, .ref q2, .null, .null, .null, .null, .null, .null])), (q1, .inl (g.2.1, 60, .inl (fun _ => 0))), (q2, .inl (g.2.1, 60, .inl (fun _ => 0)))] H locs := hZ
  refine lv_aload_n hx hb dX6_init_20 rfl (lv_at hl 0 rfl) ?_
  refine lv_bipush (v := 60) hx hb dX6_init_21 (by decide) ?_
  refine zz_newi (N' := 60) hC hZ zk_87 (by decide) (by decide) (Nat.le_of_ble_eq_true rfl) (Nat.le_of_ble_eq_true rfl) (Nat.le_of_ble_eq_true rfl) dX6_init_23 (fun q3 H hZ => ?_)
  have hZ : zz_Z g A s.heap [(h0, .inr (5, [.int 0, .int 0, .ref q1, .ref q2, .null, .null, .null, .null, .null, .null])), (q1, .inl (g.2.1, 60, .inl (fun _ => 0))), (q2, .inl (g.2.1, 60, .inl (fun _ => 0))), (q3, .inl (g.2.1, 60, .inl (fun _ => 0)))] H locs := hZ
  refine zz_putF hC hnm hZ 0 rfl zu_X6_18 rfl rfl (Nat.le_of_ble_eq_true rfl) dX6_init_25 (fun H locs hZ => ?_)
  have hZ : zz_Z g A s.heap [(h0, .inr (5, [.int 0, .int 0, .ref q1, .ref q2, .ref q3, .null, .null, .null, .null, .null])), (q1, .inl (g.2.1, 60, .inl (fun _ => 0))), (q2, .inl (g.2.1, 60, .inl (fun _ => 0))), (q3, .inl (g.2.1, 60, .inl (fun _ => 0)))] H locs := hZ
  refine lv_aload_n hx hb dX6_init_28 rfl (lv_at hl 0 rfl) ?_
  refine lv_bipush (v := 60) hx hb dX6_init_29 (by decide) ?_
  refine zz_newi (N' := 60) hC hZ zk_87 (by decide) (by decide) (Nat.le_of_ble_eq_true rfl) (Nat.le_of_ble_eq_true rfl) (Nat.le_of_ble_eq_true rfl) dX6_init_31 (fun q4 H hZ => ?_)
  have hZ : zz_Z g A s.heap [(h0, .inr (5, [.int 0, .int 0, .ref q1, .ref q2, .ref q3, .null, .null, .null, .null, .null])), (q1, .inl (g.2.1, 60, .inl (fun _ => 0))), (q2, .inl (g.2.1, 60, .inl (fun _ => 0))), (q3, .inl (g.2.1, 60, .inl (fun _ => 0))), (q4, .inl (g.2.1, 60, .inl (fun _ => 0)))] H locs := hZ
  refine zz_putF hC hnm hZ 0 rfl zu_X6_21 rfl rfl (Nat.le_of_ble_eq_true rfl) dX6_init_33 (fun H locs hZ => ?_)
  have hZ : zz_Z g A s.heap [(h0, .inr (5, [.int 0, .int 0, .ref q1, .ref q2, .ref q3, .ref q4, .null, .null, .null, .null])), (q1, .inl (g.2.1, 60, .inl (fun _ => 0))), (q2, .inl (g.2.1, 60, .inl (fun _ => 0))), (q3, .inl (g.2.1, 60, .inl (fun _ => 0))), (q4, .inl (g.2.1, 60, .inl (fun _ => 0)))] H locs := hZ
  refine lv_aload_n hx hb dX6_init_36 rfl (lv_at hl 0 rfl) ?_
  refine lv_bipush (v := 60) hx hb dX6_init_37 (by decide) ?_
  refine zz_newi (N' := 60) hC hZ zk_87 (by decide) (by decide) (Nat.le_of_ble_eq_true rfl) (Nat.le_of_ble_eq_true rfl) (Nat.le_of_ble_eq_true rfl) dX6_init_39 (fun q5 H hZ => ?_)
  have hZ : zz_Z g A s.heap [(h0, .inr (5, [.int 0, .int 0, .ref q1, .ref q2, .ref q3, .ref q4, .null, .null, .null, .null])), (q1, .inl (g.2.1, 60, .inl (fun _ => 0))), (q2, .inl (g.2.1, 60, .inl (fun _ => 0))), (q3, .inl (g.2.1, 60, .inl (fun _ => 0))), (q4, .inl (g.2.1, 60, .inl (fun _ => 0))), (q5, .inl (g.2.1, 60, .inl (fun _ => 0)))] H locs := hZ
  refine zz_putF hC hnm hZ 0 rfl zu_X6_24 rfl rfl (Nat.le_of_ble_eq_true rfl) dX6_init_41 (fun H locs hZ => ?_)
  have hZ : zz_Z g A s.heap [(h0, .inr (5, [.int 0, .int 0, .ref q1, .ref q2, .ref q3, .ref q4, .ref q5, .null, .null, .null])), (q1, .inl (g.2.1, 60, .inl (fun _ => 0))), (q2, .inl (g.2.1, 60, .inl (fun _ => 0))), (q3, .inl (g.2.1, 60, .inl (fun _ => 0))), (q4, .inl (g.2.1, 60, .inl (fun _ => 0))), (q5, .inl (g.2.1, 60, .inl (fun _ => 0)))] H locs := hZ
  refine lv_aload_n hx hb dX6_init_44 rfl (lv_at hl 0 rfl) ?_
  refine lv_sipush (v := 4000) hx hb dX6_init_45 (by decide) ?_
  refine zz_newl (N' := 4000) hC hZ zk_88 (by decide) (by decide) (Nat.le_of_ble_eq_true rfl) (Nat.le_of_ble_eq_true rfl) (Nat.le_of_ble_eq_true rfl) dX6_init_48 (fun q6 H hZ => ?_)
  have hZ : zz_Z g A s.heap [(h0, .inr (5, [.int 0, .int 0, .ref q1, .ref q2, .ref q3, .ref q4, .ref q5, .null, .null, .null])), (q1, .inl (g.2.1, 60, .inl (fun _ => 0))), (q2, .inl (g.2.1, 60, .inl (fun _ => 0))), (q3, .inl (g.2.1, 60, .inl (fun _ => 0))), (q4, .inl (g.2.1, 60, .inl (fun _ => 0))), (q5, .inl (g.2.1, 60, .inl (fun _ => 0))), (q6, .inl (g.2.2.1, 4000, .inr (.inl (fun _ => 0))))] H locs := hZ
  refine zz_putF hC hnm hZ 0 rfl zu_X6_27 rfl rfl (Nat.le_of_ble_eq_true rfl) dX6_init_50 (fun H locs hZ => ?_)
  have hZ : zz_Z g A s.heap [(h0, .inr (5, [.int 0, .int 0, .ref q1, .ref q2, .ref q3, .ref q4, .ref q5, .ref q6, .null, .null])), (q1, .inl (g.2.1, 60, .inl (fun _ => 0))), (q2, .inl (g.2.1, 60, .inl (fun _ => 0))), (q3, .inl (g.2.1, 60, .inl (fun _ => 0))), (q4, .inl (g.2.1, 60, .inl (fun _ => 0))), (q5, .inl (g.2.1, 60, .inl (fun _ => 0))), (q6, .inl (g.2.2.1, 4000, .inr (.inl (fun _ => 0))))] H locs := hZ
  refine lv_aload_n hx hb dX6_init_53 rfl (lv_at hl 0 rfl) ?_
  refine lv_sipush (v := 4000) hx hb dX6_init_54 (by decide) ?_
  refine zz_newz (N' := 4000) hC hZ zk_89 (by decide) (by decide) (Nat.le_of_ble_eq_true rfl) (Nat.le_of_ble_eq_true rfl) (Nat.le_of_ble_eq_true rfl) dX6_init_57 (fun q7 H hZ => ?_)
  have hZ : zz_Z g A s.heap [(h0, .inr (5, [.int 0, .int 0, .ref q1, .ref q2, .ref q3, .ref q4, .ref q5, .ref q6, .null, .null])), (q1, .inl (g.2.1, 60, .inl (fun _ => 0))), (q2, .inl (g.2.1, 60, .inl (fun _ => 0))), (q3, .inl (g.2.1, 60, .inl (fun _ => 0))), (q4, .inl (g.2.1, 60, .inl (fun _ => 0))), (q5, .inl (g.2.1, 60, .inl (fun _ => 0))), (q6, .inl (g.2.2.1, 4000, .inr (.inl (fun _ => 0)))), (q7, .inl (g.2.2.2.1, 4000, .inl (fun _ => 0)))] H locs := hZ
  refine zz_putF hC hnm hZ 0 rfl zu_X6_31 rfl rfl (Nat.le_of_ble_eq_true rfl) dX6_init_59 (fun H locs hZ => ?_)
  have hZ : zz_Z g A s.heap [(h0, .inr (5, [.int 0, .int 0, .ref q1, .ref q2, .ref q3, .ref q4, .ref q5, .ref q6, .ref q7, .null])), (q1, .inl (g.2.1, 60, .inl (fun _ => 0))), (q2, .inl (g.2.1, 60, .inl (fun _ => 0))), (q3, .inl (g.2.1, 60, .inl (fun _ => 0))), (q4, .inl (g.2.1, 60, .inl (fun _ => 0))), (q5, .inl (g.2.1, 60, .inl (fun _ => 0))), (q6, .inl (g.2.2.1, 4000, .inr (.inl (fun _ => 0)))), (q7, .inl (g.2.2.2.1, 4000, .inl (fun _ => 0)))] H locs := hZ
  refine lv_aload_n hx hb dX6_init_62 rfl (lv_at hl 0 rfl) ?_
  refine lv_sipush (v := 200) hx hb dX6_init_63 (by decide) ?_
  refine zz_newl (N' := 200) hC hZ zk_88 (by decide) (by decide) (Nat.le_of_ble_eq_true rfl) (Nat.le_of_ble_eq_true rfl) (Nat.le_of_ble_eq_true rfl) dX6_init_66 (fun q8 H hZ => ?_)
  have hZ : zz_Z g A s.heap [(h0, .inr (5, [.int 0, .int 0, .ref q1, .ref q2, .ref q3, .ref q4, .ref q5, .ref q6, .ref q7, .null])), (q1, .inl (g.2.1, 60, .inl (fun _ => 0))), (q2, .inl (g.2.1, 60, .inl (fun _ => 0))), (q3, .inl (g.2.1, 60, .inl (fun _ => 0))), (q4, .inl (g.2.1, 60, .inl (fun _ => 0))), (q5, .inl (g.2.1, 60, .inl (fun _ => 0))), (q6, .inl (g.2.2.1, 4000, .inr (.inl (fun _ => 0)))), (q7, .inl (g.2.2.2.1, 4000, .inl (fun _ => 0))), (q8, .inl (g.2.2.1, 200, .inr (.inl (fun _ => 0))))] H locs := hZ
  refine zz_putF hC hnm hZ 0 rfl zu_X6_35 rfl rfl (Nat.le_of_ble_eq_true rfl) dX6_init_68 (fun H locs hZ => ?_)
  have hZ : zz_Z g A s.heap [(h0, .inr (5, [.int 0, .int 0, .ref q1, .ref q2, .ref q3, .ref q4, .ref q5, .ref q6, .ref q7, .ref q8])), (q1, .inl (g.2.1, 60, .inl (fun _ => 0))), (q2, .inl (g.2.1, 60, .inl (fun _ => 0))), (q3, .inl (g.2.1, 60, .inl (fun _ => 0))), (q4, .inl (g.2.1, 60, .inl (fun _ => 0))), (q5, .inl (g.2.1, 60, .inl (fun _ => 0))), (q6, .inl (g.2.2.1, 4000, .inr (.inl (fun _ => 0)))), (q7, .inl (g.2.2.2.1, 4000, .inl (fun _ => 0))), (q8, .inl (g.2.2.1, 200, .inr (.inl (fun _ => 0))))] H locs := hZ
  exact zz_vret hC hZ (⟨q1, q2, q3, q4, q5, q6, q7, q8, rfl⟩) (Nat.le_of_ble_eq_true rfl) (Nat.le_of_ble_eq_true rfl) dX6_init_71
theorem dX3_init_0 : decode cX3_init 0 = .ok (.aload_n 0, 1) := by decide +kernel
theorem dX3_init_1 : decode cX3_init 1 = .ok (.invokespecial 3, 3) := by decide +kernel
theorem zk_95 : Cond.methodLink RX3 3 objectInit ∈ zz_w := zz_in (List.mem_append_right _ (List.mem_append_left _ (List.mem_of_getElem? (i := 95) (by decide +kernel)))) rfl
theorem dX3_init_4 : decode cX3_init 4 = .ok (.aload_n 0, 1) := by decide +kernel
theorem dX3_init_5 : decode cX3_init 5 = .ok (.iconst 4, 1) := by decide +kernel
theorem dX3_init_6 : decode cX3_init 6 = .ok (.newarray .int, 2) := by decide +kernel
theorem dX3_init_8 : decode cX3_init 8 = .ok (.putfield 9, 3) := by decide +kernel
theorem zk_97 : Cond.fieldLink RX3 9 RX3 "lengths" "[I" ∈ zz_w := zz_in (List.mem_append_right _ (List.mem_append_left _ (List.mem_of_getElem? (i := 97) (by decide +kernel)))) rfl
theorem zi_X3_a : ∀ w ∈ u_ws RX3 TX3 4, w ∈ lw_tbl := by decide +kernel
theorem zi_X3_b : ∀ w ∈ u_ws RX3 TX3 4, goodWord w = true := by decide +kernel
theorem zi_X3 : ∀ w ∈ u_ws RX3 TX3 4, w ∈ zz_w := fun w h => zz_in (zi_X3_a w h) (zi_X3_b w h)
theorem zu_X3_9 : zz_fw RX3 9 2 1 true (.array .int) := ⟨RX3, TX3, 4, tyX3, rfl, zi_X3, by decide, zk_97, tyX3_ok, nmX3, rfl, by decide +kernel, fun _ => rfl⟩
theorem dX3_init_11 : decode cX3_init 11 = .ok (.aload_n 0, 1) := by decide +kernel
theorem dX3_init_12 : decode cX3_init 12 = .ok (.aload_n 1, 1) := by decide +kernel
theorem dX3_init_13 : decode cX3_init 13 = .ok (.putfield 15, 3) := by decide +kernel
theorem zk_96 : Cond.fieldLink RX3 15 RX3 "store" "LDecisionArrays$Store;" ∈ zz_w := zz_in (List.mem_append_right _ (List.mem_append_left _ (List.mem_of_getElem? (i := 96) (by decide +kernel)))) rfl
theorem zu_X3_15 : zz_fw RX3 15 2 0 true (.object "DecisionArrays$Store") := ⟨RX3, TX3, 4, tyX3, rfl, zi_X3, by decide, zk_96, tyX3_ok, nmX3, rfl, by decide +kernel, fun _ => rfl⟩
theorem dX3_init_16 : decode cX3_init 16 = .ok (.return_, 1) := by decide +kernel
abbrev rm_ci_Maker : Room := { frames := 1, cells := 1, slots := 4, locals := 12 }
abbrev po_ci_Maker (g : zz_G) (h0 : Nat) (st : Nat) : va_W → Prop := fun (u : va_W) => ∃ (e1 : Nat), u = [(h0, .inr (2, [.ref st, .ref e1, .int 0, .int 0])), (e1, .inl (g.2.1, 4, .inl (fun _ => 0)))]
set_option maxHeartbeats 4000000 in
set_option maxRecDepth 100000 in
theorem ci_Maker (g : zz_G) (h0 : Nat) (st : Nat) : zz_V g yX3_init (.code yX3_init cX3_init 2 none) rm_ci_Maker [.ref h0, .ref st] [(h0, .inr (2, [.null, .null, .int 0, .int 0]))] (po_ci_Maker g h0 st) := by
  refine zz_V.intro (own := RX3) (cc := cX3_init) (nL := 2) (by decide) rfl (Nat.le_of_ble_eq_true rfl) ?_
  intro p l e s m args below meth c A H locs ls hC hnm hZ hl
  obtain ⟨hx, hb, hml, hown, hts, hr, hlocks, hK⟩ := id hC
  have hl : lv_has ls 2 [(0, .ref h0), (1, .ref st)] := hl
  have hZ : zz_Z g A s.heap [(h0, .inr (2, [.null, .null, .int 0, .int 0]))] H locs := hZ
  refine lv_aload_n hx hb dX3_init_0 rfl (lv_at hl 0 rfl) ?_
  refine zz_obj hC hl zk_95 zk_18 zk_19 (Nat.le_of_ble_eq_true rfl) (Nat.le_of_ble_eq_true rfl) dX3_init_1 ?_
  refine lv_aload_n hx hb dX3_init_4 rfl (lv_at hl 0 rfl) ?_
  refine lv_iconst (v := 4) hx hb dX3_init_5 (by decide) ?_
  refine zz_newi (N' := 4) hC hZ zk_87 (by decide) (by decide) (Nat.le_of_ble_eq_true rfl) (Nat.le_of_ble_eq_true rfl) (Nat.le_of_ble_eq_true rfl) dX3_init_6 (fun q1 H hZ => ?_)
  have hZ : zz_Z g A s.heap [(h0, .inr (2, [.null, .null, .int 0, .int 0])), (q1, .inl (g.2.1, 4, .inl (fun _ => 0)))] H locs := hZ
  refine zz_putF hC hnm hZ 0 rfl zu_X3_9 rfl rfl (Nat.le_of_ble_eq_true rfl) dX3_init_8 (fun H locs hZ => ?_)
  have hZ : zz_Z g A s.heap [(h0, .inr (2, [.null, .ref q1, .int 0, .int 0])), (q1, .inl (g.2.1, 4, .inl (fun _ => 0)))] H locs := hZ
  refine lv_aload_n hx hb dX3_init_11 rfl (lv_at hl 0 rfl) ?_
  refine lv_aload_n hx hb dX3_init_12 rfl (lv_at hl 1 rfl) ?_
  refine zz_putF hC hnm hZ 0 rfl zu_X3_15 rfl rfl (Nat.le_of_ble_eq_true rfl) dX3_init_13 (fun H locs hZ => ?_)
  have hZ : zz_Z g A s.heap [(h0, .inr (2, [.ref st, .ref q1, .int 0, .int 0])), (q1, .inl (g.2.1, 4, .inl (fun _ => 0)))] H locs := hZ
  exact zz_vret hC hZ (⟨q1, rfl⟩) (Nat.le_of_ble_eq_true rfl) (Nat.le_of_ble_eq_true rfl) dX3_init_16
theorem dX2_init_0 : decode cX2_init 0 = .ok (.aload_n 0, 1) := by decide +kernel
theorem dX2_init_1 : decode cX2_init 1 = .ok (.invokespecial 3, 3) := by decide +kernel
theorem zk_114 : Cond.methodLink RX2 3 objectInit ∈ zz_w := zz_in (List.mem_append_right _ (List.mem_append_left _ (List.mem_of_getElem? (i := 114) (by decide +kernel)))) rfl
theorem dX2_init_4 : decode cX2_init 4 = .ok (.aload_n 0, 1) := by decide +kernel
theorem dX2_init_5 : decode cX2_init 5 = .ok (.sipush 3600, 3) := by decide +kernel
theorem dX2_init_8 : decode cX2_init 8 = .ok (.newarray .int, 2) := by decide +kernel
theorem dX2_init_10 : decode cX2_init 10 = .ok (.putfield 9, 3) := by decide +kernel
theorem zk_117 : Cond.fieldLink RX2 9 RX2 "agreed" "[I" ∈ zz_w := zz_in (List.mem_append_right _ (List.mem_append_left _ (List.mem_of_getElem? (i := 117) (by decide +kernel)))) rfl
theorem zi_X2_a : ∀ w ∈ u_ws RX2 TX2 5, w ∈ lw_tbl := by decide +kernel
theorem zi_X2_b : ∀ w ∈ u_ws RX2 TX2 5, goodWord w = true := by decide +kernel
theorem zi_X2 : ∀ w ∈ u_ws RX2 TX2 5, w ∈ zz_w := fun w h => zz_in (zi_X2_a w h) (zi_X2_b w h)
theorem zu_X2_9 : zz_fw RX2 9 1 2 true (.array .int) := ⟨RX2, TX2, 5, tyX2, rfl, zi_X2, by decide, zk_117, tyX2_ok, nmX2, rfl, by decide +kernel, fun _ => rfl⟩
theorem dX2_init_13 : decode cX2_init 13 = .ok (.aload_n 0, 1) := by decide +kernel
theorem dX2_init_14 : decode cX2_init 14 = .ok (.bipush 60, 2) := by decide +kernel
theorem dX2_init_16 : decode cX2_init 16 = .ok (.newarray .int, 2) := by decide +kernel
theorem dX2_init_18 : decode cX2_init 18 = .ok (.putfield 15, 3) := by decide +kernel
theorem zk_118 : Cond.fieldLink RX2 15 RX2 "digested" "[I" ∈ zz_w := zz_in (List.mem_append_right _ (List.mem_append_left _ (List.mem_of_getElem? (i := 118) (by decide +kernel)))) rfl
theorem zu_X2_15 : zz_fw RX2 15 1 3 true (.array .int) := ⟨RX2, TX2, 5, tyX2, rfl, zi_X2, by decide, zk_118, tyX2_ok, nmX2, rfl, by decide +kernel, fun _ => rfl⟩
theorem dX2_init_21 : decode cX2_init 21 = .ok (.aload_n 0, 1) := by decide +kernel
theorem dX2_init_22 : decode cX2_init 22 = .ok (.bipush 60, 2) := by decide +kernel
theorem dX2_init_24 : decode cX2_init 24 = .ok (.newarray .int, 2) := by decide +kernel
theorem dX2_init_26 : decode cX2_init 26 = .ok (.putfield 18, 3) := by decide +kernel
theorem zk_119 : Cond.fieldLink RX2 18 RX2 "digests" "[I" ∈ zz_w := zz_in (List.mem_append_right _ (List.mem_append_left _ (List.mem_of_getElem? (i := 119) (by decide +kernel)))) rfl
theorem zu_X2_18 : zz_fw RX2 18 1 4 true (.array .int) := ⟨RX2, TX2, 5, tyX2, rfl, zi_X2, by decide, zk_119, tyX2_ok, nmX2, rfl, by decide +kernel, fun _ => rfl⟩
theorem dX2_init_29 : decode cX2_init 29 = .ok (.aload_n 0, 1) := by decide +kernel
theorem dX2_init_30 : decode cX2_init 30 = .ok (.aload_n 1, 1) := by decide +kernel
theorem dX2_init_31 : decode cX2_init 31 = .ok (.putfield 21, 3) := by decide +kernel
theorem zk_115 : Cond.fieldLink RX2 21 RX2 "store" "LDecisionArrays$Store;" ∈ zz_w := zz_in (List.mem_append_right _ (List.mem_append_left _ (List.mem_of_getElem? (i := 115) (by decide +kernel)))) rfl
theorem zu_X2_21 : zz_fw RX2 21 1 0 true (.object "DecisionArrays$Store") := ⟨RX2, TX2, 5, tyX2, rfl, zi_X2, by decide, zk_115, tyX2_ok, nmX2, rfl, by decide +kernel, fun _ => rfl⟩
theorem dX2_init_34 : decode cX2_init 34 = .ok (.return_, 1) := by decide +kernel
abbrev rm_ci_Likeness : Room := { frames := 1, cells := 3, slots := 3720, locals := 12 }
abbrev po_ci_Likeness (g : zz_G) (h0 : Nat) (st : Nat) : va_W → Prop := fun (u : va_W) => ∃ (e1 : Nat) (e2 : Nat) (e3 : Nat), u = [(h0, .inr (1, [.ref st, .int 0, .ref e1, .ref e2, .ref e3])), (e1, .inl (g.2.1, 3600, .inl (fun _ => 0))), (e2, .inl (g.2.1, 60, .inl (fun _ => 0))), (e3, .inl (g.2.1, 60, .inl (fun _ => 0)))]
set_option maxHeartbeats 4000000 in
set_option maxRecDepth 100000 in
theorem ci_Likeness (g : zz_G) (h0 : Nat) (st : Nat) : zz_V g yX2_init (.code yX2_init cX2_init 2 none) rm_ci_Likeness [.ref h0, .ref st] [(h0, .inr (1, [.null, .int 0, .null, .null, .null]))] (po_ci_Likeness g h0 st) := by
  refine zz_V.intro (own := RX2) (cc := cX2_init) (nL := 2) (by decide) rfl (Nat.le_of_ble_eq_true rfl) ?_
  intro p l e s m args below meth c A H locs ls hC hnm hZ hl
  obtain ⟨hx, hb, hml, hown, hts, hr, hlocks, hK⟩ := id hC
  have hl : lv_has ls 2 [(0, .ref h0), (1, .ref st)] := hl
  have hZ : zz_Z g A s.heap [(h0, .inr (1, [.null, .int 0, .null, .null, .null]))] H locs := hZ
  refine lv_aload_n hx hb dX2_init_0 rfl (lv_at hl 0 rfl) ?_
  refine zz_obj hC hl zk_114 zk_18 zk_19 (Nat.le_of_ble_eq_true rfl) (Nat.le_of_ble_eq_true rfl) dX2_init_1 ?_
  refine lv_aload_n hx hb dX2_init_4 rfl (lv_at hl 0 rfl) ?_
  refine lv_sipush (v := 3600) hx hb dX2_init_5 (by decide) ?_
  refine zz_newi (N' := 3600) hC hZ zk_87 (by decide) (by decide) (Nat.le_of_ble_eq_true rfl) (Nat.le_of_ble_eq_true rfl) (Nat.le_of_ble_eq_true rfl) dX2_init_8 (fun q1 H hZ => ?_)
  have hZ : zz_Z g A s.heap [(h0, .inr (1, [.null, .int 0, .null, .null, .null])), (q1, .inl (g.2.1, 3600, .inl (fun _ => 0)))] H locs := hZ
  refine zz_putF hC hnm hZ 0 rfl zu_X2_9 rfl rfl (Nat.le_of_ble_eq_true rfl) dX2_init_10 (fun H locs hZ => ?_)
  have hZ : zz_Z g A s.heap [(h0, .inr (1, [.null, .int 0, .ref q1, .null, .null])), (q1, .inl (g.2.1, 3600, .inl (fun _ => 0)))] H locs := hZ
  refine lv_aload_n hx hb dX2_init_13 rfl (lv_at hl 0 rfl) ?_
  refine lv_bipush (v := 60) hx hb dX2_init_14 (by decide) ?_
  refine zz_newi (N' := 60) hC hZ zk_87 (by decide) (by decide) (Nat.le_of_ble_eq_true rfl) (Nat.le_of_ble_eq_true rfl) (Nat.le_of_ble_eq_true rfl) dX2_init_16 (fun q2 H hZ => ?_)
  have hZ : zz_Z g A s.heap [(h0, .inr (1, [.null, .int 0, .ref q1, .null, .null])), (q1, .inl (g.2.1, 3600, .inl (fun _ => 0))), (q2, .inl (g.2.1, 60, .inl (fun _ => 0)))] H locs := hZ
  refine zz_putF hC hnm hZ 0 rfl zu_X2_15 rfl rfl (Nat.le_of_ble_eq_true rfl) dX2_init_18 (fun H locs hZ => ?_)
  have hZ : zz_Z g A s.heap [(h0, .inr (1, [.null, .int 0, .ref q1, .ref q2, .null])), (q1, .inl (g.2.1, 3600, .inl (fun _ => 0))), (q2, .inl (g.2.1, 60, .inl (fun _ => 0)))] H locs := hZ
  refine lv_aload_n hx hb dX2_init_21 rfl (lv_at hl 0 rfl) ?_
  refine lv_bipush (v := 60) hx hb dX2_init_22 (by decide) ?_
  refine zz_newi (N' := 60) hC hZ zk_87 (by decide) (by decide) (Nat.le_of_ble_eq_true rfl) (Nat.le_of_ble_eq_true rfl) (Nat.le_of_ble_eq_true rfl) dX2_init_24 (fun q3 H hZ => ?_)
  have hZ : zz_Z g A s.heap [(h0, .inr (1, [.null, .int 0, .ref q1, .ref q2, .null])), (q1, .inl (g.2.1, 3600, .inl (fun _ => 0))), (q2, .inl (g.2.1, 60, .inl (fun _ => 0))), (q3, .inl (g.2.1, 60, .inl (fun _ => 0)))] H locs := hZ
  refine zz_putF hC hnm hZ 0 rfl zu_X2_18 rfl rfl (Nat.le_of_ble_eq_true rfl) dX2_init_26 (fun H locs hZ => ?_)
  have hZ : zz_Z g A s.heap [(h0, .inr (1, [.null, .int 0, .ref q1, .ref q2, .ref q3])), (q1, .inl (g.2.1, 3600, .inl (fun _ => 0))), (q2, .inl (g.2.1, 60, .inl (fun _ => 0))), (q3, .inl (g.2.1, 60, .inl (fun _ => 0)))] H locs := hZ
  refine lv_aload_n hx hb dX2_init_29 rfl (lv_at hl 0 rfl) ?_
  refine lv_aload_n hx hb dX2_init_30 rfl (lv_at hl 1 rfl) ?_
  refine zz_putF hC hnm hZ 0 rfl zu_X2_21 rfl rfl (Nat.le_of_ble_eq_true rfl) dX2_init_31 (fun H locs hZ => ?_)
  have hZ : zz_Z g A s.heap [(h0, .inr (1, [.ref st, .int 0, .ref q1, .ref q2, .ref q3])), (q1, .inl (g.2.1, 3600, .inl (fun _ => 0))), (q2, .inl (g.2.1, 60, .inl (fun _ => 0))), (q3, .inl (g.2.1, 60, .inl (fun _ => 0)))] H locs := hZ
  exact zz_vret hC hZ (⟨q1, q2, q3, rfl⟩) (Nat.le_of_ble_eq_true rfl) (Nat.le_of_ble_eq_true rfl) dX2_init_34
theorem dX0_init_0 : decode cX0_init 0 = .ok (.aload_n 0, 1) := by decide +kernel
theorem dX0_init_1 : decode cX0_init 1 = .ok (.invokespecial 3, 3) := by decide +kernel
theorem zk_136 : Cond.methodLink RX0 3 objectInit ∈ zz_w := zz_in (List.mem_append_right _ (List.mem_append_left _ (List.mem_of_getElem? (i := 136) (by decide +kernel)))) rfl
theorem dX0_init_4 : decode cX0_init 4 = .ok (.aload_n 0, 1) := by decide +kernel
theorem dX0_init_5 : decode cX0_init 5 = .ok (.bipush 24, 2) := by decide +kernel
theorem dX0_init_7 : decode cX0_init 7 = .ok (.newarray .int, 2) := by decide +kernel
theorem dX0_init_9 : decode cX0_init 9 = .ok (.putfield 9, 3) := by decide +kernel
theorem zk_140 : Cond.fieldLink RX0 9 RX0 "places" "[I" ∈ zz_w := zz_in (List.mem_append_right _ (List.mem_append_left _ (List.mem_of_getElem? (i := 140) (by decide +kernel)))) rfl
theorem zi_X0_a : ∀ w ∈ u_ws RX0 TX0 7, w ∈ lw_tbl := by decide +kernel
theorem zi_X0_b : ∀ w ∈ u_ws RX0 TX0 7, goodWord w = true := by decide +kernel
theorem zi_X0 : ∀ w ∈ u_ws RX0 TX0 7, w ∈ zz_w := fun w h => zz_in (zi_X0_a w h) (zi_X0_b w h)
theorem zu_X0_9 : zz_fw RX0 9 0 2 true (.array .int) := ⟨RX0, TX0, 7, tyX0, rfl, zi_X0, by decide, zk_140, tyX0_ok, nmX0, rfl, by decide +kernel, fun _ => rfl⟩
theorem dX0_init_12 : decode cX0_init 12 = .ok (.aload_n 0, 1) := by decide +kernel
theorem dX0_init_13 : decode cX0_init 13 = .ok (.bipush 24, 2) := by decide +kernel
theorem dX0_init_15 : decode cX0_init 15 = .ok (.newarray .int, 2) := by decide +kernel
theorem dX0_init_17 : decode cX0_init 17 = .ok (.putfield 15, 3) := by decide +kernel
theorem zk_142 : Cond.fieldLink RX0 15 RX0 "slots" "[I" ∈ zz_w := zz_in (List.mem_append_right _ (List.mem_append_left _ (List.mem_of_getElem? (i := 142) (by decide +kernel)))) rfl
theorem zu_X0_15 : zz_fw RX0 15 0 3 true (.array .int) := ⟨RX0, TX0, 7, tyX0, rfl, zi_X0, by decide, zk_142, tyX0_ok, nmX0, rfl, by decide +kernel, fun _ => rfl⟩
theorem dX0_init_20 : decode cX0_init 20 = .ok (.aload_n 0, 1) := by decide +kernel
theorem dX0_init_21 : decode cX0_init 21 = .ok (.bipush 24, 2) := by decide +kernel
theorem dX0_init_23 : decode cX0_init 23 = .ok (.newarray .int, 2) := by decide +kernel
theorem dX0_init_25 : decode cX0_init 25 = .ok (.putfield 18, 3) := by decide +kernel
theorem zk_144 : Cond.fieldLink RX0 18 RX0 "counts" "[I" ∈ zz_w := zz_in (List.mem_append_right _ (List.mem_append_left _ (List.mem_of_getElem? (i := 144) (by decide +kernel)))) rfl
theorem zu_X0_18 : zz_fw RX0 18 0 4 true (.array .int) := ⟨RX0, TX0, 7, tyX0, rfl, zi_X0, by decide, zk_144, tyX0_ok, nmX0, rfl, by decide +kernel, fun _ => rfl⟩
theorem dX0_init_28 : decode cX0_init 28 = .ok (.aload_n 0, 1) := by decide +kernel
theorem dX0_init_29 : decode cX0_init 29 = .ok (.sipush 384, 3) := by decide +kernel
theorem dX0_init_32 : decode cX0_init 32 = .ok (.newarray .long, 2) := by decide +kernel
theorem dX0_init_34 : decode cX0_init 34 = .ok (.putfield 21, 3) := by decide +kernel
theorem zk_146 : Cond.fieldLink RX0 21 RX0 "candidates" "[J" ∈ zz_w := zz_in (List.mem_append_right _ (List.mem_append_left _ (List.mem_of_getElem? (i := 146) (by decide +kernel)))) rfl
theorem zu_X0_21 : zz_fw RX0 21 0 5 true (.array .long) := ⟨RX0, TX0, 7, tyX0, rfl, zi_X0, by decide, zk_146, tyX0_ok, nmX0, rfl, by decide +kernel, fun _ => rfl⟩
theorem dX0_init_37 : decode cX0_init 37 = .ok (.aload_n 0, 1) := by decide +kernel
theorem dX0_init_38 : decode cX0_init 38 = .ok (.bipush 24, 2) := by decide +kernel
theorem dX0_init_40 : decode cX0_init 40 = .ok (.newarray .int, 2) := by decide +kernel
theorem dX0_init_42 : decode cX0_init 42 = .ok (.putfield 25, 3) := by decide +kernel
theorem zk_147 : Cond.fieldLink RX0 25 RX0 "turns" "[I" ∈ zz_w := zz_in (List.mem_append_right _ (List.mem_append_left _ (List.mem_of_getElem? (i := 147) (by decide +kernel)))) rfl
theorem zu_X0_25 : zz_fw RX0 25 0 6 true (.array .int) := ⟨RX0, TX0, 7, tyX0, rfl, zi_X0, by decide, zk_147, tyX0_ok, nmX0, rfl, by decide +kernel, fun _ => rfl⟩
theorem dX0_init_45 : decode cX0_init 45 = .ok (.aload_n 0, 1) := by decide +kernel
theorem dX0_init_46 : decode cX0_init 46 = .ok (.aload_n 1, 1) := by decide +kernel
theorem dX0_init_47 : decode cX0_init 47 = .ok (.putfield 28, 3) := by decide +kernel
theorem zk_137 : Cond.fieldLink RX0 28 RX0 "store" "LDecisionArrays$Store;" ∈ zz_w := zz_in (List.mem_append_right _ (List.mem_append_left _ (List.mem_of_getElem? (i := 137) (by decide +kernel)))) rfl
theorem zu_X0_28 : zz_fw RX0 28 0 0 true (.object "DecisionArrays$Store") := ⟨RX0, TX0, 7, tyX0, rfl, zi_X0, by decide, zk_137, tyX0_ok, nmX0, rfl, by decide +kernel, fun _ => rfl⟩
theorem dX0_init_50 : decode cX0_init 50 = .ok (.return_, 1) := by decide +kernel
abbrev rm_ci_Choices : Room := { frames := 1, cells := 5, slots := 480, locals := 12 }
abbrev po_ci_Choices (g : zz_G) (h0 : Nat) (st : Nat) : va_W → Prop := fun (u : va_W) => ∃ (e1 : Nat) (e2 : Nat) (e3 : Nat) (e4 : Nat) (e5 : Nat), u = [(h0, .inr (0, [.ref st, .int 0, .ref e1, .ref e2, .ref e3, .ref e4, .ref e5])), (e1, .inl (g.2.1, 24, .inl (fun _ => 0))), (e2, .inl (g.2.1, 24, .inl (fun _ => 0))), (e3, .inl (g.2.1, 24, .inl (fun _ => 0))), (e4, .inl (g.2.2.1, 384, .inr (.inl (fun _ => 0)))), (e5, .inl (g.2.1, 24, .inl (fun _ => 0)))]
set_option maxHeartbeats 4000000 in
set_option maxRecDepth 100000 in
theorem ci_Choices (g : zz_G) (h0 : Nat) (st : Nat) : zz_V g yX0_init (.code yX0_init cX0_init 2 none) rm_ci_Choices [.ref h0, .ref st] [(h0, .inr (0, [.null, .int 0, .null, .null, .null, .null, .null]))] (po_ci_Choices g h0 st) := by
  refine zz_V.intro (own := RX0) (cc := cX0_init) (nL := 2) (by decide) rfl (Nat.le_of_ble_eq_true rfl) ?_
  intro p l e s m args below meth c A H locs ls hC hnm hZ hl
  obtain ⟨hx, hb, hml, hown, hts, hr, hlocks, hK⟩ := id hC
  have hl : lv_has ls 2 [(0, .ref h0), (1, .ref st)] := hl
  have hZ : zz_Z g A s.heap [(h0, .inr (0, [.null, .int 0, .null, .null, .null, .null, .null]))] H locs := hZ
  refine lv_aload_n hx hb dX0_init_0 rfl (lv_at hl 0 rfl) ?_
  refine zz_obj hC hl zk_136 zk_18 zk_19 (Nat.le_of_ble_eq_true rfl) (Nat.le_of_ble_eq_true rfl) dX0_init_1 ?_
  refine lv_aload_n hx hb dX0_init_4 rfl (lv_at hl 0 rfl) ?_
  refine lv_bipush (v := 24) hx hb dX0_init_5 (by decide) ?_
  refine zz_newi (N' := 24) hC hZ zk_87 (by decide) (by decide) (Nat.le_of_ble_eq_true rfl) (Nat.le_of_ble_eq_true rfl) (Nat.le_of_ble_eq_true rfl) dX0_init_7 (fun q1 H hZ => ?_)
  have hZ : zz_Z g A s.heap [(h0, .inr (0, [.null, .int 0, .null, .null, .null, .null, .null])), (q1, .inl (g.2.1, 24, .inl (fun _ => 0)))] H locs := hZ
  refine zz_putF hC hnm hZ 0 rfl zu_X0_9 rfl rfl (Nat.le_of_ble_eq_true rfl) dX0_init_9 (fun H locs hZ => ?_)
  have hZ : zz_Z g A s.heap [(h0, .inr (0, [.null, .int 0, .ref q1, .null, .null, .null, .null])), (q1, .inl (g.2.1, 24, .inl (fun _ => 0)))] H locs := hZ
  refine lv_aload_n hx hb dX0_init_12 rfl (lv_at hl 0 rfl) ?_
  refine lv_bipush (v := 24) hx hb dX0_init_13 (by decide) ?_
  refine zz_newi (N' := 24) hC hZ zk_87 (by decide) (by decide) (Nat.le_of_ble_eq_true rfl) (Nat.le_of_ble_eq_true rfl) (Nat.le_of_ble_eq_true rfl) dX0_init_15 (fun q2 H hZ => ?_)
  have hZ : zz_Z g A s.heap [(h0, .inr (0, [.null, .int 0, .ref q1, .null, .null, .null, .null])), (q1, .inl (g.2.1, 24, .inl (fun _ => 0))), (q2, .inl (g.2.1, 24, .inl (fun _ => 0)))] H locs := hZ
  refine zz_putF hC hnm hZ 0 rfl zu_X0_15 rfl rfl (Nat.le_of_ble_eq_true rfl) dX0_init_17 (fun H locs hZ => ?_)
  have hZ : zz_Z g A s.heap [(h0, .inr (0, [.null, .int 0, .ref q1, .ref q2, .null, .null, .null])), (q1, .inl (g.2.1, 24, .inl (fun _ => 0))), (q2, .inl (g.2.1, 24, .inl (fun _ => 0)))] H locs := hZ
  refine lv_aload_n hx hb dX0_init_20 rfl (lv_at hl 0 rfl) ?_
  refine lv_bipush (v := 24) hx hb dX0_init_21 (by decide) ?_
  refine zz_newi (N' := 24) hC hZ zk_87 (by decide) (by decide) (Nat.le_of_ble_eq_true rfl) (Nat.le_of_ble_eq_true rfl) (Nat.le_of_ble_eq_true rfl) dX0_init_23 (fun q3 H hZ => ?_)
  have hZ : zz_Z g A s.heap [(h0, .inr (0, [.null, .int 0, .ref q1, .ref q2, .null, .null, .null])), (q1, .inl (g.2.1, 24, .inl (fun _ => 0))), (q2, .inl (g.2.1, 24, .inl (fun _ => 0))), (q3, .inl (g.2.1, 24, .inl (fun _ => 0)))] H locs := hZ
  refine zz_putF hC hnm hZ 0 rfl zu_X0_18 rfl rfl (Nat.le_of_ble_eq_true rfl) dX0_init_25 (fun H locs hZ => ?_)
  have hZ : zz_Z g A s.heap [(h0, .inr (0, [.null, .int 0, .ref q1, .ref q2, .ref q3, .null, .null])), (q1, .inl (g.2.1, 24, .inl (fun _ => 0))), (q2, .inl (g.2.1, 24, .inl (fun _ => 0))), (q3, .inl (g.2.1, 24, .inl (fun _ => 0)))] H locs := hZ
  refine lv_aload_n hx hb dX0_init_28 rfl (lv_at hl 0 rfl) ?_
  refine lv_sipush (v := 384) hx hb dX0_init_29 (by decide) ?_
  refine zz_newl (N' := 384) hC hZ zk_88 (by decide) (by decide) (Nat.le_of_ble_eq_true rfl) (Nat.le_of_ble_eq_true rfl) (Nat.le_of_ble_eq_true rfl) dX0_init_32 (fun q4 H hZ => ?_)
  have hZ : zz_Z g A s.heap [(h0, .inr (0, [.null, .int 0, .ref q1, .ref q2, .ref q3, .null, .null])), (q1, .inl (g.2.1, 24, .inl (fun _ => 0))), (q2, .inl (g.2.1, 24, .inl (fun _ => 0))), (q3, .inl (g.2.1, 24, .inl (fun _ => 0))), (q4, .inl (g.2.2.1, 384, .inr (.inl (fun _ => 0))))] H locs := hZ
  refine zz_putF hC hnm hZ 0 rfl zu_X0_21 rfl rfl (Nat.le_of_ble_eq_true rfl) dX0_init_34 (fun H locs hZ => ?_)
  have hZ : zz_Z g A s.heap [(h0, .inr (0, [.null, .int 0, .ref q1, .ref q2, .ref q3, .ref q4, .null])), (q1, .inl (g.2.1, 24, .inl (fun _ => 0))), (q2, .inl (g.2.1, 24, .inl (fun _ => 0))), (q3, .inl (g.2.1, 24, .inl (fun _ => 0))), (q4, .inl (g.2.2.1, 384, .inr (.inl (fun _ => 0))))] H locs := hZ
  refine lv_aload_n hx hb dX0_init_37 rfl (lv_at hl 0 rfl) ?_
  refine lv_bipush (v := 24) hx hb dX0_init_38 (by decide) ?_
  refine zz_newi (N' := 24) hC hZ zk_87 (by decide) (by decide) (Nat.le_of_ble_eq_true rfl) (Nat.le_of_ble_eq_true rfl) (Nat.le_of_ble_eq_true rfl) dX0_init_40 (fun q5 H hZ => ?_)
  have hZ : zz_Z g A s.heap [(h0, .inr (0, [.null, .int 0, .ref q1, .ref q2, .ref q3, .ref q4, .null])), (q1, .inl (g.2.1, 24, .inl (fun _ => 0))), (q2, .inl (g.2.1, 24, .inl (fun _ => 0))), (q3, .inl (g.2.1, 24, .inl (fun _ => 0))), (q4, .inl (g.2.2.1, 384, .inr (.inl (fun _ => 0)))), (q5, .inl (g.2.1, 24, .inl (fun _ => 0)))] H locs := hZ
  refine zz_putF hC hnm hZ 0 rfl zu_X0_25 rfl rfl (Nat.le_of_ble_eq_true rfl) dX0_init_42 (fun H locs hZ => ?_)
  have hZ : zz_Z g A s.heap [(h0, .inr (0, [.null, .int 0, .ref q1, .ref q2, .ref q3, .ref q4, .ref q5])), (q1, .inl (g.2.1, 24, .inl (fun _ => 0))), (q2, .inl (g.2.1, 24, .inl (fun _ => 0))), (q3, .inl (g.2.1, 24, .inl (fun _ => 0))), (q4, .inl (g.2.2.1, 384, .inr (.inl (fun _ => 0)))), (q5, .inl (g.2.1, 24, .inl (fun _ => 0)))] H locs := hZ
  refine lv_aload_n hx hb dX0_init_45 rfl (lv_at hl 0 rfl) ?_
  refine lv_aload_n hx hb dX0_init_46 rfl (lv_at hl 1 rfl) ?_
  refine zz_putF hC hnm hZ 0 rfl zu_X0_28 rfl rfl (Nat.le_of_ble_eq_true rfl) dX0_init_47 (fun H locs hZ => ?_)
  have hZ : zz_Z g A s.heap [(h0, .inr (0, [.ref st, .int 0, .ref q1, .ref q2, .ref q3, .ref q4, .ref q5])), (q1, .inl (g.2.1, 24, .inl (fun _ => 0))), (q2, .inl (g.2.1, 24, .inl (fun _ => 0))), (q3, .inl (g.2.1, 24, .inl (fun _ => 0))), (q4, .inl (g.2.2.1, 384, .inr (.inl (fun _ => 0)))), (q5, .inl (g.2.1, 24, .inl (fun _ => 0)))] H locs := hZ
  exact zz_vret hC hZ (⟨q1, q2, q3, q4, q5, rfl⟩) (Nat.le_of_ble_eq_true rfl) (Nat.le_of_ble_eq_true rfl) dX0_init_50
theorem dX5_init_0 : decode cX5_init 0 = .ok (.aload_n 0, 1) := by decide +kernel
theorem dX5_init_1 : decode cX5_init 1 = .ok (.invokespecial 3, 3) := by decide +kernel
theorem zk_168 : Cond.methodLink RX5 3 objectInit ∈ zz_w := zz_in (List.mem_append_right _ (List.mem_append_left _ (List.mem_of_getElem? (i := 168) (by decide +kernel)))) rfl
theorem dX5_init_4 : decode cX5_init 4 = .ok (.aload_n 0, 1) := by decide +kernel
theorem dX5_init_5 : decode cX5_init 5 = .ok (.bipush 12, 2) := by decide +kernel
theorem dX5_init_7 : decode cX5_init 7 = .ok (.newarray .int, 2) := by decide +kernel
theorem dX5_init_9 : decode cX5_init 9 = .ok (.putfield 9, 3) := by decide +kernel
theorem zk_172 : Cond.fieldLink RX5 9 RX5 "sorts" "[I" ∈ zz_w := zz_in (List.mem_append_right _ (List.mem_append_left _ (List.mem_of_getElem? (i := 172) (by decide +kernel)))) rfl
theorem zi_X5_a : ∀ w ∈ u_ws RX5 TX5 9, w ∈ lw_tbl := by decide +kernel
theorem zi_X5_b : ∀ w ∈ u_ws RX5 TX5 9, goodWord w = true := by decide +kernel
theorem zi_X5 : ∀ w ∈ u_ws RX5 TX5 9, w ∈ zz_w := fun w h => zz_in (zi_X5_a w h) (zi_X5_b w h)
theorem zu_X5_9 : zz_fw RX5 9 4 2 true (.array .int) := ⟨RX5, TX5, 9, tyX5, rfl, zi_X5, by decide, zk_172, tyX5_ok, nmX5, rfl, by decide +kernel, fun _ => rfl⟩
theorem dX5_init_12 : decode cX5_init 12 = .ok (.aload_n 0, 1) := by decide +kernel
theorem dX5_init_13 : decode cX5_init 13 = .ok (.bipush 12, 2) := by decide +kernel
theorem dX5_init_15 : decode cX5_init 15 = .ok (.newarray .int, 2) := by decide +kernel
theorem dX5_init_17 : decode cX5_init 17 = .ok (.putfield 15, 3) := by decide +kernel
theorem zk_173 : Cond.fieldLink RX5 15 RX5 "judged" "[I" ∈ zz_w := zz_in (List.mem_append_right _ (List.mem_append_left _ (List.mem_of_getElem? (i := 173) (by decide +kernel)))) rfl
theorem zu_X5_15 : zz_fw RX5 15 4 3 true (.array .int) := ⟨RX5, TX5, 9, tyX5, rfl, zi_X5, by decide, zk_173, tyX5_ok, nmX5, rfl, by decide +kernel, fun _ => rfl⟩
theorem dX5_init_20 : decode cX5_init 20 = .ok (.aload_n 0, 1) := by decide +kernel
theorem dX5_init_21 : decode cX5_init 21 = .ok (.bipush 12, 2) := by decide +kernel
theorem dX5_init_23 : decode cX5_init 23 = .ok (.newarray .int, 2) := by decide +kernel
theorem dX5_init_25 : decode cX5_init 25 = .ok (.putfield 18, 3) := by decide +kernel
theorem zk_174 : Cond.fieldLink RX5 18 RX5 "weights" "[I" ∈ zz_w := zz_in (List.mem_append_right _ (List.mem_append_left _ (List.mem_of_getElem? (i := 174) (by decide +kernel)))) rfl
theorem zu_X5_18 : zz_fw RX5 18 4 4 true (.array .int) := ⟨RX5, TX5, 9, tyX5, rfl, zi_X5, by decide, zk_174, tyX5_ok, nmX5, rfl, by decide +kernel, fun _ => rfl⟩
theorem dX5_init_28 : decode cX5_init 28 = .ok (.aload_n 0, 1) := by decide +kernel
theorem dX5_init_29 : decode cX5_init 29 = .ok (.bipush 12, 2) := by decide +kernel
theorem dX5_init_31 : decode cX5_init 31 = .ok (.newarray .long, 2) := by decide +kernel
theorem dX5_init_33 : decode cX5_init 33 = .ok (.putfield 21, 3) := by decide +kernel
theorem zk_175 : Cond.fieldLink RX5 21 RX5 "lows" "[J" ∈ zz_w := zz_in (List.mem_append_right _ (List.mem_append_left _ (List.mem_of_getElem? (i := 175) (by decide +kernel)))) rfl
theorem zu_X5_21 : zz_fw RX5 21 4 5 true (.array .long) := ⟨RX5, TX5, 9, tyX5, rfl, zi_X5, by decide, zk_175, tyX5_ok, nmX5, rfl, by decide +kernel, fun _ => rfl⟩
theorem dX5_init_36 : decode cX5_init 36 = .ok (.aload_n 0, 1) := by decide +kernel
theorem dX5_init_37 : decode cX5_init 37 = .ok (.bipush 12, 2) := by decide +kernel
theorem dX5_init_39 : decode cX5_init 39 = .ok (.newarray .long, 2) := by decide +kernel
theorem dX5_init_41 : decode cX5_init 41 = .ok (.putfield 25, 3) := by decide +kernel
theorem zk_176 : Cond.fieldLink RX5 25 RX5 "highs" "[J" ∈ zz_w := zz_in (List.mem_append_right _ (List.mem_append_left _ (List.mem_of_getElem? (i := 176) (by decide +kernel)))) rfl
theorem zu_X5_25 : zz_fw RX5 25 4 6 true (.array .long) := ⟨RX5, TX5, 9, tyX5, rfl, zi_X5, by decide, zk_176, tyX5_ok, nmX5, rfl, by decide +kernel, fun _ => rfl⟩
theorem dX5_init_44 : decode cX5_init 44 = .ok (.aload_n 0, 1) := by decide +kernel
theorem dX5_init_45 : decode cX5_init 45 = .ok (.bipush 12, 2) := by decide +kernel
theorem dX5_init_47 : decode cX5_init 47 = .ok (.newarray .long, 2) := by decide +kernel
theorem dX5_init_49 : decode cX5_init 49 = .ok (.putfield 28, 3) := by decide +kernel
theorem zk_177 : Cond.fieldLink RX5 28 RX5 "tallies" "[J" ∈ zz_w := zz_in (List.mem_append_right _ (List.mem_append_left _ (List.mem_of_getElem? (i := 177) (by decide +kernel)))) rfl
theorem zu_X5_28 : zz_fw RX5 28 4 7 true (.array .long) := ⟨RX5, TX5, 9, tyX5, rfl, zi_X5, by decide, zk_177, tyX5_ok, nmX5, rfl, by decide +kernel, fun _ => rfl⟩
theorem dX5_init_52 : decode cX5_init 52 = .ok (.aload_n 0, 1) := by decide +kernel
theorem dX5_init_53 : decode cX5_init 53 = .ok (.bipush 12, 2) := by decide +kernel
theorem dX5_init_55 : decode cX5_init 55 = .ok (.newarray .long, 2) := by decide +kernel
theorem dX5_init_57 : decode cX5_init 57 = .ok (.putfield 31, 3) := by decide +kernel
theorem zk_178 : Cond.fieldLink RX5 31 RX5 "borne" "[J" ∈ zz_w := zz_in (List.mem_append_right _ (List.mem_append_left _ (List.mem_of_getElem? (i := 178) (by decide +kernel)))) rfl
theorem zu_X5_31 : zz_fw RX5 31 4 8 true (.array .long) := ⟨RX5, TX5, 9, tyX5, rfl, zi_X5, by decide, zk_178, tyX5_ok, nmX5, rfl, by decide +kernel, fun _ => rfl⟩
theorem dX5_init_60 : decode cX5_init 60 = .ok (.aload_n 0, 1) := by decide +kernel
theorem dX5_init_61 : decode cX5_init 61 = .ok (.aload_n 1, 1) := by decide +kernel
theorem dX5_init_62 : decode cX5_init 62 = .ok (.putfield 34, 3) := by decide +kernel
theorem zk_169 : Cond.fieldLink RX5 34 RX5 "store" "LDecisionArrays$Store;" ∈ zz_w := zz_in (List.mem_append_right _ (List.mem_append_left _ (List.mem_of_getElem? (i := 169) (by decide +kernel)))) rfl
theorem zu_X5_34 : zz_fw RX5 34 4 0 true (.object "DecisionArrays$Store") := ⟨RX5, TX5, 9, tyX5, rfl, zi_X5, by decide, zk_169, tyX5_ok, nmX5, rfl, by decide +kernel, fun _ => rfl⟩
theorem dX5_init_65 : decode cX5_init 65 = .ok (.return_, 1) := by decide +kernel
abbrev rm_ci_Rules : Room := { frames := 1, cells := 7, slots := 84, locals := 12 }
abbrev po_ci_Rules (g : zz_G) (h0 : Nat) (st : Nat) : va_W → Prop := fun (u : va_W) => ∃ (e1 : Nat) (e2 : Nat) (e3 : Nat) (e4 : Nat) (e5 : Nat) (e6 : Nat) (e7 : Nat), u = [(h0, .inr (4, [.ref st, .int 0, .ref e1, .ref e2, .ref e3, .ref e4, .ref e5, .ref e6, .ref e7])), (e1, .inl (g.2.1, 12, .inl (fun _ => 0))), (e2, .inl (g.2.1, 12, .inl (fun _ => 0))), (e3, .inl (g.2.1, 12, .inl (fun _ => 0))), (e4, .inl (g.2.2.1, 12, .inr (.inl (fun _ => 0)))), (e5, .inl (g.2.2.1, 12, .inr (.inl (fun _ => 0)))), (e6, .inl (g.2.2.1, 12, .inr (.inl (fun _ => 0)))), (e7, .inl (g.2.2.1, 12, .inr (.inl (fun _ => 0))))]
set_option maxHeartbeats 4000000 in
set_option maxRecDepth 100000 in
theorem ci_Rules (g : zz_G) (h0 : Nat) (st : Nat) : zz_V g yX5_init (.code yX5_init cX5_init 2 none) rm_ci_Rules [.ref h0, .ref st] [(h0, .inr (4, [.null, .int 0, .null, .null, .null, .null, .null, .null, .null]))] (po_ci_Rules g h0 st) := by
  refine zz_V.intro (own := RX5) (cc := cX5_init) (nL := 2) (by decide) rfl (Nat.le_of_ble_eq_true rfl) ?_
  intro p l e s m args below meth c A H locs ls hC hnm hZ hl
  obtain ⟨hx, hb, hml, hown, hts, hr, hlocks, hK⟩ := id hC
  have hl : lv_has ls 2 [(0, .ref h0), (1, .ref st)] := hl
  have hZ : zz_Z g A s.heap [(h0, .inr (4, [.null, .int 0, .null, .null, .null, .null, .null, .null, .null]))] H locs := hZ
  refine lv_aload_n hx hb dX5_init_0 rfl (lv_at hl 0 rfl) ?_
  refine zz_obj hC hl zk_168 zk_18 zk_19 (Nat.le_of_ble_eq_true rfl) (Nat.le_of_ble_eq_true rfl) dX5_init_1 ?_
  refine lv_aload_n hx hb dX5_init_4 rfl (lv_at hl 0 rfl) ?_
  refine lv_bipush (v := 12) hx hb dX5_init_5 (by decide) ?_
  refine zz_newi (N' := 12) hC hZ zk_87 (by decide) (by decide) (Nat.le_of_ble_eq_true rfl) (Nat.le_of_ble_eq_true rfl) (Nat.le_of_ble_eq_true rfl) dX5_init_7 (fun q1 H hZ => ?_)
  have hZ : zz_Z g A s.heap [(h0, .inr (4, [.null, .int 0, .null, .null, .null, .null, .null, .null, .null])), (q1, .inl (g.2.1, 12, .inl (fun _ => 0)))] H locs := hZ
  refine zz_putF hC hnm hZ 0 rfl zu_X5_9 rfl rfl (Nat.le_of_ble_eq_true rfl) dX5_init_9 (fun H locs hZ => ?_)
  have hZ : zz_Z g A s.heap [(h0, .inr (4, [.null, .int 0, .ref q1, .null, .null, .null, .null, .null, .null])), (q1, .inl (g.2.1, 12, .inl (fun _ => 0)))] H locs := hZ
  refine lv_aload_n hx hb dX5_init_12 rfl (lv_at hl 0 rfl) ?_
  refine lv_bipush (v := 12) hx hb dX5_init_13 (by decide) ?_
  refine zz_newi (N' := 12) hC hZ zk_87 (by decide) (by decide) (Nat.le_of_ble_eq_true rfl) (Nat.le_of_ble_eq_true rfl) (Nat.le_of_ble_eq_true rfl) dX5_init_15 (fun q2 H hZ => ?_)
  have hZ : zz_Z g A s.heap [(h0, .inr (4, [.null, .int 0, .ref q1, .null, .null, .null, .null, .null, .null])), (q1, .inl (g.2.1, 12, .inl (fun _ => 0))), (q2, .inl (g.2.1, 12, .inl (fun _ => 0)))] H locs := hZ
  refine zz_putF hC hnm hZ 0 rfl zu_X5_15 rfl rfl (Nat.le_of_ble_eq_true rfl) dX5_init_17 (fun H locs hZ => ?_)
  have hZ : zz_Z g A s.heap [(h0, .inr (4, [.null, .int 0, .ref q1, .ref q2, .null, .null, .null, .null, .null])), (q1, .inl (g.2.1, 12, .inl (fun _ => 0))), (q2, .inl (g.2.1, 12, .inl (fun _ => 0)))] H locs := hZ
  refine lv_aload_n hx hb dX5_init_20 rfl (lv_at hl 0 rfl) ?_
  refine lv_bipush (v := 12) hx hb dX5_init_21 (by decide) ?_
  refine zz_newi (N' := 12) hC hZ zk_87 (by decide) (by decide) (Nat.le_of_ble_eq_true rfl) (Nat.le_of_ble_eq_true rfl) (Nat.le_of_ble_eq_true rfl) dX5_init_23 (fun q3 H hZ => ?_)
  have hZ : zz_Z g A s.heap [(h0, .inr (4, [.null, .int 0, .ref q1, .ref q2, .null, .null, .null, .null, .null])), (q1, .inl (g.2.1, 12, .inl (fun _ => 0))), (q2, .inl (g.2.1, 12, .inl (fun _ => 0))), (q3, .inl (g.2.1, 12, .inl (fun _ => 0)))] H locs := hZ
  refine zz_putF hC hnm hZ 0 rfl zu_X5_18 rfl rfl (Nat.le_of_ble_eq_true rfl) dX5_init_25 (fun H locs hZ => ?_)
  have hZ : zz_Z g A s.heap [(h0, .inr (4, [.null, .int 0, .ref q1, .ref q2, .ref q3, .null, .null, .null, .null])), (q1, .inl (g.2.1, 12, .inl (fun _ => 0))), (q2, .inl (g.2.1, 12, .inl (fun _ => 0))), (q3, .inl (g.2.1, 12, .inl (fun _ => 0)))] H locs := hZ
  refine lv_aload_n hx hb dX5_init_28 rfl (lv_at hl 0 rfl) ?_
  refine lv_bipush (v := 12) hx hb dX5_init_29 (by decide) ?_
  refine zz_newl (N' := 12) hC hZ zk_88 (by decide) (by decide) (Nat.le_of_ble_eq_true rfl) (Nat.le_of_ble_eq_true rfl) (Nat.le_of_ble_eq_true rfl) dX5_init_31 (fun q4 H hZ => ?_)
  have hZ : zz_Z g A s.heap [(h0, .inr (4, [.null, .int 0, .ref q1, .ref q2, .ref q3, .null, .null, .null, .null])), (q1, .inl (g.2.1, 12, .inl (fun _ => 0))), (q2, .inl (g.2.1, 12, .inl (fun _ => 0))), (q3, .inl (g.2.1, 12, .inl (fun _ => 0))), (q4, .inl (g.2.2.1, 12, .inr (.inl (fun _ => 0))))] H locs := hZ
  refine zz_putF hC hnm hZ 0 rfl zu_X5_21 rfl rfl (Nat.le_of_ble_eq_true rfl) dX5_init_33 (fun H locs hZ => ?_)
  have hZ : zz_Z g A s.heap [(h0, .inr (4, [.null, .int 0, .ref q1, .ref q2, .ref q3, .ref q4, .null, .null, .null])), (q1, .inl (g.2.1, 12, .inl (fun _ => 0))), (q2, .inl (g.2.1, 12, .inl (fun _ => 0))), (q3, .inl (g.2.1, 12, .inl (fun _ => 0))), (q4, .inl (g.2.2.1, 12, .inr (.inl (fun _ => 0))))] H locs := hZ
  refine lv_aload_n hx hb dX5_init_36 rfl (lv_at hl 0 rfl) ?_
  refine lv_bipush (v := 12) hx hb dX5_init_37 (by decide) ?_
  refine zz_newl (N' := 12) hC hZ zk_88 (by decide) (by decide) (Nat.le_of_ble_eq_true rfl) (Nat.le_of_ble_eq_true rfl) (Nat.le_of_ble_eq_true rfl) dX5_init_39 (fun q5 H hZ => ?_)
  have hZ : zz_Z g A s.heap [(h0, .inr (4, [.null, .int 0, .ref q1, .ref q2, .ref q3, .ref q4, .null, .null, .null])), (q1, .inl (g.2.1, 12, .inl (fun _ => 0))), (q2, .inl (g.2.1, 12, .inl (fun _ => 0))), (q3, .inl (g.2.1, 12, .inl (fun _ => 0))), (q4, .inl (g.2.2.1, 12, .inr (.inl (fun _ => 0)))), (q5, .inl (g.2.2.1, 12, .inr (.inl (fun _ => 0))))] H locs := hZ
  refine zz_putF hC hnm hZ 0 rfl zu_X5_25 rfl rfl (Nat.le_of_ble_eq_true rfl) dX5_init_41 (fun H locs hZ => ?_)
  have hZ : zz_Z g A s.heap [(h0, .inr (4, [.null, .int 0, .ref q1, .ref q2, .ref q3, .ref q4, .ref q5, .null, .null])), (q1, .inl (g.2.1, 12, .inl (fun _ => 0))), (q2, .inl (g.2.1, 12, .inl (fun _ => 0))), (q3, .inl (g.2.1, 12, .inl (fun _ => 0))), (q4, .inl (g.2.2.1, 12, .inr (.inl (fun _ => 0)))), (q5, .inl (g.2.2.1, 12, .inr (.inl (fun _ => 0))))] H locs := hZ
  refine lv_aload_n hx hb dX5_init_44 rfl (lv_at hl 0 rfl) ?_
  refine lv_bipush (v := 12) hx hb dX5_init_45 (by decide) ?_
  refine zz_newl (N' := 12) hC hZ zk_88 (by decide) (by decide) (Nat.le_of_ble_eq_true rfl) (Nat.le_of_ble_eq_true rfl) (Nat.le_of_ble_eq_true rfl) dX5_init_47 (fun q6 H hZ => ?_)
  have hZ : zz_Z g A s.heap [(h0, .inr (4, [.null, .int 0, .ref q1, .ref q2, .ref q3, .ref q4, .ref q5, .null, .null])), (q1, .inl (g.2.1, 12, .inl (fun _ => 0))), (q2, .inl (g.2.1, 12, .inl (fun _ => 0))), (q3, .inl (g.2.1, 12, .inl (fun _ => 0))), (q4, .inl (g.2.2.1, 12, .inr (.inl (fun _ => 0)))), (q5, .inl (g.2.2.1, 12, .inr (.inl (fun _ => 0)))), (q6, .inl (g.2.2.1, 12, .inr (.inl (fun _ => 0))))] H locs := hZ
  refine zz_putF hC hnm hZ 0 rfl zu_X5_28 rfl rfl (Nat.le_of_ble_eq_true rfl) dX5_init_49 (fun H locs hZ => ?_)
  have hZ : zz_Z g A s.heap [(h0, .inr (4, [.null, .int 0, .ref q1, .ref q2, .ref q3, .ref q4, .ref q5, .ref q6, .null])), (q1, .inl (g.2.1, 12, .inl (fun _ => 0))), (q2, .inl (g.2.1, 12, .inl (fun _ => 0))), (q3, .inl (g.2.1, 12, .inl (fun _ => 0))), (q4, .inl (g.2.2.1, 12, .inr (.inl (fun _ => 0)))), (q5, .inl (g.2.2.1, 12, .inr (.inl (fun _ => 0)))), (q6, .inl (g.2.2.1, 12, .inr (.inl (fun _ => 0))))] H locs := hZ
  refine lv_aload_n hx hb dX5_init_52 rfl (lv_at hl 0 rfl) ?_
  refine lv_bipush (v := 12) hx hb dX5_init_53 (by decide) ?_
  refine zz_newl (N' := 12) hC hZ zk_88 (by decide) (by decide) (Nat.le_of_ble_eq_true rfl) (Nat.le_of_ble_eq_true rfl) (Nat.le_of_ble_eq_true rfl) dX5_init_55 (fun q7 H hZ => ?_)
  have hZ : zz_Z g A s.heap [(h0, .inr (4, [.null, .int 0, .ref q1, .ref q2, .ref q3, .ref q4, .ref q5, .ref q6, .null])), (q1, .inl (g.2.1, 12, .inl (fun _ => 0))), (q2, .inl (g.2.1, 12, .inl (fun _ => 0))), (q3, .inl (g.2.1, 12, .inl (fun _ => 0))), (q4, .inl (g.2.2.1, 12, .inr (.inl (fun _ => 0)))), (q5, .inl (g.2.2.1, 12, .inr (.inl (fun _ => 0)))), (q6, .inl (g.2.2.1, 12, .inr (.inl (fun _ => 0)))), (q7, .inl (g.2.2.1, 12, .inr (.inl (fun _ => 0))))] H locs := hZ
  refine zz_putF hC hnm hZ 0 rfl zu_X5_31 rfl rfl (Nat.le_of_ble_eq_true rfl) dX5_init_57 (fun H locs hZ => ?_)
  have hZ : zz_Z g A s.heap [(h0, .inr (4, [.null, .int 0, .ref q1, .ref q2, .ref q3, .ref q4, .ref q5, .ref q6, .ref q7])), (q1, .inl (g.2.1, 12, .inl (fun _ => 0))), (q2, .inl (g.2.1, 12, .inl (fun _ => 0))), (q3, .inl (g.2.1, 12, .inl (fun _ => 0))), (q4, .inl (g.2.2.1, 12, .inr (.inl (fun _ => 0)))), (q5, .inl (g.2.2.1, 12, .inr (.inl (fun _ => 0)))), (q6, .inl (g.2.2.1, 12, .inr (.inl (fun _ => 0)))), (q7, .inl (g.2.2.1, 12, .inr (.inl (fun _ => 0))))] H locs := hZ
  refine lv_aload_n hx hb dX5_init_60 rfl (lv_at hl 0 rfl) ?_
  refine lv_aload_n hx hb dX5_init_61 rfl (lv_at hl 1 rfl) ?_
  refine zz_putF hC hnm hZ 0 rfl zu_X5_34 rfl rfl (Nat.le_of_ble_eq_true rfl) dX5_init_62 (fun H locs hZ => ?_)
  have hZ : zz_Z g A s.heap [(h0, .inr (4, [.ref st, .int 0, .ref q1, .ref q2, .ref q3, .ref q4, .ref q5, .ref q6, .ref q7])), (q1, .inl (g.2.1, 12, .inl (fun _ => 0))), (q2, .inl (g.2.1, 12, .inl (fun _ => 0))), (q3, .inl (g.2.1, 12, .inl (fun _ => 0))), (q4, .inl (g.2.2.1, 12, .inr (.inl (fun _ => 0)))), (q5, .inl (g.2.2.1, 12, .inr (.inl (fun _ => 0)))), (q6, .inl (g.2.2.1, 12, .inr (.inl (fun _ => 0)))), (q7, .inl (g.2.2.1, 12, .inr (.inl (fun _ => 0))))] H locs := hZ
  exact zz_vret hC hZ (⟨q1, q2, q3, q4, q5, q6, q7, rfl⟩) (Nat.le_of_ble_eq_true rfl) (Nat.le_of_ble_eq_true rfl) dX5_init_65
theorem dX4_init_0 : decode cX4_init 0 = .ok (.aload_n 0, 1) := by decide +kernel
theorem dX4_init_1 : decode cX4_init 1 = .ok (.invokespecial 3, 3) := by decide +kernel
theorem zk_702 : Cond.methodLink RX4 3 objectInit ∈ zz_w := zz_in (List.mem_append_right _ (List.mem_append_right _ (List.mem_append_right _ (List.mem_append_left _ (List.mem_of_getElem? (i := 222) (by decide +kernel)))))) rfl
theorem dX4_init_4 : decode cX4_init 4 = .ok (.aload_n 0, 1) := by decide +kernel
theorem dX4_init_5 : decode cX4_init 5 = .ok (.sipush 4000, 3) := by decide +kernel
theorem dX4_init_8 : decode cX4_init 8 = .ok (.newarray .long, 2) := by decide +kernel
theorem dX4_init_10 : decode cX4_init 10 = .ok (.putfield 9, 3) := by decide +kernel
theorem zk_703 : Cond.fieldLink RX4 9 RX4 "bits" "[J" ∈ zz_w := zz_in (List.mem_append_right _ (List.mem_append_right _ (List.mem_append_right _ (List.mem_append_left _ (List.mem_of_getElem? (i := 223) (by decide +kernel)))))) rfl
theorem zi_X4_a : ∀ w ∈ u_ws RX4 TX4 3, w ∈ lw_tbl := by decide +kernel
theorem zi_X4_b : ∀ w ∈ u_ws RX4 TX4 3, goodWord w = true := by decide +kernel
theorem zi_X4 : ∀ w ∈ u_ws RX4 TX4 3, w ∈ zz_w := fun w h => zz_in (zi_X4_a w h) (zi_X4_b w h)
theorem zu_X4_9 : zz_fw RX4 9 3 0 true (.array .long) := ⟨RX4, TX4, 3, tyX4, rfl, zi_X4, by decide, zk_703, tyX4_ok, nmX4, rfl, by decide +kernel, fun _ => rfl⟩
theorem dX4_init_13 : decode cX4_init 13 = .ok (.aload_n 0, 1) := by decide +kernel
theorem dX4_init_14 : decode cX4_init 14 = .ok (.sipush 4000, 3) := by decide +kernel
theorem dX4_init_17 : decode cX4_init 17 = .ok (.newarray .boolean, 2) := by decide +kernel
theorem dX4_init_19 : decode cX4_init 19 = .ok (.putfield 15, 3) := by decide +kernel
theorem zk_704 : Cond.fieldLink RX4 15 RX4 "pinned" "[Z" ∈ zz_w := zz_in (List.mem_append_right _ (List.mem_append_right _ (List.mem_append_right _ (List.mem_append_left _ (List.mem_of_getElem? (i := 224) (by decide +kernel)))))) rfl
theorem zu_X4_15 : zz_fw RX4 15 3 1 true (.array .boolean) := ⟨RX4, TX4, 3, tyX4, rfl, zi_X4, by decide, zk_704, tyX4_ok, nmX4, rfl, by decide +kernel, fun _ => rfl⟩
theorem dX4_init_22 : decode cX4_init 22 = .ok (.return_, 1) := by decide +kernel
abbrev rm_ci_Mark : Room := { frames := 1, cells := 2, slots := 8000, locals := 12 }
abbrev po_ci_Mark (g : zz_G) (h0 : Nat) : va_W → Prop := fun (u : va_W) => ∃ (e1 : Nat) (e2 : Nat), u = [(h0, .inr (3, [.ref e1, .ref e2, .int 0])), (e1, .inl (g.2.2.1, 4000, .inr (.inl (fun _ => 0)))), (e2, .inl (g.2.2.2.1, 4000, .inl (fun _ => 0)))]
set_option maxHeartbeats 4000000 in
set_option maxRecDepth 100000 in
theorem ci_Mark (g : zz_G) (h0 : Nat) : zz_V g yX4_init (.code yX4_init cX4_init 1 none) rm_ci_Mark [.ref h0] [(h0, .inr (3, [.null, .null, .int 0]))] (po_ci_Mark g h0) := by
  refine zz_V.intro (own := RX4) (cc := cX4_init) (nL := 1) (by decide) rfl (Nat.le_of_ble_eq_true rfl) ?_
  intro p l e s m args below meth c A H locs ls hC hnm hZ hl
  obtain ⟨hx, hb, hml, hown, hts, hr, hlocks, hK⟩ := id hC
  have hl : lv_has ls 1 [(0, .ref h0)] := hl
  have hZ : zz_Z g A s.heap [(h0, .inr (3, [.null, .null, .int 0]))] H locs := hZ
  refine lv_aload_n hx hb dX4_init_0 rfl (lv_at hl 0 rfl) ?_
  refine zz_obj hC hl zk_702 zk_18 zk_19 (Nat.le_of_ble_eq_true rfl) (Nat.le_of_ble_eq_true rfl) dX4_init_1 ?_
  refine lv_aload_n hx hb dX4_init_4 rfl (lv_at hl 0 rfl) ?_
  refine lv_sipush (v := 4000) hx hb dX4_init_5 (by decide) ?_
  refine zz_newl (N' := 4000) hC hZ zk_88 (by decide) (by decide) (Nat.le_of_ble_eq_true rfl) (Nat.le_of_ble_eq_true rfl) (Nat.le_of_ble_eq_true rfl) dX4_init_8 (fun q1 H hZ => ?_)
  have hZ : zz_Z g A s.heap [(h0, .inr (3, [.null, .null, .int 0])), (q1, .inl (g.2.2.1, 4000, .inr (.inl (fun _ => 0))))] H locs := hZ
  refine zz_putF hC hnm hZ 0 rfl zu_X4_9 rfl rfl (Nat.le_of_ble_eq_true rfl) dX4_init_10 (fun H locs hZ => ?_)
  have hZ : zz_Z g A s.heap [(h0, .inr (3, [.ref q1, .null, .int 0])), (q1, .inl (g.2.2.1, 4000, .inr (.inl (fun _ => 0))))] H locs := hZ
  refine lv_aload_n hx hb dX4_init_13 rfl (lv_at hl 0 rfl) ?_
  refine lv_sipush (v := 4000) hx hb dX4_init_14 (by decide) ?_
  refine zz_newz (N' := 4000) hC hZ zk_89 (by decide) (by decide) (Nat.le_of_ble_eq_true rfl) (Nat.le_of_ble_eq_true rfl) (Nat.le_of_ble_eq_true rfl) dX4_init_17 (fun q2 H hZ => ?_)
  have hZ : zz_Z g A s.heap [(h0, .inr (3, [.ref q1, .null, .int 0])), (q1, .inl (g.2.2.1, 4000, .inr (.inl (fun _ => 0)))), (q2, .inl (g.2.2.2.1, 4000, .inl (fun _ => 0)))] H locs := hZ
  refine zz_putF hC hnm hZ 0 rfl zu_X4_15 rfl rfl (Nat.le_of_ble_eq_true rfl) dX4_init_19 (fun H locs hZ => ?_)
  have hZ : zz_Z g A s.heap [(h0, .inr (3, [.ref q1, .ref q2, .int 0])), (q1, .inl (g.2.2.1, 4000, .inr (.inl (fun _ => 0)))), (q2, .inl (g.2.2.2.1, 4000, .inl (fun _ => 0)))] H locs := hZ
  exact zz_vret hC hZ (⟨q1, q2, rfl⟩) (Nat.le_of_ble_eq_true rfl) (Nat.le_of_ble_eq_true rfl) dX4_init_22
theorem dX7_init_0 : decode cX7_init 0 = .ok (.aload_n 0, 1) := by decide +kernel
theorem dX7_init_1 : decode cX7_init 1 = .ok (.invokespecial 1, 3) := by decide +kernel
theorem zk_17 : Cond.methodLink RX7 1 objectInit ∈ zz_w := zz_in (List.mem_append_right _ (List.mem_append_left _ (List.mem_of_getElem? (i := 17) (by decide +kernel)))) rfl
theorem dX7_init_4 : decode cX7_init 4 = .ok (.aload_n 0, 1) := by decide +kernel
theorem dX7_init_5 : decode cX7_init 5 = .ok (.new 7, 3) := by decide +kernel
theorem zk_20 : Cond.classLink RX7 7 RX6 ∈ zz_w := zz_in (List.mem_append_right _ (List.mem_append_left _ (List.mem_of_getElem? (i := 20) (by decide +kernel)))) rfl
theorem zk_21 : Cond.instantiable RX6 10 ∈ zz_w := zz_in (List.mem_append_right _ (List.mem_append_left _ (List.mem_of_getElem? (i := 21) (by decide +kernel)))) rfl
theorem zk_2 : Cond.initialized RX6 ∈ zz_w := zz_in (List.mem_append_right _ (List.mem_append_left _ (List.mem_of_getElem? (i := 2) (by decide +kernel)))) rfl
theorem zn_X7_7 : zz_n RX7 7 5 10 [.int 0, .int 0, .null, .null, .null, .null, .null, .null, .null, .null] := ⟨RX6, TX6, tyX6, rfl, zi_X6, tyX6_ok, zk_20, zk_21, zk_2, by decide +kernel⟩
theorem dX7_init_8 : decode cX7_init 8 = .ok (.dup, 1) := by decide +kernel
theorem dX7_init_9 : decode cX7_init 9 = .ok (.invokespecial 9, 3) := by decide +kernel
set_option maxRecDepth 20000 in
theorem zk_24 : Cond.code yX6_init cX6_init 1 none ∈ zz_w := zz_in (List.mem_append_right _ (List.mem_append_left _ (List.mem_of_getElem? (i := 24) (rfl)))) rfl
theorem zk_23 : Cond.instanceMethod yX6_init ∈ zz_w := zz_in (List.mem_append_right _ (List.mem_append_left _ (List.mem_of_getElem? (i := 23) (by decide +kernel)))) rfl
theorem zc_X7_9 : zz_cN RX7 9 yX6_init "DecisionArrays" cX6_init 1 0 := ⟨by decide, zk_24, zk_2, ⟨by decide, by decide, by decide +kernel⟩, rfl, zk_23⟩
theorem dX7_init_12 : decode cX7_init 12 = .ok (.putfield 10, 3) := by decide +kernel
theorem zk_200 : Cond.fieldLink RX7 10 RX7 "store" "LDecisionArrays$Store;" ∈ zz_w := zz_in (List.mem_append_right _ (List.mem_append_left _ (List.mem_of_getElem? (i := 200) (by decide +kernel)))) rfl
theorem zu_X7_10 : zz_fw RX7 10 6 0 true (.object "DecisionArrays$Store") := ⟨RX7, TX7, 8, tyX7, rfl, zi_X7, by decide, zk_200, tyX7_ok, nmX7, rfl, by decide +kernel, fun _ => rfl⟩
theorem dX7_init_15 : decode cX7_init 15 = .ok (.aload_n 0, 1) := by decide +kernel
theorem dX7_init_16 : decode cX7_init 16 = .ok (.new 16, 3) := by decide +kernel
theorem zk_90 : Cond.classLink RX7 16 RX3 ∈ zz_w := zz_in (List.mem_append_right _ (List.mem_append_left _ (List.mem_of_getElem? (i := 90) (by decide +kernel)))) rfl
theorem zk_91 : Cond.instantiable RX3 4 ∈ zz_w := zz_in (List.mem_append_right _ (List.mem_append_left _ (List.mem_of_getElem? (i := 91) (by decide +kernel)))) rfl
theorem zk_3 : Cond.initialized RX3 ∈ zz_w := zz_in (List.mem_append_right _ (List.mem_append_left _ (List.mem_of_getElem? (i := 3) (by decide +kernel)))) rfl
theorem zn_X7_16 : zz_n RX7 16 2 4 [.null, .null, .int 0, .int 0] := ⟨RX3, TX3, tyX3, rfl, zi_X3, tyX3_ok, zk_90, zk_91, zk_3, by decide +kernel⟩
theorem dX7_init_19 : decode cX7_init 19 = .ok (.dup, 1) := by decide +kernel
theorem dX7_init_20 : decode cX7_init 20 = .ok (.aload_n 0, 1) := by decide +kernel
theorem dX7_init_21 : decode cX7_init 21 = .ok (.getfield 10, 3) := by decide +kernel
theorem zf_X7_10 : zz_f RX7 10 6 0 := ⟨RX7, TX7, 8, rfl, zi_X7, by decide, zk_200⟩
theorem dX7_init_24 : decode cX7_init 24 = .ok (.invokespecial 18, 3) := by decide +kernel
theorem zk_92 : Cond.methodLink RX7 18 yX3_init ∈ zz_w := zz_in (List.mem_append_right _ (List.mem_append_left _ (List.mem_of_getElem? (i := 92) (by decide +kernel)))) rfl
set_option maxRecDepth 20000 in
theorem zk_94 : Cond.code yX3_init cX3_init 2 none ∈ zz_w := zz_in (List.mem_append_right _ (List.mem_append_left _ (List.mem_of_getElem? (i := 94) (rfl)))) rfl
theorem zk_93 : Cond.instanceMethod yX3_init ∈ zz_w := zz_in (List.mem_append_right _ (List.mem_append_left _ (List.mem_of_getElem? (i := 93) (by decide +kernel)))) rfl
theorem zc_X7_18 : zz_cI RX7 18 yX3_init cX3_init 2 1 := ⟨⟨zk_92, zk_94, zk_3, by decide, by decide, by decide +kernel⟩, rfl, zk_93⟩
theorem dX7_init_27 : decode cX7_init 27 = .ok (.putfield 21, 3) := by decide +kernel
theorem zk_201 : Cond.fieldLink RX7 21 RX7 "maker" "LDecisionArrays$Maker;" ∈ zz_w := zz_in (List.mem_append_right _ (List.mem_append_left _ (List.mem_of_getElem? (i := 201) (by decide +kernel)))) rfl
theorem zu_X7_21 : zz_fw RX7 21 6 1 true (.object "DecisionArrays$Maker") := ⟨RX7, TX7, 8, tyX7, rfl, zi_X7, by decide, zk_201, tyX7_ok, nmX7, rfl, by decide +kernel, fun _ => rfl⟩
theorem dX7_init_30 : decode cX7_init 30 = .ok (.aload_n 0, 1) := by decide +kernel
theorem dX7_init_31 : decode cX7_init 31 = .ok (.new 25, 3) := by decide +kernel
theorem zk_109 : Cond.classLink RX7 25 RX2 ∈ zz_w := zz_in (List.mem_append_right _ (List.mem_append_left _ (List.mem_of_getElem? (i := 109) (by decide +kernel)))) rfl
theorem zk_110 : Cond.instantiable RX2 5 ∈ zz_w := zz_in (List.mem_append_right _ (List.mem_append_left _ (List.mem_of_getElem? (i := 110) (by decide +kernel)))) rfl
theorem zk_4 : Cond.initialized RX2 ∈ zz_w := zz_in (List.mem_append_right _ (List.mem_append_left _ (List.mem_of_getElem? (i := 4) (by decide +kernel)))) rfl
theorem zn_X7_25 : zz_n RX7 25 1 5 [.null, .int 0, .null, .null, .null] := ⟨RX2, TX2, tyX2, rfl, zi_X2, tyX2_ok, zk_109, zk_110, zk_4, by decide +kernel⟩
theorem dX7_init_34 : decode cX7_init 34 = .ok (.dup, 1) := by decide +kernel
theorem dX7_init_35 : decode cX7_init 35 = .ok (.aload_n 0, 1) := by decide +kernel
theorem dX7_init_36 : decode cX7_init 36 = .ok (.getfield 10, 3) := by decide +kernel
theorem dX7_init_39 : decode cX7_init 39 = .ok (.invokespecial 27, 3) := by decide +kernel
theorem zk_111 : Cond.methodLink RX7 27 yX2_init ∈ zz_w := zz_in (List.mem_append_right _ (List.mem_append_left _ (List.mem_of_getElem? (i := 111) (by decide +kernel)))) rfl
set_option maxRecDepth 20000 in
theorem zk_113 : Cond.code yX2_init cX2_init 2 none ∈ zz_w := zz_in (List.mem_append_right _ (List.mem_append_left _ (List.mem_of_getElem? (i := 113) (rfl)))) rfl
theorem zk_112 : Cond.instanceMethod yX2_init ∈ zz_w := zz_in (List.mem_append_right _ (List.mem_append_left _ (List.mem_of_getElem? (i := 112) (by decide +kernel)))) rfl
theorem zc_X7_27 : zz_cI RX7 27 yX2_init cX2_init 2 1 := ⟨⟨zk_111, zk_113, zk_4, by decide, by decide, by decide +kernel⟩, rfl, zk_112⟩
theorem dX7_init_42 : decode cX7_init 42 = .ok (.putfield 28, 3) := by decide +kernel
theorem zk_202 : Cond.fieldLink RX7 28 RX7 "likeness" "LDecisionArrays$Likeness;" ∈ zz_w := zz_in (List.mem_append_right _ (List.mem_append_left _ (List.mem_of_getElem? (i := 202) (by decide +kernel)))) rfl
theorem zu_X7_28 : zz_fw RX7 28 6 2 true (.object "DecisionArrays$Likeness") := ⟨RX7, TX7, 8, tyX7, rfl, zi_X7, by decide, zk_202, tyX7_ok, nmX7, rfl, by decide +kernel, fun _ => rfl⟩
theorem dX7_init_45 : decode cX7_init 45 = .ok (.aload_n 0, 1) := by decide +kernel
theorem dX7_init_46 : decode cX7_init 46 = .ok (.new 32, 3) := by decide +kernel
theorem zk_131 : Cond.classLink RX7 32 RX0 ∈ zz_w := zz_in (List.mem_append_right _ (List.mem_append_left _ (List.mem_of_getElem? (i := 131) (by decide +kernel)))) rfl
theorem zk_132 : Cond.instantiable RX0 7 ∈ zz_w := zz_in (List.mem_append_right _ (List.mem_append_left _ (List.mem_of_getElem? (i := 132) (by decide +kernel)))) rfl
theorem zk_5 : Cond.initialized RX0 ∈ zz_w := zz_in (List.mem_append_right _ (List.mem_append_left _ (List.mem_of_getElem? (i := 5) (by decide +kernel)))) rfl
theorem zn_X7_32 : zz_n RX7 32 0 7 [.null, .int 0, .null, .null, .null, .null, .null] := ⟨RX0, TX0, tyX0, rfl, zi_X0, tyX0_ok, zk_131, zk_132, zk_5, by decide +kernel⟩
theorem dX7_init_49 : decode cX7_init 49 = .ok (.dup, 1) := by decide +kernel
theorem dX7_init_50 : decode cX7_init 50 = .ok (.aload_n 0, 1) := by decide +kernel
theorem dX7_init_51 : decode cX7_init 51 = .ok (.getfield 10, 3) := by decide +kernel
theorem dX7_init_54 : decode cX7_init 54 = .ok (.invokespecial 34, 3) := by decide +kernel
theorem zk_133 : Cond.methodLink RX7 34 yX0_init ∈ zz_w := zz_in (List.mem_append_right _ (List.mem_append_left _ (List.mem_of_getElem? (i := 133) (by decide +kernel)))) rfl
set_option maxRecDepth 20000 in
theorem zk_135 : Cond.code yX0_init cX0_init 2 none ∈ zz_w := zz_in (List.mem_append_right _ (List.mem_append_left _ (List.mem_of_getElem? (i := 135) (rfl)))) rfl
theorem zk_134 : Cond.instanceMethod yX0_init ∈ zz_w := zz_in (List.mem_append_right _ (List.mem_append_left _ (List.mem_of_getElem? (i := 134) (by decide +kernel)))) rfl
theorem zc_X7_34 : zz_cI RX7 34 yX0_init cX0_init 2 1 := ⟨⟨zk_133, zk_135, zk_5, by decide, by decide, by decide +kernel⟩, rfl, zk_134⟩
theorem dX7_init_57 : decode cX7_init 57 = .ok (.putfield 35, 3) := by decide +kernel
theorem zk_203 : Cond.fieldLink RX7 35 RX7 "choices" "LDecisionArrays$Choices;" ∈ zz_w := zz_in (List.mem_append_right _ (List.mem_append_left _ (List.mem_of_getElem? (i := 203) (by decide +kernel)))) rfl
theorem zu_X7_35 : zz_fw RX7 35 6 3 true (.object "DecisionArrays$Choices") := ⟨RX7, TX7, 8, tyX7, rfl, zi_X7, by decide, zk_203, tyX7_ok, nmX7, rfl, by decide +kernel, fun _ => rfl⟩
theorem dX7_init_60 : decode cX7_init 60 = .ok (.aload_n 0, 1) := by decide +kernel
theorem dX7_init_61 : decode cX7_init 61 = .ok (.new 39, 3) := by decide +kernel
theorem zk_163 : Cond.classLink RX7 39 RX5 ∈ zz_w := zz_in (List.mem_append_right _ (List.mem_append_left _ (List.mem_of_getElem? (i := 163) (by decide +kernel)))) rfl
theorem zk_164 : Cond.instantiable RX5 9 ∈ zz_w := zz_in (List.mem_append_right _ (List.mem_append_left _ (List.mem_of_getElem? (i := 164) (by decide +kernel)))) rfl
theorem zk_6 : Cond.initialized RX5 ∈ zz_w := zz_in (List.mem_append_right _ (List.mem_append_left _ (List.mem_of_getElem? (i := 6) (by decide +kernel)))) rfl
theorem zn_X7_39 : zz_n RX7 39 4 9 [.null, .int 0, .null, .null, .null, .null, .null, .null, .null] := ⟨RX5, TX5, tyX5, rfl, zi_X5, tyX5_ok, zk_163, zk_164, zk_6, by decide +kernel⟩
theorem dX7_init_64 : decode cX7_init 64 = .ok (.dup, 1) := by decide +kernel
theorem dX7_init_65 : decode cX7_init 65 = .ok (.aload_n 0, 1) := by decide +kernel
theorem dX7_init_66 : decode cX7_init 66 = .ok (.getfield 10, 3) := by decide +kernel
theorem dX7_init_69 : decode cX7_init 69 = .ok (.invokespecial 41, 3) := by decide +kernel
theorem zk_165 : Cond.methodLink RX7 41 yX5_init ∈ zz_w := zz_in (List.mem_append_right _ (List.mem_append_left _ (List.mem_of_getElem? (i := 165) (by decide +kernel)))) rfl
set_option maxRecDepth 20000 in
theorem zk_167 : Cond.code yX5_init cX5_init 2 none ∈ zz_w := zz_in (List.mem_append_right _ (List.mem_append_left _ (List.mem_of_getElem? (i := 167) (rfl)))) rfl
theorem zk_166 : Cond.instanceMethod yX5_init ∈ zz_w := zz_in (List.mem_append_right _ (List.mem_append_left _ (List.mem_of_getElem? (i := 166) (by decide +kernel)))) rfl
theorem zc_X7_41 : zz_cI RX7 41 yX5_init cX5_init 2 1 := ⟨⟨zk_165, zk_167, zk_6, by decide, by decide, by decide +kernel⟩, rfl, zk_166⟩
theorem dX7_init_72 : decode cX7_init 72 = .ok (.putfield 42, 3) := by decide +kernel
theorem zk_204 : Cond.fieldLink RX7 42 RX7 "rules" "LDecisionArrays$Rules;" ∈ zz_w := zz_in (List.mem_append_right _ (List.mem_append_left _ (List.mem_of_getElem? (i := 204) (by decide +kernel)))) rfl
theorem zu_X7_42 : zz_fw RX7 42 6 4 true (.object "DecisionArrays$Rules") := ⟨RX7, TX7, 8, tyX7, rfl, zi_X7, by decide, zk_204, tyX7_ok, nmX7, rfl, by decide +kernel, fun _ => rfl⟩
theorem dX7_init_75 : decode cX7_init 75 = .ok (.aload_n 0, 1) := by decide +kernel
theorem dX7_init_76 : decode cX7_init 76 = .ok (.bipush 8, 2) := by decide +kernel
theorem dX7_init_78 : decode cX7_init 78 = .ok (.anewarray 46, 3) := by decide +kernel
theorem zk_198 : Cond.classLink RX7 46 zz_RM ∈ zz_w := zz_in (List.mem_append_right _ (List.mem_append_left _ (List.mem_of_getElem? (i := 198) (by decide +kernel)))) rfl
theorem dX7_init_81 : decode cX7_init 81 = .ok (.putfield 48, 3) := by decide +kernel
theorem zk_205 : Cond.fieldLink RX7 48 RX7 "marks" "[LDecisionArrays$Mark;" ∈ zz_w := zz_in (List.mem_append_right _ (List.mem_append_left _ (List.mem_of_getElem? (i := 205) (by decide +kernel)))) rfl
theorem zu_X7_48 : zz_fw RX7 48 6 5 true (.array (.object "DecisionArrays$Mark")) := ⟨RX7, TX7, 8, tyX7, rfl, zi_X7, by decide, zk_205, tyX7_ok, nmX7, rfl, by decide +kernel, fun _ => rfl⟩
theorem dX7_init_84 : decode cX7_init 84 = .ok (.aload_n 0, 1) := by decide +kernel
theorem dX7_init_85 : decode cX7_init 85 = .ok (.iconst 0, 1) := by decide +kernel
theorem dX7_init_86 : decode cX7_init 86 = .ok (.putfield 52, 3) := by decide +kernel
theorem zk_206 : Cond.fieldLink RX7 52 RX7 "marked" "I" ∈ zz_w := zz_in (List.mem_append_right _ (List.mem_append_left _ (List.mem_of_getElem? (i := 206) (by decide +kernel)))) rfl
theorem zu_X7_52 : zz_fw RX7 52 6 6 false .int := ⟨RX7, TX7, 8, tyX7, rfl, zi_X7, by decide, zk_206, tyX7_ok, nmX7, rfl, by decide +kernel, fun h => by cases h⟩
theorem dX7_init_89 : decode cX7_init 89 = .ok (.aload_n 0, 1) := by decide +kernel
theorem dX7_init_90 : decode cX7_init 90 = .ok (.iconst 0, 1) := by decide +kernel
theorem dX7_init_91 : decode cX7_init 91 = .ok (.putfield 56, 3) := by decide +kernel
theorem dX7_init_94 : decode cX7_init 94 = .ok (.return_, 1) := by decide +kernel
abbrev rm_ci_DA : Room := { frames := 2, cells := 30, slots := 12831, locals := 33 }
abbrev po_ci_DA (g : zz_G) (h0 : Nat) : va_W → Prop := fun (u : va_W) => ∃ (e1 : Nat) (e2 : Nat) (e3 : Nat) (e4 : Nat) (e5 : Nat) (e6 : Nat) (e7 : Nat) (e8 : Nat) (e9 : Nat) (e10 : Nat) (e11 : Nat) (e12 : Nat) (e13 : Nat) (e14 : Nat) (e15 : Nat) (e16 : Nat) (e17 : Nat) (e18 : Nat) (e19 : Nat) (e20 : Nat) (e21 : Nat) (e22 : Nat) (e23 : Nat) (e24 : Nat) (e25 : Nat) (e26 : Nat) (e27 : Nat) (e28 : Nat) (e29 : Nat) (e30 : Nat), u = [(h0, .inr (6, [.ref e1, .ref e10, .ref e12, .ref e16, .ref e22, .ref e30, .int 0, .int 0])), (e1, .inr (5, [.int 0, .int 0, .ref e2, .ref e3, .ref e4, .ref e5, .ref e6, .ref e7, .ref e8, .ref e9])), (e2, .inl (g.2.1, 60, .inl (fun _ => 0))), (e3, .inl (g.2.1, 60, .inl (fun _ => 0))), (e4, .inl (g.2.1, 60, .inl (fun _ => 0))), (e5, .inl (g.2.1, 60, .inl (fun _ => 0))), (e6, .inl (g.2.1, 60, .inl (fun _ => 0))), (e7, .inl (g.2.2.1, 4000, .inr (.inl (fun _ => 0)))), (e8, .inl (g.2.2.2.1, 4000, .inl (fun _ => 0))), (e9, .inl (g.2.2.1, 200, .inr (.inl (fun _ => 0)))), (e10, .inr (2, [.ref e1, .ref e11, .int 0, .int 0])), (e11, .inl (g.2.1, 4, .inl (fun _ => 0))), (e12, .inr (1, [.ref e1, .int 0, .ref e13, .ref e14, .ref e15])), (e13, .inl (g.2.1, 3600, .inl (fun _ => 0))), (e14, .inl (g.2.1, 60, .inl (fun _ => 0))), (e15, .inl (g.2.1, 60, .inl (fun _ => 0))), (e16, .inr (0, [.ref e1, .int 0, .ref e17, .ref e18, .ref e19, .ref e20, .ref e21])), (e17, .inl (g.2.1, 24, .inl (fun _ => 0))), (e18, .inl (g.2.1, 24, .inl (fun _ => 0))), (e19, .inl (g.2.1, 24, .inl (fun _ => 0))), (e20, .inl (g.2.2.1, 384, .inr (.inl (fun _ => 0)))), (e21, .inl (g.2.1, 24, .inl (fun _ => 0))), (e22, .inr (4, [.ref e1, .int 0, .ref e23, .ref e24, .ref e25, .ref e26, .ref e27, .ref e28, .ref e29])), (e23, .inl (g.2.1, 12, .inl (fun _ => 0))), (e24, .inl (g.2.1, 12, .inl (fun _ => 0))), (e25, .inl (g.2.1, 12, .inl (fun _ => 0))), (e26, .inl (g.2.2.1, 12, .inr (.inl (fun _ => 0)))), (e27, .inl (g.2.2.1, 12, .inr (.inl (fun _ => 0)))), (e28, .inl (g.2.2.1, 12, .inr (.inl (fun _ => 0)))), (e29, .inl (g.2.2.1, 12, .inr (.inl (fun _ => 0)))), (e30, .inl (g.2.2.2.2, 8, .inr (.inr (.inr (.inr (fun _ => none))))))]
set_option maxHeartbeats 4000000 in
set_option maxRecDepth 100000 in
theorem ci_DA (g : zz_G) (h0 : Nat) : zz_V g yX7_init (.code yX7_init cX7_init 1 none) rm_ci_DA [.ref h0] [(h0, .inr (6, [.null, .null, .null, .null, .null, .null, .int 0, .int 0]))] (po_ci_DA g h0) := by
  refine zz_V.intro (own := RX7) (cc := cX7_init) (nL := 1) (by decide) rfl (Nat.le_of_ble_eq_true rfl) ?_
  intro p l e s m args below meth c A H locs ls hC hnm hZ hl
  obtain ⟨hx, hb, hml, hown, hts, hr, hlocks, hK⟩ := id hC
  have hl : lv_has ls 1 [(0, .ref h0)] := hl
  have hZ : zz_Z g A s.heap [(h0, .inr (6, [.null, .null, .null, .null, .null, .null, .int 0, .int 0]))] H locs := hZ
  refine lv_aload_n hx hb dX7_init_0 rfl (lv_at hl 0 rfl) ?_
  refine zz_obj hC hl zk_17 zk_18 zk_19 (Nat.le_of_ble_eq_true rfl) (Nat.le_of_ble_eq_true rfl) dX7_init_1 ?_
  refine lv_aload_n hx hb dX7_init_4 rfl (lv_at hl 0 rfl) ?_
  refine zz_new hC hZ zn_X7_7 (Nat.le_of_ble_eq_true rfl) (Nat.le_of_ble_eq_true rfl) dX7_init_5 (fun q1 H hZ => ?_)
  have hZ : zz_Z g A s.heap [(h0, .inr (6, [.null, .null, .null, .null, .null, .null, .int 0, .int 0])), (q1, .inr (5, [.int 0, .int 0, .null, .null, .null, .null, .null, .null, .null, .null]))] H locs := hZ
  refine lv_dup hx hb dX7_init_8 rfl ?_
  refine zz_vN (As := []) (wc := [(q1, .inr (5, [.int 0, .int 0, .null, .null, .null, .null, .null, .null, .null, .null]))]) (wr := [(h0, .inr (6, [.null, .null, .null, .null, .null, .null, .int 0, .int 0]))]) (rest := [.ref q1, .ref h0]) hC hZ hl zc_X7_9 (ci_Store g q1) [1] [0] rfl rfl (by decide) rfl rfl (Nat.le_of_ble_eq_true rfl) ⟨⟨Nat.le_of_ble_eq_true rfl, Nat.le_of_ble_eq_true rfl⟩, Nat.le_of_ble_eq_true rfl, Nat.le_of_ble_eq_true rfl⟩ dX7_init_9 (fun u3 H locs hp hZ => ?_)
  obtain ⟨e1_4, e2_5, e3_6, e4_7, e5_8, e6_9, e7_10, e8_11, rfl⟩ := hp
  have hZ : zz_Z g A s.heap [(h0, .inr (6, [.null, .null, .null, .null, .null, .null, .int 0, .int 0])), (q1, .inr (5, [.int 0, .int 0, .ref e1_4, .ref e2_5, .ref e3_6, .ref e4_7, .ref e5_8, .ref e6_9, .ref e7_10, .ref e8_11])), (e1_4, .inl (g.2.1, 60, .inl (fun _ => 0))), (e2_5, .inl (g.2.1, 60, .inl (fun _ => 0))), (e3_6, .inl (g.2.1, 60, .inl (fun _ => 0))), (e4_7, .inl (g.2.1, 60, .inl (fun _ => 0))), (e5_8, .inl (g.2.1, 60, .inl (fun _ => 0))), (e6_9, .inl (g.2.2.1, 4000, .inr (.inl (fun _ => 0)))), (e7_10, .inl (g.2.2.2.1, 4000, .inl (fun _ => 0))), (e8_11, .inl (g.2.2.1, 200, .inr (.inl (fun _ => 0))))] H locs := hZ
  refine zz_putF hC hnm hZ 0 rfl zu_X7_10 rfl rfl (Nat.le_of_ble_eq_true rfl) dX7_init_12 (fun H locs hZ => ?_)
  have hZ : zz_Z g A s.heap [(h0, .inr (6, [.ref q1, .null, .null, .null, .null, .null, .int 0, .int 0])), (q1, .inr (5, [.int 0, .int 0, .ref e1_4, .ref e2_5, .ref e3_6, .ref e4_7, .ref e5_8, .ref e6_9, .ref e7_10, .ref e8_11])), (e1_4, .inl (g.2.1, 60, .inl (fun _ => 0))), (e2_5, .inl (g.2.1, 60, .inl (fun _ => 0))), (e3_6, .inl (g.2.1, 60, .inl (fun _ => 0))), (e4_7, .inl (g.2.1, 60, .inl (fun _ => 0))), (e5_8, .inl (g.2.1, 60, .inl (fun _ => 0))), (e6_9, .inl (g.2.2.1, 4000, .inr (.inl (fun _ => 0)))), (e7_10, .inl (g.2.2.2.1, 4000, .inl (fun _ => 0))), (e8_11, .inl (g.2.2.1, 200, .inr (.inl (fun _ => 0))))] H locs := hZ
  refine lv_aload_n hx hb dX7_init_15 rfl (lv_at hl 0 rfl) ?_
  refine zz_new hC hZ zn_X7_16 (Nat.le_of_ble_eq_true rfl) (Nat.le_of_ble_eq_true rfl) dX7_init_16 (fun q12 H hZ => ?_)
  have hZ : zz_Z g A s.heap [(h0, .inr (6, [.ref q1, .null, .null, .null, .null, .null, .int 0, .int 0])), (q1, .inr (5, [.int 0, .int 0, .ref e1_4, .ref e2_5, .ref e3_6, .ref e4_7, .ref e5_8, .ref e6_9, .ref e7_10, .ref e8_11])), (e1_4, .inl (g.2.1, 60, .inl (fun _ => 0))), (e2_5, .inl (g.2.1, 60, .inl (fun _ => 0))), (e3_6, .inl (g.2.1, 60, .inl (fun _ => 0))), (e4_7, .inl (g.2.1, 60, .inl (fun _ => 0))), (e5_8, .inl (g.2.1, 60, .inl (fun _ => 0))), (e6_9, .inl (g.2.2.1, 4000, .inr (.inl (fun _ => 0)))), (e7_10, .inl (g.2.2.2.1, 4000, .inl (fun _ => 0))), (e8_11, .inl (g.2.2.1, 200, .inr (.inl (fun _ => 0)))), (q12, .inr (2, [.null, .null, .int 0, .int 0]))] H locs := hZ
  refine lv_dup hx hb dX7_init_19 rfl ?_
  refine lv_aload_n hx hb dX7_init_20 rfl (lv_at hl 0 rfl) ?_
  refine zz_get hC hZ 0 rfl zf_X7_10 rfl dX7_init_21 ?_
  refine zz_vI (As := [.ref q1]) (wc := [(q12, .inr (2, [.null, .null, .int 0, .int 0]))]) (wr := [(h0, .inr (6, [.ref q1, .null, .null, .null, .null, .null, .int 0, .int 0])), (q1, .inr (5, [.int 0, .int 0, .ref e1_4, .ref e2_5, .ref e3_6, .ref e4_7, .ref e5_8, .ref e6_9, .ref e7_10, .ref e8_11])), (e1_4, .inl (g.2.1, 60, .inl (fun _ => 0))), (e2_5, .inl (g.2.1, 60, .inl (fun _ => 0))), (e3_6, .inl (g.2.1, 60, .inl (fun _ => 0))), (e4_7, .inl (g.2.1, 60, .inl (fun _ => 0))), (e5_8, .inl (g.2.1, 60, .inl (fun _ => 0))), (e6_9, .inl (g.2.2.1, 4000, .inr (.inl (fun _ => 0)))), (e7_10, .inl (g.2.2.2.1, 4000, .inl (fun _ => 0))), (e8_11, .inl (g.2.2.1, 200, .inr (.inl (fun _ => 0))))]) (rest := [.ref q12, .ref h0]) hC hZ hl zc_X7_18 (ci_Maker g q12 q1) [10] [0, 1, 2, 3, 4, 5, 6, 7, 8, 9] rfl rfl (by decide) rfl rfl (Nat.le_of_ble_eq_true rfl) ⟨⟨Nat.le_of_ble_eq_true rfl, Nat.le_of_ble_eq_true rfl⟩, Nat.le_of_ble_eq_true rfl, Nat.le_of_ble_eq_true rfl⟩ dX7_init_24 (fun u14 H locs hp hZ => ?_)
  obtain ⟨e1_15, rfl⟩ := hp
  have hZ : zz_Z g A s.heap [(h0, .inr (6, [.ref q1, .null, .null, .null, .null, .null, .int 0, .int 0])), (q1, .inr (5, [.int 0, .int 0, .ref e1_4, .ref e2_5, .ref e3_6, .ref e4_7, .ref e5_8, .ref e6_9, .ref e7_10, .ref e8_11])), (e1_4, .inl (g.2.1, 60, .inl (fun _ => 0))), (e2_5, .inl (g.2.1, 60, .inl (fun _ => 0))), (e3_6, .inl (g.2.1, 60, .inl (fun _ => 0))), (e4_7, .inl (g.2.1, 60, .inl (fun _ => 0))), (e5_8, .inl (g.2.1, 60, .inl (fun _ => 0))), (e6_9, .inl (g.2.2.1, 4000, .inr (.inl (fun _ => 0)))), (e7_10, .inl (g.2.2.2.1, 4000, .inl (fun _ => 0))), (e8_11, .inl (g.2.2.1, 200, .inr (.inl (fun _ => 0)))), (q12, .inr (2, [.ref q1, .ref e1_15, .int 0, .int 0])), (e1_15, .inl (g.2.1, 4, .inl (fun _ => 0)))] H locs := hZ
  refine zz_putF hC hnm hZ 0 rfl zu_X7_21 rfl rfl (Nat.le_of_ble_eq_true rfl) dX7_init_27 (fun H locs hZ => ?_)
  have hZ : zz_Z g A s.heap [(h0, .inr (6, [.ref q1, .ref q12, .null, .null, .null, .null, .int 0, .int 0])), (q1, .inr (5, [.int 0, .int 0, .ref e1_4, .ref e2_5, .ref e3_6, .ref e4_7, .ref e5_8, .ref e6_9, .ref e7_10, .ref e8_11])), (e1_4, .inl (g.2.1, 60, .inl (fun _ => 0))), (e2_5, .inl (g.2.1, 60, .inl (fun _ => 0))), (e3_6, .inl (g.2.1, 60, .inl (fun _ => 0))), (e4_7, .inl (g.2.1, 60, .inl (fun _ => 0))), (e5_8, .inl (g.2.1, 60, .inl (fun _ => 0))), (e6_9, .inl (g.2.2.1, 4000, .inr (.inl (fun _ => 0)))), (e7_10, .inl (g.2.2.2.1, 4000, .inl (fun _ => 0))), (e8_11, .inl (g.2.2.1, 200, .inr (.inl (fun _ => 0)))), (q12, .inr (2, [.ref q1, .ref e1_15, .int 0, .int 0])), (e1_15, .inl (g.2.1, 4, .inl (fun _ => 0)))] H locs := hZ
  refine lv_aload_n hx hb dX7_init_30 rfl (lv_at hl 0 rfl) ?_
  refine zz_new hC hZ zn_X7_25 (Nat.le_of_ble_eq_true rfl) (Nat.le_of_ble_eq_true rfl) dX7_init_31 (fun q16 H hZ => ?_)
  have hZ : zz_Z g A s.heap [(h0, .inr (6, [.ref q1, .ref q12, .null, .null, .null, .null, .int 0, .int 0])), (q1, .inr (5, [.int 0, .int 0, .ref e1_4, .ref e2_5, .ref e3_6, .ref e4_7, .ref e5_8, .ref e6_9, .ref e7_10, .ref e8_11])), (e1_4, .inl (g.2.1, 60, .inl (fun _ => 0))), (e2_5, .inl (g.2.1, 60, .inl (fun _ => 0))), (e3_6, .inl (g.2.1, 60, .inl (fun _ => 0))), (e4_7, .inl (g.2.1, 60, .inl (fun _ => 0))), (e5_8, .inl (g.2.1, 60, .inl (fun _ => 0))), (e6_9, .inl (g.2.2.1, 4000, .inr (.inl (fun _ => 0)))), (e7_10, .inl (g.2.2.2.1, 4000, .inl (fun _ => 0))), (e8_11, .inl (g.2.2.1, 200, .inr (.inl (fun _ => 0)))), (q12, .inr (2, [.ref q1, .ref e1_15, .int 0, .int 0])), (e1_15, .inl (g.2.1, 4, .inl (fun _ => 0))), (q16, .inr (1, [.null, .int 0, .null, .null, .null]))] H locs := hZ
  refine lv_dup hx hb dX7_init_34 rfl ?_
  refine lv_aload_n hx hb dX7_init_35 rfl (lv_at hl 0 rfl) ?_
  refine zz_get hC hZ 0 rfl zf_X7_10 rfl dX7_init_36 ?_
  refine zz_vI (As := [.ref q1]) (wc := [(q16, .inr (1, [.null, .int 0, .null, .null, .null]))]) (wr := [(h0, .inr (6, [.ref q1, .ref q12, .null, .null, .null, .null, .int 0, .int 0])), (q1, .inr (5, [.int 0, .int 0, .ref e1_4, .ref e2_5, .ref e3_6, .ref e4_7, .ref e5_8, .ref e6_9, .ref e7_10, .ref e8_11])), (e1_4, .inl (g.2.1, 60, .inl (fun _ => 0))), (e2_5, .inl (g.2.1, 60, .inl (fun _ => 0))), (e3_6, .inl (g.2.1, 60, .inl (fun _ => 0))), (e4_7, .inl (g.2.1, 60, .inl (fun _ => 0))), (e5_8, .inl (g.2.1, 60, .inl (fun _ => 0))), (e6_9, .inl (g.2.2.1, 4000, .inr (.inl (fun _ => 0)))), (e7_10, .inl (g.2.2.2.1, 4000, .inl (fun _ => 0))), (e8_11, .inl (g.2.2.1, 200, .inr (.inl (fun _ => 0)))), (q12, .inr (2, [.ref q1, .ref e1_15, .int 0, .int 0])), (e1_15, .inl (g.2.1, 4, .inl (fun _ => 0)))]) (rest := [.ref q16, .ref h0]) hC hZ hl zc_X7_27 (ci_Likeness g q16 q1) [12] [0, 1, 2, 3, 4, 5, 6, 7, 8, 9, 10, 11] rfl rfl (by decide) rfl rfl (Nat.le_of_ble_eq_true rfl) ⟨⟨Nat.le_of_ble_eq_true rfl, Nat.le_of_ble_eq_true rfl⟩, Nat.le_of_ble_eq_true rfl, Nat.le_of_ble_eq_true rfl⟩ dX7_init_39 (fun u18 H locs hp hZ => ?_)
  obtain ⟨e1_19, e2_20, e3_21, rfl⟩ := hp
  have hZ : zz_Z g A s.heap [(h0, .inr (6, [.ref q1, .ref q12, .null, .null, .null, .null, .int 0, .int 0])), (q1, .inr (5, [.int 0, .int 0, .ref e1_4, .ref e2_5, .ref e3_6, .ref e4_7, .ref e5_8, .ref e6_9, .ref e7_10, .ref e8_11])), (e1_4, .inl (g.2.1, 60, .inl (fun _ => 0))), (e2_5, .inl (g.2.1, 60, .inl (fun _ => 0))), (e3_6, .inl (g.2.1, 60, .inl (fun _ => 0))), (e4_7, .inl (g.2.1, 60, .inl (fun _ => 0))), (e5_8, .inl (g.2.1, 60, .inl (fun _ => 0))), (e6_9, .inl (g.2.2.1, 4000, .inr (.inl (fun _ => 0)))), (e7_10, .inl (g.2.2.2.1, 4000, .inl (fun _ => 0))), (e8_11, .inl (g.2.2.1, 200, .inr (.inl (fun _ => 0)))), (q12, .inr (2, [.ref q1, .ref e1_15, .int 0, .int 0])), (e1_15, .inl (g.2.1, 4, .inl (fun _ => 0))), (q16, .inr (1, [.ref q1, .int 0, .ref e1_19, .ref e2_20, .ref e3_21])), (e1_19, .inl (g.2.1, 3600, .inl (fun _ => 0))), (e2_20, .inl (g.2.1, 60, .inl (fun _ => 0))), (e3_21, .inl (g.2.1, 60, .inl (fun _ => 0)))] H locs := hZ
  refine zz_putF hC hnm hZ 0 rfl zu_X7_28 rfl rfl (Nat.le_of_ble_eq_true rfl) dX7_init_42 (fun H locs hZ => ?_)
  have hZ : zz_Z g A s.heap [(h0, .inr (6, [.ref q1, .ref q12, .ref q16, .null, .null, .null, .int 0, .int 0])), (q1, .inr (5, [.int 0, .int 0, .ref e1_4, .ref e2_5, .ref e3_6, .ref e4_7, .ref e5_8, .ref e6_9, .ref e7_10, .ref e8_11])), (e1_4, .inl (g.2.1, 60, .inl (fun _ => 0))), (e2_5, .inl (g.2.1, 60, .inl (fun _ => 0))), (e3_6, .inl (g.2.1, 60, .inl (fun _ => 0))), (e4_7, .inl (g.2.1, 60, .inl (fun _ => 0))), (e5_8, .inl (g.2.1, 60, .inl (fun _ => 0))), (e6_9, .inl (g.2.2.1, 4000, .inr (.inl (fun _ => 0)))), (e7_10, .inl (g.2.2.2.1, 4000, .inl (fun _ => 0))), (e8_11, .inl (g.2.2.1, 200, .inr (.inl (fun _ => 0)))), (q12, .inr (2, [.ref q1, .ref e1_15, .int 0, .int 0])), (e1_15, .inl (g.2.1, 4, .inl (fun _ => 0))), (q16, .inr (1, [.ref q1, .int 0, .ref e1_19, .ref e2_20, .ref e3_21])), (e1_19, .inl (g.2.1, 3600, .inl (fun _ => 0))), (e2_20, .inl (g.2.1, 60, .inl (fun _ => 0))), (e3_21, .inl (g.2.1, 60, .inl (fun _ => 0)))] H locs := hZ
  refine lv_aload_n hx hb dX7_init_45 rfl (lv_at hl 0 rfl) ?_
  refine zz_new hC hZ zn_X7_32 (Nat.le_of_ble_eq_true rfl) (Nat.le_of_ble_eq_true rfl) dX7_init_46 (fun q22 H hZ => ?_)
  have hZ : zz_Z g A s.heap [(h0, .inr (6, [.ref q1, .ref q12, .ref q16, .null, .null, .null, .int 0, .int 0])), (q1, .inr (5, [.int 0, .int 0, .ref e1_4, .ref e2_5, .ref e3_6, .ref e4_7, .ref e5_8, .ref e6_9, .ref e7_10, .ref e8_11])), (e1_4, .inl (g.2.1, 60, .inl (fun _ => 0))), (e2_5, .inl (g.2.1, 60, .inl (fun _ => 0))), (e3_6, .inl (g.2.1, 60, .inl (fun _ => 0))), (e4_7, .inl (g.2.1, 60, .inl (fun _ => 0))), (e5_8, .inl (g.2.1, 60, .inl (fun _ => 0))), (e6_9, .inl (g.2.2.1, 4000, .inr (.inl (fun _ => 0)))), (e7_10, .inl (g.2.2.2.1, 4000, .inl (fun _ => 0))), (e8_11, .inl (g.2.2.1, 200, .inr (.inl (fun _ => 0)))), (q12, .inr (2, [.ref q1, .ref e1_15, .int 0, .int 0])), (e1_15, .inl (g.2.1, 4, .inl (fun _ => 0))), (q16, .inr (1, [.ref q1, .int 0, .ref e1_19, .ref e2_20, .ref e3_21])), (e1_19, .inl (g.2.1, 3600, .inl (fun _ => 0))), (e2_20, .inl (g.2.1, 60, .inl (fun _ => 0))), (e3_21, .inl (g.2.1, 60, .inl (fun _ => 0))), (q22, .inr (0, [.null, .int 0, .null, .null, .null, .null, .null]))] H locs := hZ
  refine lv_dup hx hb dX7_init_49 rfl ?_
  refine lv_aload_n hx hb dX7_init_50 rfl (lv_at hl 0 rfl) ?_
  refine zz_get hC hZ 0 rfl zf_X7_10 rfl dX7_init_51 ?_
  refine zz_vI (As := [.ref q1]) (wc := [(q22, .inr (0, [.null, .int 0, .null, .null, .null, .null, .null]))]) (wr := [(h0, .inr (6, [.ref q1, .ref q12, .ref q16, .null, .null, .null, .int 0, .int 0])), (q1, .inr (5, [.int 0, .int 0, .ref e1_4, .ref e2_5, .ref e3_6, .ref e4_7, .ref e5_8, .ref e6_9, .ref e7_10, .ref e8_11])), (e1_4, .inl (g.2.1, 60, .inl (fun _ => 0))), (e2_5, .inl (g.2.1, 60, .inl (fun _ => 0))), (e3_6, .inl (g.2.1, 60, .inl (fun _ => 0))), (e4_7, .inl (g.2.1, 60, .inl (fun _ => 0))), (e5_8, .inl (g.2.1, 60, .inl (fun _ => 0))), (e6_9, .inl (g.2.2.1, 4000, .inr (.inl (fun _ => 0)))), (e7_10, .inl (g.2.2.2.1, 4000, .inl (fun _ => 0))), (e8_11, .inl (g.2.2.1, 200, .inr (.inl (fun _ => 0)))), (q12, .inr (2, [.ref q1, .ref e1_15, .int 0, .int 0])), (e1_15, .inl (g.2.1, 4, .inl (fun _ => 0))), (q16, .inr (1, [.ref q1, .int 0, .ref e1_19, .ref e2_20, .ref e3_21])), (e1_19, .inl (g.2.1, 3600, .inl (fun _ => 0))), (e2_20, .inl (g.2.1, 60, .inl (fun _ => 0))), (e3_21, .inl (g.2.1, 60, .inl (fun _ => 0)))]) (rest := [.ref q22, .ref h0]) hC hZ hl zc_X7_34 (ci_Choices g q22 q1) [16] [0, 1, 2, 3, 4, 5, 6, 7, 8, 9, 10, 11, 12, 13, 14, 15] rfl rfl (by decide) rfl rfl (Nat.le_of_ble_eq_true rfl) ⟨⟨Nat.le_of_ble_eq_true rfl, Nat.le_of_ble_eq_true rfl⟩, Nat.le_of_ble_eq_true rfl, Nat.le_of_ble_eq_true rfl⟩ dX7_init_54 (fun u24 H locs hp hZ => ?_)
  obtain ⟨e1_25, e2_26, e3_27, e4_28, e5_29, rfl⟩ := hp
  have hZ : zz_Z g A s.heap [(h0, .inr (6, [.ref q1, .ref q12, .ref q16, .null, .null, .null, .int 0, .int 0])), (q1, .inr (5, [.int 0, .int 0, .ref e1_4, .ref e2_5, .ref e3_6, .ref e4_7, .ref e5_8, .ref e6_9, .ref e7_10, .ref e8_11])), (e1_4, .inl (g.2.1, 60, .inl (fun _ => 0))), (e2_5, .inl (g.2.1, 60, .inl (fun _ => 0))), (e3_6, .inl (g.2.1, 60, .inl (fun _ => 0))), (e4_7, .inl (g.2.1, 60, .inl (fun _ => 0))), (e5_8, .inl (g.2.1, 60, .inl (fun _ => 0))), (e6_9, .inl (g.2.2.1, 4000, .inr (.inl (fun _ => 0)))), (e7_10, .inl (g.2.2.2.1, 4000, .inl (fun _ => 0))), (e8_11, .inl (g.2.2.1, 200, .inr (.inl (fun _ => 0)))), (q12, .inr (2, [.ref q1, .ref e1_15, .int 0, .int 0])), (e1_15, .inl (g.2.1, 4, .inl (fun _ => 0))), (q16, .inr (1, [.ref q1, .int 0, .ref e1_19, .ref e2_20, .ref e3_21])), (e1_19, .inl (g.2.1, 3600, .inl (fun _ => 0))), (e2_20, .inl (g.2.1, 60, .inl (fun _ => 0))), (e3_21, .inl (g.2.1, 60, .inl (fun _ => 0))), (q22, .inr (0, [.ref q1, .int 0, .ref e1_25, .ref e2_26, .ref e3_27, .ref e4_28, .ref e5_29])), (e1_25, .inl (g.2.1, 24, .inl (fun _ => 0))), (e2_26, .inl (g.2.1, 24, .inl (fun _ => 0))), (e3_27, .inl (g.2.1, 24, .inl (fun _ => 0))), (e4_28, .inl (g.2.2.1, 384, .inr (.inl (fun _ => 0)))), (e5_29, .inl (g.2.1, 24, .inl (fun _ => 0)))] H locs := hZ
  refine zz_putF hC hnm hZ 0 rfl zu_X7_35 rfl rfl (Nat.le_of_ble_eq_true rfl) dX7_init_57 (fun H locs hZ => ?_)
  have hZ : zz_Z g A s.heap [(h0, .inr (6, [.ref q1, .ref q12, .ref q16, .ref q22, .null, .null, .int 0, .int 0])), (q1, .inr (5, [.int 0, .int 0, .ref e1_4, .ref e2_5, .ref e3_6, .ref e4_7, .ref e5_8, .ref e6_9, .ref e7_10, .ref e8_11])), (e1_4, .inl (g.2.1, 60, .inl (fun _ => 0))), (e2_5, .inl (g.2.1, 60, .inl (fun _ => 0))), (e3_6, .inl (g.2.1, 60, .inl (fun _ => 0))), (e4_7, .inl (g.2.1, 60, .inl (fun _ => 0))), (e5_8, .inl (g.2.1, 60, .inl (fun _ => 0))), (e6_9, .inl (g.2.2.1, 4000, .inr (.inl (fun _ => 0)))), (e7_10, .inl (g.2.2.2.1, 4000, .inl (fun _ => 0))), (e8_11, .inl (g.2.2.1, 200, .inr (.inl (fun _ => 0)))), (q12, .inr (2, [.ref q1, .ref e1_15, .int 0, .int 0])), (e1_15, .inl (g.2.1, 4, .inl (fun _ => 0))), (q16, .inr (1, [.ref q1, .int 0, .ref e1_19, .ref e2_20, .ref e3_21])), (e1_19, .inl (g.2.1, 3600, .inl (fun _ => 0))), (e2_20, .inl (g.2.1, 60, .inl (fun _ => 0))), (e3_21, .inl (g.2.1, 60, .inl (fun _ => 0))), (q22, .inr (0, [.ref q1, .int 0, .ref e1_25, .ref e2_26, .ref e3_27, .ref e4_28, .ref e5_29])), (e1_25, .inl (g.2.1, 24, .inl (fun _ => 0))), (e2_26, .inl (g.2.1, 24, .inl (fun _ => 0))), (e3_27, .inl (g.2.1, 24, .inl (fun _ => 0))), (e4_28, .inl (g.2.2.1, 384, .inr (.inl (fun _ => 0)))), (e5_29, .inl (g.2.1, 24, .inl (fun _ => 0)))] H locs := hZ
  refine lv_aload_n hx hb dX7_init_60 rfl (lv_at hl 0 rfl) ?_
  refine zz_new hC hZ zn_X7_39 (Nat.le_of_ble_eq_true rfl) (Nat.le_of_ble_eq_true rfl) dX7_init_61 (fun q30 H hZ => ?_)
  have hZ : zz_Z g A s.heap [(h0, .inr (6, [.ref q1, .ref q12, .ref q16, .ref q22, .null, .null, .int 0, .int 0])), (q1, .inr (5, [.int 0, .int 0, .ref e1_4, .ref e2_5, .ref e3_6, .ref e4_7, .ref e5_8, .ref e6_9, .ref e7_10, .ref e8_11])), (e1_4, .inl (g.2.1, 60, .inl (fun _ => 0))), (e2_5, .inl (g.2.1, 60, .inl (fun _ => 0))), (e3_6, .inl (g.2.1, 60, .inl (fun _ => 0))), (e4_7, .inl (g.2.1, 60, .inl (fun _ => 0))), (e5_8, .inl (g.2.1, 60, .inl (fun _ => 0))), (e6_9, .inl (g.2.2.1, 4000, .inr (.inl (fun _ => 0)))), (e7_10, .inl (g.2.2.2.1, 4000, .inl (fun _ => 0))), (e8_11, .inl (g.2.2.1, 200, .inr (.inl (fun _ => 0)))), (q12, .inr (2, [.ref q1, .ref e1_15, .int 0, .int 0])), (e1_15, .inl (g.2.1, 4, .inl (fun _ => 0))), (q16, .inr (1, [.ref q1, .int 0, .ref e1_19, .ref e2_20, .ref e3_21])), (e1_19, .inl (g.2.1, 3600, .inl (fun _ => 0))), (e2_20, .inl (g.2.1, 60, .inl (fun _ => 0))), (e3_21, .inl (g.2.1, 60, .inl (fun _ => 0))), (q22, .inr (0, [.ref q1, .int 0, .ref e1_25, .ref e2_26, .ref e3_27, .ref e4_28, .ref e5_29])), (e1_25, .inl (g.2.1, 24, .inl (fun _ => 0))), (e2_26, .inl (g.2.1, 24, .inl (fun _ => 0))), (e3_27, .inl (g.2.1, 24, .inl (fun _ => 0))), (e4_28, .inl (g.2.2.1, 384, .inr (.inl (fun _ => 0)))), (e5_29, .inl (g.2.1, 24, .inl (fun _ => 0))), (q30, .inr (4, [.null, .int 0, .null, .null, .null, .null, .null, .null, .null]))] H locs := hZ
  refine lv_dup hx hb dX7_init_64 rfl ?_
  refine lv_aload_n hx hb dX7_init_65 rfl (lv_at hl 0 rfl) ?_
  refine zz_get hC hZ 0 rfl zf_X7_10 rfl dX7_init_66 ?_
  refine zz_vI (As := [.ref q1]) (wc := [(q30, .inr (4, [.null, .int 0, .null, .null, .null, .null, .null, .null, .null]))]) (wr := [(h0, .inr (6, [.ref q1, .ref q12, .ref q16, .ref q22, .null, .null, .int 0, .int 0])), (q1, .inr (5, [.int 0, .int 0, .ref e1_4, .ref e2_5, .ref e3_6, .ref e4_7, .ref e5_8, .ref e6_9, .ref e7_10, .ref e8_11])), (e1_4, .inl (g.2.1, 60, .inl (fun _ => 0))), (e2_5, .inl (g.2.1, 60, .inl (fun _ => 0))), (e3_6, .inl (g.2.1, 60, .inl (fun _ => 0))), (e4_7, .inl (g.2.1, 60, .inl (fun _ => 0))), (e5_8, .inl (g.2.1, 60, .inl (fun _ => 0))), (e6_9, .inl (g.2.2.1, 4000, .inr (.inl (fun _ => 0)))), (e7_10, .inl (g.2.2.2.1, 4000, .inl (fun _ => 0))), (e8_11, .inl (g.2.2.1, 200, .inr (.inl (fun _ => 0)))), (q12, .inr (2, [.ref q1, .ref e1_15, .int 0, .int 0])), (e1_15, .inl (g.2.1, 4, .inl (fun _ => 0))), (q16, .inr (1, [.ref q1, .int 0, .ref e1_19, .ref e2_20, .ref e3_21])), (e1_19, .inl (g.2.1, 3600, .inl (fun _ => 0))), (e2_20, .inl (g.2.1, 60, .inl (fun _ => 0))), (e3_21, .inl (g.2.1, 60, .inl (fun _ => 0))), (q22, .inr (0, [.ref q1, .int 0, .ref e1_25, .ref e2_26, .ref e3_27, .ref e4_28, .ref e5_29])), (e1_25, .inl (g.2.1, 24, .inl (fun _ => 0))), (e2_26, .inl (g.2.1, 24, .inl (fun _ => 0))), (e3_27, .inl (g.2.1, 24, .inl (fun _ => 0))), (e4_28, .inl (g.2.2.1, 384, .inr (.inl (fun _ => 0)))), (e5_29, .inl (g.2.1, 24, .inl (fun _ => 0)))]) (rest := [.ref q30, .ref h0]) hC hZ hl zc_X7_41 (ci_Rules g q30 q1) [22] [0, 1, 2, 3, 4, 5, 6, 7, 8, 9, 10, 11, 12, 13, 14, 15, 16, 17, 18, 19, 20, 21] rfl rfl (by decide) rfl rfl (Nat.le_of_ble_eq_true rfl) ⟨⟨Nat.le_of_ble_eq_true rfl, Nat.le_of_ble_eq_true rfl⟩, Nat.le_of_ble_eq_true rfl, Nat.le_of_ble_eq_true rfl⟩ dX7_init_69 (fun u32 H locs hp hZ => ?_)
  obtain ⟨e1_33, e2_34, e3_35, e4_36, e5_37, e6_38, e7_39, rfl⟩ := hp
  have hZ : zz_Z g A s.heap [(h0, .inr (6, [.ref q1, .ref q12, .ref q16, .ref q22, .null, .null, .int 0, .int 0])), (q1, .inr (5, [.int 0, .int 0, .ref e1_4, .ref e2_5, .ref e3_6, .ref e4_7, .ref e5_8, .ref e6_9, .ref e7_10, .ref e8_11])), (e1_4, .inl (g.2.1, 60, .inl (fun _ => 0))), (e2_5, .inl (g.2.1, 60, .inl (fun _ => 0))), (e3_6, .inl (g.2.1, 60, .inl (fun _ => 0))), (e4_7, .inl (g.2.1, 60, .inl (fun _ => 0))), (e5_8, .inl (g.2.1, 60, .inl (fun _ => 0))), (e6_9, .inl (g.2.2.1, 4000, .inr (.inl (fun _ => 0)))), (e7_10, .inl (g.2.2.2.1, 4000, .inl (fun _ => 0))), (e8_11, .inl (g.2.2.1, 200, .inr (.inl (fun _ => 0)))), (q12, .inr (2, [.ref q1, .ref e1_15, .int 0, .int 0])), (e1_15, .inl (g.2.1, 4, .inl (fun _ => 0))), (q16, .inr (1, [.ref q1, .int 0, .ref e1_19, .ref e2_20, .ref e3_21])), (e1_19, .inl (g.2.1, 3600, .inl (fun _ => 0))), (e2_20, .inl (g.2.1, 60, .inl (fun _ => 0))), (e3_21, .inl (g.2.1, 60, .inl (fun _ => 0))), (q22, .inr (0, [.ref q1, .int 0, .ref e1_25, .ref e2_26, .ref e3_27, .ref e4_28, .ref e5_29])), (e1_25, .inl (g.2.1, 24, .inl (fun _ => 0))), (e2_26, .inl (g.2.1, 24, .inl (fun _ => 0))), (e3_27, .inl (g.2.1, 24, .inl (fun _ => 0))), (e4_28, .inl (g.2.2.1, 384, .inr (.inl (fun _ => 0)))), (e5_29, .inl (g.2.1, 24, .inl (fun _ => 0))), (q30, .inr (4, [.ref q1, .int 0, .ref e1_33, .ref e2_34, .ref e3_35, .ref e4_36, .ref e5_37, .ref e6_38, .ref e7_39])), (e1_33, .inl (g.2.1, 12, .inl (fun _ => 0))), (e2_34, .inl (g.2.1, 12, .inl (fun _ => 0))), (e3_35, .inl (g.2.1, 12, .inl (fun _ => 0))), (e4_36, .inl (g.2.2.1, 12, .inr (.inl (fun _ => 0)))), (e5_37, .inl (g.2.2.1, 12, .inr (.inl (fun _ => 0)))), (e6_38, .inl (g.2.2.1, 12, .inr (.inl (fun _ => 0)))), (e7_39, .inl (g.2.2.1, 12, .inr (.inl (fun _ => 0))))] H locs := hZ
  refine zz_putF hC hnm hZ 0 rfl zu_X7_42 rfl rfl (Nat.le_of_ble_eq_true rfl) dX7_init_72 (fun H locs hZ => ?_)
  have hZ : zz_Z g A s.heap [(h0, .inr (6, [.ref q1, .ref q12, .ref q16, .ref q22, .ref q30, .null, .int 0, .int 0])), (q1, .inr (5, [.int 0, .int 0, .ref e1_4, .ref e2_5, .ref e3_6, .ref e4_7, .ref e5_8, .ref e6_9, .ref e7_10, .ref e8_11])), (e1_4, .inl (g.2.1, 60, .inl (fun _ => 0))), (e2_5, .inl (g.2.1, 60, .inl (fun _ => 0))), (e3_6, .inl (g.2.1, 60, .inl (fun _ => 0))), (e4_7, .inl (g.2.1, 60, .inl (fun _ => 0))), (e5_8, .inl (g.2.1, 60, .inl (fun _ => 0))), (e6_9, .inl (g.2.2.1, 4000, .inr (.inl (fun _ => 0)))), (e7_10, .inl (g.2.2.2.1, 4000, .inl (fun _ => 0))), (e8_11, .inl (g.2.2.1, 200, .inr (.inl (fun _ => 0)))), (q12, .inr (2, [.ref q1, .ref e1_15, .int 0, .int 0])), (e1_15, .inl (g.2.1, 4, .inl (fun _ => 0))), (q16, .inr (1, [.ref q1, .int 0, .ref e1_19, .ref e2_20, .ref e3_21])), (e1_19, .inl (g.2.1, 3600, .inl (fun _ => 0))), (e2_20, .inl (g.2.1, 60, .inl (fun _ => 0))), (e3_21, .inl (g.2.1, 60, .inl (fun _ => 0))), (q22, .inr (0, [.ref q1, .int 0, .ref e1_25, .ref e2_26, .ref e3_27, .ref e4_28, .ref e5_29])), (e1_25, .inl (g.2.1, 24, .inl (fun _ => 0))), (e2_26, .inl (g.2.1, 24, .inl (fun _ => 0))), (e3_27, .inl (g.2.1, 24, .inl (fun _ => 0))), (e4_28, .inl (g.2.2.1, 384, .inr (.inl (fun _ => 0)))), (e5_29, .inl (g.2.1, 24, .inl (fun _ => 0))), (q30, .inr (4, [.ref q1, .int 0, .ref e1_33, .ref e2_34, .ref e3_35, .ref e4_36, .ref e5_37, .ref e6_38, .ref e7_39])), (e1_33, .inl (g.2.1, 12, .inl (fun _ => 0))), (e2_34, .inl (g.2.1, 12, .inl (fun _ => 0))), (e3_35, .inl (g.2.1, 12, .inl (fun _ => 0))), (e4_36, .inl (g.2.2.1, 12, .inr (.inl (fun _ => 0)))), (e5_37, .inl (g.2.2.1, 12, .inr (.inl (fun _ => 0)))), (e6_38, .inl (g.2.2.1, 12, .inr (.inl (fun _ => 0)))), (e7_39, .inl (g.2.2.1, 12, .inr (.inl (fun _ => 0))))] H locs := hZ
  refine lv_aload_n hx hb dX7_init_75 rfl (lv_at hl 0 rfl) ?_
  refine lv_bipush (v := 8) hx hb dX7_init_76 (by decide) ?_
  refine zz_newq (N' := 8) hC hZ zk_198 (by decide) (by decide) (Nat.le_of_ble_eq_true rfl) (Nat.le_of_ble_eq_true rfl) (Nat.le_of_ble_eq_true rfl) dX7_init_78 (fun q40 H hZ => ?_)
  have hZ : zz_Z g A s.heap [(h0, .inr (6, [.ref q1, .ref q12, .ref q16, .ref q22, .ref q30, .null, .int 0, .int 0])), (q1, .inr (5, [.int 0, .int 0, .ref e1_4, .ref e2_5, .ref e3_6, .ref e4_7, .ref e5_8, .ref e6_9, .ref e7_10, .ref e8_11])), (e1_4, .inl (g.2.1, 60, .inl (fun _ => 0))), (e2_5, .inl (g.2.1, 60, .inl (fun _ => 0))), (e3_6, .inl (g.2.1, 60, .inl (fun _ => 0))), (e4_7, .inl (g.2.1, 60, .inl (fun _ => 0))), (e5_8, .inl (g.2.1, 60, .inl (fun _ => 0))), (e6_9, .inl (g.2.2.1, 4000, .inr (.inl (fun _ => 0)))), (e7_10, .inl (g.2.2.2.1, 4000, .inl (fun _ => 0))), (e8_11, .inl (g.2.2.1, 200, .inr (.inl (fun _ => 0)))), (q12, .inr (2, [.ref q1, .ref e1_15, .int 0, .int 0])), (e1_15, .inl (g.2.1, 4, .inl (fun _ => 0))), (q16, .inr (1, [.ref q1, .int 0, .ref e1_19, .ref e2_20, .ref e3_21])), (e1_19, .inl (g.2.1, 3600, .inl (fun _ => 0))), (e2_20, .inl (g.2.1, 60, .inl (fun _ => 0))), (e3_21, .inl (g.2.1, 60, .inl (fun _ => 0))), (q22, .inr (0, [.ref q1, .int 0, .ref e1_25, .ref e2_26, .ref e3_27, .ref e4_28, .ref e5_29])), (e1_25, .inl (g.2.1, 24, .inl (fun _ => 0))), (e2_26, .inl (g.2.1, 24, .inl (fun _ => 0))), (e3_27, .inl (g.2.1, 24, .inl (fun _ => 0))), (e4_28, .inl (g.2.2.1, 384, .inr (.inl (fun _ => 0)))), (e5_29, .inl (g.2.1, 24, .inl (fun _ => 0))), (q30, .inr (4, [.ref q1, .int 0, .ref e1_33, .ref e2_34, .ref e3_35, .ref e4_36, .ref e5_37, .ref e6_38, .ref e7_39])), (e1_33, .inl (g.2.1, 12, .inl (fun _ => 0))), (e2_34, .inl (g.2.1, 12, .inl (fun _ => 0))), (e3_35, .inl (g.2.1, 12, .inl (fun _ => 0))), (e4_36, .inl (g.2.2.1, 12, .inr (.inl (fun _ => 0)))), (e5_37, .inl (g.2.2.1, 12, .inr (.inl (fun _ => 0)))), (e6_38, .inl (g.2.2.1, 12, .inr (.inl (fun _ => 0)))), (e7_39, .inl (g.2.2.1, 12, .inr (.inl (fun _ => 0)))), (q40, .inl (g.2.2.2.2, 8, .inr (.inr (.inr (.inr (fun _ => none))))))] H locs := hZ
  refine zz_putF hC hnm hZ 0 rfl zu_X7_48 rfl rfl (Nat.le_of_ble_eq_true rfl) dX7_init_81 (fun H locs hZ => ?_)
  have hZ : zz_Z g A s.heap [(h0, .inr (6, [.ref q1, .ref q12, .ref q16, .ref q22, .ref q30, .ref q40, .int 0, .int 0])), (q1, .inr (5, [.int 0, .int 0, .ref e1_4, .ref e2_5, .ref e3_6, .ref e4_7, .ref e5_8, .ref e6_9, .ref e7_10, .ref e8_11])), (e1_4, .inl (g.2.1, 60, .inl (fun _ => 0))), (e2_5, .inl (g.2.1, 60, .inl (fun _ => 0))), (e3_6, .inl (g.2.1, 60, .inl (fun _ => 0))), (e4_7, .inl (g.2.1, 60, .inl (fun _ => 0))), (e5_8, .inl (g.2.1, 60, .inl (fun _ => 0))), (e6_9, .inl (g.2.2.1, 4000, .inr (.inl (fun _ => 0)))), (e7_10, .inl (g.2.2.2.1, 4000, .inl (fun _ => 0))), (e8_11, .inl (g.2.2.1, 200, .inr (.inl (fun _ => 0)))), (q12, .inr (2, [.ref q1, .ref e1_15, .int 0, .int 0])), (e1_15, .inl (g.2.1, 4, .inl (fun _ => 0))), (q16, .inr (1, [.ref q1, .int 0, .ref e1_19, .ref e2_20, .ref e3_21])), (e1_19, .inl (g.2.1, 3600, .inl (fun _ => 0))), (e2_20, .inl (g.2.1, 60, .inl (fun _ => 0))), (e3_21, .inl (g.2.1, 60, .inl (fun _ => 0))), (q22, .inr (0, [.ref q1, .int 0, .ref e1_25, .ref e2_26, .ref e3_27, .ref e4_28, .ref e5_29])), (e1_25, .inl (g.2.1, 24, .inl (fun _ => 0))), (e2_26, .inl (g.2.1, 24, .inl (fun _ => 0))), (e3_27, .inl (g.2.1, 24, .inl (fun _ => 0))), (e4_28, .inl (g.2.2.1, 384, .inr (.inl (fun _ => 0)))), (e5_29, .inl (g.2.1, 24, .inl (fun _ => 0))), (q30, .inr (4, [.ref q1, .int 0, .ref e1_33, .ref e2_34, .ref e3_35, .ref e4_36, .ref e5_37, .ref e6_38, .ref e7_39])), (e1_33, .inl (g.2.1, 12, .inl (fun _ => 0))), (e2_34, .inl (g.2.1, 12, .inl (fun _ => 0))), (e3_35, .inl (g.2.1, 12, .inl (fun _ => 0))), (e4_36, .inl (g.2.2.1, 12, .inr (.inl (fun _ => 0)))), (e5_37, .inl (g.2.2.1, 12, .inr (.inl (fun _ => 0)))), (e6_38, .inl (g.2.2.1, 12, .inr (.inl (fun _ => 0)))), (e7_39, .inl (g.2.2.1, 12, .inr (.inl (fun _ => 0)))), (q40, .inl (g.2.2.2.2, 8, .inr (.inr (.inr (.inr (fun _ => none))))))] H locs := hZ
  refine lv_aload_n hx hb dX7_init_84 rfl (lv_at hl 0 rfl) ?_
  refine lv_iconst (v := 0) hx hb dX7_init_85 (by decide) ?_
  refine zz_put hC hZ 0 rfl zu_X7_52 (Nat.le_of_ble_eq_true rfl) dX7_init_86 (fun H locs hZ => ?_)
  have hZ : zz_Z g A s.heap [(h0, .inr (6, [.ref q1, .ref q12, .ref q16, .ref q22, .ref q30, .ref q40, .int 0, .int 0])), (q1, .inr (5, [.int 0, .int 0, .ref e1_4, .ref e2_5, .ref e3_6, .ref e4_7, .ref e5_8, .ref e6_9, .ref e7_10, .ref e8_11])), (e1_4, .inl (g.2.1, 60, .inl (fun _ => 0))), (e2_5, .inl (g.2.1, 60, .inl (fun _ => 0))), (e3_6, .inl (g.2.1, 60, .inl (fun _ => 0))), (e4_7, .inl (g.2.1, 60, .inl (fun _ => 0))), (e5_8, .inl (g.2.1, 60, .inl (fun _ => 0))), (e6_9, .inl (g.2.2.1, 4000, .inr (.inl (fun _ => 0)))), (e7_10, .inl (g.2.2.2.1, 4000, .inl (fun _ => 0))), (e8_11, .inl (g.2.2.1, 200, .inr (.inl (fun _ => 0)))), (q12, .inr (2, [.ref q1, .ref e1_15, .int 0, .int 0])), (e1_15, .inl (g.2.1, 4, .inl (fun _ => 0))), (q16, .inr (1, [.ref q1, .int 0, .ref e1_19, .ref e2_20, .ref e3_21])), (e1_19, .inl (g.2.1, 3600, .inl (fun _ => 0))), (e2_20, .inl (g.2.1, 60, .inl (fun _ => 0))), (e3_21, .inl (g.2.1, 60, .inl (fun _ => 0))), (q22, .inr (0, [.ref q1, .int 0, .ref e1_25, .ref e2_26, .ref e3_27, .ref e4_28, .ref e5_29])), (e1_25, .inl (g.2.1, 24, .inl (fun _ => 0))), (e2_26, .inl (g.2.1, 24, .inl (fun _ => 0))), (e3_27, .inl (g.2.1, 24, .inl (fun _ => 0))), (e4_28, .inl (g.2.2.1, 384, .inr (.inl (fun _ => 0)))), (e5_29, .inl (g.2.1, 24, .inl (fun _ => 0))), (q30, .inr (4, [.ref q1, .int 0, .ref e1_33, .ref e2_34, .ref e3_35, .ref e4_36, .ref e5_37, .ref e6_38, .ref e7_39])), (e1_33, .inl (g.2.1, 12, .inl (fun _ => 0))), (e2_34, .inl (g.2.1, 12, .inl (fun _ => 0))), (e3_35, .inl (g.2.1, 12, .inl (fun _ => 0))), (e4_36, .inl (g.2.2.1, 12, .inr (.inl (fun _ => 0)))), (e5_37, .inl (g.2.2.1, 12, .inr (.inl (fun _ => 0)))), (e6_38, .inl (g.2.2.1, 12, .inr (.inl (fun _ => 0)))), (e7_39, .inl (g.2.2.1, 12, .inr (.inl (fun _ => 0)))), (q40, .inl (g.2.2.2.2, 8, .inr (.inr (.inr (.inr (fun _ => none))))))] H locs := hZ
  refine lv_aload_n hx hb dX7_init_89 rfl (lv_at hl 0 rfl) ?_
  refine lv_iconst (v := 0) hx hb dX7_init_90 (by decide) ?_
  refine zz_put hC hZ 0 rfl zu_X7_56 (Nat.le_of_ble_eq_true rfl) dX7_init_91 (fun H locs hZ => ?_)
  have hZ : zz_Z g A s.heap [(h0, .inr (6, [.ref q1, .ref q12, .ref q16, .ref q22, .ref q30, .ref q40, .int 0, .int 0])), (q1, .inr (5, [.int 0, .int 0, .ref e1_4, .ref e2_5, .ref e3_6, .ref e4_7, .ref e5_8, .ref e6_9, .ref e7_10, .ref e8_11])), (e1_4, .inl (g.2.1, 60, .inl (fun _ => 0))), (e2_5, .inl (g.2.1, 60, .inl (fun _ => 0))), (e3_6, .inl (g.2.1, 60, .inl (fun _ => 0))), (e4_7, .inl (g.2.1, 60, .inl (fun _ => 0))), (e5_8, .inl (g.2.1, 60, .inl (fun _ => 0))), (e6_9, .inl (g.2.2.1, 4000, .inr (.inl (fun _ => 0)))), (e7_10, .inl (g.2.2.2.1, 4000, .inl (fun _ => 0))), (e8_11, .inl (g.2.2.1, 200, .inr (.inl (fun _ => 0)))), (q12, .inr (2, [.ref q1, .ref e1_15, .int 0, .int 0])), (e1_15, .inl (g.2.1, 4, .inl (fun _ => 0))), (q16, .inr (1, [.ref q1, .int 0, .ref e1_19, .ref e2_20, .ref e3_21])), (e1_19, .inl (g.2.1, 3600, .inl (fun _ => 0))), (e2_20, .inl (g.2.1, 60, .inl (fun _ => 0))), (e3_21, .inl (g.2.1, 60, .inl (fun _ => 0))), (q22, .inr (0, [.ref q1, .int 0, .ref e1_25, .ref e2_26, .ref e3_27, .ref e4_28, .ref e5_29])), (e1_25, .inl (g.2.1, 24, .inl (fun _ => 0))), (e2_26, .inl (g.2.1, 24, .inl (fun _ => 0))), (e3_27, .inl (g.2.1, 24, .inl (fun _ => 0))), (e4_28, .inl (g.2.2.1, 384, .inr (.inl (fun _ => 0)))), (e5_29, .inl (g.2.1, 24, .inl (fun _ => 0))), (q30, .inr (4, [.ref q1, .int 0, .ref e1_33, .ref e2_34, .ref e3_35, .ref e4_36, .ref e5_37, .ref e6_38, .ref e7_39])), (e1_33, .inl (g.2.1, 12, .inl (fun _ => 0))), (e2_34, .inl (g.2.1, 12, .inl (fun _ => 0))), (e3_35, .inl (g.2.1, 12, .inl (fun _ => 0))), (e4_36, .inl (g.2.2.1, 12, .inr (.inl (fun _ => 0)))), (e5_37, .inl (g.2.2.1, 12, .inr (.inl (fun _ => 0)))), (e6_38, .inl (g.2.2.1, 12, .inr (.inl (fun _ => 0)))), (e7_39, .inl (g.2.2.1, 12, .inr (.inl (fun _ => 0)))), (q40, .inl (g.2.2.2.2, 8, .inr (.inr (.inr (.inr (fun _ => none))))))] H locs := hZ
  exact zz_vret hC hZ (⟨q1, e1_4, e2_5, e3_6, e4_7, e5_8, e6_9, e7_10, e8_11, q12, e1_15, q16, e1_19, e2_20, e3_21, q22, e1_25, e2_26, e3_27, e4_28, e5_29, q30, e1_33, e2_34, e3_35, e4_36, e5_37, e6_38, e7_39, q40, rfl⟩) (Nat.le_of_ble_eq_true rfl) (Nat.le_of_ble_eq_true rfl) dX7_init_94
end
section
theorem dX8_init_0 : decode cX8_init 0 = .ok (.aload_n 0, 1) := by decide +kernel
theorem dX8_init_1 : decode cX8_init 1 = .ok (.invokespecial 1, 3) := by decide +kernel
theorem zk_734 : Cond.methodLink RX8 1 objectInit ∈ zz_w := zz_in (List.mem_append_right _ (List.mem_append_right _ (List.mem_append_right _ (List.mem_append_right _ (List.mem_append_left _ (List.mem_of_getElem? (i := 14) (by decide +kernel))))))) rfl
theorem dX8_init_4 : decode cX8_init 4 = .ok (.aload_n 0, 1) := by decide +kernel
theorem dX8_init_5 : decode cX8_init 5 = .ok (.bipush 60, 2) := by decide +kernel
theorem dX8_init_7 : decode cX8_init 7 = .ok (.newarray .int, 2) := by decide +kernel
theorem dX8_init_9 : decode cX8_init 9 = .ok (.putfield 7, 3) := by decide +kernel
theorem zk_737 : Cond.fieldLink RX8 7 RX8 "kindOf" "[I" ∈ zz_w := zz_in (List.mem_append_right _ (List.mem_append_right _ (List.mem_append_right _ (List.mem_append_right _ (List.mem_append_left _ (List.mem_of_getElem? (i := 17) (by decide +kernel))))))) rfl
theorem zu_X8_7 : zz_fw RX8 7 7 2 true (.array .int) := ⟨RX8, TX8, 37, tyX8, rfl, zi_X8, by decide, zk_737, tyX8_ok, nmX8, rfl, by decide +kernel, fun _ => rfl⟩
theorem dX8_init_12 : decode cX8_init 12 = .ok (.aload_n 0, 1) := by decide +kernel
theorem dX8_init_13 : decode cX8_init 13 = .ok (.bipush 60, 2) := by decide +kernel
theorem dX8_init_15 : decode cX8_init 15 = .ok (.newarray .int, 2) := by decide +kernel
theorem dX8_init_17 : decode cX8_init 17 = .ok (.putfield 13, 3) := by decide +kernel
theorem zk_738 : Cond.fieldLink RX8 13 RX8 "depthOf" "[I" ∈ zz_w := zz_in (List.mem_append_right _ (List.mem_append_right _ (List.mem_append_right _ (List.mem_append_right _ (List.mem_append_left _ (List.mem_of_getElem? (i := 18) (by decide +kernel))))))) rfl
theorem zu_X8_13 : zz_fw RX8 13 7 3 true (.array .int) := ⟨RX8, TX8, 37, tyX8, rfl, zi_X8, by decide, zk_738, tyX8_ok, nmX8, rfl, by decide +kernel, fun _ => rfl⟩
theorem dX8_init_20 : decode cX8_init 20 = .ok (.aload_n 0, 1) := by decide +kernel
theorem dX8_init_21 : decode cX8_init 21 = .ok (.bipush 60, 2) := by decide +kernel
theorem dX8_init_23 : decode cX8_init 23 = .ok (.newarray .int, 2) := by decide +kernel
theorem dX8_init_25 : decode cX8_init 25 = .ok (.putfield 16, 3) := by decide +kernel
theorem zk_739 : Cond.fieldLink RX8 16 RX8 "lengthOf" "[I" ∈ zz_w := zz_in (List.mem_append_right _ (List.mem_append_right _ (List.mem_append_right _ (List.mem_append_right _ (List.mem_append_left _ (List.mem_of_getElem? (i := 19) (by decide +kernel))))))) rfl
theorem zu_X8_16 : zz_fw RX8 16 7 4 true (.array .int) := ⟨RX8, TX8, 37, tyX8, rfl, zi_X8, by decide, zk_739, tyX8_ok, nmX8, rfl, by decide +kernel, fun _ => rfl⟩
theorem dX8_init_28 : decode cX8_init 28 = .ok (.aload_n 0, 1) := by decide +kernel
theorem dX8_init_29 : decode cX8_init 29 = .ok (.bipush 60, 2) := by decide +kernel
theorem dX8_init_31 : decode cX8_init 31 = .ok (.newarray .int, 2) := by decide +kernel
theorem dX8_init_33 : decode cX8_init 33 = .ok (.putfield 19, 3) := by decide +kernel
theorem zk_740 : Cond.fieldLink RX8 19 RX8 "classOf" "[I" ∈ zz_w := zz_in (List.mem_append_right _ (List.mem_append_right _ (List.mem_append_right _ (List.mem_append_right _ (List.mem_append_left _ (List.mem_of_getElem? (i := 20) (by decide +kernel))))))) rfl
theorem zu_X8_19 : zz_fw RX8 19 7 5 true (.array .int) := ⟨RX8, TX8, 37, tyX8, rfl, zi_X8, by decide, zk_740, tyX8_ok, nmX8, rfl, by decide +kernel, fun _ => rfl⟩
theorem dX8_init_36 : decode cX8_init 36 = .ok (.aload_n 0, 1) := by decide +kernel
theorem dX8_init_37 : decode cX8_init 37 = .ok (.bipush 60, 2) := by decide +kernel
theorem dX8_init_39 : decode cX8_init 39 = .ok (.newarray .int, 2) := by decide +kernel
theorem dX8_init_41 : decode cX8_init 41 = .ok (.putfield 22, 3) := by decide +kernel
theorem zk_741 : Cond.fieldLink RX8 22 RX8 "baseOf" "[I" ∈ zz_w := zz_in (List.mem_append_right _ (List.mem_append_right _ (List.mem_append_right _ (List.mem_append_right _ (List.mem_append_left _ (List.mem_of_getElem? (i := 21) (by decide +kernel))))))) rfl
theorem zu_X8_22 : zz_fw RX8 22 7 6 true (.array .int) := ⟨RX8, TX8, 37, tyX8, rfl, zi_X8, by decide, zk_741, tyX8_ok, nmX8, rfl, by decide +kernel, fun _ => rfl⟩
theorem dX8_init_44 : decode cX8_init 44 = .ok (.aload_n 0, 1) := by decide +kernel
theorem dX8_init_45 : decode cX8_init 45 = .ok (.sipush 4000, 3) := by decide +kernel
theorem dX8_init_48 : decode cX8_init 48 = .ok (.newarray .long, 2) := by decide +kernel
theorem dX8_init_50 : decode cX8_init 50 = .ok (.putfield 25, 3) := by decide +kernel
theorem zk_742 : Cond.fieldLink RX8 25 RX8 "bits" "[J" ∈ zz_w := zz_in (List.mem_append_right _ (List.mem_append_right _ (List.mem_append_right _ (List.mem_append_right _ (List.mem_append_left _ (List.mem_of_getElem? (i := 22) (by decide +kernel))))))) rfl
theorem zu_X8_25 : zz_fw RX8 25 7 7 true (.array .long) := ⟨RX8, TX8, 37, tyX8, rfl, zi_X8, by decide, zk_742, tyX8_ok, nmX8, rfl, by decide +kernel, fun _ => rfl⟩
theorem dX8_init_53 : decode cX8_init 53 = .ok (.aload_n 0, 1) := by decide +kernel
theorem dX8_init_54 : decode cX8_init 54 = .ok (.sipush 4000, 3) := by decide +kernel
theorem dX8_init_57 : decode cX8_init 57 = .ok (.newarray .boolean, 2) := by decide +kernel
theorem dX8_init_59 : decode cX8_init 59 = .ok (.putfield 29, 3) := by decide +kernel
theorem zk_743 : Cond.fieldLink RX8 29 RX8 "pinned" "[Z" ∈ zz_w := zz_in (List.mem_append_right _ (List.mem_append_right _ (List.mem_append_right _ (List.mem_append_right _ (List.mem_append_left _ (List.mem_of_getElem? (i := 23) (by decide +kernel))))))) rfl
theorem zu_X8_29 : zz_fw RX8 29 7 8 true (.array .boolean) := ⟨RX8, TX8, 37, tyX8, rfl, zi_X8, by decide, zk_743, tyX8_ok, nmX8, rfl, by decide +kernel, fun _ => rfl⟩
theorem dX8_init_62 : decode cX8_init 62 = .ok (.aload_n 0, 1) := by decide +kernel
theorem dX8_init_63 : decode cX8_init 63 = .ok (.iconst 4, 1) := by decide +kernel
theorem dX8_init_64 : decode cX8_init 64 = .ok (.newarray .int, 2) := by decide +kernel
theorem dX8_init_66 : decode cX8_init 66 = .ok (.putfield 33, 3) := by decide +kernel
theorem zk_745 : Cond.fieldLink RX8 33 RX8 "lengths" "[I" ∈ zz_w := zz_in (List.mem_append_right _ (List.mem_append_right _ (List.mem_append_right _ (List.mem_append_right _ (List.mem_append_left _ (List.mem_of_getElem? (i := 25) (by decide +kernel))))))) rfl
theorem zu_X8_33 : zz_fw RX8 33 7 10 true (.array .int) := ⟨RX8, TX8, 37, tyX8, rfl, zi_X8, by decide, zk_745, tyX8_ok, nmX8, rfl, by decide +kernel, fun _ => rfl⟩
theorem dX8_init_69 : decode cX8_init 69 = .ok (.aload_n 0, 1) := by decide +kernel
theorem dX8_init_70 : decode cX8_init 70 = .ok (.iconst 5, 1) := by decide +kernel
theorem dX8_init_71 : decode cX8_init 71 = .ok (.newarray .int, 2) := by decide +kernel
theorem dX8_init_73 : decode cX8_init 73 = .ok (.putfield 36, 3) := by decide +kernel
theorem zk_746 : Cond.fieldLink RX8 36 RX8 "stackArray" "[I" ∈ zz_w := zz_in (List.mem_append_right _ (List.mem_append_right _ (List.mem_append_right _ (List.mem_append_right _ (List.mem_append_left _ (List.mem_of_getElem? (i := 26) (by decide +kernel))))))) rfl
theorem zu_X8_36 : zz_fw RX8 36 7 11 true (.array .int) := ⟨RX8, TX8, 37, tyX8, rfl, zi_X8, by decide, zk_746, tyX8_ok, nmX8, rfl, by decide +kernel, fun _ => rfl⟩
theorem dX8_init_76 : decode cX8_init 76 = .ok (.aload_n 0, 1) := by decide +kernel
theorem dX8_init_77 : decode cX8_init 77 = .ok (.iconst 5, 1) := by decide +kernel
theorem dX8_init_78 : decode cX8_init 78 = .ok (.newarray .int, 2) := by decide +kernel
theorem dX8_init_80 : decode cX8_init 80 = .ok (.putfield 39, 3) := by decide +kernel
theorem zk_747 : Cond.fieldLink RX8 39 RX8 "stackOther" "[I" ∈ zz_w := zz_in (List.mem_append_right _ (List.mem_append_right _ (List.mem_append_right _ (List.mem_append_right _ (List.mem_append_left _ (List.mem_of_getElem? (i := 27) (by decide +kernel))))))) rfl
theorem zu_X8_39 : zz_fw RX8 39 7 12 true (.array .int) := ⟨RX8, TX8, 37, tyX8, rfl, zi_X8, by decide, zk_747, tyX8_ok, nmX8, rfl, by decide +kernel, fun _ => rfl⟩
theorem dX8_init_83 : decode cX8_init 83 = .ok (.aload_n 0, 1) := by decide +kernel
theorem dX8_init_84 : decode cX8_init 84 = .ok (.iconst 5, 1) := by decide +kernel
theorem dX8_init_85 : decode cX8_init 85 = .ok (.newarray .int, 2) := by decide +kernel
theorem dX8_init_87 : decode cX8_init 87 = .ok (.putfield 42, 3) := by decide +kernel
theorem zk_748 : Cond.fieldLink RX8 42 RX8 "stackAt" "[I" ∈ zz_w := zz_in (List.mem_append_right _ (List.mem_append_right _ (List.mem_append_right _ (List.mem_append_right _ (List.mem_append_left _ (List.mem_of_getElem? (i := 28) (by decide +kernel))))))) rfl
theorem zu_X8_42 : zz_fw RX8 42 7 13 true (.array .int) := ⟨RX8, TX8, 37, tyX8, rfl, zi_X8, by decide, zk_748, tyX8_ok, nmX8, rfl, by decide +kernel, fun _ => rfl⟩
theorem dX8_init_90 : decode cX8_init 90 = .ok (.aload_n 0, 1) := by decide +kernel
theorem dX8_init_91 : decode cX8_init 91 = .ok (.iconst 4, 1) := by decide +kernel
theorem dX8_init_92 : decode cX8_init 92 = .ok (.newarray .int, 2) := by decide +kernel
theorem dX8_init_94 : decode cX8_init 94 = .ok (.putfield 45, 3) := by decide +kernel
theorem zk_751 : Cond.fieldLink RX8 45 RX8 "path" "[I" ∈ zz_w := zz_in (List.mem_append_right _ (List.mem_append_right _ (List.mem_append_right _ (List.mem_append_right _ (List.mem_append_left _ (List.mem_of_getElem? (i := 31) (by decide +kernel))))))) rfl
theorem zu_X8_45 : zz_fw RX8 45 7 16 true (.array .int) := ⟨RX8, TX8, 37, tyX8, rfl, zi_X8, by decide, zk_751, tyX8_ok, nmX8, rfl, by decide +kernel, fun _ => rfl⟩
theorem dX8_init_97 : decode cX8_init 97 = .ok (.aload_n 0, 1) := by decide +kernel
theorem dX8_init_98 : decode cX8_init 98 = .ok (.sipush 200, 3) := by decide +kernel
theorem dX8_init_101 : decode cX8_init 101 = .ok (.newarray .long, 2) := by decide +kernel
theorem dX8_init_103 : decode cX8_init 103 = .ok (.putfield 48, 3) := by decide +kernel
theorem zk_752 : Cond.fieldLink RX8 48 RX8 "held" "[J" ∈ zz_w := zz_in (List.mem_append_right _ (List.mem_append_right _ (List.mem_append_right _ (List.mem_append_right _ (List.mem_append_left _ (List.mem_of_getElem? (i := 32) (by decide +kernel))))))) rfl
theorem zu_X8_48 : zz_fw RX8 48 7 17 true (.array .long) := ⟨RX8, TX8, 37, tyX8, rfl, zi_X8, by decide, zk_752, tyX8_ok, nmX8, rfl, by decide +kernel, fun _ => rfl⟩
theorem dX8_init_106 : decode cX8_init 106 = .ok (.aload_n 0, 1) := by decide +kernel
theorem dX8_init_107 : decode cX8_init 107 = .ok (.sipush 3600, 3) := by decide +kernel
theorem dX8_init_110 : decode cX8_init 110 = .ok (.newarray .boolean, 2) := by decide +kernel
theorem dX8_init_112 : decode cX8_init 112 = .ok (.putfield 51, 3) := by decide +kernel
theorem zk_753 : Cond.fieldLink RX8 51 RX8 "alike" "[Z" ∈ zz_w := zz_in (List.mem_append_right _ (List.mem_append_right _ (List.mem_append_right _ (List.mem_append_right _ (List.mem_append_left _ (List.mem_of_getElem? (i := 33) (by decide +kernel))))))) rfl
theorem zu_X8_51 : zz_fw RX8 51 7 18 true (.array .boolean) := ⟨RX8, TX8, 37, tyX8, rfl, zi_X8, by decide, zk_753, tyX8_ok, nmX8, rfl, by decide +kernel, fun _ => rfl⟩
theorem dX8_init_115 : decode cX8_init 115 = .ok (.aload_n 0, 1) := by decide +kernel
theorem dX8_init_116 : decode cX8_init 116 = .ok (.bipush 60, 2) := by decide +kernel
theorem dX8_init_118 : decode cX8_init 118 = .ok (.newarray .int, 2) := by decide +kernel
theorem dX8_init_120 : decode cX8_init 120 = .ok (.putfield 54, 3) := by decide +kernel
theorem zk_754 : Cond.fieldLink RX8 54 RX8 "hashes" "[I" ∈ zz_w := zz_in (List.mem_append_right _ (List.mem_append_right _ (List.mem_append_right _ (List.mem_append_right _ (List.mem_append_left _ (List.mem_of_getElem? (i := 34) (by decide +kernel))))))) rfl
theorem zu_X8_54 : zz_fw RX8 54 7 19 true (.array .int) := ⟨RX8, TX8, 37, tyX8, rfl, zi_X8, by decide, zk_754, tyX8_ok, nmX8, rfl, by decide +kernel, fun _ => rfl⟩
theorem dX8_init_123 : decode cX8_init 123 = .ok (.aload_n 0, 1) := by decide +kernel
theorem dX8_init_124 : decode cX8_init 124 = .ok (.bipush 24, 2) := by decide +kernel
theorem dX8_init_126 : decode cX8_init 126 = .ok (.newarray .int, 2) := by decide +kernel
theorem dX8_init_128 : decode cX8_init 128 = .ok (.putfield 57, 3) := by decide +kernel
theorem zk_756 : Cond.fieldLink RX8 57 RX8 "decisionArray" "[I" ∈ zz_w := zz_in (List.mem_append_right _ (List.mem_append_right _ (List.mem_append_right _ (List.mem_append_right _ (List.mem_append_left _ (List.mem_of_getElem? (i := 36) (by decide +kernel))))))) rfl
theorem zu_X8_57 : zz_fw RX8 57 7 21 true (.array .int) := ⟨RX8, TX8, 37, tyX8, rfl, zi_X8, by decide, zk_756, tyX8_ok, nmX8, rfl, by decide +kernel, fun _ => rfl⟩
theorem dX8_init_131 : decode cX8_init 131 = .ok (.aload_n 0, 1) := by decide +kernel
theorem dX8_init_132 : decode cX8_init 132 = .ok (.bipush 24, 2) := by decide +kernel
theorem dX8_init_134 : decode cX8_init 134 = .ok (.newarray .int, 2) := by decide +kernel
theorem dX8_init_136 : decode cX8_init 136 = .ok (.putfield 60, 3) := by decide +kernel
theorem zk_757 : Cond.fieldLink RX8 60 RX8 "decisionPlace" "[I" ∈ zz_w := zz_in (List.mem_append_right _ (List.mem_append_right _ (List.mem_append_right _ (List.mem_append_right _ (List.mem_append_left _ (List.mem_of_getElem? (i := 37) (by decide +kernel))))))) rfl
theorem zu_X8_60 : zz_fw RX8 60 7 22 true (.array .int) := ⟨RX8, TX8, 37, tyX8, rfl, zi_X8, by decide, zk_757, tyX8_ok, nmX8, rfl, by decide +kernel, fun _ => rfl⟩
theorem dX8_init_139 : decode cX8_init 139 = .ok (.aload_n 0, 1) := by decide +kernel
theorem dX8_init_140 : decode cX8_init 140 = .ok (.bipush 24, 2) := by decide +kernel
theorem dX8_init_142 : decode cX8_init 142 = .ok (.newarray .int, 2) := by decide +kernel
theorem dX8_init_144 : decode cX8_init 144 = .ok (.putfield 63, 3) := by decide +kernel
theorem zk_758 : Cond.fieldLink RX8 63 RX8 "candidateMany" "[I" ∈ zz_w := zz_in (List.mem_append_right _ (List.mem_append_right _ (List.mem_append_right _ (List.mem_append_right _ (List.mem_append_left _ (List.mem_of_getElem? (i := 38) (by decide +kernel))))))) rfl
theorem zu_X8_63 : zz_fw RX8 63 7 23 true (.array .int) := ⟨RX8, TX8, 37, tyX8, rfl, zi_X8, by decide, zk_758, tyX8_ok, nmX8, rfl, by decide +kernel, fun _ => rfl⟩
theorem dX8_init_147 : decode cX8_init 147 = .ok (.aload_n 0, 1) := by decide +kernel
theorem dX8_init_148 : decode cX8_init 148 = .ok (.sipush 384, 3) := by decide +kernel
theorem dX8_init_151 : decode cX8_init 151 = .ok (.newarray .long, 2) := by decide +kernel
theorem dX8_init_153 : decode cX8_init 153 = .ok (.putfield 66, 3) := by decide +kernel
theorem zk_759 : Cond.fieldLink RX8 66 RX8 "candidates" "[J" ∈ zz_w := zz_in (List.mem_append_right _ (List.mem_append_right _ (List.mem_append_right _ (List.mem_append_right _ (List.mem_append_left _ (List.mem_of_getElem? (i := 39) (by decide +kernel))))))) rfl
theorem zu_X8_66 : zz_fw RX8 66 7 24 true (.array .long) := ⟨RX8, TX8, 37, tyX8, rfl, zi_X8, by decide, zk_759, tyX8_ok, nmX8, rfl, by decide +kernel, fun _ => rfl⟩
theorem dX8_init_156 : decode cX8_init 156 = .ok (.aload_n 0, 1) := by decide +kernel
theorem dX8_init_157 : decode cX8_init 157 = .ok (.bipush 12, 2) := by decide +kernel
theorem dX8_init_159 : decode cX8_init 159 = .ok (.newarray .int, 2) := by decide +kernel
theorem dX8_init_161 : decode cX8_init 161 = .ok (.putfield 69, 3) := by decide +kernel
theorem zk_761 : Cond.fieldLink RX8 69 RX8 "ruleSort" "[I" ∈ zz_w := zz_in (List.mem_append_right _ (List.mem_append_right _ (List.mem_append_right _ (List.mem_append_right _ (List.mem_append_left _ (List.mem_of_getElem? (i := 41) (by decide +kernel))))))) rfl
theorem zu_X8_69 : zz_fw RX8 69 7 26 true (.array .int) := ⟨RX8, TX8, 37, tyX8, rfl, zi_X8, by decide, zk_761, tyX8_ok, nmX8, rfl, by decide +kernel, fun _ => rfl⟩
theorem dX8_init_164 : decode cX8_init 164 = .ok (.aload_n 0, 1) := by decide +kernel
theorem dX8_init_165 : decode cX8_init 165 = .ok (.bipush 12, 2) := by decide +kernel
theorem dX8_init_167 : decode cX8_init 167 = .ok (.newarray .int, 2) := by decide +kernel
theorem dX8_init_169 : decode cX8_init 169 = .ok (.putfield 72, 3) := by decide +kernel
theorem zk_762 : Cond.fieldLink RX8 72 RX8 "ruleArray" "[I" ∈ zz_w := zz_in (List.mem_append_right _ (List.mem_append_right _ (List.mem_append_right _ (List.mem_append_right _ (List.mem_append_left _ (List.mem_of_getElem? (i := 42) (by decide +kernel))))))) rfl
theorem zu_X8_72 : zz_fw RX8 72 7 27 true (.array .int) := ⟨RX8, TX8, 37, tyX8, rfl, zi_X8, by decide, zk_762, tyX8_ok, nmX8, rfl, by decide +kernel, fun _ => rfl⟩
theorem dX8_init_172 : decode cX8_init 172 = .ok (.aload_n 0, 1) := by decide +kernel
theorem dX8_init_173 : decode cX8_init 173 = .ok (.bipush 12, 2) := by decide +kernel
theorem dX8_init_175 : decode cX8_init 175 = .ok (.newarray .int, 2) := by decide +kernel
theorem dX8_init_177 : decode cX8_init 177 = .ok (.putfield 75, 3) := by decide +kernel
theorem zk_763 : Cond.fieldLink RX8 75 RX8 "ruleWeight" "[I" ∈ zz_w := zz_in (List.mem_append_right _ (List.mem_append_right _ (List.mem_append_right _ (List.mem_append_right _ (List.mem_append_left _ (List.mem_of_getElem? (i := 43) (by decide +kernel))))))) rfl
theorem zu_X8_75 : zz_fw RX8 75 7 28 true (.array .int) := ⟨RX8, TX8, 37, tyX8, rfl, zi_X8, by decide, zk_763, tyX8_ok, nmX8, rfl, by decide +kernel, fun _ => rfl⟩
theorem dX8_init_180 : decode cX8_init 180 = .ok (.aload_n 0, 1) := by decide +kernel
theorem dX8_init_181 : decode cX8_init 181 = .ok (.bipush 12, 2) := by decide +kernel
theorem dX8_init_183 : decode cX8_init 183 = .ok (.newarray .long, 2) := by decide +kernel
theorem dX8_init_185 : decode cX8_init 185 = .ok (.putfield 78, 3) := by decide +kernel
theorem zk_764 : Cond.fieldLink RX8 78 RX8 "ruleLow" "[J" ∈ zz_w := zz_in (List.mem_append_right _ (List.mem_append_right _ (List.mem_append_right _ (List.mem_append_right _ (List.mem_append_left _ (List.mem_of_getElem? (i := 44) (by decide +kernel))))))) rfl
theorem zu_X8_78 : zz_fw RX8 78 7 29 true (.array .long) := ⟨RX8, TX8, 37, tyX8, rfl, zi_X8, by decide, zk_764, tyX8_ok, nmX8, rfl, by decide +kernel, fun _ => rfl⟩
theorem dX8_init_188 : decode cX8_init 188 = .ok (.aload_n 0, 1) := by decide +kernel
theorem dX8_init_189 : decode cX8_init 189 = .ok (.bipush 12, 2) := by decide +kernel
theorem dX8_init_191 : decode cX8_init 191 = .ok (.newarray .long, 2) := by decide +kernel
theorem dX8_init_193 : decode cX8_init 193 = .ok (.putfield 81, 3) := by decide +kernel
theorem zk_765 : Cond.fieldLink RX8 81 RX8 "ruleHigh" "[J" ∈ zz_w := zz_in (List.mem_append_right _ (List.mem_append_right _ (List.mem_append_right _ (List.mem_append_right _ (List.mem_append_left _ (List.mem_of_getElem? (i := 45) (by decide +kernel))))))) rfl
theorem zu_X8_81 : zz_fw RX8 81 7 30 true (.array .long) := ⟨RX8, TX8, 37, tyX8, rfl, zi_X8, by decide, zk_765, tyX8_ok, nmX8, rfl, by decide +kernel, fun _ => rfl⟩
theorem dX8_init_196 : decode cX8_init 196 = .ok (.aload_n 0, 1) := by decide +kernel
theorem dX8_init_197 : decode cX8_init 197 = .ok (.bipush 24, 2) := by decide +kernel
theorem dX8_init_199 : decode cX8_init 199 = .ok (.newarray .int, 2) := by decide +kernel
theorem dX8_init_201 : decode cX8_init 201 = .ok (.putfield 84, 3) := by decide +kernel
theorem zk_766 : Cond.fieldLink RX8 84 RX8 "chosen" "[I" ∈ zz_w := zz_in (List.mem_append_right _ (List.mem_append_right _ (List.mem_append_right _ (List.mem_append_right _ (List.mem_append_left _ (List.mem_of_getElem? (i := 46) (by decide +kernel))))))) rfl
theorem zu_X8_84 : zz_fw RX8 84 7 31 true (.array .int) := ⟨RX8, TX8, 37, tyX8, rfl, zi_X8, by decide, zk_766, tyX8_ok, nmX8, rfl, by decide +kernel, fun _ => rfl⟩
theorem dX8_init_204 : decode cX8_init 204 = .ok (.aload_n 0, 1) := by decide +kernel
theorem dX8_init_205 : decode cX8_init 205 = .ok (.bipush 24, 2) := by decide +kernel
theorem dX8_init_207 : decode cX8_init 207 = .ok (.newarray .int, 2) := by decide +kernel
theorem dX8_init_209 : decode cX8_init 209 = .ok (.putfield 87, 3) := by decide +kernel
theorem zk_767 : Cond.fieldLink RX8 87 RX8 "bestOf" "[I" ∈ zz_w := zz_in (List.mem_append_right _ (List.mem_append_right _ (List.mem_append_right _ (List.mem_append_right _ (List.mem_append_left _ (List.mem_of_getElem? (i := 47) (by decide +kernel))))))) rfl
theorem zu_X8_87 : zz_fw RX8 87 7 32 true (.array .int) := ⟨RX8, TX8, 37, tyX8, rfl, zi_X8, by decide, zk_767, tyX8_ok, nmX8, rfl, by decide +kernel, fun _ => rfl⟩
theorem dX8_init_212 : decode cX8_init 212 = .ok (.aload_n 0, 1) := by decide +kernel
theorem dX8_init_213 : decode cX8_init 213 = .ok (.bipush 8, 2) := by decide +kernel
theorem dX8_init_215 : decode cX8_init 215 = .ok (.newarray .int, 2) := by decide +kernel
theorem dX8_init_217 : decode cX8_init 217 = .ok (.putfield 90, 3) := by decide +kernel
theorem zk_769 : Cond.fieldLink RX8 90 RX8 "markElements" "[I" ∈ zz_w := zz_in (List.mem_append_right _ (List.mem_append_right _ (List.mem_append_right _ (List.mem_append_right _ (List.mem_append_left _ (List.mem_of_getElem? (i := 49) (by decide +kernel))))))) rfl
theorem zu_X8_90 : zz_fw RX8 90 7 34 true (.array .int) := ⟨RX8, TX8, 37, tyX8, rfl, zi_X8, by decide, zk_769, tyX8_ok, nmX8, rfl, by decide +kernel, fun _ => rfl⟩
theorem dX8_init_220 : decode cX8_init 220 = .ok (.aload_n 0, 1) := by decide +kernel
theorem dX8_init_221 : decode cX8_init 221 = .ok (.sipush 32000, 3) := by decide +kernel
theorem dX8_init_224 : decode cX8_init 224 = .ok (.newarray .long, 2) := by decide +kernel
theorem dX8_init_226 : decode cX8_init 226 = .ok (.putfield 93, 3) := by decide +kernel
theorem zk_770 : Cond.fieldLink RX8 93 RX8 "markBits" "[J" ∈ zz_w := zz_in (List.mem_append_right _ (List.mem_append_right _ (List.mem_append_right _ (List.mem_append_right _ (List.mem_append_left _ (List.mem_of_getElem? (i := 50) (by decide +kernel))))))) rfl
theorem zu_X8_93 : zz_fw RX8 93 7 35 true (.array .long) := ⟨RX8, TX8, 37, tyX8, rfl, zi_X8, by decide, zk_770, tyX8_ok, nmX8, rfl, by decide +kernel, fun _ => rfl⟩
theorem dX8_init_229 : decode cX8_init 229 = .ok (.aload_n 0, 1) := by decide +kernel
theorem dX8_init_230 : decode cX8_init 230 = .ok (.sipush 32000, 3) := by decide +kernel
theorem dX8_init_233 : decode cX8_init 233 = .ok (.newarray .boolean, 2) := by decide +kernel
theorem dX8_init_235 : decode cX8_init 235 = .ok (.putfield 96, 3) := by decide +kernel
theorem zk_771 : Cond.fieldLink RX8 96 RX8 "markPins" "[Z" ∈ zz_w := zz_in (List.mem_append_right _ (List.mem_append_right _ (List.mem_append_right _ (List.mem_append_right _ (List.mem_append_left _ (List.mem_of_getElem? (i := 51) (by decide +kernel))))))) rfl
theorem zu_X8_96 : zz_fw RX8 96 7 36 true (.array .boolean) := ⟨RX8, TX8, 37, tyX8, rfl, zi_X8, by decide, zk_771, tyX8_ok, nmX8, rfl, by decide +kernel, fun _ => rfl⟩
theorem dX8_init_238 : decode cX8_init 238 = .ok (.return_, 1) := by decide +kernel
abbrev rm_ci_Model : Room := { frames := 1, cells := 29, slots := 76755, locals := 12 }
abbrev po_ci_Model (g : zz_G) (h0 : Nat) : va_W → Prop := fun (u : va_W) => ∃ (e1 : Nat) (e2 : Nat) (e3 : Nat) (e4 : Nat) (e5 : Nat) (e6 : Nat) (e7 : Nat) (e8 : Nat) (e9 : Nat) (e10 : Nat) (e11 : Nat) (e12 : Nat) (e13 : Nat) (e14 : Nat) (e15 : Nat) (e16 : Nat) (e17 : Nat) (e18 : Nat) (e19 : Nat) (e20 : Nat) (e21 : Nat) (e22 : Nat) (e23 : Nat) (e24 : Nat) (e25 : Nat) (e26 : Nat) (e27 : Nat) (e28 : Nat) (e29 : Nat), u = [(h0, .inr (7, [.int 0, .int 0, .ref e1, .ref e2, .ref e3, .ref e4, .ref e5, .ref e6, .ref e7, .int 0, .ref e8, .ref e9, .ref e10, .ref e11, .int 0, .int 0, .ref e12, .ref e13, .ref e14, .ref e15, .int 0, .ref e16, .ref e17, .ref e18, .ref e19, .int 0, .ref e20, .ref e21, .ref e22, .ref e23, .ref e24, .ref e25, .ref e26, .int 0, .ref e27, .ref e28, .ref e29])), (e1, .inl (g.2.1, 60, .inl (fun _ => 0))), (e2, .inl (g.2.1, 60, .inl (fun _ => 0))), (e3, .inl (g.2.1, 60, .inl (fun _ => 0))), (e4, .inl (g.2.1, 60, .inl (fun _ => 0))), (e5, .inl (g.2.1, 60, .inl (fun _ => 0))), (e6, .inl (g.2.2.1, 4000, .inr (.inl (fun _ => 0)))), (e7, .inl (g.2.2.2.1, 4000, .inl (fun _ => 0))), (e8, .inl (g.2.1, 4, .inl (fun _ => 0))), (e9, .inl (g.2.1, 5, .inl (fun _ => 0))), (e10, .inl (g.2.1, 5, .inl (fun _ => 0))), (e11, .inl (g.2.1, 5, .inl (fun _ => 0))), (e12, .inl (g.2.1, 4, .inl (fun _ => 0))), (e13, .inl (g.2.2.1, 200, .inr (.inl (fun _ => 0)))), (e14, .inl (g.2.2.2.1, 3600, .inl (fun _ => 0))), (e15, .inl (g.2.1, 60, .inl (fun _ => 0))), (e16, .inl (g.2.1, 24, .inl (fun _ => 0))), (e17, .inl (g.2.1, 24, .inl (fun _ => 0))), (e18, .inl (g.2.1, 24, .inl (fun _ => 0))), (e19, .inl (g.2.2.1, 384, .inr (.inl (fun _ => 0)))), (e20, .inl (g.2.1, 12, .inl (fun _ => 0))), (e21, .inl (g.2.1, 12, .inl (fun _ => 0))), (e22, .inl (g.2.1, 12, .inl (fun _ => 0))), (e23, .inl (g.2.2.1, 12, .inr (.inl (fun _ => 0)))), (e24, .inl (g.2.2.1, 12, .inr (.inl (fun _ => 0)))), (e25, .inl (g.2.1, 24, .inl (fun _ => 0))), (e26, .inl (g.2.1, 24, .inl (fun _ => 0))), (e27, .inl (g.2.1, 8, .inl (fun _ => 0))), (e28, .inl (g.2.2.1, 32000, .inr (.inl (fun _ => 0)))), (e29, .inl (g.2.2.2.1, 32000, .inl (fun _ => 0)))]
set_option maxHeartbeats 4000000 in
set_option maxRecDepth 100000 in
theorem ci_Model (g : zz_G) (h0 : Nat) : zz_V g yX8_init (.code yX8_init cX8_init 1 none) rm_ci_Model [.ref h0] [(h0, .inr (7, [.int 0, .int 0, .null, .null, .null, .null, .null, .null, .null, .int 0, .null, .null, .null, .null, .int 0, .int 0, .null, .null, .null, .null, .int 0, .null, .null, .null, .null, .int 0, .null, .null, .null, .null, .null, .null, .null, .int 0, .null, .null, .null]))] (po_ci_Model g h0) := by
  refine zz_V.intro (own := RX8) (cc := cX8_init) (nL := 1) (by decide) rfl (Nat.le_of_ble_eq_true rfl) ?_
  intro p l e s m args below meth c A H locs ls hC hnm hZ hl
  obtain ⟨hx, hb, hml, hown, hts, hr, hlocks, hK⟩ := id hC
  have hl : lv_has ls 1 [(0, .ref h0)] := hl
  have hZ : zz_Z g A s.heap [(h0, .inr (7, [.int 0, .int 0, .null, .null, .null, .null, .null, .null, .null, .int 0, .null, .null, .null, .null, .int 0, .int 0, .null, .null, .null, .null, .int 0, .null, .null, .null, .null, .int 0, .null, .null, .null, .null, .null, .null, .null, .int 0, .null, .null, .null]))] H locs := hZ
  refine lv_aload_n hx hb dX8_init_0 rfl (lv_at hl 0 rfl) ?_
  refine zz_obj hC hl zk_734 zk_18 zk_19 (Nat.le_of_ble_eq_true rfl) (Nat.le_of_ble_eq_true rfl) dX8_init_1 ?_
  refine lv_aload_n hx hb dX8_init_4 rfl (lv_at hl 0 rfl) ?_
  refine lv_bipush (v := 60) hx hb dX8_init_5 (by decide) ?_
  refine zz_newi (N' := 60) hC hZ zk_87 (by decide) (by decide) (Nat.le_of_ble_eq_true rfl) (Nat.le_of_ble_eq_true rfl) (Nat.le_of_ble_eq_true rfl) dX8_init_7 (fun q1 H hZ => ?_)
  have hZ : zz_Z g A s.heap [(h0, .inr (7, [.int 0, .int 0, .null, .null, .null, .null, .null, .null, .null, .int 0, .null, .null, .null, .null, .int 0, .int 0, .null, .null, .null, .null, .int 0, .null, .null, .null, .null, .int 0, .null, .null, .null, .null, .null, .null, .null, .int 0, .null, .null, .null])), (q1, .inl (g.2.1, 60, .inl (fun _ => 0)))] H locs := hZ
  refine zz_putF hC hnm hZ 0 rfl zu_X8_7 rfl rfl (Nat.le_of_ble_eq_true rfl) dX8_init_9 (fun H locs hZ => ?_)
  have hZ : zz_Z g A s.heap [(h0, .inr (7, [.int 0, .int 0, .ref q1, .null, .null, .null, .null, .null, .null, .int 0, .null, .null, .null, .null, .int 0, .int 0, .null, .null, .null, .null, .int 0, .null, .null, .null, .null, .int 0, .null, .null, .null, .null, .null, .null, .null, .int 0, .null, .null, .null])), (q1, .inl (g.2.1, 60, .inl (fun _ => 0)))] H locs := hZ
  refine lv_aload_n hx hb dX8_init_12 rfl (lv_at hl 0 rfl) ?_
  refine lv_bipush (v := 60) hx hb dX8_init_13 (by decide) ?_
  refine zz_newi (N' := 60) hC hZ zk_87 (by decide) (by decide) (Nat.le_of_ble_eq_true rfl) (Nat.le_of_ble_eq_true rfl) (Nat.le_of_ble_eq_true rfl) dX8_init_15 (fun q2 H hZ => ?_)
  have hZ : zz_Z g A s.heap [(h0, .inr (7, [.int 0, .int 0, .ref q1, .null, .null, .null, .null, .null, .null, .int 0, .null, .null, .null, .null, .int 0, .int 0, .null, .null, .null, .null, .int 0, .null, .null, .null, .null, .int 0, .null, .null, .null, .null, .null, .null, .null, .int 0, .null, .null, .null])), (q1, .inl (g.2.1, 60, .inl (fun _ => 0))), (q2, .inl (g.2.1, 60, .inl (fun _ => 0)))] H locs := hZ
  refine zz_putF hC hnm hZ 0 rfl zu_X8_13 rfl rfl (Nat.le_of_ble_eq_true rfl) dX8_init_17 (fun H locs hZ => ?_)
  have hZ : zz_Z g A s.heap [(h0, .inr (7, [.int 0, .int 0, .ref q1, .ref q2, .null, .null, .null, .null, .null, .int 0, .null, .null, .null, .null, .int 0, .int 0, .null, .null, .null, .null, .int 0, .null, .null, .null, .null, .int 0, .null, .null, .null, .null, .null, .null, .null, .int 0, .null, .null, .null])), (q1, .inl (g.2.1, 60, .inl (fun _ => 0))), (q2, .inl (g.2.1, 60, .inl (fun _ => 0)))] H locs := hZ
  refine lv_aload_n hx hb dX8_init_20 rfl (lv_at hl 0 rfl) ?_
  refine lv_bipush (v := 60) hx hb dX8_init_21 (by decide) ?_
  refine zz_newi (N' := 60) hC hZ zk_87 (by decide) (by decide) (Nat.le_of_ble_eq_true rfl) (Nat.le_of_ble_eq_true rfl) (Nat.le_of_ble_eq_true rfl) dX8_init_23 (fun q3 H hZ => ?_)
  have hZ : zz_Z g A s.heap [(h0, .inr (7, [.int 0, .int 0, .ref q1, .ref q2, .null, .null, .null, .null, .null, .int 0, .null, .null, .null, .null, .int 0, .int 0, .null, .null, .null, .null, .int 0, .null, .null, .null, .null, .int 0, .null, .null, .null, .null, .null, .null, .null, .int 0, .null, .null, .null])), (q1, .inl (g.2.1, 60, .inl (fun _ => 0))), (q2, .inl (g.2.1, 60, .inl (fun _ => 0))), (q3, .inl (g.2.1, 60, .inl (fun _ => 0)))] H locs := hZ
  refine zz_putF hC hnm hZ 0 rfl zu_X8_16 rfl rfl (Nat.le_of_ble_eq_true rfl) dX8_init_25 (fun H locs hZ => ?_)
  have hZ : zz_Z g A s.heap [(h0, .inr (7, [.int 0, .int 0, .ref q1, .ref q2, .ref q3, .null, .null, .null, .null, .int 0, .null, .null, .null, .null, .int 0, .int 0, .null, .null, .null, .null, .int 0, .null, .null, .null, .null, .int 0, .null, .null, .null, .null, .null, .null, .null, .int 0, .null, .null, .null])), (q1, .inl (g.2.1, 60, .inl (fun _ => 0))), (q2, .inl (g.2.1, 60, .inl (fun _ => 0))), (q3, .inl (g.2.1, 60, .inl (fun _ => 0)))] H locs := hZ
  refine lv_aload_n hx hb dX8_init_28 rfl (lv_at hl 0 rfl) ?_
  refine lv_bipush (v := 60) hx hb dX8_init_29 (by decide) ?_
  refine zz_newi (N' := 60) hC hZ zk_87 (by decide) (by decide) (Nat.le_of_ble_eq_true rfl) (Nat.le_of_ble_eq_true rfl) (Nat.le_of_ble_eq_true rfl) dX8_init_31 (fun q4 H hZ => ?_)
  have hZ : zz_Z g A s.heap [(h0, .inr (7, [.int 0, .int 0, .ref q1, .ref q2, .ref q3, .null, .null, .null, .null, .int 0, .null, .null, .null, .null, .int 0, .int 0, .null, .null, .null, .null, .int 0, .null, .null, .null, .null, .int 0, .null, .null, .null, .null, .null, .null, .null, .int 0, .null, .null, .null])), (q1, .inl (g.2.1, 60, .inl (fun _ => 0))), (q2, .inl (g.2.1, 60, .inl (fun _ => 0))), (q3, .inl (g.2.1, 60, .inl (fun _ => 0))), (q4, .inl (g.2.1, 60, .inl (fun _ => 0)))] H locs := hZ
  refine zz_putF hC hnm hZ 0 rfl zu_X8_19 rfl rfl (Nat.le_of_ble_eq_true rfl) dX8_init_33 (fun H locs hZ => ?_)
  have hZ : zz_Z g A s.heap [(h0, .inr (7, [.int 0, .int 0, .ref q1, .ref q2, .ref q3, .ref q4, .null, .null, .null, .int 0, .null, .null, .null, .null, .int 0, .int 0, .null, .null, .null, .null, .int 0, .null, .null, .null, .null, .int 0, .null, .null, .null, .null, .null, .null, .null, .int 0, .null, .null, .null])), (q1, .inl (g.2.1, 60, .inl (fun _ => 0))), (q2, .inl (g.2.1, 60, .inl (fun _ => 0))), (q3, .inl (g.2.1, 60, .inl (fun _ => 0))), (q4, .inl (g.2.1, 60, .inl (fun _ => 0)))] H locs := hZ
  refine lv_aload_n hx hb dX8_init_36 rfl (lv_at hl 0 rfl) ?_
  refine lv_bipush (v := 60) hx hb dX8_init_37 (by decide) ?_
  refine zz_newi (N' := 60) hC hZ zk_87 (by decide) (by decide) (Nat.le_of_ble_eq_true rfl) (Nat.le_of_ble_eq_true rfl) (Nat.le_of_ble_eq_true rfl) dX8_init_39 (fun q5 H hZ => ?_)
  have hZ : zz_Z g A s.heap [(h0, .inr (7, [.int 0, .int 0, .ref q1, .ref q2, .ref q3, .ref q4, .null, .null, .null, .int 0, .null, .null, .null, .null, .int 0, .int 0, .null, .null, .null, .null, .int 0, .null, .null, .null, .null, .int 0, .null, .null, .null, .null, .null, .null, .null, .int 0, .null, .null, .null])), (q1, .inl (g.2.1, 60, .inl (fun _ => 0))), (q2, .inl (g.2.1, 60, .inl (fun _ => 0))), (q3, .inl (g.2.1, 60, .inl (fun _ => 0))), (q4, .inl (g.2.1, 60, .inl (fun _ => 0))), (q5, .inl (g.2.1, 60, .inl (fun _ => 0)))] H locs := hZ
  refine zz_putF hC hnm hZ 0 rfl zu_X8_22 rfl rfl (Nat.le_of_ble_eq_true rfl) dX8_init_41 (fun H locs hZ => ?_)
  have hZ : zz_Z g A s.heap [(h0, .inr (7, [.int 0, .int 0, .ref q1, .ref q2, .ref q3, .ref q4, .ref q5, .null, .null, .int 0, .null, .null, .null, .null, .int 0, .int 0, .null, .null, .null, .null, .int 0, .null, .null, .null, .null, .int 0, .null, .null, .null, .null, .null, .null, .null, .int 0, .null, .null, .null])), (q1, .inl (g.2.1, 60, .inl (fun _ => 0))), (q2, .inl (g.2.1, 60, .inl (fun _ => 0))), (q3, .inl (g.2.1, 60, .inl (fun _ => 0))), (q4, .inl (g.2.1, 60, .inl (fun _ => 0))), (q5, .inl (g.2.1, 60, .inl (fun _ => 0)))] H locs := hZ
  refine lv_aload_n hx hb dX8_init_44 rfl (lv_at hl 0 rfl) ?_
  refine lv_sipush (v := 4000) hx hb dX8_init_45 (by decide) ?_
  refine zz_newl (N' := 4000) hC hZ zk_88 (by decide) (by decide) (Nat.le_of_ble_eq_true rfl) (Nat.le_of_ble_eq_true rfl) (Nat.le_of_ble_eq_true rfl) dX8_init_48 (fun q6 H hZ => ?_)
  have hZ : zz_Z g A s.heap [(h0, .inr (7, [.int 0, .int 0, .ref q1, .ref q2, .ref q3, .ref q4, .ref q5, .null, .null, .int 0, .null, .null, .null, .null, .int 0, .int 0, .null, .null, .null, .null, .int 0, .null, .null, .null, .null, .int 0, .null, .null, .null, .null, .null, .null, .null, .int 0, .null, .null, .null])), (q1, .inl (g.2.1, 60, .inl (fun _ => 0))), (q2, .inl (g.2.1, 60, .inl (fun _ => 0))), (q3, .inl (g.2.1, 60, .inl (fun _ => 0))), (q4, .inl (g.2.1, 60, .inl (fun _ => 0))), (q5, .inl (g.2.1, 60, .inl (fun _ => 0))), (q6, .inl (g.2.2.1, 4000, .inr (.inl (fun _ => 0))))] H locs := hZ
  refine zz_putF hC hnm hZ 0 rfl zu_X8_25 rfl rfl (Nat.le_of_ble_eq_true rfl) dX8_init_50 (fun H locs hZ => ?_)
  have hZ : zz_Z g A s.heap [(h0, .inr (7, [.int 0, .int 0, .ref q1, .ref q2, .ref q3, .ref q4, .ref q5, .ref q6, .null, .int 0, .null, .null, .null, .null, .int 0, .int 0, .null, .null, .null, .null, .int 0, .null, .null, .null, .null, .int 0, .null, .null, .null, .null, .null, .null, .null, .int 0, .null, .null, .null])), (q1, .inl (g.2.1, 60, .inl (fun _ => 0))), (q2, .inl (g.2.1, 60, .inl (fun _ => 0))), (q3, .inl (g.2.1, 60, .inl (fun _ => 0))), (q4, .inl (g.2.1, 60, .inl (fun _ => 0))), (q5, .inl (g.2.1, 60, .inl (fun _ => 0))), (q6, .inl (g.2.2.1, 4000, .inr (.inl (fun _ => 0))))] H locs := hZ
  refine lv_aload_n hx hb dX8_init_53 rfl (lv_at hl 0 rfl) ?_
  refine lv_sipush (v := 4000) hx hb dX8_init_54 (by decide) ?_
  refine zz_newz (N' := 4000) hC hZ zk_89 (by decide) (by decide) (Nat.le_of_ble_eq_true rfl) (Nat.le_of_ble_eq_true rfl) (Nat.le_of_ble_eq_true rfl) dX8_init_57 (fun q7 H hZ => ?_)
  have hZ : zz_Z g A s.heap [(h0, .inr (7, [.int 0, .int 0, .ref q1, .ref q2, .ref q3, .ref q4, .ref q5, .ref q6, .null, .int 0, .null, .null, .null, .null, .int 0, .int 0, .null, .null, .null, .null, .int 0, .null, .null, .null, .null, .int 0, .null, .null, .null, .null, .null, .null, .null, .int 0, .null, .null, .null])), (q1, .inl (g.2.1, 60, .inl (fun _ => 0))), (q2, .inl (g.2.1, 60, .inl (fun _ => 0))), (q3, .inl (g.2.1, 60, .inl (fun _ => 0))), (q4, .inl (g.2.1, 60, .inl (fun _ => 0))), (q5, .inl (g.2.1, 60, .inl (fun _ => 0))), (q6, .inl (g.2.2.1, 4000, .inr (.inl (fun _ => 0)))), (q7, .inl (g.2.2.2.1, 4000, .inl (fun _ => 0)))] H locs := hZ
  refine zz_putF hC hnm hZ 0 rfl zu_X8_29 rfl rfl (Nat.le_of_ble_eq_true rfl) dX8_init_59 (fun H locs hZ => ?_)
  have hZ : zz_Z g A s.heap [(h0, .inr (7, [.int 0, .int 0, .ref q1, .ref q2, .ref q3, .ref q4, .ref q5, .ref q6, .ref q7, .int 0, .null, .null, .null, .null, .int 0, .int 0, .null, .null, .null, .null, .int 0, .null, .null, .null, .null, .int 0, .null, .null, .null, .null, .null, .null, .null, .int 0, .null, .null, .null])), (q1, .inl (g.2.1, 60, .inl (fun _ => 0))), (q2, .inl (g.2.1, 60, .inl (fun _ => 0))), (q3, .inl (g.2.1, 60, .inl (fun _ => 0))), (q4, .inl (g.2.1, 60, .inl (fun _ => 0))), (q5, .inl (g.2.1, 60, .inl (fun _ => 0))), (q6, .inl (g.2.2.1, 4000, .inr (.inl (fun _ => 0)))), (q7, .inl (g.2.2.2.1, 4000, .inl (fun _ => 0)))] H locs := hZ
  refine lv_aload_n hx hb dX8_init_62 rfl (lv_at hl 0 rfl) ?_
  refine lv_iconst (v := 4) hx hb dX8_init_63 (by decide) ?_
  refine zz_newi (N' := 4) hC hZ zk_87 (by decide) (by decide) (Nat.le_of_ble_eq_true rfl) (Nat.le_of_ble_eq_true rfl) (Nat.le_of_ble_eq_true rfl) dX8_init_64 (fun q8 H hZ => ?_)
  have hZ : zz_Z g A s.heap [(h0, .inr (7, [.int 0, .int 0, .ref q1, .ref q2, .ref q3, .ref q4, .ref q5, .ref q6, .ref q7, .int 0, .null, .null, .null, .null, .int 0, .int 0, .null, .null, .null, .null, .int 0, .null, .null, .null, .null, .int 0, .null, .null, .null, .null, .null, .null, .null, .int 0, .null, .null, .null])), (q1, .inl (g.2.1, 60, .inl (fun _ => 0))), (q2, .inl (g.2.1, 60, .inl (fun _ => 0))), (q3, .inl (g.2.1, 60, .inl (fun _ => 0))), (q4, .inl (g.2.1, 60, .inl (fun _ => 0))), (q5, .inl (g.2.1, 60, .inl (fun _ => 0))), (q6, .inl (g.2.2.1, 4000, .inr (.inl (fun _ => 0)))), (q7, .inl (g.2.2.2.1, 4000, .inl (fun _ => 0))), (q8, .inl (g.2.1, 4, .inl (fun _ => 0)))] H locs := hZ
  refine zz_putF hC hnm hZ 0 rfl zu_X8_33 rfl rfl (Nat.le_of_ble_eq_true rfl) dX8_init_66 (fun H locs hZ => ?_)
  have hZ : zz_Z g A s.heap [(h0, .inr (7, [.int 0, .int 0, .ref q1, .ref q2, .ref q3, .ref q4, .ref q5, .ref q6, .ref q7, .int 0, .ref q8, .null, .null, .null, .int 0, .int 0, .null, .null, .null, .null, .int 0, .null, .null, .null, .null, .int 0, .null, .null, .null, .null, .null, .null, .null, .int 0, .null, .null, .null])), (q1, .inl (g.2.1, 60, .inl (fun _ => 0))), (q2, .inl (g.2.1, 60, .inl (fun _ => 0))), (q3, .inl (g.2.1, 60, .inl (fun _ => 0))), (q4, .inl (g.2.1, 60, .inl (fun _ => 0))), (q5, .inl (g.2.1, 60, .inl (fun _ => 0))), (q6, .inl (g.2.2.1, 4000, .inr (.inl (fun _ => 0)))), (q7, .inl (g.2.2.2.1, 4000, .inl (fun _ => 0))), (q8, .inl (g.2.1, 4, .inl (fun _ => 0)))] H locs := hZ
  refine lv_aload_n hx hb dX8_init_69 rfl (lv_at hl 0 rfl) ?_
  refine lv_iconst (v := 5) hx hb dX8_init_70 (by decide) ?_
  refine zz_newi (N' := 5) hC hZ zk_87 (by decide) (by decide) (Nat.le_of_ble_eq_true rfl) (Nat.le_of_ble_eq_true rfl) (Nat.le_of_ble_eq_true rfl) dX8_init_71 (fun q9 H hZ => ?_)
  have hZ : zz_Z g A s.heap [(h0, .inr (7, [.int 0, .int 0, .ref q1, .ref q2, .ref q3, .ref q4, .ref q5, .ref q6, .ref q7, .int 0, .ref q8, .null, .null, .null, .int 0, .int 0, .null, .null, .null, .null, .int 0, .null, .null, .null, .null, .int 0, .null, .null, .null, .null, .null, .null, .null, .int 0, .null, .null, .null])), (q1, .inl (g.2.1, 60, .inl (fun _ => 0))), (q2, .inl (g.2.1, 60, .inl (fun _ => 0))), (q3, .inl (g.2.1, 60, .inl (fun _ => 0))), (q4, .inl (g.2.1, 60, .inl (fun _ => 0))), (q5, .inl (g.2.1, 60, .inl (fun _ => 0))), (q6, .inl (g.2.2.1, 4000, .inr (.inl (fun _ => 0)))), (q7, .inl (g.2.2.2.1, 4000, .inl (fun _ => 0))), (q8, .inl (g.2.1, 4, .inl (fun _ => 0))), (q9, .inl (g.2.1, 5, .inl (fun _ => 0)))] H locs := hZ
  refine zz_putF hC hnm hZ 0 rfl zu_X8_36 rfl rfl (Nat.le_of_ble_eq_true rfl) dX8_init_73 (fun H locs hZ => ?_)
  have hZ : zz_Z g A s.heap [(h0, .inr (7, [.int 0, .int 0, .ref q1, .ref q2, .ref q3, .ref q4, .ref q5, .ref q6, .ref q7, .int 0, .ref q8, .ref q9, .null, .null, .int 0, .int 0, .null, .null, .null, .null, .int 0, .null, .null, .null, .null, .int 0, .null, .null, .null, .null, .null, .null, .null, .int 0, .null, .null, .null])), (q1, .inl (g.2.1, 60, .inl (fun _ => 0))), (q2, .inl (g.2.1, 60, .inl (fun _ => 0))), (q3, .inl (g.2.1, 60, .inl (fun _ => 0))), (q4, .inl (g.2.1, 60, .inl (fun _ => 0))), (q5, .inl (g.2.1, 60, .inl (fun _ => 0))), (q6, .inl (g.2.2.1, 4000, .inr (.inl (fun _ => 0)))), (q7, .inl (g.2.2.2.1, 4000, .inl (fun _ => 0))), (q8, .inl (g.2.1, 4, .inl (fun _ => 0))), (q9, .inl (g.2.1, 5, .inl (fun _ => 0)))] H locs := hZ
  refine lv_aload_n hx hb dX8_init_76 rfl (lv_at hl 0 rfl) ?_
  refine lv_iconst (v := 5) hx hb dX8_init_77 (by decide) ?_
  refine zz_newi (N' := 5) hC hZ zk_87 (by decide) (by decide) (Nat.le_of_ble_eq_true rfl) (Nat.le_of_ble_eq_true rfl) (Nat.le_of_ble_eq_true rfl) dX8_init_78 (fun q10 H hZ => ?_)
  have hZ : zz_Z g A s.heap [(h0, .inr (7, [.int 0, .int 0, .ref q1, .ref q2, .ref q3, .ref q4, .ref q5, .ref q6, .ref q7, .int 0, .ref q8, .ref q9, .null, .null, .int 0, .int 0, .null, .null, .null, .null, .int 0, .null, .null, .null, .null, .int 0, .null, .null, .null, .null, .null, .null, .null, .int 0, .null, .null, .null])), (q1, .inl (g.2.1, 60, .inl (fun _ => 0))), (q2, .inl (g.2.1, 60, .inl (fun _ => 0))), (q3, .inl (g.2.1, 60, .inl (fun _ => 0))), (q4, .inl (g.2.1, 60, .inl (fun _ => 0))), (q5, .inl (g.2.1, 60, .inl (fun _ => 0))), (q6, .inl (g.2.2.1, 4000, .inr (.inl (fun _ => 0)))), (q7, .inl (g.2.2.2.1, 4000, .inl (fun _ => 0))), (q8, .inl (g.2.1, 4, .inl (fun _ => 0))), (q9, .inl (g.2.1, 5, .inl (fun _ => 0))), (q10, .inl (g.2.1, 5, .inl (fun _ => 0)))] H locs := hZ
  refine zz_putF hC hnm hZ 0 rfl zu_X8_39 rfl rfl (Nat.le_of_ble_eq_true rfl) dX8_init_80 (fun H locs hZ => ?_)
  have hZ : zz_Z g A s.heap [(h0, .inr (7, [.int 0, .int 0, .ref q1, .ref q2, .ref q3, .ref q4, .ref q5, .ref q6, .ref q7, .int 0, .ref q8, .ref q9, .ref q10, .null, .int 0, .int 0, .null, .null, .null, .null, .int 0, .null, .null, .null, .null, .int 0, .null, .null, .null, .null, .null, .null, .null, .int 0, .null, .null, .null])), (q1, .inl (g.2.1, 60, .inl (fun _ => 0))), (q2, .inl (g.2.1, 60, .inl (fun _ => 0))), (q3, .inl (g.2.1, 60, .inl (fun _ => 0))), (q4, .inl (g.2.1, 60, .inl (fun _ => 0))), (q5, .inl (g.2.1, 60, .inl (fun _ => 0))), (q6, .inl (g.2.2.1, 4000, .inr (.inl (fun _ => 0)))), (q7, .inl (g.2.2.2.1, 4000, .inl (fun _ => 0))), (q8, .inl (g.2.1, 4, .inl (fun _ => 0))), (q9, .inl (g.2.1, 5, .inl (fun _ => 0))), (q10, .inl (g.2.1, 5, .inl (fun _ => 0)))] H locs := hZ
  refine lv_aload_n hx hb dX8_init_83 rfl (lv_at hl 0 rfl) ?_
  refine lv_iconst (v := 5) hx hb dX8_init_84 (by decide) ?_
  refine zz_newi (N' := 5) hC hZ zk_87 (by decide) (by decide) (Nat.le_of_ble_eq_true rfl) (Nat.le_of_ble_eq_true rfl) (Nat.le_of_ble_eq_true rfl) dX8_init_85 (fun q11 H hZ => ?_)
  have hZ : zz_Z g A s.heap [(h0, .inr (7, [.int 0, .int 0, .ref q1, .ref q2, .ref q3, .ref q4, .ref q5, .ref q6, .ref q7, .int 0, .ref q8, .ref q9, .ref q10, .null, .int 0, .int 0, .null, .null, .null, .null, .int 0, .null, .null, .null, .null, .int 0, .null, .null, .null, .null, .null, .null, .null, .int 0, .null, .null, .null])), (q1, .inl (g.2.1, 60, .inl (fun _ => 0))), (q2, .inl (g.2.1, 60, .inl (fun _ => 0))), (q3, .inl (g.2.1, 60, .inl (fun _ => 0))), (q4, .inl (g.2.1, 60, .inl (fun _ => 0))), (q5, .inl (g.2.1, 60, .inl (fun _ => 0))), (q6, .inl (g.2.2.1, 4000, .inr (.inl (fun _ => 0)))), (q7, .inl (g.2.2.2.1, 4000, .inl (fun _ => 0))), (q8, .inl (g.2.1, 4, .inl (fun _ => 0))), (q9, .inl (g.2.1, 5, .inl (fun _ => 0))), (q10, .inl (g.2.1, 5, .inl (fun _ => 0))), (q11, .inl (g.2.1, 5, .inl (fun _ => 0)))] H locs := hZ
  refine zz_putF hC hnm hZ 0 rfl zu_X8_42 rfl rfl (Nat.le_of_ble_eq_true rfl) dX8_init_87 (fun H locs hZ => ?_)
  have hZ : zz_Z g A s.heap [(h0, .inr (7, [.int 0, .int 0, .ref q1, .ref q2, .ref q3, .ref q4, .ref q5, .ref q6, .ref q7, .int 0, .ref q8, .ref q9, .ref q10, .ref q11, .int 0, .int 0, .null, .null, .null, .null, .int 0, .null, .null, .null, .null, .int 0, .null, .null, .null, .null, .null, .null, .null, .int 0, .null, .null, .null])), (q1, .inl (g.2.1, 60, .inl (fun _ => 0))), (q2, .inl (g.2.1, 60, .inl (fun _ => 0))), (q3, .inl (g.2.1, 60, .inl (fun _ => 0))), (q4, .inl (g.2.1, 60, .inl (fun _ => 0))), (q5, .inl (g.2.1, 60, .inl (fun _ => 0))), (q6, .inl (g.2.2.1, 4000, .inr (.inl (fun _ => 0)))), (q7, .inl (g.2.2.2.1, 4000, .inl (fun _ => 0))), (q8, .inl (g.2.1, 4, .inl (fun _ => 0))), (q9, .inl (g.2.1, 5, .inl (fun _ => 0))), (q10, .inl (g.2.1, 5, .inl (fun _ => 0))), (q11, .inl (g.2.1, 5, .inl (fun _ => 0)))] H locs := hZ
  refine lv_aload_n hx hb dX8_init_90 rfl (lv_at hl 0 rfl) ?_
  refine lv_iconst (v := 4) hx hb dX8_init_91 (by decide) ?_
  refine zz_newi (N' := 4) hC hZ zk_87 (by decide) (by decide) (Nat.le_of_ble_eq_true rfl) (Nat.le_of_ble_eq_true rfl) (Nat.le_of_ble_eq_true rfl) dX8_init_92 (fun q12 H hZ => ?_)
  have hZ : zz_Z g A s.heap [(h0, .inr (7, [.int 0, .int 0, .ref q1, .ref q2, .ref q3, .ref q4, .ref q5, .ref q6, .ref q7, .int 0, .ref q8, .ref q9, .ref q10, .ref q11, .int 0, .int 0, .null, .null, .null, .null, .int 0, .null, .null, .null, .null, .int 0, .null, .null, .null, .null, .null, .null, .null, .int 0, .null, .null, .null])), (q1, .inl (g.2.1, 60, .inl (fun _ => 0))), (q2, .inl (g.2.1, 60, .inl (fun _ => 0))), (q3, .inl (g.2.1, 60, .inl (fun _ => 0))), (q4, .inl (g.2.1, 60, .inl (fun _ => 0))), (q5, .inl (g.2.1, 60, .inl (fun _ => 0))), (q6, .inl (g.2.2.1, 4000, .inr (.inl (fun _ => 0)))), (q7, .inl (g.2.2.2.1, 4000, .inl (fun _ => 0))), (q8, .inl (g.2.1, 4, .inl (fun _ => 0))), (q9, .inl (g.2.1, 5, .inl (fun _ => 0))), (q10, .inl (g.2.1, 5, .inl (fun _ => 0))), (q11, .inl (g.2.1, 5, .inl (fun _ => 0))), (q12, .inl (g.2.1, 4, .inl (fun _ => 0)))] H locs := hZ
  refine zz_putF hC hnm hZ 0 rfl zu_X8_45 rfl rfl (Nat.le_of_ble_eq_true rfl) dX8_init_94 (fun H locs hZ => ?_)
  have hZ : zz_Z g A s.heap [(h0, .inr (7, [.int 0, .int 0, .ref q1, .ref q2, .ref q3, .ref q4, .ref q5, .ref q6, .ref q7, .int 0, .ref q8, .ref q9, .ref q10, .ref q11, .int 0, .int 0, .ref q12, .null, .null, .null, .int 0, .null, .null, .null, .null, .int 0, .null, .null, .null, .null, .null, .null, .null, .int 0, .null, .null, .null])), (q1, .inl (g.2.1, 60, .inl (fun _ => 0))), (q2, .inl (g.2.1, 60, .inl (fun _ => 0))), (q3, .inl (g.2.1, 60, .inl (fun _ => 0))), (q4, .inl (g.2.1, 60, .inl (fun _ => 0))), (q5, .inl (g.2.1, 60, .inl (fun _ => 0))), (q6, .inl (g.2.2.1, 4000, .inr (.inl (fun _ => 0)))), (q7, .inl (g.2.2.2.1, 4000, .inl (fun _ => 0))), (q8, .inl (g.2.1, 4, .inl (fun _ => 0))), (q9, .inl (g.2.1, 5, .inl (fun _ => 0))), (q10, .inl (g.2.1, 5, .inl (fun _ => 0))), (q11, .inl (g.2.1, 5, .inl (fun _ => 0))), (q12, .inl (g.2.1, 4, .inl (fun _ => 0)))] H locs := hZ
  refine lv_aload_n hx hb dX8_init_97 rfl (lv_at hl 0 rfl) ?_
  refine lv_sipush (v := 200) hx hb dX8_init_98 (by decide) ?_
  refine zz_newl (N' := 200) hC hZ zk_88 (by decide) (by decide) (Nat.le_of_ble_eq_true rfl) (Nat.le_of_ble_eq_true rfl) (Nat.le_of_ble_eq_true rfl) dX8_init_101 (fun q13 H hZ => ?_)
  have hZ : zz_Z g A s.heap [(h0, .inr (7, [.int 0, .int 0, .ref q1, .ref q2, .ref q3, .ref q4, .ref q5, .ref q6, .ref q7, .int 0, .ref q8, .ref q9, .ref q10, .ref q11, .int 0, .int 0, .ref q12, .null, .null, .null, .int 0, .null, .null, .null, .null, .int 0, .null, .null, .null, .null, .null, .null, .null, .int 0, .null, .null, .null])), (q1, .inl (g.2.1, 60, .inl (fun _ => 0))), (q2, .inl (g.2.1, 60, .inl (fun _ => 0))), (q3, .inl (g.2.1, 60, .inl (fun _ => 0))), (q4, .inl (g.2.1, 60, .inl (fun _ => 0))), (q5, .inl (g.2.1, 60, .inl (fun _ => 0))), (q6, .inl (g.2.2.1, 4000, .inr (.inl (fun _ => 0)))), (q7, .inl (g.2.2.2.1, 4000, .inl (fun _ => 0))), (q8, .inl (g.2.1, 4, .inl (fun _ => 0))), (q9, .inl (g.2.1, 5, .inl (fun _ => 0))), (q10, .inl (g.2.1, 5, .inl (fun _ => 0))), (q11, .inl (g.2.1, 5, .inl (fun _ => 0))), (q12, .inl (g.2.1, 4, .inl (fun _ => 0))), (q13, .inl (g.2.2.1, 200, .inr (.inl (fun _ => 0))))] H locs := hZ
  refine zz_putF hC hnm hZ 0 rfl zu_X8_48 rfl rfl (Nat.le_of_ble_eq_true rfl) dX8_init_103 (fun H locs hZ => ?_)
  have hZ : zz_Z g A s.heap [(h0, .inr (7, [.int 0, .int 0, .ref q1, .ref q2, .ref q3, .ref q4, .ref q5, .ref q6, .ref q7, .int 0, .ref q8, .ref q9, .ref q10, .ref q11, .int 0, .int 0, .ref q12, .ref q13, .null, .null, .int 0, .null, .null, .null, .null, .int 0, .null, .null, .null, .null, .null, .null, .null, .int 0, .null, .null, .null])), (q1, .inl (g.2.1, 60, .inl (fun _ => 0))), (q2, .inl (g.2.1, 60, .inl (fun _ => 0))), (q3, .inl (g.2.1, 60, .inl (fun _ => 0))), (q4, .inl (g.2.1, 60, .inl (fun _ => 0))), (q5, .inl (g.2.1, 60, .inl (fun _ => 0))), (q6, .inl (g.2.2.1, 4000, .inr (.inl (fun _ => 0)))), (q7, .inl (g.2.2.2.1, 4000, .inl (fun _ => 0))), (q8, .inl (g.2.1, 4, .inl (fun _ => 0))), (q9, .inl (g.2.1, 5, .inl (fun _ => 0))), (q10, .inl (g.2.1, 5, .inl (fun _ => 0))), (q11, .inl (g.2.1, 5, .inl (fun _ => 0))), (q12, .inl (g.2.1, 4, .inl (fun _ => 0))), (q13, .inl (g.2.2.1, 200, .inr (.inl (fun _ => 0))))] H locs := hZ
  refine lv_aload_n hx hb dX8_init_106 rfl (lv_at hl 0 rfl) ?_
  refine lv_sipush (v := 3600) hx hb dX8_init_107 (by decide) ?_
  refine zz_newz (N' := 3600) hC hZ zk_89 (by decide) (by decide) (Nat.le_of_ble_eq_true rfl) (Nat.le_of_ble_eq_true rfl) (Nat.le_of_ble_eq_true rfl) dX8_init_110 (fun q14 H hZ => ?_)
  have hZ : zz_Z g A s.heap [(h0, .inr (7, [.int 0, .int 0, .ref q1, .ref q2, .ref q3, .ref q4, .ref q5, .ref q6, .ref q7, .int 0, .ref q8, .ref q9, .ref q10, .ref q11, .int 0, .int 0, .ref q12, .ref q13, .null, .null, .int 0, .null, .null, .null, .null, .int 0, .null, .null, .null, .null, .null, .null, .null, .int 0, .null, .null, .null])), (q1, .inl (g.2.1, 60, .inl (fun _ => 0))), (q2, .inl (g.2.1, 60, .inl (fun _ => 0))), (q3, .inl (g.2.1, 60, .inl (fun _ => 0))), (q4, .inl (g.2.1, 60, .inl (fun _ => 0))), (q5, .inl (g.2.1, 60, .inl (fun _ => 0))), (q6, .inl (g.2.2.1, 4000, .inr (.inl (fun _ => 0)))), (q7, .inl (g.2.2.2.1, 4000, .inl (fun _ => 0))), (q8, .inl (g.2.1, 4, .inl (fun _ => 0))), (q9, .inl (g.2.1, 5, .inl (fun _ => 0))), (q10, .inl (g.2.1, 5, .inl (fun _ => 0))), (q11, .inl (g.2.1, 5, .inl (fun _ => 0))), (q12, .inl (g.2.1, 4, .inl (fun _ => 0))), (q13, .inl (g.2.2.1, 200, .inr (.inl (fun _ => 0)))), (q14, .inl (g.2.2.2.1, 3600, .inl (fun _ => 0)))] H locs := hZ
  refine zz_putF hC hnm hZ 0 rfl zu_X8_51 rfl rfl (Nat.le_of_ble_eq_true rfl) dX8_init_112 (fun H locs hZ => ?_)
  have hZ : zz_Z g A s.heap [(h0, .inr (7, [.int 0, .int 0, .ref q1, .ref q2, .ref q3, .ref q4, .ref q5, .ref q6, .ref q7, .int 0, .ref q8, .ref q9, .ref q10, .ref q11, .int 0, .int 0, .ref q12, .ref q13, .ref q14, .null, .int 0, .null, .null, .null, .null, .int 0, .null, .null, .null, .null, .null, .null, .null, .int 0, .null, .null, .null])), (q1, .inl (g.2.1, 60, .inl (fun _ => 0))), (q2, .inl (g.2.1, 60, .inl (fun _ => 0))), (q3, .inl (g.2.1, 60, .inl (fun _ => 0))), (q4, .inl (g.2.1, 60, .inl (fun _ => 0))), (q5, .inl (g.2.1, 60, .inl (fun _ => 0))), (q6, .inl (g.2.2.1, 4000, .inr (.inl (fun _ => 0)))), (q7, .inl (g.2.2.2.1, 4000, .inl (fun _ => 0))), (q8, .inl (g.2.1, 4, .inl (fun _ => 0))), (q9, .inl (g.2.1, 5, .inl (fun _ => 0))), (q10, .inl (g.2.1, 5, .inl (fun _ => 0))), (q11, .inl (g.2.1, 5, .inl (fun _ => 0))), (q12, .inl (g.2.1, 4, .inl (fun _ => 0))), (q13, .inl (g.2.2.1, 200, .inr (.inl (fun _ => 0)))), (q14, .inl (g.2.2.2.1, 3600, .inl (fun _ => 0)))] H locs := hZ
  refine lv_aload_n hx hb dX8_init_115 rfl (lv_at hl 0 rfl) ?_
  refine lv_bipush (v := 60) hx hb dX8_init_116 (by decide) ?_
  refine zz_newi (N' := 60) hC hZ zk_87 (by decide) (by decide) (Nat.le_of_ble_eq_true rfl) (Nat.le_of_ble_eq_true rfl) (Nat.le_of_ble_eq_true rfl) dX8_init_118 (fun q15 H hZ => ?_)
  have hZ : zz_Z g A s.heap [(h0, .inr (7, [.int 0, .int 0, .ref q1, .ref q2, .ref q3, .ref q4, .ref q5, .ref q6, .ref q7, .int 0, .ref q8, .ref q9, .ref q10, .ref q11, .int 0, .int 0, .ref q12, .ref q13, .ref q14, .null, .int 0, .null, .null, .null, .null, .int 0, .null, .null, .null, .null, .null, .null, .null, .int 0, .null, .null, .null])), (q1, .inl (g.2.1, 60, .inl (fun _ => 0))), (q2, .inl (g.2.1, 60, .inl (fun _ => 0))), (q3, .inl (g.2.1, 60, .inl (fun _ => 0))), (q4, .inl (g.2.1, 60, .inl (fun _ => 0))), (q5, .inl (g.2.1, 60, .inl (fun _ => 0))), (q6, .inl (g.2.2.1, 4000, .inr (.inl (fun _ => 0)))), (q7, .inl (g.2.2.2.1, 4000, .inl (fun _ => 0))), (q8, .inl (g.2.1, 4, .inl (fun _ => 0))), (q9, .inl (g.2.1, 5, .inl (fun _ => 0))), (q10, .inl (g.2.1, 5, .inl (fun _ => 0))), (q11, .inl (g.2.1, 5, .inl (fun _ => 0))), (q12, .inl (g.2.1, 4, .inl (fun _ => 0))), (q13, .inl (g.2.2.1, 200, .inr (.inl (fun _ => 0)))), (q14, .inl (g.2.2.2.1, 3600, .inl (fun _ => 0))), (q15, .inl (g.2.1, 60, .inl (fun _ => 0)))] H locs := hZ
  refine zz_putF hC hnm hZ 0 rfl zu_X8_54 rfl rfl (Nat.le_of_ble_eq_true rfl) dX8_init_120 (fun H locs hZ => ?_)
  have hZ : zz_Z g A s.heap [(h0, .inr (7, [.int 0, .int 0, .ref q1, .ref q2, .ref q3, .ref q4, .ref q5, .ref q6, .ref q7, .int 0, .ref q8, .ref q9, .ref q10, .ref q11, .int 0, .int 0, .ref q12, .ref q13, .ref q14, .ref q15, .int 0, .null, .null, .null, .null, .int 0, .null, .null, .null, .null, .null, .null, .null, .int 0, .null, .null, .null])), (q1, .inl (g.2.1, 60, .inl (fun _ => 0))), (q2, .inl (g.2.1, 60, .inl (fun _ => 0))), (q3, .inl (g.2.1, 60, .inl (fun _ => 0))), (q4, .inl (g.2.1, 60, .inl (fun _ => 0))), (q5, .inl (g.2.1, 60, .inl (fun _ => 0))), (q6, .inl (g.2.2.1, 4000, .inr (.inl (fun _ => 0)))), (q7, .inl (g.2.2.2.1, 4000, .inl (fun _ => 0))), (q8, .inl (g.2.1, 4, .inl (fun _ => 0))), (q9, .inl (g.2.1, 5, .inl (fun _ => 0))), (q10, .inl (g.2.1, 5, .inl (fun _ => 0))), (q11, .inl (g.2.1, 5, .inl (fun _ => 0))), (q12, .inl (g.2.1, 4, .inl (fun _ => 0))), (q13, .inl (g.2.2.1, 200, .inr (.inl (fun _ => 0)))), (q14, .inl (g.2.2.2.1, 3600, .inl (fun _ => 0))), (q15, .inl (g.2.1, 60, .inl (fun _ => 0)))] H locs := hZ
  refine lv_aload_n hx hb dX8_init_123 rfl (lv_at hl 0 rfl) ?_
  refine lv_bipush (v := 24) hx hb dX8_init_124 (by decide) ?_
  refine zz_newi (N' := 24) hC hZ zk_87 (by decide) (by decide) (Nat.le_of_ble_eq_true rfl) (Nat.le_of_ble_eq_true rfl) (Nat.le_of_ble_eq_true rfl) dX8_init_126 (fun q16 H hZ => ?_)
  have hZ : zz_Z g A s.heap [(h0, .inr (7, [.int 0, .int 0, .ref q1, .ref q2, .ref q3, .ref q4, .ref q5, .ref q6, .ref q7, .int 0, .ref q8, .ref q9, .ref q10, .ref q11, .int 0, .int 0, .ref q12, .ref q13, .ref q14, .ref q15, .int 0, .null, .null, .null, .null, .int 0, .null, .null, .null, .null, .null, .null, .null, .int 0, .null, .null, .null])), (q1, .inl (g.2.1, 60, .inl (fun _ => 0))), (q2, .inl (g.2.1, 60, .inl (fun _ => 0))), (q3, .inl (g.2.1, 60, .inl (fun _ => 0))), (q4, .inl (g.2.1, 60, .inl (fun _ => 0))), (q5, .inl (g.2.1, 60, .inl (fun _ => 0))), (q6, .inl (g.2.2.1, 4000, .inr (.inl (fun _ => 0)))), (q7, .inl (g.2.2.2.1, 4000, .inl (fun _ => 0))), (q8, .inl (g.2.1, 4, .inl (fun _ => 0))), (q9, .inl (g.2.1, 5, .inl (fun _ => 0))), (q10, .inl (g.2.1, 5, .inl (fun _ => 0))), (q11, .inl (g.2.1, 5, .inl (fun _ => 0))), (q12, .inl (g.2.1, 4, .inl (fun _ => 0))), (q13, .inl (g.2.2.1, 200, .inr (.inl (fun _ => 0)))), (q14, .inl (g.2.2.2.1, 3600, .inl (fun _ => 0))), (q15, .inl (g.2.1, 60, .inl (fun _ => 0))), (q16, .inl (g.2.1, 24, .inl (fun _ => 0)))] H locs := hZ
  refine zz_putF hC hnm hZ 0 rfl zu_X8_57 rfl rfl (Nat.le_of_ble_eq_true rfl) dX8_init_128 (fun H locs hZ => ?_)
  have hZ : zz_Z g A s.heap [(h0, .inr (7, [.int 0, .int 0, .ref q1, .ref q2, .ref q3, .ref q4, .ref q5, .ref q6, .ref q7, .int 0, .ref q8, .ref q9, .ref q10, .ref q11, .int 0, .int 0, .ref q12, .ref q13, .ref q14, .ref q15, .int 0, .ref q16, .null, .null, .null, .int 0, .null, .null, .null, .null, .null, .null, .null, .int 0, .null, .null, .null])), (q1, .inl (g.2.1, 60, .inl (fun _ => 0))), (q2, .inl (g.2.1, 60, .inl (fun _ => 0))), (q3, .inl (g.2.1, 60, .inl (fun _ => 0))), (q4, .inl (g.2.1, 60, .inl (fun _ => 0))), (q5, .inl (g.2.1, 60, .inl (fun _ => 0))), (q6, .inl (g.2.2.1, 4000, .inr (.inl (fun _ => 0)))), (q7, .inl (g.2.2.2.1, 4000, .inl (fun _ => 0))), (q8, .inl (g.2.1, 4, .inl (fun _ => 0))), (q9, .inl (g.2.1, 5, .inl (fun _ => 0))), (q10, .inl (g.2.1, 5, .inl (fun _ => 0))), (q11, .inl (g.2.1, 5, .inl (fun _ => 0))), (q12, .inl (g.2.1, 4, .inl (fun _ => 0))), (q13, .inl (g.2.2.1, 200, .inr (.inl (fun _ => 0)))), (q14, .inl (g.2.2.2.1, 3600, .inl (fun _ => 0))), (q15, .inl (g.2.1, 60, .inl (fun _ => 0))), (q16, .inl (g.2.1, 24, .inl (fun _ => 0)))] H locs := hZ
  refine lv_aload_n hx hb dX8_init_131 rfl (lv_at hl 0 rfl) ?_
  refine lv_bipush (v := 24) hx hb dX8_init_132 (by decide) ?_
  refine zz_newi (N' := 24) hC hZ zk_87 (by decide) (by decide) (Nat.le_of_ble_eq_true rfl) (Nat.le_of_ble_eq_true rfl) (Nat.le_of_ble_eq_true rfl) dX8_init_134 (fun q17 H hZ => ?_)
  have hZ : zz_Z g A s.heap [(h0, .inr (7, [.int 0, .int 0, .ref q1, .ref q2, .ref q3, .ref q4, .ref q5, .ref q6, .ref q7, .int 0, .ref q8, .ref q9, .ref q10, .ref q11, .int 0, .int 0, .ref q12, .ref q13, .ref q14, .ref q15, .int 0, .ref q16, .null, .null, .null, .int 0, .null, .null, .null, .null, .null, .null, .null, .int 0, .null, .null, .null])), (q1, .inl (g.2.1, 60, .inl (fun _ => 0))), (q2, .inl (g.2.1, 60, .inl (fun _ => 0))), (q3, .inl (g.2.1, 60, .inl (fun _ => 0))), (q4, .inl (g.2.1, 60, .inl (fun _ => 0))), (q5, .inl (g.2.1, 60, .inl (fun _ => 0))), (q6, .inl (g.2.2.1, 4000, .inr (.inl (fun _ => 0)))), (q7, .inl (g.2.2.2.1, 4000, .inl (fun _ => 0))), (q8, .inl (g.2.1, 4, .inl (fun _ => 0))), (q9, .inl (g.2.1, 5, .inl (fun _ => 0))), (q10, .inl (g.2.1, 5, .inl (fun _ => 0))), (q11, .inl (g.2.1, 5, .inl (fun _ => 0))), (q12, .inl (g.2.1, 4, .inl (fun _ => 0))), (q13, .inl (g.2.2.1, 200, .inr (.inl (fun _ => 0)))), (q14, .inl (g.2.2.2.1, 3600, .inl (fun _ => 0))), (q15, .inl (g.2.1, 60, .inl (fun _ => 0))), (q16, .inl (g.2.1, 24, .inl (fun _ => 0))), (q17, .inl (g.2.1, 24, .inl (fun _ => 0)))] H locs := hZ
  refine zz_putF hC hnm hZ 0 rfl zu_X8_60 rfl rfl (Nat.le_of_ble_eq_true rfl) dX8_init_136 (fun H locs hZ => ?_)
  have hZ : zz_Z g A s.heap [(h0, .inr (7, [.int 0, .int 0, .ref q1, .ref q2, .ref q3, .ref q4, .ref q5, .ref q6, .ref q7, .int 0, .ref q8, .ref q9, .ref q10, .ref q11, .int 0, .int 0, .ref q12, .ref q13, .ref q14, .ref q15, .int 0, .ref q16, .ref q17, .null, .null, .int 0, .null, .null, .null, .null, .null, .null, .null, .int 0, .null, .null, .null])), (q1, .inl (g.2.1, 60, .inl (fun _ => 0))), (q2, .inl (g.2.1, 60, .inl (fun _ => 0))), (q3, .inl (g.2.1, 60, .inl (fun _ => 0))), (q4, .inl (g.2.1, 60, .inl (fun _ => 0))), (q5, .inl (g.2.1, 60, .inl (fun _ => 0))), (q6, .inl (g.2.2.1, 4000, .inr (.inl (fun _ => 0)))), (q7, .inl (g.2.2.2.1, 4000, .inl (fun _ => 0))), (q8, .inl (g.2.1, 4, .inl (fun _ => 0))), (q9, .inl (g.2.1, 5, .inl (fun _ => 0))), (q10, .inl (g.2.1, 5, .inl (fun _ => 0))), (q11, .inl (g.2.1, 5, .inl (fun _ => 0))), (q12, .inl (g.2.1, 4, .inl (fun _ => 0))), (q13, .inl (g.2.2.1, 200, .inr (.inl (fun _ => 0)))), (q14, .inl (g.2.2.2.1, 3600, .inl (fun _ => 0))), (q15, .inl (g.2.1, 60, .inl (fun _ => 0))), (q16, .inl (g.2.1, 24, .inl (fun _ => 0))), (q17, .inl (g.2.1, 24, .inl (fun _ => 0)))] H locs := hZ
  refine lv_aload_n hx hb dX8_init_139 rfl (lv_at hl 0 rfl) ?_
  refine lv_bipush (v := 24) hx hb dX8_init_140 (by decide) ?_
  refine zz_newi (N' := 24) hC hZ zk_87 (by decide) (by decide) (Nat.le_of_ble_eq_true rfl) (Nat.le_of_ble_eq_true rfl) (Nat.le_of_ble_eq_true rfl) dX8_init_142 (fun q18 H hZ => ?_)
  have hZ : zz_Z g A s.heap [(h0, .inr (7, [.int 0, .int 0, .ref q1, .ref q2, .ref q3, .ref q4, .ref q5, .ref q6, .ref q7, .int 0, .ref q8, .ref q9, .ref q10, .ref q11, .int 0, .int 0, .ref q12, .ref q13, .ref q14, .ref q15, .int 0, .ref q16, .ref q17, .null, .null, .int 0, .null, .null, .null, .null, .null, .null, .null, .int 0, .null, .null, .null])), (q1, .inl (g.2.1, 60, .inl (fun _ => 0))), (q2, .inl (g.2.1, 60, .inl (fun _ => 0))), (q3, .inl (g.2.1, 60, .inl (fun _ => 0))), (q4, .inl (g.2.1, 60, .inl (fun _ => 0))), (q5, .inl (g.2.1, 60, .inl (fun _ => 0))), (q6, .inl (g.2.2.1, 4000, .inr (.inl (fun _ => 0)))), (q7, .inl (g.2.2.2.1, 4000, .inl (fun _ => 0))), (q8, .inl (g.2.1, 4, .inl (fun _ => 0))), (q9, .inl (g.2.1, 5, .inl (fun _ => 0))), (q10, .inl (g.2.1, 5, .inl (fun _ => 0))), (q11, .inl (g.2.1, 5, .inl (fun _ => 0))), (q12, .inl (g.2.1, 4, .inl (fun _ => 0))), (q13, .inl (g.2.2.1, 200, .inr (.inl (fun _ => 0)))), (q14, .inl (g.2.2.2.1, 3600, .inl (fun _ => 0))), (q15, .inl (g.2.1, 60, .inl (fun _ => 0))), (q16, .inl (g.2.1, 24, .inl (fun _ => 0))), (q17, .inl (g.2.1, 24, .inl (fun _ => 0))), (q18, .inl (g.2.1, 24, .inl (fun _ => 0)))] H locs := hZ
  refine zz_putF hC hnm hZ 0 rfl zu_X8_63 rfl rfl (Nat.le_of_ble_eq_true rfl) dX8_init_144 (fun H locs hZ => ?_)
  have hZ : zz_Z g A s.heap [(h0, .inr (7, [.int 0, .int 0, .ref q1, .ref q2, .ref q3, .ref q4, .ref q5, .ref q6, .ref q7, .int 0, .ref q8, .ref q9, .ref q10, .ref q11, .int 0, .int 0, .ref q12, .ref q13, .ref q14, .ref q15, .int 0, .ref q16, .ref q17, .ref q18, .null, .int 0, .null, .null, .null, .null, .null, .null, .null, .int 0, .null, .null, .null])), (q1, .inl (g.2.1, 60, .inl (fun _ => 0))), (q2, .inl (g.2.1, 60, .inl (fun _ => 0))), (q3, .inl (g.2.1, 60, .inl (fun _ => 0))), (q4, .inl (g.2.1, 60, .inl (fun _ => 0))), (q5, .inl (g.2.1, 60, .inl (fun _ => 0))), (q6, .inl (g.2.2.1, 4000, .inr (.inl (fun _ => 0)))), (q7, .inl (g.2.2.2.1, 4000, .inl (fun _ => 0))), (q8, .inl (g.2.1, 4, .inl (fun _ => 0))), (q9, .inl (g.2.1, 5, .inl (fun _ => 0))), (q10, .inl (g.2.1, 5, .inl (fun _ => 0))), (q11, .inl (g.2.1, 5, .inl (fun _ => 0))), (q12, .inl (g.2.1, 4, .inl (fun _ => 0))), (q13, .inl (g.2.2.1, 200, .inr (.inl (fun _ => 0)))), (q14, .inl (g.2.2.2.1, 3600, .inl (fun _ => 0))), (q15, .inl (g.2.1, 60, .inl (fun _ => 0))), (q16, .inl (g.2.1, 24, .inl (fun _ => 0))), (q17, .inl (g.2.1, 24, .inl (fun _ => 0))), (q18, .inl (g.2.1, 24, .inl (fun _ => 0)))] H locs := hZ
  refine lv_aload_n hx hb dX8_init_147 rfl (lv_at hl 0 rfl) ?_
  refine lv_sipush (v := 384) hx hb dX8_init_148 (by decide) ?_
  refine zz_newl (N' := 384) hC hZ zk_88 (by decide) (by decide) (Nat.le_of_ble_eq_true rfl) (Nat.le_of_ble_eq_true rfl) (Nat.le_of_ble_eq_true rfl) dX8_init_151 (fun q19 H hZ => ?_)
  have hZ : zz_Z g A s.heap [(h0, .inr (7, [.int 0, .int 0, .ref q1, .ref q2, .ref q3, .ref q4, .ref q5, .ref q6, .ref q7, .int 0, .ref q8, .ref q9, .ref q10, .ref q11, .int 0, .int 0, .ref q12, .ref q13, .ref q14, .ref q15, .int 0, .ref q16, .ref q17, .ref q18, .null, .int 0, .null, .null, .null, .null, .null, .null, .null, .int 0, .null, .null, .null])), (q1, .inl (g.2.1, 60, .inl (fun _ => 0))), (q2, .inl (g.2.1, 60, .inl (fun _ => 0))), (q3, .inl (g.2.1, 60, .inl (fun _ => 0))), (q4, .inl (g.2.1, 60, .inl (fun _ => 0))), (q5, .inl (g.2.1, 60, .inl (fun _ => 0))), (q6, .inl (g.2.2.1, 4000, .inr (.inl (fun _ => 0)))), (q7, .inl (g.2.2.2.1, 4000, .inl (fun _ => 0))), (q8, .inl (g.2.1, 4, .inl (fun _ => 0))), (q9, .inl (g.2.1, 5, .inl (fun _ => 0))), (q10, .inl (g.2.1, 5, .inl (fun _ => 0))), (q11, .inl (g.2.1, 5, .inl (fun _ => 0))), (q12, .inl (g.2.1, 4, .inl (fun _ => 0))), (q13, .inl (g.2.2.1, 200, .inr (.inl (fun _ => 0)))), (q14, .inl (g.2.2.2.1, 3600, .inl (fun _ => 0))), (q15, .inl (g.2.1, 60, .inl (fun _ => 0))), (q16, .inl (g.2.1, 24, .inl (fun _ => 0))), (q17, .inl (g.2.1, 24, .inl (fun _ => 0))), (q18, .inl (g.2.1, 24, .inl (fun _ => 0))), (q19, .inl (g.2.2.1, 384, .inr (.inl (fun _ => 0))))] H locs := hZ
  refine zz_putF hC hnm hZ 0 rfl zu_X8_66 rfl rfl (Nat.le_of_ble_eq_true rfl) dX8_init_153 (fun H locs hZ => ?_)
  have hZ : zz_Z g A s.heap [(h0, .inr (7, [.int 0, .int 0, .ref q1, .ref q2, .ref q3, .ref q4, .ref q5, .ref q6, .ref q7, .int 0, .ref q8, .ref q9, .ref q10, .ref q11, .int 0, .int 0, .ref q12, .ref q13, .ref q14, .ref q15, .int 0, .ref q16, .ref q17, .ref q18, .ref q19, .int 0, .null, .null, .null, .null, .null, .null, .null, .int 0, .null, .null, .null])), (q1, .inl (g.2.1, 60, .inl (fun _ => 0))), (q2, .inl (g.2.1, 60, .inl (fun _ => 0))), (q3, .inl (g.2.1, 60, .inl (fun _ => 0))), (q4, .inl (g.2.1, 60, .inl (fun _ => 0))), (q5, .inl (g.2.1, 60, .inl (fun _ => 0))), (q6, .inl (g.2.2.1, 4000, .inr (.inl (fun _ => 0)))), (q7, .inl (g.2.2.2.1, 4000, .inl (fun _ => 0))), (q8, .inl (g.2.1, 4, .inl (fun _ => 0))), (q9, .inl (g.2.1, 5, .inl (fun _ => 0))), (q10, .inl (g.2.1, 5, .inl (fun _ => 0))), (q11, .inl (g.2.1, 5, .inl (fun _ => 0))), (q12, .inl (g.2.1, 4, .inl (fun _ => 0))), (q13, .inl (g.2.2.1, 200, .inr (.inl (fun _ => 0)))), (q14, .inl (g.2.2.2.1, 3600, .inl (fun _ => 0))), (q15, .inl (g.2.1, 60, .inl (fun _ => 0))), (q16, .inl (g.2.1, 24, .inl (fun _ => 0))), (q17, .inl (g.2.1, 24, .inl (fun _ => 0))), (q18, .inl (g.2.1, 24, .inl (fun _ => 0))), (q19, .inl (g.2.2.1, 384, .inr (.inl (fun _ => 0))))] H locs := hZ
  refine lv_aload_n hx hb dX8_init_156 rfl (lv_at hl 0 rfl) ?_
  refine lv_bipush (v := 12) hx hb dX8_init_157 (by decide) ?_
  refine zz_newi (N' := 12) hC hZ zk_87 (by decide) (by decide) (Nat.le_of_ble_eq_true rfl) (Nat.le_of_ble_eq_true rfl) (Nat.le_of_ble_eq_true rfl) dX8_init_159 (fun q20 H hZ => ?_)
  have hZ : zz_Z g A s.heap [(h0, .inr (7, [.int 0, .int 0, .ref q1, .ref q2, .ref q3, .ref q4, .ref q5, .ref q6, .ref q7, .int 0, .ref q8, .ref q9, .ref q10, .ref q11, .int 0, .int 0, .ref q12, .ref q13, .ref q14, .ref q15, .int 0, .ref q16, .ref q17, .ref q18, .ref q19, .int 0, .null, .null, .null, .null, .null, .null, .null, .int 0, .null, .null, .null])), (q1, .inl (g.2.1, 60, .inl (fun _ => 0))), (q2, .inl (g.2.1, 60, .inl (fun _ => 0))), (q3, .inl (g.2.1, 60, .inl (fun _ => 0))), (q4, .inl (g.2.1, 60, .inl (fun _ => 0))), (q5, .inl (g.2.1, 60, .inl (fun _ => 0))), (q6, .inl (g.2.2.1, 4000, .inr (.inl (fun _ => 0)))), (q7, .inl (g.2.2.2.1, 4000, .inl (fun _ => 0))), (q8, .inl (g.2.1, 4, .inl (fun _ => 0))), (q9, .inl (g.2.1, 5, .inl (fun _ => 0))), (q10, .inl (g.2.1, 5, .inl (fun _ => 0))), (q11, .inl (g.2.1, 5, .inl (fun _ => 0))), (q12, .inl (g.2.1, 4, .inl (fun _ => 0))), (q13, .inl (g.2.2.1, 200, .inr (.inl (fun _ => 0)))), (q14, .inl (g.2.2.2.1, 3600, .inl (fun _ => 0))), (q15, .inl (g.2.1, 60, .inl (fun _ => 0))), (q16, .inl (g.2.1, 24, .inl (fun _ => 0))), (q17, .inl (g.2.1, 24, .inl (fun _ => 0))), (q18, .inl (g.2.1, 24, .inl (fun _ => 0))), (q19, .inl (g.2.2.1, 384, .inr (.inl (fun _ => 0)))), (q20, .inl (g.2.1, 12, .inl (fun _ => 0)))] H locs := hZ
  refine zz_putF hC hnm hZ 0 rfl zu_X8_69 rfl rfl (Nat.le_of_ble_eq_true rfl) dX8_init_161 (fun H locs hZ => ?_)
  have hZ : zz_Z g A s.heap [(h0, .inr (7, [.int 0, .int 0, .ref q1, .ref q2, .ref q3, .ref q4, .ref q5, .ref q6, .ref q7, .int 0, .ref q8, .ref q9, .ref q10, .ref q11, .int 0, .int 0, .ref q12, .ref q13, .ref q14, .ref q15, .int 0, .ref q16, .ref q17, .ref q18, .ref q19, .int 0, .ref q20, .null, .null, .null, .null, .null, .null, .int 0, .null, .null, .null])), (q1, .inl (g.2.1, 60, .inl (fun _ => 0))), (q2, .inl (g.2.1, 60, .inl (fun _ => 0))), (q3, .inl (g.2.1, 60, .inl (fun _ => 0))), (q4, .inl (g.2.1, 60, .inl (fun _ => 0))), (q5, .inl (g.2.1, 60, .inl (fun _ => 0))), (q6, .inl (g.2.2.1, 4000, .inr (.inl (fun _ => 0)))), (q7, .inl (g.2.2.2.1, 4000, .inl (fun _ => 0))), (q8, .inl (g.2.1, 4, .inl (fun _ => 0))), (q9, .inl (g.2.1, 5, .inl (fun _ => 0))), (q10, .inl (g.2.1, 5, .inl (fun _ => 0))), (q11, .inl (g.2.1, 5, .inl (fun _ => 0))), (q12, .inl (g.2.1, 4, .inl (fun _ => 0))), (q13, .inl (g.2.2.1, 200, .inr (.inl (fun _ => 0)))), (q14, .inl (g.2.2.2.1, 3600, .inl (fun _ => 0))), (q15, .inl (g.2.1, 60, .inl (fun _ => 0))), (q16, .inl (g.2.1, 24, .inl (fun _ => 0))), (q17, .inl (g.2.1, 24, .inl (fun _ => 0))), (q18, .inl (g.2.1, 24, .inl (fun _ => 0))), (q19, .inl (g.2.2.1, 384, .inr (.inl (fun _ => 0)))), (q20, .inl (g.2.1, 12, .inl (fun _ => 0)))] H locs := hZ
  refine lv_aload_n hx hb dX8_init_164 rfl (lv_at hl 0 rfl) ?_
  refine lv_bipush (v := 12) hx hb dX8_init_165 (by decide) ?_
  refine zz_newi (N' := 12) hC hZ zk_87 (by decide) (by decide) (Nat.le_of_ble_eq_true rfl) (Nat.le_of_ble_eq_true rfl) (Nat.le_of_ble_eq_true rfl) dX8_init_167 (fun q21 H hZ => ?_)
  have hZ : zz_Z g A s.heap [(h0, .inr (7, [.int 0, .int 0, .ref q1, .ref q2, .ref q3, .ref q4, .ref q5, .ref q6, .ref q7, .int 0, .ref q8, .ref q9, .ref q10, .ref q11, .int 0, .int 0, .ref q12, .ref q13, .ref q14, .ref q15, .int 0, .ref q16, .ref q17, .ref q18, .ref q19, .int 0, .ref q20, .null, .null, .null, .null, .null, .null, .int 0, .null, .null, .null])), (q1, .inl (g.2.1, 60, .inl (fun _ => 0))), (q2, .inl (g.2.1, 60, .inl (fun _ => 0))), (q3, .inl (g.2.1, 60, .inl (fun _ => 0))), (q4, .inl (g.2.1, 60, .inl (fun _ => 0))), (q5, .inl (g.2.1, 60, .inl (fun _ => 0))), (q6, .inl (g.2.2.1, 4000, .inr (.inl (fun _ => 0)))), (q7, .inl (g.2.2.2.1, 4000, .inl (fun _ => 0))), (q8, .inl (g.2.1, 4, .inl (fun _ => 0))), (q9, .inl (g.2.1, 5, .inl (fun _ => 0))), (q10, .inl (g.2.1, 5, .inl (fun _ => 0))), (q11, .inl (g.2.1, 5, .inl (fun _ => 0))), (q12, .inl (g.2.1, 4, .inl (fun _ => 0))), (q13, .inl (g.2.2.1, 200, .inr (.inl (fun _ => 0)))), (q14, .inl (g.2.2.2.1, 3600, .inl (fun _ => 0))), (q15, .inl (g.2.1, 60, .inl (fun _ => 0))), (q16, .inl (g.2.1, 24, .inl (fun _ => 0))), (q17, .inl (g.2.1, 24, .inl (fun _ => 0))), (q18, .inl (g.2.1, 24, .inl (fun _ => 0))), (q19, .inl (g.2.2.1, 384, .inr (.inl (fun _ => 0)))), (q20, .inl (g.2.1, 12, .inl (fun _ => 0))), (q21, .inl (g.2.1, 12, .inl (fun _ => 0)))] H locs := hZ
  refine zz_putF hC hnm hZ 0 rfl zu_X8_72 rfl rfl (Nat.le_of_ble_eq_true rfl) dX8_init_169 (fun H locs hZ => ?_)
  have hZ : zz_Z g A s.heap [(h0, .inr (7, [.int 0, .int 0, .ref q1, .ref q2, .ref q3, .ref q4, .ref q5, .ref q6, .ref q7, .int 0, .ref q8, .ref q9, .ref q10, .ref q11, .int 0, .int 0, .ref q12, .ref q13, .ref q14, .ref q15, .int 0, .ref q16, .ref q17, .ref q18, .ref q19, .int 0, .ref q20, .ref q21, .null, .null, .null, .null, .null, .int 0, .null, .null, .null])), (q1, .inl (g.2.1, 60, .inl (fun _ => 0))), (q2, .inl (g.2.1, 60, .inl (fun _ => 0))), (q3, .inl (g.2.1, 60, .inl (fun _ => 0))), (q4, .inl (g.2.1, 60, .inl (fun _ => 0))), (q5, .inl (g.2.1, 60, .inl (fun _ => 0))), (q6, .inl (g.2.2.1, 4000, .inr (.inl (fun _ => 0)))), (q7, .inl (g.2.2.2.1, 4000, .inl (fun _ => 0))), (q8, .inl (g.2.1, 4, .inl (fun _ => 0))), (q9, .inl (g.2.1, 5, .inl (fun _ => 0))), (q10, .inl (g.2.1, 5, .inl (fun _ => 0))), (q11, .inl (g.2.1, 5, .inl (fun _ => 0))), (q12, .inl (g.2.1, 4, .inl (fun _ => 0))), (q13, .inl (g.2.2.1, 200, .inr (.inl (fun _ => 0)))), (q14, .inl (g.2.2.2.1, 3600, .inl (fun _ => 0))), (q15, .inl (g.2.1, 60, .inl (fun _ => 0))), (q16, .inl (g.2.1, 24, .inl (fun _ => 0))), (q17, .inl (g.2.1, 24, .inl (fun _ => 0))), (q18, .inl (g.2.1, 24, .inl (fun _ => 0))), (q19, .inl (g.2.2.1, 384, .inr (.inl (fun _ => 0)))), (q20, .inl (g.2.1, 12, .inl (fun _ => 0))), (q21, .inl (g.2.1, 12, .inl (fun _ => 0)))] H locs := hZ
  refine lv_aload_n hx hb dX8_init_172 rfl (lv_at hl 0 rfl) ?_
  refine lv_bipush (v := 12) hx hb dX8_init_173 (by decide) ?_
  refine zz_newi (N' := 12) hC hZ zk_87 (by decide) (by decide) (Nat.le_of_ble_eq_true rfl) (Nat.le_of_ble_eq_true rfl) (Nat.le_of_ble_eq_true rfl) dX8_init_175 (fun q22 H hZ => ?_)
  have hZ : zz_Z g A s.heap [(h0, .inr (7, [.int 0, .int 0, .ref q1, .ref q2, .ref q3, .ref q4, .ref q5, .ref q6, .ref q7, .int 0, .ref q8, .ref q9, .ref q10, .ref q11, .int 0, .int 0, .ref q12, .ref q13, .ref q14, .ref q15, .int 0, .ref q16, .ref q17, .ref q18, .ref q19, .int 0, .ref q20, .ref q21, .null, .null, .null, .null, .null, .int 0, .null, .null, .null])), (q1, .inl (g.2.1, 60, .inl (fun _ => 0))), (q2, .inl (g.2.1, 60, .inl (fun _ => 0))), (q3, .inl (g.2.1, 60, .inl (fun _ => 0))), (q4, .inl (g.2.1, 60, .inl (fun _ => 0))), (q5, .inl (g.2.1, 60, .inl (fun _ => 0))), (q6, .inl (g.2.2.1, 4000, .inr (.inl (fun _ => 0)))), (q7, .inl (g.2.2.2.1, 4000, .inl (fun _ => 0))), (q8, .inl (g.2.1, 4, .inl (fun _ => 0))), (q9, .inl (g.2.1, 5, .inl (fun _ => 0))), (q10, .inl (g.2.1, 5, .inl (fun _ => 0))), (q11, .inl (g.2.1, 5, .inl (fun _ => 0))), (q12, .inl (g.2.1, 4, .inl (fun _ => 0))), (q13, .inl (g.2.2.1, 200, .inr (.inl (fun _ => 0)))), (q14, .inl (g.2.2.2.1, 3600, .inl (fun _ => 0))), (q15, .inl (g.2.1, 60, .inl (fun _ => 0))), (q16, .inl (g.2.1, 24, .inl (fun _ => 0))), (q17, .inl (g.2.1, 24, .inl (fun _ => 0))), (q18, .inl (g.2.1, 24, .inl (fun _ => 0))), (q19, .inl (g.2.2.1, 384, .inr (.inl (fun _ => 0)))), (q20, .inl (g.2.1, 12, .inl (fun _ => 0))), (q21, .inl (g.2.1, 12, .inl (fun _ => 0))), (q22, .inl (g.2.1, 12, .inl (fun _ => 0)))] H locs := hZ
  refine zz_putF hC hnm hZ 0 rfl zu_X8_75 rfl rfl (Nat.le_of_ble_eq_true rfl) dX8_init_177 (fun H locs hZ => ?_)
  have hZ : zz_Z g A s.heap [(h0, .inr (7, [.int 0, .int 0, .ref q1, .ref q2, .ref q3, .ref q4, .ref q5, .ref q6, .ref q7, .int 0, .ref q8, .ref q9, .ref q10, .ref q11, .int 0, .int 0, .ref q12, .ref q13, .ref q14, .ref q15, .int 0, .ref q16, .ref q17, .ref q18, .ref q19, .int 0, .ref q20, .ref q21, .ref q22, .null, .null, .null, .null, .int 0, .null, .null, .null])), (q1, .inl (g.2.1, 60, .inl (fun _ => 0))), (q2, .inl (g.2.1, 60, .inl (fun _ => 0))), (q3, .inl (g.2.1, 60, .inl (fun _ => 0))), (q4, .inl (g.2.1, 60, .inl (fun _ => 0))), (q5, .inl (g.2.1, 60, .inl (fun _ => 0))), (q6, .inl (g.2.2.1, 4000, .inr (.inl (fun _ => 0)))), (q7, .inl (g.2.2.2.1, 4000, .inl (fun _ => 0))), (q8, .inl (g.2.1, 4, .inl (fun _ => 0))), (q9, .inl (g.2.1, 5, .inl (fun _ => 0))), (q10, .inl (g.2.1, 5, .inl (fun _ => 0))), (q11, .inl (g.2.1, 5, .inl (fun _ => 0))), (q12, .inl (g.2.1, 4, .inl (fun _ => 0))), (q13, .inl (g.2.2.1, 200, .inr (.inl (fun _ => 0)))), (q14, .inl (g.2.2.2.1, 3600, .inl (fun _ => 0))), (q15, .inl (g.2.1, 60, .inl (fun _ => 0))), (q16, .inl (g.2.1, 24, .inl (fun _ => 0))), (q17, .inl (g.2.1, 24, .inl (fun _ => 0))), (q18, .inl (g.2.1, 24, .inl (fun _ => 0))), (q19, .inl (g.2.2.1, 384, .inr (.inl (fun _ => 0)))), (q20, .inl (g.2.1, 12, .inl (fun _ => 0))), (q21, .inl (g.2.1, 12, .inl (fun _ => 0))), (q22, .inl (g.2.1, 12, .inl (fun _ => 0)))] H locs := hZ
  refine lv_aload_n hx hb dX8_init_180 rfl (lv_at hl 0 rfl) ?_
  refine lv_bipush (v := 12) hx hb dX8_init_181 (by decide) ?_
  refine zz_newl (N' := 12) hC hZ zk_88 (by decide) (by decide) (Nat.le_of_ble_eq_true rfl) (Nat.le_of_ble_eq_true rfl) (Nat.le_of_ble_eq_true rfl) dX8_init_183 (fun q23 H hZ => ?_)
  have hZ : zz_Z g A s.heap [(h0, .inr (7, [.int 0, .int 0, .ref q1, .ref q2, .ref q3, .ref q4, .ref q5, .ref q6, .ref q7, .int 0, .ref q8, .ref q9, .ref q10, .ref q11, .int 0, .int 0, .ref q12, .ref q13, .ref q14, .ref q15, .int 0, .ref q16, .ref q17, .ref q18, .ref q19, .int 0, .ref q20, .ref q21, .ref q22, .null, .null, .null, .null, .int 0, .null, .null, .null])), (q1, .inl (g.2.1, 60, .inl (fun _ => 0))), (q2, .inl (g.2.1, 60, .inl (fun _ => 0))), (q3, .inl (g.2.1, 60, .inl (fun _ => 0))), (q4, .inl (g.2.1, 60, .inl (fun _ => 0))), (q5, .inl (g.2.1, 60, .inl (fun _ => 0))), (q6, .inl (g.2.2.1, 4000, .inr (.inl (fun _ => 0)))), (q7, .inl (g.2.2.2.1, 4000, .inl (fun _ => 0))), (q8, .inl (g.2.1, 4, .inl (fun _ => 0))), (q9, .inl (g.2.1, 5, .inl (fun _ => 0))), (q10, .inl (g.2.1, 5, .inl (fun _ => 0))), (q11, .inl (g.2.1, 5, .inl (fun _ => 0))), (q12, .inl (g.2.1, 4, .inl (fun _ => 0))), (q13, .inl (g.2.2.1, 200, .inr (.inl (fun _ => 0)))), (q14, .inl (g.2.2.2.1, 3600, .inl (fun _ => 0))), (q15, .inl (g.2.1, 60, .inl (fun _ => 0))), (q16, .inl (g.2.1, 24, .inl (fun _ => 0))), (q17, .inl (g.2.1, 24, .inl (fun _ => 0))), (q18, .inl (g.2.1, 24, .inl (fun _ => 0))), (q19, .inl (g.2.2.1, 384, .inr (.inl (fun _ => 0)))), (q20, .inl (g.2.1, 12, .inl (fun _ => 0))), (q21, .inl (g.2.1, 12, .inl (fun _ => 0))), (q22, .inl (g.2.1, 12, .inl (fun _ => 0))), (q23, .inl (g.2.2.1, 12, .inr (.inl (fun _ => 0))))] H locs := hZ
  refine zz_putF hC hnm hZ 0 rfl zu_X8_78 rfl rfl (Nat.le_of_ble_eq_true rfl) dX8_init_185 (fun H locs hZ => ?_)
  have hZ : zz_Z g A s.heap [(h0, .inr (7, [.int 0, .int 0, .ref q1, .ref q2, .ref q3, .ref q4, .ref q5, .ref q6, .ref q7, .int 0, .ref q8, .ref q9, .ref q10, .ref q11, .int 0, .int 0, .ref q12, .ref q13, .ref q14, .ref q15, .int 0, .ref q16, .ref q17, .ref q18, .ref q19, .int 0, .ref q20, .ref q21, .ref q22, .ref q23, .null, .null, .null, .int 0, .null, .null, .null])), (q1, .inl (g.2.1, 60, .inl (fun _ => 0))), (q2, .inl (g.2.1, 60, .inl (fun _ => 0))), (q3, .inl (g.2.1, 60, .inl (fun _ => 0))), (q4, .inl (g.2.1, 60, .inl (fun _ => 0))), (q5, .inl (g.2.1, 60, .inl (fun _ => 0))), (q6, .inl (g.2.2.1, 4000, .inr (.inl (fun _ => 0)))), (q7, .inl (g.2.2.2.1, 4000, .inl (fun _ => 0))), (q8, .inl (g.2.1, 4, .inl (fun _ => 0))), (q9, .inl (g.2.1, 5, .inl (fun _ => 0))), (q10, .inl (g.2.1, 5, .inl (fun _ => 0))), (q11, .inl (g.2.1, 5, .inl (fun _ => 0))), (q12, .inl (g.2.1, 4, .inl (fun _ => 0))), (q13, .inl (g.2.2.1, 200, .inr (.inl (fun _ => 0)))), (q14, .inl (g.2.2.2.1, 3600, .inl (fun _ => 0))), (q15, .inl (g.2.1, 60, .inl (fun _ => 0))), (q16, .inl (g.2.1, 24, .inl (fun _ => 0))), (q17, .inl (g.2.1, 24, .inl (fun _ => 0))), (q18, .inl (g.2.1, 24, .inl (fun _ => 0))), (q19, .inl (g.2.2.1, 384, .inr (.inl (fun _ => 0)))), (q20, .inl (g.2.1, 12, .inl (fun _ => 0))), (q21, .inl (g.2.1, 12, .inl (fun _ => 0))), (q22, .inl (g.2.1, 12, .inl (fun _ => 0))), (q23, .inl (g.2.2.1, 12, .inr (.inl (fun _ => 0))))] H locs := hZ
  refine lv_aload_n hx hb dX8_init_188 rfl (lv_at hl 0 rfl) ?_
  refine lv_bipush (v := 12) hx hb dX8_init_189 (by decide) ?_
  refine zz_newl (N' := 12) hC hZ zk_88 (by decide) (by decide) (Nat.le_of_ble_eq_true rfl) (Nat.le_of_ble_eq_true rfl) (Nat.le_of_ble_eq_true rfl) dX8_init_191 (fun q24 H hZ => ?_)
  have hZ : zz_Z g A s.heap [(h0, .inr (7, [.int 0, .int 0, .ref q1, .ref q2, .ref q3, .ref q4, .ref q5, .ref q6, .ref q7, .int 0, .ref q8, .ref q9, .ref q10, .ref q11, .int 0, .int 0, .ref q12, .ref q13, .ref q14, .ref q15, .int 0, .ref q16, .ref q17, .ref q18, .ref q19, .int 0, .ref q20, .ref q21, .ref q22, .ref q23, .null, .null, .null, .int 0, .null, .null, .null])), (q1, .inl (g.2.1, 60, .inl (fun _ => 0))), (q2, .inl (g.2.1, 60, .inl (fun _ => 0))), (q3, .inl (g.2.1, 60, .inl (fun _ => 0))), (q4, .inl (g.2.1, 60, .inl (fun _ => 0))), (q5, .inl (g.2.1, 60, .inl (fun _ => 0))), (q6, .inl (g.2.2.1, 4000, .inr (.inl (fun _ => 0)))), (q7, .inl (g.2.2.2.1, 4000, .inl (fun _ => 0))), (q8, .inl (g.2.1, 4, .inl (fun _ => 0))), (q9, .inl (g.2.1, 5, .inl (fun _ => 0))), (q10, .inl (g.2.1, 5, .inl (fun _ => 0))), (q11, .inl (g.2.1, 5, .inl (fun _ => 0))), (q12, .inl (g.2.1, 4, .inl (fun _ => 0))), (q13, .inl (g.2.2.1, 200, .inr (.inl (fun _ => 0)))), (q14, .inl (g.2.2.2.1, 3600, .inl (fun _ => 0))), (q15, .inl (g.2.1, 60, .inl (fun _ => 0))), (q16, .inl (g.2.1, 24, .inl (fun _ => 0))), (q17, .inl (g.2.1, 24, .inl (fun _ => 0))), (q18, .inl (g.2.1, 24, .inl (fun _ => 0))), (q19, .inl (g.2.2.1, 384, .inr (.inl (fun _ => 0)))), (q20, .inl (g.2.1, 12, .inl (fun _ => 0))), (q21, .inl (g.2.1, 12, .inl (fun _ => 0))), (q22, .inl (g.2.1, 12, .inl (fun _ => 0))), (q23, .inl (g.2.2.1, 12, .inr (.inl (fun _ => 0)))), (q24, .inl (g.2.2.1, 12, .inr (.inl (fun _ => 0))))] H locs := hZ
  refine zz_putF hC hnm hZ 0 rfl zu_X8_81 rfl rfl (Nat.le_of_ble_eq_true rfl) dX8_init_193 (fun H locs hZ => ?_)
  have hZ : zz_Z g A s.heap [(h0, .inr (7, [.int 0, .int 0, .ref q1, .ref q2, .ref q3, .ref q4, .ref q5, .ref q6, .ref q7, .int 0, .ref q8, .ref q9, .ref q10, .ref q11, .int 0, .int 0, .ref q12, .ref q13, .ref q14, .ref q15, .int 0, .ref q16, .ref q17, .ref q18, .ref q19, .int 0, .ref q20, .ref q21, .ref q22, .ref q23, .ref q24, .null, .null, .int 0, .null, .null, .null])), (q1, .inl (g.2.1, 60, .inl (fun _ => 0))), (q2, .inl (g.2.1, 60, .inl (fun _ => 0))), (q3, .inl (g.2.1, 60, .inl (fun _ => 0))), (q4, .inl (g.2.1, 60, .inl (fun _ => 0))), (q5, .inl (g.2.1, 60, .inl (fun _ => 0))), (q6, .inl (g.2.2.1, 4000, .inr (.inl (fun _ => 0)))), (q7, .inl (g.2.2.2.1, 4000, .inl (fun _ => 0))), (q8, .inl (g.2.1, 4, .inl (fun _ => 0))), (q9, .inl (g.2.1, 5, .inl (fun _ => 0))), (q10, .inl (g.2.1, 5, .inl (fun _ => 0))), (q11, .inl (g.2.1, 5, .inl (fun _ => 0))), (q12, .inl (g.2.1, 4, .inl (fun _ => 0))), (q13, .inl (g.2.2.1, 200, .inr (.inl (fun _ => 0)))), (q14, .inl (g.2.2.2.1, 3600, .inl (fun _ => 0))), (q15, .inl (g.2.1, 60, .inl (fun _ => 0))), (q16, .inl (g.2.1, 24, .inl (fun _ => 0))), (q17, .inl (g.2.1, 24, .inl (fun _ => 0))), (q18, .inl (g.2.1, 24, .inl (fun _ => 0))), (q19, .inl (g.2.2.1, 384, .inr (.inl (fun _ => 0)))), (q20, .inl (g.2.1, 12, .inl (fun _ => 0))), (q21, .inl (g.2.1, 12, .inl (fun _ => 0))), (q22, .inl (g.2.1, 12, .inl (fun _ => 0))), (q23, .inl (g.2.2.1, 12, .inr (.inl (fun _ => 0)))), (q24, .inl (g.2.2.1, 12, .inr (.inl (fun _ => 0))))] H locs := hZ
  refine lv_aload_n hx hb dX8_init_196 rfl (lv_at hl 0 rfl) ?_
  refine lv_bipush (v := 24) hx hb dX8_init_197 (by decide) ?_
  refine zz_newi (N' := 24) hC hZ zk_87 (by decide) (by decide) (Nat.le_of_ble_eq_true rfl) (Nat.le_of_ble_eq_true rfl) (Nat.le_of_ble_eq_true rfl) dX8_init_199 (fun q25 H hZ => ?_)
  have hZ : zz_Z g A s.heap [(h0, .inr (7, [.int 0, .int 0, .ref q1, .ref q2, .ref q3, .ref q4, .ref q5, .ref q6, .ref q7, .int 0, .ref q8, .ref q9, .ref q10, .ref q11, .int 0, .int 0, .ref q12, .ref q13, .ref q14, .ref q15, .int 0, .ref q16, .ref q17, .ref q18, .ref q19, .int 0, .ref q20, .ref q21, .ref q22, .ref q23, .ref q24, .null, .null, .int 0, .null, .null, .null])), (q1, .inl (g.2.1, 60, .inl (fun _ => 0))), (q2, .inl (g.2.1, 60, .inl (fun _ => 0))), (q3, .inl (g.2.1, 60, .inl (fun _ => 0))), (q4, .inl (g.2.1, 60, .inl (fun _ => 0))), (q5, .inl (g.2.1, 60, .inl (fun _ => 0))), (q6, .inl (g.2.2.1, 4000, .inr (.inl (fun _ => 0)))), (q7, .inl (g.2.2.2.1, 4000, .inl (fun _ => 0))), (q8, .inl (g.2.1, 4, .inl (fun _ => 0))), (q9, .inl (g.2.1, 5, .inl (fun _ => 0))), (q10, .inl (g.2.1, 5, .inl (fun _ => 0))), (q11, .inl (g.2.1, 5, .inl (fun _ => 0))), (q12, .inl (g.2.1, 4, .inl (fun _ => 0))), (q13, .inl (g.2.2.1, 200, .inr (.inl (fun _ => 0)))), (q14, .inl (g.2.2.2.1, 3600, .inl (fun _ => 0))), (q15, .inl (g.2.1, 60, .inl (fun _ => 0))), (q16, .inl (g.2.1, 24, .inl (fun _ => 0))), (q17, .inl (g.2.1, 24, .inl (fun _ => 0))), (q18, .inl (g.2.1, 24, .inl (fun _ => 0))), (q19, .inl (g.2.2.1, 384, .inr (.inl (fun _ => 0)))), (q20, .inl (g.2.1, 12, .inl (fun _ => 0))), (q21, .inl (g.2.1, 12, .inl (fun _ => 0))), (q22, .inl (g.2.1, 12, .inl (fun _ => 0))), (q23, .inl (g.2.2.1, 12, .inr (.inl (fun _ => 0)))), (q24, .inl (g.2.2.1, 12, .inr (.inl (fun _ => 0)))), (q25, .inl (g.2.1, 24, .inl (fun _ => 0)))] H locs := hZ
  refine zz_putF hC hnm hZ 0 rfl zu_X8_84 rfl rfl (Nat.le_of_ble_eq_true rfl) dX8_init_201 (fun H locs hZ => ?_)
  have hZ : zz_Z g A s.heap [(h0, .inr (7, [.int 0, .int 0, .ref q1, .ref q2, .ref q3, .ref q4, .ref q5, .ref q6, .ref q7, .int 0, .ref q8, .ref q9, .ref q10, .ref q11, .int 0, .int 0, .ref q12, .ref q13, .ref q14, .ref q15, .int 0, .ref q16, .ref q17, .ref q18, .ref q19, .int 0, .ref q20, .ref q21, .ref q22, .ref q23, .ref q24, .ref q25, .null, .int 0, .null, .null, .null])), (q1, .inl (g.2.1, 60, .inl (fun _ => 0))), (q2, .inl (g.2.1, 60, .inl (fun _ => 0))), (q3, .inl (g.2.1, 60, .inl (fun _ => 0))), (q4, .inl (g.2.1, 60, .inl (fun _ => 0))), (q5, .inl (g.2.1, 60, .inl (fun _ => 0))), (q6, .inl (g.2.2.1, 4000, .inr (.inl (fun _ => 0)))), (q7, .inl (g.2.2.2.1, 4000, .inl (fun _ => 0))), (q8, .inl (g.2.1, 4, .inl (fun _ => 0))), (q9, .inl (g.2.1, 5, .inl (fun _ => 0))), (q10, .inl (g.2.1, 5, .inl (fun _ => 0))), (q11, .inl (g.2.1, 5, .inl (fun _ => 0))), (q12, .inl (g.2.1, 4, .inl (fun _ => 0))), (q13, .inl (g.2.2.1, 200, .inr (.inl (fun _ => 0)))), (q14, .inl (g.2.2.2.1, 3600, .inl (fun _ => 0))), (q15, .inl (g.2.1, 60, .inl (fun _ => 0))), (q16, .inl (g.2.1, 24, .inl (fun _ => 0))), (q17, .inl (g.2.1, 24, .inl (fun _ => 0))), (q18, .inl (g.2.1, 24, .inl (fun _ => 0))), (q19, .inl (g.2.2.1, 384, .inr (.inl (fun _ => 0)))), (q20, .inl (g.2.1, 12, .inl (fun _ => 0))), (q21, .inl (g.2.1, 12, .inl (fun _ => 0))), (q22, .inl (g.2.1, 12, .inl (fun _ => 0))), (q23, .inl (g.2.2.1, 12, .inr (.inl (fun _ => 0)))), (q24, .inl (g.2.2.1, 12, .inr (.inl (fun _ => 0)))), (q25, .inl (g.2.1, 24, .inl (fun _ => 0)))] H locs := hZ
  refine lv_aload_n hx hb dX8_init_204 rfl (lv_at hl 0 rfl) ?_
  refine lv_bipush (v := 24) hx hb dX8_init_205 (by decide) ?_
  refine zz_newi (N' := 24) hC hZ zk_87 (by decide) (by decide) (Nat.le_of_ble_eq_true rfl) (Nat.le_of_ble_eq_true rfl) (Nat.le_of_ble_eq_true rfl) dX8_init_207 (fun q26 H hZ => ?_)
  have hZ : zz_Z g A s.heap [(h0, .inr (7, [.int 0, .int 0, .ref q1, .ref q2, .ref q3, .ref q4, .ref q5, .ref q6, .ref q7, .int 0, .ref q8, .ref q9, .ref q10, .ref q11, .int 0, .int 0, .ref q12, .ref q13, .ref q14, .ref q15, .int 0, .ref q16, .ref q17, .ref q18, .ref q19, .int 0, .ref q20, .ref q21, .ref q22, .ref q23, .ref q24, .ref q25, .null, .int 0, .null, .null, .null])), (q1, .inl (g.2.1, 60, .inl (fun _ => 0))), (q2, .inl (g.2.1, 60, .inl (fun _ => 0))), (q3, .inl (g.2.1, 60, .inl (fun _ => 0))), (q4, .inl (g.2.1, 60, .inl (fun _ => 0))), (q5, .inl (g.2.1, 60, .inl (fun _ => 0))), (q6, .inl (g.2.2.1, 4000, .inr (.inl (fun _ => 0)))), (q7, .inl (g.2.2.2.1, 4000, .inl (fun _ => 0))), (q8, .inl (g.2.1, 4, .inl (fun _ => 0))), (q9, .inl (g.2.1, 5, .inl (fun _ => 0))), (q10, .inl (g.2.1, 5, .inl (fun _ => 0))), (q11, .inl (g.2.1, 5, .inl (fun _ => 0))), (q12, .inl (g.2.1, 4, .inl (fun _ => 0))), (q13, .inl (g.2.2.1, 200, .inr (.inl (fun _ => 0)))), (q14, .inl (g.2.2.2.1, 3600, .inl (fun _ => 0))), (q15, .inl (g.2.1, 60, .inl (fun _ => 0))), (q16, .inl (g.2.1, 24, .inl (fun _ => 0))), (q17, .inl (g.2.1, 24, .inl (fun _ => 0))), (q18, .inl (g.2.1, 24, .inl (fun _ => 0))), (q19, .inl (g.2.2.1, 384, .inr (.inl (fun _ => 0)))), (q20, .inl (g.2.1, 12, .inl (fun _ => 0))), (q21, .inl (g.2.1, 12, .inl (fun _ => 0))), (q22, .inl (g.2.1, 12, .inl (fun _ => 0))), (q23, .inl (g.2.2.1, 12, .inr (.inl (fun _ => 0)))), (q24, .inl (g.2.2.1, 12, .inr (.inl (fun _ => 0)))), (q25, .inl (g.2.1, 24, .inl (fun _ => 0))), (q26, .inl (g.2.1, 24, .inl (fun _ => 0)))] H locs := hZ
  refine zz_putF hC hnm hZ 0 rfl zu_X8_87 rfl rfl (Nat.le_of_ble_eq_true rfl) dX8_init_209 (fun H locs hZ => ?_)
  have hZ : zz_Z g A s.heap [(h0, .inr (7, [.int 0, .int 0, .ref q1, .ref q2, .ref q3, .ref q4, .ref q5, .ref q6, .ref q7, .int 0, .ref q8, .ref q9, .ref q10, .ref q11, .int 0, .int 0, .ref q12, .ref q13, .ref q14, .ref q15, .int 0, .ref q16, .ref q17, .ref q18, .ref q19, .int 0, .ref q20, .ref q21, .ref q22, .ref q23, .ref q24, .ref q25, .ref q26, .int 0, .null, .null, .null])), (q1, .inl (g.2.1, 60, .inl (fun _ => 0))), (q2, .inl (g.2.1, 60, .inl (fun _ => 0))), (q3, .inl (g.2.1, 60, .inl (fun _ => 0))), (q4, .inl (g.2.1, 60, .inl (fun _ => 0))), (q5, .inl (g.2.1, 60, .inl (fun _ => 0))), (q6, .inl (g.2.2.1, 4000, .inr (.inl (fun _ => 0)))), (q7, .inl (g.2.2.2.1, 4000, .inl (fun _ => 0))), (q8, .inl (g.2.1, 4, .inl (fun _ => 0))), (q9, .inl (g.2.1, 5, .inl (fun _ => 0))), (q10, .inl (g.2.1, 5, .inl (fun _ => 0))), (q11, .inl (g.2.1, 5, .inl (fun _ => 0))), (q12, .inl (g.2.1, 4, .inl (fun _ => 0))), (q13, .inl (g.2.2.1, 200, .inr (.inl (fun _ => 0)))), (q14, .inl (g.2.2.2.1, 3600, .inl (fun _ => 0))), (q15, .inl (g.2.1, 60, .inl (fun _ => 0))), (q16, .inl (g.2.1, 24, .inl (fun _ => 0))), (q17, .inl (g.2.1, 24, .inl (fun _ => 0))), (q18, .inl (g.2.1, 24, .inl (fun _ => 0))), (q19, .inl (g.2.2.1, 384, .inr (.inl (fun _ => 0)))), (q20, .inl (g.2.1, 12, .inl (fun _ => 0))), (q21, .inl (g.2.1, 12, .inl (fun _ => 0))), (q22, .inl (g.2.1, 12, .inl (fun _ => 0))), (q23, .inl (g.2.2.1, 12, .inr (.inl (fun _ => 0)))), (q24, .inl (g.2.2.1, 12, .inr (.inl (fun _ => 0)))), (q25, .inl (g.2.1, 24, .inl (fun _ => 0))), (q26, .inl (g.2.1, 24, .inl (fun _ => 0)))] H locs := hZ
  refine lv_aload_n hx hb dX8_init_212 rfl (lv_at hl 0 rfl) ?_
  refine lv_bipush (v := 8) hx hb dX8_init_213 (by decide) ?_
  refine zz_newi (N' := 8) hC hZ zk_87 (by decide) (by decide) (Nat.le_of_ble_eq_true rfl) (Nat.le_of_ble_eq_true rfl) (Nat.le_of_ble_eq_true rfl) dX8_init_215 (fun q27 H hZ => ?_)
  have hZ : zz_Z g A s.heap [(h0, .inr (7, [.int 0, .int 0, .ref q1, .ref q2, .ref q3, .ref q4, .ref q5, .ref q6, .ref q7, .int 0, .ref q8, .ref q9, .ref q10, .ref q11, .int 0, .int 0, .ref q12, .ref q13, .ref q14, .ref q15, .int 0, .ref q16, .ref q17, .ref q18, .ref q19, .int 0, .ref q20, .ref q21, .ref q22, .ref q23, .ref q24, .ref q25, .ref q26, .int 0, .null, .null, .null])), (q1, .inl (g.2.1, 60, .inl (fun _ => 0))), (q2, .inl (g.2.1, 60, .inl (fun _ => 0))), (q3, .inl (g.2.1, 60, .inl (fun _ => 0))), (q4, .inl (g.2.1, 60, .inl (fun _ => 0))), (q5, .inl (g.2.1, 60, .inl (fun _ => 0))), (q6, .inl (g.2.2.1, 4000, .inr (.inl (fun _ => 0)))), (q7, .inl (g.2.2.2.1, 4000, .inl (fun _ => 0))), (q8, .inl (g.2.1, 4, .inl (fun _ => 0))), (q9, .inl (g.2.1, 5, .inl (fun _ => 0))), (q10, .inl (g.2.1, 5, .inl (fun _ => 0))), (q11, .inl (g.2.1, 5, .inl (fun _ => 0))), (q12, .inl (g.2.1, 4, .inl (fun _ => 0))), (q13, .inl (g.2.2.1, 200, .inr (.inl (fun _ => 0)))), (q14, .inl (g.2.2.2.1, 3600, .inl (fun _ => 0))), (q15, .inl (g.2.1, 60, .inl (fun _ => 0))), (q16, .inl (g.2.1, 24, .inl (fun _ => 0))), (q17, .inl (g.2.1, 24, .inl (fun _ => 0))), (q18, .inl (g.2.1, 24, .inl (fun _ => 0))), (q19, .inl (g.2.2.1, 384, .inr (.inl (fun _ => 0)))), (q20, .inl (g.2.1, 12, .inl (fun _ => 0))), (q21, .inl (g.2.1, 12, .inl (fun _ => 0))), (q22, .inl (g.2.1, 12, .inl (fun _ => 0))), (q23, .inl (g.2.2.1, 12, .inr (.inl (fun _ => 0)))), (q24, .inl (g.2.2.1, 12, .inr (.inl (fun _ => 0)))), (q25, .inl (g.2.1, 24, .inl (fun _ => 0))), (q26, .inl (g.2.1, 24, .inl (fun _ => 0))), (q27, .inl (g.2.1, 8, .inl (fun _ => 0)))] H locs := hZ
  refine zz_putF hC hnm hZ 0 rfl zu_X8_90 rfl rfl (Nat.le_of_ble_eq_true rfl) dX8_init_217 (fun H locs hZ => ?_)
  have hZ : zz_Z g A s.heap [(h0, .inr (7, [.int 0, .int 0, .ref q1, .ref q2, .ref q3, .ref q4, .ref q5, .ref q6, .ref q7, .int 0, .ref q8, .ref q9, .ref q10, .ref q11, .int 0, .int 0, .ref q12, .ref q13, .ref q14, .ref q15, .int 0, .ref q16, .ref q17, .ref q18, .ref q19, .int 0, .ref q20, .ref q21, .ref q22, .ref q23, .ref q24, .ref q25, .ref q26, .int 0, .ref q27, .null, .null])), (q1, .inl (g.2.1, 60, .inl (fun _ => 0))), (q2, .inl (g.2.1, 60, .inl (fun _ => 0))), (q3, .inl (g.2.1, 60, .inl (fun _ => 0))), (q4, .inl (g.2.1, 60, .inl (fun _ => 0))), (q5, .inl (g.2.1, 60, .inl (fun _ => 0))), (q6, .inl (g.2.2.1, 4000, .inr (.inl (fun _ => 0)))), (q7, .inl (g.2.2.2.1, 4000, .inl (fun _ => 0))), (q8, .inl (g.2.1, 4, .inl (fun _ => 0))), (q9, .inl (g.2.1, 5, .inl (fun _ => 0))), (q10, .inl (g.2.1, 5, .inl (fun _ => 0))), (q11, .inl (g.2.1, 5, .inl (fun _ => 0))), (q12, .inl (g.2.1, 4, .inl (fun _ => 0))), (q13, .inl (g.2.2.1, 200, .inr (.inl (fun _ => 0)))), (q14, .inl (g.2.2.2.1, 3600, .inl (fun _ => 0))), (q15, .inl (g.2.1, 60, .inl (fun _ => 0))), (q16, .inl (g.2.1, 24, .inl (fun _ => 0))), (q17, .inl (g.2.1, 24, .inl (fun _ => 0))), (q18, .inl (g.2.1, 24, .inl (fun _ => 0))), (q19, .inl (g.2.2.1, 384, .inr (.inl (fun _ => 0)))), (q20, .inl (g.2.1, 12, .inl (fun _ => 0))), (q21, .inl (g.2.1, 12, .inl (fun _ => 0))), (q22, .inl (g.2.1, 12, .inl (fun _ => 0))), (q23, .inl (g.2.2.1, 12, .inr (.inl (fun _ => 0)))), (q24, .inl (g.2.2.1, 12, .inr (.inl (fun _ => 0)))), (q25, .inl (g.2.1, 24, .inl (fun _ => 0))), (q26, .inl (g.2.1, 24, .inl (fun _ => 0))), (q27, .inl (g.2.1, 8, .inl (fun _ => 0)))] H locs := hZ
  refine lv_aload_n hx hb dX8_init_220 rfl (lv_at hl 0 rfl) ?_
  refine lv_sipush (v := 32000) hx hb dX8_init_221 (by decide) ?_
  refine zz_newl (N' := 32000) hC hZ zk_88 (by decide) (by decide) (Nat.le_of_ble_eq_true rfl) (Nat.le_of_ble_eq_true rfl) (Nat.le_of_ble_eq_true rfl) dX8_init_224 (fun q28 H hZ => ?_)
  have hZ : zz_Z g A s.heap [(h0, .inr (7, [.int 0, .int 0, .ref q1, .ref q2, .ref q3, .ref q4, .ref q5, .ref q6, .ref q7, .int 0, .ref q8, .ref q9, .ref q10, .ref q11, .int 0, .int 0, .ref q12, .ref q13, .ref q14, .ref q15, .int 0, .ref q16, .ref q17, .ref q18, .ref q19, .int 0, .ref q20, .ref q21, .ref q22, .ref q23, .ref q24, .ref q25, .ref q26, .int 0, .ref q27, .null, .null])), (q1, .inl (g.2.1, 60, .inl (fun _ => 0))), (q2, .inl (g.2.1, 60, .inl (fun _ => 0))), (q3, .inl (g.2.1, 60, .inl (fun _ => 0))), (q4, .inl (g.2.1, 60, .inl (fun _ => 0))), (q5, .inl (g.2.1, 60, .inl (fun _ => 0))), (q6, .inl (g.2.2.1, 4000, .inr (.inl (fun _ => 0)))), (q7, .inl (g.2.2.2.1, 4000, .inl (fun _ => 0))), (q8, .inl (g.2.1, 4, .inl (fun _ => 0))), (q9, .inl (g.2.1, 5, .inl (fun _ => 0))), (q10, .inl (g.2.1, 5, .inl (fun _ => 0))), (q11, .inl (g.2.1, 5, .inl (fun _ => 0))), (q12, .inl (g.2.1, 4, .inl (fun _ => 0))), (q13, .inl (g.2.2.1, 200, .inr (.inl (fun _ => 0)))), (q14, .inl (g.2.2.2.1, 3600, .inl (fun _ => 0))), (q15, .inl (g.2.1, 60, .inl (fun _ => 0))), (q16, .inl (g.2.1, 24, .inl (fun _ => 0))), (q17, .inl (g.2.1, 24, .inl (fun _ => 0))), (q18, .inl (g.2.1, 24, .inl (fun _ => 0))), (q19, .inl (g.2.2.1, 384, .inr (.inl (fun _ => 0)))), (q20, .inl (g.2.1, 12, .inl (fun _ => 0))), (q21, .inl (g.2.1, 12, .inl (fun _ => 0))), (q22, .inl (g.2.1, 12, .inl (fun _ => 0))), (q23, .inl (g.2.2.1, 12, .inr (.inl (fun _ => 0)))), (q24, .inl (g.2.2.1, 12, .inr (.inl (fun _ => 0)))), (q25, .inl (g.2.1, 24, .inl (fun _ => 0))), (q26, .inl (g.2.1, 24, .inl (fun _ => 0))), (q27, .inl (g.2.1, 8, .inl (fun _ => 0))), (q28, .inl (g.2.2.1, 32000, .inr (.inl (fun _ => 0))))] H locs := hZ
  refine zz_putF hC hnm hZ 0 rfl zu_X8_93 rfl rfl (Nat.le_of_ble_eq_true rfl) dX8_init_226 (fun H locs hZ => ?_)
  have hZ : zz_Z g A s.heap [(h0, .inr (7, [.int 0, .int 0, .ref q1, .ref q2, .ref q3, .ref q4, .ref q5, .ref q6, .ref q7, .int 0, .ref q8, .ref q9, .ref q10, .ref q11, .int 0, .int 0, .ref q12, .ref q13, .ref q14, .ref q15, .int 0, .ref q16, .ref q17, .ref q18, .ref q19, .int 0, .ref q20, .ref q21, .ref q22, .ref q23, .ref q24, .ref q25, .ref q26, .int 0, .ref q27, .ref q28, .null])), (q1, .inl (g.2.1, 60, .inl (fun _ => 0))), (q2, .inl (g.2.1, 60, .inl (fun _ => 0))), (q3, .inl (g.2.1, 60, .inl (fun _ => 0))), (q4, .inl (g.2.1, 60, .inl (fun _ => 0))), (q5, .inl (g.2.1, 60, .inl (fun _ => 0))), (q6, .inl (g.2.2.1, 4000, .inr (.inl (fun _ => 0)))), (q7, .inl (g.2.2.2.1, 4000, .inl (fun _ => 0))), (q8, .inl (g.2.1, 4, .inl (fun _ => 0))), (q9, .inl (g.2.1, 5, .inl (fun _ => 0))), (q10, .inl (g.2.1, 5, .inl (fun _ => 0))), (q11, .inl (g.2.1, 5, .inl (fun _ => 0))), (q12, .inl (g.2.1, 4, .inl (fun _ => 0))), (q13, .inl (g.2.2.1, 200, .inr (.inl (fun _ => 0)))), (q14, .inl (g.2.2.2.1, 3600, .inl (fun _ => 0))), (q15, .inl (g.2.1, 60, .inl (fun _ => 0))), (q16, .inl (g.2.1, 24, .inl (fun _ => 0))), (q17, .inl (g.2.1, 24, .inl (fun _ => 0))), (q18, .inl (g.2.1, 24, .inl (fun _ => 0))), (q19, .inl (g.2.2.1, 384, .inr (.inl (fun _ => 0)))), (q20, .inl (g.2.1, 12, .inl (fun _ => 0))), (q21, .inl (g.2.1, 12, .inl (fun _ => 0))), (q22, .inl (g.2.1, 12, .inl (fun _ => 0))), (q23, .inl (g.2.2.1, 12, .inr (.inl (fun _ => 0)))), (q24, .inl (g.2.2.1, 12, .inr (.inl (fun _ => 0)))), (q25, .inl (g.2.1, 24, .inl (fun _ => 0))), (q26, .inl (g.2.1, 24, .inl (fun _ => 0))), (q27, .inl (g.2.1, 8, .inl (fun _ => 0))), (q28, .inl (g.2.2.1, 32000, .inr (.inl (fun _ => 0))))] H locs := hZ
  refine lv_aload_n hx hb dX8_init_229 rfl (lv_at hl 0 rfl) ?_
  refine lv_sipush (v := 32000) hx hb dX8_init_230 (by decide) ?_
  refine zz_newz (N' := 32000) hC hZ zk_89 (by decide) (by decide) (Nat.le_of_ble_eq_true rfl) (Nat.le_of_ble_eq_true rfl) (Nat.le_of_ble_eq_true rfl) dX8_init_233 (fun q29 H hZ => ?_)
  have hZ : zz_Z g A s.heap [(h0, .inr (7, [.int 0, .int 0, .ref q1, .ref q2, .ref q3, .ref q4, .ref q5, .ref q6, .ref q7, .int 0, .ref q8, .ref q9, .ref q10, .ref q11, .int 0, .int 0, .ref q12, .ref q13, .ref q14, .ref q15, .int 0, .ref q16, .ref q17, .ref q18, .ref q19, .int 0, .ref q20, .ref q21, .ref q22, .ref q23, .ref q24, .ref q25, .ref q26, .int 0, .ref q27, .ref q28, .null])), (q1, .inl (g.2.1, 60, .inl (fun _ => 0))), (q2, .inl (g.2.1, 60, .inl (fun _ => 0))), (q3, .inl (g.2.1, 60, .inl (fun _ => 0))), (q4, .inl (g.2.1, 60, .inl (fun _ => 0))), (q5, .inl (g.2.1, 60, .inl (fun _ => 0))), (q6, .inl (g.2.2.1, 4000, .inr (.inl (fun _ => 0)))), (q7, .inl (g.2.2.2.1, 4000, .inl (fun _ => 0))), (q8, .inl (g.2.1, 4, .inl (fun _ => 0))), (q9, .inl (g.2.1, 5, .inl (fun _ => 0))), (q10, .inl (g.2.1, 5, .inl (fun _ => 0))), (q11, .inl (g.2.1, 5, .inl (fun _ => 0))), (q12, .inl (g.2.1, 4, .inl (fun _ => 0))), (q13, .inl (g.2.2.1, 200, .inr (.inl (fun _ => 0)))), (q14, .inl (g.2.2.2.1, 3600, .inl (fun _ => 0))), (q15, .inl (g.2.1, 60, .inl (fun _ => 0))), (q16, .inl (g.2.1, 24, .inl (fun _ => 0))), (q17, .inl (g.2.1, 24, .inl (fun _ => 0))), (q18, .inl (g.2.1, 24, .inl (fun _ => 0))), (q19, .inl (g.2.2.1, 384, .inr (.inl (fun _ => 0)))), (q20, .inl (g.2.1, 12, .inl (fun _ => 0))), (q21, .inl (g.2.1, 12, .inl (fun _ => 0))), (q22, .inl (g.2.1, 12, .inl (fun _ => 0))), (q23, .inl (g.2.2.1, 12, .inr (.inl (fun _ => 0)))), (q24, .inl (g.2.2.1, 12, .inr (.inl (fun _ => 0)))), (q25, .inl (g.2.1, 24, .inl (fun _ => 0))), (q26, .inl (g.2.1, 24, .inl (fun _ => 0))), (q27, .inl (g.2.1, 8, .inl (fun _ => 0))), (q28, .inl (g.2.2.1, 32000, .inr (.inl (fun _ => 0)))), (q29, .inl (g.2.2.2.1, 32000, .inl (fun _ => 0)))] H locs := hZ
  refine zz_putF hC hnm hZ 0 rfl zu_X8_96 rfl rfl (Nat.le_of_ble_eq_true rfl) dX8_init_235 (fun H locs hZ => ?_)
  have hZ : zz_Z g A s.heap [(h0, .inr (7, [.int 0, .int 0, .ref q1, .ref q2, .ref q3, .ref q4, .ref q5, .ref q6, .ref q7, .int 0, .ref q8, .ref q9, .ref q10, .ref q11, .int 0, .int 0, .ref q12, .ref q13, .ref q14, .ref q15, .int 0, .ref q16, .ref q17, .ref q18, .ref q19, .int 0, .ref q20, .ref q21, .ref q22, .ref q23, .ref q24, .ref q25, .ref q26, .int 0, .ref q27, .ref q28, .ref q29])), (q1, .inl (g.2.1, 60, .inl (fun _ => 0))), (q2, .inl (g.2.1, 60, .inl (fun _ => 0))), (q3, .inl (g.2.1, 60, .inl (fun _ => 0))), (q4, .inl (g.2.1, 60, .inl (fun _ => 0))), (q5, .inl (g.2.1, 60, .inl (fun _ => 0))), (q6, .inl (g.2.2.1, 4000, .inr (.inl (fun _ => 0)))), (q7, .inl (g.2.2.2.1, 4000, .inl (fun _ => 0))), (q8, .inl (g.2.1, 4, .inl (fun _ => 0))), (q9, .inl (g.2.1, 5, .inl (fun _ => 0))), (q10, .inl (g.2.1, 5, .inl (fun _ => 0))), (q11, .inl (g.2.1, 5, .inl (fun _ => 0))), (q12, .inl (g.2.1, 4, .inl (fun _ => 0))), (q13, .inl (g.2.2.1, 200, .inr (.inl (fun _ => 0)))), (q14, .inl (g.2.2.2.1, 3600, .inl (fun _ => 0))), (q15, .inl (g.2.1, 60, .inl (fun _ => 0))), (q16, .inl (g.2.1, 24, .inl (fun _ => 0))), (q17, .inl (g.2.1, 24, .inl (fun _ => 0))), (q18, .inl (g.2.1, 24, .inl (fun _ => 0))), (q19, .inl (g.2.2.1, 384, .inr (.inl (fun _ => 0)))), (q20, .inl (g.2.1, 12, .inl (fun _ => 0))), (q21, .inl (g.2.1, 12, .inl (fun _ => 0))), (q22, .inl (g.2.1, 12, .inl (fun _ => 0))), (q23, .inl (g.2.2.1, 12, .inr (.inl (fun _ => 0)))), (q24, .inl (g.2.2.1, 12, .inr (.inl (fun _ => 0)))), (q25, .inl (g.2.1, 24, .inl (fun _ => 0))), (q26, .inl (g.2.1, 24, .inl (fun _ => 0))), (q27, .inl (g.2.1, 8, .inl (fun _ => 0))), (q28, .inl (g.2.2.1, 32000, .inr (.inl (fun _ => 0)))), (q29, .inl (g.2.2.2.1, 32000, .inl (fun _ => 0)))] H locs := hZ
  exact zz_vret hC hZ (⟨q1, q2, q3, q4, q5, q6, q7, q8, q9, q10, q11, q12, q13, q14, q15, q16, q17, q18, q19, q20, q21, q22, q23, q24, q25, q26, q27, q28, q29, rfl⟩) (Nat.le_of_ble_eq_true rfl) (Nat.le_of_ble_eq_true rfl) dX8_init_238
end
