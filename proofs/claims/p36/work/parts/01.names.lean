-- ===== PART A: goes FIRST, ahead of the names: the tables' words, and 'selects' of the private methods out of them =====
/-- a private method of a class that the tables say can be made, by its rows of tables_1 -/
def lw_okq (q : MethodName × Nat) : Prop := (q.1.cls ≠ "java/lang/invoke/MethodHandle" ∧ q.1.cls ≠ "java/lang/invoke/VarHandle") ∧ Cond.instantiable q.1.cls q.2 ∈ tables_1 ∧ Cond.privateMethod q.1 ∈ tables_1 ∧ Cond.instanceMethod q.1 ∈ tables_1
theorem lw_p0 : lw_okq (⟨"DecisionArrays", "fail", "(I)I"⟩, 8) := ⟨⟨by decide +kernel, by decide +kernel⟩, List.mem_of_getElem? (i := 13) (by decide +kernel), List.mem_of_getElem? (i := 233) (by decide +kernel), List.mem_of_getElem? (i := 234) (by decide +kernel)⟩
theorem lw_p1 : lw_okq (⟨"DecisionArrays", "newArray", "(IIII)I"⟩, 8) := ⟨⟨by decide +kernel, by decide +kernel⟩, List.mem_of_getElem? (i := 13) (by decide +kernel), List.mem_of_getElem? (i := 237) (by decide +kernel), List.mem_of_getElem? (i := 238) (by decide +kernel)⟩
theorem lw_p2 : lw_okq (⟨"DecisionArrays", "fine", "(I)I"⟩, 8) := ⟨⟨by decide +kernel, by decide +kernel⟩, List.mem_of_getElem? (i := 13) (by decide +kernel), List.mem_of_getElem? (i := 252) (by decide +kernel), List.mem_of_getElem? (i := 253) (by decide +kernel)⟩
theorem lw_p3 : lw_okq (⟨"DecisionArrays$Maker", "gridAt", "(III)I"⟩, 4) := ⟨⟨by decide +kernel, by decide +kernel⟩, List.mem_of_getElem? (i := 91) (by decide +kernel), List.mem_of_getElem? (i := 289) (by decide +kernel), List.mem_of_getElem? (i := 290) (by decide +kernel)⟩
theorem lw_p4 : lw_okq (⟨"DecisionArrays", "rowCode", "(II)I"⟩, 8) := ⟨⟨by decide +kernel, by decide +kernel⟩, List.mem_of_getElem? (i := 13) (by decide +kernel), List.mem_of_getElem? (i := 310) (by decide +kernel), List.mem_of_getElem? (i := 311) (by decide +kernel)⟩
theorem lw_p5 : lw_okq (⟨"DecisionArrays", "noBits", "(I)J"⟩, 8) := ⟨⟨by decide +kernel, by decide +kernel⟩, List.mem_of_getElem? (i := 13) (by decide +kernel), List.mem_of_getElem? (i := 330) (by decide +kernel), List.mem_of_getElem? (i := 331) (by decide +kernel)⟩
theorem lw_p6 : lw_okq (⟨"DecisionArrays$Maker", "plan", "(II)V"⟩, 4) := ⟨⟨by decide +kernel, by decide +kernel⟩, List.mem_of_getElem? (i := 91) (by decide +kernel), List.mem_of_getElem? (i := 456) (by decide +kernel), List.mem_of_getElem? (i := 457) (by decide +kernel)⟩
theorem lw_p7 : lw_okq (⟨"DecisionArrays$Maker", "twinAt", "(II)I"⟩, 4) := ⟨⟨by decide +kernel, by decide +kernel⟩, List.mem_of_getElem? (i := 91) (by decide +kernel), List.mem_of_getElem? (i := 465) (by decide +kernel), List.mem_of_getElem? (i := 466) (by decide +kernel)⟩
theorem lw_p8 : lw_okq (⟨"DecisionArrays$Store", "insert", "(III)V"⟩, 10) := ⟨⟨by decide +kernel, by decide +kernel⟩, List.mem_of_getElem? (i := 21) (by decide +kernel), List.mem_of_getElem? (i := 479) (by decide +kernel), List.mem_of_getElem? (i := 480) (by decide +kernel)⟩
theorem lw_p9 : lw_okq (⟨"DecisionArrays$Likeness", "agreeAt", "(III)Z"⟩, 5) := ⟨⟨by decide +kernel, by decide +kernel⟩, List.mem_of_getElem? (i := 110) (by decide +kernel), List.mem_of_getElem? (i := 502) (by decide +kernel), List.mem_of_getElem? (i := 503) (by decide +kernel)⟩
theorem lw_p10 : lw_okq (⟨"DecisionArrays$Likeness", "sameShape", "(II)Z"⟩, 5) := ⟨⟨by decide +kernel, by decide +kernel⟩, List.mem_of_getElem? (i := 110) (by decide +kernel), List.mem_of_getElem? (i := 506) (by decide +kernel), List.mem_of_getElem? (i := 507) (by decide +kernel)⟩
theorem lw_p11 : lw_okq (⟨"DecisionArrays$Likeness", "rowsAgree", "(III)Z"⟩, 5) := ⟨⟨by decide +kernel, by decide +kernel⟩, List.mem_of_getElem? (i := 110) (by decide +kernel), List.mem_of_getElem? (i := 510) (by decide +kernel), List.mem_of_getElem? (i := 511) (by decide +kernel)⟩
theorem lw_p12 : lw_okq (⟨"DecisionArrays$Likeness", "digestAt", "(II)I"⟩, 5) := ⟨⟨by decide +kernel, by decide +kernel⟩, List.mem_of_getElem? (i := 110) (by decide +kernel), List.mem_of_getElem? (i := 523) (by decide +kernel), List.mem_of_getElem? (i := 524) (by decide +kernel)⟩
theorem lw_p13 : lw_okq (⟨"DecisionArrays$Rules", "shareOf", "(II)J"⟩, 9) := ⟨⟨by decide +kernel, by decide +kernel⟩, List.mem_of_getElem? (i := 164) (by decide +kernel), List.mem_of_getElem? (i := 617) (by decide +kernel), List.mem_of_getElem? (i := 618) (by decide +kernel)⟩
theorem lw_p14 : lw_okq (⟨"DecisionArrays$Rules", "alikeIn", "(IJII)J"⟩, 9) := ⟨⟨by decide +kernel, by decide +kernel⟩, List.mem_of_getElem? (i := 164) (by decide +kernel), List.mem_of_getElem? (i := 630) (by decide +kernel), List.mem_of_getElem? (i := 631) (by decide +kernel)⟩
theorem lw_p15 : lw_okq (⟨"DecisionArrays$Choices", "isFree", "(I)Z"⟩, 7) := ⟨⟨by decide +kernel, by decide +kernel⟩, List.mem_of_getElem? (i := 132) (by decide +kernel), List.mem_of_getElem? (i := 671) (by decide +kernel), List.mem_of_getElem? (i := 672) (by decide +kernel)⟩
def lw_privs_1 : List (MethodName × Nat) := [(⟨"DecisionArrays", "fail", "(I)I"⟩, 8), (⟨"DecisionArrays", "newArray", "(IIII)I"⟩, 8), (⟨"DecisionArrays", "fine", "(I)I"⟩, 8), (⟨"DecisionArrays$Maker", "gridAt", "(III)I"⟩, 4), (⟨"DecisionArrays", "rowCode", "(II)I"⟩, 8), (⟨"DecisionArrays", "noBits", "(I)J"⟩, 8), (⟨"DecisionArrays$Maker", "plan", "(II)V"⟩, 4), (⟨"DecisionArrays$Maker", "twinAt", "(II)I"⟩, 4), (⟨"DecisionArrays$Store", "insert", "(III)V"⟩, 10), (⟨"DecisionArrays$Likeness", "agreeAt", "(III)Z"⟩, 5), (⟨"DecisionArrays$Likeness", "sameShape", "(II)Z"⟩, 5), (⟨"DecisionArrays$Likeness", "rowsAgree", "(III)Z"⟩, 5), (⟨"DecisionArrays$Likeness", "digestAt", "(II)I"⟩, 5), (⟨"DecisionArrays$Rules", "shareOf", "(II)J"⟩, 9), (⟨"DecisionArrays$Rules", "alikeIn", "(IJII)J"⟩, 9), (⟨"DecisionArrays$Choices", "isFree", "(I)Z"⟩, 7)]
theorem lw_r1 : ∀ q ∈ lw_privs_1, lw_okq q := List.forall_mem_cons.mpr ⟨lw_p0, List.forall_mem_cons.mpr ⟨lw_p1, List.forall_mem_cons.mpr ⟨lw_p2, List.forall_mem_cons.mpr ⟨lw_p3, List.forall_mem_cons.mpr ⟨lw_p4, List.forall_mem_cons.mpr ⟨lw_p5, List.forall_mem_cons.mpr ⟨lw_p6, List.forall_mem_cons.mpr ⟨lw_p7, List.forall_mem_cons.mpr ⟨lw_p8, List.forall_mem_cons.mpr ⟨lw_p9, List.forall_mem_cons.mpr ⟨lw_p10, List.forall_mem_cons.mpr ⟨lw_p11, List.forall_mem_cons.mpr ⟨lw_p12, List.forall_mem_cons.mpr ⟨lw_p13, List.forall_mem_cons.mpr ⟨lw_p14, List.forall_mem_cons.mpr ⟨lw_p15, fun _ h => absurd h List.not_mem_nil⟩⟩⟩⟩⟩⟩⟩⟩⟩⟩⟩⟩⟩⟩⟩⟩
theorem lw_p16 : lw_okq (⟨"DecisionArrays$Rules", "bearingOf", "(II)J"⟩, 9) := ⟨⟨by decide +kernel, by decide +kernel⟩, List.mem_of_getElem? (i := 164) (by decide +kernel), List.mem_of_getElem? (i := 687) (by decide +kernel), List.mem_of_getElem? (i := 688) (by decide +kernel)⟩
theorem lw_p17 : lw_okq (⟨"DecisionArrays$Rules", "adjust", "(IJJ)V"⟩, 9) := ⟨⟨by decide +kernel, by decide +kernel⟩, List.mem_of_getElem? (i := 164) (by decide +kernel), List.mem_of_getElem? (i := 691) (by decide +kernel), List.mem_of_getElem? (i := 692) (by decide +kernel)⟩
theorem lw_p18 : lw_okq (⟨"DecisionArraysModel", "fails", "(I)I"⟩, 37) := ⟨⟨by decide +kernel, by decide +kernel⟩, List.mem_of_getElem? (i := 730) (by decide +kernel), List.mem_of_getElem? (i := 856) (by decide +kernel), List.mem_of_getElem? (i := 857) (by decide +kernel)⟩
theorem lw_p19 : lw_okq (⟨"DecisionArraysModel", "fine", "(I)I"⟩, 37) := ⟨⟨by decide +kernel, by decide +kernel⟩, List.mem_of_getElem? (i := 730) (by decide +kernel), List.mem_of_getElem? (i := 863) (by decide +kernel), List.mem_of_getElem? (i := 864) (by decide +kernel)⟩
theorem lw_p20 : lw_okq (⟨"DecisionArraysModel", "isRoom", "(IJ)Z"⟩, 37) := ⟨⟨by decide +kernel, by decide +kernel⟩, List.mem_of_getElem? (i := 730) (by decide +kernel), List.mem_of_getElem? (i := 875) (by decide +kernel), List.mem_of_getElem? (i := 876) (by decide +kernel)⟩
theorem lw_p21 : lw_okq (⟨"DecisionArraysModel", "make", "(IIII)I"⟩, 37) := ⟨⟨by decide +kernel, by decide +kernel⟩, List.mem_of_getElem? (i := 730) (by decide +kernel), List.mem_of_getElem? (i := 880) (by decide +kernel), List.mem_of_getElem? (i := 881) (by decide +kernel)⟩
theorem lw_p22 : lw_okq (⟨"DecisionArraysModel", "isArray", "(I)Z"⟩, 37) := ⟨⟨by decide +kernel, by decide +kernel⟩, List.mem_of_getElem? (i := 730) (by decide +kernel), List.mem_of_getElem? (i := 894) (by decide +kernel), List.mem_of_getElem? (i := 895) (by decide +kernel)⟩
theorem lw_p23 : lw_okq (⟨"DecisionArraysModel", "follow", "(IIIII)I"⟩, 37) := ⟨⟨by decide +kernel, by decide +kernel⟩, List.mem_of_getElem? (i := 730) (by decide +kernel), List.mem_of_getElem? (i := 922) (by decide +kernel), List.mem_of_getElem? (i := 923) (by decide +kernel)⟩
theorem lw_p24 : lw_okq (⟨"DecisionArraysModel", "here", "()I"⟩, 37) := ⟨⟨by decide +kernel, by decide +kernel⟩, List.mem_of_getElem? (i := 730) (by decide +kernel), List.mem_of_getElem? (i := 926) (by decide +kernel), List.mem_of_getElem? (i := 927) (by decide +kernel)⟩
theorem lw_p25 : lw_okq (⟨"DecisionArraysModel", "takes", "(IJ)Z"⟩, 37) := ⟨⟨by decide +kernel, by decide +kernel⟩, List.mem_of_getElem? (i := 730) (by decide +kernel), List.mem_of_getElem? (i := 970) (by decide +kernel), List.mem_of_getElem? (i := 971) (by decide +kernel)⟩
theorem lw_p26 : lw_okq (⟨"DecisionArraysModel", "copyOne", "(I)I"⟩, 37) := ⟨⟨by decide +kernel, by decide +kernel⟩, List.mem_of_getElem? (i := 730) (by decide +kernel), List.mem_of_getElem? (i := 1002) (by decide +kernel), List.mem_of_getElem? (i := 1003) (by decide +kernel)⟩
theorem lw_p27 : lw_okq (⟨"DecisionArraysModel", "isSame", "(II)Z"⟩, 37) := ⟨⟨by decide +kernel, by decide +kernel⟩, List.mem_of_getElem? (i := 730) (by decide +kernel), List.mem_of_getElem? (i := 1021) (by decide +kernel), List.mem_of_getElem? (i := 1022) (by decide +kernel)⟩
theorem lw_p28 : lw_okq (⟨"DecisionArraysModel", "hashOf", "(I)I"⟩, 37) := ⟨⟨by decide +kernel, by decide +kernel⟩, List.mem_of_getElem? (i := 730) (by decide +kernel), List.mem_of_getElem? (i := 1029) (by decide +kernel), List.mem_of_getElem? (i := 1030) (by decide +kernel)⟩
theorem lw_p29 : lw_okq (⟨"DecisionArraysModel", "isDecision", "(I)Z"⟩, 37) := ⟨⟨by decide +kernel, by decide +kernel⟩, List.mem_of_getElem? (i := 730) (by decide +kernel), List.mem_of_getElem? (i := 1041) (by decide +kernel), List.mem_of_getElem? (i := 1042) (by decide +kernel)⟩
theorem lw_p30 : lw_okq (⟨"DecisionArraysModel", "candidateAt", "(IJ)I"⟩, 37) := ⟨⟨by decide +kernel, by decide +kernel⟩, List.mem_of_getElem? (i := 730) (by decide +kernel), List.mem_of_getElem? (i := 1045) (by decide +kernel), List.mem_of_getElem? (i := 1046) (by decide +kernel)⟩
theorem lw_p31 : lw_okq (⟨"DecisionArraysModel", "elementOf", "(I)I"⟩, 37) := ⟨⟨by decide +kernel, by decide +kernel⟩, List.mem_of_getElem? (i := 730) (by decide +kernel), List.mem_of_getElem? (i := 1057) (by decide +kernel), List.mem_of_getElem? (i := 1058) (by decide +kernel)⟩
def lw_privs_2 : List (MethodName × Nat) := [(⟨"DecisionArrays$Rules", "bearingOf", "(II)J"⟩, 9), (⟨"DecisionArrays$Rules", "adjust", "(IJJ)V"⟩, 9), (⟨"DecisionArraysModel", "fails", "(I)I"⟩, 37), (⟨"DecisionArraysModel", "fine", "(I)I"⟩, 37), (⟨"DecisionArraysModel", "isRoom", "(IJ)Z"⟩, 37), (⟨"DecisionArraysModel", "make", "(IIII)I"⟩, 37), (⟨"DecisionArraysModel", "isArray", "(I)Z"⟩, 37), (⟨"DecisionArraysModel", "follow", "(IIIII)I"⟩, 37), (⟨"DecisionArraysModel", "here", "()I"⟩, 37), (⟨"DecisionArraysModel", "takes", "(IJ)Z"⟩, 37), (⟨"DecisionArraysModel", "copyOne", "(I)I"⟩, 37), (⟨"DecisionArraysModel", "isSame", "(II)Z"⟩, 37), (⟨"DecisionArraysModel", "hashOf", "(I)I"⟩, 37), (⟨"DecisionArraysModel", "isDecision", "(I)Z"⟩, 37), (⟨"DecisionArraysModel", "candidateAt", "(IJ)I"⟩, 37), (⟨"DecisionArraysModel", "elementOf", "(I)I"⟩, 37)]
theorem lw_r2 : ∀ q ∈ lw_privs_2, lw_okq q := List.forall_mem_cons.mpr ⟨lw_p16, List.forall_mem_cons.mpr ⟨lw_p17, List.forall_mem_cons.mpr ⟨lw_p18, List.forall_mem_cons.mpr ⟨lw_p19, List.forall_mem_cons.mpr ⟨lw_p20, List.forall_mem_cons.mpr ⟨lw_p21, List.forall_mem_cons.mpr ⟨lw_p22, List.forall_mem_cons.mpr ⟨lw_p23, List.forall_mem_cons.mpr ⟨lw_p24, List.forall_mem_cons.mpr ⟨lw_p25, List.forall_mem_cons.mpr ⟨lw_p26, List.forall_mem_cons.mpr ⟨lw_p27, List.forall_mem_cons.mpr ⟨lw_p28, List.forall_mem_cons.mpr ⟨lw_p29, List.forall_mem_cons.mpr ⟨lw_p30, List.forall_mem_cons.mpr ⟨lw_p31, fun _ h => absurd h List.not_mem_nil⟩⟩⟩⟩⟩⟩⟩⟩⟩⟩⟩⟩⟩⟩⟩⟩
theorem lw_p32 : lw_okq (⟨"DecisionArraysModel", "amountOf", "(I)J"⟩, 37) := ⟨⟨by decide +kernel, by decide +kernel⟩, List.mem_of_getElem? (i := 730) (by decide +kernel), List.mem_of_getElem? (i := 1079) (by decide +kernel), List.mem_of_getElem? (i := 1080) (by decide +kernel)⟩
theorem lw_p33 : lw_okq (⟨"DecisionArraysModel", "ways", "()I"⟩, 37) := ⟨⟨by decide +kernel, by decide +kernel⟩, List.mem_of_getElem? (i := 730) (by decide +kernel), List.mem_of_getElem? (i := 1107) (by decide +kernel), List.mem_of_getElem? (i := 1108) (by decide +kernel)⟩
theorem lw_p34 : lw_okq (⟨"DecisionArraysModel", "choices", "(I)I"⟩, 37) := ⟨⟨by decide +kernel, by decide +kernel⟩, List.mem_of_getElem? (i := 730) (by decide +kernel), List.mem_of_getElem? (i := 1111) (by decide +kernel), List.mem_of_getElem? (i := 1112) (by decide +kernel)⟩
theorem lw_p35 : lw_okq (⟨"DecisionArraysModel", "lay", "(II)V"⟩, 37) := ⟨⟨by decide +kernel, by decide +kernel⟩, List.mem_of_getElem? (i := 730) (by decide +kernel), List.mem_of_getElem? (i := 1117) (by decide +kernel), List.mem_of_getElem? (i := 1118) (by decide +kernel)⟩
def lw_privs_3 : List (MethodName × Nat) := [(⟨"DecisionArraysModel", "amountOf", "(I)J"⟩, 37), (⟨"DecisionArraysModel", "ways", "()I"⟩, 37), (⟨"DecisionArraysModel", "choices", "(I)I"⟩, 37), (⟨"DecisionArraysModel", "lay", "(II)V"⟩, 37)]
theorem lw_r3 : ∀ q ∈ lw_privs_3, lw_okq q := List.forall_mem_cons.mpr ⟨lw_p32, List.forall_mem_cons.mpr ⟨lw_p33, List.forall_mem_cons.mpr ⟨lw_p34, List.forall_mem_cons.mpr ⟨lw_p35, fun _ h => absurd h List.not_mem_nil⟩⟩⟩⟩
def lw_privs : List (MethodName × Nat) := lw_privs_1 ++ (lw_privs_2 ++ (lw_privs_3))
def lw_tbl : List Cond := k2_sels lw_privs ++ tables_1
theorem lw_privs_ok : ∀ q ∈ lw_privs, lw_okq q := by
  show ∀ q ∈ lw_privs_1 ++ (lw_privs_2 ++ (lw_privs_3)), lw_okq q
  exact List.forall_mem_append.mpr ⟨lw_r1, List.forall_mem_append.mpr ⟨lw_r2, lw_r3⟩⟩

def RX0 : String := "DecisionArrays$Choices"
def TX0 : u_T := fun k => match k with
  | 0 => ("DecisionArrays$Choices", "store", "LDecisionArrays$Store;", true)
  | 1 => ("DecisionArrays$Choices", "made", "I", false)
  | 2 => ("DecisionArrays$Choices", "places", "[I", true)
  | 3 => ("DecisionArrays$Choices", "slots", "[I", true)
  | 4 => ("DecisionArrays$Choices", "counts", "[I", true)
  | 5 => ("DecisionArrays$Choices", "candidates", "[J", true)
  | _ => ("DecisionArrays$Choices", "turns", "[I", true)
def tyX0 : Nat → FieldType := fun k => match k with
  | 0 => .object "DecisionArrays$Store"
  | 1 => .int
  | 2 => .array .int
  | 3 => .array .int
  | 4 => .array .int
  | 5 => .array .long
  | _ => .array .int
theorem nmX0 : ∀ a, a < 7 → ∀ b, b < 7 → a ≠ b → (TX0 a).2.1 ≠ (TX0 b).2.1 := by decide +kernel
theorem tyX0_ok : ∀ k, k < 7 → parseFieldDescriptor (TX0 k).2.2.1 = some (tyX0 k) := by decide +kernel
def RX2 : String := "DecisionArrays$Likeness"
def TX2 : u_T := fun k => match k with
  | 0 => ("DecisionArrays$Likeness", "store", "LDecisionArrays$Store;", true)
  | 1 => ("DecisionArrays$Likeness", "round", "I", false)
  | 2 => ("DecisionArrays$Likeness", "agreed", "[I", true)
  | 3 => ("DecisionArrays$Likeness", "digested", "[I", true)
  | _ => ("DecisionArrays$Likeness", "digests", "[I", true)
def tyX2 : Nat → FieldType := fun k => match k with
  | 0 => .object "DecisionArrays$Store"
  | 1 => .int
  | 2 => .array .int
  | 3 => .array .int
  | _ => .array .int
theorem nmX2 : ∀ a, a < 5 → ∀ b, b < 5 → a ≠ b → (TX2 a).2.1 ≠ (TX2 b).2.1 := by decide +kernel
theorem tyX2_ok : ∀ k, k < 5 → parseFieldDescriptor (TX2 k).2.2.1 = some (tyX2 k) := by decide +kernel
def RX3 : String := "DecisionArrays$Maker"
def TX3 : u_T := fun k => match k with
  | 0 => ("DecisionArrays$Maker", "store", "LDecisionArrays$Store;", true)
  | 1 => ("DecisionArrays$Maker", "lengths", "[I", true)
  | 2 => ("DecisionArrays$Maker", "planArrays", "I", false)
  | _ => ("DecisionArrays$Maker", "planElements", "I", false)
def tyX3 : Nat → FieldType := fun k => match k with
  | 0 => .object "DecisionArrays$Store"
  | 1 => .array .int
  | 2 => .int
  | _ => .int
theorem nmX3 : ∀ a, a < 4 → ∀ b, b < 4 → a ≠ b → (TX3 a).2.1 ≠ (TX3 b).2.1 := by decide +kernel
theorem tyX3_ok : ∀ k, k < 4 → parseFieldDescriptor (TX3 k).2.2.1 = some (tyX3 k) := by decide +kernel
def RX4 : String := "DecisionArrays$Mark"
def TX4 : u_T := fun k => match k with
  | 0 => ("DecisionArrays$Mark", "bits", "[J", true)
  | 1 => ("DecisionArrays$Mark", "pinned", "[Z", true)
  | _ => ("DecisionArrays$Mark", "used", "I", false)
def tyX4 : Nat → FieldType := fun k => match k with
  | 0 => .array .long
  | 1 => .array .boolean
  | _ => .int
theorem nmX4 : ∀ a, a < 3 → ∀ b, b < 3 → a ≠ b → (TX4 a).2.1 ≠ (TX4 b).2.1 := by decide +kernel
theorem tyX4_ok : ∀ k, k < 3 → parseFieldDescriptor (TX4 k).2.2.1 = some (tyX4 k) := by decide +kernel
def RX5 : String := "DecisionArrays$Rules"
def TX5 : u_T := fun k => match k with
  | 0 => ("DecisionArrays$Rules", "store", "LDecisionArrays$Store;", true)
  | 1 => ("DecisionArrays$Rules", "made", "I", false)
  | 2 => ("DecisionArrays$Rules", "sorts", "[I", true)
  | 3 => ("DecisionArrays$Rules", "judged", "[I", true)
  | 4 => ("DecisionArrays$Rules", "weights", "[I", true)
  | 5 => ("DecisionArrays$Rules", "lows", "[J", true)
  | 6 => ("DecisionArrays$Rules", "highs", "[J", true)
  | 7 => ("DecisionArrays$Rules", "tallies", "[J", true)
  | _ => ("DecisionArrays$Rules", "borne", "[J", true)
def tyX5 : Nat → FieldType := fun k => match k with
  | 0 => .object "DecisionArrays$Store"
  | 1 => .int
  | 2 => .array .int
  | 3 => .array .int
  | 4 => .array .int
  | 5 => .array .long
  | 6 => .array .long
  | 7 => .array .long
  | _ => .array .long
theorem nmX5 : ∀ a, a < 9 → ∀ b, b < 9 → a ≠ b → (TX5 a).2.1 ≠ (TX5 b).2.1 := by decide +kernel
theorem tyX5_ok : ∀ k, k < 9 → parseFieldDescriptor (TX5 k).2.2.1 = some (tyX5 k) := by decide +kernel
def RX6 : String := "DecisionArrays$Store"
def TX6 : u_T := fun k => match k with
  | 0 => ("DecisionArrays$Store", "arrays", "I", false)
  | 1 => ("DecisionArrays$Store", "used", "I", false)
  | 2 => ("DecisionArrays$Store", "kind", "[I", true)
  | 3 => ("DecisionArrays$Store", "depth", "[I", true)
  | 4 => ("DecisionArrays$Store", "cls", "[I", true)
  | 5 => ("DecisionArrays$Store", "start", "[I", true)
  | 6 => ("DecisionArrays$Store", "length", "[I", true)
  | 7 => ("DecisionArrays$Store", "bits", "[J", true)
  | 8 => ("DecisionArrays$Store", "pinned", "[Z", true)
  | _ => ("DecisionArrays$Store", "before", "[J", true)
def tyX6 : Nat → FieldType := fun k => match k with
  | 0 => .int
  | 1 => .int
  | 2 => .array .int
  | 3 => .array .int
  | 4 => .array .int
  | 5 => .array .int
  | 6 => .array .int
  | 7 => .array .long
  | 8 => .array .boolean
  | _ => .array .long
theorem nmX6 : ∀ a, a < 10 → ∀ b, b < 10 → a ≠ b → (TX6 a).2.1 ≠ (TX6 b).2.1 := by decide +kernel
theorem tyX6_ok : ∀ k, k < 10 → parseFieldDescriptor (TX6 k).2.2.1 = some (tyX6 k) := by decide +kernel
def RX7 : String := "DecisionArrays"
def TX7 : u_T := fun k => match k with
  | 0 => ("DecisionArrays", "store", "LDecisionArrays$Store;", true)
  | 1 => ("DecisionArrays", "maker", "LDecisionArrays$Maker;", true)
  | 2 => ("DecisionArrays", "likeness", "LDecisionArrays$Likeness;", true)
  | 3 => ("DecisionArrays", "choices", "LDecisionArrays$Choices;", true)
  | 4 => ("DecisionArrays", "rules", "LDecisionArrays$Rules;", true)
  | 5 => ("DecisionArrays", "marks", "[LDecisionArrays$Mark;", true)
  | 6 => ("DecisionArrays", "marked", "I", false)
  | _ => ("DecisionArrays", "latest", "I", false)
def tyX7 : Nat → FieldType := fun k => match k with
  | 0 => .object "DecisionArrays$Store"
  | 1 => .object "DecisionArrays$Maker"
  | 2 => .object "DecisionArrays$Likeness"
  | 3 => .object "DecisionArrays$Choices"
  | 4 => .object "DecisionArrays$Rules"
  | 5 => .array (.object "DecisionArrays$Mark")
  | 6 => .int
  | _ => .int
theorem nmX7 : ∀ a, a < 8 → ∀ b, b < 8 → a ≠ b → (TX7 a).2.1 ≠ (TX7 b).2.1 := by decide +kernel
theorem tyX7_ok : ∀ k, k < 8 → parseFieldDescriptor (TX7 k).2.2.1 = some (tyX7 k) := by decide +kernel
def RX8 : String := "DecisionArraysModel"
def TX8 : u_T := fun k => match k with
  | 0 => ("DecisionArraysModel", "arrays", "I", false)
  | 1 => ("DecisionArraysModel", "elements", "I", false)
  | 2 => ("DecisionArraysModel", "kindOf", "[I", true)
  | 3 => ("DecisionArraysModel", "depthOf", "[I", true)
  | 4 => ("DecisionArraysModel", "lengthOf", "[I", true)
  | 5 => ("DecisionArraysModel", "classOf", "[I", true)
  | 6 => ("DecisionArraysModel", "baseOf", "[I", true)
  | 7 => ("DecisionArraysModel", "bits", "[J", true)
  | 8 => ("DecisionArraysModel", "pinned", "[Z", true)
  | 9 => ("DecisionArraysModel", "code", "I", false)
  | 10 => ("DecisionArraysModel", "lengths", "[I", true)
  | 11 => ("DecisionArraysModel", "stackArray", "[I", true)
  | 12 => ("DecisionArraysModel", "stackOther", "[I", true)
  | 13 => ("DecisionArraysModel", "stackAt", "[I", true)
  | 14 => ("DecisionArraysModel", "lastArray", "I", false)
  | 15 => ("DecisionArraysModel", "lastPlace", "I", false)
  | 16 => ("DecisionArraysModel", "path", "[I", true)
  | 17 => ("DecisionArraysModel", "held", "[J", true)
  | 18 => ("DecisionArraysModel", "alike", "[Z", true)
  | 19 => ("DecisionArraysModel", "hashes", "[I", true)
  | 20 => ("DecisionArraysModel", "decisions", "I", false)
  | 21 => ("DecisionArraysModel", "decisionArray", "[I", true)
  | 22 => ("DecisionArraysModel", "decisionPlace", "[I", true)
  | 23 => ("DecisionArraysModel", "candidateMany", "[I", true)
  | 24 => ("DecisionArraysModel", "candidates", "[J", true)
  | 25 => ("DecisionArraysModel", "rules", "I", false)
  | 26 => ("DecisionArraysModel", "ruleSort", "[I", true)
  | 27 => ("DecisionArraysModel", "ruleArray", "[I", true)
  | 28 => ("DecisionArraysModel", "ruleWeight", "[I", true)
  | 29 => ("DecisionArraysModel", "ruleLow", "[J", true)
  | 30 => ("DecisionArraysModel", "ruleHigh", "[J", true)
  | 31 => ("DecisionArraysModel", "chosen", "[I", true)
  | 32 => ("DecisionArraysModel", "bestOf", "[I", true)
  | 33 => ("DecisionArraysModel", "marks", "I", false)
  | 34 => ("DecisionArraysModel", "markElements", "[I", true)
  | 35 => ("DecisionArraysModel", "markBits", "[J", true)
  | _ => ("DecisionArraysModel", "markPins", "[Z", true)
def tyX8 : Nat → FieldType := fun k => match k with
  | 0 => .int
  | 1 => .int
  | 2 => .array .int
  | 3 => .array .int
  | 4 => .array .int
  | 5 => .array .int
  | 6 => .array .int
  | 7 => .array .long
  | 8 => .array .boolean
  | 9 => .int
  | 10 => .array .int
  | 11 => .array .int
  | 12 => .array .int
  | 13 => .array .int
  | 14 => .int
  | 15 => .int
  | 16 => .array .int
  | 17 => .array .long
  | 18 => .array .boolean
  | 19 => .array .int
  | 20 => .int
  | 21 => .array .int
  | 22 => .array .int
  | 23 => .array .int
  | 24 => .array .long
  | 25 => .int
  | 26 => .array .int
  | 27 => .array .int
  | 28 => .array .int
  | 29 => .array .long
  | 30 => .array .long
  | 31 => .array .int
  | 32 => .array .int
  | 33 => .int
  | 34 => .array .int
  | 35 => .array .long
  | _ => .array .boolean
theorem nmX8 : ∀ a, a < 37 → ∀ b, b < 37 → a ≠ b → (TX8 a).2.1 ≠ (TX8 b).2.1 := by decide +kernel
theorem tyX8_ok : ∀ k, k < 37 → parseFieldDescriptor (TX8 k).2.2.1 = some (tyX8 k) := by decide +kernel
def RX1 : String := "DecisionArrays$Kinds"
def RL : String := "DecisionArraysLaw"
abbrev cX0_init : ByteArray := prog_2_method_1_code
def yX0_init : MethodName := ⟨RX0, "<init>", "(LDecisionArrays$Store;)V"⟩
abbrev cX0_has : ByteArray := prog_2_method_2_code
def yX0_has : MethodName := ⟨RX0, "has", "(I)Z"⟩
abbrev cX0_hasCandidate : ByteArray := prog_2_method_3_code
def yX0_hasCandidate : MethodName := ⟨RX0, "hasCandidate", "(II)Z"⟩
abbrev cX0_at : ByteArray := prog_2_method_4_code
def yX0_at : MethodName := ⟨RX0, "at", "(I)I"⟩
abbrev cX0_add : ByteArray := prog_2_method_5_code
def yX0_add : MethodName := ⟨RX0, "add", "(I)I"⟩
abbrev cX0_arrayOf : ByteArray := prog_2_method_6_code
def yX0_arrayOf : MethodName := ⟨RX0, "arrayOf", "(I)I"⟩
abbrev cX0_kindOf : ByteArray := prog_2_method_7_code
def yX0_kindOf : MethodName := ⟨RX0, "kindOf", "(I)I"⟩
abbrev cX0_candidateAt : ByteArray := prog_2_method_8_code
def yX0_candidateAt : MethodName := ⟨RX0, "candidateAt", "(II)J"⟩
abbrev cX0_indexOf : ByteArray := prog_2_method_9_code
def yX0_indexOf : MethodName := ⟨RX0, "indexOf", "(IJ)I"⟩
abbrev cX0_append : ByteArray := prog_2_method_10_code
def yX0_append : MethodName := ⟨RX0, "append", "(IJ)V"⟩
abbrev cX0_appendSpan : ByteArray := prog_2_method_11_code
def yX0_appendSpan : MethodName := ⟨RX0, "appendSpan", "(IJJJ)Z"⟩
abbrev cX0_isFree : ByteArray := prog_2_method_12_code
def yX0_isFree : MethodName := ⟨RX0, "isFree", "(I)Z"⟩
abbrev cX0_ways : ByteArray := prog_2_method_13_code
def yX0_ways : MethodName := ⟨RX0, "ways", "()I"⟩
abbrev cX0_takeWay : ByteArray := prog_2_method_14_code
def yX0_takeWay : MethodName := ⟨RX0, "takeWay", "(I)V"⟩
abbrev cX0_takeNext : ByteArray := prog_2_method_15_code
def yX0_takeNext : MethodName := ⟨RX0, "takeNext", "(LDecisionArrays$Rules;)V"⟩
abbrev cX1_isKind : ByteArray := prog_3_method_2_code
def yX1_isKind : MethodName := ⟨RX1, "isKind", "(I)Z"⟩
abbrev cX1_holds : ByteArray := prog_3_method_3_code
def yX1_holds : MethodName := ⟨RX1, "holds", "(IJ)Z"⟩
abbrev cX1_isNoNumber : ByteArray := prog_3_method_4_code
def yX1_isNoNumber : MethodName := ⟨RX1, "isNoNumber", "(IJ)Z"⟩
abbrev cX1_cleaned : ByteArray := prog_3_method_5_code
def yX1_cleaned : MethodName := ⟨RX1, "cleaned", "(IJ)J"⟩
abbrev cX1_reaches : ByteArray := prog_3_method_6_code
def yX1_reaches : MethodName := ⟨RX1, "reaches", "(II)Z"⟩
abbrev cX1_widened : ByteArray := prog_3_method_7_code
def yX1_widened : MethodName := ⟨RX1, "widened", "(IIJ)J"⟩
abbrev cX1_nearest : ByteArray := prog_3_method_8_code
def yX1_nearest : MethodName := ⟨RX1, "nearest", "(JII)J"⟩
abbrev cX1_doubleOfFloat : ByteArray := prog_3_method_9_code
def yX1_doubleOfFloat : MethodName := ⟨RX1, "doubleOfFloat", "(J)J"⟩
abbrev cX1_topBit : ByteArray := prog_3_method_10_code
def yX1_topBit : MethodName := ⟨RX1, "topBit", "(J)I"⟩
abbrev cX1_rank : ByteArray := prog_3_method_11_code
def yX1_rank : MethodName := ⟨RX1, "rank", "(IJ)J"⟩
abbrev cX1_number : ByteArray := prog_3_method_12_code
def yX1_number : MethodName := ⟨RX1, "number", "(IJ)J"⟩
abbrev cX1_towardsZero : ByteArray := prog_3_method_13_code
def yX1_towardsZero : MethodName := ⟨RX1, "towardsZero", "(ZIJI)J"⟩
abbrev cX1_alike : ByteArray := prog_3_method_14_code
def yX1_alike : MethodName := ⟨RX1, "alike", "(IJJ)Z"⟩
abbrev cX1_hashOf : ByteArray := prog_3_method_15_code
def yX1_hashOf : MethodName := ⟨RX1, "hashOf", "(IJ)I"⟩
abbrev cX2_init : ByteArray := prog_4_method_1_code
def yX2_init : MethodName := ⟨RX2, "<init>", "(LDecisionArrays$Store;)V"⟩
abbrev cX2_agree : ByteArray := prog_4_method_2_code
def yX2_agree : MethodName := ⟨RX2, "agree", "(II)Z"⟩
abbrev cX2_agreeAt : ByteArray := prog_4_method_3_code
def yX2_agreeAt : MethodName := ⟨RX2, "agreeAt", "(III)Z"⟩
abbrev cX2_rowsAgree : ByteArray := prog_4_method_4_code
def yX2_rowsAgree : MethodName := ⟨RX2, "rowsAgree", "(III)Z"⟩
abbrev cX2_sameShape : ByteArray := prog_4_method_5_code
def yX2_sameShape : MethodName := ⟨RX2, "sameShape", "(II)Z"⟩
abbrev cX2_digest : ByteArray := prog_4_method_6_code
def yX2_digest : MethodName := ⟨RX2, "digest", "(I)I"⟩
abbrev cX2_digestAt : ByteArray := prog_4_method_7_code
def yX2_digestAt : MethodName := ⟨RX2, "digestAt", "(II)I"⟩
abbrev cX3_init : ByteArray := prog_5_method_1_code
def yX3_init : MethodName := ⟨RX3, "<init>", "(LDecisionArrays$Store;)V"⟩
abbrev cX3_tellLengths : ByteArray := prog_5_method_2_code
def yX3_tellLengths : MethodName := ⟨RX3, "tellLengths", "(IIII)V"⟩
abbrev cX3_hasLengthBelowZero : ByteArray := prog_5_method_3_code
def yX3_hasLengthBelowZero : MethodName := ⟨RX3, "hasLengthBelowZero", "(I)Z"⟩
abbrev cX3_gridFits : ByteArray := prog_5_method_4_code
def yX3_gridFits : MethodName := ⟨RX3, "gridFits", "(I)Z"⟩
abbrev cX3_makeGrid : ByteArray := prog_5_method_5_code
def yX3_makeGrid : MethodName := ⟨RX3, "makeGrid", "(II)I"⟩
abbrev cX3_gridAt : ByteArray := prog_5_method_6_code
def yX3_gridAt : MethodName := ⟨RX3, "gridAt", "(III)I"⟩
abbrev cX3_twinFits : ByteArray := prog_5_method_7_code
def yX3_twinFits : MethodName := ⟨RX3, "twinFits", "(I)Z"⟩
abbrev cX3_plan : ByteArray := prog_5_method_8_code
def yX3_plan : MethodName := ⟨RX3, "plan", "(II)V"⟩
abbrev cX3_makeTwin : ByteArray := prog_5_method_9_code
def yX3_makeTwin : MethodName := ⟨RX3, "makeTwin", "(I)I"⟩
abbrev cX3_twinAt : ByteArray := prog_5_method_10_code
def yX3_twinAt : MethodName := ⟨RX3, "twinAt", "(II)I"⟩
abbrev cX4_init : ByteArray := prog_6_method_1_code
def yX4_init : MethodName := ⟨RX4, "<init>", "()V"⟩
abbrev cX4_keep : ByteArray := prog_6_method_2_code
def yX4_keep : MethodName := ⟨RX4, "keep", "(LDecisionArrays$Store;)V"⟩
abbrev cX4_bringBack : ByteArray := prog_6_method_3_code
def yX4_bringBack : MethodName := ⟨RX4, "bringBack", "(LDecisionArrays$Store;)V"⟩
abbrev cX5_init : ByteArray := prog_7_method_1_code
def yX5_init : MethodName := ⟨RX5, "<init>", "(LDecisionArrays$Store;)V"⟩
abbrev cX5_add : ByteArray := prog_7_method_2_code
def yX5_add : MethodName := ⟨RX5, "add", "(IIIJJ)I"⟩
abbrev cX5_total : ByteArray := prog_7_method_3_code
def yX5_total : MethodName := ⟨RX5, "total", "()J"⟩
abbrev cX5_amountOf : ByteArray := prog_7_method_4_code
def yX5_amountOf : MethodName := ⟨RX5, "amountOf", "(I)J"⟩
abbrev cX5_apart : ByteArray := prog_7_method_5_code
def yX5_apart : MethodName := ⟨RX5, "apart", "(JJ)J"⟩
abbrev cX5_measureAll : ByteArray := prog_7_method_6_code
def yX5_measureAll : MethodName := ⟨RX5, "measureAll", "()V"⟩
abbrev cX5_measure : ByteArray := prog_7_method_7_code
def yX5_measure : MethodName := ⟨RX5, "measure", "(I)V"⟩
abbrev cX5_shareOf : ByteArray := prog_7_method_8_code
def yX5_shareOf : MethodName := ⟨RX5, "shareOf", "(II)J"⟩
abbrev cX5_alikeIn : ByteArray := prog_7_method_9_code
def yX5_alikeIn : MethodName := ⟨RX5, "alikeIn", "(IJII)J"⟩
abbrev cX5_replace : ByteArray := prog_7_method_10_code
def yX5_replace : MethodName := ⟨RX5, "replace", "(IJ)V"⟩
abbrev cX5_adjust : ByteArray := prog_7_method_11_code
def yX5_adjust : MethodName := ⟨RX5, "adjust", "(IJJ)V"⟩
abbrev cX5_bearingOf : ByteArray := prog_7_method_12_code
def yX5_bearingOf : MethodName := ⟨RX5, "bearingOf", "(II)J"⟩
abbrev cX6_init : ByteArray := prog_8_method_1_code
def yX6_init : MethodName := ⟨RX6, "<init>", "()V"⟩
abbrev cX6_has : ByteArray := prog_8_method_2_code
def yX6_has : MethodName := ⟨RX6, "has", "(I)Z"⟩
abbrev cX6_fits : ByteArray := prog_8_method_3_code
def yX6_fits : MethodName := ⟨RX6, "fits", "(JJ)Z"⟩
abbrev cX6_add : ByteArray := prog_8_method_4_code
def yX6_add : MethodName := ⟨RX6, "add", "(IIII)I"⟩
abbrev cX6_hasPlace : ByteArray := prog_8_method_5_code
def yX6_hasPlace : MethodName := ⟨RX6, "hasPlace", "(II)Z"⟩
abbrev cX6_hasRange : ByteArray := prog_8_method_6_code
def yX6_hasRange : MethodName := ⟨RX6, "hasRange", "(III)Z"⟩
abbrev cX6_hasMany : ByteArray := prog_8_method_7_code
def yX6_hasMany : MethodName := ⟨RX6, "hasMany", "(III)Z"⟩
abbrev cX6_walk : ByteArray := prog_8_method_8_code
def yX6_walk : MethodName := ⟨RX6, "walk", "(IIIII)I"⟩
abbrev cX6_slotOf : ByteArray := prog_8_method_9_code
def yX6_slotOf : MethodName := ⟨RX6, "slotOf", "(I)I"⟩
abbrev cX6_takes : ByteArray := prog_8_method_10_code
def yX6_takes : MethodName := ⟨RX6, "takes", "(IJ)Z"⟩
abbrev cX6_isRowFor : ByteArray := prog_8_method_11_code
def yX6_isRowFor : MethodName := ⟨RX6, "isRowFor", "(II)Z"⟩
abbrev cX6_canMove : ByteArray := prog_8_method_12_code
def yX6_canMove : MethodName := ⟨RX6, "canMove", "(II)Z"⟩
abbrev cX6_takenOf : ByteArray := prog_8_method_13_code
def yX6_takenOf : MethodName := ⟨RX6, "takenOf", "(IIII)I"⟩
abbrev cX6_nullRows : ByteArray := prog_8_method_14_code
def yX6_nullRows : MethodName := ⟨RX6, "nullRows", "(I)I"⟩
abbrev cX6_pinnedIn : ByteArray := prog_8_method_15_code
def yX6_pinnedIn : MethodName := ⟨RX6, "pinnedIn", "(III)I"⟩
abbrev cX6_putInOrder : ByteArray := prog_8_method_16_code
def yX6_putInOrder : MethodName := ⟨RX6, "putInOrder", "(III)I"⟩
abbrev cX6_insert : ByteArray := prog_8_method_17_code
def yX6_insert : MethodName := ⟨RX6, "insert", "(III)V"⟩
abbrev cX6_halve : ByteArray := prog_8_method_18_code
def yX6_halve : MethodName := ⟨RX6, "halve", "(IJ)I"⟩
abbrev cX7_init : ByteArray := prog_1_method_1_code
def yX7_init : MethodName := ⟨RX7, "<init>", "()V"⟩
abbrev cX7_array : ByteArray := prog_1_method_2_code
def yX7_array : MethodName := ⟨RX7, "array", "(II)I"⟩
abbrev cX7_things : ByteArray := prog_1_method_3_code
def yX7_things : MethodName := ⟨RX7, "things", "(II)I"⟩
abbrev cX7_rows : ByteArray := prog_1_method_4_code
def yX7_rows : MethodName := ⟨RX7, "rows", "(II)I"⟩
abbrev cX7_grid : ByteArray := prog_1_method_5_code
def yX7_grid : MethodName := ⟨RX7, "grid", "(IIIIII)I"⟩
abbrev cX7_about : ByteArray := prog_1_method_6_code
def yX7_about : MethodName := ⟨RX7, "about", "(II)I"⟩
abbrev cX7_row : ByteArray := prog_1_method_7_code
def yX7_row : MethodName := ⟨RX7, "row", "(II)I"⟩
abbrev cX7_setRow : ByteArray := prog_1_method_8_code
def yX7_setRow : MethodName := ⟨RX7, "setRow", "(III)I"⟩
abbrev cX7_read : ByteArray := prog_1_method_9_code
def yX7_read : MethodName := ⟨RX7, "read", "(IIIIII)J"⟩
abbrev cX7_write : ByteArray := prog_1_method_10_code
def yX7_write : MethodName := ⟨RX7, "write", "(IIIIIIJ)I"⟩
abbrev cX7_place : ByteArray := prog_1_method_11_code
def yX7_place : MethodName := ⟨RX7, "place", "(IIIII)I"⟩
abbrev cX7_pin : ByteArray := prog_1_method_12_code
def yX7_pin : MethodName := ⟨RX7, "pin", "(IIIIIZ)I"⟩
abbrev cX7_column : ByteArray := prog_1_method_13_code
def yX7_column : MethodName := ⟨RX7, "column", "(II)I"⟩
abbrev cX7_code : ByteArray := prog_1_method_14_code
def yX7_code : MethodName := ⟨RX7, "code", "()I"⟩
abbrev cX7_widens : ByteArray := prog_1_method_15_code
def yX7_widens : MethodName := ⟨RX7, "widens", "(II)I"⟩
abbrev cX7_fill : ByteArray := prog_1_method_16_code
def yX7_fill : MethodName := ⟨RX7, "fill", "(IIIIJ)I"⟩
abbrev cX7_move : ByteArray := prog_1_method_17_code
def yX7_move : MethodName := ⟨RX7, "move", "(IIIII)I"⟩
abbrev cX7_copy : ByteArray := prog_1_method_18_code
def yX7_copy : MethodName := ⟨RX7, "copy", "(II)I"⟩
abbrev cX7_deep : ByteArray := prog_1_method_19_code
def yX7_deep : MethodName := ⟨RX7, "deep", "(I)I"⟩
abbrev cX7_sort : ByteArray := prog_1_method_20_code
def yX7_sort : MethodName := ⟨RX7, "sort", "(III)I"⟩
abbrev cX7_search : ByteArray := prog_1_method_21_code
def yX7_search : MethodName := ⟨RX7, "search", "(IJ)I"⟩
abbrev cX7_same : ByteArray := prog_1_method_22_code
def yX7_same : MethodName := ⟨RX7, "same", "(II)I"⟩
abbrev cX7_hash : ByteArray := prog_1_method_23_code
def yX7_hash : MethodName := ⟨RX7, "hash", "(I)I"⟩
abbrev cX7_decide : ByteArray := prog_1_method_24_code
def yX7_decide : MethodName := ⟨RX7, "decide", "(IIIII)I"⟩
abbrev cX7_candidate : ByteArray := prog_1_method_25_code
def yX7_candidate : MethodName := ⟨RX7, "candidate", "(IJ)I"⟩
abbrev cX7_span : ByteArray := prog_1_method_26_code
def yX7_span : MethodName := ⟨RX7, "span", "(IJJJ)I"⟩
abbrev cX7_choose : ByteArray := prog_1_method_27_code
def yX7_choose : MethodName := ⟨RX7, "choose", "(II)I"⟩
abbrev cX7_decision : ByteArray := prog_1_method_28_code
def yX7_decision : MethodName := ⟨RX7, "decision", "(II)I"⟩
abbrev cX7_candidateOf : ByteArray := prog_1_method_29_code
def yX7_candidateOf : MethodName := ⟨RX7, "candidateOf", "(II)J"⟩
abbrev cX7_rule : ByteArray := prog_1_method_30_code
def yX7_rule : MethodName := ⟨RX7, "rule", "(IIIJJ)I"⟩
abbrev cX7_amount : ByteArray := prog_1_method_31_code
def yX7_amount : MethodName := ⟨RX7, "amount", "(I)J"⟩
abbrev cX7_score : ByteArray := prog_1_method_32_code
def yX7_score : MethodName := ⟨RX7, "score", "()J"⟩
abbrev cX7_best : ByteArray := prog_1_method_33_code
def yX7_best : MethodName := ⟨RX7, "best", "()I"⟩
abbrev cX7_mark : ByteArray := prog_1_method_34_code
def yX7_mark : MethodName := ⟨RX7, "mark", "()I"⟩
abbrev cX7_back : ByteArray := prog_1_method_35_code
def yX7_back : MethodName := ⟨RX7, "back", "()I"⟩
abbrev cX7_count : ByteArray := prog_1_method_36_code
def yX7_count : MethodName := ⟨RX7, "count", "(I)I"⟩
abbrev cX7_fail : ByteArray := prog_1_method_37_code
def yX7_fail : MethodName := ⟨RX7, "fail", "(I)I"⟩
abbrev cX7_noBits : ByteArray := prog_1_method_38_code
def yX7_noBits : MethodName := ⟨RX7, "noBits", "(I)J"⟩
abbrev cX7_fine : ByteArray := prog_1_method_39_code
def yX7_fine : MethodName := ⟨RX7, "fine", "(I)I"⟩
abbrev cX7_newArray : ByteArray := prog_1_method_40_code
def yX7_newArray : MethodName := ⟨RX7, "newArray", "(IIII)I"⟩
abbrev cX7_rowCode : ByteArray := prog_1_method_41_code
def yX7_rowCode : MethodName := ⟨RX7, "rowCode", "(II)I"⟩
abbrev cX8_init : ByteArray := prog_10_method_1_code
def yX8_init : MethodName := ⟨RX8, "<init>", "()V"⟩
abbrev cX8_within : ByteArray := prog_10_method_3_code
def yX8_within : MethodName := ⟨RX8, "within", "(JJJ)Z"⟩
abbrev cX8_fails : ByteArray := prog_10_method_4_code
def yX8_fails : MethodName := ⟨RX8, "fails", "(I)I"⟩
abbrev cX8_fine : ByteArray := prog_10_method_5_code
def yX8_fine : MethodName := ⟨RX8, "fine", "(I)I"⟩
abbrev cX8_isArray : ByteArray := prog_10_method_6_code
def yX8_isArray : MethodName := ⟨RX8, "isArray", "(I)Z"⟩
abbrev cX8_isBits : ByteArray := prog_10_method_7_code
def yX8_isBits : MethodName := ⟨RX8, "isBits", "(IJ)Z"⟩
abbrev cX8_isNone : ByteArray := prog_10_method_8_code
def yX8_isNone : MethodName := ⟨RX8, "isNone", "(IJ)Z"⟩
abbrev cX8_plain : ByteArray := prog_10_method_9_code
def yX8_plain : MethodName := ⟨RX8, "plain", "(IJ)J"⟩
abbrev cX8_isWider : ByteArray := prog_10_method_10_code
def yX8_isWider : MethodName := ⟨RX8, "isWider", "(II)Z"⟩
abbrev cX8_real : ByteArray := prog_10_method_11_code
def yX8_real : MethodName := ⟨RX8, "real", "(JII)J"⟩
abbrev cX8_floatToDouble : ByteArray := prog_10_method_12_code
def yX8_floatToDouble : MethodName := ⟨RX8, "floatToDouble", "(J)J"⟩
abbrev cX8_widened : ByteArray := prog_10_method_13_code
def yX8_widened : MethodName := ⟨RX8, "widened", "(IIJ)J"⟩
abbrev cX8_whole : ByteArray := prog_10_method_14_code
def yX8_whole : MethodName := ⟨RX8, "whole", "(J)J"⟩
abbrev cX8_sumNumber : ByteArray := prog_10_method_15_code
def yX8_sumNumber : MethodName := ⟨RX8, "sumNumber", "(IJ)J"⟩
abbrev cX8_orderNumber : ByteArray := prog_10_method_16_code
def yX8_orderNumber : MethodName := ⟨RX8, "orderNumber", "(IJ)J"⟩
abbrev cX8_widens : ByteArray := prog_10_method_17_code
def yX8_widens : MethodName := ⟨RX8, "widens", "(II)I"⟩
abbrev cX8_code : ByteArray := prog_10_method_18_code
def yX8_code : MethodName := ⟨RX8, "code", "()I"⟩
abbrev cX8_isRoom : ByteArray := prog_10_method_19_code
def yX8_isRoom : MethodName := ⟨RX8, "isRoom", "(IJ)Z"⟩
abbrev cX8_make : ByteArray := prog_10_method_20_code
def yX8_make : MethodName := ⟨RX8, "make", "(IIII)I"⟩
abbrev cX8_array : ByteArray := prog_10_method_21_code
def yX8_array : MethodName := ⟨RX8, "array", "(II)I"⟩
abbrev cX8_things : ByteArray := prog_10_method_22_code
def yX8_things : MethodName := ⟨RX8, "things", "(II)I"⟩
abbrev cX8_rows : ByteArray := prog_10_method_23_code
def yX8_rows : MethodName := ⟨RX8, "rows", "(II)I"⟩
abbrev cX8_grid : ByteArray := prog_10_method_24_code
def yX8_grid : MethodName := ⟨RX8, "grid", "(IIIIII)I"⟩
abbrev cX8_about : ByteArray := prog_10_method_25_code
def yX8_about : MethodName := ⟨RX8, "about", "(II)I"⟩
abbrev cX8_row : ByteArray := prog_10_method_26_code
def yX8_row : MethodName := ⟨RX8, "row", "(II)I"⟩
abbrev cX8_setRow : ByteArray := prog_10_method_27_code
def yX8_setRow : MethodName := ⟨RX8, "setRow", "(III)I"⟩
abbrev cX8_follow : ByteArray := prog_10_method_28_code
def yX8_follow : MethodName := ⟨RX8, "follow", "(IIIII)I"⟩
abbrev cX8_here : ByteArray := prog_10_method_29_code
def yX8_here : MethodName := ⟨RX8, "here", "()I"⟩
abbrev cX8_read : ByteArray := prog_10_method_30_code
def yX8_read : MethodName := ⟨RX8, "read", "(IIIIII)J"⟩
abbrev cX8_takes : ByteArray := prog_10_method_31_code
def yX8_takes : MethodName := ⟨RX8, "takes", "(IJ)Z"⟩
abbrev cX8_write : ByteArray := prog_10_method_32_code
def yX8_write : MethodName := ⟨RX8, "write", "(IIIIIIJ)I"⟩
abbrev cX8_place : ByteArray := prog_10_method_33_code
def yX8_place : MethodName := ⟨RX8, "place", "(IIIII)I"⟩
abbrev cX8_pin : ByteArray := prog_10_method_34_code
def yX8_pin : MethodName := ⟨RX8, "pin", "(IIIIIZ)I"⟩
abbrev cX8_column : ByteArray := prog_10_method_35_code
def yX8_column : MethodName := ⟨RX8, "column", "(II)I"⟩
abbrev cX8_fill : ByteArray := prog_10_method_36_code
def yX8_fill : MethodName := ⟨RX8, "fill", "(IIIIJ)I"⟩
abbrev cX8_move : ByteArray := prog_10_method_37_code
def yX8_move : MethodName := ⟨RX8, "move", "(IIIII)I"⟩
abbrev cX8_copy : ByteArray := prog_10_method_38_code
def yX8_copy : MethodName := ⟨RX8, "copy", "(II)I"⟩
abbrev cX8_copyOne : ByteArray := prog_10_method_39_code
def yX8_copyOne : MethodName := ⟨RX8, "copyOne", "(I)I"⟩
abbrev cX8_deep : ByteArray := prog_10_method_40_code
def yX8_deep : MethodName := ⟨RX8, "deep", "(I)I"⟩
abbrev cX8_sort : ByteArray := prog_10_method_41_code
def yX8_sort : MethodName := ⟨RX8, "sort", "(III)I"⟩
abbrev cX8_search : ByteArray := prog_10_method_42_code
def yX8_search : MethodName := ⟨RX8, "search", "(IJ)I"⟩
abbrev cX8_isSame : ByteArray := prog_10_method_43_code
def yX8_isSame : MethodName := ⟨RX8, "isSame", "(II)Z"⟩
abbrev cX8_same : ByteArray := prog_10_method_44_code
def yX8_same : MethodName := ⟨RX8, "same", "(II)I"⟩
abbrev cX8_hashOf : ByteArray := prog_10_method_45_code
def yX8_hashOf : MethodName := ⟨RX8, "hashOf", "(I)I"⟩
abbrev cX8_hash : ByteArray := prog_10_method_46_code
def yX8_hash : MethodName := ⟨RX8, "hash", "(I)I"⟩
abbrev cX8_decide : ByteArray := prog_10_method_47_code
def yX8_decide : MethodName := ⟨RX8, "decide", "(IIIII)I"⟩
abbrev cX8_candidateAt : ByteArray := prog_10_method_48_code
def yX8_candidateAt : MethodName := ⟨RX8, "candidateAt", "(IJ)I"⟩
abbrev cX8_isDecision : ByteArray := prog_10_method_49_code
def yX8_isDecision : MethodName := ⟨RX8, "isDecision", "(I)Z"⟩
abbrev cX8_candidate : ByteArray := prog_10_method_50_code
def yX8_candidate : MethodName := ⟨RX8, "candidate", "(IJ)I"⟩
abbrev cX8_span : ByteArray := prog_10_method_51_code
def yX8_span : MethodName := ⟨RX8, "span", "(IJJJ)I"⟩
abbrev cX8_elementOf : ByteArray := prog_10_method_52_code
def yX8_elementOf : MethodName := ⟨RX8, "elementOf", "(I)I"⟩
abbrev cX8_choose : ByteArray := prog_10_method_53_code
def yX8_choose : MethodName := ⟨RX8, "choose", "(II)I"⟩
abbrev cX8_decision : ByteArray := prog_10_method_54_code
def yX8_decision : MethodName := ⟨RX8, "decision", "(II)I"⟩
abbrev cX8_candidateOf : ByteArray := prog_10_method_55_code
def yX8_candidateOf : MethodName := ⟨RX8, "candidateOf", "(II)J"⟩
abbrev cX8_rule : ByteArray := prog_10_method_56_code
def yX8_rule : MethodName := ⟨RX8, "rule", "(IIIJJ)I"⟩
abbrev cX8_far : ByteArray := prog_10_method_57_code
def yX8_far : MethodName := ⟨RX8, "far", "(JJ)J"⟩
abbrev cX8_isLike : ByteArray := prog_10_method_58_code
def yX8_isLike : MethodName := ⟨RX8, "isLike", "(IJJ)Z"⟩
abbrev cX8_amountOf : ByteArray := prog_10_method_59_code
def yX8_amountOf : MethodName := ⟨RX8, "amountOf", "(I)J"⟩
abbrev cX8_amount : ByteArray := prog_10_method_60_code
def yX8_amount : MethodName := ⟨RX8, "amount", "(I)J"⟩
abbrev cX8_score : ByteArray := prog_10_method_61_code
def yX8_score : MethodName := ⟨RX8, "score", "()J"⟩
abbrev cX8_choices : ByteArray := prog_10_method_62_code
def yX8_choices : MethodName := ⟨RX8, "choices", "(I)I"⟩
abbrev cX8_ways : ByteArray := prog_10_method_63_code
def yX8_ways : MethodName := ⟨RX8, "ways", "()I"⟩
abbrev cX8_lay : ByteArray := prog_10_method_64_code
def yX8_lay : MethodName := ⟨RX8, "lay", "(II)V"⟩
abbrev cX8_best : ByteArray := prog_10_method_65_code
def yX8_best : MethodName := ⟨RX8, "best", "()I"⟩
abbrev cX8_mark : ByteArray := prog_10_method_66_code
def yX8_mark : MethodName := ⟨RX8, "mark", "()I"⟩
abbrev cX8_back : ByteArray := prog_10_method_67_code
def yX8_back : MethodName := ⟨RX8, "back", "()I"⟩
abbrev cX8_count : ByteArray := prog_10_method_68_code
def yX8_count : MethodName := ⟨RX8, "count", "(I)I"⟩
abbrev cL_law : ByteArray := code
abbrev classes : List vw_C := [(RX0, TX0, 7), (RX2, TX2, 5), (RX3, TX3, 4), (RX4, TX4, 3), (RX5, TX5, 9), (RX6, TX6, 10), (RX7, TX7, 8), (RX8, TX8, 37)]
abbrev zz_RM : String := "DecisionArrays$Mark"
abbrev zz_RK : String := "DecisionArrays$Kinds"
def zz_nm : List (String × Nat × MethodName × String) := [(RX7, 9, yX6_init, "DecisionArrays"), (RX7, 284, yX4_init, "DecisionArrays")]
