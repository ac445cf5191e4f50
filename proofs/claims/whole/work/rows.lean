section
-- ===== PART A: goes FIRST, ahead of the names: the tables' words, and 'selects' of the private methods out of them =====
/-- a private method of a class that the tables say can be made, by its rows of tables_1 -/
def lw_okq (q : MethodName × Nat) : Prop := (q.1.cls ≠ "java/lang/invoke/MethodHandle" ∧ q.1.cls ≠ "java/lang/invoke/VarHandle") ∧ Cond.instantiable q.1.cls q.2 ∈ tables_1 ∧ Cond.privateMethod q.1 ∈ tables_1 ∧ Cond.instanceMethod q.1 ∈ tables_1
theorem lw_p0 : lw_okq (⟨"IdeaCage", "allPoles", "()I"⟩, 10) := ⟨⟨by decide +kernel, by decide +kernel⟩, List.mem_of_getElem? (i := 11) (by decide +kernel), List.mem_of_getElem? (i := 206) (by decide +kernel), List.mem_of_getElem? (i := 207) (by decide +kernel)⟩
theorem lw_p1 : lw_okq (⟨"IdeaCage", "canBe", "(II)Z"⟩, 10) := ⟨⟨by decide +kernel, by decide +kernel⟩, List.mem_of_getElem? (i := 11) (by decide +kernel), List.mem_of_getElem? (i := 368) (by decide +kernel), List.mem_of_getElem? (i := 369) (by decide +kernel)⟩
theorem lw_p2 : lw_okq (⟨"IdeaCage", "withDoing", "(II)I"⟩, 10) := ⟨⟨by decide +kernel, by decide +kernel⟩, List.mem_of_getElem? (i := 11) (by decide +kernel), List.mem_of_getElem? (i := 372) (by decide +kernel), List.mem_of_getElem? (i := 373) (by decide +kernel)⟩
theorem lw_p3 : lw_okq (⟨"IdeaCage", "ordersWith", "(I)I"⟩, 10) := ⟨⟨by decide +kernel, by decide +kernel⟩, List.mem_of_getElem? (i := 11) (by decide +kernel), List.mem_of_getElem? (i := 385) (by decide +kernel), List.mem_of_getElem? (i := 386) (by decide +kernel)⟩
theorem lw_p4 : lw_okq (⟨"IdeaCage", "isRest", "(IIII)Z"⟩, 10) := ⟨⟨by decide +kernel, by decide +kernel⟩, List.mem_of_getElem? (i := 11) (by decide +kernel), List.mem_of_getElem? (i := 425) (by decide +kernel), List.mem_of_getElem? (i := 426) (by decide +kernel)⟩
theorem lw_p5 : lw_okq (⟨"IdeaCage", "withChoices", "(IIII)I"⟩, 10) := ⟨⟨by decide +kernel, by decide +kernel⟩, List.mem_of_getElem? (i := 11) (by decide +kernel), List.mem_of_getElem? (i := 429) (by decide +kernel), List.mem_of_getElem? (i := 430) (by decide +kernel)⟩
theorem lw_p6 : lw_okq (⟨"IdeaCage", "withChoice", "(III)I"⟩, 10) := ⟨⟨by decide +kernel, by decide +kernel⟩, List.mem_of_getElem? (i := 11) (by decide +kernel), List.mem_of_getElem? (i := 433) (by decide +kernel), List.mem_of_getElem? (i := 434) (by decide +kernel)⟩
theorem lw_p7 : lw_okq (⟨"IdeaCage", "hadWithout", "(I)I"⟩, 10) := ⟨⟨by decide +kernel, by decide +kernel⟩, List.mem_of_getElem? (i := 11) (by decide +kernel), List.mem_of_getElem? (i := 444) (by decide +kernel), List.mem_of_getElem? (i := 445) (by decide +kernel)⟩
theorem lw_p8 : lw_okq (⟨"IdeaCage", "weightOf", "(II)I"⟩, 10) := ⟨⟨by decide +kernel, by decide +kernel⟩, List.mem_of_getElem? (i := 11) (by decide +kernel), List.mem_of_getElem? (i := 449) (by decide +kernel), List.mem_of_getElem? (i := 450) (by decide +kernel)⟩
theorem lw_p9 : lw_okq (⟨"IdeaCage", "withChance", "(II)I"⟩, 10) := ⟨⟨by decide +kernel, by decide +kernel⟩, List.mem_of_getElem? (i := 11) (by decide +kernel), List.mem_of_getElem? (i := 464) (by decide +kernel), List.mem_of_getElem? (i := 465) (by decide +kernel)⟩
theorem lw_p10 : lw_okq (⟨"IdeaCageModel", "readIdea", "()I"⟩, 30) := ⟨⟨by decide +kernel, by decide +kernel⟩, List.mem_of_getElem? (i := 476) (by decide +kernel), List.mem_of_getElem? (i := 589) (by decide +kernel), List.mem_of_getElem? (i := 590) (by decide +kernel)⟩
theorem lw_p11 : lw_okq (⟨"IdeaCageModel", "readPart", "()Z"⟩, 30) := ⟨⟨by decide +kernel, by decide +kernel⟩, List.mem_of_getElem? (i := 476) (by decide +kernel), List.mem_of_getElem? (i := 594) (by decide +kernel), List.mem_of_getElem? (i := 595) (by decide +kernel)⟩
theorem lw_p12 : lw_okq (⟨"IdeaCageModel", "left", "()I"⟩, 30) := ⟨⟨by decide +kernel, by decide +kernel⟩, List.mem_of_getElem? (i := 476) (by decide +kernel), List.mem_of_getElem? (i := 614) (by decide +kernel), List.mem_of_getElem? (i := 615) (by decide +kernel)⟩
theorem lw_p13 : lw_okq (⟨"IdeaCageModel", "begin", "()V"⟩, 30) := ⟨⟨by decide +kernel, by decide +kernel⟩, List.mem_of_getElem? (i := 476) (by decide +kernel), List.mem_of_getElem? (i := 618) (by decide +kernel), List.mem_of_getElem? (i := 619) (by decide +kernel)⟩
theorem lw_p14 : lw_okq (⟨"IdeaCageModel", "settle", "([I)I"⟩, 30) := ⟨⟨by decide +kernel, by decide +kernel⟩, List.mem_of_getElem? (i := 476) (by decide +kernel), List.mem_of_getElem? (i := 622) (by decide +kernel), List.mem_of_getElem? (i := 623) (by decide +kernel)⟩
theorem lw_p15 : lw_okq (⟨"IdeaCageModel", "standing", "([I)I"⟩, 30) := ⟨⟨by decide +kernel, by decide +kernel⟩, List.mem_of_getElem? (i := 476) (by decide +kernel), List.mem_of_getElem? (i := 626) (by decide +kernel), List.mem_of_getElem? (i := 627) (by decide +kernel)⟩
def lw_privs_1 : List (MethodName × Nat) := [(⟨"IdeaCage", "allPoles", "()I"⟩, 10), (⟨"IdeaCage", "canBe", "(II)Z"⟩, 10), (⟨"IdeaCage", "withDoing", "(II)I"⟩, 10), (⟨"IdeaCage", "ordersWith", "(I)I"⟩, 10), (⟨"IdeaCage", "isRest", "(IIII)Z"⟩, 10), (⟨"IdeaCage", "withChoices", "(IIII)I"⟩, 10), (⟨"IdeaCage", "withChoice", "(III)I"⟩, 10), (⟨"IdeaCage", "hadWithout", "(I)I"⟩, 10), (⟨"IdeaCage", "weightOf", "(II)I"⟩, 10), (⟨"IdeaCage", "withChance", "(II)I"⟩, 10), (⟨"IdeaCageModel", "readIdea", "()I"⟩, 30), (⟨"IdeaCageModel", "readPart", "()Z"⟩, 30), (⟨"IdeaCageModel", "left", "()I"⟩, 30), (⟨"IdeaCageModel", "begin", "()V"⟩, 30), (⟨"IdeaCageModel", "settle", "([I)I"⟩, 30), (⟨"IdeaCageModel", "standing", "([I)I"⟩, 30)]
theorem lw_r1 : ∀ q ∈ lw_privs_1, lw_okq q := List.forall_mem_cons.mpr ⟨lw_p0, List.forall_mem_cons.mpr ⟨lw_p1, List.forall_mem_cons.mpr ⟨lw_p2, List.forall_mem_cons.mpr ⟨lw_p3, List.forall_mem_cons.mpr ⟨lw_p4, List.forall_mem_cons.mpr ⟨lw_p5, List.forall_mem_cons.mpr ⟨lw_p6, List.forall_mem_cons.mpr ⟨lw_p7, List.forall_mem_cons.mpr ⟨lw_p8, List.forall_mem_cons.mpr ⟨lw_p9, List.forall_mem_cons.mpr ⟨lw_p10, List.forall_mem_cons.mpr ⟨lw_p11, List.forall_mem_cons.mpr ⟨lw_p12, List.forall_mem_cons.mpr ⟨lw_p13, List.forall_mem_cons.mpr ⟨lw_p14, List.forall_mem_cons.mpr ⟨lw_p15, fun _ h => absurd h List.not_mem_nil⟩⟩⟩⟩⟩⟩⟩⟩⟩⟩⟩⟩⟩⟩⟩⟩
theorem lw_p16 : lw_okq (⟨"IdeaCageModel", "stands", "([III)Z"⟩, 30) := ⟨⟨by decide +kernel, by decide +kernel⟩, List.mem_of_getElem? (i := 476) (by decide +kernel), List.mem_of_getElem? (i := 630) (by decide +kernel), List.mem_of_getElem? (i := 631) (by decide +kernel)⟩
theorem lw_p17 : lw_okq (⟨"IdeaCageModel", "hasPole", "([II)Z"⟩, 30) := ⟨⟨by decide +kernel, by decide +kernel⟩, List.mem_of_getElem? (i := 476) (by decide +kernel), List.mem_of_getElem? (i := 634) (by decide +kernel), List.mem_of_getElem? (i := 635) (by decide +kernel)⟩
theorem lw_p18 : lw_okq (⟨"IdeaCageModel", "isBy", "(IIII)Z"⟩, 30) := ⟨⟨by decide +kernel, by decide +kernel⟩, List.mem_of_getElem? (i := 476) (by decide +kernel), List.mem_of_getElem? (i := 638) (by decide +kernel), List.mem_of_getElem? (i := 639) (by decide +kernel)⟩
theorem lw_p19 : lw_okq (⟨"IdeaCageModel", "partAt", "(I)I"⟩, 30) := ⟨⟨by decide +kernel, by decide +kernel⟩, List.mem_of_getElem? (i := 476) (by decide +kernel), List.mem_of_getElem? (i := 645) (by decide +kernel), List.mem_of_getElem? (i := 646) (by decide +kernel)⟩
theorem lw_p20 : lw_okq (⟨"IdeaCageModel", "noPart", "(I)Z"⟩, 30) := ⟨⟨by decide +kernel, by decide +kernel⟩, List.mem_of_getElem? (i := 476) (by decide +kernel), List.mem_of_getElem? (i := 659) (by decide +kernel), List.mem_of_getElem? (i := 660) (by decide +kernel)⟩
theorem lw_p21 : lw_okq (⟨"IdeaCageModel", "note", "()V"⟩, 30) := ⟨⟨by decide +kernel, by decide +kernel⟩, List.mem_of_getElem? (i := 476) (by decide +kernel), List.mem_of_getElem? (i := 675) (by decide +kernel), List.mem_of_getElem? (i := 676) (by decide +kernel)⟩
theorem lw_p22 : lw_okq (⟨"IdeaCageModel", "goPut", "([II)Z"⟩, 30) := ⟨⟨by decide +kernel, by decide +kernel⟩, List.mem_of_getElem? (i := 476) (by decide +kernel), List.mem_of_getElem? (i := 679) (by decide +kernel), List.mem_of_getElem? (i := 680) (by decide +kernel)⟩
theorem lw_p23 : lw_okq (⟨"IdeaCageModel", "goStrike", "([II)I"⟩, 30) := ⟨⟨by decide +kernel, by decide +kernel⟩, List.mem_of_getElem? (i := 476) (by decide +kernel), List.mem_of_getElem? (i := 687) (by decide +kernel), List.mem_of_getElem? (i := 688) (by decide +kernel)⟩
theorem lw_p24 : lw_okq (⟨"IdeaCageModel", "goRain", "([I)I"⟩, 30) := ⟨⟨by decide +kernel, by decide +kernel⟩, List.mem_of_getElem? (i := 476) (by decide +kernel), List.mem_of_getElem? (i := 695) (by decide +kernel), List.mem_of_getElem? (i := 696) (by decide +kernel)⟩
theorem lw_p25 : lw_okq (⟨"IdeaCageModel", "findSoon", "(I)V"⟩, 30) := ⟨⟨by decide +kernel, by decide +kernel⟩, List.mem_of_getElem? (i := 476) (by decide +kernel), List.mem_of_getElem? (i := 715) (by decide +kernel), List.mem_of_getElem? (i := 716) (by decide +kernel)⟩
theorem lw_p26 : lw_okq (⟨"IdeaCageModel", "actsBy", "(II)Z"⟩, 30) := ⟨⟨by decide +kernel, by decide +kernel⟩, List.mem_of_getElem? (i := 476) (by decide +kernel), List.mem_of_getElem? (i := 722) (by decide +kernel), List.mem_of_getElem? (i := 723) (by decide +kernel)⟩
theorem lw_p27 : lw_okq (⟨"IdeaCageModel", "does", "(I)Z"⟩, 30) := ⟨⟨by decide +kernel, by decide +kernel⟩, List.mem_of_getElem? (i := 476) (by decide +kernel), List.mem_of_getElem? (i := 735) (by decide +kernel), List.mem_of_getElem? (i := 736) (by decide +kernel)⟩
theorem lw_p28 : lw_okq (⟨"IdeaCageModel", "strikes", "(I)Z"⟩, 30) := ⟨⟨by decide +kernel, by decide +kernel⟩, List.mem_of_getElem? (i := 476) (by decide +kernel), List.mem_of_getElem? (i := 739) (by decide +kernel), List.mem_of_getElem? (i := 740) (by decide +kernel)⟩
theorem lw_p29 : lw_okq (⟨"IdeaCageModel", "chooses", "(II)V"⟩, 30) := ⟨⟨by decide +kernel, by decide +kernel⟩, List.mem_of_getElem? (i := 476) (by decide +kernel), List.mem_of_getElem? (i := 773) (by decide +kernel), List.mem_of_getElem? (i := 774) (by decide +kernel)⟩
theorem lw_p30 : lw_okq (⟨"IdeaCageModel", "gain", "(I)I"⟩, 30) := ⟨⟨by decide +kernel, by decide +kernel⟩, List.mem_of_getElem? (i := 476) (by decide +kernel), List.mem_of_getElem? (i := 777) (by decide +kernel), List.mem_of_getElem? (i := 778) (by decide +kernel)⟩
theorem lw_p31 : lw_okq (⟨"IdeaCageModel", "columnsWith", "()I"⟩, 30) := ⟨⟨by decide +kernel, by decide +kernel⟩, List.mem_of_getElem? (i := 476) (by decide +kernel), List.mem_of_getElem? (i := 787) (by decide +kernel), List.mem_of_getElem? (i := 788) (by decide +kernel)⟩
def lw_privs_2 : List (MethodName × Nat) := [(⟨"IdeaCageModel", "stands", "([III)Z"⟩, 30), (⟨"IdeaCageModel", "hasPole", "([II)Z"⟩, 30), (⟨"IdeaCageModel", "isBy", "(IIII)Z"⟩, 30), (⟨"IdeaCageModel", "partAt", "(I)I"⟩, 30), (⟨"IdeaCageModel", "noPart", "(I)Z"⟩, 30), (⟨"IdeaCageModel", "note", "()V"⟩, 30), (⟨"IdeaCageModel", "goPut", "([II)Z"⟩, 30), (⟨"IdeaCageModel", "goStrike", "([II)I"⟩, 30), (⟨"IdeaCageModel", "goRain", "([I)I"⟩, 30), (⟨"IdeaCageModel", "findSoon", "(I)V"⟩, 30), (⟨"IdeaCageModel", "actsBy", "(II)Z"⟩, 30), (⟨"IdeaCageModel", "does", "(I)Z"⟩, 30), (⟨"IdeaCageModel", "strikes", "(I)Z"⟩, 30), (⟨"IdeaCageModel", "chooses", "(II)V"⟩, 30), (⟨"IdeaCageModel", "gain", "(I)I"⟩, 30), (⟨"IdeaCageModel", "columnsWith", "()I"⟩, 30)]
theorem lw_r2 : ∀ q ∈ lw_privs_2, lw_okq q := List.forall_mem_cons.mpr ⟨lw_p16, List.forall_mem_cons.mpr ⟨lw_p17, List.forall_mem_cons.mpr ⟨lw_p18, List.forall_mem_cons.mpr ⟨lw_p19, List.forall_mem_cons.mpr ⟨lw_p20, List.forall_mem_cons.mpr ⟨lw_p21, List.forall_mem_cons.mpr ⟨lw_p22, List.forall_mem_cons.mpr ⟨lw_p23, List.forall_mem_cons.mpr ⟨lw_p24, List.forall_mem_cons.mpr ⟨lw_p25, List.forall_mem_cons.mpr ⟨lw_p26, List.forall_mem_cons.mpr ⟨lw_p27, List.forall_mem_cons.mpr ⟨lw_p28, List.forall_mem_cons.mpr ⟨lw_p29, List.forall_mem_cons.mpr ⟨lw_p30, List.forall_mem_cons.mpr ⟨lw_p31, fun _ h => absurd h List.not_mem_nil⟩⟩⟩⟩⟩⟩⟩⟩⟩⟩⟩⟩⟩⟩⟩⟩
def lw_privs : List (MethodName × Nat) := lw_privs_1 ++ (lw_privs_2)
def lw_tbl : List Cond := k2_sels lw_privs ++ tables_1
theorem lw_privs_ok : ∀ q ∈ lw_privs, lw_okq q := by
  show ∀ q ∈ lw_privs_1 ++ (lw_privs_2), lw_okq q
  exact List.forall_mem_append.mpr ⟨lw_r1, lw_r2⟩
end
section
def RX0 : String := "IdeaCage$Acts"
def TX0 : u_T := fun k => match k with
  | 0 => ("IdeaCage$Acts", "frames", "[I", true)
  | 1 => ("IdeaCage$Acts", "rainsBefore", "[I", true)
  | _ => ("IdeaCage$Acts", "count", "I", false)
def tyX0 : Nat → FieldType := fun k => match k with
  | 0 => .array .int
  | 1 => .array .int
  | _ => .int
abbrev wsX00 : List Cond := u_ws RX0 TX0 3
theorem nmX0 : ∀ a, a < 3 → ∀ b, b < 3 → a ≠ b → (TX0 a).2.1 ≠ (TX0 b).2.1 := by decide +kernel
theorem tyX0_ok : ∀ k, k < 3 → parseFieldDescriptor (TX0 k).2.2.1 = some (tyX0 k) := by decide +kernel
abbrev cX0_init : ByteArray := prog_2_method_1_code
def yX0_init : MethodName := ⟨RX0, "<init>", "()V"⟩
abbrev cX0_remember : ByteArray := prog_2_method_2_code
def yX0_remember : MethodName := ⟨RX0, "remember", "(II)V"⟩
abbrev cX0_forgetFirst : ByteArray := prog_2_method_3_code
def yX0_forgetFirst : MethodName := ⟨RX0, "forgetFirst", "()V"⟩
abbrev cX0_lastFrame : ByteArray := prog_2_method_4_code
def yX0_lastFrame : MethodName := ⟨RX0, "lastFrame", "()I"⟩
abbrev cX0_lastRains : ByteArray := prog_2_method_5_code
def yX0_lastRains : MethodName := ⟨RX0, "lastRains", "()I"⟩
def RX1 : String := "IdeaCage$Frame"
def TX1 : u_T := fun k => match k with
  | _ => ("", "", "", false)
def tyX1 : Nat → FieldType := fun k => match k with
  | _ => .int
abbrev wsX10 : List Cond := u_ws RX1 TX1 0
theorem nmX1 : ∀ a, a < 0 → ∀ b, b < 0 → a ≠ b → (TX1 a).2.1 ≠ (TX1 b).2.1 := by decide +kernel
theorem tyX1_ok : ∀ k, k < 0 → parseFieldDescriptor (TX1 k).2.2.1 = some (tyX1 k) := by decide +kernel
abbrev cX1_of : ByteArray := prog_3_method_2_code
def yX1_of : MethodName := ⟨RX1, "of", "(II)I"⟩
abbrev cX1_poles : ByteArray := prog_3_method_3_code
def yX1_poles : MethodName := ⟨RX1, "poles", "(I)I"⟩
abbrev cX1_had : ByteArray := prog_3_method_4_code
def yX1_had : MethodName := ⟨RX1, "had", "(I)I"⟩
abbrev cX1_countHad : ByteArray := prog_3_method_5_code
def yX1_countHad : MethodName := ⟨RX1, "countHad", "(I)I"⟩
abbrev cX1_height : ByteArray := prog_3_method_6_code
def yX1_height : MethodName := ⟨RX1, "height", "(II)I"⟩
abbrev cX1_cellBit : ByteArray := prog_3_method_7_code
def yX1_cellBit : MethodName := ⟨RX1, "cellBit", "(II)I"⟩
def RX2 : String := "IdeaCage$Plan"
def TX2 : u_T := fun k => match k with
  | 0 => ("IdeaCage$Plan", "cells", "[I", true)
  | 1 => ("IdeaCage$Plan", "kinds", "[I", true)
  | 2 => ("IdeaCage$Plan", "poles", "I", false)
  | 3 => ("IdeaCage$Plan", "parts", "I", false)
  | 4 => ("IdeaCage$Plan", "plainCells", "I", false)
  | 5 => ("IdeaCage$Plan", "keyCells", "I", false)
  | 6 => ("IdeaCage$Plan", "stairCells", "I", false)
  | _ => ("IdeaCage$Plan", "airCells", "I", false)
def tyX2 : Nat → FieldType := fun k => match k with
  | 0 => .array .int
  | 1 => .array .int
  | 2 => .int
  | 3 => .int
  | 4 => .int
  | 5 => .int
  | 6 => .int
  | _ => .int
abbrev wsX20 : List Cond := u_ws RX2 TX2 8
theorem nmX2 : ∀ a, a < 8 → ∀ b, b < 8 → a ≠ b → (TX2 a).2.1 ≠ (TX2 b).2.1 := by decide +kernel
theorem tyX2_ok : ∀ k, k < 8 → parseFieldDescriptor (TX2 k).2.2.1 = some (tyX2 k) := by decide +kernel
abbrev cX2_init : ByteArray := prog_4_method_1_code
def yX2_init : MethodName := ⟨RX2, "<init>", "()V"⟩
abbrev cX2_learn : ByteArray := prog_4_method_2_code
def yX2_learn : MethodName := ⟨RX2, "learn", "(LIdeaCage$Text;)V"⟩
abbrev cX2_cellsOfKind : ByteArray := prog_4_method_3_code
def yX2_cellsOfKind : MethodName := ⟨RX2, "cellsOfKind", "(I)I"⟩
abbrev cX2_isPart : ByteArray := prog_4_method_4_code
def yX2_isPart : MethodName := ⟨RX2, "isPart", "(I)Z"⟩
abbrev cX2_cellOf : ByteArray := prog_4_method_5_code
def yX2_cellOf : MethodName := ⟨RX2, "cellOf", "(I)I"⟩
abbrev cX2_kindOf : ByteArray := prog_4_method_6_code
def yX2_kindOf : MethodName := ⟨RX2, "kindOf", "(I)I"⟩
abbrev cX2_partIn : ByteArray := prog_4_method_7_code
def yX2_partIn : MethodName := ⟨RX2, "partIn", "(I)I"⟩
abbrev cX2_partsAt : ByteArray := prog_4_method_8_code
def yX2_partsAt : MethodName := ⟨RX2, "partsAt", "(I)I"⟩
abbrev cX2_cellsOf : ByteArray := prog_4_method_9_code
def yX2_cellsOf : MethodName := ⟨RX2, "cellsOf", "(I)I"⟩
abbrev cX2_store : ByteArray := prog_4_method_10_code
def yX2_store : MethodName := ⟨RX2, "store", "(I)I"⟩
abbrev cX2_canPut : ByteArray := prog_4_method_11_code
def yX2_canPut : MethodName := ⟨RX2, "canPut", "(II)Z"⟩
abbrev cX2_canStrike : ByteArray := prog_4_method_12_code
def yX2_canStrike : MethodName := ⟨RX2, "canStrike", "(II)Z"⟩
abbrev cX2_withPut : ByteArray := prog_4_method_13_code
def yX2_withPut : MethodName := ⟨RX2, "withPut", "(II)I"⟩
abbrev cX2_withStruck : ByteArray := prog_4_method_14_code
def yX2_withStruck : MethodName := ⟨RX2, "withStruck", "(II)I"⟩
abbrev cX2_withRain : ByteArray := prog_4_method_15_code
def yX2_withRain : MethodName := ⟨RX2, "withRain", "(I)I"⟩
abbrev cX2_countStanding : ByteArray := prog_4_method_16_code
def yX2_countStanding : MethodName := ⟨RX2, "countStanding", "(I)I"⟩
abbrev cX2_standing : ByteArray := prog_4_method_17_code
def yX2_standing : MethodName := ⟨RX2, "standing", "(II)I"⟩
abbrev cX2_carriedBy : ByteArray := prog_4_method_18_code
def yX2_carriedBy : MethodName := ⟨RX2, "carriedBy", "(I)I"⟩
def RX3 : String := "IdeaCage$Text"
def TX3 : u_T := fun k => match k with
  | 0 => ("IdeaCage$Text", "letters", "[I", true)
  | _ => ("IdeaCage$Text", "length", "I", false)
def tyX3 : Nat → FieldType := fun k => match k with
  | 0 => .array .int
  | _ => .int
abbrev wsX30 : List Cond := u_ws RX3 TX3 2
theorem nmX3 : ∀ a, a < 2 → ∀ b, b < 2 → a ≠ b → (TX3 a).2.1 ≠ (TX3 b).2.1 := by decide +kernel
theorem tyX3_ok : ∀ k, k < 2 → parseFieldDescriptor (TX3 k).2.2.1 = some (tyX3 k) := by decide +kernel
abbrev cX3_init : ByteArray := prog_5_method_1_code
def yX3_init : MethodName := ⟨RX3, "<init>", "()V"⟩
abbrev cX3_append : ByteArray := prog_5_method_2_code
def yX3_append : MethodName := ⟨RX3, "append", "(I)Z"⟩
abbrev cX3_letterAt : ByteArray := prog_5_method_3_code
def yX3_letterAt : MethodName := ⟨RX3, "letterAt", "(I)I"⟩
abbrev cX3_firstFault : ByteArray := prog_5_method_4_code
def yX3_firstFault : MethodName := ⟨RX3, "firstFault", "()I"⟩
abbrev cX3_fits : ByteArray := prog_5_method_5_code
def yX3_fits : MethodName := ⟨RX3, "fits", "(III)Z"⟩
abbrev cX3_parts : ByteArray := prog_5_method_6_code
def yX3_parts : MethodName := ⟨RX3, "parts", "()I"⟩
abbrev cX3_cellOfPart : ByteArray := prog_5_method_7_code
def yX3_cellOfPart : MethodName := ⟨RX3, "cellOfPart", "(I)I"⟩
abbrev cX3_kindOfPart : ByteArray := prog_5_method_8_code
def yX3_kindOfPart : MethodName := ⟨RX3, "kindOfPart", "(I)I"⟩
def RX4 : String := "IdeaCage$Tries"
def TX4 : u_T := fun k => match k with
  | 0 => ("IdeaCage$Tries", "abouts", "[I", true)
  | 1 => ("IdeaCage$Tries", "stoods", "[Z", true)
  | _ => ("IdeaCage$Tries", "count", "I", false)
def tyX4 : Nat → FieldType := fun k => match k with
  | 0 => .array .int
  | 1 => .array .boolean
  | _ => .int
abbrev wsX40 : List Cond := u_ws RX4 TX4 3
theorem nmX4 : ∀ a, a < 3 → ∀ b, b < 3 → a ≠ b → (TX4 a).2.1 ≠ (TX4 b).2.1 := by decide +kernel
theorem tyX4_ok : ∀ k, k < 3 → parseFieldDescriptor (TX4 k).2.2.1 = some (tyX4 k) := by decide +kernel
abbrev cX4_init : ByteArray := prog_6_method_1_code
def yX4_init : MethodName := ⟨RX4, "<init>", "()V"⟩
abbrev cX4_add : ByteArray := prog_6_method_2_code
def yX4_add : MethodName := ⟨RX4, "add", "(IZ)Z"⟩
abbrev cX4_agreeWith : ByteArray := prog_6_method_3_code
def yX4_agreeWith : MethodName := ⟨RX4, "agreeWith", "(II)Z"⟩
abbrev cX4_wouldStand : ByteArray := prog_6_method_4_code
def yX4_wouldStand : MethodName := ⟨RX4, "wouldStand", "(III)Z"⟩
def RX5 : String := "IdeaCage"
def TX5 : u_T := fun k => match k with
  | 0 => ("IdeaCage", "text", "LIdeaCage$Text;", true)
  | 1 => ("IdeaCage", "plan", "LIdeaCage$Plan;", true)
  | 2 => ("IdeaCage", "acts", "LIdeaCage$Acts;", true)
  | 3 => ("IdeaCage", "tries", "LIdeaCage$Tries;", true)
  | 4 => ("IdeaCage", "kept", "[Z", true)
  | 5 => ("IdeaCage", "keptFrames", "[I", true)
  | 6 => ("IdeaCage", "keptRains", "[I", true)
  | 7 => ("IdeaCage", "now", "I", false)
  | 8 => ("IdeaCage", "rains", "I", false)
  | _ => ("IdeaCage", "theSeed", "J", false)
def tyX5 : Nat → FieldType := fun k => match k with
  | 0 => .object "IdeaCage$Text"
  | 1 => .object "IdeaCage$Plan"
  | 2 => .object "IdeaCage$Acts"
  | 3 => .object "IdeaCage$Tries"
  | 4 => .array .boolean
  | 5 => .array .int
  | 6 => .array .int
  | 7 => .int
  | 8 => .int
  | _ => .long
abbrev wsX50 : List Cond := u_ws RX5 TX5 10
theorem nmX5 : ∀ a, a < 10 → ∀ b, b < 10 → a ≠ b → (TX5 a).2.1 ≠ (TX5 b).2.1 := by decide +kernel
theorem tyX5_ok : ∀ k, k < 10 → parseFieldDescriptor (TX5 k).2.2.1 = some (tyX5 k) := by decide +kernel
abbrev cX5_init : ByteArray := prog_1_method_1_code
def yX5_init : MethodName := ⟨RX5, "<init>", "()V"⟩
abbrev cX5_write : ByteArray := prog_1_method_2_code
def yX5_write : MethodName := ⟨RX5, "write", "(I)I"⟩
abbrev cX5_wipe : ByteArray := prog_1_method_3_code
def yX5_wipe : MethodName := ⟨RX5, "wipe", "()I"⟩
abbrev cX5_fault : ByteArray := prog_1_method_4_code
def yX5_fault : MethodName := ⟨RX5, "fault", "()I"⟩
abbrev cX5_idea : ByteArray := prog_1_method_5_code
def yX5_idea : MethodName := ⟨RX5, "idea", "()I"⟩
abbrev cX5_about : ByteArray := prog_1_method_6_code
def yX5_about : MethodName := ⟨RX5, "about", "(I)I"⟩
abbrev cX5_part : ByteArray := prog_1_method_7_code
def yX5_part : MethodName := ⟨RX5, "part", "(II)I"⟩
abbrev cX5_column : ByteArray := prog_1_method_8_code
def yX5_column : MethodName := ⟨RX5, "column", "(I)I"⟩
abbrev cX5_at : ByteArray := prog_1_method_9_code
def yX5_at : MethodName := ⟨RX5, "at", "(I)I"⟩
abbrev cX5_put : ByteArray := prog_1_method_10_code
def yX5_put : MethodName := ⟨RX5, "put", "(I)I"⟩
abbrev cX5_strike : ByteArray := prog_1_method_11_code
def yX5_strike : MethodName := ⟨RX5, "strike", "(I)I"⟩
abbrev cX5_rain : ByteArray := prog_1_method_12_code
def yX5_rain : MethodName := ⟨RX5, "rain", "()I"⟩
abbrev cX5_undo : ByteArray := prog_1_method_13_code
def yX5_undo : MethodName := ⟨RX5, "undo", "()I"⟩
abbrev cX5_loses : ByteArray := prog_1_method_14_code
def yX5_loses : MethodName := ⟨RX5, "loses", "(I)I"⟩
abbrev cX5_down : ByteArray := prog_1_method_15_code
def yX5_down : MethodName := ⟨RX5, "down", "(I)I"⟩
abbrev cX5_soon : ByteArray := prog_1_method_16_code
def yX5_soon : MethodName := ⟨RX5, "soon", "(II)I"⟩
abbrev cX5_judge : ByteArray := prog_1_method_17_code
def yX5_judge : MethodName := ⟨RX5, "judge", "(IJ)I"⟩
abbrev cX5_share : ByteArray := prog_1_method_18_code
def yX5_share : MethodName := ⟨RX5, "share", "(IZ)I"⟩
abbrev cX5_attempt : ByteArray := prog_1_method_19_code
def yX5_attempt : MethodName := ⟨RX5, "attempt", "(II)I"⟩
abbrev cX5_unattempt : ByteArray := prog_1_method_20_code
def yX5_unattempt : MethodName := ⟨RX5, "unattempt", "()I"⟩
abbrev cX5_kinds : ByteArray := prog_1_method_21_code
def yX5_kinds : MethodName := ⟨RX5, "kinds", "(I)I"⟩
abbrev cX5_rests : ByteArray := prog_1_method_22_code
def yX5_rests : MethodName := ⟨RX5, "rests", "(III)I"⟩
abbrev cX5_wet : ByteArray := prog_1_method_23_code
def yX5_wet : MethodName := ⟨RX5, "wet", "(IIZ)I"⟩
abbrev cX5_seed : ByteArray := prog_1_method_24_code
def yX5_seed : MethodName := ⟨RX5, "seed", "(J)J"⟩
abbrev cX5_terms : ByteArray := prog_1_method_25_code
def yX5_terms : MethodName := ⟨RX5, "terms", "(I)I"⟩
abbrev cX5_keep : ByteArray := prog_1_method_26_code
def yX5_keep : MethodName := ⟨RX5, "keep", "(I)I"⟩
abbrev cX5_again : ByteArray := prog_1_method_27_code
def yX5_again : MethodName := ⟨RX5, "again", "(I)I"⟩
abbrev cX5_isColumn : ByteArray := prog_1_method_28_code
def yX5_isColumn : MethodName := ⟨RX5, "isColumn", "(I)Z"⟩
abbrev cX5_isCountOrFirst : ByteArray := prog_1_method_29_code
def yX5_isCountOrFirst : MethodName := ⟨RX5, "isCountOrFirst", "(I)Z"⟩
abbrev cX5_allPoles : ByteArray := prog_1_method_30_code
def yX5_allPoles : MethodName := ⟨RX5, "allPoles", "()I"⟩
abbrev cX5_leastRow : ByteArray := prog_1_method_31_code
def yX5_leastRow : MethodName := ⟨RX5, "leastRow", "(LIdeaCage$Plan;III)I"⟩
abbrev cX5_downToGround : ByteArray := prog_1_method_32_code
def yX5_downToGround : MethodName := ⟨RX5, "downToGround", "(I)I"⟩
abbrev cX5_doingFromEnd : ByteArray := prog_1_method_33_code
def yX5_doingFromEnd : MethodName := ⟨RX5, "doingFromEnd", "(JI)I"⟩
abbrev cX5_canBe : ByteArray := prog_1_method_34_code
def yX5_canBe : MethodName := ⟨RX5, "canBe", "(II)Z"⟩
abbrev cX5_withDoing : ByteArray := prog_1_method_35_code
def yX5_withDoing : MethodName := ⟨RX5, "withDoing", "(II)I"⟩
abbrev cX5_ordersWith : ByteArray := prog_1_method_36_code
def yX5_ordersWith : MethodName := ⟨RX5, "ordersWith", "(I)I"⟩
abbrev cX5_isRest : ByteArray := prog_1_method_37_code
def yX5_isRest : MethodName := ⟨RX5, "isRest", "(IIII)Z"⟩
abbrev cX5_withChoices : ByteArray := prog_1_method_38_code
def yX5_withChoices : MethodName := ⟨RX5, "withChoices", "(IIII)I"⟩
abbrev cX5_withChoice : ByteArray := prog_1_method_39_code
def yX5_withChoice : MethodName := ⟨RX5, "withChoice", "(III)I"⟩
abbrev cX5_worth : ByteArray := prog_1_method_40_code
def yX5_worth : MethodName := ⟨RX5, "worth", "(II)I"⟩
abbrev cX5_hadWithout : ByteArray := prog_1_method_41_code
def yX5_hadWithout : MethodName := ⟨RX5, "hadWithout", "(I)I"⟩
abbrev cX5_weightOf : ByteArray := prog_1_method_42_code
def yX5_weightOf : MethodName := ⟨RX5, "weightOf", "(II)I"⟩
abbrev cX5_withChance : ByteArray := prog_1_method_43_code
def yX5_withChance : MethodName := ⟨RX5, "withChance", "(II)I"⟩
abbrev cX5_factorial : ByteArray := prog_1_method_44_code
def yX5_factorial : MethodName := ⟨RX5, "factorial", "(I)I"⟩
abbrev cX5_powerOfTen : ByteArray := prog_1_method_45_code
def yX5_powerOfTen : MethodName := ⟨RX5, "powerOfTen", "(I)J"⟩
abbrev cX5_told : ByteArray := prog_1_method_46_code
def yX5_told : MethodName := ⟨RX5, "told", "(IIZ)I"⟩
abbrev cX5_commonDivisor : ByteArray := prog_1_method_47_code
def yX5_commonDivisor : MethodName := ⟨RX5, "commonDivisor", "(II)I"⟩
def RX6 : String := "IdeaCageModel"
def TX6 : u_T := fun k => match k with
  | 0 => ("IdeaCageModel", "thrown", "I", false)
  | 1 => ("IdeaCageModel", "text", "[I", true)
  | 2 => ("IdeaCageModel", "textSize", "I", false)
  | 3 => ("IdeaCageModel", "place", "I", false)
  | 4 => ("IdeaCageModel", "stock", "I", false)
  | 5 => ("IdeaCageModel", "parts", "I", false)
  | 6 => ("IdeaCageModel", "lies", "[I", true)
  | 7 => ("IdeaCageModel", "kind", "[I", true)
  | 8 => ("IdeaCageModel", "readStock", "I", false)
  | 9 => ("IdeaCageModel", "readCells", "I", false)
  | 10 => ("IdeaCageModel", "readParts", "I", false)
  | 11 => ("IdeaCageModel", "readPart", "[I", true)
  | 12 => ("IdeaCageModel", "page", "[I", true)
  | 13 => ("IdeaCageModel", "trial", "[I", true)
  | 14 => ("IdeaCageModel", "book", "[I", true)
  | 15 => ("IdeaCageModel", "acts", "I", false)
  | 16 => ("IdeaCageModel", "kept", "[I", true)
  | 17 => ("IdeaCageModel", "isKept", "[Z", true)
  | 18 => ("IdeaCageModel", "tried", "I", false)
  | 19 => ("IdeaCageModel", "triedAbout", "[I", true)
  | 20 => ("IdeaCageModel", "triedIs", "[I", true)
  | 21 => ("IdeaCageModel", "seed", "J", false)
  | 22 => ("IdeaCageModel", "soonMany", "I", false)
  | 23 => ("IdeaCageModel", "soonWhich", "I", false)
  | 24 => ("IdeaCageModel", "kindMany", "I", false)
  | 25 => ("IdeaCageModel", "kindFirst", "I", false)
  | 26 => ("IdeaCageModel", "restMany", "I", false)
  | 27 => ("IdeaCageModel", "restFirst", "I", false)
  | 28 => ("IdeaCageModel", "gains", "[I", true)
  | _ => ("IdeaCageModel", "value", "[I", true)
def tyX6 : Nat → FieldType := fun k => match k with
  | 0 => .int
  | 1 => .array .int
  | 2 => .int
  | 3 => .int
  | 4 => .int
  | 5 => .int
  | 6 => .array .int
  | 7 => .array .int
  | 8 => .int
  | 9 => .int
  | 10 => .int
  | 11 => .array .int
  | 12 => .array .int
  | 13 => .array .int
  | 14 => .array .int
  | 15 => .int
  | 16 => .array .int
  | 17 => .array .boolean
  | 18 => .int
  | 19 => .array .int
  | 20 => .array .int
  | 21 => .long
  | 22 => .int
  | 23 => .int
  | 24 => .int
  | 25 => .int
  | 26 => .int
  | 27 => .int
  | 28 => .array .int
  | _ => .array .int
abbrev wsX60 : List Cond := u_ws RX6 TX6 30
theorem nmX6 : ∀ a, a < 30 → ∀ b, b < 30 → a ≠ b → (TX6 a).2.1 ≠ (TX6 b).2.1 := by decide +kernel
theorem tyX6_ok : ∀ k, k < 30 → parseFieldDescriptor (TX6 k).2.2.1 = some (tyX6 k) := by decide +kernel
abbrev cX6_init : ByteArray := prog_8_method_1_code
def yX6_init : MethodName := ⟨RX6, "<init>", "()V"⟩
abbrev cX6_in : ByteArray := prog_8_method_3_code
def yX6_in : MethodName := ⟨RX6, "in", "(JJJ)Z"⟩
abbrev cX6_has : ByteArray := prog_8_method_4_code
def yX6_has : MethodName := ⟨RX6, "has", "(II)Z"⟩
abbrev cX6_many : ByteArray := prog_8_method_5_code
def yX6_many : MethodName := ⟨RX6, "many", "(I)I"⟩
abbrev cX6_power : ByteArray := prog_8_method_6_code
def yX6_power : MethodName := ⟨RX6, "power", "(II)I"⟩
abbrev cX6_noColumn : ByteArray := prog_8_method_7_code
def yX6_noColumn : MethodName := ⟨RX6, "noColumn", "(I)Z"⟩
abbrev cX6_noPart : ByteArray := prog_8_method_8_code
def yX6_noPart : MethodName := ⟨RX6, "noPart", "(I)Z"⟩
abbrev cX6_write : ByteArray := prog_8_method_9_code
def yX6_write : MethodName := ⟨RX6, "write", "(I)I"⟩
abbrev cX6_wipe : ByteArray := prog_8_method_10_code
def yX6_wipe : MethodName := ⟨RX6, "wipe", "()I"⟩
abbrev cX6_readPart : ByteArray := prog_8_method_11_code
def yX6_readPart : MethodName := ⟨RX6, "readPart", "()Z"⟩
abbrev cX6_readIdea : ByteArray := prog_8_method_12_code
def yX6_readIdea : MethodName := ⟨RX6, "readIdea", "()I"⟩
abbrev cX6_fault : ByteArray := prog_8_method_13_code
def yX6_fault : MethodName := ⟨RX6, "fault", "()I"⟩
abbrev cX6_idea : ByteArray := prog_8_method_14_code
def yX6_idea : MethodName := ⟨RX6, "idea", "()I"⟩
abbrev cX6_partAt : ByteArray := prog_8_method_15_code
def yX6_partAt : MethodName := ⟨RX6, "partAt", "(I)I"⟩
abbrev cX6_hasPole : ByteArray := prog_8_method_16_code
def yX6_hasPole : MethodName := ⟨RX6, "hasPole", "([II)Z"⟩
abbrev cX6_isBy : ByteArray := prog_8_method_17_code
def yX6_isBy : MethodName := ⟨RX6, "isBy", "(IIII)Z"⟩
abbrev cX6_standsBy : ByteArray := prog_8_method_18_code
def yX6_standsBy : MethodName := ⟨RX6, "standsBy", "(IZZZZZ)Z"⟩
abbrev cX6_stands : ByteArray := prog_8_method_19_code
def yX6_stands : MethodName := ⟨RX6, "stands", "([III)Z"⟩
abbrev cX6_standing : ByteArray := prog_8_method_20_code
def yX6_standing : MethodName := ⟨RX6, "standing", "([I)I"⟩
abbrev cX6_settle : ByteArray := prog_8_method_21_code
def yX6_settle : MethodName := ⟨RX6, "settle", "([I)I"⟩
abbrev cX6_poles : ByteArray := prog_8_method_22_code
def yX6_poles : MethodName := ⟨RX6, "poles", "([I)I"⟩
abbrev cX6_begin : ByteArray := prog_8_method_23_code
def yX6_begin : MethodName := ⟨RX6, "begin", "()V"⟩
abbrev cX6_left : ByteArray := prog_8_method_24_code
def yX6_left : MethodName := ⟨RX6, "left", "()I"⟩
abbrev cX6_about : ByteArray := prog_8_method_25_code
def yX6_about : MethodName := ⟨RX6, "about", "(I)I"⟩
abbrev cX6_part : ByteArray := prog_8_method_26_code
def yX6_part : MethodName := ⟨RX6, "part", "(II)I"⟩
abbrev cX6_column : ByteArray := prog_8_method_27_code
def yX6_column : MethodName := ⟨RX6, "column", "(I)I"⟩
abbrev cX6_at : ByteArray := prog_8_method_28_code
def yX6_at : MethodName := ⟨RX6, "at", "(I)I"⟩
abbrev cX6_note : ByteArray := prog_8_method_29_code
def yX6_note : MethodName := ⟨RX6, "note", "()V"⟩
abbrev cX6_goPut : ByteArray := prog_8_method_30_code
def yX6_goPut : MethodName := ⟨RX6, "goPut", "([II)Z"⟩
abbrev cX6_goStrike : ByteArray := prog_8_method_31_code
def yX6_goStrike : MethodName := ⟨RX6, "goStrike", "([II)I"⟩
abbrev cX6_goRain : ByteArray := prog_8_method_32_code
def yX6_goRain : MethodName := ⟨RX6, "goRain", "([I)I"⟩
abbrev cX6_put : ByteArray := prog_8_method_33_code
def yX6_put : MethodName := ⟨RX6, "put", "(I)I"⟩
abbrev cX6_strike : ByteArray := prog_8_method_34_code
def yX6_strike : MethodName := ⟨RX6, "strike", "(I)I"⟩
abbrev cX6_rain : ByteArray := prog_8_method_35_code
def yX6_rain : MethodName := ⟨RX6, "rain", "()I"⟩
abbrev cX6_undo : ByteArray := prog_8_method_36_code
def yX6_undo : MethodName := ⟨RX6, "undo", "()I"⟩
abbrev cX6_loses : ByteArray := prog_8_method_37_code
def yX6_loses : MethodName := ⟨RX6, "loses", "(I)I"⟩
abbrev cX6_down : ByteArray := prog_8_method_38_code
def yX6_down : MethodName := ⟨RX6, "down", "(I)I"⟩
abbrev cX6_actsBy : ByteArray := prog_8_method_39_code
def yX6_actsBy : MethodName := ⟨RX6, "actsBy", "(II)Z"⟩
abbrev cX6_findSoon : ByteArray := prog_8_method_40_code
def yX6_findSoon : MethodName := ⟨RX6, "findSoon", "(I)V"⟩
abbrev cX6_soon : ByteArray := prog_8_method_41_code
def yX6_soon : MethodName := ⟨RX6, "soon", "(II)I"⟩
abbrev cX6_longPower : ByteArray := prog_8_method_42_code
def yX6_longPower : MethodName := ⟨RX6, "longPower", "(JI)J"⟩
abbrev cX6_strikes : ByteArray := prog_8_method_43_code
def yX6_strikes : MethodName := ⟨RX6, "strikes", "(I)Z"⟩
abbrev cX6_does : ByteArray := prog_8_method_44_code
def yX6_does : MethodName := ⟨RX6, "does", "(I)Z"⟩
abbrev cX6_judge : ByteArray := prog_8_method_45_code
def yX6_judge : MethodName := ⟨RX6, "judge", "(IJ)I"⟩
abbrev cX6_ways : ByteArray := prog_8_method_46_code
def yX6_ways : MethodName := ⟨RX6, "ways", "(I)I"⟩
abbrev cX6_divisor : ByteArray := prog_8_method_47_code
def yX6_divisor : MethodName := ⟨RX6, "divisor", "(II)I"⟩
abbrev cX6_fraction : ByteArray := prog_8_method_48_code
def yX6_fraction : MethodName := ⟨RX6, "fraction", "(IIZ)I"⟩
abbrev cX6_share : ByteArray := prog_8_method_49_code
def yX6_share : MethodName := ⟨RX6, "share", "(IZ)I"⟩
abbrev cX6_attempt : ByteArray := prog_8_method_50_code
def yX6_attempt : MethodName := ⟨RX6, "attempt", "(II)I"⟩
abbrev cX6_unattempt : ByteArray := prog_8_method_51_code
def yX6_unattempt : MethodName := ⟨RX6, "unattempt", "()I"⟩
abbrev cX6_kinds : ByteArray := prog_8_method_52_code
def yX6_kinds : MethodName := ⟨RX6, "kinds", "(I)I"⟩
abbrev cX6_chooses : ByteArray := prog_8_method_53_code
def yX6_chooses : MethodName := ⟨RX6, "chooses", "(II)V"⟩
abbrev cX6_gain : ByteArray := prog_8_method_54_code
def yX6_gain : MethodName := ⟨RX6, "gain", "(I)I"⟩
abbrev cX6_rests : ByteArray := prog_8_method_55_code
def yX6_rests : MethodName := ⟨RX6, "rests", "(III)I"⟩
abbrev cX6_columnsWith : ByteArray := prog_8_method_56_code
def yX6_columnsWith : MethodName := ⟨RX6, "columnsWith", "()I"⟩
abbrev cX6_wet : ByteArray := prog_8_method_57_code
def yX6_wet : MethodName := ⟨RX6, "wet", "(IIZ)I"⟩
abbrev cX6_seed : ByteArray := prog_8_method_58_code
def yX6_seed : MethodName := ⟨RX6, "seed", "(J)J"⟩
abbrev cX6_terms : ByteArray := prog_8_method_59_code
def yX6_terms : MethodName := ⟨RX6, "terms", "(I)I"⟩
abbrev cX6_keep : ByteArray := prog_8_method_60_code
def yX6_keep : MethodName := ⟨RX6, "keep", "(I)I"⟩
abbrev cX6_again : ByteArray := prog_8_method_61_code
def yX6_again : MethodName := ⟨RX6, "again", "(I)I"⟩
def RJ6 : String := "java/lang/Integer"
def TJ6 : u_T := fun k => match k with
  | _ => ("", "", "", false)
def tyJ6 : Nat → FieldType := fun k => match k with
  | _ => .int
abbrev wsJ60 : List Cond := u_ws RJ6 TJ6 0
theorem nmJ6 : ∀ a, a < 0 → ∀ b, b < 0 → a ≠ b → (TJ6 a).2.1 ≠ (TJ6 b).2.1 := by decide +kernel
theorem tyJ6_ok : ∀ k, k < 0 → parseFieldDescriptor (TJ6 k).2.2.1 = some (tyJ6 k) := by decide +kernel
abbrev cJ6_bitCount_0f7a4 : ByteArray := prog_9_method_49_code
def yJ6_bitCount_0f7a4 : MethodName := ⟨RJ6, "bitCount", "(I)I"⟩
def RJ9 : String := "java/lang/Math"
def TJ9 : u_T := fun k => match k with
  | _ => ("", "", "", false)
def tyJ9 : Nat → FieldType := fun k => match k with
  | _ => .int
abbrev wsJ90 : List Cond := u_ws RJ9 TJ9 0
theorem nmJ9 : ∀ a, a < 0 → ∀ b, b < 0 → a ≠ b → (TJ9 a).2.1 ≠ (TJ9 b).2.1 := by decide +kernel
theorem tyJ9_ok : ∀ k, k < 0 → parseFieldDescriptor (TJ9 k).2.2.1 = some (tyJ9 k) := by decide +kernel
abbrev cJ9_min_7cf53 : ByteArray := prog_10_method_69_code
def yJ9_min_7cf53 : MethodName := ⟨RJ9, "min", "(II)I"⟩
def RL : String := "IdeaCageLaw"
abbrev cL_law : ByteArray := code
def yL_law : MethodName := ⟨RL, "law", "([I)Z"⟩
abbrev vwCl : List vw_C := [(RX0, TX0, 3), (RX2, TX2, 8), (RX3, TX3, 2), (RX4, TX4, 3), (RX5, TX5, 10), (RX6, TX6, 30)]
end
section
/-- the tables words that hold in every later state -/
def tb : List Cond := lw_tbl.filter goodWord
theorem tb_good : ∀ w ∈ tb, goodWord w = true := fun w h => (List.mem_filter.mp h).2
theorem tb_in : ∀ w ∈ tb, w ∈ lw_tbl := fun w h => (List.mem_filter.mp h).1
theorem tbm {w : Cond} (h : w ∈ lw_tbl) (g : goodWord w = true) : w ∈ tb := List.mem_filter.mpr ⟨h, g⟩
theorem tbp {w : Cond} (i : Nat) (h : (k2_sels lw_privs)[i]? = some w) : w ∈ lw_tbl := List.mem_append_left _ (List.mem_of_getElem? h)
theorem tb1 {w : Cond} (i : Nat) (h : tables_1_1[i]? = some w) : w ∈ lw_tbl := List.mem_append_right _ (List.mem_append_left _ (List.mem_of_getElem? h))
theorem tb2 {w : Cond} (i : Nat) (h : tables_1_2[i]? = some w) : w ∈ lw_tbl := List.mem_append_right _ (List.mem_append_right _ (List.mem_append_left _ (List.mem_of_getElem? h)))
theorem tb3 {w : Cond} (i : Nat) (h : tables_1_3[i]? = some w) : w ∈ lw_tbl := List.mem_append_right _ (List.mem_append_right _ (List.mem_append_right _ (List.mem_append_left _ (List.mem_of_getElem? h))))
theorem tb4 {w : Cond} (i : Nat) (h : tables_1_4[i]? = some w) : w ∈ lw_tbl := List.mem_append_right _ (List.mem_append_right _ (List.mem_append_right _ (List.mem_append_right _ (List.mem_of_getElem? h))))
theorem tp_0 : Cond.selects "IdeaCage" ⟨"IdeaCage", "allPoles", "()I"⟩ ⟨"IdeaCage", "allPoles", "()I"⟩ ∈ tb := tbm (tbp 0 (by decide +kernel)) rfl
theorem tp_1 : Cond.selects "IdeaCage" ⟨"IdeaCage", "canBe", "(II)Z"⟩ ⟨"IdeaCage", "canBe", "(II)Z"⟩ ∈ tb := tbm (tbp 1 (by decide +kernel)) rfl
theorem tp_2 : Cond.selects "IdeaCage" ⟨"IdeaCage", "withDoing", "(II)I"⟩ ⟨"IdeaCage", "withDoing", "(II)I"⟩ ∈ tb := tbm (tbp 2 (by decide +kernel)) rfl
theorem tp_3 : Cond.selects "IdeaCage" ⟨"IdeaCage", "ordersWith", "(I)I"⟩ ⟨"IdeaCage", "ordersWith", "(I)I"⟩ ∈ tb := tbm (tbp 3 (by decide +kernel)) rfl
theorem tp_4 : Cond.selects "IdeaCage" ⟨"IdeaCage", "isRest", "(IIII)Z"⟩ ⟨"IdeaCage", "isRest", "(IIII)Z"⟩ ∈ tb := tbm (tbp 4 (by decide +kernel)) rfl
theorem tp_5 : Cond.selects "IdeaCage" ⟨"IdeaCage", "withChoices", "(IIII)I"⟩ ⟨"IdeaCage", "withChoices", "(IIII)I"⟩ ∈ tb := tbm (tbp 5 (by decide +kernel)) rfl
theorem tp_6 : Cond.selects "IdeaCage" ⟨"IdeaCage", "withChoice", "(III)I"⟩ ⟨"IdeaCage", "withChoice", "(III)I"⟩ ∈ tb := tbm (tbp 6 (by decide +kernel)) rfl
theorem tp_7 : Cond.selects "IdeaCage" ⟨"IdeaCage", "hadWithout", "(I)I"⟩ ⟨"IdeaCage", "hadWithout", "(I)I"⟩ ∈ tb := tbm (tbp 7 (by decide +kernel)) rfl
theorem tp_8 : Cond.selects "IdeaCage" ⟨"IdeaCage", "weightOf", "(II)I"⟩ ⟨"IdeaCage", "weightOf", "(II)I"⟩ ∈ tb := tbm (tbp 8 (by decide +kernel)) rfl
theorem tp_9 : Cond.selects "IdeaCage" ⟨"IdeaCage", "withChance", "(II)I"⟩ ⟨"IdeaCage", "withChance", "(II)I"⟩ ∈ tb := tbm (tbp 9 (by decide +kernel)) rfl
theorem tp_10 : Cond.selects "IdeaCageModel" ⟨"IdeaCageModel", "readIdea", "()I"⟩ ⟨"IdeaCageModel", "readIdea", "()I"⟩ ∈ tb := tbm (tbp 10 (by decide +kernel)) rfl
theorem tp_11 : Cond.selects "IdeaCageModel" ⟨"IdeaCageModel", "readPart", "()Z"⟩ ⟨"IdeaCageModel", "readPart", "()Z"⟩ ∈ tb := tbm (tbp 11 (by decide +kernel)) rfl
theorem tp_12 : Cond.selects "IdeaCageModel" ⟨"IdeaCageModel", "left", "()I"⟩ ⟨"IdeaCageModel", "left", "()I"⟩ ∈ tb := tbm (tbp 12 (by decide +kernel)) rfl
theorem tp_13 : Cond.selects "IdeaCageModel" ⟨"IdeaCageModel", "begin", "()V"⟩ ⟨"IdeaCageModel", "begin", "()V"⟩ ∈ tb := tbm (tbp 13 (by decide +kernel)) rfl
theorem tp_14 : Cond.selects "IdeaCageModel" ⟨"IdeaCageModel", "settle", "([I)I"⟩ ⟨"IdeaCageModel", "settle", "([I)I"⟩ ∈ tb := tbm (tbp 14 (by decide +kernel)) rfl
theorem tp_15 : Cond.selects "IdeaCageModel" ⟨"IdeaCageModel", "standing", "([I)I"⟩ ⟨"IdeaCageModel", "standing", "([I)I"⟩ ∈ tb := tbm (tbp 15 (by decide +kernel)) rfl
theorem tp_16 : Cond.selects "IdeaCageModel" ⟨"IdeaCageModel", "stands", "([III)Z"⟩ ⟨"IdeaCageModel", "stands", "([III)Z"⟩ ∈ tb := tbm (tbp 16 (by decide +kernel)) rfl
theorem tp_17 : Cond.selects "IdeaCageModel" ⟨"IdeaCageModel", "hasPole", "([II)Z"⟩ ⟨"IdeaCageModel", "hasPole", "([II)Z"⟩ ∈ tb := tbm (tbp 17 (by decide +kernel)) rfl
theorem tp_18 : Cond.selects "IdeaCageModel" ⟨"IdeaCageModel", "isBy", "(IIII)Z"⟩ ⟨"IdeaCageModel", "isBy", "(IIII)Z"⟩ ∈ tb := tbm (tbp 18 (by decide +kernel)) rfl
theorem tp_19 : Cond.selects "IdeaCageModel" ⟨"IdeaCageModel", "partAt", "(I)I"⟩ ⟨"IdeaCageModel", "partAt", "(I)I"⟩ ∈ tb := tbm (tbp 19 (by decide +kernel)) rfl
theorem tp_20 : Cond.selects "IdeaCageModel" ⟨"IdeaCageModel", "noPart", "(I)Z"⟩ ⟨"IdeaCageModel", "noPart", "(I)Z"⟩ ∈ tb := tbm (tbp 20 (by decide +kernel)) rfl
theorem tp_21 : Cond.selects "IdeaCageModel" ⟨"IdeaCageModel", "note", "()V"⟩ ⟨"IdeaCageModel", "note", "()V"⟩ ∈ tb := tbm (tbp 21 (by decide +kernel)) rfl
theorem tp_22 : Cond.selects "IdeaCageModel" ⟨"IdeaCageModel", "goPut", "([II)Z"⟩ ⟨"IdeaCageModel", "goPut", "([II)Z"⟩ ∈ tb := tbm (tbp 22 (by decide +kernel)) rfl
theorem tp_23 : Cond.selects "IdeaCageModel" ⟨"IdeaCageModel", "goStrike", "([II)I"⟩ ⟨"IdeaCageModel", "goStrike", "([II)I"⟩ ∈ tb := tbm (tbp 23 (by decide +kernel)) rfl
theorem tp_24 : Cond.selects "IdeaCageModel" ⟨"IdeaCageModel", "goRain", "([I)I"⟩ ⟨"IdeaCageModel", "goRain", "([I)I"⟩ ∈ tb := tbm (tbp 24 (by decide +kernel)) rfl
theorem tp_25 : Cond.selects "IdeaCageModel" ⟨"IdeaCageModel", "findSoon", "(I)V"⟩ ⟨"IdeaCageModel", "findSoon", "(I)V"⟩ ∈ tb := tbm (tbp 25 (by decide +kernel)) rfl
theorem tp_26 : Cond.selects "IdeaCageModel" ⟨"IdeaCageModel", "actsBy", "(II)Z"⟩ ⟨"IdeaCageModel", "actsBy", "(II)Z"⟩ ∈ tb := tbm (tbp 26 (by decide +kernel)) rfl
theorem tp_27 : Cond.selects "IdeaCageModel" ⟨"IdeaCageModel", "does", "(I)Z"⟩ ⟨"IdeaCageModel", "does", "(I)Z"⟩ ∈ tb := tbm (tbp 27 (by decide +kernel)) rfl
theorem tp_28 : Cond.selects "IdeaCageModel" ⟨"IdeaCageModel", "strikes", "(I)Z"⟩ ⟨"IdeaCageModel", "strikes", "(I)Z"⟩ ∈ tb := tbm (tbp 28 (by decide +kernel)) rfl
theorem tp_29 : Cond.selects "IdeaCageModel" ⟨"IdeaCageModel", "chooses", "(II)V"⟩ ⟨"IdeaCageModel", "chooses", "(II)V"⟩ ∈ tb := tbm (tbp 29 (by decide +kernel)) rfl
theorem tp_30 : Cond.selects "IdeaCageModel" ⟨"IdeaCageModel", "gain", "(I)I"⟩ ⟨"IdeaCageModel", "gain", "(I)I"⟩ ∈ tb := tbm (tbp 30 (by decide +kernel)) rfl
theorem tp_31 : Cond.selects "IdeaCageModel" ⟨"IdeaCageModel", "columnsWith", "()I"⟩ ⟨"IdeaCageModel", "columnsWith", "()I"⟩ ∈ tb := tbm (tbp 31 (by decide +kernel)) rfl
theorem tm_1_0 : (Jvm.Cond.initialized "IdeaCageLaw") ∈ tb := tbm (tb1 0 (by decide +kernel)) rfl
theorem tm_1_1 : (Jvm.Cond.initialized "IdeaCage") ∈ tb := tbm (tb1 1 (by decide +kernel)) rfl
theorem tm_1_2 : (Jvm.Cond.initialized "IdeaCage$Text") ∈ tb := tbm (tb1 2 (by decide +kernel)) rfl
theorem tm_1_3 : (Jvm.Cond.initialized "IdeaCage$Plan") ∈ tb := tbm (tb1 3 (by decide +kernel)) rfl
theorem tm_1_4 : (Jvm.Cond.initialized "IdeaCage$Acts") ∈ tb := tbm (tb1 4 (by decide +kernel)) rfl
theorem tm_1_5 : (Jvm.Cond.initialized "IdeaCage$Tries") ∈ tb := tbm (tb1 5 (by decide +kernel)) rfl
theorem tm_1_6 : (Jvm.Cond.initialized "IdeaCageModel") ∈ tb := tbm (tb1 6 (by decide +kernel)) rfl
theorem tm_1_7 : (Jvm.Cond.initialized "java/lang/Math") ∈ tb := tbm (tb1 7 (by decide +kernel)) rfl
theorem tm_1_8 : (Jvm.Cond.initialized "IdeaCage$Frame") ∈ tb := tbm (tb1 8 (by decide +kernel)) rfl
theorem tm_1_9 : (Jvm.Cond.initialized "java/lang/Integer") ∈ tb := tbm (tb1 9 (by decide +kernel)) rfl
theorem tm_1_10 : (Jvm.Cond.classLink "IdeaCageLaw" (7 : Nat) "IdeaCage") ∈ tb := tbm (tb1 10 (by decide +kernel)) rfl
theorem tm_1_11 : (Jvm.Cond.instantiable "IdeaCage" (10 : Nat)) ∈ tb := tbm (tb1 11 (by decide +kernel)) rfl
theorem tm_1_12 : (Jvm.Cond.methodLink "IdeaCageLaw" (9 : Nat) ({ cls := "IdeaCage", name := "<init>", desc := "()V" } : Jvm.MethodName)) ∈ tb := tbm (tb1 12 (by decide +kernel)) rfl
theorem tm_1_13 : (Jvm.Cond.instanceMethod ({ cls := "IdeaCage", name := "<init>", desc := "()V" } : Jvm.MethodName)) ∈ tb := tbm (tb1 13 (by decide +kernel)) rfl
theorem tm_1_15 : (Jvm.Cond.methodLink "IdeaCage" (1 : Nat) ({ cls := "java/lang/Object", name := "<init>", desc := "()V" } : Jvm.MethodName)) ∈ tb := tbm (tb1 15 (by decide +kernel)) rfl
theorem tm_1_16 : (Jvm.Cond.instanceMethod ({ cls := "java/lang/Object", name := "<init>", desc := "()V" } : Jvm.MethodName)) ∈ tb := tbm (tb1 16 (by decide +kernel)) rfl
theorem tm_1_18 : (Jvm.Cond.classLink "IdeaCage" (7 : Nat) "IdeaCage$Text") ∈ tb := tbm (tb1 18 (by decide +kernel)) rfl
theorem tm_1_19 : (Jvm.Cond.instantiable "IdeaCage$Text" (2 : Nat)) ∈ tb := tbm (tb1 19 (by decide +kernel)) rfl
theorem tm_1_21 : (Jvm.Cond.instanceMethod ({ cls := "IdeaCage$Text", name := "<init>", desc := "()V" } : Jvm.MethodName)) ∈ tb := tbm (tb1 21 (by decide +kernel)) rfl
theorem tm_1_23 : (Jvm.Cond.methodLink "IdeaCage$Text" (3 : Nat) ({ cls := "java/lang/Object", name := "<init>", desc := "()V" } : Jvm.MethodName)) ∈ tb := tbm (tb1 23 (by decide +kernel)) rfl
theorem tm_1_24 : (Jvm.Cond.fieldLink "IdeaCage$Text" (11 : Nat) "IdeaCage$Text" "letters" "[I") ∈ tb := tbm (tb1 24 (by decide +kernel)) rfl
theorem tm_1_25 : (Jvm.Cond.fieldLink "IdeaCage$Text" (15 : Nat) "IdeaCage$Text" "length" "I") ∈ tb := tbm (tb1 25 (by decide +kernel)) rfl
theorem tm_1_26 : (Jvm.Cond.fieldLink "IdeaCage" (63 : Nat) "IdeaCage$Text" "length" "I") ∈ tb := tbm (tb1 26 (by decide +kernel)) rfl
theorem tm_1_27 : (Jvm.Cond.laysFinal "IdeaCage$Text" "IdeaCage$Text" "letters" "[I") ∈ tb := tbm (tb1 27 (by decide +kernel)) rfl
theorem tm_1_28 : (Jvm.Cond.soleField "IdeaCage$Text" "letters") ∈ tb := tbm (tb1 28 (by decide +kernel)) rfl
theorem tm_1_29 : (Jvm.Cond.lays "IdeaCage$Text" "IdeaCage$Text" "length" "I") ∈ tb := tbm (tb1 29 (by decide +kernel)) rfl
theorem tm_1_30 : (Jvm.Cond.soleField "IdeaCage$Text" "length") ∈ tb := tbm (tb1 30 (by decide +kernel)) rfl
theorem tm_1_32 : (Jvm.Cond.arrayClass Jvm.ClassFile.FieldType.int) ∈ tb := tbm (tb1 32 (by decide +kernel)) rfl
theorem tm_1_33 : (Jvm.Cond.classLink "IdeaCage" (16 : Nat) "IdeaCage$Plan") ∈ tb := tbm (tb1 33 (by decide +kernel)) rfl
theorem tm_1_34 : (Jvm.Cond.instantiable "IdeaCage$Plan" (8 : Nat)) ∈ tb := tbm (tb1 34 (by decide +kernel)) rfl
theorem tm_1_36 : (Jvm.Cond.instanceMethod ({ cls := "IdeaCage$Plan", name := "<init>", desc := "()V" } : Jvm.MethodName)) ∈ tb := tbm (tb1 36 (by decide +kernel)) rfl
theorem tm_1_38 : (Jvm.Cond.methodLink "IdeaCage$Plan" (3 : Nat) ({ cls := "java/lang/Object", name := "<init>", desc := "()V" } : Jvm.MethodName)) ∈ tb := tbm (tb1 38 (by decide +kernel)) rfl
theorem tm_1_39 : (Jvm.Cond.fieldLink "IdeaCage$Plan" (9 : Nat) "IdeaCage$Plan" "cells" "[I") ∈ tb := tbm (tb1 39 (by decide +kernel)) rfl
theorem tm_1_40 : (Jvm.Cond.fieldLink "IdeaCage$Plan" (15 : Nat) "IdeaCage$Plan" "kinds" "[I") ∈ tb := tbm (tb1 40 (by decide +kernel)) rfl
theorem tm_1_41 : (Jvm.Cond.fieldLink "IdeaCage$Plan" (18 : Nat) "IdeaCage$Plan" "poles" "I") ∈ tb := tbm (tb1 41 (by decide +kernel)) rfl
theorem tm_1_42 : (Jvm.Cond.fieldLink "IdeaCage" (77 : Nat) "IdeaCage$Plan" "poles" "I") ∈ tb := tbm (tb1 42 (by decide +kernel)) rfl
theorem tm_1_43 : (Jvm.Cond.fieldLink "IdeaCage$Plan" (22 : Nat) "IdeaCage$Plan" "parts" "I") ∈ tb := tbm (tb1 43 (by decide +kernel)) rfl
theorem tm_1_44 : (Jvm.Cond.fieldLink "IdeaCage" (80 : Nat) "IdeaCage$Plan" "parts" "I") ∈ tb := tbm (tb1 44 (by decide +kernel)) rfl
theorem tm_1_45 : (Jvm.Cond.fieldLink "IdeaCage$Plan" (25 : Nat) "IdeaCage$Plan" "plainCells" "I") ∈ tb := tbm (tb1 45 (by decide +kernel)) rfl
theorem tm_1_46 : (Jvm.Cond.fieldLink "IdeaCage$Plan" (28 : Nat) "IdeaCage$Plan" "keyCells" "I") ∈ tb := tbm (tb1 46 (by decide +kernel)) rfl
theorem tm_1_47 : (Jvm.Cond.fieldLink "IdeaCage$Plan" (31 : Nat) "IdeaCage$Plan" "stairCells" "I") ∈ tb := tbm (tb1 47 (by decide +kernel)) rfl
theorem tm_1_48 : (Jvm.Cond.fieldLink "IdeaCage$Plan" (34 : Nat) "IdeaCage$Plan" "airCells" "I") ∈ tb := tbm (tb1 48 (by decide +kernel)) rfl
theorem tm_1_49 : (Jvm.Cond.laysFinal "IdeaCage$Plan" "IdeaCage$Plan" "cells" "[I") ∈ tb := tbm (tb1 49 (by decide +kernel)) rfl
theorem tm_1_50 : (Jvm.Cond.soleField "IdeaCage$Plan" "cells") ∈ tb := tbm (tb1 50 (by decide +kernel)) rfl
theorem tm_1_51 : (Jvm.Cond.laysFinal "IdeaCage$Plan" "IdeaCage$Plan" "kinds" "[I") ∈ tb := tbm (tb1 51 (by decide +kernel)) rfl
theorem tm_1_52 : (Jvm.Cond.soleField "IdeaCage$Plan" "kinds") ∈ tb := tbm (tb1 52 (by decide +kernel)) rfl
theorem tm_1_53 : (Jvm.Cond.lays "IdeaCage$Plan" "IdeaCage$Plan" "poles" "I") ∈ tb := tbm (tb1 53 (by decide +kernel)) rfl
theorem tm_1_54 : (Jvm.Cond.soleField "IdeaCage$Plan" "poles") ∈ tb := tbm (tb1 54 (by decide +kernel)) rfl
theorem tm_1_55 : (Jvm.Cond.lays "IdeaCage$Plan" "IdeaCage$Plan" "parts" "I") ∈ tb := tbm (tb1 55 (by decide +kernel)) rfl
theorem tm_1_56 : (Jvm.Cond.soleField "IdeaCage$Plan" "parts") ∈ tb := tbm (tb1 56 (by decide +kernel)) rfl
theorem tm_1_57 : (Jvm.Cond.lays "IdeaCage$Plan" "IdeaCage$Plan" "plainCells" "I") ∈ tb := tbm (tb1 57 (by decide +kernel)) rfl
theorem tm_1_58 : (Jvm.Cond.soleField "IdeaCage$Plan" "plainCells") ∈ tb := tbm (tb1 58 (by decide +kernel)) rfl
theorem tm_1_59 : (Jvm.Cond.lays "IdeaCage$Plan" "IdeaCage$Plan" "keyCells" "I") ∈ tb := tbm (tb1 59 (by decide +kernel)) rfl
theorem tm_1_60 : (Jvm.Cond.soleField "IdeaCage$Plan" "keyCells") ∈ tb := tbm (tb1 60 (by decide +kernel)) rfl
theorem tm_1_61 : (Jvm.Cond.lays "IdeaCage$Plan" "IdeaCage$Plan" "stairCells" "I") ∈ tb := tbm (tb1 61 (by decide +kernel)) rfl
theorem tm_1_62 : (Jvm.Cond.soleField "IdeaCage$Plan" "stairCells") ∈ tb := tbm (tb1 62 (by decide +kernel)) rfl
theorem tm_1_63 : (Jvm.Cond.lays "IdeaCage$Plan" "IdeaCage$Plan" "airCells" "I") ∈ tb := tbm (tb1 63 (by decide +kernel)) rfl
theorem tm_1_64 : (Jvm.Cond.soleField "IdeaCage$Plan" "airCells") ∈ tb := tbm (tb1 64 (by decide +kernel)) rfl
theorem tm_1_66 : (Jvm.Cond.classLink "IdeaCage" (23 : Nat) "IdeaCage$Acts") ∈ tb := tbm (tb1 66 (by decide +kernel)) rfl
theorem tm_1_67 : (Jvm.Cond.instantiable "IdeaCage$Acts" (3 : Nat)) ∈ tb := tbm (tb1 67 (by decide +kernel)) rfl
theorem tm_1_69 : (Jvm.Cond.instanceMethod ({ cls := "IdeaCage$Acts", name := "<init>", desc := "()V" } : Jvm.MethodName)) ∈ tb := tbm (tb1 69 (by decide +kernel)) rfl
theorem tm_1_71 : (Jvm.Cond.methodLink "IdeaCage$Acts" (1 : Nat) ({ cls := "java/lang/Object", name := "<init>", desc := "()V" } : Jvm.MethodName)) ∈ tb := tbm (tb1 71 (by decide +kernel)) rfl
theorem tm_1_72 : (Jvm.Cond.fieldLink "IdeaCage$Acts" (9 : Nat) "IdeaCage$Acts" "frames" "[I") ∈ tb := tbm (tb1 72 (by decide +kernel)) rfl
theorem tm_1_73 : (Jvm.Cond.fieldLink "IdeaCage$Acts" (13 : Nat) "IdeaCage$Acts" "rainsBefore" "[I") ∈ tb := tbm (tb1 73 (by decide +kernel)) rfl
theorem tm_1_74 : (Jvm.Cond.fieldLink "IdeaCage$Acts" (16 : Nat) "IdeaCage$Acts" "count" "I") ∈ tb := tbm (tb1 74 (by decide +kernel)) rfl
theorem tm_1_75 : (Jvm.Cond.fieldLink "IdeaCage" (74 : Nat) "IdeaCage$Acts" "count" "I") ∈ tb := tbm (tb1 75 (by decide +kernel)) rfl
theorem tm_1_76 : (Jvm.Cond.laysFinal "IdeaCage$Acts" "IdeaCage$Acts" "frames" "[I") ∈ tb := tbm (tb1 76 (by decide +kernel)) rfl
theorem tm_1_77 : (Jvm.Cond.soleField "IdeaCage$Acts" "frames") ∈ tb := tbm (tb1 77 (by decide +kernel)) rfl
theorem tm_1_78 : (Jvm.Cond.laysFinal "IdeaCage$Acts" "IdeaCage$Acts" "rainsBefore" "[I") ∈ tb := tbm (tb1 78 (by decide +kernel)) rfl
theorem tm_1_79 : (Jvm.Cond.soleField "IdeaCage$Acts" "rainsBefore") ∈ tb := tbm (tb1 79 (by decide +kernel)) rfl
theorem tm_1_80 : (Jvm.Cond.lays "IdeaCage$Acts" "IdeaCage$Acts" "count" "I") ∈ tb := tbm (tb1 80 (by decide +kernel)) rfl
theorem tm_1_81 : (Jvm.Cond.soleField "IdeaCage$Acts" "count") ∈ tb := tbm (tb1 81 (by decide +kernel)) rfl
theorem tm_1_83 : (Jvm.Cond.classLink "IdeaCage" (30 : Nat) "IdeaCage$Tries") ∈ tb := tbm (tb1 83 (by decide +kernel)) rfl
theorem tm_1_84 : (Jvm.Cond.instantiable "IdeaCage$Tries" (3 : Nat)) ∈ tb := tbm (tb1 84 (by decide +kernel)) rfl
theorem tm_1_86 : (Jvm.Cond.instanceMethod ({ cls := "IdeaCage$Tries", name := "<init>", desc := "()V" } : Jvm.MethodName)) ∈ tb := tbm (tb1 86 (by decide +kernel)) rfl
theorem tm_1_88 : (Jvm.Cond.methodLink "IdeaCage$Tries" (3 : Nat) ({ cls := "java/lang/Object", name := "<init>", desc := "()V" } : Jvm.MethodName)) ∈ tb := tbm (tb1 88 (by decide +kernel)) rfl
theorem tm_1_89 : (Jvm.Cond.fieldLink "IdeaCage$Tries" (11 : Nat) "IdeaCage$Tries" "abouts" "[I") ∈ tb := tbm (tb1 89 (by decide +kernel)) rfl
theorem tm_1_90 : (Jvm.Cond.fieldLink "IdeaCage$Tries" (15 : Nat) "IdeaCage$Tries" "stoods" "[Z") ∈ tb := tbm (tb1 90 (by decide +kernel)) rfl
theorem tm_1_91 : (Jvm.Cond.fieldLink "IdeaCage$Tries" (19 : Nat) "IdeaCage$Tries" "count" "I") ∈ tb := tbm (tb1 91 (by decide +kernel)) rfl
theorem tm_1_92 : (Jvm.Cond.fieldLink "IdeaCage" (102 : Nat) "IdeaCage$Tries" "count" "I") ∈ tb := tbm (tb1 92 (by decide +kernel)) rfl
theorem tm_1_93 : (Jvm.Cond.laysFinal "IdeaCage$Tries" "IdeaCage$Tries" "abouts" "[I") ∈ tb := tbm (tb1 93 (by decide +kernel)) rfl
theorem tm_1_94 : (Jvm.Cond.soleField "IdeaCage$Tries" "abouts") ∈ tb := tbm (tb1 94 (by decide +kernel)) rfl
theorem tm_1_95 : (Jvm.Cond.laysFinal "IdeaCage$Tries" "IdeaCage$Tries" "stoods" "[Z") ∈ tb := tbm (tb1 95 (by decide +kernel)) rfl
theorem tm_1_96 : (Jvm.Cond.soleField "IdeaCage$Tries" "stoods") ∈ tb := tbm (tb1 96 (by decide +kernel)) rfl
theorem tm_1_97 : (Jvm.Cond.lays "IdeaCage$Tries" "IdeaCage$Tries" "count" "I") ∈ tb := tbm (tb1 97 (by decide +kernel)) rfl
theorem tm_1_98 : (Jvm.Cond.soleField "IdeaCage$Tries" "count") ∈ tb := tbm (tb1 98 (by decide +kernel)) rfl
theorem tm_1_100 : (Jvm.Cond.arrayClass Jvm.ClassFile.FieldType.boolean) ∈ tb := tbm (tb1 100 (by decide +kernel)) rfl
theorem tm_1_101 : (Jvm.Cond.fieldLink "IdeaCage" (10 : Nat) "IdeaCage" "text" "LIdeaCage$Text;") ∈ tb := tbm (tb1 101 (by decide +kernel)) rfl
theorem tm_1_102 : (Jvm.Cond.fieldLink "IdeaCage" (19 : Nat) "IdeaCage" "plan" "LIdeaCage$Plan;") ∈ tb := tbm (tb1 102 (by decide +kernel)) rfl
theorem tm_1_103 : (Jvm.Cond.fieldLink "IdeaCage" (26 : Nat) "IdeaCage" "acts" "LIdeaCage$Acts;") ∈ tb := tbm (tb1 103 (by decide +kernel)) rfl
theorem tm_1_104 : (Jvm.Cond.fieldLink "IdeaCage" (33 : Nat) "IdeaCage" "tries" "LIdeaCage$Tries;") ∈ tb := tbm (tb1 104 (by decide +kernel)) rfl
theorem tm_1_105 : (Jvm.Cond.fieldLink "IdeaCage" (37 : Nat) "IdeaCage" "kept" "[Z") ∈ tb := tbm (tb1 105 (by decide +kernel)) rfl
theorem tm_1_106 : (Jvm.Cond.fieldLink "IdeaCage" (41 : Nat) "IdeaCage" "keptFrames" "[I") ∈ tb := tbm (tb1 106 (by decide +kernel)) rfl
theorem tm_1_107 : (Jvm.Cond.fieldLink "IdeaCage" (45 : Nat) "IdeaCage" "keptRains" "[I") ∈ tb := tbm (tb1 107 (by decide +kernel)) rfl
theorem tm_1_108 : (Jvm.Cond.fieldLink "IdeaCage" (48 : Nat) "IdeaCage" "now" "I") ∈ tb := tbm (tb1 108 (by decide +kernel)) rfl
theorem tm_1_109 : (Jvm.Cond.fieldLink "IdeaCage" (52 : Nat) "IdeaCage" "rains" "I") ∈ tb := tbm (tb1 109 (by decide +kernel)) rfl
theorem tm_1_110 : (Jvm.Cond.fieldLink "IdeaCage" (55 : Nat) "IdeaCage" "theSeed" "J") ∈ tb := tbm (tb1 110 (by decide +kernel)) rfl
theorem tm_1_111 : (Jvm.Cond.laysFinal "IdeaCage" "IdeaCage" "text" "LIdeaCage$Text;") ∈ tb := tbm (tb1 111 (by decide +kernel)) rfl
theorem tm_1_112 : (Jvm.Cond.soleField "IdeaCage" "text") ∈ tb := tbm (tb1 112 (by decide +kernel)) rfl
theorem tm_1_113 : (Jvm.Cond.laysFinal "IdeaCage" "IdeaCage" "plan" "LIdeaCage$Plan;") ∈ tb := tbm (tb1 113 (by decide +kernel)) rfl
theorem tm_1_114 : (Jvm.Cond.soleField "IdeaCage" "plan") ∈ tb := tbm (tb1 114 (by decide +kernel)) rfl
theorem tm_1_115 : (Jvm.Cond.laysFinal "IdeaCage" "IdeaCage" "acts" "LIdeaCage$Acts;") ∈ tb := tbm (tb1 115 (by decide +kernel)) rfl
theorem tm_1_116 : (Jvm.Cond.soleField "IdeaCage" "acts") ∈ tb := tbm (tb1 116 (by decide +kernel)) rfl
theorem tm_1_117 : (Jvm.Cond.laysFinal "IdeaCage" "IdeaCage" "tries" "LIdeaCage$Tries;") ∈ tb := tbm (tb1 117 (by decide +kernel)) rfl
theorem tm_1_118 : (Jvm.Cond.soleField "IdeaCage" "tries") ∈ tb := tbm (tb1 118 (by decide +kernel)) rfl
theorem tm_1_119 : (Jvm.Cond.laysFinal "IdeaCage" "IdeaCage" "kept" "[Z") ∈ tb := tbm (tb1 119 (by decide +kernel)) rfl
theorem tm_1_120 : (Jvm.Cond.soleField "IdeaCage" "kept") ∈ tb := tbm (tb1 120 (by decide +kernel)) rfl
theorem tm_1_121 : (Jvm.Cond.laysFinal "IdeaCage" "IdeaCage" "keptFrames" "[I") ∈ tb := tbm (tb1 121 (by decide +kernel)) rfl
theorem tm_1_122 : (Jvm.Cond.soleField "IdeaCage" "keptFrames") ∈ tb := tbm (tb1 122 (by decide +kernel)) rfl
theorem tm_1_123 : (Jvm.Cond.laysFinal "IdeaCage" "IdeaCage" "keptRains" "[I") ∈ tb := tbm (tb1 123 (by decide +kernel)) rfl
theorem tm_1_124 : (Jvm.Cond.soleField "IdeaCage" "keptRains") ∈ tb := tbm (tb1 124 (by decide +kernel)) rfl
theorem tm_1_125 : (Jvm.Cond.lays "IdeaCage" "IdeaCage" "now" "I") ∈ tb := tbm (tb1 125 (by decide +kernel)) rfl
theorem tm_1_126 : (Jvm.Cond.soleField "IdeaCage" "now") ∈ tb := tbm (tb1 126 (by decide +kernel)) rfl
theorem tm_1_127 : (Jvm.Cond.lays "IdeaCage" "IdeaCage" "rains" "I") ∈ tb := tbm (tb1 127 (by decide +kernel)) rfl
theorem tm_1_128 : (Jvm.Cond.soleField "IdeaCage" "rains") ∈ tb := tbm (tb1 128 (by decide +kernel)) rfl
theorem tm_1_129 : (Jvm.Cond.lays "IdeaCage" "IdeaCage" "theSeed" "J") ∈ tb := tbm (tb1 129 (by decide +kernel)) rfl
theorem tm_1_130 : (Jvm.Cond.soleField "IdeaCage" "theSeed") ∈ tb := tbm (tb1 130 (by decide +kernel)) rfl
theorem tm_1_132 : (Jvm.Cond.methodLink "IdeaCageLaw" (13 : Nat) ({ cls := "IdeaCage", name := "write", desc := "(I)I" } : Jvm.MethodName)) ∈ tb := tbm (tb1 132 (by decide +kernel)) rfl
theorem tm_1_133 : (Jvm.Cond.instanceMethod ({ cls := "IdeaCage", name := "write", desc := "(I)I" } : Jvm.MethodName)) ∈ tb := tbm (tb1 133 (by decide +kernel)) rfl
theorem tm_1_134 : (Jvm.Cond.selects "IdeaCage" ({ cls := "IdeaCage", name := "write", desc := "(I)I" } : Jvm.MethodName) ({ cls := "IdeaCage", name := "write", desc := "(I)I" } : Jvm.MethodName)) ∈ tb := tbm (tb1 134 (by decide +kernel)) rfl
theorem tm_1_136 : (Jvm.Cond.methodLink "IdeaCage" (59 : Nat) ({ cls := "IdeaCage$Text", name := "append", desc := "(I)Z" } : Jvm.MethodName)) ∈ tb := tbm (tb1 136 (by decide +kernel)) rfl
theorem tm_1_137 : (Jvm.Cond.instanceMethod ({ cls := "IdeaCage$Text", name := "append", desc := "(I)Z" } : Jvm.MethodName)) ∈ tb := tbm (tb1 137 (by decide +kernel)) rfl
theorem tm_1_138 : (Jvm.Cond.selects "IdeaCage$Text" ({ cls := "IdeaCage$Text", name := "append", desc := "(I)Z" } : Jvm.MethodName) ({ cls := "IdeaCage$Text", name := "append", desc := "(I)Z" } : Jvm.MethodName)) ∈ tb := tbm (tb1 138 (by decide +kernel)) rfl
theorem tm_1_140 : (Jvm.Cond.methodLink "IdeaCageLaw" (18 : Nat) ({ cls := "IdeaCage", name := "wipe", desc := "()I" } : Jvm.MethodName)) ∈ tb := tbm (tb1 140 (by decide +kernel)) rfl
theorem tm_1_141 : (Jvm.Cond.instanceMethod ({ cls := "IdeaCage", name := "wipe", desc := "()I" } : Jvm.MethodName)) ∈ tb := tbm (tb1 141 (by decide +kernel)) rfl
theorem tm_1_142 : (Jvm.Cond.selects "IdeaCage" ({ cls := "IdeaCage", name := "wipe", desc := "()I" } : Jvm.MethodName) ({ cls := "IdeaCage", name := "wipe", desc := "()I" } : Jvm.MethodName)) ∈ tb := tbm (tb1 142 (by decide +kernel)) rfl
theorem tm_1_144 : (Jvm.Cond.methodLink "IdeaCageLaw" (23 : Nat) ({ cls := "IdeaCage", name := "fault", desc := "()I" } : Jvm.MethodName)) ∈ tb := tbm (tb1 144 (by decide +kernel)) rfl
theorem tm_1_145 : (Jvm.Cond.instanceMethod ({ cls := "IdeaCage", name := "fault", desc := "()I" } : Jvm.MethodName)) ∈ tb := tbm (tb1 145 (by decide +kernel)) rfl
theorem tm_1_146 : (Jvm.Cond.selects "IdeaCage" ({ cls := "IdeaCage", name := "fault", desc := "()I" } : Jvm.MethodName) ({ cls := "IdeaCage", name := "fault", desc := "()I" } : Jvm.MethodName)) ∈ tb := tbm (tb1 146 (by decide +kernel)) rfl
theorem tm_1_148 : (Jvm.Cond.methodLink "IdeaCage" (66 : Nat) ({ cls := "IdeaCage$Text", name := "firstFault", desc := "()I" } : Jvm.MethodName)) ∈ tb := tbm (tb1 148 (by decide +kernel)) rfl
theorem tm_1_149 : (Jvm.Cond.instanceMethod ({ cls := "IdeaCage$Text", name := "firstFault", desc := "()I" } : Jvm.MethodName)) ∈ tb := tbm (tb1 149 (by decide +kernel)) rfl
theorem tm_1_150 : (Jvm.Cond.selects "IdeaCage$Text" ({ cls := "IdeaCage$Text", name := "firstFault", desc := "()I" } : Jvm.MethodName) ({ cls := "IdeaCage$Text", name := "firstFault", desc := "()I" } : Jvm.MethodName)) ∈ tb := tbm (tb1 150 (by decide +kernel)) rfl
theorem tm_1_152 : (Jvm.Cond.methodLink "IdeaCage$Text" (19 : Nat) ({ cls := "IdeaCage$Text", name := "letterAt", desc := "(I)I" } : Jvm.MethodName)) ∈ tb := tbm (tb1 152 (by decide +kernel)) rfl
theorem tm_1_153 : (Jvm.Cond.instanceMethod ({ cls := "IdeaCage$Text", name := "letterAt", desc := "(I)I" } : Jvm.MethodName)) ∈ tb := tbm (tb1 153 (by decide +kernel)) rfl
theorem tm_1_154 : (Jvm.Cond.selects "IdeaCage$Text" ({ cls := "IdeaCage$Text", name := "letterAt", desc := "(I)I" } : Jvm.MethodName) ({ cls := "IdeaCage$Text", name := "letterAt", desc := "(I)I" } : Jvm.MethodName)) ∈ tb := tbm (tb1 154 (by decide +kernel)) rfl
theorem tm_1_156 : (Jvm.Cond.methodLink "IdeaCage$Text" (23 : Nat) ({ cls := "IdeaCage$Text", name := "fits", desc := "(III)Z" } : Jvm.MethodName)) ∈ tb := tbm (tb1 156 (by decide +kernel)) rfl
theorem tm_1_157 : (Jvm.Cond.static ({ cls := "IdeaCage$Text", name := "fits", desc := "(III)Z" } : Jvm.MethodName)) ∈ tb := tbm (tb1 157 (by decide +kernel)) rfl
theorem tm_1_159 : (Jvm.Cond.methodLink "IdeaCageLaw" (27 : Nat) ({ cls := "IdeaCage", name := "idea", desc := "()I" } : Jvm.MethodName)) ∈ tb := tbm (tb1 159 (by decide +kernel)) rfl
theorem tm_1_160 : (Jvm.Cond.instanceMethod ({ cls := "IdeaCage", name := "idea", desc := "()I" } : Jvm.MethodName)) ∈ tb := tbm (tb1 160 (by decide +kernel)) rfl
theorem tm_1_161 : (Jvm.Cond.selects "IdeaCage" ({ cls := "IdeaCage", name := "idea", desc := "()I" } : Jvm.MethodName) ({ cls := "IdeaCage", name := "idea", desc := "()I" } : Jvm.MethodName)) ∈ tb := tbm (tb1 161 (by decide +kernel)) rfl
theorem tm_1_163 : (Jvm.Cond.methodLink "IdeaCage" (70 : Nat) ({ cls := "IdeaCage$Plan", name := "learn", desc := "(LIdeaCage$Text;)V" } : Jvm.MethodName)) ∈ tb := tbm (tb1 163 (by decide +kernel)) rfl
theorem tm_1_164 : (Jvm.Cond.instanceMethod ({ cls := "IdeaCage$Plan", name := "learn", desc := "(LIdeaCage$Text;)V" } : Jvm.MethodName)) ∈ tb := tbm (tb1 164 (by decide +kernel)) rfl
theorem tm_1_165 : (Jvm.Cond.selects "IdeaCage$Plan" ({ cls := "IdeaCage$Plan", name := "learn", desc := "(LIdeaCage$Text;)V" } : Jvm.MethodName) ({ cls := "IdeaCage$Plan", name := "learn", desc := "(LIdeaCage$Text;)V" } : Jvm.MethodName)) ∈ tb := tbm (tb1 165 (by decide +kernel)) rfl
theorem tm_1_167 : (Jvm.Cond.methodLink "IdeaCage$Plan" (37 : Nat) ({ cls := "IdeaCage$Text", name := "letterAt", desc := "(I)I" } : Jvm.MethodName)) ∈ tb := tbm (tb1 167 (by decide +kernel)) rfl
theorem tm_1_168 : (Jvm.Cond.methodLink "IdeaCage$Plan" (43 : Nat) ({ cls := "IdeaCage$Text", name := "parts", desc := "()I" } : Jvm.MethodName)) ∈ tb := tbm (tb1 168 (by decide +kernel)) rfl
theorem tm_1_169 : (Jvm.Cond.instanceMethod ({ cls := "IdeaCage$Text", name := "parts", desc := "()I" } : Jvm.MethodName)) ∈ tb := tbm (tb1 169 (by decide +kernel)) rfl
theorem tm_1_170 : (Jvm.Cond.selects "IdeaCage$Text" ({ cls := "IdeaCage$Text", name := "parts", desc := "()I" } : Jvm.MethodName) ({ cls := "IdeaCage$Text", name := "parts", desc := "()I" } : Jvm.MethodName)) ∈ tb := tbm (tb1 170 (by decide +kernel)) rfl
theorem tm_1_172 : (Jvm.Cond.methodLink "IdeaCage$Plan" (46 : Nat) ({ cls := "java/lang/Math", name := "min", desc := "(II)I" } : Jvm.MethodName)) ∈ tb := tbm (tb1 172 (by decide +kernel)) rfl
theorem tm_1_173 : (Jvm.Cond.static ({ cls := "java/lang/Math", name := "min", desc := "(II)I" } : Jvm.MethodName)) ∈ tb := tbm (tb1 173 (by decide +kernel)) rfl
theorem tm_1_175 : (Jvm.Cond.methodLink "IdeaCage$Plan" (52 : Nat) ({ cls := "IdeaCage$Text", name := "cellOfPart", desc := "(I)I" } : Jvm.MethodName)) ∈ tb := tbm (tb1 175 (by decide +kernel)) rfl
theorem tm_1_176 : (Jvm.Cond.instanceMethod ({ cls := "IdeaCage$Text", name := "cellOfPart", desc := "(I)I" } : Jvm.MethodName)) ∈ tb := tbm (tb1 176 (by decide +kernel)) rfl
theorem tm_1_177 : (Jvm.Cond.selects "IdeaCage$Text" ({ cls := "IdeaCage$Text", name := "cellOfPart", desc := "(I)I" } : Jvm.MethodName) ({ cls := "IdeaCage$Text", name := "cellOfPart", desc := "(I)I" } : Jvm.MethodName)) ∈ tb := tbm (tb1 177 (by decide +kernel)) rfl
theorem tm_1_179 : (Jvm.Cond.methodLink "IdeaCage$Plan" (55 : Nat) ({ cls := "IdeaCage$Text", name := "kindOfPart", desc := "(I)I" } : Jvm.MethodName)) ∈ tb := tbm (tb1 179 (by decide +kernel)) rfl
theorem tm_1_180 : (Jvm.Cond.instanceMethod ({ cls := "IdeaCage$Text", name := "kindOfPart", desc := "(I)I" } : Jvm.MethodName)) ∈ tb := tbm (tb1 180 (by decide +kernel)) rfl
theorem tm_1_181 : (Jvm.Cond.selects "IdeaCage$Text" ({ cls := "IdeaCage$Text", name := "kindOfPart", desc := "(I)I" } : Jvm.MethodName) ({ cls := "IdeaCage$Text", name := "kindOfPart", desc := "(I)I" } : Jvm.MethodName)) ∈ tb := tbm (tb1 181 (by decide +kernel)) rfl
theorem tm_1_183 : (Jvm.Cond.methodLink "IdeaCage$Plan" (58 : Nat) ({ cls := "IdeaCage$Plan", name := "cellsOfKind", desc := "(I)I" } : Jvm.MethodName)) ∈ tb := tbm (tb1 183 (by decide +kernel)) rfl
theorem tm_1_184 : (Jvm.Cond.instanceMethod ({ cls := "IdeaCage$Plan", name := "cellsOfKind", desc := "(I)I" } : Jvm.MethodName)) ∈ tb := tbm (tb1 184 (by decide +kernel)) rfl
theorem tm_1_185 : (Jvm.Cond.selects "IdeaCage$Plan" ({ cls := "IdeaCage$Plan", name := "cellsOfKind", desc := "(I)I" } : Jvm.MethodName) ({ cls := "IdeaCage$Plan", name := "cellsOfKind", desc := "(I)I" } : Jvm.MethodName)) ∈ tb := tbm (tb1 185 (by decide +kernel)) rfl
theorem tm_1_187 : (Jvm.Cond.methodLink "IdeaCageLaw" (31 : Nat) ({ cls := "IdeaCage", name := "about", desc := "(I)I" } : Jvm.MethodName)) ∈ tb := tbm (tb1 187 (by decide +kernel)) rfl
theorem tm_1_188 : (Jvm.Cond.instanceMethod ({ cls := "IdeaCage", name := "about", desc := "(I)I" } : Jvm.MethodName)) ∈ tb := tbm (tb1 188 (by decide +kernel)) rfl
theorem tm_1_189 : (Jvm.Cond.selects "IdeaCage" ({ cls := "IdeaCage", name := "about", desc := "(I)I" } : Jvm.MethodName) ({ cls := "IdeaCage", name := "about", desc := "(I)I" } : Jvm.MethodName)) ∈ tb := tbm (tb1 189 (by decide +kernel)) rfl
theorem tm_1_191 : (Jvm.Cond.methodLink "IdeaCage" (83 : Nat) ({ cls := "IdeaCage$Plan", name := "store", desc := "(I)I" } : Jvm.MethodName)) ∈ tb := tbm (tb1 191 (by decide +kernel)) rfl
theorem tm_1_192 : (Jvm.Cond.instanceMethod ({ cls := "IdeaCage$Plan", name := "store", desc := "(I)I" } : Jvm.MethodName)) ∈ tb := tbm (tb1 192 (by decide +kernel)) rfl
theorem tm_1_193 : (Jvm.Cond.selects "IdeaCage$Plan" ({ cls := "IdeaCage$Plan", name := "store", desc := "(I)I" } : Jvm.MethodName) ({ cls := "IdeaCage$Plan", name := "store", desc := "(I)I" } : Jvm.MethodName)) ∈ tb := tbm (tb1 193 (by decide +kernel)) rfl
theorem tm_1_195 : (Jvm.Cond.methodLink "IdeaCage$Plan" (65 : Nat) ({ cls := "IdeaCage$Frame", name := "poles", desc := "(I)I" } : Jvm.MethodName)) ∈ tb := tbm (tb1 195 (by decide +kernel)) rfl
theorem tm_1_196 : (Jvm.Cond.static ({ cls := "IdeaCage$Frame", name := "poles", desc := "(I)I" } : Jvm.MethodName)) ∈ tb := tbm (tb1 196 (by decide +kernel)) rfl
theorem tm_1_198 : (Jvm.Cond.constant "IdeaCage$Frame" (9 : Nat) (65535 : Int32)) ∈ tb := tbm (tb1 198 (by decide +kernel)) rfl
theorem tm_1_199 : (Jvm.Cond.methodLink "IdeaCage$Plan" (69 : Nat) ({ cls := "java/lang/Integer", name := "bitCount", desc := "(I)I" } : Jvm.MethodName)) ∈ tb := tbm (tb1 199 (by decide +kernel)) rfl
theorem tm_1_200 : (Jvm.Cond.static ({ cls := "java/lang/Integer", name := "bitCount", desc := "(I)I" } : Jvm.MethodName)) ∈ tb := tbm (tb1 200 (by decide +kernel)) rfl
theorem tm_1_202 : (Jvm.Cond.constant "java/lang/Integer" (265 : Nat) (1431655765 : Int32)) ∈ tb := tbm (tb1 202 (by decide +kernel)) rfl
theorem tm_1_203 : (Jvm.Cond.constant "java/lang/Integer" (266 : Nat) (858993459 : Int32)) ∈ tb := tbm (tb1 203 (by decide +kernel)) rfl
theorem tm_1_204 : (Jvm.Cond.constant "java/lang/Integer" (267 : Nat) (252645135 : Int32)) ∈ tb := tbm (tb1 204 (by decide +kernel)) rfl
theorem tm_1_205 : (Jvm.Cond.methodLink "IdeaCage" (87 : Nat) ({ cls := "IdeaCage", name := "allPoles", desc := "()I" } : Jvm.MethodName)) ∈ tb := tbm (tb1 205 (by decide +kernel)) rfl
theorem tm_1_207 : (Jvm.Cond.instanceMethod ({ cls := "IdeaCage", name := "allPoles", desc := "()I" } : Jvm.MethodName)) ∈ tb := tbm (tb1 207 (by decide +kernel)) rfl
theorem tm_1_209 : (Jvm.Cond.methodLink "IdeaCage" (112 : Nat) ({ cls := "IdeaCage$Frame", name := "poles", desc := "(I)I" } : Jvm.MethodName)) ∈ tb := tbm (tb1 209 (by decide +kernel)) rfl
theorem tm_1_210 : (Jvm.Cond.methodLink "IdeaCage" (176 : Nat) ({ cls := "java/lang/Integer", name := "bitCount", desc := "(I)I" } : Jvm.MethodName)) ∈ tb := tbm (tb1 210 (by decide +kernel)) rfl
theorem tm_1_211 : (Jvm.Cond.methodLink "IdeaCage" (90 : Nat) ({ cls := "IdeaCage$Frame", name := "had", desc := "(I)I" } : Jvm.MethodName)) ∈ tb := tbm (tb1 211 (by decide +kernel)) rfl
theorem tm_1_212 : (Jvm.Cond.static ({ cls := "IdeaCage$Frame", name := "had", desc := "(I)I" } : Jvm.MethodName)) ∈ tb := tbm (tb1 212 (by decide +kernel)) rfl
theorem tm_1_214 : (Jvm.Cond.methodLink "IdeaCage" (95 : Nat) ({ cls := "IdeaCage$Plan", name := "partsAt", desc := "(I)I" } : Jvm.MethodName)) ∈ tb := tbm (tb1 214 (by decide +kernel)) rfl
theorem tm_1_215 : (Jvm.Cond.instanceMethod ({ cls := "IdeaCage$Plan", name := "partsAt", desc := "(I)I" } : Jvm.MethodName)) ∈ tb := tbm (tb1 215 (by decide +kernel)) rfl
theorem tm_1_216 : (Jvm.Cond.selects "IdeaCage$Plan" ({ cls := "IdeaCage$Plan", name := "partsAt", desc := "(I)I" } : Jvm.MethodName) ({ cls := "IdeaCage$Plan", name := "partsAt", desc := "(I)I" } : Jvm.MethodName)) ∈ tb := tbm (tb1 216 (by decide +kernel)) rfl
theorem tm_1_218 : (Jvm.Cond.methodLink "IdeaCage" (98 : Nat) ({ cls := "IdeaCage$Plan", name := "standing", desc := "(II)I" } : Jvm.MethodName)) ∈ tb := tbm (tb1 218 (by decide +kernel)) rfl
theorem tm_1_219 : (Jvm.Cond.instanceMethod ({ cls := "IdeaCage$Plan", name := "standing", desc := "(II)I" } : Jvm.MethodName)) ∈ tb := tbm (tb1 219 (by decide +kernel)) rfl
theorem tm_1_220 : (Jvm.Cond.selects "IdeaCage$Plan" ({ cls := "IdeaCage$Plan", name := "standing", desc := "(II)I" } : Jvm.MethodName) ({ cls := "IdeaCage$Plan", name := "standing", desc := "(II)I" } : Jvm.MethodName)) ∈ tb := tbm (tb1 220 (by decide +kernel)) rfl
theorem tm_1_222 : (Jvm.Cond.methodLink "IdeaCage$Plan" (95 : Nat) ({ cls := "IdeaCage$Plan", name := "carriedBy", desc := "(I)I" } : Jvm.MethodName)) ∈ tb := tbm (tb1 222 (by decide +kernel)) rfl
theorem tm_1_223 : (Jvm.Cond.instanceMethod ({ cls := "IdeaCage$Plan", name := "carriedBy", desc := "(I)I" } : Jvm.MethodName)) ∈ tb := tbm (tb1 223 (by decide +kernel)) rfl
theorem tm_1_224 : (Jvm.Cond.selects "IdeaCage$Plan" ({ cls := "IdeaCage$Plan", name := "carriedBy", desc := "(I)I" } : Jvm.MethodName) ({ cls := "IdeaCage$Plan", name := "carriedBy", desc := "(I)I" } : Jvm.MethodName)) ∈ tb := tbm (tb1 224 (by decide +kernel)) rfl
theorem tm_1_226 : (Jvm.Cond.constant "IdeaCage$Plan" (98 : Nat) (-34953 : Int32)) ∈ tb := tbm (tb1 226 (by decide +kernel)) rfl
theorem tm_1_227 : (Jvm.Cond.methodLink "IdeaCageLaw" (35 : Nat) ({ cls := "IdeaCage", name := "part", desc := "(II)I" } : Jvm.MethodName)) ∈ tb := tbm (tb1 227 (by decide +kernel)) rfl
theorem tm_1_228 : (Jvm.Cond.instanceMethod ({ cls := "IdeaCage", name := "part", desc := "(II)I" } : Jvm.MethodName)) ∈ tb := tbm (tb1 228 (by decide +kernel)) rfl
theorem tm_1_229 : (Jvm.Cond.selects "IdeaCage" ({ cls := "IdeaCage", name := "part", desc := "(II)I" } : Jvm.MethodName) ({ cls := "IdeaCage", name := "part", desc := "(II)I" } : Jvm.MethodName)) ∈ tb := tbm (tb1 229 (by decide +kernel)) rfl
theorem tm_1_231 : (Jvm.Cond.methodLink "IdeaCage" (103 : Nat) ({ cls := "IdeaCage$Plan", name := "isPart", desc := "(I)Z" } : Jvm.MethodName)) ∈ tb := tbm (tb1 231 (by decide +kernel)) rfl
theorem tm_1_232 : (Jvm.Cond.instanceMethod ({ cls := "IdeaCage$Plan", name := "isPart", desc := "(I)Z" } : Jvm.MethodName)) ∈ tb := tbm (tb1 232 (by decide +kernel)) rfl
theorem tm_1_233 : (Jvm.Cond.selects "IdeaCage$Plan" ({ cls := "IdeaCage$Plan", name := "isPart", desc := "(I)Z" } : Jvm.MethodName) ({ cls := "IdeaCage$Plan", name := "isPart", desc := "(I)Z" } : Jvm.MethodName)) ∈ tb := tbm (tb1 233 (by decide +kernel)) rfl
theorem tm_1_235 : (Jvm.Cond.methodLink "IdeaCage" (106 : Nat) ({ cls := "IdeaCage$Plan", name := "cellOf", desc := "(I)I" } : Jvm.MethodName)) ∈ tb := tbm (tb1 235 (by decide +kernel)) rfl
theorem tm_1_236 : (Jvm.Cond.instanceMethod ({ cls := "IdeaCage$Plan", name := "cellOf", desc := "(I)I" } : Jvm.MethodName)) ∈ tb := tbm (tb1 236 (by decide +kernel)) rfl
theorem tm_1_237 : (Jvm.Cond.selects "IdeaCage$Plan" ({ cls := "IdeaCage$Plan", name := "cellOf", desc := "(I)I" } : Jvm.MethodName) ({ cls := "IdeaCage$Plan", name := "cellOf", desc := "(I)I" } : Jvm.MethodName)) ∈ tb := tbm (tb1 237 (by decide +kernel)) rfl
theorem tm_1_239 : (Jvm.Cond.methodLink "IdeaCage$Plan" (61 : Nat) ({ cls := "IdeaCage$Plan", name := "isPart", desc := "(I)Z" } : Jvm.MethodName)) ∈ tb := tbm (tb1 239 (by decide +kernel)) rfl
theorem tm_2_0 : (Jvm.Cond.methodLink "IdeaCage" (109 : Nat) ({ cls := "IdeaCage$Plan", name := "kindOf", desc := "(I)I" } : Jvm.MethodName)) ∈ tb := tbm (tb2 0 (by decide +kernel)) rfl
theorem tm_2_1 : (Jvm.Cond.instanceMethod ({ cls := "IdeaCage$Plan", name := "kindOf", desc := "(I)I" } : Jvm.MethodName)) ∈ tb := tbm (tb2 1 (by decide +kernel)) rfl
theorem tm_2_2 : (Jvm.Cond.selects "IdeaCage$Plan" ({ cls := "IdeaCage$Plan", name := "kindOf", desc := "(I)I" } : Jvm.MethodName) ({ cls := "IdeaCage$Plan", name := "kindOf", desc := "(I)I" } : Jvm.MethodName)) ∈ tb := tbm (tb2 2 (by decide +kernel)) rfl
theorem tm_2_4 : (Jvm.Cond.methodLink "IdeaCageLaw" (40 : Nat) ({ cls := "IdeaCage", name := "column", desc := "(I)I" } : Jvm.MethodName)) ∈ tb := tbm (tb2 4 (by decide +kernel)) rfl
theorem tm_2_5 : (Jvm.Cond.instanceMethod ({ cls := "IdeaCage", name := "column", desc := "(I)I" } : Jvm.MethodName)) ∈ tb := tbm (tb2 5 (by decide +kernel)) rfl
theorem tm_2_6 : (Jvm.Cond.selects "IdeaCage" ({ cls := "IdeaCage", name := "column", desc := "(I)I" } : Jvm.MethodName) ({ cls := "IdeaCage", name := "column", desc := "(I)I" } : Jvm.MethodName)) ∈ tb := tbm (tb2 6 (by decide +kernel)) rfl
theorem tm_2_8 : (Jvm.Cond.methodLink "IdeaCage" (114 : Nat) ({ cls := "IdeaCage", name := "isColumn", desc := "(I)Z" } : Jvm.MethodName)) ∈ tb := tbm (tb2 8 (by decide +kernel)) rfl
theorem tm_2_9 : (Jvm.Cond.static ({ cls := "IdeaCage", name := "isColumn", desc := "(I)Z" } : Jvm.MethodName)) ∈ tb := tbm (tb2 9 (by decide +kernel)) rfl
theorem tm_2_11 : (Jvm.Cond.methodLink "IdeaCage" (117 : Nat) ({ cls := "IdeaCage$Frame", name := "height", desc := "(II)I" } : Jvm.MethodName)) ∈ tb := tbm (tb2 11 (by decide +kernel)) rfl
theorem tm_2_12 : (Jvm.Cond.static ({ cls := "IdeaCage$Frame", name := "height", desc := "(II)I" } : Jvm.MethodName)) ∈ tb := tbm (tb2 12 (by decide +kernel)) rfl
theorem tm_2_14 : (Jvm.Cond.methodLink "IdeaCage$Frame" (21 : Nat) ({ cls := "IdeaCage$Frame", name := "poles", desc := "(I)I" } : Jvm.MethodName)) ∈ tb := tbm (tb2 14 (by decide +kernel)) rfl
theorem tm_2_15 : (Jvm.Cond.methodLink "IdeaCage$Frame" (16 : Nat) ({ cls := "java/lang/Integer", name := "bitCount", desc := "(I)I" } : Jvm.MethodName)) ∈ tb := tbm (tb2 15 (by decide +kernel)) rfl
theorem tm_2_16 : (Jvm.Cond.methodLink "IdeaCageLaw" (44 : Nat) ({ cls := "IdeaCage", name := "at", desc := "(I)I" } : Jvm.MethodName)) ∈ tb := tbm (tb2 16 (by decide +kernel)) rfl
theorem tm_2_17 : (Jvm.Cond.instanceMethod ({ cls := "IdeaCage", name := "at", desc := "(I)I" } : Jvm.MethodName)) ∈ tb := tbm (tb2 17 (by decide +kernel)) rfl
theorem tm_2_18 : (Jvm.Cond.selects "IdeaCage" ({ cls := "IdeaCage", name := "at", desc := "(I)I" } : Jvm.MethodName) ({ cls := "IdeaCage", name := "at", desc := "(I)I" } : Jvm.MethodName)) ∈ tb := tbm (tb2 18 (by decide +kernel)) rfl
theorem tm_2_20 : (Jvm.Cond.methodLink "IdeaCage" (120 : Nat) ({ cls := "IdeaCage$Plan", name := "partIn", desc := "(I)I" } : Jvm.MethodName)) ∈ tb := tbm (tb2 20 (by decide +kernel)) rfl
theorem tm_2_21 : (Jvm.Cond.instanceMethod ({ cls := "IdeaCage$Plan", name := "partIn", desc := "(I)I" } : Jvm.MethodName)) ∈ tb := tbm (tb2 21 (by decide +kernel)) rfl
theorem tm_2_22 : (Jvm.Cond.selects "IdeaCage$Plan" ({ cls := "IdeaCage$Plan", name := "partIn", desc := "(I)I" } : Jvm.MethodName) ({ cls := "IdeaCage$Plan", name := "partIn", desc := "(I)I" } : Jvm.MethodName)) ∈ tb := tbm (tb2 22 (by decide +kernel)) rfl
theorem tm_2_24 : (Jvm.Cond.methodLink "IdeaCageLaw" (48 : Nat) ({ cls := "IdeaCage", name := "put", desc := "(I)I" } : Jvm.MethodName)) ∈ tb := tbm (tb2 24 (by decide +kernel)) rfl
theorem tm_2_25 : (Jvm.Cond.instanceMethod ({ cls := "IdeaCage", name := "put", desc := "(I)I" } : Jvm.MethodName)) ∈ tb := tbm (tb2 25 (by decide +kernel)) rfl
theorem tm_2_26 : (Jvm.Cond.selects "IdeaCage" ({ cls := "IdeaCage", name := "put", desc := "(I)I" } : Jvm.MethodName) ({ cls := "IdeaCage", name := "put", desc := "(I)I" } : Jvm.MethodName)) ∈ tb := tbm (tb2 26 (by decide +kernel)) rfl
theorem tm_2_28 : (Jvm.Cond.methodLink "IdeaCage" (123 : Nat) ({ cls := "IdeaCage$Acts", name := "remember", desc := "(II)V" } : Jvm.MethodName)) ∈ tb := tbm (tb2 28 (by decide +kernel)) rfl
theorem tm_2_29 : (Jvm.Cond.instanceMethod ({ cls := "IdeaCage$Acts", name := "remember", desc := "(II)V" } : Jvm.MethodName)) ∈ tb := tbm (tb2 29 (by decide +kernel)) rfl
theorem tm_2_30 : (Jvm.Cond.selects "IdeaCage$Acts" ({ cls := "IdeaCage$Acts", name := "remember", desc := "(II)V" } : Jvm.MethodName) ({ cls := "IdeaCage$Acts", name := "remember", desc := "(II)V" } : Jvm.MethodName)) ∈ tb := tbm (tb2 30 (by decide +kernel)) rfl
theorem tm_2_32 : (Jvm.Cond.methodLink "IdeaCage$Acts" (20 : Nat) ({ cls := "IdeaCage$Acts", name := "forgetFirst", desc := "()V" } : Jvm.MethodName)) ∈ tb := tbm (tb2 32 (by decide +kernel)) rfl
theorem tm_2_33 : (Jvm.Cond.instanceMethod ({ cls := "IdeaCage$Acts", name := "forgetFirst", desc := "()V" } : Jvm.MethodName)) ∈ tb := tbm (tb2 33 (by decide +kernel)) rfl
theorem tm_2_34 : (Jvm.Cond.selects "IdeaCage$Acts" ({ cls := "IdeaCage$Acts", name := "forgetFirst", desc := "()V" } : Jvm.MethodName) ({ cls := "IdeaCage$Acts", name := "forgetFirst", desc := "()V" } : Jvm.MethodName)) ∈ tb := tbm (tb2 34 (by decide +kernel)) rfl
theorem tm_2_36 : (Jvm.Cond.methodLink "IdeaCage" (127 : Nat) ({ cls := "IdeaCage$Plan", name := "withPut", desc := "(II)I" } : Jvm.MethodName)) ∈ tb := tbm (tb2 36 (by decide +kernel)) rfl
theorem tm_2_37 : (Jvm.Cond.instanceMethod ({ cls := "IdeaCage$Plan", name := "withPut", desc := "(II)I" } : Jvm.MethodName)) ∈ tb := tbm (tb2 37 (by decide +kernel)) rfl
theorem tm_2_38 : (Jvm.Cond.selects "IdeaCage$Plan" ({ cls := "IdeaCage$Plan", name := "withPut", desc := "(II)I" } : Jvm.MethodName) ({ cls := "IdeaCage$Plan", name := "withPut", desc := "(II)I" } : Jvm.MethodName)) ∈ tb := tbm (tb2 38 (by decide +kernel)) rfl
theorem tm_2_40 : (Jvm.Cond.methodLink "IdeaCage$Plan" (77 : Nat) ({ cls := "IdeaCage$Frame", name := "height", desc := "(II)I" } : Jvm.MethodName)) ∈ tb := tbm (tb2 40 (by decide +kernel)) rfl
theorem tm_2_41 : (Jvm.Cond.methodLink "IdeaCage$Plan" (80 : Nat) ({ cls := "IdeaCage$Frame", name := "cellBit", desc := "(II)I" } : Jvm.MethodName)) ∈ tb := tbm (tb2 41 (by decide +kernel)) rfl
theorem tm_2_42 : (Jvm.Cond.static ({ cls := "IdeaCage$Frame", name := "cellBit", desc := "(II)I" } : Jvm.MethodName)) ∈ tb := tbm (tb2 42 (by decide +kernel)) rfl
theorem tm_2_44 : (Jvm.Cond.methodLink "IdeaCage$Plan" (83 : Nat) ({ cls := "IdeaCage$Frame", name := "had", desc := "(I)I" } : Jvm.MethodName)) ∈ tb := tbm (tb2 44 (by decide +kernel)) rfl
theorem tm_2_45 : (Jvm.Cond.methodLink "IdeaCage$Plan" (86 : Nat) ({ cls := "IdeaCage$Frame", name := "of", desc := "(II)I" } : Jvm.MethodName)) ∈ tb := tbm (tb2 45 (by decide +kernel)) rfl
theorem tm_2_46 : (Jvm.Cond.static ({ cls := "IdeaCage$Frame", name := "of", desc := "(II)I" } : Jvm.MethodName)) ∈ tb := tbm (tb2 46 (by decide +kernel)) rfl
theorem tm_2_48 : (Jvm.Cond.methodLink "IdeaCage" (130 : Nat) ({ cls := "IdeaCage$Frame", name := "countHad", desc := "(I)I" } : Jvm.MethodName)) ∈ tb := tbm (tb2 48 (by decide +kernel)) rfl
theorem tm_2_49 : (Jvm.Cond.static ({ cls := "IdeaCage$Frame", name := "countHad", desc := "(I)I" } : Jvm.MethodName)) ∈ tb := tbm (tb2 49 (by decide +kernel)) rfl
theorem tm_2_51 : (Jvm.Cond.methodLink "IdeaCage$Frame" (10 : Nat) ({ cls := "IdeaCage$Frame", name := "had", desc := "(I)I" } : Jvm.MethodName)) ∈ tb := tbm (tb2 51 (by decide +kernel)) rfl
theorem tm_2_52 : (Jvm.Cond.methodLink "IdeaCageLaw" (52 : Nat) ({ cls := "IdeaCage", name := "strike", desc := "(I)I" } : Jvm.MethodName)) ∈ tb := tbm (tb2 52 (by decide +kernel)) rfl
theorem tm_2_53 : (Jvm.Cond.instanceMethod ({ cls := "IdeaCage", name := "strike", desc := "(I)I" } : Jvm.MethodName)) ∈ tb := tbm (tb2 53 (by decide +kernel)) rfl
theorem tm_2_54 : (Jvm.Cond.selects "IdeaCage" ({ cls := "IdeaCage", name := "strike", desc := "(I)I" } : Jvm.MethodName) ({ cls := "IdeaCage", name := "strike", desc := "(I)I" } : Jvm.MethodName)) ∈ tb := tbm (tb2 54 (by decide +kernel)) rfl
theorem tm_2_56 : (Jvm.Cond.methodLink "IdeaCage" (133 : Nat) ({ cls := "IdeaCage$Plan", name := "canStrike", desc := "(II)Z" } : Jvm.MethodName)) ∈ tb := tbm (tb2 56 (by decide +kernel)) rfl
theorem tm_2_57 : (Jvm.Cond.instanceMethod ({ cls := "IdeaCage$Plan", name := "canStrike", desc := "(II)Z" } : Jvm.MethodName)) ∈ tb := tbm (tb2 57 (by decide +kernel)) rfl
theorem tm_2_58 : (Jvm.Cond.selects "IdeaCage$Plan" ({ cls := "IdeaCage$Plan", name := "canStrike", desc := "(II)Z" } : Jvm.MethodName) ({ cls := "IdeaCage$Plan", name := "canStrike", desc := "(II)Z" } : Jvm.MethodName)) ∈ tb := tbm (tb2 58 (by decide +kernel)) rfl
theorem tm_2_60 : (Jvm.Cond.methodLink "IdeaCage" (137 : Nat) ({ cls := "IdeaCage$Plan", name := "withStruck", desc := "(II)I" } : Jvm.MethodName)) ∈ tb := tbm (tb2 60 (by decide +kernel)) rfl
theorem tm_2_61 : (Jvm.Cond.instanceMethod ({ cls := "IdeaCage$Plan", name := "withStruck", desc := "(II)I" } : Jvm.MethodName)) ∈ tb := tbm (tb2 61 (by decide +kernel)) rfl
theorem tm_2_62 : (Jvm.Cond.selects "IdeaCage$Plan" ({ cls := "IdeaCage$Plan", name := "withStruck", desc := "(II)I" } : Jvm.MethodName) ({ cls := "IdeaCage$Plan", name := "withStruck", desc := "(II)I" } : Jvm.MethodName)) ∈ tb := tbm (tb2 62 (by decide +kernel)) rfl
theorem tm_2_64 : (Jvm.Cond.methodLink "IdeaCage$Plan" (89 : Nat) ({ cls := "IdeaCage$Plan", name := "standing", desc := "(II)I" } : Jvm.MethodName)) ∈ tb := tbm (tb2 64 (by decide +kernel)) rfl
theorem tm_2_65 : (Jvm.Cond.methodLink "IdeaCageLaw" (56 : Nat) ({ cls := "IdeaCage", name := "rain", desc := "()I" } : Jvm.MethodName)) ∈ tb := tbm (tb2 65 (by decide +kernel)) rfl
theorem tm_2_66 : (Jvm.Cond.instanceMethod ({ cls := "IdeaCage", name := "rain", desc := "()I" } : Jvm.MethodName)) ∈ tb := tbm (tb2 66 (by decide +kernel)) rfl
theorem tm_2_67 : (Jvm.Cond.selects "IdeaCage" ({ cls := "IdeaCage", name := "rain", desc := "()I" } : Jvm.MethodName) ({ cls := "IdeaCage", name := "rain", desc := "()I" } : Jvm.MethodName)) ∈ tb := tbm (tb2 67 (by decide +kernel)) rfl
theorem tm_2_69 : (Jvm.Cond.methodLink "IdeaCage" (140 : Nat) ({ cls := "IdeaCage$Plan", name := "withRain", desc := "(I)I" } : Jvm.MethodName)) ∈ tb := tbm (tb2 69 (by decide +kernel)) rfl
theorem tm_2_70 : (Jvm.Cond.instanceMethod ({ cls := "IdeaCage$Plan", name := "withRain", desc := "(I)I" } : Jvm.MethodName)) ∈ tb := tbm (tb2 70 (by decide +kernel)) rfl
theorem tm_2_71 : (Jvm.Cond.selects "IdeaCage$Plan" ({ cls := "IdeaCage$Plan", name := "withRain", desc := "(I)I" } : Jvm.MethodName) ({ cls := "IdeaCage$Plan", name := "withRain", desc := "(I)I" } : Jvm.MethodName)) ∈ tb := tbm (tb2 71 (by decide +kernel)) rfl
theorem tm_2_73 : (Jvm.Cond.methodLink "IdeaCageLaw" (60 : Nat) ({ cls := "IdeaCage", name := "undo", desc := "()I" } : Jvm.MethodName)) ∈ tb := tbm (tb2 73 (by decide +kernel)) rfl
theorem tm_2_74 : (Jvm.Cond.instanceMethod ({ cls := "IdeaCage", name := "undo", desc := "()I" } : Jvm.MethodName)) ∈ tb := tbm (tb2 74 (by decide +kernel)) rfl
theorem tm_2_75 : (Jvm.Cond.selects "IdeaCage" ({ cls := "IdeaCage", name := "undo", desc := "()I" } : Jvm.MethodName) ({ cls := "IdeaCage", name := "undo", desc := "()I" } : Jvm.MethodName)) ∈ tb := tbm (tb2 75 (by decide +kernel)) rfl
theorem tm_2_77 : (Jvm.Cond.methodLink "IdeaCage" (143 : Nat) ({ cls := "IdeaCage$Acts", name := "lastFrame", desc := "()I" } : Jvm.MethodName)) ∈ tb := tbm (tb2 77 (by decide +kernel)) rfl
theorem tm_2_78 : (Jvm.Cond.instanceMethod ({ cls := "IdeaCage$Acts", name := "lastFrame", desc := "()I" } : Jvm.MethodName)) ∈ tb := tbm (tb2 78 (by decide +kernel)) rfl
theorem tm_2_79 : (Jvm.Cond.selects "IdeaCage$Acts" ({ cls := "IdeaCage$Acts", name := "lastFrame", desc := "()I" } : Jvm.MethodName) ({ cls := "IdeaCage$Acts", name := "lastFrame", desc := "()I" } : Jvm.MethodName)) ∈ tb := tbm (tb2 79 (by decide +kernel)) rfl
theorem tm_2_81 : (Jvm.Cond.methodLink "IdeaCage" (146 : Nat) ({ cls := "IdeaCage$Acts", name := "lastRains", desc := "()I" } : Jvm.MethodName)) ∈ tb := tbm (tb2 81 (by decide +kernel)) rfl
theorem tm_2_82 : (Jvm.Cond.instanceMethod ({ cls := "IdeaCage$Acts", name := "lastRains", desc := "()I" } : Jvm.MethodName)) ∈ tb := tbm (tb2 82 (by decide +kernel)) rfl
theorem tm_2_83 : (Jvm.Cond.selects "IdeaCage$Acts" ({ cls := "IdeaCage$Acts", name := "lastRains", desc := "()I" } : Jvm.MethodName) ({ cls := "IdeaCage$Acts", name := "lastRains", desc := "()I" } : Jvm.MethodName)) ∈ tb := tbm (tb2 83 (by decide +kernel)) rfl
theorem tm_2_85 : (Jvm.Cond.methodLink "IdeaCageLaw" (64 : Nat) ({ cls := "IdeaCage", name := "loses", desc := "(I)I" } : Jvm.MethodName)) ∈ tb := tbm (tb2 85 (by decide +kernel)) rfl
theorem tm_2_86 : (Jvm.Cond.instanceMethod ({ cls := "IdeaCage", name := "loses", desc := "(I)I" } : Jvm.MethodName)) ∈ tb := tbm (tb2 86 (by decide +kernel)) rfl
theorem tm_2_87 : (Jvm.Cond.selects "IdeaCage" ({ cls := "IdeaCage", name := "loses", desc := "(I)I" } : Jvm.MethodName) ({ cls := "IdeaCage", name := "loses", desc := "(I)I" } : Jvm.MethodName)) ∈ tb := tbm (tb2 87 (by decide +kernel)) rfl
theorem tm_2_89 : (Jvm.Cond.methodLink "IdeaCageLaw" (68 : Nat) ({ cls := "IdeaCage", name := "down", desc := "(I)I" } : Jvm.MethodName)) ∈ tb := tbm (tb2 89 (by decide +kernel)) rfl
theorem tm_2_90 : (Jvm.Cond.instanceMethod ({ cls := "IdeaCage", name := "down", desc := "(I)I" } : Jvm.MethodName)) ∈ tb := tbm (tb2 90 (by decide +kernel)) rfl
theorem tm_2_91 : (Jvm.Cond.selects "IdeaCage" ({ cls := "IdeaCage", name := "down", desc := "(I)I" } : Jvm.MethodName) ({ cls := "IdeaCage", name := "down", desc := "(I)I" } : Jvm.MethodName)) ∈ tb := tbm (tb2 91 (by decide +kernel)) rfl
theorem tm_2_93 : (Jvm.Cond.methodLink "IdeaCageLaw" (72 : Nat) ({ cls := "IdeaCage", name := "soon", desc := "(II)I" } : Jvm.MethodName)) ∈ tb := tbm (tb2 93 (by decide +kernel)) rfl
theorem tm_2_94 : (Jvm.Cond.instanceMethod ({ cls := "IdeaCage", name := "soon", desc := "(II)I" } : Jvm.MethodName)) ∈ tb := tbm (tb2 94 (by decide +kernel)) rfl
theorem tm_2_95 : (Jvm.Cond.selects "IdeaCage" ({ cls := "IdeaCage", name := "soon", desc := "(II)I" } : Jvm.MethodName) ({ cls := "IdeaCage", name := "soon", desc := "(II)I" } : Jvm.MethodName)) ∈ tb := tbm (tb2 95 (by decide +kernel)) rfl
theorem tm_2_97 : (Jvm.Cond.methodLink "IdeaCage" (149 : Nat) ({ cls := "IdeaCage", name := "isCountOrFirst", desc := "(I)Z" } : Jvm.MethodName)) ∈ tb := tbm (tb2 97 (by decide +kernel)) rfl
theorem tm_2_98 : (Jvm.Cond.static ({ cls := "IdeaCage", name := "isCountOrFirst", desc := "(I)Z" } : Jvm.MethodName)) ∈ tb := tbm (tb2 98 (by decide +kernel)) rfl
theorem tm_2_100 : (Jvm.Cond.methodLink "IdeaCage" (152 : Nat) ({ cls := "IdeaCage$Plan", name := "cellsOf", desc := "(I)I" } : Jvm.MethodName)) ∈ tb := tbm (tb2 100 (by decide +kernel)) rfl
theorem tm_2_101 : (Jvm.Cond.instanceMethod ({ cls := "IdeaCage$Plan", name := "cellsOf", desc := "(I)I" } : Jvm.MethodName)) ∈ tb := tbm (tb2 101 (by decide +kernel)) rfl
theorem tm_2_102 : (Jvm.Cond.selects "IdeaCage$Plan" ({ cls := "IdeaCage$Plan", name := "cellsOf", desc := "(I)I" } : Jvm.MethodName) ({ cls := "IdeaCage$Plan", name := "cellsOf", desc := "(I)I" } : Jvm.MethodName)) ∈ tb := tbm (tb2 102 (by decide +kernel)) rfl
theorem tm_2_104 : (Jvm.Cond.methodLink "IdeaCage" (155 : Nat) ({ cls := "IdeaCage", name := "leastRow", desc := "(LIdeaCage$Plan;III)I" } : Jvm.MethodName)) ∈ tb := tbm (tb2 104 (by decide +kernel)) rfl
theorem tm_2_105 : (Jvm.Cond.static ({ cls := "IdeaCage", name := "leastRow", desc := "(LIdeaCage$Plan;III)I" } : Jvm.MethodName)) ∈ tb := tbm (tb2 105 (by decide +kernel)) rfl
theorem tm_2_107 : (Jvm.Cond.methodLink "IdeaCage" (217 : Nat) ({ cls := "IdeaCage", name := "downToGround", desc := "(I)I" } : Jvm.MethodName)) ∈ tb := tbm (tb2 107 (by decide +kernel)) rfl
theorem tm_2_108 : (Jvm.Cond.static ({ cls := "IdeaCage", name := "downToGround", desc := "(I)I" } : Jvm.MethodName)) ∈ tb := tbm (tb2 108 (by decide +kernel)) rfl
theorem tm_2_110 : (Jvm.Cond.methodLink "IdeaCage" (220 : Nat) ({ cls := "IdeaCage$Plan", name := "canPut", desc := "(II)Z" } : Jvm.MethodName)) ∈ tb := tbm (tb2 110 (by decide +kernel)) rfl
theorem tm_2_111 : (Jvm.Cond.instanceMethod ({ cls := "IdeaCage$Plan", name := "canPut", desc := "(II)Z" } : Jvm.MethodName)) ∈ tb := tbm (tb2 111 (by decide +kernel)) rfl
theorem tm_2_112 : (Jvm.Cond.selects "IdeaCage$Plan" ({ cls := "IdeaCage$Plan", name := "canPut", desc := "(II)Z" } : Jvm.MethodName) ({ cls := "IdeaCage$Plan", name := "canPut", desc := "(II)Z" } : Jvm.MethodName)) ∈ tb := tbm (tb2 112 (by decide +kernel)) rfl
theorem tm_2_114 : (Jvm.Cond.methodLink "IdeaCage$Plan" (74 : Nat) ({ cls := "IdeaCage$Plan", name := "store", desc := "(I)I" } : Jvm.MethodName)) ∈ tb := tbm (tb2 114 (by decide +kernel)) rfl
theorem tm_2_115 : (Jvm.Cond.methodLink "IdeaCage" (159 : Nat) ({ cls := "IdeaCage", name := "powerOfTen", desc := "(I)J" } : Jvm.MethodName)) ∈ tb := tbm (tb2 115 (by decide +kernel)) rfl
theorem tm_2_116 : (Jvm.Cond.static ({ cls := "IdeaCage", name := "powerOfTen", desc := "(I)J" } : Jvm.MethodName)) ∈ tb := tbm (tb2 116 (by decide +kernel)) rfl
theorem tm_2_118 : (Jvm.Cond.constantLong "IdeaCage" (239 : Nat) (10 : Int64)) ∈ tb := tbm (tb2 118 (by decide +kernel)) rfl
theorem tm_2_119 : (Jvm.Cond.methodLink "IdeaCageLaw" (78 : Nat) ({ cls := "IdeaCage", name := "judge", desc := "(IJ)I" } : Jvm.MethodName)) ∈ tb := tbm (tb2 119 (by decide +kernel)) rfl
theorem tm_2_120 : (Jvm.Cond.instanceMethod ({ cls := "IdeaCage", name := "judge", desc := "(IJ)I" } : Jvm.MethodName)) ∈ tb := tbm (tb2 120 (by decide +kernel)) rfl
theorem tm_2_121 : (Jvm.Cond.selects "IdeaCage" ({ cls := "IdeaCage", name := "judge", desc := "(IJ)I" } : Jvm.MethodName) ({ cls := "IdeaCage", name := "judge", desc := "(IJ)I" } : Jvm.MethodName)) ∈ tb := tbm (tb2 121 (by decide +kernel)) rfl
theorem tm_2_123 : (Jvm.Cond.methodLink "IdeaCage" (163 : Nat) ({ cls := "IdeaCage", name := "doingFromEnd", desc := "(JI)I" } : Jvm.MethodName)) ∈ tb := tbm (tb2 123 (by decide +kernel)) rfl
theorem tm_2_124 : (Jvm.Cond.static ({ cls := "IdeaCage", name := "doingFromEnd", desc := "(JI)I" } : Jvm.MethodName)) ∈ tb := tbm (tb2 124 (by decide +kernel)) rfl
theorem tm_2_126 : (Jvm.Cond.constantLong "IdeaCage" (223 : Nat) (1000 : Int64)) ∈ tb := tbm (tb2 126 (by decide +kernel)) rfl
theorem tm_2_127 : (Jvm.Cond.methodLink "IdeaCage" (167 : Nat) ({ cls := "IdeaCage", name := "canBe", desc := "(II)Z" } : Jvm.MethodName)) ∈ tb := tbm (tb2 127 (by decide +kernel)) rfl
theorem tm_2_129 : (Jvm.Cond.instanceMethod ({ cls := "IdeaCage", name := "canBe", desc := "(II)Z" } : Jvm.MethodName)) ∈ tb := tbm (tb2 129 (by decide +kernel)) rfl
theorem tm_2_131 : (Jvm.Cond.methodLink "IdeaCage" (170 : Nat) ({ cls := "IdeaCage", name := "withDoing", desc := "(II)I" } : Jvm.MethodName)) ∈ tb := tbm (tb2 131 (by decide +kernel)) rfl
theorem tm_2_133 : (Jvm.Cond.instanceMethod ({ cls := "IdeaCage", name := "withDoing", desc := "(II)I" } : Jvm.MethodName)) ∈ tb := tbm (tb2 133 (by decide +kernel)) rfl
theorem tm_2_135 : (Jvm.Cond.methodLink "IdeaCageLaw" (83 : Nat) ({ cls := "IdeaCage", name := "share", desc := "(IZ)I" } : Jvm.MethodName)) ∈ tb := tbm (tb2 135 (by decide +kernel)) rfl
theorem tm_2_136 : (Jvm.Cond.instanceMethod ({ cls := "IdeaCage", name := "share", desc := "(IZ)I" } : Jvm.MethodName)) ∈ tb := tbm (tb2 136 (by decide +kernel)) rfl
theorem tm_2_137 : (Jvm.Cond.selects "IdeaCage" ({ cls := "IdeaCage", name := "share", desc := "(IZ)I" } : Jvm.MethodName) ({ cls := "IdeaCage", name := "share", desc := "(IZ)I" } : Jvm.MethodName)) ∈ tb := tbm (tb2 137 (by decide +kernel)) rfl
theorem tm_2_139 : (Jvm.Cond.methodLink "IdeaCage" (173 : Nat) ({ cls := "IdeaCage$Plan", name := "countStanding", desc := "(I)I" } : Jvm.MethodName)) ∈ tb := tbm (tb2 139 (by decide +kernel)) rfl
theorem tm_2_140 : (Jvm.Cond.instanceMethod ({ cls := "IdeaCage$Plan", name := "countStanding", desc := "(I)I" } : Jvm.MethodName)) ∈ tb := tbm (tb2 140 (by decide +kernel)) rfl
theorem tm_2_141 : (Jvm.Cond.selects "IdeaCage$Plan" ({ cls := "IdeaCage$Plan", name := "countStanding", desc := "(I)I" } : Jvm.MethodName) ({ cls := "IdeaCage$Plan", name := "countStanding", desc := "(I)I" } : Jvm.MethodName)) ∈ tb := tbm (tb2 141 (by decide +kernel)) rfl
theorem tm_2_143 : (Jvm.Cond.methodLink "IdeaCage$Plan" (92 : Nat) ({ cls := "IdeaCage$Plan", name := "cellsOf", desc := "(I)I" } : Jvm.MethodName)) ∈ tb := tbm (tb2 143 (by decide +kernel)) rfl
theorem tm_2_144 : (Jvm.Cond.methodLink "IdeaCage" (181 : Nat) ({ cls := "IdeaCage", name := "ordersWith", desc := "(I)I" } : Jvm.MethodName)) ∈ tb := tbm (tb2 144 (by decide +kernel)) rfl
theorem tm_2_146 : (Jvm.Cond.instanceMethod ({ cls := "IdeaCage", name := "ordersWith", desc := "(I)I" } : Jvm.MethodName)) ∈ tb := tbm (tb2 146 (by decide +kernel)) rfl
theorem tm_2_148 : (Jvm.Cond.methodLink "IdeaCage" (184 : Nat) ({ cls := "IdeaCage", name := "factorial", desc := "(I)I" } : Jvm.MethodName)) ∈ tb := tbm (tb2 148 (by decide +kernel)) rfl
theorem tm_2_149 : (Jvm.Cond.static ({ cls := "IdeaCage", name := "factorial", desc := "(I)I" } : Jvm.MethodName)) ∈ tb := tbm (tb2 149 (by decide +kernel)) rfl
theorem tm_2_151 : (Jvm.Cond.methodLink "IdeaCage" (187 : Nat) ({ cls := "IdeaCage", name := "told", desc := "(IIZ)I" } : Jvm.MethodName)) ∈ tb := tbm (tb2 151 (by decide +kernel)) rfl
theorem tm_2_152 : (Jvm.Cond.static ({ cls := "IdeaCage", name := "told", desc := "(IIZ)I" } : Jvm.MethodName)) ∈ tb := tbm (tb2 152 (by decide +kernel)) rfl
theorem tm_2_154 : (Jvm.Cond.methodLink "IdeaCage" (241 : Nat) ({ cls := "IdeaCage", name := "commonDivisor", desc := "(II)I" } : Jvm.MethodName)) ∈ tb := tbm (tb2 154 (by decide +kernel)) rfl
theorem tm_2_155 : (Jvm.Cond.static ({ cls := "IdeaCage", name := "commonDivisor", desc := "(II)I" } : Jvm.MethodName)) ∈ tb := tbm (tb2 155 (by decide +kernel)) rfl
theorem tm_2_157 : (Jvm.Cond.methodLink "IdeaCageLaw" (88 : Nat) ({ cls := "IdeaCage", name := "attempt", desc := "(II)I" } : Jvm.MethodName)) ∈ tb := tbm (tb2 157 (by decide +kernel)) rfl
theorem tm_2_158 : (Jvm.Cond.instanceMethod ({ cls := "IdeaCage", name := "attempt", desc := "(II)I" } : Jvm.MethodName)) ∈ tb := tbm (tb2 158 (by decide +kernel)) rfl
theorem tm_2_159 : (Jvm.Cond.selects "IdeaCage" ({ cls := "IdeaCage", name := "attempt", desc := "(II)I" } : Jvm.MethodName) ({ cls := "IdeaCage", name := "attempt", desc := "(II)I" } : Jvm.MethodName)) ∈ tb := tbm (tb2 159 (by decide +kernel)) rfl
theorem tm_2_161 : (Jvm.Cond.methodLink "IdeaCage" (191 : Nat) ({ cls := "IdeaCage$Tries", name := "add", desc := "(IZ)Z" } : Jvm.MethodName)) ∈ tb := tbm (tb2 161 (by decide +kernel)) rfl
theorem tm_2_162 : (Jvm.Cond.instanceMethod ({ cls := "IdeaCage$Tries", name := "add", desc := "(IZ)Z" } : Jvm.MethodName)) ∈ tb := tbm (tb2 162 (by decide +kernel)) rfl
theorem tm_2_163 : (Jvm.Cond.selects "IdeaCage$Tries" ({ cls := "IdeaCage$Tries", name := "add", desc := "(IZ)Z" } : Jvm.MethodName) ({ cls := "IdeaCage$Tries", name := "add", desc := "(IZ)Z" } : Jvm.MethodName)) ∈ tb := tbm (tb2 163 (by decide +kernel)) rfl
theorem tm_2_165 : (Jvm.Cond.methodLink "IdeaCageLaw" (92 : Nat) ({ cls := "IdeaCage", name := "unattempt", desc := "()I" } : Jvm.MethodName)) ∈ tb := tbm (tb2 165 (by decide +kernel)) rfl
theorem tm_2_166 : (Jvm.Cond.instanceMethod ({ cls := "IdeaCage", name := "unattempt", desc := "()I" } : Jvm.MethodName)) ∈ tb := tbm (tb2 166 (by decide +kernel)) rfl
theorem tm_2_167 : (Jvm.Cond.selects "IdeaCage" ({ cls := "IdeaCage", name := "unattempt", desc := "()I" } : Jvm.MethodName) ({ cls := "IdeaCage", name := "unattempt", desc := "()I" } : Jvm.MethodName)) ∈ tb := tbm (tb2 167 (by decide +kernel)) rfl
theorem tm_2_169 : (Jvm.Cond.methodLink "IdeaCageLaw" (96 : Nat) ({ cls := "IdeaCage", name := "kinds", desc := "(I)I" } : Jvm.MethodName)) ∈ tb := tbm (tb2 169 (by decide +kernel)) rfl
theorem tm_2_170 : (Jvm.Cond.instanceMethod ({ cls := "IdeaCage", name := "kinds", desc := "(I)I" } : Jvm.MethodName)) ∈ tb := tbm (tb2 170 (by decide +kernel)) rfl
theorem tm_2_171 : (Jvm.Cond.selects "IdeaCage" ({ cls := "IdeaCage", name := "kinds", desc := "(I)I" } : Jvm.MethodName) ({ cls := "IdeaCage", name := "kinds", desc := "(I)I" } : Jvm.MethodName)) ∈ tb := tbm (tb2 171 (by decide +kernel)) rfl
theorem tm_2_173 : (Jvm.Cond.methodLink "IdeaCage" (195 : Nat) ({ cls := "IdeaCage$Tries", name := "agreeWith", desc := "(II)Z" } : Jvm.MethodName)) ∈ tb := tbm (tb2 173 (by decide +kernel)) rfl
theorem tm_2_174 : (Jvm.Cond.instanceMethod ({ cls := "IdeaCage$Tries", name := "agreeWith", desc := "(II)Z" } : Jvm.MethodName)) ∈ tb := tbm (tb2 174 (by decide +kernel)) rfl
theorem tm_2_175 : (Jvm.Cond.selects "IdeaCage$Tries" ({ cls := "IdeaCage$Tries", name := "agreeWith", desc := "(II)Z" } : Jvm.MethodName) ({ cls := "IdeaCage$Tries", name := "agreeWith", desc := "(II)Z" } : Jvm.MethodName)) ∈ tb := tbm (tb2 175 (by decide +kernel)) rfl
theorem tm_2_177 : (Jvm.Cond.methodLink "IdeaCage$Tries" (23 : Nat) ({ cls := "IdeaCage$Tries", name := "wouldStand", desc := "(III)Z" } : Jvm.MethodName)) ∈ tb := tbm (tb2 177 (by decide +kernel)) rfl
theorem tm_2_178 : (Jvm.Cond.static ({ cls := "IdeaCage$Tries", name := "wouldStand", desc := "(III)Z" } : Jvm.MethodName)) ∈ tb := tbm (tb2 178 (by decide +kernel)) rfl
theorem tm_2_180 : (Jvm.Cond.methodLink "IdeaCageLaw" (100 : Nat) ({ cls := "IdeaCage", name := "rests", desc := "(III)I" } : Jvm.MethodName)) ∈ tb := tbm (tb2 180 (by decide +kernel)) rfl
theorem tm_2_181 : (Jvm.Cond.instanceMethod ({ cls := "IdeaCage", name := "rests", desc := "(III)I" } : Jvm.MethodName)) ∈ tb := tbm (tb2 181 (by decide +kernel)) rfl
theorem tm_2_182 : (Jvm.Cond.selects "IdeaCage" ({ cls := "IdeaCage", name := "rests", desc := "(III)I" } : Jvm.MethodName) ({ cls := "IdeaCage", name := "rests", desc := "(III)I" } : Jvm.MethodName)) ∈ tb := tbm (tb2 182 (by decide +kernel)) rfl
theorem tm_2_184 : (Jvm.Cond.methodLink "IdeaCage" (198 : Nat) ({ cls := "IdeaCage", name := "isRest", desc := "(IIII)Z" } : Jvm.MethodName)) ∈ tb := tbm (tb2 184 (by decide +kernel)) rfl
theorem tm_2_186 : (Jvm.Cond.instanceMethod ({ cls := "IdeaCage", name := "isRest", desc := "(IIII)Z" } : Jvm.MethodName)) ∈ tb := tbm (tb2 186 (by decide +kernel)) rfl
theorem tm_2_188 : (Jvm.Cond.methodLink "IdeaCage" (225 : Nat) ({ cls := "IdeaCage", name := "withChoices", desc := "(IIII)I" } : Jvm.MethodName)) ∈ tb := tbm (tb2 188 (by decide +kernel)) rfl
theorem tm_2_190 : (Jvm.Cond.instanceMethod ({ cls := "IdeaCage", name := "withChoices", desc := "(IIII)I" } : Jvm.MethodName)) ∈ tb := tbm (tb2 190 (by decide +kernel)) rfl
theorem tm_2_192 : (Jvm.Cond.methodLink "IdeaCage" (232 : Nat) ({ cls := "IdeaCage", name := "withChoice", desc := "(III)I" } : Jvm.MethodName)) ∈ tb := tbm (tb2 192 (by decide +kernel)) rfl
theorem tm_2_194 : (Jvm.Cond.instanceMethod ({ cls := "IdeaCage", name := "withChoice", desc := "(III)I" } : Jvm.MethodName)) ∈ tb := tbm (tb2 194 (by decide +kernel)) rfl
theorem tm_2_196 : (Jvm.Cond.methodLink "IdeaCage" (229 : Nat) ({ cls := "IdeaCage", name := "worth", desc := "(II)I" } : Jvm.MethodName)) ∈ tb := tbm (tb2 196 (by decide +kernel)) rfl
theorem tm_2_197 : (Jvm.Cond.static ({ cls := "IdeaCage", name := "worth", desc := "(II)I" } : Jvm.MethodName)) ∈ tb := tbm (tb2 197 (by decide +kernel)) rfl
theorem tm_2_199 : (Jvm.Cond.methodLink "IdeaCageLaw" (105 : Nat) ({ cls := "IdeaCage", name := "wet", desc := "(IIZ)I" } : Jvm.MethodName)) ∈ tb := tbm (tb2 199 (by decide +kernel)) rfl
theorem tm_2_200 : (Jvm.Cond.instanceMethod ({ cls := "IdeaCage", name := "wet", desc := "(IIZ)I" } : Jvm.MethodName)) ∈ tb := tbm (tb2 200 (by decide +kernel)) rfl
theorem tm_2_201 : (Jvm.Cond.selects "IdeaCage" ({ cls := "IdeaCage", name := "wet", desc := "(IIZ)I" } : Jvm.MethodName) ({ cls := "IdeaCage", name := "wet", desc := "(IIZ)I" } : Jvm.MethodName)) ∈ tb := tbm (tb2 201 (by decide +kernel)) rfl
theorem tm_2_203 : (Jvm.Cond.methodLink "IdeaCage" (202 : Nat) ({ cls := "IdeaCage", name := "hadWithout", desc := "(I)I" } : Jvm.MethodName)) ∈ tb := tbm (tb2 203 (by decide +kernel)) rfl
theorem tm_2_205 : (Jvm.Cond.instanceMethod ({ cls := "IdeaCage", name := "hadWithout", desc := "(I)I" } : Jvm.MethodName)) ∈ tb := tbm (tb2 205 (by decide +kernel)) rfl
theorem tm_2_207 : (Jvm.Cond.methodLink "IdeaCage" (236 : Nat) ({ cls := "IdeaCage$Frame", name := "cellBit", desc := "(II)I" } : Jvm.MethodName)) ∈ tb := tbm (tb2 207 (by decide +kernel)) rfl
theorem tm_2_208 : (Jvm.Cond.methodLink "IdeaCage" (205 : Nat) ({ cls := "IdeaCage", name := "weightOf", desc := "(II)I" } : Jvm.MethodName)) ∈ tb := tbm (tb2 208 (by decide +kernel)) rfl
theorem tm_2_210 : (Jvm.Cond.instanceMethod ({ cls := "IdeaCage", name := "weightOf", desc := "(II)I" } : Jvm.MethodName)) ∈ tb := tbm (tb2 210 (by decide +kernel)) rfl
theorem tm_2_212 : (Jvm.Cond.methodLink "IdeaCageLaw" (110 : Nat) ({ cls := "IdeaCage", name := "seed", desc := "(J)J" } : Jvm.MethodName)) ∈ tb := tbm (tb2 212 (by decide +kernel)) rfl
theorem tm_2_213 : (Jvm.Cond.instanceMethod ({ cls := "IdeaCage", name := "seed", desc := "(J)J" } : Jvm.MethodName)) ∈ tb := tbm (tb2 213 (by decide +kernel)) rfl
theorem tm_2_214 : (Jvm.Cond.selects "IdeaCage" ({ cls := "IdeaCage", name := "seed", desc := "(J)J" } : Jvm.MethodName) ({ cls := "IdeaCage", name := "seed", desc := "(J)J" } : Jvm.MethodName)) ∈ tb := tbm (tb2 214 (by decide +kernel)) rfl
theorem tm_2_216 : (Jvm.Cond.methodLink "IdeaCageLaw" (115 : Nat) ({ cls := "IdeaCage", name := "terms", desc := "(I)I" } : Jvm.MethodName)) ∈ tb := tbm (tb2 216 (by decide +kernel)) rfl
theorem tm_2_217 : (Jvm.Cond.instanceMethod ({ cls := "IdeaCage", name := "terms", desc := "(I)I" } : Jvm.MethodName)) ∈ tb := tbm (tb2 217 (by decide +kernel)) rfl
theorem tm_2_218 : (Jvm.Cond.selects "IdeaCage" ({ cls := "IdeaCage", name := "terms", desc := "(I)I" } : Jvm.MethodName) ({ cls := "IdeaCage", name := "terms", desc := "(I)I" } : Jvm.MethodName)) ∈ tb := tbm (tb2 218 (by decide +kernel)) rfl
theorem tm_2_220 : (Jvm.Cond.constantLong "IdeaCage" (208 : Nat) (6364136223846793005 : Int64)) ∈ tb := tbm (tb2 220 (by decide +kernel)) rfl
theorem tm_2_221 : (Jvm.Cond.constantLong "IdeaCage" (210 : Nat) (1442695040888963407 : Int64)) ∈ tb := tbm (tb2 221 (by decide +kernel)) rfl
theorem tm_2_222 : (Jvm.Cond.constantLong "IdeaCage" (212 : Nat) (16 : Int64)) ∈ tb := tbm (tb2 222 (by decide +kernel)) rfl
theorem tm_2_223 : (Jvm.Cond.methodLink "IdeaCage" (214 : Nat) ({ cls := "IdeaCage", name := "withChance", desc := "(II)I" } : Jvm.MethodName)) ∈ tb := tbm (tb2 223 (by decide +kernel)) rfl
theorem tm_2_225 : (Jvm.Cond.instanceMethod ({ cls := "IdeaCage", name := "withChance", desc := "(II)I" } : Jvm.MethodName)) ∈ tb := tbm (tb2 225 (by decide +kernel)) rfl
theorem tm_2_227 : (Jvm.Cond.methodLink "IdeaCageLaw" (119 : Nat) ({ cls := "IdeaCage", name := "keep", desc := "(I)I" } : Jvm.MethodName)) ∈ tb := tbm (tb2 227 (by decide +kernel)) rfl
theorem tm_2_228 : (Jvm.Cond.instanceMethod ({ cls := "IdeaCage", name := "keep", desc := "(I)I" } : Jvm.MethodName)) ∈ tb := tbm (tb2 228 (by decide +kernel)) rfl
theorem tm_2_229 : (Jvm.Cond.selects "IdeaCage" ({ cls := "IdeaCage", name := "keep", desc := "(I)I" } : Jvm.MethodName) ({ cls := "IdeaCage", name := "keep", desc := "(I)I" } : Jvm.MethodName)) ∈ tb := tbm (tb2 229 (by decide +kernel)) rfl
theorem tm_2_231 : (Jvm.Cond.methodLink "IdeaCageLaw" (123 : Nat) ({ cls := "IdeaCage", name := "again", desc := "(I)I" } : Jvm.MethodName)) ∈ tb := tbm (tb2 231 (by decide +kernel)) rfl
theorem tm_2_232 : (Jvm.Cond.instanceMethod ({ cls := "IdeaCage", name := "again", desc := "(I)I" } : Jvm.MethodName)) ∈ tb := tbm (tb2 232 (by decide +kernel)) rfl
theorem tm_2_233 : (Jvm.Cond.selects "IdeaCage" ({ cls := "IdeaCage", name := "again", desc := "(I)I" } : Jvm.MethodName) ({ cls := "IdeaCage", name := "again", desc := "(I)I" } : Jvm.MethodName)) ∈ tb := tbm (tb2 233 (by decide +kernel)) rfl
theorem tm_2_235 : (Jvm.Cond.classLink "IdeaCageLaw" (10 : Nat) "IdeaCageModel") ∈ tb := tbm (tb2 235 (by decide +kernel)) rfl
theorem tm_2_236 : (Jvm.Cond.instantiable "IdeaCageModel" (30 : Nat)) ∈ tb := tbm (tb2 236 (by decide +kernel)) rfl
theorem tm_2_237 : (Jvm.Cond.methodLink "IdeaCageLaw" (12 : Nat) ({ cls := "IdeaCageModel", name := "<init>", desc := "()V" } : Jvm.MethodName)) ∈ tb := tbm (tb2 237 (by decide +kernel)) rfl
theorem tm_2_238 : (Jvm.Cond.instanceMethod ({ cls := "IdeaCageModel", name := "<init>", desc := "()V" } : Jvm.MethodName)) ∈ tb := tbm (tb2 238 (by decide +kernel)) rfl
theorem tm_3_0 : (Jvm.Cond.methodLink "IdeaCageModel" (1 : Nat) ({ cls := "java/lang/Object", name := "<init>", desc := "()V" } : Jvm.MethodName)) ∈ tb := tbm (tb3 0 (by decide +kernel)) rfl
theorem tm_3_1 : (Jvm.Cond.fieldLink "IdeaCageModel" (50 : Nat) "IdeaCageModel" "thrown" "I") ∈ tb := tbm (tb3 1 (by decide +kernel)) rfl
theorem tm_3_2 : (Jvm.Cond.fieldLink "IdeaCageModel" (7 : Nat) "IdeaCageModel" "text" "[I") ∈ tb := tbm (tb3 2 (by decide +kernel)) rfl
theorem tm_3_3 : (Jvm.Cond.fieldLink "IdeaCageModel" (65 : Nat) "IdeaCageModel" "textSize" "I") ∈ tb := tbm (tb3 3 (by decide +kernel)) rfl
theorem tm_3_4 : (Jvm.Cond.fieldLink "IdeaCageModel" (68 : Nat) "IdeaCageModel" "place" "I") ∈ tb := tbm (tb3 4 (by decide +kernel)) rfl
theorem tm_3_5 : (Jvm.Cond.fieldLink "IdeaCageModel" (95 : Nat) "IdeaCageModel" "stock" "I") ∈ tb := tbm (tb3 5 (by decide +kernel)) rfl
theorem tm_3_6 : (Jvm.Cond.fieldLink "IdeaCageModel" (60 : Nat) "IdeaCageModel" "parts" "I") ∈ tb := tbm (tb3 6 (by decide +kernel)) rfl
theorem tm_3_7 : (Jvm.Cond.fieldLink "IdeaCageModel" (13 : Nat) "IdeaCageModel" "lies" "[I") ∈ tb := tbm (tb3 7 (by decide +kernel)) rfl
theorem tm_3_8 : (Jvm.Cond.fieldLink "IdeaCageModel" (16 : Nat) "IdeaCageModel" "kind" "[I") ∈ tb := tbm (tb3 8 (by decide +kernel)) rfl
theorem tm_3_9 : (Jvm.Cond.fieldLink "IdeaCageModel" (83 : Nat) "IdeaCageModel" "readStock" "I") ∈ tb := tbm (tb3 9 (by decide +kernel)) rfl
theorem tm_3_10 : (Jvm.Cond.fieldLink "IdeaCageModel" (76 : Nat) "IdeaCageModel" "readCells" "I") ∈ tb := tbm (tb3 10 (by decide +kernel)) rfl
theorem tm_3_11 : (Jvm.Cond.fieldLink "IdeaCageModel" (71 : Nat) "IdeaCageModel" "readParts" "I") ∈ tb := tbm (tb3 11 (by decide +kernel)) rfl
theorem tm_3_12 : (Jvm.Cond.fieldLink "IdeaCageModel" (19 : Nat) "IdeaCageModel" "readPart" "[I") ∈ tb := tbm (tb3 12 (by decide +kernel)) rfl
theorem tm_3_13 : (Jvm.Cond.fieldLink "IdeaCageModel" (22 : Nat) "IdeaCageModel" "page" "[I") ∈ tb := tbm (tb3 13 (by decide +kernel)) rfl
theorem tm_3_14 : (Jvm.Cond.fieldLink "IdeaCageModel" (25 : Nat) "IdeaCageModel" "trial" "[I") ∈ tb := tbm (tb3 14 (by decide +kernel)) rfl
theorem tm_3_15 : (Jvm.Cond.fieldLink "IdeaCageModel" (28 : Nat) "IdeaCageModel" "book" "[I") ∈ tb := tbm (tb3 15 (by decide +kernel)) rfl
theorem tm_3_16 : (Jvm.Cond.fieldLink "IdeaCageModel" (98 : Nat) "IdeaCageModel" "acts" "I") ∈ tb := tbm (tb3 16 (by decide +kernel)) rfl
theorem tm_3_17 : (Jvm.Cond.fieldLink "IdeaCageModel" (31 : Nat) "IdeaCageModel" "kept" "[I") ∈ tb := tbm (tb3 17 (by decide +kernel)) rfl
theorem tm_3_18 : (Jvm.Cond.fieldLink "IdeaCageModel" (34 : Nat) "IdeaCageModel" "isKept" "[Z") ∈ tb := tbm (tb3 18 (by decide +kernel)) rfl
theorem tm_3_19 : (Jvm.Cond.fieldLink "IdeaCageModel" (144 : Nat) "IdeaCageModel" "tried" "I") ∈ tb := tbm (tb3 19 (by decide +kernel)) rfl
theorem tm_3_20 : (Jvm.Cond.fieldLink "IdeaCageModel" (38 : Nat) "IdeaCageModel" "triedAbout" "[I") ∈ tb := tbm (tb3 20 (by decide +kernel)) rfl
theorem tm_3_21 : (Jvm.Cond.fieldLink "IdeaCageModel" (41 : Nat) "IdeaCageModel" "triedIs" "[I") ∈ tb := tbm (tb3 21 (by decide +kernel)) rfl
theorem tm_3_22 : (Jvm.Cond.fieldLink "IdeaCageModel" (232 : Nat) "IdeaCageModel" "seed" "J") ∈ tb := tbm (tb3 22 (by decide +kernel)) rfl
theorem tm_3_23 : (Jvm.Cond.fieldLink "IdeaCageModel" (173 : Nat) "IdeaCageModel" "soonMany" "I") ∈ tb := tbm (tb3 23 (by decide +kernel)) rfl
theorem tm_3_24 : (Jvm.Cond.fieldLink "IdeaCageModel" (163 : Nat) "IdeaCageModel" "soonWhich" "I") ∈ tb := tbm (tb3 24 (by decide +kernel)) rfl
theorem tm_3_25 : (Jvm.Cond.fieldLink "IdeaCageModel" (206 : Nat) "IdeaCageModel" "kindMany" "I") ∈ tb := tbm (tb3 25 (by decide +kernel)) rfl
theorem tm_3_26 : (Jvm.Cond.fieldLink "IdeaCageModel" (209 : Nat) "IdeaCageModel" "kindFirst" "I") ∈ tb := tbm (tb3 26 (by decide +kernel)) rfl
theorem tm_3_27 : (Jvm.Cond.fieldLink "IdeaCageModel" (219 : Nat) "IdeaCageModel" "restMany" "I") ∈ tb := tbm (tb3 27 (by decide +kernel)) rfl
theorem tm_3_28 : (Jvm.Cond.fieldLink "IdeaCageModel" (222 : Nat) "IdeaCageModel" "restFirst" "I") ∈ tb := tbm (tb3 28 (by decide +kernel)) rfl
theorem tm_3_29 : (Jvm.Cond.fieldLink "IdeaCageModel" (44 : Nat) "IdeaCageModel" "gains" "[I") ∈ tb := tbm (tb3 29 (by decide +kernel)) rfl
theorem tm_3_30 : (Jvm.Cond.fieldLink "IdeaCageModel" (47 : Nat) "IdeaCageModel" "value" "[I") ∈ tb := tbm (tb3 30 (by decide +kernel)) rfl
theorem tm_3_31 : (Jvm.Cond.lays "IdeaCageModel" "IdeaCageModel" "thrown" "I") ∈ tb := tbm (tb3 31 (by decide +kernel)) rfl
theorem tm_3_32 : (Jvm.Cond.soleField "IdeaCageModel" "thrown") ∈ tb := tbm (tb3 32 (by decide +kernel)) rfl
theorem tm_3_33 : (Jvm.Cond.laysFinal "IdeaCageModel" "IdeaCageModel" "text" "[I") ∈ tb := tbm (tb3 33 (by decide +kernel)) rfl
theorem tm_3_34 : (Jvm.Cond.soleField "IdeaCageModel" "text") ∈ tb := tbm (tb3 34 (by decide +kernel)) rfl
theorem tm_3_35 : (Jvm.Cond.lays "IdeaCageModel" "IdeaCageModel" "textSize" "I") ∈ tb := tbm (tb3 35 (by decide +kernel)) rfl
theorem tm_3_36 : (Jvm.Cond.soleField "IdeaCageModel" "textSize") ∈ tb := tbm (tb3 36 (by decide +kernel)) rfl
theorem tm_3_37 : (Jvm.Cond.lays "IdeaCageModel" "IdeaCageModel" "place" "I") ∈ tb := tbm (tb3 37 (by decide +kernel)) rfl
theorem tm_3_38 : (Jvm.Cond.soleField "IdeaCageModel" "place") ∈ tb := tbm (tb3 38 (by decide +kernel)) rfl
theorem tm_3_39 : (Jvm.Cond.lays "IdeaCageModel" "IdeaCageModel" "stock" "I") ∈ tb := tbm (tb3 39 (by decide +kernel)) rfl
theorem tm_3_40 : (Jvm.Cond.soleField "IdeaCageModel" "stock") ∈ tb := tbm (tb3 40 (by decide +kernel)) rfl
theorem tm_3_41 : (Jvm.Cond.lays "IdeaCageModel" "IdeaCageModel" "parts" "I") ∈ tb := tbm (tb3 41 (by decide +kernel)) rfl
theorem tm_3_42 : (Jvm.Cond.soleField "IdeaCageModel" "parts") ∈ tb := tbm (tb3 42 (by decide +kernel)) rfl
theorem tm_3_43 : (Jvm.Cond.laysFinal "IdeaCageModel" "IdeaCageModel" "lies" "[I") ∈ tb := tbm (tb3 43 (by decide +kernel)) rfl
theorem tm_3_44 : (Jvm.Cond.soleField "IdeaCageModel" "lies") ∈ tb := tbm (tb3 44 (by decide +kernel)) rfl
theorem tm_3_45 : (Jvm.Cond.laysFinal "IdeaCageModel" "IdeaCageModel" "kind" "[I") ∈ tb := tbm (tb3 45 (by decide +kernel)) rfl
theorem tm_3_46 : (Jvm.Cond.soleField "IdeaCageModel" "kind") ∈ tb := tbm (tb3 46 (by decide +kernel)) rfl
theorem tm_3_47 : (Jvm.Cond.lays "IdeaCageModel" "IdeaCageModel" "readStock" "I") ∈ tb := tbm (tb3 47 (by decide +kernel)) rfl
theorem tm_3_48 : (Jvm.Cond.soleField "IdeaCageModel" "readStock") ∈ tb := tbm (tb3 48 (by decide +kernel)) rfl
theorem tm_3_49 : (Jvm.Cond.lays "IdeaCageModel" "IdeaCageModel" "readCells" "I") ∈ tb := tbm (tb3 49 (by decide +kernel)) rfl
theorem tm_3_50 : (Jvm.Cond.soleField "IdeaCageModel" "readCells") ∈ tb := tbm (tb3 50 (by decide +kernel)) rfl
theorem tm_3_51 : (Jvm.Cond.lays "IdeaCageModel" "IdeaCageModel" "readParts" "I") ∈ tb := tbm (tb3 51 (by decide +kernel)) rfl
theorem tm_3_52 : (Jvm.Cond.soleField "IdeaCageModel" "readParts") ∈ tb := tbm (tb3 52 (by decide +kernel)) rfl
theorem tm_3_53 : (Jvm.Cond.laysFinal "IdeaCageModel" "IdeaCageModel" "readPart" "[I") ∈ tb := tbm (tb3 53 (by decide +kernel)) rfl
theorem tm_3_54 : (Jvm.Cond.soleField "IdeaCageModel" "readPart") ∈ tb := tbm (tb3 54 (by decide +kernel)) rfl
theorem tm_3_55 : (Jvm.Cond.laysFinal "IdeaCageModel" "IdeaCageModel" "page" "[I") ∈ tb := tbm (tb3 55 (by decide +kernel)) rfl
theorem tm_3_56 : (Jvm.Cond.soleField "IdeaCageModel" "page") ∈ tb := tbm (tb3 56 (by decide +kernel)) rfl
theorem tm_3_57 : (Jvm.Cond.laysFinal "IdeaCageModel" "IdeaCageModel" "trial" "[I") ∈ tb := tbm (tb3 57 (by decide +kernel)) rfl
theorem tm_3_58 : (Jvm.Cond.soleField "IdeaCageModel" "trial") ∈ tb := tbm (tb3 58 (by decide +kernel)) rfl
theorem tm_3_59 : (Jvm.Cond.laysFinal "IdeaCageModel" "IdeaCageModel" "book" "[I") ∈ tb := tbm (tb3 59 (by decide +kernel)) rfl
theorem tm_3_60 : (Jvm.Cond.soleField "IdeaCageModel" "book") ∈ tb := tbm (tb3 60 (by decide +kernel)) rfl
theorem tm_3_61 : (Jvm.Cond.lays "IdeaCageModel" "IdeaCageModel" "acts" "I") ∈ tb := tbm (tb3 61 (by decide +kernel)) rfl
theorem tm_3_62 : (Jvm.Cond.soleField "IdeaCageModel" "acts") ∈ tb := tbm (tb3 62 (by decide +kernel)) rfl
theorem tm_3_63 : (Jvm.Cond.laysFinal "IdeaCageModel" "IdeaCageModel" "kept" "[I") ∈ tb := tbm (tb3 63 (by decide +kernel)) rfl
theorem tm_3_64 : (Jvm.Cond.soleField "IdeaCageModel" "kept") ∈ tb := tbm (tb3 64 (by decide +kernel)) rfl
theorem tm_3_65 : (Jvm.Cond.laysFinal "IdeaCageModel" "IdeaCageModel" "isKept" "[Z") ∈ tb := tbm (tb3 65 (by decide +kernel)) rfl
theorem tm_3_66 : (Jvm.Cond.soleField "IdeaCageModel" "isKept") ∈ tb := tbm (tb3 66 (by decide +kernel)) rfl
theorem tm_3_67 : (Jvm.Cond.lays "IdeaCageModel" "IdeaCageModel" "tried" "I") ∈ tb := tbm (tb3 67 (by decide +kernel)) rfl
theorem tm_3_68 : (Jvm.Cond.soleField "IdeaCageModel" "tried") ∈ tb := tbm (tb3 68 (by decide +kernel)) rfl
theorem tm_3_69 : (Jvm.Cond.laysFinal "IdeaCageModel" "IdeaCageModel" "triedAbout" "[I") ∈ tb := tbm (tb3 69 (by decide +kernel)) rfl
theorem tm_3_70 : (Jvm.Cond.soleField "IdeaCageModel" "triedAbout") ∈ tb := tbm (tb3 70 (by decide +kernel)) rfl
theorem tm_3_71 : (Jvm.Cond.laysFinal "IdeaCageModel" "IdeaCageModel" "triedIs" "[I") ∈ tb := tbm (tb3 71 (by decide +kernel)) rfl
theorem tm_3_72 : (Jvm.Cond.soleField "IdeaCageModel" "triedIs") ∈ tb := tbm (tb3 72 (by decide +kernel)) rfl
theorem tm_3_73 : (Jvm.Cond.lays "IdeaCageModel" "IdeaCageModel" "seed" "J") ∈ tb := tbm (tb3 73 (by decide +kernel)) rfl
theorem tm_3_74 : (Jvm.Cond.soleField "IdeaCageModel" "seed") ∈ tb := tbm (tb3 74 (by decide +kernel)) rfl
theorem tm_3_75 : (Jvm.Cond.lays "IdeaCageModel" "IdeaCageModel" "soonMany" "I") ∈ tb := tbm (tb3 75 (by decide +kernel)) rfl
theorem tm_3_76 : (Jvm.Cond.soleField "IdeaCageModel" "soonMany") ∈ tb := tbm (tb3 76 (by decide +kernel)) rfl
theorem tm_3_77 : (Jvm.Cond.lays "IdeaCageModel" "IdeaCageModel" "soonWhich" "I") ∈ tb := tbm (tb3 77 (by decide +kernel)) rfl
theorem tm_3_78 : (Jvm.Cond.soleField "IdeaCageModel" "soonWhich") ∈ tb := tbm (tb3 78 (by decide +kernel)) rfl
theorem tm_3_79 : (Jvm.Cond.lays "IdeaCageModel" "IdeaCageModel" "kindMany" "I") ∈ tb := tbm (tb3 79 (by decide +kernel)) rfl
theorem tm_3_80 : (Jvm.Cond.soleField "IdeaCageModel" "kindMany") ∈ tb := tbm (tb3 80 (by decide +kernel)) rfl
theorem tm_3_81 : (Jvm.Cond.lays "IdeaCageModel" "IdeaCageModel" "kindFirst" "I") ∈ tb := tbm (tb3 81 (by decide +kernel)) rfl
theorem tm_3_82 : (Jvm.Cond.soleField "IdeaCageModel" "kindFirst") ∈ tb := tbm (tb3 82 (by decide +kernel)) rfl
theorem tm_3_83 : (Jvm.Cond.lays "IdeaCageModel" "IdeaCageModel" "restMany" "I") ∈ tb := tbm (tb3 83 (by decide +kernel)) rfl
theorem tm_3_84 : (Jvm.Cond.soleField "IdeaCageModel" "restMany") ∈ tb := tbm (tb3 84 (by decide +kernel)) rfl
theorem tm_3_85 : (Jvm.Cond.lays "IdeaCageModel" "IdeaCageModel" "restFirst" "I") ∈ tb := tbm (tb3 85 (by decide +kernel)) rfl
theorem tm_3_86 : (Jvm.Cond.soleField "IdeaCageModel" "restFirst") ∈ tb := tbm (tb3 86 (by decide +kernel)) rfl
theorem tm_3_87 : (Jvm.Cond.laysFinal "IdeaCageModel" "IdeaCageModel" "gains" "[I") ∈ tb := tbm (tb3 87 (by decide +kernel)) rfl
theorem tm_3_88 : (Jvm.Cond.soleField "IdeaCageModel" "gains") ∈ tb := tbm (tb3 88 (by decide +kernel)) rfl
theorem tm_3_89 : (Jvm.Cond.laysFinal "IdeaCageModel" "IdeaCageModel" "value" "[I") ∈ tb := tbm (tb3 89 (by decide +kernel)) rfl
theorem tm_3_90 : (Jvm.Cond.soleField "IdeaCageModel" "value") ∈ tb := tbm (tb3 90 (by decide +kernel)) rfl
theorem tm_3_92 : (Jvm.Cond.methodLink "IdeaCageLaw" (17 : Nat) ({ cls := "IdeaCageModel", name := "write", desc := "(I)I" } : Jvm.MethodName)) ∈ tb := tbm (tb3 92 (by decide +kernel)) rfl
theorem tm_3_93 : (Jvm.Cond.instanceMethod ({ cls := "IdeaCageModel", name := "write", desc := "(I)I" } : Jvm.MethodName)) ∈ tb := tbm (tb3 93 (by decide +kernel)) rfl
theorem tm_3_94 : (Jvm.Cond.selects "IdeaCageModel" ({ cls := "IdeaCageModel", name := "write", desc := "(I)I" } : Jvm.MethodName) ({ cls := "IdeaCageModel", name := "write", desc := "(I)I" } : Jvm.MethodName)) ∈ tb := tbm (tb3 94 (by decide +kernel)) rfl
theorem tm_3_96 : (Jvm.Cond.constantLong "IdeaCageModel" (63 : Nat) (255 : Int64)) ∈ tb := tbm (tb3 96 (by decide +kernel)) rfl
theorem tm_3_97 : (Jvm.Cond.methodLink "IdeaCageModel" (56 : Nat) ({ cls := "IdeaCageModel", name := "in", desc := "(JJJ)Z" } : Jvm.MethodName)) ∈ tb := tbm (tb3 97 (by decide +kernel)) rfl
theorem tm_3_98 : (Jvm.Cond.static ({ cls := "IdeaCageModel", name := "in", desc := "(JJJ)Z" } : Jvm.MethodName)) ∈ tb := tbm (tb3 98 (by decide +kernel)) rfl
theorem tm_3_100 : (Jvm.Cond.methodLink "IdeaCageLaw" (22 : Nat) ({ cls := "IdeaCageModel", name := "wipe", desc := "()I" } : Jvm.MethodName)) ∈ tb := tbm (tb3 100 (by decide +kernel)) rfl
theorem tm_3_101 : (Jvm.Cond.instanceMethod ({ cls := "IdeaCageModel", name := "wipe", desc := "()I" } : Jvm.MethodName)) ∈ tb := tbm (tb3 101 (by decide +kernel)) rfl
theorem tm_3_102 : (Jvm.Cond.selects "IdeaCageModel" ({ cls := "IdeaCageModel", name := "wipe", desc := "()I" } : Jvm.MethodName) ({ cls := "IdeaCageModel", name := "wipe", desc := "()I" } : Jvm.MethodName)) ∈ tb := tbm (tb3 102 (by decide +kernel)) rfl
theorem tm_3_104 : (Jvm.Cond.methodLink "IdeaCageLaw" (26 : Nat) ({ cls := "IdeaCageModel", name := "fault", desc := "()I" } : Jvm.MethodName)) ∈ tb := tbm (tb3 104 (by decide +kernel)) rfl
theorem tm_3_105 : (Jvm.Cond.instanceMethod ({ cls := "IdeaCageModel", name := "fault", desc := "()I" } : Jvm.MethodName)) ∈ tb := tbm (tb3 105 (by decide +kernel)) rfl
theorem tm_3_106 : (Jvm.Cond.selects "IdeaCageModel" ({ cls := "IdeaCageModel", name := "fault", desc := "()I" } : Jvm.MethodName) ({ cls := "IdeaCageModel", name := "fault", desc := "()I" } : Jvm.MethodName)) ∈ tb := tbm (tb3 106 (by decide +kernel)) rfl
theorem tm_3_108 : (Jvm.Cond.methodLink "IdeaCageModel" (91 : Nat) ({ cls := "IdeaCageModel", name := "readIdea", desc := "()I" } : Jvm.MethodName)) ∈ tb := tbm (tb3 108 (by decide +kernel)) rfl
theorem tm_3_110 : (Jvm.Cond.instanceMethod ({ cls := "IdeaCageModel", name := "readIdea", desc := "()I" } : Jvm.MethodName)) ∈ tb := tbm (tb3 110 (by decide +kernel)) rfl
theorem tm_3_112 : (Jvm.Cond.constantLong "IdeaCageModel" (86 : Nat) (9 : Int64)) ∈ tb := tbm (tb3 112 (by decide +kernel)) rfl
theorem tm_3_113 : (Jvm.Cond.methodLink "IdeaCageModel" (88 : Nat) ({ cls := "IdeaCageModel", name := "readPart", desc := "()Z" } : Jvm.MethodName)) ∈ tb := tbm (tb3 113 (by decide +kernel)) rfl
theorem tm_3_115 : (Jvm.Cond.instanceMethod ({ cls := "IdeaCageModel", name := "readPart", desc := "()Z" } : Jvm.MethodName)) ∈ tb := tbm (tb3 115 (by decide +kernel)) rfl
theorem tm_3_117 : (Jvm.Cond.constantLong "IdeaCageModel" (74 : Nat) (15 : Int64)) ∈ tb := tbm (tb3 117 (by decide +kernel)) rfl
theorem tm_3_118 : (Jvm.Cond.methodLink "IdeaCageModel" (79 : Nat) ({ cls := "IdeaCageModel", name := "has", desc := "(II)Z" } : Jvm.MethodName)) ∈ tb := tbm (tb3 118 (by decide +kernel)) rfl
theorem tm_3_119 : (Jvm.Cond.static ({ cls := "IdeaCageModel", name := "has", desc := "(II)Z" } : Jvm.MethodName)) ∈ tb := tbm (tb3 119 (by decide +kernel)) rfl
theorem tm_3_121 : (Jvm.Cond.constantLong "IdeaCageModel" (54 : Nat) (3 : Int64)) ∈ tb := tbm (tb3 121 (by decide +kernel)) rfl
theorem tm_3_122 : (Jvm.Cond.methodLink "IdeaCageLaw" (30 : Nat) ({ cls := "IdeaCageModel", name := "idea", desc := "()I" } : Jvm.MethodName)) ∈ tb := tbm (tb3 122 (by decide +kernel)) rfl
theorem tm_3_123 : (Jvm.Cond.instanceMethod ({ cls := "IdeaCageModel", name := "idea", desc := "()I" } : Jvm.MethodName)) ∈ tb := tbm (tb3 123 (by decide +kernel)) rfl
theorem tm_3_124 : (Jvm.Cond.selects "IdeaCageModel" ({ cls := "IdeaCageModel", name := "idea", desc := "()I" } : Jvm.MethodName) ({ cls := "IdeaCageModel", name := "idea", desc := "()I" } : Jvm.MethodName)) ∈ tb := tbm (tb3 124 (by decide +kernel)) rfl
theorem tm_3_126 : (Jvm.Cond.methodLink "IdeaCageLaw" (34 : Nat) ({ cls := "IdeaCageModel", name := "about", desc := "(I)I" } : Jvm.MethodName)) ∈ tb := tbm (tb3 126 (by decide +kernel)) rfl
theorem tm_3_127 : (Jvm.Cond.instanceMethod ({ cls := "IdeaCageModel", name := "about", desc := "(I)I" } : Jvm.MethodName)) ∈ tb := tbm (tb3 127 (by decide +kernel)) rfl
theorem tm_3_128 : (Jvm.Cond.selects "IdeaCageModel" ({ cls := "IdeaCageModel", name := "about", desc := "(I)I" } : Jvm.MethodName) ({ cls := "IdeaCageModel", name := "about", desc := "(I)I" } : Jvm.MethodName)) ∈ tb := tbm (tb3 128 (by decide +kernel)) rfl
theorem tm_3_130 : (Jvm.Cond.methodLink "IdeaCageModel" (138 : Nat) ({ cls := "IdeaCageModel", name := "poles", desc := "([I)I" } : Jvm.MethodName)) ∈ tb := tbm (tb3 130 (by decide +kernel)) rfl
theorem tm_3_131 : (Jvm.Cond.static ({ cls := "IdeaCageModel", name := "poles", desc := "([I)I" } : Jvm.MethodName)) ∈ tb := tbm (tb3 131 (by decide +kernel)) rfl
theorem tm_3_133 : (Jvm.Cond.methodLink "IdeaCageModel" (141 : Nat) ({ cls := "IdeaCageModel", name := "left", desc := "()I" } : Jvm.MethodName)) ∈ tb := tbm (tb3 133 (by decide +kernel)) rfl
theorem tm_3_135 : (Jvm.Cond.instanceMethod ({ cls := "IdeaCageModel", name := "left", desc := "()I" } : Jvm.MethodName)) ∈ tb := tbm (tb3 135 (by decide +kernel)) rfl
theorem tm_3_137 : (Jvm.Cond.methodLink "IdeaCageModel" (132 : Nat) ({ cls := "IdeaCageModel", name := "begin", desc := "()V" } : Jvm.MethodName)) ∈ tb := tbm (tb3 137 (by decide +kernel)) rfl
theorem tm_3_139 : (Jvm.Cond.instanceMethod ({ cls := "IdeaCageModel", name := "begin", desc := "()V" } : Jvm.MethodName)) ∈ tb := tbm (tb3 139 (by decide +kernel)) rfl
theorem tm_3_141 : (Jvm.Cond.methodLink "IdeaCageModel" (135 : Nat) ({ cls := "IdeaCageModel", name := "settle", desc := "([I)I" } : Jvm.MethodName)) ∈ tb := tbm (tb3 141 (by decide +kernel)) rfl
theorem tm_3_143 : (Jvm.Cond.instanceMethod ({ cls := "IdeaCageModel", name := "settle", desc := "([I)I" } : Jvm.MethodName)) ∈ tb := tbm (tb3 143 (by decide +kernel)) rfl
theorem tm_3_145 : (Jvm.Cond.methodLink "IdeaCageModel" (125 : Nat) ({ cls := "IdeaCageModel", name := "standing", desc := "([I)I" } : Jvm.MethodName)) ∈ tb := tbm (tb3 145 (by decide +kernel)) rfl
theorem tm_3_147 : (Jvm.Cond.instanceMethod ({ cls := "IdeaCageModel", name := "standing", desc := "([I)I" } : Jvm.MethodName)) ∈ tb := tbm (tb3 147 (by decide +kernel)) rfl
theorem tm_3_149 : (Jvm.Cond.methodLink "IdeaCageModel" (121 : Nat) ({ cls := "IdeaCageModel", name := "stands", desc := "([III)Z" } : Jvm.MethodName)) ∈ tb := tbm (tb3 149 (by decide +kernel)) rfl
theorem tm_3_151 : (Jvm.Cond.instanceMethod ({ cls := "IdeaCageModel", name := "stands", desc := "([III)Z" } : Jvm.MethodName)) ∈ tb := tbm (tb3 151 (by decide +kernel)) rfl
theorem tm_3_153 : (Jvm.Cond.methodLink "IdeaCageModel" (109 : Nat) ({ cls := "IdeaCageModel", name := "hasPole", desc := "([II)Z" } : Jvm.MethodName)) ∈ tb := tbm (tb3 153 (by decide +kernel)) rfl
theorem tm_3_155 : (Jvm.Cond.instanceMethod ({ cls := "IdeaCageModel", name := "hasPole", desc := "([II)Z" } : Jvm.MethodName)) ∈ tb := tbm (tb3 155 (by decide +kernel)) rfl
theorem tm_3_157 : (Jvm.Cond.methodLink "IdeaCageModel" (113 : Nat) ({ cls := "IdeaCageModel", name := "isBy", desc := "(IIII)Z" } : Jvm.MethodName)) ∈ tb := tbm (tb3 157 (by decide +kernel)) rfl
theorem tm_3_159 : (Jvm.Cond.instanceMethod ({ cls := "IdeaCageModel", name := "isBy", desc := "(IIII)Z" } : Jvm.MethodName)) ∈ tb := tbm (tb3 159 (by decide +kernel)) rfl
theorem tm_3_161 : (Jvm.Cond.methodLink "IdeaCageModel" (101 : Nat) ({ cls := "IdeaCageModel", name := "noColumn", desc := "(I)Z" } : Jvm.MethodName)) ∈ tb := tbm (tb3 161 (by decide +kernel)) rfl
theorem tm_3_162 : (Jvm.Cond.static ({ cls := "IdeaCageModel", name := "noColumn", desc := "(I)Z" } : Jvm.MethodName)) ∈ tb := tbm (tb3 162 (by decide +kernel)) rfl
theorem tm_3_164 : (Jvm.Cond.methodLink "IdeaCageModel" (105 : Nat) ({ cls := "IdeaCageModel", name := "partAt", desc := "(I)I" } : Jvm.MethodName)) ∈ tb := tbm (tb3 164 (by decide +kernel)) rfl
theorem tm_3_166 : (Jvm.Cond.instanceMethod ({ cls := "IdeaCageModel", name := "partAt", desc := "(I)I" } : Jvm.MethodName)) ∈ tb := tbm (tb3 166 (by decide +kernel)) rfl
theorem tm_3_168 : (Jvm.Cond.methodLink "IdeaCageModel" (117 : Nat) ({ cls := "IdeaCageModel", name := "standsBy", desc := "(IZZZZZ)Z" } : Jvm.MethodName)) ∈ tb := tbm (tb3 168 (by decide +kernel)) rfl
theorem tm_3_169 : (Jvm.Cond.static ({ cls := "IdeaCageModel", name := "standsBy", desc := "(IZZZZZ)Z" } : Jvm.MethodName)) ∈ tb := tbm (tb3 169 (by decide +kernel)) rfl
theorem tm_3_171 : (Jvm.Cond.methodLink "IdeaCageModel" (129 : Nat) ({ cls := "IdeaCageModel", name := "many", desc := "(I)I" } : Jvm.MethodName)) ∈ tb := tbm (tb3 171 (by decide +kernel)) rfl
theorem tm_3_172 : (Jvm.Cond.static ({ cls := "IdeaCageModel", name := "many", desc := "(I)I" } : Jvm.MethodName)) ∈ tb := tbm (tb3 172 (by decide +kernel)) rfl
theorem tm_3_174 : (Jvm.Cond.methodLink "IdeaCageLaw" (39 : Nat) ({ cls := "IdeaCageModel", name := "part", desc := "(II)I" } : Jvm.MethodName)) ∈ tb := tbm (tb3 174 (by decide +kernel)) rfl
theorem tm_3_175 : (Jvm.Cond.instanceMethod ({ cls := "IdeaCageModel", name := "part", desc := "(II)I" } : Jvm.MethodName)) ∈ tb := tbm (tb3 175 (by decide +kernel)) rfl
theorem tm_3_176 : (Jvm.Cond.selects "IdeaCageModel" ({ cls := "IdeaCageModel", name := "part", desc := "(II)I" } : Jvm.MethodName) ({ cls := "IdeaCageModel", name := "part", desc := "(II)I" } : Jvm.MethodName)) ∈ tb := tbm (tb3 176 (by decide +kernel)) rfl
theorem tm_3_178 : (Jvm.Cond.methodLink "IdeaCageModel" (147 : Nat) ({ cls := "IdeaCageModel", name := "noPart", desc := "(I)Z" } : Jvm.MethodName)) ∈ tb := tbm (tb3 178 (by decide +kernel)) rfl
theorem tm_3_180 : (Jvm.Cond.instanceMethod ({ cls := "IdeaCageModel", name := "noPart", desc := "(I)Z" } : Jvm.MethodName)) ∈ tb := tbm (tb3 180 (by decide +kernel)) rfl
theorem tm_3_182 : (Jvm.Cond.methodLink "IdeaCageLaw" (43 : Nat) ({ cls := "IdeaCageModel", name := "column", desc := "(I)I" } : Jvm.MethodName)) ∈ tb := tbm (tb3 182 (by decide +kernel)) rfl
theorem tm_3_183 : (Jvm.Cond.instanceMethod ({ cls := "IdeaCageModel", name := "column", desc := "(I)I" } : Jvm.MethodName)) ∈ tb := tbm (tb3 183 (by decide +kernel)) rfl
theorem tm_3_184 : (Jvm.Cond.selects "IdeaCageModel" ({ cls := "IdeaCageModel", name := "column", desc := "(I)I" } : Jvm.MethodName) ({ cls := "IdeaCageModel", name := "column", desc := "(I)I" } : Jvm.MethodName)) ∈ tb := tbm (tb3 184 (by decide +kernel)) rfl
theorem tm_3_186 : (Jvm.Cond.methodLink "IdeaCageLaw" (47 : Nat) ({ cls := "IdeaCageModel", name := "at", desc := "(I)I" } : Jvm.MethodName)) ∈ tb := tbm (tb3 186 (by decide +kernel)) rfl
theorem tm_3_187 : (Jvm.Cond.instanceMethod ({ cls := "IdeaCageModel", name := "at", desc := "(I)I" } : Jvm.MethodName)) ∈ tb := tbm (tb3 187 (by decide +kernel)) rfl
theorem tm_3_188 : (Jvm.Cond.selects "IdeaCageModel" ({ cls := "IdeaCageModel", name := "at", desc := "(I)I" } : Jvm.MethodName) ({ cls := "IdeaCageModel", name := "at", desc := "(I)I" } : Jvm.MethodName)) ∈ tb := tbm (tb3 188 (by decide +kernel)) rfl
theorem tm_3_190 : (Jvm.Cond.methodLink "IdeaCageLaw" (51 : Nat) ({ cls := "IdeaCageModel", name := "put", desc := "(I)I" } : Jvm.MethodName)) ∈ tb := tbm (tb3 190 (by decide +kernel)) rfl
theorem tm_3_191 : (Jvm.Cond.instanceMethod ({ cls := "IdeaCageModel", name := "put", desc := "(I)I" } : Jvm.MethodName)) ∈ tb := tbm (tb3 191 (by decide +kernel)) rfl
theorem tm_3_192 : (Jvm.Cond.selects "IdeaCageModel" ({ cls := "IdeaCageModel", name := "put", desc := "(I)I" } : Jvm.MethodName) ({ cls := "IdeaCageModel", name := "put", desc := "(I)I" } : Jvm.MethodName)) ∈ tb := tbm (tb3 192 (by decide +kernel)) rfl
theorem tm_3_194 : (Jvm.Cond.methodLink "IdeaCageModel" (150 : Nat) ({ cls := "IdeaCageModel", name := "note", desc := "()V" } : Jvm.MethodName)) ∈ tb := tbm (tb3 194 (by decide +kernel)) rfl
theorem tm_3_196 : (Jvm.Cond.instanceMethod ({ cls := "IdeaCageModel", name := "note", desc := "()V" } : Jvm.MethodName)) ∈ tb := tbm (tb3 196 (by decide +kernel)) rfl
theorem tm_3_198 : (Jvm.Cond.methodLink "IdeaCageModel" (153 : Nat) ({ cls := "IdeaCageModel", name := "goPut", desc := "([II)Z" } : Jvm.MethodName)) ∈ tb := tbm (tb3 198 (by decide +kernel)) rfl
theorem tm_3_200 : (Jvm.Cond.instanceMethod ({ cls := "IdeaCageModel", name := "goPut", desc := "([II)Z" } : Jvm.MethodName)) ∈ tb := tbm (tb3 200 (by decide +kernel)) rfl
theorem tm_3_202 : (Jvm.Cond.methodLink "IdeaCageLaw" (55 : Nat) ({ cls := "IdeaCageModel", name := "strike", desc := "(I)I" } : Jvm.MethodName)) ∈ tb := tbm (tb3 202 (by decide +kernel)) rfl
theorem tm_3_203 : (Jvm.Cond.instanceMethod ({ cls := "IdeaCageModel", name := "strike", desc := "(I)I" } : Jvm.MethodName)) ∈ tb := tbm (tb3 203 (by decide +kernel)) rfl
theorem tm_3_204 : (Jvm.Cond.selects "IdeaCageModel" ({ cls := "IdeaCageModel", name := "strike", desc := "(I)I" } : Jvm.MethodName) ({ cls := "IdeaCageModel", name := "strike", desc := "(I)I" } : Jvm.MethodName)) ∈ tb := tbm (tb3 204 (by decide +kernel)) rfl
theorem tm_3_206 : (Jvm.Cond.methodLink "IdeaCageModel" (156 : Nat) ({ cls := "IdeaCageModel", name := "goStrike", desc := "([II)I" } : Jvm.MethodName)) ∈ tb := tbm (tb3 206 (by decide +kernel)) rfl
theorem tm_3_208 : (Jvm.Cond.instanceMethod ({ cls := "IdeaCageModel", name := "goStrike", desc := "([II)I" } : Jvm.MethodName)) ∈ tb := tbm (tb3 208 (by decide +kernel)) rfl
theorem tm_3_210 : (Jvm.Cond.methodLink "IdeaCageLaw" (59 : Nat) ({ cls := "IdeaCageModel", name := "rain", desc := "()I" } : Jvm.MethodName)) ∈ tb := tbm (tb3 210 (by decide +kernel)) rfl
theorem tm_3_211 : (Jvm.Cond.instanceMethod ({ cls := "IdeaCageModel", name := "rain", desc := "()I" } : Jvm.MethodName)) ∈ tb := tbm (tb3 211 (by decide +kernel)) rfl
theorem tm_3_212 : (Jvm.Cond.selects "IdeaCageModel" ({ cls := "IdeaCageModel", name := "rain", desc := "()I" } : Jvm.MethodName) ({ cls := "IdeaCageModel", name := "rain", desc := "()I" } : Jvm.MethodName)) ∈ tb := tbm (tb3 212 (by decide +kernel)) rfl
theorem tm_3_214 : (Jvm.Cond.methodLink "IdeaCageModel" (160 : Nat) ({ cls := "IdeaCageModel", name := "goRain", desc := "([I)I" } : Jvm.MethodName)) ∈ tb := tbm (tb3 214 (by decide +kernel)) rfl
theorem tm_3_216 : (Jvm.Cond.instanceMethod ({ cls := "IdeaCageModel", name := "goRain", desc := "([I)I" } : Jvm.MethodName)) ∈ tb := tbm (tb3 216 (by decide +kernel)) rfl
theorem tm_3_218 : (Jvm.Cond.methodLink "IdeaCageLaw" (63 : Nat) ({ cls := "IdeaCageModel", name := "undo", desc := "()I" } : Jvm.MethodName)) ∈ tb := tbm (tb3 218 (by decide +kernel)) rfl
theorem tm_3_219 : (Jvm.Cond.instanceMethod ({ cls := "IdeaCageModel", name := "undo", desc := "()I" } : Jvm.MethodName)) ∈ tb := tbm (tb3 219 (by decide +kernel)) rfl
theorem tm_3_220 : (Jvm.Cond.selects "IdeaCageModel" ({ cls := "IdeaCageModel", name := "undo", desc := "()I" } : Jvm.MethodName) ({ cls := "IdeaCageModel", name := "undo", desc := "()I" } : Jvm.MethodName)) ∈ tb := tbm (tb3 220 (by decide +kernel)) rfl
theorem tm_3_222 : (Jvm.Cond.methodLink "IdeaCageLaw" (67 : Nat) ({ cls := "IdeaCageModel", name := "loses", desc := "(I)I" } : Jvm.MethodName)) ∈ tb := tbm (tb3 222 (by decide +kernel)) rfl
theorem tm_3_223 : (Jvm.Cond.instanceMethod ({ cls := "IdeaCageModel", name := "loses", desc := "(I)I" } : Jvm.MethodName)) ∈ tb := tbm (tb3 223 (by decide +kernel)) rfl
theorem tm_3_224 : (Jvm.Cond.selects "IdeaCageModel" ({ cls := "IdeaCageModel", name := "loses", desc := "(I)I" } : Jvm.MethodName) ({ cls := "IdeaCageModel", name := "loses", desc := "(I)I" } : Jvm.MethodName)) ∈ tb := tbm (tb3 224 (by decide +kernel)) rfl
theorem tm_3_226 : (Jvm.Cond.methodLink "IdeaCageLaw" (71 : Nat) ({ cls := "IdeaCageModel", name := "down", desc := "(I)I" } : Jvm.MethodName)) ∈ tb := tbm (tb3 226 (by decide +kernel)) rfl
theorem tm_3_227 : (Jvm.Cond.instanceMethod ({ cls := "IdeaCageModel", name := "down", desc := "(I)I" } : Jvm.MethodName)) ∈ tb := tbm (tb3 227 (by decide +kernel)) rfl
theorem tm_3_228 : (Jvm.Cond.selects "IdeaCageModel" ({ cls := "IdeaCageModel", name := "down", desc := "(I)I" } : Jvm.MethodName) ({ cls := "IdeaCageModel", name := "down", desc := "(I)I" } : Jvm.MethodName)) ∈ tb := tbm (tb3 228 (by decide +kernel)) rfl
theorem tm_3_230 : (Jvm.Cond.methodLink "IdeaCageLaw" (75 : Nat) ({ cls := "IdeaCageModel", name := "soon", desc := "(II)I" } : Jvm.MethodName)) ∈ tb := tbm (tb3 230 (by decide +kernel)) rfl
theorem tm_3_231 : (Jvm.Cond.instanceMethod ({ cls := "IdeaCageModel", name := "soon", desc := "(II)I" } : Jvm.MethodName)) ∈ tb := tbm (tb3 231 (by decide +kernel)) rfl
theorem tm_3_232 : (Jvm.Cond.selects "IdeaCageModel" ({ cls := "IdeaCageModel", name := "soon", desc := "(II)I" } : Jvm.MethodName) ({ cls := "IdeaCageModel", name := "soon", desc := "(II)I" } : Jvm.MethodName)) ∈ tb := tbm (tb3 232 (by decide +kernel)) rfl
theorem tm_3_234 : (Jvm.Cond.methodLink "IdeaCageModel" (176 : Nat) ({ cls := "IdeaCageModel", name := "findSoon", desc := "(I)V" } : Jvm.MethodName)) ∈ tb := tbm (tb3 234 (by decide +kernel)) rfl
theorem tm_3_236 : (Jvm.Cond.instanceMethod ({ cls := "IdeaCageModel", name := "findSoon", desc := "(I)V" } : Jvm.MethodName)) ∈ tb := tbm (tb3 236 (by decide +kernel)) rfl
theorem tm_3_238 : (Jvm.Cond.methodLink "IdeaCageModel" (166 : Nat) ({ cls := "IdeaCageModel", name := "power", desc := "(II)I" } : Jvm.MethodName)) ∈ tb := tbm (tb3 238 (by decide +kernel)) rfl
theorem tm_3_239 : (Jvm.Cond.static ({ cls := "IdeaCageModel", name := "power", desc := "(II)I" } : Jvm.MethodName)) ∈ tb := tbm (tb3 239 (by decide +kernel)) rfl
theorem tm_4_1 : (Jvm.Cond.methodLink "IdeaCageModel" (170 : Nat) ({ cls := "IdeaCageModel", name := "actsBy", desc := "(II)Z" } : Jvm.MethodName)) ∈ tb := tbm (tb4 1 (by decide +kernel)) rfl
theorem tm_4_3 : (Jvm.Cond.instanceMethod ({ cls := "IdeaCageModel", name := "actsBy", desc := "(II)Z" } : Jvm.MethodName)) ∈ tb := tbm (tb4 3 (by decide +kernel)) rfl
theorem tm_4_5 : (Jvm.Cond.methodLink "IdeaCageLaw" (82 : Nat) ({ cls := "IdeaCageModel", name := "judge", desc := "(IJ)I" } : Jvm.MethodName)) ∈ tb := tbm (tb4 5 (by decide +kernel)) rfl
theorem tm_4_6 : (Jvm.Cond.instanceMethod ({ cls := "IdeaCageModel", name := "judge", desc := "(IJ)I" } : Jvm.MethodName)) ∈ tb := tbm (tb4 6 (by decide +kernel)) rfl
theorem tm_4_7 : (Jvm.Cond.selects "IdeaCageModel" ({ cls := "IdeaCageModel", name := "judge", desc := "(IJ)I" } : Jvm.MethodName) ({ cls := "IdeaCageModel", name := "judge", desc := "(IJ)I" } : Jvm.MethodName)) ∈ tb := tbm (tb4 7 (by decide +kernel)) rfl
theorem tm_4_9 : (Jvm.Cond.constantLong "IdeaCageModel" (183 : Nat) (4 : Int64)) ∈ tb := tbm (tb4 9 (by decide +kernel)) rfl
theorem tm_4_10 : (Jvm.Cond.constantLong "IdeaCageModel" (185 : Nat) (1000 : Int64)) ∈ tb := tbm (tb4 10 (by decide +kernel)) rfl
theorem tm_4_11 : (Jvm.Cond.methodLink "IdeaCageModel" (187 : Nat) ({ cls := "IdeaCageModel", name := "longPower", desc := "(JI)J" } : Jvm.MethodName)) ∈ tb := tbm (tb4 11 (by decide +kernel)) rfl
theorem tm_4_12 : (Jvm.Cond.static ({ cls := "IdeaCageModel", name := "longPower", desc := "(JI)J" } : Jvm.MethodName)) ∈ tb := tbm (tb4 12 (by decide +kernel)) rfl
theorem tm_4_14 : (Jvm.Cond.methodLink "IdeaCageModel" (191 : Nat) ({ cls := "IdeaCageModel", name := "does", desc := "(I)Z" } : Jvm.MethodName)) ∈ tb := tbm (tb4 14 (by decide +kernel)) rfl
theorem tm_4_16 : (Jvm.Cond.instanceMethod ({ cls := "IdeaCageModel", name := "does", desc := "(I)Z" } : Jvm.MethodName)) ∈ tb := tbm (tb4 16 (by decide +kernel)) rfl
theorem tm_4_18 : (Jvm.Cond.methodLink "IdeaCageModel" (180 : Nat) ({ cls := "IdeaCageModel", name := "strikes", desc := "(I)Z" } : Jvm.MethodName)) ∈ tb := tbm (tb4 18 (by decide +kernel)) rfl
theorem tm_4_20 : (Jvm.Cond.instanceMethod ({ cls := "IdeaCageModel", name := "strikes", desc := "(I)Z" } : Jvm.MethodName)) ∈ tb := tbm (tb4 20 (by decide +kernel)) rfl
theorem tm_4_22 : (Jvm.Cond.methodLink "IdeaCageLaw" (87 : Nat) ({ cls := "IdeaCageModel", name := "share", desc := "(IZ)I" } : Jvm.MethodName)) ∈ tb := tbm (tb4 22 (by decide +kernel)) rfl
theorem tm_4_23 : (Jvm.Cond.instanceMethod ({ cls := "IdeaCageModel", name := "share", desc := "(IZ)I" } : Jvm.MethodName)) ∈ tb := tbm (tb4 23 (by decide +kernel)) rfl
theorem tm_4_24 : (Jvm.Cond.selects "IdeaCageModel" ({ cls := "IdeaCageModel", name := "share", desc := "(IZ)I" } : Jvm.MethodName) ({ cls := "IdeaCageModel", name := "share", desc := "(IZ)I" } : Jvm.MethodName)) ∈ tb := tbm (tb4 24 (by decide +kernel)) rfl
theorem tm_4_26 : (Jvm.Cond.methodLink "IdeaCageModel" (197 : Nat) ({ cls := "IdeaCageModel", name := "ways", desc := "(I)I" } : Jvm.MethodName)) ∈ tb := tbm (tb4 26 (by decide +kernel)) rfl
theorem tm_4_27 : (Jvm.Cond.static ({ cls := "IdeaCageModel", name := "ways", desc := "(I)I" } : Jvm.MethodName)) ∈ tb := tbm (tb4 27 (by decide +kernel)) rfl
theorem tm_4_29 : (Jvm.Cond.methodLink "IdeaCageModel" (200 : Nat) ({ cls := "IdeaCageModel", name := "fraction", desc := "(IIZ)I" } : Jvm.MethodName)) ∈ tb := tbm (tb4 29 (by decide +kernel)) rfl
theorem tm_4_30 : (Jvm.Cond.static ({ cls := "IdeaCageModel", name := "fraction", desc := "(IIZ)I" } : Jvm.MethodName)) ∈ tb := tbm (tb4 30 (by decide +kernel)) rfl
theorem tm_4_32 : (Jvm.Cond.methodLink "IdeaCageModel" (194 : Nat) ({ cls := "IdeaCageModel", name := "divisor", desc := "(II)I" } : Jvm.MethodName)) ∈ tb := tbm (tb4 32 (by decide +kernel)) rfl
theorem tm_4_33 : (Jvm.Cond.static ({ cls := "IdeaCageModel", name := "divisor", desc := "(II)I" } : Jvm.MethodName)) ∈ tb := tbm (tb4 33 (by decide +kernel)) rfl
theorem tm_4_35 : (Jvm.Cond.methodLink "IdeaCageLaw" (91 : Nat) ({ cls := "IdeaCageModel", name := "attempt", desc := "(II)I" } : Jvm.MethodName)) ∈ tb := tbm (tb4 35 (by decide +kernel)) rfl
theorem tm_4_36 : (Jvm.Cond.instanceMethod ({ cls := "IdeaCageModel", name := "attempt", desc := "(II)I" } : Jvm.MethodName)) ∈ tb := tbm (tb4 36 (by decide +kernel)) rfl
theorem tm_4_37 : (Jvm.Cond.selects "IdeaCageModel" ({ cls := "IdeaCageModel", name := "attempt", desc := "(II)I" } : Jvm.MethodName) ({ cls := "IdeaCageModel", name := "attempt", desc := "(II)I" } : Jvm.MethodName)) ∈ tb := tbm (tb4 37 (by decide +kernel)) rfl
theorem tm_4_39 : (Jvm.Cond.constantLong "IdeaCageModel" (204 : Nat) (31 : Int64)) ∈ tb := tbm (tb4 39 (by decide +kernel)) rfl
theorem tm_4_40 : (Jvm.Cond.methodLink "IdeaCageLaw" (95 : Nat) ({ cls := "IdeaCageModel", name := "unattempt", desc := "()I" } : Jvm.MethodName)) ∈ tb := tbm (tb4 40 (by decide +kernel)) rfl
theorem tm_4_41 : (Jvm.Cond.instanceMethod ({ cls := "IdeaCageModel", name := "unattempt", desc := "()I" } : Jvm.MethodName)) ∈ tb := tbm (tb4 41 (by decide +kernel)) rfl
theorem tm_4_42 : (Jvm.Cond.selects "IdeaCageModel" ({ cls := "IdeaCageModel", name := "unattempt", desc := "()I" } : Jvm.MethodName) ({ cls := "IdeaCageModel", name := "unattempt", desc := "()I" } : Jvm.MethodName)) ∈ tb := tbm (tb4 42 (by decide +kernel)) rfl
theorem tm_4_44 : (Jvm.Cond.methodLink "IdeaCageLaw" (99 : Nat) ({ cls := "IdeaCageModel", name := "kinds", desc := "(I)I" } : Jvm.MethodName)) ∈ tb := tbm (tb4 44 (by decide +kernel)) rfl
theorem tm_4_45 : (Jvm.Cond.instanceMethod ({ cls := "IdeaCageModel", name := "kinds", desc := "(I)I" } : Jvm.MethodName)) ∈ tb := tbm (tb4 45 (by decide +kernel)) rfl
theorem tm_4_46 : (Jvm.Cond.selects "IdeaCageModel" ({ cls := "IdeaCageModel", name := "kinds", desc := "(I)I" } : Jvm.MethodName) ({ cls := "IdeaCageModel", name := "kinds", desc := "(I)I" } : Jvm.MethodName)) ∈ tb := tbm (tb4 46 (by decide +kernel)) rfl
theorem tm_4_48 : (Jvm.Cond.methodLink "IdeaCageLaw" (104 : Nat) ({ cls := "IdeaCageModel", name := "rests", desc := "(III)I" } : Jvm.MethodName)) ∈ tb := tbm (tb4 48 (by decide +kernel)) rfl
theorem tm_4_49 : (Jvm.Cond.instanceMethod ({ cls := "IdeaCageModel", name := "rests", desc := "(III)I" } : Jvm.MethodName)) ∈ tb := tbm (tb4 49 (by decide +kernel)) rfl
theorem tm_4_50 : (Jvm.Cond.selects "IdeaCageModel" ({ cls := "IdeaCageModel", name := "rests", desc := "(III)I" } : Jvm.MethodName) ({ cls := "IdeaCageModel", name := "rests", desc := "(III)I" } : Jvm.MethodName)) ∈ tb := tbm (tb4 50 (by decide +kernel)) rfl
theorem tm_4_52 : (Jvm.Cond.methodLink "IdeaCageModel" (212 : Nat) ({ cls := "IdeaCageModel", name := "chooses", desc := "(II)V" } : Jvm.MethodName)) ∈ tb := tbm (tb4 52 (by decide +kernel)) rfl
theorem tm_4_54 : (Jvm.Cond.instanceMethod ({ cls := "IdeaCageModel", name := "chooses", desc := "(II)V" } : Jvm.MethodName)) ∈ tb := tbm (tb4 54 (by decide +kernel)) rfl
theorem tm_4_56 : (Jvm.Cond.methodLink "IdeaCageModel" (216 : Nat) ({ cls := "IdeaCageModel", name := "gain", desc := "(I)I" } : Jvm.MethodName)) ∈ tb := tbm (tb4 56 (by decide +kernel)) rfl
theorem tm_4_58 : (Jvm.Cond.instanceMethod ({ cls := "IdeaCageModel", name := "gain", desc := "(I)I" } : Jvm.MethodName)) ∈ tb := tbm (tb4 58 (by decide +kernel)) rfl
theorem tm_4_60 : (Jvm.Cond.methodLink "IdeaCageLaw" (109 : Nat) ({ cls := "IdeaCageModel", name := "wet", desc := "(IIZ)I" } : Jvm.MethodName)) ∈ tb := tbm (tb4 60 (by decide +kernel)) rfl
theorem tm_4_61 : (Jvm.Cond.instanceMethod ({ cls := "IdeaCageModel", name := "wet", desc := "(IIZ)I" } : Jvm.MethodName)) ∈ tb := tbm (tb4 61 (by decide +kernel)) rfl
theorem tm_4_62 : (Jvm.Cond.selects "IdeaCageModel" ({ cls := "IdeaCageModel", name := "wet", desc := "(IIZ)I" } : Jvm.MethodName) ({ cls := "IdeaCageModel", name := "wet", desc := "(IIZ)I" } : Jvm.MethodName)) ∈ tb := tbm (tb4 62 (by decide +kernel)) rfl
theorem tm_4_64 : (Jvm.Cond.constantLong "IdeaCageModel" (225 : Nat) (7 : Int64)) ∈ tb := tbm (tb4 64 (by decide +kernel)) rfl
theorem tm_4_65 : (Jvm.Cond.constantLong "IdeaCageModel" (227 : Nat) (10 : Int64)) ∈ tb := tbm (tb4 65 (by decide +kernel)) rfl
theorem tm_4_66 : (Jvm.Cond.methodLink "IdeaCageModel" (229 : Nat) ({ cls := "IdeaCageModel", name := "columnsWith", desc := "()I" } : Jvm.MethodName)) ∈ tb := tbm (tb4 66 (by decide +kernel)) rfl
theorem tm_4_68 : (Jvm.Cond.instanceMethod ({ cls := "IdeaCageModel", name := "columnsWith", desc := "()I" } : Jvm.MethodName)) ∈ tb := tbm (tb4 68 (by decide +kernel)) rfl
theorem tm_4_70 : (Jvm.Cond.methodLink "IdeaCageLaw" (114 : Nat) ({ cls := "IdeaCageModel", name := "seed", desc := "(J)J" } : Jvm.MethodName)) ∈ tb := tbm (tb4 70 (by decide +kernel)) rfl
theorem tm_4_71 : (Jvm.Cond.instanceMethod ({ cls := "IdeaCageModel", name := "seed", desc := "(J)J" } : Jvm.MethodName)) ∈ tb := tbm (tb4 71 (by decide +kernel)) rfl
theorem tm_4_72 : (Jvm.Cond.selects "IdeaCageModel" ({ cls := "IdeaCageModel", name := "seed", desc := "(J)J" } : Jvm.MethodName) ({ cls := "IdeaCageModel", name := "seed", desc := "(J)J" } : Jvm.MethodName)) ∈ tb := tbm (tb4 72 (by decide +kernel)) rfl
theorem tm_4_74 : (Jvm.Cond.methodLink "IdeaCageLaw" (118 : Nat) ({ cls := "IdeaCageModel", name := "terms", desc := "(I)I" } : Jvm.MethodName)) ∈ tb := tbm (tb4 74 (by decide +kernel)) rfl
theorem tm_4_75 : (Jvm.Cond.instanceMethod ({ cls := "IdeaCageModel", name := "terms", desc := "(I)I" } : Jvm.MethodName)) ∈ tb := tbm (tb4 75 (by decide +kernel)) rfl
theorem tm_4_76 : (Jvm.Cond.selects "IdeaCageModel" ({ cls := "IdeaCageModel", name := "terms", desc := "(I)I" } : Jvm.MethodName) ({ cls := "IdeaCageModel", name := "terms", desc := "(I)I" } : Jvm.MethodName)) ∈ tb := tbm (tb4 76 (by decide +kernel)) rfl
theorem tm_4_78 : (Jvm.Cond.constantLong "IdeaCageModel" (236 : Nat) (30 : Int64)) ∈ tb := tbm (tb4 78 (by decide +kernel)) rfl
theorem tm_4_79 : (Jvm.Cond.constantLong "IdeaCageModel" (238 : Nat) (6364136223846793005 : Int64)) ∈ tb := tbm (tb4 79 (by decide +kernel)) rfl
theorem tm_4_80 : (Jvm.Cond.constantLong "IdeaCageModel" (240 : Nat) (1442695040888963407 : Int64)) ∈ tb := tbm (tb4 80 (by decide +kernel)) rfl
theorem tm_4_81 : (Jvm.Cond.constantLong "IdeaCageModel" (242 : Nat) (16 : Int64)) ∈ tb := tbm (tb4 81 (by decide +kernel)) rfl
theorem tm_4_82 : (Jvm.Cond.methodLink "IdeaCageLaw" (122 : Nat) ({ cls := "IdeaCageModel", name := "keep", desc := "(I)I" } : Jvm.MethodName)) ∈ tb := tbm (tb4 82 (by decide +kernel)) rfl
theorem tm_4_83 : (Jvm.Cond.instanceMethod ({ cls := "IdeaCageModel", name := "keep", desc := "(I)I" } : Jvm.MethodName)) ∈ tb := tbm (tb4 83 (by decide +kernel)) rfl
theorem tm_4_84 : (Jvm.Cond.selects "IdeaCageModel" ({ cls := "IdeaCageModel", name := "keep", desc := "(I)I" } : Jvm.MethodName) ({ cls := "IdeaCageModel", name := "keep", desc := "(I)I" } : Jvm.MethodName)) ∈ tb := tbm (tb4 84 (by decide +kernel)) rfl
theorem tm_4_86 : (Jvm.Cond.methodLink "IdeaCageLaw" (126 : Nat) ({ cls := "IdeaCageModel", name := "again", desc := "(I)I" } : Jvm.MethodName)) ∈ tb := tbm (tb4 86 (by decide +kernel)) rfl
theorem tm_4_87 : (Jvm.Cond.instanceMethod ({ cls := "IdeaCageModel", name := "again", desc := "(I)I" } : Jvm.MethodName)) ∈ tb := tbm (tb4 87 (by decide +kernel)) rfl
theorem tm_4_88 : (Jvm.Cond.selects "IdeaCageModel" ({ cls := "IdeaCageModel", name := "again", desc := "(I)I" } : Jvm.MethodName) ({ cls := "IdeaCageModel", name := "again", desc := "(I)I" } : Jvm.MethodName)) ∈ tb := tbm (tb4 88 (by decide +kernel)) rfl
theorem tm_4_90 : (Jvm.Cond.constantLong "IdeaCageLaw" (76 : Nat) (4294967295 : Int64)) ∈ tb := tbm (tb4 90 (by decide +kernel)) rfl
end
section
theorem tm_1_14 : (Jvm.Cond.code ({ cls := "IdeaCage", name := "<init>", desc := "()V" } : Jvm.MethodName) prog_1_method_1_code (1 : Nat) (Option.none : Option Jvm.ClassFile.FieldType)) ∈ tb := tbm (tb1 14 rfl) rfl
theorem tm_1_17 : (Jvm.Cond.code ({ cls := "java/lang/Object", name := "<init>", desc := "()V" } : Jvm.MethodName) object_method_1_code (1 : Nat) (Option.none : Option Jvm.ClassFile.FieldType)) ∈ tb := tbm (tb1 17 rfl) rfl
theorem tm_1_22 : (Jvm.Cond.code ({ cls := "IdeaCage$Text", name := "<init>", desc := "()V" } : Jvm.MethodName) prog_5_method_1_code (1 : Nat) (Option.none : Option Jvm.ClassFile.FieldType)) ∈ tb := tbm (tb1 22 rfl) rfl
theorem tm_1_37 : (Jvm.Cond.code ({ cls := "IdeaCage$Plan", name := "<init>", desc := "()V" } : Jvm.MethodName) prog_4_method_1_code (1 : Nat) (Option.none : Option Jvm.ClassFile.FieldType)) ∈ tb := tbm (tb1 37 rfl) rfl
theorem tm_1_70 : (Jvm.Cond.code ({ cls := "IdeaCage$Acts", name := "<init>", desc := "()V" } : Jvm.MethodName) prog_2_method_1_code (1 : Nat) (Option.none : Option Jvm.ClassFile.FieldType)) ∈ tb := tbm (tb1 70 rfl) rfl
theorem tm_1_87 : (Jvm.Cond.code ({ cls := "IdeaCage$Tries", name := "<init>", desc := "()V" } : Jvm.MethodName) prog_6_method_1_code (1 : Nat) (Option.none : Option Jvm.ClassFile.FieldType)) ∈ tb := tbm (tb1 87 rfl) rfl
theorem tm_1_135 : (Jvm.Cond.code ({ cls := "IdeaCage", name := "write", desc := "(I)I" } : Jvm.MethodName) prog_1_method_2_code (2 : Nat) (Option.some Jvm.ClassFile.FieldType.int)) ∈ tb := tbm (tb1 135 rfl) rfl
theorem tm_1_139 : (Jvm.Cond.code ({ cls := "IdeaCage$Text", name := "append", desc := "(I)Z" } : Jvm.MethodName) prog_5_method_2_code (2 : Nat) (Option.some Jvm.ClassFile.FieldType.boolean)) ∈ tb := tbm (tb1 139 rfl) rfl
theorem tm_1_143 : (Jvm.Cond.code ({ cls := "IdeaCage", name := "wipe", desc := "()I" } : Jvm.MethodName) prog_1_method_3_code (2 : Nat) (Option.some Jvm.ClassFile.FieldType.int)) ∈ tb := tbm (tb1 143 rfl) rfl
theorem tm_1_147 : (Jvm.Cond.code ({ cls := "IdeaCage", name := "fault", desc := "()I" } : Jvm.MethodName) prog_1_method_4_code (1 : Nat) (Option.some Jvm.ClassFile.FieldType.int)) ∈ tb := tbm (tb1 147 rfl) rfl
theorem tm_1_151 : (Jvm.Cond.code ({ cls := "IdeaCage$Text", name := "firstFault", desc := "()I" } : Jvm.MethodName) prog_5_method_4_code (4 : Nat) (Option.some Jvm.ClassFile.FieldType.int)) ∈ tb := tbm (tb1 151 rfl) rfl
theorem tm_1_155 : (Jvm.Cond.code ({ cls := "IdeaCage$Text", name := "letterAt", desc := "(I)I" } : Jvm.MethodName) prog_5_method_3_code (2 : Nat) (Option.some Jvm.ClassFile.FieldType.int)) ∈ tb := tbm (tb1 155 rfl) rfl
theorem tm_1_158 : (Jvm.Cond.code ({ cls := "IdeaCage$Text", name := "fits", desc := "(III)Z" } : Jvm.MethodName) prog_5_method_5_code (3 : Nat) (Option.some Jvm.ClassFile.FieldType.boolean)) ∈ tb := tbm (tb1 158 rfl) rfl
theorem tm_1_162 : (Jvm.Cond.code ({ cls := "IdeaCage", name := "idea", desc := "()I" } : Jvm.MethodName) prog_1_method_5_code (2 : Nat) (Option.some Jvm.ClassFile.FieldType.int)) ∈ tb := tbm (tb1 162 rfl) rfl
theorem tm_1_166 : (Jvm.Cond.code ({ cls := "IdeaCage$Plan", name := "learn", desc := "(LIdeaCage$Text;)V" } : Jvm.MethodName) prog_4_method_2_code (4 : Nat) (Option.none : Option Jvm.ClassFile.FieldType)) ∈ tb := tbm (tb1 166 rfl) rfl
theorem tm_1_171 : (Jvm.Cond.code ({ cls := "IdeaCage$Text", name := "parts", desc := "()I" } : Jvm.MethodName) prog_5_method_6_code (1 : Nat) (Option.some Jvm.ClassFile.FieldType.int)) ∈ tb := tbm (tb1 171 rfl) rfl
theorem tm_1_174 : (Jvm.Cond.code ({ cls := "java/lang/Math", name := "min", desc := "(II)I" } : Jvm.MethodName) prog_10_method_69_code (2 : Nat) (Option.some Jvm.ClassFile.FieldType.int)) ∈ tb := tbm (tb1 174 rfl) rfl
theorem tm_1_178 : (Jvm.Cond.code ({ cls := "IdeaCage$Text", name := "cellOfPart", desc := "(I)I" } : Jvm.MethodName) prog_5_method_7_code (2 : Nat) (Option.some Jvm.ClassFile.FieldType.int)) ∈ tb := tbm (tb1 178 rfl) rfl
theorem tm_1_182 : (Jvm.Cond.code ({ cls := "IdeaCage$Text", name := "kindOfPart", desc := "(I)I" } : Jvm.MethodName) prog_5_method_8_code (2 : Nat) (Option.some Jvm.ClassFile.FieldType.int)) ∈ tb := tbm (tb1 182 rfl) rfl
theorem tm_1_186 : (Jvm.Cond.code ({ cls := "IdeaCage$Plan", name := "cellsOfKind", desc := "(I)I" } : Jvm.MethodName) prog_4_method_3_code (4 : Nat) (Option.some Jvm.ClassFile.FieldType.int)) ∈ tb := tbm (tb1 186 rfl) rfl
theorem tm_1_190 : (Jvm.Cond.code ({ cls := "IdeaCage", name := "about", desc := "(I)I" } : Jvm.MethodName) prog_1_method_6_code (2 : Nat) (Option.some Jvm.ClassFile.FieldType.int)) ∈ tb := tbm (tb1 190 rfl) rfl
theorem tm_1_194 : (Jvm.Cond.code ({ cls := "IdeaCage$Plan", name := "store", desc := "(I)I" } : Jvm.MethodName) prog_4_method_10_code (2 : Nat) (Option.some Jvm.ClassFile.FieldType.int)) ∈ tb := tbm (tb1 194 rfl) rfl
theorem tm_1_197 : (Jvm.Cond.code ({ cls := "IdeaCage$Frame", name := "poles", desc := "(I)I" } : Jvm.MethodName) prog_3_method_3_code (1 : Nat) (Option.some Jvm.ClassFile.FieldType.int)) ∈ tb := tbm (tb1 197 rfl) rfl
theorem tm_1_201 : (Jvm.Cond.code ({ cls := "java/lang/Integer", name := "bitCount", desc := "(I)I" } : Jvm.MethodName) prog_9_method_49_code (1 : Nat) (Option.some Jvm.ClassFile.FieldType.int)) ∈ tb := tbm (tb1 201 rfl) rfl
theorem tm_1_208 : (Jvm.Cond.code ({ cls := "IdeaCage", name := "allPoles", desc := "()I" } : Jvm.MethodName) prog_1_method_30_code (1 : Nat) (Option.some Jvm.ClassFile.FieldType.int)) ∈ tb := tbm (tb1 208 rfl) rfl
theorem tm_1_213 : (Jvm.Cond.code ({ cls := "IdeaCage$Frame", name := "had", desc := "(I)I" } : Jvm.MethodName) prog_3_method_4_code (1 : Nat) (Option.some Jvm.ClassFile.FieldType.int)) ∈ tb := tbm (tb1 213 rfl) rfl
theorem tm_1_217 : (Jvm.Cond.code ({ cls := "IdeaCage$Plan", name := "partsAt", desc := "(I)I" } : Jvm.MethodName) prog_4_method_8_code (4 : Nat) (Option.some Jvm.ClassFile.FieldType.int)) ∈ tb := tbm (tb1 217 rfl) rfl
theorem tm_1_221 : (Jvm.Cond.code ({ cls := "IdeaCage$Plan", name := "standing", desc := "(II)I" } : Jvm.MethodName) prog_4_method_17_code (6 : Nat) (Option.some Jvm.ClassFile.FieldType.int)) ∈ tb := tbm (tb1 221 rfl) rfl
theorem tm_1_225 : (Jvm.Cond.code ({ cls := "IdeaCage$Plan", name := "carriedBy", desc := "(I)I" } : Jvm.MethodName) prog_4_method_18_code (5 : Nat) (Option.some Jvm.ClassFile.FieldType.int)) ∈ tb := tbm (tb1 225 rfl) rfl
theorem tm_1_230 : (Jvm.Cond.code ({ cls := "IdeaCage", name := "part", desc := "(II)I" } : Jvm.MethodName) prog_1_method_7_code (4 : Nat) (Option.some Jvm.ClassFile.FieldType.int)) ∈ tb := tbm (tb1 230 rfl) rfl
theorem tm_1_234 : (Jvm.Cond.code ({ cls := "IdeaCage$Plan", name := "isPart", desc := "(I)Z" } : Jvm.MethodName) prog_4_method_4_code (2 : Nat) (Option.some Jvm.ClassFile.FieldType.boolean)) ∈ tb := tbm (tb1 234 rfl) rfl
theorem tm_1_238 : (Jvm.Cond.code ({ cls := "IdeaCage$Plan", name := "cellOf", desc := "(I)I" } : Jvm.MethodName) prog_4_method_5_code (2 : Nat) (Option.some Jvm.ClassFile.FieldType.int)) ∈ tb := tbm (tb1 238 rfl) rfl
theorem tm_2_3 : (Jvm.Cond.code ({ cls := "IdeaCage$Plan", name := "kindOf", desc := "(I)I" } : Jvm.MethodName) prog_4_method_6_code (2 : Nat) (Option.some Jvm.ClassFile.FieldType.int)) ∈ tb := tbm (tb2 3 rfl) rfl
theorem tm_2_7 : (Jvm.Cond.code ({ cls := "IdeaCage", name := "column", desc := "(I)I" } : Jvm.MethodName) prog_1_method_8_code (2 : Nat) (Option.some Jvm.ClassFile.FieldType.int)) ∈ tb := tbm (tb2 7 rfl) rfl
theorem tm_2_10 : (Jvm.Cond.code ({ cls := "IdeaCage", name := "isColumn", desc := "(I)Z" } : Jvm.MethodName) prog_1_method_28_code (1 : Nat) (Option.some Jvm.ClassFile.FieldType.boolean)) ∈ tb := tbm (tb2 10 rfl) rfl
theorem tm_2_13 : (Jvm.Cond.code ({ cls := "IdeaCage$Frame", name := "height", desc := "(II)I" } : Jvm.MethodName) prog_3_method_6_code (2 : Nat) (Option.some Jvm.ClassFile.FieldType.int)) ∈ tb := tbm (tb2 13 rfl) rfl
theorem tm_2_19 : (Jvm.Cond.code ({ cls := "IdeaCage", name := "at", desc := "(I)I" } : Jvm.MethodName) prog_1_method_9_code (2 : Nat) (Option.some Jvm.ClassFile.FieldType.int)) ∈ tb := tbm (tb2 19 rfl) rfl
theorem tm_2_23 : (Jvm.Cond.code ({ cls := "IdeaCage$Plan", name := "partIn", desc := "(I)I" } : Jvm.MethodName) prog_4_method_7_code (3 : Nat) (Option.some Jvm.ClassFile.FieldType.int)) ∈ tb := tbm (tb2 23 rfl) rfl
theorem tm_2_27 : (Jvm.Cond.code ({ cls := "IdeaCage", name := "put", desc := "(I)I" } : Jvm.MethodName) prog_1_method_10_code (2 : Nat) (Option.some Jvm.ClassFile.FieldType.int)) ∈ tb := tbm (tb2 27 rfl) rfl
theorem tm_2_31 : (Jvm.Cond.code ({ cls := "IdeaCage$Acts", name := "remember", desc := "(II)V" } : Jvm.MethodName) prog_2_method_2_code (3 : Nat) (Option.none : Option Jvm.ClassFile.FieldType)) ∈ tb := tbm (tb2 31 rfl) rfl
theorem tm_2_35 : (Jvm.Cond.code ({ cls := "IdeaCage$Acts", name := "forgetFirst", desc := "()V" } : Jvm.MethodName) prog_2_method_3_code (2 : Nat) (Option.none : Option Jvm.ClassFile.FieldType)) ∈ tb := tbm (tb2 35 rfl) rfl
theorem tm_2_39 : (Jvm.Cond.code ({ cls := "IdeaCage$Plan", name := "withPut", desc := "(II)I" } : Jvm.MethodName) prog_4_method_13_code (5 : Nat) (Option.some Jvm.ClassFile.FieldType.int)) ∈ tb := tbm (tb2 39 rfl) rfl
theorem tm_2_43 : (Jvm.Cond.code ({ cls := "IdeaCage$Frame", name := "cellBit", desc := "(II)I" } : Jvm.MethodName) prog_3_method_7_code (2 : Nat) (Option.some Jvm.ClassFile.FieldType.int)) ∈ tb := tbm (tb2 43 rfl) rfl
theorem tm_2_47 : (Jvm.Cond.code ({ cls := "IdeaCage$Frame", name := "of", desc := "(II)I" } : Jvm.MethodName) prog_3_method_2_code (2 : Nat) (Option.some Jvm.ClassFile.FieldType.int)) ∈ tb := tbm (tb2 47 rfl) rfl
theorem tm_2_50 : (Jvm.Cond.code ({ cls := "IdeaCage$Frame", name := "countHad", desc := "(I)I" } : Jvm.MethodName) prog_3_method_5_code (1 : Nat) (Option.some Jvm.ClassFile.FieldType.int)) ∈ tb := tbm (tb2 50 rfl) rfl
theorem tm_2_55 : (Jvm.Cond.code ({ cls := "IdeaCage", name := "strike", desc := "(I)I" } : Jvm.MethodName) prog_1_method_11_code (3 : Nat) (Option.some Jvm.ClassFile.FieldType.int)) ∈ tb := tbm (tb2 55 rfl) rfl
theorem tm_2_59 : (Jvm.Cond.code ({ cls := "IdeaCage$Plan", name := "canStrike", desc := "(II)Z" } : Jvm.MethodName) prog_4_method_12_code (3 : Nat) (Option.some Jvm.ClassFile.FieldType.boolean)) ∈ tb := tbm (tb2 59 rfl) rfl
theorem tm_2_63 : (Jvm.Cond.code ({ cls := "IdeaCage$Plan", name := "withStruck", desc := "(II)I" } : Jvm.MethodName) prog_4_method_14_code (5 : Nat) (Option.some Jvm.ClassFile.FieldType.int)) ∈ tb := tbm (tb2 63 rfl) rfl
theorem tm_2_68 : (Jvm.Cond.code ({ cls := "IdeaCage", name := "rain", desc := "()I" } : Jvm.MethodName) prog_1_method_12_code (2 : Nat) (Option.some Jvm.ClassFile.FieldType.int)) ∈ tb := tbm (tb2 68 rfl) rfl
theorem tm_2_72 : (Jvm.Cond.code ({ cls := "IdeaCage$Plan", name := "withRain", desc := "(I)I" } : Jvm.MethodName) prog_4_method_15_code (4 : Nat) (Option.some Jvm.ClassFile.FieldType.int)) ∈ tb := tbm (tb2 72 rfl) rfl
theorem tm_2_76 : (Jvm.Cond.code ({ cls := "IdeaCage", name := "undo", desc := "()I" } : Jvm.MethodName) prog_1_method_13_code (1 : Nat) (Option.some Jvm.ClassFile.FieldType.int)) ∈ tb := tbm (tb2 76 rfl) rfl
theorem tm_2_80 : (Jvm.Cond.code ({ cls := "IdeaCage$Acts", name := "lastFrame", desc := "()I" } : Jvm.MethodName) prog_2_method_4_code (1 : Nat) (Option.some Jvm.ClassFile.FieldType.int)) ∈ tb := tbm (tb2 80 rfl) rfl
theorem tm_2_84 : (Jvm.Cond.code ({ cls := "IdeaCage$Acts", name := "lastRains", desc := "()I" } : Jvm.MethodName) prog_2_method_5_code (1 : Nat) (Option.some Jvm.ClassFile.FieldType.int)) ∈ tb := tbm (tb2 84 rfl) rfl
theorem tm_2_88 : (Jvm.Cond.code ({ cls := "IdeaCage", name := "loses", desc := "(I)I" } : Jvm.MethodName) prog_1_method_14_code (3 : Nat) (Option.some Jvm.ClassFile.FieldType.int)) ∈ tb := tbm (tb2 88 rfl) rfl
theorem tm_2_92 : (Jvm.Cond.code ({ cls := "IdeaCage", name := "down", desc := "(I)I" } : Jvm.MethodName) prog_1_method_15_code (5 : Nat) (Option.some Jvm.ClassFile.FieldType.int)) ∈ tb := tbm (tb2 92 rfl) rfl
theorem tm_2_96 : (Jvm.Cond.code ({ cls := "IdeaCage", name := "soon", desc := "(II)I" } : Jvm.MethodName) prog_1_method_16_code (6 : Nat) (Option.some Jvm.ClassFile.FieldType.int)) ∈ tb := tbm (tb2 96 rfl) rfl
theorem tm_2_99 : (Jvm.Cond.code ({ cls := "IdeaCage", name := "isCountOrFirst", desc := "(I)Z" } : Jvm.MethodName) prog_1_method_29_code (1 : Nat) (Option.some Jvm.ClassFile.FieldType.boolean)) ∈ tb := tbm (tb2 99 rfl) rfl
theorem tm_2_103 : (Jvm.Cond.code ({ cls := "IdeaCage$Plan", name := "cellsOf", desc := "(I)I" } : Jvm.MethodName) prog_4_method_9_code (4 : Nat) (Option.some Jvm.ClassFile.FieldType.int)) ∈ tb := tbm (tb2 103 rfl) rfl
theorem tm_2_106 : (Jvm.Cond.code ({ cls := "IdeaCage", name := "leastRow", desc := "(LIdeaCage$Plan;III)I" } : Jvm.MethodName) prog_1_method_31_code (10 : Nat) (Option.some Jvm.ClassFile.FieldType.int)) ∈ tb := tbm (tb2 106 rfl) rfl
theorem tm_2_109 : (Jvm.Cond.code ({ cls := "IdeaCage", name := "downToGround", desc := "(I)I" } : Jvm.MethodName) prog_1_method_32_code (1 : Nat) (Option.some Jvm.ClassFile.FieldType.int)) ∈ tb := tbm (tb2 109 rfl) rfl
theorem tm_2_113 : (Jvm.Cond.code ({ cls := "IdeaCage$Plan", name := "canPut", desc := "(II)Z" } : Jvm.MethodName) prog_4_method_11_code (3 : Nat) (Option.some Jvm.ClassFile.FieldType.boolean)) ∈ tb := tbm (tb2 113 rfl) rfl
theorem tm_2_117 : (Jvm.Cond.code ({ cls := "IdeaCage", name := "powerOfTen", desc := "(I)J" } : Jvm.MethodName) prog_1_method_45_code (4 : Nat) (Option.some Jvm.ClassFile.FieldType.long)) ∈ tb := tbm (tb2 117 rfl) rfl
theorem tm_2_122 : (Jvm.Cond.code ({ cls := "IdeaCage", name := "judge", desc := "(IJ)I" } : Jvm.MethodName) prog_1_method_17_code (7 : Nat) (Option.some Jvm.ClassFile.FieldType.int)) ∈ tb := tbm (tb2 122 rfl) rfl
theorem tm_2_125 : (Jvm.Cond.code ({ cls := "IdeaCage", name := "doingFromEnd", desc := "(JI)I" } : Jvm.MethodName) prog_1_method_33_code (6 : Nat) (Option.some Jvm.ClassFile.FieldType.int)) ∈ tb := tbm (tb2 125 rfl) rfl
theorem tm_2_130 : (Jvm.Cond.code ({ cls := "IdeaCage", name := "canBe", desc := "(II)Z" } : Jvm.MethodName) prog_1_method_34_code (5 : Nat) (Option.some Jvm.ClassFile.FieldType.boolean)) ∈ tb := tbm (tb2 130 rfl) rfl
theorem tm_2_134 : (Jvm.Cond.code ({ cls := "IdeaCage", name := "withDoing", desc := "(II)I" } : Jvm.MethodName) prog_1_method_35_code (3 : Nat) (Option.some Jvm.ClassFile.FieldType.int)) ∈ tb := tbm (tb2 134 rfl) rfl
theorem tm_2_138 : (Jvm.Cond.code ({ cls := "IdeaCage", name := "share", desc := "(IZ)I" } : Jvm.MethodName) prog_1_method_18_code (7 : Nat) (Option.some Jvm.ClassFile.FieldType.int)) ∈ tb := tbm (tb2 138 rfl) rfl
theorem tm_2_142 : (Jvm.Cond.code ({ cls := "IdeaCage$Plan", name := "countStanding", desc := "(I)I" } : Jvm.MethodName) prog_4_method_16_code (2 : Nat) (Option.some Jvm.ClassFile.FieldType.int)) ∈ tb := tbm (tb2 142 rfl) rfl
theorem tm_2_147 : (Jvm.Cond.code ({ cls := "IdeaCage", name := "ordersWith", desc := "(I)I" } : Jvm.MethodName) prog_1_method_36_code (2 : Nat) (Option.some Jvm.ClassFile.FieldType.int)) ∈ tb := tbm (tb2 147 rfl) rfl
theorem tm_2_150 : (Jvm.Cond.code ({ cls := "IdeaCage", name := "factorial", desc := "(I)I" } : Jvm.MethodName) prog_1_method_44_code (3 : Nat) (Option.some Jvm.ClassFile.FieldType.int)) ∈ tb := tbm (tb2 150 rfl) rfl
theorem tm_2_153 : (Jvm.Cond.code ({ cls := "IdeaCage", name := "told", desc := "(IIZ)I" } : Jvm.MethodName) prog_1_method_46_code (4 : Nat) (Option.some Jvm.ClassFile.FieldType.int)) ∈ tb := tbm (tb2 153 rfl) rfl
theorem tm_2_156 : (Jvm.Cond.code ({ cls := "IdeaCage", name := "commonDivisor", desc := "(II)I" } : Jvm.MethodName) prog_1_method_47_code (6 : Nat) (Option.some Jvm.ClassFile.FieldType.int)) ∈ tb := tbm (tb2 156 rfl) rfl
theorem tm_2_160 : (Jvm.Cond.code ({ cls := "IdeaCage", name := "attempt", desc := "(II)I" } : Jvm.MethodName) prog_1_method_19_code (3 : Nat) (Option.some Jvm.ClassFile.FieldType.int)) ∈ tb := tbm (tb2 160 rfl) rfl
theorem tm_2_164 : (Jvm.Cond.code ({ cls := "IdeaCage$Tries", name := "add", desc := "(IZ)Z" } : Jvm.MethodName) prog_6_method_2_code (3 : Nat) (Option.some Jvm.ClassFile.FieldType.boolean)) ∈ tb := tbm (tb2 164 rfl) rfl
theorem tm_2_168 : (Jvm.Cond.code ({ cls := "IdeaCage", name := "unattempt", desc := "()I" } : Jvm.MethodName) prog_1_method_20_code (2 : Nat) (Option.some Jvm.ClassFile.FieldType.int)) ∈ tb := tbm (tb2 168 rfl) rfl
theorem tm_2_172 : (Jvm.Cond.code ({ cls := "IdeaCage", name := "kinds", desc := "(I)I" } : Jvm.MethodName) prog_1_method_21_code (6 : Nat) (Option.some Jvm.ClassFile.FieldType.int)) ∈ tb := tbm (tb2 172 rfl) rfl
theorem tm_2_176 : (Jvm.Cond.code ({ cls := "IdeaCage$Tries", name := "agreeWith", desc := "(II)Z" } : Jvm.MethodName) prog_6_method_3_code (4 : Nat) (Option.some Jvm.ClassFile.FieldType.boolean)) ∈ tb := tbm (tb2 176 rfl) rfl
theorem tm_2_179 : (Jvm.Cond.code ({ cls := "IdeaCage$Tries", name := "wouldStand", desc := "(III)Z" } : Jvm.MethodName) prog_6_method_4_code (3 : Nat) (Option.some Jvm.ClassFile.FieldType.boolean)) ∈ tb := tbm (tb2 179 rfl) rfl
theorem tm_2_183 : (Jvm.Cond.code ({ cls := "IdeaCage", name := "rests", desc := "(III)I" } : Jvm.MethodName) prog_1_method_22_code (8 : Nat) (Option.some Jvm.ClassFile.FieldType.int)) ∈ tb := tbm (tb2 183 rfl) rfl
theorem tm_2_187 : (Jvm.Cond.code ({ cls := "IdeaCage", name := "isRest", desc := "(IIII)Z" } : Jvm.MethodName) prog_1_method_37_code (9 : Nat) (Option.some Jvm.ClassFile.FieldType.boolean)) ∈ tb := tbm (tb2 187 rfl) rfl
theorem tm_2_191 : (Jvm.Cond.code ({ cls := "IdeaCage", name := "withChoices", desc := "(IIII)I" } : Jvm.MethodName) prog_1_method_38_code (5 : Nat) (Option.some Jvm.ClassFile.FieldType.int)) ∈ tb := tbm (tb2 191 rfl) rfl
theorem tm_2_195 : (Jvm.Cond.code ({ cls := "IdeaCage", name := "withChoice", desc := "(III)I" } : Jvm.MethodName) prog_1_method_39_code (4 : Nat) (Option.some Jvm.ClassFile.FieldType.int)) ∈ tb := tbm (tb2 195 rfl) rfl
theorem tm_2_198 : (Jvm.Cond.code ({ cls := "IdeaCage", name := "worth", desc := "(II)I" } : Jvm.MethodName) prog_1_method_40_code (3 : Nat) (Option.some Jvm.ClassFile.FieldType.int)) ∈ tb := tbm (tb2 198 rfl) rfl
theorem tm_2_202 : (Jvm.Cond.code ({ cls := "IdeaCage", name := "wet", desc := "(IIZ)I" } : Jvm.MethodName) prog_1_method_23_code (7 : Nat) (Option.some Jvm.ClassFile.FieldType.int)) ∈ tb := tbm (tb2 202 rfl) rfl
theorem tm_2_206 : (Jvm.Cond.code ({ cls := "IdeaCage", name := "hadWithout", desc := "(I)I" } : Jvm.MethodName) prog_1_method_41_code (4 : Nat) (Option.some Jvm.ClassFile.FieldType.int)) ∈ tb := tbm (tb2 206 rfl) rfl
theorem tm_2_211 : (Jvm.Cond.code ({ cls := "IdeaCage", name := "weightOf", desc := "(II)I" } : Jvm.MethodName) prog_1_method_42_code (6 : Nat) (Option.some Jvm.ClassFile.FieldType.int)) ∈ tb := tbm (tb2 211 rfl) rfl
theorem tm_2_215 : (Jvm.Cond.code ({ cls := "IdeaCage", name := "seed", desc := "(J)J" } : Jvm.MethodName) prog_1_method_24_code (5 : Nat) (Option.some Jvm.ClassFile.FieldType.long)) ∈ tb := tbm (tb2 215 rfl) rfl
theorem tm_2_219 : (Jvm.Cond.code ({ cls := "IdeaCage", name := "terms", desc := "(I)I" } : Jvm.MethodName) prog_1_method_25_code (5 : Nat) (Option.some Jvm.ClassFile.FieldType.int)) ∈ tb := tbm (tb2 219 rfl) rfl
theorem tm_2_226 : (Jvm.Cond.code ({ cls := "IdeaCage", name := "withChance", desc := "(II)I" } : Jvm.MethodName) prog_1_method_43_code (3 : Nat) (Option.some Jvm.ClassFile.FieldType.int)) ∈ tb := tbm (tb2 226 rfl) rfl
theorem tm_2_230 : (Jvm.Cond.code ({ cls := "IdeaCage", name := "keep", desc := "(I)I" } : Jvm.MethodName) prog_1_method_26_code (2 : Nat) (Option.some Jvm.ClassFile.FieldType.int)) ∈ tb := tbm (tb2 230 rfl) rfl
theorem tm_2_234 : (Jvm.Cond.code ({ cls := "IdeaCage", name := "again", desc := "(I)I" } : Jvm.MethodName) prog_1_method_27_code (2 : Nat) (Option.some Jvm.ClassFile.FieldType.int)) ∈ tb := tbm (tb2 234 rfl) rfl
theorem tm_2_239 : (Jvm.Cond.code ({ cls := "IdeaCageModel", name := "<init>", desc := "()V" } : Jvm.MethodName) prog_8_method_1_code (1 : Nat) (Option.none : Option Jvm.ClassFile.FieldType)) ∈ tb := tbm (tb2 239 rfl) rfl
theorem tm_3_95 : (Jvm.Cond.code ({ cls := "IdeaCageModel", name := "write", desc := "(I)I" } : Jvm.MethodName) prog_8_method_9_code (2 : Nat) (Option.some Jvm.ClassFile.FieldType.int)) ∈ tb := tbm (tb3 95 rfl) rfl
theorem tm_3_99 : (Jvm.Cond.code ({ cls := "IdeaCageModel", name := "in", desc := "(JJJ)Z" } : Jvm.MethodName) prog_8_method_3_code (6 : Nat) (Option.some Jvm.ClassFile.FieldType.boolean)) ∈ tb := tbm (tb3 99 rfl) rfl
theorem tm_3_103 : (Jvm.Cond.code ({ cls := "IdeaCageModel", name := "wipe", desc := "()I" } : Jvm.MethodName) prog_8_method_10_code (2 : Nat) (Option.some Jvm.ClassFile.FieldType.int)) ∈ tb := tbm (tb3 103 rfl) rfl
theorem tm_3_107 : (Jvm.Cond.code ({ cls := "IdeaCageModel", name := "fault", desc := "()I" } : Jvm.MethodName) prog_8_method_13_code (1 : Nat) (Option.some Jvm.ClassFile.FieldType.int)) ∈ tb := tbm (tb3 107 rfl) rfl
theorem tm_3_111 : (Jvm.Cond.code ({ cls := "IdeaCageModel", name := "readIdea", desc := "()I" } : Jvm.MethodName) prog_8_method_12_code (1 : Nat) (Option.some Jvm.ClassFile.FieldType.int)) ∈ tb := tbm (tb3 111 rfl) rfl
theorem tm_3_116 : (Jvm.Cond.code ({ cls := "IdeaCageModel", name := "readPart", desc := "()Z" } : Jvm.MethodName) prog_8_method_11_code (3 : Nat) (Option.some Jvm.ClassFile.FieldType.boolean)) ∈ tb := tbm (tb3 116 rfl) rfl
theorem tm_3_120 : (Jvm.Cond.code ({ cls := "IdeaCageModel", name := "has", desc := "(II)Z" } : Jvm.MethodName) prog_8_method_4_code (2 : Nat) (Option.some Jvm.ClassFile.FieldType.boolean)) ∈ tb := tbm (tb3 120 rfl) rfl
theorem tm_3_125 : (Jvm.Cond.code ({ cls := "IdeaCageModel", name := "idea", desc := "()I" } : Jvm.MethodName) prog_8_method_14_code (2 : Nat) (Option.some Jvm.ClassFile.FieldType.int)) ∈ tb := tbm (tb3 125 rfl) rfl
theorem tm_3_129 : (Jvm.Cond.code ({ cls := "IdeaCageModel", name := "about", desc := "(I)I" } : Jvm.MethodName) prog_8_method_25_code (2 : Nat) (Option.some Jvm.ClassFile.FieldType.int)) ∈ tb := tbm (tb3 129 rfl) rfl
theorem tm_3_132 : (Jvm.Cond.code ({ cls := "IdeaCageModel", name := "poles", desc := "([I)I" } : Jvm.MethodName) prog_8_method_22_code (1 : Nat) (Option.some Jvm.ClassFile.FieldType.int)) ∈ tb := tbm (tb3 132 rfl) rfl
theorem tm_3_136 : (Jvm.Cond.code ({ cls := "IdeaCageModel", name := "left", desc := "()I" } : Jvm.MethodName) prog_8_method_24_code (2 : Nat) (Option.some Jvm.ClassFile.FieldType.int)) ∈ tb := tbm (tb3 136 rfl) rfl
theorem tm_3_140 : (Jvm.Cond.code ({ cls := "IdeaCageModel", name := "begin", desc := "()V" } : Jvm.MethodName) prog_8_method_23_code (2 : Nat) (Option.none : Option Jvm.ClassFile.FieldType)) ∈ tb := tbm (tb3 140 rfl) rfl
theorem tm_3_144 : (Jvm.Cond.code ({ cls := "IdeaCageModel", name := "settle", desc := "([I)I" } : Jvm.MethodName) prog_8_method_21_code (3 : Nat) (Option.some Jvm.ClassFile.FieldType.int)) ∈ tb := tbm (tb3 144 rfl) rfl
theorem tm_3_148 : (Jvm.Cond.code ({ cls := "IdeaCageModel", name := "standing", desc := "([I)I" } : Jvm.MethodName) prog_8_method_20_code (5 : Nat) (Option.some Jvm.ClassFile.FieldType.int)) ∈ tb := tbm (tb3 148 rfl) rfl
theorem tm_3_152 : (Jvm.Cond.code ({ cls := "IdeaCageModel", name := "stands", desc := "([III)Z" } : Jvm.MethodName) prog_8_method_19_code (5 : Nat) (Option.some Jvm.ClassFile.FieldType.boolean)) ∈ tb := tbm (tb3 152 rfl) rfl
theorem tm_3_156 : (Jvm.Cond.code ({ cls := "IdeaCageModel", name := "hasPole", desc := "([II)Z" } : Jvm.MethodName) prog_8_method_16_code (3 : Nat) (Option.some Jvm.ClassFile.FieldType.boolean)) ∈ tb := tbm (tb3 156 rfl) rfl
theorem tm_3_160 : (Jvm.Cond.code ({ cls := "IdeaCageModel", name := "isBy", desc := "(IIII)Z" } : Jvm.MethodName) prog_8_method_17_code (8 : Nat) (Option.some Jvm.ClassFile.FieldType.boolean)) ∈ tb := tbm (tb3 160 rfl) rfl
theorem tm_3_163 : (Jvm.Cond.code ({ cls := "IdeaCageModel", name := "noColumn", desc := "(I)Z" } : Jvm.MethodName) prog_8_method_7_code (1 : Nat) (Option.some Jvm.ClassFile.FieldType.boolean)) ∈ tb := tbm (tb3 163 rfl) rfl
theorem tm_3_167 : (Jvm.Cond.code ({ cls := "IdeaCageModel", name := "partAt", desc := "(I)I" } : Jvm.MethodName) prog_8_method_15_code (4 : Nat) (Option.some Jvm.ClassFile.FieldType.int)) ∈ tb := tbm (tb3 167 rfl) rfl
theorem tm_3_170 : (Jvm.Cond.code ({ cls := "IdeaCageModel", name := "standsBy", desc := "(IZZZZZ)Z" } : Jvm.MethodName) prog_8_method_18_code (6 : Nat) (Option.some Jvm.ClassFile.FieldType.boolean)) ∈ tb := tbm (tb3 170 rfl) rfl
theorem tm_3_173 : (Jvm.Cond.code ({ cls := "IdeaCageModel", name := "many", desc := "(I)I" } : Jvm.MethodName) prog_8_method_5_code (3 : Nat) (Option.some Jvm.ClassFile.FieldType.int)) ∈ tb := tbm (tb3 173 rfl) rfl
theorem tm_3_177 : (Jvm.Cond.code ({ cls := "IdeaCageModel", name := "part", desc := "(II)I" } : Jvm.MethodName) prog_8_method_26_code (3 : Nat) (Option.some Jvm.ClassFile.FieldType.int)) ∈ tb := tbm (tb3 177 rfl) rfl
theorem tm_3_181 : (Jvm.Cond.code ({ cls := "IdeaCageModel", name := "noPart", desc := "(I)Z" } : Jvm.MethodName) prog_8_method_8_code (2 : Nat) (Option.some Jvm.ClassFile.FieldType.boolean)) ∈ tb := tbm (tb3 181 rfl) rfl
theorem tm_3_185 : (Jvm.Cond.code ({ cls := "IdeaCageModel", name := "column", desc := "(I)I" } : Jvm.MethodName) prog_8_method_27_code (2 : Nat) (Option.some Jvm.ClassFile.FieldType.int)) ∈ tb := tbm (tb3 185 rfl) rfl
theorem tm_3_189 : (Jvm.Cond.code ({ cls := "IdeaCageModel", name := "at", desc := "(I)I" } : Jvm.MethodName) prog_8_method_28_code (2 : Nat) (Option.some Jvm.ClassFile.FieldType.int)) ∈ tb := tbm (tb3 189 rfl) rfl
theorem tm_3_193 : (Jvm.Cond.code ({ cls := "IdeaCageModel", name := "put", desc := "(I)I" } : Jvm.MethodName) prog_8_method_33_code (2 : Nat) (Option.some Jvm.ClassFile.FieldType.int)) ∈ tb := tbm (tb3 193 rfl) rfl
theorem tm_3_197 : (Jvm.Cond.code ({ cls := "IdeaCageModel", name := "note", desc := "()V" } : Jvm.MethodName) prog_8_method_29_code (2 : Nat) (Option.none : Option Jvm.ClassFile.FieldType)) ∈ tb := tbm (tb3 197 rfl) rfl
theorem tm_3_201 : (Jvm.Cond.code ({ cls := "IdeaCageModel", name := "goPut", desc := "([II)Z" } : Jvm.MethodName) prog_8_method_30_code (4 : Nat) (Option.some Jvm.ClassFile.FieldType.boolean)) ∈ tb := tbm (tb3 201 rfl) rfl
theorem tm_3_205 : (Jvm.Cond.code ({ cls := "IdeaCageModel", name := "strike", desc := "(I)I" } : Jvm.MethodName) prog_8_method_34_code (2 : Nat) (Option.some Jvm.ClassFile.FieldType.int)) ∈ tb := tbm (tb3 205 rfl) rfl
theorem tm_3_209 : (Jvm.Cond.code ({ cls := "IdeaCageModel", name := "goStrike", desc := "([II)I" } : Jvm.MethodName) prog_8_method_31_code (3 : Nat) (Option.some Jvm.ClassFile.FieldType.int)) ∈ tb := tbm (tb3 209 rfl) rfl
theorem tm_3_213 : (Jvm.Cond.code ({ cls := "IdeaCageModel", name := "rain", desc := "()I" } : Jvm.MethodName) prog_8_method_35_code (1 : Nat) (Option.some Jvm.ClassFile.FieldType.int)) ∈ tb := tbm (tb3 213 rfl) rfl
theorem tm_3_217 : (Jvm.Cond.code ({ cls := "IdeaCageModel", name := "goRain", desc := "([I)I" } : Jvm.MethodName) prog_8_method_32_code (4 : Nat) (Option.some Jvm.ClassFile.FieldType.int)) ∈ tb := tbm (tb3 217 rfl) rfl
theorem tm_3_221 : (Jvm.Cond.code ({ cls := "IdeaCageModel", name := "undo", desc := "()I" } : Jvm.MethodName) prog_8_method_36_code (2 : Nat) (Option.some Jvm.ClassFile.FieldType.int)) ∈ tb := tbm (tb3 221 rfl) rfl
theorem tm_3_225 : (Jvm.Cond.code ({ cls := "IdeaCageModel", name := "loses", desc := "(I)I" } : Jvm.MethodName) prog_8_method_37_code (2 : Nat) (Option.some Jvm.ClassFile.FieldType.int)) ∈ tb := tbm (tb3 225 rfl) rfl
theorem tm_3_229 : (Jvm.Cond.code ({ cls := "IdeaCageModel", name := "down", desc := "(I)I" } : Jvm.MethodName) prog_8_method_38_code (2 : Nat) (Option.some Jvm.ClassFile.FieldType.int)) ∈ tb := tbm (tb3 229 rfl) rfl
theorem tm_3_233 : (Jvm.Cond.code ({ cls := "IdeaCageModel", name := "soon", desc := "(II)I" } : Jvm.MethodName) prog_8_method_41_code (3 : Nat) (Option.some Jvm.ClassFile.FieldType.int)) ∈ tb := tbm (tb3 233 rfl) rfl
theorem tm_3_237 : (Jvm.Cond.code ({ cls := "IdeaCageModel", name := "findSoon", desc := "(I)V" } : Jvm.MethodName) prog_8_method_40_code (4 : Nat) (Option.none : Option Jvm.ClassFile.FieldType)) ∈ tb := tbm (tb3 237 rfl) rfl
theorem tm_4_0 : (Jvm.Cond.code ({ cls := "IdeaCageModel", name := "power", desc := "(II)I" } : Jvm.MethodName) prog_8_method_6_code (4 : Nat) (Option.some Jvm.ClassFile.FieldType.int)) ∈ tb := tbm (tb4 0 rfl) rfl
theorem tm_4_4 : (Jvm.Cond.code ({ cls := "IdeaCageModel", name := "actsBy", desc := "(II)Z" } : Jvm.MethodName) prog_8_method_39_code (7 : Nat) (Option.some Jvm.ClassFile.FieldType.boolean)) ∈ tb := tbm (tb4 4 rfl) rfl
theorem tm_4_8 : (Jvm.Cond.code ({ cls := "IdeaCageModel", name := "judge", desc := "(IJ)I" } : Jvm.MethodName) prog_8_method_45_code (5 : Nat) (Option.some Jvm.ClassFile.FieldType.int)) ∈ tb := tbm (tb4 8 rfl) rfl
theorem tm_4_13 : (Jvm.Cond.code ({ cls := "IdeaCageModel", name := "longPower", desc := "(JI)J" } : Jvm.MethodName) prog_8_method_42_code (6 : Nat) (Option.some Jvm.ClassFile.FieldType.long)) ∈ tb := tbm (tb4 13 rfl) rfl
theorem tm_4_17 : (Jvm.Cond.code ({ cls := "IdeaCageModel", name := "does", desc := "(I)Z" } : Jvm.MethodName) prog_8_method_44_code (5 : Nat) (Option.some Jvm.ClassFile.FieldType.boolean)) ∈ tb := tbm (tb4 17 rfl) rfl
theorem tm_4_21 : (Jvm.Cond.code ({ cls := "IdeaCageModel", name := "strikes", desc := "(I)Z" } : Jvm.MethodName) prog_8_method_43_code (3 : Nat) (Option.some Jvm.ClassFile.FieldType.boolean)) ∈ tb := tbm (tb4 21 rfl) rfl
theorem tm_4_25 : (Jvm.Cond.code ({ cls := "IdeaCageModel", name := "share", desc := "(IZ)I" } : Jvm.MethodName) prog_8_method_49_code (6 : Nat) (Option.some Jvm.ClassFile.FieldType.int)) ∈ tb := tbm (tb4 25 rfl) rfl
theorem tm_4_28 : (Jvm.Cond.code ({ cls := "IdeaCageModel", name := "ways", desc := "(I)I" } : Jvm.MethodName) prog_8_method_46_code (3 : Nat) (Option.some Jvm.ClassFile.FieldType.int)) ∈ tb := tbm (tb4 28 rfl) rfl
theorem tm_4_31 : (Jvm.Cond.code ({ cls := "IdeaCageModel", name := "fraction", desc := "(IIZ)I" } : Jvm.MethodName) prog_8_method_48_code (4 : Nat) (Option.some Jvm.ClassFile.FieldType.int)) ∈ tb := tbm (tb4 31 rfl) rfl
theorem tm_4_34 : (Jvm.Cond.code ({ cls := "IdeaCageModel", name := "divisor", desc := "(II)I" } : Jvm.MethodName) prog_8_method_47_code (5 : Nat) (Option.some Jvm.ClassFile.FieldType.int)) ∈ tb := tbm (tb4 34 rfl) rfl
theorem tm_4_38 : (Jvm.Cond.code ({ cls := "IdeaCageModel", name := "attempt", desc := "(II)I" } : Jvm.MethodName) prog_8_method_50_code (3 : Nat) (Option.some Jvm.ClassFile.FieldType.int)) ∈ tb := tbm (tb4 38 rfl) rfl
theorem tm_4_43 : (Jvm.Cond.code ({ cls := "IdeaCageModel", name := "unattempt", desc := "()I" } : Jvm.MethodName) prog_8_method_51_code (2 : Nat) (Option.some Jvm.ClassFile.FieldType.int)) ∈ tb := tbm (tb4 43 rfl) rfl
theorem tm_4_47 : (Jvm.Cond.code ({ cls := "IdeaCageModel", name := "kinds", desc := "(I)I" } : Jvm.MethodName) prog_8_method_52_code (7 : Nat) (Option.some Jvm.ClassFile.FieldType.int)) ∈ tb := tbm (tb4 47 rfl) rfl
theorem tm_4_51 : (Jvm.Cond.code ({ cls := "IdeaCageModel", name := "rests", desc := "(III)I" } : Jvm.MethodName) prog_8_method_55_code (7 : Nat) (Option.some Jvm.ClassFile.FieldType.int)) ∈ tb := tbm (tb4 51 rfl) rfl
theorem tm_4_55 : (Jvm.Cond.code ({ cls := "IdeaCageModel", name := "chooses", desc := "(II)V" } : Jvm.MethodName) prog_8_method_53_code (3 : Nat) (Option.none : Option Jvm.ClassFile.FieldType)) ∈ tb := tbm (tb4 55 rfl) rfl
theorem tm_4_59 : (Jvm.Cond.code ({ cls := "IdeaCageModel", name := "gain", desc := "(I)I" } : Jvm.MethodName) prog_8_method_54_code (4 : Nat) (Option.some Jvm.ClassFile.FieldType.int)) ∈ tb := tbm (tb4 59 rfl) rfl
theorem tm_4_63 : (Jvm.Cond.code ({ cls := "IdeaCageModel", name := "wet", desc := "(IIZ)I" } : Jvm.MethodName) prog_8_method_57_code (9 : Nat) (Option.some Jvm.ClassFile.FieldType.int)) ∈ tb := tbm (tb4 63 rfl) rfl
theorem tm_4_69 : (Jvm.Cond.code ({ cls := "IdeaCageModel", name := "columnsWith", desc := "()I" } : Jvm.MethodName) prog_8_method_56_code (3 : Nat) (Option.some Jvm.ClassFile.FieldType.int)) ∈ tb := tbm (tb4 69 rfl) rfl
theorem tm_4_73 : (Jvm.Cond.code ({ cls := "IdeaCageModel", name := "seed", desc := "(J)J" } : Jvm.MethodName) prog_8_method_58_code (5 : Nat) (Option.some Jvm.ClassFile.FieldType.long)) ∈ tb := tbm (tb4 73 rfl) rfl
theorem tm_4_77 : (Jvm.Cond.code ({ cls := "IdeaCageModel", name := "terms", desc := "(I)I" } : Jvm.MethodName) prog_8_method_59_code (5 : Nat) (Option.some Jvm.ClassFile.FieldType.int)) ∈ tb := tbm (tb4 77 rfl) rfl
theorem tm_4_85 : (Jvm.Cond.code ({ cls := "IdeaCageModel", name := "keep", desc := "(I)I" } : Jvm.MethodName) prog_8_method_60_code (3 : Nat) (Option.some Jvm.ClassFile.FieldType.int)) ∈ tb := tbm (tb4 85 rfl) rfl
theorem tm_4_89 : (Jvm.Cond.code ({ cls := "IdeaCageModel", name := "again", desc := "(I)I" } : Jvm.MethodName) prog_8_method_61_code (3 : Nat) (Option.some Jvm.ClassFile.FieldType.int)) ∈ tb := tbm (tb4 89 rfl) rfl
end
section
theorem dX0_init_0 : decode cX0_init 0 = .ok (.aload_n 0, 1) := by decide +kernel
theorem dX0_init_1 : decode cX0_init 1 = .ok (.invokespecial 1, 3) := by decide +kernel
theorem dX0_init_4 : decode cX0_init 4 = .ok (.aload_n 0, 1) := by decide +kernel
theorem dX0_init_5 : decode cX0_init 5 = .ok (.bipush 14, 2) := by decide +kernel
theorem dX0_init_7 : decode cX0_init 7 = .ok (.newarray .int, 2) := by decide +kernel
theorem dX0_init_9 : decode cX0_init 9 = .ok (.putfield 9, 3) := by decide +kernel
theorem dX0_init_12 : decode cX0_init 12 = .ok (.aload_n 0, 1) := by decide +kernel
theorem dX0_init_13 : decode cX0_init 13 = .ok (.bipush 14, 2) := by decide +kernel
theorem dX0_init_15 : decode cX0_init 15 = .ok (.newarray .int, 2) := by decide +kernel
theorem dX0_init_17 : decode cX0_init 17 = .ok (.putfield 13, 3) := by decide +kernel
theorem dX0_init_20 : decode cX0_init 20 = .ok (.aload_n 0, 1) := by decide +kernel
theorem dX0_init_21 : decode cX0_init 21 = .ok (.iconst 0, 1) := by decide +kernel
theorem dX0_init_22 : decode cX0_init 22 = .ok (.putfield 16, 3) := by decide +kernel
theorem dX0_init_25 : decode cX0_init 25 = .ok (.return_, 1) := by decide +kernel
theorem dX0_remember_0 : decode cX0_remember 0 = .ok (.aload_n 0, 1) := by decide +kernel
theorem dX0_remember_1 : decode cX0_remember 1 = .ok (.getfield 16, 3) := by decide +kernel
theorem dX0_remember_4 : decode cX0_remember 4 = .ok (.bipush 14, 2) := by decide +kernel
theorem dX0_remember_6 : decode cX0_remember 6 = .ok (.if_icmp .lt 7, 3) := by decide +kernel
theorem dX0_remember_9 : decode cX0_remember 9 = .ok (.aload_n 0, 1) := by decide +kernel
theorem dX0_remember_10 : decode cX0_remember 10 = .ok (.invokevirtual 20, 3) := by decide +kernel
theorem dX0_remember_13 : decode cX0_remember 13 = .ok (.aload_n 0, 1) := by decide +kernel
theorem dX0_remember_14 : decode cX0_remember 14 = .ok (.getfield 16, 3) := by decide +kernel
theorem dX0_remember_17 : decode cX0_remember 17 = .ok (.ifCond .lt 42, 3) := by decide +kernel
theorem dX0_remember_20 : decode cX0_remember 20 = .ok (.aload_n 0, 1) := by decide +kernel
theorem dX0_remember_21 : decode cX0_remember 21 = .ok (.getfield 16, 3) := by decide +kernel
theorem dX0_remember_24 : decode cX0_remember 24 = .ok (.bipush 14, 2) := by decide +kernel
theorem dX0_remember_26 : decode cX0_remember 26 = .ok (.if_icmp .ge 33, 3) := by decide +kernel
theorem dX0_remember_29 : decode cX0_remember 29 = .ok (.aload_n 0, 1) := by decide +kernel
theorem dX0_remember_30 : decode cX0_remember 30 = .ok (.getfield 9, 3) := by decide +kernel
theorem dX0_remember_33 : decode cX0_remember 33 = .ok (.aload_n 0, 1) := by decide +kernel
theorem dX0_remember_34 : decode cX0_remember 34 = .ok (.getfield 16, 3) := by decide +kernel
theorem dX0_remember_37 : decode cX0_remember 37 = .ok (.iload_n 1, 1) := by decide +kernel
theorem dX0_remember_38 : decode cX0_remember 38 = .ok (.iastore, 1) := by decide +kernel
theorem dX0_remember_39 : decode cX0_remember 39 = .ok (.aload_n 0, 1) := by decide +kernel
theorem dX0_remember_40 : decode cX0_remember 40 = .ok (.getfield 13, 3) := by decide +kernel
theorem dX0_remember_43 : decode cX0_remember 43 = .ok (.aload_n 0, 1) := by decide +kernel
theorem dX0_remember_44 : decode cX0_remember 44 = .ok (.getfield 16, 3) := by decide +kernel
theorem dX0_remember_47 : decode cX0_remember 47 = .ok (.iload_n 2, 1) := by decide +kernel
theorem dX0_remember_48 : decode cX0_remember 48 = .ok (.iastore, 1) := by decide +kernel
theorem dX0_remember_49 : decode cX0_remember 49 = .ok (.aload_n 0, 1) := by decide +kernel
theorem dX0_remember_50 : decode cX0_remember 50 = .ok (.dup, 1) := by decide +kernel
theorem dX0_remember_51 : decode cX0_remember 51 = .ok (.getfield 16, 3) := by decide +kernel
theorem dX0_remember_54 : decode cX0_remember 54 = .ok (.iconst 1, 1) := by decide +kernel
theorem dX0_remember_55 : decode cX0_remember 55 = .ok (.iadd, 1) := by decide +kernel
theorem dX0_remember_56 : decode cX0_remember 56 = .ok (.putfield 16, 3) := by decide +kernel
theorem dX0_remember_59 : decode cX0_remember 59 = .ok (.return_, 1) := by decide +kernel
theorem dX0_forgetFirst_0 : decode cX0_forgetFirst 0 = .ok (.iconst 1, 1) := by decide +kernel
theorem dX0_forgetFirst_1 : decode cX0_forgetFirst 1 = .ok (.istore_n 1, 1) := by decide +kernel
theorem dX0_forgetFirst_2 : decode cX0_forgetFirst 2 = .ok (.iload_n 1, 1) := by decide +kernel
theorem dX0_forgetFirst_3 : decode cX0_forgetFirst 3 = .ok (.bipush 14, 2) := by decide +kernel
theorem dX0_forgetFirst_5 : decode cX0_forgetFirst 5 = .ok (.if_icmp .ge 37, 3) := by decide +kernel
theorem dX0_forgetFirst_8 : decode cX0_forgetFirst 8 = .ok (.aload_n 0, 1) := by decide +kernel
theorem dX0_forgetFirst_9 : decode cX0_forgetFirst 9 = .ok (.getfield 9, 3) := by decide +kernel
theorem dX0_forgetFirst_12 : decode cX0_forgetFirst 12 = .ok (.iload_n 1, 1) := by decide +kernel
theorem dX0_forgetFirst_13 : decode cX0_forgetFirst 13 = .ok (.iconst 1, 1) := by decide +kernel
theorem dX0_forgetFirst_14 : decode cX0_forgetFirst 14 = .ok (.isub, 1) := by decide +kernel
theorem dX0_forgetFirst_15 : decode cX0_forgetFirst 15 = .ok (.aload_n 0, 1) := by decide +kernel
theorem dX0_forgetFirst_16 : decode cX0_forgetFirst 16 = .ok (.getfield 9, 3) := by decide +kernel
theorem dX0_forgetFirst_19 : decode cX0_forgetFirst 19 = .ok (.iload_n 1, 1) := by decide +kernel
theorem dX0_forgetFirst_20 : decode cX0_forgetFirst 20 = .ok (.iaload, 1) := by decide +kernel
theorem dX0_forgetFirst_21 : decode cX0_forgetFirst 21 = .ok (.iastore, 1) := by decide +kernel
theorem dX0_forgetFirst_22 : decode cX0_forgetFirst 22 = .ok (.aload_n 0, 1) := by decide +kernel
theorem dX0_forgetFirst_23 : decode cX0_forgetFirst 23 = .ok (.getfield 13, 3) := by decide +kernel
theorem dX0_forgetFirst_26 : decode cX0_forgetFirst 26 = .ok (.iload_n 1, 1) := by decide +kernel
theorem dX0_forgetFirst_27 : decode cX0_forgetFirst 27 = .ok (.iconst 1, 1) := by decide +kernel
theorem dX0_forgetFirst_28 : decode cX0_forgetFirst 28 = .ok (.isub, 1) := by decide +kernel
theorem dX0_forgetFirst_29 : decode cX0_forgetFirst 29 = .ok (.aload_n 0, 1) := by decide +kernel
theorem dX0_forgetFirst_30 : decode cX0_forgetFirst 30 = .ok (.getfield 13, 3) := by decide +kernel
theorem dX0_forgetFirst_33 : decode cX0_forgetFirst 33 = .ok (.iload_n 1, 1) := by decide +kernel
theorem dX0_forgetFirst_34 : decode cX0_forgetFirst 34 = .ok (.iaload, 1) := by decide +kernel
theorem dX0_forgetFirst_35 : decode cX0_forgetFirst 35 = .ok (.iastore, 1) := by decide +kernel
theorem dX0_forgetFirst_36 : decode cX0_forgetFirst 36 = .ok (.iinc 1 1, 3) := by decide +kernel
theorem dX0_forgetFirst_39 : decode cX0_forgetFirst 39 = .ok (.goto (-37), 3) := by decide +kernel
theorem dX0_forgetFirst_42 : decode cX0_forgetFirst 42 = .ok (.aload_n 0, 1) := by decide +kernel
theorem dX0_forgetFirst_43 : decode cX0_forgetFirst 43 = .ok (.bipush 13, 2) := by decide +kernel
theorem dX0_forgetFirst_45 : decode cX0_forgetFirst 45 = .ok (.putfield 16, 3) := by decide +kernel
theorem dX0_forgetFirst_48 : decode cX0_forgetFirst 48 = .ok (.return_, 1) := by decide +kernel
theorem dX0_lastFrame_0 : decode cX0_lastFrame 0 = .ok (.aload_n 0, 1) := by decide +kernel
theorem dX0_lastFrame_1 : decode cX0_lastFrame 1 = .ok (.getfield 16, 3) := by decide +kernel
theorem dX0_lastFrame_4 : decode cX0_lastFrame 4 = .ok (.ifCond .le 26, 3) := by decide +kernel
theorem dX0_lastFrame_7 : decode cX0_lastFrame 7 = .ok (.aload_n 0, 1) := by decide +kernel
theorem dX0_lastFrame_8 : decode cX0_lastFrame 8 = .ok (.getfield 16, 3) := by decide +kernel
theorem dX0_lastFrame_11 : decode cX0_lastFrame 11 = .ok (.bipush 14, 2) := by decide +kernel
theorem dX0_lastFrame_13 : decode cX0_lastFrame 13 = .ok (.if_icmp .gt 17, 3) := by decide +kernel
theorem dX0_lastFrame_16 : decode cX0_lastFrame 16 = .ok (.aload_n 0, 1) := by decide +kernel
theorem dX0_lastFrame_17 : decode cX0_lastFrame 17 = .ok (.getfield 9, 3) := by decide +kernel
theorem dX0_lastFrame_20 : decode cX0_lastFrame 20 = .ok (.aload_n 0, 1) := by decide +kernel
theorem dX0_lastFrame_21 : decode cX0_lastFrame 21 = .ok (.getfield 16, 3) := by decide +kernel
theorem dX0_lastFrame_24 : decode cX0_lastFrame 24 = .ok (.iconst 1, 1) := by decide +kernel
theorem dX0_lastFrame_25 : decode cX0_lastFrame 25 = .ok (.isub, 1) := by decide +kernel
theorem dX0_lastFrame_26 : decode cX0_lastFrame 26 = .ok (.iaload, 1) := by decide +kernel
theorem dX0_lastFrame_27 : decode cX0_lastFrame 27 = .ok (.goto 4, 3) := by decide +kernel
theorem dX0_lastFrame_30 : decode cX0_lastFrame 30 = .ok (.iconst 0, 1) := by decide +kernel
theorem dX0_lastFrame_31 : decode cX0_lastFrame 31 = .ok (.ireturn, 1) := by decide +kernel
theorem dX0_lastRains_0 : decode cX0_lastRains 0 = .ok (.aload_n 0, 1) := by decide +kernel
theorem dX0_lastRains_1 : decode cX0_lastRains 1 = .ok (.getfield 16, 3) := by decide +kernel
theorem dX0_lastRains_4 : decode cX0_lastRains 4 = .ok (.ifCond .le 26, 3) := by decide +kernel
theorem dX0_lastRains_7 : decode cX0_lastRains 7 = .ok (.aload_n 0, 1) := by decide +kernel
theorem dX0_lastRains_8 : decode cX0_lastRains 8 = .ok (.getfield 16, 3) := by decide +kernel
theorem dX0_lastRains_11 : decode cX0_lastRains 11 = .ok (.bipush 14, 2) := by decide +kernel
theorem dX0_lastRains_13 : decode cX0_lastRains 13 = .ok (.if_icmp .gt 17, 3) := by decide +kernel
theorem dX0_lastRains_16 : decode cX0_lastRains 16 = .ok (.aload_n 0, 1) := by decide +kernel
theorem dX0_lastRains_17 : decode cX0_lastRains 17 = .ok (.getfield 13, 3) := by decide +kernel
theorem dX0_lastRains_20 : decode cX0_lastRains 20 = .ok (.aload_n 0, 1) := by decide +kernel
theorem dX0_lastRains_21 : decode cX0_lastRains 21 = .ok (.getfield 16, 3) := by decide +kernel
theorem dX0_lastRains_24 : decode cX0_lastRains 24 = .ok (.iconst 1, 1) := by decide +kernel
theorem dX0_lastRains_25 : decode cX0_lastRains 25 = .ok (.isub, 1) := by decide +kernel
theorem dX0_lastRains_26 : decode cX0_lastRains 26 = .ok (.iaload, 1) := by decide +kernel
theorem dX0_lastRains_27 : decode cX0_lastRains 27 = .ok (.goto 4, 3) := by decide +kernel
theorem dX0_lastRains_30 : decode cX0_lastRains 30 = .ok (.iconst 0, 1) := by decide +kernel
theorem dX0_lastRains_31 : decode cX0_lastRains 31 = .ok (.ireturn, 1) := by decide +kernel
theorem dX1_of_0 : decode cX1_of 0 = .ok (.iload_n 0, 1) := by decide +kernel
theorem dX1_of_1 : decode cX1_of 1 = .ok (.ldc 9, 2) := by decide +kernel
theorem dX1_of_3 : decode cX1_of 3 = .ok (.iand, 1) := by decide +kernel
theorem dX1_of_4 : decode cX1_of 4 = .ok (.iload_n 1, 1) := by decide +kernel
theorem dX1_of_5 : decode cX1_of 5 = .ok (.bipush 16, 2) := by decide +kernel
theorem dX1_of_7 : decode cX1_of 7 = .ok (.ishl, 1) := by decide +kernel
theorem dX1_of_8 : decode cX1_of 8 = .ok (.ior, 1) := by decide +kernel
theorem dX1_of_9 : decode cX1_of 9 = .ok (.ireturn, 1) := by decide +kernel
theorem dX1_poles_0 : decode cX1_poles 0 = .ok (.iload_n 0, 1) := by decide +kernel
theorem dX1_poles_1 : decode cX1_poles 1 = .ok (.ldc 9, 2) := by decide +kernel
theorem dX1_poles_3 : decode cX1_poles 3 = .ok (.iand, 1) := by decide +kernel
theorem dX1_poles_4 : decode cX1_poles 4 = .ok (.ireturn, 1) := by decide +kernel
theorem dX1_had_0 : decode cX1_had 0 = .ok (.iload_n 0, 1) := by decide +kernel
theorem dX1_had_1 : decode cX1_had 1 = .ok (.bipush 16, 2) := by decide +kernel
theorem dX1_had_3 : decode cX1_had 3 = .ok (.iushr, 1) := by decide +kernel
theorem dX1_had_4 : decode cX1_had 4 = .ok (.ireturn, 1) := by decide +kernel
theorem dX1_countHad_0 : decode cX1_countHad 0 = .ok (.iload_n 0, 1) := by decide +kernel
theorem dX1_countHad_1 : decode cX1_countHad 1 = .ok (.invokestatic 10, 3) := by decide +kernel
theorem dX1_countHad_4 : decode cX1_countHad 4 = .ok (.invokestatic 16, 3) := by decide +kernel
theorem dX1_countHad_7 : decode cX1_countHad 7 = .ok (.ireturn, 1) := by decide +kernel
theorem dX1_height_0 : decode cX1_height 0 = .ok (.iload_n 0, 1) := by decide +kernel
theorem dX1_height_1 : decode cX1_height 1 = .ok (.invokestatic 21, 3) := by decide +kernel
theorem dX1_height_4 : decode cX1_height 4 = .ok (.sipush 4369, 3) := by decide +kernel
theorem dX1_height_7 : decode cX1_height 7 = .ok (.iload_n 1, 1) := by decide +kernel
theorem dX1_height_8 : decode cX1_height 8 = .ok (.ishl, 1) := by decide +kernel
theorem dX1_height_9 : decode cX1_height 9 = .ok (.iand, 1) := by decide +kernel
theorem dX1_height_10 : decode cX1_height 10 = .ok (.invokestatic 16, 3) := by decide +kernel
theorem dX1_height_13 : decode cX1_height 13 = .ok (.ireturn, 1) := by decide +kernel
theorem dX1_cellBit_0 : decode cX1_cellBit 0 = .ok (.iconst 1, 1) := by decide +kernel
theorem dX1_cellBit_1 : decode cX1_cellBit 1 = .ok (.iconst 4, 1) := by decide +kernel
theorem dX1_cellBit_2 : decode cX1_cellBit 2 = .ok (.iload_n 1, 1) := by decide +kernel
theorem dX1_cellBit_3 : decode cX1_cellBit 3 = .ok (.imul, 1) := by decide +kernel
theorem dX1_cellBit_4 : decode cX1_cellBit 4 = .ok (.iload_n 0, 1) := by decide +kernel
theorem dX1_cellBit_5 : decode cX1_cellBit 5 = .ok (.iadd, 1) := by decide +kernel
theorem dX1_cellBit_6 : decode cX1_cellBit 6 = .ok (.ishl, 1) := by decide +kernel
theorem dX1_cellBit_7 : decode cX1_cellBit 7 = .ok (.ireturn, 1) := by decide +kernel
theorem dX2_init_0 : decode cX2_init 0 = .ok (.aload_n 0, 1) := by decide +kernel
theorem dX2_init_1 : decode cX2_init 1 = .ok (.invokespecial 3, 3) := by decide +kernel
theorem dX2_init_4 : decode cX2_init 4 = .ok (.aload_n 0, 1) := by decide +kernel
theorem dX2_init_5 : decode cX2_init 5 = .ok (.bipush 7, 2) := by decide +kernel
theorem dX2_init_7 : decode cX2_init 7 = .ok (.newarray .int, 2) := by decide +kernel
theorem dX2_init_9 : decode cX2_init 9 = .ok (.dup, 1) := by decide +kernel
theorem dX2_init_10 : decode cX2_init 10 = .ok (.iconst 0, 1) := by decide +kernel
theorem dX2_init_11 : decode cX2_init 11 = .ok (.bipush (-9), 2) := by decide +kernel
theorem dX2_init_13 : decode cX2_init 13 = .ok (.iastore, 1) := by decide +kernel
theorem dX2_init_14 : decode cX2_init 14 = .ok (.dup, 1) := by decide +kernel
theorem dX2_init_15 : decode cX2_init 15 = .ok (.iconst 1, 1) := by decide +kernel
theorem dX2_init_16 : decode cX2_init 16 = .ok (.bipush (-9), 2) := by decide +kernel
theorem dX2_init_18 : decode cX2_init 18 = .ok (.iastore, 1) := by decide +kernel
theorem dX2_init_19 : decode cX2_init 19 = .ok (.dup, 1) := by decide +kernel
theorem dX2_init_20 : decode cX2_init 20 = .ok (.iconst 2, 1) := by decide +kernel
theorem dX2_init_21 : decode cX2_init 21 = .ok (.bipush (-9), 2) := by decide +kernel
theorem dX2_init_23 : decode cX2_init 23 = .ok (.iastore, 1) := by decide +kernel
theorem dX2_init_24 : decode cX2_init 24 = .ok (.dup, 1) := by decide +kernel
theorem dX2_init_25 : decode cX2_init 25 = .ok (.iconst 3, 1) := by decide +kernel
theorem dX2_init_26 : decode cX2_init 26 = .ok (.bipush (-9), 2) := by decide +kernel
theorem dX2_init_28 : decode cX2_init 28 = .ok (.iastore, 1) := by decide +kernel
theorem dX2_init_29 : decode cX2_init 29 = .ok (.dup, 1) := by decide +kernel
theorem dX2_init_30 : decode cX2_init 30 = .ok (.iconst 4, 1) := by decide +kernel
theorem dX2_init_31 : decode cX2_init 31 = .ok (.bipush (-9), 2) := by decide +kernel
theorem dX2_init_33 : decode cX2_init 33 = .ok (.iastore, 1) := by decide +kernel
theorem dX2_init_34 : decode cX2_init 34 = .ok (.dup, 1) := by decide +kernel
theorem dX2_init_35 : decode cX2_init 35 = .ok (.iconst 5, 1) := by decide +kernel
theorem dX2_init_36 : decode cX2_init 36 = .ok (.bipush (-9), 2) := by decide +kernel
theorem dX2_init_38 : decode cX2_init 38 = .ok (.iastore, 1) := by decide +kernel
theorem dX2_init_39 : decode cX2_init 39 = .ok (.dup, 1) := by decide +kernel
theorem dX2_init_40 : decode cX2_init 40 = .ok (.bipush 6, 2) := by decide +kernel
theorem dX2_init_42 : decode cX2_init 42 = .ok (.bipush (-9), 2) := by decide +kernel
theorem dX2_init_44 : decode cX2_init 44 = .ok (.iastore, 1) := by decide +kernel
theorem dX2_init_45 : decode cX2_init 45 = .ok (.putfield 9, 3) := by decide +kernel
theorem dX2_init_48 : decode cX2_init 48 = .ok (.aload_n 0, 1) := by decide +kernel
theorem dX2_init_49 : decode cX2_init 49 = .ok (.bipush 7, 2) := by decide +kernel
theorem dX2_init_51 : decode cX2_init 51 = .ok (.newarray .int, 2) := by decide +kernel
theorem dX2_init_53 : decode cX2_init 53 = .ok (.putfield 15, 3) := by decide +kernel
theorem dX2_init_56 : decode cX2_init 56 = .ok (.aload_n 0, 1) := by decide +kernel
theorem dX2_init_57 : decode cX2_init 57 = .ok (.iconst 0, 1) := by decide +kernel
theorem dX2_init_58 : decode cX2_init 58 = .ok (.putfield 18, 3) := by decide +kernel
theorem dX2_init_61 : decode cX2_init 61 = .ok (.aload_n 0, 1) := by decide +kernel
theorem dX2_init_62 : decode cX2_init 62 = .ok (.iconst 0, 1) := by decide +kernel
theorem dX2_init_63 : decode cX2_init 63 = .ok (.putfield 22, 3) := by decide +kernel
theorem dX2_init_66 : decode cX2_init 66 = .ok (.aload_n 0, 1) := by decide +kernel
theorem dX2_init_67 : decode cX2_init 67 = .ok (.iconst 0, 1) := by decide +kernel
theorem dX2_init_68 : decode cX2_init 68 = .ok (.putfield 25, 3) := by decide +kernel
theorem dX2_init_71 : decode cX2_init 71 = .ok (.aload_n 0, 1) := by decide +kernel
theorem dX2_init_72 : decode cX2_init 72 = .ok (.iconst 0, 1) := by decide +kernel
theorem dX2_init_73 : decode cX2_init 73 = .ok (.putfield 28, 3) := by decide +kernel
theorem dX2_init_76 : decode cX2_init 76 = .ok (.aload_n 0, 1) := by decide +kernel
theorem dX2_init_77 : decode cX2_init 77 = .ok (.iconst 0, 1) := by decide +kernel
theorem dX2_init_78 : decode cX2_init 78 = .ok (.putfield 31, 3) := by decide +kernel
theorem dX2_init_81 : decode cX2_init 81 = .ok (.aload_n 0, 1) := by decide +kernel
theorem dX2_init_82 : decode cX2_init 82 = .ok (.iconst 0, 1) := by decide +kernel
theorem dX2_init_83 : decode cX2_init 83 = .ok (.putfield 34, 3) := by decide +kernel
theorem dX2_init_86 : decode cX2_init 86 = .ok (.return_, 1) := by decide +kernel
theorem dX2_learn_0 : decode cX2_learn 0 = .ok (.aload_n 0, 1) := by decide +kernel
theorem dX2_learn_1 : decode cX2_learn 1 = .ok (.aload_n 1, 1) := by decide +kernel
theorem dX2_learn_2 : decode cX2_learn 2 = .ok (.iconst 1, 1) := by decide +kernel
theorem dX2_learn_3 : decode cX2_learn 3 = .ok (.invokevirtual 37, 3) := by decide +kernel
theorem dX2_learn_6 : decode cX2_learn 6 = .ok (.bipush 48, 2) := by decide +kernel
theorem dX2_learn_8 : decode cX2_learn 8 = .ok (.isub, 1) := by decide +kernel
theorem dX2_learn_9 : decode cX2_learn 9 = .ok (.putfield 18, 3) := by decide +kernel
theorem dX2_learn_12 : decode cX2_learn 12 = .ok (.aload_n 0, 1) := by decide +kernel
theorem dX2_learn_13 : decode cX2_learn 13 = .ok (.aload_n 1, 1) := by decide +kernel
theorem dX2_learn_14 : decode cX2_learn 14 = .ok (.invokevirtual 43, 3) := by decide +kernel
theorem dX2_learn_17 : decode cX2_learn 17 = .ok (.bipush 7, 2) := by decide +kernel
theorem dX2_learn_19 : decode cX2_learn 19 = .ok (.invokestatic 46, 3) := by decide +kernel
theorem dX2_learn_22 : decode cX2_learn 22 = .ok (.putfield 22, 3) := by decide +kernel
theorem dX2_learn_25 : decode cX2_learn 25 = .ok (.iconst 0, 1) := by decide +kernel
theorem dX2_learn_26 : decode cX2_learn 26 = .ok (.istore_n 2, 1) := by decide +kernel
theorem dX2_learn_27 : decode cX2_learn 27 = .ok (.iload_n 2, 1) := by decide +kernel
theorem dX2_learn_28 : decode cX2_learn 28 = .ok (.bipush 7, 2) := by decide +kernel
theorem dX2_learn_30 : decode cX2_learn 30 = .ok (.if_icmp .ge 62, 3) := by decide +kernel
theorem dX2_learn_33 : decode cX2_learn 33 = .ok (.iload_n 2, 1) := by decide +kernel
theorem dX2_learn_34 : decode cX2_learn 34 = .ok (.aload_n 0, 1) := by decide +kernel
theorem dX2_learn_35 : decode cX2_learn 35 = .ok (.getfield 22, 3) := by decide +kernel
theorem dX2_learn_38 : decode cX2_learn 38 = .ok (.if_icmp .ge 7, 3) := by decide +kernel
theorem dX2_learn_41 : decode cX2_learn 41 = .ok (.iconst 1, 1) := by decide +kernel
theorem dX2_learn_42 : decode cX2_learn 42 = .ok (.goto 4, 3) := by decide +kernel
theorem dX2_learn_45 : decode cX2_learn 45 = .ok (.iconst 0, 1) := by decide +kernel
theorem dX2_learn_46 : decode cX2_learn 46 = .ok (.istore_n 3, 1) := by decide +kernel
theorem dX2_learn_47 : decode cX2_learn 47 = .ok (.aload_n 0, 1) := by decide +kernel
theorem dX2_learn_48 : decode cX2_learn 48 = .ok (.getfield 9, 3) := by decide +kernel
theorem dX2_learn_51 : decode cX2_learn 51 = .ok (.iload_n 2, 1) := by decide +kernel
theorem dX2_learn_52 : decode cX2_learn 52 = .ok (.iload_n 3, 1) := by decide +kernel
theorem dX2_learn_53 : decode cX2_learn 53 = .ok (.ifCond .eq 11, 3) := by decide +kernel
theorem dX2_learn_56 : decode cX2_learn 56 = .ok (.aload_n 1, 1) := by decide +kernel
theorem dX2_learn_57 : decode cX2_learn 57 = .ok (.iload_n 2, 1) := by decide +kernel
theorem dX2_learn_58 : decode cX2_learn 58 = .ok (.invokevirtual 52, 3) := by decide +kernel
theorem dX2_learn_61 : decode cX2_learn 61 = .ok (.goto 5, 3) := by decide +kernel
theorem dX2_learn_64 : decode cX2_learn 64 = .ok (.bipush (-9), 2) := by decide +kernel
theorem dX2_learn_66 : decode cX2_learn 66 = .ok (.iastore, 1) := by decide +kernel
theorem dX2_learn_67 : decode cX2_learn 67 = .ok (.aload_n 0, 1) := by decide +kernel
theorem dX2_learn_68 : decode cX2_learn 68 = .ok (.getfield 15, 3) := by decide +kernel
theorem dX2_learn_71 : decode cX2_learn 71 = .ok (.iload_n 2, 1) := by decide +kernel
theorem dX2_learn_72 : decode cX2_learn 72 = .ok (.iload_n 3, 1) := by decide +kernel
theorem dX2_learn_73 : decode cX2_learn 73 = .ok (.ifCond .eq 11, 3) := by decide +kernel
theorem dX2_learn_76 : decode cX2_learn 76 = .ok (.aload_n 1, 1) := by decide +kernel
theorem dX2_learn_77 : decode cX2_learn 77 = .ok (.iload_n 2, 1) := by decide +kernel
theorem dX2_learn_78 : decode cX2_learn 78 = .ok (.invokevirtual 55, 3) := by decide +kernel
theorem dX2_learn_81 : decode cX2_learn 81 = .ok (.goto 4, 3) := by decide +kernel
theorem dX2_learn_84 : decode cX2_learn 84 = .ok (.iconst 0, 1) := by decide +kernel
theorem dX2_learn_85 : decode cX2_learn 85 = .ok (.iastore, 1) := by decide +kernel
theorem dX2_learn_86 : decode cX2_learn 86 = .ok (.iinc 2 1, 3) := by decide +kernel
theorem dX2_learn_89 : decode cX2_learn 89 = .ok (.goto (-62), 3) := by decide +kernel
theorem dX2_learn_92 : decode cX2_learn 92 = .ok (.aload_n 0, 1) := by decide +kernel
theorem dX2_learn_93 : decode cX2_learn 93 = .ok (.aload_n 0, 1) := by decide +kernel
theorem dX2_learn_94 : decode cX2_learn 94 = .ok (.iconst 0, 1) := by decide +kernel
theorem dX2_learn_95 : decode cX2_learn 95 = .ok (.invokevirtual 58, 3) := by decide +kernel
theorem dX2_learn_98 : decode cX2_learn 98 = .ok (.putfield 25, 3) := by decide +kernel
theorem dX2_learn_101 : decode cX2_learn 101 = .ok (.aload_n 0, 1) := by decide +kernel
theorem dX2_learn_102 : decode cX2_learn 102 = .ok (.aload_n 0, 1) := by decide +kernel
theorem dX2_learn_103 : decode cX2_learn 103 = .ok (.iconst 1, 1) := by decide +kernel
theorem dX2_learn_104 : decode cX2_learn 104 = .ok (.invokevirtual 58, 3) := by decide +kernel
theorem dX2_learn_107 : decode cX2_learn 107 = .ok (.putfield 28, 3) := by decide +kernel
theorem dX2_learn_110 : decode cX2_learn 110 = .ok (.aload_n 0, 1) := by decide +kernel
theorem dX2_learn_111 : decode cX2_learn 111 = .ok (.aload_n 0, 1) := by decide +kernel
theorem dX2_learn_112 : decode cX2_learn 112 = .ok (.iconst 2, 1) := by decide +kernel
theorem dX2_learn_113 : decode cX2_learn 113 = .ok (.invokevirtual 58, 3) := by decide +kernel
theorem dX2_learn_116 : decode cX2_learn 116 = .ok (.putfield 31, 3) := by decide +kernel
theorem dX2_learn_119 : decode cX2_learn 119 = .ok (.aload_n 0, 1) := by decide +kernel
theorem dX2_learn_120 : decode cX2_learn 120 = .ok (.aload_n 0, 1) := by decide +kernel
theorem dX2_learn_121 : decode cX2_learn 121 = .ok (.iconst 3, 1) := by decide +kernel
theorem dX2_learn_122 : decode cX2_learn 122 = .ok (.invokevirtual 58, 3) := by decide +kernel
theorem dX2_learn_125 : decode cX2_learn 125 = .ok (.putfield 34, 3) := by decide +kernel
theorem dX2_learn_128 : decode cX2_learn 128 = .ok (.return_, 1) := by decide +kernel
theorem dX2_cellsOfKind_0 : decode cX2_cellsOfKind 0 = .ok (.iconst 0, 1) := by decide +kernel
theorem dX2_cellsOfKind_1 : decode cX2_cellsOfKind 1 = .ok (.istore_n 2, 1) := by decide +kernel
theorem dX2_cellsOfKind_2 : decode cX2_cellsOfKind 2 = .ok (.iconst 0, 1) := by decide +kernel
theorem dX2_cellsOfKind_3 : decode cX2_cellsOfKind 3 = .ok (.istore_n 3, 1) := by decide +kernel
theorem dX2_cellsOfKind_4 : decode cX2_cellsOfKind 4 = .ok (.iload_n 3, 1) := by decide +kernel
theorem dX2_cellsOfKind_5 : decode cX2_cellsOfKind 5 = .ok (.bipush 7, 2) := by decide +kernel
theorem dX2_cellsOfKind_7 : decode cX2_cellsOfKind 7 = .ok (.if_icmp .ge 41, 3) := by decide +kernel
theorem dX2_cellsOfKind_10 : decode cX2_cellsOfKind 10 = .ok (.aload_n 0, 1) := by decide +kernel
theorem dX2_cellsOfKind_11 : decode cX2_cellsOfKind 11 = .ok (.getfield 15, 3) := by decide +kernel
theorem dX2_cellsOfKind_14 : decode cX2_cellsOfKind 14 = .ok (.iload_n 3, 1) := by decide +kernel
theorem dX2_cellsOfKind_15 : decode cX2_cellsOfKind 15 = .ok (.iaload, 1) := by decide +kernel
theorem dX2_cellsOfKind_16 : decode cX2_cellsOfKind 16 = .ok (.iload_n 1, 1) := by decide +kernel
theorem dX2_cellsOfKind_17 : decode cX2_cellsOfKind 17 = .ok (.if_icmp .ne 25, 3) := by decide +kernel
theorem dX2_cellsOfKind_20 : decode cX2_cellsOfKind 20 = .ok (.aload_n 0, 1) := by decide +kernel
theorem dX2_cellsOfKind_21 : decode cX2_cellsOfKind 21 = .ok (.getfield 9, 3) := by decide +kernel
theorem dX2_cellsOfKind_24 : decode cX2_cellsOfKind 24 = .ok (.iload_n 3, 1) := by decide +kernel
theorem dX2_cellsOfKind_25 : decode cX2_cellsOfKind 25 = .ok (.iaload, 1) := by decide +kernel
theorem dX2_cellsOfKind_26 : decode cX2_cellsOfKind 26 = .ok (.bipush (-9), 2) := by decide +kernel
theorem dX2_cellsOfKind_28 : decode cX2_cellsOfKind 28 = .ok (.if_icmp .eq 14, 3) := by decide +kernel
theorem dX2_cellsOfKind_31 : decode cX2_cellsOfKind 31 = .ok (.iload_n 2, 1) := by decide +kernel
theorem dX2_cellsOfKind_32 : decode cX2_cellsOfKind 32 = .ok (.iconst 1, 1) := by decide +kernel
theorem dX2_cellsOfKind_33 : decode cX2_cellsOfKind 33 = .ok (.aload_n 0, 1) := by decide +kernel
theorem dX2_cellsOfKind_34 : decode cX2_cellsOfKind 34 = .ok (.getfield 9, 3) := by decide +kernel
theorem dX2_cellsOfKind_37 : decode cX2_cellsOfKind 37 = .ok (.iload_n 3, 1) := by decide +kernel
theorem dX2_cellsOfKind_38 : decode cX2_cellsOfKind 38 = .ok (.iaload, 1) := by decide +kernel
theorem dX2_cellsOfKind_39 : decode cX2_cellsOfKind 39 = .ok (.ishl, 1) := by decide +kernel
theorem dX2_cellsOfKind_40 : decode cX2_cellsOfKind 40 = .ok (.ior, 1) := by decide +kernel
theorem dX2_cellsOfKind_41 : decode cX2_cellsOfKind 41 = .ok (.istore_n 2, 1) := by decide +kernel
theorem dX2_cellsOfKind_42 : decode cX2_cellsOfKind 42 = .ok (.iinc 3 1, 3) := by decide +kernel
theorem dX2_cellsOfKind_45 : decode cX2_cellsOfKind 45 = .ok (.goto (-41), 3) := by decide +kernel
theorem dX2_cellsOfKind_48 : decode cX2_cellsOfKind 48 = .ok (.iload_n 2, 1) := by decide +kernel
theorem dX2_cellsOfKind_49 : decode cX2_cellsOfKind 49 = .ok (.ireturn, 1) := by decide +kernel
theorem dX2_isPart_0 : decode cX2_isPart 0 = .ok (.iload_n 1, 1) := by decide +kernel
theorem dX2_isPart_1 : decode cX2_isPart 1 = .ok (.ifCond .lt 21, 3) := by decide +kernel
theorem dX2_isPart_4 : decode cX2_isPart 4 = .ok (.iload_n 1, 1) := by decide +kernel
theorem dX2_isPart_5 : decode cX2_isPart 5 = .ok (.aload_n 0, 1) := by decide +kernel
theorem dX2_isPart_6 : decode cX2_isPart 6 = .ok (.getfield 22, 3) := by decide +kernel
theorem dX2_isPart_9 : decode cX2_isPart 9 = .ok (.if_icmp .ge 13, 3) := by decide +kernel
theorem dX2_isPart_12 : decode cX2_isPart 12 = .ok (.iload_n 1, 1) := by decide +kernel
theorem dX2_isPart_13 : decode cX2_isPart 13 = .ok (.bipush 7, 2) := by decide +kernel
theorem dX2_isPart_15 : decode cX2_isPart 15 = .ok (.if_icmp .ge 7, 3) := by decide +kernel
theorem dX2_isPart_18 : decode cX2_isPart 18 = .ok (.iconst 1, 1) := by decide +kernel
theorem dX2_isPart_19 : decode cX2_isPart 19 = .ok (.goto 4, 3) := by decide +kernel
theorem dX2_isPart_22 : decode cX2_isPart 22 = .ok (.iconst 0, 1) := by decide +kernel
theorem dX2_isPart_23 : decode cX2_isPart 23 = .ok (.ireturn, 1) := by decide +kernel
theorem dX2_cellOf_0 : decode cX2_cellOf 0 = .ok (.aload_n 0, 1) := by decide +kernel
theorem dX2_cellOf_1 : decode cX2_cellOf 1 = .ok (.iload_n 1, 1) := by decide +kernel
theorem dX2_cellOf_2 : decode cX2_cellOf 2 = .ok (.invokevirtual 61, 3) := by decide +kernel
theorem dX2_cellOf_5 : decode cX2_cellOf 5 = .ok (.ifCond .eq 12, 3) := by decide +kernel
theorem dX2_cellOf_8 : decode cX2_cellOf 8 = .ok (.aload_n 0, 1) := by decide +kernel
theorem dX2_cellOf_9 : decode cX2_cellOf 9 = .ok (.getfield 9, 3) := by decide +kernel
theorem dX2_cellOf_12 : decode cX2_cellOf 12 = .ok (.iload_n 1, 1) := by decide +kernel
theorem dX2_cellOf_13 : decode cX2_cellOf 13 = .ok (.iaload, 1) := by decide +kernel
theorem dX2_cellOf_14 : decode cX2_cellOf 14 = .ok (.goto 5, 3) := by decide +kernel
theorem dX2_cellOf_17 : decode cX2_cellOf 17 = .ok (.bipush (-9), 2) := by decide +kernel
theorem dX2_cellOf_19 : decode cX2_cellOf 19 = .ok (.ireturn, 1) := by decide +kernel
theorem dX2_kindOf_0 : decode cX2_kindOf 0 = .ok (.aload_n 0, 1) := by decide +kernel
theorem dX2_kindOf_1 : decode cX2_kindOf 1 = .ok (.iload_n 1, 1) := by decide +kernel
theorem dX2_kindOf_2 : decode cX2_kindOf 2 = .ok (.invokevirtual 61, 3) := by decide +kernel
theorem dX2_kindOf_5 : decode cX2_kindOf 5 = .ok (.ifCond .eq 12, 3) := by decide +kernel
theorem dX2_kindOf_8 : decode cX2_kindOf 8 = .ok (.aload_n 0, 1) := by decide +kernel
theorem dX2_kindOf_9 : decode cX2_kindOf 9 = .ok (.getfield 15, 3) := by decide +kernel
theorem dX2_kindOf_12 : decode cX2_kindOf 12 = .ok (.iload_n 1, 1) := by decide +kernel
theorem dX2_kindOf_13 : decode cX2_kindOf 13 = .ok (.iaload, 1) := by decide +kernel
theorem dX2_kindOf_14 : decode cX2_kindOf 14 = .ok (.goto 5, 3) := by decide +kernel
theorem dX2_kindOf_17 : decode cX2_kindOf 17 = .ok (.bipush (-9), 2) := by decide +kernel
theorem dX2_kindOf_19 : decode cX2_kindOf 19 = .ok (.ireturn, 1) := by decide +kernel
theorem dX2_partIn_0 : decode cX2_partIn 0 = .ok (.iconst 0, 1) := by decide +kernel
theorem dX2_partIn_1 : decode cX2_partIn 1 = .ok (.istore_n 2, 1) := by decide +kernel
theorem dX2_partIn_2 : decode cX2_partIn 2 = .ok (.iload_n 2, 1) := by decide +kernel
theorem dX2_partIn_3 : decode cX2_partIn 3 = .ok (.bipush 7, 2) := by decide +kernel
theorem dX2_partIn_5 : decode cX2_partIn 5 = .ok (.if_icmp .ge 21, 3) := by decide +kernel
theorem dX2_partIn_8 : decode cX2_partIn 8 = .ok (.aload_n 0, 1) := by decide +kernel
theorem dX2_partIn_9 : decode cX2_partIn 9 = .ok (.getfield 9, 3) := by decide +kernel
theorem dX2_partIn_12 : decode cX2_partIn 12 = .ok (.iload_n 2, 1) := by decide +kernel
theorem dX2_partIn_13 : decode cX2_partIn 13 = .ok (.iaload, 1) := by decide +kernel
theorem dX2_partIn_14 : decode cX2_partIn 14 = .ok (.iload_n 1, 1) := by decide +kernel
theorem dX2_partIn_15 : decode cX2_partIn 15 = .ok (.if_icmp .ne 5, 3) := by decide +kernel
theorem dX2_partIn_18 : decode cX2_partIn 18 = .ok (.iload_n 2, 1) := by decide +kernel
theorem dX2_partIn_19 : decode cX2_partIn 19 = .ok (.ireturn, 1) := by decide +kernel
theorem dX2_partIn_20 : decode cX2_partIn 20 = .ok (.iinc 2 1, 3) := by decide +kernel
theorem dX2_partIn_23 : decode cX2_partIn 23 = .ok (.goto (-21), 3) := by decide +kernel
theorem dX2_partIn_26 : decode cX2_partIn 26 = .ok (.bipush (-9), 2) := by decide +kernel
theorem dX2_partIn_28 : decode cX2_partIn 28 = .ok (.ireturn, 1) := by decide +kernel
theorem dX2_partsAt_0 : decode cX2_partsAt 0 = .ok (.iconst 0, 1) := by decide +kernel
theorem dX2_partsAt_1 : decode cX2_partsAt 1 = .ok (.istore_n 2, 1) := by decide +kernel
theorem dX2_partsAt_2 : decode cX2_partsAt 2 = .ok (.iconst 0, 1) := by decide +kernel
theorem dX2_partsAt_3 : decode cX2_partsAt 3 = .ok (.istore_n 3, 1) := by decide +kernel
theorem dX2_partsAt_4 : decode cX2_partsAt 4 = .ok (.iload_n 3, 1) := by decide +kernel
theorem dX2_partsAt_5 : decode cX2_partsAt 5 = .ok (.bipush 7, 2) := by decide +kernel
theorem dX2_partsAt_7 : decode cX2_partsAt 7 = .ok (.if_icmp .ge 40, 3) := by decide +kernel
theorem dX2_partsAt_10 : decode cX2_partsAt 10 = .ok (.aload_n 0, 1) := by decide +kernel
theorem dX2_partsAt_11 : decode cX2_partsAt 11 = .ok (.getfield 9, 3) := by decide +kernel
theorem dX2_partsAt_14 : decode cX2_partsAt 14 = .ok (.iload_n 3, 1) := by decide +kernel
theorem dX2_partsAt_15 : decode cX2_partsAt 15 = .ok (.iaload, 1) := by decide +kernel
theorem dX2_partsAt_16 : decode cX2_partsAt 16 = .ok (.bipush (-9), 2) := by decide +kernel
theorem dX2_partsAt_18 : decode cX2_partsAt 18 = .ok (.if_icmp .eq 23, 3) := by decide +kernel
theorem dX2_partsAt_21 : decode cX2_partsAt 21 = .ok (.iload_n 1, 1) := by decide +kernel
theorem dX2_partsAt_22 : decode cX2_partsAt 22 = .ok (.aload_n 0, 1) := by decide +kernel
theorem dX2_partsAt_23 : decode cX2_partsAt 23 = .ok (.getfield 9, 3) := by decide +kernel
theorem dX2_partsAt_26 : decode cX2_partsAt 26 = .ok (.iload_n 3, 1) := by decide +kernel
theorem dX2_partsAt_27 : decode cX2_partsAt 27 = .ok (.iaload, 1) := by decide +kernel
theorem dX2_partsAt_28 : decode cX2_partsAt 28 = .ok (.ishr, 1) := by decide +kernel
theorem dX2_partsAt_29 : decode cX2_partsAt 29 = .ok (.iconst 1, 1) := by decide +kernel
theorem dX2_partsAt_30 : decode cX2_partsAt 30 = .ok (.iand, 1) := by decide +kernel
theorem dX2_partsAt_31 : decode cX2_partsAt 31 = .ok (.iconst 1, 1) := by decide +kernel
theorem dX2_partsAt_32 : decode cX2_partsAt 32 = .ok (.if_icmp .ne 9, 3) := by decide +kernel
theorem dX2_partsAt_35 : decode cX2_partsAt 35 = .ok (.iload_n 2, 1) := by decide +kernel
theorem dX2_partsAt_36 : decode cX2_partsAt 36 = .ok (.iconst 1, 1) := by decide +kernel
theorem dX2_partsAt_37 : decode cX2_partsAt 37 = .ok (.iload_n 3, 1) := by decide +kernel
theorem dX2_partsAt_38 : decode cX2_partsAt 38 = .ok (.ishl, 1) := by decide +kernel
theorem dX2_partsAt_39 : decode cX2_partsAt 39 = .ok (.ior, 1) := by decide +kernel
theorem dX2_partsAt_40 : decode cX2_partsAt 40 = .ok (.istore_n 2, 1) := by decide +kernel
theorem dX2_partsAt_41 : decode cX2_partsAt 41 = .ok (.iinc 3 1, 3) := by decide +kernel
theorem dX2_partsAt_44 : decode cX2_partsAt 44 = .ok (.goto (-40), 3) := by decide +kernel
theorem dX2_partsAt_47 : decode cX2_partsAt 47 = .ok (.iload_n 2, 1) := by decide +kernel
theorem dX2_partsAt_48 : decode cX2_partsAt 48 = .ok (.ireturn, 1) := by decide +kernel
theorem dX2_cellsOf_0 : decode cX2_cellsOf 0 = .ok (.iconst 0, 1) := by decide +kernel
theorem dX2_cellsOf_1 : decode cX2_cellsOf 1 = .ok (.istore_n 2, 1) := by decide +kernel
theorem dX2_cellsOf_2 : decode cX2_cellsOf 2 = .ok (.iconst 0, 1) := by decide +kernel
theorem dX2_cellsOf_3 : decode cX2_cellsOf 3 = .ok (.istore_n 3, 1) := by decide +kernel
theorem dX2_cellsOf_4 : decode cX2_cellsOf 4 = .ok (.iload_n 3, 1) := by decide +kernel
theorem dX2_cellsOf_5 : decode cX2_cellsOf 5 = .ok (.bipush 7, 2) := by decide +kernel
theorem dX2_cellsOf_7 : decode cX2_cellsOf 7 = .ok (.if_icmp .ge 40, 3) := by decide +kernel
theorem dX2_cellsOf_10 : decode cX2_cellsOf 10 = .ok (.aload_n 0, 1) := by decide +kernel
theorem dX2_cellsOf_11 : decode cX2_cellsOf 11 = .ok (.getfield 9, 3) := by decide +kernel
theorem dX2_cellsOf_14 : decode cX2_cellsOf 14 = .ok (.iload_n 3, 1) := by decide +kernel
theorem dX2_cellsOf_15 : decode cX2_cellsOf 15 = .ok (.iaload, 1) := by decide +kernel
theorem dX2_cellsOf_16 : decode cX2_cellsOf 16 = .ok (.bipush (-9), 2) := by decide +kernel
theorem dX2_cellsOf_18 : decode cX2_cellsOf 18 = .ok (.if_icmp .eq 23, 3) := by decide +kernel
theorem dX2_cellsOf_21 : decode cX2_cellsOf 21 = .ok (.iload_n 1, 1) := by decide +kernel
theorem dX2_cellsOf_22 : decode cX2_cellsOf 22 = .ok (.iload_n 3, 1) := by decide +kernel
theorem dX2_cellsOf_23 : decode cX2_cellsOf 23 = .ok (.ishr, 1) := by decide +kernel
theorem dX2_cellsOf_24 : decode cX2_cellsOf 24 = .ok (.iconst 1, 1) := by decide +kernel
theorem dX2_cellsOf_25 : decode cX2_cellsOf 25 = .ok (.iand, 1) := by decide +kernel
theorem dX2_cellsOf_26 : decode cX2_cellsOf 26 = .ok (.iconst 1, 1) := by decide +kernel
theorem dX2_cellsOf_27 : decode cX2_cellsOf 27 = .ok (.if_icmp .ne 14, 3) := by decide +kernel
theorem dX2_cellsOf_30 : decode cX2_cellsOf 30 = .ok (.iload_n 2, 1) := by decide +kernel
theorem dX2_cellsOf_31 : decode cX2_cellsOf 31 = .ok (.iconst 1, 1) := by decide +kernel
theorem dX2_cellsOf_32 : decode cX2_cellsOf 32 = .ok (.aload_n 0, 1) := by decide +kernel
theorem dX2_cellsOf_33 : decode cX2_cellsOf 33 = .ok (.getfield 9, 3) := by decide +kernel
theorem dX2_cellsOf_36 : decode cX2_cellsOf 36 = .ok (.iload_n 3, 1) := by decide +kernel
theorem dX2_cellsOf_37 : decode cX2_cellsOf 37 = .ok (.iaload, 1) := by decide +kernel
theorem dX2_cellsOf_38 : decode cX2_cellsOf 38 = .ok (.ishl, 1) := by decide +kernel
theorem dX2_cellsOf_39 : decode cX2_cellsOf 39 = .ok (.ior, 1) := by decide +kernel
theorem dX2_cellsOf_40 : decode cX2_cellsOf 40 = .ok (.istore_n 2, 1) := by decide +kernel
theorem dX2_cellsOf_41 : decode cX2_cellsOf 41 = .ok (.iinc 3 1, 3) := by decide +kernel
theorem dX2_cellsOf_44 : decode cX2_cellsOf 44 = .ok (.goto (-40), 3) := by decide +kernel
theorem dX2_cellsOf_47 : decode cX2_cellsOf 47 = .ok (.iload_n 2, 1) := by decide +kernel
theorem dX2_cellsOf_48 : decode cX2_cellsOf 48 = .ok (.ireturn, 1) := by decide +kernel
theorem dX2_store_0 : decode cX2_store 0 = .ok (.aload_n 0, 1) := by decide +kernel
theorem dX2_store_1 : decode cX2_store 1 = .ok (.getfield 18, 3) := by decide +kernel
theorem dX2_store_4 : decode cX2_store 4 = .ok (.iload_n 1, 1) := by decide +kernel
theorem dX2_store_5 : decode cX2_store 5 = .ok (.invokestatic 65, 3) := by decide +kernel
theorem dX2_store_8 : decode cX2_store 8 = .ok (.invokestatic 69, 3) := by decide +kernel
theorem dX2_store_11 : decode cX2_store 11 = .ok (.isub, 1) := by decide +kernel
theorem dX2_store_12 : decode cX2_store 12 = .ok (.ireturn, 1) := by decide +kernel
theorem dX2_canPut_0 : decode cX2_canPut 0 = .ok (.aload_n 0, 1) := by decide +kernel
theorem dX2_canPut_1 : decode cX2_canPut 1 = .ok (.iload_n 1, 1) := by decide +kernel
theorem dX2_canPut_2 : decode cX2_canPut 2 = .ok (.invokevirtual 74, 3) := by decide +kernel
theorem dX2_canPut_5 : decode cX2_canPut 5 = .ok (.ifCond .le 16, 3) := by decide +kernel
theorem dX2_canPut_8 : decode cX2_canPut 8 = .ok (.iload_n 1, 1) := by decide +kernel
theorem dX2_canPut_9 : decode cX2_canPut 9 = .ok (.iload_n 2, 1) := by decide +kernel
theorem dX2_canPut_10 : decode cX2_canPut 10 = .ok (.invokestatic 77, 3) := by decide +kernel
theorem dX2_canPut_13 : decode cX2_canPut 13 = .ok (.iconst 4, 1) := by decide +kernel
theorem dX2_canPut_14 : decode cX2_canPut 14 = .ok (.if_icmp .ge 7, 3) := by decide +kernel
theorem dX2_canPut_17 : decode cX2_canPut 17 = .ok (.iconst 1, 1) := by decide +kernel
theorem dX2_canPut_18 : decode cX2_canPut 18 = .ok (.goto 4, 3) := by decide +kernel
theorem dX2_canPut_21 : decode cX2_canPut 21 = .ok (.iconst 0, 1) := by decide +kernel
theorem dX2_canPut_22 : decode cX2_canPut 22 = .ok (.ireturn, 1) := by decide +kernel
theorem dX2_canStrike_0 : decode cX2_canStrike 0 = .ok (.iload_n 1, 1) := by decide +kernel
theorem dX2_canStrike_1 : decode cX2_canStrike 1 = .ok (.iload_n 2, 1) := by decide +kernel
theorem dX2_canStrike_2 : decode cX2_canStrike 2 = .ok (.invokestatic 77, 3) := by decide +kernel
theorem dX2_canStrike_5 : decode cX2_canStrike 5 = .ok (.ifCond .le 7, 3) := by decide +kernel
theorem dX2_canStrike_8 : decode cX2_canStrike 8 = .ok (.iconst 1, 1) := by decide +kernel
theorem dX2_canStrike_9 : decode cX2_canStrike 9 = .ok (.goto 4, 3) := by decide +kernel
theorem dX2_canStrike_12 : decode cX2_canStrike 12 = .ok (.iconst 0, 1) := by decide +kernel
theorem dX2_canStrike_13 : decode cX2_canStrike 13 = .ok (.ireturn, 1) := by decide +kernel
theorem dX2_withPut_0 : decode cX2_withPut 0 = .ok (.iload_n 2, 1) := by decide +kernel
theorem dX2_withPut_1 : decode cX2_withPut 1 = .ok (.iload_n 1, 1) := by decide +kernel
theorem dX2_withPut_2 : decode cX2_withPut 2 = .ok (.iload_n 2, 1) := by decide +kernel
theorem dX2_withPut_3 : decode cX2_withPut 3 = .ok (.invokestatic 77, 3) := by decide +kernel
theorem dX2_withPut_6 : decode cX2_withPut 6 = .ok (.invokestatic 80, 3) := by decide +kernel
theorem dX2_withPut_9 : decode cX2_withPut 9 = .ok (.istore_n 3, 1) := by decide +kernel
theorem dX2_withPut_10 : decode cX2_withPut 10 = .ok (.aload_n 0, 1) := by decide +kernel
theorem dX2_withPut_11 : decode cX2_withPut 11 = .ok (.getfield 25, 3) := by decide +kernel
theorem dX2_withPut_14 : decode cX2_withPut 14 = .ok (.aload_n 0, 1) := by decide +kernel
theorem dX2_withPut_15 : decode cX2_withPut 15 = .ok (.getfield 28, 3) := by decide +kernel
theorem dX2_withPut_18 : decode cX2_withPut 18 = .ok (.ior, 1) := by decide +kernel
theorem dX2_withPut_19 : decode cX2_withPut 19 = .ok (.aload_n 0, 1) := by decide +kernel
theorem dX2_withPut_20 : decode cX2_withPut 20 = .ok (.getfield 31, 3) := by decide +kernel
theorem dX2_withPut_23 : decode cX2_withPut 23 = .ok (.ior, 1) := by decide +kernel
theorem dX2_withPut_24 : decode cX2_withPut 24 = .ok (.aload_n 0, 1) := by decide +kernel
theorem dX2_withPut_25 : decode cX2_withPut 25 = .ok (.getfield 34, 3) := by decide +kernel
theorem dX2_withPut_28 : decode cX2_withPut 28 = .ok (.ior, 1) := by decide +kernel
theorem dX2_withPut_29 : decode cX2_withPut 29 = .ok (.istore 4, 2) := by decide +kernel
theorem dX2_withPut_31 : decode cX2_withPut 31 = .ok (.iload_n 1, 1) := by decide +kernel
theorem dX2_withPut_32 : decode cX2_withPut 32 = .ok (.invokestatic 65, 3) := by decide +kernel
theorem dX2_withPut_35 : decode cX2_withPut 35 = .ok (.iload_n 3, 1) := by decide +kernel
theorem dX2_withPut_36 : decode cX2_withPut 36 = .ok (.ior, 1) := by decide +kernel
theorem dX2_withPut_37 : decode cX2_withPut 37 = .ok (.iload_n 1, 1) := by decide +kernel
theorem dX2_withPut_38 : decode cX2_withPut 38 = .ok (.invokestatic 83, 3) := by decide +kernel
theorem dX2_withPut_41 : decode cX2_withPut 41 = .ok (.iload_n 3, 1) := by decide +kernel
theorem dX2_withPut_42 : decode cX2_withPut 42 = .ok (.iload 4, 2) := by decide +kernel
theorem dX2_withPut_44 : decode cX2_withPut 44 = .ok (.iand, 1) := by decide +kernel
theorem dX2_withPut_45 : decode cX2_withPut 45 = .ok (.ior, 1) := by decide +kernel
theorem dX2_withPut_46 : decode cX2_withPut 46 = .ok (.invokestatic 86, 3) := by decide +kernel
theorem dX2_withPut_49 : decode cX2_withPut 49 = .ok (.ireturn, 1) := by decide +kernel
theorem dX2_withStruck_0 : decode cX2_withStruck 0 = .ok (.iload_n 2, 1) := by decide +kernel
theorem dX2_withStruck_1 : decode cX2_withStruck 1 = .ok (.iload_n 1, 1) := by decide +kernel
theorem dX2_withStruck_2 : decode cX2_withStruck 2 = .ok (.iload_n 2, 1) := by decide +kernel
theorem dX2_withStruck_3 : decode cX2_withStruck 3 = .ok (.invokestatic 77, 3) := by decide +kernel
theorem dX2_withStruck_6 : decode cX2_withStruck 6 = .ok (.iconst 1, 1) := by decide +kernel
theorem dX2_withStruck_7 : decode cX2_withStruck 7 = .ok (.isub, 1) := by decide +kernel
theorem dX2_withStruck_8 : decode cX2_withStruck 8 = .ok (.invokestatic 80, 3) := by decide +kernel
theorem dX2_withStruck_11 : decode cX2_withStruck 11 = .ok (.istore_n 3, 1) := by decide +kernel
theorem dX2_withStruck_12 : decode cX2_withStruck 12 = .ok (.iload_n 1, 1) := by decide +kernel
theorem dX2_withStruck_13 : decode cX2_withStruck 13 = .ok (.invokestatic 65, 3) := by decide +kernel
theorem dX2_withStruck_16 : decode cX2_withStruck 16 = .ok (.iload_n 3, 1) := by decide +kernel
theorem dX2_withStruck_17 : decode cX2_withStruck 17 = .ok (.iconst (-1), 1) := by decide +kernel
theorem dX2_withStruck_18 : decode cX2_withStruck 18 = .ok (.ixor, 1) := by decide +kernel
theorem dX2_withStruck_19 : decode cX2_withStruck 19 = .ok (.iand, 1) := by decide +kernel
theorem dX2_withStruck_20 : decode cX2_withStruck 20 = .ok (.istore 4, 2) := by decide +kernel
theorem dX2_withStruck_22 : decode cX2_withStruck 22 = .ok (.iload 4, 2) := by decide +kernel
theorem dX2_withStruck_24 : decode cX2_withStruck 24 = .ok (.aload_n 0, 1) := by decide +kernel
theorem dX2_withStruck_25 : decode cX2_withStruck 25 = .ok (.iload_n 1, 1) := by decide +kernel
theorem dX2_withStruck_26 : decode cX2_withStruck 26 = .ok (.invokestatic 83, 3) := by decide +kernel
theorem dX2_withStruck_29 : decode cX2_withStruck 29 = .ok (.iload 4, 2) := by decide +kernel
theorem dX2_withStruck_31 : decode cX2_withStruck 31 = .ok (.invokevirtual 89, 3) := by decide +kernel
theorem dX2_withStruck_34 : decode cX2_withStruck 34 = .ok (.invokestatic 86, 3) := by decide +kernel
theorem dX2_withStruck_37 : decode cX2_withStruck 37 = .ok (.ireturn, 1) := by decide +kernel
theorem dX2_withRain_0 : decode cX2_withRain 0 = .ok (.iload_n 1, 1) := by decide +kernel
theorem dX2_withRain_1 : decode cX2_withRain 1 = .ok (.invokestatic 65, 3) := by decide +kernel
theorem dX2_withRain_4 : decode cX2_withRain 4 = .ok (.istore_n 2, 1) := by decide +kernel
theorem dX2_withRain_5 : decode cX2_withRain 5 = .ok (.iload_n 1, 1) := by decide +kernel
theorem dX2_withRain_6 : decode cX2_withRain 6 = .ok (.invokestatic 83, 3) := by decide +kernel
theorem dX2_withRain_9 : decode cX2_withRain 9 = .ok (.aload_n 0, 1) := by decide +kernel
theorem dX2_withRain_10 : decode cX2_withRain 10 = .ok (.getfield 34, 3) := by decide +kernel
theorem dX2_withRain_13 : decode cX2_withRain 13 = .ok (.iload_n 2, 1) := by decide +kernel
theorem dX2_withRain_14 : decode cX2_withRain 14 = .ok (.iconst (-1), 1) := by decide +kernel
theorem dX2_withRain_15 : decode cX2_withRain 15 = .ok (.ixor, 1) := by decide +kernel
theorem dX2_withRain_16 : decode cX2_withRain 16 = .ok (.iand, 1) := by decide +kernel
theorem dX2_withRain_17 : decode cX2_withRain 17 = .ok (.iconst (-1), 1) := by decide +kernel
theorem dX2_withRain_18 : decode cX2_withRain 18 = .ok (.ixor, 1) := by decide +kernel
theorem dX2_withRain_19 : decode cX2_withRain 19 = .ok (.iand, 1) := by decide +kernel
theorem dX2_withRain_20 : decode cX2_withRain 20 = .ok (.istore_n 3, 1) := by decide +kernel
theorem dX2_withRain_21 : decode cX2_withRain 21 = .ok (.iload_n 2, 1) := by decide +kernel
theorem dX2_withRain_22 : decode cX2_withRain 22 = .ok (.aload_n 0, 1) := by decide +kernel
theorem dX2_withRain_23 : decode cX2_withRain 23 = .ok (.iload_n 3, 1) := by decide +kernel
theorem dX2_withRain_24 : decode cX2_withRain 24 = .ok (.iload_n 2, 1) := by decide +kernel
theorem dX2_withRain_25 : decode cX2_withRain 25 = .ok (.invokevirtual 89, 3) := by decide +kernel
theorem dX2_withRain_28 : decode cX2_withRain 28 = .ok (.invokestatic 86, 3) := by decide +kernel
theorem dX2_withRain_31 : decode cX2_withRain 31 = .ok (.ireturn, 1) := by decide +kernel
theorem dX2_countStanding_0 : decode cX2_countStanding 0 = .ok (.aload_n 0, 1) := by decide +kernel
theorem dX2_countStanding_1 : decode cX2_countStanding 1 = .ok (.aload_n 0, 1) := by decide +kernel
theorem dX2_countStanding_2 : decode cX2_countStanding 2 = .ok (.iload_n 1, 1) := by decide +kernel
theorem dX2_countStanding_3 : decode cX2_countStanding 3 = .ok (.invokevirtual 92, 3) := by decide +kernel
theorem dX2_countStanding_6 : decode cX2_countStanding 6 = .ok (.iconst 0, 1) := by decide +kernel
theorem dX2_countStanding_7 : decode cX2_countStanding 7 = .ok (.invokevirtual 89, 3) := by decide +kernel
theorem dX2_countStanding_10 : decode cX2_countStanding 10 = .ok (.invokestatic 69, 3) := by decide +kernel
theorem dX2_countStanding_13 : decode cX2_countStanding 13 = .ok (.ireturn, 1) := by decide +kernel
theorem dX2_standing_0 : decode cX2_standing 0 = .ok (.iload_n 1, 1) := by decide +kernel
theorem dX2_standing_1 : decode cX2_standing 1 = .ok (.iload_n 2, 1) := by decide +kernel
theorem dX2_standing_2 : decode cX2_standing 2 = .ok (.bipush 15, 2) := by decide +kernel
theorem dX2_standing_4 : decode cX2_standing 4 = .ok (.ior, 1) := by decide +kernel
theorem dX2_standing_5 : decode cX2_standing 5 = .ok (.aload_n 0, 1) := by decide +kernel
theorem dX2_standing_6 : decode cX2_standing 6 = .ok (.getfield 34, 3) := by decide +kernel
theorem dX2_standing_9 : decode cX2_standing 9 = .ok (.ior, 1) := by decide +kernel
theorem dX2_standing_10 : decode cX2_standing 10 = .ok (.iand, 1) := by decide +kernel
theorem dX2_standing_11 : decode cX2_standing 11 = .ok (.istore_n 3, 1) := by decide +kernel
theorem dX2_standing_12 : decode cX2_standing 12 = .ok (.iconst 0, 1) := by decide +kernel
theorem dX2_standing_13 : decode cX2_standing 13 = .ok (.istore 4, 2) := by decide +kernel
theorem dX2_standing_15 : decode cX2_standing 15 = .ok (.iload 4, 2) := by decide +kernel
theorem dX2_standing_17 : decode cX2_standing 17 = .ok (.bipush 7, 2) := by decide +kernel
theorem dX2_standing_19 : decode cX2_standing 19 = .ok (.if_icmp .ge 31, 3) := by decide +kernel
theorem dX2_standing_22 : decode cX2_standing 22 = .ok (.iload_n 3, 1) := by decide +kernel
theorem dX2_standing_23 : decode cX2_standing 23 = .ok (.iload_n 1, 1) := by decide +kernel
theorem dX2_standing_24 : decode cX2_standing 24 = .ok (.aload_n 0, 1) := by decide +kernel
theorem dX2_standing_25 : decode cX2_standing 25 = .ok (.iload_n 3, 1) := by decide +kernel
theorem dX2_standing_26 : decode cX2_standing 26 = .ok (.invokevirtual 95, 3) := by decide +kernel
theorem dX2_standing_29 : decode cX2_standing 29 = .ok (.iand, 1) := by decide +kernel
theorem dX2_standing_30 : decode cX2_standing 30 = .ok (.ior, 1) := by decide +kernel
theorem dX2_standing_31 : decode cX2_standing 31 = .ok (.istore 5, 2) := by decide +kernel
theorem dX2_standing_33 : decode cX2_standing 33 = .ok (.iload 5, 2) := by decide +kernel
theorem dX2_standing_35 : decode cX2_standing 35 = .ok (.iload_n 3, 1) := by decide +kernel
theorem dX2_standing_36 : decode cX2_standing 36 = .ok (.if_icmp .ne 5, 3) := by decide +kernel
theorem dX2_standing_39 : decode cX2_standing 39 = .ok (.iload_n 3, 1) := by decide +kernel
theorem dX2_standing_40 : decode cX2_standing 40 = .ok (.ireturn, 1) := by decide +kernel
theorem dX2_standing_41 : decode cX2_standing 41 = .ok (.iload 5, 2) := by decide +kernel
theorem dX2_standing_43 : decode cX2_standing 43 = .ok (.istore_n 3, 1) := by decide +kernel
theorem dX2_standing_44 : decode cX2_standing 44 = .ok (.iinc 4 1, 3) := by decide +kernel
theorem dX2_standing_47 : decode cX2_standing 47 = .ok (.goto (-32), 3) := by decide +kernel
theorem dX2_standing_50 : decode cX2_standing 50 = .ok (.iload_n 3, 1) := by decide +kernel
theorem dX2_standing_51 : decode cX2_standing 51 = .ok (.ireturn, 1) := by decide +kernel
theorem dX2_carriedBy_0 : decode cX2_carriedBy 0 = .ok (.iload_n 1, 1) := by decide +kernel
theorem dX2_carriedBy_1 : decode cX2_carriedBy 1 = .ok (.iconst 1, 1) := by decide +kernel
theorem dX2_carriedBy_2 : decode cX2_carriedBy 2 = .ok (.ishl, 1) := by decide +kernel
theorem dX2_carriedBy_3 : decode cX2_carriedBy 3 = .ok (.sipush (-4370), 3) := by decide +kernel
theorem dX2_carriedBy_6 : decode cX2_carriedBy 6 = .ok (.iand, 1) := by decide +kernel
theorem dX2_carriedBy_7 : decode cX2_carriedBy 7 = .ok (.istore_n 2, 1) := by decide +kernel
theorem dX2_carriedBy_8 : decode cX2_carriedBy 8 = .ok (.iload_n 1, 1) := by decide +kernel
theorem dX2_carriedBy_9 : decode cX2_carriedBy 9 = .ok (.iconst 1, 1) := by decide +kernel
theorem dX2_carriedBy_10 : decode cX2_carriedBy 10 = .ok (.ishr, 1) := by decide +kernel
theorem dX2_carriedBy_11 : decode cX2_carriedBy 11 = .ok (.ldc 98, 2) := by decide +kernel
theorem dX2_carriedBy_13 : decode cX2_carriedBy 13 = .ok (.iand, 1) := by decide +kernel
theorem dX2_carriedBy_14 : decode cX2_carriedBy 14 = .ok (.istore_n 3, 1) := by decide +kernel
theorem dX2_carriedBy_15 : decode cX2_carriedBy 15 = .ok (.iload_n 1, 1) := by decide +kernel
theorem dX2_carriedBy_16 : decode cX2_carriedBy 16 = .ok (.iload_n 2, 1) := by decide +kernel
theorem dX2_carriedBy_17 : decode cX2_carriedBy 17 = .ok (.ior, 1) := by decide +kernel
theorem dX2_carriedBy_18 : decode cX2_carriedBy 18 = .ok (.iload_n 3, 1) := by decide +kernel
theorem dX2_carriedBy_19 : decode cX2_carriedBy 19 = .ok (.ior, 1) := by decide +kernel
theorem dX2_carriedBy_20 : decode cX2_carriedBy 20 = .ok (.iconst 4, 1) := by decide +kernel
theorem dX2_carriedBy_21 : decode cX2_carriedBy 21 = .ok (.ishl, 1) := by decide +kernel
theorem dX2_carriedBy_22 : decode cX2_carriedBy 22 = .ok (.istore 4, 2) := by decide +kernel
theorem dX2_carriedBy_24 : decode cX2_carriedBy 24 = .ok (.aload_n 0, 1) := by decide +kernel
theorem dX2_carriedBy_25 : decode cX2_carriedBy 25 = .ok (.getfield 25, 3) := by decide +kernel
theorem dX2_carriedBy_28 : decode cX2_carriedBy 28 = .ok (.iload_n 1, 1) := by decide +kernel
theorem dX2_carriedBy_29 : decode cX2_carriedBy 29 = .ok (.iconst 4, 1) := by decide +kernel
theorem dX2_carriedBy_30 : decode cX2_carriedBy 30 = .ok (.ishl, 1) := by decide +kernel
theorem dX2_carriedBy_31 : decode cX2_carriedBy 31 = .ok (.iand, 1) := by decide +kernel
theorem dX2_carriedBy_32 : decode cX2_carriedBy 32 = .ok (.aload_n 0, 1) := by decide +kernel
theorem dX2_carriedBy_33 : decode cX2_carriedBy 33 = .ok (.getfield 28, 3) := by decide +kernel
theorem dX2_carriedBy_36 : decode cX2_carriedBy 36 = .ok (.iload_n 2, 1) := by decide +kernel
theorem dX2_carriedBy_37 : decode cX2_carriedBy 37 = .ok (.iand, 1) := by decide +kernel
theorem dX2_carriedBy_38 : decode cX2_carriedBy 38 = .ok (.iload_n 3, 1) := by decide +kernel
theorem dX2_carriedBy_39 : decode cX2_carriedBy 39 = .ok (.iand, 1) := by decide +kernel
theorem dX2_carriedBy_40 : decode cX2_carriedBy 40 = .ok (.ior, 1) := by decide +kernel
theorem dX2_carriedBy_41 : decode cX2_carriedBy 41 = .ok (.aload_n 0, 1) := by decide +kernel
theorem dX2_carriedBy_42 : decode cX2_carriedBy 42 = .ok (.getfield 31, 3) := by decide +kernel
theorem dX2_carriedBy_45 : decode cX2_carriedBy 45 = .ok (.iload 4, 2) := by decide +kernel
theorem dX2_carriedBy_47 : decode cX2_carriedBy 47 = .ok (.iand, 1) := by decide +kernel
theorem dX2_carriedBy_48 : decode cX2_carriedBy 48 = .ok (.ior, 1) := by decide +kernel
theorem dX2_carriedBy_49 : decode cX2_carriedBy 49 = .ok (.ireturn, 1) := by decide +kernel
theorem dX3_init_0 : decode cX3_init 0 = .ok (.aload_n 0, 1) := by decide +kernel
theorem dX3_init_1 : decode cX3_init 1 = .ok (.invokespecial 3, 3) := by decide +kernel
theorem dX3_init_4 : decode cX3_init 4 = .ok (.aload_n 0, 1) := by decide +kernel
theorem dX3_init_5 : decode cX3_init 5 = .ok (.bipush 32, 2) := by decide +kernel
theorem dX3_init_7 : decode cX3_init 7 = .ok (.newarray .int, 2) := by decide +kernel
theorem dX3_init_9 : decode cX3_init 9 = .ok (.putfield 11, 3) := by decide +kernel
theorem dX3_init_12 : decode cX3_init 12 = .ok (.aload_n 0, 1) := by decide +kernel
theorem dX3_init_13 : decode cX3_init 13 = .ok (.iconst 0, 1) := by decide +kernel
theorem dX3_init_14 : decode cX3_init 14 = .ok (.putfield 15, 3) := by decide +kernel
theorem dX3_init_17 : decode cX3_init 17 = .ok (.return_, 1) := by decide +kernel
theorem dX3_append_0 : decode cX3_append 0 = .ok (.aload_n 0, 1) := by decide +kernel
theorem dX3_append_1 : decode cX3_append 1 = .ok (.getfield 15, 3) := by decide +kernel
theorem dX3_append_4 : decode cX3_append 4 = .ok (.ifCond .lt 15, 3) := by decide +kernel
theorem dX3_append_7 : decode cX3_append 7 = .ok (.aload_n 0, 1) := by decide +kernel
theorem dX3_append_8 : decode cX3_append 8 = .ok (.getfield 15, 3) := by decide +kernel
theorem dX3_append_11 : decode cX3_append 11 = .ok (.aload_n 0, 1) := by decide +kernel
theorem dX3_append_12 : decode cX3_append 12 = .ok (.getfield 11, 3) := by decide +kernel
theorem dX3_append_15 : decode cX3_append 15 = .ok (.arraylength, 1) := by decide +kernel
theorem dX3_append_16 : decode cX3_append 16 = .ok (.if_icmp .lt 5, 3) := by decide +kernel
theorem dX3_append_19 : decode cX3_append 19 = .ok (.iconst 0, 1) := by decide +kernel
theorem dX3_append_20 : decode cX3_append 20 = .ok (.ireturn, 1) := by decide +kernel
theorem dX3_append_21 : decode cX3_append 21 = .ok (.aload_n 0, 1) := by decide +kernel
theorem dX3_append_22 : decode cX3_append 22 = .ok (.getfield 11, 3) := by decide +kernel
theorem dX3_append_25 : decode cX3_append 25 = .ok (.aload_n 0, 1) := by decide +kernel
theorem dX3_append_26 : decode cX3_append 26 = .ok (.getfield 15, 3) := by decide +kernel
theorem dX3_append_29 : decode cX3_append 29 = .ok (.iload_n 1, 1) := by decide +kernel
theorem dX3_append_30 : decode cX3_append 30 = .ok (.iastore, 1) := by decide +kernel
theorem dX3_append_31 : decode cX3_append 31 = .ok (.aload_n 0, 1) := by decide +kernel
theorem dX3_append_32 : decode cX3_append 32 = .ok (.dup, 1) := by decide +kernel
theorem dX3_append_33 : decode cX3_append 33 = .ok (.getfield 15, 3) := by decide +kernel
theorem dX3_append_36 : decode cX3_append 36 = .ok (.iconst 1, 1) := by decide +kernel
theorem dX3_append_37 : decode cX3_append 37 = .ok (.iadd, 1) := by decide +kernel
theorem dX3_append_38 : decode cX3_append 38 = .ok (.putfield 15, 3) := by decide +kernel
theorem dX3_append_41 : decode cX3_append 41 = .ok (.iconst 1, 1) := by decide +kernel
theorem dX3_append_42 : decode cX3_append 42 = .ok (.ireturn, 1) := by decide +kernel
theorem dX3_letterAt_0 : decode cX3_letterAt 0 = .ok (.iload_n 1, 1) := by decide +kernel
theorem dX3_letterAt_1 : decode cX3_letterAt 1 = .ok (.ifCond .lt 29, 3) := by decide +kernel
theorem dX3_letterAt_4 : decode cX3_letterAt 4 = .ok (.iload_n 1, 1) := by decide +kernel
theorem dX3_letterAt_5 : decode cX3_letterAt 5 = .ok (.aload_n 0, 1) := by decide +kernel
theorem dX3_letterAt_6 : decode cX3_letterAt 6 = .ok (.getfield 15, 3) := by decide +kernel
theorem dX3_letterAt_9 : decode cX3_letterAt 9 = .ok (.if_icmp .ge 21, 3) := by decide +kernel
theorem dX3_letterAt_12 : decode cX3_letterAt 12 = .ok (.iload_n 1, 1) := by decide +kernel
theorem dX3_letterAt_13 : decode cX3_letterAt 13 = .ok (.aload_n 0, 1) := by decide +kernel
theorem dX3_letterAt_14 : decode cX3_letterAt 14 = .ok (.getfield 11, 3) := by decide +kernel
theorem dX3_letterAt_17 : decode cX3_letterAt 17 = .ok (.arraylength, 1) := by decide +kernel
theorem dX3_letterAt_18 : decode cX3_letterAt 18 = .ok (.if_icmp .ge 12, 3) := by decide +kernel
theorem dX3_letterAt_21 : decode cX3_letterAt 21 = .ok (.aload_n 0, 1) := by decide +kernel
theorem dX3_letterAt_22 : decode cX3_letterAt 22 = .ok (.getfield 11, 3) := by decide +kernel
theorem dX3_letterAt_25 : decode cX3_letterAt 25 = .ok (.iload_n 1, 1) := by decide +kernel
theorem dX3_letterAt_26 : decode cX3_letterAt 26 = .ok (.iaload, 1) := by decide +kernel
theorem dX3_letterAt_27 : decode cX3_letterAt 27 = .ok (.goto 4, 3) := by decide +kernel
theorem dX3_letterAt_30 : decode cX3_letterAt 30 = .ok (.iconst 0, 1) := by decide +kernel
theorem dX3_letterAt_31 : decode cX3_letterAt 31 = .ok (.ireturn, 1) := by decide +kernel
theorem dX3_firstFault_0 : decode cX3_firstFault 0 = .ok (.iconst 0, 1) := by decide +kernel
theorem dX3_firstFault_1 : decode cX3_firstFault 1 = .ok (.istore_n 1, 1) := by decide +kernel
theorem dX3_firstFault_2 : decode cX3_firstFault 2 = .ok (.iconst 0, 1) := by decide +kernel
theorem dX3_firstFault_3 : decode cX3_firstFault 3 = .ok (.istore_n 2, 1) := by decide +kernel
theorem dX3_firstFault_4 : decode cX3_firstFault 4 = .ok (.iload_n 2, 1) := by decide +kernel
theorem dX3_firstFault_5 : decode cX3_firstFault 5 = .ok (.aload_n 0, 1) := by decide +kernel
theorem dX3_firstFault_6 : decode cX3_firstFault 6 = .ok (.getfield 15, 3) := by decide +kernel
theorem dX3_firstFault_9 : decode cX3_firstFault 9 = .ok (.if_icmp .ge 49, 3) := by decide +kernel
theorem dX3_firstFault_12 : decode cX3_firstFault 12 = .ok (.aload_n 0, 1) := by decide +kernel
theorem dX3_firstFault_13 : decode cX3_firstFault 13 = .ok (.iload_n 2, 1) := by decide +kernel
theorem dX3_firstFault_14 : decode cX3_firstFault 14 = .ok (.invokevirtual 19, 3) := by decide +kernel
theorem dX3_firstFault_17 : decode cX3_firstFault 17 = .ok (.istore_n 3, 1) := by decide +kernel
theorem dX3_firstFault_18 : decode cX3_firstFault 18 = .ok (.iload_n 2, 1) := by decide +kernel
theorem dX3_firstFault_19 : decode cX3_firstFault 19 = .ok (.iload_n 3, 1) := by decide +kernel
theorem dX3_firstFault_20 : decode cX3_firstFault 20 = .ok (.iload_n 1, 1) := by decide +kernel
theorem dX3_firstFault_21 : decode cX3_firstFault 21 = .ok (.invokestatic 23, 3) := by decide +kernel
theorem dX3_firstFault_24 : decode cX3_firstFault 24 = .ok (.ifCond .ne 5, 3) := by decide +kernel
theorem dX3_firstFault_27 : decode cX3_firstFault 27 = .ok (.iload_n 2, 1) := by decide +kernel
theorem dX3_firstFault_28 : decode cX3_firstFault 28 = .ok (.ireturn, 1) := by decide +kernel
theorem dX3_firstFault_29 : decode cX3_firstFault 29 = .ok (.iload_n 2, 1) := by decide +kernel
theorem dX3_firstFault_30 : decode cX3_firstFault 30 = .ok (.iconst 2, 1) := by decide +kernel
theorem dX3_firstFault_31 : decode cX3_firstFault 31 = .ok (.if_icmp .lt 21, 3) := by decide +kernel
theorem dX3_firstFault_34 : decode cX3_firstFault 34 = .ok (.iload_n 2, 1) := by decide +kernel
theorem dX3_firstFault_35 : decode cX3_firstFault 35 = .ok (.iconst 2, 1) := by decide +kernel
theorem dX3_firstFault_36 : decode cX3_firstFault 36 = .ok (.isub, 1) := by decide +kernel
theorem dX3_firstFault_37 : decode cX3_firstFault 37 = .ok (.iconst 3, 1) := by decide +kernel
theorem dX3_firstFault_38 : decode cX3_firstFault 38 = .ok (.irem, 1) := by decide +kernel
theorem dX3_firstFault_39 : decode cX3_firstFault 39 = .ok (.iconst 1, 1) := by decide +kernel
theorem dX3_firstFault_40 : decode cX3_firstFault 40 = .ok (.if_icmp .ne 12, 3) := by decide +kernel
theorem dX3_firstFault_43 : decode cX3_firstFault 43 = .ok (.iload_n 1, 1) := by decide +kernel
theorem dX3_firstFault_44 : decode cX3_firstFault 44 = .ok (.iconst 1, 1) := by decide +kernel
theorem dX3_firstFault_45 : decode cX3_firstFault 45 = .ok (.iload_n 3, 1) := by decide +kernel
theorem dX3_firstFault_46 : decode cX3_firstFault 46 = .ok (.bipush 97, 2) := by decide +kernel
theorem dX3_firstFault_48 : decode cX3_firstFault 48 = .ok (.isub, 1) := by decide +kernel
theorem dX3_firstFault_49 : decode cX3_firstFault 49 = .ok (.ishl, 1) := by decide +kernel
theorem dX3_firstFault_50 : decode cX3_firstFault 50 = .ok (.ior, 1) := by decide +kernel
theorem dX3_firstFault_51 : decode cX3_firstFault 51 = .ok (.istore_n 1, 1) := by decide +kernel
theorem dX3_firstFault_52 : decode cX3_firstFault 52 = .ok (.iinc 2 1, 3) := by decide +kernel
theorem dX3_firstFault_55 : decode cX3_firstFault 55 = .ok (.goto (-51), 3) := by decide +kernel
theorem dX3_firstFault_58 : decode cX3_firstFault 58 = .ok (.aload_n 0, 1) := by decide +kernel
theorem dX3_firstFault_59 : decode cX3_firstFault 59 = .ok (.getfield 15, 3) := by decide +kernel
theorem dX3_firstFault_62 : decode cX3_firstFault 62 = .ok (.iconst 2, 1) := by decide +kernel
theorem dX3_firstFault_63 : decode cX3_firstFault 63 = .ok (.if_icmp .lt 19, 3) := by decide +kernel
theorem dX3_firstFault_66 : decode cX3_firstFault 66 = .ok (.aload_n 0, 1) := by decide +kernel
theorem dX3_firstFault_67 : decode cX3_firstFault 67 = .ok (.getfield 15, 3) := by decide +kernel
theorem dX3_firstFault_70 : decode cX3_firstFault 70 = .ok (.iconst 2, 1) := by decide +kernel
theorem dX3_firstFault_71 : decode cX3_firstFault 71 = .ok (.isub, 1) := by decide +kernel
theorem dX3_firstFault_72 : decode cX3_firstFault 72 = .ok (.iconst 3, 1) := by decide +kernel
theorem dX3_firstFault_73 : decode cX3_firstFault 73 = .ok (.irem, 1) := by decide +kernel
theorem dX3_firstFault_74 : decode cX3_firstFault 74 = .ok (.ifCond .ne 8, 3) := by decide +kernel
theorem dX3_firstFault_77 : decode cX3_firstFault 77 = .ok (.bipush (-9), 2) := by decide +kernel
theorem dX3_firstFault_79 : decode cX3_firstFault 79 = .ok (.goto 7, 3) := by decide +kernel
theorem dX3_firstFault_82 : decode cX3_firstFault 82 = .ok (.aload_n 0, 1) := by decide +kernel
theorem dX3_firstFault_83 : decode cX3_firstFault 83 = .ok (.getfield 15, 3) := by decide +kernel
theorem dX3_firstFault_86 : decode cX3_firstFault 86 = .ok (.ireturn, 1) := by decide +kernel
theorem dX3_fits_0 : decode cX3_fits 0 = .ok (.iload_n 0, 1) := by decide +kernel
theorem dX3_fits_1 : decode cX3_fits 1 = .ok (.ifCond .ne 15, 3) := by decide +kernel
theorem dX3_fits_4 : decode cX3_fits 4 = .ok (.iload_n 1, 1) := by decide +kernel
theorem dX3_fits_5 : decode cX3_fits 5 = .ok (.bipush 73, 2) := by decide +kernel
theorem dX3_fits_7 : decode cX3_fits 7 = .ok (.if_icmp .ne 7, 3) := by decide +kernel
theorem dX3_fits_10 : decode cX3_fits 10 = .ok (.iconst 1, 1) := by decide +kernel
theorem dX3_fits_11 : decode cX3_fits 11 = .ok (.goto 4, 3) := by decide +kernel
theorem dX3_fits_14 : decode cX3_fits 14 = .ok (.iconst 0, 1) := by decide +kernel
theorem dX3_fits_15 : decode cX3_fits 15 = .ok (.ireturn, 1) := by decide +kernel
theorem dX3_fits_16 : decode cX3_fits 16 = .ok (.iload_n 0, 1) := by decide +kernel
theorem dX3_fits_17 : decode cX3_fits 17 = .ok (.iconst 1, 1) := by decide +kernel
theorem dX3_fits_18 : decode cX3_fits 18 = .ok (.if_icmp .ne 21, 3) := by decide +kernel
theorem dX3_fits_21 : decode cX3_fits 21 = .ok (.iload_n 1, 1) := by decide +kernel
theorem dX3_fits_22 : decode cX3_fits 22 = .ok (.bipush 48, 2) := by decide +kernel
theorem dX3_fits_24 : decode cX3_fits 24 = .ok (.if_icmp .lt 13, 3) := by decide +kernel
theorem dX3_fits_27 : decode cX3_fits 27 = .ok (.iload_n 1, 1) := by decide +kernel
theorem dX3_fits_28 : decode cX3_fits 28 = .ok (.bipush 57, 2) := by decide +kernel
theorem dX3_fits_30 : decode cX3_fits 30 = .ok (.if_icmp .gt 7, 3) := by decide +kernel
theorem dX3_fits_33 : decode cX3_fits 33 = .ok (.iconst 1, 1) := by decide +kernel
theorem dX3_fits_34 : decode cX3_fits 34 = .ok (.goto 4, 3) := by decide +kernel
theorem dX3_fits_37 : decode cX3_fits 37 = .ok (.iconst 0, 1) := by decide +kernel
theorem dX3_fits_38 : decode cX3_fits 38 = .ok (.ireturn, 1) := by decide +kernel
theorem dX3_fits_39 : decode cX3_fits 39 = .ok (.iload_n 0, 1) := by decide +kernel
theorem dX3_fits_40 : decode cX3_fits 40 = .ok (.bipush 23, 2) := by decide +kernel
theorem dX3_fits_42 : decode cX3_fits 42 = .ok (.if_icmp .lt 5, 3) := by decide +kernel
theorem dX3_fits_45 : decode cX3_fits 45 = .ok (.iconst 0, 1) := by decide +kernel
theorem dX3_fits_46 : decode cX3_fits 46 = .ok (.ireturn, 1) := by decide +kernel
theorem dX3_fits_47 : decode cX3_fits 47 = .ok (.iload_n 0, 1) := by decide +kernel
theorem dX3_fits_48 : decode cX3_fits 48 = .ok (.iconst 2, 1) := by decide +kernel
theorem dX3_fits_49 : decode cX3_fits 49 = .ok (.isub, 1) := by decide +kernel
theorem dX3_fits_50 : decode cX3_fits 50 = .ok (.iconst 3, 1) := by decide +kernel
theorem dX3_fits_51 : decode cX3_fits 51 = .ok (.irem, 1) := by decide +kernel
theorem dX3_fits_52 : decode cX3_fits 52 = .ok (.lookupswitch 69 #[(0, 28), (1, 40)], 28) := by decide +kernel
theorem dX3_fits_80 : decode cX3_fits 80 = .ok (.iload_n 1, 1) := by decide +kernel
theorem dX3_fits_81 : decode cX3_fits 81 = .ok (.bipush 80, 2) := by decide +kernel
theorem dX3_fits_83 : decode cX3_fits 83 = .ok (.if_icmp .ne 7, 3) := by decide +kernel
theorem dX3_fits_86 : decode cX3_fits 86 = .ok (.iconst 1, 1) := by decide +kernel
theorem dX3_fits_87 : decode cX3_fits 87 = .ok (.goto 4, 3) := by decide +kernel
theorem dX3_fits_90 : decode cX3_fits 90 = .ok (.iconst 0, 1) := by decide +kernel
theorem dX3_fits_91 : decode cX3_fits 91 = .ok (.ireturn, 1) := by decide +kernel
theorem dX3_fits_92 : decode cX3_fits 92 = .ok (.iload_n 1, 1) := by decide +kernel
theorem dX3_fits_93 : decode cX3_fits 93 = .ok (.bipush 97, 2) := by decide +kernel
theorem dX3_fits_95 : decode cX3_fits 95 = .ok (.if_icmp .lt 24, 3) := by decide +kernel
theorem dX3_fits_98 : decode cX3_fits 98 = .ok (.iload_n 1, 1) := by decide +kernel
theorem dX3_fits_99 : decode cX3_fits 99 = .ok (.bipush 112, 2) := by decide +kernel
theorem dX3_fits_101 : decode cX3_fits 101 = .ok (.if_icmp .gt 18, 3) := by decide +kernel
theorem dX3_fits_104 : decode cX3_fits 104 = .ok (.iload_n 2, 1) := by decide +kernel
theorem dX3_fits_105 : decode cX3_fits 105 = .ok (.iload_n 1, 1) := by decide +kernel
theorem dX3_fits_106 : decode cX3_fits 106 = .ok (.bipush 97, 2) := by decide +kernel
theorem dX3_fits_108 : decode cX3_fits 108 = .ok (.isub, 1) := by decide +kernel
theorem dX3_fits_109 : decode cX3_fits 109 = .ok (.ishr, 1) := by decide +kernel
theorem dX3_fits_110 : decode cX3_fits 110 = .ok (.iconst 1, 1) := by decide +kernel
theorem dX3_fits_111 : decode cX3_fits 111 = .ok (.iand, 1) := by decide +kernel
theorem dX3_fits_112 : decode cX3_fits 112 = .ok (.ifCond .ne 7, 3) := by decide +kernel
theorem dX3_fits_115 : decode cX3_fits 115 = .ok (.iconst 1, 1) := by decide +kernel
theorem dX3_fits_116 : decode cX3_fits 116 = .ok (.goto 4, 3) := by decide +kernel
theorem dX3_fits_119 : decode cX3_fits 119 = .ok (.iconst 0, 1) := by decide +kernel
theorem dX3_fits_120 : decode cX3_fits 120 = .ok (.ireturn, 1) := by decide +kernel
theorem dX3_fits_121 : decode cX3_fits 121 = .ok (.iload_n 1, 1) := by decide +kernel
theorem dX3_fits_122 : decode cX3_fits 122 = .ok (.bipush 48, 2) := by decide +kernel
theorem dX3_fits_124 : decode cX3_fits 124 = .ok (.if_icmp .lt 13, 3) := by decide +kernel
theorem dX3_fits_127 : decode cX3_fits 127 = .ok (.iload_n 1, 1) := by decide +kernel
theorem dX3_fits_128 : decode cX3_fits 128 = .ok (.bipush 51, 2) := by decide +kernel
theorem dX3_fits_130 : decode cX3_fits 130 = .ok (.if_icmp .gt 7, 3) := by decide +kernel
theorem dX3_fits_133 : decode cX3_fits 133 = .ok (.iconst 1, 1) := by decide +kernel
theorem dX3_fits_134 : decode cX3_fits 134 = .ok (.goto 4, 3) := by decide +kernel
theorem dX3_fits_137 : decode cX3_fits 137 = .ok (.iconst 0, 1) := by decide +kernel
theorem dX3_fits_138 : decode cX3_fits 138 = .ok (.ireturn, 1) := by decide +kernel
theorem dX3_parts_0 : decode cX3_parts 0 = .ok (.aload_n 0, 1) := by decide +kernel
theorem dX3_parts_1 : decode cX3_parts 1 = .ok (.getfield 15, 3) := by decide +kernel
theorem dX3_parts_4 : decode cX3_parts 4 = .ok (.iconst 2, 1) := by decide +kernel
theorem dX3_parts_5 : decode cX3_parts 5 = .ok (.if_icmp .ge 7, 3) := by decide +kernel
theorem dX3_parts_8 : decode cX3_parts 8 = .ok (.iconst 0, 1) := by decide +kernel
theorem dX3_parts_9 : decode cX3_parts 9 = .ok (.goto 11, 3) := by decide +kernel
theorem dX3_parts_12 : decode cX3_parts 12 = .ok (.aload_n 0, 1) := by decide +kernel
theorem dX3_parts_13 : decode cX3_parts 13 = .ok (.getfield 15, 3) := by decide +kernel
theorem dX3_parts_16 : decode cX3_parts 16 = .ok (.iconst 2, 1) := by decide +kernel
theorem dX3_parts_17 : decode cX3_parts 17 = .ok (.isub, 1) := by decide +kernel
theorem dX3_parts_18 : decode cX3_parts 18 = .ok (.iconst 3, 1) := by decide +kernel
theorem dX3_parts_19 : decode cX3_parts 19 = .ok (.idiv, 1) := by decide +kernel
theorem dX3_parts_20 : decode cX3_parts 20 = .ok (.ireturn, 1) := by decide +kernel
theorem dX3_cellOfPart_0 : decode cX3_cellOfPart 0 = .ok (.aload_n 0, 1) := by decide +kernel
theorem dX3_cellOfPart_1 : decode cX3_cellOfPart 1 = .ok (.iconst 2, 1) := by decide +kernel
theorem dX3_cellOfPart_2 : decode cX3_cellOfPart 2 = .ok (.iconst 3, 1) := by decide +kernel
theorem dX3_cellOfPart_3 : decode cX3_cellOfPart 3 = .ok (.iload_n 1, 1) := by decide +kernel
theorem dX3_cellOfPart_4 : decode cX3_cellOfPart 4 = .ok (.imul, 1) := by decide +kernel
theorem dX3_cellOfPart_5 : decode cX3_cellOfPart 5 = .ok (.iadd, 1) := by decide +kernel
theorem dX3_cellOfPart_6 : decode cX3_cellOfPart 6 = .ok (.iconst 1, 1) := by decide +kernel
theorem dX3_cellOfPart_7 : decode cX3_cellOfPart 7 = .ok (.iadd, 1) := by decide +kernel
theorem dX3_cellOfPart_8 : decode cX3_cellOfPart 8 = .ok (.invokevirtual 19, 3) := by decide +kernel
theorem dX3_cellOfPart_11 : decode cX3_cellOfPart 11 = .ok (.bipush 97, 2) := by decide +kernel
theorem dX3_cellOfPart_13 : decode cX3_cellOfPart 13 = .ok (.isub, 1) := by decide +kernel
theorem dX3_cellOfPart_14 : decode cX3_cellOfPart 14 = .ok (.ireturn, 1) := by decide +kernel
theorem dX3_kindOfPart_0 : decode cX3_kindOfPart 0 = .ok (.aload_n 0, 1) := by decide +kernel
theorem dX3_kindOfPart_1 : decode cX3_kindOfPart 1 = .ok (.iconst 2, 1) := by decide +kernel
theorem dX3_kindOfPart_2 : decode cX3_kindOfPart 2 = .ok (.iconst 3, 1) := by decide +kernel
theorem dX3_kindOfPart_3 : decode cX3_kindOfPart 3 = .ok (.iload_n 1, 1) := by decide +kernel
theorem dX3_kindOfPart_4 : decode cX3_kindOfPart 4 = .ok (.imul, 1) := by decide +kernel
theorem dX3_kindOfPart_5 : decode cX3_kindOfPart 5 = .ok (.iadd, 1) := by decide +kernel
theorem dX3_kindOfPart_6 : decode cX3_kindOfPart 6 = .ok (.iconst 2, 1) := by decide +kernel
theorem dX3_kindOfPart_7 : decode cX3_kindOfPart 7 = .ok (.iadd, 1) := by decide +kernel
theorem dX3_kindOfPart_8 : decode cX3_kindOfPart 8 = .ok (.invokevirtual 19, 3) := by decide +kernel
theorem dX3_kindOfPart_11 : decode cX3_kindOfPart 11 = .ok (.bipush 48, 2) := by decide +kernel
theorem dX3_kindOfPart_13 : decode cX3_kindOfPart 13 = .ok (.isub, 1) := by decide +kernel
theorem dX3_kindOfPart_14 : decode cX3_kindOfPart 14 = .ok (.ireturn, 1) := by decide +kernel
theorem dX4_init_0 : decode cX4_init 0 = .ok (.aload_n 0, 1) := by decide +kernel
theorem dX4_init_1 : decode cX4_init 1 = .ok (.invokespecial 3, 3) := by decide +kernel
theorem dX4_init_4 : decode cX4_init 4 = .ok (.aload_n 0, 1) := by decide +kernel
theorem dX4_init_5 : decode cX4_init 5 = .ok (.bipush 6, 2) := by decide +kernel
theorem dX4_init_7 : decode cX4_init 7 = .ok (.newarray .int, 2) := by decide +kernel
theorem dX4_init_9 : decode cX4_init 9 = .ok (.putfield 11, 3) := by decide +kernel
theorem dX4_init_12 : decode cX4_init 12 = .ok (.aload_n 0, 1) := by decide +kernel
theorem dX4_init_13 : decode cX4_init 13 = .ok (.bipush 6, 2) := by decide +kernel
theorem dX4_init_15 : decode cX4_init 15 = .ok (.newarray .boolean, 2) := by decide +kernel
theorem dX4_init_17 : decode cX4_init 17 = .ok (.putfield 15, 3) := by decide +kernel
theorem dX4_init_20 : decode cX4_init 20 = .ok (.aload_n 0, 1) := by decide +kernel
theorem dX4_init_21 : decode cX4_init 21 = .ok (.iconst 0, 1) := by decide +kernel
theorem dX4_init_22 : decode cX4_init 22 = .ok (.putfield 19, 3) := by decide +kernel
theorem dX4_init_25 : decode cX4_init 25 = .ok (.return_, 1) := by decide +kernel
theorem dX4_add_0 : decode cX4_add 0 = .ok (.aload_n 0, 1) := by decide +kernel
theorem dX4_add_1 : decode cX4_add 1 = .ok (.getfield 19, 3) := by decide +kernel
theorem dX4_add_4 : decode cX4_add 4 = .ok (.ifCond .lt 12, 3) := by decide +kernel
theorem dX4_add_7 : decode cX4_add 7 = .ok (.aload_n 0, 1) := by decide +kernel
theorem dX4_add_8 : decode cX4_add 8 = .ok (.getfield 19, 3) := by decide +kernel
theorem dX4_add_11 : decode cX4_add 11 = .ok (.bipush 6, 2) := by decide +kernel
theorem dX4_add_13 : decode cX4_add 13 = .ok (.if_icmp .lt 5, 3) := by decide +kernel
theorem dX4_add_16 : decode cX4_add 16 = .ok (.iconst 0, 1) := by decide +kernel
theorem dX4_add_17 : decode cX4_add 17 = .ok (.ireturn, 1) := by decide +kernel
theorem dX4_add_18 : decode cX4_add 18 = .ok (.aload_n 0, 1) := by decide +kernel
theorem dX4_add_19 : decode cX4_add 19 = .ok (.getfield 11, 3) := by decide +kernel
theorem dX4_add_22 : decode cX4_add 22 = .ok (.aload_n 0, 1) := by decide +kernel
theorem dX4_add_23 : decode cX4_add 23 = .ok (.getfield 19, 3) := by decide +kernel
theorem dX4_add_26 : decode cX4_add 26 = .ok (.iload_n 1, 1) := by decide +kernel
theorem dX4_add_27 : decode cX4_add 27 = .ok (.iastore, 1) := by decide +kernel
theorem dX4_add_28 : decode cX4_add 28 = .ok (.aload_n 0, 1) := by decide +kernel
theorem dX4_add_29 : decode cX4_add 29 = .ok (.getfield 15, 3) := by decide +kernel
theorem dX4_add_32 : decode cX4_add 32 = .ok (.aload_n 0, 1) := by decide +kernel
theorem dX4_add_33 : decode cX4_add 33 = .ok (.getfield 19, 3) := by decide +kernel
theorem dX4_add_36 : decode cX4_add 36 = .ok (.iload_n 2, 1) := by decide +kernel
theorem dX4_add_37 : decode cX4_add 37 = .ok (.bastore, 1) := by decide +kernel
theorem dX4_add_38 : decode cX4_add 38 = .ok (.aload_n 0, 1) := by decide +kernel
theorem dX4_add_39 : decode cX4_add 39 = .ok (.dup, 1) := by decide +kernel
theorem dX4_add_40 : decode cX4_add 40 = .ok (.getfield 19, 3) := by decide +kernel
theorem dX4_add_43 : decode cX4_add 43 = .ok (.iconst 1, 1) := by decide +kernel
theorem dX4_add_44 : decode cX4_add 44 = .ok (.iadd, 1) := by decide +kernel
theorem dX4_add_45 : decode cX4_add 45 = .ok (.putfield 19, 3) := by decide +kernel
theorem dX4_add_48 : decode cX4_add 48 = .ok (.iconst 1, 1) := by decide +kernel
theorem dX4_add_49 : decode cX4_add 49 = .ok (.ireturn, 1) := by decide +kernel
theorem dX4_agreeWith_0 : decode cX4_agreeWith 0 = .ok (.iconst 0, 1) := by decide +kernel
theorem dX4_agreeWith_1 : decode cX4_agreeWith 1 = .ok (.istore_n 3, 1) := by decide +kernel
theorem dX4_agreeWith_2 : decode cX4_agreeWith 2 = .ok (.iload_n 3, 1) := by decide +kernel
theorem dX4_agreeWith_3 : decode cX4_agreeWith 3 = .ok (.aload_n 0, 1) := by decide +kernel
theorem dX4_agreeWith_4 : decode cX4_agreeWith 4 = .ok (.getfield 19, 3) := by decide +kernel
theorem dX4_agreeWith_7 : decode cX4_agreeWith 7 = .ok (.if_icmp .ge 37, 3) := by decide +kernel
theorem dX4_agreeWith_10 : decode cX4_agreeWith 10 = .ok (.iload_n 3, 1) := by decide +kernel
theorem dX4_agreeWith_11 : decode cX4_agreeWith 11 = .ok (.bipush 6, 2) := by decide +kernel
theorem dX4_agreeWith_13 : decode cX4_agreeWith 13 = .ok (.if_icmp .ge 31, 3) := by decide +kernel
theorem dX4_agreeWith_16 : decode cX4_agreeWith 16 = .ok (.iload_n 1, 1) := by decide +kernel
theorem dX4_agreeWith_17 : decode cX4_agreeWith 17 = .ok (.iload_n 2, 1) := by decide +kernel
theorem dX4_agreeWith_18 : decode cX4_agreeWith 18 = .ok (.aload_n 0, 1) := by decide +kernel
theorem dX4_agreeWith_19 : decode cX4_agreeWith 19 = .ok (.getfield 11, 3) := by decide +kernel
theorem dX4_agreeWith_22 : decode cX4_agreeWith 22 = .ok (.iload_n 3, 1) := by decide +kernel
theorem dX4_agreeWith_23 : decode cX4_agreeWith 23 = .ok (.iaload, 1) := by decide +kernel
theorem dX4_agreeWith_24 : decode cX4_agreeWith 24 = .ok (.invokestatic 23, 3) := by decide +kernel
theorem dX4_agreeWith_27 : decode cX4_agreeWith 27 = .ok (.aload_n 0, 1) := by decide +kernel
theorem dX4_agreeWith_28 : decode cX4_agreeWith 28 = .ok (.getfield 15, 3) := by decide +kernel
theorem dX4_agreeWith_31 : decode cX4_agreeWith 31 = .ok (.iload_n 3, 1) := by decide +kernel
theorem dX4_agreeWith_32 : decode cX4_agreeWith 32 = .ok (.baload, 1) := by decide +kernel
theorem dX4_agreeWith_33 : decode cX4_agreeWith 33 = .ok (.if_icmp .eq 5, 3) := by decide +kernel
theorem dX4_agreeWith_36 : decode cX4_agreeWith 36 = .ok (.iconst 0, 1) := by decide +kernel
theorem dX4_agreeWith_37 : decode cX4_agreeWith 37 = .ok (.ireturn, 1) := by decide +kernel
theorem dX4_agreeWith_38 : decode cX4_agreeWith 38 = .ok (.iinc 3 1, 3) := by decide +kernel
theorem dX4_agreeWith_41 : decode cX4_agreeWith 41 = .ok (.goto (-39), 3) := by decide +kernel
theorem dX4_agreeWith_44 : decode cX4_agreeWith 44 = .ok (.iconst 1, 1) := by decide +kernel
theorem dX4_agreeWith_45 : decode cX4_agreeWith 45 = .ok (.ireturn, 1) := by decide +kernel
theorem dX4_wouldStand_0 : decode cX4_wouldStand 0 = .ok (.iload_n 1, 1) := by decide +kernel
theorem dX4_wouldStand_1 : decode cX4_wouldStand 1 = .ok (.ifCond .ne 5, 3) := by decide +kernel
theorem dX4_wouldStand_4 : decode cX4_wouldStand 4 = .ok (.iconst 1, 1) := by decide +kernel
theorem dX4_wouldStand_5 : decode cX4_wouldStand 5 = .ok (.ireturn, 1) := by decide +kernel
theorem dX4_wouldStand_6 : decode cX4_wouldStand 6 = .ok (.iload_n 0, 1) := by decide +kernel
theorem dX4_wouldStand_7 : decode cX4_wouldStand 7 = .ok (.tableswitch 65 0 2 #[25, 37, 52], 25) := by decide +kernel
theorem dX4_wouldStand_32 : decode cX4_wouldStand 32 = .ok (.iload_n 2, 1) := by decide +kernel
theorem dX4_wouldStand_33 : decode cX4_wouldStand 33 = .ok (.iconst 1, 1) := by decide +kernel
theorem dX4_wouldStand_34 : decode cX4_wouldStand 34 = .ok (.iand, 1) := by decide +kernel
theorem dX4_wouldStand_35 : decode cX4_wouldStand 35 = .ok (.ifCond .eq 7, 3) := by decide +kernel
theorem dX4_wouldStand_38 : decode cX4_wouldStand 38 = .ok (.iconst 1, 1) := by decide +kernel
theorem dX4_wouldStand_39 : decode cX4_wouldStand 39 = .ok (.goto 4, 3) := by decide +kernel
theorem dX4_wouldStand_42 : decode cX4_wouldStand 42 = .ok (.iconst 0, 1) := by decide +kernel
theorem dX4_wouldStand_43 : decode cX4_wouldStand 43 = .ok (.ireturn, 1) := by decide +kernel
theorem dX4_wouldStand_44 : decode cX4_wouldStand 44 = .ok (.iload_n 2, 1) := by decide +kernel
theorem dX4_wouldStand_45 : decode cX4_wouldStand 45 = .ok (.bipush 6, 2) := by decide +kernel
theorem dX4_wouldStand_47 : decode cX4_wouldStand 47 = .ok (.iand, 1) := by decide +kernel
theorem dX4_wouldStand_48 : decode cX4_wouldStand 48 = .ok (.bipush 6, 2) := by decide +kernel
theorem dX4_wouldStand_50 : decode cX4_wouldStand 50 = .ok (.if_icmp .ne 7, 3) := by decide +kernel
theorem dX4_wouldStand_53 : decode cX4_wouldStand 53 = .ok (.iconst 1, 1) := by decide +kernel
theorem dX4_wouldStand_54 : decode cX4_wouldStand 54 = .ok (.goto 4, 3) := by decide +kernel
theorem dX4_wouldStand_57 : decode cX4_wouldStand 57 = .ok (.iconst 0, 1) := by decide +kernel
theorem dX4_wouldStand_58 : decode cX4_wouldStand 58 = .ok (.ireturn, 1) := by decide +kernel
theorem dX4_wouldStand_59 : decode cX4_wouldStand 59 = .ok (.iload_n 2, 1) := by decide +kernel
theorem dX4_wouldStand_60 : decode cX4_wouldStand 60 = .ok (.bipush 25, 2) := by decide +kernel
theorem dX4_wouldStand_62 : decode cX4_wouldStand 62 = .ok (.iand, 1) := by decide +kernel
theorem dX4_wouldStand_63 : decode cX4_wouldStand 63 = .ok (.ifCond .eq 7, 3) := by decide +kernel
theorem dX4_wouldStand_66 : decode cX4_wouldStand 66 = .ok (.iconst 1, 1) := by decide +kernel
theorem dX4_wouldStand_67 : decode cX4_wouldStand 67 = .ok (.goto 4, 3) := by decide +kernel
theorem dX4_wouldStand_70 : decode cX4_wouldStand 70 = .ok (.iconst 0, 1) := by decide +kernel
theorem dX4_wouldStand_71 : decode cX4_wouldStand 71 = .ok (.ireturn, 1) := by decide +kernel
theorem dX4_wouldStand_72 : decode cX4_wouldStand 72 = .ok (.iconst 1, 1) := by decide +kernel
theorem dX4_wouldStand_73 : decode cX4_wouldStand 73 = .ok (.ireturn, 1) := by decide +kernel
theorem dJ6_bitCount_0f7a4_0 : decode cJ6_bitCount_0f7a4 0 = .ok (.iload_n 0, 1) := by decide +kernel
theorem dJ6_bitCount_0f7a4_1 : decode cJ6_bitCount_0f7a4 1 = .ok (.iload_n 0, 1) := by decide +kernel
theorem dJ6_bitCount_0f7a4_2 : decode cJ6_bitCount_0f7a4 2 = .ok (.iconst 1, 1) := by decide +kernel
theorem dJ6_bitCount_0f7a4_3 : decode cJ6_bitCount_0f7a4 3 = .ok (.iushr, 1) := by decide +kernel
theorem dJ6_bitCount_0f7a4_4 : decode cJ6_bitCount_0f7a4 4 = .ok (.ldc_w 265, 3) := by decide +kernel
theorem dJ6_bitCount_0f7a4_7 : decode cJ6_bitCount_0f7a4 7 = .ok (.iand, 1) := by decide +kernel
theorem dJ6_bitCount_0f7a4_8 : decode cJ6_bitCount_0f7a4 8 = .ok (.isub, 1) := by decide +kernel
theorem dJ6_bitCount_0f7a4_9 : decode cJ6_bitCount_0f7a4 9 = .ok (.istore_n 0, 1) := by decide +kernel
theorem dJ6_bitCount_0f7a4_10 : decode cJ6_bitCount_0f7a4 10 = .ok (.iload_n 0, 1) := by decide +kernel
theorem dJ6_bitCount_0f7a4_11 : decode cJ6_bitCount_0f7a4 11 = .ok (.ldc_w 266, 3) := by decide +kernel
theorem dJ6_bitCount_0f7a4_14 : decode cJ6_bitCount_0f7a4 14 = .ok (.iand, 1) := by decide +kernel
theorem dJ6_bitCount_0f7a4_15 : decode cJ6_bitCount_0f7a4 15 = .ok (.iload_n 0, 1) := by decide +kernel
theorem dJ6_bitCount_0f7a4_16 : decode cJ6_bitCount_0f7a4 16 = .ok (.iconst 2, 1) := by decide +kernel
theorem dJ6_bitCount_0f7a4_17 : decode cJ6_bitCount_0f7a4 17 = .ok (.iushr, 1) := by decide +kernel
theorem dJ6_bitCount_0f7a4_18 : decode cJ6_bitCount_0f7a4 18 = .ok (.ldc_w 266, 3) := by decide +kernel
theorem dJ6_bitCount_0f7a4_21 : decode cJ6_bitCount_0f7a4 21 = .ok (.iand, 1) := by decide +kernel
theorem dJ6_bitCount_0f7a4_22 : decode cJ6_bitCount_0f7a4 22 = .ok (.iadd, 1) := by decide +kernel
theorem dJ6_bitCount_0f7a4_23 : decode cJ6_bitCount_0f7a4 23 = .ok (.istore_n 0, 1) := by decide +kernel
theorem dJ6_bitCount_0f7a4_24 : decode cJ6_bitCount_0f7a4 24 = .ok (.iload_n 0, 1) := by decide +kernel
theorem dJ6_bitCount_0f7a4_25 : decode cJ6_bitCount_0f7a4 25 = .ok (.iload_n 0, 1) := by decide +kernel
theorem dJ6_bitCount_0f7a4_26 : decode cJ6_bitCount_0f7a4 26 = .ok (.iconst 4, 1) := by decide +kernel
theorem dJ6_bitCount_0f7a4_27 : decode cJ6_bitCount_0f7a4 27 = .ok (.iushr, 1) := by decide +kernel
theorem dJ6_bitCount_0f7a4_28 : decode cJ6_bitCount_0f7a4 28 = .ok (.iadd, 1) := by decide +kernel
theorem dJ6_bitCount_0f7a4_29 : decode cJ6_bitCount_0f7a4 29 = .ok (.ldc_w 267, 3) := by decide +kernel
theorem dJ6_bitCount_0f7a4_32 : decode cJ6_bitCount_0f7a4 32 = .ok (.iand, 1) := by decide +kernel
theorem dJ6_bitCount_0f7a4_33 : decode cJ6_bitCount_0f7a4 33 = .ok (.istore_n 0, 1) := by decide +kernel
theorem dJ6_bitCount_0f7a4_34 : decode cJ6_bitCount_0f7a4 34 = .ok (.iload_n 0, 1) := by decide +kernel
theorem dJ6_bitCount_0f7a4_35 : decode cJ6_bitCount_0f7a4 35 = .ok (.iload_n 0, 1) := by decide +kernel
theorem dJ6_bitCount_0f7a4_36 : decode cJ6_bitCount_0f7a4 36 = .ok (.bipush 8, 2) := by decide +kernel
theorem dJ6_bitCount_0f7a4_38 : decode cJ6_bitCount_0f7a4 38 = .ok (.iushr, 1) := by decide +kernel
theorem dJ6_bitCount_0f7a4_39 : decode cJ6_bitCount_0f7a4 39 = .ok (.iadd, 1) := by decide +kernel
theorem dJ6_bitCount_0f7a4_40 : decode cJ6_bitCount_0f7a4 40 = .ok (.istore_n 0, 1) := by decide +kernel
theorem dJ6_bitCount_0f7a4_41 : decode cJ6_bitCount_0f7a4 41 = .ok (.iload_n 0, 1) := by decide +kernel
theorem dJ6_bitCount_0f7a4_42 : decode cJ6_bitCount_0f7a4 42 = .ok (.iload_n 0, 1) := by decide +kernel
theorem dJ6_bitCount_0f7a4_43 : decode cJ6_bitCount_0f7a4 43 = .ok (.bipush 16, 2) := by decide +kernel
theorem dJ6_bitCount_0f7a4_45 : decode cJ6_bitCount_0f7a4 45 = .ok (.iushr, 1) := by decide +kernel
theorem dJ6_bitCount_0f7a4_46 : decode cJ6_bitCount_0f7a4 46 = .ok (.iadd, 1) := by decide +kernel
theorem dJ6_bitCount_0f7a4_47 : decode cJ6_bitCount_0f7a4 47 = .ok (.istore_n 0, 1) := by decide +kernel
theorem dJ6_bitCount_0f7a4_48 : decode cJ6_bitCount_0f7a4 48 = .ok (.iload_n 0, 1) := by decide +kernel
theorem dJ6_bitCount_0f7a4_49 : decode cJ6_bitCount_0f7a4 49 = .ok (.bipush 63, 2) := by decide +kernel
theorem dJ6_bitCount_0f7a4_51 : decode cJ6_bitCount_0f7a4 51 = .ok (.iand, 1) := by decide +kernel
theorem dJ6_bitCount_0f7a4_52 : decode cJ6_bitCount_0f7a4 52 = .ok (.ireturn, 1) := by decide +kernel
theorem dJ9_min_7cf53_0 : decode cJ9_min_7cf53 0 = .ok (.iload_n 0, 1) := by decide +kernel
theorem dJ9_min_7cf53_1 : decode cJ9_min_7cf53 1 = .ok (.iload_n 1, 1) := by decide +kernel
theorem dJ9_min_7cf53_2 : decode cJ9_min_7cf53 2 = .ok (.if_icmp .gt 7, 3) := by decide +kernel
theorem dJ9_min_7cf53_5 : decode cJ9_min_7cf53 5 = .ok (.iload_n 0, 1) := by decide +kernel
theorem dJ9_min_7cf53_6 : decode cJ9_min_7cf53 6 = .ok (.goto 4, 3) := by decide +kernel
theorem dJ9_min_7cf53_9 : decode cJ9_min_7cf53 9 = .ok (.iload_n 1, 1) := by decide +kernel
theorem dJ9_min_7cf53_10 : decode cJ9_min_7cf53 10 = .ok (.ireturn, 1) := by decide +kernel
end
section
theorem dX5_init_0 : decode cX5_init 0 = .ok (.aload_n 0, 1) := by decide +kernel
theorem dX5_init_1 : decode cX5_init 1 = .ok (.invokespecial 1, 3) := by decide +kernel
theorem dX5_init_4 : decode cX5_init 4 = .ok (.aload_n 0, 1) := by decide +kernel
theorem dX5_init_5 : decode cX5_init 5 = .ok (.new 7, 3) := by decide +kernel
theorem dX5_init_8 : decode cX5_init 8 = .ok (.dup, 1) := by decide +kernel
theorem dX5_init_9 : decode cX5_init 9 = .ok (.invokespecial 9, 3) := by decide +kernel
theorem dX5_init_12 : decode cX5_init 12 = .ok (.putfield 10, 3) := by decide +kernel
theorem dX5_init_15 : decode cX5_init 15 = .ok (.aload_n 0, 1) := by decide +kernel
theorem dX5_init_16 : decode cX5_init 16 = .ok (.new 16, 3) := by decide +kernel
theorem dX5_init_19 : decode cX5_init 19 = .ok (.dup, 1) := by decide +kernel
theorem dX5_init_20 : decode cX5_init 20 = .ok (.invokespecial 18, 3) := by decide +kernel
theorem dX5_init_23 : decode cX5_init 23 = .ok (.putfield 19, 3) := by decide +kernel
theorem dX5_init_26 : decode cX5_init 26 = .ok (.aload_n 0, 1) := by decide +kernel
theorem dX5_init_27 : decode cX5_init 27 = .ok (.new 23, 3) := by decide +kernel
theorem dX5_init_30 : decode cX5_init 30 = .ok (.dup, 1) := by decide +kernel
theorem dX5_init_31 : decode cX5_init 31 = .ok (.invokespecial 25, 3) := by decide +kernel
theorem dX5_init_34 : decode cX5_init 34 = .ok (.putfield 26, 3) := by decide +kernel
theorem dX5_init_37 : decode cX5_init 37 = .ok (.aload_n 0, 1) := by decide +kernel
theorem dX5_init_38 : decode cX5_init 38 = .ok (.new 30, 3) := by decide +kernel
theorem dX5_init_41 : decode cX5_init 41 = .ok (.dup, 1) := by decide +kernel
theorem dX5_init_42 : decode cX5_init 42 = .ok (.invokespecial 32, 3) := by decide +kernel
theorem dX5_init_45 : decode cX5_init 45 = .ok (.putfield 33, 3) := by decide +kernel
theorem dX5_init_48 : decode cX5_init 48 = .ok (.aload_n 0, 1) := by decide +kernel
theorem dX5_init_49 : decode cX5_init 49 = .ok (.iconst 2, 1) := by decide +kernel
theorem dX5_init_50 : decode cX5_init 50 = .ok (.newarray .boolean, 2) := by decide +kernel
theorem dX5_init_52 : decode cX5_init 52 = .ok (.putfield 37, 3) := by decide +kernel
theorem dX5_init_55 : decode cX5_init 55 = .ok (.aload_n 0, 1) := by decide +kernel
theorem dX5_init_56 : decode cX5_init 56 = .ok (.iconst 2, 1) := by decide +kernel
theorem dX5_init_57 : decode cX5_init 57 = .ok (.newarray .int, 2) := by decide +kernel
theorem dX5_init_59 : decode cX5_init 59 = .ok (.putfield 41, 3) := by decide +kernel
theorem dX5_init_62 : decode cX5_init 62 = .ok (.aload_n 0, 1) := by decide +kernel
theorem dX5_init_63 : decode cX5_init 63 = .ok (.iconst 2, 1) := by decide +kernel
theorem dX5_init_64 : decode cX5_init 64 = .ok (.newarray .int, 2) := by decide +kernel
theorem dX5_init_66 : decode cX5_init 66 = .ok (.putfield 45, 3) := by decide +kernel
theorem dX5_init_69 : decode cX5_init 69 = .ok (.aload_n 0, 1) := by decide +kernel
theorem dX5_init_70 : decode cX5_init 70 = .ok (.iconst 0, 1) := by decide +kernel
theorem dX5_init_71 : decode cX5_init 71 = .ok (.putfield 48, 3) := by decide +kernel
theorem dX5_init_74 : decode cX5_init 74 = .ok (.aload_n 0, 1) := by decide +kernel
theorem dX5_init_75 : decode cX5_init 75 = .ok (.iconst 0, 1) := by decide +kernel
theorem dX5_init_76 : decode cX5_init 76 = .ok (.putfield 52, 3) := by decide +kernel
theorem dX5_init_79 : decode cX5_init 79 = .ok (.aload_n 0, 1) := by decide +kernel
theorem dX5_init_80 : decode cX5_init 80 = .ok (.lconst 0, 1) := by decide +kernel
theorem dX5_init_81 : decode cX5_init 81 = .ok (.putfield 55, 3) := by decide +kernel
theorem dX5_init_84 : decode cX5_init 84 = .ok (.return_, 1) := by decide +kernel
theorem dX5_write_0 : decode cX5_write 0 = .ok (.iload_n 1, 1) := by decide +kernel
theorem dX5_write_1 : decode cX5_write 1 = .ok (.ifCond .lt 10, 3) := by decide +kernel
theorem dX5_write_4 : decode cX5_write 4 = .ok (.iload_n 1, 1) := by decide +kernel
theorem dX5_write_5 : decode cX5_write 5 = .ok (.sipush 255, 3) := by decide +kernel
theorem dX5_write_8 : decode cX5_write 8 = .ok (.if_icmp .le 6, 3) := by decide +kernel
theorem dX5_write_11 : decode cX5_write 11 = .ok (.bipush (-2), 2) := by decide +kernel
theorem dX5_write_13 : decode cX5_write 13 = .ok (.ireturn, 1) := by decide +kernel
theorem dX5_write_14 : decode cX5_write 14 = .ok (.aload_n 0, 1) := by decide +kernel
theorem dX5_write_15 : decode cX5_write 15 = .ok (.getfield 10, 3) := by decide +kernel
theorem dX5_write_18 : decode cX5_write 18 = .ok (.iload_n 1, 1) := by decide +kernel
theorem dX5_write_19 : decode cX5_write 19 = .ok (.invokevirtual 59, 3) := by decide +kernel
theorem dX5_write_22 : decode cX5_write 22 = .ok (.ifCond .eq 13, 3) := by decide +kernel
theorem dX5_write_25 : decode cX5_write 25 = .ok (.aload_n 0, 1) := by decide +kernel
theorem dX5_write_26 : decode cX5_write 26 = .ok (.getfield 10, 3) := by decide +kernel
theorem dX5_write_29 : decode cX5_write 29 = .ok (.getfield 63, 3) := by decide +kernel
theorem dX5_write_32 : decode cX5_write 32 = .ok (.goto 5, 3) := by decide +kernel
theorem dX5_write_35 : decode cX5_write 35 = .ok (.bipush (-4), 2) := by decide +kernel
theorem dX5_write_37 : decode cX5_write 37 = .ok (.ireturn, 1) := by decide +kernel
theorem dX5_wipe_0 : decode cX5_wipe 0 = .ok (.aload_n 0, 1) := by decide +kernel
theorem dX5_wipe_1 : decode cX5_wipe 1 = .ok (.getfield 10, 3) := by decide +kernel
theorem dX5_wipe_4 : decode cX5_wipe 4 = .ok (.getfield 63, 3) := by decide +kernel
theorem dX5_wipe_7 : decode cX5_wipe 7 = .ok (.istore_n 1, 1) := by decide +kernel
theorem dX5_wipe_8 : decode cX5_wipe 8 = .ok (.aload_n 0, 1) := by decide +kernel
theorem dX5_wipe_9 : decode cX5_wipe 9 = .ok (.getfield 10, 3) := by decide +kernel
theorem dX5_wipe_12 : decode cX5_wipe 12 = .ok (.iconst 0, 1) := by decide +kernel
theorem dX5_wipe_13 : decode cX5_wipe 13 = .ok (.putfield 63, 3) := by decide +kernel
theorem dX5_wipe_16 : decode cX5_wipe 16 = .ok (.iload_n 1, 1) := by decide +kernel
theorem dX5_wipe_17 : decode cX5_wipe 17 = .ok (.ireturn, 1) := by decide +kernel
theorem dX5_fault_0 : decode cX5_fault 0 = .ok (.aload_n 0, 1) := by decide +kernel
theorem dX5_fault_1 : decode cX5_fault 1 = .ok (.getfield 10, 3) := by decide +kernel
theorem dX5_fault_4 : decode cX5_fault 4 = .ok (.invokevirtual 66, 3) := by decide +kernel
theorem dX5_fault_7 : decode cX5_fault 7 = .ok (.ireturn, 1) := by decide +kernel
theorem dX5_idea_0 : decode cX5_idea 0 = .ok (.aload_n 0, 1) := by decide +kernel
theorem dX5_idea_1 : decode cX5_idea 1 = .ok (.getfield 10, 3) := by decide +kernel
theorem dX5_idea_4 : decode cX5_idea 4 = .ok (.invokevirtual 66, 3) := by decide +kernel
theorem dX5_idea_7 : decode cX5_idea 7 = .ok (.bipush (-9), 2) := by decide +kernel
theorem dX5_idea_9 : decode cX5_idea 9 = .ok (.if_icmp .eq 6, 3) := by decide +kernel
theorem dX5_idea_12 : decode cX5_idea 12 = .ok (.bipush (-3), 2) := by decide +kernel
theorem dX5_idea_14 : decode cX5_idea 14 = .ok (.ireturn, 1) := by decide +kernel
theorem dX5_idea_15 : decode cX5_idea 15 = .ok (.aload_n 0, 1) := by decide +kernel
theorem dX5_idea_16 : decode cX5_idea 16 = .ok (.getfield 19, 3) := by decide +kernel
theorem dX5_idea_19 : decode cX5_idea 19 = .ok (.aload_n 0, 1) := by decide +kernel
theorem dX5_idea_20 : decode cX5_idea 20 = .ok (.getfield 10, 3) := by decide +kernel
theorem dX5_idea_23 : decode cX5_idea 23 = .ok (.invokevirtual 70, 3) := by decide +kernel
theorem dX5_idea_26 : decode cX5_idea 26 = .ok (.aload_n 0, 1) := by decide +kernel
theorem dX5_idea_27 : decode cX5_idea 27 = .ok (.iconst 0, 1) := by decide +kernel
theorem dX5_idea_28 : decode cX5_idea 28 = .ok (.putfield 48, 3) := by decide +kernel
theorem dX5_idea_31 : decode cX5_idea 31 = .ok (.aload_n 0, 1) := by decide +kernel
theorem dX5_idea_32 : decode cX5_idea 32 = .ok (.iconst 0, 1) := by decide +kernel
theorem dX5_idea_33 : decode cX5_idea 33 = .ok (.putfield 52, 3) := by decide +kernel
theorem dX5_idea_36 : decode cX5_idea 36 = .ok (.aload_n 0, 1) := by decide +kernel
theorem dX5_idea_37 : decode cX5_idea 37 = .ok (.getfield 26, 3) := by decide +kernel
theorem dX5_idea_40 : decode cX5_idea 40 = .ok (.iconst 0, 1) := by decide +kernel
theorem dX5_idea_41 : decode cX5_idea 41 = .ok (.putfield 74, 3) := by decide +kernel
theorem dX5_idea_44 : decode cX5_idea 44 = .ok (.iconst 0, 1) := by decide +kernel
theorem dX5_idea_45 : decode cX5_idea 45 = .ok (.istore_n 1, 1) := by decide +kernel
theorem dX5_idea_46 : decode cX5_idea 46 = .ok (.iload_n 1, 1) := by decide +kernel
theorem dX5_idea_47 : decode cX5_idea 47 = .ok (.aload_n 0, 1) := by decide +kernel
theorem dX5_idea_48 : decode cX5_idea 48 = .ok (.getfield 37, 3) := by decide +kernel
theorem dX5_idea_51 : decode cX5_idea 51 = .ok (.arraylength, 1) := by decide +kernel
theorem dX5_idea_52 : decode cX5_idea 52 = .ok (.if_icmp .ge 16, 3) := by decide +kernel
theorem dX5_idea_55 : decode cX5_idea 55 = .ok (.aload_n 0, 1) := by decide +kernel
theorem dX5_idea_56 : decode cX5_idea 56 = .ok (.getfield 37, 3) := by decide +kernel
theorem dX5_idea_59 : decode cX5_idea 59 = .ok (.iload_n 1, 1) := by decide +kernel
theorem dX5_idea_60 : decode cX5_idea 60 = .ok (.iconst 0, 1) := by decide +kernel
theorem dX5_idea_61 : decode cX5_idea 61 = .ok (.bastore, 1) := by decide +kernel
theorem dX5_idea_62 : decode cX5_idea 62 = .ok (.iinc 1 1, 3) := by decide +kernel
theorem dX5_idea_65 : decode cX5_idea 65 = .ok (.goto (-19), 3) := by decide +kernel
theorem dX5_idea_68 : decode cX5_idea 68 = .ok (.bipush 10, 2) := by decide +kernel
theorem dX5_idea_70 : decode cX5_idea 70 = .ok (.aload_n 0, 1) := by decide +kernel
theorem dX5_idea_71 : decode cX5_idea 71 = .ok (.getfield 19, 3) := by decide +kernel
theorem dX5_idea_74 : decode cX5_idea 74 = .ok (.getfield 77, 3) := by decide +kernel
theorem dX5_idea_77 : decode cX5_idea 77 = .ok (.imul, 1) := by decide +kernel
theorem dX5_idea_78 : decode cX5_idea 78 = .ok (.aload_n 0, 1) := by decide +kernel
theorem dX5_idea_79 : decode cX5_idea 79 = .ok (.getfield 19, 3) := by decide +kernel
theorem dX5_idea_82 : decode cX5_idea 82 = .ok (.getfield 80, 3) := by decide +kernel
theorem dX5_idea_85 : decode cX5_idea 85 = .ok (.iadd, 1) := by decide +kernel
theorem dX5_idea_86 : decode cX5_idea 86 = .ok (.ireturn, 1) := by decide +kernel
theorem dX5_about_0 : decode cX5_about 0 = .ok (.iload_n 1, 1) := by decide +kernel
theorem dX5_about_1 : decode cX5_about 1 = .ok (.tableswitch 143 0 8 #[51, 59, 71, 76, 91, 96, 119, 127, 135], 51) := by decide +kernel
theorem dX5_about_52 : decode cX5_about 52 = .ok (.aload_n 0, 1) := by decide +kernel
theorem dX5_about_53 : decode cX5_about 53 = .ok (.getfield 19, 3) := by decide +kernel
theorem dX5_about_56 : decode cX5_about 56 = .ok (.getfield 80, 3) := by decide +kernel
theorem dX5_about_59 : decode cX5_about 59 = .ok (.ireturn, 1) := by decide +kernel
theorem dX5_about_60 : decode cX5_about 60 = .ok (.aload_n 0, 1) := by decide +kernel
theorem dX5_about_61 : decode cX5_about 61 = .ok (.getfield 19, 3) := by decide +kernel
theorem dX5_about_64 : decode cX5_about 64 = .ok (.aload_n 0, 1) := by decide +kernel
theorem dX5_about_65 : decode cX5_about 65 = .ok (.getfield 48, 3) := by decide +kernel
theorem dX5_about_68 : decode cX5_about 68 = .ok (.invokevirtual 83, 3) := by decide +kernel
theorem dX5_about_71 : decode cX5_about 71 = .ok (.ireturn, 1) := by decide +kernel
theorem dX5_about_72 : decode cX5_about 72 = .ok (.aload_n 0, 1) := by decide +kernel
theorem dX5_about_73 : decode cX5_about 73 = .ok (.invokevirtual 87, 3) := by decide +kernel
theorem dX5_about_76 : decode cX5_about 76 = .ok (.ireturn, 1) := by decide +kernel
theorem dX5_about_77 : decode cX5_about 77 = .ok (.aload_n 0, 1) := by decide +kernel
theorem dX5_about_78 : decode cX5_about 78 = .ok (.getfield 19, 3) := by decide +kernel
theorem dX5_about_81 : decode cX5_about 81 = .ok (.aload_n 0, 1) := by decide +kernel
theorem dX5_about_82 : decode cX5_about 82 = .ok (.getfield 48, 3) := by decide +kernel
theorem dX5_about_85 : decode cX5_about 85 = .ok (.invokestatic 90, 3) := by decide +kernel
theorem dX5_about_88 : decode cX5_about 88 = .ok (.invokevirtual 95, 3) := by decide +kernel
theorem dX5_about_91 : decode cX5_about 91 = .ok (.ireturn, 1) := by decide +kernel
theorem dX5_about_92 : decode cX5_about 92 = .ok (.aload_n 0, 1) := by decide +kernel
theorem dX5_about_93 : decode cX5_about 93 = .ok (.getfield 52, 3) := by decide +kernel
theorem dX5_about_96 : decode cX5_about 96 = .ok (.ireturn, 1) := by decide +kernel
theorem dX5_about_97 : decode cX5_about 97 = .ok (.aload_n 0, 1) := by decide +kernel
theorem dX5_about_98 : decode cX5_about 98 = .ok (.getfield 19, 3) := by decide +kernel
theorem dX5_about_101 : decode cX5_about 101 = .ok (.aload_n 0, 1) := by decide +kernel
theorem dX5_about_102 : decode cX5_about 102 = .ok (.getfield 19, 3) := by decide +kernel
theorem dX5_about_105 : decode cX5_about 105 = .ok (.aload_n 0, 1) := by decide +kernel
theorem dX5_about_106 : decode cX5_about 106 = .ok (.getfield 48, 3) := by decide +kernel
theorem dX5_about_109 : decode cX5_about 109 = .ok (.invokestatic 90, 3) := by decide +kernel
theorem dX5_about_112 : decode cX5_about 112 = .ok (.iconst 0, 1) := by decide +kernel
theorem dX5_about_113 : decode cX5_about 113 = .ok (.invokevirtual 98, 3) := by decide +kernel
theorem dX5_about_116 : decode cX5_about 116 = .ok (.invokevirtual 95, 3) := by decide +kernel
theorem dX5_about_119 : decode cX5_about 119 = .ok (.ireturn, 1) := by decide +kernel
theorem dX5_about_120 : decode cX5_about 120 = .ok (.aload_n 0, 1) := by decide +kernel
theorem dX5_about_121 : decode cX5_about 121 = .ok (.getfield 26, 3) := by decide +kernel
theorem dX5_about_124 : decode cX5_about 124 = .ok (.getfield 74, 3) := by decide +kernel
theorem dX5_about_127 : decode cX5_about 127 = .ok (.ireturn, 1) := by decide +kernel
theorem dX5_about_128 : decode cX5_about 128 = .ok (.aload_n 0, 1) := by decide +kernel
theorem dX5_about_129 : decode cX5_about 129 = .ok (.getfield 33, 3) := by decide +kernel
theorem dX5_about_132 : decode cX5_about 132 = .ok (.getfield 102, 3) := by decide +kernel
theorem dX5_about_135 : decode cX5_about 135 = .ok (.ireturn, 1) := by decide +kernel
theorem dX5_about_136 : decode cX5_about 136 = .ok (.aload_n 0, 1) := by decide +kernel
theorem dX5_about_137 : decode cX5_about 137 = .ok (.getfield 10, 3) := by decide +kernel
theorem dX5_about_140 : decode cX5_about 140 = .ok (.getfield 63, 3) := by decide +kernel
theorem dX5_about_143 : decode cX5_about 143 = .ok (.ireturn, 1) := by decide +kernel
theorem dX5_about_144 : decode cX5_about 144 = .ok (.bipush (-2), 2) := by decide +kernel
theorem dX5_about_146 : decode cX5_about 146 = .ok (.ireturn, 1) := by decide +kernel
theorem dX5_part_0 : decode cX5_part 0 = .ok (.aload_n 0, 1) := by decide +kernel
theorem dX5_part_1 : decode cX5_part 1 = .ok (.getfield 19, 3) := by decide +kernel
theorem dX5_part_4 : decode cX5_part 4 = .ok (.iload_n 1, 1) := by decide +kernel
theorem dX5_part_5 : decode cX5_part 5 = .ok (.invokevirtual 103, 3) := by decide +kernel
theorem dX5_part_8 : decode cX5_part 8 = .ok (.ifCond .ne 5, 3) := by decide +kernel
theorem dX5_part_11 : decode cX5_part 11 = .ok (.iconst (-1), 1) := by decide +kernel
theorem dX5_part_12 : decode cX5_part 12 = .ok (.ireturn, 1) := by decide +kernel
theorem dX5_part_13 : decode cX5_part 13 = .ok (.aload_n 0, 1) := by decide +kernel
theorem dX5_part_14 : decode cX5_part 14 = .ok (.getfield 19, 3) := by decide +kernel
theorem dX5_part_17 : decode cX5_part 17 = .ok (.iload_n 1, 1) := by decide +kernel
theorem dX5_part_18 : decode cX5_part 18 = .ok (.invokevirtual 106, 3) := by decide +kernel
theorem dX5_part_21 : decode cX5_part 21 = .ok (.istore_n 3, 1) := by decide +kernel
theorem dX5_part_22 : decode cX5_part 22 = .ok (.iload_n 2, 1) := by decide +kernel
theorem dX5_part_23 : decode cX5_part 23 = .ok (.tableswitch 64 0 3 #[29, 31, 40, 52], 29) := by decide +kernel
theorem dX5_part_52 : decode cX5_part 52 = .ok (.iload_n 3, 1) := by decide +kernel
theorem dX5_part_53 : decode cX5_part 53 = .ok (.ireturn, 1) := by decide +kernel
theorem dX5_part_54 : decode cX5_part 54 = .ok (.aload_n 0, 1) := by decide +kernel
theorem dX5_part_55 : decode cX5_part 55 = .ok (.getfield 19, 3) := by decide +kernel
theorem dX5_part_58 : decode cX5_part 58 = .ok (.iload_n 1, 1) := by decide +kernel
theorem dX5_part_59 : decode cX5_part 59 = .ok (.invokevirtual 109, 3) := by decide +kernel
theorem dX5_part_62 : decode cX5_part 62 = .ok (.ireturn, 1) := by decide +kernel
theorem dX5_part_63 : decode cX5_part 63 = .ok (.aload_n 0, 1) := by decide +kernel
theorem dX5_part_64 : decode cX5_part 64 = .ok (.getfield 48, 3) := by decide +kernel
theorem dX5_part_67 : decode cX5_part 67 = .ok (.invokestatic 90, 3) := by decide +kernel
theorem dX5_part_70 : decode cX5_part 70 = .ok (.iload_n 3, 1) := by decide +kernel
theorem dX5_part_71 : decode cX5_part 71 = .ok (.ishr, 1) := by decide +kernel
theorem dX5_part_72 : decode cX5_part 72 = .ok (.iconst 1, 1) := by decide +kernel
theorem dX5_part_73 : decode cX5_part 73 = .ok (.iand, 1) := by decide +kernel
theorem dX5_part_74 : decode cX5_part 74 = .ok (.ireturn, 1) := by decide +kernel
theorem dX5_part_75 : decode cX5_part 75 = .ok (.aload_n 0, 1) := by decide +kernel
theorem dX5_part_76 : decode cX5_part 76 = .ok (.getfield 48, 3) := by decide +kernel
theorem dX5_part_79 : decode cX5_part 79 = .ok (.invokestatic 112, 3) := by decide +kernel
theorem dX5_part_82 : decode cX5_part 82 = .ok (.iload_n 3, 1) := by decide +kernel
theorem dX5_part_83 : decode cX5_part 83 = .ok (.ishr, 1) := by decide +kernel
theorem dX5_part_84 : decode cX5_part 84 = .ok (.iconst 1, 1) := by decide +kernel
theorem dX5_part_85 : decode cX5_part 85 = .ok (.iand, 1) := by decide +kernel
theorem dX5_part_86 : decode cX5_part 86 = .ok (.ireturn, 1) := by decide +kernel
theorem dX5_part_87 : decode cX5_part 87 = .ok (.bipush (-2), 2) := by decide +kernel
theorem dX5_part_89 : decode cX5_part 89 = .ok (.ireturn, 1) := by decide +kernel
theorem dX5_column_0 : decode cX5_column 0 = .ok (.iload_n 1, 1) := by decide +kernel
theorem dX5_column_1 : decode cX5_column 1 = .ok (.invokestatic 114, 3) := by decide +kernel
theorem dX5_column_4 : decode cX5_column 4 = .ok (.ifCond .eq 14, 3) := by decide +kernel
theorem dX5_column_7 : decode cX5_column 7 = .ok (.aload_n 0, 1) := by decide +kernel
theorem dX5_column_8 : decode cX5_column 8 = .ok (.getfield 48, 3) := by decide +kernel
theorem dX5_column_11 : decode cX5_column 11 = .ok (.iload_n 1, 1) := by decide +kernel
theorem dX5_column_12 : decode cX5_column 12 = .ok (.invokestatic 117, 3) := by decide +kernel
theorem dX5_column_15 : decode cX5_column 15 = .ok (.goto 4, 3) := by decide +kernel
theorem dX5_column_18 : decode cX5_column 18 = .ok (.iconst (-1), 1) := by decide +kernel
theorem dX5_column_19 : decode cX5_column 19 = .ok (.ireturn, 1) := by decide +kernel
theorem dX5_at_0 : decode cX5_at 0 = .ok (.iload_n 1, 1) := by decide +kernel
theorem dX5_at_1 : decode cX5_at 1 = .ok (.ifCond .lt 20, 3) := by decide +kernel
theorem dX5_at_4 : decode cX5_at 4 = .ok (.iload_n 1, 1) := by decide +kernel
theorem dX5_at_5 : decode cX5_at 5 = .ok (.bipush 16, 2) := by decide +kernel
theorem dX5_at_7 : decode cX5_at 7 = .ok (.if_icmp .ge 14, 3) := by decide +kernel
theorem dX5_at_10 : decode cX5_at 10 = .ok (.aload_n 0, 1) := by decide +kernel
theorem dX5_at_11 : decode cX5_at 11 = .ok (.getfield 19, 3) := by decide +kernel
theorem dX5_at_14 : decode cX5_at 14 = .ok (.iload_n 1, 1) := by decide +kernel
theorem dX5_at_15 : decode cX5_at 15 = .ok (.invokevirtual 120, 3) := by decide +kernel
theorem dX5_at_18 : decode cX5_at 18 = .ok (.goto 4, 3) := by decide +kernel
theorem dX5_at_21 : decode cX5_at 21 = .ok (.iconst (-1), 1) := by decide +kernel
theorem dX5_at_22 : decode cX5_at 22 = .ok (.ireturn, 1) := by decide +kernel
theorem dX5_put_0 : decode cX5_put 0 = .ok (.iload_n 1, 1) := by decide +kernel
theorem dX5_put_1 : decode cX5_put 1 = .ok (.invokestatic 114, 3) := by decide +kernel
theorem dX5_put_4 : decode cX5_put 4 = .ok (.ifCond .ne 5, 3) := by decide +kernel
theorem dX5_put_7 : decode cX5_put 7 = .ok (.iconst (-1), 1) := by decide +kernel
theorem dX5_put_8 : decode cX5_put 8 = .ok (.ireturn, 1) := by decide +kernel
theorem dX5_put_9 : decode cX5_put 9 = .ok (.aload_n 0, 1) := by decide +kernel
theorem dX5_put_10 : decode cX5_put 10 = .ok (.getfield 19, 3) := by decide +kernel
theorem dX5_put_13 : decode cX5_put 13 = .ok (.aload_n 0, 1) := by decide +kernel
theorem dX5_put_14 : decode cX5_put 14 = .ok (.getfield 48, 3) := by decide +kernel
theorem dX5_put_17 : decode cX5_put 17 = .ok (.invokevirtual 83, 3) := by decide +kernel
theorem dX5_put_20 : decode cX5_put 20 = .ok (.ifCond .ne 6, 3) := by decide +kernel
theorem dX5_put_23 : decode cX5_put 23 = .ok (.bipush (-3), 2) := by decide +kernel
theorem dX5_put_25 : decode cX5_put 25 = .ok (.ireturn, 1) := by decide +kernel
theorem dX5_put_26 : decode cX5_put 26 = .ok (.aload_n 0, 1) := by decide +kernel
theorem dX5_put_27 : decode cX5_put 27 = .ok (.getfield 48, 3) := by decide +kernel
theorem dX5_put_30 : decode cX5_put 30 = .ok (.iload_n 1, 1) := by decide +kernel
theorem dX5_put_31 : decode cX5_put 31 = .ok (.invokestatic 117, 3) := by decide +kernel
theorem dX5_put_34 : decode cX5_put 34 = .ok (.iconst 4, 1) := by decide +kernel
theorem dX5_put_35 : decode cX5_put 35 = .ok (.if_icmp .lt 6, 3) := by decide +kernel
theorem dX5_put_38 : decode cX5_put 38 = .ok (.bipush (-4), 2) := by decide +kernel
theorem dX5_put_40 : decode cX5_put 40 = .ok (.ireturn, 1) := by decide +kernel
theorem dX5_put_41 : decode cX5_put 41 = .ok (.aload_n 0, 1) := by decide +kernel
theorem dX5_put_42 : decode cX5_put 42 = .ok (.getfield 26, 3) := by decide +kernel
theorem dX5_put_45 : decode cX5_put 45 = .ok (.aload_n 0, 1) := by decide +kernel
theorem dX5_put_46 : decode cX5_put 46 = .ok (.getfield 48, 3) := by decide +kernel
theorem dX5_put_49 : decode cX5_put 49 = .ok (.aload_n 0, 1) := by decide +kernel
theorem dX5_put_50 : decode cX5_put 50 = .ok (.getfield 52, 3) := by decide +kernel
theorem dX5_put_53 : decode cX5_put 53 = .ok (.invokevirtual 123, 3) := by decide +kernel
theorem dX5_put_56 : decode cX5_put 56 = .ok (.aload_n 0, 1) := by decide +kernel
theorem dX5_put_57 : decode cX5_put 57 = .ok (.aload_n 0, 1) := by decide +kernel
theorem dX5_put_58 : decode cX5_put 58 = .ok (.getfield 19, 3) := by decide +kernel
theorem dX5_put_61 : decode cX5_put 61 = .ok (.aload_n 0, 1) := by decide +kernel
theorem dX5_put_62 : decode cX5_put 62 = .ok (.getfield 48, 3) := by decide +kernel
theorem dX5_put_65 : decode cX5_put 65 = .ok (.iload_n 1, 1) := by decide +kernel
theorem dX5_put_66 : decode cX5_put 66 = .ok (.invokevirtual 127, 3) := by decide +kernel
theorem dX5_put_69 : decode cX5_put 69 = .ok (.putfield 48, 3) := by decide +kernel
theorem dX5_put_72 : decode cX5_put 72 = .ok (.aload_n 0, 1) := by decide +kernel
theorem dX5_put_73 : decode cX5_put 73 = .ok (.getfield 48, 3) := by decide +kernel
theorem dX5_put_76 : decode cX5_put 76 = .ok (.invokestatic 130, 3) := by decide +kernel
theorem dX5_put_79 : decode cX5_put 79 = .ok (.ireturn, 1) := by decide +kernel
theorem dX5_strike_0 : decode cX5_strike 0 = .ok (.iload_n 1, 1) := by decide +kernel
theorem dX5_strike_1 : decode cX5_strike 1 = .ok (.invokestatic 114, 3) := by decide +kernel
theorem dX5_strike_4 : decode cX5_strike 4 = .ok (.ifCond .ne 5, 3) := by decide +kernel
theorem dX5_strike_7 : decode cX5_strike 7 = .ok (.iconst (-1), 1) := by decide +kernel
theorem dX5_strike_8 : decode cX5_strike 8 = .ok (.ireturn, 1) := by decide +kernel
theorem dX5_strike_9 : decode cX5_strike 9 = .ok (.aload_n 0, 1) := by decide +kernel
theorem dX5_strike_10 : decode cX5_strike 10 = .ok (.getfield 19, 3) := by decide +kernel
theorem dX5_strike_13 : decode cX5_strike 13 = .ok (.aload_n 0, 1) := by decide +kernel
theorem dX5_strike_14 : decode cX5_strike 14 = .ok (.getfield 48, 3) := by decide +kernel
theorem dX5_strike_17 : decode cX5_strike 17 = .ok (.iload_n 1, 1) := by decide +kernel
theorem dX5_strike_18 : decode cX5_strike 18 = .ok (.invokevirtual 133, 3) := by decide +kernel
theorem dX5_strike_21 : decode cX5_strike 21 = .ok (.ifCond .ne 6, 3) := by decide +kernel
theorem dX5_strike_24 : decode cX5_strike 24 = .ok (.bipush (-3), 2) := by decide +kernel
theorem dX5_strike_26 : decode cX5_strike 26 = .ok (.ireturn, 1) := by decide +kernel
theorem dX5_strike_27 : decode cX5_strike 27 = .ok (.aload_n 0, 1) := by decide +kernel
theorem dX5_strike_28 : decode cX5_strike 28 = .ok (.getfield 26, 3) := by decide +kernel
theorem dX5_strike_31 : decode cX5_strike 31 = .ok (.aload_n 0, 1) := by decide +kernel
theorem dX5_strike_32 : decode cX5_strike 32 = .ok (.getfield 48, 3) := by decide +kernel
theorem dX5_strike_35 : decode cX5_strike 35 = .ok (.aload_n 0, 1) := by decide +kernel
theorem dX5_strike_36 : decode cX5_strike 36 = .ok (.getfield 52, 3) := by decide +kernel
theorem dX5_strike_39 : decode cX5_strike 39 = .ok (.invokevirtual 123, 3) := by decide +kernel
theorem dX5_strike_42 : decode cX5_strike 42 = .ok (.aload_n 0, 1) := by decide +kernel
theorem dX5_strike_43 : decode cX5_strike 43 = .ok (.getfield 48, 3) := by decide +kernel
theorem dX5_strike_46 : decode cX5_strike 46 = .ok (.invokestatic 130, 3) := by decide +kernel
theorem dX5_strike_49 : decode cX5_strike 49 = .ok (.istore_n 2, 1) := by decide +kernel
theorem dX5_strike_50 : decode cX5_strike 50 = .ok (.aload_n 0, 1) := by decide +kernel
theorem dX5_strike_51 : decode cX5_strike 51 = .ok (.aload_n 0, 1) := by decide +kernel
theorem dX5_strike_52 : decode cX5_strike 52 = .ok (.getfield 19, 3) := by decide +kernel
theorem dX5_strike_55 : decode cX5_strike 55 = .ok (.aload_n 0, 1) := by decide +kernel
theorem dX5_strike_56 : decode cX5_strike 56 = .ok (.getfield 48, 3) := by decide +kernel
theorem dX5_strike_59 : decode cX5_strike 59 = .ok (.iload_n 1, 1) := by decide +kernel
theorem dX5_strike_60 : decode cX5_strike 60 = .ok (.invokevirtual 137, 3) := by decide +kernel
theorem dX5_strike_63 : decode cX5_strike 63 = .ok (.putfield 48, 3) := by decide +kernel
theorem dX5_strike_66 : decode cX5_strike 66 = .ok (.iload_n 2, 1) := by decide +kernel
theorem dX5_strike_67 : decode cX5_strike 67 = .ok (.aload_n 0, 1) := by decide +kernel
theorem dX5_strike_68 : decode cX5_strike 68 = .ok (.getfield 48, 3) := by decide +kernel
theorem dX5_strike_71 : decode cX5_strike 71 = .ok (.invokestatic 130, 3) := by decide +kernel
theorem dX5_strike_74 : decode cX5_strike 74 = .ok (.isub, 1) := by decide +kernel
theorem dX5_strike_75 : decode cX5_strike 75 = .ok (.ireturn, 1) := by decide +kernel
theorem dX5_rain_0 : decode cX5_rain 0 = .ok (.aload_n 0, 1) := by decide +kernel
theorem dX5_rain_1 : decode cX5_rain 1 = .ok (.getfield 26, 3) := by decide +kernel
theorem dX5_rain_4 : decode cX5_rain 4 = .ok (.aload_n 0, 1) := by decide +kernel
theorem dX5_rain_5 : decode cX5_rain 5 = .ok (.getfield 48, 3) := by decide +kernel
theorem dX5_rain_8 : decode cX5_rain 8 = .ok (.aload_n 0, 1) := by decide +kernel
theorem dX5_rain_9 : decode cX5_rain 9 = .ok (.getfield 52, 3) := by decide +kernel
theorem dX5_rain_12 : decode cX5_rain 12 = .ok (.invokevirtual 123, 3) := by decide +kernel
theorem dX5_rain_15 : decode cX5_rain 15 = .ok (.aload_n 0, 1) := by decide +kernel
theorem dX5_rain_16 : decode cX5_rain 16 = .ok (.getfield 48, 3) := by decide +kernel
theorem dX5_rain_19 : decode cX5_rain 19 = .ok (.invokestatic 130, 3) := by decide +kernel
theorem dX5_rain_22 : decode cX5_rain 22 = .ok (.istore_n 1, 1) := by decide +kernel
theorem dX5_rain_23 : decode cX5_rain 23 = .ok (.aload_n 0, 1) := by decide +kernel
theorem dX5_rain_24 : decode cX5_rain 24 = .ok (.aload_n 0, 1) := by decide +kernel
theorem dX5_rain_25 : decode cX5_rain 25 = .ok (.getfield 19, 3) := by decide +kernel
theorem dX5_rain_28 : decode cX5_rain 28 = .ok (.aload_n 0, 1) := by decide +kernel
theorem dX5_rain_29 : decode cX5_rain 29 = .ok (.getfield 48, 3) := by decide +kernel
theorem dX5_rain_32 : decode cX5_rain 32 = .ok (.invokevirtual 140, 3) := by decide +kernel
theorem dX5_rain_35 : decode cX5_rain 35 = .ok (.putfield 48, 3) := by decide +kernel
theorem dX5_rain_38 : decode cX5_rain 38 = .ok (.aload_n 0, 1) := by decide +kernel
theorem dX5_rain_39 : decode cX5_rain 39 = .ok (.dup, 1) := by decide +kernel
theorem dX5_rain_40 : decode cX5_rain 40 = .ok (.getfield 52, 3) := by decide +kernel
theorem dX5_rain_43 : decode cX5_rain 43 = .ok (.iconst 1, 1) := by decide +kernel
theorem dX5_rain_44 : decode cX5_rain 44 = .ok (.iadd, 1) := by decide +kernel
theorem dX5_rain_45 : decode cX5_rain 45 = .ok (.putfield 52, 3) := by decide +kernel
theorem dX5_rain_48 : decode cX5_rain 48 = .ok (.iload_n 1, 1) := by decide +kernel
theorem dX5_rain_49 : decode cX5_rain 49 = .ok (.aload_n 0, 1) := by decide +kernel
theorem dX5_rain_50 : decode cX5_rain 50 = .ok (.getfield 48, 3) := by decide +kernel
theorem dX5_rain_53 : decode cX5_rain 53 = .ok (.invokestatic 130, 3) := by decide +kernel
theorem dX5_rain_56 : decode cX5_rain 56 = .ok (.isub, 1) := by decide +kernel
theorem dX5_rain_57 : decode cX5_rain 57 = .ok (.ireturn, 1) := by decide +kernel
theorem dX5_undo_0 : decode cX5_undo 0 = .ok (.aload_n 0, 1) := by decide +kernel
theorem dX5_undo_1 : decode cX5_undo 1 = .ok (.getfield 26, 3) := by decide +kernel
theorem dX5_undo_4 : decode cX5_undo 4 = .ok (.getfield 74, 3) := by decide +kernel
theorem dX5_undo_7 : decode cX5_undo 7 = .ok (.ifCond .ne 6, 3) := by decide +kernel
theorem dX5_undo_10 : decode cX5_undo 10 = .ok (.bipush (-3), 2) := by decide +kernel
theorem dX5_undo_12 : decode cX5_undo 12 = .ok (.ireturn, 1) := by decide +kernel
theorem dX5_undo_13 : decode cX5_undo 13 = .ok (.aload_n 0, 1) := by decide +kernel
theorem dX5_undo_14 : decode cX5_undo 14 = .ok (.aload_n 0, 1) := by decide +kernel
theorem dX5_undo_15 : decode cX5_undo 15 = .ok (.getfield 26, 3) := by decide +kernel
theorem dX5_undo_18 : decode cX5_undo 18 = .ok (.invokevirtual 143, 3) := by decide +kernel
theorem dX5_undo_21 : decode cX5_undo 21 = .ok (.putfield 48, 3) := by decide +kernel
theorem dX5_undo_24 : decode cX5_undo 24 = .ok (.aload_n 0, 1) := by decide +kernel
theorem dX5_undo_25 : decode cX5_undo 25 = .ok (.aload_n 0, 1) := by decide +kernel
theorem dX5_undo_26 : decode cX5_undo 26 = .ok (.getfield 26, 3) := by decide +kernel
theorem dX5_undo_29 : decode cX5_undo 29 = .ok (.invokevirtual 146, 3) := by decide +kernel
theorem dX5_undo_32 : decode cX5_undo 32 = .ok (.putfield 52, 3) := by decide +kernel
theorem dX5_undo_35 : decode cX5_undo 35 = .ok (.aload_n 0, 1) := by decide +kernel
theorem dX5_undo_36 : decode cX5_undo 36 = .ok (.getfield 26, 3) := by decide +kernel
theorem dX5_undo_39 : decode cX5_undo 39 = .ok (.dup, 1) := by decide +kernel
theorem dX5_undo_40 : decode cX5_undo 40 = .ok (.getfield 74, 3) := by decide +kernel
theorem dX5_undo_43 : decode cX5_undo 43 = .ok (.iconst 1, 1) := by decide +kernel
theorem dX5_undo_44 : decode cX5_undo 44 = .ok (.isub, 1) := by decide +kernel
theorem dX5_undo_45 : decode cX5_undo 45 = .ok (.putfield 74, 3) := by decide +kernel
theorem dX5_undo_48 : decode cX5_undo 48 = .ok (.aload_n 0, 1) := by decide +kernel
theorem dX5_undo_49 : decode cX5_undo 49 = .ok (.getfield 26, 3) := by decide +kernel
theorem dX5_undo_52 : decode cX5_undo 52 = .ok (.getfield 74, 3) := by decide +kernel
theorem dX5_undo_55 : decode cX5_undo 55 = .ok (.ireturn, 1) := by decide +kernel
theorem dX5_loses_0 : decode cX5_loses 0 = .ok (.iload_n 1, 1) := by decide +kernel
theorem dX5_loses_1 : decode cX5_loses 1 = .ok (.invokestatic 114, 3) := by decide +kernel
theorem dX5_loses_4 : decode cX5_loses 4 = .ok (.ifCond .ne 5, 3) := by decide +kernel
theorem dX5_loses_7 : decode cX5_loses 7 = .ok (.iconst (-1), 1) := by decide +kernel
theorem dX5_loses_8 : decode cX5_loses 8 = .ok (.ireturn, 1) := by decide +kernel
theorem dX5_loses_9 : decode cX5_loses 9 = .ok (.aload_n 0, 1) := by decide +kernel
theorem dX5_loses_10 : decode cX5_loses 10 = .ok (.getfield 19, 3) := by decide +kernel
theorem dX5_loses_13 : decode cX5_loses 13 = .ok (.aload_n 0, 1) := by decide +kernel
theorem dX5_loses_14 : decode cX5_loses 14 = .ok (.getfield 48, 3) := by decide +kernel
theorem dX5_loses_17 : decode cX5_loses 17 = .ok (.iload_n 1, 1) := by decide +kernel
theorem dX5_loses_18 : decode cX5_loses 18 = .ok (.invokevirtual 133, 3) := by decide +kernel
theorem dX5_loses_21 : decode cX5_loses 21 = .ok (.ifCond .ne 6, 3) := by decide +kernel
theorem dX5_loses_24 : decode cX5_loses 24 = .ok (.bipush (-3), 2) := by decide +kernel
theorem dX5_loses_26 : decode cX5_loses 26 = .ok (.ireturn, 1) := by decide +kernel
theorem dX5_loses_27 : decode cX5_loses 27 = .ok (.aload_n 0, 1) := by decide +kernel
theorem dX5_loses_28 : decode cX5_loses 28 = .ok (.getfield 19, 3) := by decide +kernel
theorem dX5_loses_31 : decode cX5_loses 31 = .ok (.aload_n 0, 1) := by decide +kernel
theorem dX5_loses_32 : decode cX5_loses 32 = .ok (.getfield 48, 3) := by decide +kernel
theorem dX5_loses_35 : decode cX5_loses 35 = .ok (.iload_n 1, 1) := by decide +kernel
theorem dX5_loses_36 : decode cX5_loses 36 = .ok (.invokevirtual 137, 3) := by decide +kernel
theorem dX5_loses_39 : decode cX5_loses 39 = .ok (.istore_n 2, 1) := by decide +kernel
theorem dX5_loses_40 : decode cX5_loses 40 = .ok (.aload_n 0, 1) := by decide +kernel
theorem dX5_loses_41 : decode cX5_loses 41 = .ok (.getfield 19, 3) := by decide +kernel
theorem dX5_loses_44 : decode cX5_loses 44 = .ok (.aload_n 0, 1) := by decide +kernel
theorem dX5_loses_45 : decode cX5_loses 45 = .ok (.getfield 48, 3) := by decide +kernel
theorem dX5_loses_48 : decode cX5_loses 48 = .ok (.invokestatic 90, 3) := by decide +kernel
theorem dX5_loses_51 : decode cX5_loses 51 = .ok (.iload_n 2, 1) := by decide +kernel
theorem dX5_loses_52 : decode cX5_loses 52 = .ok (.invokestatic 90, 3) := by decide +kernel
theorem dX5_loses_55 : decode cX5_loses 55 = .ok (.iconst (-1), 1) := by decide +kernel
theorem dX5_loses_56 : decode cX5_loses 56 = .ok (.ixor, 1) := by decide +kernel
theorem dX5_loses_57 : decode cX5_loses 57 = .ok (.iand, 1) := by decide +kernel
theorem dX5_loses_58 : decode cX5_loses 58 = .ok (.invokevirtual 95, 3) := by decide +kernel
theorem dX5_loses_61 : decode cX5_loses 61 = .ok (.ireturn, 1) := by decide +kernel
theorem dX5_down_0 : decode cX5_down 0 = .ok (.iload_n 1, 1) := by decide +kernel
theorem dX5_down_1 : decode cX5_down 1 = .ok (.invokestatic 114, 3) := by decide +kernel
theorem dX5_down_4 : decode cX5_down 4 = .ok (.ifCond .ne 5, 3) := by decide +kernel
theorem dX5_down_7 : decode cX5_down 7 = .ok (.iconst (-1), 1) := by decide +kernel
theorem dX5_down_8 : decode cX5_down 8 = .ok (.ireturn, 1) := by decide +kernel
theorem dX5_down_9 : decode cX5_down 9 = .ok (.aload_n 0, 1) := by decide +kernel
theorem dX5_down_10 : decode cX5_down 10 = .ok (.getfield 48, 3) := by decide +kernel
theorem dX5_down_13 : decode cX5_down 13 = .ok (.istore_n 2, 1) := by decide +kernel
theorem dX5_down_14 : decode cX5_down 14 = .ok (.iconst 0, 1) := by decide +kernel
theorem dX5_down_15 : decode cX5_down 15 = .ok (.istore_n 3, 1) := by decide +kernel
theorem dX5_down_16 : decode cX5_down 16 = .ok (.iload_n 3, 1) := by decide +kernel
theorem dX5_down_17 : decode cX5_down 17 = .ok (.iconst 4, 1) := by decide +kernel
theorem dX5_down_18 : decode cX5_down 18 = .ok (.if_icmp .ge 53, 3) := by decide +kernel
theorem dX5_down_21 : decode cX5_down 21 = .ok (.aload_n 0, 1) := by decide +kernel
theorem dX5_down_22 : decode cX5_down 22 = .ok (.getfield 19, 3) := by decide +kernel
theorem dX5_down_25 : decode cX5_down 25 = .ok (.iload_n 2, 1) := by decide +kernel
theorem dX5_down_26 : decode cX5_down 26 = .ok (.iload_n 1, 1) := by decide +kernel
theorem dX5_down_27 : decode cX5_down 27 = .ok (.invokevirtual 133, 3) := by decide +kernel
theorem dX5_down_30 : decode cX5_down 30 = .ok (.ifCond .eq 41, 3) := by decide +kernel
theorem dX5_down_33 : decode cX5_down 33 = .ok (.aload_n 0, 1) := by decide +kernel
theorem dX5_down_34 : decode cX5_down 34 = .ok (.getfield 19, 3) := by decide +kernel
theorem dX5_down_37 : decode cX5_down 37 = .ok (.iload_n 2, 1) := by decide +kernel
theorem dX5_down_38 : decode cX5_down 38 = .ok (.iload_n 1, 1) := by decide +kernel
theorem dX5_down_39 : decode cX5_down 39 = .ok (.invokevirtual 137, 3) := by decide +kernel
theorem dX5_down_42 : decode cX5_down 42 = .ok (.istore 4, 2) := by decide +kernel
theorem dX5_down_44 : decode cX5_down 44 = .ok (.iload 4, 2) := by decide +kernel
theorem dX5_down_46 : decode cX5_down 46 = .ok (.invokestatic 90, 3) := by decide +kernel
theorem dX5_down_49 : decode cX5_down 49 = .ok (.aload_n 0, 1) := by decide +kernel
theorem dX5_down_50 : decode cX5_down 50 = .ok (.getfield 48, 3) := by decide +kernel
theorem dX5_down_53 : decode cX5_down 53 = .ok (.invokestatic 90, 3) := by decide +kernel
theorem dX5_down_56 : decode cX5_down 56 = .ok (.if_icmp .eq 6, 3) := by decide +kernel
theorem dX5_down_59 : decode cX5_down 59 = .ok (.goto 12, 3) := by decide +kernel
theorem dX5_down_62 : decode cX5_down 62 = .ok (.iload 4, 2) := by decide +kernel
theorem dX5_down_64 : decode cX5_down 64 = .ok (.istore_n 2, 1) := by decide +kernel
theorem dX5_down_65 : decode cX5_down 65 = .ok (.iinc 3 1, 3) := by decide +kernel
theorem dX5_down_68 : decode cX5_down 68 = .ok (.goto (-52), 3) := by decide +kernel
theorem dX5_down_71 : decode cX5_down 71 = .ok (.iload_n 2, 1) := by decide +kernel
theorem dX5_down_72 : decode cX5_down 72 = .ok (.iload_n 1, 1) := by decide +kernel
theorem dX5_down_73 : decode cX5_down 73 = .ok (.invokestatic 117, 3) := by decide +kernel
theorem dX5_down_76 : decode cX5_down 76 = .ok (.ireturn, 1) := by decide +kernel
theorem dX5_soon_0 : decode cX5_soon 0 = .ok (.iload_n 1, 1) := by decide +kernel
theorem dX5_soon_1 : decode cX5_soon 1 = .ok (.ifCond .lt 23, 3) := by decide +kernel
theorem dX5_soon_4 : decode cX5_soon 4 = .ok (.iload_n 1, 1) := by decide +kernel
theorem dX5_soon_5 : decode cX5_soon 5 = .ok (.iconst 1, 1) := by decide +kernel
theorem dX5_soon_6 : decode cX5_soon 6 = .ok (.aload_n 0, 1) := by decide +kernel
theorem dX5_soon_7 : decode cX5_soon 7 = .ok (.getfield 19, 3) := by decide +kernel
theorem dX5_soon_10 : decode cX5_soon 10 = .ok (.getfield 80, 3) := by decide +kernel
theorem dX5_soon_13 : decode cX5_soon 13 = .ok (.ishl, 1) := by decide +kernel
theorem dX5_soon_14 : decode cX5_soon 14 = .ok (.if_icmp .ge 10, 3) := by decide +kernel
theorem dX5_soon_17 : decode cX5_soon 17 = .ok (.iload_n 2, 1) := by decide +kernel
theorem dX5_soon_18 : decode cX5_soon 18 = .ok (.invokestatic 149, 3) := by decide +kernel
theorem dX5_soon_21 : decode cX5_soon 21 = .ok (.ifCond .ne 6, 3) := by decide +kernel
theorem dX5_soon_24 : decode cX5_soon 24 = .ok (.bipush (-2), 2) := by decide +kernel
theorem dX5_soon_26 : decode cX5_soon 26 = .ok (.ireturn, 1) := by decide +kernel
theorem dX5_soon_27 : decode cX5_soon 27 = .ok (.aload_n 0, 1) := by decide +kernel
theorem dX5_soon_28 : decode cX5_soon 28 = .ok (.getfield 19, 3) := by decide +kernel
theorem dX5_soon_31 : decode cX5_soon 31 = .ok (.iload_n 1, 1) := by decide +kernel
theorem dX5_soon_32 : decode cX5_soon 32 = .ok (.invokevirtual 152, 3) := by decide +kernel
theorem dX5_soon_35 : decode cX5_soon 35 = .ok (.istore_n 3, 1) := by decide +kernel
theorem dX5_soon_36 : decode cX5_soon 36 = .ok (.iconst 0, 1) := by decide +kernel
theorem dX5_soon_37 : decode cX5_soon 37 = .ok (.istore 4, 2) := by decide +kernel
theorem dX5_soon_39 : decode cX5_soon 39 = .ok (.iload 4, 2) := by decide +kernel
theorem dX5_soon_41 : decode cX5_soon 41 = .ok (.iconst 4, 1) := by decide +kernel
theorem dX5_soon_42 : decode cX5_soon 42 = .ok (.if_icmp .gt 44, 3) := by decide +kernel
theorem dX5_soon_45 : decode cX5_soon 45 = .ok (.aload_n 0, 1) := by decide +kernel
theorem dX5_soon_46 : decode cX5_soon 46 = .ok (.getfield 19, 3) := by decide +kernel
theorem dX5_soon_49 : decode cX5_soon 49 = .ok (.aload_n 0, 1) := by decide +kernel
theorem dX5_soon_50 : decode cX5_soon 50 = .ok (.getfield 48, 3) := by decide +kernel
theorem dX5_soon_53 : decode cX5_soon 53 = .ok (.iload_n 3, 1) := by decide +kernel
theorem dX5_soon_54 : decode cX5_soon 54 = .ok (.iload 4, 2) := by decide +kernel
theorem dX5_soon_56 : decode cX5_soon 56 = .ok (.invokestatic 155, 3) := by decide +kernel
theorem dX5_soon_59 : decode cX5_soon 59 = .ok (.istore 5, 2) := by decide +kernel
theorem dX5_soon_61 : decode cX5_soon 61 = .ok (.iload 5, 2) := by decide +kernel
theorem dX5_soon_63 : decode cX5_soon 63 = .ok (.bipush (-9), 2) := by decide +kernel
theorem dX5_soon_65 : decode cX5_soon 65 = .ok (.if_icmp .eq 15, 3) := by decide +kernel
theorem dX5_soon_68 : decode cX5_soon 68 = .ok (.iload_n 2, 1) := by decide +kernel
theorem dX5_soon_69 : decode cX5_soon 69 = .ok (.ifCond .ne 8, 3) := by decide +kernel
theorem dX5_soon_72 : decode cX5_soon 72 = .ok (.iload 4, 2) := by decide +kernel
theorem dX5_soon_74 : decode cX5_soon 74 = .ok (.goto 5, 3) := by decide +kernel
theorem dX5_soon_77 : decode cX5_soon 77 = .ok (.iload 5, 2) := by decide +kernel
theorem dX5_soon_79 : decode cX5_soon 79 = .ok (.ireturn, 1) := by decide +kernel
theorem dX5_soon_80 : decode cX5_soon 80 = .ok (.iinc 4 1, 3) := by decide +kernel
theorem dX5_soon_83 : decode cX5_soon 83 = .ok (.goto (-44), 3) := by decide +kernel
theorem dX5_soon_86 : decode cX5_soon 86 = .ok (.bipush (-9), 2) := by decide +kernel
theorem dX5_soon_88 : decode cX5_soon 88 = .ok (.ireturn, 1) := by decide +kernel
theorem dX5_judge_0 : decode cX5_judge 0 = .ok (.iload_n 1, 1) := by decide +kernel
theorem dX5_judge_1 : decode cX5_judge 1 = .ok (.iconst 1, 1) := by decide +kernel
theorem dX5_judge_2 : decode cX5_judge 2 = .ok (.if_icmp .lt 25, 3) := by decide +kernel
theorem dX5_judge_5 : decode cX5_judge 5 = .ok (.iload_n 1, 1) := by decide +kernel
theorem dX5_judge_6 : decode cX5_judge 6 = .ok (.iconst 4, 1) := by decide +kernel
theorem dX5_judge_7 : decode cX5_judge 7 = .ok (.if_icmp .gt 20, 3) := by decide +kernel
theorem dX5_judge_10 : decode cX5_judge 10 = .ok (.lload_n 2, 1) := by decide +kernel
theorem dX5_judge_11 : decode cX5_judge 11 = .ok (.lconst 0, 1) := by decide +kernel
theorem dX5_judge_12 : decode cX5_judge 12 = .ok (.lcmp, 1) := by decide +kernel
theorem dX5_judge_13 : decode cX5_judge 13 = .ok (.ifCond .lt 14, 3) := by decide +kernel
theorem dX5_judge_16 : decode cX5_judge 16 = .ok (.lload_n 2, 1) := by decide +kernel
theorem dX5_judge_17 : decode cX5_judge 17 = .ok (.iconst 3, 1) := by decide +kernel
theorem dX5_judge_18 : decode cX5_judge 18 = .ok (.iload_n 1, 1) := by decide +kernel
theorem dX5_judge_19 : decode cX5_judge 19 = .ok (.imul, 1) := by decide +kernel
theorem dX5_judge_20 : decode cX5_judge 20 = .ok (.invokestatic 159, 3) := by decide +kernel
theorem dX5_judge_23 : decode cX5_judge 23 = .ok (.lcmp, 1) := by decide +kernel
theorem dX5_judge_24 : decode cX5_judge 24 = .ok (.ifCond .lt 6, 3) := by decide +kernel
theorem dX5_judge_27 : decode cX5_judge 27 = .ok (.bipush (-2), 2) := by decide +kernel
theorem dX5_judge_29 : decode cX5_judge 29 = .ok (.ireturn, 1) := by decide +kernel
theorem dX5_judge_30 : decode cX5_judge 30 = .ok (.aload_n 0, 1) := by decide +kernel
theorem dX5_judge_31 : decode cX5_judge 31 = .ok (.getfield 48, 3) := by decide +kernel
theorem dX5_judge_34 : decode cX5_judge 34 = .ok (.istore 4, 2) := by decide +kernel
theorem dX5_judge_36 : decode cX5_judge 36 = .ok (.iconst 0, 1) := by decide +kernel
theorem dX5_judge_37 : decode cX5_judge 37 = .ok (.istore 5, 2) := by decide +kernel
theorem dX5_judge_39 : decode cX5_judge 39 = .ok (.iload 5, 2) := by decide +kernel
theorem dX5_judge_41 : decode cX5_judge 41 = .ok (.iload_n 1, 1) := by decide +kernel
theorem dX5_judge_42 : decode cX5_judge 42 = .ok (.if_icmp .ge 45, 3) := by decide +kernel
theorem dX5_judge_45 : decode cX5_judge 45 = .ok (.lload_n 2, 1) := by decide +kernel
theorem dX5_judge_46 : decode cX5_judge 46 = .ok (.iload_n 1, 1) := by decide +kernel
theorem dX5_judge_47 : decode cX5_judge 47 = .ok (.iconst 1, 1) := by decide +kernel
theorem dX5_judge_48 : decode cX5_judge 48 = .ok (.isub, 1) := by decide +kernel
theorem dX5_judge_49 : decode cX5_judge 49 = .ok (.iload 5, 2) := by decide +kernel
theorem dX5_judge_51 : decode cX5_judge 51 = .ok (.isub, 1) := by decide +kernel
theorem dX5_judge_52 : decode cX5_judge 52 = .ok (.invokestatic 163, 3) := by decide +kernel
theorem dX5_judge_55 : decode cX5_judge 55 = .ok (.istore 6, 2) := by decide +kernel
theorem dX5_judge_57 : decode cX5_judge 57 = .ok (.aload_n 0, 1) := by decide +kernel
theorem dX5_judge_58 : decode cX5_judge 58 = .ok (.iload 4, 2) := by decide +kernel
theorem dX5_judge_60 : decode cX5_judge 60 = .ok (.iload 6, 2) := by decide +kernel
theorem dX5_judge_62 : decode cX5_judge 62 = .ok (.invokevirtual 167, 3) := by decide +kernel
theorem dX5_judge_65 : decode cX5_judge 65 = .ok (.ifCond .ne 6, 3) := by decide +kernel
theorem dX5_judge_68 : decode cX5_judge 68 = .ok (.iload 5, 2) := by decide +kernel
theorem dX5_judge_70 : decode cX5_judge 70 = .ok (.ireturn, 1) := by decide +kernel
theorem dX5_judge_71 : decode cX5_judge 71 = .ok (.aload_n 0, 1) := by decide +kernel
theorem dX5_judge_72 : decode cX5_judge 72 = .ok (.iload 4, 2) := by decide +kernel
theorem dX5_judge_74 : decode cX5_judge 74 = .ok (.iload 6, 2) := by decide +kernel
theorem dX5_judge_76 : decode cX5_judge 76 = .ok (.invokevirtual 170, 3) := by decide +kernel
theorem dX5_judge_79 : decode cX5_judge 79 = .ok (.istore 4, 2) := by decide +kernel
theorem dX5_judge_81 : decode cX5_judge 81 = .ok (.iinc 5 1, 3) := by decide +kernel
theorem dX5_judge_84 : decode cX5_judge 84 = .ok (.goto (-45), 3) := by decide +kernel
theorem dX5_judge_87 : decode cX5_judge 87 = .ok (.bipush (-9), 2) := by decide +kernel
theorem dX5_judge_89 : decode cX5_judge 89 = .ok (.ireturn, 1) := by decide +kernel
theorem dX5_share_0 : decode cX5_share 0 = .ok (.aload_n 0, 1) := by decide +kernel
theorem dX5_share_1 : decode cX5_share 1 = .ok (.getfield 19, 3) := by decide +kernel
theorem dX5_share_4 : decode cX5_share 4 = .ok (.iload_n 1, 1) := by decide +kernel
theorem dX5_share_5 : decode cX5_share 5 = .ok (.invokevirtual 103, 3) := by decide +kernel
theorem dX5_share_8 : decode cX5_share 8 = .ok (.ifCond .ne 5, 3) := by decide +kernel
theorem dX5_share_11 : decode cX5_share 11 = .ok (.iconst (-1), 1) := by decide +kernel
theorem dX5_share_12 : decode cX5_share 12 = .ok (.ireturn, 1) := by decide +kernel
theorem dX5_share_13 : decode cX5_share 13 = .ok (.iconst 1, 1) := by decide +kernel
theorem dX5_share_14 : decode cX5_share 14 = .ok (.iload_n 1, 1) := by decide +kernel
theorem dX5_share_15 : decode cX5_share 15 = .ok (.ishl, 1) := by decide +kernel
theorem dX5_share_16 : decode cX5_share 16 = .ok (.istore_n 3, 1) := by decide +kernel
theorem dX5_share_17 : decode cX5_share 17 = .ok (.iconst 0, 1) := by decide +kernel
theorem dX5_share_18 : decode cX5_share 18 = .ok (.istore 4, 2) := by decide +kernel
theorem dX5_share_20 : decode cX5_share 20 = .ok (.iconst 0, 1) := by decide +kernel
theorem dX5_share_21 : decode cX5_share 21 = .ok (.istore 5, 2) := by decide +kernel
theorem dX5_share_23 : decode cX5_share 23 = .ok (.iload 5, 2) := by decide +kernel
theorem dX5_share_25 : decode cX5_share 25 = .ok (.iconst 1, 1) := by decide +kernel
theorem dX5_share_26 : decode cX5_share 26 = .ok (.aload_n 0, 1) := by decide +kernel
theorem dX5_share_27 : decode cX5_share 27 = .ok (.getfield 19, 3) := by decide +kernel
theorem dX5_share_30 : decode cX5_share 30 = .ok (.getfield 80, 3) := by decide +kernel
theorem dX5_share_33 : decode cX5_share 33 = .ok (.ishl, 1) := by decide +kernel
theorem dX5_share_34 : decode cX5_share 34 = .ok (.if_icmp .ge 56, 3) := by decide +kernel
theorem dX5_share_37 : decode cX5_share 37 = .ok (.iload 5, 2) := by decide +kernel
theorem dX5_share_39 : decode cX5_share 39 = .ok (.iload_n 3, 1) := by decide +kernel
theorem dX5_share_40 : decode cX5_share 40 = .ok (.iand, 1) := by decide +kernel
theorem dX5_share_41 : decode cX5_share 41 = .ok (.ifCond .ne 43, 3) := by decide +kernel
theorem dX5_share_44 : decode cX5_share 44 = .ok (.aload_n 0, 1) := by decide +kernel
theorem dX5_share_45 : decode cX5_share 45 = .ok (.getfield 19, 3) := by decide +kernel
theorem dX5_share_48 : decode cX5_share 48 = .ok (.iload 5, 2) := by decide +kernel
theorem dX5_share_50 : decode cX5_share 50 = .ok (.iload_n 3, 1) := by decide +kernel
theorem dX5_share_51 : decode cX5_share 51 = .ok (.ior, 1) := by decide +kernel
theorem dX5_share_52 : decode cX5_share 52 = .ok (.invokevirtual 173, 3) := by decide +kernel
theorem dX5_share_55 : decode cX5_share 55 = .ok (.aload_n 0, 1) := by decide +kernel
theorem dX5_share_56 : decode cX5_share 56 = .ok (.getfield 19, 3) := by decide +kernel
theorem dX5_share_59 : decode cX5_share 59 = .ok (.iload 5, 2) := by decide +kernel
theorem dX5_share_61 : decode cX5_share 61 = .ok (.invokevirtual 173, 3) := by decide +kernel
theorem dX5_share_64 : decode cX5_share 64 = .ok (.isub, 1) := by decide +kernel
theorem dX5_share_65 : decode cX5_share 65 = .ok (.istore 6, 2) := by decide +kernel
theorem dX5_share_67 : decode cX5_share 67 = .ok (.iload 4, 2) := by decide +kernel
theorem dX5_share_69 : decode cX5_share 69 = .ok (.iload 6, 2) := by decide +kernel
theorem dX5_share_71 : decode cX5_share 71 = .ok (.aload_n 0, 1) := by decide +kernel
theorem dX5_share_72 : decode cX5_share 72 = .ok (.iload 5, 2) := by decide +kernel
theorem dX5_share_74 : decode cX5_share 74 = .ok (.invokestatic 176, 3) := by decide +kernel
theorem dX5_share_77 : decode cX5_share 77 = .ok (.invokevirtual 181, 3) := by decide +kernel
theorem dX5_share_80 : decode cX5_share 80 = .ok (.imul, 1) := by decide +kernel
theorem dX5_share_81 : decode cX5_share 81 = .ok (.iadd, 1) := by decide +kernel
theorem dX5_share_82 : decode cX5_share 82 = .ok (.istore 4, 2) := by decide +kernel
theorem dX5_share_84 : decode cX5_share 84 = .ok (.iinc 5 1, 3) := by decide +kernel
theorem dX5_share_87 : decode cX5_share 87 = .ok (.goto (-64), 3) := by decide +kernel
theorem dX5_share_90 : decode cX5_share 90 = .ok (.iload 4, 2) := by decide +kernel
theorem dX5_share_92 : decode cX5_share 92 = .ok (.aload_n 0, 1) := by decide +kernel
theorem dX5_share_93 : decode cX5_share 93 = .ok (.getfield 19, 3) := by decide +kernel
theorem dX5_share_96 : decode cX5_share 96 = .ok (.getfield 80, 3) := by decide +kernel
theorem dX5_share_99 : decode cX5_share 99 = .ok (.invokestatic 184, 3) := by decide +kernel
theorem dX5_share_102 : decode cX5_share 102 = .ok (.iload_n 2, 1) := by decide +kernel
theorem dX5_share_103 : decode cX5_share 103 = .ok (.invokestatic 187, 3) := by decide +kernel
theorem dX5_share_106 : decode cX5_share 106 = .ok (.ireturn, 1) := by decide +kernel
theorem dX5_attempt_0 : decode cX5_attempt 0 = .ok (.iload_n 1, 1) := by decide +kernel
theorem dX5_attempt_1 : decode cX5_attempt 1 = .ok (.ifCond .lt 18, 3) := by decide +kernel
theorem dX5_attempt_4 : decode cX5_attempt 4 = .ok (.iload_n 1, 1) := by decide +kernel
theorem dX5_attempt_5 : decode cX5_attempt 5 = .ok (.bipush 31, 2) := by decide +kernel
theorem dX5_attempt_7 : decode cX5_attempt 7 = .ok (.if_icmp .gt 12, 3) := by decide +kernel
theorem dX5_attempt_10 : decode cX5_attempt 10 = .ok (.iload_n 2, 1) := by decide +kernel
theorem dX5_attempt_11 : decode cX5_attempt 11 = .ok (.ifCond .lt 8, 3) := by decide +kernel
theorem dX5_attempt_14 : decode cX5_attempt 14 = .ok (.iload_n 2, 1) := by decide +kernel
theorem dX5_attempt_15 : decode cX5_attempt 15 = .ok (.iconst 1, 1) := by decide +kernel
theorem dX5_attempt_16 : decode cX5_attempt 16 = .ok (.if_icmp .le 6, 3) := by decide +kernel
theorem dX5_attempt_19 : decode cX5_attempt 19 = .ok (.bipush (-2), 2) := by decide +kernel
theorem dX5_attempt_21 : decode cX5_attempt 21 = .ok (.ireturn, 1) := by decide +kernel
theorem dX5_attempt_22 : decode cX5_attempt 22 = .ok (.aload_n 0, 1) := by decide +kernel
theorem dX5_attempt_23 : decode cX5_attempt 23 = .ok (.getfield 33, 3) := by decide +kernel
theorem dX5_attempt_26 : decode cX5_attempt 26 = .ok (.iload_n 1, 1) := by decide +kernel
theorem dX5_attempt_27 : decode cX5_attempt 27 = .ok (.iload_n 2, 1) := by decide +kernel
theorem dX5_attempt_28 : decode cX5_attempt 28 = .ok (.iconst 1, 1) := by decide +kernel
theorem dX5_attempt_29 : decode cX5_attempt 29 = .ok (.if_icmp .ne 7, 3) := by decide +kernel
theorem dX5_attempt_32 : decode cX5_attempt 32 = .ok (.iconst 1, 1) := by decide +kernel
theorem dX5_attempt_33 : decode cX5_attempt 33 = .ok (.goto 4, 3) := by decide +kernel
theorem dX5_attempt_36 : decode cX5_attempt 36 = .ok (.iconst 0, 1) := by decide +kernel
theorem dX5_attempt_37 : decode cX5_attempt 37 = .ok (.invokevirtual 191, 3) := by decide +kernel
theorem dX5_attempt_40 : decode cX5_attempt 40 = .ok (.ifCond .eq 13, 3) := by decide +kernel
theorem dX5_attempt_43 : decode cX5_attempt 43 = .ok (.aload_n 0, 1) := by decide +kernel
theorem dX5_attempt_44 : decode cX5_attempt 44 = .ok (.getfield 33, 3) := by decide +kernel
theorem dX5_attempt_47 : decode cX5_attempt 47 = .ok (.getfield 102, 3) := by decide +kernel
theorem dX5_attempt_50 : decode cX5_attempt 50 = .ok (.goto 5, 3) := by decide +kernel
theorem dX5_attempt_53 : decode cX5_attempt 53 = .ok (.bipush (-4), 2) := by decide +kernel
theorem dX5_attempt_55 : decode cX5_attempt 55 = .ok (.ireturn, 1) := by decide +kernel
theorem dX5_unattempt_0 : decode cX5_unattempt 0 = .ok (.aload_n 0, 1) := by decide +kernel
theorem dX5_unattempt_1 : decode cX5_unattempt 1 = .ok (.getfield 33, 3) := by decide +kernel
theorem dX5_unattempt_4 : decode cX5_unattempt 4 = .ok (.getfield 102, 3) := by decide +kernel
theorem dX5_unattempt_7 : decode cX5_unattempt 7 = .ok (.istore_n 1, 1) := by decide +kernel
theorem dX5_unattempt_8 : decode cX5_unattempt 8 = .ok (.aload_n 0, 1) := by decide +kernel
theorem dX5_unattempt_9 : decode cX5_unattempt 9 = .ok (.getfield 33, 3) := by decide +kernel
theorem dX5_unattempt_12 : decode cX5_unattempt 12 = .ok (.iconst 0, 1) := by decide +kernel
theorem dX5_unattempt_13 : decode cX5_unattempt 13 = .ok (.putfield 102, 3) := by decide +kernel
theorem dX5_unattempt_16 : decode cX5_unattempt 16 = .ok (.iload_n 1, 1) := by decide +kernel
theorem dX5_unattempt_17 : decode cX5_unattempt 17 = .ok (.ireturn, 1) := by decide +kernel
theorem dX5_kinds_0 : decode cX5_kinds 0 = .ok (.iload_n 1, 1) := by decide +kernel
theorem dX5_kinds_1 : decode cX5_kinds 1 = .ok (.invokestatic 149, 3) := by decide +kernel
theorem dX5_kinds_4 : decode cX5_kinds 4 = .ok (.ifCond .ne 6, 3) := by decide +kernel
theorem dX5_kinds_7 : decode cX5_kinds 7 = .ok (.bipush (-2), 2) := by decide +kernel
theorem dX5_kinds_9 : decode cX5_kinds 9 = .ok (.ireturn, 1) := by decide +kernel
theorem dX5_kinds_10 : decode cX5_kinds 10 = .ok (.iconst 0, 1) := by decide +kernel
theorem dX5_kinds_11 : decode cX5_kinds 11 = .ok (.istore_n 2, 1) := by decide +kernel
theorem dX5_kinds_12 : decode cX5_kinds 12 = .ok (.bipush (-9), 2) := by decide +kernel
theorem dX5_kinds_14 : decode cX5_kinds 14 = .ok (.istore_n 3, 1) := by decide +kernel
theorem dX5_kinds_15 : decode cX5_kinds 15 = .ok (.iconst 0, 1) := by decide +kernel
theorem dX5_kinds_16 : decode cX5_kinds 16 = .ok (.istore 4, 2) := by decide +kernel
theorem dX5_kinds_18 : decode cX5_kinds 18 = .ok (.iload 4, 2) := by decide +kernel
theorem dX5_kinds_20 : decode cX5_kinds 20 = .ok (.iconst 4, 1) := by decide +kernel
theorem dX5_kinds_21 : decode cX5_kinds 21 = .ok (.if_icmp .ge 58, 3) := by decide +kernel
theorem dX5_kinds_24 : decode cX5_kinds 24 = .ok (.iconst 0, 1) := by decide +kernel
theorem dX5_kinds_25 : decode cX5_kinds 25 = .ok (.istore 5, 2) := by decide +kernel
theorem dX5_kinds_27 : decode cX5_kinds 27 = .ok (.iload 5, 2) := by decide +kernel
theorem dX5_kinds_29 : decode cX5_kinds 29 = .ok (.iconst 4, 1) := by decide +kernel
theorem dX5_kinds_30 : decode cX5_kinds 30 = .ok (.if_icmp .ge 43, 3) := by decide +kernel
theorem dX5_kinds_33 : decode cX5_kinds 33 = .ok (.aload_n 0, 1) := by decide +kernel
theorem dX5_kinds_34 : decode cX5_kinds 34 = .ok (.getfield 33, 3) := by decide +kernel
theorem dX5_kinds_37 : decode cX5_kinds 37 = .ok (.iload 4, 2) := by decide +kernel
theorem dX5_kinds_39 : decode cX5_kinds 39 = .ok (.iload 5, 2) := by decide +kernel
theorem dX5_kinds_41 : decode cX5_kinds 41 = .ok (.invokevirtual 195, 3) := by decide +kernel
theorem dX5_kinds_44 : decode cX5_kinds 44 = .ok (.ifCond .eq 23, 3) := by decide +kernel
theorem dX5_kinds_47 : decode cX5_kinds 47 = .ok (.iload_n 2, 1) := by decide +kernel
theorem dX5_kinds_48 : decode cX5_kinds 48 = .ok (.ifCond .ne 14, 3) := by decide +kernel
theorem dX5_kinds_51 : decode cX5_kinds 51 = .ok (.bipush 10, 2) := by decide +kernel
theorem dX5_kinds_53 : decode cX5_kinds 53 = .ok (.iload 4, 2) := by decide +kernel
theorem dX5_kinds_55 : decode cX5_kinds 55 = .ok (.imul, 1) := by decide +kernel
theorem dX5_kinds_56 : decode cX5_kinds 56 = .ok (.iload 5, 2) := by decide +kernel
theorem dX5_kinds_58 : decode cX5_kinds 58 = .ok (.iadd, 1) := by decide +kernel
theorem dX5_kinds_59 : decode cX5_kinds 59 = .ok (.goto 4, 3) := by decide +kernel
theorem dX5_kinds_62 : decode cX5_kinds 62 = .ok (.iload_n 3, 1) := by decide +kernel
theorem dX5_kinds_63 : decode cX5_kinds 63 = .ok (.istore_n 3, 1) := by decide +kernel
theorem dX5_kinds_64 : decode cX5_kinds 64 = .ok (.iinc 2 1, 3) := by decide +kernel
theorem dX5_kinds_67 : decode cX5_kinds 67 = .ok (.iinc 5 1, 3) := by decide +kernel
theorem dX5_kinds_70 : decode cX5_kinds 70 = .ok (.goto (-43), 3) := by decide +kernel
theorem dX5_kinds_73 : decode cX5_kinds 73 = .ok (.iinc 4 1, 3) := by decide +kernel
theorem dX5_kinds_76 : decode cX5_kinds 76 = .ok (.goto (-58), 3) := by decide +kernel
theorem dX5_kinds_79 : decode cX5_kinds 79 = .ok (.iload_n 1, 1) := by decide +kernel
theorem dX5_kinds_80 : decode cX5_kinds 80 = .ok (.ifCond .ne 7, 3) := by decide +kernel
theorem dX5_kinds_83 : decode cX5_kinds 83 = .ok (.iload_n 2, 1) := by decide +kernel
theorem dX5_kinds_84 : decode cX5_kinds 84 = .ok (.goto 4, 3) := by decide +kernel
theorem dX5_kinds_87 : decode cX5_kinds 87 = .ok (.iload_n 3, 1) := by decide +kernel
theorem dX5_kinds_88 : decode cX5_kinds 88 = .ok (.ireturn, 1) := by decide +kernel
theorem dX5_rests_0 : decode cX5_rests 0 = .ok (.iload_n 1, 1) := by decide +kernel
theorem dX5_rests_1 : decode cX5_rests 1 = .ok (.invokestatic 114, 3) := by decide +kernel
theorem dX5_rests_4 : decode cX5_rests 4 = .ok (.ifCond .eq 10, 3) := by decide +kernel
theorem dX5_rests_7 : decode cX5_rests 7 = .ok (.iload_n 2, 1) := by decide +kernel
theorem dX5_rests_8 : decode cX5_rests 8 = .ok (.invokestatic 114, 3) := by decide +kernel
theorem dX5_rests_11 : decode cX5_rests 11 = .ok (.ifCond .ne 5, 3) := by decide +kernel
theorem dX5_rests_14 : decode cX5_rests 14 = .ok (.iconst (-1), 1) := by decide +kernel
theorem dX5_rests_15 : decode cX5_rests 15 = .ok (.ireturn, 1) := by decide +kernel
theorem dX5_rests_16 : decode cX5_rests 16 = .ok (.iload_n 1, 1) := by decide +kernel
theorem dX5_rests_17 : decode cX5_rests 17 = .ok (.iload_n 2, 1) := by decide +kernel
theorem dX5_rests_18 : decode cX5_rests 18 = .ok (.if_icmp .eq 10, 3) := by decide +kernel
theorem dX5_rests_21 : decode cX5_rests 21 = .ok (.iload_n 3, 1) := by decide +kernel
theorem dX5_rests_22 : decode cX5_rests 22 = .ok (.invokestatic 149, 3) := by decide +kernel
theorem dX5_rests_25 : decode cX5_rests 25 = .ok (.ifCond .ne 6, 3) := by decide +kernel
theorem dX5_rests_28 : decode cX5_rests 28 = .ok (.bipush (-2), 2) := by decide +kernel
theorem dX5_rests_30 : decode cX5_rests 30 = .ok (.ireturn, 1) := by decide +kernel
theorem dX5_rests_31 : decode cX5_rests 31 = .ok (.iconst 0, 1) := by decide +kernel
theorem dX5_rests_32 : decode cX5_rests 32 = .ok (.istore 4, 2) := by decide +kernel
theorem dX5_rests_34 : decode cX5_rests 34 = .ok (.bipush (-9), 2) := by decide +kernel
theorem dX5_rests_36 : decode cX5_rests 36 = .ok (.istore 5, 2) := by decide +kernel
theorem dX5_rests_38 : decode cX5_rests 38 = .ok (.iconst 0, 1) := by decide +kernel
theorem dX5_rests_39 : decode cX5_rests 39 = .ok (.istore 6, 2) := by decide +kernel
theorem dX5_rests_41 : decode cX5_rests 41 = .ok (.iload 6, 2) := by decide +kernel
theorem dX5_rests_43 : decode cX5_rests 43 = .ok (.iconst 3, 1) := by decide +kernel
theorem dX5_rests_44 : decode cX5_rests 44 = .ok (.if_icmp .ge 60, 3) := by decide +kernel
theorem dX5_rests_47 : decode cX5_rests 47 = .ok (.iconst 0, 1) := by decide +kernel
theorem dX5_rests_48 : decode cX5_rests 48 = .ok (.istore 7, 2) := by decide +kernel
theorem dX5_rests_50 : decode cX5_rests 50 = .ok (.iload 7, 2) := by decide +kernel
theorem dX5_rests_52 : decode cX5_rests 52 = .ok (.iconst 3, 1) := by decide +kernel
theorem dX5_rests_53 : decode cX5_rests 53 = .ok (.if_icmp .ge 45, 3) := by decide +kernel
theorem dX5_rests_56 : decode cX5_rests 56 = .ok (.aload_n 0, 1) := by decide +kernel
theorem dX5_rests_57 : decode cX5_rests 57 = .ok (.iload_n 1, 1) := by decide +kernel
theorem dX5_rests_58 : decode cX5_rests 58 = .ok (.iload_n 2, 1) := by decide +kernel
theorem dX5_rests_59 : decode cX5_rests 59 = .ok (.iload 6, 2) := by decide +kernel
theorem dX5_rests_61 : decode cX5_rests 61 = .ok (.iload 7, 2) := by decide +kernel
theorem dX5_rests_63 : decode cX5_rests 63 = .ok (.invokevirtual 198, 3) := by decide +kernel
theorem dX5_rests_66 : decode cX5_rests 66 = .ok (.ifCond .eq 26, 3) := by decide +kernel
theorem dX5_rests_69 : decode cX5_rests 69 = .ok (.iload 4, 2) := by decide +kernel
theorem dX5_rests_71 : decode cX5_rests 71 = .ok (.ifCond .ne 14, 3) := by decide +kernel
theorem dX5_rests_74 : decode cX5_rests 74 = .ok (.bipush 10, 2) := by decide +kernel
theorem dX5_rests_76 : decode cX5_rests 76 = .ok (.iload 6, 2) := by decide +kernel
theorem dX5_rests_78 : decode cX5_rests 78 = .ok (.imul, 1) := by decide +kernel
theorem dX5_rests_79 : decode cX5_rests 79 = .ok (.iload 7, 2) := by decide +kernel
theorem dX5_rests_81 : decode cX5_rests 81 = .ok (.iadd, 1) := by decide +kernel
theorem dX5_rests_82 : decode cX5_rests 82 = .ok (.goto 5, 3) := by decide +kernel
theorem dX5_rests_85 : decode cX5_rests 85 = .ok (.iload 5, 2) := by decide +kernel
theorem dX5_rests_87 : decode cX5_rests 87 = .ok (.istore 5, 2) := by decide +kernel
theorem dX5_rests_89 : decode cX5_rests 89 = .ok (.iinc 4 1, 3) := by decide +kernel
theorem dX5_rests_92 : decode cX5_rests 92 = .ok (.iinc 7 1, 3) := by decide +kernel
theorem dX5_rests_95 : decode cX5_rests 95 = .ok (.goto (-45), 3) := by decide +kernel
theorem dX5_rests_98 : decode cX5_rests 98 = .ok (.iinc 6 1, 3) := by decide +kernel
theorem dX5_rests_101 : decode cX5_rests 101 = .ok (.goto (-60), 3) := by decide +kernel
theorem dX5_rests_104 : decode cX5_rests 104 = .ok (.iload_n 3, 1) := by decide +kernel
theorem dX5_rests_105 : decode cX5_rests 105 = .ok (.ifCond .ne 8, 3) := by decide +kernel
theorem dX5_rests_108 : decode cX5_rests 108 = .ok (.iload 4, 2) := by decide +kernel
theorem dX5_rests_110 : decode cX5_rests 110 = .ok (.goto 5, 3) := by decide +kernel
theorem dX5_rests_113 : decode cX5_rests 113 = .ok (.iload 5, 2) := by decide +kernel
theorem dX5_rests_115 : decode cX5_rests 115 = .ok (.ireturn, 1) := by decide +kernel
theorem dX5_wet_0 : decode cX5_wet 0 = .ok (.iload_n 1, 1) := by decide +kernel
theorem dX5_wet_1 : decode cX5_wet 1 = .ok (.ifCond .lt 19, 3) := by decide +kernel
theorem dX5_wet_4 : decode cX5_wet 4 = .ok (.iload_n 1, 1) := by decide +kernel
theorem dX5_wet_5 : decode cX5_wet 5 = .ok (.bipush 7, 2) := by decide +kernel
theorem dX5_wet_7 : decode cX5_wet 7 = .ok (.if_icmp .gt 13, 3) := by decide +kernel
theorem dX5_wet_10 : decode cX5_wet 10 = .ok (.iload_n 2, 1) := by decide +kernel
theorem dX5_wet_11 : decode cX5_wet 11 = .ok (.ifCond .lt 9, 3) := by decide +kernel
theorem dX5_wet_14 : decode cX5_wet 14 = .ok (.iload_n 2, 1) := by decide +kernel
theorem dX5_wet_15 : decode cX5_wet 15 = .ok (.bipush 10, 2) := by decide +kernel
theorem dX5_wet_17 : decode cX5_wet 17 = .ok (.if_icmp .le 6, 3) := by decide +kernel
theorem dX5_wet_20 : decode cX5_wet 20 = .ok (.bipush (-2), 2) := by decide +kernel
theorem dX5_wet_22 : decode cX5_wet 22 = .ok (.ireturn, 1) := by decide +kernel
theorem dX5_wet_23 : decode cX5_wet 23 = .ok (.iconst 0, 1) := by decide +kernel
theorem dX5_wet_24 : decode cX5_wet 24 = .ok (.istore 4, 2) := by decide +kernel
theorem dX5_wet_26 : decode cX5_wet 26 = .ok (.iconst 1, 1) := by decide +kernel
theorem dX5_wet_27 : decode cX5_wet 27 = .ok (.istore 5, 2) := by decide +kernel
theorem dX5_wet_29 : decode cX5_wet 29 = .ok (.iconst 0, 1) := by decide +kernel
theorem dX5_wet_30 : decode cX5_wet 30 = .ok (.istore 6, 2) := by decide +kernel
theorem dX5_wet_32 : decode cX5_wet 32 = .ok (.iload 6, 2) := by decide +kernel
theorem dX5_wet_34 : decode cX5_wet 34 = .ok (.iconst 4, 1) := by decide +kernel
theorem dX5_wet_35 : decode cX5_wet 35 = .ok (.if_icmp .ge 36, 3) := by decide +kernel
theorem dX5_wet_38 : decode cX5_wet 38 = .ok (.iload 5, 2) := by decide +kernel
theorem dX5_wet_40 : decode cX5_wet 40 = .ok (.aload_n 0, 1) := by decide +kernel
theorem dX5_wet_41 : decode cX5_wet 41 = .ok (.getfield 19, 3) := by decide +kernel
theorem dX5_wet_44 : decode cX5_wet 44 = .ok (.aload_n 0, 1) := by decide +kernel
theorem dX5_wet_45 : decode cX5_wet 45 = .ok (.getfield 48, 3) := by decide +kernel
theorem dX5_wet_48 : decode cX5_wet 48 = .ok (.iload 6, 2) := by decide +kernel
theorem dX5_wet_50 : decode cX5_wet 50 = .ok (.invokevirtual 133, 3) := by decide +kernel
theorem dX5_wet_53 : decode cX5_wet 53 = .ok (.ifCond .eq 8, 3) := by decide +kernel
theorem dX5_wet_56 : decode cX5_wet 56 = .ok (.bipush 10, 2) := by decide +kernel
theorem dX5_wet_58 : decode cX5_wet 58 = .ok (.goto 4, 3) := by decide +kernel
theorem dX5_wet_61 : decode cX5_wet 61 = .ok (.iconst 1, 1) := by decide +kernel
theorem dX5_wet_62 : decode cX5_wet 62 = .ok (.imul, 1) := by decide +kernel
theorem dX5_wet_63 : decode cX5_wet 63 = .ok (.istore 5, 2) := by decide +kernel
theorem dX5_wet_65 : decode cX5_wet 65 = .ok (.iinc 6 1, 3) := by decide +kernel
theorem dX5_wet_68 : decode cX5_wet 68 = .ok (.goto (-36), 3) := by decide +kernel
theorem dX5_wet_71 : decode cX5_wet 71 = .ok (.iconst 0, 1) := by decide +kernel
theorem dX5_wet_72 : decode cX5_wet 72 = .ok (.istore 6, 2) := by decide +kernel
theorem dX5_wet_74 : decode cX5_wet 74 = .ok (.iload 6, 2) := by decide +kernel
theorem dX5_wet_76 : decode cX5_wet 76 = .ok (.bipush 16, 2) := by decide +kernel
theorem dX5_wet_78 : decode cX5_wet 78 = .ok (.if_icmp .ge 34, 3) := by decide +kernel
theorem dX5_wet_81 : decode cX5_wet 81 = .ok (.aload_n 0, 1) := by decide +kernel
theorem dX5_wet_82 : decode cX5_wet 82 = .ok (.iload 6, 2) := by decide +kernel
theorem dX5_wet_84 : decode cX5_wet 84 = .ok (.invokevirtual 202, 3) := by decide +kernel
theorem dX5_wet_87 : decode cX5_wet 87 = .ok (.invokestatic 176, 3) := by decide +kernel
theorem dX5_wet_90 : decode cX5_wet 90 = .ok (.iload_n 1, 1) := by decide +kernel
theorem dX5_wet_91 : decode cX5_wet 91 = .ok (.if_icmp .lt 15, 3) := by decide +kernel
theorem dX5_wet_94 : decode cX5_wet 94 = .ok (.iload 4, 2) := by decide +kernel
theorem dX5_wet_96 : decode cX5_wet 96 = .ok (.aload_n 0, 1) := by decide +kernel
theorem dX5_wet_97 : decode cX5_wet 97 = .ok (.iload 6, 2) := by decide +kernel
theorem dX5_wet_99 : decode cX5_wet 99 = .ok (.iload_n 2, 1) := by decide +kernel
theorem dX5_wet_100 : decode cX5_wet 100 = .ok (.invokevirtual 205, 3) := by decide +kernel
theorem dX5_wet_103 : decode cX5_wet 103 = .ok (.iadd, 1) := by decide +kernel
theorem dX5_wet_104 : decode cX5_wet 104 = .ok (.istore 4, 2) := by decide +kernel
theorem dX5_wet_106 : decode cX5_wet 106 = .ok (.iinc 6 1, 3) := by decide +kernel
theorem dX5_wet_109 : decode cX5_wet 109 = .ok (.goto (-35), 3) := by decide +kernel
theorem dX5_wet_112 : decode cX5_wet 112 = .ok (.iload 4, 2) := by decide +kernel
theorem dX5_wet_114 : decode cX5_wet 114 = .ok (.iload 5, 2) := by decide +kernel
theorem dX5_wet_116 : decode cX5_wet 116 = .ok (.iload_n 3, 1) := by decide +kernel
theorem dX5_wet_117 : decode cX5_wet 117 = .ok (.invokestatic 187, 3) := by decide +kernel
theorem dX5_wet_120 : decode cX5_wet 120 = .ok (.ireturn, 1) := by decide +kernel
theorem dX5_seed_0 : decode cX5_seed 0 = .ok (.aload_n 0, 1) := by decide +kernel
theorem dX5_seed_1 : decode cX5_seed 1 = .ok (.getfield 55, 3) := by decide +kernel
theorem dX5_seed_4 : decode cX5_seed 4 = .ok (.lstore_n 3, 1) := by decide +kernel
theorem dX5_seed_5 : decode cX5_seed 5 = .ok (.aload_n 0, 1) := by decide +kernel
theorem dX5_seed_6 : decode cX5_seed 6 = .ok (.lload_n 1, 1) := by decide +kernel
theorem dX5_seed_7 : decode cX5_seed 7 = .ok (.putfield 55, 3) := by decide +kernel
theorem dX5_seed_10 : decode cX5_seed 10 = .ok (.lload_n 3, 1) := by decide +kernel
theorem dX5_seed_11 : decode cX5_seed 11 = .ok (.lreturn, 1) := by decide +kernel
theorem dX5_terms_0 : decode cX5_terms 0 = .ok (.iload_n 1, 1) := by decide +kernel
theorem dX5_terms_1 : decode cX5_terms 1 = .ok (.iconst 1, 1) := by decide +kernel
theorem dX5_terms_2 : decode cX5_terms 2 = .ok (.if_icmp .lt 9, 3) := by decide +kernel
theorem dX5_terms_5 : decode cX5_terms 5 = .ok (.iload_n 1, 1) := by decide +kernel
theorem dX5_terms_6 : decode cX5_terms 6 = .ok (.bipush 30, 2) := by decide +kernel
theorem dX5_terms_8 : decode cX5_terms 8 = .ok (.if_icmp .le 6, 3) := by decide +kernel
theorem dX5_terms_11 : decode cX5_terms 11 = .ok (.bipush (-2), 2) := by decide +kernel
theorem dX5_terms_13 : decode cX5_terms 13 = .ok (.ireturn, 1) := by decide +kernel
theorem dX5_terms_14 : decode cX5_terms 14 = .ok (.aload_n 0, 1) := by decide +kernel
theorem dX5_terms_15 : decode cX5_terms 15 = .ok (.getfield 48, 3) := by decide +kernel
theorem dX5_terms_18 : decode cX5_terms 18 = .ok (.istore_n 2, 1) := by decide +kernel
theorem dX5_terms_19 : decode cX5_terms 19 = .ok (.iconst 0, 1) := by decide +kernel
theorem dX5_terms_20 : decode cX5_terms 20 = .ok (.istore_n 3, 1) := by decide +kernel
theorem dX5_terms_21 : decode cX5_terms 21 = .ok (.iconst 0, 1) := by decide +kernel
theorem dX5_terms_22 : decode cX5_terms 22 = .ok (.istore 4, 2) := by decide +kernel
theorem dX5_terms_24 : decode cX5_terms 24 = .ok (.iload 4, 2) := by decide +kernel
theorem dX5_terms_26 : decode cX5_terms 26 = .ok (.iload_n 1, 1) := by decide +kernel
theorem dX5_terms_27 : decode cX5_terms 27 = .ok (.if_icmp .ge 50, 3) := by decide +kernel
theorem dX5_terms_30 : decode cX5_terms 30 = .ok (.aload_n 0, 1) := by decide +kernel
theorem dX5_terms_31 : decode cX5_terms 31 = .ok (.aload_n 0, 1) := by decide +kernel
theorem dX5_terms_32 : decode cX5_terms 32 = .ok (.getfield 55, 3) := by decide +kernel
theorem dX5_terms_35 : decode cX5_terms 35 = .ok (.ldc2_w 208, 3) := by decide +kernel
theorem dX5_terms_38 : decode cX5_terms 38 = .ok (.lmul, 1) := by decide +kernel
theorem dX5_terms_39 : decode cX5_terms 39 = .ok (.ldc2_w 210, 3) := by decide +kernel
theorem dX5_terms_42 : decode cX5_terms 42 = .ok (.ladd, 1) := by decide +kernel
theorem dX5_terms_43 : decode cX5_terms 43 = .ok (.putfield 55, 3) := by decide +kernel
theorem dX5_terms_46 : decode cX5_terms 46 = .ok (.aload_n 0, 1) := by decide +kernel
theorem dX5_terms_47 : decode cX5_terms 47 = .ok (.iload_n 2, 1) := by decide +kernel
theorem dX5_terms_48 : decode cX5_terms 48 = .ok (.aload_n 0, 1) := by decide +kernel
theorem dX5_terms_49 : decode cX5_terms 49 = .ok (.getfield 55, 3) := by decide +kernel
theorem dX5_terms_52 : decode cX5_terms 52 = .ok (.bipush 33, 2) := by decide +kernel
theorem dX5_terms_54 : decode cX5_terms 54 = .ok (.lushr, 1) := by decide +kernel
theorem dX5_terms_55 : decode cX5_terms 55 = .ok (.ldc2_w 212, 3) := by decide +kernel
theorem dX5_terms_58 : decode cX5_terms 58 = .ok (.lrem, 1) := by decide +kernel
theorem dX5_terms_59 : decode cX5_terms 59 = .ok (.l2i, 1) := by decide +kernel
theorem dX5_terms_60 : decode cX5_terms 60 = .ok (.invokevirtual 214, 3) := by decide +kernel
theorem dX5_terms_63 : decode cX5_terms 63 = .ok (.istore_n 2, 1) := by decide +kernel
theorem dX5_terms_64 : decode cX5_terms 64 = .ok (.iload_n 3, 1) := by decide +kernel
theorem dX5_terms_65 : decode cX5_terms 65 = .ok (.iload_n 2, 1) := by decide +kernel
theorem dX5_terms_66 : decode cX5_terms 66 = .ok (.invokestatic 130, 3) := by decide +kernel
theorem dX5_terms_69 : decode cX5_terms 69 = .ok (.iadd, 1) := by decide +kernel
theorem dX5_terms_70 : decode cX5_terms 70 = .ok (.istore_n 3, 1) := by decide +kernel
theorem dX5_terms_71 : decode cX5_terms 71 = .ok (.iinc 4 1, 3) := by decide +kernel
theorem dX5_terms_74 : decode cX5_terms 74 = .ok (.goto (-50), 3) := by decide +kernel
theorem dX5_terms_77 : decode cX5_terms 77 = .ok (.iload_n 3, 1) := by decide +kernel
theorem dX5_terms_78 : decode cX5_terms 78 = .ok (.ireturn, 1) := by decide +kernel
theorem dX5_keep_0 : decode cX5_keep 0 = .ok (.iload_n 1, 1) := by decide +kernel
theorem dX5_keep_1 : decode cX5_keep 1 = .ok (.ifCond .lt 8, 3) := by decide +kernel
theorem dX5_keep_4 : decode cX5_keep 4 = .ok (.iload_n 1, 1) := by decide +kernel
theorem dX5_keep_5 : decode cX5_keep 5 = .ok (.iconst 2, 1) := by decide +kernel
theorem dX5_keep_6 : decode cX5_keep 6 = .ok (.if_icmp .lt 5, 3) := by decide +kernel
theorem dX5_keep_9 : decode cX5_keep 9 = .ok (.iconst (-1), 1) := by decide +kernel
theorem dX5_keep_10 : decode cX5_keep 10 = .ok (.ireturn, 1) := by decide +kernel
theorem dX5_keep_11 : decode cX5_keep 11 = .ok (.aload_n 0, 1) := by decide +kernel
theorem dX5_keep_12 : decode cX5_keep 12 = .ok (.getfield 37, 3) := by decide +kernel
theorem dX5_keep_15 : decode cX5_keep 15 = .ok (.iload_n 1, 1) := by decide +kernel
theorem dX5_keep_16 : decode cX5_keep 16 = .ok (.iconst 1, 1) := by decide +kernel
theorem dX5_keep_17 : decode cX5_keep 17 = .ok (.bastore, 1) := by decide +kernel
theorem dX5_keep_18 : decode cX5_keep 18 = .ok (.aload_n 0, 1) := by decide +kernel
theorem dX5_keep_19 : decode cX5_keep 19 = .ok (.getfield 41, 3) := by decide +kernel
theorem dX5_keep_22 : decode cX5_keep 22 = .ok (.iload_n 1, 1) := by decide +kernel
theorem dX5_keep_23 : decode cX5_keep 23 = .ok (.aload_n 0, 1) := by decide +kernel
theorem dX5_keep_24 : decode cX5_keep 24 = .ok (.getfield 48, 3) := by decide +kernel
theorem dX5_keep_27 : decode cX5_keep 27 = .ok (.iastore, 1) := by decide +kernel
theorem dX5_keep_28 : decode cX5_keep 28 = .ok (.aload_n 0, 1) := by decide +kernel
theorem dX5_keep_29 : decode cX5_keep 29 = .ok (.getfield 45, 3) := by decide +kernel
theorem dX5_keep_32 : decode cX5_keep 32 = .ok (.iload_n 1, 1) := by decide +kernel
theorem dX5_keep_33 : decode cX5_keep 33 = .ok (.aload_n 0, 1) := by decide +kernel
theorem dX5_keep_34 : decode cX5_keep 34 = .ok (.getfield 52, 3) := by decide +kernel
theorem dX5_keep_37 : decode cX5_keep 37 = .ok (.iastore, 1) := by decide +kernel
theorem dX5_keep_38 : decode cX5_keep 38 = .ok (.aload_n 0, 1) := by decide +kernel
theorem dX5_keep_39 : decode cX5_keep 39 = .ok (.invokevirtual 87, 3) := by decide +kernel
theorem dX5_keep_42 : decode cX5_keep 42 = .ok (.ireturn, 1) := by decide +kernel
theorem dX5_again_0 : decode cX5_again 0 = .ok (.iload_n 1, 1) := by decide +kernel
theorem dX5_again_1 : decode cX5_again 1 = .ok (.ifCond .lt 8, 3) := by decide +kernel
theorem dX5_again_4 : decode cX5_again 4 = .ok (.iload_n 1, 1) := by decide +kernel
theorem dX5_again_5 : decode cX5_again 5 = .ok (.iconst 2, 1) := by decide +kernel
theorem dX5_again_6 : decode cX5_again 6 = .ok (.if_icmp .lt 5, 3) := by decide +kernel
theorem dX5_again_9 : decode cX5_again 9 = .ok (.iconst (-1), 1) := by decide +kernel
theorem dX5_again_10 : decode cX5_again 10 = .ok (.ireturn, 1) := by decide +kernel
theorem dX5_again_11 : decode cX5_again 11 = .ok (.aload_n 0, 1) := by decide +kernel
theorem dX5_again_12 : decode cX5_again 12 = .ok (.getfield 37, 3) := by decide +kernel
theorem dX5_again_15 : decode cX5_again 15 = .ok (.iload_n 1, 1) := by decide +kernel
theorem dX5_again_16 : decode cX5_again 16 = .ok (.baload, 1) := by decide +kernel
theorem dX5_again_17 : decode cX5_again 17 = .ok (.ifCond .ne 6, 3) := by decide +kernel
theorem dX5_again_20 : decode cX5_again 20 = .ok (.bipush (-3), 2) := by decide +kernel
theorem dX5_again_22 : decode cX5_again 22 = .ok (.ireturn, 1) := by decide +kernel
theorem dX5_again_23 : decode cX5_again 23 = .ok (.aload_n 0, 1) := by decide +kernel
theorem dX5_again_24 : decode cX5_again 24 = .ok (.aload_n 0, 1) := by decide +kernel
theorem dX5_again_25 : decode cX5_again 25 = .ok (.getfield 41, 3) := by decide +kernel
theorem dX5_again_28 : decode cX5_again 28 = .ok (.iload_n 1, 1) := by decide +kernel
theorem dX5_again_29 : decode cX5_again 29 = .ok (.iaload, 1) := by decide +kernel
theorem dX5_again_30 : decode cX5_again 30 = .ok (.putfield 48, 3) := by decide +kernel
theorem dX5_again_33 : decode cX5_again 33 = .ok (.aload_n 0, 1) := by decide +kernel
theorem dX5_again_34 : decode cX5_again 34 = .ok (.aload_n 0, 1) := by decide +kernel
theorem dX5_again_35 : decode cX5_again 35 = .ok (.getfield 45, 3) := by decide +kernel
theorem dX5_again_38 : decode cX5_again 38 = .ok (.iload_n 1, 1) := by decide +kernel
theorem dX5_again_39 : decode cX5_again 39 = .ok (.iaload, 1) := by decide +kernel
theorem dX5_again_40 : decode cX5_again 40 = .ok (.putfield 52, 3) := by decide +kernel
theorem dX5_again_43 : decode cX5_again 43 = .ok (.aload_n 0, 1) := by decide +kernel
theorem dX5_again_44 : decode cX5_again 44 = .ok (.getfield 26, 3) := by decide +kernel
theorem dX5_again_47 : decode cX5_again 47 = .ok (.iconst 0, 1) := by decide +kernel
theorem dX5_again_48 : decode cX5_again 48 = .ok (.putfield 74, 3) := by decide +kernel
theorem dX5_again_51 : decode cX5_again 51 = .ok (.aload_n 0, 1) := by decide +kernel
theorem dX5_again_52 : decode cX5_again 52 = .ok (.invokevirtual 87, 3) := by decide +kernel
theorem dX5_again_55 : decode cX5_again 55 = .ok (.ireturn, 1) := by decide +kernel
theorem dX5_isColumn_0 : decode cX5_isColumn 0 = .ok (.iload_n 0, 1) := by decide +kernel
theorem dX5_isColumn_1 : decode cX5_isColumn 1 = .ok (.ifCond .lt 12, 3) := by decide +kernel
theorem dX5_isColumn_4 : decode cX5_isColumn 4 = .ok (.iload_n 0, 1) := by decide +kernel
theorem dX5_isColumn_5 : decode cX5_isColumn 5 = .ok (.iconst 4, 1) := by decide +kernel
theorem dX5_isColumn_6 : decode cX5_isColumn 6 = .ok (.if_icmp .ge 7, 3) := by decide +kernel
theorem dX5_isColumn_9 : decode cX5_isColumn 9 = .ok (.iconst 1, 1) := by decide +kernel
theorem dX5_isColumn_10 : decode cX5_isColumn 10 = .ok (.goto 4, 3) := by decide +kernel
theorem dX5_isColumn_13 : decode cX5_isColumn 13 = .ok (.iconst 0, 1) := by decide +kernel
theorem dX5_isColumn_14 : decode cX5_isColumn 14 = .ok (.ireturn, 1) := by decide +kernel
theorem dX5_isCountOrFirst_0 : decode cX5_isCountOrFirst 0 = .ok (.iload_n 0, 1) := by decide +kernel
theorem dX5_isCountOrFirst_1 : decode cX5_isCountOrFirst 1 = .ok (.ifCond .eq 8, 3) := by decide +kernel
theorem dX5_isCountOrFirst_4 : decode cX5_isCountOrFirst 4 = .ok (.iload_n 0, 1) := by decide +kernel
theorem dX5_isCountOrFirst_5 : decode cX5_isCountOrFirst 5 = .ok (.iconst 1, 1) := by decide +kernel
theorem dX5_isCountOrFirst_6 : decode cX5_isCountOrFirst 6 = .ok (.if_icmp .ne 7, 3) := by decide +kernel
theorem dX5_isCountOrFirst_9 : decode cX5_isCountOrFirst 9 = .ok (.iconst 1, 1) := by decide +kernel
theorem dX5_isCountOrFirst_10 : decode cX5_isCountOrFirst 10 = .ok (.goto 4, 3) := by decide +kernel
theorem dX5_isCountOrFirst_13 : decode cX5_isCountOrFirst 13 = .ok (.iconst 0, 1) := by decide +kernel
theorem dX5_isCountOrFirst_14 : decode cX5_isCountOrFirst 14 = .ok (.ireturn, 1) := by decide +kernel
theorem dX5_allPoles_0 : decode cX5_allPoles 0 = .ok (.aload_n 0, 1) := by decide +kernel
theorem dX5_allPoles_1 : decode cX5_allPoles 1 = .ok (.getfield 48, 3) := by decide +kernel
theorem dX5_allPoles_4 : decode cX5_allPoles 4 = .ok (.invokestatic 112, 3) := by decide +kernel
theorem dX5_allPoles_7 : decode cX5_allPoles 7 = .ok (.invokestatic 176, 3) := by decide +kernel
theorem dX5_allPoles_10 : decode cX5_allPoles 10 = .ok (.ireturn, 1) := by decide +kernel
theorem dX5_leastRow_0 : decode cX5_leastRow 0 = .ok (.iload_n 2, 1) := by decide +kernel
theorem dX5_leastRow_1 : decode cX5_leastRow 1 = .ok (.iload_n 1, 1) := by decide +kernel
theorem dX5_leastRow_2 : decode cX5_leastRow 2 = .ok (.invokestatic 90, 3) := by decide +kernel
theorem dX5_leastRow_5 : decode cX5_leastRow 5 = .ok (.iconst (-1), 1) := by decide +kernel
theorem dX5_leastRow_6 : decode cX5_leastRow 6 = .ok (.ixor, 1) := by decide +kernel
theorem dX5_leastRow_7 : decode cX5_leastRow 7 = .ok (.iand, 1) := by decide +kernel
theorem dX5_leastRow_8 : decode cX5_leastRow 8 = .ok (.istore 4, 2) := by decide +kernel
theorem dX5_leastRow_10 : decode cX5_leastRow 10 = .ok (.iload_n 3, 1) := by decide +kernel
theorem dX5_leastRow_11 : decode cX5_leastRow 11 = .ok (.ifCond .gt 15, 3) := by decide +kernel
theorem dX5_leastRow_14 : decode cX5_leastRow 14 = .ok (.iload 4, 2) := by decide +kernel
theorem dX5_leastRow_16 : decode cX5_leastRow 16 = .ok (.ifCond .ne 7, 3) := by decide +kernel
theorem dX5_leastRow_19 : decode cX5_leastRow 19 = .ok (.iconst 0, 1) := by decide +kernel
theorem dX5_leastRow_20 : decode cX5_leastRow 20 = .ok (.goto 5, 3) := by decide +kernel
theorem dX5_leastRow_23 : decode cX5_leastRow 23 = .ok (.bipush (-9), 2) := by decide +kernel
theorem dX5_leastRow_25 : decode cX5_leastRow 25 = .ok (.ireturn, 1) := by decide +kernel
theorem dX5_leastRow_26 : decode cX5_leastRow 26 = .ok (.iload 4, 2) := by decide +kernel
theorem dX5_leastRow_28 : decode cX5_leastRow 28 = .ok (.invokestatic 217, 3) := by decide +kernel
theorem dX5_leastRow_31 : decode cX5_leastRow 31 = .ok (.iload_n 1, 1) := by decide +kernel
theorem dX5_leastRow_32 : decode cX5_leastRow 32 = .ok (.invokestatic 112, 3) := by decide +kernel
theorem dX5_leastRow_35 : decode cX5_leastRow 35 = .ok (.iconst (-1), 1) := by decide +kernel
theorem dX5_leastRow_36 : decode cX5_leastRow 36 = .ok (.ixor, 1) := by decide +kernel
theorem dX5_leastRow_37 : decode cX5_leastRow 37 = .ok (.iand, 1) := by decide +kernel
theorem dX5_leastRow_38 : decode cX5_leastRow 38 = .ok (.invokestatic 176, 3) := by decide +kernel
theorem dX5_leastRow_41 : decode cX5_leastRow 41 = .ok (.iload_n 3, 1) := by decide +kernel
theorem dX5_leastRow_42 : decode cX5_leastRow 42 = .ok (.if_icmp .le 6, 3) := by decide +kernel
theorem dX5_leastRow_45 : decode cX5_leastRow 45 = .ok (.bipush (-9), 2) := by decide +kernel
theorem dX5_leastRow_47 : decode cX5_leastRow 47 = .ok (.ireturn, 1) := by decide +kernel
theorem dX5_leastRow_48 : decode cX5_leastRow 48 = .ok (.iconst 1, 1) := by decide +kernel
theorem dX5_leastRow_49 : decode cX5_leastRow 49 = .ok (.istore 5, 2) := by decide +kernel
theorem dX5_leastRow_51 : decode cX5_leastRow 51 = .ok (.iload 5, 2) := by decide +kernel
theorem dX5_leastRow_53 : decode cX5_leastRow 53 = .ok (.bipush 8, 2) := by decide +kernel
theorem dX5_leastRow_55 : decode cX5_leastRow 55 = .ok (.if_icmp .gt 115, 3) := by decide +kernel
theorem dX5_leastRow_58 : decode cX5_leastRow 58 = .ok (.iload 5, 2) := by decide +kernel
theorem dX5_leastRow_60 : decode cX5_leastRow 60 = .ok (.iconst 4, 1) := by decide +kernel
theorem dX5_leastRow_61 : decode cX5_leastRow 61 = .ok (.if_icmp .gt 7, 3) := by decide +kernel
theorem dX5_leastRow_64 : decode cX5_leastRow 64 = .ok (.iconst 1, 1) := by decide +kernel
theorem dX5_leastRow_65 : decode cX5_leastRow 65 = .ok (.goto 4, 3) := by decide +kernel
theorem dX5_leastRow_68 : decode cX5_leastRow 68 = .ok (.iconst 0, 1) := by decide +kernel
theorem dX5_leastRow_69 : decode cX5_leastRow 69 = .ok (.istore 6, 2) := by decide +kernel
theorem dX5_leastRow_71 : decode cX5_leastRow 71 = .ok (.iload 5, 2) := by decide +kernel
theorem dX5_leastRow_73 : decode cX5_leastRow 73 = .ok (.iconst 1, 1) := by decide +kernel
theorem dX5_leastRow_74 : decode cX5_leastRow 74 = .ok (.isub, 1) := by decide +kernel
theorem dX5_leastRow_75 : decode cX5_leastRow 75 = .ok (.iconst 4, 1) := by decide +kernel
theorem dX5_leastRow_76 : decode cX5_leastRow 76 = .ok (.irem, 1) := by decide +kernel
theorem dX5_leastRow_77 : decode cX5_leastRow 77 = .ok (.istore 7, 2) := by decide +kernel
theorem dX5_leastRow_79 : decode cX5_leastRow 79 = .ok (.iload 6, 2) := by decide +kernel
theorem dX5_leastRow_81 : decode cX5_leastRow 81 = .ok (.ifCond .eq 16, 3) := by decide +kernel
theorem dX5_leastRow_84 : decode cX5_leastRow 84 = .ok (.aload_n 0, 1) := by decide +kernel
theorem dX5_leastRow_85 : decode cX5_leastRow 85 = .ok (.iload_n 1, 1) := by decide +kernel
theorem dX5_leastRow_86 : decode cX5_leastRow 86 = .ok (.iload 7, 2) := by decide +kernel
theorem dX5_leastRow_88 : decode cX5_leastRow 88 = .ok (.invokevirtual 220, 3) := by decide +kernel
theorem dX5_leastRow_91 : decode cX5_leastRow 91 = .ok (.ifCond .eq 73, 3) := by decide +kernel
theorem dX5_leastRow_94 : decode cX5_leastRow 94 = .ok (.goto 13, 3) := by decide +kernel
theorem dX5_leastRow_97 : decode cX5_leastRow 97 = .ok (.aload_n 0, 1) := by decide +kernel
theorem dX5_leastRow_98 : decode cX5_leastRow 98 = .ok (.iload_n 1, 1) := by decide +kernel
theorem dX5_leastRow_99 : decode cX5_leastRow 99 = .ok (.iload 7, 2) := by decide +kernel
theorem dX5_leastRow_101 : decode cX5_leastRow 101 = .ok (.invokevirtual 133, 3) := by decide +kernel
theorem dX5_leastRow_104 : decode cX5_leastRow 104 = .ok (.ifCond .eq 60, 3) := by decide +kernel
theorem dX5_leastRow_107 : decode cX5_leastRow 107 = .ok (.iload 6, 2) := by decide +kernel
theorem dX5_leastRow_109 : decode cX5_leastRow 109 = .ok (.ifCond .eq 13, 3) := by decide +kernel
theorem dX5_leastRow_112 : decode cX5_leastRow 112 = .ok (.aload_n 0, 1) := by decide +kernel
theorem dX5_leastRow_113 : decode cX5_leastRow 113 = .ok (.iload_n 1, 1) := by decide +kernel
theorem dX5_leastRow_114 : decode cX5_leastRow 114 = .ok (.iload 7, 2) := by decide +kernel
theorem dX5_leastRow_116 : decode cX5_leastRow 116 = .ok (.invokevirtual 127, 3) := by decide +kernel
theorem dX5_leastRow_119 : decode cX5_leastRow 119 = .ok (.goto 10, 3) := by decide +kernel
theorem dX5_leastRow_122 : decode cX5_leastRow 122 = .ok (.aload_n 0, 1) := by decide +kernel
theorem dX5_leastRow_123 : decode cX5_leastRow 123 = .ok (.iload_n 1, 1) := by decide +kernel
theorem dX5_leastRow_124 : decode cX5_leastRow 124 = .ok (.iload 7, 2) := by decide +kernel
theorem dX5_leastRow_126 : decode cX5_leastRow 126 = .ok (.invokevirtual 137, 3) := by decide +kernel
theorem dX5_leastRow_129 : decode cX5_leastRow 129 = .ok (.istore 8, 2) := by decide +kernel
theorem dX5_leastRow_131 : decode cX5_leastRow 131 = .ok (.aload_n 0, 1) := by decide +kernel
theorem dX5_leastRow_132 : decode cX5_leastRow 132 = .ok (.iload 8, 2) := by decide +kernel
theorem dX5_leastRow_134 : decode cX5_leastRow 134 = .ok (.iload_n 2, 1) := by decide +kernel
theorem dX5_leastRow_135 : decode cX5_leastRow 135 = .ok (.iload_n 3, 1) := by decide +kernel
theorem dX5_leastRow_136 : decode cX5_leastRow 136 = .ok (.iconst 1, 1) := by decide +kernel
theorem dX5_leastRow_137 : decode cX5_leastRow 137 = .ok (.isub, 1) := by decide +kernel
theorem dX5_leastRow_138 : decode cX5_leastRow 138 = .ok (.invokestatic 155, 3) := by decide +kernel
theorem dX5_leastRow_141 : decode cX5_leastRow 141 = .ok (.istore 9, 2) := by decide +kernel
theorem dX5_leastRow_143 : decode cX5_leastRow 143 = .ok (.iload 9, 2) := by decide +kernel
theorem dX5_leastRow_145 : decode cX5_leastRow 145 = .ok (.bipush (-9), 2) := by decide +kernel
theorem dX5_leastRow_147 : decode cX5_leastRow 147 = .ok (.if_icmp .eq 17, 3) := by decide +kernel
theorem dX5_leastRow_150 : decode cX5_leastRow 150 = .ok (.iload 5, 2) := by decide +kernel
theorem dX5_leastRow_152 : decode cX5_leastRow 152 = .ok (.iload_n 3, 1) := by decide +kernel
theorem dX5_leastRow_153 : decode cX5_leastRow 153 = .ok (.iconst 1, 1) := by decide +kernel
theorem dX5_leastRow_154 : decode cX5_leastRow 154 = .ok (.isub, 1) := by decide +kernel
theorem dX5_leastRow_155 : decode cX5_leastRow 155 = .ok (.invokestatic 159, 3) := by decide +kernel
theorem dX5_leastRow_158 : decode cX5_leastRow 158 = .ok (.l2i, 1) := by decide +kernel
theorem dX5_leastRow_159 : decode cX5_leastRow 159 = .ok (.imul, 1) := by decide +kernel
theorem dX5_leastRow_160 : decode cX5_leastRow 160 = .ok (.iload 9, 2) := by decide +kernel
theorem dX5_leastRow_162 : decode cX5_leastRow 162 = .ok (.iadd, 1) := by decide +kernel
theorem dX5_leastRow_163 : decode cX5_leastRow 163 = .ok (.ireturn, 1) := by decide +kernel
theorem dX5_leastRow_164 : decode cX5_leastRow 164 = .ok (.iinc 5 1, 3) := by decide +kernel
theorem dX5_leastRow_167 : decode cX5_leastRow 167 = .ok (.goto (-116), 3) := by decide +kernel
theorem dX5_leastRow_170 : decode cX5_leastRow 170 = .ok (.bipush (-9), 2) := by decide +kernel
theorem dX5_leastRow_172 : decode cX5_leastRow 172 = .ok (.ireturn, 1) := by decide +kernel
theorem dX5_downToGround_0 : decode cX5_downToGround 0 = .ok (.iload_n 0, 1) := by decide +kernel
theorem dX5_downToGround_1 : decode cX5_downToGround 1 = .ok (.iload_n 0, 1) := by decide +kernel
theorem dX5_downToGround_2 : decode cX5_downToGround 2 = .ok (.iconst 4, 1) := by decide +kernel
theorem dX5_downToGround_3 : decode cX5_downToGround 3 = .ok (.ishr, 1) := by decide +kernel
theorem dX5_downToGround_4 : decode cX5_downToGround 4 = .ok (.ior, 1) := by decide +kernel
theorem dX5_downToGround_5 : decode cX5_downToGround 5 = .ok (.iload_n 0, 1) := by decide +kernel
theorem dX5_downToGround_6 : decode cX5_downToGround 6 = .ok (.bipush 8, 2) := by decide +kernel
theorem dX5_downToGround_8 : decode cX5_downToGround 8 = .ok (.ishr, 1) := by decide +kernel
theorem dX5_downToGround_9 : decode cX5_downToGround 9 = .ok (.ior, 1) := by decide +kernel
theorem dX5_downToGround_10 : decode cX5_downToGround 10 = .ok (.iload_n 0, 1) := by decide +kernel
theorem dX5_downToGround_11 : decode cX5_downToGround 11 = .ok (.bipush 12, 2) := by decide +kernel
theorem dX5_downToGround_13 : decode cX5_downToGround 13 = .ok (.ishr, 1) := by decide +kernel
theorem dX5_downToGround_14 : decode cX5_downToGround 14 = .ok (.ior, 1) := by decide +kernel
theorem dX5_downToGround_15 : decode cX5_downToGround 15 = .ok (.ireturn, 1) := by decide +kernel
theorem dX5_doingFromEnd_0 : decode cX5_doingFromEnd 0 = .ok (.lload_n 0, 1) := by decide +kernel
theorem dX5_doingFromEnd_1 : decode cX5_doingFromEnd 1 = .ok (.lstore_n 3, 1) := by decide +kernel
theorem dX5_doingFromEnd_2 : decode cX5_doingFromEnd 2 = .ok (.iconst 0, 1) := by decide +kernel
theorem dX5_doingFromEnd_3 : decode cX5_doingFromEnd 3 = .ok (.istore 5, 2) := by decide +kernel
theorem dX5_doingFromEnd_5 : decode cX5_doingFromEnd 5 = .ok (.iload 5, 2) := by decide +kernel
theorem dX5_doingFromEnd_7 : decode cX5_doingFromEnd 7 = .ok (.iload_n 2, 1) := by decide +kernel
theorem dX5_doingFromEnd_8 : decode cX5_doingFromEnd 8 = .ok (.if_icmp .ge 15, 3) := by decide +kernel
theorem dX5_doingFromEnd_11 : decode cX5_doingFromEnd 11 = .ok (.lload_n 3, 1) := by decide +kernel
theorem dX5_doingFromEnd_12 : decode cX5_doingFromEnd 12 = .ok (.ldc2_w 223, 3) := by decide +kernel
theorem dX5_doingFromEnd_15 : decode cX5_doingFromEnd 15 = .ok (.ldiv, 1) := by decide +kernel
theorem dX5_doingFromEnd_16 : decode cX5_doingFromEnd 16 = .ok (.lstore_n 3, 1) := by decide +kernel
theorem dX5_doingFromEnd_17 : decode cX5_doingFromEnd 17 = .ok (.iinc 5 1, 3) := by decide +kernel
theorem dX5_doingFromEnd_20 : decode cX5_doingFromEnd 20 = .ok (.goto (-15), 3) := by decide +kernel
theorem dX5_doingFromEnd_23 : decode cX5_doingFromEnd 23 = .ok (.lload_n 3, 1) := by decide +kernel
theorem dX5_doingFromEnd_24 : decode cX5_doingFromEnd 24 = .ok (.ldc2_w 223, 3) := by decide +kernel
theorem dX5_doingFromEnd_27 : decode cX5_doingFromEnd 27 = .ok (.lrem, 1) := by decide +kernel
theorem dX5_doingFromEnd_28 : decode cX5_doingFromEnd 28 = .ok (.l2i, 1) := by decide +kernel
theorem dX5_doingFromEnd_29 : decode cX5_doingFromEnd 29 = .ok (.ireturn, 1) := by decide +kernel
theorem dX5_canBe_0 : decode cX5_canBe 0 = .ok (.iload_n 2, 1) := by decide +kernel
theorem dX5_canBe_1 : decode cX5_canBe 1 = .ok (.bipush 10, 2) := by decide +kernel
theorem dX5_canBe_3 : decode cX5_canBe 3 = .ok (.idiv, 1) := by decide +kernel
theorem dX5_canBe_4 : decode cX5_canBe 4 = .ok (.bipush 10, 2) := by decide +kernel
theorem dX5_canBe_6 : decode cX5_canBe 6 = .ok (.irem, 1) := by decide +kernel
theorem dX5_canBe_7 : decode cX5_canBe 7 = .ok (.istore_n 3, 1) := by decide +kernel
theorem dX5_canBe_8 : decode cX5_canBe 8 = .ok (.iload_n 2, 1) := by decide +kernel
theorem dX5_canBe_9 : decode cX5_canBe 9 = .ok (.bipush 10, 2) := by decide +kernel
theorem dX5_canBe_11 : decode cX5_canBe 11 = .ok (.irem, 1) := by decide +kernel
theorem dX5_canBe_12 : decode cX5_canBe 12 = .ok (.istore 4, 2) := by decide +kernel
theorem dX5_canBe_14 : decode cX5_canBe 14 = .ok (.iload_n 2, 1) := by decide +kernel
theorem dX5_canBe_15 : decode cX5_canBe 15 = .ok (.bipush 100, 2) := by decide +kernel
theorem dX5_canBe_17 : decode cX5_canBe 17 = .ok (.idiv, 1) := by decide +kernel
theorem dX5_canBe_18 : decode cX5_canBe 18 = .ok (.tableswitch 176 1 5 #[34, 65, 96, 111, 153], 34) := by decide +kernel
theorem dX5_canBe_52 : decode cX5_canBe 52 = .ok (.iload_n 3, 1) := by decide +kernel
theorem dX5_canBe_53 : decode cX5_canBe 53 = .ok (.ifCond .ne 28, 3) := by decide +kernel
theorem dX5_canBe_56 : decode cX5_canBe 56 = .ok (.iload 4, 2) := by decide +kernel
theorem dX5_canBe_58 : decode cX5_canBe 58 = .ok (.invokestatic 114, 3) := by decide +kernel
theorem dX5_canBe_61 : decode cX5_canBe 61 = .ok (.ifCond .eq 20, 3) := by decide +kernel
theorem dX5_canBe_64 : decode cX5_canBe 64 = .ok (.aload_n 0, 1) := by decide +kernel
theorem dX5_canBe_65 : decode cX5_canBe 65 = .ok (.getfield 19, 3) := by decide +kernel
theorem dX5_canBe_68 : decode cX5_canBe 68 = .ok (.iload_n 1, 1) := by decide +kernel
theorem dX5_canBe_69 : decode cX5_canBe 69 = .ok (.iload 4, 2) := by decide +kernel
theorem dX5_canBe_71 : decode cX5_canBe 71 = .ok (.invokevirtual 220, 3) := by decide +kernel
theorem dX5_canBe_74 : decode cX5_canBe 74 = .ok (.ifCond .eq 7, 3) := by decide +kernel
theorem dX5_canBe_77 : decode cX5_canBe 77 = .ok (.iconst 1, 1) := by decide +kernel
theorem dX5_canBe_78 : decode cX5_canBe 78 = .ok (.goto 4, 3) := by decide +kernel
theorem dX5_canBe_81 : decode cX5_canBe 81 = .ok (.iconst 0, 1) := by decide +kernel
theorem dX5_canBe_82 : decode cX5_canBe 82 = .ok (.ireturn, 1) := by decide +kernel
theorem dX5_canBe_83 : decode cX5_canBe 83 = .ok (.iload_n 3, 1) := by decide +kernel
theorem dX5_canBe_84 : decode cX5_canBe 84 = .ok (.ifCond .ne 28, 3) := by decide +kernel
theorem dX5_canBe_87 : decode cX5_canBe 87 = .ok (.iload 4, 2) := by decide +kernel
theorem dX5_canBe_89 : decode cX5_canBe 89 = .ok (.invokestatic 114, 3) := by decide +kernel
theorem dX5_canBe_92 : decode cX5_canBe 92 = .ok (.ifCond .eq 20, 3) := by decide +kernel
theorem dX5_canBe_95 : decode cX5_canBe 95 = .ok (.aload_n 0, 1) := by decide +kernel
theorem dX5_canBe_96 : decode cX5_canBe 96 = .ok (.getfield 19, 3) := by decide +kernel
theorem dX5_canBe_99 : decode cX5_canBe 99 = .ok (.iload_n 1, 1) := by decide +kernel
theorem dX5_canBe_100 : decode cX5_canBe 100 = .ok (.iload 4, 2) := by decide +kernel
theorem dX5_canBe_102 : decode cX5_canBe 102 = .ok (.invokevirtual 133, 3) := by decide +kernel
theorem dX5_canBe_105 : decode cX5_canBe 105 = .ok (.ifCond .eq 7, 3) := by decide +kernel
theorem dX5_canBe_108 : decode cX5_canBe 108 = .ok (.iconst 1, 1) := by decide +kernel
theorem dX5_canBe_109 : decode cX5_canBe 109 = .ok (.goto 4, 3) := by decide +kernel
theorem dX5_canBe_112 : decode cX5_canBe 112 = .ok (.iconst 0, 1) := by decide +kernel
theorem dX5_canBe_113 : decode cX5_canBe 113 = .ok (.ireturn, 1) := by decide +kernel
theorem dX5_canBe_114 : decode cX5_canBe 114 = .ok (.iload_n 3, 1) := by decide +kernel
theorem dX5_canBe_115 : decode cX5_canBe 115 = .ok (.ifCond .ne 12, 3) := by decide +kernel
theorem dX5_canBe_118 : decode cX5_canBe 118 = .ok (.iload 4, 2) := by decide +kernel
theorem dX5_canBe_120 : decode cX5_canBe 120 = .ok (.ifCond .ne 7, 3) := by decide +kernel
theorem dX5_canBe_123 : decode cX5_canBe 123 = .ok (.iconst 1, 1) := by decide +kernel
theorem dX5_canBe_124 : decode cX5_canBe 124 = .ok (.goto 4, 3) := by decide +kernel
theorem dX5_canBe_127 : decode cX5_canBe 127 = .ok (.iconst 0, 1) := by decide +kernel
theorem dX5_canBe_128 : decode cX5_canBe 128 = .ok (.ireturn, 1) := by decide +kernel
theorem dX5_canBe_129 : decode cX5_canBe 129 = .ok (.iload_n 3, 1) := by decide +kernel
theorem dX5_canBe_130 : decode cX5_canBe 130 = .ok (.ifCond .ne 39, 3) := by decide +kernel
theorem dX5_canBe_133 : decode cX5_canBe 133 = .ok (.aload_n 0, 1) := by decide +kernel
theorem dX5_canBe_134 : decode cX5_canBe 134 = .ok (.getfield 19, 3) := by decide +kernel
theorem dX5_canBe_137 : decode cX5_canBe 137 = .ok (.iload 4, 2) := by decide +kernel
theorem dX5_canBe_139 : decode cX5_canBe 139 = .ok (.invokevirtual 103, 3) := by decide +kernel
theorem dX5_canBe_142 : decode cX5_canBe 142 = .ok (.ifCond .eq 27, 3) := by decide +kernel
theorem dX5_canBe_145 : decode cX5_canBe 145 = .ok (.iload_n 1, 1) := by decide +kernel
theorem dX5_canBe_146 : decode cX5_canBe 146 = .ok (.invokestatic 90, 3) := by decide +kernel
theorem dX5_canBe_149 : decode cX5_canBe 149 = .ok (.aload_n 0, 1) := by decide +kernel
theorem dX5_canBe_150 : decode cX5_canBe 150 = .ok (.getfield 19, 3) := by decide +kernel
theorem dX5_canBe_153 : decode cX5_canBe 153 = .ok (.iload 4, 2) := by decide +kernel
theorem dX5_canBe_155 : decode cX5_canBe 155 = .ok (.invokevirtual 106, 3) := by decide +kernel
theorem dX5_canBe_158 : decode cX5_canBe 158 = .ok (.ishr, 1) := by decide +kernel
theorem dX5_canBe_159 : decode cX5_canBe 159 = .ok (.iconst 1, 1) := by decide +kernel
theorem dX5_canBe_160 : decode cX5_canBe 160 = .ok (.iand, 1) := by decide +kernel
theorem dX5_canBe_161 : decode cX5_canBe 161 = .ok (.iconst 1, 1) := by decide +kernel
theorem dX5_canBe_162 : decode cX5_canBe 162 = .ok (.if_icmp .ne 7, 3) := by decide +kernel
theorem dX5_canBe_165 : decode cX5_canBe 165 = .ok (.iconst 1, 1) := by decide +kernel
theorem dX5_canBe_166 : decode cX5_canBe 166 = .ok (.goto 4, 3) := by decide +kernel
theorem dX5_canBe_169 : decode cX5_canBe 169 = .ok (.iconst 0, 1) := by decide +kernel
theorem dX5_canBe_170 : decode cX5_canBe 170 = .ok (.ireturn, 1) := by decide +kernel
theorem dX5_canBe_171 : decode cX5_canBe 171 = .ok (.iload_n 3, 1) := by decide +kernel
theorem dX5_canBe_172 : decode cX5_canBe 172 = .ok (.invokestatic 114, 3) := by decide +kernel
theorem dX5_canBe_175 : decode cX5_canBe 175 = .ok (.ifCond .eq 17, 3) := by decide +kernel
theorem dX5_canBe_178 : decode cX5_canBe 178 = .ok (.iload_n 1, 1) := by decide +kernel
theorem dX5_canBe_179 : decode cX5_canBe 179 = .ok (.iload_n 3, 1) := by decide +kernel
theorem dX5_canBe_180 : decode cX5_canBe 180 = .ok (.invokestatic 117, 3) := by decide +kernel
theorem dX5_canBe_183 : decode cX5_canBe 183 = .ok (.iload 4, 2) := by decide +kernel
theorem dX5_canBe_185 : decode cX5_canBe 185 = .ok (.if_icmp .lt 7, 3) := by decide +kernel
theorem dX5_canBe_188 : decode cX5_canBe 188 = .ok (.iconst 1, 1) := by decide +kernel
theorem dX5_canBe_189 : decode cX5_canBe 189 = .ok (.goto 4, 3) := by decide +kernel
theorem dX5_canBe_192 : decode cX5_canBe 192 = .ok (.iconst 0, 1) := by decide +kernel
theorem dX5_canBe_193 : decode cX5_canBe 193 = .ok (.ireturn, 1) := by decide +kernel
theorem dX5_canBe_194 : decode cX5_canBe 194 = .ok (.iconst 0, 1) := by decide +kernel
theorem dX5_canBe_195 : decode cX5_canBe 195 = .ok (.ireturn, 1) := by decide +kernel
theorem dX5_withDoing_0 : decode cX5_withDoing 0 = .ok (.iload_n 2, 1) := by decide +kernel
theorem dX5_withDoing_1 : decode cX5_withDoing 1 = .ok (.bipush 100, 2) := by decide +kernel
theorem dX5_withDoing_3 : decode cX5_withDoing 3 = .ok (.idiv, 1) := by decide +kernel
theorem dX5_withDoing_4 : decode cX5_withDoing 4 = .ok (.tableswitch 63 1 3 #[28, 41, 54], 28) := by decide +kernel
theorem dX5_withDoing_32 : decode cX5_withDoing 32 = .ok (.aload_n 0, 1) := by decide +kernel
theorem dX5_withDoing_33 : decode cX5_withDoing 33 = .ok (.getfield 19, 3) := by decide +kernel
theorem dX5_withDoing_36 : decode cX5_withDoing 36 = .ok (.iload_n 1, 1) := by decide +kernel
theorem dX5_withDoing_37 : decode cX5_withDoing 37 = .ok (.iload_n 2, 1) := by decide +kernel
theorem dX5_withDoing_38 : decode cX5_withDoing 38 = .ok (.bipush 10, 2) := by decide +kernel
theorem dX5_withDoing_40 : decode cX5_withDoing 40 = .ok (.irem, 1) := by decide +kernel
theorem dX5_withDoing_41 : decode cX5_withDoing 41 = .ok (.invokevirtual 127, 3) := by decide +kernel
theorem dX5_withDoing_44 : decode cX5_withDoing 44 = .ok (.ireturn, 1) := by decide +kernel
theorem dX5_withDoing_45 : decode cX5_withDoing 45 = .ok (.aload_n 0, 1) := by decide +kernel
theorem dX5_withDoing_46 : decode cX5_withDoing 46 = .ok (.getfield 19, 3) := by decide +kernel
theorem dX5_withDoing_49 : decode cX5_withDoing 49 = .ok (.iload_n 1, 1) := by decide +kernel
theorem dX5_withDoing_50 : decode cX5_withDoing 50 = .ok (.iload_n 2, 1) := by decide +kernel
theorem dX5_withDoing_51 : decode cX5_withDoing 51 = .ok (.bipush 10, 2) := by decide +kernel
theorem dX5_withDoing_53 : decode cX5_withDoing 53 = .ok (.irem, 1) := by decide +kernel
theorem dX5_withDoing_54 : decode cX5_withDoing 54 = .ok (.invokevirtual 137, 3) := by decide +kernel
theorem dX5_withDoing_57 : decode cX5_withDoing 57 = .ok (.ireturn, 1) := by decide +kernel
theorem dX5_withDoing_58 : decode cX5_withDoing 58 = .ok (.aload_n 0, 1) := by decide +kernel
theorem dX5_withDoing_59 : decode cX5_withDoing 59 = .ok (.getfield 19, 3) := by decide +kernel
theorem dX5_withDoing_62 : decode cX5_withDoing 62 = .ok (.iload_n 1, 1) := by decide +kernel
theorem dX5_withDoing_63 : decode cX5_withDoing 63 = .ok (.invokevirtual 140, 3) := by decide +kernel
theorem dX5_withDoing_66 : decode cX5_withDoing 66 = .ok (.ireturn, 1) := by decide +kernel
theorem dX5_withDoing_67 : decode cX5_withDoing 67 = .ok (.iload_n 1, 1) := by decide +kernel
theorem dX5_withDoing_68 : decode cX5_withDoing 68 = .ok (.ireturn, 1) := by decide +kernel
theorem dX5_ordersWith_0 : decode cX5_ordersWith 0 = .ok (.iload_n 1, 1) := by decide +kernel
theorem dX5_ordersWith_1 : decode cX5_ordersWith 1 = .ok (.invokestatic 184, 3) := by decide +kernel
theorem dX5_ordersWith_4 : decode cX5_ordersWith 4 = .ok (.aload_n 0, 1) := by decide +kernel
theorem dX5_ordersWith_5 : decode cX5_ordersWith 5 = .ok (.getfield 19, 3) := by decide +kernel
theorem dX5_ordersWith_8 : decode cX5_ordersWith 8 = .ok (.getfield 80, 3) := by decide +kernel
theorem dX5_ordersWith_11 : decode cX5_ordersWith 11 = .ok (.iconst 1, 1) := by decide +kernel
theorem dX5_ordersWith_12 : decode cX5_ordersWith 12 = .ok (.isub, 1) := by decide +kernel
theorem dX5_ordersWith_13 : decode cX5_ordersWith 13 = .ok (.iload_n 1, 1) := by decide +kernel
theorem dX5_ordersWith_14 : decode cX5_ordersWith 14 = .ok (.isub, 1) := by decide +kernel
theorem dX5_ordersWith_15 : decode cX5_ordersWith 15 = .ok (.invokestatic 184, 3) := by decide +kernel
theorem dX5_ordersWith_18 : decode cX5_ordersWith 18 = .ok (.imul, 1) := by decide +kernel
theorem dX5_ordersWith_19 : decode cX5_ordersWith 19 = .ok (.ireturn, 1) := by decide +kernel
theorem dX5_isRest_0 : decode cX5_isRest 0 = .ok (.aload_n 0, 1) := by decide +kernel
theorem dX5_isRest_1 : decode cX5_isRest 1 = .ok (.iload_n 1, 1) := by decide +kernel
theorem dX5_isRest_2 : decode cX5_isRest 2 = .ok (.iload_n 3, 1) := by decide +kernel
theorem dX5_isRest_3 : decode cX5_isRest 3 = .ok (.iload_n 2, 1) := by decide +kernel
theorem dX5_isRest_4 : decode cX5_isRest 4 = .ok (.iload 4, 2) := by decide +kernel
theorem dX5_isRest_6 : decode cX5_isRest 6 = .ok (.invokevirtual 225, 3) := by decide +kernel
theorem dX5_isRest_9 : decode cX5_isRest 9 = .ok (.istore 5, 2) := by decide +kernel
theorem dX5_isRest_11 : decode cX5_isRest 11 = .ok (.iload 5, 2) := by decide +kernel
theorem dX5_isRest_13 : decode cX5_isRest 13 = .ok (.iload_n 1, 1) := by decide +kernel
theorem dX5_isRest_14 : decode cX5_isRest 14 = .ok (.invokestatic 229, 3) := by decide +kernel
theorem dX5_isRest_17 : decode cX5_isRest 17 = .ok (.istore 6, 2) := by decide +kernel
theorem dX5_isRest_19 : decode cX5_isRest 19 = .ok (.iload 5, 2) := by decide +kernel
theorem dX5_isRest_21 : decode cX5_isRest 21 = .ok (.iload_n 2, 1) := by decide +kernel
theorem dX5_isRest_22 : decode cX5_isRest 22 = .ok (.invokestatic 229, 3) := by decide +kernel
theorem dX5_isRest_25 : decode cX5_isRest 25 = .ok (.istore 7, 2) := by decide +kernel
theorem dX5_isRest_27 : decode cX5_isRest 27 = .ok (.iconst 0, 1) := by decide +kernel
theorem dX5_isRest_28 : decode cX5_isRest 28 = .ok (.istore 8, 2) := by decide +kernel
theorem dX5_isRest_30 : decode cX5_isRest 30 = .ok (.iload 8, 2) := by decide +kernel
theorem dX5_isRest_32 : decode cX5_isRest 32 = .ok (.iconst 3, 1) := by decide +kernel
theorem dX5_isRest_33 : decode cX5_isRest 33 = .ok (.if_icmp .ge 48, 3) := by decide +kernel
theorem dX5_isRest_36 : decode cX5_isRest 36 = .ok (.aload_n 0, 1) := by decide +kernel
theorem dX5_isRest_37 : decode cX5_isRest 37 = .ok (.iload_n 1, 1) := by decide +kernel
theorem dX5_isRest_38 : decode cX5_isRest 38 = .ok (.iload 8, 2) := by decide +kernel
theorem dX5_isRest_40 : decode cX5_isRest 40 = .ok (.iload_n 2, 1) := by decide +kernel
theorem dX5_isRest_41 : decode cX5_isRest 41 = .ok (.iload 4, 2) := by decide +kernel
theorem dX5_isRest_43 : decode cX5_isRest 43 = .ok (.invokevirtual 225, 3) := by decide +kernel
theorem dX5_isRest_46 : decode cX5_isRest 46 = .ok (.iload_n 1, 1) := by decide +kernel
theorem dX5_isRest_47 : decode cX5_isRest 47 = .ok (.invokestatic 229, 3) := by decide +kernel
theorem dX5_isRest_50 : decode cX5_isRest 50 = .ok (.iload 6, 2) := by decide +kernel
theorem dX5_isRest_52 : decode cX5_isRest 52 = .ok (.if_icmp .gt 21, 3) := by decide +kernel
theorem dX5_isRest_55 : decode cX5_isRest 55 = .ok (.aload_n 0, 1) := by decide +kernel
theorem dX5_isRest_56 : decode cX5_isRest 56 = .ok (.iload_n 1, 1) := by decide +kernel
theorem dX5_isRest_57 : decode cX5_isRest 57 = .ok (.iload_n 3, 1) := by decide +kernel
theorem dX5_isRest_58 : decode cX5_isRest 58 = .ok (.iload_n 2, 1) := by decide +kernel
theorem dX5_isRest_59 : decode cX5_isRest 59 = .ok (.iload 8, 2) := by decide +kernel
theorem dX5_isRest_61 : decode cX5_isRest 61 = .ok (.invokevirtual 225, 3) := by decide +kernel
theorem dX5_isRest_64 : decode cX5_isRest 64 = .ok (.iload_n 2, 1) := by decide +kernel
theorem dX5_isRest_65 : decode cX5_isRest 65 = .ok (.invokestatic 229, 3) := by decide +kernel
theorem dX5_isRest_68 : decode cX5_isRest 68 = .ok (.iload 7, 2) := by decide +kernel
theorem dX5_isRest_70 : decode cX5_isRest 70 = .ok (.if_icmp .le 5, 3) := by decide +kernel
theorem dX5_isRest_73 : decode cX5_isRest 73 = .ok (.iconst 0, 1) := by decide +kernel
theorem dX5_isRest_74 : decode cX5_isRest 74 = .ok (.ireturn, 1) := by decide +kernel
theorem dX5_isRest_75 : decode cX5_isRest 75 = .ok (.iinc 8 1, 3) := by decide +kernel
theorem dX5_isRest_78 : decode cX5_isRest 78 = .ok (.goto (-48), 3) := by decide +kernel
theorem dX5_isRest_81 : decode cX5_isRest 81 = .ok (.iconst 1, 1) := by decide +kernel
theorem dX5_isRest_82 : decode cX5_isRest 82 = .ok (.ireturn, 1) := by decide +kernel
theorem dX5_withChoices_0 : decode cX5_withChoices 0 = .ok (.aload_n 0, 1) := by decide +kernel
theorem dX5_withChoices_1 : decode cX5_withChoices 1 = .ok (.aload_n 0, 1) := by decide +kernel
theorem dX5_withChoices_2 : decode cX5_withChoices 2 = .ok (.aload_n 0, 1) := by decide +kernel
theorem dX5_withChoices_3 : decode cX5_withChoices 3 = .ok (.getfield 48, 3) := by decide +kernel
theorem dX5_withChoices_6 : decode cX5_withChoices 6 = .ok (.iload_n 1, 1) := by decide +kernel
theorem dX5_withChoices_7 : decode cX5_withChoices 7 = .ok (.iload_n 2, 1) := by decide +kernel
theorem dX5_withChoices_8 : decode cX5_withChoices 8 = .ok (.invokevirtual 232, 3) := by decide +kernel
theorem dX5_withChoices_11 : decode cX5_withChoices 11 = .ok (.iload_n 3, 1) := by decide +kernel
theorem dX5_withChoices_12 : decode cX5_withChoices 12 = .ok (.iload 4, 2) := by decide +kernel
theorem dX5_withChoices_14 : decode cX5_withChoices 14 = .ok (.invokevirtual 232, 3) := by decide +kernel
theorem dX5_withChoices_17 : decode cX5_withChoices 17 = .ok (.ireturn, 1) := by decide +kernel
theorem dX5_withChoice_0 : decode cX5_withChoice 0 = .ok (.iload_n 3, 1) := by decide +kernel
theorem dX5_withChoice_1 : decode cX5_withChoice 1 = .ok (.iconst 1, 1) := by decide +kernel
theorem dX5_withChoice_2 : decode cX5_withChoice 2 = .ok (.if_icmp .ne 25, 3) := by decide +kernel
theorem dX5_withChoice_5 : decode cX5_withChoice 5 = .ok (.aload_n 0, 1) := by decide +kernel
theorem dX5_withChoice_6 : decode cX5_withChoice 6 = .ok (.getfield 19, 3) := by decide +kernel
theorem dX5_withChoice_9 : decode cX5_withChoice 9 = .ok (.iload_n 1, 1) := by decide +kernel
theorem dX5_withChoice_10 : decode cX5_withChoice 10 = .ok (.iload_n 2, 1) := by decide +kernel
theorem dX5_withChoice_11 : decode cX5_withChoice 11 = .ok (.invokevirtual 220, 3) := by decide +kernel
theorem dX5_withChoice_14 : decode cX5_withChoice 14 = .ok (.ifCond .eq 13, 3) := by decide +kernel
theorem dX5_withChoice_17 : decode cX5_withChoice 17 = .ok (.aload_n 0, 1) := by decide +kernel
theorem dX5_withChoice_18 : decode cX5_withChoice 18 = .ok (.getfield 19, 3) := by decide +kernel
theorem dX5_withChoice_21 : decode cX5_withChoice 21 = .ok (.iload_n 1, 1) := by decide +kernel
theorem dX5_withChoice_22 : decode cX5_withChoice 22 = .ok (.iload_n 2, 1) := by decide +kernel
theorem dX5_withChoice_23 : decode cX5_withChoice 23 = .ok (.invokevirtual 127, 3) := by decide +kernel
theorem dX5_withChoice_26 : decode cX5_withChoice 26 = .ok (.ireturn, 1) := by decide +kernel
theorem dX5_withChoice_27 : decode cX5_withChoice 27 = .ok (.iload_n 3, 1) := by decide +kernel
theorem dX5_withChoice_28 : decode cX5_withChoice 28 = .ok (.iconst 2, 1) := by decide +kernel
theorem dX5_withChoice_29 : decode cX5_withChoice 29 = .ok (.if_icmp .ne 25, 3) := by decide +kernel
theorem dX5_withChoice_32 : decode cX5_withChoice 32 = .ok (.aload_n 0, 1) := by decide +kernel
theorem dX5_withChoice_33 : decode cX5_withChoice 33 = .ok (.getfield 19, 3) := by decide +kernel
theorem dX5_withChoice_36 : decode cX5_withChoice 36 = .ok (.iload_n 1, 1) := by decide +kernel
theorem dX5_withChoice_37 : decode cX5_withChoice 37 = .ok (.iload_n 2, 1) := by decide +kernel
theorem dX5_withChoice_38 : decode cX5_withChoice 38 = .ok (.invokevirtual 133, 3) := by decide +kernel
theorem dX5_withChoice_41 : decode cX5_withChoice 41 = .ok (.ifCond .eq 13, 3) := by decide +kernel
theorem dX5_withChoice_44 : decode cX5_withChoice 44 = .ok (.aload_n 0, 1) := by decide +kernel
theorem dX5_withChoice_45 : decode cX5_withChoice 45 = .ok (.getfield 19, 3) := by decide +kernel
theorem dX5_withChoice_48 : decode cX5_withChoice 48 = .ok (.iload_n 1, 1) := by decide +kernel
theorem dX5_withChoice_49 : decode cX5_withChoice 49 = .ok (.iload_n 2, 1) := by decide +kernel
theorem dX5_withChoice_50 : decode cX5_withChoice 50 = .ok (.invokevirtual 137, 3) := by decide +kernel
theorem dX5_withChoice_53 : decode cX5_withChoice 53 = .ok (.ireturn, 1) := by decide +kernel
theorem dX5_withChoice_54 : decode cX5_withChoice 54 = .ok (.iload_n 1, 1) := by decide +kernel
theorem dX5_withChoice_55 : decode cX5_withChoice 55 = .ok (.ireturn, 1) := by decide +kernel
theorem dX5_worth_0 : decode cX5_worth 0 = .ok (.iload_n 0, 1) := by decide +kernel
theorem dX5_worth_1 : decode cX5_worth 1 = .ok (.invokestatic 90, 3) := by decide +kernel
theorem dX5_worth_4 : decode cX5_worth 4 = .ok (.sipush 4369, 3) := by decide +kernel
theorem dX5_worth_7 : decode cX5_worth 7 = .ok (.iload_n 1, 1) := by decide +kernel
theorem dX5_worth_8 : decode cX5_worth 8 = .ok (.ishl, 1) := by decide +kernel
theorem dX5_worth_9 : decode cX5_worth 9 = .ok (.iand, 1) := by decide +kernel
theorem dX5_worth_10 : decode cX5_worth 10 = .ok (.invokestatic 176, 3) := by decide +kernel
theorem dX5_worth_13 : decode cX5_worth 13 = .ok (.istore_n 2, 1) := by decide +kernel
theorem dX5_worth_14 : decode cX5_worth 14 = .ok (.iconst 2, 1) := by decide +kernel
theorem dX5_worth_15 : decode cX5_worth 15 = .ok (.iload_n 2, 1) := by decide +kernel
theorem dX5_worth_16 : decode cX5_worth 16 = .ok (.imul, 1) := by decide +kernel
theorem dX5_worth_17 : decode cX5_worth 17 = .ok (.iload_n 0, 1) := by decide +kernel
theorem dX5_worth_18 : decode cX5_worth 18 = .ok (.iload_n 1, 1) := by decide +kernel
theorem dX5_worth_19 : decode cX5_worth 19 = .ok (.invokestatic 117, 3) := by decide +kernel
theorem dX5_worth_22 : decode cX5_worth 22 = .ok (.isub, 1) := by decide +kernel
theorem dX5_worth_23 : decode cX5_worth 23 = .ok (.ireturn, 1) := by decide +kernel
theorem dX5_hadWithout_0 : decode cX5_hadWithout 0 = .ok (.aload_n 0, 1) := by decide +kernel
theorem dX5_hadWithout_1 : decode cX5_hadWithout 1 = .ok (.getfield 48, 3) := by decide +kernel
theorem dX5_hadWithout_4 : decode cX5_hadWithout 4 = .ok (.invokestatic 112, 3) := by decide +kernel
theorem dX5_hadWithout_7 : decode cX5_hadWithout 7 = .ok (.istore_n 2, 1) := by decide +kernel
theorem dX5_hadWithout_8 : decode cX5_hadWithout 8 = .ok (.iconst 0, 1) := by decide +kernel
theorem dX5_hadWithout_9 : decode cX5_hadWithout 9 = .ok (.istore_n 3, 1) := by decide +kernel
theorem dX5_hadWithout_10 : decode cX5_hadWithout 10 = .ok (.iload_n 3, 1) := by decide +kernel
theorem dX5_hadWithout_11 : decode cX5_hadWithout 11 = .ok (.iconst 4, 1) := by decide +kernel
theorem dX5_hadWithout_12 : decode cX5_hadWithout 12 = .ok (.if_icmp .ge 52, 3) := by decide +kernel
theorem dX5_hadWithout_15 : decode cX5_hadWithout 15 = .ok (.iload_n 1, 1) := by decide +kernel
theorem dX5_hadWithout_16 : decode cX5_hadWithout 16 = .ok (.iload_n 3, 1) := by decide +kernel
theorem dX5_hadWithout_17 : decode cX5_hadWithout 17 = .ok (.ishr, 1) := by decide +kernel
theorem dX5_hadWithout_18 : decode cX5_hadWithout 18 = .ok (.iconst 1, 1) := by decide +kernel
theorem dX5_hadWithout_19 : decode cX5_hadWithout 19 = .ok (.iand, 1) := by decide +kernel
theorem dX5_hadWithout_20 : decode cX5_hadWithout 20 = .ok (.iconst 1, 1) := by decide +kernel
theorem dX5_hadWithout_21 : decode cX5_hadWithout 21 = .ok (.if_icmp .ne 37, 3) := by decide +kernel
theorem dX5_hadWithout_24 : decode cX5_hadWithout 24 = .ok (.aload_n 0, 1) := by decide +kernel
theorem dX5_hadWithout_25 : decode cX5_hadWithout 25 = .ok (.getfield 19, 3) := by decide +kernel
theorem dX5_hadWithout_28 : decode cX5_hadWithout 28 = .ok (.aload_n 0, 1) := by decide +kernel
theorem dX5_hadWithout_29 : decode cX5_hadWithout 29 = .ok (.getfield 48, 3) := by decide +kernel
theorem dX5_hadWithout_32 : decode cX5_hadWithout 32 = .ok (.iload_n 3, 1) := by decide +kernel
theorem dX5_hadWithout_33 : decode cX5_hadWithout 33 = .ok (.invokevirtual 133, 3) := by decide +kernel
theorem dX5_hadWithout_36 : decode cX5_hadWithout 36 = .ok (.ifCond .eq 22, 3) := by decide +kernel
theorem dX5_hadWithout_39 : decode cX5_hadWithout 39 = .ok (.iload_n 2, 1) := by decide +kernel
theorem dX5_hadWithout_40 : decode cX5_hadWithout 40 = .ok (.iload_n 3, 1) := by decide +kernel
theorem dX5_hadWithout_41 : decode cX5_hadWithout 41 = .ok (.aload_n 0, 1) := by decide +kernel
theorem dX5_hadWithout_42 : decode cX5_hadWithout 42 = .ok (.getfield 48, 3) := by decide +kernel
theorem dX5_hadWithout_45 : decode cX5_hadWithout 45 = .ok (.iload_n 3, 1) := by decide +kernel
theorem dX5_hadWithout_46 : decode cX5_hadWithout 46 = .ok (.invokestatic 117, 3) := by decide +kernel
theorem dX5_hadWithout_49 : decode cX5_hadWithout 49 = .ok (.iconst 1, 1) := by decide +kernel
theorem dX5_hadWithout_50 : decode cX5_hadWithout 50 = .ok (.isub, 1) := by decide +kernel
theorem dX5_hadWithout_51 : decode cX5_hadWithout 51 = .ok (.invokestatic 236, 3) := by decide +kernel
theorem dX5_hadWithout_54 : decode cX5_hadWithout 54 = .ok (.iconst (-1), 1) := by decide +kernel
theorem dX5_hadWithout_55 : decode cX5_hadWithout 55 = .ok (.ixor, 1) := by decide +kernel
theorem dX5_hadWithout_56 : decode cX5_hadWithout 56 = .ok (.iand, 1) := by decide +kernel
theorem dX5_hadWithout_57 : decode cX5_hadWithout 57 = .ok (.istore_n 2, 1) := by decide +kernel
theorem dX5_hadWithout_58 : decode cX5_hadWithout 58 = .ok (.iinc 3 1, 3) := by decide +kernel
theorem dX5_hadWithout_61 : decode cX5_hadWithout 61 = .ok (.goto (-51), 3) := by decide +kernel
theorem dX5_hadWithout_64 : decode cX5_hadWithout 64 = .ok (.aload_n 0, 1) := by decide +kernel
theorem dX5_hadWithout_65 : decode cX5_hadWithout 65 = .ok (.getfield 19, 3) := by decide +kernel
theorem dX5_hadWithout_68 : decode cX5_hadWithout 68 = .ok (.aload_n 0, 1) := by decide +kernel
theorem dX5_hadWithout_69 : decode cX5_hadWithout 69 = .ok (.getfield 48, 3) := by decide +kernel
theorem dX5_hadWithout_72 : decode cX5_hadWithout 72 = .ok (.invokestatic 90, 3) := by decide +kernel
theorem dX5_hadWithout_75 : decode cX5_hadWithout 75 = .ok (.iload_n 2, 1) := by decide +kernel
theorem dX5_hadWithout_76 : decode cX5_hadWithout 76 = .ok (.invokevirtual 98, 3) := by decide +kernel
theorem dX5_hadWithout_79 : decode cX5_hadWithout 79 = .ok (.ireturn, 1) := by decide +kernel
theorem dX5_weightOf_0 : decode cX5_weightOf 0 = .ok (.iconst 1, 1) := by decide +kernel
theorem dX5_weightOf_1 : decode cX5_weightOf 1 = .ok (.istore_n 3, 1) := by decide +kernel
theorem dX5_weightOf_2 : decode cX5_weightOf 2 = .ok (.iconst 0, 1) := by decide +kernel
theorem dX5_weightOf_3 : decode cX5_weightOf 3 = .ok (.istore 4, 2) := by decide +kernel
theorem dX5_weightOf_5 : decode cX5_weightOf 5 = .ok (.iload 4, 2) := by decide +kernel
theorem dX5_weightOf_7 : decode cX5_weightOf 7 = .ok (.iconst 4, 1) := by decide +kernel
theorem dX5_weightOf_8 : decode cX5_weightOf 8 = .ok (.if_icmp .ge 68, 3) := by decide +kernel
theorem dX5_weightOf_11 : decode cX5_weightOf 11 = .ok (.iload_n 1, 1) := by decide +kernel
theorem dX5_weightOf_12 : decode cX5_weightOf 12 = .ok (.iload 4, 2) := by decide +kernel
theorem dX5_weightOf_14 : decode cX5_weightOf 14 = .ok (.ishr, 1) := by decide +kernel
theorem dX5_weightOf_15 : decode cX5_weightOf 15 = .ok (.iconst 1, 1) := by decide +kernel
theorem dX5_weightOf_16 : decode cX5_weightOf 16 = .ok (.iand, 1) := by decide +kernel
theorem dX5_weightOf_17 : decode cX5_weightOf 17 = .ok (.iconst 1, 1) := by decide +kernel
theorem dX5_weightOf_18 : decode cX5_weightOf 18 = .ok (.if_icmp .ne 7, 3) := by decide +kernel
theorem dX5_weightOf_21 : decode cX5_weightOf 21 = .ok (.iconst 1, 1) := by decide +kernel
theorem dX5_weightOf_22 : decode cX5_weightOf 22 = .ok (.goto 4, 3) := by decide +kernel
theorem dX5_weightOf_25 : decode cX5_weightOf 25 = .ok (.iconst 0, 1) := by decide +kernel
theorem dX5_weightOf_26 : decode cX5_weightOf 26 = .ok (.istore 5, 2) := by decide +kernel
theorem dX5_weightOf_28 : decode cX5_weightOf 28 = .ok (.aload_n 0, 1) := by decide +kernel
theorem dX5_weightOf_29 : decode cX5_weightOf 29 = .ok (.getfield 19, 3) := by decide +kernel
theorem dX5_weightOf_32 : decode cX5_weightOf 32 = .ok (.aload_n 0, 1) := by decide +kernel
theorem dX5_weightOf_33 : decode cX5_weightOf 33 = .ok (.getfield 48, 3) := by decide +kernel
theorem dX5_weightOf_36 : decode cX5_weightOf 36 = .ok (.iload 4, 2) := by decide +kernel
theorem dX5_weightOf_38 : decode cX5_weightOf 38 = .ok (.invokevirtual 133, 3) := by decide +kernel
theorem dX5_weightOf_41 : decode cX5_weightOf 41 = .ok (.ifCond .eq 22, 3) := by decide +kernel
theorem dX5_weightOf_44 : decode cX5_weightOf 44 = .ok (.iload_n 3, 1) := by decide +kernel
theorem dX5_weightOf_45 : decode cX5_weightOf 45 = .ok (.iload 5, 2) := by decide +kernel
theorem dX5_weightOf_47 : decode cX5_weightOf 47 = .ok (.ifCond .eq 7, 3) := by decide +kernel
theorem dX5_weightOf_50 : decode cX5_weightOf 50 = .ok (.iload_n 2, 1) := by decide +kernel
theorem dX5_weightOf_51 : decode cX5_weightOf 51 = .ok (.goto 7, 3) := by decide +kernel
theorem dX5_weightOf_54 : decode cX5_weightOf 54 = .ok (.bipush 10, 2) := by decide +kernel
theorem dX5_weightOf_56 : decode cX5_weightOf 56 = .ok (.iload_n 2, 1) := by decide +kernel
theorem dX5_weightOf_57 : decode cX5_weightOf 57 = .ok (.isub, 1) := by decide +kernel
theorem dX5_weightOf_58 : decode cX5_weightOf 58 = .ok (.imul, 1) := by decide +kernel
theorem dX5_weightOf_59 : decode cX5_weightOf 59 = .ok (.istore_n 3, 1) := by decide +kernel
theorem dX5_weightOf_60 : decode cX5_weightOf 60 = .ok (.goto 10, 3) := by decide +kernel
theorem dX5_weightOf_63 : decode cX5_weightOf 63 = .ok (.iload 5, 2) := by decide +kernel
theorem dX5_weightOf_65 : decode cX5_weightOf 65 = .ok (.ifCond .eq 5, 3) := by decide +kernel
theorem dX5_weightOf_68 : decode cX5_weightOf 68 = .ok (.iconst 0, 1) := by decide +kernel
theorem dX5_weightOf_69 : decode cX5_weightOf 69 = .ok (.ireturn, 1) := by decide +kernel
theorem dX5_weightOf_70 : decode cX5_weightOf 70 = .ok (.iinc 4 1, 3) := by decide +kernel
theorem dX5_weightOf_73 : decode cX5_weightOf 73 = .ok (.goto (-68), 3) := by decide +kernel
theorem dX5_weightOf_76 : decode cX5_weightOf 76 = .ok (.iload_n 3, 1) := by decide +kernel
theorem dX5_weightOf_77 : decode cX5_weightOf 77 = .ok (.ireturn, 1) := by decide +kernel
theorem dX5_withChance_0 : decode cX5_withChance 0 = .ok (.iload_n 2, 1) := by decide +kernel
theorem dX5_withChance_1 : decode cX5_withChance 1 = .ok (.bipush 15, 2) := by decide +kernel
theorem dX5_withChance_3 : decode cX5_withChance 3 = .ok (.if_icmp .ne 12, 3) := by decide +kernel
theorem dX5_withChance_6 : decode cX5_withChance 6 = .ok (.aload_n 0, 1) := by decide +kernel
theorem dX5_withChance_7 : decode cX5_withChance 7 = .ok (.getfield 19, 3) := by decide +kernel
theorem dX5_withChance_10 : decode cX5_withChance 10 = .ok (.iload_n 1, 1) := by decide +kernel
theorem dX5_withChance_11 : decode cX5_withChance 11 = .ok (.invokevirtual 140, 3) := by decide +kernel
theorem dX5_withChance_14 : decode cX5_withChance 14 = .ok (.ireturn, 1) := by decide +kernel
theorem dX5_withChance_15 : decode cX5_withChance 15 = .ok (.aload_n 0, 1) := by decide +kernel
theorem dX5_withChance_16 : decode cX5_withChance 16 = .ok (.iload_n 1, 1) := by decide +kernel
theorem dX5_withChance_17 : decode cX5_withChance 17 = .ok (.iload_n 2, 1) := by decide +kernel
theorem dX5_withChance_18 : decode cX5_withChance 18 = .ok (.iconst 4, 1) := by decide +kernel
theorem dX5_withChance_19 : decode cX5_withChance 19 = .ok (.irem, 1) := by decide +kernel
theorem dX5_withChance_20 : decode cX5_withChance 20 = .ok (.iload_n 2, 1) := by decide +kernel
theorem dX5_withChance_21 : decode cX5_withChance 21 = .ok (.bipush 8, 2) := by decide +kernel
theorem dX5_withChance_23 : decode cX5_withChance 23 = .ok (.if_icmp .gt 7, 3) := by decide +kernel
theorem dX5_withChance_26 : decode cX5_withChance 26 = .ok (.iconst 1, 1) := by decide +kernel
theorem dX5_withChance_27 : decode cX5_withChance 27 = .ok (.goto 4, 3) := by decide +kernel
theorem dX5_withChance_30 : decode cX5_withChance 30 = .ok (.iconst 2, 1) := by decide +kernel
theorem dX5_withChance_31 : decode cX5_withChance 31 = .ok (.invokevirtual 232, 3) := by decide +kernel
theorem dX5_withChance_34 : decode cX5_withChance 34 = .ok (.ireturn, 1) := by decide +kernel
theorem dX5_factorial_0 : decode cX5_factorial 0 = .ok (.iconst 1, 1) := by decide +kernel
theorem dX5_factorial_1 : decode cX5_factorial 1 = .ok (.istore_n 1, 1) := by decide +kernel
theorem dX5_factorial_2 : decode cX5_factorial 2 = .ok (.iconst 2, 1) := by decide +kernel
theorem dX5_factorial_3 : decode cX5_factorial 3 = .ok (.istore_n 2, 1) := by decide +kernel
theorem dX5_factorial_4 : decode cX5_factorial 4 = .ok (.iload_n 2, 1) := by decide +kernel
theorem dX5_factorial_5 : decode cX5_factorial 5 = .ok (.iload_n 0, 1) := by decide +kernel
theorem dX5_factorial_6 : decode cX5_factorial 6 = .ok (.if_icmp .gt 13, 3) := by decide +kernel
theorem dX5_factorial_9 : decode cX5_factorial 9 = .ok (.iload_n 1, 1) := by decide +kernel
theorem dX5_factorial_10 : decode cX5_factorial 10 = .ok (.iload_n 2, 1) := by decide +kernel
theorem dX5_factorial_11 : decode cX5_factorial 11 = .ok (.imul, 1) := by decide +kernel
theorem dX5_factorial_12 : decode cX5_factorial 12 = .ok (.istore_n 1, 1) := by decide +kernel
theorem dX5_factorial_13 : decode cX5_factorial 13 = .ok (.iinc 2 1, 3) := by decide +kernel
theorem dX5_factorial_16 : decode cX5_factorial 16 = .ok (.goto (-12), 3) := by decide +kernel
theorem dX5_factorial_19 : decode cX5_factorial 19 = .ok (.iload_n 1, 1) := by decide +kernel
theorem dX5_factorial_20 : decode cX5_factorial 20 = .ok (.ireturn, 1) := by decide +kernel
theorem dX5_powerOfTen_0 : decode cX5_powerOfTen 0 = .ok (.lconst 1, 1) := by decide +kernel
theorem dX5_powerOfTen_1 : decode cX5_powerOfTen 1 = .ok (.lstore_n 1, 1) := by decide +kernel
theorem dX5_powerOfTen_2 : decode cX5_powerOfTen 2 = .ok (.iconst 0, 1) := by decide +kernel
theorem dX5_powerOfTen_3 : decode cX5_powerOfTen 3 = .ok (.istore_n 3, 1) := by decide +kernel
theorem dX5_powerOfTen_4 : decode cX5_powerOfTen 4 = .ok (.iload_n 3, 1) := by decide +kernel
theorem dX5_powerOfTen_5 : decode cX5_powerOfTen 5 = .ok (.iload_n 0, 1) := by decide +kernel
theorem dX5_powerOfTen_6 : decode cX5_powerOfTen 6 = .ok (.if_icmp .ge 15, 3) := by decide +kernel
theorem dX5_powerOfTen_9 : decode cX5_powerOfTen 9 = .ok (.lload_n 1, 1) := by decide +kernel
theorem dX5_powerOfTen_10 : decode cX5_powerOfTen 10 = .ok (.ldc2_w 239, 3) := by decide +kernel
theorem dX5_powerOfTen_13 : decode cX5_powerOfTen 13 = .ok (.lmul, 1) := by decide +kernel
theorem dX5_powerOfTen_14 : decode cX5_powerOfTen 14 = .ok (.lstore_n 1, 1) := by decide +kernel
theorem dX5_powerOfTen_15 : decode cX5_powerOfTen 15 = .ok (.iinc 3 1, 3) := by decide +kernel
theorem dX5_powerOfTen_18 : decode cX5_powerOfTen 18 = .ok (.goto (-14), 3) := by decide +kernel
theorem dX5_powerOfTen_21 : decode cX5_powerOfTen 21 = .ok (.lload_n 1, 1) := by decide +kernel
theorem dX5_powerOfTen_22 : decode cX5_powerOfTen 22 = .ok (.lreturn, 1) := by decide +kernel
theorem dX5_told_0 : decode cX5_told 0 = .ok (.iload_n 0, 1) := by decide +kernel
theorem dX5_told_1 : decode cX5_told 1 = .ok (.iload_n 1, 1) := by decide +kernel
theorem dX5_told_2 : decode cX5_told 2 = .ok (.invokestatic 241, 3) := by decide +kernel
theorem dX5_told_5 : decode cX5_told 5 = .ok (.istore_n 3, 1) := by decide +kernel
theorem dX5_told_6 : decode cX5_told 6 = .ok (.iload_n 3, 1) := by decide +kernel
theorem dX5_told_7 : decode cX5_told 7 = .ok (.iconst 1, 1) := by decide +kernel
theorem dX5_told_8 : decode cX5_told 8 = .ok (.if_icmp .ge 13, 3) := by decide +kernel
theorem dX5_told_11 : decode cX5_told 11 = .ok (.iload_n 2, 1) := by decide +kernel
theorem dX5_told_12 : decode cX5_told 12 = .ok (.ifCond .eq 7, 3) := by decide +kernel
theorem dX5_told_15 : decode cX5_told 15 = .ok (.iload_n 0, 1) := by decide +kernel
theorem dX5_told_16 : decode cX5_told 16 = .ok (.goto 4, 3) := by decide +kernel
theorem dX5_told_19 : decode cX5_told 19 = .ok (.iload_n 1, 1) := by decide +kernel
theorem dX5_told_20 : decode cX5_told 20 = .ok (.ireturn, 1) := by decide +kernel
theorem dX5_told_21 : decode cX5_told 21 = .ok (.iload_n 2, 1) := by decide +kernel
theorem dX5_told_22 : decode cX5_told 22 = .ok (.ifCond .eq 9, 3) := by decide +kernel
theorem dX5_told_25 : decode cX5_told 25 = .ok (.iload_n 0, 1) := by decide +kernel
theorem dX5_told_26 : decode cX5_told 26 = .ok (.iload_n 3, 1) := by decide +kernel
theorem dX5_told_27 : decode cX5_told 27 = .ok (.idiv, 1) := by decide +kernel
theorem dX5_told_28 : decode cX5_told 28 = .ok (.goto 6, 3) := by decide +kernel
theorem dX5_told_31 : decode cX5_told 31 = .ok (.iload_n 1, 1) := by decide +kernel
theorem dX5_told_32 : decode cX5_told 32 = .ok (.iload_n 3, 1) := by decide +kernel
theorem dX5_told_33 : decode cX5_told 33 = .ok (.idiv, 1) := by decide +kernel
theorem dX5_told_34 : decode cX5_told 34 = .ok (.ireturn, 1) := by decide +kernel
theorem dX5_commonDivisor_0 : decode cX5_commonDivisor 0 = .ok (.iload_n 0, 1) := by decide +kernel
theorem dX5_commonDivisor_1 : decode cX5_commonDivisor 1 = .ok (.istore_n 2, 1) := by decide +kernel
theorem dX5_commonDivisor_2 : decode cX5_commonDivisor 2 = .ok (.iload_n 1, 1) := by decide +kernel
theorem dX5_commonDivisor_3 : decode cX5_commonDivisor 3 = .ok (.istore_n 3, 1) := by decide +kernel
theorem dX5_commonDivisor_4 : decode cX5_commonDivisor 4 = .ok (.iconst 0, 1) := by decide +kernel
theorem dX5_commonDivisor_5 : decode cX5_commonDivisor 5 = .ok (.istore 4, 2) := by decide +kernel
theorem dX5_commonDivisor_7 : decode cX5_commonDivisor 7 = .ok (.iload 4, 2) := by decide +kernel
theorem dX5_commonDivisor_9 : decode cX5_commonDivisor 9 = .ok (.bipush 64, 2) := by decide +kernel
theorem dX5_commonDivisor_11 : decode cX5_commonDivisor 11 = .ok (.if_icmp .ge 23, 3) := by decide +kernel
theorem dX5_commonDivisor_14 : decode cX5_commonDivisor 14 = .ok (.iload_n 3, 1) := by decide +kernel
theorem dX5_commonDivisor_15 : decode cX5_commonDivisor 15 = .ok (.ifCond .eq 19, 3) := by decide +kernel
theorem dX5_commonDivisor_18 : decode cX5_commonDivisor 18 = .ok (.iload_n 2, 1) := by decide +kernel
theorem dX5_commonDivisor_19 : decode cX5_commonDivisor 19 = .ok (.iload_n 3, 1) := by decide +kernel
theorem dX5_commonDivisor_20 : decode cX5_commonDivisor 20 = .ok (.irem, 1) := by decide +kernel
theorem dX5_commonDivisor_21 : decode cX5_commonDivisor 21 = .ok (.istore 5, 2) := by decide +kernel
theorem dX5_commonDivisor_23 : decode cX5_commonDivisor 23 = .ok (.iload_n 3, 1) := by decide +kernel
theorem dX5_commonDivisor_24 : decode cX5_commonDivisor 24 = .ok (.istore_n 2, 1) := by decide +kernel
theorem dX5_commonDivisor_25 : decode cX5_commonDivisor 25 = .ok (.iload 5, 2) := by decide +kernel
theorem dX5_commonDivisor_27 : decode cX5_commonDivisor 27 = .ok (.istore_n 3, 1) := by decide +kernel
theorem dX5_commonDivisor_28 : decode cX5_commonDivisor 28 = .ok (.iinc 4 1, 3) := by decide +kernel
theorem dX5_commonDivisor_31 : decode cX5_commonDivisor 31 = .ok (.goto (-24), 3) := by decide +kernel
theorem dX5_commonDivisor_34 : decode cX5_commonDivisor 34 = .ok (.iload_n 2, 1) := by decide +kernel
theorem dX5_commonDivisor_35 : decode cX5_commonDivisor 35 = .ok (.ireturn, 1) := by decide +kernel
end
section
theorem dX6_init_0 : decode cX6_init 0 = .ok (.aload_n 0, 1) := by decide +kernel
theorem dX6_init_1 : decode cX6_init 1 = .ok (.invokespecial 1, 3) := by decide +kernel
theorem dX6_init_4 : decode cX6_init 4 = .ok (.aload_n 0, 1) := by decide +kernel
theorem dX6_init_5 : decode cX6_init 5 = .ok (.bipush 32, 2) := by decide +kernel
theorem dX6_init_7 : decode cX6_init 7 = .ok (.newarray .int, 2) := by decide +kernel
theorem dX6_init_9 : decode cX6_init 9 = .ok (.putfield 7, 3) := by decide +kernel
theorem dX6_init_12 : decode cX6_init 12 = .ok (.aload_n 0, 1) := by decide +kernel
theorem dX6_init_13 : decode cX6_init 13 = .ok (.bipush 7, 2) := by decide +kernel
theorem dX6_init_15 : decode cX6_init 15 = .ok (.newarray .int, 2) := by decide +kernel
theorem dX6_init_17 : decode cX6_init 17 = .ok (.putfield 13, 3) := by decide +kernel
theorem dX6_init_20 : decode cX6_init 20 = .ok (.aload_n 0, 1) := by decide +kernel
theorem dX6_init_21 : decode cX6_init 21 = .ok (.bipush 7, 2) := by decide +kernel
theorem dX6_init_23 : decode cX6_init 23 = .ok (.newarray .int, 2) := by decide +kernel
theorem dX6_init_25 : decode cX6_init 25 = .ok (.putfield 16, 3) := by decide +kernel
theorem dX6_init_28 : decode cX6_init 28 = .ok (.aload_n 0, 1) := by decide +kernel
theorem dX6_init_29 : decode cX6_init 29 = .ok (.bipush 14, 2) := by decide +kernel
theorem dX6_init_31 : decode cX6_init 31 = .ok (.newarray .int, 2) := by decide +kernel
theorem dX6_init_33 : decode cX6_init 33 = .ok (.putfield 19, 3) := by decide +kernel
theorem dX6_init_36 : decode cX6_init 36 = .ok (.aload_n 0, 1) := by decide +kernel
theorem dX6_init_37 : decode cX6_init 37 = .ok (.bipush 7, 2) := by decide +kernel
theorem dX6_init_39 : decode cX6_init 39 = .ok (.newarray .int, 2) := by decide +kernel
theorem dX6_init_41 : decode cX6_init 41 = .ok (.putfield 22, 3) := by decide +kernel
theorem dX6_init_44 : decode cX6_init 44 = .ok (.aload_n 0, 1) := by decide +kernel
theorem dX6_init_45 : decode cX6_init 45 = .ok (.bipush 7, 2) := by decide +kernel
theorem dX6_init_47 : decode cX6_init 47 = .ok (.newarray .int, 2) := by decide +kernel
theorem dX6_init_49 : decode cX6_init 49 = .ok (.putfield 25, 3) := by decide +kernel
theorem dX6_init_52 : decode cX6_init 52 = .ok (.aload_n 0, 1) := by decide +kernel
theorem dX6_init_53 : decode cX6_init 53 = .ok (.bipush 98, 2) := by decide +kernel
theorem dX6_init_55 : decode cX6_init 55 = .ok (.newarray .int, 2) := by decide +kernel
theorem dX6_init_57 : decode cX6_init 57 = .ok (.putfield 28, 3) := by decide +kernel
theorem dX6_init_60 : decode cX6_init 60 = .ok (.aload_n 0, 1) := by decide +kernel
theorem dX6_init_61 : decode cX6_init 61 = .ok (.bipush 14, 2) := by decide +kernel
theorem dX6_init_63 : decode cX6_init 63 = .ok (.newarray .int, 2) := by decide +kernel
theorem dX6_init_65 : decode cX6_init 65 = .ok (.putfield 31, 3) := by decide +kernel
theorem dX6_init_68 : decode cX6_init 68 = .ok (.aload_n 0, 1) := by decide +kernel
theorem dX6_init_69 : decode cX6_init 69 = .ok (.iconst 2, 1) := by decide +kernel
theorem dX6_init_70 : decode cX6_init 70 = .ok (.newarray .boolean, 2) := by decide +kernel
theorem dX6_init_72 : decode cX6_init 72 = .ok (.putfield 34, 3) := by decide +kernel
theorem dX6_init_75 : decode cX6_init 75 = .ok (.aload_n 0, 1) := by decide +kernel
theorem dX6_init_76 : decode cX6_init 76 = .ok (.bipush 6, 2) := by decide +kernel
theorem dX6_init_78 : decode cX6_init 78 = .ok (.newarray .int, 2) := by decide +kernel
theorem dX6_init_80 : decode cX6_init 80 = .ok (.putfield 38, 3) := by decide +kernel
theorem dX6_init_83 : decode cX6_init 83 = .ok (.aload_n 0, 1) := by decide +kernel
theorem dX6_init_84 : decode cX6_init 84 = .ok (.bipush 6, 2) := by decide +kernel
theorem dX6_init_86 : decode cX6_init 86 = .ok (.newarray .int, 2) := by decide +kernel
theorem dX6_init_88 : decode cX6_init 88 = .ok (.putfield 41, 3) := by decide +kernel
theorem dX6_init_91 : decode cX6_init 91 = .ok (.aload_n 0, 1) := by decide +kernel
theorem dX6_init_92 : decode cX6_init 92 = .ok (.bipush 18, 2) := by decide +kernel
theorem dX6_init_94 : decode cX6_init 94 = .ok (.newarray .int, 2) := by decide +kernel
theorem dX6_init_96 : decode cX6_init 96 = .ok (.putfield 44, 3) := by decide +kernel
theorem dX6_init_99 : decode cX6_init 99 = .ok (.aload_n 0, 1) := by decide +kernel
theorem dX6_init_100 : decode cX6_init 100 = .ok (.sipush 128, 3) := by decide +kernel
theorem dX6_init_103 : decode cX6_init 103 = .ok (.newarray .int, 2) := by decide +kernel
theorem dX6_init_105 : decode cX6_init 105 = .ok (.putfield 47, 3) := by decide +kernel
theorem dX6_init_108 : decode cX6_init 108 = .ok (.return_, 1) := by decide +kernel
theorem dX6_in_0 : decode cX6_in 0 = .ok (.lload_n 0, 1) := by decide +kernel
theorem dX6_in_1 : decode cX6_in 1 = .ok (.lload_n 2, 1) := by decide +kernel
theorem dX6_in_2 : decode cX6_in 2 = .ok (.lcmp, 1) := by decide +kernel
theorem dX6_in_3 : decode cX6_in 3 = .ok (.ifCond .lt 14, 3) := by decide +kernel
theorem dX6_in_6 : decode cX6_in 6 = .ok (.lload_n 0, 1) := by decide +kernel
theorem dX6_in_7 : decode cX6_in 7 = .ok (.lload 4, 2) := by decide +kernel
theorem dX6_in_9 : decode cX6_in 9 = .ok (.lcmp, 1) := by decide +kernel
theorem dX6_in_10 : decode cX6_in 10 = .ok (.ifCond .gt 7, 3) := by decide +kernel
theorem dX6_in_13 : decode cX6_in 13 = .ok (.iconst 1, 1) := by decide +kernel
theorem dX6_in_14 : decode cX6_in 14 = .ok (.goto 4, 3) := by decide +kernel
theorem dX6_in_17 : decode cX6_in 17 = .ok (.iconst 0, 1) := by decide +kernel
theorem dX6_in_18 : decode cX6_in 18 = .ok (.ireturn, 1) := by decide +kernel
theorem dX6_has_0 : decode cX6_has 0 = .ok (.iload_n 0, 1) := by decide +kernel
theorem dX6_has_1 : decode cX6_has 1 = .ok (.iload_n 1, 1) := by decide +kernel
theorem dX6_has_2 : decode cX6_has 2 = .ok (.ishr, 1) := by decide +kernel
theorem dX6_has_3 : decode cX6_has 3 = .ok (.iconst 1, 1) := by decide +kernel
theorem dX6_has_4 : decode cX6_has 4 = .ok (.iand, 1) := by decide +kernel
theorem dX6_has_5 : decode cX6_has 5 = .ok (.iconst 1, 1) := by decide +kernel
theorem dX6_has_6 : decode cX6_has 6 = .ok (.if_icmp .ne 7, 3) := by decide +kernel
theorem dX6_has_9 : decode cX6_has 9 = .ok (.iconst 1, 1) := by decide +kernel
theorem dX6_has_10 : decode cX6_has 10 = .ok (.goto 4, 3) := by decide +kernel
theorem dX6_has_13 : decode cX6_has 13 = .ok (.iconst 0, 1) := by decide +kernel
theorem dX6_has_14 : decode cX6_has 14 = .ok (.ireturn, 1) := by decide +kernel
theorem dX6_many_0 : decode cX6_many 0 = .ok (.iconst 0, 1) := by decide +kernel
theorem dX6_many_1 : decode cX6_many 1 = .ok (.istore_n 1, 1) := by decide +kernel
theorem dX6_many_2 : decode cX6_many 2 = .ok (.iconst 0, 1) := by decide +kernel
theorem dX6_many_3 : decode cX6_many 3 = .ok (.istore_n 2, 1) := by decide +kernel
theorem dX6_many_4 : decode cX6_many 4 = .ok (.iload_n 2, 1) := by decide +kernel
theorem dX6_many_5 : decode cX6_many 5 = .ok (.bipush 7, 2) := by decide +kernel
theorem dX6_many_7 : decode cX6_many 7 = .ok (.if_icmp .ge 17, 3) := by decide +kernel
theorem dX6_many_10 : decode cX6_many 10 = .ok (.iload_n 1, 1) := by decide +kernel
theorem dX6_many_11 : decode cX6_many 11 = .ok (.iload_n 0, 1) := by decide +kernel
theorem dX6_many_12 : decode cX6_many 12 = .ok (.iload_n 2, 1) := by decide +kernel
theorem dX6_many_13 : decode cX6_many 13 = .ok (.ishr, 1) := by decide +kernel
theorem dX6_many_14 : decode cX6_many 14 = .ok (.iconst 1, 1) := by decide +kernel
theorem dX6_many_15 : decode cX6_many 15 = .ok (.iand, 1) := by decide +kernel
theorem dX6_many_16 : decode cX6_many 16 = .ok (.iadd, 1) := by decide +kernel
theorem dX6_many_17 : decode cX6_many 17 = .ok (.istore_n 1, 1) := by decide +kernel
theorem dX6_many_18 : decode cX6_many 18 = .ok (.iinc 2 1, 3) := by decide +kernel
theorem dX6_many_21 : decode cX6_many 21 = .ok (.goto (-17), 3) := by decide +kernel
theorem dX6_many_24 : decode cX6_many 24 = .ok (.iload_n 1, 1) := by decide +kernel
theorem dX6_many_25 : decode cX6_many 25 = .ok (.ireturn, 1) := by decide +kernel
theorem dX6_power_0 : decode cX6_power 0 = .ok (.iconst 1, 1) := by decide +kernel
theorem dX6_power_1 : decode cX6_power 1 = .ok (.istore_n 2, 1) := by decide +kernel
theorem dX6_power_2 : decode cX6_power 2 = .ok (.iconst 0, 1) := by decide +kernel
theorem dX6_power_3 : decode cX6_power 3 = .ok (.istore_n 3, 1) := by decide +kernel
theorem dX6_power_4 : decode cX6_power 4 = .ok (.iload_n 3, 1) := by decide +kernel
theorem dX6_power_5 : decode cX6_power 5 = .ok (.iload_n 1, 1) := by decide +kernel
theorem dX6_power_6 : decode cX6_power 6 = .ok (.if_icmp .ge 13, 3) := by decide +kernel
theorem dX6_power_9 : decode cX6_power 9 = .ok (.iload_n 2, 1) := by decide +kernel
theorem dX6_power_10 : decode cX6_power 10 = .ok (.iload_n 0, 1) := by decide +kernel
theorem dX6_power_11 : decode cX6_power 11 = .ok (.imul, 1) := by decide +kernel
theorem dX6_power_12 : decode cX6_power 12 = .ok (.istore_n 2, 1) := by decide +kernel
theorem dX6_power_13 : decode cX6_power 13 = .ok (.iinc 3 1, 3) := by decide +kernel
theorem dX6_power_16 : decode cX6_power 16 = .ok (.goto (-12), 3) := by decide +kernel
theorem dX6_power_19 : decode cX6_power 19 = .ok (.iload_n 2, 1) := by decide +kernel
theorem dX6_power_20 : decode cX6_power 20 = .ok (.ireturn, 1) := by decide +kernel
theorem dX6_noColumn_0 : decode cX6_noColumn 0 = .ok (.iload_n 0, 1) := by decide +kernel
theorem dX6_noColumn_1 : decode cX6_noColumn 1 = .ok (.i2l, 1) := by decide +kernel
theorem dX6_noColumn_2 : decode cX6_noColumn 2 = .ok (.lconst 0, 1) := by decide +kernel
theorem dX6_noColumn_3 : decode cX6_noColumn 3 = .ok (.ldc2_w 54, 3) := by decide +kernel
theorem dX6_noColumn_6 : decode cX6_noColumn 6 = .ok (.invokestatic 56, 3) := by decide +kernel
theorem dX6_noColumn_9 : decode cX6_noColumn 9 = .ok (.ifCond .ne 7, 3) := by decide +kernel
theorem dX6_noColumn_12 : decode cX6_noColumn 12 = .ok (.iconst 1, 1) := by decide +kernel
theorem dX6_noColumn_13 : decode cX6_noColumn 13 = .ok (.goto 4, 3) := by decide +kernel
theorem dX6_noColumn_16 : decode cX6_noColumn 16 = .ok (.iconst 0, 1) := by decide +kernel
theorem dX6_noColumn_17 : decode cX6_noColumn 17 = .ok (.ireturn, 1) := by decide +kernel
theorem dX6_noPart_0 : decode cX6_noPart 0 = .ok (.iload_n 1, 1) := by decide +kernel
theorem dX6_noPart_1 : decode cX6_noPart 1 = .ok (.i2l, 1) := by decide +kernel
theorem dX6_noPart_2 : decode cX6_noPart 2 = .ok (.lconst 0, 1) := by decide +kernel
theorem dX6_noPart_3 : decode cX6_noPart 3 = .ok (.aload_n 0, 1) := by decide +kernel
theorem dX6_noPart_4 : decode cX6_noPart 4 = .ok (.getfield 60, 3) := by decide +kernel
theorem dX6_noPart_7 : decode cX6_noPart 7 = .ok (.iconst 1, 1) := by decide +kernel
theorem dX6_noPart_8 : decode cX6_noPart 8 = .ok (.isub, 1) := by decide +kernel
theorem dX6_noPart_9 : decode cX6_noPart 9 = .ok (.i2l, 1) := by decide +kernel
theorem dX6_noPart_10 : decode cX6_noPart 10 = .ok (.invokestatic 56, 3) := by decide +kernel
theorem dX6_noPart_13 : decode cX6_noPart 13 = .ok (.ifCond .ne 7, 3) := by decide +kernel
theorem dX6_noPart_16 : decode cX6_noPart 16 = .ok (.iconst 1, 1) := by decide +kernel
theorem dX6_noPart_17 : decode cX6_noPart 17 = .ok (.goto 4, 3) := by decide +kernel
theorem dX6_noPart_20 : decode cX6_noPart 20 = .ok (.iconst 0, 1) := by decide +kernel
theorem dX6_noPart_21 : decode cX6_noPart 21 = .ok (.ireturn, 1) := by decide +kernel
theorem dX6_write_0 : decode cX6_write 0 = .ok (.aload_n 0, 1) := by decide +kernel
theorem dX6_write_1 : decode cX6_write 1 = .ok (.iconst 0, 1) := by decide +kernel
theorem dX6_write_2 : decode cX6_write 2 = .ok (.putfield 50, 3) := by decide +kernel
theorem dX6_write_5 : decode cX6_write 5 = .ok (.iload_n 1, 1) := by decide +kernel
theorem dX6_write_6 : decode cX6_write 6 = .ok (.i2l, 1) := by decide +kernel
theorem dX6_write_7 : decode cX6_write 7 = .ok (.lconst 0, 1) := by decide +kernel
theorem dX6_write_8 : decode cX6_write 8 = .ok (.ldc2_w 63, 3) := by decide +kernel
theorem dX6_write_11 : decode cX6_write 11 = .ok (.invokestatic 56, 3) := by decide +kernel
theorem dX6_write_14 : decode cX6_write 14 = .ok (.ifCond .ne 6, 3) := by decide +kernel
theorem dX6_write_17 : decode cX6_write 17 = .ok (.bipush (-2), 2) := by decide +kernel
theorem dX6_write_19 : decode cX6_write 19 = .ok (.ireturn, 1) := by decide +kernel
theorem dX6_write_20 : decode cX6_write 20 = .ok (.aload_n 0, 1) := by decide +kernel
theorem dX6_write_21 : decode cX6_write 21 = .ok (.getfield 65, 3) := by decide +kernel
theorem dX6_write_24 : decode cX6_write 24 = .ok (.bipush 32, 2) := by decide +kernel
theorem dX6_write_26 : decode cX6_write 26 = .ok (.if_icmp .ne 6, 3) := by decide +kernel
theorem dX6_write_29 : decode cX6_write 29 = .ok (.bipush (-4), 2) := by decide +kernel
theorem dX6_write_31 : decode cX6_write 31 = .ok (.ireturn, 1) := by decide +kernel
theorem dX6_write_32 : decode cX6_write 32 = .ok (.aload_n 0, 1) := by decide +kernel
theorem dX6_write_33 : decode cX6_write 33 = .ok (.getfield 7, 3) := by decide +kernel
theorem dX6_write_36 : decode cX6_write 36 = .ok (.aload_n 0, 1) := by decide +kernel
theorem dX6_write_37 : decode cX6_write 37 = .ok (.getfield 65, 3) := by decide +kernel
theorem dX6_write_40 : decode cX6_write 40 = .ok (.iload_n 1, 1) := by decide +kernel
theorem dX6_write_41 : decode cX6_write 41 = .ok (.iastore, 1) := by decide +kernel
theorem dX6_write_42 : decode cX6_write 42 = .ok (.aload_n 0, 1) := by decide +kernel
theorem dX6_write_43 : decode cX6_write 43 = .ok (.dup, 1) := by decide +kernel
theorem dX6_write_44 : decode cX6_write 44 = .ok (.getfield 65, 3) := by decide +kernel
theorem dX6_write_47 : decode cX6_write 47 = .ok (.iconst 1, 1) := by decide +kernel
theorem dX6_write_48 : decode cX6_write 48 = .ok (.iadd, 1) := by decide +kernel
theorem dX6_write_49 : decode cX6_write 49 = .ok (.putfield 65, 3) := by decide +kernel
theorem dX6_write_52 : decode cX6_write 52 = .ok (.aload_n 0, 1) := by decide +kernel
theorem dX6_write_53 : decode cX6_write 53 = .ok (.getfield 65, 3) := by decide +kernel
theorem dX6_write_56 : decode cX6_write 56 = .ok (.ireturn, 1) := by decide +kernel
theorem dX6_wipe_0 : decode cX6_wipe 0 = .ok (.aload_n 0, 1) := by decide +kernel
theorem dX6_wipe_1 : decode cX6_wipe 1 = .ok (.iconst 0, 1) := by decide +kernel
theorem dX6_wipe_2 : decode cX6_wipe 2 = .ok (.putfield 50, 3) := by decide +kernel
theorem dX6_wipe_5 : decode cX6_wipe 5 = .ok (.aload_n 0, 1) := by decide +kernel
theorem dX6_wipe_6 : decode cX6_wipe 6 = .ok (.getfield 65, 3) := by decide +kernel
theorem dX6_wipe_9 : decode cX6_wipe 9 = .ok (.istore_n 1, 1) := by decide +kernel
theorem dX6_wipe_10 : decode cX6_wipe 10 = .ok (.aload_n 0, 1) := by decide +kernel
theorem dX6_wipe_11 : decode cX6_wipe 11 = .ok (.iconst 0, 1) := by decide +kernel
theorem dX6_wipe_12 : decode cX6_wipe 12 = .ok (.putfield 65, 3) := by decide +kernel
theorem dX6_wipe_15 : decode cX6_wipe 15 = .ok (.iload_n 1, 1) := by decide +kernel
theorem dX6_wipe_16 : decode cX6_wipe 16 = .ok (.ireturn, 1) := by decide +kernel
theorem dX6_readPart_0 : decode cX6_readPart 0 = .ok (.aload_n 0, 1) := by decide +kernel
theorem dX6_readPart_1 : decode cX6_readPart 1 = .ok (.getfield 7, 3) := by decide +kernel
theorem dX6_readPart_4 : decode cX6_readPart 4 = .ok (.aload_n 0, 1) := by decide +kernel
theorem dX6_readPart_5 : decode cX6_readPart 5 = .ok (.getfield 68, 3) := by decide +kernel
theorem dX6_readPart_8 : decode cX6_readPart 8 = .ok (.iaload, 1) := by decide +kernel
theorem dX6_readPart_9 : decode cX6_readPart 9 = .ok (.bipush 80, 2) := by decide +kernel
theorem dX6_readPart_11 : decode cX6_readPart 11 = .ok (.if_icmp .ne 12, 3) := by decide +kernel
theorem dX6_readPart_14 : decode cX6_readPart 14 = .ok (.aload_n 0, 1) := by decide +kernel
theorem dX6_readPart_15 : decode cX6_readPart 15 = .ok (.getfield 71, 3) := by decide +kernel
theorem dX6_readPart_18 : decode cX6_readPart 18 = .ok (.bipush 7, 2) := by decide +kernel
theorem dX6_readPart_20 : decode cX6_readPart 20 = .ok (.if_icmp .ne 5, 3) := by decide +kernel
theorem dX6_readPart_23 : decode cX6_readPart 23 = .ok (.iconst 0, 1) := by decide +kernel
theorem dX6_readPart_24 : decode cX6_readPart 24 = .ok (.ireturn, 1) := by decide +kernel
theorem dX6_readPart_25 : decode cX6_readPart 25 = .ok (.aload_n 0, 1) := by decide +kernel
theorem dX6_readPart_26 : decode cX6_readPart 26 = .ok (.dup, 1) := by decide +kernel
theorem dX6_readPart_27 : decode cX6_readPart 27 = .ok (.getfield 68, 3) := by decide +kernel
theorem dX6_readPart_30 : decode cX6_readPart 30 = .ok (.iconst 1, 1) := by decide +kernel
theorem dX6_readPart_31 : decode cX6_readPart 31 = .ok (.iadd, 1) := by decide +kernel
theorem dX6_readPart_32 : decode cX6_readPart 32 = .ok (.putfield 68, 3) := by decide +kernel
theorem dX6_readPart_35 : decode cX6_readPart 35 = .ok (.aload_n 0, 1) := by decide +kernel
theorem dX6_readPart_36 : decode cX6_readPart 36 = .ok (.getfield 68, 3) := by decide +kernel
theorem dX6_readPart_39 : decode cX6_readPart 39 = .ok (.aload_n 0, 1) := by decide +kernel
theorem dX6_readPart_40 : decode cX6_readPart 40 = .ok (.getfield 65, 3) := by decide +kernel
theorem dX6_readPart_43 : decode cX6_readPart 43 = .ok (.if_icmp .ge 18, 3) := by decide +kernel
theorem dX6_readPart_46 : decode cX6_readPart 46 = .ok (.aload_n 0, 1) := by decide +kernel
theorem dX6_readPart_47 : decode cX6_readPart 47 = .ok (.getfield 7, 3) := by decide +kernel
theorem dX6_readPart_50 : decode cX6_readPart 50 = .ok (.aload_n 0, 1) := by decide +kernel
theorem dX6_readPart_51 : decode cX6_readPart 51 = .ok (.getfield 68, 3) := by decide +kernel
theorem dX6_readPart_54 : decode cX6_readPart 54 = .ok (.iaload, 1) := by decide +kernel
theorem dX6_readPart_55 : decode cX6_readPart 55 = .ok (.bipush 97, 2) := by decide +kernel
theorem dX6_readPart_57 : decode cX6_readPart 57 = .ok (.isub, 1) := by decide +kernel
theorem dX6_readPart_58 : decode cX6_readPart 58 = .ok (.goto 5, 3) := by decide +kernel
theorem dX6_readPart_61 : decode cX6_readPart 61 = .ok (.bipush (-9), 2) := by decide +kernel
theorem dX6_readPart_63 : decode cX6_readPart 63 = .ok (.istore_n 1, 1) := by decide +kernel
theorem dX6_readPart_64 : decode cX6_readPart 64 = .ok (.iload_n 1, 1) := by decide +kernel
theorem dX6_readPart_65 : decode cX6_readPart 65 = .ok (.i2l, 1) := by decide +kernel
theorem dX6_readPart_66 : decode cX6_readPart 66 = .ok (.lconst 0, 1) := by decide +kernel
theorem dX6_readPart_67 : decode cX6_readPart 67 = .ok (.ldc2_w 74, 3) := by decide +kernel
theorem dX6_readPart_70 : decode cX6_readPart 70 = .ok (.invokestatic 56, 3) := by decide +kernel
theorem dX6_readPart_73 : decode cX6_readPart 73 = .ok (.ifCond .eq 14, 3) := by decide +kernel
theorem dX6_readPart_76 : decode cX6_readPart 76 = .ok (.aload_n 0, 1) := by decide +kernel
theorem dX6_readPart_77 : decode cX6_readPart 77 = .ok (.getfield 76, 3) := by decide +kernel
theorem dX6_readPart_80 : decode cX6_readPart 80 = .ok (.iload_n 1, 1) := by decide +kernel
theorem dX6_readPart_81 : decode cX6_readPart 81 = .ok (.invokestatic 79, 3) := by decide +kernel
theorem dX6_readPart_84 : decode cX6_readPart 84 = .ok (.ifCond .eq 5, 3) := by decide +kernel
theorem dX6_readPart_87 : decode cX6_readPart 87 = .ok (.iconst 0, 1) := by decide +kernel
theorem dX6_readPart_88 : decode cX6_readPart 88 = .ok (.ireturn, 1) := by decide +kernel
theorem dX6_readPart_89 : decode cX6_readPart 89 = .ok (.aload_n 0, 1) := by decide +kernel
theorem dX6_readPart_90 : decode cX6_readPart 90 = .ok (.dup, 1) := by decide +kernel
theorem dX6_readPart_91 : decode cX6_readPart 91 = .ok (.getfield 68, 3) := by decide +kernel
theorem dX6_readPart_94 : decode cX6_readPart 94 = .ok (.iconst 1, 1) := by decide +kernel
theorem dX6_readPart_95 : decode cX6_readPart 95 = .ok (.iadd, 1) := by decide +kernel
theorem dX6_readPart_96 : decode cX6_readPart 96 = .ok (.putfield 68, 3) := by decide +kernel
theorem dX6_readPart_99 : decode cX6_readPart 99 = .ok (.aload_n 0, 1) := by decide +kernel
theorem dX6_readPart_100 : decode cX6_readPart 100 = .ok (.getfield 68, 3) := by decide +kernel
theorem dX6_readPart_103 : decode cX6_readPart 103 = .ok (.aload_n 0, 1) := by decide +kernel
theorem dX6_readPart_104 : decode cX6_readPart 104 = .ok (.getfield 65, 3) := by decide +kernel
theorem dX6_readPart_107 : decode cX6_readPart 107 = .ok (.if_icmp .ge 18, 3) := by decide +kernel
theorem dX6_readPart_110 : decode cX6_readPart 110 = .ok (.aload_n 0, 1) := by decide +kernel
theorem dX6_readPart_111 : decode cX6_readPart 111 = .ok (.getfield 7, 3) := by decide +kernel
theorem dX6_readPart_114 : decode cX6_readPart 114 = .ok (.aload_n 0, 1) := by decide +kernel
theorem dX6_readPart_115 : decode cX6_readPart 115 = .ok (.getfield 68, 3) := by decide +kernel
theorem dX6_readPart_118 : decode cX6_readPart 118 = .ok (.iaload, 1) := by decide +kernel
theorem dX6_readPart_119 : decode cX6_readPart 119 = .ok (.bipush 48, 2) := by decide +kernel
theorem dX6_readPart_121 : decode cX6_readPart 121 = .ok (.isub, 1) := by decide +kernel
theorem dX6_readPart_122 : decode cX6_readPart 122 = .ok (.goto 5, 3) := by decide +kernel
theorem dX6_readPart_125 : decode cX6_readPart 125 = .ok (.bipush (-9), 2) := by decide +kernel
theorem dX6_readPart_127 : decode cX6_readPart 127 = .ok (.istore_n 2, 1) := by decide +kernel
theorem dX6_readPart_128 : decode cX6_readPart 128 = .ok (.iload_n 2, 1) := by decide +kernel
theorem dX6_readPart_129 : decode cX6_readPart 129 = .ok (.i2l, 1) := by decide +kernel
theorem dX6_readPart_130 : decode cX6_readPart 130 = .ok (.lconst 0, 1) := by decide +kernel
theorem dX6_readPart_131 : decode cX6_readPart 131 = .ok (.ldc2_w 54, 3) := by decide +kernel
theorem dX6_readPart_134 : decode cX6_readPart 134 = .ok (.invokestatic 56, 3) := by decide +kernel
theorem dX6_readPart_137 : decode cX6_readPart 137 = .ok (.ifCond .ne 5, 3) := by decide +kernel
theorem dX6_readPart_140 : decode cX6_readPart 140 = .ok (.iconst 0, 1) := by decide +kernel
theorem dX6_readPart_141 : decode cX6_readPart 141 = .ok (.ireturn, 1) := by decide +kernel
theorem dX6_readPart_142 : decode cX6_readPart 142 = .ok (.aload_n 0, 1) := by decide +kernel
theorem dX6_readPart_143 : decode cX6_readPart 143 = .ok (.dup, 1) := by decide +kernel
theorem dX6_readPart_144 : decode cX6_readPart 144 = .ok (.getfield 68, 3) := by decide +kernel
theorem dX6_readPart_147 : decode cX6_readPart 147 = .ok (.iconst 1, 1) := by decide +kernel
theorem dX6_readPart_148 : decode cX6_readPart 148 = .ok (.iadd, 1) := by decide +kernel
theorem dX6_readPart_149 : decode cX6_readPart 149 = .ok (.putfield 68, 3) := by decide +kernel
theorem dX6_readPart_152 : decode cX6_readPart 152 = .ok (.aload_n 0, 1) := by decide +kernel
theorem dX6_readPart_153 : decode cX6_readPart 153 = .ok (.dup, 1) := by decide +kernel
theorem dX6_readPart_154 : decode cX6_readPart 154 = .ok (.getfield 76, 3) := by decide +kernel
theorem dX6_readPart_157 : decode cX6_readPart 157 = .ok (.iconst 1, 1) := by decide +kernel
theorem dX6_readPart_158 : decode cX6_readPart 158 = .ok (.iload_n 1, 1) := by decide +kernel
theorem dX6_readPart_159 : decode cX6_readPart 159 = .ok (.ishl, 1) := by decide +kernel
theorem dX6_readPart_160 : decode cX6_readPart 160 = .ok (.ior, 1) := by decide +kernel
theorem dX6_readPart_161 : decode cX6_readPart 161 = .ok (.putfield 76, 3) := by decide +kernel
theorem dX6_readPart_164 : decode cX6_readPart 164 = .ok (.aload_n 0, 1) := by decide +kernel
theorem dX6_readPart_165 : decode cX6_readPart 165 = .ok (.getfield 19, 3) := by decide +kernel
theorem dX6_readPart_168 : decode cX6_readPart 168 = .ok (.iconst 2, 1) := by decide +kernel
theorem dX6_readPart_169 : decode cX6_readPart 169 = .ok (.aload_n 0, 1) := by decide +kernel
theorem dX6_readPart_170 : decode cX6_readPart 170 = .ok (.getfield 71, 3) := by decide +kernel
theorem dX6_readPart_173 : decode cX6_readPart 173 = .ok (.imul, 1) := by decide +kernel
theorem dX6_readPart_174 : decode cX6_readPart 174 = .ok (.iload_n 1, 1) := by decide +kernel
theorem dX6_readPart_175 : decode cX6_readPart 175 = .ok (.iastore, 1) := by decide +kernel
theorem dX6_readPart_176 : decode cX6_readPart 176 = .ok (.aload_n 0, 1) := by decide +kernel
theorem dX6_readPart_177 : decode cX6_readPart 177 = .ok (.getfield 19, 3) := by decide +kernel
theorem dX6_readPart_180 : decode cX6_readPart 180 = .ok (.iconst 2, 1) := by decide +kernel
theorem dX6_readPart_181 : decode cX6_readPart 181 = .ok (.aload_n 0, 1) := by decide +kernel
theorem dX6_readPart_182 : decode cX6_readPart 182 = .ok (.getfield 71, 3) := by decide +kernel
theorem dX6_readPart_185 : decode cX6_readPart 185 = .ok (.imul, 1) := by decide +kernel
theorem dX6_readPart_186 : decode cX6_readPart 186 = .ok (.iconst 1, 1) := by decide +kernel
theorem dX6_readPart_187 : decode cX6_readPart 187 = .ok (.iadd, 1) := by decide +kernel
theorem dX6_readPart_188 : decode cX6_readPart 188 = .ok (.iload_n 2, 1) := by decide +kernel
theorem dX6_readPart_189 : decode cX6_readPart 189 = .ok (.iastore, 1) := by decide +kernel
theorem dX6_readPart_190 : decode cX6_readPart 190 = .ok (.aload_n 0, 1) := by decide +kernel
theorem dX6_readPart_191 : decode cX6_readPart 191 = .ok (.dup, 1) := by decide +kernel
theorem dX6_readPart_192 : decode cX6_readPart 192 = .ok (.getfield 71, 3) := by decide +kernel
theorem dX6_readPart_195 : decode cX6_readPart 195 = .ok (.iconst 1, 1) := by decide +kernel
theorem dX6_readPart_196 : decode cX6_readPart 196 = .ok (.iadd, 1) := by decide +kernel
theorem dX6_readPart_197 : decode cX6_readPart 197 = .ok (.putfield 71, 3) := by decide +kernel
theorem dX6_readPart_200 : decode cX6_readPart 200 = .ok (.iconst 1, 1) := by decide +kernel
theorem dX6_readPart_201 : decode cX6_readPart 201 = .ok (.ireturn, 1) := by decide +kernel
theorem dX6_readIdea_0 : decode cX6_readIdea 0 = .ok (.aload_n 0, 1) := by decide +kernel
theorem dX6_readIdea_1 : decode cX6_readIdea 1 = .ok (.iconst 0, 1) := by decide +kernel
theorem dX6_readIdea_2 : decode cX6_readIdea 2 = .ok (.putfield 68, 3) := by decide +kernel
theorem dX6_readIdea_5 : decode cX6_readIdea 5 = .ok (.aload_n 0, 1) := by decide +kernel
theorem dX6_readIdea_6 : decode cX6_readIdea 6 = .ok (.iconst 0, 1) := by decide +kernel
theorem dX6_readIdea_7 : decode cX6_readIdea 7 = .ok (.putfield 76, 3) := by decide +kernel
theorem dX6_readIdea_10 : decode cX6_readIdea 10 = .ok (.aload_n 0, 1) := by decide +kernel
theorem dX6_readIdea_11 : decode cX6_readIdea 11 = .ok (.iconst 0, 1) := by decide +kernel
theorem dX6_readIdea_12 : decode cX6_readIdea 12 = .ok (.putfield 71, 3) := by decide +kernel
theorem dX6_readIdea_15 : decode cX6_readIdea 15 = .ok (.aload_n 0, 1) := by decide +kernel
theorem dX6_readIdea_16 : decode cX6_readIdea 16 = .ok (.getfield 65, 3) := by decide +kernel
theorem dX6_readIdea_19 : decode cX6_readIdea 19 = .ok (.ifCond .eq 14, 3) := by decide +kernel
theorem dX6_readIdea_22 : decode cX6_readIdea 22 = .ok (.aload_n 0, 1) := by decide +kernel
theorem dX6_readIdea_23 : decode cX6_readIdea 23 = .ok (.getfield 7, 3) := by decide +kernel
theorem dX6_readIdea_26 : decode cX6_readIdea 26 = .ok (.iconst 0, 1) := by decide +kernel
theorem dX6_readIdea_27 : decode cX6_readIdea 27 = .ok (.iaload, 1) := by decide +kernel
theorem dX6_readIdea_28 : decode cX6_readIdea 28 = .ok (.bipush 73, 2) := by decide +kernel
theorem dX6_readIdea_30 : decode cX6_readIdea 30 = .ok (.if_icmp .eq 5, 3) := by decide +kernel
theorem dX6_readIdea_33 : decode cX6_readIdea 33 = .ok (.iconst 0, 1) := by decide +kernel
theorem dX6_readIdea_34 : decode cX6_readIdea 34 = .ok (.ireturn, 1) := by decide +kernel
theorem dX6_readIdea_35 : decode cX6_readIdea 35 = .ok (.aload_n 0, 1) := by decide +kernel
theorem dX6_readIdea_36 : decode cX6_readIdea 36 = .ok (.aload_n 0, 1) := by decide +kernel
theorem dX6_readIdea_37 : decode cX6_readIdea 37 = .ok (.getfield 65, 3) := by decide +kernel
theorem dX6_readIdea_40 : decode cX6_readIdea 40 = .ok (.iconst 1, 1) := by decide +kernel
theorem dX6_readIdea_41 : decode cX6_readIdea 41 = .ok (.if_icmp .le 15, 3) := by decide +kernel
theorem dX6_readIdea_44 : decode cX6_readIdea 44 = .ok (.aload_n 0, 1) := by decide +kernel
theorem dX6_readIdea_45 : decode cX6_readIdea 45 = .ok (.getfield 7, 3) := by decide +kernel
theorem dX6_readIdea_48 : decode cX6_readIdea 48 = .ok (.iconst 1, 1) := by decide +kernel
theorem dX6_readIdea_49 : decode cX6_readIdea 49 = .ok (.iaload, 1) := by decide +kernel
theorem dX6_readIdea_50 : decode cX6_readIdea 50 = .ok (.bipush 48, 2) := by decide +kernel
theorem dX6_readIdea_52 : decode cX6_readIdea 52 = .ok (.isub, 1) := by decide +kernel
theorem dX6_readIdea_53 : decode cX6_readIdea 53 = .ok (.goto 5, 3) := by decide +kernel
theorem dX6_readIdea_56 : decode cX6_readIdea 56 = .ok (.bipush (-9), 2) := by decide +kernel
theorem dX6_readIdea_58 : decode cX6_readIdea 58 = .ok (.putfield 83, 3) := by decide +kernel
theorem dX6_readIdea_61 : decode cX6_readIdea 61 = .ok (.aload_n 0, 1) := by decide +kernel
theorem dX6_readIdea_62 : decode cX6_readIdea 62 = .ok (.getfield 83, 3) := by decide +kernel
theorem dX6_readIdea_65 : decode cX6_readIdea 65 = .ok (.i2l, 1) := by decide +kernel
theorem dX6_readIdea_66 : decode cX6_readIdea 66 = .ok (.lconst 0, 1) := by decide +kernel
theorem dX6_readIdea_67 : decode cX6_readIdea 67 = .ok (.ldc2_w 86, 3) := by decide +kernel
theorem dX6_readIdea_70 : decode cX6_readIdea 70 = .ok (.invokestatic 56, 3) := by decide +kernel
theorem dX6_readIdea_73 : decode cX6_readIdea 73 = .ok (.ifCond .ne 5, 3) := by decide +kernel
theorem dX6_readIdea_76 : decode cX6_readIdea 76 = .ok (.iconst 1, 1) := by decide +kernel
theorem dX6_readIdea_77 : decode cX6_readIdea 77 = .ok (.ireturn, 1) := by decide +kernel
theorem dX6_readIdea_78 : decode cX6_readIdea 78 = .ok (.aload_n 0, 1) := by decide +kernel
theorem dX6_readIdea_79 : decode cX6_readIdea 79 = .ok (.iconst 2, 1) := by decide +kernel
theorem dX6_readIdea_80 : decode cX6_readIdea 80 = .ok (.putfield 68, 3) := by decide +kernel
theorem dX6_readIdea_83 : decode cX6_readIdea 83 = .ok (.aload_n 0, 1) := by decide +kernel
theorem dX6_readIdea_84 : decode cX6_readIdea 84 = .ok (.getfield 68, 3) := by decide +kernel
theorem dX6_readIdea_87 : decode cX6_readIdea 87 = .ok (.aload_n 0, 1) := by decide +kernel
theorem dX6_readIdea_88 : decode cX6_readIdea 88 = .ok (.getfield 65, 3) := by decide +kernel
theorem dX6_readIdea_91 : decode cX6_readIdea 91 = .ok (.if_icmp .ge 15, 3) := by decide +kernel
theorem dX6_readIdea_94 : decode cX6_readIdea 94 = .ok (.aload_n 0, 1) := by decide +kernel
theorem dX6_readIdea_95 : decode cX6_readIdea 95 = .ok (.invokevirtual 88, 3) := by decide +kernel
theorem dX6_readIdea_98 : decode cX6_readIdea 98 = .ok (.ifCond .ne (-15), 3) := by decide +kernel
theorem dX6_readIdea_101 : decode cX6_readIdea 101 = .ok (.aload_n 0, 1) := by decide +kernel
theorem dX6_readIdea_102 : decode cX6_readIdea 102 = .ok (.getfield 68, 3) := by decide +kernel
theorem dX6_readIdea_105 : decode cX6_readIdea 105 = .ok (.ireturn, 1) := by decide +kernel
theorem dX6_readIdea_106 : decode cX6_readIdea 106 = .ok (.bipush (-9), 2) := by decide +kernel
theorem dX6_readIdea_108 : decode cX6_readIdea 108 = .ok (.ireturn, 1) := by decide +kernel
theorem dX6_fault_0 : decode cX6_fault 0 = .ok (.aload_n 0, 1) := by decide +kernel
theorem dX6_fault_1 : decode cX6_fault 1 = .ok (.iconst 0, 1) := by decide +kernel
theorem dX6_fault_2 : decode cX6_fault 2 = .ok (.putfield 50, 3) := by decide +kernel
theorem dX6_fault_5 : decode cX6_fault 5 = .ok (.aload_n 0, 1) := by decide +kernel
theorem dX6_fault_6 : decode cX6_fault 6 = .ok (.invokevirtual 91, 3) := by decide +kernel
theorem dX6_fault_9 : decode cX6_fault 9 = .ok (.ireturn, 1) := by decide +kernel
theorem dX6_idea_0 : decode cX6_idea 0 = .ok (.aload_n 0, 1) := by decide +kernel
theorem dX6_idea_1 : decode cX6_idea 1 = .ok (.iconst 0, 1) := by decide +kernel
theorem dX6_idea_2 : decode cX6_idea 2 = .ok (.putfield 50, 3) := by decide +kernel
theorem dX6_idea_5 : decode cX6_idea 5 = .ok (.aload_n 0, 1) := by decide +kernel
theorem dX6_idea_6 : decode cX6_idea 6 = .ok (.invokevirtual 91, 3) := by decide +kernel
theorem dX6_idea_9 : decode cX6_idea 9 = .ok (.bipush (-9), 2) := by decide +kernel
theorem dX6_idea_11 : decode cX6_idea 11 = .ok (.if_icmp .eq 6, 3) := by decide +kernel
theorem dX6_idea_14 : decode cX6_idea 14 = .ok (.bipush (-3), 2) := by decide +kernel
theorem dX6_idea_16 : decode cX6_idea 16 = .ok (.ireturn, 1) := by decide +kernel
theorem dX6_idea_17 : decode cX6_idea 17 = .ok (.aload_n 0, 1) := by decide +kernel
theorem dX6_idea_18 : decode cX6_idea 18 = .ok (.aload_n 0, 1) := by decide +kernel
theorem dX6_idea_19 : decode cX6_idea 19 = .ok (.getfield 83, 3) := by decide +kernel
theorem dX6_idea_22 : decode cX6_idea 22 = .ok (.putfield 95, 3) := by decide +kernel
theorem dX6_idea_25 : decode cX6_idea 25 = .ok (.aload_n 0, 1) := by decide +kernel
theorem dX6_idea_26 : decode cX6_idea 26 = .ok (.aload_n 0, 1) := by decide +kernel
theorem dX6_idea_27 : decode cX6_idea 27 = .ok (.getfield 71, 3) := by decide +kernel
theorem dX6_idea_30 : decode cX6_idea 30 = .ok (.putfield 60, 3) := by decide +kernel
theorem dX6_idea_33 : decode cX6_idea 33 = .ok (.iconst 0, 1) := by decide +kernel
theorem dX6_idea_34 : decode cX6_idea 34 = .ok (.istore_n 1, 1) := by decide +kernel
theorem dX6_idea_35 : decode cX6_idea 35 = .ok (.iload_n 1, 1) := by decide +kernel
theorem dX6_idea_36 : decode cX6_idea 36 = .ok (.aload_n 0, 1) := by decide +kernel
theorem dX6_idea_37 : decode cX6_idea 37 = .ok (.getfield 60, 3) := by decide +kernel
theorem dX6_idea_40 : decode cX6_idea 40 = .ok (.if_icmp .ge 39, 3) := by decide +kernel
theorem dX6_idea_43 : decode cX6_idea 43 = .ok (.aload_n 0, 1) := by decide +kernel
theorem dX6_idea_44 : decode cX6_idea 44 = .ok (.getfield 13, 3) := by decide +kernel
theorem dX6_idea_47 : decode cX6_idea 47 = .ok (.iload_n 1, 1) := by decide +kernel
theorem dX6_idea_48 : decode cX6_idea 48 = .ok (.aload_n 0, 1) := by decide +kernel
theorem dX6_idea_49 : decode cX6_idea 49 = .ok (.getfield 19, 3) := by decide +kernel
theorem dX6_idea_52 : decode cX6_idea 52 = .ok (.iconst 2, 1) := by decide +kernel
theorem dX6_idea_53 : decode cX6_idea 53 = .ok (.iload_n 1, 1) := by decide +kernel
theorem dX6_idea_54 : decode cX6_idea 54 = .ok (.imul, 1) := by decide +kernel
theorem dX6_idea_55 : decode cX6_idea 55 = .ok (.iaload, 1) := by decide +kernel
theorem dX6_idea_56 : decode cX6_idea 56 = .ok (.iastore, 1) := by decide +kernel
theorem dX6_idea_57 : decode cX6_idea 57 = .ok (.aload_n 0, 1) := by decide +kernel
theorem dX6_idea_58 : decode cX6_idea 58 = .ok (.getfield 16, 3) := by decide +kernel
theorem dX6_idea_61 : decode cX6_idea 61 = .ok (.iload_n 1, 1) := by decide +kernel
theorem dX6_idea_62 : decode cX6_idea 62 = .ok (.aload_n 0, 1) := by decide +kernel
theorem dX6_idea_63 : decode cX6_idea 63 = .ok (.getfield 19, 3) := by decide +kernel
theorem dX6_idea_66 : decode cX6_idea 66 = .ok (.iconst 2, 1) := by decide +kernel
theorem dX6_idea_67 : decode cX6_idea 67 = .ok (.iload_n 1, 1) := by decide +kernel
theorem dX6_idea_68 : decode cX6_idea 68 = .ok (.imul, 1) := by decide +kernel
theorem dX6_idea_69 : decode cX6_idea 69 = .ok (.iconst 1, 1) := by decide +kernel
theorem dX6_idea_70 : decode cX6_idea 70 = .ok (.iadd, 1) := by decide +kernel
theorem dX6_idea_71 : decode cX6_idea 71 = .ok (.iaload, 1) := by decide +kernel
theorem dX6_idea_72 : decode cX6_idea 72 = .ok (.iastore, 1) := by decide +kernel
theorem dX6_idea_73 : decode cX6_idea 73 = .ok (.iinc 1 1, 3) := by decide +kernel
theorem dX6_idea_76 : decode cX6_idea 76 = .ok (.goto (-41), 3) := by decide +kernel
theorem dX6_idea_79 : decode cX6_idea 79 = .ok (.iconst 0, 1) := by decide +kernel
theorem dX6_idea_80 : decode cX6_idea 80 = .ok (.istore_n 1, 1) := by decide +kernel
theorem dX6_idea_81 : decode cX6_idea 81 = .ok (.iload_n 1, 1) := by decide +kernel
theorem dX6_idea_82 : decode cX6_idea 82 = .ok (.bipush 7, 2) := by decide +kernel
theorem dX6_idea_84 : decode cX6_idea 84 = .ok (.if_icmp .ge 16, 3) := by decide +kernel
theorem dX6_idea_87 : decode cX6_idea 87 = .ok (.aload_n 0, 1) := by decide +kernel
theorem dX6_idea_88 : decode cX6_idea 88 = .ok (.getfield 22, 3) := by decide +kernel
theorem dX6_idea_91 : decode cX6_idea 91 = .ok (.iload_n 1, 1) := by decide +kernel
theorem dX6_idea_92 : decode cX6_idea 92 = .ok (.iconst 0, 1) := by decide +kernel
theorem dX6_idea_93 : decode cX6_idea 93 = .ok (.iastore, 1) := by decide +kernel
theorem dX6_idea_94 : decode cX6_idea 94 = .ok (.iinc 1 1, 3) := by decide +kernel
theorem dX6_idea_97 : decode cX6_idea 97 = .ok (.goto (-16), 3) := by decide +kernel
theorem dX6_idea_100 : decode cX6_idea 100 = .ok (.aload_n 0, 1) := by decide +kernel
theorem dX6_idea_101 : decode cX6_idea 101 = .ok (.getfield 22, 3) := by decide +kernel
theorem dX6_idea_104 : decode cX6_idea 104 = .ok (.iconst 4, 1) := by decide +kernel
theorem dX6_idea_105 : decode cX6_idea 105 = .ok (.aload_n 0, 1) := by decide +kernel
theorem dX6_idea_106 : decode cX6_idea 106 = .ok (.getfield 95, 3) := by decide +kernel
theorem dX6_idea_109 : decode cX6_idea 109 = .ok (.iastore, 1) := by decide +kernel
theorem dX6_idea_110 : decode cX6_idea 110 = .ok (.aload_n 0, 1) := by decide +kernel
theorem dX6_idea_111 : decode cX6_idea 111 = .ok (.iconst 0, 1) := by decide +kernel
theorem dX6_idea_112 : decode cX6_idea 112 = .ok (.putfield 98, 3) := by decide +kernel
theorem dX6_idea_115 : decode cX6_idea 115 = .ok (.aload_n 0, 1) := by decide +kernel
theorem dX6_idea_116 : decode cX6_idea 116 = .ok (.getfield 34, 3) := by decide +kernel
theorem dX6_idea_119 : decode cX6_idea 119 = .ok (.iconst 0, 1) := by decide +kernel
theorem dX6_idea_120 : decode cX6_idea 120 = .ok (.iconst 0, 1) := by decide +kernel
theorem dX6_idea_121 : decode cX6_idea 121 = .ok (.bastore, 1) := by decide +kernel
theorem dX6_idea_122 : decode cX6_idea 122 = .ok (.aload_n 0, 1) := by decide +kernel
theorem dX6_idea_123 : decode cX6_idea 123 = .ok (.getfield 34, 3) := by decide +kernel
theorem dX6_idea_126 : decode cX6_idea 126 = .ok (.iconst 1, 1) := by decide +kernel
theorem dX6_idea_127 : decode cX6_idea 127 = .ok (.iconst 0, 1) := by decide +kernel
theorem dX6_idea_128 : decode cX6_idea 128 = .ok (.bastore, 1) := by decide +kernel
theorem dX6_idea_129 : decode cX6_idea 129 = .ok (.bipush 10, 2) := by decide +kernel
theorem dX6_idea_131 : decode cX6_idea 131 = .ok (.aload_n 0, 1) := by decide +kernel
theorem dX6_idea_132 : decode cX6_idea 132 = .ok (.getfield 95, 3) := by decide +kernel
theorem dX6_idea_135 : decode cX6_idea 135 = .ok (.imul, 1) := by decide +kernel
theorem dX6_idea_136 : decode cX6_idea 136 = .ok (.aload_n 0, 1) := by decide +kernel
theorem dX6_idea_137 : decode cX6_idea 137 = .ok (.getfield 60, 3) := by decide +kernel
theorem dX6_idea_140 : decode cX6_idea 140 = .ok (.iadd, 1) := by decide +kernel
theorem dX6_idea_141 : decode cX6_idea 141 = .ok (.ireturn, 1) := by decide +kernel
theorem dX6_partAt_0 : decode cX6_partAt 0 = .ok (.bipush (-9), 2) := by decide +kernel
theorem dX6_partAt_2 : decode cX6_partAt 2 = .ok (.istore_n 2, 1) := by decide +kernel
theorem dX6_partAt_3 : decode cX6_partAt 3 = .ok (.iconst 0, 1) := by decide +kernel
theorem dX6_partAt_4 : decode cX6_partAt 4 = .ok (.istore_n 3, 1) := by decide +kernel
theorem dX6_partAt_5 : decode cX6_partAt 5 = .ok (.iload_n 3, 1) := by decide +kernel
theorem dX6_partAt_6 : decode cX6_partAt 6 = .ok (.aload_n 0, 1) := by decide +kernel
theorem dX6_partAt_7 : decode cX6_partAt 7 = .ok (.getfield 60, 3) := by decide +kernel
theorem dX6_partAt_10 : decode cX6_partAt 10 = .ok (.if_icmp .ge 25, 3) := by decide +kernel
theorem dX6_partAt_13 : decode cX6_partAt 13 = .ok (.aload_n 0, 1) := by decide +kernel
theorem dX6_partAt_14 : decode cX6_partAt 14 = .ok (.getfield 13, 3) := by decide +kernel
theorem dX6_partAt_17 : decode cX6_partAt 17 = .ok (.iload_n 3, 1) := by decide +kernel
theorem dX6_partAt_18 : decode cX6_partAt 18 = .ok (.iaload, 1) := by decide +kernel
theorem dX6_partAt_19 : decode cX6_partAt 19 = .ok (.iload_n 1, 1) := by decide +kernel
theorem dX6_partAt_20 : decode cX6_partAt 20 = .ok (.if_icmp .ne 7, 3) := by decide +kernel
theorem dX6_partAt_23 : decode cX6_partAt 23 = .ok (.iload_n 3, 1) := by decide +kernel
theorem dX6_partAt_24 : decode cX6_partAt 24 = .ok (.goto 4, 3) := by decide +kernel
theorem dX6_partAt_27 : decode cX6_partAt 27 = .ok (.iload_n 2, 1) := by decide +kernel
theorem dX6_partAt_28 : decode cX6_partAt 28 = .ok (.istore_n 2, 1) := by decide +kernel
theorem dX6_partAt_29 : decode cX6_partAt 29 = .ok (.iinc 3 1, 3) := by decide +kernel
theorem dX6_partAt_32 : decode cX6_partAt 32 = .ok (.goto (-27), 3) := by decide +kernel
theorem dX6_partAt_35 : decode cX6_partAt 35 = .ok (.iload_n 2, 1) := by decide +kernel
theorem dX6_partAt_36 : decode cX6_partAt 36 = .ok (.ireturn, 1) := by decide +kernel
theorem dX6_hasPole_0 : decode cX6_hasPole 0 = .ok (.aload_n 0, 1) := by decide +kernel
theorem dX6_hasPole_1 : decode cX6_hasPole 1 = .ok (.getfield 13, 3) := by decide +kernel
theorem dX6_hasPole_4 : decode cX6_hasPole 4 = .ok (.iload_n 2, 1) := by decide +kernel
theorem dX6_hasPole_5 : decode cX6_hasPole 5 = .ok (.iaload, 1) := by decide +kernel
theorem dX6_hasPole_6 : decode cX6_hasPole 6 = .ok (.iconst 4, 1) := by decide +kernel
theorem dX6_hasPole_7 : decode cX6_hasPole 7 = .ok (.idiv, 1) := by decide +kernel
theorem dX6_hasPole_8 : decode cX6_hasPole 8 = .ok (.aload_n 1, 1) := by decide +kernel
theorem dX6_hasPole_9 : decode cX6_hasPole 9 = .ok (.aload_n 0, 1) := by decide +kernel
theorem dX6_hasPole_10 : decode cX6_hasPole 10 = .ok (.getfield 13, 3) := by decide +kernel
theorem dX6_hasPole_13 : decode cX6_hasPole 13 = .ok (.iload_n 2, 1) := by decide +kernel
theorem dX6_hasPole_14 : decode cX6_hasPole 14 = .ok (.iaload, 1) := by decide +kernel
theorem dX6_hasPole_15 : decode cX6_hasPole 15 = .ok (.iconst 4, 1) := by decide +kernel
theorem dX6_hasPole_16 : decode cX6_hasPole 16 = .ok (.irem, 1) := by decide +kernel
theorem dX6_hasPole_17 : decode cX6_hasPole 17 = .ok (.iaload, 1) := by decide +kernel
theorem dX6_hasPole_18 : decode cX6_hasPole 18 = .ok (.if_icmp .ge 7, 3) := by decide +kernel
theorem dX6_hasPole_21 : decode cX6_hasPole 21 = .ok (.iconst 1, 1) := by decide +kernel
theorem dX6_hasPole_22 : decode cX6_hasPole 22 = .ok (.goto 4, 3) := by decide +kernel
theorem dX6_hasPole_25 : decode cX6_hasPole 25 = .ok (.iconst 0, 1) := by decide +kernel
theorem dX6_hasPole_26 : decode cX6_hasPole 26 = .ok (.ireturn, 1) := by decide +kernel
theorem dX6_isBy_0 : decode cX6_isBy 0 = .ok (.iload_n 2, 1) := by decide +kernel
theorem dX6_isBy_1 : decode cX6_isBy 1 = .ok (.iconst 4, 1) := by decide +kernel
theorem dX6_isBy_2 : decode cX6_isBy 2 = .ok (.irem, 1) := by decide +kernel
theorem dX6_isBy_3 : decode cX6_isBy 3 = .ok (.iload 4, 2) := by decide +kernel
theorem dX6_isBy_5 : decode cX6_isBy 5 = .ok (.iadd, 1) := by decide +kernel
theorem dX6_isBy_6 : decode cX6_isBy 6 = .ok (.istore 5, 2) := by decide +kernel
theorem dX6_isBy_8 : decode cX6_isBy 8 = .ok (.iload_n 2, 1) := by decide +kernel
theorem dX6_isBy_9 : decode cX6_isBy 9 = .ok (.iconst 4, 1) := by decide +kernel
theorem dX6_isBy_10 : decode cX6_isBy 10 = .ok (.idiv, 1) := by decide +kernel
theorem dX6_isBy_11 : decode cX6_isBy 11 = .ok (.iload_n 3, 1) := by decide +kernel
theorem dX6_isBy_12 : decode cX6_isBy 12 = .ok (.iadd, 1) := by decide +kernel
theorem dX6_isBy_13 : decode cX6_isBy 13 = .ok (.istore 6, 2) := by decide +kernel
theorem dX6_isBy_15 : decode cX6_isBy 15 = .ok (.iload 5, 2) := by decide +kernel
theorem dX6_isBy_17 : decode cX6_isBy 17 = .ok (.invokestatic 101, 3) := by decide +kernel
theorem dX6_isBy_20 : decode cX6_isBy 20 = .ok (.ifCond .ne 8, 3) := by decide +kernel
theorem dX6_isBy_23 : decode cX6_isBy 23 = .ok (.iload 6, 2) := by decide +kernel
theorem dX6_isBy_25 : decode cX6_isBy 25 = .ok (.ifCond .ge 5, 3) := by decide +kernel
theorem dX6_isBy_28 : decode cX6_isBy 28 = .ok (.iconst 0, 1) := by decide +kernel
theorem dX6_isBy_29 : decode cX6_isBy 29 = .ok (.ireturn, 1) := by decide +kernel
theorem dX6_isBy_30 : decode cX6_isBy 30 = .ok (.aload_n 0, 1) := by decide +kernel
theorem dX6_isBy_31 : decode cX6_isBy 31 = .ok (.iconst 4, 1) := by decide +kernel
theorem dX6_isBy_32 : decode cX6_isBy 32 = .ok (.iload 6, 2) := by decide +kernel
theorem dX6_isBy_34 : decode cX6_isBy 34 = .ok (.imul, 1) := by decide +kernel
theorem dX6_isBy_35 : decode cX6_isBy 35 = .ok (.iload 5, 2) := by decide +kernel
theorem dX6_isBy_37 : decode cX6_isBy 37 = .ok (.iadd, 1) := by decide +kernel
theorem dX6_isBy_38 : decode cX6_isBy 38 = .ok (.invokevirtual 105, 3) := by decide +kernel
theorem dX6_isBy_41 : decode cX6_isBy 41 = .ok (.istore 7, 2) := by decide +kernel
theorem dX6_isBy_43 : decode cX6_isBy 43 = .ok (.iload 7, 2) := by decide +kernel
theorem dX6_isBy_45 : decode cX6_isBy 45 = .ok (.bipush (-9), 2) := by decide +kernel
theorem dX6_isBy_47 : decode cX6_isBy 47 = .ok (.if_icmp .eq 16, 3) := by decide +kernel
theorem dX6_isBy_50 : decode cX6_isBy 50 = .ok (.iload_n 1, 1) := by decide +kernel
theorem dX6_isBy_51 : decode cX6_isBy 51 = .ok (.iload 7, 2) := by decide +kernel
theorem dX6_isBy_53 : decode cX6_isBy 53 = .ok (.invokestatic 79, 3) := by decide +kernel
theorem dX6_isBy_56 : decode cX6_isBy 56 = .ok (.ifCond .eq 7, 3) := by decide +kernel
theorem dX6_isBy_59 : decode cX6_isBy 59 = .ok (.iconst 1, 1) := by decide +kernel
theorem dX6_isBy_60 : decode cX6_isBy 60 = .ok (.goto 4, 3) := by decide +kernel
theorem dX6_isBy_63 : decode cX6_isBy 63 = .ok (.iconst 0, 1) := by decide +kernel
theorem dX6_isBy_64 : decode cX6_isBy 64 = .ok (.ireturn, 1) := by decide +kernel
theorem dX6_standsBy_0 : decode cX6_standsBy 0 = .ok (.iload_n 0, 1) := by decide +kernel
theorem dX6_standsBy_1 : decode cX6_standsBy 1 = .ok (.tableswitch 63 1 3 #[27, 41, 61], 27) := by decide +kernel
theorem dX6_standsBy_28 : decode cX6_standsBy 28 = .ok (.iload_n 2, 1) := by decide +kernel
theorem dX6_standsBy_29 : decode cX6_standsBy 29 = .ok (.ifCond .eq 11, 3) := by decide +kernel
theorem dX6_standsBy_32 : decode cX6_standsBy 32 = .ok (.iload_n 3, 1) := by decide +kernel
theorem dX6_standsBy_33 : decode cX6_standsBy 33 = .ok (.ifCond .eq 7, 3) := by decide +kernel
theorem dX6_standsBy_36 : decode cX6_standsBy 36 = .ok (.iconst 1, 1) := by decide +kernel
theorem dX6_standsBy_37 : decode cX6_standsBy 37 = .ok (.goto 4, 3) := by decide +kernel
theorem dX6_standsBy_40 : decode cX6_standsBy 40 = .ok (.iconst 0, 1) := by decide +kernel
theorem dX6_standsBy_41 : decode cX6_standsBy 41 = .ok (.ireturn, 1) := by decide +kernel
theorem dX6_standsBy_42 : decode cX6_standsBy 42 = .ok (.iload_n 1, 1) := by decide +kernel
theorem dX6_standsBy_43 : decode cX6_standsBy 43 = .ok (.ifCond .ne 13, 3) := by decide +kernel
theorem dX6_standsBy_46 : decode cX6_standsBy 46 = .ok (.iload 4, 2) := by decide +kernel
theorem dX6_standsBy_48 : decode cX6_standsBy 48 = .ok (.ifCond .ne 8, 3) := by decide +kernel
theorem dX6_standsBy_51 : decode cX6_standsBy 51 = .ok (.iload 5, 2) := by decide +kernel
theorem dX6_standsBy_53 : decode cX6_standsBy 53 = .ok (.ifCond .eq 7, 3) := by decide +kernel
theorem dX6_standsBy_56 : decode cX6_standsBy 56 = .ok (.iconst 1, 1) := by decide +kernel
theorem dX6_standsBy_57 : decode cX6_standsBy 57 = .ok (.goto 4, 3) := by decide +kernel
theorem dX6_standsBy_60 : decode cX6_standsBy 60 = .ok (.iconst 0, 1) := by decide +kernel
theorem dX6_standsBy_61 : decode cX6_standsBy 61 = .ok (.ireturn, 1) := by decide +kernel
theorem dX6_standsBy_62 : decode cX6_standsBy 62 = .ok (.iconst 1, 1) := by decide +kernel
theorem dX6_standsBy_63 : decode cX6_standsBy 63 = .ok (.ireturn, 1) := by decide +kernel
theorem dX6_standsBy_64 : decode cX6_standsBy 64 = .ok (.iload_n 1, 1) := by decide +kernel
theorem dX6_standsBy_65 : decode cX6_standsBy 65 = .ok (.ireturn, 1) := by decide +kernel
theorem dX6_stands_0 : decode cX6_stands 0 = .ok (.aload_n 0, 1) := by decide +kernel
theorem dX6_stands_1 : decode cX6_stands 1 = .ok (.getfield 13, 3) := by decide +kernel
theorem dX6_stands_4 : decode cX6_stands 4 = .ok (.iload_n 2, 1) := by decide +kernel
theorem dX6_stands_5 : decode cX6_stands 5 = .ok (.iaload, 1) := by decide +kernel
theorem dX6_stands_6 : decode cX6_stands 6 = .ok (.istore 4, 2) := by decide +kernel
theorem dX6_stands_8 : decode cX6_stands 8 = .ok (.iload 4, 2) := by decide +kernel
theorem dX6_stands_10 : decode cX6_stands 10 = .ok (.iconst 4, 1) := by decide +kernel
theorem dX6_stands_11 : decode cX6_stands 11 = .ok (.if_icmp .lt 12, 3) := by decide +kernel
theorem dX6_stands_14 : decode cX6_stands 14 = .ok (.aload_n 0, 1) := by decide +kernel
theorem dX6_stands_15 : decode cX6_stands 15 = .ok (.aload_n 1, 1) := by decide +kernel
theorem dX6_stands_16 : decode cX6_stands 16 = .ok (.iload_n 2, 1) := by decide +kernel
theorem dX6_stands_17 : decode cX6_stands 17 = .ok (.invokevirtual 109, 3) := by decide +kernel
theorem dX6_stands_20 : decode cX6_stands 20 = .ok (.ifCond .eq 5, 3) := by decide +kernel
theorem dX6_stands_23 : decode cX6_stands 23 = .ok (.iconst 1, 1) := by decide +kernel
theorem dX6_stands_24 : decode cX6_stands 24 = .ok (.ireturn, 1) := by decide +kernel
theorem dX6_stands_25 : decode cX6_stands 25 = .ok (.aload_n 0, 1) := by decide +kernel
theorem dX6_stands_26 : decode cX6_stands 26 = .ok (.getfield 16, 3) := by decide +kernel
theorem dX6_stands_29 : decode cX6_stands 29 = .ok (.iload_n 2, 1) := by decide +kernel
theorem dX6_stands_30 : decode cX6_stands 30 = .ok (.iaload, 1) := by decide +kernel
theorem dX6_stands_31 : decode cX6_stands 31 = .ok (.aload_n 0, 1) := by decide +kernel
theorem dX6_stands_32 : decode cX6_stands 32 = .ok (.iload_n 3, 1) := by decide +kernel
theorem dX6_stands_33 : decode cX6_stands 33 = .ok (.iload 4, 2) := by decide +kernel
theorem dX6_stands_35 : decode cX6_stands 35 = .ok (.iconst (-1), 1) := by decide +kernel
theorem dX6_stands_36 : decode cX6_stands 36 = .ok (.iconst 0, 1) := by decide +kernel
theorem dX6_stands_37 : decode cX6_stands 37 = .ok (.invokevirtual 113, 3) := by decide +kernel
theorem dX6_stands_40 : decode cX6_stands 40 = .ok (.aload_n 0, 1) := by decide +kernel
theorem dX6_stands_41 : decode cX6_stands 41 = .ok (.iload_n 3, 1) := by decide +kernel
theorem dX6_stands_42 : decode cX6_stands 42 = .ok (.iload 4, 2) := by decide +kernel
theorem dX6_stands_44 : decode cX6_stands 44 = .ok (.iconst 0, 1) := by decide +kernel
theorem dX6_stands_45 : decode cX6_stands 45 = .ok (.iconst (-1), 1) := by decide +kernel
theorem dX6_stands_46 : decode cX6_stands 46 = .ok (.invokevirtual 113, 3) := by decide +kernel
theorem dX6_stands_49 : decode cX6_stands 49 = .ok (.aload_n 0, 1) := by decide +kernel
theorem dX6_stands_50 : decode cX6_stands 50 = .ok (.iload_n 3, 1) := by decide +kernel
theorem dX6_stands_51 : decode cX6_stands 51 = .ok (.iload 4, 2) := by decide +kernel
theorem dX6_stands_53 : decode cX6_stands 53 = .ok (.iconst 0, 1) := by decide +kernel
theorem dX6_stands_54 : decode cX6_stands 54 = .ok (.iconst 1, 1) := by decide +kernel
theorem dX6_stands_55 : decode cX6_stands 55 = .ok (.invokevirtual 113, 3) := by decide +kernel
theorem dX6_stands_58 : decode cX6_stands 58 = .ok (.aload_n 0, 1) := by decide +kernel
theorem dX6_stands_59 : decode cX6_stands 59 = .ok (.iload_n 3, 1) := by decide +kernel
theorem dX6_stands_60 : decode cX6_stands 60 = .ok (.iload 4, 2) := by decide +kernel
theorem dX6_stands_62 : decode cX6_stands 62 = .ok (.iconst (-1), 1) := by decide +kernel
theorem dX6_stands_63 : decode cX6_stands 63 = .ok (.iconst (-1), 1) := by decide +kernel
theorem dX6_stands_64 : decode cX6_stands 64 = .ok (.invokevirtual 113, 3) := by decide +kernel
theorem dX6_stands_67 : decode cX6_stands 67 = .ok (.aload_n 0, 1) := by decide +kernel
theorem dX6_stands_68 : decode cX6_stands 68 = .ok (.iload_n 3, 1) := by decide +kernel
theorem dX6_stands_69 : decode cX6_stands 69 = .ok (.iload 4, 2) := by decide +kernel
theorem dX6_stands_71 : decode cX6_stands 71 = .ok (.iconst (-1), 1) := by decide +kernel
theorem dX6_stands_72 : decode cX6_stands 72 = .ok (.iconst 1, 1) := by decide +kernel
theorem dX6_stands_73 : decode cX6_stands 73 = .ok (.invokevirtual 113, 3) := by decide +kernel
theorem dX6_stands_76 : decode cX6_stands 76 = .ok (.invokestatic 117, 3) := by decide +kernel
theorem dX6_stands_79 : decode cX6_stands 79 = .ok (.ireturn, 1) := by decide +kernel
theorem dX6_standing_0 : decode cX6_standing 0 = .ok (.iconst 0, 1) := by decide +kernel
theorem dX6_standing_1 : decode cX6_standing 1 = .ok (.istore_n 2, 1) := by decide +kernel
theorem dX6_standing_2 : decode cX6_standing 2 = .ok (.iconst 0, 1) := by decide +kernel
theorem dX6_standing_3 : decode cX6_standing 3 = .ok (.istore_n 3, 1) := by decide +kernel
theorem dX6_standing_4 : decode cX6_standing 4 = .ok (.iload_n 3, 1) := by decide +kernel
theorem dX6_standing_5 : decode cX6_standing 5 = .ok (.bipush 7, 2) := by decide +kernel
theorem dX6_standing_7 : decode cX6_standing 7 = .ok (.if_icmp .ge 60, 3) := by decide +kernel
theorem dX6_standing_10 : decode cX6_standing 10 = .ok (.iconst 0, 1) := by decide +kernel
theorem dX6_standing_11 : decode cX6_standing 11 = .ok (.istore 4, 2) := by decide +kernel
theorem dX6_standing_13 : decode cX6_standing 13 = .ok (.iload 4, 2) := by decide +kernel
theorem dX6_standing_15 : decode cX6_standing 15 = .ok (.aload_n 0, 1) := by decide +kernel
theorem dX6_standing_16 : decode cX6_standing 16 = .ok (.getfield 60, 3) := by decide +kernel
theorem dX6_standing_19 : decode cX6_standing 19 = .ok (.if_icmp .ge 42, 3) := by decide +kernel
theorem dX6_standing_22 : decode cX6_standing 22 = .ok (.iload_n 2, 1) := by decide +kernel
theorem dX6_standing_23 : decode cX6_standing 23 = .ok (.aload_n 1, 1) := by decide +kernel
theorem dX6_standing_24 : decode cX6_standing 24 = .ok (.iconst 5, 1) := by decide +kernel
theorem dX6_standing_25 : decode cX6_standing 25 = .ok (.iaload, 1) := by decide +kernel
theorem dX6_standing_26 : decode cX6_standing 26 = .ok (.iload 4, 2) := by decide +kernel
theorem dX6_standing_28 : decode cX6_standing 28 = .ok (.invokestatic 79, 3) := by decide +kernel
theorem dX6_standing_31 : decode cX6_standing 31 = .ok (.ifCond .eq 21, 3) := by decide +kernel
theorem dX6_standing_34 : decode cX6_standing 34 = .ok (.aload_n 0, 1) := by decide +kernel
theorem dX6_standing_35 : decode cX6_standing 35 = .ok (.aload_n 1, 1) := by decide +kernel
theorem dX6_standing_36 : decode cX6_standing 36 = .ok (.iload 4, 2) := by decide +kernel
theorem dX6_standing_38 : decode cX6_standing 38 = .ok (.iload_n 2, 1) := by decide +kernel
theorem dX6_standing_39 : decode cX6_standing 39 = .ok (.invokevirtual 121, 3) := by decide +kernel
theorem dX6_standing_42 : decode cX6_standing 42 = .ok (.ifCond .eq 10, 3) := by decide +kernel
theorem dX6_standing_45 : decode cX6_standing 45 = .ok (.iconst 1, 1) := by decide +kernel
theorem dX6_standing_46 : decode cX6_standing 46 = .ok (.iload 4, 2) := by decide +kernel
theorem dX6_standing_48 : decode cX6_standing 48 = .ok (.ishl, 1) := by decide +kernel
theorem dX6_standing_49 : decode cX6_standing 49 = .ok (.goto 4, 3) := by decide +kernel
theorem dX6_standing_52 : decode cX6_standing 52 = .ok (.iconst 0, 1) := by decide +kernel
theorem dX6_standing_53 : decode cX6_standing 53 = .ok (.ior, 1) := by decide +kernel
theorem dX6_standing_54 : decode cX6_standing 54 = .ok (.istore_n 2, 1) := by decide +kernel
theorem dX6_standing_55 : decode cX6_standing 55 = .ok (.iinc 4 1, 3) := by decide +kernel
theorem dX6_standing_58 : decode cX6_standing 58 = .ok (.goto (-45), 3) := by decide +kernel
theorem dX6_standing_61 : decode cX6_standing 61 = .ok (.iinc 3 1, 3) := by decide +kernel
theorem dX6_standing_64 : decode cX6_standing 64 = .ok (.goto (-60), 3) := by decide +kernel
theorem dX6_standing_67 : decode cX6_standing 67 = .ok (.iload_n 2, 1) := by decide +kernel
theorem dX6_standing_68 : decode cX6_standing 68 = .ok (.ireturn, 1) := by decide +kernel
theorem dX6_settle_0 : decode cX6_settle 0 = .ok (.aload_n 1, 1) := by decide +kernel
theorem dX6_settle_1 : decode cX6_settle 1 = .ok (.iconst 5, 1) := by decide +kernel
theorem dX6_settle_2 : decode cX6_settle 2 = .ok (.iaload, 1) := by decide +kernel
theorem dX6_settle_3 : decode cX6_settle 3 = .ok (.istore_n 2, 1) := by decide +kernel
theorem dX6_settle_4 : decode cX6_settle 4 = .ok (.aload_n 1, 1) := by decide +kernel
theorem dX6_settle_5 : decode cX6_settle 5 = .ok (.iconst 5, 1) := by decide +kernel
theorem dX6_settle_6 : decode cX6_settle 6 = .ok (.aload_n 0, 1) := by decide +kernel
theorem dX6_settle_7 : decode cX6_settle 7 = .ok (.aload_n 1, 1) := by decide +kernel
theorem dX6_settle_8 : decode cX6_settle 8 = .ok (.invokevirtual 125, 3) := by decide +kernel
theorem dX6_settle_11 : decode cX6_settle 11 = .ok (.iastore, 1) := by decide +kernel
theorem dX6_settle_12 : decode cX6_settle 12 = .ok (.iload_n 2, 1) := by decide +kernel
theorem dX6_settle_13 : decode cX6_settle 13 = .ok (.invokestatic 129, 3) := by decide +kernel
theorem dX6_settle_16 : decode cX6_settle 16 = .ok (.aload_n 1, 1) := by decide +kernel
theorem dX6_settle_17 : decode cX6_settle 17 = .ok (.iconst 5, 1) := by decide +kernel
theorem dX6_settle_18 : decode cX6_settle 18 = .ok (.iaload, 1) := by decide +kernel
theorem dX6_settle_19 : decode cX6_settle 19 = .ok (.invokestatic 129, 3) := by decide +kernel
theorem dX6_settle_22 : decode cX6_settle 22 = .ok (.isub, 1) := by decide +kernel
theorem dX6_settle_23 : decode cX6_settle 23 = .ok (.ireturn, 1) := by decide +kernel
theorem dX6_poles_0 : decode cX6_poles 0 = .ok (.aload_n 0, 1) := by decide +kernel
theorem dX6_poles_1 : decode cX6_poles 1 = .ok (.iconst 0, 1) := by decide +kernel
theorem dX6_poles_2 : decode cX6_poles 2 = .ok (.iaload, 1) := by decide +kernel
theorem dX6_poles_3 : decode cX6_poles 3 = .ok (.aload_n 0, 1) := by decide +kernel
theorem dX6_poles_4 : decode cX6_poles 4 = .ok (.iconst 1, 1) := by decide +kernel
theorem dX6_poles_5 : decode cX6_poles 5 = .ok (.iaload, 1) := by decide +kernel
theorem dX6_poles_6 : decode cX6_poles 6 = .ok (.iadd, 1) := by decide +kernel
theorem dX6_poles_7 : decode cX6_poles 7 = .ok (.aload_n 0, 1) := by decide +kernel
theorem dX6_poles_8 : decode cX6_poles 8 = .ok (.iconst 2, 1) := by decide +kernel
theorem dX6_poles_9 : decode cX6_poles 9 = .ok (.iaload, 1) := by decide +kernel
theorem dX6_poles_10 : decode cX6_poles 10 = .ok (.iadd, 1) := by decide +kernel
theorem dX6_poles_11 : decode cX6_poles 11 = .ok (.aload_n 0, 1) := by decide +kernel
theorem dX6_poles_12 : decode cX6_poles 12 = .ok (.iconst 3, 1) := by decide +kernel
theorem dX6_poles_13 : decode cX6_poles 13 = .ok (.iaload, 1) := by decide +kernel
theorem dX6_poles_14 : decode cX6_poles 14 = .ok (.iadd, 1) := by decide +kernel
theorem dX6_poles_15 : decode cX6_poles 15 = .ok (.ireturn, 1) := by decide +kernel
theorem dX6_begin_0 : decode cX6_begin 0 = .ok (.iconst 0, 1) := by decide +kernel
theorem dX6_begin_1 : decode cX6_begin 1 = .ok (.istore_n 1, 1) := by decide +kernel
theorem dX6_begin_2 : decode cX6_begin 2 = .ok (.iload_n 1, 1) := by decide +kernel
theorem dX6_begin_3 : decode cX6_begin 3 = .ok (.bipush 7, 2) := by decide +kernel
theorem dX6_begin_5 : decode cX6_begin 5 = .ok (.if_icmp .ge 21, 3) := by decide +kernel
theorem dX6_begin_8 : decode cX6_begin 8 = .ok (.aload_n 0, 1) := by decide +kernel
theorem dX6_begin_9 : decode cX6_begin 9 = .ok (.getfield 25, 3) := by decide +kernel
theorem dX6_begin_12 : decode cX6_begin 12 = .ok (.iload_n 1, 1) := by decide +kernel
theorem dX6_begin_13 : decode cX6_begin 13 = .ok (.aload_n 0, 1) := by decide +kernel
theorem dX6_begin_14 : decode cX6_begin 14 = .ok (.getfield 22, 3) := by decide +kernel
theorem dX6_begin_17 : decode cX6_begin 17 = .ok (.iload_n 1, 1) := by decide +kernel
theorem dX6_begin_18 : decode cX6_begin 18 = .ok (.iaload, 1) := by decide +kernel
theorem dX6_begin_19 : decode cX6_begin 19 = .ok (.iastore, 1) := by decide +kernel
theorem dX6_begin_20 : decode cX6_begin 20 = .ok (.iinc 1 1, 3) := by decide +kernel
theorem dX6_begin_23 : decode cX6_begin 23 = .ok (.goto (-21), 3) := by decide +kernel
theorem dX6_begin_26 : decode cX6_begin 26 = .ok (.return_, 1) := by decide +kernel
theorem dX6_left_0 : decode cX6_left 0 = .ok (.aload_n 0, 1) := by decide +kernel
theorem dX6_left_1 : decode cX6_left 1 = .ok (.invokevirtual 132, 3) := by decide +kernel
theorem dX6_left_4 : decode cX6_left 4 = .ok (.iconst 0, 1) := by decide +kernel
theorem dX6_left_5 : decode cX6_left 5 = .ok (.istore_n 1, 1) := by decide +kernel
theorem dX6_left_6 : decode cX6_left 6 = .ok (.iload_n 1, 1) := by decide +kernel
theorem dX6_left_7 : decode cX6_left 7 = .ok (.iconst 4, 1) := by decide +kernel
theorem dX6_left_8 : decode cX6_left 8 = .ok (.if_icmp .ge 16, 3) := by decide +kernel
theorem dX6_left_11 : decode cX6_left 11 = .ok (.aload_n 0, 1) := by decide +kernel
theorem dX6_left_12 : decode cX6_left 12 = .ok (.getfield 25, 3) := by decide +kernel
theorem dX6_left_15 : decode cX6_left 15 = .ok (.iload_n 1, 1) := by decide +kernel
theorem dX6_left_16 : decode cX6_left 16 = .ok (.iconst 0, 1) := by decide +kernel
theorem dX6_left_17 : decode cX6_left 17 = .ok (.iastore, 1) := by decide +kernel
theorem dX6_left_18 : decode cX6_left 18 = .ok (.iinc 1 1, 3) := by decide +kernel
theorem dX6_left_21 : decode cX6_left 21 = .ok (.goto (-15), 3) := by decide +kernel
theorem dX6_left_24 : decode cX6_left 24 = .ok (.aload_n 0, 1) := by decide +kernel
theorem dX6_left_25 : decode cX6_left 25 = .ok (.aload_n 0, 1) := by decide +kernel
theorem dX6_left_26 : decode cX6_left 26 = .ok (.getfield 25, 3) := by decide +kernel
theorem dX6_left_29 : decode cX6_left 29 = .ok (.invokevirtual 135, 3) := by decide +kernel
theorem dX6_left_32 : decode cX6_left 32 = .ok (.pop, 1) := by decide +kernel
theorem dX6_left_33 : decode cX6_left 33 = .ok (.aload_n 0, 1) := by decide +kernel
theorem dX6_left_34 : decode cX6_left 34 = .ok (.getfield 25, 3) := by decide +kernel
theorem dX6_left_37 : decode cX6_left 37 = .ok (.iconst 5, 1) := by decide +kernel
theorem dX6_left_38 : decode cX6_left 38 = .ok (.iaload, 1) := by decide +kernel
theorem dX6_left_39 : decode cX6_left 39 = .ok (.ireturn, 1) := by decide +kernel
theorem dX6_about_0 : decode cX6_about 0 = .ok (.aload_n 0, 1) := by decide +kernel
theorem dX6_about_1 : decode cX6_about 1 = .ok (.iconst 0, 1) := by decide +kernel
theorem dX6_about_2 : decode cX6_about 2 = .ok (.putfield 50, 3) := by decide +kernel
theorem dX6_about_5 : decode cX6_about 5 = .ok (.iload_n 1, 1) := by decide +kernel
theorem dX6_about_6 : decode cX6_about 6 = .ok (.tableswitch 105 0 8 #[50, 55, 62, 70, 77, 85, 90, 95, 100], 50) := by decide +kernel
theorem dX6_about_56 : decode cX6_about 56 = .ok (.aload_n 0, 1) := by decide +kernel
theorem dX6_about_57 : decode cX6_about 57 = .ok (.getfield 60, 3) := by decide +kernel
theorem dX6_about_60 : decode cX6_about 60 = .ok (.ireturn, 1) := by decide +kernel
theorem dX6_about_61 : decode cX6_about 61 = .ok (.aload_n 0, 1) := by decide +kernel
theorem dX6_about_62 : decode cX6_about 62 = .ok (.getfield 22, 3) := by decide +kernel
theorem dX6_about_65 : decode cX6_about 65 = .ok (.iconst 4, 1) := by decide +kernel
theorem dX6_about_66 : decode cX6_about 66 = .ok (.iaload, 1) := by decide +kernel
theorem dX6_about_67 : decode cX6_about 67 = .ok (.ireturn, 1) := by decide +kernel
theorem dX6_about_68 : decode cX6_about 68 = .ok (.aload_n 0, 1) := by decide +kernel
theorem dX6_about_69 : decode cX6_about 69 = .ok (.getfield 22, 3) := by decide +kernel
theorem dX6_about_72 : decode cX6_about 72 = .ok (.invokestatic 138, 3) := by decide +kernel
theorem dX6_about_75 : decode cX6_about 75 = .ok (.ireturn, 1) := by decide +kernel
theorem dX6_about_76 : decode cX6_about 76 = .ok (.aload_n 0, 1) := by decide +kernel
theorem dX6_about_77 : decode cX6_about 77 = .ok (.getfield 22, 3) := by decide +kernel
theorem dX6_about_80 : decode cX6_about 80 = .ok (.iconst 5, 1) := by decide +kernel
theorem dX6_about_81 : decode cX6_about 81 = .ok (.iaload, 1) := by decide +kernel
theorem dX6_about_82 : decode cX6_about 82 = .ok (.ireturn, 1) := by decide +kernel
theorem dX6_about_83 : decode cX6_about 83 = .ok (.aload_n 0, 1) := by decide +kernel
theorem dX6_about_84 : decode cX6_about 84 = .ok (.getfield 22, 3) := by decide +kernel
theorem dX6_about_87 : decode cX6_about 87 = .ok (.bipush 6, 2) := by decide +kernel
theorem dX6_about_89 : decode cX6_about 89 = .ok (.iaload, 1) := by decide +kernel
theorem dX6_about_90 : decode cX6_about 90 = .ok (.ireturn, 1) := by decide +kernel
theorem dX6_about_91 : decode cX6_about 91 = .ok (.aload_n 0, 1) := by decide +kernel
theorem dX6_about_92 : decode cX6_about 92 = .ok (.invokevirtual 141, 3) := by decide +kernel
theorem dX6_about_95 : decode cX6_about 95 = .ok (.ireturn, 1) := by decide +kernel
theorem dX6_about_96 : decode cX6_about 96 = .ok (.aload_n 0, 1) := by decide +kernel
theorem dX6_about_97 : decode cX6_about 97 = .ok (.getfield 98, 3) := by decide +kernel
theorem dX6_about_100 : decode cX6_about 100 = .ok (.ireturn, 1) := by decide +kernel
theorem dX6_about_101 : decode cX6_about 101 = .ok (.aload_n 0, 1) := by decide +kernel
theorem dX6_about_102 : decode cX6_about 102 = .ok (.getfield 144, 3) := by decide +kernel
theorem dX6_about_105 : decode cX6_about 105 = .ok (.ireturn, 1) := by decide +kernel
theorem dX6_about_106 : decode cX6_about 106 = .ok (.aload_n 0, 1) := by decide +kernel
theorem dX6_about_107 : decode cX6_about 107 = .ok (.getfield 65, 3) := by decide +kernel
theorem dX6_about_110 : decode cX6_about 110 = .ok (.ireturn, 1) := by decide +kernel
theorem dX6_about_111 : decode cX6_about 111 = .ok (.bipush (-2), 2) := by decide +kernel
theorem dX6_about_113 : decode cX6_about 113 = .ok (.ireturn, 1) := by decide +kernel
theorem dX6_part_0 : decode cX6_part 0 = .ok (.aload_n 0, 1) := by decide +kernel
theorem dX6_part_1 : decode cX6_part 1 = .ok (.iconst 0, 1) := by decide +kernel
theorem dX6_part_2 : decode cX6_part 2 = .ok (.putfield 50, 3) := by decide +kernel
theorem dX6_part_5 : decode cX6_part 5 = .ok (.aload_n 0, 1) := by decide +kernel
theorem dX6_part_6 : decode cX6_part 6 = .ok (.iload_n 1, 1) := by decide +kernel
theorem dX6_part_7 : decode cX6_part 7 = .ok (.invokevirtual 147, 3) := by decide +kernel
theorem dX6_part_10 : decode cX6_part 10 = .ok (.ifCond .eq 5, 3) := by decide +kernel
theorem dX6_part_13 : decode cX6_part 13 = .ok (.iconst (-1), 1) := by decide +kernel
theorem dX6_part_14 : decode cX6_part 14 = .ok (.ireturn, 1) := by decide +kernel
theorem dX6_part_15 : decode cX6_part 15 = .ok (.iload_n 2, 1) := by decide +kernel
theorem dX6_part_16 : decode cX6_part 16 = .ok (.tableswitch 75 0 3 #[32, 39, 46, 57], 32) := by decide +kernel
theorem dX6_part_48 : decode cX6_part 48 = .ok (.aload_n 0, 1) := by decide +kernel
theorem dX6_part_49 : decode cX6_part 49 = .ok (.getfield 13, 3) := by decide +kernel
theorem dX6_part_52 : decode cX6_part 52 = .ok (.iload_n 1, 1) := by decide +kernel
theorem dX6_part_53 : decode cX6_part 53 = .ok (.iaload, 1) := by decide +kernel
theorem dX6_part_54 : decode cX6_part 54 = .ok (.ireturn, 1) := by decide +kernel
theorem dX6_part_55 : decode cX6_part 55 = .ok (.aload_n 0, 1) := by decide +kernel
theorem dX6_part_56 : decode cX6_part 56 = .ok (.getfield 16, 3) := by decide +kernel
theorem dX6_part_59 : decode cX6_part 59 = .ok (.iload_n 1, 1) := by decide +kernel
theorem dX6_part_60 : decode cX6_part 60 = .ok (.iaload, 1) := by decide +kernel
theorem dX6_part_61 : decode cX6_part 61 = .ok (.ireturn, 1) := by decide +kernel
theorem dX6_part_62 : decode cX6_part 62 = .ok (.aload_n 0, 1) := by decide +kernel
theorem dX6_part_63 : decode cX6_part 63 = .ok (.getfield 22, 3) := by decide +kernel
theorem dX6_part_66 : decode cX6_part 66 = .ok (.iconst 5, 1) := by decide +kernel
theorem dX6_part_67 : decode cX6_part 67 = .ok (.iaload, 1) := by decide +kernel
theorem dX6_part_68 : decode cX6_part 68 = .ok (.iload_n 1, 1) := by decide +kernel
theorem dX6_part_69 : decode cX6_part 69 = .ok (.ishr, 1) := by decide +kernel
theorem dX6_part_70 : decode cX6_part 70 = .ok (.iconst 1, 1) := by decide +kernel
theorem dX6_part_71 : decode cX6_part 71 = .ok (.iand, 1) := by decide +kernel
theorem dX6_part_72 : decode cX6_part 72 = .ok (.ireturn, 1) := by decide +kernel
theorem dX6_part_73 : decode cX6_part 73 = .ok (.aload_n 0, 1) := by decide +kernel
theorem dX6_part_74 : decode cX6_part 74 = .ok (.aload_n 0, 1) := by decide +kernel
theorem dX6_part_75 : decode cX6_part 75 = .ok (.getfield 22, 3) := by decide +kernel
theorem dX6_part_78 : decode cX6_part 78 = .ok (.iload_n 1, 1) := by decide +kernel
theorem dX6_part_79 : decode cX6_part 79 = .ok (.invokevirtual 109, 3) := by decide +kernel
theorem dX6_part_82 : decode cX6_part 82 = .ok (.ifCond .eq 7, 3) := by decide +kernel
theorem dX6_part_85 : decode cX6_part 85 = .ok (.iconst 1, 1) := by decide +kernel
theorem dX6_part_86 : decode cX6_part 86 = .ok (.goto 4, 3) := by decide +kernel
theorem dX6_part_89 : decode cX6_part 89 = .ok (.iconst 0, 1) := by decide +kernel
theorem dX6_part_90 : decode cX6_part 90 = .ok (.ireturn, 1) := by decide +kernel
theorem dX6_part_91 : decode cX6_part 91 = .ok (.bipush (-2), 2) := by decide +kernel
theorem dX6_part_93 : decode cX6_part 93 = .ok (.ireturn, 1) := by decide +kernel
theorem dX6_column_0 : decode cX6_column 0 = .ok (.aload_n 0, 1) := by decide +kernel
theorem dX6_column_1 : decode cX6_column 1 = .ok (.iconst 0, 1) := by decide +kernel
theorem dX6_column_2 : decode cX6_column 2 = .ok (.putfield 50, 3) := by decide +kernel
theorem dX6_column_5 : decode cX6_column 5 = .ok (.iload_n 1, 1) := by decide +kernel
theorem dX6_column_6 : decode cX6_column 6 = .ok (.invokestatic 101, 3) := by decide +kernel
theorem dX6_column_9 : decode cX6_column 9 = .ok (.ifCond .eq 7, 3) := by decide +kernel
theorem dX6_column_12 : decode cX6_column 12 = .ok (.iconst (-1), 1) := by decide +kernel
theorem dX6_column_13 : decode cX6_column 13 = .ok (.goto 9, 3) := by decide +kernel
theorem dX6_column_16 : decode cX6_column 16 = .ok (.aload_n 0, 1) := by decide +kernel
theorem dX6_column_17 : decode cX6_column 17 = .ok (.getfield 22, 3) := by decide +kernel
theorem dX6_column_20 : decode cX6_column 20 = .ok (.iload_n 1, 1) := by decide +kernel
theorem dX6_column_21 : decode cX6_column 21 = .ok (.iaload, 1) := by decide +kernel
theorem dX6_column_22 : decode cX6_column 22 = .ok (.ireturn, 1) := by decide +kernel
theorem dX6_at_0 : decode cX6_at 0 = .ok (.aload_n 0, 1) := by decide +kernel
theorem dX6_at_1 : decode cX6_at 1 = .ok (.iconst 0, 1) := by decide +kernel
theorem dX6_at_2 : decode cX6_at 2 = .ok (.putfield 50, 3) := by decide +kernel
theorem dX6_at_5 : decode cX6_at 5 = .ok (.iload_n 1, 1) := by decide +kernel
theorem dX6_at_6 : decode cX6_at 6 = .ok (.i2l, 1) := by decide +kernel
theorem dX6_at_7 : decode cX6_at 7 = .ok (.lconst 0, 1) := by decide +kernel
theorem dX6_at_8 : decode cX6_at 8 = .ok (.ldc2_w 74, 3) := by decide +kernel
theorem dX6_at_11 : decode cX6_at 11 = .ok (.invokestatic 56, 3) := by decide +kernel
theorem dX6_at_14 : decode cX6_at 14 = .ok (.ifCond .eq 11, 3) := by decide +kernel
theorem dX6_at_17 : decode cX6_at 17 = .ok (.aload_n 0, 1) := by decide +kernel
theorem dX6_at_18 : decode cX6_at 18 = .ok (.iload_n 1, 1) := by decide +kernel
theorem dX6_at_19 : decode cX6_at 19 = .ok (.invokevirtual 105, 3) := by decide +kernel
theorem dX6_at_22 : decode cX6_at 22 = .ok (.goto 4, 3) := by decide +kernel
theorem dX6_at_25 : decode cX6_at 25 = .ok (.iconst (-1), 1) := by decide +kernel
theorem dX6_at_26 : decode cX6_at 26 = .ok (.ireturn, 1) := by decide +kernel
theorem dX6_note_0 : decode cX6_note 0 = .ok (.aload_n 0, 1) := by decide +kernel
theorem dX6_note_1 : decode cX6_note 1 = .ok (.getfield 98, 3) := by decide +kernel
theorem dX6_note_4 : decode cX6_note 4 = .ok (.bipush 14, 2) := by decide +kernel
theorem dX6_note_6 : decode cX6_note 6 = .ok (.if_icmp .ne 42, 3) := by decide +kernel
theorem dX6_note_9 : decode cX6_note 9 = .ok (.iconst 0, 1) := by decide +kernel
theorem dX6_note_10 : decode cX6_note 10 = .ok (.istore_n 1, 1) := by decide +kernel
theorem dX6_note_11 : decode cX6_note 11 = .ok (.iload_n 1, 1) := by decide +kernel
theorem dX6_note_12 : decode cX6_note 12 = .ok (.bipush 91, 2) := by decide +kernel
theorem dX6_note_14 : decode cX6_note 14 = .ok (.if_icmp .ge 24, 3) := by decide +kernel
theorem dX6_note_17 : decode cX6_note 17 = .ok (.aload_n 0, 1) := by decide +kernel
theorem dX6_note_18 : decode cX6_note 18 = .ok (.getfield 28, 3) := by decide +kernel
theorem dX6_note_21 : decode cX6_note 21 = .ok (.iload_n 1, 1) := by decide +kernel
theorem dX6_note_22 : decode cX6_note 22 = .ok (.aload_n 0, 1) := by decide +kernel
theorem dX6_note_23 : decode cX6_note 23 = .ok (.getfield 28, 3) := by decide +kernel
theorem dX6_note_26 : decode cX6_note 26 = .ok (.iload_n 1, 1) := by decide +kernel
theorem dX6_note_27 : decode cX6_note 27 = .ok (.bipush 7, 2) := by decide +kernel
theorem dX6_note_29 : decode cX6_note 29 = .ok (.iadd, 1) := by decide +kernel
theorem dX6_note_30 : decode cX6_note 30 = .ok (.iaload, 1) := by decide +kernel
theorem dX6_note_31 : decode cX6_note 31 = .ok (.iastore, 1) := by decide +kernel
theorem dX6_note_32 : decode cX6_note 32 = .ok (.iinc 1 1, 3) := by decide +kernel
theorem dX6_note_35 : decode cX6_note 35 = .ok (.goto (-24), 3) := by decide +kernel
theorem dX6_note_38 : decode cX6_note 38 = .ok (.aload_n 0, 1) := by decide +kernel
theorem dX6_note_39 : decode cX6_note 39 = .ok (.dup, 1) := by decide +kernel
theorem dX6_note_40 : decode cX6_note 40 = .ok (.getfield 98, 3) := by decide +kernel
theorem dX6_note_43 : decode cX6_note 43 = .ok (.iconst 1, 1) := by decide +kernel
theorem dX6_note_44 : decode cX6_note 44 = .ok (.isub, 1) := by decide +kernel
theorem dX6_note_45 : decode cX6_note 45 = .ok (.putfield 98, 3) := by decide +kernel
theorem dX6_note_48 : decode cX6_note 48 = .ok (.iconst 0, 1) := by decide +kernel
theorem dX6_note_49 : decode cX6_note 49 = .ok (.istore_n 1, 1) := by decide +kernel
theorem dX6_note_50 : decode cX6_note 50 = .ok (.iload_n 1, 1) := by decide +kernel
theorem dX6_note_51 : decode cX6_note 51 = .ok (.bipush 7, 2) := by decide +kernel
theorem dX6_note_53 : decode cX6_note 53 = .ok (.if_icmp .ge 29, 3) := by decide +kernel
theorem dX6_note_56 : decode cX6_note 56 = .ok (.aload_n 0, 1) := by decide +kernel
theorem dX6_note_57 : decode cX6_note 57 = .ok (.getfield 28, 3) := by decide +kernel
theorem dX6_note_60 : decode cX6_note 60 = .ok (.bipush 7, 2) := by decide +kernel
theorem dX6_note_62 : decode cX6_note 62 = .ok (.aload_n 0, 1) := by decide +kernel
theorem dX6_note_63 : decode cX6_note 63 = .ok (.getfield 98, 3) := by decide +kernel
theorem dX6_note_66 : decode cX6_note 66 = .ok (.imul, 1) := by decide +kernel
theorem dX6_note_67 : decode cX6_note 67 = .ok (.iload_n 1, 1) := by decide +kernel
theorem dX6_note_68 : decode cX6_note 68 = .ok (.iadd, 1) := by decide +kernel
theorem dX6_note_69 : decode cX6_note 69 = .ok (.aload_n 0, 1) := by decide +kernel
theorem dX6_note_70 : decode cX6_note 70 = .ok (.getfield 22, 3) := by decide +kernel
theorem dX6_note_73 : decode cX6_note 73 = .ok (.iload_n 1, 1) := by decide +kernel
theorem dX6_note_74 : decode cX6_note 74 = .ok (.iaload, 1) := by decide +kernel
theorem dX6_note_75 : decode cX6_note 75 = .ok (.iastore, 1) := by decide +kernel
theorem dX6_note_76 : decode cX6_note 76 = .ok (.iinc 1 1, 3) := by decide +kernel
theorem dX6_note_79 : decode cX6_note 79 = .ok (.goto (-29), 3) := by decide +kernel
theorem dX6_note_82 : decode cX6_note 82 = .ok (.aload_n 0, 1) := by decide +kernel
theorem dX6_note_83 : decode cX6_note 83 = .ok (.dup, 1) := by decide +kernel
theorem dX6_note_84 : decode cX6_note 84 = .ok (.getfield 98, 3) := by decide +kernel
theorem dX6_note_87 : decode cX6_note 87 = .ok (.iconst 1, 1) := by decide +kernel
theorem dX6_note_88 : decode cX6_note 88 = .ok (.iadd, 1) := by decide +kernel
theorem dX6_note_89 : decode cX6_note 89 = .ok (.putfield 98, 3) := by decide +kernel
theorem dX6_note_92 : decode cX6_note 92 = .ok (.return_, 1) := by decide +kernel
theorem dX6_goPut_0 : decode cX6_goPut 0 = .ok (.aload_n 1, 1) := by decide +kernel
theorem dX6_goPut_1 : decode cX6_goPut 1 = .ok (.iconst 4, 1) := by decide +kernel
theorem dX6_goPut_2 : decode cX6_goPut 2 = .ok (.iaload, 1) := by decide +kernel
theorem dX6_goPut_3 : decode cX6_goPut 3 = .ok (.ifCond .eq 10, 3) := by decide +kernel
theorem dX6_goPut_6 : decode cX6_goPut 6 = .ok (.aload_n 1, 1) := by decide +kernel
theorem dX6_goPut_7 : decode cX6_goPut 7 = .ok (.iload_n 2, 1) := by decide +kernel
theorem dX6_goPut_8 : decode cX6_goPut 8 = .ok (.iaload, 1) := by decide +kernel
theorem dX6_goPut_9 : decode cX6_goPut 9 = .ok (.iconst 4, 1) := by decide +kernel
theorem dX6_goPut_10 : decode cX6_goPut 10 = .ok (.if_icmp .ne 5, 3) := by decide +kernel
theorem dX6_goPut_13 : decode cX6_goPut 13 = .ok (.iconst 0, 1) := by decide +kernel
theorem dX6_goPut_14 : decode cX6_goPut 14 = .ok (.ireturn, 1) := by decide +kernel
theorem dX6_goPut_15 : decode cX6_goPut 15 = .ok (.aload_n 0, 1) := by decide +kernel
theorem dX6_goPut_16 : decode cX6_goPut 16 = .ok (.iconst 4, 1) := by decide +kernel
theorem dX6_goPut_17 : decode cX6_goPut 17 = .ok (.aload_n 1, 1) := by decide +kernel
theorem dX6_goPut_18 : decode cX6_goPut 18 = .ok (.iload_n 2, 1) := by decide +kernel
theorem dX6_goPut_19 : decode cX6_goPut 19 = .ok (.iaload, 1) := by decide +kernel
theorem dX6_goPut_20 : decode cX6_goPut 20 = .ok (.imul, 1) := by decide +kernel
theorem dX6_goPut_21 : decode cX6_goPut 21 = .ok (.iload_n 2, 1) := by decide +kernel
theorem dX6_goPut_22 : decode cX6_goPut 22 = .ok (.iadd, 1) := by decide +kernel
theorem dX6_goPut_23 : decode cX6_goPut 23 = .ok (.invokevirtual 105, 3) := by decide +kernel
theorem dX6_goPut_26 : decode cX6_goPut 26 = .ok (.istore_n 3, 1) := by decide +kernel
theorem dX6_goPut_27 : decode cX6_goPut 27 = .ok (.aload_n 1, 1) := by decide +kernel
theorem dX6_goPut_28 : decode cX6_goPut 28 = .ok (.iconst 5, 1) := by decide +kernel
theorem dX6_goPut_29 : decode cX6_goPut 29 = .ok (.dup2, 1) := by decide +kernel
theorem dX6_goPut_30 : decode cX6_goPut 30 = .ok (.iaload, 1) := by decide +kernel
theorem dX6_goPut_31 : decode cX6_goPut 31 = .ok (.iload_n 3, 1) := by decide +kernel
theorem dX6_goPut_32 : decode cX6_goPut 32 = .ok (.bipush (-9), 2) := by decide +kernel
theorem dX6_goPut_34 : decode cX6_goPut 34 = .ok (.if_icmp .ne 7, 3) := by decide +kernel
theorem dX6_goPut_37 : decode cX6_goPut 37 = .ok (.iconst 0, 1) := by decide +kernel
theorem dX6_goPut_38 : decode cX6_goPut 38 = .ok (.goto 6, 3) := by decide +kernel
theorem dX6_goPut_41 : decode cX6_goPut 41 = .ok (.iconst 1, 1) := by decide +kernel
theorem dX6_goPut_42 : decode cX6_goPut 42 = .ok (.iload_n 3, 1) := by decide +kernel
theorem dX6_goPut_43 : decode cX6_goPut 43 = .ok (.ishl, 1) := by decide +kernel
theorem dX6_goPut_44 : decode cX6_goPut 44 = .ok (.ior, 1) := by decide +kernel
theorem dX6_goPut_45 : decode cX6_goPut 45 = .ok (.iastore, 1) := by decide +kernel
theorem dX6_goPut_46 : decode cX6_goPut 46 = .ok (.aload_n 1, 1) := by decide +kernel
theorem dX6_goPut_47 : decode cX6_goPut 47 = .ok (.iload_n 2, 1) := by decide +kernel
theorem dX6_goPut_48 : decode cX6_goPut 48 = .ok (.dup2, 1) := by decide +kernel
theorem dX6_goPut_49 : decode cX6_goPut 49 = .ok (.iaload, 1) := by decide +kernel
theorem dX6_goPut_50 : decode cX6_goPut 50 = .ok (.iconst 1, 1) := by decide +kernel
theorem dX6_goPut_51 : decode cX6_goPut 51 = .ok (.iadd, 1) := by decide +kernel
theorem dX6_goPut_52 : decode cX6_goPut 52 = .ok (.iastore, 1) := by decide +kernel
theorem dX6_goPut_53 : decode cX6_goPut 53 = .ok (.aload_n 1, 1) := by decide +kernel
theorem dX6_goPut_54 : decode cX6_goPut 54 = .ok (.iconst 4, 1) := by decide +kernel
theorem dX6_goPut_55 : decode cX6_goPut 55 = .ok (.dup2, 1) := by decide +kernel
theorem dX6_goPut_56 : decode cX6_goPut 56 = .ok (.iaload, 1) := by decide +kernel
theorem dX6_goPut_57 : decode cX6_goPut 57 = .ok (.iconst 1, 1) := by decide +kernel
theorem dX6_goPut_58 : decode cX6_goPut 58 = .ok (.isub, 1) := by decide +kernel
theorem dX6_goPut_59 : decode cX6_goPut 59 = .ok (.iastore, 1) := by decide +kernel
theorem dX6_goPut_60 : decode cX6_goPut 60 = .ok (.aload_n 0, 1) := by decide +kernel
theorem dX6_goPut_61 : decode cX6_goPut 61 = .ok (.aload_n 1, 1) := by decide +kernel
theorem dX6_goPut_62 : decode cX6_goPut 62 = .ok (.invokevirtual 135, 3) := by decide +kernel
theorem dX6_goPut_65 : decode cX6_goPut 65 = .ok (.pop, 1) := by decide +kernel
theorem dX6_goPut_66 : decode cX6_goPut 66 = .ok (.iconst 1, 1) := by decide +kernel
theorem dX6_goPut_67 : decode cX6_goPut 67 = .ok (.ireturn, 1) := by decide +kernel
theorem dX6_goStrike_0 : decode cX6_goStrike 0 = .ok (.aload_n 1, 1) := by decide +kernel
theorem dX6_goStrike_1 : decode cX6_goStrike 1 = .ok (.iload_n 2, 1) := by decide +kernel
theorem dX6_goStrike_2 : decode cX6_goStrike 2 = .ok (.dup2, 1) := by decide +kernel
theorem dX6_goStrike_3 : decode cX6_goStrike 3 = .ok (.iaload, 1) := by decide +kernel
theorem dX6_goStrike_4 : decode cX6_goStrike 4 = .ok (.iconst 1, 1) := by decide +kernel
theorem dX6_goStrike_5 : decode cX6_goStrike 5 = .ok (.isub, 1) := by decide +kernel
theorem dX6_goStrike_6 : decode cX6_goStrike 6 = .ok (.iastore, 1) := by decide +kernel
theorem dX6_goStrike_7 : decode cX6_goStrike 7 = .ok (.aload_n 1, 1) := by decide +kernel
theorem dX6_goStrike_8 : decode cX6_goStrike 8 = .ok (.iconst 4, 1) := by decide +kernel
theorem dX6_goStrike_9 : decode cX6_goStrike 9 = .ok (.dup2, 1) := by decide +kernel
theorem dX6_goStrike_10 : decode cX6_goStrike 10 = .ok (.iaload, 1) := by decide +kernel
theorem dX6_goStrike_11 : decode cX6_goStrike 11 = .ok (.iconst 1, 1) := by decide +kernel
theorem dX6_goStrike_12 : decode cX6_goStrike 12 = .ok (.iadd, 1) := by decide +kernel
theorem dX6_goStrike_13 : decode cX6_goStrike 13 = .ok (.iastore, 1) := by decide +kernel
theorem dX6_goStrike_14 : decode cX6_goStrike 14 = .ok (.aload_n 0, 1) := by decide +kernel
theorem dX6_goStrike_15 : decode cX6_goStrike 15 = .ok (.aload_n 1, 1) := by decide +kernel
theorem dX6_goStrike_16 : decode cX6_goStrike 16 = .ok (.invokevirtual 135, 3) := by decide +kernel
theorem dX6_goStrike_19 : decode cX6_goStrike 19 = .ok (.ireturn, 1) := by decide +kernel
theorem dX6_goRain_0 : decode cX6_goRain 0 = .ok (.aload_n 1, 1) := by decide +kernel
theorem dX6_goRain_1 : decode cX6_goRain 1 = .ok (.iconst 5, 1) := by decide +kernel
theorem dX6_goRain_2 : decode cX6_goRain 2 = .ok (.iaload, 1) := by decide +kernel
theorem dX6_goRain_3 : decode cX6_goRain 3 = .ok (.istore_n 2, 1) := by decide +kernel
theorem dX6_goRain_4 : decode cX6_goRain 4 = .ok (.iconst 0, 1) := by decide +kernel
theorem dX6_goRain_5 : decode cX6_goRain 5 = .ok (.istore_n 3, 1) := by decide +kernel
theorem dX6_goRain_6 : decode cX6_goRain 6 = .ok (.iload_n 3, 1) := by decide +kernel
theorem dX6_goRain_7 : decode cX6_goRain 7 = .ok (.aload_n 0, 1) := by decide +kernel
theorem dX6_goRain_8 : decode cX6_goRain 8 = .ok (.getfield 60, 3) := by decide +kernel
theorem dX6_goRain_11 : decode cX6_goRain 11 = .ok (.if_icmp .ge 43, 3) := by decide +kernel
theorem dX6_goRain_14 : decode cX6_goRain 14 = .ok (.aload_n 1, 1) := by decide +kernel
theorem dX6_goRain_15 : decode cX6_goRain 15 = .ok (.iconst 5, 1) := by decide +kernel
theorem dX6_goRain_16 : decode cX6_goRain 16 = .ok (.dup2, 1) := by decide +kernel
theorem dX6_goRain_17 : decode cX6_goRain 17 = .ok (.iaload, 1) := by decide +kernel
theorem dX6_goRain_18 : decode cX6_goRain 18 = .ok (.aload_n 0, 1) := by decide +kernel
theorem dX6_goRain_19 : decode cX6_goRain 19 = .ok (.getfield 16, 3) := by decide +kernel
theorem dX6_goRain_22 : decode cX6_goRain 22 = .ok (.iload_n 3, 1) := by decide +kernel
theorem dX6_goRain_23 : decode cX6_goRain 23 = .ok (.iaload, 1) := by decide +kernel
theorem dX6_goRain_24 : decode cX6_goRain 24 = .ok (.iconst 3, 1) := by decide +kernel
theorem dX6_goRain_25 : decode cX6_goRain 25 = .ok (.if_icmp .ne 20, 3) := by decide +kernel
theorem dX6_goRain_28 : decode cX6_goRain 28 = .ok (.aload_n 0, 1) := by decide +kernel
theorem dX6_goRain_29 : decode cX6_goRain 29 = .ok (.aload_n 1, 1) := by decide +kernel
theorem dX6_goRain_30 : decode cX6_goRain 30 = .ok (.iload_n 3, 1) := by decide +kernel
theorem dX6_goRain_31 : decode cX6_goRain 31 = .ok (.invokevirtual 109, 3) := by decide +kernel
theorem dX6_goRain_34 : decode cX6_goRain 34 = .ok (.ifCond .ne 11, 3) := by decide +kernel
theorem dX6_goRain_37 : decode cX6_goRain 37 = .ok (.iconst 1, 1) := by decide +kernel
theorem dX6_goRain_38 : decode cX6_goRain 38 = .ok (.iload_n 3, 1) := by decide +kernel
theorem dX6_goRain_39 : decode cX6_goRain 39 = .ok (.ishl, 1) := by decide +kernel
theorem dX6_goRain_40 : decode cX6_goRain 40 = .ok (.iconst (-1), 1) := by decide +kernel
theorem dX6_goRain_41 : decode cX6_goRain 41 = .ok (.ixor, 1) := by decide +kernel
theorem dX6_goRain_42 : decode cX6_goRain 42 = .ok (.goto 4, 3) := by decide +kernel
theorem dX6_goRain_45 : decode cX6_goRain 45 = .ok (.iconst (-1), 1) := by decide +kernel
theorem dX6_goRain_46 : decode cX6_goRain 46 = .ok (.iand, 1) := by decide +kernel
theorem dX6_goRain_47 : decode cX6_goRain 47 = .ok (.iastore, 1) := by decide +kernel
theorem dX6_goRain_48 : decode cX6_goRain 48 = .ok (.iinc 3 1, 3) := by decide +kernel
theorem dX6_goRain_51 : decode cX6_goRain 51 = .ok (.goto (-45), 3) := by decide +kernel
theorem dX6_goRain_54 : decode cX6_goRain 54 = .ok (.aload_n 0, 1) := by decide +kernel
theorem dX6_goRain_55 : decode cX6_goRain 55 = .ok (.aload_n 1, 1) := by decide +kernel
theorem dX6_goRain_56 : decode cX6_goRain 56 = .ok (.invokevirtual 135, 3) := by decide +kernel
theorem dX6_goRain_59 : decode cX6_goRain 59 = .ok (.pop, 1) := by decide +kernel
theorem dX6_goRain_60 : decode cX6_goRain 60 = .ok (.aload_n 1, 1) := by decide +kernel
theorem dX6_goRain_61 : decode cX6_goRain 61 = .ok (.bipush 6, 2) := by decide +kernel
theorem dX6_goRain_63 : decode cX6_goRain 63 = .ok (.dup2, 1) := by decide +kernel
theorem dX6_goRain_64 : decode cX6_goRain 64 = .ok (.iaload, 1) := by decide +kernel
theorem dX6_goRain_65 : decode cX6_goRain 65 = .ok (.iconst 1, 1) := by decide +kernel
theorem dX6_goRain_66 : decode cX6_goRain 66 = .ok (.iadd, 1) := by decide +kernel
theorem dX6_goRain_67 : decode cX6_goRain 67 = .ok (.iastore, 1) := by decide +kernel
theorem dX6_goRain_68 : decode cX6_goRain 68 = .ok (.iload_n 2, 1) := by decide +kernel
theorem dX6_goRain_69 : decode cX6_goRain 69 = .ok (.invokestatic 129, 3) := by decide +kernel
theorem dX6_goRain_72 : decode cX6_goRain 72 = .ok (.aload_n 1, 1) := by decide +kernel
theorem dX6_goRain_73 : decode cX6_goRain 73 = .ok (.iconst 5, 1) := by decide +kernel
theorem dX6_goRain_74 : decode cX6_goRain 74 = .ok (.iaload, 1) := by decide +kernel
theorem dX6_goRain_75 : decode cX6_goRain 75 = .ok (.invokestatic 129, 3) := by decide +kernel
theorem dX6_goRain_78 : decode cX6_goRain 78 = .ok (.isub, 1) := by decide +kernel
theorem dX6_goRain_79 : decode cX6_goRain 79 = .ok (.ireturn, 1) := by decide +kernel
theorem dX6_put_0 : decode cX6_put 0 = .ok (.aload_n 0, 1) := by decide +kernel
theorem dX6_put_1 : decode cX6_put 1 = .ok (.iconst 0, 1) := by decide +kernel
theorem dX6_put_2 : decode cX6_put 2 = .ok (.putfield 50, 3) := by decide +kernel
theorem dX6_put_5 : decode cX6_put 5 = .ok (.iload_n 1, 1) := by decide +kernel
theorem dX6_put_6 : decode cX6_put 6 = .ok (.invokestatic 101, 3) := by decide +kernel
theorem dX6_put_9 : decode cX6_put 9 = .ok (.ifCond .eq 5, 3) := by decide +kernel
theorem dX6_put_12 : decode cX6_put 12 = .ok (.iconst (-1), 1) := by decide +kernel
theorem dX6_put_13 : decode cX6_put 13 = .ok (.ireturn, 1) := by decide +kernel
theorem dX6_put_14 : decode cX6_put 14 = .ok (.aload_n 0, 1) := by decide +kernel
theorem dX6_put_15 : decode cX6_put 15 = .ok (.getfield 22, 3) := by decide +kernel
theorem dX6_put_18 : decode cX6_put 18 = .ok (.iconst 4, 1) := by decide +kernel
theorem dX6_put_19 : decode cX6_put 19 = .ok (.iaload, 1) := by decide +kernel
theorem dX6_put_20 : decode cX6_put 20 = .ok (.ifCond .ne 6, 3) := by decide +kernel
theorem dX6_put_23 : decode cX6_put 23 = .ok (.bipush (-3), 2) := by decide +kernel
theorem dX6_put_25 : decode cX6_put 25 = .ok (.ireturn, 1) := by decide +kernel
theorem dX6_put_26 : decode cX6_put 26 = .ok (.aload_n 0, 1) := by decide +kernel
theorem dX6_put_27 : decode cX6_put 27 = .ok (.getfield 22, 3) := by decide +kernel
theorem dX6_put_30 : decode cX6_put 30 = .ok (.iload_n 1, 1) := by decide +kernel
theorem dX6_put_31 : decode cX6_put 31 = .ok (.iaload, 1) := by decide +kernel
theorem dX6_put_32 : decode cX6_put 32 = .ok (.iconst 4, 1) := by decide +kernel
theorem dX6_put_33 : decode cX6_put 33 = .ok (.if_icmp .ne 6, 3) := by decide +kernel
theorem dX6_put_36 : decode cX6_put 36 = .ok (.bipush (-4), 2) := by decide +kernel
theorem dX6_put_38 : decode cX6_put 38 = .ok (.ireturn, 1) := by decide +kernel
theorem dX6_put_39 : decode cX6_put 39 = .ok (.aload_n 0, 1) := by decide +kernel
theorem dX6_put_40 : decode cX6_put 40 = .ok (.invokevirtual 150, 3) := by decide +kernel
theorem dX6_put_43 : decode cX6_put 43 = .ok (.aload_n 0, 1) := by decide +kernel
theorem dX6_put_44 : decode cX6_put 44 = .ok (.aload_n 0, 1) := by decide +kernel
theorem dX6_put_45 : decode cX6_put 45 = .ok (.getfield 22, 3) := by decide +kernel
theorem dX6_put_48 : decode cX6_put 48 = .ok (.iload_n 1, 1) := by decide +kernel
theorem dX6_put_49 : decode cX6_put 49 = .ok (.invokevirtual 153, 3) := by decide +kernel
theorem dX6_put_52 : decode cX6_put 52 = .ok (.pop, 1) := by decide +kernel
theorem dX6_put_53 : decode cX6_put 53 = .ok (.aload_n 0, 1) := by decide +kernel
theorem dX6_put_54 : decode cX6_put 54 = .ok (.getfield 22, 3) := by decide +kernel
theorem dX6_put_57 : decode cX6_put 57 = .ok (.iconst 5, 1) := by decide +kernel
theorem dX6_put_58 : decode cX6_put 58 = .ok (.iaload, 1) := by decide +kernel
theorem dX6_put_59 : decode cX6_put 59 = .ok (.invokestatic 129, 3) := by decide +kernel
theorem dX6_put_62 : decode cX6_put 62 = .ok (.ireturn, 1) := by decide +kernel
theorem dX6_strike_0 : decode cX6_strike 0 = .ok (.aload_n 0, 1) := by decide +kernel
theorem dX6_strike_1 : decode cX6_strike 1 = .ok (.iconst 0, 1) := by decide +kernel
theorem dX6_strike_2 : decode cX6_strike 2 = .ok (.putfield 50, 3) := by decide +kernel
theorem dX6_strike_5 : decode cX6_strike 5 = .ok (.iload_n 1, 1) := by decide +kernel
theorem dX6_strike_6 : decode cX6_strike 6 = .ok (.invokestatic 101, 3) := by decide +kernel
theorem dX6_strike_9 : decode cX6_strike 9 = .ok (.ifCond .eq 5, 3) := by decide +kernel
theorem dX6_strike_12 : decode cX6_strike 12 = .ok (.iconst (-1), 1) := by decide +kernel
theorem dX6_strike_13 : decode cX6_strike 13 = .ok (.ireturn, 1) := by decide +kernel
theorem dX6_strike_14 : decode cX6_strike 14 = .ok (.aload_n 0, 1) := by decide +kernel
theorem dX6_strike_15 : decode cX6_strike 15 = .ok (.getfield 22, 3) := by decide +kernel
theorem dX6_strike_18 : decode cX6_strike 18 = .ok (.iload_n 1, 1) := by decide +kernel
theorem dX6_strike_19 : decode cX6_strike 19 = .ok (.iaload, 1) := by decide +kernel
theorem dX6_strike_20 : decode cX6_strike 20 = .ok (.ifCond .ne 6, 3) := by decide +kernel
theorem dX6_strike_23 : decode cX6_strike 23 = .ok (.bipush (-3), 2) := by decide +kernel
theorem dX6_strike_25 : decode cX6_strike 25 = .ok (.ireturn, 1) := by decide +kernel
theorem dX6_strike_26 : decode cX6_strike 26 = .ok (.aload_n 0, 1) := by decide +kernel
theorem dX6_strike_27 : decode cX6_strike 27 = .ok (.invokevirtual 150, 3) := by decide +kernel
theorem dX6_strike_30 : decode cX6_strike 30 = .ok (.aload_n 0, 1) := by decide +kernel
theorem dX6_strike_31 : decode cX6_strike 31 = .ok (.aload_n 0, 1) := by decide +kernel
theorem dX6_strike_32 : decode cX6_strike 32 = .ok (.getfield 22, 3) := by decide +kernel
theorem dX6_strike_35 : decode cX6_strike 35 = .ok (.iload_n 1, 1) := by decide +kernel
theorem dX6_strike_36 : decode cX6_strike 36 = .ok (.invokevirtual 156, 3) := by decide +kernel
theorem dX6_strike_39 : decode cX6_strike 39 = .ok (.ireturn, 1) := by decide +kernel
theorem dX6_rain_0 : decode cX6_rain 0 = .ok (.aload_n 0, 1) := by decide +kernel
theorem dX6_rain_1 : decode cX6_rain 1 = .ok (.iconst 0, 1) := by decide +kernel
theorem dX6_rain_2 : decode cX6_rain 2 = .ok (.putfield 50, 3) := by decide +kernel
theorem dX6_rain_5 : decode cX6_rain 5 = .ok (.aload_n 0, 1) := by decide +kernel
theorem dX6_rain_6 : decode cX6_rain 6 = .ok (.invokevirtual 150, 3) := by decide +kernel
theorem dX6_rain_9 : decode cX6_rain 9 = .ok (.aload_n 0, 1) := by decide +kernel
theorem dX6_rain_10 : decode cX6_rain 10 = .ok (.aload_n 0, 1) := by decide +kernel
theorem dX6_rain_11 : decode cX6_rain 11 = .ok (.getfield 22, 3) := by decide +kernel
theorem dX6_rain_14 : decode cX6_rain 14 = .ok (.invokevirtual 160, 3) := by decide +kernel
theorem dX6_rain_17 : decode cX6_rain 17 = .ok (.ireturn, 1) := by decide +kernel
theorem dX6_undo_0 : decode cX6_undo 0 = .ok (.aload_n 0, 1) := by decide +kernel
theorem dX6_undo_1 : decode cX6_undo 1 = .ok (.iconst 0, 1) := by decide +kernel
theorem dX6_undo_2 : decode cX6_undo 2 = .ok (.putfield 50, 3) := by decide +kernel
theorem dX6_undo_5 : decode cX6_undo 5 = .ok (.aload_n 0, 1) := by decide +kernel
theorem dX6_undo_6 : decode cX6_undo 6 = .ok (.getfield 98, 3) := by decide +kernel
theorem dX6_undo_9 : decode cX6_undo 9 = .ok (.ifCond .ne 6, 3) := by decide +kernel
theorem dX6_undo_12 : decode cX6_undo 12 = .ok (.bipush (-3), 2) := by decide +kernel
theorem dX6_undo_14 : decode cX6_undo 14 = .ok (.ireturn, 1) := by decide +kernel
theorem dX6_undo_15 : decode cX6_undo 15 = .ok (.aload_n 0, 1) := by decide +kernel
theorem dX6_undo_16 : decode cX6_undo 16 = .ok (.dup, 1) := by decide +kernel
theorem dX6_undo_17 : decode cX6_undo 17 = .ok (.getfield 98, 3) := by decide +kernel
theorem dX6_undo_20 : decode cX6_undo 20 = .ok (.iconst 1, 1) := by decide +kernel
theorem dX6_undo_21 : decode cX6_undo 21 = .ok (.isub, 1) := by decide +kernel
theorem dX6_undo_22 : decode cX6_undo 22 = .ok (.putfield 98, 3) := by decide +kernel
theorem dX6_undo_25 : decode cX6_undo 25 = .ok (.iconst 0, 1) := by decide +kernel
theorem dX6_undo_26 : decode cX6_undo 26 = .ok (.istore_n 1, 1) := by decide +kernel
theorem dX6_undo_27 : decode cX6_undo 27 = .ok (.iload_n 1, 1) := by decide +kernel
theorem dX6_undo_28 : decode cX6_undo 28 = .ok (.bipush 7, 2) := by decide +kernel
theorem dX6_undo_30 : decode cX6_undo 30 = .ok (.if_icmp .ge 29, 3) := by decide +kernel
theorem dX6_undo_33 : decode cX6_undo 33 = .ok (.aload_n 0, 1) := by decide +kernel
theorem dX6_undo_34 : decode cX6_undo 34 = .ok (.getfield 22, 3) := by decide +kernel
theorem dX6_undo_37 : decode cX6_undo 37 = .ok (.iload_n 1, 1) := by decide +kernel
theorem dX6_undo_38 : decode cX6_undo 38 = .ok (.aload_n 0, 1) := by decide +kernel
theorem dX6_undo_39 : decode cX6_undo 39 = .ok (.getfield 28, 3) := by decide +kernel
theorem dX6_undo_42 : decode cX6_undo 42 = .ok (.bipush 7, 2) := by decide +kernel
theorem dX6_undo_44 : decode cX6_undo 44 = .ok (.aload_n 0, 1) := by decide +kernel
theorem dX6_undo_45 : decode cX6_undo 45 = .ok (.getfield 98, 3) := by decide +kernel
theorem dX6_undo_48 : decode cX6_undo 48 = .ok (.imul, 1) := by decide +kernel
theorem dX6_undo_49 : decode cX6_undo 49 = .ok (.iload_n 1, 1) := by decide +kernel
theorem dX6_undo_50 : decode cX6_undo 50 = .ok (.iadd, 1) := by decide +kernel
theorem dX6_undo_51 : decode cX6_undo 51 = .ok (.iaload, 1) := by decide +kernel
theorem dX6_undo_52 : decode cX6_undo 52 = .ok (.iastore, 1) := by decide +kernel
theorem dX6_undo_53 : decode cX6_undo 53 = .ok (.iinc 1 1, 3) := by decide +kernel
theorem dX6_undo_56 : decode cX6_undo 56 = .ok (.goto (-29), 3) := by decide +kernel
theorem dX6_undo_59 : decode cX6_undo 59 = .ok (.aload_n 0, 1) := by decide +kernel
theorem dX6_undo_60 : decode cX6_undo 60 = .ok (.getfield 98, 3) := by decide +kernel
theorem dX6_undo_63 : decode cX6_undo 63 = .ok (.ireturn, 1) := by decide +kernel
theorem dX6_loses_0 : decode cX6_loses 0 = .ok (.aload_n 0, 1) := by decide +kernel
theorem dX6_loses_1 : decode cX6_loses 1 = .ok (.iconst 0, 1) := by decide +kernel
theorem dX6_loses_2 : decode cX6_loses 2 = .ok (.putfield 50, 3) := by decide +kernel
theorem dX6_loses_5 : decode cX6_loses 5 = .ok (.iload_n 1, 1) := by decide +kernel
theorem dX6_loses_6 : decode cX6_loses 6 = .ok (.invokestatic 101, 3) := by decide +kernel
theorem dX6_loses_9 : decode cX6_loses 9 = .ok (.ifCond .eq 5, 3) := by decide +kernel
theorem dX6_loses_12 : decode cX6_loses 12 = .ok (.iconst (-1), 1) := by decide +kernel
theorem dX6_loses_13 : decode cX6_loses 13 = .ok (.ireturn, 1) := by decide +kernel
theorem dX6_loses_14 : decode cX6_loses 14 = .ok (.aload_n 0, 1) := by decide +kernel
theorem dX6_loses_15 : decode cX6_loses 15 = .ok (.getfield 22, 3) := by decide +kernel
theorem dX6_loses_18 : decode cX6_loses 18 = .ok (.iload_n 1, 1) := by decide +kernel
theorem dX6_loses_19 : decode cX6_loses 19 = .ok (.iaload, 1) := by decide +kernel
theorem dX6_loses_20 : decode cX6_loses 20 = .ok (.ifCond .ne 6, 3) := by decide +kernel
theorem dX6_loses_23 : decode cX6_loses 23 = .ok (.bipush (-3), 2) := by decide +kernel
theorem dX6_loses_25 : decode cX6_loses 25 = .ok (.ireturn, 1) := by decide +kernel
theorem dX6_loses_26 : decode cX6_loses 26 = .ok (.aload_n 0, 1) := by decide +kernel
theorem dX6_loses_27 : decode cX6_loses 27 = .ok (.invokevirtual 132, 3) := by decide +kernel
theorem dX6_loses_30 : decode cX6_loses 30 = .ok (.aload_n 0, 1) := by decide +kernel
theorem dX6_loses_31 : decode cX6_loses 31 = .ok (.aload_n 0, 1) := by decide +kernel
theorem dX6_loses_32 : decode cX6_loses 32 = .ok (.getfield 25, 3) := by decide +kernel
theorem dX6_loses_35 : decode cX6_loses 35 = .ok (.iload_n 1, 1) := by decide +kernel
theorem dX6_loses_36 : decode cX6_loses 36 = .ok (.invokevirtual 156, 3) := by decide +kernel
theorem dX6_loses_39 : decode cX6_loses 39 = .ok (.pop, 1) := by decide +kernel
theorem dX6_loses_40 : decode cX6_loses 40 = .ok (.aload_n 0, 1) := by decide +kernel
theorem dX6_loses_41 : decode cX6_loses 41 = .ok (.getfield 22, 3) := by decide +kernel
theorem dX6_loses_44 : decode cX6_loses 44 = .ok (.iconst 5, 1) := by decide +kernel
theorem dX6_loses_45 : decode cX6_loses 45 = .ok (.iaload, 1) := by decide +kernel
theorem dX6_loses_46 : decode cX6_loses 46 = .ok (.aload_n 0, 1) := by decide +kernel
theorem dX6_loses_47 : decode cX6_loses 47 = .ok (.getfield 25, 3) := by decide +kernel
theorem dX6_loses_50 : decode cX6_loses 50 = .ok (.iconst 5, 1) := by decide +kernel
theorem dX6_loses_51 : decode cX6_loses 51 = .ok (.iaload, 1) := by decide +kernel
theorem dX6_loses_52 : decode cX6_loses 52 = .ok (.iconst (-1), 1) := by decide +kernel
theorem dX6_loses_53 : decode cX6_loses 53 = .ok (.ixor, 1) := by decide +kernel
theorem dX6_loses_54 : decode cX6_loses 54 = .ok (.iand, 1) := by decide +kernel
theorem dX6_loses_55 : decode cX6_loses 55 = .ok (.ireturn, 1) := by decide +kernel
theorem dX6_down_0 : decode cX6_down 0 = .ok (.aload_n 0, 1) := by decide +kernel
theorem dX6_down_1 : decode cX6_down 1 = .ok (.iconst 0, 1) := by decide +kernel
theorem dX6_down_2 : decode cX6_down 2 = .ok (.putfield 50, 3) := by decide +kernel
theorem dX6_down_5 : decode cX6_down 5 = .ok (.iload_n 1, 1) := by decide +kernel
theorem dX6_down_6 : decode cX6_down 6 = .ok (.invokestatic 101, 3) := by decide +kernel
theorem dX6_down_9 : decode cX6_down 9 = .ok (.ifCond .eq 5, 3) := by decide +kernel
theorem dX6_down_12 : decode cX6_down 12 = .ok (.iconst (-1), 1) := by decide +kernel
theorem dX6_down_13 : decode cX6_down 13 = .ok (.ireturn, 1) := by decide +kernel
theorem dX6_down_14 : decode cX6_down 14 = .ok (.aload_n 0, 1) := by decide +kernel
theorem dX6_down_15 : decode cX6_down 15 = .ok (.invokevirtual 132, 3) := by decide +kernel
theorem dX6_down_18 : decode cX6_down 18 = .ok (.aload_n 0, 1) := by decide +kernel
theorem dX6_down_19 : decode cX6_down 19 = .ok (.getfield 25, 3) := by decide +kernel
theorem dX6_down_22 : decode cX6_down 22 = .ok (.iload_n 1, 1) := by decide +kernel
theorem dX6_down_23 : decode cX6_down 23 = .ok (.iaload, 1) := by decide +kernel
theorem dX6_down_24 : decode cX6_down 24 = .ok (.ifCond .le 24, 3) := by decide +kernel
theorem dX6_down_27 : decode cX6_down 27 = .ok (.aload_n 0, 1) := by decide +kernel
theorem dX6_down_28 : decode cX6_down 28 = .ok (.aload_n 0, 1) := by decide +kernel
theorem dX6_down_29 : decode cX6_down 29 = .ok (.getfield 25, 3) := by decide +kernel
theorem dX6_down_32 : decode cX6_down 32 = .ok (.iload_n 1, 1) := by decide +kernel
theorem dX6_down_33 : decode cX6_down 33 = .ok (.invokevirtual 156, 3) := by decide +kernel
theorem dX6_down_36 : decode cX6_down 36 = .ok (.ifCond .le (-18), 3) := by decide +kernel
theorem dX6_down_39 : decode cX6_down 39 = .ok (.aload_n 0, 1) := by decide +kernel
theorem dX6_down_40 : decode cX6_down 40 = .ok (.getfield 25, 3) := by decide +kernel
theorem dX6_down_43 : decode cX6_down 43 = .ok (.iload_n 1, 1) := by decide +kernel
theorem dX6_down_44 : decode cX6_down 44 = .ok (.iaload, 1) := by decide +kernel
theorem dX6_down_45 : decode cX6_down 45 = .ok (.iconst 1, 1) := by decide +kernel
theorem dX6_down_46 : decode cX6_down 46 = .ok (.iadd, 1) := by decide +kernel
theorem dX6_down_47 : decode cX6_down 47 = .ok (.ireturn, 1) := by decide +kernel
theorem dX6_down_48 : decode cX6_down 48 = .ok (.iconst 0, 1) := by decide +kernel
theorem dX6_down_49 : decode cX6_down 49 = .ok (.ireturn, 1) := by decide +kernel
theorem dX6_actsBy_0 : decode cX6_actsBy 0 = .ok (.aload_n 0, 1) := by decide +kernel
theorem dX6_actsBy_1 : decode cX6_actsBy 1 = .ok (.iconst 0, 1) := by decide +kernel
theorem dX6_actsBy_2 : decode cX6_actsBy 2 = .ok (.putfield 163, 3) := by decide +kernel
theorem dX6_actsBy_5 : decode cX6_actsBy 5 = .ok (.aload_n 0, 1) := by decide +kernel
theorem dX6_actsBy_6 : decode cX6_actsBy 6 = .ok (.invokevirtual 132, 3) := by decide +kernel
theorem dX6_actsBy_9 : decode cX6_actsBy 9 = .ok (.iconst 0, 1) := by decide +kernel
theorem dX6_actsBy_10 : decode cX6_actsBy 10 = .ok (.istore_n 3, 1) := by decide +kernel
theorem dX6_actsBy_11 : decode cX6_actsBy 11 = .ok (.iload_n 3, 1) := by decide +kernel
theorem dX6_actsBy_12 : decode cX6_actsBy 12 = .ok (.iload_n 1, 1) := by decide +kernel
theorem dX6_actsBy_13 : decode cX6_actsBy 13 = .ok (.if_icmp .ge 108, 3) := by decide +kernel
theorem dX6_actsBy_16 : decode cX6_actsBy 16 = .ok (.iload_n 2, 1) := by decide +kernel
theorem dX6_actsBy_17 : decode cX6_actsBy 17 = .ok (.bipush 8, 2) := by decide +kernel
theorem dX6_actsBy_19 : decode cX6_actsBy 19 = .ok (.iload_n 1, 1) := by decide +kernel
theorem dX6_actsBy_20 : decode cX6_actsBy 20 = .ok (.iconst 1, 1) := by decide +kernel
theorem dX6_actsBy_21 : decode cX6_actsBy 21 = .ok (.isub, 1) := by decide +kernel
theorem dX6_actsBy_22 : decode cX6_actsBy 22 = .ok (.iload_n 3, 1) := by decide +kernel
theorem dX6_actsBy_23 : decode cX6_actsBy 23 = .ok (.isub, 1) := by decide +kernel
theorem dX6_actsBy_24 : decode cX6_actsBy 24 = .ok (.invokestatic 166, 3) := by decide +kernel
theorem dX6_actsBy_27 : decode cX6_actsBy 27 = .ok (.idiv, 1) := by decide +kernel
theorem dX6_actsBy_28 : decode cX6_actsBy 28 = .ok (.bipush 8, 2) := by decide +kernel
theorem dX6_actsBy_30 : decode cX6_actsBy 30 = .ok (.irem, 1) := by decide +kernel
theorem dX6_actsBy_31 : decode cX6_actsBy 31 = .ok (.istore 4, 2) := by decide +kernel
theorem dX6_actsBy_33 : decode cX6_actsBy 33 = .ok (.aload_n 0, 1) := by decide +kernel
theorem dX6_actsBy_34 : decode cX6_actsBy 34 = .ok (.bipush 10, 2) := by decide +kernel
theorem dX6_actsBy_36 : decode cX6_actsBy 36 = .ok (.aload_n 0, 1) := by decide +kernel
theorem dX6_actsBy_37 : decode cX6_actsBy 37 = .ok (.getfield 163, 3) := by decide +kernel
theorem dX6_actsBy_40 : decode cX6_actsBy 40 = .ok (.imul, 1) := by decide +kernel
theorem dX6_actsBy_41 : decode cX6_actsBy 41 = .ok (.iload 4, 2) := by decide +kernel
theorem dX6_actsBy_43 : decode cX6_actsBy 43 = .ok (.iadd, 1) := by decide +kernel
theorem dX6_actsBy_44 : decode cX6_actsBy 44 = .ok (.iconst 1, 1) := by decide +kernel
theorem dX6_actsBy_45 : decode cX6_actsBy 45 = .ok (.iadd, 1) := by decide +kernel
theorem dX6_actsBy_46 : decode cX6_actsBy 46 = .ok (.putfield 163, 3) := by decide +kernel
theorem dX6_actsBy_49 : decode cX6_actsBy 49 = .ok (.iload 4, 2) := by decide +kernel
theorem dX6_actsBy_51 : decode cX6_actsBy 51 = .ok (.iconst 4, 1) := by decide +kernel
theorem dX6_actsBy_52 : decode cX6_actsBy 52 = .ok (.irem, 1) := by decide +kernel
theorem dX6_actsBy_53 : decode cX6_actsBy 53 = .ok (.istore 5, 2) := by decide +kernel
theorem dX6_actsBy_55 : decode cX6_actsBy 55 = .ok (.iload 4, 2) := by decide +kernel
theorem dX6_actsBy_57 : decode cX6_actsBy 57 = .ok (.iconst 4, 1) := by decide +kernel
theorem dX6_actsBy_58 : decode cX6_actsBy 58 = .ok (.if_icmp .ge 16, 3) := by decide +kernel
theorem dX6_actsBy_61 : decode cX6_actsBy 61 = .ok (.aload_n 0, 1) := by decide +kernel
theorem dX6_actsBy_62 : decode cX6_actsBy 62 = .ok (.aload_n 0, 1) := by decide +kernel
theorem dX6_actsBy_63 : decode cX6_actsBy 63 = .ok (.getfield 25, 3) := by decide +kernel
theorem dX6_actsBy_66 : decode cX6_actsBy 66 = .ok (.iload 5, 2) := by decide +kernel
theorem dX6_actsBy_68 : decode cX6_actsBy 68 = .ok (.invokevirtual 153, 3) := by decide +kernel
theorem dX6_actsBy_71 : decode cX6_actsBy 71 = .ok (.goto 18, 3) := by decide +kernel
theorem dX6_actsBy_74 : decode cX6_actsBy 74 = .ok (.aload_n 0, 1) := by decide +kernel
theorem dX6_actsBy_75 : decode cX6_actsBy 75 = .ok (.getfield 25, 3) := by decide +kernel
theorem dX6_actsBy_78 : decode cX6_actsBy 78 = .ok (.iload 5, 2) := by decide +kernel
theorem dX6_actsBy_80 : decode cX6_actsBy 80 = .ok (.iaload, 1) := by decide +kernel
theorem dX6_actsBy_81 : decode cX6_actsBy 81 = .ok (.ifCond .le 7, 3) := by decide +kernel
theorem dX6_actsBy_84 : decode cX6_actsBy 84 = .ok (.iconst 1, 1) := by decide +kernel
theorem dX6_actsBy_85 : decode cX6_actsBy 85 = .ok (.goto 4, 3) := by decide +kernel
theorem dX6_actsBy_88 : decode cX6_actsBy 88 = .ok (.iconst 0, 1) := by decide +kernel
theorem dX6_actsBy_89 : decode cX6_actsBy 89 = .ok (.istore 6, 2) := by decide +kernel
theorem dX6_actsBy_91 : decode cX6_actsBy 91 = .ok (.iload 6, 2) := by decide +kernel
theorem dX6_actsBy_93 : decode cX6_actsBy 93 = .ok (.ifCond .ne 5, 3) := by decide +kernel
theorem dX6_actsBy_96 : decode cX6_actsBy 96 = .ok (.iconst 0, 1) := by decide +kernel
theorem dX6_actsBy_97 : decode cX6_actsBy 97 = .ok (.ireturn, 1) := by decide +kernel
theorem dX6_actsBy_98 : decode cX6_actsBy 98 = .ok (.iload 4, 2) := by decide +kernel
theorem dX6_actsBy_100 : decode cX6_actsBy 100 = .ok (.iconst 4, 1) := by decide +kernel
theorem dX6_actsBy_101 : decode cX6_actsBy 101 = .ok (.if_icmp .lt 14, 3) := by decide +kernel
theorem dX6_actsBy_104 : decode cX6_actsBy 104 = .ok (.aload_n 0, 1) := by decide +kernel
theorem dX6_actsBy_105 : decode cX6_actsBy 105 = .ok (.aload_n 0, 1) := by decide +kernel
theorem dX6_actsBy_106 : decode cX6_actsBy 106 = .ok (.getfield 25, 3) := by decide +kernel
theorem dX6_actsBy_109 : decode cX6_actsBy 109 = .ok (.iload 5, 2) := by decide +kernel
theorem dX6_actsBy_111 : decode cX6_actsBy 111 = .ok (.invokevirtual 156, 3) := by decide +kernel
theorem dX6_actsBy_114 : decode cX6_actsBy 114 = .ok (.pop, 1) := by decide +kernel
theorem dX6_actsBy_115 : decode cX6_actsBy 115 = .ok (.iinc 3 1, 3) := by decide +kernel
theorem dX6_actsBy_118 : decode cX6_actsBy 118 = .ok (.goto (-107), 3) := by decide +kernel
theorem dX6_actsBy_121 : decode cX6_actsBy 121 = .ok (.iconst 1, 1) := by decide +kernel
theorem dX6_actsBy_122 : decode cX6_actsBy 122 = .ok (.ireturn, 1) := by decide +kernel
theorem dX6_findSoon_0 : decode cX6_findSoon 0 = .ok (.iconst 0, 1) := by decide +kernel
theorem dX6_findSoon_1 : decode cX6_findSoon 1 = .ok (.istore_n 2, 1) := by decide +kernel
theorem dX6_findSoon_2 : decode cX6_findSoon 2 = .ok (.iload_n 2, 1) := by decide +kernel
theorem dX6_findSoon_3 : decode cX6_findSoon 3 = .ok (.iconst 4, 1) := by decide +kernel
theorem dX6_findSoon_4 : decode cX6_findSoon 4 = .ok (.if_icmp .gt 55, 3) := by decide +kernel
theorem dX6_findSoon_7 : decode cX6_findSoon 7 = .ok (.iconst 0, 1) := by decide +kernel
theorem dX6_findSoon_8 : decode cX6_findSoon 8 = .ok (.istore_n 3, 1) := by decide +kernel
theorem dX6_findSoon_9 : decode cX6_findSoon 9 = .ok (.iload_n 3, 1) := by decide +kernel
theorem dX6_findSoon_10 : decode cX6_findSoon 10 = .ok (.bipush 8, 2) := by decide +kernel
theorem dX6_findSoon_12 : decode cX6_findSoon 12 = .ok (.iload_n 2, 1) := by decide +kernel
theorem dX6_findSoon_13 : decode cX6_findSoon 13 = .ok (.invokestatic 166, 3) := by decide +kernel
theorem dX6_findSoon_16 : decode cX6_findSoon 16 = .ok (.if_icmp .ge 37, 3) := by decide +kernel
theorem dX6_findSoon_19 : decode cX6_findSoon 19 = .ok (.aload_n 0, 1) := by decide +kernel
theorem dX6_findSoon_20 : decode cX6_findSoon 20 = .ok (.iload_n 2, 1) := by decide +kernel
theorem dX6_findSoon_21 : decode cX6_findSoon 21 = .ok (.iload_n 3, 1) := by decide +kernel
theorem dX6_findSoon_22 : decode cX6_findSoon 22 = .ok (.invokevirtual 170, 3) := by decide +kernel
theorem dX6_findSoon_25 : decode cX6_findSoon 25 = .ok (.ifCond .eq 22, 3) := by decide +kernel
theorem dX6_findSoon_28 : decode cX6_findSoon 28 = .ok (.iload_n 1, 1) := by decide +kernel
theorem dX6_findSoon_29 : decode cX6_findSoon 29 = .ok (.aload_n 0, 1) := by decide +kernel
theorem dX6_findSoon_30 : decode cX6_findSoon 30 = .ok (.getfield 25, 3) := by decide +kernel
theorem dX6_findSoon_33 : decode cX6_findSoon 33 = .ok (.iconst 5, 1) := by decide +kernel
theorem dX6_findSoon_34 : decode cX6_findSoon 34 = .ok (.iaload, 1) := by decide +kernel
theorem dX6_findSoon_35 : decode cX6_findSoon 35 = .ok (.iconst (-1), 1) := by decide +kernel
theorem dX6_findSoon_36 : decode cX6_findSoon 36 = .ok (.ixor, 1) := by decide +kernel
theorem dX6_findSoon_37 : decode cX6_findSoon 37 = .ok (.iand, 1) := by decide +kernel
theorem dX6_findSoon_38 : decode cX6_findSoon 38 = .ok (.ifCond .ne 9, 3) := by decide +kernel
theorem dX6_findSoon_41 : decode cX6_findSoon 41 = .ok (.aload_n 0, 1) := by decide +kernel
theorem dX6_findSoon_42 : decode cX6_findSoon 42 = .ok (.iload_n 2, 1) := by decide +kernel
theorem dX6_findSoon_43 : decode cX6_findSoon 43 = .ok (.putfield 173, 3) := by decide +kernel
theorem dX6_findSoon_46 : decode cX6_findSoon 46 = .ok (.return_, 1) := by decide +kernel
theorem dX6_findSoon_47 : decode cX6_findSoon 47 = .ok (.iinc 3 1, 3) := by decide +kernel
theorem dX6_findSoon_50 : decode cX6_findSoon 50 = .ok (.goto (-41), 3) := by decide +kernel
theorem dX6_findSoon_53 : decode cX6_findSoon 53 = .ok (.iinc 2 1, 3) := by decide +kernel
theorem dX6_findSoon_56 : decode cX6_findSoon 56 = .ok (.goto (-54), 3) := by decide +kernel
theorem dX6_findSoon_59 : decode cX6_findSoon 59 = .ok (.aload_n 0, 1) := by decide +kernel
theorem dX6_findSoon_60 : decode cX6_findSoon 60 = .ok (.bipush (-9), 2) := by decide +kernel
theorem dX6_findSoon_62 : decode cX6_findSoon 62 = .ok (.putfield 173, 3) := by decide +kernel
theorem dX6_findSoon_65 : decode cX6_findSoon 65 = .ok (.aload_n 0, 1) := by decide +kernel
theorem dX6_findSoon_66 : decode cX6_findSoon 66 = .ok (.bipush (-9), 2) := by decide +kernel
theorem dX6_findSoon_68 : decode cX6_findSoon 68 = .ok (.putfield 163, 3) := by decide +kernel
theorem dX6_findSoon_71 : decode cX6_findSoon 71 = .ok (.return_, 1) := by decide +kernel
theorem dX6_soon_0 : decode cX6_soon 0 = .ok (.aload_n 0, 1) := by decide +kernel
theorem dX6_soon_1 : decode cX6_soon 1 = .ok (.iconst 0, 1) := by decide +kernel
theorem dX6_soon_2 : decode cX6_soon 2 = .ok (.putfield 50, 3) := by decide +kernel
theorem dX6_soon_5 : decode cX6_soon 5 = .ok (.iload_n 1, 1) := by decide +kernel
theorem dX6_soon_6 : decode cX6_soon 6 = .ok (.i2l, 1) := by decide +kernel
theorem dX6_soon_7 : decode cX6_soon 7 = .ok (.lconst 0, 1) := by decide +kernel
theorem dX6_soon_8 : decode cX6_soon 8 = .ok (.iconst 1, 1) := by decide +kernel
theorem dX6_soon_9 : decode cX6_soon 9 = .ok (.aload_n 0, 1) := by decide +kernel
theorem dX6_soon_10 : decode cX6_soon 10 = .ok (.getfield 60, 3) := by decide +kernel
theorem dX6_soon_13 : decode cX6_soon 13 = .ok (.ishl, 1) := by decide +kernel
theorem dX6_soon_14 : decode cX6_soon 14 = .ok (.iconst 1, 1) := by decide +kernel
theorem dX6_soon_15 : decode cX6_soon 15 = .ok (.isub, 1) := by decide +kernel
theorem dX6_soon_16 : decode cX6_soon 16 = .ok (.i2l, 1) := by decide +kernel
theorem dX6_soon_17 : decode cX6_soon 17 = .ok (.invokestatic 56, 3) := by decide +kernel
theorem dX6_soon_20 : decode cX6_soon 20 = .ok (.ifCond .eq 13, 3) := by decide +kernel
theorem dX6_soon_23 : decode cX6_soon 23 = .ok (.iload_n 2, 1) := by decide +kernel
theorem dX6_soon_24 : decode cX6_soon 24 = .ok (.i2l, 1) := by decide +kernel
theorem dX6_soon_25 : decode cX6_soon 25 = .ok (.lconst 0, 1) := by decide +kernel
theorem dX6_soon_26 : decode cX6_soon 26 = .ok (.lconst 1, 1) := by decide +kernel
theorem dX6_soon_27 : decode cX6_soon 27 = .ok (.invokestatic 56, 3) := by decide +kernel
theorem dX6_soon_30 : decode cX6_soon 30 = .ok (.ifCond .ne 6, 3) := by decide +kernel
theorem dX6_soon_33 : decode cX6_soon 33 = .ok (.bipush (-2), 2) := by decide +kernel
theorem dX6_soon_35 : decode cX6_soon 35 = .ok (.ireturn, 1) := by decide +kernel
theorem dX6_soon_36 : decode cX6_soon 36 = .ok (.aload_n 0, 1) := by decide +kernel
theorem dX6_soon_37 : decode cX6_soon 37 = .ok (.iload_n 1, 1) := by decide +kernel
theorem dX6_soon_38 : decode cX6_soon 38 = .ok (.invokevirtual 176, 3) := by decide +kernel
theorem dX6_soon_41 : decode cX6_soon 41 = .ok (.iload_n 2, 1) := by decide +kernel
theorem dX6_soon_42 : decode cX6_soon 42 = .ok (.ifCond .ne 10, 3) := by decide +kernel
theorem dX6_soon_45 : decode cX6_soon 45 = .ok (.aload_n 0, 1) := by decide +kernel
theorem dX6_soon_46 : decode cX6_soon 46 = .ok (.getfield 173, 3) := by decide +kernel
theorem dX6_soon_49 : decode cX6_soon 49 = .ok (.goto 7, 3) := by decide +kernel
theorem dX6_soon_52 : decode cX6_soon 52 = .ok (.aload_n 0, 1) := by decide +kernel
theorem dX6_soon_53 : decode cX6_soon 53 = .ok (.getfield 163, 3) := by decide +kernel
theorem dX6_soon_56 : decode cX6_soon 56 = .ok (.ireturn, 1) := by decide +kernel
theorem dX6_longPower_0 : decode cX6_longPower 0 = .ok (.lconst 1, 1) := by decide +kernel
theorem dX6_longPower_1 : decode cX6_longPower 1 = .ok (.lstore_n 3, 1) := by decide +kernel
theorem dX6_longPower_2 : decode cX6_longPower 2 = .ok (.iconst 0, 1) := by decide +kernel
theorem dX6_longPower_3 : decode cX6_longPower 3 = .ok (.istore 5, 2) := by decide +kernel
theorem dX6_longPower_5 : decode cX6_longPower 5 = .ok (.iload 5, 2) := by decide +kernel
theorem dX6_longPower_7 : decode cX6_longPower 7 = .ok (.iload_n 2, 1) := by decide +kernel
theorem dX6_longPower_8 : decode cX6_longPower 8 = .ok (.if_icmp .ge 13, 3) := by decide +kernel
theorem dX6_longPower_11 : decode cX6_longPower 11 = .ok (.lload_n 3, 1) := by decide +kernel
theorem dX6_longPower_12 : decode cX6_longPower 12 = .ok (.lload_n 0, 1) := by decide +kernel
theorem dX6_longPower_13 : decode cX6_longPower 13 = .ok (.lmul, 1) := by decide +kernel
theorem dX6_longPower_14 : decode cX6_longPower 14 = .ok (.lstore_n 3, 1) := by decide +kernel
theorem dX6_longPower_15 : decode cX6_longPower 15 = .ok (.iinc 5 1, 3) := by decide +kernel
theorem dX6_longPower_18 : decode cX6_longPower 18 = .ok (.goto (-13), 3) := by decide +kernel
theorem dX6_longPower_21 : decode cX6_longPower 21 = .ok (.lload_n 3, 1) := by decide +kernel
theorem dX6_longPower_22 : decode cX6_longPower 22 = .ok (.lreturn, 1) := by decide +kernel
theorem dX6_strikes_0 : decode cX6_strikes 0 = .ok (.iload_n 1, 1) := by decide +kernel
theorem dX6_strikes_1 : decode cX6_strikes 1 = .ok (.invokestatic 101, 3) := by decide +kernel
theorem dX6_strikes_4 : decode cX6_strikes 4 = .ok (.ifCond .ne 16, 3) := by decide +kernel
theorem dX6_strikes_7 : decode cX6_strikes 7 = .ok (.aload_n 0, 1) := by decide +kernel
theorem dX6_strikes_8 : decode cX6_strikes 8 = .ok (.getfield 25, 3) := by decide +kernel
theorem dX6_strikes_11 : decode cX6_strikes 11 = .ok (.iload_n 1, 1) := by decide +kernel
theorem dX6_strikes_12 : decode cX6_strikes 12 = .ok (.iaload, 1) := by decide +kernel
theorem dX6_strikes_13 : decode cX6_strikes 13 = .ok (.ifCond .le 7, 3) := by decide +kernel
theorem dX6_strikes_16 : decode cX6_strikes 16 = .ok (.iconst 1, 1) := by decide +kernel
theorem dX6_strikes_17 : decode cX6_strikes 17 = .ok (.goto 4, 3) := by decide +kernel
theorem dX6_strikes_20 : decode cX6_strikes 20 = .ok (.iconst 0, 1) := by decide +kernel
theorem dX6_strikes_21 : decode cX6_strikes 21 = .ok (.istore_n 2, 1) := by decide +kernel
theorem dX6_strikes_22 : decode cX6_strikes 22 = .ok (.iload_n 2, 1) := by decide +kernel
theorem dX6_strikes_23 : decode cX6_strikes 23 = .ok (.ifCond .eq 13, 3) := by decide +kernel
theorem dX6_strikes_26 : decode cX6_strikes 26 = .ok (.aload_n 0, 1) := by decide +kernel
theorem dX6_strikes_27 : decode cX6_strikes 27 = .ok (.aload_n 0, 1) := by decide +kernel
theorem dX6_strikes_28 : decode cX6_strikes 28 = .ok (.getfield 25, 3) := by decide +kernel
theorem dX6_strikes_31 : decode cX6_strikes 31 = .ok (.iload_n 1, 1) := by decide +kernel
theorem dX6_strikes_32 : decode cX6_strikes 32 = .ok (.invokevirtual 156, 3) := by decide +kernel
theorem dX6_strikes_35 : decode cX6_strikes 35 = .ok (.pop, 1) := by decide +kernel
theorem dX6_strikes_36 : decode cX6_strikes 36 = .ok (.iload_n 2, 1) := by decide +kernel
theorem dX6_strikes_37 : decode cX6_strikes 37 = .ok (.ireturn, 1) := by decide +kernel
theorem dX6_does_0 : decode cX6_does 0 = .ok (.iload_n 1, 1) := by decide +kernel
theorem dX6_does_1 : decode cX6_does 1 = .ok (.bipush 100, 2) := by decide +kernel
theorem dX6_does_3 : decode cX6_does 3 = .ok (.idiv, 1) := by decide +kernel
theorem dX6_does_4 : decode cX6_does 4 = .ok (.istore_n 2, 1) := by decide +kernel
theorem dX6_does_5 : decode cX6_does 5 = .ok (.iload_n 1, 1) := by decide +kernel
theorem dX6_does_6 : decode cX6_does 6 = .ok (.bipush 10, 2) := by decide +kernel
theorem dX6_does_8 : decode cX6_does 8 = .ok (.idiv, 1) := by decide +kernel
theorem dX6_does_9 : decode cX6_does 9 = .ok (.bipush 10, 2) := by decide +kernel
theorem dX6_does_11 : decode cX6_does 11 = .ok (.irem, 1) := by decide +kernel
theorem dX6_does_12 : decode cX6_does 12 = .ok (.istore_n 3, 1) := by decide +kernel
theorem dX6_does_13 : decode cX6_does 13 = .ok (.iload_n 1, 1) := by decide +kernel
theorem dX6_does_14 : decode cX6_does 14 = .ok (.bipush 10, 2) := by decide +kernel
theorem dX6_does_16 : decode cX6_does 16 = .ok (.irem, 1) := by decide +kernel
theorem dX6_does_17 : decode cX6_does 17 = .ok (.istore 4, 2) := by decide +kernel
theorem dX6_does_19 : decode cX6_does 19 = .ok (.iload_n 1, 1) := by decide +kernel
theorem dX6_does_20 : decode cX6_does 20 = .ok (.sipush 300, 3) := by decide +kernel
theorem dX6_does_23 : decode cX6_does 23 = .ok (.if_icmp .ne 14, 3) := by decide +kernel
theorem dX6_does_26 : decode cX6_does 26 = .ok (.aload_n 0, 1) := by decide +kernel
theorem dX6_does_27 : decode cX6_does 27 = .ok (.aload_n 0, 1) := by decide +kernel
theorem dX6_does_28 : decode cX6_does 28 = .ok (.getfield 25, 3) := by decide +kernel
theorem dX6_does_31 : decode cX6_does 31 = .ok (.invokevirtual 160, 3) := by decide +kernel
theorem dX6_does_34 : decode cX6_does 34 = .ok (.pop, 1) := by decide +kernel
theorem dX6_does_35 : decode cX6_does 35 = .ok (.iconst 1, 1) := by decide +kernel
theorem dX6_does_36 : decode cX6_does 36 = .ok (.ireturn, 1) := by decide +kernel
theorem dX6_does_37 : decode cX6_does 37 = .ok (.iload_n 2, 1) := by decide +kernel
theorem dX6_does_38 : decode cX6_does 38 = .ok (.iconst 5, 1) := by decide +kernel
theorem dX6_does_39 : decode cX6_does 39 = .ok (.if_icmp .ne 27, 3) := by decide +kernel
theorem dX6_does_42 : decode cX6_does 42 = .ok (.iload_n 3, 1) := by decide +kernel
theorem dX6_does_43 : decode cX6_does 43 = .ok (.invokestatic 101, 3) := by decide +kernel
theorem dX6_does_46 : decode cX6_does 46 = .ok (.ifCond .ne 18, 3) := by decide +kernel
theorem dX6_does_49 : decode cX6_does 49 = .ok (.aload_n 0, 1) := by decide +kernel
theorem dX6_does_50 : decode cX6_does 50 = .ok (.getfield 25, 3) := by decide +kernel
theorem dX6_does_53 : decode cX6_does 53 = .ok (.iload_n 3, 1) := by decide +kernel
theorem dX6_does_54 : decode cX6_does 54 = .ok (.iaload, 1) := by decide +kernel
theorem dX6_does_55 : decode cX6_does 55 = .ok (.iload 4, 2) := by decide +kernel
theorem dX6_does_57 : decode cX6_does 57 = .ok (.if_icmp .lt 7, 3) := by decide +kernel
theorem dX6_does_60 : decode cX6_does 60 = .ok (.iconst 1, 1) := by decide +kernel
theorem dX6_does_61 : decode cX6_does 61 = .ok (.goto 4, 3) := by decide +kernel
theorem dX6_does_64 : decode cX6_does 64 = .ok (.iconst 0, 1) := by decide +kernel
theorem dX6_does_65 : decode cX6_does 65 = .ok (.ireturn, 1) := by decide +kernel
theorem dX6_does_66 : decode cX6_does 66 = .ok (.iload_n 3, 1) := by decide +kernel
theorem dX6_does_67 : decode cX6_does 67 = .ok (.ifCond .eq 5, 3) := by decide +kernel
theorem dX6_does_70 : decode cX6_does 70 = .ok (.iconst 0, 1) := by decide +kernel
theorem dX6_does_71 : decode cX6_does 71 = .ok (.ireturn, 1) := by decide +kernel
theorem dX6_does_72 : decode cX6_does 72 = .ok (.iload_n 2, 1) := by decide +kernel
theorem dX6_does_73 : decode cX6_does 73 = .ok (.iconst 1, 1) := by decide +kernel
theorem dX6_does_74 : decode cX6_does 74 = .ok (.if_icmp .ne 30, 3) := by decide +kernel
theorem dX6_does_77 : decode cX6_does 77 = .ok (.iload 4, 2) := by decide +kernel
theorem dX6_does_79 : decode cX6_does 79 = .ok (.invokestatic 101, 3) := by decide +kernel
theorem dX6_does_82 : decode cX6_does 82 = .ok (.ifCond .ne 20, 3) := by decide +kernel
theorem dX6_does_85 : decode cX6_does 85 = .ok (.aload_n 0, 1) := by decide +kernel
theorem dX6_does_86 : decode cX6_does 86 = .ok (.aload_n 0, 1) := by decide +kernel
theorem dX6_does_87 : decode cX6_does 87 = .ok (.getfield 25, 3) := by decide +kernel
theorem dX6_does_90 : decode cX6_does 90 = .ok (.iload 4, 2) := by decide +kernel
theorem dX6_does_92 : decode cX6_does 92 = .ok (.invokevirtual 153, 3) := by decide +kernel
theorem dX6_does_95 : decode cX6_does 95 = .ok (.ifCond .eq 7, 3) := by decide +kernel
theorem dX6_does_98 : decode cX6_does 98 = .ok (.iconst 1, 1) := by decide +kernel
theorem dX6_does_99 : decode cX6_does 99 = .ok (.goto 4, 3) := by decide +kernel
theorem dX6_does_102 : decode cX6_does 102 = .ok (.iconst 0, 1) := by decide +kernel
theorem dX6_does_103 : decode cX6_does 103 = .ok (.ireturn, 1) := by decide +kernel
theorem dX6_does_104 : decode cX6_does 104 = .ok (.iload_n 2, 1) := by decide +kernel
theorem dX6_does_105 : decode cX6_does 105 = .ok (.iconst 2, 1) := by decide +kernel
theorem dX6_does_106 : decode cX6_does 106 = .ok (.if_icmp .ne 12, 3) := by decide +kernel
theorem dX6_does_109 : decode cX6_does 109 = .ok (.aload_n 0, 1) := by decide +kernel
theorem dX6_does_110 : decode cX6_does 110 = .ok (.iload 4, 2) := by decide +kernel
theorem dX6_does_112 : decode cX6_does 112 = .ok (.invokevirtual 180, 3) := by decide +kernel
theorem dX6_does_115 : decode cX6_does 115 = .ok (.ifCond .ne 31, 3) := by decide +kernel
theorem dX6_does_118 : decode cX6_does 118 = .ok (.iload_n 2, 1) := by decide +kernel
theorem dX6_does_119 : decode cX6_does 119 = .ok (.iconst 4, 1) := by decide +kernel
theorem dX6_does_120 : decode cX6_does 120 = .ok (.if_icmp .ne 30, 3) := by decide +kernel
theorem dX6_does_123 : decode cX6_does 123 = .ok (.aload_n 0, 1) := by decide +kernel
theorem dX6_does_124 : decode cX6_does 124 = .ok (.iload 4, 2) := by decide +kernel
theorem dX6_does_126 : decode cX6_does 126 = .ok (.invokevirtual 147, 3) := by decide +kernel
theorem dX6_does_129 : decode cX6_does 129 = .ok (.ifCond .ne 21, 3) := by decide +kernel
theorem dX6_does_132 : decode cX6_does 132 = .ok (.aload_n 0, 1) := by decide +kernel
theorem dX6_does_133 : decode cX6_does 133 = .ok (.getfield 25, 3) := by decide +kernel
theorem dX6_does_136 : decode cX6_does 136 = .ok (.iconst 5, 1) := by decide +kernel
theorem dX6_does_137 : decode cX6_does 137 = .ok (.iaload, 1) := by decide +kernel
theorem dX6_does_138 : decode cX6_does 138 = .ok (.iload 4, 2) := by decide +kernel
theorem dX6_does_140 : decode cX6_does 140 = .ok (.invokestatic 79, 3) := by decide +kernel
theorem dX6_does_143 : decode cX6_does 143 = .ok (.ifCond .eq 7, 3) := by decide +kernel
theorem dX6_does_146 : decode cX6_does 146 = .ok (.iconst 1, 1) := by decide +kernel
theorem dX6_does_147 : decode cX6_does 147 = .ok (.goto 4, 3) := by decide +kernel
theorem dX6_does_150 : decode cX6_does 150 = .ok (.iconst 0, 1) := by decide +kernel
theorem dX6_does_151 : decode cX6_does 151 = .ok (.ireturn, 1) := by decide +kernel
theorem dX6_judge_0 : decode cX6_judge 0 = .ok (.aload_n 0, 1) := by decide +kernel
theorem dX6_judge_1 : decode cX6_judge 1 = .ok (.iconst 0, 1) := by decide +kernel
theorem dX6_judge_2 : decode cX6_judge 2 = .ok (.putfield 50, 3) := by decide +kernel
theorem dX6_judge_5 : decode cX6_judge 5 = .ok (.iload_n 1, 1) := by decide +kernel
theorem dX6_judge_6 : decode cX6_judge 6 = .ok (.i2l, 1) := by decide +kernel
theorem dX6_judge_7 : decode cX6_judge 7 = .ok (.lconst 1, 1) := by decide +kernel
theorem dX6_judge_8 : decode cX6_judge 8 = .ok (.ldc2_w 183, 3) := by decide +kernel
theorem dX6_judge_11 : decode cX6_judge 11 = .ok (.invokestatic 56, 3) := by decide +kernel
theorem dX6_judge_14 : decode cX6_judge 14 = .ok (.ifCond .eq 20, 3) := by decide +kernel
theorem dX6_judge_17 : decode cX6_judge 17 = .ok (.lload_n 2, 1) := by decide +kernel
theorem dX6_judge_18 : decode cX6_judge 18 = .ok (.lconst 0, 1) := by decide +kernel
theorem dX6_judge_19 : decode cX6_judge 19 = .ok (.ldc2_w 185, 3) := by decide +kernel
theorem dX6_judge_22 : decode cX6_judge 22 = .ok (.iload_n 1, 1) := by decide +kernel
theorem dX6_judge_23 : decode cX6_judge 23 = .ok (.invokestatic 187, 3) := by decide +kernel
theorem dX6_judge_26 : decode cX6_judge 26 = .ok (.lconst 1, 1) := by decide +kernel
theorem dX6_judge_27 : decode cX6_judge 27 = .ok (.lsub, 1) := by decide +kernel
theorem dX6_judge_28 : decode cX6_judge 28 = .ok (.invokestatic 56, 3) := by decide +kernel
theorem dX6_judge_31 : decode cX6_judge 31 = .ok (.ifCond .ne 6, 3) := by decide +kernel
theorem dX6_judge_34 : decode cX6_judge 34 = .ok (.bipush (-2), 2) := by decide +kernel
theorem dX6_judge_36 : decode cX6_judge 36 = .ok (.ireturn, 1) := by decide +kernel
theorem dX6_judge_37 : decode cX6_judge 37 = .ok (.aload_n 0, 1) := by decide +kernel
theorem dX6_judge_38 : decode cX6_judge 38 = .ok (.invokevirtual 132, 3) := by decide +kernel
theorem dX6_judge_41 : decode cX6_judge 41 = .ok (.iconst 0, 1) := by decide +kernel
theorem dX6_judge_42 : decode cX6_judge 42 = .ok (.istore 4, 2) := by decide +kernel
theorem dX6_judge_44 : decode cX6_judge 44 = .ok (.iload 4, 2) := by decide +kernel
theorem dX6_judge_46 : decode cX6_judge 46 = .ok (.iload_n 1, 1) := by decide +kernel
theorem dX6_judge_47 : decode cX6_judge 47 = .ok (.if_icmp .ge 38, 3) := by decide +kernel
theorem dX6_judge_50 : decode cX6_judge 50 = .ok (.aload_n 0, 1) := by decide +kernel
theorem dX6_judge_51 : decode cX6_judge 51 = .ok (.lload_n 2, 1) := by decide +kernel
theorem dX6_judge_52 : decode cX6_judge 52 = .ok (.ldc2_w 185, 3) := by decide +kernel
theorem dX6_judge_55 : decode cX6_judge 55 = .ok (.iload_n 1, 1) := by decide +kernel
theorem dX6_judge_56 : decode cX6_judge 56 = .ok (.iconst 1, 1) := by decide +kernel
theorem dX6_judge_57 : decode cX6_judge 57 = .ok (.isub, 1) := by decide +kernel
theorem dX6_judge_58 : decode cX6_judge 58 = .ok (.iload 4, 2) := by decide +kernel
theorem dX6_judge_60 : decode cX6_judge 60 = .ok (.isub, 1) := by decide +kernel
theorem dX6_judge_61 : decode cX6_judge 61 = .ok (.invokestatic 187, 3) := by decide +kernel
theorem dX6_judge_64 : decode cX6_judge 64 = .ok (.ldiv, 1) := by decide +kernel
theorem dX6_judge_65 : decode cX6_judge 65 = .ok (.ldc2_w 185, 3) := by decide +kernel
theorem dX6_judge_68 : decode cX6_judge 68 = .ok (.lrem, 1) := by decide +kernel
theorem dX6_judge_69 : decode cX6_judge 69 = .ok (.l2i, 1) := by decide +kernel
theorem dX6_judge_70 : decode cX6_judge 70 = .ok (.invokevirtual 191, 3) := by decide +kernel
theorem dX6_judge_73 : decode cX6_judge 73 = .ok (.ifCond .ne 6, 3) := by decide +kernel
theorem dX6_judge_76 : decode cX6_judge 76 = .ok (.iload 4, 2) := by decide +kernel
theorem dX6_judge_78 : decode cX6_judge 78 = .ok (.ireturn, 1) := by decide +kernel
theorem dX6_judge_79 : decode cX6_judge 79 = .ok (.iinc 4 1, 3) := by decide +kernel
theorem dX6_judge_82 : decode cX6_judge 82 = .ok (.goto (-38), 3) := by decide +kernel
theorem dX6_judge_85 : decode cX6_judge 85 = .ok (.bipush (-9), 2) := by decide +kernel
theorem dX6_judge_87 : decode cX6_judge 87 = .ok (.ireturn, 1) := by decide +kernel
theorem dX6_ways_0 : decode cX6_ways 0 = .ok (.iconst 1, 1) := by decide +kernel
theorem dX6_ways_1 : decode cX6_ways 1 = .ok (.istore_n 1, 1) := by decide +kernel
theorem dX6_ways_2 : decode cX6_ways 2 = .ok (.iconst 2, 1) := by decide +kernel
theorem dX6_ways_3 : decode cX6_ways 3 = .ok (.istore_n 2, 1) := by decide +kernel
theorem dX6_ways_4 : decode cX6_ways 4 = .ok (.iload_n 2, 1) := by decide +kernel
theorem dX6_ways_5 : decode cX6_ways 5 = .ok (.iload_n 0, 1) := by decide +kernel
theorem dX6_ways_6 : decode cX6_ways 6 = .ok (.if_icmp .gt 13, 3) := by decide +kernel
theorem dX6_ways_9 : decode cX6_ways 9 = .ok (.iload_n 1, 1) := by decide +kernel
theorem dX6_ways_10 : decode cX6_ways 10 = .ok (.iload_n 2, 1) := by decide +kernel
theorem dX6_ways_11 : decode cX6_ways 11 = .ok (.imul, 1) := by decide +kernel
theorem dX6_ways_12 : decode cX6_ways 12 = .ok (.istore_n 1, 1) := by decide +kernel
theorem dX6_ways_13 : decode cX6_ways 13 = .ok (.iinc 2 1, 3) := by decide +kernel
theorem dX6_ways_16 : decode cX6_ways 16 = .ok (.goto (-12), 3) := by decide +kernel
theorem dX6_ways_19 : decode cX6_ways 19 = .ok (.iload_n 1, 1) := by decide +kernel
theorem dX6_ways_20 : decode cX6_ways 20 = .ok (.ireturn, 1) := by decide +kernel
theorem dX6_divisor_0 : decode cX6_divisor 0 = .ok (.iload_n 0, 1) := by decide +kernel
theorem dX6_divisor_1 : decode cX6_divisor 1 = .ok (.ifCond .ge 8, 3) := by decide +kernel
theorem dX6_divisor_4 : decode cX6_divisor 4 = .ok (.iload_n 0, 1) := by decide +kernel
theorem dX6_divisor_5 : decode cX6_divisor 5 = .ok (.ineg, 1) := by decide +kernel
theorem dX6_divisor_6 : decode cX6_divisor 6 = .ok (.goto 4, 3) := by decide +kernel
theorem dX6_divisor_9 : decode cX6_divisor 9 = .ok (.iload_n 0, 1) := by decide +kernel
theorem dX6_divisor_10 : decode cX6_divisor 10 = .ok (.istore_n 2, 1) := by decide +kernel
theorem dX6_divisor_11 : decode cX6_divisor 11 = .ok (.iload_n 1, 1) := by decide +kernel
theorem dX6_divisor_12 : decode cX6_divisor 12 = .ok (.istore_n 3, 1) := by decide +kernel
theorem dX6_divisor_13 : decode cX6_divisor 13 = .ok (.iload_n 3, 1) := by decide +kernel
theorem dX6_divisor_14 : decode cX6_divisor 14 = .ok (.ifCond .eq 16, 3) := by decide +kernel
theorem dX6_divisor_17 : decode cX6_divisor 17 = .ok (.iload_n 2, 1) := by decide +kernel
theorem dX6_divisor_18 : decode cX6_divisor 18 = .ok (.iload_n 3, 1) := by decide +kernel
theorem dX6_divisor_19 : decode cX6_divisor 19 = .ok (.irem, 1) := by decide +kernel
theorem dX6_divisor_20 : decode cX6_divisor 20 = .ok (.istore 4, 2) := by decide +kernel
theorem dX6_divisor_22 : decode cX6_divisor 22 = .ok (.iload_n 3, 1) := by decide +kernel
theorem dX6_divisor_23 : decode cX6_divisor 23 = .ok (.istore_n 2, 1) := by decide +kernel
theorem dX6_divisor_24 : decode cX6_divisor 24 = .ok (.iload 4, 2) := by decide +kernel
theorem dX6_divisor_26 : decode cX6_divisor 26 = .ok (.istore_n 3, 1) := by decide +kernel
theorem dX6_divisor_27 : decode cX6_divisor 27 = .ok (.goto (-14), 3) := by decide +kernel
theorem dX6_divisor_30 : decode cX6_divisor 30 = .ok (.iload_n 2, 1) := by decide +kernel
theorem dX6_divisor_31 : decode cX6_divisor 31 = .ok (.ireturn, 1) := by decide +kernel
theorem dX6_fraction_0 : decode cX6_fraction 0 = .ok (.iload_n 0, 1) := by decide +kernel
theorem dX6_fraction_1 : decode cX6_fraction 1 = .ok (.iload_n 1, 1) := by decide +kernel
theorem dX6_fraction_2 : decode cX6_fraction 2 = .ok (.invokestatic 194, 3) := by decide +kernel
theorem dX6_fraction_5 : decode cX6_fraction 5 = .ok (.istore_n 3, 1) := by decide +kernel
theorem dX6_fraction_6 : decode cX6_fraction 6 = .ok (.iload_n 2, 1) := by decide +kernel
theorem dX6_fraction_7 : decode cX6_fraction 7 = .ok (.ifCond .eq 9, 3) := by decide +kernel
theorem dX6_fraction_10 : decode cX6_fraction 10 = .ok (.iload_n 0, 1) := by decide +kernel
theorem dX6_fraction_11 : decode cX6_fraction 11 = .ok (.iload_n 3, 1) := by decide +kernel
theorem dX6_fraction_12 : decode cX6_fraction 12 = .ok (.idiv, 1) := by decide +kernel
theorem dX6_fraction_13 : decode cX6_fraction 13 = .ok (.goto 6, 3) := by decide +kernel
theorem dX6_fraction_16 : decode cX6_fraction 16 = .ok (.iload_n 1, 1) := by decide +kernel
theorem dX6_fraction_17 : decode cX6_fraction 17 = .ok (.iload_n 3, 1) := by decide +kernel
theorem dX6_fraction_18 : decode cX6_fraction 18 = .ok (.idiv, 1) := by decide +kernel
theorem dX6_fraction_19 : decode cX6_fraction 19 = .ok (.ireturn, 1) := by decide +kernel
theorem dX6_share_0 : decode cX6_share 0 = .ok (.aload_n 0, 1) := by decide +kernel
theorem dX6_share_1 : decode cX6_share 1 = .ok (.iconst 0, 1) := by decide +kernel
theorem dX6_share_2 : decode cX6_share 2 = .ok (.putfield 50, 3) := by decide +kernel
theorem dX6_share_5 : decode cX6_share 5 = .ok (.aload_n 0, 1) := by decide +kernel
theorem dX6_share_6 : decode cX6_share 6 = .ok (.iload_n 1, 1) := by decide +kernel
theorem dX6_share_7 : decode cX6_share 7 = .ok (.invokevirtual 147, 3) := by decide +kernel
theorem dX6_share_10 : decode cX6_share 10 = .ok (.ifCond .eq 5, 3) := by decide +kernel
theorem dX6_share_13 : decode cX6_share 13 = .ok (.iconst (-1), 1) := by decide +kernel
theorem dX6_share_14 : decode cX6_share 14 = .ok (.ireturn, 1) := by decide +kernel
theorem dX6_share_15 : decode cX6_share 15 = .ok (.iconst 0, 1) := by decide +kernel
theorem dX6_share_16 : decode cX6_share 16 = .ok (.istore_n 3, 1) := by decide +kernel
theorem dX6_share_17 : decode cX6_share 17 = .ok (.iload_n 3, 1) := by decide +kernel
theorem dX6_share_18 : decode cX6_share 18 = .ok (.iconst 1, 1) := by decide +kernel
theorem dX6_share_19 : decode cX6_share 19 = .ok (.aload_n 0, 1) := by decide +kernel
theorem dX6_share_20 : decode cX6_share 20 = .ok (.getfield 60, 3) := by decide +kernel
theorem dX6_share_23 : decode cX6_share 23 = .ok (.ishl, 1) := by decide +kernel
theorem dX6_share_24 : decode cX6_share 24 = .ok (.if_icmp .ge 60, 3) := by decide +kernel
theorem dX6_share_27 : decode cX6_share 27 = .ok (.aload_n 0, 1) := by decide +kernel
theorem dX6_share_28 : decode cX6_share 28 = .ok (.invokevirtual 132, 3) := by decide +kernel
theorem dX6_share_31 : decode cX6_share 31 = .ok (.iconst 0, 1) := by decide +kernel
theorem dX6_share_32 : decode cX6_share 32 = .ok (.istore 4, 2) := by decide +kernel
theorem dX6_share_34 : decode cX6_share 34 = .ok (.iload 4, 2) := by decide +kernel
theorem dX6_share_36 : decode cX6_share 36 = .ok (.iconst 4, 1) := by decide +kernel
theorem dX6_share_37 : decode cX6_share 37 = .ok (.if_icmp .ge 17, 3) := by decide +kernel
theorem dX6_share_40 : decode cX6_share 40 = .ok (.aload_n 0, 1) := by decide +kernel
theorem dX6_share_41 : decode cX6_share 41 = .ok (.getfield 25, 3) := by decide +kernel
theorem dX6_share_44 : decode cX6_share 44 = .ok (.iload 4, 2) := by decide +kernel
theorem dX6_share_46 : decode cX6_share 46 = .ok (.iconst 0, 1) := by decide +kernel
theorem dX6_share_47 : decode cX6_share 47 = .ok (.iastore, 1) := by decide +kernel
theorem dX6_share_48 : decode cX6_share 48 = .ok (.iinc 4 1, 3) := by decide +kernel
theorem dX6_share_51 : decode cX6_share 51 = .ok (.goto (-17), 3) := by decide +kernel
theorem dX6_share_54 : decode cX6_share 54 = .ok (.aload_n 0, 1) := by decide +kernel
theorem dX6_share_55 : decode cX6_share 55 = .ok (.getfield 25, 3) := by decide +kernel
theorem dX6_share_58 : decode cX6_share 58 = .ok (.iconst 5, 1) := by decide +kernel
theorem dX6_share_59 : decode cX6_share 59 = .ok (.iload_n 3, 1) := by decide +kernel
theorem dX6_share_60 : decode cX6_share 60 = .ok (.iastore, 1) := by decide +kernel
theorem dX6_share_61 : decode cX6_share 61 = .ok (.aload_n 0, 1) := by decide +kernel
theorem dX6_share_62 : decode cX6_share 62 = .ok (.getfield 47, 3) := by decide +kernel
theorem dX6_share_65 : decode cX6_share 65 = .ok (.iload_n 3, 1) := by decide +kernel
theorem dX6_share_66 : decode cX6_share 66 = .ok (.aload_n 0, 1) := by decide +kernel
theorem dX6_share_67 : decode cX6_share 67 = .ok (.aload_n 0, 1) := by decide +kernel
theorem dX6_share_68 : decode cX6_share 68 = .ok (.getfield 25, 3) := by decide +kernel
theorem dX6_share_71 : decode cX6_share 71 = .ok (.invokevirtual 125, 3) := by decide +kernel
theorem dX6_share_74 : decode cX6_share 74 = .ok (.invokestatic 129, 3) := by decide +kernel
theorem dX6_share_77 : decode cX6_share 77 = .ok (.iastore, 1) := by decide +kernel
theorem dX6_share_78 : decode cX6_share 78 = .ok (.iinc 3 1, 3) := by decide +kernel
theorem dX6_share_81 : decode cX6_share 81 = .ok (.goto (-64), 3) := by decide +kernel
theorem dX6_share_84 : decode cX6_share 84 = .ok (.iconst 0, 1) := by decide +kernel
theorem dX6_share_85 : decode cX6_share 85 = .ok (.istore_n 3, 1) := by decide +kernel
theorem dX6_share_86 : decode cX6_share 86 = .ok (.iconst 0, 1) := by decide +kernel
theorem dX6_share_87 : decode cX6_share 87 = .ok (.istore 4, 2) := by decide +kernel
theorem dX6_share_89 : decode cX6_share 89 = .ok (.iload 4, 2) := by decide +kernel
theorem dX6_share_91 : decode cX6_share 91 = .ok (.iconst 1, 1) := by decide +kernel
theorem dX6_share_92 : decode cX6_share 92 = .ok (.aload_n 0, 1) := by decide +kernel
theorem dX6_share_93 : decode cX6_share 93 = .ok (.getfield 60, 3) := by decide +kernel
theorem dX6_share_96 : decode cX6_share 96 = .ok (.ishl, 1) := by decide +kernel
theorem dX6_share_97 : decode cX6_share 97 = .ok (.if_icmp .ge 66, 3) := by decide +kernel
theorem dX6_share_100 : decode cX6_share 100 = .ok (.iload 4, 2) := by decide +kernel
theorem dX6_share_102 : decode cX6_share 102 = .ok (.iload_n 1, 1) := by decide +kernel
theorem dX6_share_103 : decode cX6_share 103 = .ok (.invokestatic 79, 3) := by decide +kernel
theorem dX6_share_106 : decode cX6_share 106 = .ok (.ifCond .ne 51, 3) := by decide +kernel
theorem dX6_share_109 : decode cX6_share 109 = .ok (.iload 4, 2) := by decide +kernel
theorem dX6_share_111 : decode cX6_share 111 = .ok (.invokestatic 129, 3) := by decide +kernel
theorem dX6_share_114 : decode cX6_share 114 = .ok (.istore 5, 2) := by decide +kernel
theorem dX6_share_116 : decode cX6_share 116 = .ok (.iload_n 3, 1) := by decide +kernel
theorem dX6_share_117 : decode cX6_share 117 = .ok (.iload 5, 2) := by decide +kernel
theorem dX6_share_119 : decode cX6_share 119 = .ok (.invokestatic 197, 3) := by decide +kernel
theorem dX6_share_122 : decode cX6_share 122 = .ok (.aload_n 0, 1) := by decide +kernel
theorem dX6_share_123 : decode cX6_share 123 = .ok (.getfield 60, 3) := by decide +kernel
theorem dX6_share_126 : decode cX6_share 126 = .ok (.iconst 1, 1) := by decide +kernel
theorem dX6_share_127 : decode cX6_share 127 = .ok (.isub, 1) := by decide +kernel
theorem dX6_share_128 : decode cX6_share 128 = .ok (.iload 5, 2) := by decide +kernel
theorem dX6_share_130 : decode cX6_share 130 = .ok (.isub, 1) := by decide +kernel
theorem dX6_share_131 : decode cX6_share 131 = .ok (.invokestatic 197, 3) := by decide +kernel
theorem dX6_share_134 : decode cX6_share 134 = .ok (.imul, 1) := by decide +kernel
theorem dX6_share_135 : decode cX6_share 135 = .ok (.aload_n 0, 1) := by decide +kernel
theorem dX6_share_136 : decode cX6_share 136 = .ok (.getfield 47, 3) := by decide +kernel
theorem dX6_share_139 : decode cX6_share 139 = .ok (.iload 4, 2) := by decide +kernel
theorem dX6_share_141 : decode cX6_share 141 = .ok (.iconst 1, 1) := by decide +kernel
theorem dX6_share_142 : decode cX6_share 142 = .ok (.iload_n 1, 1) := by decide +kernel
theorem dX6_share_143 : decode cX6_share 143 = .ok (.ishl, 1) := by decide +kernel
theorem dX6_share_144 : decode cX6_share 144 = .ok (.ior, 1) := by decide +kernel
theorem dX6_share_145 : decode cX6_share 145 = .ok (.iaload, 1) := by decide +kernel
theorem dX6_share_146 : decode cX6_share 146 = .ok (.aload_n 0, 1) := by decide +kernel
theorem dX6_share_147 : decode cX6_share 147 = .ok (.getfield 47, 3) := by decide +kernel
theorem dX6_share_150 : decode cX6_share 150 = .ok (.iload 4, 2) := by decide +kernel
theorem dX6_share_152 : decode cX6_share 152 = .ok (.iaload, 1) := by decide +kernel
theorem dX6_share_153 : decode cX6_share 153 = .ok (.isub, 1) := by decide +kernel
theorem dX6_share_154 : decode cX6_share 154 = .ok (.imul, 1) := by decide +kernel
theorem dX6_share_155 : decode cX6_share 155 = .ok (.iadd, 1) := by decide +kernel
theorem dX6_share_156 : decode cX6_share 156 = .ok (.istore_n 3, 1) := by decide +kernel
theorem dX6_share_157 : decode cX6_share 157 = .ok (.iinc 4 1, 3) := by decide +kernel
theorem dX6_share_160 : decode cX6_share 160 = .ok (.goto (-71), 3) := by decide +kernel
theorem dX6_share_163 : decode cX6_share 163 = .ok (.iload_n 3, 1) := by decide +kernel
theorem dX6_share_164 : decode cX6_share 164 = .ok (.aload_n 0, 1) := by decide +kernel
theorem dX6_share_165 : decode cX6_share 165 = .ok (.getfield 60, 3) := by decide +kernel
theorem dX6_share_168 : decode cX6_share 168 = .ok (.invokestatic 197, 3) := by decide +kernel
theorem dX6_share_171 : decode cX6_share 171 = .ok (.iload_n 2, 1) := by decide +kernel
theorem dX6_share_172 : decode cX6_share 172 = .ok (.invokestatic 200, 3) := by decide +kernel
theorem dX6_share_175 : decode cX6_share 175 = .ok (.ireturn, 1) := by decide +kernel
theorem dX6_attempt_0 : decode cX6_attempt 0 = .ok (.aload_n 0, 1) := by decide +kernel
theorem dX6_attempt_1 : decode cX6_attempt 1 = .ok (.iconst 0, 1) := by decide +kernel
theorem dX6_attempt_2 : decode cX6_attempt 2 = .ok (.putfield 50, 3) := by decide +kernel
theorem dX6_attempt_5 : decode cX6_attempt 5 = .ok (.iload_n 1, 1) := by decide +kernel
theorem dX6_attempt_6 : decode cX6_attempt 6 = .ok (.i2l, 1) := by decide +kernel
theorem dX6_attempt_7 : decode cX6_attempt 7 = .ok (.lconst 0, 1) := by decide +kernel
theorem dX6_attempt_8 : decode cX6_attempt 8 = .ok (.ldc2_w 204, 3) := by decide +kernel
theorem dX6_attempt_11 : decode cX6_attempt 11 = .ok (.invokestatic 56, 3) := by decide +kernel
theorem dX6_attempt_14 : decode cX6_attempt 14 = .ok (.ifCond .eq 13, 3) := by decide +kernel
theorem dX6_attempt_17 : decode cX6_attempt 17 = .ok (.iload_n 2, 1) := by decide +kernel
theorem dX6_attempt_18 : decode cX6_attempt 18 = .ok (.i2l, 1) := by decide +kernel
theorem dX6_attempt_19 : decode cX6_attempt 19 = .ok (.lconst 0, 1) := by decide +kernel
theorem dX6_attempt_20 : decode cX6_attempt 20 = .ok (.lconst 1, 1) := by decide +kernel
theorem dX6_attempt_21 : decode cX6_attempt 21 = .ok (.invokestatic 56, 3) := by decide +kernel
theorem dX6_attempt_24 : decode cX6_attempt 24 = .ok (.ifCond .ne 6, 3) := by decide +kernel
theorem dX6_attempt_27 : decode cX6_attempt 27 = .ok (.bipush (-2), 2) := by decide +kernel
theorem dX6_attempt_29 : decode cX6_attempt 29 = .ok (.ireturn, 1) := by decide +kernel
theorem dX6_attempt_30 : decode cX6_attempt 30 = .ok (.aload_n 0, 1) := by decide +kernel
theorem dX6_attempt_31 : decode cX6_attempt 31 = .ok (.getfield 144, 3) := by decide +kernel
theorem dX6_attempt_34 : decode cX6_attempt 34 = .ok (.bipush 6, 2) := by decide +kernel
theorem dX6_attempt_36 : decode cX6_attempt 36 = .ok (.if_icmp .ne 6, 3) := by decide +kernel
theorem dX6_attempt_39 : decode cX6_attempt 39 = .ok (.bipush (-4), 2) := by decide +kernel
theorem dX6_attempt_41 : decode cX6_attempt 41 = .ok (.ireturn, 1) := by decide +kernel
theorem dX6_attempt_42 : decode cX6_attempt 42 = .ok (.aload_n 0, 1) := by decide +kernel
theorem dX6_attempt_43 : decode cX6_attempt 43 = .ok (.getfield 38, 3) := by decide +kernel
theorem dX6_attempt_46 : decode cX6_attempt 46 = .ok (.aload_n 0, 1) := by decide +kernel
theorem dX6_attempt_47 : decode cX6_attempt 47 = .ok (.getfield 144, 3) := by decide +kernel
theorem dX6_attempt_50 : decode cX6_attempt 50 = .ok (.iload_n 1, 1) := by decide +kernel
theorem dX6_attempt_51 : decode cX6_attempt 51 = .ok (.iastore, 1) := by decide +kernel
theorem dX6_attempt_52 : decode cX6_attempt 52 = .ok (.aload_n 0, 1) := by decide +kernel
theorem dX6_attempt_53 : decode cX6_attempt 53 = .ok (.getfield 41, 3) := by decide +kernel
theorem dX6_attempt_56 : decode cX6_attempt 56 = .ok (.aload_n 0, 1) := by decide +kernel
theorem dX6_attempt_57 : decode cX6_attempt 57 = .ok (.getfield 144, 3) := by decide +kernel
theorem dX6_attempt_60 : decode cX6_attempt 60 = .ok (.iload_n 2, 1) := by decide +kernel
theorem dX6_attempt_61 : decode cX6_attempt 61 = .ok (.iastore, 1) := by decide +kernel
theorem dX6_attempt_62 : decode cX6_attempt 62 = .ok (.aload_n 0, 1) := by decide +kernel
theorem dX6_attempt_63 : decode cX6_attempt 63 = .ok (.dup, 1) := by decide +kernel
theorem dX6_attempt_64 : decode cX6_attempt 64 = .ok (.getfield 144, 3) := by decide +kernel
theorem dX6_attempt_67 : decode cX6_attempt 67 = .ok (.iconst 1, 1) := by decide +kernel
theorem dX6_attempt_68 : decode cX6_attempt 68 = .ok (.iadd, 1) := by decide +kernel
theorem dX6_attempt_69 : decode cX6_attempt 69 = .ok (.putfield 144, 3) := by decide +kernel
theorem dX6_attempt_72 : decode cX6_attempt 72 = .ok (.aload_n 0, 1) := by decide +kernel
theorem dX6_attempt_73 : decode cX6_attempt 73 = .ok (.getfield 144, 3) := by decide +kernel
theorem dX6_attempt_76 : decode cX6_attempt 76 = .ok (.ireturn, 1) := by decide +kernel
theorem dX6_unattempt_0 : decode cX6_unattempt 0 = .ok (.aload_n 0, 1) := by decide +kernel
theorem dX6_unattempt_1 : decode cX6_unattempt 1 = .ok (.iconst 0, 1) := by decide +kernel
theorem dX6_unattempt_2 : decode cX6_unattempt 2 = .ok (.putfield 50, 3) := by decide +kernel
theorem dX6_unattempt_5 : decode cX6_unattempt 5 = .ok (.aload_n 0, 1) := by decide +kernel
theorem dX6_unattempt_6 : decode cX6_unattempt 6 = .ok (.getfield 144, 3) := by decide +kernel
theorem dX6_unattempt_9 : decode cX6_unattempt 9 = .ok (.istore_n 1, 1) := by decide +kernel
theorem dX6_unattempt_10 : decode cX6_unattempt 10 = .ok (.aload_n 0, 1) := by decide +kernel
theorem dX6_unattempt_11 : decode cX6_unattempt 11 = .ok (.iconst 0, 1) := by decide +kernel
theorem dX6_unattempt_12 : decode cX6_unattempt 12 = .ok (.putfield 144, 3) := by decide +kernel
theorem dX6_unattempt_15 : decode cX6_unattempt 15 = .ok (.iload_n 1, 1) := by decide +kernel
theorem dX6_unattempt_16 : decode cX6_unattempt 16 = .ok (.ireturn, 1) := by decide +kernel
theorem dX6_kinds_0 : decode cX6_kinds 0 = .ok (.aload_n 0, 1) := by decide +kernel
theorem dX6_kinds_1 : decode cX6_kinds 1 = .ok (.iconst 0, 1) := by decide +kernel
theorem dX6_kinds_2 : decode cX6_kinds 2 = .ok (.putfield 50, 3) := by decide +kernel
theorem dX6_kinds_5 : decode cX6_kinds 5 = .ok (.iload_n 1, 1) := by decide +kernel
theorem dX6_kinds_6 : decode cX6_kinds 6 = .ok (.i2l, 1) := by decide +kernel
theorem dX6_kinds_7 : decode cX6_kinds 7 = .ok (.lconst 0, 1) := by decide +kernel
theorem dX6_kinds_8 : decode cX6_kinds 8 = .ok (.lconst 1, 1) := by decide +kernel
theorem dX6_kinds_9 : decode cX6_kinds 9 = .ok (.invokestatic 56, 3) := by decide +kernel
theorem dX6_kinds_12 : decode cX6_kinds 12 = .ok (.ifCond .ne 6, 3) := by decide +kernel
theorem dX6_kinds_15 : decode cX6_kinds 15 = .ok (.bipush (-2), 2) := by decide +kernel
theorem dX6_kinds_17 : decode cX6_kinds 17 = .ok (.ireturn, 1) := by decide +kernel
theorem dX6_kinds_18 : decode cX6_kinds 18 = .ok (.aload_n 0, 1) := by decide +kernel
theorem dX6_kinds_19 : decode cX6_kinds 19 = .ok (.iconst 0, 1) := by decide +kernel
theorem dX6_kinds_20 : decode cX6_kinds 20 = .ok (.putfield 206, 3) := by decide +kernel
theorem dX6_kinds_23 : decode cX6_kinds 23 = .ok (.aload_n 0, 1) := by decide +kernel
theorem dX6_kinds_24 : decode cX6_kinds 24 = .ok (.bipush (-9), 2) := by decide +kernel
theorem dX6_kinds_26 : decode cX6_kinds 26 = .ok (.putfield 209, 3) := by decide +kernel
theorem dX6_kinds_29 : decode cX6_kinds 29 = .ok (.iconst 0, 1) := by decide +kernel
theorem dX6_kinds_30 : decode cX6_kinds 30 = .ok (.istore_n 2, 1) := by decide +kernel
theorem dX6_kinds_31 : decode cX6_kinds 31 = .ok (.iload_n 2, 1) := by decide +kernel
theorem dX6_kinds_32 : decode cX6_kinds 32 = .ok (.bipush 16, 2) := by decide +kernel
theorem dX6_kinds_34 : decode cX6_kinds 34 = .ok (.if_icmp .ge 171, 3) := by decide +kernel
theorem dX6_kinds_37 : decode cX6_kinds 37 = .ok (.iconst 1, 1) := by decide +kernel
theorem dX6_kinds_38 : decode cX6_kinds 38 = .ok (.istore_n 3, 1) := by decide +kernel
theorem dX6_kinds_39 : decode cX6_kinds 39 = .ok (.iconst 0, 1) := by decide +kernel
theorem dX6_kinds_40 : decode cX6_kinds 40 = .ok (.istore 4, 2) := by decide +kernel
theorem dX6_kinds_42 : decode cX6_kinds 42 = .ok (.iload 4, 2) := by decide +kernel
theorem dX6_kinds_44 : decode cX6_kinds 44 = .ok (.aload_n 0, 1) := by decide +kernel
theorem dX6_kinds_45 : decode cX6_kinds 45 = .ok (.getfield 144, 3) := by decide +kernel
theorem dX6_kinds_48 : decode cX6_kinds 48 = .ok (.if_icmp .ge 101, 3) := by decide +kernel
theorem dX6_kinds_51 : decode cX6_kinds 51 = .ok (.aload_n 0, 1) := by decide +kernel
theorem dX6_kinds_52 : decode cX6_kinds 52 = .ok (.getfield 38, 3) := by decide +kernel
theorem dX6_kinds_55 : decode cX6_kinds 55 = .ok (.iload 4, 2) := by decide +kernel
theorem dX6_kinds_57 : decode cX6_kinds 57 = .ok (.iaload, 1) := by decide +kernel
theorem dX6_kinds_58 : decode cX6_kinds 58 = .ok (.istore 5, 2) := by decide +kernel
theorem dX6_kinds_60 : decode cX6_kinds 60 = .ok (.iload_n 2, 1) := by decide +kernel
theorem dX6_kinds_61 : decode cX6_kinds 61 = .ok (.iconst 4, 1) := by decide +kernel
theorem dX6_kinds_62 : decode cX6_kinds 62 = .ok (.irem, 1) := by decide +kernel
theorem dX6_kinds_63 : decode cX6_kinds 63 = .ok (.ifCond .eq 42, 3) := by decide +kernel
theorem dX6_kinds_66 : decode cX6_kinds 66 = .ok (.iload_n 2, 1) := by decide +kernel
theorem dX6_kinds_67 : decode cX6_kinds 67 = .ok (.iconst 4, 1) := by decide +kernel
theorem dX6_kinds_68 : decode cX6_kinds 68 = .ok (.idiv, 1) := by decide +kernel
theorem dX6_kinds_69 : decode cX6_kinds 69 = .ok (.iload 5, 2) := by decide +kernel
theorem dX6_kinds_71 : decode cX6_kinds 71 = .ok (.iconst 0, 1) := by decide +kernel
theorem dX6_kinds_72 : decode cX6_kinds 72 = .ok (.invokestatic 79, 3) := by decide +kernel
theorem dX6_kinds_75 : decode cX6_kinds 75 = .ok (.iload 5, 2) := by decide +kernel
theorem dX6_kinds_77 : decode cX6_kinds 77 = .ok (.iconst 1, 1) := by decide +kernel
theorem dX6_kinds_78 : decode cX6_kinds 78 = .ok (.invokestatic 79, 3) := by decide +kernel
theorem dX6_kinds_81 : decode cX6_kinds 81 = .ok (.iload 5, 2) := by decide +kernel
theorem dX6_kinds_83 : decode cX6_kinds 83 = .ok (.iconst 2, 1) := by decide +kernel
theorem dX6_kinds_84 : decode cX6_kinds 84 = .ok (.invokestatic 79, 3) := by decide +kernel
theorem dX6_kinds_87 : decode cX6_kinds 87 = .ok (.iload 5, 2) := by decide +kernel
theorem dX6_kinds_89 : decode cX6_kinds 89 = .ok (.iconst 3, 1) := by decide +kernel
theorem dX6_kinds_90 : decode cX6_kinds 90 = .ok (.invokestatic 79, 3) := by decide +kernel
theorem dX6_kinds_93 : decode cX6_kinds 93 = .ok (.iload 5, 2) := by decide +kernel
theorem dX6_kinds_95 : decode cX6_kinds 95 = .ok (.iconst 4, 1) := by decide +kernel
theorem dX6_kinds_96 : decode cX6_kinds 96 = .ok (.invokestatic 79, 3) := by decide +kernel
theorem dX6_kinds_99 : decode cX6_kinds 99 = .ok (.invokestatic 117, 3) := by decide +kernel
theorem dX6_kinds_102 : decode cX6_kinds 102 = .ok (.ifCond .eq 7, 3) := by decide +kernel
theorem dX6_kinds_105 : decode cX6_kinds 105 = .ok (.iconst 1, 1) := by decide +kernel
theorem dX6_kinds_106 : decode cX6_kinds 106 = .ok (.goto 4, 3) := by decide +kernel
theorem dX6_kinds_109 : decode cX6_kinds 109 = .ok (.iconst 0, 1) := by decide +kernel
theorem dX6_kinds_110 : decode cX6_kinds 110 = .ok (.istore 6, 2) := by decide +kernel
theorem dX6_kinds_112 : decode cX6_kinds 112 = .ok (.iload_n 3, 1) := by decide +kernel
theorem dX6_kinds_113 : decode cX6_kinds 113 = .ok (.ifCond .eq 28, 3) := by decide +kernel
theorem dX6_kinds_116 : decode cX6_kinds 116 = .ok (.iload 6, 2) := by decide +kernel
theorem dX6_kinds_118 : decode cX6_kinds 118 = .ok (.aload_n 0, 1) := by decide +kernel
theorem dX6_kinds_119 : decode cX6_kinds 119 = .ok (.getfield 41, 3) := by decide +kernel
theorem dX6_kinds_122 : decode cX6_kinds 122 = .ok (.iload 4, 2) := by decide +kernel
theorem dX6_kinds_124 : decode cX6_kinds 124 = .ok (.iaload, 1) := by decide +kernel
theorem dX6_kinds_125 : decode cX6_kinds 125 = .ok (.iconst 1, 1) := by decide +kernel
theorem dX6_kinds_126 : decode cX6_kinds 126 = .ok (.if_icmp .ne 7, 3) := by decide +kernel
theorem dX6_kinds_129 : decode cX6_kinds 129 = .ok (.iconst 1, 1) := by decide +kernel
theorem dX6_kinds_130 : decode cX6_kinds 130 = .ok (.goto 4, 3) := by decide +kernel
theorem dX6_kinds_133 : decode cX6_kinds 133 = .ok (.iconst 0, 1) := by decide +kernel
theorem dX6_kinds_134 : decode cX6_kinds 134 = .ok (.if_icmp .ne 7, 3) := by decide +kernel
theorem dX6_kinds_137 : decode cX6_kinds 137 = .ok (.iconst 1, 1) := by decide +kernel
theorem dX6_kinds_138 : decode cX6_kinds 138 = .ok (.goto 4, 3) := by decide +kernel
theorem dX6_kinds_141 : decode cX6_kinds 141 = .ok (.iconst 0, 1) := by decide +kernel
theorem dX6_kinds_142 : decode cX6_kinds 142 = .ok (.istore_n 3, 1) := by decide +kernel
theorem dX6_kinds_143 : decode cX6_kinds 143 = .ok (.iinc 4 1, 3) := by decide +kernel
theorem dX6_kinds_146 : decode cX6_kinds 146 = .ok (.goto (-104), 3) := by decide +kernel
theorem dX6_kinds_149 : decode cX6_kinds 149 = .ok (.aload_n 0, 1) := by decide +kernel
theorem dX6_kinds_150 : decode cX6_kinds 150 = .ok (.iload_n 3, 1) := by decide +kernel
theorem dX6_kinds_151 : decode cX6_kinds 151 = .ok (.ifCond .eq 23, 3) := by decide +kernel
theorem dX6_kinds_154 : decode cX6_kinds 154 = .ok (.aload_n 0, 1) := by decide +kernel
theorem dX6_kinds_155 : decode cX6_kinds 155 = .ok (.getfield 206, 3) := by decide +kernel
theorem dX6_kinds_158 : decode cX6_kinds 158 = .ok (.ifCond .ne 16, 3) := by decide +kernel
theorem dX6_kinds_161 : decode cX6_kinds 161 = .ok (.bipush 10, 2) := by decide +kernel
theorem dX6_kinds_163 : decode cX6_kinds 163 = .ok (.iload_n 2, 1) := by decide +kernel
theorem dX6_kinds_164 : decode cX6_kinds 164 = .ok (.iconst 4, 1) := by decide +kernel
theorem dX6_kinds_165 : decode cX6_kinds 165 = .ok (.idiv, 1) := by decide +kernel
theorem dX6_kinds_166 : decode cX6_kinds 166 = .ok (.imul, 1) := by decide +kernel
theorem dX6_kinds_167 : decode cX6_kinds 167 = .ok (.iload_n 2, 1) := by decide +kernel
theorem dX6_kinds_168 : decode cX6_kinds 168 = .ok (.iconst 4, 1) := by decide +kernel
theorem dX6_kinds_169 : decode cX6_kinds 169 = .ok (.irem, 1) := by decide +kernel
theorem dX6_kinds_170 : decode cX6_kinds 170 = .ok (.iadd, 1) := by decide +kernel
theorem dX6_kinds_171 : decode cX6_kinds 171 = .ok (.goto 7, 3) := by decide +kernel
theorem dX6_kinds_174 : decode cX6_kinds 174 = .ok (.aload_n 0, 1) := by decide +kernel
theorem dX6_kinds_175 : decode cX6_kinds 175 = .ok (.getfield 209, 3) := by decide +kernel
theorem dX6_kinds_178 : decode cX6_kinds 178 = .ok (.putfield 209, 3) := by decide +kernel
theorem dX6_kinds_181 : decode cX6_kinds 181 = .ok (.aload_n 0, 1) := by decide +kernel
theorem dX6_kinds_182 : decode cX6_kinds 182 = .ok (.dup, 1) := by decide +kernel
theorem dX6_kinds_183 : decode cX6_kinds 183 = .ok (.getfield 206, 3) := by decide +kernel
theorem dX6_kinds_186 : decode cX6_kinds 186 = .ok (.iload_n 3, 1) := by decide +kernel
theorem dX6_kinds_187 : decode cX6_kinds 187 = .ok (.ifCond .eq 7, 3) := by decide +kernel
theorem dX6_kinds_190 : decode cX6_kinds 190 = .ok (.iconst 1, 1) := by decide +kernel
theorem dX6_kinds_191 : decode cX6_kinds 191 = .ok (.goto 4, 3) := by decide +kernel
theorem dX6_kinds_194 : decode cX6_kinds 194 = .ok (.iconst 0, 1) := by decide +kernel
theorem dX6_kinds_195 : decode cX6_kinds 195 = .ok (.iadd, 1) := by decide +kernel
theorem dX6_kinds_196 : decode cX6_kinds 196 = .ok (.putfield 206, 3) := by decide +kernel
theorem dX6_kinds_199 : decode cX6_kinds 199 = .ok (.iinc 2 1, 3) := by decide +kernel
theorem dX6_kinds_202 : decode cX6_kinds 202 = .ok (.goto (-171), 3) := by decide +kernel
theorem dX6_kinds_205 : decode cX6_kinds 205 = .ok (.iload_n 1, 1) := by decide +kernel
theorem dX6_kinds_206 : decode cX6_kinds 206 = .ok (.ifCond .ne 10, 3) := by decide +kernel
theorem dX6_kinds_209 : decode cX6_kinds 209 = .ok (.aload_n 0, 1) := by decide +kernel
theorem dX6_kinds_210 : decode cX6_kinds 210 = .ok (.getfield 206, 3) := by decide +kernel
theorem dX6_kinds_213 : decode cX6_kinds 213 = .ok (.goto 7, 3) := by decide +kernel
theorem dX6_kinds_216 : decode cX6_kinds 216 = .ok (.aload_n 0, 1) := by decide +kernel
theorem dX6_kinds_217 : decode cX6_kinds 217 = .ok (.getfield 209, 3) := by decide +kernel
theorem dX6_kinds_220 : decode cX6_kinds 220 = .ok (.ireturn, 1) := by decide +kernel
theorem dX6_chooses_0 : decode cX6_chooses 0 = .ok (.iload_n 2, 1) := by decide +kernel
theorem dX6_chooses_1 : decode cX6_chooses 1 = .ok (.iconst 1, 1) := by decide +kernel
theorem dX6_chooses_2 : decode cX6_chooses 2 = .ok (.if_icmp .ne 13, 3) := by decide +kernel
theorem dX6_chooses_5 : decode cX6_chooses 5 = .ok (.aload_n 0, 1) := by decide +kernel
theorem dX6_chooses_6 : decode cX6_chooses 6 = .ok (.aload_n 0, 1) := by decide +kernel
theorem dX6_chooses_7 : decode cX6_chooses 7 = .ok (.getfield 25, 3) := by decide +kernel
theorem dX6_chooses_10 : decode cX6_chooses 10 = .ok (.iload_n 1, 1) := by decide +kernel
theorem dX6_chooses_11 : decode cX6_chooses 11 = .ok (.invokevirtual 153, 3) := by decide +kernel
theorem dX6_chooses_14 : decode cX6_chooses 14 = .ok (.pop, 1) := by decide +kernel
theorem dX6_chooses_15 : decode cX6_chooses 15 = .ok (.iload_n 2, 1) := by decide +kernel
theorem dX6_chooses_16 : decode cX6_chooses 16 = .ok (.iconst 2, 1) := by decide +kernel
theorem dX6_chooses_17 : decode cX6_chooses 17 = .ok (.if_icmp .ne 9, 3) := by decide +kernel
theorem dX6_chooses_20 : decode cX6_chooses 20 = .ok (.aload_n 0, 1) := by decide +kernel
theorem dX6_chooses_21 : decode cX6_chooses 21 = .ok (.iload_n 1, 1) := by decide +kernel
theorem dX6_chooses_22 : decode cX6_chooses 22 = .ok (.invokevirtual 180, 3) := by decide +kernel
theorem dX6_chooses_25 : decode cX6_chooses 25 = .ok (.pop, 1) := by decide +kernel
theorem dX6_chooses_26 : decode cX6_chooses 26 = .ok (.return_, 1) := by decide +kernel
theorem dX6_gain_0 : decode cX6_gain 0 = .ok (.iconst 0, 1) := by decide +kernel
theorem dX6_gain_1 : decode cX6_gain 1 = .ok (.istore_n 2, 1) := by decide +kernel
theorem dX6_gain_2 : decode cX6_gain 2 = .ok (.iconst 0, 1) := by decide +kernel
theorem dX6_gain_3 : decode cX6_gain 3 = .ok (.istore_n 3, 1) := by decide +kernel
theorem dX6_gain_4 : decode cX6_gain 4 = .ok (.iload_n 3, 1) := by decide +kernel
theorem dX6_gain_5 : decode cX6_gain 5 = .ok (.aload_n 0, 1) := by decide +kernel
theorem dX6_gain_6 : decode cX6_gain 6 = .ok (.getfield 60, 3) := by decide +kernel
theorem dX6_gain_9 : decode cX6_gain 9 = .ok (.if_icmp .ge 42, 3) := by decide +kernel
theorem dX6_gain_12 : decode cX6_gain 12 = .ok (.iload_n 2, 1) := by decide +kernel
theorem dX6_gain_13 : decode cX6_gain 13 = .ok (.aload_n 0, 1) := by decide +kernel
theorem dX6_gain_14 : decode cX6_gain 14 = .ok (.getfield 13, 3) := by decide +kernel
theorem dX6_gain_17 : decode cX6_gain 17 = .ok (.iload_n 3, 1) := by decide +kernel
theorem dX6_gain_18 : decode cX6_gain 18 = .ok (.iaload, 1) := by decide +kernel
theorem dX6_gain_19 : decode cX6_gain 19 = .ok (.iconst 4, 1) := by decide +kernel
theorem dX6_gain_20 : decode cX6_gain 20 = .ok (.irem, 1) := by decide +kernel
theorem dX6_gain_21 : decode cX6_gain 21 = .ok (.iload_n 1, 1) := by decide +kernel
theorem dX6_gain_22 : decode cX6_gain 22 = .ok (.if_icmp .ne 20, 3) := by decide +kernel
theorem dX6_gain_25 : decode cX6_gain 25 = .ok (.aload_n 0, 1) := by decide +kernel
theorem dX6_gain_26 : decode cX6_gain 26 = .ok (.getfield 25, 3) := by decide +kernel
theorem dX6_gain_29 : decode cX6_gain 29 = .ok (.iconst 5, 1) := by decide +kernel
theorem dX6_gain_30 : decode cX6_gain 30 = .ok (.iaload, 1) := by decide +kernel
theorem dX6_gain_31 : decode cX6_gain 31 = .ok (.iload_n 3, 1) := by decide +kernel
theorem dX6_gain_32 : decode cX6_gain 32 = .ok (.invokestatic 79, 3) := by decide +kernel
theorem dX6_gain_35 : decode cX6_gain 35 = .ok (.ifCond .eq 7, 3) := by decide +kernel
theorem dX6_gain_38 : decode cX6_gain 38 = .ok (.iconst 1, 1) := by decide +kernel
theorem dX6_gain_39 : decode cX6_gain 39 = .ok (.goto 4, 3) := by decide +kernel
theorem dX6_gain_42 : decode cX6_gain 42 = .ok (.iconst 0, 1) := by decide +kernel
theorem dX6_gain_43 : decode cX6_gain 43 = .ok (.iadd, 1) := by decide +kernel
theorem dX6_gain_44 : decode cX6_gain 44 = .ok (.istore_n 2, 1) := by decide +kernel
theorem dX6_gain_45 : decode cX6_gain 45 = .ok (.iinc 3 1, 3) := by decide +kernel
theorem dX6_gain_48 : decode cX6_gain 48 = .ok (.goto (-44), 3) := by decide +kernel
theorem dX6_gain_51 : decode cX6_gain 51 = .ok (.iconst 2, 1) := by decide +kernel
theorem dX6_gain_52 : decode cX6_gain 52 = .ok (.iload_n 2, 1) := by decide +kernel
theorem dX6_gain_53 : decode cX6_gain 53 = .ok (.imul, 1) := by decide +kernel
theorem dX6_gain_54 : decode cX6_gain 54 = .ok (.aload_n 0, 1) := by decide +kernel
theorem dX6_gain_55 : decode cX6_gain 55 = .ok (.getfield 25, 3) := by decide +kernel
theorem dX6_gain_58 : decode cX6_gain 58 = .ok (.iload_n 1, 1) := by decide +kernel
theorem dX6_gain_59 : decode cX6_gain 59 = .ok (.iaload, 1) := by decide +kernel
theorem dX6_gain_60 : decode cX6_gain 60 = .ok (.isub, 1) := by decide +kernel
theorem dX6_gain_61 : decode cX6_gain 61 = .ok (.ireturn, 1) := by decide +kernel
theorem dX6_rests_0 : decode cX6_rests 0 = .ok (.aload_n 0, 1) := by decide +kernel
theorem dX6_rests_1 : decode cX6_rests 1 = .ok (.iconst 0, 1) := by decide +kernel
theorem dX6_rests_2 : decode cX6_rests 2 = .ok (.putfield 50, 3) := by decide +kernel
theorem dX6_rests_5 : decode cX6_rests 5 = .ok (.iload_n 1, 1) := by decide +kernel
theorem dX6_rests_6 : decode cX6_rests 6 = .ok (.invokestatic 101, 3) := by decide +kernel
theorem dX6_rests_9 : decode cX6_rests 9 = .ok (.ifCond .ne 10, 3) := by decide +kernel
theorem dX6_rests_12 : decode cX6_rests 12 = .ok (.iload_n 2, 1) := by decide +kernel
theorem dX6_rests_13 : decode cX6_rests 13 = .ok (.invokestatic 101, 3) := by decide +kernel
theorem dX6_rests_16 : decode cX6_rests 16 = .ok (.ifCond .eq 5, 3) := by decide +kernel
theorem dX6_rests_19 : decode cX6_rests 19 = .ok (.iconst (-1), 1) := by decide +kernel
theorem dX6_rests_20 : decode cX6_rests 20 = .ok (.ireturn, 1) := by decide +kernel
theorem dX6_rests_21 : decode cX6_rests 21 = .ok (.iload_n 1, 1) := by decide +kernel
theorem dX6_rests_22 : decode cX6_rests 22 = .ok (.iload_n 2, 1) := by decide +kernel
theorem dX6_rests_23 : decode cX6_rests 23 = .ok (.if_icmp .eq 13, 3) := by decide +kernel
theorem dX6_rests_26 : decode cX6_rests 26 = .ok (.iload_n 3, 1) := by decide +kernel
theorem dX6_rests_27 : decode cX6_rests 27 = .ok (.i2l, 1) := by decide +kernel
theorem dX6_rests_28 : decode cX6_rests 28 = .ok (.lconst 0, 1) := by decide +kernel
theorem dX6_rests_29 : decode cX6_rests 29 = .ok (.lconst 1, 1) := by decide +kernel
theorem dX6_rests_30 : decode cX6_rests 30 = .ok (.invokestatic 56, 3) := by decide +kernel
theorem dX6_rests_33 : decode cX6_rests 33 = .ok (.ifCond .ne 6, 3) := by decide +kernel
theorem dX6_rests_36 : decode cX6_rests 36 = .ok (.bipush (-2), 2) := by decide +kernel
theorem dX6_rests_38 : decode cX6_rests 38 = .ok (.ireturn, 1) := by decide +kernel
theorem dX6_rests_39 : decode cX6_rests 39 = .ok (.iconst 0, 1) := by decide +kernel
theorem dX6_rests_40 : decode cX6_rests 40 = .ok (.istore 4, 2) := by decide +kernel
theorem dX6_rests_42 : decode cX6_rests 42 = .ok (.iload 4, 2) := by decide +kernel
theorem dX6_rests_44 : decode cX6_rests 44 = .ok (.bipush 9, 2) := by decide +kernel
theorem dX6_rests_46 : decode cX6_rests 46 = .ok (.if_icmp .ge 61, 3) := by decide +kernel
theorem dX6_rests_49 : decode cX6_rests 49 = .ok (.aload_n 0, 1) := by decide +kernel
theorem dX6_rests_50 : decode cX6_rests 50 = .ok (.invokevirtual 132, 3) := by decide +kernel
theorem dX6_rests_53 : decode cX6_rests 53 = .ok (.aload_n 0, 1) := by decide +kernel
theorem dX6_rests_54 : decode cX6_rests 54 = .ok (.iload_n 1, 1) := by decide +kernel
theorem dX6_rests_55 : decode cX6_rests 55 = .ok (.iload 4, 2) := by decide +kernel
theorem dX6_rests_57 : decode cX6_rests 57 = .ok (.iconst 3, 1) := by decide +kernel
theorem dX6_rests_58 : decode cX6_rests 58 = .ok (.idiv, 1) := by decide +kernel
theorem dX6_rests_59 : decode cX6_rests 59 = .ok (.invokevirtual 212, 3) := by decide +kernel
theorem dX6_rests_62 : decode cX6_rests 62 = .ok (.aload_n 0, 1) := by decide +kernel
theorem dX6_rests_63 : decode cX6_rests 63 = .ok (.iload_n 2, 1) := by decide +kernel
theorem dX6_rests_64 : decode cX6_rests 64 = .ok (.iload 4, 2) := by decide +kernel
theorem dX6_rests_66 : decode cX6_rests 66 = .ok (.iconst 3, 1) := by decide +kernel
theorem dX6_rests_67 : decode cX6_rests 67 = .ok (.irem, 1) := by decide +kernel
theorem dX6_rests_68 : decode cX6_rests 68 = .ok (.invokevirtual 212, 3) := by decide +kernel
theorem dX6_rests_71 : decode cX6_rests 71 = .ok (.aload_n 0, 1) := by decide +kernel
theorem dX6_rests_72 : decode cX6_rests 72 = .ok (.getfield 44, 3) := by decide +kernel
theorem dX6_rests_75 : decode cX6_rests 75 = .ok (.iconst 2, 1) := by decide +kernel
theorem dX6_rests_76 : decode cX6_rests 76 = .ok (.iload 4, 2) := by decide +kernel
theorem dX6_rests_78 : decode cX6_rests 78 = .ok (.imul, 1) := by decide +kernel
theorem dX6_rests_79 : decode cX6_rests 79 = .ok (.aload_n 0, 1) := by decide +kernel
theorem dX6_rests_80 : decode cX6_rests 80 = .ok (.iload_n 1, 1) := by decide +kernel
theorem dX6_rests_81 : decode cX6_rests 81 = .ok (.invokevirtual 216, 3) := by decide +kernel
theorem dX6_rests_84 : decode cX6_rests 84 = .ok (.iastore, 1) := by decide +kernel
theorem dX6_rests_85 : decode cX6_rests 85 = .ok (.aload_n 0, 1) := by decide +kernel
theorem dX6_rests_86 : decode cX6_rests 86 = .ok (.getfield 44, 3) := by decide +kernel
theorem dX6_rests_89 : decode cX6_rests 89 = .ok (.iconst 2, 1) := by decide +kernel
theorem dX6_rests_90 : decode cX6_rests 90 = .ok (.iload 4, 2) := by decide +kernel
theorem dX6_rests_92 : decode cX6_rests 92 = .ok (.imul, 1) := by decide +kernel
theorem dX6_rests_93 : decode cX6_rests 93 = .ok (.iconst 1, 1) := by decide +kernel
theorem dX6_rests_94 : decode cX6_rests 94 = .ok (.iadd, 1) := by decide +kernel
theorem dX6_rests_95 : decode cX6_rests 95 = .ok (.aload_n 0, 1) := by decide +kernel
theorem dX6_rests_96 : decode cX6_rests 96 = .ok (.iload_n 2, 1) := by decide +kernel
theorem dX6_rests_97 : decode cX6_rests 97 = .ok (.invokevirtual 216, 3) := by decide +kernel
theorem dX6_rests_100 : decode cX6_rests 100 = .ok (.iastore, 1) := by decide +kernel
theorem dX6_rests_101 : decode cX6_rests 101 = .ok (.iinc 4 1, 3) := by decide +kernel
theorem dX6_rests_104 : decode cX6_rests 104 = .ok (.goto (-62), 3) := by decide +kernel
theorem dX6_rests_107 : decode cX6_rests 107 = .ok (.aload_n 0, 1) := by decide +kernel
theorem dX6_rests_108 : decode cX6_rests 108 = .ok (.iconst 0, 1) := by decide +kernel
theorem dX6_rests_109 : decode cX6_rests 109 = .ok (.putfield 219, 3) := by decide +kernel
theorem dX6_rests_112 : decode cX6_rests 112 = .ok (.aload_n 0, 1) := by decide +kernel
theorem dX6_rests_113 : decode cX6_rests 113 = .ok (.bipush (-9), 2) := by decide +kernel
theorem dX6_rests_115 : decode cX6_rests 115 = .ok (.putfield 222, 3) := by decide +kernel
theorem dX6_rests_118 : decode cX6_rests 118 = .ok (.iconst 0, 1) := by decide +kernel
theorem dX6_rests_119 : decode cX6_rests 119 = .ok (.istore 4, 2) := by decide +kernel
theorem dX6_rests_121 : decode cX6_rests 121 = .ok (.iload 4, 2) := by decide +kernel
theorem dX6_rests_123 : decode cX6_rests 123 = .ok (.bipush 9, 2) := by decide +kernel
theorem dX6_rests_125 : decode cX6_rests 125 = .ok (.if_icmp .ge 154, 3) := by decide +kernel
theorem dX6_rests_128 : decode cX6_rests 128 = .ok (.iconst 1, 1) := by decide +kernel
theorem dX6_rests_129 : decode cX6_rests 129 = .ok (.istore 5, 2) := by decide +kernel
theorem dX6_rests_131 : decode cX6_rests 131 = .ok (.iconst 0, 1) := by decide +kernel
theorem dX6_rests_132 : decode cX6_rests 132 = .ok (.istore 6, 2) := by decide +kernel
theorem dX6_rests_134 : decode cX6_rests 134 = .ok (.iload 6, 2) := by decide +kernel
theorem dX6_rests_136 : decode cX6_rests 136 = .ok (.iconst 3, 1) := by decide +kernel
theorem dX6_rests_137 : decode cX6_rests 137 = .ok (.if_icmp .ge 82, 3) := by decide +kernel
theorem dX6_rests_140 : decode cX6_rests 140 = .ok (.iload 5, 2) := by decide +kernel
theorem dX6_rests_142 : decode cX6_rests 142 = .ok (.ifCond .eq 68, 3) := by decide +kernel
theorem dX6_rests_145 : decode cX6_rests 145 = .ok (.aload_n 0, 1) := by decide +kernel
theorem dX6_rests_146 : decode cX6_rests 146 = .ok (.getfield 44, 3) := by decide +kernel
theorem dX6_rests_149 : decode cX6_rests 149 = .ok (.iconst 2, 1) := by decide +kernel
theorem dX6_rests_150 : decode cX6_rests 150 = .ok (.iconst 3, 1) := by decide +kernel
theorem dX6_rests_151 : decode cX6_rests 151 = .ok (.iload 6, 2) := by decide +kernel
theorem dX6_rests_153 : decode cX6_rests 153 = .ok (.imul, 1) := by decide +kernel
theorem dX6_rests_154 : decode cX6_rests 154 = .ok (.iload 4, 2) := by decide +kernel
theorem dX6_rests_156 : decode cX6_rests 156 = .ok (.iconst 3, 1) := by decide +kernel
theorem dX6_rests_157 : decode cX6_rests 157 = .ok (.irem, 1) := by decide +kernel
theorem dX6_rests_158 : decode cX6_rests 158 = .ok (.iadd, 1) := by decide +kernel
theorem dX6_rests_159 : decode cX6_rests 159 = .ok (.imul, 1) := by decide +kernel
theorem dX6_rests_160 : decode cX6_rests 160 = .ok (.iaload, 1) := by decide +kernel
theorem dX6_rests_161 : decode cX6_rests 161 = .ok (.aload_n 0, 1) := by decide +kernel
theorem dX6_rests_162 : decode cX6_rests 162 = .ok (.getfield 44, 3) := by decide +kernel
theorem dX6_rests_165 : decode cX6_rests 165 = .ok (.iconst 2, 1) := by decide +kernel
theorem dX6_rests_166 : decode cX6_rests 166 = .ok (.iload 4, 2) := by decide +kernel
theorem dX6_rests_168 : decode cX6_rests 168 = .ok (.imul, 1) := by decide +kernel
theorem dX6_rests_169 : decode cX6_rests 169 = .ok (.iaload, 1) := by decide +kernel
theorem dX6_rests_170 : decode cX6_rests 170 = .ok (.if_icmp .gt 40, 3) := by decide +kernel
theorem dX6_rests_173 : decode cX6_rests 173 = .ok (.aload_n 0, 1) := by decide +kernel
theorem dX6_rests_174 : decode cX6_rests 174 = .ok (.getfield 44, 3) := by decide +kernel
theorem dX6_rests_177 : decode cX6_rests 177 = .ok (.iconst 2, 1) := by decide +kernel
theorem dX6_rests_178 : decode cX6_rests 178 = .ok (.iload 4, 2) := by decide +kernel
theorem dX6_rests_180 : decode cX6_rests 180 = .ok (.iload 4, 2) := by decide +kernel
theorem dX6_rests_182 : decode cX6_rests 182 = .ok (.iconst 3, 1) := by decide +kernel
theorem dX6_rests_183 : decode cX6_rests 183 = .ok (.irem, 1) := by decide +kernel
theorem dX6_rests_184 : decode cX6_rests 184 = .ok (.isub, 1) := by decide +kernel
theorem dX6_rests_185 : decode cX6_rests 185 = .ok (.iload 6, 2) := by decide +kernel
theorem dX6_rests_187 : decode cX6_rests 187 = .ok (.iadd, 1) := by decide +kernel
theorem dX6_rests_188 : decode cX6_rests 188 = .ok (.imul, 1) := by decide +kernel
theorem dX6_rests_189 : decode cX6_rests 189 = .ok (.iconst 1, 1) := by decide +kernel
theorem dX6_rests_190 : decode cX6_rests 190 = .ok (.iadd, 1) := by decide +kernel
theorem dX6_rests_191 : decode cX6_rests 191 = .ok (.iaload, 1) := by decide +kernel
theorem dX6_rests_192 : decode cX6_rests 192 = .ok (.aload_n 0, 1) := by decide +kernel
theorem dX6_rests_193 : decode cX6_rests 193 = .ok (.getfield 44, 3) := by decide +kernel
theorem dX6_rests_196 : decode cX6_rests 196 = .ok (.iconst 2, 1) := by decide +kernel
theorem dX6_rests_197 : decode cX6_rests 197 = .ok (.iload 4, 2) := by decide +kernel
theorem dX6_rests_199 : decode cX6_rests 199 = .ok (.imul, 1) := by decide +kernel
theorem dX6_rests_200 : decode cX6_rests 200 = .ok (.iconst 1, 1) := by decide +kernel
theorem dX6_rests_201 : decode cX6_rests 201 = .ok (.iadd, 1) := by decide +kernel
theorem dX6_rests_202 : decode cX6_rests 202 = .ok (.iaload, 1) := by decide +kernel
theorem dX6_rests_203 : decode cX6_rests 203 = .ok (.if_icmp .gt 7, 3) := by decide +kernel
theorem dX6_rests_206 : decode cX6_rests 206 = .ok (.iconst 1, 1) := by decide +kernel
theorem dX6_rests_207 : decode cX6_rests 207 = .ok (.goto 4, 3) := by decide +kernel
theorem dX6_rests_210 : decode cX6_rests 210 = .ok (.iconst 0, 1) := by decide +kernel
theorem dX6_rests_211 : decode cX6_rests 211 = .ok (.istore 5, 2) := by decide +kernel
theorem dX6_rests_213 : decode cX6_rests 213 = .ok (.iinc 6 1, 3) := by decide +kernel
theorem dX6_rests_216 : decode cX6_rests 216 = .ok (.goto (-82), 3) := by decide +kernel
theorem dX6_rests_219 : decode cX6_rests 219 = .ok (.aload_n 0, 1) := by decide +kernel
theorem dX6_rests_220 : decode cX6_rests 220 = .ok (.iload 5, 2) := by decide +kernel
theorem dX6_rests_222 : decode cX6_rests 222 = .ok (.ifCond .eq 25, 3) := by decide +kernel
theorem dX6_rests_225 : decode cX6_rests 225 = .ok (.aload_n 0, 1) := by decide +kernel
theorem dX6_rests_226 : decode cX6_rests 226 = .ok (.getfield 219, 3) := by decide +kernel
theorem dX6_rests_229 : decode cX6_rests 229 = .ok (.ifCond .ne 18, 3) := by decide +kernel
theorem dX6_rests_232 : decode cX6_rests 232 = .ok (.bipush 10, 2) := by decide +kernel
theorem dX6_rests_234 : decode cX6_rests 234 = .ok (.iload 4, 2) := by decide +kernel
theorem dX6_rests_236 : decode cX6_rests 236 = .ok (.iconst 3, 1) := by decide +kernel
theorem dX6_rests_237 : decode cX6_rests 237 = .ok (.idiv, 1) := by decide +kernel
theorem dX6_rests_238 : decode cX6_rests 238 = .ok (.imul, 1) := by decide +kernel
theorem dX6_rests_239 : decode cX6_rests 239 = .ok (.iload 4, 2) := by decide +kernel
theorem dX6_rests_241 : decode cX6_rests 241 = .ok (.iconst 3, 1) := by decide +kernel
theorem dX6_rests_242 : decode cX6_rests 242 = .ok (.irem, 1) := by decide +kernel
theorem dX6_rests_243 : decode cX6_rests 243 = .ok (.iadd, 1) := by decide +kernel
theorem dX6_rests_244 : decode cX6_rests 244 = .ok (.goto 7, 3) := by decide +kernel
theorem dX6_rests_247 : decode cX6_rests 247 = .ok (.aload_n 0, 1) := by decide +kernel
theorem dX6_rests_248 : decode cX6_rests 248 = .ok (.getfield 222, 3) := by decide +kernel
theorem dX6_rests_251 : decode cX6_rests 251 = .ok (.putfield 222, 3) := by decide +kernel
theorem dX6_rests_254 : decode cX6_rests 254 = .ok (.aload_n 0, 1) := by decide +kernel
theorem dX6_rests_255 : decode cX6_rests 255 = .ok (.dup, 1) := by decide +kernel
theorem dX6_rests_256 : decode cX6_rests 256 = .ok (.getfield 219, 3) := by decide +kernel
theorem dX6_rests_259 : decode cX6_rests 259 = .ok (.iload 5, 2) := by decide +kernel
theorem dX6_rests_261 : decode cX6_rests 261 = .ok (.ifCond .eq 7, 3) := by decide +kernel
theorem dX6_rests_264 : decode cX6_rests 264 = .ok (.iconst 1, 1) := by decide +kernel
theorem dX6_rests_265 : decode cX6_rests 265 = .ok (.goto 4, 3) := by decide +kernel
theorem dX6_rests_268 : decode cX6_rests 268 = .ok (.iconst 0, 1) := by decide +kernel
theorem dX6_rests_269 : decode cX6_rests 269 = .ok (.iadd, 1) := by decide +kernel
theorem dX6_rests_270 : decode cX6_rests 270 = .ok (.putfield 219, 3) := by decide +kernel
theorem dX6_rests_273 : decode cX6_rests 273 = .ok (.iinc 4 1, 3) := by decide +kernel
theorem dX6_rests_276 : decode cX6_rests 276 = .ok (.goto (-155), 3) := by decide +kernel
theorem dX6_rests_279 : decode cX6_rests 279 = .ok (.iload_n 3, 1) := by decide +kernel
theorem dX6_rests_280 : decode cX6_rests 280 = .ok (.ifCond .ne 10, 3) := by decide +kernel
theorem dX6_rests_283 : decode cX6_rests 283 = .ok (.aload_n 0, 1) := by decide +kernel
theorem dX6_rests_284 : decode cX6_rests 284 = .ok (.getfield 219, 3) := by decide +kernel
theorem dX6_rests_287 : decode cX6_rests 287 = .ok (.goto 7, 3) := by decide +kernel
theorem dX6_rests_290 : decode cX6_rests 290 = .ok (.aload_n 0, 1) := by decide +kernel
theorem dX6_rests_291 : decode cX6_rests 291 = .ok (.getfield 222, 3) := by decide +kernel
theorem dX6_rests_294 : decode cX6_rests 294 = .ok (.ireturn, 1) := by decide +kernel
theorem dX6_columnsWith_0 : decode cX6_columnsWith 0 = .ok (.iconst 0, 1) := by decide +kernel
theorem dX6_columnsWith_1 : decode cX6_columnsWith 1 = .ok (.istore_n 1, 1) := by decide +kernel
theorem dX6_columnsWith_2 : decode cX6_columnsWith 2 = .ok (.iconst 0, 1) := by decide +kernel
theorem dX6_columnsWith_3 : decode cX6_columnsWith 3 = .ok (.istore_n 2, 1) := by decide +kernel
theorem dX6_columnsWith_4 : decode cX6_columnsWith 4 = .ok (.iload_n 2, 1) := by decide +kernel
theorem dX6_columnsWith_5 : decode cX6_columnsWith 5 = .ok (.iconst 4, 1) := by decide +kernel
theorem dX6_columnsWith_6 : decode cX6_columnsWith 6 = .ok (.if_icmp .ge 28, 3) := by decide +kernel
theorem dX6_columnsWith_9 : decode cX6_columnsWith 9 = .ok (.iload_n 1, 1) := by decide +kernel
theorem dX6_columnsWith_10 : decode cX6_columnsWith 10 = .ok (.aload_n 0, 1) := by decide +kernel
theorem dX6_columnsWith_11 : decode cX6_columnsWith 11 = .ok (.getfield 22, 3) := by decide +kernel
theorem dX6_columnsWith_14 : decode cX6_columnsWith 14 = .ok (.iload_n 2, 1) := by decide +kernel
theorem dX6_columnsWith_15 : decode cX6_columnsWith 15 = .ok (.iaload, 1) := by decide +kernel
theorem dX6_columnsWith_16 : decode cX6_columnsWith 16 = .ok (.ifCond .le 9, 3) := by decide +kernel
theorem dX6_columnsWith_19 : decode cX6_columnsWith 19 = .ok (.iconst 1, 1) := by decide +kernel
theorem dX6_columnsWith_20 : decode cX6_columnsWith 20 = .ok (.iload_n 2, 1) := by decide +kernel
theorem dX6_columnsWith_21 : decode cX6_columnsWith 21 = .ok (.ishl, 1) := by decide +kernel
theorem dX6_columnsWith_22 : decode cX6_columnsWith 22 = .ok (.goto 4, 3) := by decide +kernel
theorem dX6_columnsWith_25 : decode cX6_columnsWith 25 = .ok (.iconst 0, 1) := by decide +kernel
theorem dX6_columnsWith_26 : decode cX6_columnsWith 26 = .ok (.ior, 1) := by decide +kernel
theorem dX6_columnsWith_27 : decode cX6_columnsWith 27 = .ok (.istore_n 1, 1) := by decide +kernel
theorem dX6_columnsWith_28 : decode cX6_columnsWith 28 = .ok (.iinc 2 1, 3) := by decide +kernel
theorem dX6_columnsWith_31 : decode cX6_columnsWith 31 = .ok (.goto (-27), 3) := by decide +kernel
theorem dX6_columnsWith_34 : decode cX6_columnsWith 34 = .ok (.iload_n 1, 1) := by decide +kernel
theorem dX6_columnsWith_35 : decode cX6_columnsWith 35 = .ok (.ireturn, 1) := by decide +kernel
theorem dX6_wet_0 : decode cX6_wet 0 = .ok (.aload_n 0, 1) := by decide +kernel
theorem dX6_wet_1 : decode cX6_wet 1 = .ok (.iconst 0, 1) := by decide +kernel
theorem dX6_wet_2 : decode cX6_wet 2 = .ok (.putfield 50, 3) := by decide +kernel
theorem dX6_wet_5 : decode cX6_wet 5 = .ok (.iload_n 1, 1) := by decide +kernel
theorem dX6_wet_6 : decode cX6_wet 6 = .ok (.i2l, 1) := by decide +kernel
theorem dX6_wet_7 : decode cX6_wet 7 = .ok (.lconst 0, 1) := by decide +kernel
theorem dX6_wet_8 : decode cX6_wet 8 = .ok (.ldc2_w 225, 3) := by decide +kernel
theorem dX6_wet_11 : decode cX6_wet 11 = .ok (.invokestatic 56, 3) := by decide +kernel
theorem dX6_wet_14 : decode cX6_wet 14 = .ok (.ifCond .eq 15, 3) := by decide +kernel
theorem dX6_wet_17 : decode cX6_wet 17 = .ok (.iload_n 2, 1) := by decide +kernel
theorem dX6_wet_18 : decode cX6_wet 18 = .ok (.i2l, 1) := by decide +kernel
theorem dX6_wet_19 : decode cX6_wet 19 = .ok (.lconst 0, 1) := by decide +kernel
theorem dX6_wet_20 : decode cX6_wet 20 = .ok (.ldc2_w 227, 3) := by decide +kernel
theorem dX6_wet_23 : decode cX6_wet 23 = .ok (.invokestatic 56, 3) := by decide +kernel
theorem dX6_wet_26 : decode cX6_wet 26 = .ok (.ifCond .ne 6, 3) := by decide +kernel
theorem dX6_wet_29 : decode cX6_wet 29 = .ok (.bipush (-2), 2) := by decide +kernel
theorem dX6_wet_31 : decode cX6_wet 31 = .ok (.ireturn, 1) := by decide +kernel
theorem dX6_wet_32 : decode cX6_wet 32 = .ok (.aload_n 0, 1) := by decide +kernel
theorem dX6_wet_33 : decode cX6_wet 33 = .ok (.invokevirtual 229, 3) := by decide +kernel
theorem dX6_wet_36 : decode cX6_wet 36 = .ok (.istore 4, 2) := by decide +kernel
theorem dX6_wet_38 : decode cX6_wet 38 = .ok (.iload 4, 2) := by decide +kernel
theorem dX6_wet_40 : decode cX6_wet 40 = .ok (.invokestatic 129, 3) := by decide +kernel
theorem dX6_wet_43 : decode cX6_wet 43 = .ok (.istore 5, 2) := by decide +kernel
theorem dX6_wet_45 : decode cX6_wet 45 = .ok (.iconst 0, 1) := by decide +kernel
theorem dX6_wet_46 : decode cX6_wet 46 = .ok (.istore 6, 2) := by decide +kernel
theorem dX6_wet_48 : decode cX6_wet 48 = .ok (.iconst 0, 1) := by decide +kernel
theorem dX6_wet_49 : decode cX6_wet 49 = .ok (.istore 7, 2) := by decide +kernel
theorem dX6_wet_51 : decode cX6_wet 51 = .ok (.iload 7, 2) := by decide +kernel
theorem dX6_wet_53 : decode cX6_wet 53 = .ok (.bipush 16, 2) := by decide +kernel
theorem dX6_wet_55 : decode cX6_wet 55 = .ok (.if_icmp .ge 112, 3) := by decide +kernel
theorem dX6_wet_58 : decode cX6_wet 58 = .ok (.iload 7, 2) := by decide +kernel
theorem dX6_wet_60 : decode cX6_wet 60 = .ok (.iload 4, 2) := by decide +kernel
theorem dX6_wet_62 : decode cX6_wet 62 = .ok (.iconst (-1), 1) := by decide +kernel
theorem dX6_wet_63 : decode cX6_wet 63 = .ok (.ixor, 1) := by decide +kernel
theorem dX6_wet_64 : decode cX6_wet 64 = .ok (.iand, 1) := by decide +kernel
theorem dX6_wet_65 : decode cX6_wet 65 = .ok (.ifCond .ne 96, 3) := by decide +kernel
theorem dX6_wet_68 : decode cX6_wet 68 = .ok (.aload_n 0, 1) := by decide +kernel
theorem dX6_wet_69 : decode cX6_wet 69 = .ok (.invokevirtual 132, 3) := by decide +kernel
theorem dX6_wet_72 : decode cX6_wet 72 = .ok (.iconst 0, 1) := by decide +kernel
theorem dX6_wet_73 : decode cX6_wet 73 = .ok (.istore 8, 2) := by decide +kernel
theorem dX6_wet_75 : decode cX6_wet 75 = .ok (.iload 8, 2) := by decide +kernel
theorem dX6_wet_77 : decode cX6_wet 77 = .ok (.iconst 4, 1) := by decide +kernel
theorem dX6_wet_78 : decode cX6_wet 78 = .ok (.if_icmp .ge 26, 3) := by decide +kernel
theorem dX6_wet_81 : decode cX6_wet 81 = .ok (.aload_n 0, 1) := by decide +kernel
theorem dX6_wet_82 : decode cX6_wet 82 = .ok (.getfield 25, 3) := by decide +kernel
theorem dX6_wet_85 : decode cX6_wet 85 = .ok (.iload 8, 2) := by decide +kernel
theorem dX6_wet_87 : decode cX6_wet 87 = .ok (.dup2, 1) := by decide +kernel
theorem dX6_wet_88 : decode cX6_wet 88 = .ok (.iaload, 1) := by decide +kernel
theorem dX6_wet_89 : decode cX6_wet 89 = .ok (.iload 7, 2) := by decide +kernel
theorem dX6_wet_91 : decode cX6_wet 91 = .ok (.iload 8, 2) := by decide +kernel
theorem dX6_wet_93 : decode cX6_wet 93 = .ok (.ishr, 1) := by decide +kernel
theorem dX6_wet_94 : decode cX6_wet 94 = .ok (.iconst 1, 1) := by decide +kernel
theorem dX6_wet_95 : decode cX6_wet 95 = .ok (.iand, 1) := by decide +kernel
theorem dX6_wet_96 : decode cX6_wet 96 = .ok (.isub, 1) := by decide +kernel
theorem dX6_wet_97 : decode cX6_wet 97 = .ok (.iastore, 1) := by decide +kernel
theorem dX6_wet_98 : decode cX6_wet 98 = .ok (.iinc 8 1, 3) := by decide +kernel
theorem dX6_wet_101 : decode cX6_wet 101 = .ok (.goto (-26), 3) := by decide +kernel
theorem dX6_wet_104 : decode cX6_wet 104 = .ok (.aload_n 0, 1) := by decide +kernel
theorem dX6_wet_105 : decode cX6_wet 105 = .ok (.aload_n 0, 1) := by decide +kernel
theorem dX6_wet_106 : decode cX6_wet 106 = .ok (.getfield 25, 3) := by decide +kernel
theorem dX6_wet_109 : decode cX6_wet 109 = .ok (.invokevirtual 135, 3) := by decide +kernel
theorem dX6_wet_112 : decode cX6_wet 112 = .ok (.pop, 1) := by decide +kernel
theorem dX6_wet_113 : decode cX6_wet 113 = .ok (.iload 7, 2) := by decide +kernel
theorem dX6_wet_115 : decode cX6_wet 115 = .ok (.invokestatic 129, 3) := by decide +kernel
theorem dX6_wet_118 : decode cX6_wet 118 = .ok (.istore 8, 2) := by decide +kernel
theorem dX6_wet_120 : decode cX6_wet 120 = .ok (.iload 6, 2) := by decide +kernel
theorem dX6_wet_122 : decode cX6_wet 122 = .ok (.aload_n 0, 1) := by decide +kernel
theorem dX6_wet_123 : decode cX6_wet 123 = .ok (.getfield 25, 3) := by decide +kernel
theorem dX6_wet_126 : decode cX6_wet 126 = .ok (.iconst 5, 1) := by decide +kernel
theorem dX6_wet_127 : decode cX6_wet 127 = .ok (.iaload, 1) := by decide +kernel
theorem dX6_wet_128 : decode cX6_wet 128 = .ok (.invokestatic 129, 3) := by decide +kernel
theorem dX6_wet_131 : decode cX6_wet 131 = .ok (.iload_n 1, 1) := by decide +kernel
theorem dX6_wet_132 : decode cX6_wet 132 = .ok (.if_icmp .lt 25, 3) := by decide +kernel
theorem dX6_wet_135 : decode cX6_wet 135 = .ok (.iload_n 2, 1) := by decide +kernel
theorem dX6_wet_136 : decode cX6_wet 136 = .ok (.iload 8, 2) := by decide +kernel
theorem dX6_wet_138 : decode cX6_wet 138 = .ok (.invokestatic 166, 3) := by decide +kernel
theorem dX6_wet_141 : decode cX6_wet 141 = .ok (.bipush 10, 2) := by decide +kernel
theorem dX6_wet_143 : decode cX6_wet 143 = .ok (.iload_n 2, 1) := by decide +kernel
theorem dX6_wet_144 : decode cX6_wet 144 = .ok (.isub, 1) := by decide +kernel
theorem dX6_wet_145 : decode cX6_wet 145 = .ok (.iload 5, 2) := by decide +kernel
theorem dX6_wet_147 : decode cX6_wet 147 = .ok (.iload 8, 2) := by decide +kernel
theorem dX6_wet_149 : decode cX6_wet 149 = .ok (.isub, 1) := by decide +kernel
theorem dX6_wet_150 : decode cX6_wet 150 = .ok (.invokestatic 166, 3) := by decide +kernel
theorem dX6_wet_153 : decode cX6_wet 153 = .ok (.imul, 1) := by decide +kernel
theorem dX6_wet_154 : decode cX6_wet 154 = .ok (.goto 4, 3) := by decide +kernel
theorem dX6_wet_157 : decode cX6_wet 157 = .ok (.iconst 0, 1) := by decide +kernel
theorem dX6_wet_158 : decode cX6_wet 158 = .ok (.iadd, 1) := by decide +kernel
theorem dX6_wet_159 : decode cX6_wet 159 = .ok (.istore 6, 2) := by decide +kernel
theorem dX6_wet_161 : decode cX6_wet 161 = .ok (.iinc 7 1, 3) := by decide +kernel
theorem dX6_wet_164 : decode cX6_wet 164 = .ok (.goto (-113), 3) := by decide +kernel
theorem dX6_wet_167 : decode cX6_wet 167 = .ok (.iload 6, 2) := by decide +kernel
theorem dX6_wet_169 : decode cX6_wet 169 = .ok (.bipush 10, 2) := by decide +kernel
theorem dX6_wet_171 : decode cX6_wet 171 = .ok (.iload 5, 2) := by decide +kernel
theorem dX6_wet_173 : decode cX6_wet 173 = .ok (.invokestatic 166, 3) := by decide +kernel
theorem dX6_wet_176 : decode cX6_wet 176 = .ok (.iload_n 3, 1) := by decide +kernel
theorem dX6_wet_177 : decode cX6_wet 177 = .ok (.invokestatic 200, 3) := by decide +kernel
theorem dX6_wet_180 : decode cX6_wet 180 = .ok (.ireturn, 1) := by decide +kernel
theorem dX6_seed_0 : decode cX6_seed 0 = .ok (.aload_n 0, 1) := by decide +kernel
theorem dX6_seed_1 : decode cX6_seed 1 = .ok (.iconst 0, 1) := by decide +kernel
theorem dX6_seed_2 : decode cX6_seed 2 = .ok (.putfield 50, 3) := by decide +kernel
theorem dX6_seed_5 : decode cX6_seed 5 = .ok (.aload_n 0, 1) := by decide +kernel
theorem dX6_seed_6 : decode cX6_seed 6 = .ok (.getfield 232, 3) := by decide +kernel
theorem dX6_seed_9 : decode cX6_seed 9 = .ok (.lstore_n 3, 1) := by decide +kernel
theorem dX6_seed_10 : decode cX6_seed 10 = .ok (.aload_n 0, 1) := by decide +kernel
theorem dX6_seed_11 : decode cX6_seed 11 = .ok (.lload_n 1, 1) := by decide +kernel
theorem dX6_seed_12 : decode cX6_seed 12 = .ok (.putfield 232, 3) := by decide +kernel
theorem dX6_seed_15 : decode cX6_seed 15 = .ok (.lload_n 3, 1) := by decide +kernel
theorem dX6_seed_16 : decode cX6_seed 16 = .ok (.lreturn, 1) := by decide +kernel
theorem dX6_terms_0 : decode cX6_terms 0 = .ok (.aload_n 0, 1) := by decide +kernel
theorem dX6_terms_1 : decode cX6_terms 1 = .ok (.iconst 0, 1) := by decide +kernel
theorem dX6_terms_2 : decode cX6_terms 2 = .ok (.putfield 50, 3) := by decide +kernel
theorem dX6_terms_5 : decode cX6_terms 5 = .ok (.iload_n 1, 1) := by decide +kernel
theorem dX6_terms_6 : decode cX6_terms 6 = .ok (.i2l, 1) := by decide +kernel
theorem dX6_terms_7 : decode cX6_terms 7 = .ok (.lconst 1, 1) := by decide +kernel
theorem dX6_terms_8 : decode cX6_terms 8 = .ok (.ldc2_w 236, 3) := by decide +kernel
theorem dX6_terms_11 : decode cX6_terms 11 = .ok (.invokestatic 56, 3) := by decide +kernel
theorem dX6_terms_14 : decode cX6_terms 14 = .ok (.ifCond .ne 6, 3) := by decide +kernel
theorem dX6_terms_17 : decode cX6_terms 17 = .ok (.bipush (-2), 2) := by decide +kernel
theorem dX6_terms_19 : decode cX6_terms 19 = .ok (.ireturn, 1) := by decide +kernel
theorem dX6_terms_20 : decode cX6_terms 20 = .ok (.aload_n 0, 1) := by decide +kernel
theorem dX6_terms_21 : decode cX6_terms 21 = .ok (.invokevirtual 132, 3) := by decide +kernel
theorem dX6_terms_24 : decode cX6_terms 24 = .ok (.iconst 0, 1) := by decide +kernel
theorem dX6_terms_25 : decode cX6_terms 25 = .ok (.istore_n 2, 1) := by decide +kernel
theorem dX6_terms_26 : decode cX6_terms 26 = .ok (.iconst 0, 1) := by decide +kernel
theorem dX6_terms_27 : decode cX6_terms 27 = .ok (.istore_n 3, 1) := by decide +kernel
theorem dX6_terms_28 : decode cX6_terms 28 = .ok (.iload_n 3, 1) := by decide +kernel
theorem dX6_terms_29 : decode cX6_terms 29 = .ok (.iload_n 1, 1) := by decide +kernel
theorem dX6_terms_30 : decode cX6_terms 30 = .ok (.if_icmp .ge 94, 3) := by decide +kernel
theorem dX6_terms_33 : decode cX6_terms 33 = .ok (.aload_n 0, 1) := by decide +kernel
theorem dX6_terms_34 : decode cX6_terms 34 = .ok (.aload_n 0, 1) := by decide +kernel
theorem dX6_terms_35 : decode cX6_terms 35 = .ok (.getfield 232, 3) := by decide +kernel
theorem dX6_terms_38 : decode cX6_terms 38 = .ok (.ldc2_w 238, 3) := by decide +kernel
theorem dX6_terms_41 : decode cX6_terms 41 = .ok (.lmul, 1) := by decide +kernel
theorem dX6_terms_42 : decode cX6_terms 42 = .ok (.ldc2_w 240, 3) := by decide +kernel
theorem dX6_terms_45 : decode cX6_terms 45 = .ok (.ladd, 1) := by decide +kernel
theorem dX6_terms_46 : decode cX6_terms 46 = .ok (.putfield 232, 3) := by decide +kernel
theorem dX6_terms_49 : decode cX6_terms 49 = .ok (.aload_n 0, 1) := by decide +kernel
theorem dX6_terms_50 : decode cX6_terms 50 = .ok (.getfield 232, 3) := by decide +kernel
theorem dX6_terms_53 : decode cX6_terms 53 = .ok (.bipush 33, 2) := by decide +kernel
theorem dX6_terms_55 : decode cX6_terms 55 = .ok (.lushr, 1) := by decide +kernel
theorem dX6_terms_56 : decode cX6_terms 56 = .ok (.ldc2_w 242, 3) := by decide +kernel
theorem dX6_terms_59 : decode cX6_terms 59 = .ok (.lrem, 1) := by decide +kernel
theorem dX6_terms_60 : decode cX6_terms 60 = .ok (.l2i, 1) := by decide +kernel
theorem dX6_terms_61 : decode cX6_terms 61 = .ok (.istore 4, 2) := by decide +kernel
theorem dX6_terms_63 : decode cX6_terms 63 = .ok (.aload_n 0, 1) := by decide +kernel
theorem dX6_terms_64 : decode cX6_terms 64 = .ok (.iload 4, 2) := by decide +kernel
theorem dX6_terms_66 : decode cX6_terms 66 = .ok (.bipush 9, 2) := by decide +kernel
theorem dX6_terms_68 : decode cX6_terms 68 = .ok (.if_icmp .ge 13, 3) := by decide +kernel
theorem dX6_terms_71 : decode cX6_terms 71 = .ok (.bipush 100, 2) := by decide +kernel
theorem dX6_terms_73 : decode cX6_terms 73 = .ok (.iload 4, 2) := by decide +kernel
theorem dX6_terms_75 : decode cX6_terms 75 = .ok (.iconst 4, 1) := by decide +kernel
theorem dX6_terms_76 : decode cX6_terms 76 = .ok (.irem, 1) := by decide +kernel
theorem dX6_terms_77 : decode cX6_terms 77 = .ok (.iadd, 1) := by decide +kernel
theorem dX6_terms_78 : decode cX6_terms 78 = .ok (.goto 24, 3) := by decide +kernel
theorem dX6_terms_81 : decode cX6_terms 81 = .ok (.iload 4, 2) := by decide +kernel
theorem dX6_terms_83 : decode cX6_terms 83 = .ok (.bipush 15, 2) := by decide +kernel
theorem dX6_terms_85 : decode cX6_terms 85 = .ok (.if_icmp .ge 14, 3) := by decide +kernel
theorem dX6_terms_88 : decode cX6_terms 88 = .ok (.sipush 200, 3) := by decide +kernel
theorem dX6_terms_91 : decode cX6_terms 91 = .ok (.iload 4, 2) := by decide +kernel
theorem dX6_terms_93 : decode cX6_terms 93 = .ok (.iconst 4, 1) := by decide +kernel
theorem dX6_terms_94 : decode cX6_terms 94 = .ok (.irem, 1) := by decide +kernel
theorem dX6_terms_95 : decode cX6_terms 95 = .ok (.iadd, 1) := by decide +kernel
theorem dX6_terms_96 : decode cX6_terms 96 = .ok (.goto 6, 3) := by decide +kernel
theorem dX6_terms_99 : decode cX6_terms 99 = .ok (.sipush 300, 3) := by decide +kernel
theorem dX6_terms_102 : decode cX6_terms 102 = .ok (.invokevirtual 191, 3) := by decide +kernel
theorem dX6_terms_105 : decode cX6_terms 105 = .ok (.pop, 1) := by decide +kernel
theorem dX6_terms_106 : decode cX6_terms 106 = .ok (.iload_n 2, 1) := by decide +kernel
theorem dX6_terms_107 : decode cX6_terms 107 = .ok (.aload_n 0, 1) := by decide +kernel
theorem dX6_terms_108 : decode cX6_terms 108 = .ok (.getfield 25, 3) := by decide +kernel
theorem dX6_terms_111 : decode cX6_terms 111 = .ok (.iconst 5, 1) := by decide +kernel
theorem dX6_terms_112 : decode cX6_terms 112 = .ok (.iaload, 1) := by decide +kernel
theorem dX6_terms_113 : decode cX6_terms 113 = .ok (.invokestatic 129, 3) := by decide +kernel
theorem dX6_terms_116 : decode cX6_terms 116 = .ok (.iadd, 1) := by decide +kernel
theorem dX6_terms_117 : decode cX6_terms 117 = .ok (.istore_n 2, 1) := by decide +kernel
theorem dX6_terms_118 : decode cX6_terms 118 = .ok (.iinc 3 1, 3) := by decide +kernel
theorem dX6_terms_121 : decode cX6_terms 121 = .ok (.goto (-93), 3) := by decide +kernel
theorem dX6_terms_124 : decode cX6_terms 124 = .ok (.iload_n 2, 1) := by decide +kernel
theorem dX6_terms_125 : decode cX6_terms 125 = .ok (.ireturn, 1) := by decide +kernel
theorem dX6_keep_0 : decode cX6_keep 0 = .ok (.aload_n 0, 1) := by decide +kernel
theorem dX6_keep_1 : decode cX6_keep 1 = .ok (.iconst 0, 1) := by decide +kernel
theorem dX6_keep_2 : decode cX6_keep 2 = .ok (.putfield 50, 3) := by decide +kernel
theorem dX6_keep_5 : decode cX6_keep 5 = .ok (.iload_n 1, 1) := by decide +kernel
theorem dX6_keep_6 : decode cX6_keep 6 = .ok (.i2l, 1) := by decide +kernel
theorem dX6_keep_7 : decode cX6_keep 7 = .ok (.lconst 0, 1) := by decide +kernel
theorem dX6_keep_8 : decode cX6_keep 8 = .ok (.lconst 1, 1) := by decide +kernel
theorem dX6_keep_9 : decode cX6_keep 9 = .ok (.invokestatic 56, 3) := by decide +kernel
theorem dX6_keep_12 : decode cX6_keep 12 = .ok (.ifCond .ne 5, 3) := by decide +kernel
theorem dX6_keep_15 : decode cX6_keep 15 = .ok (.iconst (-1), 1) := by decide +kernel
theorem dX6_keep_16 : decode cX6_keep 16 = .ok (.ireturn, 1) := by decide +kernel
theorem dX6_keep_17 : decode cX6_keep 17 = .ok (.aload_n 0, 1) := by decide +kernel
theorem dX6_keep_18 : decode cX6_keep 18 = .ok (.getfield 34, 3) := by decide +kernel
theorem dX6_keep_21 : decode cX6_keep 21 = .ok (.iload_n 1, 1) := by decide +kernel
theorem dX6_keep_22 : decode cX6_keep 22 = .ok (.iconst 1, 1) := by decide +kernel
theorem dX6_keep_23 : decode cX6_keep 23 = .ok (.bastore, 1) := by decide +kernel
theorem dX6_keep_24 : decode cX6_keep 24 = .ok (.iconst 0, 1) := by decide +kernel
theorem dX6_keep_25 : decode cX6_keep 25 = .ok (.istore_n 2, 1) := by decide +kernel
theorem dX6_keep_26 : decode cX6_keep 26 = .ok (.iload_n 2, 1) := by decide +kernel
theorem dX6_keep_27 : decode cX6_keep 27 = .ok (.bipush 7, 2) := by decide +kernel
theorem dX6_keep_29 : decode cX6_keep 29 = .ok (.if_icmp .ge 26, 3) := by decide +kernel
theorem dX6_keep_32 : decode cX6_keep 32 = .ok (.aload_n 0, 1) := by decide +kernel
theorem dX6_keep_33 : decode cX6_keep 33 = .ok (.getfield 31, 3) := by decide +kernel
theorem dX6_keep_36 : decode cX6_keep 36 = .ok (.bipush 7, 2) := by decide +kernel
theorem dX6_keep_38 : decode cX6_keep 38 = .ok (.iload_n 1, 1) := by decide +kernel
theorem dX6_keep_39 : decode cX6_keep 39 = .ok (.imul, 1) := by decide +kernel
theorem dX6_keep_40 : decode cX6_keep 40 = .ok (.iload_n 2, 1) := by decide +kernel
theorem dX6_keep_41 : decode cX6_keep 41 = .ok (.iadd, 1) := by decide +kernel
theorem dX6_keep_42 : decode cX6_keep 42 = .ok (.aload_n 0, 1) := by decide +kernel
theorem dX6_keep_43 : decode cX6_keep 43 = .ok (.getfield 22, 3) := by decide +kernel
theorem dX6_keep_46 : decode cX6_keep 46 = .ok (.iload_n 2, 1) := by decide +kernel
theorem dX6_keep_47 : decode cX6_keep 47 = .ok (.iaload, 1) := by decide +kernel
theorem dX6_keep_48 : decode cX6_keep 48 = .ok (.iastore, 1) := by decide +kernel
theorem dX6_keep_49 : decode cX6_keep 49 = .ok (.iinc 2 1, 3) := by decide +kernel
theorem dX6_keep_52 : decode cX6_keep 52 = .ok (.goto (-26), 3) := by decide +kernel
theorem dX6_keep_55 : decode cX6_keep 55 = .ok (.aload_n 0, 1) := by decide +kernel
theorem dX6_keep_56 : decode cX6_keep 56 = .ok (.getfield 22, 3) := by decide +kernel
theorem dX6_keep_59 : decode cX6_keep 59 = .ok (.invokestatic 138, 3) := by decide +kernel
theorem dX6_keep_62 : decode cX6_keep 62 = .ok (.ireturn, 1) := by decide +kernel
theorem dX6_again_0 : decode cX6_again 0 = .ok (.aload_n 0, 1) := by decide +kernel
theorem dX6_again_1 : decode cX6_again 1 = .ok (.iconst 0, 1) := by decide +kernel
theorem dX6_again_2 : decode cX6_again 2 = .ok (.putfield 50, 3) := by decide +kernel
theorem dX6_again_5 : decode cX6_again 5 = .ok (.iload_n 1, 1) := by decide +kernel
theorem dX6_again_6 : decode cX6_again 6 = .ok (.i2l, 1) := by decide +kernel
theorem dX6_again_7 : decode cX6_again 7 = .ok (.lconst 0, 1) := by decide +kernel
theorem dX6_again_8 : decode cX6_again 8 = .ok (.lconst 1, 1) := by decide +kernel
theorem dX6_again_9 : decode cX6_again 9 = .ok (.invokestatic 56, 3) := by decide +kernel
theorem dX6_again_12 : decode cX6_again 12 = .ok (.ifCond .ne 5, 3) := by decide +kernel
theorem dX6_again_15 : decode cX6_again 15 = .ok (.iconst (-1), 1) := by decide +kernel
theorem dX6_again_16 : decode cX6_again 16 = .ok (.ireturn, 1) := by decide +kernel
theorem dX6_again_17 : decode cX6_again 17 = .ok (.aload_n 0, 1) := by decide +kernel
theorem dX6_again_18 : decode cX6_again 18 = .ok (.getfield 34, 3) := by decide +kernel
theorem dX6_again_21 : decode cX6_again 21 = .ok (.iload_n 1, 1) := by decide +kernel
theorem dX6_again_22 : decode cX6_again 22 = .ok (.baload, 1) := by decide +kernel
theorem dX6_again_23 : decode cX6_again 23 = .ok (.ifCond .ne 6, 3) := by decide +kernel
theorem dX6_again_26 : decode cX6_again 26 = .ok (.bipush (-3), 2) := by decide +kernel
theorem dX6_again_28 : decode cX6_again 28 = .ok (.ireturn, 1) := by decide +kernel
theorem dX6_again_29 : decode cX6_again 29 = .ok (.iconst 0, 1) := by decide +kernel
theorem dX6_again_30 : decode cX6_again 30 = .ok (.istore_n 2, 1) := by decide +kernel
theorem dX6_again_31 : decode cX6_again 31 = .ok (.iload_n 2, 1) := by decide +kernel
theorem dX6_again_32 : decode cX6_again 32 = .ok (.bipush 7, 2) := by decide +kernel
theorem dX6_again_34 : decode cX6_again 34 = .ok (.if_icmp .ge 26, 3) := by decide +kernel
theorem dX6_again_37 : decode cX6_again 37 = .ok (.aload_n 0, 1) := by decide +kernel
theorem dX6_again_38 : decode cX6_again 38 = .ok (.getfield 22, 3) := by decide +kernel
theorem dX6_again_41 : decode cX6_again 41 = .ok (.iload_n 2, 1) := by decide +kernel
theorem dX6_again_42 : decode cX6_again 42 = .ok (.aload_n 0, 1) := by decide +kernel
theorem dX6_again_43 : decode cX6_again 43 = .ok (.getfield 31, 3) := by decide +kernel
theorem dX6_again_46 : decode cX6_again 46 = .ok (.bipush 7, 2) := by decide +kernel
theorem dX6_again_48 : decode cX6_again 48 = .ok (.iload_n 1, 1) := by decide +kernel
theorem dX6_again_49 : decode cX6_again 49 = .ok (.imul, 1) := by decide +kernel
theorem dX6_again_50 : decode cX6_again 50 = .ok (.iload_n 2, 1) := by decide +kernel
theorem dX6_again_51 : decode cX6_again 51 = .ok (.iadd, 1) := by decide +kernel
theorem dX6_again_52 : decode cX6_again 52 = .ok (.iaload, 1) := by decide +kernel
theorem dX6_again_53 : decode cX6_again 53 = .ok (.iastore, 1) := by decide +kernel
theorem dX6_again_54 : decode cX6_again 54 = .ok (.iinc 2 1, 3) := by decide +kernel
theorem dX6_again_57 : decode cX6_again 57 = .ok (.goto (-26), 3) := by decide +kernel
theorem dX6_again_60 : decode cX6_again 60 = .ok (.aload_n 0, 1) := by decide +kernel
theorem dX6_again_61 : decode cX6_again 61 = .ok (.iconst 0, 1) := by decide +kernel
theorem dX6_again_62 : decode cX6_again 62 = .ok (.putfield 98, 3) := by decide +kernel
theorem dX6_again_65 : decode cX6_again 65 = .ok (.aload_n 0, 1) := by decide +kernel
theorem dX6_again_66 : decode cX6_again 66 = .ok (.getfield 22, 3) := by decide +kernel
theorem dX6_again_69 : decode cX6_again 69 = .ok (.invokestatic 138, 3) := by decide +kernel
theorem dX6_again_72 : decode cX6_again 72 = .ok (.ireturn, 1) := by decide +kernel
end
section
theorem dL_law_0 : decode cL_law 0 = .ok (.new 7, 3) := by decide +kernel
theorem dL_law_3 : decode cL_law 3 = .ok (.dup, 1) := by decide +kernel
theorem dL_law_4 : decode cL_law 4 = .ok (.invokespecial 9, 3) := by decide +kernel
theorem dL_law_7 : decode cL_law 7 = .ok (.astore_n 1, 1) := by decide +kernel
theorem dL_law_8 : decode cL_law 8 = .ok (.new 10, 3) := by decide +kernel
theorem dL_law_11 : decode cL_law 11 = .ok (.dup, 1) := by decide +kernel
theorem dL_law_12 : decode cL_law 12 = .ok (.invokespecial 12, 3) := by decide +kernel
theorem dL_law_15 : decode cL_law 15 = .ok (.astore_n 2, 1) := by decide +kernel
theorem dL_law_16 : decode cL_law 16 = .ok (.iconst 0, 1) := by decide +kernel
theorem dL_law_17 : decode cL_law 17 = .ok (.istore_n 3, 1) := by decide +kernel
theorem dL_law_18 : decode cL_law 18 = .ok (.iload_n 3, 1) := by decide +kernel
theorem dL_law_19 : decode cL_law 19 = .ok (.aload_n 0, 1) := by decide +kernel
theorem dL_law_20 : decode cL_law 20 = .ok (.arraylength, 1) := by decide +kernel
theorem dL_law_21 : decode cL_law 21 = .ok (.iconst 4, 1) := by decide +kernel
theorem dL_law_22 : decode cL_law 22 = .ok (.isub, 1) := by decide +kernel
theorem dL_law_23 : decode cL_law 23 = .ok (.if_icmp .gt 856, 3) := by decide +kernel
theorem dL_law_26 : decode cL_law 26 = .ok (.aload_n 0, 1) := by decide +kernel
theorem dL_law_27 : decode cL_law 27 = .ok (.iload_n 3, 1) := by decide +kernel
theorem dL_law_28 : decode cL_law 28 = .ok (.iaload, 1) := by decide +kernel
theorem dL_law_29 : decode cL_law 29 = .ok (.bipush 31, 2) := by decide +kernel
theorem dL_law_31 : decode cL_law 31 = .ok (.iand, 1) := by decide +kernel
theorem dL_law_32 : decode cL_law 32 = .ok (.tableswitch 841 0 25 #[120, 143, 156, 169, 182, 205, 238, 261, 284, 307, 330, 343, 356, 379, 402, 435, 498, 547, 580, 593, 616, 659, 718, 772, 795, 818], 120) := by decide +kernel
theorem dL_law_152 : decode cL_law 152 = .ok (.aload_n 1, 1) := by decide +kernel
theorem dL_law_153 : decode cL_law 153 = .ok (.aload_n 0, 1) := by decide +kernel
theorem dL_law_154 : decode cL_law 154 = .ok (.iload_n 3, 1) := by decide +kernel
theorem dL_law_155 : decode cL_law 155 = .ok (.iconst 1, 1) := by decide +kernel
theorem dL_law_156 : decode cL_law 156 = .ok (.iadd, 1) := by decide +kernel
theorem dL_law_157 : decode cL_law 157 = .ok (.iaload, 1) := by decide +kernel
theorem dL_law_158 : decode cL_law 158 = .ok (.invokevirtual 13, 3) := by decide +kernel
theorem dL_law_161 : decode cL_law 161 = .ok (.aload_n 2, 1) := by decide +kernel
theorem dL_law_162 : decode cL_law 162 = .ok (.aload_n 0, 1) := by decide +kernel
theorem dL_law_163 : decode cL_law 163 = .ok (.iload_n 3, 1) := by decide +kernel
theorem dL_law_164 : decode cL_law 164 = .ok (.iconst 1, 1) := by decide +kernel
theorem dL_law_165 : decode cL_law 165 = .ok (.iadd, 1) := by decide +kernel
theorem dL_law_166 : decode cL_law 166 = .ok (.iaload, 1) := by decide +kernel
theorem dL_law_167 : decode cL_law 167 = .ok (.invokevirtual 17, 3) := by decide +kernel
theorem dL_law_170 : decode cL_law 170 = .ok (.if_icmp .eq 703, 3) := by decide +kernel
theorem dL_law_173 : decode cL_law 173 = .ok (.iconst 0, 1) := by decide +kernel
theorem dL_law_174 : decode cL_law 174 = .ok (.ireturn, 1) := by decide +kernel
theorem dL_law_175 : decode cL_law 175 = .ok (.aload_n 1, 1) := by decide +kernel
theorem dL_law_176 : decode cL_law 176 = .ok (.invokevirtual 18, 3) := by decide +kernel
theorem dL_law_179 : decode cL_law 179 = .ok (.aload_n 2, 1) := by decide +kernel
theorem dL_law_180 : decode cL_law 180 = .ok (.invokevirtual 22, 3) := by decide +kernel
theorem dL_law_183 : decode cL_law 183 = .ok (.if_icmp .eq 690, 3) := by decide +kernel
theorem dL_law_186 : decode cL_law 186 = .ok (.iconst 0, 1) := by decide +kernel
theorem dL_law_187 : decode cL_law 187 = .ok (.ireturn, 1) := by decide +kernel
theorem dL_law_188 : decode cL_law 188 = .ok (.aload_n 1, 1) := by decide +kernel
theorem dL_law_189 : decode cL_law 189 = .ok (.invokevirtual 23, 3) := by decide +kernel
theorem dL_law_192 : decode cL_law 192 = .ok (.aload_n 2, 1) := by decide +kernel
theorem dL_law_193 : decode cL_law 193 = .ok (.invokevirtual 26, 3) := by decide +kernel
theorem dL_law_196 : decode cL_law 196 = .ok (.if_icmp .eq 677, 3) := by decide +kernel
theorem dL_law_199 : decode cL_law 199 = .ok (.iconst 0, 1) := by decide +kernel
theorem dL_law_200 : decode cL_law 200 = .ok (.ireturn, 1) := by decide +kernel
theorem dL_law_201 : decode cL_law 201 = .ok (.aload_n 1, 1) := by decide +kernel
theorem dL_law_202 : decode cL_law 202 = .ok (.invokevirtual 27, 3) := by decide +kernel
theorem dL_law_205 : decode cL_law 205 = .ok (.aload_n 2, 1) := by decide +kernel
theorem dL_law_206 : decode cL_law 206 = .ok (.invokevirtual 30, 3) := by decide +kernel
theorem dL_law_209 : decode cL_law 209 = .ok (.if_icmp .eq 664, 3) := by decide +kernel
theorem dL_law_212 : decode cL_law 212 = .ok (.iconst 0, 1) := by decide +kernel
theorem dL_law_213 : decode cL_law 213 = .ok (.ireturn, 1) := by decide +kernel
theorem dL_law_214 : decode cL_law 214 = .ok (.aload_n 1, 1) := by decide +kernel
theorem dL_law_215 : decode cL_law 215 = .ok (.aload_n 0, 1) := by decide +kernel
theorem dL_law_216 : decode cL_law 216 = .ok (.iload_n 3, 1) := by decide +kernel
theorem dL_law_217 : decode cL_law 217 = .ok (.iconst 1, 1) := by decide +kernel
theorem dL_law_218 : decode cL_law 218 = .ok (.iadd, 1) := by decide +kernel
theorem dL_law_219 : decode cL_law 219 = .ok (.iaload, 1) := by decide +kernel
theorem dL_law_220 : decode cL_law 220 = .ok (.invokevirtual 31, 3) := by decide +kernel
theorem dL_law_223 : decode cL_law 223 = .ok (.aload_n 2, 1) := by decide +kernel
theorem dL_law_224 : decode cL_law 224 = .ok (.aload_n 0, 1) := by decide +kernel
theorem dL_law_225 : decode cL_law 225 = .ok (.iload_n 3, 1) := by decide +kernel
theorem dL_law_226 : decode cL_law 226 = .ok (.iconst 1, 1) := by decide +kernel
theorem dL_law_227 : decode cL_law 227 = .ok (.iadd, 1) := by decide +kernel
theorem dL_law_228 : decode cL_law 228 = .ok (.iaload, 1) := by decide +kernel
theorem dL_law_229 : decode cL_law 229 = .ok (.invokevirtual 34, 3) := by decide +kernel
theorem dL_law_232 : decode cL_law 232 = .ok (.if_icmp .eq 641, 3) := by decide +kernel
theorem dL_law_235 : decode cL_law 235 = .ok (.iconst 0, 1) := by decide +kernel
theorem dL_law_236 : decode cL_law 236 = .ok (.ireturn, 1) := by decide +kernel
theorem dL_law_237 : decode cL_law 237 = .ok (.aload_n 1, 1) := by decide +kernel
theorem dL_law_238 : decode cL_law 238 = .ok (.aload_n 0, 1) := by decide +kernel
theorem dL_law_239 : decode cL_law 239 = .ok (.iload_n 3, 1) := by decide +kernel
theorem dL_law_240 : decode cL_law 240 = .ok (.iconst 1, 1) := by decide +kernel
theorem dL_law_241 : decode cL_law 241 = .ok (.iadd, 1) := by decide +kernel
theorem dL_law_242 : decode cL_law 242 = .ok (.iaload, 1) := by decide +kernel
theorem dL_law_243 : decode cL_law 243 = .ok (.aload_n 0, 1) := by decide +kernel
theorem dL_law_244 : decode cL_law 244 = .ok (.iload_n 3, 1) := by decide +kernel
theorem dL_law_245 : decode cL_law 245 = .ok (.iconst 2, 1) := by decide +kernel
theorem dL_law_246 : decode cL_law 246 = .ok (.iadd, 1) := by decide +kernel
theorem dL_law_247 : decode cL_law 247 = .ok (.iaload, 1) := by decide +kernel
theorem dL_law_248 : decode cL_law 248 = .ok (.invokevirtual 35, 3) := by decide +kernel
theorem dL_law_251 : decode cL_law 251 = .ok (.aload_n 2, 1) := by decide +kernel
theorem dL_law_252 : decode cL_law 252 = .ok (.aload_n 0, 1) := by decide +kernel
theorem dL_law_253 : decode cL_law 253 = .ok (.iload_n 3, 1) := by decide +kernel
theorem dL_law_254 : decode cL_law 254 = .ok (.iconst 1, 1) := by decide +kernel
theorem dL_law_255 : decode cL_law 255 = .ok (.iadd, 1) := by decide +kernel
theorem dL_law_256 : decode cL_law 256 = .ok (.iaload, 1) := by decide +kernel
theorem dL_law_257 : decode cL_law 257 = .ok (.aload_n 0, 1) := by decide +kernel
theorem dL_law_258 : decode cL_law 258 = .ok (.iload_n 3, 1) := by decide +kernel
theorem dL_law_259 : decode cL_law 259 = .ok (.iconst 2, 1) := by decide +kernel
theorem dL_law_260 : decode cL_law 260 = .ok (.iadd, 1) := by decide +kernel
theorem dL_law_261 : decode cL_law 261 = .ok (.iaload, 1) := by decide +kernel
theorem dL_law_262 : decode cL_law 262 = .ok (.invokevirtual 39, 3) := by decide +kernel
theorem dL_law_265 : decode cL_law 265 = .ok (.if_icmp .eq 608, 3) := by decide +kernel
theorem dL_law_268 : decode cL_law 268 = .ok (.iconst 0, 1) := by decide +kernel
theorem dL_law_269 : decode cL_law 269 = .ok (.ireturn, 1) := by decide +kernel
theorem dL_law_270 : decode cL_law 270 = .ok (.aload_n 1, 1) := by decide +kernel
theorem dL_law_271 : decode cL_law 271 = .ok (.aload_n 0, 1) := by decide +kernel
theorem dL_law_272 : decode cL_law 272 = .ok (.iload_n 3, 1) := by decide +kernel
theorem dL_law_273 : decode cL_law 273 = .ok (.iconst 1, 1) := by decide +kernel
theorem dL_law_274 : decode cL_law 274 = .ok (.iadd, 1) := by decide +kernel
theorem dL_law_275 : decode cL_law 275 = .ok (.iaload, 1) := by decide +kernel
theorem dL_law_276 : decode cL_law 276 = .ok (.invokevirtual 40, 3) := by decide +kernel
theorem dL_law_279 : decode cL_law 279 = .ok (.aload_n 2, 1) := by decide +kernel
theorem dL_law_280 : decode cL_law 280 = .ok (.aload_n 0, 1) := by decide +kernel
theorem dL_law_281 : decode cL_law 281 = .ok (.iload_n 3, 1) := by decide +kernel
theorem dL_law_282 : decode cL_law 282 = .ok (.iconst 1, 1) := by decide +kernel
theorem dL_law_283 : decode cL_law 283 = .ok (.iadd, 1) := by decide +kernel
theorem dL_law_284 : decode cL_law 284 = .ok (.iaload, 1) := by decide +kernel
theorem dL_law_285 : decode cL_law 285 = .ok (.invokevirtual 43, 3) := by decide +kernel
theorem dL_law_288 : decode cL_law 288 = .ok (.if_icmp .eq 585, 3) := by decide +kernel
theorem dL_law_291 : decode cL_law 291 = .ok (.iconst 0, 1) := by decide +kernel
theorem dL_law_292 : decode cL_law 292 = .ok (.ireturn, 1) := by decide +kernel
theorem dL_law_293 : decode cL_law 293 = .ok (.aload_n 1, 1) := by decide +kernel
theorem dL_law_294 : decode cL_law 294 = .ok (.aload_n 0, 1) := by decide +kernel
theorem dL_law_295 : decode cL_law 295 = .ok (.iload_n 3, 1) := by decide +kernel
theorem dL_law_296 : decode cL_law 296 = .ok (.iconst 1, 1) := by decide +kernel
theorem dL_law_297 : decode cL_law 297 = .ok (.iadd, 1) := by decide +kernel
theorem dL_law_298 : decode cL_law 298 = .ok (.iaload, 1) := by decide +kernel
theorem dL_law_299 : decode cL_law 299 = .ok (.invokevirtual 44, 3) := by decide +kernel
theorem dL_law_302 : decode cL_law 302 = .ok (.aload_n 2, 1) := by decide +kernel
theorem dL_law_303 : decode cL_law 303 = .ok (.aload_n 0, 1) := by decide +kernel
theorem dL_law_304 : decode cL_law 304 = .ok (.iload_n 3, 1) := by decide +kernel
theorem dL_law_305 : decode cL_law 305 = .ok (.iconst 1, 1) := by decide +kernel
theorem dL_law_306 : decode cL_law 306 = .ok (.iadd, 1) := by decide +kernel
theorem dL_law_307 : decode cL_law 307 = .ok (.iaload, 1) := by decide +kernel
theorem dL_law_308 : decode cL_law 308 = .ok (.invokevirtual 47, 3) := by decide +kernel
theorem dL_law_311 : decode cL_law 311 = .ok (.if_icmp .eq 562, 3) := by decide +kernel
theorem dL_law_314 : decode cL_law 314 = .ok (.iconst 0, 1) := by decide +kernel
theorem dL_law_315 : decode cL_law 315 = .ok (.ireturn, 1) := by decide +kernel
theorem dL_law_316 : decode cL_law 316 = .ok (.aload_n 1, 1) := by decide +kernel
theorem dL_law_317 : decode cL_law 317 = .ok (.aload_n 0, 1) := by decide +kernel
theorem dL_law_318 : decode cL_law 318 = .ok (.iload_n 3, 1) := by decide +kernel
theorem dL_law_319 : decode cL_law 319 = .ok (.iconst 1, 1) := by decide +kernel
theorem dL_law_320 : decode cL_law 320 = .ok (.iadd, 1) := by decide +kernel
theorem dL_law_321 : decode cL_law 321 = .ok (.iaload, 1) := by decide +kernel
theorem dL_law_322 : decode cL_law 322 = .ok (.invokevirtual 48, 3) := by decide +kernel
theorem dL_law_325 : decode cL_law 325 = .ok (.aload_n 2, 1) := by decide +kernel
theorem dL_law_326 : decode cL_law 326 = .ok (.aload_n 0, 1) := by decide +kernel
theorem dL_law_327 : decode cL_law 327 = .ok (.iload_n 3, 1) := by decide +kernel
theorem dL_law_328 : decode cL_law 328 = .ok (.iconst 1, 1) := by decide +kernel
theorem dL_law_329 : decode cL_law 329 = .ok (.iadd, 1) := by decide +kernel
theorem dL_law_330 : decode cL_law 330 = .ok (.iaload, 1) := by decide +kernel
theorem dL_law_331 : decode cL_law 331 = .ok (.invokevirtual 51, 3) := by decide +kernel
theorem dL_law_334 : decode cL_law 334 = .ok (.if_icmp .eq 539, 3) := by decide +kernel
theorem dL_law_337 : decode cL_law 337 = .ok (.iconst 0, 1) := by decide +kernel
theorem dL_law_338 : decode cL_law 338 = .ok (.ireturn, 1) := by decide +kernel
theorem dL_law_339 : decode cL_law 339 = .ok (.aload_n 1, 1) := by decide +kernel
theorem dL_law_340 : decode cL_law 340 = .ok (.aload_n 0, 1) := by decide +kernel
theorem dL_law_341 : decode cL_law 341 = .ok (.iload_n 3, 1) := by decide +kernel
theorem dL_law_342 : decode cL_law 342 = .ok (.iconst 1, 1) := by decide +kernel
theorem dL_law_343 : decode cL_law 343 = .ok (.iadd, 1) := by decide +kernel
theorem dL_law_344 : decode cL_law 344 = .ok (.iaload, 1) := by decide +kernel
theorem dL_law_345 : decode cL_law 345 = .ok (.invokevirtual 52, 3) := by decide +kernel
theorem dL_law_348 : decode cL_law 348 = .ok (.aload_n 2, 1) := by decide +kernel
theorem dL_law_349 : decode cL_law 349 = .ok (.aload_n 0, 1) := by decide +kernel
theorem dL_law_350 : decode cL_law 350 = .ok (.iload_n 3, 1) := by decide +kernel
theorem dL_law_351 : decode cL_law 351 = .ok (.iconst 1, 1) := by decide +kernel
theorem dL_law_352 : decode cL_law 352 = .ok (.iadd, 1) := by decide +kernel
theorem dL_law_353 : decode cL_law 353 = .ok (.iaload, 1) := by decide +kernel
theorem dL_law_354 : decode cL_law 354 = .ok (.invokevirtual 55, 3) := by decide +kernel
theorem dL_law_357 : decode cL_law 357 = .ok (.if_icmp .eq 516, 3) := by decide +kernel
theorem dL_law_360 : decode cL_law 360 = .ok (.iconst 0, 1) := by decide +kernel
theorem dL_law_361 : decode cL_law 361 = .ok (.ireturn, 1) := by decide +kernel
theorem dL_law_362 : decode cL_law 362 = .ok (.aload_n 1, 1) := by decide +kernel
theorem dL_law_363 : decode cL_law 363 = .ok (.invokevirtual 56, 3) := by decide +kernel
theorem dL_law_366 : decode cL_law 366 = .ok (.aload_n 2, 1) := by decide +kernel
theorem dL_law_367 : decode cL_law 367 = .ok (.invokevirtual 59, 3) := by decide +kernel
theorem dL_law_370 : decode cL_law 370 = .ok (.if_icmp .eq 503, 3) := by decide +kernel
theorem dL_law_373 : decode cL_law 373 = .ok (.iconst 0, 1) := by decide +kernel
theorem dL_law_374 : decode cL_law 374 = .ok (.ireturn, 1) := by decide +kernel
theorem dL_law_375 : decode cL_law 375 = .ok (.aload_n 1, 1) := by decide +kernel
theorem dL_law_376 : decode cL_law 376 = .ok (.invokevirtual 60, 3) := by decide +kernel
theorem dL_law_379 : decode cL_law 379 = .ok (.aload_n 2, 1) := by decide +kernel
theorem dL_law_380 : decode cL_law 380 = .ok (.invokevirtual 63, 3) := by decide +kernel
theorem dL_law_383 : decode cL_law 383 = .ok (.if_icmp .eq 490, 3) := by decide +kernel
theorem dL_law_386 : decode cL_law 386 = .ok (.iconst 0, 1) := by decide +kernel
theorem dL_law_387 : decode cL_law 387 = .ok (.ireturn, 1) := by decide +kernel
theorem dL_law_388 : decode cL_law 388 = .ok (.aload_n 1, 1) := by decide +kernel
theorem dL_law_389 : decode cL_law 389 = .ok (.aload_n 0, 1) := by decide +kernel
theorem dL_law_390 : decode cL_law 390 = .ok (.iload_n 3, 1) := by decide +kernel
theorem dL_law_391 : decode cL_law 391 = .ok (.iconst 1, 1) := by decide +kernel
theorem dL_law_392 : decode cL_law 392 = .ok (.iadd, 1) := by decide +kernel
theorem dL_law_393 : decode cL_law 393 = .ok (.iaload, 1) := by decide +kernel
theorem dL_law_394 : decode cL_law 394 = .ok (.invokevirtual 64, 3) := by decide +kernel
theorem dL_law_397 : decode cL_law 397 = .ok (.aload_n 2, 1) := by decide +kernel
theorem dL_law_398 : decode cL_law 398 = .ok (.aload_n 0, 1) := by decide +kernel
theorem dL_law_399 : decode cL_law 399 = .ok (.iload_n 3, 1) := by decide +kernel
theorem dL_law_400 : decode cL_law 400 = .ok (.iconst 1, 1) := by decide +kernel
theorem dL_law_401 : decode cL_law 401 = .ok (.iadd, 1) := by decide +kernel
theorem dL_law_402 : decode cL_law 402 = .ok (.iaload, 1) := by decide +kernel
theorem dL_law_403 : decode cL_law 403 = .ok (.invokevirtual 67, 3) := by decide +kernel
theorem dL_law_406 : decode cL_law 406 = .ok (.if_icmp .eq 467, 3) := by decide +kernel
theorem dL_law_409 : decode cL_law 409 = .ok (.iconst 0, 1) := by decide +kernel
theorem dL_law_410 : decode cL_law 410 = .ok (.ireturn, 1) := by decide +kernel
theorem dL_law_411 : decode cL_law 411 = .ok (.aload_n 1, 1) := by decide +kernel
theorem dL_law_412 : decode cL_law 412 = .ok (.aload_n 0, 1) := by decide +kernel
theorem dL_law_413 : decode cL_law 413 = .ok (.iload_n 3, 1) := by decide +kernel
theorem dL_law_414 : decode cL_law 414 = .ok (.iconst 1, 1) := by decide +kernel
theorem dL_law_415 : decode cL_law 415 = .ok (.iadd, 1) := by decide +kernel
theorem dL_law_416 : decode cL_law 416 = .ok (.iaload, 1) := by decide +kernel
theorem dL_law_417 : decode cL_law 417 = .ok (.invokevirtual 68, 3) := by decide +kernel
theorem dL_law_420 : decode cL_law 420 = .ok (.aload_n 2, 1) := by decide +kernel
theorem dL_law_421 : decode cL_law 421 = .ok (.aload_n 0, 1) := by decide +kernel
theorem dL_law_422 : decode cL_law 422 = .ok (.iload_n 3, 1) := by decide +kernel
theorem dL_law_423 : decode cL_law 423 = .ok (.iconst 1, 1) := by decide +kernel
theorem dL_law_424 : decode cL_law 424 = .ok (.iadd, 1) := by decide +kernel
theorem dL_law_425 : decode cL_law 425 = .ok (.iaload, 1) := by decide +kernel
theorem dL_law_426 : decode cL_law 426 = .ok (.invokevirtual 71, 3) := by decide +kernel
theorem dL_law_429 : decode cL_law 429 = .ok (.if_icmp .eq 444, 3) := by decide +kernel
theorem dL_law_432 : decode cL_law 432 = .ok (.iconst 0, 1) := by decide +kernel
theorem dL_law_433 : decode cL_law 433 = .ok (.ireturn, 1) := by decide +kernel
theorem dL_law_434 : decode cL_law 434 = .ok (.aload_n 1, 1) := by decide +kernel
theorem dL_law_435 : decode cL_law 435 = .ok (.aload_n 0, 1) := by decide +kernel
theorem dL_law_436 : decode cL_law 436 = .ok (.iload_n 3, 1) := by decide +kernel
theorem dL_law_437 : decode cL_law 437 = .ok (.iconst 1, 1) := by decide +kernel
theorem dL_law_438 : decode cL_law 438 = .ok (.iadd, 1) := by decide +kernel
theorem dL_law_439 : decode cL_law 439 = .ok (.iaload, 1) := by decide +kernel
theorem dL_law_440 : decode cL_law 440 = .ok (.aload_n 0, 1) := by decide +kernel
theorem dL_law_441 : decode cL_law 441 = .ok (.iload_n 3, 1) := by decide +kernel
theorem dL_law_442 : decode cL_law 442 = .ok (.iconst 2, 1) := by decide +kernel
theorem dL_law_443 : decode cL_law 443 = .ok (.iadd, 1) := by decide +kernel
theorem dL_law_444 : decode cL_law 444 = .ok (.iaload, 1) := by decide +kernel
theorem dL_law_445 : decode cL_law 445 = .ok (.invokevirtual 72, 3) := by decide +kernel
theorem dL_law_448 : decode cL_law 448 = .ok (.aload_n 2, 1) := by decide +kernel
theorem dL_law_449 : decode cL_law 449 = .ok (.aload_n 0, 1) := by decide +kernel
theorem dL_law_450 : decode cL_law 450 = .ok (.iload_n 3, 1) := by decide +kernel
theorem dL_law_451 : decode cL_law 451 = .ok (.iconst 1, 1) := by decide +kernel
theorem dL_law_452 : decode cL_law 452 = .ok (.iadd, 1) := by decide +kernel
theorem dL_law_453 : decode cL_law 453 = .ok (.iaload, 1) := by decide +kernel
theorem dL_law_454 : decode cL_law 454 = .ok (.aload_n 0, 1) := by decide +kernel
theorem dL_law_455 : decode cL_law 455 = .ok (.iload_n 3, 1) := by decide +kernel
theorem dL_law_456 : decode cL_law 456 = .ok (.iconst 2, 1) := by decide +kernel
theorem dL_law_457 : decode cL_law 457 = .ok (.iadd, 1) := by decide +kernel
theorem dL_law_458 : decode cL_law 458 = .ok (.iaload, 1) := by decide +kernel
theorem dL_law_459 : decode cL_law 459 = .ok (.invokevirtual 75, 3) := by decide +kernel
theorem dL_law_462 : decode cL_law 462 = .ok (.if_icmp .eq 411, 3) := by decide +kernel
theorem dL_law_465 : decode cL_law 465 = .ok (.iconst 0, 1) := by decide +kernel
theorem dL_law_466 : decode cL_law 466 = .ok (.ireturn, 1) := by decide +kernel
theorem dL_law_467 : decode cL_law 467 = .ok (.aload_n 1, 1) := by decide +kernel
theorem dL_law_468 : decode cL_law 468 = .ok (.aload_n 0, 1) := by decide +kernel
theorem dL_law_469 : decode cL_law 469 = .ok (.iload_n 3, 1) := by decide +kernel
theorem dL_law_470 : decode cL_law 470 = .ok (.iconst 1, 1) := by decide +kernel
theorem dL_law_471 : decode cL_law 471 = .ok (.iadd, 1) := by decide +kernel
theorem dL_law_472 : decode cL_law 472 = .ok (.iaload, 1) := by decide +kernel
theorem dL_law_473 : decode cL_law 473 = .ok (.aload_n 0, 1) := by decide +kernel
theorem dL_law_474 : decode cL_law 474 = .ok (.iload_n 3, 1) := by decide +kernel
theorem dL_law_475 : decode cL_law 475 = .ok (.iconst 2, 1) := by decide +kernel
theorem dL_law_476 : decode cL_law 476 = .ok (.iadd, 1) := by decide +kernel
theorem dL_law_477 : decode cL_law 477 = .ok (.iaload, 1) := by decide +kernel
theorem dL_law_478 : decode cL_law 478 = .ok (.i2l, 1) := by decide +kernel
theorem dL_law_479 : decode cL_law 479 = .ok (.bipush 32, 2) := by decide +kernel
theorem dL_law_481 : decode cL_law 481 = .ok (.lshl, 1) := by decide +kernel
theorem dL_law_482 : decode cL_law 482 = .ok (.aload_n 0, 1) := by decide +kernel
theorem dL_law_483 : decode cL_law 483 = .ok (.iload_n 3, 1) := by decide +kernel
theorem dL_law_484 : decode cL_law 484 = .ok (.iconst 3, 1) := by decide +kernel
theorem dL_law_485 : decode cL_law 485 = .ok (.iadd, 1) := by decide +kernel
theorem dL_law_486 : decode cL_law 486 = .ok (.iaload, 1) := by decide +kernel
theorem dL_law_487 : decode cL_law 487 = .ok (.i2l, 1) := by decide +kernel
theorem dL_law_488 : decode cL_law 488 = .ok (.ldc2_w 76, 3) := by decide +kernel
theorem dL_law_491 : decode cL_law 491 = .ok (.land, 1) := by decide +kernel
theorem dL_law_492 : decode cL_law 492 = .ok (.lor, 1) := by decide +kernel
theorem dL_law_493 : decode cL_law 493 = .ok (.invokevirtual 78, 3) := by decide +kernel
theorem dL_law_496 : decode cL_law 496 = .ok (.aload_n 2, 1) := by decide +kernel
theorem dL_law_497 : decode cL_law 497 = .ok (.aload_n 0, 1) := by decide +kernel
theorem dL_law_498 : decode cL_law 498 = .ok (.iload_n 3, 1) := by decide +kernel
theorem dL_law_499 : decode cL_law 499 = .ok (.iconst 1, 1) := by decide +kernel
theorem dL_law_500 : decode cL_law 500 = .ok (.iadd, 1) := by decide +kernel
theorem dL_law_501 : decode cL_law 501 = .ok (.iaload, 1) := by decide +kernel
theorem dL_law_502 : decode cL_law 502 = .ok (.aload_n 0, 1) := by decide +kernel
theorem dL_law_503 : decode cL_law 503 = .ok (.iload_n 3, 1) := by decide +kernel
theorem dL_law_504 : decode cL_law 504 = .ok (.iconst 2, 1) := by decide +kernel
theorem dL_law_505 : decode cL_law 505 = .ok (.iadd, 1) := by decide +kernel
theorem dL_law_506 : decode cL_law 506 = .ok (.iaload, 1) := by decide +kernel
theorem dL_law_507 : decode cL_law 507 = .ok (.i2l, 1) := by decide +kernel
theorem dL_law_508 : decode cL_law 508 = .ok (.bipush 32, 2) := by decide +kernel
theorem dL_law_510 : decode cL_law 510 = .ok (.lshl, 1) := by decide +kernel
theorem dL_law_511 : decode cL_law 511 = .ok (.aload_n 0, 1) := by decide +kernel
theorem dL_law_512 : decode cL_law 512 = .ok (.iload_n 3, 1) := by decide +kernel
theorem dL_law_513 : decode cL_law 513 = .ok (.iconst 3, 1) := by decide +kernel
theorem dL_law_514 : decode cL_law 514 = .ok (.iadd, 1) := by decide +kernel
theorem dL_law_515 : decode cL_law 515 = .ok (.iaload, 1) := by decide +kernel
theorem dL_law_516 : decode cL_law 516 = .ok (.i2l, 1) := by decide +kernel
theorem dL_law_517 : decode cL_law 517 = .ok (.ldc2_w 76, 3) := by decide +kernel
theorem dL_law_520 : decode cL_law 520 = .ok (.land, 1) := by decide +kernel
theorem dL_law_521 : decode cL_law 521 = .ok (.lor, 1) := by decide +kernel
theorem dL_law_522 : decode cL_law 522 = .ok (.invokevirtual 82, 3) := by decide +kernel
theorem dL_law_525 : decode cL_law 525 = .ok (.if_icmp .eq 348, 3) := by decide +kernel
theorem dL_law_528 : decode cL_law 528 = .ok (.iconst 0, 1) := by decide +kernel
theorem dL_law_529 : decode cL_law 529 = .ok (.ireturn, 1) := by decide +kernel
theorem dL_law_530 : decode cL_law 530 = .ok (.aload_n 1, 1) := by decide +kernel
theorem dL_law_531 : decode cL_law 531 = .ok (.aload_n 0, 1) := by decide +kernel
theorem dL_law_532 : decode cL_law 532 = .ok (.iload_n 3, 1) := by decide +kernel
theorem dL_law_533 : decode cL_law 533 = .ok (.iconst 1, 1) := by decide +kernel
theorem dL_law_534 : decode cL_law 534 = .ok (.iadd, 1) := by decide +kernel
theorem dL_law_535 : decode cL_law 535 = .ok (.iaload, 1) := by decide +kernel
theorem dL_law_536 : decode cL_law 536 = .ok (.aload_n 0, 1) := by decide +kernel
theorem dL_law_537 : decode cL_law 537 = .ok (.iload_n 3, 1) := by decide +kernel
theorem dL_law_538 : decode cL_law 538 = .ok (.iconst 2, 1) := by decide +kernel
theorem dL_law_539 : decode cL_law 539 = .ok (.iadd, 1) := by decide +kernel
theorem dL_law_540 : decode cL_law 540 = .ok (.iaload, 1) := by decide +kernel
theorem dL_law_541 : decode cL_law 541 = .ok (.ifCond .eq 7, 3) := by decide +kernel
theorem dL_law_544 : decode cL_law 544 = .ok (.iconst 1, 1) := by decide +kernel
theorem dL_law_545 : decode cL_law 545 = .ok (.goto 4, 3) := by decide +kernel
theorem dL_law_548 : decode cL_law 548 = .ok (.iconst 0, 1) := by decide +kernel
theorem dL_law_549 : decode cL_law 549 = .ok (.invokevirtual 83, 3) := by decide +kernel
theorem dL_law_552 : decode cL_law 552 = .ok (.aload_n 2, 1) := by decide +kernel
theorem dL_law_553 : decode cL_law 553 = .ok (.aload_n 0, 1) := by decide +kernel
theorem dL_law_554 : decode cL_law 554 = .ok (.iload_n 3, 1) := by decide +kernel
theorem dL_law_555 : decode cL_law 555 = .ok (.iconst 1, 1) := by decide +kernel
theorem dL_law_556 : decode cL_law 556 = .ok (.iadd, 1) := by decide +kernel
theorem dL_law_557 : decode cL_law 557 = .ok (.iaload, 1) := by decide +kernel
theorem dL_law_558 : decode cL_law 558 = .ok (.aload_n 0, 1) := by decide +kernel
theorem dL_law_559 : decode cL_law 559 = .ok (.iload_n 3, 1) := by decide +kernel
theorem dL_law_560 : decode cL_law 560 = .ok (.iconst 2, 1) := by decide +kernel
theorem dL_law_561 : decode cL_law 561 = .ok (.iadd, 1) := by decide +kernel
theorem dL_law_562 : decode cL_law 562 = .ok (.iaload, 1) := by decide +kernel
theorem dL_law_563 : decode cL_law 563 = .ok (.ifCond .eq 7, 3) := by decide +kernel
theorem dL_law_566 : decode cL_law 566 = .ok (.iconst 1, 1) := by decide +kernel
theorem dL_law_567 : decode cL_law 567 = .ok (.goto 4, 3) := by decide +kernel
theorem dL_law_570 : decode cL_law 570 = .ok (.iconst 0, 1) := by decide +kernel
theorem dL_law_571 : decode cL_law 571 = .ok (.invokevirtual 87, 3) := by decide +kernel
theorem dL_law_574 : decode cL_law 574 = .ok (.if_icmp .eq 299, 3) := by decide +kernel
theorem dL_law_577 : decode cL_law 577 = .ok (.iconst 0, 1) := by decide +kernel
theorem dL_law_578 : decode cL_law 578 = .ok (.ireturn, 1) := by decide +kernel
theorem dL_law_579 : decode cL_law 579 = .ok (.aload_n 1, 1) := by decide +kernel
theorem dL_law_580 : decode cL_law 580 = .ok (.aload_n 0, 1) := by decide +kernel
theorem dL_law_581 : decode cL_law 581 = .ok (.iload_n 3, 1) := by decide +kernel
theorem dL_law_582 : decode cL_law 582 = .ok (.iconst 1, 1) := by decide +kernel
theorem dL_law_583 : decode cL_law 583 = .ok (.iadd, 1) := by decide +kernel
theorem dL_law_584 : decode cL_law 584 = .ok (.iaload, 1) := by decide +kernel
theorem dL_law_585 : decode cL_law 585 = .ok (.aload_n 0, 1) := by decide +kernel
theorem dL_law_586 : decode cL_law 586 = .ok (.iload_n 3, 1) := by decide +kernel
theorem dL_law_587 : decode cL_law 587 = .ok (.iconst 2, 1) := by decide +kernel
theorem dL_law_588 : decode cL_law 588 = .ok (.iadd, 1) := by decide +kernel
theorem dL_law_589 : decode cL_law 589 = .ok (.iaload, 1) := by decide +kernel
theorem dL_law_590 : decode cL_law 590 = .ok (.invokevirtual 88, 3) := by decide +kernel
theorem dL_law_593 : decode cL_law 593 = .ok (.aload_n 2, 1) := by decide +kernel
theorem dL_law_594 : decode cL_law 594 = .ok (.aload_n 0, 1) := by decide +kernel
theorem dL_law_595 : decode cL_law 595 = .ok (.iload_n 3, 1) := by decide +kernel
theorem dL_law_596 : decode cL_law 596 = .ok (.iconst 1, 1) := by decide +kernel
theorem dL_law_597 : decode cL_law 597 = .ok (.iadd, 1) := by decide +kernel
theorem dL_law_598 : decode cL_law 598 = .ok (.iaload, 1) := by decide +kernel
theorem dL_law_599 : decode cL_law 599 = .ok (.aload_n 0, 1) := by decide +kernel
theorem dL_law_600 : decode cL_law 600 = .ok (.iload_n 3, 1) := by decide +kernel
theorem dL_law_601 : decode cL_law 601 = .ok (.iconst 2, 1) := by decide +kernel
theorem dL_law_602 : decode cL_law 602 = .ok (.iadd, 1) := by decide +kernel
theorem dL_law_603 : decode cL_law 603 = .ok (.iaload, 1) := by decide +kernel
theorem dL_law_604 : decode cL_law 604 = .ok (.invokevirtual 91, 3) := by decide +kernel
theorem dL_law_607 : decode cL_law 607 = .ok (.if_icmp .eq 266, 3) := by decide +kernel
theorem dL_law_610 : decode cL_law 610 = .ok (.iconst 0, 1) := by decide +kernel
theorem dL_law_611 : decode cL_law 611 = .ok (.ireturn, 1) := by decide +kernel
theorem dL_law_612 : decode cL_law 612 = .ok (.aload_n 1, 1) := by decide +kernel
theorem dL_law_613 : decode cL_law 613 = .ok (.invokevirtual 92, 3) := by decide +kernel
theorem dL_law_616 : decode cL_law 616 = .ok (.aload_n 2, 1) := by decide +kernel
theorem dL_law_617 : decode cL_law 617 = .ok (.invokevirtual 95, 3) := by decide +kernel
theorem dL_law_620 : decode cL_law 620 = .ok (.if_icmp .eq 253, 3) := by decide +kernel
theorem dL_law_623 : decode cL_law 623 = .ok (.iconst 0, 1) := by decide +kernel
theorem dL_law_624 : decode cL_law 624 = .ok (.ireturn, 1) := by decide +kernel
theorem dL_law_625 : decode cL_law 625 = .ok (.aload_n 1, 1) := by decide +kernel
theorem dL_law_626 : decode cL_law 626 = .ok (.aload_n 0, 1) := by decide +kernel
theorem dL_law_627 : decode cL_law 627 = .ok (.iload_n 3, 1) := by decide +kernel
theorem dL_law_628 : decode cL_law 628 = .ok (.iconst 1, 1) := by decide +kernel
theorem dL_law_629 : decode cL_law 629 = .ok (.iadd, 1) := by decide +kernel
theorem dL_law_630 : decode cL_law 630 = .ok (.iaload, 1) := by decide +kernel
theorem dL_law_631 : decode cL_law 631 = .ok (.invokevirtual 96, 3) := by decide +kernel
theorem dL_law_634 : decode cL_law 634 = .ok (.aload_n 2, 1) := by decide +kernel
theorem dL_law_635 : decode cL_law 635 = .ok (.aload_n 0, 1) := by decide +kernel
theorem dL_law_636 : decode cL_law 636 = .ok (.iload_n 3, 1) := by decide +kernel
theorem dL_law_637 : decode cL_law 637 = .ok (.iconst 1, 1) := by decide +kernel
theorem dL_law_638 : decode cL_law 638 = .ok (.iadd, 1) := by decide +kernel
theorem dL_law_639 : decode cL_law 639 = .ok (.iaload, 1) := by decide +kernel
theorem dL_law_640 : decode cL_law 640 = .ok (.invokevirtual 99, 3) := by decide +kernel
theorem dL_law_643 : decode cL_law 643 = .ok (.if_icmp .eq 230, 3) := by decide +kernel
theorem dL_law_646 : decode cL_law 646 = .ok (.iconst 0, 1) := by decide +kernel
theorem dL_law_647 : decode cL_law 647 = .ok (.ireturn, 1) := by decide +kernel
theorem dL_law_648 : decode cL_law 648 = .ok (.aload_n 1, 1) := by decide +kernel
theorem dL_law_649 : decode cL_law 649 = .ok (.aload_n 0, 1) := by decide +kernel
theorem dL_law_650 : decode cL_law 650 = .ok (.iload_n 3, 1) := by decide +kernel
theorem dL_law_651 : decode cL_law 651 = .ok (.iconst 1, 1) := by decide +kernel
theorem dL_law_652 : decode cL_law 652 = .ok (.iadd, 1) := by decide +kernel
theorem dL_law_653 : decode cL_law 653 = .ok (.iaload, 1) := by decide +kernel
theorem dL_law_654 : decode cL_law 654 = .ok (.aload_n 0, 1) := by decide +kernel
theorem dL_law_655 : decode cL_law 655 = .ok (.iload_n 3, 1) := by decide +kernel
theorem dL_law_656 : decode cL_law 656 = .ok (.iconst 2, 1) := by decide +kernel
theorem dL_law_657 : decode cL_law 657 = .ok (.iadd, 1) := by decide +kernel
theorem dL_law_658 : decode cL_law 658 = .ok (.iaload, 1) := by decide +kernel
theorem dL_law_659 : decode cL_law 659 = .ok (.aload_n 0, 1) := by decide +kernel
theorem dL_law_660 : decode cL_law 660 = .ok (.iload_n 3, 1) := by decide +kernel
theorem dL_law_661 : decode cL_law 661 = .ok (.iconst 3, 1) := by decide +kernel
theorem dL_law_662 : decode cL_law 662 = .ok (.iadd, 1) := by decide +kernel
theorem dL_law_663 : decode cL_law 663 = .ok (.iaload, 1) := by decide +kernel
theorem dL_law_664 : decode cL_law 664 = .ok (.invokevirtual 100, 3) := by decide +kernel
theorem dL_law_667 : decode cL_law 667 = .ok (.aload_n 2, 1) := by decide +kernel
theorem dL_law_668 : decode cL_law 668 = .ok (.aload_n 0, 1) := by decide +kernel
theorem dL_law_669 : decode cL_law 669 = .ok (.iload_n 3, 1) := by decide +kernel
theorem dL_law_670 : decode cL_law 670 = .ok (.iconst 1, 1) := by decide +kernel
theorem dL_law_671 : decode cL_law 671 = .ok (.iadd, 1) := by decide +kernel
theorem dL_law_672 : decode cL_law 672 = .ok (.iaload, 1) := by decide +kernel
theorem dL_law_673 : decode cL_law 673 = .ok (.aload_n 0, 1) := by decide +kernel
theorem dL_law_674 : decode cL_law 674 = .ok (.iload_n 3, 1) := by decide +kernel
theorem dL_law_675 : decode cL_law 675 = .ok (.iconst 2, 1) := by decide +kernel
theorem dL_law_676 : decode cL_law 676 = .ok (.iadd, 1) := by decide +kernel
theorem dL_law_677 : decode cL_law 677 = .ok (.iaload, 1) := by decide +kernel
theorem dL_law_678 : decode cL_law 678 = .ok (.aload_n 0, 1) := by decide +kernel
theorem dL_law_679 : decode cL_law 679 = .ok (.iload_n 3, 1) := by decide +kernel
theorem dL_law_680 : decode cL_law 680 = .ok (.iconst 3, 1) := by decide +kernel
theorem dL_law_681 : decode cL_law 681 = .ok (.iadd, 1) := by decide +kernel
theorem dL_law_682 : decode cL_law 682 = .ok (.iaload, 1) := by decide +kernel
theorem dL_law_683 : decode cL_law 683 = .ok (.invokevirtual 104, 3) := by decide +kernel
theorem dL_law_686 : decode cL_law 686 = .ok (.if_icmp .eq 187, 3) := by decide +kernel
theorem dL_law_689 : decode cL_law 689 = .ok (.iconst 0, 1) := by decide +kernel
theorem dL_law_690 : decode cL_law 690 = .ok (.ireturn, 1) := by decide +kernel
theorem dL_law_691 : decode cL_law 691 = .ok (.aload_n 1, 1) := by decide +kernel
theorem dL_law_692 : decode cL_law 692 = .ok (.aload_n 0, 1) := by decide +kernel
theorem dL_law_693 : decode cL_law 693 = .ok (.iload_n 3, 1) := by decide +kernel
theorem dL_law_694 : decode cL_law 694 = .ok (.iconst 1, 1) := by decide +kernel
theorem dL_law_695 : decode cL_law 695 = .ok (.iadd, 1) := by decide +kernel
theorem dL_law_696 : decode cL_law 696 = .ok (.iaload, 1) := by decide +kernel
theorem dL_law_697 : decode cL_law 697 = .ok (.aload_n 0, 1) := by decide +kernel
theorem dL_law_698 : decode cL_law 698 = .ok (.iload_n 3, 1) := by decide +kernel
theorem dL_law_699 : decode cL_law 699 = .ok (.iconst 2, 1) := by decide +kernel
theorem dL_law_700 : decode cL_law 700 = .ok (.iadd, 1) := by decide +kernel
theorem dL_law_701 : decode cL_law 701 = .ok (.iaload, 1) := by decide +kernel
theorem dL_law_702 : decode cL_law 702 = .ok (.aload_n 0, 1) := by decide +kernel
theorem dL_law_703 : decode cL_law 703 = .ok (.iload_n 3, 1) := by decide +kernel
theorem dL_law_704 : decode cL_law 704 = .ok (.iconst 3, 1) := by decide +kernel
theorem dL_law_705 : decode cL_law 705 = .ok (.iadd, 1) := by decide +kernel
theorem dL_law_706 : decode cL_law 706 = .ok (.iaload, 1) := by decide +kernel
theorem dL_law_707 : decode cL_law 707 = .ok (.ifCond .eq 7, 3) := by decide +kernel
theorem dL_law_710 : decode cL_law 710 = .ok (.iconst 1, 1) := by decide +kernel
theorem dL_law_711 : decode cL_law 711 = .ok (.goto 4, 3) := by decide +kernel
theorem dL_law_714 : decode cL_law 714 = .ok (.iconst 0, 1) := by decide +kernel
theorem dL_law_715 : decode cL_law 715 = .ok (.invokevirtual 105, 3) := by decide +kernel
theorem dL_law_718 : decode cL_law 718 = .ok (.aload_n 2, 1) := by decide +kernel
theorem dL_law_719 : decode cL_law 719 = .ok (.aload_n 0, 1) := by decide +kernel
theorem dL_law_720 : decode cL_law 720 = .ok (.iload_n 3, 1) := by decide +kernel
theorem dL_law_721 : decode cL_law 721 = .ok (.iconst 1, 1) := by decide +kernel
theorem dL_law_722 : decode cL_law 722 = .ok (.iadd, 1) := by decide +kernel
theorem dL_law_723 : decode cL_law 723 = .ok (.iaload, 1) := by decide +kernel
theorem dL_law_724 : decode cL_law 724 = .ok (.aload_n 0, 1) := by decide +kernel
theorem dL_law_725 : decode cL_law 725 = .ok (.iload_n 3, 1) := by decide +kernel
theorem dL_law_726 : decode cL_law 726 = .ok (.iconst 2, 1) := by decide +kernel
theorem dL_law_727 : decode cL_law 727 = .ok (.iadd, 1) := by decide +kernel
theorem dL_law_728 : decode cL_law 728 = .ok (.iaload, 1) := by decide +kernel
theorem dL_law_729 : decode cL_law 729 = .ok (.aload_n 0, 1) := by decide +kernel
theorem dL_law_730 : decode cL_law 730 = .ok (.iload_n 3, 1) := by decide +kernel
theorem dL_law_731 : decode cL_law 731 = .ok (.iconst 3, 1) := by decide +kernel
theorem dL_law_732 : decode cL_law 732 = .ok (.iadd, 1) := by decide +kernel
theorem dL_law_733 : decode cL_law 733 = .ok (.iaload, 1) := by decide +kernel
theorem dL_law_734 : decode cL_law 734 = .ok (.ifCond .eq 7, 3) := by decide +kernel
theorem dL_law_737 : decode cL_law 737 = .ok (.iconst 1, 1) := by decide +kernel
theorem dL_law_738 : decode cL_law 738 = .ok (.goto 4, 3) := by decide +kernel
theorem dL_law_741 : decode cL_law 741 = .ok (.iconst 0, 1) := by decide +kernel
theorem dL_law_742 : decode cL_law 742 = .ok (.invokevirtual 109, 3) := by decide +kernel
theorem dL_law_745 : decode cL_law 745 = .ok (.if_icmp .eq 128, 3) := by decide +kernel
theorem dL_law_748 : decode cL_law 748 = .ok (.iconst 0, 1) := by decide +kernel
theorem dL_law_749 : decode cL_law 749 = .ok (.ireturn, 1) := by decide +kernel
theorem dL_law_750 : decode cL_law 750 = .ok (.aload_n 1, 1) := by decide +kernel
theorem dL_law_751 : decode cL_law 751 = .ok (.aload_n 0, 1) := by decide +kernel
theorem dL_law_752 : decode cL_law 752 = .ok (.iload_n 3, 1) := by decide +kernel
theorem dL_law_753 : decode cL_law 753 = .ok (.iconst 1, 1) := by decide +kernel
theorem dL_law_754 : decode cL_law 754 = .ok (.iadd, 1) := by decide +kernel
theorem dL_law_755 : decode cL_law 755 = .ok (.iaload, 1) := by decide +kernel
theorem dL_law_756 : decode cL_law 756 = .ok (.i2l, 1) := by decide +kernel
theorem dL_law_757 : decode cL_law 757 = .ok (.bipush 32, 2) := by decide +kernel
theorem dL_law_759 : decode cL_law 759 = .ok (.lshl, 1) := by decide +kernel
theorem dL_law_760 : decode cL_law 760 = .ok (.aload_n 0, 1) := by decide +kernel
theorem dL_law_761 : decode cL_law 761 = .ok (.iload_n 3, 1) := by decide +kernel
theorem dL_law_762 : decode cL_law 762 = .ok (.iconst 2, 1) := by decide +kernel
theorem dL_law_763 : decode cL_law 763 = .ok (.iadd, 1) := by decide +kernel
theorem dL_law_764 : decode cL_law 764 = .ok (.iaload, 1) := by decide +kernel
theorem dL_law_765 : decode cL_law 765 = .ok (.i2l, 1) := by decide +kernel
theorem dL_law_766 : decode cL_law 766 = .ok (.ldc2_w 76, 3) := by decide +kernel
theorem dL_law_769 : decode cL_law 769 = .ok (.land, 1) := by decide +kernel
theorem dL_law_770 : decode cL_law 770 = .ok (.lor, 1) := by decide +kernel
theorem dL_law_771 : decode cL_law 771 = .ok (.invokevirtual 110, 3) := by decide +kernel
theorem dL_law_774 : decode cL_law 774 = .ok (.aload_n 2, 1) := by decide +kernel
theorem dL_law_775 : decode cL_law 775 = .ok (.aload_n 0, 1) := by decide +kernel
theorem dL_law_776 : decode cL_law 776 = .ok (.iload_n 3, 1) := by decide +kernel
theorem dL_law_777 : decode cL_law 777 = .ok (.iconst 1, 1) := by decide +kernel
theorem dL_law_778 : decode cL_law 778 = .ok (.iadd, 1) := by decide +kernel
theorem dL_law_779 : decode cL_law 779 = .ok (.iaload, 1) := by decide +kernel
theorem dL_law_780 : decode cL_law 780 = .ok (.i2l, 1) := by decide +kernel
theorem dL_law_781 : decode cL_law 781 = .ok (.bipush 32, 2) := by decide +kernel
theorem dL_law_783 : decode cL_law 783 = .ok (.lshl, 1) := by decide +kernel
theorem dL_law_784 : decode cL_law 784 = .ok (.aload_n 0, 1) := by decide +kernel
theorem dL_law_785 : decode cL_law 785 = .ok (.iload_n 3, 1) := by decide +kernel
theorem dL_law_786 : decode cL_law 786 = .ok (.iconst 2, 1) := by decide +kernel
theorem dL_law_787 : decode cL_law 787 = .ok (.iadd, 1) := by decide +kernel
theorem dL_law_788 : decode cL_law 788 = .ok (.iaload, 1) := by decide +kernel
theorem dL_law_789 : decode cL_law 789 = .ok (.i2l, 1) := by decide +kernel
theorem dL_law_790 : decode cL_law 790 = .ok (.ldc2_w 76, 3) := by decide +kernel
theorem dL_law_793 : decode cL_law 793 = .ok (.land, 1) := by decide +kernel
theorem dL_law_794 : decode cL_law 794 = .ok (.lor, 1) := by decide +kernel
theorem dL_law_795 : decode cL_law 795 = .ok (.invokevirtual 114, 3) := by decide +kernel
theorem dL_law_798 : decode cL_law 798 = .ok (.lcmp, 1) := by decide +kernel
theorem dL_law_799 : decode cL_law 799 = .ok (.ifCond .eq 74, 3) := by decide +kernel
theorem dL_law_802 : decode cL_law 802 = .ok (.iconst 0, 1) := by decide +kernel
theorem dL_law_803 : decode cL_law 803 = .ok (.ireturn, 1) := by decide +kernel
theorem dL_law_804 : decode cL_law 804 = .ok (.aload_n 1, 1) := by decide +kernel
theorem dL_law_805 : decode cL_law 805 = .ok (.aload_n 0, 1) := by decide +kernel
theorem dL_law_806 : decode cL_law 806 = .ok (.iload_n 3, 1) := by decide +kernel
theorem dL_law_807 : decode cL_law 807 = .ok (.iconst 1, 1) := by decide +kernel
theorem dL_law_808 : decode cL_law 808 = .ok (.iadd, 1) := by decide +kernel
theorem dL_law_809 : decode cL_law 809 = .ok (.iaload, 1) := by decide +kernel
theorem dL_law_810 : decode cL_law 810 = .ok (.invokevirtual 115, 3) := by decide +kernel
theorem dL_law_813 : decode cL_law 813 = .ok (.aload_n 2, 1) := by decide +kernel
theorem dL_law_814 : decode cL_law 814 = .ok (.aload_n 0, 1) := by decide +kernel
theorem dL_law_815 : decode cL_law 815 = .ok (.iload_n 3, 1) := by decide +kernel
theorem dL_law_816 : decode cL_law 816 = .ok (.iconst 1, 1) := by decide +kernel
theorem dL_law_817 : decode cL_law 817 = .ok (.iadd, 1) := by decide +kernel
theorem dL_law_818 : decode cL_law 818 = .ok (.iaload, 1) := by decide +kernel
theorem dL_law_819 : decode cL_law 819 = .ok (.invokevirtual 118, 3) := by decide +kernel
theorem dL_law_822 : decode cL_law 822 = .ok (.if_icmp .eq 51, 3) := by decide +kernel
theorem dL_law_825 : decode cL_law 825 = .ok (.iconst 0, 1) := by decide +kernel
theorem dL_law_826 : decode cL_law 826 = .ok (.ireturn, 1) := by decide +kernel
theorem dL_law_827 : decode cL_law 827 = .ok (.aload_n 1, 1) := by decide +kernel
theorem dL_law_828 : decode cL_law 828 = .ok (.aload_n 0, 1) := by decide +kernel
theorem dL_law_829 : decode cL_law 829 = .ok (.iload_n 3, 1) := by decide +kernel
theorem dL_law_830 : decode cL_law 830 = .ok (.iconst 1, 1) := by decide +kernel
theorem dL_law_831 : decode cL_law 831 = .ok (.iadd, 1) := by decide +kernel
theorem dL_law_832 : decode cL_law 832 = .ok (.iaload, 1) := by decide +kernel
theorem dL_law_833 : decode cL_law 833 = .ok (.invokevirtual 119, 3) := by decide +kernel
theorem dL_law_836 : decode cL_law 836 = .ok (.aload_n 2, 1) := by decide +kernel
theorem dL_law_837 : decode cL_law 837 = .ok (.aload_n 0, 1) := by decide +kernel
theorem dL_law_838 : decode cL_law 838 = .ok (.iload_n 3, 1) := by decide +kernel
theorem dL_law_839 : decode cL_law 839 = .ok (.iconst 1, 1) := by decide +kernel
theorem dL_law_840 : decode cL_law 840 = .ok (.iadd, 1) := by decide +kernel
theorem dL_law_841 : decode cL_law 841 = .ok (.iaload, 1) := by decide +kernel
theorem dL_law_842 : decode cL_law 842 = .ok (.invokevirtual 122, 3) := by decide +kernel
theorem dL_law_845 : decode cL_law 845 = .ok (.if_icmp .eq 28, 3) := by decide +kernel
theorem dL_law_848 : decode cL_law 848 = .ok (.iconst 0, 1) := by decide +kernel
theorem dL_law_849 : decode cL_law 849 = .ok (.ireturn, 1) := by decide +kernel
theorem dL_law_850 : decode cL_law 850 = .ok (.aload_n 1, 1) := by decide +kernel
theorem dL_law_851 : decode cL_law 851 = .ok (.aload_n 0, 1) := by decide +kernel
theorem dL_law_852 : decode cL_law 852 = .ok (.iload_n 3, 1) := by decide +kernel
theorem dL_law_853 : decode cL_law 853 = .ok (.iconst 1, 1) := by decide +kernel
theorem dL_law_854 : decode cL_law 854 = .ok (.iadd, 1) := by decide +kernel
theorem dL_law_855 : decode cL_law 855 = .ok (.iaload, 1) := by decide +kernel
theorem dL_law_856 : decode cL_law 856 = .ok (.invokevirtual 123, 3) := by decide +kernel
theorem dL_law_859 : decode cL_law 859 = .ok (.aload_n 2, 1) := by decide +kernel
theorem dL_law_860 : decode cL_law 860 = .ok (.aload_n 0, 1) := by decide +kernel
theorem dL_law_861 : decode cL_law 861 = .ok (.iload_n 3, 1) := by decide +kernel
theorem dL_law_862 : decode cL_law 862 = .ok (.iconst 1, 1) := by decide +kernel
theorem dL_law_863 : decode cL_law 863 = .ok (.iadd, 1) := by decide +kernel
theorem dL_law_864 : decode cL_law 864 = .ok (.iaload, 1) := by decide +kernel
theorem dL_law_865 : decode cL_law 865 = .ok (.invokevirtual 126, 3) := by decide +kernel
theorem dL_law_868 : decode cL_law 868 = .ok (.if_icmp .eq 5, 3) := by decide +kernel
theorem dL_law_871 : decode cL_law 871 = .ok (.iconst 0, 1) := by decide +kernel
theorem dL_law_872 : decode cL_law 872 = .ok (.ireturn, 1) := by decide +kernel
theorem dL_law_873 : decode cL_law 873 = .ok (.iinc 3 4, 3) := by decide +kernel
theorem dL_law_876 : decode cL_law 876 = .ok (.goto (-858), 3) := by decide +kernel
theorem dL_law_879 : decode cL_law 879 = .ok (.iconst 1, 1) := by decide +kernel
theorem dL_law_880 : decode cL_law 880 = .ok (.ireturn, 1) := by decide +kernel
end
section
/-! contracts over one table of words, and their calls -/
def wsM (y : MethodName) (cc : ByteArray) (nL : Nat) (rt : Option FieldType) : List Cond := .code y cc nL rt :: tb
theorem gdV {own C : String} {idx nL : Nat} {y : MethodName} {cc : ByteArray} {rt : Option FieldType} (h1 : Cond.methodLink own idx y ∈ tb) (h2 : Cond.instanceMethod y ∈ tb) (h3 : Cond.selects C y y ∈ tb) (h4 : Cond.initialized C ∈ tb) (h5 : Cond.code y cc nL rt ∈ tb) : GoodIn tb (wsV own idx C y (wsM y cc nL rt)) := by
  intro w hw
  have hm : w ∈ tb := by
    rcases List.mem_append.mp hw with h | h
    · simp only [List.mem_cons, List.not_mem_nil, or_false] at h
      rcases h with rfl | rfl | rfl | rfl
      · exact h1
      · exact h2
      · exact h3
      · exact h4
    · rcases List.mem_cons.mp h with rfl | h
      · exact h5
      · exact h
  exact ⟨hm, good_of_word (tb_good w hm)⟩
theorem gdS {own : String} {idx nL : Nat} {y : MethodName} {cc : ByteArray} {rt : Option FieldType} (h1 : Cond.methodLink own idx y ∈ tb) (h2 : Cond.static y ∈ tb) (h4 : Cond.initialized y.cls ∈ tb) (h5 : Cond.code y cc nL rt ∈ tb) : GoodIn tb (va_wsS own idx y (wsM y cc nL rt)) := by
  intro w hw
  have hm : w ∈ tb := by
    rcases List.mem_append.mp hw with h | h
    · simp only [List.mem_cons, List.not_mem_nil, or_false] at h
      rcases h with rfl | rfl | rfl
      · exact h1
      · exact h2
      · exact h4
    · rcases List.mem_cons.mp h with rfl | h
      · exact h5
      · exact h
  exact ⟨hm, good_of_word (tb_good w hm)⟩
theorem gdM {nL : Nat} {y : MethodName} {cc : ByteArray} {rt : Option FieldType} (h5 : Cond.code y cc nL rt ∈ tb) : GoodIn tb (wsM y cc nL rt) := by
  intro w hw
  have hm : w ∈ tb := by
    rcases List.mem_cons.mp hw with rfl | h
    · exact h5
    · exact h
  exact ⟨hm, good_of_word (tb_good w hm)⟩
def rmO (fr lc : Nat) : Room := { frames := fr, cells := 0, slots := 0, locals := lc }
def inW (w : va_W) : Nat → Prop := fun q => ∃ (k : Nat) (e : va_E), w[k]? = some (q, e)
theorem va_D.same {A : Nat → Prop} {w w' : va_W} (h : va_D A w) (e : w'.map Prod.fst = w.map Prod.fst) : va_D A w' := by
  have key : ∀ (k : Nat) (q : Nat × va_E), w'[k]? = some q → ∃ q0, w[k]? = some q0 ∧ q0.1 = q.1 := by
    intro k q hk
    have h1 : (w'.map Prod.fst)[k]? = some q.1 := by rw [List.getElem?_map, hk]; rfl
    rw [e, List.getElem?_map] at h1
    cases hw : w[k]? with
    | none => rw [hw] at h1; cases h1
    | some q0 => rw [hw] at h1; exact ⟨q0, rfl, Option.some.inj h1⟩
  refine ⟨fun i j x y hi hj hxy => ?_, fun k q hk => ?_⟩
  · obtain ⟨x0, h1, h2⟩ := key i x hi
    obtain ⟨y0, h3, h4⟩ := key j y hj
    exact h.1 i j x0 y0 h1 h3 (h2.trans (hxy.trans h4.symm))
  · obtain ⟨q0, h1, h2⟩ := key k q hk
    rw [← h2]
    exact h.2 k q0 h1
theorem va_D.inW {A : Nat → Prop} {w : va_W} (h : va_D A w) : va_D (inW w) w := ⟨h.1, fun k q hk => ⟨k, q.2, hk⟩⟩
/-- an int (or boolean) is answered, nothing is written -/
def RdI (l : Launch) (y : MethodName) (cc : ByteArray) (nL : Nat) (rt : FieldType) (fr lc : Nat) (D : va_G) (ty : List (ClassId × FieldType)) (w : va_W) (av : List Value) (r : Int32) : Prop :=
  Met l y (wsM y cc nL (some rt)) (rmO fr lc) (va_Pc av (fun U => va_P D vwCl w U.heap ∧ va_K D vwCl ty U)) (fun _ st oc t => oc = .returned (some (.int r)) ∧ t.heap = st.heap) 0 0 (fun _ => False)
def RdL (l : Launch) (y : MethodName) (cc : ByteArray) (nL : Nat) (fr lc : Nat) (D : va_G) (ty : List (ClassId × FieldType)) (w : va_W) (av : List Value) (r : Int64) : Prop :=
  Met l y (wsM y cc nL (some .long)) (rmO fr lc) (va_Pc av (fun U => va_P D vwCl w U.heap ∧ va_K D vwCl ty U)) (fun _ st oc t => oc = .returned (some (.long r)) ∧ t.heap = st.heap) 0 0 (fun _ => False)
/-- an int is answered, the world becomes w' -/
def WrI (l : Launch) (y : MethodName) (cc : ByteArray) (nL : Nat) (rt : FieldType) (fr lc : Nat) (D : va_G) (ty : List (ClassId × FieldType)) (w : va_W) (av : List Value) (r : Int32) (w' : va_W) : Prop :=
  Met l y (wsM y cc nL (some rt)) (rmO fr lc) (va_Pc av (fun U => va_P D vwCl w U.heap ∧ va_K D vwCl ty U ∧ va_D (fun _ => True) w)) (fun _ st oc t => oc = .returned (some (.int r)) ∧ va_P D vwCl w' t.heap ∧ va_F (inW w) st t) 0 0 (inW w)
def WrL (l : Launch) (y : MethodName) (cc : ByteArray) (nL : Nat) (fr lc : Nat) (D : va_G) (ty : List (ClassId × FieldType)) (w : va_W) (av : List Value) (r : Int64) (w' : va_W) : Prop :=
  Met l y (wsM y cc nL (some .long)) (rmO fr lc) (va_Pc av (fun U => va_P D vwCl w U.heap ∧ va_K D vwCl ty U ∧ va_D (fun _ => True) w)) (fun _ st oc t => oc = .returned (some (.long r)) ∧ va_P D vwCl w' t.heap ∧ va_F (inW w) st t) 0 0 (inW w)
def WrV (l : Launch) (y : MethodName) (cc : ByteArray) (nL : Nat) (fr lc : Nat) (D : va_G) (ty : List (ClassId × FieldType)) (w : va_W) (av : List Value) (w' : va_W) : Prop :=
  Met l y (wsM y cc nL none) (rmO fr lc) (va_Pc av (fun U => va_P D vwCl w U.heap ∧ va_K D vwCl ty U ∧ va_D (fun _ => True) w)) (fun _ st oc t => oc = .returned none ∧ va_P D vwCl w' t.heap ∧ va_F (inW w) st t) 0 0 (inW w)
section BASEOF
variable {l : Launch} {y : MethodName} {cc : ByteArray} {nL fr lc : Nat} {rt : FieldType} {D : va_G} {ty : List (ClassId × FieldType)} {w w' : va_W} {av : List Value}
theorem RdI.of {r : Int32} (hy : plainName y.cls = true) (hlen : (lg_sl av).length ≤ nL)
    (body : ∀ (p : Program) (e : Env) (s : State) (m : MethodId) (args : Array Value) (below : List Frame) (meth : Method) (c : Code) (Q : State → Prop), p.tables.exec = Jvm.exec → c.code = cc → c.maxLocals = nL → s.vm.findClass y.cls = some m.cls → (∀ w ∈ tb, w.before args s = true) → va_P D vwCl w s.heap → va_K D vwCl ty s →
      (∀ (pc : Nat) (ls : Array Slot), decode cc pc = .ok (.ireturn, 1) → narrow rt (.int r) = .int r → W p l e (rmO fr lc) s m args below meth c s.heap [] 0 0 Q (F0 m pc ls [.int r])) →
      ∀ ls : Array Slot, lv_has ls nL (lv_args 0 av) → W p l e (rmO fr lc) s m args below meth c s.heap [] 0 0 Q (F0 m 0 ls [])) : RdI l y cc nL rt fr lc D ty w av r := by
  refine Met.ofW (cc := cc) (maxL := nL) (ret := some rt) hy rfl ?_
  intro p e s m args below meth c s₁ B hml hv
  obtain ⟨rfl, hP, hK⟩ := hv
  have hts := atoms_spec (ws := wsM y cc nL (some rt)) B.pre
  have hl := lv_entry av (n := nL) hlen
  rw [lg_entry_eq]
  refine body p e s m _ below meth c _ B.exec B.bytes hml (findClass_of_methodNamed B.named) (fun w h => hts w (List.mem_cons_of_mem _ h)) hP hK ?_ _ hl
  intro pc ls hd hn
  exact W.zret (v := r) B.exec B.bytes B.returns hn (fun t ht hW => ⟨rfl, ht⟩) (fun q h => by cases h) hd B.notSynchronized
theorem RdL.of {r : Int64} (hy : plainName y.cls = true) (hlen : (lg_sl av).length ≤ nL)
    (body : ∀ (p : Program) (e : Env) (s : State) (m : MethodId) (args : Array Value) (below : List Frame) (meth : Method) (c : Code) (Q : State → Prop), p.tables.exec = Jvm.exec → c.code = cc → c.maxLocals = nL → s.vm.findClass y.cls = some m.cls → (∀ w ∈ tb, w.before args s = true) → va_P D vwCl w s.heap → va_K D vwCl ty s →
      (∀ (pc : Nat) (ls : Array Slot), decode cc pc = .ok (.lreturn, 1) → W p l e (rmO fr lc) s m args below meth c s.heap [] 0 0 Q (F0 m pc ls [.long r])) →
      ∀ ls : Array Slot, lv_has ls nL (lv_args 0 av) → W p l e (rmO fr lc) s m args below meth c s.heap [] 0 0 Q (F0 m 0 ls [])) : RdL l y cc nL fr lc D ty w av r := by
  refine Met.ofW (cc := cc) (maxL := nL) (ret := some .long) hy rfl ?_
  intro p e s m args below meth c s₁ B hml hv
  obtain ⟨rfl, hP, hK⟩ := hv
  have hts := atoms_spec (ws := wsM y cc nL (some .long)) B.pre
  have hl := lv_entry av (n := nL) hlen
  rw [lg_entry_eq]
  refine body p e s m _ below meth c _ B.exec B.bytes hml (findClass_of_methodNamed B.named) (fun w h => hts w (List.mem_cons_of_mem _ h)) hP hK ?_ _ hl
  intro pc ls hd
  exact W.lret (v := r) B.exec B.bytes B.returns (fun t ht hW => ⟨rfl, ht⟩) (fun q h => by cases h) hd B.notSynchronized
theorem WrI.of {r : Int32} (hy : plainName y.cls = true) (hlen : (lg_sl av).length ≤ nL)
    (body : ∀ (p : Program) (e : Env) (s : State) (m : MethodId) (args : Array Value) (below : List Frame) (meth : Method) (c : Code) (Q : State → Prop) (A : Nat → Prop), p.tables.exec = Jvm.exec → c.code = cc → c.maxLocals = nL → s.vm.findClass y.cls = some m.cls → (∀ w ∈ tb, w.before args s = true) → va_P D vwCl w s.heap → va_K D vwCl ty s → va_D A w → va_S A s.heap s.heap [] →
      (∀ (pc : Nat) (ls : Array Slot) (H : Heap) (locs : List Loc), decode cc pc = .ok (.ireturn, 1) → narrow rt (.int r) = .int r → va_P D vwCl w' H → va_S A s.heap H locs → W p l e (rmO fr lc) s m args below meth c H locs 0 0 Q (F0 m pc ls [.int r])) →
      ∀ ls : Array Slot, lv_has ls nL (lv_args 0 av) → W p l e (rmO fr lc) s m args below meth c s.heap [] 0 0 Q (F0 m 0 ls [])) : WrI l y cc nL rt fr lc D ty w av r w' := by
  refine Met.ofW (cc := cc) (maxL := nL) (ret := some rt) hy rfl ?_
  intro p e s m args below meth c s₁ B hml hv
  obtain ⟨rfl, hP, hK, hD⟩ := hv
  have hts := atoms_spec (ws := wsM y cc nL (some rt)) B.pre
  have hl := lv_entry av (n := nL) hlen
  rw [lg_entry_eq]
  refine body p e s m _ below meth c _ (inW w) B.exec B.bytes hml (findClass_of_methodNamed B.named) (fun w h => hts w (List.mem_cons_of_mem _ h)) hP hK hD.inW va_S.rf ?_ _ hl
  intro pc ls H locs hd hn hP1 hS1
  exact W.zret (v := r) B.exec B.bytes B.returns hn (fun t ht hW => ⟨rfl, by rw [ht]; exact hP1, hS1.F ht⟩) hS1.2.2 hd B.notSynchronized
theorem WrL.of {r : Int64} (hy : plainName y.cls = true) (hlen : (lg_sl av).length ≤ nL)
    (body : ∀ (p : Program) (e : Env) (s : State) (m : MethodId) (args : Array Value) (below : List Frame) (meth : Method) (c : Code) (Q : State → Prop) (A : Nat → Prop), p.tables.exec = Jvm.exec → c.code = cc → c.maxLocals = nL → s.vm.findClass y.cls = some m.cls → (∀ w ∈ tb, w.before args s = true) → va_P D vwCl w s.heap → va_K D vwCl ty s → va_D A w → va_S A s.heap s.heap [] →
      (∀ (pc : Nat) (ls : Array Slot) (H : Heap) (locs : List Loc), decode cc pc = .ok (.lreturn, 1) → va_P D vwCl w' H → va_S A s.heap H locs → W p l e (rmO fr lc) s m args below meth c H locs 0 0 Q (F0 m pc ls [.long r])) →
      ∀ ls : Array Slot, lv_has ls nL (lv_args 0 av) → W p l e (rmO fr lc) s m args below meth c s.heap [] 0 0 Q (F0 m 0 ls [])) : WrL l y cc nL fr lc D ty w av r w' := by
  refine Met.ofW (cc := cc) (maxL := nL) (ret := some .long) hy rfl ?_
  intro p e s m args below meth c s₁ B hml hv
  obtain ⟨rfl, hP, hK, hD⟩ := hv
  have hts := atoms_spec (ws := wsM y cc nL (some .long)) B.pre
  have hl := lv_entry av (n := nL) hlen
  rw [lg_entry_eq]
  refine body p e s m _ below meth c _ (inW w) B.exec B.bytes hml (findClass_of_methodNamed B.named) (fun w h => hts w (List.mem_cons_of_mem _ h)) hP hK hD.inW va_S.rf ?_ _ hl
  intro pc ls H locs hd hP1 hS1
  exact W.lret (v := r) B.exec B.bytes B.returns (fun t ht hW => ⟨rfl, by rw [ht]; exact hP1, hS1.F ht⟩) hS1.2.2 hd B.notSynchronized
theorem WrV.of (hy : plainName y.cls = true) (hlen : (lg_sl av).length ≤ nL)
    (body : ∀ (p : Program) (e : Env) (s : State) (m : MethodId) (args : Array Value) (below : List Frame) (meth : Method) (c : Code) (Q : State → Prop) (A : Nat → Prop), p.tables.exec = Jvm.exec → c.code = cc → c.maxLocals = nL → s.vm.findClass y.cls = some m.cls → (∀ w ∈ tb, w.before args s = true) → va_P D vwCl w s.heap → va_K D vwCl ty s → va_D A w → va_S A s.heap s.heap [] →
      (∀ (pc : Nat) (ls : Array Slot) (H : Heap) (locs : List Loc), decode cc pc = .ok (.return_, 1) → va_P D vwCl w' H → va_S A s.heap H locs → W p l e (rmO fr lc) s m args below meth c H locs 0 0 Q (F0 m pc ls [])) →
      ∀ ls : Array Slot, lv_has ls nL (lv_args 0 av) → W p l e (rmO fr lc) s m args below meth c s.heap [] 0 0 Q (F0 m 0 ls [])) : WrV l y cc nL fr lc D ty w av w' := by
  refine Met.ofW (cc := cc) (maxL := nL) (ret := none) hy rfl ?_
  intro p e s m args below meth c s₁ B hml hv
  obtain ⟨rfl, hP, hK, hD⟩ := hv
  have hts := atoms_spec (ws := wsM y cc nL none) B.pre
  have hl := lv_entry av (n := nL) hlen
  rw [lg_entry_eq]
  refine body p e s m _ below meth c _ (inW w) B.exec B.bytes hml (findClass_of_methodNamed B.named) (fun w h => hts w (List.mem_cons_of_mem _ h)) hP hK hD.inW va_S.rf ?_ _ hl
  intro pc ls H locs hd hP1 hS1
  exact W.vret B.exec B.bytes B.returns (fun t ht hW => ⟨rfl, by rw [ht]; exact hP1, hS1.F ht⟩) hS1.2.2 hd B.notSynchronized
end BASEOF
section BASECALL
variable {p : Program} {l : Launch} {e : Env} {R : Room} {s : State} {m : MethodId} {args : Array Value} {below : List Frame} {meth : Method} {c : Code} {H H0 : Heap} {locs : List Loc} {cells slots : Nat} {Q : State → Prop}
variable {cc0 cc : ByteArray} {own : String} {idx nL0 nL fr lc pc b : Nat} {y : MethodName} {rt : FieldType} {D : va_G} {ty : List (ClassId × FieldType)} {w w' : va_W} {As st0 rest : List Value} {ls : Array Slot} {A0 : Nat → Prop}
theorem lv_rw {x z : Int32} (h : x = z) (k : W p l e R s m args below meth c H locs cells slots Q (F0 m pc ls (.int z :: rest))) : W p l e R s m args below meth c H locs cells slots Q (F0 m pc ls (.int x :: rest)) := h ▸ k
theorem lv_rwl {x z : Int64} (h : x = z) (k : W p l e R s m args below meth c H locs cells slots Q (F0 m pc ls (.long z :: rest))) : W p l e R s m args below meth c H locs cells slots Q (F0 m pc ls (.long x :: rest)) := h ▸ k
theorem blindRd {av : List Value} : FrameBlind (va_Pc av (fun U => va_P D vwCl w U.heap ∧ va_K D vwCl ty U)) := by
  intro a U g mk q
  obtain ⟨q0, qP, qK⟩ := q
  exact ⟨q0, qP, va_K.moved (u := U) (U := U.calling g mk a) (Vm.Alike.refl U.vm) qK⟩
theorem blindWr {av : List Value} : FrameBlind (va_Pc av (fun U => va_P D vwCl w U.heap ∧ va_K D vwCl ty U ∧ va_D (fun _ => True) w)) := by
  intro a U g mk q
  obtain ⟨q0, qP, qK, qD⟩ := q
  exact ⟨q0, qP, va_K.moved (u := U) (U := U.calling g mk a) (Vm.Alike.refl U.vm) qK, qD⟩
theorem runRd {g : JFrame} {v0 : Value} (run : va_Run p l e R s m args below meth c H locs cells slots 0 0 g rest (fun st oc t => oc = .returned (some v0) ∧ t.heap = st.heap) (fun _ => False))
    (kk : W p l e R s m args below meth c H locs cells slots Q { g with pc := g.pc + 3, stack := v0 :: rest }) : W p l e R s m args below meth c H locs cells slots Q g := by
  intro T hT X
  obtain ⟨v, st₀, t, T', L, h0, X', hL, e1, e2, ⟨hv, hh⟩, st⟩ := run T hT X
  cases hv
  have hL0 : L = [] := by
    cases L with
    | nil => rfl
    | cons a L => exact (hL a List.mem_cons_self).elim
  subst hL0
  rw [List.append_nil] at X'
  obtain ⟨t2, a1, b1⟩ := kk T' (by rw [e1, hh, h0]) X'
  exact ⟨t2, st t2 a1, b1⟩
theorem runWr {g : JFrame} {v0 : Option Value} (run : va_Run p l e R s m args below meth c H locs cells slots 0 0 g rest (fun st oc t => oc = .returned v0 ∧ va_P D vwCl w' t.heap ∧ va_F (inW w) st t) (inW w)) (hD : va_D A0 w) (hS : va_S A0 H0 H locs)
    (kk : ∀ (H1 : Heap) (locs1 : List Loc), va_P D vwCl w' H1 → va_S A0 H0 H1 locs1 → W p l e R s m args below meth c H1 locs1 cells slots Q { g with pc := g.pc + 3, stack := v0.toList ++ rest }) : W p l e R s m args below meth c H locs cells slots Q g := by
  intro T hT X
  obtain ⟨v, st₀, t, T', L, h0, X', hL, e1, e2, ⟨hv, hP1, hz, hk⟩, st⟩ := run T hT X
  cases hv
  rw [h0] at hz hk
  have hin : ∀ q : Nat, inW w q → A0 q := fun q ⟨k, e, h⟩ => hD.2 k (q, e) h
  obtain ⟨t2, a1, b1⟩ := kk T'.heap (locs ++ L) (by rw [e1]; exact hP1)
    ⟨Nat.le_trans hS.1 (by rw [e1]; exact hz), fun q h1 h2 => by rw [e1, hk q (Nat.lt_of_lt_of_le h1 hS.1) (fun z => h2 (hin q z))]; exact hS.2.1 q h1 h2, fun q hq => by
      rcases List.mem_append.mp hq with h | h
      · exact hS.2.2 q h
      · exact hin _ (hL q h)⟩ T' rfl X'
  exact ⟨t2, st t2 a1, b1⟩
abbrev deOK (y : MethodName) (n : Nat) : Prop := y.cls ≠ "java/lang/invoke/MethodHandle" ∧ y.cls ≠ "java/lang/invoke/VarHandle" ∧ (parseMethodDescriptor y.desc).map (fun d => d.parameters.length) = some n
theorem sRdI {r : Int32} (F : CallFix p m c cc0 nL0 s args tb own) (hM : RdI l y cc nL rt fr lc D ty w As r) (g : GoodIn tb (va_wsS own idx y (wsM y cc nL (some rt)))) (hd : deOK y As.length) (hR : fr + 1 ≤ R.frames ∧ 8 + (nL + 11) + lc ≤ R.locals) (hP : va_P D vwCl w H) (hK : va_K D vwCl ty s) (hsz : ls.size = nL0) (hst : st0 = As.reverse ++ rest) (hroom : (rest.map fun v => v.category).sum ≤ 8) (hdg : decode cc0 pc = .ok (.invokestatic idx, 3)) (hc : cells ≤ R.cells ∧ slots ≤ R.slots)
    (kk : W p l e R s m args below meth c H locs cells slots Q (F0 m (pc + 3) ls (.int r :: rest))) : W p l e R s m args below meth c H locs cells slots Q (F0 m pc ls st0) :=
  runRd (g := F0 m pc ls st0) (va_runS (As := As) (rest := rest) F hM (va_cwS As.length F.2.2.2.2 g rfl rfl rfl hd hR) ⟨blindRd, fun U hU hW => ⟨rfl, by rw [hU]; exact hP, va_K.moved hW.alike hK⟩⟩ rfl rfl hsz hst (lv_room hroom) hdg hc) kk
theorem sRdL {r : Int64} (F : CallFix p m c cc0 nL0 s args tb own) (hM : RdL l y cc nL fr lc D ty w As r) (g : GoodIn tb (va_wsS own idx y (wsM y cc nL (some .long)))) (hd : deOK y As.length) (hR : fr + 1 ≤ R.frames ∧ 8 + (nL + 11) + lc ≤ R.locals) (hP : va_P D vwCl w H) (hK : va_K D vwCl ty s) (hsz : ls.size = nL0) (hst : st0 = As.reverse ++ rest) (hroom : (rest.map fun v => v.category).sum ≤ 8) (hdg : decode cc0 pc = .ok (.invokestatic idx, 3)) (hc : cells ≤ R.cells ∧ slots ≤ R.slots)
    (kk : W p l e R s m args below meth c H locs cells slots Q (F0 m (pc + 3) ls (.long r :: rest))) : W p l e R s m args below meth c H locs cells slots Q (F0 m pc ls st0) :=
  runRd (g := F0 m pc ls st0) (va_runS (As := As) (rest := rest) F hM (va_cwS As.length F.2.2.2.2 g rfl rfl rfl hd hR) ⟨blindRd, fun U hU hW => ⟨rfl, by rw [hU]; exact hP, va_K.moved hW.alike hK⟩⟩ rfl rfl hsz hst (lv_room hroom) hdg hc) kk
abbrev recvOK (s : State) (H : Heap) (C : String) (b : Addr) : Prop := ∃ cellB : Cell, H[b]? = some cellB ∧ cellB.vm.isStatics = false ∧ s.vm.findClass C = some cellB.cls
theorem vRdI {r : Int32} (F : CallFix p m c cc0 nL0 s args tb own) (hM : RdI l y cc nL rt fr lc D ty w (.ref b :: As) r) (g : GoodIn tb (wsV own idx y.cls y (wsM y cc nL (some rt)))) (hd : deOK y As.length) (hR : fr + 1 ≤ R.frames ∧ 8 + (nL + 11) + lc ≤ R.locals) (hP : va_P D vwCl w H) (hK : va_K D vwCl ty s) (hrc : recvOK s H y.cls b) (hsz : ls.size = nL0) (hst : st0 = As.reverse ++ .ref b :: rest) (hroom : (rest.map fun v => v.category).sum ≤ 8) (hdg : decode cc0 pc = .ok (.invokevirtual idx, 3)) (hc : cells ≤ R.cells ∧ slots ≤ R.slots)
    (kk : W p l e R s m args below meth c H locs cells slots Q (F0 m (pc + 3) ls (.int r :: rest))) : W p l e R s m args below meth c H locs cells slots Q (F0 m pc ls st0) :=
  runRd (g := F0 m pc ls st0) (va_runV (As := As) (rest := rest) (b := b) (C := y.cls) F hM (cwV As.length F.2.2.2.2 g rfl rfl rfl ⟨rfl, hd⟩ hR) ⟨blindRd, hrc, fun U hU hW => ⟨rfl, by rw [hU]; exact hP, va_K.moved hW.alike hK⟩⟩ rfl rfl hsz hst (lv_room hroom) hdg hc) kk
theorem vWrI {r : Int32} (F : CallFix p m c cc0 nL0 s args tb own) (hM : WrI l y cc nL rt fr lc D ty w (.ref b :: As) r w') (g : GoodIn tb (wsV own idx y.cls y (wsM y cc nL (some rt)))) (hd : deOK y As.length) (hR : fr + 1 ≤ R.frames ∧ 8 + (nL + 11) + lc ≤ R.locals) (hP : va_P D vwCl w H) (hK : va_K D vwCl ty s) (hrc : recvOK s H y.cls b) (hsz : ls.size = nL0) (hst : st0 = As.reverse ++ .ref b :: rest) (hroom : (rest.map fun v => v.category).sum ≤ 8) (hdg : decode cc0 pc = .ok (.invokevirtual idx, 3)) (hc : cells ≤ R.cells ∧ slots ≤ R.slots) (hD : va_D A0 w) (hS : va_S A0 H0 H locs)
    (kk : ∀ (H1 : Heap) (locs1 : List Loc), va_P D vwCl w' H1 → va_S A0 H0 H1 locs1 → W p l e R s m args below meth c H1 locs1 cells slots Q (F0 m (pc + 3) ls (.int r :: rest))) : W p l e R s m args below meth c H locs cells slots Q (F0 m pc ls st0) :=
  runWr (g := F0 m pc ls st0) (va_runV (As := As) (rest := rest) (b := b) (C := y.cls) F hM (cwV As.length F.2.2.2.2 g rfl rfl rfl ⟨rfl, hd⟩ hR) ⟨blindWr, hrc, fun U hU hW => ⟨rfl, by rw [hU]; exact hP, va_K.moved hW.alike hK, hD.weaken (fun _ _ _ _ => trivial)⟩⟩ rfl rfl hsz hst (lv_room hroom) hdg hc) hD hS kk
theorem vWrL {r : Int64} (F : CallFix p m c cc0 nL0 s args tb own) (hM : WrL l y cc nL fr lc D ty w (.ref b :: As) r w') (g : GoodIn tb (wsV own idx y.cls y (wsM y cc nL (some .long)))) (hd : deOK y As.length) (hR : fr + 1 ≤ R.frames ∧ 8 + (nL + 11) + lc ≤ R.locals) (hP : va_P D vwCl w H) (hK : va_K D vwCl ty s) (hrc : recvOK s H y.cls b) (hsz : ls.size = nL0) (hst : st0 = As.reverse ++ .ref b :: rest) (hroom : (rest.map fun v => v.category).sum ≤ 8) (hdg : decode cc0 pc = .ok (.invokevirtual idx, 3)) (hc : cells ≤ R.cells ∧ slots ≤ R.slots) (hD : va_D A0 w) (hS : va_S A0 H0 H locs)
    (kk : ∀ (H1 : Heap) (locs1 : List Loc), va_P D vwCl w' H1 → va_S A0 H0 H1 locs1 → W p l e R s m args below meth c H1 locs1 cells slots Q (F0 m (pc + 3) ls (.long r :: rest))) : W p l e R s m args below meth c H locs cells slots Q (F0 m pc ls st0) :=
  runWr (g := F0 m pc ls st0) (va_runV (As := As) (rest := rest) (b := b) (C := y.cls) F hM (cwV As.length F.2.2.2.2 g rfl rfl rfl ⟨rfl, hd⟩ hR) ⟨blindWr, hrc, fun U hU hW => ⟨rfl, by rw [hU]; exact hP, va_K.moved hW.alike hK, hD.weaken (fun _ _ _ _ => trivial)⟩⟩ rfl rfl hsz hst (lv_room hroom) hdg hc) hD hS kk
theorem vWrV (F : CallFix p m c cc0 nL0 s args tb own) (hM : WrV l y cc nL fr lc D ty w (.ref b :: As) w') (g : GoodIn tb (wsV own idx y.cls y (wsM y cc nL none))) (hd : deOK y As.length) (hR : fr + 1 ≤ R.frames ∧ 8 + (nL + 11) + lc ≤ R.locals) (hP : va_P D vwCl w H) (hK : va_K D vwCl ty s) (hrc : recvOK s H y.cls b) (hsz : ls.size = nL0) (hst : st0 = As.reverse ++ .ref b :: rest) (hroom : (rest.map fun v => v.category).sum ≤ 8) (hdg : decode cc0 pc = .ok (.invokevirtual idx, 3)) (hc : cells ≤ R.cells ∧ slots ≤ R.slots) (hD : va_D A0 w) (hS : va_S A0 H0 H locs)
    (kk : ∀ (H1 : Heap) (locs1 : List Loc), va_P D vwCl w' H1 → va_S A0 H0 H1 locs1 → W p l e R s m args below meth c H1 locs1 cells slots Q (F0 m (pc + 3) ls rest)) : W p l e R s m args below meth c H locs cells slots Q (F0 m pc ls st0) :=
  runWr (g := F0 m pc ls st0) (va_runV (As := As) (rest := rest) (b := b) (C := y.cls) F hM (cwV As.length F.2.2.2.2 g rfl rfl rfl ⟨rfl, hd⟩ hR) ⟨blindWr, hrc, fun U hU hW => ⟨rfl, by rw [hU]; exact hP, va_K.moved hW.alike hK, hD.weaken (fun _ _ _ _ => trivial)⟩⟩ rfl rfl hsz hst (lv_room hroom) hdg hc) hD hS kk
end BASECALL
end
section
def XW (cI cZ : ClassId) (q : Nat → Nat) (now rains length poles parts plain key stair air acnt tcnt : Int32) (letters cells kinds frames rainsB abouts stoods kept keptF keptR : Nat → Int32) (seed : Int64) : va_W := [(q 0, .inr (4, [.ref (q 1), .ref (q 2), .ref (q 3), .ref (q 4), .ref (q 12), .ref (q 13), .ref (q 14), .int now, .int rains, .long seed])), (q 1, .inr (2, [.ref (q 5), .int length])), (q 2, .inr (1, [.ref (q 6), .ref (q 7), .int poles, .int parts, .int plain, .int key, .int stair, .int air])), (q 3, .inr (0, [.ref (q 8), .ref (q 9), .int acnt])), (q 4, .inr (3, [.ref (q 10), .ref (q 11), .int tcnt])), (q 5, .inl (cI, 32, .inl letters)), (q 6, .inl (cI, 7, .inl cells)), (q 7, .inl (cI, 7, .inl kinds)), (q 8, .inl (cI, 14, .inl frames)), (q 9, .inl (cI, 14, .inl rainsB)), (q 10, .inl (cI, 6, .inl abouts)), (q 11, .inl (cZ, 6, .inl stoods)), (q 12, .inl (cZ, 2, .inl kept)), (q 13, .inl (cI, 2, .inl keptF)), (q 14, .inl (cI, 2, .inl keptR))]
theorem XW_0 {cI cZ : ClassId} {q : Nat → Nat} {now rains length poles parts plain key stair air acnt tcnt : Int32} {letters cells kinds frames rainsB abouts stoods kept keptF keptR : Nat → Int32} {seed : Int64} : (XW cI cZ q now rains length poles parts plain key stair air acnt tcnt letters cells kinds frames rainsB abouts stoods kept keptF keptR seed)[0]? = some (q 0, .inr (4, [.ref (q 1), .ref (q 2), .ref (q 3), .ref (q 4), .ref (q 12), .ref (q 13), .ref (q 14), .int now, .int rains, .long seed])) := rfl
theorem XW_1 {cI cZ : ClassId} {q : Nat → Nat} {now rains length poles parts plain key stair air acnt tcnt : Int32} {letters cells kinds frames rainsB abouts stoods kept keptF keptR : Nat → Int32} {seed : Int64} : (XW cI cZ q now rains length poles parts plain key stair air acnt tcnt letters cells kinds frames rainsB abouts stoods kept keptF keptR seed)[1]? = some (q 1, .inr (2, [.ref (q 5), .int length])) := rfl
theorem XW_2 {cI cZ : ClassId} {q : Nat → Nat} {now rains length poles parts plain key stair air acnt tcnt : Int32} {letters cells kinds frames rainsB abouts stoods kept keptF keptR : Nat → Int32} {seed : Int64} : (XW cI cZ q now rains length poles parts plain key stair air acnt tcnt letters cells kinds frames rainsB abouts stoods kept keptF keptR seed)[2]? = some (q 2, .inr (1, [.ref (q 6), .ref (q 7), .int poles, .int parts, .int plain, .int key, .int stair, .int air])) := rfl
theorem XW_3 {cI cZ : ClassId} {q : Nat → Nat} {now rains length poles parts plain key stair air acnt tcnt : Int32} {letters cells kinds frames rainsB abouts stoods kept keptF keptR : Nat → Int32} {seed : Int64} : (XW cI cZ q now rains length poles parts plain key stair air acnt tcnt letters cells kinds frames rainsB abouts stoods kept keptF keptR seed)[3]? = some (q 3, .inr (0, [.ref (q 8), .ref (q 9), .int acnt])) := rfl
theorem XW_4 {cI cZ : ClassId} {q : Nat → Nat} {now rains length poles parts plain key stair air acnt tcnt : Int32} {letters cells kinds frames rainsB abouts stoods kept keptF keptR : Nat → Int32} {seed : Int64} : (XW cI cZ q now rains length poles parts plain key stair air acnt tcnt letters cells kinds frames rainsB abouts stoods kept keptF keptR seed)[4]? = some (q 4, .inr (3, [.ref (q 10), .ref (q 11), .int tcnt])) := rfl
theorem XW_5 {cI cZ : ClassId} {q : Nat → Nat} {now rains length poles parts plain key stair air acnt tcnt : Int32} {letters cells kinds frames rainsB abouts stoods kept keptF keptR : Nat → Int32} {seed : Int64} : (XW cI cZ q now rains length poles parts plain key stair air acnt tcnt letters cells kinds frames rainsB abouts stoods kept keptF keptR seed)[5]? = some (q 5, .inl (cI, 32, .inl letters)) := rfl
theorem XW_6 {cI cZ : ClassId} {q : Nat → Nat} {now rains length poles parts plain key stair air acnt tcnt : Int32} {letters cells kinds frames rainsB abouts stoods kept keptF keptR : Nat → Int32} {seed : Int64} : (XW cI cZ q now rains length poles parts plain key stair air acnt tcnt letters cells kinds frames rainsB abouts stoods kept keptF keptR seed)[6]? = some (q 6, .inl (cI, 7, .inl cells)) := rfl
theorem XW_7 {cI cZ : ClassId} {q : Nat → Nat} {now rains length poles parts plain key stair air acnt tcnt : Int32} {letters cells kinds frames rainsB abouts stoods kept keptF keptR : Nat → Int32} {seed : Int64} : (XW cI cZ q now rains length poles parts plain key stair air acnt tcnt letters cells kinds frames rainsB abouts stoods kept keptF keptR seed)[7]? = some (q 7, .inl (cI, 7, .inl kinds)) := rfl
theorem XW_8 {cI cZ : ClassId} {q : Nat → Nat} {now rains length poles parts plain key stair air acnt tcnt : Int32} {letters cells kinds frames rainsB abouts stoods kept keptF keptR : Nat → Int32} {seed : Int64} : (XW cI cZ q now rains length poles parts plain key stair air acnt tcnt letters cells kinds frames rainsB abouts stoods kept keptF keptR seed)[8]? = some (q 8, .inl (cI, 14, .inl frames)) := rfl
theorem XW_9 {cI cZ : ClassId} {q : Nat → Nat} {now rains length poles parts plain key stair air acnt tcnt : Int32} {letters cells kinds frames rainsB abouts stoods kept keptF keptR : Nat → Int32} {seed : Int64} : (XW cI cZ q now rains length poles parts plain key stair air acnt tcnt letters cells kinds frames rainsB abouts stoods kept keptF keptR seed)[9]? = some (q 9, .inl (cI, 14, .inl rainsB)) := rfl
theorem XW_10 {cI cZ : ClassId} {q : Nat → Nat} {now rains length poles parts plain key stair air acnt tcnt : Int32} {letters cells kinds frames rainsB abouts stoods kept keptF keptR : Nat → Int32} {seed : Int64} : (XW cI cZ q now rains length poles parts plain key stair air acnt tcnt letters cells kinds frames rainsB abouts stoods kept keptF keptR seed)[10]? = some (q 10, .inl (cI, 6, .inl abouts)) := rfl
theorem XW_11 {cI cZ : ClassId} {q : Nat → Nat} {now rains length poles parts plain key stair air acnt tcnt : Int32} {letters cells kinds frames rainsB abouts stoods kept keptF keptR : Nat → Int32} {seed : Int64} : (XW cI cZ q now rains length poles parts plain key stair air acnt tcnt letters cells kinds frames rainsB abouts stoods kept keptF keptR seed)[11]? = some (q 11, .inl (cZ, 6, .inl stoods)) := rfl
theorem XW_12 {cI cZ : ClassId} {q : Nat → Nat} {now rains length poles parts plain key stair air acnt tcnt : Int32} {letters cells kinds frames rainsB abouts stoods kept keptF keptR : Nat → Int32} {seed : Int64} : (XW cI cZ q now rains length poles parts plain key stair air acnt tcnt letters cells kinds frames rainsB abouts stoods kept keptF keptR seed)[12]? = some (q 12, .inl (cZ, 2, .inl kept)) := rfl
theorem XW_13 {cI cZ : ClassId} {q : Nat → Nat} {now rains length poles parts plain key stair air acnt tcnt : Int32} {letters cells kinds frames rainsB abouts stoods kept keptF keptR : Nat → Int32} {seed : Int64} : (XW cI cZ q now rains length poles parts plain key stair air acnt tcnt letters cells kinds frames rainsB abouts stoods kept keptF keptR seed)[13]? = some (q 13, .inl (cI, 2, .inl keptF)) := rfl
theorem XW_14 {cI cZ : ClassId} {q : Nat → Nat} {now rains length poles parts plain key stair air acnt tcnt : Int32} {letters cells kinds frames rainsB abouts stoods kept keptF keptR : Nat → Int32} {seed : Int64} : (XW cI cZ q now rains length poles parts plain key stair air acnt tcnt letters cells kinds frames rainsB abouts stoods kept keptF keptR seed)[14]? = some (q 14, .inl (cI, 2, .inl keptR)) := rfl
def PW (cI cZ : ClassId) (q : Nat → Nat) (poles parts plain key stair air : Int32) (cells kinds : Nat → Int32) : va_W := [(q 2, .inr (1, [.ref (q 6), .ref (q 7), .int poles, .int parts, .int plain, .int key, .int stair, .int air])), (q 6, .inl (cI, 7, .inl cells)), (q 7, .inl (cI, 7, .inl kinds))]
theorem PW_0 {cI cZ : ClassId} {q : Nat → Nat} {poles parts plain key stair air : Int32} {cells kinds : Nat → Int32} : (PW cI cZ q poles parts plain key stair air cells kinds)[0]? = some (q 2, .inr (1, [.ref (q 6), .ref (q 7), .int poles, .int parts, .int plain, .int key, .int stair, .int air])) := rfl
theorem PW_1 {cI cZ : ClassId} {q : Nat → Nat} {poles parts plain key stair air : Int32} {cells kinds : Nat → Int32} : (PW cI cZ q poles parts plain key stair air cells kinds)[1]? = some (q 6, .inl (cI, 7, .inl cells)) := rfl
theorem PW_2 {cI cZ : ClassId} {q : Nat → Nat} {poles parts plain key stair air : Int32} {cells kinds : Nat → Int32} : (PW cI cZ q poles parts plain key stair air cells kinds)[2]? = some (q 7, .inl (cI, 7, .inl kinds)) := rfl
def TW (cI cZ : ClassId) (q : Nat → Nat) (length : Int32) (letters : Nat → Int32) : va_W := [(q 1, .inr (2, [.ref (q 5), .int length])), (q 5, .inl (cI, 32, .inl letters))]
theorem TW_0 {cI cZ : ClassId} {q : Nat → Nat} {length : Int32} {letters : Nat → Int32} : (TW cI cZ q length letters)[0]? = some (q 1, .inr (2, [.ref (q 5), .int length])) := rfl
theorem TW_1 {cI cZ : ClassId} {q : Nat → Nat} {length : Int32} {letters : Nat → Int32} : (TW cI cZ q length letters)[1]? = some (q 5, .inl (cI, 32, .inl letters)) := rfl
def AW (cI cZ : ClassId) (q : Nat → Nat) (acnt : Int32) (frames rainsB : Nat → Int32) : va_W := [(q 3, .inr (0, [.ref (q 8), .ref (q 9), .int acnt])), (q 8, .inl (cI, 14, .inl frames)), (q 9, .inl (cI, 14, .inl rainsB))]
theorem AW_0 {cI cZ : ClassId} {q : Nat → Nat} {acnt : Int32} {frames rainsB : Nat → Int32} : (AW cI cZ q acnt frames rainsB)[0]? = some (q 3, .inr (0, [.ref (q 8), .ref (q 9), .int acnt])) := rfl
theorem AW_1 {cI cZ : ClassId} {q : Nat → Nat} {acnt : Int32} {frames rainsB : Nat → Int32} : (AW cI cZ q acnt frames rainsB)[1]? = some (q 8, .inl (cI, 14, .inl frames)) := rfl
theorem AW_2 {cI cZ : ClassId} {q : Nat → Nat} {acnt : Int32} {frames rainsB : Nat → Int32} : (AW cI cZ q acnt frames rainsB)[2]? = some (q 9, .inl (cI, 14, .inl rainsB)) := rfl
def RW (cI cZ : ClassId) (q : Nat → Nat) (tcnt : Int32) (abouts stoods : Nat → Int32) : va_W := [(q 4, .inr (3, [.ref (q 10), .ref (q 11), .int tcnt])), (q 10, .inl (cI, 6, .inl abouts)), (q 11, .inl (cZ, 6, .inl stoods))]
theorem RW_0 {cI cZ : ClassId} {q : Nat → Nat} {tcnt : Int32} {abouts stoods : Nat → Int32} : (RW cI cZ q tcnt abouts stoods)[0]? = some (q 4, .inr (3, [.ref (q 10), .ref (q 11), .int tcnt])) := rfl
theorem RW_1 {cI cZ : ClassId} {q : Nat → Nat} {tcnt : Int32} {abouts stoods : Nat → Int32} : (RW cI cZ q tcnt abouts stoods)[1]? = some (q 10, .inl (cI, 6, .inl abouts)) := rfl
theorem RW_2 {cI cZ : ClassId} {q : Nat → Nat} {tcnt : Int32} {abouts stoods : Nat → Int32} : (RW cI cZ q tcnt abouts stoods)[2]? = some (q 11, .inl (cZ, 6, .inl stoods)) := rfl
def MW (cI cZ : ClassId) (q : Nat → Nat) (thrown textSize place stock parts readStock readCells readParts acts tried soonMany soonWhich kindMany kindFirst restMany restFirst : Int32) (text lies kind readPart page trial book kept isKept triedAbout triedIs gains value : Nat → Int32) (seed : Int64) : va_W := [(q 0, .inr (5, [.int thrown, .ref (q 1), .int textSize, .int place, .int stock, .int parts, .ref (q 2), .ref (q 3), .int readStock, .int readCells, .int readParts, .ref (q 4), .ref (q 5), .ref (q 6), .ref (q 7), .int acts, .ref (q 8), .ref (q 9), .int tried, .ref (q 10), .ref (q 11), .long seed, .int soonMany, .int soonWhich, .int kindMany, .int kindFirst, .int restMany, .int restFirst, .ref (q 12), .ref (q 13)])), (q 1, .inl (cI, 32, .inl text)), (q 2, .inl (cI, 7, .inl lies)), (q 3, .inl (cI, 7, .inl kind)), (q 4, .inl (cI, 14, .inl readPart)), (q 5, .inl (cI, 7, .inl page)), (q 6, .inl (cI, 7, .inl trial)), (q 7, .inl (cI, 98, .inl book)), (q 8, .inl (cI, 14, .inl kept)), (q 9, .inl (cZ, 2, .inl isKept)), (q 10, .inl (cI, 6, .inl triedAbout)), (q 11, .inl (cI, 6, .inl triedIs)), (q 12, .inl (cI, 18, .inl gains)), (q 13, .inl (cI, 128, .inl value))]
theorem MW_0 {cI cZ : ClassId} {q : Nat → Nat} {thrown textSize place stock parts readStock readCells readParts acts tried soonMany soonWhich kindMany kindFirst restMany restFirst : Int32} {text lies kind readPart page trial book kept isKept triedAbout triedIs gains value : Nat → Int32} {seed : Int64} : (MW cI cZ q thrown textSize place stock parts readStock readCells readParts acts tried soonMany soonWhich kindMany kindFirst restMany restFirst text lies kind readPart page trial book kept isKept triedAbout triedIs gains value seed)[0]? = some (q 0, .inr (5, [.int thrown, .ref (q 1), .int textSize, .int place, .int stock, .int parts, .ref (q 2), .ref (q 3), .int readStock, .int readCells, .int readParts, .ref (q 4), .ref (q 5), .ref (q 6), .ref (q 7), .int acts, .ref (q 8), .ref (q 9), .int tried, .ref (q 10), .ref (q 11), .long seed, .int soonMany, .int soonWhich, .int kindMany, .int kindFirst, .int restMany, .int restFirst, .ref (q 12), .ref (q 13)])) := rfl
theorem MW_1 {cI cZ : ClassId} {q : Nat → Nat} {thrown textSize place stock parts readStock readCells readParts acts tried soonMany soonWhich kindMany kindFirst restMany restFirst : Int32} {text lies kind readPart page trial book kept isKept triedAbout triedIs gains value : Nat → Int32} {seed : Int64} : (MW cI cZ q thrown textSize place stock parts readStock readCells readParts acts tried soonMany soonWhich kindMany kindFirst restMany restFirst text lies kind readPart page trial book kept isKept triedAbout triedIs gains value seed)[1]? = some (q 1, .inl (cI, 32, .inl text)) := rfl
theorem MW_2 {cI cZ : ClassId} {q : Nat → Nat} {thrown textSize place stock parts readStock readCells readParts acts tried soonMany soonWhich kindMany kindFirst restMany restFirst : Int32} {text lies kind readPart page trial book kept isKept triedAbout triedIs gains value : Nat → Int32} {seed : Int64} : (MW cI cZ q thrown textSize place stock parts readStock readCells readParts acts tried soonMany soonWhich kindMany kindFirst restMany restFirst text lies kind readPart page trial book kept isKept triedAbout triedIs gains value seed)[2]? = some (q 2, .inl (cI, 7, .inl lies)) := rfl
theorem MW_3 {cI cZ : ClassId} {q : Nat → Nat} {thrown textSize place stock parts readStock readCells readParts acts tried soonMany soonWhich kindMany kindFirst restMany restFirst : Int32} {text lies kind readPart page trial book kept isKept triedAbout triedIs gains value : Nat → Int32} {seed : Int64} : (MW cI cZ q thrown textSize place stock parts readStock readCells readParts acts tried soonMany soonWhich kindMany kindFirst restMany restFirst text lies kind readPart page trial book kept isKept triedAbout triedIs gains value seed)[3]? = some (q 3, .inl (cI, 7, .inl kind)) := rfl
theorem MW_4 {cI cZ : ClassId} {q : Nat → Nat} {thrown textSize place stock parts readStock readCells readParts acts tried soonMany soonWhich kindMany kindFirst restMany restFirst : Int32} {text lies kind readPart page trial book kept isKept triedAbout triedIs gains value : Nat → Int32} {seed : Int64} : (MW cI cZ q thrown textSize place stock parts readStock readCells readParts acts tried soonMany soonWhich kindMany kindFirst restMany restFirst text lies kind readPart page trial book kept isKept triedAbout triedIs gains value seed)[4]? = some (q 4, .inl (cI, 14, .inl readPart)) := rfl
theorem MW_5 {cI cZ : ClassId} {q : Nat → Nat} {thrown textSize place stock parts readStock readCells readParts acts tried soonMany soonWhich kindMany kindFirst restMany restFirst : Int32} {text lies kind readPart page trial book kept isKept triedAbout triedIs gains value : Nat → Int32} {seed : Int64} : (MW cI cZ q thrown textSize place stock parts readStock readCells readParts acts tried soonMany soonWhich kindMany kindFirst restMany restFirst text lies kind readPart page trial book kept isKept triedAbout triedIs gains value seed)[5]? = some (q 5, .inl (cI, 7, .inl page)) := rfl
theorem MW_6 {cI cZ : ClassId} {q : Nat → Nat} {thrown textSize place stock parts readStock readCells readParts acts tried soonMany soonWhich kindMany kindFirst restMany restFirst : Int32} {text lies kind readPart page trial book kept isKept triedAbout triedIs gains value : Nat → Int32} {seed : Int64} : (MW cI cZ q thrown textSize place stock parts readStock readCells readParts acts tried soonMany soonWhich kindMany kindFirst restMany restFirst text lies kind readPart page trial book kept isKept triedAbout triedIs gains value seed)[6]? = some (q 6, .inl (cI, 7, .inl trial)) := rfl
theorem MW_7 {cI cZ : ClassId} {q : Nat → Nat} {thrown textSize place stock parts readStock readCells readParts acts tried soonMany soonWhich kindMany kindFirst restMany restFirst : Int32} {text lies kind readPart page trial book kept isKept triedAbout triedIs gains value : Nat → Int32} {seed : Int64} : (MW cI cZ q thrown textSize place stock parts readStock readCells readParts acts tried soonMany soonWhich kindMany kindFirst restMany restFirst text lies kind readPart page trial book kept isKept triedAbout triedIs gains value seed)[7]? = some (q 7, .inl (cI, 98, .inl book)) := rfl
theorem MW_8 {cI cZ : ClassId} {q : Nat → Nat} {thrown textSize place stock parts readStock readCells readParts acts tried soonMany soonWhich kindMany kindFirst restMany restFirst : Int32} {text lies kind readPart page trial book kept isKept triedAbout triedIs gains value : Nat → Int32} {seed : Int64} : (MW cI cZ q thrown textSize place stock parts readStock readCells readParts acts tried soonMany soonWhich kindMany kindFirst restMany restFirst text lies kind readPart page trial book kept isKept triedAbout triedIs gains value seed)[8]? = some (q 8, .inl (cI, 14, .inl kept)) := rfl
theorem MW_9 {cI cZ : ClassId} {q : Nat → Nat} {thrown textSize place stock parts readStock readCells readParts acts tried soonMany soonWhich kindMany kindFirst restMany restFirst : Int32} {text lies kind readPart page trial book kept isKept triedAbout triedIs gains value : Nat → Int32} {seed : Int64} : (MW cI cZ q thrown textSize place stock parts readStock readCells readParts acts tried soonMany soonWhich kindMany kindFirst restMany restFirst text lies kind readPart page trial book kept isKept triedAbout triedIs gains value seed)[9]? = some (q 9, .inl (cZ, 2, .inl isKept)) := rfl
theorem MW_10 {cI cZ : ClassId} {q : Nat → Nat} {thrown textSize place stock parts readStock readCells readParts acts tried soonMany soonWhich kindMany kindFirst restMany restFirst : Int32} {text lies kind readPart page trial book kept isKept triedAbout triedIs gains value : Nat → Int32} {seed : Int64} : (MW cI cZ q thrown textSize place stock parts readStock readCells readParts acts tried soonMany soonWhich kindMany kindFirst restMany restFirst text lies kind readPart page trial book kept isKept triedAbout triedIs gains value seed)[10]? = some (q 10, .inl (cI, 6, .inl triedAbout)) := rfl
theorem MW_11 {cI cZ : ClassId} {q : Nat → Nat} {thrown textSize place stock parts readStock readCells readParts acts tried soonMany soonWhich kindMany kindFirst restMany restFirst : Int32} {text lies kind readPart page trial book kept isKept triedAbout triedIs gains value : Nat → Int32} {seed : Int64} : (MW cI cZ q thrown textSize place stock parts readStock readCells readParts acts tried soonMany soonWhich kindMany kindFirst restMany restFirst text lies kind readPart page trial book kept isKept triedAbout triedIs gains value seed)[11]? = some (q 11, .inl (cI, 6, .inl triedIs)) := rfl
theorem MW_12 {cI cZ : ClassId} {q : Nat → Nat} {thrown textSize place stock parts readStock readCells readParts acts tried soonMany soonWhich kindMany kindFirst restMany restFirst : Int32} {text lies kind readPart page trial book kept isKept triedAbout triedIs gains value : Nat → Int32} {seed : Int64} : (MW cI cZ q thrown textSize place stock parts readStock readCells readParts acts tried soonMany soonWhich kindMany kindFirst restMany restFirst text lies kind readPart page trial book kept isKept triedAbout triedIs gains value seed)[12]? = some (q 12, .inl (cI, 18, .inl gains)) := rfl
theorem MW_13 {cI cZ : ClassId} {q : Nat → Nat} {thrown textSize place stock parts readStock readCells readParts acts tried soonMany soonWhich kindMany kindFirst restMany restFirst : Int32} {text lies kind readPart page trial book kept isKept triedAbout triedIs gains value : Nat → Int32} {seed : Int64} : (MW cI cZ q thrown textSize place stock parts readStock readCells readParts acts tried soonMany soonWhich kindMany kindFirst restMany restFirst text lies kind readPart page trial book kept isKept triedAbout triedIs gains value seed)[13]? = some (q 13, .inl (cI, 128, .inl value)) := rfl
theorem XW_P {D : va_G} {H : Heap} {cI cZ : ClassId} {q : Nat → Nat} {now rains length poles parts plain key stair air acnt tcnt : Int32} {letters cells kinds frames rainsB abouts stoods kept keptF keptR : Nat → Int32} {seed : Int64} (h : va_P D vwCl (XW cI cZ q now rains length poles parts plain key stair air acnt tcnt letters cells kinds frames rainsB abouts stoods kept keptF keptR seed) H) : va_P D vwCl (PW cI cZ q poles parts plain key stair air cells kinds) H := h.sub [2, 6, 7] rfl
theorem XW_T {D : va_G} {H : Heap} {cI cZ : ClassId} {q : Nat → Nat} {now rains length poles parts plain key stair air acnt tcnt : Int32} {letters cells kinds frames rainsB abouts stoods kept keptF keptR : Nat → Int32} {seed : Int64} (h : va_P D vwCl (XW cI cZ q now rains length poles parts plain key stair air acnt tcnt letters cells kinds frames rainsB abouts stoods kept keptF keptR seed) H) : va_P D vwCl (TW cI cZ q length letters) H := h.sub [1, 5] rfl
theorem XW_A {D : va_G} {H : Heap} {cI cZ : ClassId} {q : Nat → Nat} {now rains length poles parts plain key stair air acnt tcnt : Int32} {letters cells kinds frames rainsB abouts stoods kept keptF keptR : Nat → Int32} {seed : Int64} (h : va_P D vwCl (XW cI cZ q now rains length poles parts plain key stair air acnt tcnt letters cells kinds frames rainsB abouts stoods kept keptF keptR seed) H) : va_P D vwCl (AW cI cZ q acnt frames rainsB) H := h.sub [3, 8, 9] rfl
theorem XW_R {D : va_G} {H : Heap} {cI cZ : ClassId} {q : Nat → Nat} {now rains length poles parts plain key stair air acnt tcnt : Int32} {letters cells kinds frames rainsB abouts stoods kept keptF keptR : Nat → Int32} {seed : Int64} (h : va_P D vwCl (XW cI cZ q now rains length poles parts plain key stair air acnt tcnt letters cells kinds frames rainsB abouts stoods kept keptF keptR seed) H) : va_P D vwCl (RW cI cZ q tcnt abouts stoods) H := h.sub [4, 10, 11] rfl
abbrev tyL (cI cZ : ClassId) : List (ClassId × FieldType) := [(cI, .int), (cZ, .boolean)]
theorem va_P_nil {D : va_G} {H : Heap} : va_P D vwCl [] H := fun k q h => by simp at h
theorem cl_0 : (0 : Int32).toNatClampNeg = 0 := by decide +kernel
theorem cl_1 : (1 : Int32).toNatClampNeg = 1 := by decide +kernel
theorem cl_2 : (2 : Int32).toNatClampNeg = 2 := by decide +kernel
theorem cl_3 : (3 : Int32).toNatClampNeg = 3 := by decide +kernel
theorem cl_4 : (4 : Int32).toNatClampNeg = 4 := by decide +kernel
theorem cl_5 : (5 : Int32).toNatClampNeg = 5 := by decide +kernel
theorem cl_6 : (6 : Int32).toNatClampNeg = 6 := by decide +kernel
theorem cl_7 : (7 : Int32).toNatClampNeg = 7 := by decide +kernel
theorem cl_8 : (8 : Int32).toNatClampNeg = 8 := by decide +kernel
theorem cl_9 : (9 : Int32).toNatClampNeg = 9 := by decide +kernel
theorem cl_10 : (10 : Int32).toNatClampNeg = 10 := by decide +kernel
theorem cl_11 : (11 : Int32).toNatClampNeg = 11 := by decide +kernel
theorem cl_12 : (12 : Int32).toNatClampNeg = 12 := by decide +kernel
theorem cl_13 : (13 : Int32).toNatClampNeg = 13 := by decide +kernel
theorem cl_14 : (14 : Int32).toNatClampNeg = 14 := by decide +kernel
theorem cl_15 : (15 : Int32).toNatClampNeg = 15 := by decide +kernel
theorem cl_16 : (16 : Int32).toNatClampNeg = 16 := by decide +kernel
theorem cl_17 : (17 : Int32).toNatClampNeg = 17 := by decide +kernel
theorem cl_18 : (18 : Int32).toNatClampNeg = 18 := by decide +kernel
theorem cl_19 : (19 : Int32).toNatClampNeg = 19 := by decide +kernel
theorem cl_20 : (20 : Int32).toNatClampNeg = 20 := by decide +kernel
theorem cl_21 : (21 : Int32).toNatClampNeg = 21 := by decide +kernel
theorem cl_22 : (22 : Int32).toNatClampNeg = 22 := by decide +kernel
theorem cl_23 : (23 : Int32).toNatClampNeg = 23 := by decide +kernel
theorem cl_24 : (24 : Int32).toNatClampNeg = 24 := by decide +kernel
theorem cl_25 : (25 : Int32).toNatClampNeg = 25 := by decide +kernel
theorem cl_26 : (26 : Int32).toNatClampNeg = 26 := by decide +kernel
theorem cl_27 : (27 : Int32).toNatClampNeg = 27 := by decide +kernel
theorem cl_28 : (28 : Int32).toNatClampNeg = 28 := by decide +kernel
theorem cl_29 : (29 : Int32).toNatClampNeg = 29 := by decide +kernel
theorem cl_30 : (30 : Int32).toNatClampNeg = 30 := by decide +kernel
theorem cl_31 : (31 : Int32).toNatClampNeg = 31 := by decide +kernel
theorem cl_32 : (32 : Int32).toNatClampNeg = 32 := by decide +kernel
theorem cl_33 : (33 : Int32).toNatClampNeg = 33 := by decide +kernel
theorem cl_34 : (34 : Int32).toNatClampNeg = 34 := by decide +kernel
theorem cl_35 : (35 : Int32).toNatClampNeg = 35 := by decide +kernel
theorem cl_36 : (36 : Int32).toNatClampNeg = 36 := by decide +kernel
theorem cl_37 : (37 : Int32).toNatClampNeg = 37 := by decide +kernel
theorem cl_38 : (38 : Int32).toNatClampNeg = 38 := by decide +kernel
theorem cl_39 : (39 : Int32).toNatClampNeg = 39 := by decide +kernel
theorem cl_40 : (40 : Int32).toNatClampNeg = 40 := by decide +kernel
theorem cl_41 : (41 : Int32).toNatClampNeg = 41 := by decide +kernel
theorem cl_42 : (42 : Int32).toNatClampNeg = 42 := by decide +kernel
theorem cl_43 : (43 : Int32).toNatClampNeg = 43 := by decide +kernel
theorem cl_44 : (44 : Int32).toNatClampNeg = 44 := by decide +kernel
theorem cl_45 : (45 : Int32).toNatClampNeg = 45 := by decide +kernel
theorem cl_46 : (46 : Int32).toNatClampNeg = 46 := by decide +kernel
theorem cl_47 : (47 : Int32).toNatClampNeg = 47 := by decide +kernel
theorem cl_48 : (48 : Int32).toNatClampNeg = 48 := by decide +kernel
theorem cl_49 : (49 : Int32).toNatClampNeg = 49 := by decide +kernel
theorem cl_50 : (50 : Int32).toNatClampNeg = 50 := by decide +kernel
theorem cl_51 : (51 : Int32).toNatClampNeg = 51 := by decide +kernel
theorem cl_52 : (52 : Int32).toNatClampNeg = 52 := by decide +kernel
theorem cl_53 : (53 : Int32).toNatClampNeg = 53 := by decide +kernel
theorem cl_54 : (54 : Int32).toNatClampNeg = 54 := by decide +kernel
theorem cl_55 : (55 : Int32).toNatClampNeg = 55 := by decide +kernel
theorem cl_56 : (56 : Int32).toNatClampNeg = 56 := by decide +kernel
theorem cl_57 : (57 : Int32).toNatClampNeg = 57 := by decide +kernel
theorem cl_58 : (58 : Int32).toNatClampNeg = 58 := by decide +kernel
theorem cl_59 : (59 : Int32).toNatClampNeg = 59 := by decide +kernel
theorem cl_60 : (60 : Int32).toNatClampNeg = 60 := by decide +kernel
theorem cl_61 : (61 : Int32).toNatClampNeg = 61 := by decide +kernel
theorem cl_62 : (62 : Int32).toNatClampNeg = 62 := by decide +kernel
theorem cl_63 : (63 : Int32).toNatClampNeg = 63 := by decide +kernel
theorem cl_64 : (64 : Int32).toNatClampNeg = 64 := by decide +kernel
theorem cl_65 : (65 : Int32).toNatClampNeg = 65 := by decide +kernel
theorem cl_66 : (66 : Int32).toNatClampNeg = 66 := by decide +kernel
theorem cl_67 : (67 : Int32).toNatClampNeg = 67 := by decide +kernel
theorem cl_68 : (68 : Int32).toNatClampNeg = 68 := by decide +kernel
theorem cl_69 : (69 : Int32).toNatClampNeg = 69 := by decide +kernel
theorem cl_70 : (70 : Int32).toNatClampNeg = 70 := by decide +kernel
theorem cl_71 : (71 : Int32).toNatClampNeg = 71 := by decide +kernel
theorem cl_72 : (72 : Int32).toNatClampNeg = 72 := by decide +kernel
theorem cl_73 : (73 : Int32).toNatClampNeg = 73 := by decide +kernel
theorem cl_74 : (74 : Int32).toNatClampNeg = 74 := by decide +kernel
theorem cl_75 : (75 : Int32).toNatClampNeg = 75 := by decide +kernel
theorem cl_76 : (76 : Int32).toNatClampNeg = 76 := by decide +kernel
theorem cl_77 : (77 : Int32).toNatClampNeg = 77 := by decide +kernel
theorem cl_78 : (78 : Int32).toNatClampNeg = 78 := by decide +kernel
theorem cl_79 : (79 : Int32).toNatClampNeg = 79 := by decide +kernel
theorem cl_80 : (80 : Int32).toNatClampNeg = 80 := by decide +kernel
theorem cl_81 : (81 : Int32).toNatClampNeg = 81 := by decide +kernel
theorem cl_82 : (82 : Int32).toNatClampNeg = 82 := by decide +kernel
theorem cl_83 : (83 : Int32).toNatClampNeg = 83 := by decide +kernel
theorem cl_84 : (84 : Int32).toNatClampNeg = 84 := by decide +kernel
theorem cl_85 : (85 : Int32).toNatClampNeg = 85 := by decide +kernel
theorem cl_86 : (86 : Int32).toNatClampNeg = 86 := by decide +kernel
theorem cl_87 : (87 : Int32).toNatClampNeg = 87 := by decide +kernel
theorem cl_88 : (88 : Int32).toNatClampNeg = 88 := by decide +kernel
theorem cl_89 : (89 : Int32).toNatClampNeg = 89 := by decide +kernel
theorem cl_90 : (90 : Int32).toNatClampNeg = 90 := by decide +kernel
theorem cl_91 : (91 : Int32).toNatClampNeg = 91 := by decide +kernel
theorem cl_92 : (92 : Int32).toNatClampNeg = 92 := by decide +kernel
theorem cl_93 : (93 : Int32).toNatClampNeg = 93 := by decide +kernel
theorem cl_94 : (94 : Int32).toNatClampNeg = 94 := by decide +kernel
theorem cl_95 : (95 : Int32).toNatClampNeg = 95 := by decide +kernel
theorem cl_96 : (96 : Int32).toNatClampNeg = 96 := by decide +kernel
theorem cl_97 : (97 : Int32).toNatClampNeg = 97 := by decide +kernel
theorem cl_98 : (98 : Int32).toNatClampNeg = 98 := by decide +kernel
theorem cl_99 : (99 : Int32).toNatClampNeg = 99 := by decide +kernel
theorem cl_100 : (100 : Int32).toNatClampNeg = 100 := by decide +kernel
theorem cl_101 : (101 : Int32).toNatClampNeg = 101 := by decide +kernel
theorem cl_102 : (102 : Int32).toNatClampNeg = 102 := by decide +kernel
theorem cl_103 : (103 : Int32).toNatClampNeg = 103 := by decide +kernel
theorem cl_104 : (104 : Int32).toNatClampNeg = 104 := by decide +kernel
theorem cl_105 : (105 : Int32).toNatClampNeg = 105 := by decide +kernel
theorem cl_106 : (106 : Int32).toNatClampNeg = 106 := by decide +kernel
theorem cl_107 : (107 : Int32).toNatClampNeg = 107 := by decide +kernel
theorem cl_108 : (108 : Int32).toNatClampNeg = 108 := by decide +kernel
theorem cl_109 : (109 : Int32).toNatClampNeg = 109 := by decide +kernel
theorem cl_110 : (110 : Int32).toNatClampNeg = 110 := by decide +kernel
theorem cl_111 : (111 : Int32).toNatClampNeg = 111 := by decide +kernel
theorem cl_112 : (112 : Int32).toNatClampNeg = 112 := by decide +kernel
theorem cl_113 : (113 : Int32).toNatClampNeg = 113 := by decide +kernel
theorem cl_114 : (114 : Int32).toNatClampNeg = 114 := by decide +kernel
theorem cl_115 : (115 : Int32).toNatClampNeg = 115 := by decide +kernel
theorem cl_116 : (116 : Int32).toNatClampNeg = 116 := by decide +kernel
theorem cl_117 : (117 : Int32).toNatClampNeg = 117 := by decide +kernel
theorem cl_118 : (118 : Int32).toNatClampNeg = 118 := by decide +kernel
theorem cl_119 : (119 : Int32).toNatClampNeg = 119 := by decide +kernel
theorem cl_120 : (120 : Int32).toNatClampNeg = 120 := by decide +kernel
theorem cl_121 : (121 : Int32).toNatClampNeg = 121 := by decide +kernel
theorem cl_122 : (122 : Int32).toNatClampNeg = 122 := by decide +kernel
theorem cl_123 : (123 : Int32).toNatClampNeg = 123 := by decide +kernel
theorem cl_124 : (124 : Int32).toNatClampNeg = 124 := by decide +kernel
theorem cl_125 : (125 : Int32).toNatClampNeg = 125 := by decide +kernel
theorem cl_126 : (126 : Int32).toNatClampNeg = 126 := by decide +kernel
theorem cl_127 : (127 : Int32).toNatClampNeg = 127 := by decide +kernel
theorem nI_up (i : Nat) : nI i + Int32.ofInt 1 = nI (i + 1) := nI_1 i
def jr (x y : Int32) : Int32 := x - x / y * y
def jrl (x y : Int64) : Int64 := x - x / y * y
def shl (x y : Int32) : Int32 := x <<< (y &&& 31)
def shr (x y : Int32) : Int32 := x >>> (y &&& 31)
def ush (x y : Int32) : Int32 := (x.toUInt32 >>> (y.toUInt32 &&& Int32.toUInt32 31)).toInt32
def ushl (x : Int64) (y : Int32) : Int64 := (x.toUInt64 >>> (y.toInt64.toUInt64 &&& Int64.toUInt64 63)).toInt64
theorem tbX0 : ∀ w ∈ u_ws RX0 TX0 3, w ∈ tb := by decide +kernel
theorem tbX2 : ∀ w ∈ u_ws RX2 TX2 8, w ∈ tb := by decide +kernel
theorem tbX3 : ∀ w ∈ u_ws RX3 TX3 2, w ∈ tb := by decide +kernel
theorem tbX4 : ∀ w ∈ u_ws RX4 TX4 3, w ∈ tb := by decide +kernel
theorem tbX5 : ∀ w ∈ u_ws RX5 TX5 10, w ∈ tb := by decide +kernel
theorem tbX6 : ∀ w ∈ u_ws RX6 TX6 30, w ∈ tb := by decide +kernel
end
section
theorem vi_a {x b : Int32} {n : Nat} (hb : b.toInt = (n : Int)) (h0 : ¬ x < 0) (h : x < b) : vp_in x n := by
  rw [vp_in_iff]
  rw [Int32.lt_iff_toInt_lt] at h0 h
  have e : (0 : Int32).toInt = 0 := by decide
  omega
theorem vi_b {x b : Int32} {n : Nat} (hb : b.toInt = (n : Int)) (h0 : ¬ x < 0) (h : ¬ b ≤ x) : vp_in x n := by
  rw [vp_in_iff]
  rw [Int32.lt_iff_toInt_lt] at h0
  rw [Int32.le_iff_toInt_le] at h
  have e : (0 : Int32).toInt = 0 := by decide
  omega
theorem i_rng (x : Int32) : -2147483648 ≤ x.toInt ∧ x.toInt < 2147483648 := by
  have h1 := Int32.le_toInt x
  have h2 := Int32.toInt_lt x
  omega
theorem i_bmod {z : Int} (h1 : -2147483648 ≤ z) (h2 : z < 2147483648) : z.bmod (2 ^ 32) = z := by
  rw [Int.bmod_def]; omega
theorem i_sub {x y : Int32} (h1 : -2147483648 ≤ x.toInt - y.toInt) (h2 : x.toInt - y.toInt < 2147483648) : (x - y).toInt = x.toInt - y.toInt := by
  rw [Int32.toInt_sub, i_bmod h1 h2]
theorem i_add {x y : Int32} (h1 : -2147483648 ≤ x.toInt + y.toInt) (h2 : x.toInt + y.toInt < 2147483648) : (x + y).toInt = x.toInt + y.toInt := by
  rw [Int32.toInt_add, i_bmod h1 h2]
theorem vi_c {x b : Int32} {n : Nat} (hb : b.toInt = (n : Int)) (h0 : ¬ x ≤ 0) (h : ¬ b < x) : vp_in (x - 1) n := by
  rw [vp_in_iff]
  rw [Int32.le_iff_toInt_le] at h0
  rw [Int32.lt_iff_toInt_lt] at h
  have e : (0 : Int32).toInt = 0 := by decide
  have e1 : (1 : Int32).toInt = 1 := by decide
  have r := i_rng x
  rw [i_sub (by omega) (by omega)]
  omega
theorem nar_z {x : Int32} (h : x = 0 ∨ x = 1) : vp_nar .boolean x = x := by
  rcases h with rfl | rfl <;> rfl
theorem nar_b {x : Int32} (h : x = 0 ∨ x = 1) : narrow .boolean (.int x) = .int x := by
  rcases h with rfl | rfl <;> rfl
theorem nar_i (x : Int32) : narrow .int (.int x) = .int x := rfl
end
section
theorem de_J6_bitCount_0f7a4 : deOK yJ6_bitCount_0f7a4 1 := by decide +kernel
theorem de_X1_of : deOK yX1_of 2 := by decide +kernel
theorem de_X1_poles : deOK yX1_poles 1 := by decide +kernel
theorem de_X1_had : deOK yX1_had 1 := by decide +kernel
theorem de_X1_countHad : deOK yX1_countHad 1 := by decide +kernel
theorem de_X1_height : deOK yX1_height 2 := by decide +kernel
theorem de_X1_cellBit : deOK yX1_cellBit 2 := by decide +kernel
def f_J6_bitCount (a1 : Int32) : Int32 := ((((((((a1 - ((ush a1 (1 : Int32)) &&& (1431655765 : Int32))) &&& (858993459 : Int32)) + ((ush (a1 - ((ush a1 (1 : Int32)) &&& (1431655765 : Int32))) (2 : Int32)) &&& (858993459 : Int32))) + (ush (((a1 - ((ush a1 (1 : Int32)) &&& (1431655765 : Int32))) &&& (858993459 : Int32)) + ((ush (a1 - ((ush a1 (1 : Int32)) &&& (1431655765 : Int32))) (2 : Int32)) &&& (858993459 : Int32))) (4 : Int32))) &&& (252645135 : Int32)) + (ush (((((a1 - ((ush a1 (1 : Int32)) &&& (1431655765 : Int32))) &&& (858993459 : Int32)) + ((ush (a1 - ((ush a1 (1 : Int32)) &&& (1431655765 : Int32))) (2 : Int32)) &&& (858993459 : Int32))) + (ush (((a1 - ((ush a1 (1 : Int32)) &&& (1431655765 : Int32))) &&& (858993459 : Int32)) + ((ush (a1 - ((ush a1 (1 : Int32)) &&& (1431655765 : Int32))) (2 : Int32)) &&& (858993459 : Int32))) (4 : Int32))) &&& (252645135 : Int32)) (8 : Int32))) + (ush ((((((a1 - ((ush a1 (1 : Int32)) &&& (1431655765 : Int32))) &&& (858993459 : Int32)) + ((ush (a1 - ((ush a1 (1 : Int32)) &&& (1431655765 : Int32))) (2 : Int32)) &&& (858993459 : Int32))) + (ush (((a1 - ((ush a1 (1 : Int32)) &&& (1431655765 : Int32))) &&& (858993459 : Int32)) + ((ush (a1 - ((ush a1 (1 : Int32)) &&& (1431655765 : Int32))) (2 : Int32)) &&& (858993459 : Int32))) (4 : Int32))) &&& (252645135 : Int32)) + (ush (((((a1 - ((ush a1 (1 : Int32)) &&& (1431655765 : Int32))) &&& (858993459 : Int32)) + ((ush (a1 - ((ush a1 (1 : Int32)) &&& (1431655765 : Int32))) (2 : Int32)) &&& (858993459 : Int32))) + (ush (((a1 - ((ush a1 (1 : Int32)) &&& (1431655765 : Int32))) &&& (858993459 : Int32)) + ((ush (a1 - ((ush a1 (1 : Int32)) &&& (1431655765 : Int32))) (2 : Int32)) &&& (858993459 : Int32))) (4 : Int32))) &&& (252645135 : Int32)) (8 : Int32))) (16 : Int32))) &&& (63 : Int32))
set_option maxHeartbeats 4000000 in
set_option maxRecDepth 100000 in
theorem c_J6_bitCount (l : Launch) (D : va_G) (cI cZ : ClassId) (q : Nat → Nat) (a1 : Int32) : RdI l yJ6_bitCount_0f7a4 cJ6_bitCount_0f7a4 1 .int 0 0 D (tyL cI cZ) [] [.int a1] (f_J6_bitCount a1) := by
  refine RdI.of (by decide) (Nat.le_of_ble_eq_true rfl) ?_
  intro p e s m args below meth c Q hx hb hml hown hts hP hK fin ls hl
  have hown : s.vm.findClass RJ6 = some m.cls := hown
  have hF : CallFix p m c cJ6_bitCount_0f7a4 1 s args tb RJ6 := ⟨hx, hb, hml, hown, hts⟩
  have hl : lv_has ls 1 [(0, .int a1)] := hl
  generalize hR : (f_J6_bitCount a1) = R at fin
  unfold f_J6_bitCount at hR
  refine lv_iload_n hx hb dJ6_bitCount_0f7a4_0 rfl (lv_at hl 0 rfl) ?_
  refine lv_iload_n hx hb dJ6_bitCount_0f7a4_1 rfl (lv_at hl 0 rfl) ?_
  refine lv_iconst (v := (1 : Int32)) hx hb dJ6_bitCount_0f7a4_2 (by decide) ?_
  refine lv_iushr (v := (ush a1 (1 : Int32))) hx hb dJ6_bitCount_0f7a4_3 rfl ?_
  refine lv_ldcw (v := (1431655765 : Int32)) hx hb hown (hts _ tm_1_202) dJ6_bitCount_0f7a4_4 ?_
  refine lv_iand hx hb dJ6_bitCount_0f7a4_7 ?_
  refine lv_isub hx hb dJ6_bitCount_0f7a4_8 ?_
  refine lv_istore_n (lv' := [(0, .int (a1 - ((ush a1 (1 : Int32)) &&& (1431655765 : Int32))))]) hx hb dJ6_bitCount_0f7a4_9 rfl hl (by decide) rfl (fun ls hl => ?_)
  refine lv_iload_n hx hb dJ6_bitCount_0f7a4_10 rfl (lv_at hl 0 rfl) ?_
  refine lv_ldcw (v := (858993459 : Int32)) hx hb hown (hts _ tm_1_203) dJ6_bitCount_0f7a4_11 ?_
  refine lv_iand hx hb dJ6_bitCount_0f7a4_14 ?_
  refine lv_iload_n hx hb dJ6_bitCount_0f7a4_15 rfl (lv_at hl 0 rfl) ?_
  refine lv_iconst (v := (2 : Int32)) hx hb dJ6_bitCount_0f7a4_16 (by decide) ?_
  refine lv_iushr (v := (ush (a1 - ((ush a1 (1 : Int32)) &&& (1431655765 : Int32))) (2 : Int32))) hx hb dJ6_bitCount_0f7a4_17 rfl ?_
  refine lv_ldcw (v := (858993459 : Int32)) hx hb hown (hts _ tm_1_203) dJ6_bitCount_0f7a4_18 ?_
  refine lv_iand hx hb dJ6_bitCount_0f7a4_21 ?_
  refine lv_iadd hx hb dJ6_bitCount_0f7a4_22 ?_
  refine lv_istore_n (lv' := [(0, .int (((a1 - ((ush a1 (1 : Int32)) &&& (1431655765 : Int32))) &&& (858993459 : Int32)) + ((ush (a1 - ((ush a1 (1 : Int32)) &&& (1431655765 : Int32))) (2 : Int32)) &&& (858993459 : Int32))))]) hx hb dJ6_bitCount_0f7a4_23 rfl hl (by decide) rfl (fun ls hl => ?_)
  refine lv_iload_n hx hb dJ6_bitCount_0f7a4_24 rfl (lv_at hl 0 rfl) ?_
  refine lv_iload_n hx hb dJ6_bitCount_0f7a4_25 rfl (lv_at hl 0 rfl) ?_
  refine lv_iconst (v := (4 : Int32)) hx hb dJ6_bitCount_0f7a4_26 (by decide) ?_
  refine lv_iushr (v := (ush (((a1 - ((ush a1 (1 : Int32)) &&& (1431655765 : Int32))) &&& (858993459 : Int32)) + ((ush (a1 - ((ush a1 (1 : Int32)) &&& (1431655765 : Int32))) (2 : Int32)) &&& (858993459 : Int32))) (4 : Int32))) hx hb dJ6_bitCount_0f7a4_27 rfl ?_
  refine lv_iadd hx hb dJ6_bitCount_0f7a4_28 ?_
  refine lv_ldcw (v := (252645135 : Int32)) hx hb hown (hts _ tm_1_204) dJ6_bitCount_0f7a4_29 ?_
  refine lv_iand hx hb dJ6_bitCount_0f7a4_32 ?_
  refine lv_istore_n (lv' := [(0, .int (((((a1 - ((ush a1 (1 : Int32)) &&& (1431655765 : Int32))) &&& (858993459 : Int32)) + ((ush (a1 - ((ush a1 (1 : Int32)) &&& (1431655765 : Int32))) (2 : Int32)) &&& (858993459 : Int32))) + (ush (((a1 - ((ush a1 (1 : Int32)) &&& (1431655765 : Int32))) &&& (858993459 : Int32)) + ((ush (a1 - ((ush a1 (1 : Int32)) &&& (1431655765 : Int32))) (2 : Int32)) &&& (858993459 : Int32))) (4 : Int32))) &&& (252645135 : Int32)))]) hx hb dJ6_bitCount_0f7a4_33 rfl hl (by decide) rfl (fun ls hl => ?_)
  refine lv_iload_n hx hb dJ6_bitCount_0f7a4_34 rfl (lv_at hl 0 rfl) ?_
  refine lv_iload_n hx hb dJ6_bitCount_0f7a4_35 rfl (lv_at hl 0 rfl) ?_
  refine lv_bipush (v := (8 : Int32)) hx hb dJ6_bitCount_0f7a4_36 (by decide) ?_
  refine lv_iushr (v := (ush (((((a1 - ((ush a1 (1 : Int32)) &&& (1431655765 : Int32))) &&& (858993459 : Int32)) + ((ush (a1 - ((ush a1 (1 : Int32)) &&& (1431655765 : Int32))) (2 : Int32)) &&& (858993459 : Int32))) + (ush (((a1 - ((ush a1 (1 : Int32)) &&& (1431655765 : Int32))) &&& (858993459 : Int32)) + ((ush (a1 - ((ush a1 (1 : Int32)) &&& (1431655765 : Int32))) (2 : Int32)) &&& (858993459 : Int32))) (4 : Int32))) &&& (252645135 : Int32)) (8 : Int32))) hx hb dJ6_bitCount_0f7a4_38 rfl ?_
  refine lv_iadd hx hb dJ6_bitCount_0f7a4_39 ?_
  refine lv_istore_n (lv' := [(0, .int ((((((a1 - ((ush a1 (1 : Int32)) &&& (1431655765 : Int32))) &&& (858993459 : Int32)) + ((ush (a1 - ((ush a1 (1 : Int32)) &&& (1431655765 : Int32))) (2 : Int32)) &&& (858993459 : Int32))) + (ush (((a1 - ((ush a1 (1 : Int32)) &&& (1431655765 : Int32))) &&& (858993459 : Int32)) + ((ush (a1 - ((ush a1 (1 : Int32)) &&& (1431655765 : Int32))) (2 : Int32)) &&& (858993459 : Int32))) (4 : Int32))) &&& (252645135 : Int32)) + (ush (((((a1 - ((ush a1 (1 : Int32)) &&& (1431655765 : Int32))) &&& (858993459 : Int32)) + ((ush (a1 - ((ush a1 (1 : Int32)) &&& (1431655765 : Int32))) (2 : Int32)) &&& (858993459 : Int32))) + (ush (((a1 - ((ush a1 (1 : Int32)) &&& (1431655765 : Int32))) &&& (858993459 : Int32)) + ((ush (a1 - ((ush a1 (1 : Int32)) &&& (1431655765 : Int32))) (2 : Int32)) &&& (858993459 : Int32))) (4 : Int32))) &&& (252645135 : Int32)) (8 : Int32))))]) hx hb dJ6_bitCount_0f7a4_40 rfl hl (by decide) rfl (fun ls hl => ?_)
  refine lv_iload_n hx hb dJ6_bitCount_0f7a4_41 rfl (lv_at hl 0 rfl) ?_
  refine lv_iload_n hx hb dJ6_bitCount_0f7a4_42 rfl (lv_at hl 0 rfl) ?_
  refine lv_bipush (v := (16 : Int32)) hx hb dJ6_bitCount_0f7a4_43 (by decide) ?_
  refine lv_iushr (v := (ush ((((((a1 - ((ush a1 (1 : Int32)) &&& (1431655765 : Int32))) &&& (858993459 : Int32)) + ((ush (a1 - ((ush a1 (1 : Int32)) &&& (1431655765 : Int32))) (2 : Int32)) &&& (858993459 : Int32))) + (ush (((a1 - ((ush a1 (1 : Int32)) &&& (1431655765 : Int32))) &&& (858993459 : Int32)) + ((ush (a1 - ((ush a1 (1 : Int32)) &&& (1431655765 : Int32))) (2 : Int32)) &&& (858993459 : Int32))) (4 : Int32))) &&& (252645135 : Int32)) + (ush (((((a1 - ((ush a1 (1 : Int32)) &&& (1431655765 : Int32))) &&& (858993459 : Int32)) + ((ush (a1 - ((ush a1 (1 : Int32)) &&& (1431655765 : Int32))) (2 : Int32)) &&& (858993459 : Int32))) + (ush (((a1 - ((ush a1 (1 : Int32)) &&& (1431655765 : Int32))) &&& (858993459 : Int32)) + ((ush (a1 - ((ush a1 (1 : Int32)) &&& (1431655765 : Int32))) (2 : Int32)) &&& (858993459 : Int32))) (4 : Int32))) &&& (252645135 : Int32)) (8 : Int32))) (16 : Int32))) hx hb dJ6_bitCount_0f7a4_45 rfl ?_
  refine lv_iadd hx hb dJ6_bitCount_0f7a4_46 ?_
  refine lv_istore_n (lv' := [(0, .int (((((((a1 - ((ush a1 (1 : Int32)) &&& (1431655765 : Int32))) &&& (858993459 : Int32)) + ((ush (a1 - ((ush a1 (1 : Int32)) &&& (1431655765 : Int32))) (2 : Int32)) &&& (858993459 : Int32))) + (ush (((a1 - ((ush a1 (1 : Int32)) &&& (1431655765 : Int32))) &&& (858993459 : Int32)) + ((ush (a1 - ((ush a1 (1 : Int32)) &&& (1431655765 : Int32))) (2 : Int32)) &&& (858993459 : Int32))) (4 : Int32))) &&& (252645135 : Int32)) + (ush (((((a1 - ((ush a1 (1 : Int32)) &&& (1431655765 : Int32))) &&& (858993459 : Int32)) + ((ush (a1 - ((ush a1 (1 : Int32)) &&& (1431655765 : Int32))) (2 : Int32)) &&& (858993459 : Int32))) + (ush (((a1 - ((ush a1 (1 : Int32)) &&& (1431655765 : Int32))) &&& (858993459 : Int32)) + ((ush (a1 - ((ush a1 (1 : Int32)) &&& (1431655765 : Int32))) (2 : Int32)) &&& (858993459 : Int32))) (4 : Int32))) &&& (252645135 : Int32)) (8 : Int32))) + (ush ((((((a1 - ((ush a1 (1 : Int32)) &&& (1431655765 : Int32))) &&& (858993459 : Int32)) + ((ush (a1 - ((ush a1 (1 : Int32)) &&& (1431655765 : Int32))) (2 : Int32)) &&& (858993459 : Int32))) + (ush (((a1 - ((ush a1 (1 : Int32)) &&& (1431655765 : Int32))) &&& (858993459 : Int32)) + ((ush (a1 - ((ush a1 (1 : Int32)) &&& (1431655765 : Int32))) (2 : Int32)) &&& (858993459 : Int32))) (4 : Int32))) &&& (252645135 : Int32)) + (ush (((((a1 - ((ush a1 (1 : Int32)) &&& (1431655765 : Int32))) &&& (858993459 : Int32)) + ((ush (a1 - ((ush a1 (1 : Int32)) &&& (1431655765 : Int32))) (2 : Int32)) &&& (858993459 : Int32))) + (ush (((a1 - ((ush a1 (1 : Int32)) &&& (1431655765 : Int32))) &&& (858993459 : Int32)) + ((ush (a1 - ((ush a1 (1 : Int32)) &&& (1431655765 : Int32))) (2 : Int32)) &&& (858993459 : Int32))) (4 : Int32))) &&& (252645135 : Int32)) (8 : Int32))) (16 : Int32))))]) hx hb dJ6_bitCount_0f7a4_47 rfl hl (by decide) rfl (fun ls hl => ?_)
  refine lv_iload_n hx hb dJ6_bitCount_0f7a4_48 rfl (lv_at hl 0 rfl) ?_
  refine lv_bipush (v := (63 : Int32)) hx hb dJ6_bitCount_0f7a4_49 (by decide) ?_
  refine lv_iand hx hb dJ6_bitCount_0f7a4_51 ?_
  subst hR
  exact fin _ _ dJ6_bitCount_0f7a4_52 (nar_i _)
def f_X1_of (a1 : Int32) (a2 : Int32) : Int32 := ((a1 &&& (65535 : Int32)) ||| (shl a2 (16 : Int32)))
set_option maxHeartbeats 4000000 in
set_option maxRecDepth 100000 in
theorem c_X1_of (l : Launch) (D : va_G) (cI cZ : ClassId) (q : Nat → Nat) (a1 : Int32) (a2 : Int32) : RdI l yX1_of cX1_of 2 .int 0 0 D (tyL cI cZ) [] [.int a1, .int a2] (f_X1_of a1 a2) := by
  refine RdI.of (by decide) (Nat.le_of_ble_eq_true rfl) ?_
  intro p e s m args below meth c Q hx hb hml hown hts hP hK fin ls hl
  have hown : s.vm.findClass RX1 = some m.cls := hown
  have hF : CallFix p m c cX1_of 2 s args tb RX1 := ⟨hx, hb, hml, hown, hts⟩
  have hl : lv_has ls 2 [(0, .int a1), (1, .int a2)] := hl
  generalize hR : (f_X1_of a1 a2) = R at fin
  unfold f_X1_of at hR
  refine lv_iload_n hx hb dX1_of_0 rfl (lv_at hl 0 rfl) ?_
  refine lv_ldc (v := (65535 : Int32)) hx hb hown (hts _ tm_1_198) dX1_of_1 ?_
  refine lv_iand hx hb dX1_of_3 ?_
  refine lv_iload_n hx hb dX1_of_4 rfl (lv_at hl 1 rfl) ?_
  refine lv_bipush (v := (16 : Int32)) hx hb dX1_of_5 (by decide) ?_
  refine lv_ishl hx hb dX1_of_7 ?_
  refine lv_rw (z := (shl a2 (16 : Int32))) rfl ?_
  refine lv_ior hx hb dX1_of_8 ?_
  subst hR
  exact fin _ _ dX1_of_9 (nar_i _)
def f_X1_poles (a1 : Int32) : Int32 := (a1 &&& (65535 : Int32))
set_option maxHeartbeats 4000000 in
set_option maxRecDepth 100000 in
theorem c_X1_poles (l : Launch) (D : va_G) (cI cZ : ClassId) (q : Nat → Nat) (a1 : Int32) : RdI l yX1_poles cX1_poles 1 .int 0 0 D (tyL cI cZ) [] [.int a1] (f_X1_poles a1) := by
  refine RdI.of (by decide) (Nat.le_of_ble_eq_true rfl) ?_
  intro p e s m args below meth c Q hx hb hml hown hts hP hK fin ls hl
  have hown : s.vm.findClass RX1 = some m.cls := hown
  have hF : CallFix p m c cX1_poles 1 s args tb RX1 := ⟨hx, hb, hml, hown, hts⟩
  have hl : lv_has ls 1 [(0, .int a1)] := hl
  generalize hR : (f_X1_poles a1) = R at fin
  unfold f_X1_poles at hR
  refine lv_iload_n hx hb dX1_poles_0 rfl (lv_at hl 0 rfl) ?_
  refine lv_ldc (v := (65535 : Int32)) hx hb hown (hts _ tm_1_198) dX1_poles_1 ?_
  refine lv_iand hx hb dX1_poles_3 ?_
  subst hR
  exact fin _ _ dX1_poles_4 (nar_i _)
def f_X1_had (a1 : Int32) : Int32 := (ush a1 (16 : Int32))
set_option maxHeartbeats 4000000 in
set_option maxRecDepth 100000 in
theorem c_X1_had (l : Launch) (D : va_G) (cI cZ : ClassId) (q : Nat → Nat) (a1 : Int32) : RdI l yX1_had cX1_had 1 .int 0 0 D (tyL cI cZ) [] [.int a1] (f_X1_had a1) := by
  refine RdI.of (by decide) (Nat.le_of_ble_eq_true rfl) ?_
  intro p e s m args below meth c Q hx hb hml hown hts hP hK fin ls hl
  have hown : s.vm.findClass RX1 = some m.cls := hown
  have hF : CallFix p m c cX1_had 1 s args tb RX1 := ⟨hx, hb, hml, hown, hts⟩
  have hl : lv_has ls 1 [(0, .int a1)] := hl
  generalize hR : (f_X1_had a1) = R at fin
  unfold f_X1_had at hR
  refine lv_iload_n hx hb dX1_had_0 rfl (lv_at hl 0 rfl) ?_
  refine lv_bipush (v := (16 : Int32)) hx hb dX1_had_1 (by decide) ?_
  refine lv_iushr (v := (ush a1 (16 : Int32))) hx hb dX1_had_3 rfl ?_
  subst hR
  exact fin _ _ dX1_had_4 (nar_i _)
def f_X1_countHad (a1 : Int32) : Int32 := (f_J6_bitCount (f_X1_had a1))
set_option maxHeartbeats 4000000 in
set_option maxRecDepth 100000 in
theorem c_X1_countHad (l : Launch) (D : va_G) (cI cZ : ClassId) (q : Nat → Nat) (a1 : Int32) : RdI l yX1_countHad cX1_countHad 1 .int 1 20 D (tyL cI cZ) [] [.int a1] (f_X1_countHad a1) := by
  refine RdI.of (by decide) (Nat.le_of_ble_eq_true rfl) ?_
  intro p e s m args below meth c Q hx hb hml hown hts hP hK fin ls hl
  have hown : s.vm.findClass RX1 = some m.cls := hown
  have hF : CallFix p m c cX1_countHad 1 s args tb RX1 := ⟨hx, hb, hml, hown, hts⟩
  have hl : lv_has ls 1 [(0, .int a1)] := hl
  generalize hR : (f_X1_countHad a1) = R at fin
  unfold f_X1_countHad at hR
  refine lv_iload_n hx hb dX1_countHad_0 rfl (lv_at hl 0 rfl) ?_
  refine sRdI (As := [.int a1]) (rest := []) hF (c_X1_had l D cI cZ q a1) (gdS tm_2_51 tm_1_212 tm_1_8 tm_1_213) de_X1_had ⟨Nat.le_of_ble_eq_true rfl, Nat.le_of_ble_eq_true rfl⟩ va_P_nil hK hl.1 rfl (Nat.le_of_ble_eq_true rfl) dX1_countHad_1 ⟨Nat.zero_le _, Nat.zero_le _⟩ ?_
  refine sRdI (As := [.int (f_X1_had a1)]) (rest := []) hF (c_J6_bitCount l D cI cZ q (f_X1_had a1)) (gdS tm_2_15 tm_1_200 tm_1_9 tm_1_201) de_J6_bitCount_0f7a4 ⟨Nat.le_of_ble_eq_true rfl, Nat.le_of_ble_eq_true rfl⟩ va_P_nil hK hl.1 rfl (Nat.le_of_ble_eq_true rfl) dX1_countHad_4 ⟨Nat.zero_le _, Nat.zero_le _⟩ ?_
  subst hR
  exact fin _ _ dX1_countHad_7 (nar_i _)
def f_X1_height (a1 : Int32) (a2 : Int32) : Int32 := (f_J6_bitCount ((f_X1_poles a1) &&& (shl (4369 : Int32) a2)))
set_option maxHeartbeats 4000000 in
set_option maxRecDepth 100000 in
theorem c_X1_height (l : Launch) (D : va_G) (cI cZ : ClassId) (q : Nat → Nat) (a1 : Int32) (a2 : Int32) : RdI l yX1_height cX1_height 2 .int 1 20 D (tyL cI cZ) [] [.int a1, .int a2] (f_X1_height a1 a2) := by
  refine RdI.of (by decide) (Nat.le_of_ble_eq_true rfl) ?_
  intro p e s m args below meth c Q hx hb hml hown hts hP hK fin ls hl
  have hown : s.vm.findClass RX1 = some m.cls := hown
  have hF : CallFix p m c cX1_height 2 s args tb RX1 := ⟨hx, hb, hml, hown, hts⟩
  have hl : lv_has ls 2 [(0, .int a1), (1, .int a2)] := hl
  generalize hR : (f_X1_height a1 a2) = R at fin
  unfold f_X1_height at hR
  refine lv_iload_n hx hb dX1_height_0 rfl (lv_at hl 0 rfl) ?_
  refine sRdI (As := [.int a1]) (rest := []) hF (c_X1_poles l D cI cZ q a1) (gdS tm_2_14 tm_1_196 tm_1_8 tm_1_197) de_X1_poles ⟨Nat.le_of_ble_eq_true rfl, Nat.le_of_ble_eq_true rfl⟩ va_P_nil hK hl.1 rfl (Nat.le_of_ble_eq_true rfl) dX1_height_1 ⟨Nat.zero_le _, Nat.zero_le _⟩ ?_
  refine lv_sipush (v := (4369 : Int32)) hx hb dX1_height_4 (by decide) ?_
  refine lv_iload_n hx hb dX1_height_7 rfl (lv_at hl 1 rfl) ?_
  refine lv_ishl hx hb dX1_height_8 ?_
  refine lv_rw (z := (shl (4369 : Int32) a2)) rfl ?_
  refine lv_iand hx hb dX1_height_9 ?_
  refine sRdI (As := [.int ((f_X1_poles a1) &&& (shl (4369 : Int32) a2))]) (rest := []) hF (c_J6_bitCount l D cI cZ q ((f_X1_poles a1) &&& (shl (4369 : Int32) a2))) (gdS tm_2_15 tm_1_200 tm_1_9 tm_1_201) de_J6_bitCount_0f7a4 ⟨Nat.le_of_ble_eq_true rfl, Nat.le_of_ble_eq_true rfl⟩ va_P_nil hK hl.1 rfl (Nat.le_of_ble_eq_true rfl) dX1_height_10 ⟨Nat.zero_le _, Nat.zero_le _⟩ ?_
  subst hR
  exact fin _ _ dX1_height_13 (nar_i _)
def f_X1_cellBit (a1 : Int32) (a2 : Int32) : Int32 := (shl (1 : Int32) (((4 : Int32) * a2) + a1))
set_option maxHeartbeats 4000000 in
set_option maxRecDepth 100000 in
theorem c_X1_cellBit (l : Launch) (D : va_G) (cI cZ : ClassId) (q : Nat → Nat) (a1 : Int32) (a2 : Int32) : RdI l yX1_cellBit cX1_cellBit 2 .int 0 0 D (tyL cI cZ) [] [.int a1, .int a2] (f_X1_cellBit a1 a2) := by
  refine RdI.of (by decide) (Nat.le_of_ble_eq_true rfl) ?_
  intro p e s m args below meth c Q hx hb hml hown hts hP hK fin ls hl
  have hown : s.vm.findClass RX1 = some m.cls := hown
  have hF : CallFix p m c cX1_cellBit 2 s args tb RX1 := ⟨hx, hb, hml, hown, hts⟩
  have hl : lv_has ls 2 [(0, .int a1), (1, .int a2)] := hl
  generalize hR : (f_X1_cellBit a1 a2) = R at fin
  unfold f_X1_cellBit at hR
  refine lv_iconst (v := (1 : Int32)) hx hb dX1_cellBit_0 (by decide) ?_
  refine lv_iconst (v := (4 : Int32)) hx hb dX1_cellBit_1 (by decide) ?_
  refine lv_iload_n hx hb dX1_cellBit_2 rfl (lv_at hl 1 rfl) ?_
  refine lv_imul hx hb dX1_cellBit_3 ?_
  refine lv_iload_n hx hb dX1_cellBit_4 rfl (lv_at hl 0 rfl) ?_
  refine lv_iadd hx hb dX1_cellBit_5 ?_
  refine lv_ishl hx hb dX1_cellBit_6 ?_
  refine lv_rw (z := (shl (1 : Int32) (((4 : Int32) * a2) + a1))) rfl ?_
  subst hR
  exact fin _ _ dX1_cellBit_7 (nar_i _)
end
section
theorem de_X2_isPart : deOK yX2_isPart 1 := by decide +kernel
theorem de_X2_cellOf : deOK yX2_cellOf 1 := by decide +kernel
theorem de_X2_kindOf : deOK yX2_kindOf 1 := by decide +kernel
theorem de_X2_cellsOfKind : deOK yX2_cellsOfKind 1 := by decide +kernel
theorem de_X2_partIn : deOK yX2_partIn 1 := by decide +kernel
theorem de_X2_partsAt : deOK yX2_partsAt 1 := by decide +kernel
theorem de_X2_cellsOf : deOK yX2_cellsOf 1 := by decide +kernel
theorem de_X2_store : deOK yX2_store 1 := by decide +kernel
theorem de_X2_canPut : deOK yX2_canPut 2 := by decide +kernel
theorem de_X2_canStrike : deOK yX2_canStrike 2 := by decide +kernel
theorem de_X2_withPut : deOK yX2_withPut 2 := by decide +kernel
theorem de_X2_carriedBy : deOK yX2_carriedBy 1 := by decide +kernel
theorem de_X2_standing : deOK yX2_standing 2 := by decide +kernel
theorem de_X2_withStruck : deOK yX2_withStruck 2 := by decide +kernel
theorem de_X2_withRain : deOK yX2_withRain 1 := by decide +kernel
theorem de_X2_countStanding : deOK yX2_countStanding 1 := by decide +kernel
def f_X2_isPart (parts : Int32) (a1 : Int32) : Int32 := (if a1 < (0 : Int32) then (0 : Int32) else (if parts ≤ a1 then (0 : Int32) else (if (7 : Int32) ≤ a1 then (0 : Int32) else (1 : Int32))))
set_option maxHeartbeats 4000000 in
set_option maxRecDepth 100000 in
theorem c_X2_isPart (l : Launch) (D : va_G) (cI cZ : ClassId) (q : Nat → Nat) (poles parts plain key stair air : Int32) (cells kinds : Nat → Int32) (a1 : Int32) : RdI l yX2_isPart cX2_isPart 2 .boolean 0 0 D (tyL cI cZ) (PW cI cZ q poles parts plain key stair air cells kinds) [.ref (q 2), .int a1] (f_X2_isPart parts a1) := by
  refine RdI.of (by decide) (Nat.le_of_ble_eq_true rfl) ?_
  intro p e s m args below meth c Q hx hb hml hown hts hP hK fin ls hl
  have hown : s.vm.findClass RX2 = some m.cls := hown
  have hF : CallFix p m c cX2_isPart 2 s args tb RX2 := ⟨hx, hb, hml, hown, hts⟩
  have hl : lv_has ls 2 [(0, .ref (q 2)), (1, .int a1)] := hl
  generalize hR : (f_X2_isPart parts a1) = R at fin
  unfold f_X2_isPart at hR
  refine lv_iload_n hx hb dX2_isPart_0 rfl (lv_at hl 1 rfl) ?_
  refine lv_if_lt (tgt := 22) hx hb dX2_isPart_1 (by decide) (fun c_1 => ?_) (fun c_1 => ?_)
  · rw [if_pos c_1] at hR
    refine lv_iconst (v := (0 : Int32)) hx hb dX2_isPart_22 (by decide) ?_
    subst hR
    exact fin _ _ dX2_isPart_23 (nar_b (Or.inl rfl))
  · rw [if_neg c_1] at hR
    refine lv_iload_n hx hb dX2_isPart_4 rfl (lv_at hl 1 rfl) ?_
    refine lv_aload_n hx hb dX2_isPart_5 rfl (lv_at hl 0 rfl) ?_
    refine va_get (D := D) (ci := 1) (v := .int parts) (C := RX2) (T := TX2) (N := 8) hx hb hts tbX2 hown hK hP 0 PW_0 rfl 3 (by decide) (hts _ tm_1_43) (fun _ h9 => h9) rfl dX2_isPart_6 ?_
    refine lv_icmp_ge (tgt := 22) hx hb dX2_isPart_9 (by decide) (fun c_9 => ?_) (fun c_9 => ?_)
    · rw [if_pos c_9] at hR
      refine lv_iconst (v := (0 : Int32)) hx hb dX2_isPart_22 (by decide) ?_
      subst hR
      exact fin _ _ dX2_isPart_23 (nar_b (Or.inl rfl))
    · rw [if_neg c_9] at hR
      refine lv_iload_n hx hb dX2_isPart_12 rfl (lv_at hl 1 rfl) ?_
      refine lv_bipush (v := (7 : Int32)) hx hb dX2_isPart_13 (by decide) ?_
      refine lv_icmp_ge (tgt := 22) hx hb dX2_isPart_15 (by decide) (fun c_15 => ?_) (fun c_15 => ?_)
      · rw [if_pos c_15] at hR
        refine lv_iconst (v := (0 : Int32)) hx hb dX2_isPart_22 (by decide) ?_
        subst hR
        exact fin _ _ dX2_isPart_23 (nar_b (Or.inl rfl))
      · rw [if_neg c_15] at hR
        refine lv_iconst (v := (1 : Int32)) hx hb dX2_isPart_18 (by decide) ?_
        refine lv_goto (tgt := 23) hx hb dX2_isPart_19 (by decide) ?_
        subst hR
        exact fin _ _ dX2_isPart_23 (nar_b (Or.inr rfl))
theorem isPart_in {parts a1 : Int32} (h : ¬ f_X2_isPart parts a1 = 0) : vp_in a1 7 := by
  unfold f_X2_isPart at h
  by_cases h1 : a1 < 0
  · rw [if_pos h1] at h; exact absurd rfl h
  rw [if_neg h1] at h
  by_cases h2 : parts ≤ a1
  · rw [if_pos h2] at h; exact absurd rfl h
  rw [if_neg h2] at h
  by_cases h3 : 7 ≤ a1
  · rw [if_pos h3] at h; exact absurd rfl h
  exact vi_b (b := 7) (by decide) h1 h3
def f_X2_cellOf (parts : Int32) (cells : Nat → Int32) (a1 : Int32) : Int32 := (if (f_X2_isPart parts a1) = (0 : Int32) then (-9 : Int32) else (cells a1.toNatClampNeg))
set_option maxHeartbeats 4000000 in
set_option maxRecDepth 100000 in
theorem c_X2_cellOf (l : Launch) (D : va_G) (cI cZ : ClassId) (q : Nat → Nat) (poles parts plain key stair air : Int32) (cells kinds : Nat → Int32) (a1 : Int32) : RdI l yX2_cellOf cX2_cellOf 2 .int 1 21 D (tyL cI cZ) (PW cI cZ q poles parts plain key stair air cells kinds) [.ref (q 2), .int a1] (f_X2_cellOf parts cells a1) := by
  refine RdI.of (by decide) (Nat.le_of_ble_eq_true rfl) ?_
  intro p e s m args below meth c Q hx hb hml hown hts hP hK fin ls hl
  have hown : s.vm.findClass RX2 = some m.cls := hown
  have hF : CallFix p m c cX2_cellOf 2 s args tb RX2 := ⟨hx, hb, hml, hown, hts⟩
  have hl : lv_has ls 2 [(0, .ref (q 2)), (1, .int a1)] := hl
  generalize hR : (f_X2_cellOf parts cells a1) = R at fin
  unfold f_X2_cellOf at hR
  refine lv_aload_n hx hb dX2_cellOf_0 rfl (lv_at hl 0 rfl) ?_
  refine lv_iload_n hx hb dX2_cellOf_1 rfl (lv_at hl 1 rfl) ?_
  refine vRdI (b := (q 2)) (As := [.int a1]) (rest := []) hF (c_X2_isPart l D cI cZ q poles parts plain key stair air cells kinds a1) (gdV tm_1_239 tm_1_232 tm_1_233 tm_1_3 tm_1_234) de_X2_isPart ⟨Nat.le_of_ble_eq_true rfl, Nat.le_of_ble_eq_true rfl⟩ hP hK (va_recv hK hP (ci := 1) (q0 := 0) rfl PW_0) hl.1 rfl (Nat.le_of_ble_eq_true rfl) dX2_cellOf_2 ⟨Nat.zero_le _, Nat.zero_le _⟩ ?_
  refine lv_if_eq (tgt := 17) hx hb dX2_cellOf_5 (by decide) (fun c_5 => ?_) (fun c_5 => ?_)
  · rw [if_pos c_5] at hR
    refine lv_bipush (v := (-9 : Int32)) hx hb dX2_cellOf_17 (by decide) ?_
    subst hR
    exact fin _ _ dX2_cellOf_19 (nar_i _)
  · rw [if_neg c_5] at hR
    refine lv_aload_n hx hb dX2_cellOf_8 rfl (lv_at hl 0 rfl) ?_
    refine va_get (D := D) (ci := 1) (v := .ref (q 6)) (C := RX2) (T := TX2) (N := 8) hx hb hts tbX2 hown hK hP 0 PW_0 rfl 0 (by decide) (hts _ tm_1_39) (fun _ h9 => h9) rfl dX2_cellOf_9 ?_
    refine lv_iload_n hx hb dX2_cellOf_12 rfl (lv_at hl 1 rfl) ?_
    refine va_iald hx hb hK hP 1 0 PW_1 rfl (isPart_in c_5) dX2_cellOf_13 ?_
    refine lv_goto (tgt := 19) hx hb dX2_cellOf_14 (by decide) ?_
    subst hR
    exact fin _ _ dX2_cellOf_19 (nar_i _)
def f_X2_kindOf (parts : Int32) (kinds : Nat → Int32) (a1 : Int32) : Int32 := (if (f_X2_isPart parts a1) = (0 : Int32) then (-9 : Int32) else (kinds a1.toNatClampNeg))
set_option maxHeartbeats 4000000 in
set_option maxRecDepth 100000 in
theorem c_X2_kindOf (l : Launch) (D : va_G) (cI cZ : ClassId) (q : Nat → Nat) (poles parts plain key stair air : Int32) (cells kinds : Nat → Int32) (a1 : Int32) : RdI l yX2_kindOf cX2_kindOf 2 .int 1 21 D (tyL cI cZ) (PW cI cZ q poles parts plain key stair air cells kinds) [.ref (q 2), .int a1] (f_X2_kindOf parts kinds a1) := by
  refine RdI.of (by decide) (Nat.le_of_ble_eq_true rfl) ?_
  intro p e s m args below meth c Q hx hb hml hown hts hP hK fin ls hl
  have hown : s.vm.findClass RX2 = some m.cls := hown
  have hF : CallFix p m c cX2_kindOf 2 s args tb RX2 := ⟨hx, hb, hml, hown, hts⟩
  have hl : lv_has ls 2 [(0, .ref (q 2)), (1, .int a1)] := hl
  generalize hR : (f_X2_kindOf parts kinds a1) = R at fin
  unfold f_X2_kindOf at hR
  refine lv_aload_n hx hb dX2_kindOf_0 rfl (lv_at hl 0 rfl) ?_
  refine lv_iload_n hx hb dX2_kindOf_1 rfl (lv_at hl 1 rfl) ?_
  refine vRdI (b := (q 2)) (As := [.int a1]) (rest := []) hF (c_X2_isPart l D cI cZ q poles parts plain key stair air cells kinds a1) (gdV tm_1_239 tm_1_232 tm_1_233 tm_1_3 tm_1_234) de_X2_isPart ⟨Nat.le_of_ble_eq_true rfl, Nat.le_of_ble_eq_true rfl⟩ hP hK (va_recv hK hP (ci := 1) (q0 := 0) rfl PW_0) hl.1 rfl (Nat.le_of_ble_eq_true rfl) dX2_kindOf_2 ⟨Nat.zero_le _, Nat.zero_le _⟩ ?_
  refine lv_if_eq (tgt := 17) hx hb dX2_kindOf_5 (by decide) (fun c_5 => ?_) (fun c_5 => ?_)
  · rw [if_pos c_5] at hR
    refine lv_bipush (v := (-9 : Int32)) hx hb dX2_kindOf_17 (by decide) ?_
    subst hR
    exact fin _ _ dX2_kindOf_19 (nar_i _)
  · rw [if_neg c_5] at hR
    refine lv_aload_n hx hb dX2_kindOf_8 rfl (lv_at hl 0 rfl) ?_
    refine va_get (D := D) (ci := 1) (v := .ref (q 7)) (C := RX2) (T := TX2) (N := 8) hx hb hts tbX2 hown hK hP 0 PW_0 rfl 1 (by decide) (hts _ tm_1_40) (fun _ h9 => h9) rfl dX2_kindOf_9 ?_
    refine lv_iload_n hx hb dX2_kindOf_12 rfl (lv_at hl 1 rfl) ?_
    refine va_iald hx hb hK hP 2 0 PW_2 rfl (isPart_in c_5) dX2_kindOf_13 ?_
    refine lv_goto (tgt := 19) hx hb dX2_kindOf_14 (by decide) ?_
    subst hR
    exact fin _ _ dX2_kindOf_19 (nar_i _)
def f_X2_cellsOfKind_l4 (cells : Nat → Int32) (kinds : Nat → Int32) (a1 : Int32) : Nat → Nat → (Int32) → Int32
  | 0, i_4, fnd => fnd
  | d_4 + 1, i_4, fnd => (if (kinds i_4) = a1 then (if (cells i_4) = (-9 : Int32) then (f_X2_cellsOfKind_l4 cells kinds a1 d_4 (i_4 + 1) fnd) else (f_X2_cellsOfKind_l4 cells kinds a1 d_4 (i_4 + 1) (fnd ||| (shl (1 : Int32) (cells i_4))))) else (f_X2_cellsOfKind_l4 cells kinds a1 d_4 (i_4 + 1) fnd))
theorem f_X2_cellsOfKind_l4_z {cells : Nat → Int32} {kinds : Nat → Int32} {a1 : Int32} {i_4 : Nat} {fnd : Int32} : f_X2_cellsOfKind_l4 cells kinds a1 0 i_4 fnd = fnd := rfl
theorem f_X2_cellsOfKind_l4_s {cells : Nat → Int32} {kinds : Nat → Int32} {a1 : Int32} {d_4 : Nat} {i_4 : Nat} {fnd : Int32} : f_X2_cellsOfKind_l4 cells kinds a1 (d_4 + 1) i_4 fnd = (if (kinds i_4) = a1 then (if (cells i_4) = (-9 : Int32) then (f_X2_cellsOfKind_l4 cells kinds a1 d_4 (i_4 + 1) fnd) else (f_X2_cellsOfKind_l4 cells kinds a1 d_4 (i_4 + 1) (fnd ||| (shl (1 : Int32) (cells i_4))))) else (f_X2_cellsOfKind_l4 cells kinds a1 d_4 (i_4 + 1) fnd)) := rfl
def f_X2_cellsOfKind (cells : Nat → Int32) (kinds : Nat → Int32) (a1 : Int32) : Int32 := (f_X2_cellsOfKind_l4 cells kinds a1 7 0 (0 : Int32))
set_option maxHeartbeats 4000000 in
set_option maxRecDepth 100000 in
theorem c_X2_cellsOfKind (l : Launch) (D : va_G) (cI cZ : ClassId) (q : Nat → Nat) (poles parts plain key stair air : Int32) (cells kinds : Nat → Int32) (a1 : Int32) : RdI l yX2_cellsOfKind cX2_cellsOfKind 4 .int 0 0 D (tyL cI cZ) (PW cI cZ q poles parts plain key stair air cells kinds) [.ref (q 2), .int a1] (f_X2_cellsOfKind cells kinds a1) := by
  refine RdI.of (by decide) (Nat.le_of_ble_eq_true rfl) ?_
  intro p e s m args below meth c Q hx hb hml hown hts hP hK fin ls hl
  have hown : s.vm.findClass RX2 = some m.cls := hown
  have hF : CallFix p m c cX2_cellsOfKind 4 s args tb RX2 := ⟨hx, hb, hml, hown, hts⟩
  have hl : lv_has ls 4 [(0, .ref (q 2)), (1, .int a1)] := hl
  generalize hR : (f_X2_cellsOfKind cells kinds a1) = R at fin
  unfold f_X2_cellsOfKind at hR
  refine lv_iconst (v := (0 : Int32)) hx hb dX2_cellsOfKind_0 (by decide) ?_
  refine lv_istore_n (lv' := [(2, .int (0 : Int32)), (0, .ref (q 2)), (1, .int a1)]) hx hb dX2_cellsOfKind_1 rfl hl (by decide) rfl (fun ls hl => ?_)
  refine lv_iconst (v := (0 : Int32)) hx hb dX2_cellsOfKind_2 (by decide) ?_
  refine lv_istore_n (lv' := [(3, .int (0 : Int32)), (2, .int (0 : Int32)), (0, .ref (q 2)), (1, .int a1)]) hx hb dX2_cellsOfKind_3 rfl hl (by decide) rfl (fun ls hl => ?_)
  obtain ⟨T_4, hT_4⟩ : ∃ z, f_X2_cellsOfKind_l4 cells kinds a1 7 0 (0 : Int32) = z := ⟨_, rfl⟩
  rw [hT_4] at hR
  have key_4 : ∀ (d_4 i_4 : Nat) (fnd : Int32) (ls : Array Slot), i_4 + d_4 = 7 → f_X2_cellsOfKind_l4 cells kinds a1 d_4 i_4 fnd = T_4 → lv_has ls 4 [(3, .int (nI i_4)), (2, .int fnd), (0, .ref (q 2)), (1, .int a1)] → W p l e (rmO 0 0) s m args below meth c s.heap [] 0 0 Q (F0 m 4 ls []) := by
    intro d_4
    induction d_4 with
    | zero =>
      intro i_4 fnd ls hi_4 hT_4 hl
      rw [f_X2_cellsOfKind_l4_z] at hT_4
      refine lv_iload_n hx hb dX2_cellsOfKind_4 rfl (lv_at hl 0 rfl) ?_
      refine lv_bipush (v := (7 : Int32)) hx hb dX2_cellsOfKind_5 (by decide) ?_
      refine lv_icmp_ge (tgt := 48) hx hb dX2_cellsOfKind_7 (by decide) (fun c_7 => ?_) (fun c_7 => absurd (nI_le (a := 7) (by omega) (by omega)) c_7)
      subst hT_4
      try dsimp only at hR
      refine lv_iload_n hx hb dX2_cellsOfKind_48 rfl (lv_at hl 1 rfl) ?_
      subst hR
      exact fin _ _ dX2_cellsOfKind_49 (nar_i _)
    | succ d_4 ih_4 =>
      intro i_4 fnd ls hi_4 hT_4 hl
      rw [f_X2_cellsOfKind_l4_s] at hT_4
      refine lv_iload_n hx hb dX2_cellsOfKind_4 rfl (lv_at hl 0 rfl) ?_
      refine lv_bipush (v := (7 : Int32)) hx hb dX2_cellsOfKind_5 (by decide) ?_
      refine lv_icmp_ge (tgt := 48) hx hb dX2_cellsOfKind_7 (by decide) (fun c_7 => absurd c_7 (nI_ge (b := 7) (by omega) (by omega))) (fun c_7 => ?_)
      refine lv_aload_n hx hb dX2_cellsOfKind_10 rfl (lv_at hl 2 rfl) ?_
      refine va_get (D := D) (ci := 1) (v := .ref (q 7)) (C := RX2) (T := TX2) (N := 8) hx hb hts tbX2 hown hK hP 0 PW_0 rfl 1 (by decide) (hts _ tm_1_40) (fun _ h9 => h9) rfl dX2_cellsOfKind_11 ?_
      refine lv_iload_n hx hb dX2_cellsOfKind_14 rfl (lv_at hl 0 rfl) ?_
      refine va_iald hx hb hK hP 2 0 PW_2 rfl (vp_in_nI (show i_4 < 7 by omega) (by omega)) dX2_cellsOfKind_15 ?_
      refine lv_rw (z := (kinds i_4)) (congrArg kinds (nI_clamp (show i_4 < 2 ^ 31 by omega))) ?_
      refine lv_iload_n hx hb dX2_cellsOfKind_16 rfl (lv_at hl 3 rfl) ?_
      refine lv_icmp_ne (tgt := 42) hx hb dX2_cellsOfKind_17 (by decide) (fun c_17 => ?_) (fun c_17 => ?_)
      · rw [if_neg c_17] at hT_4
        refine lv_iinc (v := (nI (i_4 + 1))) (lv' := [(3, .int (nI (i_4 + 1))), (2, .int fnd), (0, .ref (q 2)), (1, .int a1)]) hx hb dX2_cellsOfKind_42 hl (k := 0) rfl (nI_up i_4) (by decide) rfl (fun ls hl => ?_)
        refine lv_goto (tgt := 4) hx hb dX2_cellsOfKind_45 (by decide) ?_
        exact ih_4 (i_4 + 1) fnd ls (by omega) hT_4 (lv_sub hl [0, 1, 2, 3] rfl)
      · rw [if_pos c_17] at hT_4
        refine lv_aload_n hx hb dX2_cellsOfKind_20 rfl (lv_at hl 2 rfl) ?_
        refine va_get (D := D) (ci := 1) (v := .ref (q 6)) (C := RX2) (T := TX2) (N := 8) hx hb hts tbX2 hown hK hP 0 PW_0 rfl 0 (by decide) (hts _ tm_1_39) (fun _ h9 => h9) rfl dX2_cellsOfKind_21 ?_
        refine lv_iload_n hx hb dX2_cellsOfKind_24 rfl (lv_at hl 0 rfl) ?_
        refine va_iald hx hb hK hP 1 0 PW_1 rfl (vp_in_nI (show i_4 < 7 by omega) (by omega)) dX2_cellsOfKind_25 ?_
        refine lv_rw (z := (cells i_4)) (congrArg cells (nI_clamp (show i_4 < 2 ^ 31 by omega))) ?_
        refine lv_bipush (v := (-9 : Int32)) hx hb dX2_cellsOfKind_26 (by decide) ?_
        refine lv_icmp_eq (tgt := 42) hx hb dX2_cellsOfKind_28 (by decide) (fun c_28 => ?_) (fun c_28 => ?_)
        · rw [if_pos c_28] at hT_4
          refine lv_iinc (v := (nI (i_4 + 1))) (lv' := [(3, .int (nI (i_4 + 1))), (2, .int fnd), (0, .ref (q 2)), (1, .int a1)]) hx hb dX2_cellsOfKind_42 hl (k := 0) rfl (nI_up i_4) (by decide) rfl (fun ls hl => ?_)
          refine lv_goto (tgt := 4) hx hb dX2_cellsOfKind_45 (by decide) ?_
          exact ih_4 (i_4 + 1) fnd ls (by omega) hT_4 (lv_sub hl [0, 1, 2, 3] rfl)
        · rw [if_neg c_28] at hT_4
          refine lv_iload_n hx hb dX2_cellsOfKind_31 rfl (lv_at hl 1 rfl) ?_
          refine lv_iconst (v := (1 : Int32)) hx hb dX2_cellsOfKind_32 (by decide) ?_
          refine lv_aload_n hx hb dX2_cellsOfKind_33 rfl (lv_at hl 2 rfl) ?_
          refine va_get (D := D) (ci := 1) (v := .ref (q 6)) (C := RX2) (T := TX2) (N := 8) hx hb hts tbX2 hown hK hP 0 PW_0 rfl 0 (by decide) (hts _ tm_1_39) (fun _ h9 => h9) rfl dX2_cellsOfKind_34 ?_
          refine lv_iload_n hx hb dX2_cellsOfKind_37 rfl (lv_at hl 0 rfl) ?_
          refine va_iald hx hb hK hP 1 0 PW_1 rfl (vp_in_nI (show i_4 < 7 by omega) (by omega)) dX2_cellsOfKind_38 ?_
          refine lv_rw (z := (cells i_4)) (congrArg cells (nI_clamp (show i_4 < 2 ^ 31 by omega))) ?_
          refine lv_ishl hx hb dX2_cellsOfKind_39 ?_
          refine lv_rw (z := (shl (1 : Int32) (cells i_4))) rfl ?_
          refine lv_ior hx hb dX2_cellsOfKind_40 ?_
          refine lv_istore_n (lv' := [(2, .int (fnd ||| (shl (1 : Int32) (cells i_4)))), (3, .int (nI i_4)), (0, .ref (q 2)), (1, .int a1)]) hx hb dX2_cellsOfKind_41 rfl hl (by decide) rfl (fun ls hl => ?_)
          refine lv_iinc (v := (nI (i_4 + 1))) (lv' := [(3, .int (nI (i_4 + 1))), (2, .int (fnd ||| (shl (1 : Int32) (cells i_4)))), (0, .ref (q 2)), (1, .int a1)]) hx hb dX2_cellsOfKind_42 hl (k := 1) rfl (nI_up i_4) (by decide) rfl (fun ls hl => ?_)
          refine lv_goto (tgt := 4) hx hb dX2_cellsOfKind_45 (by decide) ?_
          exact ih_4 (i_4 + 1) (fnd ||| (shl (1 : Int32) (cells i_4))) ls (by omega) hT_4 (lv_sub hl [0, 1, 2, 3] rfl)
  exact key_4 7 0 (0 : Int32) ls (by omega) hT_4 (lv_sub hl [0, 1, 2, 3] rfl)
def f_X2_partIn_l2 (cells : Nat → Int32) (a1 : Int32) : Nat → Nat → Int32
  | 0, i_2 => (-9 : Int32)
  | d_2 + 1, i_2 => (if (cells i_2) = a1 then (nI i_2) else (f_X2_partIn_l2 cells a1 d_2 (i_2 + 1) ))
theorem f_X2_partIn_l2_z {cells : Nat → Int32} {a1 : Int32} {i_2 : Nat}  : f_X2_partIn_l2 cells a1 0 i_2  = (-9 : Int32) := rfl
theorem f_X2_partIn_l2_s {cells : Nat → Int32} {a1 : Int32} {d_2 : Nat} {i_2 : Nat}  : f_X2_partIn_l2 cells a1 (d_2 + 1) i_2  = (if (cells i_2) = a1 then (nI i_2) else (f_X2_partIn_l2 cells a1 d_2 (i_2 + 1) )) := rfl
def f_X2_partIn (cells : Nat → Int32) (a1 : Int32) : Int32 := (f_X2_partIn_l2 cells a1 7 0 )
set_option maxHeartbeats 4000000 in
set_option maxRecDepth 100000 in
theorem c_X2_partIn (l : Launch) (D : va_G) (cI cZ : ClassId) (q : Nat → Nat) (poles parts plain key stair air : Int32) (cells kinds : Nat → Int32) (a1 : Int32) : RdI l yX2_partIn cX2_partIn 3 .int 0 0 D (tyL cI cZ) (PW cI cZ q poles parts plain key stair air cells kinds) [.ref (q 2), .int a1] (f_X2_partIn cells a1) := by
  refine RdI.of (by decide) (Nat.le_of_ble_eq_true rfl) ?_
  intro p e s m args below meth c Q hx hb hml hown hts hP hK fin ls hl
  have hown : s.vm.findClass RX2 = some m.cls := hown
  have hF : CallFix p m c cX2_partIn 3 s args tb RX2 := ⟨hx, hb, hml, hown, hts⟩
  have hl : lv_has ls 3 [(0, .ref (q 2)), (1, .int a1)] := hl
  generalize hR : (f_X2_partIn cells a1) = R at fin
  unfold f_X2_partIn at hR
  refine lv_iconst (v := (0 : Int32)) hx hb dX2_partIn_0 (by decide) ?_
  refine lv_istore_n (lv' := [(2, .int (0 : Int32)), (0, .ref (q 2)), (1, .int a1)]) hx hb dX2_partIn_1 rfl hl (by decide) rfl (fun ls hl => ?_)
  have key_2 : ∀ (d_2 i_2 : Nat)  (ls : Array Slot), i_2 + d_2 = 7 → f_X2_partIn_l2 cells a1 d_2 i_2  = R → lv_has ls 3 [(2, .int (nI i_2)), (0, .ref (q 2)), (1, .int a1)] → W p l e (rmO 0 0) s m args below meth c s.heap [] 0 0 Q (F0 m 2 ls []) := by
    intro d_2
    induction d_2 with
    | zero =>
      intro i_2 ls hi_2 hR hl
      rw [f_X2_partIn_l2_z] at hR
      refine lv_iload_n hx hb dX2_partIn_2 rfl (lv_at hl 0 rfl) ?_
      refine lv_bipush (v := (7 : Int32)) hx hb dX2_partIn_3 (by decide) ?_
      refine lv_icmp_ge (tgt := 26) hx hb dX2_partIn_5 (by decide) (fun c_5 => ?_) (fun c_5 => absurd (nI_le (a := 7) (by omega) (by omega)) c_5)
      refine lv_bipush (v := (-9 : Int32)) hx hb dX2_partIn_26 (by decide) ?_
      subst hR
      exact fin _ _ dX2_partIn_28 (nar_i _)
    | succ d_2 ih_2 =>
      intro i_2 ls hi_2 hR hl
      rw [f_X2_partIn_l2_s] at hR
      refine lv_iload_n hx hb dX2_partIn_2 rfl (lv_at hl 0 rfl) ?_
      refine lv_bipush (v := (7 : Int32)) hx hb dX2_partIn_3 (by decide) ?_
      refine lv_icmp_ge (tgt := 26) hx hb dX2_partIn_5 (by decide) (fun c_5 => absurd c_5 (nI_ge (b := 7) (by omega) (by omega))) (fun c_5 => ?_)
      refine lv_aload_n hx hb dX2_partIn_8 rfl (lv_at hl 1 rfl) ?_
      refine va_get (D := D) (ci := 1) (v := .ref (q 6)) (C := RX2) (T := TX2) (N := 8) hx hb hts tbX2 hown hK hP 0 PW_0 rfl 0 (by decide) (hts _ tm_1_39) (fun _ h9 => h9) rfl dX2_partIn_9 ?_
      refine lv_iload_n hx hb dX2_partIn_12 rfl (lv_at hl 0 rfl) ?_
      refine va_iald hx hb hK hP 1 0 PW_1 rfl (vp_in_nI (show i_2 < 7 by omega) (by omega)) dX2_partIn_13 ?_
      refine lv_rw (z := (cells i_2)) (congrArg cells (nI_clamp (show i_2 < 2 ^ 31 by omega))) ?_
      refine lv_iload_n hx hb dX2_partIn_14 rfl (lv_at hl 2 rfl) ?_
      refine lv_icmp_ne (tgt := 20) hx hb dX2_partIn_15 (by decide) (fun c_15 => ?_) (fun c_15 => ?_)
      · rw [if_neg c_15] at hR
        refine lv_iinc (v := (nI (i_2 + 1))) (lv' := [(2, .int (nI (i_2 + 1))), (0, .ref (q 2)), (1, .int a1)]) hx hb dX2_partIn_20 hl (k := 0) rfl (nI_up i_2) (by decide) rfl (fun ls hl => ?_)
        refine lv_goto (tgt := 2) hx hb dX2_partIn_23 (by decide) ?_
        exact ih_2 (i_2 + 1)  ls (by omega) hR (lv_sub hl [0, 1, 2] rfl)
      · rw [if_pos c_15] at hR
        refine lv_iload_n hx hb dX2_partIn_18 rfl (lv_at hl 0 rfl) ?_
        subst hR
        exact fin _ _ dX2_partIn_19 (nar_i _)
  exact key_2 7 0  ls (by omega) hR (lv_sub hl [0, 1, 2] rfl)
def f_X2_partsAt_l4 (cells : Nat → Int32) (a1 : Int32) : Nat → Nat → (Int32) → Int32
  | 0, i_4, bits => bits
  | d_4 + 1, i_4, bits => (if (cells i_4) = (-9 : Int32) then (f_X2_partsAt_l4 cells a1 d_4 (i_4 + 1) bits) else (if ((shr a1 (cells i_4)) &&& (1 : Int32)) = (1 : Int32) then (f_X2_partsAt_l4 cells a1 d_4 (i_4 + 1) (bits ||| (shl (1 : Int32) (nI i_4)))) else (f_X2_partsAt_l4 cells a1 d_4 (i_4 + 1) bits)))
theorem f_X2_partsAt_l4_z {cells : Nat → Int32} {a1 : Int32} {i_4 : Nat} {bits : Int32} : f_X2_partsAt_l4 cells a1 0 i_4 bits = bits := rfl
theorem f_X2_partsAt_l4_s {cells : Nat → Int32} {a1 : Int32} {d_4 : Nat} {i_4 : Nat} {bits : Int32} : f_X2_partsAt_l4 cells a1 (d_4 + 1) i_4 bits = (if (cells i_4) = (-9 : Int32) then (f_X2_partsAt_l4 cells a1 d_4 (i_4 + 1) bits) else (if ((shr a1 (cells i_4)) &&& (1 : Int32)) = (1 : Int32) then (f_X2_partsAt_l4 cells a1 d_4 (i_4 + 1) (bits ||| (shl (1 : Int32) (nI i_4)))) else (f_X2_partsAt_l4 cells a1 d_4 (i_4 + 1) bits))) := rfl
def f_X2_partsAt (cells : Nat → Int32) (a1 : Int32) : Int32 := (f_X2_partsAt_l4 cells a1 7 0 (0 : Int32))
set_option maxHeartbeats 4000000 in
set_option maxRecDepth 100000 in
theorem c_X2_partsAt (l : Launch) (D : va_G) (cI cZ : ClassId) (q : Nat → Nat) (poles parts plain key stair air : Int32) (cells kinds : Nat → Int32) (a1 : Int32) : RdI l yX2_partsAt cX2_partsAt 4 .int 0 0 D (tyL cI cZ) (PW cI cZ q poles parts plain key stair air cells kinds) [.ref (q 2), .int a1] (f_X2_partsAt cells a1) := by
  refine RdI.of (by decide) (Nat.le_of_ble_eq_true rfl) ?_
  intro p e s m args below meth c Q hx hb hml hown hts hP hK fin ls hl
  have hown : s.vm.findClass RX2 = some m.cls := hown
  have hF : CallFix p m c cX2_partsAt 4 s args tb RX2 := ⟨hx, hb, hml, hown, hts⟩
  have hl : lv_has ls 4 [(0, .ref (q 2)), (1, .int a1)] := hl
  generalize hR : (f_X2_partsAt cells a1) = R at fin
  unfold f_X2_partsAt at hR
  refine lv_iconst (v := (0 : Int32)) hx hb dX2_partsAt_0 (by decide) ?_
  refine lv_istore_n (lv' := [(2, .int (0 : Int32)), (0, .ref (q 2)), (1, .int a1)]) hx hb dX2_partsAt_1 rfl hl (by decide) rfl (fun ls hl => ?_)
  refine lv_iconst (v := (0 : Int32)) hx hb dX2_partsAt_2 (by decide) ?_
  refine lv_istore_n (lv' := [(3, .int (0 : Int32)), (2, .int (0 : Int32)), (0, .ref (q 2)), (1, .int a1)]) hx hb dX2_partsAt_3 rfl hl (by decide) rfl (fun ls hl => ?_)
  obtain ⟨T_4, hT_4⟩ : ∃ z, f_X2_partsAt_l4 cells a1 7 0 (0 : Int32) = z := ⟨_, rfl⟩
  rw [hT_4] at hR
  have key_4 : ∀ (d_4 i_4 : Nat) (bits : Int32) (ls : Array Slot), i_4 + d_4 = 7 → f_X2_partsAt_l4 cells a1 d_4 i_4 bits = T_4 → lv_has ls 4 [(3, .int (nI i_4)), (2, .int bits), (0, .ref (q 2)), (1, .int a1)] → W p l e (rmO 0 0) s m args below meth c s.heap [] 0 0 Q (F0 m 4 ls []) := by
    intro d_4
    induction d_4 with
    | zero =>
      intro i_4 bits ls hi_4 hT_4 hl
      rw [f_X2_partsAt_l4_z] at hT_4
      refine lv_iload_n hx hb dX2_partsAt_4 rfl (lv_at hl 0 rfl) ?_
      refine lv_bipush (v := (7 : Int32)) hx hb dX2_partsAt_5 (by decide) ?_
      refine lv_icmp_ge (tgt := 47) hx hb dX2_partsAt_7 (by decide) (fun c_7 => ?_) (fun c_7 => absurd (nI_le (a := 7) (by omega) (by omega)) c_7)
      subst hT_4
      try dsimp only at hR
      refine lv_iload_n hx hb dX2_partsAt_47 rfl (lv_at hl 1 rfl) ?_
      subst hR
      exact fin _ _ dX2_partsAt_48 (nar_i _)
    | succ d_4 ih_4 =>
      intro i_4 bits ls hi_4 hT_4 hl
      rw [f_X2_partsAt_l4_s] at hT_4
      refine lv_iload_n hx hb dX2_partsAt_4 rfl (lv_at hl 0 rfl) ?_
      refine lv_bipush (v := (7 : Int32)) hx hb dX2_partsAt_5 (by decide) ?_
      refine lv_icmp_ge (tgt := 47) hx hb dX2_partsAt_7 (by decide) (fun c_7 => absurd c_7 (nI_ge (b := 7) (by omega) (by omega))) (fun c_7 => ?_)
      refine lv_aload_n hx hb dX2_partsAt_10 rfl (lv_at hl 2 rfl) ?_
      refine va_get (D := D) (ci := 1) (v := .ref (q 6)) (C := RX2) (T := TX2) (N := 8) hx hb hts tbX2 hown hK hP 0 PW_0 rfl 0 (by decide) (hts _ tm_1_39) (fun _ h9 => h9) rfl dX2_partsAt_11 ?_
      refine lv_iload_n hx hb dX2_partsAt_14 rfl (lv_at hl 0 rfl) ?_
      refine va_iald hx hb hK hP 1 0 PW_1 rfl (vp_in_nI (show i_4 < 7 by omega) (by omega)) dX2_partsAt_15 ?_
      refine lv_rw (z := (cells i_4)) (congrArg cells (nI_clamp (show i_4 < 2 ^ 31 by omega))) ?_
      refine lv_bipush (v := (-9 : Int32)) hx hb dX2_partsAt_16 (by decide) ?_
      refine lv_icmp_eq (tgt := 41) hx hb dX2_partsAt_18 (by decide) (fun c_18 => ?_) (fun c_18 => ?_)
      · rw [if_pos c_18] at hT_4
        refine lv_iinc (v := (nI (i_4 + 1))) (lv' := [(3, .int (nI (i_4 + 1))), (2, .int bits), (0, .ref (q 2)), (1, .int a1)]) hx hb dX2_partsAt_41 hl (k := 0) rfl (nI_up i_4) (by decide) rfl (fun ls hl => ?_)
        refine lv_goto (tgt := 4) hx hb dX2_partsAt_44 (by decide) ?_
        exact ih_4 (i_4 + 1) bits ls (by omega) hT_4 (lv_sub hl [0, 1, 2, 3] rfl)
      · rw [if_neg c_18] at hT_4
        refine lv_iload_n hx hb dX2_partsAt_21 rfl (lv_at hl 3 rfl) ?_
        refine lv_aload_n hx hb dX2_partsAt_22 rfl (lv_at hl 2 rfl) ?_
        refine va_get (D := D) (ci := 1) (v := .ref (q 6)) (C := RX2) (T := TX2) (N := 8) hx hb hts tbX2 hown hK hP 0 PW_0 rfl 0 (by decide) (hts _ tm_1_39) (fun _ h9 => h9) rfl dX2_partsAt_23 ?_
        refine lv_iload_n hx hb dX2_partsAt_26 rfl (lv_at hl 0 rfl) ?_
        refine va_iald hx hb hK hP 1 0 PW_1 rfl (vp_in_nI (show i_4 < 7 by omega) (by omega)) dX2_partsAt_27 ?_
        refine lv_rw (z := (cells i_4)) (congrArg cells (nI_clamp (show i_4 < 2 ^ 31 by omega))) ?_
        refine lv_ishr hx hb dX2_partsAt_28 ?_
        refine lv_rw (z := (shr a1 (cells i_4))) rfl ?_
        refine lv_iconst (v := (1 : Int32)) hx hb dX2_partsAt_29 (by decide) ?_
        refine lv_iand hx hb dX2_partsAt_30 ?_
        refine lv_iconst (v := (1 : Int32)) hx hb dX2_partsAt_31 (by decide) ?_
        refine lv_icmp_ne (tgt := 41) hx hb dX2_partsAt_32 (by decide) (fun c_32 => ?_) (fun c_32 => ?_)
        · rw [if_neg c_32] at hT_4
          refine lv_iinc (v := (nI (i_4 + 1))) (lv' := [(3, .int (nI (i_4 + 1))), (2, .int bits), (0, .ref (q 2)), (1, .int a1)]) hx hb dX2_partsAt_41 hl (k := 0) rfl (nI_up i_4) (by decide) rfl (fun ls hl => ?_)
          refine lv_goto (tgt := 4) hx hb dX2_partsAt_44 (by decide) ?_
          exact ih_4 (i_4 + 1) bits ls (by omega) hT_4 (lv_sub hl [0, 1, 2, 3] rfl)
        · rw [if_pos c_32] at hT_4
          refine lv_iload_n hx hb dX2_partsAt_35 rfl (lv_at hl 1 rfl) ?_
          refine lv_iconst (v := (1 : Int32)) hx hb dX2_partsAt_36 (by decide) ?_
          refine lv_iload_n hx hb dX2_partsAt_37 rfl (lv_at hl 0 rfl) ?_
          refine lv_ishl hx hb dX2_partsAt_38 ?_
          refine lv_rw (z := (shl (1 : Int32) (nI i_4))) rfl ?_
          refine lv_ior hx hb dX2_partsAt_39 ?_
          refine lv_istore_n (lv' := [(2, .int (bits ||| (shl (1 : Int32) (nI i_4)))), (3, .int (nI i_4)), (0, .ref (q 2)), (1, .int a1)]) hx hb dX2_partsAt_40 rfl hl (by decide) rfl (fun ls hl => ?_)
          refine lv_iinc (v := (nI (i_4 + 1))) (lv' := [(3, .int (nI (i_4 + 1))), (2, .int (bits ||| (shl (1 : Int32) (nI i_4)))), (0, .ref (q 2)), (1, .int a1)]) hx hb dX2_partsAt_41 hl (k := 1) rfl (nI_up i_4) (by decide) rfl (fun ls hl => ?_)
          refine lv_goto (tgt := 4) hx hb dX2_partsAt_44 (by decide) ?_
          exact ih_4 (i_4 + 1) (bits ||| (shl (1 : Int32) (nI i_4))) ls (by omega) hT_4 (lv_sub hl [0, 1, 2, 3] rfl)
  exact key_4 7 0 (0 : Int32) ls (by omega) hT_4 (lv_sub hl [0, 1, 2, 3] rfl)
def f_X2_cellsOf_l4 (cells : Nat → Int32) (a1 : Int32) : Nat → Nat → (Int32) → Int32
  | 0, i_4, bits => bits
  | d_4 + 1, i_4, bits => (if (cells i_4) = (-9 : Int32) then (f_X2_cellsOf_l4 cells a1 d_4 (i_4 + 1) bits) else (if ((shr a1 (nI i_4)) &&& (1 : Int32)) = (1 : Int32) then (f_X2_cellsOf_l4 cells a1 d_4 (i_4 + 1) (bits ||| (shl (1 : Int32) (cells i_4)))) else (f_X2_cellsOf_l4 cells a1 d_4 (i_4 + 1) bits)))
theorem f_X2_cellsOf_l4_z {cells : Nat → Int32} {a1 : Int32} {i_4 : Nat} {bits : Int32} : f_X2_cellsOf_l4 cells a1 0 i_4 bits = bits := rfl
theorem f_X2_cellsOf_l4_s {cells : Nat → Int32} {a1 : Int32} {d_4 : Nat} {i_4 : Nat} {bits : Int32} : f_X2_cellsOf_l4 cells a1 (d_4 + 1) i_4 bits = (if (cells i_4) = (-9 : Int32) then (f_X2_cellsOf_l4 cells a1 d_4 (i_4 + 1) bits) else (if ((shr a1 (nI i_4)) &&& (1 : Int32)) = (1 : Int32) then (f_X2_cellsOf_l4 cells a1 d_4 (i_4 + 1) (bits ||| (shl (1 : Int32) (cells i_4)))) else (f_X2_cellsOf_l4 cells a1 d_4 (i_4 + 1) bits))) := rfl
def f_X2_cellsOf (cells : Nat → Int32) (a1 : Int32) : Int32 := (f_X2_cellsOf_l4 cells a1 7 0 (0 : Int32))
set_option maxHeartbeats 4000000 in
set_option maxRecDepth 100000 in
theorem c_X2_cellsOf (l : Launch) (D : va_G) (cI cZ : ClassId) (q : Nat → Nat) (poles parts plain key stair air : Int32) (cells kinds : Nat → Int32) (a1 : Int32) : RdI l yX2_cellsOf cX2_cellsOf 4 .int 0 0 D (tyL cI cZ) (PW cI cZ q poles parts plain key stair air cells kinds) [.ref (q 2), .int a1] (f_X2_cellsOf cells a1) := by
  refine RdI.of (by decide) (Nat.le_of_ble_eq_true rfl) ?_
  intro p e s m args below meth c Q hx hb hml hown hts hP hK fin ls hl
  have hown : s.vm.findClass RX2 = some m.cls := hown
  have hF : CallFix p m c cX2_cellsOf 4 s args tb RX2 := ⟨hx, hb, hml, hown, hts⟩
  have hl : lv_has ls 4 [(0, .ref (q 2)), (1, .int a1)] := hl
  generalize hR : (f_X2_cellsOf cells a1) = R at fin
  unfold f_X2_cellsOf at hR
  refine lv_iconst (v := (0 : Int32)) hx hb dX2_cellsOf_0 (by decide) ?_
  refine lv_istore_n (lv' := [(2, .int (0 : Int32)), (0, .ref (q 2)), (1, .int a1)]) hx hb dX2_cellsOf_1 rfl hl (by decide) rfl (fun ls hl => ?_)
  refine lv_iconst (v := (0 : Int32)) hx hb dX2_cellsOf_2 (by decide) ?_
  refine lv_istore_n (lv' := [(3, .int (0 : Int32)), (2, .int (0 : Int32)), (0, .ref (q 2)), (1, .int a1)]) hx hb dX2_cellsOf_3 rfl hl (by decide) rfl (fun ls hl => ?_)
  obtain ⟨T_4, hT_4⟩ : ∃ z, f_X2_cellsOf_l4 cells a1 7 0 (0 : Int32) = z := ⟨_, rfl⟩
  rw [hT_4] at hR
  have key_4 : ∀ (d_4 i_4 : Nat) (bits : Int32) (ls : Array Slot), i_4 + d_4 = 7 → f_X2_cellsOf_l4 cells a1 d_4 i_4 bits = T_4 → lv_has ls 4 [(3, .int (nI i_4)), (2, .int bits), (0, .ref (q 2)), (1, .int a1)] → W p l e (rmO 0 0) s m args below meth c s.heap [] 0 0 Q (F0 m 4 ls []) := by
    intro d_4
    induction d_4 with
    | zero =>
      intro i_4 bits ls hi_4 hT_4 hl
      rw [f_X2_cellsOf_l4_z] at hT_4
      refine lv_iload_n hx hb dX2_cellsOf_4 rfl (lv_at hl 0 rfl) ?_
      refine lv_bipush (v := (7 : Int32)) hx hb dX2_cellsOf_5 (by decide) ?_
      refine lv_icmp_ge (tgt := 47) hx hb dX2_cellsOf_7 (by decide) (fun c_7 => ?_) (fun c_7 => absurd (nI_le (a := 7) (by omega) (by omega)) c_7)
      subst hT_4
      try dsimp only at hR
      refine lv_iload_n hx hb dX2_cellsOf_47 rfl (lv_at hl 1 rfl) ?_
      subst hR
      exact fin _ _ dX2_cellsOf_48 (nar_i _)
    | succ d_4 ih_4 =>
      intro i_4 bits ls hi_4 hT_4 hl
      rw [f_X2_cellsOf_l4_s] at hT_4
      refine lv_iload_n hx hb dX2_cellsOf_4 rfl (lv_at hl 0 rfl) ?_
      refine lv_bipush (v := (7 : Int32)) hx hb dX2_cellsOf_5 (by decide) ?_
      refine lv_icmp_ge (tgt := 47) hx hb dX2_cellsOf_7 (by decide) (fun c_7 => absurd c_7 (nI_ge (b := 7) (by omega) (by omega))) (fun c_7 => ?_)
      refine lv_aload_n hx hb dX2_cellsOf_10 rfl (lv_at hl 2 rfl) ?_
      refine va_get (D := D) (ci := 1) (v := .ref (q 6)) (C := RX2) (T := TX2) (N := 8) hx hb hts tbX2 hown hK hP 0 PW_0 rfl 0 (by decide) (hts _ tm_1_39) (fun _ h9 => h9) rfl dX2_cellsOf_11 ?_
      refine lv_iload_n hx hb dX2_cellsOf_14 rfl (lv_at hl 0 rfl) ?_
      refine va_iald hx hb hK hP 1 0 PW_1 rfl (vp_in_nI (show i_4 < 7 by omega) (by omega)) dX2_cellsOf_15 ?_
      refine lv_rw (z := (cells i_4)) (congrArg cells (nI_clamp (show i_4 < 2 ^ 31 by omega))) ?_
      refine lv_bipush (v := (-9 : Int32)) hx hb dX2_cellsOf_16 (by decide) ?_
      refine lv_icmp_eq (tgt := 41) hx hb dX2_cellsOf_18 (by decide) (fun c_18 => ?_) (fun c_18 => ?_)
      · rw [if_pos c_18] at hT_4
        refine lv_iinc (v := (nI (i_4 + 1))) (lv' := [(3, .int (nI (i_4 + 1))), (2, .int bits), (0, .ref (q 2)), (1, .int a1)]) hx hb dX2_cellsOf_41 hl (k := 0) rfl (nI_up i_4) (by decide) rfl (fun ls hl => ?_)
        refine lv_goto (tgt := 4) hx hb dX2_cellsOf_44 (by decide) ?_
        exact ih_4 (i_4 + 1) bits ls (by omega) hT_4 (lv_sub hl [0, 1, 2, 3] rfl)
      · rw [if_neg c_18] at hT_4
        refine lv_iload_n hx hb dX2_cellsOf_21 rfl (lv_at hl 3 rfl) ?_
        refine lv_iload_n hx hb dX2_cellsOf_22 rfl (lv_at hl 0 rfl) ?_
        refine lv_ishr hx hb dX2_cellsOf_23 ?_
        refine lv_rw (z := (shr a1 (nI i_4))) rfl ?_
        refine lv_iconst (v := (1 : Int32)) hx hb dX2_cellsOf_24 (by decide) ?_
        refine lv_iand hx hb dX2_cellsOf_25 ?_
        refine lv_iconst (v := (1 : Int32)) hx hb dX2_cellsOf_26 (by decide) ?_
        refine lv_icmp_ne (tgt := 41) hx hb dX2_cellsOf_27 (by decide) (fun c_27 => ?_) (fun c_27 => ?_)
        · rw [if_neg c_27] at hT_4
          refine lv_iinc (v := (nI (i_4 + 1))) (lv' := [(3, .int (nI (i_4 + 1))), (2, .int bits), (0, .ref (q 2)), (1, .int a1)]) hx hb dX2_cellsOf_41 hl (k := 0) rfl (nI_up i_4) (by decide) rfl (fun ls hl => ?_)
          refine lv_goto (tgt := 4) hx hb dX2_cellsOf_44 (by decide) ?_
          exact ih_4 (i_4 + 1) bits ls (by omega) hT_4 (lv_sub hl [0, 1, 2, 3] rfl)
        · rw [if_pos c_27] at hT_4
          refine lv_iload_n hx hb dX2_cellsOf_30 rfl (lv_at hl 1 rfl) ?_
          refine lv_iconst (v := (1 : Int32)) hx hb dX2_cellsOf_31 (by decide) ?_
          refine lv_aload_n hx hb dX2_cellsOf_32 rfl (lv_at hl 2 rfl) ?_
          refine va_get (D := D) (ci := 1) (v := .ref (q 6)) (C := RX2) (T := TX2) (N := 8) hx hb hts tbX2 hown hK hP 0 PW_0 rfl 0 (by decide) (hts _ tm_1_39) (fun _ h9 => h9) rfl dX2_cellsOf_33 ?_
          refine lv_iload_n hx hb dX2_cellsOf_36 rfl (lv_at hl 0 rfl) ?_
          refine va_iald hx hb hK hP 1 0 PW_1 rfl (vp_in_nI (show i_4 < 7 by omega) (by omega)) dX2_cellsOf_37 ?_
          refine lv_rw (z := (cells i_4)) (congrArg cells (nI_clamp (show i_4 < 2 ^ 31 by omega))) ?_
          refine lv_ishl hx hb dX2_cellsOf_38 ?_
          refine lv_rw (z := (shl (1 : Int32) (cells i_4))) rfl ?_
          refine lv_ior hx hb dX2_cellsOf_39 ?_
          refine lv_istore_n (lv' := [(2, .int (bits ||| (shl (1 : Int32) (cells i_4)))), (3, .int (nI i_4)), (0, .ref (q 2)), (1, .int a1)]) hx hb dX2_cellsOf_40 rfl hl (by decide) rfl (fun ls hl => ?_)
          refine lv_iinc (v := (nI (i_4 + 1))) (lv' := [(3, .int (nI (i_4 + 1))), (2, .int (bits ||| (shl (1 : Int32) (cells i_4)))), (0, .ref (q 2)), (1, .int a1)]) hx hb dX2_cellsOf_41 hl (k := 1) rfl (nI_up i_4) (by decide) rfl (fun ls hl => ?_)
          refine lv_goto (tgt := 4) hx hb dX2_cellsOf_44 (by decide) ?_
          exact ih_4 (i_4 + 1) (bits ||| (shl (1 : Int32) (cells i_4))) ls (by omega) hT_4 (lv_sub hl [0, 1, 2, 3] rfl)
  exact key_4 7 0 (0 : Int32) ls (by omega) hT_4 (lv_sub hl [0, 1, 2, 3] rfl)
def f_X2_store (poles : Int32) (a1 : Int32) : Int32 := (poles - (f_J6_bitCount (f_X1_poles a1)))
set_option maxHeartbeats 4000000 in
set_option maxRecDepth 100000 in
theorem c_X2_store (l : Launch) (D : va_G) (cI cZ : ClassId) (q : Nat → Nat) (poles parts plain key stair air : Int32) (cells kinds : Nat → Int32) (a1 : Int32) : RdI l yX2_store cX2_store 2 .int 1 20 D (tyL cI cZ) (PW cI cZ q poles parts plain key stair air cells kinds) [.ref (q 2), .int a1] (f_X2_store poles a1) := by
  refine RdI.of (by decide) (Nat.le_of_ble_eq_true rfl) ?_
  intro p e s m args below meth c Q hx hb hml hown hts hP hK fin ls hl
  have hown : s.vm.findClass RX2 = some m.cls := hown
  have hF : CallFix p m c cX2_store 2 s args tb RX2 := ⟨hx, hb, hml, hown, hts⟩
  have hl : lv_has ls 2 [(0, .ref (q 2)), (1, .int a1)] := hl
  generalize hR : (f_X2_store poles a1) = R at fin
  unfold f_X2_store at hR
  refine lv_aload_n hx hb dX2_store_0 rfl (lv_at hl 0 rfl) ?_
  refine va_get (D := D) (ci := 1) (v := .int poles) (C := RX2) (T := TX2) (N := 8) hx hb hts tbX2 hown hK hP 0 PW_0 rfl 2 (by decide) (hts _ tm_1_41) (fun _ h9 => h9) rfl dX2_store_1 ?_
  refine lv_iload_n hx hb dX2_store_4 rfl (lv_at hl 1 rfl) ?_
  refine sRdI (As := [.int a1]) (rest := [.int poles]) hF (c_X1_poles l D cI cZ q a1) (gdS tm_1_195 tm_1_196 tm_1_8 tm_1_197) de_X1_poles ⟨Nat.le_of_ble_eq_true rfl, Nat.le_of_ble_eq_true rfl⟩ va_P_nil hK hl.1 rfl (Nat.le_of_ble_eq_true rfl) dX2_store_5 ⟨Nat.zero_le _, Nat.zero_le _⟩ ?_
  refine sRdI (As := [.int (f_X1_poles a1)]) (rest := [.int poles]) hF (c_J6_bitCount l D cI cZ q (f_X1_poles a1)) (gdS tm_1_199 tm_1_200 tm_1_9 tm_1_201) de_J6_bitCount_0f7a4 ⟨Nat.le_of_ble_eq_true rfl, Nat.le_of_ble_eq_true rfl⟩ va_P_nil hK hl.1 rfl (Nat.le_of_ble_eq_true rfl) dX2_store_8 ⟨Nat.zero_le _, Nat.zero_le _⟩ ?_
  refine lv_isub hx hb dX2_store_11 ?_
  subst hR
  exact fin _ _ dX2_store_12 (nar_i _)
def f_X2_canPut (poles : Int32) (a1 : Int32) (a2 : Int32) : Int32 := (if (f_X2_store poles a1) ≤ (0 : Int32) then (0 : Int32) else (if (4 : Int32) ≤ (f_X1_height a1 a2) then (0 : Int32) else (1 : Int32)))
set_option maxHeartbeats 4000000 in
set_option maxRecDepth 100000 in
theorem c_X2_canPut (l : Launch) (D : va_G) (cI cZ : ClassId) (q : Nat → Nat) (poles parts plain key stair air : Int32) (cells kinds : Nat → Int32) (a1 : Int32) (a2 : Int32) : RdI l yX2_canPut cX2_canPut 3 .boolean 2 41 D (tyL cI cZ) (PW cI cZ q poles parts plain key stair air cells kinds) [.ref (q 2), .int a1, .int a2] (f_X2_canPut poles a1 a2) := by
  refine RdI.of (by decide) (Nat.le_of_ble_eq_true rfl) ?_
  intro p e s m args below meth c Q hx hb hml hown hts hP hK fin ls hl
  have hown : s.vm.findClass RX2 = some m.cls := hown
  have hF : CallFix p m c cX2_canPut 3 s args tb RX2 := ⟨hx, hb, hml, hown, hts⟩
  have hl : lv_has ls 3 [(0, .ref (q 2)), (1, .int a1), (2, .int a2)] := hl
  generalize hR : (f_X2_canPut poles a1 a2) = R at fin
  unfold f_X2_canPut at hR
  refine lv_aload_n hx hb dX2_canPut_0 rfl (lv_at hl 0 rfl) ?_
  refine lv_iload_n hx hb dX2_canPut_1 rfl (lv_at hl 1 rfl) ?_
  refine vRdI (b := (q 2)) (As := [.int a1]) (rest := []) hF (c_X2_store l D cI cZ q poles parts plain key stair air cells kinds a1) (gdV tm_2_114 tm_1_192 tm_1_193 tm_1_3 tm_1_194) de_X2_store ⟨Nat.le_of_ble_eq_true rfl, Nat.le_of_ble_eq_true rfl⟩ hP hK (va_recv hK hP (ci := 1) (q0 := 0) rfl PW_0) hl.1 rfl (Nat.le_of_ble_eq_true rfl) dX2_canPut_2 ⟨Nat.zero_le _, Nat.zero_le _⟩ ?_
  refine lv_if_le (tgt := 21) hx hb dX2_canPut_5 (by decide) (fun c_5 => ?_) (fun c_5 => ?_)
  · rw [if_pos c_5] at hR
    refine lv_iconst (v := (0 : Int32)) hx hb dX2_canPut_21 (by decide) ?_
    subst hR
    exact fin _ _ dX2_canPut_22 (nar_b (Or.inl rfl))
  · rw [if_neg c_5] at hR
    refine lv_iload_n hx hb dX2_canPut_8 rfl (lv_at hl 1 rfl) ?_
    refine lv_iload_n hx hb dX2_canPut_9 rfl (lv_at hl 2 rfl) ?_
    refine sRdI (As := [.int a1, .int a2]) (rest := []) hF (c_X1_height l D cI cZ q a1 a2) (gdS tm_2_40 tm_2_12 tm_1_8 tm_2_13) de_X1_height ⟨Nat.le_of_ble_eq_true rfl, Nat.le_of_ble_eq_true rfl⟩ va_P_nil hK hl.1 rfl (Nat.le_of_ble_eq_true rfl) dX2_canPut_10 ⟨Nat.zero_le _, Nat.zero_le _⟩ ?_
    refine lv_iconst (v := (4 : Int32)) hx hb dX2_canPut_13 (by decide) ?_
    refine lv_icmp_ge (tgt := 21) hx hb dX2_canPut_14 (by decide) (fun c_14 => ?_) (fun c_14 => ?_)
    · rw [if_pos c_14] at hR
      refine lv_iconst (v := (0 : Int32)) hx hb dX2_canPut_21 (by decide) ?_
      subst hR
      exact fin _ _ dX2_canPut_22 (nar_b (Or.inl rfl))
    · rw [if_neg c_14] at hR
      refine lv_iconst (v := (1 : Int32)) hx hb dX2_canPut_17 (by decide) ?_
      refine lv_goto (tgt := 22) hx hb dX2_canPut_18 (by decide) ?_
      subst hR
      exact fin _ _ dX2_canPut_22 (nar_b (Or.inr rfl))
def f_X2_canStrike (a1 : Int32) (a2 : Int32) : Int32 := (if (f_X1_height a1 a2) ≤ (0 : Int32) then (0 : Int32) else (1 : Int32))
set_option maxHeartbeats 4000000 in
set_option maxRecDepth 100000 in
theorem c_X2_canStrike (l : Launch) (D : va_G) (cI cZ : ClassId) (q : Nat → Nat) (poles parts plain key stair air : Int32) (cells kinds : Nat → Int32) (a1 : Int32) (a2 : Int32) : RdI l yX2_canStrike cX2_canStrike 3 .boolean 2 41 D (tyL cI cZ) (PW cI cZ q poles parts plain key stair air cells kinds) [.ref (q 2), .int a1, .int a2] (f_X2_canStrike a1 a2) := by
  refine RdI.of (by decide) (Nat.le_of_ble_eq_true rfl) ?_
  intro p e s m args below meth c Q hx hb hml hown hts hP hK fin ls hl
  have hown : s.vm.findClass RX2 = some m.cls := hown
  have hF : CallFix p m c cX2_canStrike 3 s args tb RX2 := ⟨hx, hb, hml, hown, hts⟩
  have hl : lv_has ls 3 [(0, .ref (q 2)), (1, .int a1), (2, .int a2)] := hl
  generalize hR : (f_X2_canStrike a1 a2) = R at fin
  unfold f_X2_canStrike at hR
  refine lv_iload_n hx hb dX2_canStrike_0 rfl (lv_at hl 1 rfl) ?_
  refine lv_iload_n hx hb dX2_canStrike_1 rfl (lv_at hl 2 rfl) ?_
  refine sRdI (As := [.int a1, .int a2]) (rest := []) hF (c_X1_height l D cI cZ q a1 a2) (gdS tm_2_40 tm_2_12 tm_1_8 tm_2_13) de_X1_height ⟨Nat.le_of_ble_eq_true rfl, Nat.le_of_ble_eq_true rfl⟩ va_P_nil hK hl.1 rfl (Nat.le_of_ble_eq_true rfl) dX2_canStrike_2 ⟨Nat.zero_le _, Nat.zero_le _⟩ ?_
  refine lv_if_le (tgt := 12) hx hb dX2_canStrike_5 (by decide) (fun c_5 => ?_) (fun c_5 => ?_)
  · rw [if_pos c_5] at hR
    refine lv_iconst (v := (0 : Int32)) hx hb dX2_canStrike_12 (by decide) ?_
    subst hR
    exact fin _ _ dX2_canStrike_13 (nar_b (Or.inl rfl))
  · rw [if_neg c_5] at hR
    refine lv_iconst (v := (1 : Int32)) hx hb dX2_canStrike_8 (by decide) ?_
    refine lv_goto (tgt := 13) hx hb dX2_canStrike_9 (by decide) ?_
    subst hR
    exact fin _ _ dX2_canStrike_13 (nar_b (Or.inr rfl))
def f_X2_withPut (plain : Int32) (key : Int32) (stair : Int32) (air : Int32) (a1 : Int32) (a2 : Int32) : Int32 := (f_X1_of ((f_X1_poles a1) ||| (f_X1_cellBit a2 (f_X1_height a1 a2))) ((f_X1_had a1) ||| ((f_X1_cellBit a2 (f_X1_height a1 a2)) &&& (((plain ||| key) ||| stair) ||| air))))
set_option maxHeartbeats 4000000 in
set_option maxRecDepth 100000 in
theorem c_X2_withPut (l : Launch) (D : va_G) (cI cZ : ClassId) (q : Nat → Nat) (poles parts plain key stair air : Int32) (cells kinds : Nat → Int32) (a1 : Int32) (a2 : Int32) : RdI l yX2_withPut cX2_withPut 5 .int 2 41 D (tyL cI cZ) (PW cI cZ q poles parts plain key stair air cells kinds) [.ref (q 2), .int a1, .int a2] (f_X2_withPut plain key stair air a1 a2) := by
  refine RdI.of (by decide) (Nat.le_of_ble_eq_true rfl) ?_
  intro p e s m args below meth c Q hx hb hml hown hts hP hK fin ls hl
  have hown : s.vm.findClass RX2 = some m.cls := hown
  have hF : CallFix p m c cX2_withPut 5 s args tb RX2 := ⟨hx, hb, hml, hown, hts⟩
  have hl : lv_has ls 5 [(0, .ref (q 2)), (1, .int a1), (2, .int a2)] := hl
  generalize hR : (f_X2_withPut plain key stair air a1 a2) = R at fin
  unfold f_X2_withPut at hR
  refine lv_iload_n hx hb dX2_withPut_0 rfl (lv_at hl 2 rfl) ?_
  refine lv_iload_n hx hb dX2_withPut_1 rfl (lv_at hl 1 rfl) ?_
  refine lv_iload_n hx hb dX2_withPut_2 rfl (lv_at hl 2 rfl) ?_
  refine sRdI (As := [.int a1, .int a2]) (rest := [.int a2]) hF (c_X1_height l D cI cZ q a1 a2) (gdS tm_2_40 tm_2_12 tm_1_8 tm_2_13) de_X1_height ⟨Nat.le_of_ble_eq_true rfl, Nat.le_of_ble_eq_true rfl⟩ va_P_nil hK hl.1 rfl (Nat.le_of_ble_eq_true rfl) dX2_withPut_3 ⟨Nat.zero_le _, Nat.zero_le _⟩ ?_
  refine sRdI (As := [.int a2, .int (f_X1_height a1 a2)]) (rest := []) hF (c_X1_cellBit l D cI cZ q a2 (f_X1_height a1 a2)) (gdS tm_2_41 tm_2_42 tm_1_8 tm_2_43) de_X1_cellBit ⟨Nat.le_of_ble_eq_true rfl, Nat.le_of_ble_eq_true rfl⟩ va_P_nil hK hl.1 rfl (Nat.le_of_ble_eq_true rfl) dX2_withPut_6 ⟨Nat.zero_le _, Nat.zero_le _⟩ ?_
  refine lv_istore_n (lv' := [(3, .int (f_X1_cellBit a2 (f_X1_height a1 a2))), (0, .ref (q 2)), (1, .int a1), (2, .int a2)]) hx hb dX2_withPut_9 rfl hl (by decide) rfl (fun ls hl => ?_)
  refine lv_aload_n hx hb dX2_withPut_10 rfl (lv_at hl 1 rfl) ?_
  refine va_get (D := D) (ci := 1) (v := .int plain) (C := RX2) (T := TX2) (N := 8) hx hb hts tbX2 hown hK hP 0 PW_0 rfl 4 (by decide) (hts _ tm_1_45) (fun _ h9 => h9) rfl dX2_withPut_11 ?_
  refine lv_aload_n hx hb dX2_withPut_14 rfl (lv_at hl 1 rfl) ?_
  refine va_get (D := D) (ci := 1) (v := .int key) (C := RX2) (T := TX2) (N := 8) hx hb hts tbX2 hown hK hP 0 PW_0 rfl 5 (by decide) (hts _ tm_1_46) (fun _ h9 => h9) rfl dX2_withPut_15 ?_
  refine lv_ior hx hb dX2_withPut_18 ?_
  refine lv_aload_n hx hb dX2_withPut_19 rfl (lv_at hl 1 rfl) ?_
  refine va_get (D := D) (ci := 1) (v := .int stair) (C := RX2) (T := TX2) (N := 8) hx hb hts tbX2 hown hK hP 0 PW_0 rfl 6 (by decide) (hts _ tm_1_47) (fun _ h9 => h9) rfl dX2_withPut_20 ?_
  refine lv_ior hx hb dX2_withPut_23 ?_
  refine lv_aload_n hx hb dX2_withPut_24 rfl (lv_at hl 1 rfl) ?_
  refine va_get (D := D) (ci := 1) (v := .int air) (C := RX2) (T := TX2) (N := 8) hx hb hts tbX2 hown hK hP 0 PW_0 rfl 7 (by decide) (hts _ tm_1_48) (fun _ h9 => h9) rfl dX2_withPut_25 ?_
  refine lv_ior hx hb dX2_withPut_28 ?_
  refine lv_istore (lv' := [(4, .int (((plain ||| key) ||| stair) ||| air)), (3, .int (f_X1_cellBit a2 (f_X1_height a1 a2))), (0, .ref (q 2)), (1, .int a1), (2, .int a2)]) hx hb dX2_withPut_29 hl (by decide) rfl (fun ls hl => ?_)
  refine lv_iload_n hx hb dX2_withPut_31 rfl (lv_at hl 3 rfl) ?_
  refine sRdI (As := [.int a1]) (rest := []) hF (c_X1_poles l D cI cZ q a1) (gdS tm_1_195 tm_1_196 tm_1_8 tm_1_197) de_X1_poles ⟨Nat.le_of_ble_eq_true rfl, Nat.le_of_ble_eq_true rfl⟩ va_P_nil hK hl.1 rfl (Nat.le_of_ble_eq_true rfl) dX2_withPut_32 ⟨Nat.zero_le _, Nat.zero_le _⟩ ?_
  refine lv_iload_n hx hb dX2_withPut_35 rfl (lv_at hl 1 rfl) ?_
  refine lv_ior hx hb dX2_withPut_36 ?_
  refine lv_iload_n hx hb dX2_withPut_37 rfl (lv_at hl 3 rfl) ?_
  refine sRdI (As := [.int a1]) (rest := [.int ((f_X1_poles a1) ||| (f_X1_cellBit a2 (f_X1_height a1 a2)))]) hF (c_X1_had l D cI cZ q a1) (gdS tm_2_44 tm_1_212 tm_1_8 tm_1_213) de_X1_had ⟨Nat.le_of_ble_eq_true rfl, Nat.le_of_ble_eq_true rfl⟩ va_P_nil hK hl.1 rfl (Nat.le_of_ble_eq_true rfl) dX2_withPut_38 ⟨Nat.zero_le _, Nat.zero_le _⟩ ?_
  refine lv_iload_n hx hb dX2_withPut_41 rfl (lv_at hl 1 rfl) ?_
  refine lv_iload hx hb dX2_withPut_42 (lv_at hl 0 rfl) ?_
  refine lv_iand hx hb dX2_withPut_44 ?_
  refine lv_ior hx hb dX2_withPut_45 ?_
  refine sRdI (As := [.int ((f_X1_poles a1) ||| (f_X1_cellBit a2 (f_X1_height a1 a2))), .int ((f_X1_had a1) ||| ((f_X1_cellBit a2 (f_X1_height a1 a2)) &&& (((plain ||| key) ||| stair) ||| air)))]) (rest := []) hF (c_X1_of l D cI cZ q ((f_X1_poles a1) ||| (f_X1_cellBit a2 (f_X1_height a1 a2))) ((f_X1_had a1) ||| ((f_X1_cellBit a2 (f_X1_height a1 a2)) &&& (((plain ||| key) ||| stair) ||| air)))) (gdS tm_2_45 tm_2_46 tm_1_8 tm_2_47) de_X1_of ⟨Nat.le_of_ble_eq_true rfl, Nat.le_of_ble_eq_true rfl⟩ va_P_nil hK hl.1 rfl (Nat.le_of_ble_eq_true rfl) dX2_withPut_46 ⟨Nat.zero_le _, Nat.zero_le _⟩ ?_
  subst hR
  exact fin _ _ dX2_withPut_49 (nar_i _)
def f_X2_carriedBy (plain : Int32) (key : Int32) (stair : Int32) (a1 : Int32) : Int32 := (((plain &&& (shl a1 (4 : Int32))) ||| ((key &&& ((shl a1 (1 : Int32)) &&& (-4370 : Int32))) &&& ((shr a1 (1 : Int32)) &&& (-34953 : Int32)))) ||| (stair &&& (shl ((a1 ||| ((shl a1 (1 : Int32)) &&& (-4370 : Int32))) ||| ((shr a1 (1 : Int32)) &&& (-34953 : Int32))) (4 : Int32))))
set_option maxHeartbeats 4000000 in
set_option maxRecDepth 100000 in
theorem c_X2_carriedBy (l : Launch) (D : va_G) (cI cZ : ClassId) (q : Nat → Nat) (poles parts plain key stair air : Int32) (cells kinds : Nat → Int32) (a1 : Int32) : RdI l yX2_carriedBy cX2_carriedBy 5 .int 0 0 D (tyL cI cZ) (PW cI cZ q poles parts plain key stair air cells kinds) [.ref (q 2), .int a1] (f_X2_carriedBy plain key stair a1) := by
  refine RdI.of (by decide) (Nat.le_of_ble_eq_true rfl) ?_
  intro p e s m args below meth c Q hx hb hml hown hts hP hK fin ls hl
  have hown : s.vm.findClass RX2 = some m.cls := hown
  have hF : CallFix p m c cX2_carriedBy 5 s args tb RX2 := ⟨hx, hb, hml, hown, hts⟩
  have hl : lv_has ls 5 [(0, .ref (q 2)), (1, .int a1)] := hl
  generalize hR : (f_X2_carriedBy plain key stair a1) = R at fin
  unfold f_X2_carriedBy at hR
  refine lv_iload_n hx hb dX2_carriedBy_0 rfl (lv_at hl 1 rfl) ?_
  refine lv_iconst (v := (1 : Int32)) hx hb dX2_carriedBy_1 (by decide) ?_
  refine lv_ishl hx hb dX2_carriedBy_2 ?_
  refine lv_rw (z := (shl a1 (1 : Int32))) rfl ?_
  refine lv_sipush (v := (-4370 : Int32)) hx hb dX2_carriedBy_3 (by decide) ?_
  refine lv_iand hx hb dX2_carriedBy_6 ?_
  refine lv_istore_n (lv' := [(2, .int ((shl a1 (1 : Int32)) &&& (-4370 : Int32))), (0, .ref (q 2)), (1, .int a1)]) hx hb dX2_carriedBy_7 rfl hl (by decide) rfl (fun ls hl => ?_)
  refine lv_iload_n hx hb dX2_carriedBy_8 rfl (lv_at hl 2 rfl) ?_
  refine lv_iconst (v := (1 : Int32)) hx hb dX2_carriedBy_9 (by decide) ?_
  refine lv_ishr hx hb dX2_carriedBy_10 ?_
  refine lv_rw (z := (shr a1 (1 : Int32))) rfl ?_
  refine lv_ldc (v := (-34953 : Int32)) hx hb hown (hts _ tm_1_226) dX2_carriedBy_11 ?_
  refine lv_iand hx hb dX2_carriedBy_13 ?_
  refine lv_istore_n (lv' := [(3, .int ((shr a1 (1 : Int32)) &&& (-34953 : Int32))), (2, .int ((shl a1 (1 : Int32)) &&& (-4370 : Int32))), (0, .ref (q 2)), (1, .int a1)]) hx hb dX2_carriedBy_14 rfl hl (by decide) rfl (fun ls hl => ?_)
  refine lv_iload_n hx hb dX2_carriedBy_15 rfl (lv_at hl 3 rfl) ?_
  refine lv_iload_n hx hb dX2_carriedBy_16 rfl (lv_at hl 1 rfl) ?_
  refine lv_ior hx hb dX2_carriedBy_17 ?_
  refine lv_iload_n hx hb dX2_carriedBy_18 rfl (lv_at hl 0 rfl) ?_
  refine lv_ior hx hb dX2_carriedBy_19 ?_
  refine lv_iconst (v := (4 : Int32)) hx hb dX2_carriedBy_20 (by decide) ?_
  refine lv_ishl hx hb dX2_carriedBy_21 ?_
  refine lv_rw (z := (shl ((a1 ||| ((shl a1 (1 : Int32)) &&& (-4370 : Int32))) ||| ((shr a1 (1 : Int32)) &&& (-34953 : Int32))) (4 : Int32))) rfl ?_
  refine lv_istore (lv' := [(4, .int (shl ((a1 ||| ((shl a1 (1 : Int32)) &&& (-4370 : Int32))) ||| ((shr a1 (1 : Int32)) &&& (-34953 : Int32))) (4 : Int32))), (3, .int ((shr a1 (1 : Int32)) &&& (-34953 : Int32))), (2, .int ((shl a1 (1 : Int32)) &&& (-4370 : Int32))), (0, .ref (q 2)), (1, .int a1)]) hx hb dX2_carriedBy_22 hl (by decide) rfl (fun ls hl => ?_)
  refine lv_aload_n hx hb dX2_carriedBy_24 rfl (lv_at hl 3 rfl) ?_
  refine va_get (D := D) (ci := 1) (v := .int plain) (C := RX2) (T := TX2) (N := 8) hx hb hts tbX2 hown hK hP 0 PW_0 rfl 4 (by decide) (hts _ tm_1_45) (fun _ h9 => h9) rfl dX2_carriedBy_25 ?_
  refine lv_iload_n hx hb dX2_carriedBy_28 rfl (lv_at hl 4 rfl) ?_
  refine lv_iconst (v := (4 : Int32)) hx hb dX2_carriedBy_29 (by decide) ?_
  refine lv_ishl hx hb dX2_carriedBy_30 ?_
  refine lv_rw (z := (shl a1 (4 : Int32))) rfl ?_
  refine lv_iand hx hb dX2_carriedBy_31 ?_
  refine lv_aload_n hx hb dX2_carriedBy_32 rfl (lv_at hl 3 rfl) ?_
  refine va_get (D := D) (ci := 1) (v := .int key) (C := RX2) (T := TX2) (N := 8) hx hb hts tbX2 hown hK hP 0 PW_0 rfl 5 (by decide) (hts _ tm_1_46) (fun _ h9 => h9) rfl dX2_carriedBy_33 ?_
  refine lv_iload_n hx hb dX2_carriedBy_36 rfl (lv_at hl 2 rfl) ?_
  refine lv_iand hx hb dX2_carriedBy_37 ?_
  refine lv_iload_n hx hb dX2_carriedBy_38 rfl (lv_at hl 1 rfl) ?_
  refine lv_iand hx hb dX2_carriedBy_39 ?_
  refine lv_ior hx hb dX2_carriedBy_40 ?_
  refine lv_aload_n hx hb dX2_carriedBy_41 rfl (lv_at hl 3 rfl) ?_
  refine va_get (D := D) (ci := 1) (v := .int stair) (C := RX2) (T := TX2) (N := 8) hx hb hts tbX2 hown hK hP 0 PW_0 rfl 6 (by decide) (hts _ tm_1_47) (fun _ h9 => h9) rfl dX2_carriedBy_42 ?_
  refine lv_iload hx hb dX2_carriedBy_45 (lv_at hl 0 rfl) ?_
  refine lv_iand hx hb dX2_carriedBy_47 ?_
  refine lv_ior hx hb dX2_carriedBy_48 ?_
  subst hR
  exact fin _ _ dX2_carriedBy_49 (nar_i _)
def f_X2_standing_l15 (plain : Int32) (key : Int32) (stair : Int32) (a1 : Int32) : Nat → Nat → (Int32) → Int32
  | 0, i_15, sd => sd
  | d_15 + 1, i_15, sd => (if (sd ||| (a1 &&& (f_X2_carriedBy plain key stair sd))) = sd then sd else (f_X2_standing_l15 plain key stair a1 d_15 (i_15 + 1) (sd ||| (a1 &&& (f_X2_carriedBy plain key stair sd)))))
theorem f_X2_standing_l15_z {plain : Int32} {key : Int32} {stair : Int32} {a1 : Int32} {i_15 : Nat} {sd : Int32} : f_X2_standing_l15 plain key stair a1 0 i_15 sd = sd := rfl
theorem f_X2_standing_l15_s {plain : Int32} {key : Int32} {stair : Int32} {a1 : Int32} {d_15 : Nat} {i_15 : Nat} {sd : Int32} : f_X2_standing_l15 plain key stair a1 (d_15 + 1) i_15 sd = (if (sd ||| (a1 &&& (f_X2_carriedBy plain key stair sd))) = sd then sd else (f_X2_standing_l15 plain key stair a1 d_15 (i_15 + 1) (sd ||| (a1 &&& (f_X2_carriedBy plain key stair sd))))) := rfl
def f_X2_standing (plain : Int32) (key : Int32) (stair : Int32) (air : Int32) (a1 : Int32) (a2 : Int32) : Int32 := (f_X2_standing_l15 plain key stair a1 7 0 (a1 &&& ((a2 ||| (15 : Int32)) ||| air)))
set_option maxHeartbeats 4000000 in
set_option maxRecDepth 100000 in
theorem c_X2_standing (l : Launch) (D : va_G) (cI cZ : ClassId) (q : Nat → Nat) (poles parts plain key stair air : Int32) (cells kinds : Nat → Int32) (a1 : Int32) (a2 : Int32) : RdI l yX2_standing cX2_standing 6 .int 1 24 D (tyL cI cZ) (PW cI cZ q poles parts plain key stair air cells kinds) [.ref (q 2), .int a1, .int a2] (f_X2_standing plain key stair air a1 a2) := by
  refine RdI.of (by decide) (Nat.le_of_ble_eq_true rfl) ?_
  intro p e s m args below meth c Q hx hb hml hown hts hP hK fin ls hl
  have hown : s.vm.findClass RX2 = some m.cls := hown
  have hF : CallFix p m c cX2_standing 6 s args tb RX2 := ⟨hx, hb, hml, hown, hts⟩
  have hl : lv_has ls 6 [(0, .ref (q 2)), (1, .int a1), (2, .int a2)] := hl
  generalize hR : (f_X2_standing plain key stair air a1 a2) = R at fin
  unfold f_X2_standing at hR
  refine lv_iload_n hx hb dX2_standing_0 rfl (lv_at hl 1 rfl) ?_
  refine lv_iload_n hx hb dX2_standing_1 rfl (lv_at hl 2 rfl) ?_
  refine lv_bipush (v := (15 : Int32)) hx hb dX2_standing_2 (by decide) ?_
  refine lv_ior hx hb dX2_standing_4 ?_
  refine lv_aload_n hx hb dX2_standing_5 rfl (lv_at hl 0 rfl) ?_
  refine va_get (D := D) (ci := 1) (v := .int air) (C := RX2) (T := TX2) (N := 8) hx hb hts tbX2 hown hK hP 0 PW_0 rfl 7 (by decide) (hts _ tm_1_48) (fun _ h9 => h9) rfl dX2_standing_6 ?_
  refine lv_ior hx hb dX2_standing_9 ?_
  refine lv_iand hx hb dX2_standing_10 ?_
  refine lv_istore_n (lv' := [(3, .int (a1 &&& ((a2 ||| (15 : Int32)) ||| air))), (0, .ref (q 2)), (1, .int a1), (2, .int a2)]) hx hb dX2_standing_11 rfl hl (by decide) rfl (fun ls hl => ?_)
  refine lv_iconst (v := (0 : Int32)) hx hb dX2_standing_12 (by decide) ?_
  refine lv_istore (lv' := [(4, .int (0 : Int32)), (3, .int (a1 &&& ((a2 ||| (15 : Int32)) ||| air))), (0, .ref (q 2)), (1, .int a1), (2, .int a2)]) hx hb dX2_standing_13 hl (by decide) rfl (fun ls hl => ?_)
  have key_15 : ∀ (d_15 i_15 : Nat) (sd : Int32) (ls : Array Slot), i_15 + d_15 = 7 → f_X2_standing_l15 plain key stair a1 d_15 i_15 sd = R → lv_has ls 6 [(4, .int (nI i_15)), (3, .int sd), (0, .ref (q 2)), (1, .int a1), (2, .int a2)] → W p l e (rmO 1 24) s m args below meth c s.heap [] 0 0 Q (F0 m 15 ls []) := by
    intro d_15
    induction d_15 with
    | zero =>
      intro i_15 sd ls hi_15 hR hl
      rw [f_X2_standing_l15_z] at hR
      refine lv_iload hx hb dX2_standing_15 (lv_at hl 0 rfl) ?_
      refine lv_bipush (v := (7 : Int32)) hx hb dX2_standing_17 (by decide) ?_
      refine lv_icmp_ge (tgt := 50) hx hb dX2_standing_19 (by decide) (fun c_19 => ?_) (fun c_19 => absurd (nI_le (a := 7) (by omega) (by omega)) c_19)
      refine lv_iload_n hx hb dX2_standing_50 rfl (lv_at hl 1 rfl) ?_
      subst hR
      exact fin _ _ dX2_standing_51 (nar_i _)
    | succ d_15 ih_15 =>
      intro i_15 sd ls hi_15 hR hl
      rw [f_X2_standing_l15_s] at hR
      refine lv_iload hx hb dX2_standing_15 (lv_at hl 0 rfl) ?_
      refine lv_bipush (v := (7 : Int32)) hx hb dX2_standing_17 (by decide) ?_
      refine lv_icmp_ge (tgt := 50) hx hb dX2_standing_19 (by decide) (fun c_19 => absurd c_19 (nI_ge (b := 7) (by omega) (by omega))) (fun c_19 => ?_)
      refine lv_iload_n hx hb dX2_standing_22 rfl (lv_at hl 1 rfl) ?_
      refine lv_iload_n hx hb dX2_standing_23 rfl (lv_at hl 3 rfl) ?_
      refine lv_aload_n hx hb dX2_standing_24 rfl (lv_at hl 2 rfl) ?_
      refine lv_iload_n hx hb dX2_standing_25 rfl (lv_at hl 1 rfl) ?_
      refine vRdI (b := (q 2)) (As := [.int sd]) (rest := [.int a1, .int sd]) hF (c_X2_carriedBy l D cI cZ q poles parts plain key stair air cells kinds sd) (gdV tm_1_222 tm_1_223 tm_1_224 tm_1_3 tm_1_225) de_X2_carriedBy ⟨Nat.le_of_ble_eq_true rfl, Nat.le_of_ble_eq_true rfl⟩ hP hK (va_recv hK hP (ci := 1) (q0 := 0) rfl PW_0) hl.1 rfl (Nat.le_of_ble_eq_true rfl) dX2_standing_26 ⟨Nat.zero_le _, Nat.zero_le _⟩ ?_
      refine lv_iand hx hb dX2_standing_29 ?_
      refine lv_ior hx hb dX2_standing_30 ?_
      refine lv_istore (lv' := [(5, .int (sd ||| (a1 &&& (f_X2_carriedBy plain key stair sd)))), (4, .int (nI i_15)), (3, .int sd), (0, .ref (q 2)), (1, .int a1), (2, .int a2)]) hx hb dX2_standing_31 hl (by decide) rfl (fun ls hl => ?_)
      refine lv_iload hx hb dX2_standing_33 (lv_at hl 0 rfl) ?_
      refine lv_iload_n hx hb dX2_standing_35 rfl (lv_at hl 2 rfl) ?_
      refine lv_icmp_ne (tgt := 41) hx hb dX2_standing_36 (by decide) (fun c_36 => ?_) (fun c_36 => ?_)
      · rw [if_neg c_36] at hR
        refine lv_iload hx hb dX2_standing_41 (lv_at hl 0 rfl) ?_
        refine lv_istore_n (lv' := [(3, .int (sd ||| (a1 &&& (f_X2_carriedBy plain key stair sd)))), (5, .int (sd ||| (a1 &&& (f_X2_carriedBy plain key stair sd)))), (4, .int (nI i_15)), (0, .ref (q 2)), (1, .int a1), (2, .int a2)]) hx hb dX2_standing_43 rfl hl (by decide) rfl (fun ls hl => ?_)
        refine lv_iinc (v := (nI (i_15 + 1))) (lv' := [(4, .int (nI (i_15 + 1))), (3, .int (sd ||| (a1 &&& (f_X2_carriedBy plain key stair sd)))), (5, .int (sd ||| (a1 &&& (f_X2_carriedBy plain key stair sd)))), (0, .ref (q 2)), (1, .int a1), (2, .int a2)]) hx hb dX2_standing_44 hl (k := 2) rfl (nI_up i_15) (by decide) rfl (fun ls hl => ?_)
        refine lv_goto (tgt := 15) hx hb dX2_standing_47 (by decide) ?_
        exact ih_15 (i_15 + 1) (sd ||| (a1 &&& (f_X2_carriedBy plain key stair sd))) ls (by omega) hR (lv_sub hl [0, 1, 3, 4, 5] rfl)
      · rw [if_pos c_36] at hR
        refine lv_iload_n hx hb dX2_standing_39 rfl (lv_at hl 2 rfl) ?_
        subst hR
        exact fin _ _ dX2_standing_40 (nar_i _)
  exact key_15 7 0 (a1 &&& ((a2 ||| (15 : Int32)) ||| air)) ls (by omega) hR (lv_sub hl [0, 1, 2, 3, 4] rfl)
def f_X2_withStruck (plain : Int32) (key : Int32) (stair : Int32) (air : Int32) (a1 : Int32) (a2 : Int32) : Int32 := (f_X1_of ((f_X1_poles a1) &&& ((f_X1_cellBit a2 ((f_X1_height a1 a2) - (1 : Int32))) ^^^ (-1 : Int32))) (f_X2_standing plain key stair air (f_X1_had a1) ((f_X1_poles a1) &&& ((f_X1_cellBit a2 ((f_X1_height a1 a2) - (1 : Int32))) ^^^ (-1 : Int32)))))
set_option maxHeartbeats 4000000 in
set_option maxRecDepth 100000 in
theorem c_X2_withStruck (l : Launch) (D : va_G) (cI cZ : ClassId) (q : Nat → Nat) (poles parts plain key stair air : Int32) (cells kinds : Nat → Int32) (a1 : Int32) (a2 : Int32) : RdI l yX2_withStruck cX2_withStruck 5 .int 2 49 D (tyL cI cZ) (PW cI cZ q poles parts plain key stair air cells kinds) [.ref (q 2), .int a1, .int a2] (f_X2_withStruck plain key stair air a1 a2) := by
  refine RdI.of (by decide) (Nat.le_of_ble_eq_true rfl) ?_
  intro p e s m args below meth c Q hx hb hml hown hts hP hK fin ls hl
  have hown : s.vm.findClass RX2 = some m.cls := hown
  have hF : CallFix p m c cX2_withStruck 5 s args tb RX2 := ⟨hx, hb, hml, hown, hts⟩
  have hl : lv_has ls 5 [(0, .ref (q 2)), (1, .int a1), (2, .int a2)] := hl
  generalize hR : (f_X2_withStruck plain key stair air a1 a2) = R at fin
  unfold f_X2_withStruck at hR
  refine lv_iload_n hx hb dX2_withStruck_0 rfl (lv_at hl 2 rfl) ?_
  refine lv_iload_n hx hb dX2_withStruck_1 rfl (lv_at hl 1 rfl) ?_
  refine lv_iload_n hx hb dX2_withStruck_2 rfl (lv_at hl 2 rfl) ?_
  refine sRdI (As := [.int a1, .int a2]) (rest := [.int a2]) hF (c_X1_height l D cI cZ q a1 a2) (gdS tm_2_40 tm_2_12 tm_1_8 tm_2_13) de_X1_height ⟨Nat.le_of_ble_eq_true rfl, Nat.le_of_ble_eq_true rfl⟩ va_P_nil hK hl.1 rfl (Nat.le_of_ble_eq_true rfl) dX2_withStruck_3 ⟨Nat.zero_le _, Nat.zero_le _⟩ ?_
  refine lv_iconst (v := (1 : Int32)) hx hb dX2_withStruck_6 (by decide) ?_
  refine lv_isub hx hb dX2_withStruck_7 ?_
  refine sRdI (As := [.int a2, .int ((f_X1_height a1 a2) - (1 : Int32))]) (rest := []) hF (c_X1_cellBit l D cI cZ q a2 ((f_X1_height a1 a2) - (1 : Int32))) (gdS tm_2_41 tm_2_42 tm_1_8 tm_2_43) de_X1_cellBit ⟨Nat.le_of_ble_eq_true rfl, Nat.le_of_ble_eq_true rfl⟩ va_P_nil hK hl.1 rfl (Nat.le_of_ble_eq_true rfl) dX2_withStruck_8 ⟨Nat.zero_le _, Nat.zero_le _⟩ ?_
  refine lv_istore_n (lv' := [(3, .int (f_X1_cellBit a2 ((f_X1_height a1 a2) - (1 : Int32)))), (0, .ref (q 2)), (1, .int a1), (2, .int a2)]) hx hb dX2_withStruck_11 rfl hl (by decide) rfl (fun ls hl => ?_)
  refine lv_iload_n hx hb dX2_withStruck_12 rfl (lv_at hl 2 rfl) ?_
  refine sRdI (As := [.int a1]) (rest := []) hF (c_X1_poles l D cI cZ q a1) (gdS tm_1_195 tm_1_196 tm_1_8 tm_1_197) de_X1_poles ⟨Nat.le_of_ble_eq_true rfl, Nat.le_of_ble_eq_true rfl⟩ va_P_nil hK hl.1 rfl (Nat.le_of_ble_eq_true rfl) dX2_withStruck_13 ⟨Nat.zero_le _, Nat.zero_le _⟩ ?_
  refine lv_iload_n hx hb dX2_withStruck_16 rfl (lv_at hl 0 rfl) ?_
  refine lv_iconst (v := (-1 : Int32)) hx hb dX2_withStruck_17 (by decide) ?_
  refine lv_ixor hx hb dX2_withStruck_18 ?_
  refine lv_iand hx hb dX2_withStruck_19 ?_
  refine lv_istore (lv' := [(4, .int ((f_X1_poles a1) &&& ((f_X1_cellBit a2 ((f_X1_height a1 a2) - (1 : Int32))) ^^^ (-1 : Int32)))), (3, .int (f_X1_cellBit a2 ((f_X1_height a1 a2) - (1 : Int32)))), (0, .ref (q 2)), (1, .int a1), (2, .int a2)]) hx hb dX2_withStruck_20 hl (by decide) rfl (fun ls hl => ?_)
  refine lv_iload hx hb dX2_withStruck_22 (lv_at hl 0 rfl) ?_
  refine lv_aload_n hx hb dX2_withStruck_24 rfl (lv_at hl 2 rfl) ?_
  refine lv_iload_n hx hb dX2_withStruck_25 rfl (lv_at hl 3 rfl) ?_
  refine sRdI (As := [.int a1]) (rest := [.ref (q 2), .int ((f_X1_poles a1) &&& ((f_X1_cellBit a2 ((f_X1_height a1 a2) - (1 : Int32))) ^^^ (-1 : Int32)))]) hF (c_X1_had l D cI cZ q a1) (gdS tm_2_44 tm_1_212 tm_1_8 tm_1_213) de_X1_had ⟨Nat.le_of_ble_eq_true rfl, Nat.le_of_ble_eq_true rfl⟩ va_P_nil hK hl.1 rfl (Nat.le_of_ble_eq_true rfl) dX2_withStruck_26 ⟨Nat.zero_le _, Nat.zero_le _⟩ ?_
  refine lv_iload hx hb dX2_withStruck_29 (lv_at hl 0 rfl) ?_
  refine vRdI (b := (q 2)) (As := [.int (f_X1_had a1), .int ((f_X1_poles a1) &&& ((f_X1_cellBit a2 ((f_X1_height a1 a2) - (1 : Int32))) ^^^ (-1 : Int32)))]) (rest := [.int ((f_X1_poles a1) &&& ((f_X1_cellBit a2 ((f_X1_height a1 a2) - (1 : Int32))) ^^^ (-1 : Int32)))]) hF (c_X2_standing l D cI cZ q poles parts plain key stair air cells kinds (f_X1_had a1) ((f_X1_poles a1) &&& ((f_X1_cellBit a2 ((f_X1_height a1 a2) - (1 : Int32))) ^^^ (-1 : Int32)))) (gdV tm_2_64 tm_1_219 tm_1_220 tm_1_3 tm_1_221) de_X2_standing ⟨Nat.le_of_ble_eq_true rfl, Nat.le_of_ble_eq_true rfl⟩ hP hK (va_recv hK hP (ci := 1) (q0 := 0) rfl PW_0) hl.1 rfl (Nat.le_of_ble_eq_true rfl) dX2_withStruck_31 ⟨Nat.zero_le _, Nat.zero_le _⟩ ?_
  refine sRdI (As := [.int ((f_X1_poles a1) &&& ((f_X1_cellBit a2 ((f_X1_height a1 a2) - (1 : Int32))) ^^^ (-1 : Int32))), .int (f_X2_standing plain key stair air (f_X1_had a1) ((f_X1_poles a1) &&& ((f_X1_cellBit a2 ((f_X1_height a1 a2) - (1 : Int32))) ^^^ (-1 : Int32))))]) (rest := []) hF (c_X1_of l D cI cZ q ((f_X1_poles a1) &&& ((f_X1_cellBit a2 ((f_X1_height a1 a2) - (1 : Int32))) ^^^ (-1 : Int32))) (f_X2_standing plain key stair air (f_X1_had a1) ((f_X1_poles a1) &&& ((f_X1_cellBit a2 ((f_X1_height a1 a2) - (1 : Int32))) ^^^ (-1 : Int32))))) (gdS tm_2_45 tm_2_46 tm_1_8 tm_2_47) de_X1_of ⟨Nat.le_of_ble_eq_true rfl, Nat.le_of_ble_eq_true rfl⟩ va_P_nil hK hl.1 rfl (Nat.le_of_ble_eq_true rfl) dX2_withStruck_34 ⟨Nat.zero_le _, Nat.zero_le _⟩ ?_
  subst hR
  exact fin _ _ dX2_withStruck_37 (nar_i _)
def f_X2_withRain (plain : Int32) (key : Int32) (stair : Int32) (air : Int32) (a1 : Int32) : Int32 := (f_X1_of (f_X1_poles a1) (f_X2_standing plain key stair air ((f_X1_had a1) &&& ((air &&& ((f_X1_poles a1) ^^^ (-1 : Int32))) ^^^ (-1 : Int32))) (f_X1_poles a1)))
set_option maxHeartbeats 4000000 in
set_option maxRecDepth 100000 in
theorem c_X2_withRain (l : Launch) (D : va_G) (cI cZ : ClassId) (q : Nat → Nat) (poles parts plain key stair air : Int32) (cells kinds : Nat → Int32) (a1 : Int32) : RdI l yX2_withRain cX2_withRain 4 .int 2 49 D (tyL cI cZ) (PW cI cZ q poles parts plain key stair air cells kinds) [.ref (q 2), .int a1] (f_X2_withRain plain key stair air a1) := by
  refine RdI.of (by decide) (Nat.le_of_ble_eq_true rfl) ?_
  intro p e s m args below meth c Q hx hb hml hown hts hP hK fin ls hl
  have hown : s.vm.findClass RX2 = some m.cls := hown
  have hF : CallFix p m c cX2_withRain 4 s args tb RX2 := ⟨hx, hb, hml, hown, hts⟩
  have hl : lv_has ls 4 [(0, .ref (q 2)), (1, .int a1)] := hl
  generalize hR : (f_X2_withRain plain key stair air a1) = R at fin
  unfold f_X2_withRain at hR
  refine lv_iload_n hx hb dX2_withRain_0 rfl (lv_at hl 1 rfl) ?_
  refine sRdI (As := [.int a1]) (rest := []) hF (c_X1_poles l D cI cZ q a1) (gdS tm_1_195 tm_1_196 tm_1_8 tm_1_197) de_X1_poles ⟨Nat.le_of_ble_eq_true rfl, Nat.le_of_ble_eq_true rfl⟩ va_P_nil hK hl.1 rfl (Nat.le_of_ble_eq_true rfl) dX2_withRain_1 ⟨Nat.zero_le _, Nat.zero_le _⟩ ?_
  refine lv_istore_n (lv' := [(2, .int (f_X1_poles a1)), (0, .ref (q 2)), (1, .int a1)]) hx hb dX2_withRain_4 rfl hl (by decide) rfl (fun ls hl => ?_)
  refine lv_iload_n hx hb dX2_withRain_5 rfl (lv_at hl 2 rfl) ?_
  refine sRdI (As := [.int a1]) (rest := []) hF (c_X1_had l D cI cZ q a1) (gdS tm_2_44 tm_1_212 tm_1_8 tm_1_213) de_X1_had ⟨Nat.le_of_ble_eq_true rfl, Nat.le_of_ble_eq_true rfl⟩ va_P_nil hK hl.1 rfl (Nat.le_of_ble_eq_true rfl) dX2_withRain_6 ⟨Nat.zero_le _, Nat.zero_le _⟩ ?_
  refine lv_aload_n hx hb dX2_withRain_9 rfl (lv_at hl 1 rfl) ?_
  refine va_get (D := D) (ci := 1) (v := .int air) (C := RX2) (T := TX2) (N := 8) hx hb hts tbX2 hown hK hP 0 PW_0 rfl 7 (by decide) (hts _ tm_1_48) (fun _ h9 => h9) rfl dX2_withRain_10 ?_
  refine lv_iload_n hx hb dX2_withRain_13 rfl (lv_at hl 0 rfl) ?_
  refine lv_iconst (v := (-1 : Int32)) hx hb dX2_withRain_14 (by decide) ?_
  refine lv_ixor hx hb dX2_withRain_15 ?_
  refine lv_iand hx hb dX2_withRain_16 ?_
  refine lv_iconst (v := (-1 : Int32)) hx hb dX2_withRain_17 (by decide) ?_
  refine lv_ixor hx hb dX2_withRain_18 ?_
  refine lv_iand hx hb dX2_withRain_19 ?_
  refine lv_istore_n (lv' := [(3, .int ((f_X1_had a1) &&& ((air &&& ((f_X1_poles a1) ^^^ (-1 : Int32))) ^^^ (-1 : Int32)))), (2, .int (f_X1_poles a1)), (0, .ref (q 2)), (1, .int a1)]) hx hb dX2_withRain_20 rfl hl (by decide) rfl (fun ls hl => ?_)
  refine lv_iload_n hx hb dX2_withRain_21 rfl (lv_at hl 1 rfl) ?_
  refine lv_aload_n hx hb dX2_withRain_22 rfl (lv_at hl 2 rfl) ?_
  refine lv_iload_n hx hb dX2_withRain_23 rfl (lv_at hl 0 rfl) ?_
  refine lv_iload_n hx hb dX2_withRain_24 rfl (lv_at hl 1 rfl) ?_
  refine vRdI (b := (q 2)) (As := [.int ((f_X1_had a1) &&& ((air &&& ((f_X1_poles a1) ^^^ (-1 : Int32))) ^^^ (-1 : Int32))), .int (f_X1_poles a1)]) (rest := [.int (f_X1_poles a1)]) hF (c_X2_standing l D cI cZ q poles parts plain key stair air cells kinds ((f_X1_had a1) &&& ((air &&& ((f_X1_poles a1) ^^^ (-1 : Int32))) ^^^ (-1 : Int32))) (f_X1_poles a1)) (gdV tm_2_64 tm_1_219 tm_1_220 tm_1_3 tm_1_221) de_X2_standing ⟨Nat.le_of_ble_eq_true rfl, Nat.le_of_ble_eq_true rfl⟩ hP hK (va_recv hK hP (ci := 1) (q0 := 0) rfl PW_0) hl.1 rfl (Nat.le_of_ble_eq_true rfl) dX2_withRain_25 ⟨Nat.zero_le _, Nat.zero_le _⟩ ?_
  refine sRdI (As := [.int (f_X1_poles a1), .int (f_X2_standing plain key stair air ((f_X1_had a1) &&& ((air &&& ((f_X1_poles a1) ^^^ (-1 : Int32))) ^^^ (-1 : Int32))) (f_X1_poles a1))]) (rest := []) hF (c_X1_of l D cI cZ q (f_X1_poles a1) (f_X2_standing plain key stair air ((f_X1_had a1) &&& ((air &&& ((f_X1_poles a1) ^^^ (-1 : Int32))) ^^^ (-1 : Int32))) (f_X1_poles a1))) (gdS tm_2_45 tm_2_46 tm_1_8 tm_2_47) de_X1_of ⟨Nat.le_of_ble_eq_true rfl, Nat.le_of_ble_eq_true rfl⟩ va_P_nil hK hl.1 rfl (Nat.le_of_ble_eq_true rfl) dX2_withRain_28 ⟨Nat.zero_le _, Nat.zero_le _⟩ ?_
  subst hR
  exact fin _ _ dX2_withRain_31 (nar_i _)
def f_X2_countStanding (plain : Int32) (key : Int32) (stair : Int32) (air : Int32) (cells : Nat → Int32) (a1 : Int32) : Int32 := (f_J6_bitCount (f_X2_standing plain key stair air (f_X2_cellsOf cells a1) (0 : Int32)))
set_option maxHeartbeats 4000000 in
set_option maxRecDepth 100000 in
theorem c_X2_countStanding (l : Launch) (D : va_G) (cI cZ : ClassId) (q : Nat → Nat) (poles parts plain key stair air : Int32) (cells kinds : Nat → Int32) (a1 : Int32) : RdI l yX2_countStanding cX2_countStanding 2 .int 2 49 D (tyL cI cZ) (PW cI cZ q poles parts plain key stair air cells kinds) [.ref (q 2), .int a1] (f_X2_countStanding plain key stair air cells a1) := by
  refine RdI.of (by decide) (Nat.le_of_ble_eq_true rfl) ?_
  intro p e s m args below meth c Q hx hb hml hown hts hP hK fin ls hl
  have hown : s.vm.findClass RX2 = some m.cls := hown
  have hF : CallFix p m c cX2_countStanding 2 s args tb RX2 := ⟨hx, hb, hml, hown, hts⟩
  have hl : lv_has ls 2 [(0, .ref (q 2)), (1, .int a1)] := hl
  generalize hR : (f_X2_countStanding plain key stair air cells a1) = R at fin
  unfold f_X2_countStanding at hR
  refine lv_aload_n hx hb dX2_countStanding_0 rfl (lv_at hl 0 rfl) ?_
  refine lv_aload_n hx hb dX2_countStanding_1 rfl (lv_at hl 0 rfl) ?_
  refine lv_iload_n hx hb dX2_countStanding_2 rfl (lv_at hl 1 rfl) ?_
  refine vRdI (b := (q 2)) (As := [.int a1]) (rest := [.ref (q 2)]) hF (c_X2_cellsOf l D cI cZ q poles parts plain key stair air cells kinds a1) (gdV tm_2_143 tm_2_101 tm_2_102 tm_1_3 tm_2_103) de_X2_cellsOf ⟨Nat.le_of_ble_eq_true rfl, Nat.le_of_ble_eq_true rfl⟩ hP hK (va_recv hK hP (ci := 1) (q0 := 0) rfl PW_0) hl.1 rfl (Nat.le_of_ble_eq_true rfl) dX2_countStanding_3 ⟨Nat.zero_le _, Nat.zero_le _⟩ ?_
  refine lv_iconst (v := (0 : Int32)) hx hb dX2_countStanding_6 (by decide) ?_
  refine vRdI (b := (q 2)) (As := [.int (f_X2_cellsOf cells a1), .int (0 : Int32)]) (rest := []) hF (c_X2_standing l D cI cZ q poles parts plain key stair air cells kinds (f_X2_cellsOf cells a1) (0 : Int32)) (gdV tm_2_64 tm_1_219 tm_1_220 tm_1_3 tm_1_221) de_X2_standing ⟨Nat.le_of_ble_eq_true rfl, Nat.le_of_ble_eq_true rfl⟩ hP hK (va_recv hK hP (ci := 1) (q0 := 0) rfl PW_0) hl.1 rfl (Nat.le_of_ble_eq_true rfl) dX2_countStanding_7 ⟨Nat.zero_le _, Nat.zero_le _⟩ ?_
  refine sRdI (As := [.int (f_X2_standing plain key stair air (f_X2_cellsOf cells a1) (0 : Int32))]) (rest := []) hF (c_J6_bitCount l D cI cZ q (f_X2_standing plain key stair air (f_X2_cellsOf cells a1) (0 : Int32))) (gdS tm_1_199 tm_1_200 tm_1_9 tm_1_201) de_J6_bitCount_0f7a4 ⟨Nat.le_of_ble_eq_true rfl, Nat.le_of_ble_eq_true rfl⟩ va_P_nil hK hl.1 rfl (Nat.le_of_ble_eq_true rfl) dX2_countStanding_10 ⟨Nat.zero_le _, Nat.zero_le _⟩ ?_
  subst hR
  exact fin _ _ dX2_countStanding_13 (nar_i _)
end
section
theorem de_X3_letterAt : deOK yX3_letterAt 1 := by decide +kernel
theorem de_X3_fits : deOK yX3_fits 3 := by decide +kernel
theorem de_X3_firstFault : deOK yX3_firstFault 0 := by decide +kernel
theorem de_X3_parts : deOK yX3_parts 0 := by decide +kernel
theorem de_X3_cellOfPart : deOK yX3_cellOfPart 1 := by decide +kernel
theorem de_X3_kindOfPart : deOK yX3_kindOfPart 1 := by decide +kernel
theorem de_X3_append : deOK yX3_append 1 := by decide +kernel
def f_X3_letterAt (length : Int32) (letters : Nat → Int32) (a1 : Int32) : Int32 := (if a1 < (0 : Int32) then (0 : Int32) else (if length ≤ a1 then (0 : Int32) else (if (32 : Int32) ≤ a1 then (0 : Int32) else (letters a1.toNatClampNeg))))
set_option maxHeartbeats 4000000 in
set_option maxRecDepth 100000 in
theorem c_X3_letterAt (l : Launch) (D : va_G) (cI cZ : ClassId) (q : Nat → Nat) (length : Int32) (letters : Nat → Int32) (a1 : Int32) : RdI l yX3_letterAt cX3_letterAt 2 .int 0 0 D (tyL cI cZ) (TW cI cZ q length letters) [.ref (q 1), .int a1] (f_X3_letterAt length letters a1) := by
  refine RdI.of (by decide) (Nat.le_of_ble_eq_true rfl) ?_
  intro p e s m args below meth c Q hx hb hml hown hts hP hK fin ls hl
  have hown : s.vm.findClass RX3 = some m.cls := hown
  have hF : CallFix p m c cX3_letterAt 2 s args tb RX3 := ⟨hx, hb, hml, hown, hts⟩
  have hl : lv_has ls 2 [(0, .ref (q 1)), (1, .int a1)] := hl
  generalize hR : (f_X3_letterAt length letters a1) = R at fin
  unfold f_X3_letterAt at hR
  refine lv_iload_n hx hb dX3_letterAt_0 rfl (lv_at hl 1 rfl) ?_
  refine lv_if_lt (tgt := 30) hx hb dX3_letterAt_1 (by decide) (fun c_1 => ?_) (fun c_1 => ?_)
  · rw [if_pos c_1] at hR
    refine lv_iconst (v := (0 : Int32)) hx hb dX3_letterAt_30 (by decide) ?_
    subst hR
    exact fin _ _ dX3_letterAt_31 (nar_i _)
  · rw [if_neg c_1] at hR
    refine lv_iload_n hx hb dX3_letterAt_4 rfl (lv_at hl 1 rfl) ?_
    refine lv_aload_n hx hb dX3_letterAt_5 rfl (lv_at hl 0 rfl) ?_
    refine va_get (D := D) (ci := 2) (v := .int length) (C := RX3) (T := TX3) (N := 2) hx hb hts tbX3 hown hK hP 0 TW_0 rfl 1 (by decide) (hts _ tm_1_25) (fun _ h9 => h9) rfl dX3_letterAt_6 ?_
    refine lv_icmp_ge (tgt := 30) hx hb dX3_letterAt_9 (by decide) (fun c_9 => ?_) (fun c_9 => ?_)
    · rw [if_pos c_9] at hR
      refine lv_iconst (v := (0 : Int32)) hx hb dX3_letterAt_30 (by decide) ?_
      subst hR
      exact fin _ _ dX3_letterAt_31 (nar_i _)
    · rw [if_neg c_9] at hR
      refine lv_iload_n hx hb dX3_letterAt_12 rfl (lv_at hl 1 rfl) ?_
      refine lv_aload_n hx hb dX3_letterAt_13 rfl (lv_at hl 0 rfl) ?_
      refine va_get (D := D) (ci := 2) (v := .ref (q 5)) (C := RX3) (T := TX3) (N := 2) hx hb hts tbX3 hown hK hP 0 TW_0 rfl 0 (by decide) (hts _ tm_1_24) (fun _ h9 => h9) rfl dX3_letterAt_14 ?_
      refine va_alen (v := (32 : Int32)) hx hb hK hP 1 0 TW_1 rfl rfl dX3_letterAt_17 ?_
      refine lv_icmp_ge (tgt := 30) hx hb dX3_letterAt_18 (by decide) (fun c_18 => ?_) (fun c_18 => ?_)
      · rw [if_pos c_18] at hR
        refine lv_iconst (v := (0 : Int32)) hx hb dX3_letterAt_30 (by decide) ?_
        subst hR
        exact fin _ _ dX3_letterAt_31 (nar_i _)
      · rw [if_neg c_18] at hR
        refine lv_aload_n hx hb dX3_letterAt_21 rfl (lv_at hl 0 rfl) ?_
        refine va_get (D := D) (ci := 2) (v := .ref (q 5)) (C := RX3) (T := TX3) (N := 2) hx hb hts tbX3 hown hK hP 0 TW_0 rfl 0 (by decide) (hts _ tm_1_24) (fun _ h9 => h9) rfl dX3_letterAt_22 ?_
        refine lv_iload_n hx hb dX3_letterAt_25 rfl (lv_at hl 1 rfl) ?_
        refine va_iald hx hb hK hP 1 0 TW_1 rfl (vi_b (b := 32) (by decide) c_1 c_18) dX3_letterAt_26 ?_
        refine lv_goto (tgt := 31) hx hb dX3_letterAt_27 (by decide) ?_
        subst hR
        exact fin _ _ dX3_letterAt_31 (nar_i _)
def f_X3_fits (a1 : Int32) (a2 : Int32) (a3 : Int32) : Int32 := (if a1 = (0 : Int32) then (if a2 = (73 : Int32) then (1 : Int32) else (0 : Int32)) else (if a1 = (1 : Int32) then (if a2 < (48 : Int32) then (0 : Int32) else (if (57 : Int32) < a2 then (0 : Int32) else (1 : Int32))) else (if a1 < (23 : Int32) then (if (jr (a1 - (2 : Int32)) (3 : Int32)) = (0 : Int32) then (if a2 = (80 : Int32) then (1 : Int32) else (0 : Int32)) else (if (jr (a1 - (2 : Int32)) (3 : Int32)) = (1 : Int32) then (if a2 < (97 : Int32) then (0 : Int32) else (if (112 : Int32) < a2 then (0 : Int32) else (if ((shr a3 (a2 - (97 : Int32))) &&& (1 : Int32)) = (0 : Int32) then (1 : Int32) else (0 : Int32)))) else (if a2 < (48 : Int32) then (0 : Int32) else (if (51 : Int32) < a2 then (0 : Int32) else (1 : Int32))))) else (0 : Int32))))
set_option maxHeartbeats 4000000 in
set_option maxRecDepth 100000 in
theorem c_X3_fits (l : Launch) (D : va_G) (cI cZ : ClassId) (q : Nat → Nat) (a1 : Int32) (a2 : Int32) (a3 : Int32) : RdI l yX3_fits cX3_fits 3 .boolean 0 0 D (tyL cI cZ) [] [.int a1, .int a2, .int a3] (f_X3_fits a1 a2 a3) := by
  refine RdI.of (by decide) (Nat.le_of_ble_eq_true rfl) ?_
  intro p e s m args below meth c Q hx hb hml hown hts hP hK fin ls hl
  have hown : s.vm.findClass RX3 = some m.cls := hown
  have hF : CallFix p m c cX3_fits 3 s args tb RX3 := ⟨hx, hb, hml, hown, hts⟩
  have hl : lv_has ls 3 [(0, .int a1), (1, .int a2), (2, .int a3)] := hl
  generalize hR : (f_X3_fits a1 a2 a3) = R at fin
  unfold f_X3_fits at hR
  refine lv_iload_n hx hb dX3_fits_0 rfl (lv_at hl 0 rfl) ?_
  refine lv_if_ne (tgt := 16) hx hb dX3_fits_1 (by decide) (fun c_1 => ?_) (fun c_1 => ?_)
  · rw [if_neg c_1] at hR
    refine lv_iload_n hx hb dX3_fits_16 rfl (lv_at hl 0 rfl) ?_
    refine lv_iconst (v := (1 : Int32)) hx hb dX3_fits_17 (by decide) ?_
    refine lv_icmp_ne (tgt := 39) hx hb dX3_fits_18 (by decide) (fun c_18 => ?_) (fun c_18 => ?_)
    · rw [if_neg c_18] at hR
      refine lv_iload_n hx hb dX3_fits_39 rfl (lv_at hl 0 rfl) ?_
      refine lv_bipush (v := (23 : Int32)) hx hb dX3_fits_40 (by decide) ?_
      refine lv_icmp_lt (tgt := 47) hx hb dX3_fits_42 (by decide) (fun c_42 => ?_) (fun c_42 => ?_)
      · rw [if_pos c_42] at hR
        refine lv_iload_n hx hb dX3_fits_47 rfl (lv_at hl 0 rfl) ?_
        refine lv_iconst (v := (2 : Int32)) hx hb dX3_fits_48 (by decide) ?_
        refine lv_isub hx hb dX3_fits_49 ?_
        refine lv_iconst (v := (3 : Int32)) hx hb dX3_fits_50 (by decide) ?_
        refine lv_irem hx hb dX3_fits_51 (by decide) ?_
        refine lv_rw (z := (jr (a1 - (2 : Int32)) (3 : Int32))) rfl ?_
        refine Decidable.byCases (p := (jr (a1 - (2 : Int32)) (3 : Int32)) = (0 : Int32)) (fun c_52_0 => ?_) (fun c_52_0 => ?_)
        · rw [if_pos c_52_0] at hR
          refine lv_lookup (off := 28) (tgt := 80) hx hb dX3_fits_52 (by decide) (by rw [c_52_0]; decide) (by decide) ?_
          refine lv_iload_n hx hb dX3_fits_80 rfl (lv_at hl 1 rfl) ?_
          refine lv_bipush (v := (80 : Int32)) hx hb dX3_fits_81 (by decide) ?_
          refine lv_icmp_ne (tgt := 90) hx hb dX3_fits_83 (by decide) (fun c_83 => ?_) (fun c_83 => ?_)
          · rw [if_neg c_83] at hR
            refine lv_iconst (v := (0 : Int32)) hx hb dX3_fits_90 (by decide) ?_
            subst hR
            exact fin _ _ dX3_fits_91 (nar_b (Or.inl rfl))
          · rw [if_pos c_83] at hR
            refine lv_iconst (v := (1 : Int32)) hx hb dX3_fits_86 (by decide) ?_
            refine lv_goto (tgt := 91) hx hb dX3_fits_87 (by decide) ?_
            subst hR
            exact fin _ _ dX3_fits_91 (nar_b (Or.inr rfl))
        · rw [if_neg c_52_0] at hR
          refine Decidable.byCases (p := (jr (a1 - (2 : Int32)) (3 : Int32)) = (1 : Int32)) (fun c_52_1 => ?_) (fun c_52_1 => ?_)
          · rw [if_pos c_52_1] at hR
            refine lv_lookup (off := 40) (tgt := 92) hx hb dX3_fits_52 (by decide) (by rw [c_52_1]; decide) (by decide) ?_
            refine lv_iload_n hx hb dX3_fits_92 rfl (lv_at hl 1 rfl) ?_
            refine lv_bipush (v := (97 : Int32)) hx hb dX3_fits_93 (by decide) ?_
            refine lv_icmp_lt (tgt := 119) hx hb dX3_fits_95 (by decide) (fun c_95 => ?_) (fun c_95 => ?_)
            · rw [if_pos c_95] at hR
              refine lv_iconst (v := (0 : Int32)) hx hb dX3_fits_119 (by decide) ?_
              subst hR
              exact fin _ _ dX3_fits_120 (nar_b (Or.inl rfl))
            · rw [if_neg c_95] at hR
              refine lv_iload_n hx hb dX3_fits_98 rfl (lv_at hl 1 rfl) ?_
              refine lv_bipush (v := (112 : Int32)) hx hb dX3_fits_99 (by decide) ?_
              refine lv_icmp_gt (tgt := 119) hx hb dX3_fits_101 (by decide) (fun c_101 => ?_) (fun c_101 => ?_)
              · rw [if_pos c_101] at hR
                refine lv_iconst (v := (0 : Int32)) hx hb dX3_fits_119 (by decide) ?_
                subst hR
                exact fin _ _ dX3_fits_120 (nar_b (Or.inl rfl))
              · rw [if_neg c_101] at hR
                refine lv_iload_n hx hb dX3_fits_104 rfl (lv_at hl 2 rfl) ?_
                refine lv_iload_n hx hb dX3_fits_105 rfl (lv_at hl 1 rfl) ?_
                refine lv_bipush (v := (97 : Int32)) hx hb dX3_fits_106 (by decide) ?_
                refine lv_isub hx hb dX3_fits_108 ?_
                refine lv_ishr hx hb dX3_fits_109 ?_
                refine lv_rw (z := (shr a3 (a2 - (97 : Int32)))) rfl ?_
                refine lv_iconst (v := (1 : Int32)) hx hb dX3_fits_110 (by decide) ?_
                refine lv_iand hx hb dX3_fits_111 ?_
                refine lv_if_ne (tgt := 119) hx hb dX3_fits_112 (by decide) (fun c_112 => ?_) (fun c_112 => ?_)
                · rw [if_neg c_112] at hR
                  refine lv_iconst (v := (0 : Int32)) hx hb dX3_fits_119 (by decide) ?_
                  subst hR
                  exact fin _ _ dX3_fits_120 (nar_b (Or.inl rfl))
                · rw [if_pos c_112] at hR
                  refine lv_iconst (v := (1 : Int32)) hx hb dX3_fits_115 (by decide) ?_
                  refine lv_goto (tgt := 120) hx hb dX3_fits_116 (by decide) ?_
                  subst hR
                  exact fin _ _ dX3_fits_120 (nar_b (Or.inr rfl))
          · rw [if_neg c_52_1] at hR
            refine lv_lookup (off := 69) (tgt := 121) hx hb dX3_fits_52 (by decide) (by refine (lv_osw c_52_0 (by decide)).trans ?_; refine (lv_osw c_52_1 (by decide)).trans ?_; rfl) (by decide) ?_
            refine lv_iload_n hx hb dX3_fits_121 rfl (lv_at hl 1 rfl) ?_
            refine lv_bipush (v := (48 : Int32)) hx hb dX3_fits_122 (by decide) ?_
            refine lv_icmp_lt (tgt := 137) hx hb dX3_fits_124 (by decide) (fun c_124 => ?_) (fun c_124 => ?_)
            · rw [if_pos c_124] at hR
              refine lv_iconst (v := (0 : Int32)) hx hb dX3_fits_137 (by decide) ?_
              subst hR
              exact fin _ _ dX3_fits_138 (nar_b (Or.inl rfl))
            · rw [if_neg c_124] at hR
              refine lv_iload_n hx hb dX3_fits_127 rfl (lv_at hl 1 rfl) ?_
              refine lv_bipush (v := (51 : Int32)) hx hb dX3_fits_128 (by decide) ?_
              refine lv_icmp_gt (tgt := 137) hx hb dX3_fits_130 (by decide) (fun c_130 => ?_) (fun c_130 => ?_)
              · rw [if_pos c_130] at hR
                refine lv_iconst (v := (0 : Int32)) hx hb dX3_fits_137 (by decide) ?_
                subst hR
                exact fin _ _ dX3_fits_138 (nar_b (Or.inl rfl))
              · rw [if_neg c_130] at hR
                refine lv_iconst (v := (1 : Int32)) hx hb dX3_fits_133 (by decide) ?_
                refine lv_goto (tgt := 138) hx hb dX3_fits_134 (by decide) ?_
                subst hR
                exact fin _ _ dX3_fits_138 (nar_b (Or.inr rfl))
      · rw [if_neg c_42] at hR
        refine lv_iconst (v := (0 : Int32)) hx hb dX3_fits_45 (by decide) ?_
        subst hR
        exact fin _ _ dX3_fits_46 (nar_b (Or.inl rfl))
    · rw [if_pos c_18] at hR
      refine lv_iload_n hx hb dX3_fits_21 rfl (lv_at hl 1 rfl) ?_
      refine lv_bipush (v := (48 : Int32)) hx hb dX3_fits_22 (by decide) ?_
      refine lv_icmp_lt (tgt := 37) hx hb dX3_fits_24 (by decide) (fun c_24 => ?_) (fun c_24 => ?_)
      · rw [if_pos c_24] at hR
        refine lv_iconst (v := (0 : Int32)) hx hb dX3_fits_37 (by decide) ?_
        subst hR
        exact fin _ _ dX3_fits_38 (nar_b (Or.inl rfl))
      · rw [if_neg c_24] at hR
        refine lv_iload_n hx hb dX3_fits_27 rfl (lv_at hl 1 rfl) ?_
        refine lv_bipush (v := (57 : Int32)) hx hb dX3_fits_28 (by decide) ?_
        refine lv_icmp_gt (tgt := 37) hx hb dX3_fits_30 (by decide) (fun c_30 => ?_) (fun c_30 => ?_)
        · rw [if_pos c_30] at hR
          refine lv_iconst (v := (0 : Int32)) hx hb dX3_fits_37 (by decide) ?_
          subst hR
          exact fin _ _ dX3_fits_38 (nar_b (Or.inl rfl))
        · rw [if_neg c_30] at hR
          refine lv_iconst (v := (1 : Int32)) hx hb dX3_fits_33 (by decide) ?_
          refine lv_goto (tgt := 38) hx hb dX3_fits_34 (by decide) ?_
          subst hR
          exact fin _ _ dX3_fits_38 (nar_b (Or.inr rfl))
  · rw [if_pos c_1] at hR
    refine lv_iload_n hx hb dX3_fits_4 rfl (lv_at hl 1 rfl) ?_
    refine lv_bipush (v := (73 : Int32)) hx hb dX3_fits_5 (by decide) ?_
    refine lv_icmp_ne (tgt := 14) hx hb dX3_fits_7 (by decide) (fun c_7 => ?_) (fun c_7 => ?_)
    · rw [if_neg c_7] at hR
      refine lv_iconst (v := (0 : Int32)) hx hb dX3_fits_14 (by decide) ?_
      subst hR
      exact fin _ _ dX3_fits_15 (nar_b (Or.inl rfl))
    · rw [if_pos c_7] at hR
      refine lv_iconst (v := (1 : Int32)) hx hb dX3_fits_10 (by decide) ?_
      refine lv_goto (tgt := 15) hx hb dX3_fits_11 (by decide) ?_
      subst hR
      exact fin _ _ dX3_fits_15 (nar_b (Or.inr rfl))
def f_X3_firstFault_l4 (length : Int32) (letters : Nat → Int32) : Nat → Nat → (Int32) → Int32
  | 0, i_4, told => (if length < (2 : Int32) then length else (if (jr (length - (2 : Int32)) (3 : Int32)) = (0 : Int32) then (-9 : Int32) else length))
  | d_4 + 1, i_4, told => (if (f_X3_fits (nI i_4) (f_X3_letterAt length letters (nI i_4)) told) = (0 : Int32) then (nI i_4) else (if (nI i_4) < (2 : Int32) then (f_X3_firstFault_l4 length letters d_4 (i_4 + 1) told) else (if (jr ((nI i_4) - (2 : Int32)) (3 : Int32)) = (1 : Int32) then (f_X3_firstFault_l4 length letters d_4 (i_4 + 1) (told ||| (shl (1 : Int32) ((f_X3_letterAt length letters (nI i_4)) - (97 : Int32))))) else (f_X3_firstFault_l4 length letters d_4 (i_4 + 1) told))))
theorem f_X3_firstFault_l4_z {length : Int32} {letters : Nat → Int32} {i_4 : Nat} {told : Int32} : f_X3_firstFault_l4 length letters 0 i_4 told = (if length < (2 : Int32) then length else (if (jr (length - (2 : Int32)) (3 : Int32)) = (0 : Int32) then (-9 : Int32) else length)) := rfl
theorem f_X3_firstFault_l4_s {length : Int32} {letters : Nat → Int32} {d_4 : Nat} {i_4 : Nat} {told : Int32} : f_X3_firstFault_l4 length letters (d_4 + 1) i_4 told = (if (f_X3_fits (nI i_4) (f_X3_letterAt length letters (nI i_4)) told) = (0 : Int32) then (nI i_4) else (if (nI i_4) < (2 : Int32) then (f_X3_firstFault_l4 length letters d_4 (i_4 + 1) told) else (if (jr ((nI i_4) - (2 : Int32)) (3 : Int32)) = (1 : Int32) then (f_X3_firstFault_l4 length letters d_4 (i_4 + 1) (told ||| (shl (1 : Int32) ((f_X3_letterAt length letters (nI i_4)) - (97 : Int32))))) else (f_X3_firstFault_l4 length letters d_4 (i_4 + 1) told)))) := rfl
def f_X3_firstFault (L : Nat) (length : Int32) (letters : Nat → Int32) : Int32 := (f_X3_firstFault_l4 length letters L 0 (0 : Int32))
set_option maxHeartbeats 4000000 in
set_option maxRecDepth 100000 in
theorem c_X3_firstFault (l : Launch) (D : va_G) (cI cZ : ClassId) (q : Nat → Nat) (length : Int32) (letters : Nat → Int32) (L : Nat) (hL : length = nI L) (hL32 : L ≤ 32) : RdI l yX3_firstFault cX3_firstFault 4 .int 1 22 D (tyL cI cZ) (TW cI cZ q length letters) [.ref (q 1)] (f_X3_firstFault L length letters) := by
  refine RdI.of (by decide) (Nat.le_of_ble_eq_true rfl) ?_
  intro p e s m args below meth c Q hx hb hml hown hts hP hK fin ls hl
  have hown : s.vm.findClass RX3 = some m.cls := hown
  have hF : CallFix p m c cX3_firstFault 4 s args tb RX3 := ⟨hx, hb, hml, hown, hts⟩
  have hl : lv_has ls 4 [(0, .ref (q 1))] := hl
  generalize hR : (f_X3_firstFault L length letters) = R at fin
  unfold f_X3_firstFault at hR
  refine lv_iconst (v := (0 : Int32)) hx hb dX3_firstFault_0 (by decide) ?_
  refine lv_istore_n (lv' := [(1, .int (0 : Int32)), (0, .ref (q 1))]) hx hb dX3_firstFault_1 rfl hl (by decide) rfl (fun ls hl => ?_)
  refine lv_iconst (v := (0 : Int32)) hx hb dX3_firstFault_2 (by decide) ?_
  refine lv_istore_n (lv' := [(2, .int (0 : Int32)), (1, .int (0 : Int32)), (0, .ref (q 1))]) hx hb dX3_firstFault_3 rfl hl (by decide) rfl (fun ls hl => ?_)
  have key_4 : ∀ (d_4 i_4 : Nat) (told : Int32) (ls : Array Slot), i_4 + d_4 = L → f_X3_firstFault_l4 length letters d_4 i_4 told = R → lv_has ls 4 [(2, .int (nI i_4)), (1, .int told), (0, .ref (q 1))] → W p l e (rmO 1 22) s m args below meth c s.heap [] 0 0 Q (F0 m 4 ls []) := by
    intro d_4
    induction d_4 with
    | zero =>
      intro i_4 told ls hi_4 hR hl
      rw [f_X3_firstFault_l4_z] at hR
      refine lv_iload_n hx hb dX3_firstFault_4 rfl (lv_at hl 0 rfl) ?_
      refine lv_aload_n hx hb dX3_firstFault_5 rfl (lv_at hl 2 rfl) ?_
      refine va_get (D := D) (ci := 2) (v := .int length) (C := RX3) (T := TX3) (N := 2) hx hb hts tbX3 hown hK hP 0 TW_0 rfl 1 (by decide) (hts _ tm_1_25) (fun _ h9 => h9) rfl dX3_firstFault_6 ?_
      refine lv_icmp_ge (tgt := 58) hx hb dX3_firstFault_9 (by decide) (fun c_9 => ?_) (fun c_9 => absurd (by rw [hL]; exact nI_le  (by omega) (by omega)) c_9)
      refine lv_aload_n hx hb dX3_firstFault_58 rfl (lv_at hl 2 rfl) ?_
      refine va_get (D := D) (ci := 2) (v := .int length) (C := RX3) (T := TX3) (N := 2) hx hb hts tbX3 hown hK hP 0 TW_0 rfl 1 (by decide) (hts _ tm_1_25) (fun _ h9 => h9) rfl dX3_firstFault_59 ?_
      refine lv_iconst (v := (2 : Int32)) hx hb dX3_firstFault_62 (by decide) ?_
      refine lv_icmp_lt (tgt := 82) hx hb dX3_firstFault_63 (by decide) (fun c_63 => ?_) (fun c_63 => ?_)
      · rw [if_pos c_63] at hR
        refine lv_aload_n hx hb dX3_firstFault_82 rfl (lv_at hl 2 rfl) ?_
        refine va_get (D := D) (ci := 2) (v := .int length) (C := RX3) (T := TX3) (N := 2) hx hb hts tbX3 hown hK hP 0 TW_0 rfl 1 (by decide) (hts _ tm_1_25) (fun _ h9 => h9) rfl dX3_firstFault_83 ?_
        subst hR
        exact fin _ _ dX3_firstFault_86 (nar_i _)
      · rw [if_neg c_63] at hR
        refine lv_aload_n hx hb dX3_firstFault_66 rfl (lv_at hl 2 rfl) ?_
        refine va_get (D := D) (ci := 2) (v := .int length) (C := RX3) (T := TX3) (N := 2) hx hb hts tbX3 hown hK hP 0 TW_0 rfl 1 (by decide) (hts _ tm_1_25) (fun _ h9 => h9) rfl dX3_firstFault_67 ?_
        refine lv_iconst (v := (2 : Int32)) hx hb dX3_firstFault_70 (by decide) ?_
        refine lv_isub hx hb dX3_firstFault_71 ?_
        refine lv_iconst (v := (3 : Int32)) hx hb dX3_firstFault_72 (by decide) ?_
        refine lv_irem hx hb dX3_firstFault_73 (by decide) ?_
        refine lv_rw (z := (jr (length - (2 : Int32)) (3 : Int32))) rfl ?_
        refine lv_if_ne (tgt := 82) hx hb dX3_firstFault_74 (by decide) (fun c_74 => ?_) (fun c_74 => ?_)
        · rw [if_neg c_74] at hR
          refine lv_aload_n hx hb dX3_firstFault_82 rfl (lv_at hl 2 rfl) ?_
          refine va_get (D := D) (ci := 2) (v := .int length) (C := RX3) (T := TX3) (N := 2) hx hb hts tbX3 hown hK hP 0 TW_0 rfl 1 (by decide) (hts _ tm_1_25) (fun _ h9 => h9) rfl dX3_firstFault_83 ?_
          subst hR
          exact fin _ _ dX3_firstFault_86 (nar_i _)
        · rw [if_pos c_74] at hR
          refine lv_bipush (v := (-9 : Int32)) hx hb dX3_firstFault_77 (by decide) ?_
          refine lv_goto (tgt := 86) hx hb dX3_firstFault_79 (by decide) ?_
          subst hR
          exact fin _ _ dX3_firstFault_86 (nar_i _)
    | succ d_4 ih_4 =>
      intro i_4 told ls hi_4 hR hl
      rw [f_X3_firstFault_l4_s] at hR
      refine lv_iload_n hx hb dX3_firstFault_4 rfl (lv_at hl 0 rfl) ?_
      refine lv_aload_n hx hb dX3_firstFault_5 rfl (lv_at hl 2 rfl) ?_
      refine va_get (D := D) (ci := 2) (v := .int length) (C := RX3) (T := TX3) (N := 2) hx hb hts tbX3 hown hK hP 0 TW_0 rfl 1 (by decide) (hts _ tm_1_25) (fun _ h9 => h9) rfl dX3_firstFault_6 ?_
      refine lv_icmp_ge (tgt := 58) hx hb dX3_firstFault_9 (by decide) (fun c_9 => absurd c_9 (by rw [hL]; exact nI_ge  (by omega) (by omega))) (fun c_9 => ?_)
      refine lv_aload_n hx hb dX3_firstFault_12 rfl (lv_at hl 2 rfl) ?_
      refine lv_iload_n hx hb dX3_firstFault_13 rfl (lv_at hl 0 rfl) ?_
      refine vRdI (b := (q 1)) (As := [.int (nI i_4)]) (rest := []) hF (c_X3_letterAt l D cI cZ q length letters (nI i_4)) (gdV tm_1_152 tm_1_153 tm_1_154 tm_1_2 tm_1_155) de_X3_letterAt ⟨Nat.le_of_ble_eq_true rfl, Nat.le_of_ble_eq_true rfl⟩ hP hK (va_recv hK hP (ci := 2) (q0 := 0) rfl TW_0) hl.1 rfl (Nat.le_of_ble_eq_true rfl) dX3_firstFault_14 ⟨Nat.zero_le _, Nat.zero_le _⟩ ?_
      refine lv_istore_n (lv' := [(3, .int (f_X3_letterAt length letters (nI i_4))), (2, .int (nI i_4)), (1, .int told), (0, .ref (q 1))]) hx hb dX3_firstFault_17 rfl hl (by decide) rfl (fun ls hl => ?_)
      refine lv_iload_n hx hb dX3_firstFault_18 rfl (lv_at hl 1 rfl) ?_
      refine lv_iload_n hx hb dX3_firstFault_19 rfl (lv_at hl 0 rfl) ?_
      refine lv_iload_n hx hb dX3_firstFault_20 rfl (lv_at hl 2 rfl) ?_
      refine sRdI (As := [.int (nI i_4), .int (f_X3_letterAt length letters (nI i_4)), .int told]) (rest := []) hF (c_X3_fits l D cI cZ q (nI i_4) (f_X3_letterAt length letters (nI i_4)) told) (gdS tm_1_156 tm_1_157 tm_1_2 tm_1_158) de_X3_fits ⟨Nat.le_of_ble_eq_true rfl, Nat.le_of_ble_eq_true rfl⟩ va_P_nil hK hl.1 rfl (Nat.le_of_ble_eq_true rfl) dX3_firstFault_21 ⟨Nat.zero_le _, Nat.zero_le _⟩ ?_
      refine lv_if_ne (tgt := 29) hx hb dX3_firstFault_24 (by decide) (fun c_24 => ?_) (fun c_24 => ?_)
      · rw [if_neg c_24] at hR
        refine lv_iload_n hx hb dX3_firstFault_29 rfl (lv_at hl 1 rfl) ?_
        refine lv_iconst (v := (2 : Int32)) hx hb dX3_firstFault_30 (by decide) ?_
        refine lv_icmp_lt (tgt := 52) hx hb dX3_firstFault_31 (by decide) (fun c_31 => ?_) (fun c_31 => ?_)
        · rw [if_pos c_31] at hR
          refine lv_iinc (v := (nI (i_4 + 1))) (lv' := [(2, .int (nI (i_4 + 1))), (3, .int (f_X3_letterAt length letters (nI i_4))), (1, .int told), (0, .ref (q 1))]) hx hb dX3_firstFault_52 hl (k := 1) rfl (nI_up i_4) (by decide) rfl (fun ls hl => ?_)
          refine lv_goto (tgt := 4) hx hb dX3_firstFault_55 (by decide) ?_
          exact ih_4 (i_4 + 1) told ls (by omega) hR (lv_sub hl [0, 2, 3] rfl)
        · rw [if_neg c_31] at hR
          refine lv_iload_n hx hb dX3_firstFault_34 rfl (lv_at hl 1 rfl) ?_
          refine lv_iconst (v := (2 : Int32)) hx hb dX3_firstFault_35 (by decide) ?_
          refine lv_isub hx hb dX3_firstFault_36 ?_
          refine lv_iconst (v := (3 : Int32)) hx hb dX3_firstFault_37 (by decide) ?_
          refine lv_irem hx hb dX3_firstFault_38 (by decide) ?_
          refine lv_rw (z := (jr ((nI i_4) - (2 : Int32)) (3 : Int32))) rfl ?_
          refine lv_iconst (v := (1 : Int32)) hx hb dX3_firstFault_39 (by decide) ?_
          refine lv_icmp_ne (tgt := 52) hx hb dX3_firstFault_40 (by decide) (fun c_40 => ?_) (fun c_40 => ?_)
          · rw [if_neg c_40] at hR
            refine lv_iinc (v := (nI (i_4 + 1))) (lv' := [(2, .int (nI (i_4 + 1))), (3, .int (f_X3_letterAt length letters (nI i_4))), (1, .int told), (0, .ref (q 1))]) hx hb dX3_firstFault_52 hl (k := 1) rfl (nI_up i_4) (by decide) rfl (fun ls hl => ?_)
            refine lv_goto (tgt := 4) hx hb dX3_firstFault_55 (by decide) ?_
            exact ih_4 (i_4 + 1) told ls (by omega) hR (lv_sub hl [0, 2, 3] rfl)
          · rw [if_pos c_40] at hR
            refine lv_iload_n hx hb dX3_firstFault_43 rfl (lv_at hl 2 rfl) ?_
            refine lv_iconst (v := (1 : Int32)) hx hb dX3_firstFault_44 (by decide) ?_
            refine lv_iload_n hx hb dX3_firstFault_45 rfl (lv_at hl 0 rfl) ?_
            refine lv_bipush (v := (97 : Int32)) hx hb dX3_firstFault_46 (by decide) ?_
            refine lv_isub hx hb dX3_firstFault_48 ?_
            refine lv_ishl hx hb dX3_firstFault_49 ?_
            refine lv_rw (z := (shl (1 : Int32) ((f_X3_letterAt length letters (nI i_4)) - (97 : Int32)))) rfl ?_
            refine lv_ior hx hb dX3_firstFault_50 ?_
            refine lv_istore_n (lv' := [(1, .int (told ||| (shl (1 : Int32) ((f_X3_letterAt length letters (nI i_4)) - (97 : Int32))))), (3, .int (f_X3_letterAt length letters (nI i_4))), (2, .int (nI i_4)), (0, .ref (q 1))]) hx hb dX3_firstFault_51 rfl hl (by decide) rfl (fun ls hl => ?_)
            refine lv_iinc (v := (nI (i_4 + 1))) (lv' := [(2, .int (nI (i_4 + 1))), (1, .int (told ||| (shl (1 : Int32) ((f_X3_letterAt length letters (nI i_4)) - (97 : Int32))))), (3, .int (f_X3_letterAt length letters (nI i_4))), (0, .ref (q 1))]) hx hb dX3_firstFault_52 hl (k := 2) rfl (nI_up i_4) (by decide) rfl (fun ls hl => ?_)
            refine lv_goto (tgt := 4) hx hb dX3_firstFault_55 (by decide) ?_
            exact ih_4 (i_4 + 1) (told ||| (shl (1 : Int32) ((f_X3_letterAt length letters (nI i_4)) - (97 : Int32)))) ls (by omega) hR (lv_sub hl [0, 1, 3] rfl)
      · rw [if_pos c_24] at hR
        refine lv_iload_n hx hb dX3_firstFault_27 rfl (lv_at hl 1 rfl) ?_
        subst hR
        exact fin _ _ dX3_firstFault_28 (nar_i _)
  exact key_4 L 0 (0 : Int32) ls (by omega) hR (lv_sub hl [0, 1, 2] rfl)
def f_X3_parts (length : Int32) : Int32 := (if (2 : Int32) ≤ length then ((length - (2 : Int32)) / (3 : Int32)) else (0 : Int32))
set_option maxHeartbeats 4000000 in
set_option maxRecDepth 100000 in
theorem c_X3_parts (l : Launch) (D : va_G) (cI cZ : ClassId) (q : Nat → Nat) (length : Int32) (letters : Nat → Int32) : RdI l yX3_parts cX3_parts 1 .int 0 0 D (tyL cI cZ) (TW cI cZ q length letters) [.ref (q 1)] (f_X3_parts length) := by
  refine RdI.of (by decide) (Nat.le_of_ble_eq_true rfl) ?_
  intro p e s m args below meth c Q hx hb hml hown hts hP hK fin ls hl
  have hown : s.vm.findClass RX3 = some m.cls := hown
  have hF : CallFix p m c cX3_parts 1 s args tb RX3 := ⟨hx, hb, hml, hown, hts⟩
  have hl : lv_has ls 1 [(0, .ref (q 1))] := hl
  generalize hR : (f_X3_parts length) = R at fin
  unfold f_X3_parts at hR
  refine lv_aload_n hx hb dX3_parts_0 rfl (lv_at hl 0 rfl) ?_
  refine va_get (D := D) (ci := 2) (v := .int length) (C := RX3) (T := TX3) (N := 2) hx hb hts tbX3 hown hK hP 0 TW_0 rfl 1 (by decide) (hts _ tm_1_25) (fun _ h9 => h9) rfl dX3_parts_1 ?_
  refine lv_iconst (v := (2 : Int32)) hx hb dX3_parts_4 (by decide) ?_
  refine lv_icmp_ge (tgt := 12) hx hb dX3_parts_5 (by decide) (fun c_5 => ?_) (fun c_5 => ?_)
  · rw [if_pos c_5] at hR
    refine lv_aload_n hx hb dX3_parts_12 rfl (lv_at hl 0 rfl) ?_
    refine va_get (D := D) (ci := 2) (v := .int length) (C := RX3) (T := TX3) (N := 2) hx hb hts tbX3 hown hK hP 0 TW_0 rfl 1 (by decide) (hts _ tm_1_25) (fun _ h9 => h9) rfl dX3_parts_13 ?_
    refine lv_iconst (v := (2 : Int32)) hx hb dX3_parts_16 (by decide) ?_
    refine lv_isub hx hb dX3_parts_17 ?_
    refine lv_iconst (v := (3 : Int32)) hx hb dX3_parts_18 (by decide) ?_
    refine lv_idiv hx hb dX3_parts_19 (by decide) ?_
    subst hR
    exact fin _ _ dX3_parts_20 (nar_i _)
  · rw [if_neg c_5] at hR
    refine lv_iconst (v := (0 : Int32)) hx hb dX3_parts_8 (by decide) ?_
    refine lv_goto (tgt := 20) hx hb dX3_parts_9 (by decide) ?_
    subst hR
    exact fin _ _ dX3_parts_20 (nar_i _)
def f_X3_cellOfPart (length : Int32) (letters : Nat → Int32) (a1 : Int32) : Int32 := ((f_X3_letterAt length letters (((2 : Int32) + ((3 : Int32) * a1)) + (1 : Int32))) - (97 : Int32))
set_option maxHeartbeats 4000000 in
set_option maxRecDepth 100000 in
theorem c_X3_cellOfPart (l : Launch) (D : va_G) (cI cZ : ClassId) (q : Nat → Nat) (length : Int32) (letters : Nat → Int32) (a1 : Int32) : RdI l yX3_cellOfPart cX3_cellOfPart 2 .int 1 21 D (tyL cI cZ) (TW cI cZ q length letters) [.ref (q 1), .int a1] (f_X3_cellOfPart length letters a1) := by
  refine RdI.of (by decide) (Nat.le_of_ble_eq_true rfl) ?_
  intro p e s m args below meth c Q hx hb hml hown hts hP hK fin ls hl
  have hown : s.vm.findClass RX3 = some m.cls := hown
  have hF : CallFix p m c cX3_cellOfPart 2 s args tb RX3 := ⟨hx, hb, hml, hown, hts⟩
  have hl : lv_has ls 2 [(0, .ref (q 1)), (1, .int a1)] := hl
  generalize hR : (f_X3_cellOfPart length letters a1) = R at fin
  unfold f_X3_cellOfPart at hR
  refine lv_aload_n hx hb dX3_cellOfPart_0 rfl (lv_at hl 0 rfl) ?_
  refine lv_iconst (v := (2 : Int32)) hx hb dX3_cellOfPart_1 (by decide) ?_
  refine lv_iconst (v := (3 : Int32)) hx hb dX3_cellOfPart_2 (by decide) ?_
  refine lv_iload_n hx hb dX3_cellOfPart_3 rfl (lv_at hl 1 rfl) ?_
  refine lv_imul hx hb dX3_cellOfPart_4 ?_
  refine lv_iadd hx hb dX3_cellOfPart_5 ?_
  refine lv_iconst (v := (1 : Int32)) hx hb dX3_cellOfPart_6 (by decide) ?_
  refine lv_iadd hx hb dX3_cellOfPart_7 ?_
  refine vRdI (b := (q 1)) (As := [.int (((2 : Int32) + ((3 : Int32) * a1)) + (1 : Int32))]) (rest := []) hF (c_X3_letterAt l D cI cZ q length letters (((2 : Int32) + ((3 : Int32) * a1)) + (1 : Int32))) (gdV tm_1_152 tm_1_153 tm_1_154 tm_1_2 tm_1_155) de_X3_letterAt ⟨Nat.le_of_ble_eq_true rfl, Nat.le_of_ble_eq_true rfl⟩ hP hK (va_recv hK hP (ci := 2) (q0 := 0) rfl TW_0) hl.1 rfl (Nat.le_of_ble_eq_true rfl) dX3_cellOfPart_8 ⟨Nat.zero_le _, Nat.zero_le _⟩ ?_
  refine lv_bipush (v := (97 : Int32)) hx hb dX3_cellOfPart_11 (by decide) ?_
  refine lv_isub hx hb dX3_cellOfPart_13 ?_
  subst hR
  exact fin _ _ dX3_cellOfPart_14 (nar_i _)
def f_X3_kindOfPart (length : Int32) (letters : Nat → Int32) (a1 : Int32) : Int32 := ((f_X3_letterAt length letters (((2 : Int32) + ((3 : Int32) * a1)) + (2 : Int32))) - (48 : Int32))
set_option maxHeartbeats 4000000 in
set_option maxRecDepth 100000 in
theorem c_X3_kindOfPart (l : Launch) (D : va_G) (cI cZ : ClassId) (q : Nat → Nat) (length : Int32) (letters : Nat → Int32) (a1 : Int32) : RdI l yX3_kindOfPart cX3_kindOfPart 2 .int 1 21 D (tyL cI cZ) (TW cI cZ q length letters) [.ref (q 1), .int a1] (f_X3_kindOfPart length letters a1) := by
  refine RdI.of (by decide) (Nat.le_of_ble_eq_true rfl) ?_
  intro p e s m args below meth c Q hx hb hml hown hts hP hK fin ls hl
  have hown : s.vm.findClass RX3 = some m.cls := hown
  have hF : CallFix p m c cX3_kindOfPart 2 s args tb RX3 := ⟨hx, hb, hml, hown, hts⟩
  have hl : lv_has ls 2 [(0, .ref (q 1)), (1, .int a1)] := hl
  generalize hR : (f_X3_kindOfPart length letters a1) = R at fin
  unfold f_X3_kindOfPart at hR
  refine lv_aload_n hx hb dX3_kindOfPart_0 rfl (lv_at hl 0 rfl) ?_
  refine lv_iconst (v := (2 : Int32)) hx hb dX3_kindOfPart_1 (by decide) ?_
  refine lv_iconst (v := (3 : Int32)) hx hb dX3_kindOfPart_2 (by decide) ?_
  refine lv_iload_n hx hb dX3_kindOfPart_3 rfl (lv_at hl 1 rfl) ?_
  refine lv_imul hx hb dX3_kindOfPart_4 ?_
  refine lv_iadd hx hb dX3_kindOfPart_5 ?_
  refine lv_iconst (v := (2 : Int32)) hx hb dX3_kindOfPart_6 (by decide) ?_
  refine lv_iadd hx hb dX3_kindOfPart_7 ?_
  refine vRdI (b := (q 1)) (As := [.int (((2 : Int32) + ((3 : Int32) * a1)) + (2 : Int32))]) (rest := []) hF (c_X3_letterAt l D cI cZ q length letters (((2 : Int32) + ((3 : Int32) * a1)) + (2 : Int32))) (gdV tm_1_152 tm_1_153 tm_1_154 tm_1_2 tm_1_155) de_X3_letterAt ⟨Nat.le_of_ble_eq_true rfl, Nat.le_of_ble_eq_true rfl⟩ hP hK (va_recv hK hP (ci := 2) (q0 := 0) rfl TW_0) hl.1 rfl (Nat.le_of_ble_eq_true rfl) dX3_kindOfPart_8 ⟨Nat.zero_le _, Nat.zero_le _⟩ ?_
  refine lv_bipush (v := (48 : Int32)) hx hb dX3_kindOfPart_11 (by decide) ?_
  refine lv_isub hx hb dX3_kindOfPart_13 ?_
  subst hR
  exact fin _ _ dX3_kindOfPart_14 (nar_i _)
def f_X3_append (length : Int32) (letters : Nat → Int32) (a1 : Int32) : (Int32) × (Int32) × (Nat → Int32) := (if length < (0 : Int32) then ((0 : Int32), length, letters) else (if length < (32 : Int32) then ((1 : Int32), (length + (1 : Int32)), (upd letters length.toNatClampNeg a1)) else ((0 : Int32), length, letters)))
set_option maxHeartbeats 4000000 in
set_option maxRecDepth 100000 in
theorem c_X3_append (l : Launch) (D : va_G) (cI cZ : ClassId) (q : Nat → Nat) (now rains length poles parts plain key stair air acnt tcnt : Int32) (letters cells kinds frames rainsB abouts stoods kept keptF keptR : Nat → Int32) (seed : Int64) (a1 : Int32) : WrI l yX3_append cX3_append 2 .boolean 0 0 D (tyL cI cZ) (XW cI cZ q now rains length poles parts plain key stair air acnt tcnt letters cells kinds frames rainsB abouts stoods kept keptF keptR seed) [.ref (q 1), .int a1] (f_X3_append length letters a1).1 (XW cI cZ q now rains (f_X3_append length letters a1).2.1 poles parts plain key stair air acnt tcnt (f_X3_append length letters a1).2.2 cells kinds frames rainsB abouts stoods kept keptF keptR seed) := by
  refine WrI.of (by decide) (Nat.le_of_ble_eq_true rfl) ?_
  intro p e s m args below meth c Q A hx hb hml hown hts hP hK hD hS fin ls hl
  have hown : s.vm.findClass RX3 = some m.cls := hown
  have hF : CallFix p m c cX3_append 2 s args tb RX3 := ⟨hx, hb, hml, hown, hts⟩
  have hl : lv_has ls 2 [(0, .ref (q 1)), (1, .int a1)] := hl
  generalize hR : (f_X3_append length letters a1) = R at fin
  unfold f_X3_append at hR
  refine lv_aload_n hx hb dX3_append_0 rfl (lv_at hl 0 rfl) ?_
  refine va_get (D := D) (ci := 2) (v := .int length) (C := RX3) (T := TX3) (N := 2) hx hb hts tbX3 hown hK hP 1 XW_1 rfl 1 (by decide) (hts _ tm_1_25) (fun _ h9 => h9) rfl dX3_append_1 ?_
  refine lv_if_lt (tgt := 19) hx hb dX3_append_4 (by decide) (fun c_4 => ?_) (fun c_4 => ?_)
  · rw [if_pos c_4] at hR
    refine lv_iconst (v := (0 : Int32)) hx hb dX3_append_19 (by decide) ?_
    subst hR
    exact fin _ _ _ _ dX3_append_20 (nar_b (Or.inl rfl)) hP hS
  · rw [if_neg c_4] at hR
    refine lv_aload_n hx hb dX3_append_7 rfl (lv_at hl 0 rfl) ?_
    refine va_get (D := D) (ci := 2) (v := .int length) (C := RX3) (T := TX3) (N := 2) hx hb hts tbX3 hown hK hP 1 XW_1 rfl 1 (by decide) (hts _ tm_1_25) (fun _ h9 => h9) rfl dX3_append_8 ?_
    refine lv_aload_n hx hb dX3_append_11 rfl (lv_at hl 0 rfl) ?_
    refine va_get (D := D) (ci := 2) (v := .ref (q 5)) (C := RX3) (T := TX3) (N := 2) hx hb hts tbX3 hown hK hP 1 XW_1 rfl 0 (by decide) (hts _ tm_1_24) (fun _ h9 => h9) rfl dX3_append_12 ?_
    refine va_alen (v := (32 : Int32)) hx hb hK hP 5 0 XW_5 rfl rfl dX3_append_15 ?_
    refine lv_icmp_lt (tgt := 21) hx hb dX3_append_16 (by decide) (fun c_16 => ?_) (fun c_16 => ?_)
    · rw [if_pos c_16] at hR
      refine lv_aload_n hx hb dX3_append_21 rfl (lv_at hl 0 rfl) ?_
      refine va_get (D := D) (ci := 2) (v := .ref (q 5)) (C := RX3) (T := TX3) (N := 2) hx hb hts tbX3 hown hK hP 1 XW_1 rfl 0 (by decide) (hts _ tm_1_24) (fun _ h9 => h9) rfl dX3_append_22 ?_
      refine lv_aload_n hx hb dX3_append_25 rfl (lv_at hl 0 rfl) ?_
      refine va_get (D := D) (ci := 2) (v := .int length) (C := RX3) (T := TX3) (N := 2) hx hb hts tbX3 hown hK hP 1 XW_1 rfl 1 (by decide) (hts _ tm_1_25) (fun _ h9 => h9) rfl dX3_append_26 ?_
      refine lv_iload_n hx hb dX3_append_29 rfl (lv_at hl 1 rfl) ?_
      refine va_iast hx hb hK hP hD hS 5 0 XW_5 rfl (vi_a (b := 32) (by decide) c_4 c_16) dX3_append_30 (fun H locs hP hD hS => ?_)
      have hP : va_P D vwCl (XW cI cZ q now rains length poles parts plain key stair air acnt tcnt (upd letters length.toNatClampNeg a1) cells kinds frames rainsB abouts stoods kept keptF keptR seed) H := hP
      have hD : va_D A (XW cI cZ q now rains length poles parts plain key stair air acnt tcnt (upd letters length.toNatClampNeg a1) cells kinds frames rainsB abouts stoods kept keptF keptR seed) := hD.same rfl
      refine lv_aload_n hx hb dX3_append_31 rfl (lv_at hl 0 rfl) ?_
      refine lv_dup hx hb dX3_append_32 rfl ?_
      refine va_get (D := D) (ci := 2) (v := .int length) (C := RX3) (T := TX3) (N := 2) hx hb hts tbX3 hown hK hP 1 XW_1 rfl 1 (by decide) (hts _ tm_1_25) (fun _ h9 => h9) rfl dX3_append_33 ?_
      refine lv_iconst (v := (1 : Int32)) hx hb dX3_append_36 (by decide) ?_
      refine lv_iadd hx hb dX3_append_37 ?_
      refine va_put (D := D) (ci := 2) (v := .int (length + (1 : Int32))) (ty := .int) (C := RX3) (T := TX3) (N := 2) hx hb hts tbX3 tyX3 tyX3_ok nmX3 hown hK hP hD hS 1 XW_1 rfl 1 (by decide) (hts _ tm_1_25) (fun _ h9 => h9) rfl (by decide +kernel) rfl rfl (Nat.le_of_ble_eq_true rfl) dX3_append_38 (fun H locs hP hD hS => ?_)
      have hP : va_P D vwCl (XW cI cZ q now rains (length + (1 : Int32)) poles parts plain key stair air acnt tcnt (upd letters length.toNatClampNeg a1) cells kinds frames rainsB abouts stoods kept keptF keptR seed) H := hP
      have hD : va_D A (XW cI cZ q now rains (length + (1 : Int32)) poles parts plain key stair air acnt tcnt (upd letters length.toNatClampNeg a1) cells kinds frames rainsB abouts stoods kept keptF keptR seed) := hD.same rfl
      refine lv_iconst (v := (1 : Int32)) hx hb dX3_append_41 (by decide) ?_
      subst hR
      exact fin _ _ _ _ dX3_append_42 (nar_b (Or.inr rfl)) hP hS
    · rw [if_neg c_16] at hR
      refine lv_iconst (v := (0 : Int32)) hx hb dX3_append_19 (by decide) ?_
      subst hR
      exact fin _ _ _ _ dX3_append_20 (nar_b (Or.inl rfl)) hP hS
end
section
theorem de_X0_lastFrame : deOK yX0_lastFrame 0 := by decide +kernel
theorem de_X0_lastRains : deOK yX0_lastRains 0 := by decide +kernel
theorem de_X0_forgetFirst : deOK yX0_forgetFirst 0 := by decide +kernel
theorem de_X0_remember : deOK yX0_remember 2 := by decide +kernel
def f_X0_lastFrame (acnt : Int32) (frames : Nat → Int32) : Int32 := (if acnt ≤ (0 : Int32) then (0 : Int32) else (if (14 : Int32) < acnt then (0 : Int32) else (frames (acnt - (1 : Int32)).toNatClampNeg)))
set_option maxHeartbeats 4000000 in
set_option maxRecDepth 100000 in
theorem c_X0_lastFrame (l : Launch) (D : va_G) (cI cZ : ClassId) (q : Nat → Nat) (acnt : Int32) (frames rainsB : Nat → Int32) : RdI l yX0_lastFrame cX0_lastFrame 1 .int 0 0 D (tyL cI cZ) (AW cI cZ q acnt frames rainsB) [.ref (q 3)] (f_X0_lastFrame acnt frames) := by
  refine RdI.of (by decide) (Nat.le_of_ble_eq_true rfl) ?_
  intro p e s m args below meth c Q hx hb hml hown hts hP hK fin ls hl
  have hown : s.vm.findClass RX0 = some m.cls := hown
  have hF : CallFix p m c cX0_lastFrame 1 s args tb RX0 := ⟨hx, hb, hml, hown, hts⟩
  have hl : lv_has ls 1 [(0, .ref (q 3))] := hl
  generalize hR : (f_X0_lastFrame acnt frames) = R at fin
  unfold f_X0_lastFrame at hR
  refine lv_aload_n hx hb dX0_lastFrame_0 rfl (lv_at hl 0 rfl) ?_
  refine va_get (D := D) (ci := 0) (v := .int acnt) (C := RX0) (T := TX0) (N := 3) hx hb hts tbX0 hown hK hP 0 AW_0 rfl 2 (by decide) (hts _ tm_1_74) (fun _ h9 => h9) rfl dX0_lastFrame_1 ?_
  refine lv_if_le (tgt := 30) hx hb dX0_lastFrame_4 (by decide) (fun c_4 => ?_) (fun c_4 => ?_)
  · rw [if_pos c_4] at hR
    refine lv_iconst (v := (0 : Int32)) hx hb dX0_lastFrame_30 (by decide) ?_
    subst hR
    exact fin _ _ dX0_lastFrame_31 (nar_i _)
  · rw [if_neg c_4] at hR
    refine lv_aload_n hx hb dX0_lastFrame_7 rfl (lv_at hl 0 rfl) ?_
    refine va_get (D := D) (ci := 0) (v := .int acnt) (C := RX0) (T := TX0) (N := 3) hx hb hts tbX0 hown hK hP 0 AW_0 rfl 2 (by decide) (hts _ tm_1_74) (fun _ h9 => h9) rfl dX0_lastFrame_8 ?_
    refine lv_bipush (v := (14 : Int32)) hx hb dX0_lastFrame_11 (by decide) ?_
    refine lv_icmp_gt (tgt := 30) hx hb dX0_lastFrame_13 (by decide) (fun c_13 => ?_) (fun c_13 => ?_)
    · rw [if_pos c_13] at hR
      refine lv_iconst (v := (0 : Int32)) hx hb dX0_lastFrame_30 (by decide) ?_
      subst hR
      exact fin _ _ dX0_lastFrame_31 (nar_i _)
    · rw [if_neg c_13] at hR
      refine lv_aload_n hx hb dX0_lastFrame_16 rfl (lv_at hl 0 rfl) ?_
      refine va_get (D := D) (ci := 0) (v := .ref (q 8)) (C := RX0) (T := TX0) (N := 3) hx hb hts tbX0 hown hK hP 0 AW_0 rfl 0 (by decide) (hts _ tm_1_72) (fun _ h9 => h9) rfl dX0_lastFrame_17 ?_
      refine lv_aload_n hx hb dX0_lastFrame_20 rfl (lv_at hl 0 rfl) ?_
      refine va_get (D := D) (ci := 0) (v := .int acnt) (C := RX0) (T := TX0) (N := 3) hx hb hts tbX0 hown hK hP 0 AW_0 rfl 2 (by decide) (hts _ tm_1_74) (fun _ h9 => h9) rfl dX0_lastFrame_21 ?_
      refine lv_iconst (v := (1 : Int32)) hx hb dX0_lastFrame_24 (by decide) ?_
      refine lv_isub hx hb dX0_lastFrame_25 ?_
      refine va_iald hx hb hK hP 1 0 AW_1 rfl (vi_c (b := 14) (by decide) c_4 c_13) dX0_lastFrame_26 ?_
      refine lv_goto (tgt := 31) hx hb dX0_lastFrame_27 (by decide) ?_
      subst hR
      exact fin _ _ dX0_lastFrame_31 (nar_i _)
def f_X0_lastRains (acnt : Int32) (rainsB : Nat → Int32) : Int32 := (if acnt ≤ (0 : Int32) then (0 : Int32) else (if (14 : Int32) < acnt then (0 : Int32) else (rainsB (acnt - (1 : Int32)).toNatClampNeg)))
set_option maxHeartbeats 4000000 in
set_option maxRecDepth 100000 in
theorem c_X0_lastRains (l : Launch) (D : va_G) (cI cZ : ClassId) (q : Nat → Nat) (acnt : Int32) (frames rainsB : Nat → Int32) : RdI l yX0_lastRains cX0_lastRains 1 .int 0 0 D (tyL cI cZ) (AW cI cZ q acnt frames rainsB) [.ref (q 3)] (f_X0_lastRains acnt rainsB) := by
  refine RdI.of (by decide) (Nat.le_of_ble_eq_true rfl) ?_
  intro p e s m args below meth c Q hx hb hml hown hts hP hK fin ls hl
  have hown : s.vm.findClass RX0 = some m.cls := hown
  have hF : CallFix p m c cX0_lastRains 1 s args tb RX0 := ⟨hx, hb, hml, hown, hts⟩
  have hl : lv_has ls 1 [(0, .ref (q 3))] := hl
  generalize hR : (f_X0_lastRains acnt rainsB) = R at fin
  unfold f_X0_lastRains at hR
  refine lv_aload_n hx hb dX0_lastRains_0 rfl (lv_at hl 0 rfl) ?_
  refine va_get (D := D) (ci := 0) (v := .int acnt) (C := RX0) (T := TX0) (N := 3) hx hb hts tbX0 hown hK hP 0 AW_0 rfl 2 (by decide) (hts _ tm_1_74) (fun _ h9 => h9) rfl dX0_lastRains_1 ?_
  refine lv_if_le (tgt := 30) hx hb dX0_lastRains_4 (by decide) (fun c_4 => ?_) (fun c_4 => ?_)
  · rw [if_pos c_4] at hR
    refine lv_iconst (v := (0 : Int32)) hx hb dX0_lastRains_30 (by decide) ?_
    subst hR
    exact fin _ _ dX0_lastRains_31 (nar_i _)
  · rw [if_neg c_4] at hR
    refine lv_aload_n hx hb dX0_lastRains_7 rfl (lv_at hl 0 rfl) ?_
    refine va_get (D := D) (ci := 0) (v := .int acnt) (C := RX0) (T := TX0) (N := 3) hx hb hts tbX0 hown hK hP 0 AW_0 rfl 2 (by decide) (hts _ tm_1_74) (fun _ h9 => h9) rfl dX0_lastRains_8 ?_
    refine lv_bipush (v := (14 : Int32)) hx hb dX0_lastRains_11 (by decide) ?_
    refine lv_icmp_gt (tgt := 30) hx hb dX0_lastRains_13 (by decide) (fun c_13 => ?_) (fun c_13 => ?_)
    · rw [if_pos c_13] at hR
      refine lv_iconst (v := (0 : Int32)) hx hb dX0_lastRains_30 (by decide) ?_
      subst hR
      exact fin _ _ dX0_lastRains_31 (nar_i _)
    · rw [if_neg c_13] at hR
      refine lv_aload_n hx hb dX0_lastRains_16 rfl (lv_at hl 0 rfl) ?_
      refine va_get (D := D) (ci := 0) (v := .ref (q 9)) (C := RX0) (T := TX0) (N := 3) hx hb hts tbX0 hown hK hP 0 AW_0 rfl 1 (by decide) (hts _ tm_1_73) (fun _ h9 => h9) rfl dX0_lastRains_17 ?_
      refine lv_aload_n hx hb dX0_lastRains_20 rfl (lv_at hl 0 rfl) ?_
      refine va_get (D := D) (ci := 0) (v := .int acnt) (C := RX0) (T := TX0) (N := 3) hx hb hts tbX0 hown hK hP 0 AW_0 rfl 2 (by decide) (hts _ tm_1_74) (fun _ h9 => h9) rfl dX0_lastRains_21 ?_
      refine lv_iconst (v := (1 : Int32)) hx hb dX0_lastRains_24 (by decide) ?_
      refine lv_isub hx hb dX0_lastRains_25 ?_
      refine va_iald hx hb hK hP 2 0 AW_2 rfl (vi_c (b := 14) (by decide) c_4 c_13) dX0_lastRains_26 ?_
      refine lv_goto (tgt := 31) hx hb dX0_lastRains_27 (by decide) ?_
      subst hR
      exact fin _ _ dX0_lastRains_31 (nar_i _)
def f_X0_forgetFirst_l2  : Nat → Nat → (Nat → Int32) → (Nat → Int32) → (Nat → Int32) × (Nat → Int32)
  | 0, i_2, fra, rab => (fra, rab)
  | d_2 + 1, i_2, fra, rab => (f_X0_forgetFirst_l2  d_2 (i_2 + 1) (upd fra (i_2 - 1) (fra i_2)) (upd rab (i_2 - 1) (rab i_2)))
theorem f_X0_forgetFirst_l2_z  {i_2 : Nat} {fra : Nat → Int32} {rab : Nat → Int32} : f_X0_forgetFirst_l2  0 i_2 fra rab = (fra, rab) := rfl
theorem f_X0_forgetFirst_l2_s  {d_2 : Nat} {i_2 : Nat} {fra : Nat → Int32} {rab : Nat → Int32} : f_X0_forgetFirst_l2  (d_2 + 1) i_2 fra rab = (f_X0_forgetFirst_l2  d_2 (i_2 + 1) (upd fra (i_2 - 1) (fra i_2)) (upd rab (i_2 - 1) (rab i_2))) := rfl
def f_X0_forgetFirst (frames : Nat → Int32) (rainsB : Nat → Int32) : (Int32) × (Nat → Int32) × (Nat → Int32) := ((13 : Int32), (f_X0_forgetFirst_l2  13 1 frames rainsB).1, (f_X0_forgetFirst_l2  13 1 frames rainsB).2)
set_option maxHeartbeats 4000000 in
set_option maxRecDepth 100000 in
theorem c_X0_forgetFirst (l : Launch) (D : va_G) (cI cZ : ClassId) (q : Nat → Nat) (now rains length poles parts plain key stair air acnt tcnt : Int32) (letters cells kinds frames rainsB abouts stoods kept keptF keptR : Nat → Int32) (seed : Int64) : WrV l yX0_forgetFirst cX0_forgetFirst 2 0 0 D (tyL cI cZ) (XW cI cZ q now rains length poles parts plain key stair air acnt tcnt letters cells kinds frames rainsB abouts stoods kept keptF keptR seed) [.ref (q 3)] (XW cI cZ q now rains length poles parts plain key stair air (f_X0_forgetFirst frames rainsB).1 tcnt letters cells kinds (f_X0_forgetFirst frames rainsB).2.1 (f_X0_forgetFirst frames rainsB).2.2 abouts stoods kept keptF keptR seed) := by
  refine WrV.of (by decide) (Nat.le_of_ble_eq_true rfl) ?_
  intro p e s m args below meth c Q A hx hb hml hown hts hP hK hD hS fin ls hl
  have hown : s.vm.findClass RX0 = some m.cls := hown
  have hF : CallFix p m c cX0_forgetFirst 2 s args tb RX0 := ⟨hx, hb, hml, hown, hts⟩
  have hl : lv_has ls 2 [(0, .ref (q 3))] := hl
  generalize hR : (f_X0_forgetFirst frames rainsB) = R at fin
  unfold f_X0_forgetFirst at hR
  refine lv_iconst (v := (1 : Int32)) hx hb dX0_forgetFirst_0 (by decide) ?_
  refine lv_istore_n (lv' := [(1, .int (1 : Int32)), (0, .ref (q 3))]) hx hb dX0_forgetFirst_1 rfl hl (by decide) rfl (fun ls hl => ?_)
  obtain ⟨T_2, hT_2⟩ : ∃ z, f_X0_forgetFirst_l2  13 1 frames rainsB = z := ⟨_, rfl⟩
  rw [hT_2] at hR
  have key_2 : ∀ (d_2 i_2 : Nat) (fra : Nat → Int32) (rab : Nat → Int32) (ls : Array Slot) (H : Heap) (locs : List Loc), i_2 + d_2 = 14 → 1 ≤ i_2 → f_X0_forgetFirst_l2  d_2 i_2 fra rab = T_2 → lv_has ls 2 [(1, .int (nI i_2)), (0, .ref (q 3))] → va_P D vwCl (XW cI cZ q now rains length poles parts plain key stair air acnt tcnt letters cells kinds fra rab abouts stoods kept keptF keptR seed) H → va_S A s.heap H locs → W p l e (rmO 0 0) s m args below meth c H locs 0 0 Q (F0 m 2 ls []) := by
    intro d_2
    induction d_2 with
    | zero =>
      intro i_2 fra rab ls H locs hi_2 h1_2 hT_2 hl hP hS
      have hD : va_D A (XW cI cZ q now rains length poles parts plain key stair air acnt tcnt letters cells kinds fra rab abouts stoods kept keptF keptR seed) := hD.same rfl
      rw [f_X0_forgetFirst_l2_z] at hT_2
      refine lv_iload_n hx hb dX0_forgetFirst_2 rfl (lv_at hl 0 rfl) ?_
      refine lv_bipush (v := (14 : Int32)) hx hb dX0_forgetFirst_3 (by decide) ?_
      refine lv_icmp_ge (tgt := 42) hx hb dX0_forgetFirst_5 (by decide) (fun c_5 => ?_) (fun c_5 => absurd (nI_le (a := 14) (by omega) (by omega)) c_5)
      subst hT_2
      try dsimp only at hR
      refine lv_aload_n hx hb dX0_forgetFirst_42 rfl (lv_at hl 1 rfl) ?_
      refine lv_bipush (v := (13 : Int32)) hx hb dX0_forgetFirst_43 (by decide) ?_
      refine va_put (D := D) (ci := 0) (v := .int (13 : Int32)) (ty := .int) (C := RX0) (T := TX0) (N := 3) hx hb hts tbX0 tyX0 tyX0_ok nmX0 hown hK hP hD hS 3 XW_3 rfl 2 (by decide) (hts _ tm_1_74) (fun _ h9 => h9) rfl (by decide +kernel) rfl rfl (Nat.le_of_ble_eq_true rfl) dX0_forgetFirst_45 (fun H locs hP hD hS => ?_)
      have hP : va_P D vwCl (XW cI cZ q now rains length poles parts plain key stair air (13 : Int32) tcnt letters cells kinds fra rab abouts stoods kept keptF keptR seed) H := hP
      have hD : va_D A (XW cI cZ q now rains length poles parts plain key stair air (13 : Int32) tcnt letters cells kinds fra rab abouts stoods kept keptF keptR seed) := hD.same rfl
      subst hR
      exact fin _ _ _ _ dX0_forgetFirst_48 hP hS
    | succ d_2 ih_2 =>
      intro i_2 fra rab ls H locs hi_2 h1_2 hT_2 hl hP hS
      have hD : va_D A (XW cI cZ q now rains length poles parts plain key stair air acnt tcnt letters cells kinds fra rab abouts stoods kept keptF keptR seed) := hD.same rfl
      rw [f_X0_forgetFirst_l2_s] at hT_2
      refine lv_iload_n hx hb dX0_forgetFirst_2 rfl (lv_at hl 0 rfl) ?_
      refine lv_bipush (v := (14 : Int32)) hx hb dX0_forgetFirst_3 (by decide) ?_
      refine lv_icmp_ge (tgt := 42) hx hb dX0_forgetFirst_5 (by decide) (fun c_5 => absurd c_5 (nI_ge (b := 14) (by omega) (by omega))) (fun c_5 => ?_)
      refine lv_aload_n hx hb dX0_forgetFirst_8 rfl (lv_at hl 1 rfl) ?_
      refine va_get (D := D) (ci := 0) (v := .ref (q 8)) (C := RX0) (T := TX0) (N := 3) hx hb hts tbX0 hown hK hP 3 XW_3 rfl 0 (by decide) (hts _ tm_1_72) (fun _ h9 => h9) rfl dX0_forgetFirst_9 ?_
      refine lv_iload_n hx hb dX0_forgetFirst_12 rfl (lv_at hl 0 rfl) ?_
      refine lv_iconst (v := (1 : Int32)) hx hb dX0_forgetFirst_13 (by decide) ?_
      refine lv_isub hx hb dX0_forgetFirst_14 ?_
      refine lv_rw (z := (nI (i_2 - 1))) (pk_sub (b := 1) (show 1 ≤ i_2 by omega)) ?_
      refine lv_aload_n hx hb dX0_forgetFirst_15 rfl (lv_at hl 1 rfl) ?_
      refine va_get (D := D) (ci := 0) (v := .ref (q 8)) (C := RX0) (T := TX0) (N := 3) hx hb hts tbX0 hown hK hP 3 XW_3 rfl 0 (by decide) (hts _ tm_1_72) (fun _ h9 => h9) rfl dX0_forgetFirst_16 ?_
      refine lv_iload_n hx hb dX0_forgetFirst_19 rfl (lv_at hl 0 rfl) ?_
      refine va_iald hx hb hK hP 8 0 XW_8 rfl (vp_in_nI (show i_2 < 14 by omega) (by omega)) dX0_forgetFirst_20 ?_
      refine lv_rw (z := (fra i_2)) (congrArg fra (nI_clamp (show i_2 < 2 ^ 31 by omega))) ?_
      refine va_iast hx hb hK hP hD hS 8 0 XW_8 rfl (vp_in_nI (show (i_2 - 1) < 14 by omega) (by omega)) dX0_forgetFirst_21 (fun H locs hP hD hS => ?_)
      have hP : va_P D vwCl (XW cI cZ q now rains length poles parts plain key stair air acnt tcnt letters cells kinds (upd fra (nI (i_2 - 1)).toNatClampNeg (fra i_2)) rab abouts stoods kept keptF keptR seed) H := hP
      rw [(nI_clamp (show (i_2 - 1) < 2 ^ 31 by omega))] at hP
      have hD : va_D A (XW cI cZ q now rains length poles parts plain key stair air acnt tcnt letters cells kinds (upd fra (i_2 - 1) (fra i_2)) rab abouts stoods kept keptF keptR seed) := hD.same rfl
      refine lv_aload_n hx hb dX0_forgetFirst_22 rfl (lv_at hl 1 rfl) ?_
      refine va_get (D := D) (ci := 0) (v := .ref (q 9)) (C := RX0) (T := TX0) (N := 3) hx hb hts tbX0 hown hK hP 3 XW_3 rfl 1 (by decide) (hts _ tm_1_73) (fun _ h9 => h9) rfl dX0_forgetFirst_23 ?_
      refine lv_iload_n hx hb dX0_forgetFirst_26 rfl (lv_at hl 0 rfl) ?_
      refine lv_iconst (v := (1 : Int32)) hx hb dX0_forgetFirst_27 (by decide) ?_
      refine lv_isub hx hb dX0_forgetFirst_28 ?_
      refine lv_rw (z := (nI (i_2 - 1))) (pk_sub (b := 1) (show 1 ≤ i_2 by omega)) ?_
      refine lv_aload_n hx hb dX0_forgetFirst_29 rfl (lv_at hl 1 rfl) ?_
      refine va_get (D := D) (ci := 0) (v := .ref (q 9)) (C := RX0) (T := TX0) (N := 3) hx hb hts tbX0 hown hK hP 3 XW_3 rfl 1 (by decide) (hts _ tm_1_73) (fun _ h9 => h9) rfl dX0_forgetFirst_30 ?_
      refine lv_iload_n hx hb dX0_forgetFirst_33 rfl (lv_at hl 0 rfl) ?_
      refine va_iald hx hb hK hP 9 0 XW_9 rfl (vp_in_nI (show i_2 < 14 by omega) (by omega)) dX0_forgetFirst_34 ?_
      refine lv_rw (z := (rab i_2)) (congrArg rab (nI_clamp (show i_2 < 2 ^ 31 by omega))) ?_
      refine va_iast hx hb hK hP hD hS 9 0 XW_9 rfl (vp_in_nI (show (i_2 - 1) < 14 by omega) (by omega)) dX0_forgetFirst_35 (fun H locs hP hD hS => ?_)
      have hP : va_P D vwCl (XW cI cZ q now rains length poles parts plain key stair air acnt tcnt letters cells kinds (upd fra (i_2 - 1) (fra i_2)) (upd rab (nI (i_2 - 1)).toNatClampNeg (rab i_2)) abouts stoods kept keptF keptR seed) H := hP
      rw [(nI_clamp (show (i_2 - 1) < 2 ^ 31 by omega))] at hP
      have hD : va_D A (XW cI cZ q now rains length poles parts plain key stair air acnt tcnt letters cells kinds (upd fra (i_2 - 1) (fra i_2)) (upd rab (i_2 - 1) (rab i_2)) abouts stoods kept keptF keptR seed) := hD.same rfl
      refine lv_iinc (v := (nI (i_2 + 1))) (lv' := [(1, .int (nI (i_2 + 1))), (0, .ref (q 3))]) hx hb dX0_forgetFirst_36 hl (k := 0) rfl (nI_up i_2) (by decide) rfl (fun ls hl => ?_)
      refine lv_goto (tgt := 2) hx hb dX0_forgetFirst_39 (by decide) ?_
      exact ih_2 (i_2 + 1) (upd fra (i_2 - 1) (fra i_2)) (upd rab (i_2 - 1) (rab i_2)) ls _ _ (by omega) (by omega) hT_2 (lv_sub hl [0, 1] rfl) hP hS
  exact key_2 13 1 frames rainsB ls _ _ (by omega) (by omega) hT_2 (lv_sub hl [0, 1] rfl) hP hS
def f_X0_remember (acnt : Int32) (frames : Nat → Int32) (rainsB : Nat → Int32) (a1 : Int32) (a2 : Int32) : (Int32) × (Nat → Int32) × (Nat → Int32) := (if acnt < (14 : Int32) then (if acnt < (0 : Int32) then (acnt, frames, rainsB) else (if (14 : Int32) ≤ acnt then (acnt, frames, rainsB) else ((acnt + (1 : Int32)), (upd frames acnt.toNatClampNeg a1), (upd rainsB acnt.toNatClampNeg a2)))) else (if (f_X0_forgetFirst frames rainsB).1 < (0 : Int32) then ((f_X0_forgetFirst frames rainsB).1, (f_X0_forgetFirst frames rainsB).2.1, (f_X0_forgetFirst frames rainsB).2.2) else (if (14 : Int32) ≤ (f_X0_forgetFirst frames rainsB).1 then ((f_X0_forgetFirst frames rainsB).1, (f_X0_forgetFirst frames rainsB).2.1, (f_X0_forgetFirst frames rainsB).2.2) else (((f_X0_forgetFirst frames rainsB).1 + (1 : Int32)), (upd (f_X0_forgetFirst frames rainsB).2.1 (f_X0_forgetFirst frames rainsB).1.toNatClampNeg a1), (upd (f_X0_forgetFirst frames rainsB).2.2 (f_X0_forgetFirst frames rainsB).1.toNatClampNeg a2)))))
set_option maxHeartbeats 4000000 in
set_option maxRecDepth 100000 in
theorem c_X0_remember (l : Launch) (D : va_G) (cI cZ : ClassId) (q : Nat → Nat) (now rains length poles parts plain key stair air acnt tcnt : Int32) (letters cells kinds frames rainsB abouts stoods kept keptF keptR : Nat → Int32) (seed : Int64) (a1 : Int32) (a2 : Int32) : WrV l yX0_remember cX0_remember 3 1 21 D (tyL cI cZ) (XW cI cZ q now rains length poles parts plain key stair air acnt tcnt letters cells kinds frames rainsB abouts stoods kept keptF keptR seed) [.ref (q 3), .int a1, .int a2] (XW cI cZ q now rains length poles parts plain key stair air (f_X0_remember acnt frames rainsB a1 a2).1 tcnt letters cells kinds (f_X0_remember acnt frames rainsB a1 a2).2.1 (f_X0_remember acnt frames rainsB a1 a2).2.2 abouts stoods kept keptF keptR seed) := by
  refine WrV.of (by decide) (Nat.le_of_ble_eq_true rfl) ?_
  intro p e s m args below meth c Q A hx hb hml hown hts hP hK hD hS fin ls hl
  have hown : s.vm.findClass RX0 = some m.cls := hown
  have hF : CallFix p m c cX0_remember 3 s args tb RX0 := ⟨hx, hb, hml, hown, hts⟩
  have hl : lv_has ls 3 [(0, .ref (q 3)), (1, .int a1), (2, .int a2)] := hl
  generalize hR : (f_X0_remember acnt frames rainsB a1 a2) = R at fin
  unfold f_X0_remember at hR
  refine lv_aload_n hx hb dX0_remember_0 rfl (lv_at hl 0 rfl) ?_
  refine va_get (D := D) (ci := 0) (v := .int acnt) (C := RX0) (T := TX0) (N := 3) hx hb hts tbX0 hown hK hP 3 XW_3 rfl 2 (by decide) (hts _ tm_1_74) (fun _ h9 => h9) rfl dX0_remember_1 ?_
  refine lv_bipush (v := (14 : Int32)) hx hb dX0_remember_4 (by decide) ?_
  refine lv_icmp_lt (tgt := 13) hx hb dX0_remember_6 (by decide) (fun c_6 => ?_) (fun c_6 => ?_)
  · rw [if_pos c_6] at hR
    refine lv_aload_n hx hb dX0_remember_13 rfl (lv_at hl 0 rfl) ?_
    refine va_get (D := D) (ci := 0) (v := .int acnt) (C := RX0) (T := TX0) (N := 3) hx hb hts tbX0 hown hK hP 3 XW_3 rfl 2 (by decide) (hts _ tm_1_74) (fun _ h9 => h9) rfl dX0_remember_14 ?_
    refine lv_if_lt (tgt := 59) hx hb dX0_remember_17 (by decide) (fun c_17 => ?_) (fun c_17 => ?_)
    · rw [if_pos c_17] at hR
      subst hR
      exact fin _ _ _ _ dX0_remember_59 hP hS
    · rw [if_neg c_17] at hR
      refine lv_aload_n hx hb dX0_remember_20 rfl (lv_at hl 0 rfl) ?_
      refine va_get (D := D) (ci := 0) (v := .int acnt) (C := RX0) (T := TX0) (N := 3) hx hb hts tbX0 hown hK hP 3 XW_3 rfl 2 (by decide) (hts _ tm_1_74) (fun _ h9 => h9) rfl dX0_remember_21 ?_
      refine lv_bipush (v := (14 : Int32)) hx hb dX0_remember_24 (by decide) ?_
      refine lv_icmp_ge (tgt := 59) hx hb dX0_remember_26 (by decide) (fun c_26 => ?_) (fun c_26 => ?_)
      · rw [if_pos c_26] at hR
        subst hR
        exact fin _ _ _ _ dX0_remember_59 hP hS
      · rw [if_neg c_26] at hR
        refine lv_aload_n hx hb dX0_remember_29 rfl (lv_at hl 0 rfl) ?_
        refine va_get (D := D) (ci := 0) (v := .ref (q 8)) (C := RX0) (T := TX0) (N := 3) hx hb hts tbX0 hown hK hP 3 XW_3 rfl 0 (by decide) (hts _ tm_1_72) (fun _ h9 => h9) rfl dX0_remember_30 ?_
        refine lv_aload_n hx hb dX0_remember_33 rfl (lv_at hl 0 rfl) ?_
        refine va_get (D := D) (ci := 0) (v := .int acnt) (C := RX0) (T := TX0) (N := 3) hx hb hts tbX0 hown hK hP 3 XW_3 rfl 2 (by decide) (hts _ tm_1_74) (fun _ h9 => h9) rfl dX0_remember_34 ?_
        refine lv_iload_n hx hb dX0_remember_37 rfl (lv_at hl 1 rfl) ?_
        refine va_iast hx hb hK hP hD hS 8 0 XW_8 rfl (vi_b (b := 14) (by decide) c_17 c_26) dX0_remember_38 (fun H locs hP hD hS => ?_)
        have hP : va_P D vwCl (XW cI cZ q now rains length poles parts plain key stair air acnt tcnt letters cells kinds (upd frames acnt.toNatClampNeg a1) rainsB abouts stoods kept keptF keptR seed) H := hP
        have hD : va_D A (XW cI cZ q now rains length poles parts plain key stair air acnt tcnt letters cells kinds (upd frames acnt.toNatClampNeg a1) rainsB abouts stoods kept keptF keptR seed) := hD.same rfl
        refine lv_aload_n hx hb dX0_remember_39 rfl (lv_at hl 0 rfl) ?_
        refine va_get (D := D) (ci := 0) (v := .ref (q 9)) (C := RX0) (T := TX0) (N := 3) hx hb hts tbX0 hown hK hP 3 XW_3 rfl 1 (by decide) (hts _ tm_1_73) (fun _ h9 => h9) rfl dX0_remember_40 ?_
        refine lv_aload_n hx hb dX0_remember_43 rfl (lv_at hl 0 rfl) ?_
        refine va_get (D := D) (ci := 0) (v := .int acnt) (C := RX0) (T := TX0) (N := 3) hx hb hts tbX0 hown hK hP 3 XW_3 rfl 2 (by decide) (hts _ tm_1_74) (fun _ h9 => h9) rfl dX0_remember_44 ?_
        refine lv_iload_n hx hb dX0_remember_47 rfl (lv_at hl 2 rfl) ?_
        refine va_iast hx hb hK hP hD hS 9 0 XW_9 rfl (vi_b (b := 14) (by decide) c_17 c_26) dX0_remember_48 (fun H locs hP hD hS => ?_)
        have hP : va_P D vwCl (XW cI cZ q now rains length poles parts plain key stair air acnt tcnt letters cells kinds (upd frames acnt.toNatClampNeg a1) (upd rainsB acnt.toNatClampNeg a2) abouts stoods kept keptF keptR seed) H := hP
        have hD : va_D A (XW cI cZ q now rains length poles parts plain key stair air acnt tcnt letters cells kinds (upd frames acnt.toNatClampNeg a1) (upd rainsB acnt.toNatClampNeg a2) abouts stoods kept keptF keptR seed) := hD.same rfl
        refine lv_aload_n hx hb dX0_remember_49 rfl (lv_at hl 0 rfl) ?_
        refine lv_dup hx hb dX0_remember_50 rfl ?_
        refine va_get (D := D) (ci := 0) (v := .int acnt) (C := RX0) (T := TX0) (N := 3) hx hb hts tbX0 hown hK hP 3 XW_3 rfl 2 (by decide) (hts _ tm_1_74) (fun _ h9 => h9) rfl dX0_remember_51 ?_
        refine lv_iconst (v := (1 : Int32)) hx hb dX0_remember_54 (by decide) ?_
        refine lv_iadd hx hb dX0_remember_55 ?_
        refine va_put (D := D) (ci := 0) (v := .int (acnt + (1 : Int32))) (ty := .int) (C := RX0) (T := TX0) (N := 3) hx hb hts tbX0 tyX0 tyX0_ok nmX0 hown hK hP hD hS 3 XW_3 rfl 2 (by decide) (hts _ tm_1_74) (fun _ h9 => h9) rfl (by decide +kernel) rfl rfl (Nat.le_of_ble_eq_true rfl) dX0_remember_56 (fun H locs hP hD hS => ?_)
        have hP : va_P D vwCl (XW cI cZ q now rains length poles parts plain key stair air (acnt + (1 : Int32)) tcnt letters cells kinds (upd frames acnt.toNatClampNeg a1) (upd rainsB acnt.toNatClampNeg a2) abouts stoods kept keptF keptR seed) H := hP
        have hD : va_D A (XW cI cZ q now rains length poles parts plain key stair air (acnt + (1 : Int32)) tcnt letters cells kinds (upd frames acnt.toNatClampNeg a1) (upd rainsB acnt.toNatClampNeg a2) abouts stoods kept keptF keptR seed) := hD.same rfl
        subst hR
        exact fin _ _ _ _ dX0_remember_59 hP hS
  · rw [if_neg c_6] at hR
    refine lv_aload_n hx hb dX0_remember_9 rfl (lv_at hl 0 rfl) ?_
    refine vWrV (b := (q 3)) (As := []) (rest := []) hF (c_X0_forgetFirst l D cI cZ q now rains length poles parts plain key stair air acnt tcnt letters cells kinds frames rainsB abouts stoods kept keptF keptR seed) (gdV tm_2_32 tm_2_33 tm_2_34 tm_1_4 tm_2_35) de_X0_forgetFirst ⟨Nat.le_of_ble_eq_true rfl, Nat.le_of_ble_eq_true rfl⟩ hP hK (va_recv hK hP (ci := 0) (q0 := 3) rfl XW_3) hl.1 rfl (Nat.le_of_ble_eq_true rfl) dX0_remember_10 ⟨Nat.zero_le _, Nat.zero_le _⟩ hD hS (fun H locs hP hS => ?_)
    have hP : va_P D vwCl (XW cI cZ q now rains length poles parts plain key stair air (f_X0_forgetFirst frames rainsB).1 tcnt letters cells kinds (f_X0_forgetFirst frames rainsB).2.1 (f_X0_forgetFirst frames rainsB).2.2 abouts stoods kept keptF keptR seed) H := hP
    have hD : va_D A (XW cI cZ q now rains length poles parts plain key stair air (f_X0_forgetFirst frames rainsB).1 tcnt letters cells kinds (f_X0_forgetFirst frames rainsB).2.1 (f_X0_forgetFirst frames rainsB).2.2 abouts stoods kept keptF keptR seed) := hD.same rfl
    refine lv_aload_n hx hb dX0_remember_13 rfl (lv_at hl 0 rfl) ?_
    refine va_get (D := D) (ci := 0) (v := .int (f_X0_forgetFirst frames rainsB).1) (C := RX0) (T := TX0) (N := 3) hx hb hts tbX0 hown hK hP 3 XW_3 rfl 2 (by decide) (hts _ tm_1_74) (fun _ h9 => h9) rfl dX0_remember_14 ?_
    refine lv_if_lt (tgt := 59) hx hb dX0_remember_17 (by decide) (fun c_17 => ?_) (fun c_17 => ?_)
    · rw [if_pos c_17] at hR
      subst hR
      exact fin _ _ _ _ dX0_remember_59 hP hS
    · rw [if_neg c_17] at hR
      refine lv_aload_n hx hb dX0_remember_20 rfl (lv_at hl 0 rfl) ?_
      refine va_get (D := D) (ci := 0) (v := .int (f_X0_forgetFirst frames rainsB).1) (C := RX0) (T := TX0) (N := 3) hx hb hts tbX0 hown hK hP 3 XW_3 rfl 2 (by decide) (hts _ tm_1_74) (fun _ h9 => h9) rfl dX0_remember_21 ?_
      refine lv_bipush (v := (14 : Int32)) hx hb dX0_remember_24 (by decide) ?_
      refine lv_icmp_ge (tgt := 59) hx hb dX0_remember_26 (by decide) (fun c_26 => ?_) (fun c_26 => ?_)
      · rw [if_pos c_26] at hR
        subst hR
        exact fin _ _ _ _ dX0_remember_59 hP hS
      · rw [if_neg c_26] at hR
        refine lv_aload_n hx hb dX0_remember_29 rfl (lv_at hl 0 rfl) ?_
        refine va_get (D := D) (ci := 0) (v := .ref (q 8)) (C := RX0) (T := TX0) (N := 3) hx hb hts tbX0 hown hK hP 3 XW_3 rfl 0 (by decide) (hts _ tm_1_72) (fun _ h9 => h9) rfl dX0_remember_30 ?_
        refine lv_aload_n hx hb dX0_remember_33 rfl (lv_at hl 0 rfl) ?_
        refine va_get (D := D) (ci := 0) (v := .int (f_X0_forgetFirst frames rainsB).1) (C := RX0) (T := TX0) (N := 3) hx hb hts tbX0 hown hK hP 3 XW_3 rfl 2 (by decide) (hts _ tm_1_74) (fun _ h9 => h9) rfl dX0_remember_34 ?_
        refine lv_iload_n hx hb dX0_remember_37 rfl (lv_at hl 1 rfl) ?_
        refine va_iast hx hb hK hP hD hS 8 0 XW_8 rfl (vi_b (b := 14) (by decide) c_17 c_26) dX0_remember_38 (fun H locs hP hD hS => ?_)
        have hP : va_P D vwCl (XW cI cZ q now rains length poles parts plain key stair air (f_X0_forgetFirst frames rainsB).1 tcnt letters cells kinds (upd (f_X0_forgetFirst frames rainsB).2.1 (f_X0_forgetFirst frames rainsB).1.toNatClampNeg a1) (f_X0_forgetFirst frames rainsB).2.2 abouts stoods kept keptF keptR seed) H := hP
        have hD : va_D A (XW cI cZ q now rains length poles parts plain key stair air (f_X0_forgetFirst frames rainsB).1 tcnt letters cells kinds (upd (f_X0_forgetFirst frames rainsB).2.1 (f_X0_forgetFirst frames rainsB).1.toNatClampNeg a1) (f_X0_forgetFirst frames rainsB).2.2 abouts stoods kept keptF keptR seed) := hD.same rfl
        refine lv_aload_n hx hb dX0_remember_39 rfl (lv_at hl 0 rfl) ?_
        refine va_get (D := D) (ci := 0) (v := .ref (q 9)) (C := RX0) (T := TX0) (N := 3) hx hb hts tbX0 hown hK hP 3 XW_3 rfl 1 (by decide) (hts _ tm_1_73) (fun _ h9 => h9) rfl dX0_remember_40 ?_
        refine lv_aload_n hx hb dX0_remember_43 rfl (lv_at hl 0 rfl) ?_
        refine va_get (D := D) (ci := 0) (v := .int (f_X0_forgetFirst frames rainsB).1) (C := RX0) (T := TX0) (N := 3) hx hb hts tbX0 hown hK hP 3 XW_3 rfl 2 (by decide) (hts _ tm_1_74) (fun _ h9 => h9) rfl dX0_remember_44 ?_
        refine lv_iload_n hx hb dX0_remember_47 rfl (lv_at hl 2 rfl) ?_
        refine va_iast hx hb hK hP hD hS 9 0 XW_9 rfl (vi_b (b := 14) (by decide) c_17 c_26) dX0_remember_48 (fun H locs hP hD hS => ?_)
        have hP : va_P D vwCl (XW cI cZ q now rains length poles parts plain key stair air (f_X0_forgetFirst frames rainsB).1 tcnt letters cells kinds (upd (f_X0_forgetFirst frames rainsB).2.1 (f_X0_forgetFirst frames rainsB).1.toNatClampNeg a1) (upd (f_X0_forgetFirst frames rainsB).2.2 (f_X0_forgetFirst frames rainsB).1.toNatClampNeg a2) abouts stoods kept keptF keptR seed) H := hP
        have hD : va_D A (XW cI cZ q now rains length poles parts plain key stair air (f_X0_forgetFirst frames rainsB).1 tcnt letters cells kinds (upd (f_X0_forgetFirst frames rainsB).2.1 (f_X0_forgetFirst frames rainsB).1.toNatClampNeg a1) (upd (f_X0_forgetFirst frames rainsB).2.2 (f_X0_forgetFirst frames rainsB).1.toNatClampNeg a2) abouts stoods kept keptF keptR seed) := hD.same rfl
        refine lv_aload_n hx hb dX0_remember_49 rfl (lv_at hl 0 rfl) ?_
        refine lv_dup hx hb dX0_remember_50 rfl ?_
        refine va_get (D := D) (ci := 0) (v := .int (f_X0_forgetFirst frames rainsB).1) (C := RX0) (T := TX0) (N := 3) hx hb hts tbX0 hown hK hP 3 XW_3 rfl 2 (by decide) (hts _ tm_1_74) (fun _ h9 => h9) rfl dX0_remember_51 ?_
        refine lv_iconst (v := (1 : Int32)) hx hb dX0_remember_54 (by decide) ?_
        refine lv_iadd hx hb dX0_remember_55 ?_
        refine va_put (D := D) (ci := 0) (v := .int ((f_X0_forgetFirst frames rainsB).1 + (1 : Int32))) (ty := .int) (C := RX0) (T := TX0) (N := 3) hx hb hts tbX0 tyX0 tyX0_ok nmX0 hown hK hP hD hS 3 XW_3 rfl 2 (by decide) (hts _ tm_1_74) (fun _ h9 => h9) rfl (by decide +kernel) rfl rfl (Nat.le_of_ble_eq_true rfl) dX0_remember_56 (fun H locs hP hD hS => ?_)
        have hP : va_P D vwCl (XW cI cZ q now rains length poles parts plain key stair air ((f_X0_forgetFirst frames rainsB).1 + (1 : Int32)) tcnt letters cells kinds (upd (f_X0_forgetFirst frames rainsB).2.1 (f_X0_forgetFirst frames rainsB).1.toNatClampNeg a1) (upd (f_X0_forgetFirst frames rainsB).2.2 (f_X0_forgetFirst frames rainsB).1.toNatClampNeg a2) abouts stoods kept keptF keptR seed) H := hP
        have hD : va_D A (XW cI cZ q now rains length poles parts plain key stair air ((f_X0_forgetFirst frames rainsB).1 + (1 : Int32)) tcnt letters cells kinds (upd (f_X0_forgetFirst frames rainsB).2.1 (f_X0_forgetFirst frames rainsB).1.toNatClampNeg a1) (upd (f_X0_forgetFirst frames rainsB).2.2 (f_X0_forgetFirst frames rainsB).1.toNatClampNeg a2) abouts stoods kept keptF keptR seed) := hD.same rfl
        subst hR
        exact fin _ _ _ _ dX0_remember_59 hP hS
end
section
theorem de_X4_wouldStand : deOK yX4_wouldStand 3 := by decide +kernel
theorem de_X4_agreeWith : deOK yX4_agreeWith 2 := by decide +kernel
theorem de_X4_add : deOK yX4_add 2 := by decide +kernel
def f_X4_wouldStand (a1 : Int32) (a2 : Int32) (a3 : Int32) : Int32 := (if a2 = (0 : Int32) then (1 : Int32) else (if a1 = (0 : Int32) then (if (a3 &&& (1 : Int32)) = (0 : Int32) then (0 : Int32) else (1 : Int32)) else (if a1 = (1 : Int32) then (if (a3 &&& (6 : Int32)) = (6 : Int32) then (1 : Int32) else (0 : Int32)) else (if a1 = (2 : Int32) then (if (a3 &&& (25 : Int32)) = (0 : Int32) then (0 : Int32) else (1 : Int32)) else (1 : Int32)))))
set_option maxHeartbeats 4000000 in
set_option maxRecDepth 100000 in
theorem c_X4_wouldStand (l : Launch) (D : va_G) (cI cZ : ClassId) (q : Nat → Nat) (a1 : Int32) (a2 : Int32) (a3 : Int32) : RdI l yX4_wouldStand cX4_wouldStand 3 .boolean 0 0 D (tyL cI cZ) [] [.int a1, .int a2, .int a3] (f_X4_wouldStand a1 a2 a3) := by
  refine RdI.of (by decide) (Nat.le_of_ble_eq_true rfl) ?_
  intro p e s m args below meth c Q hx hb hml hown hts hP hK fin ls hl
  have hown : s.vm.findClass RX4 = some m.cls := hown
  have hF : CallFix p m c cX4_wouldStand 3 s args tb RX4 := ⟨hx, hb, hml, hown, hts⟩
  have hl : lv_has ls 3 [(0, .int a1), (1, .int a2), (2, .int a3)] := hl
  generalize hR : (f_X4_wouldStand a1 a2 a3) = R at fin
  unfold f_X4_wouldStand at hR
  refine lv_iload_n hx hb dX4_wouldStand_0 rfl (lv_at hl 1 rfl) ?_
  refine lv_if_ne (tgt := 6) hx hb dX4_wouldStand_1 (by decide) (fun c_1 => ?_) (fun c_1 => ?_)
  · rw [if_neg c_1] at hR
    refine lv_iload_n hx hb dX4_wouldStand_6 rfl (lv_at hl 0 rfl) ?_
    refine Decidable.byCases (p := a1 = (0 : Int32)) (fun c_7_0 => ?_) (fun c_7_0 => ?_)
    · rw [if_pos c_7_0] at hR
      refine lv_tableIn (tgt := 32) hx hb dX4_wouldStand_7 (by rw [c_7_0]; decide) (by rw [c_7_0]; decide) (by rw [c_7_0]; rfl) (by decide) ?_
      refine lv_iload_n hx hb dX4_wouldStand_32 rfl (lv_at hl 2 rfl) ?_
      refine lv_iconst (v := (1 : Int32)) hx hb dX4_wouldStand_33 (by decide) ?_
      refine lv_iand hx hb dX4_wouldStand_34 ?_
      refine lv_if_eq (tgt := 42) hx hb dX4_wouldStand_35 (by decide) (fun c_35 => ?_) (fun c_35 => ?_)
      · rw [if_pos c_35] at hR
        refine lv_iconst (v := (0 : Int32)) hx hb dX4_wouldStand_42 (by decide) ?_
        subst hR
        exact fin _ _ dX4_wouldStand_43 (nar_b (Or.inl rfl))
      · rw [if_neg c_35] at hR
        refine lv_iconst (v := (1 : Int32)) hx hb dX4_wouldStand_38 (by decide) ?_
        refine lv_goto (tgt := 43) hx hb dX4_wouldStand_39 (by decide) ?_
        subst hR
        exact fin _ _ dX4_wouldStand_43 (nar_b (Or.inr rfl))
    · rw [if_neg c_7_0] at hR
      refine Decidable.byCases (p := a1 = (1 : Int32)) (fun c_7_1 => ?_) (fun c_7_1 => ?_)
      · rw [if_pos c_7_1] at hR
        refine lv_tableIn (tgt := 44) hx hb dX4_wouldStand_7 (by rw [c_7_1]; decide) (by rw [c_7_1]; decide) (by rw [c_7_1]; rfl) (by decide) ?_
        refine lv_iload_n hx hb dX4_wouldStand_44 rfl (lv_at hl 2 rfl) ?_
        refine lv_bipush (v := (6 : Int32)) hx hb dX4_wouldStand_45 (by decide) ?_
        refine lv_iand hx hb dX4_wouldStand_47 ?_
        refine lv_bipush (v := (6 : Int32)) hx hb dX4_wouldStand_48 (by decide) ?_
        refine lv_icmp_ne (tgt := 57) hx hb dX4_wouldStand_50 (by decide) (fun c_50 => ?_) (fun c_50 => ?_)
        · rw [if_neg c_50] at hR
          refine lv_iconst (v := (0 : Int32)) hx hb dX4_wouldStand_57 (by decide) ?_
          subst hR
          exact fin _ _ dX4_wouldStand_58 (nar_b (Or.inl rfl))
        · rw [if_pos c_50] at hR
          refine lv_iconst (v := (1 : Int32)) hx hb dX4_wouldStand_53 (by decide) ?_
          refine lv_goto (tgt := 58) hx hb dX4_wouldStand_54 (by decide) ?_
          subst hR
          exact fin _ _ dX4_wouldStand_58 (nar_b (Or.inr rfl))
      · rw [if_neg c_7_1] at hR
        refine Decidable.byCases (p := a1 = (2 : Int32)) (fun c_7_2 => ?_) (fun c_7_2 => ?_)
        · rw [if_pos c_7_2] at hR
          refine lv_tableIn (tgt := 59) hx hb dX4_wouldStand_7 (by rw [c_7_2]; decide) (by rw [c_7_2]; decide) (by rw [c_7_2]; rfl) (by decide) ?_
          refine lv_iload_n hx hb dX4_wouldStand_59 rfl (lv_at hl 2 rfl) ?_
          refine lv_bipush (v := (25 : Int32)) hx hb dX4_wouldStand_60 (by decide) ?_
          refine lv_iand hx hb dX4_wouldStand_62 ?_
          refine lv_if_eq (tgt := 70) hx hb dX4_wouldStand_63 (by decide) (fun c_63 => ?_) (fun c_63 => ?_)
          · rw [if_pos c_63] at hR
            refine lv_iconst (v := (0 : Int32)) hx hb dX4_wouldStand_70 (by decide) ?_
            subst hR
            exact fin _ _ dX4_wouldStand_71 (nar_b (Or.inl rfl))
          · rw [if_neg c_63] at hR
            refine lv_iconst (v := (1 : Int32)) hx hb dX4_wouldStand_66 (by decide) ?_
            refine lv_goto (tgt := 71) hx hb dX4_wouldStand_67 (by decide) ?_
            subst hR
            exact fin _ _ dX4_wouldStand_71 (nar_b (Or.inr rfl))
        · rw [if_neg c_7_2] at hR
          refine lv_tableOut (tgt := 72) hx hb dX4_wouldStand_7 (by have h0 := lv_neT c_7_0 (a := 0) (by decide); have h1 := lv_neT c_7_1 (a := 1) (by decide); have h2 := lv_neT c_7_2 (a := 2) (by decide); omega) (by decide) ?_
          refine lv_iconst (v := (1 : Int32)) hx hb dX4_wouldStand_72 (by decide) ?_
          subst hR
          exact fin _ _ dX4_wouldStand_73 (nar_b (Or.inr rfl))
  · rw [if_pos c_1] at hR
    refine lv_iconst (v := (1 : Int32)) hx hb dX4_wouldStand_4 (by decide) ?_
    subst hR
    exact fin _ _ dX4_wouldStand_5 (nar_b (Or.inr rfl))
def f_X4_agreeWith_l2 (abouts : Nat → Int32) (stoods : Nat → Int32) (a1 : Int32) (a2 : Int32) : Nat → Nat → Int32
  | 0, i_2 => (1 : Int32)
  | d_2 + 1, i_2 => (if (f_X4_wouldStand a1 a2 (abouts i_2)) = (stoods i_2) then (f_X4_agreeWith_l2 abouts stoods a1 a2 d_2 (i_2 + 1) ) else (0 : Int32))
theorem f_X4_agreeWith_l2_z {abouts : Nat → Int32} {stoods : Nat → Int32} {a1 : Int32} {a2 : Int32} {i_2 : Nat}  : f_X4_agreeWith_l2 abouts stoods a1 a2 0 i_2  = (1 : Int32) := rfl
theorem f_X4_agreeWith_l2_s {abouts : Nat → Int32} {stoods : Nat → Int32} {a1 : Int32} {a2 : Int32} {d_2 : Nat} {i_2 : Nat}  : f_X4_agreeWith_l2 abouts stoods a1 a2 (d_2 + 1) i_2  = (if (f_X4_wouldStand a1 a2 (abouts i_2)) = (stoods i_2) then (f_X4_agreeWith_l2 abouts stoods a1 a2 d_2 (i_2 + 1) ) else (0 : Int32)) := rfl
def f_X4_agreeWith (tc : Nat) (abouts : Nat → Int32) (stoods : Nat → Int32) (a1 : Int32) (a2 : Int32) : Int32 := (f_X4_agreeWith_l2 abouts stoods a1 a2 tc 0 )
set_option maxHeartbeats 4000000 in
set_option maxRecDepth 100000 in
theorem c_X4_agreeWith (l : Launch) (D : va_G) (cI cZ : ClassId) (q : Nat → Nat) (tcnt : Int32) (abouts stoods : Nat → Int32) (a1 : Int32) (a2 : Int32) (tc : Nat) (htc : tcnt = nI tc) (htc6 : tc ≤ 6) : RdI l yX4_agreeWith cX4_agreeWith 4 .boolean 1 22 D (tyL cI cZ) (RW cI cZ q tcnt abouts stoods) [.ref (q 4), .int a1, .int a2] (f_X4_agreeWith tc abouts stoods a1 a2) := by
  refine RdI.of (by decide) (Nat.le_of_ble_eq_true rfl) ?_
  intro p e s m args below meth c Q hx hb hml hown hts hP hK fin ls hl
  have hown : s.vm.findClass RX4 = some m.cls := hown
  have hF : CallFix p m c cX4_agreeWith 4 s args tb RX4 := ⟨hx, hb, hml, hown, hts⟩
  have hl : lv_has ls 4 [(0, .ref (q 4)), (1, .int a1), (2, .int a2)] := hl
  generalize hR : (f_X4_agreeWith tc abouts stoods a1 a2) = R at fin
  unfold f_X4_agreeWith at hR
  refine lv_iconst (v := (0 : Int32)) hx hb dX4_agreeWith_0 (by decide) ?_
  refine lv_istore_n (lv' := [(3, .int (0 : Int32)), (0, .ref (q 4)), (1, .int a1), (2, .int a2)]) hx hb dX4_agreeWith_1 rfl hl (by decide) rfl (fun ls hl => ?_)
  have key_2 : ∀ (d_2 i_2 : Nat)  (ls : Array Slot), i_2 + d_2 = tc → f_X4_agreeWith_l2 abouts stoods a1 a2 d_2 i_2  = R → lv_has ls 4 [(3, .int (nI i_2)), (0, .ref (q 4)), (1, .int a1), (2, .int a2)] → W p l e (rmO 1 22) s m args below meth c s.heap [] 0 0 Q (F0 m 2 ls []) := by
    intro d_2
    induction d_2 with
    | zero =>
      intro i_2 ls hi_2 hR hl
      rw [f_X4_agreeWith_l2_z] at hR
      refine lv_iload_n hx hb dX4_agreeWith_2 rfl (lv_at hl 0 rfl) ?_
      refine lv_aload_n hx hb dX4_agreeWith_3 rfl (lv_at hl 1 rfl) ?_
      refine va_get (D := D) (ci := 3) (v := .int tcnt) (C := RX4) (T := TX4) (N := 3) hx hb hts tbX4 hown hK hP 0 RW_0 rfl 2 (by decide) (hts _ tm_1_91) (fun _ h9 => h9) rfl dX4_agreeWith_4 ?_
      refine lv_icmp_ge (tgt := 44) hx hb dX4_agreeWith_7 (by decide) (fun c_7 => ?_) (fun c_7 => absurd (by rw [htc]; exact nI_le  (by omega) (by omega)) c_7)
      refine lv_iconst (v := (1 : Int32)) hx hb dX4_agreeWith_44 (by decide) ?_
      subst hR
      exact fin _ _ dX4_agreeWith_45 (nar_b (Or.inr rfl))
    | succ d_2 ih_2 =>
      intro i_2 ls hi_2 hR hl
      rw [f_X4_agreeWith_l2_s] at hR
      refine lv_iload_n hx hb dX4_agreeWith_2 rfl (lv_at hl 0 rfl) ?_
      refine lv_aload_n hx hb dX4_agreeWith_3 rfl (lv_at hl 1 rfl) ?_
      refine va_get (D := D) (ci := 3) (v := .int tcnt) (C := RX4) (T := TX4) (N := 3) hx hb hts tbX4 hown hK hP 0 RW_0 rfl 2 (by decide) (hts _ tm_1_91) (fun _ h9 => h9) rfl dX4_agreeWith_4 ?_
      refine lv_icmp_ge (tgt := 44) hx hb dX4_agreeWith_7 (by decide) (fun c_7 => absurd c_7 (by rw [htc]; exact nI_ge  (by omega) (by omega))) (fun c_7 => ?_)
      refine lv_iload_n hx hb dX4_agreeWith_10 rfl (lv_at hl 0 rfl) ?_
      refine lv_bipush (v := (6 : Int32)) hx hb dX4_agreeWith_11 (by decide) ?_
      refine lv_icmp_ge (tgt := 44) hx hb dX4_agreeWith_13 (by decide) (fun c_13 => absurd c_13 (nI_ge (b := 6) (by omega) (by omega))) (fun c_13 => ?_)
      refine lv_iload_n hx hb dX4_agreeWith_16 rfl (lv_at hl 2 rfl) ?_
      refine lv_iload_n hx hb dX4_agreeWith_17 rfl (lv_at hl 3 rfl) ?_
      refine lv_aload_n hx hb dX4_agreeWith_18 rfl (lv_at hl 1 rfl) ?_
      refine va_get (D := D) (ci := 3) (v := .ref (q 10)) (C := RX4) (T := TX4) (N := 3) hx hb hts tbX4 hown hK hP 0 RW_0 rfl 0 (by decide) (hts _ tm_1_89) (fun _ h9 => h9) rfl dX4_agreeWith_19 ?_
      refine lv_iload_n hx hb dX4_agreeWith_22 rfl (lv_at hl 0 rfl) ?_
      refine va_iald hx hb hK hP 1 0 RW_1 rfl (vp_in_nI (show i_2 < 6 by omega) (by omega)) dX4_agreeWith_23 ?_
      refine lv_rw (z := (abouts i_2)) (congrArg abouts (nI_clamp (show i_2 < 2 ^ 31 by omega))) ?_
      refine sRdI (As := [.int a1, .int a2, .int (abouts i_2)]) (rest := []) hF (c_X4_wouldStand l D cI cZ q a1 a2 (abouts i_2)) (gdS tm_2_177 tm_2_178 tm_1_5 tm_2_179) de_X4_wouldStand ⟨Nat.le_of_ble_eq_true rfl, Nat.le_of_ble_eq_true rfl⟩ va_P_nil hK hl.1 rfl (Nat.le_of_ble_eq_true rfl) dX4_agreeWith_24 ⟨Nat.zero_le _, Nat.zero_le _⟩ ?_
      refine lv_aload_n hx hb dX4_agreeWith_27 rfl (lv_at hl 1 rfl) ?_
      refine va_get (D := D) (ci := 3) (v := .ref (q 11)) (C := RX4) (T := TX4) (N := 3) hx hb hts tbX4 hown hK hP 0 RW_0 rfl 1 (by decide) (hts _ tm_1_90) (fun _ h9 => h9) rfl dX4_agreeWith_28 ?_
      refine lv_iload_n hx hb dX4_agreeWith_31 rfl (lv_at hl 0 rfl) ?_
      refine va_zald hx hb hK hP 2 1 RW_2 rfl (vp_in_nI (show i_2 < 6 by omega) (by omega)) dX4_agreeWith_32 ?_
      refine lv_rw (z := (stoods i_2)) (congrArg stoods (nI_clamp (show i_2 < 2 ^ 31 by omega))) ?_
      refine lv_icmp_eq (tgt := 38) hx hb dX4_agreeWith_33 (by decide) (fun c_33 => ?_) (fun c_33 => ?_)
      · rw [if_pos c_33] at hR
        refine lv_iinc (v := (nI (i_2 + 1))) (lv' := [(3, .int (nI (i_2 + 1))), (0, .ref (q 4)), (1, .int a1), (2, .int a2)]) hx hb dX4_agreeWith_38 hl (k := 0) rfl (nI_up i_2) (by decide) rfl (fun ls hl => ?_)
        refine lv_goto (tgt := 2) hx hb dX4_agreeWith_41 (by decide) ?_
        exact ih_2 (i_2 + 1)  ls (by omega) hR (lv_sub hl [0, 1, 2, 3] rfl)
      · rw [if_neg c_33] at hR
        refine lv_iconst (v := (0 : Int32)) hx hb dX4_agreeWith_36 (by decide) ?_
        subst hR
        exact fin _ _ dX4_agreeWith_37 (nar_b (Or.inl rfl))
  exact key_2 tc 0  ls (by omega) hR (lv_sub hl [0, 1, 2, 3] rfl)
def f_X4_add (tcnt : Int32) (abouts : Nat → Int32) (stoods : Nat → Int32) (a1 : Int32) (a2 : Int32) : (Int32) × (Int32) × (Nat → Int32) × (Nat → Int32) := (if tcnt < (0 : Int32) then ((0 : Int32), tcnt, abouts, stoods) else (if tcnt < (6 : Int32) then ((1 : Int32), (tcnt + (1 : Int32)), (upd abouts tcnt.toNatClampNeg a1), (upd stoods tcnt.toNatClampNeg a2)) else ((0 : Int32), tcnt, abouts, stoods)))
set_option maxHeartbeats 4000000 in
set_option maxRecDepth 100000 in
theorem c_X4_add (l : Launch) (D : va_G) (cI cZ : ClassId) (q : Nat → Nat) (now rains length poles parts plain key stair air acnt tcnt : Int32) (letters cells kinds frames rainsB abouts stoods kept keptF keptR : Nat → Int32) (seed : Int64) (a1 : Int32) (a2 : Int32) (ha2 : a2 = 0 ∨ a2 = 1) : WrI l yX4_add cX4_add 3 .boolean 0 0 D (tyL cI cZ) (XW cI cZ q now rains length poles parts plain key stair air acnt tcnt letters cells kinds frames rainsB abouts stoods kept keptF keptR seed) [.ref (q 4), .int a1, .int a2] (f_X4_add tcnt abouts stoods a1 a2).1 (XW cI cZ q now rains length poles parts plain key stair air acnt (f_X4_add tcnt abouts stoods a1 a2).2.1 letters cells kinds frames rainsB (f_X4_add tcnt abouts stoods a1 a2).2.2.1 (f_X4_add tcnt abouts stoods a1 a2).2.2.2 kept keptF keptR seed) := by
  refine WrI.of (by decide) (Nat.le_of_ble_eq_true rfl) ?_
  intro p e s m args below meth c Q A hx hb hml hown hts hP hK hD hS fin ls hl
  have hown : s.vm.findClass RX4 = some m.cls := hown
  have hF : CallFix p m c cX4_add 3 s args tb RX4 := ⟨hx, hb, hml, hown, hts⟩
  have hl : lv_has ls 3 [(0, .ref (q 4)), (1, .int a1), (2, .int a2)] := hl
  generalize hR : (f_X4_add tcnt abouts stoods a1 a2) = R at fin
  unfold f_X4_add at hR
  refine lv_aload_n hx hb dX4_add_0 rfl (lv_at hl 0 rfl) ?_
  refine va_get (D := D) (ci := 3) (v := .int tcnt) (C := RX4) (T := TX4) (N := 3) hx hb hts tbX4 hown hK hP 4 XW_4 rfl 2 (by decide) (hts _ tm_1_91) (fun _ h9 => h9) rfl dX4_add_1 ?_
  refine lv_if_lt (tgt := 16) hx hb dX4_add_4 (by decide) (fun c_4 => ?_) (fun c_4 => ?_)
  · rw [if_pos c_4] at hR
    refine lv_iconst (v := (0 : Int32)) hx hb dX4_add_16 (by decide) ?_
    subst hR
    exact fin _ _ _ _ dX4_add_17 (nar_b (Or.inl rfl)) hP hS
  · rw [if_neg c_4] at hR
    refine lv_aload_n hx hb dX4_add_7 rfl (lv_at hl 0 rfl) ?_
    refine va_get (D := D) (ci := 3) (v := .int tcnt) (C := RX4) (T := TX4) (N := 3) hx hb hts tbX4 hown hK hP 4 XW_4 rfl 2 (by decide) (hts _ tm_1_91) (fun _ h9 => h9) rfl dX4_add_8 ?_
    refine lv_bipush (v := (6 : Int32)) hx hb dX4_add_11 (by decide) ?_
    refine lv_icmp_lt (tgt := 18) hx hb dX4_add_13 (by decide) (fun c_13 => ?_) (fun c_13 => ?_)
    · rw [if_pos c_13] at hR
      refine lv_aload_n hx hb dX4_add_18 rfl (lv_at hl 0 rfl) ?_
      refine va_get (D := D) (ci := 3) (v := .ref (q 10)) (C := RX4) (T := TX4) (N := 3) hx hb hts tbX4 hown hK hP 4 XW_4 rfl 0 (by decide) (hts _ tm_1_89) (fun _ h9 => h9) rfl dX4_add_19 ?_
      refine lv_aload_n hx hb dX4_add_22 rfl (lv_at hl 0 rfl) ?_
      refine va_get (D := D) (ci := 3) (v := .int tcnt) (C := RX4) (T := TX4) (N := 3) hx hb hts tbX4 hown hK hP 4 XW_4 rfl 2 (by decide) (hts _ tm_1_91) (fun _ h9 => h9) rfl dX4_add_23 ?_
      refine lv_iload_n hx hb dX4_add_26 rfl (lv_at hl 1 rfl) ?_
      refine va_iast hx hb hK hP hD hS 10 0 XW_10 rfl (vi_a (b := 6) (by decide) c_4 c_13) dX4_add_27 (fun H locs hP hD hS => ?_)
      have hP : va_P D vwCl (XW cI cZ q now rains length poles parts plain key stair air acnt tcnt letters cells kinds frames rainsB (upd abouts tcnt.toNatClampNeg a1) stoods kept keptF keptR seed) H := hP
      have hD : va_D A (XW cI cZ q now rains length poles parts plain key stair air acnt tcnt letters cells kinds frames rainsB (upd abouts tcnt.toNatClampNeg a1) stoods kept keptF keptR seed) := hD.same rfl
      refine lv_aload_n hx hb dX4_add_28 rfl (lv_at hl 0 rfl) ?_
      refine va_get (D := D) (ci := 3) (v := .ref (q 11)) (C := RX4) (T := TX4) (N := 3) hx hb hts tbX4 hown hK hP 4 XW_4 rfl 1 (by decide) (hts _ tm_1_90) (fun _ h9 => h9) rfl dX4_add_29 ?_
      refine lv_aload_n hx hb dX4_add_32 rfl (lv_at hl 0 rfl) ?_
      refine va_get (D := D) (ci := 3) (v := .int tcnt) (C := RX4) (T := TX4) (N := 3) hx hb hts tbX4 hown hK hP 4 XW_4 rfl 2 (by decide) (hts _ tm_1_91) (fun _ h9 => h9) rfl dX4_add_33 ?_
      refine lv_iload_n hx hb dX4_add_36 rfl (lv_at hl 2 rfl) ?_
      refine va_zast hx hb hK hP hD hS 11 1 XW_11 rfl (vi_a (b := 6) (by decide) c_4 c_13) dX4_add_37 (fun H locs hP hD hS => ?_)
      have hP : va_P D vwCl (XW cI cZ q now rains length poles parts plain key stair air acnt tcnt letters cells kinds frames rainsB (upd abouts tcnt.toNatClampNeg a1) (upd stoods tcnt.toNatClampNeg (vp_nar .boolean a2)) kept keptF keptR seed) H := hP
      rw [show vp_nar .boolean a2 = a2 from (nar_z ha2)] at hP
      have hD : va_D A (XW cI cZ q now rains length poles parts plain key stair air acnt tcnt letters cells kinds frames rainsB (upd abouts tcnt.toNatClampNeg a1) (upd stoods tcnt.toNatClampNeg a2) kept keptF keptR seed) := hD.same rfl
      refine lv_aload_n hx hb dX4_add_38 rfl (lv_at hl 0 rfl) ?_
      refine lv_dup hx hb dX4_add_39 rfl ?_
      refine va_get (D := D) (ci := 3) (v := .int tcnt) (C := RX4) (T := TX4) (N := 3) hx hb hts tbX4 hown hK hP 4 XW_4 rfl 2 (by decide) (hts _ tm_1_91) (fun _ h9 => h9) rfl dX4_add_40 ?_
      refine lv_iconst (v := (1 : Int32)) hx hb dX4_add_43 (by decide) ?_
      refine lv_iadd hx hb dX4_add_44 ?_
      refine va_put (D := D) (ci := 3) (v := .int (tcnt + (1 : Int32))) (ty := .int) (C := RX4) (T := TX4) (N := 3) hx hb hts tbX4 tyX4 tyX4_ok nmX4 hown hK hP hD hS 4 XW_4 rfl 2 (by decide) (hts _ tm_1_91) (fun _ h9 => h9) rfl (by decide +kernel) rfl rfl (Nat.le_of_ble_eq_true rfl) dX4_add_45 (fun H locs hP hD hS => ?_)
      have hP : va_P D vwCl (XW cI cZ q now rains length poles parts plain key stair air acnt (tcnt + (1 : Int32)) letters cells kinds frames rainsB (upd abouts tcnt.toNatClampNeg a1) (upd stoods tcnt.toNatClampNeg a2) kept keptF keptR seed) H := hP
      have hD : va_D A (XW cI cZ q now rains length poles parts plain key stair air acnt (tcnt + (1 : Int32)) letters cells kinds frames rainsB (upd abouts tcnt.toNatClampNeg a1) (upd stoods tcnt.toNatClampNeg a2) kept keptF keptR seed) := hD.same rfl
      refine lv_iconst (v := (1 : Int32)) hx hb dX4_add_48 (by decide) ?_
      subst hR
      exact fin _ _ _ _ dX4_add_49 (nar_b (Or.inr rfl)) hP hS
    · rw [if_neg c_13] at hR
      refine lv_iconst (v := (0 : Int32)) hx hb dX4_add_16 (by decide) ?_
      subst hR
      exact fin _ _ _ _ dX4_add_17 (nar_b (Or.inl rfl)) hP hS
end
section
theorem de_X2_learn : deOK yX2_learn 1 := by decide +kernel
def f_X2_learn_l27 (length : Int32) (letters : Nat → Int32) : Nat → Nat → (Nat → Int32) → (Nat → Int32) → (Nat → Int32) × (Nat → Int32)
  | 0, i_27, ces, kis => (ces, kis)
  | d_27 + 1, i_27, ces, kis => (if (if (7 : Int32) < (f_X3_parts length) then (7 : Int32) else (f_X3_parts length)) ≤ (nI i_27) then (f_X2_learn_l27 length letters d_27 (i_27 + 1) (upd ces i_27 (-9 : Int32)) (upd kis i_27 (0 : Int32))) else (f_X2_learn_l27 length letters d_27 (i_27 + 1) (upd ces i_27 (f_X3_cellOfPart length letters (nI i_27))) (upd kis i_27 (f_X3_kindOfPart length letters (nI i_27)))))
theorem f_X2_learn_l27_z {length : Int32} {letters : Nat → Int32} {i_27 : Nat} {ces : Nat → Int32} {kis : Nat → Int32} : f_X2_learn_l27 length letters 0 i_27 ces kis = (ces, kis) := rfl
theorem f_X2_learn_l27_s {length : Int32} {letters : Nat → Int32} {d_27 : Nat} {i_27 : Nat} {ces : Nat → Int32} {kis : Nat → Int32} : f_X2_learn_l27 length letters (d_27 + 1) i_27 ces kis = (if (if (7 : Int32) < (f_X3_parts length) then (7 : Int32) else (f_X3_parts length)) ≤ (nI i_27) then (f_X2_learn_l27 length letters d_27 (i_27 + 1) (upd ces i_27 (-9 : Int32)) (upd kis i_27 (0 : Int32))) else (f_X2_learn_l27 length letters d_27 (i_27 + 1) (upd ces i_27 (f_X3_cellOfPart length letters (nI i_27))) (upd kis i_27 (f_X3_kindOfPart length letters (nI i_27))))) := rfl
def f_X2_learn (length : Int32) (letters : Nat → Int32) (cells : Nat → Int32) (kinds : Nat → Int32) : (Int32) × (Int32) × (Int32) × (Int32) × (Int32) × (Int32) × (Nat → Int32) × (Nat → Int32) := (((f_X3_letterAt length letters (1 : Int32)) - (48 : Int32)), (if (7 : Int32) < (f_X3_parts length) then (7 : Int32) else (f_X3_parts length)), (f_X2_cellsOfKind (f_X2_learn_l27 length letters 7 0 cells kinds).1 (f_X2_learn_l27 length letters 7 0 cells kinds).2 (0 : Int32)), (f_X2_cellsOfKind (f_X2_learn_l27 length letters 7 0 cells kinds).1 (f_X2_learn_l27 length letters 7 0 cells kinds).2 (1 : Int32)), (f_X2_cellsOfKind (f_X2_learn_l27 length letters 7 0 cells kinds).1 (f_X2_learn_l27 length letters 7 0 cells kinds).2 (2 : Int32)), (f_X2_cellsOfKind (f_X2_learn_l27 length letters 7 0 cells kinds).1 (f_X2_learn_l27 length letters 7 0 cells kinds).2 (3 : Int32)), (f_X2_learn_l27 length letters 7 0 cells kinds).1, (f_X2_learn_l27 length letters 7 0 cells kinds).2)
set_option maxHeartbeats 4000000 in
set_option maxRecDepth 100000 in
theorem c_X2_learn (l : Launch) (D : va_G) (cI cZ : ClassId) (q : Nat → Nat) (now rains length poles parts plain key stair air acnt tcnt : Int32) (letters cells kinds frames rainsB abouts stoods kept keptF keptR : Nat → Int32) (seed : Int64) : WrV l yX2_learn cX2_learn 4 2 42 D (tyL cI cZ) (XW cI cZ q now rains length poles parts plain key stair air acnt tcnt letters cells kinds frames rainsB abouts stoods kept keptF keptR seed) [.ref (q 2), .ref (q 1)] (XW cI cZ q now rains length (f_X2_learn length letters cells kinds).1 (f_X2_learn length letters cells kinds).2.1 (f_X2_learn length letters cells kinds).2.2.1 (f_X2_learn length letters cells kinds).2.2.2.1 (f_X2_learn length letters cells kinds).2.2.2.2.1 (f_X2_learn length letters cells kinds).2.2.2.2.2.1 acnt tcnt letters (f_X2_learn length letters cells kinds).2.2.2.2.2.2.1 (f_X2_learn length letters cells kinds).2.2.2.2.2.2.2 frames rainsB abouts stoods kept keptF keptR seed) := by
  refine WrV.of (by decide) (Nat.le_of_ble_eq_true rfl) ?_
  intro p e s m args below meth c Q A hx hb hml hown hts hP hK hD hS fin ls hl
  have hown : s.vm.findClass RX2 = some m.cls := hown
  have hF : CallFix p m c cX2_learn 4 s args tb RX2 := ⟨hx, hb, hml, hown, hts⟩
  have hl : lv_has ls 4 [(0, .ref (q 2)), (1, .ref (q 1))] := hl
  generalize hR : (f_X2_learn length letters cells kinds) = R at fin
  unfold f_X2_learn at hR
  refine lv_aload_n hx hb dX2_learn_0 rfl (lv_at hl 0 rfl) ?_
  refine lv_aload_n hx hb dX2_learn_1 rfl (lv_at hl 1 rfl) ?_
  refine lv_iconst (v := (1 : Int32)) hx hb dX2_learn_2 (by decide) ?_
  refine vRdI (b := (q 1)) (As := [.int (1 : Int32)]) (rest := [.ref (q 2)]) hF (c_X3_letterAt l D cI cZ q length letters (1 : Int32)) (gdV tm_1_167 tm_1_153 tm_1_154 tm_1_2 tm_1_155) de_X3_letterAt ⟨Nat.le_of_ble_eq_true rfl, Nat.le_of_ble_eq_true rfl⟩ (XW_T hP) hK (va_recv hK hP (ci := 2) (q0 := 1) rfl XW_1) hl.1 rfl (Nat.le_of_ble_eq_true rfl) dX2_learn_3 ⟨Nat.zero_le _, Nat.zero_le _⟩ ?_
  refine lv_bipush (v := (48 : Int32)) hx hb dX2_learn_6 (by decide) ?_
  refine lv_isub hx hb dX2_learn_8 ?_
  refine va_put (D := D) (ci := 1) (v := .int ((f_X3_letterAt length letters (1 : Int32)) - (48 : Int32))) (ty := .int) (C := RX2) (T := TX2) (N := 8) hx hb hts tbX2 tyX2 tyX2_ok nmX2 hown hK hP hD hS 2 XW_2 rfl 2 (by decide) (hts _ tm_1_41) (fun _ h9 => h9) rfl (by decide +kernel) rfl rfl (Nat.le_of_ble_eq_true rfl) dX2_learn_9 (fun H locs hP hD hS => ?_)
  have hP : va_P D vwCl (XW cI cZ q now rains length ((f_X3_letterAt length letters (1 : Int32)) - (48 : Int32)) parts plain key stair air acnt tcnt letters cells kinds frames rainsB abouts stoods kept keptF keptR seed) H := hP
  have hD : va_D A (XW cI cZ q now rains length ((f_X3_letterAt length letters (1 : Int32)) - (48 : Int32)) parts plain key stair air acnt tcnt letters cells kinds frames rainsB abouts stoods kept keptF keptR seed) := hD.same rfl
  refine lv_aload_n hx hb dX2_learn_12 rfl (lv_at hl 0 rfl) ?_
  refine lv_aload_n hx hb dX2_learn_13 rfl (lv_at hl 1 rfl) ?_
  refine vRdI (b := (q 1)) (As := []) (rest := [.ref (q 2)]) hF (c_X3_parts l D cI cZ q length letters) (gdV tm_1_168 tm_1_169 tm_1_170 tm_1_2 tm_1_171) de_X3_parts ⟨Nat.le_of_ble_eq_true rfl, Nat.le_of_ble_eq_true rfl⟩ (XW_T hP) hK (va_recv hK hP (ci := 2) (q0 := 1) rfl XW_1) hl.1 rfl (Nat.le_of_ble_eq_true rfl) dX2_learn_14 ⟨Nat.zero_le _, Nat.zero_le _⟩ ?_
  refine lv_bipush (v := (7 : Int32)) hx hb dX2_learn_17 (by decide) ?_
  refine va_mmin hx hb (by rw [hml]; exact hl.1.symm) hown (hts _ tm_1_172) (hts _ tm_1_173) (hts _ tm_1_7) (hts _ tm_1_174) (Nat.le_of_ble_eq_true rfl) (Nat.le_of_ble_eq_true rfl) (Nat.zero_le _) (Nat.zero_le _) dX2_learn_19 ?_
  refine va_put (D := D) (ci := 1) (v := .int (if (7 : Int32) < (f_X3_parts length) then (7 : Int32) else (f_X3_parts length))) (ty := .int) (C := RX2) (T := TX2) (N := 8) hx hb hts tbX2 tyX2 tyX2_ok nmX2 hown hK hP hD hS 2 XW_2 rfl 3 (by decide) (hts _ tm_1_43) (fun _ h9 => h9) rfl (by decide +kernel) rfl rfl (Nat.le_of_ble_eq_true rfl) dX2_learn_22 (fun H locs hP hD hS => ?_)
  have hP : va_P D vwCl (XW cI cZ q now rains length ((f_X3_letterAt length letters (1 : Int32)) - (48 : Int32)) (if (7 : Int32) < (f_X3_parts length) then (7 : Int32) else (f_X3_parts length)) plain key stair air acnt tcnt letters cells kinds frames rainsB abouts stoods kept keptF keptR seed) H := hP
  have hD : va_D A (XW cI cZ q now rains length ((f_X3_letterAt length letters (1 : Int32)) - (48 : Int32)) (if (7 : Int32) < (f_X3_parts length) then (7 : Int32) else (f_X3_parts length)) plain key stair air acnt tcnt letters cells kinds frames rainsB abouts stoods kept keptF keptR seed) := hD.same rfl
  refine lv_iconst (v := (0 : Int32)) hx hb dX2_learn_25 (by decide) ?_
  refine lv_istore_n (lv' := [(2, .int (0 : Int32)), (0, .ref (q 2)), (1, .ref (q 1))]) hx hb dX2_learn_26 rfl hl (by decide) rfl (fun ls hl => ?_)
  obtain ⟨T_27, hT_27⟩ : ∃ z, f_X2_learn_l27 length letters 7 0 cells kinds = z := ⟨_, rfl⟩
  rw [hT_27] at hR
  have key_27 : ∀ (d_27 i_27 : Nat) (ces : Nat → Int32) (kis : Nat → Int32) (ls : Array Slot) (H : Heap) (locs : List Loc), i_27 + d_27 = 7 → f_X2_learn_l27 length letters d_27 i_27 ces kis = T_27 → lv_has ls 4 [(2, .int (nI i_27)), (0, .ref (q 2)), (1, .ref (q 1))] → va_P D vwCl (XW cI cZ q now rains length ((f_X3_letterAt length letters (1 : Int32)) - (48 : Int32)) (if (7 : Int32) < (f_X3_parts length) then (7 : Int32) else (f_X3_parts length)) plain key stair air acnt tcnt letters ces kis frames rainsB abouts stoods kept keptF keptR seed) H → va_S A s.heap H locs → W p l e (rmO 2 42) s m args below meth c H locs 0 0 Q (F0 m 27 ls []) := by
    intro d_27
    induction d_27 with
    | zero =>
      intro i_27 ces kis ls H locs hi_27 hT_27 hl hP hS
      have hD : va_D A (XW cI cZ q now rains length ((f_X3_letterAt length letters (1 : Int32)) - (48 : Int32)) (if (7 : Int32) < (f_X3_parts length) then (7 : Int32) else (f_X3_parts length)) plain key stair air acnt tcnt letters ces kis frames rainsB abouts stoods kept keptF keptR seed) := hD.same rfl
      rw [f_X2_learn_l27_z] at hT_27
      refine lv_iload_n hx hb dX2_learn_27 rfl (lv_at hl 0 rfl) ?_
      refine lv_bipush (v := (7 : Int32)) hx hb dX2_learn_28 (by decide) ?_
      refine lv_icmp_ge (tgt := 92) hx hb dX2_learn_30 (by decide) (fun c_30 => ?_) (fun c_30 => absurd (nI_le (a := 7) (by omega) (by omega)) c_30)
      subst hT_27
      try dsimp only at hR
      refine lv_aload_n hx hb dX2_learn_92 rfl (lv_at hl 1 rfl) ?_
      refine lv_aload_n hx hb dX2_learn_93 rfl (lv_at hl 1 rfl) ?_
      refine lv_iconst (v := (0 : Int32)) hx hb dX2_learn_94 (by decide) ?_
      refine vRdI (b := (q 2)) (As := [.int (0 : Int32)]) (rest := [.ref (q 2)]) hF (c_X2_cellsOfKind l D cI cZ q ((f_X3_letterAt length letters (1 : Int32)) - (48 : Int32)) (if (7 : Int32) < (f_X3_parts length) then (7 : Int32) else (f_X3_parts length)) plain key stair air ces kis (0 : Int32)) (gdV tm_1_183 tm_1_184 tm_1_185 tm_1_3 tm_1_186) de_X2_cellsOfKind ⟨Nat.le_of_ble_eq_true rfl, Nat.le_of_ble_eq_true rfl⟩ (XW_P hP) hK (va_recv hK hP (ci := 1) (q0 := 2) rfl XW_2) hl.1 rfl (Nat.le_of_ble_eq_true rfl) dX2_learn_95 ⟨Nat.zero_le _, Nat.zero_le _⟩ ?_
      refine va_put (D := D) (ci := 1) (v := .int (f_X2_cellsOfKind ces kis (0 : Int32))) (ty := .int) (C := RX2) (T := TX2) (N := 8) hx hb hts tbX2 tyX2 tyX2_ok nmX2 hown hK hP hD hS 2 XW_2 rfl 4 (by decide) (hts _ tm_1_45) (fun _ h9 => h9) rfl (by decide +kernel) rfl rfl (Nat.le_of_ble_eq_true rfl) dX2_learn_98 (fun H locs hP hD hS => ?_)
      have hP : va_P D vwCl (XW cI cZ q now rains length ((f_X3_letterAt length letters (1 : Int32)) - (48 : Int32)) (if (7 : Int32) < (f_X3_parts length) then (7 : Int32) else (f_X3_parts length)) (f_X2_cellsOfKind ces kis (0 : Int32)) key stair air acnt tcnt letters ces kis frames rainsB abouts stoods kept keptF keptR seed) H := hP
      have hD : va_D A (XW cI cZ q now rains length ((f_X3_letterAt length letters (1 : Int32)) - (48 : Int32)) (if (7 : Int32) < (f_X3_parts length) then (7 : Int32) else (f_X3_parts length)) (f_X2_cellsOfKind ces kis (0 : Int32)) key stair air acnt tcnt letters ces kis frames rainsB abouts stoods kept keptF keptR seed) := hD.same rfl
      refine lv_aload_n hx hb dX2_learn_101 rfl (lv_at hl 1 rfl) ?_
      refine lv_aload_n hx hb dX2_learn_102 rfl (lv_at hl 1 rfl) ?_
      refine lv_iconst (v := (1 : Int32)) hx hb dX2_learn_103 (by decide) ?_
      refine vRdI (b := (q 2)) (As := [.int (1 : Int32)]) (rest := [.ref (q 2)]) hF (c_X2_cellsOfKind l D cI cZ q ((f_X3_letterAt length letters (1 : Int32)) - (48 : Int32)) (if (7 : Int32) < (f_X3_parts length) then (7 : Int32) else (f_X3_parts length)) (f_X2_cellsOfKind ces kis (0 : Int32)) key stair air ces kis (1 : Int32)) (gdV tm_1_183 tm_1_184 tm_1_185 tm_1_3 tm_1_186) de_X2_cellsOfKind ⟨Nat.le_of_ble_eq_true rfl, Nat.le_of_ble_eq_true rfl⟩ (XW_P hP) hK (va_recv hK hP (ci := 1) (q0 := 2) rfl XW_2) hl.1 rfl (Nat.le_of_ble_eq_true rfl) dX2_learn_104 ⟨Nat.zero_le _, Nat.zero_le _⟩ ?_
      refine va_put (D := D) (ci := 1) (v := .int (f_X2_cellsOfKind ces kis (1 : Int32))) (ty := .int) (C := RX2) (T := TX2) (N := 8) hx hb hts tbX2 tyX2 tyX2_ok nmX2 hown hK hP hD hS 2 XW_2 rfl 5 (by decide) (hts _ tm_1_46) (fun _ h9 => h9) rfl (by decide +kernel) rfl rfl (Nat.le_of_ble_eq_true rfl) dX2_learn_107 (fun H locs hP hD hS => ?_)
      have hP : va_P D vwCl (XW cI cZ q now rains length ((f_X3_letterAt length letters (1 : Int32)) - (48 : Int32)) (if (7 : Int32) < (f_X3_parts length) then (7 : Int32) else (f_X3_parts length)) (f_X2_cellsOfKind ces kis (0 : Int32)) (f_X2_cellsOfKind ces kis (1 : Int32)) stair air acnt tcnt letters ces kis frames rainsB abouts stoods kept keptF keptR seed) H := hP
      have hD : va_D A (XW cI cZ q now rains length ((f_X3_letterAt length letters (1 : Int32)) - (48 : Int32)) (if (7 : Int32) < (f_X3_parts length) then (7 : Int32) else (f_X3_parts length)) (f_X2_cellsOfKind ces kis (0 : Int32)) (f_X2_cellsOfKind ces kis (1 : Int32)) stair air acnt tcnt letters ces kis frames rainsB abouts stoods kept keptF keptR seed) := hD.same rfl
      refine lv_aload_n hx hb dX2_learn_110 rfl (lv_at hl 1 rfl) ?_
      refine lv_aload_n hx hb dX2_learn_111 rfl (lv_at hl 1 rfl) ?_
      refine lv_iconst (v := (2 : Int32)) hx hb dX2_learn_112 (by decide) ?_
      refine vRdI (b := (q 2)) (As := [.int (2 : Int32)]) (rest := [.ref (q 2)]) hF (c_X2_cellsOfKind l D cI cZ q ((f_X3_letterAt length letters (1 : Int32)) - (48 : Int32)) (if (7 : Int32) < (f_X3_parts length) then (7 : Int32) else (f_X3_parts length)) (f_X2_cellsOfKind ces kis (0 : Int32)) (f_X2_cellsOfKind ces kis (1 : Int32)) stair air ces kis (2 : Int32)) (gdV tm_1_183 tm_1_184 tm_1_185 tm_1_3 tm_1_186) de_X2_cellsOfKind ⟨Nat.le_of_ble_eq_true rfl, Nat.le_of_ble_eq_true rfl⟩ (XW_P hP) hK (va_recv hK hP (ci := 1) (q0 := 2) rfl XW_2) hl.1 rfl (Nat.le_of_ble_eq_true rfl) dX2_learn_113 ⟨Nat.zero_le _, Nat.zero_le _⟩ ?_
      refine va_put (D := D) (ci := 1) (v := .int (f_X2_cellsOfKind ces kis (2 : Int32))) (ty := .int) (C := RX2) (T := TX2) (N := 8) hx hb hts tbX2 tyX2 tyX2_ok nmX2 hown hK hP hD hS 2 XW_2 rfl 6 (by decide) (hts _ tm_1_47) (fun _ h9 => h9) rfl (by decide +kernel) rfl rfl (Nat.le_of_ble_eq_true rfl) dX2_learn_116 (fun H locs hP hD hS => ?_)
      have hP : va_P D vwCl (XW cI cZ q now rains length ((f_X3_letterAt length letters (1 : Int32)) - (48 : Int32)) (if (7 : Int32) < (f_X3_parts length) then (7 : Int32) else (f_X3_parts length)) (f_X2_cellsOfKind ces kis (0 : Int32)) (f_X2_cellsOfKind ces kis (1 : Int32)) (f_X2_cellsOfKind ces kis (2 : Int32)) air acnt tcnt letters ces kis frames rainsB abouts stoods kept keptF keptR seed) H := hP
      have hD : va_D A (XW cI cZ q now rains length ((f_X3_letterAt length letters (1 : Int32)) - (48 : Int32)) (if (7 : Int32) < (f_X3_parts length) then (7 : Int32) else (f_X3_parts length)) (f_X2_cellsOfKind ces kis (0 : Int32)) (f_X2_cellsOfKind ces kis (1 : Int32)) (f_X2_cellsOfKind ces kis (2 : Int32)) air acnt tcnt letters ces kis frames rainsB abouts stoods kept keptF keptR seed) := hD.same rfl
      refine lv_aload_n hx hb dX2_learn_119 rfl (lv_at hl 1 rfl) ?_
      refine lv_aload_n hx hb dX2_learn_120 rfl (lv_at hl 1 rfl) ?_
      refine lv_iconst (v := (3 : Int32)) hx hb dX2_learn_121 (by decide) ?_
      refine vRdI (b := (q 2)) (As := [.int (3 : Int32)]) (rest := [.ref (q 2)]) hF (c_X2_cellsOfKind l D cI cZ q ((f_X3_letterAt length letters (1 : Int32)) - (48 : Int32)) (if (7 : Int32) < (f_X3_parts length) then (7 : Int32) else (f_X3_parts length)) (f_X2_cellsOfKind ces kis (0 : Int32)) (f_X2_cellsOfKind ces kis (1 : Int32)) (f_X2_cellsOfKind ces kis (2 : Int32)) air ces kis (3 : Int32)) (gdV tm_1_183 tm_1_184 tm_1_185 tm_1_3 tm_1_186) de_X2_cellsOfKind ⟨Nat.le_of_ble_eq_true rfl, Nat.le_of_ble_eq_true rfl⟩ (XW_P hP) hK (va_recv hK hP (ci := 1) (q0 := 2) rfl XW_2) hl.1 rfl (Nat.le_of_ble_eq_true rfl) dX2_learn_122 ⟨Nat.zero_le _, Nat.zero_le _⟩ ?_
      refine va_put (D := D) (ci := 1) (v := .int (f_X2_cellsOfKind ces kis (3 : Int32))) (ty := .int) (C := RX2) (T := TX2) (N := 8) hx hb hts tbX2 tyX2 tyX2_ok nmX2 hown hK hP hD hS 2 XW_2 rfl 7 (by decide) (hts _ tm_1_48) (fun _ h9 => h9) rfl (by decide +kernel) rfl rfl (Nat.le_of_ble_eq_true rfl) dX2_learn_125 (fun H locs hP hD hS => ?_)
      have hP : va_P D vwCl (XW cI cZ q now rains length ((f_X3_letterAt length letters (1 : Int32)) - (48 : Int32)) (if (7 : Int32) < (f_X3_parts length) then (7 : Int32) else (f_X3_parts length)) (f_X2_cellsOfKind ces kis (0 : Int32)) (f_X2_cellsOfKind ces kis (1 : Int32)) (f_X2_cellsOfKind ces kis (2 : Int32)) (f_X2_cellsOfKind ces kis (3 : Int32)) acnt tcnt letters ces kis frames rainsB abouts stoods kept keptF keptR seed) H := hP
      have hD : va_D A (XW cI cZ q now rains length ((f_X3_letterAt length letters (1 : Int32)) - (48 : Int32)) (if (7 : Int32) < (f_X3_parts length) then (7 : Int32) else (f_X3_parts length)) (f_X2_cellsOfKind ces kis (0 : Int32)) (f_X2_cellsOfKind ces kis (1 : Int32)) (f_X2_cellsOfKind ces kis (2 : Int32)) (f_X2_cellsOfKind ces kis (3 : Int32)) acnt tcnt letters ces kis frames rainsB abouts stoods kept keptF keptR seed) := hD.same rfl
      subst hR
      exact fin _ _ _ _ dX2_learn_128 hP hS
    | succ d_27 ih_27 =>
      intro i_27 ces kis ls H locs hi_27 hT_27 hl hP hS
      have hD : va_D A (XW cI cZ q now rains length ((f_X3_letterAt length letters (1 : Int32)) - (48 : Int32)) (if (7 : Int32) < (f_X3_parts length) then (7 : Int32) else (f_X3_parts length)) plain key stair air acnt tcnt letters ces kis frames rainsB abouts stoods kept keptF keptR seed) := hD.same rfl
      rw [f_X2_learn_l27_s] at hT_27
      refine lv_iload_n hx hb dX2_learn_27 rfl (lv_at hl 0 rfl) ?_
      refine lv_bipush (v := (7 : Int32)) hx hb dX2_learn_28 (by decide) ?_
      refine lv_icmp_ge (tgt := 92) hx hb dX2_learn_30 (by decide) (fun c_30 => absurd c_30 (nI_ge (b := 7) (by omega) (by omega))) (fun c_30 => ?_)
      refine lv_iload_n hx hb dX2_learn_33 rfl (lv_at hl 0 rfl) ?_
      refine lv_aload_n hx hb dX2_learn_34 rfl (lv_at hl 1 rfl) ?_
      refine va_get (D := D) (ci := 1) (v := .int (if (7 : Int32) < (f_X3_parts length) then (7 : Int32) else (f_X3_parts length))) (C := RX2) (T := TX2) (N := 8) hx hb hts tbX2 hown hK hP 2 XW_2 rfl 3 (by decide) (hts _ tm_1_43) (fun _ h9 => h9) rfl dX2_learn_35 ?_
      refine lv_icmp_ge (tgt := 45) hx hb dX2_learn_38 (by decide) (fun c_38 => ?_) (fun c_38 => ?_)
      · rw [if_pos c_38] at hT_27
        refine lv_iconst (v := (0 : Int32)) hx hb dX2_learn_45 (by decide) ?_
        refine lv_istore_n (lv' := [(3, .int (0 : Int32)), (2, .int (nI i_27)), (0, .ref (q 2)), (1, .ref (q 1))]) hx hb dX2_learn_46 rfl hl (by decide) rfl (fun ls hl => ?_)
        refine lv_aload_n hx hb dX2_learn_47 rfl (lv_at hl 2 rfl) ?_
        refine va_get (D := D) (ci := 1) (v := .ref (q 6)) (C := RX2) (T := TX2) (N := 8) hx hb hts tbX2 hown hK hP 2 XW_2 rfl 0 (by decide) (hts _ tm_1_39) (fun _ h9 => h9) rfl dX2_learn_48 ?_
        refine lv_iload_n hx hb dX2_learn_51 rfl (lv_at hl 1 rfl) ?_
        refine lv_iload_n hx hb dX2_learn_52 rfl (lv_at hl 0 rfl) ?_
        refine lv_if_eq (tgt := 64) hx hb dX2_learn_53 (by decide) (fun c_53 => ?_) (fun c_53 => absurd (by decide) c_53)
        refine lv_bipush (v := (-9 : Int32)) hx hb dX2_learn_64 (by decide) ?_
        refine va_iast hx hb hK hP hD hS 6 0 XW_6 rfl (vp_in_nI (show i_27 < 7 by omega) (by omega)) dX2_learn_66 (fun H locs hP hD hS => ?_)
        have hP : va_P D vwCl (XW cI cZ q now rains length ((f_X3_letterAt length letters (1 : Int32)) - (48 : Int32)) (if (7 : Int32) < (f_X3_parts length) then (7 : Int32) else (f_X3_parts length)) plain key stair air acnt tcnt letters (upd ces (nI i_27).toNatClampNeg (-9 : Int32)) kis frames rainsB abouts stoods kept keptF keptR seed) H := hP
        rw [(nI_clamp (show i_27 < 2 ^ 31 by omega))] at hP
        have hD : va_D A (XW cI cZ q now rains length ((f_X3_letterAt length letters (1 : Int32)) - (48 : Int32)) (if (7 : Int32) < (f_X3_parts length) then (7 : Int32) else (f_X3_parts length)) plain key stair air acnt tcnt letters (upd ces i_27 (-9 : Int32)) kis frames rainsB abouts stoods kept keptF keptR seed) := hD.same rfl
        refine lv_aload_n hx hb dX2_learn_67 rfl (lv_at hl 2 rfl) ?_
        refine va_get (D := D) (ci := 1) (v := .ref (q 7)) (C := RX2) (T := TX2) (N := 8) hx hb hts tbX2 hown hK hP 2 XW_2 rfl 1 (by decide) (hts _ tm_1_40) (fun _ h9 => h9) rfl dX2_learn_68 ?_
        refine lv_iload_n hx hb dX2_learn_71 rfl (lv_at hl 1 rfl) ?_
        refine lv_iload_n hx hb dX2_learn_72 rfl (lv_at hl 0 rfl) ?_
        refine lv_if_eq (tgt := 84) hx hb dX2_learn_73 (by decide) (fun c_73 => ?_) (fun c_73 => absurd (by decide) c_73)
        refine lv_iconst (v := (0 : Int32)) hx hb dX2_learn_84 (by decide) ?_
        refine va_iast hx hb hK hP hD hS 7 0 XW_7 rfl (vp_in_nI (show i_27 < 7 by omega) (by omega)) dX2_learn_85 (fun H locs hP hD hS => ?_)
        have hP : va_P D vwCl (XW cI cZ q now rains length ((f_X3_letterAt length letters (1 : Int32)) - (48 : Int32)) (if (7 : Int32) < (f_X3_parts length) then (7 : Int32) else (f_X3_parts length)) plain key stair air acnt tcnt letters (upd ces i_27 (-9 : Int32)) (upd kis (nI i_27).toNatClampNeg (0 : Int32)) frames rainsB abouts stoods kept keptF keptR seed) H := hP
        rw [(nI_clamp (show i_27 < 2 ^ 31 by omega))] at hP
        have hD : va_D A (XW cI cZ q now rains length ((f_X3_letterAt length letters (1 : Int32)) - (48 : Int32)) (if (7 : Int32) < (f_X3_parts length) then (7 : Int32) else (f_X3_parts length)) plain key stair air acnt tcnt letters (upd ces i_27 (-9 : Int32)) (upd kis i_27 (0 : Int32)) frames rainsB abouts stoods kept keptF keptR seed) := hD.same rfl
        refine lv_iinc (v := (nI (i_27 + 1))) (lv' := [(2, .int (nI (i_27 + 1))), (3, .int (0 : Int32)), (0, .ref (q 2)), (1, .ref (q 1))]) hx hb dX2_learn_86 hl (k := 1) rfl (nI_up i_27) (by decide) rfl (fun ls hl => ?_)
        refine lv_goto (tgt := 27) hx hb dX2_learn_89 (by decide) ?_
        exact ih_27 (i_27 + 1) (upd ces i_27 (-9 : Int32)) (upd kis i_27 (0 : Int32)) ls _ _ (by omega) hT_27 (lv_sub hl [0, 2, 3] rfl) hP hS
      · rw [if_neg c_38] at hT_27
        refine lv_iconst (v := (1 : Int32)) hx hb dX2_learn_41 (by decide) ?_
        refine lv_goto (tgt := 46) hx hb dX2_learn_42 (by decide) ?_
        refine lv_istore_n (lv' := [(3, .int (1 : Int32)), (2, .int (nI i_27)), (0, .ref (q 2)), (1, .ref (q 1))]) hx hb dX2_learn_46 rfl hl (by decide) rfl (fun ls hl => ?_)
        refine lv_aload_n hx hb dX2_learn_47 rfl (lv_at hl 2 rfl) ?_
        refine va_get (D := D) (ci := 1) (v := .ref (q 6)) (C := RX2) (T := TX2) (N := 8) hx hb hts tbX2 hown hK hP 2 XW_2 rfl 0 (by decide) (hts _ tm_1_39) (fun _ h9 => h9) rfl dX2_learn_48 ?_
        refine lv_iload_n hx hb dX2_learn_51 rfl (lv_at hl 1 rfl) ?_
        refine lv_iload_n hx hb dX2_learn_52 rfl (lv_at hl 0 rfl) ?_
        refine lv_if_eq (tgt := 64) hx hb dX2_learn_53 (by decide) (fun c_53 => absurd c_53 (by decide)) (fun c_53 => ?_)
        refine lv_aload_n hx hb dX2_learn_56 rfl (lv_at hl 3 rfl) ?_
        refine lv_iload_n hx hb dX2_learn_57 rfl (lv_at hl 1 rfl) ?_
        refine vRdI (b := (q 1)) (As := [.int (nI i_27)]) (rest := [.int (nI i_27), .ref (q 6)]) hF (c_X3_cellOfPart l D cI cZ q length letters (nI i_27)) (gdV tm_1_175 tm_1_176 tm_1_177 tm_1_2 tm_1_178) de_X3_cellOfPart ⟨Nat.le_of_ble_eq_true rfl, Nat.le_of_ble_eq_true rfl⟩ (XW_T hP) hK (va_recv hK hP (ci := 2) (q0 := 1) rfl XW_1) hl.1 rfl (Nat.le_of_ble_eq_true rfl) dX2_learn_58 ⟨Nat.zero_le _, Nat.zero_le _⟩ ?_
        refine lv_goto (tgt := 66) hx hb dX2_learn_61 (by decide) ?_
        refine va_iast hx hb hK hP hD hS 6 0 XW_6 rfl (vp_in_nI (show i_27 < 7 by omega) (by omega)) dX2_learn_66 (fun H locs hP hD hS => ?_)
        have hP : va_P D vwCl (XW cI cZ q now rains length ((f_X3_letterAt length letters (1 : Int32)) - (48 : Int32)) (if (7 : Int32) < (f_X3_parts length) then (7 : Int32) else (f_X3_parts length)) plain key stair air acnt tcnt letters (upd ces (nI i_27).toNatClampNeg (f_X3_cellOfPart length letters (nI i_27))) kis frames rainsB abouts stoods kept keptF keptR seed) H := hP
        rw [(nI_clamp (show i_27 < 2 ^ 31 by omega))] at hP
        have hD : va_D A (XW cI cZ q now rains length ((f_X3_letterAt length letters (1 : Int32)) - (48 : Int32)) (if (7 : Int32) < (f_X3_parts length) then (7 : Int32) else (f_X3_parts length)) plain key stair air acnt tcnt letters (upd ces i_27 (f_X3_cellOfPart length letters (nI i_27))) kis frames rainsB abouts stoods kept keptF keptR seed) := hD.same rfl
        refine lv_aload_n hx hb dX2_learn_67 rfl (lv_at hl 2 rfl) ?_
        refine va_get (D := D) (ci := 1) (v := .ref (q 7)) (C := RX2) (T := TX2) (N := 8) hx hb hts tbX2 hown hK hP 2 XW_2 rfl 1 (by decide) (hts _ tm_1_40) (fun _ h9 => h9) rfl dX2_learn_68 ?_
        refine lv_iload_n hx hb dX2_learn_71 rfl (lv_at hl 1 rfl) ?_
        refine lv_iload_n hx hb dX2_learn_72 rfl (lv_at hl 0 rfl) ?_
        refine lv_if_eq (tgt := 84) hx hb dX2_learn_73 (by decide) (fun c_73 => absurd c_73 (by decide)) (fun c_73 => ?_)
        refine lv_aload_n hx hb dX2_learn_76 rfl (lv_at hl 3 rfl) ?_
        refine lv_iload_n hx hb dX2_learn_77 rfl (lv_at hl 1 rfl) ?_
        refine vRdI (b := (q 1)) (As := [.int (nI i_27)]) (rest := [.int (nI i_27), .ref (q 7)]) hF (c_X3_kindOfPart l D cI cZ q length letters (nI i_27)) (gdV tm_1_179 tm_1_180 tm_1_181 tm_1_2 tm_1_182) de_X3_kindOfPart ⟨Nat.le_of_ble_eq_true rfl, Nat.le_of_ble_eq_true rfl⟩ (XW_T hP) hK (va_recv hK hP (ci := 2) (q0 := 1) rfl XW_1) hl.1 rfl (Nat.le_of_ble_eq_true rfl) dX2_learn_78 ⟨Nat.zero_le _, Nat.zero_le _⟩ ?_
        refine lv_goto (tgt := 85) hx hb dX2_learn_81 (by decide) ?_
        refine va_iast hx hb hK hP hD hS 7 0 XW_7 rfl (vp_in_nI (show i_27 < 7 by omega) (by omega)) dX2_learn_85 (fun H locs hP hD hS => ?_)
        have hP : va_P D vwCl (XW cI cZ q now rains length ((f_X3_letterAt length letters (1 : Int32)) - (48 : Int32)) (if (7 : Int32) < (f_X3_parts length) then (7 : Int32) else (f_X3_parts length)) plain key stair air acnt tcnt letters (upd ces i_27 (f_X3_cellOfPart length letters (nI i_27))) (upd kis (nI i_27).toNatClampNeg (f_X3_kindOfPart length letters (nI i_27))) frames rainsB abouts stoods kept keptF keptR seed) H := hP
        rw [(nI_clamp (show i_27 < 2 ^ 31 by omega))] at hP
        have hD : va_D A (XW cI cZ q now rains length ((f_X3_letterAt length letters (1 : Int32)) - (48 : Int32)) (if (7 : Int32) < (f_X3_parts length) then (7 : Int32) else (f_X3_parts length)) plain key stair air acnt tcnt letters (upd ces i_27 (f_X3_cellOfPart length letters (nI i_27))) (upd kis i_27 (f_X3_kindOfPart length letters (nI i_27))) frames rainsB abouts stoods kept keptF keptR seed) := hD.same rfl
        refine lv_iinc (v := (nI (i_27 + 1))) (lv' := [(2, .int (nI (i_27 + 1))), (3, .int (1 : Int32)), (0, .ref (q 2)), (1, .ref (q 1))]) hx hb dX2_learn_86 hl (k := 1) rfl (nI_up i_27) (by decide) rfl (fun ls hl => ?_)
        refine lv_goto (tgt := 27) hx hb dX2_learn_89 (by decide) ?_
        exact ih_27 (i_27 + 1) (upd ces i_27 (f_X3_cellOfPart length letters (nI i_27))) (upd kis i_27 (f_X3_kindOfPart length letters (nI i_27))) ls _ _ (by omega) hT_27 (lv_sub hl [0, 2, 3] rfl) hP hS
  exact key_27 7 0 cells kinds ls _ _ (by omega) hT_27 (lv_sub hl [0, 1, 2] rfl) hP hS
end
