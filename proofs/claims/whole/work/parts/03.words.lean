/-- the tables words that hold in every later state -/
def tb : List Cond := lw_tbl.filter goodWord
theorem tb_good : ∀ w ∈ tb, goodWord w = true := fun w h => (List.mem_filter.mp h).2
theorem tb_in : ∀ w ∈ tb, w ∈ lw_tbl := fun w h => (List.mem_filter.mp h).1
theorem tbm {w : Cond} (h : w ∈ lw_tbl) (g : goodWord w = true) : w ∈ tb := List.mem_filter.mpr ⟨h, g⟩
theorem tbp {w : Cond} (i : Nat) (h : (k2_sels lw_privs)[i]? = some w) : w ∈ lw_tbl := List.mem_append_left _ (List.mem_of_getElem? h)
theorem tb1 {w : Cond} (i : Nat) (h : tables_1_1[i]? = some w) : w ∈ lw_tbl := List.mem_append_right _ (List.mem_append_left _ (List.mem_of_getElem? h))
theorem tb2 {w : Cond} (i : Nat) (h : tables_1_2[i]? = some w) : w ∈ lw_tbl := List.mem_append_right _ (List.mem_append_right _ (List.mem_append_left _ (List.mem_of_getElem? h)))
theorem tb3 {w : Cond} (i : Nat) (h : tables_1_3[i]? = some w) : w ∈ lw_tbl := List.mem_append_right _ (List.mem_append_right _ (List.mem_append_right _ (List.mem_append_left _ (List.mem_of_getElem? h))))
theorem tb4 {w : Cond} (i : Nat) (h : tables_1_4[i]? = some w) : w ∈ lw_tbl := List.mem_append_right _ (List.mem_append_right _ (List.mem_append_right _ (List.mem_append_right _ (List.mem_of_getElem? h))))
theorem tp_0 : Cond.selects "IdeaCage" ⟨"IdeaCage", "allPoles", "()I"⟩ ⟨"IdeaCage", "allPoles", "()I"⟩ ∈ tb := tbm (tbp 0 (by decide +kernel)) rfl
theorem tp_1 : Cond.selects "IdeaCage" ⟨"IdeaCage", "canBe", "(II)Z"⟩ ⟨"IdeaCage", "canBe", "(II)Z"⟩ ∈ tb := tbm (tbp 1 (by decide +kernel)) rfl
theorem tp_2 : Cond.selects "IdeaCage" ⟨"IdeaCage", "withDoing", "(II)I"⟩ ⟨"IdeaCage", "withDoing", "(II)I"⟩ ∈ tb := tbm (tbp 2 (by decide +kernel)) rfl
theorem tp_3 : Cond.selects "IdeaCage" ⟨"IdeaCage", "ordersWith", "(I)I"⟩ ⟨"IdeaCage", "ordersWith", "(I)I"⟩ ∈ tb := tbm (tbp 3 (by decide +kernel)) rfl
theorem tp_4 : Cond.selects "IdeaCage" ⟨"IdeaCage", "isRest", "(IIII)Z"⟩ ⟨"IdeaCage", "isRest", "(IIII)Z"⟩ ∈ tb := tbm (tbp 4 (by decide +kernel)) rfl
theorem tp_5 : Cond.selects "IdeaCage" ⟨"IdeaCage", "withChoices", "(IIII)I"⟩ ⟨"IdeaCage", "withChoices", "(IIII)I"⟩ ∈ tb := tbm (tbp 5 (by decide +kernel)) rfl
theorem tp_6 : Cond.selects "IdeaCage" ⟨"IdeaCage", "withChoice", "(III)I"⟩ ⟨"IdeaCage", "withChoice", "(III)I"⟩ ∈ tb := tbm (tbp 6 (by decide +kernel)) rfl
theorem tp_7 : Cond.selects "IdeaCage" ⟨"IdeaCage", "hadWithout", "(I)I"⟩ ⟨"IdeaCage", "hadWithout", "(I)I"⟩ ∈ tb := tbm (tbp 7 (by decide +kernel)) rfl
theorem tp_8 : Cond.selects "IdeaCage" ⟨"IdeaCage", "weightOf", "(II)I"⟩ ⟨"IdeaCage", "weightOf", "(II)I"⟩ ∈ tb := tbm (tbp 8 (by decide +kernel)) rfl
theorem tp_9 : Cond.selects "IdeaCage" ⟨"IdeaCage", "withChance", "(II)I"⟩ ⟨"IdeaCage", "withChance", "(II)I"⟩ ∈ tb := tbm (tbp 9 (by decide +kernel)) rfl
theorem tp_10 : Cond.selects "IdeaCageModel" ⟨"IdeaCageModel", "readIdea", "()I"⟩ ⟨"IdeaCageModel", "readIdea", "()I"⟩ ∈ tb := tbm (tbp 10 (by decide +kernel)) rfl
theorem tp_11 : Cond.selects "IdeaCageModel" ⟨"IdeaCageModel", "readPart", "()Z"⟩ ⟨"IdeaCageModel", "readPart", "()Z"⟩ ∈ tb := tbm (tbp 11 (by decide +kernel)) rfl
theorem tp_12 : Cond.selects "IdeaCageModel" ⟨"IdeaCageModel", "left", "()I"⟩ ⟨"IdeaCageModel", "left", "()I"⟩ ∈ tb := tbm (tbp 12 (by decide +kernel)) rfl
theorem tp_13 : Cond.selects "IdeaCageModel" ⟨"IdeaCageModel", "begin", "()V"⟩ ⟨"IdeaCageModel", "begin", "()V"⟩ ∈ tb := tbm (tbp 13 (by decide +kernel)) rfl
theorem tp_14 : Cond.selects "IdeaCageModel" ⟨"IdeaCageModel", "settle", "([I)I"⟩ ⟨"IdeaCageModel", "settle", "([I)I"⟩ ∈ tb := tbm (tbp 14 (by decide +kernel)) rfl
theorem tp_15 : Cond.selects "IdeaCageModel" ⟨"IdeaCageModel", "standing", "([I)I"⟩ ⟨"IdeaCageModel", "standing", "([I)I"⟩ ∈ tb := tbm (tbp 15 (by decide +kernel)) rfl
theorem tp_16 : Cond.selects "IdeaCageModel" ⟨"IdeaCageModel", "stands", "([III)Z"⟩ ⟨"IdeaCageModel", "stands", "([III)Z"⟩ ∈ tb := tbm (tbp 16 (by decide +kernel)) rfl
theorem tp_17 : Cond.selects "IdeaCageModel" ⟨"IdeaCageModel", "hasPole", "([II)Z"⟩ ⟨"IdeaCageModel", "hasPole", "([II)Z"⟩ ∈ tb := tbm (tbp 17 (by decide +kernel)) rfl
theorem tp_18 : Cond.selects "IdeaCageModel" ⟨"IdeaCageModel", "isBy", "(IIII)Z"⟩ ⟨"IdeaCageModel", "isBy", "(IIII)Z"⟩ ∈ tb := tbm (tbp 18 (by decide +kernel)) rfl
theorem tp_19 : Cond.selects "IdeaCageModel" ⟨"IdeaCageModel", "partAt", "(I)I"⟩ ⟨"IdeaCageModel", "partAt", "(I)I"⟩ ∈ tb := tbm (tbp 19 (by decide +kernel)) rfl
theorem tp_20 : Cond.selects "IdeaCageModel" ⟨"IdeaCageModel", "noPart", "(I)Z"⟩ ⟨"IdeaCageModel", "noPart", "(I)Z"⟩ ∈ tb := tbm (tbp 20 (by decide +kernel)) rfl
theorem tp_21 : Cond.selects "IdeaCageModel" ⟨"IdeaCageModel", "note", "()V"⟩ ⟨"IdeaCageModel", "note", "()V"⟩ ∈ tb := tbm (tbp 21 (by decide +kernel)) rfl
theorem tp_22 : Cond.selects "IdeaCageModel" ⟨"IdeaCageModel", "goPut", "([II)Z"⟩ ⟨"IdeaCageModel", "goPut", "([II)Z"⟩ ∈ tb := tbm (tbp 22 (by decide +kernel)) rfl
theorem tp_23 : Cond.selects "IdeaCageModel" ⟨"IdeaCageModel", "goStrike", "([II)I"⟩ ⟨"IdeaCageModel", "goStrike", "([II)I"⟩ ∈ tb := tbm (tbp 23 (by decide +kernel)) rfl
theorem tp_24 : Cond.selects "IdeaCageModel" ⟨"IdeaCageModel", "goRain", "([I)I"⟩ ⟨"IdeaCageModel", "goRain", "([I)I"⟩ ∈ tb := tbm (tbp 24 (by decide +kernel)) rfl
theorem tp_25 : Cond.selects "IdeaCageModel" ⟨"IdeaCageModel", "findSoon", "(I)V"⟩ ⟨"IdeaCageModel", "findSoon", "(I)V"⟩ ∈ tb := tbm (tbp 25 (by decide +kernel)) rfl
theorem tp_26 : Cond.selects "IdeaCageModel" ⟨"IdeaCageModel", "actsBy", "(II)Z"⟩ ⟨"IdeaCageModel", "actsBy", "(II)Z"⟩ ∈ tb := tbm (tbp 26 (by decide +kernel)) rfl
theorem tp_27 : Cond.selects "IdeaCageModel" ⟨"IdeaCageModel", "does", "(I)Z"⟩ ⟨"IdeaCageModel", "does", "(I)Z"⟩ ∈ tb := tbm (tbp 27 (by decide +kernel)) rfl
theorem tp_28 : Cond.selects "IdeaCageModel" ⟨"IdeaCageModel", "strikes", "(I)Z"⟩ ⟨"IdeaCageModel", "strikes", "(I)Z"⟩ ∈ tb := tbm (tbp 28 (by decide +kernel)) rfl
theorem tp_29 : Cond.selects "IdeaCageModel" ⟨"IdeaCageModel", "chooses", "(II)V"⟩ ⟨"IdeaCageModel", "chooses", "(II)V"⟩ ∈ tb := tbm (tbp 29 (by decide +kernel)) rfl
theorem tp_30 : Cond.selects "IdeaCageModel" ⟨"IdeaCageModel", "gain", "(I)I"⟩ ⟨"IdeaCageModel", "gain", "(I)I"⟩ ∈ tb := tbm (tbp 30 (by decide +kernel)) rfl
theorem tp_31 : Cond.selects "IdeaCageModel" ⟨"IdeaCageModel", "columnsWith", "()I"⟩ ⟨"IdeaCageModel", "columnsWith", "()I"⟩ ∈ tb := tbm (tbp 31 (by decide +kernel)) rfl
theorem tm_1_0 : (Jvm.Cond.initialized "IdeaCageLaw") ∈ tb := tbm (tb1 0 (by decide +kernel)) rfl
theorem tm_1_1 : (Jvm.Cond.initialized "IdeaCage") ∈ tb := tbm (tb1 1 (by decide +kernel)) rfl
theorem tm_1_2 : (Jvm.Cond.initialized "IdeaCage$Text") ∈ tb := tbm (tb1 2 (by decide +kernel)) rfl
theorem tm_1_3 : (Jvm.Cond.initialized "IdeaCage$Plan") ∈ tb := tbm (tb1 3 (by decide +kernel)) rfl
theorem tm_1_4 : (Jvm.Cond.initialized "IdeaCage$Acts") ∈ tb := tbm (tb1 4 (by decide +kernel)) rfl
theorem tm_1_5 : (Jvm.Cond.initialized "IdeaCage$Tries") ∈ tb := tbm (tb1 5 (by decide +kernel)) rfl
theorem tm_1_6 : (Jvm.Cond.initialized "IdeaCageModel") ∈ tb := tbm (tb1 6 (by decide +kernel)) rfl
theorem tm_1_7 : (Jvm.Cond.initialized "java/lang/Math") ∈ tb := tbm (tb1 7 (by decide +kernel)) rfl
theorem tm_1_8 : (Jvm.Cond.initialized "IdeaCage$Frame") ∈ tb := tbm (tb1 8 (by decide +kernel)) rfl
theorem tm_1_9 : (Jvm.Cond.initialized "java/lang/Integer") ∈ tb := tbm (tb1 9 (by decide +kernel)) rfl
theorem tm_1_10 : (Jvm.Cond.classLink "IdeaCageLaw" (7 : Nat) "IdeaCage") ∈ tb := tbm (tb1 10 (by decide +kernel)) rfl
theorem tm_1_11 : (Jvm.Cond.instantiable "IdeaCage" (10 : Nat)) ∈ tb := tbm (tb1 11 (by decide +kernel)) rfl
theorem tm_1_12 : (Jvm.Cond.methodLink "IdeaCageLaw" (9 : Nat) ({ cls := "IdeaCage", name := "<init>", desc := "()V" } : Jvm.MethodName)) ∈ tb := tbm (tb1 12 (by decide +kernel)) rfl
theorem tm_1_13 : (Jvm.Cond.instanceMethod ({ cls := "IdeaCage", name := "<init>", desc := "()V" } : Jvm.MethodName)) ∈ tb := tbm (tb1 13 (by decide +kernel)) rfl
theorem tm_1_15 : (Jvm.Cond.methodLink "IdeaCage" (1 : Nat) ({ cls := "java/lang/Object", name := "<init>", desc := "()V" } : Jvm.MethodName)) ∈ tb := tbm (tb1 15 (by decide +kernel)) rfl
theorem tm_1_16 : (Jvm.Cond.instanceMethod ({ cls := "java/lang/Object", name := "<init>", desc := "()V" } : Jvm.MethodName)) ∈ tb := tbm (tb1 16 (by decide +kernel)) rfl
theorem tm_1_18 : (Jvm.Cond.classLink "IdeaCage" (7 : Nat) "IdeaCage$Text") ∈ tb := tbm (tb1 18 (by decide +kernel)) rfl
theorem tm_1_19 : (Jvm.Cond.instantiable "IdeaCage$Text" (2 : Nat)) ∈ tb := tbm (tb1 19 (by decide +kernel)) rfl
theorem tm_1_21 : (Jvm.Cond.instanceMethod ({ cls := "IdeaCage$Text", name := "<init>", desc := "()V" } : Jvm.MethodName)) ∈ tb := tbm (tb1 21 (by decide +kernel)) rfl
theorem tm_1_23 : (Jvm.Cond.methodLink "IdeaCage$Text" (3 : Nat) ({ cls := "java/lang/Object", name := "<init>", desc := "()V" } : Jvm.MethodName)) ∈ tb := tbm (tb1 23 (by decide +kernel)) rfl
theorem tm_1_24 : (Jvm.Cond.fieldLink "IdeaCage$Text" (11 : Nat) "IdeaCage$Text" "letters" "[I") ∈ tb := tbm (tb1 24 (by decide +kernel)) rfl
theorem tm_1_25 : (Jvm.Cond.fieldLink "IdeaCage$Text" (15 : Nat) "IdeaCage$Text" "length" "I") ∈ tb := tbm (tb1 25 (by decide +kernel)) rfl
theorem tm_1_26 : (Jvm.Cond.fieldLink "IdeaCage" (63 : Nat) "IdeaCage$Text" "length" "I") ∈ tb := tbm (tb1 26 (by decide +kernel)) rfl
theorem tm_1_27 : (Jvm.Cond.laysFinal "IdeaCage$Text" "IdeaCage$Text" "letters" "[I") ∈ tb := tbm (tb1 27 (by decide +kernel)) rfl
theorem tm_1_28 : (Jvm.Cond.soleField "IdeaCage$Text" "letters") ∈ tb := tbm (tb1 28 (by decide +kernel)) rfl
theorem tm_1_29 : (Jvm.Cond.lays "IdeaCage$Text" "IdeaCage$Text" "length" "I") ∈ tb := tbm (tb1 29 (by decide +kernel)) rfl
theorem tm_1_30 : (Jvm.Cond.soleField "IdeaCage$Text" "length") ∈ tb := tbm (tb1 30 (by decide +kernel)) rfl
theorem tm_1_32 : (Jvm.Cond.arrayClass Jvm.ClassFile.FieldType.int) ∈ tb := tbm (tb1 32 (by decide +kernel)) rfl
theorem tm_1_33 : (Jvm.Cond.classLink "IdeaCage" (16 : Nat) "IdeaCage$Plan") ∈ tb := tbm (tb1 33 (by decide +kernel)) rfl
theorem tm_1_34 : (Jvm.Cond.instantiable "IdeaCage$Plan" (8 : Nat)) ∈ tb := tbm (tb1 34 (by decide +kernel)) rfl
theorem tm_1_36 : (Jvm.Cond.instanceMethod ({ cls := "IdeaCage$Plan", name := "<init>", desc := "()V" } : Jvm.MethodName)) ∈ tb := tbm (tb1 36 (by decide +kernel)) rfl
theorem tm_1_38 : (Jvm.Cond.methodLink "IdeaCage$Plan" (3 : Nat) ({ cls := "java/lang/Object", name := "<init>", desc := "()V" } : Jvm.MethodName)) ∈ tb := tbm (tb1 38 (by decide +kernel)) rfl
theorem tm_1_39 : (Jvm.Cond.fieldLink "IdeaCage$Plan" (9 : Nat) "IdeaCage$Plan" "cells" "[I") ∈ tb := tbm (tb1 39 (by decide +kernel)) rfl
theorem tm_1_40 : (Jvm.Cond.fieldLink "IdeaCage$Plan" (15 : Nat) "IdeaCage$Plan" "kinds" "[I") ∈ tb := tbm (tb1 40 (by decide +kernel)) rfl
theorem tm_1_41 : (Jvm.Cond.fieldLink "IdeaCage$Plan" (18 : Nat) "IdeaCage$Plan" "poles" "I") ∈ tb := tbm (tb1 41 (by decide +kernel)) rfl
theorem tm_1_42 : (Jvm.Cond.fieldLink "IdeaCage" (77 : Nat) "IdeaCage$Plan" "poles" "I") ∈ tb := tbm (tb1 42 (by decide +kernel)) rfl
theorem tm_1_43 : (Jvm.Cond.fieldLink "IdeaCage$Plan" (22 : Nat) "IdeaCage$Plan" "parts" "I") ∈ tb := tbm (tb1 43 (by decide +kernel)) rfl
theorem tm_1_44 : (Jvm.Cond.fieldLink "IdeaCage" (80 : Nat) "IdeaCage$Plan" "parts" "I") ∈ tb := tbm (tb1 44 (by decide +kernel)) rfl
theorem tm_1_45 : (Jvm.Cond.fieldLink "IdeaCage$Plan" (25 : Nat) "IdeaCage$Plan" "plainCells" "I") ∈ tb := tbm (tb1 45 (by decide +kernel)) rfl
theorem tm_1_46 : (Jvm.Cond.fieldLink "IdeaCage$Plan" (28 : Nat) "IdeaCage$Plan" "keyCells" "I") ∈ tb := tbm (tb1 46 (by decide +kernel)) rfl
theorem tm_1_47 : (Jvm.Cond.fieldLink "IdeaCage$Plan" (31 : Nat) "IdeaCage$Plan" "stairCells" "I") ∈ tb := tbm (tb1 47 (by decide +kernel)) rfl
theorem tm_1_48 : (Jvm.Cond.fieldLink "IdeaCage$Plan" (34 : Nat) "IdeaCage$Plan" "airCells" "I") ∈ tb := tbm (tb1 48 (by decide +kernel)) rfl
theorem tm_1_49 : (Jvm.Cond.laysFinal "IdeaCage$Plan" "IdeaCage$Plan" "cells" "[I") ∈ tb := tbm (tb1 49 (by decide +kernel)) rfl
theorem tm_1_50 : (Jvm.Cond.soleField "IdeaCage$Plan" "cells") ∈ tb := tbm (tb1 50 (by decide +kernel)) rfl
theorem tm_1_51 : (Jvm.Cond.laysFinal "IdeaCage$Plan" "IdeaCage$Plan" "kinds" "[I") ∈ tb := tbm (tb1 51 (by decide +kernel)) rfl
theorem tm_1_52 : (Jvm.Cond.soleField "IdeaCage$Plan" "kinds") ∈ tb := tbm (tb1 52 (by decide +kernel)) rfl
theorem tm_1_53 : (Jvm.Cond.lays "IdeaCage$Plan" "IdeaCage$Plan" "poles" "I") ∈ tb := tbm (tb1 53 (by decide +kernel)) rfl
theorem tm_1_54 : (Jvm.Cond.soleField "IdeaCage$Plan" "poles") ∈ tb := tbm (tb1 54 (by decide +kernel)) rfl
theorem tm_1_55 : (Jvm.Cond.lays "IdeaCage$Plan" "IdeaCage$Plan" "parts" "I") ∈ tb := tbm (tb1 55 (by decide +kernel)) rfl
theorem tm_1_56 : (Jvm.Cond.soleField "IdeaCage$Plan" "parts") ∈ tb := tbm (tb1 56 (by decide +kernel)) rfl
theorem tm_1_57 : (Jvm.Cond.lays "IdeaCage$Plan" "IdeaCage$Plan" "plainCells" "I") ∈ tb := tbm (tb1 57 (by decide +kernel)) rfl
theorem tm_1_58 : (Jvm.Cond.soleField "IdeaCage$Plan" "plainCells") ∈ tb := tbm (tb1 58 (by decide +kernel)) rfl
theorem tm_1_59 : (Jvm.Cond.lays "IdeaCage$Plan" "IdeaCage$Plan" "keyCells" "I") ∈ tb := tbm (tb1 59 (by decide +kernel)) rfl
theorem tm_1_60 : (Jvm.Cond.soleField "IdeaCage$Plan" "keyCells") ∈ tb := tbm (tb1 60 (by decide +kernel)) rfl
theorem tm_1_61 : (Jvm.Cond.lays "IdeaCage$Plan" "IdeaCage$Plan" "stairCells" "I") ∈ tb := tbm (tb1 61 (by decide +kernel)) rfl
theorem tm_1_62 : (Jvm.Cond.soleField "IdeaCage$Plan" "stairCells") ∈ tb := tbm (tb1 62 (by decide +kernel)) rfl
theorem tm_1_63 : (Jvm.Cond.lays "IdeaCage$Plan" "IdeaCage$Plan" "airCells" "I") ∈ tb := tbm (tb1 63 (by decide +kernel)) rfl
theorem tm_1_64 : (Jvm.Cond.soleField "IdeaCage$Plan" "airCells") ∈ tb := tbm (tb1 64 (by decide +kernel)) rfl
theorem tm_1_66 : (Jvm.Cond.classLink "IdeaCage" (23 : Nat) "IdeaCage$Acts") ∈ tb := tbm (tb1 66 (by decide +kernel)) rfl
theorem tm_1_67 : (Jvm.Cond.instantiable "IdeaCage$Acts" (3 : Nat)) ∈ tb := tbm (tb1 67 (by decide +kernel)) rfl
theorem tm_1_69 : (Jvm.Cond.instanceMethod ({ cls := "IdeaCage$Acts", name := "<init>", desc := "()V" } : Jvm.MethodName)) ∈ tb := tbm (tb1 69 (by decide +kernel)) rfl
theorem tm_1_71 : (Jvm.Cond.methodLink "IdeaCage$Acts" (1 : Nat) ({ cls := "java/lang/Object", name := "<init>", desc := "()V" } : Jvm.MethodName)) ∈ tb := tbm (tb1 71 (by decide +kernel)) rfl
theorem tm_1_72 : (Jvm.Cond.fieldLink "IdeaCage$Acts" (9 : Nat) "IdeaCage$Acts" "frames" "[I") ∈ tb := tbm (tb1 72 (by decide +kernel)) rfl
theorem tm_1_73 : (Jvm.Cond.fieldLink "IdeaCage$Acts" (13 : Nat) "IdeaCage$Acts" "rainsBefore" "[I") ∈ tb := tbm (tb1 73 (by decide +kernel)) rfl
theorem tm_1_74 : (Jvm.Cond.fieldLink "IdeaCage$Acts" (16 : Nat) "IdeaCage$Acts" "count" "I") ∈ tb := tbm (tb1 74 (by decide +kernel)) rfl
theorem tm_1_75 : (Jvm.Cond.fieldLink "IdeaCage" (74 : Nat) "IdeaCage$Acts" "count" "I") ∈ tb := tbm (tb1 75 (by decide +kernel)) rfl
theorem tm_1_76 : (Jvm.Cond.laysFinal "IdeaCage$Acts" "IdeaCage$Acts" "frames" "[I") ∈ tb := tbm (tb1 76 (by decide +kernel)) rfl
theorem tm_1_77 : (Jvm.Cond.soleField "IdeaCage$Acts" "frames") ∈ tb := tbm (tb1 77 (by decide +kernel)) rfl
theorem tm_1_78 : (Jvm.Cond.laysFinal "IdeaCage$Acts" "IdeaCage$Acts" "rainsBefore" "[I") ∈ tb := tbm (tb1 78 (by decide +kernel)) rfl
theorem tm_1_79 : (Jvm.Cond.soleField "IdeaCage$Acts" "rainsBefore") ∈ tb := tbm (tb1 79 (by decide +kernel)) rfl
theorem tm_1_80 : (Jvm.Cond.lays "IdeaCage$Acts" "IdeaCage$Acts" "count" "I") ∈ tb := tbm (tb1 80 (by decide +kernel)) rfl
theorem tm_1_81 : (Jvm.Cond.soleField "IdeaCage$Acts" "count") ∈ tb := tbm (tb1 81 (by decide +kernel)) rfl
theorem tm_1_83 : (Jvm.Cond.classLink "IdeaCage" (30 : Nat) "IdeaCage$Tries") ∈ tb := tbm (tb1 83 (by decide +kernel)) rfl
theorem tm_1_84 : (Jvm.Cond.instantiable "IdeaCage$Tries" (3 : Nat)) ∈ tb := tbm (tb1 84 (by decide +kernel)) rfl
theorem tm_1_86 : (Jvm.Cond.instanceMethod ({ cls := "IdeaCage$Tries", name := "<init>", desc := "()V" } : Jvm.MethodName)) ∈ tb := tbm (tb1 86 (by decide +kernel)) rfl
theorem tm_1_88 : (Jvm.Cond.methodLink "IdeaCage$Tries" (3 : Nat) ({ cls := "java/lang/Object", name := "<init>", desc := "()V" } : Jvm.MethodName)) ∈ tb := tbm (tb1 88 (by decide +kernel)) rfl
theorem tm_1_89 : (Jvm.Cond.fieldLink "IdeaCage$Tries" (11 : Nat) "IdeaCage$Tries" "abouts" "[I") ∈ tb := tbm (tb1 89 (by decide +kernel)) rfl
theorem tm_1_90 : (Jvm.Cond.fieldLink "IdeaCage$Tries" (15 : Nat) "IdeaCage$Tries" "stoods" "[Z") ∈ tb := tbm (tb1 90 (by decide +kernel)) rfl
theorem tm_1_91 : (Jvm.Cond.fieldLink "IdeaCage$Tries" (19 : Nat) "IdeaCage$Tries" "count" "I") ∈ tb := tbm (tb1 91 (by decide +kernel)) rfl
theorem tm_1_92 : (Jvm.Cond.fieldLink "IdeaCage" (102 : Nat) "IdeaCage$Tries" "count" "I") ∈ tb := tbm (tb1 92 (by decide +kernel)) rfl
theorem tm_1_93 : (Jvm.Cond.laysFinal "IdeaCage$Tries" "IdeaCage$Tries" "abouts" "[I") ∈ tb := tbm (tb1 93 (by decide +kernel)) rfl
theorem tm_1_94 : (Jvm.Cond.soleField "IdeaCage$Tries" "abouts") ∈ tb := tbm (tb1 94 (by decide +kernel)) rfl
theorem tm_1_95 : (Jvm.Cond.laysFinal "IdeaCage$Tries" "IdeaCage$Tries" "stoods" "[Z") ∈ tb := tbm (tb1 95 (by decide +kernel)) rfl
theorem tm_1_96 : (Jvm.Cond.soleField "IdeaCage$Tries" "stoods") ∈ tb := tbm (tb1 96 (by decide +kernel)) rfl
theorem tm_1_97 : (Jvm.Cond.lays "IdeaCage$Tries" "IdeaCage$Tries" "count" "I") ∈ tb := tbm (tb1 97 (by decide +kernel)) rfl
theorem tm_1_98 : (Jvm.Cond.soleField "IdeaCage$Tries" "count") ∈ tb := tbm (tb1 98 (by decide +kernel)) rfl
theorem tm_1_100 : (Jvm.Cond.arrayClass Jvm.ClassFile.FieldType.boolean) ∈ tb := tbm (tb1 100 (by decide +kernel)) rfl
theorem tm_1_101 : (Jvm.Cond.fieldLink "IdeaCage" (10 : Nat) "IdeaCage" "text" "LIdeaCage$Text;") ∈ tb := tbm (tb1 101 (by decide +kernel)) rfl
theorem tm_1_102 : (Jvm.Cond.fieldLink "IdeaCage" (19 : Nat) "IdeaCage" "plan" "LIdeaCage$Plan;") ∈ tb := tbm (tb1 102 (by decide +kernel)) rfl
theorem tm_1_103 : (Jvm.Cond.fieldLink "IdeaCage" (26 : Nat) "IdeaCage" "acts" "LIdeaCage$Acts;") ∈ tb := tbm (tb1 103 (by decide +kernel)) rfl
theorem tm_1_104 : (Jvm.Cond.fieldLink "IdeaCage" (33 : Nat) "IdeaCage" "tries" "LIdeaCage$Tries;") ∈ tb := tbm (tb1 104 (by decide +kernel)) rfl
theorem tm_1_105 : (Jvm.Cond.fieldLink "IdeaCage" (37 : Nat) "IdeaCage" "kept" "[Z") ∈ tb := tbm (tb1 105 (by decide +kernel)) rfl
theorem tm_1_106 : (Jvm.Cond.fieldLink "IdeaCage" (41 : Nat) "IdeaCage" "keptFrames" "[I") ∈ tb := tbm (tb1 106 (by decide +kernel)) rfl
theorem tm_1_107 : (Jvm.Cond.fieldLink "IdeaCage" (45 : Nat) "IdeaCage" "keptRains" "[I") ∈ tb := tbm (tb1 107 (by decide +kernel)) rfl
theorem tm_1_108 : (Jvm.Cond.fieldLink "IdeaCage" (48 : Nat) "IdeaCage" "now" "I") ∈ tb := tbm (tb1 108 (by decide +kernel)) rfl
theorem tm_1_109 : (Jvm.Cond.fieldLink "IdeaCage" (52 : Nat) "IdeaCage" "rains" "I") ∈ tb := tbm (tb1 109 (by decide +kernel)) rfl
theorem tm_1_110 : (Jvm.Cond.fieldLink "IdeaCage" (55 : Nat) "IdeaCage" "theSeed" "J") ∈ tb := tbm (tb1 110 (by decide +kernel)) rfl
theorem tm_1_111 : (Jvm.Cond.laysFinal "IdeaCage" "IdeaCage" "text" "LIdeaCage$Text;") ∈ tb := tbm (tb1 111 (by decide +kernel)) rfl
theorem tm_1_112 : (Jvm.Cond.soleField "IdeaCage" "text") ∈ tb := tbm (tb1 112 (by decide +kernel)) rfl
theorem tm_1_113 : (Jvm.Cond.laysFinal "IdeaCage" "IdeaCage" "plan" "LIdeaCage$Plan;") ∈ tb := tbm (tb1 113 (by decide +kernel)) rfl
theorem tm_1_114 : (Jvm.Cond.soleField "IdeaCage" "plan") ∈ tb := tbm (tb1 114 (by decide +kernel)) rfl
theorem tm_1_115 : (Jvm.Cond.laysFinal "IdeaCage" "IdeaCage" "acts" "LIdeaCage$Acts;") ∈ tb := tbm (tb1 115 (by decide +kernel)) rfl
theorem tm_1_116 : (Jvm.Cond.soleField "IdeaCage" "acts") ∈ tb := tbm (tb1 116 (by decide +kernel)) rfl
theorem tm_1_117 : (Jvm.Cond.laysFinal "IdeaCage" "IdeaCage" "tries" "LIdeaCage$Tries;") ∈ tb := tbm (tb1 117 (by decide +kernel)) rfl
theorem tm_1_118 : (Jvm.Cond.soleField "IdeaCage" "tries") ∈ tb := tbm (tb1 118 (by decide +kernel)) rfl
theorem tm_1_119 : (Jvm.Cond.laysFinal "IdeaCage" "IdeaCage" "kept" "[Z") ∈ tb := tbm (tb1 119 (by decide +kernel)) rfl
theorem tm_1_120 : (Jvm.Cond.soleField "IdeaCage" "kept") ∈ tb := tbm (tb1 120 (by decide +kernel)) rfl
theorem tm_1_121 : (Jvm.Cond.laysFinal "IdeaCage" "IdeaCage" "keptFrames" "[I") ∈ tb := tbm (tb1 121 (by decide +kernel)) rfl
theorem tm_1_122 : (Jvm.Cond.soleField "IdeaCage" "keptFrames") ∈ tb := tbm (tb1 122 (by decide +kernel)) rfl
theorem tm_1_123 : (Jvm.Cond.laysFinal "IdeaCage" "IdeaCage" "keptRains" "[I") ∈ tb := tbm (tb1 123 (by decide +kernel)) rfl
theorem tm_1_124 : (Jvm.Cond.soleField "IdeaCage" "keptRains") ∈ tb := tbm (tb1 124 (by decide +kernel)) rfl
theorem tm_1_125 : (Jvm.Cond.lays "IdeaCage" "IdeaCage" "now" "I") ∈ tb := tbm (tb1 125 (by decide +kernel)) rfl
theorem tm_1_126 : (Jvm.Cond.soleField "IdeaCage" "now") ∈ tb := tbm (tb1 126 (by decide +kernel)) rfl
theorem tm_1_127 : (Jvm.Cond.lays "IdeaCage" "IdeaCage" "rains" "I") ∈ tb := tbm (tb1 127 (by decide +kernel)) rfl
theorem tm_1_128 : (Jvm.Cond.soleField "IdeaCage" "rains") ∈ tb := tbm (tb1 128 (by decide +kernel)) rfl
theorem tm_1_129 : (Jvm.Cond.lays "IdeaCage" "IdeaCage" "theSeed" "J") ∈ tb := tbm (tb1 129 (by decide +kernel)) rfl
theorem tm_1_130 : (Jvm.Cond.soleField "IdeaCage" "theSeed") ∈ tb := tbm (tb1 130 (by decide +kernel)) rfl
theorem tm_1_132 : (Jvm.Cond.methodLink "IdeaCageLaw" (13 : Nat) ({ cls := "IdeaCage", name := "write", desc := "(I)I" } : Jvm.MethodName)) ∈ tb := tbm (tb1 132 (by decide +kernel)) rfl
theorem tm_1_133 : (Jvm.Cond.instanceMethod ({ cls := "IdeaCage", name := "write", desc := "(I)I" } : Jvm.MethodName)) ∈ tb := tbm (tb1 133 (by decide +kernel)) rfl
theorem tm_1_134 : (Jvm.Cond.selects "IdeaCage" ({ cls := "IdeaCage", name := "write", desc := "(I)I" } : Jvm.MethodName) ({ cls := "IdeaCage", name := "write", desc := "(I)I" } : Jvm.MethodName)) ∈ tb := tbm (tb1 134 (by decide +kernel)) rfl
theorem tm_1_136 : (Jvm.Cond.methodLink "IdeaCage" (59 : Nat) ({ cls := "IdeaCage$Text", name := "append", desc := "(I)Z" } : Jvm.MethodName)) ∈ tb := tbm (tb1 136 (by decide +kernel)) rfl
theorem tm_1_137 : (Jvm.Cond.instanceMethod ({ cls := "IdeaCage$Text", name := "append", desc := "(I)Z" } : Jvm.MethodName)) ∈ tb := tbm (tb1 137 (by decide +kernel)) rfl
theorem tm_1_138 : (Jvm.Cond.selects "IdeaCage$Text" ({ cls := "IdeaCage$Text", name := "append", desc := "(I)Z" } : Jvm.MethodName) ({ cls := "IdeaCage$Text", name := "append", desc := "(I)Z" } : Jvm.MethodName)) ∈ tb := tbm (tb1 138 (by decide +kernel)) rfl
theorem tm_1_140 : (Jvm.Cond.methodLink "IdeaCageLaw" (18 : Nat) ({ cls := "IdeaCage", name := "wipe", desc := "()I" } : Jvm.MethodName)) ∈ tb := tbm (tb1 140 (by decide +kernel)) rfl
theorem tm_1_141 : (Jvm.Cond.instanceMethod ({ cls := "IdeaCage", name := "wipe", desc := "()I" } : Jvm.MethodName)) ∈ tb := tbm (tb1 141 (by decide +kernel)) rfl
theorem tm_1_142 : (Jvm.Cond.selects "IdeaCage" ({ cls := "IdeaCage", name := "wipe", desc := "()I" } : Jvm.MethodName) ({ cls := "IdeaCage", name := "wipe", desc := "()I" } : Jvm.MethodName)) ∈ tb := tbm (tb1 142 (by decide +kernel)) rfl
theorem tm_1_144 : (Jvm.Cond.methodLink "IdeaCageLaw" (23 : Nat) ({ cls := "IdeaCage", name := "fault", desc := "()I" } : Jvm.MethodName)) ∈ tb := tbm (tb1 144 (by decide +kernel)) rfl
theorem tm_1_145 : (Jvm.Cond.instanceMethod ({ cls := "IdeaCage", name := "fault", desc := "()I" } : Jvm.MethodName)) ∈ tb := tbm (tb1 145 (by decide +kernel)) rfl
theorem tm_1_146 : (Jvm.Cond.selects "IdeaCage" ({ cls := "IdeaCage", name := "fault", desc := "()I" } : Jvm.MethodName) ({ cls := "IdeaCage", name := "fault", desc := "()I" } : Jvm.MethodName)) ∈ tb := tbm (tb1 146 (by decide +kernel)) rfl
theorem tm_1_148 : (Jvm.Cond.methodLink "IdeaCage" (66 : Nat) ({ cls := "IdeaCage$Text", name := "firstFault", desc := "()I" } : Jvm.MethodName)) ∈ tb := tbm (tb1 148 (by decide +kernel)) rfl
theorem tm_1_149 : (Jvm.Cond.instanceMethod ({ cls := "IdeaCage$Text", name := "firstFault", desc := "()I" } : Jvm.MethodName)) ∈ tb := tbm (tb1 149 (by decide +kernel)) rfl
theorem tm_1_150 : (Jvm.Cond.selects "IdeaCage$Text" ({ cls := "IdeaCage$Text", name := "firstFault", desc := "()I" } : Jvm.MethodName) ({ cls := "IdeaCage$Text", name := "firstFault", desc := "()I" } : Jvm.MethodName)) ∈ tb := tbm (tb1 150 (by decide +kernel)) rfl
theorem tm_1_152 : (Jvm.Cond.methodLink "IdeaCage$Text" (19 : Nat) ({ cls := "IdeaCage$Text", name := "letterAt", desc := "(I)I" } : Jvm.MethodName)) ∈ tb := tbm (tb1 152 (by decide +kernel)) rfl
theorem tm_1_153 : (Jvm.Cond.instanceMethod ({ cls := "IdeaCage$Text", name := "letterAt", desc := "(I)I" } : Jvm.MethodName)) ∈ tb := tbm (tb1 153 (by decide +kernel)) rfl
theorem tm_1_154 : (Jvm.Cond.selects "IdeaCage$Text" ({ cls := "IdeaCage$Text", name := "letterAt", desc := "(I)I" } : Jvm.MethodName) ({ cls := "IdeaCage$Text", name := "letterAt", desc := "(I)I" } : Jvm.MethodName)) ∈ tb := tbm (tb1 154 (by decide +kernel)) rfl
theorem tm_1_156 : (Jvm.Cond.methodLink "IdeaCage$Text" (23 : Nat) ({ cls := "IdeaCage$Text", name := "fits", desc := "(III)Z" } : Jvm.MethodName)) ∈ tb := tbm (tb1 156 (by decide +kernel)) rfl
theorem tm_1_157 : (Jvm.Cond.static ({ cls := "IdeaCage$Text", name := "fits", desc := "(III)Z" } : Jvm.MethodName)) ∈ tb := tbm (tb1 157 (by decide +kernel)) rfl
theorem tm_1_159 : (Jvm.Cond.methodLink "IdeaCageLaw" (27 : Nat) ({ cls := "IdeaCage", name := "idea", desc := "()I" } : Jvm.MethodName)) ∈ tb := tbm (tb1 159 (by decide +kernel)) rfl
theorem tm_1_160 : (Jvm.Cond.instanceMethod ({ cls := "IdeaCage", name := "idea", desc := "()I" } : Jvm.MethodName)) ∈ tb := tbm (tb1 160 (by decide +kernel)) rfl
theorem tm_1_161 : (Jvm.Cond.selects "IdeaCage" ({ cls := "IdeaCage", name := "idea", desc := "()I" } : Jvm.MethodName) ({ cls := "IdeaCage", name := "idea", desc := "()I" } : Jvm.MethodName)) ∈ tb := tbm (tb1 161 (by decide +kernel)) rfl
theorem tm_1_163 : (Jvm.Cond.methodLink "IdeaCage" (70 : Nat) ({ cls := "IdeaCage$Plan", name := "learn", desc := "(LIdeaCage$Text;)V" } : Jvm.MethodName)) ∈ tb := tbm (tb1 163 (by decide +kernel)) rfl
theorem tm_1_164 : (Jvm.Cond.instanceMethod ({ cls := "IdeaCage$Plan", name := "learn", desc := "(LIdeaCage$Text;)V" } : Jvm.MethodName)) ∈ tb := tbm (tb1 164 (by decide +kernel)) rfl
theorem tm_1_165 : (Jvm.Cond.selects "IdeaCage$Plan" ({ cls := "IdeaCage$Plan", name := "learn", desc := "(LIdeaCage$Text;)V" } : Jvm.MethodName) ({ cls := "IdeaCage$Plan", name := "learn", desc := "(LIdeaCage$Text;)V" } : Jvm.MethodName)) ∈ tb := tbm (tb1 165 (by decide +kernel)) rfl
theorem tm_1_167 : (Jvm.Cond.methodLink "IdeaCage$Plan" (37 : Nat) ({ cls := "IdeaCage$Text", name := "letterAt", desc := "(I)I" } : Jvm.MethodName)) ∈ tb := tbm (tb1 167 (by decide +kernel)) rfl
theorem tm_1_168 : (Jvm.Cond.methodLink "IdeaCage$Plan" (43 : Nat) ({ cls := "IdeaCage$Text", name := "parts", desc := "()I" } : Jvm.MethodName)) ∈ tb := tbm (tb1 168 (by decide +kernel)) rfl
theorem tm_1_169 : (Jvm.Cond.instanceMethod ({ cls := "IdeaCage$Text", name := "parts", desc := "()I" } : Jvm.MethodName)) ∈ tb := tbm (tb1 169 (by decide +kernel)) rfl
theorem tm_1_170 : (Jvm.Cond.selects "IdeaCage$Text" ({ cls := "IdeaCage$Text", name := "parts", desc := "()I" } : Jvm.MethodName) ({ cls := "IdeaCage$Text", name := "parts", desc := "()I" } : Jvm.MethodName)) ∈ tb := tbm (tb1 170 (by decide +kernel)) rfl
theorem tm_1_172 : (Jvm.Cond.methodLink "IdeaCage$Plan" (46 : Nat) ({ cls := "java/lang/Math", name := "min", desc := "(II)I" } : Jvm.MethodName)) ∈ tb := tbm (tb1 172 (by decide +kernel)) rfl
theorem tm_1_173 : (Jvm.Cond.static ({ cls := "java/lang/Math", name := "min", desc := "(II)I" } : Jvm.MethodName)) ∈ tb := tbm (tb1 173 (by decide +kernel)) rfl
theorem tm_1_175 : (Jvm.Cond.methodLink "IdeaCage$Plan" (52 : Nat) ({ cls := "IdeaCage$Text", name := "cellOfPart", desc := "(I)I" } : Jvm.MethodName)) ∈ tb := tbm (tb1 175 (by decide +kernel)) rfl
theorem tm_1_176 : (Jvm.Cond.instanceMethod ({ cls := "IdeaCage$Text", name := "cellOfPart", desc := "(I)I" } : Jvm.MethodName)) ∈ tb := tbm (tb1 176 (by decide +kernel)) rfl
theorem tm_1_177 : (Jvm.Cond.selects "IdeaCage$Text" ({ cls := "IdeaCage$Text", name := "cellOfPart", desc := "(I)I" } : Jvm.MethodName) ({ cls := "IdeaCage$Text", name := "cellOfPart", desc := "(I)I" } : Jvm.MethodName)) ∈ tb := tbm (tb1 177 (by decide +kernel)) rfl
theorem tm_1_179 : (Jvm.Cond.methodLink "IdeaCage$Plan" (55 : Nat) ({ cls := "IdeaCage$Text", name := "kindOfPart", desc := "(I)I" } : Jvm.MethodName)) ∈ tb := tbm (tb1 179 (by decide +kernel)) rfl
theorem tm_1_180 : (Jvm.Cond.instanceMethod ({ cls := "IdeaCage$Text", name := "kindOfPart", desc := "(I)I" } : Jvm.MethodName)) ∈ tb := tbm (tb1 180 (by decide +kernel)) rfl
theorem tm_1_181 : (Jvm.Cond.selects "IdeaCage$Text" ({ cls := "IdeaCage$Text", name := "kindOfPart", desc := "(I)I" } : Jvm.MethodName) ({ cls := "IdeaCage$Text", name := "kindOfPart", desc := "(I)I" } : Jvm.MethodName)) ∈ tb := tbm (tb1 181 (by decide +kernel)) rfl
theorem tm_1_183 : (Jvm.Cond.methodLink "IdeaCage$Plan" (58 : Nat) ({ cls := "IdeaCage$Plan", name := "cellsOfKind", desc := "(I)I" } : Jvm.MethodName)) ∈ tb := tbm (tb1 183 (by decide +kernel)) rfl
theorem tm_1_184 : (Jvm.Cond.instanceMethod ({ cls := "IdeaCage$Plan", name := "cellsOfKind", desc := "(I)I" } : Jvm.MethodName)) ∈ tb := tbm (tb1 184 (by decide +kernel)) rfl
theorem tm_1_185 : (Jvm.Cond.selects "IdeaCage$Plan" ({ cls := "IdeaCage$Plan", name := "cellsOfKind", desc := "(I)I" } : Jvm.MethodName) ({ cls := "IdeaCage$Plan", name := "cellsOfKind", desc := "(I)I" } : Jvm.MethodName)) ∈ tb := tbm (tb1 185 (by decide +kernel)) rfl
theorem tm_1_187 : (Jvm.Cond.methodLink "IdeaCageLaw" (31 : Nat) ({ cls := "IdeaCage", name := "about", desc := "(I)I" } : Jvm.MethodName)) ∈ tb := tbm (tb1 187 (by decide +kernel)) rfl
theorem tm_1_188 : (Jvm.Cond.instanceMethod ({ cls := "IdeaCage", name := "about", desc := "(I)I" } : Jvm.MethodName)) ∈ tb := tbm (tb1 188 (by decide +kernel)) rfl
theorem tm_1_189 : (Jvm.Cond.selects "IdeaCage" ({ cls := "IdeaCage", name := "about", desc := "(I)I" } : Jvm.MethodName) ({ cls := "IdeaCage", name := "about", desc := "(I)I" } : Jvm.MethodName)) ∈ tb := tbm (tb1 189 (by decide +kernel)) rfl
theorem tm_1_191 : (Jvm.Cond.methodLink "IdeaCage" (83 : Nat) ({ cls := "IdeaCage$Plan", name := "store", desc := "(I)I" } : Jvm.MethodName)) ∈ tb := tbm (tb1 191 (by decide +kernel)) rfl
theorem tm_1_192 : (Jvm.Cond.instanceMethod ({ cls := "IdeaCage$Plan", name := "store", desc := "(I)I" } : Jvm.MethodName)) ∈ tb := tbm (tb1 192 (by decide +kernel)) rfl
theorem tm_1_193 : (Jvm.Cond.selects "IdeaCage$Plan" ({ cls := "IdeaCage$Plan", name := "store", desc := "(I)I" } : Jvm.MethodName) ({ cls := "IdeaCage$Plan", name := "store", desc := "(I)I" } : Jvm.MethodName)) ∈ tb := tbm (tb1 193 (by decide +kernel)) rfl
theorem tm_1_195 : (Jvm.Cond.methodLink "IdeaCage$Plan" (65 : Nat) ({ cls := "IdeaCage$Frame", name := "poles", desc := "(I)I" } : Jvm.MethodName)) ∈ tb := tbm (tb1 195 (by decide +kernel)) rfl
theorem tm_1_196 : (Jvm.Cond.static ({ cls := "IdeaCage$Frame", name := "poles", desc := "(I)I" } : Jvm.MethodName)) ∈ tb := tbm (tb1 196 (by decide +kernel)) rfl
theorem tm_1_198 : (Jvm.Cond.constant "IdeaCage$Frame" (9 : Nat) (65535 : Int32)) ∈ tb := tbm (tb1 198 (by decide +kernel)) rfl
theorem tm_1_199 : (Jvm.Cond.methodLink "IdeaCage$Plan" (69 : Nat) ({ cls := "java/lang/Integer", name := "bitCount", desc := "(I)I" } : Jvm.MethodName)) ∈ tb := tbm (tb1 199 (by decide +kernel)) rfl
theorem tm_1_200 : (Jvm.Cond.static ({ cls := "java/lang/Integer", name := "bitCount", desc := "(I)I" } : Jvm.MethodName)) ∈ tb := tbm (tb1 200 (by decide +kernel)) rfl
theorem tm_1_202 : (Jvm.Cond.constant "java/lang/Integer" (265 : Nat) (1431655765 : Int32)) ∈ tb := tbm (tb1 202 (by decide +kernel)) rfl
theorem tm_1_203 : (Jvm.Cond.constant "java/lang/Integer" (266 : Nat) (858993459 : Int32)) ∈ tb := tbm (tb1 203 (by decide +kernel)) rfl
theorem tm_1_204 : (Jvm.Cond.constant "java/lang/Integer" (267 : Nat) (252645135 : Int32)) ∈ tb := tbm (tb1 204 (by decide +kernel)) rfl
theorem tm_1_205 : (Jvm.Cond.methodLink "IdeaCage" (87 : Nat) ({ cls := "IdeaCage", name := "allPoles", desc := "()I" } : Jvm.MethodName)) ∈ tb := tbm (tb1 205 (by decide +kernel)) rfl
theorem tm_1_207 : (Jvm.Cond.instanceMethod ({ cls := "IdeaCage", name := "allPoles", desc := "()I" } : Jvm.MethodName)) ∈ tb := tbm (tb1 207 (by decide +kernel)) rfl
theorem tm_1_209 : (Jvm.Cond.methodLink "IdeaCage" (112 : Nat) ({ cls := "IdeaCage$Frame", name := "poles", desc := "(I)I" } : Jvm.MethodName)) ∈ tb := tbm (tb1 209 (by decide +kernel)) rfl
theorem tm_1_210 : (Jvm.Cond.methodLink "IdeaCage" (176 : Nat) ({ cls := "java/lang/Integer", name := "bitCount", desc := "(I)I" } : Jvm.MethodName)) ∈ tb := tbm (tb1 210 (by decide +kernel)) rfl
theorem tm_1_211 : (Jvm.Cond.methodLink "IdeaCage" (90 : Nat) ({ cls := "IdeaCage$Frame", name := "had", desc := "(I)I" } : Jvm.MethodName)) ∈ tb := tbm (tb1 211 (by decide +kernel)) rfl
theorem tm_1_212 : (Jvm.Cond.static ({ cls := "IdeaCage$Frame", name := "had", desc := "(I)I" } : Jvm.MethodName)) ∈ tb := tbm (tb1 212 (by decide +kernel)) rfl
theorem tm_1_214 : (Jvm.Cond.methodLink "IdeaCage" (95 : Nat) ({ cls := "IdeaCage$Plan", name := "partsAt", desc := "(I)I" } : Jvm.MethodName)) ∈ tb := tbm (tb1 214 (by decide +kernel)) rfl
theorem tm_1_215 : (Jvm.Cond.instanceMethod ({ cls := "IdeaCage$Plan", name := "partsAt", desc := "(I)I" } : Jvm.MethodName)) ∈ tb := tbm (tb1 215 (by decide +kernel)) rfl
theorem tm_1_216 : (Jvm.Cond.selects "IdeaCage$Plan" ({ cls := "IdeaCage$Plan", name := "partsAt", desc := "(I)I" } : Jvm.MethodName) ({ cls := "IdeaCage$Plan", name := "partsAt", desc := "(I)I" } : Jvm.MethodName)) ∈ tb := tbm (tb1 216 (by decide +kernel)) rfl
theorem tm_1_218 : (Jvm.Cond.methodLink "IdeaCage" (98 : Nat) ({ cls := "IdeaCage$Plan", name := "standing", desc := "(II)I" } : Jvm.MethodName)) ∈ tb := tbm (tb1 218 (by decide +kernel)) rfl
theorem tm_1_219 : (Jvm.Cond.instanceMethod ({ cls := "IdeaCage$Plan", name := "standing", desc := "(II)I" } : Jvm.MethodName)) ∈ tb := tbm (tb1 219 (by decide +kernel)) rfl
theorem tm_1_220 : (Jvm.Cond.selects "IdeaCage$Plan" ({ cls := "IdeaCage$Plan", name := "standing", desc := "(II)I" } : Jvm.MethodName) ({ cls := "IdeaCage$Plan", name := "standing", desc := "(II)I" } : Jvm.MethodName)) ∈ tb := tbm (tb1 220 (by decide +kernel)) rfl
theorem tm_1_222 : (Jvm.Cond.methodLink "IdeaCage$Plan" (95 : Nat) ({ cls := "IdeaCage$Plan", name := "carriedBy", desc := "(I)I" } : Jvm.MethodName)) ∈ tb := tbm (tb1 222 (by decide +kernel)) rfl
theorem tm_1_223 : (Jvm.Cond.instanceMethod ({ cls := "IdeaCage$Plan", name := "carriedBy", desc := "(I)I" } : Jvm.MethodName)) ∈ tb := tbm (tb1 223 (by decide +kernel)) rfl
theorem tm_1_224 : (Jvm.Cond.selects "IdeaCage$Plan" ({ cls := "IdeaCage$Plan", name := "carriedBy", desc := "(I)I" } : Jvm.MethodName) ({ cls := "IdeaCage$Plan", name := "carriedBy", desc := "(I)I" } : Jvm.MethodName)) ∈ tb := tbm (tb1 224 (by decide +kernel)) rfl
theorem tm_1_226 : (Jvm.Cond.constant "IdeaCage$Plan" (98 : Nat) (-34953 : Int32)) ∈ tb := tbm (tb1 226 (by decide +kernel)) rfl
theorem tm_1_227 : (Jvm.Cond.methodLink "IdeaCageLaw" (35 : Nat) ({ cls := "IdeaCage", name := "part", desc := "(II)I" } : Jvm.MethodName)) ∈ tb := tbm (tb1 227 (by decide +kernel)) rfl
theorem tm_1_228 : (Jvm.Cond.instanceMethod ({ cls := "IdeaCage", name := "part", desc := "(II)I" } : Jvm.MethodName)) ∈ tb := tbm (tb1 228 (by decide +kernel)) rfl
theorem tm_1_229 : (Jvm.Cond.selects "IdeaCage" ({ cls := "IdeaCage", name := "part", desc := "(II)I" } : Jvm.MethodName) ({ cls := "IdeaCage", name := "part", desc := "(II)I" } : Jvm.MethodName)) ∈ tb := tbm (tb1 229 (by decide +kernel)) rfl
theorem tm_1_231 : (Jvm.Cond.methodLink "IdeaCage" (103 : Nat) ({ cls := "IdeaCage$Plan", name := "isPart", desc := "(I)Z" } : Jvm.MethodName)) ∈ tb := tbm (tb1 231 (by decide +kernel)) rfl
theorem tm_1_232 : (Jvm.Cond.instanceMethod ({ cls := "IdeaCage$Plan", name := "isPart", desc := "(I)Z" } : Jvm.MethodName)) ∈ tb := tbm (tb1 232 (by decide +kernel)) rfl
theorem tm_1_233 : (Jvm.Cond.selects "IdeaCage$Plan" ({ cls := "IdeaCage$Plan", name := "isPart", desc := "(I)Z" } : Jvm.MethodName) ({ cls := "IdeaCage$Plan", name := "isPart", desc := "(I)Z" } : Jvm.MethodName)) ∈ tb := tbm (tb1 233 (by decide +kernel)) rfl
theorem tm_1_235 : (Jvm.Cond.methodLink "IdeaCage" (106 : Nat) ({ cls := "IdeaCage$Plan", name := "cellOf", desc := "(I)I" } : Jvm.MethodName)) ∈ tb := tbm (tb1 235 (by decide +kernel)) rfl
theorem tm_1_236 : (Jvm.Cond.instanceMethod ({ cls := "IdeaCage$Plan", name := "cellOf", desc := "(I)I" } : Jvm.MethodName)) ∈ tb := tbm (tb1 236 (by decide +kernel)) rfl
theorem tm_1_237 : (Jvm.Cond.selects "IdeaCage$Plan" ({ cls := "IdeaCage$Plan", name := "cellOf", desc := "(I)I" } : Jvm.MethodName) ({ cls := "IdeaCage$Plan", name := "cellOf", desc := "(I)I" } : Jvm.MethodName)) ∈ tb := tbm (tb1 237 (by decide +kernel)) rfl
theorem tm_1_239 : (Jvm.Cond.methodLink "IdeaCage$Plan" (61 : Nat) ({ cls := "IdeaCage$Plan", name := "isPart", desc := "(I)Z" } : Jvm.MethodName)) ∈ tb := tbm (tb1 239 (by decide +kernel)) rfl
theorem tm_2_0 : (Jvm.Cond.methodLink "IdeaCage" (109 : Nat) ({ cls := "IdeaCage$Plan", name := "kindOf", desc := "(I)I" } : Jvm.MethodName)) ∈ tb := tbm (tb2 0 (by decide +kernel)) rfl
theorem tm_2_1 : (Jvm.Cond.instanceMethod ({ cls := "IdeaCage$Plan", name := "kindOf", desc := "(I)I" } : Jvm.MethodName)) ∈ tb := tbm (tb2 1 (by decide +kernel)) rfl
theorem tm_2_2 : (Jvm.Cond.selects "IdeaCage$Plan" ({ cls := "IdeaCage$Plan", name := "kindOf", desc := "(I)I" } : Jvm.MethodName) ({ cls := "IdeaCage$Plan", name := "kindOf", desc := "(I)I" } : Jvm.MethodName)) ∈ tb := tbm (tb2 2 (by decide +kernel)) rfl
theorem tm_2_4 : (Jvm.Cond.methodLink "IdeaCageLaw" (40 : Nat) ({ cls := "IdeaCage", name := "column", desc := "(I)I" } : Jvm.MethodName)) ∈ tb := tbm (tb2 4 (by decide +kernel)) rfl
theorem tm_2_5 : (Jvm.Cond.instanceMethod ({ cls := "IdeaCage", name := "column", desc := "(I)I" } : Jvm.MethodName)) ∈ tb := tbm (tb2 5 (by decide +kernel)) rfl
theorem tm_2_6 : (Jvm.Cond.selects "IdeaCage" ({ cls := "IdeaCage", name := "column", desc := "(I)I" } : Jvm.MethodName) ({ cls := "IdeaCage", name := "column", desc := "(I)I" } : Jvm.MethodName)) ∈ tb := tbm (tb2 6 (by decide +kernel)) rfl
theorem tm_2_8 : (Jvm.Cond.methodLink "IdeaCage" (114 : Nat) ({ cls := "IdeaCage", name := "isColumn", desc := "(I)Z" } : Jvm.MethodName)) ∈ tb := tbm (tb2 8 (by decide +kernel)) rfl
theorem tm_2_9 : (Jvm.Cond.static ({ cls := "IdeaCage", name := "isColumn", desc := "(I)Z" } : Jvm.MethodName)) ∈ tb := tbm (tb2 9 (by decide +kernel)) rfl
theorem tm_2_11 : (Jvm.Cond.methodLink "IdeaCage" (117 : Nat) ({ cls := "IdeaCage$Frame", name := "height", desc := "(II)I" } : Jvm.MethodName)) ∈ tb := tbm (tb2 11 (by decide +kernel)) rfl
theorem tm_2_12 : (Jvm.Cond.static ({ cls := "IdeaCage$Frame", name := "height", desc := "(II)I" } : Jvm.MethodName)) ∈ tb := tbm (tb2 12 (by decide +kernel)) rfl
theorem tm_2_14 : (Jvm.Cond.methodLink "IdeaCage$Frame" (21 : Nat) ({ cls := "IdeaCage$Frame", name := "poles", desc := "(I)I" } : Jvm.MethodName)) ∈ tb := tbm (tb2 14 (by decide +kernel)) rfl
theorem tm_2_15 : (Jvm.Cond.methodLink "IdeaCage$Frame" (16 : Nat) ({ cls := "java/lang/Integer", name := "bitCount", desc := "(I)I" } : Jvm.MethodName)) ∈ tb := tbm (tb2 15 (by decide +kernel)) rfl
theorem tm_2_16 : (Jvm.Cond.methodLink "IdeaCageLaw" (44 : Nat) ({ cls := "IdeaCage", name := "at", desc := "(I)I" } : Jvm.MethodName)) ∈ tb := tbm (tb2 16 (by decide +kernel)) rfl
theorem tm_2_17 : (Jvm.Cond.instanceMethod ({ cls := "IdeaCage", name := "at", desc := "(I)I" } : Jvm.MethodName)) ∈ tb := tbm (tb2 17 (by decide +kernel)) rfl
theorem tm_2_18 : (Jvm.Cond.selects "IdeaCage" ({ cls := "IdeaCage", name := "at", desc := "(I)I" } : Jvm.MethodName) ({ cls := "IdeaCage", name := "at", desc := "(I)I" } : Jvm.MethodName)) ∈ tb := tbm (tb2 18 (by decide +kernel)) rfl
theorem tm_2_20 : (Jvm.Cond.methodLink "IdeaCage" (120 : Nat) ({ cls := "IdeaCage$Plan", name := "partIn", desc := "(I)I" } : Jvm.MethodName)) ∈ tb := tbm (tb2 20 (by decide +kernel)) rfl
theorem tm_2_21 : (Jvm.Cond.instanceMethod ({ cls := "IdeaCage$Plan", name := "partIn", desc := "(I)I" } : Jvm.MethodName)) ∈ tb := tbm (tb2 21 (by decide +kernel)) rfl
theorem tm_2_22 : (Jvm.Cond.selects "IdeaCage$Plan" ({ cls := "IdeaCage$Plan", name := "partIn", desc := "(I)I" } : Jvm.MethodName) ({ cls := "IdeaCage$Plan", name := "partIn", desc := "(I)I" } : Jvm.MethodName)) ∈ tb := tbm (tb2 22 (by decide +kernel)) rfl
theorem tm_2_24 : (Jvm.Cond.methodLink "IdeaCageLaw" (48 : Nat) ({ cls := "IdeaCage", name := "put", desc := "(I)I" } : Jvm.MethodName)) ∈ tb := tbm (tb2 24 (by decide +kernel)) rfl
theorem tm_2_25 : (Jvm.Cond.instanceMethod ({ cls := "IdeaCage", name := "put", desc := "(I)I" } : Jvm.MethodName)) ∈ tb := tbm (tb2 25 (by decide +kernel)) rfl
theorem tm_2_26 : (Jvm.Cond.selects "IdeaCage" ({ cls := "IdeaCage", name := "put", desc := "(I)I" } : Jvm.MethodName) ({ cls := "IdeaCage", name := "put", desc := "(I)I" } : Jvm.MethodName)) ∈ tb := tbm (tb2 26 (by decide +kernel)) rfl
theorem tm_2_28 : (Jvm.Cond.methodLink "IdeaCage" (123 : Nat) ({ cls := "IdeaCage$Acts", name := "remember", desc := "(II)V" } : Jvm.MethodName)) ∈ tb := tbm (tb2 28 (by decide +kernel)) rfl
theorem tm_2_29 : (Jvm.Cond.instanceMethod ({ cls := "IdeaCage$Acts", name := "remember", desc := "(II)V" } : Jvm.MethodName)) ∈ tb := tbm (tb2 29 (by decide +kernel)) rfl
theorem tm_2_30 : (Jvm.Cond.selects "IdeaCage$Acts" ({ cls := "IdeaCage$Acts", name := "remember", desc := "(II)V" } : Jvm.MethodName) ({ cls := "IdeaCage$Acts", name := "remember", desc := "(II)V" } : Jvm.MethodName)) ∈ tb := tbm (tb2 30 (by decide +kernel)) rfl
theorem tm_2_32 : (Jvm.Cond.methodLink "IdeaCage$Acts" (20 : Nat) ({ cls := "IdeaCage$Acts", name := "forgetFirst", desc := "()V" } : Jvm.MethodName)) ∈ tb := tbm (tb2 32 (by decide +kernel)) rfl
theorem tm_2_33 : (Jvm.Cond.instanceMethod ({ cls := "IdeaCage$Acts", name := "forgetFirst", desc := "()V" } : Jvm.MethodName)) ∈ tb := tbm (tb2 33 (by decide +kernel)) rfl
theorem tm_2_34 : (Jvm.Cond.selects "IdeaCage$Acts" ({ cls := "IdeaCage$Acts", name := "forgetFirst", desc := "()V" } : Jvm.MethodName) ({ cls := "IdeaCage$Acts", name := "forgetFirst", desc := "()V" } : Jvm.MethodName)) ∈ tb := tbm (tb2 34 (by decide +kernel)) rfl
theorem tm_2_36 : (Jvm.Cond.methodLink "IdeaCage" (127 : Nat) ({ cls := "IdeaCage$Plan", name := "withPut", desc := "(II)I" } : Jvm.MethodName)) ∈ tb := tbm (tb2 36 (by decide +kernel)) rfl
theorem tm_2_37 : (Jvm.Cond.instanceMethod ({ cls := "IdeaCage$Plan", name := "withPut", desc := "(II)I" } : Jvm.MethodName)) ∈ tb := tbm (tb2 37 (by decide +kernel)) rfl
theorem tm_2_38 : (Jvm.Cond.selects "IdeaCage$Plan" ({ cls := "IdeaCage$Plan", name := "withPut", desc := "(II)I" } : Jvm.MethodName) ({ cls := "IdeaCage$Plan", name := "withPut", desc := "(II)I" } : Jvm.MethodName)) ∈ tb := tbm (tb2 38 (by decide +kernel)) rfl
theorem tm_2_40 : (Jvm.Cond.methodLink "IdeaCage$Plan" (77 : Nat) ({ cls := "IdeaCage$Frame", name := "height", desc := "(II)I" } : Jvm.MethodName)) ∈ tb := tbm (tb2 40 (by decide +kernel)) rfl
theorem tm_2_41 : (Jvm.Cond.methodLink "IdeaCage$Plan" (80 : Nat) ({ cls := "IdeaCage$Frame", name := "cellBit", desc := "(II)I" } : Jvm.MethodName)) ∈ tb := tbm (tb2 41 (by decide +kernel)) rfl
theorem tm_2_42 : (Jvm.Cond.static ({ cls := "IdeaCage$Frame", name := "cellBit", desc := "(II)I" } : Jvm.MethodName)) ∈ tb := tbm (tb2 42 (by decide +kernel)) rfl
theorem tm_2_44 : (Jvm.Cond.methodLink "IdeaCage$Plan" (83 : Nat) ({ cls := "IdeaCage$Frame", name := "had", desc := "(I)I" } : Jvm.MethodName)) ∈ tb := tbm (tb2 44 (by decide +kernel)) rfl
theorem tm_2_45 : (Jvm.Cond.methodLink "IdeaCage$Plan" (86 : Nat) ({ cls := "IdeaCage$Frame", name := "of", desc := "(II)I" } : Jvm.MethodName)) ∈ tb := tbm (tb2 45 (by decide +kernel)) rfl
theorem tm_2_46 : (Jvm.Cond.static ({ cls := "IdeaCage$Frame", name := "of", desc := "(II)I" } : Jvm.MethodName)) ∈ tb := tbm (tb2 46 (by decide +kernel)) rfl
theorem tm_2_48 : (Jvm.Cond.methodLink "IdeaCage" (130 : Nat) ({ cls := "IdeaCage$Frame", name := "countHad", desc := "(I)I" } : Jvm.MethodName)) ∈ tb := tbm (tb2 48 (by decide +kernel)) rfl
theorem tm_2_49 : (Jvm.Cond.static ({ cls := "IdeaCage$Frame", name := "countHad", desc := "(I)I" } : Jvm.MethodName)) ∈ tb := tbm (tb2 49 (by decide +kernel)) rfl
theorem tm_2_51 : (Jvm.Cond.methodLink "IdeaCage$Frame" (10 : Nat) ({ cls := "IdeaCage$Frame", name := "had", desc := "(I)I" } : Jvm.MethodName)) ∈ tb := tbm (tb2 51 (by decide +kernel)) rfl
theorem tm_2_52 : (Jvm.Cond.methodLink "IdeaCageLaw" (52 : Nat) ({ cls := "IdeaCage", name := "strike", desc := "(I)I" } : Jvm.MethodName)) ∈ tb := tbm (tb2 52 (by decide +kernel)) rfl
theorem tm_2_53 : (Jvm.Cond.instanceMethod ({ cls := "IdeaCage", name := "strike", desc := "(I)I" } : Jvm.MethodName)) ∈ tb := tbm (tb2 53 (by decide +kernel)) rfl
theorem tm_2_54 : (Jvm.Cond.selects "IdeaCage" ({ cls := "IdeaCage", name := "strike", desc := "(I)I" } : Jvm.MethodName) ({ cls := "IdeaCage", name := "strike", desc := "(I)I" } : Jvm.MethodName)) ∈ tb := tbm (tb2 54 (by decide +kernel)) rfl
theorem tm_2_56 : (Jvm.Cond.methodLink "IdeaCage" (133 : Nat) ({ cls := "IdeaCage$Plan", name := "canStrike", desc := "(II)Z" } : Jvm.MethodName)) ∈ tb := tbm (tb2 56 (by decide +kernel)) rfl
theorem tm_2_57 : (Jvm.Cond.instanceMethod ({ cls := "IdeaCage$Plan", name := "canStrike", desc := "(II)Z" } : Jvm.MethodName)) ∈ tb := tbm (tb2 57 (by decide +kernel)) rfl
theorem tm_2_58 : (Jvm.Cond.selects "IdeaCage$Plan" ({ cls := "IdeaCage$Plan", name := "canStrike", desc := "(II)Z" } : Jvm.MethodName) ({ cls := "IdeaCage$Plan", name := "canStrike", desc := "(II)Z" } : Jvm.MethodName)) ∈ tb := tbm (tb2 58 (by decide +kernel)) rfl
theorem tm_2_60 : (Jvm.Cond.methodLink "IdeaCage" (137 : Nat) ({ cls := "IdeaCage$Plan", name := "withStruck", desc := "(II)I" } : Jvm.MethodName)) ∈ tb := tbm (tb2 60 (by decide +kernel)) rfl
theorem tm_2_61 : (Jvm.Cond.instanceMethod ({ cls := "IdeaCage$Plan", name := "withStruck", desc := "(II)I" } : Jvm.MethodName)) ∈ tb := tbm (tb2 61 (by decide +kernel)) rfl
theorem tm_2_62 : (Jvm.Cond.selects "IdeaCage$Plan" ({ cls := "IdeaCage$Plan", name := "withStruck", desc := "(II)I" } : Jvm.MethodName) ({ cls := "IdeaCage$Plan", name := "withStruck", desc := "(II)I" } : Jvm.MethodName)) ∈ tb := tbm (tb2 62 (by decide +kernel)) rfl
theorem tm_2_64 : (Jvm.Cond.methodLink "IdeaCage$Plan" (89 : Nat) ({ cls := "IdeaCage$Plan", name := "standing", desc := "(II)I" } : Jvm.MethodName)) ∈ tb := tbm (tb2 64 (by decide +kernel)) rfl
theorem tm_2_65 : (Jvm.Cond.methodLink "IdeaCageLaw" (56 : Nat) ({ cls := "IdeaCage", name := "rain", desc := "()I" } : Jvm.MethodName)) ∈ tb := tbm (tb2 65 (by decide +kernel)) rfl
theorem tm_2_66 : (Jvm.Cond.instanceMethod ({ cls := "IdeaCage", name := "rain", desc := "()I" } : Jvm.MethodName)) ∈ tb := tbm (tb2 66 (by decide +kernel)) rfl
theorem tm_2_67 : (Jvm.Cond.selects "IdeaCage" ({ cls := "IdeaCage", name := "rain", desc := "()I" } : Jvm.MethodName) ({ cls := "IdeaCage", name := "rain", desc := "()I" } : Jvm.MethodName)) ∈ tb := tbm (tb2 67 (by decide +kernel)) rfl
theorem tm_2_69 : (Jvm.Cond.methodLink "IdeaCage" (140 : Nat) ({ cls := "IdeaCage$Plan", name := "withRain", desc := "(I)I" } : Jvm.MethodName)) ∈ tb := tbm (tb2 69 (by decide +kernel)) rfl
theorem tm_2_70 : (Jvm.Cond.instanceMethod ({ cls := "IdeaCage$Plan", name := "withRain", desc := "(I)I" } : Jvm.MethodName)) ∈ tb := tbm (tb2 70 (by decide +kernel)) rfl
theorem tm_2_71 : (Jvm.Cond.selects "IdeaCage$Plan" ({ cls := "IdeaCage$Plan", name := "withRain", desc := "(I)I" } : Jvm.MethodName) ({ cls := "IdeaCage$Plan", name := "withRain", desc := "(I)I" } : Jvm.MethodName)) ∈ tb := tbm (tb2 71 (by decide +kernel)) rfl
theorem tm_2_73 : (Jvm.Cond.methodLink "IdeaCageLaw" (60 : Nat) ({ cls := "IdeaCage", name := "undo", desc := "()I" } : Jvm.MethodName)) ∈ tb := tbm (tb2 73 (by decide +kernel)) rfl
theorem tm_2_74 : (Jvm.Cond.instanceMethod ({ cls := "IdeaCage", name := "undo", desc := "()I" } : Jvm.MethodName)) ∈ tb := tbm (tb2 74 (by decide +kernel)) rfl
theorem tm_2_75 : (Jvm.Cond.selects "IdeaCage" ({ cls := "IdeaCage", name := "undo", desc := "()I" } : Jvm.MethodName) ({ cls := "IdeaCage", name := "undo", desc := "()I" } : Jvm.MethodName)) ∈ tb := tbm (tb2 75 (by decide +kernel)) rfl
theorem tm_2_77 : (Jvm.Cond.methodLink "IdeaCage" (143 : Nat) ({ cls := "IdeaCage$Acts", name := "lastFrame", desc := "()I" } : Jvm.MethodName)) ∈ tb := tbm (tb2 77 (by decide +kernel)) rfl
theorem tm_2_78 : (Jvm.Cond.instanceMethod ({ cls := "IdeaCage$Acts", name := "lastFrame", desc := "()I" } : Jvm.MethodName)) ∈ tb := tbm (tb2 78 (by decide +kernel)) rfl
theorem tm_2_79 : (Jvm.Cond.selects "IdeaCage$Acts" ({ cls := "IdeaCage$Acts", name := "lastFrame", desc := "()I" } : Jvm.MethodName) ({ cls := "IdeaCage$Acts", name := "lastFrame", desc := "()I" } : Jvm.MethodName)) ∈ tb := tbm (tb2 79 (by decide +kernel)) rfl
theorem tm_2_81 : (Jvm.Cond.methodLink "IdeaCage" (146 : Nat) ({ cls := "IdeaCage$Acts", name := "lastRains", desc := "()I" } : Jvm.MethodName)) ∈ tb := tbm (tb2 81 (by decide +kernel)) rfl
theorem tm_2_82 : (Jvm.Cond.instanceMethod ({ cls := "IdeaCage$Acts", name := "lastRains", desc := "()I" } : Jvm.MethodName)) ∈ tb := tbm (tb2 82 (by decide +kernel)) rfl
theorem tm_2_83 : (Jvm.Cond.selects "IdeaCage$Acts" ({ cls := "IdeaCage$Acts", name := "lastRains", desc := "()I" } : Jvm.MethodName) ({ cls := "IdeaCage$Acts", name := "lastRains", desc := "()I" } : Jvm.MethodName)) ∈ tb := tbm (tb2 83 (by decide +kernel)) rfl
theorem tm_2_85 : (Jvm.Cond.methodLink "IdeaCageLaw" (64 : Nat) ({ cls := "IdeaCage", name := "loses", desc := "(I)I" } : Jvm.MethodName)) ∈ tb := tbm (tb2 85 (by decide +kernel)) rfl
theorem tm_2_86 : (Jvm.Cond.instanceMethod ({ cls := "IdeaCage", name := "loses", desc := "(I)I" } : Jvm.MethodName)) ∈ tb := tbm (tb2 86 (by decide +kernel)) rfl
theorem tm_2_87 : (Jvm.Cond.selects "IdeaCage" ({ cls := "IdeaCage", name := "loses", desc := "(I)I" } : Jvm.MethodName) ({ cls := "IdeaCage", name := "loses", desc := "(I)I" } : Jvm.MethodName)) ∈ tb := tbm (tb2 87 (by decide +kernel)) rfl
theorem tm_2_89 : (Jvm.Cond.methodLink "IdeaCageLaw" (68 : Nat) ({ cls := "IdeaCage", name := "down", desc := "(I)I" } : Jvm.MethodName)) ∈ tb := tbm (tb2 89 (by decide +kernel)) rfl
theorem tm_2_90 : (Jvm.Cond.instanceMethod ({ cls := "IdeaCage", name := "down", desc := "(I)I" } : Jvm.MethodName)) ∈ tb := tbm (tb2 90 (by decide +kernel)) rfl
theorem tm_2_91 : (Jvm.Cond.selects "IdeaCage" ({ cls := "IdeaCage", name := "down", desc := "(I)I" } : Jvm.MethodName) ({ cls := "IdeaCage", name := "down", desc := "(I)I" } : Jvm.MethodName)) ∈ tb := tbm (tb2 91 (by decide +kernel)) rfl
theorem tm_2_93 : (Jvm.Cond.methodLink "IdeaCageLaw" (72 : Nat) ({ cls := "IdeaCage", name := "soon", desc := "(II)I" } : Jvm.MethodName)) ∈ tb := tbm (tb2 93 (by decide +kernel)) rfl
theorem tm_2_94 : (Jvm.Cond.instanceMethod ({ cls := "IdeaCage", name := "soon", desc := "(II)I" } : Jvm.MethodName)) ∈ tb := tbm (tb2 94 (by decide +kernel)) rfl
theorem tm_2_95 : (Jvm.Cond.selects "IdeaCage" ({ cls := "IdeaCage", name := "soon", desc := "(II)I" } : Jvm.MethodName) ({ cls := "IdeaCage", name := "soon", desc := "(II)I" } : Jvm.MethodName)) ∈ tb := tbm (tb2 95 (by decide +kernel)) rfl
theorem tm_2_97 : (Jvm.Cond.methodLink "IdeaCage" (149 : Nat) ({ cls := "IdeaCage", name := "isCountOrFirst", desc := "(I)Z" } : Jvm.MethodName)) ∈ tb := tbm (tb2 97 (by decide +kernel)) rfl
theorem tm_2_98 : (Jvm.Cond.static ({ cls := "IdeaCage", name := "isCountOrFirst", desc := "(I)Z" } : Jvm.MethodName)) ∈ tb := tbm (tb2 98 (by decide +kernel)) rfl
theorem tm_2_100 : (Jvm.Cond.methodLink "IdeaCage" (152 : Nat) ({ cls := "IdeaCage$Plan", name := "cellsOf", desc := "(I)I" } : Jvm.MethodName)) ∈ tb := tbm (tb2 100 (by decide +kernel)) rfl
theorem tm_2_101 : (Jvm.Cond.instanceMethod ({ cls := "IdeaCage$Plan", name := "cellsOf", desc := "(I)I" } : Jvm.MethodName)) ∈ tb := tbm (tb2 101 (by decide +kernel)) rfl
theorem tm_2_102 : (Jvm.Cond.selects "IdeaCage$Plan" ({ cls := "IdeaCage$Plan", name := "cellsOf", desc := "(I)I" } : Jvm.MethodName) ({ cls := "IdeaCage$Plan", name := "cellsOf", desc := "(I)I" } : Jvm.MethodName)) ∈ tb := tbm (tb2 102 (by decide +kernel)) rfl
theorem tm_2_104 : (Jvm.Cond.methodLink "IdeaCage" (155 : Nat) ({ cls := "IdeaCage", name := "leastRow", desc := "(LIdeaCage$Plan;III)I" } : Jvm.MethodName)) ∈ tb := tbm (tb2 104 (by decide +kernel)) rfl
theorem tm_2_105 : (Jvm.Cond.static ({ cls := "IdeaCage", name := "leastRow", desc := "(LIdeaCage$Plan;III)I" } : Jvm.MethodName)) ∈ tb := tbm (tb2 105 (by decide +kernel)) rfl
theorem tm_2_107 : (Jvm.Cond.methodLink "IdeaCage" (217 : Nat) ({ cls := "IdeaCage", name := "downToGround", desc := "(I)I" } : Jvm.MethodName)) ∈ tb := tbm (tb2 107 (by decide +kernel)) rfl
theorem tm_2_108 : (Jvm.Cond.static ({ cls := "IdeaCage", name := "downToGround", desc := "(I)I" } : Jvm.MethodName)) ∈ tb := tbm (tb2 108 (by decide +kernel)) rfl
theorem tm_2_110 : (Jvm.Cond.methodLink "IdeaCage" (220 : Nat) ({ cls := "IdeaCage$Plan", name := "canPut", desc := "(II)Z" } : Jvm.MethodName)) ∈ tb := tbm (tb2 110 (by decide +kernel)) rfl
theorem tm_2_111 : (Jvm.Cond.instanceMethod ({ cls := "IdeaCage$Plan", name := "canPut", desc := "(II)Z" } : Jvm.MethodName)) ∈ tb := tbm (tb2 111 (by decide +kernel)) rfl
theorem tm_2_112 : (Jvm.Cond.selects "IdeaCage$Plan" ({ cls := "IdeaCage$Plan", name := "canPut", desc := "(II)Z" } : Jvm.MethodName) ({ cls := "IdeaCage$Plan", name := "canPut", desc := "(II)Z" } : Jvm.MethodName)) ∈ tb := tbm (tb2 112 (by decide +kernel)) rfl
theorem tm_2_114 : (Jvm.Cond.methodLink "IdeaCage$Plan" (74 : Nat) ({ cls := "IdeaCage$Plan", name := "store", desc := "(I)I" } : Jvm.MethodName)) ∈ tb := tbm (tb2 114 (by decide +kernel)) rfl
theorem tm_2_115 : (Jvm.Cond.methodLink "IdeaCage" (159 : Nat) ({ cls := "IdeaCage", name := "powerOfTen", desc := "(I)J" } : Jvm.MethodName)) ∈ tb := tbm (tb2 115 (by decide +kernel)) rfl
theorem tm_2_116 : (Jvm.Cond.static ({ cls := "IdeaCage", name := "powerOfTen", desc := "(I)J" } : Jvm.MethodName)) ∈ tb := tbm (tb2 116 (by decide +kernel)) rfl
theorem tm_2_118 : (Jvm.Cond.constantLong "IdeaCage" (239 : Nat) (10 : Int64)) ∈ tb := tbm (tb2 118 (by decide +kernel)) rfl
theorem tm_2_119 : (Jvm.Cond.methodLink "IdeaCageLaw" (78 : Nat) ({ cls := "IdeaCage", name := "judge", desc := "(IJ)I" } : Jvm.MethodName)) ∈ tb := tbm (tb2 119 (by decide +kernel)) rfl
theorem tm_2_120 : (Jvm.Cond.instanceMethod ({ cls := "IdeaCage", name := "judge", desc := "(IJ)I" } : Jvm.MethodName)) ∈ tb := tbm (tb2 120 (by decide +kernel)) rfl
theorem tm_2_121 : (Jvm.Cond.selects "IdeaCage" ({ cls := "IdeaCage", name := "judge", desc := "(IJ)I" } : Jvm.MethodName) ({ cls := "IdeaCage", name := "judge", desc := "(IJ)I" } : Jvm.MethodName)) ∈ tb := tbm (tb2 121 (by decide +kernel)) rfl
theorem tm_2_123 : (Jvm.Cond.methodLink "IdeaCage" (163 : Nat) ({ cls := "IdeaCage", name := "doingFromEnd", desc := "(JI)I" } : Jvm.MethodName)) ∈ tb := tbm (tb2 123 (by decide +kernel)) rfl
theorem tm_2_124 : (Jvm.Cond.static ({ cls := "IdeaCage", name := "doingFromEnd", desc := "(JI)I" } : Jvm.MethodName)) ∈ tb := tbm (tb2 124 (by decide +kernel)) rfl
theorem tm_2_126 : (Jvm.Cond.constantLong "IdeaCage" (223 : Nat) (1000 : Int64)) ∈ tb := tbm (tb2 126 (by decide +kernel)) rfl
theorem tm_2_127 : (Jvm.Cond.methodLink "IdeaCage" (167 : Nat) ({ cls := "IdeaCage", name := "canBe", desc := "(II)Z" } : Jvm.MethodName)) ∈ tb := tbm (tb2 127 (by decide +kernel)) rfl
theorem tm_2_129 : (Jvm.Cond.instanceMethod ({ cls := "IdeaCage", name := "canBe", desc := "(II)Z" } : Jvm.MethodName)) ∈ tb := tbm (tb2 129 (by decide +kernel)) rfl
theorem tm_2_131 : (Jvm.Cond.methodLink "IdeaCage" (170 : Nat) ({ cls := "IdeaCage", name := "withDoing", desc := "(II)I" } : Jvm.MethodName)) ∈ tb := tbm (tb2 131 (by decide +kernel)) rfl
theorem tm_2_133 : (Jvm.Cond.instanceMethod ({ cls := "IdeaCage", name := "withDoing", desc := "(II)I" } : Jvm.MethodName)) ∈ tb := tbm (tb2 133 (by decide +kernel)) rfl
theorem tm_2_135 : (Jvm.Cond.methodLink "IdeaCageLaw" (83 : Nat) ({ cls := "IdeaCage", name := "share", desc := "(IZ)I" } : Jvm.MethodName)) ∈ tb := tbm (tb2 135 (by decide +kernel)) rfl
theorem tm_2_136 : (Jvm.Cond.instanceMethod ({ cls := "IdeaCage", name := "share", desc := "(IZ)I" } : Jvm.MethodName)) ∈ tb := tbm (tb2 136 (by decide +kernel)) rfl
theorem tm_2_137 : (Jvm.Cond.selects "IdeaCage" ({ cls := "IdeaCage", name := "share", desc := "(IZ)I" } : Jvm.MethodName) ({ cls := "IdeaCage", name := "share", desc := "(IZ)I" } : Jvm.MethodName)) ∈ tb := tbm (tb2 137 (by decide +kernel)) rfl
theorem tm_2_139 : (Jvm.Cond.methodLink "IdeaCage" (173 : Nat) ({ cls := "IdeaCage$Plan", name := "countStanding", desc := "(I)I" } : Jvm.MethodName)) ∈ tb := tbm (tb2 139 (by decide +kernel)) rfl
theorem tm_2_140 : (Jvm.Cond.instanceMethod ({ cls := "IdeaCage$Plan", name := "countStanding", desc := "(I)I" } : Jvm.MethodName)) ∈ tb := tbm (tb2 140 (by decide +kernel)) rfl
theorem tm_2_141 : (Jvm.Cond.selects "IdeaCage$Plan" ({ cls := "IdeaCage$Plan", name := "countStanding", desc := "(I)I" } : Jvm.MethodName) ({ cls := "IdeaCage$Plan", name := "countStanding", desc := "(I)I" } : Jvm.MethodName)) ∈ tb := tbm (tb2 141 (by decide +kernel)) rfl
theorem tm_2_143 : (Jvm.Cond.methodLink "IdeaCage$Plan" (92 : Nat) ({ cls := "IdeaCage$Plan", name := "cellsOf", desc := "(I)I" } : Jvm.MethodName)) ∈ tb := tbm (tb2 143 (by decide +kernel)) rfl
theorem tm_2_144 : (Jvm.Cond.methodLink "IdeaCage" (181 : Nat) ({ cls := "IdeaCage", name := "ordersWith", desc := "(I)I" } : Jvm.MethodName)) ∈ tb := tbm (tb2 144 (by decide +kernel)) rfl
theorem tm_2_146 : (Jvm.Cond.instanceMethod ({ cls := "IdeaCage", name := "ordersWith", desc := "(I)I" } : Jvm.MethodName)) ∈ tb := tbm (tb2 146 (by decide +kernel)) rfl
theorem tm_2_148 : (Jvm.Cond.methodLink "IdeaCage" (184 : Nat) ({ cls := "IdeaCage", name := "factorial", desc := "(I)I" } : Jvm.MethodName)) ∈ tb := tbm (tb2 148 (by decide +kernel)) rfl
theorem tm_2_149 : (Jvm.Cond.static ({ cls := "IdeaCage", name := "factorial", desc := "(I)I" } : Jvm.MethodName)) ∈ tb := tbm (tb2 149 (by decide +kernel)) rfl
theorem tm_2_151 : (Jvm.Cond.methodLink "IdeaCage" (187 : Nat) ({ cls := "IdeaCage", name := "told", desc := "(IIZ)I" } : Jvm.MethodName)) ∈ tb := tbm (tb2 151 (by decide +kernel)) rfl
theorem tm_2_152 : (Jvm.Cond.static ({ cls := "IdeaCage", name := "told", desc := "(IIZ)I" } : Jvm.MethodName)) ∈ tb := tbm (tb2 152 (by decide +kernel)) rfl
theorem tm_2_154 : (Jvm.Cond.methodLink "IdeaCage" (241 : Nat) ({ cls := "IdeaCage", name := "commonDivisor", desc := "(II)I" } : Jvm.MethodName)) ∈ tb := tbm (tb2 154 (by decide +kernel)) rfl
theorem tm_2_155 : (Jvm.Cond.static ({ cls := "IdeaCage", name := "commonDivisor", desc := "(II)I" } : Jvm.MethodName)) ∈ tb := tbm (tb2 155 (by decide +kernel)) rfl
theorem tm_2_157 : (Jvm.Cond.methodLink "IdeaCageLaw" (88 : Nat) ({ cls := "IdeaCage", name := "attempt", desc := "(II)I" } : Jvm.MethodName)) ∈ tb := tbm (tb2 157 (by decide +kernel)) rfl
theorem tm_2_158 : (Jvm.Cond.instanceMethod ({ cls := "IdeaCage", name := "attempt", desc := "(II)I" } : Jvm.MethodName)) ∈ tb := tbm (tb2 158 (by decide +kernel)) rfl
theorem tm_2_159 : (Jvm.Cond.selects "IdeaCage" ({ cls := "IdeaCage", name := "attempt", desc := "(II)I" } : Jvm.MethodName) ({ cls := "IdeaCage", name := "attempt", desc := "(II)I" } : Jvm.MethodName)) ∈ tb := tbm (tb2 159 (by decide +kernel)) rfl
theorem tm_2_161 : (Jvm.Cond.methodLink "IdeaCage" (191 : Nat) ({ cls := "IdeaCage$Tries", name := "add", desc := "(IZ)Z" } : Jvm.MethodName)) ∈ tb := tbm (tb2 161 (by decide +kernel)) rfl
theorem tm_2_162 : (Jvm.Cond.instanceMethod ({ cls := "IdeaCage$Tries", name := "add", desc := "(IZ)Z" } : Jvm.MethodName)) ∈ tb := tbm (tb2 162 (by decide +kernel)) rfl
theorem tm_2_163 : (Jvm.Cond.selects "IdeaCage$Tries" ({ cls := "IdeaCage$Tries", name := "add", desc := "(IZ)Z" } : Jvm.MethodName) ({ cls := "IdeaCage$Tries", name := "add", desc := "(IZ)Z" } : Jvm.MethodName)) ∈ tb := tbm (tb2 163 (by decide +kernel)) rfl
theorem tm_2_165 : (Jvm.Cond.methodLink "IdeaCageLaw" (92 : Nat) ({ cls := "IdeaCage", name := "unattempt", desc := "()I" } : Jvm.MethodName)) ∈ tb := tbm (tb2 165 (by decide +kernel)) rfl
theorem tm_2_166 : (Jvm.Cond.instanceMethod ({ cls := "IdeaCage", name := "unattempt", desc := "()I" } : Jvm.MethodName)) ∈ tb := tbm (tb2 166 (by decide +kernel)) rfl
theorem tm_2_167 : (Jvm.Cond.selects "IdeaCage" ({ cls := "IdeaCage", name := "unattempt", desc := "()I" } : Jvm.MethodName) ({ cls := "IdeaCage", name := "unattempt", desc := "()I" } : Jvm.MethodName)) ∈ tb := tbm (tb2 167 (by decide +kernel)) rfl
theorem tm_2_169 : (Jvm.Cond.methodLink "IdeaCageLaw" (96 : Nat) ({ cls := "IdeaCage", name := "kinds", desc := "(I)I" } : Jvm.MethodName)) ∈ tb := tbm (tb2 169 (by decide +kernel)) rfl
theorem tm_2_170 : (Jvm.Cond.instanceMethod ({ cls := "IdeaCage", name := "kinds", desc := "(I)I" } : Jvm.MethodName)) ∈ tb := tbm (tb2 170 (by decide +kernel)) rfl
theorem tm_2_171 : (Jvm.Cond.selects "IdeaCage" ({ cls := "IdeaCage", name := "kinds", desc := "(I)I" } : Jvm.MethodName) ({ cls := "IdeaCage", name := "kinds", desc := "(I)I" } : Jvm.MethodName)) ∈ tb := tbm (tb2 171 (by decide +kernel)) rfl
theorem tm_2_173 : (Jvm.Cond.methodLink "IdeaCage" (195 : Nat) ({ cls := "IdeaCage$Tries", name := "agreeWith", desc := "(II)Z" } : Jvm.MethodName)) ∈ tb := tbm (tb2 173 (by decide +kernel)) rfl
theorem tm_2_174 : (Jvm.Cond.instanceMethod ({ cls := "IdeaCage$Tries", name := "agreeWith", desc := "(II)Z" } : Jvm.MethodName)) ∈ tb := tbm (tb2 174 (by decide +kernel)) rfl
theorem tm_2_175 : (Jvm.Cond.selects "IdeaCage$Tries" ({ cls := "IdeaCage$Tries", name := "agreeWith", desc := "(II)Z" } : Jvm.MethodName) ({ cls := "IdeaCage$Tries", name := "agreeWith", desc := "(II)Z" } : Jvm.MethodName)) ∈ tb := tbm (tb2 175 (by decide +kernel)) rfl
theorem tm_2_177 : (Jvm.Cond.methodLink "IdeaCage$Tries" (23 : Nat) ({ cls := "IdeaCage$Tries", name := "wouldStand", desc := "(III)Z" } : Jvm.MethodName)) ∈ tb := tbm (tb2 177 (by decide +kernel)) rfl
theorem tm_2_178 : (Jvm.Cond.static ({ cls := "IdeaCage$Tries", name := "wouldStand", desc := "(III)Z" } : Jvm.MethodName)) ∈ tb := tbm (tb2 178 (by decide +kernel)) rfl
theorem tm_2_180 : (Jvm.Cond.methodLink "IdeaCageLaw" (100 : Nat) ({ cls := "IdeaCage", name := "rests", desc := "(III)I" } : Jvm.MethodName)) ∈ tb := tbm (tb2 180 (by decide +kernel)) rfl
theorem tm_2_181 : (Jvm.Cond.instanceMethod ({ cls := "IdeaCage", name := "rests", desc := "(III)I" } : Jvm.MethodName)) ∈ tb := tbm (tb2 181 (by decide +kernel)) rfl
theorem tm_2_182 : (Jvm.Cond.selects "IdeaCage" ({ cls := "IdeaCage", name := "rests", desc := "(III)I" } : Jvm.MethodName) ({ cls := "IdeaCage", name := "rests", desc := "(III)I" } : Jvm.MethodName)) ∈ tb := tbm (tb2 182 (by decide +kernel)) rfl
theorem tm_2_184 : (Jvm.Cond.methodLink "IdeaCage" (198 : Nat) ({ cls := "IdeaCage", name := "isRest", desc := "(IIII)Z" } : Jvm.MethodName)) ∈ tb := tbm (tb2 184 (by decide +kernel)) rfl
theorem tm_2_186 : (Jvm.Cond.instanceMethod ({ cls := "IdeaCage", name := "isRest", desc := "(IIII)Z" } : Jvm.MethodName)) ∈ tb := tbm (tb2 186 (by decide +kernel)) rfl
theorem tm_2_188 : (Jvm.Cond.methodLink "IdeaCage" (225 : Nat) ({ cls := "IdeaCage", name := "withChoices", desc := "(IIII)I" } : Jvm.MethodName)) ∈ tb := tbm (tb2 188 (by decide +kernel)) rfl
theorem tm_2_190 : (Jvm.Cond.instanceMethod ({ cls := "IdeaCage", name := "withChoices", desc := "(IIII)I" } : Jvm.MethodName)) ∈ tb := tbm (tb2 190 (by decide +kernel)) rfl
theorem tm_2_192 : (Jvm.Cond.methodLink "IdeaCage" (232 : Nat) ({ cls := "IdeaCage", name := "withChoice", desc := "(III)I" } : Jvm.MethodName)) ∈ tb := tbm (tb2 192 (by decide +kernel)) rfl
theorem tm_2_194 : (Jvm.Cond.instanceMethod ({ cls := "IdeaCage", name := "withChoice", desc := "(III)I" } : Jvm.MethodName)) ∈ tb := tbm (tb2 194 (by decide +kernel)) rfl
theorem tm_2_196 : (Jvm.Cond.methodLink "IdeaCage" (229 : Nat) ({ cls := "IdeaCage", name := "worth", desc := "(II)I" } : Jvm.MethodName)) ∈ tb := tbm (tb2 196 (by decide +kernel)) rfl
theorem tm_2_197 : (Jvm.Cond.static ({ cls := "IdeaCage", name := "worth", desc := "(II)I" } : Jvm.MethodName)) ∈ tb := tbm (tb2 197 (by decide +kernel)) rfl
theorem tm_2_199 : (Jvm.Cond.methodLink "IdeaCageLaw" (105 : Nat) ({ cls := "IdeaCage", name := "wet", desc := "(IIZ)I" } : Jvm.MethodName)) ∈ tb := tbm (tb2 199 (by decide +kernel)) rfl
theorem tm_2_200 : (Jvm.Cond.instanceMethod ({ cls := "IdeaCage", name := "wet", desc := "(IIZ)I" } : Jvm.MethodName)) ∈ tb := tbm (tb2 200 (by decide +kernel)) rfl
theorem tm_2_201 : (Jvm.Cond.selects "IdeaCage" ({ cls := "IdeaCage", name := "wet", desc := "(IIZ)I" } : Jvm.MethodName) ({ cls := "IdeaCage", name := "wet", desc := "(IIZ)I" } : Jvm.MethodName)) ∈ tb := tbm (tb2 201 (by decide +kernel)) rfl
theorem tm_2_203 : (Jvm.Cond.methodLink "IdeaCage" (202 : Nat) ({ cls := "IdeaCage", name := "hadWithout", desc := "(I)I" } : Jvm.MethodName)) ∈ tb := tbm (tb2 203 (by decide +kernel)) rfl
theorem tm_2_205 : (Jvm.Cond.instanceMethod ({ cls := "IdeaCage", name := "hadWithout", desc := "(I)I" } : Jvm.MethodName)) ∈ tb := tbm (tb2 205 (by decide +kernel)) rfl
theorem tm_2_207 : (Jvm.Cond.methodLink "IdeaCage" (236 : Nat) ({ cls := "IdeaCage$Frame", name := "cellBit", desc := "(II)I" } : Jvm.MethodName)) ∈ tb := tbm (tb2 207 (by decide +kernel)) rfl
theorem tm_2_208 : (Jvm.Cond.methodLink "IdeaCage" (205 : Nat) ({ cls := "IdeaCage", name := "weightOf", desc := "(II)I" } : Jvm.MethodName)) ∈ tb := tbm (tb2 208 (by decide +kernel)) rfl
theorem tm_2_210 : (Jvm.Cond.instanceMethod ({ cls := "IdeaCage", name := "weightOf", desc := "(II)I" } : Jvm.MethodName)) ∈ tb := tbm (tb2 210 (by decide +kernel)) rfl
theorem tm_2_212 : (Jvm.Cond.methodLink "IdeaCageLaw" (110 : Nat) ({ cls := "IdeaCage", name := "seed", desc := "(J)J" } : Jvm.MethodName)) ∈ tb := tbm (tb2 212 (by decide +kernel)) rfl
theorem tm_2_213 : (Jvm.Cond.instanceMethod ({ cls := "IdeaCage", name := "seed", desc := "(J)J" } : Jvm.MethodName)) ∈ tb := tbm (tb2 213 (by decide +kernel)) rfl
theorem tm_2_214 : (Jvm.Cond.selects "IdeaCage" ({ cls := "IdeaCage", name := "seed", desc := "(J)J" } : Jvm.MethodName) ({ cls := "IdeaCage", name := "seed", desc := "(J)J" } : Jvm.MethodName)) ∈ tb := tbm (tb2 214 (by decide +kernel)) rfl
theorem tm_2_216 : (Jvm.Cond.methodLink "IdeaCageLaw" (115 : Nat) ({ cls := "IdeaCage", name := "terms", desc := "(I)I" } : Jvm.MethodName)) ∈ tb := tbm (tb2 216 (by decide +kernel)) rfl
theorem tm_2_217 : (Jvm.Cond.instanceMethod ({ cls := "IdeaCage", name := "terms", desc := "(I)I" } : Jvm.MethodName)) ∈ tb := tbm (tb2 217 (by decide +kernel)) rfl
theorem tm_2_218 : (Jvm.Cond.selects "IdeaCage" ({ cls := "IdeaCage", name := "terms", desc := "(I)I" } : Jvm.MethodName) ({ cls := "IdeaCage", name := "terms", desc := "(I)I" } : Jvm.MethodName)) ∈ tb := tbm (tb2 218 (by decide +kernel)) rfl
theorem tm_2_220 : (Jvm.Cond.constantLong "IdeaCage" (208 : Nat) (6364136223846793005 : Int64)) ∈ tb := tbm (tb2 220 (by decide +kernel)) rfl
theorem tm_2_221 : (Jvm.Cond.constantLong "IdeaCage" (210 : Nat) (1442695040888963407 : Int64)) ∈ tb := tbm (tb2 221 (by decide +kernel)) rfl
theorem tm_2_222 : (Jvm.Cond.constantLong "IdeaCage" (212 : Nat) (16 : Int64)) ∈ tb := tbm (tb2 222 (by decide +kernel)) rfl
theorem tm_2_223 : (Jvm.Cond.methodLink "IdeaCage" (214 : Nat) ({ cls := "IdeaCage", name := "withChance", desc := "(II)I" } : Jvm.MethodName)) ∈ tb := tbm (tb2 223 (by decide +kernel)) rfl
theorem tm_2_225 : (Jvm.Cond.instanceMethod ({ cls := "IdeaCage", name := "withChance", desc := "(II)I" } : Jvm.MethodName)) ∈ tb := tbm (tb2 225 (by decide +kernel)) rfl
theorem tm_2_227 : (Jvm.Cond.methodLink "IdeaCageLaw" (119 : Nat) ({ cls := "IdeaCage", name := "keep", desc := "(I)I" } : Jvm.MethodName)) ∈ tb := tbm (tb2 227 (by decide +kernel)) rfl
theorem tm_2_228 : (Jvm.Cond.instanceMethod ({ cls := "IdeaCage", name := "keep", desc := "(I)I" } : Jvm.MethodName)) ∈ tb := tbm (tb2 228 (by decide +kernel)) rfl
theorem tm_2_229 : (Jvm.Cond.selects "IdeaCage" ({ cls := "IdeaCage", name := "keep", desc := "(I)I" } : Jvm.MethodName) ({ cls := "IdeaCage", name := "keep", desc := "(I)I" } : Jvm.MethodName)) ∈ tb := tbm (tb2 229 (by decide +kernel)) rfl
theorem tm_2_231 : (Jvm.Cond.methodLink "IdeaCageLaw" (123 : Nat) ({ cls := "IdeaCage", name := "again", desc := "(I)I" } : Jvm.MethodName)) ∈ tb := tbm (tb2 231 (by decide +kernel)) rfl
theorem tm_2_232 : (Jvm.Cond.instanceMethod ({ cls := "IdeaCage", name := "again", desc := "(I)I" } : Jvm.MethodName)) ∈ tb := tbm (tb2 232 (by decide +kernel)) rfl
theorem tm_2_233 : (Jvm.Cond.selects "IdeaCage" ({ cls := "IdeaCage", name := "again", desc := "(I)I" } : Jvm.MethodName) ({ cls := "IdeaCage", name := "again", desc := "(I)I" } : Jvm.MethodName)) ∈ tb := tbm (tb2 233 (by decide +kernel)) rfl
theorem tm_2_235 : (Jvm.Cond.classLink "IdeaCageLaw" (10 : Nat) "IdeaCageModel") ∈ tb := tbm (tb2 235 (by decide +kernel)) rfl
theorem tm_2_236 : (Jvm.Cond.instantiable "IdeaCageModel" (30 : Nat)) ∈ tb := tbm (tb2 236 (by decide +kernel)) rfl
theorem tm_2_237 : (Jvm.Cond.methodLink "IdeaCageLaw" (12 : Nat) ({ cls := "IdeaCageModel", name := "<init>", desc := "()V" } : Jvm.MethodName)) ∈ tb := tbm (tb2 237 (by decide +kernel)) rfl
theorem tm_2_238 : (Jvm.Cond.instanceMethod ({ cls := "IdeaCageModel", name := "<init>", desc := "()V" } : Jvm.MethodName)) ∈ tb := tbm (tb2 238 (by decide +kernel)) rfl
theorem tm_3_0 : (Jvm.Cond.methodLink "IdeaCageModel" (1 : Nat) ({ cls := "java/lang/Object", name := "<init>", desc := "()V" } : Jvm.MethodName)) ∈ tb := tbm (tb3 0 (by decide +kernel)) rfl
theorem tm_3_1 : (Jvm.Cond.fieldLink "IdeaCageModel" (50 : Nat) "IdeaCageModel" "thrown" "I") ∈ tb := tbm (tb3 1 (by decide +kernel)) rfl
theorem tm_3_2 : (Jvm.Cond.fieldLink "IdeaCageModel" (7 : Nat) "IdeaCageModel" "text" "[I") ∈ tb := tbm (tb3 2 (by decide +kernel)) rfl
theorem tm_3_3 : (Jvm.Cond.fieldLink "IdeaCageModel" (65 : Nat) "IdeaCageModel" "textSize" "I") ∈ tb := tbm (tb3 3 (by decide +kernel)) rfl
theorem tm_3_4 : (Jvm.Cond.fieldLink "IdeaCageModel" (68 : Nat) "IdeaCageModel" "place" "I") ∈ tb := tbm (tb3 4 (by decide +kernel)) rfl
theorem tm_3_5 : (Jvm.Cond.fieldLink "IdeaCageModel" (95 : Nat) "IdeaCageModel" "stock" "I") ∈ tb := tbm (tb3 5 (by decide +kernel)) rfl
theorem tm_3_6 : (Jvm.Cond.fieldLink "IdeaCageModel" (60 : Nat) "IdeaCageModel" "parts" "I") ∈ tb := tbm (tb3 6 (by decide +kernel)) rfl
theorem tm_3_7 : (Jvm.Cond.fieldLink "IdeaCageModel" (13 : Nat) "IdeaCageModel" "lies" "[I") ∈ tb := tbm (tb3 7 (by decide +kernel)) rfl
theorem tm_3_8 : (Jvm.Cond.fieldLink "IdeaCageModel" (16 : Nat) "IdeaCageModel" "kind" "[I") ∈ tb := tbm (tb3 8 (by decide +kernel)) rfl
theorem tm_3_9 : (Jvm.Cond.fieldLink "IdeaCageModel" (83 : Nat) "IdeaCageModel" "readStock" "I") ∈ tb := tbm (tb3 9 (by decide +kernel)) rfl
theorem tm_3_10 : (Jvm.Cond.fieldLink "IdeaCageModel" (76 : Nat) "IdeaCageModel" "readCells" "I") ∈ tb := tbm (tb3 10 (by decide +kernel)) rfl
theorem tm_3_11 : (Jvm.Cond.fieldLink "IdeaCageModel" (71 : Nat) "IdeaCageModel" "readParts" "I") ∈ tb := tbm (tb3 11 (by decide +kernel)) rfl
theorem tm_3_12 : (Jvm.Cond.fieldLink "IdeaCageModel" (19 : Nat) "IdeaCageModel" "readPart" "[I") ∈ tb := tbm (tb3 12 (by decide +kernel)) rfl
theorem tm_3_13 : (Jvm.Cond.fieldLink "IdeaCageModel" (22 : Nat) "IdeaCageModel" "page" "[I") ∈ tb := tbm (tb3 13 (by decide +kernel)) rfl
theorem tm_3_14 : (Jvm.Cond.fieldLink "IdeaCageModel" (25 : Nat) "IdeaCageModel" "trial" "[I") ∈ tb := tbm (tb3 14 (by decide +kernel)) rfl
theorem tm_3_15 : (Jvm.Cond.fieldLink "IdeaCageModel" (28 : Nat) "IdeaCageModel" "book" "[I") ∈ tb := tbm (tb3 15 (by decide +kernel)) rfl
theorem tm_3_16 : (Jvm.Cond.fieldLink "IdeaCageModel" (98 : Nat) "IdeaCageModel" "acts" "I") ∈ tb := tbm (tb3 16 (by decide +kernel)) rfl
theorem tm_3_17 : (Jvm.Cond.fieldLink "IdeaCageModel" (31 : Nat) "IdeaCageModel" "kept" "[I") ∈ tb := tbm (tb3 17 (by decide +kernel)) rfl
theorem tm_3_18 : (Jvm.Cond.fieldLink "IdeaCageModel" (34 : Nat) "IdeaCageModel" "isKept" "[Z") ∈ tb := tbm (tb3 18 (by decide +kernel)) rfl
theorem tm_3_19 : (Jvm.Cond.fieldLink "IdeaCageModel" (144 : Nat) "IdeaCageModel" "tried" "I") ∈ tb := tbm (tb3 19 (by decide +kernel)) rfl
theorem tm_3_20 : (Jvm.Cond.fieldLink "IdeaCageModel" (38 : Nat) "IdeaCageModel" "triedAbout" "[I") ∈ tb := tbm (tb3 20 (by decide +kernel)) rfl
theorem tm_3_21 : (Jvm.Cond.fieldLink "IdeaCageModel" (41 : Nat) "IdeaCageModel" "triedIs" "[I") ∈ tb := tbm (tb3 21 (by decide +kernel)) rfl
theorem tm_3_22 : (Jvm.Cond.fieldLink "IdeaCageModel" (232 : Nat) "IdeaCageModel" "seed" "J") ∈ tb := tbm (tb3 22 (by decide +kernel)) rfl
theorem tm_3_23 : (Jvm.Cond.fieldLink "IdeaCageModel" (173 : Nat) "IdeaCageModel" "soonMany" "I") ∈ tb := tbm (tb3 23 (by decide +kernel)) rfl
theorem tm_3_24 : (Jvm.Cond.fieldLink "IdeaCageModel" (163 : Nat) "IdeaCageModel" "soonWhich" "I") ∈ tb := tbm (tb3 24 (by decide +kernel)) rfl
theorem tm_3_25 : (Jvm.Cond.fieldLink "IdeaCageModel" (206 : Nat) "IdeaCageModel" "kindMany" "I") ∈ tb := tbm (tb3 25 (by decide +kernel)) rfl
theorem tm_3_26 : (Jvm.Cond.fieldLink "IdeaCageModel" (209 : Nat) "IdeaCageModel" "kindFirst" "I") ∈ tb := tbm (tb3 26 (by decide +kernel)) rfl
theorem tm_3_27 : (Jvm.Cond.fieldLink "IdeaCageModel" (219 : Nat) "IdeaCageModel" "restMany" "I") ∈ tb := tbm (tb3 27 (by decide +kernel)) rfl
theorem tm_3_28 : (Jvm.Cond.fieldLink "IdeaCageModel" (222 : Nat) "IdeaCageModel" "restFirst" "I") ∈ tb := tbm (tb3 28 (by decide +kernel)) rfl
theorem tm_3_29 : (Jvm.Cond.fieldLink "IdeaCageModel" (44 : Nat) "IdeaCageModel" "gains" "[I") ∈ tb := tbm (tb3 29 (by decide +kernel)) rfl
theorem tm_3_30 : (Jvm.Cond.fieldLink "IdeaCageModel" (47 : Nat) "IdeaCageModel" "value" "[I") ∈ tb := tbm (tb3 30 (by decide +kernel)) rfl
theorem tm_3_31 : (Jvm.Cond.lays "IdeaCageModel" "IdeaCageModel" "thrown" "I") ∈ tb := tbm (tb3 31 (by decide +kernel)) rfl
theorem tm_3_32 : (Jvm.Cond.soleField "IdeaCageModel" "thrown") ∈ tb := tbm (tb3 32 (by decide +kernel)) rfl
theorem tm_3_33 : (Jvm.Cond.laysFinal "IdeaCageModel" "IdeaCageModel" "text" "[I") ∈ tb := tbm (tb3 33 (by decide +kernel)) rfl
theorem tm_3_34 : (Jvm.Cond.soleField "IdeaCageModel" "text") ∈ tb := tbm (tb3 34 (by decide +kernel)) rfl
theorem tm_3_35 : (Jvm.Cond.lays "IdeaCageModel" "IdeaCageModel" "textSize" "I") ∈ tb := tbm (tb3 35 (by decide +kernel)) rfl
theorem tm_3_36 : (Jvm.Cond.soleField "IdeaCageModel" "textSize") ∈ tb := tbm (tb3 36 (by decide +kernel)) rfl
theorem tm_3_37 : (Jvm.Cond.lays "IdeaCageModel" "IdeaCageModel" "place" "I") ∈ tb := tbm (tb3 37 (by decide +kernel)) rfl
theorem tm_3_38 : (Jvm.Cond.soleField "IdeaCageModel" "place") ∈ tb := tbm (tb3 38 (by decide +kernel)) rfl
theorem tm_3_39 : (Jvm.Cond.lays "IdeaCageModel" "IdeaCageModel" "stock" "I") ∈ tb := tbm (tb3 39 (by decide +kernel)) rfl
theorem tm_3_40 : (Jvm.Cond.soleField "IdeaCageModel" "stock") ∈ tb := tbm (tb3 40 (by decide +kernel)) rfl
theorem tm_3_41 : (Jvm.Cond.lays "IdeaCageModel" "IdeaCageModel" "parts" "I") ∈ tb := tbm (tb3 41 (by decide +kernel)) rfl
theorem tm_3_42 : (Jvm.Cond.soleField "IdeaCageModel" "parts") ∈ tb := tbm (tb3 42 (by decide +kernel)) rfl
theorem tm_3_43 : (Jvm.Cond.laysFinal "IdeaCageModel" "IdeaCageModel" "lies" "[I") ∈ tb := tbm (tb3 43 (by decide +kernel)) rfl
theorem tm_3_44 : (Jvm.Cond.soleField "IdeaCageModel" "lies") ∈ tb := tbm (tb3 44 (by decide +kernel)) rfl
theorem tm_3_45 : (Jvm.Cond.laysFinal "IdeaCageModel" "IdeaCageModel" "kind" "[I") ∈ tb := tbm (tb3 45 (by decide +kernel)) rfl
theorem tm_3_46 : (Jvm.Cond.soleField "IdeaCageModel" "kind") ∈ tb := tbm (tb3 46 (by decide +kernel)) rfl
theorem tm_3_47 : (Jvm.Cond.lays "IdeaCageModel" "IdeaCageModel" "readStock" "I") ∈ tb := tbm (tb3 47 (by decide +kernel)) rfl
theorem tm_3_48 : (Jvm.Cond.soleField "IdeaCageModel" "readStock") ∈ tb := tbm (tb3 48 (by decide +kernel)) rfl
theorem tm_3_49 : (Jvm.Cond.lays "IdeaCageModel" "IdeaCageModel" "readCells" "I") ∈ tb := tbm (tb3 49 (by decide +kernel)) rfl
theorem tm_3_50 : (Jvm.Cond.soleField "IdeaCageModel" "readCells") ∈ tb := tbm (tb3 50 (by decide +kernel)) rfl
theorem tm_3_51 : (Jvm.Cond.lays "IdeaCageModel" "IdeaCageModel" "readParts" "I") ∈ tb := tbm (tb3 51 (by decide +kernel)) rfl
theorem tm_3_52 : (Jvm.Cond.soleField "IdeaCageModel" "readParts") ∈ tb := tbm (tb3 52 (by decide +kernel)) rfl
theorem tm_3_53 : (Jvm.Cond.laysFinal "IdeaCageModel" "IdeaCageModel" "readPart" "[I") ∈ tb := tbm (tb3 53 (by decide +kernel)) rfl
theorem tm_3_54 : (Jvm.Cond.soleField "IdeaCageModel" "readPart") ∈ tb := tbm (tb3 54 (by decide +kernel)) rfl
theorem tm_3_55 : (Jvm.Cond.laysFinal "IdeaCageModel" "IdeaCageModel" "page" "[I") ∈ tb := tbm (tb3 55 (by decide +kernel)) rfl
theorem tm_3_56 : (Jvm.Cond.soleField "IdeaCageModel" "page") ∈ tb := tbm (tb3 56 (by decide +kernel)) rfl
theorem tm_3_57 : (Jvm.Cond.laysFinal "IdeaCageModel" "IdeaCageModel" "trial" "[I") ∈ tb := tbm (tb3 57 (by decide +kernel)) rfl
theorem tm_3_58 : (Jvm.Cond.soleField "IdeaCageModel" "trial") ∈ tb := tbm (tb3 58 (by decide +kernel)) rfl
theorem tm_3_59 : (Jvm.Cond.laysFinal "IdeaCageModel" "IdeaCageModel" "book" "[I") ∈ tb := tbm (tb3 59 (by decide +kernel)) rfl
theorem tm_3_60 : (Jvm.Cond.soleField "IdeaCageModel" "book") ∈ tb := tbm (tb3 60 (by decide +kernel)) rfl
theorem tm_3_61 : (Jvm.Cond.lays "IdeaCageModel" "IdeaCageModel" "acts" "I") ∈ tb := tbm (tb3 61 (by decide +kernel)) rfl
theorem tm_3_62 : (Jvm.Cond.soleField "IdeaCageModel" "acts") ∈ tb := tbm (tb3 62 (by decide +kernel)) rfl
theorem tm_3_63 : (Jvm.Cond.laysFinal "IdeaCageModel" "IdeaCageModel" "kept" "[I") ∈ tb := tbm (tb3 63 (by decide +kernel)) rfl
theorem tm_3_64 : (Jvm.Cond.soleField "IdeaCageModel" "kept") ∈ tb := tbm (tb3 64 (by decide +kernel)) rfl
theorem tm_3_65 : (Jvm.Cond.laysFinal "IdeaCageModel" "IdeaCageModel" "isKept" "[Z") ∈ tb := tbm (tb3 65 (by decide +kernel)) rfl
theorem tm_3_66 : (Jvm.Cond.soleField "IdeaCageModel" "isKept") ∈ tb := tbm (tb3 66 (by decide +kernel)) rfl
theorem tm_3_67 : (Jvm.Cond.lays "IdeaCageModel" "IdeaCageModel" "tried" "I") ∈ tb := tbm (tb3 67 (by decide +kernel)) rfl
theorem tm_3_68 : (Jvm.Cond.soleField "IdeaCageModel" "tried") ∈ tb := tbm (tb3 68 (by decide +kernel)) rfl
theorem tm_3_69 : (Jvm.Cond.laysFinal "IdeaCageModel" "IdeaCageModel" "triedAbout" "[I") ∈ tb := tbm (tb3 69 (by decide +kernel)) rfl
theorem tm_3_70 : (Jvm.Cond.soleField "IdeaCageModel" "triedAbout") ∈ tb := tbm (tb3 70 (by decide +kernel)) rfl
theorem tm_3_71 : (Jvm.Cond.laysFinal "IdeaCageModel" "IdeaCageModel" "triedIs" "[I") ∈ tb := tbm (tb3 71 (by decide +kernel)) rfl
theorem tm_3_72 : (Jvm.Cond.soleField "IdeaCageModel" "triedIs") ∈ tb := tbm (tb3 72 (by decide +kernel)) rfl
theorem tm_3_73 : (Jvm.Cond.lays "IdeaCageModel" "IdeaCageModel" "seed" "J") ∈ tb := tbm (tb3 73 (by decide +kernel)) rfl
theorem tm_3_74 : (Jvm.Cond.soleField "IdeaCageModel" "seed") ∈ tb := tbm (tb3 74 (by decide +kernel)) rfl
theorem tm_3_75 : (Jvm.Cond.lays "IdeaCageModel" "IdeaCageModel" "soonMany" "I") ∈ tb := tbm (tb3 75 (by decide +kernel)) rfl
theorem tm_3_76 : (Jvm.Cond.soleField "IdeaCageModel" "soonMany") ∈ tb := tbm (tb3 76 (by decide +kernel)) rfl
theorem tm_3_77 : (Jvm.Cond.lays "IdeaCageModel" "IdeaCageModel" "soonWhich" "I") ∈ tb := tbm (tb3 77 (by decide +kernel)) rfl
theorem tm_3_78 : (Jvm.Cond.soleField "IdeaCageModel" "soonWhich") ∈ tb := tbm (tb3 78 (by decide +kernel)) rfl
theorem tm_3_79 : (Jvm.Cond.lays "IdeaCageModel" "IdeaCageModel" "kindMany" "I") ∈ tb := tbm (tb3 79 (by decide +kernel)) rfl
theorem tm_3_80 : (Jvm.Cond.soleField "IdeaCageModel" "kindMany") ∈ tb := tbm (tb3 80 (by decide +kernel)) rfl
theorem tm_3_81 : (Jvm.Cond.lays "IdeaCageModel" "IdeaCageModel" "kindFirst" "I") ∈ tb := tbm (tb3 81 (by decide +kernel)) rfl
theorem tm_3_82 : (Jvm.Cond.soleField "IdeaCageModel" "kindFirst") ∈ tb := tbm (tb3 82 (by decide +kernel)) rfl
theorem tm_3_83 : (Jvm.Cond.lays "IdeaCageModel" "IdeaCageModel" "restMany" "I") ∈ tb := tbm (tb3 83 (by decide +kernel)) rfl
theorem tm_3_84 : (Jvm.Cond.soleField "IdeaCageModel" "restMany") ∈ tb := tbm (tb3 84 (by decide +kernel)) rfl
theorem tm_3_85 : (Jvm.Cond.lays "IdeaCageModel" "IdeaCageModel" "restFirst" "I") ∈ tb := tbm (tb3 85 (by decide +kernel)) rfl
theorem tm_3_86 : (Jvm.Cond.soleField "IdeaCageModel" "restFirst") ∈ tb := tbm (tb3 86 (by decide +kernel)) rfl
theorem tm_3_87 : (Jvm.Cond.laysFinal "IdeaCageModel" "IdeaCageModel" "gains" "[I") ∈ tb := tbm (tb3 87 (by decide +kernel)) rfl
theorem tm_3_88 : (Jvm.Cond.soleField "IdeaCageModel" "gains") ∈ tb := tbm (tb3 88 (by decide +kernel)) rfl
theorem tm_3_89 : (Jvm.Cond.laysFinal "IdeaCageModel" "IdeaCageModel" "value" "[I") ∈ tb := tbm (tb3 89 (by decide +kernel)) rfl
theorem tm_3_90 : (Jvm.Cond.soleField "IdeaCageModel" "value") ∈ tb := tbm (tb3 90 (by decide +kernel)) rfl
theorem tm_3_92 : (Jvm.Cond.methodLink "IdeaCageLaw" (17 : Nat) ({ cls := "IdeaCageModel", name := "write", desc := "(I)I" } : Jvm.MethodName)) ∈ tb := tbm (tb3 92 (by decide +kernel)) rfl
theorem tm_3_93 : (Jvm.Cond.instanceMethod ({ cls := "IdeaCageModel", name := "write", desc := "(I)I" } : Jvm.MethodName)) ∈ tb := tbm (tb3 93 (by decide +kernel)) rfl
theorem tm_3_94 : (Jvm.Cond.selects "IdeaCageModel" ({ cls := "IdeaCageModel", name := "write", desc := "(I)I" } : Jvm.MethodName) ({ cls := "IdeaCageModel", name := "write", desc := "(I)I" } : Jvm.MethodName)) ∈ tb := tbm (tb3 94 (by decide +kernel)) rfl
theorem tm_3_96 : (Jvm.Cond.constantLong "IdeaCageModel" (63 : Nat) (255 : Int64)) ∈ tb := tbm (tb3 96 (by decide +kernel)) rfl
theorem tm_3_97 : (Jvm.Cond.methodLink "IdeaCageModel" (56 : Nat) ({ cls := "IdeaCageModel", name := "in", desc := "(JJJ)Z" } : Jvm.MethodName)) ∈ tb := tbm (tb3 97 (by decide +kernel)) rfl
theorem tm_3_98 : (Jvm.Cond.static ({ cls := "IdeaCageModel", name := "in", desc := "(JJJ)Z" } : Jvm.MethodName)) ∈ tb := tbm (tb3 98 (by decide +kernel)) rfl
theorem tm_3_100 : (Jvm.Cond.methodLink "IdeaCageLaw" (22 : Nat) ({ cls := "IdeaCageModel", name := "wipe", desc := "()I" } : Jvm.MethodName)) ∈ tb := tbm (tb3 100 (by decide +kernel)) rfl
theorem tm_3_101 : (Jvm.Cond.instanceMethod ({ cls := "IdeaCageModel", name := "wipe", desc := "()I" } : Jvm.MethodName)) ∈ tb := tbm (tb3 101 (by decide +kernel)) rfl
theorem tm_3_102 : (Jvm.Cond.selects "IdeaCageModel" ({ cls := "IdeaCageModel", name := "wipe", desc := "()I" } : Jvm.MethodName) ({ cls := "IdeaCageModel", name := "wipe", desc := "()I" } : Jvm.MethodName)) ∈ tb := tbm (tb3 102 (by decide +kernel)) rfl
theorem tm_3_104 : (Jvm.Cond.methodLink "IdeaCageLaw" (26 : Nat) ({ cls := "IdeaCageModel", name := "fault", desc := "()I" } : Jvm.MethodName)) ∈ tb := tbm (tb3 104 (by decide +kernel)) rfl
theorem tm_3_105 : (Jvm.Cond.instanceMethod ({ cls := "IdeaCageModel", name := "fault", desc := "()I" } : Jvm.MethodName)) ∈ tb := tbm (tb3 105 (by decide +kernel)) rfl
theorem tm_3_106 : (Jvm.Cond.selects "IdeaCageModel" ({ cls := "IdeaCageModel", name := "fault", desc := "()I" } : Jvm.MethodName) ({ cls := "IdeaCageModel", name := "fault", desc := "()I" } : Jvm.MethodName)) ∈ tb := tbm (tb3 106 (by decide +kernel)) rfl
theorem tm_3_108 : (Jvm.Cond.methodLink "IdeaCageModel" (91 : Nat) ({ cls := "IdeaCageModel", name := "readIdea", desc := "()I" } : Jvm.MethodName)) ∈ tb := tbm (tb3 108 (by decide +kernel)) rfl
theorem tm_3_110 : (Jvm.Cond.instanceMethod ({ cls := "IdeaCageModel", name := "readIdea", desc := "()I" } : Jvm.MethodName)) ∈ tb := tbm (tb3 110 (by decide +kernel)) rfl
theorem tm_3_112 : (Jvm.Cond.constantLong "IdeaCageModel" (86 : Nat) (9 : Int64)) ∈ tb := tbm (tb3 112 (by decide +kernel)) rfl
theorem tm_3_113 : (Jvm.Cond.methodLink "IdeaCageModel" (88 : Nat) ({ cls := "IdeaCageModel", name := "readPart", desc := "()Z" } : Jvm.MethodName)) ∈ tb := tbm (tb3 113 (by decide +kernel)) rfl
theorem tm_3_115 : (Jvm.Cond.instanceMethod ({ cls := "IdeaCageModel", name := "readPart", desc := "()Z" } : Jvm.MethodName)) ∈ tb := tbm (tb3 115 (by decide +kernel)) rfl
theorem tm_3_117 : (Jvm.Cond.constantLong "IdeaCageModel" (74 : Nat) (15 : Int64)) ∈ tb := tbm (tb3 117 (by decide +kernel)) rfl
theorem tm_3_118 : (Jvm.Cond.methodLink "IdeaCageModel" (79 : Nat) ({ cls := "IdeaCageModel", name := "has", desc := "(II)Z" } : Jvm.MethodName)) ∈ tb := tbm (tb3 118 (by decide +kernel)) rfl
theorem tm_3_119 : (Jvm.Cond.static ({ cls := "IdeaCageModel", name := "has", desc := "(II)Z" } : Jvm.MethodName)) ∈ tb := tbm (tb3 119 (by decide +kernel)) rfl
theorem tm_3_121 : (Jvm.Cond.constantLong "IdeaCageModel" (54 : Nat) (3 : Int64)) ∈ tb := tbm (tb3 121 (by decide +kernel)) rfl
theorem tm_3_122 : (Jvm.Cond.methodLink "IdeaCageLaw" (30 : Nat) ({ cls := "IdeaCageModel", name := "idea", desc := "()I" } : Jvm.MethodName)) ∈ tb := tbm (tb3 122 (by decide +kernel)) rfl
theorem tm_3_123 : (Jvm.Cond.instanceMethod ({ cls := "IdeaCageModel", name := "idea", desc := "()I" } : Jvm.MethodName)) ∈ tb := tbm (tb3 123 (by decide +kernel)) rfl
theorem tm_3_124 : (Jvm.Cond.selects "IdeaCageModel" ({ cls := "IdeaCageModel", name := "idea", desc := "()I" } : Jvm.MethodName) ({ cls := "IdeaCageModel", name := "idea", desc := "()I" } : Jvm.MethodName)) ∈ tb := tbm (tb3 124 (by decide +kernel)) rfl
theorem tm_3_126 : (Jvm.Cond.methodLink "IdeaCageLaw" (34 : Nat) ({ cls := "IdeaCageModel", name := "about", desc := "(I)I" } : Jvm.MethodName)) ∈ tb := tbm (tb3 126 (by decide +kernel)) rfl
theorem tm_3_127 : (Jvm.Cond.instanceMethod ({ cls := "IdeaCageModel", name := "about", desc := "(I)I" } : Jvm.MethodName)) ∈ tb := tbm (tb3 127 (by decide +kernel)) rfl
theorem tm_3_128 : (Jvm.Cond.selects "IdeaCageModel" ({ cls := "IdeaCageModel", name := "about", desc := "(I)I" } : Jvm.MethodName) ({ cls := "IdeaCageModel", name := "about", desc := "(I)I" } : Jvm.MethodName)) ∈ tb := tbm (tb3 128 (by decide +kernel)) rfl
theorem tm_3_130 : (Jvm.Cond.methodLink "IdeaCageModel" (138 : Nat) ({ cls := "IdeaCageModel", name := "poles", desc := "([I)I" } : Jvm.MethodName)) ∈ tb := tbm (tb3 130 (by decide +kernel)) rfl
theorem tm_3_131 : (Jvm.Cond.static ({ cls := "IdeaCageModel", name := "poles", desc := "([I)I" } : Jvm.MethodName)) ∈ tb := tbm (tb3 131 (by decide +kernel)) rfl
theorem tm_3_133 : (Jvm.Cond.methodLink "IdeaCageModel" (141 : Nat) ({ cls := "IdeaCageModel", name := "left", desc := "()I" } : Jvm.MethodName)) ∈ tb := tbm (tb3 133 (by decide +kernel)) rfl
theorem tm_3_135 : (Jvm.Cond.instanceMethod ({ cls := "IdeaCageModel", name := "left", desc := "()I" } : Jvm.MethodName)) ∈ tb := tbm (tb3 135 (by decide +kernel)) rfl
theorem tm_3_137 : (Jvm.Cond.methodLink "IdeaCageModel" (132 : Nat) ({ cls := "IdeaCageModel", name := "begin", desc := "()V" } : Jvm.MethodName)) ∈ tb := tbm (tb3 137 (by decide +kernel)) rfl
theorem tm_3_139 : (Jvm.Cond.instanceMethod ({ cls := "IdeaCageModel", name := "begin", desc := "()V" } : Jvm.MethodName)) ∈ tb := tbm (tb3 139 (by decide +kernel)) rfl
theorem tm_3_141 : (Jvm.Cond.methodLink "IdeaCageModel" (135 : Nat) ({ cls := "IdeaCageModel", name := "settle", desc := "([I)I" } : Jvm.MethodName)) ∈ tb := tbm (tb3 141 (by decide +kernel)) rfl
theorem tm_3_143 : (Jvm.Cond.instanceMethod ({ cls := "IdeaCageModel", name := "settle", desc := "([I)I" } : Jvm.MethodName)) ∈ tb := tbm (tb3 143 (by decide +kernel)) rfl
theorem tm_3_145 : (Jvm.Cond.methodLink "IdeaCageModel" (125 : Nat) ({ cls := "IdeaCageModel", name := "standing", desc := "([I)I" } : Jvm.MethodName)) ∈ tb := tbm (tb3 145 (by decide +kernel)) rfl
theorem tm_3_147 : (Jvm.Cond.instanceMethod ({ cls := "IdeaCageModel", name := "standing", desc := "([I)I" } : Jvm.MethodName)) ∈ tb := tbm (tb3 147 (by decide +kernel)) rfl
theorem tm_3_149 : (Jvm.Cond.methodLink "IdeaCageModel" (121 : Nat) ({ cls := "IdeaCageModel", name := "stands", desc := "([III)Z" } : Jvm.MethodName)) ∈ tb := tbm (tb3 149 (by decide +kernel)) rfl
theorem tm_3_151 : (Jvm.Cond.instanceMethod ({ cls := "IdeaCageModel", name := "stands", desc := "([III)Z" } : Jvm.MethodName)) ∈ tb := tbm (tb3 151 (by decide +kernel)) rfl
theorem tm_3_153 : (Jvm.Cond.methodLink "IdeaCageModel" (109 : Nat) ({ cls := "IdeaCageModel", name := "hasPole", desc := "([II)Z" } : Jvm.MethodName)) ∈ tb := tbm (tb3 153 (by decide +kernel)) rfl
theorem tm_3_155 : (Jvm.Cond.instanceMethod ({ cls := "IdeaCageModel", name := "hasPole", desc := "([II)Z" } : Jvm.MethodName)) ∈ tb := tbm (tb3 155 (by decide +kernel)) rfl
theorem tm_3_157 : (Jvm.Cond.methodLink "IdeaCageModel" (113 : Nat) ({ cls := "IdeaCageModel", name := "isBy", desc := "(IIII)Z" } : Jvm.MethodName)) ∈ tb := tbm (tb3 157 (by decide +kernel)) rfl
theorem tm_3_159 : (Jvm.Cond.instanceMethod ({ cls := "IdeaCageModel", name := "isBy", desc := "(IIII)Z" } : Jvm.MethodName)) ∈ tb := tbm (tb3 159 (by decide +kernel)) rfl
theorem tm_3_161 : (Jvm.Cond.methodLink "IdeaCageModel" (101 : Nat) ({ cls := "IdeaCageModel", name := "noColumn", desc := "(I)Z" } : Jvm.MethodName)) ∈ tb := tbm (tb3 161 (by decide +kernel)) rfl
theorem tm_3_162 : (Jvm.Cond.static ({ cls := "IdeaCageModel", name := "noColumn", desc := "(I)Z" } : Jvm.MethodName)) ∈ tb := tbm (tb3 162 (by decide +kernel)) rfl
theorem tm_3_164 : (Jvm.Cond.methodLink "IdeaCageModel" (105 : Nat) ({ cls := "IdeaCageModel", name := "partAt", desc := "(I)I" } : Jvm.MethodName)) ∈ tb := tbm (tb3 164 (by decide +kernel)) rfl
theorem tm_3_166 : (Jvm.Cond.instanceMethod ({ cls := "IdeaCageModel", name := "partAt", desc := "(I)I" } : Jvm.MethodName)) ∈ tb := tbm (tb3 166 (by decide +kernel)) rfl
theorem tm_3_168 : (Jvm.Cond.methodLink "IdeaCageModel" (117 : Nat) ({ cls := "IdeaCageModel", name := "standsBy", desc := "(IZZZZZ)Z" } : Jvm.MethodName)) ∈ tb := tbm (tb3 168 (by decide +kernel)) rfl
theorem tm_3_169 : (Jvm.Cond.static ({ cls := "IdeaCageModel", name := "standsBy", desc := "(IZZZZZ)Z" } : Jvm.MethodName)) ∈ tb := tbm (tb3 169 (by decide +kernel)) rfl
theorem tm_3_171 : (Jvm.Cond.methodLink "IdeaCageModel" (129 : Nat) ({ cls := "IdeaCageModel", name := "many", desc := "(I)I" } : Jvm.MethodName)) ∈ tb := tbm (tb3 171 (by decide +kernel)) rfl
theorem tm_3_172 : (Jvm.Cond.static ({ cls := "IdeaCageModel", name := "many", desc := "(I)I" } : Jvm.MethodName)) ∈ tb := tbm (tb3 172 (by decide +kernel)) rfl
theorem tm_3_174 : (Jvm.Cond.methodLink "IdeaCageLaw" (39 : Nat) ({ cls := "IdeaCageModel", name := "part", desc := "(II)I" } : Jvm.MethodName)) ∈ tb := tbm (tb3 174 (by decide +kernel)) rfl
theorem tm_3_175 : (Jvm.Cond.instanceMethod ({ cls := "IdeaCageModel", name := "part", desc := "(II)I" } : Jvm.MethodName)) ∈ tb := tbm (tb3 175 (by decide +kernel)) rfl
theorem tm_3_176 : (Jvm.Cond.selects "IdeaCageModel" ({ cls := "IdeaCageModel", name := "part", desc := "(II)I" } : Jvm.MethodName) ({ cls := "IdeaCageModel", name := "part", desc := "(II)I" } : Jvm.MethodName)) ∈ tb := tbm (tb3 176 (by decide +kernel)) rfl
theorem tm_3_178 : (Jvm.Cond.methodLink "IdeaCageModel" (147 : Nat) ({ cls := "IdeaCageModel", name := "noPart", desc := "(I)Z" } : Jvm.MethodName)) ∈ tb := tbm (tb3 178 (by decide +kernel)) rfl
theorem tm_3_180 : (Jvm.Cond.instanceMethod ({ cls := "IdeaCageModel", name := "noPart", desc := "(I)Z" } : Jvm.MethodName)) ∈ tb := tbm (tb3 180 (by decide +kernel)) rfl
theorem tm_3_182 : (Jvm.Cond.methodLink "IdeaCageLaw" (43 : Nat) ({ cls := "IdeaCageModel", name := "column", desc := "(I)I" } : Jvm.MethodName)) ∈ tb := tbm (tb3 182 (by decide +kernel)) rfl
theorem tm_3_183 : (Jvm.Cond.instanceMethod ({ cls := "IdeaCageModel", name := "column", desc := "(I)I" } : Jvm.MethodName)) ∈ tb := tbm (tb3 183 (by decide +kernel)) rfl
theorem tm_3_184 : (Jvm.Cond.selects "IdeaCageModel" ({ cls := "IdeaCageModel", name := "column", desc := "(I)I" } : Jvm.MethodName) ({ cls := "IdeaCageModel", name := "column", desc := "(I)I" } : Jvm.MethodName)) ∈ tb := tbm (tb3 184 (by decide +kernel)) rfl
theorem tm_3_186 : (Jvm.Cond.methodLink "IdeaCageLaw" (47 : Nat) ({ cls := "IdeaCageModel", name := "at", desc := "(I)I" } : Jvm.MethodName)) ∈ tb := tbm (tb3 186 (by decide +kernel)) rfl
theorem tm_3_187 : (Jvm.Cond.instanceMethod ({ cls := "IdeaCageModel", name := "at", desc := "(I)I" } : Jvm.MethodName)) ∈ tb := tbm (tb3 187 (by decide +kernel)) rfl
theorem tm_3_188 : (Jvm.Cond.selects "IdeaCageModel" ({ cls := "IdeaCageModel", name := "at", desc := "(I)I" } : Jvm.MethodName) ({ cls := "IdeaCageModel", name := "at", desc := "(I)I" } : Jvm.MethodName)) ∈ tb := tbm (tb3 188 (by decide +kernel)) rfl
theorem tm_3_190 : (Jvm.Cond.methodLink "IdeaCageLaw" (51 : Nat) ({ cls := "IdeaCageModel", name := "put", desc := "(I)I" } : Jvm.MethodName)) ∈ tb := tbm (tb3 190 (by decide +kernel)) rfl
theorem tm_3_191 : (Jvm.Cond.instanceMethod ({ cls := "IdeaCageModel", name := "put", desc := "(I)I" } : Jvm.MethodName)) ∈ tb := tbm (tb3 191 (by decide +kernel)) rfl
theorem tm_3_192 : (Jvm.Cond.selects "IdeaCageModel" ({ cls := "IdeaCageModel", name := "put", desc := "(I)I" } : Jvm.MethodName) ({ cls := "IdeaCageModel", name := "put", desc := "(I)I" } : Jvm.MethodName)) ∈ tb := tbm (tb3 192 (by decide +kernel)) rfl
theorem tm_3_194 : (Jvm.Cond.methodLink "IdeaCageModel" (150 : Nat) ({ cls := "IdeaCageModel", name := "note", desc := "()V" } : Jvm.MethodName)) ∈ tb := tbm (tb3 194 (by decide +kernel)) rfl
theorem tm_3_196 : (Jvm.Cond.instanceMethod ({ cls := "IdeaCageModel", name := "note", desc := "()V" } : Jvm.MethodName)) ∈ tb := tbm (tb3 196 (by decide +kernel)) rfl
theorem tm_3_198 : (Jvm.Cond.methodLink "IdeaCageModel" (153 : Nat) ({ cls := "IdeaCageModel", name := "goPut", desc := "([II)Z" } : Jvm.MethodName)) ∈ tb := tbm (tb3 198 (by decide +kernel)) rfl
theorem tm_3_200 : (Jvm.Cond.instanceMethod ({ cls := "IdeaCageModel", name := "goPut", desc := "([II)Z" } : Jvm.MethodName)) ∈ tb := tbm (tb3 200 (by decide +kernel)) rfl
theorem tm_3_202 : (Jvm.Cond.methodLink "IdeaCageLaw" (55 : Nat) ({ cls := "IdeaCageModel", name := "strike", desc := "(I)I" } : Jvm.MethodName)) ∈ tb := tbm (tb3 202 (by decide +kernel)) rfl
theorem tm_3_203 : (Jvm.Cond.instanceMethod ({ cls := "IdeaCageModel", name := "strike", desc := "(I)I" } : Jvm.MethodName)) ∈ tb := tbm (tb3 203 (by decide +kernel)) rfl
theorem tm_3_204 : (Jvm.Cond.selects "IdeaCageModel" ({ cls := "IdeaCageModel", name := "strike", desc := "(I)I" } : Jvm.MethodName) ({ cls := "IdeaCageModel", name := "strike", desc := "(I)I" } : Jvm.MethodName)) ∈ tb := tbm (tb3 204 (by decide +kernel)) rfl
theorem tm_3_206 : (Jvm.Cond.methodLink "IdeaCageModel" (156 : Nat) ({ cls := "IdeaCageModel", name := "goStrike", desc := "([II)I" } : Jvm.MethodName)) ∈ tb := tbm (tb3 206 (by decide +kernel)) rfl
theorem tm_3_208 : (Jvm.Cond.instanceMethod ({ cls := "IdeaCageModel", name := "goStrike", desc := "([II)I" } : Jvm.MethodName)) ∈ tb := tbm (tb3 208 (by decide +kernel)) rfl
theorem tm_3_210 : (Jvm.Cond.methodLink "IdeaCageLaw" (59 : Nat) ({ cls := "IdeaCageModel", name := "rain", desc := "()I" } : Jvm.MethodName)) ∈ tb := tbm (tb3 210 (by decide +kernel)) rfl
theorem tm_3_211 : (Jvm.Cond.instanceMethod ({ cls := "IdeaCageModel", name := "rain", desc := "()I" } : Jvm.MethodName)) ∈ tb := tbm (tb3 211 (by decide +kernel)) rfl
theorem tm_3_212 : (Jvm.Cond.selects "IdeaCageModel" ({ cls := "IdeaCageModel", name := "rain", desc := "()I" } : Jvm.MethodName) ({ cls := "IdeaCageModel", name := "rain", desc := "()I" } : Jvm.MethodName)) ∈ tb := tbm (tb3 212 (by decide +kernel)) rfl
theorem tm_3_214 : (Jvm.Cond.methodLink "IdeaCageModel" (160 : Nat) ({ cls := "IdeaCageModel", name := "goRain", desc := "([I)I" } : Jvm.MethodName)) ∈ tb := tbm (tb3 214 (by decide +kernel)) rfl
theorem tm_3_216 : (Jvm.Cond.instanceMethod ({ cls := "IdeaCageModel", name := "goRain", desc := "([I)I" } : Jvm.MethodName)) ∈ tb := tbm (tb3 216 (by decide +kernel)) rfl
theorem tm_3_218 : (Jvm.Cond.methodLink "IdeaCageLaw" (63 : Nat) ({ cls := "IdeaCageModel", name := "undo", desc := "()I" } : Jvm.MethodName)) ∈ tb := tbm (tb3 218 (by decide +kernel)) rfl
theorem tm_3_219 : (Jvm.Cond.instanceMethod ({ cls := "IdeaCageModel", name := "undo", desc := "()I" } : Jvm.MethodName)) ∈ tb := tbm (tb3 219 (by decide +kernel)) rfl
theorem tm_3_220 : (Jvm.Cond.selects "IdeaCageModel" ({ cls := "IdeaCageModel", name := "undo", desc := "()I" } : Jvm.MethodName) ({ cls := "IdeaCageModel", name := "undo", desc := "()I" } : Jvm.MethodName)) ∈ tb := tbm (tb3 220 (by decide +kernel)) rfl
theorem tm_3_222 : (Jvm.Cond.methodLink "IdeaCageLaw" (67 : Nat) ({ cls := "IdeaCageModel", name := "loses", desc := "(I)I" } : Jvm.MethodName)) ∈ tb := tbm (tb3 222 (by decide +kernel)) rfl
theorem tm_3_223 : (Jvm.Cond.instanceMethod ({ cls := "IdeaCageModel", name := "loses", desc := "(I)I" } : Jvm.MethodName)) ∈ tb := tbm (tb3 223 (by decide +kernel)) rfl
theorem tm_3_224 : (Jvm.Cond.selects "IdeaCageModel" ({ cls := "IdeaCageModel", name := "loses", desc := "(I)I" } : Jvm.MethodName) ({ cls := "IdeaCageModel", name := "loses", desc := "(I)I" } : Jvm.MethodName)) ∈ tb := tbm (tb3 224 (by decide +kernel)) rfl
theorem tm_3_226 : (Jvm.Cond.methodLink "IdeaCageLaw" (71 : Nat) ({ cls := "IdeaCageModel", name := "down", desc := "(I)I" } : Jvm.MethodName)) ∈ tb := tbm (tb3 226 (by decide +kernel)) rfl
theorem tm_3_227 : (Jvm.Cond.instanceMethod ({ cls := "IdeaCageModel", name := "down", desc := "(I)I" } : Jvm.MethodName)) ∈ tb := tbm (tb3 227 (by decide +kernel)) rfl
theorem tm_3_228 : (Jvm.Cond.selects "IdeaCageModel" ({ cls := "IdeaCageModel", name := "down", desc := "(I)I" } : Jvm.MethodName) ({ cls := "IdeaCageModel", name := "down", desc := "(I)I" } : Jvm.MethodName)) ∈ tb := tbm (tb3 228 (by decide +kernel)) rfl
theorem tm_3_230 : (Jvm.Cond.methodLink "IdeaCageLaw" (75 : Nat) ({ cls := "IdeaCageModel", name := "soon", desc := "(II)I" } : Jvm.MethodName)) ∈ tb := tbm (tb3 230 (by decide +kernel)) rfl
theorem tm_3_231 : (Jvm.Cond.instanceMethod ({ cls := "IdeaCageModel", name := "soon", desc := "(II)I" } : Jvm.MethodName)) ∈ tb := tbm (tb3 231 (by decide +kernel)) rfl
theorem tm_3_232 : (Jvm.Cond.selects "IdeaCageModel" ({ cls := "IdeaCageModel", name := "soon", desc := "(II)I" } : Jvm.MethodName) ({ cls := "IdeaCageModel", name := "soon", desc := "(II)I" } : Jvm.MethodName)) ∈ tb := tbm (tb3 232 (by decide +kernel)) rfl
theorem tm_3_234 : (Jvm.Cond.methodLink "IdeaCageModel" (176 : Nat) ({ cls := "IdeaCageModel", name := "findSoon", desc := "(I)V" } : Jvm.MethodName)) ∈ tb := tbm (tb3 234 (by decide +kernel)) rfl
theorem tm_3_236 : (Jvm.Cond.instanceMethod ({ cls := "IdeaCageModel", name := "findSoon", desc := "(I)V" } : Jvm.MethodName)) ∈ tb := tbm (tb3 236 (by decide +kernel)) rfl
theorem tm_3_238 : (Jvm.Cond.methodLink "IdeaCageModel" (166 : Nat) ({ cls := "IdeaCageModel", name := "power", desc := "(II)I" } : Jvm.MethodName)) ∈ tb := tbm (tb3 238 (by decide +kernel)) rfl
theorem tm_3_239 : (Jvm.Cond.static ({ cls := "IdeaCageModel", name := "power", desc := "(II)I" } : Jvm.MethodName)) ∈ tb := tbm (tb3 239 (by decide +kernel)) rfl
theorem tm_4_1 : (Jvm.Cond.methodLink "IdeaCageModel" (170 : Nat) ({ cls := "IdeaCageModel", name := "actsBy", desc := "(II)Z" } : Jvm.MethodName)) ∈ tb := tbm (tb4 1 (by decide +kernel)) rfl
theorem tm_4_3 : (Jvm.Cond.instanceMethod ({ cls := "IdeaCageModel", name := "actsBy", desc := "(II)Z" } : Jvm.MethodName)) ∈ tb := tbm (tb4 3 (by decide +kernel)) rfl
theorem tm_4_5 : (Jvm.Cond.methodLink "IdeaCageLaw" (82 : Nat) ({ cls := "IdeaCageModel", name := "judge", desc := "(IJ)I" } : Jvm.MethodName)) ∈ tb := tbm (tb4 5 (by decide +kernel)) rfl
theorem tm_4_6 : (Jvm.Cond.instanceMethod ({ cls := "IdeaCageModel", name := "judge", desc := "(IJ)I" } : Jvm.MethodName)) ∈ tb := tbm (tb4 6 (by decide +kernel)) rfl
theorem tm_4_7 : (Jvm.Cond.selects "IdeaCageModel" ({ cls := "IdeaCageModel", name := "judge", desc := "(IJ)I" } : Jvm.MethodName) ({ cls := "IdeaCageModel", name := "judge", desc := "(IJ)I" } : Jvm.MethodName)) ∈ tb := tbm (tb4 7 (by decide +kernel)) rfl
theorem tm_4_9 : (Jvm.Cond.constantLong "IdeaCageModel" (183 : Nat) (4 : Int64)) ∈ tb := tbm (tb4 9 (by decide +kernel)) rfl
theorem tm_4_10 : (Jvm.Cond.constantLong "IdeaCageModel" (185 : Nat) (1000 : Int64)) ∈ tb := tbm (tb4 10 (by decide +kernel)) rfl
theorem tm_4_11 : (Jvm.Cond.methodLink "IdeaCageModel" (187 : Nat) ({ cls := "IdeaCageModel", name := "longPower", desc := "(JI)J" } : Jvm.MethodName)) ∈ tb := tbm (tb4 11 (by decide +kernel)) rfl
theorem tm_4_12 : (Jvm.Cond.static ({ cls := "IdeaCageModel", name := "longPower", desc := "(JI)J" } : Jvm.MethodName)) ∈ tb := tbm (tb4 12 (by decide +kernel)) rfl
theorem tm_4_14 : (Jvm.Cond.methodLink "IdeaCageModel" (191 : Nat) ({ cls := "IdeaCageModel", name := "does", desc := "(I)Z" } : Jvm.MethodName)) ∈ tb := tbm (tb4 14 (by decide +kernel)) rfl
theorem tm_4_16 : (Jvm.Cond.instanceMethod ({ cls := "IdeaCageModel", name := "does", desc := "(I)Z" } : Jvm.MethodName)) ∈ tb := tbm (tb4 16 (by decide +kernel)) rfl
theorem tm_4_18 : (Jvm.Cond.methodLink "IdeaCageModel" (180 : Nat) ({ cls := "IdeaCageModel", name := "strikes", desc := "(I)Z" } : Jvm.MethodName)) ∈ tb := tbm (tb4 18 (by decide +kernel)) rfl
theorem tm_4_20 : (Jvm.Cond.instanceMethod ({ cls := "IdeaCageModel", name := "strikes", desc := "(I)Z" } : Jvm.MethodName)) ∈ tb := tbm (tb4 20 (by decide +kernel)) rfl
theorem tm_4_22 : (Jvm.Cond.methodLink "IdeaCageLaw" (87 : Nat) ({ cls := "IdeaCageModel", name := "share", desc := "(IZ)I" } : Jvm.MethodName)) ∈ tb := tbm (tb4 22 (by decide +kernel)) rfl
theorem tm_4_23 : (Jvm.Cond.instanceMethod ({ cls := "IdeaCageModel", name := "share", desc := "(IZ)I" } : Jvm.MethodName)) ∈ tb := tbm (tb4 23 (by decide +kernel)) rfl
theorem tm_4_24 : (Jvm.Cond.selects "IdeaCageModel" ({ cls := "IdeaCageModel", name := "share", desc := "(IZ)I" } : Jvm.MethodName) ({ cls := "IdeaCageModel", name := "share", desc := "(IZ)I" } : Jvm.MethodName)) ∈ tb := tbm (tb4 24 (by decide +kernel)) rfl
theorem tm_4_26 : (Jvm.Cond.methodLink "IdeaCageModel" (197 : Nat) ({ cls := "IdeaCageModel", name := "ways", desc := "(I)I" } : Jvm.MethodName)) ∈ tb := tbm (tb4 26 (by decide +kernel)) rfl
theorem tm_4_27 : (Jvm.Cond.static ({ cls := "IdeaCageModel", name := "ways", desc := "(I)I" } : Jvm.MethodName)) ∈ tb := tbm (tb4 27 (by decide +kernel)) rfl
theorem tm_4_29 : (Jvm.Cond.methodLink "IdeaCageModel" (200 : Nat) ({ cls := "IdeaCageModel", name := "fraction", desc := "(IIZ)I" } : Jvm.MethodName)) ∈ tb := tbm (tb4 29 (by decide +kernel)) rfl
theorem tm_4_30 : (Jvm.Cond.static ({ cls := "IdeaCageModel", name := "fraction", desc := "(IIZ)I" } : Jvm.MethodName)) ∈ tb := tbm (tb4 30 (by decide +kernel)) rfl
theorem tm_4_32 : (Jvm.Cond.methodLink "IdeaCageModel" (194 : Nat) ({ cls := "IdeaCageModel", name := "divisor", desc := "(II)I" } : Jvm.MethodName)) ∈ tb := tbm (tb4 32 (by decide +kernel)) rfl
theorem tm_4_33 : (Jvm.Cond.static ({ cls := "IdeaCageModel", name := "divisor", desc := "(II)I" } : Jvm.MethodName)) ∈ tb := tbm (tb4 33 (by decide +kernel)) rfl
theorem tm_4_35 : (Jvm.Cond.methodLink "IdeaCageLaw" (91 : Nat) ({ cls := "IdeaCageModel", name := "attempt", desc := "(II)I" } : Jvm.MethodName)) ∈ tb := tbm (tb4 35 (by decide +kernel)) rfl
theorem tm_4_36 : (Jvm.Cond.instanceMethod ({ cls := "IdeaCageModel", name := "attempt", desc := "(II)I" } : Jvm.MethodName)) ∈ tb := tbm (tb4 36 (by decide +kernel)) rfl
theorem tm_4_37 : (Jvm.Cond.selects "IdeaCageModel" ({ cls := "IdeaCageModel", name := "attempt", desc := "(II)I" } : Jvm.MethodName) ({ cls := "IdeaCageModel", name := "attempt", desc := "(II)I" } : Jvm.MethodName)) ∈ tb := tbm (tb4 37 (by decide +kernel)) rfl
theorem tm_4_39 : (Jvm.Cond.constantLong "IdeaCageModel" (204 : Nat) (31 : Int64)) ∈ tb := tbm (tb4 39 (by decide +kernel)) rfl
theorem tm_4_40 : (Jvm.Cond.methodLink "IdeaCageLaw" (95 : Nat) ({ cls := "IdeaCageModel", name := "unattempt", desc := "()I" } : Jvm.MethodName)) ∈ tb := tbm (tb4 40 (by decide +kernel)) rfl
theorem tm_4_41 : (Jvm.Cond.instanceMethod ({ cls := "IdeaCageModel", name := "unattempt", desc := "()I" } : Jvm.MethodName)) ∈ tb := tbm (tb4 41 (by decide +kernel)) rfl
theorem tm_4_42 : (Jvm.Cond.selects "IdeaCageModel" ({ cls := "IdeaCageModel", name := "unattempt", desc := "()I" } : Jvm.MethodName) ({ cls := "IdeaCageModel", name := "unattempt", desc := "()I" } : Jvm.MethodName)) ∈ tb := tbm (tb4 42 (by decide +kernel)) rfl
theorem tm_4_44 : (Jvm.Cond.methodLink "IdeaCageLaw" (99 : Nat) ({ cls := "IdeaCageModel", name := "kinds", desc := "(I)I" } : Jvm.MethodName)) ∈ tb := tbm (tb4 44 (by decide +kernel)) rfl
theorem tm_4_45 : (Jvm.Cond.instanceMethod ({ cls := "IdeaCageModel", name := "kinds", desc := "(I)I" } : Jvm.MethodName)) ∈ tb := tbm (tb4 45 (by decide +kernel)) rfl
theorem tm_4_46 : (Jvm.Cond.selects "IdeaCageModel" ({ cls := "IdeaCageModel", name := "kinds", desc := "(I)I" } : Jvm.MethodName) ({ cls := "IdeaCageModel", name := "kinds", desc := "(I)I" } : Jvm.MethodName)) ∈ tb := tbm (tb4 46 (by decide +kernel)) rfl
theorem tm_4_48 : (Jvm.Cond.methodLink "IdeaCageLaw" (104 : Nat) ({ cls := "IdeaCageModel", name := "rests", desc := "(III)I" } : Jvm.MethodName)) ∈ tb := tbm (tb4 48 (by decide +kernel)) rfl
theorem tm_4_49 : (Jvm.Cond.instanceMethod ({ cls := "IdeaCageModel", name := "rests", desc := "(III)I" } : Jvm.MethodName)) ∈ tb := tbm (tb4 49 (by decide +kernel)) rfl
theorem tm_4_50 : (Jvm.Cond.selects "IdeaCageModel" ({ cls := "IdeaCageModel", name := "rests", desc := "(III)I" } : Jvm.MethodName) ({ cls := "IdeaCageModel", name := "rests", desc := "(III)I" } : Jvm.MethodName)) ∈ tb := tbm (tb4 50 (by decide +kernel)) rfl
theorem tm_4_52 : (Jvm.Cond.methodLink "IdeaCageModel" (212 : Nat) ({ cls := "IdeaCageModel", name := "chooses", desc := "(II)V" } : Jvm.MethodName)) ∈ tb := tbm (tb4 52 (by decide +kernel)) rfl
theorem tm_4_54 : (Jvm.Cond.instanceMethod ({ cls := "IdeaCageModel", name := "chooses", desc := "(II)V" } : Jvm.MethodName)) ∈ tb := tbm (tb4 54 (by decide +kernel)) rfl
theorem tm_4_56 : (Jvm.Cond.methodLink "IdeaCageModel" (216 : Nat) ({ cls := "IdeaCageModel", name := "gain", desc := "(I)I" } : Jvm.MethodName)) ∈ tb := tbm (tb4 56 (by decide +kernel)) rfl
theorem tm_4_58 : (Jvm.Cond.instanceMethod ({ cls := "IdeaCageModel", name := "gain", desc := "(I)I" } : Jvm.MethodName)) ∈ tb := tbm (tb4 58 (by decide +kernel)) rfl
theorem tm_4_60 : (Jvm.Cond.methodLink "IdeaCageLaw" (109 : Nat) ({ cls := "IdeaCageModel", name := "wet", desc := "(IIZ)I" } : Jvm.MethodName)) ∈ tb := tbm (tb4 60 (by decide +kernel)) rfl
theorem tm_4_61 : (Jvm.Cond.instanceMethod ({ cls := "IdeaCageModel", name := "wet", desc := "(IIZ)I" } : Jvm.MethodName)) ∈ tb := tbm (tb4 61 (by decide +kernel)) rfl
theorem tm_4_62 : (Jvm.Cond.selects "IdeaCageModel" ({ cls := "IdeaCageModel", name := "wet", desc := "(IIZ)I" } : Jvm.MethodName) ({ cls := "IdeaCageModel", name := "wet", desc := "(IIZ)I" } : Jvm.MethodName)) ∈ tb := tbm (tb4 62 (by decide +kernel)) rfl
theorem tm_4_64 : (Jvm.Cond.constantLong "IdeaCageModel" (225 : Nat) (7 : Int64)) ∈ tb := tbm (tb4 64 (by decide +kernel)) rfl
theorem tm_4_65 : (Jvm.Cond.constantLong "IdeaCageModel" (227 : Nat) (10 : Int64)) ∈ tb := tbm (tb4 65 (by decide +kernel)) rfl
theorem tm_4_66 : (Jvm.Cond.methodLink "IdeaCageModel" (229 : Nat) ({ cls := "IdeaCageModel", name := "columnsWith", desc := "()I" } : Jvm.MethodName)) ∈ tb := tbm (tb4 66 (by decide +kernel)) rfl
theorem tm_4_68 : (Jvm.Cond.instanceMethod ({ cls := "IdeaCageModel", name := "columnsWith", desc := "()I" } : Jvm.MethodName)) ∈ tb := tbm (tb4 68 (by decide +kernel)) rfl
theorem tm_4_70 : (Jvm.Cond.methodLink "IdeaCageLaw" (114 : Nat) ({ cls := "IdeaCageModel", name := "seed", desc := "(J)J" } : Jvm.MethodName)) ∈ tb := tbm (tb4 70 (by decide +kernel)) rfl
theorem tm_4_71 : (Jvm.Cond.instanceMethod ({ cls := "IdeaCageModel", name := "seed", desc := "(J)J" } : Jvm.MethodName)) ∈ tb := tbm (tb4 71 (by decide +kernel)) rfl
theorem tm_4_72 : (Jvm.Cond.selects "IdeaCageModel" ({ cls := "IdeaCageModel", name := "seed", desc := "(J)J" } : Jvm.MethodName) ({ cls := "IdeaCageModel", name := "seed", desc := "(J)J" } : Jvm.MethodName)) ∈ tb := tbm (tb4 72 (by decide +kernel)) rfl
theorem tm_4_74 : (Jvm.Cond.methodLink "IdeaCageLaw" (118 : Nat) ({ cls := "IdeaCageModel", name := "terms", desc := "(I)I" } : Jvm.MethodName)) ∈ tb := tbm (tb4 74 (by decide +kernel)) rfl
theorem tm_4_75 : (Jvm.Cond.instanceMethod ({ cls := "IdeaCageModel", name := "terms", desc := "(I)I" } : Jvm.MethodName)) ∈ tb := tbm (tb4 75 (by decide +kernel)) rfl
theorem tm_4_76 : (Jvm.Cond.selects "IdeaCageModel" ({ cls := "IdeaCageModel", name := "terms", desc := "(I)I" } : Jvm.MethodName) ({ cls := "IdeaCageModel", name := "terms", desc := "(I)I" } : Jvm.MethodName)) ∈ tb := tbm (tb4 76 (by decide +kernel)) rfl
theorem tm_4_78 : (Jvm.Cond.constantLong "IdeaCageModel" (236 : Nat) (30 : Int64)) ∈ tb := tbm (tb4 78 (by decide +kernel)) rfl
theorem tm_4_79 : (Jvm.Cond.constantLong "IdeaCageModel" (238 : Nat) (6364136223846793005 : Int64)) ∈ tb := tbm (tb4 79 (by decide +kernel)) rfl
theorem tm_4_80 : (Jvm.Cond.constantLong "IdeaCageModel" (240 : Nat) (1442695040888963407 : Int64)) ∈ tb := tbm (tb4 80 (by decide +kernel)) rfl
theorem tm_4_81 : (Jvm.Cond.constantLong "IdeaCageModel" (242 : Nat) (16 : Int64)) ∈ tb := tbm (tb4 81 (by decide +kernel)) rfl
theorem tm_4_82 : (Jvm.Cond.methodLink "IdeaCageLaw" (122 : Nat) ({ cls := "IdeaCageModel", name := "keep", desc := "(I)I" } : Jvm.MethodName)) ∈ tb := tbm (tb4 82 (by decide +kernel)) rfl
theorem tm_4_83 : (Jvm.Cond.instanceMethod ({ cls := "IdeaCageModel", name := "keep", desc := "(I)I" } : Jvm.MethodName)) ∈ tb := tbm (tb4 83 (by decide +kernel)) rfl
theorem tm_4_84 : (Jvm.Cond.selects "IdeaCageModel" ({ cls := "IdeaCageModel", name := "keep", desc := "(I)I" } : Jvm.MethodName) ({ cls := "IdeaCageModel", name := "keep", desc := "(I)I" } : Jvm.MethodName)) ∈ tb := tbm (tb4 84 (by decide +kernel)) rfl
theorem tm_4_86 : (Jvm.Cond.methodLink "IdeaCageLaw" (126 : Nat) ({ cls := "IdeaCageModel", name := "again", desc := "(I)I" } : Jvm.MethodName)) ∈ tb := tbm (tb4 86 (by decide +kernel)) rfl
theorem tm_4_87 : (Jvm.Cond.instanceMethod ({ cls := "IdeaCageModel", name := "again", desc := "(I)I" } : Jvm.MethodName)) ∈ tb := tbm (tb4 87 (by decide +kernel)) rfl
theorem tm_4_88 : (Jvm.Cond.selects "IdeaCageModel" ({ cls := "IdeaCageModel", name := "again", desc := "(I)I" } : Jvm.MethodName) ({ cls := "IdeaCageModel", name := "again", desc := "(I)I" } : Jvm.MethodName)) ∈ tb := tbm (tb4 88 (by decide +kernel)) rfl
theorem tm_4_90 : (Jvm.Cond.constantLong "IdeaCageLaw" (76 : Nat) (4294967295 : Int64)) ∈ tb := tbm (tb4 90 (by decide +kernel)) rfl
