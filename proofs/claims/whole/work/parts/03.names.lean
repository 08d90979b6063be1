/-! NAMES: words of the tables, classes, fields, methods (laid by my program out of the task) -/
/-- the words of the tables that stay true under warmer tables -/
def wAll : List Cond := lw_tbl.filter goodWord
theorem wA {w : Cond} (i : Nat) (h : tables_1[i]? = some w) (hg : goodWord w = true) : w ∈ wAll := List.mem_filter.mpr ⟨List.mem_append_right _ (List.mem_of_getElem? h), hg⟩
theorem wA_tbl {w : Cond} (h : w ∈ wAll) : w ∈ lw_tbl := (List.mem_filter.mp h).1
theorem wA_good : ∀ w ∈ wAll, (w.onTables && w.keeps) = true ∨ ∃ ty, w = .arrayClass ty := fun _ h => good_of_word (List.mem_filter.mp h).2
theorem wP {y : MethodName} {n : Nat} (h : (y, n) ∈ lw_privs) : Cond.selects y.cls y y ∈ wAll := List.mem_filter.mpr ⟨List.mem_append_left _ (List.mem_map.mpr ⟨(y, n), h, rfl⟩), rfl⟩
theorem gV {own : String} {idx : Nat} {C : String} {y : MethodName} {b : ByteArray} {n : Nat} {r : Option FieldType} (h1 : Cond.methodLink own idx y ∈ wAll) (h2 : Cond.instanceMethod y ∈ wAll) (h3 : Cond.selects C y y ∈ wAll) (h4 : Cond.initialized C ∈ wAll) (h5 : Cond.code y b n r ∈ wAll) : GoodIn wAll (wsV own idx C y (Cond.code y b n r :: wAll)) := by
  intro w hw
  have key : w ∈ wAll := by
    simp only [wsV, List.mem_append, List.mem_cons, List.not_mem_nil, or_false] at hw
    rcases hw with (rfl | rfl | rfl | rfl) | rfl | h
    · exact h1
    · exact h2
    · exact h3
    · exact h4
    · exact h5
    · exact h
  exact ⟨key, wA_good w key⟩
theorem gS {own : String} {idx : Nat} {y : MethodName} {b : ByteArray} {n : Nat} {r : Option FieldType} (h1 : Cond.methodLink own idx y ∈ wAll) (h2 : Cond.static y ∈ wAll) (h4 : Cond.initialized y.cls ∈ wAll) (h5 : Cond.code y b n r ∈ wAll) : GoodIn wAll (va_wsS own idx y (Cond.code y b n r :: wAll)) := by
  intro w hw
  have key : w ∈ wAll := by
    simp only [va_wsS, List.mem_append, List.mem_cons, List.not_mem_nil, or_false] at hw
    rcases hw with (rfl | rfl | rfl) | rfl | h
    · exact h1
    · exact h2
    · exact h4
    · exact h5
    · exact h
  exact ⟨key, wA_good w key⟩
theorem gI {y : MethodName} {b : ByteArray} {n : Nat} {r : Option FieldType} (h5 : Cond.code y b n r ∈ wAll) : GoodIn wAll (Cond.code y b n r :: wAll) := by
  intro w hw
  have key : w ∈ wAll := by
    rcases List.mem_cons.mp hw with rfl | h
    · exact h5
    · exact h
  exact ⟨key, wA_good w key⟩
theorem gSW {own : String} {idx : Nat} {y : MethodName} {b : ByteArray} {n : Nat} {r : Option FieldType} {hh : List (Nat × Nat × Nat × Nat)} (h1 : Cond.methodLink own idx y ∈ wAll) (h2 : Cond.static y ∈ wAll) (h4 : Cond.initialized y.cls ∈ wAll) (h5 : Cond.codeWith y b n r hh ∈ wAll) : GoodIn wAll (va_wsS own idx y (Cond.codeWith y b n r hh :: wAll)) := by
  intro w hw
  have key : w ∈ wAll := by
    simp only [va_wsS, List.mem_append, List.mem_cons, List.not_mem_nil, or_false] at hw
    rcases hw with (rfl | rfl | rfl) | rfl | h
    · exact h1
    · exact h2
    · exact h4
    · exact h5
    · exact h
  exact ⟨key, wA_good w key⟩
abbrev bX_init : ByteArray := prog_1_method_1_code
def yX_init : MethodName := ⟨"GroupRows", "<init>", "()V"⟩
abbrev bJO_init : ByteArray := object_method_1_code
def yJO_init : MethodName := ⟨"java/lang/Object", "<init>", "()V"⟩
abbrev bX_rows : ByteArray := prog_1_method_8_code
def yX_rows : MethodName := ⟨"GroupRows", "rows", "()I"⟩
abbrev bX_find : ByteArray := prog_1_method_9_code
def yX_find : MethodName := ⟨"GroupRows", "find", "()I"⟩
abbrev bX_lowerPlace : ByteArray := prog_1_method_23_code
def yX_lowerPlace : MethodName := ⟨"GroupRows", "lowerPlace", "([III)I"⟩
abbrev bX_compareKey : ByteArray := prog_1_method_25_code
def yX_compareKey : MethodName := ⟨"GroupRows", "compareKey", "(I[II)I"⟩
abbrev bJI_compare : ByteArray := prog_6_method_40_code
def yJI_compare : MethodName := ⟨"java/lang/Integer", "compare", "(II)I"⟩
abbrev bX_isKeyAt : ByteArray := prog_1_method_24_code
def yX_isKeyAt : MethodName := ⟨"GroupRows", "isKeyAt", "(I[III)Z"⟩
abbrev bL_begin : ByteArray := method_3_code
def yL_begin : MethodName := ⟨"GroupRowsLaw", "begin", "(LGroupRows;II)I"⟩
abbrev bX_begin : ByteArray := prog_1_method_2_code
def yX_begin : MethodName := ⟨"GroupRows", "begin", "(II)V"⟩
abbrev bJA_fillI : ByteArray := prog_12_method_103_code
def yJA_fillI : MethodName := ⟨"java/util/Arrays", "fill", "([II)V"⟩
abbrev bJA_fillJ : ByteArray := prog_12_method_101_code
def yJA_fillJ : MethodName := ⟨"java/util/Arrays", "fill", "([JJ)V"⟩
abbrev bL_key : ByteArray := method_4_code
def yL_key : MethodName := ⟨"GroupRowsLaw", "key", "(LGroupRows;II[J)I"⟩
abbrev bX_key : ByteArray := prog_1_method_3_code
def yX_key : MethodName := ⟨"GroupRows", "key", "(II)I"⟩
abbrev bX_isPart : ByteArray := prog_1_method_13_code
def yX_isPart : MethodName := ⟨"GroupRows", "isPart", "(I)Z"⟩
abbrev bL_amount : ByteArray := method_5_code
def yL_amount : MethodName := ⟨"GroupRowsLaw", "amount", "(LGroupRows;IJ[J)I"⟩
abbrev bX_amount : ByteArray := prog_1_method_4_code
def yX_amount : MethodName := ⟨"GroupRows", "amount", "(IJ)J"⟩
abbrev bX_isMeasure : ByteArray := prog_1_method_14_code
def yX_isMeasure : MethodName := ⟨"GroupRows", "isMeasure", "(I)Z"⟩
abbrev bL_add : ByteArray := method_6_code
def yL_add : MethodName := ⟨"GroupRowsLaw", "add", "(LGroupRows;I[J)I"⟩
abbrev bX_add : ByteArray := prog_1_method_5_code
def yX_add : MethodName := ⟨"GroupRows", "add", "(I)I"⟩
abbrev bX_takeFact : ByteArray := prog_1_method_17_code
def yX_takeFact : MethodName := ⟨"GroupRows", "takeFact", "(I)Z"⟩
abbrev bX_openRow : ByteArray := prog_1_method_18_code
def yX_openRow : MethodName := ⟨"GroupRows", "openRow", "(I)V"⟩
abbrev bX_insertSlot : ByteArray := prog_1_method_22_code
def yX_insertSlot : MethodName := ⟨"GroupRows", "insertSlot", "(III)V"⟩
abbrev bX_joinFact : ByteArray := prog_1_method_19_code
def yX_joinFact : MethodName := ⟨"GroupRows", "joinFact", "(II)V"⟩
abbrev bJM_min : ByteArray := prog_7_method_70_code
def yJM_min : MethodName := ⟨"java/lang/Math", "min", "(JJ)J"⟩
abbrev bJM_max : ByteArray := prog_7_method_66_code
def yJM_max : MethodName := ⟨"java/lang/Math", "max", "(JJ)J"⟩
abbrev bL_spread : ByteArray := method_7_code
def yL_spread : MethodName := ⟨"GroupRowsLaw", "spread", "(LGroupRows;III[J)I"⟩
abbrev bX_spread : ByteArray := prog_1_method_6_code
def yX_spread : MethodName := ⟨"GroupRows", "spread", "(III)I"⟩
abbrev bX_stepFact : ByteArray := prog_1_method_16_code
def yX_stepFact : MethodName := ⟨"GroupRows", "stepFact", "(II)V"⟩
abbrev bL_roll : ByteArray := method_8_code
def yL_roll : MethodName := ⟨"GroupRowsLaw", "roll", "(LGroupRows;I[J)I"⟩
abbrev bX_roll : ByteArray := prog_1_method_7_code
def yX_roll : MethodName := ⟨"GroupRows", "roll", "(I)I"⟩
abbrev bX_regroup : ByteArray := prog_1_method_21_code
def yX_regroup : MethodName := ⟨"GroupRows", "regroup", "()I"⟩
abbrev bX_joinRow : ByteArray := prog_1_method_20_code
def yX_joinRow : MethodName := ⟨"GroupRows", "joinRow", "(II)V"⟩
abbrev bL_keyAt : ByteArray := method_9_code
def yL_keyAt : MethodName := ⟨"GroupRowsLaw", "keyAt", "(LGroupRows;II[J)I"⟩
abbrev bX_keyAt : ByteArray := prog_1_method_10_code
def yX_keyAt : MethodName := ⟨"GroupRows", "keyAt", "(II)I"⟩
abbrev bX_isPlace : ByteArray := prog_1_method_15_code
def yX_isPlace : MethodName := ⟨"GroupRows", "isPlace", "(I)Z"⟩
abbrev bL_count : ByteArray := method_10_code
def yL_count : MethodName := ⟨"GroupRowsLaw", "count", "(LGroupRows;I[J)I"⟩
abbrev bX_count : ByteArray := prog_1_method_11_code
def yX_count : MethodName := ⟨"GroupRows", "count", "(I)J"⟩
abbrev bL_told : ByteArray := method_11_code
def yL_told : MethodName := ⟨"GroupRowsLaw", "told", "(LGroupRows;III[J)I"⟩
abbrev bX_told : ByteArray := prog_1_method_12_code
def yX_told : MethodName := ⟨"GroupRows", "told", "(III)J"⟩
abbrev bM_init : ByteArray := prog_3_method_1_code
def yM_init : MethodName := ⟨"GroupRowsModel", "<init>", "()V"⟩
abbrev bM_thrown : ByteArray := prog_3_method_2_code
def yM_thrown : MethodName := ⟨"GroupRowsModel", "thrown", "()I"⟩
abbrev bM_begin : ByteArray := prog_3_method_3_code
def yM_begin : MethodName := ⟨"GroupRowsModel", "begin", "(II)V"⟩
abbrev bM_key : ByteArray := prog_3_method_4_code
def yM_key : MethodName := ⟨"GroupRowsModel", "key", "(II)I"⟩
abbrev bM_amount : ByteArray := prog_3_method_5_code
def yM_amount : MethodName := ⟨"GroupRowsModel", "amount", "(IJ)J"⟩
abbrev bM_add : ByteArray := prog_3_method_10_code
def yM_add : MethodName := ⟨"GroupRowsModel", "add", "(I)I"⟩
abbrev bM_comes : ByteArray := prog_3_method_9_code
def yM_comes : MethodName := ⟨"GroupRowsModel", "comes", "(I)Z"⟩
abbrev bM_before : ByteArray := prog_3_method_7_code
def yM_before : MethodName := ⟨"GroupRowsModel", "before", "()I"⟩
abbrev bM_against : ByteArray := prog_3_method_6_code
def yM_against : MethodName := ⟨"GroupRowsModel", "against", "(I)I"⟩
abbrev bM_copy : ByteArray := prog_3_method_8_code
def yM_copy : MethodName := ⟨"GroupRowsModel", "copy", "(II)V"⟩
abbrev bM_spread : ByteArray := prog_3_method_11_code
def yM_spread : MethodName := ⟨"GroupRowsModel", "spread", "(III)I"⟩
abbrev bM_roll : ByteArray := prog_3_method_14_code
def yM_roll : MethodName := ⟨"GroupRowsModel", "roll", "(I)I"⟩
abbrev bM_compared : ByteArray := prog_3_method_13_code
def yM_compared : MethodName := ⟨"GroupRowsModel", "compared", "(II)I"⟩
abbrev bM_join : ByteArray := prog_3_method_12_code
def yM_join : MethodName := ⟨"GroupRowsModel", "join", "(II)V"⟩
abbrev bM_sort : ByteArray := prog_3_method_16_code
def yM_sort : MethodName := ⟨"GroupRowsModel", "sort", "()V"⟩
abbrev bM_swap : ByteArray := prog_3_method_15_code
def yM_swap : MethodName := ⟨"GroupRowsModel", "swap", "(II)V"⟩
abbrev bM_rows : ByteArray := prog_3_method_17_code
def yM_rows : MethodName := ⟨"GroupRowsModel", "rows", "()I"⟩
abbrev bM_find : ByteArray := prog_3_method_18_code
def yM_find : MethodName := ⟨"GroupRowsModel", "find", "()I"⟩
abbrev bM_keyAt : ByteArray := prog_3_method_20_code
def yM_keyAt : MethodName := ⟨"GroupRowsModel", "keyAt", "(II)I"⟩
abbrev bM_isRow : ByteArray := prog_3_method_19_code
def yM_isRow : MethodName := ⟨"GroupRowsModel", "isRow", "(I)Z"⟩
abbrev bM_count : ByteArray := prog_3_method_21_code
def yM_count : MethodName := ⟨"GroupRowsModel", "count", "(I)J"⟩
abbrev bM_told : ByteArray := prog_3_method_22_code
def yM_told : MethodName := ⟨"GroupRowsModel", "told", "(III)J"⟩
abbrev bL_law : ByteArray := code
def yL_law : MethodName := ⟨"GroupRowsLaw", "law", "([I)Z"⟩
theorem w0 : (Cond.initialized "GroupRowsLaw" : Cond) ∈ wAll := wA 0 (by decide +kernel) (by decide +kernel)
theorem w1 : (Cond.initialized "GroupRows" : Cond) ∈ wAll := wA 1 (by decide +kernel) (by decide +kernel)
theorem w2 : (Cond.initialized "GroupRowsModel" : Cond) ∈ wAll := wA 2 (by decide +kernel) (by decide +kernel)
theorem w3 : (Cond.initialized "java/lang/Throwable" : Cond) ∈ wAll := wA 3 (by decide +kernel) (by decide +kernel)
theorem w4 : (Cond.initialized "java/lang/Exception" : Cond) ∈ wAll := wA 4 (by decide +kernel) (by decide +kernel)
theorem w5 : (Cond.initialized "java/lang/RuntimeException" : Cond) ∈ wAll := wA 5 (by decide +kernel) (by decide +kernel)
theorem w6 : (Cond.initialized "java/lang/IllegalArgumentException" : Cond) ∈ wAll := wA 6 (by decide +kernel) (by decide +kernel)
theorem w7 : (Cond.initialized "java/util/Arrays" : Cond) ∈ wAll := wA 7 (by decide +kernel) (by decide +kernel)
theorem w8 : (Cond.initialized "java/lang/Integer" : Cond) ∈ wAll := wA 8 (by decide +kernel) (by decide +kernel)
theorem w9 : (Cond.initialized "java/lang/System" : Cond) ∈ wAll := wA 9 (by decide +kernel) (by decide +kernel)
theorem w10 : (Cond.initialized "java/lang/Math" : Cond) ∈ wAll := wA 10 (by decide +kernel) (by decide +kernel)
theorem w11 : (Cond.classLink "GroupRowsLaw" 8 "GroupRows" : Cond) ∈ wAll := wA 11 (by decide +kernel) (by decide +kernel)
theorem w12 : (Cond.instantiable "GroupRows" 11 : Cond) ∈ wAll := wA 12 (by decide +kernel) (by decide +kernel)
theorem w13 : (Cond.methodLink "GroupRowsLaw" 45 ⟨"GroupRows", "<init>", "()V"⟩ : Cond) ∈ wAll := wA 13 (by decide +kernel) (by decide +kernel)
theorem w14 : (Cond.instanceMethod ⟨"GroupRows", "<init>", "()V"⟩ : Cond) ∈ wAll := wA 14 (by decide +kernel) (by decide +kernel)
theorem w15 : (Cond.code ⟨"GroupRows", "<init>", "()V"⟩ prog_1_method_1_code 2 none : Cond) ∈ wAll := wA 15 (by decide +kernel) (by decide +kernel)
theorem w16 : (Cond.methodLink "GroupRows" 1 ⟨"java/lang/Object", "<init>", "()V"⟩ : Cond) ∈ wAll := wA 16 (by decide +kernel) (by decide +kernel)
theorem w17 : (Cond.instanceMethod ⟨"java/lang/Object", "<init>", "()V"⟩ : Cond) ∈ wAll := wA 17 (by decide +kernel) (by decide +kernel)
theorem w18 : (Cond.code ⟨"java/lang/Object", "<init>", "()V"⟩ object_method_1_code 1 none : Cond) ∈ wAll := wA 18 (by decide +kernel) (by decide +kernel)
theorem w19 : (Cond.fieldLink "GroupRows" 7 "GroupRows" "width" "I" : Cond) ∈ wAll := wA 19 (by decide +kernel) (by decide +kernel)
theorem w20 : (Cond.fieldLink "GroupRows" 13 "GroupRows" "measures" "I" : Cond) ∈ wAll := wA 20 (by decide +kernel) (by decide +kernel)
theorem w21 : (Cond.fieldLink "GroupRows" 16 "GroupRows" "rowCount" "I" : Cond) ∈ wAll := wA 21 (by decide +kernel) (by decide +kernel)
theorem w22 : (Cond.fieldLink "GroupRows" 19 "GroupRows" "factKey" "[I" : Cond) ∈ wAll := wA 22 (by decide +kernel) (by decide +kernel)
theorem w23 : (Cond.fieldLink "GroupRows" 23 "GroupRows" "factAmounts" "[J" : Cond) ∈ wAll := wA 23 (by decide +kernel) (by decide +kernel)
theorem w24 : (Cond.fieldLink "GroupRows" 27 "GroupRows" "slots" "[I" : Cond) ∈ wAll := wA 24 (by decide +kernel) (by decide +kernel)
theorem w25 : (Cond.fieldLink "GroupRows" 30 "GroupRows" "keys" "[I" : Cond) ∈ wAll := wA 25 (by decide +kernel) (by decide +kernel)
theorem w26 : (Cond.fieldLink "GroupRows" 33 "GroupRows" "counts" "[J" : Cond) ∈ wAll := wA 26 (by decide +kernel) (by decide +kernel)
theorem w27 : (Cond.fieldLink "GroupRows" 36 "GroupRows" "sums" "[J" : Cond) ∈ wAll := wA 27 (by decide +kernel) (by decide +kernel)
theorem w28 : (Cond.fieldLink "GroupRows" 39 "GroupRows" "leasts" "[J" : Cond) ∈ wAll := wA 28 (by decide +kernel) (by decide +kernel)
theorem w29 : (Cond.fieldLink "GroupRows" 42 "GroupRows" "greatests" "[J" : Cond) ∈ wAll := wA 29 (by decide +kernel) (by decide +kernel)
theorem w30 : (Cond.lays "GroupRows" "GroupRows" "width" "I" : Cond) ∈ wAll := wA 30 (by decide +kernel) (by decide +kernel)
theorem w31 : (Cond.soleField "GroupRows" "width" : Cond) ∈ wAll := wA 31 (by decide +kernel) (by decide +kernel)
theorem w32 : (Cond.lays "GroupRows" "GroupRows" "measures" "I" : Cond) ∈ wAll := wA 32 (by decide +kernel) (by decide +kernel)
theorem w33 : (Cond.soleField "GroupRows" "measures" : Cond) ∈ wAll := wA 33 (by decide +kernel) (by decide +kernel)
theorem w34 : (Cond.lays "GroupRows" "GroupRows" "rowCount" "I" : Cond) ∈ wAll := wA 34 (by decide +kernel) (by decide +kernel)
theorem w35 : (Cond.soleField "GroupRows" "rowCount" : Cond) ∈ wAll := wA 35 (by decide +kernel) (by decide +kernel)
theorem w36 : (Cond.laysFinal "GroupRows" "GroupRows" "factKey" "[I" : Cond) ∈ wAll := wA 36 (by decide +kernel) (by decide +kernel)
theorem w37 : (Cond.soleField "GroupRows" "factKey" : Cond) ∈ wAll := wA 37 (by decide +kernel) (by decide +kernel)
theorem w38 : (Cond.laysFinal "GroupRows" "GroupRows" "factAmounts" "[J" : Cond) ∈ wAll := wA 38 (by decide +kernel) (by decide +kernel)
theorem w39 : (Cond.soleField "GroupRows" "factAmounts" : Cond) ∈ wAll := wA 39 (by decide +kernel) (by decide +kernel)
theorem w40 : (Cond.laysFinal "GroupRows" "GroupRows" "slots" "[I" : Cond) ∈ wAll := wA 40 (by decide +kernel) (by decide +kernel)
theorem w41 : (Cond.soleField "GroupRows" "slots" : Cond) ∈ wAll := wA 41 (by decide +kernel) (by decide +kernel)
theorem w42 : (Cond.laysFinal "GroupRows" "GroupRows" "keys" "[I" : Cond) ∈ wAll := wA 42 (by decide +kernel) (by decide +kernel)
theorem w43 : (Cond.soleField "GroupRows" "keys" : Cond) ∈ wAll := wA 43 (by decide +kernel) (by decide +kernel)
theorem w44 : (Cond.laysFinal "GroupRows" "GroupRows" "counts" "[J" : Cond) ∈ wAll := wA 44 (by decide +kernel) (by decide +kernel)
theorem w45 : (Cond.soleField "GroupRows" "counts" : Cond) ∈ wAll := wA 45 (by decide +kernel) (by decide +kernel)
theorem w46 : (Cond.laysFinal "GroupRows" "GroupRows" "sums" "[J" : Cond) ∈ wAll := wA 46 (by decide +kernel) (by decide +kernel)
theorem w47 : (Cond.soleField "GroupRows" "sums" : Cond) ∈ wAll := wA 47 (by decide +kernel) (by decide +kernel)
theorem w48 : (Cond.laysFinal "GroupRows" "GroupRows" "leasts" "[J" : Cond) ∈ wAll := wA 48 (by decide +kernel) (by decide +kernel)
theorem w49 : (Cond.soleField "GroupRows" "leasts" : Cond) ∈ wAll := wA 49 (by decide +kernel) (by decide +kernel)
theorem w50 : (Cond.laysFinal "GroupRows" "GroupRows" "greatests" "[J" : Cond) ∈ wAll := wA 50 (by decide +kernel) (by decide +kernel)
theorem w51 : (Cond.soleField "GroupRows" "greatests" : Cond) ∈ wAll := wA 51 (by decide +kernel) (by decide +kernel)
theorem w52 : (Cond.superclass "GroupRows" "java/lang/Object" : Cond) ∈ wAll := wA 52 (by decide +kernel) (by decide +kernel)
theorem w53 : (Cond.arrayClass .int : Cond) ∈ wAll := wA 53 (by decide +kernel) (by decide +kernel)
theorem w54 : (Cond.arrayClass .long : Cond) ∈ wAll := wA 54 (by decide +kernel) (by decide +kernel)
theorem w55 : (Cond.methodLink "GroupRowsLaw" 80 ⟨"GroupRows", "rows", "()I"⟩ : Cond) ∈ wAll := wA 55 (by decide +kernel) (by decide +kernel)
theorem w56 : (Cond.instanceMethod ⟨"GroupRows", "rows", "()I"⟩ : Cond) ∈ wAll := wA 56 (by decide +kernel) (by decide +kernel)
theorem w57 : (Cond.selects "GroupRows" ⟨"GroupRows", "rows", "()I"⟩ ⟨"GroupRows", "rows", "()I"⟩ : Cond) ∈ wAll := wA 57 (by decide +kernel) (by decide +kernel)
theorem w58 : (Cond.code ⟨"GroupRows", "rows", "()I"⟩ prog_1_method_8_code 1 (some .int) : Cond) ∈ wAll := wA 58 (by decide +kernel) (by decide +kernel)
theorem w59 : (Cond.methodLink "GroupRowsLaw" 84 ⟨"GroupRows", "find", "()I"⟩ : Cond) ∈ wAll := wA 59 (by decide +kernel) (by decide +kernel)
theorem w60 : (Cond.instanceMethod ⟨"GroupRows", "find", "()I"⟩ : Cond) ∈ wAll := wA 60 (by decide +kernel) (by decide +kernel)
theorem w61 : (Cond.selects "GroupRows" ⟨"GroupRows", "find", "()I"⟩ ⟨"GroupRows", "find", "()I"⟩ : Cond) ∈ wAll := wA 61 (by decide +kernel) (by decide +kernel)
theorem w62 : (Cond.code ⟨"GroupRows", "find", "()I"⟩ prog_1_method_9_code 2 (some .int) : Cond) ∈ wAll := wA 62 (by decide +kernel) (by decide +kernel)
theorem w63 : (Cond.methodLink "GroupRows" 91 ⟨"GroupRows", "lowerPlace", "([III)I"⟩ : Cond) ∈ wAll := wA 63 (by decide +kernel) (by decide +kernel)
theorem w65 : (Cond.instanceMethod ⟨"GroupRows", "lowerPlace", "([III)I"⟩ : Cond) ∈ wAll := wA 65 (by decide +kernel) (by decide +kernel)
theorem w66 : (Cond.code ⟨"GroupRows", "lowerPlace", "([III)I"⟩ prog_1_method_23_code 7 (some .int) : Cond) ∈ wAll := wA 66 (by decide +kernel) (by decide +kernel)
theorem w67 : (Cond.methodLink "GroupRows" 135 ⟨"GroupRows", "compareKey", "(I[II)I"⟩ : Cond) ∈ wAll := wA 67 (by decide +kernel) (by decide +kernel)
theorem w69 : (Cond.instanceMethod ⟨"GroupRows", "compareKey", "(I[II)I"⟩ : Cond) ∈ wAll := wA 69 (by decide +kernel) (by decide +kernel)
theorem w70 : (Cond.code ⟨"GroupRows", "compareKey", "(I[II)I"⟩ prog_1_method_25_code 7 (some .int) : Cond) ∈ wAll := wA 70 (by decide +kernel) (by decide +kernel)
theorem w71 : (Cond.methodLink "GroupRows" 139 ⟨"java/lang/Integer", "compare", "(II)I"⟩ : Cond) ∈ wAll := wA 71 (by decide +kernel) (by decide +kernel)
theorem w72 : (Cond.static ⟨"java/lang/Integer", "compare", "(II)I"⟩ : Cond) ∈ wAll := wA 72 (by decide +kernel) (by decide +kernel)
theorem w73 : (Cond.code ⟨"java/lang/Integer", "compare", "(II)I"⟩ prog_6_method_40_code 2 (some .int) : Cond) ∈ wAll := wA 73 (by decide +kernel) (by decide +kernel)
theorem w74 : (Cond.methodLink "GroupRows" 95 ⟨"GroupRows", "isKeyAt", "(I[III)Z"⟩ : Cond) ∈ wAll := wA 74 (by decide +kernel) (by decide +kernel)
theorem w76 : (Cond.instanceMethod ⟨"GroupRows", "isKeyAt", "(I[III)Z"⟩ : Cond) ∈ wAll := wA 76 (by decide +kernel) (by decide +kernel)
theorem w77 : (Cond.code ⟨"GroupRows", "isKeyAt", "(I[III)Z"⟩ prog_1_method_24_code 5 (some .boolean) : Cond) ∈ wAll := wA 77 (by decide +kernel) (by decide +kernel)
theorem w78 : (Cond.methodLink "GroupRowsLaw" 49 ⟨"GroupRowsLaw", "begin", "(LGroupRows;II)I"⟩ : Cond) ∈ wAll := wA 78 (by decide +kernel) (by decide +kernel)
theorem w79 : (Cond.static ⟨"GroupRowsLaw", "begin", "(LGroupRows;II)I"⟩ : Cond) ∈ wAll := wA 79 (by decide +kernel) (by decide +kernel)
theorem w80 : (Cond.codeWith ⟨"GroupRowsLaw", "begin", "(LGroupRows;II)I"⟩ method_3_code 4 (some .int) [(0, 6, 9, 13)] : Cond) ∈ wAll := wA 80 (by decide +kernel) (by decide +kernel)
theorem w81 : (Cond.classLink "GroupRowsLaw" 13 "java/lang/IllegalArgumentException" : Cond) ∈ wAll := wA 81 (by decide +kernel) (by decide +kernel)
theorem w82 : (Cond.methodLink "GroupRowsLaw" 7 ⟨"GroupRows", "begin", "(II)V"⟩ : Cond) ∈ wAll := wA 82 (by decide +kernel) (by decide +kernel)
theorem w83 : (Cond.instanceMethod ⟨"GroupRows", "begin", "(II)V"⟩ : Cond) ∈ wAll := wA 83 (by decide +kernel) (by decide +kernel)
theorem w84 : (Cond.selects "GroupRows" ⟨"GroupRows", "begin", "(II)V"⟩ ⟨"GroupRows", "begin", "(II)V"⟩ : Cond) ∈ wAll := wA 84 (by decide +kernel) (by decide +kernel)
theorem w85 : (Cond.code ⟨"GroupRows", "begin", "(II)V"⟩ prog_1_method_2_code 3 none : Cond) ∈ wAll := wA 85 (by decide +kernel) (by decide +kernel)
theorem w86 : (Cond.classLink "GroupRows" 45 "java/lang/IllegalArgumentException" : Cond) ∈ wAll := wA 86 (by decide +kernel) (by decide +kernel)
theorem w87 : (Cond.instantiable "java/lang/IllegalArgumentException" 6 : Cond) ∈ wAll := wA 87 (by decide +kernel) (by decide +kernel)
theorem w95 : (Cond.selects "java/lang/IllegalArgumentException" ⟨"java/lang/Throwable", "fillInStackTrace", "(I)Ljava/lang/Throwable;"⟩ ⟨"java/lang/Throwable", "fillInStackTrace", "(I)Ljava/lang/Throwable;"⟩ : Cond) ∈ wAll := wA 95 (by decide +kernel) (by decide +kernel)
theorem w96 : (Cond.selects "java/lang/IllegalArgumentException" ⟨"java/lang/Throwable", "fillInStackTrace", "()Ljava/lang/Throwable;"⟩ ⟨"java/lang/Throwable", "fillInStackTrace", "()Ljava/lang/Throwable;"⟩ : Cond) ∈ wAll := wA 96 (by decide +kernel) (by decide +kernel)
theorem w97 : (Cond.lays "java/lang/IllegalArgumentException" "java/lang/Throwable" "cause" "Ljava/lang/Throwable;" : Cond) ∈ wAll := wA 97 (by decide +kernel) (by decide +kernel)
theorem w98 : (Cond.lays "java/lang/Throwable" "java/lang/Throwable" "cause" "Ljava/lang/Throwable;" : Cond) ∈ wAll := wA 98 (by decide +kernel) (by decide +kernel)
theorem w99 : (Cond.lays "java/lang/IllegalArgumentException" "java/lang/Throwable" "stackTrace" "[Ljava/lang/StackTraceElement;" : Cond) ∈ wAll := wA 99 (by decide +kernel) (by decide +kernel)
theorem w100 : (Cond.lays "java/lang/Throwable" "java/lang/Throwable" "stackTrace" "[Ljava/lang/StackTraceElement;" : Cond) ∈ wAll := wA 100 (by decide +kernel) (by decide +kernel)
theorem w101 : (Cond.lays "java/lang/IllegalArgumentException" "java/lang/Throwable" "suppressedExceptions" "Ljava/util/List;" : Cond) ∈ wAll := wA 101 (by decide +kernel) (by decide +kernel)
theorem w102 : (Cond.lays "java/lang/Throwable" "java/lang/Throwable" "suppressedExceptions" "Ljava/util/List;" : Cond) ∈ wAll := wA 102 (by decide +kernel) (by decide +kernel)
theorem w103 : (Cond.lays "java/lang/IllegalArgumentException" "java/lang/Throwable" "detailMessage" "Ljava/lang/String;" : Cond) ∈ wAll := wA 103 (by decide +kernel) (by decide +kernel)
theorem w104 : (Cond.lays "java/lang/Throwable" "java/lang/Throwable" "detailMessage" "Ljava/lang/String;" : Cond) ∈ wAll := wA 104 (by decide +kernel) (by decide +kernel)
theorem w105 : (Cond.lays "java/lang/IllegalArgumentException" "java/lang/Throwable" "backtrace" "Ljava/lang/Object;" : Cond) ∈ wAll := wA 105 (by decide +kernel) (by decide +kernel)
theorem w106 : (Cond.lays "java/lang/Throwable" "java/lang/Throwable" "backtrace" "Ljava/lang/Object;" : Cond) ∈ wAll := wA 106 (by decide +kernel) (by decide +kernel)
theorem w107 : (Cond.fieldLink "java/lang/Throwable" 198 "java/lang/Throwable" "backtrace" "Ljava/lang/Object;" : Cond) ∈ wAll := wA 107 (by decide +kernel) (by decide +kernel)
theorem w108 : (Cond.superclass "java/lang/Throwable" "java/lang/Object" : Cond) ∈ wAll := wA 108 (by decide +kernel) (by decide +kernel)
theorem w109 : (Cond.instanceMethod ⟨"java/lang/Throwable", "<init>", "()V"⟩ : Cond) ∈ wAll := wA 109 (by decide +kernel) (by decide +kernel)
theorem w110 : (Cond.code ⟨"java/lang/Throwable", "<init>", "()V"⟩ prog_11_method_1_code 1 none : Cond) ∈ wAll := wA 110 (by decide +kernel) (by decide +kernel)
theorem w111 : (Cond.methodLink "java/lang/Throwable" 1 ⟨"java/lang/Object", "<init>", "()V"⟩ : Cond) ∈ wAll := wA 111 (by decide +kernel) (by decide +kernel)
theorem w112 : (Cond.fieldLink "java/lang/Throwable" 13 "java/lang/Throwable" "UNASSIGNED_STACK" "[Ljava/lang/StackTraceElement;" : Cond) ∈ wAll := wA 112 (by decide +kernel) (by decide +kernel)
theorem w114 : (Cond.fieldLink "java/lang/Throwable" 20 "java/lang/Throwable" "SUPPRESSED_SENTINEL" "Ljava/util/List;" : Cond) ∈ wAll := wA 114 (by decide +kernel) (by decide +kernel)
theorem w116 : (Cond.methodLink "java/lang/Throwable" 27 ⟨"java/lang/Throwable", "fillInStackTrace", "()Ljava/lang/Throwable;"⟩ : Cond) ∈ wAll := wA 116 (by decide +kernel) (by decide +kernel)
theorem w117 : (Cond.instanceMethod ⟨"java/lang/Throwable", "fillInStackTrace", "()Ljava/lang/Throwable;"⟩ : Cond) ∈ wAll := wA 117 (by decide +kernel) (by decide +kernel)
theorem w118 : (Cond.sameMethod "java/lang/Throwable" "java/lang/Throwable" "fillInStackTrace" "()Ljava/lang/Throwable;" : Cond) ∈ wAll := wA 118 (by decide +kernel) (by decide +kernel)
theorem w119 : (Cond.codeSync ⟨"java/lang/Throwable", "fillInStackTrace", "()Ljava/lang/Throwable;"⟩ prog_11_method_18_code 1 (some (.object "java/lang/Throwable")) : Cond) ∈ wAll := wA 119 (by decide +kernel) (by decide +kernel)
theorem w120 : (Cond.methodLink "java/lang/Throwable" 202 ⟨"java/lang/Throwable", "fillInStackTrace", "(I)Ljava/lang/Throwable;"⟩ : Cond) ∈ wAll := wA 120 (by decide +kernel) (by decide +kernel)
theorem w122 : (Cond.instanceMethod ⟨"java/lang/Throwable", "fillInStackTrace", "(I)Ljava/lang/Throwable;"⟩ : Cond) ∈ wAll := wA 122 (by decide +kernel) (by decide +kernel)
theorem w123 : (Cond.instantiable "java/lang/Throwable" 6 : Cond) ∈ wAll := wA 123 (by decide +kernel) (by decide +kernel)
theorem w124 : (Cond.native ⟨"java/lang/Throwable", "fillInStackTrace", "(I)Ljava/lang/Throwable;"⟩ : Cond) ∈ wAll := wA 124 (by decide +kernel) (by decide +kernel)
theorem w126 : (Cond.methodLink "GroupRows" 49 ⟨"java/lang/IllegalArgumentException", "<init>", "(Ljava/lang/String;)V"⟩ : Cond) ∈ wAll := wA 126 (by decide +kernel) (by decide +kernel)
theorem w127 : (Cond.instanceMethod ⟨"java/lang/IllegalArgumentException", "<init>", "(Ljava/lang/String;)V"⟩ : Cond) ∈ wAll := wA 127 (by decide +kernel) (by decide +kernel)
theorem w128 : (Cond.code ⟨"java/lang/IllegalArgumentException", "<init>", "(Ljava/lang/String;)V"⟩ prog_5_method_2_code 2 none : Cond) ∈ wAll := wA 128 (by decide +kernel) (by decide +kernel)
theorem w129 : (Cond.methodLink "java/lang/IllegalArgumentException" 7 ⟨"java/lang/RuntimeException", "<init>", "(Ljava/lang/String;)V"⟩ : Cond) ∈ wAll := wA 129 (by decide +kernel) (by decide +kernel)
theorem w130 : (Cond.instanceMethod ⟨"java/lang/RuntimeException", "<init>", "(Ljava/lang/String;)V"⟩ : Cond) ∈ wAll := wA 130 (by decide +kernel) (by decide +kernel)
theorem w131 : (Cond.code ⟨"java/lang/RuntimeException", "<init>", "(Ljava/lang/String;)V"⟩ prog_8_method_2_code 2 none : Cond) ∈ wAll := wA 131 (by decide +kernel) (by decide +kernel)
theorem w132 : (Cond.methodLink "java/lang/RuntimeException" 7 ⟨"java/lang/Exception", "<init>", "(Ljava/lang/String;)V"⟩ : Cond) ∈ wAll := wA 132 (by decide +kernel) (by decide +kernel)
theorem w133 : (Cond.instanceMethod ⟨"java/lang/Exception", "<init>", "(Ljava/lang/String;)V"⟩ : Cond) ∈ wAll := wA 133 (by decide +kernel) (by decide +kernel)
theorem w134 : (Cond.code ⟨"java/lang/Exception", "<init>", "(Ljava/lang/String;)V"⟩ prog_4_method_2_code 2 none : Cond) ∈ wAll := wA 134 (by decide +kernel) (by decide +kernel)
theorem w135 : (Cond.methodLink "java/lang/Exception" 7 ⟨"java/lang/Throwable", "<init>", "(Ljava/lang/String;)V"⟩ : Cond) ∈ wAll := wA 135 (by decide +kernel) (by decide +kernel)
theorem w136 : (Cond.instanceMethod ⟨"java/lang/Throwable", "<init>", "(Ljava/lang/String;)V"⟩ : Cond) ∈ wAll := wA 136 (by decide +kernel) (by decide +kernel)
theorem w137 : (Cond.code ⟨"java/lang/Throwable", "<init>", "(Ljava/lang/String;)V"⟩ prog_11_method_2_code 2 none : Cond) ∈ wAll := wA 137 (by decide +kernel) (by decide +kernel)
theorem w138 : (Cond.fieldLink "java/lang/Throwable" 198 "java/lang/Throwable" "backtrace" "Ljava/lang/Object;" : Cond) ∈ wAll := wA 138 (by decide +kernel) (by decide +kernel)
theorem w139 : (Cond.fieldLink "java/lang/Throwable" 31 "java/lang/Throwable" "detailMessage" "Ljava/lang/String;" : Cond) ∈ wAll := wA 139 (by decide +kernel) (by decide +kernel)
theorem w140 : (Cond.fieldLink "java/lang/Throwable" 7 "java/lang/Throwable" "cause" "Ljava/lang/Throwable;" : Cond) ∈ wAll := wA 140 (by decide +kernel) (by decide +kernel)
theorem w141 : (Cond.fieldLink "java/lang/Throwable" 17 "java/lang/Throwable" "stackTrace" "[Ljava/lang/StackTraceElement;" : Cond) ∈ wAll := wA 141 (by decide +kernel) (by decide +kernel)
theorem w142 : (Cond.fieldLink "java/lang/Throwable" 24 "java/lang/Throwable" "suppressedExceptions" "Ljava/util/List;" : Cond) ∈ wAll := wA 142 (by decide +kernel) (by decide +kernel)
theorem w143 : (Cond.soleField "java/lang/Throwable" "backtrace" : Cond) ∈ wAll := wA 143 (by decide +kernel) (by decide +kernel)
theorem w144 : (Cond.soleField "java/lang/Throwable" "detailMessage" : Cond) ∈ wAll := wA 144 (by decide +kernel) (by decide +kernel)
theorem w145 : (Cond.soleField "java/lang/Throwable" "cause" : Cond) ∈ wAll := wA 145 (by decide +kernel) (by decide +kernel)
theorem w146 : (Cond.soleField "java/lang/Throwable" "stackTrace" : Cond) ∈ wAll := wA 146 (by decide +kernel) (by decide +kernel)
theorem w147 : (Cond.lays "java/lang/IllegalArgumentException" "java/lang/Throwable" "depth" "I" : Cond) ∈ wAll := wA 147 (by decide +kernel) (by decide +kernel)
theorem w148 : (Cond.soleField "java/lang/Throwable" "depth" : Cond) ∈ wAll := wA 148 (by decide +kernel) (by decide +kernel)
theorem w149 : (Cond.soleField "java/lang/Throwable" "suppressedExceptions" : Cond) ∈ wAll := wA 149 (by decide +kernel) (by decide +kernel)
theorem w150 : (Cond.superclass "java/lang/IllegalArgumentException" "java/lang/RuntimeException" : Cond) ∈ wAll := wA 150 (by decide +kernel) (by decide +kernel)
theorem w151 : (Cond.arrayClass .byte : Cond) ∈ wAll := wA 151 (by decide +kernel) (by decide +kernel)
theorem w153 : (Cond.methodLink "GroupRows" 54 ⟨"java/util/Arrays", "fill", "([II)V"⟩ : Cond) ∈ wAll := wA 153 (by decide +kernel) (by decide +kernel)
theorem w154 : (Cond.static ⟨"java/util/Arrays", "fill", "([II)V"⟩ : Cond) ∈ wAll := wA 154 (by decide +kernel) (by decide +kernel)
theorem w155 : (Cond.code ⟨"java/util/Arrays", "fill", "([II)V"⟩ prog_12_method_103_code 4 none : Cond) ∈ wAll := wA 155 (by decide +kernel) (by decide +kernel)
theorem w156 : (Cond.methodLink "GroupRows" 60 ⟨"java/util/Arrays", "fill", "([JJ)V"⟩ : Cond) ∈ wAll := wA 156 (by decide +kernel) (by decide +kernel)
theorem w157 : (Cond.static ⟨"java/util/Arrays", "fill", "([JJ)V"⟩ : Cond) ∈ wAll := wA 157 (by decide +kernel) (by decide +kernel)
theorem w158 : (Cond.code ⟨"java/util/Arrays", "fill", "([JJ)V"⟩ prog_12_method_101_code 5 none : Cond) ∈ wAll := wA 158 (by decide +kernel) (by decide +kernel)
theorem w159 : (Cond.methodLink "GroupRowsLaw" 59 ⟨"GroupRowsLaw", "key", "(LGroupRows;II[J)I"⟩ : Cond) ∈ wAll := wA 159 (by decide +kernel) (by decide +kernel)
theorem w160 : (Cond.static ⟨"GroupRowsLaw", "key", "(LGroupRows;II[J)I"⟩ : Cond) ∈ wAll := wA 160 (by decide +kernel) (by decide +kernel)
theorem w161 : (Cond.codeWith ⟨"GroupRowsLaw", "key", "(LGroupRows;II[J)I"⟩ method_4_code 5 (some .int) [(0, 10, 13, 13)] : Cond) ∈ wAll := wA 161 (by decide +kernel) (by decide +kernel)
theorem w162 : (Cond.methodLink "GroupRowsLaw" 15 ⟨"GroupRows", "key", "(II)I"⟩ : Cond) ∈ wAll := wA 162 (by decide +kernel) (by decide +kernel)
theorem w163 : (Cond.instanceMethod ⟨"GroupRows", "key", "(II)I"⟩ : Cond) ∈ wAll := wA 163 (by decide +kernel) (by decide +kernel)
theorem w164 : (Cond.selects "GroupRows" ⟨"GroupRows", "key", "(II)I"⟩ ⟨"GroupRows", "key", "(II)I"⟩ : Cond) ∈ wAll := wA 164 (by decide +kernel) (by decide +kernel)
theorem w165 : (Cond.code ⟨"GroupRows", "key", "(II)I"⟩ prog_1_method_3_code 4 (some .int) : Cond) ∈ wAll := wA 165 (by decide +kernel) (by decide +kernel)
theorem w166 : (Cond.methodLink "GroupRows" 63 ⟨"GroupRows", "isPart", "(I)Z"⟩ : Cond) ∈ wAll := wA 166 (by decide +kernel) (by decide +kernel)
theorem w168 : (Cond.instanceMethod ⟨"GroupRows", "isPart", "(I)Z"⟩ : Cond) ∈ wAll := wA 168 (by decide +kernel) (by decide +kernel)
theorem w169 : (Cond.code ⟨"GroupRows", "isPart", "(I)Z"⟩ prog_1_method_13_code 2 (some .boolean) : Cond) ∈ wAll := wA 169 (by decide +kernel) (by decide +kernel)
theorem w171 : (Cond.methodLink "GroupRowsLaw" 65 ⟨"GroupRowsLaw", "amount", "(LGroupRows;IJ[J)I"⟩ : Cond) ∈ wAll := wA 171 (by decide +kernel) (by decide +kernel)
theorem w172 : (Cond.static ⟨"GroupRowsLaw", "amount", "(LGroupRows;IJ[J)I"⟩ : Cond) ∈ wAll := wA 172 (by decide +kernel) (by decide +kernel)
theorem w173 : (Cond.codeWith ⟨"GroupRowsLaw", "amount", "(LGroupRows;IJ[J)I"⟩ method_5_code 6 (some .int) [(0, 10, 13, 13)] : Cond) ∈ wAll := wA 173 (by decide +kernel) (by decide +kernel)
theorem w174 : (Cond.methodLink "GroupRowsLaw" 19 ⟨"GroupRows", "amount", "(IJ)J"⟩ : Cond) ∈ wAll := wA 174 (by decide +kernel) (by decide +kernel)
theorem w175 : (Cond.instanceMethod ⟨"GroupRows", "amount", "(IJ)J"⟩ : Cond) ∈ wAll := wA 175 (by decide +kernel) (by decide +kernel)
theorem w176 : (Cond.selects "GroupRows" ⟨"GroupRows", "amount", "(IJ)J"⟩ ⟨"GroupRows", "amount", "(IJ)J"⟩ : Cond) ∈ wAll := wA 176 (by decide +kernel) (by decide +kernel)
theorem w177 : (Cond.code ⟨"GroupRows", "amount", "(IJ)J"⟩ prog_1_method_4_code 6 (some .long) : Cond) ∈ wAll := wA 177 (by decide +kernel) (by decide +kernel)
theorem w178 : (Cond.methodLink "GroupRows" 69 ⟨"GroupRows", "isMeasure", "(I)Z"⟩ : Cond) ∈ wAll := wA 178 (by decide +kernel) (by decide +kernel)
theorem w180 : (Cond.instanceMethod ⟨"GroupRows", "isMeasure", "(I)Z"⟩ : Cond) ∈ wAll := wA 180 (by decide +kernel) (by decide +kernel)
theorem w181 : (Cond.code ⟨"GroupRows", "isMeasure", "(I)Z"⟩ prog_1_method_14_code 2 (some .boolean) : Cond) ∈ wAll := wA 181 (by decide +kernel) (by decide +kernel)
theorem w183 : (Cond.methodLink "GroupRowsLaw" 69 ⟨"GroupRowsLaw", "add", "(LGroupRows;I[J)I"⟩ : Cond) ∈ wAll := wA 183 (by decide +kernel) (by decide +kernel)
theorem w184 : (Cond.static ⟨"GroupRowsLaw", "add", "(LGroupRows;I[J)I"⟩ : Cond) ∈ wAll := wA 184 (by decide +kernel) (by decide +kernel)
theorem w185 : (Cond.codeWith ⟨"GroupRowsLaw", "add", "(LGroupRows;I[J)I"⟩ method_6_code 4 (some .int) [(0, 9, 12, 13)] : Cond) ∈ wAll := wA 185 (by decide +kernel) (by decide +kernel)
theorem w186 : (Cond.methodLink "GroupRowsLaw" 23 ⟨"GroupRows", "add", "(I)I"⟩ : Cond) ∈ wAll := wA 186 (by decide +kernel) (by decide +kernel)
theorem w187 : (Cond.instanceMethod ⟨"GroupRows", "add", "(I)I"⟩ : Cond) ∈ wAll := wA 187 (by decide +kernel) (by decide +kernel)
theorem w188 : (Cond.selects "GroupRows" ⟨"GroupRows", "add", "(I)I"⟩ ⟨"GroupRows", "add", "(I)I"⟩ : Cond) ∈ wAll := wA 188 (by decide +kernel) (by decide +kernel)
theorem w189 : (Cond.code ⟨"GroupRows", "add", "(I)I"⟩ prog_1_method_5_code 2 (some .int) : Cond) ∈ wAll := wA 189 (by decide +kernel) (by decide +kernel)
theorem w190 : (Cond.constant "GroupRows" 74 100000 : Cond) ∈ wAll := wA 190 (by decide +kernel) (by decide +kernel)
theorem w192 : (Cond.methodLink "GroupRows" 77 ⟨"GroupRows", "takeFact", "(I)Z"⟩ : Cond) ∈ wAll := wA 192 (by decide +kernel) (by decide +kernel)
theorem w194 : (Cond.instanceMethod ⟨"GroupRows", "takeFact", "(I)Z"⟩ : Cond) ∈ wAll := wA 194 (by decide +kernel) (by decide +kernel)
theorem w195 : (Cond.code ⟨"GroupRows", "takeFact", "(I)Z"⟩ prog_1_method_17_code 3 (some .boolean) : Cond) ∈ wAll := wA 195 (by decide +kernel) (by decide +kernel)
theorem w196 : (Cond.methodLink "GroupRows" 106 ⟨"GroupRows", "openRow", "(I)V"⟩ : Cond) ∈ wAll := wA 196 (by decide +kernel) (by decide +kernel)
theorem w198 : (Cond.instanceMethod ⟨"GroupRows", "openRow", "(I)V"⟩ : Cond) ∈ wAll := wA 198 (by decide +kernel) (by decide +kernel)
theorem w199 : (Cond.code ⟨"GroupRows", "openRow", "(I)V"⟩ prog_1_method_18_code 5 none : Cond) ∈ wAll := wA 199 (by decide +kernel) (by decide +kernel)
theorem w200 : (Cond.methodLink "GroupRows" 113 ⟨"GroupRows", "insertSlot", "(III)V"⟩ : Cond) ∈ wAll := wA 200 (by decide +kernel) (by decide +kernel)
theorem w202 : (Cond.instanceMethod ⟨"GroupRows", "insertSlot", "(III)V"⟩ : Cond) ∈ wAll := wA 202 (by decide +kernel) (by decide +kernel)
theorem w203 : (Cond.code ⟨"GroupRows", "insertSlot", "(III)V"⟩ prog_1_method_22_code 4 none : Cond) ∈ wAll := wA 203 (by decide +kernel) (by decide +kernel)
theorem w204 : (Cond.methodLink "GroupRows" 117 ⟨"java/lang/System", "arraycopy", "(Ljava/lang/Object;ILjava/lang/Object;II)V"⟩ : Cond) ∈ wAll := wA 204 (by decide +kernel) (by decide +kernel)
theorem w205 : (Cond.static ⟨"java/lang/System", "arraycopy", "(Ljava/lang/Object;ILjava/lang/Object;II)V"⟩ : Cond) ∈ wAll := wA 205 (by decide +kernel) (by decide +kernel)
theorem w206 : (Cond.native ⟨"java/lang/System", "arraycopy", "(Ljava/lang/Object;ILjava/lang/Object;II)V"⟩ : Cond) ∈ wAll := wA 206 (by decide +kernel) (by decide +kernel)
theorem w207 : (Cond.methodLink "GroupRows" 110 ⟨"GroupRows", "joinFact", "(II)V"⟩ : Cond) ∈ wAll := wA 207 (by decide +kernel) (by decide +kernel)
theorem w209 : (Cond.instanceMethod ⟨"GroupRows", "joinFact", "(II)V"⟩ : Cond) ∈ wAll := wA 209 (by decide +kernel) (by decide +kernel)
theorem w210 : (Cond.code ⟨"GroupRows", "joinFact", "(II)V"⟩ prog_1_method_19_code 7 none : Cond) ∈ wAll := wA 210 (by decide +kernel) (by decide +kernel)
theorem w211 : (Cond.methodLink "GroupRows" 123 ⟨"java/lang/Math", "min", "(JJ)J"⟩ : Cond) ∈ wAll := wA 211 (by decide +kernel) (by decide +kernel)
theorem w212 : (Cond.static ⟨"java/lang/Math", "min", "(JJ)J"⟩ : Cond) ∈ wAll := wA 212 (by decide +kernel) (by decide +kernel)
theorem w213 : (Cond.code ⟨"java/lang/Math", "min", "(JJ)J"⟩ prog_7_method_70_code 4 (some .long) : Cond) ∈ wAll := wA 213 (by decide +kernel) (by decide +kernel)
theorem w214 : (Cond.methodLink "GroupRows" 129 ⟨"java/lang/Math", "max", "(JJ)J"⟩ : Cond) ∈ wAll := wA 214 (by decide +kernel) (by decide +kernel)
theorem w215 : (Cond.static ⟨"java/lang/Math", "max", "(JJ)J"⟩ : Cond) ∈ wAll := wA 215 (by decide +kernel) (by decide +kernel)
theorem w216 : (Cond.code ⟨"java/lang/Math", "max", "(JJ)J"⟩ prog_7_method_66_code 4 (some .long) : Cond) ∈ wAll := wA 216 (by decide +kernel) (by decide +kernel)
theorem w217 : (Cond.methodLink "GroupRowsLaw" 73 ⟨"GroupRowsLaw", "spread", "(LGroupRows;III[J)I"⟩ : Cond) ∈ wAll := wA 217 (by decide +kernel) (by decide +kernel)
theorem w218 : (Cond.static ⟨"GroupRowsLaw", "spread", "(LGroupRows;III[J)I"⟩ : Cond) ∈ wAll := wA 218 (by decide +kernel) (by decide +kernel)
theorem w219 : (Cond.codeWith ⟨"GroupRowsLaw", "spread", "(LGroupRows;III[J)I"⟩ method_7_code 6 (some .int) [(0, 12, 15, 13)] : Cond) ∈ wAll := wA 219 (by decide +kernel) (by decide +kernel)
theorem w220 : (Cond.methodLink "GroupRowsLaw" 27 ⟨"GroupRows", "spread", "(III)I"⟩ : Cond) ∈ wAll := wA 220 (by decide +kernel) (by decide +kernel)
theorem w221 : (Cond.instanceMethod ⟨"GroupRows", "spread", "(III)I"⟩ : Cond) ∈ wAll := wA 221 (by decide +kernel) (by decide +kernel)
theorem w222 : (Cond.selects "GroupRows" ⟨"GroupRows", "spread", "(III)I"⟩ ⟨"GroupRows", "spread", "(III)I"⟩ : Cond) ∈ wAll := wA 222 (by decide +kernel) (by decide +kernel)
theorem w223 : (Cond.code ⟨"GroupRows", "spread", "(III)I"⟩ prog_1_method_6_code 5 (some .int) : Cond) ∈ wAll := wA 223 (by decide +kernel) (by decide +kernel)
theorem w225 : (Cond.methodLink "GroupRows" 82 ⟨"GroupRows", "stepFact", "(II)V"⟩ : Cond) ∈ wAll := wA 225 (by decide +kernel) (by decide +kernel)
theorem w227 : (Cond.instanceMethod ⟨"GroupRows", "stepFact", "(II)V"⟩ : Cond) ∈ wAll := wA 227 (by decide +kernel) (by decide +kernel)
theorem w228 : (Cond.code ⟨"GroupRows", "stepFact", "(II)V"⟩ prog_1_method_16_code 4 none : Cond) ∈ wAll := wA 228 (by decide +kernel) (by decide +kernel)
theorem w229 : (Cond.methodLink "GroupRowsLaw" 77 ⟨"GroupRowsLaw", "roll", "(LGroupRows;I[J)I"⟩ : Cond) ∈ wAll := wA 229 (by decide +kernel) (by decide +kernel)
theorem w230 : (Cond.static ⟨"GroupRowsLaw", "roll", "(LGroupRows;I[J)I"⟩ : Cond) ∈ wAll := wA 230 (by decide +kernel) (by decide +kernel)
theorem w231 : (Cond.codeWith ⟨"GroupRowsLaw", "roll", "(LGroupRows;I[J)I"⟩ method_8_code 4 (some .int) [(0, 9, 12, 13)] : Cond) ∈ wAll := wA 231 (by decide +kernel) (by decide +kernel)
theorem w232 : (Cond.methodLink "GroupRowsLaw" 31 ⟨"GroupRows", "roll", "(I)I"⟩ : Cond) ∈ wAll := wA 232 (by decide +kernel) (by decide +kernel)
theorem w233 : (Cond.instanceMethod ⟨"GroupRows", "roll", "(I)I"⟩ : Cond) ∈ wAll := wA 233 (by decide +kernel) (by decide +kernel)
theorem w234 : (Cond.selects "GroupRows" ⟨"GroupRows", "roll", "(I)I"⟩ ⟨"GroupRows", "roll", "(I)I"⟩ : Cond) ∈ wAll := wA 234 (by decide +kernel) (by decide +kernel)
theorem w235 : (Cond.code ⟨"GroupRows", "roll", "(I)I"⟩ prog_1_method_7_code 3 (some .int) : Cond) ∈ wAll := wA 235 (by decide +kernel) (by decide +kernel)
theorem w236 : (Cond.constant "GroupRows" 86 2147483647 : Cond) ∈ wAll := wA 236 (by decide +kernel) (by decide +kernel)
theorem w237 : (Cond.methodLink "GroupRows" 87 ⟨"GroupRows", "regroup", "()I"⟩ : Cond) ∈ wAll := wA 237 (by decide +kernel) (by decide +kernel)
theorem w239 : (Cond.instanceMethod ⟨"GroupRows", "regroup", "()I"⟩ : Cond) ∈ wAll := wA 239 (by decide +kernel) (by decide +kernel)
theorem w240 : (Cond.code ⟨"GroupRows", "regroup", "()I"⟩ prog_1_method_21_code 6 (some .int) : Cond) ∈ wAll := wA 240 (by decide +kernel) (by decide +kernel)
theorem w241 : (Cond.methodLink "GroupRows" 132 ⟨"GroupRows", "joinRow", "(II)V"⟩ : Cond) ∈ wAll := wA 241 (by decide +kernel) (by decide +kernel)
theorem w243 : (Cond.instanceMethod ⟨"GroupRows", "joinRow", "(II)V"⟩ : Cond) ∈ wAll := wA 243 (by decide +kernel) (by decide +kernel)
theorem w244 : (Cond.code ⟨"GroupRows", "joinRow", "(II)V"⟩ prog_1_method_20_code 6 none : Cond) ∈ wAll := wA 244 (by decide +kernel) (by decide +kernel)
theorem w245 : (Cond.methodLink "GroupRowsLaw" 88 ⟨"GroupRowsLaw", "keyAt", "(LGroupRows;II[J)I"⟩ : Cond) ∈ wAll := wA 245 (by decide +kernel) (by decide +kernel)
theorem w246 : (Cond.static ⟨"GroupRowsLaw", "keyAt", "(LGroupRows;II[J)I"⟩ : Cond) ∈ wAll := wA 246 (by decide +kernel) (by decide +kernel)
theorem w247 : (Cond.codeWith ⟨"GroupRowsLaw", "keyAt", "(LGroupRows;II[J)I"⟩ method_9_code 5 (some .int) [(0, 10, 13, 13)] : Cond) ∈ wAll := wA 247 (by decide +kernel) (by decide +kernel)
theorem w248 : (Cond.methodLink "GroupRowsLaw" 34 ⟨"GroupRows", "keyAt", "(II)I"⟩ : Cond) ∈ wAll := wA 248 (by decide +kernel) (by decide +kernel)
theorem w249 : (Cond.instanceMethod ⟨"GroupRows", "keyAt", "(II)I"⟩ : Cond) ∈ wAll := wA 249 (by decide +kernel) (by decide +kernel)
theorem w250 : (Cond.selects "GroupRows" ⟨"GroupRows", "keyAt", "(II)I"⟩ ⟨"GroupRows", "keyAt", "(II)I"⟩ : Cond) ∈ wAll := wA 250 (by decide +kernel) (by decide +kernel)
theorem w251 : (Cond.code ⟨"GroupRows", "keyAt", "(II)I"⟩ prog_1_method_10_code 3 (some .int) : Cond) ∈ wAll := wA 251 (by decide +kernel) (by decide +kernel)
theorem w252 : (Cond.methodLink "GroupRows" 99 ⟨"GroupRows", "isPlace", "(I)Z"⟩ : Cond) ∈ wAll := wA 252 (by decide +kernel) (by decide +kernel)
theorem w254 : (Cond.instanceMethod ⟨"GroupRows", "isPlace", "(I)Z"⟩ : Cond) ∈ wAll := wA 254 (by decide +kernel) (by decide +kernel)
theorem w255 : (Cond.code ⟨"GroupRows", "isPlace", "(I)Z"⟩ prog_1_method_15_code 2 (some .boolean) : Cond) ∈ wAll := wA 255 (by decide +kernel) (by decide +kernel)
theorem w257 : (Cond.methodLink "GroupRowsLaw" 91 ⟨"GroupRowsLaw", "count", "(LGroupRows;I[J)I"⟩ : Cond) ∈ wAll := wA 257 (by decide +kernel) (by decide +kernel)
theorem w258 : (Cond.static ⟨"GroupRowsLaw", "count", "(LGroupRows;I[J)I"⟩ : Cond) ∈ wAll := wA 258 (by decide +kernel) (by decide +kernel)
theorem w259 : (Cond.codeWith ⟨"GroupRowsLaw", "count", "(LGroupRows;I[J)I"⟩ method_10_code 4 (some .int) [(0, 8, 11, 13)] : Cond) ∈ wAll := wA 259 (by decide +kernel) (by decide +kernel)
theorem w260 : (Cond.methodLink "GroupRowsLaw" 37 ⟨"GroupRows", "count", "(I)J"⟩ : Cond) ∈ wAll := wA 260 (by decide +kernel) (by decide +kernel)
theorem w261 : (Cond.instanceMethod ⟨"GroupRows", "count", "(I)J"⟩ : Cond) ∈ wAll := wA 261 (by decide +kernel) (by decide +kernel)
theorem w262 : (Cond.selects "GroupRows" ⟨"GroupRows", "count", "(I)J"⟩ ⟨"GroupRows", "count", "(I)J"⟩ : Cond) ∈ wAll := wA 262 (by decide +kernel) (by decide +kernel)
theorem w263 : (Cond.code ⟨"GroupRows", "count", "(I)J"⟩ prog_1_method_11_code 2 (some .long) : Cond) ∈ wAll := wA 263 (by decide +kernel) (by decide +kernel)
theorem w264 : (Cond.methodLink "GroupRowsLaw" 94 ⟨"GroupRowsLaw", "told", "(LGroupRows;III[J)I"⟩ : Cond) ∈ wAll := wA 264 (by decide +kernel) (by decide +kernel)
theorem w265 : (Cond.static ⟨"GroupRowsLaw", "told", "(LGroupRows;III[J)I"⟩ : Cond) ∈ wAll := wA 265 (by decide +kernel) (by decide +kernel)
theorem w266 : (Cond.codeWith ⟨"GroupRowsLaw", "told", "(LGroupRows;III[J)I"⟩ method_11_code 6 (some .int) [(0, 11, 14, 13)] : Cond) ∈ wAll := wA 266 (by decide +kernel) (by decide +kernel)
theorem w267 : (Cond.methodLink "GroupRowsLaw" 41 ⟨"GroupRows", "told", "(III)J"⟩ : Cond) ∈ wAll := wA 267 (by decide +kernel) (by decide +kernel)
theorem w268 : (Cond.instanceMethod ⟨"GroupRows", "told", "(III)J"⟩ : Cond) ∈ wAll := wA 268 (by decide +kernel) (by decide +kernel)
theorem w269 : (Cond.selects "GroupRows" ⟨"GroupRows", "told", "(III)J"⟩ ⟨"GroupRows", "told", "(III)J"⟩ : Cond) ∈ wAll := wA 269 (by decide +kernel) (by decide +kernel)
theorem w270 : (Cond.code ⟨"GroupRows", "told", "(III)J"⟩ prog_1_method_12_code 5 (some .long) : Cond) ∈ wAll := wA 270 (by decide +kernel) (by decide +kernel)
theorem w272 : (Cond.classLink "GroupRowsLaw" 46 "GroupRowsModel" : Cond) ∈ wAll := wA 272 (by decide +kernel) (by decide +kernel)
theorem w273 : (Cond.instantiable "GroupRowsModel" 11 : Cond) ∈ wAll := wA 273 (by decide +kernel) (by decide +kernel)
theorem w274 : (Cond.methodLink "GroupRowsLaw" 48 ⟨"GroupRowsModel", "<init>", "()V"⟩ : Cond) ∈ wAll := wA 274 (by decide +kernel) (by decide +kernel)
theorem w275 : (Cond.instanceMethod ⟨"GroupRowsModel", "<init>", "()V"⟩ : Cond) ∈ wAll := wA 275 (by decide +kernel) (by decide +kernel)
theorem w276 : (Cond.code ⟨"GroupRowsModel", "<init>", "()V"⟩ prog_3_method_1_code 1 none : Cond) ∈ wAll := wA 276 (by decide +kernel) (by decide +kernel)
theorem w277 : (Cond.methodLink "GroupRowsModel" 1 ⟨"java/lang/Object", "<init>", "()V"⟩ : Cond) ∈ wAll := wA 277 (by decide +kernel) (by decide +kernel)
theorem w278 : (Cond.fieldLink "GroupRowsModel" 36 "GroupRowsModel" "code" "I" : Cond) ∈ wAll := wA 278 (by decide +kernel) (by decide +kernel)
theorem w279 : (Cond.fieldLink "GroupRowsModel" 39 "GroupRowsModel" "width" "I" : Cond) ∈ wAll := wA 279 (by decide +kernel) (by decide +kernel)
theorem w280 : (Cond.fieldLink "GroupRowsModel" 7 "GroupRowsModel" "measures" "I" : Cond) ∈ wAll := wA 280 (by decide +kernel) (by decide +kernel)
theorem w281 : (Cond.fieldLink "GroupRowsModel" 42 "GroupRowsModel" "rows" "I" : Cond) ∈ wAll := wA 281 (by decide +kernel) (by decide +kernel)
theorem w282 : (Cond.fieldLink "GroupRowsModel" 13 "GroupRowsModel" "keys" "[I" : Cond) ∈ wAll := wA 282 (by decide +kernel) (by decide +kernel)
theorem w283 : (Cond.fieldLink "GroupRowsModel" 17 "GroupRowsModel" "counts" "[J" : Cond) ∈ wAll := wA 283 (by decide +kernel) (by decide +kernel)
theorem w284 : (Cond.fieldLink "GroupRowsModel" 21 "GroupRowsModel" "sums" "[J" : Cond) ∈ wAll := wA 284 (by decide +kernel) (by decide +kernel)
theorem w285 : (Cond.fieldLink "GroupRowsModel" 24 "GroupRowsModel" "leasts" "[J" : Cond) ∈ wAll := wA 285 (by decide +kernel) (by decide +kernel)
theorem w286 : (Cond.fieldLink "GroupRowsModel" 27 "GroupRowsModel" "greatests" "[J" : Cond) ∈ wAll := wA 286 (by decide +kernel) (by decide +kernel)
theorem w287 : (Cond.fieldLink "GroupRowsModel" 30 "GroupRowsModel" "key" "[I" : Cond) ∈ wAll := wA 287 (by decide +kernel) (by decide +kernel)
theorem w288 : (Cond.fieldLink "GroupRowsModel" 33 "GroupRowsModel" "amount" "[J" : Cond) ∈ wAll := wA 288 (by decide +kernel) (by decide +kernel)
theorem w289 : (Cond.lays "GroupRowsModel" "GroupRowsModel" "code" "I" : Cond) ∈ wAll := wA 289 (by decide +kernel) (by decide +kernel)
theorem w290 : (Cond.soleField "GroupRowsModel" "code" : Cond) ∈ wAll := wA 290 (by decide +kernel) (by decide +kernel)
theorem w291 : (Cond.lays "GroupRowsModel" "GroupRowsModel" "width" "I" : Cond) ∈ wAll := wA 291 (by decide +kernel) (by decide +kernel)
theorem w292 : (Cond.soleField "GroupRowsModel" "width" : Cond) ∈ wAll := wA 292 (by decide +kernel) (by decide +kernel)
theorem w293 : (Cond.lays "GroupRowsModel" "GroupRowsModel" "measures" "I" : Cond) ∈ wAll := wA 293 (by decide +kernel) (by decide +kernel)
theorem w294 : (Cond.soleField "GroupRowsModel" "measures" : Cond) ∈ wAll := wA 294 (by decide +kernel) (by decide +kernel)
theorem w295 : (Cond.lays "GroupRowsModel" "GroupRowsModel" "rows" "I" : Cond) ∈ wAll := wA 295 (by decide +kernel) (by decide +kernel)
theorem w296 : (Cond.soleField "GroupRowsModel" "rows" : Cond) ∈ wAll := wA 296 (by decide +kernel) (by decide +kernel)
theorem w297 : (Cond.laysFinal "GroupRowsModel" "GroupRowsModel" "keys" "[I" : Cond) ∈ wAll := wA 297 (by decide +kernel) (by decide +kernel)
theorem w298 : (Cond.soleField "GroupRowsModel" "keys" : Cond) ∈ wAll := wA 298 (by decide +kernel) (by decide +kernel)
theorem w299 : (Cond.laysFinal "GroupRowsModel" "GroupRowsModel" "counts" "[J" : Cond) ∈ wAll := wA 299 (by decide +kernel) (by decide +kernel)
theorem w300 : (Cond.soleField "GroupRowsModel" "counts" : Cond) ∈ wAll := wA 300 (by decide +kernel) (by decide +kernel)
theorem w301 : (Cond.laysFinal "GroupRowsModel" "GroupRowsModel" "sums" "[J" : Cond) ∈ wAll := wA 301 (by decide +kernel) (by decide +kernel)
theorem w302 : (Cond.soleField "GroupRowsModel" "sums" : Cond) ∈ wAll := wA 302 (by decide +kernel) (by decide +kernel)
theorem w303 : (Cond.laysFinal "GroupRowsModel" "GroupRowsModel" "leasts" "[J" : Cond) ∈ wAll := wA 303 (by decide +kernel) (by decide +kernel)
theorem w304 : (Cond.soleField "GroupRowsModel" "leasts" : Cond) ∈ wAll := wA 304 (by decide +kernel) (by decide +kernel)
theorem w305 : (Cond.laysFinal "GroupRowsModel" "GroupRowsModel" "greatests" "[J" : Cond) ∈ wAll := wA 305 (by decide +kernel) (by decide +kernel)
theorem w306 : (Cond.soleField "GroupRowsModel" "greatests" : Cond) ∈ wAll := wA 306 (by decide +kernel) (by decide +kernel)
theorem w307 : (Cond.laysFinal "GroupRowsModel" "GroupRowsModel" "key" "[I" : Cond) ∈ wAll := wA 307 (by decide +kernel) (by decide +kernel)
theorem w308 : (Cond.soleField "GroupRowsModel" "key" : Cond) ∈ wAll := wA 308 (by decide +kernel) (by decide +kernel)
theorem w309 : (Cond.laysFinal "GroupRowsModel" "GroupRowsModel" "amount" "[J" : Cond) ∈ wAll := wA 309 (by decide +kernel) (by decide +kernel)
theorem w310 : (Cond.soleField "GroupRowsModel" "amount" : Cond) ∈ wAll := wA 310 (by decide +kernel) (by decide +kernel)
theorem w311 : (Cond.superclass "GroupRowsModel" "java/lang/Object" : Cond) ∈ wAll := wA 311 (by decide +kernel) (by decide +kernel)
theorem w312 : (Cond.methodLink "GroupRowsLaw" 55 ⟨"GroupRowsModel", "thrown", "()I"⟩ : Cond) ∈ wAll := wA 312 (by decide +kernel) (by decide +kernel)
theorem w313 : (Cond.instanceMethod ⟨"GroupRowsModel", "thrown", "()I"⟩ : Cond) ∈ wAll := wA 313 (by decide +kernel) (by decide +kernel)
theorem w314 : (Cond.selects "GroupRowsModel" ⟨"GroupRowsModel", "thrown", "()I"⟩ ⟨"GroupRowsModel", "thrown", "()I"⟩ : Cond) ∈ wAll := wA 314 (by decide +kernel) (by decide +kernel)
theorem w315 : (Cond.code ⟨"GroupRowsModel", "thrown", "()I"⟩ prog_3_method_2_code 1 (some .int) : Cond) ∈ wAll := wA 315 (by decide +kernel) (by decide +kernel)
theorem w316 : (Cond.methodLink "GroupRowsLaw" 54 ⟨"GroupRowsModel", "begin", "(II)V"⟩ : Cond) ∈ wAll := wA 316 (by decide +kernel) (by decide +kernel)
theorem w317 : (Cond.instanceMethod ⟨"GroupRowsModel", "begin", "(II)V"⟩ : Cond) ∈ wAll := wA 317 (by decide +kernel) (by decide +kernel)
theorem w318 : (Cond.selects "GroupRowsModel" ⟨"GroupRowsModel", "begin", "(II)V"⟩ ⟨"GroupRowsModel", "begin", "(II)V"⟩ : Cond) ∈ wAll := wA 318 (by decide +kernel) (by decide +kernel)
theorem w319 : (Cond.code ⟨"GroupRowsModel", "begin", "(II)V"⟩ prog_3_method_3_code 4 none : Cond) ∈ wAll := wA 319 (by decide +kernel) (by decide +kernel)
theorem w320 : (Cond.methodLink "GroupRowsLaw" 62 ⟨"GroupRowsModel", "key", "(II)I"⟩ : Cond) ∈ wAll := wA 320 (by decide +kernel) (by decide +kernel)
theorem w321 : (Cond.instanceMethod ⟨"GroupRowsModel", "key", "(II)I"⟩ : Cond) ∈ wAll := wA 321 (by decide +kernel) (by decide +kernel)
theorem w322 : (Cond.selects "GroupRowsModel" ⟨"GroupRowsModel", "key", "(II)I"⟩ ⟨"GroupRowsModel", "key", "(II)I"⟩ : Cond) ∈ wAll := wA 322 (by decide +kernel) (by decide +kernel)
theorem w323 : (Cond.code ⟨"GroupRowsModel", "key", "(II)I"⟩ prog_3_method_4_code 4 (some .int) : Cond) ∈ wAll := wA 323 (by decide +kernel) (by decide +kernel)
theorem w324 : (Cond.methodLink "GroupRowsLaw" 68 ⟨"GroupRowsModel", "amount", "(IJ)J"⟩ : Cond) ∈ wAll := wA 324 (by decide +kernel) (by decide +kernel)
theorem w325 : (Cond.instanceMethod ⟨"GroupRowsModel", "amount", "(IJ)J"⟩ : Cond) ∈ wAll := wA 325 (by decide +kernel) (by decide +kernel)
theorem w326 : (Cond.selects "GroupRowsModel" ⟨"GroupRowsModel", "amount", "(IJ)J"⟩ ⟨"GroupRowsModel", "amount", "(IJ)J"⟩ : Cond) ∈ wAll := wA 326 (by decide +kernel) (by decide +kernel)
theorem w327 : (Cond.code ⟨"GroupRowsModel", "amount", "(IJ)J"⟩ prog_3_method_5_code 6 (some .long) : Cond) ∈ wAll := wA 327 (by decide +kernel) (by decide +kernel)
theorem w328 : (Cond.methodLink "GroupRowsLaw" 72 ⟨"GroupRowsModel", "add", "(I)I"⟩ : Cond) ∈ wAll := wA 328 (by decide +kernel) (by decide +kernel)
theorem w329 : (Cond.instanceMethod ⟨"GroupRowsModel", "add", "(I)I"⟩ : Cond) ∈ wAll := wA 329 (by decide +kernel) (by decide +kernel)
theorem w330 : (Cond.selects "GroupRowsModel" ⟨"GroupRowsModel", "add", "(I)I"⟩ ⟨"GroupRowsModel", "add", "(I)I"⟩ : Cond) ∈ wAll := wA 330 (by decide +kernel) (by decide +kernel)
theorem w331 : (Cond.code ⟨"GroupRowsModel", "add", "(I)I"⟩ prog_3_method_10_code 2 (some .int) : Cond) ∈ wAll := wA 331 (by decide +kernel) (by decide +kernel)
theorem w332 : (Cond.constant "GroupRowsModel" 57 100000 : Cond) ∈ wAll := wA 332 (by decide +kernel) (by decide +kernel)
theorem w333 : (Cond.methodLink "GroupRowsModel" 58 ⟨"GroupRowsModel", "comes", "(I)Z"⟩ : Cond) ∈ wAll := wA 333 (by decide +kernel) (by decide +kernel)
theorem w335 : (Cond.instanceMethod ⟨"GroupRowsModel", "comes", "(I)Z"⟩ : Cond) ∈ wAll := wA 335 (by decide +kernel) (by decide +kernel)
theorem w336 : (Cond.code ⟨"GroupRowsModel", "comes", "(I)Z"⟩ prog_3_method_9_code 7 (some .boolean) : Cond) ∈ wAll := wA 336 (by decide +kernel) (by decide +kernel)
theorem w337 : (Cond.methodLink "GroupRowsModel" 49 ⟨"GroupRowsModel", "before", "()I"⟩ : Cond) ∈ wAll := wA 337 (by decide +kernel) (by decide +kernel)
theorem w339 : (Cond.instanceMethod ⟨"GroupRowsModel", "before", "()I"⟩ : Cond) ∈ wAll := wA 339 (by decide +kernel) (by decide +kernel)
theorem w340 : (Cond.code ⟨"GroupRowsModel", "before", "()I"⟩ prog_3_method_7_code 2 (some .int) : Cond) ∈ wAll := wA 340 (by decide +kernel) (by decide +kernel)
theorem w341 : (Cond.methodLink "GroupRowsModel" 45 ⟨"GroupRowsModel", "against", "(I)I"⟩ : Cond) ∈ wAll := wA 341 (by decide +kernel) (by decide +kernel)
theorem w343 : (Cond.instanceMethod ⟨"GroupRowsModel", "against", "(I)I"⟩ : Cond) ∈ wAll := wA 343 (by decide +kernel) (by decide +kernel)
theorem w344 : (Cond.code ⟨"GroupRowsModel", "against", "(I)I"⟩ prog_3_method_6_code 3 (some .int) : Cond) ∈ wAll := wA 344 (by decide +kernel) (by decide +kernel)
theorem w345 : (Cond.methodLink "GroupRowsModel" 53 ⟨"GroupRowsModel", "copy", "(II)V"⟩ : Cond) ∈ wAll := wA 345 (by decide +kernel) (by decide +kernel)
theorem w347 : (Cond.instanceMethod ⟨"GroupRowsModel", "copy", "(II)V"⟩ : Cond) ∈ wAll := wA 347 (by decide +kernel) (by decide +kernel)
theorem w348 : (Cond.code ⟨"GroupRowsModel", "copy", "(II)V"⟩ prog_3_method_8_code 4 none : Cond) ∈ wAll := wA 348 (by decide +kernel) (by decide +kernel)
theorem w349 : (Cond.methodLink "GroupRowsLaw" 76 ⟨"GroupRowsModel", "spread", "(III)I"⟩ : Cond) ∈ wAll := wA 349 (by decide +kernel) (by decide +kernel)
theorem w350 : (Cond.instanceMethod ⟨"GroupRowsModel", "spread", "(III)I"⟩ : Cond) ∈ wAll := wA 350 (by decide +kernel) (by decide +kernel)
theorem w351 : (Cond.selects "GroupRowsModel" ⟨"GroupRowsModel", "spread", "(III)I"⟩ ⟨"GroupRowsModel", "spread", "(III)I"⟩ : Cond) ∈ wAll := wA 351 (by decide +kernel) (by decide +kernel)
theorem w352 : (Cond.code ⟨"GroupRowsModel", "spread", "(III)I"⟩ prog_3_method_11_code 6 (some .int) : Cond) ∈ wAll := wA 352 (by decide +kernel) (by decide +kernel)
theorem w353 : (Cond.methodLink "GroupRowsLaw" 79 ⟨"GroupRowsModel", "roll", "(I)I"⟩ : Cond) ∈ wAll := wA 353 (by decide +kernel) (by decide +kernel)
theorem w354 : (Cond.instanceMethod ⟨"GroupRowsModel", "roll", "(I)I"⟩ : Cond) ∈ wAll := wA 354 (by decide +kernel) (by decide +kernel)
theorem w355 : (Cond.selects "GroupRowsModel" ⟨"GroupRowsModel", "roll", "(I)I"⟩ ⟨"GroupRowsModel", "roll", "(I)I"⟩ : Cond) ∈ wAll := wA 355 (by decide +kernel) (by decide +kernel)
theorem w356 : (Cond.code ⟨"GroupRowsModel", "roll", "(I)I"⟩ prog_3_method_14_code 6 (some .int) : Cond) ∈ wAll := wA 356 (by decide +kernel) (by decide +kernel)
theorem w357 : (Cond.constant "GroupRowsModel" 62 2147483647 : Cond) ∈ wAll := wA 357 (by decide +kernel) (by decide +kernel)
theorem w358 : (Cond.methodLink "GroupRowsModel" 63 ⟨"GroupRowsModel", "compared", "(II)I"⟩ : Cond) ∈ wAll := wA 358 (by decide +kernel) (by decide +kernel)
theorem w360 : (Cond.instanceMethod ⟨"GroupRowsModel", "compared", "(II)I"⟩ : Cond) ∈ wAll := wA 360 (by decide +kernel) (by decide +kernel)
theorem w361 : (Cond.code ⟨"GroupRowsModel", "compared", "(II)I"⟩ prog_3_method_13_code 4 (some .int) : Cond) ∈ wAll := wA 361 (by decide +kernel) (by decide +kernel)
theorem w362 : (Cond.methodLink "GroupRowsModel" 67 ⟨"GroupRowsModel", "join", "(II)V"⟩ : Cond) ∈ wAll := wA 362 (by decide +kernel) (by decide +kernel)
theorem w364 : (Cond.instanceMethod ⟨"GroupRowsModel", "join", "(II)V"⟩ : Cond) ∈ wAll := wA 364 (by decide +kernel) (by decide +kernel)
theorem w365 : (Cond.code ⟨"GroupRowsModel", "join", "(II)V"⟩ prog_3_method_12_code 6 none : Cond) ∈ wAll := wA 365 (by decide +kernel) (by decide +kernel)
theorem w366 : (Cond.methodLink "GroupRowsModel" 70 ⟨"GroupRowsModel", "sort", "()V"⟩ : Cond) ∈ wAll := wA 366 (by decide +kernel) (by decide +kernel)
theorem w368 : (Cond.instanceMethod ⟨"GroupRowsModel", "sort", "()V"⟩ : Cond) ∈ wAll := wA 368 (by decide +kernel) (by decide +kernel)
theorem w369 : (Cond.code ⟨"GroupRowsModel", "sort", "()V"⟩ prog_3_method_16_code 4 none : Cond) ∈ wAll := wA 369 (by decide +kernel) (by decide +kernel)
theorem w370 : (Cond.methodLink "GroupRowsModel" 73 ⟨"GroupRowsModel", "swap", "(II)V"⟩ : Cond) ∈ wAll := wA 370 (by decide +kernel) (by decide +kernel)
theorem w372 : (Cond.instanceMethod ⟨"GroupRowsModel", "swap", "(II)V"⟩ : Cond) ∈ wAll := wA 372 (by decide +kernel) (by decide +kernel)
theorem w373 : (Cond.code ⟨"GroupRowsModel", "swap", "(II)V"⟩ prog_3_method_15_code 15 none : Cond) ∈ wAll := wA 373 (by decide +kernel) (by decide +kernel)
theorem w374 : (Cond.methodLink "GroupRowsLaw" 83 ⟨"GroupRowsModel", "rows", "()I"⟩ : Cond) ∈ wAll := wA 374 (by decide +kernel) (by decide +kernel)
theorem w375 : (Cond.instanceMethod ⟨"GroupRowsModel", "rows", "()I"⟩ : Cond) ∈ wAll := wA 375 (by decide +kernel) (by decide +kernel)
theorem w376 : (Cond.selects "GroupRowsModel" ⟨"GroupRowsModel", "rows", "()I"⟩ ⟨"GroupRowsModel", "rows", "()I"⟩ : Cond) ∈ wAll := wA 376 (by decide +kernel) (by decide +kernel)
theorem w377 : (Cond.code ⟨"GroupRowsModel", "rows", "()I"⟩ prog_3_method_17_code 1 (some .int) : Cond) ∈ wAll := wA 377 (by decide +kernel) (by decide +kernel)
theorem w378 : (Cond.methodLink "GroupRowsLaw" 87 ⟨"GroupRowsModel", "find", "()I"⟩ : Cond) ∈ wAll := wA 378 (by decide +kernel) (by decide +kernel)
theorem w379 : (Cond.instanceMethod ⟨"GroupRowsModel", "find", "()I"⟩ : Cond) ∈ wAll := wA 379 (by decide +kernel) (by decide +kernel)
theorem w380 : (Cond.selects "GroupRowsModel" ⟨"GroupRowsModel", "find", "()I"⟩ ⟨"GroupRowsModel", "find", "()I"⟩ : Cond) ∈ wAll := wA 380 (by decide +kernel) (by decide +kernel)
theorem w381 : (Cond.code ⟨"GroupRowsModel", "find", "()I"⟩ prog_3_method_18_code 2 (some .int) : Cond) ∈ wAll := wA 381 (by decide +kernel) (by decide +kernel)
theorem w382 : (Cond.methodLink "GroupRowsLaw" 90 ⟨"GroupRowsModel", "keyAt", "(II)I"⟩ : Cond) ∈ wAll := wA 382 (by decide +kernel) (by decide +kernel)
theorem w383 : (Cond.instanceMethod ⟨"GroupRowsModel", "keyAt", "(II)I"⟩ : Cond) ∈ wAll := wA 383 (by decide +kernel) (by decide +kernel)
theorem w384 : (Cond.selects "GroupRowsModel" ⟨"GroupRowsModel", "keyAt", "(II)I"⟩ ⟨"GroupRowsModel", "keyAt", "(II)I"⟩ : Cond) ∈ wAll := wA 384 (by decide +kernel) (by decide +kernel)
theorem w385 : (Cond.code ⟨"GroupRowsModel", "keyAt", "(II)I"⟩ prog_3_method_20_code 3 (some .int) : Cond) ∈ wAll := wA 385 (by decide +kernel) (by decide +kernel)
theorem w386 : (Cond.methodLink "GroupRowsModel" 76 ⟨"GroupRowsModel", "isRow", "(I)Z"⟩ : Cond) ∈ wAll := wA 386 (by decide +kernel) (by decide +kernel)
theorem w388 : (Cond.instanceMethod ⟨"GroupRowsModel", "isRow", "(I)Z"⟩ : Cond) ∈ wAll := wA 388 (by decide +kernel) (by decide +kernel)
theorem w389 : (Cond.code ⟨"GroupRowsModel", "isRow", "(I)Z"⟩ prog_3_method_19_code 2 (some .boolean) : Cond) ∈ wAll := wA 389 (by decide +kernel) (by decide +kernel)
theorem w390 : (Cond.methodLink "GroupRowsLaw" 93 ⟨"GroupRowsModel", "count", "(I)J"⟩ : Cond) ∈ wAll := wA 390 (by decide +kernel) (by decide +kernel)
theorem w391 : (Cond.instanceMethod ⟨"GroupRowsModel", "count", "(I)J"⟩ : Cond) ∈ wAll := wA 391 (by decide +kernel) (by decide +kernel)
theorem w392 : (Cond.selects "GroupRowsModel" ⟨"GroupRowsModel", "count", "(I)J"⟩ ⟨"GroupRowsModel", "count", "(I)J"⟩ : Cond) ∈ wAll := wA 392 (by decide +kernel) (by decide +kernel)
theorem w393 : (Cond.code ⟨"GroupRowsModel", "count", "(I)J"⟩ prog_3_method_21_code 2 (some .long) : Cond) ∈ wAll := wA 393 (by decide +kernel) (by decide +kernel)
theorem w394 : (Cond.methodLink "GroupRowsLaw" 96 ⟨"GroupRowsModel", "told", "(III)J"⟩ : Cond) ∈ wAll := wA 394 (by decide +kernel) (by decide +kernel)
theorem w395 : (Cond.instanceMethod ⟨"GroupRowsModel", "told", "(III)J"⟩ : Cond) ∈ wAll := wA 395 (by decide +kernel) (by decide +kernel)
theorem w396 : (Cond.selects "GroupRowsModel" ⟨"GroupRowsModel", "told", "(III)J"⟩ ⟨"GroupRowsModel", "told", "(III)J"⟩ : Cond) ∈ wAll := wA 396 (by decide +kernel) (by decide +kernel)
theorem w397 : (Cond.code ⟨"GroupRowsModel", "told", "(III)J"⟩ prog_3_method_22_code 4 (some .long) : Cond) ∈ wAll := wA 397 (by decide +kernel) (by decide +kernel)
theorem w398 : (Cond.constantLong "GroupRowsLaw" 63 4294967295 : Cond) ∈ wAll := wA 398 (by decide +kernel) (by decide +kernel)
theorem w399 : (Cond.sameMethod "java/lang/Throwable" "java/lang/Throwable" "fillInStackTrace" "(I)Ljava/lang/Throwable;" : Cond) ∈ wAll := wA 399 (by decide +kernel) (by decide +kernel)
theorem sX_lowerPlace : Cond.selects "GroupRows" yX_lowerPlace yX_lowerPlace ∈ wAll := wP (y := yX_lowerPlace) (n := 11) (by decide +kernel)
theorem sX_compareKey : Cond.selects "GroupRows" yX_compareKey yX_compareKey ∈ wAll := wP (y := yX_compareKey) (n := 11) (by decide +kernel)
theorem sX_isKeyAt : Cond.selects "GroupRows" yX_isKeyAt yX_isKeyAt ∈ wAll := wP (y := yX_isKeyAt) (n := 11) (by decide +kernel)
theorem sX_isPart : Cond.selects "GroupRows" yX_isPart yX_isPart ∈ wAll := wP (y := yX_isPart) (n := 11) (by decide +kernel)
theorem sX_isMeasure : Cond.selects "GroupRows" yX_isMeasure yX_isMeasure ∈ wAll := wP (y := yX_isMeasure) (n := 11) (by decide +kernel)
theorem sX_takeFact : Cond.selects "GroupRows" yX_takeFact yX_takeFact ∈ wAll := wP (y := yX_takeFact) (n := 11) (by decide +kernel)
theorem sX_openRow : Cond.selects "GroupRows" yX_openRow yX_openRow ∈ wAll := wP (y := yX_openRow) (n := 11) (by decide +kernel)
theorem sX_insertSlot : Cond.selects "GroupRows" yX_insertSlot yX_insertSlot ∈ wAll := wP (y := yX_insertSlot) (n := 11) (by decide +kernel)
theorem sX_joinFact : Cond.selects "GroupRows" yX_joinFact yX_joinFact ∈ wAll := wP (y := yX_joinFact) (n := 11) (by decide +kernel)
theorem sX_stepFact : Cond.selects "GroupRows" yX_stepFact yX_stepFact ∈ wAll := wP (y := yX_stepFact) (n := 11) (by decide +kernel)
theorem sX_regroup : Cond.selects "GroupRows" yX_regroup yX_regroup ∈ wAll := wP (y := yX_regroup) (n := 11) (by decide +kernel)
theorem sX_joinRow : Cond.selects "GroupRows" yX_joinRow yX_joinRow ∈ wAll := wP (y := yX_joinRow) (n := 11) (by decide +kernel)
theorem sX_isPlace : Cond.selects "GroupRows" yX_isPlace yX_isPlace ∈ wAll := wP (y := yX_isPlace) (n := 11) (by decide +kernel)
theorem sM_comes : Cond.selects "GroupRowsModel" yM_comes yM_comes ∈ wAll := wP (y := yM_comes) (n := 11) (by decide +kernel)
theorem sM_before : Cond.selects "GroupRowsModel" yM_before yM_before ∈ wAll := wP (y := yM_before) (n := 11) (by decide +kernel)
theorem sM_against : Cond.selects "GroupRowsModel" yM_against yM_against ∈ wAll := wP (y := yM_against) (n := 11) (by decide +kernel)
theorem sM_copy : Cond.selects "GroupRowsModel" yM_copy yM_copy ∈ wAll := wP (y := yM_copy) (n := 11) (by decide +kernel)
theorem sM_compared : Cond.selects "GroupRowsModel" yM_compared yM_compared ∈ wAll := wP (y := yM_compared) (n := 11) (by decide +kernel)
theorem sM_join : Cond.selects "GroupRowsModel" yM_join yM_join ∈ wAll := wP (y := yM_join) (n := 11) (by decide +kernel)
theorem sM_sort : Cond.selects "GroupRowsModel" yM_sort yM_sort ∈ wAll := wP (y := yM_sort) (n := 11) (by decide +kernel)
theorem sM_swap : Cond.selects "GroupRowsModel" yM_swap yM_swap ∈ wAll := wP (y := yM_swap) (n := 11) (by decide +kernel)
theorem sM_isRow : Cond.selects "GroupRowsModel" yM_isRow yM_isRow ∈ wAll := wP (y := yM_isRow) (n := 11) (by decide +kernel)
