def gw : List Cond := lw_tbl.filter goodWord
theorem gw_good : ∀ w ∈ gw, (w.onTables && w.keeps) = true ∨ ∃ ty, w = .arrayClass ty := fun w h => good_of_word (List.mem_filter.mp h).2
theorem gi {c : Cond} (h : c ∈ gw) : GoodIn gw (c :: gw) := fun w hw => by
  rcases List.mem_cons.mp hw with rfl | hw
  · exact ⟨h, gw_good _ h⟩
  · exact ⟨hw, gw_good _ hw⟩
theorem s_0 : Cond.selects "ShareGrid" ⟨"ShareGrid", "fileUnder", "(I)I"⟩ ⟨"ShareGrid", "fileUnder", "(I)I"⟩ ∈ gw := List.mem_filter.mpr ⟨List.mem_of_getElem? (i := 0) (by decide +kernel), by decide +kernel⟩
theorem s_1 : Cond.selects "ShareGrid" ⟨"ShareGrid", "isWordPlace", "(I)Z"⟩ ⟨"ShareGrid", "isWordPlace", "(I)Z"⟩ ∈ gw := List.mem_filter.mpr ⟨List.mem_of_getElem? (i := 1) (by decide +kernel), by decide +kernel⟩
theorem s_2 : Cond.selects "ShareGrid" ⟨"ShareGrid", "serversUp", "()I"⟩ ⟨"ShareGrid", "serversUp", "()I"⟩ ∈ gw := List.mem_filter.mpr ⟨List.mem_of_getElem? (i := 2) (by decide +kernel), by decide +kernel⟩
theorem s_3 : Cond.selects "ShareGrid" ⟨"ShareGrid", "makeFreshRecord", "(II)I"⟩ ⟨"ShareGrid", "makeFreshRecord", "(II)I"⟩ ∈ gw := List.mem_filter.mpr ⟨List.mem_of_getElem? (i := 3) (by decide +kernel), by decide +kernel⟩
theorem s_4 : Cond.selects "ShareGrid$Coder" ⟨"ShareGrid$Coder", "shareAt", "(I)I"⟩ ⟨"ShareGrid$Coder", "shareAt", "(I)I"⟩ ∈ gw := List.mem_filter.mpr ⟨List.mem_of_getElem? (i := 4) (by decide +kernel), by decide +kernel⟩
theorem s_5 : Cond.selects "ShareGrid$ServerRecord" ⟨"ShareGrid$ServerRecord", "rootOfFingerprints", "()I"⟩ ⟨"ShareGrid$ServerRecord", "rootOfFingerprints", "()I"⟩ ∈ gw := List.mem_filter.mpr ⟨List.mem_of_getElem? (i := 5) (by decide +kernel), by decide +kernel⟩
theorem s_6 : Cond.selects "ShareGrid$StoredFile" ⟨"ShareGrid$StoredFile", "noteNext", "(II)V"⟩ ⟨"ShareGrid$StoredFile", "noteNext", "(II)V"⟩ ∈ gw := List.mem_filter.mpr ⟨List.mem_of_getElem? (i := 6) (by decide +kernel), by decide +kernel⟩
theorem s_7 : Cond.selects "ShareGrid" ⟨"ShareGrid", "takesRecords", "(I)Z"⟩ ⟨"ShareGrid", "takesRecords", "(I)Z"⟩ ∈ gw := List.mem_filter.mpr ⟨List.mem_of_getElem? (i := 7) (by decide +kernel), by decide +kernel⟩
theorem s_8 : Cond.selects "ShareGrid" ⟨"ShareGrid", "giveFreshRecord", "(LShareGrid$StoredFile;I)V"⟩ ⟨"ShareGrid", "giveFreshRecord", "(LShareGrid$StoredFile;I)V"⟩ ∈ gw := List.mem_filter.mpr ⟨List.mem_of_getElem? (i := 8) (by decide +kernel), by decide +kernel⟩
theorem s_9 : Cond.selects "ShareGrid$ServerRecord" ⟨"ShareGrid$ServerRecord", "copyFrom", "(LShareGrid$ServerRecord;)V"⟩ ⟨"ShareGrid$ServerRecord", "copyFrom", "(LShareGrid$ServerRecord;)V"⟩ ∈ gw := List.mem_filter.mpr ⟨List.mem_of_getElem? (i := 9) (by decide +kernel), by decide +kernel⟩
theorem s_10 : Cond.selects "ShareGrid" ⟨"ShareGrid", "bestNumber", "(LShareGrid$StoredFile;)I"⟩ ⟨"ShareGrid", "bestNumber", "(LShareGrid$StoredFile;)I"⟩ ∈ gw := List.mem_filter.mpr ⟨List.mem_of_getElem? (i := 10) (by decide +kernel), by decide +kernel⟩
theorem s_11 : Cond.selects "ShareGrid$StoredFile" ⟨"ShareGrid$StoredFile", "isSoundAt", "(I)Z"⟩ ⟨"ShareGrid$StoredFile", "isSoundAt", "(I)Z"⟩ ∈ gw := List.mem_filter.mpr ⟨List.mem_of_getElem? (i := 11) (by decide +kernel), by decide +kernel⟩
theorem s_12 : Cond.selects "ShareGrid" ⟨"ShareGrid", "decodeVersion", "(LShareGrid$StoredFile;I)I"⟩ ⟨"ShareGrid", "decodeVersion", "(LShareGrid$StoredFile;I)I"⟩ ∈ gw := List.mem_filter.mpr ⟨List.mem_of_getElem? (i := 12) (by decide +kernel), by decide +kernel⟩
theorem s_13 : Cond.selects "ShareGrid$StoredFile" ⟨"ShareGrid$StoredFile", "isSoundWith", "(II)Z"⟩ ⟨"ShareGrid$StoredFile", "isSoundWith", "(II)Z"⟩ ∈ gw := List.mem_filter.mpr ⟨List.mem_of_getElem? (i := 13) (by decide +kernel), by decide +kernel⟩
theorem s_14 : Cond.selects "ShareGrid$Coder" ⟨"ShareGrid$Coder", "decodeShares", "()V"⟩ ⟨"ShareGrid$Coder", "decodeShares", "()V"⟩ ∈ gw := List.mem_filter.mpr ⟨List.mem_of_getElem? (i := 14) (by decide +kernel), by decide +kernel⟩
theorem s_15 : Cond.selects "ShareGrid$Coder" ⟨"ShareGrid$Coder", "sharesToDifferences", "()V"⟩ ⟨"ShareGrid$Coder", "sharesToDifferences", "()V"⟩ ∈ gw := List.mem_filter.mpr ⟨List.mem_of_getElem? (i := 15) (by decide +kernel), by decide +kernel⟩
theorem s_16 : Cond.selects "ShareGrid$Coder" ⟨"ShareGrid$Coder", "differencesToCipherWords", "()V"⟩ ⟨"ShareGrid$Coder", "differencesToCipherWords", "()V"⟩ ∈ gw := List.mem_filter.mpr ⟨List.mem_of_getElem? (i := 16) (by decide +kernel), by decide +kernel⟩
theorem s_17 : Cond.selects "ShareGrid" ⟨"ShareGrid", "isPlace", "(I)Z"⟩ ⟨"ShareGrid", "isPlace", "(I)Z"⟩ ∈ gw := List.mem_filter.mpr ⟨List.mem_of_getElem? (i := 17) (by decide +kernel), by decide +kernel⟩
theorem s_18 : Cond.selects "ShareGrid" ⟨"ShareGrid", "isFile", "(I)Z"⟩ ⟨"ShareGrid", "isFile", "(I)Z"⟩ ∈ gw := List.mem_filter.mpr ⟨List.mem_of_getElem? (i := 18) (by decide +kernel), by decide +kernel⟩
theorem s_19 : Cond.selects "ShareGrid" ⟨"ShareGrid", "greatestNumber", "(I)I"⟩ ⟨"ShareGrid", "greatestNumber", "(I)I"⟩ ∈ gw := List.mem_filter.mpr ⟨List.mem_of_getElem? (i := 19) (by decide +kernel), by decide +kernel⟩
theorem s_20 : Cond.selects "ShareGridModel" ⟨"ShareGridModel", "mix", "(II)I"⟩ ⟨"ShareGridModel", "mix", "(II)I"⟩ ∈ gw := List.mem_filter.mpr ⟨List.mem_of_getElem? (i := 20) (by decide +kernel), by decide +kernel⟩
theorem s_21 : Cond.selects "ShareGridModel" ⟨"ShareGridModel", "fileOf", "(I)I"⟩ ⟨"ShareGridModel", "fileOf", "(I)I"⟩ ∈ gw := List.mem_filter.mpr ⟨List.mem_of_getElem? (i := 21) (by decide +kernel), by decide +kernel⟩
theorem s_22 : Cond.selects "ShareGridModel" ⟨"ShareGridModel", "upCount", "()I"⟩ ⟨"ShareGridModel", "upCount", "()I"⟩ ∈ gw := List.mem_filter.mpr ⟨List.mem_of_getElem? (i := 22) (by decide +kernel), by decide +kernel⟩
theorem s_23 : Cond.selects "ShareGridModel" ⟨"ShareGridModel", "shareAt", "(I)I"⟩ ⟨"ShareGridModel", "shareAt", "(I)I"⟩ ∈ gw := List.mem_filter.mpr ⟨List.mem_of_getElem? (i := 23) (by decide +kernel), by decide +kernel⟩
theorem s_24 : Cond.selects "ShareGridModel" ⟨"ShareGridModel", "power", "(II)I"⟩ ⟨"ShareGridModel", "power", "(II)I"⟩ ∈ gw := List.mem_filter.mpr ⟨List.mem_of_getElem? (i := 24) (by decide +kernel), by decide +kernel⟩
theorem s_25 : Cond.selects "ShareGridModel" ⟨"ShareGridModel", "product", "(II)I"⟩ ⟨"ShareGridModel", "product", "(II)I"⟩ ∈ gw := List.mem_filter.mpr ⟨List.mem_of_getElem? (i := 25) (by decide +kernel), by decide +kernel⟩
theorem s_26 : Cond.selects "ShareGridModel" ⟨"ShareGridModel", "scaled", "(II)I"⟩ ⟨"ShareGridModel", "scaled", "(II)I"⟩ ∈ gw := List.mem_filter.mpr ⟨List.mem_of_getElem? (i := 26) (by decide +kernel), by decide +kernel⟩
theorem s_27 : Cond.selects "ShareGridModel" ⟨"ShareGridModel", "keep", "(IIII)V"⟩ ⟨"ShareGridModel", "keep", "(IIII)V"⟩ ∈ gw := List.mem_filter.mpr ⟨List.mem_of_getElem? (i := 27) (by decide +kernel), by decide +kernel⟩
theorem s_28 : Cond.selects "ShareGridModel" ⟨"ShareGridModel", "bestOf", "(I)I"⟩ ⟨"ShareGridModel", "bestOf", "(I)I"⟩ ∈ gw := List.mem_filter.mpr ⟨List.mem_of_getElem? (i := 28) (by decide +kernel), by decide +kernel⟩
theorem s_29 : Cond.selects "ShareGridModel" ⟨"ShareGridModel", "serves", "(III)Z"⟩ ⟨"ShareGridModel", "serves", "(III)Z"⟩ ∈ gw := List.mem_filter.mpr ⟨List.mem_of_getElem? (i := 29) (by decide +kernel), by decide +kernel⟩
theorem s_30 : Cond.selects "ShareGridModel" ⟨"ShareGridModel", "isSound", "(II)Z"⟩ ⟨"ShareGridModel", "isSound", "(II)Z"⟩ ∈ gw := List.mem_filter.mpr ⟨List.mem_of_getElem? (i := 30) (by decide +kernel), by decide +kernel⟩
theorem s_31 : Cond.selects "ShareGridModel" ⟨"ShareGridModel", "rootOf", "(II)I"⟩ ⟨"ShareGridModel", "rootOf", "(II)I"⟩ ∈ gw := List.mem_filter.mpr ⟨List.mem_of_getElem? (i := 31) (by decide +kernel), by decide +kernel⟩
theorem s_32 : Cond.selects "ShareGridModel" ⟨"ShareGridModel", "decode", "(II)V"⟩ ⟨"ShareGridModel", "decode", "(II)V"⟩ ∈ gw := List.mem_filter.mpr ⟨List.mem_of_getElem? (i := 32) (by decide +kernel), by decide +kernel⟩
theorem s_33 : Cond.selects "ShareGridModel" ⟨"ShareGridModel", "subtract", "(III)V"⟩ ⟨"ShareGridModel", "subtract", "(III)V"⟩ ∈ gw := List.mem_filter.mpr ⟨List.mem_of_getElem? (i := 33) (by decide +kernel), by decide +kernel⟩
theorem s_34 : Cond.selects "ShareGridModel" ⟨"ShareGridModel", "copyRow", "(II)V"⟩ ⟨"ShareGridModel", "copyRow", "(II)V"⟩ ∈ gw := List.mem_filter.mpr ⟨List.mem_of_getElem? (i := 34) (by decide +kernel), by decide +kernel⟩
theorem s_35 : Cond.selects "ShareGridModel" ⟨"ShareGridModel", "bad", "(II)Z"⟩ ⟨"ShareGridModel", "bad", "(II)Z"⟩ ∈ gw := List.mem_filter.mpr ⟨List.mem_of_getElem? (i := 35) (by decide +kernel), by decide +kernel⟩
theorem w_0 : Cond.initialized "ShareGridLaw" ∈ gw := List.mem_filter.mpr ⟨List.mem_of_getElem? (i := 36) (by decide +kernel), by decide +kernel⟩
theorem w_1 : Cond.initialized "ShareGrid" ∈ gw := List.mem_filter.mpr ⟨List.mem_of_getElem? (i := 37) (by decide +kernel), by decide +kernel⟩
theorem w_2 : Cond.initialized "java/lang/Math" ∈ gw := List.mem_filter.mpr ⟨List.mem_of_getElem? (i := 38) (by decide +kernel), by decide +kernel⟩
theorem w_3 : Cond.initialized "ShareGrid$StoredFile" ∈ gw := List.mem_filter.mpr ⟨List.mem_of_getElem? (i := 39) (by decide +kernel), by decide +kernel⟩
theorem w_4 : Cond.initialized "ShareGrid$ServerRecord" ∈ gw := List.mem_filter.mpr ⟨List.mem_of_getElem? (i := 40) (by decide +kernel), by decide +kernel⟩
theorem w_5 : Cond.initialized "ShareGrid$Coder" ∈ gw := List.mem_filter.mpr ⟨List.mem_of_getElem? (i := 41) (by decide +kernel), by decide +kernel⟩
theorem w_6 : Cond.initialized "ShareGridModel" ∈ gw := List.mem_filter.mpr ⟨List.mem_of_getElem? (i := 42) (by decide +kernel), by decide +kernel⟩
theorem w_7 : Cond.initialized "java/lang/System" ∈ gw := List.mem_filter.mpr ⟨List.mem_of_getElem? (i := 43) (by decide +kernel), by decide +kernel⟩
theorem w_8 : Cond.initialized "java/util/Arrays" ∈ gw := List.mem_filter.mpr ⟨List.mem_of_getElem? (i := 44) (by decide +kernel), by decide +kernel⟩
theorem w_9 : Cond.classLink "ShareGridLaw" 7 "ShareGrid" ∈ gw := List.mem_filter.mpr ⟨List.mem_of_getElem? (i := 45) (by decide +kernel), by decide +kernel⟩
theorem w_10 : Cond.instantiable "ShareGrid" 12 ∈ gw := List.mem_filter.mpr ⟨List.mem_of_getElem? (i := 46) (by decide +kernel), by decide +kernel⟩
theorem w_11 : Cond.methodLink "ShareGridLaw" 15 ⟨"ShareGrid", "<init>", "(II)V"⟩ ∈ gw := List.mem_filter.mpr ⟨List.mem_of_getElem? (i := 47) (by decide +kernel), by decide +kernel⟩
theorem w_12 : Cond.instanceMethod ⟨"ShareGrid", "<init>", "(II)V"⟩ ∈ gw := List.mem_filter.mpr ⟨List.mem_of_getElem? (i := 48) (by decide +kernel), by decide +kernel⟩
theorem w_13 : Cond.code ⟨"ShareGrid", "<init>", "(II)V"⟩ prog_1_method_1_code 4 none ∈ gw := List.mem_filter.mpr ⟨List.mem_of_getElem? (i := 49) (by decide +kernel), by decide +kernel⟩
theorem w_14 : Cond.methodLink "ShareGrid" 1 ⟨"java/lang/Object", "<init>", "()V"⟩ ∈ gw := List.mem_filter.mpr ⟨List.mem_of_getElem? (i := 50) (by decide +kernel), by decide +kernel⟩
theorem w_15 : Cond.instanceMethod ⟨"java/lang/Object", "<init>", "()V"⟩ ∈ gw := List.mem_filter.mpr ⟨List.mem_of_getElem? (i := 51) (by decide +kernel), by decide +kernel⟩
theorem w_16 : Cond.code ⟨"java/lang/Object", "<init>", "()V"⟩ object_method_1_code 1 none ∈ gw := List.mem_filter.mpr ⟨List.mem_of_getElem? (i := 52) (by decide +kernel), by decide +kernel⟩
theorem w_17 : Cond.methodLink "ShareGrid" 9 ⟨"ShareGrid", "clamped", "(III)I"⟩ ∈ gw := List.mem_filter.mpr ⟨List.mem_of_getElem? (i := 53) (by decide +kernel), by decide +kernel⟩
theorem w_18 : Cond.static ⟨"ShareGrid", "clamped", "(III)I"⟩ ∈ gw := List.mem_filter.mpr ⟨List.mem_of_getElem? (i := 54) (by decide +kernel), by decide +kernel⟩
theorem w_19 : Cond.code ⟨"ShareGrid", "clamped", "(III)I"⟩ prog_1_method_20_code 3 (some FieldType.int) ∈ gw := List.mem_filter.mpr ⟨List.mem_of_getElem? (i := 55) (by decide +kernel), by decide +kernel⟩
theorem w_20 : Cond.methodLink "ShareGrid" 170 ⟨"java/lang/Math", "min", "(II)I"⟩ ∈ gw := List.mem_filter.mpr ⟨List.mem_of_getElem? (i := 56) (by decide +kernel), by decide +kernel⟩
theorem w_21 : Cond.static ⟨"java/lang/Math", "min", "(II)I"⟩ ∈ gw := List.mem_filter.mpr ⟨List.mem_of_getElem? (i := 57) (by decide +kernel), by decide +kernel⟩
theorem w_22 : Cond.code ⟨"java/lang/Math", "min", "(II)I"⟩ prog_7_method_69_code 2 (some FieldType.int) ∈ gw := List.mem_filter.mpr ⟨List.mem_of_getElem? (i := 58) (by decide +kernel), by decide +kernel⟩
theorem w_23 : Cond.methodLink "ShareGrid" 175 ⟨"java/lang/Math", "max", "(II)I"⟩ ∈ gw := List.mem_filter.mpr ⟨List.mem_of_getElem? (i := 59) (by decide +kernel), by decide +kernel⟩
theorem w_24 : Cond.static ⟨"java/lang/Math", "max", "(II)I"⟩ ∈ gw := List.mem_filter.mpr ⟨List.mem_of_getElem? (i := 60) (by decide +kernel), by decide +kernel⟩
theorem w_25 : Cond.code ⟨"java/lang/Math", "max", "(II)I"⟩ prog_7_method_65_code 2 (some FieldType.int) ∈ gw := List.mem_filter.mpr ⟨List.mem_of_getElem? (i := 61) (by decide +kernel), by decide +kernel⟩
theorem w_26 : Cond.classLink "ShareGrid" 27 "ShareGrid$StoredFile" ∈ gw := List.mem_filter.mpr ⟨List.mem_of_getElem? (i := 62) (by decide +kernel), by decide +kernel⟩
theorem w_28 : Cond.instantiable "ShareGrid$StoredFile" 6 ∈ gw := List.mem_filter.mpr ⟨List.mem_of_getElem? (i := 64) (by decide +kernel), by decide +kernel⟩
theorem w_30 : Cond.instanceMethod ⟨"ShareGrid$StoredFile", "<init>", "(I)V"⟩ ∈ gw := List.mem_filter.mpr ⟨List.mem_of_getElem? (i := 66) (by decide +kernel), by decide +kernel⟩
theorem w_31 : Cond.code ⟨"ShareGrid$StoredFile", "<init>", "(I)V"⟩ prog_4_method_1_code 3 none ∈ gw := List.mem_filter.mpr ⟨List.mem_of_getElem? (i := 67) (by decide +kernel), by decide +kernel⟩
theorem w_32 : Cond.methodLink "ShareGrid$StoredFile" 3 ⟨"java/lang/Object", "<init>", "()V"⟩ ∈ gw := List.mem_filter.mpr ⟨List.mem_of_getElem? (i := 68) (by decide +kernel), by decide +kernel⟩
theorem w_33 : Cond.classLink "ShareGrid$StoredFile" 9 "ShareGrid$ServerRecord" ∈ gw := List.mem_filter.mpr ⟨List.mem_of_getElem? (i := 69) (by decide +kernel), by decide +kernel⟩
theorem w_35 : Cond.instantiable "ShareGrid$ServerRecord" 5 ∈ gw := List.mem_filter.mpr ⟨List.mem_of_getElem? (i := 71) (by decide +kernel), by decide +kernel⟩
theorem w_37 : Cond.instanceMethod ⟨"ShareGrid$ServerRecord", "<init>", "(I)V"⟩ ∈ gw := List.mem_filter.mpr ⟨List.mem_of_getElem? (i := 73) (by decide +kernel), by decide +kernel⟩
theorem w_38 : Cond.code ⟨"ShareGrid$ServerRecord", "<init>", "(I)V"⟩ prog_3_method_1_code 2 none ∈ gw := List.mem_filter.mpr ⟨List.mem_of_getElem? (i := 74) (by decide +kernel), by decide +kernel⟩
theorem w_39 : Cond.methodLink "ShareGrid$ServerRecord" 1 ⟨"java/lang/Object", "<init>", "()V"⟩ ∈ gw := List.mem_filter.mpr ⟨List.mem_of_getElem? (i := 75) (by decide +kernel), by decide +kernel⟩
theorem w_40 : Cond.fieldLink "ShareGrid$ServerRecord" 7 "ShareGrid$ServerRecord" "fingerprints" "[I" ∈ gw := List.mem_filter.mpr ⟨List.mem_of_getElem? (i := 76) (by decide +kernel), by decide +kernel⟩
theorem w_43 : Cond.fieldLink "ShareGrid$ServerRecord" 13 "ShareGrid$ServerRecord" "held" "Z" ∈ gw := List.mem_filter.mpr ⟨List.mem_of_getElem? (i := 79) (by decide +kernel), by decide +kernel⟩
theorem w_46 : Cond.fieldLink "ShareGrid$ServerRecord" 17 "ShareGrid$ServerRecord" "share" "I" ∈ gw := List.mem_filter.mpr ⟨List.mem_of_getElem? (i := 82) (by decide +kernel), by decide +kernel⟩
theorem w_49 : Cond.fieldLink "ShareGrid$ServerRecord" 21 "ShareGrid$ServerRecord" "number" "I" ∈ gw := List.mem_filter.mpr ⟨List.mem_of_getElem? (i := 85) (by decide +kernel), by decide +kernel⟩
theorem w_52 : Cond.fieldLink "ShareGrid$ServerRecord" 24 "ShareGrid$ServerRecord" "seal" "I" ∈ gw := List.mem_filter.mpr ⟨List.mem_of_getElem? (i := 88) (by decide +kernel), by decide +kernel⟩
theorem w_66 : Cond.arrayClass FieldType.boolean ∈ gw := List.mem_filter.mpr ⟨List.mem_of_getElem? (i := 102) (by decide +kernel), by decide +kernel⟩
theorem w_67 : Cond.arrayClass FieldType.int ∈ gw := List.mem_filter.mpr ⟨List.mem_of_getElem? (i := 103) (by decide +kernel), by decide +kernel⟩
theorem w_68 : Cond.fieldLink "ShareGrid$StoredFile" 11 "ShareGrid$StoredFile" "records" "[LShareGrid$ServerRecord;" ∈ gw := List.mem_filter.mpr ⟨List.mem_of_getElem? (i := 104) (by decide +kernel), by decide +kernel⟩
theorem w_70 : Cond.fieldLink "ShareGrid$StoredFile" 17 "ShareGrid$StoredFile" "pictures" "[LShareGrid$ServerRecord;" ∈ gw := List.mem_filter.mpr ⟨List.mem_of_getElem? (i := 106) (by decide +kernel), by decide +kernel⟩
theorem w_72 : Cond.fieldLink "ShareGrid$StoredFile" 23 "ShareGrid$StoredFile" "notedRoots" "[I" ∈ gw := List.mem_filter.mpr ⟨List.mem_of_getElem? (i := 108) (by decide +kernel), by decide +kernel⟩
theorem w_73 : Cond.fieldLink "ShareGrid$StoredFile" 27 "ShareGrid$StoredFile" "notedSeals" "[I" ∈ gw := List.mem_filter.mpr ⟨List.mem_of_getElem? (i := 109) (by decide +kernel), by decide +kernel⟩
theorem w_75 : Cond.fieldLink "ShareGrid$StoredFile" 30 "ShareGrid$StoredFile" "written" "I" ∈ gw := List.mem_filter.mpr ⟨List.mem_of_getElem? (i := 111) (by decide +kernel), by decide +kernel⟩
theorem w_90 : Cond.classLink "ShareGrid" 43 "ShareGrid$Coder" ∈ gw := List.mem_filter.mpr ⟨List.mem_of_getElem? (i := 126) (by decide +kernel), by decide +kernel⟩
theorem w_91 : Cond.instantiable "ShareGrid$Coder" 3 ∈ gw := List.mem_filter.mpr ⟨List.mem_of_getElem? (i := 127) (by decide +kernel), by decide +kernel⟩
theorem w_93 : Cond.instanceMethod ⟨"ShareGrid$Coder", "<init>", "(I)V"⟩ ∈ gw := List.mem_filter.mpr ⟨List.mem_of_getElem? (i := 129) (by decide +kernel), by decide +kernel⟩
theorem w_94 : Cond.code ⟨"ShareGrid$Coder", "<init>", "(I)V"⟩ prog_2_method_1_code 2 none ∈ gw := List.mem_filter.mpr ⟨List.mem_of_getElem? (i := 130) (by decide +kernel), by decide +kernel⟩
theorem w_95 : Cond.methodLink "ShareGrid$Coder" 1 ⟨"java/lang/Object", "<init>", "()V"⟩ ∈ gw := List.mem_filter.mpr ⟨List.mem_of_getElem? (i := 131) (by decide +kernel), by decide +kernel⟩
theorem w_96 : Cond.fieldLink "ShareGrid$Coder" 7 "ShareGrid$Coder" "needed" "I" ∈ gw := List.mem_filter.mpr ⟨List.mem_of_getElem? (i := 132) (by decide +kernel), by decide +kernel⟩
theorem w_97 : Cond.fieldLink "ShareGrid$Coder" 13 "ShareGrid$Coder" "cipherWords" "[I" ∈ gw := List.mem_filter.mpr ⟨List.mem_of_getElem? (i := 133) (by decide +kernel), by decide +kernel⟩
theorem w_99 : Cond.fieldLink "ShareGrid$Coder" 17 "ShareGrid$Coder" "points" "[I" ∈ gw := List.mem_filter.mpr ⟨List.mem_of_getElem? (i := 135) (by decide +kernel), by decide +kernel⟩
theorem w_108 : Cond.classLink "ShareGrid" 50 "ShareGrid$ServerRecord" ∈ gw := List.mem_filter.mpr ⟨List.mem_of_getElem? (i := 144) (by decide +kernel), by decide +kernel⟩
theorem w_110 : Cond.fieldLink "ShareGrid" 13 "ShareGrid" "needed" "I" ∈ gw := List.mem_filter.mpr ⟨List.mem_of_getElem? (i := 146) (by decide +kernel), by decide +kernel⟩
theorem w_111 : Cond.fieldLink "ShareGrid" 17 "ShareGrid" "servers" "I" ∈ gw := List.mem_filter.mpr ⟨List.mem_of_getElem? (i := 147) (by decide +kernel), by decide +kernel⟩
theorem w_112 : Cond.fieldLink "ShareGrid" 20 "ShareGrid" "up" "[Z" ∈ gw := List.mem_filter.mpr ⟨List.mem_of_getElem? (i := 148) (by decide +kernel), by decide +kernel⟩
theorem w_113 : Cond.fieldLink "ShareGrid" 24 "ShareGrid" "stuck" "[Z" ∈ gw := List.mem_filter.mpr ⟨List.mem_of_getElem? (i := 149) (by decide +kernel), by decide +kernel⟩
theorem w_114 : Cond.fieldLink "ShareGrid" 29 "ShareGrid" "files" "[LShareGrid$StoredFile;" ∈ gw := List.mem_filter.mpr ⟨List.mem_of_getElem? (i := 150) (by decide +kernel), by decide +kernel⟩
theorem w_115 : Cond.fieldLink "ShareGrid" 36 "ShareGrid" "draftWords" "[I" ∈ gw := List.mem_filter.mpr ⟨List.mem_of_getElem? (i := 151) (by decide +kernel), by decide +kernel⟩
theorem w_116 : Cond.fieldLink "ShareGrid" 40 "ShareGrid" "readWords" "[I" ∈ gw := List.mem_filter.mpr ⟨List.mem_of_getElem? (i := 152) (by decide +kernel), by decide +kernel⟩
theorem w_117 : Cond.fieldLink "ShareGrid" 46 "ShareGrid" "coder" "LShareGrid$Coder;" ∈ gw := List.mem_filter.mpr ⟨List.mem_of_getElem? (i := 153) (by decide +kernel), by decide +kernel⟩
theorem w_118 : Cond.fieldLink "ShareGrid" 53 "ShareGrid" "fresh" "LShareGrid$ServerRecord;" ∈ gw := List.mem_filter.mpr ⟨List.mem_of_getElem? (i := 154) (by decide +kernel), by decide +kernel⟩
theorem w_119 : Cond.fieldLink "ShareGrid" 57 "ShareGrid" "seenOfNumber" "[I" ∈ gw := List.mem_filter.mpr ⟨List.mem_of_getElem? (i := 155) (by decide +kernel), by decide +kernel⟩
theorem w_120 : Cond.fieldLink "ShareGrid" 60 "ShareGrid" "fileCount" "I" ∈ gw := List.mem_filter.mpr ⟨List.mem_of_getElem? (i := 156) (by decide +kernel), by decide +kernel⟩
theorem w_121 : Cond.fieldLink "ShareGrid" 63 "ShareGrid" "hasRead" "Z" ∈ gw := List.mem_filter.mpr ⟨List.mem_of_getElem? (i := 157) (by decide +kernel), by decide +kernel⟩
theorem w_147 : Cond.methodLink "ShareGridLaw" 21 ⟨"ShareGrid", "key", "(II)I"⟩ ∈ gw := List.mem_filter.mpr ⟨List.mem_of_getElem? (i := 183) (by decide +kernel), by decide +kernel⟩
theorem w_148 : Cond.instanceMethod ⟨"ShareGrid", "key", "(II)I"⟩ ∈ gw := List.mem_filter.mpr ⟨List.mem_of_getElem? (i := 184) (by decide +kernel), by decide +kernel⟩
theorem w_149 : Cond.selects "ShareGrid" ⟨"ShareGrid", "key", "(II)I"⟩ ⟨"ShareGrid", "key", "(II)I"⟩ ∈ gw := List.mem_filter.mpr ⟨List.mem_of_getElem? (i := 185) (by decide +kernel), by decide +kernel⟩
theorem w_150 : Cond.code ⟨"ShareGrid", "key", "(II)I"⟩ prog_1_method_2_code 3 (some FieldType.int) ∈ gw := List.mem_filter.mpr ⟨List.mem_of_getElem? (i := 186) (by decide +kernel), by decide +kernel⟩
theorem w_151 : Cond.methodLink "ShareGrid" 67 ⟨"ShareGrid", "readKeyOf", "(I)I"⟩ ∈ gw := List.mem_filter.mpr ⟨List.mem_of_getElem? (i := 187) (by decide +kernel), by decide +kernel⟩
theorem w_152 : Cond.static ⟨"ShareGrid", "readKeyOf", "(I)I"⟩ ∈ gw := List.mem_filter.mpr ⟨List.mem_of_getElem? (i := 188) (by decide +kernel), by decide +kernel⟩
theorem w_153 : Cond.code ⟨"ShareGrid", "readKeyOf", "(I)I"⟩ prog_1_method_33_code 1 (some FieldType.int) ∈ gw := List.mem_filter.mpr ⟨List.mem_of_getElem? (i := 189) (by decide +kernel), by decide +kernel⟩
theorem w_154 : Cond.methodLink "ShareGrid" 205 ⟨"ShareGrid", "mix", "(II)I"⟩ ∈ gw := List.mem_filter.mpr ⟨List.mem_of_getElem? (i := 190) (by decide +kernel), by decide +kernel⟩
theorem w_155 : Cond.static ⟨"ShareGrid", "mix", "(II)I"⟩ ∈ gw := List.mem_filter.mpr ⟨List.mem_of_getElem? (i := 191) (by decide +kernel), by decide +kernel⟩
theorem w_156 : Cond.code ⟨"ShareGrid", "mix", "(II)I"⟩ prog_1_method_32_code 3 (some FieldType.int) ∈ gw := List.mem_filter.mpr ⟨List.mem_of_getElem? (i := 192) (by decide +kernel), by decide +kernel⟩
theorem w_157 : Cond.constant "ShareGrid" 208 40503 ∈ gw := List.mem_filter.mpr ⟨List.mem_of_getElem? (i := 193) (by decide +kernel), by decide +kernel⟩
theorem w_158 : Cond.constant "ShareGrid" 209 1640531527 ∈ gw := List.mem_filter.mpr ⟨List.mem_of_getElem? (i := 194) (by decide +kernel), by decide +kernel⟩
theorem w_159 : Cond.methodLink "ShareGrid" 71 ⟨"ShareGrid", "verifyKeyOf", "(I)I"⟩ ∈ gw := List.mem_filter.mpr ⟨List.mem_of_getElem? (i := 195) (by decide +kernel), by decide +kernel⟩
theorem w_160 : Cond.static ⟨"ShareGrid", "verifyKeyOf", "(I)I"⟩ ∈ gw := List.mem_filter.mpr ⟨List.mem_of_getElem? (i := 196) (by decide +kernel), by decide +kernel⟩
theorem w_161 : Cond.code ⟨"ShareGrid", "verifyKeyOf", "(I)I"⟩ prog_1_method_34_code 1 (some FieldType.int) ∈ gw := List.mem_filter.mpr ⟨List.mem_of_getElem? (i := 197) (by decide +kernel), by decide +kernel⟩
theorem w_162 : Cond.methodLink "ShareGridLaw" 26 ⟨"ShareGrid", "create", "(I)I"⟩ ∈ gw := List.mem_filter.mpr ⟨List.mem_of_getElem? (i := 198) (by decide +kernel), by decide +kernel⟩
theorem w_163 : Cond.instanceMethod ⟨"ShareGrid", "create", "(I)I"⟩ ∈ gw := List.mem_filter.mpr ⟨List.mem_of_getElem? (i := 199) (by decide +kernel), by decide +kernel⟩
theorem w_164 : Cond.selects "ShareGrid" ⟨"ShareGrid", "create", "(I)I"⟩ ⟨"ShareGrid", "create", "(I)I"⟩ ∈ gw := List.mem_filter.mpr ⟨List.mem_of_getElem? (i := 200) (by decide +kernel), by decide +kernel⟩
theorem w_165 : Cond.code ⟨"ShareGrid", "create", "(I)I"⟩ prog_1_method_3_code 3 (some FieldType.int) ∈ gw := List.mem_filter.mpr ⟨List.mem_of_getElem? (i := 201) (by decide +kernel), by decide +kernel⟩
theorem w_166 : Cond.methodLink "ShareGrid" 74 ⟨"ShareGrid", "fileUnder", "(I)I"⟩ ∈ gw := List.mem_filter.mpr ⟨List.mem_of_getElem? (i := 202) (by decide +kernel), by decide +kernel⟩
theorem w_168 : Cond.instanceMethod ⟨"ShareGrid", "fileUnder", "(I)I"⟩ ∈ gw := List.mem_filter.mpr ⟨List.mem_of_getElem? (i := 204) (by decide +kernel), by decide +kernel⟩
theorem w_169 : Cond.code ⟨"ShareGrid", "fileUnder", "(I)I"⟩ prog_1_method_25_code 3 (some FieldType.int) ∈ gw := List.mem_filter.mpr ⟨List.mem_of_getElem? (i := 205) (by decide +kernel), by decide +kernel⟩
theorem w_170 : Cond.methodLink "ShareGridLaw" 31 ⟨"ShareGrid", "draft", "(II)I"⟩ ∈ gw := List.mem_filter.mpr ⟨List.mem_of_getElem? (i := 206) (by decide +kernel), by decide +kernel⟩
theorem w_171 : Cond.instanceMethod ⟨"ShareGrid", "draft", "(II)I"⟩ ∈ gw := List.mem_filter.mpr ⟨List.mem_of_getElem? (i := 207) (by decide +kernel), by decide +kernel⟩
theorem w_172 : Cond.selects "ShareGrid" ⟨"ShareGrid", "draft", "(II)I"⟩ ⟨"ShareGrid", "draft", "(II)I"⟩ ∈ gw := List.mem_filter.mpr ⟨List.mem_of_getElem? (i := 208) (by decide +kernel), by decide +kernel⟩
theorem w_173 : Cond.code ⟨"ShareGrid", "draft", "(II)I"⟩ prog_1_method_4_code 3 (some FieldType.int) ∈ gw := List.mem_filter.mpr ⟨List.mem_of_getElem? (i := 209) (by decide +kernel), by decide +kernel⟩
theorem w_174 : Cond.methodLink "ShareGrid" 80 ⟨"ShareGrid", "isWordPlace", "(I)Z"⟩ ∈ gw := List.mem_filter.mpr ⟨List.mem_of_getElem? (i := 210) (by decide +kernel), by decide +kernel⟩
theorem w_176 : Cond.instanceMethod ⟨"ShareGrid", "isWordPlace", "(I)Z"⟩ ∈ gw := List.mem_filter.mpr ⟨List.mem_of_getElem? (i := 212) (by decide +kernel), by decide +kernel⟩
theorem w_177 : Cond.code ⟨"ShareGrid", "isWordPlace", "(I)Z"⟩ prog_1_method_21_code 2 (some FieldType.boolean) ∈ gw := List.mem_filter.mpr ⟨List.mem_of_getElem? (i := 213) (by decide +kernel), by decide +kernel⟩
theorem w_178 : Cond.methodLink "ShareGridLaw" 35 ⟨"ShareGrid", "write", "(I)I"⟩ ∈ gw := List.mem_filter.mpr ⟨List.mem_of_getElem? (i := 214) (by decide +kernel), by decide +kernel⟩
theorem w_179 : Cond.instanceMethod ⟨"ShareGrid", "write", "(I)I"⟩ ∈ gw := List.mem_filter.mpr ⟨List.mem_of_getElem? (i := 215) (by decide +kernel), by decide +kernel⟩
theorem w_180 : Cond.selects "ShareGrid" ⟨"ShareGrid", "write", "(I)I"⟩ ⟨"ShareGrid", "write", "(I)I"⟩ ∈ gw := List.mem_filter.mpr ⟨List.mem_of_getElem? (i := 216) (by decide +kernel), by decide +kernel⟩
theorem w_181 : Cond.code ⟨"ShareGrid", "write", "(I)I"⟩ prog_1_method_5_code 9 (some FieldType.int) ∈ gw := List.mem_filter.mpr ⟨List.mem_of_getElem? (i := 217) (by decide +kernel), by decide +kernel⟩
theorem w_182 : Cond.methodLink "ShareGrid" 84 ⟨"ShareGrid", "serversUp", "()I"⟩ ∈ gw := List.mem_filter.mpr ⟨List.mem_of_getElem? (i := 218) (by decide +kernel), by decide +kernel⟩
theorem w_184 : Cond.instanceMethod ⟨"ShareGrid", "serversUp", "()I"⟩ ∈ gw := List.mem_filter.mpr ⟨List.mem_of_getElem? (i := 220) (by decide +kernel), by decide +kernel⟩
theorem w_185 : Cond.code ⟨"ShareGrid", "serversUp", "()I"⟩ prog_1_method_27_code 3 (some FieldType.int) ∈ gw := List.mem_filter.mpr ⟨List.mem_of_getElem? (i := 221) (by decide +kernel), by decide +kernel⟩
theorem w_186 : Cond.methodLink "ShareGrid" 94 ⟨"ShareGrid", "cipherMask", "(III)I"⟩ ∈ gw := List.mem_filter.mpr ⟨List.mem_of_getElem? (i := 222) (by decide +kernel), by decide +kernel⟩
theorem w_187 : Cond.static ⟨"ShareGrid", "cipherMask", "(III)I"⟩ ∈ gw := List.mem_filter.mpr ⟨List.mem_of_getElem? (i := 223) (by decide +kernel), by decide +kernel⟩
theorem w_188 : Cond.code ⟨"ShareGrid", "cipherMask", "(III)I"⟩ prog_1_method_35_code 3 (some FieldType.int) ∈ gw := List.mem_filter.mpr ⟨List.mem_of_getElem? (i := 224) (by decide +kernel), by decide +kernel⟩
theorem w_189 : Cond.methodLink "ShareGrid" 97 ⟨"ShareGrid", "makeFreshRecord", "(II)I"⟩ ∈ gw := List.mem_filter.mpr ⟨List.mem_of_getElem? (i := 225) (by decide +kernel), by decide +kernel⟩
theorem w_191 : Cond.instanceMethod ⟨"ShareGrid", "makeFreshRecord", "(II)I"⟩ ∈ gw := List.mem_filter.mpr ⟨List.mem_of_getElem? (i := 227) (by decide +kernel), by decide +kernel⟩
theorem w_192 : Cond.code ⟨"ShareGrid", "makeFreshRecord", "(II)I"⟩ prog_1_method_30_code 4 (some FieldType.int) ∈ gw := List.mem_filter.mpr ⟨List.mem_of_getElem? (i := 228) (by decide +kernel), by decide +kernel⟩
theorem w_195 : Cond.instanceMethod ⟨"ShareGrid$Coder", "shareAt", "(I)I"⟩ ∈ gw := List.mem_filter.mpr ⟨List.mem_of_getElem? (i := 231) (by decide +kernel), by decide +kernel⟩
theorem w_196 : Cond.code ⟨"ShareGrid$Coder", "shareAt", "(I)I"⟩ prog_2_method_2_code 4 (some FieldType.int) ∈ gw := List.mem_filter.mpr ⟨List.mem_of_getElem? (i := 232) (by decide +kernel), by decide +kernel⟩
theorem w_198 : Cond.static ⟨"ShareGrid", "pointOf", "(I)I"⟩ ∈ gw := List.mem_filter.mpr ⟨List.mem_of_getElem? (i := 234) (by decide +kernel), by decide +kernel⟩
theorem w_199 : Cond.code ⟨"ShareGrid", "pointOf", "(I)I"⟩ prog_1_method_37_code 1 (some FieldType.int) ∈ gw := List.mem_filter.mpr ⟨List.mem_of_getElem? (i := 235) (by decide +kernel), by decide +kernel⟩
theorem w_201 : Cond.static ⟨"ShareGrid", "scaled", "(II)I"⟩ ∈ gw := List.mem_filter.mpr ⟨List.mem_of_getElem? (i := 237) (by decide +kernel), by decide +kernel⟩
theorem w_202 : Cond.code ⟨"ShareGrid", "scaled", "(II)I"⟩ prog_1_method_39_code 5 (some FieldType.int) ∈ gw := List.mem_filter.mpr ⟨List.mem_of_getElem? (i := 238) (by decide +kernel), by decide +kernel⟩
theorem w_203 : Cond.methodLink "ShareGrid" 210 ⟨"ShareGrid", "timesX", "(I)I"⟩ ∈ gw := List.mem_filter.mpr ⟨List.mem_of_getElem? (i := 239) (by decide +kernel), by decide +kernel⟩
theorem w_204 : Cond.static ⟨"ShareGrid", "timesX", "(I)I"⟩ ∈ gw := List.mem_filter.mpr ⟨List.mem_of_getElem? (i := 240) (by decide +kernel), by decide +kernel⟩
theorem w_205 : Cond.code ⟨"ShareGrid", "timesX", "(I)I"⟩ prog_1_method_40_code 2 (some FieldType.int) ∈ gw := List.mem_filter.mpr ⟨List.mem_of_getElem? (i := 241) (by decide +kernel), by decide +kernel⟩
theorem w_206 : Cond.constant "ShareGrid" 213 16843009 ∈ gw := List.mem_filter.mpr ⟨List.mem_of_getElem? (i := 242) (by decide +kernel), by decide +kernel⟩
theorem w_207 : Cond.constant "ShareGrid" 214 2139062143 ∈ gw := List.mem_filter.mpr ⟨List.mem_of_getElem? (i := 243) (by decide +kernel), by decide +kernel⟩
theorem w_208 : Cond.methodLink "ShareGrid" 199 ⟨"ShareGrid", "fingerprint", "(II)I"⟩ ∈ gw := List.mem_filter.mpr ⟨List.mem_of_getElem? (i := 244) (by decide +kernel), by decide +kernel⟩
theorem w_209 : Cond.static ⟨"ShareGrid", "fingerprint", "(II)I"⟩ ∈ gw := List.mem_filter.mpr ⟨List.mem_of_getElem? (i := 245) (by decide +kernel), by decide +kernel⟩
theorem w_210 : Cond.code ⟨"ShareGrid", "fingerprint", "(II)I"⟩ prog_1_method_36_code 2 (some FieldType.int) ∈ gw := List.mem_filter.mpr ⟨List.mem_of_getElem? (i := 246) (by decide +kernel), by decide +kernel⟩
theorem w_213 : Cond.instanceMethod ⟨"ShareGrid$ServerRecord", "rootOfFingerprints", "()I"⟩ ∈ gw := List.mem_filter.mpr ⟨List.mem_of_getElem? (i := 249) (by decide +kernel), by decide +kernel⟩
theorem w_214 : Cond.code ⟨"ShareGrid$ServerRecord", "rootOfFingerprints", "()I"⟩ prog_3_method_3_code 3 (some FieldType.int) ∈ gw := List.mem_filter.mpr ⟨List.mem_of_getElem? (i := 250) (by decide +kernel), by decide +kernel⟩
theorem w_218 : Cond.instanceMethod ⟨"ShareGrid$StoredFile", "noteNext", "(II)V"⟩ ∈ gw := List.mem_filter.mpr ⟨List.mem_of_getElem? (i := 254) (by decide +kernel), by decide +kernel⟩
theorem w_219 : Cond.code ⟨"ShareGrid$StoredFile", "noteNext", "(II)V"⟩ prog_4_method_2_code 3 none ∈ gw := List.mem_filter.mpr ⟨List.mem_of_getElem? (i := 255) (by decide +kernel), by decide +kernel⟩
theorem w_220 : Cond.methodLink "ShareGrid" 108 ⟨"ShareGrid", "takesRecords", "(I)Z"⟩ ∈ gw := List.mem_filter.mpr ⟨List.mem_of_getElem? (i := 256) (by decide +kernel), by decide +kernel⟩
theorem w_222 : Cond.instanceMethod ⟨"ShareGrid", "takesRecords", "(I)Z"⟩ ∈ gw := List.mem_filter.mpr ⟨List.mem_of_getElem? (i := 258) (by decide +kernel), by decide +kernel⟩
theorem w_223 : Cond.code ⟨"ShareGrid", "takesRecords", "(I)Z"⟩ prog_1_method_26_code 2 (some FieldType.boolean) ∈ gw := List.mem_filter.mpr ⟨List.mem_of_getElem? (i := 259) (by decide +kernel), by decide +kernel⟩
theorem w_224 : Cond.methodLink "ShareGrid" 111 ⟨"ShareGrid", "giveFreshRecord", "(LShareGrid$StoredFile;I)V"⟩ ∈ gw := List.mem_filter.mpr ⟨List.mem_of_getElem? (i := 260) (by decide +kernel), by decide +kernel⟩
theorem w_226 : Cond.instanceMethod ⟨"ShareGrid", "giveFreshRecord", "(LShareGrid$StoredFile;I)V"⟩ ∈ gw := List.mem_filter.mpr ⟨List.mem_of_getElem? (i := 262) (by decide +kernel), by decide +kernel⟩
theorem w_227 : Cond.code ⟨"ShareGrid", "giveFreshRecord", "(LShareGrid$StoredFile;I)V"⟩ prog_1_method_31_code 3 none ∈ gw := List.mem_filter.mpr ⟨List.mem_of_getElem? (i := 263) (by decide +kernel), by decide +kernel⟩
theorem w_230 : Cond.instanceMethod ⟨"ShareGrid$ServerRecord", "copyFrom", "(LShareGrid$ServerRecord;)V"⟩ ∈ gw := List.mem_filter.mpr ⟨List.mem_of_getElem? (i := 266) (by decide +kernel), by decide +kernel⟩
theorem w_231 : Cond.code ⟨"ShareGrid$ServerRecord", "copyFrom", "(LShareGrid$ServerRecord;)V"⟩ prog_3_method_2_code 2 none ∈ gw := List.mem_filter.mpr ⟨List.mem_of_getElem? (i := 267) (by decide +kernel), by decide +kernel⟩
theorem w_232 : Cond.methodLink "ShareGrid$ServerRecord" 27 ⟨"java/lang/System", "arraycopy", "(Ljava/lang/Object;ILjava/lang/Object;II)V"⟩ ∈ gw := List.mem_filter.mpr ⟨List.mem_of_getElem? (i := 268) (by decide +kernel), by decide +kernel⟩
theorem w_233 : Cond.static ⟨"java/lang/System", "arraycopy", "(Ljava/lang/Object;ILjava/lang/Object;II)V"⟩ ∈ gw := List.mem_filter.mpr ⟨List.mem_of_getElem? (i := 269) (by decide +kernel), by decide +kernel⟩
theorem w_234 : Cond.native ⟨"java/lang/System", "arraycopy", "(Ljava/lang/Object;ILjava/lang/Object;II)V"⟩ ∈ gw := List.mem_filter.mpr ⟨List.mem_of_getElem? (i := 270) (by decide +kernel), by decide +kernel⟩
theorem w_235 : Cond.methodLink "ShareGridLaw" 39 ⟨"ShareGrid", "read", "(I)I"⟩ ∈ gw := List.mem_filter.mpr ⟨List.mem_of_getElem? (i := 271) (by decide +kernel), by decide +kernel⟩
theorem w_236 : Cond.instanceMethod ⟨"ShareGrid", "read", "(I)I"⟩ ∈ gw := List.mem_filter.mpr ⟨List.mem_of_getElem? (i := 272) (by decide +kernel), by decide +kernel⟩
theorem w_237 : Cond.selects "ShareGrid" ⟨"ShareGrid", "read", "(I)I"⟩ ⟨"ShareGrid", "read", "(I)I"⟩ ∈ gw := List.mem_filter.mpr ⟨List.mem_of_getElem? (i := 273) (by decide +kernel), by decide +kernel⟩
theorem w_238 : Cond.code ⟨"ShareGrid", "read", "(I)I"⟩ prog_1_method_6_code 5 (some FieldType.int) ∈ gw := List.mem_filter.mpr ⟨List.mem_of_getElem? (i := 274) (by decide +kernel), by decide +kernel⟩
theorem w_239 : Cond.methodLink "ShareGrid" 115 ⟨"ShareGrid", "bestNumber", "(LShareGrid$StoredFile;)I"⟩ ∈ gw := List.mem_filter.mpr ⟨List.mem_of_getElem? (i := 275) (by decide +kernel), by decide +kernel⟩
theorem w_241 : Cond.instanceMethod ⟨"ShareGrid", "bestNumber", "(LShareGrid$StoredFile;)I"⟩ ∈ gw := List.mem_filter.mpr ⟨List.mem_of_getElem? (i := 277) (by decide +kernel), by decide +kernel⟩
theorem w_242 : Cond.code ⟨"ShareGrid", "bestNumber", "(LShareGrid$StoredFile;)I"⟩ prog_1_method_28_code 3 (some FieldType.int) ∈ gw := List.mem_filter.mpr ⟨List.mem_of_getElem? (i := 278) (by decide +kernel), by decide +kernel⟩
theorem w_243 : Cond.methodLink "ShareGrid" 178 ⟨"java/util/Arrays", "fill", "([II)V"⟩ ∈ gw := List.mem_filter.mpr ⟨List.mem_of_getElem? (i := 279) (by decide +kernel), by decide +kernel⟩
theorem w_244 : Cond.static ⟨"java/util/Arrays", "fill", "([II)V"⟩ ∈ gw := List.mem_filter.mpr ⟨List.mem_of_getElem? (i := 280) (by decide +kernel), by decide +kernel⟩
theorem w_245 : Cond.code ⟨"java/util/Arrays", "fill", "([II)V"⟩ prog_9_method_103_code 4 none ∈ gw := List.mem_filter.mpr ⟨List.mem_of_getElem? (i := 281) (by decide +kernel), by decide +kernel⟩
theorem w_248 : Cond.instanceMethod ⟨"ShareGrid$StoredFile", "isSoundAt", "(I)Z"⟩ ∈ gw := List.mem_filter.mpr ⟨List.mem_of_getElem? (i := 284) (by decide +kernel), by decide +kernel⟩
theorem w_249 : Cond.code ⟨"ShareGrid$StoredFile", "isSoundAt", "(I)Z"⟩ prog_4_method_3_code 4 (some FieldType.boolean) ∈ gw := List.mem_filter.mpr ⟨List.mem_of_getElem? (i := 285) (by decide +kernel), by decide +kernel⟩
theorem w_252 : Cond.methodLink "ShareGrid" 119 ⟨"ShareGrid", "decodeVersion", "(LShareGrid$StoredFile;I)I"⟩ ∈ gw := List.mem_filter.mpr ⟨List.mem_of_getElem? (i := 288) (by decide +kernel), by decide +kernel⟩
theorem w_254 : Cond.instanceMethod ⟨"ShareGrid", "decodeVersion", "(LShareGrid$StoredFile;I)I"⟩ ∈ gw := List.mem_filter.mpr ⟨List.mem_of_getElem? (i := 290) (by decide +kernel), by decide +kernel⟩
theorem w_255 : Cond.code ⟨"ShareGrid", "decodeVersion", "(LShareGrid$StoredFile;I)I"⟩ prog_1_method_29_code 5 (some FieldType.int) ∈ gw := List.mem_filter.mpr ⟨List.mem_of_getElem? (i := 291) (by decide +kernel), by decide +kernel⟩
theorem w_258 : Cond.instanceMethod ⟨"ShareGrid$StoredFile", "isSoundWith", "(II)Z"⟩ ∈ gw := List.mem_filter.mpr ⟨List.mem_of_getElem? (i := 294) (by decide +kernel), by decide +kernel⟩
theorem w_259 : Cond.code ⟨"ShareGrid$StoredFile", "isSoundWith", "(II)Z"⟩ prog_4_method_4_code 3 (some FieldType.boolean) ∈ gw := List.mem_filter.mpr ⟨List.mem_of_getElem? (i := 295) (by decide +kernel), by decide +kernel⟩
theorem w_260 : Cond.methodLink "ShareGrid$StoredFile" 58 ⟨"ShareGrid$StoredFile", "isSoundAt", "(I)Z"⟩ ∈ gw := List.mem_filter.mpr ⟨List.mem_of_getElem? (i := 296) (by decide +kernel), by decide +kernel⟩
theorem w_261 : Cond.methodLink "ShareGrid" 187 ⟨"ShareGrid", "pointOf", "(I)I"⟩ ∈ gw := List.mem_filter.mpr ⟨List.mem_of_getElem? (i := 297) (by decide +kernel), by decide +kernel⟩
theorem w_264 : Cond.instanceMethod ⟨"ShareGrid$Coder", "decodeShares", "()V"⟩ ∈ gw := List.mem_filter.mpr ⟨List.mem_of_getElem? (i := 300) (by decide +kernel), by decide +kernel⟩
theorem w_265 : Cond.code ⟨"ShareGrid$Coder", "decodeShares", "()V"⟩ prog_2_method_3_code 1 none ∈ gw := List.mem_filter.mpr ⟨List.mem_of_getElem? (i := 301) (by decide +kernel), by decide +kernel⟩
theorem w_266 : Cond.methodLink "ShareGrid$Coder" 30 ⟨"ShareGrid$Coder", "sharesToDifferences", "()V"⟩ ∈ gw := List.mem_filter.mpr ⟨List.mem_of_getElem? (i := 302) (by decide +kernel), by decide +kernel⟩
theorem w_268 : Cond.instanceMethod ⟨"ShareGrid$Coder", "sharesToDifferences", "()V"⟩ ∈ gw := List.mem_filter.mpr ⟨List.mem_of_getElem? (i := 304) (by decide +kernel), by decide +kernel⟩
theorem w_269 : Cond.code ⟨"ShareGrid$Coder", "sharesToDifferences", "()V"⟩ prog_2_method_4_code 4 none ∈ gw := List.mem_filter.mpr ⟨List.mem_of_getElem? (i := 305) (by decide +kernel), by decide +kernel⟩
theorem w_271 : Cond.static ⟨"ShareGrid", "inverse", "(I)I"⟩ ∈ gw := List.mem_filter.mpr ⟨List.mem_of_getElem? (i := 307) (by decide +kernel), by decide +kernel⟩
theorem w_272 : Cond.code ⟨"ShareGrid", "inverse", "(I)I"⟩ prog_1_method_41_code 4 (some FieldType.int) ∈ gw := List.mem_filter.mpr ⟨List.mem_of_getElem? (i := 308) (by decide +kernel), by decide +kernel⟩
theorem w_273 : Cond.methodLink "ShareGrid" 164 ⟨"ShareGrid", "scaled", "(II)I"⟩ ∈ gw := List.mem_filter.mpr ⟨List.mem_of_getElem? (i := 309) (by decide +kernel), by decide +kernel⟩
theorem w_274 : Cond.methodLink "ShareGrid$Coder" 33 ⟨"ShareGrid$Coder", "differencesToCipherWords", "()V"⟩ ∈ gw := List.mem_filter.mpr ⟨List.mem_of_getElem? (i := 310) (by decide +kernel), by decide +kernel⟩
theorem w_276 : Cond.instanceMethod ⟨"ShareGrid$Coder", "differencesToCipherWords", "()V"⟩ ∈ gw := List.mem_filter.mpr ⟨List.mem_of_getElem? (i := 312) (by decide +kernel), by decide +kernel⟩
theorem w_277 : Cond.code ⟨"ShareGrid$Coder", "differencesToCipherWords", "()V"⟩ prog_2_method_5_code 3 none ∈ gw := List.mem_filter.mpr ⟨List.mem_of_getElem? (i := 313) (by decide +kernel), by decide +kernel⟩
theorem w_278 : Cond.methodLink "ShareGrid" 193 ⟨"ShareGrid", "placeOf", "(I)I"⟩ ∈ gw := List.mem_filter.mpr ⟨List.mem_of_getElem? (i := 314) (by decide +kernel), by decide +kernel⟩
theorem w_279 : Cond.static ⟨"ShareGrid", "placeOf", "(I)I"⟩ ∈ gw := List.mem_filter.mpr ⟨List.mem_of_getElem? (i := 315) (by decide +kernel), by decide +kernel⟩
theorem w_280 : Cond.code ⟨"ShareGrid", "placeOf", "(I)I"⟩ prog_1_method_38_code 1 (some FieldType.int) ∈ gw := List.mem_filter.mpr ⟨List.mem_of_getElem? (i := 316) (by decide +kernel), by decide +kernel⟩
theorem w_281 : Cond.methodLink "ShareGridLaw" 43 ⟨"ShareGrid", "word", "(I)J"⟩ ∈ gw := List.mem_filter.mpr ⟨List.mem_of_getElem? (i := 317) (by decide +kernel), by decide +kernel⟩
theorem w_282 : Cond.instanceMethod ⟨"ShareGrid", "word", "(I)J"⟩ ∈ gw := List.mem_filter.mpr ⟨List.mem_of_getElem? (i := 318) (by decide +kernel), by decide +kernel⟩
theorem w_283 : Cond.selects "ShareGrid" ⟨"ShareGrid", "word", "(I)J"⟩ ⟨"ShareGrid", "word", "(I)J"⟩ ∈ gw := List.mem_filter.mpr ⟨List.mem_of_getElem? (i := 319) (by decide +kernel), by decide +kernel⟩
theorem w_284 : Cond.code ⟨"ShareGrid", "word", "(I)J"⟩ prog_1_method_7_code 2 (some FieldType.long) ∈ gw := List.mem_filter.mpr ⟨List.mem_of_getElem? (i := 320) (by decide +kernel), by decide +kernel⟩
theorem w_285 : Cond.constantLong "ShareGrid" 123 (-1000000000000) ∈ gw := List.mem_filter.mpr ⟨List.mem_of_getElem? (i := 321) (by decide +kernel), by decide +kernel⟩
theorem w_286 : Cond.methodLink "ShareGridLaw" 48 ⟨"ShareGrid", "sound", "(I)I"⟩ ∈ gw := List.mem_filter.mpr ⟨List.mem_of_getElem? (i := 322) (by decide +kernel), by decide +kernel⟩
theorem w_287 : Cond.instanceMethod ⟨"ShareGrid", "sound", "(I)I"⟩ ∈ gw := List.mem_filter.mpr ⟨List.mem_of_getElem? (i := 323) (by decide +kernel), by decide +kernel⟩
theorem w_288 : Cond.selects "ShareGrid" ⟨"ShareGrid", "sound", "(I)I"⟩ ⟨"ShareGrid", "sound", "(I)I"⟩ ∈ gw := List.mem_filter.mpr ⟨List.mem_of_getElem? (i := 324) (by decide +kernel), by decide +kernel⟩
theorem w_289 : Cond.code ⟨"ShareGrid", "sound", "(I)I"⟩ prog_1_method_8_code 5 (some FieldType.int) ∈ gw := List.mem_filter.mpr ⟨List.mem_of_getElem? (i := 325) (by decide +kernel), by decide +kernel⟩
theorem w_290 : Cond.methodLink "ShareGridLaw" 52 ⟨"ShareGrid", "best", "(I)I"⟩ ∈ gw := List.mem_filter.mpr ⟨List.mem_of_getElem? (i := 326) (by decide +kernel), by decide +kernel⟩
theorem w_291 : Cond.instanceMethod ⟨"ShareGrid", "best", "(I)I"⟩ ∈ gw := List.mem_filter.mpr ⟨List.mem_of_getElem? (i := 327) (by decide +kernel), by decide +kernel⟩
theorem w_292 : Cond.selects "ShareGrid" ⟨"ShareGrid", "best", "(I)I"⟩ ⟨"ShareGrid", "best", "(I)I"⟩ ∈ gw := List.mem_filter.mpr ⟨List.mem_of_getElem? (i := 328) (by decide +kernel), by decide +kernel⟩
theorem w_293 : Cond.code ⟨"ShareGrid", "best", "(I)I"⟩ prog_1_method_9_code 3 (some FieldType.int) ∈ gw := List.mem_filter.mpr ⟨List.mem_of_getElem? (i := 329) (by decide +kernel), by decide +kernel⟩
theorem w_294 : Cond.methodLink "ShareGridLaw" 56 ⟨"ShareGrid", "repair", "(I)I"⟩ ∈ gw := List.mem_filter.mpr ⟨List.mem_of_getElem? (i := 330) (by decide +kernel), by decide +kernel⟩
theorem w_295 : Cond.instanceMethod ⟨"ShareGrid", "repair", "(I)I"⟩ ∈ gw := List.mem_filter.mpr ⟨List.mem_of_getElem? (i := 331) (by decide +kernel), by decide +kernel⟩
theorem w_296 : Cond.selects "ShareGrid" ⟨"ShareGrid", "repair", "(I)I"⟩ ⟨"ShareGrid", "repair", "(I)I"⟩ ∈ gw := List.mem_filter.mpr ⟨List.mem_of_getElem? (i := 332) (by decide +kernel), by decide +kernel⟩
theorem w_297 : Cond.code ⟨"ShareGrid", "repair", "(I)I"⟩ prog_1_method_10_code 8 (some FieldType.int) ∈ gw := List.mem_filter.mpr ⟨List.mem_of_getElem? (i := 333) (by decide +kernel), by decide +kernel⟩
theorem w_298 : Cond.methodLink "ShareGridLaw" 60 ⟨"ShareGrid", "server", "(IZZ)I"⟩ ∈ gw := List.mem_filter.mpr ⟨List.mem_of_getElem? (i := 334) (by decide +kernel), by decide +kernel⟩
theorem w_299 : Cond.instanceMethod ⟨"ShareGrid", "server", "(IZZ)I"⟩ ∈ gw := List.mem_filter.mpr ⟨List.mem_of_getElem? (i := 335) (by decide +kernel), by decide +kernel⟩
theorem w_300 : Cond.selects "ShareGrid" ⟨"ShareGrid", "server", "(IZZ)I"⟩ ⟨"ShareGrid", "server", "(IZZ)I"⟩ ∈ gw := List.mem_filter.mpr ⟨List.mem_of_getElem? (i := 336) (by decide +kernel), by decide +kernel⟩
theorem w_301 : Cond.code ⟨"ShareGrid", "server", "(IZZ)I"⟩ prog_1_method_11_code 4 (some FieldType.int) ∈ gw := List.mem_filter.mpr ⟨List.mem_of_getElem? (i := 337) (by decide +kernel), by decide +kernel⟩
theorem w_302 : Cond.methodLink "ShareGrid" 140 ⟨"ShareGrid", "isPlace", "(I)Z"⟩ ∈ gw := List.mem_filter.mpr ⟨List.mem_of_getElem? (i := 338) (by decide +kernel), by decide +kernel⟩
theorem w_304 : Cond.instanceMethod ⟨"ShareGrid", "isPlace", "(I)Z"⟩ ∈ gw := List.mem_filter.mpr ⟨List.mem_of_getElem? (i := 340) (by decide +kernel), by decide +kernel⟩
theorem w_305 : Cond.code ⟨"ShareGrid", "isPlace", "(I)Z"⟩ prog_1_method_22_code 2 (some FieldType.boolean) ∈ gw := List.mem_filter.mpr ⟨List.mem_of_getElem? (i := 341) (by decide +kernel), by decide +kernel⟩
theorem w_306 : Cond.methodLink "ShareGridLaw" 65 ⟨"ShareGrid", "tamper", "(IIII)I"⟩ ∈ gw := List.mem_filter.mpr ⟨List.mem_of_getElem? (i := 342) (by decide +kernel), by decide +kernel⟩
theorem w_307 : Cond.instanceMethod ⟨"ShareGrid", "tamper", "(IIII)I"⟩ ∈ gw := List.mem_filter.mpr ⟨List.mem_of_getElem? (i := 343) (by decide +kernel), by decide +kernel⟩
theorem w_308 : Cond.selects "ShareGrid" ⟨"ShareGrid", "tamper", "(IIII)I"⟩ ⟨"ShareGrid", "tamper", "(IIII)I"⟩ ∈ gw := List.mem_filter.mpr ⟨List.mem_of_getElem? (i := 344) (by decide +kernel), by decide +kernel⟩
theorem w_309 : Cond.code ⟨"ShareGrid", "tamper", "(IIII)I"⟩ prog_1_method_12_code 6 (some FieldType.int) ∈ gw := List.mem_filter.mpr ⟨List.mem_of_getElem? (i := 345) (by decide +kernel), by decide +kernel⟩
theorem w_310 : Cond.methodLink "ShareGrid" 143 ⟨"ShareGrid", "isFile", "(I)Z"⟩ ∈ gw := List.mem_filter.mpr ⟨List.mem_of_getElem? (i := 346) (by decide +kernel), by decide +kernel⟩
theorem w_312 : Cond.instanceMethod ⟨"ShareGrid", "isFile", "(I)Z"⟩ ∈ gw := List.mem_filter.mpr ⟨List.mem_of_getElem? (i := 348) (by decide +kernel), by decide +kernel⟩
theorem w_313 : Cond.code ⟨"ShareGrid", "isFile", "(I)Z"⟩ prog_1_method_23_code 2 (some FieldType.boolean) ∈ gw := List.mem_filter.mpr ⟨List.mem_of_getElem? (i := 349) (by decide +kernel), by decide +kernel⟩
theorem w_314 : Cond.methodLink "ShareGridLaw" 70 ⟨"ShareGrid", "picture", "(II)I"⟩ ∈ gw := List.mem_filter.mpr ⟨List.mem_of_getElem? (i := 350) (by decide +kernel), by decide +kernel⟩
theorem w_315 : Cond.instanceMethod ⟨"ShareGrid", "picture", "(II)I"⟩ ∈ gw := List.mem_filter.mpr ⟨List.mem_of_getElem? (i := 351) (by decide +kernel), by decide +kernel⟩
theorem w_316 : Cond.selects "ShareGrid" ⟨"ShareGrid", "picture", "(II)I"⟩ ⟨"ShareGrid", "picture", "(II)I"⟩ ∈ gw := List.mem_filter.mpr ⟨List.mem_of_getElem? (i := 352) (by decide +kernel), by decide +kernel⟩
theorem w_317 : Cond.code ⟨"ShareGrid", "picture", "(II)I"⟩ prog_1_method_13_code 3 (some FieldType.int) ∈ gw := List.mem_filter.mpr ⟨List.mem_of_getElem? (i := 353) (by decide +kernel), by decide +kernel⟩
theorem w_318 : Cond.methodLink "ShareGridLaw" 74 ⟨"ShareGrid", "fallBack", "(II)I"⟩ ∈ gw := List.mem_filter.mpr ⟨List.mem_of_getElem? (i := 354) (by decide +kernel), by decide +kernel⟩
theorem w_319 : Cond.instanceMethod ⟨"ShareGrid", "fallBack", "(II)I"⟩ ∈ gw := List.mem_filter.mpr ⟨List.mem_of_getElem? (i := 355) (by decide +kernel), by decide +kernel⟩
theorem w_320 : Cond.selects "ShareGrid" ⟨"ShareGrid", "fallBack", "(II)I"⟩ ⟨"ShareGrid", "fallBack", "(II)I"⟩ ∈ gw := List.mem_filter.mpr ⟨List.mem_of_getElem? (i := 356) (by decide +kernel), by decide +kernel⟩
theorem w_321 : Cond.code ⟨"ShareGrid", "fallBack", "(II)I"⟩ prog_1_method_14_code 3 (some FieldType.int) ∈ gw := List.mem_filter.mpr ⟨List.mem_of_getElem? (i := 357) (by decide +kernel), by decide +kernel⟩
theorem w_322 : Cond.methodLink "ShareGridLaw" 78 ⟨"ShareGrid", "wipe", "(II)I"⟩ ∈ gw := List.mem_filter.mpr ⟨List.mem_of_getElem? (i := 358) (by decide +kernel), by decide +kernel⟩
theorem w_323 : Cond.instanceMethod ⟨"ShareGrid", "wipe", "(II)I"⟩ ∈ gw := List.mem_filter.mpr ⟨List.mem_of_getElem? (i := 359) (by decide +kernel), by decide +kernel⟩
theorem w_324 : Cond.selects "ShareGrid" ⟨"ShareGrid", "wipe", "(II)I"⟩ ⟨"ShareGrid", "wipe", "(II)I"⟩ ∈ gw := List.mem_filter.mpr ⟨List.mem_of_getElem? (i := 360) (by decide +kernel), by decide +kernel⟩
theorem w_325 : Cond.code ⟨"ShareGrid", "wipe", "(II)I"⟩ prog_1_method_15_code 3 (some FieldType.int) ∈ gw := List.mem_filter.mpr ⟨List.mem_of_getElem? (i := 361) (by decide +kernel), by decide +kernel⟩
theorem w_326 : Cond.methodLink "ShareGridLaw" 82 ⟨"ShareGrid", "share", "(III)J"⟩ ∈ gw := List.mem_filter.mpr ⟨List.mem_of_getElem? (i := 362) (by decide +kernel), by decide +kernel⟩
theorem w_327 : Cond.instanceMethod ⟨"ShareGrid", "share", "(III)J"⟩ ∈ gw := List.mem_filter.mpr ⟨List.mem_of_getElem? (i := 363) (by decide +kernel), by decide +kernel⟩
theorem w_328 : Cond.selects "ShareGrid" ⟨"ShareGrid", "share", "(III)J"⟩ ⟨"ShareGrid", "share", "(III)J"⟩ ∈ gw := List.mem_filter.mpr ⟨List.mem_of_getElem? (i := 364) (by decide +kernel), by decide +kernel⟩
theorem w_329 : Cond.code ⟨"ShareGrid", "share", "(III)J"⟩ prog_1_method_16_code 5 (some FieldType.long) ∈ gw := List.mem_filter.mpr ⟨List.mem_of_getElem? (i := 365) (by decide +kernel), by decide +kernel⟩
theorem w_330 : Cond.methodLink "ShareGridLaw" 87 ⟨"ShareGrid", "times", "(II)I"⟩ ∈ gw := List.mem_filter.mpr ⟨List.mem_of_getElem? (i := 366) (by decide +kernel), by decide +kernel⟩
theorem w_331 : Cond.instanceMethod ⟨"ShareGrid", "times", "(II)I"⟩ ∈ gw := List.mem_filter.mpr ⟨List.mem_of_getElem? (i := 367) (by decide +kernel), by decide +kernel⟩
theorem w_332 : Cond.selects "ShareGrid" ⟨"ShareGrid", "times", "(II)I"⟩ ⟨"ShareGrid", "times", "(II)I"⟩ ∈ gw := List.mem_filter.mpr ⟨List.mem_of_getElem? (i := 368) (by decide +kernel), by decide +kernel⟩
theorem w_333 : Cond.code ⟨"ShareGrid", "times", "(II)I"⟩ prog_1_method_17_code 3 (some FieldType.int) ∈ gw := List.mem_filter.mpr ⟨List.mem_of_getElem? (i := 369) (by decide +kernel), by decide +kernel⟩
theorem w_334 : Cond.methodLink "ShareGrid" 161 ⟨"ShareGrid", "isByte", "(I)Z"⟩ ∈ gw := List.mem_filter.mpr ⟨List.mem_of_getElem? (i := 370) (by decide +kernel), by decide +kernel⟩
theorem w_335 : Cond.static ⟨"ShareGrid", "isByte", "(I)Z"⟩ ∈ gw := List.mem_filter.mpr ⟨List.mem_of_getElem? (i := 371) (by decide +kernel), by decide +kernel⟩
theorem w_336 : Cond.code ⟨"ShareGrid", "isByte", "(I)Z"⟩ prog_1_method_24_code 1 (some FieldType.boolean) ∈ gw := List.mem_filter.mpr ⟨List.mem_of_getElem? (i := 372) (by decide +kernel), by decide +kernel⟩
theorem w_337 : Cond.methodLink "ShareGridLaw" 91 ⟨"ShareGrid", "count", "(I)I"⟩ ∈ gw := List.mem_filter.mpr ⟨List.mem_of_getElem? (i := 373) (by decide +kernel), by decide +kernel⟩
theorem w_338 : Cond.instanceMethod ⟨"ShareGrid", "count", "(I)I"⟩ ∈ gw := List.mem_filter.mpr ⟨List.mem_of_getElem? (i := 374) (by decide +kernel), by decide +kernel⟩
theorem w_339 : Cond.selects "ShareGrid" ⟨"ShareGrid", "count", "(I)I"⟩ ⟨"ShareGrid", "count", "(I)I"⟩ ∈ gw := List.mem_filter.mpr ⟨List.mem_of_getElem? (i := 375) (by decide +kernel), by decide +kernel⟩
theorem w_340 : Cond.code ⟨"ShareGrid", "count", "(I)I"⟩ prog_1_method_18_code 2 (some FieldType.int) ∈ gw := List.mem_filter.mpr ⟨List.mem_of_getElem? (i := 376) (by decide +kernel), by decide +kernel⟩
theorem w_341 : Cond.methodLink "ShareGrid" 167 ⟨"ShareGrid", "greatestNumber", "(I)I"⟩ ∈ gw := List.mem_filter.mpr ⟨List.mem_of_getElem? (i := 377) (by decide +kernel), by decide +kernel⟩
theorem w_343 : Cond.instanceMethod ⟨"ShareGrid", "greatestNumber", "(I)I"⟩ ∈ gw := List.mem_filter.mpr ⟨List.mem_of_getElem? (i := 379) (by decide +kernel), by decide +kernel⟩
theorem w_344 : Cond.code ⟨"ShareGrid", "greatestNumber", "(I)I"⟩ prog_1_method_19_code 2 (some FieldType.int) ∈ gw := List.mem_filter.mpr ⟨List.mem_of_getElem? (i := 380) (by decide +kernel), by decide +kernel⟩
theorem w_345 : Cond.methodLink "ShareGridLaw" 9 ⟨"ShareGridLaw", "cell", "([II)I"⟩ ∈ gw := List.mem_filter.mpr ⟨List.mem_of_getElem? (i := 381) (by decide +kernel), by decide +kernel⟩
theorem w_346 : Cond.static ⟨"ShareGridLaw", "cell", "([II)I"⟩ ∈ gw := List.mem_filter.mpr ⟨List.mem_of_getElem? (i := 382) (by decide +kernel), by decide +kernel⟩
theorem w_347 : Cond.code ⟨"ShareGridLaw", "cell", "([II)I"⟩ method_2_code 2 (some FieldType.int) ∈ gw := List.mem_filter.mpr ⟨List.mem_of_getElem? (i := 383) (by decide +kernel), by decide +kernel⟩
theorem w_348 : Cond.classLink "ShareGridLaw" 18 "ShareGridModel" ∈ gw := List.mem_filter.mpr ⟨List.mem_of_getElem? (i := 384) (by decide +kernel), by decide +kernel⟩
theorem w_349 : Cond.instantiable "ShareGridModel" 17 ∈ gw := List.mem_filter.mpr ⟨List.mem_of_getElem? (i := 385) (by decide +kernel), by decide +kernel⟩
theorem w_350 : Cond.methodLink "ShareGridLaw" 20 ⟨"ShareGridModel", "<init>", "(II)V"⟩ ∈ gw := List.mem_filter.mpr ⟨List.mem_of_getElem? (i := 386) (by decide +kernel), by decide +kernel⟩
theorem w_351 : Cond.instanceMethod ⟨"ShareGridModel", "<init>", "(II)V"⟩ ∈ gw := List.mem_filter.mpr ⟨List.mem_of_getElem? (i := 387) (by decide +kernel), by decide +kernel⟩
theorem w_352 : Cond.code ⟨"ShareGridModel", "<init>", "(II)V"⟩ prog_6_method_1_code 4 none ∈ gw := List.mem_filter.mpr ⟨List.mem_of_getElem? (i := 388) (by decide +kernel), by decide +kernel⟩
theorem w_353 : Cond.methodLink "ShareGridModel" 1 ⟨"java/lang/Object", "<init>", "()V"⟩ ∈ gw := List.mem_filter.mpr ⟨List.mem_of_getElem? (i := 389) (by decide +kernel), by decide +kernel⟩
theorem w_354 : Cond.fieldLink "ShareGridModel" 50 "ShareGridModel" "needed" "I" ∈ gw := List.mem_filter.mpr ⟨List.mem_of_getElem? (i := 390) (by decide +kernel), by decide +kernel⟩
theorem w_355 : Cond.fieldLink "ShareGridModel" 54 "ShareGridModel" "servers" "I" ∈ gw := List.mem_filter.mpr ⟨List.mem_of_getElem? (i := 391) (by decide +kernel), by decide +kernel⟩
theorem w_356 : Cond.fieldLink "ShareGridModel" 7 "ShareGridModel" "up" "[Z" ∈ gw := List.mem_filter.mpr ⟨List.mem_of_getElem? (i := 392) (by decide +kernel), by decide +kernel⟩
theorem w_357 : Cond.fieldLink "ShareGridModel" 13 "ShareGridModel" "stuck" "[Z" ∈ gw := List.mem_filter.mpr ⟨List.mem_of_getElem? (i := 393) (by decide +kernel), by decide +kernel⟩
theorem w_358 : Cond.fieldLink "ShareGridModel" 16 "ShareGridModel" "verify" "[I" ∈ gw := List.mem_filter.mpr ⟨List.mem_of_getElem? (i := 394) (by decide +kernel), by decide +kernel⟩
theorem w_359 : Cond.fieldLink "ShareGridModel" 20 "ShareGridModel" "written" "[I" ∈ gw := List.mem_filter.mpr ⟨List.mem_of_getElem? (i := 395) (by decide +kernel), by decide +kernel⟩
theorem w_360 : Cond.fieldLink "ShareGridModel" 63 "ShareGridModel" "files" "I" ∈ gw := List.mem_filter.mpr ⟨List.mem_of_getElem? (i := 396) (by decide +kernel), by decide +kernel⟩
theorem w_361 : Cond.fieldLink "ShareGridModel" 23 "ShareGridModel" "roots" "[I" ∈ gw := List.mem_filter.mpr ⟨List.mem_of_getElem? (i := 397) (by decide +kernel), by decide +kernel⟩
theorem w_362 : Cond.fieldLink "ShareGridModel" 26 "ShareGridModel" "seals" "[I" ∈ gw := List.mem_filter.mpr ⟨List.mem_of_getElem? (i := 398) (by decide +kernel), by decide +kernel⟩
theorem w_363 : Cond.fieldLink "ShareGridModel" 29 "ShareGridModel" "row" "[I" ∈ gw := List.mem_filter.mpr ⟨List.mem_of_getElem? (i := 399) (by decide +kernel), by decide +kernel⟩
theorem w_364 : Cond.fieldLink "ShareGridModel" 32 "ShareGridModel" "there" "[Z" ∈ gw := List.mem_filter.mpr ⟨List.mem_of_getElem? (i := 400) (by decide +kernel), by decide +kernel⟩
theorem w_365 : Cond.fieldLink "ShareGridModel" 35 "ShareGridModel" "draft" "[I" ∈ gw := List.mem_filter.mpr ⟨List.mem_of_getElem? (i := 401) (by decide +kernel), by decide +kernel⟩
theorem w_366 : Cond.fieldLink "ShareGridModel" 38 "ShareGridModel" "words" "[I" ∈ gw := List.mem_filter.mpr ⟨List.mem_of_getElem? (i := 402) (by decide +kernel), by decide +kernel⟩
theorem w_367 : Cond.fieldLink "ShareGridModel" 115 "ShareGridModel" "hasRead" "Z" ∈ gw := List.mem_filter.mpr ⟨List.mem_of_getElem? (i := 403) (by decide +kernel), by decide +kernel⟩
theorem w_368 : Cond.fieldLink "ShareGridModel" 41 "ShareGridModel" "cipher" "[I" ∈ gw := List.mem_filter.mpr ⟨List.mem_of_getElem? (i := 404) (by decide +kernel), by decide +kernel⟩
theorem w_369 : Cond.fieldLink "ShareGridModel" 44 "ShareGridModel" "factor" "[I" ∈ gw := List.mem_filter.mpr ⟨List.mem_of_getElem? (i := 405) (by decide +kernel), by decide +kernel⟩
theorem w_370 : Cond.fieldLink "ShareGridModel" 47 "ShareGridModel" "right" "[I" ∈ gw := List.mem_filter.mpr ⟨List.mem_of_getElem? (i := 406) (by decide +kernel), by decide +kernel⟩
theorem w_406 : Cond.methodLink "ShareGridLaw" 25 ⟨"ShareGridModel", "key", "(II)I"⟩ ∈ gw := List.mem_filter.mpr ⟨List.mem_of_getElem? (i := 442) (by decide +kernel), by decide +kernel⟩
theorem w_407 : Cond.instanceMethod ⟨"ShareGridModel", "key", "(II)I"⟩ ∈ gw := List.mem_filter.mpr ⟨List.mem_of_getElem? (i := 443) (by decide +kernel), by decide +kernel⟩
theorem w_408 : Cond.selects "ShareGridModel" ⟨"ShareGridModel", "key", "(II)I"⟩ ⟨"ShareGridModel", "key", "(II)I"⟩ ∈ gw := List.mem_filter.mpr ⟨List.mem_of_getElem? (i := 444) (by decide +kernel), by decide +kernel⟩
theorem w_409 : Cond.code ⟨"ShareGridModel", "key", "(II)I"⟩ prog_6_method_3_code 3 (some FieldType.int) ∈ gw := List.mem_filter.mpr ⟨List.mem_of_getElem? (i := 445) (by decide +kernel), by decide +kernel⟩
theorem w_410 : Cond.methodLink "ShareGridModel" 59 ⟨"ShareGridModel", "mix", "(II)I"⟩ ∈ gw := List.mem_filter.mpr ⟨List.mem_of_getElem? (i := 446) (by decide +kernel), by decide +kernel⟩
theorem w_412 : Cond.instanceMethod ⟨"ShareGridModel", "mix", "(II)I"⟩ ∈ gw := List.mem_filter.mpr ⟨List.mem_of_getElem? (i := 448) (by decide +kernel), by decide +kernel⟩
theorem w_413 : Cond.code ⟨"ShareGridModel", "mix", "(II)I"⟩ prog_6_method_2_code 4 (some FieldType.int) ∈ gw := List.mem_filter.mpr ⟨List.mem_of_getElem? (i := 449) (by decide +kernel), by decide +kernel⟩
theorem w_414 : Cond.constant "ShareGridModel" 57 40503 ∈ gw := List.mem_filter.mpr ⟨List.mem_of_getElem? (i := 450) (by decide +kernel), by decide +kernel⟩
theorem w_415 : Cond.constant "ShareGridModel" 58 1640531527 ∈ gw := List.mem_filter.mpr ⟨List.mem_of_getElem? (i := 451) (by decide +kernel), by decide +kernel⟩
theorem w_416 : Cond.methodLink "ShareGridLaw" 30 ⟨"ShareGridModel", "create", "(I)I"⟩ ∈ gw := List.mem_filter.mpr ⟨List.mem_of_getElem? (i := 452) (by decide +kernel), by decide +kernel⟩
theorem w_417 : Cond.instanceMethod ⟨"ShareGridModel", "create", "(I)I"⟩ ∈ gw := List.mem_filter.mpr ⟨List.mem_of_getElem? (i := 453) (by decide +kernel), by decide +kernel⟩
theorem w_418 : Cond.selects "ShareGridModel" ⟨"ShareGridModel", "create", "(I)I"⟩ ⟨"ShareGridModel", "create", "(I)I"⟩ ∈ gw := List.mem_filter.mpr ⟨List.mem_of_getElem? (i := 454) (by decide +kernel), by decide +kernel⟩
theorem w_419 : Cond.code ⟨"ShareGridModel", "create", "(I)I"⟩ prog_6_method_5_code 3 (some FieldType.int) ∈ gw := List.mem_filter.mpr ⟨List.mem_of_getElem? (i := 455) (by decide +kernel), by decide +kernel⟩
theorem w_420 : Cond.methodLink "ShareGridModel" 66 ⟨"ShareGridModel", "key", "(II)I"⟩ ∈ gw := List.mem_filter.mpr ⟨List.mem_of_getElem? (i := 456) (by decide +kernel), by decide +kernel⟩
theorem w_421 : Cond.methodLink "ShareGridModel" 69 ⟨"ShareGridModel", "fileOf", "(I)I"⟩ ∈ gw := List.mem_filter.mpr ⟨List.mem_of_getElem? (i := 457) (by decide +kernel), by decide +kernel⟩
theorem w_423 : Cond.instanceMethod ⟨"ShareGridModel", "fileOf", "(I)I"⟩ ∈ gw := List.mem_filter.mpr ⟨List.mem_of_getElem? (i := 459) (by decide +kernel), by decide +kernel⟩
theorem w_424 : Cond.code ⟨"ShareGridModel", "fileOf", "(I)I"⟩ prog_6_method_4_code 3 (some FieldType.int) ∈ gw := List.mem_filter.mpr ⟨List.mem_of_getElem? (i := 460) (by decide +kernel), by decide +kernel⟩
theorem w_425 : Cond.methodLink "ShareGridLaw" 34 ⟨"ShareGridModel", "draft", "(II)I"⟩ ∈ gw := List.mem_filter.mpr ⟨List.mem_of_getElem? (i := 461) (by decide +kernel), by decide +kernel⟩
theorem w_426 : Cond.instanceMethod ⟨"ShareGridModel", "draft", "(II)I"⟩ ∈ gw := List.mem_filter.mpr ⟨List.mem_of_getElem? (i := 462) (by decide +kernel), by decide +kernel⟩
theorem w_427 : Cond.selects "ShareGridModel" ⟨"ShareGridModel", "draft", "(II)I"⟩ ⟨"ShareGridModel", "draft", "(II)I"⟩ ∈ gw := List.mem_filter.mpr ⟨List.mem_of_getElem? (i := 463) (by decide +kernel), by decide +kernel⟩
theorem w_428 : Cond.code ⟨"ShareGridModel", "draft", "(II)I"⟩ prog_6_method_6_code 3 (some FieldType.int) ∈ gw := List.mem_filter.mpr ⟨List.mem_of_getElem? (i := 464) (by decide +kernel), by decide +kernel⟩
theorem w_429 : Cond.methodLink "ShareGridLaw" 38 ⟨"ShareGridModel", "write", "(I)I"⟩ ∈ gw := List.mem_filter.mpr ⟨List.mem_of_getElem? (i := 465) (by decide +kernel), by decide +kernel⟩
theorem w_430 : Cond.instanceMethod ⟨"ShareGridModel", "write", "(I)I"⟩ ∈ gw := List.mem_filter.mpr ⟨List.mem_of_getElem? (i := 466) (by decide +kernel), by decide +kernel⟩
theorem w_431 : Cond.selects "ShareGridModel" ⟨"ShareGridModel", "write", "(I)I"⟩ ⟨"ShareGridModel", "write", "(I)I"⟩ ∈ gw := List.mem_filter.mpr ⟨List.mem_of_getElem? (i := 467) (by decide +kernel), by decide +kernel⟩
theorem w_432 : Cond.code ⟨"ShareGridModel", "write", "(I)I"⟩ prog_6_method_14_code 8 (some FieldType.int) ∈ gw := List.mem_filter.mpr ⟨List.mem_of_getElem? (i := 468) (by decide +kernel), by decide +kernel⟩
theorem w_433 : Cond.methodLink "ShareGridModel" 82 ⟨"ShareGridModel", "upCount", "()I"⟩ ∈ gw := List.mem_filter.mpr ⟨List.mem_of_getElem? (i := 469) (by decide +kernel), by decide +kernel⟩
theorem w_435 : Cond.instanceMethod ⟨"ShareGridModel", "upCount", "()I"⟩ ∈ gw := List.mem_filter.mpr ⟨List.mem_of_getElem? (i := 471) (by decide +kernel), by decide +kernel⟩
theorem w_436 : Cond.code ⟨"ShareGridModel", "upCount", "()I"⟩ prog_6_method_12_code 3 (some FieldType.int) ∈ gw := List.mem_filter.mpr ⟨List.mem_of_getElem? (i := 472) (by decide +kernel), by decide +kernel⟩
theorem w_437 : Cond.methodLink "ShareGridModel" 86 ⟨"ShareGridModel", "shareAt", "(I)I"⟩ ∈ gw := List.mem_filter.mpr ⟨List.mem_of_getElem? (i := 473) (by decide +kernel), by decide +kernel⟩
theorem w_439 : Cond.instanceMethod ⟨"ShareGridModel", "shareAt", "(I)I"⟩ ∈ gw := List.mem_filter.mpr ⟨List.mem_of_getElem? (i := 475) (by decide +kernel), by decide +kernel⟩
theorem w_440 : Cond.code ⟨"ShareGridModel", "shareAt", "(I)I"⟩ prog_6_method_10_code 4 (some FieldType.int) ∈ gw := List.mem_filter.mpr ⟨List.mem_of_getElem? (i := 476) (by decide +kernel), by decide +kernel⟩
theorem w_441 : Cond.methodLink "ShareGridModel" 76 ⟨"ShareGridModel", "power", "(II)I"⟩ ∈ gw := List.mem_filter.mpr ⟨List.mem_of_getElem? (i := 477) (by decide +kernel), by decide +kernel⟩
theorem w_443 : Cond.instanceMethod ⟨"ShareGridModel", "power", "(II)I"⟩ ∈ gw := List.mem_filter.mpr ⟨List.mem_of_getElem? (i := 479) (by decide +kernel), by decide +kernel⟩
theorem w_444 : Cond.code ⟨"ShareGridModel", "power", "(II)I"⟩ prog_6_method_9_code 5 (some FieldType.int) ∈ gw := List.mem_filter.mpr ⟨List.mem_of_getElem? (i := 480) (by decide +kernel), by decide +kernel⟩
theorem w_445 : Cond.methodLink "ShareGridModel" 73 ⟨"ShareGridModel", "product", "(II)I"⟩ ∈ gw := List.mem_filter.mpr ⟨List.mem_of_getElem? (i := 481) (by decide +kernel), by decide +kernel⟩
theorem w_447 : Cond.instanceMethod ⟨"ShareGridModel", "product", "(II)I"⟩ ∈ gw := List.mem_filter.mpr ⟨List.mem_of_getElem? (i := 483) (by decide +kernel), by decide +kernel⟩
theorem w_448 : Cond.code ⟨"ShareGridModel", "product", "(II)I"⟩ prog_6_method_7_code 5 (some FieldType.int) ∈ gw := List.mem_filter.mpr ⟨List.mem_of_getElem? (i := 484) (by decide +kernel), by decide +kernel⟩
theorem w_449 : Cond.methodLink "ShareGridModel" 79 ⟨"ShareGridModel", "scaled", "(II)I"⟩ ∈ gw := List.mem_filter.mpr ⟨List.mem_of_getElem? (i := 485) (by decide +kernel), by decide +kernel⟩
theorem w_451 : Cond.instanceMethod ⟨"ShareGridModel", "scaled", "(II)I"⟩ ∈ gw := List.mem_filter.mpr ⟨List.mem_of_getElem? (i := 487) (by decide +kernel), by decide +kernel⟩
theorem w_452 : Cond.code ⟨"ShareGridModel", "scaled", "(II)I"⟩ prog_6_method_8_code 5 (some FieldType.int) ∈ gw := List.mem_filter.mpr ⟨List.mem_of_getElem? (i := 488) (by decide +kernel), by decide +kernel⟩
theorem w_453 : Cond.methodLink "ShareGridModel" 89 ⟨"ShareGridModel", "keep", "(IIII)V"⟩ ∈ gw := List.mem_filter.mpr ⟨List.mem_of_getElem? (i := 489) (by decide +kernel), by decide +kernel⟩
theorem w_455 : Cond.instanceMethod ⟨"ShareGridModel", "keep", "(IIII)V"⟩ ∈ gw := List.mem_filter.mpr ⟨List.mem_of_getElem? (i := 491) (by decide +kernel), by decide +kernel⟩
theorem w_456 : Cond.code ⟨"ShareGridModel", "keep", "(IIII)V"⟩ prog_6_method_15_code 6 none ∈ gw := List.mem_filter.mpr ⟨List.mem_of_getElem? (i := 492) (by decide +kernel), by decide +kernel⟩
theorem w_457 : Cond.methodLink "ShareGridLaw" 42 ⟨"ShareGridModel", "read", "(I)I"⟩ ∈ gw := List.mem_filter.mpr ⟨List.mem_of_getElem? (i := 493) (by decide +kernel), by decide +kernel⟩
theorem w_458 : Cond.instanceMethod ⟨"ShareGridModel", "read", "(I)I"⟩ ∈ gw := List.mem_filter.mpr ⟨List.mem_of_getElem? (i := 494) (by decide +kernel), by decide +kernel⟩
theorem w_459 : Cond.selects "ShareGridModel" ⟨"ShareGridModel", "read", "(I)I"⟩ ⟨"ShareGridModel", "read", "(I)I"⟩ ∈ gw := List.mem_filter.mpr ⟨List.mem_of_getElem? (i := 495) (by decide +kernel), by decide +kernel⟩
theorem w_460 : Cond.code ⟨"ShareGridModel", "read", "(I)I"⟩ prog_6_method_21_code 5 (some FieldType.int) ∈ gw := List.mem_filter.mpr ⟨List.mem_of_getElem? (i := 496) (by decide +kernel), by decide +kernel⟩
theorem w_461 : Cond.methodLink "ShareGridModel" 108 ⟨"ShareGridModel", "bestOf", "(I)I"⟩ ∈ gw := List.mem_filter.mpr ⟨List.mem_of_getElem? (i := 497) (by decide +kernel), by decide +kernel⟩
theorem w_463 : Cond.instanceMethod ⟨"ShareGridModel", "bestOf", "(I)I"⟩ ∈ gw := List.mem_filter.mpr ⟨List.mem_of_getElem? (i := 499) (by decide +kernel), by decide +kernel⟩
theorem w_464 : Cond.code ⟨"ShareGridModel", "bestOf", "(I)I"⟩ prog_6_method_18_code 5 (some FieldType.int) ∈ gw := List.mem_filter.mpr ⟨List.mem_of_getElem? (i := 500) (by decide +kernel), by decide +kernel⟩
theorem w_465 : Cond.methodLink "ShareGridModel" 100 ⟨"ShareGridModel", "serves", "(III)Z"⟩ ∈ gw := List.mem_filter.mpr ⟨List.mem_of_getElem? (i := 501) (by decide +kernel), by decide +kernel⟩
theorem w_467 : Cond.instanceMethod ⟨"ShareGridModel", "serves", "(III)Z"⟩ ∈ gw := List.mem_filter.mpr ⟨List.mem_of_getElem? (i := 503) (by decide +kernel), by decide +kernel⟩
theorem w_468 : Cond.code ⟨"ShareGridModel", "serves", "(III)Z"⟩ prog_6_method_17_code 4 (some FieldType.boolean) ∈ gw := List.mem_filter.mpr ⟨List.mem_of_getElem? (i := 504) (by decide +kernel), by decide +kernel⟩
theorem w_469 : Cond.methodLink "ShareGridModel" 96 ⟨"ShareGridModel", "isSound", "(II)Z"⟩ ∈ gw := List.mem_filter.mpr ⟨List.mem_of_getElem? (i := 505) (by decide +kernel), by decide +kernel⟩
theorem w_471 : Cond.instanceMethod ⟨"ShareGridModel", "isSound", "(II)Z"⟩ ∈ gw := List.mem_filter.mpr ⟨List.mem_of_getElem? (i := 507) (by decide +kernel), by decide +kernel⟩
theorem w_472 : Cond.code ⟨"ShareGridModel", "isSound", "(II)Z"⟩ prog_6_method_16_code 5 (some FieldType.boolean) ∈ gw := List.mem_filter.mpr ⟨List.mem_of_getElem? (i := 508) (by decide +kernel), by decide +kernel⟩
theorem w_473 : Cond.methodLink "ShareGridModel" 93 ⟨"ShareGridModel", "rootOf", "(II)I"⟩ ∈ gw := List.mem_filter.mpr ⟨List.mem_of_getElem? (i := 509) (by decide +kernel), by decide +kernel⟩
theorem w_475 : Cond.instanceMethod ⟨"ShareGridModel", "rootOf", "(II)I"⟩ ∈ gw := List.mem_filter.mpr ⟨List.mem_of_getElem? (i := 511) (by decide +kernel), by decide +kernel⟩
theorem w_476 : Cond.code ⟨"ShareGridModel", "rootOf", "(II)I"⟩ prog_6_method_11_code 5 (some FieldType.int) ∈ gw := List.mem_filter.mpr ⟨List.mem_of_getElem? (i := 512) (by decide +kernel), by decide +kernel⟩
theorem w_477 : Cond.methodLink "ShareGridModel" 111 ⟨"ShareGridModel", "decode", "(II)V"⟩ ∈ gw := List.mem_filter.mpr ⟨List.mem_of_getElem? (i := 513) (by decide +kernel), by decide +kernel⟩
theorem w_479 : Cond.instanceMethod ⟨"ShareGridModel", "decode", "(II)V"⟩ ∈ gw := List.mem_filter.mpr ⟨List.mem_of_getElem? (i := 515) (by decide +kernel), by decide +kernel⟩
theorem w_480 : Cond.code ⟨"ShareGridModel", "decode", "(II)V"⟩ prog_6_method_20_code 8 none ∈ gw := List.mem_filter.mpr ⟨List.mem_of_getElem? (i := 516) (by decide +kernel), by decide +kernel⟩
theorem w_481 : Cond.methodLink "ShareGridModel" 104 ⟨"ShareGridModel", "subtract", "(III)V"⟩ ∈ gw := List.mem_filter.mpr ⟨List.mem_of_getElem? (i := 517) (by decide +kernel), by decide +kernel⟩
theorem w_483 : Cond.instanceMethod ⟨"ShareGridModel", "subtract", "(III)V"⟩ ∈ gw := List.mem_filter.mpr ⟨List.mem_of_getElem? (i := 519) (by decide +kernel), by decide +kernel⟩
theorem w_484 : Cond.code ⟨"ShareGridModel", "subtract", "(III)V"⟩ prog_6_method_19_code 5 none ∈ gw := List.mem_filter.mpr ⟨List.mem_of_getElem? (i := 520) (by decide +kernel), by decide +kernel⟩
theorem w_485 : Cond.methodLink "ShareGridLaw" 47 ⟨"ShareGridModel", "word", "(I)J"⟩ ∈ gw := List.mem_filter.mpr ⟨List.mem_of_getElem? (i := 521) (by decide +kernel), by decide +kernel⟩
theorem w_486 : Cond.instanceMethod ⟨"ShareGridModel", "word", "(I)J"⟩ ∈ gw := List.mem_filter.mpr ⟨List.mem_of_getElem? (i := 522) (by decide +kernel), by decide +kernel⟩
theorem w_487 : Cond.selects "ShareGridModel" ⟨"ShareGridModel", "word", "(I)J"⟩ ⟨"ShareGridModel", "word", "(I)J"⟩ ∈ gw := List.mem_filter.mpr ⟨List.mem_of_getElem? (i := 523) (by decide +kernel), by decide +kernel⟩
theorem w_488 : Cond.code ⟨"ShareGridModel", "word", "(I)J"⟩ prog_6_method_22_code 2 (some FieldType.long) ∈ gw := List.mem_filter.mpr ⟨List.mem_of_getElem? (i := 524) (by decide +kernel), by decide +kernel⟩
theorem w_489 : Cond.constantLong "ShareGridModel" 119 (-1000000000000) ∈ gw := List.mem_filter.mpr ⟨List.mem_of_getElem? (i := 525) (by decide +kernel), by decide +kernel⟩
theorem w_490 : Cond.methodLink "ShareGridLaw" 51 ⟨"ShareGridModel", "sound", "(I)I"⟩ ∈ gw := List.mem_filter.mpr ⟨List.mem_of_getElem? (i := 526) (by decide +kernel), by decide +kernel⟩
theorem w_491 : Cond.instanceMethod ⟨"ShareGridModel", "sound", "(I)I"⟩ ∈ gw := List.mem_filter.mpr ⟨List.mem_of_getElem? (i := 527) (by decide +kernel), by decide +kernel⟩
theorem w_492 : Cond.selects "ShareGridModel" ⟨"ShareGridModel", "sound", "(I)I"⟩ ⟨"ShareGridModel", "sound", "(I)I"⟩ ∈ gw := List.mem_filter.mpr ⟨List.mem_of_getElem? (i := 528) (by decide +kernel), by decide +kernel⟩
theorem w_493 : Cond.code ⟨"ShareGridModel", "sound", "(I)I"⟩ prog_6_method_23_code 5 (some FieldType.int) ∈ gw := List.mem_filter.mpr ⟨List.mem_of_getElem? (i := 529) (by decide +kernel), by decide +kernel⟩
theorem w_494 : Cond.methodLink "ShareGridLaw" 55 ⟨"ShareGridModel", "best", "(I)I"⟩ ∈ gw := List.mem_filter.mpr ⟨List.mem_of_getElem? (i := 530) (by decide +kernel), by decide +kernel⟩
theorem w_495 : Cond.instanceMethod ⟨"ShareGridModel", "best", "(I)I"⟩ ∈ gw := List.mem_filter.mpr ⟨List.mem_of_getElem? (i := 531) (by decide +kernel), by decide +kernel⟩
theorem w_496 : Cond.selects "ShareGridModel" ⟨"ShareGridModel", "best", "(I)I"⟩ ⟨"ShareGridModel", "best", "(I)I"⟩ ∈ gw := List.mem_filter.mpr ⟨List.mem_of_getElem? (i := 532) (by decide +kernel), by decide +kernel⟩
theorem w_497 : Cond.code ⟨"ShareGridModel", "best", "(I)I"⟩ prog_6_method_24_code 3 (some FieldType.int) ∈ gw := List.mem_filter.mpr ⟨List.mem_of_getElem? (i := 533) (by decide +kernel), by decide +kernel⟩
theorem w_498 : Cond.methodLink "ShareGridLaw" 59 ⟨"ShareGridModel", "repair", "(I)I"⟩ ∈ gw := List.mem_filter.mpr ⟨List.mem_of_getElem? (i := 534) (by decide +kernel), by decide +kernel⟩
theorem w_499 : Cond.instanceMethod ⟨"ShareGridModel", "repair", "(I)I"⟩ ∈ gw := List.mem_filter.mpr ⟨List.mem_of_getElem? (i := 535) (by decide +kernel), by decide +kernel⟩
theorem w_500 : Cond.selects "ShareGridModel" ⟨"ShareGridModel", "repair", "(I)I"⟩ ⟨"ShareGridModel", "repair", "(I)I"⟩ ∈ gw := List.mem_filter.mpr ⟨List.mem_of_getElem? (i := 536) (by decide +kernel), by decide +kernel⟩
theorem w_501 : Cond.code ⟨"ShareGridModel", "repair", "(I)I"⟩ prog_6_method_25_code 7 (some FieldType.int) ∈ gw := List.mem_filter.mpr ⟨List.mem_of_getElem? (i := 537) (by decide +kernel), by decide +kernel⟩
theorem w_502 : Cond.methodLink "ShareGridModel" 121 ⟨"ShareGridModel", "copyRow", "(II)V"⟩ ∈ gw := List.mem_filter.mpr ⟨List.mem_of_getElem? (i := 538) (by decide +kernel), by decide +kernel⟩
theorem w_504 : Cond.instanceMethod ⟨"ShareGridModel", "copyRow", "(II)V"⟩ ∈ gw := List.mem_filter.mpr ⟨List.mem_of_getElem? (i := 540) (by decide +kernel), by decide +kernel⟩
theorem w_505 : Cond.code ⟨"ShareGridModel", "copyRow", "(II)V"⟩ prog_6_method_13_code 4 none ∈ gw := List.mem_filter.mpr ⟨List.mem_of_getElem? (i := 541) (by decide +kernel), by decide +kernel⟩
theorem w_506 : Cond.methodLink "ShareGridLaw" 64 ⟨"ShareGridModel", "server", "(IZZ)I"⟩ ∈ gw := List.mem_filter.mpr ⟨List.mem_of_getElem? (i := 542) (by decide +kernel), by decide +kernel⟩
theorem w_507 : Cond.instanceMethod ⟨"ShareGridModel", "server", "(IZZ)I"⟩ ∈ gw := List.mem_filter.mpr ⟨List.mem_of_getElem? (i := 543) (by decide +kernel), by decide +kernel⟩
theorem w_508 : Cond.selects "ShareGridModel" ⟨"ShareGridModel", "server", "(IZZ)I"⟩ ⟨"ShareGridModel", "server", "(IZZ)I"⟩ ∈ gw := List.mem_filter.mpr ⟨List.mem_of_getElem? (i := 544) (by decide +kernel), by decide +kernel⟩
theorem w_509 : Cond.code ⟨"ShareGridModel", "server", "(IZZ)I"⟩ prog_6_method_27_code 4 (some FieldType.int) ∈ gw := List.mem_filter.mpr ⟨List.mem_of_getElem? (i := 545) (by decide +kernel), by decide +kernel⟩
theorem w_510 : Cond.methodLink "ShareGridLaw" 69 ⟨"ShareGridModel", "tamper", "(IIII)I"⟩ ∈ gw := List.mem_filter.mpr ⟨List.mem_of_getElem? (i := 546) (by decide +kernel), by decide +kernel⟩
theorem w_511 : Cond.instanceMethod ⟨"ShareGridModel", "tamper", "(IIII)I"⟩ ∈ gw := List.mem_filter.mpr ⟨List.mem_of_getElem? (i := 547) (by decide +kernel), by decide +kernel⟩
theorem w_512 : Cond.selects "ShareGridModel" ⟨"ShareGridModel", "tamper", "(IIII)I"⟩ ⟨"ShareGridModel", "tamper", "(IIII)I"⟩ ∈ gw := List.mem_filter.mpr ⟨List.mem_of_getElem? (i := 548) (by decide +kernel), by decide +kernel⟩
theorem w_513 : Cond.code ⟨"ShareGridModel", "tamper", "(IIII)I"⟩ prog_6_method_28_code 5 (some FieldType.int) ∈ gw := List.mem_filter.mpr ⟨List.mem_of_getElem? (i := 549) (by decide +kernel), by decide +kernel⟩
theorem w_514 : Cond.methodLink "ShareGridModel" 124 ⟨"ShareGridModel", "bad", "(II)Z"⟩ ∈ gw := List.mem_filter.mpr ⟨List.mem_of_getElem? (i := 550) (by decide +kernel), by decide +kernel⟩
theorem w_516 : Cond.instanceMethod ⟨"ShareGridModel", "bad", "(II)Z"⟩ ∈ gw := List.mem_filter.mpr ⟨List.mem_of_getElem? (i := 552) (by decide +kernel), by decide +kernel⟩
theorem w_517 : Cond.code ⟨"ShareGridModel", "bad", "(II)Z"⟩ prog_6_method_26_code 3 (some FieldType.boolean) ∈ gw := List.mem_filter.mpr ⟨List.mem_of_getElem? (i := 553) (by decide +kernel), by decide +kernel⟩
theorem w_518 : Cond.methodLink "ShareGridLaw" 73 ⟨"ShareGridModel", "picture", "(II)I"⟩ ∈ gw := List.mem_filter.mpr ⟨List.mem_of_getElem? (i := 554) (by decide +kernel), by decide +kernel⟩
theorem w_519 : Cond.instanceMethod ⟨"ShareGridModel", "picture", "(II)I"⟩ ∈ gw := List.mem_filter.mpr ⟨List.mem_of_getElem? (i := 555) (by decide +kernel), by decide +kernel⟩
theorem w_520 : Cond.selects "ShareGridModel" ⟨"ShareGridModel", "picture", "(II)I"⟩ ⟨"ShareGridModel", "picture", "(II)I"⟩ ∈ gw := List.mem_filter.mpr ⟨List.mem_of_getElem? (i := 556) (by decide +kernel), by decide +kernel⟩
theorem w_521 : Cond.code ⟨"ShareGridModel", "picture", "(II)I"⟩ prog_6_method_29_code 3 (some FieldType.int) ∈ gw := List.mem_filter.mpr ⟨List.mem_of_getElem? (i := 557) (by decide +kernel), by decide +kernel⟩
theorem w_522 : Cond.methodLink "ShareGridLaw" 77 ⟨"ShareGridModel", "fallBack", "(II)I"⟩ ∈ gw := List.mem_filter.mpr ⟨List.mem_of_getElem? (i := 558) (by decide +kernel), by decide +kernel⟩
theorem w_523 : Cond.instanceMethod ⟨"ShareGridModel", "fallBack", "(II)I"⟩ ∈ gw := List.mem_filter.mpr ⟨List.mem_of_getElem? (i := 559) (by decide +kernel), by decide +kernel⟩
theorem w_524 : Cond.selects "ShareGridModel" ⟨"ShareGridModel", "fallBack", "(II)I"⟩ ⟨"ShareGridModel", "fallBack", "(II)I"⟩ ∈ gw := List.mem_filter.mpr ⟨List.mem_of_getElem? (i := 560) (by decide +kernel), by decide +kernel⟩
theorem w_525 : Cond.code ⟨"ShareGridModel", "fallBack", "(II)I"⟩ prog_6_method_30_code 3 (some FieldType.int) ∈ gw := List.mem_filter.mpr ⟨List.mem_of_getElem? (i := 561) (by decide +kernel), by decide +kernel⟩
theorem w_526 : Cond.methodLink "ShareGridLaw" 81 ⟨"ShareGridModel", "wipe", "(II)I"⟩ ∈ gw := List.mem_filter.mpr ⟨List.mem_of_getElem? (i := 562) (by decide +kernel), by decide +kernel⟩
theorem w_527 : Cond.instanceMethod ⟨"ShareGridModel", "wipe", "(II)I"⟩ ∈ gw := List.mem_filter.mpr ⟨List.mem_of_getElem? (i := 563) (by decide +kernel), by decide +kernel⟩
theorem w_528 : Cond.selects "ShareGridModel" ⟨"ShareGridModel", "wipe", "(II)I"⟩ ⟨"ShareGridModel", "wipe", "(II)I"⟩ ∈ gw := List.mem_filter.mpr ⟨List.mem_of_getElem? (i := 564) (by decide +kernel), by decide +kernel⟩
theorem w_529 : Cond.code ⟨"ShareGridModel", "wipe", "(II)I"⟩ prog_6_method_31_code 3 (some FieldType.int) ∈ gw := List.mem_filter.mpr ⟨List.mem_of_getElem? (i := 565) (by decide +kernel), by decide +kernel⟩
theorem w_530 : Cond.methodLink "ShareGridLaw" 86 ⟨"ShareGridModel", "share", "(III)J"⟩ ∈ gw := List.mem_filter.mpr ⟨List.mem_of_getElem? (i := 566) (by decide +kernel), by decide +kernel⟩
theorem w_531 : Cond.instanceMethod ⟨"ShareGridModel", "share", "(III)J"⟩ ∈ gw := List.mem_filter.mpr ⟨List.mem_of_getElem? (i := 567) (by decide +kernel), by decide +kernel⟩
theorem w_532 : Cond.selects "ShareGridModel" ⟨"ShareGridModel", "share", "(III)J"⟩ ⟨"ShareGridModel", "share", "(III)J"⟩ ∈ gw := List.mem_filter.mpr ⟨List.mem_of_getElem? (i := 568) (by decide +kernel), by decide +kernel⟩
theorem w_533 : Cond.code ⟨"ShareGridModel", "share", "(III)J"⟩ prog_6_method_32_code 4 (some FieldType.long) ∈ gw := List.mem_filter.mpr ⟨List.mem_of_getElem? (i := 569) (by decide +kernel), by decide +kernel⟩
theorem w_534 : Cond.methodLink "ShareGridLaw" 90 ⟨"ShareGridModel", "times", "(II)I"⟩ ∈ gw := List.mem_filter.mpr ⟨List.mem_of_getElem? (i := 570) (by decide +kernel), by decide +kernel⟩
theorem w_535 : Cond.instanceMethod ⟨"ShareGridModel", "times", "(II)I"⟩ ∈ gw := List.mem_filter.mpr ⟨List.mem_of_getElem? (i := 571) (by decide +kernel), by decide +kernel⟩
theorem w_536 : Cond.selects "ShareGridModel" ⟨"ShareGridModel", "times", "(II)I"⟩ ⟨"ShareGridModel", "times", "(II)I"⟩ ∈ gw := List.mem_filter.mpr ⟨List.mem_of_getElem? (i := 572) (by decide +kernel), by decide +kernel⟩
theorem w_537 : Cond.code ⟨"ShareGridModel", "times", "(II)I"⟩ prog_6_method_33_code 3 (some FieldType.int) ∈ gw := List.mem_filter.mpr ⟨List.mem_of_getElem? (i := 573) (by decide +kernel), by decide +kernel⟩
theorem w_538 : Cond.methodLink "ShareGridLaw" 94 ⟨"ShareGridModel", "count", "(I)I"⟩ ∈ gw := List.mem_filter.mpr ⟨List.mem_of_getElem? (i := 574) (by decide +kernel), by decide +kernel⟩
theorem w_539 : Cond.instanceMethod ⟨"ShareGridModel", "count", "(I)I"⟩ ∈ gw := List.mem_filter.mpr ⟨List.mem_of_getElem? (i := 575) (by decide +kernel), by decide +kernel⟩
theorem w_540 : Cond.selects "ShareGridModel" ⟨"ShareGridModel", "count", "(I)I"⟩ ⟨"ShareGridModel", "count", "(I)I"⟩ ∈ gw := List.mem_filter.mpr ⟨List.mem_of_getElem? (i := 576) (by decide +kernel), by decide +kernel⟩
theorem w_541 : Cond.code ⟨"ShareGridModel", "count", "(I)I"⟩ prog_6_method_34_code 2 (some FieldType.int) ∈ gw := List.mem_filter.mpr ⟨List.mem_of_getElem? (i := 577) (by decide +kernel), by decide +kernel⟩
theorem i_C : ∀ w ∈ u_ws R_C F_C 3, w ∈ gw := by decide +kernel
theorem i_R : ∀ w ∈ u_ws R_R F_R 5, w ∈ gw := by decide +kernel
theorem i_F : ∀ w ∈ u_ws R_F F_F 6, w ∈ gw := by decide +kernel
theorem i_G : ∀ w ∈ u_ws R_G F_G 12, w ∈ gw := by decide +kernel
theorem i_M : ∀ w ∈ u_ws R_M F_M 17, w ∈ gw := by decide +kernel
def xN : List Cond := [Cond.methodLinkNest "ShareGrid" 33 ⟨"ShareGrid$StoredFile", "<init>", "(I)V"⟩ "ShareGrid", Cond.methodLinkNest "ShareGrid$StoredFile" 20 ⟨"ShareGrid$ServerRecord", "<init>", "(I)V"⟩ "ShareGrid", Cond.fieldLinkNest "ShareGrid$StoredFile" 48 "ShareGrid$ServerRecord" "fingerprints" "[I" "ShareGrid", Cond.fieldLinkNest "ShareGrid" 155 "ShareGrid$ServerRecord" "fingerprints" "[I" "ShareGrid", Cond.fieldLinkNest "ShareGrid$StoredFile" 37 "ShareGrid$ServerRecord" "held" "Z" "ShareGrid", Cond.fieldLinkNest "ShareGrid" 146 "ShareGrid$ServerRecord" "held" "Z" "ShareGrid", Cond.fieldLinkNest "ShareGrid$StoredFile" 41 "ShareGrid$ServerRecord" "share" "I" "ShareGrid", Cond.fieldLinkNest "ShareGrid" 149 "ShareGrid$ServerRecord" "share" "I" "ShareGrid", Cond.fieldLinkNest "ShareGrid$StoredFile" 34 "ShareGrid$ServerRecord" "number" "I" "ShareGrid", Cond.fieldLinkNest "ShareGrid" 152 "ShareGrid$ServerRecord" "number" "I" "ShareGrid", Cond.fieldLinkNest "ShareGrid$StoredFile" 55 "ShareGrid$ServerRecord" "seal" "I" "ShareGrid", Cond.fieldLinkNest "ShareGrid" 101 "ShareGrid$ServerRecord" "seal" "I" "ShareGrid", Cond.fieldLinkNest "ShareGrid" 128 "ShareGrid$StoredFile" "records" "[LShareGrid$ServerRecord;" "ShareGrid", Cond.fieldLinkNest "ShareGrid" 158 "ShareGrid$StoredFile" "pictures" "[LShareGrid$ServerRecord;" "ShareGrid", Cond.fieldLinkNest "ShareGrid" 77 "ShareGrid$StoredFile" "verifyKey" "I" "ShareGrid", Cond.fieldLinkNest "ShareGrid" 88 "ShareGrid$StoredFile" "written" "I" "ShareGrid", Cond.methodLinkNest "ShareGrid" 45 ⟨"ShareGrid$Coder", "<init>", "(I)V"⟩ "ShareGrid", Cond.fieldLinkNest "ShareGrid" 91 "ShareGrid$Coder" "cipherWords" "[I" "ShareGrid", Cond.fieldLinkNest "ShareGrid" 184 "ShareGrid$Coder" "points" "[I" "ShareGrid", Cond.methodLinkNest "ShareGrid" 52 ⟨"ShareGrid$ServerRecord", "<init>", "(I)V"⟩ "ShareGrid", Cond.methodLinkNest "ShareGrid" 196 ⟨"ShareGrid$Coder", "shareAt", "(I)I"⟩ "ShareGrid", Cond.methodLinkNest "ShareGrid$Coder" 20 ⟨"ShareGrid", "pointOf", "(I)I"⟩ "ShareGrid", Cond.methodLinkNest "ShareGrid$Coder" 26 ⟨"ShareGrid", "scaled", "(II)I"⟩ "ShareGrid", Cond.methodLinkNest "ShareGrid" 202 ⟨"ShareGrid$ServerRecord", "rootOfFingerprints", "()I"⟩ "ShareGrid", Cond.methodLinkNest "ShareGrid$ServerRecord" 33 ⟨"ShareGrid", "mix", "(II)I"⟩ "ShareGrid", Cond.methodLinkNest "ShareGrid" 104 ⟨"ShareGrid$StoredFile", "noteNext", "(II)V"⟩ "ShareGrid", Cond.methodLinkNest "ShareGrid" 132 ⟨"ShareGrid$ServerRecord", "copyFrom", "(LShareGrid$ServerRecord;)V"⟩ "ShareGrid", Cond.methodLinkNest "ShareGrid" 125 ⟨"ShareGrid$StoredFile", "isSoundAt", "(I)Z"⟩ "ShareGrid", Cond.methodLinkNest "ShareGrid$StoredFile" 44 ⟨"ShareGrid", "fingerprint", "(II)I"⟩ "ShareGrid", Cond.methodLinkNest "ShareGrid$StoredFile" 51 ⟨"ShareGrid$ServerRecord", "rootOfFingerprints", "()I"⟩ "ShareGrid", Cond.methodLinkNest "ShareGrid" 136 ⟨"ShareGrid$StoredFile", "isSoundWith", "(II)Z"⟩ "ShareGrid", Cond.methodLinkNest "ShareGrid" 190 ⟨"ShareGrid$Coder", "decodeShares", "()V"⟩ "ShareGrid", Cond.methodLinkNest "ShareGrid$Coder" 36 ⟨"ShareGrid", "inverse", "(I)I"⟩ "ShareGrid"]
theorem e_29 : Cond.methodLinkNest "ShareGrid" 33 ⟨"ShareGrid$StoredFile", "<init>", "(I)V"⟩ "ShareGrid" ∈ xN := List.mem_of_getElem? (i := 0) rfl
theorem e_36 : Cond.methodLinkNest "ShareGrid$StoredFile" 20 ⟨"ShareGrid$ServerRecord", "<init>", "(I)V"⟩ "ShareGrid" ∈ xN := List.mem_of_getElem? (i := 1) rfl
theorem e_41 : Cond.fieldLinkNest "ShareGrid$StoredFile" 48 "ShareGrid$ServerRecord" "fingerprints" "[I" "ShareGrid" ∈ xN := List.mem_of_getElem? (i := 2) rfl
theorem e_42 : Cond.fieldLinkNest "ShareGrid" 155 "ShareGrid$ServerRecord" "fingerprints" "[I" "ShareGrid" ∈ xN := List.mem_of_getElem? (i := 3) rfl
theorem e_44 : Cond.fieldLinkNest "ShareGrid$StoredFile" 37 "ShareGrid$ServerRecord" "held" "Z" "ShareGrid" ∈ xN := List.mem_of_getElem? (i := 4) rfl
theorem e_45 : Cond.fieldLinkNest "ShareGrid" 146 "ShareGrid$ServerRecord" "held" "Z" "ShareGrid" ∈ xN := List.mem_of_getElem? (i := 5) rfl
theorem e_47 : Cond.fieldLinkNest "ShareGrid$StoredFile" 41 "ShareGrid$ServerRecord" "share" "I" "ShareGrid" ∈ xN := List.mem_of_getElem? (i := 6) rfl
theorem e_48 : Cond.fieldLinkNest "ShareGrid" 149 "ShareGrid$ServerRecord" "share" "I" "ShareGrid" ∈ xN := List.mem_of_getElem? (i := 7) rfl
theorem e_50 : Cond.fieldLinkNest "ShareGrid$StoredFile" 34 "ShareGrid$ServerRecord" "number" "I" "ShareGrid" ∈ xN := List.mem_of_getElem? (i := 8) rfl
theorem e_51 : Cond.fieldLinkNest "ShareGrid" 152 "ShareGrid$ServerRecord" "number" "I" "ShareGrid" ∈ xN := List.mem_of_getElem? (i := 9) rfl
theorem e_53 : Cond.fieldLinkNest "ShareGrid$StoredFile" 55 "ShareGrid$ServerRecord" "seal" "I" "ShareGrid" ∈ xN := List.mem_of_getElem? (i := 10) rfl
theorem e_54 : Cond.fieldLinkNest "ShareGrid" 101 "ShareGrid$ServerRecord" "seal" "I" "ShareGrid" ∈ xN := List.mem_of_getElem? (i := 11) rfl
theorem e_69 : Cond.fieldLinkNest "ShareGrid" 128 "ShareGrid$StoredFile" "records" "[LShareGrid$ServerRecord;" "ShareGrid" ∈ xN := List.mem_of_getElem? (i := 12) rfl
theorem e_71 : Cond.fieldLinkNest "ShareGrid" 158 "ShareGrid$StoredFile" "pictures" "[LShareGrid$ServerRecord;" "ShareGrid" ∈ xN := List.mem_of_getElem? (i := 13) rfl
theorem e_74 : Cond.fieldLinkNest "ShareGrid" 77 "ShareGrid$StoredFile" "verifyKey" "I" "ShareGrid" ∈ xN := List.mem_of_getElem? (i := 14) rfl
theorem e_76 : Cond.fieldLinkNest "ShareGrid" 88 "ShareGrid$StoredFile" "written" "I" "ShareGrid" ∈ xN := List.mem_of_getElem? (i := 15) rfl
theorem e_92 : Cond.methodLinkNest "ShareGrid" 45 ⟨"ShareGrid$Coder", "<init>", "(I)V"⟩ "ShareGrid" ∈ xN := List.mem_of_getElem? (i := 16) rfl
theorem e_98 : Cond.fieldLinkNest "ShareGrid" 91 "ShareGrid$Coder" "cipherWords" "[I" "ShareGrid" ∈ xN := List.mem_of_getElem? (i := 17) rfl
theorem e_100 : Cond.fieldLinkNest "ShareGrid" 184 "ShareGrid$Coder" "points" "[I" "ShareGrid" ∈ xN := List.mem_of_getElem? (i := 18) rfl
theorem e_109 : Cond.methodLinkNest "ShareGrid" 52 ⟨"ShareGrid$ServerRecord", "<init>", "(I)V"⟩ "ShareGrid" ∈ xN := List.mem_of_getElem? (i := 19) rfl
theorem e_193 : Cond.methodLinkNest "ShareGrid" 196 ⟨"ShareGrid$Coder", "shareAt", "(I)I"⟩ "ShareGrid" ∈ xN := List.mem_of_getElem? (i := 20) rfl
theorem e_197 : Cond.methodLinkNest "ShareGrid$Coder" 20 ⟨"ShareGrid", "pointOf", "(I)I"⟩ "ShareGrid" ∈ xN := List.mem_of_getElem? (i := 21) rfl
theorem e_200 : Cond.methodLinkNest "ShareGrid$Coder" 26 ⟨"ShareGrid", "scaled", "(II)I"⟩ "ShareGrid" ∈ xN := List.mem_of_getElem? (i := 22) rfl
theorem e_211 : Cond.methodLinkNest "ShareGrid" 202 ⟨"ShareGrid$ServerRecord", "rootOfFingerprints", "()I"⟩ "ShareGrid" ∈ xN := List.mem_of_getElem? (i := 23) rfl
theorem e_215 : Cond.methodLinkNest "ShareGrid$ServerRecord" 33 ⟨"ShareGrid", "mix", "(II)I"⟩ "ShareGrid" ∈ xN := List.mem_of_getElem? (i := 24) rfl
theorem e_216 : Cond.methodLinkNest "ShareGrid" 104 ⟨"ShareGrid$StoredFile", "noteNext", "(II)V"⟩ "ShareGrid" ∈ xN := List.mem_of_getElem? (i := 25) rfl
theorem e_228 : Cond.methodLinkNest "ShareGrid" 132 ⟨"ShareGrid$ServerRecord", "copyFrom", "(LShareGrid$ServerRecord;)V"⟩ "ShareGrid" ∈ xN := List.mem_of_getElem? (i := 26) rfl
theorem e_246 : Cond.methodLinkNest "ShareGrid" 125 ⟨"ShareGrid$StoredFile", "isSoundAt", "(I)Z"⟩ "ShareGrid" ∈ xN := List.mem_of_getElem? (i := 27) rfl
theorem e_250 : Cond.methodLinkNest "ShareGrid$StoredFile" 44 ⟨"ShareGrid", "fingerprint", "(II)I"⟩ "ShareGrid" ∈ xN := List.mem_of_getElem? (i := 28) rfl
theorem e_251 : Cond.methodLinkNest "ShareGrid$StoredFile" 51 ⟨"ShareGrid$ServerRecord", "rootOfFingerprints", "()I"⟩ "ShareGrid" ∈ xN := List.mem_of_getElem? (i := 29) rfl
theorem e_256 : Cond.methodLinkNest "ShareGrid" 136 ⟨"ShareGrid$StoredFile", "isSoundWith", "(II)Z"⟩ "ShareGrid" ∈ xN := List.mem_of_getElem? (i := 30) rfl
theorem e_262 : Cond.methodLinkNest "ShareGrid" 190 ⟨"ShareGrid$Coder", "decodeShares", "()V"⟩ "ShareGrid" ∈ xN := List.mem_of_getElem? (i := 31) rfl
theorem e_270 : Cond.methodLinkNest "ShareGrid$Coder" 36 ⟨"ShareGrid", "inverse", "(I)I"⟩ "ShareGrid" ∈ xN := List.mem_of_getElem? (i := 32) rfl
def xO : List String := ["ShareGrid$ServerRecord", "ShareGrid$StoredFile"]
