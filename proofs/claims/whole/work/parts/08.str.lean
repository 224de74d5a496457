/-! Part 08, laid by wip/whole/strgen.py: the length and the signs of the constants -/
theorem w_in_JS : Cond.initialized "java/lang/String" ∈ m_tb := m_in (m_t1 (List.mem_of_getElem? (i := 16) rfl)) rfl
theorem w_in_JL : Cond.initialized "java/lang/StringLatin1" ∈ m_tb := m_in (m_t1 (List.mem_of_getElem? (i := 17) rfl)) rfl
theorem w_in_JP : Cond.initialized "jdk/internal/util/Preconditions" ∈ m_tb := m_in (m_t1 (List.mem_of_getElem? (i := 18) rfl)) rfl
theorem w_co_JS_length : Cond.code ⟨"java/lang/String", "length", "()I"⟩ prog_17_method_54_code 1 (Option.some Jvm.ClassFile.FieldType.int) ∈ m_tb := m_in (m_t3 (List.mem_of_getElem? (i := 94) rfl)) rfl
def k_JS_length : mKt := (⟨"java/lang/String", "length", "()I"⟩, prog_17_method_54_code, 1, (Option.some Jvm.ClassFile.FieldType.int), fun _ _ => True)
theorem w_im_JS_length : Cond.instanceMethod ⟨"java/lang/String", "length", "()I"⟩ ∈ m_tb := m_in (m_t3 (List.mem_of_getElem? (i := 92) rfl)) rfl
theorem w_se_JS_length : Cond.selects "java/lang/String" ⟨"java/lang/String", "length", "()I"⟩ ⟨"java/lang/String", "length", "()I"⟩ ∈ m_tb := m_in (m_t3 (List.mem_of_getElem? (i := 93) rfl)) rfl
theorem cv_JS_length : m_CV k_JS_length 0 := ⟨⟨w_co_JS_length, w_in_JS, by decide, Nat.le_of_ble_eq_true rfl, by decide, by decide, by decide +kernel, fun _ _ => trivial⟩, w_im_JS_length, w_se_JS_length⟩
theorem d_JS_length_0 : m_D k_JS_length 0 (.aload_n 0) 1 := (by decide +kernel : decode prog_17_method_54_code 0 = .ok (.aload_n 0, 1))
theorem d_JS_length_1 : m_D k_JS_length 1 (.getfield 9) 3 := (by decide +kernel : decode prog_17_method_54_code 1 = .ok (.getfield 9, 3))
theorem d_JS_length_4 : m_D k_JS_length 4 (.arraylength) 1 := (by decide +kernel : decode prog_17_method_54_code 4 = .ok (.arraylength, 1))
theorem d_JS_length_5 : m_D k_JS_length 5 (.aload_n 0) 1 := (by decide +kernel : decode prog_17_method_54_code 5 = .ok (.aload_n 0, 1))
theorem d_JS_length_6 : m_D k_JS_length 6 (.invokevirtual 335) 3 := (by decide +kernel : decode prog_17_method_54_code 6 = .ok (.invokevirtual 335, 3))
theorem d_JS_length_9 : m_D k_JS_length 9 (.ishr) 1 := (by decide +kernel : decode prog_17_method_54_code 9 = .ok (.ishr, 1))
theorem d_JS_length_10 : m_D k_JS_length 10 (.ireturn) 1 := (by decide +kernel : decode prog_17_method_54_code 10 = .ok (.ireturn, 1))
theorem w_co_JS_coder : Cond.code ⟨"java/lang/String", "coder", "()B"⟩ prog_17_method_152_code 1 (Option.some Jvm.ClassFile.FieldType.byte) ∈ m_tb := m_in (m_t3 (List.mem_of_getElem? (i := 98) rfl)) rfl
def k_JS_coder : mKt := (⟨"java/lang/String", "coder", "()B"⟩, prog_17_method_152_code, 1, (Option.some Jvm.ClassFile.FieldType.byte), fun _ _ => True)
theorem w_im_JS_coder : Cond.instanceMethod ⟨"java/lang/String", "coder", "()B"⟩ ∈ m_tb := m_in (m_t3 (List.mem_of_getElem? (i := 96) rfl)) rfl
theorem w_se_JS_coder : Cond.selects "java/lang/String" ⟨"java/lang/String", "coder", "()B"⟩ ⟨"java/lang/String", "coder", "()B"⟩ ∈ m_tb := m_in (m_t3 (List.mem_of_getElem? (i := 97) rfl)) rfl
theorem cv_JS_coder : m_CV k_JS_coder 0 := ⟨⟨w_co_JS_coder, w_in_JS, by decide, Nat.le_of_ble_eq_true rfl, by decide, by decide, by decide +kernel, fun _ _ => trivial⟩, w_im_JS_coder, w_se_JS_coder⟩
theorem d_JS_coder_0 : m_D k_JS_coder 0 (.getstatic 38) 3 := (by decide +kernel : decode prog_17_method_152_code 0 = .ok (.getstatic 38, 3))
theorem d_JS_coder_3 : m_D k_JS_coder 3 (.ifCond .eq 10) 3 := (by decide +kernel : decode prog_17_method_152_code 3 = .ok (.ifCond .eq 10, 3))
theorem d_JS_coder_6 : m_D k_JS_coder 6 (.aload_n 0) 1 := (by decide +kernel : decode prog_17_method_152_code 6 = .ok (.aload_n 0, 1))
theorem d_JS_coder_7 : m_D k_JS_coder 7 (.getfield 15) 3 := (by decide +kernel : decode prog_17_method_152_code 7 = .ok (.getfield 15, 3))
theorem d_JS_coder_10 : m_D k_JS_coder 10 (.goto 4) 3 := (by decide +kernel : decode prog_17_method_152_code 10 = .ok (.goto 4, 3))
theorem d_JS_coder_13 : m_D k_JS_coder 13 (.iconst 1) 1 := (by decide +kernel : decode prog_17_method_152_code 13 = .ok (.iconst 1, 1))
theorem d_JS_coder_14 : m_D k_JS_coder 14 (.ireturn) 1 := (by decide +kernel : decode prog_17_method_152_code 14 = .ok (.ireturn, 1))
theorem w_co_JS_charAt : Cond.code ⟨"java/lang/String", "charAt", "(I)C"⟩ prog_17_method_56_code 2 (Option.some Jvm.ClassFile.FieldType.char) ∈ m_tb := m_in (m_t3 (List.mem_of_getElem? (i := 104) rfl)) rfl
def k_JS_charAt : mKt := (⟨"java/lang/String", "charAt", "(I)C"⟩, prog_17_method_56_code, 2, (Option.some Jvm.ClassFile.FieldType.char), fun _ _ => True)
theorem w_im_JS_charAt : Cond.instanceMethod ⟨"java/lang/String", "charAt", "(I)C"⟩ ∈ m_tb := m_in (m_t3 (List.mem_of_getElem? (i := 102) rfl)) rfl
theorem w_se_JS_charAt : Cond.selects "java/lang/String" ⟨"java/lang/String", "charAt", "(I)C"⟩ ⟨"java/lang/String", "charAt", "(I)C"⟩ ∈ m_tb := m_in (m_t3 (List.mem_of_getElem? (i := 103) rfl)) rfl
theorem cv_JS_charAt : m_CV k_JS_charAt 1 := ⟨⟨w_co_JS_charAt, w_in_JS, by decide, Nat.le_of_ble_eq_true rfl, by decide, by decide, by decide +kernel, fun _ _ => trivial⟩, w_im_JS_charAt, w_se_JS_charAt⟩
theorem d_JS_charAt_0 : m_D k_JS_charAt 0 (.aload_n 0) 1 := (by decide +kernel : decode prog_17_method_56_code 0 = .ok (.aload_n 0, 1))
theorem d_JS_charAt_1 : m_D k_JS_charAt 1 (.invokevirtual 492) 3 := (by decide +kernel : decode prog_17_method_56_code 1 = .ok (.invokevirtual 492, 3))
theorem d_JS_charAt_4 : m_D k_JS_charAt 4 (.ifCond .eq 12) 3 := (by decide +kernel : decode prog_17_method_56_code 4 = .ok (.ifCond .eq 12, 3))
theorem d_JS_charAt_7 : m_D k_JS_charAt 7 (.aload_n 0) 1 := (by decide +kernel : decode prog_17_method_56_code 7 = .ok (.aload_n 0, 1))
theorem d_JS_charAt_8 : m_D k_JS_charAt 8 (.getfield 9) 3 := (by decide +kernel : decode prog_17_method_56_code 8 = .ok (.getfield 9, 3))
theorem d_JS_charAt_11 : m_D k_JS_charAt 11 (.iload_n 1) 1 := (by decide +kernel : decode prog_17_method_56_code 11 = .ok (.iload_n 1, 1))
theorem d_JS_charAt_12 : m_D k_JS_charAt 12 (.invokestatic 495) 3 := (by decide +kernel : decode prog_17_method_56_code 12 = .ok (.invokestatic 495, 3))
theorem d_JS_charAt_15 : m_D k_JS_charAt 15 (.ireturn) 1 := (by decide +kernel : decode prog_17_method_56_code 15 = .ok (.ireturn, 1))
theorem d_JS_charAt_16 : m_D k_JS_charAt 16 (.aload_n 0) 1 := (by decide +kernel : decode prog_17_method_56_code 16 = .ok (.aload_n 0, 1))
theorem d_JS_charAt_17 : m_D k_JS_charAt 17 (.getfield 9) 3 := (by decide +kernel : decode prog_17_method_56_code 17 = .ok (.getfield 9, 3))
theorem d_JS_charAt_20 : m_D k_JS_charAt 20 (.iload_n 1) 1 := (by decide +kernel : decode prog_17_method_56_code 20 = .ok (.iload_n 1, 1))
theorem d_JS_charAt_21 : m_D k_JS_charAt 21 (.invokestatic 498) 3 := (by decide +kernel : decode prog_17_method_56_code 21 = .ok (.invokestatic 498, 3))
theorem d_JS_charAt_24 : m_D k_JS_charAt 24 (.ireturn) 1 := (by decide +kernel : decode prog_17_method_56_code 24 = .ok (.ireturn, 1))
theorem w_co_JS_isLatin1 : Cond.code ⟨"java/lang/String", "isLatin1", "()Z"⟩ prog_17_method_154_code 1 (Option.some Jvm.ClassFile.FieldType.boolean) ∈ m_tb := m_in (m_t3 (List.mem_of_getElem? (i := 108) rfl)) rfl
def k_JS_isLatin1 : mKt := (⟨"java/lang/String", "isLatin1", "()Z"⟩, prog_17_method_154_code, 1, (Option.some Jvm.ClassFile.FieldType.boolean), fun _ _ => True)
theorem w_im_JS_isLatin1 : Cond.instanceMethod ⟨"java/lang/String", "isLatin1", "()Z"⟩ ∈ m_tb := m_in (m_t3 (List.mem_of_getElem? (i := 106) rfl)) rfl
theorem w_se_JS_isLatin1 : Cond.selects "java/lang/String" ⟨"java/lang/String", "isLatin1", "()Z"⟩ ⟨"java/lang/String", "isLatin1", "()Z"⟩ ∈ m_tb := m_in (m_t3 (List.mem_of_getElem? (i := 107) rfl)) rfl
theorem cv_JS_isLatin1 : m_CV k_JS_isLatin1 0 := ⟨⟨w_co_JS_isLatin1, w_in_JS, by decide, Nat.le_of_ble_eq_true rfl, by decide, by decide, by decide +kernel, fun _ _ => trivial⟩, w_im_JS_isLatin1, w_se_JS_isLatin1⟩
theorem d_JS_isLatin1_0 : m_D k_JS_isLatin1 0 (.getstatic 38) 3 := (by decide +kernel : decode prog_17_method_154_code 0 = .ok (.getstatic 38, 3))
theorem d_JS_isLatin1_3 : m_D k_JS_isLatin1 3 (.ifCond .eq 14) 3 := (by decide +kernel : decode prog_17_method_154_code 3 = .ok (.ifCond .eq 14, 3))
theorem d_JS_isLatin1_6 : m_D k_JS_isLatin1 6 (.aload_n 0) 1 := (by decide +kernel : decode prog_17_method_154_code 6 = .ok (.aload_n 0, 1))
theorem d_JS_isLatin1_7 : m_D k_JS_isLatin1 7 (.getfield 15) 3 := (by decide +kernel : decode prog_17_method_154_code 7 = .ok (.getfield 15, 3))
theorem d_JS_isLatin1_10 : m_D k_JS_isLatin1 10 (.ifCond .ne 7) 3 := (by decide +kernel : decode prog_17_method_154_code 10 = .ok (.ifCond .ne 7, 3))
theorem d_JS_isLatin1_13 : m_D k_JS_isLatin1 13 (.iconst 1) 1 := (by decide +kernel : decode prog_17_method_154_code 13 = .ok (.iconst 1, 1))
theorem d_JS_isLatin1_14 : m_D k_JS_isLatin1 14 (.goto 4) 3 := (by decide +kernel : decode prog_17_method_154_code 14 = .ok (.goto 4, 3))
theorem d_JS_isLatin1_17 : m_D k_JS_isLatin1 17 (.iconst 0) 1 := (by decide +kernel : decode prog_17_method_154_code 17 = .ok (.iconst 0, 1))
theorem d_JS_isLatin1_18 : m_D k_JS_isLatin1 18 (.ireturn) 1 := (by decide +kernel : decode prog_17_method_154_code 18 = .ok (.ireturn, 1))
theorem w_co_JL_charAt : Cond.code ⟨"java/lang/StringLatin1", "charAt", "([BI)C"⟩ prog_18_method_2_code 2 (Option.some Jvm.ClassFile.FieldType.char) ∈ m_tb := m_in (m_t3 (List.mem_of_getElem? (i := 111) rfl)) rfl
def k_JL_charAt : mKt := (⟨"java/lang/StringLatin1", "charAt", "([BI)C"⟩, prog_18_method_2_code, 2, (Option.some Jvm.ClassFile.FieldType.char), fun _ _ => True)
theorem w_st_JL_charAt : Cond.static ⟨"java/lang/StringLatin1", "charAt", "([BI)C"⟩ ∈ m_tb := m_in (m_t3 (List.mem_of_getElem? (i := 110) rfl)) rfl
theorem cs_JL_charAt : m_CS k_JL_charAt 2 := ⟨⟨w_co_JL_charAt, w_in_JL, by decide, Nat.le_of_ble_eq_true rfl, by decide, by decide, by decide +kernel, fun _ _ => trivial⟩, w_st_JL_charAt⟩
theorem d_JL_charAt_0 : m_D k_JL_charAt 0 (.iload_n 1) 1 := (by decide +kernel : decode prog_18_method_2_code 0 = .ok (.iload_n 1, 1))
theorem d_JL_charAt_1 : m_D k_JL_charAt 1 (.aload_n 0) 1 := (by decide +kernel : decode prog_18_method_2_code 1 = .ok (.aload_n 0, 1))
theorem d_JL_charAt_2 : m_D k_JL_charAt 2 (.arraylength) 1 := (by decide +kernel : decode prog_18_method_2_code 2 = .ok (.arraylength, 1))
theorem d_JL_charAt_3 : m_D k_JL_charAt 3 (.invokestatic 9) 3 := (by decide +kernel : decode prog_18_method_2_code 3 = .ok (.invokestatic 9, 3))
theorem d_JL_charAt_6 : m_D k_JL_charAt 6 (.aload_n 0) 1 := (by decide +kernel : decode prog_18_method_2_code 6 = .ok (.aload_n 0, 1))
theorem d_JL_charAt_7 : m_D k_JL_charAt 7 (.iload_n 1) 1 := (by decide +kernel : decode prog_18_method_2_code 7 = .ok (.iload_n 1, 1))
theorem d_JL_charAt_8 : m_D k_JL_charAt 8 (.baload) 1 := (by decide +kernel : decode prog_18_method_2_code 8 = .ok (.baload, 1))
theorem d_JL_charAt_9 : m_D k_JL_charAt 9 (.sipush 255) 3 := (by decide +kernel : decode prog_18_method_2_code 9 = .ok (.sipush 255, 3))
theorem d_JL_charAt_12 : m_D k_JL_charAt 12 (.iand) 1 := (by decide +kernel : decode prog_18_method_2_code 12 = .ok (.iand, 1))
theorem d_JL_charAt_13 : m_D k_JL_charAt 13 (.i2c) 1 := (by decide +kernel : decode prog_18_method_2_code 13 = .ok (.i2c, 1))
theorem d_JL_charAt_14 : m_D k_JL_charAt 14 (.ireturn) 1 := (by decide +kernel : decode prog_18_method_2_code 14 = .ok (.ireturn, 1))
theorem w_co_JS_checkIndex : Cond.code ⟨"java/lang/String", "checkIndex", "(II)V"⟩ prog_17_method_155_code 2 (Option.none : Option Jvm.ClassFile.FieldType) ∈ m_tb := m_in (m_t3 (List.mem_of_getElem? (i := 114) rfl)) rfl
def k_JS_checkIndex : mKt := (⟨"java/lang/String", "checkIndex", "(II)V"⟩, prog_17_method_155_code, 2, (Option.none : Option Jvm.ClassFile.FieldType), fun _ _ => True)
theorem w_st_JS_checkIndex : Cond.static ⟨"java/lang/String", "checkIndex", "(II)V"⟩ ∈ m_tb := m_in (m_t3 (List.mem_of_getElem? (i := 113) rfl)) rfl
theorem cs_JS_checkIndex : m_CS k_JS_checkIndex 2 := ⟨⟨w_co_JS_checkIndex, w_in_JS, by decide, Nat.le_of_ble_eq_true rfl, by decide, by decide, by decide +kernel, fun _ _ => trivial⟩, w_st_JS_checkIndex⟩
theorem d_JS_checkIndex_0 : m_D k_JS_checkIndex 0 (.iload_n 0) 1 := (by decide +kernel : decode prog_17_method_155_code 0 = .ok (.iload_n 0, 1))
theorem d_JS_checkIndex_1 : m_D k_JS_checkIndex 1 (.iload_n 1) 1 := (by decide +kernel : decode prog_17_method_155_code 1 = .ok (.iload_n 1, 1))
theorem d_JS_checkIndex_2 : m_D k_JS_checkIndex 2 (.getstatic 1053) 3 := (by decide +kernel : decode prog_17_method_155_code 2 = .ok (.getstatic 1053, 3))
theorem d_JS_checkIndex_5 : m_D k_JS_checkIndex 5 (.invokestatic 1059) 3 := (by decide +kernel : decode prog_17_method_155_code 5 = .ok (.invokestatic 1059, 3))
theorem d_JS_checkIndex_8 : m_D k_JS_checkIndex 8 (.pop) 1 := (by decide +kernel : decode prog_17_method_155_code 8 = .ok (.pop, 1))
theorem d_JS_checkIndex_9 : m_D k_JS_checkIndex 9 (.return_) 1 := (by decide +kernel : decode prog_17_method_155_code 9 = .ok (.return_, 1))
theorem w_co_JP_checkIndex : Cond.code ⟨"jdk/internal/util/Preconditions", "checkIndex", "(IILjava/util/function/BiFunction;)I"⟩ prog_22_method_11_code 3 (Option.some Jvm.ClassFile.FieldType.int) ∈ m_tb := m_in (m_t3 (List.mem_of_getElem? (i := 119) rfl)) rfl
def k_JP_checkIndex : mKt := (⟨"jdk/internal/util/Preconditions", "checkIndex", "(IILjava/util/function/BiFunction;)I"⟩, prog_22_method_11_code, 3, (Option.some Jvm.ClassFile.FieldType.int), fun _ _ => True)
theorem w_st_JP_checkIndex : Cond.static ⟨"jdk/internal/util/Preconditions", "checkIndex", "(IILjava/util/function/BiFunction;)I"⟩ ∈ m_tb := m_in (m_t3 (List.mem_of_getElem? (i := 118) rfl)) rfl
theorem cs_JP_checkIndex : m_CS k_JP_checkIndex 3 := ⟨⟨w_co_JP_checkIndex, w_in_JP, by decide, Nat.le_of_ble_eq_true rfl, by decide, by decide, by decide +kernel, fun _ _ => trivial⟩, w_st_JP_checkIndex⟩
theorem d_JP_checkIndex_0 : m_D k_JP_checkIndex 0 (.iload_n 0) 1 := (by decide +kernel : decode prog_22_method_11_code 0 = .ok (.iload_n 0, 1))
theorem d_JP_checkIndex_1 : m_D k_JP_checkIndex 1 (.ifCond .lt 8) 3 := (by decide +kernel : decode prog_22_method_11_code 1 = .ok (.ifCond .lt 8, 3))
theorem d_JP_checkIndex_4 : m_D k_JP_checkIndex 4 (.iload_n 0) 1 := (by decide +kernel : decode prog_22_method_11_code 4 = .ok (.iload_n 0, 1))
theorem d_JP_checkIndex_5 : m_D k_JP_checkIndex 5 (.iload_n 1) 1 := (by decide +kernel : decode prog_22_method_11_code 5 = .ok (.iload_n 1, 1))
theorem d_JP_checkIndex_6 : m_D k_JP_checkIndex 6 (.if_icmp .lt 10) 3 := (by decide +kernel : decode prog_22_method_11_code 6 = .ok (.if_icmp .lt 10, 3))
theorem d_JP_checkIndex_9 : m_D k_JP_checkIndex 9 (.aload_n 2) 1 := (by decide +kernel : decode prog_22_method_11_code 9 = .ok (.aload_n 2, 1))
theorem d_JP_checkIndex_10 : m_D k_JP_checkIndex 10 (.iload_n 0) 1 := (by decide +kernel : decode prog_22_method_11_code 10 = .ok (.iload_n 0, 1))
theorem d_JP_checkIndex_11 : m_D k_JP_checkIndex 11 (.iload_n 1) 1 := (by decide +kernel : decode prog_22_method_11_code 11 = .ok (.iload_n 1, 1))
theorem d_JP_checkIndex_12 : m_D k_JP_checkIndex 12 (.invokestatic 95) 3 := (by decide +kernel : decode prog_22_method_11_code 12 = .ok (.invokestatic 95, 3))
theorem d_JP_checkIndex_16 : m_D k_JP_checkIndex 16 (.iload_n 0) 1 := (by decide +kernel : decode prog_22_method_11_code 16 = .ok (.iload_n 0, 1))
theorem d_JP_checkIndex_17 : m_D k_JP_checkIndex 17 (.ireturn) 1 := (by decide +kernel : decode prog_22_method_11_code 17 = .ok (.ireturn, 1))
theorem w_ml_JS_335 : Cond.methodLink "java/lang/String" 335 ⟨"java/lang/String", "coder", "()B"⟩ ∈ m_tb := m_in (m_t3 (List.mem_of_getElem? (i := 95) rfl)) rfl
theorem w_fl_JS_38 : Cond.fieldLink "java/lang/String" 38 "java/lang/String" "COMPACT_STRINGS" "Z" ∈ m_tb := m_in (m_t3 (List.mem_of_getElem? (i := 99) rfl)) rfl
theorem w_ml_JS_492 : Cond.methodLink "java/lang/String" 492 ⟨"java/lang/String", "isLatin1", "()Z"⟩ ∈ m_tb := m_in (m_t3 (List.mem_of_getElem? (i := 105) rfl)) rfl
theorem w_ml_JS_495 : Cond.methodLink "java/lang/String" 495 ⟨"java/lang/StringLatin1", "charAt", "([BI)C"⟩ ∈ m_tb := m_in (m_t3 (List.mem_of_getElem? (i := 109) rfl)) rfl
theorem w_ml_JL_9 : Cond.methodLink "java/lang/StringLatin1" 9 ⟨"java/lang/String", "checkIndex", "(II)V"⟩ ∈ m_tb := m_in (m_t3 (List.mem_of_getElem? (i := 112) rfl)) rfl
theorem w_fl_JS_1053 : Cond.fieldLink "java/lang/String" 1053 "jdk/internal/util/Preconditions" "SIOOBE_FORMATTER" "Ljava/util/function/BiFunction;" ∈ m_tb := m_in (m_t3 (List.mem_of_getElem? (i := 115) rfl)) rfl
theorem w_ml_JS_1059 : Cond.methodLink "java/lang/String" 1059 ⟨"jdk/internal/util/Preconditions", "checkIndex", "(IILjava/util/function/BiFunction;)I"⟩ ∈ m_tb := m_in (m_t3 (List.mem_of_getElem? (i := 117) rfl)) rfl
theorem w_fl_JS_9 : Cond.fieldLink "java/lang/String" 9 "java/lang/String" "value" "[B" ∈ m_tb := m_in (m_t10 (List.mem_of_getElem? (i := 19) rfl)) rfl
theorem w_fl_JS_15 : Cond.fieldLink "java/lang/String" 15 "java/lang/String" "coder" "B" ∈ m_tb := m_in (m_t10 (List.mem_of_getElem? (i := 20) rfl)) rfl
/-- the length of a text -/
def m_sl (x : Option mA) : mP Int32 := fun μ => match x with
  | none => none
  | some a => if a.1 = 0 ∧ a.2.1 < m_nS ∧ a.2.2 = 0 then some (Int32.ofNat (m_sb.getD a.2.1 []).length, μ) else none
/-- its sign at a place -/
def m_sch (x : Option mA) (i : Int32) : mP Int32 := fun μ => match x with
  | none => none
  | some a => if a.1 = 0 ∧ a.2.1 < m_nS ∧ a.2.2 = 0 ∧ ¬ (i < 0 ∨ (m_sb.getD a.2.1 []).length ≤ i.toNatClampNeg) then some ((m_sb.getD a.2.1 []).getD i.toNatClampNeg 0, μ) else none
section STR
variable {k : mKt} {d mc ms : Nat} {α β : Type} {pc pc' idx : Nat} {L : List (Nat × mV)} {st S : List mV} {post : α → mC} {T : mP α} {j : Nat}
theorem sm_gsC (hd : m_D k pc (.getstatic idx) 3) (hp : pc + 3 = pc') (hl : Cond.fieldLink k.1.cls idx "java/lang/String" "COMPACT_STRINGS" "Z" ∈ m_tb) (h : m_Sim k d mc ms (.inl (pc', L, .inl 1 :: st)) T post) : m_Sim k d mc ms (.inl (pc, L, st)) T post := by
  subst hp
  refine m_step (fun w p l e R s m args below meth c cells slots Q C hcl hsl μ hk H locs ls a1 a2 a3 => ?_) h
  obtain ⟨hx, hb, hml, hown, hts, hr, hlk, hnm, hK, hf, hlo, hga⟩ := C
  obtain ⟨cf, kf, fi, f, a, cell, h1, h2, h3, h4, h5, h6, h7, h8⟩ := hK.2.2.2.2.2.1.kept a2.2.1
  exact W.gets hx hb hown (hts _ hl) h1 h2 h3 h4 h5 (fun e => by rw [e] at h6; cases h6) h7 rfl hd (hk H locs ls a1 a2 a3)
theorem sm_gsF (hd : m_D k pc (.getstatic idx) 3) (hp : pc + 3 = pc') (hl : Cond.fieldLink k.1.cls idx "jdk/internal/util/Preconditions" "SIOOBE_FORMATTER" "Ljava/util/function/BiFunction;" ∈ m_tb) (h : ∀ x : Option mA, m_Sim k d mc ms (.inl (pc', L, .inr (.inr x) :: st)) T post) : m_Sim k d mc ms (.inl (pc, L, st)) T post := by
  subst hp
  intro w p l e R s m args below meth c cells slots Q C hc hs μ a μ' hT hk H locs ls a1 a2 a3
  obtain ⟨hx, hb, hml, hown, hts, hr, hlk, hnm, hK, hf, hlo, hga⟩ := id C
  rcases hK.2.2.2.2.2.2 with hz | ⟨t, hz⟩
  · obtain ⟨cf, kf, fi, f, a0, cell, h1, h2, h3, h4, h5, h6, h7, h8⟩ := hz.kept a2.2.1
    exact W.gets hx hb hown (hts _ hl) h1 h2 h3 h4 h5 (fun e => by rw [e] at h6; cases h6) h7 rfl hd (h none w p l e R s m args below meth c cells slots Q C hc hs μ a μ' hT hk H locs ls a1 a2 a3)
  · obtain ⟨cf, kf, fi, f, a0, cell, h1, h2, h3, h4, h5, h6, h7, h8⟩ := hz.kept a2.2.1
    exact W.gets hx hb hown (hts _ hl) h1 h2 h3 h4 h5 (fun e => by rw [e] at h6; cases h6) h7 rfl hd (h (some (0, t, 2)) w p l e R s m args below meth c cells slots Q C hc hs μ a μ' hT hk H locs ls a1 a2 a3)
theorem sm_gfV (hd : m_D k pc (.getfield idx) 3) (hp : pc + 3 = pc') (hl : Cond.fieldLink k.1.cls idx "java/lang/String" "value" "[B" ∈ m_tb) (hj : j < m_nS) (h : m_Sim k d mc ms (.inl (pc', L, .inr (.inr (some (0, j, 1))) :: st)) T post) : m_Sim k d mc ms (.inl (pc, L, .inr (.inr (some (0, j, 0))) :: st)) T post := by
  subst hp
  refine m_step (fun w p l e R s m args below meth c cells slots Q C hcl hsl μ hk H locs ls a1 a2 a3 => ?_) h
  obtain ⟨hx, hb, hml, hown, hts, hr, hlk, hnm, hK, hf, hlo, hga⟩ := C
  obtain ⟨cf, k0, fi, f, cell, h1, h2, h3, h4, h5, h6⟩ := (hK.2.2.2.2.1 j hj).2.2.1.kept a2.2.1
  exact W.getf (g := F0 m pc ls (.ref (w.2.2.2.2.1 j) :: m_T w st)) hx hb hown (hts _ hl) h1 h2 h3 h4 h5 rfl rfl hd (hk H locs ls a1 a2 a3)
theorem sm_gfC (hd : m_D k pc (.getfield idx) 3) (hp : pc + 3 = pc') (hl : Cond.fieldLink k.1.cls idx "java/lang/String" "coder" "B" ∈ m_tb) (hj : j < m_nS) (h : m_Sim k d mc ms (.inl (pc', L, .inl 0 :: st)) T post) : m_Sim k d mc ms (.inl (pc, L, .inr (.inr (some (0, j, 0))) :: st)) T post := by
  subst hp
  refine m_step (fun w p l e R s m args below meth c cells slots Q C hcl hsl μ hk H locs ls a1 a2 a3 => ?_) h
  obtain ⟨hx, hb, hml, hown, hts, hr, hlk, hnm, hK, hf, hlo, hga⟩ := C
  obtain ⟨cf, k0, fi, f, cell, h1, h2, h3, h4, h5, h6⟩ := (hK.2.2.2.2.1 j hj).2.1.kept a2.2.1
  exact W.getf (g := F0 m pc ls (.ref (w.2.2.2.2.1 j) :: m_T w st)) hx hb hown (hts _ hl) h1 h2 h3 h4 h5 rfl rfl hd (hk H locs ls a1 a2 a3)
theorem sm_sln (hd : m_D k pc .arraylength 1) (hp : pc + 1 = pc') (hj : j < m_nS) (h : m_Sim k d mc ms (.inl (pc', L, .inl (Int32.ofNat (m_sb.getD j []).length) :: st)) T post) : m_Sim k d mc ms (.inl (pc, L, .inr (.inr (some (0, j, 1))) :: st)) T post := by
  subst hp
  refine m_step (fun w p l e R s m args below meth c cells slots Q C hcl hsl μ hk H locs ls a1 a2 a3 => ?_) h
  obtain ⟨hx, hb, hml, hown, hts, hr, hlk, hnm, hK, hf, hlo, hga⟩ := C
  obtain ⟨cell, h1, h2, h3, h4, h5, h6, h7⟩ := (hK.2.2.2.2.1 j hj).2.2.2.kept a2.2.1
  exact W.alen (g := F0 m pc ls (.ref (w.2.2.2.2.2 j) :: m_T w st)) (n := Int32.ofNat (m_sb.getD j []).length) hx hb h1 h2 h5 rfl rfl hd (hk H locs ls a1 a2 a3)
theorem sm_sbl {i : Int32} (hd : m_D k pc .baload 1) (hp : pc + 1 = pc') (hj : j < m_nS) (hin : ¬ (i < 0 ∨ (m_sb.getD j []).length ≤ i.toNatClampNeg)) (h : m_Sim k d mc ms (.inl (pc', L, .inl ((m_sb.getD j []).getD i.toNatClampNeg 0) :: st)) T post) : m_Sim k d mc ms (.inl (pc, L, .inl i :: .inr (.inr (some (0, j, 1))) :: st)) T post := by
  subst hp
  refine m_step (fun w p l e R s m args below meth c cells slots Q C hcl hsl μ hk H locs ls a1 a2 a3 => ?_) h
  obtain ⟨hx, hb, hml, hown, hts, hr, hlk, hnm, hK, hf, hlo, hga⟩ := C
  obtain ⟨cell, h1, h2, h3, h4, h5, h6, h7⟩ := (hK.2.2.2.2.1 j hj).2.2.2.kept a2.2.1
  have hlt : i.toNatClampNeg < (m_sb.getD j []).length := Nat.not_le.mp fun q => hin (Or.inr q)
  have hin' : ¬ (i < 0 ∨ cell.slots.size ≤ i.toNatClampNeg) := by
    intro q
    rcases q with q | q
    · exact hin (Or.inl q)
    · omega
  exact W.bald (g := F0 m pc ls (.int i :: .ref (w.2.2.2.2.2 j) :: m_T w st)) (v := .int ((m_sb.getD j []).getD i.toNatClampNeg 0)) hx hb h1 h2 h3 hin' (by rw [h6 _ hlt]) rfl rfl hd (hk H locs ls a1 a2 a3)
/-- a method of a constant is called -/
theorem sm_callS0 {kc : mKt} {dc n : Nat} {av : List mV} {Tc : mP β} {rv : β → Option mV} {f : β → mP α} (hd : m_D k pc (.invokevirtual idx) 3) (hp : pc + 3 = pc') (hj : j < m_nS) (hM : m_Sm kc dc 0 0 (.inr (.inr (some (0, j, 0))) :: av) Tc rv) (hcl : kc.1.cls = "java/lang/String") (hB : m_CV kc n) (hl : Cond.methodLink k.1.cls idx kc.1 ∈ m_tb) (hS : S = av.reverse ++ .inr (.inr (some (0, j, 0))) :: st) (hn : av.length = n) (hdd : dc + 1 ≤ d) (hw : m_wd st ≤ 8) (h : ∀ b, m_Sim k d mc ms (.inl (pc', L, (rv b).toList ++ st)) (f b) post) : m_Sim k d mc ms (.inl (pc, L, S)) (m_bd Tc f) post := by
  subst hp; subst hS
  intro w p l e R s m args below meth c cells slots Q C hc hs μ a μ' hT hk H locs ls a1 a2 a3
  obtain ⟨hx, hb, hml, hown, hts, hr, hlk, hnm, hK, hf, hlo, hga⟩ := id C
  obtain ⟨b, μ1, e1, e2⟩ := m_bd_some hT
  obtain ⟨cell, r1, r2, r3, r4⟩ := (hK.2.2.2.2.1 j hj).1.kept a2.2.1
  rw [← hcl] at r3
  have hrun := va_runV (l := l) (e := e) (below := below) (meth := meth) (locs := locs) (cells := cells) (slots := slots) (As := m_T w av) (rest := m_T w st) (b := w.2.2.2.2.1 j) (C := kc.1.cls) (H := H) (g := F0 m pc ls (m_T w (av.reverse ++ .inr (.inr (some (0, j, 0))) :: st))) ⟨hx, hb, hml, hown, hts⟩ (m_met hM hB.1.2.2.1 hB.1.2.2.2.2.2.2.2 l w e1) ⟨m_cb (R := R) hB.1 hts hl (by omega) (by omega), hts _ hB.2.1, hts _ hB.2.2⟩
    ⟨m_blind w _ μ, ⟨cell, r1, r2, r3⟩, fun U hU hW => ⟨rfl, by rw [hU]; exact a1, m_K.warm hW hK, by rw [hU]; exact m_S0 a2⟩⟩ rfl (by rw [m_T, List.length_map]; exact hn) a3.1 (by show m_T w (av.reverse ++ .inr (.inr (some (0, j, 0))) :: st) = (m_T w av).reverse ++ .ref (w.2.2.2.2.1 j) :: m_T w st; simp [m_T, m_val, va_rf, m_rho]) (lv_room (by rw [m_wd_cat]; exact hw)) hd ⟨by omega, by omega⟩
  refine m_cont (k := k) hrun rfl a2 a3 ?_
  exact h b w p l e R s m args below meth c cells slots Q C hc hs μ1 a μ' e2 hk
end STR
theorem m_getD_mem {l : List Int32} {n : Nat} (h : n < l.length) : l.getD n 0 ∈ l := by
  rw [List.getD_eq_getElem?_getD, List.getElem?_eq_getElem h]
  exact List.getElem_mem _
theorem m_sb_all : ∀ j, j < m_nS → (m_sb.getD j []).length < 32 ∧ ∀ b ∈ m_sb.getD j [], ((b &&& 255).toUInt32 % 65536).toInt32 = b ∧ narrow .char (.int b) = .int b := by decide +kernel
theorem m_sb_len : ∀ j, j < m_nS → Int32.ofNat (m_sb.getD j []).length >>> ((0 : Int32) &&& 31) = Int32.ofNat (m_sb.getD j []).length := by decide +kernel
theorem sd_JS_coder (j : Nat) (hj : j < m_nS) : m_Sm k_JS_coder 1 0 0 [.inr (.inr (some (0, j, 0)))] (m_rt 0) (fun b => some (.inl b)) := by
  refine ⟨Nat.le_of_ble_eq_true rfl, ?_⟩
  refine sm_gsC (pc' := 3) d_JS_coder_0 rfl w_fl_JS_38 ?_
  refine sm_if_eq_f (tgt := 13) (pc' := 6) d_JS_coder_3 rfl rfl (by decide) ?_
  refine sm_aload_n (i := 0) (j := 0) (pc' := 7) d_JS_coder_6 rfl rfl rfl ?_
  refine sm_gfC (pc' := 10) d_JS_coder_7 rfl w_fl_JS_15 hj ?_
  refine sm_goto (tgt := 14) d_JS_coder_10 rfl ?_
  exact sm_nreturn d_JS_coder_14 rfl rfl rfl
theorem sd_JS_isLatin1 (j : Nat) (hj : j < m_nS) : m_Sm k_JS_isLatin1 1 0 0 [.inr (.inr (some (0, j, 0)))] (m_rt 1) (fun b => some (.inl b)) := by
  refine ⟨Nat.le_of_ble_eq_true rfl, ?_⟩
  refine sm_gsC (pc' := 3) d_JS_isLatin1_0 rfl w_fl_JS_38 ?_
  refine sm_if_eq_f (tgt := 17) (pc' := 6) d_JS_isLatin1_3 rfl rfl (by decide) ?_
  refine sm_aload_n (i := 0) (j := 0) (pc' := 7) d_JS_isLatin1_6 rfl rfl rfl ?_
  refine sm_gfC (pc' := 10) d_JS_isLatin1_7 rfl w_fl_JS_15 hj ?_
  refine sm_if_ne_f (tgt := 17) (pc' := 13) d_JS_isLatin1_10 rfl rfl rfl ?_
  refine sm_iconst (pc' := 14) d_JS_isLatin1_13 rfl ic_1 ?_
  refine sm_goto (tgt := 18) d_JS_isLatin1_14 rfl ?_
  exact sm_zreturn d_JS_isLatin1_18 rfl (Or.inr rfl) rfl
theorem sd_JS_length (j : Nat) (hj : j < m_nS) : m_Sm k_JS_length 2 0 0 [.inr (.inr (some (0, j, 0)))] (m_bd (m_rt (0 : Int32)) (fun b => if b = 0 then m_rt (Int32.ofNat (m_sb.getD j []).length) else m_fl)) (fun b => some (.inl b)) := by
  refine ⟨Nat.le_of_ble_eq_true rfl, ?_⟩
  refine sm_aload_n (i := 0) (j := 0) (pc' := 1) d_JS_length_0 rfl rfl rfl ?_
  refine sm_gfV (pc' := 4) d_JS_length_1 rfl w_fl_JS_9 hj ?_
  refine sm_sln (pc' := 5) d_JS_length_4 rfl hj ?_
  refine sm_aload_n (i := 0) (j := 0) (pc' := 6) d_JS_length_5 rfl rfl rfl ?_
  refine sm_callS0 (av := []) (pc' := 9) d_JS_length_6 rfl hj (sd_JS_coder j hj) rfl cv_JS_coder w_ml_JS_335 rfl rfl (by decide) (Nat.le_of_ble_eq_true rfl) (fun b => ?_)
  refine sm_ite (fun hb => ?_) (fun _ => sm_fl)
  subst hb
  refine sm_ishr (pc' := 10) d_JS_length_9 rfl ?_
  rw [m_sb_len j hj]
  exact sm_ireturn d_JS_length_10 rfl rfl
theorem sd_JP_checkIndex (x0 x1 : Int32) (x2 : Option mA) (h0 : ¬ x0 < 0) (h1 : x0 < x1) : m_Sm k_JP_checkIndex 1 0 0 [.inl x0, .inl x1, .inr (.inr x2)] (m_rt x0) (fun b => some (.inl b)) := by
  refine ⟨Nat.le_of_ble_eq_true rfl, ?_⟩
  refine sm_iload_n (i := 0) (j := 0) (pc' := 1) d_JP_checkIndex_0 rfl rfl rfl ?_
  refine sm_if_lt_f (tgt := 9) (pc' := 4) d_JP_checkIndex_1 rfl rfl h0 ?_
  refine sm_iload_n (i := 0) (j := 0) (pc' := 5) d_JP_checkIndex_4 rfl rfl rfl ?_
  refine sm_iload_n (i := 1) (j := 1) (pc' := 6) d_JP_checkIndex_5 rfl rfl rfl ?_
  refine sm_icmp_lt_t (tgt := 16) d_JP_checkIndex_6 rfl h1 ?_
  refine sm_iload_n (i := 0) (j := 0) (pc' := 17) d_JP_checkIndex_16 rfl rfl rfl ?_
  exact sm_ireturn d_JP_checkIndex_17 rfl rfl
theorem sd_JS_checkIndex (x0 x1 : Int32) (h0 : ¬ x0 < 0) (h1 : x0 < x1) : m_Sm k_JS_checkIndex 2 0 0 [.inl x0, .inl x1] (m_bd (m_rt x0) (fun _ => m_rt ())) (fun _ => none) := by
  refine ⟨Nat.le_of_ble_eq_true rfl, ?_⟩
  refine sm_iload_n (i := 0) (j := 0) (pc' := 1) d_JS_checkIndex_0 rfl rfl rfl ?_
  refine sm_iload_n (i := 1) (j := 1) (pc' := 2) d_JS_checkIndex_1 rfl rfl rfl ?_
  refine sm_gsF (pc' := 5) d_JS_checkIndex_2 rfl w_fl_JS_1053 (fun x2 => ?_)
  refine sm_callSi (av := [.inl x0, .inl x1, .inr (.inr x2)]) (st := []) (mc := 0) (ms := 0) (pc' := 8) d_JS_checkIndex_5 rfl (sd_JP_checkIndex x0 x1 x2 h0 h1) cs_JP_checkIndex w_ml_JS_1059 rfl rfl (by decide) (Nat.le_of_ble_eq_true rfl) rfl rfl (fun b => ?_)
  refine sm_pop (pc' := 9) d_JS_checkIndex_8 rfl rfl ?_
  exact sm_return d_JS_checkIndex_9 rfl rfl
theorem sd_JL_charAt (j : Nat) (hj : j < m_nS) (i : Int32) (hin : ¬ (i < 0 ∨ (m_sb.getD j []).length ≤ i.toNatClampNeg)) : m_Sm k_JL_charAt 3 0 0 [.inr (.inr (some (0, j, 1))), .inl i] (m_bd (m_bd (m_rt i) (fun _ => m_rt ())) (fun _ => m_rt ((m_sb.getD j []).getD i.toNatClampNeg 0))) (fun b => some (.inl b)) := by
  have hlt : i.toNatClampNeg < (m_sb.getD j []).length := Nat.not_le.mp fun q => hin (Or.inr q)
  have h0 : ¬ i < 0 := fun q => hin (Or.inl q)
  have hl32 := (m_sb_all j hj).1
  have h1 : i < Int32.ofNat (m_sb.getD j []).length := by
    obtain ⟨n, hn, rfl⟩ := nI_of h0
    rw [nI_clamp hn] at hlt
    exact nI_lt hlt (by omega)
  have hb := (m_sb_all j hj).2 ((m_sb.getD j []).getD i.toNatClampNeg 0) (m_getD_mem hlt)
  refine ⟨Nat.le_of_ble_eq_true rfl, ?_⟩
  refine sm_iload_n (i := 1) (j := 1) (pc' := 1) d_JL_charAt_0 rfl rfl rfl ?_
  refine sm_aload_n (i := 0) (j := 0) (pc' := 2) d_JL_charAt_1 rfl rfl rfl ?_
  refine sm_sln (pc' := 3) d_JL_charAt_2 rfl hj ?_
  refine sm_callSv (av := [.inl i, .inl (Int32.ofNat (m_sb.getD j []).length)]) (st := []) (mc := 0) (ms := 0) (pc' := 6) d_JL_charAt_3 rfl (sd_JS_checkIndex i _ h0 h1) cs_JS_checkIndex w_ml_JL_9 rfl rfl (by decide) (Nat.le_of_ble_eq_true rfl) rfl rfl ?_
  refine sm_aload_n (i := 0) (j := 0) (pc' := 7) d_JL_charAt_6 rfl rfl rfl ?_
  refine sm_iload_n (i := 1) (j := 1) (pc' := 8) d_JL_charAt_7 rfl rfl rfl ?_
  refine sm_sbl (pc' := 9) d_JL_charAt_8 rfl hj hin ?_
  refine sm_sipush (v := 255) (pc' := 12) d_JL_charAt_9 rfl (by decide) ?_
  refine sm_iand (pc' := 13) d_JL_charAt_12 rfl ?_
  refine sm_i2c (v := (m_sb.getD j []).getD i.toNatClampNeg 0) (pc' := 14) d_JL_charAt_13 rfl hb.1 ?_
  exact sm_nreturn d_JL_charAt_14 rfl hb.2 rfl
theorem sd_JS_charAt (j : Nat) (hj : j < m_nS) (i : Int32) (hin : ¬ (i < 0 ∨ (m_sb.getD j []).length ≤ i.toNatClampNeg)) : m_Sm k_JS_charAt 4 0 0 [.inr (.inr (some (0, j, 0))), .inl i] (m_bd (m_rt (1 : Int32)) (fun b => if b = 0 then m_fl else m_bd (m_bd (m_bd (m_rt i) (fun _ => m_rt ())) (fun _ => m_rt ((m_sb.getD j []).getD i.toNatClampNeg 0))) (fun v => if v = (m_sb.getD j []).getD i.toNatClampNeg 0 then m_rt v else m_fl))) (fun b => some (.inl b)) := by
  have hlt : i.toNatClampNeg < (m_sb.getD j []).length := Nat.not_le.mp fun q => hin (Or.inr q)
  have hb := (m_sb_all j hj).2 ((m_sb.getD j []).getD i.toNatClampNeg 0) (m_getD_mem hlt)
  refine ⟨Nat.le_of_ble_eq_true rfl, ?_⟩
  refine sm_aload_n (i := 0) (j := 0) (pc' := 1) d_JS_charAt_0 rfl rfl rfl ?_
  refine sm_callS0 (av := []) (pc' := 4) d_JS_charAt_1 rfl hj (sd_JS_isLatin1 j hj) rfl cv_JS_isLatin1 w_ml_JS_492 rfl rfl (by decide) (Nat.le_of_ble_eq_true rfl) (fun b => ?_)
  refine sm_if_eq (tgt := 16) (pc' := 7) d_JS_charAt_4 rfl rfl sm_fl ?_
  refine sm_aload_n (i := 0) (j := 0) (pc' := 8) d_JS_charAt_7 rfl rfl rfl ?_
  refine sm_gfV (pc' := 11) d_JS_charAt_8 rfl w_fl_JS_9 hj ?_
  refine sm_iload_n (i := 1) (j := 1) (pc' := 12) d_JS_charAt_11 rfl rfl rfl ?_
  refine sm_callSi (av := [.inr (.inr (some (0, j, 1))), .inl i]) (st := []) (mc := 0) (ms := 0) (pc' := 15) d_JS_charAt_12 rfl (sd_JL_charAt j hj i hin) cs_JL_charAt w_ml_JS_495 rfl rfl (by decide) (Nat.le_of_ble_eq_true rfl) rfl rfl (fun v => ?_)
  refine sm_ite (fun hv => ?_) (fun _ => sm_fl)
  exact sm_nreturn d_JS_charAt_15 rfl (by rw [hv]; exact hb.2) rfl
theorem sm_strlen {k : mKt} {d mc ms : Nat} {α : Type} {pc pc' idx : Nat} {L : List (Nat × mV)} {st : List mV} {post : α → mC} {x : Option mA} {f : Int32 → mP α} (hd : m_D k pc (.invokevirtual idx) 3) (hp : pc + 3 = pc') (hl : Cond.methodLink k.1.cls idx ⟨"java/lang/String", "length", "()I"⟩ ∈ m_tb) (hdd : 6 ≤ d) (hw : m_wd st ≤ 8) (h : ∀ b, m_Sim k d mc ms (.inl (pc', L, .inl b :: st)) (f b) post) : m_Sim k d mc ms (.inl (pc, L, .inr (.inr x) :: st)) (m_bd (m_sl x) f) post := by
  intro w p l e R s m args below meth c cells slots Q C hc hs μ a μ' hT hk
  obtain ⟨b, μ1, e1, e2⟩ := m_bd_some hT
  unfold m_sl at e1
  split at e1
  next => cases e1
  next y =>
    split at e1
    next hy =>
      obtain ⟨y0, j, y2⟩ := y
      obtain ⟨rfl, hj, rfl⟩ := hy
      cases e1
      exact sm_callS0 (av := []) hd hp hj (sd_JS_length j hj) rfl cv_JS_length hl rfl rfl (by omega) hw h w p l e R s m args below meth c cells slots Q C hc hs μ a μ' e2 hk
    next => cases e1
theorem sm_strchr {k : mKt} {d mc ms : Nat} {α : Type} {pc pc' idx : Nat} {L : List (Nat × mV)} {st : List mV} {post : α → mC} {x : Option mA} {i : Int32} {f : Int32 → mP α} (hd : m_D k pc (.invokevirtual idx) 3) (hp : pc + 3 = pc') (hl : Cond.methodLink k.1.cls idx ⟨"java/lang/String", "charAt", "(I)C"⟩ ∈ m_tb) (hdd : 6 ≤ d) (hw : m_wd st ≤ 8) (h : ∀ b, m_Sim k d mc ms (.inl (pc', L, .inl b :: st)) (f b) post) : m_Sim k d mc ms (.inl (pc, L, .inl i :: .inr (.inr x) :: st)) (m_bd (m_sch x i) f) post := by
  intro w p l e R s m args below meth c cells slots Q C hc hs μ a μ' hT hk
  obtain ⟨b, μ1, e1, e2⟩ := m_bd_some hT
  unfold m_sch at e1
  split at e1
  next => cases e1
  next y =>
    split at e1
    next hy =>
      obtain ⟨y0, j, y2⟩ := y
      obtain ⟨rfl, hj, rfl, hin⟩ := hy
      cases e1
      refine sm_callS0 (av := [.inl i]) hd hp hj (sd_JS_charAt j hj i hin) rfl cv_JS_charAt hl rfl rfl (by omega) hw h w p l e R s m args below meth c cells slots Q C hc hs μ a μ' ?_ hk
      show m_bd _ f μ = _
      simp only [m_bd, m_rt]
      rw [if_neg (by decide)]
      simp only [m_bd, m_rt, if_pos]
      exact e2
    next => cases e1
