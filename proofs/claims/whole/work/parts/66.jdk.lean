theorem wF_Str_38 : GoodIn lw_tbl [Cond.fieldLink "java/lang/String" 38 "java/lang/String" "COMPACT_STRINGS" "Z"] := goodIn_r _ [479] (by decide +kernel) (by decide +kernel)
theorem wF_Str_1053 : GoodIn lw_tbl [Cond.fieldLink "java/lang/String" 1053 "jdk/internal/util/Preconditions" "SIOOBE_FORMATTER" "Ljava/util/function/BiFunction;"] := goodIn_r _ [520] (by decide +kernel) (by decide +kernel)
theorem wF_Str_15 : GoodIn lw_tbl [Cond.fieldLink "java/lang/String" 15 "java/lang/String" "coder" "B"] := goodIn_r _ [1294] (by decide +kernel) (by decide +kernel)
theorem wF_Str_9 : GoodIn lw_tbl [Cond.fieldLink "java/lang/String" 9 "java/lang/String" "value" "[B"] := goodIn_r _ [1295] (by decide +kernel) (by decide +kernel)
theorem wM_Str_335 : GoodIn lw_tbl [Cond.methodLink "java/lang/String" 335 ⟨"java/lang/String", "coder", "()B"⟩, .instanceMethod ⟨"java/lang/String", "coder", "()B"⟩, .selects "java/lang/String" ⟨"java/lang/String", "coder", "()B"⟩ ⟨"java/lang/String", "coder", "()B"⟩] := goodIn_r _ [485, 486, 487] (by decide +kernel) (by decide +kernel)
theorem wM_Str_492 : GoodIn lw_tbl [Cond.methodLink "java/lang/String" 492 ⟨"java/lang/String", "isLatin1", "()Z"⟩, .instanceMethod ⟨"java/lang/String", "isLatin1", "()Z"⟩, .selects "java/lang/String" ⟨"java/lang/String", "isLatin1", "()Z"⟩ ⟨"java/lang/String", "isLatin1", "()Z"⟩] := goodIn_r _ [475, 476, 477] (by decide +kernel) (by decide +kernel)
theorem wM_Str_495 : GoodIn lw_tbl [Cond.methodLink "java/lang/String" 495 ⟨"java/lang/StringLatin1", "charAt", "([BI)C"⟩, .static ⟨"java/lang/StringLatin1", "charAt", "([BI)C"⟩, .initialized "java/lang/StringLatin1"] := goodIn_r _ [602, 603, 55] (by decide +kernel) (by decide +kernel)
theorem wM_Str_498 : GoodIn lw_tbl [Cond.methodLink "java/lang/String" 498 ⟨"java/lang/StringUTF16", "charAt", "([BI)C"⟩, .static ⟨"java/lang/StringUTF16", "charAt", "([BI)C"⟩, .initialized "java/lang/StringUTF16"] := goodIn_r _ [611, 612, 56] (by decide +kernel) (by decide +kernel)
theorem wM_Str_505 : GoodIn lw_tbl [Cond.methodLink "java/lang/String" 505 ⟨"java/lang/String", "length", "()I"⟩, .instanceMethod ⟨"java/lang/String", "length", "()I"⟩, .selects "java/lang/String" ⟨"java/lang/String", "length", "()I"⟩ ⟨"java/lang/String", "length", "()I"⟩] := goodIn_r _ [481, 482, 483] (by decide +kernel) (by decide +kernel)
theorem wM_Str_633 : GoodIn lw_tbl [Cond.methodLink "java/lang/String" 633 ⟨"java/lang/String", "indexOf", "(II)I"⟩, .instanceMethod ⟨"java/lang/String", "indexOf", "(II)I"⟩, .selects "java/lang/String" ⟨"java/lang/String", "indexOf", "(II)I"⟩ ⟨"java/lang/String", "indexOf", "(II)I"⟩] := goodIn_r _ [471, 472, 473] (by decide +kernel) (by decide +kernel)
theorem wM_Str_637 : GoodIn lw_tbl [Cond.methodLink "java/lang/String" 637 ⟨"java/lang/StringLatin1", "indexOf", "([BIII)I"⟩, .static ⟨"java/lang/StringLatin1", "indexOf", "([BIII)I"⟩, .initialized "java/lang/StringLatin1"] := goodIn_r _ [489, 490, 55] (by decide +kernel) (by decide +kernel)
theorem wM_Str_640 : GoodIn lw_tbl [Cond.methodLink "java/lang/String" 640 ⟨"java/lang/StringUTF16", "indexOf", "([BIII)I"⟩, .static ⟨"java/lang/StringUTF16", "indexOf", "([BIII)I"⟩, .initialized "java/lang/StringUTF16"] := goodIn_r _ [502, 503, 56] (by decide +kernel) (by decide +kernel)
theorem wM_Str_1059 : GoodIn lw_tbl [Cond.methodLink "java/lang/String" 1059 ⟨"jdk/internal/util/Preconditions", "checkIndex", "(IILjava/util/function/BiFunction;)I"⟩, .static ⟨"jdk/internal/util/Preconditions", "checkIndex", "(IILjava/util/function/BiFunction;)I"⟩, .initialized "jdk/internal/util/Preconditions"] := goodIn_r _ [608, 609, 57] (by decide +kernel) (by decide +kernel)
theorem wM_Lat_9 : GoodIn lw_tbl [Cond.methodLink "java/lang/StringLatin1" 9 ⟨"java/lang/String", "checkIndex", "(II)V"⟩, .static ⟨"java/lang/String", "checkIndex", "(II)V"⟩, .initialized "java/lang/String"] := goodIn_r _ [605, 606, 54] (by decide +kernel) (by decide +kernel)
theorem wM_Lat_38 : GoodIn lw_tbl [Cond.methodLink "java/lang/StringLatin1" 38 ⟨"java/lang/Math", "min", "(II)I"⟩, .static ⟨"java/lang/Math", "min", "(II)I"⟩, .initialized "java/lang/Math"] := goodIn_r _ [496, 497, 51] (by decide +kernel) (by decide +kernel)
theorem wM_Lat_88 : GoodIn lw_tbl [Cond.methodLink "java/lang/StringLatin1" 88 ⟨"java/lang/StringLatin1", "canEncode", "(I)Z"⟩, .static ⟨"java/lang/StringLatin1", "canEncode", "(I)Z"⟩, .initialized "java/lang/StringLatin1"] := goodIn_r _ [492, 493, 55] (by decide +kernel) (by decide +kernel)
theorem wM_Lat_92 : GoodIn lw_tbl [Cond.methodLink "java/lang/StringLatin1" 92 ⟨"java/lang/Math", "max", "(II)I"⟩, .static ⟨"java/lang/Math", "max", "(II)I"⟩, .initialized "java/lang/Math"] := goodIn_r _ [495, 286, 51] (by decide +kernel) (by decide +kernel)
theorem wM_Lat_95 : GoodIn lw_tbl [Cond.methodLink "java/lang/StringLatin1" 95 ⟨"java/lang/StringLatin1", "indexOfChar", "([BIII)I"⟩, .static ⟨"java/lang/StringLatin1", "indexOfChar", "([BIII)I"⟩, .initialized "java/lang/StringLatin1"] := goodIn_r _ [499, 500, 55] (by decide +kernel) (by decide +kernel)
theorem wM_Arr_150 : GoodIn lw_tbl [Cond.methodLink "java/util/Arrays" 150 ⟨"java/lang/System", "arraycopy", "(Ljava/lang/Object;ILjava/lang/Object;II)V"⟩, .static ⟨"java/lang/System", "arraycopy", "(Ljava/lang/Object;ILjava/lang/Object;II)V"⟩, .initialized "java/lang/System"] := goodIn_r _ [643, 644, 60] (by decide +kernel) (by decide +kernel)
theorem wM_Arr_304 : GoodIn lw_tbl [Cond.methodLink "java/util/Arrays" 304 ⟨"java/lang/Math", "min", "(II)I"⟩, .static ⟨"java/lang/Math", "min", "(II)I"⟩, .initialized "java/lang/Math"] := goodIn_r _ [642, 497, 51] (by decide +kernel) (by decide +kernel)
abbrev b_String_isLatin1 : ByteArray := prog_21_method_154_code
def m_String_isLatin1 : Mi := (⟨"java/lang/String", "isLatin1", "()Z"⟩, b_String_isLatin1, 1, (some .boolean), [])
theorem d_String_isLatin1_0 : decode (mB m_String_isLatin1) 0 = .ok (.getstatic 38, 3) := by decide +kernel
theorem d_String_isLatin1_3 : decode (mB m_String_isLatin1) 3 = .ok (.ifCond .eq 14, 3) := by decide +kernel
theorem d_String_isLatin1_6 : decode (mB m_String_isLatin1) 6 = .ok (.aload_n 0, 1) := by decide +kernel
theorem d_String_isLatin1_7 : decode (mB m_String_isLatin1) 7 = .ok (.getfield 15, 3) := by decide +kernel
theorem d_String_isLatin1_10 : decode (mB m_String_isLatin1) 10 = .ok (.ifCond .ne 7, 3) := by decide +kernel
theorem d_String_isLatin1_13 : decode (mB m_String_isLatin1) 13 = .ok (.iconst 1, 1) := by decide +kernel
theorem d_String_isLatin1_14 : decode (mB m_String_isLatin1) 14 = .ok (.goto 4, 3) := by decide +kernel
theorem d_String_isLatin1_17 : decode (mB m_String_isLatin1) 17 = .ok (.iconst 0, 1) := by decide +kernel
theorem d_String_isLatin1_18 : decode (mB m_String_isLatin1) 18 = .ok (.ireturn, 1) := by decide +kernel
theorem cal_String_isLatin1 : mCal m_String_isLatin1 0 := ⟨Or.inl ⟨rfl, goodIn_r _ [478] (by decide +kernel) (by decide +kernel)⟩, by decide, ⟨by decide, by decide⟩, by decide +kernel⟩
abbrev b_String_coder : ByteArray := prog_21_method_152_code
def m_String_coder : Mi := (⟨"java/lang/String", "coder", "()B"⟩, b_String_coder, 1, (some .byte), [])
theorem d_String_coder_0 : decode (mB m_String_coder) 0 = .ok (.getstatic 38, 3) := by decide +kernel
theorem d_String_coder_3 : decode (mB m_String_coder) 3 = .ok (.ifCond .eq 10, 3) := by decide +kernel
theorem d_String_coder_6 : decode (mB m_String_coder) 6 = .ok (.aload_n 0, 1) := by decide +kernel
theorem d_String_coder_7 : decode (mB m_String_coder) 7 = .ok (.getfield 15, 3) := by decide +kernel
theorem d_String_coder_10 : decode (mB m_String_coder) 10 = .ok (.goto 4, 3) := by decide +kernel
theorem d_String_coder_13 : decode (mB m_String_coder) 13 = .ok (.iconst 1, 1) := by decide +kernel
theorem d_String_coder_14 : decode (mB m_String_coder) 14 = .ok (.ireturn, 1) := by decide +kernel
theorem cal_String_coder : mCal m_String_coder 0 := ⟨Or.inl ⟨rfl, goodIn_r _ [488] (by decide +kernel) (by decide +kernel)⟩, by decide, ⟨by decide, by decide⟩, by decide +kernel⟩
abbrev b_String_length : ByteArray := prog_21_method_54_code
def m_String_length : Mi := (⟨"java/lang/String", "length", "()I"⟩, b_String_length, 1, (some .int), [])
theorem d_String_length_0 : decode (mB m_String_length) 0 = .ok (.aload_n 0, 1) := by decide +kernel
theorem d_String_length_1 : decode (mB m_String_length) 1 = .ok (.getfield 9, 3) := by decide +kernel
theorem d_String_length_4 : decode (mB m_String_length) 4 = .ok (.arraylength, 1) := by decide +kernel
theorem d_String_length_5 : decode (mB m_String_length) 5 = .ok (.aload_n 0, 1) := by decide +kernel
theorem d_String_length_6 : decode (mB m_String_length) 6 = .ok (.invokevirtual 335, 3) := by decide +kernel
theorem d_String_length_9 : decode (mB m_String_length) 9 = .ok (.ishr, 1) := by decide +kernel
theorem d_String_length_10 : decode (mB m_String_length) 10 = .ok (.ireturn, 1) := by decide +kernel
theorem cal_String_length : mCal m_String_length 0 := ⟨Or.inl ⟨rfl, goodIn_r _ [484] (by decide +kernel) (by decide +kernel)⟩, by decide, ⟨by decide, by decide⟩, by decide +kernel⟩
abbrev b_StringLatin1_canEncode : ByteArray := prog_22_method_4_code
def m_StringLatin1_canEncode : Mi := (⟨"java/lang/StringLatin1", "canEncode", "(I)Z"⟩, b_StringLatin1_canEncode, 1, (some .boolean), [])
theorem d_StringLatin1_canEncode_0 : decode (mB m_StringLatin1_canEncode) 0 = .ok (.iload_n 0, 1) := by decide +kernel
theorem d_StringLatin1_canEncode_1 : decode (mB m_StringLatin1_canEncode) 1 = .ok (.ifCond .lt 14, 3) := by decide +kernel
theorem d_StringLatin1_canEncode_4 : decode (mB m_StringLatin1_canEncode) 4 = .ok (.iload_n 0, 1) := by decide +kernel
theorem d_StringLatin1_canEncode_5 : decode (mB m_StringLatin1_canEncode) 5 = .ok (.sipush 255, 3) := by decide +kernel
theorem d_StringLatin1_canEncode_8 : decode (mB m_StringLatin1_canEncode) 8 = .ok (.if_icmp .gt 7, 3) := by decide +kernel
theorem d_StringLatin1_canEncode_11 : decode (mB m_StringLatin1_canEncode) 11 = .ok (.iconst 1, 1) := by decide +kernel
theorem d_StringLatin1_canEncode_12 : decode (mB m_StringLatin1_canEncode) 12 = .ok (.goto 4, 3) := by decide +kernel
theorem d_StringLatin1_canEncode_15 : decode (mB m_StringLatin1_canEncode) 15 = .ok (.iconst 0, 1) := by decide +kernel
theorem d_StringLatin1_canEncode_16 : decode (mB m_StringLatin1_canEncode) 16 = .ok (.ireturn, 1) := by decide +kernel
theorem cal_StringLatin1_canEncode : mCal m_StringLatin1_canEncode 1 := ⟨Or.inl ⟨rfl, goodIn_r _ [494] (by decide +kernel) (by decide +kernel)⟩, by decide, ⟨by decide, by decide⟩, by decide +kernel⟩
abbrev b_StringLatin1_indexOfChar : ByteArray := prog_22_method_23_code
def m_StringLatin1_indexOfChar : Mi := (⟨"java/lang/StringLatin1", "indexOfChar", "([BIII)I"⟩, b_StringLatin1_indexOfChar, 6, (some .int), [])
theorem d_StringLatin1_indexOfChar_0 : decode (mB m_StringLatin1_indexOfChar) 0 = .ok (.iload_n 1, 1) := by decide +kernel
theorem d_StringLatin1_indexOfChar_1 : decode (mB m_StringLatin1_indexOfChar) 1 = .ok (.i2b, 1) := by decide +kernel
theorem d_StringLatin1_indexOfChar_2 : decode (mB m_StringLatin1_indexOfChar) 2 = .ok (.istore 4, 2) := by decide +kernel
theorem d_StringLatin1_indexOfChar_4 : decode (mB m_StringLatin1_indexOfChar) 4 = .ok (.iload_n 2, 1) := by decide +kernel
theorem d_StringLatin1_indexOfChar_5 : decode (mB m_StringLatin1_indexOfChar) 5 = .ok (.istore 5, 2) := by decide +kernel
theorem d_StringLatin1_indexOfChar_7 : decode (mB m_StringLatin1_indexOfChar) 7 = .ok (.iload 5, 2) := by decide +kernel
theorem d_StringLatin1_indexOfChar_9 : decode (mB m_StringLatin1_indexOfChar) 9 = .ok (.iload_n 3, 1) := by decide +kernel
theorem d_StringLatin1_indexOfChar_10 : decode (mB m_StringLatin1_indexOfChar) 10 = .ok (.if_icmp .ge 21, 3) := by decide +kernel
theorem d_StringLatin1_indexOfChar_13 : decode (mB m_StringLatin1_indexOfChar) 13 = .ok (.aload_n 0, 1) := by decide +kernel
theorem d_StringLatin1_indexOfChar_14 : decode (mB m_StringLatin1_indexOfChar) 14 = .ok (.iload 5, 2) := by decide +kernel
theorem d_StringLatin1_indexOfChar_16 : decode (mB m_StringLatin1_indexOfChar) 16 = .ok (.baload, 1) := by decide +kernel
theorem d_StringLatin1_indexOfChar_17 : decode (mB m_StringLatin1_indexOfChar) 17 = .ok (.iload 4, 2) := by decide +kernel
theorem d_StringLatin1_indexOfChar_19 : decode (mB m_StringLatin1_indexOfChar) 19 = .ok (.if_icmp .ne 6, 3) := by decide +kernel
theorem d_StringLatin1_indexOfChar_22 : decode (mB m_StringLatin1_indexOfChar) 22 = .ok (.iload 5, 2) := by decide +kernel
theorem d_StringLatin1_indexOfChar_24 : decode (mB m_StringLatin1_indexOfChar) 24 = .ok (.ireturn, 1) := by decide +kernel
theorem d_StringLatin1_indexOfChar_25 : decode (mB m_StringLatin1_indexOfChar) 25 = .ok (.iinc 5 1, 3) := by decide +kernel
theorem d_StringLatin1_indexOfChar_28 : decode (mB m_StringLatin1_indexOfChar) 28 = .ok (.goto (-21), 3) := by decide +kernel
theorem d_StringLatin1_indexOfChar_31 : decode (mB m_StringLatin1_indexOfChar) 31 = .ok (.iconst (-1), 1) := by decide +kernel
theorem d_StringLatin1_indexOfChar_32 : decode (mB m_StringLatin1_indexOfChar) 32 = .ok (.ireturn, 1) := by decide +kernel
theorem cal_StringLatin1_indexOfChar : mCal m_StringLatin1_indexOfChar 4 := ⟨Or.inl ⟨rfl, goodIn_r _ [501] (by decide +kernel) (by decide +kernel)⟩, by decide, ⟨by decide, by decide⟩, by decide +kernel⟩
abbrev b_StringLatin1_indexOf : ByteArray := prog_22_method_22_code
def m_StringLatin1_indexOf : Mi := (⟨"java/lang/StringLatin1", "indexOf", "([BIII)I"⟩, b_StringLatin1_indexOf, 4, (some .int), [])
theorem d_StringLatin1_indexOf_0 : decode (mB m_StringLatin1_indexOf) 0 = .ok (.iload_n 1, 1) := by decide +kernel
theorem d_StringLatin1_indexOf_1 : decode (mB m_StringLatin1_indexOf) 1 = .ok (.invokestatic 88, 3) := by decide +kernel
theorem d_StringLatin1_indexOf_4 : decode (mB m_StringLatin1_indexOf) 4 = .ok (.ifCond .ne 5, 3) := by decide +kernel
theorem d_StringLatin1_indexOf_7 : decode (mB m_StringLatin1_indexOf) 7 = .ok (.iconst (-1), 1) := by decide +kernel
theorem d_StringLatin1_indexOf_8 : decode (mB m_StringLatin1_indexOf) 8 = .ok (.ireturn, 1) := by decide +kernel
theorem d_StringLatin1_indexOf_9 : decode (mB m_StringLatin1_indexOf) 9 = .ok (.iload_n 2, 1) := by decide +kernel
theorem d_StringLatin1_indexOf_10 : decode (mB m_StringLatin1_indexOf) 10 = .ok (.iconst 0, 1) := by decide +kernel
theorem d_StringLatin1_indexOf_11 : decode (mB m_StringLatin1_indexOf) 11 = .ok (.invokestatic 92, 3) := by decide +kernel
theorem d_StringLatin1_indexOf_14 : decode (mB m_StringLatin1_indexOf) 14 = .ok (.istore_n 2, 1) := by decide +kernel
theorem d_StringLatin1_indexOf_15 : decode (mB m_StringLatin1_indexOf) 15 = .ok (.iload_n 3, 1) := by decide +kernel
theorem d_StringLatin1_indexOf_16 : decode (mB m_StringLatin1_indexOf) 16 = .ok (.aload_n 0, 1) := by decide +kernel
theorem d_StringLatin1_indexOf_17 : decode (mB m_StringLatin1_indexOf) 17 = .ok (.arraylength, 1) := by decide +kernel
theorem d_StringLatin1_indexOf_18 : decode (mB m_StringLatin1_indexOf) 18 = .ok (.invokestatic 38, 3) := by decide +kernel
theorem d_StringLatin1_indexOf_21 : decode (mB m_StringLatin1_indexOf) 21 = .ok (.istore_n 3, 1) := by decide +kernel
theorem d_StringLatin1_indexOf_22 : decode (mB m_StringLatin1_indexOf) 22 = .ok (.iload_n 2, 1) := by decide +kernel
theorem d_StringLatin1_indexOf_23 : decode (mB m_StringLatin1_indexOf) 23 = .ok (.iload_n 3, 1) := by decide +kernel
theorem d_StringLatin1_indexOf_24 : decode (mB m_StringLatin1_indexOf) 24 = .ok (.if_icmp .lt 5, 3) := by decide +kernel
theorem d_StringLatin1_indexOf_27 : decode (mB m_StringLatin1_indexOf) 27 = .ok (.iconst (-1), 1) := by decide +kernel
theorem d_StringLatin1_indexOf_28 : decode (mB m_StringLatin1_indexOf) 28 = .ok (.ireturn, 1) := by decide +kernel
theorem d_StringLatin1_indexOf_29 : decode (mB m_StringLatin1_indexOf) 29 = .ok (.aload_n 0, 1) := by decide +kernel
theorem d_StringLatin1_indexOf_30 : decode (mB m_StringLatin1_indexOf) 30 = .ok (.iload_n 1, 1) := by decide +kernel
theorem d_StringLatin1_indexOf_31 : decode (mB m_StringLatin1_indexOf) 31 = .ok (.iload_n 2, 1) := by decide +kernel
theorem d_StringLatin1_indexOf_32 : decode (mB m_StringLatin1_indexOf) 32 = .ok (.iload_n 3, 1) := by decide +kernel
theorem d_StringLatin1_indexOf_33 : decode (mB m_StringLatin1_indexOf) 33 = .ok (.invokestatic 95, 3) := by decide +kernel
theorem d_StringLatin1_indexOf_36 : decode (mB m_StringLatin1_indexOf) 36 = .ok (.ireturn, 1) := by decide +kernel
theorem cal_StringLatin1_indexOf : mCal m_StringLatin1_indexOf 4 := ⟨Or.inl ⟨rfl, goodIn_r _ [491] (by decide +kernel) (by decide +kernel)⟩, by decide, ⟨by decide, by decide⟩, by decide +kernel⟩
abbrev b_String_indexOf1 : ByteArray := prog_21_method_80_code
def m_String_indexOf1 : Mi := (⟨"java/lang/String", "indexOf", "(II)I"⟩, b_String_indexOf1, 3, (some .int), [])
theorem d_String_indexOf1_0 : decode (mB m_String_indexOf1) 0 = .ok (.aload_n 0, 1) := by decide +kernel
theorem d_String_indexOf1_1 : decode (mB m_String_indexOf1) 1 = .ok (.invokevirtual 492, 3) := by decide +kernel
theorem d_String_indexOf1_4 : decode (mB m_String_indexOf1) 4 = .ok (.ifCond .eq 19, 3) := by decide +kernel
theorem d_String_indexOf1_7 : decode (mB m_String_indexOf1) 7 = .ok (.aload_n 0, 1) := by decide +kernel
theorem d_String_indexOf1_8 : decode (mB m_String_indexOf1) 8 = .ok (.getfield 9, 3) := by decide +kernel
theorem d_String_indexOf1_11 : decode (mB m_String_indexOf1) 11 = .ok (.iload_n 1, 1) := by decide +kernel
theorem d_String_indexOf1_12 : decode (mB m_String_indexOf1) 12 = .ok (.iload_n 2, 1) := by decide +kernel
theorem d_String_indexOf1_13 : decode (mB m_String_indexOf1) 13 = .ok (.aload_n 0, 1) := by decide +kernel
theorem d_String_indexOf1_14 : decode (mB m_String_indexOf1) 14 = .ok (.invokevirtual 505, 3) := by decide +kernel
theorem d_String_indexOf1_17 : decode (mB m_String_indexOf1) 17 = .ok (.invokestatic 637, 3) := by decide +kernel
theorem d_String_indexOf1_20 : decode (mB m_String_indexOf1) 20 = .ok (.goto 16, 3) := by decide +kernel
theorem d_String_indexOf1_23 : decode (mB m_String_indexOf1) 23 = .ok (.aload_n 0, 1) := by decide +kernel
theorem d_String_indexOf1_24 : decode (mB m_String_indexOf1) 24 = .ok (.getfield 9, 3) := by decide +kernel
theorem d_String_indexOf1_27 : decode (mB m_String_indexOf1) 27 = .ok (.iload_n 1, 1) := by decide +kernel
theorem d_String_indexOf1_28 : decode (mB m_String_indexOf1) 28 = .ok (.iload_n 2, 1) := by decide +kernel
theorem d_String_indexOf1_29 : decode (mB m_String_indexOf1) 29 = .ok (.aload_n 0, 1) := by decide +kernel
theorem d_String_indexOf1_30 : decode (mB m_String_indexOf1) 30 = .ok (.invokevirtual 505, 3) := by decide +kernel
theorem d_String_indexOf1_33 : decode (mB m_String_indexOf1) 33 = .ok (.invokestatic 640, 3) := by decide +kernel
theorem d_String_indexOf1_36 : decode (mB m_String_indexOf1) 36 = .ok (.ireturn, 1) := by decide +kernel
theorem cal_String_indexOf1 : mCal m_String_indexOf1 2 := ⟨Or.inl ⟨rfl, goodIn_r _ [474] (by decide +kernel) (by decide +kernel)⟩, by decide, ⟨by decide, by decide⟩, by decide +kernel⟩
abbrev b_String_indexOf : ByteArray := prog_21_method_79_code
def m_String_indexOf : Mi := (⟨"java/lang/String", "indexOf", "(I)I"⟩, b_String_indexOf, 2, (some .int), [])
theorem d_String_indexOf_0 : decode (mB m_String_indexOf) 0 = .ok (.aload_n 0, 1) := by decide +kernel
theorem d_String_indexOf_1 : decode (mB m_String_indexOf) 1 = .ok (.iload_n 1, 1) := by decide +kernel
theorem d_String_indexOf_2 : decode (mB m_String_indexOf) 2 = .ok (.iconst 0, 1) := by decide +kernel
theorem d_String_indexOf_3 : decode (mB m_String_indexOf) 3 = .ok (.invokevirtual 633, 3) := by decide +kernel
theorem d_String_indexOf_6 : decode (mB m_String_indexOf) 6 = .ok (.ireturn, 1) := by decide +kernel
theorem cal_String_indexOf : mCal m_String_indexOf 1 := ⟨Or.inl ⟨rfl, goodIn_r _ [470] (by decide +kernel) (by decide +kernel)⟩, by decide, ⟨by decide, by decide⟩, by decide +kernel⟩
abbrev b_Preconditions_checkIndex : ByteArray := prog_27_method_11_code
def m_Preconditions_checkIndex : Mi := (⟨"jdk/internal/util/Preconditions", "checkIndex", "(IILjava/util/function/BiFunction;)I"⟩, b_Preconditions_checkIndex, 3, (some .int), [])
theorem d_Preconditions_checkIndex_0 : decode (mB m_Preconditions_checkIndex) 0 = .ok (.iload_n 0, 1) := by decide +kernel
theorem d_Preconditions_checkIndex_1 : decode (mB m_Preconditions_checkIndex) 1 = .ok (.ifCond .lt 8, 3) := by decide +kernel
theorem d_Preconditions_checkIndex_4 : decode (mB m_Preconditions_checkIndex) 4 = .ok (.iload_n 0, 1) := by decide +kernel
theorem d_Preconditions_checkIndex_5 : decode (mB m_Preconditions_checkIndex) 5 = .ok (.iload_n 1, 1) := by decide +kernel
theorem d_Preconditions_checkIndex_6 : decode (mB m_Preconditions_checkIndex) 6 = .ok (.if_icmp .lt 10, 3) := by decide +kernel
theorem d_Preconditions_checkIndex_9 : decode (mB m_Preconditions_checkIndex) 9 = .ok (.aload_n 2, 1) := by decide +kernel
theorem d_Preconditions_checkIndex_10 : decode (mB m_Preconditions_checkIndex) 10 = .ok (.iload_n 0, 1) := by decide +kernel
theorem d_Preconditions_checkIndex_11 : decode (mB m_Preconditions_checkIndex) 11 = .ok (.iload_n 1, 1) := by decide +kernel
theorem d_Preconditions_checkIndex_12 : decode (mB m_Preconditions_checkIndex) 12 = .ok (.invokestatic 95, 3) := by decide +kernel
theorem d_Preconditions_checkIndex_15 : decode (mB m_Preconditions_checkIndex) 15 = .ok (.athrow, 1) := by decide +kernel
theorem d_Preconditions_checkIndex_16 : decode (mB m_Preconditions_checkIndex) 16 = .ok (.iload_n 0, 1) := by decide +kernel
theorem d_Preconditions_checkIndex_17 : decode (mB m_Preconditions_checkIndex) 17 = .ok (.ireturn, 1) := by decide +kernel
theorem cal_Preconditions_checkIndex : mCal m_Preconditions_checkIndex 3 := ⟨Or.inl ⟨rfl, goodIn_r _ [610] (by decide +kernel) (by decide +kernel)⟩, by decide, ⟨by decide, by decide⟩, by decide +kernel⟩
abbrev b_String_checkIndex : ByteArray := prog_21_method_155_code
def m_String_checkIndex : Mi := (⟨"java/lang/String", "checkIndex", "(II)V"⟩, b_String_checkIndex, 2, none, [])
theorem d_String_checkIndex_0 : decode (mB m_String_checkIndex) 0 = .ok (.iload_n 0, 1) := by decide +kernel
theorem d_String_checkIndex_1 : decode (mB m_String_checkIndex) 1 = .ok (.iload_n 1, 1) := by decide +kernel
theorem d_String_checkIndex_2 : decode (mB m_String_checkIndex) 2 = .ok (.getstatic 1053, 3) := by decide +kernel
theorem d_String_checkIndex_5 : decode (mB m_String_checkIndex) 5 = .ok (.invokestatic 1059, 3) := by decide +kernel
theorem d_String_checkIndex_8 : decode (mB m_String_checkIndex) 8 = .ok (.pop, 1) := by decide +kernel
theorem d_String_checkIndex_9 : decode (mB m_String_checkIndex) 9 = .ok (.return_, 1) := by decide +kernel
theorem cal_String_checkIndex : mCal m_String_checkIndex 2 := ⟨Or.inl ⟨rfl, goodIn_r _ [607] (by decide +kernel) (by decide +kernel)⟩, by decide, ⟨by decide, by decide⟩, by decide +kernel⟩
abbrev b_StringLatin1_charAt : ByteArray := prog_22_method_2_code
def m_StringLatin1_charAt : Mi := (⟨"java/lang/StringLatin1", "charAt", "([BI)C"⟩, b_StringLatin1_charAt, 2, (some .char), [])
theorem d_StringLatin1_charAt_0 : decode (mB m_StringLatin1_charAt) 0 = .ok (.iload_n 1, 1) := by decide +kernel
theorem d_StringLatin1_charAt_1 : decode (mB m_StringLatin1_charAt) 1 = .ok (.aload_n 0, 1) := by decide +kernel
theorem d_StringLatin1_charAt_2 : decode (mB m_StringLatin1_charAt) 2 = .ok (.arraylength, 1) := by decide +kernel
theorem d_StringLatin1_charAt_3 : decode (mB m_StringLatin1_charAt) 3 = .ok (.invokestatic 9, 3) := by decide +kernel
theorem d_StringLatin1_charAt_6 : decode (mB m_StringLatin1_charAt) 6 = .ok (.aload_n 0, 1) := by decide +kernel
theorem d_StringLatin1_charAt_7 : decode (mB m_StringLatin1_charAt) 7 = .ok (.iload_n 1, 1) := by decide +kernel
theorem d_StringLatin1_charAt_8 : decode (mB m_StringLatin1_charAt) 8 = .ok (.baload, 1) := by decide +kernel
theorem d_StringLatin1_charAt_9 : decode (mB m_StringLatin1_charAt) 9 = .ok (.sipush 255, 3) := by decide +kernel
theorem d_StringLatin1_charAt_12 : decode (mB m_StringLatin1_charAt) 12 = .ok (.iand, 1) := by decide +kernel
theorem d_StringLatin1_charAt_13 : decode (mB m_StringLatin1_charAt) 13 = .ok (.i2c, 1) := by decide +kernel
theorem d_StringLatin1_charAt_14 : decode (mB m_StringLatin1_charAt) 14 = .ok (.ireturn, 1) := by decide +kernel
theorem cal_StringLatin1_charAt : mCal m_StringLatin1_charAt 2 := ⟨Or.inl ⟨rfl, goodIn_r _ [604] (by decide +kernel) (by decide +kernel)⟩, by decide, ⟨by decide, by decide⟩, by decide +kernel⟩
abbrev b_String_charAt : ByteArray := prog_21_method_56_code
def m_String_charAt : Mi := (⟨"java/lang/String", "charAt", "(I)C"⟩, b_String_charAt, 2, (some .char), [])
theorem d_String_charAt_0 : decode (mB m_String_charAt) 0 = .ok (.aload_n 0, 1) := by decide +kernel
theorem d_String_charAt_1 : decode (mB m_String_charAt) 1 = .ok (.invokevirtual 492, 3) := by decide +kernel
theorem d_String_charAt_4 : decode (mB m_String_charAt) 4 = .ok (.ifCond .eq 12, 3) := by decide +kernel
theorem d_String_charAt_7 : decode (mB m_String_charAt) 7 = .ok (.aload_n 0, 1) := by decide +kernel
theorem d_String_charAt_8 : decode (mB m_String_charAt) 8 = .ok (.getfield 9, 3) := by decide +kernel
theorem d_String_charAt_11 : decode (mB m_String_charAt) 11 = .ok (.iload_n 1, 1) := by decide +kernel
theorem d_String_charAt_12 : decode (mB m_String_charAt) 12 = .ok (.invokestatic 495, 3) := by decide +kernel
theorem d_String_charAt_15 : decode (mB m_String_charAt) 15 = .ok (.ireturn, 1) := by decide +kernel
theorem d_String_charAt_16 : decode (mB m_String_charAt) 16 = .ok (.aload_n 0, 1) := by decide +kernel
theorem d_String_charAt_17 : decode (mB m_String_charAt) 17 = .ok (.getfield 9, 3) := by decide +kernel
theorem d_String_charAt_20 : decode (mB m_String_charAt) 20 = .ok (.iload_n 1, 1) := by decide +kernel
theorem d_String_charAt_21 : decode (mB m_String_charAt) 21 = .ok (.invokestatic 498, 3) := by decide +kernel
theorem d_String_charAt_24 : decode (mB m_String_charAt) 24 = .ok (.ireturn, 1) := by decide +kernel
theorem cal_String_charAt : mCal m_String_charAt 1 := ⟨Or.inl ⟨rfl, goodIn_r _ [601] (by decide +kernel) (by decide +kernel)⟩, by decide, ⟨by decide, by decide⟩, by decide +kernel⟩
abbrev b_Arrays_fill : ByteArray := prog_26_method_103_code
def m_Arrays_fill : Mi := (⟨"java/util/Arrays", "fill", "([II)V"⟩, b_Arrays_fill, 4, none, [])
theorem d_Arrays_fill_0 : decode (mB m_Arrays_fill) 0 = .ok (.iconst 0, 1) := by decide +kernel
theorem d_Arrays_fill_1 : decode (mB m_Arrays_fill) 1 = .ok (.istore_n 2, 1) := by decide +kernel
theorem d_Arrays_fill_2 : decode (mB m_Arrays_fill) 2 = .ok (.aload_n 0, 1) := by decide +kernel
theorem d_Arrays_fill_3 : decode (mB m_Arrays_fill) 3 = .ok (.arraylength, 1) := by decide +kernel
theorem d_Arrays_fill_4 : decode (mB m_Arrays_fill) 4 = .ok (.istore_n 3, 1) := by decide +kernel
theorem d_Arrays_fill_5 : decode (mB m_Arrays_fill) 5 = .ok (.iload_n 2, 1) := by decide +kernel
theorem d_Arrays_fill_6 : decode (mB m_Arrays_fill) 6 = .ok (.iload_n 3, 1) := by decide +kernel
theorem d_Arrays_fill_7 : decode (mB m_Arrays_fill) 7 = .ok (.if_icmp .ge 13, 3) := by decide +kernel
theorem d_Arrays_fill_10 : decode (mB m_Arrays_fill) 10 = .ok (.aload_n 0, 1) := by decide +kernel
theorem d_Arrays_fill_11 : decode (mB m_Arrays_fill) 11 = .ok (.iload_n 2, 1) := by decide +kernel
theorem d_Arrays_fill_12 : decode (mB m_Arrays_fill) 12 = .ok (.iload_n 1, 1) := by decide +kernel
theorem d_Arrays_fill_13 : decode (mB m_Arrays_fill) 13 = .ok (.iastore, 1) := by decide +kernel
theorem d_Arrays_fill_14 : decode (mB m_Arrays_fill) 14 = .ok (.iinc 2 1, 3) := by decide +kernel
theorem d_Arrays_fill_17 : decode (mB m_Arrays_fill) 17 = .ok (.goto (-12), 3) := by decide +kernel
theorem d_Arrays_fill_20 : decode (mB m_Arrays_fill) 20 = .ok (.return_, 1) := by decide +kernel
theorem cal_Arrays_fill : mCal m_Arrays_fill 2 := ⟨Or.inl ⟨rfl, goodIn_r _ [689] (by decide +kernel) (by decide +kernel)⟩, by decide, ⟨by decide, by decide⟩, by decide +kernel⟩
abbrev b_Arrays_copyOf : ByteArray := prog_26_method_121_code
def m_Arrays_copyOf : Mi := (⟨"java/util/Arrays", "copyOf", "([BI)[B"⟩, b_Arrays_copyOf, 3, (some (.array .byte)), [])
theorem d_Arrays_copyOf_0 : decode (mB m_Arrays_copyOf) 0 = .ok (.iload_n 1, 1) := by decide +kernel
theorem d_Arrays_copyOf_1 : decode (mB m_Arrays_copyOf) 1 = .ok (.aload_n 0, 1) := by decide +kernel
theorem d_Arrays_copyOf_2 : decode (mB m_Arrays_copyOf) 2 = .ok (.arraylength, 1) := by decide +kernel
theorem d_Arrays_copyOf_3 : decode (mB m_Arrays_copyOf) 3 = .ok (.if_icmp .ne 11, 3) := by decide +kernel
theorem d_Arrays_copyOf_6 : decode (mB m_Arrays_copyOf) 6 = .ok (.aload_n 0, 1) := by decide +kernel
theorem d_Arrays_copyOf_7 : decode (mB m_Arrays_copyOf) 7 = .ok (.invokevirtual 310, 3) := by decide +kernel
theorem d_Arrays_copyOf_10 : decode (mB m_Arrays_copyOf) 10 = .ok (.checkcast 311, 3) := by decide +kernel
theorem d_Arrays_copyOf_13 : decode (mB m_Arrays_copyOf) 13 = .ok (.areturn, 1) := by decide +kernel
theorem d_Arrays_copyOf_14 : decode (mB m_Arrays_copyOf) 14 = .ok (.iload_n 1, 1) := by decide +kernel
theorem d_Arrays_copyOf_15 : decode (mB m_Arrays_copyOf) 15 = .ok (.newarray .byte, 2) := by decide +kernel
theorem d_Arrays_copyOf_17 : decode (mB m_Arrays_copyOf) 17 = .ok (.astore_n 2, 1) := by decide +kernel
theorem d_Arrays_copyOf_18 : decode (mB m_Arrays_copyOf) 18 = .ok (.aload_n 0, 1) := by decide +kernel
theorem d_Arrays_copyOf_19 : decode (mB m_Arrays_copyOf) 19 = .ok (.iconst 0, 1) := by decide +kernel
theorem d_Arrays_copyOf_20 : decode (mB m_Arrays_copyOf) 20 = .ok (.aload_n 2, 1) := by decide +kernel
theorem d_Arrays_copyOf_21 : decode (mB m_Arrays_copyOf) 21 = .ok (.iconst 0, 1) := by decide +kernel
theorem d_Arrays_copyOf_22 : decode (mB m_Arrays_copyOf) 22 = .ok (.aload_n 0, 1) := by decide +kernel
theorem d_Arrays_copyOf_23 : decode (mB m_Arrays_copyOf) 23 = .ok (.arraylength, 1) := by decide +kernel
theorem d_Arrays_copyOf_24 : decode (mB m_Arrays_copyOf) 24 = .ok (.iload_n 1, 1) := by decide +kernel
theorem d_Arrays_copyOf_25 : decode (mB m_Arrays_copyOf) 25 = .ok (.invokestatic 304, 3) := by decide +kernel
theorem d_Arrays_copyOf_28 : decode (mB m_Arrays_copyOf) 28 = .ok (.invokestatic 150, 3) := by decide +kernel
theorem d_Arrays_copyOf_31 : decode (mB m_Arrays_copyOf) 31 = .ok (.aload_n 2, 1) := by decide +kernel
theorem d_Arrays_copyOf_32 : decode (mB m_Arrays_copyOf) 32 = .ok (.areturn, 1) := by decide +kernel
theorem cal_Arrays_copyOf : mCal m_Arrays_copyOf 2 := ⟨Or.inl ⟨rfl, goodIn_r _ [634] (by decide +kernel) (by decide +kernel)⟩, by decide, ⟨by decide, by decide⟩, by decide +kernel⟩
abbrev b_Arrays_copyOf1 : ByteArray := prog_26_method_124_code
def m_Arrays_copyOf1 : Mi := (⟨"java/util/Arrays", "copyOf", "([JI)[J"⟩, b_Arrays_copyOf1, 3, (some (.array .long)), [])
theorem d_Arrays_copyOf1_0 : decode (mB m_Arrays_copyOf1) 0 = .ok (.iload_n 1, 1) := by decide +kernel
theorem d_Arrays_copyOf1_1 : decode (mB m_Arrays_copyOf1) 1 = .ok (.aload_n 0, 1) := by decide +kernel
theorem d_Arrays_copyOf1_2 : decode (mB m_Arrays_copyOf1) 2 = .ok (.arraylength, 1) := by decide +kernel
theorem d_Arrays_copyOf1_3 : decode (mB m_Arrays_copyOf1) 3 = .ok (.if_icmp .ne 11, 3) := by decide +kernel
theorem d_Arrays_copyOf1_6 : decode (mB m_Arrays_copyOf1) 6 = .ok (.aload_n 0, 1) := by decide +kernel
theorem d_Arrays_copyOf1_7 : decode (mB m_Arrays_copyOf1) 7 = .ok (.invokevirtual 319, 3) := by decide +kernel
theorem d_Arrays_copyOf1_10 : decode (mB m_Arrays_copyOf1) 10 = .ok (.checkcast 320, 3) := by decide +kernel
theorem d_Arrays_copyOf1_13 : decode (mB m_Arrays_copyOf1) 13 = .ok (.areturn, 1) := by decide +kernel
theorem d_Arrays_copyOf1_14 : decode (mB m_Arrays_copyOf1) 14 = .ok (.iload_n 1, 1) := by decide +kernel
theorem d_Arrays_copyOf1_15 : decode (mB m_Arrays_copyOf1) 15 = .ok (.newarray .long, 2) := by decide +kernel
theorem d_Arrays_copyOf1_17 : decode (mB m_Arrays_copyOf1) 17 = .ok (.astore_n 2, 1) := by decide +kernel
theorem d_Arrays_copyOf1_18 : decode (mB m_Arrays_copyOf1) 18 = .ok (.aload_n 0, 1) := by decide +kernel
theorem d_Arrays_copyOf1_19 : decode (mB m_Arrays_copyOf1) 19 = .ok (.iconst 0, 1) := by decide +kernel
theorem d_Arrays_copyOf1_20 : decode (mB m_Arrays_copyOf1) 20 = .ok (.aload_n 2, 1) := by decide +kernel
theorem d_Arrays_copyOf1_21 : decode (mB m_Arrays_copyOf1) 21 = .ok (.iconst 0, 1) := by decide +kernel
theorem d_Arrays_copyOf1_22 : decode (mB m_Arrays_copyOf1) 22 = .ok (.aload_n 0, 1) := by decide +kernel
theorem d_Arrays_copyOf1_23 : decode (mB m_Arrays_copyOf1) 23 = .ok (.arraylength, 1) := by decide +kernel
theorem d_Arrays_copyOf1_24 : decode (mB m_Arrays_copyOf1) 24 = .ok (.iload_n 1, 1) := by decide +kernel
theorem d_Arrays_copyOf1_25 : decode (mB m_Arrays_copyOf1) 25 = .ok (.invokestatic 304, 3) := by decide +kernel
theorem d_Arrays_copyOf1_28 : decode (mB m_Arrays_copyOf1) 28 = .ok (.invokestatic 150, 3) := by decide +kernel
theorem d_Arrays_copyOf1_31 : decode (mB m_Arrays_copyOf1) 31 = .ok (.aload_n 2, 1) := by decide +kernel
theorem d_Arrays_copyOf1_32 : decode (mB m_Arrays_copyOf1) 32 = .ok (.areturn, 1) := by decide +kernel
theorem cal_Arrays_copyOf1 : mCal m_Arrays_copyOf1 2 := ⟨Or.inl ⟨rfl, goodIn_r _ [650] (by decide +kernel) (by decide +kernel)⟩, by decide, ⟨by decide, by decide⟩, by decide +kernel⟩
