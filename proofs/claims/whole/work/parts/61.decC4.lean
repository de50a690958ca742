abbrev b_Drf_readOrigin : ByteArray := prog_5_method_11_code
def m_Drf_readOrigin : Mi := (⟨"TextNet$Draft", "readOrigin", "()Z"⟩, b_Drf_readOrigin, 1, (some .boolean), [])
theorem d_Drf_readOrigin_0 : decode (mB m_Drf_readOrigin) 0 = .ok (.aload_n 0, 1) := by decide +kernel
theorem d_Drf_readOrigin_1 : decode (mB m_Drf_readOrigin) 1 = .ok (.iconst 1, 1) := by decide +kernel
theorem d_Drf_readOrigin_2 : decode (mB m_Drf_readOrigin) 2 = .ok (.bipush 31, 2) := by decide +kernel
theorem d_Drf_readOrigin_4 : decode (mB m_Drf_readOrigin) 4 = .ok (.invokevirtual 94, 3) := by decide +kernel
theorem d_Drf_readOrigin_7 : decode (mB m_Drf_readOrigin) 7 = .ok (.ifCond .eq 55, 3) := by decide +kernel
theorem d_Drf_readOrigin_10 : decode (mB m_Drf_readOrigin) 10 = .ok (.aload_n 0, 1) := by decide +kernel
theorem d_Drf_readOrigin_11 : decode (mB m_Drf_readOrigin) 11 = .ok (.iconst 0, 1) := by decide +kernel
theorem d_Drf_readOrigin_12 : decode (mB m_Drf_readOrigin) 12 = .ok (.bipush 23, 2) := by decide +kernel
theorem d_Drf_readOrigin_14 : decode (mB m_Drf_readOrigin) 14 = .ok (.invokevirtual 94, 3) := by decide +kernel
theorem d_Drf_readOrigin_17 : decode (mB m_Drf_readOrigin) 17 = .ok (.ifCond .eq 45, 3) := by decide +kernel
theorem d_Drf_readOrigin_20 : decode (mB m_Drf_readOrigin) 20 = .ok (.aload_n 0, 1) := by decide +kernel
theorem d_Drf_readOrigin_21 : decode (mB m_Drf_readOrigin) 21 = .ok (.iconst 0, 1) := by decide +kernel
theorem d_Drf_readOrigin_22 : decode (mB m_Drf_readOrigin) 22 = .ok (.bipush 59, 2) := by decide +kernel
theorem d_Drf_readOrigin_24 : decode (mB m_Drf_readOrigin) 24 = .ok (.invokevirtual 94, 3) := by decide +kernel
theorem d_Drf_readOrigin_27 : decode (mB m_Drf_readOrigin) 27 = .ok (.ifCond .eq 35, 3) := by decide +kernel
theorem d_Drf_readOrigin_30 : decode (mB m_Drf_readOrigin) 30 = .ok (.aload_n 0, 1) := by decide +kernel
theorem d_Drf_readOrigin_31 : decode (mB m_Drf_readOrigin) 31 = .ok (.bipush 32, 2) := by decide +kernel
theorem d_Drf_readOrigin_33 : decode (mB m_Drf_readOrigin) 33 = .ok (.iconst 5, 1) := by decide +kernel
theorem d_Drf_readOrigin_34 : decode (mB m_Drf_readOrigin) 34 = .ok (.invokevirtual 77, 3) := by decide +kernel
theorem d_Drf_readOrigin_37 : decode (mB m_Drf_readOrigin) 37 = .ok (.ifCond .eq 25, 3) := by decide +kernel
theorem d_Drf_readOrigin_40 : decode (mB m_Drf_readOrigin) 40 = .ok (.aload_n 0, 1) := by decide +kernel
theorem d_Drf_readOrigin_41 : decode (mB m_Drf_readOrigin) 41 = .ok (.iconst 5, 1) := by decide +kernel
theorem d_Drf_readOrigin_42 : decode (mB m_Drf_readOrigin) 42 = .ok (.invokevirtual 80, 3) := by decide +kernel
theorem d_Drf_readOrigin_45 : decode (mB m_Drf_readOrigin) 45 = .ok (.ifCond .eq 17, 3) := by decide +kernel
theorem d_Drf_readOrigin_48 : decode (mB m_Drf_readOrigin) 48 = .ok (.aload_n 0, 1) := by decide +kernel
theorem d_Drf_readOrigin_49 : decode (mB m_Drf_readOrigin) 49 = .ok (.bipush 10, 2) := by decide +kernel
theorem d_Drf_readOrigin_51 : decode (mB m_Drf_readOrigin) 51 = .ok (.iconst 5, 1) := by decide +kernel
theorem d_Drf_readOrigin_52 : decode (mB m_Drf_readOrigin) 52 = .ok (.invokevirtual 77, 3) := by decide +kernel
theorem d_Drf_readOrigin_55 : decode (mB m_Drf_readOrigin) 55 = .ok (.ifCond .eq 7, 3) := by decide +kernel
theorem d_Drf_readOrigin_58 : decode (mB m_Drf_readOrigin) 58 = .ok (.iconst 1, 1) := by decide +kernel
theorem d_Drf_readOrigin_59 : decode (mB m_Drf_readOrigin) 59 = .ok (.goto 4, 3) := by decide +kernel
theorem d_Drf_readOrigin_62 : decode (mB m_Drf_readOrigin) 62 = .ok (.iconst 0, 1) := by decide +kernel
theorem d_Drf_readOrigin_63 : decode (mB m_Drf_readOrigin) 63 = .ok (.ireturn, 1) := by decide +kernel
theorem cal_Drf_readOrigin : mCal m_Drf_readOrigin 0 := ⟨Or.inl ⟨rfl, goodIn_r _ [580] (by decide +kernel) (by decide +kernel)⟩, by decide, ⟨by decide, by decide⟩, by decide +kernel⟩
abbrev b_Drf_readNumber : ByteArray := prog_5_method_12_code
def m_Drf_readNumber : Mi := (⟨"TextNet$Draft", "readNumber", "(II)Z"⟩, b_Drf_readNumber, 6, (some .boolean), [])
theorem d_Drf_readNumber_0 : decode (mB m_Drf_readNumber) 0 = .ok (.aload_n 0, 1) := by decide +kernel
theorem d_Drf_readNumber_1 : decode (mB m_Drf_readNumber) 1 = .ok (.aload_n 0, 1) := by decide +kernel
theorem d_Drf_readNumber_2 : decode (mB m_Drf_readNumber) 2 = .ok (.getfield 74, 3) := by decide +kernel
theorem d_Drf_readNumber_5 : decode (mB m_Drf_readNumber) 5 = .ok (.invokevirtual 59, 3) := by decide +kernel
theorem d_Drf_readNumber_8 : decode (mB m_Drf_readNumber) 8 = .ok (.istore_n 3, 1) := by decide +kernel
theorem d_Drf_readNumber_9 : decode (mB m_Drf_readNumber) 9 = .ok (.aload_n 0, 1) := by decide +kernel
theorem d_Drf_readNumber_10 : decode (mB m_Drf_readNumber) 10 = .ok (.aload_n 0, 1) := by decide +kernel
theorem d_Drf_readNumber_11 : decode (mB m_Drf_readNumber) 11 = .ok (.getfield 74, 3) := by decide +kernel
theorem d_Drf_readNumber_14 : decode (mB m_Drf_readNumber) 14 = .ok (.iconst 1, 1) := by decide +kernel
theorem d_Drf_readNumber_15 : decode (mB m_Drf_readNumber) 15 = .ok (.iadd, 1) := by decide +kernel
theorem d_Drf_readNumber_16 : decode (mB m_Drf_readNumber) 16 = .ok (.invokevirtual 59, 3) := by decide +kernel
theorem d_Drf_readNumber_19 : decode (mB m_Drf_readNumber) 19 = .ok (.istore 4, 2) := by decide +kernel
theorem d_Drf_readNumber_21 : decode (mB m_Drf_readNumber) 21 = .ok (.iload_n 3, 1) := by decide +kernel
theorem d_Drf_readNumber_22 : decode (mB m_Drf_readNumber) 22 = .ok (.invokestatic 97, 3) := by decide +kernel
theorem d_Drf_readNumber_25 : decode (mB m_Drf_readNumber) 25 = .ok (.ifCond .ne 13, 3) := by decide +kernel
theorem d_Drf_readNumber_28 : decode (mB m_Drf_readNumber) 28 = .ok (.aload_n 0, 1) := by decide +kernel
theorem d_Drf_readNumber_29 : decode (mB m_Drf_readNumber) 29 = .ok (.iconst 5, 1) := by decide +kernel
theorem d_Drf_readNumber_30 : decode (mB m_Drf_readNumber) 30 = .ok (.aload_n 0, 1) := by decide +kernel
theorem d_Drf_readNumber_31 : decode (mB m_Drf_readNumber) 31 = .ok (.getfield 74, 3) := by decide +kernel
theorem d_Drf_readNumber_34 : decode (mB m_Drf_readNumber) 34 = .ok (.invokevirtual 70, 3) := by decide +kernel
theorem d_Drf_readNumber_37 : decode (mB m_Drf_readNumber) 37 = .ok (.ireturn, 1) := by decide +kernel
theorem d_Drf_readNumber_38 : decode (mB m_Drf_readNumber) 38 = .ok (.iload 4, 2) := by decide +kernel
theorem d_Drf_readNumber_40 : decode (mB m_Drf_readNumber) 40 = .ok (.invokestatic 97, 3) := by decide +kernel
theorem d_Drf_readNumber_43 : decode (mB m_Drf_readNumber) 43 = .ok (.ifCond .ne 15, 3) := by decide +kernel
theorem d_Drf_readNumber_46 : decode (mB m_Drf_readNumber) 46 = .ok (.aload_n 0, 1) := by decide +kernel
theorem d_Drf_readNumber_47 : decode (mB m_Drf_readNumber) 47 = .ok (.iconst 5, 1) := by decide +kernel
theorem d_Drf_readNumber_48 : decode (mB m_Drf_readNumber) 48 = .ok (.aload_n 0, 1) := by decide +kernel
theorem d_Drf_readNumber_49 : decode (mB m_Drf_readNumber) 49 = .ok (.getfield 74, 3) := by decide +kernel
theorem d_Drf_readNumber_52 : decode (mB m_Drf_readNumber) 52 = .ok (.iconst 1, 1) := by decide +kernel
theorem d_Drf_readNumber_53 : decode (mB m_Drf_readNumber) 53 = .ok (.iadd, 1) := by decide +kernel
theorem d_Drf_readNumber_54 : decode (mB m_Drf_readNumber) 54 = .ok (.invokevirtual 70, 3) := by decide +kernel
theorem d_Drf_readNumber_57 : decode (mB m_Drf_readNumber) 57 = .ok (.ireturn, 1) := by decide +kernel
theorem d_Drf_readNumber_58 : decode (mB m_Drf_readNumber) 58 = .ok (.bipush 10, 2) := by decide +kernel
theorem d_Drf_readNumber_60 : decode (mB m_Drf_readNumber) 60 = .ok (.iload_n 3, 1) := by decide +kernel
theorem d_Drf_readNumber_61 : decode (mB m_Drf_readNumber) 61 = .ok (.bipush 48, 2) := by decide +kernel
theorem d_Drf_readNumber_63 : decode (mB m_Drf_readNumber) 63 = .ok (.isub, 1) := by decide +kernel
theorem d_Drf_readNumber_64 : decode (mB m_Drf_readNumber) 64 = .ok (.imul, 1) := by decide +kernel
theorem d_Drf_readNumber_65 : decode (mB m_Drf_readNumber) 65 = .ok (.iload 4, 2) := by decide +kernel
theorem d_Drf_readNumber_67 : decode (mB m_Drf_readNumber) 67 = .ok (.iadd, 1) := by decide +kernel
theorem d_Drf_readNumber_68 : decode (mB m_Drf_readNumber) 68 = .ok (.bipush 48, 2) := by decide +kernel
theorem d_Drf_readNumber_70 : decode (mB m_Drf_readNumber) 70 = .ok (.isub, 1) := by decide +kernel
theorem d_Drf_readNumber_71 : decode (mB m_Drf_readNumber) 71 = .ok (.istore 5, 2) := by decide +kernel
theorem d_Drf_readNumber_73 : decode (mB m_Drf_readNumber) 73 = .ok (.iload 5, 2) := by decide +kernel
theorem d_Drf_readNumber_75 : decode (mB m_Drf_readNumber) 75 = .ok (.iload_n 1, 1) := by decide +kernel
theorem d_Drf_readNumber_76 : decode (mB m_Drf_readNumber) 76 = .ok (.if_icmp .lt 9, 3) := by decide +kernel
theorem d_Drf_readNumber_79 : decode (mB m_Drf_readNumber) 79 = .ok (.iload 5, 2) := by decide +kernel
theorem d_Drf_readNumber_81 : decode (mB m_Drf_readNumber) 81 = .ok (.iload_n 2, 1) := by decide +kernel
theorem d_Drf_readNumber_82 : decode (mB m_Drf_readNumber) 82 = .ok (.if_icmp .le 13, 3) := by decide +kernel
theorem d_Drf_readNumber_85 : decode (mB m_Drf_readNumber) 85 = .ok (.aload_n 0, 1) := by decide +kernel
theorem d_Drf_readNumber_86 : decode (mB m_Drf_readNumber) 86 = .ok (.iconst 5, 1) := by decide +kernel
theorem d_Drf_readNumber_87 : decode (mB m_Drf_readNumber) 87 = .ok (.aload_n 0, 1) := by decide +kernel
theorem d_Drf_readNumber_88 : decode (mB m_Drf_readNumber) 88 = .ok (.getfield 74, 3) := by decide +kernel
theorem d_Drf_readNumber_91 : decode (mB m_Drf_readNumber) 91 = .ok (.invokevirtual 70, 3) := by decide +kernel
theorem d_Drf_readNumber_94 : decode (mB m_Drf_readNumber) 94 = .ok (.ireturn, 1) := by decide +kernel
theorem d_Drf_readNumber_95 : decode (mB m_Drf_readNumber) 95 = .ok (.aload_n 0, 1) := by decide +kernel
theorem d_Drf_readNumber_96 : decode (mB m_Drf_readNumber) 96 = .ok (.dup, 1) := by decide +kernel
theorem d_Drf_readNumber_97 : decode (mB m_Drf_readNumber) 97 = .ok (.getfield 74, 3) := by decide +kernel
theorem d_Drf_readNumber_100 : decode (mB m_Drf_readNumber) 100 = .ok (.iconst 2, 1) := by decide +kernel
theorem d_Drf_readNumber_101 : decode (mB m_Drf_readNumber) 101 = .ok (.iadd, 1) := by decide +kernel
theorem d_Drf_readNumber_102 : decode (mB m_Drf_readNumber) 102 = .ok (.putfield 74, 3) := by decide +kernel
theorem d_Drf_readNumber_105 : decode (mB m_Drf_readNumber) 105 = .ok (.iconst 1, 1) := by decide +kernel
theorem d_Drf_readNumber_106 : decode (mB m_Drf_readNumber) 106 = .ok (.ireturn, 1) := by decide +kernel
theorem cal_Drf_readNumber : mCal m_Drf_readNumber 2 := ⟨Or.inl ⟨rfl, goodIn_r _ [584] (by decide +kernel) (by decide +kernel)⟩, by decide, ⟨by decide, by decide⟩, by decide +kernel⟩
abbrev b_Drf_readByte : ByteArray := prog_5_method_13_code
def m_Drf_readByte : Mi := (⟨"TextNet$Draft", "readByte", "(II)Z"⟩, b_Drf_readByte, 3, (some .boolean), [])
theorem d_Drf_readByte_0 : decode (mB m_Drf_readByte) 0 = .ok (.aload_n 0, 1) := by decide +kernel
theorem d_Drf_readByte_1 : decode (mB m_Drf_readByte) 1 = .ok (.aload_n 0, 1) := by decide +kernel
theorem d_Drf_readByte_2 : decode (mB m_Drf_readByte) 2 = .ok (.getfield 74, 3) := by decide +kernel
theorem d_Drf_readByte_5 : decode (mB m_Drf_readByte) 5 = .ok (.invokevirtual 59, 3) := by decide +kernel
theorem d_Drf_readByte_8 : decode (mB m_Drf_readByte) 8 = .ok (.iload_n 1, 1) := by decide +kernel
theorem d_Drf_readByte_9 : decode (mB m_Drf_readByte) 9 = .ok (.if_icmp .eq 13, 3) := by decide +kernel
theorem d_Drf_readByte_12 : decode (mB m_Drf_readByte) 12 = .ok (.aload_n 0, 1) := by decide +kernel
theorem d_Drf_readByte_13 : decode (mB m_Drf_readByte) 13 = .ok (.iload_n 2, 1) := by decide +kernel
theorem d_Drf_readByte_14 : decode (mB m_Drf_readByte) 14 = .ok (.aload_n 0, 1) := by decide +kernel
theorem d_Drf_readByte_15 : decode (mB m_Drf_readByte) 15 = .ok (.getfield 74, 3) := by decide +kernel
theorem d_Drf_readByte_18 : decode (mB m_Drf_readByte) 18 = .ok (.invokevirtual 70, 3) := by decide +kernel
theorem d_Drf_readByte_21 : decode (mB m_Drf_readByte) 21 = .ok (.ireturn, 1) := by decide +kernel
theorem d_Drf_readByte_22 : decode (mB m_Drf_readByte) 22 = .ok (.aload_n 0, 1) := by decide +kernel
theorem d_Drf_readByte_23 : decode (mB m_Drf_readByte) 23 = .ok (.dup, 1) := by decide +kernel
theorem d_Drf_readByte_24 : decode (mB m_Drf_readByte) 24 = .ok (.getfield 74, 3) := by decide +kernel
theorem d_Drf_readByte_27 : decode (mB m_Drf_readByte) 27 = .ok (.iconst 1, 1) := by decide +kernel
theorem d_Drf_readByte_28 : decode (mB m_Drf_readByte) 28 = .ok (.iadd, 1) := by decide +kernel
theorem d_Drf_readByte_29 : decode (mB m_Drf_readByte) 29 = .ok (.putfield 74, 3) := by decide +kernel
theorem d_Drf_readByte_32 : decode (mB m_Drf_readByte) 32 = .ok (.iconst 1, 1) := by decide +kernel
theorem d_Drf_readByte_33 : decode (mB m_Drf_readByte) 33 = .ok (.ireturn, 1) := by decide +kernel
theorem cal_Drf_readByte : mCal m_Drf_readByte 2 := ⟨Or.inl ⟨rfl, goodIn_r _ [558] (by decide +kernel) (by decide +kernel)⟩, by decide, ⟨by decide, by decide⟩, by decide +kernel⟩
abbrev b_Drf_readLetters : ByteArray := prog_5_method_14_code
def m_Drf_readLetters : Mi := (⟨"TextNet$Draft", "readLetters", "(I)Z"⟩, b_Drf_readLetters, 3, (some .boolean), [])
theorem d_Drf_readLetters_0 : decode (mB m_Drf_readLetters) 0 = .ok (.iconst 0, 1) := by decide +kernel
theorem d_Drf_readLetters_1 : decode (mB m_Drf_readLetters) 1 = .ok (.istore_n 2, 1) := by decide +kernel
theorem d_Drf_readLetters_2 : decode (mB m_Drf_readLetters) 2 = .ok (.iload_n 2, 1) := by decide +kernel
theorem d_Drf_readLetters_3 : decode (mB m_Drf_readLetters) 3 = .ok (.bipush 8, 2) := by decide +kernel
theorem d_Drf_readLetters_5 : decode (mB m_Drf_readLetters) 5 = .ok (.if_icmp .ge 43, 3) := by decide +kernel
theorem d_Drf_readLetters_8 : decode (mB m_Drf_readLetters) 8 = .ok (.aload_n 0, 1) := by decide +kernel
theorem d_Drf_readLetters_9 : decode (mB m_Drf_readLetters) 9 = .ok (.aload_n 0, 1) := by decide +kernel
theorem d_Drf_readLetters_10 : decode (mB m_Drf_readLetters) 10 = .ok (.getfield 74, 3) := by decide +kernel
theorem d_Drf_readLetters_13 : decode (mB m_Drf_readLetters) 13 = .ok (.invokevirtual 59, 3) := by decide +kernel
theorem d_Drf_readLetters_16 : decode (mB m_Drf_readLetters) 16 = .ok (.invokestatic 100, 3) := by decide +kernel
theorem d_Drf_readLetters_19 : decode (mB m_Drf_readLetters) 19 = .ok (.ifCond .ne 13, 3) := by decide +kernel
theorem d_Drf_readLetters_22 : decode (mB m_Drf_readLetters) 22 = .ok (.aload_n 0, 1) := by decide +kernel
theorem d_Drf_readLetters_23 : decode (mB m_Drf_readLetters) 23 = .ok (.iload_n 1, 1) := by decide +kernel
theorem d_Drf_readLetters_24 : decode (mB m_Drf_readLetters) 24 = .ok (.aload_n 0, 1) := by decide +kernel
theorem d_Drf_readLetters_25 : decode (mB m_Drf_readLetters) 25 = .ok (.getfield 74, 3) := by decide +kernel
theorem d_Drf_readLetters_28 : decode (mB m_Drf_readLetters) 28 = .ok (.invokevirtual 70, 3) := by decide +kernel
theorem d_Drf_readLetters_31 : decode (mB m_Drf_readLetters) 31 = .ok (.ireturn, 1) := by decide +kernel
theorem d_Drf_readLetters_32 : decode (mB m_Drf_readLetters) 32 = .ok (.aload_n 0, 1) := by decide +kernel
theorem d_Drf_readLetters_33 : decode (mB m_Drf_readLetters) 33 = .ok (.dup, 1) := by decide +kernel
theorem d_Drf_readLetters_34 : decode (mB m_Drf_readLetters) 34 = .ok (.getfield 74, 3) := by decide +kernel
theorem d_Drf_readLetters_37 : decode (mB m_Drf_readLetters) 37 = .ok (.iconst 1, 1) := by decide +kernel
theorem d_Drf_readLetters_38 : decode (mB m_Drf_readLetters) 38 = .ok (.iadd, 1) := by decide +kernel
theorem d_Drf_readLetters_39 : decode (mB m_Drf_readLetters) 39 = .ok (.putfield 74, 3) := by decide +kernel
theorem d_Drf_readLetters_42 : decode (mB m_Drf_readLetters) 42 = .ok (.iinc 2 1, 3) := by decide +kernel
theorem d_Drf_readLetters_45 : decode (mB m_Drf_readLetters) 45 = .ok (.goto (-43), 3) := by decide +kernel
theorem d_Drf_readLetters_48 : decode (mB m_Drf_readLetters) 48 = .ok (.iconst 1, 1) := by decide +kernel
theorem d_Drf_readLetters_49 : decode (mB m_Drf_readLetters) 49 = .ok (.ireturn, 1) := by decide +kernel
theorem cal_Drf_readLetters : mCal m_Drf_readLetters 1 := ⟨Or.inl ⟨rfl, goodIn_r _ [566] (by decide +kernel) (by decide +kernel)⟩, by decide, ⟨by decide, by decide⟩, by decide +kernel⟩
abbrev b_Drf_readLines : ByteArray := prog_5_method_15_code
def m_Drf_readLines : Mi := (⟨"TextNet$Draft", "readLines", "()Z"⟩, b_Drf_readLines, 2, (some .boolean), [])
theorem d_Drf_readLines_0 : decode (mB m_Drf_readLines) 0 = .ok (.iconst 0, 1) := by decide +kernel
theorem d_Drf_readLines_1 : decode (mB m_Drf_readLines) 1 = .ok (.istore_n 1, 1) := by decide +kernel
theorem d_Drf_readLines_2 : decode (mB m_Drf_readLines) 2 = .ok (.iload_n 1, 1) := by decide +kernel
theorem d_Drf_readLines_3 : decode (mB m_Drf_readLines) 3 = .ok (.bipush 20, 2) := by decide +kernel
theorem d_Drf_readLines_5 : decode (mB m_Drf_readLines) 5 = .ok (.if_icmp .ge 25, 3) := by decide +kernel
theorem d_Drf_readLines_8 : decode (mB m_Drf_readLines) 8 = .ok (.aload_n 0, 1) := by decide +kernel
theorem d_Drf_readLines_9 : decode (mB m_Drf_readLines) 9 = .ok (.invokevirtual 103, 3) := by decide +kernel
theorem d_Drf_readLines_12 : decode (mB m_Drf_readLines) 12 = .ok (.ifCond .ne 18, 3) := by decide +kernel
theorem d_Drf_readLines_15 : decode (mB m_Drf_readLines) 15 = .ok (.aload_n 0, 1) := by decide +kernel
theorem d_Drf_readLines_16 : decode (mB m_Drf_readLines) 16 = .ok (.invokevirtual 106, 3) := by decide +kernel
theorem d_Drf_readLines_19 : decode (mB m_Drf_readLines) 19 = .ok (.ifCond .ne 5, 3) := by decide +kernel
theorem d_Drf_readLines_22 : decode (mB m_Drf_readLines) 22 = .ok (.iconst 0, 1) := by decide +kernel
theorem d_Drf_readLines_23 : decode (mB m_Drf_readLines) 23 = .ok (.ireturn, 1) := by decide +kernel
theorem d_Drf_readLines_24 : decode (mB m_Drf_readLines) 24 = .ok (.iinc 1 1, 3) := by decide +kernel
theorem d_Drf_readLines_27 : decode (mB m_Drf_readLines) 27 = .ok (.goto (-25), 3) := by decide +kernel
theorem d_Drf_readLines_30 : decode (mB m_Drf_readLines) 30 = .ok (.aload_n 0, 1) := by decide +kernel
theorem d_Drf_readLines_31 : decode (mB m_Drf_readLines) 31 = .ok (.invokevirtual 103, 3) := by decide +kernel
theorem d_Drf_readLines_34 : decode (mB m_Drf_readLines) 34 = .ok (.ifCond .ne 14, 3) := by decide +kernel
theorem d_Drf_readLines_37 : decode (mB m_Drf_readLines) 37 = .ok (.aload_n 0, 1) := by decide +kernel
theorem d_Drf_readLines_38 : decode (mB m_Drf_readLines) 38 = .ok (.bipush 7, 2) := by decide +kernel
theorem d_Drf_readLines_40 : decode (mB m_Drf_readLines) 40 = .ok (.aload_n 0, 1) := by decide +kernel
theorem d_Drf_readLines_41 : decode (mB m_Drf_readLines) 41 = .ok (.getfield 74, 3) := by decide +kernel
theorem d_Drf_readLines_44 : decode (mB m_Drf_readLines) 44 = .ok (.invokevirtual 70, 3) := by decide +kernel
theorem d_Drf_readLines_47 : decode (mB m_Drf_readLines) 47 = .ok (.ireturn, 1) := by decide +kernel
theorem d_Drf_readLines_48 : decode (mB m_Drf_readLines) 48 = .ok (.aload_n 0, 1) := by decide +kernel
theorem d_Drf_readLines_49 : decode (mB m_Drf_readLines) 49 = .ok (.getfield 74, 3) := by decide +kernel
theorem d_Drf_readLines_52 : decode (mB m_Drf_readLines) 52 = .ok (.ldc 109, 2) := by decide +kernel
theorem d_Drf_readLines_54 : decode (mB m_Drf_readLines) 54 = .ok (.invokevirtual 111, 3) := by decide +kernel
theorem d_Drf_readLines_57 : decode (mB m_Drf_readLines) 57 = .ok (.iadd, 1) := by decide +kernel
theorem d_Drf_readLines_58 : decode (mB m_Drf_readLines) 58 = .ok (.istore_n 1, 1) := by decide +kernel
theorem d_Drf_readLines_59 : decode (mB m_Drf_readLines) 59 = .ok (.aload_n 0, 1) := by decide +kernel
theorem d_Drf_readLines_60 : decode (mB m_Drf_readLines) 60 = .ok (.iload_n 1, 1) := by decide +kernel
theorem d_Drf_readLines_61 : decode (mB m_Drf_readLines) 61 = .ok (.invokevirtual 59, 3) := by decide +kernel
theorem d_Drf_readLines_64 : decode (mB m_Drf_readLines) 64 = .ok (.iconst (-1), 1) := by decide +kernel
theorem d_Drf_readLines_65 : decode (mB m_Drf_readLines) 65 = .ok (.if_icmp .eq 13, 3) := by decide +kernel
theorem d_Drf_readLines_68 : decode (mB m_Drf_readLines) 68 = .ok (.aload_n 0, 1) := by decide +kernel
theorem d_Drf_readLines_69 : decode (mB m_Drf_readLines) 69 = .ok (.bipush 8, 2) := by decide +kernel
theorem d_Drf_readLines_71 : decode (mB m_Drf_readLines) 71 = .ok (.iload_n 1, 1) := by decide +kernel
theorem d_Drf_readLines_72 : decode (mB m_Drf_readLines) 72 = .ok (.invokevirtual 70, 3) := by decide +kernel
theorem d_Drf_readLines_75 : decode (mB m_Drf_readLines) 75 = .ok (.ifCond .eq 7, 3) := by decide +kernel
theorem d_Drf_readLines_78 : decode (mB m_Drf_readLines) 78 = .ok (.iconst 1, 1) := by decide +kernel
theorem d_Drf_readLines_79 : decode (mB m_Drf_readLines) 79 = .ok (.goto 4, 3) := by decide +kernel
theorem d_Drf_readLines_82 : decode (mB m_Drf_readLines) 82 = .ok (.iconst 0, 1) := by decide +kernel
theorem d_Drf_readLines_83 : decode (mB m_Drf_readLines) 83 = .ok (.ireturn, 1) := by decide +kernel
theorem cal_Drf_readLines : mCal m_Drf_readLines 0 := ⟨Or.inl ⟨rfl, goodIn_r _ [591] (by decide +kernel) (by decide +kernel)⟩, by decide, ⟨by decide, by decide⟩, by decide +kernel⟩
abbrev b_Drf_isClosing : ByteArray := prog_5_method_16_code
def m_Drf_isClosing : Mi := (⟨"TextNet$Draft", "isClosing", "()Z"⟩, b_Drf_isClosing, 3, (some .boolean), [])
theorem d_Drf_isClosing_0 : decode (mB m_Drf_isClosing) 0 = .ok (.ldc 109, 2) := by decide +kernel
theorem d_Drf_isClosing_2 : decode (mB m_Drf_isClosing) 2 = .ok (.invokevirtual 111, 3) := by decide +kernel
theorem d_Drf_isClosing_5 : decode (mB m_Drf_isClosing) 5 = .ok (.istore_n 1, 1) := by decide +kernel
theorem d_Drf_isClosing_6 : decode (mB m_Drf_isClosing) 6 = .ok (.iconst 0, 1) := by decide +kernel
theorem d_Drf_isClosing_7 : decode (mB m_Drf_isClosing) 7 = .ok (.istore_n 2, 1) := by decide +kernel
theorem d_Drf_isClosing_8 : decode (mB m_Drf_isClosing) 8 = .ok (.iload_n 2, 1) := by decide +kernel
theorem d_Drf_isClosing_9 : decode (mB m_Drf_isClosing) 9 = .ok (.iload_n 1, 1) := by decide +kernel
theorem d_Drf_isClosing_10 : decode (mB m_Drf_isClosing) 10 = .ok (.if_icmp .ge 30, 3) := by decide +kernel
theorem d_Drf_isClosing_13 : decode (mB m_Drf_isClosing) 13 = .ok (.aload_n 0, 1) := by decide +kernel
theorem d_Drf_isClosing_14 : decode (mB m_Drf_isClosing) 14 = .ok (.aload_n 0, 1) := by decide +kernel
theorem d_Drf_isClosing_15 : decode (mB m_Drf_isClosing) 15 = .ok (.getfield 74, 3) := by decide +kernel
theorem d_Drf_isClosing_18 : decode (mB m_Drf_isClosing) 18 = .ok (.iload_n 2, 1) := by decide +kernel
theorem d_Drf_isClosing_19 : decode (mB m_Drf_isClosing) 19 = .ok (.iadd, 1) := by decide +kernel
theorem d_Drf_isClosing_20 : decode (mB m_Drf_isClosing) 20 = .ok (.invokevirtual 59, 3) := by decide +kernel
theorem d_Drf_isClosing_23 : decode (mB m_Drf_isClosing) 23 = .ok (.ldc 109, 2) := by decide +kernel
theorem d_Drf_isClosing_25 : decode (mB m_Drf_isClosing) 25 = .ok (.iload_n 2, 1) := by decide +kernel
theorem d_Drf_isClosing_26 : decode (mB m_Drf_isClosing) 26 = .ok (.invokevirtual 114, 3) := by decide +kernel
theorem d_Drf_isClosing_29 : decode (mB m_Drf_isClosing) 29 = .ok (.if_icmp .eq 5, 3) := by decide +kernel
theorem d_Drf_isClosing_32 : decode (mB m_Drf_isClosing) 32 = .ok (.iconst 0, 1) := by decide +kernel
theorem d_Drf_isClosing_33 : decode (mB m_Drf_isClosing) 33 = .ok (.ireturn, 1) := by decide +kernel
theorem d_Drf_isClosing_34 : decode (mB m_Drf_isClosing) 34 = .ok (.iinc 2 1, 3) := by decide +kernel
theorem d_Drf_isClosing_37 : decode (mB m_Drf_isClosing) 37 = .ok (.goto (-29), 3) := by decide +kernel
theorem d_Drf_isClosing_40 : decode (mB m_Drf_isClosing) 40 = .ok (.aload_n 0, 1) := by decide +kernel
theorem d_Drf_isClosing_41 : decode (mB m_Drf_isClosing) 41 = .ok (.aload_n 0, 1) := by decide +kernel
theorem d_Drf_isClosing_42 : decode (mB m_Drf_isClosing) 42 = .ok (.getfield 74, 3) := by decide +kernel
theorem d_Drf_isClosing_45 : decode (mB m_Drf_isClosing) 45 = .ok (.iload_n 1, 1) := by decide +kernel
theorem d_Drf_isClosing_46 : decode (mB m_Drf_isClosing) 46 = .ok (.iadd, 1) := by decide +kernel
theorem d_Drf_isClosing_47 : decode (mB m_Drf_isClosing) 47 = .ok (.invokevirtual 59, 3) := by decide +kernel
theorem d_Drf_isClosing_50 : decode (mB m_Drf_isClosing) 50 = .ok (.istore_n 2, 1) := by decide +kernel
theorem d_Drf_isClosing_51 : decode (mB m_Drf_isClosing) 51 = .ok (.iload_n 2, 1) := by decide +kernel
theorem d_Drf_isClosing_52 : decode (mB m_Drf_isClosing) 52 = .ok (.iconst (-1), 1) := by decide +kernel
theorem d_Drf_isClosing_53 : decode (mB m_Drf_isClosing) 53 = .ok (.if_icmp .eq 9, 3) := by decide +kernel
theorem d_Drf_isClosing_56 : decode (mB m_Drf_isClosing) 56 = .ok (.iload_n 2, 1) := by decide +kernel
theorem d_Drf_isClosing_57 : decode (mB m_Drf_isClosing) 57 = .ok (.bipush 10, 2) := by decide +kernel
theorem d_Drf_isClosing_59 : decode (mB m_Drf_isClosing) 59 = .ok (.if_icmp .ne 7, 3) := by decide +kernel
theorem d_Drf_isClosing_62 : decode (mB m_Drf_isClosing) 62 = .ok (.iconst 1, 1) := by decide +kernel
theorem d_Drf_isClosing_63 : decode (mB m_Drf_isClosing) 63 = .ok (.goto 4, 3) := by decide +kernel
theorem d_Drf_isClosing_66 : decode (mB m_Drf_isClosing) 66 = .ok (.iconst 0, 1) := by decide +kernel
theorem d_Drf_isClosing_67 : decode (mB m_Drf_isClosing) 67 = .ok (.ireturn, 1) := by decide +kernel
theorem cal_Drf_isClosing : mCal m_Drf_isClosing 0 := ⟨Or.inl ⟨rfl, goodIn_r _ [595] (by decide +kernel) (by decide +kernel)⟩, by decide, ⟨by decide, by decide⟩, by decide +kernel⟩
abbrev b_Drf_readLine : ByteArray := prog_5_method_17_code
def m_Drf_readLine : Mi := (⟨"TextNet$Draft", "readLine", "()Z"⟩, b_Drf_readLine, 2, (some .boolean), [])
theorem d_Drf_readLine_0 : decode (mB m_Drf_readLine) 0 = .ok (.iconst 0, 1) := by decide +kernel
theorem d_Drf_readLine_1 : decode (mB m_Drf_readLine) 1 = .ok (.istore_n 1, 1) := by decide +kernel
theorem d_Drf_readLine_2 : decode (mB m_Drf_readLine) 2 = .ok (.iload_n 1, 1) := by decide +kernel
theorem d_Drf_readLine_3 : decode (mB m_Drf_readLine) 3 = .ok (.bipush 69, 2) := by decide +kernel
theorem d_Drf_readLine_5 : decode (mB m_Drf_readLine) 5 = .ok (.if_icmp .ge 33, 3) := by decide +kernel
theorem d_Drf_readLine_8 : decode (mB m_Drf_readLine) 8 = .ok (.aload_n 0, 1) := by decide +kernel
theorem d_Drf_readLine_9 : decode (mB m_Drf_readLine) 9 = .ok (.aload_n 0, 1) := by decide +kernel
theorem d_Drf_readLine_10 : decode (mB m_Drf_readLine) 10 = .ok (.getfield 74, 3) := by decide +kernel
theorem d_Drf_readLine_13 : decode (mB m_Drf_readLine) 13 = .ok (.invokevirtual 59, 3) := by decide +kernel
theorem d_Drf_readLine_16 : decode (mB m_Drf_readLine) 16 = .ok (.invokestatic 118, 3) := by decide +kernel
theorem d_Drf_readLine_19 : decode (mB m_Drf_readLine) 19 = .ok (.ifCond .eq 19, 3) := by decide +kernel
theorem d_Drf_readLine_22 : decode (mB m_Drf_readLine) 22 = .ok (.iinc 1 1, 3) := by decide +kernel
theorem d_Drf_readLine_25 : decode (mB m_Drf_readLine) 25 = .ok (.aload_n 0, 1) := by decide +kernel
theorem d_Drf_readLine_26 : decode (mB m_Drf_readLine) 26 = .ok (.dup, 1) := by decide +kernel
theorem d_Drf_readLine_27 : decode (mB m_Drf_readLine) 27 = .ok (.getfield 74, 3) := by decide +kernel
theorem d_Drf_readLine_30 : decode (mB m_Drf_readLine) 30 = .ok (.iconst 1, 1) := by decide +kernel
theorem d_Drf_readLine_31 : decode (mB m_Drf_readLine) 31 = .ok (.iadd, 1) := by decide +kernel
theorem d_Drf_readLine_32 : decode (mB m_Drf_readLine) 32 = .ok (.putfield 74, 3) := by decide +kernel
theorem d_Drf_readLine_35 : decode (mB m_Drf_readLine) 35 = .ok (.goto (-33), 3) := by decide +kernel
theorem d_Drf_readLine_38 : decode (mB m_Drf_readLine) 38 = .ok (.iload_n 1, 1) := by decide +kernel
theorem d_Drf_readLine_39 : decode (mB m_Drf_readLine) 39 = .ok (.ifCond .ne 16, 3) := by decide +kernel
theorem d_Drf_readLine_42 : decode (mB m_Drf_readLine) 42 = .ok (.aload_n 0, 1) := by decide +kernel
theorem d_Drf_readLine_43 : decode (mB m_Drf_readLine) 43 = .ok (.bipush 6, 2) := by decide +kernel
theorem d_Drf_readLine_45 : decode (mB m_Drf_readLine) 45 = .ok (.aload_n 0, 1) := by decide +kernel
theorem d_Drf_readLine_46 : decode (mB m_Drf_readLine) 46 = .ok (.getfield 74, 3) := by decide +kernel
theorem d_Drf_readLine_49 : decode (mB m_Drf_readLine) 49 = .ok (.invokevirtual 70, 3) := by decide +kernel
theorem d_Drf_readLine_52 : decode (mB m_Drf_readLine) 52 = .ok (.goto 11, 3) := by decide +kernel
theorem d_Drf_readLine_55 : decode (mB m_Drf_readLine) 55 = .ok (.aload_n 0, 1) := by decide +kernel
theorem d_Drf_readLine_56 : decode (mB m_Drf_readLine) 56 = .ok (.bipush 10, 2) := by decide +kernel
theorem d_Drf_readLine_58 : decode (mB m_Drf_readLine) 58 = .ok (.bipush 6, 2) := by decide +kernel
theorem d_Drf_readLine_60 : decode (mB m_Drf_readLine) 60 = .ok (.invokevirtual 77, 3) := by decide +kernel
theorem d_Drf_readLine_63 : decode (mB m_Drf_readLine) 63 = .ok (.ireturn, 1) := by decide +kernel
theorem cal_Drf_readLine : mCal m_Drf_readLine 0 := ⟨Or.inl ⟨rfl, goodIn_r _ [621] (by decide +kernel) (by decide +kernel)⟩, by decide, ⟨by decide, by decide⟩, by decide +kernel⟩
abbrev b_Ent_init : ByteArray := prog_6_method_1_code
def m_Ent_init : Mi := (⟨"TextNet$Entry", "<init>", "(JIII)V"⟩, b_Ent_init, 6, none, [])
theorem d_Ent_init_0 : decode (mB m_Ent_init) 0 = .ok (.aload_n 0, 1) := by decide +kernel
theorem d_Ent_init_1 : decode (mB m_Ent_init) 1 = .ok (.invokespecial 1, 3) := by decide +kernel
theorem d_Ent_init_4 : decode (mB m_Ent_init) 4 = .ok (.aload_n 0, 1) := by decide +kernel
theorem d_Ent_init_5 : decode (mB m_Ent_init) 5 = .ok (.lload_n 1, 1) := by decide +kernel
theorem d_Ent_init_6 : decode (mB m_Ent_init) 6 = .ok (.putfield 7, 3) := by decide +kernel
theorem d_Ent_init_9 : decode (mB m_Ent_init) 9 = .ok (.aload_n 0, 1) := by decide +kernel
theorem d_Ent_init_10 : decode (mB m_Ent_init) 10 = .ok (.iload_n 3, 1) := by decide +kernel
theorem d_Ent_init_11 : decode (mB m_Ent_init) 11 = .ok (.putfield 13, 3) := by decide +kernel
theorem d_Ent_init_14 : decode (mB m_Ent_init) 14 = .ok (.aload_n 0, 1) := by decide +kernel
theorem d_Ent_init_15 : decode (mB m_Ent_init) 15 = .ok (.iload 4, 2) := by decide +kernel
theorem d_Ent_init_17 : decode (mB m_Ent_init) 17 = .ok (.putfield 17, 3) := by decide +kernel
theorem d_Ent_init_20 : decode (mB m_Ent_init) 20 = .ok (.aload_n 0, 1) := by decide +kernel
theorem d_Ent_init_21 : decode (mB m_Ent_init) 21 = .ok (.iload 5, 2) := by decide +kernel
theorem d_Ent_init_23 : decode (mB m_Ent_init) 23 = .ok (.putfield 20, 3) := by decide +kernel
theorem d_Ent_init_26 : decode (mB m_Ent_init) 26 = .ok (.return_, 1) := by decide +kernel
theorem cal_Ent_init : mCal m_Ent_init 4 := ⟨Or.inl ⟨rfl, goodIn_r _ [410] (by decide +kernel) (by decide +kernel)⟩, by decide, ⟨by decide, by decide⟩, by decide +kernel⟩
abbrev b_Ent_begins : ByteArray := prog_6_method_2_code
def m_Ent_begins : Mi := (⟨"TextNet$Entry", "begins", "(J)Z"⟩, b_Ent_begins, 3, (some .boolean), [])
theorem d_Ent_begins_0 : decode (mB m_Ent_begins) 0 = .ok (.lload_n 1, 1) := by decide +kernel
theorem d_Ent_begins_1 : decode (mB m_Ent_begins) 1 = .ok (.aload_n 0, 1) := by decide +kernel
theorem d_Ent_begins_2 : decode (mB m_Ent_begins) 2 = .ok (.getfield 13, 3) := by decide +kernel
theorem d_Ent_begins_5 : decode (mB m_Ent_begins) 5 = .ok (.invokestatic 23, 3) := by decide +kernel
theorem d_Ent_begins_8 : decode (mB m_Ent_begins) 8 = .ok (.land, 1) := by decide +kernel
theorem d_Ent_begins_9 : decode (mB m_Ent_begins) 9 = .ok (.aload_n 0, 1) := by decide +kernel
theorem d_Ent_begins_10 : decode (mB m_Ent_begins) 10 = .ok (.getfield 7, 3) := by decide +kernel
theorem d_Ent_begins_13 : decode (mB m_Ent_begins) 13 = .ok (.lcmp, 1) := by decide +kernel
theorem d_Ent_begins_14 : decode (mB m_Ent_begins) 14 = .ok (.ifCond .ne 7, 3) := by decide +kernel
theorem d_Ent_begins_17 : decode (mB m_Ent_begins) 17 = .ok (.iconst 1, 1) := by decide +kernel
theorem d_Ent_begins_18 : decode (mB m_Ent_begins) 18 = .ok (.goto 4, 3) := by decide +kernel
theorem d_Ent_begins_21 : decode (mB m_Ent_begins) 21 = .ok (.iconst 0, 1) := by decide +kernel
theorem d_Ent_begins_22 : decode (mB m_Ent_begins) 22 = .ok (.ireturn, 1) := by decide +kernel
theorem cal_Ent_begins : mCal m_Ent_begins 1 := ⟨Or.inl ⟨rfl, goodIn_r _ [697] (by decide +kernel) (by decide +kernel)⟩, by decide, ⟨by decide, by decide⟩, by decide +kernel⟩
abbrev b_Frm_init : ByteArray := prog_7_method_1_code
def m_Frm_init : Mi := (⟨"TextNet$Frame", "<init>", "(ILTextNet$Copy;Z)V"⟩, b_Frm_init, 4, none, [])
theorem d_Frm_init_0 : decode (mB m_Frm_init) 0 = .ok (.aload_n 0, 1) := by decide +kernel
theorem d_Frm_init_1 : decode (mB m_Frm_init) 1 = .ok (.invokespecial 1, 3) := by decide +kernel
theorem d_Frm_init_4 : decode (mB m_Frm_init) 4 = .ok (.aload_n 0, 1) := by decide +kernel
theorem d_Frm_init_5 : decode (mB m_Frm_init) 5 = .ok (.iload_n 1, 1) := by decide +kernel
theorem d_Frm_init_6 : decode (mB m_Frm_init) 6 = .ok (.putfield 7, 3) := by decide +kernel
theorem d_Frm_init_9 : decode (mB m_Frm_init) 9 = .ok (.aload_n 0, 1) := by decide +kernel
theorem d_Frm_init_10 : decode (mB m_Frm_init) 10 = .ok (.aload_n 2, 1) := by decide +kernel
theorem d_Frm_init_11 : decode (mB m_Frm_init) 11 = .ok (.putfield 13, 3) := by decide +kernel
theorem d_Frm_init_14 : decode (mB m_Frm_init) 14 = .ok (.aload_n 0, 1) := by decide +kernel
theorem d_Frm_init_15 : decode (mB m_Frm_init) 15 = .ok (.iload_n 3, 1) := by decide +kernel
theorem d_Frm_init_16 : decode (mB m_Frm_init) 16 = .ok (.putfield 17, 3) := by decide +kernel
theorem d_Frm_init_19 : decode (mB m_Frm_init) 19 = .ok (.return_, 1) := by decide +kernel
theorem cal_Frm_init : mCal m_Frm_init 3 := ⟨Or.inl ⟨rfl, goodIn_r _ [793] (by decide +kernel) (by decide +kernel)⟩, by decide, ⟨by decide, by decide⟩, by decide +kernel⟩
abbrev b_Frs_init : ByteArray := prog_8_method_1_code
def m_Frs_init : Mi := (⟨"TextNet$Frames", "<init>", "(I)V"⟩, b_Frs_init, 2, none, [])
theorem d_Frs_init_0 : decode (mB m_Frs_init) 0 = .ok (.aload_n 0, 1) := by decide +kernel
theorem d_Frs_init_1 : decode (mB m_Frs_init) 1 = .ok (.invokespecial 3, 3) := by decide +kernel
theorem d_Frs_init_4 : decode (mB m_Frs_init) 4 = .ok (.aload_n 0, 1) := by decide +kernel
theorem d_Frs_init_5 : decode (mB m_Frs_init) 5 = .ok (.iload_n 1, 1) := by decide +kernel
theorem d_Frs_init_6 : decode (mB m_Frs_init) 6 = .ok (.iconst 1, 1) := by decide +kernel
theorem d_Frs_init_7 : decode (mB m_Frs_init) 7 = .ok (.invokestatic 9, 3) := by decide +kernel
theorem d_Frs_init_10 : decode (mB m_Frs_init) 10 = .ok (.anewarray 15, 3) := by decide +kernel
theorem d_Frs_init_13 : decode (mB m_Frs_init) 13 = .ok (.putfield 17, 3) := by decide +kernel
theorem d_Frs_init_16 : decode (mB m_Frs_init) 16 = .ok (.return_, 1) := by decide +kernel
theorem cal_Frs_init : mCal m_Frs_init 1 := ⟨Or.inl ⟨rfl, goodIn_r _ [283] (by decide +kernel) (by decide +kernel)⟩, by decide, ⟨by decide, by decide⟩, by decide +kernel⟩
abbrev b_Frs_isFull : ByteArray := prog_8_method_2_code
def m_Frs_isFull : Mi := (⟨"TextNet$Frames", "isFull", "()Z"⟩, b_Frs_isFull, 1, (some .boolean), [])
theorem d_Frs_isFull_0 : decode (mB m_Frs_isFull) 0 = .ok (.aload_n 0, 1) := by decide +kernel
theorem d_Frs_isFull_1 : decode (mB m_Frs_isFull) 1 = .ok (.getfield 23, 3) := by decide +kernel
theorem d_Frs_isFull_4 : decode (mB m_Frs_isFull) 4 = .ok (.aload_n 0, 1) := by decide +kernel
theorem d_Frs_isFull_5 : decode (mB m_Frs_isFull) 5 = .ok (.getfield 17, 3) := by decide +kernel
theorem d_Frs_isFull_8 : decode (mB m_Frs_isFull) 8 = .ok (.arraylength, 1) := by decide +kernel
theorem d_Frs_isFull_9 : decode (mB m_Frs_isFull) 9 = .ok (.if_icmp .lt 7, 3) := by decide +kernel
theorem d_Frs_isFull_12 : decode (mB m_Frs_isFull) 12 = .ok (.iconst 1, 1) := by decide +kernel
theorem d_Frs_isFull_13 : decode (mB m_Frs_isFull) 13 = .ok (.goto 4, 3) := by decide +kernel
theorem d_Frs_isFull_16 : decode (mB m_Frs_isFull) 16 = .ok (.iconst 0, 1) := by decide +kernel
theorem d_Frs_isFull_17 : decode (mB m_Frs_isFull) 17 = .ok (.ireturn, 1) := by decide +kernel
theorem cal_Frs_isFull : mCal m_Frs_isFull 0 := ⟨Or.inl ⟨rfl, goodIn_r _ [777] (by decide +kernel) (by decide +kernel)⟩, by decide, ⟨by decide, by decide⟩, by decide +kernel⟩
abbrev b_Frs_placeOf : ByteArray := prog_8_method_3_code
def m_Frs_placeOf : Mi := (⟨"TextNet$Frames", "placeOf", "(I)I"⟩, b_Frs_placeOf, 3, (some .int), [])
theorem d_Frs_placeOf_0 : decode (mB m_Frs_placeOf) 0 = .ok (.aload_n 0, 1) := by decide +kernel
theorem d_Frs_placeOf_1 : decode (mB m_Frs_placeOf) 1 = .ok (.getfield 27, 3) := by decide +kernel
theorem d_Frs_placeOf_4 : decode (mB m_Frs_placeOf) 4 = .ok (.iload_n 1, 1) := by decide +kernel
theorem d_Frs_placeOf_5 : decode (mB m_Frs_placeOf) 5 = .ok (.iadd, 1) := by decide +kernel
theorem d_Frs_placeOf_6 : decode (mB m_Frs_placeOf) 6 = .ok (.istore_n 2, 1) := by decide +kernel
theorem d_Frs_placeOf_7 : decode (mB m_Frs_placeOf) 7 = .ok (.iload_n 2, 1) := by decide +kernel
theorem d_Frs_placeOf_8 : decode (mB m_Frs_placeOf) 8 = .ok (.aload_n 0, 1) := by decide +kernel
theorem d_Frs_placeOf_9 : decode (mB m_Frs_placeOf) 9 = .ok (.getfield 17, 3) := by decide +kernel
theorem d_Frs_placeOf_12 : decode (mB m_Frs_placeOf) 12 = .ok (.arraylength, 1) := by decide +kernel
theorem d_Frs_placeOf_13 : decode (mB m_Frs_placeOf) 13 = .ok (.if_icmp .ge 7, 3) := by decide +kernel
theorem d_Frs_placeOf_16 : decode (mB m_Frs_placeOf) 16 = .ok (.iload_n 2, 1) := by decide +kernel
theorem d_Frs_placeOf_17 : decode (mB m_Frs_placeOf) 17 = .ok (.goto 10, 3) := by decide +kernel
theorem d_Frs_placeOf_20 : decode (mB m_Frs_placeOf) 20 = .ok (.iload_n 2, 1) := by decide +kernel
theorem d_Frs_placeOf_21 : decode (mB m_Frs_placeOf) 21 = .ok (.aload_n 0, 1) := by decide +kernel
theorem d_Frs_placeOf_22 : decode (mB m_Frs_placeOf) 22 = .ok (.getfield 17, 3) := by decide +kernel
theorem d_Frs_placeOf_25 : decode (mB m_Frs_placeOf) 25 = .ok (.arraylength, 1) := by decide +kernel
theorem d_Frs_placeOf_26 : decode (mB m_Frs_placeOf) 26 = .ok (.isub, 1) := by decide +kernel
theorem d_Frs_placeOf_27 : decode (mB m_Frs_placeOf) 27 = .ok (.ireturn, 1) := by decide +kernel
theorem cal_Frs_placeOf : mCal m_Frs_placeOf 1 := ⟨Or.inl ⟨rfl, goodIn_r _ [817] (by decide +kernel) (by decide +kernel)⟩, by decide, ⟨by decide, by decide⟩, by decide +kernel⟩
abbrev b_Frs_frameAt : ByteArray := prog_8_method_4_code
def m_Frs_frameAt : Mi := (⟨"TextNet$Frames", "frameAt", "(I)LTextNet$Frame;"⟩, b_Frs_frameAt, 2, (some (.object "TextNet$Frame")), [])
theorem d_Frs_frameAt_0 : decode (mB m_Frs_frameAt) 0 = .ok (.iload_n 1, 1) := by decide +kernel
theorem d_Frs_frameAt_1 : decode (mB m_Frs_frameAt) 1 = .ok (.ifCond .lt 24, 3) := by decide +kernel
theorem d_Frs_frameAt_4 : decode (mB m_Frs_frameAt) 4 = .ok (.iload_n 1, 1) := by decide +kernel
theorem d_Frs_frameAt_5 : decode (mB m_Frs_frameAt) 5 = .ok (.aload_n 0, 1) := by decide +kernel
theorem d_Frs_frameAt_6 : decode (mB m_Frs_frameAt) 6 = .ok (.getfield 23, 3) := by decide +kernel
theorem d_Frs_frameAt_9 : decode (mB m_Frs_frameAt) 9 = .ok (.if_icmp .ge 16, 3) := by decide +kernel
theorem d_Frs_frameAt_12 : decode (mB m_Frs_frameAt) 12 = .ok (.aload_n 0, 1) := by decide +kernel
theorem d_Frs_frameAt_13 : decode (mB m_Frs_frameAt) 13 = .ok (.getfield 17, 3) := by decide +kernel
theorem d_Frs_frameAt_16 : decode (mB m_Frs_frameAt) 16 = .ok (.aload_n 0, 1) := by decide +kernel
theorem d_Frs_frameAt_17 : decode (mB m_Frs_frameAt) 17 = .ok (.iload_n 1, 1) := by decide +kernel
theorem d_Frs_frameAt_18 : decode (mB m_Frs_frameAt) 18 = .ok (.invokevirtual 30, 3) := by decide +kernel
theorem d_Frs_frameAt_21 : decode (mB m_Frs_frameAt) 21 = .ok (.aaload, 1) := by decide +kernel
theorem d_Frs_frameAt_22 : decode (mB m_Frs_frameAt) 22 = .ok (.goto 4, 3) := by decide +kernel
theorem d_Frs_frameAt_25 : decode (mB m_Frs_frameAt) 25 = .ok (.aconst_null, 1) := by decide +kernel
theorem d_Frs_frameAt_26 : decode (mB m_Frs_frameAt) 26 = .ok (.areturn, 1) := by decide +kernel
theorem cal_Frs_frameAt : mCal m_Frs_frameAt 1 := ⟨Or.inl ⟨rfl, goodIn_r _ [836] (by decide +kernel) (by decide +kernel)⟩, by decide, ⟨by decide, by decide⟩, by decide +kernel⟩
abbrev b_Frs_indexOf : ByteArray := prog_8_method_5_code
def m_Frs_indexOf : Mi := (⟨"TextNet$Frames", "indexOf", "(I)I"⟩, b_Frs_indexOf, 4, (some .int), [])
theorem d_Frs_indexOf_0 : decode (mB m_Frs_indexOf) 0 = .ok (.iconst 0, 1) := by decide +kernel
theorem d_Frs_indexOf_1 : decode (mB m_Frs_indexOf) 1 = .ok (.istore_n 2, 1) := by decide +kernel
theorem d_Frs_indexOf_2 : decode (mB m_Frs_indexOf) 2 = .ok (.iload_n 2, 1) := by decide +kernel
theorem d_Frs_indexOf_3 : decode (mB m_Frs_indexOf) 3 = .ok (.aload_n 0, 1) := by decide +kernel
theorem d_Frs_indexOf_4 : decode (mB m_Frs_indexOf) 4 = .ok (.getfield 23, 3) := by decide +kernel
theorem d_Frs_indexOf_7 : decode (mB m_Frs_indexOf) 7 = .ok (.if_icmp .ge 29, 3) := by decide +kernel
theorem d_Frs_indexOf_10 : decode (mB m_Frs_indexOf) 10 = .ok (.aload_n 0, 1) := by decide +kernel
theorem d_Frs_indexOf_11 : decode (mB m_Frs_indexOf) 11 = .ok (.iload_n 2, 1) := by decide +kernel
theorem d_Frs_indexOf_12 : decode (mB m_Frs_indexOf) 12 = .ok (.invokevirtual 34, 3) := by decide +kernel
theorem d_Frs_indexOf_15 : decode (mB m_Frs_indexOf) 15 = .ok (.astore_n 3, 1) := by decide +kernel
theorem d_Frs_indexOf_16 : decode (mB m_Frs_indexOf) 16 = .ok (.aload_n 3, 1) := by decide +kernel
theorem d_Frs_indexOf_17 : decode (mB m_Frs_indexOf) 17 = .ok (.ifnull 13, 3) := by decide +kernel
theorem d_Frs_indexOf_20 : decode (mB m_Frs_indexOf) 20 = .ok (.aload_n 3, 1) := by decide +kernel
theorem d_Frs_indexOf_21 : decode (mB m_Frs_indexOf) 21 = .ok (.getfield 38, 3) := by decide +kernel
theorem d_Frs_indexOf_24 : decode (mB m_Frs_indexOf) 24 = .ok (.iload_n 1, 1) := by decide +kernel
theorem d_Frs_indexOf_25 : decode (mB m_Frs_indexOf) 25 = .ok (.if_icmp .ne 5, 3) := by decide +kernel
theorem d_Frs_indexOf_28 : decode (mB m_Frs_indexOf) 28 = .ok (.iload_n 2, 1) := by decide +kernel
theorem d_Frs_indexOf_29 : decode (mB m_Frs_indexOf) 29 = .ok (.ireturn, 1) := by decide +kernel
theorem d_Frs_indexOf_30 : decode (mB m_Frs_indexOf) 30 = .ok (.iinc 2 1, 3) := by decide +kernel
theorem d_Frs_indexOf_33 : decode (mB m_Frs_indexOf) 33 = .ok (.goto (-31), 3) := by decide +kernel
theorem d_Frs_indexOf_36 : decode (mB m_Frs_indexOf) 36 = .ok (.iconst (-1), 1) := by decide +kernel
theorem d_Frs_indexOf_37 : decode (mB m_Frs_indexOf) 37 = .ok (.ireturn, 1) := by decide +kernel
theorem cal_Frs_indexOf : mCal m_Frs_indexOf 1 := ⟨Or.inl ⟨rfl, goodIn_r _ [863] (by decide +kernel) (by decide +kernel)⟩, by decide, ⟨by decide, by decide⟩, by decide +kernel⟩
abbrev b_Frs_add : ByteArray := prog_8_method_6_code
def m_Frs_add : Mi := (⟨"TextNet$Frames", "add", "(LTextNet$Frame;)V"⟩, b_Frs_add, 2, none, [])
theorem d_Frs_add_0 : decode (mB m_Frs_add) 0 = .ok (.aload_n 0, 1) := by decide +kernel
theorem d_Frs_add_1 : decode (mB m_Frs_add) 1 = .ok (.invokevirtual 41, 3) := by decide +kernel
theorem d_Frs_add_4 : decode (mB m_Frs_add) 4 = .ok (.ifCond .ne 27, 3) := by decide +kernel
theorem d_Frs_add_7 : decode (mB m_Frs_add) 7 = .ok (.aload_n 0, 1) := by decide +kernel
theorem d_Frs_add_8 : decode (mB m_Frs_add) 8 = .ok (.getfield 17, 3) := by decide +kernel
theorem d_Frs_add_11 : decode (mB m_Frs_add) 11 = .ok (.aload_n 0, 1) := by decide +kernel
theorem d_Frs_add_12 : decode (mB m_Frs_add) 12 = .ok (.aload_n 0, 1) := by decide +kernel
theorem d_Frs_add_13 : decode (mB m_Frs_add) 13 = .ok (.getfield 23, 3) := by decide +kernel
theorem d_Frs_add_16 : decode (mB m_Frs_add) 16 = .ok (.invokevirtual 30, 3) := by decide +kernel
theorem d_Frs_add_19 : decode (mB m_Frs_add) 19 = .ok (.aload_n 1, 1) := by decide +kernel
theorem d_Frs_add_20 : decode (mB m_Frs_add) 20 = .ok (.aastore, 1) := by decide +kernel
theorem d_Frs_add_21 : decode (mB m_Frs_add) 21 = .ok (.aload_n 0, 1) := by decide +kernel
theorem d_Frs_add_22 : decode (mB m_Frs_add) 22 = .ok (.dup, 1) := by decide +kernel
theorem d_Frs_add_23 : decode (mB m_Frs_add) 23 = .ok (.getfield 23, 3) := by decide +kernel
theorem d_Frs_add_26 : decode (mB m_Frs_add) 26 = .ok (.iconst 1, 1) := by decide +kernel
theorem d_Frs_add_27 : decode (mB m_Frs_add) 27 = .ok (.iadd, 1) := by decide +kernel
theorem d_Frs_add_28 : decode (mB m_Frs_add) 28 = .ok (.putfield 23, 3) := by decide +kernel
theorem d_Frs_add_31 : decode (mB m_Frs_add) 31 = .ok (.return_, 1) := by decide +kernel
theorem cal_Frs_add : mCal m_Frs_add 1 := ⟨Or.inl ⟨rfl, goodIn_r _ [812] (by decide +kernel) (by decide +kernel)⟩, by decide, ⟨by decide, by decide⟩, by decide +kernel⟩
abbrev b_Frs_takeFirst : ByteArray := prog_8_method_7_code
def m_Frs_takeFirst : Mi := (⟨"TextNet$Frames", "takeFirst", "()LTextNet$Frame;"⟩, b_Frs_takeFirst, 2, (some (.object "TextNet$Frame")), [])
theorem d_Frs_takeFirst_0 : decode (mB m_Frs_takeFirst) 0 = .ok (.aload_n 0, 1) := by decide +kernel
theorem d_Frs_takeFirst_1 : decode (mB m_Frs_takeFirst) 1 = .ok (.iconst 0, 1) := by decide +kernel
theorem d_Frs_takeFirst_2 : decode (mB m_Frs_takeFirst) 2 = .ok (.invokevirtual 34, 3) := by decide +kernel
theorem d_Frs_takeFirst_5 : decode (mB m_Frs_takeFirst) 5 = .ok (.astore_n 1, 1) := by decide +kernel
theorem d_Frs_takeFirst_6 : decode (mB m_Frs_takeFirst) 6 = .ok (.aload_n 1, 1) := by decide +kernel
theorem d_Frs_takeFirst_7 : decode (mB m_Frs_takeFirst) 7 = .ok (.ifnull 22, 3) := by decide +kernel
theorem d_Frs_takeFirst_10 : decode (mB m_Frs_takeFirst) 10 = .ok (.aload_n 0, 1) := by decide +kernel
theorem d_Frs_takeFirst_11 : decode (mB m_Frs_takeFirst) 11 = .ok (.aload_n 0, 1) := by decide +kernel
theorem d_Frs_takeFirst_12 : decode (mB m_Frs_takeFirst) 12 = .ok (.iconst 1, 1) := by decide +kernel
theorem d_Frs_takeFirst_13 : decode (mB m_Frs_takeFirst) 13 = .ok (.invokevirtual 30, 3) := by decide +kernel
theorem d_Frs_takeFirst_16 : decode (mB m_Frs_takeFirst) 16 = .ok (.putfield 27, 3) := by decide +kernel
theorem d_Frs_takeFirst_19 : decode (mB m_Frs_takeFirst) 19 = .ok (.aload_n 0, 1) := by decide +kernel
theorem d_Frs_takeFirst_20 : decode (mB m_Frs_takeFirst) 20 = .ok (.dup, 1) := by decide +kernel
theorem d_Frs_takeFirst_21 : decode (mB m_Frs_takeFirst) 21 = .ok (.getfield 23, 3) := by decide +kernel
theorem d_Frs_takeFirst_24 : decode (mB m_Frs_takeFirst) 24 = .ok (.iconst 1, 1) := by decide +kernel
theorem d_Frs_takeFirst_25 : decode (mB m_Frs_takeFirst) 25 = .ok (.isub, 1) := by decide +kernel
theorem d_Frs_takeFirst_26 : decode (mB m_Frs_takeFirst) 26 = .ok (.putfield 23, 3) := by decide +kernel
theorem d_Frs_takeFirst_29 : decode (mB m_Frs_takeFirst) 29 = .ok (.aload_n 1, 1) := by decide +kernel
theorem d_Frs_takeFirst_30 : decode (mB m_Frs_takeFirst) 30 = .ok (.areturn, 1) := by decide +kernel
theorem cal_Frs_takeFirst : mCal m_Frs_takeFirst 0 := ⟨Or.inl ⟨rfl, goodIn_r _ [832] (by decide +kernel) (by decide +kernel)⟩, by decide, ⟨by decide, by decide⟩, by decide +kernel⟩
abbrev b_Frs_doubleFirst : ByteArray := prog_8_method_8_code
def m_Frs_doubleFirst : Mi := (⟨"TextNet$Frames", "doubleFirst", "()Z"⟩, b_Frs_doubleFirst, 2, (some .boolean), [])
theorem d_Frs_doubleFirst_0 : decode (mB m_Frs_doubleFirst) 0 = .ok (.aload_n 0, 1) := by decide +kernel
theorem d_Frs_doubleFirst_1 : decode (mB m_Frs_doubleFirst) 1 = .ok (.iconst 0, 1) := by decide +kernel
theorem d_Frs_doubleFirst_2 : decode (mB m_Frs_doubleFirst) 2 = .ok (.invokevirtual 34, 3) := by decide +kernel
theorem d_Frs_doubleFirst_5 : decode (mB m_Frs_doubleFirst) 5 = .ok (.astore_n 1, 1) := by decide +kernel
theorem d_Frs_doubleFirst_6 : decode (mB m_Frs_doubleFirst) 6 = .ok (.aload_n 1, 1) := by decide +kernel
theorem d_Frs_doubleFirst_7 : decode (mB m_Frs_doubleFirst) 7 = .ok (.ifnull 10, 3) := by decide +kernel
theorem d_Frs_doubleFirst_10 : decode (mB m_Frs_doubleFirst) 10 = .ok (.aload_n 0, 1) := by decide +kernel
theorem d_Frs_doubleFirst_11 : decode (mB m_Frs_doubleFirst) 11 = .ok (.invokevirtual 41, 3) := by decide +kernel
theorem d_Frs_doubleFirst_14 : decode (mB m_Frs_doubleFirst) 14 = .ok (.ifCond .eq 5, 3) := by decide +kernel
theorem d_Frs_doubleFirst_17 : decode (mB m_Frs_doubleFirst) 17 = .ok (.iconst 0, 1) := by decide +kernel
theorem d_Frs_doubleFirst_18 : decode (mB m_Frs_doubleFirst) 18 = .ok (.ireturn, 1) := by decide +kernel
theorem d_Frs_doubleFirst_19 : decode (mB m_Frs_doubleFirst) 19 = .ok (.aload_n 0, 1) := by decide +kernel
theorem d_Frs_doubleFirst_20 : decode (mB m_Frs_doubleFirst) 20 = .ok (.aload_n 0, 1) := by decide +kernel
theorem d_Frs_doubleFirst_21 : decode (mB m_Frs_doubleFirst) 21 = .ok (.aload_n 0, 1) := by decide +kernel
theorem d_Frs_doubleFirst_22 : decode (mB m_Frs_doubleFirst) 22 = .ok (.getfield 17, 3) := by decide +kernel
theorem d_Frs_doubleFirst_25 : decode (mB m_Frs_doubleFirst) 25 = .ok (.arraylength, 1) := by decide +kernel
theorem d_Frs_doubleFirst_26 : decode (mB m_Frs_doubleFirst) 26 = .ok (.iconst 1, 1) := by decide +kernel
theorem d_Frs_doubleFirst_27 : decode (mB m_Frs_doubleFirst) 27 = .ok (.isub, 1) := by decide +kernel
theorem d_Frs_doubleFirst_28 : decode (mB m_Frs_doubleFirst) 28 = .ok (.invokevirtual 30, 3) := by decide +kernel
theorem d_Frs_doubleFirst_31 : decode (mB m_Frs_doubleFirst) 31 = .ok (.putfield 27, 3) := by decide +kernel
theorem d_Frs_doubleFirst_34 : decode (mB m_Frs_doubleFirst) 34 = .ok (.aload_n 0, 1) := by decide +kernel
theorem d_Frs_doubleFirst_35 : decode (mB m_Frs_doubleFirst) 35 = .ok (.getfield 17, 3) := by decide +kernel
theorem d_Frs_doubleFirst_38 : decode (mB m_Frs_doubleFirst) 38 = .ok (.aload_n 0, 1) := by decide +kernel
theorem d_Frs_doubleFirst_39 : decode (mB m_Frs_doubleFirst) 39 = .ok (.getfield 27, 3) := by decide +kernel
theorem d_Frs_doubleFirst_42 : decode (mB m_Frs_doubleFirst) 42 = .ok (.aload_n 1, 1) := by decide +kernel
theorem d_Frs_doubleFirst_43 : decode (mB m_Frs_doubleFirst) 43 = .ok (.aastore, 1) := by decide +kernel
theorem d_Frs_doubleFirst_44 : decode (mB m_Frs_doubleFirst) 44 = .ok (.aload_n 0, 1) := by decide +kernel
theorem d_Frs_doubleFirst_45 : decode (mB m_Frs_doubleFirst) 45 = .ok (.dup, 1) := by decide +kernel
theorem d_Frs_doubleFirst_46 : decode (mB m_Frs_doubleFirst) 46 = .ok (.getfield 23, 3) := by decide +kernel
theorem d_Frs_doubleFirst_49 : decode (mB m_Frs_doubleFirst) 49 = .ok (.iconst 1, 1) := by decide +kernel
theorem d_Frs_doubleFirst_50 : decode (mB m_Frs_doubleFirst) 50 = .ok (.iadd, 1) := by decide +kernel
theorem d_Frs_doubleFirst_51 : decode (mB m_Frs_doubleFirst) 51 = .ok (.putfield 23, 3) := by decide +kernel
theorem d_Frs_doubleFirst_54 : decode (mB m_Frs_doubleFirst) 54 = .ok (.iconst 1, 1) := by decide +kernel
theorem d_Frs_doubleFirst_55 : decode (mB m_Frs_doubleFirst) 55 = .ok (.ireturn, 1) := by decide +kernel
theorem cal_Frs_doubleFirst : mCal m_Frs_doubleFirst 0 := ⟨Or.inl ⟨rfl, goodIn_r _ [881] (by decide +kernel) (by decide +kernel)⟩, by decide, ⟨by decide, by decide⟩, by decide +kernel⟩
abbrev b_Frs_loseAll : ByteArray := prog_8_method_9_code
def m_Frs_loseAll : Mi := (⟨"TextNet$Frames", "loseAll", "()V"⟩, b_Frs_loseAll, 1, none, [])
theorem d_Frs_loseAll_0 : decode (mB m_Frs_loseAll) 0 = .ok (.aload_n 0, 1) := by decide +kernel
theorem d_Frs_loseAll_1 : decode (mB m_Frs_loseAll) 1 = .ok (.iconst 0, 1) := by decide +kernel
theorem d_Frs_loseAll_2 : decode (mB m_Frs_loseAll) 2 = .ok (.putfield 27, 3) := by decide +kernel
theorem d_Frs_loseAll_5 : decode (mB m_Frs_loseAll) 5 = .ok (.aload_n 0, 1) := by decide +kernel
theorem d_Frs_loseAll_6 : decode (mB m_Frs_loseAll) 6 = .ok (.iconst 0, 1) := by decide +kernel
theorem d_Frs_loseAll_7 : decode (mB m_Frs_loseAll) 7 = .ok (.putfield 23, 3) := by decide +kernel
theorem d_Frs_loseAll_10 : decode (mB m_Frs_loseAll) 10 = .ok (.return_, 1) := by decide +kernel
theorem cal_Frs_loseAll : mCal m_Frs_loseAll 0 := ⟨Or.inl ⟨rfl, goodIn_r _ [901] (by decide +kernel) (by decide +kernel)⟩, by decide, ⟨by decide, by decide⟩, by decide +kernel⟩
abbrev b_Lin_init : ByteArray := prog_9_method_1_code
def m_Lin_init : Mi := (⟨"TextNet$Line", "<init>", "(II)V"⟩, b_Lin_init, 3, none, [])
theorem d_Lin_init_0 : decode (mB m_Lin_init) 0 = .ok (.aload_n 0, 1) := by decide +kernel
theorem d_Lin_init_1 : decode (mB m_Lin_init) 1 = .ok (.invokespecial 1, 3) := by decide +kernel
theorem d_Lin_init_4 : decode (mB m_Lin_init) 4 = .ok (.aload_n 0, 1) := by decide +kernel
theorem d_Lin_init_5 : decode (mB m_Lin_init) 5 = .ok (.new 7, 3) := by decide +kernel
theorem d_Lin_init_8 : decode (mB m_Lin_init) 8 = .ok (.dup, 1) := by decide +kernel
theorem d_Lin_init_9 : decode (mB m_Lin_init) 9 = .ok (.invokespecial 9, 3) := by decide +kernel
theorem d_Lin_init_12 : decode (mB m_Lin_init) 12 = .ok (.putfield 10, 3) := by decide +kernel
theorem d_Lin_init_15 : decode (mB m_Lin_init) 15 = .ok (.aload_n 0, 1) := by decide +kernel
theorem d_Lin_init_16 : decode (mB m_Lin_init) 16 = .ok (.new 7, 3) := by decide +kernel
theorem d_Lin_init_19 : decode (mB m_Lin_init) 19 = .ok (.dup, 1) := by decide +kernel
theorem d_Lin_init_20 : decode (mB m_Lin_init) 20 = .ok (.invokespecial 9, 3) := by decide +kernel
theorem d_Lin_init_23 : decode (mB m_Lin_init) 23 = .ok (.putfield 16, 3) := by decide +kernel
theorem d_Lin_init_26 : decode (mB m_Lin_init) 26 = .ok (.aload_n 0, 1) := by decide +kernel
theorem d_Lin_init_27 : decode (mB m_Lin_init) 27 = .ok (.iconst 1, 1) := by decide +kernel
theorem d_Lin_init_28 : decode (mB m_Lin_init) 28 = .ok (.putfield 19, 3) := by decide +kernel
theorem d_Lin_init_31 : decode (mB m_Lin_init) 31 = .ok (.aload_n 0, 1) := by decide +kernel
theorem d_Lin_init_32 : decode (mB m_Lin_init) 32 = .ok (.iload_n 1, 1) := by decide +kernel
theorem d_Lin_init_33 : decode (mB m_Lin_init) 33 = .ok (.putfield 23, 3) := by decide +kernel
theorem d_Lin_init_36 : decode (mB m_Lin_init) 36 = .ok (.aload_n 0, 1) := by decide +kernel
theorem d_Lin_init_37 : decode (mB m_Lin_init) 37 = .ok (.iload_n 2, 1) := by decide +kernel
theorem d_Lin_init_38 : decode (mB m_Lin_init) 38 = .ok (.putfield 27, 3) := by decide +kernel
theorem d_Lin_init_41 : decode (mB m_Lin_init) 41 = .ok (.return_, 1) := by decide +kernel
theorem cal_Lin_init : mCal m_Lin_init 2 := ⟨Or.inl ⟨rfl, goodIn_r _ [269] (by decide +kernel) (by decide +kernel)⟩, by decide, ⟨by decide, by decide⟩, by decide +kernel⟩
abbrev b_Lin_touches : ByteArray := prog_9_method_2_code
def m_Lin_touches : Mi := (⟨"TextNet$Line", "touches", "(I)Z"⟩, b_Lin_touches, 2, (some .boolean), [])
theorem d_Lin_touches_0 : decode (mB m_Lin_touches) 0 = .ok (.iload_n 1, 1) := by decide +kernel
theorem d_Lin_touches_1 : decode (mB m_Lin_touches) 1 = .ok (.aload_n 0, 1) := by decide +kernel
theorem d_Lin_touches_2 : decode (mB m_Lin_touches) 2 = .ok (.getfield 23, 3) := by decide +kernel
theorem d_Lin_touches_5 : decode (mB m_Lin_touches) 5 = .ok (.if_icmp .eq 11, 3) := by decide +kernel
theorem d_Lin_touches_8 : decode (mB m_Lin_touches) 8 = .ok (.iload_n 1, 1) := by decide +kernel
theorem d_Lin_touches_9 : decode (mB m_Lin_touches) 9 = .ok (.aload_n 0, 1) := by decide +kernel
theorem d_Lin_touches_10 : decode (mB m_Lin_touches) 10 = .ok (.getfield 27, 3) := by decide +kernel
theorem d_Lin_touches_13 : decode (mB m_Lin_touches) 13 = .ok (.if_icmp .ne 7, 3) := by decide +kernel
theorem d_Lin_touches_16 : decode (mB m_Lin_touches) 16 = .ok (.iconst 1, 1) := by decide +kernel
theorem d_Lin_touches_17 : decode (mB m_Lin_touches) 17 = .ok (.goto 4, 3) := by decide +kernel
theorem d_Lin_touches_20 : decode (mB m_Lin_touches) 20 = .ok (.iconst 0, 1) := by decide +kernel
theorem d_Lin_touches_21 : decode (mB m_Lin_touches) 21 = .ok (.ireturn, 1) := by decide +kernel
theorem cal_Lin_touches : mCal m_Lin_touches 1 := ⟨Or.inl ⟨rfl, goodIn_r _ [387] (by decide +kernel) (by decide +kernel)⟩, by decide, ⟨by decide, by decide⟩, by decide +kernel⟩
abbrev b_Lin_channelAt : ByteArray := prog_9_method_3_code
def m_Lin_channelAt : Mi := (⟨"TextNet$Line", "channelAt", "(I)LTextNet$Channel;"⟩, b_Lin_channelAt, 2, (some (.object "TextNet$Channel")), [])
theorem d_Lin_channelAt_0 : decode (mB m_Lin_channelAt) 0 = .ok (.iload_n 1, 1) := by decide +kernel
theorem d_Lin_channelAt_1 : decode (mB m_Lin_channelAt) 1 = .ok (.ifCond .eq 18, 3) := by decide +kernel
theorem d_Lin_channelAt_4 : decode (mB m_Lin_channelAt) 4 = .ok (.iload_n 1, 1) := by decide +kernel
theorem d_Lin_channelAt_5 : decode (mB m_Lin_channelAt) 5 = .ok (.iconst 1, 1) := by decide +kernel
theorem d_Lin_channelAt_6 : decode (mB m_Lin_channelAt) 6 = .ok (.if_icmp .eq 13, 3) := by decide +kernel
theorem d_Lin_channelAt_9 : decode (mB m_Lin_channelAt) 9 = .ok (.new 30, 3) := by decide +kernel
theorem d_Lin_channelAt_12 : decode (mB m_Lin_channelAt) 12 = .ok (.dup, 1) := by decide +kernel
theorem d_Lin_channelAt_13 : decode (mB m_Lin_channelAt) 13 = .ok (.ldc 32, 2) := by decide +kernel
theorem d_Lin_channelAt_15 : decode (mB m_Lin_channelAt) 15 = .ok (.invokespecial 34, 3) := by decide +kernel
theorem d_Lin_channelAt_18 : decode (mB m_Lin_channelAt) 18 = .ok (.athrow, 1) := by decide +kernel
theorem d_Lin_channelAt_19 : decode (mB m_Lin_channelAt) 19 = .ok (.iload_n 1, 1) := by decide +kernel
theorem d_Lin_channelAt_20 : decode (mB m_Lin_channelAt) 20 = .ok (.ifCond .ne 10, 3) := by decide +kernel
theorem d_Lin_channelAt_23 : decode (mB m_Lin_channelAt) 23 = .ok (.aload_n 0, 1) := by decide +kernel
theorem d_Lin_channelAt_24 : decode (mB m_Lin_channelAt) 24 = .ok (.getfield 10, 3) := by decide +kernel
theorem d_Lin_channelAt_27 : decode (mB m_Lin_channelAt) 27 = .ok (.goto 7, 3) := by decide +kernel
theorem d_Lin_channelAt_30 : decode (mB m_Lin_channelAt) 30 = .ok (.aload_n 0, 1) := by decide +kernel
theorem d_Lin_channelAt_31 : decode (mB m_Lin_channelAt) 31 = .ok (.getfield 16, 3) := by decide +kernel
theorem d_Lin_channelAt_34 : decode (mB m_Lin_channelAt) 34 = .ok (.areturn, 1) := by decide +kernel
theorem cal_Lin_channelAt : mCal m_Lin_channelAt 1 := ⟨Or.inl ⟨rfl, goodIn_r _ [766] (by decide +kernel) (by decide +kernel)⟩, by decide, ⟨by decide, by decide⟩, by decide +kernel⟩
