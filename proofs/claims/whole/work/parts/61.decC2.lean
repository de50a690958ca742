abbrev b_Net_count : ByteArray := prog_1_method_15_code
def m_Net_count : Mi := (⟨"TextNet", "count", "(II)I"⟩, b_Net_count, 4, (some .int), [])
theorem d_Net_count_0 : decode (mB m_Net_count) 0 = .ok (.iload_n 1, 1) := by decide +kernel
theorem d_Net_count_1 : decode (mB m_Net_count) 1 = .ok (.iconst (-1), 1) := by decide +kernel
theorem d_Net_count_2 : decode (mB m_Net_count) 2 = .ok (.if_icmp .ne 9, 3) := by decide +kernel
theorem d_Net_count_5 : decode (mB m_Net_count) 5 = .ok (.aload_n 0, 1) := by decide +kernel
theorem d_Net_count_6 : decode (mB m_Net_count) 6 = .ok (.iload_n 2, 1) := by decide +kernel
theorem d_Net_count_7 : decode (mB m_Net_count) 7 = .ok (.invokevirtual 253, 3) := by decide +kernel
theorem d_Net_count_10 : decode (mB m_Net_count) 10 = .ok (.ireturn, 1) := by decide +kernel
theorem d_Net_count_11 : decode (mB m_Net_count) 11 = .ok (.aload_n 0, 1) := by decide +kernel
theorem d_Net_count_12 : decode (mB m_Net_count) 12 = .ok (.iload_n 1, 1) := by decide +kernel
theorem d_Net_count_13 : decode (mB m_Net_count) 13 = .ok (.invokevirtual 39, 3) := by decide +kernel
theorem d_Net_count_16 : decode (mB m_Net_count) 16 = .ok (.astore_n 3, 1) := by decide +kernel
theorem d_Net_count_17 : decode (mB m_Net_count) 17 = .ok (.iload_n 2, 1) := by decide +kernel
theorem d_Net_count_18 : decode (mB m_Net_count) 18 = .ok (.tableswitch 44 0 2 #[26, 31, 36], 26) := by decide +kernel
theorem d_Net_count_44 : decode (mB m_Net_count) 44 = .ok (.aload_n 3, 1) := by decide +kernel
theorem d_Net_count_45 : decode (mB m_Net_count) 45 = .ok (.getfield 256, 3) := by decide +kernel
theorem d_Net_count_48 : decode (mB m_Net_count) 48 = .ok (.ireturn, 1) := by decide +kernel
theorem d_Net_count_49 : decode (mB m_Net_count) 49 = .ok (.aload_n 3, 1) := by decide +kernel
theorem d_Net_count_50 : decode (mB m_Net_count) 50 = .ok (.getfield 259, 3) := by decide +kernel
theorem d_Net_count_53 : decode (mB m_Net_count) 53 = .ok (.ireturn, 1) := by decide +kernel
theorem d_Net_count_54 : decode (mB m_Net_count) 54 = .ok (.aload_n 3, 1) := by decide +kernel
theorem d_Net_count_55 : decode (mB m_Net_count) 55 = .ok (.getfield 262, 3) := by decide +kernel
theorem d_Net_count_58 : decode (mB m_Net_count) 58 = .ok (.getfield 236, 3) := by decide +kernel
theorem d_Net_count_61 : decode (mB m_Net_count) 61 = .ok (.ireturn, 1) := by decide +kernel
theorem d_Net_count_62 : decode (mB m_Net_count) 62 = .ok (.new 43, 3) := by decide +kernel
theorem d_Net_count_65 : decode (mB m_Net_count) 65 = .ok (.dup, 1) := by decide +kernel
theorem d_Net_count_66 : decode (mB m_Net_count) 66 = .ok (.ldc_w 266, 3) := by decide +kernel
theorem d_Net_count_69 : decode (mB m_Net_count) 69 = .ok (.invokespecial 47, 3) := by decide +kernel
theorem d_Net_count_72 : decode (mB m_Net_count) 72 = .ok (.athrow, 1) := by decide +kernel
theorem cal_Net_count : mCal m_Net_count 2 := ⟨Or.inl ⟨rfl, goodIn_r _ [960] (by decide +kernel) (by decide +kernel)⟩, by decide, ⟨by decide, by decide⟩, by decide +kernel⟩
abbrev b_Net_countOfAll : ByteArray := prog_1_method_16_code
def m_Net_countOfAll : Mi := (⟨"TextNet", "countOfAll", "(I)I"⟩, b_Net_countOfAll, 2, (some .int), [])
theorem d_Net_countOfAll_0 : decode (mB m_Net_countOfAll) 0 = .ok (.iload_n 1, 1) := by decide +kernel
theorem d_Net_countOfAll_1 : decode (mB m_Net_countOfAll) 1 = .ok (.iconst 3, 1) := by decide +kernel
theorem d_Net_countOfAll_2 : decode (mB m_Net_countOfAll) 2 = .ok (.if_icmp .ne 8, 3) := by decide +kernel
theorem d_Net_countOfAll_5 : decode (mB m_Net_countOfAll) 5 = .ok (.aload_n 0, 1) := by decide +kernel
theorem d_Net_countOfAll_6 : decode (mB m_Net_countOfAll) 6 = .ok (.getfield 139, 3) := by decide +kernel
theorem d_Net_countOfAll_9 : decode (mB m_Net_countOfAll) 9 = .ok (.ireturn, 1) := by decide +kernel
theorem d_Net_countOfAll_10 : decode (mB m_Net_countOfAll) 10 = .ok (.iload_n 1, 1) := by decide +kernel
theorem d_Net_countOfAll_11 : decode (mB m_Net_countOfAll) 11 = .ok (.iconst 4, 1) := by decide +kernel
theorem d_Net_countOfAll_12 : decode (mB m_Net_countOfAll) 12 = .ok (.if_icmp .ne 8, 3) := by decide +kernel
theorem d_Net_countOfAll_15 : decode (mB m_Net_countOfAll) 15 = .ok (.aload_n 0, 1) := by decide +kernel
theorem d_Net_countOfAll_16 : decode (mB m_Net_countOfAll) 16 = .ok (.getfield 103, 3) := by decide +kernel
theorem d_Net_countOfAll_19 : decode (mB m_Net_countOfAll) 19 = .ok (.ireturn, 1) := by decide +kernel
theorem d_Net_countOfAll_20 : decode (mB m_Net_countOfAll) 20 = .ok (.new 43, 3) := by decide +kernel
theorem d_Net_countOfAll_23 : decode (mB m_Net_countOfAll) 23 = .ok (.dup, 1) := by decide +kernel
theorem d_Net_countOfAll_24 : decode (mB m_Net_countOfAll) 24 = .ok (.ldc_w 268, 3) := by decide +kernel
theorem d_Net_countOfAll_27 : decode (mB m_Net_countOfAll) 27 = .ok (.invokespecial 47, 3) := by decide +kernel
theorem d_Net_countOfAll_30 : decode (mB m_Net_countOfAll) 30 = .ok (.athrow, 1) := by decide +kernel
theorem cal_Net_countOfAll : mCal m_Net_countOfAll 1 := ⟨Or.inl ⟨rfl, goodIn_r _ [964] (by decide +kernel) (by decide +kernel)⟩, by decide, ⟨by decide, by decide⟩, by decide +kernel⟩
abbrev b_Net_switchAt : ByteArray := prog_1_method_17_code
def m_Net_switchAt : Mi := (⟨"TextNet", "switchAt", "(I)LTextNet$Switch;"⟩, b_Net_switchAt, 2, (some (.object "TextNet$Switch")), [])
theorem d_Net_switchAt_0 : decode (mB m_Net_switchAt) 0 = .ok (.iload_n 1, 1) := by decide +kernel
theorem d_Net_switchAt_1 : decode (mB m_Net_switchAt) 1 = .ok (.ifCond .lt 9, 3) := by decide +kernel
theorem d_Net_switchAt_4 : decode (mB m_Net_switchAt) 4 = .ok (.iload_n 1, 1) := by decide +kernel
theorem d_Net_switchAt_5 : decode (mB m_Net_switchAt) 5 = .ok (.bipush 6, 2) := by decide +kernel
theorem d_Net_switchAt_7 : decode (mB m_Net_switchAt) 7 = .ok (.if_icmp .lt 14, 3) := by decide +kernel
theorem d_Net_switchAt_10 : decode (mB m_Net_switchAt) 10 = .ok (.new 43, 3) := by decide +kernel
theorem d_Net_switchAt_13 : decode (mB m_Net_switchAt) 13 = .ok (.dup, 1) := by decide +kernel
theorem d_Net_switchAt_14 : decode (mB m_Net_switchAt) 14 = .ok (.ldc_w 270, 3) := by decide +kernel
theorem d_Net_switchAt_17 : decode (mB m_Net_switchAt) 17 = .ok (.invokespecial 47, 3) := by decide +kernel
theorem d_Net_switchAt_20 : decode (mB m_Net_switchAt) 20 = .ok (.athrow, 1) := by decide +kernel
theorem d_Net_switchAt_21 : decode (mB m_Net_switchAt) 21 = .ok (.aload_n 0, 1) := by decide +kernel
theorem d_Net_switchAt_22 : decode (mB m_Net_switchAt) 22 = .ok (.getfield 18, 3) := by decide +kernel
theorem d_Net_switchAt_25 : decode (mB m_Net_switchAt) 25 = .ok (.iload_n 1, 1) := by decide +kernel
theorem d_Net_switchAt_26 : decode (mB m_Net_switchAt) 26 = .ok (.aaload, 1) := by decide +kernel
theorem d_Net_switchAt_27 : decode (mB m_Net_switchAt) 27 = .ok (.areturn, 1) := by decide +kernel
theorem cal_Net_switchAt : mCal m_Net_switchAt 1 := ⟨Or.inl ⟨rfl, goodIn_r _ [197] (by decide +kernel) (by decide +kernel)⟩, by decide, ⟨by decide, by decide⟩, by decide +kernel⟩
abbrev b_Net_lineAt : ByteArray := prog_1_method_18_code
def m_Net_lineAt : Mi := (⟨"TextNet", "lineAt", "(I)LTextNet$Line;"⟩, b_Net_lineAt, 2, (some (.object "TextNet$Line")), [])
theorem d_Net_lineAt_0 : decode (mB m_Net_lineAt) 0 = .ok (.aload_n 0, 1) := by decide +kernel
theorem d_Net_lineAt_1 : decode (mB m_Net_lineAt) 1 = .ok (.iload_n 1, 1) := by decide +kernel
theorem d_Net_lineAt_2 : decode (mB m_Net_lineAt) 2 = .ok (.invokevirtual 272, 3) := by decide +kernel
theorem d_Net_lineAt_5 : decode (mB m_Net_lineAt) 5 = .ok (.ifCond .ne 14, 3) := by decide +kernel
theorem d_Net_lineAt_8 : decode (mB m_Net_lineAt) 8 = .ok (.new 43, 3) := by decide +kernel
theorem d_Net_lineAt_11 : decode (mB m_Net_lineAt) 11 = .ok (.dup, 1) := by decide +kernel
theorem d_Net_lineAt_12 : decode (mB m_Net_lineAt) 12 = .ok (.ldc_w 275, 3) := by decide +kernel
theorem d_Net_lineAt_15 : decode (mB m_Net_lineAt) 15 = .ok (.invokespecial 47, 3) := by decide +kernel
theorem d_Net_lineAt_18 : decode (mB m_Net_lineAt) 18 = .ok (.athrow, 1) := by decide +kernel
theorem d_Net_lineAt_19 : decode (mB m_Net_lineAt) 19 = .ok (.aload_n 0, 1) := by decide +kernel
theorem d_Net_lineAt_20 : decode (mB m_Net_lineAt) 20 = .ok (.getfield 24, 3) := by decide +kernel
theorem d_Net_lineAt_23 : decode (mB m_Net_lineAt) 23 = .ok (.iload_n 1, 1) := by decide +kernel
theorem d_Net_lineAt_24 : decode (mB m_Net_lineAt) 24 = .ok (.aaload, 1) := by decide +kernel
theorem d_Net_lineAt_25 : decode (mB m_Net_lineAt) 25 = .ok (.areturn, 1) := by decide +kernel
theorem cal_Net_lineAt : mCal m_Net_lineAt 1 := ⟨Or.inl ⟨rfl, goodIn_r _ [761] (by decide +kernel) (by decide +kernel)⟩, by decide, ⟨by decide, by decide⟩, by decide +kernel⟩
abbrev b_Net_isLine : ByteArray := prog_1_method_19_code
def m_Net_isLine : Mi := (⟨"TextNet", "isLine", "(I)Z"⟩, b_Net_isLine, 2, (some .boolean), [])
theorem d_Net_isLine_0 : decode (mB m_Net_isLine) 0 = .ok (.iload_n 1, 1) := by decide +kernel
theorem d_Net_isLine_1 : decode (mB m_Net_isLine) 1 = .ok (.ifCond .lt 22, 3) := by decide +kernel
theorem d_Net_isLine_4 : decode (mB m_Net_isLine) 4 = .ok (.iload_n 1, 1) := by decide +kernel
theorem d_Net_isLine_5 : decode (mB m_Net_isLine) 5 = .ok (.bipush 8, 2) := by decide +kernel
theorem d_Net_isLine_7 : decode (mB m_Net_isLine) 7 = .ok (.if_icmp .ge 16, 3) := by decide +kernel
theorem d_Net_isLine_10 : decode (mB m_Net_isLine) 10 = .ok (.aload_n 0, 1) := by decide +kernel
theorem d_Net_isLine_11 : decode (mB m_Net_isLine) 11 = .ok (.getfield 24, 3) := by decide +kernel
theorem d_Net_isLine_14 : decode (mB m_Net_isLine) 14 = .ok (.iload_n 1, 1) := by decide +kernel
theorem d_Net_isLine_15 : decode (mB m_Net_isLine) 15 = .ok (.aaload, 1) := by decide +kernel
theorem d_Net_isLine_16 : decode (mB m_Net_isLine) 16 = .ok (.ifnull 7, 3) := by decide +kernel
theorem d_Net_isLine_19 : decode (mB m_Net_isLine) 19 = .ok (.iconst 1, 1) := by decide +kernel
theorem d_Net_isLine_20 : decode (mB m_Net_isLine) 20 = .ok (.goto 4, 3) := by decide +kernel
theorem d_Net_isLine_23 : decode (mB m_Net_isLine) 23 = .ok (.iconst 0, 1) := by decide +kernel
theorem d_Net_isLine_24 : decode (mB m_Net_isLine) 24 = .ok (.ireturn, 1) := by decide +kernel
theorem cal_Net_isLine : mCal m_Net_isLine 1 := ⟨Or.inl ⟨rfl, goodIn_r _ [383] (by decide +kernel) (by decide +kernel)⟩, by decide, ⟨by decide, by decide⟩, by decide +kernel⟩
abbrev b_Net_isLineOrNone : ByteArray := prog_1_method_20_code
def m_Net_isLineOrNone : Mi := (⟨"TextNet", "isLineOrNone", "(II)Z"⟩, b_Net_isLineOrNone, 3, (some .boolean), [])
theorem d_Net_isLineOrNone_0 : decode (mB m_Net_isLineOrNone) 0 = .ok (.iload_n 2, 1) := by decide +kernel
theorem d_Net_isLineOrNone_1 : decode (mB m_Net_isLineOrNone) 1 = .ok (.iconst (-1), 1) := by decide +kernel
theorem d_Net_isLineOrNone_2 : decode (mB m_Net_isLineOrNone) 2 = .ok (.if_icmp .eq 24, 3) := by decide +kernel
theorem d_Net_isLineOrNone_5 : decode (mB m_Net_isLineOrNone) 5 = .ok (.aload_n 0, 1) := by decide +kernel
theorem d_Net_isLineOrNone_6 : decode (mB m_Net_isLineOrNone) 6 = .ok (.iload_n 2, 1) := by decide +kernel
theorem d_Net_isLineOrNone_7 : decode (mB m_Net_isLineOrNone) 7 = .ok (.invokevirtual 272, 3) := by decide +kernel
theorem d_Net_isLineOrNone_10 : decode (mB m_Net_isLineOrNone) 10 = .ok (.ifCond .eq 20, 3) := by decide +kernel
theorem d_Net_isLineOrNone_13 : decode (mB m_Net_isLineOrNone) 13 = .ok (.aload_n 0, 1) := by decide +kernel
theorem d_Net_isLineOrNone_14 : decode (mB m_Net_isLineOrNone) 14 = .ok (.getfield 24, 3) := by decide +kernel
theorem d_Net_isLineOrNone_17 : decode (mB m_Net_isLineOrNone) 17 = .ok (.iload_n 2, 1) := by decide +kernel
theorem d_Net_isLineOrNone_18 : decode (mB m_Net_isLineOrNone) 18 = .ok (.aaload, 1) := by decide +kernel
theorem d_Net_isLineOrNone_19 : decode (mB m_Net_isLineOrNone) 19 = .ok (.iload_n 1, 1) := by decide +kernel
theorem d_Net_isLineOrNone_20 : decode (mB m_Net_isLineOrNone) 20 = .ok (.invokevirtual 277, 3) := by decide +kernel
theorem d_Net_isLineOrNone_23 : decode (mB m_Net_isLineOrNone) 23 = .ok (.ifCond .eq 7, 3) := by decide +kernel
theorem d_Net_isLineOrNone_26 : decode (mB m_Net_isLineOrNone) 26 = .ok (.iconst 1, 1) := by decide +kernel
theorem d_Net_isLineOrNone_27 : decode (mB m_Net_isLineOrNone) 27 = .ok (.goto 4, 3) := by decide +kernel
theorem d_Net_isLineOrNone_30 : decode (mB m_Net_isLineOrNone) 30 = .ok (.iconst 0, 1) := by decide +kernel
theorem d_Net_isLineOrNone_31 : decode (mB m_Net_isLineOrNone) 31 = .ok (.ireturn, 1) := by decide +kernel
theorem cal_Net_isLineOrNone : mCal m_Net_isLineOrNone 2 := ⟨Or.inl ⟨rfl, goodIn_r _ [379] (by decide +kernel) (by decide +kernel)⟩, by decide, ⟨by decide, by decide⟩, by decide +kernel⟩
abbrev b_Net_isOpen : ByteArray := prog_1_method_21_code
def m_Net_isOpen : Mi := (⟨"TextNet", "isOpen", "(II)Z"⟩, b_Net_isOpen, 3, (some .boolean), [])
theorem d_Net_isOpen_0 : decode (mB m_Net_isOpen) 0 = .ok (.iload_n 1, 1) := by decide +kernel
theorem d_Net_isOpen_1 : decode (mB m_Net_isOpen) 1 = .ok (.iload_n 2, 1) := by decide +kernel
theorem d_Net_isOpen_2 : decode (mB m_Net_isOpen) 2 = .ok (.if_icmp .eq 27, 3) := by decide +kernel
theorem d_Net_isOpen_5 : decode (mB m_Net_isOpen) 5 = .ok (.aload_n 0, 1) := by decide +kernel
theorem d_Net_isOpen_6 : decode (mB m_Net_isOpen) 6 = .ok (.iload_n 1, 1) := by decide +kernel
theorem d_Net_isOpen_7 : decode (mB m_Net_isOpen) 7 = .ok (.invokevirtual 272, 3) := by decide +kernel
theorem d_Net_isOpen_10 : decode (mB m_Net_isOpen) 10 = .ok (.ifCond .eq 19, 3) := by decide +kernel
theorem d_Net_isOpen_13 : decode (mB m_Net_isOpen) 13 = .ok (.aload_n 0, 1) := by decide +kernel
theorem d_Net_isOpen_14 : decode (mB m_Net_isOpen) 14 = .ok (.getfield 24, 3) := by decide +kernel
theorem d_Net_isOpen_17 : decode (mB m_Net_isOpen) 17 = .ok (.iload_n 1, 1) := by decide +kernel
theorem d_Net_isOpen_18 : decode (mB m_Net_isOpen) 18 = .ok (.aaload, 1) := by decide +kernel
theorem d_Net_isOpen_19 : decode (mB m_Net_isOpen) 19 = .ok (.getfield 135, 3) := by decide +kernel
theorem d_Net_isOpen_22 : decode (mB m_Net_isOpen) 22 = .ok (.ifCond .eq 7, 3) := by decide +kernel
theorem d_Net_isOpen_25 : decode (mB m_Net_isOpen) 25 = .ok (.iconst 1, 1) := by decide +kernel
theorem d_Net_isOpen_26 : decode (mB m_Net_isOpen) 26 = .ok (.goto 4, 3) := by decide +kernel
theorem d_Net_isOpen_29 : decode (mB m_Net_isOpen) 29 = .ok (.iconst 0, 1) := by decide +kernel
theorem d_Net_isOpen_30 : decode (mB m_Net_isOpen) 30 = .ok (.ireturn, 1) := by decide +kernel
theorem cal_Net_isOpen : mCal m_Net_isOpen 2 := ⟨Or.inl ⟨rfl, goodIn_r _ [710] (by decide +kernel) (by decide +kernel)⟩, by decide, ⟨by decide, by decide⟩, by decide +kernel⟩
abbrev b_Net_meet : ByteArray := prog_1_method_22_code
def m_Net_meet : Mi := (⟨"TextNet", "meet", "(LTextNet$Frame;II)I"⟩, b_Net_meet, 9, (some .int), [])
theorem d_Net_meet_0 : decode (mB m_Net_meet) 0 = .ok (.aload_n 0, 1) := by decide +kernel
theorem d_Net_meet_1 : decode (mB m_Net_meet) 1 = .ok (.iload_n 2, 1) := by decide +kernel
theorem d_Net_meet_2 : decode (mB m_Net_meet) 2 = .ok (.invokevirtual 127, 3) := by decide +kernel
theorem d_Net_meet_5 : decode (mB m_Net_meet) 5 = .ok (.astore 4, 2) := by decide +kernel
theorem d_Net_meet_7 : decode (mB m_Net_meet) 7 = .ok (.aload 4, 2) := by decide +kernel
theorem d_Net_meet_9 : decode (mB m_Net_meet) 9 = .ok (.iload_n 3, 1) := by decide +kernel
theorem d_Net_meet_10 : decode (mB m_Net_meet) 10 = .ok (.invokevirtual 131, 3) := by decide +kernel
theorem d_Net_meet_13 : decode (mB m_Net_meet) 13 = .ok (.astore 5, 2) := by decide +kernel
theorem d_Net_meet_15 : decode (mB m_Net_meet) 15 = .ok (.aload 4, 2) := by decide +kernel
theorem d_Net_meet_17 : decode (mB m_Net_meet) 17 = .ok (.iconst 1, 1) := by decide +kernel
theorem d_Net_meet_18 : decode (mB m_Net_meet) 18 = .ok (.iload_n 3, 1) := by decide +kernel
theorem d_Net_meet_19 : decode (mB m_Net_meet) 19 = .ok (.isub, 1) := by decide +kernel
theorem d_Net_meet_20 : decode (mB m_Net_meet) 20 = .ok (.invokevirtual 131, 3) := by decide +kernel
theorem d_Net_meet_23 : decode (mB m_Net_meet) 23 = .ok (.astore 6, 2) := by decide +kernel
theorem d_Net_meet_25 : decode (mB m_Net_meet) 25 = .ok (.aload_n 1, 1) := by decide +kernel
theorem d_Net_meet_26 : decode (mB m_Net_meet) 26 = .ok (.getfield 171, 3) := by decide +kernel
theorem d_Net_meet_29 : decode (mB m_Net_meet) 29 = .ok (.aload 5, 2) := by decide +kernel
theorem d_Net_meet_31 : decode (mB m_Net_meet) 31 = .ok (.getfield 248, 3) := by decide +kernel
theorem d_Net_meet_34 : decode (mB m_Net_meet) 34 = .ok (.isub, 1) := by decide +kernel
theorem d_Net_meet_35 : decode (mB m_Net_meet) 35 = .ok (.sipush 999, 3) := by decide +kernel
theorem d_Net_meet_38 : decode (mB m_Net_meet) 38 = .ok (.invokestatic 280, 3) := by decide +kernel
theorem d_Net_meet_41 : decode (mB m_Net_meet) 41 = .ok (.istore 7, 2) := by decide +kernel
theorem d_Net_meet_43 : decode (mB m_Net_meet) 43 = .ok (.iload 7, 2) := by decide +kernel
theorem d_Net_meet_45 : decode (mB m_Net_meet) 45 = .ok (.ifCond .ne 66, 3) := by decide +kernel
theorem d_Net_meet_48 : decode (mB m_Net_meet) 48 = .ok (.aload 5, 2) := by decide +kernel
theorem d_Net_meet_50 : decode (mB m_Net_meet) 50 = .ok (.aload_n 1, 1) := by decide +kernel
theorem d_Net_meet_51 : decode (mB m_Net_meet) 51 = .ok (.getfield 171, 3) := by decide +kernel
theorem d_Net_meet_54 : decode (mB m_Net_meet) 54 = .ok (.invokestatic 286, 3) := by decide +kernel
theorem d_Net_meet_57 : decode (mB m_Net_meet) 57 = .ok (.putfield 248, 3) := by decide +kernel
theorem d_Net_meet_60 : decode (mB m_Net_meet) 60 = .ok (.aload 6, 2) := by decide +kernel
theorem d_Net_meet_62 : decode (mB m_Net_meet) 62 = .ok (.aload_n 1, 1) := by decide +kernel
theorem d_Net_meet_63 : decode (mB m_Net_meet) 63 = .ok (.getfield 171, 3) := by decide +kernel
theorem d_Net_meet_66 : decode (mB m_Net_meet) 66 = .ok (.invokevirtual 289, 3) := by decide +kernel
theorem d_Net_meet_69 : decode (mB m_Net_meet) 69 = .ok (.iload_n 3, 1) := by decide +kernel
theorem d_Net_meet_70 : decode (mB m_Net_meet) 70 = .ok (.ifCond .ne 11, 3) := by decide +kernel
theorem d_Net_meet_73 : decode (mB m_Net_meet) 73 = .ok (.aload 4, 2) := by decide +kernel
theorem d_Net_meet_75 : decode (mB m_Net_meet) 75 = .ok (.getfield 193, 3) := by decide +kernel
theorem d_Net_meet_78 : decode (mB m_Net_meet) 78 = .ok (.goto 8, 3) := by decide +kernel
theorem d_Net_meet_81 : decode (mB m_Net_meet) 81 = .ok (.aload 4, 2) := by decide +kernel
theorem d_Net_meet_83 : decode (mB m_Net_meet) 83 = .ok (.getfield 187, 3) := by decide +kernel
theorem d_Net_meet_86 : decode (mB m_Net_meet) 86 = .ok (.istore 8, 2) := by decide +kernel
theorem d_Net_meet_88 : decode (mB m_Net_meet) 88 = .ok (.aload_n 0, 1) := by decide +kernel
theorem d_Net_meet_89 : decode (mB m_Net_meet) 89 = .ok (.iload 8, 2) := by decide +kernel
theorem d_Net_meet_91 : decode (mB m_Net_meet) 91 = .ok (.aload_n 1, 1) := by decide +kernel
theorem d_Net_meet_92 : decode (mB m_Net_meet) 92 = .ok (.getfield 158, 3) := by decide +kernel
theorem d_Net_meet_95 : decode (mB m_Net_meet) 95 = .ok (.getfield 292, 3) := by decide +kernel
theorem d_Net_meet_98 : decode (mB m_Net_meet) 98 = .ok (.aload_n 1, 1) := by decide +kernel
theorem d_Net_meet_99 : decode (mB m_Net_meet) 99 = .ok (.getfield 158, 3) := by decide +kernel
theorem d_Net_meet_102 : decode (mB m_Net_meet) 102 = .ok (.getfield 298, 3) := by decide +kernel
theorem d_Net_meet_105 : decode (mB m_Net_meet) 105 = .ok (.iload_n 2, 1) := by decide +kernel
theorem d_Net_meet_106 : decode (mB m_Net_meet) 106 = .ok (.invokevirtual 123, 3) := by decide +kernel
theorem d_Net_meet_109 : decode (mB m_Net_meet) 109 = .ok (.iconst 1, 1) := by decide +kernel
theorem d_Net_meet_110 : decode (mB m_Net_meet) 110 = .ok (.ireturn, 1) := by decide +kernel
theorem d_Net_meet_111 : decode (mB m_Net_meet) 111 = .ok (.iload 7, 2) := by decide +kernel
theorem d_Net_meet_113 : decode (mB m_Net_meet) 113 = .ok (.sipush 400, 3) := by decide +kernel
theorem d_Net_meet_116 : decode (mB m_Net_meet) 116 = .ok (.if_icmp .gt 19, 3) := by decide +kernel
theorem d_Net_meet_119 : decode (mB m_Net_meet) 119 = .ok (.aload 6, 2) := by decide +kernel
theorem d_Net_meet_121 : decode (mB m_Net_meet) 121 = .ok (.aload 5, 2) := by decide +kernel
theorem d_Net_meet_123 : decode (mB m_Net_meet) 123 = .ok (.getfield 248, 3) := by decide +kernel
theorem d_Net_meet_126 : decode (mB m_Net_meet) 126 = .ok (.aload_n 0, 1) := by decide +kernel
theorem d_Net_meet_127 : decode (mB m_Net_meet) 127 = .ok (.getfield 139, 3) := by decide +kernel
theorem d_Net_meet_130 : decode (mB m_Net_meet) 130 = .ok (.invokevirtual 300, 3) := by decide +kernel
theorem d_Net_meet_133 : decode (mB m_Net_meet) 133 = .ok (.iconst 2, 1) := by decide +kernel
theorem d_Net_meet_134 : decode (mB m_Net_meet) 134 = .ok (.ireturn, 1) := by decide +kernel
theorem d_Net_meet_135 : decode (mB m_Net_meet) 135 = .ok (.aload 6, 2) := by decide +kernel
theorem d_Net_meet_137 : decode (mB m_Net_meet) 137 = .ok (.aload 5, 2) := by decide +kernel
theorem d_Net_meet_139 : decode (mB m_Net_meet) 139 = .ok (.getfield 248, 3) := by decide +kernel
theorem d_Net_meet_142 : decode (mB m_Net_meet) 142 = .ok (.invokestatic 303, 3) := by decide +kernel
theorem d_Net_meet_145 : decode (mB m_Net_meet) 145 = .ok (.invokevirtual 289, 3) := by decide +kernel
theorem d_Net_meet_148 : decode (mB m_Net_meet) 148 = .ok (.iconst 3, 1) := by decide +kernel
theorem d_Net_meet_149 : decode (mB m_Net_meet) 149 = .ok (.ireturn, 1) := by decide +kernel
theorem cal_Net_meet : mCal m_Net_meet 3 := ⟨Or.inl ⟨rfl, goodIn_r _ [840] (by decide +kernel) (by decide +kernel)⟩, by decide, ⟨by decide, by decide⟩, by decide +kernel⟩
abbrev b_Net_comeTo : ByteArray := prog_1_method_23_code
def m_Net_comeTo : Mi := (⟨"TextNet", "comeTo", "(ILTextNet$Message;II)V"⟩, b_Net_comeTo, 11, none, [])
theorem d_Net_comeTo_0 : decode (mB m_Net_comeTo) 0 = .ok (.aload_n 0, 1) := by decide +kernel
theorem d_Net_comeTo_1 : decode (mB m_Net_comeTo) 1 = .ok (.iload_n 1, 1) := by decide +kernel
theorem d_Net_comeTo_2 : decode (mB m_Net_comeTo) 2 = .ok (.invokevirtual 39, 3) := by decide +kernel
theorem d_Net_comeTo_5 : decode (mB m_Net_comeTo) 5 = .ok (.astore 5, 2) := by decide +kernel
theorem d_Net_comeTo_7 : decode (mB m_Net_comeTo) 7 = .ok (.aload_n 0, 1) := by decide +kernel
theorem d_Net_comeTo_8 : decode (mB m_Net_comeTo) 8 = .ok (.getfield 34, 3) := by decide +kernel
theorem d_Net_comeTo_11 : decode (mB m_Net_comeTo) 11 = .ok (.iconst 0, 1) := by decide +kernel
theorem d_Net_comeTo_12 : decode (mB m_Net_comeTo) 12 = .ok (.invokestatic 306, 3) := by decide +kernel
theorem d_Net_comeTo_15 : decode (mB m_Net_comeTo) 15 = .ok (.iconst 0, 1) := by decide +kernel
theorem d_Net_comeTo_16 : decode (mB m_Net_comeTo) 16 = .ok (.istore 6, 2) := by decide +kernel
theorem d_Net_comeTo_18 : decode (mB m_Net_comeTo) 18 = .ok (.iconst 0, 1) := by decide +kernel
theorem d_Net_comeTo_19 : decode (mB m_Net_comeTo) 19 = .ok (.istore 7, 2) := by decide +kernel
theorem d_Net_comeTo_21 : decode (mB m_Net_comeTo) 21 = .ok (.iload 7, 2) := by decide +kernel
theorem d_Net_comeTo_23 : decode (mB m_Net_comeTo) 23 = .ok (.aload_n 2, 1) := by decide +kernel
theorem d_Net_comeTo_24 : decode (mB m_Net_comeTo) 24 = .ok (.getfield 223, 3) := by decide +kernel
theorem d_Net_comeTo_27 : decode (mB m_Net_comeTo) 27 = .ok (.arraylength, 1) := by decide +kernel
theorem d_Net_comeTo_28 : decode (mB m_Net_comeTo) 28 = .ok (.if_icmp .ge 141, 3) := by decide +kernel
theorem d_Net_comeTo_31 : decode (mB m_Net_comeTo) 31 = .ok (.iconst 1, 1) := by decide +kernel
theorem d_Net_comeTo_32 : decode (mB m_Net_comeTo) 32 = .ok (.iload 7, 2) := by decide +kernel
theorem d_Net_comeTo_34 : decode (mB m_Net_comeTo) 34 = .ok (.ishl, 1) := by decide +kernel
theorem d_Net_comeTo_35 : decode (mB m_Net_comeTo) 35 = .ok (.istore 8, 2) := by decide +kernel
theorem d_Net_comeTo_37 : decode (mB m_Net_comeTo) 37 = .ok (.iload_n 3, 1) := by decide +kernel
theorem d_Net_comeTo_38 : decode (mB m_Net_comeTo) 38 = .ok (.iload 8, 2) := by decide +kernel
theorem d_Net_comeTo_40 : decode (mB m_Net_comeTo) 40 = .ok (.iand, 1) := by decide +kernel
theorem d_Net_comeTo_41 : decode (mB m_Net_comeTo) 41 = .ok (.ifCond .ne 6, 3) := by decide +kernel
theorem d_Net_comeTo_44 : decode (mB m_Net_comeTo) 44 = .ok (.goto 119, 3) := by decide +kernel
theorem d_Net_comeTo_47 : decode (mB m_Net_comeTo) 47 = .ok (.aload 5, 2) := by decide +kernel
theorem d_Net_comeTo_49 : decode (mB m_Net_comeTo) 49 = .ok (.aload_n 2, 1) := by decide +kernel
theorem d_Net_comeTo_50 : decode (mB m_Net_comeTo) 50 = .ok (.getfield 223, 3) := by decide +kernel
theorem d_Net_comeTo_53 : decode (mB m_Net_comeTo) 53 = .ok (.iload 7, 2) := by decide +kernel
theorem d_Net_comeTo_55 : decode (mB m_Net_comeTo) 55 = .ok (.laload, 1) := by decide +kernel
theorem d_Net_comeTo_56 : decode (mB m_Net_comeTo) 56 = .ok (.invokevirtual 312, 3) := by decide +kernel
theorem d_Net_comeTo_59 : decode (mB m_Net_comeTo) 59 = .ok (.astore 9, 2) := by decide +kernel
theorem d_Net_comeTo_61 : decode (mB m_Net_comeTo) 61 = .ok (.aload 9, 2) := by decide +kernel
theorem d_Net_comeTo_63 : decode (mB m_Net_comeTo) 63 = .ok (.ifnonnull 17, 3) := by decide +kernel
theorem d_Net_comeTo_66 : decode (mB m_Net_comeTo) 66 = .ok (.aload 5, 2) := by decide +kernel
theorem d_Net_comeTo_68 : decode (mB m_Net_comeTo) 68 = .ok (.dup, 1) := by decide +kernel
theorem d_Net_comeTo_69 : decode (mB m_Net_comeTo) 69 = .ok (.getfield 256, 3) := by decide +kernel
theorem d_Net_comeTo_72 : decode (mB m_Net_comeTo) 72 = .ok (.iconst 1, 1) := by decide +kernel
theorem d_Net_comeTo_73 : decode (mB m_Net_comeTo) 73 = .ok (.iadd, 1) := by decide +kernel
theorem d_Net_comeTo_74 : decode (mB m_Net_comeTo) 74 = .ok (.putfield 256, 3) := by decide +kernel
theorem d_Net_comeTo_77 : decode (mB m_Net_comeTo) 77 = .ok (.goto 86, 3) := by decide +kernel
theorem d_Net_comeTo_80 : decode (mB m_Net_comeTo) 80 = .ok (.aload 9, 2) := by decide +kernel
theorem d_Net_comeTo_82 : decode (mB m_Net_comeTo) 82 = .ok (.getfield 316, 3) := by decide +kernel
theorem d_Net_comeTo_85 : decode (mB m_Net_comeTo) 85 = .ok (.iconst (-1), 1) := by decide +kernel
theorem d_Net_comeTo_86 : decode (mB m_Net_comeTo) 86 = .ok (.if_icmp .ne 15, 3) := by decide +kernel
theorem d_Net_comeTo_89 : decode (mB m_Net_comeTo) 89 = .ok (.aload 5, 2) := by decide +kernel
theorem d_Net_comeTo_91 : decode (mB m_Net_comeTo) 91 = .ok (.aload_n 2, 1) := by decide +kernel
theorem d_Net_comeTo_92 : decode (mB m_Net_comeTo) 92 = .ok (.iload 7, 2) := by decide +kernel
theorem d_Net_comeTo_94 : decode (mB m_Net_comeTo) 94 = .ok (.iload_n 1, 1) := by decide +kernel
theorem d_Net_comeTo_95 : decode (mB m_Net_comeTo) 95 = .ok (.invokevirtual 319, 3) := by decide +kernel
theorem d_Net_comeTo_98 : decode (mB m_Net_comeTo) 98 = .ok (.goto 65, 3) := by decide +kernel
theorem d_Net_comeTo_101 : decode (mB m_Net_comeTo) 101 = .ok (.aload_n 0, 1) := by decide +kernel
theorem d_Net_comeTo_102 : decode (mB m_Net_comeTo) 102 = .ok (.aload 9, 2) := by decide +kernel
theorem d_Net_comeTo_104 : decode (mB m_Net_comeTo) 104 = .ok (.getfield 316, 3) := by decide +kernel
theorem d_Net_comeTo_107 : decode (mB m_Net_comeTo) 107 = .ok (.iload 4, 2) := by decide +kernel
theorem d_Net_comeTo_109 : decode (mB m_Net_comeTo) 109 = .ok (.invokevirtual 323, 3) := by decide +kernel
theorem d_Net_comeTo_112 : decode (mB m_Net_comeTo) 112 = .ok (.ifCond .eq 11, 3) := by decide +kernel
theorem d_Net_comeTo_115 : decode (mB m_Net_comeTo) 115 = .ok (.aload 9, 2) := by decide +kernel
theorem d_Net_comeTo_117 : decode (mB m_Net_comeTo) 117 = .ok (.getfield 316, 3) := by decide +kernel
theorem d_Net_comeTo_120 : decode (mB m_Net_comeTo) 120 = .ok (.goto 8, 3) := by decide +kernel
theorem d_Net_comeTo_123 : decode (mB m_Net_comeTo) 123 = .ok (.aload 9, 2) := by decide +kernel
theorem d_Net_comeTo_125 : decode (mB m_Net_comeTo) 125 = .ok (.getfield 326, 3) := by decide +kernel
theorem d_Net_comeTo_128 : decode (mB m_Net_comeTo) 128 = .ok (.istore 10, 2) := by decide +kernel
theorem d_Net_comeTo_130 : decode (mB m_Net_comeTo) 130 = .ok (.aload_n 0, 1) := by decide +kernel
theorem d_Net_comeTo_131 : decode (mB m_Net_comeTo) 131 = .ok (.iload 10, 2) := by decide +kernel
theorem d_Net_comeTo_133 : decode (mB m_Net_comeTo) 133 = .ok (.iload 4, 2) := by decide +kernel
theorem d_Net_comeTo_135 : decode (mB m_Net_comeTo) 135 = .ok (.invokevirtual 323, 3) := by decide +kernel
theorem d_Net_comeTo_138 : decode (mB m_Net_comeTo) 138 = .ok (.ifCond .eq 18, 3) := by decide +kernel
theorem d_Net_comeTo_141 : decode (mB m_Net_comeTo) 141 = .ok (.aload_n 0, 1) := by decide +kernel
theorem d_Net_comeTo_142 : decode (mB m_Net_comeTo) 142 = .ok (.getfield 34, 3) := by decide +kernel
theorem d_Net_comeTo_145 : decode (mB m_Net_comeTo) 145 = .ok (.iload 10, 2) := by decide +kernel
theorem d_Net_comeTo_147 : decode (mB m_Net_comeTo) 147 = .ok (.dup2, 1) := by decide +kernel
theorem d_Net_comeTo_148 : decode (mB m_Net_comeTo) 148 = .ok (.iaload, 1) := by decide +kernel
theorem d_Net_comeTo_149 : decode (mB m_Net_comeTo) 149 = .ok (.iload 8, 2) := by decide +kernel
theorem d_Net_comeTo_151 : decode (mB m_Net_comeTo) 151 = .ok (.ior, 1) := by decide +kernel
theorem d_Net_comeTo_152 : decode (mB m_Net_comeTo) 152 = .ok (.iastore, 1) := by decide +kernel
theorem d_Net_comeTo_153 : decode (mB m_Net_comeTo) 153 = .ok (.goto 10, 3) := by decide +kernel
theorem d_Net_comeTo_156 : decode (mB m_Net_comeTo) 156 = .ok (.iload 6, 2) := by decide +kernel
theorem d_Net_comeTo_158 : decode (mB m_Net_comeTo) 158 = .ok (.iload 8, 2) := by decide +kernel
theorem d_Net_comeTo_160 : decode (mB m_Net_comeTo) 160 = .ok (.ior, 1) := by decide +kernel
theorem d_Net_comeTo_161 : decode (mB m_Net_comeTo) 161 = .ok (.istore 6, 2) := by decide +kernel
theorem d_Net_comeTo_163 : decode (mB m_Net_comeTo) 163 = .ok (.iinc 7 1, 3) := by decide +kernel
theorem d_Net_comeTo_166 : decode (mB m_Net_comeTo) 166 = .ok (.goto (-145), 3) := by decide +kernel
theorem d_Net_comeTo_169 : decode (mB m_Net_comeTo) 169 = .ok (.aload_n 0, 1) := by decide +kernel
theorem d_Net_comeTo_170 : decode (mB m_Net_comeTo) 170 = .ok (.iload_n 1, 1) := by decide +kernel
theorem d_Net_comeTo_171 : decode (mB m_Net_comeTo) 171 = .ok (.aload_n 2, 1) := by decide +kernel
theorem d_Net_comeTo_172 : decode (mB m_Net_comeTo) 172 = .ok (.invokevirtual 329, 3) := by decide +kernel
theorem d_Net_comeTo_175 : decode (mB m_Net_comeTo) 175 = .ok (.iload 6, 2) := by decide +kernel
theorem d_Net_comeTo_177 : decode (mB m_Net_comeTo) 177 = .ok (.ifCond .eq 23, 3) := by decide +kernel
theorem d_Net_comeTo_180 : decode (mB m_Net_comeTo) 180 = .ok (.aload 5, 2) := by decide +kernel
theorem d_Net_comeTo_182 : decode (mB m_Net_comeTo) 182 = .ok (.getfield 262, 3) := by decide +kernel
theorem d_Net_comeTo_185 : decode (mB m_Net_comeTo) 185 = .ok (.new 293, 3) := by decide +kernel
theorem d_Net_comeTo_188 : decode (mB m_Net_comeTo) 188 = .ok (.dup, 1) := by decide +kernel
theorem d_Net_comeTo_189 : decode (mB m_Net_comeTo) 189 = .ok (.aload_n 2, 1) := by decide +kernel
theorem d_Net_comeTo_190 : decode (mB m_Net_comeTo) 190 = .ok (.iload 6, 2) := by decide +kernel
theorem d_Net_comeTo_192 : decode (mB m_Net_comeTo) 192 = .ok (.iload 4, 2) := by decide +kernel
theorem d_Net_comeTo_194 : decode (mB m_Net_comeTo) 194 = .ok (.invokespecial 333, 3) := by decide +kernel
theorem d_Net_comeTo_197 : decode (mB m_Net_comeTo) 197 = .ok (.invokevirtual 335, 3) := by decide +kernel
theorem d_Net_comeTo_200 : decode (mB m_Net_comeTo) 200 = .ok (.return_, 1) := by decide +kernel
theorem cal_Net_comeTo : mCal m_Net_comeTo 4 := ⟨Or.inl ⟨rfl, goodIn_r _ [686] (by decide +kernel) (by decide +kernel)⟩, by decide, ⟨by decide, by decide⟩, by decide +kernel⟩
abbrev b_Net_queueParts : ByteArray := prog_1_method_24_code
def m_Net_queueParts : Mi := (⟨"TextNet", "queueParts", "(ILTextNet$Message;)V"⟩, b_Net_queueParts, 4, none, [])
theorem d_Net_queueParts_0 : decode (mB m_Net_queueParts) 0 = .ok (.iconst 0, 1) := by decide +kernel
theorem d_Net_queueParts_1 : decode (mB m_Net_queueParts) 1 = .ok (.istore_n 3, 1) := by decide +kernel
theorem d_Net_queueParts_2 : decode (mB m_Net_queueParts) 2 = .ok (.iload_n 3, 1) := by decide +kernel
theorem d_Net_queueParts_3 : decode (mB m_Net_queueParts) 3 = .ok (.bipush 8, 2) := by decide +kernel
theorem d_Net_queueParts_5 : decode (mB m_Net_queueParts) 5 = .ok (.if_icmp .ge 54, 3) := by decide +kernel
theorem d_Net_queueParts_8 : decode (mB m_Net_queueParts) 8 = .ok (.aload_n 0, 1) := by decide +kernel
theorem d_Net_queueParts_9 : decode (mB m_Net_queueParts) 9 = .ok (.getfield 34, 3) := by decide +kernel
theorem d_Net_queueParts_12 : decode (mB m_Net_queueParts) 12 = .ok (.iload_n 3, 1) := by decide +kernel
theorem d_Net_queueParts_13 : decode (mB m_Net_queueParts) 13 = .ok (.iaload, 1) := by decide +kernel
theorem d_Net_queueParts_14 : decode (mB m_Net_queueParts) 14 = .ok (.ifCond .eq 39, 3) := by decide +kernel
theorem d_Net_queueParts_17 : decode (mB m_Net_queueParts) 17 = .ok (.aload_n 0, 1) := by decide +kernel
theorem d_Net_queueParts_18 : decode (mB m_Net_queueParts) 18 = .ok (.iload_n 3, 1) := by decide +kernel
theorem d_Net_queueParts_19 : decode (mB m_Net_queueParts) 19 = .ok (.invokevirtual 272, 3) := by decide +kernel
theorem d_Net_queueParts_22 : decode (mB m_Net_queueParts) 22 = .ok (.ifCond .eq 31, 3) := by decide +kernel
theorem d_Net_queueParts_25 : decode (mB m_Net_queueParts) 25 = .ok (.aload_n 0, 1) := by decide +kernel
theorem d_Net_queueParts_26 : decode (mB m_Net_queueParts) 26 = .ok (.getfield 24, 3) := by decide +kernel
theorem d_Net_queueParts_29 : decode (mB m_Net_queueParts) 29 = .ok (.iload_n 3, 1) := by decide +kernel
theorem d_Net_queueParts_30 : decode (mB m_Net_queueParts) 30 = .ok (.aaload, 1) := by decide +kernel
theorem d_Net_queueParts_31 : decode (mB m_Net_queueParts) 31 = .ok (.iload_n 1, 1) := by decide +kernel
theorem d_Net_queueParts_32 : decode (mB m_Net_queueParts) 32 = .ok (.invokevirtual 339, 3) := by decide +kernel
theorem d_Net_queueParts_35 : decode (mB m_Net_queueParts) 35 = .ok (.new 293, 3) := by decide +kernel
theorem d_Net_queueParts_38 : decode (mB m_Net_queueParts) 38 = .ok (.dup, 1) := by decide +kernel
theorem d_Net_queueParts_39 : decode (mB m_Net_queueParts) 39 = .ok (.aload_n 2, 1) := by decide +kernel
theorem d_Net_queueParts_40 : decode (mB m_Net_queueParts) 40 = .ok (.aload_n 0, 1) := by decide +kernel
theorem d_Net_queueParts_41 : decode (mB m_Net_queueParts) 41 = .ok (.getfield 34, 3) := by decide +kernel
theorem d_Net_queueParts_44 : decode (mB m_Net_queueParts) 44 = .ok (.iload_n 3, 1) := by decide +kernel
theorem d_Net_queueParts_45 : decode (mB m_Net_queueParts) 45 = .ok (.iaload, 1) := by decide +kernel
theorem d_Net_queueParts_46 : decode (mB m_Net_queueParts) 46 = .ok (.iconst (-1), 1) := by decide +kernel
theorem d_Net_queueParts_47 : decode (mB m_Net_queueParts) 47 = .ok (.invokespecial 333, 3) := by decide +kernel
theorem d_Net_queueParts_50 : decode (mB m_Net_queueParts) 50 = .ok (.invokevirtual 342, 3) := by decide +kernel
theorem d_Net_queueParts_53 : decode (mB m_Net_queueParts) 53 = .ok (.iinc 3 1, 3) := by decide +kernel
theorem d_Net_queueParts_56 : decode (mB m_Net_queueParts) 56 = .ok (.goto (-54), 3) := by decide +kernel
theorem d_Net_queueParts_59 : decode (mB m_Net_queueParts) 59 = .ok (.return_, 1) := by decide +kernel
theorem cal_Net_queueParts : mCal m_Net_queueParts 2 := ⟨Or.inl ⟨rfl, goodIn_r _ [714] (by decide +kernel) (by decide +kernel)⟩, by decide, ⟨by decide, by decide⟩, by decide +kernel⟩
abbrev b_Net_takeHeld : ByteArray := prog_1_method_25_code
def m_Net_takeHeld : Mi := (⟨"TextNet", "takeHeld", "(I)V"⟩, b_Net_takeHeld, 6, none, [])
theorem d_Net_takeHeld_0 : decode (mB m_Net_takeHeld) 0 = .ok (.aload_n 0, 1) := by decide +kernel
theorem d_Net_takeHeld_1 : decode (mB m_Net_takeHeld) 1 = .ok (.iload_n 1, 1) := by decide +kernel
theorem d_Net_takeHeld_2 : decode (mB m_Net_takeHeld) 2 = .ok (.invokevirtual 39, 3) := by decide +kernel
theorem d_Net_takeHeld_5 : decode (mB m_Net_takeHeld) 5 = .ok (.getfield 262, 3) := by decide +kernel
theorem d_Net_takeHeld_8 : decode (mB m_Net_takeHeld) 8 = .ok (.astore_n 2, 1) := by decide +kernel
theorem d_Net_takeHeld_9 : decode (mB m_Net_takeHeld) 9 = .ok (.aload_n 2, 1) := by decide +kernel
theorem d_Net_takeHeld_10 : decode (mB m_Net_takeHeld) 10 = .ok (.getfield 236, 3) := by decide +kernel
theorem d_Net_takeHeld_13 : decode (mB m_Net_takeHeld) 13 = .ok (.istore_n 3, 1) := by decide +kernel
theorem d_Net_takeHeld_14 : decode (mB m_Net_takeHeld) 14 = .ok (.iconst 0, 1) := by decide +kernel
theorem d_Net_takeHeld_15 : decode (mB m_Net_takeHeld) 15 = .ok (.istore 4, 2) := by decide +kernel
theorem d_Net_takeHeld_17 : decode (mB m_Net_takeHeld) 17 = .ok (.iload 4, 2) := by decide +kernel
theorem d_Net_takeHeld_19 : decode (mB m_Net_takeHeld) 19 = .ok (.iload_n 3, 1) := by decide +kernel
theorem d_Net_takeHeld_20 : decode (mB m_Net_takeHeld) 20 = .ok (.if_icmp .ge 40, 3) := by decide +kernel
theorem d_Net_takeHeld_23 : decode (mB m_Net_takeHeld) 23 = .ok (.aload_n 2, 1) := by decide +kernel
theorem d_Net_takeHeld_24 : decode (mB m_Net_takeHeld) 24 = .ok (.invokevirtual 345, 3) := by decide +kernel
theorem d_Net_takeHeld_27 : decode (mB m_Net_takeHeld) 27 = .ok (.astore 5, 2) := by decide +kernel
theorem d_Net_takeHeld_29 : decode (mB m_Net_takeHeld) 29 = .ok (.aload 5, 2) := by decide +kernel
theorem d_Net_takeHeld_31 : decode (mB m_Net_takeHeld) 31 = .ok (.ifnull 23, 3) := by decide +kernel
theorem d_Net_takeHeld_34 : decode (mB m_Net_takeHeld) 34 = .ok (.aload_n 0, 1) := by decide +kernel
theorem d_Net_takeHeld_35 : decode (mB m_Net_takeHeld) 35 = .ok (.iload_n 1, 1) := by decide +kernel
theorem d_Net_takeHeld_36 : decode (mB m_Net_takeHeld) 36 = .ok (.aload 5, 2) := by decide +kernel
theorem d_Net_takeHeld_38 : decode (mB m_Net_takeHeld) 38 = .ok (.getfield 292, 3) := by decide +kernel
theorem d_Net_takeHeld_41 : decode (mB m_Net_takeHeld) 41 = .ok (.aload 5, 2) := by decide +kernel
theorem d_Net_takeHeld_43 : decode (mB m_Net_takeHeld) 43 = .ok (.getfield 298, 3) := by decide +kernel
theorem d_Net_takeHeld_46 : decode (mB m_Net_takeHeld) 46 = .ok (.aload 5, 2) := by decide +kernel
theorem d_Net_takeHeld_48 : decode (mB m_Net_takeHeld) 48 = .ok (.getfield 348, 3) := by decide +kernel
theorem d_Net_takeHeld_51 : decode (mB m_Net_takeHeld) 51 = .ok (.invokevirtual 123, 3) := by decide +kernel
theorem d_Net_takeHeld_54 : decode (mB m_Net_takeHeld) 54 = .ok (.iinc 4 1, 3) := by decide +kernel
theorem d_Net_takeHeld_57 : decode (mB m_Net_takeHeld) 57 = .ok (.goto (-40), 3) := by decide +kernel
theorem d_Net_takeHeld_60 : decode (mB m_Net_takeHeld) 60 = .ok (.return_, 1) := by decide +kernel
theorem cal_Net_takeHeld : mCal m_Net_takeHeld 1 := ⟨Or.inl ⟨rfl, goodIn_r _ [892] (by decide +kernel) (by decide +kernel)⟩, by decide, ⟨by decide, by decide⟩, by decide +kernel⟩
abbrev b_Net_serialBehind : ByteArray := prog_1_method_26_code
def m_Net_serialBehind : Mi := (⟨"TextNet", "serialBehind", "(I)I"⟩, b_Net_serialBehind, 1, (some .int), [])
theorem d_Net_serialBehind_0 : decode (mB m_Net_serialBehind) 0 = .ok (.iload_n 0, 1) := by decide +kernel
theorem d_Net_serialBehind_1 : decode (mB m_Net_serialBehind) 1 = .ok (.sipush 999, 3) := by decide +kernel
theorem d_Net_serialBehind_4 : decode (mB m_Net_serialBehind) 4 = .ok (.if_icmp .ne 7, 3) := by decide +kernel
theorem d_Net_serialBehind_7 : decode (mB m_Net_serialBehind) 7 = .ok (.iconst 1, 1) := by decide +kernel
theorem d_Net_serialBehind_8 : decode (mB m_Net_serialBehind) 8 = .ok (.goto 6, 3) := by decide +kernel
theorem d_Net_serialBehind_11 : decode (mB m_Net_serialBehind) 11 = .ok (.iload_n 0, 1) := by decide +kernel
theorem d_Net_serialBehind_12 : decode (mB m_Net_serialBehind) 12 = .ok (.iconst 1, 1) := by decide +kernel
theorem d_Net_serialBehind_13 : decode (mB m_Net_serialBehind) 13 = .ok (.iadd, 1) := by decide +kernel
theorem d_Net_serialBehind_14 : decode (mB m_Net_serialBehind) 14 = .ok (.ireturn, 1) := by decide +kernel
theorem cal_Net_serialBehind : mCal m_Net_serialBehind 1 := ⟨Or.inl ⟨rfl, goodIn_r _ [788] (by decide +kernel) (by decide +kernel)⟩, by decide, ⟨by decide, by decide⟩, by decide +kernel⟩
abbrev b_Net_serialAhead : ByteArray := prog_1_method_27_code
def m_Net_serialAhead : Mi := (⟨"TextNet", "serialAhead", "(I)I"⟩, b_Net_serialAhead, 1, (some .int), [])
theorem d_Net_serialAhead_0 : decode (mB m_Net_serialAhead) 0 = .ok (.iload_n 0, 1) := by decide +kernel
theorem d_Net_serialAhead_1 : decode (mB m_Net_serialAhead) 1 = .ok (.iconst 1, 1) := by decide +kernel
theorem d_Net_serialAhead_2 : decode (mB m_Net_serialAhead) 2 = .ok (.if_icmp .ne 9, 3) := by decide +kernel
theorem d_Net_serialAhead_5 : decode (mB m_Net_serialAhead) 5 = .ok (.sipush 999, 3) := by decide +kernel
theorem d_Net_serialAhead_8 : decode (mB m_Net_serialAhead) 8 = .ok (.goto 6, 3) := by decide +kernel
theorem d_Net_serialAhead_11 : decode (mB m_Net_serialAhead) 11 = .ok (.iload_n 0, 1) := by decide +kernel
theorem d_Net_serialAhead_12 : decode (mB m_Net_serialAhead) 12 = .ok (.iconst 1, 1) := by decide +kernel
theorem d_Net_serialAhead_13 : decode (mB m_Net_serialAhead) 13 = .ok (.isub, 1) := by decide +kernel
theorem d_Net_serialAhead_14 : decode (mB m_Net_serialAhead) 14 = .ok (.ireturn, 1) := by decide +kernel
theorem cal_Net_serialAhead : mCal m_Net_serialAhead 1 := ⟨Or.inl ⟨rfl, goodIn_r _ [855] (by decide +kernel) (by decide +kernel)⟩, by decide, ⟨by decide, by decide⟩, by decide +kernel⟩
abbrev b_Net_isLetter : ByteArray := prog_1_method_28_code
def m_Net_isLetter : Mi := (⟨"TextNet", "isLetter", "(I)Z"⟩, b_Net_isLetter, 1, (some .boolean), [])
theorem d_Net_isLetter_0 : decode (mB m_Net_isLetter) 0 = .ok (.iload_n 0, 1) := by decide +kernel
theorem d_Net_isLetter_1 : decode (mB m_Net_isLetter) 1 = .ok (.bipush 65, 2) := by decide +kernel
theorem d_Net_isLetter_3 : decode (mB m_Net_isLetter) 3 = .ok (.if_icmp .lt 13, 3) := by decide +kernel
theorem d_Net_isLetter_6 : decode (mB m_Net_isLetter) 6 = .ok (.iload_n 0, 1) := by decide +kernel
theorem d_Net_isLetter_7 : decode (mB m_Net_isLetter) 7 = .ok (.bipush 90, 2) := by decide +kernel
theorem d_Net_isLetter_9 : decode (mB m_Net_isLetter) 9 = .ok (.if_icmp .gt 7, 3) := by decide +kernel
theorem d_Net_isLetter_12 : decode (mB m_Net_isLetter) 12 = .ok (.iconst 1, 1) := by decide +kernel
theorem d_Net_isLetter_13 : decode (mB m_Net_isLetter) 13 = .ok (.goto 4, 3) := by decide +kernel
theorem d_Net_isLetter_16 : decode (mB m_Net_isLetter) 16 = .ok (.iconst 0, 1) := by decide +kernel
theorem d_Net_isLetter_17 : decode (mB m_Net_isLetter) 17 = .ok (.ireturn, 1) := by decide +kernel
theorem cal_Net_isLetter : mCal m_Net_isLetter 1 := ⟨Or.inl ⟨rfl, goodIn_r _ [370] (by decide +kernel) (by decide +kernel)⟩, by decide, ⟨by decide, by decide⟩, by decide +kernel⟩
abbrev b_Net_isDigit : ByteArray := prog_1_method_29_code
def m_Net_isDigit : Mi := (⟨"TextNet", "isDigit", "(I)Z"⟩, b_Net_isDigit, 1, (some .boolean), [])
theorem d_Net_isDigit_0 : decode (mB m_Net_isDigit) 0 = .ok (.iload_n 0, 1) := by decide +kernel
theorem d_Net_isDigit_1 : decode (mB m_Net_isDigit) 1 = .ok (.bipush 48, 2) := by decide +kernel
theorem d_Net_isDigit_3 : decode (mB m_Net_isDigit) 3 = .ok (.if_icmp .lt 13, 3) := by decide +kernel
theorem d_Net_isDigit_6 : decode (mB m_Net_isDigit) 6 = .ok (.iload_n 0, 1) := by decide +kernel
theorem d_Net_isDigit_7 : decode (mB m_Net_isDigit) 7 = .ok (.bipush 57, 2) := by decide +kernel
theorem d_Net_isDigit_9 : decode (mB m_Net_isDigit) 9 = .ok (.if_icmp .gt 7, 3) := by decide +kernel
theorem d_Net_isDigit_12 : decode (mB m_Net_isDigit) 12 = .ok (.iconst 1, 1) := by decide +kernel
theorem d_Net_isDigit_13 : decode (mB m_Net_isDigit) 13 = .ok (.goto 4, 3) := by decide +kernel
theorem d_Net_isDigit_16 : decode (mB m_Net_isDigit) 16 = .ok (.iconst 0, 1) := by decide +kernel
theorem d_Net_isDigit_17 : decode (mB m_Net_isDigit) 17 = .ok (.ireturn, 1) := by decide +kernel
theorem cal_Net_isDigit : mCal m_Net_isDigit 1 := ⟨Or.inl ⟨rfl, goodIn_r _ [587] (by decide +kernel) (by decide +kernel)⟩, by decide, ⟨by decide, by decide⟩, by decide +kernel⟩
abbrev b_Net_isSign : ByteArray := prog_1_method_30_code
def m_Net_isSign : Mi := (⟨"TextNet", "isSign", "(I)Z"⟩, b_Net_isSign, 1, (some .boolean), [])
theorem d_Net_isSign_0 : decode (mB m_Net_isSign) 0 = .ok (.iload_n 0, 1) := by decide +kernel
theorem d_Net_isSign_1 : decode (mB m_Net_isSign) 1 = .ok (.invokestatic 351, 3) := by decide +kernel
theorem d_Net_isSign_4 : decode (mB m_Net_isSign) 4 = .ok (.ifCond .ne 25, 3) := by decide +kernel
theorem d_Net_isSign_7 : decode (mB m_Net_isSign) 7 = .ok (.iload_n 0, 1) := by decide +kernel
theorem d_Net_isSign_8 : decode (mB m_Net_isSign) 8 = .ok (.invokestatic 354, 3) := by decide +kernel
theorem d_Net_isSign_11 : decode (mB m_Net_isSign) 11 = .ok (.ifCond .ne 18, 3) := by decide +kernel
theorem d_Net_isSign_14 : decode (mB m_Net_isSign) 14 = .ok (.iload_n 0, 1) := by decide +kernel
theorem d_Net_isSign_15 : decode (mB m_Net_isSign) 15 = .ok (.ifCond .lt 18, 3) := by decide +kernel
theorem d_Net_isSign_18 : decode (mB m_Net_isSign) 18 = .ok (.ldc_w 357, 3) := by decide +kernel
theorem d_Net_isSign_21 : decode (mB m_Net_isSign) 21 = .ok (.iload_n 0, 1) := by decide +kernel
theorem d_Net_isSign_22 : decode (mB m_Net_isSign) 22 = .ok (.i2c, 1) := by decide +kernel
theorem d_Net_isSign_23 : decode (mB m_Net_isSign) 23 = .ok (.invokevirtual 359, 3) := by decide +kernel
theorem d_Net_isSign_26 : decode (mB m_Net_isSign) 26 = .ok (.ifCond .lt 7, 3) := by decide +kernel
theorem d_Net_isSign_29 : decode (mB m_Net_isSign) 29 = .ok (.iconst 1, 1) := by decide +kernel
theorem d_Net_isSign_30 : decode (mB m_Net_isSign) 30 = .ok (.goto 4, 3) := by decide +kernel
theorem d_Net_isSign_33 : decode (mB m_Net_isSign) 33 = .ok (.iconst 0, 1) := by decide +kernel
theorem d_Net_isSign_34 : decode (mB m_Net_isSign) 34 = .ok (.ireturn, 1) := by decide +kernel
theorem cal_Net_isSign : mCal m_Net_isSign 1 := ⟨Or.inl ⟨rfl, goodIn_r _ [624] (by decide +kernel) (by decide +kernel)⟩, by decide, ⟨by decide, by decide⟩, by decide +kernel⟩
abbrev b_Net_maskOf : ByteArray := prog_1_method_31_code
def m_Net_maskOf : Mi := (⟨"TextNet", "maskOf", "(I)J"⟩, b_Net_maskOf, 1, (some .long), [])
theorem d_Net_maskOf_0 : decode (mB m_Net_maskOf) 0 = .ok (.iload_n 0, 1) := by decide +kernel
theorem d_Net_maskOf_1 : decode (mB m_Net_maskOf) 1 = .ok (.bipush 8, 2) := by decide +kernel
theorem d_Net_maskOf_3 : decode (mB m_Net_maskOf) 3 = .ok (.if_icmp .lt 9, 3) := by decide +kernel
theorem d_Net_maskOf_6 : decode (mB m_Net_maskOf) 6 = .ok (.ldc2_w 364, 3) := by decide +kernel
theorem d_Net_maskOf_9 : decode (mB m_Net_maskOf) 9 = .ok (.goto 11, 3) := by decide +kernel
theorem d_Net_maskOf_12 : decode (mB m_Net_maskOf) 12 = .ok (.lconst 1, 1) := by decide +kernel
theorem d_Net_maskOf_13 : decode (mB m_Net_maskOf) 13 = .ok (.bipush 8, 2) := by decide +kernel
theorem d_Net_maskOf_15 : decode (mB m_Net_maskOf) 15 = .ok (.iload_n 0, 1) := by decide +kernel
theorem d_Net_maskOf_16 : decode (mB m_Net_maskOf) 16 = .ok (.imul, 1) := by decide +kernel
theorem d_Net_maskOf_17 : decode (mB m_Net_maskOf) 17 = .ok (.lshl, 1) := by decide +kernel
theorem d_Net_maskOf_18 : decode (mB m_Net_maskOf) 18 = .ok (.lconst 1, 1) := by decide +kernel
theorem d_Net_maskOf_19 : decode (mB m_Net_maskOf) 19 = .ok (.lsub, 1) := by decide +kernel
theorem d_Net_maskOf_20 : decode (mB m_Net_maskOf) 20 = .ok (.lreturn, 1) := by decide +kernel
theorem cal_Net_maskOf : mCal m_Net_maskOf 1 := ⟨Or.inl ⟨rfl, goodIn_r _ [366] (by decide +kernel) (by decide +kernel)⟩, by decide, ⟨by decide, by decide⟩, by decide +kernel⟩
abbrev b_Net_isPrefix : ByteArray := prog_1_method_32_code
def m_Net_isPrefix : Mi := (⟨"TextNet", "isPrefix", "(JI)Z"⟩, b_Net_isPrefix, 4, (some .boolean), [])
theorem d_Net_isPrefix_0 : decode (mB m_Net_isPrefix) 0 = .ok (.iload_n 2, 1) := by decide +kernel
theorem d_Net_isPrefix_1 : decode (mB m_Net_isPrefix) 1 = .ok (.iconst 1, 1) := by decide +kernel
theorem d_Net_isPrefix_2 : decode (mB m_Net_isPrefix) 2 = .ok (.if_icmp .lt 24, 3) := by decide +kernel
theorem d_Net_isPrefix_5 : decode (mB m_Net_isPrefix) 5 = .ok (.iload_n 2, 1) := by decide +kernel
theorem d_Net_isPrefix_6 : decode (mB m_Net_isPrefix) 6 = .ok (.bipush 8, 2) := by decide +kernel
theorem d_Net_isPrefix_8 : decode (mB m_Net_isPrefix) 8 = .ok (.if_icmp .gt 18, 3) := by decide +kernel
theorem d_Net_isPrefix_11 : decode (mB m_Net_isPrefix) 11 = .ok (.lload_n 0, 1) := by decide +kernel
theorem d_Net_isPrefix_12 : decode (mB m_Net_isPrefix) 12 = .ok (.iload_n 2, 1) := by decide +kernel
theorem d_Net_isPrefix_13 : decode (mB m_Net_isPrefix) 13 = .ok (.invokestatic 366, 3) := by decide +kernel
theorem d_Net_isPrefix_16 : decode (mB m_Net_isPrefix) 16 = .ok (.ldc2_w 364, 3) := by decide +kernel
theorem d_Net_isPrefix_19 : decode (mB m_Net_isPrefix) 19 = .ok (.lxor, 1) := by decide +kernel
theorem d_Net_isPrefix_20 : decode (mB m_Net_isPrefix) 20 = .ok (.land, 1) := by decide +kernel
theorem d_Net_isPrefix_21 : decode (mB m_Net_isPrefix) 21 = .ok (.lconst 0, 1) := by decide +kernel
theorem d_Net_isPrefix_22 : decode (mB m_Net_isPrefix) 22 = .ok (.lcmp, 1) := by decide +kernel
theorem d_Net_isPrefix_23 : decode (mB m_Net_isPrefix) 23 = .ok (.ifCond .eq 5, 3) := by decide +kernel
theorem d_Net_isPrefix_26 : decode (mB m_Net_isPrefix) 26 = .ok (.iconst 0, 1) := by decide +kernel
theorem d_Net_isPrefix_27 : decode (mB m_Net_isPrefix) 27 = .ok (.ireturn, 1) := by decide +kernel
theorem d_Net_isPrefix_28 : decode (mB m_Net_isPrefix) 28 = .ok (.iconst 0, 1) := by decide +kernel
theorem d_Net_isPrefix_29 : decode (mB m_Net_isPrefix) 29 = .ok (.istore_n 3, 1) := by decide +kernel
theorem d_Net_isPrefix_30 : decode (mB m_Net_isPrefix) 30 = .ok (.iload_n 3, 1) := by decide +kernel
theorem d_Net_isPrefix_31 : decode (mB m_Net_isPrefix) 31 = .ok (.iload_n 2, 1) := by decide +kernel
theorem d_Net_isPrefix_32 : decode (mB m_Net_isPrefix) 32 = .ok (.if_icmp .ge 28, 3) := by decide +kernel
theorem d_Net_isPrefix_35 : decode (mB m_Net_isPrefix) 35 = .ok (.lload_n 0, 1) := by decide +kernel
theorem d_Net_isPrefix_36 : decode (mB m_Net_isPrefix) 36 = .ok (.bipush 8, 2) := by decide +kernel
theorem d_Net_isPrefix_38 : decode (mB m_Net_isPrefix) 38 = .ok (.iload_n 3, 1) := by decide +kernel
theorem d_Net_isPrefix_39 : decode (mB m_Net_isPrefix) 39 = .ok (.imul, 1) := by decide +kernel
theorem d_Net_isPrefix_40 : decode (mB m_Net_isPrefix) 40 = .ok (.lushr, 1) := by decide +kernel
theorem d_Net_isPrefix_41 : decode (mB m_Net_isPrefix) 41 = .ok (.l2i, 1) := by decide +kernel
theorem d_Net_isPrefix_42 : decode (mB m_Net_isPrefix) 42 = .ok (.sipush 255, 3) := by decide +kernel
theorem d_Net_isPrefix_45 : decode (mB m_Net_isPrefix) 45 = .ok (.iand, 1) := by decide +kernel
theorem d_Net_isPrefix_46 : decode (mB m_Net_isPrefix) 46 = .ok (.invokestatic 351, 3) := by decide +kernel
theorem d_Net_isPrefix_49 : decode (mB m_Net_isPrefix) 49 = .ok (.ifCond .ne 5, 3) := by decide +kernel
theorem d_Net_isPrefix_52 : decode (mB m_Net_isPrefix) 52 = .ok (.iconst 0, 1) := by decide +kernel
theorem d_Net_isPrefix_53 : decode (mB m_Net_isPrefix) 53 = .ok (.ireturn, 1) := by decide +kernel
theorem d_Net_isPrefix_54 : decode (mB m_Net_isPrefix) 54 = .ok (.iinc 3 1, 3) := by decide +kernel
theorem d_Net_isPrefix_57 : decode (mB m_Net_isPrefix) 57 = .ok (.goto (-27), 3) := by decide +kernel
theorem d_Net_isPrefix_60 : decode (mB m_Net_isPrefix) 60 = .ok (.iconst 1, 1) := by decide +kernel
theorem d_Net_isPrefix_61 : decode (mB m_Net_isPrefix) 61 = .ok (.ireturn, 1) := by decide +kernel
theorem cal_Net_isPrefix : mCal m_Net_isPrefix 2 := ⟨Or.inl ⟨rfl, goodIn_r _ [363] (by decide +kernel) (by decide +kernel)⟩, by decide, ⟨by decide, by decide⟩, by decide +kernel⟩
abbrev b_Chn_init : ByteArray := prog_2_method_1_code
def m_Chn_init : Mi := (⟨"TextNet$Channel", "<init>", "()V"⟩, b_Chn_init, 2, none, [])
theorem d_Chn_init_0 : decode (mB m_Chn_init) 0 = .ok (.aload_n 0, 1) := by decide +kernel
theorem d_Chn_init_1 : decode (mB m_Chn_init) 1 = .ok (.invokespecial 3, 3) := by decide +kernel
theorem d_Chn_init_4 : decode (mB m_Chn_init) 4 = .ok (.aload_n 0, 1) := by decide +kernel
theorem d_Chn_init_5 : decode (mB m_Chn_init) 5 = .ok (.iconst 5, 1) := by decide +kernel
theorem d_Chn_init_6 : decode (mB m_Chn_init) 6 = .ok (.anewarray 9, 3) := by decide +kernel
theorem d_Chn_init_9 : decode (mB m_Chn_init) 9 = .ok (.putfield 11, 3) := by decide +kernel
theorem d_Chn_init_12 : decode (mB m_Chn_init) 12 = .ok (.aload_n 0, 1) := by decide +kernel
theorem d_Chn_init_13 : decode (mB m_Chn_init) 13 = .ok (.new 17, 3) := by decide +kernel
theorem d_Chn_init_16 : decode (mB m_Chn_init) 16 = .ok (.dup, 1) := by decide +kernel
theorem d_Chn_init_17 : decode (mB m_Chn_init) 17 = .ok (.bipush 20, 2) := by decide +kernel
theorem d_Chn_init_19 : decode (mB m_Chn_init) 19 = .ok (.invokespecial 19, 3) := by decide +kernel
theorem d_Chn_init_22 : decode (mB m_Chn_init) 22 = .ok (.putfield 22, 3) := by decide +kernel
theorem d_Chn_init_25 : decode (mB m_Chn_init) 25 = .ok (.aload_n 0, 1) := by decide +kernel
theorem d_Chn_init_26 : decode (mB m_Chn_init) 26 = .ok (.new 17, 3) := by decide +kernel
theorem d_Chn_init_29 : decode (mB m_Chn_init) 29 = .ok (.dup, 1) := by decide +kernel
theorem d_Chn_init_30 : decode (mB m_Chn_init) 30 = .ok (.sipush 200, 3) := by decide +kernel
theorem d_Chn_init_33 : decode (mB m_Chn_init) 33 = .ok (.invokespecial 19, 3) := by decide +kernel
theorem d_Chn_init_36 : decode (mB m_Chn_init) 36 = .ok (.putfield 26, 3) := by decide +kernel
theorem d_Chn_init_39 : decode (mB m_Chn_init) 39 = .ok (.aload_n 0, 1) := by decide +kernel
theorem d_Chn_init_40 : decode (mB m_Chn_init) 40 = .ok (.iconst 1, 1) := by decide +kernel
theorem d_Chn_init_41 : decode (mB m_Chn_init) 41 = .ok (.putfield 29, 3) := by decide +kernel
theorem d_Chn_init_44 : decode (mB m_Chn_init) 44 = .ok (.aload_n 0, 1) := by decide +kernel
theorem d_Chn_init_45 : decode (mB m_Chn_init) 45 = .ok (.iconst 1, 1) := by decide +kernel
theorem d_Chn_init_46 : decode (mB m_Chn_init) 46 = .ok (.putfield 33, 3) := by decide +kernel
theorem d_Chn_init_49 : decode (mB m_Chn_init) 49 = .ok (.aload_n 0, 1) := by decide +kernel
theorem d_Chn_init_50 : decode (mB m_Chn_init) 50 = .ok (.bipush (-3), 2) := by decide +kernel
theorem d_Chn_init_52 : decode (mB m_Chn_init) 52 = .ok (.putfield 36, 3) := by decide +kernel
theorem d_Chn_init_55 : decode (mB m_Chn_init) 55 = .ok (.iconst 0, 1) := by decide +kernel
theorem d_Chn_init_56 : decode (mB m_Chn_init) 56 = .ok (.istore_n 1, 1) := by decide +kernel
theorem d_Chn_init_57 : decode (mB m_Chn_init) 57 = .ok (.iload_n 1, 1) := by decide +kernel
theorem d_Chn_init_58 : decode (mB m_Chn_init) 58 = .ok (.iconst 5, 1) := by decide +kernel
theorem d_Chn_init_59 : decode (mB m_Chn_init) 59 = .ok (.if_icmp .ge 22, 3) := by decide +kernel
theorem d_Chn_init_62 : decode (mB m_Chn_init) 62 = .ok (.aload_n 0, 1) := by decide +kernel
theorem d_Chn_init_63 : decode (mB m_Chn_init) 63 = .ok (.getfield 11, 3) := by decide +kernel
theorem d_Chn_init_66 : decode (mB m_Chn_init) 66 = .ok (.iload_n 1, 1) := by decide +kernel
theorem d_Chn_init_67 : decode (mB m_Chn_init) 67 = .ok (.new 9, 3) := by decide +kernel
theorem d_Chn_init_70 : decode (mB m_Chn_init) 70 = .ok (.dup, 1) := by decide +kernel
theorem d_Chn_init_71 : decode (mB m_Chn_init) 71 = .ok (.invokespecial 39, 3) := by decide +kernel
theorem d_Chn_init_74 : decode (mB m_Chn_init) 74 = .ok (.aastore, 1) := by decide +kernel
theorem d_Chn_init_75 : decode (mB m_Chn_init) 75 = .ok (.iinc 1 1, 3) := by decide +kernel
theorem d_Chn_init_78 : decode (mB m_Chn_init) 78 = .ok (.goto (-21), 3) := by decide +kernel
theorem d_Chn_init_81 : decode (mB m_Chn_init) 81 = .ok (.return_, 1) := by decide +kernel
theorem cal_Chn_init : mCal m_Chn_init 0 := ⟨Or.inl ⟨rfl, goodIn_r _ [275] (by decide +kernel) (by decide +kernel)⟩, by decide, ⟨by decide, by decide⟩, by decide +kernel⟩
