abbrev b_Mod_passes : ByteArray := prog_13_method_18_code
def m_Mod_passes : Mi := (⟨"TextNetModel", "passes", "(II)Z"⟩, b_Mod_passes, 3, (some .boolean), [])
theorem d_Mod_passes_0 : decode (mB m_Mod_passes) 0 = .ok (.aload_n 0, 1) := by decide +kernel
theorem d_Mod_passes_1 : decode (mB m_Mod_passes) 1 = .ok (.aload_n 0, 1) := by decide +kernel
theorem d_Mod_passes_2 : decode (mB m_Mod_passes) 2 = .ok (.getfield 148, 3) := by decide +kernel
theorem d_Mod_passes_5 : decode (mB m_Mod_passes) 5 = .ok (.invokevirtual 151, 3) := by decide +kernel
theorem d_Mod_passes_8 : decode (mB m_Mod_passes) 8 = .ok (.iload_n 1, 1) := by decide +kernel
theorem d_Mod_passes_9 : decode (mB m_Mod_passes) 9 = .ok (.if_icmp .eq 13, 3) := by decide +kernel
theorem d_Mod_passes_12 : decode (mB m_Mod_passes) 12 = .ok (.aload_n 0, 1) := by decide +kernel
theorem d_Mod_passes_13 : decode (mB m_Mod_passes) 13 = .ok (.aload_n 0, 1) := by decide +kernel
theorem d_Mod_passes_14 : decode (mB m_Mod_passes) 14 = .ok (.getfield 148, 3) := by decide +kernel
theorem d_Mod_passes_17 : decode (mB m_Mod_passes) 17 = .ok (.iload_n 2, 1) := by decide +kernel
theorem d_Mod_passes_18 : decode (mB m_Mod_passes) 18 = .ok (.invokevirtual 155, 3) := by decide +kernel
theorem d_Mod_passes_21 : decode (mB m_Mod_passes) 21 = .ok (.ireturn, 1) := by decide +kernel
theorem d_Mod_passes_22 : decode (mB m_Mod_passes) 22 = .ok (.aload_n 0, 1) := by decide +kernel
theorem d_Mod_passes_23 : decode (mB m_Mod_passes) 23 = .ok (.dup, 1) := by decide +kernel
theorem d_Mod_passes_24 : decode (mB m_Mod_passes) 24 = .ok (.getfield 148, 3) := by decide +kernel
theorem d_Mod_passes_27 : decode (mB m_Mod_passes) 27 = .ok (.iconst 1, 1) := by decide +kernel
theorem d_Mod_passes_28 : decode (mB m_Mod_passes) 28 = .ok (.iadd, 1) := by decide +kernel
theorem d_Mod_passes_29 : decode (mB m_Mod_passes) 29 = .ok (.putfield 148, 3) := by decide +kernel
theorem d_Mod_passes_32 : decode (mB m_Mod_passes) 32 = .ok (.iconst 1, 1) := by decide +kernel
theorem d_Mod_passes_33 : decode (mB m_Mod_passes) 33 = .ok (.ireturn, 1) := by decide +kernel
theorem cal_Mod_passes : mCal m_Mod_passes 2 := ⟨Or.inl ⟨rfl, goodIn_r _ [1167] (by decide +kernel) (by decide +kernel)⟩, by decide, ⟨by decide, by decide⟩, by decide +kernel⟩
abbrev b_Mod_letters : ByteArray := prog_13_method_19_code
def m_Mod_letters : Mi := (⟨"TextNetModel", "letters", "(I)Z"⟩, b_Mod_letters, 3, (some .boolean), [])
theorem d_Mod_letters_0 : decode (mB m_Mod_letters) 0 = .ok (.iconst 0, 1) := by decide +kernel
theorem d_Mod_letters_1 : decode (mB m_Mod_letters) 1 = .ok (.istore_n 2, 1) := by decide +kernel
theorem d_Mod_letters_2 : decode (mB m_Mod_letters) 2 = .ok (.iload_n 2, 1) := by decide +kernel
theorem d_Mod_letters_3 : decode (mB m_Mod_letters) 3 = .ok (.bipush 8, 2) := by decide +kernel
theorem d_Mod_letters_5 : decode (mB m_Mod_letters) 5 = .ok (.if_icmp .ge 43, 3) := by decide +kernel
theorem d_Mod_letters_8 : decode (mB m_Mod_letters) 8 = .ok (.aload_n 0, 1) := by decide +kernel
theorem d_Mod_letters_9 : decode (mB m_Mod_letters) 9 = .ok (.aload_n 0, 1) := by decide +kernel
theorem d_Mod_letters_10 : decode (mB m_Mod_letters) 10 = .ok (.getfield 148, 3) := by decide +kernel
theorem d_Mod_letters_13 : decode (mB m_Mod_letters) 13 = .ok (.invokevirtual 151, 3) := by decide +kernel
theorem d_Mod_letters_16 : decode (mB m_Mod_letters) 16 = .ok (.invokestatic 130, 3) := by decide +kernel
theorem d_Mod_letters_19 : decode (mB m_Mod_letters) 19 = .ok (.ifCond .ne 13, 3) := by decide +kernel
theorem d_Mod_letters_22 : decode (mB m_Mod_letters) 22 = .ok (.aload_n 0, 1) := by decide +kernel
theorem d_Mod_letters_23 : decode (mB m_Mod_letters) 23 = .ok (.aload_n 0, 1) := by decide +kernel
theorem d_Mod_letters_24 : decode (mB m_Mod_letters) 24 = .ok (.getfield 148, 3) := by decide +kernel
theorem d_Mod_letters_27 : decode (mB m_Mod_letters) 27 = .ok (.iload_n 1, 1) := by decide +kernel
theorem d_Mod_letters_28 : decode (mB m_Mod_letters) 28 = .ok (.invokevirtual 155, 3) := by decide +kernel
theorem d_Mod_letters_31 : decode (mB m_Mod_letters) 31 = .ok (.ireturn, 1) := by decide +kernel
theorem d_Mod_letters_32 : decode (mB m_Mod_letters) 32 = .ok (.aload_n 0, 1) := by decide +kernel
theorem d_Mod_letters_33 : decode (mB m_Mod_letters) 33 = .ok (.dup, 1) := by decide +kernel
theorem d_Mod_letters_34 : decode (mB m_Mod_letters) 34 = .ok (.getfield 148, 3) := by decide +kernel
theorem d_Mod_letters_37 : decode (mB m_Mod_letters) 37 = .ok (.iconst 1, 1) := by decide +kernel
theorem d_Mod_letters_38 : decode (mB m_Mod_letters) 38 = .ok (.iadd, 1) := by decide +kernel
theorem d_Mod_letters_39 : decode (mB m_Mod_letters) 39 = .ok (.putfield 148, 3) := by decide +kernel
theorem d_Mod_letters_42 : decode (mB m_Mod_letters) 42 = .ok (.iinc 2 1, 3) := by decide +kernel
theorem d_Mod_letters_45 : decode (mB m_Mod_letters) 45 = .ok (.goto (-43), 3) := by decide +kernel
theorem d_Mod_letters_48 : decode (mB m_Mod_letters) 48 = .ok (.iconst 1, 1) := by decide +kernel
theorem d_Mod_letters_49 : decode (mB m_Mod_letters) 49 = .ok (.ireturn, 1) := by decide +kernel
theorem cal_Mod_letters : mCal m_Mod_letters 1 := ⟨Or.inl ⟨rfl, goodIn_r _ [1175] (by decide +kernel) (by decide +kernel)⟩, by decide, ⟨by decide, by decide⟩, by decide +kernel⟩
abbrev b_Mod_head : ByteArray := prog_13_method_20_code
def m_Mod_head : Mi := (⟨"TextNetModel", "head", "(I)Z"⟩, b_Mod_head, 3, (some .boolean), [])
theorem d_Mod_head_0 : decode (mB m_Mod_head) 0 = .ok (.aload_n 0, 1) := by decide +kernel
theorem d_Mod_head_1 : decode (mB m_Mod_head) 1 = .ok (.iconst 0, 1) := by decide +kernel
theorem d_Mod_head_2 : decode (mB m_Mod_head) 2 = .ok (.invokevirtual 151, 3) := by decide +kernel
theorem d_Mod_head_5 : decode (mB m_Mod_head) 5 = .ok (.invokestatic 158, 3) := by decide +kernel
theorem d_Mod_head_8 : decode (mB m_Mod_head) 8 = .ok (.istore_n 2, 1) := by decide +kernel
theorem d_Mod_head_9 : decode (mB m_Mod_head) 9 = .ok (.iload_n 2, 1) := by decide +kernel
theorem d_Mod_head_10 : decode (mB m_Mod_head) 10 = .ok (.ifCond .ge 10, 3) := by decide +kernel
theorem d_Mod_head_13 : decode (mB m_Mod_head) 13 = .ok (.aload_n 0, 1) := by decide +kernel
theorem d_Mod_head_14 : decode (mB m_Mod_head) 14 = .ok (.iconst 0, 1) := by decide +kernel
theorem d_Mod_head_15 : decode (mB m_Mod_head) 15 = .ok (.iconst 1, 1) := by decide +kernel
theorem d_Mod_head_16 : decode (mB m_Mod_head) 16 = .ok (.invokevirtual 155, 3) := by decide +kernel
theorem d_Mod_head_19 : decode (mB m_Mod_head) 19 = .ok (.ireturn, 1) := by decide +kernel
theorem d_Mod_head_20 : decode (mB m_Mod_head) 20 = .ok (.aload_n 0, 1) := by decide +kernel
theorem d_Mod_head_21 : decode (mB m_Mod_head) 21 = .ok (.getfield 142, 3) := by decide +kernel
theorem d_Mod_head_24 : decode (mB m_Mod_head) 24 = .ok (.iconst 1, 1) := by decide +kernel
theorem d_Mod_head_25 : decode (mB m_Mod_head) 25 = .ok (.if_icmp .ne 10, 3) := by decide +kernel
theorem d_Mod_head_28 : decode (mB m_Mod_head) 28 = .ok (.aload_n 0, 1) := by decide +kernel
theorem d_Mod_head_29 : decode (mB m_Mod_head) 29 = .ok (.iconst 1, 1) := by decide +kernel
theorem d_Mod_head_30 : decode (mB m_Mod_head) 30 = .ok (.iconst 1, 1) := by decide +kernel
theorem d_Mod_head_31 : decode (mB m_Mod_head) 31 = .ok (.invokevirtual 155, 3) := by decide +kernel
theorem d_Mod_head_34 : decode (mB m_Mod_head) 34 = .ok (.ireturn, 1) := by decide +kernel
theorem d_Mod_head_35 : decode (mB m_Mod_head) 35 = .ok (.aload_n 0, 1) := by decide +kernel
theorem d_Mod_head_36 : decode (mB m_Mod_head) 36 = .ok (.iconst 1, 1) := by decide +kernel
theorem d_Mod_head_37 : decode (mB m_Mod_head) 37 = .ok (.invokevirtual 151, 3) := by decide +kernel
theorem d_Mod_head_40 : decode (mB m_Mod_head) 40 = .ok (.aload_n 0, 1) := by decide +kernel
theorem d_Mod_head_41 : decode (mB m_Mod_head) 41 = .ok (.iconst 0, 1) := by decide +kernel
theorem d_Mod_head_42 : decode (mB m_Mod_head) 42 = .ok (.invokevirtual 151, 3) := by decide +kernel
theorem d_Mod_head_45 : decode (mB m_Mod_head) 45 = .ok (.if_icmp .eq 10, 3) := by decide +kernel
theorem d_Mod_head_48 : decode (mB m_Mod_head) 48 = .ok (.aload_n 0, 1) := by decide +kernel
theorem d_Mod_head_49 : decode (mB m_Mod_head) 49 = .ok (.iconst 0, 1) := by decide +kernel
theorem d_Mod_head_50 : decode (mB m_Mod_head) 50 = .ok (.iconst 1, 1) := by decide +kernel
theorem d_Mod_head_51 : decode (mB m_Mod_head) 51 = .ok (.invokevirtual 155, 3) := by decide +kernel
theorem d_Mod_head_54 : decode (mB m_Mod_head) 54 = .ok (.ireturn, 1) := by decide +kernel
theorem d_Mod_head_55 : decode (mB m_Mod_head) 55 = .ok (.aload_n 0, 1) := by decide +kernel
theorem d_Mod_head_56 : decode (mB m_Mod_head) 56 = .ok (.getfield 54, 3) := by decide +kernel
theorem d_Mod_head_59 : decode (mB m_Mod_head) 59 = .ok (.iload_n 1, 1) := by decide +kernel
theorem d_Mod_head_60 : decode (mB m_Mod_head) 60 = .ok (.iload_n 2, 1) := by decide +kernel
theorem d_Mod_head_61 : decode (mB m_Mod_head) 61 = .ok (.iastore, 1) := by decide +kernel
theorem d_Mod_head_62 : decode (mB m_Mod_head) 62 = .ok (.aload_n 0, 1) := by decide +kernel
theorem d_Mod_head_63 : decode (mB m_Mod_head) 63 = .ok (.iconst 2, 1) := by decide +kernel
theorem d_Mod_head_64 : decode (mB m_Mod_head) 64 = .ok (.putfield 148, 3) := by decide +kernel
theorem d_Mod_head_67 : decode (mB m_Mod_head) 67 = .ok (.aload_n 0, 1) := by decide +kernel
theorem d_Mod_head_68 : decode (mB m_Mod_head) 68 = .ok (.bipush 10, 2) := by decide +kernel
theorem d_Mod_head_70 : decode (mB m_Mod_head) 70 = .ok (.iconst 1, 1) := by decide +kernel
theorem d_Mod_head_71 : decode (mB m_Mod_head) 71 = .ok (.invokevirtual 161, 3) := by decide +kernel
theorem d_Mod_head_74 : decode (mB m_Mod_head) 74 = .ok (.ireturn, 1) := by decide +kernel
theorem cal_Mod_head : mCal m_Mod_head 1 := ⟨Or.inl ⟨rfl, goodIn_r _ [1152] (by decide +kernel) (by decide +kernel)⟩, by decide, ⟨by decide, by decide⟩, by decide +kernel⟩
abbrev b_Mod_receivers : ByteArray := prog_13_method_21_code
def m_Mod_receivers : Mi := (⟨"TextNetModel", "receivers", "(I)Z"⟩, b_Mod_receivers, 7, (some .boolean), [])
theorem d_Mod_receivers_0 : decode (mB m_Mod_receivers) 0 = .ok (.aload_n 0, 1) := by decide +kernel
theorem d_Mod_receivers_1 : decode (mB m_Mod_receivers) 1 = .ok (.iconst 0, 1) := by decide +kernel
theorem d_Mod_receivers_2 : decode (mB m_Mod_receivers) 2 = .ok (.putfield 164, 3) := by decide +kernel
theorem d_Mod_receivers_5 : decode (mB m_Mod_receivers) 5 = .ok (.iconst 1, 1) := by decide +kernel
theorem d_Mod_receivers_6 : decode (mB m_Mod_receivers) 6 = .ok (.istore_n 2, 1) := by decide +kernel
theorem d_Mod_receivers_7 : decode (mB m_Mod_receivers) 7 = .ok (.iload_n 2, 1) := by decide +kernel
theorem d_Mod_receivers_8 : decode (mB m_Mod_receivers) 8 = .ok (.ifCond .eq 206, 3) := by decide +kernel
theorem d_Mod_receivers_11 : decode (mB m_Mod_receivers) 11 = .ok (.aload_n 0, 1) := by decide +kernel
theorem d_Mod_receivers_12 : decode (mB m_Mod_receivers) 12 = .ok (.getfield 148, 3) := by decide +kernel
theorem d_Mod_receivers_15 : decode (mB m_Mod_receivers) 15 = .ok (.istore_n 3, 1) := by decide +kernel
theorem d_Mod_receivers_16 : decode (mB m_Mod_receivers) 16 = .ok (.aload_n 0, 1) := by decide +kernel
theorem d_Mod_receivers_17 : decode (mB m_Mod_receivers) 17 = .ok (.iconst 2, 1) := by decide +kernel
theorem d_Mod_receivers_18 : decode (mB m_Mod_receivers) 18 = .ok (.invokevirtual 167, 3) := by decide +kernel
theorem d_Mod_receivers_21 : decode (mB m_Mod_receivers) 21 = .ok (.ifCond .ne 5, 3) := by decide +kernel
theorem d_Mod_receivers_24 : decode (mB m_Mod_receivers) 24 = .ok (.iconst 0, 1) := by decide +kernel
theorem d_Mod_receivers_25 : decode (mB m_Mod_receivers) 25 = .ok (.ireturn, 1) := by decide +kernel
theorem d_Mod_receivers_26 : decode (mB m_Mod_receivers) 26 = .ok (.lconst 0, 1) := by decide +kernel
theorem d_Mod_receivers_27 : decode (mB m_Mod_receivers) 27 = .ok (.lstore 4, 2) := by decide +kernel
theorem d_Mod_receivers_29 : decode (mB m_Mod_receivers) 29 = .ok (.iconst 0, 1) := by decide +kernel
theorem d_Mod_receivers_30 : decode (mB m_Mod_receivers) 30 = .ok (.istore 6, 2) := by decide +kernel
theorem d_Mod_receivers_32 : decode (mB m_Mod_receivers) 32 = .ok (.iload 6, 2) := by decide +kernel
theorem d_Mod_receivers_34 : decode (mB m_Mod_receivers) 34 = .ok (.bipush 8, 2) := by decide +kernel
theorem d_Mod_receivers_36 : decode (mB m_Mod_receivers) 36 = .ok (.if_icmp .ge 27, 3) := by decide +kernel
theorem d_Mod_receivers_39 : decode (mB m_Mod_receivers) 39 = .ok (.lload 4, 2) := by decide +kernel
theorem d_Mod_receivers_41 : decode (mB m_Mod_receivers) 41 = .ok (.bipush 8, 2) := by decide +kernel
theorem d_Mod_receivers_43 : decode (mB m_Mod_receivers) 43 = .ok (.lshl, 1) := by decide +kernel
theorem d_Mod_receivers_44 : decode (mB m_Mod_receivers) 44 = .ok (.aload_n 0, 1) := by decide +kernel
theorem d_Mod_receivers_45 : decode (mB m_Mod_receivers) 45 = .ok (.getfield 16, 3) := by decide +kernel
theorem d_Mod_receivers_48 : decode (mB m_Mod_receivers) 48 = .ok (.iload_n 3, 1) := by decide +kernel
theorem d_Mod_receivers_49 : decode (mB m_Mod_receivers) 49 = .ok (.iload 6, 2) := by decide +kernel
theorem d_Mod_receivers_51 : decode (mB m_Mod_receivers) 51 = .ok (.iadd, 1) := by decide +kernel
theorem d_Mod_receivers_52 : decode (mB m_Mod_receivers) 52 = .ok (.iaload, 1) := by decide +kernel
theorem d_Mod_receivers_53 : decode (mB m_Mod_receivers) 53 = .ok (.i2l, 1) := by decide +kernel
theorem d_Mod_receivers_54 : decode (mB m_Mod_receivers) 54 = .ok (.lor, 1) := by decide +kernel
theorem d_Mod_receivers_55 : decode (mB m_Mod_receivers) 55 = .ok (.lstore 4, 2) := by decide +kernel
theorem d_Mod_receivers_57 : decode (mB m_Mod_receivers) 57 = .ok (.iinc 6 1, 3) := by decide +kernel
theorem d_Mod_receivers_60 : decode (mB m_Mod_receivers) 60 = .ok (.goto (-28), 3) := by decide +kernel
theorem d_Mod_receivers_63 : decode (mB m_Mod_receivers) 63 = .ok (.iconst 0, 1) := by decide +kernel
theorem d_Mod_receivers_64 : decode (mB m_Mod_receivers) 64 = .ok (.istore 6, 2) := by decide +kernel
theorem d_Mod_receivers_66 : decode (mB m_Mod_receivers) 66 = .ok (.iload 6, 2) := by decide +kernel
theorem d_Mod_receivers_68 : decode (mB m_Mod_receivers) 68 = .ok (.aload_n 0, 1) := by decide +kernel
theorem d_Mod_receivers_69 : decode (mB m_Mod_receivers) 69 = .ok (.getfield 164, 3) := by decide +kernel
theorem d_Mod_receivers_72 : decode (mB m_Mod_receivers) 72 = .ok (.if_icmp .ge 34, 3) := by decide +kernel
theorem d_Mod_receivers_75 : decode (mB m_Mod_receivers) 75 = .ok (.aload_n 0, 1) := by decide +kernel
theorem d_Mod_receivers_76 : decode (mB m_Mod_receivers) 76 = .ok (.getfield 60, 3) := by decide +kernel
theorem d_Mod_receivers_79 : decode (mB m_Mod_receivers) 79 = .ok (.bipush 7, 2) := by decide +kernel
theorem d_Mod_receivers_81 : decode (mB m_Mod_receivers) 81 = .ok (.iload_n 1, 1) := by decide +kernel
theorem d_Mod_receivers_82 : decode (mB m_Mod_receivers) 82 = .ok (.imul, 1) := by decide +kernel
theorem d_Mod_receivers_83 : decode (mB m_Mod_receivers) 83 = .ok (.iload 6, 2) := by decide +kernel
theorem d_Mod_receivers_85 : decode (mB m_Mod_receivers) 85 = .ok (.iadd, 1) := by decide +kernel
theorem d_Mod_receivers_86 : decode (mB m_Mod_receivers) 86 = .ok (.laload, 1) := by decide +kernel
theorem d_Mod_receivers_87 : decode (mB m_Mod_receivers) 87 = .ok (.lload 4, 2) := by decide +kernel
theorem d_Mod_receivers_89 : decode (mB m_Mod_receivers) 89 = .ok (.lcmp, 1) := by decide +kernel
theorem d_Mod_receivers_90 : decode (mB m_Mod_receivers) 90 = .ok (.ifCond .ne 10, 3) := by decide +kernel
theorem d_Mod_receivers_93 : decode (mB m_Mod_receivers) 93 = .ok (.aload_n 0, 1) := by decide +kernel
theorem d_Mod_receivers_94 : decode (mB m_Mod_receivers) 94 = .ok (.iload_n 3, 1) := by decide +kernel
theorem d_Mod_receivers_95 : decode (mB m_Mod_receivers) 95 = .ok (.iconst 3, 1) := by decide +kernel
theorem d_Mod_receivers_96 : decode (mB m_Mod_receivers) 96 = .ok (.invokevirtual 155, 3) := by decide +kernel
theorem d_Mod_receivers_99 : decode (mB m_Mod_receivers) 99 = .ok (.ireturn, 1) := by decide +kernel
theorem d_Mod_receivers_100 : decode (mB m_Mod_receivers) 100 = .ok (.iinc 6 1, 3) := by decide +kernel
theorem d_Mod_receivers_103 : decode (mB m_Mod_receivers) 103 = .ok (.goto (-37), 3) := by decide +kernel
theorem d_Mod_receivers_106 : decode (mB m_Mod_receivers) 106 = .ok (.aload_n 0, 1) := by decide +kernel
theorem d_Mod_receivers_107 : decode (mB m_Mod_receivers) 107 = .ok (.getfield 60, 3) := by decide +kernel
theorem d_Mod_receivers_110 : decode (mB m_Mod_receivers) 110 = .ok (.bipush 7, 2) := by decide +kernel
theorem d_Mod_receivers_112 : decode (mB m_Mod_receivers) 112 = .ok (.iload_n 1, 1) := by decide +kernel
theorem d_Mod_receivers_113 : decode (mB m_Mod_receivers) 113 = .ok (.imul, 1) := by decide +kernel
theorem d_Mod_receivers_114 : decode (mB m_Mod_receivers) 114 = .ok (.aload_n 0, 1) := by decide +kernel
theorem d_Mod_receivers_115 : decode (mB m_Mod_receivers) 115 = .ok (.getfield 164, 3) := by decide +kernel
theorem d_Mod_receivers_118 : decode (mB m_Mod_receivers) 118 = .ok (.iadd, 1) := by decide +kernel
theorem d_Mod_receivers_119 : decode (mB m_Mod_receivers) 119 = .ok (.lload 4, 2) := by decide +kernel
theorem d_Mod_receivers_121 : decode (mB m_Mod_receivers) 121 = .ok (.lastore, 1) := by decide +kernel
theorem d_Mod_receivers_122 : decode (mB m_Mod_receivers) 122 = .ok (.aload_n 0, 1) := by decide +kernel
theorem d_Mod_receivers_123 : decode (mB m_Mod_receivers) 123 = .ok (.dup, 1) := by decide +kernel
theorem d_Mod_receivers_124 : decode (mB m_Mod_receivers) 124 = .ok (.getfield 164, 3) := by decide +kernel
theorem d_Mod_receivers_127 : decode (mB m_Mod_receivers) 127 = .ok (.iconst 1, 1) := by decide +kernel
theorem d_Mod_receivers_128 : decode (mB m_Mod_receivers) 128 = .ok (.iadd, 1) := by decide +kernel
theorem d_Mod_receivers_129 : decode (mB m_Mod_receivers) 129 = .ok (.putfield 164, 3) := by decide +kernel
theorem d_Mod_receivers_132 : decode (mB m_Mod_receivers) 132 = .ok (.aload_n 0, 1) := by decide +kernel
theorem d_Mod_receivers_133 : decode (mB m_Mod_receivers) 133 = .ok (.aload_n 0, 1) := by decide +kernel
theorem d_Mod_receivers_134 : decode (mB m_Mod_receivers) 134 = .ok (.getfield 148, 3) := by decide +kernel
theorem d_Mod_receivers_137 : decode (mB m_Mod_receivers) 137 = .ok (.invokevirtual 151, 3) := by decide +kernel
theorem d_Mod_receivers_140 : decode (mB m_Mod_receivers) 140 = .ok (.bipush 32, 2) := by decide +kernel
theorem d_Mod_receivers_142 : decode (mB m_Mod_receivers) 142 = .ok (.if_icmp .ne 7, 3) := by decide +kernel
theorem d_Mod_receivers_145 : decode (mB m_Mod_receivers) 145 = .ok (.iconst 1, 1) := by decide +kernel
theorem d_Mod_receivers_146 : decode (mB m_Mod_receivers) 146 = .ok (.goto 4, 3) := by decide +kernel
theorem d_Mod_receivers_149 : decode (mB m_Mod_receivers) 149 = .ok (.iconst 0, 1) := by decide +kernel
theorem d_Mod_receivers_150 : decode (mB m_Mod_receivers) 150 = .ok (.istore_n 2, 1) := by decide +kernel
theorem d_Mod_receivers_151 : decode (mB m_Mod_receivers) 151 = .ok (.iload_n 2, 1) := by decide +kernel
theorem d_Mod_receivers_152 : decode (mB m_Mod_receivers) 152 = .ok (.ifCond .eq 22, 3) := by decide +kernel
theorem d_Mod_receivers_155 : decode (mB m_Mod_receivers) 155 = .ok (.aload_n 0, 1) := by decide +kernel
theorem d_Mod_receivers_156 : decode (mB m_Mod_receivers) 156 = .ok (.getfield 164, 3) := by decide +kernel
theorem d_Mod_receivers_159 : decode (mB m_Mod_receivers) 159 = .ok (.bipush 7, 2) := by decide +kernel
theorem d_Mod_receivers_161 : decode (mB m_Mod_receivers) 161 = .ok (.if_icmp .ne 13, 3) := by decide +kernel
theorem d_Mod_receivers_164 : decode (mB m_Mod_receivers) 164 = .ok (.aload_n 0, 1) := by decide +kernel
theorem d_Mod_receivers_165 : decode (mB m_Mod_receivers) 165 = .ok (.aload_n 0, 1) := by decide +kernel
theorem d_Mod_receivers_166 : decode (mB m_Mod_receivers) 166 = .ok (.getfield 148, 3) := by decide +kernel
theorem d_Mod_receivers_169 : decode (mB m_Mod_receivers) 169 = .ok (.iconst 4, 1) := by decide +kernel
theorem d_Mod_receivers_170 : decode (mB m_Mod_receivers) 170 = .ok (.invokevirtual 155, 3) := by decide +kernel
theorem d_Mod_receivers_173 : decode (mB m_Mod_receivers) 173 = .ok (.ireturn, 1) := by decide +kernel
theorem d_Mod_receivers_174 : decode (mB m_Mod_receivers) 174 = .ok (.iload_n 2, 1) := by decide +kernel
theorem d_Mod_receivers_175 : decode (mB m_Mod_receivers) 175 = .ok (.ifCond .ne 26, 3) := by decide +kernel
theorem d_Mod_receivers_178 : decode (mB m_Mod_receivers) 178 = .ok (.aload_n 0, 1) := by decide +kernel
theorem d_Mod_receivers_179 : decode (mB m_Mod_receivers) 179 = .ok (.aload_n 0, 1) := by decide +kernel
theorem d_Mod_receivers_180 : decode (mB m_Mod_receivers) 180 = .ok (.getfield 148, 3) := by decide +kernel
theorem d_Mod_receivers_183 : decode (mB m_Mod_receivers) 183 = .ok (.invokevirtual 151, 3) := by decide +kernel
theorem d_Mod_receivers_186 : decode (mB m_Mod_receivers) 186 = .ok (.bipush 10, 2) := by decide +kernel
theorem d_Mod_receivers_188 : decode (mB m_Mod_receivers) 188 = .ok (.if_icmp .eq 13, 3) := by decide +kernel
theorem d_Mod_receivers_191 : decode (mB m_Mod_receivers) 191 = .ok (.aload_n 0, 1) := by decide +kernel
theorem d_Mod_receivers_192 : decode (mB m_Mod_receivers) 192 = .ok (.aload_n 0, 1) := by decide +kernel
theorem d_Mod_receivers_193 : decode (mB m_Mod_receivers) 193 = .ok (.getfield 148, 3) := by decide +kernel
theorem d_Mod_receivers_196 : decode (mB m_Mod_receivers) 196 = .ok (.iconst 2, 1) := by decide +kernel
theorem d_Mod_receivers_197 : decode (mB m_Mod_receivers) 197 = .ok (.invokevirtual 155, 3) := by decide +kernel
theorem d_Mod_receivers_200 : decode (mB m_Mod_receivers) 200 = .ok (.ireturn, 1) := by decide +kernel
theorem d_Mod_receivers_201 : decode (mB m_Mod_receivers) 201 = .ok (.aload_n 0, 1) := by decide +kernel
theorem d_Mod_receivers_202 : decode (mB m_Mod_receivers) 202 = .ok (.dup, 1) := by decide +kernel
theorem d_Mod_receivers_203 : decode (mB m_Mod_receivers) 203 = .ok (.getfield 148, 3) := by decide +kernel
theorem d_Mod_receivers_206 : decode (mB m_Mod_receivers) 206 = .ok (.iconst 1, 1) := by decide +kernel
theorem d_Mod_receivers_207 : decode (mB m_Mod_receivers) 207 = .ok (.iadd, 1) := by decide +kernel
theorem d_Mod_receivers_208 : decode (mB m_Mod_receivers) 208 = .ok (.putfield 148, 3) := by decide +kernel
theorem d_Mod_receivers_211 : decode (mB m_Mod_receivers) 211 = .ok (.goto (-204), 3) := by decide +kernel
theorem d_Mod_receivers_214 : decode (mB m_Mod_receivers) 214 = .ok (.aload_n 0, 1) := by decide +kernel
theorem d_Mod_receivers_215 : decode (mB m_Mod_receivers) 215 = .ok (.getfield 57, 3) := by decide +kernel
theorem d_Mod_receivers_218 : decode (mB m_Mod_receivers) 218 = .ok (.iload_n 1, 1) := by decide +kernel
theorem d_Mod_receivers_219 : decode (mB m_Mod_receivers) 219 = .ok (.aload_n 0, 1) := by decide +kernel
theorem d_Mod_receivers_220 : decode (mB m_Mod_receivers) 220 = .ok (.getfield 164, 3) := by decide +kernel
theorem d_Mod_receivers_223 : decode (mB m_Mod_receivers) 223 = .ok (.iastore, 1) := by decide +kernel
theorem d_Mod_receivers_224 : decode (mB m_Mod_receivers) 224 = .ok (.iconst 1, 1) := by decide +kernel
theorem d_Mod_receivers_225 : decode (mB m_Mod_receivers) 225 = .ok (.ireturn, 1) := by decide +kernel
theorem cal_Mod_receivers : mCal m_Mod_receivers 1 := ⟨Or.inl ⟨rfl, goodIn_r _ [1171] (by decide +kernel) (by decide +kernel)⟩, by decide, ⟨by decide, by decide⟩, by decide +kernel⟩
abbrev b_Mod_two : ByteArray := prog_13_method_22_code
def m_Mod_two : Mi := (⟨"TextNetModel", "two", "(II)Z"⟩, b_Mod_two, 4, (some .boolean), [])
theorem d_Mod_two_0 : decode (mB m_Mod_two) 0 = .ok (.aload_n 0, 1) := by decide +kernel
theorem d_Mod_two_1 : decode (mB m_Mod_two) 1 = .ok (.aload_n 0, 1) := by decide +kernel
theorem d_Mod_two_2 : decode (mB m_Mod_two) 2 = .ok (.getfield 148, 3) := by decide +kernel
theorem d_Mod_two_5 : decode (mB m_Mod_two) 5 = .ok (.invokevirtual 151, 3) := by decide +kernel
theorem d_Mod_two_8 : decode (mB m_Mod_two) 8 = .ok (.invokestatic 145, 3) := by decide +kernel
theorem d_Mod_two_11 : decode (mB m_Mod_two) 11 = .ok (.ifCond .ne 13, 3) := by decide +kernel
theorem d_Mod_two_14 : decode (mB m_Mod_two) 14 = .ok (.aload_n 0, 1) := by decide +kernel
theorem d_Mod_two_15 : decode (mB m_Mod_two) 15 = .ok (.aload_n 0, 1) := by decide +kernel
theorem d_Mod_two_16 : decode (mB m_Mod_two) 16 = .ok (.getfield 148, 3) := by decide +kernel
theorem d_Mod_two_19 : decode (mB m_Mod_two) 19 = .ok (.iconst 5, 1) := by decide +kernel
theorem d_Mod_two_20 : decode (mB m_Mod_two) 20 = .ok (.invokevirtual 155, 3) := by decide +kernel
theorem d_Mod_two_23 : decode (mB m_Mod_two) 23 = .ok (.ireturn, 1) := by decide +kernel
theorem d_Mod_two_24 : decode (mB m_Mod_two) 24 = .ok (.aload_n 0, 1) := by decide +kernel
theorem d_Mod_two_25 : decode (mB m_Mod_two) 25 = .ok (.aload_n 0, 1) := by decide +kernel
theorem d_Mod_two_26 : decode (mB m_Mod_two) 26 = .ok (.getfield 148, 3) := by decide +kernel
theorem d_Mod_two_29 : decode (mB m_Mod_two) 29 = .ok (.iconst 1, 1) := by decide +kernel
theorem d_Mod_two_30 : decode (mB m_Mod_two) 30 = .ok (.iadd, 1) := by decide +kernel
theorem d_Mod_two_31 : decode (mB m_Mod_two) 31 = .ok (.invokevirtual 151, 3) := by decide +kernel
theorem d_Mod_two_34 : decode (mB m_Mod_two) 34 = .ok (.invokestatic 145, 3) := by decide +kernel
theorem d_Mod_two_37 : decode (mB m_Mod_two) 37 = .ok (.ifCond .ne 15, 3) := by decide +kernel
theorem d_Mod_two_40 : decode (mB m_Mod_two) 40 = .ok (.aload_n 0, 1) := by decide +kernel
theorem d_Mod_two_41 : decode (mB m_Mod_two) 41 = .ok (.aload_n 0, 1) := by decide +kernel
theorem d_Mod_two_42 : decode (mB m_Mod_two) 42 = .ok (.getfield 148, 3) := by decide +kernel
theorem d_Mod_two_45 : decode (mB m_Mod_two) 45 = .ok (.iconst 1, 1) := by decide +kernel
theorem d_Mod_two_46 : decode (mB m_Mod_two) 46 = .ok (.iadd, 1) := by decide +kernel
theorem d_Mod_two_47 : decode (mB m_Mod_two) 47 = .ok (.iconst 5, 1) := by decide +kernel
theorem d_Mod_two_48 : decode (mB m_Mod_two) 48 = .ok (.invokevirtual 155, 3) := by decide +kernel
theorem d_Mod_two_51 : decode (mB m_Mod_two) 51 = .ok (.ireturn, 1) := by decide +kernel
theorem d_Mod_two_52 : decode (mB m_Mod_two) 52 = .ok (.bipush 10, 2) := by decide +kernel
theorem d_Mod_two_54 : decode (mB m_Mod_two) 54 = .ok (.aload_n 0, 1) := by decide +kernel
theorem d_Mod_two_55 : decode (mB m_Mod_two) 55 = .ok (.aload_n 0, 1) := by decide +kernel
theorem d_Mod_two_56 : decode (mB m_Mod_two) 56 = .ok (.getfield 148, 3) := by decide +kernel
theorem d_Mod_two_59 : decode (mB m_Mod_two) 59 = .ok (.invokevirtual 151, 3) := by decide +kernel
theorem d_Mod_two_62 : decode (mB m_Mod_two) 62 = .ok (.bipush 48, 2) := by decide +kernel
theorem d_Mod_two_64 : decode (mB m_Mod_two) 64 = .ok (.isub, 1) := by decide +kernel
theorem d_Mod_two_65 : decode (mB m_Mod_two) 65 = .ok (.imul, 1) := by decide +kernel
theorem d_Mod_two_66 : decode (mB m_Mod_two) 66 = .ok (.aload_n 0, 1) := by decide +kernel
theorem d_Mod_two_67 : decode (mB m_Mod_two) 67 = .ok (.aload_n 0, 1) := by decide +kernel
theorem d_Mod_two_68 : decode (mB m_Mod_two) 68 = .ok (.getfield 148, 3) := by decide +kernel
theorem d_Mod_two_71 : decode (mB m_Mod_two) 71 = .ok (.iconst 1, 1) := by decide +kernel
theorem d_Mod_two_72 : decode (mB m_Mod_two) 72 = .ok (.iadd, 1) := by decide +kernel
theorem d_Mod_two_73 : decode (mB m_Mod_two) 73 = .ok (.invokevirtual 151, 3) := by decide +kernel
theorem d_Mod_two_76 : decode (mB m_Mod_two) 76 = .ok (.iadd, 1) := by decide +kernel
theorem d_Mod_two_77 : decode (mB m_Mod_two) 77 = .ok (.bipush 48, 2) := by decide +kernel
theorem d_Mod_two_79 : decode (mB m_Mod_two) 79 = .ok (.isub, 1) := by decide +kernel
theorem d_Mod_two_80 : decode (mB m_Mod_two) 80 = .ok (.istore_n 3, 1) := by decide +kernel
theorem d_Mod_two_81 : decode (mB m_Mod_two) 81 = .ok (.iload_n 3, 1) := by decide +kernel
theorem d_Mod_two_82 : decode (mB m_Mod_two) 82 = .ok (.iload_n 1, 1) := by decide +kernel
theorem d_Mod_two_83 : decode (mB m_Mod_two) 83 = .ok (.iload_n 2, 1) := by decide +kernel
theorem d_Mod_two_84 : decode (mB m_Mod_two) 84 = .ok (.invokestatic 115, 3) := by decide +kernel
theorem d_Mod_two_87 : decode (mB m_Mod_two) 87 = .ok (.ifCond .ne 13, 3) := by decide +kernel
theorem d_Mod_two_90 : decode (mB m_Mod_two) 90 = .ok (.aload_n 0, 1) := by decide +kernel
theorem d_Mod_two_91 : decode (mB m_Mod_two) 91 = .ok (.aload_n 0, 1) := by decide +kernel
theorem d_Mod_two_92 : decode (mB m_Mod_two) 92 = .ok (.getfield 148, 3) := by decide +kernel
theorem d_Mod_two_95 : decode (mB m_Mod_two) 95 = .ok (.iconst 5, 1) := by decide +kernel
theorem d_Mod_two_96 : decode (mB m_Mod_two) 96 = .ok (.invokevirtual 155, 3) := by decide +kernel
theorem d_Mod_two_99 : decode (mB m_Mod_two) 99 = .ok (.ireturn, 1) := by decide +kernel
theorem d_Mod_two_100 : decode (mB m_Mod_two) 100 = .ok (.aload_n 0, 1) := by decide +kernel
theorem d_Mod_two_101 : decode (mB m_Mod_two) 101 = .ok (.dup, 1) := by decide +kernel
theorem d_Mod_two_102 : decode (mB m_Mod_two) 102 = .ok (.getfield 148, 3) := by decide +kernel
theorem d_Mod_two_105 : decode (mB m_Mod_two) 105 = .ok (.iconst 2, 1) := by decide +kernel
theorem d_Mod_two_106 : decode (mB m_Mod_two) 106 = .ok (.iadd, 1) := by decide +kernel
theorem d_Mod_two_107 : decode (mB m_Mod_two) 107 = .ok (.putfield 148, 3) := by decide +kernel
theorem d_Mod_two_110 : decode (mB m_Mod_two) 110 = .ok (.iconst 1, 1) := by decide +kernel
theorem d_Mod_two_111 : decode (mB m_Mod_two) 111 = .ok (.ireturn, 1) := by decide +kernel
theorem cal_Mod_two : mCal m_Mod_two 2 := ⟨Or.inl ⟨rfl, goodIn_r _ [1179] (by decide +kernel) (by decide +kernel)⟩, by decide, ⟨by decide, by decide⟩, by decide +kernel⟩
abbrev b_Mod_isEnd : ByteArray := prog_13_method_23_code
def m_Mod_isEnd : Mi := (⟨"TextNetModel", "isEnd", "(I)Z"⟩, b_Mod_isEnd, 2, (some .boolean), [])
theorem d_Mod_isEnd_0 : decode (mB m_Mod_isEnd) 0 = .ok (.aload_n 0, 1) := by decide +kernel
theorem d_Mod_isEnd_1 : decode (mB m_Mod_isEnd) 1 = .ok (.iload_n 1, 1) := by decide +kernel
theorem d_Mod_isEnd_2 : decode (mB m_Mod_isEnd) 2 = .ok (.invokevirtual 151, 3) := by decide +kernel
theorem d_Mod_isEnd_5 : decode (mB m_Mod_isEnd) 5 = .ok (.bipush 78, 2) := by decide +kernel
theorem d_Mod_isEnd_7 : decode (mB m_Mod_isEnd) 7 = .ok (.if_icmp .ne 43, 3) := by decide +kernel
theorem d_Mod_isEnd_10 : decode (mB m_Mod_isEnd) 10 = .ok (.aload_n 0, 1) := by decide +kernel
theorem d_Mod_isEnd_11 : decode (mB m_Mod_isEnd) 11 = .ok (.iload_n 1, 1) := by decide +kernel
theorem d_Mod_isEnd_12 : decode (mB m_Mod_isEnd) 12 = .ok (.iconst 1, 1) := by decide +kernel
theorem d_Mod_isEnd_13 : decode (mB m_Mod_isEnd) 13 = .ok (.iadd, 1) := by decide +kernel
theorem d_Mod_isEnd_14 : decode (mB m_Mod_isEnd) 14 = .ok (.invokevirtual 151, 3) := by decide +kernel
theorem d_Mod_isEnd_17 : decode (mB m_Mod_isEnd) 17 = .ok (.bipush 78, 2) := by decide +kernel
theorem d_Mod_isEnd_19 : decode (mB m_Mod_isEnd) 19 = .ok (.if_icmp .ne 31, 3) := by decide +kernel
theorem d_Mod_isEnd_22 : decode (mB m_Mod_isEnd) 22 = .ok (.aload_n 0, 1) := by decide +kernel
theorem d_Mod_isEnd_23 : decode (mB m_Mod_isEnd) 23 = .ok (.iload_n 1, 1) := by decide +kernel
theorem d_Mod_isEnd_24 : decode (mB m_Mod_isEnd) 24 = .ok (.iconst 2, 1) := by decide +kernel
theorem d_Mod_isEnd_25 : decode (mB m_Mod_isEnd) 25 = .ok (.iadd, 1) := by decide +kernel
theorem d_Mod_isEnd_26 : decode (mB m_Mod_isEnd) 26 = .ok (.invokevirtual 151, 3) := by decide +kernel
theorem d_Mod_isEnd_29 : decode (mB m_Mod_isEnd) 29 = .ok (.bipush 78, 2) := by decide +kernel
theorem d_Mod_isEnd_31 : decode (mB m_Mod_isEnd) 31 = .ok (.if_icmp .ne 19, 3) := by decide +kernel
theorem d_Mod_isEnd_34 : decode (mB m_Mod_isEnd) 34 = .ok (.aload_n 0, 1) := by decide +kernel
theorem d_Mod_isEnd_35 : decode (mB m_Mod_isEnd) 35 = .ok (.iload_n 1, 1) := by decide +kernel
theorem d_Mod_isEnd_36 : decode (mB m_Mod_isEnd) 36 = .ok (.iconst 3, 1) := by decide +kernel
theorem d_Mod_isEnd_37 : decode (mB m_Mod_isEnd) 37 = .ok (.iadd, 1) := by decide +kernel
theorem d_Mod_isEnd_38 : decode (mB m_Mod_isEnd) 38 = .ok (.invokevirtual 151, 3) := by decide +kernel
theorem d_Mod_isEnd_41 : decode (mB m_Mod_isEnd) 41 = .ok (.bipush 78, 2) := by decide +kernel
theorem d_Mod_isEnd_43 : decode (mB m_Mod_isEnd) 43 = .ok (.if_icmp .ne 7, 3) := by decide +kernel
theorem d_Mod_isEnd_46 : decode (mB m_Mod_isEnd) 46 = .ok (.iconst 1, 1) := by decide +kernel
theorem d_Mod_isEnd_47 : decode (mB m_Mod_isEnd) 47 = .ok (.goto 4, 3) := by decide +kernel
theorem d_Mod_isEnd_50 : decode (mB m_Mod_isEnd) 50 = .ok (.iconst 0, 1) := by decide +kernel
theorem d_Mod_isEnd_51 : decode (mB m_Mod_isEnd) 51 = .ok (.ireturn, 1) := by decide +kernel
theorem cal_Mod_isEnd : mCal m_Mod_isEnd 1 := ⟨Or.inl ⟨rfl, goodIn_r _ [1190] (by decide +kernel) (by decide +kernel)⟩, by decide, ⟨by decide, by decide⟩, by decide +kernel⟩
abbrev b_Mod_body : ByteArray := prog_13_method_24_code
def m_Mod_body : Mi := (⟨"TextNetModel", "body", "()Z"⟩, b_Mod_body, 3, (some .boolean), [])
theorem d_Mod_body_0 : decode (mB m_Mod_body) 0 = .ok (.iconst 0, 1) := by decide +kernel
theorem d_Mod_body_1 : decode (mB m_Mod_body) 1 = .ok (.istore_n 1, 1) := by decide +kernel
theorem d_Mod_body_2 : decode (mB m_Mod_body) 2 = .ok (.iload_n 1, 1) := by decide +kernel
theorem d_Mod_body_3 : decode (mB m_Mod_body) 3 = .ok (.bipush 20, 2) := by decide +kernel
theorem d_Mod_body_5 : decode (mB m_Mod_body) 5 = .ok (.if_icmp .gt 167, 3) := by decide +kernel
theorem d_Mod_body_8 : decode (mB m_Mod_body) 8 = .ok (.aload_n 0, 1) := by decide +kernel
theorem d_Mod_body_9 : decode (mB m_Mod_body) 9 = .ok (.aload_n 0, 1) := by decide +kernel
theorem d_Mod_body_10 : decode (mB m_Mod_body) 10 = .ok (.getfield 148, 3) := by decide +kernel
theorem d_Mod_body_13 : decode (mB m_Mod_body) 13 = .ok (.invokevirtual 170, 3) := by decide +kernel
theorem d_Mod_body_16 : decode (mB m_Mod_body) 16 = .ok (.ifCond .eq 18, 3) := by decide +kernel
theorem d_Mod_body_19 : decode (mB m_Mod_body) 19 = .ok (.aload_n 0, 1) := by decide +kernel
theorem d_Mod_body_20 : decode (mB m_Mod_body) 20 = .ok (.getfield 142, 3) := by decide +kernel
theorem d_Mod_body_23 : decode (mB m_Mod_body) 23 = .ok (.aload_n 0, 1) := by decide +kernel
theorem d_Mod_body_24 : decode (mB m_Mod_body) 24 = .ok (.getfield 148, 3) := by decide +kernel
theorem d_Mod_body_27 : decode (mB m_Mod_body) 27 = .ok (.iconst 4, 1) := by decide +kernel
theorem d_Mod_body_28 : decode (mB m_Mod_body) 28 = .ok (.iadd, 1) := by decide +kernel
theorem d_Mod_body_29 : decode (mB m_Mod_body) 29 = .ok (.if_icmp .ne 5, 3) := by decide +kernel
theorem d_Mod_body_32 : decode (mB m_Mod_body) 32 = .ok (.iconst 1, 1) := by decide +kernel
theorem d_Mod_body_33 : decode (mB m_Mod_body) 33 = .ok (.ireturn, 1) := by decide +kernel
theorem d_Mod_body_34 : decode (mB m_Mod_body) 34 = .ok (.aload_n 0, 1) := by decide +kernel
theorem d_Mod_body_35 : decode (mB m_Mod_body) 35 = .ok (.aload_n 0, 1) := by decide +kernel
theorem d_Mod_body_36 : decode (mB m_Mod_body) 36 = .ok (.getfield 148, 3) := by decide +kernel
theorem d_Mod_body_39 : decode (mB m_Mod_body) 39 = .ok (.invokevirtual 170, 3) := by decide +kernel
theorem d_Mod_body_42 : decode (mB m_Mod_body) 42 = .ok (.ifCond .eq 31, 3) := by decide +kernel
theorem d_Mod_body_45 : decode (mB m_Mod_body) 45 = .ok (.aload_n 0, 1) := by decide +kernel
theorem d_Mod_body_46 : decode (mB m_Mod_body) 46 = .ok (.aload_n 0, 1) := by decide +kernel
theorem d_Mod_body_47 : decode (mB m_Mod_body) 47 = .ok (.getfield 148, 3) := by decide +kernel
theorem d_Mod_body_50 : decode (mB m_Mod_body) 50 = .ok (.iconst 4, 1) := by decide +kernel
theorem d_Mod_body_51 : decode (mB m_Mod_body) 51 = .ok (.iadd, 1) := by decide +kernel
theorem d_Mod_body_52 : decode (mB m_Mod_body) 52 = .ok (.invokevirtual 151, 3) := by decide +kernel
theorem d_Mod_body_55 : decode (mB m_Mod_body) 55 = .ok (.bipush 10, 2) := by decide +kernel
theorem d_Mod_body_57 : decode (mB m_Mod_body) 57 = .ok (.if_icmp .ne 16, 3) := by decide +kernel
theorem d_Mod_body_60 : decode (mB m_Mod_body) 60 = .ok (.aload_n 0, 1) := by decide +kernel
theorem d_Mod_body_61 : decode (mB m_Mod_body) 61 = .ok (.aload_n 0, 1) := by decide +kernel
theorem d_Mod_body_62 : decode (mB m_Mod_body) 62 = .ok (.getfield 148, 3) := by decide +kernel
theorem d_Mod_body_65 : decode (mB m_Mod_body) 65 = .ok (.iconst 4, 1) := by decide +kernel
theorem d_Mod_body_66 : decode (mB m_Mod_body) 66 = .ok (.iadd, 1) := by decide +kernel
theorem d_Mod_body_67 : decode (mB m_Mod_body) 67 = .ok (.bipush 8, 2) := by decide +kernel
theorem d_Mod_body_69 : decode (mB m_Mod_body) 69 = .ok (.invokevirtual 155, 3) := by decide +kernel
theorem d_Mod_body_72 : decode (mB m_Mod_body) 72 = .ok (.ireturn, 1) := by decide +kernel
theorem d_Mod_body_73 : decode (mB m_Mod_body) 73 = .ok (.iload_n 1, 1) := by decide +kernel
theorem d_Mod_body_74 : decode (mB m_Mod_body) 74 = .ok (.bipush 20, 2) := by decide +kernel
theorem d_Mod_body_76 : decode (mB m_Mod_body) 76 = .ok (.if_icmp .ne 14, 3) := by decide +kernel
theorem d_Mod_body_79 : decode (mB m_Mod_body) 79 = .ok (.aload_n 0, 1) := by decide +kernel
theorem d_Mod_body_80 : decode (mB m_Mod_body) 80 = .ok (.aload_n 0, 1) := by decide +kernel
theorem d_Mod_body_81 : decode (mB m_Mod_body) 81 = .ok (.getfield 148, 3) := by decide +kernel
theorem d_Mod_body_84 : decode (mB m_Mod_body) 84 = .ok (.bipush 7, 2) := by decide +kernel
theorem d_Mod_body_86 : decode (mB m_Mod_body) 86 = .ok (.invokevirtual 155, 3) := by decide +kernel
theorem d_Mod_body_89 : decode (mB m_Mod_body) 89 = .ok (.ireturn, 1) := by decide +kernel
theorem d_Mod_body_90 : decode (mB m_Mod_body) 90 = .ok (.iconst 0, 1) := by decide +kernel
theorem d_Mod_body_91 : decode (mB m_Mod_body) 91 = .ok (.istore_n 2, 1) := by decide +kernel
theorem d_Mod_body_92 : decode (mB m_Mod_body) 92 = .ok (.aload_n 0, 1) := by decide +kernel
theorem d_Mod_body_93 : decode (mB m_Mod_body) 93 = .ok (.aload_n 0, 1) := by decide +kernel
theorem d_Mod_body_94 : decode (mB m_Mod_body) 94 = .ok (.getfield 148, 3) := by decide +kernel
theorem d_Mod_body_97 : decode (mB m_Mod_body) 97 = .ok (.invokevirtual 151, 3) := by decide +kernel
theorem d_Mod_body_100 : decode (mB m_Mod_body) 100 = .ok (.invokestatic 173, 3) := by decide +kernel
theorem d_Mod_body_103 : decode (mB m_Mod_body) 103 = .ok (.ifCond .eq 25, 3) := by decide +kernel
theorem d_Mod_body_106 : decode (mB m_Mod_body) 106 = .ok (.iload_n 2, 1) := by decide +kernel
theorem d_Mod_body_107 : decode (mB m_Mod_body) 107 = .ok (.bipush 69, 2) := by decide +kernel
theorem d_Mod_body_109 : decode (mB m_Mod_body) 109 = .ok (.if_icmp .ge 19, 3) := by decide +kernel
theorem d_Mod_body_112 : decode (mB m_Mod_body) 112 = .ok (.aload_n 0, 1) := by decide +kernel
theorem d_Mod_body_113 : decode (mB m_Mod_body) 113 = .ok (.dup, 1) := by decide +kernel
theorem d_Mod_body_114 : decode (mB m_Mod_body) 114 = .ok (.getfield 148, 3) := by decide +kernel
theorem d_Mod_body_117 : decode (mB m_Mod_body) 117 = .ok (.iconst 1, 1) := by decide +kernel
theorem d_Mod_body_118 : decode (mB m_Mod_body) 118 = .ok (.iadd, 1) := by decide +kernel
theorem d_Mod_body_119 : decode (mB m_Mod_body) 119 = .ok (.putfield 148, 3) := by decide +kernel
theorem d_Mod_body_122 : decode (mB m_Mod_body) 122 = .ok (.iinc 2 1, 3) := by decide +kernel
theorem d_Mod_body_125 : decode (mB m_Mod_body) 125 = .ok (.goto (-33), 3) := by decide +kernel
theorem d_Mod_body_128 : decode (mB m_Mod_body) 128 = .ok (.aload_n 0, 1) := by decide +kernel
theorem d_Mod_body_129 : decode (mB m_Mod_body) 129 = .ok (.aload_n 0, 1) := by decide +kernel
theorem d_Mod_body_130 : decode (mB m_Mod_body) 130 = .ok (.getfield 148, 3) := by decide +kernel
theorem d_Mod_body_133 : decode (mB m_Mod_body) 133 = .ok (.invokevirtual 151, 3) := by decide +kernel
theorem d_Mod_body_136 : decode (mB m_Mod_body) 136 = .ok (.bipush 10, 2) := by decide +kernel
theorem d_Mod_body_138 : decode (mB m_Mod_body) 138 = .ok (.if_icmp .ne 7, 3) := by decide +kernel
theorem d_Mod_body_141 : decode (mB m_Mod_body) 141 = .ok (.iload_n 2, 1) := by decide +kernel
theorem d_Mod_body_142 : decode (mB m_Mod_body) 142 = .ok (.ifCond .ne 14, 3) := by decide +kernel
theorem d_Mod_body_145 : decode (mB m_Mod_body) 145 = .ok (.aload_n 0, 1) := by decide +kernel
theorem d_Mod_body_146 : decode (mB m_Mod_body) 146 = .ok (.aload_n 0, 1) := by decide +kernel
theorem d_Mod_body_147 : decode (mB m_Mod_body) 147 = .ok (.getfield 148, 3) := by decide +kernel
theorem d_Mod_body_150 : decode (mB m_Mod_body) 150 = .ok (.bipush 6, 2) := by decide +kernel
theorem d_Mod_body_152 : decode (mB m_Mod_body) 152 = .ok (.invokevirtual 155, 3) := by decide +kernel
theorem d_Mod_body_155 : decode (mB m_Mod_body) 155 = .ok (.ireturn, 1) := by decide +kernel
theorem d_Mod_body_156 : decode (mB m_Mod_body) 156 = .ok (.aload_n 0, 1) := by decide +kernel
theorem d_Mod_body_157 : decode (mB m_Mod_body) 157 = .ok (.dup, 1) := by decide +kernel
theorem d_Mod_body_158 : decode (mB m_Mod_body) 158 = .ok (.getfield 148, 3) := by decide +kernel
theorem d_Mod_body_161 : decode (mB m_Mod_body) 161 = .ok (.iconst 1, 1) := by decide +kernel
theorem d_Mod_body_162 : decode (mB m_Mod_body) 162 = .ok (.iadd, 1) := by decide +kernel
theorem d_Mod_body_163 : decode (mB m_Mod_body) 163 = .ok (.putfield 148, 3) := by decide +kernel
theorem d_Mod_body_166 : decode (mB m_Mod_body) 166 = .ok (.iinc 1 1, 3) := by decide +kernel
theorem d_Mod_body_169 : decode (mB m_Mod_body) 169 = .ok (.goto (-167), 3) := by decide +kernel
theorem d_Mod_body_172 : decode (mB m_Mod_body) 172 = .ok (.iconst 0, 1) := by decide +kernel
theorem d_Mod_body_173 : decode (mB m_Mod_body) 173 = .ok (.ireturn, 1) := by decide +kernel
theorem cal_Mod_body : mCal m_Mod_body 0 := ⟨Or.inl ⟨rfl, goodIn_r _ [1186] (by decide +kernel) (by decide +kernel)⟩, by decide, ⟨by decide, by decide⟩, by decide +kernel⟩
abbrev b_Mod_judge : ByteArray := prog_13_method_25_code
def m_Mod_judge : Mi := (⟨"TextNetModel", "judge", "(I)Z"⟩, b_Mod_judge, 2, (some .boolean), [])
theorem d_Mod_judge_0 : decode (mB m_Mod_judge) 0 = .ok (.aload_n 0, 1) := by decide +kernel
theorem d_Mod_judge_1 : decode (mB m_Mod_judge) 1 = .ok (.iconst 0, 1) := by decide +kernel
theorem d_Mod_judge_2 : decode (mB m_Mod_judge) 2 = .ok (.putfield 148, 3) := by decide +kernel
theorem d_Mod_judge_5 : decode (mB m_Mod_judge) 5 = .ok (.aload_n 0, 1) := by decide +kernel
theorem d_Mod_judge_6 : decode (mB m_Mod_judge) 6 = .ok (.iload_n 1, 1) := by decide +kernel
theorem d_Mod_judge_7 : decode (mB m_Mod_judge) 7 = .ok (.invokevirtual 176, 3) := by decide +kernel
theorem d_Mod_judge_10 : decode (mB m_Mod_judge) 10 = .ok (.ifCond .eq 80, 3) := by decide +kernel
theorem d_Mod_judge_13 : decode (mB m_Mod_judge) 13 = .ok (.aload_n 0, 1) := by decide +kernel
theorem d_Mod_judge_14 : decode (mB m_Mod_judge) 14 = .ok (.iload_n 1, 1) := by decide +kernel
theorem d_Mod_judge_15 : decode (mB m_Mod_judge) 15 = .ok (.invokevirtual 179, 3) := by decide +kernel
theorem d_Mod_judge_18 : decode (mB m_Mod_judge) 18 = .ok (.ifCond .eq 72, 3) := by decide +kernel
theorem d_Mod_judge_21 : decode (mB m_Mod_judge) 21 = .ok (.aload_n 0, 1) := by decide +kernel
theorem d_Mod_judge_22 : decode (mB m_Mod_judge) 22 = .ok (.iconst 1, 1) := by decide +kernel
theorem d_Mod_judge_23 : decode (mB m_Mod_judge) 23 = .ok (.bipush 31, 2) := by decide +kernel
theorem d_Mod_judge_25 : decode (mB m_Mod_judge) 25 = .ok (.invokevirtual 182, 3) := by decide +kernel
theorem d_Mod_judge_28 : decode (mB m_Mod_judge) 28 = .ok (.ifCond .eq 62, 3) := by decide +kernel
theorem d_Mod_judge_31 : decode (mB m_Mod_judge) 31 = .ok (.aload_n 0, 1) := by decide +kernel
theorem d_Mod_judge_32 : decode (mB m_Mod_judge) 32 = .ok (.iconst 0, 1) := by decide +kernel
theorem d_Mod_judge_33 : decode (mB m_Mod_judge) 33 = .ok (.bipush 23, 2) := by decide +kernel
theorem d_Mod_judge_35 : decode (mB m_Mod_judge) 35 = .ok (.invokevirtual 182, 3) := by decide +kernel
theorem d_Mod_judge_38 : decode (mB m_Mod_judge) 38 = .ok (.ifCond .eq 52, 3) := by decide +kernel
theorem d_Mod_judge_41 : decode (mB m_Mod_judge) 41 = .ok (.aload_n 0, 1) := by decide +kernel
theorem d_Mod_judge_42 : decode (mB m_Mod_judge) 42 = .ok (.iconst 0, 1) := by decide +kernel
theorem d_Mod_judge_43 : decode (mB m_Mod_judge) 43 = .ok (.bipush 59, 2) := by decide +kernel
theorem d_Mod_judge_45 : decode (mB m_Mod_judge) 45 = .ok (.invokevirtual 182, 3) := by decide +kernel
theorem d_Mod_judge_48 : decode (mB m_Mod_judge) 48 = .ok (.ifCond .eq 42, 3) := by decide +kernel
theorem d_Mod_judge_51 : decode (mB m_Mod_judge) 51 = .ok (.aload_n 0, 1) := by decide +kernel
theorem d_Mod_judge_52 : decode (mB m_Mod_judge) 52 = .ok (.bipush 32, 2) := by decide +kernel
theorem d_Mod_judge_54 : decode (mB m_Mod_judge) 54 = .ok (.iconst 5, 1) := by decide +kernel
theorem d_Mod_judge_55 : decode (mB m_Mod_judge) 55 = .ok (.invokevirtual 161, 3) := by decide +kernel
theorem d_Mod_judge_58 : decode (mB m_Mod_judge) 58 = .ok (.ifCond .eq 32, 3) := by decide +kernel
theorem d_Mod_judge_61 : decode (mB m_Mod_judge) 61 = .ok (.aload_n 0, 1) := by decide +kernel
theorem d_Mod_judge_62 : decode (mB m_Mod_judge) 62 = .ok (.iconst 5, 1) := by decide +kernel
theorem d_Mod_judge_63 : decode (mB m_Mod_judge) 63 = .ok (.invokevirtual 167, 3) := by decide +kernel
theorem d_Mod_judge_66 : decode (mB m_Mod_judge) 66 = .ok (.ifCond .eq 24, 3) := by decide +kernel
theorem d_Mod_judge_69 : decode (mB m_Mod_judge) 69 = .ok (.aload_n 0, 1) := by decide +kernel
theorem d_Mod_judge_70 : decode (mB m_Mod_judge) 70 = .ok (.bipush 10, 2) := by decide +kernel
theorem d_Mod_judge_72 : decode (mB m_Mod_judge) 72 = .ok (.iconst 5, 1) := by decide +kernel
theorem d_Mod_judge_73 : decode (mB m_Mod_judge) 73 = .ok (.invokevirtual 161, 3) := by decide +kernel
theorem d_Mod_judge_76 : decode (mB m_Mod_judge) 76 = .ok (.ifCond .eq 14, 3) := by decide +kernel
theorem d_Mod_judge_79 : decode (mB m_Mod_judge) 79 = .ok (.aload_n 0, 1) := by decide +kernel
theorem d_Mod_judge_80 : decode (mB m_Mod_judge) 80 = .ok (.invokevirtual 185, 3) := by decide +kernel
theorem d_Mod_judge_83 : decode (mB m_Mod_judge) 83 = .ok (.ifCond .eq 7, 3) := by decide +kernel
theorem d_Mod_judge_86 : decode (mB m_Mod_judge) 86 = .ok (.iconst 1, 1) := by decide +kernel
theorem d_Mod_judge_87 : decode (mB m_Mod_judge) 87 = .ok (.goto 4, 3) := by decide +kernel
theorem d_Mod_judge_90 : decode (mB m_Mod_judge) 90 = .ok (.iconst 0, 1) := by decide +kernel
theorem d_Mod_judge_91 : decode (mB m_Mod_judge) 91 = .ok (.ireturn, 1) := by decide +kernel
theorem cal_Mod_judge : mCal m_Mod_judge 1 := ⟨Or.inl ⟨rfl, goodIn_r _ [1148] (by decide +kernel) (by decide +kernel)⟩, by decide, ⟨by decide, by decide⟩, by decide +kernel⟩
abbrev b_Mod_file : ByteArray := prog_13_method_26_code
def m_Mod_file : Mi := (⟨"TextNetModel", "file", "(II)I"⟩, b_Mod_file, 4, (some .int), [])
theorem d_Mod_file_0 : decode (mB m_Mod_file) 0 = .ok (.aload_n 0, 1) := by decide +kernel
theorem d_Mod_file_1 : decode (mB m_Mod_file) 1 = .ok (.iload_n 1, 1) := by decide +kernel
theorem d_Mod_file_2 : decode (mB m_Mod_file) 2 = .ok (.invokestatic 123, 3) := by decide +kernel
theorem d_Mod_file_5 : decode (mB m_Mod_file) 5 = .ok (.ifCond .eq 18, 3) := by decide +kernel
theorem d_Mod_file_8 : decode (mB m_Mod_file) 8 = .ok (.iload_n 2, 1) := by decide +kernel
theorem d_Mod_file_9 : decode (mB m_Mod_file) 9 = .ok (.iconst 0, 1) := by decide +kernel
theorem d_Mod_file_10 : decode (mB m_Mod_file) 10 = .ok (.sipush 1600, 3) := by decide +kernel
theorem d_Mod_file_13 : decode (mB m_Mod_file) 13 = .ok (.invokestatic 115, 3) := by decide +kernel
theorem d_Mod_file_16 : decode (mB m_Mod_file) 16 = .ok (.ifCond .eq 7, 3) := by decide +kernel
theorem d_Mod_file_19 : decode (mB m_Mod_file) 19 = .ok (.iconst 0, 1) := by decide +kernel
theorem d_Mod_file_20 : decode (mB m_Mod_file) 20 = .ok (.goto 4, 3) := by decide +kernel
theorem d_Mod_file_23 : decode (mB m_Mod_file) 23 = .ok (.iconst 1, 1) := by decide +kernel
theorem d_Mod_file_24 : decode (mB m_Mod_file) 24 = .ok (.putfield 111, 3) := by decide +kernel
theorem d_Mod_file_27 : decode (mB m_Mod_file) 27 = .ok (.aload_n 0, 1) := by decide +kernel
theorem d_Mod_file_28 : decode (mB m_Mod_file) 28 = .ok (.getfield 111, 3) := by decide +kernel
theorem d_Mod_file_31 : decode (mB m_Mod_file) 31 = .ok (.ifCond .le 5, 3) := by decide +kernel
theorem d_Mod_file_34 : decode (mB m_Mod_file) 34 = .ok (.iconst 0, 1) := by decide +kernel
theorem d_Mod_file_35 : decode (mB m_Mod_file) 35 = .ok (.ireturn, 1) := by decide +kernel
theorem d_Mod_file_36 : decode (mB m_Mod_file) 36 = .ok (.aload_n 0, 1) := by decide +kernel
theorem d_Mod_file_37 : decode (mB m_Mod_file) 37 = .ok (.getfield 189, 3) := by decide +kernel
theorem d_Mod_file_40 : decode (mB m_Mod_file) 40 = .ok (.sipush 200, 3) := by decide +kernel
theorem d_Mod_file_43 : decode (mB m_Mod_file) 43 = .ok (.if_icmp .ne 9, 3) := by decide +kernel
theorem d_Mod_file_46 : decode (mB m_Mod_file) 46 = .ok (.aload_n 0, 1) := by decide +kernel
theorem d_Mod_file_47 : decode (mB m_Mod_file) 47 = .ok (.iconst 2, 1) := by decide +kernel
theorem d_Mod_file_48 : decode (mB m_Mod_file) 48 = .ok (.invokevirtual 192, 3) := by decide +kernel
theorem d_Mod_file_51 : decode (mB m_Mod_file) 51 = .ok (.ireturn, 1) := by decide +kernel
theorem d_Mod_file_52 : decode (mB m_Mod_file) 52 = .ok (.aload_n 0, 1) := by decide +kernel
theorem d_Mod_file_53 : decode (mB m_Mod_file) 53 = .ok (.iload_n 2, 1) := by decide +kernel
theorem d_Mod_file_54 : decode (mB m_Mod_file) 54 = .ok (.putfield 142, 3) := by decide +kernel
theorem d_Mod_file_57 : decode (mB m_Mod_file) 57 = .ok (.aload_n 0, 1) := by decide +kernel
theorem d_Mod_file_58 : decode (mB m_Mod_file) 58 = .ok (.getfield 189, 3) := by decide +kernel
theorem d_Mod_file_61 : decode (mB m_Mod_file) 61 = .ok (.iconst 1, 1) := by decide +kernel
theorem d_Mod_file_62 : decode (mB m_Mod_file) 62 = .ok (.iadd, 1) := by decide +kernel
theorem d_Mod_file_63 : decode (mB m_Mod_file) 63 = .ok (.istore_n 3, 1) := by decide +kernel
theorem d_Mod_file_64 : decode (mB m_Mod_file) 64 = .ok (.aload_n 0, 1) := by decide +kernel
theorem d_Mod_file_65 : decode (mB m_Mod_file) 65 = .ok (.iload_n 3, 1) := by decide +kernel
theorem d_Mod_file_66 : decode (mB m_Mod_file) 66 = .ok (.invokevirtual 195, 3) := by decide +kernel
theorem d_Mod_file_69 : decode (mB m_Mod_file) 69 = .ok (.ifCond .ne 18, 3) := by decide +kernel
theorem d_Mod_file_72 : decode (mB m_Mod_file) 72 = .ok (.iconst (-1), 1) := by decide +kernel
theorem d_Mod_file_73 : decode (mB m_Mod_file) 73 = .ok (.bipush 10, 2) := by decide +kernel
theorem d_Mod_file_75 : decode (mB m_Mod_file) 75 = .ok (.aload_n 0, 1) := by decide +kernel
theorem d_Mod_file_76 : decode (mB m_Mod_file) 76 = .ok (.getfield 136, 3) := by decide +kernel
theorem d_Mod_file_79 : decode (mB m_Mod_file) 79 = .ok (.imul, 1) := by decide +kernel
theorem d_Mod_file_80 : decode (mB m_Mod_file) 80 = .ok (.isub, 1) := by decide +kernel
theorem d_Mod_file_81 : decode (mB m_Mod_file) 81 = .ok (.aload_n 0, 1) := by decide +kernel
theorem d_Mod_file_82 : decode (mB m_Mod_file) 82 = .ok (.getfield 139, 3) := by decide +kernel
theorem d_Mod_file_85 : decode (mB m_Mod_file) 85 = .ok (.isub, 1) := by decide +kernel
theorem d_Mod_file_86 : decode (mB m_Mod_file) 86 = .ok (.ireturn, 1) := by decide +kernel
theorem d_Mod_file_87 : decode (mB m_Mod_file) 87 = .ok (.aload_n 0, 1) := by decide +kernel
theorem d_Mod_file_88 : decode (mB m_Mod_file) 88 = .ok (.iload_n 3, 1) := by decide +kernel
theorem d_Mod_file_89 : decode (mB m_Mod_file) 89 = .ok (.putfield 189, 3) := by decide +kernel
theorem d_Mod_file_92 : decode (mB m_Mod_file) 92 = .ok (.aload_n 0, 1) := by decide +kernel
theorem d_Mod_file_93 : decode (mB m_Mod_file) 93 = .ok (.getfield 48, 3) := by decide +kernel
theorem d_Mod_file_96 : decode (mB m_Mod_file) 96 = .ok (.iload_n 3, 1) := by decide +kernel
theorem d_Mod_file_97 : decode (mB m_Mod_file) 97 = .ok (.aload_n 0, 1) := by decide +kernel
theorem d_Mod_file_98 : decode (mB m_Mod_file) 98 = .ok (.getfield 133, 3) := by decide +kernel
theorem d_Mod_file_101 : decode (mB m_Mod_file) 101 = .ok (.iastore, 1) := by decide +kernel
theorem d_Mod_file_102 : decode (mB m_Mod_file) 102 = .ok (.aload_n 0, 1) := by decide +kernel
theorem d_Mod_file_103 : decode (mB m_Mod_file) 103 = .ok (.getfield 51, 3) := by decide +kernel
theorem d_Mod_file_106 : decode (mB m_Mod_file) 106 = .ok (.iload_n 3, 1) := by decide +kernel
theorem d_Mod_file_107 : decode (mB m_Mod_file) 107 = .ok (.iload_n 2, 1) := by decide +kernel
theorem d_Mod_file_108 : decode (mB m_Mod_file) 108 = .ok (.iastore, 1) := by decide +kernel
theorem d_Mod_file_109 : decode (mB m_Mod_file) 109 = .ok (.aload_n 0, 1) := by decide +kernel
theorem d_Mod_file_110 : decode (mB m_Mod_file) 110 = .ok (.getfield 63, 3) := by decide +kernel
theorem d_Mod_file_113 : decode (mB m_Mod_file) 113 = .ok (.iload_n 3, 1) := by decide +kernel
theorem d_Mod_file_114 : decode (mB m_Mod_file) 114 = .ok (.iconst 0, 1) := by decide +kernel
theorem d_Mod_file_115 : decode (mB m_Mod_file) 115 = .ok (.iastore, 1) := by decide +kernel
theorem d_Mod_file_116 : decode (mB m_Mod_file) 116 = .ok (.aload_n 0, 1) := by decide +kernel
theorem d_Mod_file_117 : decode (mB m_Mod_file) 117 = .ok (.iload_n 1, 1) := by decide +kernel
theorem d_Mod_file_118 : decode (mB m_Mod_file) 118 = .ok (.iload_n 3, 1) := by decide +kernel
theorem d_Mod_file_119 : decode (mB m_Mod_file) 119 = .ok (.iconst 1, 1) := by decide +kernel
theorem d_Mod_file_120 : decode (mB m_Mod_file) 120 = .ok (.aload_n 0, 1) := by decide +kernel
theorem d_Mod_file_121 : decode (mB m_Mod_file) 121 = .ok (.getfield 57, 3) := by decide +kernel
theorem d_Mod_file_124 : decode (mB m_Mod_file) 124 = .ok (.iload_n 3, 1) := by decide +kernel
theorem d_Mod_file_125 : decode (mB m_Mod_file) 125 = .ok (.iaload, 1) := by decide +kernel
theorem d_Mod_file_126 : decode (mB m_Mod_file) 126 = .ok (.ishl, 1) := by decide +kernel
theorem d_Mod_file_127 : decode (mB m_Mod_file) 127 = .ok (.iconst 1, 1) := by decide +kernel
theorem d_Mod_file_128 : decode (mB m_Mod_file) 128 = .ok (.isub, 1) := by decide +kernel
theorem d_Mod_file_129 : decode (mB m_Mod_file) 129 = .ok (.iconst (-1), 1) := by decide +kernel
theorem d_Mod_file_130 : decode (mB m_Mod_file) 130 = .ok (.invokevirtual 198, 3) := by decide +kernel
theorem d_Mod_file_133 : decode (mB m_Mod_file) 133 = .ok (.iload_n 3, 1) := by decide +kernel
theorem d_Mod_file_134 : decode (mB m_Mod_file) 134 = .ok (.ireturn, 1) := by decide +kernel
theorem cal_Mod_file : mCal m_Mod_file 2 := ⟨Or.inl ⟨rfl, goodIn_r _ [1140] (by decide +kernel) (by decide +kernel)⟩, by decide, ⟨by decide, by decide⟩, by decide +kernel⟩
abbrev b_Mod_wait : ByteArray := prog_13_method_27_code
def m_Mod_wait : Mi := (⟨"TextNetModel", "wait", "(IIII)V"⟩, b_Mod_wait, 5, none, [])
theorem d_Mod_wait_0 : decode (mB m_Mod_wait) 0 = .ok (.aload_n 0, 1) := by decide +kernel
theorem d_Mod_wait_1 : decode (mB m_Mod_wait) 1 = .ok (.getfield 66, 3) := by decide +kernel
theorem d_Mod_wait_4 : decode (mB m_Mod_wait) 4 = .ok (.aload_n 0, 1) := by decide +kernel
theorem d_Mod_wait_5 : decode (mB m_Mod_wait) 5 = .ok (.getfield 202, 3) := by decide +kernel
theorem d_Mod_wait_8 : decode (mB m_Mod_wait) 8 = .ok (.iload_n 1, 1) := by decide +kernel
theorem d_Mod_wait_9 : decode (mB m_Mod_wait) 9 = .ok (.bipush 20, 2) := by decide +kernel
theorem d_Mod_wait_11 : decode (mB m_Mod_wait) 11 = .ok (.ishl, 1) := by decide +kernel
theorem d_Mod_wait_12 : decode (mB m_Mod_wait) 12 = .ok (.iload_n 2, 1) := by decide +kernel
theorem d_Mod_wait_13 : decode (mB m_Mod_wait) 13 = .ok (.bipush 12, 2) := by decide +kernel
theorem d_Mod_wait_15 : decode (mB m_Mod_wait) 15 = .ok (.ishl, 1) := by decide +kernel
theorem d_Mod_wait_16 : decode (mB m_Mod_wait) 16 = .ok (.ior, 1) := by decide +kernel
theorem d_Mod_wait_17 : decode (mB m_Mod_wait) 17 = .ok (.iload_n 3, 1) := by decide +kernel
theorem d_Mod_wait_18 : decode (mB m_Mod_wait) 18 = .ok (.iconst 4, 1) := by decide +kernel
theorem d_Mod_wait_19 : decode (mB m_Mod_wait) 19 = .ok (.ishl, 1) := by decide +kernel
theorem d_Mod_wait_20 : decode (mB m_Mod_wait) 20 = .ok (.ior, 1) := by decide +kernel
theorem d_Mod_wait_21 : decode (mB m_Mod_wait) 21 = .ok (.iload 4, 2) := by decide +kernel
theorem d_Mod_wait_23 : decode (mB m_Mod_wait) 23 = .ok (.iconst 1, 1) := by decide +kernel
theorem d_Mod_wait_24 : decode (mB m_Mod_wait) 24 = .ok (.iadd, 1) := by decide +kernel
theorem d_Mod_wait_25 : decode (mB m_Mod_wait) 25 = .ok (.ior, 1) := by decide +kernel
theorem d_Mod_wait_26 : decode (mB m_Mod_wait) 26 = .ok (.iastore, 1) := by decide +kernel
theorem d_Mod_wait_27 : decode (mB m_Mod_wait) 27 = .ok (.aload_n 0, 1) := by decide +kernel
theorem d_Mod_wait_28 : decode (mB m_Mod_wait) 28 = .ok (.dup, 1) := by decide +kernel
theorem d_Mod_wait_29 : decode (mB m_Mod_wait) 29 = .ok (.getfield 202, 3) := by decide +kernel
theorem d_Mod_wait_32 : decode (mB m_Mod_wait) 32 = .ok (.iconst 1, 1) := by decide +kernel
theorem d_Mod_wait_33 : decode (mB m_Mod_wait) 33 = .ok (.iadd, 1) := by decide +kernel
theorem d_Mod_wait_34 : decode (mB m_Mod_wait) 34 = .ok (.putfield 202, 3) := by decide +kernel
theorem d_Mod_wait_37 : decode (mB m_Mod_wait) 37 = .ok (.return_, 1) := by decide +kernel
theorem cal_Mod_wait : mCal m_Mod_wait 4 := ⟨Or.inl ⟨rfl, goodIn_r _ [1213] (by decide +kernel) (by decide +kernel)⟩, by decide, ⟨by decide, by decide⟩, by decide +kernel⟩
abbrev b_Mod_goes : ByteArray := prog_13_method_28_code
def m_Mod_goes : Mi := (⟨"TextNetModel", "goes", "(I)V"⟩, b_Mod_goes, 3, none, [])
theorem d_Mod_goes_0 : decode (mB m_Mod_goes) 0 = .ok (.iload_n 1, 1) := by decide +kernel
theorem d_Mod_goes_1 : decode (mB m_Mod_goes) 1 = .ok (.istore_n 2, 1) := by decide +kernel
theorem d_Mod_goes_2 : decode (mB m_Mod_goes) 2 = .ok (.iload_n 2, 1) := by decide +kernel
theorem d_Mod_goes_3 : decode (mB m_Mod_goes) 3 = .ok (.iconst 1, 1) := by decide +kernel
theorem d_Mod_goes_4 : decode (mB m_Mod_goes) 4 = .ok (.iadd, 1) := by decide +kernel
theorem d_Mod_goes_5 : decode (mB m_Mod_goes) 5 = .ok (.aload_n 0, 1) := by decide +kernel
theorem d_Mod_goes_6 : decode (mB m_Mod_goes) 6 = .ok (.getfield 202, 3) := by decide +kernel
theorem d_Mod_goes_9 : decode (mB m_Mod_goes) 9 = .ok (.if_icmp .ge 23, 3) := by decide +kernel
theorem d_Mod_goes_12 : decode (mB m_Mod_goes) 12 = .ok (.aload_n 0, 1) := by decide +kernel
theorem d_Mod_goes_13 : decode (mB m_Mod_goes) 13 = .ok (.getfield 66, 3) := by decide +kernel
theorem d_Mod_goes_16 : decode (mB m_Mod_goes) 16 = .ok (.iload_n 2, 1) := by decide +kernel
theorem d_Mod_goes_17 : decode (mB m_Mod_goes) 17 = .ok (.aload_n 0, 1) := by decide +kernel
theorem d_Mod_goes_18 : decode (mB m_Mod_goes) 18 = .ok (.getfield 66, 3) := by decide +kernel
theorem d_Mod_goes_21 : decode (mB m_Mod_goes) 21 = .ok (.iload_n 2, 1) := by decide +kernel
theorem d_Mod_goes_22 : decode (mB m_Mod_goes) 22 = .ok (.iconst 1, 1) := by decide +kernel
theorem d_Mod_goes_23 : decode (mB m_Mod_goes) 23 = .ok (.iadd, 1) := by decide +kernel
theorem d_Mod_goes_24 : decode (mB m_Mod_goes) 24 = .ok (.iaload, 1) := by decide +kernel
theorem d_Mod_goes_25 : decode (mB m_Mod_goes) 25 = .ok (.iastore, 1) := by decide +kernel
theorem d_Mod_goes_26 : decode (mB m_Mod_goes) 26 = .ok (.iinc 2 1, 3) := by decide +kernel
theorem d_Mod_goes_29 : decode (mB m_Mod_goes) 29 = .ok (.goto (-27), 3) := by decide +kernel
theorem d_Mod_goes_32 : decode (mB m_Mod_goes) 32 = .ok (.aload_n 0, 1) := by decide +kernel
theorem d_Mod_goes_33 : decode (mB m_Mod_goes) 33 = .ok (.dup, 1) := by decide +kernel
theorem d_Mod_goes_34 : decode (mB m_Mod_goes) 34 = .ok (.getfield 202, 3) := by decide +kernel
theorem d_Mod_goes_37 : decode (mB m_Mod_goes) 37 = .ok (.iconst 1, 1) := by decide +kernel
theorem d_Mod_goes_38 : decode (mB m_Mod_goes) 38 = .ok (.isub, 1) := by decide +kernel
theorem d_Mod_goes_39 : decode (mB m_Mod_goes) 39 = .ok (.putfield 202, 3) := by decide +kernel
theorem d_Mod_goes_42 : decode (mB m_Mod_goes) 42 = .ok (.return_, 1) := by decide +kernel
theorem cal_Mod_goes : mCal m_Mod_goes 1 := ⟨Or.inl ⟨rfl, goodIn_r _ [1228] (by decide +kernel) (by decide +kernel)⟩, by decide, ⟨by decide, by decide⟩, by decide +kernel⟩
abbrev b_Mod_takes : ByteArray := prog_13_method_29_code
def m_Mod_takes : Mi := (⟨"TextNetModel", "takes", "(II)Z"⟩, b_Mod_takes, 3, (some .boolean), [])
theorem d_Mod_takes_0 : decode (mB m_Mod_takes) 0 = .ok (.iload_n 1, 1) := by decide +kernel
theorem d_Mod_takes_1 : decode (mB m_Mod_takes) 1 = .ok (.iconst (-1), 1) := by decide +kernel
theorem d_Mod_takes_2 : decode (mB m_Mod_takes) 2 = .ok (.if_icmp .eq 21, 3) := by decide +kernel
theorem d_Mod_takes_5 : decode (mB m_Mod_takes) 5 = .ok (.iload_n 1, 1) := by decide +kernel
theorem d_Mod_takes_6 : decode (mB m_Mod_takes) 6 = .ok (.iload_n 2, 1) := by decide +kernel
theorem d_Mod_takes_7 : decode (mB m_Mod_takes) 7 = .ok (.if_icmp .eq 16, 3) := by decide +kernel
theorem d_Mod_takes_10 : decode (mB m_Mod_takes) 10 = .ok (.aload_n 0, 1) := by decide +kernel
theorem d_Mod_takes_11 : decode (mB m_Mod_takes) 11 = .ok (.getfield 29, 3) := by decide +kernel
theorem d_Mod_takes_14 : decode (mB m_Mod_takes) 14 = .ok (.iload_n 1, 1) := by decide +kernel
theorem d_Mod_takes_15 : decode (mB m_Mod_takes) 15 = .ok (.baload, 1) := by decide +kernel
theorem d_Mod_takes_16 : decode (mB m_Mod_takes) 16 = .ok (.ifCond .eq 7, 3) := by decide +kernel
theorem d_Mod_takes_19 : decode (mB m_Mod_takes) 19 = .ok (.iconst 1, 1) := by decide +kernel
theorem d_Mod_takes_20 : decode (mB m_Mod_takes) 20 = .ok (.goto 4, 3) := by decide +kernel
theorem d_Mod_takes_23 : decode (mB m_Mod_takes) 23 = .ok (.iconst 0, 1) := by decide +kernel
theorem d_Mod_takes_24 : decode (mB m_Mod_takes) 24 = .ok (.ireturn, 1) := by decide +kernel
theorem cal_Mod_takes : mCal m_Mod_takes 2 := ⟨Or.inl ⟨rfl, goodIn_r _ [1209] (by decide +kernel) (by decide +kernel)⟩, by decide, ⟨by decide, by decide⟩, by decide +kernel⟩
abbrev b_Mod_comes : ByteArray := prog_13_method_30_code
def m_Mod_comes : Mi := (⟨"TextNetModel", "comes", "(IIII)V"⟩, b_Mod_comes, 7, none, [])
theorem d_Mod_comes_0 : decode (mB m_Mod_comes) 0 = .ok (.iconst 0, 1) := by decide +kernel
theorem d_Mod_comes_1 : decode (mB m_Mod_comes) 1 = .ok (.istore 5, 2) := by decide +kernel
theorem d_Mod_comes_3 : decode (mB m_Mod_comes) 3 = .ok (.iload 5, 2) := by decide +kernel
theorem d_Mod_comes_5 : decode (mB m_Mod_comes) 5 = .ok (.bipush 8, 2) := by decide +kernel
theorem d_Mod_comes_7 : decode (mB m_Mod_comes) 7 = .ok (.if_icmp .gt 17, 3) := by decide +kernel
theorem d_Mod_comes_10 : decode (mB m_Mod_comes) 10 = .ok (.aload_n 0, 1) := by decide +kernel
theorem d_Mod_comes_11 : decode (mB m_Mod_comes) 11 = .ok (.getfield 108, 3) := by decide +kernel
theorem d_Mod_comes_14 : decode (mB m_Mod_comes) 14 = .ok (.iload 5, 2) := by decide +kernel
theorem d_Mod_comes_16 : decode (mB m_Mod_comes) 16 = .ok (.iconst 0, 1) := by decide +kernel
theorem d_Mod_comes_17 : decode (mB m_Mod_comes) 17 = .ok (.iastore, 1) := by decide +kernel
theorem d_Mod_comes_18 : decode (mB m_Mod_comes) 18 = .ok (.iinc 5 1, 3) := by decide +kernel
theorem d_Mod_comes_21 : decode (mB m_Mod_comes) 21 = .ok (.goto (-18), 3) := by decide +kernel
theorem d_Mod_comes_24 : decode (mB m_Mod_comes) 24 = .ok (.iconst 0, 1) := by decide +kernel
theorem d_Mod_comes_25 : decode (mB m_Mod_comes) 25 = .ok (.istore 5, 2) := by decide +kernel
theorem d_Mod_comes_27 : decode (mB m_Mod_comes) 27 = .ok (.iload 5, 2) := by decide +kernel
theorem d_Mod_comes_29 : decode (mB m_Mod_comes) 29 = .ok (.aload_n 0, 1) := by decide +kernel
theorem d_Mod_comes_30 : decode (mB m_Mod_comes) 30 = .ok (.getfield 57, 3) := by decide +kernel
theorem d_Mod_comes_33 : decode (mB m_Mod_comes) 33 = .ok (.iload_n 2, 1) := by decide +kernel
theorem d_Mod_comes_34 : decode (mB m_Mod_comes) 34 = .ok (.iaload, 1) := by decide +kernel
theorem d_Mod_comes_35 : decode (mB m_Mod_comes) 35 = .ok (.if_icmp .ge 171, 3) := by decide +kernel
theorem d_Mod_comes_38 : decode (mB m_Mod_comes) 38 = .ok (.iload_n 3, 1) := by decide +kernel
theorem d_Mod_comes_39 : decode (mB m_Mod_comes) 39 = .ok (.iload 5, 2) := by decide +kernel
theorem d_Mod_comes_41 : decode (mB m_Mod_comes) 41 = .ok (.ishr, 1) := by decide +kernel
theorem d_Mod_comes_42 : decode (mB m_Mod_comes) 42 = .ok (.iconst 1, 1) := by decide +kernel
theorem d_Mod_comes_43 : decode (mB m_Mod_comes) 43 = .ok (.iand, 1) := by decide +kernel
theorem d_Mod_comes_44 : decode (mB m_Mod_comes) 44 = .ok (.ifCond .ne 6, 3) := by decide +kernel
theorem d_Mod_comes_47 : decode (mB m_Mod_comes) 47 = .ok (.goto 153, 3) := by decide +kernel
theorem d_Mod_comes_50 : decode (mB m_Mod_comes) 50 = .ok (.aload_n 0, 1) := by decide +kernel
theorem d_Mod_comes_51 : decode (mB m_Mod_comes) 51 = .ok (.iload_n 1, 1) := by decide +kernel
theorem d_Mod_comes_52 : decode (mB m_Mod_comes) 52 = .ok (.aload_n 0, 1) := by decide +kernel
theorem d_Mod_comes_53 : decode (mB m_Mod_comes) 53 = .ok (.getfield 60, 3) := by decide +kernel
theorem d_Mod_comes_56 : decode (mB m_Mod_comes) 56 = .ok (.bipush 7, 2) := by decide +kernel
theorem d_Mod_comes_58 : decode (mB m_Mod_comes) 58 = .ok (.iload_n 2, 1) := by decide +kernel
theorem d_Mod_comes_59 : decode (mB m_Mod_comes) 59 = .ok (.imul, 1) := by decide +kernel
theorem d_Mod_comes_60 : decode (mB m_Mod_comes) 60 = .ok (.iload 5, 2) := by decide +kernel
theorem d_Mod_comes_62 : decode (mB m_Mod_comes) 62 = .ok (.iadd, 1) := by decide +kernel
theorem d_Mod_comes_63 : decode (mB m_Mod_comes) 63 = .ok (.laload, 1) := by decide +kernel
theorem d_Mod_comes_64 : decode (mB m_Mod_comes) 64 = .ok (.invokevirtual 205, 3) := by decide +kernel
theorem d_Mod_comes_67 : decode (mB m_Mod_comes) 67 = .ok (.istore 6, 2) := by decide +kernel
theorem d_Mod_comes_69 : decode (mB m_Mod_comes) 69 = .ok (.iload 6, 2) := by decide +kernel
theorem d_Mod_comes_71 : decode (mB m_Mod_comes) 71 = .ok (.iconst (-1), 1) := by decide +kernel
theorem d_Mod_comes_72 : decode (mB m_Mod_comes) 72 = .ok (.if_icmp .ne 16, 3) := by decide +kernel
theorem d_Mod_comes_75 : decode (mB m_Mod_comes) 75 = .ok (.aload_n 0, 1) := by decide +kernel
theorem d_Mod_comes_76 : decode (mB m_Mod_comes) 76 = .ok (.getfield 96, 3) := by decide +kernel
theorem d_Mod_comes_79 : decode (mB m_Mod_comes) 79 = .ok (.iload_n 1, 1) := by decide +kernel
theorem d_Mod_comes_80 : decode (mB m_Mod_comes) 80 = .ok (.dup2, 1) := by decide +kernel
theorem d_Mod_comes_81 : decode (mB m_Mod_comes) 81 = .ok (.iaload, 1) := by decide +kernel
theorem d_Mod_comes_82 : decode (mB m_Mod_comes) 82 = .ok (.iconst 1, 1) := by decide +kernel
theorem d_Mod_comes_83 : decode (mB m_Mod_comes) 83 = .ok (.iadd, 1) := by decide +kernel
theorem d_Mod_comes_84 : decode (mB m_Mod_comes) 84 = .ok (.iastore, 1) := by decide +kernel
theorem d_Mod_comes_85 : decode (mB m_Mod_comes) 85 = .ok (.goto 115, 3) := by decide +kernel
theorem d_Mod_comes_88 : decode (mB m_Mod_comes) 88 = .ok (.aload_n 0, 1) := by decide +kernel
theorem d_Mod_comes_89 : decode (mB m_Mod_comes) 89 = .ok (.getfield 42, 3) := by decide +kernel
theorem d_Mod_comes_92 : decode (mB m_Mod_comes) 92 = .ok (.iload 6, 2) := by decide +kernel
theorem d_Mod_comes_94 : decode (mB m_Mod_comes) 94 = .ok (.iaload, 1) := by decide +kernel
theorem d_Mod_comes_95 : decode (mB m_Mod_comes) 95 = .ok (.iconst (-1), 1) := by decide +kernel
theorem d_Mod_comes_96 : decode (mB m_Mod_comes) 96 = .ok (.if_icmp .ne 14, 3) := by decide +kernel
theorem d_Mod_comes_99 : decode (mB m_Mod_comes) 99 = .ok (.aload_n 0, 1) := by decide +kernel
theorem d_Mod_comes_100 : decode (mB m_Mod_comes) 100 = .ok (.iload_n 1, 1) := by decide +kernel
theorem d_Mod_comes_101 : decode (mB m_Mod_comes) 101 = .ok (.iload_n 2, 1) := by decide +kernel
theorem d_Mod_comes_102 : decode (mB m_Mod_comes) 102 = .ok (.iload 5, 2) := by decide +kernel
theorem d_Mod_comes_104 : decode (mB m_Mod_comes) 104 = .ok (.invokevirtual 209, 3) := by decide +kernel
theorem d_Mod_comes_107 : decode (mB m_Mod_comes) 107 = .ok (.goto 93, 3) := by decide +kernel
theorem d_Mod_comes_110 : decode (mB m_Mod_comes) 110 = .ok (.aload_n 0, 1) := by decide +kernel
theorem d_Mod_comes_111 : decode (mB m_Mod_comes) 111 = .ok (.aload_n 0, 1) := by decide +kernel
theorem d_Mod_comes_112 : decode (mB m_Mod_comes) 112 = .ok (.getfield 42, 3) := by decide +kernel
theorem d_Mod_comes_115 : decode (mB m_Mod_comes) 115 = .ok (.iload 6, 2) := by decide +kernel
theorem d_Mod_comes_117 : decode (mB m_Mod_comes) 117 = .ok (.iaload, 1) := by decide +kernel
theorem d_Mod_comes_118 : decode (mB m_Mod_comes) 118 = .ok (.iload 4, 2) := by decide +kernel
theorem d_Mod_comes_120 : decode (mB m_Mod_comes) 120 = .ok (.invokevirtual 213, 3) := by decide +kernel
theorem d_Mod_comes_123 : decode (mB m_Mod_comes) 123 = .ok (.ifCond .eq 25, 3) := by decide +kernel
theorem d_Mod_comes_126 : decode (mB m_Mod_comes) 126 = .ok (.aload_n 0, 1) := by decide +kernel
theorem d_Mod_comes_127 : decode (mB m_Mod_comes) 127 = .ok (.getfield 108, 3) := by decide +kernel
theorem d_Mod_comes_130 : decode (mB m_Mod_comes) 130 = .ok (.aload_n 0, 1) := by decide +kernel
theorem d_Mod_comes_131 : decode (mB m_Mod_comes) 131 = .ok (.getfield 42, 3) := by decide +kernel
theorem d_Mod_comes_134 : decode (mB m_Mod_comes) 134 = .ok (.iload 6, 2) := by decide +kernel
theorem d_Mod_comes_136 : decode (mB m_Mod_comes) 136 = .ok (.iaload, 1) := by decide +kernel
theorem d_Mod_comes_137 : decode (mB m_Mod_comes) 137 = .ok (.dup2, 1) := by decide +kernel
theorem d_Mod_comes_138 : decode (mB m_Mod_comes) 138 = .ok (.iaload, 1) := by decide +kernel
theorem d_Mod_comes_139 : decode (mB m_Mod_comes) 139 = .ok (.iconst 1, 1) := by decide +kernel
theorem d_Mod_comes_140 : decode (mB m_Mod_comes) 140 = .ok (.iload 5, 2) := by decide +kernel
theorem d_Mod_comes_142 : decode (mB m_Mod_comes) 142 = .ok (.ishl, 1) := by decide +kernel
theorem d_Mod_comes_143 : decode (mB m_Mod_comes) 143 = .ok (.ior, 1) := by decide +kernel
theorem d_Mod_comes_144 : decode (mB m_Mod_comes) 144 = .ok (.iastore, 1) := by decide +kernel
theorem d_Mod_comes_145 : decode (mB m_Mod_comes) 145 = .ok (.goto 55, 3) := by decide +kernel
theorem d_Mod_comes_148 : decode (mB m_Mod_comes) 148 = .ok (.aload_n 0, 1) := by decide +kernel
theorem d_Mod_comes_149 : decode (mB m_Mod_comes) 149 = .ok (.aload_n 0, 1) := by decide +kernel
theorem d_Mod_comes_150 : decode (mB m_Mod_comes) 150 = .ok (.getfield 45, 3) := by decide +kernel
theorem d_Mod_comes_153 : decode (mB m_Mod_comes) 153 = .ok (.iload 6, 2) := by decide +kernel
theorem d_Mod_comes_155 : decode (mB m_Mod_comes) 155 = .ok (.iaload, 1) := by decide +kernel
theorem d_Mod_comes_156 : decode (mB m_Mod_comes) 156 = .ok (.iload 4, 2) := by decide +kernel
theorem d_Mod_comes_158 : decode (mB m_Mod_comes) 158 = .ok (.invokevirtual 213, 3) := by decide +kernel
theorem d_Mod_comes_161 : decode (mB m_Mod_comes) 161 = .ok (.ifCond .eq 25, 3) := by decide +kernel
theorem d_Mod_comes_164 : decode (mB m_Mod_comes) 164 = .ok (.aload_n 0, 1) := by decide +kernel
theorem d_Mod_comes_165 : decode (mB m_Mod_comes) 165 = .ok (.getfield 108, 3) := by decide +kernel
theorem d_Mod_comes_168 : decode (mB m_Mod_comes) 168 = .ok (.aload_n 0, 1) := by decide +kernel
theorem d_Mod_comes_169 : decode (mB m_Mod_comes) 169 = .ok (.getfield 45, 3) := by decide +kernel
theorem d_Mod_comes_172 : decode (mB m_Mod_comes) 172 = .ok (.iload 6, 2) := by decide +kernel
theorem d_Mod_comes_174 : decode (mB m_Mod_comes) 174 = .ok (.iaload, 1) := by decide +kernel
theorem d_Mod_comes_175 : decode (mB m_Mod_comes) 175 = .ok (.dup2, 1) := by decide +kernel
theorem d_Mod_comes_176 : decode (mB m_Mod_comes) 176 = .ok (.iaload, 1) := by decide +kernel
theorem d_Mod_comes_177 : decode (mB m_Mod_comes) 177 = .ok (.iconst 1, 1) := by decide +kernel
theorem d_Mod_comes_178 : decode (mB m_Mod_comes) 178 = .ok (.iload 5, 2) := by decide +kernel
theorem d_Mod_comes_180 : decode (mB m_Mod_comes) 180 = .ok (.ishl, 1) := by decide +kernel
theorem d_Mod_comes_181 : decode (mB m_Mod_comes) 181 = .ok (.ior, 1) := by decide +kernel
theorem d_Mod_comes_182 : decode (mB m_Mod_comes) 182 = .ok (.iastore, 1) := by decide +kernel
theorem d_Mod_comes_183 : decode (mB m_Mod_comes) 183 = .ok (.goto 17, 3) := by decide +kernel
theorem d_Mod_comes_186 : decode (mB m_Mod_comes) 186 = .ok (.aload_n 0, 1) := by decide +kernel
theorem d_Mod_comes_187 : decode (mB m_Mod_comes) 187 = .ok (.getfield 108, 3) := by decide +kernel
theorem d_Mod_comes_190 : decode (mB m_Mod_comes) 190 = .ok (.bipush 8, 2) := by decide +kernel
theorem d_Mod_comes_192 : decode (mB m_Mod_comes) 192 = .ok (.dup2, 1) := by decide +kernel
theorem d_Mod_comes_193 : decode (mB m_Mod_comes) 193 = .ok (.iaload, 1) := by decide +kernel
theorem d_Mod_comes_194 : decode (mB m_Mod_comes) 194 = .ok (.iconst 1, 1) := by decide +kernel
theorem d_Mod_comes_195 : decode (mB m_Mod_comes) 195 = .ok (.iload 5, 2) := by decide +kernel
theorem d_Mod_comes_197 : decode (mB m_Mod_comes) 197 = .ok (.ishl, 1) := by decide +kernel
theorem d_Mod_comes_198 : decode (mB m_Mod_comes) 198 = .ok (.ior, 1) := by decide +kernel
theorem d_Mod_comes_199 : decode (mB m_Mod_comes) 199 = .ok (.iastore, 1) := by decide +kernel
theorem d_Mod_comes_200 : decode (mB m_Mod_comes) 200 = .ok (.iinc 5 1, 3) := by decide +kernel
theorem d_Mod_comes_203 : decode (mB m_Mod_comes) 203 = .ok (.goto (-176), 3) := by decide +kernel
theorem d_Mod_comes_206 : decode (mB m_Mod_comes) 206 = .ok (.iconst 0, 1) := by decide +kernel
theorem d_Mod_comes_207 : decode (mB m_Mod_comes) 207 = .ok (.istore 5, 2) := by decide +kernel
theorem d_Mod_comes_209 : decode (mB m_Mod_comes) 209 = .ok (.iload 5, 2) := by decide +kernel
theorem d_Mod_comes_211 : decode (mB m_Mod_comes) 211 = .ok (.bipush 8, 2) := by decide +kernel
theorem d_Mod_comes_213 : decode (mB m_Mod_comes) 213 = .ok (.if_icmp .ge 53, 3) := by decide +kernel
theorem d_Mod_comes_216 : decode (mB m_Mod_comes) 216 = .ok (.aload_n 0, 1) := by decide +kernel
theorem d_Mod_comes_217 : decode (mB m_Mod_comes) 217 = .ok (.getfield 108, 3) := by decide +kernel
theorem d_Mod_comes_220 : decode (mB m_Mod_comes) 220 = .ok (.iload 5, 2) := by decide +kernel
theorem d_Mod_comes_222 : decode (mB m_Mod_comes) 222 = .ok (.iaload, 1) := by decide +kernel
theorem d_Mod_comes_223 : decode (mB m_Mod_comes) 223 = .ok (.ifCond .eq 37, 3) := by decide +kernel
theorem d_Mod_comes_226 : decode (mB m_Mod_comes) 226 = .ok (.aload_n 0, 1) := by decide +kernel
theorem d_Mod_comes_227 : decode (mB m_Mod_comes) 227 = .ok (.iconst 2, 1) := by decide +kernel
theorem d_Mod_comes_228 : decode (mB m_Mod_comes) 228 = .ok (.iload 5, 2) := by decide +kernel
theorem d_Mod_comes_230 : decode (mB m_Mod_comes) 230 = .ok (.imul, 1) := by decide +kernel
theorem d_Mod_comes_231 : decode (mB m_Mod_comes) 231 = .ok (.aload_n 0, 1) := by decide +kernel
theorem d_Mod_comes_232 : decode (mB m_Mod_comes) 232 = .ok (.getfield 23, 3) := by decide +kernel
theorem d_Mod_comes_235 : decode (mB m_Mod_comes) 235 = .ok (.iload 5, 2) := by decide +kernel
theorem d_Mod_comes_237 : decode (mB m_Mod_comes) 237 = .ok (.iaload, 1) := by decide +kernel
theorem d_Mod_comes_238 : decode (mB m_Mod_comes) 238 = .ok (.iload_n 1, 1) := by decide +kernel
theorem d_Mod_comes_239 : decode (mB m_Mod_comes) 239 = .ok (.if_icmp .ne 7, 3) := by decide +kernel
theorem d_Mod_comes_242 : decode (mB m_Mod_comes) 242 = .ok (.iconst 0, 1) := by decide +kernel
theorem d_Mod_comes_243 : decode (mB m_Mod_comes) 243 = .ok (.goto 4, 3) := by decide +kernel
theorem d_Mod_comes_246 : decode (mB m_Mod_comes) 246 = .ok (.iconst 1, 1) := by decide +kernel
theorem d_Mod_comes_247 : decode (mB m_Mod_comes) 247 = .ok (.iadd, 1) := by decide +kernel
theorem d_Mod_comes_248 : decode (mB m_Mod_comes) 248 = .ok (.iload_n 2, 1) := by decide +kernel
theorem d_Mod_comes_249 : decode (mB m_Mod_comes) 249 = .ok (.aload_n 0, 1) := by decide +kernel
theorem d_Mod_comes_250 : decode (mB m_Mod_comes) 250 = .ok (.getfield 108, 3) := by decide +kernel
theorem d_Mod_comes_253 : decode (mB m_Mod_comes) 253 = .ok (.iload 5, 2) := by decide +kernel
theorem d_Mod_comes_255 : decode (mB m_Mod_comes) 255 = .ok (.iaload, 1) := by decide +kernel
theorem d_Mod_comes_256 : decode (mB m_Mod_comes) 256 = .ok (.iconst (-1), 1) := by decide +kernel
theorem d_Mod_comes_257 : decode (mB m_Mod_comes) 257 = .ok (.invokevirtual 216, 3) := by decide +kernel
theorem d_Mod_comes_260 : decode (mB m_Mod_comes) 260 = .ok (.iinc 5 1, 3) := by decide +kernel
theorem d_Mod_comes_263 : decode (mB m_Mod_comes) 263 = .ok (.goto (-54), 3) := by decide +kernel
theorem d_Mod_comes_266 : decode (mB m_Mod_comes) 266 = .ok (.aload_n 0, 1) := by decide +kernel
theorem d_Mod_comes_267 : decode (mB m_Mod_comes) 267 = .ok (.getfield 108, 3) := by decide +kernel
theorem d_Mod_comes_270 : decode (mB m_Mod_comes) 270 = .ok (.bipush 8, 2) := by decide +kernel
theorem d_Mod_comes_272 : decode (mB m_Mod_comes) 272 = .ok (.iaload, 1) := by decide +kernel
theorem d_Mod_comes_273 : decode (mB m_Mod_comes) 273 = .ok (.ifCond .eq 21, 3) := by decide +kernel
theorem d_Mod_comes_276 : decode (mB m_Mod_comes) 276 = .ok (.aload_n 0, 1) := by decide +kernel
theorem d_Mod_comes_277 : decode (mB m_Mod_comes) 277 = .ok (.bipush 16, 2) := by decide +kernel
theorem d_Mod_comes_279 : decode (mB m_Mod_comes) 279 = .ok (.iload_n 1, 1) := by decide +kernel
theorem d_Mod_comes_280 : decode (mB m_Mod_comes) 280 = .ok (.iadd, 1) := by decide +kernel
theorem d_Mod_comes_281 : decode (mB m_Mod_comes) 281 = .ok (.iload_n 2, 1) := by decide +kernel
theorem d_Mod_comes_282 : decode (mB m_Mod_comes) 282 = .ok (.aload_n 0, 1) := by decide +kernel
theorem d_Mod_comes_283 : decode (mB m_Mod_comes) 283 = .ok (.getfield 108, 3) := by decide +kernel
theorem d_Mod_comes_286 : decode (mB m_Mod_comes) 286 = .ok (.bipush 8, 2) := by decide +kernel
theorem d_Mod_comes_288 : decode (mB m_Mod_comes) 288 = .ok (.iaload, 1) := by decide +kernel
theorem d_Mod_comes_289 : decode (mB m_Mod_comes) 289 = .ok (.iload 4, 2) := by decide +kernel
theorem d_Mod_comes_291 : decode (mB m_Mod_comes) 291 = .ok (.invokevirtual 216, 3) := by decide +kernel
theorem d_Mod_comes_294 : decode (mB m_Mod_comes) 294 = .ok (.return_, 1) := by decide +kernel
theorem cal_Mod_comes : mCal m_Mod_comes 4 := ⟨Or.inl ⟨rfl, goodIn_r _ [1197] (by decide +kernel) (by decide +kernel)⟩, by decide, ⟨by decide, by decide⟩, by decide +kernel⟩
