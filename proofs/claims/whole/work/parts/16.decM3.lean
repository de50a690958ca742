abbrev b_Mod_deliver : ByteArray := prog_13_method_31_code
def m_Mod_deliver : Mi := (⟨"TextNetModel", "deliver", "(III)V"⟩, b_Mod_deliver, 6, none, [])
theorem d_Mod_deliver_0 : decode (mB m_Mod_deliver) 0 = .ok (.aload_n 0, 1) := by decide +kernel
theorem d_Mod_deliver_1 : decode (mB m_Mod_deliver) 1 = .ok (.getfield 63, 3) := by decide +kernel
theorem d_Mod_deliver_4 : decode (mB m_Mod_deliver) 4 = .ok (.iload_n 2, 1) := by decide +kernel
theorem d_Mod_deliver_5 : decode (mB m_Mod_deliver) 5 = .ok (.iaload, 1) := by decide +kernel
theorem d_Mod_deliver_6 : decode (mB m_Mod_deliver) 6 = .ok (.iload_n 3, 1) := by decide +kernel
theorem d_Mod_deliver_7 : decode (mB m_Mod_deliver) 7 = .ok (.ishr, 1) := by decide +kernel
theorem d_Mod_deliver_8 : decode (mB m_Mod_deliver) 8 = .ok (.iconst 1, 1) := by decide +kernel
theorem d_Mod_deliver_9 : decode (mB m_Mod_deliver) 9 = .ok (.iand, 1) := by decide +kernel
theorem d_Mod_deliver_10 : decode (mB m_Mod_deliver) 10 = .ok (.iconst 1, 1) := by decide +kernel
theorem d_Mod_deliver_11 : decode (mB m_Mod_deliver) 11 = .ok (.if_icmp .ne 14, 3) := by decide +kernel
theorem d_Mod_deliver_14 : decode (mB m_Mod_deliver) 14 = .ok (.aload_n 0, 1) := by decide +kernel
theorem d_Mod_deliver_15 : decode (mB m_Mod_deliver) 15 = .ok (.getfield 99, 3) := by decide +kernel
theorem d_Mod_deliver_18 : decode (mB m_Mod_deliver) 18 = .ok (.iload_n 1, 1) := by decide +kernel
theorem d_Mod_deliver_19 : decode (mB m_Mod_deliver) 19 = .ok (.dup2, 1) := by decide +kernel
theorem d_Mod_deliver_20 : decode (mB m_Mod_deliver) 20 = .ok (.iaload, 1) := by decide +kernel
theorem d_Mod_deliver_21 : decode (mB m_Mod_deliver) 21 = .ok (.iconst 1, 1) := by decide +kernel
theorem d_Mod_deliver_22 : decode (mB m_Mod_deliver) 22 = .ok (.iadd, 1) := by decide +kernel
theorem d_Mod_deliver_23 : decode (mB m_Mod_deliver) 23 = .ok (.iastore, 1) := by decide +kernel
theorem d_Mod_deliver_24 : decode (mB m_Mod_deliver) 24 = .ok (.return_, 1) := by decide +kernel
theorem d_Mod_deliver_25 : decode (mB m_Mod_deliver) 25 = .ok (.aload_n 0, 1) := by decide +kernel
theorem d_Mod_deliver_26 : decode (mB m_Mod_deliver) 26 = .ok (.getfield 63, 3) := by decide +kernel
theorem d_Mod_deliver_29 : decode (mB m_Mod_deliver) 29 = .ok (.iload_n 2, 1) := by decide +kernel
theorem d_Mod_deliver_30 : decode (mB m_Mod_deliver) 30 = .ok (.dup2, 1) := by decide +kernel
theorem d_Mod_deliver_31 : decode (mB m_Mod_deliver) 31 = .ok (.iaload, 1) := by decide +kernel
theorem d_Mod_deliver_32 : decode (mB m_Mod_deliver) 32 = .ok (.iconst 1, 1) := by decide +kernel
theorem d_Mod_deliver_33 : decode (mB m_Mod_deliver) 33 = .ok (.iload_n 3, 1) := by decide +kernel
theorem d_Mod_deliver_34 : decode (mB m_Mod_deliver) 34 = .ok (.ishl, 1) := by decide +kernel
theorem d_Mod_deliver_35 : decode (mB m_Mod_deliver) 35 = .ok (.ior, 1) := by decide +kernel
theorem d_Mod_deliver_36 : decode (mB m_Mod_deliver) 36 = .ok (.iastore, 1) := by decide +kernel
theorem d_Mod_deliver_37 : decode (mB m_Mod_deliver) 37 = .ok (.iconst 0, 1) := by decide +kernel
theorem d_Mod_deliver_38 : decode (mB m_Mod_deliver) 38 = .ok (.istore 4, 2) := by decide +kernel
theorem d_Mod_deliver_40 : decode (mB m_Mod_deliver) 40 = .ok (.iconst 0, 1) := by decide +kernel
theorem d_Mod_deliver_41 : decode (mB m_Mod_deliver) 41 = .ok (.istore 5, 2) := by decide +kernel
theorem d_Mod_deliver_43 : decode (mB m_Mod_deliver) 43 = .ok (.iload 5, 2) := by decide +kernel
theorem d_Mod_deliver_45 : decode (mB m_Mod_deliver) 45 = .ok (.aload_n 0, 1) := by decide +kernel
theorem d_Mod_deliver_46 : decode (mB m_Mod_deliver) 46 = .ok (.getfield 102, 3) := by decide +kernel
theorem d_Mod_deliver_49 : decode (mB m_Mod_deliver) 49 = .ok (.iload_n 1, 1) := by decide +kernel
theorem d_Mod_deliver_50 : decode (mB m_Mod_deliver) 50 = .ok (.iaload, 1) := by decide +kernel
theorem d_Mod_deliver_51 : decode (mB m_Mod_deliver) 51 = .ok (.if_icmp .ge 38, 3) := by decide +kernel
theorem d_Mod_deliver_54 : decode (mB m_Mod_deliver) 54 = .ok (.iload 4, 2) := by decide +kernel
theorem d_Mod_deliver_56 : decode (mB m_Mod_deliver) 56 = .ok (.ifCond .ne 20, 3) := by decide +kernel
theorem d_Mod_deliver_59 : decode (mB m_Mod_deliver) 59 = .ok (.aload_n 0, 1) := by decide +kernel
theorem d_Mod_deliver_60 : decode (mB m_Mod_deliver) 60 = .ok (.getfield 105, 3) := by decide +kernel
theorem d_Mod_deliver_63 : decode (mB m_Mod_deliver) 63 = .ok (.sipush 200, 3) := by decide +kernel
theorem d_Mod_deliver_66 : decode (mB m_Mod_deliver) 66 = .ok (.iload_n 1, 1) := by decide +kernel
theorem d_Mod_deliver_67 : decode (mB m_Mod_deliver) 67 = .ok (.imul, 1) := by decide +kernel
theorem d_Mod_deliver_68 : decode (mB m_Mod_deliver) 68 = .ok (.iload 5, 2) := by decide +kernel
theorem d_Mod_deliver_70 : decode (mB m_Mod_deliver) 70 = .ok (.iadd, 1) := by decide +kernel
theorem d_Mod_deliver_71 : decode (mB m_Mod_deliver) 71 = .ok (.iaload, 1) := by decide +kernel
theorem d_Mod_deliver_72 : decode (mB m_Mod_deliver) 72 = .ok (.iload_n 2, 1) := by decide +kernel
theorem d_Mod_deliver_73 : decode (mB m_Mod_deliver) 73 = .ok (.if_icmp .ne 7, 3) := by decide +kernel
theorem d_Mod_deliver_76 : decode (mB m_Mod_deliver) 76 = .ok (.iconst 1, 1) := by decide +kernel
theorem d_Mod_deliver_77 : decode (mB m_Mod_deliver) 77 = .ok (.goto 4, 3) := by decide +kernel
theorem d_Mod_deliver_80 : decode (mB m_Mod_deliver) 80 = .ok (.iconst 0, 1) := by decide +kernel
theorem d_Mod_deliver_81 : decode (mB m_Mod_deliver) 81 = .ok (.istore 4, 2) := by decide +kernel
theorem d_Mod_deliver_83 : decode (mB m_Mod_deliver) 83 = .ok (.iinc 5 1, 3) := by decide +kernel
theorem d_Mod_deliver_86 : decode (mB m_Mod_deliver) 86 = .ok (.goto (-43), 3) := by decide +kernel
theorem d_Mod_deliver_89 : decode (mB m_Mod_deliver) 89 = .ok (.iload 4, 2) := by decide +kernel
theorem d_Mod_deliver_91 : decode (mB m_Mod_deliver) 91 = .ok (.ifCond .eq 4, 3) := by decide +kernel
theorem d_Mod_deliver_94 : decode (mB m_Mod_deliver) 94 = .ok (.return_, 1) := by decide +kernel
theorem d_Mod_deliver_95 : decode (mB m_Mod_deliver) 95 = .ok (.aload_n 0, 1) := by decide +kernel
theorem d_Mod_deliver_96 : decode (mB m_Mod_deliver) 96 = .ok (.getfield 105, 3) := by decide +kernel
theorem d_Mod_deliver_99 : decode (mB m_Mod_deliver) 99 = .ok (.sipush 200, 3) := by decide +kernel
theorem d_Mod_deliver_102 : decode (mB m_Mod_deliver) 102 = .ok (.iload_n 1, 1) := by decide +kernel
theorem d_Mod_deliver_103 : decode (mB m_Mod_deliver) 103 = .ok (.imul, 1) := by decide +kernel
theorem d_Mod_deliver_104 : decode (mB m_Mod_deliver) 104 = .ok (.aload_n 0, 1) := by decide +kernel
theorem d_Mod_deliver_105 : decode (mB m_Mod_deliver) 105 = .ok (.getfield 102, 3) := by decide +kernel
theorem d_Mod_deliver_108 : decode (mB m_Mod_deliver) 108 = .ok (.iload_n 1, 1) := by decide +kernel
theorem d_Mod_deliver_109 : decode (mB m_Mod_deliver) 109 = .ok (.iaload, 1) := by decide +kernel
theorem d_Mod_deliver_110 : decode (mB m_Mod_deliver) 110 = .ok (.iadd, 1) := by decide +kernel
theorem d_Mod_deliver_111 : decode (mB m_Mod_deliver) 111 = .ok (.iload_n 2, 1) := by decide +kernel
theorem d_Mod_deliver_112 : decode (mB m_Mod_deliver) 112 = .ok (.iastore, 1) := by decide +kernel
theorem d_Mod_deliver_113 : decode (mB m_Mod_deliver) 113 = .ok (.aload_n 0, 1) := by decide +kernel
theorem d_Mod_deliver_114 : decode (mB m_Mod_deliver) 114 = .ok (.getfield 102, 3) := by decide +kernel
theorem d_Mod_deliver_117 : decode (mB m_Mod_deliver) 117 = .ok (.iload_n 1, 1) := by decide +kernel
theorem d_Mod_deliver_118 : decode (mB m_Mod_deliver) 118 = .ok (.dup2, 1) := by decide +kernel
theorem d_Mod_deliver_119 : decode (mB m_Mod_deliver) 119 = .ok (.iaload, 1) := by decide +kernel
theorem d_Mod_deliver_120 : decode (mB m_Mod_deliver) 120 = .ok (.iconst 1, 1) := by decide +kernel
theorem d_Mod_deliver_121 : decode (mB m_Mod_deliver) 121 = .ok (.iadd, 1) := by decide +kernel
theorem d_Mod_deliver_122 : decode (mB m_Mod_deliver) 122 = .ok (.iastore, 1) := by decide +kernel
theorem d_Mod_deliver_123 : decode (mB m_Mod_deliver) 123 = .ok (.return_, 1) := by decide +kernel
theorem cal_Mod_deliver : mCal m_Mod_deliver 3 := ⟨Or.inl ⟨rfl, goodIn_r _ [1205] (by decide +kernel) (by decide +kernel)⟩, by decide, ⟨by decide, by decide⟩, by decide +kernel⟩
abbrev b_Mod_release : ByteArray := prog_13_method_32_code
def m_Mod_release : Mi := (⟨"TextNetModel", "release", "(I)V"⟩, b_Mod_release, 6, none, [])
theorem d_Mod_release_0 : decode (mB m_Mod_release) 0 = .ok (.iconst 0, 1) := by decide +kernel
theorem d_Mod_release_1 : decode (mB m_Mod_release) 1 = .ok (.istore_n 2, 1) := by decide +kernel
theorem d_Mod_release_2 : decode (mB m_Mod_release) 2 = .ok (.iconst 0, 1) := by decide +kernel
theorem d_Mod_release_3 : decode (mB m_Mod_release) 3 = .ok (.istore_n 3, 1) := by decide +kernel
theorem d_Mod_release_4 : decode (mB m_Mod_release) 4 = .ok (.iload_n 3, 1) := by decide +kernel
theorem d_Mod_release_5 : decode (mB m_Mod_release) 5 = .ok (.aload_n 0, 1) := by decide +kernel
theorem d_Mod_release_6 : decode (mB m_Mod_release) 6 = .ok (.getfield 202, 3) := by decide +kernel
theorem d_Mod_release_9 : decode (mB m_Mod_release) 9 = .ok (.if_icmp .ge 33, 3) := by decide +kernel
theorem d_Mod_release_12 : decode (mB m_Mod_release) 12 = .ok (.iload_n 2, 1) := by decide +kernel
theorem d_Mod_release_13 : decode (mB m_Mod_release) 13 = .ok (.aload_n 0, 1) := by decide +kernel
theorem d_Mod_release_14 : decode (mB m_Mod_release) 14 = .ok (.getfield 66, 3) := by decide +kernel
theorem d_Mod_release_17 : decode (mB m_Mod_release) 17 = .ok (.iload_n 3, 1) := by decide +kernel
theorem d_Mod_release_18 : decode (mB m_Mod_release) 18 = .ok (.iaload, 1) := by decide +kernel
theorem d_Mod_release_19 : decode (mB m_Mod_release) 19 = .ok (.bipush 20, 2) := by decide +kernel
theorem d_Mod_release_21 : decode (mB m_Mod_release) 21 = .ok (.ishr, 1) := by decide +kernel
theorem d_Mod_release_22 : decode (mB m_Mod_release) 22 = .ok (.bipush 16, 2) := by decide +kernel
theorem d_Mod_release_24 : decode (mB m_Mod_release) 24 = .ok (.iload_n 1, 1) := by decide +kernel
theorem d_Mod_release_25 : decode (mB m_Mod_release) 25 = .ok (.iadd, 1) := by decide +kernel
theorem d_Mod_release_26 : decode (mB m_Mod_release) 26 = .ok (.if_icmp .ne 7, 3) := by decide +kernel
theorem d_Mod_release_29 : decode (mB m_Mod_release) 29 = .ok (.iconst 1, 1) := by decide +kernel
theorem d_Mod_release_30 : decode (mB m_Mod_release) 30 = .ok (.goto 4, 3) := by decide +kernel
theorem d_Mod_release_33 : decode (mB m_Mod_release) 33 = .ok (.iconst 0, 1) := by decide +kernel
theorem d_Mod_release_34 : decode (mB m_Mod_release) 34 = .ok (.iadd, 1) := by decide +kernel
theorem d_Mod_release_35 : decode (mB m_Mod_release) 35 = .ok (.istore_n 2, 1) := by decide +kernel
theorem d_Mod_release_36 : decode (mB m_Mod_release) 36 = .ok (.iinc 3 1, 3) := by decide +kernel
theorem d_Mod_release_39 : decode (mB m_Mod_release) 39 = .ok (.goto (-35), 3) := by decide +kernel
theorem d_Mod_release_42 : decode (mB m_Mod_release) 42 = .ok (.iconst 0, 1) := by decide +kernel
theorem d_Mod_release_43 : decode (mB m_Mod_release) 43 = .ok (.istore_n 3, 1) := by decide +kernel
theorem d_Mod_release_44 : decode (mB m_Mod_release) 44 = .ok (.iload_n 3, 1) := by decide +kernel
theorem d_Mod_release_45 : decode (mB m_Mod_release) 45 = .ok (.iload_n 2, 1) := by decide +kernel
theorem d_Mod_release_46 : decode (mB m_Mod_release) 46 = .ok (.if_icmp .ge 78, 3) := by decide +kernel
theorem d_Mod_release_49 : decode (mB m_Mod_release) 49 = .ok (.iconst 0, 1) := by decide +kernel
theorem d_Mod_release_50 : decode (mB m_Mod_release) 50 = .ok (.istore 4, 2) := by decide +kernel
theorem d_Mod_release_52 : decode (mB m_Mod_release) 52 = .ok (.aload_n 0, 1) := by decide +kernel
theorem d_Mod_release_53 : decode (mB m_Mod_release) 53 = .ok (.getfield 66, 3) := by decide +kernel
theorem d_Mod_release_56 : decode (mB m_Mod_release) 56 = .ok (.iload 4, 2) := by decide +kernel
theorem d_Mod_release_58 : decode (mB m_Mod_release) 58 = .ok (.iaload, 1) := by decide +kernel
theorem d_Mod_release_59 : decode (mB m_Mod_release) 59 = .ok (.bipush 20, 2) := by decide +kernel
theorem d_Mod_release_61 : decode (mB m_Mod_release) 61 = .ok (.ishr, 1) := by decide +kernel
theorem d_Mod_release_62 : decode (mB m_Mod_release) 62 = .ok (.bipush 16, 2) := by decide +kernel
theorem d_Mod_release_64 : decode (mB m_Mod_release) 64 = .ok (.iload_n 1, 1) := by decide +kernel
theorem d_Mod_release_65 : decode (mB m_Mod_release) 65 = .ok (.iadd, 1) := by decide +kernel
theorem d_Mod_release_66 : decode (mB m_Mod_release) 66 = .ok (.if_icmp .eq 9, 3) := by decide +kernel
theorem d_Mod_release_69 : decode (mB m_Mod_release) 69 = .ok (.iinc 4 1, 3) := by decide +kernel
theorem d_Mod_release_72 : decode (mB m_Mod_release) 72 = .ok (.goto (-20), 3) := by decide +kernel
theorem d_Mod_release_75 : decode (mB m_Mod_release) 75 = .ok (.aload_n 0, 1) := by decide +kernel
theorem d_Mod_release_76 : decode (mB m_Mod_release) 76 = .ok (.getfield 66, 3) := by decide +kernel
theorem d_Mod_release_79 : decode (mB m_Mod_release) 79 = .ok (.iload 4, 2) := by decide +kernel
theorem d_Mod_release_81 : decode (mB m_Mod_release) 81 = .ok (.iaload, 1) := by decide +kernel
theorem d_Mod_release_82 : decode (mB m_Mod_release) 82 = .ok (.istore 5, 2) := by decide +kernel
theorem d_Mod_release_84 : decode (mB m_Mod_release) 84 = .ok (.aload_n 0, 1) := by decide +kernel
theorem d_Mod_release_85 : decode (mB m_Mod_release) 85 = .ok (.iload 4, 2) := by decide +kernel
theorem d_Mod_release_87 : decode (mB m_Mod_release) 87 = .ok (.invokevirtual 219, 3) := by decide +kernel
theorem d_Mod_release_90 : decode (mB m_Mod_release) 90 = .ok (.aload_n 0, 1) := by decide +kernel
theorem d_Mod_release_91 : decode (mB m_Mod_release) 91 = .ok (.iload_n 1, 1) := by decide +kernel
theorem d_Mod_release_92 : decode (mB m_Mod_release) 92 = .ok (.iload 5, 2) := by decide +kernel
theorem d_Mod_release_94 : decode (mB m_Mod_release) 94 = .ok (.bipush 12, 2) := by decide +kernel
theorem d_Mod_release_96 : decode (mB m_Mod_release) 96 = .ok (.ishr, 1) := by decide +kernel
theorem d_Mod_release_97 : decode (mB m_Mod_release) 97 = .ok (.sipush 255, 3) := by decide +kernel
theorem d_Mod_release_100 : decode (mB m_Mod_release) 100 = .ok (.iand, 1) := by decide +kernel
theorem d_Mod_release_101 : decode (mB m_Mod_release) 101 = .ok (.iload 5, 2) := by decide +kernel
theorem d_Mod_release_103 : decode (mB m_Mod_release) 103 = .ok (.iconst 4, 1) := by decide +kernel
theorem d_Mod_release_104 : decode (mB m_Mod_release) 104 = .ok (.ishr, 1) := by decide +kernel
theorem d_Mod_release_105 : decode (mB m_Mod_release) 105 = .ok (.bipush 127, 2) := by decide +kernel
theorem d_Mod_release_107 : decode (mB m_Mod_release) 107 = .ok (.iand, 1) := by decide +kernel
theorem d_Mod_release_108 : decode (mB m_Mod_release) 108 = .ok (.iload 5, 2) := by decide +kernel
theorem d_Mod_release_110 : decode (mB m_Mod_release) 110 = .ok (.bipush 15, 2) := by decide +kernel
theorem d_Mod_release_112 : decode (mB m_Mod_release) 112 = .ok (.iand, 1) := by decide +kernel
theorem d_Mod_release_113 : decode (mB m_Mod_release) 113 = .ok (.iconst 1, 1) := by decide +kernel
theorem d_Mod_release_114 : decode (mB m_Mod_release) 114 = .ok (.isub, 1) := by decide +kernel
theorem d_Mod_release_115 : decode (mB m_Mod_release) 115 = .ok (.invokevirtual 198, 3) := by decide +kernel
theorem d_Mod_release_118 : decode (mB m_Mod_release) 118 = .ok (.iinc 3 1, 3) := by decide +kernel
theorem d_Mod_release_121 : decode (mB m_Mod_release) 121 = .ok (.goto (-77), 3) := by decide +kernel
theorem d_Mod_release_124 : decode (mB m_Mod_release) 124 = .ok (.return_, 1) := by decide +kernel
theorem cal_Mod_release : mCal m_Mod_release 1 := ⟨Or.inl ⟨rfl, goodIn_r _ [1268] (by decide +kernel) (by decide +kernel)⟩, by decide, ⟨by decide, by decide⟩, by decide +kernel⟩
abbrev b_Mod_behind : ByteArray := prog_13_method_33_code
def m_Mod_behind : Mi := (⟨"TextNetModel", "behind", "(I)I"⟩, b_Mod_behind, 1, (some .int), [])
theorem d_Mod_behind_0 : decode (mB m_Mod_behind) 0 = .ok (.iload_n 0, 1) := by decide +kernel
theorem d_Mod_behind_1 : decode (mB m_Mod_behind) 1 = .ok (.sipush 999, 3) := by decide +kernel
theorem d_Mod_behind_4 : decode (mB m_Mod_behind) 4 = .ok (.irem, 1) := by decide +kernel
theorem d_Mod_behind_5 : decode (mB m_Mod_behind) 5 = .ok (.iconst 1, 1) := by decide +kernel
theorem d_Mod_behind_6 : decode (mB m_Mod_behind) 6 = .ok (.iadd, 1) := by decide +kernel
theorem d_Mod_behind_7 : decode (mB m_Mod_behind) 7 = .ok (.ireturn, 1) := by decide +kernel
theorem cal_Mod_behind : mCal m_Mod_behind 1 := ⟨Or.inl ⟨rfl, goodIn_r _ [1224] (by decide +kernel) (by decide +kernel)⟩, by decide, ⟨by decide, by decide⟩, by decide +kernel⟩
abbrev b_Mod_lay : ByteArray := prog_13_method_34_code
def m_Mod_lay : Mi := (⟨"TextNetModel", "lay", "(IIIII)V"⟩, b_Mod_lay, 6, none, [])
theorem d_Mod_lay_0 : decode (mB m_Mod_lay) 0 = .ok (.aload_n 0, 1) := by decide +kernel
theorem d_Mod_lay_1 : decode (mB m_Mod_lay) 1 = .ok (.getfield 81, 3) := by decide +kernel
theorem d_Mod_lay_4 : decode (mB m_Mod_lay) 4 = .ok (.iload_n 1, 1) := by decide +kernel
theorem d_Mod_lay_5 : decode (mB m_Mod_lay) 5 = .ok (.iaload, 1) := by decide +kernel
theorem d_Mod_lay_6 : decode (mB m_Mod_lay) 6 = .ok (.sipush 200, 3) := by decide +kernel
theorem d_Mod_lay_9 : decode (mB m_Mod_lay) 9 = .ok (.if_icmp .ne 4, 3) := by decide +kernel
theorem d_Mod_lay_12 : decode (mB m_Mod_lay) 12 = .ok (.return_, 1) := by decide +kernel
theorem d_Mod_lay_13 : decode (mB m_Mod_lay) 13 = .ok (.aload_n 0, 1) := by decide +kernel
theorem d_Mod_lay_14 : decode (mB m_Mod_lay) 14 = .ok (.getfield 84, 3) := by decide +kernel
theorem d_Mod_lay_17 : decode (mB m_Mod_lay) 17 = .ok (.sipush 200, 3) := by decide +kernel
theorem d_Mod_lay_20 : decode (mB m_Mod_lay) 20 = .ok (.iload_n 1, 1) := by decide +kernel
theorem d_Mod_lay_21 : decode (mB m_Mod_lay) 21 = .ok (.imul, 1) := by decide +kernel
theorem d_Mod_lay_22 : decode (mB m_Mod_lay) 22 = .ok (.aload_n 0, 1) := by decide +kernel
theorem d_Mod_lay_23 : decode (mB m_Mod_lay) 23 = .ok (.getfield 81, 3) := by decide +kernel
theorem d_Mod_lay_26 : decode (mB m_Mod_lay) 26 = .ok (.iload_n 1, 1) := by decide +kernel
theorem d_Mod_lay_27 : decode (mB m_Mod_lay) 27 = .ok (.iaload, 1) := by decide +kernel
theorem d_Mod_lay_28 : decode (mB m_Mod_lay) 28 = .ok (.iadd, 1) := by decide +kernel
theorem d_Mod_lay_29 : decode (mB m_Mod_lay) 29 = .ok (.iload_n 2, 1) := by decide +kernel
theorem d_Mod_lay_30 : decode (mB m_Mod_lay) 30 = .ok (.bipush 28, 2) := by decide +kernel
theorem d_Mod_lay_32 : decode (mB m_Mod_lay) 32 = .ok (.ishl, 1) := by decide +kernel
theorem d_Mod_lay_33 : decode (mB m_Mod_lay) 33 = .ok (.iload_n 3, 1) := by decide +kernel
theorem d_Mod_lay_34 : decode (mB m_Mod_lay) 34 = .ok (.bipush 16, 2) := by decide +kernel
theorem d_Mod_lay_36 : decode (mB m_Mod_lay) 36 = .ok (.ishl, 1) := by decide +kernel
theorem d_Mod_lay_37 : decode (mB m_Mod_lay) 37 = .ok (.ior, 1) := by decide +kernel
theorem d_Mod_lay_38 : decode (mB m_Mod_lay) 38 = .ok (.iload 4, 2) := by decide +kernel
theorem d_Mod_lay_40 : decode (mB m_Mod_lay) 40 = .ok (.bipush 8, 2) := by decide +kernel
theorem d_Mod_lay_42 : decode (mB m_Mod_lay) 42 = .ok (.ishl, 1) := by decide +kernel
theorem d_Mod_lay_43 : decode (mB m_Mod_lay) 43 = .ok (.ior, 1) := by decide +kernel
theorem d_Mod_lay_44 : decode (mB m_Mod_lay) 44 = .ok (.iload 5, 2) := by decide +kernel
theorem d_Mod_lay_46 : decode (mB m_Mod_lay) 46 = .ok (.ior, 1) := by decide +kernel
theorem d_Mod_lay_47 : decode (mB m_Mod_lay) 47 = .ok (.iastore, 1) := by decide +kernel
theorem d_Mod_lay_48 : decode (mB m_Mod_lay) 48 = .ok (.aload_n 0, 1) := by decide +kernel
theorem d_Mod_lay_49 : decode (mB m_Mod_lay) 49 = .ok (.getfield 81, 3) := by decide +kernel
theorem d_Mod_lay_52 : decode (mB m_Mod_lay) 52 = .ok (.iload_n 1, 1) := by decide +kernel
theorem d_Mod_lay_53 : decode (mB m_Mod_lay) 53 = .ok (.dup2, 1) := by decide +kernel
theorem d_Mod_lay_54 : decode (mB m_Mod_lay) 54 = .ok (.iaload, 1) := by decide +kernel
theorem d_Mod_lay_55 : decode (mB m_Mod_lay) 55 = .ok (.iconst 1, 1) := by decide +kernel
theorem d_Mod_lay_56 : decode (mB m_Mod_lay) 56 = .ok (.iadd, 1) := by decide +kernel
theorem d_Mod_lay_57 : decode (mB m_Mod_lay) 57 = .ok (.iastore, 1) := by decide +kernel
theorem d_Mod_lay_58 : decode (mB m_Mod_lay) 58 = .ok (.return_, 1) := by decide +kernel
theorem cal_Mod_lay : mCal m_Mod_lay 5 := ⟨Or.inl ⟨rfl, goodIn_r _ [1236] (by decide +kernel) (by decide +kernel)⟩, by decide, ⟨by decide, by decide⟩, by decide +kernel⟩
abbrev b_Mod_layKept : ByteArray := prog_13_method_35_code
def m_Mod_layKept : Mi := (⟨"TextNetModel", "layKept", "(II)V"⟩, b_Mod_layKept, 4, none, [])
theorem d_Mod_layKept_0 : decode (mB m_Mod_layKept) 0 = .ok (.aload_n 0, 1) := by decide +kernel
theorem d_Mod_layKept_1 : decode (mB m_Mod_layKept) 1 = .ok (.getfield 69, 3) := by decide +kernel
theorem d_Mod_layKept_4 : decode (mB m_Mod_layKept) 4 = .ok (.iload_n 1, 1) := by decide +kernel
theorem d_Mod_layKept_5 : decode (mB m_Mod_layKept) 5 = .ok (.iaload, 1) := by decide +kernel
theorem d_Mod_layKept_6 : decode (mB m_Mod_layKept) 6 = .ok (.iconst 1, 1) := by decide +kernel
theorem d_Mod_layKept_7 : decode (mB m_Mod_layKept) 7 = .ok (.isub, 1) := by decide +kernel
theorem d_Mod_layKept_8 : decode (mB m_Mod_layKept) 8 = .ok (.aload_n 0, 1) := by decide +kernel
theorem d_Mod_layKept_9 : decode (mB m_Mod_layKept) 9 = .ok (.getfield 75, 3) := by decide +kernel
theorem d_Mod_layKept_12 : decode (mB m_Mod_layKept) 12 = .ok (.iload_n 1, 1) := by decide +kernel
theorem d_Mod_layKept_13 : decode (mB m_Mod_layKept) 13 = .ok (.iaload, 1) := by decide +kernel
theorem d_Mod_layKept_14 : decode (mB m_Mod_layKept) 14 = .ok (.isub, 1) := by decide +kernel
theorem d_Mod_layKept_15 : decode (mB m_Mod_layKept) 15 = .ok (.iload_n 2, 1) := by decide +kernel
theorem d_Mod_layKept_16 : decode (mB m_Mod_layKept) 16 = .ok (.iadd, 1) := by decide +kernel
theorem d_Mod_layKept_17 : decode (mB m_Mod_layKept) 17 = .ok (.sipush 999, 3) := by decide +kernel
theorem d_Mod_layKept_20 : decode (mB m_Mod_layKept) 20 = .ok (.iadd, 1) := by decide +kernel
theorem d_Mod_layKept_21 : decode (mB m_Mod_layKept) 21 = .ok (.sipush 999, 3) := by decide +kernel
theorem d_Mod_layKept_24 : decode (mB m_Mod_layKept) 24 = .ok (.irem, 1) := by decide +kernel
theorem d_Mod_layKept_25 : decode (mB m_Mod_layKept) 25 = .ok (.iconst 1, 1) := by decide +kernel
theorem d_Mod_layKept_26 : decode (mB m_Mod_layKept) 26 = .ok (.iadd, 1) := by decide +kernel
theorem d_Mod_layKept_27 : decode (mB m_Mod_layKept) 27 = .ok (.istore_n 3, 1) := by decide +kernel
theorem d_Mod_layKept_28 : decode (mB m_Mod_layKept) 28 = .ok (.aload_n 0, 1) := by decide +kernel
theorem d_Mod_layKept_29 : decode (mB m_Mod_layKept) 29 = .ok (.iload_n 1, 1) := by decide +kernel
theorem d_Mod_layKept_30 : decode (mB m_Mod_layKept) 30 = .ok (.iconst 0, 1) := by decide +kernel
theorem d_Mod_layKept_31 : decode (mB m_Mod_layKept) 31 = .ok (.iload_n 3, 1) := by decide +kernel
theorem d_Mod_layKept_32 : decode (mB m_Mod_layKept) 32 = .ok (.aload_n 0, 1) := by decide +kernel
theorem d_Mod_layKept_33 : decode (mB m_Mod_layKept) 33 = .ok (.getfield 78, 3) := by decide +kernel
theorem d_Mod_layKept_36 : decode (mB m_Mod_layKept) 36 = .ok (.bipush 20, 2) := by decide +kernel
theorem d_Mod_layKept_38 : decode (mB m_Mod_layKept) 38 = .ok (.iload_n 1, 1) := by decide +kernel
theorem d_Mod_layKept_39 : decode (mB m_Mod_layKept) 39 = .ok (.imul, 1) := by decide +kernel
theorem d_Mod_layKept_40 : decode (mB m_Mod_layKept) 40 = .ok (.iload_n 2, 1) := by decide +kernel
theorem d_Mod_layKept_41 : decode (mB m_Mod_layKept) 41 = .ok (.iadd, 1) := by decide +kernel
theorem d_Mod_layKept_42 : decode (mB m_Mod_layKept) 42 = .ok (.iaload, 1) := by decide +kernel
theorem d_Mod_layKept_43 : decode (mB m_Mod_layKept) 43 = .ok (.bipush 8, 2) := by decide +kernel
theorem d_Mod_layKept_45 : decode (mB m_Mod_layKept) 45 = .ok (.ishr, 1) := by decide +kernel
theorem d_Mod_layKept_46 : decode (mB m_Mod_layKept) 46 = .ok (.aload_n 0, 1) := by decide +kernel
theorem d_Mod_layKept_47 : decode (mB m_Mod_layKept) 47 = .ok (.getfield 78, 3) := by decide +kernel
theorem d_Mod_layKept_50 : decode (mB m_Mod_layKept) 50 = .ok (.bipush 20, 2) := by decide +kernel
theorem d_Mod_layKept_52 : decode (mB m_Mod_layKept) 52 = .ok (.iload_n 1, 1) := by decide +kernel
theorem d_Mod_layKept_53 : decode (mB m_Mod_layKept) 53 = .ok (.imul, 1) := by decide +kernel
theorem d_Mod_layKept_54 : decode (mB m_Mod_layKept) 54 = .ok (.iload_n 2, 1) := by decide +kernel
theorem d_Mod_layKept_55 : decode (mB m_Mod_layKept) 55 = .ok (.iadd, 1) := by decide +kernel
theorem d_Mod_layKept_56 : decode (mB m_Mod_layKept) 56 = .ok (.iaload, 1) := by decide +kernel
theorem d_Mod_layKept_57 : decode (mB m_Mod_layKept) 57 = .ok (.sipush 255, 3) := by decide +kernel
theorem d_Mod_layKept_60 : decode (mB m_Mod_layKept) 60 = .ok (.iand, 1) := by decide +kernel
theorem d_Mod_layKept_61 : decode (mB m_Mod_layKept) 61 = .ok (.invokevirtual 223, 3) := by decide +kernel
theorem d_Mod_layKept_64 : decode (mB m_Mod_layKept) 64 = .ok (.aload_n 0, 1) := by decide +kernel
theorem d_Mod_layKept_65 : decode (mB m_Mod_layKept) 65 = .ok (.getfield 87, 3) := by decide +kernel
theorem d_Mod_layKept_68 : decode (mB m_Mod_layKept) 68 = .ok (.iload_n 1, 1) := by decide +kernel
theorem d_Mod_layKept_69 : decode (mB m_Mod_layKept) 69 = .ok (.aload_n 0, 1) := by decide +kernel
theorem d_Mod_layKept_70 : decode (mB m_Mod_layKept) 70 = .ok (.getfield 227, 3) := by decide +kernel
theorem d_Mod_layKept_73 : decode (mB m_Mod_layKept) 73 = .ok (.iastore, 1) := by decide +kernel
theorem d_Mod_layKept_74 : decode (mB m_Mod_layKept) 74 = .ok (.return_, 1) := by decide +kernel
theorem cal_Mod_layKept : mCal m_Mod_layKept 2 := ⟨Or.inl ⟨rfl, goodIn_r _ [1232] (by decide +kernel) (by decide +kernel)⟩, by decide, ⟨by decide, by decide⟩, by decide +kernel⟩
abbrev b_Mod_among : ByteArray := prog_13_method_36_code
def m_Mod_among : Mi := (⟨"TextNetModel", "among", "(II)I"⟩, b_Mod_among, 4, (some .int), [])
theorem d_Mod_among_0 : decode (mB m_Mod_among) 0 = .ok (.iconst 0, 1) := by decide +kernel
theorem d_Mod_among_1 : decode (mB m_Mod_among) 1 = .ok (.istore_n 3, 1) := by decide +kernel
theorem d_Mod_among_2 : decode (mB m_Mod_among) 2 = .ok (.iload_n 3, 1) := by decide +kernel
theorem d_Mod_among_3 : decode (mB m_Mod_among) 3 = .ok (.aload_n 0, 1) := by decide +kernel
theorem d_Mod_among_4 : decode (mB m_Mod_among) 4 = .ok (.getfield 75, 3) := by decide +kernel
theorem d_Mod_among_7 : decode (mB m_Mod_among) 7 = .ok (.iload_n 1, 1) := by decide +kernel
theorem d_Mod_among_8 : decode (mB m_Mod_among) 8 = .ok (.iaload, 1) := by decide +kernel
theorem d_Mod_among_9 : decode (mB m_Mod_among) 9 = .ok (.if_icmp .ge 42, 3) := by decide +kernel
theorem d_Mod_among_12 : decode (mB m_Mod_among) 12 = .ok (.aload_n 0, 1) := by decide +kernel
theorem d_Mod_among_13 : decode (mB m_Mod_among) 13 = .ok (.getfield 69, 3) := by decide +kernel
theorem d_Mod_among_16 : decode (mB m_Mod_among) 16 = .ok (.iload_n 1, 1) := by decide +kernel
theorem d_Mod_among_17 : decode (mB m_Mod_among) 17 = .ok (.iaload, 1) := by decide +kernel
theorem d_Mod_among_18 : decode (mB m_Mod_among) 18 = .ok (.iconst 1, 1) := by decide +kernel
theorem d_Mod_among_19 : decode (mB m_Mod_among) 19 = .ok (.isub, 1) := by decide +kernel
theorem d_Mod_among_20 : decode (mB m_Mod_among) 20 = .ok (.aload_n 0, 1) := by decide +kernel
theorem d_Mod_among_21 : decode (mB m_Mod_among) 21 = .ok (.getfield 75, 3) := by decide +kernel
theorem d_Mod_among_24 : decode (mB m_Mod_among) 24 = .ok (.iload_n 1, 1) := by decide +kernel
theorem d_Mod_among_25 : decode (mB m_Mod_among) 25 = .ok (.iaload, 1) := by decide +kernel
theorem d_Mod_among_26 : decode (mB m_Mod_among) 26 = .ok (.isub, 1) := by decide +kernel
theorem d_Mod_among_27 : decode (mB m_Mod_among) 27 = .ok (.iload_n 3, 1) := by decide +kernel
theorem d_Mod_among_28 : decode (mB m_Mod_among) 28 = .ok (.iadd, 1) := by decide +kernel
theorem d_Mod_among_29 : decode (mB m_Mod_among) 29 = .ok (.sipush 999, 3) := by decide +kernel
theorem d_Mod_among_32 : decode (mB m_Mod_among) 32 = .ok (.iadd, 1) := by decide +kernel
theorem d_Mod_among_33 : decode (mB m_Mod_among) 33 = .ok (.sipush 999, 3) := by decide +kernel
theorem d_Mod_among_36 : decode (mB m_Mod_among) 36 = .ok (.irem, 1) := by decide +kernel
theorem d_Mod_among_37 : decode (mB m_Mod_among) 37 = .ok (.iconst 1, 1) := by decide +kernel
theorem d_Mod_among_38 : decode (mB m_Mod_among) 38 = .ok (.iadd, 1) := by decide +kernel
theorem d_Mod_among_39 : decode (mB m_Mod_among) 39 = .ok (.iload_n 2, 1) := by decide +kernel
theorem d_Mod_among_40 : decode (mB m_Mod_among) 40 = .ok (.if_icmp .ne 5, 3) := by decide +kernel
theorem d_Mod_among_43 : decode (mB m_Mod_among) 43 = .ok (.iload_n 3, 1) := by decide +kernel
theorem d_Mod_among_44 : decode (mB m_Mod_among) 44 = .ok (.ireturn, 1) := by decide +kernel
theorem d_Mod_among_45 : decode (mB m_Mod_among) 45 = .ok (.iinc 3 1, 3) := by decide +kernel
theorem d_Mod_among_48 : decode (mB m_Mod_among) 48 = .ok (.goto (-46), 3) := by decide +kernel
theorem d_Mod_among_51 : decode (mB m_Mod_among) 51 = .ok (.iconst (-1), 1) := by decide +kernel
theorem d_Mod_among_52 : decode (mB m_Mod_among) 52 = .ok (.ireturn, 1) := by decide +kernel
theorem cal_Mod_among : mCal m_Mod_among 2 := ⟨Or.inl ⟨rfl, goodIn_r _ [1252] (by decide +kernel) (by decide +kernel)⟩, by decide, ⟨by decide, by decide⟩, by decide +kernel⟩
abbrev b_Mod_isChannel : ByteArray := prog_13_method_37_code
def m_Mod_isChannel : Mi := (⟨"TextNetModel", "isChannel", "(II)Z"⟩, b_Mod_isChannel, 3, (some .boolean), [])
theorem d_Mod_isChannel_0 : decode (mB m_Mod_isChannel) 0 = .ok (.aload_n 0, 1) := by decide +kernel
theorem d_Mod_isChannel_1 : decode (mB m_Mod_isChannel) 1 = .ok (.aload_n 0, 1) := by decide +kernel
theorem d_Mod_isChannel_2 : decode (mB m_Mod_isChannel) 2 = .ok (.iload_n 1, 1) := by decide +kernel
theorem d_Mod_isChannel_3 : decode (mB m_Mod_isChannel) 3 = .ok (.invokevirtual 119, 3) := by decide +kernel
theorem d_Mod_isChannel_6 : decode (mB m_Mod_isChannel) 6 = .ok (.ifCond .eq 16, 3) := by decide +kernel
theorem d_Mod_isChannel_9 : decode (mB m_Mod_isChannel) 9 = .ok (.iload_n 2, 1) := by decide +kernel
theorem d_Mod_isChannel_10 : decode (mB m_Mod_isChannel) 10 = .ok (.iconst 0, 1) := by decide +kernel
theorem d_Mod_isChannel_11 : decode (mB m_Mod_isChannel) 11 = .ok (.iconst 1, 1) := by decide +kernel
theorem d_Mod_isChannel_12 : decode (mB m_Mod_isChannel) 12 = .ok (.invokestatic 115, 3) := by decide +kernel
theorem d_Mod_isChannel_15 : decode (mB m_Mod_isChannel) 15 = .ok (.ifCond .eq 7, 3) := by decide +kernel
theorem d_Mod_isChannel_18 : decode (mB m_Mod_isChannel) 18 = .ok (.iconst 0, 1) := by decide +kernel
theorem d_Mod_isChannel_19 : decode (mB m_Mod_isChannel) 19 = .ok (.goto 4, 3) := by decide +kernel
theorem d_Mod_isChannel_22 : decode (mB m_Mod_isChannel) 22 = .ok (.iconst 1, 1) := by decide +kernel
theorem d_Mod_isChannel_23 : decode (mB m_Mod_isChannel) 23 = .ok (.putfield 111, 3) := by decide +kernel
theorem d_Mod_isChannel_26 : decode (mB m_Mod_isChannel) 26 = .ok (.aload_n 0, 1) := by decide +kernel
theorem d_Mod_isChannel_27 : decode (mB m_Mod_isChannel) 27 = .ok (.getfield 111, 3) := by decide +kernel
theorem d_Mod_isChannel_30 : decode (mB m_Mod_isChannel) 30 = .ok (.ifCond .ne 7, 3) := by decide +kernel
theorem d_Mod_isChannel_33 : decode (mB m_Mod_isChannel) 33 = .ok (.iconst 1, 1) := by decide +kernel
theorem d_Mod_isChannel_34 : decode (mB m_Mod_isChannel) 34 = .ok (.goto 4, 3) := by decide +kernel
theorem d_Mod_isChannel_37 : decode (mB m_Mod_isChannel) 37 = .ok (.iconst 0, 1) := by decide +kernel
theorem d_Mod_isChannel_38 : decode (mB m_Mod_isChannel) 38 = .ok (.ireturn, 1) := by decide +kernel
theorem cal_Mod_isChannel : mCal m_Mod_isChannel 2 := ⟨Or.inl ⟨rfl, goodIn_r _ [1221] (by decide +kernel) (by decide +kernel)⟩, by decide, ⟨by decide, by decide⟩, by decide +kernel⟩
abbrev b_Mod_send : ByteArray := prog_13_method_38_code
def m_Mod_send : Mi := (⟨"TextNetModel", "send", "(II)I"⟩, b_Mod_send, 6, (some .int), [])
theorem d_Mod_send_0 : decode (mB m_Mod_send) 0 = .ok (.aload_n 0, 1) := by decide +kernel
theorem d_Mod_send_1 : decode (mB m_Mod_send) 1 = .ok (.iload_n 1, 1) := by decide +kernel
theorem d_Mod_send_2 : decode (mB m_Mod_send) 2 = .ok (.iload_n 2, 1) := by decide +kernel
theorem d_Mod_send_3 : decode (mB m_Mod_send) 3 = .ok (.invokevirtual 230, 3) := by decide +kernel
theorem d_Mod_send_6 : decode (mB m_Mod_send) 6 = .ok (.ifCond .ne 5, 3) := by decide +kernel
theorem d_Mod_send_9 : decode (mB m_Mod_send) 9 = .ok (.iconst 0, 1) := by decide +kernel
theorem d_Mod_send_10 : decode (mB m_Mod_send) 10 = .ok (.ireturn, 1) := by decide +kernel
theorem d_Mod_send_11 : decode (mB m_Mod_send) 11 = .ok (.iconst 2, 1) := by decide +kernel
theorem d_Mod_send_12 : decode (mB m_Mod_send) 12 = .ok (.iload_n 1, 1) := by decide +kernel
theorem d_Mod_send_13 : decode (mB m_Mod_send) 13 = .ok (.imul, 1) := by decide +kernel
theorem d_Mod_send_14 : decode (mB m_Mod_send) 14 = .ok (.iload_n 2, 1) := by decide +kernel
theorem d_Mod_send_15 : decode (mB m_Mod_send) 15 = .ok (.iadd, 1) := by decide +kernel
theorem d_Mod_send_16 : decode (mB m_Mod_send) 16 = .ok (.istore_n 3, 1) := by decide +kernel
theorem d_Mod_send_17 : decode (mB m_Mod_send) 17 = .ok (.iconst (-1), 1) := by decide +kernel
theorem d_Mod_send_18 : decode (mB m_Mod_send) 18 = .ok (.istore 4, 2) := by decide +kernel
theorem d_Mod_send_20 : decode (mB m_Mod_send) 20 = .ok (.iconst 0, 1) := by decide +kernel
theorem d_Mod_send_21 : decode (mB m_Mod_send) 21 = .ok (.istore 5, 2) := by decide +kernel
theorem d_Mod_send_23 : decode (mB m_Mod_send) 23 = .ok (.iload 5, 2) := by decide +kernel
theorem d_Mod_send_25 : decode (mB m_Mod_send) 25 = .ok (.aload_n 0, 1) := by decide +kernel
theorem d_Mod_send_26 : decode (mB m_Mod_send) 26 = .ok (.getfield 202, 3) := by decide +kernel
theorem d_Mod_send_29 : decode (mB m_Mod_send) 29 = .ok (.if_icmp .ge 77, 3) := by decide +kernel
theorem d_Mod_send_32 : decode (mB m_Mod_send) 32 = .ok (.aload_n 0, 1) := by decide +kernel
theorem d_Mod_send_33 : decode (mB m_Mod_send) 33 = .ok (.getfield 66, 3) := by decide +kernel
theorem d_Mod_send_36 : decode (mB m_Mod_send) 36 = .ok (.iload 5, 2) := by decide +kernel
theorem d_Mod_send_38 : decode (mB m_Mod_send) 38 = .ok (.iaload, 1) := by decide +kernel
theorem d_Mod_send_39 : decode (mB m_Mod_send) 39 = .ok (.bipush 20, 2) := by decide +kernel
theorem d_Mod_send_41 : decode (mB m_Mod_send) 41 = .ok (.ishr, 1) := by decide +kernel
theorem d_Mod_send_42 : decode (mB m_Mod_send) 42 = .ok (.iload_n 3, 1) := by decide +kernel
theorem d_Mod_send_43 : decode (mB m_Mod_send) 43 = .ok (.if_icmp .eq 6, 3) := by decide +kernel
theorem d_Mod_send_46 : decode (mB m_Mod_send) 46 = .ok (.goto 54, 3) := by decide +kernel
theorem d_Mod_send_49 : decode (mB m_Mod_send) 49 = .ok (.iload 4, 2) := by decide +kernel
theorem d_Mod_send_51 : decode (mB m_Mod_send) 51 = .ok (.iconst (-1), 1) := by decide +kernel
theorem d_Mod_send_52 : decode (mB m_Mod_send) 52 = .ok (.if_icmp .eq 44, 3) := by decide +kernel
theorem d_Mod_send_55 : decode (mB m_Mod_send) 55 = .ok (.aload_n 0, 1) := by decide +kernel
theorem d_Mod_send_56 : decode (mB m_Mod_send) 56 = .ok (.getfield 54, 3) := by decide +kernel
theorem d_Mod_send_59 : decode (mB m_Mod_send) 59 = .ok (.aload_n 0, 1) := by decide +kernel
theorem d_Mod_send_60 : decode (mB m_Mod_send) 60 = .ok (.getfield 66, 3) := by decide +kernel
theorem d_Mod_send_63 : decode (mB m_Mod_send) 63 = .ok (.iload 5, 2) := by decide +kernel
theorem d_Mod_send_65 : decode (mB m_Mod_send) 65 = .ok (.iaload, 1) := by decide +kernel
theorem d_Mod_send_66 : decode (mB m_Mod_send) 66 = .ok (.bipush 12, 2) := by decide +kernel
theorem d_Mod_send_68 : decode (mB m_Mod_send) 68 = .ok (.ishr, 1) := by decide +kernel
theorem d_Mod_send_69 : decode (mB m_Mod_send) 69 = .ok (.sipush 255, 3) := by decide +kernel
theorem d_Mod_send_72 : decode (mB m_Mod_send) 72 = .ok (.iand, 1) := by decide +kernel
theorem d_Mod_send_73 : decode (mB m_Mod_send) 73 = .ok (.iaload, 1) := by decide +kernel
theorem d_Mod_send_74 : decode (mB m_Mod_send) 74 = .ok (.aload_n 0, 1) := by decide +kernel
theorem d_Mod_send_75 : decode (mB m_Mod_send) 75 = .ok (.getfield 54, 3) := by decide +kernel
theorem d_Mod_send_78 : decode (mB m_Mod_send) 78 = .ok (.aload_n 0, 1) := by decide +kernel
theorem d_Mod_send_79 : decode (mB m_Mod_send) 79 = .ok (.getfield 66, 3) := by decide +kernel
theorem d_Mod_send_82 : decode (mB m_Mod_send) 82 = .ok (.iload 4, 2) := by decide +kernel
theorem d_Mod_send_84 : decode (mB m_Mod_send) 84 = .ok (.iaload, 1) := by decide +kernel
theorem d_Mod_send_85 : decode (mB m_Mod_send) 85 = .ok (.bipush 12, 2) := by decide +kernel
theorem d_Mod_send_87 : decode (mB m_Mod_send) 87 = .ok (.ishr, 1) := by decide +kernel
theorem d_Mod_send_88 : decode (mB m_Mod_send) 88 = .ok (.sipush 255, 3) := by decide +kernel
theorem d_Mod_send_91 : decode (mB m_Mod_send) 91 = .ok (.iand, 1) := by decide +kernel
theorem d_Mod_send_92 : decode (mB m_Mod_send) 92 = .ok (.iaload, 1) := by decide +kernel
theorem d_Mod_send_93 : decode (mB m_Mod_send) 93 = .ok (.if_icmp .ge 7, 3) := by decide +kernel
theorem d_Mod_send_96 : decode (mB m_Mod_send) 96 = .ok (.iload 5, 2) := by decide +kernel
theorem d_Mod_send_98 : decode (mB m_Mod_send) 98 = .ok (.istore 4, 2) := by decide +kernel
theorem d_Mod_send_100 : decode (mB m_Mod_send) 100 = .ok (.iinc 5 1, 3) := by decide +kernel
theorem d_Mod_send_103 : decode (mB m_Mod_send) 103 = .ok (.goto (-80), 3) := by decide +kernel
theorem d_Mod_send_106 : decode (mB m_Mod_send) 106 = .ok (.iload 4, 2) := by decide +kernel
theorem d_Mod_send_108 : decode (mB m_Mod_send) 108 = .ok (.iconst (-1), 1) := by decide +kernel
theorem d_Mod_send_109 : decode (mB m_Mod_send) 109 = .ok (.if_icmp .eq 23, 3) := by decide +kernel
theorem d_Mod_send_112 : decode (mB m_Mod_send) 112 = .ok (.aload_n 0, 1) := by decide +kernel
theorem d_Mod_send_113 : decode (mB m_Mod_send) 113 = .ok (.getfield 75, 3) := by decide +kernel
theorem d_Mod_send_116 : decode (mB m_Mod_send) 116 = .ok (.iload_n 3, 1) := by decide +kernel
theorem d_Mod_send_117 : decode (mB m_Mod_send) 117 = .ok (.iaload, 1) := by decide +kernel
theorem d_Mod_send_118 : decode (mB m_Mod_send) 118 = .ok (.bipush 20, 2) := by decide +kernel
theorem d_Mod_send_120 : decode (mB m_Mod_send) 120 = .ok (.if_icmp .eq 12, 3) := by decide +kernel
theorem d_Mod_send_123 : decode (mB m_Mod_send) 123 = .ok (.aload_n 0, 1) := by decide +kernel
theorem d_Mod_send_124 : decode (mB m_Mod_send) 124 = .ok (.getfield 29, 3) := by decide +kernel
theorem d_Mod_send_127 : decode (mB m_Mod_send) 127 = .ok (.iload_n 1, 1) := by decide +kernel
theorem d_Mod_send_128 : decode (mB m_Mod_send) 128 = .ok (.baload, 1) := by decide +kernel
theorem d_Mod_send_129 : decode (mB m_Mod_send) 129 = .ok (.ifCond .ne 5, 3) := by decide +kernel
theorem d_Mod_send_132 : decode (mB m_Mod_send) 132 = .ok (.iconst 0, 1) := by decide +kernel
theorem d_Mod_send_133 : decode (mB m_Mod_send) 133 = .ok (.ireturn, 1) := by decide +kernel
theorem d_Mod_send_134 : decode (mB m_Mod_send) 134 = .ok (.aload_n 0, 1) := by decide +kernel
theorem d_Mod_send_135 : decode (mB m_Mod_send) 135 = .ok (.getfield 69, 3) := by decide +kernel
theorem d_Mod_send_138 : decode (mB m_Mod_send) 138 = .ok (.iload_n 3, 1) := by decide +kernel
theorem d_Mod_send_139 : decode (mB m_Mod_send) 139 = .ok (.iaload, 1) := by decide +kernel
theorem d_Mod_send_140 : decode (mB m_Mod_send) 140 = .ok (.istore 5, 2) := by decide +kernel
theorem d_Mod_send_142 : decode (mB m_Mod_send) 142 = .ok (.aload_n 0, 1) := by decide +kernel
theorem d_Mod_send_143 : decode (mB m_Mod_send) 143 = .ok (.getfield 78, 3) := by decide +kernel
theorem d_Mod_send_146 : decode (mB m_Mod_send) 146 = .ok (.bipush 20, 2) := by decide +kernel
theorem d_Mod_send_148 : decode (mB m_Mod_send) 148 = .ok (.iload_n 3, 1) := by decide +kernel
theorem d_Mod_send_149 : decode (mB m_Mod_send) 149 = .ok (.imul, 1) := by decide +kernel
theorem d_Mod_send_150 : decode (mB m_Mod_send) 150 = .ok (.aload_n 0, 1) := by decide +kernel
theorem d_Mod_send_151 : decode (mB m_Mod_send) 151 = .ok (.getfield 75, 3) := by decide +kernel
theorem d_Mod_send_154 : decode (mB m_Mod_send) 154 = .ok (.iload_n 3, 1) := by decide +kernel
theorem d_Mod_send_155 : decode (mB m_Mod_send) 155 = .ok (.iaload, 1) := by decide +kernel
theorem d_Mod_send_156 : decode (mB m_Mod_send) 156 = .ok (.iadd, 1) := by decide +kernel
theorem d_Mod_send_157 : decode (mB m_Mod_send) 157 = .ok (.aload_n 0, 1) := by decide +kernel
theorem d_Mod_send_158 : decode (mB m_Mod_send) 158 = .ok (.getfield 66, 3) := by decide +kernel
theorem d_Mod_send_161 : decode (mB m_Mod_send) 161 = .ok (.iload 4, 2) := by decide +kernel
theorem d_Mod_send_163 : decode (mB m_Mod_send) 163 = .ok (.iaload, 1) := by decide +kernel
theorem d_Mod_send_164 : decode (mB m_Mod_send) 164 = .ok (.bipush 12, 2) := by decide +kernel
theorem d_Mod_send_166 : decode (mB m_Mod_send) 166 = .ok (.ishr, 1) := by decide +kernel
theorem d_Mod_send_167 : decode (mB m_Mod_send) 167 = .ok (.sipush 255, 3) := by decide +kernel
theorem d_Mod_send_170 : decode (mB m_Mod_send) 170 = .ok (.iand, 1) := by decide +kernel
theorem d_Mod_send_171 : decode (mB m_Mod_send) 171 = .ok (.bipush 8, 2) := by decide +kernel
theorem d_Mod_send_173 : decode (mB m_Mod_send) 173 = .ok (.ishl, 1) := by decide +kernel
theorem d_Mod_send_174 : decode (mB m_Mod_send) 174 = .ok (.aload_n 0, 1) := by decide +kernel
theorem d_Mod_send_175 : decode (mB m_Mod_send) 175 = .ok (.getfield 66, 3) := by decide +kernel
theorem d_Mod_send_178 : decode (mB m_Mod_send) 178 = .ok (.iload 4, 2) := by decide +kernel
theorem d_Mod_send_180 : decode (mB m_Mod_send) 180 = .ok (.iaload, 1) := by decide +kernel
theorem d_Mod_send_181 : decode (mB m_Mod_send) 181 = .ok (.iconst 4, 1) := by decide +kernel
theorem d_Mod_send_182 : decode (mB m_Mod_send) 182 = .ok (.ishr, 1) := by decide +kernel
theorem d_Mod_send_183 : decode (mB m_Mod_send) 183 = .ok (.bipush 127, 2) := by decide +kernel
theorem d_Mod_send_185 : decode (mB m_Mod_send) 185 = .ok (.iand, 1) := by decide +kernel
theorem d_Mod_send_186 : decode (mB m_Mod_send) 186 = .ok (.ior, 1) := by decide +kernel
theorem d_Mod_send_187 : decode (mB m_Mod_send) 187 = .ok (.iastore, 1) := by decide +kernel
theorem d_Mod_send_188 : decode (mB m_Mod_send) 188 = .ok (.aload_n 0, 1) := by decide +kernel
theorem d_Mod_send_189 : decode (mB m_Mod_send) 189 = .ok (.getfield 75, 3) := by decide +kernel
theorem d_Mod_send_192 : decode (mB m_Mod_send) 192 = .ok (.iload_n 3, 1) := by decide +kernel
theorem d_Mod_send_193 : decode (mB m_Mod_send) 193 = .ok (.dup2, 1) := by decide +kernel
theorem d_Mod_send_194 : decode (mB m_Mod_send) 194 = .ok (.iaload, 1) := by decide +kernel
theorem d_Mod_send_195 : decode (mB m_Mod_send) 195 = .ok (.iconst 1, 1) := by decide +kernel
theorem d_Mod_send_196 : decode (mB m_Mod_send) 196 = .ok (.iadd, 1) := by decide +kernel
theorem d_Mod_send_197 : decode (mB m_Mod_send) 197 = .ok (.iastore, 1) := by decide +kernel
theorem d_Mod_send_198 : decode (mB m_Mod_send) 198 = .ok (.aload_n 0, 1) := by decide +kernel
theorem d_Mod_send_199 : decode (mB m_Mod_send) 199 = .ok (.getfield 69, 3) := by decide +kernel
theorem d_Mod_send_202 : decode (mB m_Mod_send) 202 = .ok (.iload_n 3, 1) := by decide +kernel
theorem d_Mod_send_203 : decode (mB m_Mod_send) 203 = .ok (.iload 5, 2) := by decide +kernel
theorem d_Mod_send_205 : decode (mB m_Mod_send) 205 = .ok (.invokestatic 233, 3) := by decide +kernel
theorem d_Mod_send_208 : decode (mB m_Mod_send) 208 = .ok (.iastore, 1) := by decide +kernel
theorem d_Mod_send_209 : decode (mB m_Mod_send) 209 = .ok (.aload_n 0, 1) := by decide +kernel
theorem d_Mod_send_210 : decode (mB m_Mod_send) 210 = .ok (.iload 4, 2) := by decide +kernel
theorem d_Mod_send_212 : decode (mB m_Mod_send) 212 = .ok (.invokevirtual 219, 3) := by decide +kernel
theorem d_Mod_send_215 : decode (mB m_Mod_send) 215 = .ok (.aload_n 0, 1) := by decide +kernel
theorem d_Mod_send_216 : decode (mB m_Mod_send) 216 = .ok (.iload_n 3, 1) := by decide +kernel
theorem d_Mod_send_217 : decode (mB m_Mod_send) 217 = .ok (.aload_n 0, 1) := by decide +kernel
theorem d_Mod_send_218 : decode (mB m_Mod_send) 218 = .ok (.getfield 75, 3) := by decide +kernel
theorem d_Mod_send_221 : decode (mB m_Mod_send) 221 = .ok (.iload_n 3, 1) := by decide +kernel
theorem d_Mod_send_222 : decode (mB m_Mod_send) 222 = .ok (.iaload, 1) := by decide +kernel
theorem d_Mod_send_223 : decode (mB m_Mod_send) 223 = .ok (.iconst 1, 1) := by decide +kernel
theorem d_Mod_send_224 : decode (mB m_Mod_send) 224 = .ok (.isub, 1) := by decide +kernel
theorem d_Mod_send_225 : decode (mB m_Mod_send) 225 = .ok (.invokevirtual 236, 3) := by decide +kernel
theorem d_Mod_send_228 : decode (mB m_Mod_send) 228 = .ok (.iload 5, 2) := by decide +kernel
theorem d_Mod_send_230 : decode (mB m_Mod_send) 230 = .ok (.ireturn, 1) := by decide +kernel
theorem cal_Mod_send : mCal m_Mod_send 2 := ⟨Or.inl ⟨rfl, goodIn_r _ [1217] (by decide +kernel) (by decide +kernel)⟩, by decide, ⟨by decide, by decide⟩, by decide +kernel⟩
abbrev b_Mod_takeFrame : ByteArray := prog_13_method_39_code
def m_Mod_takeFrame : Mi := (⟨"TextNetModel", "takeFrame", "(I)V"⟩, b_Mod_takeFrame, 3, none, [])
theorem d_Mod_takeFrame_0 : decode (mB m_Mod_takeFrame) 0 = .ok (.iconst 0, 1) := by decide +kernel
theorem d_Mod_takeFrame_1 : decode (mB m_Mod_takeFrame) 1 = .ok (.istore_n 2, 1) := by decide +kernel
theorem d_Mod_takeFrame_2 : decode (mB m_Mod_takeFrame) 2 = .ok (.iload_n 2, 1) := by decide +kernel
theorem d_Mod_takeFrame_3 : decode (mB m_Mod_takeFrame) 3 = .ok (.iconst 1, 1) := by decide +kernel
theorem d_Mod_takeFrame_4 : decode (mB m_Mod_takeFrame) 4 = .ok (.iadd, 1) := by decide +kernel
theorem d_Mod_takeFrame_5 : decode (mB m_Mod_takeFrame) 5 = .ok (.aload_n 0, 1) := by decide +kernel
theorem d_Mod_takeFrame_6 : decode (mB m_Mod_takeFrame) 6 = .ok (.getfield 81, 3) := by decide +kernel
theorem d_Mod_takeFrame_9 : decode (mB m_Mod_takeFrame) 9 = .ok (.iload_n 1, 1) := by decide +kernel
theorem d_Mod_takeFrame_10 : decode (mB m_Mod_takeFrame) 10 = .ok (.iaload, 1) := by decide +kernel
theorem d_Mod_takeFrame_11 : decode (mB m_Mod_takeFrame) 11 = .ok (.if_icmp .ge 35, 3) := by decide +kernel
theorem d_Mod_takeFrame_14 : decode (mB m_Mod_takeFrame) 14 = .ok (.aload_n 0, 1) := by decide +kernel
theorem d_Mod_takeFrame_15 : decode (mB m_Mod_takeFrame) 15 = .ok (.getfield 84, 3) := by decide +kernel
theorem d_Mod_takeFrame_18 : decode (mB m_Mod_takeFrame) 18 = .ok (.sipush 200, 3) := by decide +kernel
theorem d_Mod_takeFrame_21 : decode (mB m_Mod_takeFrame) 21 = .ok (.iload_n 1, 1) := by decide +kernel
theorem d_Mod_takeFrame_22 : decode (mB m_Mod_takeFrame) 22 = .ok (.imul, 1) := by decide +kernel
theorem d_Mod_takeFrame_23 : decode (mB m_Mod_takeFrame) 23 = .ok (.iload_n 2, 1) := by decide +kernel
theorem d_Mod_takeFrame_24 : decode (mB m_Mod_takeFrame) 24 = .ok (.iadd, 1) := by decide +kernel
theorem d_Mod_takeFrame_25 : decode (mB m_Mod_takeFrame) 25 = .ok (.aload_n 0, 1) := by decide +kernel
theorem d_Mod_takeFrame_26 : decode (mB m_Mod_takeFrame) 26 = .ok (.getfield 84, 3) := by decide +kernel
theorem d_Mod_takeFrame_29 : decode (mB m_Mod_takeFrame) 29 = .ok (.sipush 200, 3) := by decide +kernel
theorem d_Mod_takeFrame_32 : decode (mB m_Mod_takeFrame) 32 = .ok (.iload_n 1, 1) := by decide +kernel
theorem d_Mod_takeFrame_33 : decode (mB m_Mod_takeFrame) 33 = .ok (.imul, 1) := by decide +kernel
theorem d_Mod_takeFrame_34 : decode (mB m_Mod_takeFrame) 34 = .ok (.iload_n 2, 1) := by decide +kernel
theorem d_Mod_takeFrame_35 : decode (mB m_Mod_takeFrame) 35 = .ok (.iadd, 1) := by decide +kernel
theorem d_Mod_takeFrame_36 : decode (mB m_Mod_takeFrame) 36 = .ok (.iconst 1, 1) := by decide +kernel
theorem d_Mod_takeFrame_37 : decode (mB m_Mod_takeFrame) 37 = .ok (.iadd, 1) := by decide +kernel
theorem d_Mod_takeFrame_38 : decode (mB m_Mod_takeFrame) 38 = .ok (.iaload, 1) := by decide +kernel
theorem d_Mod_takeFrame_39 : decode (mB m_Mod_takeFrame) 39 = .ok (.iastore, 1) := by decide +kernel
theorem d_Mod_takeFrame_40 : decode (mB m_Mod_takeFrame) 40 = .ok (.iinc 2 1, 3) := by decide +kernel
theorem d_Mod_takeFrame_43 : decode (mB m_Mod_takeFrame) 43 = .ok (.goto (-41), 3) := by decide +kernel
theorem d_Mod_takeFrame_46 : decode (mB m_Mod_takeFrame) 46 = .ok (.aload_n 0, 1) := by decide +kernel
theorem d_Mod_takeFrame_47 : decode (mB m_Mod_takeFrame) 47 = .ok (.getfield 81, 3) := by decide +kernel
theorem d_Mod_takeFrame_50 : decode (mB m_Mod_takeFrame) 50 = .ok (.iload_n 1, 1) := by decide +kernel
theorem d_Mod_takeFrame_51 : decode (mB m_Mod_takeFrame) 51 = .ok (.dup2, 1) := by decide +kernel
theorem d_Mod_takeFrame_52 : decode (mB m_Mod_takeFrame) 52 = .ok (.iaload, 1) := by decide +kernel
theorem d_Mod_takeFrame_53 : decode (mB m_Mod_takeFrame) 53 = .ok (.iconst 1, 1) := by decide +kernel
theorem d_Mod_takeFrame_54 : decode (mB m_Mod_takeFrame) 54 = .ok (.isub, 1) := by decide +kernel
theorem d_Mod_takeFrame_55 : decode (mB m_Mod_takeFrame) 55 = .ok (.iastore, 1) := by decide +kernel
theorem d_Mod_takeFrame_56 : decode (mB m_Mod_takeFrame) 56 = .ok (.return_, 1) := by decide +kernel
theorem cal_Mod_takeFrame : mCal m_Mod_takeFrame 1 := ⟨Or.inl ⟨rfl, goodIn_r _ [1244] (by decide +kernel) (by decide +kernel)⟩, by decide, ⟨by decide, by decide⟩, by decide +kernel⟩
abbrev b_Mod_carry : ByteArray := prog_13_method_40_code
def m_Mod_carry : Mi := (⟨"TextNetModel", "carry", "(II)I"⟩, b_Mod_carry, 10, (some .int), [])
theorem d_Mod_carry_0 : decode (mB m_Mod_carry) 0 = .ok (.aload_n 0, 1) := by decide +kernel
theorem d_Mod_carry_1 : decode (mB m_Mod_carry) 1 = .ok (.iload_n 1, 1) := by decide +kernel
theorem d_Mod_carry_2 : decode (mB m_Mod_carry) 2 = .ok (.iload_n 2, 1) := by decide +kernel
theorem d_Mod_carry_3 : decode (mB m_Mod_carry) 3 = .ok (.invokevirtual 230, 3) := by decide +kernel
theorem d_Mod_carry_6 : decode (mB m_Mod_carry) 6 = .ok (.ifCond .eq 16, 3) := by decide +kernel
theorem d_Mod_carry_9 : decode (mB m_Mod_carry) 9 = .ok (.aload_n 0, 1) := by decide +kernel
theorem d_Mod_carry_10 : decode (mB m_Mod_carry) 10 = .ok (.getfield 81, 3) := by decide +kernel
theorem d_Mod_carry_13 : decode (mB m_Mod_carry) 13 = .ok (.iconst 2, 1) := by decide +kernel
theorem d_Mod_carry_14 : decode (mB m_Mod_carry) 14 = .ok (.iload_n 1, 1) := by decide +kernel
theorem d_Mod_carry_15 : decode (mB m_Mod_carry) 15 = .ok (.imul, 1) := by decide +kernel
theorem d_Mod_carry_16 : decode (mB m_Mod_carry) 16 = .ok (.iload_n 2, 1) := by decide +kernel
theorem d_Mod_carry_17 : decode (mB m_Mod_carry) 17 = .ok (.iadd, 1) := by decide +kernel
theorem d_Mod_carry_18 : decode (mB m_Mod_carry) 18 = .ok (.iaload, 1) := by decide +kernel
theorem d_Mod_carry_19 : decode (mB m_Mod_carry) 19 = .ok (.ifCond .ne 5, 3) := by decide +kernel
theorem d_Mod_carry_22 : decode (mB m_Mod_carry) 22 = .ok (.iconst 0, 1) := by decide +kernel
theorem d_Mod_carry_23 : decode (mB m_Mod_carry) 23 = .ok (.ireturn, 1) := by decide +kernel
theorem d_Mod_carry_24 : decode (mB m_Mod_carry) 24 = .ok (.iconst 2, 1) := by decide +kernel
theorem d_Mod_carry_25 : decode (mB m_Mod_carry) 25 = .ok (.iload_n 1, 1) := by decide +kernel
theorem d_Mod_carry_26 : decode (mB m_Mod_carry) 26 = .ok (.imul, 1) := by decide +kernel
theorem d_Mod_carry_27 : decode (mB m_Mod_carry) 27 = .ok (.iload_n 2, 1) := by decide +kernel
theorem d_Mod_carry_28 : decode (mB m_Mod_carry) 28 = .ok (.iadd, 1) := by decide +kernel
theorem d_Mod_carry_29 : decode (mB m_Mod_carry) 29 = .ok (.istore_n 3, 1) := by decide +kernel
theorem d_Mod_carry_30 : decode (mB m_Mod_carry) 30 = .ok (.iconst 2, 1) := by decide +kernel
theorem d_Mod_carry_31 : decode (mB m_Mod_carry) 31 = .ok (.iload_n 1, 1) := by decide +kernel
theorem d_Mod_carry_32 : decode (mB m_Mod_carry) 32 = .ok (.imul, 1) := by decide +kernel
theorem d_Mod_carry_33 : decode (mB m_Mod_carry) 33 = .ok (.iconst 1, 1) := by decide +kernel
theorem d_Mod_carry_34 : decode (mB m_Mod_carry) 34 = .ok (.iadd, 1) := by decide +kernel
theorem d_Mod_carry_35 : decode (mB m_Mod_carry) 35 = .ok (.iload_n 2, 1) := by decide +kernel
theorem d_Mod_carry_36 : decode (mB m_Mod_carry) 36 = .ok (.isub, 1) := by decide +kernel
theorem d_Mod_carry_37 : decode (mB m_Mod_carry) 37 = .ok (.istore 4, 2) := by decide +kernel
theorem d_Mod_carry_39 : decode (mB m_Mod_carry) 39 = .ok (.aload_n 0, 1) := by decide +kernel
theorem d_Mod_carry_40 : decode (mB m_Mod_carry) 40 = .ok (.getfield 84, 3) := by decide +kernel
theorem d_Mod_carry_43 : decode (mB m_Mod_carry) 43 = .ok (.sipush 200, 3) := by decide +kernel
theorem d_Mod_carry_46 : decode (mB m_Mod_carry) 46 = .ok (.iload_n 3, 1) := by decide +kernel
theorem d_Mod_carry_47 : decode (mB m_Mod_carry) 47 = .ok (.imul, 1) := by decide +kernel
theorem d_Mod_carry_48 : decode (mB m_Mod_carry) 48 = .ok (.iaload, 1) := by decide +kernel
theorem d_Mod_carry_49 : decode (mB m_Mod_carry) 49 = .ok (.istore 5, 2) := by decide +kernel
theorem d_Mod_carry_51 : decode (mB m_Mod_carry) 51 = .ok (.aload_n 0, 1) := by decide +kernel
theorem d_Mod_carry_52 : decode (mB m_Mod_carry) 52 = .ok (.iload_n 3, 1) := by decide +kernel
theorem d_Mod_carry_53 : decode (mB m_Mod_carry) 53 = .ok (.invokevirtual 240, 3) := by decide +kernel
theorem d_Mod_carry_56 : decode (mB m_Mod_carry) 56 = .ok (.iload 5, 2) := by decide +kernel
theorem d_Mod_carry_58 : decode (mB m_Mod_carry) 58 = .ok (.bipush 16, 2) := by decide +kernel
theorem d_Mod_carry_60 : decode (mB m_Mod_carry) 60 = .ok (.ishr, 1) := by decide +kernel
theorem d_Mod_carry_61 : decode (mB m_Mod_carry) 61 = .ok (.sipush 4095, 3) := by decide +kernel
theorem d_Mod_carry_64 : decode (mB m_Mod_carry) 64 = .ok (.iand, 1) := by decide +kernel
theorem d_Mod_carry_65 : decode (mB m_Mod_carry) 65 = .ok (.istore 6, 2) := by decide +kernel
theorem d_Mod_carry_67 : decode (mB m_Mod_carry) 67 = .ok (.iload 5, 2) := by decide +kernel
theorem d_Mod_carry_69 : decode (mB m_Mod_carry) 69 = .ok (.bipush 28, 2) := by decide +kernel
theorem d_Mod_carry_71 : decode (mB m_Mod_carry) 71 = .ok (.ishr, 1) := by decide +kernel
theorem d_Mod_carry_72 : decode (mB m_Mod_carry) 72 = .ok (.istore 7, 2) := by decide +kernel
theorem d_Mod_carry_74 : decode (mB m_Mod_carry) 74 = .ok (.iload 7, 2) := by decide +kernel
theorem d_Mod_carry_76 : decode (mB m_Mod_carry) 76 = .ok (.ifCond .ne 14, 3) := by decide +kernel
theorem d_Mod_carry_79 : decode (mB m_Mod_carry) 79 = .ok (.aload_n 0, 1) := by decide +kernel
theorem d_Mod_carry_80 : decode (mB m_Mod_carry) 80 = .ok (.iload_n 1, 1) := by decide +kernel
theorem d_Mod_carry_81 : decode (mB m_Mod_carry) 81 = .ok (.iload_n 3, 1) := by decide +kernel
theorem d_Mod_carry_82 : decode (mB m_Mod_carry) 82 = .ok (.iload 4, 2) := by decide +kernel
theorem d_Mod_carry_84 : decode (mB m_Mod_carry) 84 = .ok (.iload 5, 2) := by decide +kernel
theorem d_Mod_carry_86 : decode (mB m_Mod_carry) 86 = .ok (.invokevirtual 243, 3) := by decide +kernel
theorem d_Mod_carry_89 : decode (mB m_Mod_carry) 89 = .ok (.ireturn, 1) := by decide +kernel
theorem d_Mod_carry_90 : decode (mB m_Mod_carry) 90 = .ok (.aload_n 0, 1) := by decide +kernel
theorem d_Mod_carry_91 : decode (mB m_Mod_carry) 91 = .ok (.iload 4, 2) := by decide +kernel
theorem d_Mod_carry_93 : decode (mB m_Mod_carry) 93 = .ok (.iload 6, 2) := by decide +kernel
theorem d_Mod_carry_95 : decode (mB m_Mod_carry) 95 = .ok (.invokevirtual 247, 3) := by decide +kernel
theorem d_Mod_carry_98 : decode (mB m_Mod_carry) 98 = .ok (.istore 8, 2) := by decide +kernel
theorem d_Mod_carry_100 : decode (mB m_Mod_carry) 100 = .ok (.iload 7, 2) := by decide +kernel
theorem d_Mod_carry_102 : decode (mB m_Mod_carry) 102 = .ok (.iconst 1, 1) := by decide +kernel
theorem d_Mod_carry_103 : decode (mB m_Mod_carry) 103 = .ok (.if_icmp .ne 27, 3) := by decide +kernel
theorem d_Mod_carry_106 : decode (mB m_Mod_carry) 106 = .ok (.iconst 0, 1) := by decide +kernel
theorem d_Mod_carry_107 : decode (mB m_Mod_carry) 107 = .ok (.istore 9, 2) := by decide +kernel
theorem d_Mod_carry_109 : decode (mB m_Mod_carry) 109 = .ok (.iload 9, 2) := by decide +kernel
theorem d_Mod_carry_111 : decode (mB m_Mod_carry) 111 = .ok (.iload 8, 2) := by decide +kernel
theorem d_Mod_carry_113 : decode (mB m_Mod_carry) 113 = .ok (.if_icmp .gt 15, 3) := by decide +kernel
theorem d_Mod_carry_116 : decode (mB m_Mod_carry) 116 = .ok (.aload_n 0, 1) := by decide +kernel
theorem d_Mod_carry_117 : decode (mB m_Mod_carry) 117 = .ok (.iload 4, 2) := by decide +kernel
theorem d_Mod_carry_119 : decode (mB m_Mod_carry) 119 = .ok (.invokevirtual 251, 3) := by decide +kernel
theorem d_Mod_carry_122 : decode (mB m_Mod_carry) 122 = .ok (.iinc 9 1, 3) := by decide +kernel
theorem d_Mod_carry_125 : decode (mB m_Mod_carry) 125 = .ok (.goto (-16), 3) := by decide +kernel
theorem d_Mod_carry_128 : decode (mB m_Mod_carry) 128 = .ok (.iconst 4, 1) := by decide +kernel
theorem d_Mod_carry_129 : decode (mB m_Mod_carry) 129 = .ok (.ireturn, 1) := by decide +kernel
theorem d_Mod_carry_130 : decode (mB m_Mod_carry) 130 = .ok (.iload 8, 2) := by decide +kernel
theorem d_Mod_carry_132 : decode (mB m_Mod_carry) 132 = .ok (.istore 9, 2) := by decide +kernel
theorem d_Mod_carry_134 : decode (mB m_Mod_carry) 134 = .ok (.iload 9, 2) := by decide +kernel
theorem d_Mod_carry_136 : decode (mB m_Mod_carry) 136 = .ok (.ifCond .lt 29, 3) := by decide +kernel
theorem d_Mod_carry_139 : decode (mB m_Mod_carry) 139 = .ok (.iload 9, 2) := by decide +kernel
theorem d_Mod_carry_141 : decode (mB m_Mod_carry) 141 = .ok (.aload_n 0, 1) := by decide +kernel
theorem d_Mod_carry_142 : decode (mB m_Mod_carry) 142 = .ok (.getfield 75, 3) := by decide +kernel
theorem d_Mod_carry_145 : decode (mB m_Mod_carry) 145 = .ok (.iload 4, 2) := by decide +kernel
theorem d_Mod_carry_147 : decode (mB m_Mod_carry) 147 = .ok (.iaload, 1) := by decide +kernel
theorem d_Mod_carry_148 : decode (mB m_Mod_carry) 148 = .ok (.if_icmp .ge 17, 3) := by decide +kernel
theorem d_Mod_carry_151 : decode (mB m_Mod_carry) 151 = .ok (.aload_n 0, 1) := by decide +kernel
theorem d_Mod_carry_152 : decode (mB m_Mod_carry) 152 = .ok (.iload 4, 2) := by decide +kernel
theorem d_Mod_carry_154 : decode (mB m_Mod_carry) 154 = .ok (.iload 9, 2) := by decide +kernel
theorem d_Mod_carry_156 : decode (mB m_Mod_carry) 156 = .ok (.invokevirtual 236, 3) := by decide +kernel
theorem d_Mod_carry_159 : decode (mB m_Mod_carry) 159 = .ok (.iinc 9 1, 3) := by decide +kernel
theorem d_Mod_carry_162 : decode (mB m_Mod_carry) 162 = .ok (.goto (-28), 3) := by decide +kernel
theorem d_Mod_carry_165 : decode (mB m_Mod_carry) 165 = .ok (.iconst 5, 1) := by decide +kernel
theorem d_Mod_carry_166 : decode (mB m_Mod_carry) 166 = .ok (.ireturn, 1) := by decide +kernel
theorem cal_Mod_carry : mCal m_Mod_carry 2 := ⟨Or.inl ⟨rfl, goodIn_r _ [1240] (by decide +kernel) (by decide +kernel)⟩, by decide, ⟨by decide, by decide⟩, by decide +kernel⟩
abbrev b_Mod_free : ByteArray := prog_13_method_41_code
def m_Mod_free : Mi := (⟨"TextNetModel", "free", "(I)V"⟩, b_Mod_free, 3, none, [])
theorem d_Mod_free_0 : decode (mB m_Mod_free) 0 = .ok (.iconst 0, 1) := by decide +kernel
theorem d_Mod_free_1 : decode (mB m_Mod_free) 1 = .ok (.istore_n 2, 1) := by decide +kernel
theorem d_Mod_free_2 : decode (mB m_Mod_free) 2 = .ok (.iload_n 2, 1) := by decide +kernel
theorem d_Mod_free_3 : decode (mB m_Mod_free) 3 = .ok (.iconst 1, 1) := by decide +kernel
theorem d_Mod_free_4 : decode (mB m_Mod_free) 4 = .ok (.iadd, 1) := by decide +kernel
theorem d_Mod_free_5 : decode (mB m_Mod_free) 5 = .ok (.aload_n 0, 1) := by decide +kernel
theorem d_Mod_free_6 : decode (mB m_Mod_free) 6 = .ok (.getfield 75, 3) := by decide +kernel
theorem d_Mod_free_9 : decode (mB m_Mod_free) 9 = .ok (.iload_n 1, 1) := by decide +kernel
theorem d_Mod_free_10 : decode (mB m_Mod_free) 10 = .ok (.iaload, 1) := by decide +kernel
theorem d_Mod_free_11 : decode (mB m_Mod_free) 11 = .ok (.if_icmp .ge 33, 3) := by decide +kernel
theorem d_Mod_free_14 : decode (mB m_Mod_free) 14 = .ok (.aload_n 0, 1) := by decide +kernel
theorem d_Mod_free_15 : decode (mB m_Mod_free) 15 = .ok (.getfield 78, 3) := by decide +kernel
theorem d_Mod_free_18 : decode (mB m_Mod_free) 18 = .ok (.bipush 20, 2) := by decide +kernel
theorem d_Mod_free_20 : decode (mB m_Mod_free) 20 = .ok (.iload_n 1, 1) := by decide +kernel
theorem d_Mod_free_21 : decode (mB m_Mod_free) 21 = .ok (.imul, 1) := by decide +kernel
theorem d_Mod_free_22 : decode (mB m_Mod_free) 22 = .ok (.iload_n 2, 1) := by decide +kernel
theorem d_Mod_free_23 : decode (mB m_Mod_free) 23 = .ok (.iadd, 1) := by decide +kernel
theorem d_Mod_free_24 : decode (mB m_Mod_free) 24 = .ok (.aload_n 0, 1) := by decide +kernel
theorem d_Mod_free_25 : decode (mB m_Mod_free) 25 = .ok (.getfield 78, 3) := by decide +kernel
theorem d_Mod_free_28 : decode (mB m_Mod_free) 28 = .ok (.bipush 20, 2) := by decide +kernel
theorem d_Mod_free_30 : decode (mB m_Mod_free) 30 = .ok (.iload_n 1, 1) := by decide +kernel
theorem d_Mod_free_31 : decode (mB m_Mod_free) 31 = .ok (.imul, 1) := by decide +kernel
theorem d_Mod_free_32 : decode (mB m_Mod_free) 32 = .ok (.iload_n 2, 1) := by decide +kernel
theorem d_Mod_free_33 : decode (mB m_Mod_free) 33 = .ok (.iadd, 1) := by decide +kernel
theorem d_Mod_free_34 : decode (mB m_Mod_free) 34 = .ok (.iconst 1, 1) := by decide +kernel
theorem d_Mod_free_35 : decode (mB m_Mod_free) 35 = .ok (.iadd, 1) := by decide +kernel
theorem d_Mod_free_36 : decode (mB m_Mod_free) 36 = .ok (.iaload, 1) := by decide +kernel
theorem d_Mod_free_37 : decode (mB m_Mod_free) 37 = .ok (.iastore, 1) := by decide +kernel
theorem d_Mod_free_38 : decode (mB m_Mod_free) 38 = .ok (.iinc 2 1, 3) := by decide +kernel
theorem d_Mod_free_41 : decode (mB m_Mod_free) 41 = .ok (.goto (-39), 3) := by decide +kernel
theorem d_Mod_free_44 : decode (mB m_Mod_free) 44 = .ok (.aload_n 0, 1) := by decide +kernel
theorem d_Mod_free_45 : decode (mB m_Mod_free) 45 = .ok (.getfield 75, 3) := by decide +kernel
theorem d_Mod_free_48 : decode (mB m_Mod_free) 48 = .ok (.iload_n 1, 1) := by decide +kernel
theorem d_Mod_free_49 : decode (mB m_Mod_free) 49 = .ok (.dup2, 1) := by decide +kernel
theorem d_Mod_free_50 : decode (mB m_Mod_free) 50 = .ok (.iaload, 1) := by decide +kernel
theorem d_Mod_free_51 : decode (mB m_Mod_free) 51 = .ok (.iconst 1, 1) := by decide +kernel
theorem d_Mod_free_52 : decode (mB m_Mod_free) 52 = .ok (.isub, 1) := by decide +kernel
theorem d_Mod_free_53 : decode (mB m_Mod_free) 53 = .ok (.iastore, 1) := by decide +kernel
theorem d_Mod_free_54 : decode (mB m_Mod_free) 54 = .ok (.return_, 1) := by decide +kernel
theorem cal_Mod_free : mCal m_Mod_free 1 := ⟨Or.inl ⟨rfl, goodIn_r _ [1256] (by decide +kernel) (by decide +kernel)⟩, by decide, ⟨by decide, by decide⟩, by decide +kernel⟩
abbrev b_Mod_message : ByteArray := prog_13_method_42_code
def m_Mod_message : Mi := (⟨"TextNetModel", "message", "(IIII)I"⟩, b_Mod_message, 8, (some .int), [])
theorem d_Mod_message_0 : decode (mB m_Mod_message) 0 = .ok (.iload 4, 2) := by decide +kernel
theorem d_Mod_message_2 : decode (mB m_Mod_message) 2 = .ok (.bipush 16, 2) := by decide +kernel
theorem d_Mod_message_4 : decode (mB m_Mod_message) 4 = .ok (.ishr, 1) := by decide +kernel
theorem d_Mod_message_5 : decode (mB m_Mod_message) 5 = .ok (.sipush 4095, 3) := by decide +kernel
theorem d_Mod_message_8 : decode (mB m_Mod_message) 8 = .ok (.iand, 1) := by decide +kernel
theorem d_Mod_message_9 : decode (mB m_Mod_message) 9 = .ok (.istore 5, 2) := by decide +kernel
theorem d_Mod_message_11 : decode (mB m_Mod_message) 11 = .ok (.aload_n 0, 1) := by decide +kernel
theorem d_Mod_message_12 : decode (mB m_Mod_message) 12 = .ok (.getfield 72, 3) := by decide +kernel
theorem d_Mod_message_15 : decode (mB m_Mod_message) 15 = .ok (.iload_n 2, 1) := by decide +kernel
theorem d_Mod_message_16 : decode (mB m_Mod_message) 16 = .ok (.iaload, 1) := by decide +kernel
theorem d_Mod_message_17 : decode (mB m_Mod_message) 17 = .ok (.istore 6, 2) := by decide +kernel
theorem d_Mod_message_19 : decode (mB m_Mod_message) 19 = .ok (.iload 5, 2) := by decide +kernel
theorem d_Mod_message_21 : decode (mB m_Mod_message) 21 = .ok (.iload 6, 2) := by decide +kernel
theorem d_Mod_message_23 : decode (mB m_Mod_message) 23 = .ok (.isub, 1) := by decide +kernel
theorem d_Mod_message_24 : decode (mB m_Mod_message) 24 = .ok (.sipush 999, 3) := by decide +kernel
theorem d_Mod_message_27 : decode (mB m_Mod_message) 27 = .ok (.iadd, 1) := by decide +kernel
theorem d_Mod_message_28 : decode (mB m_Mod_message) 28 = .ok (.sipush 999, 3) := by decide +kernel
theorem d_Mod_message_31 : decode (mB m_Mod_message) 31 = .ok (.irem, 1) := by decide +kernel
theorem d_Mod_message_32 : decode (mB m_Mod_message) 32 = .ok (.istore 7, 2) := by decide +kernel
theorem d_Mod_message_34 : decode (mB m_Mod_message) 34 = .ok (.iload 7, 2) := by decide +kernel
theorem d_Mod_message_36 : decode (mB m_Mod_message) 36 = .ok (.ifCond .ne 66, 3) := by decide +kernel
theorem d_Mod_message_39 : decode (mB m_Mod_message) 39 = .ok (.aload_n 0, 1) := by decide +kernel
theorem d_Mod_message_40 : decode (mB m_Mod_message) 40 = .ok (.getfield 72, 3) := by decide +kernel
theorem d_Mod_message_43 : decode (mB m_Mod_message) 43 = .ok (.iload_n 2, 1) := by decide +kernel
theorem d_Mod_message_44 : decode (mB m_Mod_message) 44 = .ok (.iload 6, 2) := by decide +kernel
theorem d_Mod_message_46 : decode (mB m_Mod_message) 46 = .ok (.invokestatic 233, 3) := by decide +kernel
theorem d_Mod_message_49 : decode (mB m_Mod_message) 49 = .ok (.iastore, 1) := by decide +kernel
theorem d_Mod_message_50 : decode (mB m_Mod_message) 50 = .ok (.aload_n 0, 1) := by decide +kernel
theorem d_Mod_message_51 : decode (mB m_Mod_message) 51 = .ok (.iload_n 3, 1) := by decide +kernel
theorem d_Mod_message_52 : decode (mB m_Mod_message) 52 = .ok (.iconst 1, 1) := by decide +kernel
theorem d_Mod_message_53 : decode (mB m_Mod_message) 53 = .ok (.iload 5, 2) := by decide +kernel
theorem d_Mod_message_55 : decode (mB m_Mod_message) 55 = .ok (.iconst 0, 1) := by decide +kernel
theorem d_Mod_message_56 : decode (mB m_Mod_message) 56 = .ok (.iconst 0, 1) := by decide +kernel
theorem d_Mod_message_57 : decode (mB m_Mod_message) 57 = .ok (.invokevirtual 223, 3) := by decide +kernel
theorem d_Mod_message_60 : decode (mB m_Mod_message) 60 = .ok (.aload_n 0, 1) := by decide +kernel
theorem d_Mod_message_61 : decode (mB m_Mod_message) 61 = .ok (.iload_n 2, 1) := by decide +kernel
theorem d_Mod_message_62 : decode (mB m_Mod_message) 62 = .ok (.iconst 2, 1) := by decide +kernel
theorem d_Mod_message_63 : decode (mB m_Mod_message) 63 = .ok (.irem, 1) := by decide +kernel
theorem d_Mod_message_64 : decode (mB m_Mod_message) 64 = .ok (.ifCond .ne 12, 3) := by decide +kernel
theorem d_Mod_message_67 : decode (mB m_Mod_message) 67 = .ok (.aload_n 0, 1) := by decide +kernel
theorem d_Mod_message_68 : decode (mB m_Mod_message) 68 = .ok (.getfield 26, 3) := by decide +kernel
theorem d_Mod_message_71 : decode (mB m_Mod_message) 71 = .ok (.iload_n 1, 1) := by decide +kernel
theorem d_Mod_message_72 : decode (mB m_Mod_message) 72 = .ok (.iaload, 1) := by decide +kernel
theorem d_Mod_message_73 : decode (mB m_Mod_message) 73 = .ok (.goto 9, 3) := by decide +kernel
theorem d_Mod_message_76 : decode (mB m_Mod_message) 76 = .ok (.aload_n 0, 1) := by decide +kernel
theorem d_Mod_message_77 : decode (mB m_Mod_message) 77 = .ok (.getfield 23, 3) := by decide +kernel
theorem d_Mod_message_80 : decode (mB m_Mod_message) 80 = .ok (.iload_n 1, 1) := by decide +kernel
theorem d_Mod_message_81 : decode (mB m_Mod_message) 81 = .ok (.iaload, 1) := by decide +kernel
theorem d_Mod_message_82 : decode (mB m_Mod_message) 82 = .ok (.iload 4, 2) := by decide +kernel
theorem d_Mod_message_84 : decode (mB m_Mod_message) 84 = .ok (.bipush 8, 2) := by decide +kernel
theorem d_Mod_message_86 : decode (mB m_Mod_message) 86 = .ok (.ishr, 1) := by decide +kernel
theorem d_Mod_message_87 : decode (mB m_Mod_message) 87 = .ok (.sipush 255, 3) := by decide +kernel
theorem d_Mod_message_90 : decode (mB m_Mod_message) 90 = .ok (.iand, 1) := by decide +kernel
theorem d_Mod_message_91 : decode (mB m_Mod_message) 91 = .ok (.iload 4, 2) := by decide +kernel
theorem d_Mod_message_93 : decode (mB m_Mod_message) 93 = .ok (.bipush 127, 2) := by decide +kernel
theorem d_Mod_message_95 : decode (mB m_Mod_message) 95 = .ok (.iand, 1) := by decide +kernel
theorem d_Mod_message_96 : decode (mB m_Mod_message) 96 = .ok (.iload_n 1, 1) := by decide +kernel
theorem d_Mod_message_97 : decode (mB m_Mod_message) 97 = .ok (.invokevirtual 198, 3) := by decide +kernel
theorem d_Mod_message_100 : decode (mB m_Mod_message) 100 = .ok (.iconst 1, 1) := by decide +kernel
theorem d_Mod_message_101 : decode (mB m_Mod_message) 101 = .ok (.ireturn, 1) := by decide +kernel
theorem d_Mod_message_102 : decode (mB m_Mod_message) 102 = .ok (.iload 7, 2) := by decide +kernel
theorem d_Mod_message_104 : decode (mB m_Mod_message) 104 = .ok (.sipush 400, 3) := by decide +kernel
theorem d_Mod_message_107 : decode (mB m_Mod_message) 107 = .ok (.if_icmp .gt 58, 3) := by decide +kernel
theorem d_Mod_message_110 : decode (mB m_Mod_message) 110 = .ok (.aload_n 0, 1) := by decide +kernel
theorem d_Mod_message_111 : decode (mB m_Mod_message) 111 = .ok (.getfield 93, 3) := by decide +kernel
theorem d_Mod_message_114 : decode (mB m_Mod_message) 114 = .ok (.iload_n 2, 1) := by decide +kernel
theorem d_Mod_message_115 : decode (mB m_Mod_message) 115 = .ok (.baload, 1) := by decide +kernel
theorem d_Mod_message_116 : decode (mB m_Mod_message) 116 = .ok (.ifCond .eq 20, 3) := by decide +kernel
theorem d_Mod_message_119 : decode (mB m_Mod_message) 119 = .ok (.aload_n 0, 1) := by decide +kernel
theorem d_Mod_message_120 : decode (mB m_Mod_message) 120 = .ok (.getfield 227, 3) := by decide +kernel
theorem d_Mod_message_123 : decode (mB m_Mod_message) 123 = .ok (.aload_n 0, 1) := by decide +kernel
theorem d_Mod_message_124 : decode (mB m_Mod_message) 124 = .ok (.getfield 90, 3) := by decide +kernel
theorem d_Mod_message_127 : decode (mB m_Mod_message) 127 = .ok (.iload_n 2, 1) := by decide +kernel
theorem d_Mod_message_128 : decode (mB m_Mod_message) 128 = .ok (.iaload, 1) := by decide +kernel
theorem d_Mod_message_129 : decode (mB m_Mod_message) 129 = .ok (.isub, 1) := by decide +kernel
theorem d_Mod_message_130 : decode (mB m_Mod_message) 130 = .ok (.iconst 3, 1) := by decide +kernel
theorem d_Mod_message_131 : decode (mB m_Mod_message) 131 = .ok (.if_icmp .ge 5, 3) := by decide +kernel
theorem d_Mod_message_134 : decode (mB m_Mod_message) 134 = .ok (.iconst 2, 1) := by decide +kernel
theorem d_Mod_message_135 : decode (mB m_Mod_message) 135 = .ok (.ireturn, 1) := by decide +kernel
theorem d_Mod_message_136 : decode (mB m_Mod_message) 136 = .ok (.aload_n 0, 1) := by decide +kernel
theorem d_Mod_message_137 : decode (mB m_Mod_message) 137 = .ok (.getfield 93, 3) := by decide +kernel
theorem d_Mod_message_140 : decode (mB m_Mod_message) 140 = .ok (.iload_n 2, 1) := by decide +kernel
theorem d_Mod_message_141 : decode (mB m_Mod_message) 141 = .ok (.iconst 1, 1) := by decide +kernel
theorem d_Mod_message_142 : decode (mB m_Mod_message) 142 = .ok (.bastore, 1) := by decide +kernel
theorem d_Mod_message_143 : decode (mB m_Mod_message) 143 = .ok (.aload_n 0, 1) := by decide +kernel
theorem d_Mod_message_144 : decode (mB m_Mod_message) 144 = .ok (.getfield 90, 3) := by decide +kernel
theorem d_Mod_message_147 : decode (mB m_Mod_message) 147 = .ok (.iload_n 2, 1) := by decide +kernel
theorem d_Mod_message_148 : decode (mB m_Mod_message) 148 = .ok (.aload_n 0, 1) := by decide +kernel
theorem d_Mod_message_149 : decode (mB m_Mod_message) 149 = .ok (.getfield 227, 3) := by decide +kernel
theorem d_Mod_message_152 : decode (mB m_Mod_message) 152 = .ok (.iastore, 1) := by decide +kernel
theorem d_Mod_message_153 : decode (mB m_Mod_message) 153 = .ok (.aload_n 0, 1) := by decide +kernel
theorem d_Mod_message_154 : decode (mB m_Mod_message) 154 = .ok (.iload_n 3, 1) := by decide +kernel
theorem d_Mod_message_155 : decode (mB m_Mod_message) 155 = .ok (.iconst 2, 1) := by decide +kernel
theorem d_Mod_message_156 : decode (mB m_Mod_message) 156 = .ok (.iload 6, 2) := by decide +kernel
theorem d_Mod_message_158 : decode (mB m_Mod_message) 158 = .ok (.iconst 0, 1) := by decide +kernel
theorem d_Mod_message_159 : decode (mB m_Mod_message) 159 = .ok (.iconst 0, 1) := by decide +kernel
theorem d_Mod_message_160 : decode (mB m_Mod_message) 160 = .ok (.invokevirtual 223, 3) := by decide +kernel
theorem d_Mod_message_163 : decode (mB m_Mod_message) 163 = .ok (.iconst 2, 1) := by decide +kernel
theorem d_Mod_message_164 : decode (mB m_Mod_message) 164 = .ok (.ireturn, 1) := by decide +kernel
theorem d_Mod_message_165 : decode (mB m_Mod_message) 165 = .ok (.aload_n 0, 1) := by decide +kernel
theorem d_Mod_message_166 : decode (mB m_Mod_message) 166 = .ok (.iload_n 3, 1) := by decide +kernel
theorem d_Mod_message_167 : decode (mB m_Mod_message) 167 = .ok (.iconst 1, 1) := by decide +kernel
theorem d_Mod_message_168 : decode (mB m_Mod_message) 168 = .ok (.iload 6, 2) := by decide +kernel
theorem d_Mod_message_170 : decode (mB m_Mod_message) 170 = .ok (.sipush 997, 3) := by decide +kernel
theorem d_Mod_message_173 : decode (mB m_Mod_message) 173 = .ok (.iadd, 1) := by decide +kernel
theorem d_Mod_message_174 : decode (mB m_Mod_message) 174 = .ok (.sipush 999, 3) := by decide +kernel
theorem d_Mod_message_177 : decode (mB m_Mod_message) 177 = .ok (.irem, 1) := by decide +kernel
theorem d_Mod_message_178 : decode (mB m_Mod_message) 178 = .ok (.iconst 1, 1) := by decide +kernel
theorem d_Mod_message_179 : decode (mB m_Mod_message) 179 = .ok (.iadd, 1) := by decide +kernel
theorem d_Mod_message_180 : decode (mB m_Mod_message) 180 = .ok (.iconst 0, 1) := by decide +kernel
theorem d_Mod_message_181 : decode (mB m_Mod_message) 181 = .ok (.iconst 0, 1) := by decide +kernel
theorem d_Mod_message_182 : decode (mB m_Mod_message) 182 = .ok (.invokevirtual 223, 3) := by decide +kernel
theorem d_Mod_message_185 : decode (mB m_Mod_message) 185 = .ok (.iconst 3, 1) := by decide +kernel
theorem d_Mod_message_186 : decode (mB m_Mod_message) 186 = .ok (.ireturn, 1) := by decide +kernel
theorem cal_Mod_message : mCal m_Mod_message 4 := ⟨Or.inl ⟨rfl, goodIn_r _ [1248] (by decide +kernel) (by decide +kernel)⟩, by decide, ⟨by decide, by decide⟩, by decide +kernel⟩
