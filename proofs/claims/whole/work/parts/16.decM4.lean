abbrev b_Mod_disturb : ByteArray := prog_13_method_43_code
def m_Mod_disturb : Mi := (⟨"TextNetModel", "disturb", "(III)Z"⟩, b_Mod_disturb, 6, (some .boolean), [])
theorem d_Mod_disturb_0 : decode (mB m_Mod_disturb) 0 = .ok (.aload_n 0, 1) := by decide +kernel
theorem d_Mod_disturb_1 : decode (mB m_Mod_disturb) 1 = .ok (.iload_n 1, 1) := by decide +kernel
theorem d_Mod_disturb_2 : decode (mB m_Mod_disturb) 2 = .ok (.iload_n 2, 1) := by decide +kernel
theorem d_Mod_disturb_3 : decode (mB m_Mod_disturb) 3 = .ok (.invokevirtual 230, 3) := by decide +kernel
theorem d_Mod_disturb_6 : decode (mB m_Mod_disturb) 6 = .ok (.ifCond .ne 5, 3) := by decide +kernel
theorem d_Mod_disturb_9 : decode (mB m_Mod_disturb) 9 = .ok (.iconst 0, 1) := by decide +kernel
theorem d_Mod_disturb_10 : decode (mB m_Mod_disturb) 10 = .ok (.ireturn, 1) := by decide +kernel
theorem d_Mod_disturb_11 : decode (mB m_Mod_disturb) 11 = .ok (.aload_n 0, 1) := by decide +kernel
theorem d_Mod_disturb_12 : decode (mB m_Mod_disturb) 12 = .ok (.iload_n 3, 1) := by decide +kernel
theorem d_Mod_disturb_13 : decode (mB m_Mod_disturb) 13 = .ok (.iconst 0, 1) := by decide +kernel
theorem d_Mod_disturb_14 : decode (mB m_Mod_disturb) 14 = .ok (.iconst 1, 1) := by decide +kernel
theorem d_Mod_disturb_15 : decode (mB m_Mod_disturb) 15 = .ok (.invokestatic 115, 3) := by decide +kernel
theorem d_Mod_disturb_18 : decode (mB m_Mod_disturb) 18 = .ok (.ifCond .eq 7, 3) := by decide +kernel
theorem d_Mod_disturb_21 : decode (mB m_Mod_disturb) 21 = .ok (.iconst 0, 1) := by decide +kernel
theorem d_Mod_disturb_22 : decode (mB m_Mod_disturb) 22 = .ok (.goto 4, 3) := by decide +kernel
theorem d_Mod_disturb_25 : decode (mB m_Mod_disturb) 25 = .ok (.iconst 1, 1) := by decide +kernel
theorem d_Mod_disturb_26 : decode (mB m_Mod_disturb) 26 = .ok (.putfield 111, 3) := by decide +kernel
theorem d_Mod_disturb_29 : decode (mB m_Mod_disturb) 29 = .ok (.iconst 2, 1) := by decide +kernel
theorem d_Mod_disturb_30 : decode (mB m_Mod_disturb) 30 = .ok (.iload_n 1, 1) := by decide +kernel
theorem d_Mod_disturb_31 : decode (mB m_Mod_disturb) 31 = .ok (.imul, 1) := by decide +kernel
theorem d_Mod_disturb_32 : decode (mB m_Mod_disturb) 32 = .ok (.iload_n 2, 1) := by decide +kernel
theorem d_Mod_disturb_33 : decode (mB m_Mod_disturb) 33 = .ok (.iadd, 1) := by decide +kernel
theorem d_Mod_disturb_34 : decode (mB m_Mod_disturb) 34 = .ok (.istore 4, 2) := by decide +kernel
theorem d_Mod_disturb_36 : decode (mB m_Mod_disturb) 36 = .ok (.aload_n 0, 1) := by decide +kernel
theorem d_Mod_disturb_37 : decode (mB m_Mod_disturb) 37 = .ok (.getfield 111, 3) := by decide +kernel
theorem d_Mod_disturb_40 : decode (mB m_Mod_disturb) 40 = .ok (.ifCond .gt 31, 3) := by decide +kernel
theorem d_Mod_disturb_43 : decode (mB m_Mod_disturb) 43 = .ok (.aload_n 0, 1) := by decide +kernel
theorem d_Mod_disturb_44 : decode (mB m_Mod_disturb) 44 = .ok (.getfield 81, 3) := by decide +kernel
theorem d_Mod_disturb_47 : decode (mB m_Mod_disturb) 47 = .ok (.iload 4, 2) := by decide +kernel
theorem d_Mod_disturb_49 : decode (mB m_Mod_disturb) 49 = .ok (.iaload, 1) := by decide +kernel
theorem d_Mod_disturb_50 : decode (mB m_Mod_disturb) 50 = .ok (.ifCond .eq 21, 3) := by decide +kernel
theorem d_Mod_disturb_53 : decode (mB m_Mod_disturb) 53 = .ok (.iload_n 3, 1) := by decide +kernel
theorem d_Mod_disturb_54 : decode (mB m_Mod_disturb) 54 = .ok (.iconst 1, 1) := by decide +kernel
theorem d_Mod_disturb_55 : decode (mB m_Mod_disturb) 55 = .ok (.if_icmp .ne 18, 3) := by decide +kernel
theorem d_Mod_disturb_58 : decode (mB m_Mod_disturb) 58 = .ok (.aload_n 0, 1) := by decide +kernel
theorem d_Mod_disturb_59 : decode (mB m_Mod_disturb) 59 = .ok (.getfield 81, 3) := by decide +kernel
theorem d_Mod_disturb_62 : decode (mB m_Mod_disturb) 62 = .ok (.iload 4, 2) := by decide +kernel
theorem d_Mod_disturb_64 : decode (mB m_Mod_disturb) 64 = .ok (.iaload, 1) := by decide +kernel
theorem d_Mod_disturb_65 : decode (mB m_Mod_disturb) 65 = .ok (.sipush 200, 3) := by decide +kernel
theorem d_Mod_disturb_68 : decode (mB m_Mod_disturb) 68 = .ok (.if_icmp .ne 5, 3) := by decide +kernel
theorem d_Mod_disturb_71 : decode (mB m_Mod_disturb) 71 = .ok (.iconst 0, 1) := by decide +kernel
theorem d_Mod_disturb_72 : decode (mB m_Mod_disturb) 72 = .ok (.ireturn, 1) := by decide +kernel
theorem d_Mod_disturb_73 : decode (mB m_Mod_disturb) 73 = .ok (.iload_n 3, 1) := by decide +kernel
theorem d_Mod_disturb_74 : decode (mB m_Mod_disturb) 74 = .ok (.ifCond .ne 11, 3) := by decide +kernel
theorem d_Mod_disturb_77 : decode (mB m_Mod_disturb) 77 = .ok (.aload_n 0, 1) := by decide +kernel
theorem d_Mod_disturb_78 : decode (mB m_Mod_disturb) 78 = .ok (.iload 4, 2) := by decide +kernel
theorem d_Mod_disturb_80 : decode (mB m_Mod_disturb) 80 = .ok (.invokevirtual 240, 3) := by decide +kernel
theorem d_Mod_disturb_83 : decode (mB m_Mod_disturb) 83 = .ok (.iconst 1, 1) := by decide +kernel
theorem d_Mod_disturb_84 : decode (mB m_Mod_disturb) 84 = .ok (.ireturn, 1) := by decide +kernel
theorem d_Mod_disturb_85 : decode (mB m_Mod_disturb) 85 = .ok (.aload_n 0, 1) := by decide +kernel
theorem d_Mod_disturb_86 : decode (mB m_Mod_disturb) 86 = .ok (.getfield 81, 3) := by decide +kernel
theorem d_Mod_disturb_89 : decode (mB m_Mod_disturb) 89 = .ok (.iload 4, 2) := by decide +kernel
theorem d_Mod_disturb_91 : decode (mB m_Mod_disturb) 91 = .ok (.iaload, 1) := by decide +kernel
theorem d_Mod_disturb_92 : decode (mB m_Mod_disturb) 92 = .ok (.istore 5, 2) := by decide +kernel
theorem d_Mod_disturb_94 : decode (mB m_Mod_disturb) 94 = .ok (.iload 5, 2) := by decide +kernel
theorem d_Mod_disturb_96 : decode (mB m_Mod_disturb) 96 = .ok (.ifCond .le 39, 3) := by decide +kernel
theorem d_Mod_disturb_99 : decode (mB m_Mod_disturb) 99 = .ok (.aload_n 0, 1) := by decide +kernel
theorem d_Mod_disturb_100 : decode (mB m_Mod_disturb) 100 = .ok (.getfield 84, 3) := by decide +kernel
theorem d_Mod_disturb_103 : decode (mB m_Mod_disturb) 103 = .ok (.sipush 200, 3) := by decide +kernel
theorem d_Mod_disturb_106 : decode (mB m_Mod_disturb) 106 = .ok (.iload 4, 2) := by decide +kernel
theorem d_Mod_disturb_108 : decode (mB m_Mod_disturb) 108 = .ok (.imul, 1) := by decide +kernel
theorem d_Mod_disturb_109 : decode (mB m_Mod_disturb) 109 = .ok (.iload 5, 2) := by decide +kernel
theorem d_Mod_disturb_111 : decode (mB m_Mod_disturb) 111 = .ok (.iadd, 1) := by decide +kernel
theorem d_Mod_disturb_112 : decode (mB m_Mod_disturb) 112 = .ok (.aload_n 0, 1) := by decide +kernel
theorem d_Mod_disturb_113 : decode (mB m_Mod_disturb) 113 = .ok (.getfield 84, 3) := by decide +kernel
theorem d_Mod_disturb_116 : decode (mB m_Mod_disturb) 116 = .ok (.sipush 200, 3) := by decide +kernel
theorem d_Mod_disturb_119 : decode (mB m_Mod_disturb) 119 = .ok (.iload 4, 2) := by decide +kernel
theorem d_Mod_disturb_121 : decode (mB m_Mod_disturb) 121 = .ok (.imul, 1) := by decide +kernel
theorem d_Mod_disturb_122 : decode (mB m_Mod_disturb) 122 = .ok (.iload 5, 2) := by decide +kernel
theorem d_Mod_disturb_124 : decode (mB m_Mod_disturb) 124 = .ok (.iadd, 1) := by decide +kernel
theorem d_Mod_disturb_125 : decode (mB m_Mod_disturb) 125 = .ok (.iconst 1, 1) := by decide +kernel
theorem d_Mod_disturb_126 : decode (mB m_Mod_disturb) 126 = .ok (.isub, 1) := by decide +kernel
theorem d_Mod_disturb_127 : decode (mB m_Mod_disturb) 127 = .ok (.iaload, 1) := by decide +kernel
theorem d_Mod_disturb_128 : decode (mB m_Mod_disturb) 128 = .ok (.iastore, 1) := by decide +kernel
theorem d_Mod_disturb_129 : decode (mB m_Mod_disturb) 129 = .ok (.iinc 5 (-1), 3) := by decide +kernel
theorem d_Mod_disturb_132 : decode (mB m_Mod_disturb) 132 = .ok (.goto (-38), 3) := by decide +kernel
theorem d_Mod_disturb_135 : decode (mB m_Mod_disturb) 135 = .ok (.aload_n 0, 1) := by decide +kernel
theorem d_Mod_disturb_136 : decode (mB m_Mod_disturb) 136 = .ok (.getfield 81, 3) := by decide +kernel
theorem d_Mod_disturb_139 : decode (mB m_Mod_disturb) 139 = .ok (.iload 4, 2) := by decide +kernel
theorem d_Mod_disturb_141 : decode (mB m_Mod_disturb) 141 = .ok (.dup2, 1) := by decide +kernel
theorem d_Mod_disturb_142 : decode (mB m_Mod_disturb) 142 = .ok (.iaload, 1) := by decide +kernel
theorem d_Mod_disturb_143 : decode (mB m_Mod_disturb) 143 = .ok (.iconst 1, 1) := by decide +kernel
theorem d_Mod_disturb_144 : decode (mB m_Mod_disturb) 144 = .ok (.iadd, 1) := by decide +kernel
theorem d_Mod_disturb_145 : decode (mB m_Mod_disturb) 145 = .ok (.iastore, 1) := by decide +kernel
theorem d_Mod_disturb_146 : decode (mB m_Mod_disturb) 146 = .ok (.iconst 1, 1) := by decide +kernel
theorem d_Mod_disturb_147 : decode (mB m_Mod_disturb) 147 = .ok (.ireturn, 1) := by decide +kernel
theorem cal_Mod_disturb : mCal m_Mod_disturb 3 := ⟨Or.inl ⟨rfl, goodIn_r _ [1260] (by decide +kernel) (by decide +kernel)⟩, by decide, ⟨by decide, by decide⟩, by decide +kernel⟩
abbrev b_Mod_serve : ByteArray := prog_13_method_44_code
def m_Mod_serve : Mi := (⟨"TextNetModel", "serve", "(IZ)Z"⟩, b_Mod_serve, 3, (some .boolean), [])
theorem d_Mod_serve_0 : decode (mB m_Mod_serve) 0 = .ok (.aload_n 0, 1) := by decide +kernel
theorem d_Mod_serve_1 : decode (mB m_Mod_serve) 1 = .ok (.aload_n 0, 1) := by decide +kernel
theorem d_Mod_serve_2 : decode (mB m_Mod_serve) 2 = .ok (.iload_n 1, 1) := by decide +kernel
theorem d_Mod_serve_3 : decode (mB m_Mod_serve) 3 = .ok (.invokevirtual 119, 3) := by decide +kernel
theorem d_Mod_serve_6 : decode (mB m_Mod_serve) 6 = .ok (.ifCond .eq 7, 3) := by decide +kernel
theorem d_Mod_serve_9 : decode (mB m_Mod_serve) 9 = .ok (.iconst 0, 1) := by decide +kernel
theorem d_Mod_serve_10 : decode (mB m_Mod_serve) 10 = .ok (.goto 4, 3) := by decide +kernel
theorem d_Mod_serve_13 : decode (mB m_Mod_serve) 13 = .ok (.iconst 1, 1) := by decide +kernel
theorem d_Mod_serve_14 : decode (mB m_Mod_serve) 14 = .ok (.putfield 111, 3) := by decide +kernel
theorem d_Mod_serve_17 : decode (mB m_Mod_serve) 17 = .ok (.aload_n 0, 1) := by decide +kernel
theorem d_Mod_serve_18 : decode (mB m_Mod_serve) 18 = .ok (.getfield 111, 3) := by decide +kernel
theorem d_Mod_serve_21 : decode (mB m_Mod_serve) 21 = .ok (.ifCond .gt 13, 3) := by decide +kernel
theorem d_Mod_serve_24 : decode (mB m_Mod_serve) 24 = .ok (.aload_n 0, 1) := by decide +kernel
theorem d_Mod_serve_25 : decode (mB m_Mod_serve) 25 = .ok (.getfield 29, 3) := by decide +kernel
theorem d_Mod_serve_28 : decode (mB m_Mod_serve) 28 = .ok (.iload_n 1, 1) := by decide +kernel
theorem d_Mod_serve_29 : decode (mB m_Mod_serve) 29 = .ok (.baload, 1) := by decide +kernel
theorem d_Mod_serve_30 : decode (mB m_Mod_serve) 30 = .ok (.iload_n 2, 1) := by decide +kernel
theorem d_Mod_serve_31 : decode (mB m_Mod_serve) 31 = .ok (.if_icmp .ne 5, 3) := by decide +kernel
theorem d_Mod_serve_34 : decode (mB m_Mod_serve) 34 = .ok (.iconst 0, 1) := by decide +kernel
theorem d_Mod_serve_35 : decode (mB m_Mod_serve) 35 = .ok (.ireturn, 1) := by decide +kernel
theorem d_Mod_serve_36 : decode (mB m_Mod_serve) 36 = .ok (.aload_n 0, 1) := by decide +kernel
theorem d_Mod_serve_37 : decode (mB m_Mod_serve) 37 = .ok (.getfield 29, 3) := by decide +kernel
theorem d_Mod_serve_40 : decode (mB m_Mod_serve) 40 = .ok (.iload_n 1, 1) := by decide +kernel
theorem d_Mod_serve_41 : decode (mB m_Mod_serve) 41 = .ok (.iload_n 2, 1) := by decide +kernel
theorem d_Mod_serve_42 : decode (mB m_Mod_serve) 42 = .ok (.bastore, 1) := by decide +kernel
theorem d_Mod_serve_43 : decode (mB m_Mod_serve) 43 = .ok (.aload_n 0, 1) := by decide +kernel
theorem d_Mod_serve_44 : decode (mB m_Mod_serve) 44 = .ok (.getfield 81, 3) := by decide +kernel
theorem d_Mod_serve_47 : decode (mB m_Mod_serve) 47 = .ok (.iconst 2, 1) := by decide +kernel
theorem d_Mod_serve_48 : decode (mB m_Mod_serve) 48 = .ok (.iload_n 1, 1) := by decide +kernel
theorem d_Mod_serve_49 : decode (mB m_Mod_serve) 49 = .ok (.imul, 1) := by decide +kernel
theorem d_Mod_serve_50 : decode (mB m_Mod_serve) 50 = .ok (.iconst 0, 1) := by decide +kernel
theorem d_Mod_serve_51 : decode (mB m_Mod_serve) 51 = .ok (.iastore, 1) := by decide +kernel
theorem d_Mod_serve_52 : decode (mB m_Mod_serve) 52 = .ok (.aload_n 0, 1) := by decide +kernel
theorem d_Mod_serve_53 : decode (mB m_Mod_serve) 53 = .ok (.getfield 81, 3) := by decide +kernel
theorem d_Mod_serve_56 : decode (mB m_Mod_serve) 56 = .ok (.iconst 2, 1) := by decide +kernel
theorem d_Mod_serve_57 : decode (mB m_Mod_serve) 57 = .ok (.iload_n 1, 1) := by decide +kernel
theorem d_Mod_serve_58 : decode (mB m_Mod_serve) 58 = .ok (.imul, 1) := by decide +kernel
theorem d_Mod_serve_59 : decode (mB m_Mod_serve) 59 = .ok (.iconst 1, 1) := by decide +kernel
theorem d_Mod_serve_60 : decode (mB m_Mod_serve) 60 = .ok (.iadd, 1) := by decide +kernel
theorem d_Mod_serve_61 : decode (mB m_Mod_serve) 61 = .ok (.iconst 0, 1) := by decide +kernel
theorem d_Mod_serve_62 : decode (mB m_Mod_serve) 62 = .ok (.iastore, 1) := by decide +kernel
theorem d_Mod_serve_63 : decode (mB m_Mod_serve) 63 = .ok (.iload_n 2, 1) := by decide +kernel
theorem d_Mod_serve_64 : decode (mB m_Mod_serve) 64 = .ok (.ifCond .eq 23, 3) := by decide +kernel
theorem d_Mod_serve_67 : decode (mB m_Mod_serve) 67 = .ok (.aload_n 0, 1) := by decide +kernel
theorem d_Mod_serve_68 : decode (mB m_Mod_serve) 68 = .ok (.aload_n 0, 1) := by decide +kernel
theorem d_Mod_serve_69 : decode (mB m_Mod_serve) 69 = .ok (.getfield 23, 3) := by decide +kernel
theorem d_Mod_serve_72 : decode (mB m_Mod_serve) 72 = .ok (.iload_n 1, 1) := by decide +kernel
theorem d_Mod_serve_73 : decode (mB m_Mod_serve) 73 = .ok (.iaload, 1) := by decide +kernel
theorem d_Mod_serve_74 : decode (mB m_Mod_serve) 74 = .ok (.invokevirtual 254, 3) := by decide +kernel
theorem d_Mod_serve_77 : decode (mB m_Mod_serve) 77 = .ok (.aload_n 0, 1) := by decide +kernel
theorem d_Mod_serve_78 : decode (mB m_Mod_serve) 78 = .ok (.aload_n 0, 1) := by decide +kernel
theorem d_Mod_serve_79 : decode (mB m_Mod_serve) 79 = .ok (.getfield 26, 3) := by decide +kernel
theorem d_Mod_serve_82 : decode (mB m_Mod_serve) 82 = .ok (.iload_n 1, 1) := by decide +kernel
theorem d_Mod_serve_83 : decode (mB m_Mod_serve) 83 = .ok (.iaload, 1) := by decide +kernel
theorem d_Mod_serve_84 : decode (mB m_Mod_serve) 84 = .ok (.invokevirtual 254, 3) := by decide +kernel
theorem d_Mod_serve_87 : decode (mB m_Mod_serve) 87 = .ok (.iconst 1, 1) := by decide +kernel
theorem d_Mod_serve_88 : decode (mB m_Mod_serve) 88 = .ok (.ireturn, 1) := by decide +kernel
theorem cal_Mod_serve : mCal m_Mod_serve 2 := ⟨Or.inl ⟨rfl, goodIn_r _ [1264] (by decide +kernel) (by decide +kernel)⟩, by decide, ⟨by decide, by decide⟩, by decide +kernel⟩
abbrev b_Mod_time : ByteArray := prog_13_method_45_code
def m_Mod_time : Mi := (⟨"TextNetModel", "time", "(I)I"⟩, b_Mod_time, 4, (some .int), [])
theorem d_Mod_time_0 : decode (mB m_Mod_time) 0 = .ok (.aload_n 0, 1) := by decide +kernel
theorem d_Mod_time_1 : decode (mB m_Mod_time) 1 = .ok (.iload_n 1, 1) := by decide +kernel
theorem d_Mod_time_2 : decode (mB m_Mod_time) 2 = .ok (.iconst 0, 1) := by decide +kernel
theorem d_Mod_time_3 : decode (mB m_Mod_time) 3 = .ok (.sipush 1000, 3) := by decide +kernel
theorem d_Mod_time_6 : decode (mB m_Mod_time) 6 = .ok (.invokestatic 115, 3) := by decide +kernel
theorem d_Mod_time_9 : decode (mB m_Mod_time) 9 = .ok (.ifCond .eq 7, 3) := by decide +kernel
theorem d_Mod_time_12 : decode (mB m_Mod_time) 12 = .ok (.iconst 0, 1) := by decide +kernel
theorem d_Mod_time_13 : decode (mB m_Mod_time) 13 = .ok (.goto 4, 3) := by decide +kernel
theorem d_Mod_time_16 : decode (mB m_Mod_time) 16 = .ok (.iconst 1, 1) := by decide +kernel
theorem d_Mod_time_17 : decode (mB m_Mod_time) 17 = .ok (.putfield 111, 3) := by decide +kernel
theorem d_Mod_time_20 : decode (mB m_Mod_time) 20 = .ok (.aload_n 0, 1) := by decide +kernel
theorem d_Mod_time_21 : decode (mB m_Mod_time) 21 = .ok (.getfield 111, 3) := by decide +kernel
theorem d_Mod_time_24 : decode (mB m_Mod_time) 24 = .ok (.ifCond .le 5, 3) := by decide +kernel
theorem d_Mod_time_27 : decode (mB m_Mod_time) 27 = .ok (.iconst 0, 1) := by decide +kernel
theorem d_Mod_time_28 : decode (mB m_Mod_time) 28 = .ok (.ireturn, 1) := by decide +kernel
theorem d_Mod_time_29 : decode (mB m_Mod_time) 29 = .ok (.aload_n 0, 1) := by decide +kernel
theorem d_Mod_time_30 : decode (mB m_Mod_time) 30 = .ok (.dup, 1) := by decide +kernel
theorem d_Mod_time_31 : decode (mB m_Mod_time) 31 = .ok (.getfield 227, 3) := by decide +kernel
theorem d_Mod_time_34 : decode (mB m_Mod_time) 34 = .ok (.iload_n 1, 1) := by decide +kernel
theorem d_Mod_time_35 : decode (mB m_Mod_time) 35 = .ok (.iadd, 1) := by decide +kernel
theorem d_Mod_time_36 : decode (mB m_Mod_time) 36 = .ok (.putfield 227, 3) := by decide +kernel
theorem d_Mod_time_39 : decode (mB m_Mod_time) 39 = .ok (.iconst 0, 1) := by decide +kernel
theorem d_Mod_time_40 : decode (mB m_Mod_time) 40 = .ok (.istore_n 2, 1) := by decide +kernel
theorem d_Mod_time_41 : decode (mB m_Mod_time) 41 = .ok (.iconst 0, 1) := by decide +kernel
theorem d_Mod_time_42 : decode (mB m_Mod_time) 42 = .ok (.istore_n 3, 1) := by decide +kernel
theorem d_Mod_time_43 : decode (mB m_Mod_time) 43 = .ok (.iload_n 3, 1) := by decide +kernel
theorem d_Mod_time_44 : decode (mB m_Mod_time) 44 = .ok (.bipush 16, 2) := by decide +kernel
theorem d_Mod_time_46 : decode (mB m_Mod_time) 46 = .ok (.if_icmp .ge 67, 3) := by decide +kernel
theorem d_Mod_time_49 : decode (mB m_Mod_time) 49 = .ok (.aload_n 0, 1) := by decide +kernel
theorem d_Mod_time_50 : decode (mB m_Mod_time) 50 = .ok (.getfield 19, 3) := by decide +kernel
theorem d_Mod_time_53 : decode (mB m_Mod_time) 53 = .ok (.iload_n 3, 1) := by decide +kernel
theorem d_Mod_time_54 : decode (mB m_Mod_time) 54 = .ok (.iconst 2, 1) := by decide +kernel
theorem d_Mod_time_55 : decode (mB m_Mod_time) 55 = .ok (.idiv, 1) := by decide +kernel
theorem d_Mod_time_56 : decode (mB m_Mod_time) 56 = .ok (.baload, 1) := by decide +kernel
theorem d_Mod_time_57 : decode (mB m_Mod_time) 57 = .ok (.ifCond .eq 50, 3) := by decide +kernel
theorem d_Mod_time_60 : decode (mB m_Mod_time) 60 = .ok (.aload_n 0, 1) := by decide +kernel
theorem d_Mod_time_61 : decode (mB m_Mod_time) 61 = .ok (.getfield 29, 3) := by decide +kernel
theorem d_Mod_time_64 : decode (mB m_Mod_time) 64 = .ok (.iload_n 3, 1) := by decide +kernel
theorem d_Mod_time_65 : decode (mB m_Mod_time) 65 = .ok (.iconst 2, 1) := by decide +kernel
theorem d_Mod_time_66 : decode (mB m_Mod_time) 66 = .ok (.idiv, 1) := by decide +kernel
theorem d_Mod_time_67 : decode (mB m_Mod_time) 67 = .ok (.baload, 1) := by decide +kernel
theorem d_Mod_time_68 : decode (mB m_Mod_time) 68 = .ok (.ifCond .eq 39, 3) := by decide +kernel
theorem d_Mod_time_71 : decode (mB m_Mod_time) 71 = .ok (.aload_n 0, 1) := by decide +kernel
theorem d_Mod_time_72 : decode (mB m_Mod_time) 72 = .ok (.getfield 75, 3) := by decide +kernel
theorem d_Mod_time_75 : decode (mB m_Mod_time) 75 = .ok (.iload_n 3, 1) := by decide +kernel
theorem d_Mod_time_76 : decode (mB m_Mod_time) 76 = .ok (.iaload, 1) := by decide +kernel
theorem d_Mod_time_77 : decode (mB m_Mod_time) 77 = .ok (.ifCond .eq 30, 3) := by decide +kernel
theorem d_Mod_time_80 : decode (mB m_Mod_time) 80 = .ok (.aload_n 0, 1) := by decide +kernel
theorem d_Mod_time_81 : decode (mB m_Mod_time) 81 = .ok (.getfield 227, 3) := by decide +kernel
theorem d_Mod_time_84 : decode (mB m_Mod_time) 84 = .ok (.aload_n 0, 1) := by decide +kernel
theorem d_Mod_time_85 : decode (mB m_Mod_time) 85 = .ok (.getfield 87, 3) := by decide +kernel
theorem d_Mod_time_88 : decode (mB m_Mod_time) 88 = .ok (.iload_n 3, 1) := by decide +kernel
theorem d_Mod_time_89 : decode (mB m_Mod_time) 89 = .ok (.iaload, 1) := by decide +kernel
theorem d_Mod_time_90 : decode (mB m_Mod_time) 90 = .ok (.isub, 1) := by decide +kernel
theorem d_Mod_time_91 : decode (mB m_Mod_time) 91 = .ok (.iconst 5, 1) := by decide +kernel
theorem d_Mod_time_92 : decode (mB m_Mod_time) 92 = .ok (.if_icmp .ge 6, 3) := by decide +kernel
theorem d_Mod_time_95 : decode (mB m_Mod_time) 95 = .ok (.goto 12, 3) := by decide +kernel
theorem d_Mod_time_98 : decode (mB m_Mod_time) 98 = .ok (.aload_n 0, 1) := by decide +kernel
theorem d_Mod_time_99 : decode (mB m_Mod_time) 99 = .ok (.iload_n 3, 1) := by decide +kernel
theorem d_Mod_time_100 : decode (mB m_Mod_time) 100 = .ok (.iconst 0, 1) := by decide +kernel
theorem d_Mod_time_101 : decode (mB m_Mod_time) 101 = .ok (.invokevirtual 236, 3) := by decide +kernel
theorem d_Mod_time_104 : decode (mB m_Mod_time) 104 = .ok (.iinc 2 1, 3) := by decide +kernel
theorem d_Mod_time_107 : decode (mB m_Mod_time) 107 = .ok (.iinc 3 1, 3) := by decide +kernel
theorem d_Mod_time_110 : decode (mB m_Mod_time) 110 = .ok (.goto (-67), 3) := by decide +kernel
theorem d_Mod_time_113 : decode (mB m_Mod_time) 113 = .ok (.iload_n 2, 1) := by decide +kernel
theorem d_Mod_time_114 : decode (mB m_Mod_time) 114 = .ok (.ireturn, 1) := by decide +kernel
theorem cal_Mod_time : mCal m_Mod_time 1 := ⟨Or.inl ⟨rfl, goodIn_r _ [1272] (by decide +kernel) (by decide +kernel)⟩, by decide, ⟨by decide, by decide⟩, by decide +kernel⟩
abbrev b_Mod_delivered : ByteArray := prog_13_method_46_code
def m_Mod_delivered : Mi := (⟨"TextNetModel", "delivered", "(I)I"⟩, b_Mod_delivered, 2, (some .int), [])
theorem d_Mod_delivered_0 : decode (mB m_Mod_delivered) 0 = .ok (.aload_n 0, 1) := by decide +kernel
theorem d_Mod_delivered_1 : decode (mB m_Mod_delivered) 1 = .ok (.iload_n 1, 1) := by decide +kernel
theorem d_Mod_delivered_2 : decode (mB m_Mod_delivered) 2 = .ok (.invokestatic 123, 3) := by decide +kernel
theorem d_Mod_delivered_5 : decode (mB m_Mod_delivered) 5 = .ok (.ifCond .eq 7, 3) := by decide +kernel
theorem d_Mod_delivered_8 : decode (mB m_Mod_delivered) 8 = .ok (.iconst 0, 1) := by decide +kernel
theorem d_Mod_delivered_9 : decode (mB m_Mod_delivered) 9 = .ok (.goto 4, 3) := by decide +kernel
theorem d_Mod_delivered_12 : decode (mB m_Mod_delivered) 12 = .ok (.iconst 1, 1) := by decide +kernel
theorem d_Mod_delivered_13 : decode (mB m_Mod_delivered) 13 = .ok (.putfield 111, 3) := by decide +kernel
theorem d_Mod_delivered_16 : decode (mB m_Mod_delivered) 16 = .ok (.aload_n 0, 1) := by decide +kernel
theorem d_Mod_delivered_17 : decode (mB m_Mod_delivered) 17 = .ok (.getfield 111, 3) := by decide +kernel
theorem d_Mod_delivered_20 : decode (mB m_Mod_delivered) 20 = .ok (.ifCond .le 7, 3) := by decide +kernel
theorem d_Mod_delivered_23 : decode (mB m_Mod_delivered) 23 = .ok (.iconst 0, 1) := by decide +kernel
theorem d_Mod_delivered_24 : decode (mB m_Mod_delivered) 24 = .ok (.goto 9, 3) := by decide +kernel
theorem d_Mod_delivered_27 : decode (mB m_Mod_delivered) 27 = .ok (.aload_n 0, 1) := by decide +kernel
theorem d_Mod_delivered_28 : decode (mB m_Mod_delivered) 28 = .ok (.getfield 102, 3) := by decide +kernel
theorem d_Mod_delivered_31 : decode (mB m_Mod_delivered) 31 = .ok (.iload_n 1, 1) := by decide +kernel
theorem d_Mod_delivered_32 : decode (mB m_Mod_delivered) 32 = .ok (.iaload, 1) := by decide +kernel
theorem d_Mod_delivered_33 : decode (mB m_Mod_delivered) 33 = .ok (.ireturn, 1) := by decide +kernel
theorem cal_Mod_delivered : mCal m_Mod_delivered 1 := ⟨Or.inl ⟨rfl, goodIn_r _ [1276] (by decide +kernel) (by decide +kernel)⟩, by decide, ⟨by decide, by decide⟩, by decide +kernel⟩
abbrev b_Mod_read : ByteArray := prog_13_method_47_code
def m_Mod_read : Mi := (⟨"TextNetModel", "read", "(III)I"⟩, b_Mod_read, 6, (some .int), [])
theorem d_Mod_read_0 : decode (mB m_Mod_read) 0 = .ok (.aload_n 0, 1) := by decide +kernel
theorem d_Mod_read_1 : decode (mB m_Mod_read) 1 = .ok (.iload_n 1, 1) := by decide +kernel
theorem d_Mod_read_2 : decode (mB m_Mod_read) 2 = .ok (.invokestatic 123, 3) := by decide +kernel
theorem d_Mod_read_5 : decode (mB m_Mod_read) 5 = .ok (.ifCond .eq 7, 3) := by decide +kernel
theorem d_Mod_read_8 : decode (mB m_Mod_read) 8 = .ok (.iconst 0, 1) := by decide +kernel
theorem d_Mod_read_9 : decode (mB m_Mod_read) 9 = .ok (.goto 4, 3) := by decide +kernel
theorem d_Mod_read_12 : decode (mB m_Mod_read) 12 = .ok (.iconst 1, 1) := by decide +kernel
theorem d_Mod_read_13 : decode (mB m_Mod_read) 13 = .ok (.putfield 111, 3) := by decide +kernel
theorem d_Mod_read_16 : decode (mB m_Mod_read) 16 = .ok (.aload_n 0, 1) := by decide +kernel
theorem d_Mod_read_17 : decode (mB m_Mod_read) 17 = .ok (.getfield 111, 3) := by decide +kernel
theorem d_Mod_read_20 : decode (mB m_Mod_read) 20 = .ok (.ifCond .le 5, 3) := by decide +kernel
theorem d_Mod_read_23 : decode (mB m_Mod_read) 23 = .ok (.iconst 0, 1) := by decide +kernel
theorem d_Mod_read_24 : decode (mB m_Mod_read) 24 = .ok (.ireturn, 1) := by decide +kernel
theorem d_Mod_read_25 : decode (mB m_Mod_read) 25 = .ok (.iload_n 2, 1) := by decide +kernel
theorem d_Mod_read_26 : decode (mB m_Mod_read) 26 = .ok (.iconst 0, 1) := by decide +kernel
theorem d_Mod_read_27 : decode (mB m_Mod_read) 27 = .ok (.aload_n 0, 1) := by decide +kernel
theorem d_Mod_read_28 : decode (mB m_Mod_read) 28 = .ok (.getfield 102, 3) := by decide +kernel
theorem d_Mod_read_31 : decode (mB m_Mod_read) 31 = .ok (.iload_n 1, 1) := by decide +kernel
theorem d_Mod_read_32 : decode (mB m_Mod_read) 32 = .ok (.iaload, 1) := by decide +kernel
theorem d_Mod_read_33 : decode (mB m_Mod_read) 33 = .ok (.iconst 1, 1) := by decide +kernel
theorem d_Mod_read_34 : decode (mB m_Mod_read) 34 = .ok (.isub, 1) := by decide +kernel
theorem d_Mod_read_35 : decode (mB m_Mod_read) 35 = .ok (.invokestatic 115, 3) := by decide +kernel
theorem d_Mod_read_38 : decode (mB m_Mod_read) 38 = .ok (.ifCond .ne 5, 3) := by decide +kernel
theorem d_Mod_read_41 : decode (mB m_Mod_read) 41 = .ok (.iconst (-1), 1) := by decide +kernel
theorem d_Mod_read_42 : decode (mB m_Mod_read) 42 = .ok (.ireturn, 1) := by decide +kernel
theorem d_Mod_read_43 : decode (mB m_Mod_read) 43 = .ok (.aload_n 0, 1) := by decide +kernel
theorem d_Mod_read_44 : decode (mB m_Mod_read) 44 = .ok (.getfield 105, 3) := by decide +kernel
theorem d_Mod_read_47 : decode (mB m_Mod_read) 47 = .ok (.sipush 200, 3) := by decide +kernel
theorem d_Mod_read_50 : decode (mB m_Mod_read) 50 = .ok (.iload_n 1, 1) := by decide +kernel
theorem d_Mod_read_51 : decode (mB m_Mod_read) 51 = .ok (.imul, 1) := by decide +kernel
theorem d_Mod_read_52 : decode (mB m_Mod_read) 52 = .ok (.iload_n 2, 1) := by decide +kernel
theorem d_Mod_read_53 : decode (mB m_Mod_read) 53 = .ok (.iadd, 1) := by decide +kernel
theorem d_Mod_read_54 : decode (mB m_Mod_read) 54 = .ok (.iaload, 1) := by decide +kernel
theorem d_Mod_read_55 : decode (mB m_Mod_read) 55 = .ok (.istore 4, 2) := by decide +kernel
theorem d_Mod_read_57 : decode (mB m_Mod_read) 57 = .ok (.iload_n 3, 1) := by decide +kernel
theorem d_Mod_read_58 : decode (mB m_Mod_read) 58 = .ok (.iconst 0, 1) := by decide +kernel
theorem d_Mod_read_59 : decode (mB m_Mod_read) 59 = .ok (.aload_n 0, 1) := by decide +kernel
theorem d_Mod_read_60 : decode (mB m_Mod_read) 60 = .ok (.getfield 51, 3) := by decide +kernel
theorem d_Mod_read_63 : decode (mB m_Mod_read) 63 = .ok (.iload 4, 2) := by decide +kernel
theorem d_Mod_read_65 : decode (mB m_Mod_read) 65 = .ok (.iaload, 1) := by decide +kernel
theorem d_Mod_read_66 : decode (mB m_Mod_read) 66 = .ok (.iconst 1, 1) := by decide +kernel
theorem d_Mod_read_67 : decode (mB m_Mod_read) 67 = .ok (.isub, 1) := by decide +kernel
theorem d_Mod_read_68 : decode (mB m_Mod_read) 68 = .ok (.invokestatic 115, 3) := by decide +kernel
theorem d_Mod_read_71 : decode (mB m_Mod_read) 71 = .ok (.ifCond .ne 5, 3) := by decide +kernel
theorem d_Mod_read_74 : decode (mB m_Mod_read) 74 = .ok (.iconst (-1), 1) := by decide +kernel
theorem d_Mod_read_75 : decode (mB m_Mod_read) 75 = .ok (.ireturn, 1) := by decide +kernel
theorem d_Mod_read_76 : decode (mB m_Mod_read) 76 = .ok (.aload_n 0, 1) := by decide +kernel
theorem d_Mod_read_77 : decode (mB m_Mod_read) 77 = .ok (.getfield 48, 3) := by decide +kernel
theorem d_Mod_read_80 : decode (mB m_Mod_read) 80 = .ok (.iload 4, 2) := by decide +kernel
theorem d_Mod_read_82 : decode (mB m_Mod_read) 82 = .ok (.iaload, 1) := by decide +kernel
theorem d_Mod_read_83 : decode (mB m_Mod_read) 83 = .ok (.iconst 1, 1) := by decide +kernel
theorem d_Mod_read_84 : decode (mB m_Mod_read) 84 = .ok (.isub, 1) := by decide +kernel
theorem d_Mod_read_85 : decode (mB m_Mod_read) 85 = .ok (.istore 5, 2) := by decide +kernel
theorem d_Mod_read_87 : decode (mB m_Mod_read) 87 = .ok (.iload 5, 2) := by decide +kernel
theorem d_Mod_read_89 : decode (mB m_Mod_read) 89 = .ok (.ifCond .lt 32, 3) := by decide +kernel
theorem d_Mod_read_92 : decode (mB m_Mod_read) 92 = .ok (.iload_n 3, 1) := by decide +kernel
theorem d_Mod_read_93 : decode (mB m_Mod_read) 93 = .ok (.aload_n 0, 1) := by decide +kernel
theorem d_Mod_read_94 : decode (mB m_Mod_read) 94 = .ok (.getfield 7, 3) := by decide +kernel
theorem d_Mod_read_97 : decode (mB m_Mod_read) 97 = .ok (.iload 5, 2) := by decide +kernel
theorem d_Mod_read_99 : decode (mB m_Mod_read) 99 = .ok (.iaload, 1) := by decide +kernel
theorem d_Mod_read_100 : decode (mB m_Mod_read) 100 = .ok (.aload_n 0, 1) := by decide +kernel
theorem d_Mod_read_101 : decode (mB m_Mod_read) 101 = .ok (.getfield 7, 3) := by decide +kernel
theorem d_Mod_read_104 : decode (mB m_Mod_read) 104 = .ok (.iload 5, 2) := by decide +kernel
theorem d_Mod_read_106 : decode (mB m_Mod_read) 106 = .ok (.iaload, 1) := by decide +kernel
theorem d_Mod_read_107 : decode (mB m_Mod_read) 107 = .ok (.iconst 3, 1) := by decide +kernel
theorem d_Mod_read_108 : decode (mB m_Mod_read) 108 = .ok (.iadd, 1) := by decide +kernel
theorem d_Mod_read_109 : decode (mB m_Mod_read) 109 = .ok (.invokestatic 115, 3) := by decide +kernel
theorem d_Mod_read_112 : decode (mB m_Mod_read) 112 = .ok (.ifCond .ne 9, 3) := by decide +kernel
theorem d_Mod_read_115 : decode (mB m_Mod_read) 115 = .ok (.iinc 5 (-1), 3) := by decide +kernel
theorem d_Mod_read_118 : decode (mB m_Mod_read) 118 = .ok (.goto (-31), 3) := by decide +kernel
theorem d_Mod_read_121 : decode (mB m_Mod_read) 121 = .ok (.iload 5, 2) := by decide +kernel
theorem d_Mod_read_123 : decode (mB m_Mod_read) 123 = .ok (.ifCond .ge 7, 3) := by decide +kernel
theorem d_Mod_read_126 : decode (mB m_Mod_read) 126 = .ok (.iconst 0, 1) := by decide +kernel
theorem d_Mod_read_127 : decode (mB m_Mod_read) 127 = .ok (.goto 27, 3) := by decide +kernel
theorem d_Mod_read_130 : decode (mB m_Mod_read) 130 = .ok (.aload_n 0, 1) := by decide +kernel
theorem d_Mod_read_131 : decode (mB m_Mod_read) 131 = .ok (.getfield 13, 3) := by decide +kernel
theorem d_Mod_read_134 : decode (mB m_Mod_read) 134 = .ok (.iload 5, 2) := by decide +kernel
theorem d_Mod_read_136 : decode (mB m_Mod_read) 136 = .ok (.iaload, 1) := by decide +kernel
theorem d_Mod_read_137 : decode (mB m_Mod_read) 137 = .ok (.bipush 8, 2) := by decide +kernel
theorem d_Mod_read_139 : decode (mB m_Mod_read) 139 = .ok (.iload_n 3, 1) := by decide +kernel
theorem d_Mod_read_140 : decode (mB m_Mod_read) 140 = .ok (.aload_n 0, 1) := by decide +kernel
theorem d_Mod_read_141 : decode (mB m_Mod_read) 141 = .ok (.getfield 7, 3) := by decide +kernel
theorem d_Mod_read_144 : decode (mB m_Mod_read) 144 = .ok (.iload 5, 2) := by decide +kernel
theorem d_Mod_read_146 : decode (mB m_Mod_read) 146 = .ok (.iaload, 1) := by decide +kernel
theorem d_Mod_read_147 : decode (mB m_Mod_read) 147 = .ok (.isub, 1) := by decide +kernel
theorem d_Mod_read_148 : decode (mB m_Mod_read) 148 = .ok (.imul, 1) := by decide +kernel
theorem d_Mod_read_149 : decode (mB m_Mod_read) 149 = .ok (.ishr, 1) := by decide +kernel
theorem d_Mod_read_150 : decode (mB m_Mod_read) 150 = .ok (.sipush 255, 3) := by decide +kernel
theorem d_Mod_read_153 : decode (mB m_Mod_read) 153 = .ok (.iand, 1) := by decide +kernel
theorem d_Mod_read_154 : decode (mB m_Mod_read) 154 = .ok (.ireturn, 1) := by decide +kernel
theorem cal_Mod_read : mCal m_Mod_read 3 := ⟨Or.inl ⟨rfl, goodIn_r _ [1280] (by decide +kernel) (by decide +kernel)⟩, by decide, ⟨by decide, by decide⟩, by decide +kernel⟩
abbrev b_Mod_arrived : ByteArray := prog_13_method_48_code
def m_Mod_arrived : Mi := (⟨"TextNetModel", "arrived", "(II)Z"⟩, b_Mod_arrived, 3, (some .boolean), [])
theorem d_Mod_arrived_0 : decode (mB m_Mod_arrived) 0 = .ok (.aload_n 0, 1) := by decide +kernel
theorem d_Mod_arrived_1 : decode (mB m_Mod_arrived) 1 = .ok (.iload_n 1, 1) := by decide +kernel
theorem d_Mod_arrived_2 : decode (mB m_Mod_arrived) 2 = .ok (.iconst 1, 1) := by decide +kernel
theorem d_Mod_arrived_3 : decode (mB m_Mod_arrived) 3 = .ok (.aload_n 0, 1) := by decide +kernel
theorem d_Mod_arrived_4 : decode (mB m_Mod_arrived) 4 = .ok (.getfield 189, 3) := by decide +kernel
theorem d_Mod_arrived_7 : decode (mB m_Mod_arrived) 7 = .ok (.invokestatic 115, 3) := by decide +kernel
theorem d_Mod_arrived_10 : decode (mB m_Mod_arrived) 10 = .ok (.ifCond .eq 23, 3) := by decide +kernel
theorem d_Mod_arrived_13 : decode (mB m_Mod_arrived) 13 = .ok (.iload_n 2, 1) := by decide +kernel
theorem d_Mod_arrived_14 : decode (mB m_Mod_arrived) 14 = .ok (.iconst 0, 1) := by decide +kernel
theorem d_Mod_arrived_15 : decode (mB m_Mod_arrived) 15 = .ok (.aload_n 0, 1) := by decide +kernel
theorem d_Mod_arrived_16 : decode (mB m_Mod_arrived) 16 = .ok (.getfield 57, 3) := by decide +kernel
theorem d_Mod_arrived_19 : decode (mB m_Mod_arrived) 19 = .ok (.iload_n 1, 1) := by decide +kernel
theorem d_Mod_arrived_20 : decode (mB m_Mod_arrived) 20 = .ok (.iaload, 1) := by decide +kernel
theorem d_Mod_arrived_21 : decode (mB m_Mod_arrived) 21 = .ok (.iconst 1, 1) := by decide +kernel
theorem d_Mod_arrived_22 : decode (mB m_Mod_arrived) 22 = .ok (.isub, 1) := by decide +kernel
theorem d_Mod_arrived_23 : decode (mB m_Mod_arrived) 23 = .ok (.invokestatic 115, 3) := by decide +kernel
theorem d_Mod_arrived_26 : decode (mB m_Mod_arrived) 26 = .ok (.ifCond .eq 7, 3) := by decide +kernel
theorem d_Mod_arrived_29 : decode (mB m_Mod_arrived) 29 = .ok (.iconst 0, 1) := by decide +kernel
theorem d_Mod_arrived_30 : decode (mB m_Mod_arrived) 30 = .ok (.goto 4, 3) := by decide +kernel
theorem d_Mod_arrived_33 : decode (mB m_Mod_arrived) 33 = .ok (.iconst 1, 1) := by decide +kernel
theorem d_Mod_arrived_34 : decode (mB m_Mod_arrived) 34 = .ok (.putfield 111, 3) := by decide +kernel
theorem d_Mod_arrived_37 : decode (mB m_Mod_arrived) 37 = .ok (.aload_n 0, 1) := by decide +kernel
theorem d_Mod_arrived_38 : decode (mB m_Mod_arrived) 38 = .ok (.getfield 111, 3) := by decide +kernel
theorem d_Mod_arrived_41 : decode (mB m_Mod_arrived) 41 = .ok (.ifCond .ne 21, 3) := by decide +kernel
theorem d_Mod_arrived_44 : decode (mB m_Mod_arrived) 44 = .ok (.aload_n 0, 1) := by decide +kernel
theorem d_Mod_arrived_45 : decode (mB m_Mod_arrived) 45 = .ok (.getfield 63, 3) := by decide +kernel
theorem d_Mod_arrived_48 : decode (mB m_Mod_arrived) 48 = .ok (.iload_n 1, 1) := by decide +kernel
theorem d_Mod_arrived_49 : decode (mB m_Mod_arrived) 49 = .ok (.iaload, 1) := by decide +kernel
theorem d_Mod_arrived_50 : decode (mB m_Mod_arrived) 50 = .ok (.iload_n 2, 1) := by decide +kernel
theorem d_Mod_arrived_51 : decode (mB m_Mod_arrived) 51 = .ok (.ishr, 1) := by decide +kernel
theorem d_Mod_arrived_52 : decode (mB m_Mod_arrived) 52 = .ok (.iconst 1, 1) := by decide +kernel
theorem d_Mod_arrived_53 : decode (mB m_Mod_arrived) 53 = .ok (.iand, 1) := by decide +kernel
theorem d_Mod_arrived_54 : decode (mB m_Mod_arrived) 54 = .ok (.iconst 1, 1) := by decide +kernel
theorem d_Mod_arrived_55 : decode (mB m_Mod_arrived) 55 = .ok (.if_icmp .ne 7, 3) := by decide +kernel
theorem d_Mod_arrived_58 : decode (mB m_Mod_arrived) 58 = .ok (.iconst 1, 1) := by decide +kernel
theorem d_Mod_arrived_59 : decode (mB m_Mod_arrived) 59 = .ok (.goto 4, 3) := by decide +kernel
theorem d_Mod_arrived_62 : decode (mB m_Mod_arrived) 62 = .ok (.iconst 0, 1) := by decide +kernel
theorem d_Mod_arrived_63 : decode (mB m_Mod_arrived) 63 = .ok (.ireturn, 1) := by decide +kernel
theorem cal_Mod_arrived : mCal m_Mod_arrived 2 := ⟨Or.inl ⟨rfl, goodIn_r _ [1284] (by decide +kernel) (by decide +kernel)⟩, by decide, ⟨by decide, by decide⟩, by decide +kernel⟩
abbrev b_Mod_channel : ByteArray := prog_13_method_49_code
def m_Mod_channel : Mi := (⟨"TextNetModel", "channel", "(III)I"⟩, b_Mod_channel, 7, (some .int), [])
theorem d_Mod_channel_0 : decode (mB m_Mod_channel) 0 = .ok (.aload_n 0, 1) := by decide +kernel
theorem d_Mod_channel_1 : decode (mB m_Mod_channel) 1 = .ok (.iload_n 1, 1) := by decide +kernel
theorem d_Mod_channel_2 : decode (mB m_Mod_channel) 2 = .ok (.iload_n 2, 1) := by decide +kernel
theorem d_Mod_channel_3 : decode (mB m_Mod_channel) 3 = .ok (.invokevirtual 230, 3) := by decide +kernel
theorem d_Mod_channel_6 : decode (mB m_Mod_channel) 6 = .ok (.ifCond .ne 5, 3) := by decide +kernel
theorem d_Mod_channel_9 : decode (mB m_Mod_channel) 9 = .ok (.iconst 0, 1) := by decide +kernel
theorem d_Mod_channel_10 : decode (mB m_Mod_channel) 10 = .ok (.ireturn, 1) := by decide +kernel
theorem d_Mod_channel_11 : decode (mB m_Mod_channel) 11 = .ok (.iconst 2, 1) := by decide +kernel
theorem d_Mod_channel_12 : decode (mB m_Mod_channel) 12 = .ok (.iload_n 1, 1) := by decide +kernel
theorem d_Mod_channel_13 : decode (mB m_Mod_channel) 13 = .ok (.imul, 1) := by decide +kernel
theorem d_Mod_channel_14 : decode (mB m_Mod_channel) 14 = .ok (.iload_n 2, 1) := by decide +kernel
theorem d_Mod_channel_15 : decode (mB m_Mod_channel) 15 = .ok (.iadd, 1) := by decide +kernel
theorem d_Mod_channel_16 : decode (mB m_Mod_channel) 16 = .ok (.istore 4, 2) := by decide +kernel
theorem d_Mod_channel_18 : decode (mB m_Mod_channel) 18 = .ok (.iconst 0, 1) := by decide +kernel
theorem d_Mod_channel_19 : decode (mB m_Mod_channel) 19 = .ok (.istore 5, 2) := by decide +kernel
theorem d_Mod_channel_21 : decode (mB m_Mod_channel) 21 = .ok (.iload_n 3, 1) := by decide +kernel
theorem d_Mod_channel_22 : decode (mB m_Mod_channel) 22 = .ok (.tableswitch 151 0 8 #[50, 50, 50, 50, 50, 119, 127, 135, 143], 50) := by decide +kernel
theorem d_Mod_channel_72 : decode (mB m_Mod_channel) 72 = .ok (.iconst 0, 1) := by decide +kernel
theorem d_Mod_channel_73 : decode (mB m_Mod_channel) 73 = .ok (.istore 6, 2) := by decide +kernel
theorem d_Mod_channel_75 : decode (mB m_Mod_channel) 75 = .ok (.iload 6, 2) := by decide +kernel
theorem d_Mod_channel_77 : decode (mB m_Mod_channel) 77 = .ok (.aload_n 0, 1) := by decide +kernel
theorem d_Mod_channel_78 : decode (mB m_Mod_channel) 78 = .ok (.getfield 202, 3) := by decide +kernel
theorem d_Mod_channel_81 : decode (mB m_Mod_channel) 81 = .ok (.if_icmp .ge 57, 3) := by decide +kernel
theorem d_Mod_channel_84 : decode (mB m_Mod_channel) 84 = .ok (.iload 5, 2) := by decide +kernel
theorem d_Mod_channel_86 : decode (mB m_Mod_channel) 86 = .ok (.aload_n 0, 1) := by decide +kernel
theorem d_Mod_channel_87 : decode (mB m_Mod_channel) 87 = .ok (.getfield 66, 3) := by decide +kernel
theorem d_Mod_channel_90 : decode (mB m_Mod_channel) 90 = .ok (.iload 6, 2) := by decide +kernel
theorem d_Mod_channel_92 : decode (mB m_Mod_channel) 92 = .ok (.iaload, 1) := by decide +kernel
theorem d_Mod_channel_93 : decode (mB m_Mod_channel) 93 = .ok (.bipush 20, 2) := by decide +kernel
theorem d_Mod_channel_95 : decode (mB m_Mod_channel) 95 = .ok (.ishr, 1) := by decide +kernel
theorem d_Mod_channel_96 : decode (mB m_Mod_channel) 96 = .ok (.iload 4, 2) := by decide +kernel
theorem d_Mod_channel_98 : decode (mB m_Mod_channel) 98 = .ok (.if_icmp .ne 30, 3) := by decide +kernel
theorem d_Mod_channel_101 : decode (mB m_Mod_channel) 101 = .ok (.aload_n 0, 1) := by decide +kernel
theorem d_Mod_channel_102 : decode (mB m_Mod_channel) 102 = .ok (.getfield 54, 3) := by decide +kernel
theorem d_Mod_channel_105 : decode (mB m_Mod_channel) 105 = .ok (.aload_n 0, 1) := by decide +kernel
theorem d_Mod_channel_106 : decode (mB m_Mod_channel) 106 = .ok (.getfield 66, 3) := by decide +kernel
theorem d_Mod_channel_109 : decode (mB m_Mod_channel) 109 = .ok (.iload 6, 2) := by decide +kernel
theorem d_Mod_channel_111 : decode (mB m_Mod_channel) 111 = .ok (.iaload, 1) := by decide +kernel
theorem d_Mod_channel_112 : decode (mB m_Mod_channel) 112 = .ok (.bipush 12, 2) := by decide +kernel
theorem d_Mod_channel_114 : decode (mB m_Mod_channel) 114 = .ok (.ishr, 1) := by decide +kernel
theorem d_Mod_channel_115 : decode (mB m_Mod_channel) 115 = .ok (.sipush 255, 3) := by decide +kernel
theorem d_Mod_channel_118 : decode (mB m_Mod_channel) 118 = .ok (.iand, 1) := by decide +kernel
theorem d_Mod_channel_119 : decode (mB m_Mod_channel) 119 = .ok (.iaload, 1) := by decide +kernel
theorem d_Mod_channel_120 : decode (mB m_Mod_channel) 120 = .ok (.iload_n 3, 1) := by decide +kernel
theorem d_Mod_channel_121 : decode (mB m_Mod_channel) 121 = .ok (.if_icmp .ne 7, 3) := by decide +kernel
theorem d_Mod_channel_124 : decode (mB m_Mod_channel) 124 = .ok (.iconst 1, 1) := by decide +kernel
theorem d_Mod_channel_125 : decode (mB m_Mod_channel) 125 = .ok (.goto 4, 3) := by decide +kernel
theorem d_Mod_channel_128 : decode (mB m_Mod_channel) 128 = .ok (.iconst 0, 1) := by decide +kernel
theorem d_Mod_channel_129 : decode (mB m_Mod_channel) 129 = .ok (.iadd, 1) := by decide +kernel
theorem d_Mod_channel_130 : decode (mB m_Mod_channel) 130 = .ok (.istore 5, 2) := by decide +kernel
theorem d_Mod_channel_132 : decode (mB m_Mod_channel) 132 = .ok (.iinc 6 1, 3) := by decide +kernel
theorem d_Mod_channel_135 : decode (mB m_Mod_channel) 135 = .ok (.goto (-60), 3) := by decide +kernel
theorem d_Mod_channel_138 : decode (mB m_Mod_channel) 138 = .ok (.iload 5, 2) := by decide +kernel
theorem d_Mod_channel_140 : decode (mB m_Mod_channel) 140 = .ok (.ireturn, 1) := by decide +kernel
theorem d_Mod_channel_141 : decode (mB m_Mod_channel) 141 = .ok (.aload_n 0, 1) := by decide +kernel
theorem d_Mod_channel_142 : decode (mB m_Mod_channel) 142 = .ok (.getfield 75, 3) := by decide +kernel
theorem d_Mod_channel_145 : decode (mB m_Mod_channel) 145 = .ok (.iload 4, 2) := by decide +kernel
theorem d_Mod_channel_147 : decode (mB m_Mod_channel) 147 = .ok (.iaload, 1) := by decide +kernel
theorem d_Mod_channel_148 : decode (mB m_Mod_channel) 148 = .ok (.ireturn, 1) := by decide +kernel
theorem d_Mod_channel_149 : decode (mB m_Mod_channel) 149 = .ok (.aload_n 0, 1) := by decide +kernel
theorem d_Mod_channel_150 : decode (mB m_Mod_channel) 150 = .ok (.getfield 81, 3) := by decide +kernel
theorem d_Mod_channel_153 : decode (mB m_Mod_channel) 153 = .ok (.iload 4, 2) := by decide +kernel
theorem d_Mod_channel_155 : decode (mB m_Mod_channel) 155 = .ok (.iaload, 1) := by decide +kernel
theorem d_Mod_channel_156 : decode (mB m_Mod_channel) 156 = .ok (.ireturn, 1) := by decide +kernel
theorem d_Mod_channel_157 : decode (mB m_Mod_channel) 157 = .ok (.aload_n 0, 1) := by decide +kernel
theorem d_Mod_channel_158 : decode (mB m_Mod_channel) 158 = .ok (.getfield 69, 3) := by decide +kernel
theorem d_Mod_channel_161 : decode (mB m_Mod_channel) 161 = .ok (.iload 4, 2) := by decide +kernel
theorem d_Mod_channel_163 : decode (mB m_Mod_channel) 163 = .ok (.iaload, 1) := by decide +kernel
theorem d_Mod_channel_164 : decode (mB m_Mod_channel) 164 = .ok (.ireturn, 1) := by decide +kernel
theorem d_Mod_channel_165 : decode (mB m_Mod_channel) 165 = .ok (.aload_n 0, 1) := by decide +kernel
theorem d_Mod_channel_166 : decode (mB m_Mod_channel) 166 = .ok (.getfield 72, 3) := by decide +kernel
theorem d_Mod_channel_169 : decode (mB m_Mod_channel) 169 = .ok (.iload 4, 2) := by decide +kernel
theorem d_Mod_channel_171 : decode (mB m_Mod_channel) 171 = .ok (.iaload, 1) := by decide +kernel
theorem d_Mod_channel_172 : decode (mB m_Mod_channel) 172 = .ok (.ireturn, 1) := by decide +kernel
theorem d_Mod_channel_173 : decode (mB m_Mod_channel) 173 = .ok (.aload_n 0, 1) := by decide +kernel
theorem d_Mod_channel_174 : decode (mB m_Mod_channel) 174 = .ok (.iconst 1, 1) := by decide +kernel
theorem d_Mod_channel_175 : decode (mB m_Mod_channel) 175 = .ok (.invokevirtual 192, 3) := by decide +kernel
theorem d_Mod_channel_178 : decode (mB m_Mod_channel) 178 = .ok (.ireturn, 1) := by decide +kernel
theorem cal_Mod_channel : mCal m_Mod_channel 3 := ⟨Or.inl ⟨rfl, goodIn_r _ [1288] (by decide +kernel) (by decide +kernel)⟩, by decide, ⟨by decide, by decide⟩, by decide +kernel⟩
abbrev b_Mod_count : ByteArray := prog_13_method_50_code
def m_Mod_count : Mi := (⟨"TextNetModel", "count", "(II)I"⟩, b_Mod_count, 5, (some .int), [])
theorem d_Mod_count_0 : decode (mB m_Mod_count) 0 = .ok (.aload_n 0, 1) := by decide +kernel
theorem d_Mod_count_1 : decode (mB m_Mod_count) 1 = .ok (.iload_n 1, 1) := by decide +kernel
theorem d_Mod_count_2 : decode (mB m_Mod_count) 2 = .ok (.iconst (-1), 1) := by decide +kernel
theorem d_Mod_count_3 : decode (mB m_Mod_count) 3 = .ok (.if_icmp .ne 20, 3) := by decide +kernel
theorem d_Mod_count_6 : decode (mB m_Mod_count) 6 = .ok (.iload_n 2, 1) := by decide +kernel
theorem d_Mod_count_7 : decode (mB m_Mod_count) 7 = .ok (.iconst 3, 1) := by decide +kernel
theorem d_Mod_count_8 : decode (mB m_Mod_count) 8 = .ok (.iconst 4, 1) := by decide +kernel
theorem d_Mod_count_9 : decode (mB m_Mod_count) 9 = .ok (.invokestatic 115, 3) := by decide +kernel
theorem d_Mod_count_12 : decode (mB m_Mod_count) 12 = .ok (.ifCond .eq 7, 3) := by decide +kernel
theorem d_Mod_count_15 : decode (mB m_Mod_count) 15 = .ok (.iconst 0, 1) := by decide +kernel
theorem d_Mod_count_16 : decode (mB m_Mod_count) 16 = .ok (.goto 28, 3) := by decide +kernel
theorem d_Mod_count_19 : decode (mB m_Mod_count) 19 = .ok (.iconst 1, 1) := by decide +kernel
theorem d_Mod_count_20 : decode (mB m_Mod_count) 20 = .ok (.goto 24, 3) := by decide +kernel
theorem d_Mod_count_23 : decode (mB m_Mod_count) 23 = .ok (.iload_n 1, 1) := by decide +kernel
theorem d_Mod_count_24 : decode (mB m_Mod_count) 24 = .ok (.invokestatic 123, 3) := by decide +kernel
theorem d_Mod_count_27 : decode (mB m_Mod_count) 27 = .ok (.ifCond .eq 16, 3) := by decide +kernel
theorem d_Mod_count_30 : decode (mB m_Mod_count) 30 = .ok (.iload_n 2, 1) := by decide +kernel
theorem d_Mod_count_31 : decode (mB m_Mod_count) 31 = .ok (.iconst 0, 1) := by decide +kernel
theorem d_Mod_count_32 : decode (mB m_Mod_count) 32 = .ok (.iconst 2, 1) := by decide +kernel
theorem d_Mod_count_33 : decode (mB m_Mod_count) 33 = .ok (.invokestatic 115, 3) := by decide +kernel
theorem d_Mod_count_36 : decode (mB m_Mod_count) 36 = .ok (.ifCond .eq 7, 3) := by decide +kernel
theorem d_Mod_count_39 : decode (mB m_Mod_count) 39 = .ok (.iconst 0, 1) := by decide +kernel
theorem d_Mod_count_40 : decode (mB m_Mod_count) 40 = .ok (.goto 4, 3) := by decide +kernel
theorem d_Mod_count_43 : decode (mB m_Mod_count) 43 = .ok (.iconst 1, 1) := by decide +kernel
theorem d_Mod_count_44 : decode (mB m_Mod_count) 44 = .ok (.putfield 111, 3) := by decide +kernel
theorem d_Mod_count_47 : decode (mB m_Mod_count) 47 = .ok (.aload_n 0, 1) := by decide +kernel
theorem d_Mod_count_48 : decode (mB m_Mod_count) 48 = .ok (.getfield 111, 3) := by decide +kernel
theorem d_Mod_count_51 : decode (mB m_Mod_count) 51 = .ok (.ifCond .le 5, 3) := by decide +kernel
theorem d_Mod_count_54 : decode (mB m_Mod_count) 54 = .ok (.iconst 0, 1) := by decide +kernel
theorem d_Mod_count_55 : decode (mB m_Mod_count) 55 = .ok (.ireturn, 1) := by decide +kernel
theorem d_Mod_count_56 : decode (mB m_Mod_count) 56 = .ok (.iconst 0, 1) := by decide +kernel
theorem d_Mod_count_57 : decode (mB m_Mod_count) 57 = .ok (.istore_n 3, 1) := by decide +kernel
theorem d_Mod_count_58 : decode (mB m_Mod_count) 58 = .ok (.iconst 0, 1) := by decide +kernel
theorem d_Mod_count_59 : decode (mB m_Mod_count) 59 = .ok (.istore 4, 2) := by decide +kernel
theorem d_Mod_count_61 : decode (mB m_Mod_count) 61 = .ok (.iload 4, 2) := by decide +kernel
theorem d_Mod_count_63 : decode (mB m_Mod_count) 63 = .ok (.aload_n 0, 1) := by decide +kernel
theorem d_Mod_count_64 : decode (mB m_Mod_count) 64 = .ok (.getfield 202, 3) := by decide +kernel
theorem d_Mod_count_67 : decode (mB m_Mod_count) 67 = .ok (.if_icmp .ge 34, 3) := by decide +kernel
theorem d_Mod_count_70 : decode (mB m_Mod_count) 70 = .ok (.iload_n 3, 1) := by decide +kernel
theorem d_Mod_count_71 : decode (mB m_Mod_count) 71 = .ok (.aload_n 0, 1) := by decide +kernel
theorem d_Mod_count_72 : decode (mB m_Mod_count) 72 = .ok (.getfield 66, 3) := by decide +kernel
theorem d_Mod_count_75 : decode (mB m_Mod_count) 75 = .ok (.iload 4, 2) := by decide +kernel
theorem d_Mod_count_77 : decode (mB m_Mod_count) 77 = .ok (.iaload, 1) := by decide +kernel
theorem d_Mod_count_78 : decode (mB m_Mod_count) 78 = .ok (.bipush 20, 2) := by decide +kernel
theorem d_Mod_count_80 : decode (mB m_Mod_count) 80 = .ok (.ishr, 1) := by decide +kernel
theorem d_Mod_count_81 : decode (mB m_Mod_count) 81 = .ok (.bipush 16, 2) := by decide +kernel
theorem d_Mod_count_83 : decode (mB m_Mod_count) 83 = .ok (.iload_n 1, 1) := by decide +kernel
theorem d_Mod_count_84 : decode (mB m_Mod_count) 84 = .ok (.iadd, 1) := by decide +kernel
theorem d_Mod_count_85 : decode (mB m_Mod_count) 85 = .ok (.if_icmp .ne 7, 3) := by decide +kernel
theorem d_Mod_count_88 : decode (mB m_Mod_count) 88 = .ok (.iconst 1, 1) := by decide +kernel
theorem d_Mod_count_89 : decode (mB m_Mod_count) 89 = .ok (.goto 4, 3) := by decide +kernel
theorem d_Mod_count_92 : decode (mB m_Mod_count) 92 = .ok (.iconst 0, 1) := by decide +kernel
theorem d_Mod_count_93 : decode (mB m_Mod_count) 93 = .ok (.iadd, 1) := by decide +kernel
theorem d_Mod_count_94 : decode (mB m_Mod_count) 94 = .ok (.istore_n 3, 1) := by decide +kernel
theorem d_Mod_count_95 : decode (mB m_Mod_count) 95 = .ok (.iinc 4 1, 3) := by decide +kernel
theorem d_Mod_count_98 : decode (mB m_Mod_count) 98 = .ok (.goto (-37), 3) := by decide +kernel
theorem d_Mod_count_101 : decode (mB m_Mod_count) 101 = .ok (.iload_n 2, 1) := by decide +kernel
theorem d_Mod_count_102 : decode (mB m_Mod_count) 102 = .ok (.tableswitch 51 0 3 #[30, 37, 44, 46], 30) := by decide +kernel
theorem d_Mod_count_132 : decode (mB m_Mod_count) 132 = .ok (.aload_n 0, 1) := by decide +kernel
theorem d_Mod_count_133 : decode (mB m_Mod_count) 133 = .ok (.getfield 96, 3) := by decide +kernel
theorem d_Mod_count_136 : decode (mB m_Mod_count) 136 = .ok (.iload_n 1, 1) := by decide +kernel
theorem d_Mod_count_137 : decode (mB m_Mod_count) 137 = .ok (.iaload, 1) := by decide +kernel
theorem d_Mod_count_138 : decode (mB m_Mod_count) 138 = .ok (.ireturn, 1) := by decide +kernel
theorem d_Mod_count_139 : decode (mB m_Mod_count) 139 = .ok (.aload_n 0, 1) := by decide +kernel
theorem d_Mod_count_140 : decode (mB m_Mod_count) 140 = .ok (.getfield 99, 3) := by decide +kernel
theorem d_Mod_count_143 : decode (mB m_Mod_count) 143 = .ok (.iload_n 1, 1) := by decide +kernel
theorem d_Mod_count_144 : decode (mB m_Mod_count) 144 = .ok (.iaload, 1) := by decide +kernel
theorem d_Mod_count_145 : decode (mB m_Mod_count) 145 = .ok (.ireturn, 1) := by decide +kernel
theorem d_Mod_count_146 : decode (mB m_Mod_count) 146 = .ok (.iload_n 3, 1) := by decide +kernel
theorem d_Mod_count_147 : decode (mB m_Mod_count) 147 = .ok (.ireturn, 1) := by decide +kernel
theorem d_Mod_count_148 : decode (mB m_Mod_count) 148 = .ok (.aload_n 0, 1) := by decide +kernel
theorem d_Mod_count_149 : decode (mB m_Mod_count) 149 = .ok (.getfield 227, 3) := by decide +kernel
theorem d_Mod_count_152 : decode (mB m_Mod_count) 152 = .ok (.ireturn, 1) := by decide +kernel
theorem d_Mod_count_153 : decode (mB m_Mod_count) 153 = .ok (.aload_n 0, 1) := by decide +kernel
theorem d_Mod_count_154 : decode (mB m_Mod_count) 154 = .ok (.getfield 189, 3) := by decide +kernel
theorem d_Mod_count_157 : decode (mB m_Mod_count) 157 = .ok (.ireturn, 1) := by decide +kernel
theorem cal_Mod_count : mCal m_Mod_count 2 := ⟨Or.inl ⟨rfl, goodIn_r _ [1292] (by decide +kernel) (by decide +kernel)⟩, by decide, ⟨by decide, by decide⟩, by decide +kernel⟩
