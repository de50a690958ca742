abbrev b_Net_init : ByteArray := prog_1_method_1_code
def m_Net_init : Mi := (⟨"TextNet", "<init>", "()V"⟩, b_Net_init, 2, none, [])
theorem d_Net_init_0 : decode (mB m_Net_init) 0 = .ok (.aload_n 0, 1) := by decide +kernel
theorem d_Net_init_1 : decode (mB m_Net_init) 1 = .ok (.invokespecial 1, 3) := by decide +kernel
theorem d_Net_init_4 : decode (mB m_Net_init) 4 = .ok (.aload_n 0, 1) := by decide +kernel
theorem d_Net_init_5 : decode (mB m_Net_init) 5 = .ok (.new 7, 3) := by decide +kernel
theorem d_Net_init_8 : decode (mB m_Net_init) 8 = .ok (.dup, 1) := by decide +kernel
theorem d_Net_init_9 : decode (mB m_Net_init) 9 = .ok (.invokespecial 9, 3) := by decide +kernel
theorem d_Net_init_12 : decode (mB m_Net_init) 12 = .ok (.putfield 10, 3) := by decide +kernel
theorem d_Net_init_15 : decode (mB m_Net_init) 15 = .ok (.aload_n 0, 1) := by decide +kernel
theorem d_Net_init_16 : decode (mB m_Net_init) 16 = .ok (.bipush 6, 2) := by decide +kernel
theorem d_Net_init_18 : decode (mB m_Net_init) 18 = .ok (.anewarray 16, 3) := by decide +kernel
theorem d_Net_init_21 : decode (mB m_Net_init) 21 = .ok (.putfield 18, 3) := by decide +kernel
theorem d_Net_init_24 : decode (mB m_Net_init) 24 = .ok (.aload_n 0, 1) := by decide +kernel
theorem d_Net_init_25 : decode (mB m_Net_init) 25 = .ok (.bipush 8, 2) := by decide +kernel
theorem d_Net_init_27 : decode (mB m_Net_init) 27 = .ok (.anewarray 22, 3) := by decide +kernel
theorem d_Net_init_30 : decode (mB m_Net_init) 30 = .ok (.putfield 24, 3) := by decide +kernel
theorem d_Net_init_33 : decode (mB m_Net_init) 33 = .ok (.aload_n 0, 1) := by decide +kernel
theorem d_Net_init_34 : decode (mB m_Net_init) 34 = .ok (.sipush 200, 3) := by decide +kernel
theorem d_Net_init_37 : decode (mB m_Net_init) 37 = .ok (.anewarray 28, 3) := by decide +kernel
theorem d_Net_init_40 : decode (mB m_Net_init) 40 = .ok (.putfield 30, 3) := by decide +kernel
theorem d_Net_init_43 : decode (mB m_Net_init) 43 = .ok (.aload_n 0, 1) := by decide +kernel
theorem d_Net_init_44 : decode (mB m_Net_init) 44 = .ok (.bipush 8, 2) := by decide +kernel
theorem d_Net_init_46 : decode (mB m_Net_init) 46 = .ok (.newarray .int, 2) := by decide +kernel
theorem d_Net_init_48 : decode (mB m_Net_init) 48 = .ok (.putfield 34, 3) := by decide +kernel
theorem d_Net_init_51 : decode (mB m_Net_init) 51 = .ok (.iconst 0, 1) := by decide +kernel
theorem d_Net_init_52 : decode (mB m_Net_init) 52 = .ok (.istore_n 1, 1) := by decide +kernel
theorem d_Net_init_53 : decode (mB m_Net_init) 53 = .ok (.iload_n 1, 1) := by decide +kernel
theorem d_Net_init_54 : decode (mB m_Net_init) 54 = .ok (.bipush 6, 2) := by decide +kernel
theorem d_Net_init_56 : decode (mB m_Net_init) 56 = .ok (.if_icmp .ge 22, 3) := by decide +kernel
theorem d_Net_init_59 : decode (mB m_Net_init) 59 = .ok (.aload_n 0, 1) := by decide +kernel
theorem d_Net_init_60 : decode (mB m_Net_init) 60 = .ok (.getfield 18, 3) := by decide +kernel
theorem d_Net_init_63 : decode (mB m_Net_init) 63 = .ok (.iload_n 1, 1) := by decide +kernel
theorem d_Net_init_64 : decode (mB m_Net_init) 64 = .ok (.new 16, 3) := by decide +kernel
theorem d_Net_init_67 : decode (mB m_Net_init) 67 = .ok (.dup, 1) := by decide +kernel
theorem d_Net_init_68 : decode (mB m_Net_init) 68 = .ok (.invokespecial 38, 3) := by decide +kernel
theorem d_Net_init_71 : decode (mB m_Net_init) 71 = .ok (.aastore, 1) := by decide +kernel
theorem d_Net_init_72 : decode (mB m_Net_init) 72 = .ok (.iinc 1 1, 3) := by decide +kernel
theorem d_Net_init_75 : decode (mB m_Net_init) 75 = .ok (.goto (-22), 3) := by decide +kernel
theorem d_Net_init_78 : decode (mB m_Net_init) 78 = .ok (.return_, 1) := by decide +kernel
theorem cal_Net_init : mCal m_Net_init 0 := ⟨Or.inl ⟨rfl, goodIn_r _ [68] (by decide +kernel) (by decide +kernel)⟩, by decide, ⟨by decide, by decide⟩, by decide +kernel⟩
abbrev b_Net_line : ByteArray := prog_1_method_2_code
def m_Net_line : Mi := (⟨"TextNet", "line", "(III)V"⟩, b_Net_line, 6, none, [])
theorem d_Net_line_0 : decode (mB m_Net_line) 0 = .ok (.aload_n 0, 1) := by decide +kernel
theorem d_Net_line_1 : decode (mB m_Net_line) 1 = .ok (.iload_n 2, 1) := by decide +kernel
theorem d_Net_line_2 : decode (mB m_Net_line) 2 = .ok (.invokevirtual 39, 3) := by decide +kernel
theorem d_Net_line_5 : decode (mB m_Net_line) 5 = .ok (.astore 4, 2) := by decide +kernel
theorem d_Net_line_7 : decode (mB m_Net_line) 7 = .ok (.aload_n 0, 1) := by decide +kernel
theorem d_Net_line_8 : decode (mB m_Net_line) 8 = .ok (.iload_n 3, 1) := by decide +kernel
theorem d_Net_line_9 : decode (mB m_Net_line) 9 = .ok (.invokevirtual 39, 3) := by decide +kernel
theorem d_Net_line_12 : decode (mB m_Net_line) 12 = .ok (.astore 5, 2) := by decide +kernel
theorem d_Net_line_14 : decode (mB m_Net_line) 14 = .ok (.iload_n 1, 1) := by decide +kernel
theorem d_Net_line_15 : decode (mB m_Net_line) 15 = .ok (.ifCond .lt 23, 3) := by decide +kernel
theorem d_Net_line_18 : decode (mB m_Net_line) 18 = .ok (.iload_n 1, 1) := by decide +kernel
theorem d_Net_line_19 : decode (mB m_Net_line) 19 = .ok (.bipush 8, 2) := by decide +kernel
theorem d_Net_line_21 : decode (mB m_Net_line) 21 = .ok (.if_icmp .ge 17, 3) := by decide +kernel
theorem d_Net_line_24 : decode (mB m_Net_line) 24 = .ok (.aload_n 0, 1) := by decide +kernel
theorem d_Net_line_25 : decode (mB m_Net_line) 25 = .ok (.getfield 24, 3) := by decide +kernel
theorem d_Net_line_28 : decode (mB m_Net_line) 28 = .ok (.iload_n 1, 1) := by decide +kernel
theorem d_Net_line_29 : decode (mB m_Net_line) 29 = .ok (.aaload, 1) := by decide +kernel
theorem d_Net_line_30 : decode (mB m_Net_line) 30 = .ok (.ifnonnull 8, 3) := by decide +kernel
theorem d_Net_line_33 : decode (mB m_Net_line) 33 = .ok (.iload_n 2, 1) := by decide +kernel
theorem d_Net_line_34 : decode (mB m_Net_line) 34 = .ok (.iload_n 3, 1) := by decide +kernel
theorem d_Net_line_35 : decode (mB m_Net_line) 35 = .ok (.if_icmp .ne 13, 3) := by decide +kernel
theorem d_Net_line_38 : decode (mB m_Net_line) 38 = .ok (.new 43, 3) := by decide +kernel
theorem d_Net_line_41 : decode (mB m_Net_line) 41 = .ok (.dup, 1) := by decide +kernel
theorem d_Net_line_42 : decode (mB m_Net_line) 42 = .ok (.ldc 45, 2) := by decide +kernel
theorem d_Net_line_44 : decode (mB m_Net_line) 44 = .ok (.invokespecial 47, 3) := by decide +kernel
theorem d_Net_line_47 : decode (mB m_Net_line) 47 = .ok (.athrow, 1) := by decide +kernel
theorem d_Net_line_48 : decode (mB m_Net_line) 48 = .ok (.aload 4, 2) := by decide +kernel
theorem d_Net_line_50 : decode (mB m_Net_line) 50 = .ok (.getfield 50, 3) := by decide +kernel
theorem d_Net_line_53 : decode (mB m_Net_line) 53 = .ok (.iconst 4, 1) := by decide +kernel
theorem d_Net_line_54 : decode (mB m_Net_line) 54 = .ok (.if_icmp .ge 12, 3) := by decide +kernel
theorem d_Net_line_57 : decode (mB m_Net_line) 57 = .ok (.aload 5, 2) := by decide +kernel
theorem d_Net_line_59 : decode (mB m_Net_line) 59 = .ok (.getfield 50, 3) := by decide +kernel
theorem d_Net_line_62 : decode (mB m_Net_line) 62 = .ok (.iconst 4, 1) := by decide +kernel
theorem d_Net_line_63 : decode (mB m_Net_line) 63 = .ok (.if_icmp .lt 13, 3) := by decide +kernel
theorem d_Net_line_66 : decode (mB m_Net_line) 66 = .ok (.new 43, 3) := by decide +kernel
theorem d_Net_line_69 : decode (mB m_Net_line) 69 = .ok (.dup, 1) := by decide +kernel
theorem d_Net_line_70 : decode (mB m_Net_line) 70 = .ok (.ldc 54, 2) := by decide +kernel
theorem d_Net_line_72 : decode (mB m_Net_line) 72 = .ok (.invokespecial 47, 3) := by decide +kernel
theorem d_Net_line_75 : decode (mB m_Net_line) 75 = .ok (.athrow, 1) := by decide +kernel
theorem d_Net_line_76 : decode (mB m_Net_line) 76 = .ok (.aload_n 0, 1) := by decide +kernel
theorem d_Net_line_77 : decode (mB m_Net_line) 77 = .ok (.getfield 24, 3) := by decide +kernel
theorem d_Net_line_80 : decode (mB m_Net_line) 80 = .ok (.iload_n 1, 1) := by decide +kernel
theorem d_Net_line_81 : decode (mB m_Net_line) 81 = .ok (.new 22, 3) := by decide +kernel
theorem d_Net_line_84 : decode (mB m_Net_line) 84 = .ok (.dup, 1) := by decide +kernel
theorem d_Net_line_85 : decode (mB m_Net_line) 85 = .ok (.iload_n 2, 1) := by decide +kernel
theorem d_Net_line_86 : decode (mB m_Net_line) 86 = .ok (.iload_n 3, 1) := by decide +kernel
theorem d_Net_line_87 : decode (mB m_Net_line) 87 = .ok (.invokespecial 56, 3) := by decide +kernel
theorem d_Net_line_90 : decode (mB m_Net_line) 90 = .ok (.aastore, 1) := by decide +kernel
theorem d_Net_line_91 : decode (mB m_Net_line) 91 = .ok (.aload 4, 2) := by decide +kernel
theorem d_Net_line_93 : decode (mB m_Net_line) 93 = .ok (.dup, 1) := by decide +kernel
theorem d_Net_line_94 : decode (mB m_Net_line) 94 = .ok (.getfield 50, 3) := by decide +kernel
theorem d_Net_line_97 : decode (mB m_Net_line) 97 = .ok (.iconst 1, 1) := by decide +kernel
theorem d_Net_line_98 : decode (mB m_Net_line) 98 = .ok (.iadd, 1) := by decide +kernel
theorem d_Net_line_99 : decode (mB m_Net_line) 99 = .ok (.putfield 50, 3) := by decide +kernel
theorem d_Net_line_102 : decode (mB m_Net_line) 102 = .ok (.aload 5, 2) := by decide +kernel
theorem d_Net_line_104 : decode (mB m_Net_line) 104 = .ok (.dup, 1) := by decide +kernel
theorem d_Net_line_105 : decode (mB m_Net_line) 105 = .ok (.getfield 50, 3) := by decide +kernel
theorem d_Net_line_108 : decode (mB m_Net_line) 108 = .ok (.iconst 1, 1) := by decide +kernel
theorem d_Net_line_109 : decode (mB m_Net_line) 109 = .ok (.iadd, 1) := by decide +kernel
theorem d_Net_line_110 : decode (mB m_Net_line) 110 = .ok (.putfield 50, 3) := by decide +kernel
theorem d_Net_line_113 : decode (mB m_Net_line) 113 = .ok (.return_, 1) := by decide +kernel
theorem cal_Net_line : mCal m_Net_line 3 := ⟨Or.inl ⟨rfl, goodIn_r _ [193] (by decide +kernel) (by decide +kernel)⟩, by decide, ⟨by decide, by decide⟩, by decide +kernel⟩
abbrev b_Net_route : ByteArray := prog_1_method_3_code
def m_Net_route : Mi := (⟨"TextNet", "route", "(IIIIII)V"⟩, b_Net_route, 10, none, [])
theorem d_Net_route_0 : decode (mB m_Net_route) 0 = .ok (.aload_n 0, 1) := by decide +kernel
theorem d_Net_route_1 : decode (mB m_Net_route) 1 = .ok (.iload_n 1, 1) := by decide +kernel
theorem d_Net_route_2 : decode (mB m_Net_route) 2 = .ok (.invokevirtual 39, 3) := by decide +kernel
theorem d_Net_route_5 : decode (mB m_Net_route) 5 = .ok (.astore 7, 2) := by decide +kernel
theorem d_Net_route_7 : decode (mB m_Net_route) 7 = .ok (.iload_n 2, 1) := by decide +kernel
theorem d_Net_route_8 : decode (mB m_Net_route) 8 = .ok (.i2l, 1) := by decide +kernel
theorem d_Net_route_9 : decode (mB m_Net_route) 9 = .ok (.ldc2_w 59, 3) := by decide +kernel
theorem d_Net_route_12 : decode (mB m_Net_route) 12 = .ok (.land, 1) := by decide +kernel
theorem d_Net_route_13 : decode (mB m_Net_route) 13 = .ok (.iload_n 3, 1) := by decide +kernel
theorem d_Net_route_14 : decode (mB m_Net_route) 14 = .ok (.i2l, 1) := by decide +kernel
theorem d_Net_route_15 : decode (mB m_Net_route) 15 = .ok (.bipush 32, 2) := by decide +kernel
theorem d_Net_route_17 : decode (mB m_Net_route) 17 = .ok (.lshl, 1) := by decide +kernel
theorem d_Net_route_18 : decode (mB m_Net_route) 18 = .ok (.lor, 1) := by decide +kernel
theorem d_Net_route_19 : decode (mB m_Net_route) 19 = .ok (.lstore 8, 2) := by decide +kernel
theorem d_Net_route_21 : decode (mB m_Net_route) 21 = .ok (.lload 8, 2) := by decide +kernel
theorem d_Net_route_23 : decode (mB m_Net_route) 23 = .ok (.iload 4, 2) := by decide +kernel
theorem d_Net_route_25 : decode (mB m_Net_route) 25 = .ok (.invokestatic 61, 3) := by decide +kernel
theorem d_Net_route_28 : decode (mB m_Net_route) 28 = .ok (.ifCond .eq 13, 3) := by decide +kernel
theorem d_Net_route_31 : decode (mB m_Net_route) 31 = .ok (.aload 7, 2) := by decide +kernel
theorem d_Net_route_33 : decode (mB m_Net_route) 33 = .ok (.lload 8, 2) := by decide +kernel
theorem d_Net_route_35 : decode (mB m_Net_route) 35 = .ok (.invokevirtual 65, 3) := by decide +kernel
theorem d_Net_route_38 : decode (mB m_Net_route) 38 = .ok (.ifCond .eq 13, 3) := by decide +kernel
theorem d_Net_route_41 : decode (mB m_Net_route) 41 = .ok (.new 43, 3) := by decide +kernel
theorem d_Net_route_44 : decode (mB m_Net_route) 44 = .ok (.dup, 1) := by decide +kernel
theorem d_Net_route_45 : decode (mB m_Net_route) 45 = .ok (.ldc 69, 2) := by decide +kernel
theorem d_Net_route_47 : decode (mB m_Net_route) 47 = .ok (.invokespecial 47, 3) := by decide +kernel
theorem d_Net_route_50 : decode (mB m_Net_route) 50 = .ok (.athrow, 1) := by decide +kernel
theorem d_Net_route_51 : decode (mB m_Net_route) 51 = .ok (.aload_n 0, 1) := by decide +kernel
theorem d_Net_route_52 : decode (mB m_Net_route) 52 = .ok (.iload_n 1, 1) := by decide +kernel
theorem d_Net_route_53 : decode (mB m_Net_route) 53 = .ok (.iload 5, 2) := by decide +kernel
theorem d_Net_route_55 : decode (mB m_Net_route) 55 = .ok (.invokevirtual 71, 3) := by decide +kernel
theorem d_Net_route_58 : decode (mB m_Net_route) 58 = .ok (.ifCond .eq 13, 3) := by decide +kernel
theorem d_Net_route_61 : decode (mB m_Net_route) 61 = .ok (.aload_n 0, 1) := by decide +kernel
theorem d_Net_route_62 : decode (mB m_Net_route) 62 = .ok (.iload_n 1, 1) := by decide +kernel
theorem d_Net_route_63 : decode (mB m_Net_route) 63 = .ok (.iload 6, 2) := by decide +kernel
theorem d_Net_route_65 : decode (mB m_Net_route) 65 = .ok (.invokevirtual 71, 3) := by decide +kernel
theorem d_Net_route_68 : decode (mB m_Net_route) 68 = .ok (.ifCond .ne 13, 3) := by decide +kernel
theorem d_Net_route_71 : decode (mB m_Net_route) 71 = .ok (.new 43, 3) := by decide +kernel
theorem d_Net_route_74 : decode (mB m_Net_route) 74 = .ok (.dup, 1) := by decide +kernel
theorem d_Net_route_75 : decode (mB m_Net_route) 75 = .ok (.ldc 75, 2) := by decide +kernel
theorem d_Net_route_77 : decode (mB m_Net_route) 77 = .ok (.invokespecial 47, 3) := by decide +kernel
theorem d_Net_route_80 : decode (mB m_Net_route) 80 = .ok (.athrow, 1) := by decide +kernel
theorem d_Net_route_81 : decode (mB m_Net_route) 81 = .ok (.iload 5, 2) := by decide +kernel
theorem d_Net_route_83 : decode (mB m_Net_route) 83 = .ok (.iload 6, 2) := by decide +kernel
theorem d_Net_route_85 : decode (mB m_Net_route) 85 = .ok (.if_icmp .ne 19, 3) := by decide +kernel
theorem d_Net_route_88 : decode (mB m_Net_route) 88 = .ok (.iload 5, 2) := by decide +kernel
theorem d_Net_route_90 : decode (mB m_Net_route) 90 = .ok (.iconst (-1), 1) := by decide +kernel
theorem d_Net_route_91 : decode (mB m_Net_route) 91 = .ok (.if_icmp .eq 13, 3) := by decide +kernel
theorem d_Net_route_94 : decode (mB m_Net_route) 94 = .ok (.new 43, 3) := by decide +kernel
theorem d_Net_route_97 : decode (mB m_Net_route) 97 = .ok (.dup, 1) := by decide +kernel
theorem d_Net_route_98 : decode (mB m_Net_route) 98 = .ok (.ldc 77, 2) := by decide +kernel
theorem d_Net_route_100 : decode (mB m_Net_route) 100 = .ok (.invokespecial 47, 3) := by decide +kernel
theorem d_Net_route_103 : decode (mB m_Net_route) 103 = .ok (.athrow, 1) := by decide +kernel
theorem d_Net_route_104 : decode (mB m_Net_route) 104 = .ok (.aload 7, 2) := by decide +kernel
theorem d_Net_route_106 : decode (mB m_Net_route) 106 = .ok (.getfield 79, 3) := by decide +kernel
theorem d_Net_route_109 : decode (mB m_Net_route) 109 = .ok (.bipush 16, 2) := by decide +kernel
theorem d_Net_route_111 : decode (mB m_Net_route) 111 = .ok (.if_icmp .lt 13, 3) := by decide +kernel
theorem d_Net_route_114 : decode (mB m_Net_route) 114 = .ok (.new 82, 3) := by decide +kernel
theorem d_Net_route_117 : decode (mB m_Net_route) 117 = .ok (.dup, 1) := by decide +kernel
theorem d_Net_route_118 : decode (mB m_Net_route) 118 = .ok (.ldc 84, 2) := by decide +kernel
theorem d_Net_route_120 : decode (mB m_Net_route) 120 = .ok (.invokespecial 86, 3) := by decide +kernel
theorem d_Net_route_123 : decode (mB m_Net_route) 123 = .ok (.athrow, 1) := by decide +kernel
theorem d_Net_route_124 : decode (mB m_Net_route) 124 = .ok (.aload 7, 2) := by decide +kernel
theorem d_Net_route_126 : decode (mB m_Net_route) 126 = .ok (.new 87, 3) := by decide +kernel
theorem d_Net_route_129 : decode (mB m_Net_route) 129 = .ok (.dup, 1) := by decide +kernel
theorem d_Net_route_130 : decode (mB m_Net_route) 130 = .ok (.lload 8, 2) := by decide +kernel
theorem d_Net_route_132 : decode (mB m_Net_route) 132 = .ok (.iload 4, 2) := by decide +kernel
theorem d_Net_route_134 : decode (mB m_Net_route) 134 = .ok (.iload 5, 2) := by decide +kernel
theorem d_Net_route_136 : decode (mB m_Net_route) 136 = .ok (.iload 6, 2) := by decide +kernel
theorem d_Net_route_138 : decode (mB m_Net_route) 138 = .ok (.invokespecial 89, 3) := by decide +kernel
theorem d_Net_route_141 : decode (mB m_Net_route) 141 = .ok (.invokevirtual 92, 3) := by decide +kernel
theorem d_Net_route_144 : decode (mB m_Net_route) 144 = .ok (.return_, 1) := by decide +kernel
theorem cal_Net_route : mCal m_Net_route 6 := ⟨Or.inl ⟨rfl, goodIn_r _ [359] (by decide +kernel) (by decide +kernel)⟩, by decide, ⟨by decide, by decide⟩, by decide +kernel⟩
abbrev b_Net_put : ByteArray := prog_1_method_4_code
def m_Net_put : Mi := (⟨"TextNet", "put", "(II)V"⟩, b_Net_put, 3, none, [])
theorem d_Net_put_0 : decode (mB m_Net_put) 0 = .ok (.iload_n 1, 1) := by decide +kernel
theorem d_Net_put_1 : decode (mB m_Net_put) 1 = .ok (.ifCond .lt 10, 3) := by decide +kernel
theorem d_Net_put_4 : decode (mB m_Net_put) 4 = .ok (.iload_n 1, 1) := by decide +kernel
theorem d_Net_put_5 : decode (mB m_Net_put) 5 = .ok (.sipush 1600, 3) := by decide +kernel
theorem d_Net_put_8 : decode (mB m_Net_put) 8 = .ok (.if_icmp .lt 13, 3) := by decide +kernel
theorem d_Net_put_11 : decode (mB m_Net_put) 11 = .ok (.new 43, 3) := by decide +kernel
theorem d_Net_put_14 : decode (mB m_Net_put) 14 = .ok (.dup, 1) := by decide +kernel
theorem d_Net_put_15 : decode (mB m_Net_put) 15 = .ok (.ldc 96, 2) := by decide +kernel
theorem d_Net_put_17 : decode (mB m_Net_put) 17 = .ok (.invokespecial 47, 3) := by decide +kernel
theorem d_Net_put_20 : decode (mB m_Net_put) 20 = .ok (.athrow, 1) := by decide +kernel
theorem d_Net_put_21 : decode (mB m_Net_put) 21 = .ok (.aload_n 0, 1) := by decide +kernel
theorem d_Net_put_22 : decode (mB m_Net_put) 22 = .ok (.getfield 10, 3) := by decide +kernel
theorem d_Net_put_25 : decode (mB m_Net_put) 25 = .ok (.iload_n 1, 1) := by decide +kernel
theorem d_Net_put_26 : decode (mB m_Net_put) 26 = .ok (.iload_n 2, 1) := by decide +kernel
theorem d_Net_put_27 : decode (mB m_Net_put) 27 = .ok (.invokevirtual 98, 3) := by decide +kernel
theorem d_Net_put_30 : decode (mB m_Net_put) 30 = .ok (.return_, 1) := by decide +kernel
theorem cal_Net_put : mCal m_Net_put 2 := ⟨Or.inl ⟨rfl, goodIn_r _ [439] (by decide +kernel) (by decide +kernel)⟩, by decide, ⟨by decide, by decide⟩, by decide +kernel⟩
abbrev b_Net_file : ByteArray := prog_1_method_5_code
def m_Net_file : Mi := (⟨"TextNet", "file", "(II)I"⟩, b_Net_file, 4, (some .int), [])
theorem d_Net_file_0 : decode (mB m_Net_file) 0 = .ok (.aload_n 0, 1) := by decide +kernel
theorem d_Net_file_1 : decode (mB m_Net_file) 1 = .ok (.iload_n 1, 1) := by decide +kernel
theorem d_Net_file_2 : decode (mB m_Net_file) 2 = .ok (.invokevirtual 39, 3) := by decide +kernel
theorem d_Net_file_5 : decode (mB m_Net_file) 5 = .ok (.pop, 1) := by decide +kernel
theorem d_Net_file_6 : decode (mB m_Net_file) 6 = .ok (.iload_n 2, 1) := by decide +kernel
theorem d_Net_file_7 : decode (mB m_Net_file) 7 = .ok (.ifCond .lt 10, 3) := by decide +kernel
theorem d_Net_file_10 : decode (mB m_Net_file) 10 = .ok (.iload_n 2, 1) := by decide +kernel
theorem d_Net_file_11 : decode (mB m_Net_file) 11 = .ok (.sipush 1600, 3) := by decide +kernel
theorem d_Net_file_14 : decode (mB m_Net_file) 14 = .ok (.if_icmp .le 13, 3) := by decide +kernel
theorem d_Net_file_17 : decode (mB m_Net_file) 17 = .ok (.new 43, 3) := by decide +kernel
theorem d_Net_file_20 : decode (mB m_Net_file) 20 = .ok (.dup, 1) := by decide +kernel
theorem d_Net_file_21 : decode (mB m_Net_file) 21 = .ok (.ldc 101, 2) := by decide +kernel
theorem d_Net_file_23 : decode (mB m_Net_file) 23 = .ok (.invokespecial 47, 3) := by decide +kernel
theorem d_Net_file_26 : decode (mB m_Net_file) 26 = .ok (.athrow, 1) := by decide +kernel
theorem d_Net_file_27 : decode (mB m_Net_file) 27 = .ok (.aload_n 0, 1) := by decide +kernel
theorem d_Net_file_28 : decode (mB m_Net_file) 28 = .ok (.getfield 103, 3) := by decide +kernel
theorem d_Net_file_31 : decode (mB m_Net_file) 31 = .ok (.sipush 200, 3) := by decide +kernel
theorem d_Net_file_34 : decode (mB m_Net_file) 34 = .ok (.if_icmp .lt 13, 3) := by decide +kernel
theorem d_Net_file_37 : decode (mB m_Net_file) 37 = .ok (.new 82, 3) := by decide +kernel
theorem d_Net_file_40 : decode (mB m_Net_file) 40 = .ok (.dup, 1) := by decide +kernel
theorem d_Net_file_41 : decode (mB m_Net_file) 41 = .ok (.ldc 106, 2) := by decide +kernel
theorem d_Net_file_43 : decode (mB m_Net_file) 43 = .ok (.invokespecial 86, 3) := by decide +kernel
theorem d_Net_file_46 : decode (mB m_Net_file) 46 = .ok (.athrow, 1) := by decide +kernel
theorem d_Net_file_47 : decode (mB m_Net_file) 47 = .ok (.aload_n 0, 1) := by decide +kernel
theorem d_Net_file_48 : decode (mB m_Net_file) 48 = .ok (.getfield 10, 3) := by decide +kernel
theorem d_Net_file_51 : decode (mB m_Net_file) 51 = .ok (.iload_n 2, 1) := by decide +kernel
theorem d_Net_file_52 : decode (mB m_Net_file) 52 = .ok (.invokevirtual 108, 3) := by decide +kernel
theorem d_Net_file_55 : decode (mB m_Net_file) 55 = .ok (.ifCond .ne 11, 3) := by decide +kernel
theorem d_Net_file_58 : decode (mB m_Net_file) 58 = .ok (.aload_n 0, 1) := by decide +kernel
theorem d_Net_file_59 : decode (mB m_Net_file) 59 = .ok (.getfield 10, 3) := by decide +kernel
theorem d_Net_file_62 : decode (mB m_Net_file) 62 = .ok (.getfield 112, 3) := by decide +kernel
theorem d_Net_file_65 : decode (mB m_Net_file) 65 = .ok (.ireturn, 1) := by decide +kernel
theorem d_Net_file_66 : decode (mB m_Net_file) 66 = .ok (.aload_n 0, 1) := by decide +kernel
theorem d_Net_file_67 : decode (mB m_Net_file) 67 = .ok (.getfield 10, 3) := by decide +kernel
theorem d_Net_file_70 : decode (mB m_Net_file) 70 = .ok (.invokevirtual 115, 3) := by decide +kernel
theorem d_Net_file_73 : decode (mB m_Net_file) 73 = .ok (.astore_n 3, 1) := by decide +kernel
theorem d_Net_file_74 : decode (mB m_Net_file) 74 = .ok (.aload_n 0, 1) := by decide +kernel
theorem d_Net_file_75 : decode (mB m_Net_file) 75 = .ok (.getfield 30, 3) := by decide +kernel
theorem d_Net_file_78 : decode (mB m_Net_file) 78 = .ok (.aload_n 0, 1) := by decide +kernel
theorem d_Net_file_79 : decode (mB m_Net_file) 79 = .ok (.getfield 103, 3) := by decide +kernel
theorem d_Net_file_82 : decode (mB m_Net_file) 82 = .ok (.aload_n 3, 1) := by decide +kernel
theorem d_Net_file_83 : decode (mB m_Net_file) 83 = .ok (.aastore, 1) := by decide +kernel
theorem d_Net_file_84 : decode (mB m_Net_file) 84 = .ok (.aload_n 0, 1) := by decide +kernel
theorem d_Net_file_85 : decode (mB m_Net_file) 85 = .ok (.dup, 1) := by decide +kernel
theorem d_Net_file_86 : decode (mB m_Net_file) 86 = .ok (.getfield 103, 3) := by decide +kernel
theorem d_Net_file_89 : decode (mB m_Net_file) 89 = .ok (.iconst 1, 1) := by decide +kernel
theorem d_Net_file_90 : decode (mB m_Net_file) 90 = .ok (.iadd, 1) := by decide +kernel
theorem d_Net_file_91 : decode (mB m_Net_file) 91 = .ok (.putfield 103, 3) := by decide +kernel
theorem d_Net_file_94 : decode (mB m_Net_file) 94 = .ok (.aload_n 0, 1) := by decide +kernel
theorem d_Net_file_95 : decode (mB m_Net_file) 95 = .ok (.iload_n 1, 1) := by decide +kernel
theorem d_Net_file_96 : decode (mB m_Net_file) 96 = .ok (.aload_n 3, 1) := by decide +kernel
theorem d_Net_file_97 : decode (mB m_Net_file) 97 = .ok (.aload_n 3, 1) := by decide +kernel
theorem d_Net_file_98 : decode (mB m_Net_file) 98 = .ok (.invokevirtual 119, 3) := by decide +kernel
theorem d_Net_file_101 : decode (mB m_Net_file) 101 = .ok (.iconst (-1), 1) := by decide +kernel
theorem d_Net_file_102 : decode (mB m_Net_file) 102 = .ok (.invokevirtual 123, 3) := by decide +kernel
theorem d_Net_file_105 : decode (mB m_Net_file) 105 = .ok (.aload_n 0, 1) := by decide +kernel
theorem d_Net_file_106 : decode (mB m_Net_file) 106 = .ok (.getfield 103, 3) := by decide +kernel
theorem d_Net_file_109 : decode (mB m_Net_file) 109 = .ok (.ireturn, 1) := by decide +kernel
theorem cal_Net_file : mCal m_Net_file 2 := ⟨Or.inl ⟨rfl, goodIn_r _ [451] (by decide +kernel) (by decide +kernel)⟩, by decide, ⟨by decide, by decide⟩, by decide +kernel⟩
abbrev b_Net_send : ByteArray := prog_1_method_6_code
def m_Net_send : Mi := (⟨"TextNet", "send", "(II)I"⟩, b_Net_send, 5, (some .int), [])
theorem d_Net_send_0 : decode (mB m_Net_send) 0 = .ok (.aload_n 0, 1) := by decide +kernel
theorem d_Net_send_1 : decode (mB m_Net_send) 1 = .ok (.iload_n 1, 1) := by decide +kernel
theorem d_Net_send_2 : decode (mB m_Net_send) 2 = .ok (.invokevirtual 127, 3) := by decide +kernel
theorem d_Net_send_5 : decode (mB m_Net_send) 5 = .ok (.astore_n 3, 1) := by decide +kernel
theorem d_Net_send_6 : decode (mB m_Net_send) 6 = .ok (.aload_n 3, 1) := by decide +kernel
theorem d_Net_send_7 : decode (mB m_Net_send) 7 = .ok (.iload_n 2, 1) := by decide +kernel
theorem d_Net_send_8 : decode (mB m_Net_send) 8 = .ok (.invokevirtual 131, 3) := by decide +kernel
theorem d_Net_send_11 : decode (mB m_Net_send) 11 = .ok (.astore 4, 2) := by decide +kernel
theorem d_Net_send_13 : decode (mB m_Net_send) 13 = .ok (.aload_n 3, 1) := by decide +kernel
theorem d_Net_send_14 : decode (mB m_Net_send) 14 = .ok (.getfield 135, 3) := by decide +kernel
theorem d_Net_send_17 : decode (mB m_Net_send) 17 = .ok (.ifCond .eq 15, 3) := by decide +kernel
theorem d_Net_send_20 : decode (mB m_Net_send) 20 = .ok (.aload 4, 2) := by decide +kernel
theorem d_Net_send_22 : decode (mB m_Net_send) 22 = .ok (.aload_n 0, 1) := by decide +kernel
theorem d_Net_send_23 : decode (mB m_Net_send) 23 = .ok (.getfield 139, 3) := by decide +kernel
theorem d_Net_send_26 : decode (mB m_Net_send) 26 = .ok (.invokevirtual 142, 3) := by decide +kernel
theorem d_Net_send_29 : decode (mB m_Net_send) 29 = .ok (.goto 4, 3) := by decide +kernel
theorem d_Net_send_32 : decode (mB m_Net_send) 32 = .ok (.iconst 0, 1) := by decide +kernel
theorem d_Net_send_33 : decode (mB m_Net_send) 33 = .ok (.ireturn, 1) := by decide +kernel
theorem cal_Net_send : mCal m_Net_send 2 := ⟨Or.inl ⟨rfl, goodIn_r _ [757] (by decide +kernel) (by decide +kernel)⟩, by decide, ⟨by decide, by decide⟩, by decide +kernel⟩
abbrev b_Net_carry : ByteArray := prog_1_method_7_code
def m_Net_carry : Mi := (⟨"TextNet", "carry", "(II)I"⟩, b_Net_carry, 7, (some .int), [])
theorem d_Net_carry_0 : decode (mB m_Net_carry) 0 = .ok (.aload_n 0, 1) := by decide +kernel
theorem d_Net_carry_1 : decode (mB m_Net_carry) 1 = .ok (.iload_n 1, 1) := by decide +kernel
theorem d_Net_carry_2 : decode (mB m_Net_carry) 2 = .ok (.invokevirtual 127, 3) := by decide +kernel
theorem d_Net_carry_5 : decode (mB m_Net_carry) 5 = .ok (.astore_n 3, 1) := by decide +kernel
theorem d_Net_carry_6 : decode (mB m_Net_carry) 6 = .ok (.aload_n 3, 1) := by decide +kernel
theorem d_Net_carry_7 : decode (mB m_Net_carry) 7 = .ok (.iload_n 2, 1) := by decide +kernel
theorem d_Net_carry_8 : decode (mB m_Net_carry) 8 = .ok (.invokevirtual 131, 3) := by decide +kernel
theorem d_Net_carry_11 : decode (mB m_Net_carry) 11 = .ok (.astore 4, 2) := by decide +kernel
theorem d_Net_carry_13 : decode (mB m_Net_carry) 13 = .ok (.aload_n 3, 1) := by decide +kernel
theorem d_Net_carry_14 : decode (mB m_Net_carry) 14 = .ok (.iconst 1, 1) := by decide +kernel
theorem d_Net_carry_15 : decode (mB m_Net_carry) 15 = .ok (.iload_n 2, 1) := by decide +kernel
theorem d_Net_carry_16 : decode (mB m_Net_carry) 16 = .ok (.isub, 1) := by decide +kernel
theorem d_Net_carry_17 : decode (mB m_Net_carry) 17 = .ok (.invokevirtual 131, 3) := by decide +kernel
theorem d_Net_carry_20 : decode (mB m_Net_carry) 20 = .ok (.astore 5, 2) := by decide +kernel
theorem d_Net_carry_22 : decode (mB m_Net_carry) 22 = .ok (.aload 4, 2) := by decide +kernel
theorem d_Net_carry_24 : decode (mB m_Net_carry) 24 = .ok (.getfield 148, 3) := by decide +kernel
theorem d_Net_carry_27 : decode (mB m_Net_carry) 27 = .ok (.invokevirtual 152, 3) := by decide +kernel
theorem d_Net_carry_30 : decode (mB m_Net_carry) 30 = .ok (.astore 6, 2) := by decide +kernel
theorem d_Net_carry_32 : decode (mB m_Net_carry) 32 = .ok (.aload 6, 2) := by decide +kernel
theorem d_Net_carry_34 : decode (mB m_Net_carry) 34 = .ok (.ifnonnull 5, 3) := by decide +kernel
theorem d_Net_carry_37 : decode (mB m_Net_carry) 37 = .ok (.iconst 0, 1) := by decide +kernel
theorem d_Net_carry_38 : decode (mB m_Net_carry) 38 = .ok (.ireturn, 1) := by decide +kernel
theorem d_Net_carry_39 : decode (mB m_Net_carry) 39 = .ok (.aload 6, 2) := by decide +kernel
theorem d_Net_carry_41 : decode (mB m_Net_carry) 41 = .ok (.getfield 158, 3) := by decide +kernel
theorem d_Net_carry_44 : decode (mB m_Net_carry) 44 = .ok (.ifnull 12, 3) := by decide +kernel
theorem d_Net_carry_47 : decode (mB m_Net_carry) 47 = .ok (.aload_n 0, 1) := by decide +kernel
theorem d_Net_carry_48 : decode (mB m_Net_carry) 48 = .ok (.aload 6, 2) := by decide +kernel
theorem d_Net_carry_50 : decode (mB m_Net_carry) 50 = .ok (.iload_n 1, 1) := by decide +kernel
theorem d_Net_carry_51 : decode (mB m_Net_carry) 51 = .ok (.iload_n 2, 1) := by decide +kernel
theorem d_Net_carry_52 : decode (mB m_Net_carry) 52 = .ok (.invokevirtual 164, 3) := by decide +kernel
theorem d_Net_carry_55 : decode (mB m_Net_carry) 55 = .ok (.ireturn, 1) := by decide +kernel
theorem d_Net_carry_56 : decode (mB m_Net_carry) 56 = .ok (.aload 6, 2) := by decide +kernel
theorem d_Net_carry_58 : decode (mB m_Net_carry) 58 = .ok (.getfield 168, 3) := by decide +kernel
theorem d_Net_carry_61 : decode (mB m_Net_carry) 61 = .ok (.ifCond .eq 19, 3) := by decide +kernel
theorem d_Net_carry_64 : decode (mB m_Net_carry) 64 = .ok (.aload 5, 2) := by decide +kernel
theorem d_Net_carry_66 : decode (mB m_Net_carry) 66 = .ok (.aload 6, 2) := by decide +kernel
theorem d_Net_carry_68 : decode (mB m_Net_carry) 68 = .ok (.getfield 171, 3) := by decide +kernel
theorem d_Net_carry_71 : decode (mB m_Net_carry) 71 = .ok (.aload_n 0, 1) := by decide +kernel
theorem d_Net_carry_72 : decode (mB m_Net_carry) 72 = .ok (.getfield 139, 3) := by decide +kernel
theorem d_Net_carry_75 : decode (mB m_Net_carry) 75 = .ok (.invokevirtual 174, 3) := by decide +kernel
theorem d_Net_carry_78 : decode (mB m_Net_carry) 78 = .ok (.iconst 5, 1) := by decide +kernel
theorem d_Net_carry_79 : decode (mB m_Net_carry) 79 = .ok (.ireturn, 1) := by decide +kernel
theorem d_Net_carry_80 : decode (mB m_Net_carry) 80 = .ok (.aload 5, 2) := by decide +kernel
theorem d_Net_carry_82 : decode (mB m_Net_carry) 82 = .ok (.aload 6, 2) := by decide +kernel
theorem d_Net_carry_84 : decode (mB m_Net_carry) 84 = .ok (.getfield 171, 3) := by decide +kernel
theorem d_Net_carry_87 : decode (mB m_Net_carry) 87 = .ok (.invokevirtual 177, 3) := by decide +kernel
theorem d_Net_carry_90 : decode (mB m_Net_carry) 90 = .ok (.iconst 4, 1) := by decide +kernel
theorem d_Net_carry_91 : decode (mB m_Net_carry) 91 = .ok (.ireturn, 1) := by decide +kernel
theorem cal_Net_carry : mCal m_Net_carry 2 := ⟨Or.inl ⟨rfl, goodIn_r _ [828] (by decide +kernel) (by decide +kernel)⟩, by decide, ⟨by decide, by decide⟩, by decide +kernel⟩
abbrev b_Net_disturb : ByteArray := prog_1_method_8_code
def m_Net_disturb : Mi := (⟨"TextNet", "disturb", "(III)Z"⟩, b_Net_disturb, 5, (some .boolean), [])
theorem d_Net_disturb_0 : decode (mB m_Net_disturb) 0 = .ok (.aload_n 0, 1) := by decide +kernel
theorem d_Net_disturb_1 : decode (mB m_Net_disturb) 1 = .ok (.iload_n 1, 1) := by decide +kernel
theorem d_Net_disturb_2 : decode (mB m_Net_disturb) 2 = .ok (.invokevirtual 127, 3) := by decide +kernel
theorem d_Net_disturb_5 : decode (mB m_Net_disturb) 5 = .ok (.iload_n 2, 1) := by decide +kernel
theorem d_Net_disturb_6 : decode (mB m_Net_disturb) 6 = .ok (.invokevirtual 131, 3) := by decide +kernel
theorem d_Net_disturb_9 : decode (mB m_Net_disturb) 9 = .ok (.getfield 148, 3) := by decide +kernel
theorem d_Net_disturb_12 : decode (mB m_Net_disturb) 12 = .ok (.astore 4, 2) := by decide +kernel
theorem d_Net_disturb_14 : decode (mB m_Net_disturb) 14 = .ok (.iload_n 3, 1) := by decide +kernel
theorem d_Net_disturb_15 : decode (mB m_Net_disturb) 15 = .ok (.ifCond .eq 18, 3) := by decide +kernel
theorem d_Net_disturb_18 : decode (mB m_Net_disturb) 18 = .ok (.iload_n 3, 1) := by decide +kernel
theorem d_Net_disturb_19 : decode (mB m_Net_disturb) 19 = .ok (.iconst 1, 1) := by decide +kernel
theorem d_Net_disturb_20 : decode (mB m_Net_disturb) 20 = .ok (.if_icmp .eq 13, 3) := by decide +kernel
theorem d_Net_disturb_23 : decode (mB m_Net_disturb) 23 = .ok (.new 43, 3) := by decide +kernel
theorem d_Net_disturb_26 : decode (mB m_Net_disturb) 26 = .ok (.dup, 1) := by decide +kernel
theorem d_Net_disturb_27 : decode (mB m_Net_disturb) 27 = .ok (.ldc 181, 2) := by decide +kernel
theorem d_Net_disturb_29 : decode (mB m_Net_disturb) 29 = .ok (.invokespecial 47, 3) := by decide +kernel
theorem d_Net_disturb_32 : decode (mB m_Net_disturb) 32 = .ok (.athrow, 1) := by decide +kernel
theorem d_Net_disturb_33 : decode (mB m_Net_disturb) 33 = .ok (.iload_n 3, 1) := by decide +kernel
theorem d_Net_disturb_34 : decode (mB m_Net_disturb) 34 = .ok (.ifCond .ne 19, 3) := by decide +kernel
theorem d_Net_disturb_37 : decode (mB m_Net_disturb) 37 = .ok (.aload 4, 2) := by decide +kernel
theorem d_Net_disturb_39 : decode (mB m_Net_disturb) 39 = .ok (.invokevirtual 152, 3) := by decide +kernel
theorem d_Net_disturb_42 : decode (mB m_Net_disturb) 42 = .ok (.ifnull 7, 3) := by decide +kernel
theorem d_Net_disturb_45 : decode (mB m_Net_disturb) 45 = .ok (.iconst 1, 1) := by decide +kernel
theorem d_Net_disturb_46 : decode (mB m_Net_disturb) 46 = .ok (.goto 12, 3) := by decide +kernel
theorem d_Net_disturb_49 : decode (mB m_Net_disturb) 49 = .ok (.iconst 0, 1) := by decide +kernel
theorem d_Net_disturb_50 : decode (mB m_Net_disturb) 50 = .ok (.goto 8, 3) := by decide +kernel
theorem d_Net_disturb_53 : decode (mB m_Net_disturb) 53 = .ok (.aload 4, 2) := by decide +kernel
theorem d_Net_disturb_55 : decode (mB m_Net_disturb) 55 = .ok (.invokevirtual 183, 3) := by decide +kernel
theorem d_Net_disturb_58 : decode (mB m_Net_disturb) 58 = .ok (.ireturn, 1) := by decide +kernel
theorem cal_Net_disturb : mCal m_Net_disturb 3 := ⟨Or.inl ⟨rfl, goodIn_r _ [876] (by decide +kernel) (by decide +kernel)⟩, by decide, ⟨by decide, by decide⟩, by decide +kernel⟩
abbrev b_Net_serve : ByteArray := prog_1_method_9_code
def m_Net_serve : Mi := (⟨"TextNet", "serve", "(IZ)Z"⟩, b_Net_serve, 4, (some .boolean), [])
theorem d_Net_serve_0 : decode (mB m_Net_serve) 0 = .ok (.aload_n 0, 1) := by decide +kernel
theorem d_Net_serve_1 : decode (mB m_Net_serve) 1 = .ok (.iload_n 1, 1) := by decide +kernel
theorem d_Net_serve_2 : decode (mB m_Net_serve) 2 = .ok (.invokevirtual 127, 3) := by decide +kernel
theorem d_Net_serve_5 : decode (mB m_Net_serve) 5 = .ok (.astore_n 3, 1) := by decide +kernel
theorem d_Net_serve_6 : decode (mB m_Net_serve) 6 = .ok (.aload_n 3, 1) := by decide +kernel
theorem d_Net_serve_7 : decode (mB m_Net_serve) 7 = .ok (.getfield 135, 3) := by decide +kernel
theorem d_Net_serve_10 : decode (mB m_Net_serve) 10 = .ok (.iload_n 2, 1) := by decide +kernel
theorem d_Net_serve_11 : decode (mB m_Net_serve) 11 = .ok (.if_icmp .ne 5, 3) := by decide +kernel
theorem d_Net_serve_14 : decode (mB m_Net_serve) 14 = .ok (.iconst 0, 1) := by decide +kernel
theorem d_Net_serve_15 : decode (mB m_Net_serve) 15 = .ok (.ireturn, 1) := by decide +kernel
theorem d_Net_serve_16 : decode (mB m_Net_serve) 16 = .ok (.aload_n 3, 1) := by decide +kernel
theorem d_Net_serve_17 : decode (mB m_Net_serve) 17 = .ok (.iload_n 2, 1) := by decide +kernel
theorem d_Net_serve_18 : decode (mB m_Net_serve) 18 = .ok (.putfield 135, 3) := by decide +kernel
theorem d_Net_serve_21 : decode (mB m_Net_serve) 21 = .ok (.iload_n 2, 1) := by decide +kernel
theorem d_Net_serve_22 : decode (mB m_Net_serve) 22 = .ok (.ifCond .eq 22, 3) := by decide +kernel
theorem d_Net_serve_25 : decode (mB m_Net_serve) 25 = .ok (.aload_n 0, 1) := by decide +kernel
theorem d_Net_serve_26 : decode (mB m_Net_serve) 26 = .ok (.aload_n 3, 1) := by decide +kernel
theorem d_Net_serve_27 : decode (mB m_Net_serve) 27 = .ok (.getfield 187, 3) := by decide +kernel
theorem d_Net_serve_30 : decode (mB m_Net_serve) 30 = .ok (.invokevirtual 190, 3) := by decide +kernel
theorem d_Net_serve_33 : decode (mB m_Net_serve) 33 = .ok (.aload_n 0, 1) := by decide +kernel
theorem d_Net_serve_34 : decode (mB m_Net_serve) 34 = .ok (.aload_n 3, 1) := by decide +kernel
theorem d_Net_serve_35 : decode (mB m_Net_serve) 35 = .ok (.getfield 193, 3) := by decide +kernel
theorem d_Net_serve_38 : decode (mB m_Net_serve) 38 = .ok (.invokevirtual 190, 3) := by decide +kernel
theorem d_Net_serve_41 : decode (mB m_Net_serve) 41 = .ok (.goto 7, 3) := by decide +kernel
theorem d_Net_serve_44 : decode (mB m_Net_serve) 44 = .ok (.aload_n 3, 1) := by decide +kernel
theorem d_Net_serve_45 : decode (mB m_Net_serve) 45 = .ok (.invokevirtual 196, 3) := by decide +kernel
theorem d_Net_serve_48 : decode (mB m_Net_serve) 48 = .ok (.iconst 1, 1) := by decide +kernel
theorem d_Net_serve_49 : decode (mB m_Net_serve) 49 = .ok (.ireturn, 1) := by decide +kernel
theorem cal_Net_serve : mCal m_Net_serve 2 := ⟨Or.inl ⟨rfl, goodIn_r _ [888] (by decide +kernel) (by decide +kernel)⟩, by decide, ⟨by decide, by decide⟩, by decide +kernel⟩
abbrev b_Net_time : ByteArray := prog_1_method_10_code
def m_Net_time : Mi := (⟨"TextNet", "time", "(I)I"⟩, b_Net_time, 7, (some .int), [])
theorem d_Net_time_0 : decode (mB m_Net_time) 0 = .ok (.iload_n 1, 1) := by decide +kernel
theorem d_Net_time_1 : decode (mB m_Net_time) 1 = .ok (.ifCond .lt 10, 3) := by decide +kernel
theorem d_Net_time_4 : decode (mB m_Net_time) 4 = .ok (.iload_n 1, 1) := by decide +kernel
theorem d_Net_time_5 : decode (mB m_Net_time) 5 = .ok (.sipush 1000, 3) := by decide +kernel
theorem d_Net_time_8 : decode (mB m_Net_time) 8 = .ok (.if_icmp .le 13, 3) := by decide +kernel
theorem d_Net_time_11 : decode (mB m_Net_time) 11 = .ok (.new 43, 3) := by decide +kernel
theorem d_Net_time_14 : decode (mB m_Net_time) 14 = .ok (.dup, 1) := by decide +kernel
theorem d_Net_time_15 : decode (mB m_Net_time) 15 = .ok (.ldc 199, 2) := by decide +kernel
theorem d_Net_time_17 : decode (mB m_Net_time) 17 = .ok (.invokespecial 47, 3) := by decide +kernel
theorem d_Net_time_20 : decode (mB m_Net_time) 20 = .ok (.athrow, 1) := by decide +kernel
theorem d_Net_time_21 : decode (mB m_Net_time) 21 = .ok (.aload_n 0, 1) := by decide +kernel
theorem d_Net_time_22 : decode (mB m_Net_time) 22 = .ok (.dup, 1) := by decide +kernel
theorem d_Net_time_23 : decode (mB m_Net_time) 23 = .ok (.getfield 139, 3) := by decide +kernel
theorem d_Net_time_26 : decode (mB m_Net_time) 26 = .ok (.iload_n 1, 1) := by decide +kernel
theorem d_Net_time_27 : decode (mB m_Net_time) 27 = .ok (.iadd, 1) := by decide +kernel
theorem d_Net_time_28 : decode (mB m_Net_time) 28 = .ok (.putfield 139, 3) := by decide +kernel
theorem d_Net_time_31 : decode (mB m_Net_time) 31 = .ok (.iconst 0, 1) := by decide +kernel
theorem d_Net_time_32 : decode (mB m_Net_time) 32 = .ok (.istore_n 2, 1) := by decide +kernel
theorem d_Net_time_33 : decode (mB m_Net_time) 33 = .ok (.aload_n 0, 1) := by decide +kernel
theorem d_Net_time_34 : decode (mB m_Net_time) 34 = .ok (.getfield 24, 3) := by decide +kernel
theorem d_Net_time_37 : decode (mB m_Net_time) 37 = .ok (.astore_n 3, 1) := by decide +kernel
theorem d_Net_time_38 : decode (mB m_Net_time) 38 = .ok (.aload_n 3, 1) := by decide +kernel
theorem d_Net_time_39 : decode (mB m_Net_time) 39 = .ok (.arraylength, 1) := by decide +kernel
theorem d_Net_time_40 : decode (mB m_Net_time) 40 = .ok (.istore 4, 2) := by decide +kernel
theorem d_Net_time_42 : decode (mB m_Net_time) 42 = .ok (.iconst 0, 1) := by decide +kernel
theorem d_Net_time_43 : decode (mB m_Net_time) 43 = .ok (.istore 5, 2) := by decide +kernel
theorem d_Net_time_45 : decode (mB m_Net_time) 45 = .ok (.iload 5, 2) := by decide +kernel
theorem d_Net_time_47 : decode (mB m_Net_time) 47 = .ok (.iload 4, 2) := by decide +kernel
theorem d_Net_time_49 : decode (mB m_Net_time) 49 = .ok (.if_icmp .ge 56, 3) := by decide +kernel
theorem d_Net_time_52 : decode (mB m_Net_time) 52 = .ok (.aload_n 3, 1) := by decide +kernel
theorem d_Net_time_53 : decode (mB m_Net_time) 53 = .ok (.iload 5, 2) := by decide +kernel
theorem d_Net_time_55 : decode (mB m_Net_time) 55 = .ok (.aaload, 1) := by decide +kernel
theorem d_Net_time_56 : decode (mB m_Net_time) 56 = .ok (.astore 6, 2) := by decide +kernel
theorem d_Net_time_58 : decode (mB m_Net_time) 58 = .ok (.aload 6, 2) := by decide +kernel
theorem d_Net_time_60 : decode (mB m_Net_time) 60 = .ok (.ifnull 39, 3) := by decide +kernel
theorem d_Net_time_63 : decode (mB m_Net_time) 63 = .ok (.aload 6, 2) := by decide +kernel
theorem d_Net_time_65 : decode (mB m_Net_time) 65 = .ok (.getfield 135, 3) := by decide +kernel
theorem d_Net_time_68 : decode (mB m_Net_time) 68 = .ok (.ifCond .eq 31, 3) := by decide +kernel
theorem d_Net_time_71 : decode (mB m_Net_time) 71 = .ok (.iload_n 2, 1) := by decide +kernel
theorem d_Net_time_72 : decode (mB m_Net_time) 72 = .ok (.aload 6, 2) := by decide +kernel
theorem d_Net_time_74 : decode (mB m_Net_time) 74 = .ok (.getfield 201, 3) := by decide +kernel
theorem d_Net_time_77 : decode (mB m_Net_time) 77 = .ok (.aload_n 0, 1) := by decide +kernel
theorem d_Net_time_78 : decode (mB m_Net_time) 78 = .ok (.getfield 139, 3) := by decide +kernel
theorem d_Net_time_81 : decode (mB m_Net_time) 81 = .ok (.invokevirtual 205, 3) := by decide +kernel
theorem d_Net_time_84 : decode (mB m_Net_time) 84 = .ok (.aload 6, 2) := by decide +kernel
theorem d_Net_time_86 : decode (mB m_Net_time) 86 = .ok (.getfield 208, 3) := by decide +kernel
theorem d_Net_time_89 : decode (mB m_Net_time) 89 = .ok (.aload_n 0, 1) := by decide +kernel
theorem d_Net_time_90 : decode (mB m_Net_time) 90 = .ok (.getfield 139, 3) := by decide +kernel
theorem d_Net_time_93 : decode (mB m_Net_time) 93 = .ok (.invokevirtual 205, 3) := by decide +kernel
theorem d_Net_time_96 : decode (mB m_Net_time) 96 = .ok (.iadd, 1) := by decide +kernel
theorem d_Net_time_97 : decode (mB m_Net_time) 97 = .ok (.iadd, 1) := by decide +kernel
theorem d_Net_time_98 : decode (mB m_Net_time) 98 = .ok (.istore_n 2, 1) := by decide +kernel
theorem d_Net_time_99 : decode (mB m_Net_time) 99 = .ok (.iinc 5 1, 3) := by decide +kernel
theorem d_Net_time_102 : decode (mB m_Net_time) 102 = .ok (.goto (-57), 3) := by decide +kernel
theorem d_Net_time_105 : decode (mB m_Net_time) 105 = .ok (.iload_n 2, 1) := by decide +kernel
theorem d_Net_time_106 : decode (mB m_Net_time) 106 = .ok (.ireturn, 1) := by decide +kernel
theorem cal_Net_time : mCal m_Net_time 1 := ⟨Or.inl ⟨rfl, goodIn_r _ [908] (by decide +kernel) (by decide +kernel)⟩, by decide, ⟨by decide, by decide⟩, by decide +kernel⟩
abbrev b_Net_delivered : ByteArray := prog_1_method_11_code
def m_Net_delivered : Mi := (⟨"TextNet", "delivered", "(I)I"⟩, b_Net_delivered, 2, (some .int), [])
theorem d_Net_delivered_0 : decode (mB m_Net_delivered) 0 = .ok (.aload_n 0, 1) := by decide +kernel
theorem d_Net_delivered_1 : decode (mB m_Net_delivered) 1 = .ok (.iload_n 1, 1) := by decide +kernel
theorem d_Net_delivered_2 : decode (mB m_Net_delivered) 2 = .ok (.invokevirtual 39, 3) := by decide +kernel
theorem d_Net_delivered_5 : decode (mB m_Net_delivered) 5 = .ok (.getfield 211, 3) := by decide +kernel
theorem d_Net_delivered_8 : decode (mB m_Net_delivered) 8 = .ok (.ireturn, 1) := by decide +kernel
theorem cal_Net_delivered : mCal m_Net_delivered 1 := ⟨Or.inl ⟨rfl, goodIn_r _ [920] (by decide +kernel) (by decide +kernel)⟩, by decide, ⟨by decide, by decide⟩, by decide +kernel⟩
abbrev b_Net_read : ByteArray := prog_1_method_12_code
def m_Net_read : Mi := (⟨"TextNet", "read", "(III)I"⟩, b_Net_read, 5, (some .int), [])
theorem d_Net_read_0 : decode (mB m_Net_read) 0 = .ok (.aload_n 0, 1) := by decide +kernel
theorem d_Net_read_1 : decode (mB m_Net_read) 1 = .ok (.iload_n 1, 1) := by decide +kernel
theorem d_Net_read_2 : decode (mB m_Net_read) 2 = .ok (.invokevirtual 39, 3) := by decide +kernel
theorem d_Net_read_5 : decode (mB m_Net_read) 5 = .ok (.iload_n 2, 1) := by decide +kernel
theorem d_Net_read_6 : decode (mB m_Net_read) 6 = .ok (.invokevirtual 214, 3) := by decide +kernel
theorem d_Net_read_9 : decode (mB m_Net_read) 9 = .ok (.astore 4, 2) := by decide +kernel
theorem d_Net_read_11 : decode (mB m_Net_read) 11 = .ok (.aload 4, 2) := by decide +kernel
theorem d_Net_read_13 : decode (mB m_Net_read) 13 = .ok (.ifnonnull 7, 3) := by decide +kernel
theorem d_Net_read_16 : decode (mB m_Net_read) 16 = .ok (.iconst (-1), 1) := by decide +kernel
theorem d_Net_read_17 : decode (mB m_Net_read) 17 = .ok (.goto 9, 3) := by decide +kernel
theorem d_Net_read_20 : decode (mB m_Net_read) 20 = .ok (.aload 4, 2) := by decide +kernel
theorem d_Net_read_22 : decode (mB m_Net_read) 22 = .ok (.iload_n 3, 1) := by decide +kernel
theorem d_Net_read_23 : decode (mB m_Net_read) 23 = .ok (.invokevirtual 218, 3) := by decide +kernel
theorem d_Net_read_26 : decode (mB m_Net_read) 26 = .ok (.ireturn, 1) := by decide +kernel
theorem cal_Net_read : mCal m_Net_read 3 := ⟨Or.inl ⟨rfl, goodIn_r _ [927] (by decide +kernel) (by decide +kernel)⟩, by decide, ⟨by decide, by decide⟩, by decide +kernel⟩
abbrev b_Net_arrived : ByteArray := prog_1_method_13_code
def m_Net_arrived : Mi := (⟨"TextNet", "arrived", "(II)Z"⟩, b_Net_arrived, 4, (some .boolean), [])
theorem d_Net_arrived_0 : decode (mB m_Net_arrived) 0 = .ok (.iload_n 1, 1) := by decide +kernel
theorem d_Net_arrived_1 : decode (mB m_Net_arrived) 1 = .ok (.iconst 1, 1) := by decide +kernel
theorem d_Net_arrived_2 : decode (mB m_Net_arrived) 2 = .ok (.if_icmp .lt 11, 3) := by decide +kernel
theorem d_Net_arrived_5 : decode (mB m_Net_arrived) 5 = .ok (.iload_n 1, 1) := by decide +kernel
theorem d_Net_arrived_6 : decode (mB m_Net_arrived) 6 = .ok (.aload_n 0, 1) := by decide +kernel
theorem d_Net_arrived_7 : decode (mB m_Net_arrived) 7 = .ok (.getfield 103, 3) := by decide +kernel
theorem d_Net_arrived_10 : decode (mB m_Net_arrived) 10 = .ok (.if_icmp .le 13, 3) := by decide +kernel
theorem d_Net_arrived_13 : decode (mB m_Net_arrived) 13 = .ok (.new 43, 3) := by decide +kernel
theorem d_Net_arrived_16 : decode (mB m_Net_arrived) 16 = .ok (.dup, 1) := by decide +kernel
theorem d_Net_arrived_17 : decode (mB m_Net_arrived) 17 = .ok (.ldc 221, 2) := by decide +kernel
theorem d_Net_arrived_19 : decode (mB m_Net_arrived) 19 = .ok (.invokespecial 47, 3) := by decide +kernel
theorem d_Net_arrived_22 : decode (mB m_Net_arrived) 22 = .ok (.athrow, 1) := by decide +kernel
theorem d_Net_arrived_23 : decode (mB m_Net_arrived) 23 = .ok (.aload_n 0, 1) := by decide +kernel
theorem d_Net_arrived_24 : decode (mB m_Net_arrived) 24 = .ok (.getfield 30, 3) := by decide +kernel
theorem d_Net_arrived_27 : decode (mB m_Net_arrived) 27 = .ok (.iload_n 1, 1) := by decide +kernel
theorem d_Net_arrived_28 : decode (mB m_Net_arrived) 28 = .ok (.iconst 1, 1) := by decide +kernel
theorem d_Net_arrived_29 : decode (mB m_Net_arrived) 29 = .ok (.isub, 1) := by decide +kernel
theorem d_Net_arrived_30 : decode (mB m_Net_arrived) 30 = .ok (.aaload, 1) := by decide +kernel
theorem d_Net_arrived_31 : decode (mB m_Net_arrived) 31 = .ok (.astore_n 3, 1) := by decide +kernel
theorem d_Net_arrived_32 : decode (mB m_Net_arrived) 32 = .ok (.aload_n 3, 1) := by decide +kernel
theorem d_Net_arrived_33 : decode (mB m_Net_arrived) 33 = .ok (.ifnull 16, 3) := by decide +kernel
theorem d_Net_arrived_36 : decode (mB m_Net_arrived) 36 = .ok (.iload_n 2, 1) := by decide +kernel
theorem d_Net_arrived_37 : decode (mB m_Net_arrived) 37 = .ok (.ifCond .lt 12, 3) := by decide +kernel
theorem d_Net_arrived_40 : decode (mB m_Net_arrived) 40 = .ok (.iload_n 2, 1) := by decide +kernel
theorem d_Net_arrived_41 : decode (mB m_Net_arrived) 41 = .ok (.aload_n 3, 1) := by decide +kernel
theorem d_Net_arrived_42 : decode (mB m_Net_arrived) 42 = .ok (.getfield 223, 3) := by decide +kernel
theorem d_Net_arrived_45 : decode (mB m_Net_arrived) 45 = .ok (.arraylength, 1) := by decide +kernel
theorem d_Net_arrived_46 : decode (mB m_Net_arrived) 46 = .ok (.if_icmp .lt 13, 3) := by decide +kernel
theorem d_Net_arrived_49 : decode (mB m_Net_arrived) 49 = .ok (.new 43, 3) := by decide +kernel
theorem d_Net_arrived_52 : decode (mB m_Net_arrived) 52 = .ok (.dup, 1) := by decide +kernel
theorem d_Net_arrived_53 : decode (mB m_Net_arrived) 53 = .ok (.ldc 227, 2) := by decide +kernel
theorem d_Net_arrived_55 : decode (mB m_Net_arrived) 55 = .ok (.invokespecial 47, 3) := by decide +kernel
theorem d_Net_arrived_58 : decode (mB m_Net_arrived) 58 = .ok (.athrow, 1) := by decide +kernel
theorem d_Net_arrived_59 : decode (mB m_Net_arrived) 59 = .ok (.aload_n 3, 1) := by decide +kernel
theorem d_Net_arrived_60 : decode (mB m_Net_arrived) 60 = .ok (.iload_n 2, 1) := by decide +kernel
theorem d_Net_arrived_61 : decode (mB m_Net_arrived) 61 = .ok (.invokevirtual 229, 3) := by decide +kernel
theorem d_Net_arrived_64 : decode (mB m_Net_arrived) 64 = .ok (.ireturn, 1) := by decide +kernel
theorem cal_Net_arrived : mCal m_Net_arrived 2 := ⟨Or.inl ⟨rfl, goodIn_r _ [942] (by decide +kernel) (by decide +kernel)⟩, by decide, ⟨by decide, by decide⟩, by decide +kernel⟩
abbrev b_Net_channel : ByteArray := prog_1_method_14_code
def m_Net_channel : Mi := (⟨"TextNet", "channel", "(III)I"⟩, b_Net_channel, 5, (some .int), [])
theorem d_Net_channel_0 : decode (mB m_Net_channel) 0 = .ok (.aload_n 0, 1) := by decide +kernel
theorem d_Net_channel_1 : decode (mB m_Net_channel) 1 = .ok (.iload_n 1, 1) := by decide +kernel
theorem d_Net_channel_2 : decode (mB m_Net_channel) 2 = .ok (.invokevirtual 127, 3) := by decide +kernel
theorem d_Net_channel_5 : decode (mB m_Net_channel) 5 = .ok (.iload_n 2, 1) := by decide +kernel
theorem d_Net_channel_6 : decode (mB m_Net_channel) 6 = .ok (.invokevirtual 131, 3) := by decide +kernel
theorem d_Net_channel_9 : decode (mB m_Net_channel) 9 = .ok (.astore 4, 2) := by decide +kernel
theorem d_Net_channel_11 : decode (mB m_Net_channel) 11 = .ok (.iload_n 3, 1) := by decide +kernel
theorem d_Net_channel_12 : decode (mB m_Net_channel) 12 = .ok (.ifCond .lt 19, 3) := by decide +kernel
theorem d_Net_channel_15 : decode (mB m_Net_channel) 15 = .ok (.iload_n 3, 1) := by decide +kernel
theorem d_Net_channel_16 : decode (mB m_Net_channel) 16 = .ok (.iconst 5, 1) := by decide +kernel
theorem d_Net_channel_17 : decode (mB m_Net_channel) 17 = .ok (.if_icmp .ge 14, 3) := by decide +kernel
theorem d_Net_channel_20 : decode (mB m_Net_channel) 20 = .ok (.aload 4, 2) := by decide +kernel
theorem d_Net_channel_22 : decode (mB m_Net_channel) 22 = .ok (.getfield 232, 3) := by decide +kernel
theorem d_Net_channel_25 : decode (mB m_Net_channel) 25 = .ok (.iload_n 3, 1) := by decide +kernel
theorem d_Net_channel_26 : decode (mB m_Net_channel) 26 = .ok (.aaload, 1) := by decide +kernel
theorem d_Net_channel_27 : decode (mB m_Net_channel) 27 = .ok (.getfield 236, 3) := by decide +kernel
theorem d_Net_channel_30 : decode (mB m_Net_channel) 30 = .ok (.ireturn, 1) := by decide +kernel
theorem d_Net_channel_31 : decode (mB m_Net_channel) 31 = .ok (.iload_n 3, 1) := by decide +kernel
theorem d_Net_channel_32 : decode (mB m_Net_channel) 32 = .ok (.tableswitch 62 5 8 #[32, 41, 50, 56], 32) := by decide +kernel
theorem d_Net_channel_64 : decode (mB m_Net_channel) 64 = .ok (.aload 4, 2) := by decide +kernel
theorem d_Net_channel_66 : decode (mB m_Net_channel) 66 = .ok (.getfield 241, 3) := by decide +kernel
theorem d_Net_channel_69 : decode (mB m_Net_channel) 69 = .ok (.getfield 244, 3) := by decide +kernel
theorem d_Net_channel_72 : decode (mB m_Net_channel) 72 = .ok (.ireturn, 1) := by decide +kernel
theorem d_Net_channel_73 : decode (mB m_Net_channel) 73 = .ok (.aload 4, 2) := by decide +kernel
theorem d_Net_channel_75 : decode (mB m_Net_channel) 75 = .ok (.getfield 148, 3) := by decide +kernel
theorem d_Net_channel_78 : decode (mB m_Net_channel) 78 = .ok (.getfield 244, 3) := by decide +kernel
theorem d_Net_channel_81 : decode (mB m_Net_channel) 81 = .ok (.ireturn, 1) := by decide +kernel
theorem d_Net_channel_82 : decode (mB m_Net_channel) 82 = .ok (.aload 4, 2) := by decide +kernel
theorem d_Net_channel_84 : decode (mB m_Net_channel) 84 = .ok (.getfield 245, 3) := by decide +kernel
theorem d_Net_channel_87 : decode (mB m_Net_channel) 87 = .ok (.ireturn, 1) := by decide +kernel
theorem d_Net_channel_88 : decode (mB m_Net_channel) 88 = .ok (.aload 4, 2) := by decide +kernel
theorem d_Net_channel_90 : decode (mB m_Net_channel) 90 = .ok (.getfield 248, 3) := by decide +kernel
theorem d_Net_channel_93 : decode (mB m_Net_channel) 93 = .ok (.ireturn, 1) := by decide +kernel
theorem d_Net_channel_94 : decode (mB m_Net_channel) 94 = .ok (.new 43, 3) := by decide +kernel
theorem d_Net_channel_97 : decode (mB m_Net_channel) 97 = .ok (.dup, 1) := by decide +kernel
theorem d_Net_channel_98 : decode (mB m_Net_channel) 98 = .ok (.ldc 251, 2) := by decide +kernel
theorem d_Net_channel_100 : decode (mB m_Net_channel) 100 = .ok (.invokespecial 47, 3) := by decide +kernel
theorem d_Net_channel_103 : decode (mB m_Net_channel) 103 = .ok (.athrow, 1) := by decide +kernel
theorem cal_Net_channel : mCal m_Net_channel 3 := ⟨Or.inl ⟨rfl, goodIn_r _ [952] (by decide +kernel) (by decide +kernel)⟩, by decide, ⟨by decide, by decide⟩, by decide +kernel⟩
