abbrev b_Mod_init : ByteArray := prog_13_method_1_code
def m_Mod_init : Mi := (⟨"TextNetModel", "<init>", "()V"⟩, b_Mod_init, 1, none, [])
theorem d_Mod_init_0 : decode (mB m_Mod_init) 0 = .ok (.aload_n 0, 1) := by decide +kernel
theorem d_Mod_init_1 : decode (mB m_Mod_init) 1 = .ok (.invokespecial 1, 3) := by decide +kernel
theorem d_Mod_init_4 : decode (mB m_Mod_init) 4 = .ok (.aload_n 0, 1) := by decide +kernel
theorem d_Mod_init_5 : decode (mB m_Mod_init) 5 = .ok (.sipush 8000, 3) := by decide +kernel
theorem d_Mod_init_8 : decode (mB m_Mod_init) 8 = .ok (.newarray .int, 2) := by decide +kernel
theorem d_Mod_init_10 : decode (mB m_Mod_init) 10 = .ok (.putfield 7, 3) := by decide +kernel
theorem d_Mod_init_13 : decode (mB m_Mod_init) 13 = .ok (.aload_n 0, 1) := by decide +kernel
theorem d_Mod_init_14 : decode (mB m_Mod_init) 14 = .ok (.sipush 8000, 3) := by decide +kernel
theorem d_Mod_init_17 : decode (mB m_Mod_init) 17 = .ok (.newarray .int, 2) := by decide +kernel
theorem d_Mod_init_19 : decode (mB m_Mod_init) 19 = .ok (.putfield 13, 3) := by decide +kernel
theorem d_Mod_init_22 : decode (mB m_Mod_init) 22 = .ok (.aload_n 0, 1) := by decide +kernel
theorem d_Mod_init_23 : decode (mB m_Mod_init) 23 = .ok (.sipush 1600, 3) := by decide +kernel
theorem d_Mod_init_26 : decode (mB m_Mod_init) 26 = .ok (.newarray .int, 2) := by decide +kernel
theorem d_Mod_init_28 : decode (mB m_Mod_init) 28 = .ok (.putfield 16, 3) := by decide +kernel
theorem d_Mod_init_31 : decode (mB m_Mod_init) 31 = .ok (.aload_n 0, 1) := by decide +kernel
theorem d_Mod_init_32 : decode (mB m_Mod_init) 32 = .ok (.bipush 8, 2) := by decide +kernel
theorem d_Mod_init_34 : decode (mB m_Mod_init) 34 = .ok (.newarray .boolean, 2) := by decide +kernel
theorem d_Mod_init_36 : decode (mB m_Mod_init) 36 = .ok (.putfield 19, 3) := by decide +kernel
theorem d_Mod_init_39 : decode (mB m_Mod_init) 39 = .ok (.aload_n 0, 1) := by decide +kernel
theorem d_Mod_init_40 : decode (mB m_Mod_init) 40 = .ok (.bipush 8, 2) := by decide +kernel
theorem d_Mod_init_42 : decode (mB m_Mod_init) 42 = .ok (.newarray .int, 2) := by decide +kernel
theorem d_Mod_init_44 : decode (mB m_Mod_init) 44 = .ok (.putfield 23, 3) := by decide +kernel
theorem d_Mod_init_47 : decode (mB m_Mod_init) 47 = .ok (.aload_n 0, 1) := by decide +kernel
theorem d_Mod_init_48 : decode (mB m_Mod_init) 48 = .ok (.bipush 8, 2) := by decide +kernel
theorem d_Mod_init_50 : decode (mB m_Mod_init) 50 = .ok (.newarray .int, 2) := by decide +kernel
theorem d_Mod_init_52 : decode (mB m_Mod_init) 52 = .ok (.putfield 26, 3) := by decide +kernel
theorem d_Mod_init_55 : decode (mB m_Mod_init) 55 = .ok (.aload_n 0, 1) := by decide +kernel
theorem d_Mod_init_56 : decode (mB m_Mod_init) 56 = .ok (.bipush 8, 2) := by decide +kernel
theorem d_Mod_init_58 : decode (mB m_Mod_init) 58 = .ok (.newarray .boolean, 2) := by decide +kernel
theorem d_Mod_init_60 : decode (mB m_Mod_init) 60 = .ok (.putfield 29, 3) := by decide +kernel
theorem d_Mod_init_63 : decode (mB m_Mod_init) 63 = .ok (.aload_n 0, 1) := by decide +kernel
theorem d_Mod_init_64 : decode (mB m_Mod_init) 64 = .ok (.bipush 6, 2) := by decide +kernel
theorem d_Mod_init_66 : decode (mB m_Mod_init) 66 = .ok (.newarray .int, 2) := by decide +kernel
theorem d_Mod_init_68 : decode (mB m_Mod_init) 68 = .ok (.putfield 32, 3) := by decide +kernel
theorem d_Mod_init_71 : decode (mB m_Mod_init) 71 = .ok (.aload_n 0, 1) := by decide +kernel
theorem d_Mod_init_72 : decode (mB m_Mod_init) 72 = .ok (.bipush 96, 2) := by decide +kernel
theorem d_Mod_init_74 : decode (mB m_Mod_init) 74 = .ok (.newarray .long, 2) := by decide +kernel
theorem d_Mod_init_76 : decode (mB m_Mod_init) 76 = .ok (.putfield 35, 3) := by decide +kernel
theorem d_Mod_init_79 : decode (mB m_Mod_init) 79 = .ok (.aload_n 0, 1) := by decide +kernel
theorem d_Mod_init_80 : decode (mB m_Mod_init) 80 = .ok (.bipush 96, 2) := by decide +kernel
theorem d_Mod_init_82 : decode (mB m_Mod_init) 82 = .ok (.newarray .int, 2) := by decide +kernel
theorem d_Mod_init_84 : decode (mB m_Mod_init) 84 = .ok (.putfield 39, 3) := by decide +kernel
theorem d_Mod_init_87 : decode (mB m_Mod_init) 87 = .ok (.aload_n 0, 1) := by decide +kernel
theorem d_Mod_init_88 : decode (mB m_Mod_init) 88 = .ok (.bipush 96, 2) := by decide +kernel
theorem d_Mod_init_90 : decode (mB m_Mod_init) 90 = .ok (.newarray .int, 2) := by decide +kernel
theorem d_Mod_init_92 : decode (mB m_Mod_init) 92 = .ok (.putfield 42, 3) := by decide +kernel
theorem d_Mod_init_95 : decode (mB m_Mod_init) 95 = .ok (.aload_n 0, 1) := by decide +kernel
theorem d_Mod_init_96 : decode (mB m_Mod_init) 96 = .ok (.bipush 96, 2) := by decide +kernel
theorem d_Mod_init_98 : decode (mB m_Mod_init) 98 = .ok (.newarray .int, 2) := by decide +kernel
theorem d_Mod_init_100 : decode (mB m_Mod_init) 100 = .ok (.putfield 45, 3) := by decide +kernel
theorem d_Mod_init_103 : decode (mB m_Mod_init) 103 = .ok (.aload_n 0, 1) := by decide +kernel
theorem d_Mod_init_104 : decode (mB m_Mod_init) 104 = .ok (.sipush 201, 3) := by decide +kernel
theorem d_Mod_init_107 : decode (mB m_Mod_init) 107 = .ok (.newarray .int, 2) := by decide +kernel
theorem d_Mod_init_109 : decode (mB m_Mod_init) 109 = .ok (.putfield 48, 3) := by decide +kernel
theorem d_Mod_init_112 : decode (mB m_Mod_init) 112 = .ok (.aload_n 0, 1) := by decide +kernel
theorem d_Mod_init_113 : decode (mB m_Mod_init) 113 = .ok (.sipush 201, 3) := by decide +kernel
theorem d_Mod_init_116 : decode (mB m_Mod_init) 116 = .ok (.newarray .int, 2) := by decide +kernel
theorem d_Mod_init_118 : decode (mB m_Mod_init) 118 = .ok (.putfield 51, 3) := by decide +kernel
theorem d_Mod_init_121 : decode (mB m_Mod_init) 121 = .ok (.aload_n 0, 1) := by decide +kernel
theorem d_Mod_init_122 : decode (mB m_Mod_init) 122 = .ok (.sipush 201, 3) := by decide +kernel
theorem d_Mod_init_125 : decode (mB m_Mod_init) 125 = .ok (.newarray .int, 2) := by decide +kernel
theorem d_Mod_init_127 : decode (mB m_Mod_init) 127 = .ok (.putfield 54, 3) := by decide +kernel
theorem d_Mod_init_130 : decode (mB m_Mod_init) 130 = .ok (.aload_n 0, 1) := by decide +kernel
theorem d_Mod_init_131 : decode (mB m_Mod_init) 131 = .ok (.sipush 201, 3) := by decide +kernel
theorem d_Mod_init_134 : decode (mB m_Mod_init) 134 = .ok (.newarray .int, 2) := by decide +kernel
theorem d_Mod_init_136 : decode (mB m_Mod_init) 136 = .ok (.putfield 57, 3) := by decide +kernel
theorem d_Mod_init_139 : decode (mB m_Mod_init) 139 = .ok (.aload_n 0, 1) := by decide +kernel
theorem d_Mod_init_140 : decode (mB m_Mod_init) 140 = .ok (.sipush 1407, 3) := by decide +kernel
theorem d_Mod_init_143 : decode (mB m_Mod_init) 143 = .ok (.newarray .long, 2) := by decide +kernel
theorem d_Mod_init_145 : decode (mB m_Mod_init) 145 = .ok (.putfield 60, 3) := by decide +kernel
theorem d_Mod_init_148 : decode (mB m_Mod_init) 148 = .ok (.aload_n 0, 1) := by decide +kernel
theorem d_Mod_init_149 : decode (mB m_Mod_init) 149 = .ok (.sipush 201, 3) := by decide +kernel
theorem d_Mod_init_152 : decode (mB m_Mod_init) 152 = .ok (.newarray .int, 2) := by decide +kernel
theorem d_Mod_init_154 : decode (mB m_Mod_init) 154 = .ok (.putfield 63, 3) := by decide +kernel
theorem d_Mod_init_157 : decode (mB m_Mod_init) 157 = .ok (.aload_n 0, 1) := by decide +kernel
theorem d_Mod_init_158 : decode (mB m_Mod_init) 158 = .ok (.sipush 2000, 3) := by decide +kernel
theorem d_Mod_init_161 : decode (mB m_Mod_init) 161 = .ok (.newarray .int, 2) := by decide +kernel
theorem d_Mod_init_163 : decode (mB m_Mod_init) 163 = .ok (.putfield 66, 3) := by decide +kernel
theorem d_Mod_init_166 : decode (mB m_Mod_init) 166 = .ok (.aload_n 0, 1) := by decide +kernel
theorem d_Mod_init_167 : decode (mB m_Mod_init) 167 = .ok (.bipush 16, 2) := by decide +kernel
theorem d_Mod_init_169 : decode (mB m_Mod_init) 169 = .ok (.newarray .int, 2) := by decide +kernel
theorem d_Mod_init_171 : decode (mB m_Mod_init) 171 = .ok (.putfield 69, 3) := by decide +kernel
theorem d_Mod_init_174 : decode (mB m_Mod_init) 174 = .ok (.aload_n 0, 1) := by decide +kernel
theorem d_Mod_init_175 : decode (mB m_Mod_init) 175 = .ok (.bipush 16, 2) := by decide +kernel
theorem d_Mod_init_177 : decode (mB m_Mod_init) 177 = .ok (.newarray .int, 2) := by decide +kernel
theorem d_Mod_init_179 : decode (mB m_Mod_init) 179 = .ok (.putfield 72, 3) := by decide +kernel
theorem d_Mod_init_182 : decode (mB m_Mod_init) 182 = .ok (.aload_n 0, 1) := by decide +kernel
theorem d_Mod_init_183 : decode (mB m_Mod_init) 183 = .ok (.bipush 16, 2) := by decide +kernel
theorem d_Mod_init_185 : decode (mB m_Mod_init) 185 = .ok (.newarray .int, 2) := by decide +kernel
theorem d_Mod_init_187 : decode (mB m_Mod_init) 187 = .ok (.putfield 75, 3) := by decide +kernel
theorem d_Mod_init_190 : decode (mB m_Mod_init) 190 = .ok (.aload_n 0, 1) := by decide +kernel
theorem d_Mod_init_191 : decode (mB m_Mod_init) 191 = .ok (.sipush 320, 3) := by decide +kernel
theorem d_Mod_init_194 : decode (mB m_Mod_init) 194 = .ok (.newarray .int, 2) := by decide +kernel
theorem d_Mod_init_196 : decode (mB m_Mod_init) 196 = .ok (.putfield 78, 3) := by decide +kernel
theorem d_Mod_init_199 : decode (mB m_Mod_init) 199 = .ok (.aload_n 0, 1) := by decide +kernel
theorem d_Mod_init_200 : decode (mB m_Mod_init) 200 = .ok (.bipush 16, 2) := by decide +kernel
theorem d_Mod_init_202 : decode (mB m_Mod_init) 202 = .ok (.newarray .int, 2) := by decide +kernel
theorem d_Mod_init_204 : decode (mB m_Mod_init) 204 = .ok (.putfield 81, 3) := by decide +kernel
theorem d_Mod_init_207 : decode (mB m_Mod_init) 207 = .ok (.aload_n 0, 1) := by decide +kernel
theorem d_Mod_init_208 : decode (mB m_Mod_init) 208 = .ok (.sipush 3200, 3) := by decide +kernel
theorem d_Mod_init_211 : decode (mB m_Mod_init) 211 = .ok (.newarray .int, 2) := by decide +kernel
theorem d_Mod_init_213 : decode (mB m_Mod_init) 213 = .ok (.putfield 84, 3) := by decide +kernel
theorem d_Mod_init_216 : decode (mB m_Mod_init) 216 = .ok (.aload_n 0, 1) := by decide +kernel
theorem d_Mod_init_217 : decode (mB m_Mod_init) 217 = .ok (.bipush 16, 2) := by decide +kernel
theorem d_Mod_init_219 : decode (mB m_Mod_init) 219 = .ok (.newarray .int, 2) := by decide +kernel
theorem d_Mod_init_221 : decode (mB m_Mod_init) 221 = .ok (.putfield 87, 3) := by decide +kernel
theorem d_Mod_init_224 : decode (mB m_Mod_init) 224 = .ok (.aload_n 0, 1) := by decide +kernel
theorem d_Mod_init_225 : decode (mB m_Mod_init) 225 = .ok (.bipush 16, 2) := by decide +kernel
theorem d_Mod_init_227 : decode (mB m_Mod_init) 227 = .ok (.newarray .int, 2) := by decide +kernel
theorem d_Mod_init_229 : decode (mB m_Mod_init) 229 = .ok (.putfield 90, 3) := by decide +kernel
theorem d_Mod_init_232 : decode (mB m_Mod_init) 232 = .ok (.aload_n 0, 1) := by decide +kernel
theorem d_Mod_init_233 : decode (mB m_Mod_init) 233 = .ok (.bipush 16, 2) := by decide +kernel
theorem d_Mod_init_235 : decode (mB m_Mod_init) 235 = .ok (.newarray .boolean, 2) := by decide +kernel
theorem d_Mod_init_237 : decode (mB m_Mod_init) 237 = .ok (.putfield 93, 3) := by decide +kernel
theorem d_Mod_init_240 : decode (mB m_Mod_init) 240 = .ok (.aload_n 0, 1) := by decide +kernel
theorem d_Mod_init_241 : decode (mB m_Mod_init) 241 = .ok (.bipush 6, 2) := by decide +kernel
theorem d_Mod_init_243 : decode (mB m_Mod_init) 243 = .ok (.newarray .int, 2) := by decide +kernel
theorem d_Mod_init_245 : decode (mB m_Mod_init) 245 = .ok (.putfield 96, 3) := by decide +kernel
theorem d_Mod_init_248 : decode (mB m_Mod_init) 248 = .ok (.aload_n 0, 1) := by decide +kernel
theorem d_Mod_init_249 : decode (mB m_Mod_init) 249 = .ok (.bipush 6, 2) := by decide +kernel
theorem d_Mod_init_251 : decode (mB m_Mod_init) 251 = .ok (.newarray .int, 2) := by decide +kernel
theorem d_Mod_init_253 : decode (mB m_Mod_init) 253 = .ok (.putfield 99, 3) := by decide +kernel
theorem d_Mod_init_256 : decode (mB m_Mod_init) 256 = .ok (.aload_n 0, 1) := by decide +kernel
theorem d_Mod_init_257 : decode (mB m_Mod_init) 257 = .ok (.bipush 6, 2) := by decide +kernel
theorem d_Mod_init_259 : decode (mB m_Mod_init) 259 = .ok (.newarray .int, 2) := by decide +kernel
theorem d_Mod_init_261 : decode (mB m_Mod_init) 261 = .ok (.putfield 102, 3) := by decide +kernel
theorem d_Mod_init_264 : decode (mB m_Mod_init) 264 = .ok (.aload_n 0, 1) := by decide +kernel
theorem d_Mod_init_265 : decode (mB m_Mod_init) 265 = .ok (.sipush 1200, 3) := by decide +kernel
theorem d_Mod_init_268 : decode (mB m_Mod_init) 268 = .ok (.newarray .int, 2) := by decide +kernel
theorem d_Mod_init_270 : decode (mB m_Mod_init) 270 = .ok (.putfield 105, 3) := by decide +kernel
theorem d_Mod_init_273 : decode (mB m_Mod_init) 273 = .ok (.aload_n 0, 1) := by decide +kernel
theorem d_Mod_init_274 : decode (mB m_Mod_init) 274 = .ok (.bipush 9, 2) := by decide +kernel
theorem d_Mod_init_276 : decode (mB m_Mod_init) 276 = .ok (.newarray .int, 2) := by decide +kernel
theorem d_Mod_init_278 : decode (mB m_Mod_init) 278 = .ok (.putfield 108, 3) := by decide +kernel
theorem d_Mod_init_281 : decode (mB m_Mod_init) 281 = .ok (.return_, 1) := by decide +kernel
theorem cal_Mod_init : mCal m_Mod_init 0 := ⟨Or.inl ⟨rfl, goodIn_r _ [971] (by decide +kernel) (by decide +kernel)⟩, by decide, ⟨by decide, by decide⟩, by decide +kernel⟩
abbrev b_Mod_thrown : ByteArray := prog_13_method_2_code
def m_Mod_thrown : Mi := (⟨"TextNetModel", "thrown", "()I"⟩, b_Mod_thrown, 1, (some .int), [])
theorem d_Mod_thrown_0 : decode (mB m_Mod_thrown) 0 = .ok (.aload_n 0, 1) := by decide +kernel
theorem d_Mod_thrown_1 : decode (mB m_Mod_thrown) 1 = .ok (.getfield 111, 3) := by decide +kernel
theorem d_Mod_thrown_4 : decode (mB m_Mod_thrown) 4 = .ok (.ireturn, 1) := by decide +kernel
theorem cal_Mod_thrown : mCal m_Mod_thrown 0 := ⟨Or.inl ⟨rfl, goodIn_r _ [1107] (by decide +kernel) (by decide +kernel)⟩, by decide, ⟨by decide, by decide⟩, by decide +kernel⟩
abbrev b_Mod_raise : ByteArray := prog_13_method_3_code
def m_Mod_raise : Mi := (⟨"TextNetModel", "raise", "(I)I"⟩, b_Mod_raise, 2, (some .int), [])
theorem d_Mod_raise_0 : decode (mB m_Mod_raise) 0 = .ok (.aload_n 0, 1) := by decide +kernel
theorem d_Mod_raise_1 : decode (mB m_Mod_raise) 1 = .ok (.iload_n 1, 1) := by decide +kernel
theorem d_Mod_raise_2 : decode (mB m_Mod_raise) 2 = .ok (.putfield 111, 3) := by decide +kernel
theorem d_Mod_raise_5 : decode (mB m_Mod_raise) 5 = .ok (.iconst 0, 1) := by decide +kernel
theorem d_Mod_raise_6 : decode (mB m_Mod_raise) 6 = .ok (.ireturn, 1) := by decide +kernel
theorem cal_Mod_raise : mCal m_Mod_raise 1 := ⟨Or.inl ⟨rfl, goodIn_r _ [1144] (by decide +kernel) (by decide +kernel)⟩, by decide, ⟨by decide, by decide⟩, by decide +kernel⟩
abbrev b_Mod_in : ByteArray := prog_13_method_4_code
def m_Mod_in : Mi := (⟨"TextNetModel", "in", "(III)Z"⟩, b_Mod_in, 3, (some .boolean), [])
theorem d_Mod_in_0 : decode (mB m_Mod_in) 0 = .ok (.iload_n 0, 1) := by decide +kernel
theorem d_Mod_in_1 : decode (mB m_Mod_in) 1 = .ok (.iload_n 1, 1) := by decide +kernel
theorem d_Mod_in_2 : decode (mB m_Mod_in) 2 = .ok (.if_icmp .lt 12, 3) := by decide +kernel
theorem d_Mod_in_5 : decode (mB m_Mod_in) 5 = .ok (.iload_n 0, 1) := by decide +kernel
theorem d_Mod_in_6 : decode (mB m_Mod_in) 6 = .ok (.iload_n 2, 1) := by decide +kernel
theorem d_Mod_in_7 : decode (mB m_Mod_in) 7 = .ok (.if_icmp .gt 7, 3) := by decide +kernel
theorem d_Mod_in_10 : decode (mB m_Mod_in) 10 = .ok (.iconst 1, 1) := by decide +kernel
theorem d_Mod_in_11 : decode (mB m_Mod_in) 11 = .ok (.goto 4, 3) := by decide +kernel
theorem d_Mod_in_14 : decode (mB m_Mod_in) 14 = .ok (.iconst 0, 1) := by decide +kernel
theorem d_Mod_in_15 : decode (mB m_Mod_in) 15 = .ok (.ireturn, 1) := by decide +kernel
theorem cal_Mod_in : mCal m_Mod_in 3 := ⟨Or.inl ⟨rfl, goodIn_r _ [1114] (by decide +kernel) (by decide +kernel)⟩, by decide, ⟨by decide, by decide⟩, by decide +kernel⟩
abbrev b_Mod_isSwitch : ByteArray := prog_13_method_5_code
def m_Mod_isSwitch : Mi := (⟨"TextNetModel", "isSwitch", "(I)Z"⟩, b_Mod_isSwitch, 1, (some .boolean), [])
theorem d_Mod_isSwitch_0 : decode (mB m_Mod_isSwitch) 0 = .ok (.iload_n 0, 1) := by decide +kernel
theorem d_Mod_isSwitch_1 : decode (mB m_Mod_isSwitch) 1 = .ok (.iconst 0, 1) := by decide +kernel
theorem d_Mod_isSwitch_2 : decode (mB m_Mod_isSwitch) 2 = .ok (.iconst 5, 1) := by decide +kernel
theorem d_Mod_isSwitch_3 : decode (mB m_Mod_isSwitch) 3 = .ok (.invokestatic 115, 3) := by decide +kernel
theorem d_Mod_isSwitch_6 : decode (mB m_Mod_isSwitch) 6 = .ok (.ireturn, 1) := by decide +kernel
theorem cal_Mod_isSwitch : mCal m_Mod_isSwitch 1 := ⟨Or.inl ⟨rfl, goodIn_r _ [1117] (by decide +kernel) (by decide +kernel)⟩, by decide, ⟨by decide, by decide⟩, by decide +kernel⟩
abbrev b_Mod_hasLine : ByteArray := prog_13_method_6_code
def m_Mod_hasLine : Mi := (⟨"TextNetModel", "hasLine", "(I)Z"⟩, b_Mod_hasLine, 2, (some .boolean), [])
theorem d_Mod_hasLine_0 : decode (mB m_Mod_hasLine) 0 = .ok (.iload_n 1, 1) := by decide +kernel
theorem d_Mod_hasLine_1 : decode (mB m_Mod_hasLine) 1 = .ok (.iconst 0, 1) := by decide +kernel
theorem d_Mod_hasLine_2 : decode (mB m_Mod_hasLine) 2 = .ok (.bipush 7, 2) := by decide +kernel
theorem d_Mod_hasLine_4 : decode (mB m_Mod_hasLine) 4 = .ok (.invokestatic 115, 3) := by decide +kernel
theorem d_Mod_hasLine_7 : decode (mB m_Mod_hasLine) 7 = .ok (.ifCond .eq 16, 3) := by decide +kernel
theorem d_Mod_hasLine_10 : decode (mB m_Mod_hasLine) 10 = .ok (.aload_n 0, 1) := by decide +kernel
theorem d_Mod_hasLine_11 : decode (mB m_Mod_hasLine) 11 = .ok (.getfield 19, 3) := by decide +kernel
theorem d_Mod_hasLine_14 : decode (mB m_Mod_hasLine) 14 = .ok (.iload_n 1, 1) := by decide +kernel
theorem d_Mod_hasLine_15 : decode (mB m_Mod_hasLine) 15 = .ok (.baload, 1) := by decide +kernel
theorem d_Mod_hasLine_16 : decode (mB m_Mod_hasLine) 16 = .ok (.ifCond .eq 7, 3) := by decide +kernel
theorem d_Mod_hasLine_19 : decode (mB m_Mod_hasLine) 19 = .ok (.iconst 1, 1) := by decide +kernel
theorem d_Mod_hasLine_20 : decode (mB m_Mod_hasLine) 20 = .ok (.goto 4, 3) := by decide +kernel
theorem d_Mod_hasLine_23 : decode (mB m_Mod_hasLine) 23 = .ok (.iconst 0, 1) := by decide +kernel
theorem d_Mod_hasLine_24 : decode (mB m_Mod_hasLine) 24 = .ok (.ireturn, 1) := by decide +kernel
theorem cal_Mod_hasLine : mCal m_Mod_hasLine 1 := ⟨Or.inl ⟨rfl, goodIn_r _ [1125] (by decide +kernel) (by decide +kernel)⟩, by decide, ⟨by decide, by decide⟩, by decide +kernel⟩
abbrev b_Mod_isAt : ByteArray := prog_13_method_7_code
def m_Mod_isAt : Mi := (⟨"TextNetModel", "isAt", "(II)Z"⟩, b_Mod_isAt, 3, (some .boolean), [])
theorem d_Mod_isAt_0 : decode (mB m_Mod_isAt) 0 = .ok (.aload_n 0, 1) := by decide +kernel
theorem d_Mod_isAt_1 : decode (mB m_Mod_isAt) 1 = .ok (.iload_n 1, 1) := by decide +kernel
theorem d_Mod_isAt_2 : decode (mB m_Mod_isAt) 2 = .ok (.invokevirtual 119, 3) := by decide +kernel
theorem d_Mod_isAt_5 : decode (mB m_Mod_isAt) 5 = .ok (.ifCond .eq 27, 3) := by decide +kernel
theorem d_Mod_isAt_8 : decode (mB m_Mod_isAt) 8 = .ok (.aload_n 0, 1) := by decide +kernel
theorem d_Mod_isAt_9 : decode (mB m_Mod_isAt) 9 = .ok (.getfield 23, 3) := by decide +kernel
theorem d_Mod_isAt_12 : decode (mB m_Mod_isAt) 12 = .ok (.iload_n 1, 1) := by decide +kernel
theorem d_Mod_isAt_13 : decode (mB m_Mod_isAt) 13 = .ok (.iaload, 1) := by decide +kernel
theorem d_Mod_isAt_14 : decode (mB m_Mod_isAt) 14 = .ok (.iload_n 2, 1) := by decide +kernel
theorem d_Mod_isAt_15 : decode (mB m_Mod_isAt) 15 = .ok (.if_icmp .eq 13, 3) := by decide +kernel
theorem d_Mod_isAt_18 : decode (mB m_Mod_isAt) 18 = .ok (.aload_n 0, 1) := by decide +kernel
theorem d_Mod_isAt_19 : decode (mB m_Mod_isAt) 19 = .ok (.getfield 26, 3) := by decide +kernel
theorem d_Mod_isAt_22 : decode (mB m_Mod_isAt) 22 = .ok (.iload_n 1, 1) := by decide +kernel
theorem d_Mod_isAt_23 : decode (mB m_Mod_isAt) 23 = .ok (.iaload, 1) := by decide +kernel
theorem d_Mod_isAt_24 : decode (mB m_Mod_isAt) 24 = .ok (.iload_n 2, 1) := by decide +kernel
theorem d_Mod_isAt_25 : decode (mB m_Mod_isAt) 25 = .ok (.if_icmp .ne 7, 3) := by decide +kernel
theorem d_Mod_isAt_28 : decode (mB m_Mod_isAt) 28 = .ok (.iconst 1, 1) := by decide +kernel
theorem d_Mod_isAt_29 : decode (mB m_Mod_isAt) 29 = .ok (.goto 4, 3) := by decide +kernel
theorem d_Mod_isAt_32 : decode (mB m_Mod_isAt) 32 = .ok (.iconst 0, 1) := by decide +kernel
theorem d_Mod_isAt_33 : decode (mB m_Mod_isAt) 33 = .ok (.ireturn, 1) := by decide +kernel
theorem cal_Mod_isAt : mCal m_Mod_isAt 2 := ⟨Or.inl ⟨rfl, goodIn_r _ [1121] (by decide +kernel) (by decide +kernel)⟩, by decide, ⟨by decide, by decide⟩, by decide +kernel⟩
abbrev b_Mod_line : ByteArray := prog_13_method_8_code
def m_Mod_line : Mi := (⟨"TextNetModel", "line", "(III)V"⟩, b_Mod_line, 7, none, [])
theorem d_Mod_line_0 : decode (mB m_Mod_line) 0 = .ok (.aload_n 0, 1) := by decide +kernel
theorem d_Mod_line_1 : decode (mB m_Mod_line) 1 = .ok (.iload_n 1, 1) := by decide +kernel
theorem d_Mod_line_2 : decode (mB m_Mod_line) 2 = .ok (.iconst 0, 1) := by decide +kernel
theorem d_Mod_line_3 : decode (mB m_Mod_line) 3 = .ok (.bipush 7, 2) := by decide +kernel
theorem d_Mod_line_5 : decode (mB m_Mod_line) 5 = .ok (.invokestatic 115, 3) := by decide +kernel
theorem d_Mod_line_8 : decode (mB m_Mod_line) 8 = .ok (.ifCond .eq 35, 3) := by decide +kernel
theorem d_Mod_line_11 : decode (mB m_Mod_line) 11 = .ok (.aload_n 0, 1) := by decide +kernel
theorem d_Mod_line_12 : decode (mB m_Mod_line) 12 = .ok (.getfield 19, 3) := by decide +kernel
theorem d_Mod_line_15 : decode (mB m_Mod_line) 15 = .ok (.iload_n 1, 1) := by decide +kernel
theorem d_Mod_line_16 : decode (mB m_Mod_line) 16 = .ok (.baload, 1) := by decide +kernel
theorem d_Mod_line_17 : decode (mB m_Mod_line) 17 = .ok (.ifCond .ne 26, 3) := by decide +kernel
theorem d_Mod_line_20 : decode (mB m_Mod_line) 20 = .ok (.iload_n 2, 1) := by decide +kernel
theorem d_Mod_line_21 : decode (mB m_Mod_line) 21 = .ok (.invokestatic 123, 3) := by decide +kernel
theorem d_Mod_line_24 : decode (mB m_Mod_line) 24 = .ok (.ifCond .eq 19, 3) := by decide +kernel
theorem d_Mod_line_27 : decode (mB m_Mod_line) 27 = .ok (.iload_n 3, 1) := by decide +kernel
theorem d_Mod_line_28 : decode (mB m_Mod_line) 28 = .ok (.invokestatic 123, 3) := by decide +kernel
theorem d_Mod_line_31 : decode (mB m_Mod_line) 31 = .ok (.ifCond .eq 12, 3) := by decide +kernel
theorem d_Mod_line_34 : decode (mB m_Mod_line) 34 = .ok (.iload_n 2, 1) := by decide +kernel
theorem d_Mod_line_35 : decode (mB m_Mod_line) 35 = .ok (.iload_n 3, 1) := by decide +kernel
theorem d_Mod_line_36 : decode (mB m_Mod_line) 36 = .ok (.if_icmp .eq 7, 3) := by decide +kernel
theorem d_Mod_line_39 : decode (mB m_Mod_line) 39 = .ok (.iconst 0, 1) := by decide +kernel
theorem d_Mod_line_40 : decode (mB m_Mod_line) 40 = .ok (.goto 4, 3) := by decide +kernel
theorem d_Mod_line_43 : decode (mB m_Mod_line) 43 = .ok (.iconst 1, 1) := by decide +kernel
theorem d_Mod_line_44 : decode (mB m_Mod_line) 44 = .ok (.putfield 111, 3) := by decide +kernel
theorem d_Mod_line_47 : decode (mB m_Mod_line) 47 = .ok (.iconst 0, 1) := by decide +kernel
theorem d_Mod_line_48 : decode (mB m_Mod_line) 48 = .ok (.istore 4, 2) := by decide +kernel
theorem d_Mod_line_50 : decode (mB m_Mod_line) 50 = .ok (.iconst 0, 1) := by decide +kernel
theorem d_Mod_line_51 : decode (mB m_Mod_line) 51 = .ok (.istore 5, 2) := by decide +kernel
theorem d_Mod_line_53 : decode (mB m_Mod_line) 53 = .ok (.iconst 0, 1) := by decide +kernel
theorem d_Mod_line_54 : decode (mB m_Mod_line) 54 = .ok (.istore 6, 2) := by decide +kernel
theorem d_Mod_line_56 : decode (mB m_Mod_line) 56 = .ok (.iload 6, 2) := by decide +kernel
theorem d_Mod_line_58 : decode (mB m_Mod_line) 58 = .ok (.bipush 8, 2) := by decide +kernel
theorem d_Mod_line_60 : decode (mB m_Mod_line) 60 = .ok (.if_icmp .ge 56, 3) := by decide +kernel
theorem d_Mod_line_63 : decode (mB m_Mod_line) 63 = .ok (.aload_n 0, 1) := by decide +kernel
theorem d_Mod_line_64 : decode (mB m_Mod_line) 64 = .ok (.getfield 111, 3) := by decide +kernel
theorem d_Mod_line_67 : decode (mB m_Mod_line) 67 = .ok (.ifCond .ne 49, 3) := by decide +kernel
theorem d_Mod_line_70 : decode (mB m_Mod_line) 70 = .ok (.iload 4, 2) := by decide +kernel
theorem d_Mod_line_72 : decode (mB m_Mod_line) 72 = .ok (.aload_n 0, 1) := by decide +kernel
theorem d_Mod_line_73 : decode (mB m_Mod_line) 73 = .ok (.iload 6, 2) := by decide +kernel
theorem d_Mod_line_75 : decode (mB m_Mod_line) 75 = .ok (.iload_n 2, 1) := by decide +kernel
theorem d_Mod_line_76 : decode (mB m_Mod_line) 76 = .ok (.invokevirtual 126, 3) := by decide +kernel
theorem d_Mod_line_79 : decode (mB m_Mod_line) 79 = .ok (.ifCond .eq 7, 3) := by decide +kernel
theorem d_Mod_line_82 : decode (mB m_Mod_line) 82 = .ok (.iconst 1, 1) := by decide +kernel
theorem d_Mod_line_83 : decode (mB m_Mod_line) 83 = .ok (.goto 4, 3) := by decide +kernel
theorem d_Mod_line_86 : decode (mB m_Mod_line) 86 = .ok (.iconst 0, 1) := by decide +kernel
theorem d_Mod_line_87 : decode (mB m_Mod_line) 87 = .ok (.iadd, 1) := by decide +kernel
theorem d_Mod_line_88 : decode (mB m_Mod_line) 88 = .ok (.istore 4, 2) := by decide +kernel
theorem d_Mod_line_90 : decode (mB m_Mod_line) 90 = .ok (.iload 5, 2) := by decide +kernel
theorem d_Mod_line_92 : decode (mB m_Mod_line) 92 = .ok (.aload_n 0, 1) := by decide +kernel
theorem d_Mod_line_93 : decode (mB m_Mod_line) 93 = .ok (.iload 6, 2) := by decide +kernel
theorem d_Mod_line_95 : decode (mB m_Mod_line) 95 = .ok (.iload_n 3, 1) := by decide +kernel
theorem d_Mod_line_96 : decode (mB m_Mod_line) 96 = .ok (.invokevirtual 126, 3) := by decide +kernel
theorem d_Mod_line_99 : decode (mB m_Mod_line) 99 = .ok (.ifCond .eq 7, 3) := by decide +kernel
theorem d_Mod_line_102 : decode (mB m_Mod_line) 102 = .ok (.iconst 1, 1) := by decide +kernel
theorem d_Mod_line_103 : decode (mB m_Mod_line) 103 = .ok (.goto 4, 3) := by decide +kernel
theorem d_Mod_line_106 : decode (mB m_Mod_line) 106 = .ok (.iconst 0, 1) := by decide +kernel
theorem d_Mod_line_107 : decode (mB m_Mod_line) 107 = .ok (.iadd, 1) := by decide +kernel
theorem d_Mod_line_108 : decode (mB m_Mod_line) 108 = .ok (.istore 5, 2) := by decide +kernel
theorem d_Mod_line_110 : decode (mB m_Mod_line) 110 = .ok (.iinc 6 1, 3) := by decide +kernel
theorem d_Mod_line_113 : decode (mB m_Mod_line) 113 = .ok (.goto (-57), 3) := by decide +kernel
theorem d_Mod_line_116 : decode (mB m_Mod_line) 116 = .ok (.iload 4, 2) := by decide +kernel
theorem d_Mod_line_118 : decode (mB m_Mod_line) 118 = .ok (.iconst 4, 1) := by decide +kernel
theorem d_Mod_line_119 : decode (mB m_Mod_line) 119 = .ok (.if_icmp .eq 9, 3) := by decide +kernel
theorem d_Mod_line_122 : decode (mB m_Mod_line) 122 = .ok (.iload 5, 2) := by decide +kernel
theorem d_Mod_line_124 : decode (mB m_Mod_line) 124 = .ok (.iconst 4, 1) := by decide +kernel
theorem d_Mod_line_125 : decode (mB m_Mod_line) 125 = .ok (.if_icmp .ne 8, 3) := by decide +kernel
theorem d_Mod_line_128 : decode (mB m_Mod_line) 128 = .ok (.aload_n 0, 1) := by decide +kernel
theorem d_Mod_line_129 : decode (mB m_Mod_line) 129 = .ok (.iconst 1, 1) := by decide +kernel
theorem d_Mod_line_130 : decode (mB m_Mod_line) 130 = .ok (.putfield 111, 3) := by decide +kernel
theorem d_Mod_line_133 : decode (mB m_Mod_line) 133 = .ok (.aload_n 0, 1) := by decide +kernel
theorem d_Mod_line_134 : decode (mB m_Mod_line) 134 = .ok (.getfield 111, 3) := by decide +kernel
theorem d_Mod_line_137 : decode (mB m_Mod_line) 137 = .ok (.ifCond .le 4, 3) := by decide +kernel
theorem d_Mod_line_140 : decode (mB m_Mod_line) 140 = .ok (.return_, 1) := by decide +kernel
theorem d_Mod_line_141 : decode (mB m_Mod_line) 141 = .ok (.aload_n 0, 1) := by decide +kernel
theorem d_Mod_line_142 : decode (mB m_Mod_line) 142 = .ok (.getfield 19, 3) := by decide +kernel
theorem d_Mod_line_145 : decode (mB m_Mod_line) 145 = .ok (.iload_n 1, 1) := by decide +kernel
theorem d_Mod_line_146 : decode (mB m_Mod_line) 146 = .ok (.iconst 1, 1) := by decide +kernel
theorem d_Mod_line_147 : decode (mB m_Mod_line) 147 = .ok (.bastore, 1) := by decide +kernel
theorem d_Mod_line_148 : decode (mB m_Mod_line) 148 = .ok (.aload_n 0, 1) := by decide +kernel
theorem d_Mod_line_149 : decode (mB m_Mod_line) 149 = .ok (.getfield 23, 3) := by decide +kernel
theorem d_Mod_line_152 : decode (mB m_Mod_line) 152 = .ok (.iload_n 1, 1) := by decide +kernel
theorem d_Mod_line_153 : decode (mB m_Mod_line) 153 = .ok (.iload_n 2, 1) := by decide +kernel
theorem d_Mod_line_154 : decode (mB m_Mod_line) 154 = .ok (.iastore, 1) := by decide +kernel
theorem d_Mod_line_155 : decode (mB m_Mod_line) 155 = .ok (.aload_n 0, 1) := by decide +kernel
theorem d_Mod_line_156 : decode (mB m_Mod_line) 156 = .ok (.getfield 26, 3) := by decide +kernel
theorem d_Mod_line_159 : decode (mB m_Mod_line) 159 = .ok (.iload_n 1, 1) := by decide +kernel
theorem d_Mod_line_160 : decode (mB m_Mod_line) 160 = .ok (.iload_n 3, 1) := by decide +kernel
theorem d_Mod_line_161 : decode (mB m_Mod_line) 161 = .ok (.iastore, 1) := by decide +kernel
theorem d_Mod_line_162 : decode (mB m_Mod_line) 162 = .ok (.aload_n 0, 1) := by decide +kernel
theorem d_Mod_line_163 : decode (mB m_Mod_line) 163 = .ok (.getfield 29, 3) := by decide +kernel
theorem d_Mod_line_166 : decode (mB m_Mod_line) 166 = .ok (.iload_n 1, 1) := by decide +kernel
theorem d_Mod_line_167 : decode (mB m_Mod_line) 167 = .ok (.iconst 1, 1) := by decide +kernel
theorem d_Mod_line_168 : decode (mB m_Mod_line) 168 = .ok (.bastore, 1) := by decide +kernel
theorem d_Mod_line_169 : decode (mB m_Mod_line) 169 = .ok (.iconst 2, 1) := by decide +kernel
theorem d_Mod_line_170 : decode (mB m_Mod_line) 170 = .ok (.iload_n 1, 1) := by decide +kernel
theorem d_Mod_line_171 : decode (mB m_Mod_line) 171 = .ok (.imul, 1) := by decide +kernel
theorem d_Mod_line_172 : decode (mB m_Mod_line) 172 = .ok (.istore 6, 2) := by decide +kernel
theorem d_Mod_line_174 : decode (mB m_Mod_line) 174 = .ok (.iload 6, 2) := by decide +kernel
theorem d_Mod_line_176 : decode (mB m_Mod_line) 176 = .ok (.iconst 2, 1) := by decide +kernel
theorem d_Mod_line_177 : decode (mB m_Mod_line) 177 = .ok (.iload_n 1, 1) := by decide +kernel
theorem d_Mod_line_178 : decode (mB m_Mod_line) 178 = .ok (.imul, 1) := by decide +kernel
theorem d_Mod_line_179 : decode (mB m_Mod_line) 179 = .ok (.iconst 2, 1) := by decide +kernel
theorem d_Mod_line_180 : decode (mB m_Mod_line) 180 = .ok (.iadd, 1) := by decide +kernel
theorem d_Mod_line_181 : decode (mB m_Mod_line) 181 = .ok (.if_icmp .ge 25, 3) := by decide +kernel
theorem d_Mod_line_184 : decode (mB m_Mod_line) 184 = .ok (.aload_n 0, 1) := by decide +kernel
theorem d_Mod_line_185 : decode (mB m_Mod_line) 185 = .ok (.getfield 69, 3) := by decide +kernel
theorem d_Mod_line_188 : decode (mB m_Mod_line) 188 = .ok (.iload 6, 2) := by decide +kernel
theorem d_Mod_line_190 : decode (mB m_Mod_line) 190 = .ok (.iconst 1, 1) := by decide +kernel
theorem d_Mod_line_191 : decode (mB m_Mod_line) 191 = .ok (.iastore, 1) := by decide +kernel
theorem d_Mod_line_192 : decode (mB m_Mod_line) 192 = .ok (.aload_n 0, 1) := by decide +kernel
theorem d_Mod_line_193 : decode (mB m_Mod_line) 193 = .ok (.getfield 72, 3) := by decide +kernel
theorem d_Mod_line_196 : decode (mB m_Mod_line) 196 = .ok (.iload 6, 2) := by decide +kernel
theorem d_Mod_line_198 : decode (mB m_Mod_line) 198 = .ok (.iconst 1, 1) := by decide +kernel
theorem d_Mod_line_199 : decode (mB m_Mod_line) 199 = .ok (.iastore, 1) := by decide +kernel
theorem d_Mod_line_200 : decode (mB m_Mod_line) 200 = .ok (.iinc 6 1, 3) := by decide +kernel
theorem d_Mod_line_203 : decode (mB m_Mod_line) 203 = .ok (.goto (-29), 3) := by decide +kernel
theorem d_Mod_line_206 : decode (mB m_Mod_line) 206 = .ok (.return_, 1) := by decide +kernel
theorem cal_Mod_line : mCal m_Mod_line 3 := ⟨Or.inl ⟨rfl, goodIn_r _ [1111] (by decide +kernel) (by decide +kernel)⟩, by decide, ⟨by decide, by decide⟩, by decide +kernel⟩
abbrev b_Mod_isLetter : ByteArray := prog_13_method_9_code
def m_Mod_isLetter : Mi := (⟨"TextNetModel", "isLetter", "(I)Z"⟩, b_Mod_isLetter, 1, (some .boolean), [])
theorem d_Mod_isLetter_0 : decode (mB m_Mod_isLetter) 0 = .ok (.iload_n 0, 1) := by decide +kernel
theorem d_Mod_isLetter_1 : decode (mB m_Mod_isLetter) 1 = .ok (.bipush 65, 2) := by decide +kernel
theorem d_Mod_isLetter_3 : decode (mB m_Mod_isLetter) 3 = .ok (.bipush 90, 2) := by decide +kernel
theorem d_Mod_isLetter_5 : decode (mB m_Mod_isLetter) 5 = .ok (.invokestatic 115, 3) := by decide +kernel
theorem d_Mod_isLetter_8 : decode (mB m_Mod_isLetter) 8 = .ok (.ireturn, 1) := by decide +kernel
theorem cal_Mod_isLetter : mCal m_Mod_isLetter 1 := ⟨Or.inl ⟨rfl, goodIn_r _ [1132] (by decide +kernel) (by decide +kernel)⟩, by decide, ⟨by decide, by decide⟩, by decide +kernel⟩
abbrev b_Mod_route : ByteArray := prog_13_method_10_code
def m_Mod_route : Mi := (⟨"TextNetModel", "route", "(IIIIII)V"⟩, b_Mod_route, 11, none, [])
theorem d_Mod_route_0 : decode (mB m_Mod_route) 0 = .ok (.aload_n 0, 1) := by decide +kernel
theorem d_Mod_route_1 : decode (mB m_Mod_route) 1 = .ok (.iload_n 1, 1) := by decide +kernel
theorem d_Mod_route_2 : decode (mB m_Mod_route) 2 = .ok (.invokestatic 123, 3) := by decide +kernel
theorem d_Mod_route_5 : decode (mB m_Mod_route) 5 = .ok (.ifCond .eq 18, 3) := by decide +kernel
theorem d_Mod_route_8 : decode (mB m_Mod_route) 8 = .ok (.iload 4, 2) := by decide +kernel
theorem d_Mod_route_10 : decode (mB m_Mod_route) 10 = .ok (.iconst 1, 1) := by decide +kernel
theorem d_Mod_route_11 : decode (mB m_Mod_route) 11 = .ok (.bipush 8, 2) := by decide +kernel
theorem d_Mod_route_13 : decode (mB m_Mod_route) 13 = .ok (.invokestatic 115, 3) := by decide +kernel
theorem d_Mod_route_16 : decode (mB m_Mod_route) 16 = .ok (.ifCond .eq 7, 3) := by decide +kernel
theorem d_Mod_route_19 : decode (mB m_Mod_route) 19 = .ok (.iconst 0, 1) := by decide +kernel
theorem d_Mod_route_20 : decode (mB m_Mod_route) 20 = .ok (.goto 4, 3) := by decide +kernel
theorem d_Mod_route_23 : decode (mB m_Mod_route) 23 = .ok (.iconst 1, 1) := by decide +kernel
theorem d_Mod_route_24 : decode (mB m_Mod_route) 24 = .ok (.putfield 111, 3) := by decide +kernel
theorem d_Mod_route_27 : decode (mB m_Mod_route) 27 = .ok (.lconst 0, 1) := by decide +kernel
theorem d_Mod_route_28 : decode (mB m_Mod_route) 28 = .ok (.lstore 7, 2) := by decide +kernel
theorem d_Mod_route_30 : decode (mB m_Mod_route) 30 = .ok (.iconst 0, 1) := by decide +kernel
theorem d_Mod_route_31 : decode (mB m_Mod_route) 31 = .ok (.istore 9, 2) := by decide +kernel
theorem d_Mod_route_33 : decode (mB m_Mod_route) 33 = .ok (.iload 9, 2) := by decide +kernel
theorem d_Mod_route_35 : decode (mB m_Mod_route) 35 = .ok (.bipush 8, 2) := by decide +kernel
theorem d_Mod_route_37 : decode (mB m_Mod_route) 37 = .ok (.if_icmp .ge 80, 3) := by decide +kernel
theorem d_Mod_route_40 : decode (mB m_Mod_route) 40 = .ok (.aload_n 0, 1) := by decide +kernel
theorem d_Mod_route_41 : decode (mB m_Mod_route) 41 = .ok (.getfield 111, 3) := by decide +kernel
theorem d_Mod_route_44 : decode (mB m_Mod_route) 44 = .ok (.ifCond .ne 73, 3) := by decide +kernel
theorem d_Mod_route_47 : decode (mB m_Mod_route) 47 = .ok (.iload 9, 2) := by decide +kernel
theorem d_Mod_route_49 : decode (mB m_Mod_route) 49 = .ok (.iconst 4, 1) := by decide +kernel
theorem d_Mod_route_50 : decode (mB m_Mod_route) 50 = .ok (.if_icmp .ge 7, 3) := by decide +kernel
theorem d_Mod_route_53 : decode (mB m_Mod_route) 53 = .ok (.iload_n 2, 1) := by decide +kernel
theorem d_Mod_route_54 : decode (mB m_Mod_route) 54 = .ok (.goto 4, 3) := by decide +kernel
theorem d_Mod_route_57 : decode (mB m_Mod_route) 57 = .ok (.iload_n 3, 1) := by decide +kernel
theorem d_Mod_route_58 : decode (mB m_Mod_route) 58 = .ok (.bipush 8, 2) := by decide +kernel
theorem d_Mod_route_60 : decode (mB m_Mod_route) 60 = .ok (.iload 9, 2) := by decide +kernel
theorem d_Mod_route_62 : decode (mB m_Mod_route) 62 = .ok (.iconst 4, 1) := by decide +kernel
theorem d_Mod_route_63 : decode (mB m_Mod_route) 63 = .ok (.irem, 1) := by decide +kernel
theorem d_Mod_route_64 : decode (mB m_Mod_route) 64 = .ok (.imul, 1) := by decide +kernel
theorem d_Mod_route_65 : decode (mB m_Mod_route) 65 = .ok (.ishr, 1) := by decide +kernel
theorem d_Mod_route_66 : decode (mB m_Mod_route) 66 = .ok (.sipush 255, 3) := by decide +kernel
theorem d_Mod_route_69 : decode (mB m_Mod_route) 69 = .ok (.iand, 1) := by decide +kernel
theorem d_Mod_route_70 : decode (mB m_Mod_route) 70 = .ok (.istore 10, 2) := by decide +kernel
theorem d_Mod_route_72 : decode (mB m_Mod_route) 72 = .ok (.iload 9, 2) := by decide +kernel
theorem d_Mod_route_74 : decode (mB m_Mod_route) 74 = .ok (.iload 4, 2) := by decide +kernel
theorem d_Mod_route_76 : decode (mB m_Mod_route) 76 = .ok (.if_icmp .ge 14, 3) := by decide +kernel
theorem d_Mod_route_79 : decode (mB m_Mod_route) 79 = .ok (.iload 10, 2) := by decide +kernel
theorem d_Mod_route_81 : decode (mB m_Mod_route) 81 = .ok (.invokestatic 130, 3) := by decide +kernel
theorem d_Mod_route_84 : decode (mB m_Mod_route) 84 = .ok (.ifCond .ne 16, 3) := by decide +kernel
theorem d_Mod_route_87 : decode (mB m_Mod_route) 87 = .ok (.goto 8, 3) := by decide +kernel
theorem d_Mod_route_90 : decode (mB m_Mod_route) 90 = .ok (.iload 10, 2) := by decide +kernel
theorem d_Mod_route_92 : decode (mB m_Mod_route) 92 = .ok (.ifCond .eq 8, 3) := by decide +kernel
theorem d_Mod_route_95 : decode (mB m_Mod_route) 95 = .ok (.aload_n 0, 1) := by decide +kernel
theorem d_Mod_route_96 : decode (mB m_Mod_route) 96 = .ok (.iconst 1, 1) := by decide +kernel
theorem d_Mod_route_97 : decode (mB m_Mod_route) 97 = .ok (.putfield 111, 3) := by decide +kernel
theorem d_Mod_route_100 : decode (mB m_Mod_route) 100 = .ok (.lload 7, 2) := by decide +kernel
theorem d_Mod_route_102 : decode (mB m_Mod_route) 102 = .ok (.bipush 8, 2) := by decide +kernel
theorem d_Mod_route_104 : decode (mB m_Mod_route) 104 = .ok (.lshl, 1) := by decide +kernel
theorem d_Mod_route_105 : decode (mB m_Mod_route) 105 = .ok (.iload 10, 2) := by decide +kernel
theorem d_Mod_route_107 : decode (mB m_Mod_route) 107 = .ok (.i2l, 1) := by decide +kernel
theorem d_Mod_route_108 : decode (mB m_Mod_route) 108 = .ok (.lor, 1) := by decide +kernel
theorem d_Mod_route_109 : decode (mB m_Mod_route) 109 = .ok (.lstore 7, 2) := by decide +kernel
theorem d_Mod_route_111 : decode (mB m_Mod_route) 111 = .ok (.iinc 9 1, 3) := by decide +kernel
theorem d_Mod_route_114 : decode (mB m_Mod_route) 114 = .ok (.goto (-81), 3) := by decide +kernel
theorem d_Mod_route_117 : decode (mB m_Mod_route) 117 = .ok (.aload_n 0, 1) := by decide +kernel
theorem d_Mod_route_118 : decode (mB m_Mod_route) 118 = .ok (.getfield 111, 3) := by decide +kernel
theorem d_Mod_route_121 : decode (mB m_Mod_route) 121 = .ok (.ifCond .ne 53, 3) := by decide +kernel
theorem d_Mod_route_124 : decode (mB m_Mod_route) 124 = .ok (.iload 5, 2) := by decide +kernel
theorem d_Mod_route_126 : decode (mB m_Mod_route) 126 = .ok (.iconst (-1), 1) := by decide +kernel
theorem d_Mod_route_127 : decode (mB m_Mod_route) 127 = .ok (.if_icmp .eq 13, 3) := by decide +kernel
theorem d_Mod_route_130 : decode (mB m_Mod_route) 130 = .ok (.aload_n 0, 1) := by decide +kernel
theorem d_Mod_route_131 : decode (mB m_Mod_route) 131 = .ok (.iload 5, 2) := by decide +kernel
theorem d_Mod_route_133 : decode (mB m_Mod_route) 133 = .ok (.iload_n 1, 1) := by decide +kernel
theorem d_Mod_route_134 : decode (mB m_Mod_route) 134 = .ok (.invokevirtual 126, 3) := by decide +kernel
theorem d_Mod_route_137 : decode (mB m_Mod_route) 137 = .ok (.ifCond .eq 32, 3) := by decide +kernel
theorem d_Mod_route_140 : decode (mB m_Mod_route) 140 = .ok (.iload 6, 2) := by decide +kernel
theorem d_Mod_route_142 : decode (mB m_Mod_route) 142 = .ok (.iconst (-1), 1) := by decide +kernel
theorem d_Mod_route_143 : decode (mB m_Mod_route) 143 = .ok (.if_icmp .eq 13, 3) := by decide +kernel
theorem d_Mod_route_146 : decode (mB m_Mod_route) 146 = .ok (.aload_n 0, 1) := by decide +kernel
theorem d_Mod_route_147 : decode (mB m_Mod_route) 147 = .ok (.iload 6, 2) := by decide +kernel
theorem d_Mod_route_149 : decode (mB m_Mod_route) 149 = .ok (.iload_n 1, 1) := by decide +kernel
theorem d_Mod_route_150 : decode (mB m_Mod_route) 150 = .ok (.invokevirtual 126, 3) := by decide +kernel
theorem d_Mod_route_153 : decode (mB m_Mod_route) 153 = .ok (.ifCond .eq 16, 3) := by decide +kernel
theorem d_Mod_route_156 : decode (mB m_Mod_route) 156 = .ok (.iload 5, 2) := by decide +kernel
theorem d_Mod_route_158 : decode (mB m_Mod_route) 158 = .ok (.iload 6, 2) := by decide +kernel
theorem d_Mod_route_160 : decode (mB m_Mod_route) 160 = .ok (.if_icmp .ne 14, 3) := by decide +kernel
theorem d_Mod_route_163 : decode (mB m_Mod_route) 163 = .ok (.iload 5, 2) := by decide +kernel
theorem d_Mod_route_165 : decode (mB m_Mod_route) 165 = .ok (.iconst (-1), 1) := by decide +kernel
theorem d_Mod_route_166 : decode (mB m_Mod_route) 166 = .ok (.if_icmp .eq 8, 3) := by decide +kernel
theorem d_Mod_route_169 : decode (mB m_Mod_route) 169 = .ok (.aload_n 0, 1) := by decide +kernel
theorem d_Mod_route_170 : decode (mB m_Mod_route) 170 = .ok (.iconst 1, 1) := by decide +kernel
theorem d_Mod_route_171 : decode (mB m_Mod_route) 171 = .ok (.putfield 111, 3) := by decide +kernel
theorem d_Mod_route_174 : decode (mB m_Mod_route) 174 = .ok (.iconst 0, 1) := by decide +kernel
theorem d_Mod_route_175 : decode (mB m_Mod_route) 175 = .ok (.istore 9, 2) := by decide +kernel
theorem d_Mod_route_177 : decode (mB m_Mod_route) 177 = .ok (.aload_n 0, 1) := by decide +kernel
theorem d_Mod_route_178 : decode (mB m_Mod_route) 178 = .ok (.getfield 111, 3) := by decide +kernel
theorem d_Mod_route_181 : decode (mB m_Mod_route) 181 = .ok (.ifCond .ne 60, 3) := by decide +kernel
theorem d_Mod_route_184 : decode (mB m_Mod_route) 184 = .ok (.iload 9, 2) := by decide +kernel
theorem d_Mod_route_186 : decode (mB m_Mod_route) 186 = .ok (.aload_n 0, 1) := by decide +kernel
theorem d_Mod_route_187 : decode (mB m_Mod_route) 187 = .ok (.getfield 32, 3) := by decide +kernel
theorem d_Mod_route_190 : decode (mB m_Mod_route) 190 = .ok (.iload_n 1, 1) := by decide +kernel
theorem d_Mod_route_191 : decode (mB m_Mod_route) 191 = .ok (.iaload, 1) := by decide +kernel
theorem d_Mod_route_192 : decode (mB m_Mod_route) 192 = .ok (.if_icmp .ge 49, 3) := by decide +kernel
theorem d_Mod_route_195 : decode (mB m_Mod_route) 195 = .ok (.aload_n 0, 1) := by decide +kernel
theorem d_Mod_route_196 : decode (mB m_Mod_route) 196 = .ok (.getfield 35, 3) := by decide +kernel
theorem d_Mod_route_199 : decode (mB m_Mod_route) 199 = .ok (.bipush 16, 2) := by decide +kernel
theorem d_Mod_route_201 : decode (mB m_Mod_route) 201 = .ok (.iload_n 1, 1) := by decide +kernel
theorem d_Mod_route_202 : decode (mB m_Mod_route) 202 = .ok (.imul, 1) := by decide +kernel
theorem d_Mod_route_203 : decode (mB m_Mod_route) 203 = .ok (.iload 9, 2) := by decide +kernel
theorem d_Mod_route_205 : decode (mB m_Mod_route) 205 = .ok (.iadd, 1) := by decide +kernel
theorem d_Mod_route_206 : decode (mB m_Mod_route) 206 = .ok (.laload, 1) := by decide +kernel
theorem d_Mod_route_207 : decode (mB m_Mod_route) 207 = .ok (.lload 7, 2) := by decide +kernel
theorem d_Mod_route_209 : decode (mB m_Mod_route) 209 = .ok (.lcmp, 1) := by decide +kernel
theorem d_Mod_route_210 : decode (mB m_Mod_route) 210 = .ok (.ifCond .ne 25, 3) := by decide +kernel
theorem d_Mod_route_213 : decode (mB m_Mod_route) 213 = .ok (.aload_n 0, 1) := by decide +kernel
theorem d_Mod_route_214 : decode (mB m_Mod_route) 214 = .ok (.getfield 39, 3) := by decide +kernel
theorem d_Mod_route_217 : decode (mB m_Mod_route) 217 = .ok (.bipush 16, 2) := by decide +kernel
theorem d_Mod_route_219 : decode (mB m_Mod_route) 219 = .ok (.iload_n 1, 1) := by decide +kernel
theorem d_Mod_route_220 : decode (mB m_Mod_route) 220 = .ok (.imul, 1) := by decide +kernel
theorem d_Mod_route_221 : decode (mB m_Mod_route) 221 = .ok (.iload 9, 2) := by decide +kernel
theorem d_Mod_route_223 : decode (mB m_Mod_route) 223 = .ok (.iadd, 1) := by decide +kernel
theorem d_Mod_route_224 : decode (mB m_Mod_route) 224 = .ok (.iaload, 1) := by decide +kernel
theorem d_Mod_route_225 : decode (mB m_Mod_route) 225 = .ok (.iload 4, 2) := by decide +kernel
theorem d_Mod_route_227 : decode (mB m_Mod_route) 227 = .ok (.if_icmp .ne 8, 3) := by decide +kernel
theorem d_Mod_route_230 : decode (mB m_Mod_route) 230 = .ok (.aload_n 0, 1) := by decide +kernel
theorem d_Mod_route_231 : decode (mB m_Mod_route) 231 = .ok (.iconst 1, 1) := by decide +kernel
theorem d_Mod_route_232 : decode (mB m_Mod_route) 232 = .ok (.putfield 111, 3) := by decide +kernel
theorem d_Mod_route_235 : decode (mB m_Mod_route) 235 = .ok (.iinc 9 1, 3) := by decide +kernel
theorem d_Mod_route_238 : decode (mB m_Mod_route) 238 = .ok (.goto (-61), 3) := by decide +kernel
theorem d_Mod_route_241 : decode (mB m_Mod_route) 241 = .ok (.aload_n 0, 1) := by decide +kernel
theorem d_Mod_route_242 : decode (mB m_Mod_route) 242 = .ok (.getfield 111, 3) := by decide +kernel
theorem d_Mod_route_245 : decode (mB m_Mod_route) 245 = .ok (.ifCond .le 4, 3) := by decide +kernel
theorem d_Mod_route_248 : decode (mB m_Mod_route) 248 = .ok (.return_, 1) := by decide +kernel
theorem d_Mod_route_249 : decode (mB m_Mod_route) 249 = .ok (.aload_n 0, 1) := by decide +kernel
theorem d_Mod_route_250 : decode (mB m_Mod_route) 250 = .ok (.getfield 32, 3) := by decide +kernel
theorem d_Mod_route_253 : decode (mB m_Mod_route) 253 = .ok (.iload_n 1, 1) := by decide +kernel
theorem d_Mod_route_254 : decode (mB m_Mod_route) 254 = .ok (.iaload, 1) := by decide +kernel
theorem d_Mod_route_255 : decode (mB m_Mod_route) 255 = .ok (.bipush 16, 2) := by decide +kernel
theorem d_Mod_route_257 : decode (mB m_Mod_route) 257 = .ok (.if_icmp .ne 9, 3) := by decide +kernel
theorem d_Mod_route_260 : decode (mB m_Mod_route) 260 = .ok (.aload_n 0, 1) := by decide +kernel
theorem d_Mod_route_261 : decode (mB m_Mod_route) 261 = .ok (.iconst 2, 1) := by decide +kernel
theorem d_Mod_route_262 : decode (mB m_Mod_route) 262 = .ok (.putfield 111, 3) := by decide +kernel
theorem d_Mod_route_265 : decode (mB m_Mod_route) 265 = .ok (.return_, 1) := by decide +kernel
theorem d_Mod_route_266 : decode (mB m_Mod_route) 266 = .ok (.bipush 16, 2) := by decide +kernel
theorem d_Mod_route_268 : decode (mB m_Mod_route) 268 = .ok (.iload_n 1, 1) := by decide +kernel
theorem d_Mod_route_269 : decode (mB m_Mod_route) 269 = .ok (.imul, 1) := by decide +kernel
theorem d_Mod_route_270 : decode (mB m_Mod_route) 270 = .ok (.aload_n 0, 1) := by decide +kernel
theorem d_Mod_route_271 : decode (mB m_Mod_route) 271 = .ok (.getfield 32, 3) := by decide +kernel
theorem d_Mod_route_274 : decode (mB m_Mod_route) 274 = .ok (.iload_n 1, 1) := by decide +kernel
theorem d_Mod_route_275 : decode (mB m_Mod_route) 275 = .ok (.iaload, 1) := by decide +kernel
theorem d_Mod_route_276 : decode (mB m_Mod_route) 276 = .ok (.iadd, 1) := by decide +kernel
theorem d_Mod_route_277 : decode (mB m_Mod_route) 277 = .ok (.istore 9, 2) := by decide +kernel
theorem d_Mod_route_279 : decode (mB m_Mod_route) 279 = .ok (.aload_n 0, 1) := by decide +kernel
theorem d_Mod_route_280 : decode (mB m_Mod_route) 280 = .ok (.getfield 35, 3) := by decide +kernel
theorem d_Mod_route_283 : decode (mB m_Mod_route) 283 = .ok (.iload 9, 2) := by decide +kernel
theorem d_Mod_route_285 : decode (mB m_Mod_route) 285 = .ok (.lload 7, 2) := by decide +kernel
theorem d_Mod_route_287 : decode (mB m_Mod_route) 287 = .ok (.lastore, 1) := by decide +kernel
theorem d_Mod_route_288 : decode (mB m_Mod_route) 288 = .ok (.aload_n 0, 1) := by decide +kernel
theorem d_Mod_route_289 : decode (mB m_Mod_route) 289 = .ok (.getfield 39, 3) := by decide +kernel
theorem d_Mod_route_292 : decode (mB m_Mod_route) 292 = .ok (.iload 9, 2) := by decide +kernel
theorem d_Mod_route_294 : decode (mB m_Mod_route) 294 = .ok (.iload 4, 2) := by decide +kernel
theorem d_Mod_route_296 : decode (mB m_Mod_route) 296 = .ok (.iastore, 1) := by decide +kernel
theorem d_Mod_route_297 : decode (mB m_Mod_route) 297 = .ok (.aload_n 0, 1) := by decide +kernel
theorem d_Mod_route_298 : decode (mB m_Mod_route) 298 = .ok (.getfield 42, 3) := by decide +kernel
theorem d_Mod_route_301 : decode (mB m_Mod_route) 301 = .ok (.iload 9, 2) := by decide +kernel
theorem d_Mod_route_303 : decode (mB m_Mod_route) 303 = .ok (.iload 5, 2) := by decide +kernel
theorem d_Mod_route_305 : decode (mB m_Mod_route) 305 = .ok (.iastore, 1) := by decide +kernel
theorem d_Mod_route_306 : decode (mB m_Mod_route) 306 = .ok (.aload_n 0, 1) := by decide +kernel
theorem d_Mod_route_307 : decode (mB m_Mod_route) 307 = .ok (.getfield 45, 3) := by decide +kernel
theorem d_Mod_route_310 : decode (mB m_Mod_route) 310 = .ok (.iload 9, 2) := by decide +kernel
theorem d_Mod_route_312 : decode (mB m_Mod_route) 312 = .ok (.iload 6, 2) := by decide +kernel
theorem d_Mod_route_314 : decode (mB m_Mod_route) 314 = .ok (.iastore, 1) := by decide +kernel
theorem d_Mod_route_315 : decode (mB m_Mod_route) 315 = .ok (.aload_n 0, 1) := by decide +kernel
theorem d_Mod_route_316 : decode (mB m_Mod_route) 316 = .ok (.getfield 32, 3) := by decide +kernel
theorem d_Mod_route_319 : decode (mB m_Mod_route) 319 = .ok (.iload_n 1, 1) := by decide +kernel
theorem d_Mod_route_320 : decode (mB m_Mod_route) 320 = .ok (.dup2, 1) := by decide +kernel
theorem d_Mod_route_321 : decode (mB m_Mod_route) 321 = .ok (.iaload, 1) := by decide +kernel
theorem d_Mod_route_322 : decode (mB m_Mod_route) 322 = .ok (.iconst 1, 1) := by decide +kernel
theorem d_Mod_route_323 : decode (mB m_Mod_route) 323 = .ok (.iadd, 1) := by decide +kernel
theorem d_Mod_route_324 : decode (mB m_Mod_route) 324 = .ok (.iastore, 1) := by decide +kernel
theorem d_Mod_route_325 : decode (mB m_Mod_route) 325 = .ok (.return_, 1) := by decide +kernel
theorem cal_Mod_route : mCal m_Mod_route 6 := ⟨Or.inl ⟨rfl, goodIn_r _ [1129] (by decide +kernel) (by decide +kernel)⟩, by decide, ⟨by decide, by decide⟩, by decide +kernel⟩
abbrev b_Mod_entry : ByteArray := prog_13_method_11_code
def m_Mod_entry : Mi := (⟨"TextNetModel", "entry", "(IJ)I"⟩, b_Mod_entry, 8, (some .int), [])
theorem d_Mod_entry_0 : decode (mB m_Mod_entry) 0 = .ok (.iconst (-1), 1) := by decide +kernel
theorem d_Mod_entry_1 : decode (mB m_Mod_entry) 1 = .ok (.istore 4, 2) := by decide +kernel
theorem d_Mod_entry_3 : decode (mB m_Mod_entry) 3 = .ok (.bipush 16, 2) := by decide +kernel
theorem d_Mod_entry_5 : decode (mB m_Mod_entry) 5 = .ok (.iload_n 1, 1) := by decide +kernel
theorem d_Mod_entry_6 : decode (mB m_Mod_entry) 6 = .ok (.imul, 1) := by decide +kernel
theorem d_Mod_entry_7 : decode (mB m_Mod_entry) 7 = .ok (.istore 5, 2) := by decide +kernel
theorem d_Mod_entry_9 : decode (mB m_Mod_entry) 9 = .ok (.iload 5, 2) := by decide +kernel
theorem d_Mod_entry_11 : decode (mB m_Mod_entry) 11 = .ok (.bipush 16, 2) := by decide +kernel
theorem d_Mod_entry_13 : decode (mB m_Mod_entry) 13 = .ok (.iload_n 1, 1) := by decide +kernel
theorem d_Mod_entry_14 : decode (mB m_Mod_entry) 14 = .ok (.imul, 1) := by decide +kernel
theorem d_Mod_entry_15 : decode (mB m_Mod_entry) 15 = .ok (.aload_n 0, 1) := by decide +kernel
theorem d_Mod_entry_16 : decode (mB m_Mod_entry) 16 = .ok (.getfield 32, 3) := by decide +kernel
theorem d_Mod_entry_19 : decode (mB m_Mod_entry) 19 = .ok (.iload_n 1, 1) := by decide +kernel
theorem d_Mod_entry_20 : decode (mB m_Mod_entry) 20 = .ok (.iaload, 1) := by decide +kernel
theorem d_Mod_entry_21 : decode (mB m_Mod_entry) 21 = .ok (.iadd, 1) := by decide +kernel
theorem d_Mod_entry_22 : decode (mB m_Mod_entry) 22 = .ok (.if_icmp .ge 106, 3) := by decide +kernel
theorem d_Mod_entry_25 : decode (mB m_Mod_entry) 25 = .ok (.bipush 64, 2) := by decide +kernel
theorem d_Mod_entry_27 : decode (mB m_Mod_entry) 27 = .ok (.bipush 8, 2) := by decide +kernel
theorem d_Mod_entry_29 : decode (mB m_Mod_entry) 29 = .ok (.aload_n 0, 1) := by decide +kernel
theorem d_Mod_entry_30 : decode (mB m_Mod_entry) 30 = .ok (.getfield 39, 3) := by decide +kernel
theorem d_Mod_entry_33 : decode (mB m_Mod_entry) 33 = .ok (.iload 5, 2) := by decide +kernel
theorem d_Mod_entry_35 : decode (mB m_Mod_entry) 35 = .ok (.iaload, 1) := by decide +kernel
theorem d_Mod_entry_36 : decode (mB m_Mod_entry) 36 = .ok (.imul, 1) := by decide +kernel
theorem d_Mod_entry_37 : decode (mB m_Mod_entry) 37 = .ok (.isub, 1) := by decide +kernel
theorem d_Mod_entry_38 : decode (mB m_Mod_entry) 38 = .ok (.istore 6, 2) := by decide +kernel
theorem d_Mod_entry_40 : decode (mB m_Mod_entry) 40 = .ok (.iload 6, 2) := by decide +kernel
theorem d_Mod_entry_42 : decode (mB m_Mod_entry) 42 = .ok (.ifCond .ne 23, 3) := by decide +kernel
theorem d_Mod_entry_45 : decode (mB m_Mod_entry) 45 = .ok (.lload_n 2, 1) := by decide +kernel
theorem d_Mod_entry_46 : decode (mB m_Mod_entry) 46 = .ok (.aload_n 0, 1) := by decide +kernel
theorem d_Mod_entry_47 : decode (mB m_Mod_entry) 47 = .ok (.getfield 35, 3) := by decide +kernel
theorem d_Mod_entry_50 : decode (mB m_Mod_entry) 50 = .ok (.iload 5, 2) := by decide +kernel
theorem d_Mod_entry_52 : decode (mB m_Mod_entry) 52 = .ok (.laload, 1) := by decide +kernel
theorem d_Mod_entry_53 : decode (mB m_Mod_entry) 53 = .ok (.lcmp, 1) := by decide +kernel
theorem d_Mod_entry_54 : decode (mB m_Mod_entry) 54 = .ok (.ifCond .ne 7, 3) := by decide +kernel
theorem d_Mod_entry_57 : decode (mB m_Mod_entry) 57 = .ok (.iconst 1, 1) := by decide +kernel
theorem d_Mod_entry_58 : decode (mB m_Mod_entry) 58 = .ok (.goto 30, 3) := by decide +kernel
theorem d_Mod_entry_61 : decode (mB m_Mod_entry) 61 = .ok (.iconst 0, 1) := by decide +kernel
theorem d_Mod_entry_62 : decode (mB m_Mod_entry) 62 = .ok (.goto 26, 3) := by decide +kernel
theorem d_Mod_entry_65 : decode (mB m_Mod_entry) 65 = .ok (.lload_n 2, 1) := by decide +kernel
theorem d_Mod_entry_66 : decode (mB m_Mod_entry) 66 = .ok (.iload 6, 2) := by decide +kernel
theorem d_Mod_entry_68 : decode (mB m_Mod_entry) 68 = .ok (.lshr, 1) := by decide +kernel
theorem d_Mod_entry_69 : decode (mB m_Mod_entry) 69 = .ok (.aload_n 0, 1) := by decide +kernel
theorem d_Mod_entry_70 : decode (mB m_Mod_entry) 70 = .ok (.getfield 35, 3) := by decide +kernel
theorem d_Mod_entry_73 : decode (mB m_Mod_entry) 73 = .ok (.iload 5, 2) := by decide +kernel
theorem d_Mod_entry_75 : decode (mB m_Mod_entry) 75 = .ok (.laload, 1) := by decide +kernel
theorem d_Mod_entry_76 : decode (mB m_Mod_entry) 76 = .ok (.iload 6, 2) := by decide +kernel
theorem d_Mod_entry_78 : decode (mB m_Mod_entry) 78 = .ok (.lshr, 1) := by decide +kernel
theorem d_Mod_entry_79 : decode (mB m_Mod_entry) 79 = .ok (.lcmp, 1) := by decide +kernel
theorem d_Mod_entry_80 : decode (mB m_Mod_entry) 80 = .ok (.ifCond .ne 7, 3) := by decide +kernel
theorem d_Mod_entry_83 : decode (mB m_Mod_entry) 83 = .ok (.iconst 1, 1) := by decide +kernel
theorem d_Mod_entry_84 : decode (mB m_Mod_entry) 84 = .ok (.goto 4, 3) := by decide +kernel
theorem d_Mod_entry_87 : decode (mB m_Mod_entry) 87 = .ok (.iconst 0, 1) := by decide +kernel
theorem d_Mod_entry_88 : decode (mB m_Mod_entry) 88 = .ok (.istore 7, 2) := by decide +kernel
theorem d_Mod_entry_90 : decode (mB m_Mod_entry) 90 = .ok (.iload 7, 2) := by decide +kernel
theorem d_Mod_entry_92 : decode (mB m_Mod_entry) 92 = .ok (.ifCond .eq 30, 3) := by decide +kernel
theorem d_Mod_entry_95 : decode (mB m_Mod_entry) 95 = .ok (.iload 4, 2) := by decide +kernel
theorem d_Mod_entry_97 : decode (mB m_Mod_entry) 97 = .ok (.iconst (-1), 1) := by decide +kernel
theorem d_Mod_entry_98 : decode (mB m_Mod_entry) 98 = .ok (.if_icmp .eq 20, 3) := by decide +kernel
theorem d_Mod_entry_101 : decode (mB m_Mod_entry) 101 = .ok (.aload_n 0, 1) := by decide +kernel
theorem d_Mod_entry_102 : decode (mB m_Mod_entry) 102 = .ok (.getfield 39, 3) := by decide +kernel
theorem d_Mod_entry_105 : decode (mB m_Mod_entry) 105 = .ok (.iload 5, 2) := by decide +kernel
theorem d_Mod_entry_107 : decode (mB m_Mod_entry) 107 = .ok (.iaload, 1) := by decide +kernel
theorem d_Mod_entry_108 : decode (mB m_Mod_entry) 108 = .ok (.aload_n 0, 1) := by decide +kernel
theorem d_Mod_entry_109 : decode (mB m_Mod_entry) 109 = .ok (.getfield 39, 3) := by decide +kernel
theorem d_Mod_entry_112 : decode (mB m_Mod_entry) 112 = .ok (.iload 4, 2) := by decide +kernel
theorem d_Mod_entry_114 : decode (mB m_Mod_entry) 114 = .ok (.iaload, 1) := by decide +kernel
theorem d_Mod_entry_115 : decode (mB m_Mod_entry) 115 = .ok (.if_icmp .le 7, 3) := by decide +kernel
theorem d_Mod_entry_118 : decode (mB m_Mod_entry) 118 = .ok (.iload 5, 2) := by decide +kernel
theorem d_Mod_entry_120 : decode (mB m_Mod_entry) 120 = .ok (.istore 4, 2) := by decide +kernel
theorem d_Mod_entry_122 : decode (mB m_Mod_entry) 122 = .ok (.iinc 5 1, 3) := by decide +kernel
theorem d_Mod_entry_125 : decode (mB m_Mod_entry) 125 = .ok (.goto (-116), 3) := by decide +kernel
theorem d_Mod_entry_128 : decode (mB m_Mod_entry) 128 = .ok (.iload 4, 2) := by decide +kernel
theorem d_Mod_entry_130 : decode (mB m_Mod_entry) 130 = .ok (.ireturn, 1) := by decide +kernel
theorem cal_Mod_entry : mCal m_Mod_entry 2 := ⟨Or.inl ⟨rfl, goodIn_r _ [1201] (by decide +kernel) (by decide +kernel)⟩, by decide, ⟨by decide, by decide⟩, by decide +kernel⟩
abbrev b_Mod_put : ByteArray := prog_13_method_12_code
def m_Mod_put : Mi := (⟨"TextNetModel", "put", "(II)V"⟩, b_Mod_put, 4, none, [])
theorem d_Mod_put_0 : decode (mB m_Mod_put) 0 = .ok (.aload_n 0, 1) := by decide +kernel
theorem d_Mod_put_1 : decode (mB m_Mod_put) 1 = .ok (.iload_n 1, 1) := by decide +kernel
theorem d_Mod_put_2 : decode (mB m_Mod_put) 2 = .ok (.iconst 0, 1) := by decide +kernel
theorem d_Mod_put_3 : decode (mB m_Mod_put) 3 = .ok (.sipush 1599, 3) := by decide +kernel
theorem d_Mod_put_6 : decode (mB m_Mod_put) 6 = .ok (.invokestatic 115, 3) := by decide +kernel
theorem d_Mod_put_9 : decode (mB m_Mod_put) 9 = .ok (.ifCond .eq 7, 3) := by decide +kernel
theorem d_Mod_put_12 : decode (mB m_Mod_put) 12 = .ok (.iconst 0, 1) := by decide +kernel
theorem d_Mod_put_13 : decode (mB m_Mod_put) 13 = .ok (.goto 4, 3) := by decide +kernel
theorem d_Mod_put_16 : decode (mB m_Mod_put) 16 = .ok (.iconst 1, 1) := by decide +kernel
theorem d_Mod_put_17 : decode (mB m_Mod_put) 17 = .ok (.putfield 111, 3) := by decide +kernel
theorem d_Mod_put_20 : decode (mB m_Mod_put) 20 = .ok (.aload_n 0, 1) := by decide +kernel
theorem d_Mod_put_21 : decode (mB m_Mod_put) 21 = .ok (.getfield 111, 3) := by decide +kernel
theorem d_Mod_put_24 : decode (mB m_Mod_put) 24 = .ok (.ifCond .le 4, 3) := by decide +kernel
theorem d_Mod_put_27 : decode (mB m_Mod_put) 27 = .ok (.return_, 1) := by decide +kernel
theorem d_Mod_put_28 : decode (mB m_Mod_put) 28 = .ok (.aload_n 0, 1) := by decide +kernel
theorem d_Mod_put_29 : decode (mB m_Mod_put) 29 = .ok (.getfield 7, 3) := by decide +kernel
theorem d_Mod_put_32 : decode (mB m_Mod_put) 32 = .ok (.aload_n 0, 1) := by decide +kernel
theorem d_Mod_put_33 : decode (mB m_Mod_put) 33 = .ok (.getfield 133, 3) := by decide +kernel
theorem d_Mod_put_36 : decode (mB m_Mod_put) 36 = .ok (.iload_n 1, 1) := by decide +kernel
theorem d_Mod_put_37 : decode (mB m_Mod_put) 37 = .ok (.iastore, 1) := by decide +kernel
theorem d_Mod_put_38 : decode (mB m_Mod_put) 38 = .ok (.aload_n 0, 1) := by decide +kernel
theorem d_Mod_put_39 : decode (mB m_Mod_put) 39 = .ok (.getfield 13, 3) := by decide +kernel
theorem d_Mod_put_42 : decode (mB m_Mod_put) 42 = .ok (.aload_n 0, 1) := by decide +kernel
theorem d_Mod_put_43 : decode (mB m_Mod_put) 43 = .ok (.getfield 133, 3) := by decide +kernel
theorem d_Mod_put_46 : decode (mB m_Mod_put) 46 = .ok (.iload_n 2, 1) := by decide +kernel
theorem d_Mod_put_47 : decode (mB m_Mod_put) 47 = .ok (.iastore, 1) := by decide +kernel
theorem d_Mod_put_48 : decode (mB m_Mod_put) 48 = .ok (.aload_n 0, 1) := by decide +kernel
theorem d_Mod_put_49 : decode (mB m_Mod_put) 49 = .ok (.dup, 1) := by decide +kernel
theorem d_Mod_put_50 : decode (mB m_Mod_put) 50 = .ok (.getfield 133, 3) := by decide +kernel
theorem d_Mod_put_53 : decode (mB m_Mod_put) 53 = .ok (.iconst 1, 1) := by decide +kernel
theorem d_Mod_put_54 : decode (mB m_Mod_put) 54 = .ok (.iadd, 1) := by decide +kernel
theorem d_Mod_put_55 : decode (mB m_Mod_put) 55 = .ok (.putfield 133, 3) := by decide +kernel
theorem d_Mod_put_58 : decode (mB m_Mod_put) 58 = .ok (.iconst 0, 1) := by decide +kernel
theorem d_Mod_put_59 : decode (mB m_Mod_put) 59 = .ok (.istore_n 3, 1) := by decide +kernel
theorem d_Mod_put_60 : decode (mB m_Mod_put) 60 = .ok (.iload_n 3, 1) := by decide +kernel
theorem d_Mod_put_61 : decode (mB m_Mod_put) 61 = .ok (.iconst 4, 1) := by decide +kernel
theorem d_Mod_put_62 : decode (mB m_Mod_put) 62 = .ok (.if_icmp .ge 36, 3) := by decide +kernel
theorem d_Mod_put_65 : decode (mB m_Mod_put) 65 = .ok (.iload_n 1, 1) := by decide +kernel
theorem d_Mod_put_66 : decode (mB m_Mod_put) 66 = .ok (.iload_n 3, 1) := by decide +kernel
theorem d_Mod_put_67 : decode (mB m_Mod_put) 67 = .ok (.iadd, 1) := by decide +kernel
theorem d_Mod_put_68 : decode (mB m_Mod_put) 68 = .ok (.sipush 1600, 3) := by decide +kernel
theorem d_Mod_put_71 : decode (mB m_Mod_put) 71 = .ok (.if_icmp .ge 27, 3) := by decide +kernel
theorem d_Mod_put_74 : decode (mB m_Mod_put) 74 = .ok (.aload_n 0, 1) := by decide +kernel
theorem d_Mod_put_75 : decode (mB m_Mod_put) 75 = .ok (.getfield 16, 3) := by decide +kernel
theorem d_Mod_put_78 : decode (mB m_Mod_put) 78 = .ok (.iload_n 1, 1) := by decide +kernel
theorem d_Mod_put_79 : decode (mB m_Mod_put) 79 = .ok (.iload_n 3, 1) := by decide +kernel
theorem d_Mod_put_80 : decode (mB m_Mod_put) 80 = .ok (.iadd, 1) := by decide +kernel
theorem d_Mod_put_81 : decode (mB m_Mod_put) 81 = .ok (.iload_n 2, 1) := by decide +kernel
theorem d_Mod_put_82 : decode (mB m_Mod_put) 82 = .ok (.bipush 8, 2) := by decide +kernel
theorem d_Mod_put_84 : decode (mB m_Mod_put) 84 = .ok (.iload_n 3, 1) := by decide +kernel
theorem d_Mod_put_85 : decode (mB m_Mod_put) 85 = .ok (.imul, 1) := by decide +kernel
theorem d_Mod_put_86 : decode (mB m_Mod_put) 86 = .ok (.ishr, 1) := by decide +kernel
theorem d_Mod_put_87 : decode (mB m_Mod_put) 87 = .ok (.sipush 255, 3) := by decide +kernel
theorem d_Mod_put_90 : decode (mB m_Mod_put) 90 = .ok (.iand, 1) := by decide +kernel
theorem d_Mod_put_91 : decode (mB m_Mod_put) 91 = .ok (.iastore, 1) := by decide +kernel
theorem d_Mod_put_92 : decode (mB m_Mod_put) 92 = .ok (.iinc 3 1, 3) := by decide +kernel
theorem d_Mod_put_95 : decode (mB m_Mod_put) 95 = .ok (.goto (-35), 3) := by decide +kernel
theorem d_Mod_put_98 : decode (mB m_Mod_put) 98 = .ok (.return_, 1) := by decide +kernel
theorem cal_Mod_put : mCal m_Mod_put 2 := ⟨Or.inl ⟨rfl, goodIn_r _ [1136] (by decide +kernel) (by decide +kernel)⟩, by decide, ⟨by decide, by decide⟩, by decide +kernel⟩
abbrev b_Mod_breaks : ByteArray := prog_13_method_13_code
def m_Mod_breaks : Mi := (⟨"TextNetModel", "breaks", "(II)Z"⟩, b_Mod_breaks, 3, (some .boolean), [])
theorem d_Mod_breaks_0 : decode (mB m_Mod_breaks) 0 = .ok (.aload_n 0, 1) := by decide +kernel
theorem d_Mod_breaks_1 : decode (mB m_Mod_breaks) 1 = .ok (.iload_n 1, 1) := by decide +kernel
theorem d_Mod_breaks_2 : decode (mB m_Mod_breaks) 2 = .ok (.putfield 136, 3) := by decide +kernel
theorem d_Mod_breaks_5 : decode (mB m_Mod_breaks) 5 = .ok (.aload_n 0, 1) := by decide +kernel
theorem d_Mod_breaks_6 : decode (mB m_Mod_breaks) 6 = .ok (.iload_n 2, 1) := by decide +kernel
theorem d_Mod_breaks_7 : decode (mB m_Mod_breaks) 7 = .ok (.putfield 139, 3) := by decide +kernel
theorem d_Mod_breaks_10 : decode (mB m_Mod_breaks) 10 = .ok (.iconst 0, 1) := by decide +kernel
theorem d_Mod_breaks_11 : decode (mB m_Mod_breaks) 11 = .ok (.ireturn, 1) := by decide +kernel
theorem cal_Mod_breaks : mCal m_Mod_breaks 2 := ⟨Or.inl ⟨rfl, goodIn_r _ [1163] (by decide +kernel) (by decide +kernel)⟩, by decide, ⟨by decide, by decide⟩, by decide +kernel⟩
abbrev b_Mod_here : ByteArray := prog_13_method_14_code
def m_Mod_here : Mi := (⟨"TextNetModel", "here", "(I)I"⟩, b_Mod_here, 2, (some .int), [])
theorem d_Mod_here_0 : decode (mB m_Mod_here) 0 = .ok (.iload_n 1, 1) := by decide +kernel
theorem d_Mod_here_1 : decode (mB m_Mod_here) 1 = .ok (.aload_n 0, 1) := by decide +kernel
theorem d_Mod_here_2 : decode (mB m_Mod_here) 2 = .ok (.getfield 142, 3) := by decide +kernel
theorem d_Mod_here_5 : decode (mB m_Mod_here) 5 = .ok (.if_icmp .ge 12, 3) := by decide +kernel
theorem d_Mod_here_8 : decode (mB m_Mod_here) 8 = .ok (.aload_n 0, 1) := by decide +kernel
theorem d_Mod_here_9 : decode (mB m_Mod_here) 9 = .ok (.getfield 16, 3) := by decide +kernel
theorem d_Mod_here_12 : decode (mB m_Mod_here) 12 = .ok (.iload_n 1, 1) := by decide +kernel
theorem d_Mod_here_13 : decode (mB m_Mod_here) 13 = .ok (.iaload, 1) := by decide +kernel
theorem d_Mod_here_14 : decode (mB m_Mod_here) 14 = .ok (.goto 4, 3) := by decide +kernel
theorem d_Mod_here_17 : decode (mB m_Mod_here) 17 = .ok (.iconst (-1), 1) := by decide +kernel
theorem d_Mod_here_18 : decode (mB m_Mod_here) 18 = .ok (.ireturn, 1) := by decide +kernel
theorem cal_Mod_here : mCal m_Mod_here 1 := ⟨Or.inl ⟨rfl, goodIn_r _ [1156] (by decide +kernel) (by decide +kernel)⟩, by decide, ⟨by decide, by decide⟩, by decide +kernel⟩
abbrev b_Mod_isDigit : ByteArray := prog_13_method_15_code
def m_Mod_isDigit : Mi := (⟨"TextNetModel", "isDigit", "(I)Z"⟩, b_Mod_isDigit, 1, (some .boolean), [])
theorem d_Mod_isDigit_0 : decode (mB m_Mod_isDigit) 0 = .ok (.iload_n 0, 1) := by decide +kernel
theorem d_Mod_isDigit_1 : decode (mB m_Mod_isDigit) 1 = .ok (.bipush 48, 2) := by decide +kernel
theorem d_Mod_isDigit_3 : decode (mB m_Mod_isDigit) 3 = .ok (.bipush 57, 2) := by decide +kernel
theorem d_Mod_isDigit_5 : decode (mB m_Mod_isDigit) 5 = .ok (.invokestatic 115, 3) := by decide +kernel
theorem d_Mod_isDigit_8 : decode (mB m_Mod_isDigit) 8 = .ok (.ireturn, 1) := by decide +kernel
theorem cal_Mod_isDigit : mCal m_Mod_isDigit 1 := ⟨Or.inl ⟨rfl, goodIn_r _ [1182] (by decide +kernel) (by decide +kernel)⟩, by decide, ⟨by decide, by decide⟩, by decide +kernel⟩
abbrev b_Mod_isSign : ByteArray := prog_13_method_16_code
def m_Mod_isSign : Mi := (⟨"TextNetModel", "isSign", "(I)Z"⟩, b_Mod_isSign, 1, (some .boolean), [])
theorem d_Mod_isSign_0 : decode (mB m_Mod_isSign) 0 = .ok (.iload_n 0, 1) := by decide +kernel
theorem d_Mod_isSign_1 : decode (mB m_Mod_isSign) 1 = .ok (.invokestatic 130, 3) := by decide +kernel
theorem d_Mod_isSign_4 : decode (mB m_Mod_isSign) 4 = .ok (.ifCond .ne 82, 3) := by decide +kernel
theorem d_Mod_isSign_7 : decode (mB m_Mod_isSign) 7 = .ok (.iload_n 0, 1) := by decide +kernel
theorem d_Mod_isSign_8 : decode (mB m_Mod_isSign) 8 = .ok (.invokestatic 145, 3) := by decide +kernel
theorem d_Mod_isSign_11 : decode (mB m_Mod_isSign) 11 = .ok (.ifCond .ne 75, 3) := by decide +kernel
theorem d_Mod_isSign_14 : decode (mB m_Mod_isSign) 14 = .ok (.iload_n 0, 1) := by decide +kernel
theorem d_Mod_isSign_15 : decode (mB m_Mod_isSign) 15 = .ok (.bipush 32, 2) := by decide +kernel
theorem d_Mod_isSign_17 : decode (mB m_Mod_isSign) 17 = .ok (.if_icmp .eq 69, 3) := by decide +kernel
theorem d_Mod_isSign_20 : decode (mB m_Mod_isSign) 20 = .ok (.iload_n 0, 1) := by decide +kernel
theorem d_Mod_isSign_21 : decode (mB m_Mod_isSign) 21 = .ok (.bipush 45, 2) := by decide +kernel
theorem d_Mod_isSign_23 : decode (mB m_Mod_isSign) 23 = .ok (.if_icmp .eq 63, 3) := by decide +kernel
theorem d_Mod_isSign_26 : decode (mB m_Mod_isSign) 26 = .ok (.iload_n 0, 1) := by decide +kernel
theorem d_Mod_isSign_27 : decode (mB m_Mod_isSign) 27 = .ok (.bipush 63, 2) := by decide +kernel
theorem d_Mod_isSign_29 : decode (mB m_Mod_isSign) 29 = .ok (.if_icmp .eq 57, 3) := by decide +kernel
theorem d_Mod_isSign_32 : decode (mB m_Mod_isSign) 32 = .ok (.iload_n 0, 1) := by decide +kernel
theorem d_Mod_isSign_33 : decode (mB m_Mod_isSign) 33 = .ok (.bipush 58, 2) := by decide +kernel
theorem d_Mod_isSign_35 : decode (mB m_Mod_isSign) 35 = .ok (.if_icmp .eq 51, 3) := by decide +kernel
theorem d_Mod_isSign_38 : decode (mB m_Mod_isSign) 38 = .ok (.iload_n 0, 1) := by decide +kernel
theorem d_Mod_isSign_39 : decode (mB m_Mod_isSign) 39 = .ok (.bipush 40, 2) := by decide +kernel
theorem d_Mod_isSign_41 : decode (mB m_Mod_isSign) 41 = .ok (.if_icmp .eq 45, 3) := by decide +kernel
theorem d_Mod_isSign_44 : decode (mB m_Mod_isSign) 44 = .ok (.iload_n 0, 1) := by decide +kernel
theorem d_Mod_isSign_45 : decode (mB m_Mod_isSign) 45 = .ok (.bipush 41, 2) := by decide +kernel
theorem d_Mod_isSign_47 : decode (mB m_Mod_isSign) 47 = .ok (.if_icmp .eq 39, 3) := by decide +kernel
theorem d_Mod_isSign_50 : decode (mB m_Mod_isSign) 50 = .ok (.iload_n 0, 1) := by decide +kernel
theorem d_Mod_isSign_51 : decode (mB m_Mod_isSign) 51 = .ok (.bipush 46, 2) := by decide +kernel
theorem d_Mod_isSign_53 : decode (mB m_Mod_isSign) 53 = .ok (.if_icmp .eq 33, 3) := by decide +kernel
theorem d_Mod_isSign_56 : decode (mB m_Mod_isSign) 56 = .ok (.iload_n 0, 1) := by decide +kernel
theorem d_Mod_isSign_57 : decode (mB m_Mod_isSign) 57 = .ok (.bipush 44, 2) := by decide +kernel
theorem d_Mod_isSign_59 : decode (mB m_Mod_isSign) 59 = .ok (.if_icmp .eq 27, 3) := by decide +kernel
theorem d_Mod_isSign_62 : decode (mB m_Mod_isSign) 62 = .ok (.iload_n 0, 1) := by decide +kernel
theorem d_Mod_isSign_63 : decode (mB m_Mod_isSign) 63 = .ok (.bipush 39, 2) := by decide +kernel
theorem d_Mod_isSign_65 : decode (mB m_Mod_isSign) 65 = .ok (.if_icmp .eq 21, 3) := by decide +kernel
theorem d_Mod_isSign_68 : decode (mB m_Mod_isSign) 68 = .ok (.iload_n 0, 1) := by decide +kernel
theorem d_Mod_isSign_69 : decode (mB m_Mod_isSign) 69 = .ok (.bipush 47, 2) := by decide +kernel
theorem d_Mod_isSign_71 : decode (mB m_Mod_isSign) 71 = .ok (.if_icmp .eq 15, 3) := by decide +kernel
theorem d_Mod_isSign_74 : decode (mB m_Mod_isSign) 74 = .ok (.iload_n 0, 1) := by decide +kernel
theorem d_Mod_isSign_75 : decode (mB m_Mod_isSign) 75 = .ok (.bipush 43, 2) := by decide +kernel
theorem d_Mod_isSign_77 : decode (mB m_Mod_isSign) 77 = .ok (.if_icmp .eq 9, 3) := by decide +kernel
theorem d_Mod_isSign_80 : decode (mB m_Mod_isSign) 80 = .ok (.iload_n 0, 1) := by decide +kernel
theorem d_Mod_isSign_81 : decode (mB m_Mod_isSign) 81 = .ok (.bipush 61, 2) := by decide +kernel
theorem d_Mod_isSign_83 : decode (mB m_Mod_isSign) 83 = .ok (.if_icmp .ne 7, 3) := by decide +kernel
theorem d_Mod_isSign_86 : decode (mB m_Mod_isSign) 86 = .ok (.iconst 1, 1) := by decide +kernel
theorem d_Mod_isSign_87 : decode (mB m_Mod_isSign) 87 = .ok (.goto 4, 3) := by decide +kernel
theorem d_Mod_isSign_90 : decode (mB m_Mod_isSign) 90 = .ok (.iconst 0, 1) := by decide +kernel
theorem d_Mod_isSign_91 : decode (mB m_Mod_isSign) 91 = .ok (.ireturn, 1) := by decide +kernel
theorem cal_Mod_isSign : mCal m_Mod_isSign 1 := ⟨Or.inl ⟨rfl, goodIn_r _ [1193] (by decide +kernel) (by decide +kernel)⟩, by decide, ⟨by decide, by decide⟩, by decide +kernel⟩
abbrev b_Mod_rank : ByteArray := prog_13_method_17_code
def m_Mod_rank : Mi := (⟨"TextNetModel", "rank", "(I)I"⟩, b_Mod_rank, 1, (some .int), [])
theorem d_Mod_rank_0 : decode (mB m_Mod_rank) 0 = .ok (.iload_n 0, 1) := by decide +kernel
theorem d_Mod_rank_1 : decode (mB m_Mod_rank) 1 = .ok (.bipush 83, 2) := by decide +kernel
theorem d_Mod_rank_3 : decode (mB m_Mod_rank) 3 = .ok (.if_icmp .ne 7, 3) := by decide +kernel
theorem d_Mod_rank_6 : decode (mB m_Mod_rank) 6 = .ok (.iconst 0, 1) := by decide +kernel
theorem d_Mod_rank_7 : decode (mB m_Mod_rank) 7 = .ok (.goto 44, 3) := by decide +kernel
theorem d_Mod_rank_10 : decode (mB m_Mod_rank) 10 = .ok (.iload_n 0, 1) := by decide +kernel
theorem d_Mod_rank_11 : decode (mB m_Mod_rank) 11 = .ok (.bipush 68, 2) := by decide +kernel
theorem d_Mod_rank_13 : decode (mB m_Mod_rank) 13 = .ok (.if_icmp .ne 7, 3) := by decide +kernel
theorem d_Mod_rank_16 : decode (mB m_Mod_rank) 16 = .ok (.iconst 1, 1) := by decide +kernel
theorem d_Mod_rank_17 : decode (mB m_Mod_rank) 17 = .ok (.goto 34, 3) := by decide +kernel
theorem d_Mod_rank_20 : decode (mB m_Mod_rank) 20 = .ok (.iload_n 0, 1) := by decide +kernel
theorem d_Mod_rank_21 : decode (mB m_Mod_rank) 21 = .ok (.bipush 70, 2) := by decide +kernel
theorem d_Mod_rank_23 : decode (mB m_Mod_rank) 23 = .ok (.if_icmp .ne 7, 3) := by decide +kernel
theorem d_Mod_rank_26 : decode (mB m_Mod_rank) 26 = .ok (.iconst 2, 1) := by decide +kernel
theorem d_Mod_rank_27 : decode (mB m_Mod_rank) 27 = .ok (.goto 24, 3) := by decide +kernel
theorem d_Mod_rank_30 : decode (mB m_Mod_rank) 30 = .ok (.iload_n 0, 1) := by decide +kernel
theorem d_Mod_rank_31 : decode (mB m_Mod_rank) 31 = .ok (.bipush 71, 2) := by decide +kernel
theorem d_Mod_rank_33 : decode (mB m_Mod_rank) 33 = .ok (.if_icmp .ne 7, 3) := by decide +kernel
theorem d_Mod_rank_36 : decode (mB m_Mod_rank) 36 = .ok (.iconst 3, 1) := by decide +kernel
theorem d_Mod_rank_37 : decode (mB m_Mod_rank) 37 = .ok (.goto 14, 3) := by decide +kernel
theorem d_Mod_rank_40 : decode (mB m_Mod_rank) 40 = .ok (.iload_n 0, 1) := by decide +kernel
theorem d_Mod_rank_41 : decode (mB m_Mod_rank) 41 = .ok (.bipush 75, 2) := by decide +kernel
theorem d_Mod_rank_43 : decode (mB m_Mod_rank) 43 = .ok (.if_icmp .ne 7, 3) := by decide +kernel
theorem d_Mod_rank_46 : decode (mB m_Mod_rank) 46 = .ok (.iconst 4, 1) := by decide +kernel
theorem d_Mod_rank_47 : decode (mB m_Mod_rank) 47 = .ok (.goto 4, 3) := by decide +kernel
theorem d_Mod_rank_50 : decode (mB m_Mod_rank) 50 = .ok (.iconst (-1), 1) := by decide +kernel
theorem d_Mod_rank_51 : decode (mB m_Mod_rank) 51 = .ok (.ireturn, 1) := by decide +kernel
theorem cal_Mod_rank : mCal m_Mod_rank 1 := ⟨Or.inl ⟨rfl, goodIn_r _ [1159] (by decide +kernel) (by decide +kernel)⟩, by decide, ⟨by decide, by decide⟩, by decide +kernel⟩
