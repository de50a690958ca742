abbrev b_Law_law : ByteArray := code
def m_Law_law : Mi := (⟨"TextNetLaw", "law", "([I)Z"⟩, b_Law_law, 7, (some .boolean), [])
theorem d_Law_law_0 : decode (mB m_Law_law) 0 = .ok (.new 8, 3) := by decide +kernel
theorem d_Law_law_3 : decode (mB m_Law_law) 3 = .ok (.dup, 1) := by decide +kernel
theorem d_Law_law_4 : decode (mB m_Law_law) 4 = .ok (.invokespecial 64, 3) := by decide +kernel
theorem d_Law_law_7 : decode (mB m_Law_law) 7 = .ok (.astore_n 1, 1) := by decide +kernel
theorem d_Law_law_8 : decode (mB m_Law_law) 8 = .ok (.new 65, 3) := by decide +kernel
theorem d_Law_law_11 : decode (mB m_Law_law) 11 = .ok (.dup, 1) := by decide +kernel
theorem d_Law_law_12 : decode (mB m_Law_law) 12 = .ok (.invokespecial 67, 3) := by decide +kernel
theorem d_Law_law_15 : decode (mB m_Law_law) 15 = .ok (.astore_n 2, 1) := by decide +kernel
theorem d_Law_law_16 : decode (mB m_Law_law) 16 = .ok (.iconst 1, 1) := by decide +kernel
theorem d_Law_law_17 : decode (mB m_Law_law) 17 = .ok (.newarray .long, 2) := by decide +kernel
theorem d_Law_law_19 : decode (mB m_Law_law) 19 = .ok (.astore_n 3, 1) := by decide +kernel
theorem d_Law_law_20 : decode (mB m_Law_law) 20 = .ok (.iconst 0, 1) := by decide +kernel
theorem d_Law_law_21 : decode (mB m_Law_law) 21 = .ok (.istore 4, 2) := by decide +kernel
theorem d_Law_law_23 : decode (mB m_Law_law) 23 = .ok (.iload 4, 2) := by decide +kernel
theorem d_Law_law_25 : decode (mB m_Law_law) 25 = .ok (.aload_n 0, 1) := by decide +kernel
theorem d_Law_law_26 : decode (mB m_Law_law) 26 = .ok (.arraylength, 1) := by decide +kernel
theorem d_Law_law_27 : decode (mB m_Law_law) 27 = .ok (.bipush 7, 2) := by decide +kernel
theorem d_Law_law_29 : decode (mB m_Law_law) 29 = .ok (.isub, 1) := by decide +kernel
theorem d_Law_law_30 : decode (mB m_Law_law) 30 = .ok (.if_icmp .gt 1091, 3) := by decide +kernel
theorem d_Law_law_33 : decode (mB m_Law_law) 33 = .ok (.aload_n 0, 1) := by decide +kernel
theorem d_Law_law_34 : decode (mB m_Law_law) 34 = .ok (.iload 4, 2) := by decide +kernel
theorem d_Law_law_36 : decode (mB m_Law_law) 36 = .ok (.iaload, 1) := by decide +kernel
theorem d_Law_law_37 : decode (mB m_Law_law) 37 = .ok (.bipush 15, 2) := by decide +kernel
theorem d_Law_law_39 : decode (mB m_Law_law) 39 = .ok (.iand, 1) := by decide +kernel
theorem d_Law_law_40 : decode (mB m_Law_law) 40 = .ok (.tableswitch 1075 0 13 #[72, 132, 230, 278, 346, 414, 482, 569, 660, 716, 772, 852, 927, 1007], 72) := by decide +kernel
theorem d_Law_law_112 : decode (mB m_Law_law) 112 = .ok (.aload_n 1, 1) := by decide +kernel
theorem d_Law_law_113 : decode (mB m_Law_law) 113 = .ok (.aload_n 0, 1) := by decide +kernel
theorem d_Law_law_114 : decode (mB m_Law_law) 114 = .ok (.iload 4, 2) := by decide +kernel
theorem d_Law_law_116 : decode (mB m_Law_law) 116 = .ok (.iconst 1, 1) := by decide +kernel
theorem d_Law_law_117 : decode (mB m_Law_law) 117 = .ok (.iadd, 1) := by decide +kernel
theorem d_Law_law_118 : decode (mB m_Law_law) 118 = .ok (.iaload, 1) := by decide +kernel
theorem d_Law_law_119 : decode (mB m_Law_law) 119 = .ok (.aload_n 0, 1) := by decide +kernel
theorem d_Law_law_120 : decode (mB m_Law_law) 120 = .ok (.iload 4, 2) := by decide +kernel
theorem d_Law_law_122 : decode (mB m_Law_law) 122 = .ok (.iconst 2, 1) := by decide +kernel
theorem d_Law_law_123 : decode (mB m_Law_law) 123 = .ok (.iadd, 1) := by decide +kernel
theorem d_Law_law_124 : decode (mB m_Law_law) 124 = .ok (.iaload, 1) := by decide +kernel
theorem d_Law_law_125 : decode (mB m_Law_law) 125 = .ok (.aload_n 0, 1) := by decide +kernel
theorem d_Law_law_126 : decode (mB m_Law_law) 126 = .ok (.iload 4, 2) := by decide +kernel
theorem d_Law_law_128 : decode (mB m_Law_law) 128 = .ok (.iconst 3, 1) := by decide +kernel
theorem d_Law_law_129 : decode (mB m_Law_law) 129 = .ok (.iadd, 1) := by decide +kernel
theorem d_Law_law_130 : decode (mB m_Law_law) 130 = .ok (.iaload, 1) := by decide +kernel
theorem d_Law_law_131 : decode (mB m_Law_law) 131 = .ok (.invokestatic 68, 3) := by decide +kernel
theorem d_Law_law_134 : decode (mB m_Law_law) 134 = .ok (.istore 5, 2) := by decide +kernel
theorem d_Law_law_136 : decode (mB m_Law_law) 136 = .ok (.aload_n 2, 1) := by decide +kernel
theorem d_Law_law_137 : decode (mB m_Law_law) 137 = .ok (.aload_n 0, 1) := by decide +kernel
theorem d_Law_law_138 : decode (mB m_Law_law) 138 = .ok (.iload 4, 2) := by decide +kernel
theorem d_Law_law_140 : decode (mB m_Law_law) 140 = .ok (.iconst 1, 1) := by decide +kernel
theorem d_Law_law_141 : decode (mB m_Law_law) 141 = .ok (.iadd, 1) := by decide +kernel
theorem d_Law_law_142 : decode (mB m_Law_law) 142 = .ok (.iaload, 1) := by decide +kernel
theorem d_Law_law_143 : decode (mB m_Law_law) 143 = .ok (.aload_n 0, 1) := by decide +kernel
theorem d_Law_law_144 : decode (mB m_Law_law) 144 = .ok (.iload 4, 2) := by decide +kernel
theorem d_Law_law_146 : decode (mB m_Law_law) 146 = .ok (.iconst 2, 1) := by decide +kernel
theorem d_Law_law_147 : decode (mB m_Law_law) 147 = .ok (.iadd, 1) := by decide +kernel
theorem d_Law_law_148 : decode (mB m_Law_law) 148 = .ok (.iaload, 1) := by decide +kernel
theorem d_Law_law_149 : decode (mB m_Law_law) 149 = .ok (.aload_n 0, 1) := by decide +kernel
theorem d_Law_law_150 : decode (mB m_Law_law) 150 = .ok (.iload 4, 2) := by decide +kernel
theorem d_Law_law_152 : decode (mB m_Law_law) 152 = .ok (.iconst 3, 1) := by decide +kernel
theorem d_Law_law_153 : decode (mB m_Law_law) 153 = .ok (.iadd, 1) := by decide +kernel
theorem d_Law_law_154 : decode (mB m_Law_law) 154 = .ok (.iaload, 1) := by decide +kernel
theorem d_Law_law_155 : decode (mB m_Law_law) 155 = .ok (.invokevirtual 73, 3) := by decide +kernel
theorem d_Law_law_158 : decode (mB m_Law_law) 158 = .ok (.aload_n 2, 1) := by decide +kernel
theorem d_Law_law_159 : decode (mB m_Law_law) 159 = .ok (.invokevirtual 74, 3) := by decide +kernel
theorem d_Law_law_162 : decode (mB m_Law_law) 162 = .ok (.iload 5, 2) := by decide +kernel
theorem d_Law_law_164 : decode (mB m_Law_law) 164 = .ok (.if_icmp .eq 5, 3) := by decide +kernel
theorem d_Law_law_167 : decode (mB m_Law_law) 167 = .ok (.iconst 0, 1) := by decide +kernel
theorem d_Law_law_168 : decode (mB m_Law_law) 168 = .ok (.ireturn, 1) := by decide +kernel
theorem d_Law_law_169 : decode (mB m_Law_law) 169 = .ok (.goto 946, 3) := by decide +kernel
theorem d_Law_law_172 : decode (mB m_Law_law) 172 = .ok (.aload_n 1, 1) := by decide +kernel
theorem d_Law_law_173 : decode (mB m_Law_law) 173 = .ok (.aload_n 0, 1) := by decide +kernel
theorem d_Law_law_174 : decode (mB m_Law_law) 174 = .ok (.iload 4, 2) := by decide +kernel
theorem d_Law_law_176 : decode (mB m_Law_law) 176 = .ok (.iconst 1, 1) := by decide +kernel
theorem d_Law_law_177 : decode (mB m_Law_law) 177 = .ok (.iadd, 1) := by decide +kernel
theorem d_Law_law_178 : decode (mB m_Law_law) 178 = .ok (.iaload, 1) := by decide +kernel
theorem d_Law_law_179 : decode (mB m_Law_law) 179 = .ok (.aload_n 0, 1) := by decide +kernel
theorem d_Law_law_180 : decode (mB m_Law_law) 180 = .ok (.iload 4, 2) := by decide +kernel
theorem d_Law_law_182 : decode (mB m_Law_law) 182 = .ok (.iconst 2, 1) := by decide +kernel
theorem d_Law_law_183 : decode (mB m_Law_law) 183 = .ok (.iadd, 1) := by decide +kernel
theorem d_Law_law_184 : decode (mB m_Law_law) 184 = .ok (.iaload, 1) := by decide +kernel
theorem d_Law_law_185 : decode (mB m_Law_law) 185 = .ok (.aload_n 0, 1) := by decide +kernel
theorem d_Law_law_186 : decode (mB m_Law_law) 186 = .ok (.iload 4, 2) := by decide +kernel
theorem d_Law_law_188 : decode (mB m_Law_law) 188 = .ok (.iconst 3, 1) := by decide +kernel
theorem d_Law_law_189 : decode (mB m_Law_law) 189 = .ok (.iadd, 1) := by decide +kernel
theorem d_Law_law_190 : decode (mB m_Law_law) 190 = .ok (.iaload, 1) := by decide +kernel
theorem d_Law_law_191 : decode (mB m_Law_law) 191 = .ok (.aload_n 0, 1) := by decide +kernel
theorem d_Law_law_192 : decode (mB m_Law_law) 192 = .ok (.iload 4, 2) := by decide +kernel
theorem d_Law_law_194 : decode (mB m_Law_law) 194 = .ok (.iconst 4, 1) := by decide +kernel
theorem d_Law_law_195 : decode (mB m_Law_law) 195 = .ok (.iadd, 1) := by decide +kernel
theorem d_Law_law_196 : decode (mB m_Law_law) 196 = .ok (.iaload, 1) := by decide +kernel
theorem d_Law_law_197 : decode (mB m_Law_law) 197 = .ok (.aload_n 0, 1) := by decide +kernel
theorem d_Law_law_198 : decode (mB m_Law_law) 198 = .ok (.iload 4, 2) := by decide +kernel
theorem d_Law_law_200 : decode (mB m_Law_law) 200 = .ok (.iconst 5, 1) := by decide +kernel
theorem d_Law_law_201 : decode (mB m_Law_law) 201 = .ok (.iadd, 1) := by decide +kernel
theorem d_Law_law_202 : decode (mB m_Law_law) 202 = .ok (.iaload, 1) := by decide +kernel
theorem d_Law_law_203 : decode (mB m_Law_law) 203 = .ok (.aload_n 0, 1) := by decide +kernel
theorem d_Law_law_204 : decode (mB m_Law_law) 204 = .ok (.iload 4, 2) := by decide +kernel
theorem d_Law_law_206 : decode (mB m_Law_law) 206 = .ok (.bipush 6, 2) := by decide +kernel
theorem d_Law_law_208 : decode (mB m_Law_law) 208 = .ok (.iadd, 1) := by decide +kernel
theorem d_Law_law_209 : decode (mB m_Law_law) 209 = .ok (.iaload, 1) := by decide +kernel
theorem d_Law_law_210 : decode (mB m_Law_law) 210 = .ok (.invokestatic 78, 3) := by decide +kernel
theorem d_Law_law_213 : decode (mB m_Law_law) 213 = .ok (.istore 5, 2) := by decide +kernel
theorem d_Law_law_215 : decode (mB m_Law_law) 215 = .ok (.aload_n 2, 1) := by decide +kernel
theorem d_Law_law_216 : decode (mB m_Law_law) 216 = .ok (.aload_n 0, 1) := by decide +kernel
theorem d_Law_law_217 : decode (mB m_Law_law) 217 = .ok (.iload 4, 2) := by decide +kernel
theorem d_Law_law_219 : decode (mB m_Law_law) 219 = .ok (.iconst 1, 1) := by decide +kernel
theorem d_Law_law_220 : decode (mB m_Law_law) 220 = .ok (.iadd, 1) := by decide +kernel
theorem d_Law_law_221 : decode (mB m_Law_law) 221 = .ok (.iaload, 1) := by decide +kernel
theorem d_Law_law_222 : decode (mB m_Law_law) 222 = .ok (.aload_n 0, 1) := by decide +kernel
theorem d_Law_law_223 : decode (mB m_Law_law) 223 = .ok (.iload 4, 2) := by decide +kernel
theorem d_Law_law_225 : decode (mB m_Law_law) 225 = .ok (.iconst 2, 1) := by decide +kernel
theorem d_Law_law_226 : decode (mB m_Law_law) 226 = .ok (.iadd, 1) := by decide +kernel
theorem d_Law_law_227 : decode (mB m_Law_law) 227 = .ok (.iaload, 1) := by decide +kernel
theorem d_Law_law_228 : decode (mB m_Law_law) 228 = .ok (.aload_n 0, 1) := by decide +kernel
theorem d_Law_law_229 : decode (mB m_Law_law) 229 = .ok (.iload 4, 2) := by decide +kernel
theorem d_Law_law_231 : decode (mB m_Law_law) 231 = .ok (.iconst 3, 1) := by decide +kernel
theorem d_Law_law_232 : decode (mB m_Law_law) 232 = .ok (.iadd, 1) := by decide +kernel
theorem d_Law_law_233 : decode (mB m_Law_law) 233 = .ok (.iaload, 1) := by decide +kernel
theorem d_Law_law_234 : decode (mB m_Law_law) 234 = .ok (.aload_n 0, 1) := by decide +kernel
theorem d_Law_law_235 : decode (mB m_Law_law) 235 = .ok (.iload 4, 2) := by decide +kernel
theorem d_Law_law_237 : decode (mB m_Law_law) 237 = .ok (.iconst 4, 1) := by decide +kernel
theorem d_Law_law_238 : decode (mB m_Law_law) 238 = .ok (.iadd, 1) := by decide +kernel
theorem d_Law_law_239 : decode (mB m_Law_law) 239 = .ok (.iaload, 1) := by decide +kernel
theorem d_Law_law_240 : decode (mB m_Law_law) 240 = .ok (.aload_n 0, 1) := by decide +kernel
theorem d_Law_law_241 : decode (mB m_Law_law) 241 = .ok (.iload 4, 2) := by decide +kernel
theorem d_Law_law_243 : decode (mB m_Law_law) 243 = .ok (.iconst 5, 1) := by decide +kernel
theorem d_Law_law_244 : decode (mB m_Law_law) 244 = .ok (.iadd, 1) := by decide +kernel
theorem d_Law_law_245 : decode (mB m_Law_law) 245 = .ok (.iaload, 1) := by decide +kernel
theorem d_Law_law_246 : decode (mB m_Law_law) 246 = .ok (.aload_n 0, 1) := by decide +kernel
theorem d_Law_law_247 : decode (mB m_Law_law) 247 = .ok (.iload 4, 2) := by decide +kernel
theorem d_Law_law_249 : decode (mB m_Law_law) 249 = .ok (.bipush 6, 2) := by decide +kernel
theorem d_Law_law_251 : decode (mB m_Law_law) 251 = .ok (.iadd, 1) := by decide +kernel
theorem d_Law_law_252 : decode (mB m_Law_law) 252 = .ok (.iaload, 1) := by decide +kernel
theorem d_Law_law_253 : decode (mB m_Law_law) 253 = .ok (.invokevirtual 81, 3) := by decide +kernel
theorem d_Law_law_256 : decode (mB m_Law_law) 256 = .ok (.aload_n 2, 1) := by decide +kernel
theorem d_Law_law_257 : decode (mB m_Law_law) 257 = .ok (.invokevirtual 74, 3) := by decide +kernel
theorem d_Law_law_260 : decode (mB m_Law_law) 260 = .ok (.iload 5, 2) := by decide +kernel
theorem d_Law_law_262 : decode (mB m_Law_law) 262 = .ok (.if_icmp .eq 5, 3) := by decide +kernel
theorem d_Law_law_265 : decode (mB m_Law_law) 265 = .ok (.iconst 0, 1) := by decide +kernel
theorem d_Law_law_266 : decode (mB m_Law_law) 266 = .ok (.ireturn, 1) := by decide +kernel
theorem d_Law_law_267 : decode (mB m_Law_law) 267 = .ok (.goto 848, 3) := by decide +kernel
theorem d_Law_law_270 : decode (mB m_Law_law) 270 = .ok (.aload_n 1, 1) := by decide +kernel
theorem d_Law_law_271 : decode (mB m_Law_law) 271 = .ok (.aload_n 0, 1) := by decide +kernel
theorem d_Law_law_272 : decode (mB m_Law_law) 272 = .ok (.iload 4, 2) := by decide +kernel
theorem d_Law_law_274 : decode (mB m_Law_law) 274 = .ok (.iconst 1, 1) := by decide +kernel
theorem d_Law_law_275 : decode (mB m_Law_law) 275 = .ok (.iadd, 1) := by decide +kernel
theorem d_Law_law_276 : decode (mB m_Law_law) 276 = .ok (.iaload, 1) := by decide +kernel
theorem d_Law_law_277 : decode (mB m_Law_law) 277 = .ok (.aload_n 0, 1) := by decide +kernel
theorem d_Law_law_278 : decode (mB m_Law_law) 278 = .ok (.iload 4, 2) := by decide +kernel
theorem d_Law_law_280 : decode (mB m_Law_law) 280 = .ok (.iconst 2, 1) := by decide +kernel
theorem d_Law_law_281 : decode (mB m_Law_law) 281 = .ok (.iadd, 1) := by decide +kernel
theorem d_Law_law_282 : decode (mB m_Law_law) 282 = .ok (.iaload, 1) := by decide +kernel
theorem d_Law_law_283 : decode (mB m_Law_law) 283 = .ok (.invokestatic 82, 3) := by decide +kernel
theorem d_Law_law_286 : decode (mB m_Law_law) 286 = .ok (.istore 5, 2) := by decide +kernel
theorem d_Law_law_288 : decode (mB m_Law_law) 288 = .ok (.aload_n 2, 1) := by decide +kernel
theorem d_Law_law_289 : decode (mB m_Law_law) 289 = .ok (.aload_n 0, 1) := by decide +kernel
theorem d_Law_law_290 : decode (mB m_Law_law) 290 = .ok (.iload 4, 2) := by decide +kernel
theorem d_Law_law_292 : decode (mB m_Law_law) 292 = .ok (.iconst 1, 1) := by decide +kernel
theorem d_Law_law_293 : decode (mB m_Law_law) 293 = .ok (.iadd, 1) := by decide +kernel
theorem d_Law_law_294 : decode (mB m_Law_law) 294 = .ok (.iaload, 1) := by decide +kernel
theorem d_Law_law_295 : decode (mB m_Law_law) 295 = .ok (.aload_n 0, 1) := by decide +kernel
theorem d_Law_law_296 : decode (mB m_Law_law) 296 = .ok (.iload 4, 2) := by decide +kernel
theorem d_Law_law_298 : decode (mB m_Law_law) 298 = .ok (.iconst 2, 1) := by decide +kernel
theorem d_Law_law_299 : decode (mB m_Law_law) 299 = .ok (.iadd, 1) := by decide +kernel
theorem d_Law_law_300 : decode (mB m_Law_law) 300 = .ok (.iaload, 1) := by decide +kernel
theorem d_Law_law_301 : decode (mB m_Law_law) 301 = .ok (.invokevirtual 85, 3) := by decide +kernel
theorem d_Law_law_304 : decode (mB m_Law_law) 304 = .ok (.aload_n 2, 1) := by decide +kernel
theorem d_Law_law_305 : decode (mB m_Law_law) 305 = .ok (.invokevirtual 74, 3) := by decide +kernel
theorem d_Law_law_308 : decode (mB m_Law_law) 308 = .ok (.iload 5, 2) := by decide +kernel
theorem d_Law_law_310 : decode (mB m_Law_law) 310 = .ok (.if_icmp .eq 5, 3) := by decide +kernel
theorem d_Law_law_313 : decode (mB m_Law_law) 313 = .ok (.iconst 0, 1) := by decide +kernel
theorem d_Law_law_314 : decode (mB m_Law_law) 314 = .ok (.ireturn, 1) := by decide +kernel
theorem d_Law_law_315 : decode (mB m_Law_law) 315 = .ok (.goto 800, 3) := by decide +kernel
theorem d_Law_law_318 : decode (mB m_Law_law) 318 = .ok (.aload_n 1, 1) := by decide +kernel
theorem d_Law_law_319 : decode (mB m_Law_law) 319 = .ok (.aload_n 0, 1) := by decide +kernel
theorem d_Law_law_320 : decode (mB m_Law_law) 320 = .ok (.iload 4, 2) := by decide +kernel
theorem d_Law_law_322 : decode (mB m_Law_law) 322 = .ok (.iconst 1, 1) := by decide +kernel
theorem d_Law_law_323 : decode (mB m_Law_law) 323 = .ok (.iadd, 1) := by decide +kernel
theorem d_Law_law_324 : decode (mB m_Law_law) 324 = .ok (.iaload, 1) := by decide +kernel
theorem d_Law_law_325 : decode (mB m_Law_law) 325 = .ok (.aload_n 0, 1) := by decide +kernel
theorem d_Law_law_326 : decode (mB m_Law_law) 326 = .ok (.iload 4, 2) := by decide +kernel
theorem d_Law_law_328 : decode (mB m_Law_law) 328 = .ok (.iconst 2, 1) := by decide +kernel
theorem d_Law_law_329 : decode (mB m_Law_law) 329 = .ok (.iadd, 1) := by decide +kernel
theorem d_Law_law_330 : decode (mB m_Law_law) 330 = .ok (.iaload, 1) := by decide +kernel
theorem d_Law_law_331 : decode (mB m_Law_law) 331 = .ok (.aload_n 3, 1) := by decide +kernel
theorem d_Law_law_332 : decode (mB m_Law_law) 332 = .ok (.invokestatic 86, 3) := by decide +kernel
theorem d_Law_law_335 : decode (mB m_Law_law) 335 = .ok (.istore 5, 2) := by decide +kernel
theorem d_Law_law_337 : decode (mB m_Law_law) 337 = .ok (.aload_n 2, 1) := by decide +kernel
theorem d_Law_law_338 : decode (mB m_Law_law) 338 = .ok (.aload_n 0, 1) := by decide +kernel
theorem d_Law_law_339 : decode (mB m_Law_law) 339 = .ok (.iload 4, 2) := by decide +kernel
theorem d_Law_law_341 : decode (mB m_Law_law) 341 = .ok (.iconst 1, 1) := by decide +kernel
theorem d_Law_law_342 : decode (mB m_Law_law) 342 = .ok (.iadd, 1) := by decide +kernel
theorem d_Law_law_343 : decode (mB m_Law_law) 343 = .ok (.iaload, 1) := by decide +kernel
theorem d_Law_law_344 : decode (mB m_Law_law) 344 = .ok (.aload_n 0, 1) := by decide +kernel
theorem d_Law_law_345 : decode (mB m_Law_law) 345 = .ok (.iload 4, 2) := by decide +kernel
theorem d_Law_law_347 : decode (mB m_Law_law) 347 = .ok (.iconst 2, 1) := by decide +kernel
theorem d_Law_law_348 : decode (mB m_Law_law) 348 = .ok (.iadd, 1) := by decide +kernel
theorem d_Law_law_349 : decode (mB m_Law_law) 349 = .ok (.iaload, 1) := by decide +kernel
theorem d_Law_law_350 : decode (mB m_Law_law) 350 = .ok (.invokevirtual 89, 3) := by decide +kernel
theorem d_Law_law_353 : decode (mB m_Law_law) 353 = .ok (.istore 6, 2) := by decide +kernel
theorem d_Law_law_355 : decode (mB m_Law_law) 355 = .ok (.aload_n 2, 1) := by decide +kernel
theorem d_Law_law_356 : decode (mB m_Law_law) 356 = .ok (.invokevirtual 74, 3) := by decide +kernel
theorem d_Law_law_359 : decode (mB m_Law_law) 359 = .ok (.iload 5, 2) := by decide +kernel
theorem d_Law_law_361 : decode (mB m_Law_law) 361 = .ok (.if_icmp .eq 5, 3) := by decide +kernel
theorem d_Law_law_364 : decode (mB m_Law_law) 364 = .ok (.iconst 0, 1) := by decide +kernel
theorem d_Law_law_365 : decode (mB m_Law_law) 365 = .ok (.ireturn, 1) := by decide +kernel
theorem d_Law_law_366 : decode (mB m_Law_law) 366 = .ok (.iload 5, 2) := by decide +kernel
theorem d_Law_law_368 : decode (mB m_Law_law) 368 = .ok (.ifCond .ne 15, 3) := by decide +kernel
theorem d_Law_law_371 : decode (mB m_Law_law) 371 = .ok (.aload_n 3, 1) := by decide +kernel
theorem d_Law_law_372 : decode (mB m_Law_law) 372 = .ok (.iconst 0, 1) := by decide +kernel
theorem d_Law_law_373 : decode (mB m_Law_law) 373 = .ok (.laload, 1) := by decide +kernel
theorem d_Law_law_374 : decode (mB m_Law_law) 374 = .ok (.iload 6, 2) := by decide +kernel
theorem d_Law_law_376 : decode (mB m_Law_law) 376 = .ok (.i2l, 1) := by decide +kernel
theorem d_Law_law_377 : decode (mB m_Law_law) 377 = .ok (.lcmp, 1) := by decide +kernel
theorem d_Law_law_378 : decode (mB m_Law_law) 378 = .ok (.ifCond .eq 5, 3) := by decide +kernel
theorem d_Law_law_381 : decode (mB m_Law_law) 381 = .ok (.iconst 0, 1) := by decide +kernel
theorem d_Law_law_382 : decode (mB m_Law_law) 382 = .ok (.ireturn, 1) := by decide +kernel
theorem d_Law_law_383 : decode (mB m_Law_law) 383 = .ok (.goto 732, 3) := by decide +kernel
theorem d_Law_law_386 : decode (mB m_Law_law) 386 = .ok (.aload_n 1, 1) := by decide +kernel
theorem d_Law_law_387 : decode (mB m_Law_law) 387 = .ok (.aload_n 0, 1) := by decide +kernel
theorem d_Law_law_388 : decode (mB m_Law_law) 388 = .ok (.iload 4, 2) := by decide +kernel
theorem d_Law_law_390 : decode (mB m_Law_law) 390 = .ok (.iconst 1, 1) := by decide +kernel
theorem d_Law_law_391 : decode (mB m_Law_law) 391 = .ok (.iadd, 1) := by decide +kernel
theorem d_Law_law_392 : decode (mB m_Law_law) 392 = .ok (.iaload, 1) := by decide +kernel
theorem d_Law_law_393 : decode (mB m_Law_law) 393 = .ok (.aload_n 0, 1) := by decide +kernel
theorem d_Law_law_394 : decode (mB m_Law_law) 394 = .ok (.iload 4, 2) := by decide +kernel
theorem d_Law_law_396 : decode (mB m_Law_law) 396 = .ok (.iconst 2, 1) := by decide +kernel
theorem d_Law_law_397 : decode (mB m_Law_law) 397 = .ok (.iadd, 1) := by decide +kernel
theorem d_Law_law_398 : decode (mB m_Law_law) 398 = .ok (.iaload, 1) := by decide +kernel
theorem d_Law_law_399 : decode (mB m_Law_law) 399 = .ok (.aload_n 3, 1) := by decide +kernel
theorem d_Law_law_400 : decode (mB m_Law_law) 400 = .ok (.invokestatic 90, 3) := by decide +kernel
theorem d_Law_law_403 : decode (mB m_Law_law) 403 = .ok (.istore 5, 2) := by decide +kernel
theorem d_Law_law_405 : decode (mB m_Law_law) 405 = .ok (.aload_n 2, 1) := by decide +kernel
theorem d_Law_law_406 : decode (mB m_Law_law) 406 = .ok (.aload_n 0, 1) := by decide +kernel
theorem d_Law_law_407 : decode (mB m_Law_law) 407 = .ok (.iload 4, 2) := by decide +kernel
theorem d_Law_law_409 : decode (mB m_Law_law) 409 = .ok (.iconst 1, 1) := by decide +kernel
theorem d_Law_law_410 : decode (mB m_Law_law) 410 = .ok (.iadd, 1) := by decide +kernel
theorem d_Law_law_411 : decode (mB m_Law_law) 411 = .ok (.iaload, 1) := by decide +kernel
theorem d_Law_law_412 : decode (mB m_Law_law) 412 = .ok (.aload_n 0, 1) := by decide +kernel
theorem d_Law_law_413 : decode (mB m_Law_law) 413 = .ok (.iload 4, 2) := by decide +kernel
theorem d_Law_law_415 : decode (mB m_Law_law) 415 = .ok (.iconst 2, 1) := by decide +kernel
theorem d_Law_law_416 : decode (mB m_Law_law) 416 = .ok (.iadd, 1) := by decide +kernel
theorem d_Law_law_417 : decode (mB m_Law_law) 417 = .ok (.iaload, 1) := by decide +kernel
theorem d_Law_law_418 : decode (mB m_Law_law) 418 = .ok (.invokevirtual 92, 3) := by decide +kernel
theorem d_Law_law_421 : decode (mB m_Law_law) 421 = .ok (.istore 6, 2) := by decide +kernel
theorem d_Law_law_423 : decode (mB m_Law_law) 423 = .ok (.aload_n 2, 1) := by decide +kernel
theorem d_Law_law_424 : decode (mB m_Law_law) 424 = .ok (.invokevirtual 74, 3) := by decide +kernel
theorem d_Law_law_427 : decode (mB m_Law_law) 427 = .ok (.iload 5, 2) := by decide +kernel
theorem d_Law_law_429 : decode (mB m_Law_law) 429 = .ok (.if_icmp .eq 5, 3) := by decide +kernel
theorem d_Law_law_432 : decode (mB m_Law_law) 432 = .ok (.iconst 0, 1) := by decide +kernel
theorem d_Law_law_433 : decode (mB m_Law_law) 433 = .ok (.ireturn, 1) := by decide +kernel
theorem d_Law_law_434 : decode (mB m_Law_law) 434 = .ok (.iload 5, 2) := by decide +kernel
theorem d_Law_law_436 : decode (mB m_Law_law) 436 = .ok (.ifCond .ne 15, 3) := by decide +kernel
theorem d_Law_law_439 : decode (mB m_Law_law) 439 = .ok (.aload_n 3, 1) := by decide +kernel
theorem d_Law_law_440 : decode (mB m_Law_law) 440 = .ok (.iconst 0, 1) := by decide +kernel
theorem d_Law_law_441 : decode (mB m_Law_law) 441 = .ok (.laload, 1) := by decide +kernel
theorem d_Law_law_442 : decode (mB m_Law_law) 442 = .ok (.iload 6, 2) := by decide +kernel
theorem d_Law_law_444 : decode (mB m_Law_law) 444 = .ok (.i2l, 1) := by decide +kernel
theorem d_Law_law_445 : decode (mB m_Law_law) 445 = .ok (.lcmp, 1) := by decide +kernel
theorem d_Law_law_446 : decode (mB m_Law_law) 446 = .ok (.ifCond .eq 5, 3) := by decide +kernel
theorem d_Law_law_449 : decode (mB m_Law_law) 449 = .ok (.iconst 0, 1) := by decide +kernel
theorem d_Law_law_450 : decode (mB m_Law_law) 450 = .ok (.ireturn, 1) := by decide +kernel
theorem d_Law_law_451 : decode (mB m_Law_law) 451 = .ok (.goto 664, 3) := by decide +kernel
theorem d_Law_law_454 : decode (mB m_Law_law) 454 = .ok (.aload_n 1, 1) := by decide +kernel
theorem d_Law_law_455 : decode (mB m_Law_law) 455 = .ok (.aload_n 0, 1) := by decide +kernel
theorem d_Law_law_456 : decode (mB m_Law_law) 456 = .ok (.iload 4, 2) := by decide +kernel
theorem d_Law_law_458 : decode (mB m_Law_law) 458 = .ok (.iconst 1, 1) := by decide +kernel
theorem d_Law_law_459 : decode (mB m_Law_law) 459 = .ok (.iadd, 1) := by decide +kernel
theorem d_Law_law_460 : decode (mB m_Law_law) 460 = .ok (.iaload, 1) := by decide +kernel
theorem d_Law_law_461 : decode (mB m_Law_law) 461 = .ok (.aload_n 0, 1) := by decide +kernel
theorem d_Law_law_462 : decode (mB m_Law_law) 462 = .ok (.iload 4, 2) := by decide +kernel
theorem d_Law_law_464 : decode (mB m_Law_law) 464 = .ok (.iconst 2, 1) := by decide +kernel
theorem d_Law_law_465 : decode (mB m_Law_law) 465 = .ok (.iadd, 1) := by decide +kernel
theorem d_Law_law_466 : decode (mB m_Law_law) 466 = .ok (.iaload, 1) := by decide +kernel
theorem d_Law_law_467 : decode (mB m_Law_law) 467 = .ok (.aload_n 3, 1) := by decide +kernel
theorem d_Law_law_468 : decode (mB m_Law_law) 468 = .ok (.invokestatic 93, 3) := by decide +kernel
theorem d_Law_law_471 : decode (mB m_Law_law) 471 = .ok (.istore 5, 2) := by decide +kernel
theorem d_Law_law_473 : decode (mB m_Law_law) 473 = .ok (.aload_n 2, 1) := by decide +kernel
theorem d_Law_law_474 : decode (mB m_Law_law) 474 = .ok (.aload_n 0, 1) := by decide +kernel
theorem d_Law_law_475 : decode (mB m_Law_law) 475 = .ok (.iload 4, 2) := by decide +kernel
theorem d_Law_law_477 : decode (mB m_Law_law) 477 = .ok (.iconst 1, 1) := by decide +kernel
theorem d_Law_law_478 : decode (mB m_Law_law) 478 = .ok (.iadd, 1) := by decide +kernel
theorem d_Law_law_479 : decode (mB m_Law_law) 479 = .ok (.iaload, 1) := by decide +kernel
theorem d_Law_law_480 : decode (mB m_Law_law) 480 = .ok (.aload_n 0, 1) := by decide +kernel
theorem d_Law_law_481 : decode (mB m_Law_law) 481 = .ok (.iload 4, 2) := by decide +kernel
theorem d_Law_law_483 : decode (mB m_Law_law) 483 = .ok (.iconst 2, 1) := by decide +kernel
theorem d_Law_law_484 : decode (mB m_Law_law) 484 = .ok (.iadd, 1) := by decide +kernel
theorem d_Law_law_485 : decode (mB m_Law_law) 485 = .ok (.iaload, 1) := by decide +kernel
theorem d_Law_law_486 : decode (mB m_Law_law) 486 = .ok (.invokevirtual 95, 3) := by decide +kernel
theorem d_Law_law_489 : decode (mB m_Law_law) 489 = .ok (.istore 6, 2) := by decide +kernel
theorem d_Law_law_491 : decode (mB m_Law_law) 491 = .ok (.aload_n 2, 1) := by decide +kernel
theorem d_Law_law_492 : decode (mB m_Law_law) 492 = .ok (.invokevirtual 74, 3) := by decide +kernel
theorem d_Law_law_495 : decode (mB m_Law_law) 495 = .ok (.iload 5, 2) := by decide +kernel
theorem d_Law_law_497 : decode (mB m_Law_law) 497 = .ok (.if_icmp .eq 5, 3) := by decide +kernel
theorem d_Law_law_500 : decode (mB m_Law_law) 500 = .ok (.iconst 0, 1) := by decide +kernel
theorem d_Law_law_501 : decode (mB m_Law_law) 501 = .ok (.ireturn, 1) := by decide +kernel
theorem d_Law_law_502 : decode (mB m_Law_law) 502 = .ok (.iload 5, 2) := by decide +kernel
theorem d_Law_law_504 : decode (mB m_Law_law) 504 = .ok (.ifCond .ne 15, 3) := by decide +kernel
theorem d_Law_law_507 : decode (mB m_Law_law) 507 = .ok (.aload_n 3, 1) := by decide +kernel
theorem d_Law_law_508 : decode (mB m_Law_law) 508 = .ok (.iconst 0, 1) := by decide +kernel
theorem d_Law_law_509 : decode (mB m_Law_law) 509 = .ok (.laload, 1) := by decide +kernel
theorem d_Law_law_510 : decode (mB m_Law_law) 510 = .ok (.iload 6, 2) := by decide +kernel
theorem d_Law_law_512 : decode (mB m_Law_law) 512 = .ok (.i2l, 1) := by decide +kernel
theorem d_Law_law_513 : decode (mB m_Law_law) 513 = .ok (.lcmp, 1) := by decide +kernel
theorem d_Law_law_514 : decode (mB m_Law_law) 514 = .ok (.ifCond .eq 5, 3) := by decide +kernel
theorem d_Law_law_517 : decode (mB m_Law_law) 517 = .ok (.iconst 0, 1) := by decide +kernel
theorem d_Law_law_518 : decode (mB m_Law_law) 518 = .ok (.ireturn, 1) := by decide +kernel
theorem d_Law_law_519 : decode (mB m_Law_law) 519 = .ok (.goto 596, 3) := by decide +kernel
theorem d_Law_law_522 : decode (mB m_Law_law) 522 = .ok (.aload_n 1, 1) := by decide +kernel
theorem d_Law_law_523 : decode (mB m_Law_law) 523 = .ok (.aload_n 0, 1) := by decide +kernel
theorem d_Law_law_524 : decode (mB m_Law_law) 524 = .ok (.iload 4, 2) := by decide +kernel
theorem d_Law_law_526 : decode (mB m_Law_law) 526 = .ok (.iconst 1, 1) := by decide +kernel
theorem d_Law_law_527 : decode (mB m_Law_law) 527 = .ok (.iadd, 1) := by decide +kernel
theorem d_Law_law_528 : decode (mB m_Law_law) 528 = .ok (.iaload, 1) := by decide +kernel
theorem d_Law_law_529 : decode (mB m_Law_law) 529 = .ok (.aload_n 0, 1) := by decide +kernel
theorem d_Law_law_530 : decode (mB m_Law_law) 530 = .ok (.iload 4, 2) := by decide +kernel
theorem d_Law_law_532 : decode (mB m_Law_law) 532 = .ok (.iconst 2, 1) := by decide +kernel
theorem d_Law_law_533 : decode (mB m_Law_law) 533 = .ok (.iadd, 1) := by decide +kernel
theorem d_Law_law_534 : decode (mB m_Law_law) 534 = .ok (.iaload, 1) := by decide +kernel
theorem d_Law_law_535 : decode (mB m_Law_law) 535 = .ok (.aload_n 0, 1) := by decide +kernel
theorem d_Law_law_536 : decode (mB m_Law_law) 536 = .ok (.iload 4, 2) := by decide +kernel
theorem d_Law_law_538 : decode (mB m_Law_law) 538 = .ok (.iconst 3, 1) := by decide +kernel
theorem d_Law_law_539 : decode (mB m_Law_law) 539 = .ok (.iadd, 1) := by decide +kernel
theorem d_Law_law_540 : decode (mB m_Law_law) 540 = .ok (.iaload, 1) := by decide +kernel
theorem d_Law_law_541 : decode (mB m_Law_law) 541 = .ok (.aload_n 3, 1) := by decide +kernel
theorem d_Law_law_542 : decode (mB m_Law_law) 542 = .ok (.invokestatic 96, 3) := by decide +kernel
theorem d_Law_law_545 : decode (mB m_Law_law) 545 = .ok (.istore 5, 2) := by decide +kernel
theorem d_Law_law_547 : decode (mB m_Law_law) 547 = .ok (.aload_n 2, 1) := by decide +kernel
theorem d_Law_law_548 : decode (mB m_Law_law) 548 = .ok (.aload_n 0, 1) := by decide +kernel
theorem d_Law_law_549 : decode (mB m_Law_law) 549 = .ok (.iload 4, 2) := by decide +kernel
theorem d_Law_law_551 : decode (mB m_Law_law) 551 = .ok (.iconst 1, 1) := by decide +kernel
theorem d_Law_law_552 : decode (mB m_Law_law) 552 = .ok (.iadd, 1) := by decide +kernel
theorem d_Law_law_553 : decode (mB m_Law_law) 553 = .ok (.iaload, 1) := by decide +kernel
theorem d_Law_law_554 : decode (mB m_Law_law) 554 = .ok (.aload_n 0, 1) := by decide +kernel
theorem d_Law_law_555 : decode (mB m_Law_law) 555 = .ok (.iload 4, 2) := by decide +kernel
theorem d_Law_law_557 : decode (mB m_Law_law) 557 = .ok (.iconst 2, 1) := by decide +kernel
theorem d_Law_law_558 : decode (mB m_Law_law) 558 = .ok (.iadd, 1) := by decide +kernel
theorem d_Law_law_559 : decode (mB m_Law_law) 559 = .ok (.iaload, 1) := by decide +kernel
theorem d_Law_law_560 : decode (mB m_Law_law) 560 = .ok (.aload_n 0, 1) := by decide +kernel
theorem d_Law_law_561 : decode (mB m_Law_law) 561 = .ok (.iload 4, 2) := by decide +kernel
theorem d_Law_law_563 : decode (mB m_Law_law) 563 = .ok (.iconst 3, 1) := by decide +kernel
theorem d_Law_law_564 : decode (mB m_Law_law) 564 = .ok (.iadd, 1) := by decide +kernel
theorem d_Law_law_565 : decode (mB m_Law_law) 565 = .ok (.iaload, 1) := by decide +kernel
theorem d_Law_law_566 : decode (mB m_Law_law) 566 = .ok (.invokevirtual 99, 3) := by decide +kernel
theorem d_Law_law_569 : decode (mB m_Law_law) 569 = .ok (.istore 6, 2) := by decide +kernel
theorem d_Law_law_571 : decode (mB m_Law_law) 571 = .ok (.aload_n 2, 1) := by decide +kernel
theorem d_Law_law_572 : decode (mB m_Law_law) 572 = .ok (.invokevirtual 74, 3) := by decide +kernel
theorem d_Law_law_575 : decode (mB m_Law_law) 575 = .ok (.iload 5, 2) := by decide +kernel
theorem d_Law_law_577 : decode (mB m_Law_law) 577 = .ok (.if_icmp .eq 5, 3) := by decide +kernel
theorem d_Law_law_580 : decode (mB m_Law_law) 580 = .ok (.iconst 0, 1) := by decide +kernel
theorem d_Law_law_581 : decode (mB m_Law_law) 581 = .ok (.ireturn, 1) := by decide +kernel
theorem d_Law_law_582 : decode (mB m_Law_law) 582 = .ok (.iload 5, 2) := by decide +kernel
theorem d_Law_law_584 : decode (mB m_Law_law) 584 = .ok (.ifCond .ne 22, 3) := by decide +kernel
theorem d_Law_law_587 : decode (mB m_Law_law) 587 = .ok (.aload_n 3, 1) := by decide +kernel
theorem d_Law_law_588 : decode (mB m_Law_law) 588 = .ok (.iconst 0, 1) := by decide +kernel
theorem d_Law_law_589 : decode (mB m_Law_law) 589 = .ok (.laload, 1) := by decide +kernel
theorem d_Law_law_590 : decode (mB m_Law_law) 590 = .ok (.iload 6, 2) := by decide +kernel
theorem d_Law_law_592 : decode (mB m_Law_law) 592 = .ok (.ifCond .eq 7, 3) := by decide +kernel
theorem d_Law_law_595 : decode (mB m_Law_law) 595 = .ok (.lconst 1, 1) := by decide +kernel
theorem d_Law_law_596 : decode (mB m_Law_law) 596 = .ok (.goto 4, 3) := by decide +kernel
theorem d_Law_law_599 : decode (mB m_Law_law) 599 = .ok (.lconst 0, 1) := by decide +kernel
theorem d_Law_law_600 : decode (mB m_Law_law) 600 = .ok (.lcmp, 1) := by decide +kernel
theorem d_Law_law_601 : decode (mB m_Law_law) 601 = .ok (.ifCond .eq 5, 3) := by decide +kernel
theorem d_Law_law_604 : decode (mB m_Law_law) 604 = .ok (.iconst 0, 1) := by decide +kernel
theorem d_Law_law_605 : decode (mB m_Law_law) 605 = .ok (.ireturn, 1) := by decide +kernel
theorem d_Law_law_606 : decode (mB m_Law_law) 606 = .ok (.goto 509, 3) := by decide +kernel
theorem d_Law_law_609 : decode (mB m_Law_law) 609 = .ok (.aload_n 1, 1) := by decide +kernel
theorem d_Law_law_610 : decode (mB m_Law_law) 610 = .ok (.aload_n 0, 1) := by decide +kernel
theorem d_Law_law_611 : decode (mB m_Law_law) 611 = .ok (.iload 4, 2) := by decide +kernel
theorem d_Law_law_613 : decode (mB m_Law_law) 613 = .ok (.iconst 1, 1) := by decide +kernel
theorem d_Law_law_614 : decode (mB m_Law_law) 614 = .ok (.iadd, 1) := by decide +kernel
theorem d_Law_law_615 : decode (mB m_Law_law) 615 = .ok (.iaload, 1) := by decide +kernel
theorem d_Law_law_616 : decode (mB m_Law_law) 616 = .ok (.aload_n 0, 1) := by decide +kernel
theorem d_Law_law_617 : decode (mB m_Law_law) 617 = .ok (.iload 4, 2) := by decide +kernel
theorem d_Law_law_619 : decode (mB m_Law_law) 619 = .ok (.iconst 2, 1) := by decide +kernel
theorem d_Law_law_620 : decode (mB m_Law_law) 620 = .ok (.iadd, 1) := by decide +kernel
theorem d_Law_law_621 : decode (mB m_Law_law) 621 = .ok (.iaload, 1) := by decide +kernel
theorem d_Law_law_622 : decode (mB m_Law_law) 622 = .ok (.ifCond .eq 7, 3) := by decide +kernel
theorem d_Law_law_625 : decode (mB m_Law_law) 625 = .ok (.iconst 1, 1) := by decide +kernel
theorem d_Law_law_626 : decode (mB m_Law_law) 626 = .ok (.goto 4, 3) := by decide +kernel
theorem d_Law_law_629 : decode (mB m_Law_law) 629 = .ok (.iconst 0, 1) := by decide +kernel
theorem d_Law_law_630 : decode (mB m_Law_law) 630 = .ok (.aload_n 3, 1) := by decide +kernel
theorem d_Law_law_631 : decode (mB m_Law_law) 631 = .ok (.invokestatic 100, 3) := by decide +kernel
theorem d_Law_law_634 : decode (mB m_Law_law) 634 = .ok (.istore 5, 2) := by decide +kernel
theorem d_Law_law_636 : decode (mB m_Law_law) 636 = .ok (.aload_n 2, 1) := by decide +kernel
theorem d_Law_law_637 : decode (mB m_Law_law) 637 = .ok (.aload_n 0, 1) := by decide +kernel
theorem d_Law_law_638 : decode (mB m_Law_law) 638 = .ok (.iload 4, 2) := by decide +kernel
theorem d_Law_law_640 : decode (mB m_Law_law) 640 = .ok (.iconst 1, 1) := by decide +kernel
theorem d_Law_law_641 : decode (mB m_Law_law) 641 = .ok (.iadd, 1) := by decide +kernel
theorem d_Law_law_642 : decode (mB m_Law_law) 642 = .ok (.iaload, 1) := by decide +kernel
theorem d_Law_law_643 : decode (mB m_Law_law) 643 = .ok (.aload_n 0, 1) := by decide +kernel
theorem d_Law_law_644 : decode (mB m_Law_law) 644 = .ok (.iload 4, 2) := by decide +kernel
theorem d_Law_law_646 : decode (mB m_Law_law) 646 = .ok (.iconst 2, 1) := by decide +kernel
theorem d_Law_law_647 : decode (mB m_Law_law) 647 = .ok (.iadd, 1) := by decide +kernel
theorem d_Law_law_648 : decode (mB m_Law_law) 648 = .ok (.iaload, 1) := by decide +kernel
theorem d_Law_law_649 : decode (mB m_Law_law) 649 = .ok (.ifCond .eq 7, 3) := by decide +kernel
theorem d_Law_law_652 : decode (mB m_Law_law) 652 = .ok (.iconst 1, 1) := by decide +kernel
theorem d_Law_law_653 : decode (mB m_Law_law) 653 = .ok (.goto 4, 3) := by decide +kernel
theorem d_Law_law_656 : decode (mB m_Law_law) 656 = .ok (.iconst 0, 1) := by decide +kernel
theorem d_Law_law_657 : decode (mB m_Law_law) 657 = .ok (.invokevirtual 103, 3) := by decide +kernel
theorem d_Law_law_660 : decode (mB m_Law_law) 660 = .ok (.istore 6, 2) := by decide +kernel
theorem d_Law_law_662 : decode (mB m_Law_law) 662 = .ok (.aload_n 2, 1) := by decide +kernel
theorem d_Law_law_663 : decode (mB m_Law_law) 663 = .ok (.invokevirtual 74, 3) := by decide +kernel
theorem d_Law_law_666 : decode (mB m_Law_law) 666 = .ok (.iload 5, 2) := by decide +kernel
theorem d_Law_law_668 : decode (mB m_Law_law) 668 = .ok (.if_icmp .eq 5, 3) := by decide +kernel
theorem d_Law_law_671 : decode (mB m_Law_law) 671 = .ok (.iconst 0, 1) := by decide +kernel
theorem d_Law_law_672 : decode (mB m_Law_law) 672 = .ok (.ireturn, 1) := by decide +kernel
theorem d_Law_law_673 : decode (mB m_Law_law) 673 = .ok (.iload 5, 2) := by decide +kernel
theorem d_Law_law_675 : decode (mB m_Law_law) 675 = .ok (.ifCond .ne 22, 3) := by decide +kernel
theorem d_Law_law_678 : decode (mB m_Law_law) 678 = .ok (.aload_n 3, 1) := by decide +kernel
theorem d_Law_law_679 : decode (mB m_Law_law) 679 = .ok (.iconst 0, 1) := by decide +kernel
theorem d_Law_law_680 : decode (mB m_Law_law) 680 = .ok (.laload, 1) := by decide +kernel
theorem d_Law_law_681 : decode (mB m_Law_law) 681 = .ok (.iload 6, 2) := by decide +kernel
theorem d_Law_law_683 : decode (mB m_Law_law) 683 = .ok (.ifCond .eq 7, 3) := by decide +kernel
theorem d_Law_law_686 : decode (mB m_Law_law) 686 = .ok (.lconst 1, 1) := by decide +kernel
theorem d_Law_law_687 : decode (mB m_Law_law) 687 = .ok (.goto 4, 3) := by decide +kernel
theorem d_Law_law_690 : decode (mB m_Law_law) 690 = .ok (.lconst 0, 1) := by decide +kernel
theorem d_Law_law_691 : decode (mB m_Law_law) 691 = .ok (.lcmp, 1) := by decide +kernel
theorem d_Law_law_692 : decode (mB m_Law_law) 692 = .ok (.ifCond .eq 5, 3) := by decide +kernel
theorem d_Law_law_695 : decode (mB m_Law_law) 695 = .ok (.iconst 0, 1) := by decide +kernel
theorem d_Law_law_696 : decode (mB m_Law_law) 696 = .ok (.ireturn, 1) := by decide +kernel
theorem d_Law_law_697 : decode (mB m_Law_law) 697 = .ok (.goto 418, 3) := by decide +kernel
theorem d_Law_law_700 : decode (mB m_Law_law) 700 = .ok (.aload_n 1, 1) := by decide +kernel
theorem d_Law_law_701 : decode (mB m_Law_law) 701 = .ok (.aload_n 0, 1) := by decide +kernel
theorem d_Law_law_702 : decode (mB m_Law_law) 702 = .ok (.iload 4, 2) := by decide +kernel
theorem d_Law_law_704 : decode (mB m_Law_law) 704 = .ok (.iconst 1, 1) := by decide +kernel
theorem d_Law_law_705 : decode (mB m_Law_law) 705 = .ok (.iadd, 1) := by decide +kernel
theorem d_Law_law_706 : decode (mB m_Law_law) 706 = .ok (.iaload, 1) := by decide +kernel
theorem d_Law_law_707 : decode (mB m_Law_law) 707 = .ok (.aload_n 3, 1) := by decide +kernel
theorem d_Law_law_708 : decode (mB m_Law_law) 708 = .ok (.invokestatic 104, 3) := by decide +kernel
theorem d_Law_law_711 : decode (mB m_Law_law) 711 = .ok (.istore 5, 2) := by decide +kernel
theorem d_Law_law_713 : decode (mB m_Law_law) 713 = .ok (.aload_n 2, 1) := by decide +kernel
theorem d_Law_law_714 : decode (mB m_Law_law) 714 = .ok (.aload_n 0, 1) := by decide +kernel
theorem d_Law_law_715 : decode (mB m_Law_law) 715 = .ok (.iload 4, 2) := by decide +kernel
theorem d_Law_law_717 : decode (mB m_Law_law) 717 = .ok (.iconst 1, 1) := by decide +kernel
theorem d_Law_law_718 : decode (mB m_Law_law) 718 = .ok (.iadd, 1) := by decide +kernel
theorem d_Law_law_719 : decode (mB m_Law_law) 719 = .ok (.iaload, 1) := by decide +kernel
theorem d_Law_law_720 : decode (mB m_Law_law) 720 = .ok (.invokevirtual 107, 3) := by decide +kernel
theorem d_Law_law_723 : decode (mB m_Law_law) 723 = .ok (.istore 6, 2) := by decide +kernel
theorem d_Law_law_725 : decode (mB m_Law_law) 725 = .ok (.aload_n 2, 1) := by decide +kernel
theorem d_Law_law_726 : decode (mB m_Law_law) 726 = .ok (.invokevirtual 74, 3) := by decide +kernel
theorem d_Law_law_729 : decode (mB m_Law_law) 729 = .ok (.iload 5, 2) := by decide +kernel
theorem d_Law_law_731 : decode (mB m_Law_law) 731 = .ok (.if_icmp .eq 5, 3) := by decide +kernel
theorem d_Law_law_734 : decode (mB m_Law_law) 734 = .ok (.iconst 0, 1) := by decide +kernel
theorem d_Law_law_735 : decode (mB m_Law_law) 735 = .ok (.ireturn, 1) := by decide +kernel
theorem d_Law_law_736 : decode (mB m_Law_law) 736 = .ok (.iload 5, 2) := by decide +kernel
theorem d_Law_law_738 : decode (mB m_Law_law) 738 = .ok (.ifCond .ne 15, 3) := by decide +kernel
theorem d_Law_law_741 : decode (mB m_Law_law) 741 = .ok (.aload_n 3, 1) := by decide +kernel
theorem d_Law_law_742 : decode (mB m_Law_law) 742 = .ok (.iconst 0, 1) := by decide +kernel
theorem d_Law_law_743 : decode (mB m_Law_law) 743 = .ok (.laload, 1) := by decide +kernel
theorem d_Law_law_744 : decode (mB m_Law_law) 744 = .ok (.iload 6, 2) := by decide +kernel
theorem d_Law_law_746 : decode (mB m_Law_law) 746 = .ok (.i2l, 1) := by decide +kernel
theorem d_Law_law_747 : decode (mB m_Law_law) 747 = .ok (.lcmp, 1) := by decide +kernel
theorem d_Law_law_748 : decode (mB m_Law_law) 748 = .ok (.ifCond .eq 5, 3) := by decide +kernel
theorem d_Law_law_751 : decode (mB m_Law_law) 751 = .ok (.iconst 0, 1) := by decide +kernel
theorem d_Law_law_752 : decode (mB m_Law_law) 752 = .ok (.ireturn, 1) := by decide +kernel
theorem d_Law_law_753 : decode (mB m_Law_law) 753 = .ok (.goto 362, 3) := by decide +kernel
theorem d_Law_law_756 : decode (mB m_Law_law) 756 = .ok (.aload_n 1, 1) := by decide +kernel
theorem d_Law_law_757 : decode (mB m_Law_law) 757 = .ok (.aload_n 0, 1) := by decide +kernel
theorem d_Law_law_758 : decode (mB m_Law_law) 758 = .ok (.iload 4, 2) := by decide +kernel
theorem d_Law_law_760 : decode (mB m_Law_law) 760 = .ok (.iconst 1, 1) := by decide +kernel
theorem d_Law_law_761 : decode (mB m_Law_law) 761 = .ok (.iadd, 1) := by decide +kernel
theorem d_Law_law_762 : decode (mB m_Law_law) 762 = .ok (.iaload, 1) := by decide +kernel
theorem d_Law_law_763 : decode (mB m_Law_law) 763 = .ok (.aload_n 3, 1) := by decide +kernel
theorem d_Law_law_764 : decode (mB m_Law_law) 764 = .ok (.invokestatic 108, 3) := by decide +kernel
theorem d_Law_law_767 : decode (mB m_Law_law) 767 = .ok (.istore 5, 2) := by decide +kernel
theorem d_Law_law_769 : decode (mB m_Law_law) 769 = .ok (.aload_n 2, 1) := by decide +kernel
theorem d_Law_law_770 : decode (mB m_Law_law) 770 = .ok (.aload_n 0, 1) := by decide +kernel
theorem d_Law_law_771 : decode (mB m_Law_law) 771 = .ok (.iload 4, 2) := by decide +kernel
theorem d_Law_law_773 : decode (mB m_Law_law) 773 = .ok (.iconst 1, 1) := by decide +kernel
theorem d_Law_law_774 : decode (mB m_Law_law) 774 = .ok (.iadd, 1) := by decide +kernel
theorem d_Law_law_775 : decode (mB m_Law_law) 775 = .ok (.iaload, 1) := by decide +kernel
theorem d_Law_law_776 : decode (mB m_Law_law) 776 = .ok (.invokevirtual 110, 3) := by decide +kernel
theorem d_Law_law_779 : decode (mB m_Law_law) 779 = .ok (.istore 6, 2) := by decide +kernel
theorem d_Law_law_781 : decode (mB m_Law_law) 781 = .ok (.aload_n 2, 1) := by decide +kernel
theorem d_Law_law_782 : decode (mB m_Law_law) 782 = .ok (.invokevirtual 74, 3) := by decide +kernel
theorem d_Law_law_785 : decode (mB m_Law_law) 785 = .ok (.iload 5, 2) := by decide +kernel
theorem d_Law_law_787 : decode (mB m_Law_law) 787 = .ok (.if_icmp .eq 5, 3) := by decide +kernel
theorem d_Law_law_790 : decode (mB m_Law_law) 790 = .ok (.iconst 0, 1) := by decide +kernel
theorem d_Law_law_791 : decode (mB m_Law_law) 791 = .ok (.ireturn, 1) := by decide +kernel
theorem d_Law_law_792 : decode (mB m_Law_law) 792 = .ok (.iload 5, 2) := by decide +kernel
theorem d_Law_law_794 : decode (mB m_Law_law) 794 = .ok (.ifCond .ne 15, 3) := by decide +kernel
theorem d_Law_law_797 : decode (mB m_Law_law) 797 = .ok (.aload_n 3, 1) := by decide +kernel
theorem d_Law_law_798 : decode (mB m_Law_law) 798 = .ok (.iconst 0, 1) := by decide +kernel
theorem d_Law_law_799 : decode (mB m_Law_law) 799 = .ok (.laload, 1) := by decide +kernel
theorem d_Law_law_800 : decode (mB m_Law_law) 800 = .ok (.iload 6, 2) := by decide +kernel
theorem d_Law_law_802 : decode (mB m_Law_law) 802 = .ok (.i2l, 1) := by decide +kernel
theorem d_Law_law_803 : decode (mB m_Law_law) 803 = .ok (.lcmp, 1) := by decide +kernel
theorem d_Law_law_804 : decode (mB m_Law_law) 804 = .ok (.ifCond .eq 5, 3) := by decide +kernel
theorem d_Law_law_807 : decode (mB m_Law_law) 807 = .ok (.iconst 0, 1) := by decide +kernel
theorem d_Law_law_808 : decode (mB m_Law_law) 808 = .ok (.ireturn, 1) := by decide +kernel
theorem d_Law_law_809 : decode (mB m_Law_law) 809 = .ok (.goto 306, 3) := by decide +kernel
theorem d_Law_law_812 : decode (mB m_Law_law) 812 = .ok (.aload_n 1, 1) := by decide +kernel
theorem d_Law_law_813 : decode (mB m_Law_law) 813 = .ok (.aload_n 0, 1) := by decide +kernel
theorem d_Law_law_814 : decode (mB m_Law_law) 814 = .ok (.iload 4, 2) := by decide +kernel
theorem d_Law_law_816 : decode (mB m_Law_law) 816 = .ok (.iconst 1, 1) := by decide +kernel
theorem d_Law_law_817 : decode (mB m_Law_law) 817 = .ok (.iadd, 1) := by decide +kernel
theorem d_Law_law_818 : decode (mB m_Law_law) 818 = .ok (.iaload, 1) := by decide +kernel
theorem d_Law_law_819 : decode (mB m_Law_law) 819 = .ok (.aload_n 0, 1) := by decide +kernel
theorem d_Law_law_820 : decode (mB m_Law_law) 820 = .ok (.iload 4, 2) := by decide +kernel
theorem d_Law_law_822 : decode (mB m_Law_law) 822 = .ok (.iconst 2, 1) := by decide +kernel
theorem d_Law_law_823 : decode (mB m_Law_law) 823 = .ok (.iadd, 1) := by decide +kernel
theorem d_Law_law_824 : decode (mB m_Law_law) 824 = .ok (.iaload, 1) := by decide +kernel
theorem d_Law_law_825 : decode (mB m_Law_law) 825 = .ok (.aload_n 0, 1) := by decide +kernel
theorem d_Law_law_826 : decode (mB m_Law_law) 826 = .ok (.iload 4, 2) := by decide +kernel
theorem d_Law_law_828 : decode (mB m_Law_law) 828 = .ok (.iconst 3, 1) := by decide +kernel
theorem d_Law_law_829 : decode (mB m_Law_law) 829 = .ok (.iadd, 1) := by decide +kernel
theorem d_Law_law_830 : decode (mB m_Law_law) 830 = .ok (.iaload, 1) := by decide +kernel
theorem d_Law_law_831 : decode (mB m_Law_law) 831 = .ok (.aload_n 3, 1) := by decide +kernel
theorem d_Law_law_832 : decode (mB m_Law_law) 832 = .ok (.invokestatic 111, 3) := by decide +kernel
theorem d_Law_law_835 : decode (mB m_Law_law) 835 = .ok (.istore 5, 2) := by decide +kernel
theorem d_Law_law_837 : decode (mB m_Law_law) 837 = .ok (.aload_n 2, 1) := by decide +kernel
theorem d_Law_law_838 : decode (mB m_Law_law) 838 = .ok (.aload_n 0, 1) := by decide +kernel
theorem d_Law_law_839 : decode (mB m_Law_law) 839 = .ok (.iload 4, 2) := by decide +kernel
theorem d_Law_law_841 : decode (mB m_Law_law) 841 = .ok (.iconst 1, 1) := by decide +kernel
theorem d_Law_law_842 : decode (mB m_Law_law) 842 = .ok (.iadd, 1) := by decide +kernel
theorem d_Law_law_843 : decode (mB m_Law_law) 843 = .ok (.iaload, 1) := by decide +kernel
theorem d_Law_law_844 : decode (mB m_Law_law) 844 = .ok (.aload_n 0, 1) := by decide +kernel
theorem d_Law_law_845 : decode (mB m_Law_law) 845 = .ok (.iload 4, 2) := by decide +kernel
theorem d_Law_law_847 : decode (mB m_Law_law) 847 = .ok (.iconst 2, 1) := by decide +kernel
theorem d_Law_law_848 : decode (mB m_Law_law) 848 = .ok (.iadd, 1) := by decide +kernel
theorem d_Law_law_849 : decode (mB m_Law_law) 849 = .ok (.iaload, 1) := by decide +kernel
theorem d_Law_law_850 : decode (mB m_Law_law) 850 = .ok (.aload_n 0, 1) := by decide +kernel
theorem d_Law_law_851 : decode (mB m_Law_law) 851 = .ok (.iload 4, 2) := by decide +kernel
theorem d_Law_law_853 : decode (mB m_Law_law) 853 = .ok (.iconst 3, 1) := by decide +kernel
theorem d_Law_law_854 : decode (mB m_Law_law) 854 = .ok (.iadd, 1) := by decide +kernel
theorem d_Law_law_855 : decode (mB m_Law_law) 855 = .ok (.iaload, 1) := by decide +kernel
theorem d_Law_law_856 : decode (mB m_Law_law) 856 = .ok (.invokevirtual 113, 3) := by decide +kernel
theorem d_Law_law_859 : decode (mB m_Law_law) 859 = .ok (.istore 6, 2) := by decide +kernel
theorem d_Law_law_861 : decode (mB m_Law_law) 861 = .ok (.aload_n 2, 1) := by decide +kernel
theorem d_Law_law_862 : decode (mB m_Law_law) 862 = .ok (.invokevirtual 74, 3) := by decide +kernel
theorem d_Law_law_865 : decode (mB m_Law_law) 865 = .ok (.iload 5, 2) := by decide +kernel
theorem d_Law_law_867 : decode (mB m_Law_law) 867 = .ok (.if_icmp .eq 5, 3) := by decide +kernel
theorem d_Law_law_870 : decode (mB m_Law_law) 870 = .ok (.iconst 0, 1) := by decide +kernel
theorem d_Law_law_871 : decode (mB m_Law_law) 871 = .ok (.ireturn, 1) := by decide +kernel
theorem d_Law_law_872 : decode (mB m_Law_law) 872 = .ok (.iload 5, 2) := by decide +kernel
theorem d_Law_law_874 : decode (mB m_Law_law) 874 = .ok (.ifCond .ne 15, 3) := by decide +kernel
theorem d_Law_law_877 : decode (mB m_Law_law) 877 = .ok (.aload_n 3, 1) := by decide +kernel
theorem d_Law_law_878 : decode (mB m_Law_law) 878 = .ok (.iconst 0, 1) := by decide +kernel
theorem d_Law_law_879 : decode (mB m_Law_law) 879 = .ok (.laload, 1) := by decide +kernel
theorem d_Law_law_880 : decode (mB m_Law_law) 880 = .ok (.iload 6, 2) := by decide +kernel
theorem d_Law_law_882 : decode (mB m_Law_law) 882 = .ok (.i2l, 1) := by decide +kernel
theorem d_Law_law_883 : decode (mB m_Law_law) 883 = .ok (.lcmp, 1) := by decide +kernel
theorem d_Law_law_884 : decode (mB m_Law_law) 884 = .ok (.ifCond .eq 5, 3) := by decide +kernel
theorem d_Law_law_887 : decode (mB m_Law_law) 887 = .ok (.iconst 0, 1) := by decide +kernel
theorem d_Law_law_888 : decode (mB m_Law_law) 888 = .ok (.ireturn, 1) := by decide +kernel
theorem d_Law_law_889 : decode (mB m_Law_law) 889 = .ok (.goto 226, 3) := by decide +kernel
theorem d_Law_law_892 : decode (mB m_Law_law) 892 = .ok (.aload_n 1, 1) := by decide +kernel
theorem d_Law_law_893 : decode (mB m_Law_law) 893 = .ok (.aload_n 0, 1) := by decide +kernel
theorem d_Law_law_894 : decode (mB m_Law_law) 894 = .ok (.iload 4, 2) := by decide +kernel
theorem d_Law_law_896 : decode (mB m_Law_law) 896 = .ok (.iconst 1, 1) := by decide +kernel
theorem d_Law_law_897 : decode (mB m_Law_law) 897 = .ok (.iadd, 1) := by decide +kernel
theorem d_Law_law_898 : decode (mB m_Law_law) 898 = .ok (.iaload, 1) := by decide +kernel
theorem d_Law_law_899 : decode (mB m_Law_law) 899 = .ok (.aload_n 0, 1) := by decide +kernel
theorem d_Law_law_900 : decode (mB m_Law_law) 900 = .ok (.iload 4, 2) := by decide +kernel
theorem d_Law_law_902 : decode (mB m_Law_law) 902 = .ok (.iconst 2, 1) := by decide +kernel
theorem d_Law_law_903 : decode (mB m_Law_law) 903 = .ok (.iadd, 1) := by decide +kernel
theorem d_Law_law_904 : decode (mB m_Law_law) 904 = .ok (.iaload, 1) := by decide +kernel
theorem d_Law_law_905 : decode (mB m_Law_law) 905 = .ok (.aload_n 3, 1) := by decide +kernel
theorem d_Law_law_906 : decode (mB m_Law_law) 906 = .ok (.invokestatic 114, 3) := by decide +kernel
theorem d_Law_law_909 : decode (mB m_Law_law) 909 = .ok (.istore 5, 2) := by decide +kernel
theorem d_Law_law_911 : decode (mB m_Law_law) 911 = .ok (.aload_n 2, 1) := by decide +kernel
theorem d_Law_law_912 : decode (mB m_Law_law) 912 = .ok (.aload_n 0, 1) := by decide +kernel
theorem d_Law_law_913 : decode (mB m_Law_law) 913 = .ok (.iload 4, 2) := by decide +kernel
theorem d_Law_law_915 : decode (mB m_Law_law) 915 = .ok (.iconst 1, 1) := by decide +kernel
theorem d_Law_law_916 : decode (mB m_Law_law) 916 = .ok (.iadd, 1) := by decide +kernel
theorem d_Law_law_917 : decode (mB m_Law_law) 917 = .ok (.iaload, 1) := by decide +kernel
theorem d_Law_law_918 : decode (mB m_Law_law) 918 = .ok (.aload_n 0, 1) := by decide +kernel
theorem d_Law_law_919 : decode (mB m_Law_law) 919 = .ok (.iload 4, 2) := by decide +kernel
theorem d_Law_law_921 : decode (mB m_Law_law) 921 = .ok (.iconst 2, 1) := by decide +kernel
theorem d_Law_law_922 : decode (mB m_Law_law) 922 = .ok (.iadd, 1) := by decide +kernel
theorem d_Law_law_923 : decode (mB m_Law_law) 923 = .ok (.iaload, 1) := by decide +kernel
theorem d_Law_law_924 : decode (mB m_Law_law) 924 = .ok (.invokevirtual 116, 3) := by decide +kernel
theorem d_Law_law_927 : decode (mB m_Law_law) 927 = .ok (.istore 6, 2) := by decide +kernel
theorem d_Law_law_929 : decode (mB m_Law_law) 929 = .ok (.aload_n 2, 1) := by decide +kernel
theorem d_Law_law_930 : decode (mB m_Law_law) 930 = .ok (.invokevirtual 74, 3) := by decide +kernel
theorem d_Law_law_933 : decode (mB m_Law_law) 933 = .ok (.iload 5, 2) := by decide +kernel
theorem d_Law_law_935 : decode (mB m_Law_law) 935 = .ok (.if_icmp .eq 5, 3) := by decide +kernel
theorem d_Law_law_938 : decode (mB m_Law_law) 938 = .ok (.iconst 0, 1) := by decide +kernel
theorem d_Law_law_939 : decode (mB m_Law_law) 939 = .ok (.ireturn, 1) := by decide +kernel
theorem d_Law_law_940 : decode (mB m_Law_law) 940 = .ok (.iload 5, 2) := by decide +kernel
theorem d_Law_law_942 : decode (mB m_Law_law) 942 = .ok (.ifCond .ne 22, 3) := by decide +kernel
theorem d_Law_law_945 : decode (mB m_Law_law) 945 = .ok (.aload_n 3, 1) := by decide +kernel
theorem d_Law_law_946 : decode (mB m_Law_law) 946 = .ok (.iconst 0, 1) := by decide +kernel
theorem d_Law_law_947 : decode (mB m_Law_law) 947 = .ok (.laload, 1) := by decide +kernel
theorem d_Law_law_948 : decode (mB m_Law_law) 948 = .ok (.iload 6, 2) := by decide +kernel
theorem d_Law_law_950 : decode (mB m_Law_law) 950 = .ok (.ifCond .eq 7, 3) := by decide +kernel
theorem d_Law_law_953 : decode (mB m_Law_law) 953 = .ok (.lconst 1, 1) := by decide +kernel
theorem d_Law_law_954 : decode (mB m_Law_law) 954 = .ok (.goto 4, 3) := by decide +kernel
theorem d_Law_law_957 : decode (mB m_Law_law) 957 = .ok (.lconst 0, 1) := by decide +kernel
theorem d_Law_law_958 : decode (mB m_Law_law) 958 = .ok (.lcmp, 1) := by decide +kernel
theorem d_Law_law_959 : decode (mB m_Law_law) 959 = .ok (.ifCond .eq 5, 3) := by decide +kernel
theorem d_Law_law_962 : decode (mB m_Law_law) 962 = .ok (.iconst 0, 1) := by decide +kernel
theorem d_Law_law_963 : decode (mB m_Law_law) 963 = .ok (.ireturn, 1) := by decide +kernel
theorem d_Law_law_964 : decode (mB m_Law_law) 964 = .ok (.goto 151, 3) := by decide +kernel
theorem d_Law_law_967 : decode (mB m_Law_law) 967 = .ok (.aload_n 1, 1) := by decide +kernel
theorem d_Law_law_968 : decode (mB m_Law_law) 968 = .ok (.aload_n 0, 1) := by decide +kernel
theorem d_Law_law_969 : decode (mB m_Law_law) 969 = .ok (.iload 4, 2) := by decide +kernel
theorem d_Law_law_971 : decode (mB m_Law_law) 971 = .ok (.iconst 1, 1) := by decide +kernel
theorem d_Law_law_972 : decode (mB m_Law_law) 972 = .ok (.iadd, 1) := by decide +kernel
theorem d_Law_law_973 : decode (mB m_Law_law) 973 = .ok (.iaload, 1) := by decide +kernel
theorem d_Law_law_974 : decode (mB m_Law_law) 974 = .ok (.aload_n 0, 1) := by decide +kernel
theorem d_Law_law_975 : decode (mB m_Law_law) 975 = .ok (.iload 4, 2) := by decide +kernel
theorem d_Law_law_977 : decode (mB m_Law_law) 977 = .ok (.iconst 2, 1) := by decide +kernel
theorem d_Law_law_978 : decode (mB m_Law_law) 978 = .ok (.iadd, 1) := by decide +kernel
theorem d_Law_law_979 : decode (mB m_Law_law) 979 = .ok (.iaload, 1) := by decide +kernel
theorem d_Law_law_980 : decode (mB m_Law_law) 980 = .ok (.aload_n 0, 1) := by decide +kernel
theorem d_Law_law_981 : decode (mB m_Law_law) 981 = .ok (.iload 4, 2) := by decide +kernel
theorem d_Law_law_983 : decode (mB m_Law_law) 983 = .ok (.iconst 3, 1) := by decide +kernel
theorem d_Law_law_984 : decode (mB m_Law_law) 984 = .ok (.iadd, 1) := by decide +kernel
theorem d_Law_law_985 : decode (mB m_Law_law) 985 = .ok (.iaload, 1) := by decide +kernel
theorem d_Law_law_986 : decode (mB m_Law_law) 986 = .ok (.aload_n 3, 1) := by decide +kernel
theorem d_Law_law_987 : decode (mB m_Law_law) 987 = .ok (.invokestatic 117, 3) := by decide +kernel
theorem d_Law_law_990 : decode (mB m_Law_law) 990 = .ok (.istore 5, 2) := by decide +kernel
theorem d_Law_law_992 : decode (mB m_Law_law) 992 = .ok (.aload_n 2, 1) := by decide +kernel
theorem d_Law_law_993 : decode (mB m_Law_law) 993 = .ok (.aload_n 0, 1) := by decide +kernel
theorem d_Law_law_994 : decode (mB m_Law_law) 994 = .ok (.iload 4, 2) := by decide +kernel
theorem d_Law_law_996 : decode (mB m_Law_law) 996 = .ok (.iconst 1, 1) := by decide +kernel
theorem d_Law_law_997 : decode (mB m_Law_law) 997 = .ok (.iadd, 1) := by decide +kernel
theorem d_Law_law_998 : decode (mB m_Law_law) 998 = .ok (.iaload, 1) := by decide +kernel
theorem d_Law_law_999 : decode (mB m_Law_law) 999 = .ok (.aload_n 0, 1) := by decide +kernel
theorem d_Law_law_1000 : decode (mB m_Law_law) 1000 = .ok (.iload 4, 2) := by decide +kernel
theorem d_Law_law_1002 : decode (mB m_Law_law) 1002 = .ok (.iconst 2, 1) := by decide +kernel
theorem d_Law_law_1003 : decode (mB m_Law_law) 1003 = .ok (.iadd, 1) := by decide +kernel
theorem d_Law_law_1004 : decode (mB m_Law_law) 1004 = .ok (.iaload, 1) := by decide +kernel
theorem d_Law_law_1005 : decode (mB m_Law_law) 1005 = .ok (.aload_n 0, 1) := by decide +kernel
theorem d_Law_law_1006 : decode (mB m_Law_law) 1006 = .ok (.iload 4, 2) := by decide +kernel
theorem d_Law_law_1008 : decode (mB m_Law_law) 1008 = .ok (.iconst 3, 1) := by decide +kernel
theorem d_Law_law_1009 : decode (mB m_Law_law) 1009 = .ok (.iadd, 1) := by decide +kernel
theorem d_Law_law_1010 : decode (mB m_Law_law) 1010 = .ok (.iaload, 1) := by decide +kernel
theorem d_Law_law_1011 : decode (mB m_Law_law) 1011 = .ok (.invokevirtual 119, 3) := by decide +kernel
theorem d_Law_law_1014 : decode (mB m_Law_law) 1014 = .ok (.istore 6, 2) := by decide +kernel
theorem d_Law_law_1016 : decode (mB m_Law_law) 1016 = .ok (.aload_n 2, 1) := by decide +kernel
theorem d_Law_law_1017 : decode (mB m_Law_law) 1017 = .ok (.invokevirtual 74, 3) := by decide +kernel
theorem d_Law_law_1020 : decode (mB m_Law_law) 1020 = .ok (.iload 5, 2) := by decide +kernel
theorem d_Law_law_1022 : decode (mB m_Law_law) 1022 = .ok (.if_icmp .eq 5, 3) := by decide +kernel
theorem d_Law_law_1025 : decode (mB m_Law_law) 1025 = .ok (.iconst 0, 1) := by decide +kernel
theorem d_Law_law_1026 : decode (mB m_Law_law) 1026 = .ok (.ireturn, 1) := by decide +kernel
theorem d_Law_law_1027 : decode (mB m_Law_law) 1027 = .ok (.iload 5, 2) := by decide +kernel
theorem d_Law_law_1029 : decode (mB m_Law_law) 1029 = .ok (.ifCond .ne 15, 3) := by decide +kernel
theorem d_Law_law_1032 : decode (mB m_Law_law) 1032 = .ok (.aload_n 3, 1) := by decide +kernel
theorem d_Law_law_1033 : decode (mB m_Law_law) 1033 = .ok (.iconst 0, 1) := by decide +kernel
theorem d_Law_law_1034 : decode (mB m_Law_law) 1034 = .ok (.laload, 1) := by decide +kernel
theorem d_Law_law_1035 : decode (mB m_Law_law) 1035 = .ok (.iload 6, 2) := by decide +kernel
theorem d_Law_law_1037 : decode (mB m_Law_law) 1037 = .ok (.i2l, 1) := by decide +kernel
theorem d_Law_law_1038 : decode (mB m_Law_law) 1038 = .ok (.lcmp, 1) := by decide +kernel
theorem d_Law_law_1039 : decode (mB m_Law_law) 1039 = .ok (.ifCond .eq 5, 3) := by decide +kernel
theorem d_Law_law_1042 : decode (mB m_Law_law) 1042 = .ok (.iconst 0, 1) := by decide +kernel
theorem d_Law_law_1043 : decode (mB m_Law_law) 1043 = .ok (.ireturn, 1) := by decide +kernel
theorem d_Law_law_1044 : decode (mB m_Law_law) 1044 = .ok (.goto 71, 3) := by decide +kernel
theorem d_Law_law_1047 : decode (mB m_Law_law) 1047 = .ok (.aload_n 1, 1) := by decide +kernel
theorem d_Law_law_1048 : decode (mB m_Law_law) 1048 = .ok (.aload_n 0, 1) := by decide +kernel
theorem d_Law_law_1049 : decode (mB m_Law_law) 1049 = .ok (.iload 4, 2) := by decide +kernel
theorem d_Law_law_1051 : decode (mB m_Law_law) 1051 = .ok (.iconst 1, 1) := by decide +kernel
theorem d_Law_law_1052 : decode (mB m_Law_law) 1052 = .ok (.iadd, 1) := by decide +kernel
theorem d_Law_law_1053 : decode (mB m_Law_law) 1053 = .ok (.iaload, 1) := by decide +kernel
theorem d_Law_law_1054 : decode (mB m_Law_law) 1054 = .ok (.aload_n 0, 1) := by decide +kernel
theorem d_Law_law_1055 : decode (mB m_Law_law) 1055 = .ok (.iload 4, 2) := by decide +kernel
theorem d_Law_law_1057 : decode (mB m_Law_law) 1057 = .ok (.iconst 2, 1) := by decide +kernel
theorem d_Law_law_1058 : decode (mB m_Law_law) 1058 = .ok (.iadd, 1) := by decide +kernel
theorem d_Law_law_1059 : decode (mB m_Law_law) 1059 = .ok (.iaload, 1) := by decide +kernel
theorem d_Law_law_1060 : decode (mB m_Law_law) 1060 = .ok (.aload_n 3, 1) := by decide +kernel
theorem d_Law_law_1061 : decode (mB m_Law_law) 1061 = .ok (.invokestatic 120, 3) := by decide +kernel
theorem d_Law_law_1064 : decode (mB m_Law_law) 1064 = .ok (.istore 5, 2) := by decide +kernel
theorem d_Law_law_1066 : decode (mB m_Law_law) 1066 = .ok (.aload_n 2, 1) := by decide +kernel
theorem d_Law_law_1067 : decode (mB m_Law_law) 1067 = .ok (.aload_n 0, 1) := by decide +kernel
theorem d_Law_law_1068 : decode (mB m_Law_law) 1068 = .ok (.iload 4, 2) := by decide +kernel
theorem d_Law_law_1070 : decode (mB m_Law_law) 1070 = .ok (.iconst 1, 1) := by decide +kernel
theorem d_Law_law_1071 : decode (mB m_Law_law) 1071 = .ok (.iadd, 1) := by decide +kernel
theorem d_Law_law_1072 : decode (mB m_Law_law) 1072 = .ok (.iaload, 1) := by decide +kernel
theorem d_Law_law_1073 : decode (mB m_Law_law) 1073 = .ok (.aload_n 0, 1) := by decide +kernel
theorem d_Law_law_1074 : decode (mB m_Law_law) 1074 = .ok (.iload 4, 2) := by decide +kernel
theorem d_Law_law_1076 : decode (mB m_Law_law) 1076 = .ok (.iconst 2, 1) := by decide +kernel
theorem d_Law_law_1077 : decode (mB m_Law_law) 1077 = .ok (.iadd, 1) := by decide +kernel
theorem d_Law_law_1078 : decode (mB m_Law_law) 1078 = .ok (.iaload, 1) := by decide +kernel
theorem d_Law_law_1079 : decode (mB m_Law_law) 1079 = .ok (.invokevirtual 122, 3) := by decide +kernel
theorem d_Law_law_1082 : decode (mB m_Law_law) 1082 = .ok (.istore 6, 2) := by decide +kernel
theorem d_Law_law_1084 : decode (mB m_Law_law) 1084 = .ok (.aload_n 2, 1) := by decide +kernel
theorem d_Law_law_1085 : decode (mB m_Law_law) 1085 = .ok (.invokevirtual 74, 3) := by decide +kernel
theorem d_Law_law_1088 : decode (mB m_Law_law) 1088 = .ok (.iload 5, 2) := by decide +kernel
theorem d_Law_law_1090 : decode (mB m_Law_law) 1090 = .ok (.if_icmp .eq 5, 3) := by decide +kernel
theorem d_Law_law_1093 : decode (mB m_Law_law) 1093 = .ok (.iconst 0, 1) := by decide +kernel
theorem d_Law_law_1094 : decode (mB m_Law_law) 1094 = .ok (.ireturn, 1) := by decide +kernel
theorem d_Law_law_1095 : decode (mB m_Law_law) 1095 = .ok (.iload 5, 2) := by decide +kernel
theorem d_Law_law_1097 : decode (mB m_Law_law) 1097 = .ok (.ifCond .ne 15, 3) := by decide +kernel
theorem d_Law_law_1100 : decode (mB m_Law_law) 1100 = .ok (.aload_n 3, 1) := by decide +kernel
theorem d_Law_law_1101 : decode (mB m_Law_law) 1101 = .ok (.iconst 0, 1) := by decide +kernel
theorem d_Law_law_1102 : decode (mB m_Law_law) 1102 = .ok (.laload, 1) := by decide +kernel
theorem d_Law_law_1103 : decode (mB m_Law_law) 1103 = .ok (.iload 6, 2) := by decide +kernel
theorem d_Law_law_1105 : decode (mB m_Law_law) 1105 = .ok (.i2l, 1) := by decide +kernel
theorem d_Law_law_1106 : decode (mB m_Law_law) 1106 = .ok (.lcmp, 1) := by decide +kernel
theorem d_Law_law_1107 : decode (mB m_Law_law) 1107 = .ok (.ifCond .eq 5, 3) := by decide +kernel
theorem d_Law_law_1110 : decode (mB m_Law_law) 1110 = .ok (.iconst 0, 1) := by decide +kernel
theorem d_Law_law_1111 : decode (mB m_Law_law) 1111 = .ok (.ireturn, 1) := by decide +kernel
theorem d_Law_law_1112 : decode (mB m_Law_law) 1112 = .ok (.goto 3, 3) := by decide +kernel
theorem d_Law_law_1115 : decode (mB m_Law_law) 1115 = .ok (.iinc 4 7, 3) := by decide +kernel
theorem d_Law_law_1118 : decode (mB m_Law_law) 1118 = .ok (.goto (-1095), 3) := by decide +kernel
theorem d_Law_law_1121 : decode (mB m_Law_law) 1121 = .ok (.iconst 1, 1) := by decide +kernel
theorem d_Law_law_1122 : decode (mB m_Law_law) 1122 = .ok (.ireturn, 1) := by decide +kernel
