theorem d_Mo_equations_135 : decode b_Mo_equations 135 = .ok (.iload_n 1, 1) := by decide +kernel
theorem d_Mo_equations_136 : decode b_Mo_equations 136 = .ok (.imul, 1) := by decide +kernel
theorem d_Mo_equations_137 : decode b_Mo_equations 137 = .ok (.aload_n 0, 1) := by decide +kernel
theorem d_Mo_equations_138 : decode b_Mo_equations 138 = .ok (.getfield 84, 3) := by decide +kernel
theorem d_Mo_equations_141 : decode b_Mo_equations 141 = .ok (.iload_n 1, 1) := by decide +kernel
theorem d_Mo_equations_142 : decode b_Mo_equations 142 = .ok (.iaload, 1) := by decide +kernel
theorem d_Mo_equations_143 : decode b_Mo_equations 143 = .ok (.iadd, 1) := by decide +kernel
theorem d_Mo_equations_144 : decode b_Mo_equations 144 = .ok (.iaload, 1) := by decide +kernel
theorem d_Mo_equations_145 : decode b_Mo_equations 145 = .ok (.istore_n 3, 1) := by decide +kernel
theorem d_Mo_equations_146 : decode b_Mo_equations 146 = .ok (.aload_n 0, 1) := by decide +kernel
theorem d_Mo_equations_147 : decode b_Mo_equations 147 = .ok (.getfield 93, 3) := by decide +kernel
theorem d_Mo_equations_150 : decode b_Mo_equations 150 = .ok (.iload_n 2, 1) := by decide +kernel
theorem d_Mo_equations_151 : decode b_Mo_equations 151 = .ok (.aload_n 0, 1) := by decide +kernel
theorem d_Mo_equations_152 : decode b_Mo_equations 152 = .ok (.getfield 90, 3) := by decide +kernel
theorem d_Mo_equations_155 : decode b_Mo_equations 155 = .ok (.iload_n 1, 1) := by decide +kernel
theorem d_Mo_equations_156 : decode b_Mo_equations 156 = .ok (.iaload, 1) := by decide +kernel
theorem d_Mo_equations_157 : decode b_Mo_equations 157 = .ok (.iadd, 1) := by decide +kernel
theorem d_Mo_equations_158 : decode b_Mo_equations 158 = .ok (.aload_n 0, 1) := by decide +kernel
theorem d_Mo_equations_159 : decode b_Mo_equations 159 = .ok (.getfield 93, 3) := by decide +kernel
theorem d_Mo_equations_162 : decode b_Mo_equations 162 = .ok (.iload_n 2, 1) := by decide +kernel
theorem d_Mo_equations_163 : decode b_Mo_equations 163 = .ok (.aload_n 0, 1) := by decide +kernel
theorem d_Mo_equations_164 : decode b_Mo_equations 164 = .ok (.getfield 90, 3) := by decide +kernel
theorem d_Mo_equations_167 : decode b_Mo_equations 167 = .ok (.iload_n 1, 1) := by decide +kernel
theorem d_Mo_equations_168 : decode b_Mo_equations 168 = .ok (.iaload, 1) := by decide +kernel
theorem d_Mo_equations_169 : decode b_Mo_equations 169 = .ok (.iadd, 1) := by decide +kernel
theorem d_Mo_equations_170 : decode b_Mo_equations 170 = .ok (.laload, 1) := by decide +kernel
theorem d_Mo_equations_171 : decode b_Mo_equations 171 = .ok (.aload_n 0, 1) := by decide +kernel
theorem d_Mo_equations_172 : decode b_Mo_equations 172 = .ok (.getfield 36, 3) := by decide +kernel
theorem d_Mo_equations_175 : decode b_Mo_equations 175 = .ok (.bipush 10, 2) := by decide +kernel
theorem d_Mo_equations_177 : decode b_Mo_equations 177 = .ok (.aload_n 0, 1) := by decide +kernel
theorem d_Mo_equations_178 : decode b_Mo_equations 178 = .ok (.getfield 17, 3) := by decide +kernel
theorem d_Mo_equations_181 : decode b_Mo_equations 181 = .ok (.imul, 1) := by decide +kernel
theorem d_Mo_equations_182 : decode b_Mo_equations 182 = .ok (.iload_n 3, 1) := by decide +kernel
theorem d_Mo_equations_183 : decode b_Mo_equations 183 = .ok (.iadd, 1) := by decide +kernel
theorem d_Mo_equations_184 : decode b_Mo_equations 184 = .ok (.iaload, 1) := by decide +kernel
theorem d_Mo_equations_185 : decode b_Mo_equations 185 = .ok (.i2l, 1) := by decide +kernel
theorem d_Mo_equations_186 : decode b_Mo_equations 186 = .ok (.ladd, 1) := by decide +kernel
theorem d_Mo_equations_187 : decode b_Mo_equations 187 = .ok (.lastore, 1) := by decide +kernel
theorem d_Mo_equations_188 : decode b_Mo_equations 188 = .ok (.iconst 0, 1) := by decide +kernel
theorem d_Mo_equations_189 : decode b_Mo_equations 189 = .ok (.istore 4, 2) := by decide +kernel
theorem d_Mo_equations_191 : decode b_Mo_equations 191 = .ok (.iload 4, 2) := by decide +kernel
theorem d_Mo_equations_193 : decode b_Mo_equations 193 = .ok (.aload_n 0, 1) := by decide +kernel
theorem d_Mo_equations_194 : decode b_Mo_equations 194 = .ok (.getfield 33, 3) := by decide +kernel
theorem d_Mo_equations_197 : decode b_Mo_equations 197 = .ok (.bipush 10, 2) := by decide +kernel
theorem d_Mo_equations_199 : decode b_Mo_equations 199 = .ok (.aload_n 0, 1) := by decide +kernel
theorem d_Mo_equations_200 : decode b_Mo_equations 200 = .ok (.getfield 17, 3) := by decide +kernel
theorem d_Mo_equations_203 : decode b_Mo_equations 203 = .ok (.imul, 1) := by decide +kernel
theorem d_Mo_equations_204 : decode b_Mo_equations 204 = .ok (.iload_n 3, 1) := by decide +kernel
theorem d_Mo_equations_205 : decode b_Mo_equations 205 = .ok (.iadd, 1) := by decide +kernel
theorem d_Mo_equations_206 : decode b_Mo_equations 206 = .ok (.iaload, 1) := by decide +kernel
theorem d_Mo_equations_207 : decode b_Mo_equations 207 = .ok (.if_icmp .ge 130, 3) := by decide +kernel
theorem d_Mo_equations_210 : decode b_Mo_equations 210 = .ok (.aload_n 0, 1) := by decide +kernel
theorem d_Mo_equations_211 : decode b_Mo_equations 211 = .ok (.getfield 75, 3) := by decide +kernel
theorem d_Mo_equations_214 : decode b_Mo_equations 214 = .ok (.bipush 40, 2) := by decide +kernel
theorem d_Mo_equations_216 : decode b_Mo_equations 216 = .ok (.iload_n 1, 1) := by decide +kernel
theorem d_Mo_equations_217 : decode b_Mo_equations 217 = .ok (.imul, 1) := by decide +kernel
theorem d_Mo_equations_218 : decode b_Mo_equations 218 = .ok (.iconst 4, 1) := by decide +kernel
theorem d_Mo_equations_219 : decode b_Mo_equations 219 = .ok (.aload_n 0, 1) := by decide +kernel
theorem d_Mo_equations_220 : decode b_Mo_equations 220 = .ok (.getfield 84, 3) := by decide +kernel
theorem d_Mo_equations_223 : decode b_Mo_equations 223 = .ok (.iload_n 1, 1) := by decide +kernel
theorem d_Mo_equations_224 : decode b_Mo_equations 224 = .ok (.iaload, 1) := by decide +kernel
theorem d_Mo_equations_225 : decode b_Mo_equations 225 = .ok (.imul, 1) := by decide +kernel
theorem d_Mo_equations_226 : decode b_Mo_equations 226 = .ok (.iadd, 1) := by decide +kernel
theorem d_Mo_equations_227 : decode b_Mo_equations 227 = .ok (.iload 4, 2) := by decide +kernel
theorem d_Mo_equations_229 : decode b_Mo_equations 229 = .ok (.iadd, 1) := by decide +kernel
theorem d_Mo_equations_230 : decode b_Mo_equations 230 = .ok (.iaload, 1) := by decide +kernel
theorem d_Mo_equations_231 : decode b_Mo_equations 231 = .ok (.istore 5, 2) := by decide +kernel
theorem d_Mo_equations_233 : decode b_Mo_equations 233 = .ok (.aload_n 0, 1) := by decide +kernel
theorem d_Mo_equations_234 : decode b_Mo_equations 234 = .ok (.getfield 39, 3) := by decide +kernel
theorem d_Mo_equations_237 : decode b_Mo_equations 237 = .ok (.iconst 4, 1) := by decide +kernel
theorem d_Mo_equations_238 : decode b_Mo_equations 238 = .ok (.bipush 10, 2) := by decide +kernel
theorem d_Mo_equations_240 : decode b_Mo_equations 240 = .ok (.aload_n 0, 1) := by decide +kernel
theorem d_Mo_equations_241 : decode b_Mo_equations 241 = .ok (.getfield 17, 3) := by decide +kernel
theorem d_Mo_equations_244 : decode b_Mo_equations 244 = .ok (.imul, 1) := by decide +kernel
theorem d_Mo_equations_245 : decode b_Mo_equations 245 = .ok (.iload_n 3, 1) := by decide +kernel
theorem d_Mo_equations_246 : decode b_Mo_equations 246 = .ok (.iadd, 1) := by decide +kernel
theorem d_Mo_equations_247 : decode b_Mo_equations 247 = .ok (.imul, 1) := by decide +kernel
theorem d_Mo_equations_248 : decode b_Mo_equations 248 = .ok (.iload 4, 2) := by decide +kernel
theorem d_Mo_equations_250 : decode b_Mo_equations 250 = .ok (.iadd, 1) := by decide +kernel
theorem d_Mo_equations_251 : decode b_Mo_equations 251 = .ok (.iaload, 1) := by decide +kernel
theorem d_Mo_equations_252 : decode b_Mo_equations 252 = .ok (.istore 6, 2) := by decide +kernel
theorem d_Mo_equations_254 : decode b_Mo_equations 254 = .ok (.aload_n 0, 1) := by decide +kernel
theorem d_Mo_equations_255 : decode b_Mo_equations 255 = .ok (.getfield 90, 3) := by decide +kernel
theorem d_Mo_equations_258 : decode b_Mo_equations 258 = .ok (.iload 5, 2) := by decide +kernel
theorem d_Mo_equations_260 : decode b_Mo_equations 260 = .ok (.iaload, 1) := by decide +kernel
theorem d_Mo_equations_261 : decode b_Mo_equations 261 = .ok (.ifCond .lt 38, 3) := by decide +kernel
theorem d_Mo_equations_264 : decode b_Mo_equations 264 = .ok (.aload_n 0, 1) := by decide +kernel
theorem d_Mo_equations_265 : decode b_Mo_equations 265 = .ok (.getfield 93, 3) := by decide +kernel
theorem d_Mo_equations_268 : decode b_Mo_equations 268 = .ok (.iload_n 2, 1) := by decide +kernel
theorem d_Mo_equations_269 : decode b_Mo_equations 269 = .ok (.aload_n 0, 1) := by decide +kernel
theorem d_Mo_equations_270 : decode b_Mo_equations 270 = .ok (.getfield 90, 3) := by decide +kernel
theorem d_Mo_equations_273 : decode b_Mo_equations 273 = .ok (.iload 5, 2) := by decide +kernel
theorem d_Mo_equations_275 : decode b_Mo_equations 275 = .ok (.iaload, 1) := by decide +kernel
theorem d_Mo_equations_276 : decode b_Mo_equations 276 = .ok (.iadd, 1) := by decide +kernel
theorem d_Mo_equations_277 : decode b_Mo_equations 277 = .ok (.aload_n 0, 1) := by decide +kernel
theorem d_Mo_equations_278 : decode b_Mo_equations 278 = .ok (.getfield 93, 3) := by decide +kernel
theorem d_Mo_equations_281 : decode b_Mo_equations 281 = .ok (.iload_n 2, 1) := by decide +kernel
theorem d_Mo_equations_282 : decode b_Mo_equations 282 = .ok (.aload_n 0, 1) := by decide +kernel
theorem d_Mo_equations_283 : decode b_Mo_equations 283 = .ok (.getfield 90, 3) := by decide +kernel
theorem d_Mo_equations_286 : decode b_Mo_equations 286 = .ok (.iload 5, 2) := by decide +kernel
theorem d_Mo_equations_288 : decode b_Mo_equations 288 = .ok (.iaload, 1) := by decide +kernel
theorem d_Mo_equations_289 : decode b_Mo_equations 289 = .ok (.iadd, 1) := by decide +kernel
theorem d_Mo_equations_290 : decode b_Mo_equations 290 = .ok (.laload, 1) := by decide +kernel
theorem d_Mo_equations_291 : decode b_Mo_equations 291 = .ok (.iload 6, 2) := by decide +kernel
theorem d_Mo_equations_293 : decode b_Mo_equations 293 = .ok (.i2l, 1) := by decide +kernel
theorem d_Mo_equations_294 : decode b_Mo_equations 294 = .ok (.lsub, 1) := by decide +kernel
theorem d_Mo_equations_295 : decode b_Mo_equations 295 = .ok (.lastore, 1) := by decide +kernel
theorem d_Mo_equations_296 : decode b_Mo_equations 296 = .ok (.goto 35, 3) := by decide +kernel
theorem d_Mo_equations_299 : decode b_Mo_equations 299 = .ok (.aload_n 0, 1) := by decide +kernel
theorem d_Mo_equations_300 : decode b_Mo_equations 300 = .ok (.getfield 63, 3) := by decide +kernel
theorem d_Mo_equations_303 : decode b_Mo_equations 303 = .ok (.iload 5, 2) := by decide +kernel
theorem d_Mo_equations_305 : decode b_Mo_equations 305 = .ok (.baload, 1) := by decide +kernel
theorem d_Mo_equations_306 : decode b_Mo_equations 306 = .ok (.ifCond .eq 25, 3) := by decide +kernel
theorem d_Mo_equations_309 : decode b_Mo_equations 309 = .ok (.aload_n 0, 1) := by decide +kernel
theorem d_Mo_equations_310 : decode b_Mo_equations 310 = .ok (.getfield 93, 3) := by decide +kernel
theorem d_Mo_equations_313 : decode b_Mo_equations 313 = .ok (.iload_n 2, 1) := by decide +kernel
theorem d_Mo_equations_314 : decode b_Mo_equations 314 = .ok (.bipush 8, 2) := by decide +kernel
theorem d_Mo_equations_316 : decode b_Mo_equations 316 = .ok (.iadd, 1) := by decide +kernel
theorem d_Mo_equations_317 : decode b_Mo_equations 317 = .ok (.aload_n 0, 1) := by decide +kernel
theorem d_Mo_equations_318 : decode b_Mo_equations 318 = .ok (.getfield 93, 3) := by decide +kernel
theorem d_Mo_equations_321 : decode b_Mo_equations 321 = .ok (.iload_n 2, 1) := by decide +kernel
theorem d_Mo_equations_322 : decode b_Mo_equations 322 = .ok (.bipush 8, 2) := by decide +kernel
theorem d_Mo_equations_324 : decode b_Mo_equations 324 = .ok (.iadd, 1) := by decide +kernel
theorem d_Mo_equations_325 : decode b_Mo_equations 325 = .ok (.laload, 1) := by decide +kernel
theorem d_Mo_equations_326 : decode b_Mo_equations 326 = .ok (.iload 6, 2) := by decide +kernel
theorem d_Mo_equations_328 : decode b_Mo_equations 328 = .ok (.i2l, 1) := by decide +kernel
theorem d_Mo_equations_329 : decode b_Mo_equations 329 = .ok (.ladd, 1) := by decide +kernel
theorem d_Mo_equations_330 : decode b_Mo_equations 330 = .ok (.lastore, 1) := by decide +kernel
theorem d_Mo_equations_331 : decode b_Mo_equations 331 = .ok (.iinc 4 1, 3) := by decide +kernel
theorem d_Mo_equations_334 : decode b_Mo_equations 334 = .ok (.goto (-143), 3) := by decide +kernel
theorem d_Mo_equations_337 : decode b_Mo_equations 337 = .ok (.iinc 1 1, 3) := by decide +kernel
theorem d_Mo_equations_340 : decode b_Mo_equations 340 = .ok (.goto (-238), 3) := by decide +kernel
theorem d_Mo_equations_343 : decode b_Mo_equations 343 = .ok (.return_, 1) := by decide +kernel
theorem d_Mo_determinant_0 : decode b_Mo_determinant 0 = .ok (.iconst 0, 1) := by decide +kernel
theorem d_Mo_determinant_1 : decode b_Mo_determinant 1 = .ok (.istore_n 2, 1) := by decide +kernel
theorem d_Mo_determinant_2 : decode b_Mo_determinant 2 = .ok (.iload_n 2, 1) := by decide +kernel
theorem d_Mo_determinant_3 : decode b_Mo_determinant 3 = .ok (.aload_n 0, 1) := by decide +kernel
theorem d_Mo_determinant_4 : decode b_Mo_determinant 4 = .ok (.getfield 234, 3) := by decide +kernel
theorem d_Mo_determinant_7 : decode b_Mo_determinant 7 = .ok (.if_icmp .ge 57, 3) := by decide +kernel
theorem d_Mo_determinant_10 : decode b_Mo_determinant 10 = .ok (.iconst 0, 1) := by decide +kernel
theorem d_Mo_determinant_11 : decode b_Mo_determinant 11 = .ok (.istore_n 3, 1) := by decide +kernel
theorem d_Mo_determinant_12 : decode b_Mo_determinant 12 = .ok (.iload_n 3, 1) := by decide +kernel
theorem d_Mo_determinant_13 : decode b_Mo_determinant 13 = .ok (.aload_n 0, 1) := by decide +kernel
theorem d_Mo_determinant_14 : decode b_Mo_determinant 14 = .ok (.getfield 234, 3) := by decide +kernel
theorem d_Mo_determinant_17 : decode b_Mo_determinant 17 = .ok (.if_icmp .ge 41, 3) := by decide +kernel
theorem d_Mo_determinant_20 : decode b_Mo_determinant 20 = .ok (.aload_n 0, 1) := by decide +kernel
theorem d_Mo_determinant_21 : decode b_Mo_determinant 21 = .ok (.getfield 97, 3) := by decide +kernel
theorem d_Mo_determinant_24 : decode b_Mo_determinant 24 = .ok (.bipush 8, 2) := by decide +kernel
theorem d_Mo_determinant_26 : decode b_Mo_determinant 26 = .ok (.iload_n 2, 1) := by decide +kernel
theorem d_Mo_determinant_27 : decode b_Mo_determinant 27 = .ok (.imul, 1) := by decide +kernel
theorem d_Mo_determinant_28 : decode b_Mo_determinant 28 = .ok (.iload_n 3, 1) := by decide +kernel
theorem d_Mo_determinant_29 : decode b_Mo_determinant 29 = .ok (.iadd, 1) := by decide +kernel
theorem d_Mo_determinant_30 : decode b_Mo_determinant 30 = .ok (.aload_n 0, 1) := by decide +kernel
theorem d_Mo_determinant_31 : decode b_Mo_determinant 31 = .ok (.getfield 93, 3) := by decide +kernel
theorem d_Mo_determinant_34 : decode b_Mo_determinant 34 = .ok (.bipush 9, 2) := by decide +kernel
theorem d_Mo_determinant_36 : decode b_Mo_determinant 36 = .ok (.iload_n 2, 1) := by decide +kernel
theorem d_Mo_determinant_37 : decode b_Mo_determinant 37 = .ok (.imul, 1) := by decide +kernel
theorem d_Mo_determinant_38 : decode b_Mo_determinant 38 = .ok (.iload_n 3, 1) := by decide +kernel
theorem d_Mo_determinant_39 : decode b_Mo_determinant 39 = .ok (.iload_n 1, 1) := by decide +kernel
theorem d_Mo_determinant_40 : decode b_Mo_determinant 40 = .ok (.if_icmp .ne 8, 3) := by decide +kernel
theorem d_Mo_determinant_43 : decode b_Mo_determinant 43 = .ok (.bipush 8, 2) := by decide +kernel
theorem d_Mo_determinant_45 : decode b_Mo_determinant 45 = .ok (.goto 4, 3) := by decide +kernel
theorem d_Mo_determinant_48 : decode b_Mo_determinant 48 = .ok (.iload_n 3, 1) := by decide +kernel
theorem d_Mo_determinant_49 : decode b_Mo_determinant 49 = .ok (.iadd, 1) := by decide +kernel
theorem d_Mo_determinant_50 : decode b_Mo_determinant 50 = .ok (.laload, 1) := by decide +kernel
theorem d_Mo_determinant_51 : decode b_Mo_determinant 51 = .ok (.lastore, 1) := by decide +kernel
theorem d_Mo_determinant_52 : decode b_Mo_determinant 52 = .ok (.iinc 3 1, 3) := by decide +kernel
theorem d_Mo_determinant_55 : decode b_Mo_determinant 55 = .ok (.goto (-43), 3) := by decide +kernel
theorem d_Mo_determinant_58 : decode b_Mo_determinant 58 = .ok (.iinc 2 1, 3) := by decide +kernel
theorem d_Mo_determinant_61 : decode b_Mo_determinant 61 = .ok (.goto (-59), 3) := by decide +kernel
theorem d_Mo_determinant_64 : decode b_Mo_determinant 64 = .ok (.lconst 1, 1) := by decide +kernel
theorem d_Mo_determinant_65 : decode b_Mo_determinant 65 = .ok (.lstore_n 2, 1) := by decide +kernel
theorem d_Mo_determinant_66 : decode b_Mo_determinant 66 = .ok (.lconst 1, 1) := by decide +kernel
theorem d_Mo_determinant_67 : decode b_Mo_determinant 67 = .ok (.lstore 4, 2) := by decide +kernel
theorem d_Mo_determinant_69 : decode b_Mo_determinant 69 = .ok (.iconst 0, 1) := by decide +kernel
theorem d_Mo_determinant_70 : decode b_Mo_determinant 70 = .ok (.istore 6, 2) := by decide +kernel
theorem d_Mo_determinant_72 : decode b_Mo_determinant 72 = .ok (.iload 6, 2) := by decide +kernel
theorem d_Mo_determinant_74 : decode b_Mo_determinant 74 = .ok (.aload_n 0, 1) := by decide +kernel
theorem d_Mo_determinant_75 : decode b_Mo_determinant 75 = .ok (.getfield 234, 3) := by decide +kernel
theorem d_Mo_determinant_78 : decode b_Mo_determinant 78 = .ok (.if_icmp .ge 288, 3) := by decide +kernel
theorem d_Mo_determinant_81 : decode b_Mo_determinant 81 = .ok (.iload 6, 2) := by decide +kernel
theorem d_Mo_determinant_83 : decode b_Mo_determinant 83 = .ok (.istore 7, 2) := by decide +kernel
theorem d_Mo_determinant_85 : decode b_Mo_determinant 85 = .ok (.iload 7, 2) := by decide +kernel
theorem d_Mo_determinant_87 : decode b_Mo_determinant 87 = .ok (.aload_n 0, 1) := by decide +kernel
theorem d_Mo_determinant_88 : decode b_Mo_determinant 88 = .ok (.getfield 234, 3) := by decide +kernel
theorem d_Mo_determinant_91 : decode b_Mo_determinant 91 = .ok (.if_icmp .ge 27, 3) := by decide +kernel
theorem d_Mo_determinant_94 : decode b_Mo_determinant 94 = .ok (.aload_n 0, 1) := by decide +kernel
theorem d_Mo_determinant_95 : decode b_Mo_determinant 95 = .ok (.getfield 97, 3) := by decide +kernel
theorem d_Mo_determinant_98 : decode b_Mo_determinant 98 = .ok (.bipush 8, 2) := by decide +kernel
theorem d_Mo_determinant_100 : decode b_Mo_determinant 100 = .ok (.iload 7, 2) := by decide +kernel
theorem d_Mo_determinant_102 : decode b_Mo_determinant 102 = .ok (.imul, 1) := by decide +kernel
theorem d_Mo_determinant_103 : decode b_Mo_determinant 103 = .ok (.iload 6, 2) := by decide +kernel
theorem d_Mo_determinant_105 : decode b_Mo_determinant 105 = .ok (.iadd, 1) := by decide +kernel
theorem d_Mo_determinant_106 : decode b_Mo_determinant 106 = .ok (.laload, 1) := by decide +kernel
theorem d_Mo_determinant_107 : decode b_Mo_determinant 107 = .ok (.lconst 0, 1) := by decide +kernel
theorem d_Mo_determinant_108 : decode b_Mo_determinant 108 = .ok (.lcmp, 1) := by decide +kernel
theorem d_Mo_determinant_109 : decode b_Mo_determinant 109 = .ok (.ifCond .ne 9, 3) := by decide +kernel
theorem d_Mo_determinant_112 : decode b_Mo_determinant 112 = .ok (.iinc 7 1, 3) := by decide +kernel
theorem d_Mo_determinant_115 : decode b_Mo_determinant 115 = .ok (.goto (-30), 3) := by decide +kernel
theorem d_Mo_determinant_118 : decode b_Mo_determinant 118 = .ok (.iload 7, 2) := by decide +kernel
theorem d_Mo_determinant_120 : decode b_Mo_determinant 120 = .ok (.aload_n 0, 1) := by decide +kernel
theorem d_Mo_determinant_121 : decode b_Mo_determinant 121 = .ok (.getfield 234, 3) := by decide +kernel
theorem d_Mo_determinant_124 : decode b_Mo_determinant 124 = .ok (.if_icmp .ne 5, 3) := by decide +kernel
theorem d_Mo_determinant_127 : decode b_Mo_determinant 127 = .ok (.lconst 0, 1) := by decide +kernel
theorem d_Mo_determinant_128 : decode b_Mo_determinant 128 = .ok (.lreturn, 1) := by decide +kernel
theorem d_Mo_determinant_129 : decode b_Mo_determinant 129 = .ok (.iload 7, 2) := by decide +kernel
theorem d_Mo_determinant_131 : decode b_Mo_determinant 131 = .ok (.iload 6, 2) := by decide +kernel
theorem d_Mo_determinant_133 : decode b_Mo_determinant 133 = .ok (.if_icmp .ne 8, 3) := by decide +kernel
theorem d_Mo_determinant_136 : decode b_Mo_determinant 136 = .ok (.lload 4, 2) := by decide +kernel
theorem d_Mo_determinant_138 : decode b_Mo_determinant 138 = .ok (.goto 6, 3) := by decide +kernel
theorem d_Mo_determinant_141 : decode b_Mo_determinant 141 = .ok (.lload 4, 2) := by decide +kernel
theorem d_Mo_determinant_143 : decode b_Mo_determinant 143 = .ok (.lneg, 1) := by decide +kernel
theorem d_Mo_determinant_144 : decode b_Mo_determinant 144 = .ok (.lstore 4, 2) := by decide +kernel
theorem d_Mo_determinant_146 : decode b_Mo_determinant 146 = .ok (.iconst 0, 1) := by decide +kernel
theorem d_Mo_determinant_147 : decode b_Mo_determinant 147 = .ok (.istore 8, 2) := by decide +kernel
theorem d_Mo_determinant_149 : decode b_Mo_determinant 149 = .ok (.iload 8, 2) := by decide +kernel
theorem d_Mo_determinant_151 : decode b_Mo_determinant 151 = .ok (.aload_n 0, 1) := by decide +kernel
theorem d_Mo_determinant_152 : decode b_Mo_determinant 152 = .ok (.getfield 234, 3) := by decide +kernel
theorem d_Mo_determinant_155 : decode b_Mo_determinant 155 = .ok (.if_icmp .ge 65, 3) := by decide +kernel
theorem d_Mo_determinant_158 : decode b_Mo_determinant 158 = .ok (.aload_n 0, 1) := by decide +kernel
theorem d_Mo_determinant_159 : decode b_Mo_determinant 159 = .ok (.getfield 97, 3) := by decide +kernel
theorem d_Mo_determinant_162 : decode b_Mo_determinant 162 = .ok (.bipush 8, 2) := by decide +kernel
theorem d_Mo_determinant_164 : decode b_Mo_determinant 164 = .ok (.iload 7, 2) := by decide +kernel
theorem d_Mo_determinant_166 : decode b_Mo_determinant 166 = .ok (.imul, 1) := by decide +kernel
theorem d_Mo_determinant_167 : decode b_Mo_determinant 167 = .ok (.iload 8, 2) := by decide +kernel
theorem d_Mo_determinant_169 : decode b_Mo_determinant 169 = .ok (.iadd, 1) := by decide +kernel
theorem d_Mo_determinant_170 : decode b_Mo_determinant 170 = .ok (.laload, 1) := by decide +kernel
theorem d_Mo_determinant_171 : decode b_Mo_determinant 171 = .ok (.lstore 9, 2) := by decide +kernel
theorem d_Mo_determinant_173 : decode b_Mo_determinant 173 = .ok (.aload_n 0, 1) := by decide +kernel
theorem d_Mo_determinant_174 : decode b_Mo_determinant 174 = .ok (.getfield 97, 3) := by decide +kernel
theorem d_Mo_determinant_177 : decode b_Mo_determinant 177 = .ok (.bipush 8, 2) := by decide +kernel
theorem d_Mo_determinant_179 : decode b_Mo_determinant 179 = .ok (.iload 7, 2) := by decide +kernel
theorem d_Mo_determinant_181 : decode b_Mo_determinant 181 = .ok (.imul, 1) := by decide +kernel
theorem d_Mo_determinant_182 : decode b_Mo_determinant 182 = .ok (.iload 8, 2) := by decide +kernel
theorem d_Mo_determinant_184 : decode b_Mo_determinant 184 = .ok (.iadd, 1) := by decide +kernel
theorem d_Mo_determinant_185 : decode b_Mo_determinant 185 = .ok (.aload_n 0, 1) := by decide +kernel
theorem d_Mo_determinant_186 : decode b_Mo_determinant 186 = .ok (.getfield 97, 3) := by decide +kernel
theorem d_Mo_determinant_189 : decode b_Mo_determinant 189 = .ok (.bipush 8, 2) := by decide +kernel
theorem d_Mo_determinant_191 : decode b_Mo_determinant 191 = .ok (.iload 6, 2) := by decide +kernel
theorem d_Mo_determinant_193 : decode b_Mo_determinant 193 = .ok (.imul, 1) := by decide +kernel
theorem d_Mo_determinant_194 : decode b_Mo_determinant 194 = .ok (.iload 8, 2) := by decide +kernel
theorem d_Mo_determinant_196 : decode b_Mo_determinant 196 = .ok (.iadd, 1) := by decide +kernel
theorem d_Mo_determinant_197 : decode b_Mo_determinant 197 = .ok (.laload, 1) := by decide +kernel
theorem d_Mo_determinant_198 : decode b_Mo_determinant 198 = .ok (.lastore, 1) := by decide +kernel
theorem d_Mo_determinant_199 : decode b_Mo_determinant 199 = .ok (.aload_n 0, 1) := by decide +kernel
theorem d_Mo_determinant_200 : decode b_Mo_determinant 200 = .ok (.getfield 97, 3) := by decide +kernel
theorem d_Mo_determinant_203 : decode b_Mo_determinant 203 = .ok (.bipush 8, 2) := by decide +kernel
theorem d_Mo_determinant_205 : decode b_Mo_determinant 205 = .ok (.iload 6, 2) := by decide +kernel
theorem d_Mo_determinant_207 : decode b_Mo_determinant 207 = .ok (.imul, 1) := by decide +kernel
theorem d_Mo_determinant_208 : decode b_Mo_determinant 208 = .ok (.iload 8, 2) := by decide +kernel
theorem d_Mo_determinant_210 : decode b_Mo_determinant 210 = .ok (.iadd, 1) := by decide +kernel
theorem d_Mo_determinant_211 : decode b_Mo_determinant 211 = .ok (.lload 9, 2) := by decide +kernel
theorem d_Mo_determinant_213 : decode b_Mo_determinant 213 = .ok (.lastore, 1) := by decide +kernel
theorem d_Mo_determinant_214 : decode b_Mo_determinant 214 = .ok (.iinc 8 1, 3) := by decide +kernel
theorem d_Mo_determinant_217 : decode b_Mo_determinant 217 = .ok (.goto (-68), 3) := by decide +kernel
theorem d_Mo_determinant_220 : decode b_Mo_determinant 220 = .ok (.iload 6, 2) := by decide +kernel
theorem d_Mo_determinant_222 : decode b_Mo_determinant 222 = .ok (.iconst 1, 1) := by decide +kernel
theorem d_Mo_determinant_223 : decode b_Mo_determinant 223 = .ok (.iadd, 1) := by decide +kernel
theorem d_Mo_determinant_224 : decode b_Mo_determinant 224 = .ok (.istore 8, 2) := by decide +kernel
theorem d_Mo_determinant_226 : decode b_Mo_determinant 226 = .ok (.iload 8, 2) := by decide +kernel
theorem d_Mo_determinant_228 : decode b_Mo_determinant 228 = .ok (.aload_n 0, 1) := by decide +kernel
theorem d_Mo_determinant_229 : decode b_Mo_determinant 229 = .ok (.getfield 234, 3) := by decide +kernel
theorem d_Mo_determinant_232 : decode b_Mo_determinant 232 = .ok (.if_icmp .ge 114, 3) := by decide +kernel
theorem d_Mo_determinant_235 : decode b_Mo_determinant 235 = .ok (.iload 6, 2) := by decide +kernel
theorem d_Mo_determinant_237 : decode b_Mo_determinant 237 = .ok (.iconst 1, 1) := by decide +kernel
theorem d_Mo_determinant_238 : decode b_Mo_determinant 238 = .ok (.iadd, 1) := by decide +kernel
theorem d_Mo_determinant_239 : decode b_Mo_determinant 239 = .ok (.istore 9, 2) := by decide +kernel
theorem d_Mo_determinant_241 : decode b_Mo_determinant 241 = .ok (.iload 9, 2) := by decide +kernel
theorem d_Mo_determinant_243 : decode b_Mo_determinant 243 = .ok (.aload_n 0, 1) := by decide +kernel
theorem d_Mo_determinant_244 : decode b_Mo_determinant 244 = .ok (.getfield 234, 3) := by decide +kernel
theorem d_Mo_determinant_247 : decode b_Mo_determinant 247 = .ok (.if_icmp .ge 79, 3) := by decide +kernel
theorem d_Mo_determinant_250 : decode b_Mo_determinant 250 = .ok (.aload_n 0, 1) := by decide +kernel
theorem d_Mo_determinant_251 : decode b_Mo_determinant 251 = .ok (.getfield 97, 3) := by decide +kernel
theorem d_Mo_determinant_254 : decode b_Mo_determinant 254 = .ok (.bipush 8, 2) := by decide +kernel
theorem d_Mo_determinant_256 : decode b_Mo_determinant 256 = .ok (.iload 8, 2) := by decide +kernel
theorem d_Mo_determinant_258 : decode b_Mo_determinant 258 = .ok (.imul, 1) := by decide +kernel
theorem d_Mo_determinant_259 : decode b_Mo_determinant 259 = .ok (.iload 9, 2) := by decide +kernel
theorem d_Mo_determinant_261 : decode b_Mo_determinant 261 = .ok (.iadd, 1) := by decide +kernel
theorem d_Mo_determinant_262 : decode b_Mo_determinant 262 = .ok (.aload_n 0, 1) := by decide +kernel
theorem d_Mo_determinant_263 : decode b_Mo_determinant 263 = .ok (.getfield 97, 3) := by decide +kernel
theorem d_Mo_determinant_266 : decode b_Mo_determinant 266 = .ok (.bipush 8, 2) := by decide +kernel
theorem d_Mo_determinant_268 : decode b_Mo_determinant 268 = .ok (.iload 6, 2) := by decide +kernel
theorem d_Mo_determinant_270 : decode b_Mo_determinant 270 = .ok (.imul, 1) := by decide +kernel
theorem d_Mo_determinant_271 : decode b_Mo_determinant 271 = .ok (.iload 6, 2) := by decide +kernel
theorem d_Mo_determinant_273 : decode b_Mo_determinant 273 = .ok (.iadd, 1) := by decide +kernel
theorem d_Mo_determinant_274 : decode b_Mo_determinant 274 = .ok (.laload, 1) := by decide +kernel
theorem d_Mo_determinant_275 : decode b_Mo_determinant 275 = .ok (.aload_n 0, 1) := by decide +kernel
theorem d_Mo_determinant_276 : decode b_Mo_determinant 276 = .ok (.getfield 97, 3) := by decide +kernel
theorem d_Mo_determinant_279 : decode b_Mo_determinant 279 = .ok (.bipush 8, 2) := by decide +kernel
theorem d_Mo_determinant_281 : decode b_Mo_determinant 281 = .ok (.iload 8, 2) := by decide +kernel
theorem d_Mo_determinant_283 : decode b_Mo_determinant 283 = .ok (.imul, 1) := by decide +kernel
theorem d_Mo_determinant_284 : decode b_Mo_determinant 284 = .ok (.iload 9, 2) := by decide +kernel
theorem d_Mo_determinant_286 : decode b_Mo_determinant 286 = .ok (.iadd, 1) := by decide +kernel
theorem d_Mo_determinant_287 : decode b_Mo_determinant 287 = .ok (.laload, 1) := by decide +kernel
theorem d_Mo_determinant_288 : decode b_Mo_determinant 288 = .ok (.lmul, 1) := by decide +kernel
theorem d_Mo_determinant_289 : decode b_Mo_determinant 289 = .ok (.aload_n 0, 1) := by decide +kernel
theorem d_Mo_determinant_290 : decode b_Mo_determinant 290 = .ok (.getfield 97, 3) := by decide +kernel
theorem d_Mo_determinant_293 : decode b_Mo_determinant 293 = .ok (.bipush 8, 2) := by decide +kernel
theorem d_Mo_determinant_295 : decode b_Mo_determinant 295 = .ok (.iload 8, 2) := by decide +kernel
theorem d_Mo_determinant_297 : decode b_Mo_determinant 297 = .ok (.imul, 1) := by decide +kernel
theorem d_Mo_determinant_298 : decode b_Mo_determinant 298 = .ok (.iload 6, 2) := by decide +kernel
theorem d_Mo_determinant_300 : decode b_Mo_determinant 300 = .ok (.iadd, 1) := by decide +kernel
theorem d_Mo_determinant_301 : decode b_Mo_determinant 301 = .ok (.laload, 1) := by decide +kernel
theorem d_Mo_determinant_302 : decode b_Mo_determinant 302 = .ok (.aload_n 0, 1) := by decide +kernel
theorem d_Mo_determinant_303 : decode b_Mo_determinant 303 = .ok (.getfield 97, 3) := by decide +kernel
theorem d_Mo_determinant_306 : decode b_Mo_determinant 306 = .ok (.bipush 8, 2) := by decide +kernel
theorem d_Mo_determinant_308 : decode b_Mo_determinant 308 = .ok (.iload 6, 2) := by decide +kernel
theorem d_Mo_determinant_310 : decode b_Mo_determinant 310 = .ok (.imul, 1) := by decide +kernel
theorem d_Mo_determinant_311 : decode b_Mo_determinant 311 = .ok (.iload 9, 2) := by decide +kernel
theorem d_Mo_determinant_313 : decode b_Mo_determinant 313 = .ok (.iadd, 1) := by decide +kernel
theorem d_Mo_determinant_314 : decode b_Mo_determinant 314 = .ok (.laload, 1) := by decide +kernel
theorem d_Mo_determinant_315 : decode b_Mo_determinant 315 = .ok (.lmul, 1) := by decide +kernel
theorem d_Mo_determinant_316 : decode b_Mo_determinant 316 = .ok (.lsub, 1) := by decide +kernel
theorem d_Mo_determinant_317 : decode b_Mo_determinant 317 = .ok (.lload_n 2, 1) := by decide +kernel
theorem d_Mo_determinant_318 : decode b_Mo_determinant 318 = .ok (.ldiv, 1) := by decide +kernel
theorem d_Mo_determinant_319 : decode b_Mo_determinant 319 = .ok (.lastore, 1) := by decide +kernel
theorem d_Mo_determinant_320 : decode b_Mo_determinant 320 = .ok (.iinc 9 1, 3) := by decide +kernel
theorem d_Mo_determinant_323 : decode b_Mo_determinant 323 = .ok (.goto (-82), 3) := by decide +kernel
theorem d_Mo_determinant_326 : decode b_Mo_determinant 326 = .ok (.aload_n 0, 1) := by decide +kernel
theorem d_Mo_determinant_327 : decode b_Mo_determinant 327 = .ok (.getfield 97, 3) := by decide +kernel
theorem d_Mo_determinant_330 : decode b_Mo_determinant 330 = .ok (.bipush 8, 2) := by decide +kernel
theorem d_Mo_determinant_332 : decode b_Mo_determinant 332 = .ok (.iload 8, 2) := by decide +kernel
theorem d_Mo_determinant_334 : decode b_Mo_determinant 334 = .ok (.imul, 1) := by decide +kernel
theorem d_Mo_determinant_335 : decode b_Mo_determinant 335 = .ok (.iload 6, 2) := by decide +kernel
theorem d_Mo_determinant_337 : decode b_Mo_determinant 337 = .ok (.iadd, 1) := by decide +kernel
theorem d_Mo_determinant_338 : decode b_Mo_determinant 338 = .ok (.lconst 0, 1) := by decide +kernel
theorem d_Mo_determinant_339 : decode b_Mo_determinant 339 = .ok (.lastore, 1) := by decide +kernel
theorem d_Mo_determinant_340 : decode b_Mo_determinant 340 = .ok (.iinc 8 1, 3) := by decide +kernel
theorem d_Mo_determinant_343 : decode b_Mo_determinant 343 = .ok (.goto (-117), 3) := by decide +kernel
theorem d_Mo_determinant_346 : decode b_Mo_determinant 346 = .ok (.aload_n 0, 1) := by decide +kernel
theorem d_Mo_determinant_347 : decode b_Mo_determinant 347 = .ok (.getfield 97, 3) := by decide +kernel
theorem d_Mo_determinant_350 : decode b_Mo_determinant 350 = .ok (.bipush 8, 2) := by decide +kernel
theorem d_Mo_determinant_352 : decode b_Mo_determinant 352 = .ok (.iload 6, 2) := by decide +kernel
theorem d_Mo_determinant_354 : decode b_Mo_determinant 354 = .ok (.imul, 1) := by decide +kernel
theorem d_Mo_determinant_355 : decode b_Mo_determinant 355 = .ok (.iload 6, 2) := by decide +kernel
theorem d_Mo_determinant_357 : decode b_Mo_determinant 357 = .ok (.iadd, 1) := by decide +kernel
theorem d_Mo_determinant_358 : decode b_Mo_determinant 358 = .ok (.laload, 1) := by decide +kernel
theorem d_Mo_determinant_359 : decode b_Mo_determinant 359 = .ok (.lstore_n 2, 1) := by decide +kernel
theorem d_Mo_determinant_360 : decode b_Mo_determinant 360 = .ok (.iinc 6 1, 3) := by decide +kernel
theorem d_Mo_determinant_363 : decode b_Mo_determinant 363 = .ok (.goto (-291), 3) := by decide +kernel
theorem d_Mo_determinant_366 : decode b_Mo_determinant 366 = .ok (.lload 4, 2) := by decide +kernel
theorem d_Mo_determinant_368 : decode b_Mo_determinant 368 = .ok (.lload_n 2, 1) := by decide +kernel
theorem d_Mo_determinant_369 : decode b_Mo_determinant 369 = .ok (.lmul, 1) := by decide +kernel
theorem d_Mo_determinant_370 : decode b_Mo_determinant 370 = .ok (.lreturn, 1) := by decide +kernel
theorem d_Mo_evaluate_0 : decode b_Mo_evaluate 0 = .ok (.aload_n 0, 1) := by decide +kernel
theorem d_Mo_evaluate_1 : decode b_Mo_evaluate 1 = .ok (.invokevirtual 237, 3) := by decide +kernel
theorem d_Mo_evaluate_4 : decode b_Mo_evaluate 4 = .ok (.aload_n 0, 1) := by decide +kernel
theorem d_Mo_evaluate_5 : decode b_Mo_evaluate 5 = .ok (.aload_n 0, 1) := by decide +kernel
theorem d_Mo_evaluate_6 : decode b_Mo_evaluate 6 = .ok (.iconst (-1), 1) := by decide +kernel
theorem d_Mo_evaluate_7 : decode b_Mo_evaluate 7 = .ok (.invokevirtual 240, 3) := by decide +kernel
theorem d_Mo_evaluate_10 : decode b_Mo_evaluate 10 = .ok (.putfield 244, 3) := by decide +kernel
theorem d_Mo_evaluate_13 : decode b_Mo_evaluate 13 = .ok (.aload_n 0, 1) := by decide +kernel
theorem d_Mo_evaluate_14 : decode b_Mo_evaluate 14 = .ok (.getfield 244, 3) := by decide +kernel
theorem d_Mo_evaluate_17 : decode b_Mo_evaluate 17 = .ok (.lconst 0, 1) := by decide +kernel
theorem d_Mo_evaluate_18 : decode b_Mo_evaluate 18 = .ok (.lcmp, 1) := by decide +kernel
theorem d_Mo_evaluate_19 : decode b_Mo_evaluate 19 = .ok (.ifCond .ge 9, 3) := by decide +kernel
theorem d_Mo_evaluate_22 : decode b_Mo_evaluate 22 = .ok (.ldc2_w 248, 3) := by decide +kernel
theorem d_Mo_evaluate_25 : decode b_Mo_evaluate 25 = .ok (.goto 4, 3) := by decide +kernel
theorem d_Mo_evaluate_28 : decode b_Mo_evaluate 28 = .ok (.lconst 1, 1) := by decide +kernel
theorem d_Mo_evaluate_29 : decode b_Mo_evaluate 29 = .ok (.lstore_n 1, 1) := by decide +kernel
theorem d_Mo_evaluate_30 : decode b_Mo_evaluate 30 = .ok (.aload_n 0, 1) := by decide +kernel
theorem d_Mo_evaluate_31 : decode b_Mo_evaluate 31 = .ok (.lload_n 1, 1) := by decide +kernel
theorem d_Mo_evaluate_32 : decode b_Mo_evaluate 32 = .ok (.aload_n 0, 1) := by decide +kernel
theorem d_Mo_evaluate_33 : decode b_Mo_evaluate 33 = .ok (.getfield 244, 3) := by decide +kernel
theorem d_Mo_evaluate_36 : decode b_Mo_evaluate 36 = .ok (.lmul, 1) := by decide +kernel
theorem d_Mo_evaluate_37 : decode b_Mo_evaluate 37 = .ok (.putfield 244, 3) := by decide +kernel
theorem d_Mo_evaluate_40 : decode b_Mo_evaluate 40 = .ok (.iconst 0, 1) := by decide +kernel
theorem d_Mo_evaluate_41 : decode b_Mo_evaluate 41 = .ok (.istore_n 3, 1) := by decide +kernel
theorem d_Mo_evaluate_42 : decode b_Mo_evaluate 42 = .ok (.iload_n 3, 1) := by decide +kernel
theorem d_Mo_evaluate_43 : decode b_Mo_evaluate 43 = .ok (.aload_n 0, 1) := by decide +kernel
theorem d_Mo_evaluate_44 : decode b_Mo_evaluate 44 = .ok (.getfield 198, 3) := by decide +kernel
theorem d_Mo_evaluate_47 : decode b_Mo_evaluate 47 = .ok (.if_icmp .ge 56, 3) := by decide +kernel
theorem d_Mo_evaluate_50 : decode b_Mo_evaluate 50 = .ok (.aload_n 0, 1) := by decide +kernel
theorem d_Mo_evaluate_51 : decode b_Mo_evaluate 51 = .ok (.getfield 100, 3) := by decide +kernel
theorem d_Mo_evaluate_54 : decode b_Mo_evaluate 54 = .ok (.iload_n 3, 1) := by decide +kernel
theorem d_Mo_evaluate_55 : decode b_Mo_evaluate 55 = .ok (.aload_n 0, 1) := by decide +kernel
theorem d_Mo_evaluate_56 : decode b_Mo_evaluate 56 = .ok (.getfield 90, 3) := by decide +kernel
theorem d_Mo_evaluate_59 : decode b_Mo_evaluate 59 = .ok (.iload_n 3, 1) := by decide +kernel
theorem d_Mo_evaluate_60 : decode b_Mo_evaluate 60 = .ok (.iaload, 1) := by decide +kernel
theorem d_Mo_evaluate_61 : decode b_Mo_evaluate 61 = .ok (.ifCond .lt 18, 3) := by decide +kernel
theorem d_Mo_evaluate_64 : decode b_Mo_evaluate 64 = .ok (.lload_n 1, 1) := by decide +kernel
theorem d_Mo_evaluate_65 : decode b_Mo_evaluate 65 = .ok (.aload_n 0, 1) := by decide +kernel
theorem d_Mo_evaluate_66 : decode b_Mo_evaluate 66 = .ok (.aload_n 0, 1) := by decide +kernel
theorem d_Mo_evaluate_67 : decode b_Mo_evaluate 67 = .ok (.getfield 90, 3) := by decide +kernel
theorem d_Mo_evaluate_70 : decode b_Mo_evaluate 70 = .ok (.iload_n 3, 1) := by decide +kernel
theorem d_Mo_evaluate_71 : decode b_Mo_evaluate 71 = .ok (.iaload, 1) := by decide +kernel
theorem d_Mo_evaluate_72 : decode b_Mo_evaluate 72 = .ok (.invokevirtual 240, 3) := by decide +kernel
theorem d_Mo_evaluate_75 : decode b_Mo_evaluate 75 = .ok (.lmul, 1) := by decide +kernel
theorem d_Mo_evaluate_76 : decode b_Mo_evaluate 76 = .ok (.goto 20, 3) := by decide +kernel
theorem d_Mo_evaluate_79 : decode b_Mo_evaluate 79 = .ok (.aload_n 0, 1) := by decide +kernel
theorem d_Mo_evaluate_80 : decode b_Mo_evaluate 80 = .ok (.getfield 63, 3) := by decide +kernel
theorem d_Mo_evaluate_83 : decode b_Mo_evaluate 83 = .ok (.iload_n 3, 1) := by decide +kernel
theorem d_Mo_evaluate_84 : decode b_Mo_evaluate 84 = .ok (.baload, 1) := by decide +kernel
theorem d_Mo_evaluate_85 : decode b_Mo_evaluate 85 = .ok (.ifCond .eq 10, 3) := by decide +kernel
theorem d_Mo_evaluate_88 : decode b_Mo_evaluate 88 = .ok (.aload_n 0, 1) := by decide +kernel
theorem d_Mo_evaluate_89 : decode b_Mo_evaluate 89 = .ok (.getfield 244, 3) := by decide +kernel
theorem d_Mo_evaluate_92 : decode b_Mo_evaluate 92 = .ok (.goto 4, 3) := by decide +kernel
theorem d_Mo_evaluate_95 : decode b_Mo_evaluate 95 = .ok (.lconst 0, 1) := by decide +kernel
theorem d_Mo_evaluate_96 : decode b_Mo_evaluate 96 = .ok (.lastore, 1) := by decide +kernel
theorem d_Mo_evaluate_97 : decode b_Mo_evaluate 97 = .ok (.iinc 3 1, 3) := by decide +kernel
theorem d_Mo_evaluate_100 : decode b_Mo_evaluate 100 = .ok (.goto (-58), 3) := by decide +kernel
theorem d_Mo_evaluate_103 : decode b_Mo_evaluate 103 = .ok (.return_, 1) := by decide +kernel
theorem d_Mo_worth_0 : decode b_Mo_worth 0 = .ok (.aload_n 0, 1) := by decide +kernel
theorem d_Mo_worth_1 : decode b_Mo_worth 1 = .ok (.getfield 69, 3) := by decide +kernel
theorem d_Mo_worth_4 : decode b_Mo_worth 4 = .ok (.bipush 10, 2) := by decide +kernel
theorem d_Mo_worth_6 : decode b_Mo_worth 6 = .ok (.iload_n 1, 1) := by decide +kernel
theorem d_Mo_worth_7 : decode b_Mo_worth 7 = .ok (.imul, 1) := by decide +kernel
theorem d_Mo_worth_8 : decode b_Mo_worth 8 = .ok (.iload_n 2, 1) := by decide +kernel
theorem d_Mo_worth_9 : decode b_Mo_worth 9 = .ok (.iadd, 1) := by decide +kernel
theorem d_Mo_worth_10 : decode b_Mo_worth 10 = .ok (.iaload, 1) := by decide +kernel
theorem d_Mo_worth_11 : decode b_Mo_worth 11 = .ok (.istore_n 3, 1) := by decide +kernel
theorem d_Mo_worth_12 : decode b_Mo_worth 12 = .ok (.lconst 0, 1) := by decide +kernel
theorem d_Mo_worth_13 : decode b_Mo_worth 13 = .ok (.lstore 4, 2) := by decide +kernel
theorem d_Mo_worth_15 : decode b_Mo_worth 15 = .ok (.iconst 0, 1) := by decide +kernel
theorem d_Mo_worth_16 : decode b_Mo_worth 16 = .ok (.istore 6, 2) := by decide +kernel
theorem d_Mo_worth_18 : decode b_Mo_worth 18 = .ok (.iload 6, 2) := by decide +kernel
theorem d_Mo_worth_20 : decode b_Mo_worth 20 = .ok (.aload_n 0, 1) := by decide +kernel
theorem d_Mo_worth_21 : decode b_Mo_worth 21 = .ok (.getfield 33, 3) := by decide +kernel
theorem d_Mo_worth_24 : decode b_Mo_worth 24 = .ok (.bipush 10, 2) := by decide +kernel
theorem d_Mo_worth_26 : decode b_Mo_worth 26 = .ok (.aload_n 0, 1) := by decide +kernel
theorem d_Mo_worth_27 : decode b_Mo_worth 27 = .ok (.getfield 17, 3) := by decide +kernel
theorem d_Mo_worth_30 : decode b_Mo_worth 30 = .ok (.imul, 1) := by decide +kernel
theorem d_Mo_worth_31 : decode b_Mo_worth 31 = .ok (.iload_n 3, 1) := by decide +kernel
theorem d_Mo_worth_32 : decode b_Mo_worth 32 = .ok (.iadd, 1) := by decide +kernel
theorem d_Mo_worth_33 : decode b_Mo_worth 33 = .ok (.iaload, 1) := by decide +kernel
theorem d_Mo_worth_34 : decode b_Mo_worth 34 = .ok (.if_icmp .ge 56, 3) := by decide +kernel
theorem d_Mo_worth_37 : decode b_Mo_worth 37 = .ok (.lload 4, 2) := by decide +kernel
theorem d_Mo_worth_39 : decode b_Mo_worth 39 = .ok (.aload_n 0, 1) := by decide +kernel
theorem d_Mo_worth_40 : decode b_Mo_worth 40 = .ok (.getfield 39, 3) := by decide +kernel
theorem d_Mo_worth_43 : decode b_Mo_worth 43 = .ok (.iconst 4, 1) := by decide +kernel
theorem d_Mo_worth_44 : decode b_Mo_worth 44 = .ok (.bipush 10, 2) := by decide +kernel
theorem d_Mo_worth_46 : decode b_Mo_worth 46 = .ok (.aload_n 0, 1) := by decide +kernel
theorem d_Mo_worth_47 : decode b_Mo_worth 47 = .ok (.getfield 17, 3) := by decide +kernel
theorem d_Mo_worth_50 : decode b_Mo_worth 50 = .ok (.imul, 1) := by decide +kernel
theorem d_Mo_worth_51 : decode b_Mo_worth 51 = .ok (.iload_n 3, 1) := by decide +kernel
theorem d_Mo_worth_52 : decode b_Mo_worth 52 = .ok (.iadd, 1) := by decide +kernel
theorem d_Mo_worth_53 : decode b_Mo_worth 53 = .ok (.imul, 1) := by decide +kernel
theorem d_Mo_worth_54 : decode b_Mo_worth 54 = .ok (.iload 6, 2) := by decide +kernel
theorem d_Mo_worth_56 : decode b_Mo_worth 56 = .ok (.iadd, 1) := by decide +kernel
theorem d_Mo_worth_57 : decode b_Mo_worth 57 = .ok (.iaload, 1) := by decide +kernel
theorem d_Mo_worth_58 : decode b_Mo_worth 58 = .ok (.i2l, 1) := by decide +kernel
theorem d_Mo_worth_59 : decode b_Mo_worth 59 = .ok (.aload_n 0, 1) := by decide +kernel
theorem d_Mo_worth_60 : decode b_Mo_worth 60 = .ok (.getfield 100, 3) := by decide +kernel
theorem d_Mo_worth_63 : decode b_Mo_worth 63 = .ok (.aload_n 0, 1) := by decide +kernel
theorem d_Mo_worth_64 : decode b_Mo_worth 64 = .ok (.getfield 75, 3) := by decide +kernel
theorem d_Mo_worth_67 : decode b_Mo_worth 67 = .ok (.bipush 40, 2) := by decide +kernel
theorem d_Mo_worth_69 : decode b_Mo_worth 69 = .ok (.iload_n 1, 1) := by decide +kernel
theorem d_Mo_worth_70 : decode b_Mo_worth 70 = .ok (.imul, 1) := by decide +kernel
theorem d_Mo_worth_71 : decode b_Mo_worth 71 = .ok (.iconst 4, 1) := by decide +kernel
theorem d_Mo_worth_72 : decode b_Mo_worth 72 = .ok (.iload_n 2, 1) := by decide +kernel
theorem d_Mo_worth_73 : decode b_Mo_worth 73 = .ok (.imul, 1) := by decide +kernel
theorem d_Mo_worth_74 : decode b_Mo_worth 74 = .ok (.iadd, 1) := by decide +kernel
theorem d_Mo_worth_75 : decode b_Mo_worth 75 = .ok (.iload 6, 2) := by decide +kernel
theorem d_Mo_worth_77 : decode b_Mo_worth 77 = .ok (.iadd, 1) := by decide +kernel
theorem d_Mo_worth_78 : decode b_Mo_worth 78 = .ok (.iaload, 1) := by decide +kernel
theorem d_Mo_worth_79 : decode b_Mo_worth 79 = .ok (.laload, 1) := by decide +kernel
theorem d_Mo_worth_80 : decode b_Mo_worth 80 = .ok (.lmul, 1) := by decide +kernel
theorem d_Mo_worth_81 : decode b_Mo_worth 81 = .ok (.ladd, 1) := by decide +kernel
theorem d_Mo_worth_82 : decode b_Mo_worth 82 = .ok (.lstore 4, 2) := by decide +kernel
theorem d_Mo_worth_84 : decode b_Mo_worth 84 = .ok (.iinc 6 1, 3) := by decide +kernel
theorem d_Mo_worth_87 : decode b_Mo_worth 87 = .ok (.goto (-69), 3) := by decide +kernel
theorem d_Mo_worth_90 : decode b_Mo_worth 90 = .ok (.lload 4, 2) := by decide +kernel
theorem d_Mo_worth_92 : decode b_Mo_worth 92 = .ok (.lreturn, 1) := by decide +kernel
theorem d_Mo_improve_0 : decode b_Mo_improve 0 = .ok (.iconst (-1), 1) := by decide +kernel
theorem d_Mo_improve_1 : decode b_Mo_improve 1 = .ok (.istore_n 2, 1) := by decide +kernel
theorem d_Mo_improve_2 : decode b_Mo_improve 2 = .ok (.aload_n 0, 1) := by decide +kernel
theorem d_Mo_improve_3 : decode b_Mo_improve 3 = .ok (.getfield 100, 3) := by decide +kernel
theorem d_Mo_improve_6 : decode b_Mo_improve 6 = .ok (.iload_n 1, 1) := by decide +kernel
theorem d_Mo_improve_7 : decode b_Mo_improve 7 = .ok (.laload, 1) := by decide +kernel
theorem d_Mo_improve_8 : decode b_Mo_improve 8 = .ok (.lstore_n 3, 1) := by decide +kernel
theorem d_Mo_improve_9 : decode b_Mo_improve 9 = .ok (.lconst 1, 1) := by decide +kernel
theorem d_Mo_improve_10 : decode b_Mo_improve 10 = .ok (.lstore 5, 2) := by decide +kernel
theorem d_Mo_improve_12 : decode b_Mo_improve 12 = .ok (.iconst 0, 1) := by decide +kernel
theorem d_Mo_improve_13 : decode b_Mo_improve 13 = .ok (.istore 7, 2) := by decide +kernel
theorem d_Mo_improve_15 : decode b_Mo_improve 15 = .ok (.iload 7, 2) := by decide +kernel
theorem d_Mo_improve_17 : decode b_Mo_improve 17 = .ok (.aload_n 0, 1) := by decide +kernel
theorem d_Mo_improve_18 : decode b_Mo_improve 18 = .ok (.getfield 72, 3) := by decide +kernel
theorem d_Mo_improve_21 : decode b_Mo_improve 21 = .ok (.iload_n 1, 1) := by decide +kernel
theorem d_Mo_improve_22 : decode b_Mo_improve 22 = .ok (.iaload, 1) := by decide +kernel
theorem d_Mo_improve_23 : decode b_Mo_improve 23 = .ok (.if_icmp .ge 164, 3) := by decide +kernel
theorem d_Mo_improve_26 : decode b_Mo_improve 26 = .ok (.aload_n 0, 1) := by decide +kernel
theorem d_Mo_improve_27 : decode b_Mo_improve 27 = .ok (.getfield 36, 3) := by decide +kernel
theorem d_Mo_improve_30 : decode b_Mo_improve 30 = .ok (.bipush 10, 2) := by decide +kernel
theorem d_Mo_improve_32 : decode b_Mo_improve 32 = .ok (.aload_n 0, 1) := by decide +kernel
theorem d_Mo_improve_33 : decode b_Mo_improve 33 = .ok (.getfield 17, 3) := by decide +kernel
theorem d_Mo_improve_36 : decode b_Mo_improve 36 = .ok (.imul, 1) := by decide +kernel
theorem d_Mo_improve_37 : decode b_Mo_improve 37 = .ok (.aload_n 0, 1) := by decide +kernel
theorem d_Mo_improve_38 : decode b_Mo_improve 38 = .ok (.getfield 69, 3) := by decide +kernel
theorem d_Mo_improve_41 : decode b_Mo_improve 41 = .ok (.bipush 10, 2) := by decide +kernel
theorem d_Mo_improve_43 : decode b_Mo_improve 43 = .ok (.iload_n 1, 1) := by decide +kernel
theorem d_Mo_improve_44 : decode b_Mo_improve 44 = .ok (.imul, 1) := by decide +kernel
theorem d_Mo_improve_45 : decode b_Mo_improve 45 = .ok (.iload 7, 2) := by decide +kernel
theorem d_Mo_improve_47 : decode b_Mo_improve 47 = .ok (.iadd, 1) := by decide +kernel
theorem d_Mo_improve_48 : decode b_Mo_improve 48 = .ok (.iaload, 1) := by decide +kernel
theorem d_Mo_improve_49 : decode b_Mo_improve 49 = .ok (.iadd, 1) := by decide +kernel
theorem d_Mo_improve_50 : decode b_Mo_improve 50 = .ok (.iaload, 1) := by decide +kernel
theorem d_Mo_improve_51 : decode b_Mo_improve 51 = .ok (.i2l, 1) := by decide +kernel
theorem d_Mo_improve_52 : decode b_Mo_improve 52 = .ok (.lstore 8, 2) := by decide +kernel
theorem d_Mo_improve_54 : decode b_Mo_improve 54 = .ok (.aload_n 0, 1) := by decide +kernel
theorem d_Mo_improve_55 : decode b_Mo_improve 55 = .ok (.getfield 81, 3) := by decide +kernel
theorem d_Mo_improve_58 : decode b_Mo_improve 58 = .ok (.iload_n 1, 1) := by decide +kernel
theorem d_Mo_improve_59 : decode b_Mo_improve 59 = .ok (.iaload, 1) := by decide +kernel
theorem d_Mo_improve_60 : decode b_Mo_improve 60 = .ok (.iload 7, 2) := by decide +kernel
theorem d_Mo_improve_62 : decode b_Mo_improve 62 = .ok (.invokestatic 228, 3) := by decide +kernel
theorem d_Mo_improve_65 : decode b_Mo_improve 65 = .ok (.ifCond .eq 13, 3) := by decide +kernel
theorem d_Mo_improve_68 : decode b_Mo_improve 68 = .ok (.aload_n 0, 1) := by decide +kernel
theorem d_Mo_improve_69 : decode b_Mo_improve 69 = .ok (.iload_n 1, 1) := by decide +kernel
theorem d_Mo_improve_70 : decode b_Mo_improve 70 = .ok (.iload 7, 2) := by decide +kernel
theorem d_Mo_improve_72 : decode b_Mo_improve 72 = .ok (.invokevirtual 250, 3) := by decide +kernel
theorem d_Mo_improve_75 : decode b_Mo_improve 75 = .ok (.goto 7, 3) := by decide +kernel
theorem d_Mo_improve_78 : decode b_Mo_improve 78 = .ok (.lload_n 3, 1) := by decide +kernel
theorem d_Mo_improve_79 : decode b_Mo_improve 79 = .ok (.lload 8, 2) := by decide +kernel
theorem d_Mo_improve_81 : decode b_Mo_improve 81 = .ok (.lmul, 1) := by decide +kernel
theorem d_Mo_improve_82 : decode b_Mo_improve 82 = .ok (.lstore 10, 2) := by decide +kernel
theorem d_Mo_improve_84 : decode b_Mo_improve 84 = .ok (.aload_n 0, 1) := by decide +kernel
theorem d_Mo_improve_85 : decode b_Mo_improve 85 = .ok (.getfield 81, 3) := by decide +kernel
theorem d_Mo_improve_88 : decode b_Mo_improve 88 = .ok (.iload_n 1, 1) := by decide +kernel
theorem d_Mo_improve_89 : decode b_Mo_improve 89 = .ok (.iaload, 1) := by decide +kernel
theorem d_Mo_improve_90 : decode b_Mo_improve 90 = .ok (.iload 7, 2) := by decide +kernel
theorem d_Mo_improve_92 : decode b_Mo_improve 92 = .ok (.invokestatic 228, 3) := by decide +kernel
theorem d_Mo_improve_95 : decode b_Mo_improve 95 = .ok (.ifCond .eq 45, 3) := by decide +kernel
theorem d_Mo_improve_98 : decode b_Mo_improve 98 = .ok (.aload_n 0, 1) := by decide +kernel
theorem d_Mo_improve_99 : decode b_Mo_improve 99 = .ok (.getfield 66, 3) := by decide +kernel
theorem d_Mo_improve_102 : decode b_Mo_improve 102 = .ok (.iload_n 1, 1) := by decide +kernel
theorem d_Mo_improve_103 : decode b_Mo_improve 103 = .ok (.baload, 1) := by decide +kernel
theorem d_Mo_improve_104 : decode b_Mo_improve 104 = .ok (.ifCond .eq 19, 3) := by decide +kernel
theorem d_Mo_improve_107 : decode b_Mo_improve 107 = .ok (.lload 10, 2) := by decide +kernel
theorem d_Mo_improve_109 : decode b_Mo_improve 109 = .ok (.lload 5, 2) := by decide +kernel
theorem d_Mo_improve_111 : decode b_Mo_improve 111 = .ok (.lmul, 1) := by decide +kernel
theorem d_Mo_improve_112 : decode b_Mo_improve 112 = .ok (.lload_n 3, 1) := by decide +kernel
theorem d_Mo_improve_113 : decode b_Mo_improve 113 = .ok (.lload 8, 2) := by decide +kernel
theorem d_Mo_improve_115 : decode b_Mo_improve 115 = .ok (.lmul, 1) := by decide +kernel
theorem d_Mo_improve_116 : decode b_Mo_improve 116 = .ok (.lcmp, 1) := by decide +kernel
theorem d_Mo_improve_117 : decode b_Mo_improve 117 = .ok (.ifCond .le 23, 3) := by decide +kernel
theorem d_Mo_improve_120 : decode b_Mo_improve 120 = .ok (.goto 16, 3) := by decide +kernel
theorem d_Mo_improve_123 : decode b_Mo_improve 123 = .ok (.lload 10, 2) := by decide +kernel
theorem d_Mo_improve_125 : decode b_Mo_improve 125 = .ok (.lload 5, 2) := by decide +kernel
theorem d_Mo_improve_127 : decode b_Mo_improve 127 = .ok (.lmul, 1) := by decide +kernel
theorem d_Mo_improve_128 : decode b_Mo_improve 128 = .ok (.lload_n 3, 1) := by decide +kernel
theorem d_Mo_improve_129 : decode b_Mo_improve 129 = .ok (.lload 8, 2) := by decide +kernel
theorem d_Mo_improve_131 : decode b_Mo_improve 131 = .ok (.lmul, 1) := by decide +kernel
theorem d_Mo_improve_132 : decode b_Mo_improve 132 = .ok (.lcmp, 1) := by decide +kernel
theorem d_Mo_improve_133 : decode b_Mo_improve 133 = .ok (.ifCond .ge 7, 3) := by decide +kernel
theorem d_Mo_improve_136 : decode b_Mo_improve 136 = .ok (.iconst 1, 1) := by decide +kernel
theorem d_Mo_improve_137 : decode b_Mo_improve 137 = .ok (.goto 4, 3) := by decide +kernel
theorem d_Mo_improve_140 : decode b_Mo_improve 140 = .ok (.iconst 0, 1) := by decide +kernel
theorem d_Mo_improve_141 : decode b_Mo_improve 141 = .ok (.istore 12, 2) := by decide +kernel
theorem d_Mo_improve_143 : decode b_Mo_improve 143 = .ok (.iload 12, 2) := by decide +kernel
theorem d_Mo_improve_145 : decode b_Mo_improve 145 = .ok (.ifCond .eq 8, 3) := by decide +kernel
theorem d_Mo_improve_148 : decode b_Mo_improve 148 = .ok (.iload 7, 2) := by decide +kernel
theorem d_Mo_improve_150 : decode b_Mo_improve 150 = .ok (.goto 4, 3) := by decide +kernel
theorem d_Mo_improve_153 : decode b_Mo_improve 153 = .ok (.iload_n 2, 1) := by decide +kernel
theorem d_Mo_improve_154 : decode b_Mo_improve 154 = .ok (.istore_n 2, 1) := by decide +kernel
theorem d_Mo_improve_155 : decode b_Mo_improve 155 = .ok (.iload 12, 2) := by decide +kernel
theorem d_Mo_improve_157 : decode b_Mo_improve 157 = .ok (.ifCond .eq 8, 3) := by decide +kernel
theorem d_Mo_improve_160 : decode b_Mo_improve 160 = .ok (.lload 10, 2) := by decide +kernel
theorem d_Mo_improve_162 : decode b_Mo_improve 162 = .ok (.goto 4, 3) := by decide +kernel
theorem d_Mo_improve_165 : decode b_Mo_improve 165 = .ok (.lload_n 3, 1) := by decide +kernel
theorem d_Mo_improve_166 : decode b_Mo_improve 166 = .ok (.lstore_n 3, 1) := by decide +kernel
theorem d_Mo_improve_167 : decode b_Mo_improve 167 = .ok (.iload 12, 2) := by decide +kernel
theorem d_Mo_improve_169 : decode b_Mo_improve 169 = .ok (.ifCond .eq 8, 3) := by decide +kernel
theorem d_Mo_improve_172 : decode b_Mo_improve 172 = .ok (.lload 8, 2) := by decide +kernel
theorem d_Mo_improve_174 : decode b_Mo_improve 174 = .ok (.goto 5, 3) := by decide +kernel
theorem d_Mo_improve_177 : decode b_Mo_improve 177 = .ok (.lload 5, 2) := by decide +kernel
theorem d_Mo_improve_179 : decode b_Mo_improve 179 = .ok (.lstore 5, 2) := by decide +kernel
theorem d_Mo_improve_181 : decode b_Mo_improve 181 = .ok (.iinc 7 1, 3) := by decide +kernel
theorem d_Mo_improve_184 : decode b_Mo_improve 184 = .ok (.goto (-169), 3) := by decide +kernel
theorem d_Mo_improve_187 : decode b_Mo_improve 187 = .ok (.aload_n 0, 1) := by decide +kernel
theorem d_Mo_improve_188 : decode b_Mo_improve 188 = .ok (.getfield 84, 3) := by decide +kernel
theorem d_Mo_improve_191 : decode b_Mo_improve 191 = .ok (.iload_n 1, 1) := by decide +kernel
theorem d_Mo_improve_192 : decode b_Mo_improve 192 = .ok (.iload_n 2, 1) := by decide +kernel
theorem d_Mo_improve_193 : decode b_Mo_improve 193 = .ok (.ifCond .ge 12, 3) := by decide +kernel
theorem d_Mo_improve_196 : decode b_Mo_improve 196 = .ok (.aload_n 0, 1) := by decide +kernel
theorem d_Mo_improve_197 : decode b_Mo_improve 197 = .ok (.getfield 84, 3) := by decide +kernel
theorem d_Mo_improve_200 : decode b_Mo_improve 200 = .ok (.iload_n 1, 1) := by decide +kernel
theorem d_Mo_improve_201 : decode b_Mo_improve 201 = .ok (.iaload, 1) := by decide +kernel
theorem d_Mo_improve_202 : decode b_Mo_improve 202 = .ok (.goto 4, 3) := by decide +kernel
theorem d_Mo_improve_205 : decode b_Mo_improve 205 = .ok (.iload_n 2, 1) := by decide +kernel
theorem d_Mo_improve_206 : decode b_Mo_improve 206 = .ok (.iastore, 1) := by decide +kernel
theorem d_Mo_improve_207 : decode b_Mo_improve 207 = .ok (.iload_n 2, 1) := by decide +kernel
theorem d_Mo_improve_208 : decode b_Mo_improve 208 = .ok (.ifCond .lt 7, 3) := by decide +kernel
theorem d_Mo_improve_211 : decode b_Mo_improve 211 = .ok (.iconst 1, 1) := by decide +kernel
theorem d_Mo_improve_212 : decode b_Mo_improve 212 = .ok (.goto 4, 3) := by decide +kernel
theorem d_Mo_improve_215 : decode b_Mo_improve 215 = .ok (.iconst 0, 1) := by decide +kernel
theorem d_Mo_improve_216 : decode b_Mo_improve 216 = .ok (.ireturn, 1) := by decide +kernel
theorem d_Mo_improveAll_0 : decode b_Mo_improveAll 0 = .ok (.iconst 0, 1) := by decide +kernel
theorem d_Mo_improveAll_1 : decode b_Mo_improveAll 1 = .ok (.istore_n 2, 1) := by decide +kernel
theorem d_Mo_improveAll_2 : decode b_Mo_improveAll 2 = .ok (.iconst 0, 1) := by decide +kernel
theorem d_Mo_improveAll_3 : decode b_Mo_improveAll 3 = .ok (.istore_n 3, 1) := by decide +kernel
theorem d_Mo_improveAll_4 : decode b_Mo_improveAll 4 = .ok (.iload_n 3, 1) := by decide +kernel
theorem d_Mo_improveAll_5 : decode b_Mo_improveAll 5 = .ok (.aload_n 0, 1) := by decide +kernel
theorem d_Mo_improveAll_6 : decode b_Mo_improveAll 6 = .ok (.getfield 198, 3) := by decide +kernel
theorem d_Mo_improveAll_9 : decode b_Mo_improveAll 9 = .ok (.if_icmp .ge 59, 3) := by decide +kernel
theorem d_Mo_improveAll_12 : decode b_Mo_improveAll 12 = .ok (.aload_n 0, 1) := by decide +kernel
theorem d_Mo_improveAll_13 : decode b_Mo_improveAll 13 = .ok (.getfield 72, 3) := by decide +kernel
theorem d_Mo_improveAll_16 : decode b_Mo_improveAll 16 = .ok (.iload_n 3, 1) := by decide +kernel
theorem d_Mo_improveAll_17 : decode b_Mo_improveAll 17 = .ok (.iaload, 1) := by decide +kernel
theorem d_Mo_improveAll_18 : decode b_Mo_improveAll 18 = .ok (.ifCond .le 44, 3) := by decide +kernel
theorem d_Mo_improveAll_21 : decode b_Mo_improveAll 21 = .ok (.aload_n 0, 1) := by decide +kernel
theorem d_Mo_improveAll_22 : decode b_Mo_improveAll 22 = .ok (.getfield 66, 3) := by decide +kernel
theorem d_Mo_improveAll_25 : decode b_Mo_improveAll 25 = .ok (.iload_n 3, 1) := by decide +kernel
theorem d_Mo_improveAll_26 : decode b_Mo_improveAll 26 = .ok (.baload, 1) := by decide +kernel
theorem d_Mo_improveAll_27 : decode b_Mo_improveAll 27 = .ok (.iload_n 1, 1) := by decide +kernel
theorem d_Mo_improveAll_28 : decode b_Mo_improveAll 28 = .ok (.if_icmp .ne 34, 3) := by decide +kernel
theorem d_Mo_improveAll_31 : decode b_Mo_improveAll 31 = .ok (.iload_n 1, 1) := by decide +kernel
theorem d_Mo_improveAll_32 : decode b_Mo_improveAll 32 = .ok (.ifCond .ne 12, 3) := by decide +kernel
theorem d_Mo_improveAll_35 : decode b_Mo_improveAll 35 = .ok (.aload_n 0, 1) := by decide +kernel
theorem d_Mo_improveAll_36 : decode b_Mo_improveAll 36 = .ok (.getfield 87, 3) := by decide +kernel
theorem d_Mo_improveAll_39 : decode b_Mo_improveAll 39 = .ok (.iload_n 3, 1) := by decide +kernel
theorem d_Mo_improveAll_40 : decode b_Mo_improveAll 40 = .ok (.baload, 1) := by decide +kernel
theorem d_Mo_improveAll_41 : decode b_Mo_improveAll 41 = .ok (.ifCond .ne 21, 3) := by decide +kernel
theorem d_Mo_improveAll_44 : decode b_Mo_improveAll 44 = .ok (.aload_n 0, 1) := by decide +kernel
theorem d_Mo_improveAll_45 : decode b_Mo_improveAll 45 = .ok (.iload_n 3, 1) := by decide +kernel
theorem d_Mo_improveAll_46 : decode b_Mo_improveAll 46 = .ok (.invokevirtual 254, 3) := by decide +kernel
theorem d_Mo_improveAll_49 : decode b_Mo_improveAll 49 = .ok (.ifCond .ne 7, 3) := by decide +kernel
theorem d_Mo_improveAll_52 : decode b_Mo_improveAll 52 = .ok (.iload_n 2, 1) := by decide +kernel
theorem d_Mo_improveAll_53 : decode b_Mo_improveAll 53 = .ok (.ifCond .eq 7, 3) := by decide +kernel
theorem d_Mo_improveAll_56 : decode b_Mo_improveAll 56 = .ok (.iconst 1, 1) := by decide +kernel
theorem d_Mo_improveAll_57 : decode b_Mo_improveAll 57 = .ok (.goto 4, 3) := by decide +kernel
theorem d_Mo_improveAll_60 : decode b_Mo_improveAll 60 = .ok (.iconst 0, 1) := by decide +kernel
theorem d_Mo_improveAll_61 : decode b_Mo_improveAll 61 = .ok (.istore_n 2, 1) := by decide +kernel
theorem d_Mo_improveAll_62 : decode b_Mo_improveAll 62 = .ok (.iinc 3 1, 3) := by decide +kernel
theorem d_Mo_improveAll_65 : decode b_Mo_improveAll 65 = .ok (.goto (-61), 3) := by decide +kernel
theorem d_Mo_improveAll_68 : decode b_Mo_improveAll 68 = .ok (.iload_n 2, 1) := by decide +kernel
theorem d_Mo_improveAll_69 : decode b_Mo_improveAll 69 = .ok (.ireturn, 1) := by decide +kernel
theorem d_Mo_solveGame_0 : decode b_Mo_solveGame 0 = .ok (.iconst 0, 1) := by decide +kernel
theorem d_Mo_solveGame_1 : decode b_Mo_solveGame 1 = .ok (.istore_n 1, 1) := by decide +kernel
theorem d_Mo_solveGame_2 : decode b_Mo_solveGame 2 = .ok (.iload_n 1, 1) := by decide +kernel
theorem d_Mo_solveGame_3 : decode b_Mo_solveGame 3 = .ok (.aload_n 0, 1) := by decide +kernel
theorem d_Mo_solveGame_4 : decode b_Mo_solveGame 4 = .ok (.getfield 198, 3) := by decide +kernel
theorem d_Mo_solveGame_7 : decode b_Mo_solveGame 7 = .ok (.if_icmp .ge 62, 3) := by decide +kernel
theorem d_Mo_solveGame_10 : decode b_Mo_solveGame 10 = .ok (.aload_n 0, 1) := by decide +kernel
theorem d_Mo_solveGame_11 : decode b_Mo_solveGame 11 = .ok (.getfield 84, 3) := by decide +kernel
theorem d_Mo_solveGame_14 : decode b_Mo_solveGame 14 = .ok (.iload_n 1, 1) := by decide +kernel
theorem d_Mo_solveGame_15 : decode b_Mo_solveGame 15 = .ok (.iconst 0, 1) := by decide +kernel
theorem d_Mo_solveGame_16 : decode b_Mo_solveGame 16 = .ok (.iastore, 1) := by decide +kernel
theorem d_Mo_solveGame_17 : decode b_Mo_solveGame 17 = .ok (.aload_n 0, 1) := by decide +kernel
theorem d_Mo_solveGame_18 : decode b_Mo_solveGame 18 = .ok (.getfield 84, 3) := by decide +kernel
theorem d_Mo_solveGame_21 : decode b_Mo_solveGame 21 = .ok (.iload_n 1, 1) := by decide +kernel
theorem d_Mo_solveGame_22 : decode b_Mo_solveGame 22 = .ok (.iaload, 1) := by decide +kernel
theorem d_Mo_solveGame_23 : decode b_Mo_solveGame 23 = .ok (.aload_n 0, 1) := by decide +kernel
theorem d_Mo_solveGame_24 : decode b_Mo_solveGame 24 = .ok (.getfield 72, 3) := by decide +kernel
theorem d_Mo_solveGame_27 : decode b_Mo_solveGame 27 = .ok (.iload_n 1, 1) := by decide +kernel
theorem d_Mo_solveGame_28 : decode b_Mo_solveGame 28 = .ok (.iaload, 1) := by decide +kernel
theorem d_Mo_solveGame_29 : decode b_Mo_solveGame 29 = .ok (.if_icmp .ge 34, 3) := by decide +kernel
theorem d_Mo_solveGame_32 : decode b_Mo_solveGame 32 = .ok (.aload_n 0, 1) := by decide +kernel
theorem d_Mo_solveGame_33 : decode b_Mo_solveGame 33 = .ok (.getfield 81, 3) := by decide +kernel
theorem d_Mo_solveGame_36 : decode b_Mo_solveGame 36 = .ok (.iload_n 1, 1) := by decide +kernel
theorem d_Mo_solveGame_37 : decode b_Mo_solveGame 37 = .ok (.iaload, 1) := by decide +kernel
theorem d_Mo_solveGame_38 : decode b_Mo_solveGame 38 = .ok (.aload_n 0, 1) := by decide +kernel
theorem d_Mo_solveGame_39 : decode b_Mo_solveGame 39 = .ok (.getfield 84, 3) := by decide +kernel
theorem d_Mo_solveGame_42 : decode b_Mo_solveGame 42 = .ok (.iload_n 1, 1) := by decide +kernel
theorem d_Mo_solveGame_43 : decode b_Mo_solveGame 43 = .ok (.iaload, 1) := by decide +kernel
theorem d_Mo_solveGame_44 : decode b_Mo_solveGame 44 = .ok (.invokestatic 228, 3) := by decide +kernel
theorem d_Mo_solveGame_47 : decode b_Mo_solveGame 47 = .ok (.ifCond .ne 16, 3) := by decide +kernel
theorem d_Mo_solveGame_50 : decode b_Mo_solveGame 50 = .ok (.aload_n 0, 1) := by decide +kernel
theorem d_Mo_solveGame_51 : decode b_Mo_solveGame 51 = .ok (.getfield 84, 3) := by decide +kernel
theorem d_Mo_solveGame_54 : decode b_Mo_solveGame 54 = .ok (.iload_n 1, 1) := by decide +kernel
theorem d_Mo_solveGame_55 : decode b_Mo_solveGame 55 = .ok (.dup2, 1) := by decide +kernel
theorem d_Mo_solveGame_56 : decode b_Mo_solveGame 56 = .ok (.iaload, 1) := by decide +kernel
theorem d_Mo_solveGame_57 : decode b_Mo_solveGame 57 = .ok (.iconst 1, 1) := by decide +kernel
theorem d_Mo_solveGame_58 : decode b_Mo_solveGame 58 = .ok (.iadd, 1) := by decide +kernel
theorem d_Mo_solveGame_59 : decode b_Mo_solveGame 59 = .ok (.iastore, 1) := by decide +kernel
theorem d_Mo_solveGame_60 : decode b_Mo_solveGame 60 = .ok (.goto (-43), 3) := by decide +kernel
theorem d_Mo_solveGame_63 : decode b_Mo_solveGame 63 = .ok (.iinc 1 1, 3) := by decide +kernel
theorem d_Mo_solveGame_66 : decode b_Mo_solveGame 66 = .ok (.goto (-64), 3) := by decide +kernel
theorem d_Mo_solveGame_69 : decode b_Mo_solveGame 69 = .ok (.iconst 1, 1) := by decide +kernel
theorem d_Mo_solveGame_70 : decode b_Mo_solveGame 70 = .ok (.istore_n 1, 1) := by decide +kernel
theorem d_Mo_solveGame_71 : decode b_Mo_solveGame 71 = .ok (.iload_n 1, 1) := by decide +kernel
theorem d_Mo_solveGame_72 : decode b_Mo_solveGame 72 = .ok (.ifCond .eq 35, 3) := by decide +kernel
theorem d_Mo_solveGame_75 : decode b_Mo_solveGame 75 = .ok (.aload_n 0, 1) := by decide +kernel
theorem d_Mo_solveGame_76 : decode b_Mo_solveGame 76 = .ok (.invokevirtual 257, 3) := by decide +kernel
theorem d_Mo_solveGame_79 : decode b_Mo_solveGame 79 = .ok (.iconst 1, 1) := by decide +kernel
theorem d_Mo_solveGame_80 : decode b_Mo_solveGame 80 = .ok (.istore_n 2, 1) := by decide +kernel
theorem d_Mo_solveGame_81 : decode b_Mo_solveGame 81 = .ok (.iload_n 2, 1) := by decide +kernel
theorem d_Mo_solveGame_82 : decode b_Mo_solveGame 82 = .ok (.ifCond .eq 16, 3) := by decide +kernel
theorem d_Mo_solveGame_85 : decode b_Mo_solveGame 85 = .ok (.aload_n 0, 1) := by decide +kernel
theorem d_Mo_solveGame_86 : decode b_Mo_solveGame 86 = .ok (.invokevirtual 260, 3) := by decide +kernel
theorem d_Mo_solveGame_89 : decode b_Mo_solveGame 89 = .ok (.aload_n 0, 1) := by decide +kernel
theorem d_Mo_solveGame_90 : decode b_Mo_solveGame 90 = .ok (.iconst 0, 1) := by decide +kernel
theorem d_Mo_solveGame_91 : decode b_Mo_solveGame 91 = .ok (.invokevirtual 263, 3) := by decide +kernel
theorem d_Mo_solveGame_94 : decode b_Mo_solveGame 94 = .ok (.istore_n 2, 1) := by decide +kernel
theorem d_Mo_solveGame_95 : decode b_Mo_solveGame 95 = .ok (.goto (-14), 3) := by decide +kernel
theorem d_Mo_solveGame_98 : decode b_Mo_solveGame 98 = .ok (.aload_n 0, 1) := by decide +kernel
theorem d_Mo_solveGame_99 : decode b_Mo_solveGame 99 = .ok (.iconst 1, 1) := by decide +kernel
theorem d_Mo_solveGame_100 : decode b_Mo_solveGame 100 = .ok (.invokevirtual 263, 3) := by decide +kernel
theorem d_Mo_solveGame_103 : decode b_Mo_solveGame 103 = .ok (.istore_n 1, 1) := by decide +kernel
theorem d_Mo_solveGame_104 : decode b_Mo_solveGame 104 = .ok (.goto (-33), 3) := by decide +kernel
theorem d_Mo_solveGame_107 : decode b_Mo_solveGame 107 = .ok (.return_, 1) := by decide +kernel
theorem d_Mo_divisor_0 : decode b_Mo_divisor 0 = .ok (.lload_n 0, 1) := by decide +kernel
theorem d_Mo_divisor_1 : decode b_Mo_divisor 1 = .ok (.lstore 4, 2) := by decide +kernel
theorem d_Mo_divisor_3 : decode b_Mo_divisor 3 = .ok (.lload_n 2, 1) := by decide +kernel
theorem d_Mo_divisor_4 : decode b_Mo_divisor 4 = .ok (.lstore 6, 2) := by decide +kernel
theorem d_Mo_divisor_6 : decode b_Mo_divisor 6 = .ok (.lload 6, 2) := by decide +kernel
theorem d_Mo_divisor_8 : decode b_Mo_divisor 8 = .ok (.lconst 0, 1) := by decide +kernel
theorem d_Mo_divisor_9 : decode b_Mo_divisor 9 = .ok (.lcmp, 1) := by decide +kernel
theorem d_Mo_divisor_10 : decode b_Mo_divisor 10 = .ok (.ifCond .eq 21, 3) := by decide +kernel
theorem d_Mo_divisor_13 : decode b_Mo_divisor 13 = .ok (.lload 4, 2) := by decide +kernel
theorem d_Mo_divisor_15 : decode b_Mo_divisor 15 = .ok (.lload 6, 2) := by decide +kernel
theorem d_Mo_divisor_17 : decode b_Mo_divisor 17 = .ok (.lrem, 1) := by decide +kernel
