theorem dX11_heats_44 : decode cX11_heats 44 = .ok (.imul, 1) := by decide +kernel
theorem dX11_heats_45 : decode cX11_heats 45 = .ok (.sipush 5000, 3) := by decide +kernel
theorem dX11_heats_48 : decode cX11_heats 48 = .ok (.idiv, 1) := by decide +kernel
theorem dX11_heats_49 : decode cX11_heats 49 = .ok (.istore 4, 2) := by decide +kernel
theorem dX11_heats_51 : decode cX11_heats 51 = .ok (.aload_n 3, 1) := by decide +kernel
theorem dX11_heats_52 : decode cX11_heats 52 = .ok (.getfield 192, 3) := by decide +kernel
theorem dX11_heats_55 : decode cX11_heats 55 = .ok (.bipush 100, 2) := by decide +kernel
theorem dX11_heats_57 : decode cX11_heats 57 = .ok (.if_icmp .ne 7, 3) := by decide +kernel
theorem dX11_heats_60 : decode cX11_heats 60 = .ok (.iconst 0, 1) := by decide +kernel
theorem dX11_heats_61 : decode cX11_heats 61 = .ok (.goto 21, 3) := by decide +kernel
theorem dX11_heats_64 : decode cX11_heats 64 = .ok (.aload_n 3, 1) := by decide +kernel
theorem dX11_heats_65 : decode cX11_heats 65 = .ok (.getfield 192, 3) := by decide +kernel
theorem dX11_heats_68 : decode cX11_heats 68 = .ok (.bipush 108, 2) := by decide +kernel
theorem dX11_heats_70 : decode cX11_heats 70 = .ok (.if_icmp .ne 10, 3) := by decide +kernel
theorem dX11_heats_73 : decode cX11_heats 73 = .ok (.iload 4, 2) := by decide +kernel
theorem dX11_heats_75 : decode cX11_heats 75 = .ok (.iconst 2, 1) := by decide +kernel
theorem dX11_heats_76 : decode cX11_heats 76 = .ok (.idiv, 1) := by decide +kernel
theorem dX11_heats_77 : decode cX11_heats 77 = .ok (.goto 5, 3) := by decide +kernel
theorem dX11_heats_80 : decode cX11_heats 80 = .ok (.iload 4, 2) := by decide +kernel
theorem dX11_heats_82 : decode cX11_heats 82 = .ok (.istore 5, 2) := by decide +kernel
theorem dX11_heats_84 : decode cX11_heats 84 = .ok (.aload_n 3, 1) := by decide +kernel
theorem dX11_heats_85 : decode cX11_heats 85 = .ok (.getfield 192, 3) := by decide +kernel
theorem dX11_heats_88 : decode cX11_heats 88 = .ok (.bipush 97, 2) := by decide +kernel
theorem dX11_heats_90 : decode cX11_heats 90 = .ok (.if_icmp .ne 38, 3) := by decide +kernel
theorem dX11_heats_93 : decode cX11_heats 93 = .ok (.iload 5, 2) := by decide +kernel
theorem dX11_heats_95 : decode cX11_heats 95 = .ok (.aload_n 3, 1) := by decide +kernel
theorem dX11_heats_96 : decode cX11_heats 96 = .ok (.getfield 173, 3) := by decide +kernel
theorem dX11_heats_99 : decode cX11_heats 99 = .ok (.aload_n 0, 1) := by decide +kernel
theorem dX11_heats_100 : decode cX11_heats 100 = .ok (.getfield 19, 3) := by decide +kernel
theorem dX11_heats_103 : decode cX11_heats 103 = .ok (.aload_n 3, 1) := by decide +kernel
theorem dX11_heats_104 : decode cX11_heats 104 = .ok (.getfield 231, 3) := by decide +kernel
theorem dX11_heats_107 : decode cX11_heats 107 = .ok (.iaload, 1) := by decide +kernel
theorem dX11_heats_108 : decode cX11_heats 108 = .ok (.imul, 1) := by decide +kernel
theorem dX11_heats_109 : decode cX11_heats 109 = .ok (.aload_n 3, 1) := by decide +kernel
theorem dX11_heats_110 : decode cX11_heats 110 = .ok (.getfield 166, 3) := by decide +kernel
theorem dX11_heats_113 : decode cX11_heats 113 = .ok (.ifCond .eq 8, 3) := by decide +kernel
theorem dX11_heats_116 : decode cX11_heats 116 = .ok (.bipush 50, 2) := by decide +kernel
theorem dX11_heats_118 : decode cX11_heats 118 = .ok (.goto 6, 3) := by decide +kernel
theorem dX11_heats_121 : decode cX11_heats 121 = .ok (.sipush 200, 3) := by decide +kernel
theorem dX11_heats_124 : decode cX11_heats 124 = .ok (.idiv, 1) := by decide +kernel
theorem dX11_heats_125 : decode cX11_heats 125 = .ok (.iadd, 1) := by decide +kernel
theorem dX11_heats_126 : decode cX11_heats 126 = .ok (.istore 5, 2) := by decide +kernel
theorem dX11_heats_128 : decode cX11_heats 128 = .ok (.aload_n 3, 1) := by decide +kernel
theorem dX11_heats_129 : decode cX11_heats 129 = .ok (.dup, 1) := by decide +kernel
theorem dX11_heats_130 : decode cX11_heats 130 = .ok (.getfield 243, 3) := by decide +kernel
theorem dX11_heats_133 : decode cX11_heats 133 = .ok (.iload 5, 2) := by decide +kernel
theorem dX11_heats_135 : decode cX11_heats 135 = .ok (.iadd, 1) := by decide +kernel
theorem dX11_heats_136 : decode cX11_heats 136 = .ok (.putfield 243, 3) := by decide +kernel
theorem dX11_heats_139 : decode cX11_heats 139 = .ok (.iload_n 1, 1) := by decide +kernel
theorem dX11_heats_140 : decode cX11_heats 140 = .ok (.iload 5, 2) := by decide +kernel
theorem dX11_heats_142 : decode cX11_heats 142 = .ok (.iadd, 1) := by decide +kernel
theorem dX11_heats_143 : decode cX11_heats 143 = .ok (.istore_n 1, 1) := by decide +kernel
theorem dX11_heats_144 : decode cX11_heats 144 = .ok (.iinc 2 1, 3) := by decide +kernel
theorem dX11_heats_147 : decode cX11_heats 147 = .ok (.goto (-143), 3) := by decide +kernel
theorem dX11_heats_150 : decode cX11_heats 150 = .ok (.aload_n 0, 1) := by decide +kernel
theorem dX11_heats_151 : decode cX11_heats 151 = .ok (.getfield 10, 3) := by decide +kernel
theorem dX11_heats_154 : decode cX11_heats 154 = .ok (.invokeinterface 56 1, 5) := by decide +kernel
theorem dX11_heats_159 : decode cX11_heats 159 = .ok (.astore_n 2, 1) := by decide +kernel
theorem dX11_heats_160 : decode cX11_heats 160 = .ok (.aload_n 2, 1) := by decide +kernel
theorem dX11_heats_161 : decode cX11_heats 161 = .ok (.invokeinterface 60 1, 5) := by decide +kernel
theorem dX11_heats_166 : decode cX11_heats 166 = .ok (.ifCond .eq 53, 3) := by decide +kernel
theorem dX11_heats_169 : decode cX11_heats 169 = .ok (.aload_n 2, 1) := by decide +kernel
theorem dX11_heats_170 : decode cX11_heats 170 = .ok (.invokeinterface 66 1, 5) := by decide +kernel
theorem dX11_heats_175 : decode cX11_heats 175 = .ok (.checkcast 82, 3) := by decide +kernel
theorem dX11_heats_178 : decode cX11_heats 178 = .ok (.astore_n 3, 1) := by decide +kernel
theorem dX11_heats_179 : decode cX11_heats 179 = .ok (.aload_n 3, 1) := by decide +kernel
theorem dX11_heats_180 : decode cX11_heats 180 = .ok (.invokevirtual 133, 3) := by decide +kernel
theorem dX11_heats_183 : decode cX11_heats 183 = .ok (.aload_n 0, 1) := by decide +kernel
theorem dX11_heats_184 : decode cX11_heats 184 = .ok (.getfield 26, 3) := by decide +kernel
theorem dX11_heats_187 : decode cX11_heats 187 = .ok (.sipush 200, 3) := by decide +kernel
theorem dX11_heats_190 : decode cX11_heats 190 = .ok (.idiv, 1) := by decide +kernel
theorem dX11_heats_191 : decode cX11_heats 191 = .ok (.isub, 1) := by decide +kernel
theorem dX11_heats_192 : decode cX11_heats 192 = .ok (.istore 4, 2) := by decide +kernel
theorem dX11_heats_194 : decode cX11_heats 194 = .ok (.aload_n 3, 1) := by decide +kernel
theorem dX11_heats_195 : decode cX11_heats 195 = .ok (.dup, 1) := by decide +kernel
theorem dX11_heats_196 : decode cX11_heats 196 = .ok (.getfield 243, 3) := by decide +kernel
theorem dX11_heats_199 : decode cX11_heats 199 = .ok (.iload 4, 2) := by decide +kernel
theorem dX11_heats_201 : decode cX11_heats 201 = .ok (.isub, 1) := by decide +kernel
theorem dX11_heats_202 : decode cX11_heats 202 = .ok (.putfield 243, 3) := by decide +kernel
theorem dX11_heats_205 : decode cX11_heats 205 = .ok (.aload_n 0, 1) := by decide +kernel
theorem dX11_heats_206 : decode cX11_heats 206 = .ok (.dup, 1) := by decide +kernel
theorem dX11_heats_207 : decode cX11_heats 207 = .ok (.getfield 26, 3) := by decide +kernel
theorem dX11_heats_210 : decode cX11_heats 210 = .ok (.iload 4, 2) := by decide +kernel
theorem dX11_heats_212 : decode cX11_heats 212 = .ok (.iadd, 1) := by decide +kernel
theorem dX11_heats_213 : decode cX11_heats 213 = .ok (.putfield 26, 3) := by decide +kernel
theorem dX11_heats_216 : decode cX11_heats 216 = .ok (.goto (-56), 3) := by decide +kernel
theorem dX11_heats_219 : decode cX11_heats 219 = .ok (.aload_n 0, 1) := by decide +kernel
theorem dX11_heats_220 : decode cX11_heats 220 = .ok (.getfield 26, 3) := by decide +kernel
theorem dX11_heats_223 : decode cX11_heats 223 = .ok (.sipush 200, 3) := by decide +kernel
theorem dX11_heats_226 : decode cX11_heats 226 = .ok (.idiv, 1) := by decide +kernel
theorem dX11_heats_227 : decode cX11_heats 227 = .ok (.bipush 20, 2) := by decide +kernel
theorem dX11_heats_229 : decode cX11_heats 229 = .ok (.isub, 1) := by decide +kernel
theorem dX11_heats_230 : decode cX11_heats 230 = .ok (.iconst 1, 1) := by decide +kernel
theorem dX11_heats_231 : decode cX11_heats 231 = .ok (.aload_n 0, 1) := by decide +kernel
theorem dX11_heats_232 : decode cX11_heats 232 = .ok (.getfield 246, 3) := by decide +kernel
theorem dX11_heats_235 : decode cX11_heats 235 = .ok (.iadd, 1) := by decide +kernel
theorem dX11_heats_236 : decode cX11_heats 236 = .ok (.imul, 1) := by decide +kernel
theorem dX11_heats_237 : decode cX11_heats 237 = .ok (.iconst 2, 1) := by decide +kernel
theorem dX11_heats_238 : decode cX11_heats 238 = .ok (.idiv, 1) := by decide +kernel
theorem dX11_heats_239 : decode cX11_heats 239 = .ok (.istore_n 2, 1) := by decide +kernel
theorem dX11_heats_240 : decode cX11_heats 240 = .ok (.aload_n 0, 1) := by decide +kernel
theorem dX11_heats_241 : decode cX11_heats 241 = .ok (.dup, 1) := by decide +kernel
theorem dX11_heats_242 : decode cX11_heats 242 = .ok (.getfield 26, 3) := by decide +kernel
theorem dX11_heats_245 : decode cX11_heats 245 = .ok (.iload_n 2, 1) := by decide +kernel
theorem dX11_heats_246 : decode cX11_heats 246 = .ok (.isub, 1) := by decide +kernel
theorem dX11_heats_247 : decode cX11_heats 247 = .ok (.putfield 26, 3) := by decide +kernel
theorem dX11_heats_250 : decode cX11_heats 250 = .ok (.aload_n 0, 1) := by decide +kernel
theorem dX11_heats_251 : decode cX11_heats 251 = .ok (.getfield 26, 3) := by decide +kernel
theorem dX11_heats_254 : decode cX11_heats 254 = .ok (.sipush 200, 3) := by decide +kernel
theorem dX11_heats_257 : decode cX11_heats 257 = .ok (.idiv, 1) := by decide +kernel
theorem dX11_heats_258 : decode cX11_heats 258 = .ok (.istore_n 3, 1) := by decide +kernel
theorem dX11_heats_259 : decode cX11_heats 259 = .ok (.aload_n 0, 1) := by decide +kernel
theorem dX11_heats_260 : decode cX11_heats 260 = .ok (.getfield 249, 3) := by decide +kernel
theorem dX11_heats_263 : decode cX11_heats 263 = .ok (.ifCond .eq 11, 3) := by decide +kernel
theorem dX11_heats_266 : decode cX11_heats 266 = .ok (.aload_n 0, 1) := by decide +kernel
theorem dX11_heats_267 : decode cX11_heats 267 = .ok (.iconst 0, 1) := by decide +kernel
theorem dX11_heats_268 : decode cX11_heats 268 = .ok (.putfield 246, 3) := by decide +kernel
theorem dX11_heats_271 : decode cX11_heats 271 = .ok (.goto 69, 3) := by decide +kernel
theorem dX11_heats_274 : decode cX11_heats 274 = .ok (.aload_n 0, 1) := by decide +kernel
theorem dX11_heats_275 : decode cX11_heats 275 = .ok (.getfield 246, 3) := by decide +kernel
theorem dX11_heats_278 : decode cX11_heats 278 = .ok (.iconst 3, 1) := by decide +kernel
theorem dX11_heats_279 : decode cX11_heats 279 = .ok (.if_icmp .ge 30, 3) := by decide +kernel
theorem dX11_heats_282 : decode cX11_heats 282 = .ok (.iload_n 3, 1) := by decide +kernel
theorem dX11_heats_283 : decode cX11_heats 283 = .ok (.bipush 40, 2) := by decide +kernel
theorem dX11_heats_285 : decode cX11_heats 285 = .ok (.bipush 10, 2) := by decide +kernel
theorem dX11_heats_287 : decode cX11_heats 287 = .ok (.aload_n 0, 1) := by decide +kernel
theorem dX11_heats_288 : decode cX11_heats 288 = .ok (.getfield 246, 3) := by decide +kernel
theorem dX11_heats_291 : decode cX11_heats 291 = .ok (.imul, 1) := by decide +kernel
theorem dX11_heats_292 : decode cX11_heats 292 = .ok (.iadd, 1) := by decide +kernel
theorem dX11_heats_293 : decode cX11_heats 293 = .ok (.if_icmp .lt 16, 3) := by decide +kernel
theorem dX11_heats_296 : decode cX11_heats 296 = .ok (.aload_n 0, 1) := by decide +kernel
theorem dX11_heats_297 : decode cX11_heats 297 = .ok (.dup, 1) := by decide +kernel
theorem dX11_heats_298 : decode cX11_heats 298 = .ok (.getfield 246, 3) := by decide +kernel
theorem dX11_heats_301 : decode cX11_heats 301 = .ok (.iconst 1, 1) := by decide +kernel
theorem dX11_heats_302 : decode cX11_heats 302 = .ok (.iadd, 1) := by decide +kernel
theorem dX11_heats_303 : decode cX11_heats 303 = .ok (.putfield 246, 3) := by decide +kernel
theorem dX11_heats_306 : decode cX11_heats 306 = .ok (.goto 34, 3) := by decide +kernel
theorem dX11_heats_309 : decode cX11_heats 309 = .ok (.aload_n 0, 1) := by decide +kernel
theorem dX11_heats_310 : decode cX11_heats 310 = .ok (.getfield 246, 3) := by decide +kernel
theorem dX11_heats_313 : decode cX11_heats 313 = .ok (.ifCond .le 27, 3) := by decide +kernel
theorem dX11_heats_316 : decode cX11_heats 316 = .ok (.iload_n 3, 1) := by decide +kernel
theorem dX11_heats_317 : decode cX11_heats 317 = .ok (.bipush 25, 2) := by decide +kernel
theorem dX11_heats_319 : decode cX11_heats 319 = .ok (.bipush 10, 2) := by decide +kernel
theorem dX11_heats_321 : decode cX11_heats 321 = .ok (.aload_n 0, 1) := by decide +kernel
theorem dX11_heats_322 : decode cX11_heats 322 = .ok (.getfield 246, 3) := by decide +kernel
theorem dX11_heats_325 : decode cX11_heats 325 = .ok (.imul, 1) := by decide +kernel
theorem dX11_heats_326 : decode cX11_heats 326 = .ok (.iadd, 1) := by decide +kernel
theorem dX11_heats_327 : decode cX11_heats 327 = .ok (.if_icmp .ge 13, 3) := by decide +kernel
theorem dX11_heats_330 : decode cX11_heats 330 = .ok (.aload_n 0, 1) := by decide +kernel
theorem dX11_heats_331 : decode cX11_heats 331 = .ok (.dup, 1) := by decide +kernel
theorem dX11_heats_332 : decode cX11_heats 332 = .ok (.getfield 246, 3) := by decide +kernel
theorem dX11_heats_335 : decode cX11_heats 335 = .ok (.iconst 1, 1) := by decide +kernel
theorem dX11_heats_336 : decode cX11_heats 336 = .ok (.isub, 1) := by decide +kernel
theorem dX11_heats_337 : decode cX11_heats 337 = .ok (.putfield 246, 3) := by decide +kernel
theorem dX11_heats_340 : decode cX11_heats 340 = .ok (.aload_n 0, 1) := by decide +kernel
theorem dX11_heats_341 : decode cX11_heats 341 = .ok (.dup, 1) := by decide +kernel
theorem dX11_heats_342 : decode cX11_heats 342 = .ok (.getfield 252, 3) := by decide +kernel
theorem dX11_heats_345 : decode cX11_heats 345 = .ok (.iload_n 2, 1) := by decide +kernel
theorem dX11_heats_346 : decode cX11_heats 346 = .ok (.iconst 5, 1) := by decide +kernel
theorem dX11_heats_347 : decode cX11_heats 347 = .ok (.aload_n 0, 1) := by decide +kernel
theorem dX11_heats_348 : decode cX11_heats 348 = .ok (.getfield 246, 3) := by decide +kernel
theorem dX11_heats_351 : decode cX11_heats 351 = .ok (.imul, 1) := by decide +kernel
theorem dX11_heats_352 : decode cX11_heats 352 = .ok (.iadd, 1) := by decide +kernel
theorem dX11_heats_353 : decode cX11_heats 353 = .ok (.i2l, 1) := by decide +kernel
theorem dX11_heats_354 : decode cX11_heats 354 = .ok (.ladd, 1) := by decide +kernel
theorem dX11_heats_355 : decode cX11_heats 355 = .ok (.putfield 252, 3) := by decide +kernel
theorem dX11_heats_358 : decode cX11_heats 358 = .ok (.aload_n 0, 1) := by decide +kernel
theorem dX11_heats_359 : decode cX11_heats 359 = .ok (.iload_n 1, 1) := by decide +kernel
theorem dX11_heats_360 : decode cX11_heats 360 = .ok (.iconst 5, 1) := by decide +kernel
theorem dX11_heats_361 : decode cX11_heats 361 = .ok (.aload_n 0, 1) := by decide +kernel
theorem dX11_heats_362 : decode cX11_heats 362 = .ok (.getfield 246, 3) := by decide +kernel
theorem dX11_heats_365 : decode cX11_heats 365 = .ok (.imul, 1) := by decide +kernel
theorem dX11_heats_366 : decode cX11_heats 366 = .ok (.iadd, 1) := by decide +kernel
theorem dX11_heats_367 : decode cX11_heats 367 = .ok (.putfield 256, 3) := by decide +kernel
theorem dX11_heats_370 : decode cX11_heats 370 = .ok (.aload_n 0, 1) := by decide +kernel
theorem dX11_heats_371 : decode cX11_heats 371 = .ok (.invokevirtual 259, 3) := by decide +kernel
theorem dX11_heats_374 : decode cX11_heats 374 = .ok (.return_, 1) := by decide +kernel
theorem dX11_supplies_0 : decode cX11_supplies 0 = .ok (.aload_n 0, 1) := by decide +kernel
theorem dX11_supplies_1 : decode cX11_supplies 1 = .ok (.getfield 30, 3) := by decide +kernel
theorem dX11_supplies_4 : decode cX11_supplies 4 = .ok (.aload_n 0, 1) := by decide +kernel
theorem dX11_supplies_5 : decode cX11_supplies 5 = .ok (.getfield 256, 3) := by decide +kernel
theorem dX11_supplies_8 : decode cX11_supplies 8 = .ok (.invokestatic 186, 3) := by decide +kernel
theorem dX11_supplies_11 : decode cX11_supplies 11 = .ok (.istore_n 1, 1) := by decide +kernel
theorem dX11_supplies_12 : decode cX11_supplies 12 = .ok (.aload_n 0, 1) := by decide +kernel
theorem dX11_supplies_13 : decode cX11_supplies 13 = .ok (.getfield 33, 3) := by decide +kernel
theorem dX11_supplies_16 : decode cX11_supplies 16 = .ok (.aload_n 0, 1) := by decide +kernel
theorem dX11_supplies_17 : decode cX11_supplies 17 = .ok (.getfield 256, 3) := by decide +kernel
theorem dX11_supplies_20 : decode cX11_supplies 20 = .ok (.iload_n 1, 1) := by decide +kernel
theorem dX11_supplies_21 : decode cX11_supplies 21 = .ok (.isub, 1) := by decide +kernel
theorem dX11_supplies_22 : decode cX11_supplies 22 = .ok (.invokestatic 186, 3) := by decide +kernel
theorem dX11_supplies_25 : decode cX11_supplies 25 = .ok (.istore_n 2, 1) := by decide +kernel
theorem dX11_supplies_26 : decode cX11_supplies 26 = .ok (.aload_n 0, 1) := by decide +kernel
theorem dX11_supplies_27 : decode cX11_supplies 27 = .ok (.aload_n 0, 1) := by decide +kernel
theorem dX11_supplies_28 : decode cX11_supplies 28 = .ok (.getfield 256, 3) := by decide +kernel
theorem dX11_supplies_31 : decode cX11_supplies 31 = .ok (.iload_n 1, 1) := by decide +kernel
theorem dX11_supplies_32 : decode cX11_supplies 32 = .ok (.isub, 1) := by decide +kernel
theorem dX11_supplies_33 : decode cX11_supplies 33 = .ok (.iload_n 2, 1) := by decide +kernel
theorem dX11_supplies_34 : decode cX11_supplies 34 = .ok (.isub, 1) := by decide +kernel
theorem dX11_supplies_35 : decode cX11_supplies 35 = .ok (.putfield 211, 3) := by decide +kernel
theorem dX11_supplies_38 : decode cX11_supplies 38 = .ok (.aload_n 0, 1) := by decide +kernel
theorem dX11_supplies_39 : decode cX11_supplies 39 = .ok (.dup, 1) := by decide +kernel
theorem dX11_supplies_40 : decode cX11_supplies 40 = .ok (.getfield 33, 3) := by decide +kernel
theorem dX11_supplies_43 : decode cX11_supplies 43 = .ok (.iload_n 2, 1) := by decide +kernel
theorem dX11_supplies_44 : decode cX11_supplies 44 = .ok (.isub, 1) := by decide +kernel
theorem dX11_supplies_45 : decode cX11_supplies 45 = .ok (.putfield 33, 3) := by decide +kernel
theorem dX11_supplies_48 : decode cX11_supplies 48 = .ok (.bipush 30, 2) := by decide +kernel
theorem dX11_supplies_50 : decode cX11_supplies 50 = .ok (.aload_n 0, 1) := by decide +kernel
theorem dX11_supplies_51 : decode cX11_supplies 51 = .ok (.getfield 30, 3) := by decide +kernel
theorem dX11_supplies_54 : decode cX11_supplies 54 = .ok (.iload_n 1, 1) := by decide +kernel
theorem dX11_supplies_55 : decode cX11_supplies 55 = .ok (.isub, 1) := by decide +kernel
theorem dX11_supplies_56 : decode cX11_supplies 56 = .ok (.sipush 5000, 3) := by decide +kernel
theorem dX11_supplies_59 : decode cX11_supplies 59 = .ok (.aload_n 0, 1) := by decide +kernel
theorem dX11_supplies_60 : decode cX11_supplies 60 = .ok (.getfield 33, 3) := by decide +kernel
theorem dX11_supplies_63 : decode cX11_supplies 63 = .ok (.isub, 1) := by decide +kernel
theorem dX11_supplies_64 : decode cX11_supplies 64 = .ok (.invokestatic 186, 3) := by decide +kernel
theorem dX11_supplies_67 : decode cX11_supplies 67 = .ok (.invokestatic 186, 3) := by decide +kernel
theorem dX11_supplies_70 : decode cX11_supplies 70 = .ok (.istore_n 3, 1) := by decide +kernel
theorem dX11_supplies_71 : decode cX11_supplies 71 = .ok (.aload_n 0, 1) := by decide +kernel
theorem dX11_supplies_72 : decode cX11_supplies 72 = .ok (.dup, 1) := by decide +kernel
theorem dX11_supplies_73 : decode cX11_supplies 73 = .ok (.getfield 33, 3) := by decide +kernel
theorem dX11_supplies_76 : decode cX11_supplies 76 = .ok (.iload_n 3, 1) := by decide +kernel
theorem dX11_supplies_77 : decode cX11_supplies 77 = .ok (.iadd, 1) := by decide +kernel
theorem dX11_supplies_78 : decode cX11_supplies 78 = .ok (.putfield 33, 3) := by decide +kernel
theorem dX11_supplies_81 : decode cX11_supplies 81 = .ok (.aload_n 0, 1) := by decide +kernel
theorem dX11_supplies_82 : decode cX11_supplies 82 = .ok (.dup, 1) := by decide +kernel
theorem dX11_supplies_83 : decode cX11_supplies 83 = .ok (.getfield 262, 3) := by decide +kernel
theorem dX11_supplies_86 : decode cX11_supplies 86 = .ok (.iload_n 1, 1) := by decide +kernel
theorem dX11_supplies_87 : decode cX11_supplies 87 = .ok (.iload_n 3, 1) := by decide +kernel
theorem dX11_supplies_88 : decode cX11_supplies 88 = .ok (.iadd, 1) := by decide +kernel
theorem dX11_supplies_89 : decode cX11_supplies 89 = .ok (.i2l, 1) := by decide +kernel
theorem dX11_supplies_90 : decode cX11_supplies 90 = .ok (.ladd, 1) := by decide +kernel
theorem dX11_supplies_91 : decode cX11_supplies 91 = .ok (.putfield 262, 3) := by decide +kernel
theorem dX11_supplies_94 : decode cX11_supplies 94 = .ok (.aload_n 0, 1) := by decide +kernel
theorem dX11_supplies_95 : decode cX11_supplies 95 = .ok (.dup, 1) := by decide +kernel
theorem dX11_supplies_96 : decode cX11_supplies 96 = .ok (.getfield 265, 3) := by decide +kernel
theorem dX11_supplies_99 : decode cX11_supplies 99 = .ok (.iload_n 2, 1) := by decide +kernel
theorem dX11_supplies_100 : decode cX11_supplies 100 = .ok (.iload_n 3, 1) := by decide +kernel
theorem dX11_supplies_101 : decode cX11_supplies 101 = .ok (.isub, 1) := by decide +kernel
theorem dX11_supplies_102 : decode cX11_supplies 102 = .ok (.i2l, 1) := by decide +kernel
theorem dX11_supplies_103 : decode cX11_supplies 103 = .ok (.ladd, 1) := by decide +kernel
theorem dX11_supplies_104 : decode cX11_supplies 104 = .ok (.putfield 265, 3) := by decide +kernel
theorem dX11_supplies_107 : decode cX11_supplies 107 = .ok (.aload_n 0, 1) := by decide +kernel
theorem dX11_supplies_108 : decode cX11_supplies 108 = .ok (.dup, 1) := by decide +kernel
theorem dX11_supplies_109 : decode cX11_supplies 109 = .ok (.getfield 268, 3) := by decide +kernel
theorem dX11_supplies_112 : decode cX11_supplies 112 = .ok (.aload_n 0, 1) := by decide +kernel
theorem dX11_supplies_113 : decode cX11_supplies 113 = .ok (.getfield 211, 3) := by decide +kernel
theorem dX11_supplies_116 : decode cX11_supplies 116 = .ok (.i2l, 1) := by decide +kernel
theorem dX11_supplies_117 : decode cX11_supplies 117 = .ok (.ladd, 1) := by decide +kernel
theorem dX11_supplies_118 : decode cX11_supplies 118 = .ok (.putfield 268, 3) := by decide +kernel
theorem dX11_supplies_121 : decode cX11_supplies 121 = .ok (.aload_n 0, 1) := by decide +kernel
theorem dX11_supplies_122 : decode cX11_supplies 122 = .ok (.dup, 1) := by decide +kernel
theorem dX11_supplies_123 : decode cX11_supplies 123 = .ok (.getfield 271, 3) := by decide +kernel
theorem dX11_supplies_126 : decode cX11_supplies 126 = .ok (.aload_n 0, 1) := by decide +kernel
theorem dX11_supplies_127 : decode cX11_supplies 127 = .ok (.getfield 256, 3) := by decide +kernel
theorem dX11_supplies_130 : decode cX11_supplies 130 = .ok (.i2l, 1) := by decide +kernel
theorem dX11_supplies_131 : decode cX11_supplies 131 = .ok (.ladd, 1) := by decide +kernel
theorem dX11_supplies_132 : decode cX11_supplies 132 = .ok (.putfield 271, 3) := by decide +kernel
theorem dX11_supplies_135 : decode cX11_supplies 135 = .ok (.aload_n 0, 1) := by decide +kernel
theorem dX11_supplies_136 : decode cX11_supplies 136 = .ok (.iconst 0, 1) := by decide +kernel
theorem dX11_supplies_137 : decode cX11_supplies 137 = .ok (.sipush 600, 3) := by decide +kernel
theorem dX11_supplies_140 : decode cX11_supplies 140 = .ok (.aload_n 0, 1) := by decide +kernel
theorem dX11_supplies_141 : decode cX11_supplies 141 = .ok (.getfield 36, 3) := by decide +kernel
theorem dX11_supplies_144 : decode cX11_supplies 144 = .ok (.bipush 60, 2) := by decide +kernel
theorem dX11_supplies_146 : decode cX11_supplies 146 = .ok (.iadd, 1) := by decide +kernel
theorem dX11_supplies_147 : decode cX11_supplies 147 = .ok (.aload_n 0, 1) := by decide +kernel
theorem dX11_supplies_148 : decode cX11_supplies 148 = .ok (.getfield 256, 3) := by decide +kernel
theorem dX11_supplies_151 : decode cX11_supplies 151 = .ok (.isub, 1) := by decide +kernel
theorem dX11_supplies_152 : decode cX11_supplies 152 = .ok (.invokestatic 186, 3) := by decide +kernel
theorem dX11_supplies_155 : decode cX11_supplies 155 = .ok (.invokestatic 189, 3) := by decide +kernel
theorem dX11_supplies_158 : decode cX11_supplies 158 = .ok (.putfield 36, 3) := by decide +kernel
theorem dX11_supplies_161 : decode cX11_supplies 161 = .ok (.return_, 1) := by decide +kernel
set_option maxRecDepth 20000 in
theorem ggX11_speed_X11_isCore : GoodIn wsX11_speed wsX11_isCore := goodIn_r _ [7, 1, 8, 9, 10, 11, 12, 13, 14, 15, 6, 16, 39, 40, 41, 42, 43, 44, 45, 46, 47, 48, 49, 50, 51, 52, 53, 54, 55, 56, 57, 58, 59, 60, 61, 62, 63, 64, 65, 85, 86, 87] (by decide +kernel) (by decide +kernel)
set_option maxRecDepth 20000 in
theorem gX11_speed_X11_isCore : GoodIn wsX11_speed (wsV RX11 91 RX11 yX11_isCore wsX11_isCore) := goodIn_app (goodIn_of _ (by decide +kernel)) ggX11_speed_X11_isCore
set_option maxRecDepth 20000 in
theorem ggX11_speed_X11_fails : GoodIn wsX11_speed wsX11_fails := goodIn_r _ [20, 21, 39, 40, 41, 42, 43, 44, 45, 46, 47, 48, 49, 50, 51, 52, 53, 54, 55, 56, 57, 58, 59, 60, 61, 62, 63, 64, 65] (by decide +kernel) (by decide +kernel)
set_option maxRecDepth 20000 in
theorem gX11_speed_X11_fails : GoodIn wsX11_speed (wsV RX11 78 RX11 yX11_fails wsX11_fails) := goodIn_app (goodIn_of _ (by decide +kernel)) ggX11_speed_X11_fails
set_option maxRecDepth 20000 in
theorem ggX11_speed_Jx4a65c_get_915e3 : GoodIn wsX11_speed wsJx4a65c_get_915e3 := goodIn_r _ [25, 13, 26, 27, 28, 29, 30, 31, 32, 33, 34, 35, 36, 11, 37, 38, 85, 86, 87] (by decide +kernel) (by decide +kernel)
set_option maxRecDepth 20000 in
theorem gX11_speed_Jx4a65c_get_915e3_f101Jx4a65c : GoodIn wsX11_speed (va_wsF RX11 101 RJx4a65c ⟨"java/util/List", "get", "(I)Ljava/lang/Object;"⟩ yJx4a65c_get_915e3 wsJx4a65c_get_915e3) := goodIn_app (goodIn_of _ (by decide +kernel)) ggX11_speed_Jx4a65c_get_915e3
theorem dX11_speed_0 : decode cX11_speed 0 = .ok (.aload_n 0, 1) := by decide +kernel
theorem dX11_speed_1 : decode cX11_speed 1 = .ok (.aload_n 0, 1) := by decide +kernel
theorem dX11_speed_2 : decode cX11_speed 2 = .ok (.iload_n 1, 1) := by decide +kernel
theorem dX11_speed_3 : decode cX11_speed 3 = .ok (.invokevirtual 91, 3) := by decide +kernel
theorem dX11_speed_6 : decode cX11_speed 6 = .ok (.ifCond .eq 7, 3) := by decide +kernel
theorem dX11_speed_9 : decode cX11_speed 9 = .ok (.iconst 0, 1) := by decide +kernel
theorem dX11_speed_10 : decode cX11_speed 10 = .ok (.goto 4, 3) := by decide +kernel
theorem dX11_speed_13 : decode cX11_speed 13 = .ok (.iconst 1, 1) := by decide +kernel
theorem dX11_speed_14 : decode cX11_speed 14 = .ok (.invokevirtual 78, 3) := by decide +kernel
theorem dX11_speed_17 : decode cX11_speed 17 = .ok (.ifCond .eq 7, 3) := by decide +kernel
theorem dX11_speed_20 : decode cX11_speed 20 = .ok (.iconst 0, 1) := by decide +kernel
theorem dX11_speed_21 : decode cX11_speed 21 = .ok (.goto 19, 3) := by decide +kernel
theorem dX11_speed_24 : decode cX11_speed 24 = .ok (.aload_n 0, 1) := by decide +kernel
theorem dX11_speed_25 : decode cX11_speed 25 = .ok (.getfield 10, 3) := by decide +kernel
theorem dX11_speed_28 : decode cX11_speed 28 = .ok (.iload_n 1, 1) := by decide +kernel
theorem dX11_speed_29 : decode cX11_speed 29 = .ok (.invokeinterface 101 2, 5) := by decide +kernel
theorem dX11_speed_34 : decode cX11_speed 34 = .ok (.checkcast 82, 3) := by decide +kernel
theorem dX11_speed_37 : decode cX11_speed 37 = .ok (.getfield 173, 3) := by decide +kernel
theorem dX11_speed_40 : decode cX11_speed 40 = .ok (.ireturn, 1) := by decide +kernel
set_option maxRecDepth 20000 in
theorem ggX11_wanted_X11_isCore : GoodIn wsX11_wanted wsX11_isCore := goodIn_r _ [7, 1, 8, 9, 10, 11, 12, 13, 14, 15, 6, 16, 39, 40, 41, 42, 43, 44, 45, 46, 47, 48, 49, 50, 51, 52, 53, 54, 55, 56, 57, 58, 59, 60, 61, 62, 63, 64, 65, 85, 86, 87] (by decide +kernel) (by decide +kernel)
set_option maxRecDepth 20000 in
theorem gX11_wanted_X11_isCore : GoodIn wsX11_wanted (wsV RX11 91 RX11 yX11_isCore wsX11_isCore) := goodIn_app (goodIn_of _ (by decide +kernel)) ggX11_wanted_X11_isCore
set_option maxRecDepth 20000 in
theorem ggX11_wanted_X11_fails : GoodIn wsX11_wanted wsX11_fails := goodIn_r _ [20, 21, 39, 40, 41, 42, 43, 44, 45, 46, 47, 48, 49, 50, 51, 52, 53, 54, 55, 56, 57, 58, 59, 60, 61, 62, 63, 64, 65] (by decide +kernel) (by decide +kernel)
set_option maxRecDepth 20000 in
theorem gX11_wanted_X11_fails : GoodIn wsX11_wanted (wsV RX11 78 RX11 yX11_fails wsX11_fails) := goodIn_app (goodIn_of _ (by decide +kernel)) ggX11_wanted_X11_fails
set_option maxRecDepth 20000 in
theorem ggX11_wanted_Jx4a65c_get_915e3 : GoodIn wsX11_wanted wsJx4a65c_get_915e3 := goodIn_r _ [25, 13, 26, 27, 28, 29, 30, 31, 32, 33, 34, 35, 36, 11, 37, 38, 85, 86, 87] (by decide +kernel) (by decide +kernel)
set_option maxRecDepth 20000 in
theorem gX11_wanted_Jx4a65c_get_915e3_f101Jx4a65c : GoodIn wsX11_wanted (va_wsF RX11 101 RJx4a65c ⟨"java/util/List", "get", "(I)Ljava/lang/Object;"⟩ yJx4a65c_get_915e3 wsJx4a65c_get_915e3) := goodIn_app (goodIn_of _ (by decide +kernel)) ggX11_wanted_Jx4a65c_get_915e3
theorem dX11_wanted_0 : decode cX11_wanted 0 = .ok (.aload_n 0, 1) := by decide +kernel
theorem dX11_wanted_1 : decode cX11_wanted 1 = .ok (.aload_n 0, 1) := by decide +kernel
theorem dX11_wanted_2 : decode cX11_wanted 2 = .ok (.iload_n 1, 1) := by decide +kernel
theorem dX11_wanted_3 : decode cX11_wanted 3 = .ok (.invokevirtual 91, 3) := by decide +kernel
theorem dX11_wanted_6 : decode cX11_wanted 6 = .ok (.ifCond .eq 7, 3) := by decide +kernel
theorem dX11_wanted_9 : decode cX11_wanted 9 = .ok (.iconst 0, 1) := by decide +kernel
theorem dX11_wanted_10 : decode cX11_wanted 10 = .ok (.goto 4, 3) := by decide +kernel
theorem dX11_wanted_13 : decode cX11_wanted 13 = .ok (.iconst 1, 1) := by decide +kernel
theorem dX11_wanted_14 : decode cX11_wanted 14 = .ok (.invokevirtual 78, 3) := by decide +kernel
theorem dX11_wanted_17 : decode cX11_wanted 17 = .ok (.ifCond .eq 7, 3) := by decide +kernel
theorem dX11_wanted_20 : decode cX11_wanted 20 = .ok (.iconst 0, 1) := by decide +kernel
theorem dX11_wanted_21 : decode cX11_wanted 21 = .ok (.goto 19, 3) := by decide +kernel
theorem dX11_wanted_24 : decode cX11_wanted 24 = .ok (.aload_n 0, 1) := by decide +kernel
theorem dX11_wanted_25 : decode cX11_wanted 25 = .ok (.getfield 10, 3) := by decide +kernel
theorem dX11_wanted_28 : decode cX11_wanted 28 = .ok (.iload_n 1, 1) := by decide +kernel
theorem dX11_wanted_29 : decode cX11_wanted 29 = .ok (.invokeinterface 101 2, 5) := by decide +kernel
theorem dX11_wanted_34 : decode cX11_wanted 34 = .ok (.checkcast 82, 3) := by decide +kernel
theorem dX11_wanted_37 : decode cX11_wanted 37 = .ok (.getfield 180, 3) := by decide +kernel
theorem dX11_wanted_40 : decode cX11_wanted 40 = .ok (.ireturn, 1) := by decide +kernel
set_option maxRecDepth 20000 in
theorem ggX11_clamp_X11_isCore : GoodIn wsX11_clamp wsX11_isCore := goodIn_r _ [7, 1, 8, 9, 10, 11, 12, 13, 14, 15, 6, 16, 39, 40, 41, 42, 43, 44, 45, 46, 47, 48, 49, 50, 51, 52, 53, 54, 55, 56, 57, 58, 59, 60, 61, 62, 63, 64, 65, 85, 86, 87] (by decide +kernel) (by decide +kernel)
set_option maxRecDepth 20000 in
theorem gX11_clamp_X11_isCore : GoodIn wsX11_clamp (wsV RX11 91 RX11 yX11_isCore wsX11_isCore) := goodIn_app (goodIn_of _ (by decide +kernel)) ggX11_clamp_X11_isCore
set_option maxRecDepth 20000 in
theorem ggX11_clamp_X11_fails : GoodIn wsX11_clamp wsX11_fails := goodIn_r _ [20, 21, 39, 40, 41, 42, 43, 44, 45, 46, 47, 48, 49, 50, 51, 52, 53, 54, 55, 56, 57, 58, 59, 60, 61, 62, 63, 64, 65] (by decide +kernel) (by decide +kernel)
set_option maxRecDepth 20000 in
theorem gX11_clamp_X11_fails : GoodIn wsX11_clamp (wsV RX11 78 RX11 yX11_fails wsX11_fails) := goodIn_app (goodIn_of _ (by decide +kernel)) ggX11_clamp_X11_fails
set_option maxRecDepth 20000 in
theorem ggX11_clamp_Jx4a65c_get_915e3 : GoodIn wsX11_clamp wsJx4a65c_get_915e3 := goodIn_r _ [25, 13, 26, 27, 28, 29, 30, 31, 32, 33, 34, 35, 36, 11, 37, 38, 85, 86, 87] (by decide +kernel) (by decide +kernel)
set_option maxRecDepth 20000 in
theorem gX11_clamp_Jx4a65c_get_915e3_f101Jx4a65c : GoodIn wsX11_clamp (va_wsF RX11 101 RJx4a65c ⟨"java/util/List", "get", "(I)Ljava/lang/Object;"⟩ yJx4a65c_get_915e3 wsJx4a65c_get_915e3) := goodIn_app (goodIn_of _ (by decide +kernel)) ggX11_clamp_Jx4a65c_get_915e3
theorem dX11_clamp_0 : decode cX11_clamp 0 = .ok (.aload_n 0, 1) := by decide +kernel
theorem dX11_clamp_1 : decode cX11_clamp 1 = .ok (.aload_n 0, 1) := by decide +kernel
theorem dX11_clamp_2 : decode cX11_clamp 2 = .ok (.iload_n 1, 1) := by decide +kernel
theorem dX11_clamp_3 : decode cX11_clamp 3 = .ok (.invokevirtual 91, 3) := by decide +kernel
theorem dX11_clamp_6 : decode cX11_clamp 6 = .ok (.ifCond .eq 7, 3) := by decide +kernel
theorem dX11_clamp_9 : decode cX11_clamp 9 = .ok (.iconst 0, 1) := by decide +kernel
theorem dX11_clamp_10 : decode cX11_clamp 10 = .ok (.goto 4, 3) := by decide +kernel
theorem dX11_clamp_13 : decode cX11_clamp 13 = .ok (.iconst 1, 1) := by decide +kernel
theorem dX11_clamp_14 : decode cX11_clamp 14 = .ok (.invokevirtual 78, 3) := by decide +kernel
theorem dX11_clamp_17 : decode cX11_clamp 17 = .ok (.ifCond .eq 8, 3) := by decide +kernel
theorem dX11_clamp_20 : decode cX11_clamp 20 = .ok (.bipush 32, 2) := by decide +kernel
theorem dX11_clamp_22 : decode cX11_clamp 22 = .ok (.goto 19, 3) := by decide +kernel
theorem dX11_clamp_25 : decode cX11_clamp 25 = .ok (.aload_n 0, 1) := by decide +kernel
theorem dX11_clamp_26 : decode cX11_clamp 26 = .ok (.getfield 10, 3) := by decide +kernel
theorem dX11_clamp_29 : decode cX11_clamp 29 = .ok (.iload_n 1, 1) := by decide +kernel
theorem dX11_clamp_30 : decode cX11_clamp 30 = .ok (.invokeinterface 101 2, 5) := by decide +kernel
theorem dX11_clamp_35 : decode cX11_clamp 35 = .ok (.checkcast 82, 3) := by decide +kernel
theorem dX11_clamp_38 : decode cX11_clamp 38 = .ok (.getfield 217, 3) := by decide +kernel
theorem dX11_clamp_41 : decode cX11_clamp 41 = .ok (.ireturn, 1) := by decide +kernel
set_option maxRecDepth 20000 in
theorem ggX11_sleep_X11_isCore : GoodIn wsX11_sleep wsX11_isCore := goodIn_r _ [7, 1, 8, 9, 10, 11, 12, 13, 14, 15, 6, 16, 39, 40, 41, 42, 43, 44, 45, 46, 47, 48, 49, 50, 51, 52, 53, 54, 55, 56, 57, 58, 59, 60, 61, 62, 63, 64, 65, 85, 86, 87] (by decide +kernel) (by decide +kernel)
set_option maxRecDepth 20000 in
theorem gX11_sleep_X11_isCore : GoodIn wsX11_sleep (wsV RX11 91 RX11 yX11_isCore wsX11_isCore) := goodIn_app (goodIn_of _ (by decide +kernel)) ggX11_sleep_X11_isCore
set_option maxRecDepth 20000 in
theorem ggX11_sleep_X11_fails : GoodIn wsX11_sleep wsX11_fails := goodIn_r _ [20, 21, 39, 40, 41, 42, 43, 44, 45, 46, 47, 48, 49, 50, 51, 52, 53, 54, 55, 56, 57, 58, 59, 60, 61, 62, 63, 64, 65] (by decide +kernel) (by decide +kernel)
set_option maxRecDepth 20000 in
theorem gX11_sleep_X11_fails : GoodIn wsX11_sleep (wsV RX11 78 RX11 yX11_fails wsX11_fails) := goodIn_app (goodIn_of _ (by decide +kernel)) ggX11_sleep_X11_fails
set_option maxRecDepth 20000 in
theorem ggX11_sleep_Jx4a65c_get_915e3 : GoodIn wsX11_sleep wsJx4a65c_get_915e3 := goodIn_r _ [25, 13, 26, 27, 28, 29, 30, 31, 32, 33, 34, 35, 36, 11, 37, 38, 85, 86, 87] (by decide +kernel) (by decide +kernel)
set_option maxRecDepth 20000 in
theorem gX11_sleep_Jx4a65c_get_915e3_f101Jx4a65c : GoodIn wsX11_sleep (va_wsF RX11 101 RJx4a65c ⟨"java/util/List", "get", "(I)Ljava/lang/Object;"⟩ yJx4a65c_get_915e3 wsJx4a65c_get_915e3) := goodIn_app (goodIn_of _ (by decide +kernel)) ggX11_sleep_Jx4a65c_get_915e3
theorem dX11_sleep_0 : decode cX11_sleep 0 = .ok (.aload_n 0, 1) := by decide +kernel
theorem dX11_sleep_1 : decode cX11_sleep 1 = .ok (.aload_n 0, 1) := by decide +kernel
theorem dX11_sleep_2 : decode cX11_sleep 2 = .ok (.iload_n 1, 1) := by decide +kernel
theorem dX11_sleep_3 : decode cX11_sleep 3 = .ok (.invokevirtual 91, 3) := by decide +kernel
theorem dX11_sleep_6 : decode cX11_sleep 6 = .ok (.ifCond .eq 7, 3) := by decide +kernel
theorem dX11_sleep_9 : decode cX11_sleep 9 = .ok (.iconst 0, 1) := by decide +kernel
theorem dX11_sleep_10 : decode cX11_sleep 10 = .ok (.goto 4, 3) := by decide +kernel
theorem dX11_sleep_13 : decode cX11_sleep 13 = .ok (.iconst 1, 1) := by decide +kernel
theorem dX11_sleep_14 : decode cX11_sleep 14 = .ok (.invokevirtual 78, 3) := by decide +kernel
theorem dX11_sleep_17 : decode cX11_sleep 17 = .ok (.ifCond .eq 8, 3) := by decide +kernel
theorem dX11_sleep_20 : decode cX11_sleep 20 = .ok (.bipush 32, 2) := by decide +kernel
theorem dX11_sleep_22 : decode cX11_sleep 22 = .ok (.goto 19, 3) := by decide +kernel
theorem dX11_sleep_25 : decode cX11_sleep 25 = .ok (.aload_n 0, 1) := by decide +kernel
theorem dX11_sleep_26 : decode cX11_sleep 26 = .ok (.getfield 10, 3) := by decide +kernel
theorem dX11_sleep_29 : decode cX11_sleep 29 = .ok (.iload_n 1, 1) := by decide +kernel
theorem dX11_sleep_30 : decode cX11_sleep 30 = .ok (.invokeinterface 101 2, 5) := by decide +kernel
theorem dX11_sleep_35 : decode cX11_sleep 35 = .ok (.checkcast 82, 3) := by decide +kernel
theorem dX11_sleep_38 : decode cX11_sleep 38 = .ok (.getfield 192, 3) := by decide +kernel
theorem dX11_sleep_41 : decode cX11_sleep 41 = .ok (.ireturn, 1) := by decide +kernel
set_option maxRecDepth 20000 in
theorem ggX11_isBusy_X11_isCore : GoodIn wsX11_isBusy wsX11_isCore := goodIn_r _ [5, 6, 7, 8, 9, 10, 11, 12, 13, 14, 4, 15, 59, 60, 61, 62, 63, 64, 65, 66, 67, 68, 69, 70, 71, 72, 73, 74, 75, 76, 77, 78, 79, 80, 81, 82, 83, 84, 85, 86, 87, 88] (by decide +kernel) (by decide +kernel)
set_option maxRecDepth 20000 in
theorem gX11_isBusy_X11_isCore : GoodIn wsX11_isBusy (wsV RX11 91 RX11 yX11_isCore wsX11_isCore) := goodIn_app (goodIn_of _ (by decide +kernel)) ggX11_isBusy_X11_isCore
set_option maxRecDepth 20000 in
theorem ggX11_isBusy_X11_fails : GoodIn wsX11_isBusy wsX11_fails := goodIn_r _ [19, 20, 59, 60, 61, 62, 63, 64, 65, 66, 67, 68, 69, 70, 71, 72, 73, 74, 75, 76, 77, 78, 79, 80, 81, 82, 83, 84, 85] (by decide +kernel) (by decide +kernel)
set_option maxRecDepth 20000 in
theorem gX11_isBusy_X11_fails : GoodIn wsX11_isBusy (wsV RX11 78 RX11 yX11_fails wsX11_fails) := goodIn_app (goodIn_of _ (by decide +kernel)) ggX11_isBusy_X11_fails
set_option maxRecDepth 20000 in
theorem ggX11_isBusy_X11_running_c0 : GoodIn wsX11_isBusy (wsX11_running.take 30) := goodIn_r _ [24, 25, 26, 27, 28, 29, 10, 30, 31, 32, 33, 34, 35, 36, 37, 38, 39, 40, 41, 42, 43, 44, 45, 46, 47, 48, 49, 50, 51, 52] (by decide +kernel) (by decide +kernel)
set_option maxRecDepth 20000 in
theorem ggX11_isBusy_X11_running_c1 : GoodIn wsX11_isBusy ((wsX11_running.drop 30).take 30) := goodIn_r _ [53, 54, 55, 56, 57, 58, 59, 60, 61, 62, 63, 64, 65, 66, 67, 68, 69, 70, 71, 72, 73, 74, 75, 76, 77, 78, 79, 80, 81, 82] (by decide +kernel) (by decide +kernel)
set_option maxRecDepth 20000 in
theorem ggX11_isBusy_X11_running_c2 : GoodIn wsX11_isBusy ((wsX11_running.drop 30).drop 30) := goodIn_r _ [83, 84, 85, 89, 90, 91, 92, 93, 94, 95, 96, 86, 87, 88] (by decide +kernel) (by decide +kernel)
theorem ggX11_isBusy_X11_running : GoodIn wsX11_isBusy wsX11_running := (goodIn_td 30 ggX11_isBusy_X11_running_c0 (goodIn_td 30 ggX11_isBusy_X11_running_c1 ggX11_isBusy_X11_running_c2))
set_option maxRecDepth 20000 in
theorem gX11_isBusy_X11_running : GoodIn wsX11_isBusy (wsV RX11 169 RX11 yX11_running wsX11_running) := goodIn_app (goodIn_of _ (by decide +kernel)) ggX11_isBusy_X11_running
theorem dX11_isBusy_0 : decode cX11_isBusy 0 = .ok (.aload_n 0, 1) := by decide +kernel
theorem dX11_isBusy_1 : decode cX11_isBusy 1 = .ok (.aload_n 0, 1) := by decide +kernel
theorem dX11_isBusy_2 : decode cX11_isBusy 2 = .ok (.iload_n 1, 1) := by decide +kernel
theorem dX11_isBusy_3 : decode cX11_isBusy 3 = .ok (.invokevirtual 91, 3) := by decide +kernel
theorem dX11_isBusy_6 : decode cX11_isBusy 6 = .ok (.ifCond .eq 7, 3) := by decide +kernel
theorem dX11_isBusy_9 : decode cX11_isBusy 9 = .ok (.iconst 0, 1) := by decide +kernel
theorem dX11_isBusy_10 : decode cX11_isBusy 10 = .ok (.goto 4, 3) := by decide +kernel
theorem dX11_isBusy_13 : decode cX11_isBusy 13 = .ok (.iconst 1, 1) := by decide +kernel
theorem dX11_isBusy_14 : decode cX11_isBusy 14 = .ok (.invokevirtual 78, 3) := by decide +kernel
theorem dX11_isBusy_17 : decode cX11_isBusy 17 = .ok (.ifCond .ne 15, 3) := by decide +kernel
theorem dX11_isBusy_20 : decode cX11_isBusy 20 = .ok (.aload_n 0, 1) := by decide +kernel
theorem dX11_isBusy_21 : decode cX11_isBusy 21 = .ok (.iload_n 1, 1) := by decide +kernel
theorem dX11_isBusy_22 : decode cX11_isBusy 22 = .ok (.invokevirtual 169, 3) := by decide +kernel
theorem dX11_isBusy_25 : decode cX11_isBusy 25 = .ok (.ifnull 7, 3) := by decide +kernel
theorem dX11_isBusy_28 : decode cX11_isBusy 28 = .ok (.iconst 1, 1) := by decide +kernel
theorem dX11_isBusy_29 : decode cX11_isBusy 29 = .ok (.goto 4, 3) := by decide +kernel
theorem dX11_isBusy_32 : decode cX11_isBusy 32 = .ok (.iconst 0, 1) := by decide +kernel
theorem dX11_isBusy_33 : decode cX11_isBusy 33 = .ok (.ireturn, 1) := by decide +kernel
set_option maxRecDepth 20000 in
theorem ggX11_need_X11_isCore : GoodIn wsX11_need wsX11_isCore := goodIn_r _ [7, 1, 8, 9, 10, 11, 12, 13, 14, 15, 6, 16, 52, 53, 54, 55, 56, 57, 58, 59, 60, 61, 62, 63, 64, 65, 66, 67, 68, 69, 70, 71, 72, 73, 74, 75, 76, 77, 78, 98, 99, 100] (by decide +kernel) (by decide +kernel)
set_option maxRecDepth 20000 in
theorem gX11_need_X11_isCore : GoodIn wsX11_need (wsV RX11 91 RX11 yX11_isCore wsX11_isCore) := goodIn_app (goodIn_of _ (by decide +kernel)) ggX11_need_X11_isCore
set_option maxRecDepth 20000 in
theorem ggX11_need_Jx4a65c_get_915e3 : GoodIn wsX11_need wsJx4a65c_get_915e3 := goodIn_r _ [20, 13, 21, 22, 23, 24, 25, 26, 27, 28, 29, 30, 31, 11, 32, 33, 98, 99, 100] (by decide +kernel) (by decide +kernel)
set_option maxRecDepth 20000 in
theorem gX11_need_Jx4a65c_get_915e3_f101Jx4a65c : GoodIn wsX11_need (va_wsF RX11 101 RJx4a65c ⟨"java/util/List", "get", "(I)Ljava/lang/Object;"⟩ yJx4a65c_get_915e3 wsJx4a65c_get_915e3) := goodIn_app (goodIn_of _ (by decide +kernel)) ggX11_need_Jx4a65c_get_915e3
set_option maxRecDepth 20000 in
theorem ggX11_need_X11_in : GoodIn wsX11_need wsX11_in := goodIn_r _ [16] (by decide +kernel) (by decide +kernel)
set_option maxRecDepth 20000 in
theorem gX11_need_X11_in : GoodIn wsX11_need (va_wsS RX11 52 yX11_in wsX11_in) := goodIn_app (goodIn_of _ (by decide +kernel)) ggX11_need_X11_in
set_option maxRecDepth 20000 in
theorem ggX11_need_X11_fails : GoodIn wsX11_need wsX11_fails := goodIn_r _ [37, 38, 52, 53, 54, 55, 56, 57, 58, 59, 60, 61, 62, 63, 64, 65, 66, 67, 68, 69, 70, 71, 72, 73, 74, 75, 76, 77, 78] (by decide +kernel) (by decide +kernel)
set_option maxRecDepth 20000 in
theorem gX11_need_X11_fails : GoodIn wsX11_need (wsV RX11 78 RX11 yX11_fails wsX11_fails) := goodIn_app (goodIn_of _ (by decide +kernel)) ggX11_need_X11_fails
set_option maxRecDepth 20000 in
theorem ggX11_need_X9_degrees : GoodIn wsX11_need wsX9_degrees := goodIn_r _ [42, 43, 79, 80, 81, 82, 83, 84, 85, 86, 87, 88, 89, 90, 91, 92, 93, 94, 95, 96, 97] (by decide +kernel) (by decide +kernel)
set_option maxRecDepth 20000 in
theorem gX11_need_X9_degrees_n133 : GoodIn wsX11_need (wsX9_degrees) := ggX11_need_X9_degrees
set_option maxRecDepth 20000 in
theorem ggX11_need_X9_need : GoodIn wsX11_need wsX9_need := goodIn_r _ [46, 47, 48, 49, 40, 50, 51, 79, 80, 81, 82, 83, 84, 85, 86, 87, 88, 89, 90, 91, 92, 93, 94, 95, 96, 97] (by decide +kernel) (by decide +kernel)
set_option maxRecDepth 20000 in
theorem gX11_need_X9_need_n234 : GoodIn wsX11_need (wsX9_need) := ggX11_need_X9_need
theorem dX11_need_0 : decode cX11_need 0 = .ok (.aload_n 0, 1) := by decide +kernel
theorem dX11_need_1 : decode cX11_need 1 = .ok (.aload_n 0, 1) := by decide +kernel
theorem dX11_need_2 : decode cX11_need 2 = .ok (.iload_n 1, 1) := by decide +kernel
theorem dX11_need_3 : decode cX11_need 3 = .ok (.invokevirtual 91, 3) := by decide +kernel
theorem dX11_need_6 : decode cX11_need 6 = .ok (.ifCond .ne 7, 3) := by decide +kernel
theorem dX11_need_9 : decode cX11_need 9 = .ok (.iconst 1, 1) := by decide +kernel
theorem dX11_need_10 : decode cX11_need 10 = .ok (.goto 32, 3) := by decide +kernel
theorem dX11_need_13 : decode cX11_need 13 = .ok (.iload_n 2, 1) := by decide +kernel
theorem dX11_need_14 : decode cX11_need 14 = .ok (.iconst 0, 1) := by decide +kernel
theorem dX11_need_15 : decode cX11_need 15 = .ok (.aload_n 0, 1) := by decide +kernel
theorem dX11_need_16 : decode cX11_need 16 = .ok (.getfield 10, 3) := by decide +kernel
theorem dX11_need_19 : decode cX11_need 19 = .ok (.iload_n 1, 1) := by decide +kernel
theorem dX11_need_20 : decode cX11_need 20 = .ok (.invokeinterface 101 2, 5) := by decide +kernel
theorem dX11_need_25 : decode cX11_need 25 = .ok (.checkcast 82, 3) := by decide +kernel
theorem dX11_need_28 : decode cX11_need 28 = .ok (.getfield 183, 3) := by decide +kernel
theorem dX11_need_31 : decode cX11_need 31 = .ok (.invokestatic 52, 3) := by decide +kernel
theorem dX11_need_34 : decode cX11_need 34 = .ok (.ifCond .eq 7, 3) := by decide +kernel
theorem dX11_need_37 : decode cX11_need 37 = .ok (.iconst 0, 1) := by decide +kernel
theorem dX11_need_38 : decode cX11_need 38 = .ok (.goto 4, 3) := by decide +kernel
theorem dX11_need_41 : decode cX11_need 41 = .ok (.iconst 2, 1) := by decide +kernel
theorem dX11_need_42 : decode cX11_need 42 = .ok (.invokevirtual 78, 3) := by decide +kernel
theorem dX11_need_45 : decode cX11_need 45 = .ok (.ifCond .eq 7, 3) := by decide +kernel
theorem dX11_need_48 : decode cX11_need 48 = .ok (.iconst 0, 1) := by decide +kernel
theorem dX11_need_49 : decode cX11_need 49 = .ok (.goto 36, 3) := by decide +kernel
theorem dX11_need_52 : decode cX11_need 52 = .ok (.aload_n 0, 1) := by decide +kernel
theorem dX11_need_53 : decode cX11_need 53 = .ok (.getfield 10, 3) := by decide +kernel
theorem dX11_need_56 : decode cX11_need 56 = .ok (.iload_n 1, 1) := by decide +kernel
theorem dX11_need_57 : decode cX11_need 57 = .ok (.invokeinterface 101 2, 5) := by decide +kernel
theorem dX11_need_62 : decode cX11_need 62 = .ok (.checkcast 82, 3) := by decide +kernel
theorem dX11_need_65 : decode cX11_need 65 = .ok (.iload_n 2, 1) := by decide +kernel
theorem dX11_need_66 : decode cX11_need 66 = .ok (.aload_n 0, 1) := by decide +kernel
theorem dX11_need_67 : decode cX11_need 67 = .ok (.getfield 10, 3) := by decide +kernel
theorem dX11_need_70 : decode cX11_need 70 = .ok (.iload_n 1, 1) := by decide +kernel
theorem dX11_need_71 : decode cX11_need 71 = .ok (.invokeinterface 101 2, 5) := by decide +kernel
theorem dX11_need_76 : decode cX11_need 76 = .ok (.checkcast 82, 3) := by decide +kernel
theorem dX11_need_79 : decode cX11_need 79 = .ok (.invokevirtual 133, 3) := by decide +kernel
theorem dX11_need_82 : decode cX11_need 82 = .ok (.invokevirtual 234, 3) := by decide +kernel
theorem dX11_need_85 : decode cX11_need 85 = .ok (.ireturn, 1) := by decide +kernel
set_option maxRecDepth 20000 in
theorem ggX11_volts_X11_in : GoodIn wsX11_volts wsX11_in := goodIn_r _ [5] (by decide +kernel) (by decide +kernel)
set_option maxRecDepth 20000 in
theorem gX11_volts_X11_in : GoodIn wsX11_volts (va_wsS RX11 52 yX11_in wsX11_in) := goodIn_app (goodIn_of _ (by decide +kernel)) ggX11_volts_X11_in
set_option maxRecDepth 20000 in
theorem ggX11_volts_X11_fails : GoodIn wsX11_volts wsX11_fails := goodIn_r _ [9, 10, 11, 12, 13, 14, 15, 16, 17, 18, 19, 20, 21, 22, 23, 24, 25, 26, 27, 28, 29, 30, 31, 32, 33, 34, 35, 36, 37] (by decide +kernel) (by decide +kernel)
set_option maxRecDepth 20000 in
theorem gX11_volts_X11_fails : GoodIn wsX11_volts (wsV RX11 78 RX11 yX11_fails wsX11_fails) := goodIn_app (goodIn_of _ (by decide +kernel)) ggX11_volts_X11_fails
theorem dX11_volts_0 : decode cX11_volts 0 = .ok (.aload_n 0, 1) := by decide +kernel
theorem dX11_volts_1 : decode cX11_volts 1 = .ok (.iload_n 1, 1) := by decide +kernel
theorem dX11_volts_2 : decode cX11_volts 2 = .ok (.iconst 0, 1) := by decide +kernel
theorem dX11_volts_3 : decode cX11_volts 3 = .ok (.iconst 2, 1) := by decide +kernel
theorem dX11_volts_4 : decode cX11_volts 4 = .ok (.invokestatic 52, 3) := by decide +kernel
theorem dX11_volts_7 : decode cX11_volts 7 = .ok (.ifCond .eq 7, 3) := by decide +kernel
theorem dX11_volts_10 : decode cX11_volts 10 = .ok (.iconst 0, 1) := by decide +kernel
theorem dX11_volts_11 : decode cX11_volts 11 = .ok (.goto 4, 3) := by decide +kernel
theorem dX11_volts_14 : decode cX11_volts 14 = .ok (.iconst 1, 1) := by decide +kernel
theorem dX11_volts_15 : decode cX11_volts 15 = .ok (.invokevirtual 78, 3) := by decide +kernel
theorem dX11_volts_18 : decode cX11_volts 18 = .ok (.ifCond .eq 7, 3) := by decide +kernel
theorem dX11_volts_21 : decode cX11_volts 21 = .ok (.iconst 0, 1) := by decide +kernel
theorem dX11_volts_22 : decode cX11_volts 22 = .ok (.goto 9, 3) := by decide +kernel
theorem dX11_volts_25 : decode cX11_volts 25 = .ok (.aload_n 0, 1) := by decide +kernel
theorem dX11_volts_26 : decode cX11_volts 26 = .ok (.getfield 19, 3) := by decide +kernel
theorem dX11_volts_29 : decode cX11_volts 29 = .ok (.iload_n 1, 1) := by decide +kernel
theorem dX11_volts_30 : decode cX11_volts 30 = .ok (.iaload, 1) := by decide +kernel
theorem dX11_volts_31 : decode cX11_volts 31 = .ok (.ireturn, 1) := by decide +kernel
set_option maxRecDepth 20000 in
theorem ggX11_heat_X11_isCore : GoodIn wsX11_heat wsX11_isCore := goodIn_r _ [7, 1, 8, 9, 10, 11, 12, 13, 14, 15, 6, 16, 39, 40, 41, 42, 43, 44, 45, 46, 47, 48, 49, 50, 51, 52, 53, 54, 55, 56, 57, 58, 59, 60, 61, 62, 63, 64, 65, 85, 86, 87] (by decide +kernel) (by decide +kernel)
set_option maxRecDepth 20000 in
theorem gX11_heat_X11_isCore : GoodIn wsX11_heat (wsV RX11 91 RX11 yX11_isCore wsX11_isCore) := goodIn_app (goodIn_of _ (by decide +kernel)) ggX11_heat_X11_isCore
set_option maxRecDepth 20000 in
theorem ggX11_heat_X11_fails : GoodIn wsX11_heat wsX11_fails := goodIn_r _ [20, 21, 39, 40, 41, 42, 43, 44, 45, 46, 47, 48, 49, 50, 51, 52, 53, 54, 55, 56, 57, 58, 59, 60, 61, 62, 63, 64, 65] (by decide +kernel) (by decide +kernel)
set_option maxRecDepth 20000 in
theorem gX11_heat_X11_fails : GoodIn wsX11_heat (wsV RX11 78 RX11 yX11_fails wsX11_fails) := goodIn_app (goodIn_of _ (by decide +kernel)) ggX11_heat_X11_fails
set_option maxRecDepth 20000 in
theorem ggX11_heat_Jx4a65c_get_915e3 : GoodIn wsX11_heat wsJx4a65c_get_915e3 := goodIn_r _ [25, 13, 26, 27, 28, 29, 30, 31, 32, 33, 34, 35, 36, 11, 37, 38, 85, 86, 87] (by decide +kernel) (by decide +kernel)
set_option maxRecDepth 20000 in
theorem gX11_heat_Jx4a65c_get_915e3_f101Jx4a65c : GoodIn wsX11_heat (va_wsF RX11 101 RJx4a65c ⟨"java/util/List", "get", "(I)Ljava/lang/Object;"⟩ yJx4a65c_get_915e3 wsJx4a65c_get_915e3) := goodIn_app (goodIn_of _ (by decide +kernel)) ggX11_heat_Jx4a65c_get_915e3
theorem dX11_heat_0 : decode cX11_heat 0 = .ok (.aload_n 0, 1) := by decide +kernel
theorem dX11_heat_1 : decode cX11_heat 1 = .ok (.aload_n 0, 1) := by decide +kernel
theorem dX11_heat_2 : decode cX11_heat 2 = .ok (.iload_n 1, 1) := by decide +kernel
theorem dX11_heat_3 : decode cX11_heat 3 = .ok (.invokevirtual 91, 3) := by decide +kernel
theorem dX11_heat_6 : decode cX11_heat 6 = .ok (.ifCond .eq 7, 3) := by decide +kernel
theorem dX11_heat_9 : decode cX11_heat 9 = .ok (.iconst 0, 1) := by decide +kernel
theorem dX11_heat_10 : decode cX11_heat 10 = .ok (.goto 4, 3) := by decide +kernel
theorem dX11_heat_13 : decode cX11_heat 13 = .ok (.iconst 1, 1) := by decide +kernel
theorem dX11_heat_14 : decode cX11_heat 14 = .ok (.invokevirtual 78, 3) := by decide +kernel
theorem dX11_heat_17 : decode cX11_heat 17 = .ok (.ifCond .eq 7, 3) := by decide +kernel
theorem dX11_heat_20 : decode cX11_heat 20 = .ok (.iconst 0, 1) := by decide +kernel
theorem dX11_heat_21 : decode cX11_heat 21 = .ok (.goto 19, 3) := by decide +kernel
theorem dX11_heat_24 : decode cX11_heat 24 = .ok (.aload_n 0, 1) := by decide +kernel
theorem dX11_heat_25 : decode cX11_heat 25 = .ok (.getfield 10, 3) := by decide +kernel
theorem dX11_heat_28 : decode cX11_heat 28 = .ok (.iload_n 1, 1) := by decide +kernel
theorem dX11_heat_29 : decode cX11_heat 29 = .ok (.invokeinterface 101 2, 5) := by decide +kernel
theorem dX11_heat_34 : decode cX11_heat 34 = .ok (.checkcast 82, 3) := by decide +kernel
theorem dX11_heat_37 : decode cX11_heat 37 = .ok (.getfield 243, 3) := by decide +kernel
theorem dX11_heat_40 : decode cX11_heat 40 = .ok (.ireturn, 1) := by decide +kernel
set_option maxRecDepth 20000 in
theorem ggX11_degrees_X11_isCore : GoodIn wsX11_degrees wsX11_isCore := goodIn_r _ [7, 1, 8, 9, 10, 11, 12, 13, 14, 15, 6, 16, 44, 45, 46, 47, 48, 49, 50, 51, 52, 53, 54, 55, 56, 57, 58, 59, 60, 61, 62, 63, 64, 65, 66, 67, 68, 69, 70, 71, 72, 73] (by decide +kernel) (by decide +kernel)
set_option maxRecDepth 20000 in
theorem gX11_degrees_X11_isCore : GoodIn wsX11_degrees (wsV RX11 91 RX11 yX11_isCore wsX11_isCore) := goodIn_app (goodIn_of _ (by decide +kernel)) ggX11_degrees_X11_isCore
set_option maxRecDepth 20000 in
theorem ggX11_degrees_X11_fails : GoodIn wsX11_degrees wsX11_fails := goodIn_r _ [20, 21, 44, 45, 46, 47, 48, 49, 50, 51, 52, 53, 54, 55, 56, 57, 58, 59, 60, 61, 62, 63, 64, 65, 66, 67, 68, 69, 70] (by decide +kernel) (by decide +kernel)
set_option maxRecDepth 20000 in
theorem gX11_degrees_X11_fails : GoodIn wsX11_degrees (wsV RX11 78 RX11 yX11_fails wsX11_fails) := goodIn_app (goodIn_of _ (by decide +kernel)) ggX11_degrees_X11_fails
set_option maxRecDepth 20000 in
theorem ggX11_degrees_Jx4a65c_get_915e3 : GoodIn wsX11_degrees wsJx4a65c_get_915e3 := goodIn_r _ [25, 13, 26, 27, 28, 29, 30, 31, 32, 33, 34, 35, 36, 11, 37, 38, 71, 72, 73] (by decide +kernel) (by decide +kernel)
set_option maxRecDepth 20000 in
theorem gX11_degrees_Jx4a65c_get_915e3_f101Jx4a65c : GoodIn wsX11_degrees (va_wsF RX11 101 RJx4a65c ⟨"java/util/List", "get", "(I)Ljava/lang/Object;"⟩ yJx4a65c_get_915e3 wsJx4a65c_get_915e3) := goodIn_app (goodIn_of _ (by decide +kernel)) ggX11_degrees_Jx4a65c_get_915e3
set_option maxRecDepth 20000 in
theorem ggX11_degrees_X9_degrees : GoodIn wsX11_degrees wsX9_degrees := goodIn_r _ [42, 43, 74, 75, 76, 77, 78, 79, 80, 81, 82, 83, 84, 85, 86, 87, 88, 89, 90, 91, 92] (by decide +kernel) (by decide +kernel)
set_option maxRecDepth 20000 in
theorem gX11_degrees_X9_degrees_n133 : GoodIn wsX11_degrees (wsX9_degrees) := ggX11_degrees_X9_degrees
theorem dX11_degrees_0 : decode cX11_degrees 0 = .ok (.aload_n 0, 1) := by decide +kernel
theorem dX11_degrees_1 : decode cX11_degrees 1 = .ok (.aload_n 0, 1) := by decide +kernel
theorem dX11_degrees_2 : decode cX11_degrees 2 = .ok (.iload_n 1, 1) := by decide +kernel
theorem dX11_degrees_3 : decode cX11_degrees 3 = .ok (.invokevirtual 91, 3) := by decide +kernel
theorem dX11_degrees_6 : decode cX11_degrees 6 = .ok (.ifCond .eq 7, 3) := by decide +kernel
theorem dX11_degrees_9 : decode cX11_degrees 9 = .ok (.iconst 0, 1) := by decide +kernel
theorem dX11_degrees_10 : decode cX11_degrees 10 = .ok (.goto 4, 3) := by decide +kernel
theorem dX11_degrees_13 : decode cX11_degrees 13 = .ok (.iconst 1, 1) := by decide +kernel
theorem dX11_degrees_14 : decode cX11_degrees 14 = .ok (.invokevirtual 78, 3) := by decide +kernel
theorem dX11_degrees_17 : decode cX11_degrees 17 = .ok (.ifCond .eq 7, 3) := by decide +kernel
theorem dX11_degrees_20 : decode cX11_degrees 20 = .ok (.iconst 0, 1) := by decide +kernel
theorem dX11_degrees_21 : decode cX11_degrees 21 = .ok (.goto 19, 3) := by decide +kernel
theorem dX11_degrees_24 : decode cX11_degrees 24 = .ok (.aload_n 0, 1) := by decide +kernel
theorem dX11_degrees_25 : decode cX11_degrees 25 = .ok (.getfield 10, 3) := by decide +kernel
theorem dX11_degrees_28 : decode cX11_degrees 28 = .ok (.iload_n 1, 1) := by decide +kernel
theorem dX11_degrees_29 : decode cX11_degrees 29 = .ok (.invokeinterface 101 2, 5) := by decide +kernel
theorem dX11_degrees_34 : decode cX11_degrees 34 = .ok (.checkcast 82, 3) := by decide +kernel
theorem dX11_degrees_37 : decode cX11_degrees 37 = .ok (.invokevirtual 133, 3) := by decide +kernel
theorem dX11_degrees_40 : decode cX11_degrees 40 = .ok (.ireturn, 1) := by decide +kernel
theorem dX11_caseDegrees_0 : decode cX11_caseDegrees 0 = .ok (.aload_n 0, 1) := by decide +kernel
theorem dX11_caseDegrees_1 : decode cX11_caseDegrees 1 = .ok (.iconst 0, 1) := by decide +kernel
theorem dX11_caseDegrees_2 : decode cX11_caseDegrees 2 = .ok (.putfield 43, 3) := by decide +kernel
theorem dX11_caseDegrees_5 : decode cX11_caseDegrees 5 = .ok (.aload_n 0, 1) := by decide +kernel
theorem dX11_caseDegrees_6 : decode cX11_caseDegrees 6 = .ok (.getfield 26, 3) := by decide +kernel
theorem dX11_caseDegrees_9 : decode cX11_caseDegrees 9 = .ok (.sipush 200, 3) := by decide +kernel
theorem dX11_caseDegrees_12 : decode cX11_caseDegrees 12 = .ok (.idiv, 1) := by decide +kernel
theorem dX11_caseDegrees_13 : decode cX11_caseDegrees 13 = .ok (.ireturn, 1) := by decide +kernel
set_option maxRecDepth 20000 in
theorem ggX11_sensor_X11_isCore : GoodIn wsX11_sensor wsX11_isCore := goodIn_r _ [7, 1, 8, 9, 10, 11, 12, 13, 14, 15, 6, 16, 39, 40, 41, 42, 43, 44, 45, 46, 47, 48, 49, 50, 51, 52, 53, 54, 55, 56, 57, 58, 59, 60, 61, 62, 63, 64, 65, 85, 86, 87] (by decide +kernel) (by decide +kernel)
set_option maxRecDepth 20000 in
theorem gX11_sensor_X11_isCore : GoodIn wsX11_sensor (wsV RX11 91 RX11 yX11_isCore wsX11_isCore) := goodIn_app (goodIn_of _ (by decide +kernel)) ggX11_sensor_X11_isCore
set_option maxRecDepth 20000 in
theorem ggX11_sensor_Jx4a65c_get_915e3 : GoodIn wsX11_sensor wsJx4a65c_get_915e3 := goodIn_r _ [20, 13, 21, 22, 23, 24, 25, 26, 27, 28, 29, 30, 31, 11, 32, 33, 85, 86, 87] (by decide +kernel) (by decide +kernel)
set_option maxRecDepth 20000 in
theorem gX11_sensor_Jx4a65c_get_915e3_f101Jx4a65c : GoodIn wsX11_sensor (va_wsF RX11 101 RJx4a65c ⟨"java/util/List", "get", "(I)Ljava/lang/Object;"⟩ yJx4a65c_get_915e3 wsJx4a65c_get_915e3) := goodIn_app (goodIn_of _ (by decide +kernel)) ggX11_sensor_Jx4a65c_get_915e3
set_option maxRecDepth 20000 in
theorem ggX11_sensor_X11_fails : GoodIn wsX11_sensor wsX11_fails := goodIn_r _ [37, 38, 39, 40, 41, 42, 43, 44, 45, 46, 47, 48, 49, 50, 51, 52, 53, 54, 55, 56, 57, 58, 59, 60, 61, 62, 63, 64, 65] (by decide +kernel) (by decide +kernel)
set_option maxRecDepth 20000 in
theorem gX11_sensor_X11_fails : GoodIn wsX11_sensor (wsV RX11 78 RX11 yX11_fails wsX11_fails) := goodIn_app (goodIn_of _ (by decide +kernel)) ggX11_sensor_X11_fails
theorem dX11_sensor_0 : decode cX11_sensor 0 = .ok (.aload_n 0, 1) := by decide +kernel
theorem dX11_sensor_1 : decode cX11_sensor 1 = .ok (.aload_n 0, 1) := by decide +kernel
theorem dX11_sensor_2 : decode cX11_sensor 2 = .ok (.iload_n 1, 1) := by decide +kernel
theorem dX11_sensor_3 : decode cX11_sensor 3 = .ok (.invokevirtual 91, 3) := by decide +kernel
theorem dX11_sensor_6 : decode cX11_sensor 6 = .ok (.ifCond .ne 7, 3) := by decide +kernel
theorem dX11_sensor_9 : decode cX11_sensor 9 = .ok (.iconst 1, 1) := by decide +kernel
theorem dX11_sensor_10 : decode cX11_sensor 10 = .ok (.goto 27, 3) := by decide +kernel
theorem dX11_sensor_13 : decode cX11_sensor 13 = .ok (.aload_n 0, 1) := by decide +kernel
theorem dX11_sensor_14 : decode cX11_sensor 14 = .ok (.getfield 10, 3) := by decide +kernel
theorem dX11_sensor_17 : decode cX11_sensor 17 = .ok (.iload_n 1, 1) := by decide +kernel
theorem dX11_sensor_18 : decode cX11_sensor 18 = .ok (.invokeinterface 101 2, 5) := by decide +kernel
theorem dX11_sensor_23 : decode cX11_sensor 23 = .ok (.checkcast 82, 3) := by decide +kernel
theorem dX11_sensor_26 : decode cX11_sensor 26 = .ok (.getfield 214, 3) := by decide +kernel
theorem dX11_sensor_29 : decode cX11_sensor 29 = .ok (.ifCond .eq 7, 3) := by decide +kernel
theorem dX11_sensor_32 : decode cX11_sensor 32 = .ok (.iconst 2, 1) := by decide +kernel
theorem dX11_sensor_33 : decode cX11_sensor 33 = .ok (.goto 4, 3) := by decide +kernel
theorem dX11_sensor_36 : decode cX11_sensor 36 = .ok (.iconst 0, 1) := by decide +kernel
theorem dX11_sensor_37 : decode cX11_sensor 37 = .ok (.invokevirtual 78, 3) := by decide +kernel
theorem dX11_sensor_40 : decode cX11_sensor 40 = .ok (.ifCond .eq 7, 3) := by decide +kernel
theorem dX11_sensor_43 : decode cX11_sensor 43 = .ok (.iconst 0, 1) := by decide +kernel
theorem dX11_sensor_44 : decode cX11_sensor 44 = .ok (.goto 19, 3) := by decide +kernel
theorem dX11_sensor_47 : decode cX11_sensor 47 = .ok (.aload_n 0, 1) := by decide +kernel
theorem dX11_sensor_48 : decode cX11_sensor 48 = .ok (.getfield 10, 3) := by decide +kernel
theorem dX11_sensor_51 : decode cX11_sensor 51 = .ok (.iload_n 1, 1) := by decide +kernel
theorem dX11_sensor_52 : decode cX11_sensor 52 = .ok (.invokeinterface 101 2, 5) := by decide +kernel
theorem dX11_sensor_57 : decode cX11_sensor 57 = .ok (.checkcast 82, 3) := by decide +kernel
theorem dX11_sensor_60 : decode cX11_sensor 60 = .ok (.getfield 141, 3) := by decide +kernel
theorem dX11_sensor_63 : decode cX11_sensor 63 = .ok (.ireturn, 1) := by decide +kernel
set_option maxRecDepth 20000 in
theorem ggX11_lose_X11_isCore : GoodIn wsX11_lose wsX11_isCore := goodIn_r _ [7, 1, 8, 9, 10, 11, 12, 13, 14, 15, 6, 16, 39, 40, 41, 42, 43, 44, 45, 46, 47, 48, 49, 50, 51, 52, 53, 54, 55, 56, 57, 58, 59, 60, 61, 62, 63, 64, 65, 85, 86, 87] (by decide +kernel) (by decide +kernel)
set_option maxRecDepth 20000 in
theorem gX11_lose_X11_isCore : GoodIn wsX11_lose (wsV RX11 91 RX11 yX11_isCore wsX11_isCore) := goodIn_app (goodIn_of _ (by decide +kernel)) ggX11_lose_X11_isCore
set_option maxRecDepth 20000 in
theorem ggX11_lose_X11_fails : GoodIn wsX11_lose wsX11_fails := goodIn_r _ [20, 21, 39, 40, 41, 42, 43, 44, 45, 46, 47, 48, 49, 50, 51, 52, 53, 54, 55, 56, 57, 58, 59, 60, 61, 62, 63, 64, 65] (by decide +kernel) (by decide +kernel)
set_option maxRecDepth 20000 in
theorem gX11_lose_X11_fails : GoodIn wsX11_lose (wsV RX11 78 RX11 yX11_fails wsX11_fails) := goodIn_app (goodIn_of _ (by decide +kernel)) ggX11_lose_X11_fails
set_option maxRecDepth 20000 in
theorem ggX11_lose_Jx4a65c_get_915e3 : GoodIn wsX11_lose wsJx4a65c_get_915e3 := goodIn_r _ [25, 13, 26, 27, 28, 29, 30, 31, 32, 33, 34, 35, 36, 11, 37, 38, 85, 86, 87] (by decide +kernel) (by decide +kernel)
set_option maxRecDepth 20000 in
theorem gX11_lose_Jx4a65c_get_915e3_f101Jx4a65c : GoodIn wsX11_lose (va_wsF RX11 101 RJx4a65c ⟨"java/util/List", "get", "(I)Ljava/lang/Object;"⟩ yJx4a65c_get_915e3 wsJx4a65c_get_915e3) := goodIn_app (goodIn_of _ (by decide +kernel)) ggX11_lose_Jx4a65c_get_915e3
theorem dX11_lose_0 : decode cX11_lose 0 = .ok (.aload_n 0, 1) := by decide +kernel
theorem dX11_lose_1 : decode cX11_lose 1 = .ok (.aload_n 0, 1) := by decide +kernel
theorem dX11_lose_2 : decode cX11_lose 2 = .ok (.iload_n 1, 1) := by decide +kernel
theorem dX11_lose_3 : decode cX11_lose 3 = .ok (.invokevirtual 91, 3) := by decide +kernel
theorem dX11_lose_6 : decode cX11_lose 6 = .ok (.ifCond .eq 7, 3) := by decide +kernel
theorem dX11_lose_9 : decode cX11_lose 9 = .ok (.iconst 0, 1) := by decide +kernel
theorem dX11_lose_10 : decode cX11_lose 10 = .ok (.goto 4, 3) := by decide +kernel
theorem dX11_lose_13 : decode cX11_lose 13 = .ok (.iconst 1, 1) := by decide +kernel
theorem dX11_lose_14 : decode cX11_lose 14 = .ok (.invokevirtual 78, 3) := by decide +kernel
theorem dX11_lose_17 : decode cX11_lose 17 = .ok (.ifCond .eq 5, 3) := by decide +kernel
theorem dX11_lose_20 : decode cX11_lose 20 = .ok (.iconst 0, 1) := by decide +kernel
theorem dX11_lose_21 : decode cX11_lose 21 = .ok (.ireturn, 1) := by decide +kernel
theorem dX11_lose_22 : decode cX11_lose 22 = .ok (.aload_n 0, 1) := by decide +kernel
theorem dX11_lose_23 : decode cX11_lose 23 = .ok (.getfield 10, 3) := by decide +kernel
theorem dX11_lose_26 : decode cX11_lose 26 = .ok (.iload_n 1, 1) := by decide +kernel
theorem dX11_lose_27 : decode cX11_lose 27 = .ok (.invokeinterface 101 2, 5) := by decide +kernel
theorem dX11_lose_32 : decode cX11_lose 32 = .ok (.checkcast 82, 3) := by decide +kernel
theorem dX11_lose_35 : decode cX11_lose 35 = .ok (.getfield 214, 3) := by decide +kernel
theorem dX11_lose_38 : decode cX11_lose 38 = .ok (.istore_n 3, 1) := by decide +kernel
theorem dX11_lose_39 : decode cX11_lose 39 = .ok (.aload_n 0, 1) := by decide +kernel
theorem dX11_lose_40 : decode cX11_lose 40 = .ok (.getfield 10, 3) := by decide +kernel
theorem dX11_lose_43 : decode cX11_lose 43 = .ok (.iload_n 1, 1) := by decide +kernel
theorem dX11_lose_44 : decode cX11_lose 44 = .ok (.invokeinterface 101 2, 5) := by decide +kernel
theorem dX11_lose_49 : decode cX11_lose 49 = .ok (.checkcast 82, 3) := by decide +kernel
theorem dX11_lose_52 : decode cX11_lose 52 = .ok (.iload_n 2, 1) := by decide +kernel
theorem dX11_lose_53 : decode cX11_lose 53 = .ok (.putfield 214, 3) := by decide +kernel
theorem dX11_lose_56 : decode cX11_lose 56 = .ok (.iload_n 3, 1) := by decide +kernel
theorem dX11_lose_57 : decode cX11_lose 57 = .ok (.ireturn, 1) := by decide +kernel
set_option maxRecDepth 20000 in
theorem ggX11_isTripped_X11_isCore : GoodIn wsX11_isTripped wsX11_isCore := goodIn_r _ [7, 1, 8, 9, 10, 11, 12, 13, 14, 15, 6, 16, 39, 40, 41, 42, 43, 44, 45, 46, 47, 48, 49, 50, 51, 52, 53, 54, 55, 56, 57, 58, 59, 60, 61, 62, 63, 64, 65, 85, 86, 87] (by decide +kernel) (by decide +kernel)
set_option maxRecDepth 20000 in
theorem gX11_isTripped_X11_isCore : GoodIn wsX11_isTripped (wsV RX11 91 RX11 yX11_isCore wsX11_isCore) := goodIn_app (goodIn_of _ (by decide +kernel)) ggX11_isTripped_X11_isCore
set_option maxRecDepth 20000 in
theorem ggX11_isTripped_X11_fails : GoodIn wsX11_isTripped wsX11_fails := goodIn_r _ [20, 21, 39, 40, 41, 42, 43, 44, 45, 46, 47, 48, 49, 50, 51, 52, 53, 54, 55, 56, 57, 58, 59, 60, 61, 62, 63, 64, 65] (by decide +kernel) (by decide +kernel)
set_option maxRecDepth 20000 in
theorem gX11_isTripped_X11_fails : GoodIn wsX11_isTripped (wsV RX11 78 RX11 yX11_fails wsX11_fails) := goodIn_app (goodIn_of _ (by decide +kernel)) ggX11_isTripped_X11_fails
set_option maxRecDepth 20000 in
theorem ggX11_isTripped_Jx4a65c_get_915e3 : GoodIn wsX11_isTripped wsJx4a65c_get_915e3 := goodIn_r _ [25, 13, 26, 27, 28, 29, 30, 31, 32, 33, 34, 35, 36, 11, 37, 38, 85, 86, 87] (by decide +kernel) (by decide +kernel)
set_option maxRecDepth 20000 in
theorem gX11_isTripped_Jx4a65c_get_915e3_f101Jx4a65c : GoodIn wsX11_isTripped (va_wsF RX11 101 RJx4a65c ⟨"java/util/List", "get", "(I)Ljava/lang/Object;"⟩ yJx4a65c_get_915e3 wsJx4a65c_get_915e3) := goodIn_app (goodIn_of _ (by decide +kernel)) ggX11_isTripped_Jx4a65c_get_915e3
theorem dX11_isTripped_0 : decode cX11_isTripped 0 = .ok (.aload_n 0, 1) := by decide +kernel
theorem dX11_isTripped_1 : decode cX11_isTripped 1 = .ok (.aload_n 0, 1) := by decide +kernel
theorem dX11_isTripped_2 : decode cX11_isTripped 2 = .ok (.iload_n 1, 1) := by decide +kernel
theorem dX11_isTripped_3 : decode cX11_isTripped 3 = .ok (.invokevirtual 91, 3) := by decide +kernel
theorem dX11_isTripped_6 : decode cX11_isTripped 6 = .ok (.ifCond .eq 7, 3) := by decide +kernel
theorem dX11_isTripped_9 : decode cX11_isTripped 9 = .ok (.iconst 0, 1) := by decide +kernel
theorem dX11_isTripped_10 : decode cX11_isTripped 10 = .ok (.goto 4, 3) := by decide +kernel
theorem dX11_isTripped_13 : decode cX11_isTripped 13 = .ok (.iconst 1, 1) := by decide +kernel
theorem dX11_isTripped_14 : decode cX11_isTripped 14 = .ok (.invokevirtual 78, 3) := by decide +kernel
theorem dX11_isTripped_17 : decode cX11_isTripped 17 = .ok (.ifCond .ne 26, 3) := by decide +kernel
theorem dX11_isTripped_20 : decode cX11_isTripped 20 = .ok (.aload_n 0, 1) := by decide +kernel
theorem dX11_isTripped_21 : decode cX11_isTripped 21 = .ok (.getfield 10, 3) := by decide +kernel
theorem dX11_isTripped_24 : decode cX11_isTripped 24 = .ok (.iload_n 1, 1) := by decide +kernel
theorem dX11_isTripped_25 : decode cX11_isTripped 25 = .ok (.invokeinterface 101 2, 5) := by decide +kernel
theorem dX11_isTripped_30 : decode cX11_isTripped 30 = .ok (.checkcast 82, 3) := by decide +kernel
theorem dX11_isTripped_33 : decode cX11_isTripped 33 = .ok (.getfield 144, 3) := by decide +kernel
theorem dX11_isTripped_36 : decode cX11_isTripped 36 = .ok (.ifCond .eq 7, 3) := by decide +kernel
theorem dX11_isTripped_39 : decode cX11_isTripped 39 = .ok (.iconst 1, 1) := by decide +kernel
theorem dX11_isTripped_40 : decode cX11_isTripped 40 = .ok (.goto 4, 3) := by decide +kernel
theorem dX11_isTripped_43 : decode cX11_isTripped 43 = .ok (.iconst 0, 1) := by decide +kernel
theorem dX11_isTripped_44 : decode cX11_isTripped 44 = .ok (.ireturn, 1) := by decide +kernel
theorem dX11_fan_0 : decode cX11_fan 0 = .ok (.aload_n 0, 1) := by decide +kernel
theorem dX11_fan_1 : decode cX11_fan 1 = .ok (.iconst 0, 1) := by decide +kernel
theorem dX11_fan_2 : decode cX11_fan 2 = .ok (.putfield 43, 3) := by decide +kernel
theorem dX11_fan_5 : decode cX11_fan 5 = .ok (.aload_n 0, 1) := by decide +kernel
theorem dX11_fan_6 : decode cX11_fan 6 = .ok (.getfield 246, 3) := by decide +kernel
theorem dX11_fan_9 : decode cX11_fan 9 = .ok (.ireturn, 1) := by decide +kernel
theorem dX11_killFan_0 : decode cX11_killFan 0 = .ok (.aload_n 0, 1) := by decide +kernel
theorem dX11_killFan_1 : decode cX11_killFan 1 = .ok (.iconst 0, 1) := by decide +kernel
theorem dX11_killFan_2 : decode cX11_killFan 2 = .ok (.putfield 43, 3) := by decide +kernel
theorem dX11_killFan_5 : decode cX11_killFan 5 = .ok (.aload_n 0, 1) := by decide +kernel
theorem dX11_killFan_6 : decode cX11_killFan 6 = .ok (.getfield 249, 3) := by decide +kernel
theorem dX11_killFan_9 : decode cX11_killFan 9 = .ok (.istore_n 2, 1) := by decide +kernel
theorem dX11_killFan_10 : decode cX11_killFan 10 = .ok (.aload_n 0, 1) := by decide +kernel
theorem dX11_killFan_11 : decode cX11_killFan 11 = .ok (.iload_n 1, 1) := by decide +kernel
theorem dX11_killFan_12 : decode cX11_killFan 12 = .ok (.putfield 249, 3) := by decide +kernel
theorem dX11_killFan_15 : decode cX11_killFan 15 = .ok (.aload_n 0, 1) := by decide +kernel
theorem dX11_killFan_16 : decode cX11_killFan 16 = .ok (.iload_n 1, 1) := by decide +kernel
theorem dX11_killFan_17 : decode cX11_killFan 17 = .ok (.ifCond .eq 7, 3) := by decide +kernel
theorem dX11_killFan_20 : decode cX11_killFan 20 = .ok (.iconst 0, 1) := by decide +kernel
theorem dX11_killFan_21 : decode cX11_killFan 21 = .ok (.goto 7, 3) := by decide +kernel
theorem dX11_killFan_24 : decode cX11_killFan 24 = .ok (.aload_n 0, 1) := by decide +kernel
theorem dX11_killFan_25 : decode cX11_killFan 25 = .ok (.getfield 246, 3) := by decide +kernel
theorem dX11_killFan_28 : decode cX11_killFan 28 = .ok (.putfield 246, 3) := by decide +kernel
theorem dX11_killFan_31 : decode cX11_killFan 31 = .ok (.iload_n 2, 1) := by decide +kernel
theorem dX11_killFan_32 : decode cX11_killFan 32 = .ok (.ireturn, 1) := by decide +kernel
set_option maxRecDepth 20000 in
theorem ggX11_heatUp_X11_isCore : GoodIn wsX11_heatUp wsX11_isCore := goodIn_r _ [9, 1, 10, 11, 12, 13, 14, 15, 16, 17, 8, 18, 46, 47, 48, 49, 50, 51, 52, 53, 54, 55, 56, 57, 58, 59, 60, 61, 62, 63, 64, 65, 66, 67, 68, 69, 70, 71, 72, 92, 93, 94] (by decide +kernel) (by decide +kernel)
set_option maxRecDepth 20000 in
theorem gX11_heatUp_X11_isCore : GoodIn wsX11_heatUp (wsV RX11 91 RX11 yX11_isCore wsX11_isCore) := goodIn_app (goodIn_of _ (by decide +kernel)) ggX11_heatUp_X11_isCore
set_option maxRecDepth 20000 in
theorem ggX11_heatUp_X11_in : GoodIn wsX11_heatUp wsX11_in := goodIn_r _ [18] (by decide +kernel) (by decide +kernel)
set_option maxRecDepth 20000 in
theorem gX11_heatUp_X11_in : GoodIn wsX11_heatUp (va_wsS RX11 52 yX11_in wsX11_in) := goodIn_app (goodIn_of _ (by decide +kernel)) ggX11_heatUp_X11_in
set_option maxRecDepth 20000 in
theorem ggX11_heatUp_Jx4a65c_get_915e3 : GoodIn wsX11_heatUp wsJx4a65c_get_915e3 := goodIn_r _ [22, 15, 23, 24, 25, 26, 27, 28, 29, 30, 31, 32, 33, 13, 34, 35, 92, 93, 94] (by decide +kernel) (by decide +kernel)
set_option maxRecDepth 20000 in
theorem gX11_heatUp_Jx4a65c_get_915e3_f101Jx4a65c : GoodIn wsX11_heatUp (va_wsF RX11 101 RJx4a65c ⟨"java/util/List", "get", "(I)Ljava/lang/Object;"⟩ yJx4a65c_get_915e3 wsJx4a65c_get_915e3) := goodIn_app (goodIn_of _ (by decide +kernel)) ggX11_heatUp_Jx4a65c_get_915e3
set_option maxRecDepth 20000 in
theorem ggX11_heatUp_X11_fails : GoodIn wsX11_heatUp wsX11_fails := goodIn_r _ [39, 40, 46, 47, 48, 49, 50, 51, 52, 53, 54, 55, 56, 57, 58, 59, 60, 61, 62, 63, 64, 65, 66, 67, 68, 69, 70, 71, 72] (by decide +kernel) (by decide +kernel)
set_option maxRecDepth 20000 in
theorem gX11_heatUp_X11_fails : GoodIn wsX11_heatUp (wsV RX11 78 RX11 yX11_fails wsX11_fails) := goodIn_app (goodIn_of _ (by decide +kernel)) ggX11_heatUp_X11_fails
set_option maxRecDepth 20000 in
theorem ggX11_heatUp_X9_degrees : GoodIn wsX11_heatUp wsX9_degrees := goodIn_r _ [44, 45, 73, 74, 75, 76, 77, 78, 79, 80, 81, 82, 83, 84, 85, 86, 87, 88, 89, 90, 91] (by decide +kernel) (by decide +kernel)
set_option maxRecDepth 20000 in
theorem gX11_heatUp_X9_degrees_n133 : GoodIn wsX11_heatUp (wsX9_degrees) := ggX11_heatUp_X9_degrees
theorem dX11_heatUp_0 : decode cX11_heatUp 0 = .ok (.aload_n 0, 1) := by decide +kernel
theorem dX11_heatUp_1 : decode cX11_heatUp 1 = .ok (.aload_n 0, 1) := by decide +kernel
theorem dX11_heatUp_2 : decode cX11_heatUp 2 = .ok (.iload_n 1, 1) := by decide +kernel
theorem dX11_heatUp_3 : decode cX11_heatUp 3 = .ok (.invokevirtual 91, 3) := by decide +kernel
theorem dX11_heatUp_6 : decode cX11_heatUp 6 = .ok (.ifCond .ne 7, 3) := by decide +kernel
theorem dX11_heatUp_9 : decode cX11_heatUp 9 = .ok (.iconst 1, 1) := by decide +kernel
theorem dX11_heatUp_10 : decode cX11_heatUp 10 = .ok (.goto 46, 3) := by decide +kernel
theorem dX11_heatUp_13 : decode cX11_heatUp 13 = .ok (.iload_n 2, 1) := by decide +kernel
theorem dX11_heatUp_14 : decode cX11_heatUp 14 = .ok (.iconst 1, 1) := by decide +kernel
theorem dX11_heatUp_15 : decode cX11_heatUp 15 = .ok (.sipush 9999, 3) := by decide +kernel
theorem dX11_heatUp_18 : decode cX11_heatUp 18 = .ok (.invokestatic 52, 3) := by decide +kernel
theorem dX11_heatUp_21 : decode cX11_heatUp 21 = .ok (.ifCond .ne 7, 3) := by decide +kernel
theorem dX11_heatUp_24 : decode cX11_heatUp 24 = .ok (.iconst 2, 1) := by decide +kernel
theorem dX11_heatUp_25 : decode cX11_heatUp 25 = .ok (.goto 31, 3) := by decide +kernel
theorem dX11_heatUp_28 : decode cX11_heatUp 28 = .ok (.aload_n 0, 1) := by decide +kernel
theorem dX11_heatUp_29 : decode cX11_heatUp 29 = .ok (.getfield 10, 3) := by decide +kernel
theorem dX11_heatUp_32 : decode cX11_heatUp 32 = .ok (.iload_n 1, 1) := by decide +kernel
theorem dX11_heatUp_33 : decode cX11_heatUp 33 = .ok (.invokeinterface 101 2, 5) := by decide +kernel
theorem dX11_heatUp_38 : decode cX11_heatUp 38 = .ok (.checkcast 82, 3) := by decide +kernel
theorem dX11_heatUp_41 : decode cX11_heatUp 41 = .ok (.getfield 243, 3) := by decide +kernel
theorem dX11_heatUp_44 : decode cX11_heatUp 44 = .ok (.iload_n 2, 1) := by decide +kernel
theorem dX11_heatUp_45 : decode cX11_heatUp 45 = .ok (.iadd, 1) := by decide +kernel
theorem dX11_heatUp_46 : decode cX11_heatUp 46 = .ok (.ldc 94, 2) := by decide +kernel
theorem dX11_heatUp_48 : decode cX11_heatUp 48 = .ok (.if_icmp .le 7, 3) := by decide +kernel
theorem dX11_heatUp_51 : decode cX11_heatUp 51 = .ok (.iconst 3, 1) := by decide +kernel
theorem dX11_heatUp_52 : decode cX11_heatUp 52 = .ok (.goto 4, 3) := by decide +kernel
theorem dX11_heatUp_55 : decode cX11_heatUp 55 = .ok (.iconst 0, 1) := by decide +kernel
theorem dX11_heatUp_56 : decode cX11_heatUp 56 = .ok (.invokevirtual 78, 3) := by decide +kernel
theorem dX11_heatUp_59 : decode cX11_heatUp 59 = .ok (.ifCond .eq 5, 3) := by decide +kernel
theorem dX11_heatUp_62 : decode cX11_heatUp 62 = .ok (.iconst 0, 1) := by decide +kernel
theorem dX11_heatUp_63 : decode cX11_heatUp 63 = .ok (.ireturn, 1) := by decide +kernel
theorem dX11_heatUp_64 : decode cX11_heatUp 64 = .ok (.aload_n 0, 1) := by decide +kernel
theorem dX11_heatUp_65 : decode cX11_heatUp 65 = .ok (.getfield 10, 3) := by decide +kernel
theorem dX11_heatUp_68 : decode cX11_heatUp 68 = .ok (.iload_n 1, 1) := by decide +kernel
theorem dX11_heatUp_69 : decode cX11_heatUp 69 = .ok (.invokeinterface 101 2, 5) := by decide +kernel
theorem dX11_heatUp_74 : decode cX11_heatUp 74 = .ok (.checkcast 82, 3) := by decide +kernel
theorem dX11_heatUp_77 : decode cX11_heatUp 77 = .ok (.dup, 1) := by decide +kernel
theorem dX11_heatUp_78 : decode cX11_heatUp 78 = .ok (.getfield 243, 3) := by decide +kernel
theorem dX11_heatUp_81 : decode cX11_heatUp 81 = .ok (.iload_n 2, 1) := by decide +kernel
theorem dX11_heatUp_82 : decode cX11_heatUp 82 = .ok (.iadd, 1) := by decide +kernel
theorem dX11_heatUp_83 : decode cX11_heatUp 83 = .ok (.putfield 243, 3) := by decide +kernel
theorem dX11_heatUp_86 : decode cX11_heatUp 86 = .ok (.aload_n 0, 1) := by decide +kernel
theorem dX11_heatUp_87 : decode cX11_heatUp 87 = .ok (.dup, 1) := by decide +kernel
theorem dX11_heatUp_88 : decode cX11_heatUp 88 = .ok (.getfield 274, 3) := by decide +kernel
theorem dX11_heatUp_91 : decode cX11_heatUp 91 = .ok (.iload_n 2, 1) := by decide +kernel
theorem dX11_heatUp_92 : decode cX11_heatUp 92 = .ok (.i2l, 1) := by decide +kernel
theorem dX11_heatUp_93 : decode cX11_heatUp 93 = .ok (.ladd, 1) := by decide +kernel
theorem dX11_heatUp_94 : decode cX11_heatUp 94 = .ok (.putfield 274, 3) := by decide +kernel
theorem dX11_heatUp_97 : decode cX11_heatUp 97 = .ok (.aload_n 0, 1) := by decide +kernel
theorem dX11_heatUp_98 : decode cX11_heatUp 98 = .ok (.getfield 10, 3) := by decide +kernel
theorem dX11_heatUp_101 : decode cX11_heatUp 101 = .ok (.iload_n 1, 1) := by decide +kernel
theorem dX11_heatUp_102 : decode cX11_heatUp 102 = .ok (.invokeinterface 101 2, 5) := by decide +kernel
theorem dX11_heatUp_107 : decode cX11_heatUp 107 = .ok (.checkcast 82, 3) := by decide +kernel
theorem dX11_heatUp_110 : decode cX11_heatUp 110 = .ok (.invokevirtual 133, 3) := by decide +kernel
theorem dX11_heatUp_113 : decode cX11_heatUp 113 = .ok (.ireturn, 1) := by decide +kernel
set_option maxRecDepth 20000 in
theorem ggX11_wall_X11_in : GoodIn wsX11_wall wsX11_in := goodIn_r _ [5] (by decide +kernel) (by decide +kernel)
set_option maxRecDepth 20000 in
theorem gX11_wall_X11_in : GoodIn wsX11_wall (va_wsS RX11 52 yX11_in wsX11_in) := goodIn_app (goodIn_of _ (by decide +kernel)) ggX11_wall_X11_in
set_option maxRecDepth 20000 in
theorem ggX11_wall_X11_fails : GoodIn wsX11_wall wsX11_fails := goodIn_r _ [9, 10, 11, 12, 13, 14, 15, 16, 17, 18, 19, 20, 21, 22, 23, 24, 25, 26, 27, 28, 29, 30, 31, 32, 33, 34, 35, 36, 37] (by decide +kernel) (by decide +kernel)
set_option maxRecDepth 20000 in
theorem gX11_wall_X11_fails : GoodIn wsX11_wall (wsV RX11 78 RX11 yX11_fails wsX11_fails) := goodIn_app (goodIn_of _ (by decide +kernel)) ggX11_wall_X11_fails
theorem dX11_wall_0 : decode cX11_wall 0 = .ok (.aload_n 0, 1) := by decide +kernel
theorem dX11_wall_1 : decode cX11_wall 1 = .ok (.iload_n 1, 1) := by decide +kernel
theorem dX11_wall_2 : decode cX11_wall 2 = .ok (.iconst 0, 1) := by decide +kernel
theorem dX11_wall_3 : decode cX11_wall 3 = .ok (.sipush 999, 3) := by decide +kernel
theorem dX11_wall_6 : decode cX11_wall 6 = .ok (.invokestatic 52, 3) := by decide +kernel
theorem dX11_wall_9 : decode cX11_wall 9 = .ok (.ifCond .eq 7, 3) := by decide +kernel
theorem dX11_wall_12 : decode cX11_wall 12 = .ok (.iconst 0, 1) := by decide +kernel
theorem dX11_wall_13 : decode cX11_wall 13 = .ok (.goto 4, 3) := by decide +kernel
theorem dX11_wall_16 : decode cX11_wall 16 = .ok (.iconst 1, 1) := by decide +kernel
theorem dX11_wall_17 : decode cX11_wall 17 = .ok (.invokevirtual 78, 3) := by decide +kernel
theorem dX11_wall_20 : decode cX11_wall 20 = .ok (.ifCond .eq 5, 3) := by decide +kernel
theorem dX11_wall_23 : decode cX11_wall 23 = .ok (.iconst 0, 1) := by decide +kernel
theorem dX11_wall_24 : decode cX11_wall 24 = .ok (.ireturn, 1) := by decide +kernel
theorem dX11_wall_25 : decode cX11_wall 25 = .ok (.aload_n 0, 1) := by decide +kernel
theorem dX11_wall_26 : decode cX11_wall 26 = .ok (.getfield 30, 3) := by decide +kernel
theorem dX11_wall_29 : decode cX11_wall 29 = .ok (.istore_n 2, 1) := by decide +kernel
theorem dX11_wall_30 : decode cX11_wall 30 = .ok (.aload_n 0, 1) := by decide +kernel
theorem dX11_wall_31 : decode cX11_wall 31 = .ok (.iload_n 1, 1) := by decide +kernel
theorem dX11_wall_32 : decode cX11_wall 32 = .ok (.putfield 30, 3) := by decide +kernel
theorem dX11_wall_35 : decode cX11_wall 35 = .ok (.iload_n 2, 1) := by decide +kernel
theorem dX11_wall_36 : decode cX11_wall 36 = .ok (.ireturn, 1) := by decide +kernel
theorem dX11_battery_0 : decode cX11_battery 0 = .ok (.aload_n 0, 1) := by decide +kernel
theorem dX11_battery_1 : decode cX11_battery 1 = .ok (.iconst 0, 1) := by decide +kernel
theorem dX11_battery_2 : decode cX11_battery 2 = .ok (.putfield 43, 3) := by decide +kernel
theorem dX11_battery_5 : decode cX11_battery 5 = .ok (.aload_n 0, 1) := by decide +kernel
theorem dX11_battery_6 : decode cX11_battery 6 = .ok (.getfield 33, 3) := by decide +kernel
theorem dX11_battery_9 : decode cX11_battery 9 = .ok (.ireturn, 1) := by decide +kernel
theorem dX11_purse_0 : decode cX11_purse 0 = .ok (.aload_n 0, 1) := by decide +kernel
theorem dX11_purse_1 : decode cX11_purse 1 = .ok (.iconst 0, 1) := by decide +kernel
theorem dX11_purse_2 : decode cX11_purse 2 = .ok (.putfield 43, 3) := by decide +kernel
theorem dX11_purse_5 : decode cX11_purse 5 = .ok (.aload_n 0, 1) := by decide +kernel
theorem dX11_purse_6 : decode cX11_purse 6 = .ok (.getfield 36, 3) := by decide +kernel
theorem dX11_purse_9 : decode cX11_purse 9 = .ok (.ireturn, 1) := by decide +kernel
theorem dX11_taken_0 : decode cX11_taken 0 = .ok (.aload_n 0, 1) := by decide +kernel
theorem dX11_taken_1 : decode cX11_taken 1 = .ok (.iconst 0, 1) := by decide +kernel
theorem dX11_taken_2 : decode cX11_taken 2 = .ok (.putfield 43, 3) := by decide +kernel
theorem dX11_taken_5 : decode cX11_taken 5 = .ok (.aload_n 0, 1) := by decide +kernel
theorem dX11_taken_6 : decode cX11_taken 6 = .ok (.getfield 256, 3) := by decide +kernel
theorem dX11_taken_9 : decode cX11_taken 9 = .ok (.ireturn, 1) := by decide +kernel
theorem dX11_owed_0 : decode cX11_owed 0 = .ok (.aload_n 0, 1) := by decide +kernel
theorem dX11_owed_1 : decode cX11_owed 1 = .ok (.iconst 0, 1) := by decide +kernel
theorem dX11_owed_2 : decode cX11_owed 2 = .ok (.putfield 43, 3) := by decide +kernel
theorem dX11_owed_5 : decode cX11_owed 5 = .ok (.aload_n 0, 1) := by decide +kernel
theorem dX11_owed_6 : decode cX11_owed 6 = .ok (.getfield 211, 3) := by decide +kernel
theorem dX11_owed_9 : decode cX11_owed 9 = .ok (.ireturn, 1) := by decide +kernel
set_option maxRecDepth 20000 in
theorem ggX11_request_X11_in : GoodIn wsX11_request wsX11_in := goodIn_r _ [9] (by decide +kernel) (by decide +kernel)
set_option maxRecDepth 20000 in
theorem gX11_request_X11_in : GoodIn wsX11_request (va_wsS RX11 52 yX11_in wsX11_in) := goodIn_app (goodIn_of _ (by decide +kernel)) ggX11_request_X11_in
set_option maxRecDepth 20000 in
theorem ggX11_request_X11_fails : GoodIn wsX11_request wsX11_fails := goodIn_r _ [13, 14, 15, 16, 17, 18, 19, 20, 21, 22, 23, 24, 25, 26, 27, 28, 29, 30, 31, 32, 33, 34, 35, 36, 37, 38, 39, 40, 41] (by decide +kernel) (by decide +kernel)
set_option maxRecDepth 20000 in
theorem gX11_request_X11_fails : GoodIn wsX11_request (wsV RX11 78 RX11 yX11_fails wsX11_fails) := goodIn_app (goodIn_of _ (by decide +kernel)) ggX11_request_X11_fails
theorem dX11_request_0 : decode cX11_request 0 = .ok (.iload_n 1, 1) := by decide +kernel
theorem dX11_request_1 : decode cX11_request 1 = .ok (.iconst 1, 1) := by decide +kernel
theorem dX11_request_2 : decode cX11_request 2 = .ok (.sipush 9999, 3) := by decide +kernel
theorem dX11_request_5 : decode cX11_request 5 = .ok (.invokestatic 52, 3) := by decide +kernel
theorem dX11_request_8 : decode cX11_request 8 = .ok (.ifCond .ne 8, 3) := by decide +kernel
theorem dX11_request_11 : decode cX11_request 11 = .ok (.bipush 110, 2) := by decide +kernel
theorem dX11_request_13 : decode cX11_request 13 = .ok (.goto 33, 3) := by decide +kernel
theorem dX11_request_16 : decode cX11_request 16 = .ok (.iload_n 2, 1) := by decide +kernel
theorem dX11_request_17 : decode cX11_request 17 = .ok (.iconst 0, 1) := by decide +kernel
theorem dX11_request_18 : decode cX11_request 18 = .ok (.bipush 7, 2) := by decide +kernel
theorem dX11_request_20 : decode cX11_request 20 = .ok (.invokestatic 52, 3) := by decide +kernel
theorem dX11_request_23 : decode cX11_request 23 = .ok (.ifCond .ne 8, 3) := by decide +kernel
theorem dX11_request_26 : decode cX11_request 26 = .ok (.bipush 118, 2) := by decide +kernel
theorem dX11_request_28 : decode cX11_request 28 = .ok (.goto 18, 3) := by decide +kernel
theorem dX11_request_31 : decode cX11_request 31 = .ok (.iload_n 1, 1) := by decide +kernel
theorem dX11_request_32 : decode cX11_request 32 = .ok (.aload_n 0, 1) := by decide +kernel
theorem dX11_request_33 : decode cX11_request 33 = .ok (.getfield 277, 3) := by decide +kernel
theorem dX11_request_36 : decode cX11_request 36 = .ok (.if_icmp .gt 8, 3) := by decide +kernel
theorem dX11_request_39 : decode cX11_request 39 = .ok (.bipush 115, 2) := by decide +kernel
theorem dX11_request_41 : decode cX11_request 41 = .ok (.goto 5, 3) := by decide +kernel
theorem dX11_request_44 : decode cX11_request 44 = .ok (.bipush 45, 2) := by decide +kernel
theorem dX11_request_46 : decode cX11_request 46 = .ok (.istore_n 3, 1) := by decide +kernel
theorem dX11_request_47 : decode cX11_request 47 = .ok (.aload_n 0, 1) := by decide +kernel
theorem dX11_request_48 : decode cX11_request 48 = .ok (.iload_n 3, 1) := by decide +kernel
theorem dX11_request_49 : decode cX11_request 49 = .ok (.bipush 45, 2) := by decide +kernel
theorem dX11_request_51 : decode cX11_request 51 = .ok (.if_icmp .ne 7, 3) := by decide +kernel
theorem dX11_request_54 : decode cX11_request 54 = .ok (.iconst 0, 1) := by decide +kernel
theorem dX11_request_55 : decode cX11_request 55 = .ok (.goto 14, 3) := by decide +kernel
theorem dX11_request_58 : decode cX11_request 58 = .ok (.iload_n 3, 1) := by decide +kernel
theorem dX11_request_59 : decode cX11_request 59 = .ok (.bipush 115, 2) := by decide +kernel
theorem dX11_request_61 : decode cX11_request 61 = .ok (.if_icmp .ne 7, 3) := by decide +kernel
theorem dX11_request_64 : decode cX11_request 64 = .ok (.iconst 2, 1) := by decide +kernel
theorem dX11_request_65 : decode cX11_request 65 = .ok (.goto 4, 3) := by decide +kernel
theorem dX11_request_68 : decode cX11_request 68 = .ok (.iconst 1, 1) := by decide +kernel
theorem dX11_request_69 : decode cX11_request 69 = .ok (.invokevirtual 78, 3) := by decide +kernel
theorem dX11_request_72 : decode cX11_request 72 = .ok (.ifCond .eq 10, 3) := by decide +kernel
theorem dX11_request_75 : decode cX11_request 75 = .ok (.aload_n 0, 1) := by decide +kernel
theorem dX11_request_76 : decode cX11_request 76 = .ok (.iload_n 3, 1) := by decide +kernel
theorem dX11_request_77 : decode cX11_request 77 = .ok (.putfield 39, 3) := by decide +kernel
theorem dX11_request_80 : decode cX11_request 80 = .ok (.iconst 0, 1) := by decide +kernel
theorem dX11_request_81 : decode cX11_request 81 = .ok (.ireturn, 1) := by decide +kernel
theorem dX11_request_82 : decode cX11_request 82 = .ok (.aload_n 0, 1) := by decide +kernel
theorem dX11_request_83 : decode cX11_request 83 = .ok (.iload_n 1, 1) := by decide +kernel
theorem dX11_request_84 : decode cX11_request 84 = .ok (.putfield 277, 3) := by decide +kernel
theorem dX11_request_87 : decode cX11_request 87 = .ok (.aload_n 0, 1) := by decide +kernel
theorem dX11_request_88 : decode cX11_request 88 = .ok (.iload_n 1, 1) := by decide +kernel
theorem dX11_request_89 : decode cX11_request 89 = .ok (.putfield 121, 3) := by decide +kernel
theorem dX11_request_92 : decode cX11_request 92 = .ok (.aload_n 0, 1) := by decide +kernel
theorem dX11_request_93 : decode cX11_request 93 = .ok (.iload_n 2, 1) := by decide +kernel
theorem dX11_request_94 : decode cX11_request 94 = .ok (.putfield 127, 3) := by decide +kernel
theorem dX11_request_97 : decode cX11_request 97 = .ok (.aload_n 0, 1) := by decide +kernel
theorem dX11_request_98 : decode cX11_request 98 = .ok (.dup, 1) := by decide +kernel
theorem dX11_request_99 : decode cX11_request 99 = .ok (.getfield 280, 3) := by decide +kernel
theorem dX11_request_102 : decode cX11_request 102 = .ok (.iconst 1, 1) := by decide +kernel
theorem dX11_request_103 : decode cX11_request 103 = .ok (.iadd, 1) := by decide +kernel
theorem dX11_request_104 : decode cX11_request 104 = .ok (.putfield 280, 3) := by decide +kernel
theorem dX11_request_107 : decode cX11_request 107 = .ok (.aload_n 0, 1) := by decide +kernel
theorem dX11_request_108 : decode cX11_request 108 = .ok (.getfield 280, 3) := by decide +kernel
theorem dX11_request_111 : decode cX11_request 111 = .ok (.ireturn, 1) := by decide +kernel
theorem dX11_holds_0 : decode cX11_holds 0 = .ok (.aload_n 0, 1) := by decide +kernel
theorem dX11_holds_1 : decode cX11_holds 1 = .ok (.iconst 0, 1) := by decide +kernel
theorem dX11_holds_2 : decode cX11_holds 2 = .ok (.putfield 43, 3) := by decide +kernel
theorem dX11_holds_5 : decode cX11_holds 5 = .ok (.aload_n 0, 1) := by decide +kernel
theorem dX11_holds_6 : decode cX11_holds 6 = .ok (.getfield 124, 3) := by decide +kernel
theorem dX11_holds_9 : decode cX11_holds 9 = .ok (.ireturn, 1) := by decide +kernel
theorem dX11_why_0 : decode cX11_why 0 = .ok (.aload_n 0, 1) := by decide +kernel
theorem dX11_why_1 : decode cX11_why 1 = .ok (.iconst 0, 1) := by decide +kernel
theorem dX11_why_2 : decode cX11_why 2 = .ok (.putfield 43, 3) := by decide +kernel
theorem dX11_why_5 : decode cX11_why 5 = .ok (.aload_n 0, 1) := by decide +kernel
theorem dX11_why_6 : decode cX11_why 6 = .ok (.getfield 39, 3) := by decide +kernel
theorem dX11_why_9 : decode cX11_why 9 = .ok (.ireturn, 1) := by decide +kernel
theorem dX11_drop_0 : decode cX11_drop 0 = .ok (.aload_n 0, 1) := by decide +kernel
theorem dX11_drop_1 : decode cX11_drop 1 = .ok (.iconst 0, 1) := by decide +kernel
theorem dX11_drop_2 : decode cX11_drop 2 = .ok (.putfield 43, 3) := by decide +kernel
theorem dX11_drop_5 : decode cX11_drop 5 = .ok (.aload_n 0, 1) := by decide +kernel
theorem dX11_drop_6 : decode cX11_drop 6 = .ok (.getfield 124, 3) := by decide +kernel
theorem dX11_drop_9 : decode cX11_drop 9 = .ok (.ifCond .gt 10, 3) := by decide +kernel
theorem dX11_drop_12 : decode cX11_drop 12 = .ok (.aload_n 0, 1) := by decide +kernel
theorem dX11_drop_13 : decode cX11_drop 13 = .ok (.getfield 121, 3) := by decide +kernel
theorem dX11_drop_16 : decode cX11_drop 16 = .ok (.ifCond .le 7, 3) := by decide +kernel
theorem dX11_drop_19 : decode cX11_drop 19 = .ok (.iconst 1, 1) := by decide +kernel
theorem dX11_drop_20 : decode cX11_drop 20 = .ok (.goto 4, 3) := by decide +kernel
theorem dX11_drop_23 : decode cX11_drop 23 = .ok (.iconst 0, 1) := by decide +kernel
theorem dX11_drop_24 : decode cX11_drop 24 = .ok (.istore_n 1, 1) := by decide +kernel
theorem dX11_drop_25 : decode cX11_drop 25 = .ok (.aload_n 0, 1) := by decide +kernel
theorem dX11_drop_26 : decode cX11_drop 26 = .ok (.iconst 0, 1) := by decide +kernel
theorem dX11_drop_27 : decode cX11_drop 27 = .ok (.putfield 124, 3) := by decide +kernel
theorem dX11_drop_30 : decode cX11_drop 30 = .ok (.aload_n 0, 1) := by decide +kernel
theorem dX11_drop_31 : decode cX11_drop 31 = .ok (.iconst 0, 1) := by decide +kernel
theorem dX11_drop_32 : decode cX11_drop 32 = .ok (.putfield 121, 3) := by decide +kernel
theorem dX11_drop_35 : decode cX11_drop 35 = .ok (.iload_n 1, 1) := by decide +kernel
theorem dX11_drop_36 : decode cX11_drop 36 = .ok (.ireturn, 1) := by decide +kernel
set_option maxRecDepth 20000 in
theorem ggX11_age_X11_isCore : GoodIn wsX11_age wsX11_isCore := goodIn_r _ [7, 1, 8, 9, 10, 11, 12, 13, 14, 15, 6, 16, 44, 45, 46, 47, 48, 49, 50, 51, 52, 53, 54, 55, 56, 57, 58, 59, 60, 61, 62, 63, 64, 65, 66, 67, 68, 69, 70, 71, 72, 73] (by decide +kernel) (by decide +kernel)
set_option maxRecDepth 20000 in
theorem gX11_age_X11_isCore : GoodIn wsX11_age (wsV RX11 91 RX11 yX11_isCore wsX11_isCore) := goodIn_app (goodIn_of _ (by decide +kernel)) ggX11_age_X11_isCore
set_option maxRecDepth 20000 in
theorem ggX11_age_X11_fails : GoodIn wsX11_age wsX11_fails := goodIn_r _ [20, 21, 44, 45, 46, 47, 48, 49, 50, 51, 52, 53, 54, 55, 56, 57, 58, 59, 60, 61, 62, 63, 64, 65, 66, 67, 68, 69, 70] (by decide +kernel) (by decide +kernel)
set_option maxRecDepth 20000 in
theorem gX11_age_X11_fails : GoodIn wsX11_age (wsV RX11 78 RX11 yX11_fails wsX11_fails) := goodIn_app (goodIn_of _ (by decide +kernel)) ggX11_age_X11_fails
set_option maxRecDepth 20000 in
theorem ggX11_age_Jx4a65c_get_915e3 : GoodIn wsX11_age wsJx4a65c_get_915e3 := goodIn_r _ [25, 13, 26, 27, 28, 29, 30, 31, 32, 33, 34, 35, 36, 11, 37, 38, 71, 72, 73] (by decide +kernel) (by decide +kernel)
set_option maxRecDepth 20000 in
theorem gX11_age_Jx4a65c_get_915e3_f101Jx4a65c : GoodIn wsX11_age (va_wsF RX11 101 RJx4a65c ⟨"java/util/List", "get", "(I)Ljava/lang/Object;"⟩ yJx4a65c_get_915e3 wsJx4a65c_get_915e3) := goodIn_app (goodIn_of _ (by decide +kernel)) ggX11_age_Jx4a65c_get_915e3
set_option maxRecDepth 20000 in
theorem ggX11_age_X9_age : GoodIn wsX11_age wsX9_age := goodIn_r _ [42, 43, 74, 75, 76, 77, 78, 79, 80, 81, 82, 83, 84, 85, 86, 87, 88, 89, 90, 91, 92] (by decide +kernel) (by decide +kernel)
set_option maxRecDepth 20000 in
theorem gX11_age_X9_age_n283 : GoodIn wsX11_age (wsX9_age) := ggX11_age_X9_age
theorem dX11_age_0 : decode cX11_age 0 = .ok (.aload_n 0, 1) := by decide +kernel
theorem dX11_age_1 : decode cX11_age 1 = .ok (.aload_n 0, 1) := by decide +kernel
theorem dX11_age_2 : decode cX11_age 2 = .ok (.iload_n 1, 1) := by decide +kernel
theorem dX11_age_3 : decode cX11_age 3 = .ok (.invokevirtual 91, 3) := by decide +kernel
theorem dX11_age_6 : decode cX11_age 6 = .ok (.ifCond .eq 7, 3) := by decide +kernel
theorem dX11_age_9 : decode cX11_age 9 = .ok (.iconst 0, 1) := by decide +kernel
theorem dX11_age_10 : decode cX11_age 10 = .ok (.goto 4, 3) := by decide +kernel
theorem dX11_age_13 : decode cX11_age 13 = .ok (.iconst 1, 1) := by decide +kernel
theorem dX11_age_14 : decode cX11_age 14 = .ok (.invokevirtual 78, 3) := by decide +kernel
theorem dX11_age_17 : decode cX11_age 17 = .ok (.ifCond .eq 7, 3) := by decide +kernel
theorem dX11_age_20 : decode cX11_age 20 = .ok (.iconst 0, 1) := by decide +kernel
theorem dX11_age_21 : decode cX11_age 21 = .ok (.goto 19, 3) := by decide +kernel
theorem dX11_age_24 : decode cX11_age 24 = .ok (.aload_n 0, 1) := by decide +kernel
theorem dX11_age_25 : decode cX11_age 25 = .ok (.getfield 10, 3) := by decide +kernel
theorem dX11_age_28 : decode cX11_age 28 = .ok (.iload_n 1, 1) := by decide +kernel
theorem dX11_age_29 : decode cX11_age 29 = .ok (.invokeinterface 101 2, 5) := by decide +kernel
theorem dX11_age_34 : decode cX11_age 34 = .ok (.checkcast 82, 3) := by decide +kernel
theorem dX11_age_37 : decode cX11_age 37 = .ok (.invokevirtual 283, 3) := by decide +kernel
theorem dX11_age_40 : decode cX11_age 40 = .ok (.ireturn, 1) := by decide +kernel
set_option maxRecDepth 20000 in
theorem ggX11_isRetired_X11_isCore : GoodIn wsX11_isRetired wsX11_isCore := goodIn_r _ [7, 1, 8, 9, 10, 11, 12, 13, 14, 15, 6, 16, 48, 49, 50, 51, 52, 53, 54, 55, 56, 57, 58, 59, 60, 61, 62, 63, 64, 65, 66, 67, 68, 69, 70, 71, 72, 73, 74, 75, 76, 77] (by decide +kernel) (by decide +kernel)
set_option maxRecDepth 20000 in
theorem gX11_isRetired_X11_isCore : GoodIn wsX11_isRetired (wsV RX11 91 RX11 yX11_isCore wsX11_isCore) := goodIn_app (goodIn_of _ (by decide +kernel)) ggX11_isRetired_X11_isCore
set_option maxRecDepth 20000 in
theorem ggX11_isRetired_X11_fails : GoodIn wsX11_isRetired wsX11_fails := goodIn_r _ [20, 21, 48, 49, 50, 51, 52, 53, 54, 55, 56, 57, 58, 59, 60, 61, 62, 63, 64, 65, 66, 67, 68, 69, 70, 71, 72, 73, 74] (by decide +kernel) (by decide +kernel)
set_option maxRecDepth 20000 in
theorem gX11_isRetired_X11_fails : GoodIn wsX11_isRetired (wsV RX11 78 RX11 yX11_fails wsX11_fails) := goodIn_app (goodIn_of _ (by decide +kernel)) ggX11_isRetired_X11_fails
set_option maxRecDepth 20000 in
theorem ggX11_isRetired_Jx4a65c_get_915e3 : GoodIn wsX11_isRetired wsJx4a65c_get_915e3 := goodIn_r _ [25, 13, 26, 27, 28, 29, 30, 31, 32, 33, 34, 35, 36, 11, 37, 38, 75, 76, 77] (by decide +kernel) (by decide +kernel)
set_option maxRecDepth 20000 in
theorem gX11_isRetired_Jx4a65c_get_915e3_f101Jx4a65c : GoodIn wsX11_isRetired (va_wsF RX11 101 RJx4a65c ⟨"java/util/List", "get", "(I)Ljava/lang/Object;"⟩ yJx4a65c_get_915e3 wsJx4a65c_get_915e3) := goodIn_app (goodIn_of _ (by decide +kernel)) ggX11_isRetired_Jx4a65c_get_915e3
set_option maxRecDepth 20000 in
theorem ggX11_isRetired_X9_isRetired : GoodIn wsX11_isRetired wsX9_isRetired := goodIn_r _ [42, 43, 44, 45, 40, 46, 47, 78, 79, 80, 81, 82, 83, 84, 85, 86, 87, 88, 89, 90, 91, 92, 93, 94, 95, 96] (by decide +kernel) (by decide +kernel)
set_option maxRecDepth 20000 in
theorem gX11_isRetired_X9_isRetired_n208 : GoodIn wsX11_isRetired (wsX9_isRetired) := ggX11_isRetired_X9_isRetired
theorem dX11_isRetired_0 : decode cX11_isRetired 0 = .ok (.aload_n 0, 1) := by decide +kernel
theorem dX11_isRetired_1 : decode cX11_isRetired 1 = .ok (.aload_n 0, 1) := by decide +kernel
theorem dX11_isRetired_2 : decode cX11_isRetired 2 = .ok (.iload_n 1, 1) := by decide +kernel
theorem dX11_isRetired_3 : decode cX11_isRetired 3 = .ok (.invokevirtual 91, 3) := by decide +kernel
theorem dX11_isRetired_6 : decode cX11_isRetired 6 = .ok (.ifCond .eq 7, 3) := by decide +kernel
theorem dX11_isRetired_9 : decode cX11_isRetired 9 = .ok (.iconst 0, 1) := by decide +kernel
theorem dX11_isRetired_10 : decode cX11_isRetired 10 = .ok (.goto 4, 3) := by decide +kernel
theorem dX11_isRetired_13 : decode cX11_isRetired 13 = .ok (.iconst 1, 1) := by decide +kernel
theorem dX11_isRetired_14 : decode cX11_isRetired 14 = .ok (.invokevirtual 78, 3) := by decide +kernel
theorem dX11_isRetired_17 : decode cX11_isRetired 17 = .ok (.ifCond .ne 26, 3) := by decide +kernel
theorem dX11_isRetired_20 : decode cX11_isRetired 20 = .ok (.aload_n 0, 1) := by decide +kernel
theorem dX11_isRetired_21 : decode cX11_isRetired 21 = .ok (.getfield 10, 3) := by decide +kernel
theorem dX11_isRetired_24 : decode cX11_isRetired 24 = .ok (.iload_n 1, 1) := by decide +kernel
theorem dX11_isRetired_25 : decode cX11_isRetired 25 = .ok (.invokeinterface 101 2, 5) := by decide +kernel
theorem dX11_isRetired_30 : decode cX11_isRetired 30 = .ok (.checkcast 82, 3) := by decide +kernel
theorem dX11_isRetired_33 : decode cX11_isRetired 33 = .ok (.invokevirtual 208, 3) := by decide +kernel
theorem dX11_isRetired_36 : decode cX11_isRetired 36 = .ok (.ifCond .eq 7, 3) := by decide +kernel
theorem dX11_isRetired_39 : decode cX11_isRetired 39 = .ok (.iconst 1, 1) := by decide +kernel
theorem dX11_isRetired_40 : decode cX11_isRetired 40 = .ok (.goto 4, 3) := by decide +kernel
theorem dX11_isRetired_43 : decode cX11_isRetired 43 = .ok (.iconst 0, 1) := by decide +kernel
theorem dX11_isRetired_44 : decode cX11_isRetired 44 = .ok (.ireturn, 1) := by decide +kernel
set_option maxRecDepth 20000 in
theorem ggX11_wear_X11_isCore : GoodIn wsX11_wear wsX11_isCore := goodIn_r _ [7, 1, 8, 9, 10, 11, 12, 13, 14, 15, 6, 16, 39, 40, 41, 42, 43, 44, 45, 46, 47, 48, 49, 50, 51, 52, 53, 54, 55, 56, 57, 58, 59, 60, 61, 62, 63, 64, 65, 85, 86, 87] (by decide +kernel) (by decide +kernel)
set_option maxRecDepth 20000 in
theorem gX11_wear_X11_isCore : GoodIn wsX11_wear (wsV RX11 91 RX11 yX11_isCore wsX11_isCore) := goodIn_app (goodIn_of _ (by decide +kernel)) ggX11_wear_X11_isCore
set_option maxRecDepth 20000 in
theorem ggX11_wear_X11_in : GoodIn wsX11_wear wsX11_in := goodIn_r _ [16] (by decide +kernel) (by decide +kernel)
set_option maxRecDepth 20000 in
theorem gX11_wear_X11_in : GoodIn wsX11_wear (va_wsS RX11 52 yX11_in wsX11_in) := goodIn_app (goodIn_of _ (by decide +kernel)) ggX11_wear_X11_in
set_option maxRecDepth 20000 in
theorem ggX11_wear_Jx4a65c_get_915e3 : GoodIn wsX11_wear wsJx4a65c_get_915e3 := goodIn_r _ [20, 13, 21, 22, 23, 24, 25, 26, 27, 28, 29, 30, 31, 11, 32, 33, 85, 86, 87] (by decide +kernel) (by decide +kernel)
set_option maxRecDepth 20000 in
theorem gX11_wear_Jx4a65c_get_915e3_f101Jx4a65c : GoodIn wsX11_wear (va_wsF RX11 101 RJx4a65c ⟨"java/util/List", "get", "(I)Ljava/lang/Object;"⟩ yJx4a65c_get_915e3 wsJx4a65c_get_915e3) := goodIn_app (goodIn_of _ (by decide +kernel)) ggX11_wear_Jx4a65c_get_915e3
set_option maxRecDepth 20000 in
theorem ggX11_wear_X11_fails : GoodIn wsX11_wear wsX11_fails := goodIn_r _ [37, 38, 39, 40, 41, 42, 43, 44, 45, 46, 47, 48, 49, 50, 51, 52, 53, 54, 55, 56, 57, 58, 59, 60, 61, 62, 63, 64, 65] (by decide +kernel) (by decide +kernel)
set_option maxRecDepth 20000 in
theorem gX11_wear_X11_fails : GoodIn wsX11_wear (wsV RX11 78 RX11 yX11_fails wsX11_fails) := goodIn_app (goodIn_of _ (by decide +kernel)) ggX11_wear_X11_fails
theorem dX11_wear_0 : decode cX11_wear 0 = .ok (.aload_n 0, 1) := by decide +kernel
theorem dX11_wear_1 : decode cX11_wear 1 = .ok (.aload_n 0, 1) := by decide +kernel
theorem dX11_wear_2 : decode cX11_wear 2 = .ok (.iload_n 1, 1) := by decide +kernel
theorem dX11_wear_3 : decode cX11_wear 3 = .ok (.invokevirtual 91, 3) := by decide +kernel
theorem dX11_wear_6 : decode cX11_wear 6 = .ok (.ifCond .ne 7, 3) := by decide +kernel
theorem dX11_wear_9 : decode cX11_wear 9 = .ok (.iconst 1, 1) := by decide +kernel
theorem dX11_wear_10 : decode cX11_wear 10 = .ok (.goto 47, 3) := by decide +kernel
theorem dX11_wear_13 : decode cX11_wear 13 = .ok (.iload_n 2, 1) := by decide +kernel
theorem dX11_wear_14 : decode cX11_wear 14 = .ok (.iconst 1, 1) := by decide +kernel
theorem dX11_wear_15 : decode cX11_wear 15 = .ok (.sipush 999, 3) := by decide +kernel
theorem dX11_wear_18 : decode cX11_wear 18 = .ok (.invokestatic 52, 3) := by decide +kernel
theorem dX11_wear_21 : decode cX11_wear 21 = .ok (.ifCond .ne 7, 3) := by decide +kernel
theorem dX11_wear_24 : decode cX11_wear 24 = .ok (.iconst 2, 1) := by decide +kernel
theorem dX11_wear_25 : decode cX11_wear 25 = .ok (.goto 32, 3) := by decide +kernel
theorem dX11_wear_28 : decode cX11_wear 28 = .ok (.aload_n 0, 1) := by decide +kernel
theorem dX11_wear_29 : decode cX11_wear 29 = .ok (.getfield 10, 3) := by decide +kernel
theorem dX11_wear_32 : decode cX11_wear 32 = .ok (.iload_n 1, 1) := by decide +kernel
theorem dX11_wear_33 : decode cX11_wear 33 = .ok (.invokeinterface 101 2, 5) := by decide +kernel
theorem dX11_wear_38 : decode cX11_wear 38 = .ok (.checkcast 82, 3) := by decide +kernel
theorem dX11_wear_41 : decode cX11_wear 41 = .ok (.getfield 148, 3) := by decide +kernel
theorem dX11_wear_44 : decode cX11_wear 44 = .ok (.iload_n 2, 1) := by decide +kernel
theorem dX11_wear_45 : decode cX11_wear 45 = .ok (.iadd, 1) := by decide +kernel
theorem dX11_wear_46 : decode cX11_wear 46 = .ok (.sipush 9999, 3) := by decide +kernel
theorem dX11_wear_49 : decode cX11_wear 49 = .ok (.if_icmp .le 7, 3) := by decide +kernel
theorem dX11_wear_52 : decode cX11_wear 52 = .ok (.iconst 3, 1) := by decide +kernel
theorem dX11_wear_53 : decode cX11_wear 53 = .ok (.goto 4, 3) := by decide +kernel
theorem dX11_wear_56 : decode cX11_wear 56 = .ok (.iconst 0, 1) := by decide +kernel
theorem dX11_wear_57 : decode cX11_wear 57 = .ok (.invokevirtual 78, 3) := by decide +kernel
theorem dX11_wear_60 : decode cX11_wear 60 = .ok (.ifCond .eq 5, 3) := by decide +kernel
theorem dX11_wear_63 : decode cX11_wear 63 = .ok (.iconst 0, 1) := by decide +kernel
theorem dX11_wear_64 : decode cX11_wear 64 = .ok (.ireturn, 1) := by decide +kernel
theorem dX11_wear_65 : decode cX11_wear 65 = .ok (.aload_n 0, 1) := by decide +kernel
theorem dX11_wear_66 : decode cX11_wear 66 = .ok (.getfield 10, 3) := by decide +kernel
theorem dX11_wear_69 : decode cX11_wear 69 = .ok (.iload_n 1, 1) := by decide +kernel
theorem dX11_wear_70 : decode cX11_wear 70 = .ok (.invokeinterface 101 2, 5) := by decide +kernel
theorem dX11_wear_75 : decode cX11_wear 75 = .ok (.checkcast 82, 3) := by decide +kernel
theorem dX11_wear_78 : decode cX11_wear 78 = .ok (.dup, 1) := by decide +kernel
theorem dX11_wear_79 : decode cX11_wear 79 = .ok (.getfield 148, 3) := by decide +kernel
theorem dX11_wear_82 : decode cX11_wear 82 = .ok (.iload_n 2, 1) := by decide +kernel
theorem dX11_wear_83 : decode cX11_wear 83 = .ok (.iadd, 1) := by decide +kernel
theorem dX11_wear_84 : decode cX11_wear 84 = .ok (.putfield 148, 3) := by decide +kernel
theorem dX11_wear_87 : decode cX11_wear 87 = .ok (.aload_n 0, 1) := by decide +kernel
theorem dX11_wear_88 : decode cX11_wear 88 = .ok (.getfield 10, 3) := by decide +kernel
theorem dX11_wear_91 : decode cX11_wear 91 = .ok (.iload_n 1, 1) := by decide +kernel
theorem dX11_wear_92 : decode cX11_wear 92 = .ok (.invokeinterface 101 2, 5) := by decide +kernel
theorem dX11_wear_97 : decode cX11_wear 97 = .ok (.checkcast 82, 3) := by decide +kernel
theorem dX11_wear_100 : decode cX11_wear 100 = .ok (.getfield 148, 3) := by decide +kernel
theorem dX11_wear_103 : decode cX11_wear 103 = .ok (.ireturn, 1) := by decide +kernel
set_option maxRecDepth 20000 in
theorem ggX11_account_J0_indexOf_0f7a4_c0 : GoodIn wsX11_account (wsJ0_indexOf_0f7a4.take 30) := goodIn_r _ [12, 13, 14, 15, 11, 16, 17, 18, 19, 20, 21, 22, 23, 24, 25, 26, 27, 28, 29, 30, 31, 32, 33, 34, 35, 36, 37, 38, 39, 40] (by decide +kernel) (by decide +kernel)
set_option maxRecDepth 20000 in
theorem ggX11_account_J0_indexOf_0f7a4_c1 : GoodIn wsX11_account ((wsJ0_indexOf_0f7a4.drop 30).take 30) := goodIn_r _ [41, 42, 43, 44, 45, 46, 47, 48, 49, 50, 51, 52, 53, 54, 55, 56, 57, 58, 59, 60, 61, 62, 63, 64, 65, 66, 67, 68, 69, 70] (by decide +kernel) (by decide +kernel)
set_option maxRecDepth 20000 in
theorem ggX11_account_J0_indexOf_0f7a4_c2 : GoodIn wsX11_account ((wsJ0_indexOf_0f7a4.drop 30).drop 30) := goodIn_r _ [71, 72, 73, 74, 75, 76, 77, 78, 79, 80, 81, 82, 83, 84, 85, 86, 87, 88, 89, 90, 91, 92, 93, 94, 95, 96] (by decide +kernel) (by decide +kernel)
theorem ggX11_account_J0_indexOf_0f7a4 : GoodIn wsX11_account wsJ0_indexOf_0f7a4 := (goodIn_td 30 ggX11_account_J0_indexOf_0f7a4_c0 (goodIn_td 30 ggX11_account_J0_indexOf_0f7a4_c1 ggX11_account_J0_indexOf_0f7a4_c2))
set_option maxRecDepth 20000 in
theorem gX11_account_J0_indexOf_0f7a4 : GoodIn wsX11_account (wsV RX11 288 RJ0 yJ0_indexOf_0f7a4 wsJ0_indexOf_0f7a4) := goodIn_app (goodIn_of _ (by decide +kernel)) ggX11_account_J0_indexOf_0f7a4
set_option maxRecDepth 20000 in
theorem ggX11_account_X11_fails : GoodIn wsX11_account wsX11_fails := goodIn_r _ [101, 102, 103, 104, 105, 106, 107, 108, 109, 110, 111, 112, 113, 114, 115, 116, 117, 118, 119, 120, 121, 122, 123, 124, 125, 126, 127, 128, 129] (by decide +kernel) (by decide +kernel)
set_option maxRecDepth 20000 in
theorem gX11_account_X11_fails : GoodIn wsX11_account (wsV RX11 78 RX11 yX11_fails wsX11_fails) := goodIn_app (goodIn_of _ (by decide +kernel)) ggX11_account_X11_fails
theorem dX11_account_0 : decode cX11_account 0 = .ok (.ldc_w 286, 3) := by decide +kernel
theorem dX11_account_3 : decode cX11_account 3 = .ok (.iload_n 1, 1) := by decide +kernel
theorem dX11_account_4 : decode cX11_account 4 = .ok (.invokevirtual 288, 3) := by decide +kernel
theorem dX11_account_7 : decode cX11_account 7 = .ok (.istore_n 2, 1) := by decide +kernel
theorem dX11_account_8 : decode cX11_account 8 = .ok (.bipush 6, 2) := by decide +kernel
theorem dX11_account_10 : decode cX11_account 10 = .ok (.newarray .long, 2) := by decide +kernel
theorem dX11_account_12 : decode cX11_account 12 = .ok (.dup, 1) := by decide +kernel
theorem dX11_account_13 : decode cX11_account 13 = .ok (.iconst 0, 1) := by decide +kernel
theorem dX11_account_14 : decode cX11_account 14 = .ok (.aload_n 0, 1) := by decide +kernel
theorem dX11_account_15 : decode cX11_account 15 = .ok (.getfield 262, 3) := by decide +kernel
theorem dX11_account_18 : decode cX11_account 18 = .ok (.lastore, 1) := by decide +kernel
theorem dX11_account_19 : decode cX11_account 19 = .ok (.dup, 1) := by decide +kernel
theorem dX11_account_20 : decode cX11_account 20 = .ok (.iconst 1, 1) := by decide +kernel
theorem dX11_account_21 : decode cX11_account 21 = .ok (.aload_n 0, 1) := by decide +kernel
theorem dX11_account_22 : decode cX11_account 22 = .ok (.getfield 265, 3) := by decide +kernel
theorem dX11_account_25 : decode cX11_account 25 = .ok (.lastore, 1) := by decide +kernel
theorem dX11_account_26 : decode cX11_account 26 = .ok (.dup, 1) := by decide +kernel
theorem dX11_account_27 : decode cX11_account 27 = .ok (.iconst 2, 1) := by decide +kernel
theorem dX11_account_28 : decode cX11_account 28 = .ok (.aload_n 0, 1) := by decide +kernel
theorem dX11_account_29 : decode cX11_account 29 = .ok (.getfield 268, 3) := by decide +kernel
theorem dX11_account_32 : decode cX11_account 32 = .ok (.lastore, 1) := by decide +kernel
theorem dX11_account_33 : decode cX11_account 33 = .ok (.dup, 1) := by decide +kernel
theorem dX11_account_34 : decode cX11_account 34 = .ok (.iconst 3, 1) := by decide +kernel
theorem dX11_account_35 : decode cX11_account 35 = .ok (.aload_n 0, 1) := by decide +kernel
theorem dX11_account_36 : decode cX11_account 36 = .ok (.getfield 274, 3) := by decide +kernel
theorem dX11_account_39 : decode cX11_account 39 = .ok (.lastore, 1) := by decide +kernel
theorem dX11_account_40 : decode cX11_account 40 = .ok (.dup, 1) := by decide +kernel
theorem dX11_account_41 : decode cX11_account 41 = .ok (.iconst 4, 1) := by decide +kernel
theorem dX11_account_42 : decode cX11_account 42 = .ok (.aload_n 0, 1) := by decide +kernel
theorem dX11_account_43 : decode cX11_account 43 = .ok (.getfield 252, 3) := by decide +kernel
theorem dX11_account_46 : decode cX11_account 46 = .ok (.lastore, 1) := by decide +kernel
theorem dX11_account_47 : decode cX11_account 47 = .ok (.dup, 1) := by decide +kernel
theorem dX11_account_48 : decode cX11_account 48 = .ok (.iconst 5, 1) := by decide +kernel
theorem dX11_account_49 : decode cX11_account 49 = .ok (.aload_n 0, 1) := by decide +kernel
theorem dX11_account_50 : decode cX11_account 50 = .ok (.getfield 271, 3) := by decide +kernel
theorem dX11_account_53 : decode cX11_account 53 = .ok (.lastore, 1) := by decide +kernel
theorem dX11_account_54 : decode cX11_account 54 = .ok (.astore_n 3, 1) := by decide +kernel
theorem dX11_account_55 : decode cX11_account 55 = .ok (.aload_n 0, 1) := by decide +kernel
theorem dX11_account_56 : decode cX11_account 56 = .ok (.iload_n 2, 1) := by decide +kernel
theorem dX11_account_57 : decode cX11_account 57 = .ok (.ifCond .ge 7, 3) := by decide +kernel
theorem dX11_account_60 : decode cX11_account 60 = .ok (.iconst 1, 1) := by decide +kernel
theorem dX11_account_61 : decode cX11_account 61 = .ok (.goto 4, 3) := by decide +kernel
theorem dX11_account_64 : decode cX11_account 64 = .ok (.iconst 0, 1) := by decide +kernel
theorem dX11_account_65 : decode cX11_account 65 = .ok (.invokevirtual 78, 3) := by decide +kernel
theorem dX11_account_68 : decode cX11_account 68 = .ok (.ifCond .eq 7, 3) := by decide +kernel
theorem dX11_account_71 : decode cX11_account 71 = .ok (.lconst 0, 1) := by decide +kernel
theorem dX11_account_72 : decode cX11_account 72 = .ok (.goto 6, 3) := by decide +kernel
theorem dX11_account_75 : decode cX11_account 75 = .ok (.aload_n 3, 1) := by decide +kernel
theorem dX11_account_76 : decode cX11_account 76 = .ok (.iload_n 2, 1) := by decide +kernel
theorem dX11_account_77 : decode cX11_account 77 = .ok (.laload, 1) := by decide +kernel
theorem dX11_account_78 : decode cX11_account 78 = .ok (.lreturn, 1) := by decide +kernel
set_option maxRecDepth 20000 in
theorem ggX11_checksum_Jx4a65c_iterator_32c93 : GoodIn wsX11_checksum wsJx4a65c_iterator_32c93 := goodIn_r _ [14, 15, 16, 17, 18, 19, 20, 21, 22, 23, 24, 25, 26, 27, 28, 93, 94, 95, 96, 97, 98, 99] (by decide +kernel) (by decide +kernel)
set_option maxRecDepth 20000 in
theorem gX11_checksum_Jx4a65c_iterator_32c93_f56Jx4a65c : GoodIn wsX11_checksum (va_wsF RX11 56 RJx4a65c ⟨"java/util/List", "iterator", "()Ljava/util/Iterator;"⟩ yJx4a65c_iterator_32c93 wsJx4a65c_iterator_32c93) := goodIn_app (goodIn_of _ (by decide +kernel)) ggX11_checksum_Jx4a65c_iterator_32c93
set_option maxRecDepth 20000 in
theorem ggX11_checksum_Jx35411_hasNext_aae02 : GoodIn wsX11_checksum wsJx35411_hasNext_aae02 := goodIn_r _ [32, 33, 21, 93, 94, 95, 96, 97, 98, 99] (by decide +kernel) (by decide +kernel)
set_option maxRecDepth 20000 in
theorem gX11_checksum_Jx35411_hasNext_aae02_f60Jx35411 : GoodIn wsX11_checksum (va_wsF RX11 60 RJx35411 ⟨"java/util/Iterator", "hasNext", "()Z"⟩ yJx35411_hasNext_aae02 wsJx35411_hasNext_aae02) := goodIn_app (goodIn_of _ (by decide +kernel)) ggX11_checksum_Jx35411_hasNext_aae02
set_option maxRecDepth 20000 in
theorem ggX11_checksum_Jx35411_next_0502b : GoodIn wsX11_checksum wsJx35411_next_0502b := goodIn_r _ [37, 33, 21, 38, 25, 39, 40, 41, 17, 42, 26, 27, 28, 93, 94, 95, 96, 97, 98, 99] (by decide +kernel) (by decide +kernel)
set_option maxRecDepth 20000 in
theorem gX11_checksum_Jx35411_next_0502b_f66Jx35411 : GoodIn wsX11_checksum (va_wsF RX11 66 RJx35411 ⟨"java/util/Iterator", "next", "()Ljava/lang/Object;"⟩ yJx35411_next_0502b wsJx35411_next_0502b) := goodIn_app (goodIn_of _ (by decide +kernel)) ggX11_checksum_Jx35411_next_0502b
theorem dX11_checksum_0 : decode cX11_checksum 0 = .ok (.aload_n 0, 1) := by decide +kernel
theorem dX11_checksum_1 : decode cX11_checksum 1 = .ok (.iconst 0, 1) := by decide +kernel
