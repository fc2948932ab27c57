theorem d_La_law_23 : decode code 23 = .ok (.iload 4, 2) := by decide +kernel
theorem d_La_law_25 : decode code 25 = .ok (.aload_n 0, 1) := by decide +kernel
theorem d_La_law_26 : decode code 26 = .ok (.arraylength, 1) := by decide +kernel
theorem d_La_law_27 : decode code 27 = .ok (.iconst 4, 1) := by decide +kernel
theorem d_La_law_28 : decode code 28 = .ok (.isub, 1) := by decide +kernel
theorem d_La_law_29 : decode code 29 = .ok (.if_icmp .gt 499, 3) := by decide +kernel
theorem d_La_law_32 : decode code 32 = .ok (.aload_n 0, 1) := by decide +kernel
theorem d_La_law_33 : decode code 33 = .ok (.iload 4, 2) := by decide +kernel
theorem d_La_law_35 : decode code 35 = .ok (.iaload, 1) := by decide +kernel
theorem d_La_law_36 : decode code 36 = .ok (.bipush 15, 2) := by decide +kernel
theorem d_La_law_38 : decode code 38 = .ok (.iand, 1) := by decide +kernel
theorem d_La_law_39 : decode code 39 = .ok (.tableswitch 483 0 14 #[73, 142, 155, 171, 184, 200, 213, 226, 263, 288, 313, 350, 399, 427, 455], 73) := by decide +kernel
theorem d_La_law_112 : decode code 112 = .ok (.aload_n 1, 1) := by decide +kernel
theorem d_La_law_113 : decode code 113 = .ok (.aload_n 0, 1) := by decide +kernel
theorem d_La_law_114 : decode code 114 = .ok (.iload 4, 2) := by decide +kernel
theorem d_La_law_116 : decode code 116 = .ok (.iconst 1, 1) := by decide +kernel
theorem d_La_law_117 : decode code 117 = .ok (.iadd, 1) := by decide +kernel
theorem d_La_law_118 : decode code 118 = .ok (.iaload, 1) := by decide +kernel
theorem d_La_law_119 : decode code 119 = .ok (.i2l, 1) := by decide +kernel
theorem d_La_law_120 : decode code 120 = .ok (.bipush 32, 2) := by decide +kernel
theorem d_La_law_122 : decode code 122 = .ok (.lshl, 1) := by decide +kernel
theorem d_La_law_123 : decode code 123 = .ok (.aload_n 0, 1) := by decide +kernel
theorem d_La_law_124 : decode code 124 = .ok (.iload 4, 2) := by decide +kernel
theorem d_La_law_126 : decode code 126 = .ok (.iconst 2, 1) := by decide +kernel
theorem d_La_law_127 : decode code 127 = .ok (.iadd, 1) := by decide +kernel
theorem d_La_law_128 : decode code 128 = .ok (.iaload, 1) := by decide +kernel
theorem d_La_law_129 : decode code 129 = .ok (.i2l, 1) := by decide +kernel
theorem d_La_law_130 : decode code 130 = .ok (.ldc2_w 37, 3) := by decide +kernel
theorem d_La_law_133 : decode code 133 = .ok (.land, 1) := by decide +kernel
theorem d_La_law_134 : decode code 134 = .ok (.lor, 1) := by decide +kernel
theorem d_La_law_135 : decode code 135 = .ok (.aload_n 0, 1) := by decide +kernel
theorem d_La_law_136 : decode code 136 = .ok (.iload 4, 2) := by decide +kernel
theorem d_La_law_138 : decode code 138 = .ok (.iconst 3, 1) := by decide +kernel
theorem d_La_law_139 : decode code 139 = .ok (.iadd, 1) := by decide +kernel
theorem d_La_law_140 : decode code 140 = .ok (.iaload, 1) := by decide +kernel
theorem d_La_law_141 : decode code 141 = .ok (.invokevirtual 39, 3) := by decide +kernel
theorem d_La_law_144 : decode code 144 = .ok (.pop, 1) := by decide +kernel
theorem d_La_law_145 : decode code 145 = .ok (.aload_n 2, 1) := by decide +kernel
theorem d_La_law_146 : decode code 146 = .ok (.aload_n 0, 1) := by decide +kernel
theorem d_La_law_147 : decode code 147 = .ok (.iload 4, 2) := by decide +kernel
theorem d_La_law_149 : decode code 149 = .ok (.iconst 1, 1) := by decide +kernel
theorem d_La_law_150 : decode code 150 = .ok (.iadd, 1) := by decide +kernel
theorem d_La_law_151 : decode code 151 = .ok (.iaload, 1) := by decide +kernel
theorem d_La_law_152 : decode code 152 = .ok (.i2l, 1) := by decide +kernel
theorem d_La_law_153 : decode code 153 = .ok (.bipush 32, 2) := by decide +kernel
theorem d_La_law_155 : decode code 155 = .ok (.lshl, 1) := by decide +kernel
theorem d_La_law_156 : decode code 156 = .ok (.aload_n 0, 1) := by decide +kernel
theorem d_La_law_157 : decode code 157 = .ok (.iload 4, 2) := by decide +kernel
theorem d_La_law_159 : decode code 159 = .ok (.iconst 2, 1) := by decide +kernel
theorem d_La_law_160 : decode code 160 = .ok (.iadd, 1) := by decide +kernel
theorem d_La_law_161 : decode code 161 = .ok (.iaload, 1) := by decide +kernel
theorem d_La_law_162 : decode code 162 = .ok (.i2l, 1) := by decide +kernel
theorem d_La_law_163 : decode code 163 = .ok (.ldc2_w 37, 3) := by decide +kernel
theorem d_La_law_166 : decode code 166 = .ok (.land, 1) := by decide +kernel
theorem d_La_law_167 : decode code 167 = .ok (.lor, 1) := by decide +kernel
theorem d_La_law_168 : decode code 168 = .ok (.aload_n 0, 1) := by decide +kernel
theorem d_La_law_169 : decode code 169 = .ok (.iload 4, 2) := by decide +kernel
theorem d_La_law_171 : decode code 171 = .ok (.iconst 3, 1) := by decide +kernel
theorem d_La_law_172 : decode code 172 = .ok (.iadd, 1) := by decide +kernel
theorem d_La_law_173 : decode code 173 = .ok (.iaload, 1) := by decide +kernel
theorem d_La_law_174 : decode code 174 = .ok (.invokevirtual 43, 3) := by decide +kernel
theorem d_La_law_177 : decode code 177 = .ok (.pop, 1) := by decide +kernel
theorem d_La_law_178 : decode code 178 = .ok (.goto 344, 3) := by decide +kernel
theorem d_La_law_181 : decode code 181 = .ok (.aload_n 1, 1) := by decide +kernel
theorem d_La_law_182 : decode code 182 = .ok (.invokevirtual 44, 3) := by decide +kernel
theorem d_La_law_185 : decode code 185 = .ok (.pop, 1) := by decide +kernel
theorem d_La_law_186 : decode code 186 = .ok (.aload_n 2, 1) := by decide +kernel
theorem d_La_law_187 : decode code 187 = .ok (.invokevirtual 47, 3) := by decide +kernel
theorem d_La_law_190 : decode code 190 = .ok (.pop, 1) := by decide +kernel
theorem d_La_law_191 : decode code 191 = .ok (.goto 331, 3) := by decide +kernel
theorem d_La_law_194 : decode code 194 = .ok (.aload_n 1, 1) := by decide +kernel
theorem d_La_law_195 : decode code 195 = .ok (.aload_n 3, 1) := by decide +kernel
theorem d_La_law_196 : decode code 196 = .ok (.invokestatic 48, 3) := by decide +kernel
theorem d_La_law_199 : decode code 199 = .ok (.istore 5, 2) := by decide +kernel
theorem d_La_law_201 : decode code 201 = .ok (.aload_n 2, 1) := by decide +kernel
theorem d_La_law_202 : decode code 202 = .ok (.invokevirtual 53, 3) := by decide +kernel
theorem d_La_law_205 : decode code 205 = .ok (.istore 6, 2) := by decide +kernel
theorem d_La_law_207 : decode code 207 = .ok (.goto 315, 3) := by decide +kernel
theorem d_La_law_210 : decode code 210 = .ok (.aload_n 1, 1) := by decide +kernel
theorem d_La_law_211 : decode code 211 = .ok (.invokevirtual 54, 3) := by decide +kernel
theorem d_La_law_214 : decode code 214 = .ok (.pop, 1) := by decide +kernel
theorem d_La_law_215 : decode code 215 = .ok (.aload_n 2, 1) := by decide +kernel
theorem d_La_law_216 : decode code 216 = .ok (.invokevirtual 57, 3) := by decide +kernel
theorem d_La_law_219 : decode code 219 = .ok (.pop, 1) := by decide +kernel
theorem d_La_law_220 : decode code 220 = .ok (.goto 302, 3) := by decide +kernel
theorem d_La_law_223 : decode code 223 = .ok (.aload_n 1, 1) := by decide +kernel
theorem d_La_law_224 : decode code 224 = .ok (.aload_n 3, 1) := by decide +kernel
theorem d_La_law_225 : decode code 225 = .ok (.invokestatic 58, 3) := by decide +kernel
theorem d_La_law_228 : decode code 228 = .ok (.istore 5, 2) := by decide +kernel
theorem d_La_law_230 : decode code 230 = .ok (.aload_n 2, 1) := by decide +kernel
theorem d_La_law_231 : decode code 231 = .ok (.invokevirtual 60, 3) := by decide +kernel
theorem d_La_law_234 : decode code 234 = .ok (.istore 6, 2) := by decide +kernel
theorem d_La_law_236 : decode code 236 = .ok (.goto 286, 3) := by decide +kernel
theorem d_La_law_239 : decode code 239 = .ok (.aload_n 1, 1) := by decide +kernel
theorem d_La_law_240 : decode code 240 = .ok (.invokevirtual 61, 3) := by decide +kernel
theorem d_La_law_243 : decode code 243 = .ok (.pop, 1) := by decide +kernel
theorem d_La_law_244 : decode code 244 = .ok (.aload_n 2, 1) := by decide +kernel
theorem d_La_law_245 : decode code 245 = .ok (.invokevirtual 64, 3) := by decide +kernel
theorem d_La_law_248 : decode code 248 = .ok (.pop, 1) := by decide +kernel
theorem d_La_law_249 : decode code 249 = .ok (.goto 273, 3) := by decide +kernel
theorem d_La_law_252 : decode code 252 = .ok (.aload_n 1, 1) := by decide +kernel
theorem d_La_law_253 : decode code 253 = .ok (.invokevirtual 65, 3) := by decide +kernel
theorem d_La_law_256 : decode code 256 = .ok (.pop, 1) := by decide +kernel
theorem d_La_law_257 : decode code 257 = .ok (.aload_n 2, 1) := by decide +kernel
theorem d_La_law_258 : decode code 258 = .ok (.invokevirtual 68, 3) := by decide +kernel
theorem d_La_law_261 : decode code 261 = .ok (.pop, 1) := by decide +kernel
theorem d_La_law_262 : decode code 262 = .ok (.goto 260, 3) := by decide +kernel
theorem d_La_law_265 : decode code 265 = .ok (.aload_n 1, 1) := by decide +kernel
theorem d_La_law_266 : decode code 266 = .ok (.aload_n 0, 1) := by decide +kernel
theorem d_La_law_267 : decode code 267 = .ok (.iload 4, 2) := by decide +kernel
theorem d_La_law_269 : decode code 269 = .ok (.iconst 1, 1) := by decide +kernel
theorem d_La_law_270 : decode code 270 = .ok (.iadd, 1) := by decide +kernel
theorem d_La_law_271 : decode code 271 = .ok (.iaload, 1) := by decide +kernel
theorem d_La_law_272 : decode code 272 = .ok (.aload_n 0, 1) := by decide +kernel
theorem d_La_law_273 : decode code 273 = .ok (.iload 4, 2) := by decide +kernel
theorem d_La_law_275 : decode code 275 = .ok (.iconst 2, 1) := by decide +kernel
theorem d_La_law_276 : decode code 276 = .ok (.iadd, 1) := by decide +kernel
theorem d_La_law_277 : decode code 277 = .ok (.iaload, 1) := by decide +kernel
theorem d_La_law_278 : decode code 278 = .ok (.invokevirtual 69, 3) := by decide +kernel
theorem d_La_law_281 : decode code 281 = .ok (.pop, 1) := by decide +kernel
theorem d_La_law_282 : decode code 282 = .ok (.aload_n 2, 1) := by decide +kernel
theorem d_La_law_283 : decode code 283 = .ok (.aload_n 0, 1) := by decide +kernel
theorem d_La_law_284 : decode code 284 = .ok (.iload 4, 2) := by decide +kernel
theorem d_La_law_286 : decode code 286 = .ok (.iconst 1, 1) := by decide +kernel
theorem d_La_law_287 : decode code 287 = .ok (.iadd, 1) := by decide +kernel
theorem d_La_law_288 : decode code 288 = .ok (.iaload, 1) := by decide +kernel
theorem d_La_law_289 : decode code 289 = .ok (.aload_n 0, 1) := by decide +kernel
theorem d_La_law_290 : decode code 290 = .ok (.iload 4, 2) := by decide +kernel
theorem d_La_law_292 : decode code 292 = .ok (.iconst 2, 1) := by decide +kernel
theorem d_La_law_293 : decode code 293 = .ok (.iadd, 1) := by decide +kernel
theorem d_La_law_294 : decode code 294 = .ok (.iaload, 1) := by decide +kernel
theorem d_La_law_295 : decode code 295 = .ok (.invokevirtual 73, 3) := by decide +kernel
theorem d_La_law_298 : decode code 298 = .ok (.pop, 1) := by decide +kernel
theorem d_La_law_299 : decode code 299 = .ok (.goto 223, 3) := by decide +kernel
theorem d_La_law_302 : decode code 302 = .ok (.aload_n 1, 1) := by decide +kernel
theorem d_La_law_303 : decode code 303 = .ok (.aload_n 0, 1) := by decide +kernel
theorem d_La_law_304 : decode code 304 = .ok (.iload 4, 2) := by decide +kernel
theorem d_La_law_306 : decode code 306 = .ok (.iconst 1, 1) := by decide +kernel
theorem d_La_law_307 : decode code 307 = .ok (.iadd, 1) := by decide +kernel
theorem d_La_law_308 : decode code 308 = .ok (.iaload, 1) := by decide +kernel
theorem d_La_law_309 : decode code 309 = .ok (.invokevirtual 74, 3) := by decide +kernel
theorem d_La_law_312 : decode code 312 = .ok (.pop, 1) := by decide +kernel
theorem d_La_law_313 : decode code 313 = .ok (.aload_n 2, 1) := by decide +kernel
theorem d_La_law_314 : decode code 314 = .ok (.aload_n 0, 1) := by decide +kernel
theorem d_La_law_315 : decode code 315 = .ok (.iload 4, 2) := by decide +kernel
theorem d_La_law_317 : decode code 317 = .ok (.iconst 1, 1) := by decide +kernel
theorem d_La_law_318 : decode code 318 = .ok (.iadd, 1) := by decide +kernel
theorem d_La_law_319 : decode code 319 = .ok (.iaload, 1) := by decide +kernel
theorem d_La_law_320 : decode code 320 = .ok (.invokevirtual 78, 3) := by decide +kernel
theorem d_La_law_323 : decode code 323 = .ok (.pop, 1) := by decide +kernel
theorem d_La_law_324 : decode code 324 = .ok (.goto 198, 3) := by decide +kernel
theorem d_La_law_327 : decode code 327 = .ok (.aload_n 1, 1) := by decide +kernel
theorem d_La_law_328 : decode code 328 = .ok (.aload_n 0, 1) := by decide +kernel
theorem d_La_law_329 : decode code 329 = .ok (.iload 4, 2) := by decide +kernel
theorem d_La_law_331 : decode code 331 = .ok (.iconst 1, 1) := by decide +kernel
theorem d_La_law_332 : decode code 332 = .ok (.iadd, 1) := by decide +kernel
theorem d_La_law_333 : decode code 333 = .ok (.iaload, 1) := by decide +kernel
theorem d_La_law_334 : decode code 334 = .ok (.invokevirtual 79, 3) := by decide +kernel
theorem d_La_law_337 : decode code 337 = .ok (.pop, 1) := by decide +kernel
theorem d_La_law_338 : decode code 338 = .ok (.aload_n 2, 1) := by decide +kernel
theorem d_La_law_339 : decode code 339 = .ok (.aload_n 0, 1) := by decide +kernel
theorem d_La_law_340 : decode code 340 = .ok (.iload 4, 2) := by decide +kernel
theorem d_La_law_342 : decode code 342 = .ok (.iconst 1, 1) := by decide +kernel
theorem d_La_law_343 : decode code 343 = .ok (.iadd, 1) := by decide +kernel
theorem d_La_law_344 : decode code 344 = .ok (.iaload, 1) := by decide +kernel
theorem d_La_law_345 : decode code 345 = .ok (.invokevirtual 82, 3) := by decide +kernel
theorem d_La_law_348 : decode code 348 = .ok (.pop, 1) := by decide +kernel
theorem d_La_law_349 : decode code 349 = .ok (.goto 173, 3) := by decide +kernel
theorem d_La_law_352 : decode code 352 = .ok (.aload_n 1, 1) := by decide +kernel
theorem d_La_law_353 : decode code 353 = .ok (.aload_n 0, 1) := by decide +kernel
theorem d_La_law_354 : decode code 354 = .ok (.iload 4, 2) := by decide +kernel
theorem d_La_law_356 : decode code 356 = .ok (.iconst 1, 1) := by decide +kernel
theorem d_La_law_357 : decode code 357 = .ok (.iadd, 1) := by decide +kernel
theorem d_La_law_358 : decode code 358 = .ok (.iaload, 1) := by decide +kernel
theorem d_La_law_359 : decode code 359 = .ok (.aload_n 0, 1) := by decide +kernel
theorem d_La_law_360 : decode code 360 = .ok (.iload 4, 2) := by decide +kernel
theorem d_La_law_362 : decode code 362 = .ok (.iconst 2, 1) := by decide +kernel
theorem d_La_law_363 : decode code 363 = .ok (.iadd, 1) := by decide +kernel
theorem d_La_law_364 : decode code 364 = .ok (.iaload, 1) := by decide +kernel
theorem d_La_law_365 : decode code 365 = .ok (.invokevirtual 83, 3) := by decide +kernel
theorem d_La_law_368 : decode code 368 = .ok (.aload_n 2, 1) := by decide +kernel
theorem d_La_law_369 : decode code 369 = .ok (.aload_n 0, 1) := by decide +kernel
theorem d_La_law_370 : decode code 370 = .ok (.iload 4, 2) := by decide +kernel
theorem d_La_law_372 : decode code 372 = .ok (.iconst 1, 1) := by decide +kernel
theorem d_La_law_373 : decode code 373 = .ok (.iadd, 1) := by decide +kernel
theorem d_La_law_374 : decode code 374 = .ok (.iaload, 1) := by decide +kernel
theorem d_La_law_375 : decode code 375 = .ok (.aload_n 0, 1) := by decide +kernel
theorem d_La_law_376 : decode code 376 = .ok (.iload 4, 2) := by decide +kernel
theorem d_La_law_378 : decode code 378 = .ok (.iconst 2, 1) := by decide +kernel
theorem d_La_law_379 : decode code 379 = .ok (.iadd, 1) := by decide +kernel
theorem d_La_law_380 : decode code 380 = .ok (.iaload, 1) := by decide +kernel
theorem d_La_law_381 : decode code 381 = .ok (.invokevirtual 86, 3) := by decide +kernel
theorem d_La_law_384 : decode code 384 = .ok (.if_icmp .eq 138, 3) := by decide +kernel
theorem d_La_law_387 : decode code 387 = .ok (.iconst 0, 1) := by decide +kernel
theorem d_La_law_389 : decode code 389 = .ok (.aload_n 1, 1) := by decide +kernel
theorem d_La_law_390 : decode code 390 = .ok (.aload_n 0, 1) := by decide +kernel
theorem d_La_law_391 : decode code 391 = .ok (.iload 4, 2) := by decide +kernel
theorem d_La_law_393 : decode code 393 = .ok (.iconst 1, 1) := by decide +kernel
theorem d_La_law_394 : decode code 394 = .ok (.iadd, 1) := by decide +kernel
theorem d_La_law_395 : decode code 395 = .ok (.iaload, 1) := by decide +kernel
theorem d_La_law_396 : decode code 396 = .ok (.aload_n 0, 1) := by decide +kernel
theorem d_La_law_397 : decode code 397 = .ok (.iload 4, 2) := by decide +kernel
theorem d_La_law_399 : decode code 399 = .ok (.iconst 2, 1) := by decide +kernel
theorem d_La_law_400 : decode code 400 = .ok (.iadd, 1) := by decide +kernel
theorem d_La_law_401 : decode code 401 = .ok (.iaload, 1) := by decide +kernel
theorem d_La_law_402 : decode code 402 = .ok (.aload_n 0, 1) := by decide +kernel
theorem d_La_law_403 : decode code 403 = .ok (.iload 4, 2) := by decide +kernel
theorem d_La_law_405 : decode code 405 = .ok (.iconst 3, 1) := by decide +kernel
theorem d_La_law_406 : decode code 406 = .ok (.iadd, 1) := by decide +kernel
theorem d_La_law_407 : decode code 407 = .ok (.iaload, 1) := by decide +kernel
theorem d_La_law_408 : decode code 408 = .ok (.invokevirtual 87, 3) := by decide +kernel
theorem d_La_law_411 : decode code 411 = .ok (.pop, 1) := by decide +kernel
theorem d_La_law_412 : decode code 412 = .ok (.aload_n 2, 1) := by decide +kernel
theorem d_La_law_413 : decode code 413 = .ok (.aload_n 0, 1) := by decide +kernel
theorem d_La_law_414 : decode code 414 = .ok (.iload 4, 2) := by decide +kernel
theorem d_La_law_416 : decode code 416 = .ok (.iconst 1, 1) := by decide +kernel
theorem d_La_law_417 : decode code 417 = .ok (.iadd, 1) := by decide +kernel
theorem d_La_law_418 : decode code 418 = .ok (.iaload, 1) := by decide +kernel
theorem d_La_law_419 : decode code 419 = .ok (.aload_n 0, 1) := by decide +kernel
theorem d_La_law_420 : decode code 420 = .ok (.iload 4, 2) := by decide +kernel
theorem d_La_law_422 : decode code 422 = .ok (.iconst 2, 1) := by decide +kernel
theorem d_La_law_423 : decode code 423 = .ok (.iadd, 1) := by decide +kernel
theorem d_La_law_424 : decode code 424 = .ok (.iaload, 1) := by decide +kernel
theorem d_La_law_425 : decode code 425 = .ok (.aload_n 0, 1) := by decide +kernel
theorem d_La_law_426 : decode code 426 = .ok (.iload 4, 2) := by decide +kernel
theorem d_La_law_428 : decode code 428 = .ok (.iconst 3, 1) := by decide +kernel
theorem d_La_law_429 : decode code 429 = .ok (.iadd, 1) := by decide +kernel
theorem d_La_law_430 : decode code 430 = .ok (.iaload, 1) := by decide +kernel
theorem d_La_law_431 : decode code 431 = .ok (.invokevirtual 91, 3) := by decide +kernel
theorem d_La_law_434 : decode code 434 = .ok (.pop, 1) := by decide +kernel
theorem d_La_law_435 : decode code 435 = .ok (.goto 87, 3) := by decide +kernel
theorem d_La_law_438 : decode code 438 = .ok (.aload_n 1, 1) := by decide +kernel
theorem d_La_law_439 : decode code 439 = .ok (.aload_n 0, 1) := by decide +kernel
theorem d_La_law_440 : decode code 440 = .ok (.iload 4, 2) := by decide +kernel
theorem d_La_law_442 : decode code 442 = .ok (.iconst 1, 1) := by decide +kernel
theorem d_La_law_443 : decode code 443 = .ok (.iadd, 1) := by decide +kernel
theorem d_La_law_444 : decode code 444 = .ok (.iaload, 1) := by decide +kernel
theorem d_La_law_445 : decode code 445 = .ok (.aload_n 3, 1) := by decide +kernel
theorem d_La_law_446 : decode code 446 = .ok (.invokestatic 92, 3) := by decide +kernel
theorem d_La_law_449 : decode code 449 = .ok (.istore 5, 2) := by decide +kernel
theorem d_La_law_451 : decode code 451 = .ok (.aload_n 2, 1) := by decide +kernel
theorem d_La_law_452 : decode code 452 = .ok (.aload_n 0, 1) := by decide +kernel
theorem d_La_law_453 : decode code 453 = .ok (.iload 4, 2) := by decide +kernel
theorem d_La_law_455 : decode code 455 = .ok (.iconst 1, 1) := by decide +kernel
theorem d_La_law_456 : decode code 456 = .ok (.iadd, 1) := by decide +kernel
theorem d_La_law_457 : decode code 457 = .ok (.iaload, 1) := by decide +kernel
theorem d_La_law_458 : decode code 458 = .ok (.invokevirtual 95, 3) := by decide +kernel
theorem d_La_law_461 : decode code 461 = .ok (.lstore 6, 2) := by decide +kernel
theorem d_La_law_463 : decode code 463 = .ok (.goto 59, 3) := by decide +kernel
theorem d_La_law_466 : decode code 466 = .ok (.aload_n 1, 1) := by decide +kernel
theorem d_La_law_467 : decode code 467 = .ok (.aload_n 0, 1) := by decide +kernel
theorem d_La_law_468 : decode code 468 = .ok (.iload 4, 2) := by decide +kernel
theorem d_La_law_470 : decode code 470 = .ok (.iconst 1, 1) := by decide +kernel
theorem d_La_law_471 : decode code 471 = .ok (.iadd, 1) := by decide +kernel
theorem d_La_law_472 : decode code 472 = .ok (.iaload, 1) := by decide +kernel
theorem d_La_law_473 : decode code 473 = .ok (.aload_n 3, 1) := by decide +kernel
theorem d_La_law_474 : decode code 474 = .ok (.invokestatic 96, 3) := by decide +kernel
theorem d_La_law_477 : decode code 477 = .ok (.istore 5, 2) := by decide +kernel
theorem d_La_law_479 : decode code 479 = .ok (.aload_n 2, 1) := by decide +kernel
theorem d_La_law_480 : decode code 480 = .ok (.aload_n 0, 1) := by decide +kernel
theorem d_La_law_481 : decode code 481 = .ok (.iload 4, 2) := by decide +kernel
theorem d_La_law_483 : decode code 483 = .ok (.iconst 1, 1) := by decide +kernel
theorem d_La_law_484 : decode code 484 = .ok (.iadd, 1) := by decide +kernel
theorem d_La_law_485 : decode code 485 = .ok (.iaload, 1) := by decide +kernel
theorem d_La_law_486 : decode code 486 = .ok (.invokevirtual 98, 3) := by decide +kernel
theorem d_La_law_489 : decode code 489 = .ok (.lstore 6, 2) := by decide +kernel
theorem d_La_law_491 : decode code 491 = .ok (.goto 31, 3) := by decide +kernel
theorem d_La_law_494 : decode code 494 = .ok (.aload_n 1, 1) := by decide +kernel
theorem d_La_law_495 : decode code 495 = .ok (.aload_n 0, 1) := by decide +kernel
theorem d_La_law_496 : decode code 496 = .ok (.iload 4, 2) := by decide +kernel
theorem d_La_law_498 : decode code 498 = .ok (.iconst 1, 1) := by decide +kernel
theorem d_La_law_499 : decode code 499 = .ok (.iadd, 1) := by decide +kernel
theorem d_La_law_500 : decode code 500 = .ok (.iaload, 1) := by decide +kernel
theorem d_La_law_501 : decode code 501 = .ok (.aload_n 3, 1) := by decide +kernel
theorem d_La_law_502 : decode code 502 = .ok (.invokestatic 99, 3) := by decide +kernel
theorem d_La_law_505 : decode code 505 = .ok (.istore 5, 2) := by decide +kernel
theorem d_La_law_507 : decode code 507 = .ok (.aload_n 2, 1) := by decide +kernel
theorem d_La_law_508 : decode code 508 = .ok (.aload_n 0, 1) := by decide +kernel
theorem d_La_law_509 : decode code 509 = .ok (.iload 4, 2) := by decide +kernel
theorem d_La_law_511 : decode code 511 = .ok (.iconst 1, 1) := by decide +kernel
theorem d_La_law_512 : decode code 512 = .ok (.iadd, 1) := by decide +kernel
theorem d_La_law_513 : decode code 513 = .ok (.iaload, 1) := by decide +kernel
theorem d_La_law_514 : decode code 514 = .ok (.invokevirtual 101, 3) := by decide +kernel
theorem d_La_law_517 : decode code 517 = .ok (.istore 6, 2) := by decide +kernel
theorem d_La_law_519 : decode code 519 = .ok (.goto 3, 3) := by decide +kernel
theorem d_La_law_522 : decode code 522 = .ok (.iinc 4 4, 3) := by decide +kernel
theorem d_La_law_525 : decode code 525 = .ok (.goto (-502), 3) := by decide +kernel
theorem d_La_law_528 : decode code 528 = .ok (.iconst 1, 1) := by decide +kernel
theorem d_La_law_529 : decode code 529 = .ok (.ireturn, 1) := by decide +kernel
theorem k_349 : Jvm.Cond.methodLink "ChanceGameLaw" (39 : Nat) ({ cls := "ChanceGame", name := "type", desc := "(JI)I" } : Jvm.MethodName) ∈ tb := tb_t (List.mem_of_getElem? (i := 349) (by decide +kernel)) (by decide +kernel)
theorem k_363 : Jvm.Cond.methodLink "ChanceGameLaw" (44 : Nat) ({ cls := "ChanceGame", name := "wipe", desc := "()I" } : Jvm.MethodName) ∈ tb := tb_t (List.mem_of_getElem? (i := 363) (by decide +kernel)) (by decide +kernel)
theorem k_371 : Jvm.Cond.methodLink "ChanceGameLaw" (54 : Nat) ({ cls := "ChanceGame", name := "place", desc := "()I" } : Jvm.MethodName) ∈ tb := tb_t (List.mem_of_getElem? (i := 371) (by decide +kernel)) (by decide +kernel)
theorem k_375 : Jvm.Cond.methodLink "ChanceGameLaw" (61 : Nat) ({ cls := "ChanceGame", name := "states", desc := "()I" } : Jvm.MethodName) ∈ tb := tb_t (List.mem_of_getElem? (i := 375) (by decide +kernel)) (by decide +kernel)
theorem k_379 : Jvm.Cond.methodLink "ChanceGameLaw" (65 : Nat) ({ cls := "ChanceGame", name := "mixed", desc := "()I" } : Jvm.MethodName) ∈ tb := tb_t (List.mem_of_getElem? (i := 379) (by decide +kernel)) (by decide +kernel)
theorem k_383 : Jvm.Cond.methodLink "ChanceGameLaw" (69 : Nat) ({ cls := "ChanceGame", name := "variable", desc := "(II)I" } : Jvm.MethodName) ∈ tb := tb_t (List.mem_of_getElem? (i := 383) (by decide +kernel)) (by decide +kernel)
theorem k_395 : Jvm.Cond.methodLink "ChanceGameLaw" (74 : Nat) ({ cls := "ChanceGame", name := "target", desc := "(I)Z" } : Jvm.MethodName) ∈ tb := tb_t (List.mem_of_getElem? (i := 395) (by decide +kernel)) (by decide +kernel)
theorem k_402 : Jvm.Cond.methodLink "ChanceGameLaw" (79 : Nat) ({ cls := "ChanceGame", name := "owner", desc := "(I)I" } : Jvm.MethodName) ∈ tb := tb_t (List.mem_of_getElem? (i := 402) (by decide +kernel)) (by decide +kernel)
theorem k_414 : Jvm.Cond.methodLink "ChanceGameLaw" (83 : Nat) ({ cls := "ChanceGame", name := "choice", desc := "(II)I" } : Jvm.MethodName) ∈ tb := tb_t (List.mem_of_getElem? (i := 414) (by decide +kernel)) (by decide +kernel)
theorem k_418 : Jvm.Cond.methodLink "ChanceGameLaw" (87 : Nat) ({ cls := "ChanceGame", name := "branch", desc := "(III)I" } : Jvm.MethodName) ∈ tb := tb_t (List.mem_of_getElem? (i := 418) (by decide +kernel)) (by decide +kernel)
theorem k_426 : Jvm.Cond.methodLink "ChanceGameLaw" (48 : Nat) ({ cls := "ChanceGameLaw", name := "read", desc := "(LChanceGame;[J)I" } : Jvm.MethodName) ∈ tb := tb_t (List.mem_of_getElem? (i := 426) (by decide +kernel)) (by decide +kernel)
theorem k_589 : Jvm.Cond.methodLink "ChanceGameLaw" (58 : Nat) ({ cls := "ChanceGameLaw", name := "solve", desc := "(LChanceGame;[J)I" } : Jvm.MethodName) ∈ tb := tb_t (List.mem_of_getElem? (i := 589) (by decide +kernel)) (by decide +kernel)
theorem k_765 : Jvm.Cond.methodLink "ChanceGameLaw" (92 : Nat) ({ cls := "ChanceGameLaw", name := "upper", desc := "(LChanceGame;I[J)I" } : Jvm.MethodName) ∈ tb := tb_t (List.mem_of_getElem? (i := 765) (by decide +kernel)) (by decide +kernel)
theorem k_794 : Jvm.Cond.methodLink "ChanceGameLaw" (96 : Nat) ({ cls := "ChanceGameLaw", name := "lower", desc := "(LChanceGame;I[J)I" } : Jvm.MethodName) ∈ tb := tb_t (List.mem_of_getElem? (i := 794) (by decide +kernel)) (by decide +kernel)
theorem k_801 : Jvm.Cond.methodLink "ChanceGameLaw" (99 : Nat) ({ cls := "ChanceGameLaw", name := "good", desc := "(LChanceGame;I[J)I" } : Jvm.MethodName) ∈ tb := tb_t (List.mem_of_getElem? (i := 801) (by decide +kernel)) (by decide +kernel)
theorem k_942 : Jvm.Cond.methodLink "ChanceGameLaw" (43 : Nat) ({ cls := "ChanceGameModel", name := "type", desc := "(JI)I" } : Jvm.MethodName) ∈ tb := tb_t (List.mem_of_getElem? (i := 942) (by decide +kernel)) (by decide +kernel)
theorem k_952 : Jvm.Cond.methodLink "ChanceGameLaw" (47 : Nat) ({ cls := "ChanceGameModel", name := "wipe", desc := "()I" } : Jvm.MethodName) ∈ tb := tb_t (List.mem_of_getElem? (i := 952) (by decide +kernel)) (by decide +kernel)
theorem k_956 : Jvm.Cond.methodLink "ChanceGameLaw" (53 : Nat) ({ cls := "ChanceGameModel", name := "read", desc := "()I" } : Jvm.MethodName) ∈ tb := tb_t (List.mem_of_getElem? (i := 956) (by decide +kernel)) (by decide +kernel)
theorem k_1031 : Jvm.Cond.methodLink "ChanceGameLaw" (57 : Nat) ({ cls := "ChanceGameModel", name := "place", desc := "()I" } : Jvm.MethodName) ∈ tb := tb_t (List.mem_of_getElem? (i := 1031) (by decide +kernel)) (by decide +kernel)
theorem k_1035 : Jvm.Cond.methodLink "ChanceGameLaw" (60 : Nat) ({ cls := "ChanceGameModel", name := "solve", desc := "()I" } : Jvm.MethodName) ∈ tb := tb_t (List.mem_of_getElem? (i := 1035) (by decide +kernel)) (by decide +kernel)
theorem k_1126 : Jvm.Cond.methodLink "ChanceGameLaw" (64 : Nat) ({ cls := "ChanceGameModel", name := "states", desc := "()I" } : Jvm.MethodName) ∈ tb := tb_t (List.mem_of_getElem? (i := 1126) (by decide +kernel)) (by decide +kernel)
theorem k_1130 : Jvm.Cond.methodLink "ChanceGameLaw" (68 : Nat) ({ cls := "ChanceGameModel", name := "mixed", desc := "()I" } : Jvm.MethodName) ∈ tb := tb_t (List.mem_of_getElem? (i := 1130) (by decide +kernel)) (by decide +kernel)
theorem k_1134 : Jvm.Cond.methodLink "ChanceGameLaw" (73 : Nat) ({ cls := "ChanceGameModel", name := "variable", desc := "(II)I" } : Jvm.MethodName) ∈ tb := tb_t (List.mem_of_getElem? (i := 1134) (by decide +kernel)) (by decide +kernel)
theorem k_1142 : Jvm.Cond.methodLink "ChanceGameLaw" (78 : Nat) ({ cls := "ChanceGameModel", name := "target", desc := "(I)Z" } : Jvm.MethodName) ∈ tb := tb_t (List.mem_of_getElem? (i := 1142) (by decide +kernel)) (by decide +kernel)
theorem k_1146 : Jvm.Cond.methodLink "ChanceGameLaw" (82 : Nat) ({ cls := "ChanceGameModel", name := "owner", desc := "(I)I" } : Jvm.MethodName) ∈ tb := tb_t (List.mem_of_getElem? (i := 1146) (by decide +kernel)) (by decide +kernel)
theorem k_1150 : Jvm.Cond.methodLink "ChanceGameLaw" (86 : Nat) ({ cls := "ChanceGameModel", name := "choice", desc := "(II)I" } : Jvm.MethodName) ∈ tb := tb_t (List.mem_of_getElem? (i := 1150) (by decide +kernel)) (by decide +kernel)
theorem k_1154 : Jvm.Cond.methodLink "ChanceGameLaw" (91 : Nat) ({ cls := "ChanceGameModel", name := "branch", desc := "(III)I" } : Jvm.MethodName) ∈ tb := tb_t (List.mem_of_getElem? (i := 1154) (by decide +kernel)) (by decide +kernel)
theorem k_1158 : Jvm.Cond.methodLink "ChanceGameLaw" (95 : Nat) ({ cls := "ChanceGameModel", name := "upper", desc := "(I)J" } : Jvm.MethodName) ∈ tb := tb_t (List.mem_of_getElem? (i := 1158) (by decide +kernel)) (by decide +kernel)
theorem k_1166 : Jvm.Cond.methodLink "ChanceGameLaw" (98 : Nat) ({ cls := "ChanceGameModel", name := "lower", desc := "(I)J" } : Jvm.MethodName) ∈ tb := tb_t (List.mem_of_getElem? (i := 1166) (by decide +kernel)) (by decide +kernel)
theorem k_1170 : Jvm.Cond.methodLink "ChanceGameLaw" (101 : Nat) ({ cls := "ChanceGameModel", name := "good", desc := "(I)I" } : Jvm.MethodName) ∈ tb := tb_t (List.mem_of_getElem? (i := 1170) (by decide +kernel)) (by decide +kernel)
theorem k_1174 : Jvm.Cond.constantLong "ChanceGameLaw" (37 : Nat) (4294967295 : Int64) ∈ tb := tb_t (List.mem_of_getElem? (i := 1174) (by decide +kernel)) (by decide +kernel)
