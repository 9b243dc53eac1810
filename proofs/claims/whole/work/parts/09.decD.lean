theorem dX10_init_0 : decode cX10_init 0 = .ok (.aload_n 0, 1) := by decide +kernel
theorem dX10_init_1 : decode cX10_init 1 = .ok (.invokespecial 1, 3) := by decide +kernel
theorem dX10_init_4 : decode cX10_init 4 = .ok (.aload_n 0, 1) := by decide +kernel
theorem dX10_init_5 : decode cX10_init 5 = .ok (.sipush 366, 3) := by decide +kernel
theorem dX10_init_8 : decode cX10_init 8 = .ok (.newarray .int, 2) := by decide +kernel
theorem dX10_init_10 : decode cX10_init 10 = .ok (.putfield 7, 3) := by decide +kernel
theorem dX10_init_13 : decode cX10_init 13 = .ok (.aload_n 0, 1) := by decide +kernel
theorem dX10_init_14 : decode cX10_init 14 = .ok (.bipush 18, 2) := by decide +kernel
theorem dX10_init_16 : decode cX10_init 16 = .ok (.newarray .boolean, 2) := by decide +kernel
theorem dX10_init_18 : decode cX10_init 18 = .ok (.putfield 13, 3) := by decide +kernel
theorem dX10_init_21 : decode cX10_init 21 = .ok (.aload_n 0, 1) := by decide +kernel
theorem dX10_init_22 : decode cX10_init 22 = .ok (.bipush 18, 2) := by decide +kernel
theorem dX10_init_24 : decode cX10_init 24 = .ok (.newarray .int, 2) := by decide +kernel
theorem dX10_init_26 : decode cX10_init 26 = .ok (.putfield 17, 3) := by decide +kernel
theorem dX10_init_29 : decode cX10_init 29 = .ok (.aload_n 0, 1) := by decide +kernel
theorem dX10_init_30 : decode cX10_init 30 = .ok (.bipush 18, 2) := by decide +kernel
theorem dX10_init_32 : decode cX10_init 32 = .ok (.newarray .int, 2) := by decide +kernel
theorem dX10_init_34 : decode cX10_init 34 = .ok (.putfield 20, 3) := by decide +kernel
theorem dX10_init_37 : decode cX10_init 37 = .ok (.aload_n 0, 1) := by decide +kernel
theorem dX10_init_38 : decode cX10_init 38 = .ok (.bipush 18, 2) := by decide +kernel
theorem dX10_init_40 : decode cX10_init 40 = .ok (.newarray .int, 2) := by decide +kernel
theorem dX10_init_42 : decode cX10_init 42 = .ok (.putfield 23, 3) := by decide +kernel
theorem dX10_init_45 : decode cX10_init 45 = .ok (.aload_n 0, 1) := by decide +kernel
theorem dX10_init_46 : decode cX10_init 46 = .ok (.bipush 18, 2) := by decide +kernel
theorem dX10_init_48 : decode cX10_init 48 = .ok (.newarray .boolean, 2) := by decide +kernel
theorem dX10_init_50 : decode cX10_init 50 = .ok (.putfield 26, 3) := by decide +kernel
theorem dX10_init_53 : decode cX10_init 53 = .ok (.aload_n 0, 1) := by decide +kernel
theorem dX10_init_54 : decode cX10_init 54 = .ok (.bipush 18, 2) := by decide +kernel
theorem dX10_init_56 : decode cX10_init 56 = .ok (.newarray .int, 2) := by decide +kernel
theorem dX10_init_58 : decode cX10_init 58 = .ok (.putfield 29, 3) := by decide +kernel
theorem dX10_init_61 : decode cX10_init 61 = .ok (.aload_n 0, 1) := by decide +kernel
theorem dX10_init_62 : decode cX10_init 62 = .ok (.bipush 18, 2) := by decide +kernel
theorem dX10_init_64 : decode cX10_init 64 = .ok (.newarray .int, 2) := by decide +kernel
theorem dX10_init_66 : decode cX10_init 66 = .ok (.putfield 32, 3) := by decide +kernel
theorem dX10_init_69 : decode cX10_init 69 = .ok (.aload_n 0, 1) := by decide +kernel
theorem dX10_init_70 : decode cX10_init 70 = .ok (.bipush 18, 2) := by decide +kernel
theorem dX10_init_72 : decode cX10_init 72 = .ok (.newarray .int, 2) := by decide +kernel
theorem dX10_init_74 : decode cX10_init 74 = .ok (.putfield 35, 3) := by decide +kernel
theorem dX10_init_77 : decode cX10_init 77 = .ok (.aload_n 0, 1) := by decide +kernel
theorem dX10_init_78 : decode cX10_init 78 = .ok (.bipush 18, 2) := by decide +kernel
theorem dX10_init_80 : decode cX10_init 80 = .ok (.newarray .int, 2) := by decide +kernel
theorem dX10_init_82 : decode cX10_init 82 = .ok (.putfield 38, 3) := by decide +kernel
theorem dX10_init_85 : decode cX10_init 85 = .ok (.aload_n 0, 1) := by decide +kernel
theorem dX10_init_86 : decode cX10_init 86 = .ok (.bipush 18, 2) := by decide +kernel
theorem dX10_init_88 : decode cX10_init 88 = .ok (.newarray .int, 2) := by decide +kernel
theorem dX10_init_90 : decode cX10_init 90 = .ok (.putfield 41, 3) := by decide +kernel
theorem dX10_init_93 : decode cX10_init 93 = .ok (.aload_n 0, 1) := by decide +kernel
theorem dX10_init_94 : decode cX10_init 94 = .ok (.bipush 18, 2) := by decide +kernel
theorem dX10_init_96 : decode cX10_init 96 = .ok (.newarray .int, 2) := by decide +kernel
theorem dX10_init_98 : decode cX10_init 98 = .ok (.putfield 44, 3) := by decide +kernel
theorem dX10_init_101 : decode cX10_init 101 = .ok (.aload_n 0, 1) := by decide +kernel
theorem dX10_init_102 : decode cX10_init 102 = .ok (.bipush 18, 2) := by decide +kernel
theorem dX10_init_104 : decode cX10_init 104 = .ok (.newarray .boolean, 2) := by decide +kernel
theorem dX10_init_106 : decode cX10_init 106 = .ok (.putfield 47, 3) := by decide +kernel
theorem dX10_init_109 : decode cX10_init 109 = .ok (.aload_n 0, 1) := by decide +kernel
theorem dX10_init_110 : decode cX10_init 110 = .ok (.bipush 18, 2) := by decide +kernel
theorem dX10_init_112 : decode cX10_init 112 = .ok (.newarray .int, 2) := by decide +kernel
theorem dX10_init_114 : decode cX10_init 114 = .ok (.putfield 50, 3) := by decide +kernel
theorem dX10_init_117 : decode cX10_init 117 = .ok (.aload_n 0, 1) := by decide +kernel
theorem dX10_init_118 : decode cX10_init 118 = .ok (.bipush 18, 2) := by decide +kernel
theorem dX10_init_120 : decode cX10_init 120 = .ok (.newarray .int, 2) := by decide +kernel
theorem dX10_init_122 : decode cX10_init 122 = .ok (.putfield 53, 3) := by decide +kernel
theorem dX10_init_125 : decode cX10_init 125 = .ok (.aload_n 0, 1) := by decide +kernel
theorem dX10_init_126 : decode cX10_init 126 = .ok (.bipush 18, 2) := by decide +kernel
theorem dX10_init_128 : decode cX10_init 128 = .ok (.newarray .int, 2) := by decide +kernel
theorem dX10_init_130 : decode cX10_init 130 = .ok (.putfield 56, 3) := by decide +kernel
theorem dX10_init_133 : decode cX10_init 133 = .ok (.aload_n 0, 1) := by decide +kernel
theorem dX10_init_134 : decode cX10_init 134 = .ok (.bipush 18, 2) := by decide +kernel
theorem dX10_init_136 : decode cX10_init 136 = .ok (.newarray .int, 2) := by decide +kernel
theorem dX10_init_138 : decode cX10_init 138 = .ok (.putfield 59, 3) := by decide +kernel
theorem dX10_init_141 : decode cX10_init 141 = .ok (.aload_n 0, 1) := by decide +kernel
theorem dX10_init_142 : decode cX10_init 142 = .ok (.bipush 18, 2) := by decide +kernel
theorem dX10_init_144 : decode cX10_init 144 = .ok (.newarray .int, 2) := by decide +kernel
theorem dX10_init_146 : decode cX10_init 146 = .ok (.putfield 62, 3) := by decide +kernel
theorem dX10_init_149 : decode cX10_init 149 = .ok (.aload_n 0, 1) := by decide +kernel
theorem dX10_init_150 : decode cX10_init 150 = .ok (.bipush 18, 2) := by decide +kernel
theorem dX10_init_152 : decode cX10_init 152 = .ok (.newarray .int, 2) := by decide +kernel
theorem dX10_init_154 : decode cX10_init 154 = .ok (.putfield 65, 3) := by decide +kernel
theorem dX10_init_157 : decode cX10_init 157 = .ok (.aload_n 0, 1) := by decide +kernel
theorem dX10_init_158 : decode cX10_init 158 = .ok (.bipush 18, 2) := by decide +kernel
theorem dX10_init_160 : decode cX10_init 160 = .ok (.newarray .int, 2) := by decide +kernel
theorem dX10_init_162 : decode cX10_init 162 = .ok (.putfield 68, 3) := by decide +kernel
theorem dX10_init_165 : decode cX10_init 165 = .ok (.aload_n 0, 1) := by decide +kernel
theorem dX10_init_166 : decode cX10_init 166 = .ok (.sipush 1152, 3) := by decide +kernel
theorem dX10_init_169 : decode cX10_init 169 = .ok (.newarray .boolean, 2) := by decide +kernel
theorem dX10_init_171 : decode cX10_init 171 = .ok (.putfield 71, 3) := by decide +kernel
theorem dX10_init_174 : decode cX10_init 174 = .ok (.aload_n 0, 1) := by decide +kernel
theorem dX10_init_175 : decode cX10_init 175 = .ok (.sipush 1152, 3) := by decide +kernel
theorem dX10_init_178 : decode cX10_init 178 = .ok (.newarray .int, 2) := by decide +kernel
theorem dX10_init_180 : decode cX10_init 180 = .ok (.putfield 74, 3) := by decide +kernel
theorem dX10_init_183 : decode cX10_init 183 = .ok (.aload_n 0, 1) := by decide +kernel
theorem dX10_init_184 : decode cX10_init 184 = .ok (.iconst 3, 1) := by decide +kernel
theorem dX10_init_185 : decode cX10_init 185 = .ok (.newarray .boolean, 2) := by decide +kernel
theorem dX10_init_187 : decode cX10_init 187 = .ok (.putfield 77, 3) := by decide +kernel
theorem dX10_init_190 : decode cX10_init 190 = .ok (.aload_n 0, 1) := by decide +kernel
theorem dX10_init_191 : decode cX10_init 191 = .ok (.iconst 3, 1) := by decide +kernel
theorem dX10_init_192 : decode cX10_init 192 = .ok (.newarray .int, 2) := by decide +kernel
theorem dX10_init_194 : decode cX10_init 194 = .ok (.putfield 80, 3) := by decide +kernel
theorem dX10_init_197 : decode cX10_init 197 = .ok (.aload_n 0, 1) := by decide +kernel
theorem dX10_init_198 : decode cX10_init 198 = .ok (.iconst 3, 1) := by decide +kernel
theorem dX10_init_199 : decode cX10_init 199 = .ok (.newarray .int, 2) := by decide +kernel
theorem dX10_init_201 : decode cX10_init 201 = .ok (.putfield 83, 3) := by decide +kernel
theorem dX10_init_204 : decode cX10_init 204 = .ok (.aload_n 0, 1) := by decide +kernel
theorem dX10_init_205 : decode cX10_init 205 = .ok (.iconst 3, 1) := by decide +kernel
theorem dX10_init_206 : decode cX10_init 206 = .ok (.newarray .int, 2) := by decide +kernel
theorem dX10_init_208 : decode cX10_init 208 = .ok (.putfield 86, 3) := by decide +kernel
theorem dX10_init_211 : decode cX10_init 211 = .ok (.aload_n 0, 1) := by decide +kernel
theorem dX10_init_212 : decode cX10_init 212 = .ok (.iconst 3, 1) := by decide +kernel
theorem dX10_init_213 : decode cX10_init 213 = .ok (.newarray .boolean, 2) := by decide +kernel
theorem dX10_init_215 : decode cX10_init 215 = .ok (.putfield 89, 3) := by decide +kernel
theorem dX10_init_218 : decode cX10_init 218 = .ok (.aload_n 0, 1) := by decide +kernel
theorem dX10_init_219 : decode cX10_init 219 = .ok (.iconst 3, 1) := by decide +kernel
theorem dX10_init_220 : decode cX10_init 220 = .ok (.newarray .int, 2) := by decide +kernel
theorem dX10_init_222 : decode cX10_init 222 = .ok (.putfield 92, 3) := by decide +kernel
theorem dX10_init_225 : decode cX10_init 225 = .ok (.aload_n 0, 1) := by decide +kernel
theorem dX10_init_226 : decode cX10_init 226 = .ok (.iconst 3, 1) := by decide +kernel
theorem dX10_init_227 : decode cX10_init 227 = .ok (.newarray .int, 2) := by decide +kernel
theorem dX10_init_229 : decode cX10_init 229 = .ok (.putfield 95, 3) := by decide +kernel
theorem dX10_init_232 : decode cX10_init 232 = .ok (.aload_n 0, 1) := by decide +kernel
theorem dX10_init_233 : decode cX10_init 233 = .ok (.iconst 3, 1) := by decide +kernel
theorem dX10_init_234 : decode cX10_init 234 = .ok (.newarray .int, 2) := by decide +kernel
theorem dX10_init_236 : decode cX10_init 236 = .ok (.putfield 98, 3) := by decide +kernel
theorem dX10_init_239 : decode cX10_init 239 = .ok (.aload_n 0, 1) := by decide +kernel
theorem dX10_init_240 : decode cX10_init 240 = .ok (.iconst 3, 1) := by decide +kernel
theorem dX10_init_241 : decode cX10_init 241 = .ok (.newarray .int, 2) := by decide +kernel
theorem dX10_init_243 : decode cX10_init 243 = .ok (.putfield 101, 3) := by decide +kernel
theorem dX10_init_246 : decode cX10_init 246 = .ok (.aload_n 0, 1) := by decide +kernel
theorem dX10_init_247 : decode cX10_init 247 = .ok (.iconst 3, 1) := by decide +kernel
theorem dX10_init_248 : decode cX10_init 248 = .ok (.newarray .int, 2) := by decide +kernel
theorem dX10_init_250 : decode cX10_init 250 = .ok (.putfield 104, 3) := by decide +kernel
theorem dX10_init_253 : decode cX10_init 253 = .ok (.aload_n 0, 1) := by decide +kernel
theorem dX10_init_254 : decode cX10_init 254 = .ok (.iconst 3, 1) := by decide +kernel
theorem dX10_init_255 : decode cX10_init 255 = .ok (.newarray .int, 2) := by decide +kernel
theorem dX10_init_257 : decode cX10_init 257 = .ok (.putfield 107, 3) := by decide +kernel
theorem dX10_init_260 : decode cX10_init 260 = .ok (.aload_n 0, 1) := by decide +kernel
theorem dX10_init_261 : decode cX10_init 261 = .ok (.iconst 3, 1) := by decide +kernel
theorem dX10_init_262 : decode cX10_init 262 = .ok (.newarray .int, 2) := by decide +kernel
theorem dX10_init_264 : decode cX10_init 264 = .ok (.putfield 110, 3) := by decide +kernel
theorem dX10_init_267 : decode cX10_init 267 = .ok (.aload_n 0, 1) := by decide +kernel
theorem dX10_init_268 : decode cX10_init 268 = .ok (.iconst 3, 1) := by decide +kernel
theorem dX10_init_269 : decode cX10_init 269 = .ok (.newarray .int, 2) := by decide +kernel
theorem dX10_init_271 : decode cX10_init 271 = .ok (.putfield 113, 3) := by decide +kernel
theorem dX10_init_274 : decode cX10_init 274 = .ok (.aload_n 0, 1) := by decide +kernel
theorem dX10_init_275 : decode cX10_init 275 = .ok (.bipush 18, 2) := by decide +kernel
theorem dX10_init_277 : decode cX10_init 277 = .ok (.newarray .int, 2) := by decide +kernel
theorem dX10_init_279 : decode cX10_init 279 = .ok (.putfield 116, 3) := by decide +kernel
theorem dX10_init_282 : decode cX10_init 282 = .ok (.aload_n 0, 1) := by decide +kernel
theorem dX10_init_283 : decode cX10_init 283 = .ok (.bipush 18, 2) := by decide +kernel
theorem dX10_init_285 : decode cX10_init 285 = .ok (.newarray .boolean, 2) := by decide +kernel
theorem dX10_init_287 : decode cX10_init 287 = .ok (.putfield 119, 3) := by decide +kernel
theorem dX10_init_290 : decode cX10_init 290 = .ok (.aload_n 0, 1) := by decide +kernel
theorem dX10_init_291 : decode cX10_init 291 = .ok (.bipush 18, 2) := by decide +kernel
theorem dX10_init_293 : decode cX10_init 293 = .ok (.newarray .boolean, 2) := by decide +kernel
theorem dX10_init_295 : decode cX10_init 295 = .ok (.putfield 122, 3) := by decide +kernel
theorem dX10_init_298 : decode cX10_init 298 = .ok (.aload_n 0, 1) := by decide +kernel
theorem dX10_init_299 : decode cX10_init 299 = .ok (.bipush 18, 2) := by decide +kernel
theorem dX10_init_301 : decode cX10_init 301 = .ok (.newarray .int, 2) := by decide +kernel
theorem dX10_init_303 : decode cX10_init 303 = .ok (.putfield 125, 3) := by decide +kernel
theorem dX10_init_306 : decode cX10_init 306 = .ok (.aload_n 0, 1) := by decide +kernel
theorem dX10_init_307 : decode cX10_init 307 = .ok (.bipush 18, 2) := by decide +kernel
theorem dX10_init_309 : decode cX10_init 309 = .ok (.newarray .int, 2) := by decide +kernel
theorem dX10_init_311 : decode cX10_init 311 = .ok (.putfield 128, 3) := by decide +kernel
theorem dX10_init_314 : decode cX10_init 314 = .ok (.aload_n 0, 1) := by decide +kernel
theorem dX10_init_315 : decode cX10_init 315 = .ok (.iconst 3, 1) := by decide +kernel
theorem dX10_init_316 : decode cX10_init 316 = .ok (.newarray .int, 2) := by decide +kernel
theorem dX10_init_318 : decode cX10_init 318 = .ok (.putfield 131, 3) := by decide +kernel
theorem dX10_init_321 : decode cX10_init 321 = .ok (.aload_n 0, 1) := by decide +kernel
theorem dX10_init_322 : decode cX10_init 322 = .ok (.iconst 3, 1) := by decide +kernel
theorem dX10_init_323 : decode cX10_init 323 = .ok (.newarray .int, 2) := by decide +kernel
theorem dX10_init_325 : decode cX10_init 325 = .ok (.putfield 134, 3) := by decide +kernel
theorem dX10_init_328 : decode cX10_init 328 = .ok (.aload_n 0, 1) := by decide +kernel
theorem dX10_init_329 : decode cX10_init 329 = .ok (.iconst 3, 1) := by decide +kernel
theorem dX10_init_330 : decode cX10_init 330 = .ok (.newarray .int, 2) := by decide +kernel
theorem dX10_init_332 : decode cX10_init 332 = .ok (.putfield 137, 3) := by decide +kernel
theorem dX10_init_335 : decode cX10_init 335 = .ok (.aload_n 0, 1) := by decide +kernel
theorem dX10_init_336 : decode cX10_init 336 = .ok (.iconst 3, 1) := by decide +kernel
theorem dX10_init_337 : decode cX10_init 337 = .ok (.newarray .int, 2) := by decide +kernel
theorem dX10_init_339 : decode cX10_init 339 = .ok (.putfield 140, 3) := by decide +kernel
theorem dX10_init_342 : decode cX10_init 342 = .ok (.aload_n 0, 1) := by decide +kernel
theorem dX10_init_343 : decode cX10_init 343 = .ok (.sipush 192, 3) := by decide +kernel
theorem dX10_init_346 : decode cX10_init 346 = .ok (.newarray .boolean, 2) := by decide +kernel
theorem dX10_init_348 : decode cX10_init 348 = .ok (.putfield 143, 3) := by decide +kernel
theorem dX10_init_351 : decode cX10_init 351 = .ok (.iconst 0, 1) := by decide +kernel
theorem dX10_init_352 : decode cX10_init 352 = .ok (.istore_n 1, 1) := by decide +kernel
theorem dX10_init_353 : decode cX10_init 353 = .ok (.iload_n 1, 1) := by decide +kernel
theorem dX10_init_354 : decode cX10_init 354 = .ok (.iconst 3, 1) := by decide +kernel
theorem dX10_init_355 : decode cX10_init 355 = .ok (.if_icmp .ge 46, 3) := by decide +kernel
theorem dX10_init_358 : decode cX10_init 358 = .ok (.aload_n 0, 1) := by decide +kernel
theorem dX10_init_359 : decode cX10_init 359 = .ok (.getfield 80, 3) := by decide +kernel
theorem dX10_init_362 : decode cX10_init 362 = .ok (.iload_n 1, 1) := by decide +kernel
theorem dX10_init_363 : decode cX10_init 363 = .ok (.bipush 50, 2) := by decide +kernel
theorem dX10_init_365 : decode cX10_init 365 = .ok (.iastore, 1) := by decide +kernel
theorem dX10_init_366 : decode cX10_init 366 = .ok (.aload_n 0, 1) := by decide +kernel
theorem dX10_init_367 : decode cX10_init 367 = .ok (.getfield 83, 3) := by decide +kernel
theorem dX10_init_370 : decode cX10_init 370 = .ok (.iload_n 1, 1) := by decide +kernel
theorem dX10_init_371 : decode cX10_init 371 = .ok (.bipush 20, 2) := by decide +kernel
theorem dX10_init_373 : decode cX10_init 373 = .ok (.iastore, 1) := by decide +kernel
theorem dX10_init_374 : decode cX10_init 374 = .ok (.aload_n 0, 1) := by decide +kernel
theorem dX10_init_375 : decode cX10_init 375 = .ok (.getfield 86, 3) := by decide +kernel
theorem dX10_init_378 : decode cX10_init 378 = .ok (.iload_n 1, 1) := by decide +kernel
theorem dX10_init_379 : decode cX10_init 379 = .ok (.iconst 5, 1) := by decide +kernel
theorem dX10_init_380 : decode cX10_init 380 = .ok (.iastore, 1) := by decide +kernel
theorem dX10_init_381 : decode cX10_init 381 = .ok (.aload_n 0, 1) := by decide +kernel
theorem dX10_init_382 : decode cX10_init 382 = .ok (.getfield 104, 3) := by decide +kernel
theorem dX10_init_385 : decode cX10_init 385 = .ok (.iload_n 1, 1) := by decide +kernel
theorem dX10_init_386 : decode cX10_init 386 = .ok (.iconst (-1), 1) := by decide +kernel
theorem dX10_init_387 : decode cX10_init 387 = .ok (.iastore, 1) := by decide +kernel
theorem dX10_init_388 : decode cX10_init 388 = .ok (.aload_n 0, 1) := by decide +kernel
theorem dX10_init_389 : decode cX10_init 389 = .ok (.getfield 134, 3) := by decide +kernel
theorem dX10_init_392 : decode cX10_init 392 = .ok (.iload_n 1, 1) := by decide +kernel
theorem dX10_init_393 : decode cX10_init 393 = .ok (.iconst (-1), 1) := by decide +kernel
theorem dX10_init_394 : decode cX10_init 394 = .ok (.iastore, 1) := by decide +kernel
theorem dX10_init_395 : decode cX10_init 395 = .ok (.iinc 1 1, 3) := by decide +kernel
theorem dX10_init_398 : decode cX10_init 398 = .ok (.goto (-45), 3) := by decide +kernel
theorem dX10_init_401 : decode cX10_init 401 = .ok (.iconst 0, 1) := by decide +kernel
theorem dX10_init_402 : decode cX10_init 402 = .ok (.istore_n 1, 1) := by decide +kernel
theorem dX10_init_403 : decode cX10_init 403 = .ok (.iload_n 1, 1) := by decide +kernel
theorem dX10_init_404 : decode cX10_init 404 = .ok (.bipush 18, 2) := by decide +kernel
theorem dX10_init_406 : decode cX10_init 406 = .ok (.if_icmp .ge 16, 3) := by decide +kernel
theorem dX10_init_409 : decode cX10_init 409 = .ok (.aload_n 0, 1) := by decide +kernel
theorem dX10_init_410 : decode cX10_init 410 = .ok (.getfield 41, 3) := by decide +kernel
theorem dX10_init_413 : decode cX10_init 413 = .ok (.iload_n 1, 1) := by decide +kernel
theorem dX10_init_414 : decode cX10_init 414 = .ok (.iconst (-1), 1) := by decide +kernel
theorem dX10_init_415 : decode cX10_init 415 = .ok (.iastore, 1) := by decide +kernel
theorem dX10_init_416 : decode cX10_init 416 = .ok (.iinc 1 1, 3) := by decide +kernel
theorem dX10_init_419 : decode cX10_init 419 = .ok (.goto (-16), 3) := by decide +kernel
theorem dX10_init_422 : decode cX10_init 422 = .ok (.return_, 1) := by decide +kernel
theorem dX10_thrown_0 : decode cX10_thrown 0 = .ok (.aload_n 0, 1) := by decide +kernel
theorem dX10_thrown_1 : decode cX10_thrown 1 = .ok (.getfield 146, 3) := by decide +kernel
theorem dX10_thrown_4 : decode cX10_thrown 4 = .ok (.ireturn, 1) := by decide +kernel
theorem dX10_within_0 : decode cX10_within 0 = .ok (.iload_n 0, 1) := by decide +kernel
theorem dX10_within_1 : decode cX10_within 1 = .ok (.iload_n 1, 1) := by decide +kernel
theorem dX10_within_2 : decode cX10_within 2 = .ok (.if_icmp .lt 12, 3) := by decide +kernel
theorem dX10_within_5 : decode cX10_within 5 = .ok (.iload_n 0, 1) := by decide +kernel
theorem dX10_within_6 : decode cX10_within 6 = .ok (.iload_n 2, 1) := by decide +kernel
theorem dX10_within_7 : decode cX10_within 7 = .ok (.if_icmp .gt 7, 3) := by decide +kernel
theorem dX10_within_10 : decode cX10_within 10 = .ok (.iconst 1, 1) := by decide +kernel
theorem dX10_within_11 : decode cX10_within 11 = .ok (.goto 4, 3) := by decide +kernel
theorem dX10_within_14 : decode cX10_within 14 = .ok (.iconst 0, 1) := by decide +kernel
theorem dX10_within_15 : decode cX10_within 15 = .ok (.ireturn, 1) := by decide +kernel
theorem dX10_isMember_0 : decode cX10_isMember 0 = .ok (.iload_n 0, 1) := by decide +kernel
theorem dX10_isMember_1 : decode cX10_isMember 1 = .ok (.iconst 0, 1) := by decide +kernel
theorem dX10_isMember_2 : decode cX10_isMember 2 = .ok (.iconst 2, 1) := by decide +kernel
theorem dX10_isMember_3 : decode cX10_isMember 3 = .ok (.invokestatic 150, 3) := by decide +kernel
theorem dX10_isMember_6 : decode cX10_isMember 6 = .ok (.ifCond .eq 16, 3) := by decide +kernel
theorem dX10_isMember_9 : decode cX10_isMember 9 = .ok (.iload_n 1, 1) := by decide +kernel
theorem dX10_isMember_10 : decode cX10_isMember 10 = .ok (.iconst 0, 1) := by decide +kernel
theorem dX10_isMember_11 : decode cX10_isMember 11 = .ok (.iconst 5, 1) := by decide +kernel
theorem dX10_isMember_12 : decode cX10_isMember 12 = .ok (.invokestatic 150, 3) := by decide +kernel
theorem dX10_isMember_15 : decode cX10_isMember 15 = .ok (.ifCond .eq 7, 3) := by decide +kernel
theorem dX10_isMember_18 : decode cX10_isMember 18 = .ok (.iconst 1, 1) := by decide +kernel
theorem dX10_isMember_19 : decode cX10_isMember 19 = .ok (.goto 4, 3) := by decide +kernel
theorem dX10_isMember_22 : decode cX10_isMember 22 = .ok (.iconst 0, 1) := by decide +kernel
theorem dX10_isMember_23 : decode cX10_isMember 23 = .ok (.ireturn, 1) := by decide +kernel
theorem dX10_send_0 : decode cX10_send 0 = .ok (.aload_n 0, 1) := by decide +kernel
theorem dX10_send_1 : decode cX10_send 1 = .ok (.getfield 154, 3) := by decide +kernel
theorem dX10_send_4 : decode cX10_send 4 = .ok (.bipush 60, 2) := by decide +kernel
theorem dX10_send_6 : decode cX10_send 6 = .ok (.if_icmp .ne 14, 3) := by decide +kernel
theorem dX10_send_9 : decode cX10_send 9 = .ok (.aload_n 0, 1) := by decide +kernel
theorem dX10_send_10 : decode cX10_send 10 = .ok (.dup, 1) := by decide +kernel
theorem dX10_send_11 : decode cX10_send 11 = .ok (.getfield 157, 3) := by decide +kernel
theorem dX10_send_14 : decode cX10_send 14 = .ok (.iconst 1, 1) := by decide +kernel
theorem dX10_send_15 : decode cX10_send 15 = .ok (.iadd, 1) := by decide +kernel
theorem dX10_send_16 : decode cX10_send 16 = .ok (.putfield 157, 3) := by decide +kernel
theorem dX10_send_19 : decode cX10_send 19 = .ok (.return_, 1) := by decide +kernel
theorem dX10_send_20 : decode cX10_send 20 = .ok (.bipush 6, 2) := by decide +kernel
theorem dX10_send_22 : decode cX10_send 22 = .ok (.aload_n 0, 1) := by decide +kernel
theorem dX10_send_23 : decode cX10_send 23 = .ok (.getfield 154, 3) := by decide +kernel
theorem dX10_send_26 : decode cX10_send 26 = .ok (.imul, 1) := by decide +kernel
theorem dX10_send_27 : decode cX10_send 27 = .ok (.istore 7, 2) := by decide +kernel
theorem dX10_send_29 : decode cX10_send 29 = .ok (.aload_n 0, 1) := by decide +kernel
theorem dX10_send_30 : decode cX10_send 30 = .ok (.getfield 7, 3) := by decide +kernel
theorem dX10_send_33 : decode cX10_send 33 = .ok (.iload 7, 2) := by decide +kernel
theorem dX10_send_35 : decode cX10_send 35 = .ok (.iload_n 1, 1) := by decide +kernel
theorem dX10_send_36 : decode cX10_send 36 = .ok (.iastore, 1) := by decide +kernel
theorem dX10_send_37 : decode cX10_send 37 = .ok (.aload_n 0, 1) := by decide +kernel
theorem dX10_send_38 : decode cX10_send 38 = .ok (.getfield 7, 3) := by decide +kernel
theorem dX10_send_41 : decode cX10_send 41 = .ok (.iload 7, 2) := by decide +kernel
theorem dX10_send_43 : decode cX10_send 43 = .ok (.iconst 1, 1) := by decide +kernel
theorem dX10_send_44 : decode cX10_send 44 = .ok (.iadd, 1) := by decide +kernel
theorem dX10_send_45 : decode cX10_send 45 = .ok (.iload_n 2, 1) := by decide +kernel
theorem dX10_send_46 : decode cX10_send 46 = .ok (.iastore, 1) := by decide +kernel
theorem dX10_send_47 : decode cX10_send 47 = .ok (.aload_n 0, 1) := by decide +kernel
theorem dX10_send_48 : decode cX10_send 48 = .ok (.getfield 7, 3) := by decide +kernel
theorem dX10_send_51 : decode cX10_send 51 = .ok (.iload 7, 2) := by decide +kernel
theorem dX10_send_53 : decode cX10_send 53 = .ok (.iconst 2, 1) := by decide +kernel
theorem dX10_send_54 : decode cX10_send 54 = .ok (.iadd, 1) := by decide +kernel
theorem dX10_send_55 : decode cX10_send 55 = .ok (.iload_n 3, 1) := by decide +kernel
theorem dX10_send_56 : decode cX10_send 56 = .ok (.iastore, 1) := by decide +kernel
theorem dX10_send_57 : decode cX10_send 57 = .ok (.aload_n 0, 1) := by decide +kernel
theorem dX10_send_58 : decode cX10_send 58 = .ok (.getfield 7, 3) := by decide +kernel
theorem dX10_send_61 : decode cX10_send 61 = .ok (.iload 7, 2) := by decide +kernel
theorem dX10_send_63 : decode cX10_send 63 = .ok (.iconst 3, 1) := by decide +kernel
theorem dX10_send_64 : decode cX10_send 64 = .ok (.iadd, 1) := by decide +kernel
theorem dX10_send_65 : decode cX10_send 65 = .ok (.iload 4, 2) := by decide +kernel
theorem dX10_send_67 : decode cX10_send 67 = .ok (.iastore, 1) := by decide +kernel
theorem dX10_send_68 : decode cX10_send 68 = .ok (.aload_n 0, 1) := by decide +kernel
theorem dX10_send_69 : decode cX10_send 69 = .ok (.getfield 7, 3) := by decide +kernel
theorem dX10_send_72 : decode cX10_send 72 = .ok (.iload 7, 2) := by decide +kernel
theorem dX10_send_74 : decode cX10_send 74 = .ok (.iconst 4, 1) := by decide +kernel
theorem dX10_send_75 : decode cX10_send 75 = .ok (.iadd, 1) := by decide +kernel
theorem dX10_send_76 : decode cX10_send 76 = .ok (.iload 5, 2) := by decide +kernel
theorem dX10_send_78 : decode cX10_send 78 = .ok (.iastore, 1) := by decide +kernel
theorem dX10_send_79 : decode cX10_send 79 = .ok (.aload_n 0, 1) := by decide +kernel
theorem dX10_send_80 : decode cX10_send 80 = .ok (.getfield 7, 3) := by decide +kernel
theorem dX10_send_83 : decode cX10_send 83 = .ok (.iload 7, 2) := by decide +kernel
theorem dX10_send_85 : decode cX10_send 85 = .ok (.iconst 5, 1) := by decide +kernel
theorem dX10_send_86 : decode cX10_send 86 = .ok (.iadd, 1) := by decide +kernel
theorem dX10_send_87 : decode cX10_send 87 = .ok (.iload 6, 2) := by decide +kernel
theorem dX10_send_89 : decode cX10_send 89 = .ok (.iastore, 1) := by decide +kernel
theorem dX10_send_90 : decode cX10_send 90 = .ok (.aload_n 0, 1) := by decide +kernel
theorem dX10_send_91 : decode cX10_send 91 = .ok (.dup, 1) := by decide +kernel
theorem dX10_send_92 : decode cX10_send 92 = .ok (.getfield 154, 3) := by decide +kernel
theorem dX10_send_95 : decode cX10_send 95 = .ok (.iconst 1, 1) := by decide +kernel
theorem dX10_send_96 : decode cX10_send 96 = .ok (.iadd, 1) := by decide +kernel
theorem dX10_send_97 : decode cX10_send 97 = .ok (.putfield 154, 3) := by decide +kernel
theorem dX10_send_100 : decode cX10_send 100 = .ok (.return_, 1) := by decide +kernel
theorem dX10_rules_0 : decode cX10_rules 0 = .ok (.aload_n 0, 1) := by decide +kernel
theorem dX10_rules_1 : decode cX10_rules 1 = .ok (.iload_n 1, 1) := by decide +kernel
theorem dX10_rules_2 : decode cX10_rules 2 = .ok (.iconst 0, 1) := by decide +kernel
theorem dX10_rules_3 : decode cX10_rules 3 = .ok (.iconst 2, 1) := by decide +kernel
theorem dX10_rules_4 : decode cX10_rules 4 = .ok (.invokestatic 150, 3) := by decide +kernel
theorem dX10_rules_7 : decode cX10_rules 7 = .ok (.ifCond .ne 7, 3) := by decide +kernel
theorem dX10_rules_10 : decode cX10_rules 10 = .ok (.iconst 1, 1) := by decide +kernel
theorem dX10_rules_11 : decode cX10_rules 11 = .ok (.goto 40, 3) := by decide +kernel
theorem dX10_rules_14 : decode cX10_rules 14 = .ok (.iload_n 3, 1) := by decide +kernel
theorem dX10_rules_15 : decode cX10_rules 15 = .ok (.iconst 1, 1) := by decide +kernel
theorem dX10_rules_16 : decode cX10_rules 16 = .ok (.bipush 100, 2) := by decide +kernel
theorem dX10_rules_18 : decode cX10_rules 18 = .ok (.invokestatic 150, 3) := by decide +kernel
theorem dX10_rules_21 : decode cX10_rules 21 = .ok (.ifCond .eq 25, 3) := by decide +kernel
theorem dX10_rules_24 : decode cX10_rules 24 = .ok (.iload 4, 2) := by decide +kernel
theorem dX10_rules_26 : decode cX10_rules 26 = .ok (.iconst 1, 1) := by decide +kernel
theorem dX10_rules_27 : decode cX10_rules 27 = .ok (.bipush 50, 2) := by decide +kernel
theorem dX10_rules_29 : decode cX10_rules 29 = .ok (.invokestatic 150, 3) := by decide +kernel
theorem dX10_rules_32 : decode cX10_rules 32 = .ok (.ifCond .eq 14, 3) := by decide +kernel
theorem dX10_rules_35 : decode cX10_rules 35 = .ok (.iload 5, 2) := by decide +kernel
theorem dX10_rules_37 : decode cX10_rules 37 = .ok (.iconst 0, 1) := by decide +kernel
theorem dX10_rules_38 : decode cX10_rules 38 = .ok (.bipush 20, 2) := by decide +kernel
theorem dX10_rules_40 : decode cX10_rules 40 = .ok (.invokestatic 150, 3) := by decide +kernel
theorem dX10_rules_43 : decode cX10_rules 43 = .ok (.ifCond .ne 7, 3) := by decide +kernel
theorem dX10_rules_46 : decode cX10_rules 46 = .ok (.iconst 2, 1) := by decide +kernel
theorem dX10_rules_47 : decode cX10_rules 47 = .ok (.goto 4, 3) := by decide +kernel
theorem dX10_rules_50 : decode cX10_rules 50 = .ok (.iconst 0, 1) := by decide +kernel
theorem dX10_rules_51 : decode cX10_rules 51 = .ok (.putfield 146, 3) := by decide +kernel
theorem dX10_rules_54 : decode cX10_rules 54 = .ok (.aload_n 0, 1) := by decide +kernel
theorem dX10_rules_55 : decode cX10_rules 55 = .ok (.getfield 146, 3) := by decide +kernel
theorem dX10_rules_58 : decode cX10_rules 58 = .ok (.ifCond .ne 33, 3) := by decide +kernel
theorem dX10_rules_61 : decode cX10_rules 61 = .ok (.aload_n 0, 1) := by decide +kernel
theorem dX10_rules_62 : decode cX10_rules 62 = .ok (.getfield 77, 3) := by decide +kernel
theorem dX10_rules_65 : decode cX10_rules 65 = .ok (.iload_n 1, 1) := by decide +kernel
theorem dX10_rules_66 : decode cX10_rules 66 = .ok (.iload_n 2, 1) := by decide +kernel
theorem dX10_rules_67 : decode cX10_rules 67 = .ok (.bastore, 1) := by decide +kernel
theorem dX10_rules_68 : decode cX10_rules 68 = .ok (.aload_n 0, 1) := by decide +kernel
theorem dX10_rules_69 : decode cX10_rules 69 = .ok (.getfield 80, 3) := by decide +kernel
theorem dX10_rules_72 : decode cX10_rules 72 = .ok (.iload_n 1, 1) := by decide +kernel
theorem dX10_rules_73 : decode cX10_rules 73 = .ok (.iload_n 3, 1) := by decide +kernel
theorem dX10_rules_74 : decode cX10_rules 74 = .ok (.iastore, 1) := by decide +kernel
theorem dX10_rules_75 : decode cX10_rules 75 = .ok (.aload_n 0, 1) := by decide +kernel
theorem dX10_rules_76 : decode cX10_rules 76 = .ok (.getfield 83, 3) := by decide +kernel
theorem dX10_rules_79 : decode cX10_rules 79 = .ok (.iload_n 1, 1) := by decide +kernel
theorem dX10_rules_80 : decode cX10_rules 80 = .ok (.iload 4, 2) := by decide +kernel
theorem dX10_rules_82 : decode cX10_rules 82 = .ok (.iastore, 1) := by decide +kernel
theorem dX10_rules_83 : decode cX10_rules 83 = .ok (.aload_n 0, 1) := by decide +kernel
theorem dX10_rules_84 : decode cX10_rules 84 = .ok (.getfield 86, 3) := by decide +kernel
theorem dX10_rules_87 : decode cX10_rules 87 = .ok (.iload_n 1, 1) := by decide +kernel
theorem dX10_rules_88 : decode cX10_rules 88 = .ok (.iload 5, 2) := by decide +kernel
theorem dX10_rules_90 : decode cX10_rules 90 = .ok (.iastore, 1) := by decide +kernel
theorem dX10_rules_91 : decode cX10_rules 91 = .ok (.return_, 1) := by decide +kernel
theorem dX10_member_0 : decode cX10_member 0 = .ok (.aload_n 0, 1) := by decide +kernel
theorem dX10_member_1 : decode cX10_member 1 = .ok (.iload_n 1, 1) := by decide +kernel
theorem dX10_member_2 : decode cX10_member 2 = .ok (.iload_n 2, 1) := by decide +kernel
theorem dX10_member_3 : decode cX10_member 3 = .ok (.invokestatic 160, 3) := by decide +kernel
theorem dX10_member_6 : decode cX10_member 6 = .ok (.ifCond .ne 7, 3) := by decide +kernel
theorem dX10_member_9 : decode cX10_member 9 = .ok (.iconst 1, 1) := by decide +kernel
theorem dX10_member_10 : decode cX10_member 10 = .ok (.goto 18, 3) := by decide +kernel
theorem dX10_member_13 : decode cX10_member 13 = .ok (.iload_n 3, 1) := by decide +kernel
theorem dX10_member_14 : decode cX10_member 14 = .ok (.iconst 0, 1) := by decide +kernel
theorem dX10_member_15 : decode cX10_member 15 = .ok (.bipush 7, 2) := by decide +kernel
theorem dX10_member_17 : decode cX10_member 17 = .ok (.invokestatic 150, 3) := by decide +kernel
theorem dX10_member_20 : decode cX10_member 20 = .ok (.ifCond .ne 7, 3) := by decide +kernel
theorem dX10_member_23 : decode cX10_member 23 = .ok (.iconst 2, 1) := by decide +kernel
theorem dX10_member_24 : decode cX10_member 24 = .ok (.goto 4, 3) := by decide +kernel
theorem dX10_member_27 : decode cX10_member 27 = .ok (.iconst 0, 1) := by decide +kernel
theorem dX10_member_28 : decode cX10_member 28 = .ok (.putfield 146, 3) := by decide +kernel
theorem dX10_member_31 : decode cX10_member 31 = .ok (.aload_n 0, 1) := by decide +kernel
theorem dX10_member_32 : decode cX10_member 32 = .ok (.getfield 146, 3) := by decide +kernel
theorem dX10_member_35 : decode cX10_member 35 = .ok (.ifCond .ne 27, 3) := by decide +kernel
theorem dX10_member_38 : decode cX10_member 38 = .ok (.aload_n 0, 1) := by decide +kernel
theorem dX10_member_39 : decode cX10_member 39 = .ok (.getfield 13, 3) := by decide +kernel
theorem dX10_member_42 : decode cX10_member 42 = .ok (.bipush 6, 2) := by decide +kernel
theorem dX10_member_44 : decode cX10_member 44 = .ok (.iload_n 1, 1) := by decide +kernel
theorem dX10_member_45 : decode cX10_member 45 = .ok (.imul, 1) := by decide +kernel
theorem dX10_member_46 : decode cX10_member 46 = .ok (.iload_n 2, 1) := by decide +kernel
theorem dX10_member_47 : decode cX10_member 47 = .ok (.iadd, 1) := by decide +kernel
theorem dX10_member_48 : decode cX10_member 48 = .ok (.iconst 1, 1) := by decide +kernel
theorem dX10_member_49 : decode cX10_member 49 = .ok (.bastore, 1) := by decide +kernel
theorem dX10_member_50 : decode cX10_member 50 = .ok (.aload_n 0, 1) := by decide +kernel
theorem dX10_member_51 : decode cX10_member 51 = .ok (.getfield 17, 3) := by decide +kernel
theorem dX10_member_54 : decode cX10_member 54 = .ok (.bipush 6, 2) := by decide +kernel
theorem dX10_member_56 : decode cX10_member 56 = .ok (.iload_n 1, 1) := by decide +kernel
theorem dX10_member_57 : decode cX10_member 57 = .ok (.imul, 1) := by decide +kernel
theorem dX10_member_58 : decode cX10_member 58 = .ok (.iload_n 2, 1) := by decide +kernel
theorem dX10_member_59 : decode cX10_member 59 = .ok (.iadd, 1) := by decide +kernel
theorem dX10_member_60 : decode cX10_member 60 = .ok (.iload_n 3, 1) := by decide +kernel
theorem dX10_member_61 : decode cX10_member 61 = .ok (.iastore, 1) := by decide +kernel
theorem dX10_member_62 : decode cX10_member 62 = .ok (.return_, 1) := by decide +kernel
theorem dX10_leave_0 : decode cX10_leave 0 = .ok (.aload_n 0, 1) := by decide +kernel
theorem dX10_leave_1 : decode cX10_leave 1 = .ok (.iload_n 1, 1) := by decide +kernel
theorem dX10_leave_2 : decode cX10_leave 2 = .ok (.iload_n 2, 1) := by decide +kernel
theorem dX10_leave_3 : decode cX10_leave 3 = .ok (.invokestatic 160, 3) := by decide +kernel
theorem dX10_leave_6 : decode cX10_leave 6 = .ok (.ifCond .eq 7, 3) := by decide +kernel
theorem dX10_leave_9 : decode cX10_leave 9 = .ok (.iconst 0, 1) := by decide +kernel
theorem dX10_leave_10 : decode cX10_leave 10 = .ok (.goto 4, 3) := by decide +kernel
theorem dX10_leave_13 : decode cX10_leave 13 = .ok (.iconst 1, 1) := by decide +kernel
theorem dX10_leave_14 : decode cX10_leave 14 = .ok (.putfield 146, 3) := by decide +kernel
theorem dX10_leave_17 : decode cX10_leave 17 = .ok (.aload_n 0, 1) := by decide +kernel
theorem dX10_leave_18 : decode cX10_leave 18 = .ok (.getfield 146, 3) := by decide +kernel
theorem dX10_leave_21 : decode cX10_leave 21 = .ok (.ifCond .gt 17, 3) := by decide +kernel
theorem dX10_leave_24 : decode cX10_leave 24 = .ok (.aload_n 0, 1) := by decide +kernel
theorem dX10_leave_25 : decode cX10_leave 25 = .ok (.getfield 13, 3) := by decide +kernel
theorem dX10_leave_28 : decode cX10_leave 28 = .ok (.bipush 6, 2) := by decide +kernel
theorem dX10_leave_30 : decode cX10_leave 30 = .ok (.iload_n 1, 1) := by decide +kernel
theorem dX10_leave_31 : decode cX10_leave 31 = .ok (.imul, 1) := by decide +kernel
theorem dX10_leave_32 : decode cX10_leave 32 = .ok (.iload_n 2, 1) := by decide +kernel
theorem dX10_leave_33 : decode cX10_leave 33 = .ok (.iadd, 1) := by decide +kernel
theorem dX10_leave_34 : decode cX10_leave 34 = .ok (.baload, 1) := by decide +kernel
theorem dX10_leave_35 : decode cX10_leave 35 = .ok (.ifCond .ne 5, 3) := by decide +kernel
theorem dX10_leave_38 : decode cX10_leave 38 = .ok (.iconst 0, 1) := by decide +kernel
theorem dX10_leave_39 : decode cX10_leave 39 = .ok (.ireturn, 1) := by decide +kernel
theorem dX10_leave_40 : decode cX10_leave 40 = .ok (.aload_n 0, 1) := by decide +kernel
theorem dX10_leave_41 : decode cX10_leave 41 = .ok (.getfield 13, 3) := by decide +kernel
theorem dX10_leave_44 : decode cX10_leave 44 = .ok (.bipush 6, 2) := by decide +kernel
theorem dX10_leave_46 : decode cX10_leave 46 = .ok (.iload_n 1, 1) := by decide +kernel
theorem dX10_leave_47 : decode cX10_leave 47 = .ok (.imul, 1) := by decide +kernel
theorem dX10_leave_48 : decode cX10_leave 48 = .ok (.iload_n 2, 1) := by decide +kernel
theorem dX10_leave_49 : decode cX10_leave 49 = .ok (.iadd, 1) := by decide +kernel
theorem dX10_leave_50 : decode cX10_leave 50 = .ok (.iconst 0, 1) := by decide +kernel
theorem dX10_leave_51 : decode cX10_leave 51 = .ok (.bastore, 1) := by decide +kernel
theorem dX10_leave_52 : decode cX10_leave 52 = .ok (.aload_n 0, 1) := by decide +kernel
theorem dX10_leave_53 : decode cX10_leave 53 = .ok (.getfield 20, 3) := by decide +kernel
theorem dX10_leave_56 : decode cX10_leave 56 = .ok (.bipush 6, 2) := by decide +kernel
theorem dX10_leave_58 : decode cX10_leave 58 = .ok (.iload_n 1, 1) := by decide +kernel
theorem dX10_leave_59 : decode cX10_leave 59 = .ok (.imul, 1) := by decide +kernel
theorem dX10_leave_60 : decode cX10_leave 60 = .ok (.iload_n 2, 1) := by decide +kernel
theorem dX10_leave_61 : decode cX10_leave 61 = .ok (.iadd, 1) := by decide +kernel
theorem dX10_leave_62 : decode cX10_leave 62 = .ok (.iconst 0, 1) := by decide +kernel
theorem dX10_leave_63 : decode cX10_leave 63 = .ok (.iastore, 1) := by decide +kernel
theorem dX10_leave_64 : decode cX10_leave 64 = .ok (.aload_n 0, 1) := by decide +kernel
theorem dX10_leave_65 : decode cX10_leave 65 = .ok (.getfield 47, 3) := by decide +kernel
theorem dX10_leave_68 : decode cX10_leave 68 = .ok (.bipush 6, 2) := by decide +kernel
theorem dX10_leave_70 : decode cX10_leave 70 = .ok (.iload_n 1, 1) := by decide +kernel
theorem dX10_leave_71 : decode cX10_leave 71 = .ok (.imul, 1) := by decide +kernel
theorem dX10_leave_72 : decode cX10_leave 72 = .ok (.iload_n 2, 1) := by decide +kernel
theorem dX10_leave_73 : decode cX10_leave 73 = .ok (.iadd, 1) := by decide +kernel
theorem dX10_leave_74 : decode cX10_leave 74 = .ok (.iconst 0, 1) := by decide +kernel
theorem dX10_leave_75 : decode cX10_leave 75 = .ok (.bastore, 1) := by decide +kernel
theorem dX10_leave_76 : decode cX10_leave 76 = .ok (.aload_n 0, 1) := by decide +kernel
theorem dX10_leave_77 : decode cX10_leave 77 = .ok (.iload_n 1, 1) := by decide +kernel
theorem dX10_leave_78 : decode cX10_leave 78 = .ok (.iload_n 2, 1) := by decide +kernel
theorem dX10_leave_79 : decode cX10_leave 79 = .ok (.invokevirtual 164, 3) := by decide +kernel
theorem dX10_leave_82 : decode cX10_leave 82 = .ok (.iconst 1, 1) := by decide +kernel
theorem dX10_leave_83 : decode cX10_leave 83 = .ok (.ireturn, 1) := by decide +kernel
theorem dX10_ask_0 : decode cX10_ask 0 = .ok (.bipush 6, 2) := by decide +kernel
theorem dX10_ask_2 : decode cX10_ask 2 = .ok (.iload_n 1, 1) := by decide +kernel
theorem dX10_ask_3 : decode cX10_ask 3 = .ok (.imul, 1) := by decide +kernel
theorem dX10_ask_4 : decode cX10_ask 4 = .ok (.iload_n 2, 1) := by decide +kernel
theorem dX10_ask_5 : decode cX10_ask 5 = .ok (.iadd, 1) := by decide +kernel
theorem dX10_ask_6 : decode cX10_ask 6 = .ok (.istore_n 3, 1) := by decide +kernel
theorem dX10_ask_7 : decode cX10_ask 7 = .ok (.aload_n 0, 1) := by decide +kernel
theorem dX10_ask_8 : decode cX10_ask 8 = .ok (.iconst 1, 1) := by decide +kernel
theorem dX10_ask_9 : decode cX10_ask 9 = .ok (.iload_n 1, 1) := by decide +kernel
theorem dX10_ask_10 : decode cX10_ask 10 = .ok (.iload_n 2, 1) := by decide +kernel
theorem dX10_ask_11 : decode cX10_ask 11 = .ok (.aload_n 0, 1) := by decide +kernel
theorem dX10_ask_12 : decode cX10_ask 12 = .ok (.getfield 23, 3) := by decide +kernel
theorem dX10_ask_15 : decode cX10_ask 15 = .ok (.iload_n 3, 1) := by decide +kernel
theorem dX10_ask_16 : decode cX10_ask 16 = .ok (.iaload, 1) := by decide +kernel
theorem dX10_ask_17 : decode cX10_ask 17 = .ok (.aload_n 0, 1) := by decide +kernel
theorem dX10_ask_18 : decode cX10_ask 18 = .ok (.getfield 26, 3) := by decide +kernel
theorem dX10_ask_21 : decode cX10_ask 21 = .ok (.iload_n 3, 1) := by decide +kernel
theorem dX10_ask_22 : decode cX10_ask 22 = .ok (.baload, 1) := by decide +kernel
theorem dX10_ask_23 : decode cX10_ask 23 = .ok (.ifCond .eq 7, 3) := by decide +kernel
theorem dX10_ask_26 : decode cX10_ask 26 = .ok (.iconst 1, 1) := by decide +kernel
theorem dX10_ask_27 : decode cX10_ask 27 = .ok (.goto 4, 3) := by decide +kernel
theorem dX10_ask_30 : decode cX10_ask 30 = .ok (.iconst 0, 1) := by decide +kernel
theorem dX10_ask_31 : decode cX10_ask 31 = .ok (.iconst 0, 1) := by decide +kernel
theorem dX10_ask_32 : decode cX10_ask 32 = .ok (.invokevirtual 168, 3) := by decide +kernel
theorem dX10_ask_35 : decode cX10_ask 35 = .ok (.return_, 1) := by decide +kernel
theorem dX10_press_0 : decode cX10_press 0 = .ok (.bipush 6, 2) := by decide +kernel
theorem dX10_press_2 : decode cX10_press 2 = .ok (.iload_n 1, 1) := by decide +kernel
theorem dX10_press_3 : decode cX10_press 3 = .ok (.imul, 1) := by decide +kernel
theorem dX10_press_4 : decode cX10_press 4 = .ok (.iload_n 2, 1) := by decide +kernel
theorem dX10_press_5 : decode cX10_press 5 = .ok (.iadd, 1) := by decide +kernel
theorem dX10_press_6 : decode cX10_press 6 = .ok (.istore 4, 2) := by decide +kernel
theorem dX10_press_8 : decode cX10_press 8 = .ok (.aload_n 0, 1) := by decide +kernel
theorem dX10_press_9 : decode cX10_press 9 = .ok (.iload_n 1, 1) := by decide +kernel
theorem dX10_press_10 : decode cX10_press 10 = .ok (.iload_n 2, 1) := by decide +kernel
theorem dX10_press_11 : decode cX10_press 11 = .ok (.invokestatic 160, 3) := by decide +kernel
theorem dX10_press_14 : decode cX10_press 14 = .ok (.ifCond .ne 7, 3) := by decide +kernel
theorem dX10_press_17 : decode cX10_press 17 = .ok (.iconst 1, 1) := by decide +kernel
theorem dX10_press_18 : decode cX10_press 18 = .ok (.goto 28, 3) := by decide +kernel
theorem dX10_press_21 : decode cX10_press 21 = .ok (.aload_n 0, 1) := by decide +kernel
theorem dX10_press_22 : decode cX10_press 22 = .ok (.getfield 13, 3) := by decide +kernel
theorem dX10_press_25 : decode cX10_press 25 = .ok (.iload 4, 2) := by decide +kernel
theorem dX10_press_27 : decode cX10_press 27 = .ok (.baload, 1) := by decide +kernel
theorem dX10_press_28 : decode cX10_press 28 = .ok (.ifCond .eq 13, 3) := by decide +kernel
theorem dX10_press_31 : decode cX10_press 31 = .ok (.aload_n 0, 1) := by decide +kernel
theorem dX10_press_32 : decode cX10_press 32 = .ok (.getfield 20, 3) := by decide +kernel
theorem dX10_press_35 : decode cX10_press 35 = .ok (.iload 4, 2) := by decide +kernel
theorem dX10_press_37 : decode cX10_press 37 = .ok (.iaload, 1) := by decide +kernel
theorem dX10_press_38 : decode cX10_press 38 = .ok (.ifCond .eq 7, 3) := by decide +kernel
theorem dX10_press_41 : decode cX10_press 41 = .ok (.iconst 2, 1) := by decide +kernel
theorem dX10_press_42 : decode cX10_press 42 = .ok (.goto 4, 3) := by decide +kernel
theorem dX10_press_45 : decode cX10_press 45 = .ok (.iconst 0, 1) := by decide +kernel
theorem dX10_press_46 : decode cX10_press 46 = .ok (.putfield 146, 3) := by decide +kernel
theorem dX10_press_49 : decode cX10_press 49 = .ok (.aload_n 0, 1) := by decide +kernel
theorem dX10_press_50 : decode cX10_press 50 = .ok (.getfield 146, 3) := by decide +kernel
theorem dX10_press_53 : decode cX10_press 53 = .ok (.ifCond .le 5, 3) := by decide +kernel
theorem dX10_press_56 : decode cX10_press 56 = .ok (.iconst 0, 1) := by decide +kernel
theorem dX10_press_57 : decode cX10_press 57 = .ok (.ireturn, 1) := by decide +kernel
theorem dX10_press_58 : decode cX10_press 58 = .ok (.aload_n 0, 1) := by decide +kernel
theorem dX10_press_59 : decode cX10_press 59 = .ok (.getfield 23, 3) := by decide +kernel
theorem dX10_press_62 : decode cX10_press 62 = .ok (.iload 4, 2) := by decide +kernel
theorem dX10_press_64 : decode cX10_press 64 = .ok (.dup2, 1) := by decide +kernel
theorem dX10_press_65 : decode cX10_press 65 = .ok (.iaload, 1) := by decide +kernel
theorem dX10_press_66 : decode cX10_press 66 = .ok (.iconst 1, 1) := by decide +kernel
theorem dX10_press_67 : decode cX10_press 67 = .ok (.iadd, 1) := by decide +kernel
theorem dX10_press_68 : decode cX10_press 68 = .ok (.iastore, 1) := by decide +kernel
theorem dX10_press_69 : decode cX10_press 69 = .ok (.aload_n 0, 1) := by decide +kernel
theorem dX10_press_70 : decode cX10_press 70 = .ok (.getfield 26, 3) := by decide +kernel
theorem dX10_press_73 : decode cX10_press 73 = .ok (.iload 4, 2) := by decide +kernel
theorem dX10_press_75 : decode cX10_press 75 = .ok (.iload_n 3, 1) := by decide +kernel
theorem dX10_press_76 : decode cX10_press 76 = .ok (.bastore, 1) := by decide +kernel
theorem dX10_press_77 : decode cX10_press 77 = .ok (.aload_n 0, 1) := by decide +kernel
theorem dX10_press_78 : decode cX10_press 78 = .ok (.getfield 20, 3) := by decide +kernel
theorem dX10_press_81 : decode cX10_press 81 = .ok (.iload 4, 2) := by decide +kernel
theorem dX10_press_83 : decode cX10_press 83 = .ok (.iconst 1, 1) := by decide +kernel
theorem dX10_press_84 : decode cX10_press 84 = .ok (.iastore, 1) := by decide +kernel
theorem dX10_press_85 : decode cX10_press 85 = .ok (.aload_n 0, 1) := by decide +kernel
theorem dX10_press_86 : decode cX10_press 86 = .ok (.iload_n 1, 1) := by decide +kernel
theorem dX10_press_87 : decode cX10_press 87 = .ok (.iload_n 2, 1) := by decide +kernel
theorem dX10_press_88 : decode cX10_press 88 = .ok (.invokevirtual 172, 3) := by decide +kernel
theorem dX10_press_91 : decode cX10_press 91 = .ok (.aload_n 0, 1) := by decide +kernel
theorem dX10_press_92 : decode cX10_press 92 = .ok (.getfield 23, 3) := by decide +kernel
theorem dX10_press_95 : decode cX10_press 95 = .ok (.iload 4, 2) := by decide +kernel
theorem dX10_press_97 : decode cX10_press 97 = .ok (.iaload, 1) := by decide +kernel
theorem dX10_press_98 : decode cX10_press 98 = .ok (.ireturn, 1) := by decide +kernel
theorem dX10_again_0 : decode cX10_again 0 = .ok (.bipush 6, 2) := by decide +kernel
theorem dX10_again_2 : decode cX10_again 2 = .ok (.iload_n 1, 1) := by decide +kernel
theorem dX10_again_3 : decode cX10_again 3 = .ok (.imul, 1) := by decide +kernel
theorem dX10_again_4 : decode cX10_again 4 = .ok (.iload_n 2, 1) := by decide +kernel
theorem dX10_again_5 : decode cX10_again 5 = .ok (.iadd, 1) := by decide +kernel
theorem dX10_again_6 : decode cX10_again 6 = .ok (.istore_n 3, 1) := by decide +kernel
theorem dX10_again_7 : decode cX10_again 7 = .ok (.aload_n 0, 1) := by decide +kernel
theorem dX10_again_8 : decode cX10_again 8 = .ok (.iload_n 1, 1) := by decide +kernel
theorem dX10_again_9 : decode cX10_again 9 = .ok (.iload_n 2, 1) := by decide +kernel
theorem dX10_again_10 : decode cX10_again 10 = .ok (.invokestatic 160, 3) := by decide +kernel
theorem dX10_again_13 : decode cX10_again 13 = .ok (.ifCond .ne 7, 3) := by decide +kernel
theorem dX10_again_16 : decode cX10_again 16 = .ok (.iconst 1, 1) := by decide +kernel
theorem dX10_again_17 : decode cX10_again 17 = .ok (.goto 31, 3) := by decide +kernel
theorem dX10_again_20 : decode cX10_again 20 = .ok (.aload_n 0, 1) := by decide +kernel
theorem dX10_again_21 : decode cX10_again 21 = .ok (.getfield 13, 3) := by decide +kernel
theorem dX10_again_24 : decode cX10_again 24 = .ok (.iload_n 3, 1) := by decide +kernel
theorem dX10_again_25 : decode cX10_again 25 = .ok (.baload, 1) := by decide +kernel
theorem dX10_again_26 : decode cX10_again 26 = .ok (.ifCond .eq 17, 3) := by decide +kernel
theorem dX10_again_29 : decode cX10_again 29 = .ok (.aload_n 0, 1) := by decide +kernel
theorem dX10_again_30 : decode cX10_again 30 = .ok (.getfield 20, 3) := by decide +kernel
theorem dX10_again_33 : decode cX10_again 33 = .ok (.iload_n 3, 1) := by decide +kernel
theorem dX10_again_34 : decode cX10_again 34 = .ok (.iaload, 1) := by decide +kernel
theorem dX10_again_35 : decode cX10_again 35 = .ok (.iconst 1, 1) := by decide +kernel
theorem dX10_again_36 : decode cX10_again 36 = .ok (.iconst 2, 1) := by decide +kernel
theorem dX10_again_37 : decode cX10_again 37 = .ok (.invokestatic 150, 3) := by decide +kernel
theorem dX10_again_40 : decode cX10_again 40 = .ok (.ifCond .ne 7, 3) := by decide +kernel
theorem dX10_again_43 : decode cX10_again 43 = .ok (.iconst 2, 1) := by decide +kernel
theorem dX10_again_44 : decode cX10_again 44 = .ok (.goto 4, 3) := by decide +kernel
theorem dX10_again_47 : decode cX10_again 47 = .ok (.iconst 0, 1) := by decide +kernel
theorem dX10_again_48 : decode cX10_again 48 = .ok (.putfield 146, 3) := by decide +kernel
theorem dX10_again_51 : decode cX10_again 51 = .ok (.aload_n 0, 1) := by decide +kernel
theorem dX10_again_52 : decode cX10_again 52 = .ok (.getfield 146, 3) := by decide +kernel
theorem dX10_again_55 : decode cX10_again 55 = .ok (.ifCond .ne 9, 3) := by decide +kernel
theorem dX10_again_58 : decode cX10_again 58 = .ok (.aload_n 0, 1) := by decide +kernel
theorem dX10_again_59 : decode cX10_again 59 = .ok (.iload_n 1, 1) := by decide +kernel
theorem dX10_again_60 : decode cX10_again 60 = .ok (.iload_n 2, 1) := by decide +kernel
theorem dX10_again_61 : decode cX10_again 61 = .ok (.invokevirtual 172, 3) := by decide +kernel
theorem dX10_again_64 : decode cX10_again 64 = .ok (.return_, 1) := by decide +kernel
theorem dX10_release_0 : decode cX10_release 0 = .ok (.bipush 6, 2) := by decide +kernel
theorem dX10_release_2 : decode cX10_release 2 = .ok (.iload_n 1, 1) := by decide +kernel
theorem dX10_release_3 : decode cX10_release 3 = .ok (.imul, 1) := by decide +kernel
theorem dX10_release_4 : decode cX10_release 4 = .ok (.iload_n 2, 1) := by decide +kernel
theorem dX10_release_5 : decode cX10_release 5 = .ok (.iadd, 1) := by decide +kernel
theorem dX10_release_6 : decode cX10_release 6 = .ok (.istore_n 3, 1) := by decide +kernel
theorem dX10_release_7 : decode cX10_release 7 = .ok (.aload_n 0, 1) := by decide +kernel
theorem dX10_release_8 : decode cX10_release 8 = .ok (.iload_n 1, 1) := by decide +kernel
theorem dX10_release_9 : decode cX10_release 9 = .ok (.iload_n 2, 1) := by decide +kernel
theorem dX10_release_10 : decode cX10_release 10 = .ok (.invokestatic 160, 3) := by decide +kernel
theorem dX10_release_13 : decode cX10_release 13 = .ok (.ifCond .ne 7, 3) := by decide +kernel
theorem dX10_release_16 : decode cX10_release 16 = .ok (.iconst 1, 1) := by decide +kernel
theorem dX10_release_17 : decode cX10_release 17 = .ok (.goto 26, 3) := by decide +kernel
theorem dX10_release_20 : decode cX10_release 20 = .ok (.aload_n 0, 1) := by decide +kernel
theorem dX10_release_21 : decode cX10_release 21 = .ok (.getfield 13, 3) := by decide +kernel
theorem dX10_release_24 : decode cX10_release 24 = .ok (.iload_n 3, 1) := by decide +kernel
theorem dX10_release_25 : decode cX10_release 25 = .ok (.baload, 1) := by decide +kernel
theorem dX10_release_26 : decode cX10_release 26 = .ok (.ifCond .eq 12, 3) := by decide +kernel
theorem dX10_release_29 : decode cX10_release 29 = .ok (.aload_n 0, 1) := by decide +kernel
theorem dX10_release_30 : decode cX10_release 30 = .ok (.getfield 20, 3) := by decide +kernel
theorem dX10_release_33 : decode cX10_release 33 = .ok (.iload_n 3, 1) := by decide +kernel
theorem dX10_release_34 : decode cX10_release 34 = .ok (.iaload, 1) := by decide +kernel
theorem dX10_release_35 : decode cX10_release 35 = .ok (.ifCond .ne 7, 3) := by decide +kernel
theorem dX10_release_38 : decode cX10_release 38 = .ok (.iconst 2, 1) := by decide +kernel
theorem dX10_release_39 : decode cX10_release 39 = .ok (.goto 4, 3) := by decide +kernel
theorem dX10_release_42 : decode cX10_release 42 = .ok (.iconst 0, 1) := by decide +kernel
theorem dX10_release_43 : decode cX10_release 43 = .ok (.putfield 146, 3) := by decide +kernel
theorem dX10_release_46 : decode cX10_release 46 = .ok (.aload_n 0, 1) := by decide +kernel
theorem dX10_release_47 : decode cX10_release 47 = .ok (.getfield 146, 3) := by decide +kernel
theorem dX10_release_50 : decode cX10_release 50 = .ok (.ifCond .ne 25, 3) := by decide +kernel
theorem dX10_release_53 : decode cX10_release 53 = .ok (.aload_n 0, 1) := by decide +kernel
theorem dX10_release_54 : decode cX10_release 54 = .ok (.getfield 20, 3) := by decide +kernel
theorem dX10_release_57 : decode cX10_release 57 = .ok (.iload_n 3, 1) := by decide +kernel
theorem dX10_release_58 : decode cX10_release 58 = .ok (.iconst 0, 1) := by decide +kernel
theorem dX10_release_59 : decode cX10_release 59 = .ok (.iastore, 1) := by decide +kernel
theorem dX10_release_60 : decode cX10_release 60 = .ok (.aload_n 0, 1) := by decide +kernel
theorem dX10_release_61 : decode cX10_release 61 = .ok (.iconst 2, 1) := by decide +kernel
theorem dX10_release_62 : decode cX10_release 62 = .ok (.iload_n 1, 1) := by decide +kernel
theorem dX10_release_63 : decode cX10_release 63 = .ok (.iload_n 2, 1) := by decide +kernel
theorem dX10_release_64 : decode cX10_release 64 = .ok (.aload_n 0, 1) := by decide +kernel
theorem dX10_release_65 : decode cX10_release 65 = .ok (.getfield 23, 3) := by decide +kernel
theorem dX10_release_68 : decode cX10_release 68 = .ok (.iload_n 3, 1) := by decide +kernel
theorem dX10_release_69 : decode cX10_release 69 = .ok (.iaload, 1) := by decide +kernel
theorem dX10_release_70 : decode cX10_release 70 = .ok (.iconst 0, 1) := by decide +kernel
theorem dX10_release_71 : decode cX10_release 71 = .ok (.iconst 0, 1) := by decide +kernel
theorem dX10_release_72 : decode cX10_release 72 = .ok (.invokevirtual 168, 3) := by decide +kernel
theorem dX10_release_75 : decode cX10_release 75 = .ok (.return_, 1) := by decide +kernel
theorem dX10_unit_0 : decode cX10_unit 0 = .ok (.bipush 6, 2) := by decide +kernel
theorem dX10_unit_2 : decode cX10_unit 2 = .ok (.iload_n 1, 1) := by decide +kernel
theorem dX10_unit_3 : decode cX10_unit 3 = .ok (.imul, 1) := by decide +kernel
theorem dX10_unit_4 : decode cX10_unit 4 = .ok (.iload_n 2, 1) := by decide +kernel
theorem dX10_unit_5 : decode cX10_unit 5 = .ok (.iadd, 1) := by decide +kernel
theorem dX10_unit_6 : decode cX10_unit 6 = .ok (.istore 4, 2) := by decide +kernel
theorem dX10_unit_8 : decode cX10_unit 8 = .ok (.aload_n 0, 1) := by decide +kernel
theorem dX10_unit_9 : decode cX10_unit 9 = .ok (.iload_n 1, 1) := by decide +kernel
theorem dX10_unit_10 : decode cX10_unit 10 = .ok (.iload_n 2, 1) := by decide +kernel
theorem dX10_unit_11 : decode cX10_unit 11 = .ok (.invokestatic 160, 3) := by decide +kernel
theorem dX10_unit_14 : decode cX10_unit 14 = .ok (.ifCond .ne 7, 3) := by decide +kernel
theorem dX10_unit_17 : decode cX10_unit 17 = .ok (.iconst 1, 1) := by decide +kernel
theorem dX10_unit_18 : decode cX10_unit 18 = .ok (.goto 45, 3) := by decide +kernel
theorem dX10_unit_21 : decode cX10_unit 21 = .ok (.aload_n 0, 1) := by decide +kernel
theorem dX10_unit_22 : decode cX10_unit 22 = .ok (.getfield 13, 3) := by decide +kernel
theorem dX10_unit_25 : decode cX10_unit 25 = .ok (.iload 4, 2) := by decide +kernel
theorem dX10_unit_27 : decode cX10_unit 27 = .ok (.baload, 1) := by decide +kernel
theorem dX10_unit_28 : decode cX10_unit 28 = .ok (.ifCond .eq 14, 3) := by decide +kernel
theorem dX10_unit_31 : decode cX10_unit 31 = .ok (.aload_n 0, 1) := by decide +kernel
theorem dX10_unit_32 : decode cX10_unit 32 = .ok (.getfield 20, 3) := by decide +kernel
theorem dX10_unit_35 : decode cX10_unit 35 = .ok (.iload 4, 2) := by decide +kernel
theorem dX10_unit_37 : decode cX10_unit 37 = .ok (.iaload, 1) := by decide +kernel
theorem dX10_unit_38 : decode cX10_unit 38 = .ok (.iconst 3, 1) := by decide +kernel
theorem dX10_unit_39 : decode cX10_unit 39 = .ok (.if_icmp .ge 7, 3) := by decide +kernel
theorem dX10_unit_42 : decode cX10_unit 42 = .ok (.iconst 2, 1) := by decide +kernel
theorem dX10_unit_43 : decode cX10_unit 43 = .ok (.goto 20, 3) := by decide +kernel
theorem dX10_unit_46 : decode cX10_unit 46 = .ok (.aload_n 0, 1) := by decide +kernel
theorem dX10_unit_47 : decode cX10_unit 47 = .ok (.getfield 35, 3) := by decide +kernel
theorem dX10_unit_50 : decode cX10_unit 50 = .ok (.iload 4, 2) := by decide +kernel
theorem dX10_unit_52 : decode cX10_unit 52 = .ok (.iaload, 1) := by decide +kernel
theorem dX10_unit_53 : decode cX10_unit 53 = .ok (.bipush 64, 2) := by decide +kernel
theorem dX10_unit_55 : decode cX10_unit 55 = .ok (.if_icmp .ne 7, 3) := by decide +kernel
theorem dX10_unit_58 : decode cX10_unit 58 = .ok (.iconst 3, 1) := by decide +kernel
theorem dX10_unit_59 : decode cX10_unit 59 = .ok (.goto 4, 3) := by decide +kernel
theorem dX10_unit_62 : decode cX10_unit 62 = .ok (.iconst 0, 1) := by decide +kernel
theorem dX10_unit_63 : decode cX10_unit 63 = .ok (.putfield 146, 3) := by decide +kernel
theorem dX10_unit_66 : decode cX10_unit 66 = .ok (.aload_n 0, 1) := by decide +kernel
theorem dX10_unit_67 : decode cX10_unit 67 = .ok (.getfield 146, 3) := by decide +kernel
theorem dX10_unit_70 : decode cX10_unit 70 = .ok (.ifCond .le 5, 3) := by decide +kernel
theorem dX10_unit_73 : decode cX10_unit 73 = .ok (.iconst 0, 1) := by decide +kernel
theorem dX10_unit_74 : decode cX10_unit 74 = .ok (.ireturn, 1) := by decide +kernel
theorem dX10_unit_75 : decode cX10_unit 75 = .ok (.aload_n 0, 1) := by decide +kernel
theorem dX10_unit_76 : decode cX10_unit 76 = .ok (.bipush 11, 2) := by decide +kernel
theorem dX10_unit_78 : decode cX10_unit 78 = .ok (.iload_n 1, 1) := by decide +kernel
theorem dX10_unit_79 : decode cX10_unit 79 = .ok (.iload_n 2, 1) := by decide +kernel
theorem dX10_unit_80 : decode cX10_unit 80 = .ok (.aload_n 0, 1) := by decide +kernel
theorem dX10_unit_81 : decode cX10_unit 81 = .ok (.getfield 32, 3) := by decide +kernel
theorem dX10_unit_84 : decode cX10_unit 84 = .ok (.iload 4, 2) := by decide +kernel
theorem dX10_unit_86 : decode cX10_unit 86 = .ok (.iaload, 1) := by decide +kernel
theorem dX10_unit_87 : decode cX10_unit 87 = .ok (.aload_n 0, 1) := by decide +kernel
theorem dX10_unit_88 : decode cX10_unit 88 = .ok (.getfield 35, 3) := by decide +kernel
theorem dX10_unit_91 : decode cX10_unit 91 = .ok (.iload 4, 2) := by decide +kernel
theorem dX10_unit_93 : decode cX10_unit 93 = .ok (.iaload, 1) := by decide +kernel
theorem dX10_unit_94 : decode cX10_unit 94 = .ok (.iload_n 3, 1) := by decide +kernel
theorem dX10_unit_95 : decode cX10_unit 95 = .ok (.invokevirtual 168, 3) := by decide +kernel
theorem dX10_unit_98 : decode cX10_unit 98 = .ok (.aload_n 0, 1) := by decide +kernel
theorem dX10_unit_99 : decode cX10_unit 99 = .ok (.getfield 35, 3) := by decide +kernel
theorem dX10_unit_102 : decode cX10_unit 102 = .ok (.iload 4, 2) := by decide +kernel
theorem dX10_unit_104 : decode cX10_unit 104 = .ok (.dup2, 1) := by decide +kernel
theorem dX10_unit_105 : decode cX10_unit 105 = .ok (.iaload, 1) := by decide +kernel
theorem dX10_unit_106 : decode cX10_unit 106 = .ok (.iconst 1, 1) := by decide +kernel
theorem dX10_unit_107 : decode cX10_unit 107 = .ok (.iadd, 1) := by decide +kernel
theorem dX10_unit_108 : decode cX10_unit 108 = .ok (.iastore, 1) := by decide +kernel
theorem dX10_unit_109 : decode cX10_unit 109 = .ok (.aload_n 0, 1) := by decide +kernel
theorem dX10_unit_110 : decode cX10_unit 110 = .ok (.getfield 35, 3) := by decide +kernel
theorem dX10_unit_113 : decode cX10_unit 113 = .ok (.iload 4, 2) := by decide +kernel
theorem dX10_unit_115 : decode cX10_unit 115 = .ok (.iaload, 1) := by decide +kernel
theorem dX10_unit_116 : decode cX10_unit 116 = .ok (.iconst 1, 1) := by decide +kernel
theorem dX10_unit_117 : decode cX10_unit 117 = .ok (.isub, 1) := by decide +kernel
theorem dX10_unit_118 : decode cX10_unit 118 = .ok (.ireturn, 1) := by decide +kernel
theorem dX10_memberHears_0 : decode cX10_memberHears 0 = .ok (.bipush 6, 2) := by decide +kernel
theorem dX10_memberHears_2 : decode cX10_memberHears 2 = .ok (.iload_n 2, 1) := by decide +kernel
theorem dX10_memberHears_3 : decode cX10_memberHears 3 = .ok (.imul, 1) := by decide +kernel
theorem dX10_memberHears_4 : decode cX10_memberHears 4 = .ok (.iload_n 3, 1) := by decide +kernel
theorem dX10_memberHears_5 : decode cX10_memberHears 5 = .ok (.iadd, 1) := by decide +kernel
theorem dX10_memberHears_6 : decode cX10_memberHears 6 = .ok (.istore 7, 2) := by decide +kernel
theorem dX10_memberHears_8 : decode cX10_memberHears 8 = .ok (.aload_n 0, 1) := by decide +kernel
theorem dX10_memberHears_9 : decode cX10_memberHears 9 = .ok (.getfield 13, 3) := by decide +kernel
theorem dX10_memberHears_12 : decode cX10_memberHears 12 = .ok (.iload 7, 2) := by decide +kernel
theorem dX10_memberHears_14 : decode cX10_memberHears 14 = .ok (.baload, 1) := by decide +kernel
theorem dX10_memberHears_15 : decode cX10_memberHears 15 = .ok (.ifCond .ne 4, 3) := by decide +kernel
theorem dX10_memberHears_18 : decode cX10_memberHears 18 = .ok (.return_, 1) := by decide +kernel
theorem dX10_memberHears_19 : decode cX10_memberHears 19 = .ok (.aload_n 0, 1) := by decide +kernel
theorem dX10_memberHears_20 : decode cX10_memberHears 20 = .ok (.getfield 20, 3) := by decide +kernel
theorem dX10_memberHears_23 : decode cX10_memberHears 23 = .ok (.iload 7, 2) := by decide +kernel
theorem dX10_memberHears_25 : decode cX10_memberHears 25 = .ok (.iaload, 1) := by decide +kernel
theorem dX10_memberHears_26 : decode cX10_memberHears 26 = .ok (.iconst 1, 1) := by decide +kernel
theorem dX10_memberHears_27 : decode cX10_memberHears 27 = .ok (.iconst 2, 1) := by decide +kernel
theorem dX10_memberHears_28 : decode cX10_memberHears 28 = .ok (.invokestatic 150, 3) := by decide +kernel
theorem dX10_memberHears_31 : decode cX10_memberHears 31 = .ok (.ifCond .eq 19, 3) := by decide +kernel
theorem dX10_memberHears_34 : decode cX10_memberHears 34 = .ok (.iload 4, 2) := by decide +kernel
theorem dX10_memberHears_36 : decode cX10_memberHears 36 = .ok (.aload_n 0, 1) := by decide +kernel
theorem dX10_memberHears_37 : decode cX10_memberHears 37 = .ok (.getfield 23, 3) := by decide +kernel
theorem dX10_memberHears_40 : decode cX10_memberHears 40 = .ok (.iload 7, 2) := by decide +kernel
theorem dX10_memberHears_42 : decode cX10_memberHears 42 = .ok (.iaload, 1) := by decide +kernel
theorem dX10_memberHears_43 : decode cX10_memberHears 43 = .ok (.if_icmp .ne 7, 3) := by decide +kernel
theorem dX10_memberHears_46 : decode cX10_memberHears 46 = .ok (.iconst 1, 1) := by decide +kernel
theorem dX10_memberHears_47 : decode cX10_memberHears 47 = .ok (.goto 4, 3) := by decide +kernel
theorem dX10_memberHears_50 : decode cX10_memberHears 50 = .ok (.iconst 0, 1) := by decide +kernel
theorem dX10_memberHears_51 : decode cX10_memberHears 51 = .ok (.istore 8, 2) := by decide +kernel
theorem dX10_memberHears_53 : decode cX10_memberHears 53 = .ok (.aload_n 0, 1) := by decide +kernel
theorem dX10_memberHears_54 : decode cX10_memberHears 54 = .ok (.getfield 20, 3) := by decide +kernel
theorem dX10_memberHears_57 : decode cX10_memberHears 57 = .ok (.iload 7, 2) := by decide +kernel
theorem dX10_memberHears_59 : decode cX10_memberHears 59 = .ok (.iaload, 1) := by decide +kernel
theorem dX10_memberHears_60 : decode cX10_memberHears 60 = .ok (.iconst 3, 1) := by decide +kernel
theorem dX10_memberHears_61 : decode cX10_memberHears 61 = .ok (.if_icmp .ne 19, 3) := by decide +kernel
theorem dX10_memberHears_64 : decode cX10_memberHears 64 = .ok (.iload 4, 2) := by decide +kernel
theorem dX10_memberHears_66 : decode cX10_memberHears 66 = .ok (.aload_n 0, 1) := by decide +kernel
theorem dX10_memberHears_67 : decode cX10_memberHears 67 = .ok (.getfield 32, 3) := by decide +kernel
theorem dX10_memberHears_70 : decode cX10_memberHears 70 = .ok (.iload 7, 2) := by decide +kernel
theorem dX10_memberHears_72 : decode cX10_memberHears 72 = .ok (.iaload, 1) := by decide +kernel
theorem dX10_memberHears_73 : decode cX10_memberHears 73 = .ok (.if_icmp .ne 7, 3) := by decide +kernel
theorem dX10_memberHears_76 : decode cX10_memberHears 76 = .ok (.iconst 1, 1) := by decide +kernel
theorem dX10_memberHears_77 : decode cX10_memberHears 77 = .ok (.goto 4, 3) := by decide +kernel
theorem dX10_memberHears_80 : decode cX10_memberHears 80 = .ok (.iconst 0, 1) := by decide +kernel
theorem dX10_memberHears_81 : decode cX10_memberHears 81 = .ok (.istore 9, 2) := by decide +kernel
theorem dX10_memberHears_83 : decode cX10_memberHears 83 = .ok (.aload_n 0, 1) := by decide +kernel
theorem dX10_memberHears_84 : decode cX10_memberHears 84 = .ok (.getfield 20, 3) := by decide +kernel
theorem dX10_memberHears_87 : decode cX10_memberHears 87 = .ok (.iload 7, 2) := by decide +kernel
theorem dX10_memberHears_89 : decode cX10_memberHears 89 = .ok (.iaload, 1) := by decide +kernel
theorem dX10_memberHears_90 : decode cX10_memberHears 90 = .ok (.iconst 4, 1) := by decide +kernel
theorem dX10_memberHears_91 : decode cX10_memberHears 91 = .ok (.if_icmp .ne 19, 3) := by decide +kernel
theorem dX10_memberHears_94 : decode cX10_memberHears 94 = .ok (.iload 4, 2) := by decide +kernel
theorem dX10_memberHears_96 : decode cX10_memberHears 96 = .ok (.aload_n 0, 1) := by decide +kernel
theorem dX10_memberHears_97 : decode cX10_memberHears 97 = .ok (.getfield 32, 3) := by decide +kernel
theorem dX10_memberHears_100 : decode cX10_memberHears 100 = .ok (.iload 7, 2) := by decide +kernel
theorem dX10_memberHears_102 : decode cX10_memberHears 102 = .ok (.iaload, 1) := by decide +kernel
theorem dX10_memberHears_103 : decode cX10_memberHears 103 = .ok (.if_icmp .ne 7, 3) := by decide +kernel
theorem dX10_memberHears_106 : decode cX10_memberHears 106 = .ok (.iconst 1, 1) := by decide +kernel
theorem dX10_memberHears_107 : decode cX10_memberHears 107 = .ok (.goto 4, 3) := by decide +kernel
theorem dX10_memberHears_110 : decode cX10_memberHears 110 = .ok (.iconst 0, 1) := by decide +kernel
theorem dX10_memberHears_111 : decode cX10_memberHears 111 = .ok (.istore 10, 2) := by decide +kernel
theorem dX10_memberHears_113 : decode cX10_memberHears 113 = .ok (.iload_n 1, 1) := by decide +kernel
theorem dX10_memberHears_114 : decode cX10_memberHears 114 = .ok (.iconst 3, 1) := by decide +kernel
theorem dX10_memberHears_115 : decode cX10_memberHears 115 = .ok (.if_icmp .ne 36, 3) := by decide +kernel
theorem dX10_memberHears_118 : decode cX10_memberHears 118 = .ok (.iload 8, 2) := by decide +kernel
theorem dX10_memberHears_120 : decode cX10_memberHears 120 = .ok (.ifCond .eq 31, 3) := by decide +kernel
theorem dX10_memberHears_123 : decode cX10_memberHears 123 = .ok (.aload_n 0, 1) := by decide +kernel
theorem dX10_memberHears_124 : decode cX10_memberHears 124 = .ok (.getfield 20, 3) := by decide +kernel
theorem dX10_memberHears_127 : decode cX10_memberHears 127 = .ok (.iload 7, 2) := by decide +kernel
theorem dX10_memberHears_129 : decode cX10_memberHears 129 = .ok (.iconst 3, 1) := by decide +kernel
theorem dX10_memberHears_130 : decode cX10_memberHears 130 = .ok (.iastore, 1) := by decide +kernel
theorem dX10_memberHears_131 : decode cX10_memberHears 131 = .ok (.aload_n 0, 1) := by decide +kernel
theorem dX10_memberHears_132 : decode cX10_memberHears 132 = .ok (.getfield 32, 3) := by decide +kernel
theorem dX10_memberHears_135 : decode cX10_memberHears 135 = .ok (.iload 7, 2) := by decide +kernel
theorem dX10_memberHears_137 : decode cX10_memberHears 137 = .ok (.iload 5, 2) := by decide +kernel
theorem dX10_memberHears_139 : decode cX10_memberHears 139 = .ok (.iastore, 1) := by decide +kernel
theorem dX10_memberHears_140 : decode cX10_memberHears 140 = .ok (.aload_n 0, 1) := by decide +kernel
theorem dX10_memberHears_141 : decode cX10_memberHears 141 = .ok (.getfield 35, 3) := by decide +kernel
theorem dX10_memberHears_144 : decode cX10_memberHears 144 = .ok (.iload 7, 2) := by decide +kernel
theorem dX10_memberHears_146 : decode cX10_memberHears 146 = .ok (.iconst 0, 1) := by decide +kernel
theorem dX10_memberHears_147 : decode cX10_memberHears 147 = .ok (.iastore, 1) := by decide +kernel
theorem dX10_memberHears_148 : decode cX10_memberHears 148 = .ok (.goto 160, 3) := by decide +kernel
theorem dX10_memberHears_151 : decode cX10_memberHears 151 = .ok (.iload_n 1, 1) := by decide +kernel
theorem dX10_memberHears_152 : decode cX10_memberHears 152 = .ok (.iconst 4, 1) := by decide +kernel
theorem dX10_memberHears_153 : decode cX10_memberHears 153 = .ok (.if_icmp .ne 28, 3) := by decide +kernel
theorem dX10_memberHears_156 : decode cX10_memberHears 156 = .ok (.iload 8, 2) := by decide +kernel
theorem dX10_memberHears_158 : decode cX10_memberHears 158 = .ok (.ifCond .eq 23, 3) := by decide +kernel
theorem dX10_memberHears_161 : decode cX10_memberHears 161 = .ok (.aload_n 0, 1) := by decide +kernel
theorem dX10_memberHears_162 : decode cX10_memberHears 162 = .ok (.getfield 20, 3) := by decide +kernel
theorem dX10_memberHears_165 : decode cX10_memberHears 165 = .ok (.iload 7, 2) := by decide +kernel
theorem dX10_memberHears_167 : decode cX10_memberHears 167 = .ok (.iconst 2, 1) := by decide +kernel
theorem dX10_memberHears_168 : decode cX10_memberHears 168 = .ok (.iastore, 1) := by decide +kernel
theorem dX10_memberHears_169 : decode cX10_memberHears 169 = .ok (.aload_n 0, 1) := by decide +kernel
theorem dX10_memberHears_170 : decode cX10_memberHears 170 = .ok (.getfield 29, 3) := by decide +kernel
theorem dX10_memberHears_173 : decode cX10_memberHears 173 = .ok (.iload 7, 2) := by decide +kernel
theorem dX10_memberHears_175 : decode cX10_memberHears 175 = .ok (.iload 5, 2) := by decide +kernel
theorem dX10_memberHears_177 : decode cX10_memberHears 177 = .ok (.iastore, 1) := by decide +kernel
theorem dX10_memberHears_178 : decode cX10_memberHears 178 = .ok (.goto 130, 3) := by decide +kernel
theorem dX10_memberHears_181 : decode cX10_memberHears 181 = .ok (.iload_n 1, 1) := by decide +kernel
theorem dX10_memberHears_182 : decode cX10_memberHears 182 = .ok (.iconst 5, 1) := by decide +kernel
theorem dX10_memberHears_183 : decode cX10_memberHears 183 = .ok (.if_icmp .ne 19, 3) := by decide +kernel
theorem dX10_memberHears_186 : decode cX10_memberHears 186 = .ok (.iload 8, 2) := by decide +kernel
theorem dX10_memberHears_188 : decode cX10_memberHears 188 = .ok (.ifCond .eq 14, 3) := by decide +kernel
theorem dX10_memberHears_191 : decode cX10_memberHears 191 = .ok (.aload_n 0, 1) := by decide +kernel
theorem dX10_memberHears_192 : decode cX10_memberHears 192 = .ok (.getfield 20, 3) := by decide +kernel
theorem dX10_memberHears_195 : decode cX10_memberHears 195 = .ok (.iload 7, 2) := by decide +kernel
theorem dX10_memberHears_197 : decode cX10_memberHears 197 = .ok (.iconst 0, 1) := by decide +kernel
theorem dX10_memberHears_198 : decode cX10_memberHears 198 = .ok (.iastore, 1) := by decide +kernel
theorem dX10_memberHears_199 : decode cX10_memberHears 199 = .ok (.goto 109, 3) := by decide +kernel
theorem dX10_memberHears_202 : decode cX10_memberHears 202 = .ok (.iload_n 1, 1) := by decide +kernel
theorem dX10_memberHears_203 : decode cX10_memberHears 203 = .ok (.bipush 6, 2) := by decide +kernel
theorem dX10_memberHears_205 : decode cX10_memberHears 205 = .ok (.if_icmp .ne 19, 3) := by decide +kernel
theorem dX10_memberHears_208 : decode cX10_memberHears 208 = .ok (.iload 9, 2) := by decide +kernel
theorem dX10_memberHears_210 : decode cX10_memberHears 210 = .ok (.ifCond .eq 14, 3) := by decide +kernel
theorem dX10_memberHears_213 : decode cX10_memberHears 213 = .ok (.aload_n 0, 1) := by decide +kernel
theorem dX10_memberHears_214 : decode cX10_memberHears 214 = .ok (.getfield 20, 3) := by decide +kernel
theorem dX10_memberHears_217 : decode cX10_memberHears 217 = .ok (.iload 7, 2) := by decide +kernel
theorem dX10_memberHears_219 : decode cX10_memberHears 219 = .ok (.iconst 4, 1) := by decide +kernel
theorem dX10_memberHears_220 : decode cX10_memberHears 220 = .ok (.iastore, 1) := by decide +kernel
theorem dX10_memberHears_221 : decode cX10_memberHears 221 = .ok (.goto 87, 3) := by decide +kernel
theorem dX10_memberHears_224 : decode cX10_memberHears 224 = .ok (.iload_n 1, 1) := by decide +kernel
theorem dX10_memberHears_225 : decode cX10_memberHears 225 = .ok (.bipush 7, 2) := by decide +kernel
theorem dX10_memberHears_227 : decode cX10_memberHears 227 = .ok (.if_icmp .ne 24, 3) := by decide +kernel
theorem dX10_memberHears_230 : decode cX10_memberHears 230 = .ok (.iload 9, 2) := by decide +kernel
theorem dX10_memberHears_232 : decode cX10_memberHears 232 = .ok (.ifCond .ne 8, 3) := by decide +kernel
theorem dX10_memberHears_235 : decode cX10_memberHears 235 = .ok (.iload 10, 2) := by decide +kernel
theorem dX10_memberHears_237 : decode cX10_memberHears 237 = .ok (.ifCond .eq 14, 3) := by decide +kernel
theorem dX10_memberHears_240 : decode cX10_memberHears 240 = .ok (.aload_n 0, 1) := by decide +kernel
theorem dX10_memberHears_241 : decode cX10_memberHears 241 = .ok (.getfield 20, 3) := by decide +kernel
theorem dX10_memberHears_244 : decode cX10_memberHears 244 = .ok (.iload 7, 2) := by decide +kernel
theorem dX10_memberHears_246 : decode cX10_memberHears 246 = .ok (.iconst 0, 1) := by decide +kernel
theorem dX10_memberHears_247 : decode cX10_memberHears 247 = .ok (.iastore, 1) := by decide +kernel
theorem dX10_memberHears_248 : decode cX10_memberHears 248 = .ok (.goto 60, 3) := by decide +kernel
theorem dX10_memberHears_251 : decode cX10_memberHears 251 = .ok (.iload_n 1, 1) := by decide +kernel
theorem dX10_memberHears_252 : decode cX10_memberHears 252 = .ok (.bipush 8, 2) := by decide +kernel
theorem dX10_memberHears_254 : decode cX10_memberHears 254 = .ok (.if_icmp .ne 36, 3) := by decide +kernel
theorem dX10_memberHears_257 : decode cX10_memberHears 257 = .ok (.iload 4, 2) := by decide +kernel
theorem dX10_memberHears_259 : decode cX10_memberHears 259 = .ok (.aload_n 0, 1) := by decide +kernel
theorem dX10_memberHears_260 : decode cX10_memberHears 260 = .ok (.getfield 38, 3) := by decide +kernel
theorem dX10_memberHears_263 : decode cX10_memberHears 263 = .ok (.iload 7, 2) := by decide +kernel
theorem dX10_memberHears_265 : decode cX10_memberHears 265 = .ok (.iaload, 1) := by decide +kernel
theorem dX10_memberHears_266 : decode cX10_memberHears 266 = .ok (.if_icmp .lt 24, 3) := by decide +kernel
theorem dX10_memberHears_269 : decode cX10_memberHears 269 = .ok (.aload_n 0, 1) := by decide +kernel
theorem dX10_memberHears_270 : decode cX10_memberHears 270 = .ok (.getfield 38, 3) := by decide +kernel
theorem dX10_memberHears_273 : decode cX10_memberHears 273 = .ok (.iload 7, 2) := by decide +kernel
theorem dX10_memberHears_275 : decode cX10_memberHears 275 = .ok (.iload 4, 2) := by decide +kernel
theorem dX10_memberHears_277 : decode cX10_memberHears 277 = .ok (.iastore, 1) := by decide +kernel
theorem dX10_memberHears_278 : decode cX10_memberHears 278 = .ok (.aload_n 0, 1) := by decide +kernel
theorem dX10_memberHears_279 : decode cX10_memberHears 279 = .ok (.getfield 41, 3) := by decide +kernel
theorem dX10_memberHears_282 : decode cX10_memberHears 282 = .ok (.iload 7, 2) := by decide +kernel
theorem dX10_memberHears_284 : decode cX10_memberHears 284 = .ok (.iload 5, 2) := by decide +kernel
theorem dX10_memberHears_286 : decode cX10_memberHears 286 = .ok (.iastore, 1) := by decide +kernel
theorem dX10_memberHears_287 : decode cX10_memberHears 287 = .ok (.goto 21, 3) := by decide +kernel
theorem dX10_memberHears_290 : decode cX10_memberHears 290 = .ok (.iload_n 1, 1) := by decide +kernel
theorem dX10_memberHears_291 : decode cX10_memberHears 291 = .ok (.bipush 9, 2) := by decide +kernel
theorem dX10_memberHears_293 : decode cX10_memberHears 293 = .ok (.if_icmp .ne 15, 3) := by decide +kernel
theorem dX10_memberHears_296 : decode cX10_memberHears 296 = .ok (.aload_n 0, 1) := by decide +kernel
theorem dX10_memberHears_297 : decode cX10_memberHears 297 = .ok (.iload 7, 2) := by decide +kernel
theorem dX10_memberHears_299 : decode cX10_memberHears 299 = .ok (.iload 4, 2) := by decide +kernel
theorem dX10_memberHears_301 : decode cX10_memberHears 301 = .ok (.iload 5, 2) := by decide +kernel
theorem dX10_memberHears_303 : decode cX10_memberHears 303 = .ok (.iload 6, 2) := by decide +kernel
theorem dX10_memberHears_305 : decode cX10_memberHears 305 = .ok (.invokevirtual 175, 3) := by decide +kernel
theorem dX10_memberHears_308 : decode cX10_memberHears 308 = .ok (.return_, 1) := by decide +kernel
theorem dX10_listen_0 : decode cX10_listen 0 = .ok (.iload_n 2, 1) := by decide +kernel
theorem dX10_listen_1 : decode cX10_listen 1 = .ok (.aload_n 0, 1) := by decide +kernel
theorem dX10_listen_2 : decode cX10_listen 2 = .ok (.getfield 44, 3) := by decide +kernel
theorem dX10_listen_5 : decode cX10_listen 5 = .ok (.iload_n 1, 1) := by decide +kernel
theorem dX10_listen_6 : decode cX10_listen 6 = .ok (.iaload, 1) := by decide +kernel
theorem dX10_listen_7 : decode cX10_listen 7 = .ok (.if_icmp .le 70, 3) := by decide +kernel
theorem dX10_listen_10 : decode cX10_listen 10 = .ok (.aload_n 0, 1) := by decide +kernel
theorem dX10_listen_11 : decode cX10_listen 11 = .ok (.getfield 44, 3) := by decide +kernel
theorem dX10_listen_14 : decode cX10_listen 14 = .ok (.iload_n 1, 1) := by decide +kernel
theorem dX10_listen_15 : decode cX10_listen 15 = .ok (.iload_n 2, 1) := by decide +kernel
theorem dX10_listen_16 : decode cX10_listen 16 = .ok (.iastore, 1) := by decide +kernel
theorem dX10_listen_17 : decode cX10_listen 17 = .ok (.aload_n 0, 1) := by decide +kernel
theorem dX10_listen_18 : decode cX10_listen 18 = .ok (.getfield 47, 3) := by decide +kernel
theorem dX10_listen_21 : decode cX10_listen 21 = .ok (.iload_n 1, 1) := by decide +kernel
theorem dX10_listen_22 : decode cX10_listen 22 = .ok (.iconst 1, 1) := by decide +kernel
theorem dX10_listen_23 : decode cX10_listen 23 = .ok (.bastore, 1) := by decide +kernel
theorem dX10_listen_24 : decode cX10_listen 24 = .ok (.aload_n 0, 1) := by decide +kernel
theorem dX10_listen_25 : decode cX10_listen 25 = .ok (.getfield 50, 3) := by decide +kernel
theorem dX10_listen_28 : decode cX10_listen 28 = .ok (.iload_n 1, 1) := by decide +kernel
theorem dX10_listen_29 : decode cX10_listen 29 = .ok (.iload_n 3, 1) := by decide +kernel
theorem dX10_listen_30 : decode cX10_listen 30 = .ok (.iastore, 1) := by decide +kernel
theorem dX10_listen_31 : decode cX10_listen 31 = .ok (.aload_n 0, 1) := by decide +kernel
theorem dX10_listen_32 : decode cX10_listen 32 = .ok (.getfield 53, 3) := by decide +kernel
theorem dX10_listen_35 : decode cX10_listen 35 = .ok (.iload_n 1, 1) := by decide +kernel
theorem dX10_listen_36 : decode cX10_listen 36 = .ok (.aload_n 0, 1) := by decide +kernel
theorem dX10_listen_37 : decode cX10_listen 37 = .ok (.getfield 179, 3) := by decide +kernel
theorem dX10_listen_40 : decode cX10_listen 40 = .ok (.iastore, 1) := by decide +kernel
theorem dX10_listen_41 : decode cX10_listen 41 = .ok (.aload_n 0, 1) := by decide +kernel
theorem dX10_listen_42 : decode cX10_listen 42 = .ok (.getfield 56, 3) := by decide +kernel
theorem dX10_listen_45 : decode cX10_listen 45 = .ok (.iload_n 1, 1) := by decide +kernel
theorem dX10_listen_46 : decode cX10_listen 46 = .ok (.iconst 0, 1) := by decide +kernel
theorem dX10_listen_47 : decode cX10_listen 47 = .ok (.iastore, 1) := by decide +kernel
theorem dX10_listen_48 : decode cX10_listen 48 = .ok (.iconst 0, 1) := by decide +kernel
theorem dX10_listen_49 : decode cX10_listen 49 = .ok (.istore 5, 2) := by decide +kernel
theorem dX10_listen_51 : decode cX10_listen 51 = .ok (.iload 5, 2) := by decide +kernel
